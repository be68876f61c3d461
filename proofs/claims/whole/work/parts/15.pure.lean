/-! the mathematical school keeps its bounds -/
theorem jm_thk_le : ∀ k, k < 7 → ∀ m, m < 10 → ∀ f, f < 10 → ∀ w, w < 10 → jm_thk k m f w ≤ 30 := by decide +kernel
theorem jm_th_le {V : Nat → Nat → Nat} (h : jv_ok V) {p : Nat} (hp : p < V 0 1) : jm_th V p ≤ 30 := by
  obtain ⟨k0, k1, k2, k3, k4, k5, k6, k7, kv, ks, kd⟩ := h
  have := kv p hp
  exact jm_thk_le _ (by omega) _ (by omega) _ (by omega) _ (by omega)
theorem jm_sak_lt {k m w g : Nat} (hw : w < 40) (hg : g < 40) : jm_sak k m w g < 40 := by
  unfold jm_sak
  split
  · exact hw
  · omega
  · exact hg
theorem jm_sa_lt {V : Nat → Nat → Nat} {G : jm_G} (hG : jm_Gok G) {p w : Nat} (hw : w < 40) : jm_sa V G p w < 40 := by
  unfold jm_sa
  obtain ⟨k, hk, e⟩ := hG (nI w) (nI (V 2 p)) (nI (V 3 p)) 0
  rw [e, nI_clamp (by omega)]
  exact jm_sak_lt hw hk
theorem jm_qk_lt {V : Nat → Nat → Nat} {c N : Nat} : ∀ (n p : Nat) (b : Option Nat), p + n ≤ N → (∀ q, b = some q → q < N) → ∀ q, jm_qk V c n p b = some q → q < N
  | 0, p, b, _, hb, q, h => hb q h
  | n + 1, p, b, hp, hb, q, h => by
    refine jm_qk_lt n (p + 1) _ (by omega) (fun q' hq' => ?_) q h
    by_cases hC : (V 3 p = c ∧ jm_qb V p b = true)
    · rw [if_pos hC] at hq'
      cases hq'; omega
    · rw [if_neg hC] at hq'
      exact hb q' hq'
theorem jm_q_lt {V : Nat → Nat → Nat} {c q : Nat} (h : jm_q V c = some q) : q < V 0 1 := jm_qk_lt (N := V 0 1) (V 0 1) 0 none (by omega) (fun q h => by cases h) q h
theorem jv_up_w {V : Nat → Nat → Nat} {w j x w' : Nat} (h : w' ≠ w) : jv_up V w j x w' = V w' := by
  unfold jv_up va_up
  rw [if_neg h]
theorem jv_up_s {V : Nat → Nat → Nat} {w j x : Nat} : jv_up V w j x w j = x := by simp [jv_up, va_up]
theorem jv_up_n {V : Nat → Nat → Nat} {w j x j' : Nat} (h : j' ≠ j) : jv_up V w j x w j' = V w j' := by simp [jv_up, va_up, h]
theorem jv_ok_due {V : Nat → Nat → Nat} (h : jv_ok V) {q w s : Nat} (h3 : V 0 3 < 12) (hq : q < V 0 1) (hw : w < 40) (hs : s < V 0 2) : jv_ok (jm_due V q w s) := by
  have ht := jm_th_le h hq
  obtain ⟨k0, k1, k2, k3, k4, k5, k6, k7, kv, ks, kd⟩ := h
  refine ⟨k0, k1, k2, by show V 0 3 + 1 ≤ 12; omega, k4, k5, k6, k7, kv, ks, fun k hk => ?_⟩
  have hk' : k < V 0 3 + 1 := hk
  show (if k = V 0 3 then q else V 10 k) < V 0 1 ∧ (if k = V 0 3 then w else V 11 k) < 40 ∧ (if k = V 0 3 then s else V 12 k) < V 0 2 ∧ (if k = V 0 3 then V 0 0 + jm_th V q else V 13 k) ≤ 20100
  by_cases e : k = V 0 3
  · simp only [if_pos e]; exact ⟨hq, hw, hs, by omega⟩
  · simp only [if_neg e]; exact kd k (by omega)
theorem jr_due {V : Nat → Nat → Nat} {I : Nat → Int32} {W : Nat → Nat → Int32} (hr : jr_ V I W) (q w s : Nat) (u : Int32) (hu : u = nI (V 0 0 + jm_th V q)) :
    jr_ (jm_due V q w s) (upd I 4 (nI (V 0 3 + 1))) (va_up (va_up (va_up (va_up W 10 (upd (W 10) (V 0 3) (nI q))) 11 (upd (W 11) (V 0 3) (nI w))) 12 (upd (W 12) (V 0 3) (nI s))) 13 (upd (W 13) (V 0 3) u)) := by
  subst hu
  obtain ⟨r0, r2, r3, r4, a0, a1, a2, rv, rs, rd⟩ := hr
  refine ⟨r0, r2, r3, rfl, a0, a1, a2, rv, rs, fun k hk => ?_⟩
  have hk' : k < V 0 3 + 1 := hk
  show (if k = V 0 3 then nI q else W 10 k) = nI (if k = V 0 3 then q else V 10 k) ∧ (if k = V 0 3 then nI w else W 11 k) = nI (if k = V 0 3 then w else V 11 k) ∧ (if k = V 0 3 then nI s else W 12 k) = nI (if k = V 0 3 then s else V 12 k) ∧ (if k = V 0 3 then nI (V 0 0 + jm_th V q) else W 13 k) = nI (if k = V 0 3 then V 0 0 + jm_th V q else V 13 k)
  by_cases e : k = V 0 3
  · simp only [if_pos e]; exact ⟨trivial, trivial, trivial, trivial⟩
  · simp only [if_neg e]; exact rd k (by omega)
theorem jv_ok_sh {V : Nat → Nat → Nat} (h : jv_ok V) {b w t : Nat} (h2 : V 0 2 < 40) (hb : b < V 0 1) (hw : w < 40) (ht : t ≤ V 0 2) : jv_ok (jm_sh V b w t) := by
  obtain ⟨k0, k1, k2, k3, k4, k5, k6, k7, kv, ks, kd⟩ := h
  have hv := kv b hb
  refine ⟨k0, k1, by show V 0 2 + 1 ≤ 40; omega, k3, k4, k5, k6, k7, kv, fun s hs => ?_, fun k hk => ?_⟩
  · have hs' : s < V 0 2 + 1 := hs
    show (if s = V 0 2 then V 0 0 else V 4 s) ≤ 20000 ∧ (if s = V 0 2 then b else V 5 s) < V 0 1 ∧ (if s = V 0 2 then V 3 b else V 6 s) < 2 ∧ (if s = V 0 2 then w else V 7 s) < 40 ∧ (if s = V 0 2 then t else V 8 s) ≤ s ∧ (if s = V 0 2 then V 0 0 + (V 0 4 + V 0 5) else V 9 s) ≤ 20100
    by_cases e : s = V 0 2
    · simp only [if_pos e]; exact ⟨k0, hb, by omega, hw, by omega, by omega⟩
    · simp only [if_neg e]; exact ks s (by omega)
  · have := kd k hk
    exact ⟨this.1, this.2.1, Nat.lt_of_lt_of_le this.2.2.1 (Nat.le_succ _), this.2.2.2⟩
theorem jr_sh {V : Nat → Nat → Nat} {I : Nat → Int32} {W : Nat → Nat → Int32} (hr : jr_ V I W) (b w t : Nat) :
    jr_ (jm_sh V b w t) (upd I 3 (nI (V 0 2 + 1))) (va_up (va_up (va_up (va_up (va_up (va_up W 4 (upd (W 4) (V 0 2) (nI (V 0 0)))) 5 (upd (W 5) (V 0 2) (nI b))) 6 (upd (W 6) (V 0 2) (nI (V 3 b)))) 7 (upd (W 7) (V 0 2) (nI w))) 8 (upd (W 8) (V 0 2) (nI t - 1))) 9 (upd (W 9) (V 0 2) (nI (V 0 0 + (V 0 4 + V 0 5))))) := by
  obtain ⟨r0, r2, r3, r4, a0, a1, a2, rv, rs, rd⟩ := hr
  refine ⟨r0, r2, rfl, r4, a0, a1, a2, rv, fun s hs => ?_, rd⟩
  have hs' : s < V 0 2 + 1 := hs
  show (if s = V 0 2 then nI (V 0 0) else W 4 s) = nI (if s = V 0 2 then V 0 0 else V 4 s) ∧ (if s = V 0 2 then nI b else W 5 s) = nI (if s = V 0 2 then b else V 5 s) ∧ (if s = V 0 2 then nI (V 3 b) else W 6 s) = nI (if s = V 0 2 then V 3 b else V 6 s) ∧ (if s = V 0 2 then nI w else W 7 s) = nI (if s = V 0 2 then w else V 7 s) ∧ (if s = V 0 2 then nI t - 1 else W 8 s) = nI (if s = V 0 2 then t else V 8 s) - 1 ∧ (if s = V 0 2 then nI (V 0 0 + (V 0 4 + V 0 5)) else W 9 s) = nI (if s = V 0 2 then V 0 0 + (V 0 4 + V 0 5) else V 9 s)
  by_cases e : s = V 0 2
  · simp only [if_pos e]; exact ⟨trivial, trivial, trivial, trivial, trivial, trivial⟩
  · simp only [if_neg e]; exact rs s (by omega)
theorem jv_ok_as {V : Nat → Nat → Nat} (h : jv_ok V) {b w t : Nat} (hb : b < V 0 1) (hw : w < 40) (ht : t ≤ V 0 2) : jv_ok (jm_as V b w t) := by
  unfold jm_as
  split
  · exact jv_ok_sh h (by assumption) hb hw ht
  · exact h
theorem jm_as_0 (V : Nat → Nat → Nat) (b w t k : Nat) (hk : k ≠ 2) : jm_as V b w t 0 k = V 0 k := by
  unfold jm_as
  split
  · show (if k = 2 then _ else _) = _
    rw [if_neg hk]; rfl
  · rfl
theorem jm_as_ge (V : Nat → Nat → Nat) (b w t : Nat) : V 0 2 ≤ jm_as V b w t 0 2 := by
  unfold jm_as
  split
  · exact Nat.le_succ _
  · exact Nat.le_refl _
theorem jm_as_d (V : Nat → Nat → Nat) (b w t : Nat) {r : Nat} (hr : 10 ≤ r) : jm_as V b w t r = V r := by
  unfold jm_as
  split
  · unfold jm_sh
    rw [jv_up_w (by omega), jv_up_w (by omega), jv_up_w (by omega), jv_up_w (by omega), jv_up_w (by omega), jv_up_w (by omega), jv_up_w (by omega)]
  · rfl
theorem jv_ok_mv {V : Nat → Nat → Nat} (h : jv_ok V) {l i : Nat} (hi : i < V 0 3) : jv_ok (jm_mv V l i) := by
  obtain ⟨k0, k1, k2, k3, k4, k5, k6, k7, kv, ks, kd⟩ := h
  refine ⟨k0, k1, k2, k3, k4, k5, k6, k7, kv, ks, fun k hk => ?_⟩
  have hk' : k < V 0 3 := hk
  show (if k = l then V 10 i else V 10 k) < V 0 1 ∧ (if k = l then V 11 i else V 11 k) < 40 ∧ (if k = l then V 12 i else V 12 k) < V 0 2 ∧ (if k = l then V 13 i else V 13 k) ≤ 20100
  by_cases e : k = l
  · simp only [if_pos e]; exact kd i hi
  · simp only [if_neg e]; exact kd k hk'
theorem jr_mv {V : Nat → Nat → Nat} {I : Nat → Int32} {W : Nat → Nat → Int32} (hr : jr_ V I W) {l i : Nat} :
    jr_ (jm_mv V l i) I (va_up (va_up (va_up (va_up W 10 (upd (W 10) l (nI (V 10 i)))) 11 (upd (W 11) l (nI (V 11 i)))) 12 (upd (W 12) l (nI (V 12 i)))) 13 (upd (W 13) l (nI (V 13 i)))) := by
  obtain ⟨r0, r2, r3, r4, a0, a1, a2, rv, rs, rd⟩ := hr
  refine ⟨r0, r2, r3, r4, a0, a1, a2, rv, rs, fun k hk => ?_⟩
  have hk' : k < V 0 3 := hk
  show (if k = l then nI (V 10 i) else W 10 k) = nI (if k = l then V 10 i else V 10 k) ∧ (if k = l then nI (V 11 i) else W 11 k) = nI (if k = l then V 11 i else V 11 k) ∧ (if k = l then nI (V 12 i) else W 12 k) = nI (if k = l then V 12 i else V 12 k) ∧ (if k = l then nI (V 13 i) else W 13 k) = nI (if k = l then V 13 i else V 13 k)
  by_cases e : k = l
  · simp only [if_pos e]; exact ⟨trivial, trivial, trivial, trivial⟩
  · simp only [if_neg e]; exact rd k hk'
/-- fewer are due -/
theorem jv_ok_nd {V : Nat → Nat → Nat} (h : jv_ok V) {l : Nat} (hl : l ≤ V 0 3) : jv_ok (jv_up V 0 3 l) := by
  obtain ⟨k0, k1, k2, k3, k4, k5, k6, k7, kv, ks, kd⟩ := h
  exact ⟨k0, k1, k2, by show l ≤ 12; omega, k4, k5, k6, k7, kv, ks, fun k hk => kd k (Nat.lt_of_lt_of_le hk hl)⟩
theorem jr_nd {V : Nat → Nat → Nat} {I : Nat → Int32} {W : Nat → Nat → Int32} (hr : jr_ V I W) {l : Nat} (hl : l ≤ V 0 3) : jr_ (jv_up V 0 3 l) (upd I 4 (nI l)) W := by
  obtain ⟨r0, r2, r3, r4, a0, a1, a2, rv, rs, rd⟩ := hr
  exact ⟨r0, r2, r3, rfl, a0, a1, a2, rv, rs, fun k hk => rd k (Nat.lt_of_lt_of_le hk hl)⟩
theorem jv_ok_sec {V : Nat → Nat → Nat} (h : jv_ok V) {x : Nat} (hx : x ≤ 20000) : jv_ok (jv_up V 0 0 x) := by
  obtain ⟨k0, k1, k2, k3, k4, k5, k6, k7, kv, ks, kd⟩ := h
  exact ⟨hx, k1, k2, k3, k4, k5, k6, k7, kv, ks, kd⟩
theorem jr_sec {V : Nat → Nat → Nat} {I : Nat → Int32} {W : Nat → Nat → Int32} (hr : jr_ V I W) (x : Nat) : jr_ (jv_up V 0 0 x) (upd I 0 (nI x)) W := by
  obtain ⟨r0, r2, r3, r4, a0, a1, a2, rv, rs, rd⟩ := hr
  exact ⟨rfl, r2, r3, r4, a0, a1, a2, rv, rs, rd⟩
/-- the numbers of row 0 but how many are due -/
def jv_s (V V' : Nat → Nat → Nat) : Prop := V' 0 0 = V 0 0 ∧ V' 0 1 = V 0 1 ∧ V' 0 2 = V 0 2 ∧ V' 0 4 = V 0 4 ∧ V' 0 5 = V 0 5 ∧ V' 0 6 = V 0 6
theorem jv_co {V : Nat → Nat → Nat} (h : jv_ok V) {G : jm_G} (hG : jm_Gok G) (lo : Bool) (z : Int32) {s : Nat} (hs : s < V 0 2) : jv_ok (jm_co G lo s (V, z)).1 ∧ jv_s V (jm_co G lo s (V, z)).1 ∧ ∀ r, r < 10 → r ≠ 0 → (jm_co G lo s (V, z)).1 r = V r := by
  have h' := h
  obtain ⟨k0, k1, k2, k3, k4, k5, k6, k7, kv, ks, kd⟩ := h'
  have hks := ks s hs
  have e : (jm_co G lo s (V, z)).1 = if jm_hd lo (if lo then jm_dr z else z) (jm_ca V G (V 5 s) (V 7 s)) = true ∧ V 7 s % 2 = 0 ∧ V 0 3 < 12 then (match jm_q V (1 - V 6 s) with | none => V | some q => jm_due V q (jm_sa V G q (V 7 s)) s) else V := rfl
  rw [e]
  by_cases hc : jm_hd lo (if lo then jm_dr z else z) (jm_ca V G (V 5 s) (V 7 s)) = true ∧ V 7 s % 2 = 0 ∧ V 0 3 < 12
  · rw [if_pos hc]
    cases hq : jm_q V (1 - V 6 s) with
    | none => exact ⟨h, ⟨rfl, rfl, rfl, rfl, rfl, rfl⟩, fun r _ _ => rfl⟩
    | some q =>
      refine ⟨jv_ok_due h hc.2.2 (jm_q_lt hq) (jm_sa_lt hG (by omega)) hs, ⟨rfl, rfl, rfl, rfl, rfl, rfl⟩, fun r hr h0 => ?_⟩
      show jm_due V q (jm_sa V G q (V 7 s)) s r = V r
      unfold jm_due
      rw [jv_up_w (by omega), jv_up_w (by omega), jv_up_w (by omega), jv_up_w (by omega), jv_up_w (by omega)]
  · rw [if_neg hc]
    exact ⟨h, ⟨rfl, rfl, rfl, rfl, rfl, rfl⟩, fun r _ _ => rfl⟩
theorem jv_cs {G : jm_G} (hG : jm_Gok G) (lo : Bool) : ∀ (n s : Nat) (V : Nat → Nat → Nat) (z : Int32), jv_ok V → s + n ≤ V 0 2 → jv_ok (jm_cs G lo n s (V, z)).1 ∧ jv_s V (jm_cs G lo n s (V, z)).1
  | 0, s, V, z, h, hs => ⟨h, rfl, rfl, rfl, rfl, rfl, rfl⟩
  | n + 1, s, V, z, h, hs => by
    show jv_ok (jm_cs G lo n (s + 1) (if V 9 s = V 0 0 then jm_co G lo s (V, z) else (V, z))).1 ∧ jv_s V (jm_cs G lo n (s + 1) (if V 9 s = V 0 0 then jm_co G lo s (V, z) else (V, z))).1
    split
    · obtain ⟨h1, h2, -⟩ := jv_co h hG lo z (s := s) (by omega)
      obtain ⟨a0, a1, a2, a4, a5, a6⟩ := h2
      obtain ⟨h3, b0, b1, b2, b4, b5, b6⟩ := jv_cs hG lo n (s + 1) (jm_co G lo s (V, z)).1 (jm_co G lo s (V, z)).2 h1 (by omega)
      exact ⟨h3, b0.trans a0, b1.trans a1, b2.trans a2, b4.trans a4, b5.trans a5, b6.trans a6⟩
    · exact jv_cs hG lo n (s + 1) V z h (by omega)
theorem jv_sd : ∀ (n i l : Nat) (V : Nat → Nat → Nat), jv_ok V → i + n = V 0 3 → l ≤ i → jv_ok (jm_sd n i l V).1 ∧ (jm_sd n i l V).2 ≤ V 0 3 ∧ (∀ k, k ≠ 2 → (jm_sd n i l V).1 0 k = V 0 k)
  | 0, i, l, V, h, hi, hl => ⟨h, by show l ≤ V 0 3; omega, fun k _ => rfl⟩
  | n + 1, i, l, V, h, hi, hl => by
    have h' := h
    obtain ⟨k0, k1, k2, k3, k4, k5, k6, k7, kv, ks, kd⟩ := h'
    have hkd := kd i (by omega)
    unfold jm_sd
    split
    · have e : ∀ k, k ≠ 2 → jm_as V (V 10 i) (V 11 i) (V 12 i + 1) 0 k = V 0 k := fun k hk => jm_as_0 V _ _ _ k hk
      obtain ⟨h1, h2, h3⟩ := jv_sd n (i + 1) l (jm_as V (V 10 i) (V 11 i) (V 12 i + 1)) (jv_ok_as h hkd.1 hkd.2.1 (by omega)) (by rw [e 3 (by decide)]; omega) (by omega)
      exact ⟨h1, by rw [e 3 (by decide)] at h2; exact h2, fun k hk => (h3 k hk).trans (e k hk)⟩
    · exact jv_sd n (i + 1) (l + 1) (jm_mv V l i) (jv_ok_mv h (by omega)) (by show i + 1 + n = V 0 3; omega) (by omega)
theorem jv_du {V : Nat → Nat → Nat} (h : jv_ok V) : jv_ok (jm_du V) ∧ ∀ k, k ≠ 2 → k ≠ 3 → jm_du V 0 k = V 0 k := by
  obtain ⟨h1, h2, h3⟩ := jv_sd (V 0 3) 0 0 V h (by omega) (by omega)
  refine ⟨jv_ok_nd h1 (by rw [h3 3 (by decide)]; exact h2), fun k hk hk3 => ?_⟩
  unfold jm_du
  rw [jv_up_n hk3]
  exact h3 k hk
theorem jv_se {V : Nat → Nat → Nat} (h : jv_ok V) {G : jm_G} (hG : jm_Gok G) (lo : Bool) (z : Int32) (hs : V 0 0 + 1 ≤ 20000) : jv_ok (jm_se G lo (V, z)).1 ∧ (jm_se G lo (V, z)).1 0 0 = V 0 0 + 1 ∧ ∀ k, k ≠ 0 → k ≠ 2 → k ≠ 3 → k < 7 → (jm_se G lo (V, z)).1 0 k = V 0 k := by
  obtain ⟨h1, h2⟩ := jv_cs hG lo (V 0 2) 0 V z h (by omega)
  obtain ⟨h3, h4⟩ := jv_du h1
  obtain ⟨a0, a1, a2, a4, a5, a6⟩ := h2
  have e0 : jm_du (jm_cs G lo (V 0 2) 0 (V, z)).1 0 0 = V 0 0 := (h4 0 (by decide) (by decide)).trans a0
  refine ⟨jv_ok_sec h3 (by rw [e0]; exact hs), ?_, fun k k0 k2 k3 k7 => ?_⟩
  · show jv_up (jm_du (jm_cs G lo (V 0 2) 0 (V, z)).1) 0 0 (jm_du (jm_cs G lo (V 0 2) 0 (V, z)).1 0 0 + 1) 0 0 = _
    rw [jv_up_s, e0]
  · show jv_up (jm_du (jm_cs G lo (V 0 2) 0 (V, z)).1) 0 0 (jm_du (jm_cs G lo (V 0 2) 0 (V, z)).1 0 0 + 1) 0 k = _
    rw [jv_up_n k0, h4 k k2 k3]
    rcases (show k = 1 ∨ k = 4 ∨ k = 5 ∨ k = 6 by omega) with rfl | rfl | rfl | rfl
    · exact a1
    · exact a4
    · exact a5
    · exact a6
theorem jr_f.rf (I : Nat → Int32) (W : Nat → Nat → Int32) : jr_f I W I W := ⟨rfl, rfl, rfl, rfl⟩
theorem jr_f.tr {I I' I'' : Nat → Int32} {W W' W'' : Nat → Nat → Int32} (h : jr_f I W I' W') (h' : jr_f I' W' I'' W'') : jr_f I W I'' W'' := ⟨h'.1.trans h.1, h'.2.1.trans h.2.1, h'.2.2.1.trans h.2.2.1, h'.2.2.2.trans h.2.2.2⟩
