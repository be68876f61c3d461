/-! ===== texts' rows: cells from 121 on ===== -/
theorem jl_seg (q : Nat) : jb_seg (121 + q) = (11, q) := by
  unfold jb_seg
  rw [if_neg (by omega), if_neg (by omega), if_neg (by omega), if_neg (by omega), if_neg (by omega), if_neg (by omega), if_neg (by omega), if_neg (by omega), if_neg (by omega), if_neg (by omega), if_neg (by omega), show 121 + q - 121 = q by omega]
theorem jl_at {s0 s1 s2 s3 s4 s5 s6 s7 s8 s9 s10 s11 : List va_E} (q : Nat) : jb_look [s0, s1, s2, s3, s4, s5, s6, s7, s8, s9, s10, s11] (121 + q) = s11[q]? := by
  unfold jb_look
  rw [jl_seg]
  rfl
theorem jl_end {s11 : List va_E} {e : va_E} : (s11 ++ [e])[s11.length]? = some e := by simp
theorem jl_add {s0 s1 s2 s3 s4 s5 s6 s7 s8 s9 s10 s11 : List va_E} {e : va_E} (j : Nat) : jb_look [s0, s1, s2, s3, s4, s5, s6, s7, s8, s9, s10, (s11 ++ [e])] j = if j = 121 + s11.length then some e else jb_look [s0, s1, s2, s3, s4, s5, s6, s7, s8, s9, s10, s11] j := by
  have h := jb_look_add (h := [s0, s1, s2, s3, s4, s5, s6, s7, s8, s9, s10, s11]) (k := 121 + s11.length) (l := s11) (e := e) (by rw [jl_seg]; rfl) (by rw [jl_seg]) j
  rw [← h]
  unfold jb_add
  rw [jl_seg]
  rfl
theorem jl_put {s0 s1 s2 s3 s4 s5 s6 s7 s8 s9 s10 s11 : List va_E} {e e' : va_E} : jb_put [s0, s1, s2, s3, s4, s5, s6, s7, s8, s9, s10, (s11 ++ [e])] (121 + s11.length) e' = [s0, s1, s2, s3, s4, s5, s6, s7, s8, s9, s10, (s11 ++ [e'])] := by
  unfold jb_put
  rw [jl_seg]
  show [s0, s1, s2, s3, s4, s5, s6, s7, s8, s9, s10, ((s11 ++ [e]).set s11.length e')] = _
  rw [show (s11 ++ [e]).set s11.length e' = s11 ++ [e'] by simp]
theorem jl_nx {s0 s1 s2 s3 s4 s5 s6 s7 s8 s9 s10 s11 : List va_E} {e0 : va_E} (h15 : s10[15]? = some e0) (hl : s11.length < 1000) : jb_nx [s0, s1, s2, s3, s4, s5, s6, s7, s8, s9, s10, s11] (121 + s11.length) := by
  refine ⟨by rw [jl_at]; simp, Or.inr ?_, by omega⟩
  cases h : s11.length with
  | zero => exact ⟨e0, h15⟩
  | succ k =>
    have hk : k < s11.length := by omega
    exact ⟨s11[k], by rw [show 121 + (k + 1) - 1 = 121 + k by omega, jl_at]; exact List.getElem?_eq_getElem hk⟩
/-- the class's texts -/
def jx_c (X : Nat → Option (List Int32)) (T : Nat → Value) (s11 : List va_E) : Prop := ∀ u, u < 2 → (X u = none ∧ T u = .null) ∨ ∃ (c : List Int32) (q : Nat) (f : Nat → Int32), X u = some c ∧ T u = .ref (121 + q) ∧ s11[q]? = some (.inl (0, c.length, .inl f)) ∧ (∀ j, j < c.length → f j = c.getD j 0) ∧ c.length ≤ 50 ∧ jw_f c
theorem jx_c.app {X : Nat → Option (List Int32)} {T : Nat → Value} {s11 : List va_E} (h : jx_c X T s11) (e : va_E) : jx_c X T (s11 ++ [e]) := by
  intro u hu
  rcases h u hu with h | ⟨c, q, f, h1, h2, h3, h4⟩
  · exact Or.inl h
  · exact Or.inr ⟨c, q, f, h1, h2, by rw [List.getElem?_append_left (List.getElem?_eq_some_iff.mp h3).1]; exact h3, h4⟩
theorem jx_c.to {X : Nat → Option (List Int32)} {T T' : Nat → Value} {s11 : List va_E} (h : jx_c X T s11) (e0 : T' 0 = T 0) (e1 : T' 1 = T 1) : jx_c X T' s11 := by
  intro u hu
  match u, hu with
  | 0, _ => rw [e0]; exact h 0 (by decide)
  | 1, _ => rw [e1]; exact h 1 (by decide)
theorem jx_c.r {X : Nat → Option (List Int32)} {T : Nat → Value} {s11 : List va_E} (h : jx_c X T s11) {u : Nat} (hu : u < 2) : jt_r (T u) := by
  rcases h u hu with h | ⟨c, q, f, h1, h2, h3, h4⟩
  · exact Or.inl h.2
  · exact Or.inr ⟨_, h2⟩
/-! the stack of 'work' -/
def jk_st (stk : Nat → Int32) : List Int32 → Prop
  | [] => True
  | x :: r => stk r.length = x ∧ jk_st stk r
theorem jk_upd {stk : Nat → Int32} {i : Nat} {v : Int32} : ∀ (r : List Int32), r.length ≤ i → jk_st stk r → jk_st (upd stk i v) r
  | [], _, _ => trivial
  | x :: r, h, hs => by
    have h' : r.length + 1 ≤ i := h
    exact ⟨by rw [pk_un (by omega)]; exact hs.1, jk_upd r (by omega) hs.2⟩
theorem jk_push {stk : Nat → Int32} {r : List Int32} {m : Nat} (hm : r.length = m) {v : Int32} (h : jk_st stk r) : jk_st (upd stk m v) (v :: r) := by
  subst hm
  exact ⟨pk_us, jk_upd r (Nat.le_refl _) h⟩
theorem jw_s33n {N : Nat → Int32} {p : Int32} (h1 : ¬ -4 ≤ p) (h2 : p = -33) : jw_s N [] p = [] := (if_neg h1).trans (if_pos h2)
theorem jw_s33c {N : Nat → Int32} {p x : Int32} {r : List Int32} (h1 : ¬ -4 ≤ p) (h2 : p = -33) : jw_s N (x :: r) p = (if x = 0 then 1 else 0) :: r := (if_neg h1).trans (if_pos h2)
theorem jw_sg0 {N : Nat → Int32} {p : Int32} (h1 : ¬ -4 ≤ p) (h2 : ¬ p = -33) : jw_s N [] p = [] := (if_neg h1).trans (if_neg h2)
theorem jw_sg1 {N : Nat → Int32} {p x : Int32} (h1 : ¬ -4 ≤ p) (h2 : ¬ p = -33) : jw_s N [x] p = [x] := (if_neg h1).trans (if_neg h2)
theorem jw_sg2 {N : Nat → Int32} {p x y : Int32} {r : List Int32} (h1 : ¬ -4 ≤ p) (h2 : ¬ p = -33) : jw_s N (y :: x :: r) p = jw_j (-p) x y :: r := (if_neg h1).trans (if_neg h2)
theorem jw_drop {N : Nat → Int32} {c st : List Int32} {i : Nat} (h : i < c.length) : jw_ N (c.drop i) st = jw_ N (c.drop (i + 1)) (jw_s N st (c.getD i 0)) := by
  rw [List.drop_eq_getElem_cons h]
  show jw_ N (c.drop (i + 1)) (jw_s N st c[i]) = _
  rw [show c.getD i 0 = c[i] by simp [List.getD, List.getElem?_eq_getElem h]]
theorem jk_rem40 (x : Int32) : (if (0 : Int32) < x - x / 40 * 40 then x - x / 40 * 40 else 0) = jm_cl 0 39 (x - x / 40 * 40) := by
  have h := rem_toInt x 40
  have e40 : (40 : Int32).toInt = 40 := by decide
  rw [e40] at h
  have hlt := Int.tmod_lt_of_pos x.toInt (b := 40) (by decide)
  generalize x - x / 40 * 40 = v at h ⊢
  have e0 : (0 : Int32).toInt = 0 := by decide
  have e39 : (39 : Int32).toInt = 39 := by decide
  unfold jm_cl
  have h39 : ¬ (39 : Int32) < v := fun q => by rw [Int32.lt_iff_toInt_lt] at q; omega
  by_cases h1 : v < 0
  · rw [if_pos h1, if_neg (fun q => by rw [Int32.lt_iff_toInt_lt] at h1 q; omega)]
  · rw [if_neg h1, if_neg h39]
    by_cases h2 : 0 < v
    · rw [if_pos h2]
    · rw [if_neg h2]
      rw [Int32.lt_iff_toInt_lt] at h1 h2
      exact Int32.toInt_inj.mp (by omega)
theorem jk_cl10' (x : Int32) : (if (-10 : Int32) < (if x < 10 then x else 10) then (if x < 10 then x else 10) else -10) = jm_cl (-10) 10 x := by
  have e1 : (-10 : Int32).toInt = -10 := by decide
  have e2 : (10 : Int32).toInt = 10 := by decide
  unfold jm_cl
  by_cases h1 : x < 10
  · rw [if_pos h1]
    have h3 : ¬ (10 : Int32) < x := fun q => by rw [Int32.lt_iff_toInt_lt] at h1 q; omega
    rw [if_neg h3]
    by_cases h2 : x < -10
    · rw [if_pos h2, if_neg (fun q => by rw [Int32.lt_iff_toInt_lt] at h2 q; omega)]
    · rw [if_neg h2]
      by_cases h4 : -10 < x
      · rw [if_pos h4]
      · rw [if_neg h4]
        rw [Int32.lt_iff_toInt_lt] at h2 h4
        exact Int32.toInt_inj.mp (by omega)
  · rw [if_neg h1, if_pos (by decide), if_neg (fun q => by rw [Int32.lt_iff_toInt_lt] at h1 q; omega)]
    by_cases h4 : 10 < x
    · rw [if_pos h4]
    · rw [if_neg h4]
      rw [Int32.lt_iff_toInt_lt] at h1 h4
      exact Int32.toInt_inj.mp (by omega)
set_option maxRecDepth 100000 in
set_option maxHeartbeats 4000000 in
theorem c_copyOf {sc : Nat × (Nat → Int32)} {s1 s2 s3 s4 s5 s6 s7 s8 s9 s10 s11 : List va_E} (imm : Int32) (Im rowm stkm tpm : Nat → Int32) (Tm : Nat → Value) {e0 : va_E} (h15 : s10[15]? = some e0) (hl : s11.length < 1000) (L : Nat) (hL : L ≤ 50) : jb_C sc yJ7_copyOf_59c91 cJ7_copyOf_59c91 3 (Option.some (.array .int)) 1 1 50 [.ref 2, .int (nI L)] [jb_main imm Im Tm rowm stkm tpm, s1, s2, s3, s4, s5, s6, s7, s8, s9, s10, s11] (fun r h9 => r = some (.ref (121 + s11.length)) ∧ ∃ f, (∀ j, j < L → f j = rowm j) ∧ h9 = [jb_main imm Im Tm rowm stkm tpm, s1, s2, s3, s4, s5, s6, s7, s8, s9, s10, (s11 ++ [(.inl (0, L, .inl f))])]) := by
  refine jb_CofJ (ini := false) (by decide +kernel) (fun h => by cases h) (Nat.le_of_ble_eq_true rfl) ?_
  by_cases h50 : L = 50
  · subst h50
    show jb_J _ RJ7 cJ7_copyOf_59c91 3 (Option.some (.array .int)) false 1 1 50 0 [some (.ref 2), some (.int (nI 50)), none] [] [jb_main imm Im Tm rowm stkm tpm, s1, s2, s3, s4, s5, s6, s7, s8, s9, s10, s11] _
    refine jb_iload_n (pc' := 1) dJ7_copyOf_59c91_0 rfl rfl ?_
    refine jb_aload_n (pc' := 2) dJ7_copyOf_59c91_1 rfl rfl ?_
    refine jb_alen (pc' := 3) 50 (by decide) dJ7_copyOf_59c91_2 rfl rfl rfl ?_
    refine jb_icmp_ne (tgt := 14) (pc' := 6) dJ7_copyOf_59c91_3 (by decide) rfl (fun z => absurd (show nI 50 = 50 from rfl) z) (fun _ => ?_)
    refine jb_aload_n (pc' := 7) dJ7_copyOf_59c91_6 rfl rfl ?_
    refine jb_clone (pc' := 10) (k := 121 + s11.length) (q := 2) (N := 50) (f := rowm) (a2 := 0) (b2 := 0) (h' := [jb_main imm Im Tm rowm stkm tpm, s1, s2, s3, s4, s5, s6, s7, s8, s9, s10, (s11 ++ [(.inl (0, 50, .inl rowm))])]) jb_cn5 jb_cn1 jb_cn2 jb_cn3 jb_cn4 jb_ca_I dJ7_copyOf_59c91_7 rfl (jl_nx h15 hl) jl_add (by decide) (by decide) (by decide) (Nat.le_of_ble_eq_true rfl) rfl ?_
    refine jb_castA (pc' := 13) jb_cl_J7_317 dJ7_copyOf_59c91_10 ((jl_at _).trans jl_end) rfl ?_
    refine jb_aret dJ7_copyOf_59c91_13 (by first | exact Or.inl ⟨_, rfl⟩ | exact Or.inr ⟨_, rfl⟩) ?_
    exact ⟨rfl, rowm, fun j hj => rfl, rfl⟩
  · show jb_J _ RJ7 cJ7_copyOf_59c91 3 (Option.some (.array .int)) false 1 1 50 0 [some (.ref 2), some (.int (nI L)), none] [] [jb_main imm Im Tm rowm stkm tpm, s1, s2, s3, s4, s5, s6, s7, s8, s9, s10, s11] _
    refine jb_iload_n (pc' := 1) dJ7_copyOf_59c91_0 rfl rfl ?_
    refine jb_aload_n (pc' := 2) dJ7_copyOf_59c91_1 rfl rfl ?_
    refine jb_alen (pc' := 3) 50 (by decide) dJ7_copyOf_59c91_2 rfl rfl rfl ?_
    refine jb_icmp_ne (tgt := 14) (pc' := 6) dJ7_copyOf_59c91_3 (by decide) rfl (fun _ => ?_) (fun z => absurd z (fun z => h50 ((nI_eq (a := L) (b := 50) (by omega) (by omega)).mp z)))
    refine jb_iload_n (pc' := 15) dJ7_copyOf_59c91_14 rfl rfl ?_
    refine jb_newarr (pc' := 17) (k := 121 + s11.length) (N := L) (a2 := 0) (b2 := 0) (h' := [jb_main imm Im Tm rowm stkm tpm, s1, s2, s3, s4, s5, s6, s7, s8, s9, s10, (s11 ++ [(.inl (0, L, .inl (fun _ => 0)))])]) dJ7_copyOf_59c91_15 (jb_ix_nI (by omega)) (by omega) (jl_nx h15 hl) jl_add (by decide) (by omega) rfl ?_
    refine jb_astore_n_ (pc' := 18) dJ7_copyOf_59c91_17 (by decide) (jb_at2 rfl) rfl ?_
    refine jb_aload_n (pc' := 19) dJ7_copyOf_59c91_18 rfl rfl ?_
    refine jb_iconst (pc' := 20) 0 dJ7_copyOf_59c91_19 (by decide) rfl ?_
    refine jb_aload_n (pc' := 21) dJ7_copyOf_59c91_20 rfl rfl ?_
    refine jb_iconst (pc' := 22) 0 dJ7_copyOf_59c91_21 (by decide) rfl ?_
    refine jb_aload_n (pc' := 23) dJ7_copyOf_59c91_22 rfl rfl ?_
    refine jb_alen (pc' := 24) 50 (by decide) dJ7_copyOf_59c91_23 rfl rfl rfl ?_
    refine jb_iload_n (pc' := 25) dJ7_copyOf_59c91_24 rfl rfl ?_
    refine jb_mmin (pc' := 28) wv_J7_304 dJ7_copyOf_59c91_25 (by decide) (Nat.le_of_ble_eq_true rfl) rfl ?_
    refine jb_top (v := .int (if (nI L) < 50 then (nI L) else 50)) (w := .int (nI L)) (jb_vI (if_pos (nI_lt (a := L) (b := 50) (by omega) (by omega)))) ?_
    refine jb_copy (pc' := 31) (q0 := 2) (q1 := 121 + s11.length) (n0 := 50) (n1 := L) (sp := 0) (dp := 0) (n := L) (f := rowm) (g := fun _ => 0) (h' := [jb_main imm Im Tm rowm stkm tpm, s1, s2, s3, s4, s5, s6, s7, s8, s9, s10, (s11 ++ [(.inl (0, L, .inl (va_cpy rowm (fun _ => 0) 0 0 L)))])]) wo_J7_150 jb_cp2 jb_cp3 jb_cp4 dJ7_copyOf_59c91_28 rfl ((jl_at _).trans jl_end) jb_x0 jb_x0 (jb_ix_nI (by omega)) (by omega) (by omega) (by decide) (Nat.le_of_ble_eq_true rfl) jl_put rfl ?_
    refine jb_aload_n (pc' := 32) dJ7_copyOf_59c91_31 rfl rfl ?_
    refine jb_aret dJ7_copyOf_59c91_32 (by first | exact Or.inl ⟨_, rfl⟩ | exact Or.inr ⟨_, rfl⟩) ?_
    exact ⟨rfl, va_cpy rowm (fun _ => 0) 0 0 L, fun j hj => jc_in hj, rfl⟩
set_option maxRecDepth 100000 in
set_option maxHeartbeats 4000000 in
theorem c_read {sc : Nat × (Nat → Int32)} {s2 s3 s4 s5 s6 s7 s8 s9 s10 s11 : List va_E} (imm : Int32) (Im rowm stkm tpm : Nat → Int32) (Tm : Nat → Value) (I : Nat → Int32) (W : Nat → Nat → Int32) (T : Nat → Value) {e0 : va_E} (h15 : s10[15]? = some e0) (hl : s11.length < 1000) {n u : Nat} (hn : n ≤ 50) (hu : u < 2) (hy8 : jp_by (W 14) n) : jb_C sc yX8_read cX8_read 4 (Option.some (.array .int)) 52 1 50 [.ref 1, .ref 31, .int (nI n), .ref (1000000 + (2 + u))] [jb_main imm Im Tm rowm stkm tpm, jb_sch13 I W T, s2, s3, s4, s5, s6, s7, s8, s9, s10, s11] (fun r h9 => ∃ I9 T9 row9 tp9, (((jp_al (W 14) n u).2.1 = true ∧ (jp_al (W 14) n u).1 = n) ∧ r = some (.ref (121 + s11.length)) ∧ ∃ f, (∀ j, j < (jp_al (W 14) n u).2.2.length → f j = (jp_al (W 14) n u).2.2.getD j 0) ∧ h9 = [jb_main imm I9 T9 row9 stkm tp9, jb_sch13 I W T, s2, s3, s4, s5, s6, s7, s8, s9, s10, (s11 ++ [.inl (0, (jp_al (W 14) n u).2.2.length, .inl f)])]) ∨ (¬ ((jp_al (W 14) n u).2.1 = true ∧ (jp_al (W 14) n u).1 = n) ∧ r = some .null ∧ I9 1 = nI (jp_al (W 14) n u).1 ∧ h9 = [jb_main imm I9 T9 row9 stkm tp9, jb_sch13 I W T, s2, s3, s4, s5, s6, s7, s8, s9, s10, s11])) := by
  refine jb_CofJ (ini := false) (by decide +kernel) (fun h => by cases h) (Nat.le_of_ble_eq_true rfl) ?_
  show jb_J sc RX8 cX8_read 4 (Option.some (.array .int)) false 52 1 50 0 [some (.ref 1), some (.ref 31), some (.int (nI n)), some (.ref (1000000 + (2 + u)))] [] [jb_main imm Im Tm rowm stkm tpm, jb_sch13 I W T, s2, s3, s4, s5, s6, s7, s8, s9, s10, s11] _
  have g0 := jp_al_ok (B := W 14) (n := n) (u := u) (Nat.zero_le _)
  refine jb_aload_n (pc' := 1) dX8_read_0 rfl rfl ?_
  refine jb_iload_n (pc' := 2) dX8_read_1 rfl rfl ?_
  refine jb_aload_n (pc' := 3) dX8_read_2 rfl rfl ?_
  refine jb_alen (pc' := 4) 50 (by decide) dX8_read_3 rfl rfl rfl ?_
  refine jb_aload_n (pc' := 5) dX8_read_4 rfl rfl ?_
  refine gf_X8_18 (pc' := 8) (v := .ref 4) dX8_read_5 rfl rfl rfl ?_
  refine jb_alen (pc' := 9) 50 (by decide) dX8_read_8 rfl rfl rfl ?_
  refine jb_mmin (pc' := 12) wv_X8_41 dX8_read_9 (by decide) (Nat.le_of_ble_eq_true rfl) rfl ?_
  refine jb_top (v := .int (if 50 < 50 then 50 else 50)) (w := .int 50) (jb_vI (by decide)) ?_
  refine jb_mmin (pc' := 15) wv_X8_41 dX8_read_12 (by decide) (Nat.le_of_ble_eq_true rfl) rfl ?_
  refine jb_top (v := .int (if 50 < (nI n) then 50 else (nI n))) (w := .int (nI n)) (jb_vI (if_neg (nI_nlt (a := 50) (b := n) (by omega) (by omega)))) ?_
  refine pf_X8_21 (pc' := 18) (h' := [jb_main imm (upd Im 0 (nI n)) Tm rowm stkm tpm, jb_sch13 I W T, s2, s3, s4, s5, s6, s7, s8, s9, s10, s11]) dX8_read_15 (fun _ => ⟨rfl, rfl⟩) rfl (Nat.le_of_ble_eq_true rfl) rfl rfl ?_
  refine jb_aload_n (pc' := 19) dX8_read_18 rfl rfl ?_
  refine jb_iconst (pc' := 20) 0 dX8_read_19 (by decide) rfl ?_
  refine jb_aload_n (pc' := 21) dX8_read_20 rfl rfl ?_
  refine gf_X8_18 (pc' := 24) (v := .ref 4) dX8_read_21 rfl rfl rfl ?_
  refine jb_iconst (pc' := 25) 0 dX8_read_24 (by decide) rfl ?_
  refine jb_aload_n (pc' := 26) dX8_read_25 rfl rfl ?_
  refine gf_X8_21 (pc' := 29) (v := .int (nI n)) dX8_read_26 rfl rfl rfl ?_
  refine jb_copy (pc' := 32) (sp := 0) (dp := 0) (n := n) (f := (W 14)) (g := tpm) (h' := [jb_main imm (upd Im 0 (nI n)) Tm rowm stkm (va_cpy (W 14) tpm 0 0 n), jb_sch13 I W T, s2, s3, s4, s5, s6, s7, s8, s9, s10, s11]) wo_X8_47 jb_cp2 jb_cp3 jb_cp4 dX8_read_29 rfl rfl jb_x0 jb_x0 (jb_ix_nI (by omega)) (by omega) (by omega) (by decide) (Nat.le_of_ble_eq_true rfl) rfl rfl ?_
  refine jb_aload_n (pc' := 33) dX8_read_32 rfl rfl ?_
  refine jb_aload_n (pc' := 34) dX8_read_33 rfl rfl ?_
  refine pf_X8_37 (pc' := 37) (h' := [jb_main imm (upd Im 0 (nI n)) (va_up Tm 0 (.ref (1000000 + (2 + u)))) rowm stkm (va_cpy (W 14) tpm 0 0 n), jb_sch13 I W T, s2, s3, s4, s5, s6, s7, s8, s9, s10, s11]) dX8_read_34 (fun _ => ⟨rfl, rfl⟩) rfl (Nat.le_of_ble_eq_true rfl) rfl rfl ?_
  refine jb_aload_n (pc' := 38) dX8_read_37 rfl rfl ?_
  refine jb_iconst (pc' := 39) 0 dX8_read_38 (by decide) rfl ?_
  refine pf_X8_25 (pc' := 42) (h' := [jb_main imm (upd (upd Im 0 (nI n)) 1 0) (va_up Tm 0 (.ref (1000000 + (2 + u)))) rowm stkm (va_cpy (W 14) tpm 0 0 n), jb_sch13 I W T, s2, s3, s4, s5, s6, s7, s8, s9, s10, s11]) dX8_read_39 (fun _ => ⟨rfl, rfl⟩) rfl (Nat.le_of_ble_eq_true rfl) rfl rfl ?_
  refine jb_aload_n (pc' := 43) dX8_read_42 rfl rfl ?_
  refine jb_iconst (pc' := 44) 0 dX8_read_43 (by decide) rfl ?_
  refine pf_X8_28 (pc' := 47) (h' := [jb_main imm (upd (upd (upd Im 0 (nI n)) 1 0) 2 0) (va_up Tm 0 (.ref (1000000 + (2 + u)))) rowm stkm (va_cpy (W 14) tpm 0 0 n), jb_sch13 I W T, s2, s3, s4, s5, s6, s7, s8, s9, s10, s11]) dX8_read_44 (fun _ => ⟨rfl, rfl⟩) rfl (Nat.le_of_ble_eq_true rfl) rfl rfl ?_
  refine jb_aload_n (pc' := 48) dX8_read_47 rfl rfl ?_
  refine jb_iconst (pc' := 49) 0 dX8_read_48 (by decide) rfl ?_
  refine pf_X8_31 (pc' := 52) (h' := [jb_main imm (upd (upd (upd (upd Im 0 (nI n)) 1 0) 2 0) 3 0) (va_up Tm 0 (.ref (1000000 + (2 + u)))) rowm stkm (va_cpy (W 14) tpm 0 0 n), jb_sch13 I W T, s2, s3, s4, s5, s6, s7, s8, s9, s10, s11]) dX8_read_49 (fun _ => ⟨rfl, rfl⟩) rfl (Nat.le_of_ble_eq_true rfl) rfl rfl ?_
  refine jb_aload_n (pc' := 53) dX8_read_52 rfl rfl ?_
  refine jb_iconst (pc' := 54) 0 dX8_read_53 (by decide) rfl ?_
  refine jb_iconst (pc' := 55) 0 dX8_read_54 (by decide) rfl ?_
  refine jb_callV (pc' := 58) (ci := 8) (q := 1) (As := [.int 0, .int 0]) (a2 := 1) (b2 := 50) wv_X8_53 rfl dX8_read_55 (c_top imm Tm stkm (va_cpy (W 14) tpm 0 0 n) (B := W 14) (n := n) (u := u) (fun k hk => jc_in hk) hy8 hn hu (upd (upd (upd (upd Im 0 (nI n)) 1 0) 2 0) 3 0) rowm 0 0 (by omega) (by omega) ⟨rfl, rfl, rfl, rfl⟩) rfl rfl ⟨by decide, Nat.le_of_eq (Nat.zero_add _), Nat.le_of_eq (Nat.zero_add _)⟩ (Nat.le_of_ble_eq_true rfl) rfl (fun r h9 hq => ?_)
  rcases hq with ⟨rfl, I19, b1, k1, hb1, hk1, ⟨hy1, hq1⟩ | ⟨hy1, hq1⟩, rfl⟩
  · show jb_J _ RX8 cX8_read 4 (Option.some (.array .int)) false 52 1 50 58 [some (.ref 1), some (.ref 31), some (.int (nI n)), some (.ref (1000000 + (2 + u)))] [] [jb_main imm I19 (va_up Tm 0 (.ref (1000000 + (2 + u)))) (jp_wr rowm 0 (jp_al (W 14) n u).2.2) stkm (va_cpy (W 14) tpm 0 0 n), jb_sch13 I W T, s2, s3, s4, s5, s6, s7, s8, s9, s10, s11] _
    have g1 : b1 ≤ n := Nat.le_trans (Nat.le_of_eq hb1.symm) g0.2.1
    refine jb_aload_n (pc' := 59) dX8_read_58 rfl rfl ?_
    refine gf_X8_31 (pc' := 62) (v := .int (I19 3)) dX8_read_59 rfl rfl rfl ?_
    refine jb_top (v := .int (I19 3)) (w := .int 0) (jb_vI hq1.2.2.2) ?_
    refine jb_if_ne (tgt := 76) (pc' := 65) dX8_read_62 (by decide) rfl (fun z => absurd (by decide) z) (fun _ => ?_)
    refine jb_aload_n (pc' := 66) dX8_read_65 rfl rfl ?_
    refine gf_X8_25 (pc' := 69) (v := .int (I19 1)) dX8_read_66 rfl rfl rfl ?_
    refine jb_top (v := .int (I19 1)) (w := .int (nI b1)) (jb_vI hq1.2.1) ?_
    refine jb_aload_n (pc' := 70) dX8_read_69 rfl rfl ?_
    refine gf_X8_21 (pc' := 73) (v := .int (I19 0)) dX8_read_70 rfl rfl rfl ?_
    refine jb_top (v := .int (I19 0)) (w := .int (nI n)) (jb_vI hq1.1) ?_
    refine jb_icmp_ge (tgt := 80) (pc' := 76) dX8_read_73 (by decide) rfl (fun c2 => ?_) (fun c2 => ?_)
    · have c2 : n ≤ b1 := (nI_leI (a := n) (b := b1) (by omega) (by omega)).mp c2
      have g3 : k1 + 0 ≤ b1 := by have := g0.2.2.1; have e1 : (jp_al (W 14) n u).1 = b1 := hb1; have e2 : (jp_al (W 14) n u).2.2.length = k1 := hk1; omega
      refine jb_aload_n (pc' := 81) dX8_read_80 rfl rfl ?_
      refine gf_X8_9 (pc' := 84) (v := .ref 2) dX8_read_81 rfl rfl rfl ?_
      refine jb_aload_n (pc' := 85) dX8_read_84 rfl rfl ?_
      refine gf_X8_28 (pc' := 88) (v := .int (I19 2)) dX8_read_85 rfl rfl rfl ?_
      refine jb_top (v := .int (I19 2)) (w := .int (nI (0 + k1))) (jb_vI hq1.2.2.1) ?_
      refine jb_callS (pc' := 91) (As := [.ref 2, .int (nI (0 + k1))]) (a2 := 0) (b2 := 0) wv_X8_57 dX8_read_88 (c_copyOf imm I19 (jp_wr rowm 0 (jp_al (W 14) n u).2.2) stkm (va_cpy (W 14) tpm 0 0 n) (va_up Tm 0 (.ref (1000000 + (2 + u)))) h15 hl (0 + k1) (by omega)) rfl ⟨by decide, by decide, by decide⟩ (Nat.le_of_ble_eq_true rfl) rfl (fun r h9 hq => ?_)
      obtain ⟨rfl, f1, hf1, rfl⟩ := hq
      show jb_J _ RX8 cX8_read 4 (Option.some (.array .int)) false 52 0 0 91 [some (.ref 1), some (.ref 31), some (.int (nI n)), some (.ref (1000000 + (2 + u)))] [.ref (121 + s11.length)] [jb_main imm I19 (va_up Tm 0 (.ref (1000000 + (2 + u)))) (jp_wr rowm 0 (jp_al (W 14) n u).2.2) stkm (va_cpy (W 14) tpm 0 0 n), jb_sch13 I W T, s2, s3, s4, s5, s6, s7, s8, s9, s10, (s11 ++ [(.inl (0, 0 + k1, .inl f1))])] _
      refine jb_aret dX8_read_91 (by first | exact Or.inl ⟨_, rfl⟩ | exact Or.inr ⟨_, rfl⟩) ?_
      have hk9 : (jp_al (W 14) n u).2.2.length = 0 + k1 := by rw [show (jp_al (W 14) n u).2.2.length = k1 from hk1]; omega
      have hn9 : (jp_al (W 14) n u).1 = n := by have z2 : (jp_al (W 14) n u).1 = b1 := hb1; omega
      refine ⟨I19, (va_up Tm 0 (.ref (1000000 + (2 + u)))), (jp_wr rowm 0 (jp_al (W 14) n u).2.2), (va_cpy (W 14) tpm 0 0 n), Or.inl ⟨⟨hy1, hn9⟩, rfl, f1, fun j hj => ?_, by rw [hk9]⟩⟩
      rw [hf1 j (by omega)]
      have := jp_wr_in rowm 0 (jp_al (W 14) n u).2.2 j hj
      rw [Nat.zero_add] at this
      exact this
    · have c2 : ¬ n ≤ b1 := fun z9 => c2 ((nI_leI (a := n) (b := b1) (by omega) (by omega)).mpr z9)
      refine jb_null (pc' := 77) dX8_read_76 rfl ?_
      refine jb_goto (pc' := 91) dX8_read_77 (by decide) ?_
      refine jb_aret0 dX8_read_91 (by first | exact Or.inl ⟨_, rfl⟩ | exact Or.inr ⟨_, rfl⟩) ?_
      exact ⟨I19, (va_up Tm 0 (.ref (1000000 + (2 + u)))), (jp_wr rowm 0 (jp_al (W 14) n u).2.2), (va_cpy (W 14) tpm 0 0 n), Or.inr ⟨fun z => (by have z2 : b1 = n := hb1.symm.trans z.2; omega), rfl, hq1.2.1.trans (congrArg nI hb1.symm), rfl⟩⟩
  · show jb_J _ RX8 cX8_read 4 (Option.some (.array .int)) false 52 1 50 58 [some (.ref 1), some (.ref 31), some (.int (nI n)), some (.ref (1000000 + (2 + u)))] [] [jb_main imm I19 (va_up Tm 0 (.ref (1000000 + (2 + u)))) (jp_wr rowm 0 (jp_al (W 14) n u).2.2) stkm (va_cpy (W 14) tpm 0 0 n), jb_sch13 I W T, s2, s3, s4, s5, s6, s7, s8, s9, s10, s11] _
    have g1 : b1 ≤ n := Nat.le_trans (Nat.le_of_eq hb1.symm) g0.2.1
    refine jb_aload_n (pc' := 59) dX8_read_58 rfl rfl ?_
    refine gf_X8_31 (pc' := 62) (v := .int (I19 3)) dX8_read_59 rfl rfl rfl ?_
    refine jb_top (v := .int (I19 3)) (w := .int 1) (jb_vI hq1.2.2.2) ?_
    refine jb_if_ne (tgt := 76) (pc' := 65) dX8_read_62 (by decide) rfl (fun _ => ?_) (fun z => absurd z (by decide))
    refine jb_null (pc' := 77) dX8_read_76 rfl ?_
    refine jb_goto (pc' := 91) dX8_read_77 (by decide) ?_
    refine jb_aret0 dX8_read_91 (by first | exact Or.inl ⟨_, rfl⟩ | exact Or.inr ⟨_, rfl⟩) ?_
    exact ⟨I19, (va_up Tm 0 (.ref (1000000 + (2 + u)))), (jp_wr rowm 0 (jp_al (W 14) n u).2.2), (va_cpy (W 14) tpm 0 0 n), Or.inr ⟨fun z => (by have z1 := z.1; rw [show (jp_al (W 14) n u).2.1 = false from hy1] at z1; cases z1), rfl, hq1.2.1.trans (congrArg nI hb1.symm), rfl⟩⟩
set_option maxRecDepth 100000 in
set_option maxHeartbeats 4000000 in
theorem c_valueOf {sc : Nat × (Nat → Int32)} (h : jb_H) (s x y z w : Int32) (hs : -4 ≤ s) : jb_C sc yX8_valueOf cX8_valueOf 5 (Option.some .int) 0 0 0 [.int s, .int x, .int y, .int z, .int w] h (fun r h9 => r = some (.int (jw_v (jx_N x y z w) s)) ∧ h = h9) := by
  refine jb_CofJ (ini := false) (by decide +kernel) (fun h => by cases h) (Nat.le_of_ble_eq_true rfl) ?_
  by_cases h1 : s = -1
  · subst h1
    show jb_J _ RX8 cX8_valueOf 5 (Option.some .int) false 0 0 0 0 [some (.int (-1)), some (.int x), some (.int y), some (.int z), some (.int w)] [] h _
    refine jb_iload_n (pc' := 1) dX8_valueOf_0 rfl rfl ?_
    refine jb_tableIn (pc' := 32) (off := 31) dX8_valueOf_1 (by decide) (by decide) (by decide +kernel) (by decide) ?_
    refine jb_iload_n (pc' := 33) dX8_valueOf_32 rfl rfl ?_
    refine jb_iret dX8_valueOf_33 rfl ?_
    exact ⟨rfl, rfl⟩
  by_cases h2 : s = -2
  · subst h2
    show jb_J _ RX8 cX8_valueOf 5 (Option.some .int) false 0 0 0 0 [some (.int (-2)), some (.int x), some (.int y), some (.int z), some (.int w)] [] h _
    refine jb_iload_n (pc' := 1) dX8_valueOf_0 rfl rfl ?_
    refine jb_tableIn (pc' := 34) (off := 33) dX8_valueOf_1 (by decide) (by decide) (by decide +kernel) (by decide) ?_
    refine jb_iload_n (pc' := 35) dX8_valueOf_34 rfl rfl ?_
    refine jb_iret dX8_valueOf_35 rfl ?_
    exact ⟨rfl, rfl⟩
  by_cases h3 : s = -3
  · subst h3
    show jb_J _ RX8 cX8_valueOf 5 (Option.some .int) false 0 0 0 0 [some (.int (-3)), some (.int x), some (.int y), some (.int z), some (.int w)] [] h _
    refine jb_iload_n (pc' := 1) dX8_valueOf_0 rfl rfl ?_
    refine jb_tableIn (pc' := 36) (off := 35) dX8_valueOf_1 (by decide) (by decide) (by decide +kernel) (by decide) ?_
    refine jb_iload_n (pc' := 37) dX8_valueOf_36 rfl rfl ?_
    refine jb_iret dX8_valueOf_37 rfl ?_
    exact ⟨rfl, rfl⟩
  by_cases h4 : s = -4
  · subst h4
    show jb_J _ RX8 cX8_valueOf 5 (Option.some .int) false 0 0 0 0 [some (.int (-4)), some (.int x), some (.int y), some (.int z), some (.int w)] [] h _
    refine jb_iload_n (pc' := 1) dX8_valueOf_0 rfl rfl ?_
    refine jb_tableIn (pc' := 38) (off := 37) dX8_valueOf_1 (by decide) (by decide) (by decide +kernel) (by decide) ?_
    refine jb_iload (pc' := 40) dX8_valueOf_38 rfl rfl ?_
    refine jb_iret dX8_valueOf_40 rfl ?_
    exact ⟨rfl, rfl⟩
  show jb_J _ RX8 cX8_valueOf 5 (Option.some .int) false 0 0 0 0 [some (.int s), some (.int x), some (.int y), some (.int z), some (.int w)] [] h _
  refine jb_iload_n (pc' := 1) dX8_valueOf_0 rfl rfl ?_
  refine jb_tableOut (pc' := 41) dX8_valueOf_1 (Or.inr (Int.not_le.mp (fun z9 => ?_))) (by decide) ?_
  · rw [Int32.le_iff_toInt_le] at hs
    have e4 : (-4 : Int32).toInt = -4 := by decide
    have g1 : ¬ s.toInt = -1 := fun q => h1 (Int32.toInt_inj.mp (q.trans (by decide)))
    have g2 : ¬ s.toInt = -2 := fun q => h2 (Int32.toInt_inj.mp (q.trans (by decide)))
    have g3 : ¬ s.toInt = -3 := fun q => h3 (Int32.toInt_inj.mp (q.trans (by decide)))
    have g4 : ¬ s.toInt = -4 := fun q => h4 (Int32.toInt_inj.mp (q.trans (by decide)))
    omega
  refine jb_iload_n (pc' := 42) dX8_valueOf_41 rfl rfl ?_
  refine jb_iret dX8_valueOf_42 rfl ?_
  exact ⟨by rw [jw_v, if_neg h1, if_neg h2, if_neg h3, if_neg h4], rfl⟩
set_option maxRecDepth 100000 in
set_option maxHeartbeats 4000000 in
theorem c_joined {sc : Nat × (Nat → Int32)} (h : jb_H) (s l r : Int32) : jb_C sc yX8_joined cX8_joined 3 (Option.some .int) 0 0 0 [.int s, .int l, .int r] h (fun r9 h9 => r9 = some (.int (jw_j s l r)) ∧ h = h9) := by
  refine jb_CofJ (ini := false) (by decide +kernel) (fun h => by cases h) (Nat.le_of_ble_eq_true rfl) ?_
  by_cases h124 : s = 124
  · subst h124
    show jb_J _ RX8 cX8_joined 3 (Option.some .int) false 0 0 0 0 [some (.int 124), some (.int l), some (.int r)] [] h _
    refine jb_iload_n (pc' := 1) dX8_joined_0 rfl rfl ?_
    refine jb_lookup (pc' := 84) (off := 83) dX8_joined_1 (by decide +kernel) (by decide +kernel) (by decide) ?_
    refine jb_iload_n (pc' := 85) dX8_joined_84 rfl rfl ?_
    refine jb_if_ne (tgt := 92) (pc' := 88) dX8_joined_85 (by decide) rfl (fun c1 => ?_) (fun c1 => ?_)
    · refine jb_iconst (pc' := 93) 1 dX8_joined_92 (by decide) rfl ?_
      refine jb_goto (pc' := 97) dX8_joined_93 (by decide) ?_
      refine jb_iret dX8_joined_97 rfl ?_
      refine ⟨congrArg (fun q => some (Value.int q)) ?_, rfl⟩
      rw [jw_j_124]
      first | exact (if_pos ⟨by assumption, by assumption⟩).symm | exact (if_neg (fun z => absurd z.1 (by assumption))).symm | exact (if_neg (fun z => absurd z.2 (by assumption))).symm
    · refine jb_iload_n (pc' := 89) dX8_joined_88 rfl rfl ?_
      refine jb_if_eq (tgt := 96) (pc' := 92) dX8_joined_89 (by decide) rfl (fun c2 => ?_) (fun c2 => ?_)
      · refine jb_iconst (pc' := 97) 0 dX8_joined_96 (by decide) rfl ?_
        refine jb_iret dX8_joined_97 rfl ?_
        refine ⟨congrArg (fun q => some (Value.int q)) ?_, rfl⟩
        rw [jw_j_124]
        first | exact (if_pos ⟨by assumption, by assumption⟩).symm | exact (if_neg (fun z => absurd z.1 (by assumption))).symm | exact (if_neg (fun z => absurd z.2 (by assumption))).symm
      · refine jb_iconst (pc' := 93) 1 dX8_joined_92 (by decide) rfl ?_
        refine jb_goto (pc' := 97) dX8_joined_93 (by decide) ?_
        refine jb_iret dX8_joined_97 rfl ?_
        refine ⟨congrArg (fun q => some (Value.int q)) ?_, rfl⟩
        rw [jw_j_124]
        first | exact (if_pos ⟨by assumption, by assumption⟩).symm | exact (if_neg (fun z => absurd z.1 (by assumption))).symm | exact (if_neg (fun z => absurd z.2 (by assumption))).symm
  by_cases h38 : s = 38
  · subst h38
    show jb_J _ RX8 cX8_joined 3 (Option.some .int) false 0 0 0 0 [some (.int 38), some (.int l), some (.int r)] [] h _
    refine jb_iload_n (pc' := 1) dX8_joined_0 rfl rfl ?_
    refine jb_lookup (pc' := 98) (off := 97) dX8_joined_1 (by decide +kernel) (by decide +kernel) (by decide) ?_
    refine jb_iload_n (pc' := 99) dX8_joined_98 rfl rfl ?_
    refine jb_if_eq (tgt := 110) (pc' := 102) dX8_joined_99 (by decide) rfl (fun c1 => ?_) (fun c1 => ?_)
    · refine jb_iconst (pc' := 111) 0 dX8_joined_110 (by decide) rfl ?_
      refine jb_iret dX8_joined_111 rfl ?_
      refine ⟨congrArg (fun q => some (Value.int q)) ?_, rfl⟩
      rw [jw_j_38]
      first | exact (if_pos (Or.inl (by assumption))).symm | exact (if_pos (Or.inr (by assumption))).symm | exact (if_neg (fun z => z.elim (by assumption) (by assumption))).symm
    · refine jb_iload_n (pc' := 103) dX8_joined_102 rfl rfl ?_
      refine jb_if_eq (tgt := 110) (pc' := 106) dX8_joined_103 (by decide) rfl (fun c2 => ?_) (fun c2 => ?_)
      · refine jb_iconst (pc' := 111) 0 dX8_joined_110 (by decide) rfl ?_
        refine jb_iret dX8_joined_111 rfl ?_
        refine ⟨congrArg (fun q => some (Value.int q)) ?_, rfl⟩
        rw [jw_j_38]
        first | exact (if_pos (Or.inl (by assumption))).symm | exact (if_pos (Or.inr (by assumption))).symm | exact (if_neg (fun z => z.elim (by assumption) (by assumption))).symm
      · refine jb_iconst (pc' := 107) 1 dX8_joined_106 (by decide) rfl ?_
        refine jb_goto (pc' := 111) dX8_joined_107 (by decide) ?_
        refine jb_iret dX8_joined_111 rfl ?_
        refine ⟨congrArg (fun q => some (Value.int q)) ?_, rfl⟩
        rw [jw_j_38]
        first | exact (if_pos (Or.inl (by assumption))).symm | exact (if_pos (Or.inr (by assumption))).symm | exact (if_neg (fun z => z.elim (by assumption) (by assumption))).symm
  by_cases h60 : s = 60
  · subst h60
    show jb_J _ RX8 cX8_joined 3 (Option.some .int) false 0 0 0 0 [some (.int 60), some (.int l), some (.int r)] [] h _
    refine jb_iload_n (pc' := 1) dX8_joined_0 rfl rfl ?_
    refine jb_lookup (pc' := 112) (off := 111) dX8_joined_1 (by decide +kernel) (by decide +kernel) (by decide) ?_
    refine jb_iload_n (pc' := 113) dX8_joined_112 rfl rfl ?_
    refine jb_iload_n (pc' := 114) dX8_joined_113 rfl rfl ?_
    refine jb_icmp_ge (tgt := 121) (pc' := 117) dX8_joined_114 (by decide) rfl (fun c1 => ?_) (fun c1 => ?_)
    · refine jb_iconst (pc' := 122) 0 dX8_joined_121 (by decide) rfl ?_
      refine jb_iret dX8_joined_122 rfl ?_
      refine ⟨congrArg (fun q => some (Value.int q)) ?_, rfl⟩
      rw [jw_j_60]
      first | exact (if_neg (Int32.not_lt.mpr (by assumption))).symm | exact (if_pos (Int32.not_le.mp (by assumption))).symm
    · refine jb_iconst (pc' := 118) 1 dX8_joined_117 (by decide) rfl ?_
      refine jb_goto (pc' := 122) dX8_joined_118 (by decide) ?_
      refine jb_iret dX8_joined_122 rfl ?_
      refine ⟨congrArg (fun q => some (Value.int q)) ?_, rfl⟩
      rw [jw_j_60]
      first | exact (if_neg (Int32.not_lt.mpr (by assumption))).symm | exact (if_pos (Int32.not_le.mp (by assumption))).symm
  by_cases h61 : s = 61
  · subst h61
    show jb_J _ RX8 cX8_joined 3 (Option.some .int) false 0 0 0 0 [some (.int 61), some (.int l), some (.int r)] [] h _
    refine jb_iload_n (pc' := 1) dX8_joined_0 rfl rfl ?_
    refine jb_lookup (pc' := 123) (off := 122) dX8_joined_1 (by decide +kernel) (by decide +kernel) (by decide) ?_
    refine jb_iload_n (pc' := 124) dX8_joined_123 rfl rfl ?_
    refine jb_iload_n (pc' := 125) dX8_joined_124 rfl rfl ?_
    refine jb_icmp_ne (tgt := 132) (pc' := 128) dX8_joined_125 (by decide) rfl (fun c1 => ?_) (fun c1 => ?_)
    · refine jb_iconst (pc' := 133) 0 dX8_joined_132 (by decide) rfl ?_
      refine jb_iret dX8_joined_133 rfl ?_
      refine ⟨congrArg (fun q => some (Value.int q)) ?_, rfl⟩
      rw [jw_j_61]
      first | exact (if_pos (by assumption)).symm | exact (if_neg (by assumption)).symm
    · refine jb_iconst (pc' := 129) 1 dX8_joined_128 (by decide) rfl ?_
      refine jb_goto (pc' := 133) dX8_joined_129 (by decide) ?_
      refine jb_iret dX8_joined_133 rfl ?_
      refine ⟨congrArg (fun q => some (Value.int q)) ?_, rfl⟩
      rw [jw_j_61]
      first | exact (if_pos (by assumption)).symm | exact (if_neg (by assumption)).symm
  by_cases h62 : s = 62
  · subst h62
    show jb_J _ RX8 cX8_joined 3 (Option.some .int) false 0 0 0 0 [some (.int 62), some (.int l), some (.int r)] [] h _
    refine jb_iload_n (pc' := 1) dX8_joined_0 rfl rfl ?_
    refine jb_lookup (pc' := 134) (off := 133) dX8_joined_1 (by decide +kernel) (by decide +kernel) (by decide) ?_
    refine jb_iload_n (pc' := 135) dX8_joined_134 rfl rfl ?_
    refine jb_iload_n (pc' := 136) dX8_joined_135 rfl rfl ?_
    refine jb_icmp_le (tgt := 143) (pc' := 139) dX8_joined_136 (by decide) rfl (fun c1 => ?_) (fun c1 => ?_)
    · refine jb_iconst (pc' := 144) 0 dX8_joined_143 (by decide) rfl ?_
      refine jb_iret dX8_joined_144 rfl ?_
      refine ⟨congrArg (fun q => some (Value.int q)) ?_, rfl⟩
      rw [jw_j_62]
      first | exact (if_neg (Int32.not_lt.mpr (by assumption))).symm | exact (if_pos (Int32.not_le.mp (by assumption))).symm
    · refine jb_iconst (pc' := 140) 1 dX8_joined_139 (by decide) rfl ?_
      refine jb_goto (pc' := 144) dX8_joined_140 (by decide) ?_
      refine jb_iret dX8_joined_144 rfl ?_
      refine ⟨congrArg (fun q => some (Value.int q)) ?_, rfl⟩
      rw [jw_j_62]
      first | exact (if_neg (Int32.not_lt.mpr (by assumption))).symm | exact (if_pos (Int32.not_le.mp (by assumption))).symm
  by_cases h43 : s = 43
  · subst h43
    show jb_J _ RX8 cX8_joined 3 (Option.some .int) false 0 0 0 0 [some (.int 43), some (.int l), some (.int r)] [] h _
    refine jb_iload_n (pc' := 1) dX8_joined_0 rfl rfl ?_
    refine jb_lookup (pc' := 145) (off := 144) dX8_joined_1 (by decide +kernel) (by decide +kernel) (by decide) ?_
    refine jb_iload_n (pc' := 146) dX8_joined_145 rfl rfl ?_
    refine jb_iload_n (pc' := 147) dX8_joined_146 rfl rfl ?_
    refine jb_iadd (pc' := 148) dX8_joined_147 rfl ?_
    refine jb_iret dX8_joined_148 rfl ?_
    refine ⟨congrArg (fun q => some (Value.int q)) ?_, rfl⟩
    rw [jw_j_43]
  by_cases h45 : s = 45
  · subst h45
    show jb_J _ RX8 cX8_joined 3 (Option.some .int) false 0 0 0 0 [some (.int 45), some (.int l), some (.int r)] [] h _
    refine jb_iload_n (pc' := 1) dX8_joined_0 rfl rfl ?_
    refine jb_lookup (pc' := 149) (off := 148) dX8_joined_1 (by decide +kernel) (by decide +kernel) (by decide) ?_
    refine jb_iload_n (pc' := 150) dX8_joined_149 rfl rfl ?_
    refine jb_iload_n (pc' := 151) dX8_joined_150 rfl rfl ?_
    refine jb_isub (pc' := 152) dX8_joined_151 rfl ?_
    refine jb_iret dX8_joined_152 rfl ?_
    refine ⟨congrArg (fun q => some (Value.int q)) ?_, rfl⟩
    rw [jw_j_45]
  by_cases h42 : s = 42
  · subst h42
    show jb_J _ RX8 cX8_joined 3 (Option.some .int) false 0 0 0 0 [some (.int 42), some (.int l), some (.int r)] [] h _
    refine jb_iload_n (pc' := 1) dX8_joined_0 rfl rfl ?_
    refine jb_lookup (pc' := 153) (off := 152) dX8_joined_1 (by decide +kernel) (by decide +kernel) (by decide) ?_
    refine jb_iload_n (pc' := 154) dX8_joined_153 rfl rfl ?_
    refine jb_iload_n (pc' := 155) dX8_joined_154 rfl rfl ?_
    refine jb_imul (pc' := 156) dX8_joined_155 rfl ?_
    refine jb_iret dX8_joined_156 rfl ?_
    refine ⟨congrArg (fun q => some (Value.int q)) ?_, rfl⟩
    rw [jw_j_42]
  by_cases h47 : s = 47
  · subst h47
    show jb_J _ RX8 cX8_joined 3 (Option.some .int) false 0 0 0 0 [some (.int 47), some (.int l), some (.int r)] [] h _
    refine jb_iload_n (pc' := 1) dX8_joined_0 rfl rfl ?_
    refine jb_lookup (pc' := 157) (off := 156) dX8_joined_1 (by decide +kernel) (by decide +kernel) (by decide) ?_
    refine jb_iload_n (pc' := 158) dX8_joined_157 rfl rfl ?_
    refine jb_if_ne (tgt := 165) (pc' := 161) dX8_joined_158 (by decide) rfl (fun c1 => ?_) (fun c1 => ?_)
    · refine jb_iload_n (pc' := 166) dX8_joined_165 rfl rfl ?_
      refine jb_iload_n (pc' := 167) dX8_joined_166 rfl rfl ?_
      refine jb_idiv (pc' := 168) dX8_joined_167 (by assumption) rfl ?_
      refine jb_iret dX8_joined_168 rfl ?_
      refine ⟨congrArg (fun q => some (Value.int q)) ?_, rfl⟩
      rw [jw_j_47]
      first | exact (if_pos (by assumption)).symm | exact (if_neg (by assumption)).symm
    · refine jb_iconst (pc' := 162) 0 dX8_joined_161 (by decide) rfl ?_
      refine jb_goto (pc' := 168) dX8_joined_162 (by decide) ?_
      refine jb_iret dX8_joined_168 rfl ?_
      refine ⟨congrArg (fun q => some (Value.int q)) ?_, rfl⟩
      rw [jw_j_47]
      first | exact (if_pos (by assumption)).symm | exact (if_neg (by assumption)).symm
  show jb_J _ RX8 cX8_joined 3 (Option.some .int) false 0 0 0 0 [some (.int s), some (.int l), some (.int r)] [] h _
  refine jb_iload_n (pc' := 1) dX8_joined_0 rfl rfl ?_
  refine jb_lookup (pc' := 169) (off := 168) dX8_joined_1 (by decide +kernel) ?_ (by decide) ?_
  · have ne : ∀ (k : Int32) (z : Int), k.toInt = z → ¬ s = k → ¬ z = s.toInt := fun k z e h q => h (Int32.toInt_inj.mp (q.symm.trans e.symm))
    simp only [Op.lookupswitch.offset_cons, Op.lookupswitch.offset_nil, if_neg (ne 38 38 (by decide) h38), if_neg (ne 42 42 (by decide) h42), if_neg (ne 43 43 (by decide) h43), if_neg (ne 45 45 (by decide) h45), if_neg (ne 47 47 (by decide) h47), if_neg (ne 60 60 (by decide) h60), if_neg (ne 61 61 (by decide) h61), if_neg (ne 62 62 (by decide) h62), if_neg (ne 124 124 (by decide) h124)]
  refine jb_iload_n (pc' := 170) dX8_joined_169 rfl rfl ?_
  refine jb_if_ne (tgt := 177) (pc' := 173) dX8_joined_170 (by decide) rfl (fun c1 => ?_) (fun c1 => ?_)
  · refine jb_iload_n (pc' := 178) dX8_joined_177 rfl rfl ?_
    refine jb_iload_n (pc' := 179) dX8_joined_178 rfl rfl ?_
    refine jb_irem (pc' := 180) dX8_joined_179 (by assumption) rfl ?_
    refine jb_iret dX8_joined_180 rfl ?_
    refine ⟨congrArg (fun q => some (Value.int q)) ?_, rfl⟩
    rw [jw_j, if_neg h124, if_neg h38, if_neg h60, if_neg h61, if_neg h62, if_neg h43, if_neg h45, if_neg h42, if_neg h47]
    first | exact (if_pos (by assumption)).symm | exact (if_neg (by assumption)).symm
  · refine jb_iconst (pc' := 174) 0 dX8_joined_173 (by decide) rfl ?_
    refine jb_goto (pc' := 180) dX8_joined_174 (by decide) ?_
    refine jb_iret dX8_joined_180 rfl ?_
    refine ⟨congrArg (fun q => some (Value.int q)) ?_, rfl⟩
    rw [jw_j, if_neg h124, if_neg h38, if_neg h60, if_neg h61, if_neg h62, if_neg h43, if_neg h45, if_neg h42, if_neg h47]
    first | exact (if_pos (by assumption)).symm | exact (if_neg (by assumption)).symm
set_option maxRecDepth 100000 in
set_option maxHeartbeats 4000000 in
theorem l_work {sc : Nat × (Nat → Int32)} {s1 s2 s3 s4 s5 s6 s7 s8 s9 s10 s11 : List va_E} (imm : Int32) (Im rowm tpm : Nat → Int32) (Tm : Nat → Value) (x y z w : Int32) (c : List Int32) (q : Nat) (f : Nat → Int32) (hq : s11[q]? = some (.inl (0, c.length, .inl f))) (hf : ∀ j, j < c.length → f j = c.getD j 0) (hc : c.length ≤ 50) (v : Int32) : ∀ (k i m : Nat) (st : List Int32) (stkm : Nat → Int32) (x8 : Option Value), i + k = c.length → st.length = m → m ≤ i → jk_st stkm st → jw_ (jx_N x y z w) (c.drop i) st = [v] → jb_J sc RX8 cX8_work 9 (Option.some .int) false 1 0 0 6 [some (.ref 1), some (.ref (121 + q)), some (.int x), some (.int y), some (.int z), some (.int w), some (.int (nI m)), some (.int (nI i)), x8] [] [jb_main imm Im Tm rowm stkm tpm, s1, s2, s3, s4, s5, s6, s7, s8, s9, s10, s11] (fun r h9 => r = some (.int v) ∧ ∃ stk9, h9 = [jb_main imm Im Tm rowm stk9 tpm, s1, s2, s3, s4, s5, s6, s7, s8, s9, s10, s11]) := by
  intro k
  induction k with
  | zero =>
    intro i m st stkm x8 hk hm hmi hs hv
    rw [List.drop_eq_nil_of_le (by omega)] at hv
    have hv2 : st = [v] := hv
    subst hv2
    show jb_J _ RX8 cX8_work 9 (Option.some .int) false 1 0 0 6 [some (.ref 1), some (.ref (121 + q)), some (.int x), some (.int y), some (.int z), some (.int w), some (.int (nI m)), some (.int (nI i)), x8] [] [jb_main imm Im Tm rowm stkm tpm, s1, s2, s3, s4, s5, s6, s7, s8, s9, s10, s11] _
    refine jb_iload (pc' := 8) dX8_work_6 rfl rfl ?_
    refine jb_aload_n (pc' := 9) dX8_work_8 rfl rfl ?_
    refine jb_alen (pc' := 10) (nI c.length) (by decide) dX8_work_9 ((jl_at q).trans hq) rfl rfl ?_
    refine jb_icmp_ge (tgt := 148) (pc' := 13) dX8_work_10 (by decide) rfl (fun _ => ?_) (fun z => absurd (nI_le (a := c.length) (b := i) (by omega) (by omega)) z)
    refine jb_aload_n (pc' := 149) dX8_work_148 rfl rfl ?_
    refine gf_X8_15 (pc' := 152) (v := .ref 3) dX8_work_149 rfl rfl rfl ?_
    refine jb_iconst (pc' := 153) 0 dX8_work_152 (by decide) rfl ?_
    refine jb_iaload (pc' := 154) (i9 := 0) (f := stkm) dX8_work_153 rfl jb_x0 (by decide) rfl ?_
    refine jb_iret dX8_work_154 rfl ?_
    exact ⟨congrArg (fun q => some (Value.int q)) hs.1, stkm, rfl⟩
  | succ k ih =>
    intro i m st stkm x8 hk hm hmi hs hv
    rw [jw_drop (by omega)] at hv
    have hfi := hf i (by omega)
    rw [← hfi] at hv
    by_cases hA : -4 ≤ f i
    · have e9 : jw_s (jx_N x y z w) st (f i) = jw_v (jx_N x y z w) (f i) :: st := if_pos hA
      rw [e9] at hv
      show jb_J _ RX8 cX8_work 9 (Option.some .int) false 1 0 0 6 [some (.ref 1), some (.ref (121 + q)), some (.int x), some (.int y), some (.int z), some (.int w), some (.int (nI m)), some (.int (nI i)), x8] [] [jb_main imm Im Tm rowm stkm tpm, s1, s2, s3, s4, s5, s6, s7, s8, s9, s10, s11] _
      refine jb_iload (pc' := 8) dX8_work_6 rfl rfl ?_
      refine jb_aload_n (pc' := 9) dX8_work_8 rfl rfl ?_
      refine jb_alen (pc' := 10) (nI c.length) (by decide) dX8_work_9 ((jl_at q).trans hq) rfl rfl ?_
      refine jb_icmp_ge (tgt := 148) (pc' := 13) dX8_work_10 (by decide) rfl (fun z => absurd z (nI_ge (a := i) (b := c.length) (by omega) (by omega))) (fun _ => ?_)
      refine jb_aload_n (pc' := 14) dX8_work_13 rfl rfl ?_
      refine jb_iload (pc' := 16) dX8_work_14 rfl rfl ?_
      refine jb_iaload (pc' := 17) (i9 := i) (f := f) dX8_work_16 ((jl_at q).trans hq) (jb_ix_nI (by omega)) (by omega) rfl ?_
      refine jb_istore_ (pc' := 19) dX8_work_17 (by decide) (jb_at8 rfl) rfl ?_
      refine jb_iload (pc' := 21) dX8_work_19 rfl rfl ?_
      refine jb_bipush (pc' := 23) (-4) dX8_work_21 (by decide) rfl ?_
      refine jb_icmp_lt (tgt := 60) (pc' := 26) dX8_work_23 (by decide) rfl (fun z => absurd z (Int32.not_lt.mpr hA)) (fun _ => ?_)
      refine jb_iload (pc' := 28) dX8_work_26 rfl rfl ?_
      refine jb_aload_n (pc' := 29) dX8_work_28 rfl rfl ?_
      refine gf_X8_15 (pc' := 32) (v := .ref 3) dX8_work_29 rfl rfl rfl ?_
      refine jb_alen (pc' := 33) 50 (by decide) dX8_work_32 rfl rfl rfl ?_
      refine jb_icmp_ge (tgt := 142) (pc' := 36) dX8_work_33 (by decide) rfl (fun z => absurd z (nI_ge (a := m) (b := 50) (by omega) (by omega))) (fun _ => ?_)
      refine jb_aload_n (pc' := 37) dX8_work_36 rfl rfl ?_
      refine gf_X8_15 (pc' := 40) (v := .ref 3) dX8_work_37 rfl rfl rfl ?_
      refine jb_iload (pc' := 42) dX8_work_40 rfl rfl ?_
      refine jb_iload (pc' := 44) dX8_work_42 rfl rfl ?_
      refine jb_iload_n (pc' := 45) dX8_work_44 rfl rfl ?_
      refine jb_iload_n (pc' := 46) dX8_work_45 rfl rfl ?_
      refine jb_iload (pc' := 48) dX8_work_46 rfl rfl ?_
      refine jb_iload (pc' := 50) dX8_work_48 rfl rfl ?_
      refine jb_callS (pc' := 53) (As := [.int (f i), .int x, .int y, .int z, .int w]) (a2 := 0) (b2 := 0) wv_X8_96 dX8_work_50 (c_valueOf _ (f i) x y z w hA) rfl ⟨by decide, Nat.le_of_eq (Nat.zero_add _), Nat.le_of_eq (Nat.zero_add _)⟩ (Nat.le_of_ble_eq_true rfl) rfl (fun r h9 hq => ?_)
      obtain ⟨rfl, rfl⟩ := hq
      show jb_J _ RX8 cX8_work 9 (Option.some .int) false 1 0 0 53 [some (.ref 1), some (.ref (121 + q)), some (.int x), some (.int y), some (.int z), some (.int w), some (.int (nI m)), some (.int (nI i)), some (.int (f i))] [.int (jw_v (jx_N x y z w) (f i)), .int (nI m), .ref 3] [jb_main imm Im Tm rowm stkm tpm, s1, s2, s3, s4, s5, s6, s7, s8, s9, s10, s11] _
      refine jb_iastore (pc' := 54) (i9 := m) (f := stkm) (h' := [jb_main imm Im Tm rowm (upd stkm m (jw_v (jx_N x y z w) (f i))) tpm, s1, s2, s3, s4, s5, s6, s7, s8, s9, s10, s11]) dX8_work_53 rfl (jb_ix_nI (by omega)) (by omega) rfl rfl ?_
      refine jb_iinc_ (pc' := 57) (nI (m + 1)) dX8_work_54 (by decide) rfl (jb_inc m 1) (jb_at6 rfl) rfl ?_
      refine jb_goto (pc' := 142) dX8_work_57 (by decide) ?_
      refine jb_iinc_ (pc' := 145) (nI (i + 1)) dX8_work_142 (by decide) rfl (jb_inc i 1) (jb_at7 rfl) rfl ?_
      refine jb_goto (pc' := 6) dX8_work_145 (by decide) ?_
      refine ih (i + 1) (m + 1) (jw_v (jx_N x y z w) (f i) :: st) (upd stkm m (jw_v (jx_N x y z w) (f i))) _ (by omega) (by rw [List.length_cons, hm]) (by omega) (jk_push hm hs) ?_
      exact hv
    by_cases hB : f i = -33
    · match st, hm, hs, hv with
      | [], hm, hs, hv =>
        rw [jw_s33n hA hB] at hv
        obtain rfl : m = 0 := hm.symm
        show jb_J _ RX8 cX8_work 9 (Option.some .int) false 1 0 0 6 [some (.ref 1), some (.ref (121 + q)), some (.int x), some (.int y), some (.int z), some (.int w), some (.int (nI 0)), some (.int (nI i)), x8] [] [jb_main imm Im Tm rowm stkm tpm, s1, s2, s3, s4, s5, s6, s7, s8, s9, s10, s11] _
        refine jb_iload (pc' := 8) dX8_work_6 rfl rfl ?_
        refine jb_aload_n (pc' := 9) dX8_work_8 rfl rfl ?_
        refine jb_alen (pc' := 10) (nI c.length) (by decide) dX8_work_9 ((jl_at q).trans hq) rfl rfl ?_
        refine jb_icmp_ge (tgt := 148) (pc' := 13) dX8_work_10 (by decide) rfl (fun z => absurd z (nI_ge (a := i) (b := c.length) (by omega) (by omega))) (fun _ => ?_)
        refine jb_aload_n (pc' := 14) dX8_work_13 rfl rfl ?_
        refine jb_iload (pc' := 16) dX8_work_14 rfl rfl ?_
        refine jb_iaload (pc' := 17) (i9 := i) (f := f) dX8_work_16 ((jl_at q).trans hq) (jb_ix_nI (by omega)) (by omega) rfl ?_
        refine jb_istore_ (pc' := 19) dX8_work_17 (by decide) (jb_at8 rfl) rfl ?_
        refine jb_iload (pc' := 21) dX8_work_19 rfl rfl ?_
        refine jb_bipush (pc' := 23) (-4) dX8_work_21 (by decide) rfl ?_
        refine jb_icmp_lt (tgt := 60) (pc' := 26) dX8_work_23 (by decide) rfl (fun _ => ?_) (fun z => absurd (Int32.not_le.mp hA) z)
        refine jb_iload (pc' := 62) dX8_work_60 rfl rfl ?_
        refine jb_bipush (pc' := 64) (-33) dX8_work_62 (by decide) rfl ?_
        refine jb_icmp_ne (tgt := 102) (pc' := 67) dX8_work_64 (by decide) rfl (fun z => absurd hB z) (fun _ => ?_)
        refine jb_iload (pc' := 69) dX8_work_67 rfl rfl ?_
        refine jb_iconst (pc' := 70) 1 dX8_work_69 (by decide) rfl ?_
        refine jb_icmp_lt (tgt := 142) (pc' := 73) dX8_work_70 (by decide) rfl (fun _ => ?_) (fun z => absurd (by decide) z)
        refine jb_iinc_ (pc' := 145) (nI (i + 1)) dX8_work_142 (by decide) rfl (jb_inc i 1) (jb_at7 rfl) rfl ?_
        refine jb_goto (pc' := 6) dX8_work_145 (by decide) ?_
        refine ih (i + 1) (0) ([]) stkm _ (by omega) rfl (by omega) trivial ?_
        exact hv
      | b :: r, hm, hs, hv =>
        rw [jw_s33c hA hB] at hv
        obtain ⟨m1, hm1⟩ : ∃ m1, r.length = m1 := ⟨_, rfl⟩
        obtain rfl : m = m1 + 1 := by rw [← hm, ← hm1]; rfl
        have hs0 : stkm m1 = b := hm1 ▸ hs.1
        show jb_J _ RX8 cX8_work 9 (Option.some .int) false 1 0 0 6 [some (.ref 1), some (.ref (121 + q)), some (.int x), some (.int y), some (.int z), some (.int w), some (.int (nI (m1 + 1))), some (.int (nI i)), x8] [] [jb_main imm Im Tm rowm stkm tpm, s1, s2, s3, s4, s5, s6, s7, s8, s9, s10, s11] _
        refine jb_iload (pc' := 8) dX8_work_6 rfl rfl ?_
        refine jb_aload_n (pc' := 9) dX8_work_8 rfl rfl ?_
        refine jb_alen (pc' := 10) (nI c.length) (by decide) dX8_work_9 ((jl_at q).trans hq) rfl rfl ?_
        refine jb_icmp_ge (tgt := 148) (pc' := 13) dX8_work_10 (by decide) rfl (fun z => absurd z (nI_ge (a := i) (b := c.length) (by omega) (by omega))) (fun _ => ?_)
        refine jb_aload_n (pc' := 14) dX8_work_13 rfl rfl ?_
        refine jb_iload (pc' := 16) dX8_work_14 rfl rfl ?_
        refine jb_iaload (pc' := 17) (i9 := i) (f := f) dX8_work_16 ((jl_at q).trans hq) (jb_ix_nI (by omega)) (by omega) rfl ?_
        refine jb_istore_ (pc' := 19) dX8_work_17 (by decide) (jb_at8 rfl) rfl ?_
        refine jb_iload (pc' := 21) dX8_work_19 rfl rfl ?_
        refine jb_bipush (pc' := 23) (-4) dX8_work_21 (by decide) rfl ?_
        refine jb_icmp_lt (tgt := 60) (pc' := 26) dX8_work_23 (by decide) rfl (fun _ => ?_) (fun z => absurd (Int32.not_le.mp hA) z)
        refine jb_iload (pc' := 62) dX8_work_60 rfl rfl ?_
        refine jb_bipush (pc' := 64) (-33) dX8_work_62 (by decide) rfl ?_
        refine jb_icmp_ne (tgt := 102) (pc' := 67) dX8_work_64 (by decide) rfl (fun z => absurd hB z) (fun _ => ?_)
        refine jb_iload (pc' := 69) dX8_work_67 rfl rfl ?_
        refine jb_iconst (pc' := 70) 1 dX8_work_69 (by decide) rfl ?_
        refine jb_icmp_lt (tgt := 142) (pc' := 73) dX8_work_70 (by decide) rfl (fun z => absurd z (nI_nlt (a := m1 + 1) (b := 1) (by omega) (by omega))) (fun _ => ?_)
        refine jb_aload_n (pc' := 74) dX8_work_73 rfl rfl ?_
        refine gf_X8_15 (pc' := 77) (v := .ref 3) dX8_work_74 rfl rfl rfl ?_
        refine jb_iload (pc' := 79) dX8_work_77 rfl rfl ?_
        refine jb_iconst (pc' := 80) 1 dX8_work_79 (by decide) rfl ?_
        refine jb_isub (pc' := 81) dX8_work_80 rfl ?_
        refine jb_top (v := .int ((nI (m1 + 1)) - 1)) (w := .int (nI m1)) (jb_vI (nI_pred _)) ?_
        refine jb_aload_n (pc' := 82) dX8_work_81 rfl rfl ?_
        refine gf_X8_15 (pc' := 85) (v := .ref 3) dX8_work_82 rfl rfl rfl ?_
        refine jb_iload (pc' := 87) dX8_work_85 rfl rfl ?_
        refine jb_iconst (pc' := 88) 1 dX8_work_87 (by decide) rfl ?_
        refine jb_isub (pc' := 89) dX8_work_88 rfl ?_
        refine jb_top (v := .int ((nI (m1 + 1)) - 1)) (w := .int (nI m1)) (jb_vI (nI_pred _)) ?_
        refine jb_iaload (pc' := 90) (i9 := m1) (f := stkm) dX8_work_89 rfl (jb_ix_nI (by omega)) (by omega) rfl ?_
        refine jb_if_ne (tgt := 97) (pc' := 93) dX8_work_90 (by decide) rfl (fun hz => ?_) (fun hz => ?_)
        · refine jb_iconst (pc' := 98) 0 dX8_work_97 (by decide) rfl ?_
          refine jb_iastore (pc' := 99) (i9 := m1) (f := stkm) (h' := [jb_main imm Im Tm rowm (upd stkm m1 0) tpm, s1, s2, s3, s4, s5, s6, s7, s8, s9, s10, s11]) dX8_work_98 rfl (jb_ix_nI (by omega)) (by omega) rfl rfl ?_
          refine jb_goto (pc' := 142) dX8_work_99 (by decide) ?_
          refine jb_iinc_ (pc' := 145) (nI (i + 1)) dX8_work_142 (by decide) rfl (jb_inc i 1) (jb_at7 rfl) rfl ?_
          refine jb_goto (pc' := 6) dX8_work_145 (by decide) ?_
          refine ih (i + 1) (m1 + 1) (0 :: r) (upd stkm m1 0) _ (by omega) (by rw [List.length_cons, hm1]) (by omega) (jk_push hm1 hs.2) ?_
          rw [← hv]
          show _ = jw_ _ _ ((if b = 0 then 1 else 0) :: r)
          rw [if_neg (fun z9 => hz (hs0.trans z9))]
        · refine jb_iconst (pc' := 94) 1 dX8_work_93 (by decide) rfl ?_
          refine jb_goto (pc' := 98) dX8_work_94 (by decide) ?_
          refine jb_iastore (pc' := 99) (i9 := m1) (f := stkm) (h' := [jb_main imm Im Tm rowm (upd stkm m1 1) tpm, s1, s2, s3, s4, s5, s6, s7, s8, s9, s10, s11]) dX8_work_98 rfl (jb_ix_nI (by omega)) (by omega) rfl rfl ?_
          refine jb_goto (pc' := 142) dX8_work_99 (by decide) ?_
          refine jb_iinc_ (pc' := 145) (nI (i + 1)) dX8_work_142 (by decide) rfl (jb_inc i 1) (jb_at7 rfl) rfl ?_
          refine jb_goto (pc' := 6) dX8_work_145 (by decide) ?_
          refine ih (i + 1) (m1 + 1) (1 :: r) (upd stkm m1 1) _ (by omega) (by rw [List.length_cons, hm1]) (by omega) (jk_push hm1 hs.2) ?_
          rw [← hv]
          show _ = jw_ _ _ ((if b = 0 then 1 else 0) :: r)
          rw [if_pos (hs0.symm.trans hz)]
    match st, hm, hs, hv with
    | [], hm, hs, hv =>
      rw [jw_sg0 hA hB] at hv
      obtain rfl : m = 0 := hm.symm
      show jb_J _ RX8 cX8_work 9 (Option.some .int) false 1 0 0 6 [some (.ref 1), some (.ref (121 + q)), some (.int x), some (.int y), some (.int z), some (.int w), some (.int (nI 0)), some (.int (nI i)), x8] [] [jb_main imm Im Tm rowm stkm tpm, s1, s2, s3, s4, s5, s6, s7, s8, s9, s10, s11] _
      refine jb_iload (pc' := 8) dX8_work_6 rfl rfl ?_
      refine jb_aload_n (pc' := 9) dX8_work_8 rfl rfl ?_
      refine jb_alen (pc' := 10) (nI c.length) (by decide) dX8_work_9 ((jl_at q).trans hq) rfl rfl ?_
      refine jb_icmp_ge (tgt := 148) (pc' := 13) dX8_work_10 (by decide) rfl (fun z => absurd z (nI_ge (a := i) (b := c.length) (by omega) (by omega))) (fun _ => ?_)
      refine jb_aload_n (pc' := 14) dX8_work_13 rfl rfl ?_
      refine jb_iload (pc' := 16) dX8_work_14 rfl rfl ?_
      refine jb_iaload (pc' := 17) (i9 := i) (f := f) dX8_work_16 ((jl_at q).trans hq) (jb_ix_nI (by omega)) (by omega) rfl ?_
      refine jb_istore_ (pc' := 19) dX8_work_17 (by decide) (jb_at8 rfl) rfl ?_
      refine jb_iload (pc' := 21) dX8_work_19 rfl rfl ?_
      refine jb_bipush (pc' := 23) (-4) dX8_work_21 (by decide) rfl ?_
      refine jb_icmp_lt (tgt := 60) (pc' := 26) dX8_work_23 (by decide) rfl (fun _ => ?_) (fun z => absurd (Int32.not_le.mp hA) z)
      refine jb_iload (pc' := 62) dX8_work_60 rfl rfl ?_
      refine jb_bipush (pc' := 64) (-33) dX8_work_62 (by decide) rfl ?_
      refine jb_icmp_ne (tgt := 102) (pc' := 67) dX8_work_64 (by decide) rfl (fun _ => ?_) (fun z => absurd z hB)
      refine jb_iload (pc' := 104) dX8_work_102 rfl rfl ?_
      refine jb_iconst (pc' := 105) 2 dX8_work_104 (by decide) rfl ?_
      refine jb_icmp_lt (tgt := 142) (pc' := 108) dX8_work_105 (by decide) rfl (fun _ => ?_) (fun z => absurd (by decide) z)
      refine jb_iinc_ (pc' := 145) (nI (i + 1)) dX8_work_142 (by decide) rfl (jb_inc i 1) (jb_at7 rfl) rfl ?_
      refine jb_goto (pc' := 6) dX8_work_145 (by decide) ?_
      refine ih (i + 1) (0) ([]) stkm _ (by omega) rfl (by omega) hs ?_
      exact hv
    | [b], hm, hs, hv =>
      rw [jw_sg1 hA hB] at hv
      obtain rfl : m = 1 := hm.symm
      show jb_J _ RX8 cX8_work 9 (Option.some .int) false 1 0 0 6 [some (.ref 1), some (.ref (121 + q)), some (.int x), some (.int y), some (.int z), some (.int w), some (.int (nI 1)), some (.int (nI i)), x8] [] [jb_main imm Im Tm rowm stkm tpm, s1, s2, s3, s4, s5, s6, s7, s8, s9, s10, s11] _
      refine jb_iload (pc' := 8) dX8_work_6 rfl rfl ?_
      refine jb_aload_n (pc' := 9) dX8_work_8 rfl rfl ?_
      refine jb_alen (pc' := 10) (nI c.length) (by decide) dX8_work_9 ((jl_at q).trans hq) rfl rfl ?_
      refine jb_icmp_ge (tgt := 148) (pc' := 13) dX8_work_10 (by decide) rfl (fun z => absurd z (nI_ge (a := i) (b := c.length) (by omega) (by omega))) (fun _ => ?_)
      refine jb_aload_n (pc' := 14) dX8_work_13 rfl rfl ?_
      refine jb_iload (pc' := 16) dX8_work_14 rfl rfl ?_
      refine jb_iaload (pc' := 17) (i9 := i) (f := f) dX8_work_16 ((jl_at q).trans hq) (jb_ix_nI (by omega)) (by omega) rfl ?_
      refine jb_istore_ (pc' := 19) dX8_work_17 (by decide) (jb_at8 rfl) rfl ?_
      refine jb_iload (pc' := 21) dX8_work_19 rfl rfl ?_
      refine jb_bipush (pc' := 23) (-4) dX8_work_21 (by decide) rfl ?_
      refine jb_icmp_lt (tgt := 60) (pc' := 26) dX8_work_23 (by decide) rfl (fun _ => ?_) (fun z => absurd (Int32.not_le.mp hA) z)
      refine jb_iload (pc' := 62) dX8_work_60 rfl rfl ?_
      refine jb_bipush (pc' := 64) (-33) dX8_work_62 (by decide) rfl ?_
      refine jb_icmp_ne (tgt := 102) (pc' := 67) dX8_work_64 (by decide) rfl (fun _ => ?_) (fun z => absurd z hB)
      refine jb_iload (pc' := 104) dX8_work_102 rfl rfl ?_
      refine jb_iconst (pc' := 105) 2 dX8_work_104 (by decide) rfl ?_
      refine jb_icmp_lt (tgt := 142) (pc' := 108) dX8_work_105 (by decide) rfl (fun _ => ?_) (fun z => absurd (by decide) z)
      refine jb_iinc_ (pc' := 145) (nI (i + 1)) dX8_work_142 (by decide) rfl (jb_inc i 1) (jb_at7 rfl) rfl ?_
      refine jb_goto (pc' := 6) dX8_work_145 (by decide) ?_
      refine ih (i + 1) (1) ([b]) stkm _ (by omega) rfl (by omega) hs ?_
      exact hv
    | b :: b2 :: r, hm, hs, hv =>
      rw [jw_sg2 hA hB] at hv
      obtain ⟨m1, hm1⟩ : ∃ m1, r.length = m1 := ⟨_, rfl⟩
      obtain rfl : m = m1 + 1 + 1 := by rw [← hm, ← hm1]; rfl
      have hs0 : stkm (m1 + 1) = b := hm1 ▸ hs.1
      have hs1 : stkm m1 = b2 := hm1 ▸ hs.2.1
      show jb_J _ RX8 cX8_work 9 (Option.some .int) false 1 0 0 6 [some (.ref 1), some (.ref (121 + q)), some (.int x), some (.int y), some (.int z), some (.int w), some (.int (nI (m1 + 1 + 1))), some (.int (nI i)), x8] [] [jb_main imm Im Tm rowm stkm tpm, s1, s2, s3, s4, s5, s6, s7, s8, s9, s10, s11] _
      refine jb_iload (pc' := 8) dX8_work_6 rfl rfl ?_
      refine jb_aload_n (pc' := 9) dX8_work_8 rfl rfl ?_
      refine jb_alen (pc' := 10) (nI c.length) (by decide) dX8_work_9 ((jl_at q).trans hq) rfl rfl ?_
      refine jb_icmp_ge (tgt := 148) (pc' := 13) dX8_work_10 (by decide) rfl (fun z => absurd z (nI_ge (a := i) (b := c.length) (by omega) (by omega))) (fun _ => ?_)
      refine jb_aload_n (pc' := 14) dX8_work_13 rfl rfl ?_
      refine jb_iload (pc' := 16) dX8_work_14 rfl rfl ?_
      refine jb_iaload (pc' := 17) (i9 := i) (f := f) dX8_work_16 ((jl_at q).trans hq) (jb_ix_nI (by omega)) (by omega) rfl ?_
      refine jb_istore_ (pc' := 19) dX8_work_17 (by decide) (jb_at8 rfl) rfl ?_
      refine jb_iload (pc' := 21) dX8_work_19 rfl rfl ?_
      refine jb_bipush (pc' := 23) (-4) dX8_work_21 (by decide) rfl ?_
      refine jb_icmp_lt (tgt := 60) (pc' := 26) dX8_work_23 (by decide) rfl (fun _ => ?_) (fun z => absurd (Int32.not_le.mp hA) z)
      refine jb_iload (pc' := 62) dX8_work_60 rfl rfl ?_
      refine jb_bipush (pc' := 64) (-33) dX8_work_62 (by decide) rfl ?_
      refine jb_icmp_ne (tgt := 102) (pc' := 67) dX8_work_64 (by decide) rfl (fun _ => ?_) (fun z => absurd z hB)
      refine jb_iload (pc' := 104) dX8_work_102 rfl rfl ?_
      refine jb_iconst (pc' := 105) 2 dX8_work_104 (by decide) rfl ?_
      refine jb_icmp_lt (tgt := 142) (pc' := 108) dX8_work_105 (by decide) rfl (fun z => absurd z (nI_nlt (a := m1 + 1 + 1) (b := 2) (by omega) (by omega))) (fun _ => ?_)
      refine jb_iinc_ (pc' := 111) (nI (m1 + 1)) dX8_work_108 (by decide) rfl (pk_m1 (m1 + 1)) (jb_at6 rfl) rfl ?_
      refine jb_aload_n (pc' := 112) dX8_work_111 rfl rfl ?_
      refine gf_X8_15 (pc' := 115) (v := .ref 3) dX8_work_112 rfl rfl rfl ?_
      refine jb_iload (pc' := 117) dX8_work_115 rfl rfl ?_
      refine jb_iconst (pc' := 118) 1 dX8_work_117 (by decide) rfl ?_
      refine jb_isub (pc' := 119) dX8_work_118 rfl ?_
      refine jb_top (v := .int ((nI (m1 + 1)) - 1)) (w := .int (nI m1)) (jb_vI (nI_pred _)) ?_
      refine jb_iload (pc' := 121) dX8_work_119 rfl rfl ?_
      refine jb_ineg (pc' := 122) dX8_work_121 rfl ?_
      refine jb_aload_n (pc' := 123) dX8_work_122 rfl rfl ?_
      refine gf_X8_15 (pc' := 126) (v := .ref 3) dX8_work_123 rfl rfl rfl ?_
      refine jb_iload (pc' := 128) dX8_work_126 rfl rfl ?_
      refine jb_iconst (pc' := 129) 1 dX8_work_128 (by decide) rfl ?_
      refine jb_isub (pc' := 130) dX8_work_129 rfl ?_
      refine jb_top (v := .int ((nI (m1 + 1)) - 1)) (w := .int (nI m1)) (jb_vI (nI_pred _)) ?_
      refine jb_iaload (pc' := 131) (i9 := m1) (f := stkm) dX8_work_130 rfl (jb_ix_nI (by omega)) (by omega) rfl ?_
      refine jb_top (v := .int (stkm m1)) (w := .int b2) (jb_vI hs1) ?_
      refine jb_aload_n (pc' := 132) dX8_work_131 rfl rfl ?_
      refine gf_X8_15 (pc' := 135) (v := .ref 3) dX8_work_132 rfl rfl rfl ?_
      refine jb_iload (pc' := 137) dX8_work_135 rfl rfl ?_
      refine jb_iaload (pc' := 138) (i9 := (m1 + 1)) (f := stkm) dX8_work_137 rfl (jb_ix_nI (by omega)) (by omega) rfl ?_
      refine jb_top (v := .int (stkm (m1 + 1))) (w := .int b) (jb_vI hs0) ?_
      refine jb_callS (pc' := 141) (As := [.int (-(f i)), .int b2, .int b]) (a2 := 0) (b2 := 0) wv_X8_100 dX8_work_138 (c_joined _ (-(f i)) b2 b) rfl ⟨by decide, Nat.le_of_eq (Nat.zero_add _), Nat.le_of_eq (Nat.zero_add _)⟩ (Nat.le_of_ble_eq_true rfl) rfl (fun r h9 hq => ?_)
      obtain ⟨rfl, rfl⟩ := hq
      show jb_J _ RX8 cX8_work 9 (Option.some .int) false 1 0 0 141 [some (.ref 1), some (.ref (121 + q)), some (.int x), some (.int y), some (.int z), some (.int w), some (.int (nI (m1 + 1))), some (.int (nI i)), some (.int (f i))] [.int (jw_j (-(f i)) b2 b), .int (nI m1), .ref 3] [jb_main imm Im Tm rowm stkm tpm, s1, s2, s3, s4, s5, s6, s7, s8, s9, s10, s11] _
      refine jb_iastore (pc' := 142) (i9 := m1) (f := stkm) (h' := [jb_main imm Im Tm rowm (upd stkm m1 (jw_j (-(f i)) b2 b)) tpm, s1, s2, s3, s4, s5, s6, s7, s8, s9, s10, s11]) dX8_work_141 rfl (jb_ix_nI (by omega)) (by omega) rfl rfl ?_
      refine jb_iinc_ (pc' := 145) (nI (i + 1)) dX8_work_142 (by decide) rfl (jb_inc i 1) (jb_at7 rfl) rfl ?_
      refine jb_goto (pc' := 6) dX8_work_145 (by decide) ?_
      refine ih (i + 1) (m1 + 1) (jw_j (-(f i)) b2 b :: r) (upd stkm m1 (jw_j (-(f i)) b2 b)) _ (by omega) (by rw [List.length_cons, hm1]) (by omega) (jk_push hm1 hs.2.2) ?_
      exact hv
set_option maxRecDepth 100000 in
set_option maxHeartbeats 4000000 in
theorem c_work {sc : Nat × (Nat → Int32)} {s1 s2 s3 s4 s5 s6 s7 s8 s9 s10 s11 : List va_E} (imm : Int32) (Im rowm stkm tpm : Nat → Int32) (Tm : Nat → Value) (x y z w : Int32) (c : List Int32) (q : Nat) (f : Nat → Int32) (hq : s11[q]? = some (.inl (0, c.length, .inl f))) (hf : ∀ j, j < c.length → f j = c.getD j 0) (hc : c.length ≤ 50) (hw : jw_f c) : jb_C sc yX8_work cX8_work 9 (Option.some .int) 1 0 0 [.ref 1, .ref (121 + q), .int x, .int y, .int z, .int w] [jb_main imm Im Tm rowm stkm tpm, s1, s2, s3, s4, s5, s6, s7, s8, s9, s10, s11] (fun r h9 => r = some (.int (jv_ (jx_N x y z w) c)) ∧ ∃ stk9, h9 = [jb_main imm Im Tm rowm stk9 tpm, s1, s2, s3, s4, s5, s6, s7, s8, s9, s10, s11]) := by
  refine jb_CofJ (ini := false) (by decide +kernel) (fun h => by cases h) (Nat.le_of_ble_eq_true rfl) ?_
  show jb_J sc RX8 cX8_work 9 (Option.some .int) false 1 0 0 0 [some (.ref 1), some (.ref (121 + q)), some (.int x), some (.int y), some (.int z), some (.int w), none, none, none] [] [jb_main imm Im Tm rowm stkm tpm, s1, s2, s3, s4, s5, s6, s7, s8, s9, s10, s11] _
  refine jb_iconst (pc' := 1) 0 dX8_work_0 (by decide) rfl ?_
  refine jb_istore_ (pc' := 3) dX8_work_1 (by decide) (jb_at6 rfl) rfl ?_
  refine jb_iconst (pc' := 4) 0 dX8_work_3 (by decide) rfl ?_
  refine jb_istore_ (pc' := 6) dX8_work_4 (by decide) (jb_at7 rfl) rfl ?_
  exact l_work imm Im rowm tpm Tm x y z w c q f hq hf hc (jv_ (jx_N x y z w) c) c.length 0 0 [] stkm _ (by omega) rfl (by omega) trivial (hw (jx_N x y z w) [])
set_option maxRecDepth 100000 in
set_option maxHeartbeats 4000000 in
theorem c_gives0n_13 {sc : Nat × (Nat → Int32)} {s2 s3 s4 s5 s6 s7 s8 s9 s10 s11 : List va_E} (imm : Int32) (Im rowm stkm tpm : Nat → Int32) (Tm : Nat → Value) (I : Nat → Int32) (W : Nat → Nat → Int32) (T : Nat → Value) (x y z w : Int32) (X : Nat → Option (List Int32)) (h1 : X 0 = none) (hT : T 0 = .null) : jb_C sc yX9_gives cX9_gives 7 (Option.some .int) 4 0 0 [.ref 13, .int 0, .int x, .int y, .int z, .int w] [jb_main imm Im Tm rowm stkm tpm, jb_sch13 I W T, s2, s3, s4, s5, s6, s7, s8, s9, s10, s11] (fun r h9 => r = some (.int (jx_G X 0 x y z w)) ∧ ∃ stk9, h9 = [jb_main imm Im Tm rowm stk9 tpm, jb_sch13 I W T, s2, s3, s4, s5, s6, s7, s8, s9, s10, s11]) := by
  refine jb_CofJ (ini := false) (by decide +kernel) (fun h => by cases h) (Nat.le_of_ble_eq_true rfl) ?_
  show jb_J sc RX9 cX9_gives 7 (Option.some .int) false 4 0 0 0 [some (.ref 13), some (.int 0), some (.int x), some (.int y), some (.int z), some (.int w), none] [] [jb_main imm Im Tm rowm stkm tpm, jb_sch13 I W T, s2, s3, s4, s5, s6, s7, s8, s9, s10, s11] _
  refine jb_iload_n (pc' := 1) dX9_gives_0 rfl rfl ?_
  refine jb_if_ne (tgt := 47) (pc' := 4) dX9_gives_1 (by decide) rfl (fun z => absurd (by decide) z) (fun _ => ?_)
  refine jb_aload_n (pc' := 5) dX9_gives_4 rfl rfl ?_
  refine gf_X9_42 (pc' := 8) (v := (T 0)) dX9_gives_5 rfl rfl rfl ?_
  refine jb_top (v := (T 0)) (w := .null) hT ?_
  refine jb_nonnull_f (pc' := 11) dX9_gives_8 rfl ?_
  refine jb_iconst (pc' := 12) 0 dX9_gives_11 (by decide) rfl ?_
  refine jb_goto (pc' := 32) dX9_gives_12 (by decide) ?_
  refine jb_istore_ (pc' := 34) dX9_gives_32 (by decide) (jb_at6 rfl) rfl ?_
  refine jb_bipush (pc' := 36) (-10) dX9_gives_34 (by decide) rfl ?_
  refine jb_bipush (pc' := 38) 10 dX9_gives_36 (by decide) rfl ?_
  refine jb_iload (pc' := 40) dX9_gives_38 rfl rfl ?_
  refine jb_mmin (pc' := 43) wv_X9_99 dX9_gives_40 (by decide) (Nat.le_of_ble_eq_true rfl) rfl ?_
  refine jb_mmax (pc' := 46) wv_X9_105 dX9_gives_43 (by decide) (Nat.le_of_ble_eq_true rfl) rfl ?_
  refine jb_top (v := .int (if (-10) < (if 0 < 10 then 0 else 10) then (if 0 < 10 then 0 else 10) else (-10))) (w := .int (jm_cl (-10) 10 0)) (jb_vI (jk_cl10' _)) ?_
  refine jb_iret dX9_gives_46 rfl ?_
  refine ⟨congrArg (fun q => some (Value.int q)) ?_, stkm, rfl⟩
  show _ = jm_cl _ _ _
  rw [show X 0 = none from h1]
  rfl
set_option maxRecDepth 100000 in
set_option maxHeartbeats 4000000 in
theorem c_gives0s_13 {sc : Nat × (Nat → Int32)} {s2 s3 s4 s5 s6 s7 s8 s9 s10 s11 : List va_E} (imm : Int32) (Im rowm stkm tpm : Nat → Int32) (Tm : Nat → Value) (I : Nat → Int32) (W : Nat → Nat → Int32) (T : Nat → Value) (x y z w : Int32) (X : Nat → Option (List Int32)) (c : List Int32) (q : Nat) (f : Nat → Int32) (h1 : X 0 = some c) (hT : T 0 = .ref (121 + q)) (hq : s11[q]? = some (.inl (0, c.length, .inl f))) (hf : ∀ j, j < c.length → f j = c.getD j 0) (hc : c.length ≤ 50) (hw : jw_f c) : jb_C sc yX9_gives cX9_gives 7 (Option.some .int) 4 0 0 [.ref 13, .int 0, .int x, .int y, .int z, .int w] [jb_main imm Im Tm rowm stkm tpm, jb_sch13 I W T, s2, s3, s4, s5, s6, s7, s8, s9, s10, s11] (fun r h9 => r = some (.int (jx_G X 0 x y z w)) ∧ ∃ stk9, h9 = [jb_main imm Im Tm rowm stk9 tpm, jb_sch13 I W T, s2, s3, s4, s5, s6, s7, s8, s9, s10, s11]) := by
  refine jb_CofJ (ini := false) (by decide +kernel) (fun h => by cases h) (Nat.le_of_ble_eq_true rfl) ?_
  show jb_J sc RX9 cX9_gives 7 (Option.some .int) false 4 0 0 0 [some (.ref 13), some (.int 0), some (.int x), some (.int y), some (.int z), some (.int w), none] [] [jb_main imm Im Tm rowm stkm tpm, jb_sch13 I W T, s2, s3, s4, s5, s6, s7, s8, s9, s10, s11] _
  refine jb_iload_n (pc' := 1) dX9_gives_0 rfl rfl ?_
  refine jb_if_ne (tgt := 47) (pc' := 4) dX9_gives_1 (by decide) rfl (fun z => absurd (by decide) z) (fun _ => ?_)
  refine jb_aload_n (pc' := 5) dX9_gives_4 rfl rfl ?_
  refine gf_X9_42 (pc' := 8) (v := (T 0)) dX9_gives_5 rfl rfl rfl ?_
  refine jb_top (v := (T 0)) (w := .ref (121 + q)) hT ?_
  refine jb_nonnull (pc' := 15) dX9_gives_8 (by decide) ?_
  refine jb_aload_n (pc' := 16) dX9_gives_15 rfl rfl ?_
  refine gf_X9_64 (pc' := 19) (v := .ref 1) dX9_gives_16 rfl rfl rfl ?_
  refine jb_aload_n (pc' := 20) dX9_gives_19 rfl rfl ?_
  refine gf_X9_42 (pc' := 23) (v := (T 0)) dX9_gives_20 rfl rfl rfl ?_
  refine jb_top (v := (T 0)) (w := .ref (121 + q)) hT ?_
  refine jb_iload_n (pc' := 24) dX9_gives_23 rfl rfl ?_
  refine jb_iload_n (pc' := 25) dX9_gives_24 rfl rfl ?_
  refine jb_iload (pc' := 27) dX9_gives_25 rfl rfl ?_
  refine jb_iload (pc' := 29) dX9_gives_27 rfl rfl ?_
  refine jb_callV (pc' := 32) (ci := 8) (q := 1) (As := [.ref (121 + q), .int x, .int y, .int z, .int w]) (a2 := 0) (b2 := 0) wv_X9_111 rfl dX9_gives_29 (c_work imm Im rowm stkm tpm Tm x y z w c q f hq hf hc hw) rfl rfl ⟨by decide, Nat.le_of_eq (Nat.zero_add _), Nat.le_of_eq (Nat.zero_add _)⟩ (Nat.le_of_ble_eq_true rfl) rfl (fun r h9 hq => ?_)
  obtain ⟨rfl, stk9, rfl⟩ := hq
  show jb_J _ RX9 cX9_gives 7 (Option.some .int) false 4 0 0 32 [some (.ref 13), some (.int 0), some (.int x), some (.int y), some (.int z), some (.int w), none] [.int (jv_ (jx_N x y z w) c)] [jb_main imm Im Tm rowm stk9 tpm, jb_sch13 I W T, s2, s3, s4, s5, s6, s7, s8, s9, s10, s11] _
  refine jb_istore_ (pc' := 34) dX9_gives_32 (by decide) (jb_at6 rfl) rfl ?_
  refine jb_bipush (pc' := 36) (-10) dX9_gives_34 (by decide) rfl ?_
  refine jb_bipush (pc' := 38) 10 dX9_gives_36 (by decide) rfl ?_
  refine jb_iload (pc' := 40) dX9_gives_38 rfl rfl ?_
  refine jb_mmin (pc' := 43) wv_X9_99 dX9_gives_40 (by decide) (Nat.le_of_ble_eq_true rfl) rfl ?_
  refine jb_mmax (pc' := 46) wv_X9_105 dX9_gives_43 (by decide) (Nat.le_of_ble_eq_true rfl) rfl ?_
  refine jb_top (v := .int (if (-10) < (if (jv_ (jx_N x y z w) c) < 10 then (jv_ (jx_N x y z w) c) else 10) then (if (jv_ (jx_N x y z w) c) < 10 then (jv_ (jx_N x y z w) c) else 10) else (-10))) (w := .int (jm_cl (-10) 10 (jv_ (jx_N x y z w) c))) (jb_vI (jk_cl10' _)) ?_
  refine jb_iret dX9_gives_46 rfl ?_
  refine ⟨congrArg (fun q => some (Value.int q)) ?_, stk9, rfl⟩
  show _ = jm_cl _ _ _
  rw [show X 0 = some c from h1]
  rfl
set_option maxRecDepth 100000 in
set_option maxHeartbeats 4000000 in
theorem c_gives1n_13 {sc : Nat × (Nat → Int32)} {s2 s3 s4 s5 s6 s7 s8 s9 s10 s11 : List va_E} (imm : Int32) (Im rowm stkm tpm : Nat → Int32) (Tm : Nat → Value) (I : Nat → Int32) (W : Nat → Nat → Int32) (T : Nat → Value) (x y z w : Int32) (X : Nat → Option (List Int32)) (h1 : X 1 = none) (hT : T 1 = .null) : jb_C sc yX9_gives cX9_gives 7 (Option.some .int) 4 0 0 [.ref 13, .int 1, .int x, .int y, .int z, .int w] [jb_main imm Im Tm rowm stkm tpm, jb_sch13 I W T, s2, s3, s4, s5, s6, s7, s8, s9, s10, s11] (fun r h9 => r = some (.int (jx_G X 1 x y z w)) ∧ ∃ stk9, h9 = [jb_main imm Im Tm rowm stk9 tpm, jb_sch13 I W T, s2, s3, s4, s5, s6, s7, s8, s9, s10, s11]) := by
  refine jb_CofJ (ini := false) (by decide +kernel) (fun h => by cases h) (Nat.le_of_ble_eq_true rfl) ?_
  show jb_J sc RX9 cX9_gives 7 (Option.some .int) false 4 0 0 0 [some (.ref 13), some (.int 1), some (.int x), some (.int y), some (.int z), some (.int w), none] [] [jb_main imm Im Tm rowm stkm tpm, jb_sch13 I W T, s2, s3, s4, s5, s6, s7, s8, s9, s10, s11] _
  refine jb_iload_n (pc' := 1) dX9_gives_0 rfl rfl ?_
  refine jb_if_ne (tgt := 47) (pc' := 4) dX9_gives_1 (by decide) rfl (fun _ => ?_) (fun z => absurd z (by decide))
  refine jb_aload_n (pc' := 48) dX9_gives_47 rfl rfl ?_
  refine gf_X9_45 (pc' := 51) (v := (T 1)) dX9_gives_48 rfl rfl rfl ?_
  refine jb_top (v := (T 1)) (w := .null) hT ?_
  refine jb_nonnull_f (pc' := 54) dX9_gives_51 rfl ?_
  refine jb_iload_n (pc' := 55) dX9_gives_54 rfl rfl ?_
  refine jb_iconst (pc' := 56) 1 dX9_gives_55 (by decide) rfl ?_
  refine jb_iadd (pc' := 57) dX9_gives_56 rfl ?_
  refine jb_goto (pc' := 77) dX9_gives_57 (by decide) ?_
  refine jb_istore_ (pc' := 79) dX9_gives_77 (by decide) (jb_at6 rfl) rfl ?_
  refine jb_iconst (pc' := 80) 0 dX9_gives_79 (by decide) rfl ?_
  refine jb_iload (pc' := 82) dX9_gives_80 rfl rfl ?_
  refine jb_bipush (pc' := 84) 40 dX9_gives_82 (by decide) rfl ?_
  refine jb_irem (pc' := 85) dX9_gives_84 (by decide) rfl ?_
  refine jb_mmax (pc' := 88) wv_X9_105 dX9_gives_85 (by decide) (Nat.le_of_ble_eq_true rfl) rfl ?_
  refine jb_top (v := .int (if 0 < ((x + 1) - (x + 1) / 40 * 40) then ((x + 1) - (x + 1) / 40 * 40) else 0)) (w := .int (jm_cl 0 39 ((x + 1) - (x + 1) / 40 * 40))) (jb_vI (jk_rem40 _)) ?_
  refine jb_iret dX9_gives_88 rfl ?_
  refine ⟨congrArg (fun q => some (Value.int q)) ?_, stkm, rfl⟩
  show _ = jm_cl _ _ _
  rw [show X 1 = none from h1]
  rfl
set_option maxRecDepth 100000 in
set_option maxHeartbeats 4000000 in
theorem c_gives1s_13 {sc : Nat × (Nat → Int32)} {s2 s3 s4 s5 s6 s7 s8 s9 s10 s11 : List va_E} (imm : Int32) (Im rowm stkm tpm : Nat → Int32) (Tm : Nat → Value) (I : Nat → Int32) (W : Nat → Nat → Int32) (T : Nat → Value) (x y z w : Int32) (X : Nat → Option (List Int32)) (c : List Int32) (q : Nat) (f : Nat → Int32) (h1 : X 1 = some c) (hT : T 1 = .ref (121 + q)) (hq : s11[q]? = some (.inl (0, c.length, .inl f))) (hf : ∀ j, j < c.length → f j = c.getD j 0) (hc : c.length ≤ 50) (hw : jw_f c) : jb_C sc yX9_gives cX9_gives 7 (Option.some .int) 4 0 0 [.ref 13, .int 1, .int x, .int y, .int z, .int w] [jb_main imm Im Tm rowm stkm tpm, jb_sch13 I W T, s2, s3, s4, s5, s6, s7, s8, s9, s10, s11] (fun r h9 => r = some (.int (jx_G X 1 x y z w)) ∧ ∃ stk9, h9 = [jb_main imm Im Tm rowm stk9 tpm, jb_sch13 I W T, s2, s3, s4, s5, s6, s7, s8, s9, s10, s11]) := by
  refine jb_CofJ (ini := false) (by decide +kernel) (fun h => by cases h) (Nat.le_of_ble_eq_true rfl) ?_
  show jb_J sc RX9 cX9_gives 7 (Option.some .int) false 4 0 0 0 [some (.ref 13), some (.int 1), some (.int x), some (.int y), some (.int z), some (.int w), none] [] [jb_main imm Im Tm rowm stkm tpm, jb_sch13 I W T, s2, s3, s4, s5, s6, s7, s8, s9, s10, s11] _
  refine jb_iload_n (pc' := 1) dX9_gives_0 rfl rfl ?_
  refine jb_if_ne (tgt := 47) (pc' := 4) dX9_gives_1 (by decide) rfl (fun _ => ?_) (fun z => absurd z (by decide))
  refine jb_aload_n (pc' := 48) dX9_gives_47 rfl rfl ?_
  refine gf_X9_45 (pc' := 51) (v := (T 1)) dX9_gives_48 rfl rfl rfl ?_
  refine jb_top (v := (T 1)) (w := .ref (121 + q)) hT ?_
  refine jb_nonnull (pc' := 60) dX9_gives_51 (by decide) ?_
  refine jb_aload_n (pc' := 61) dX9_gives_60 rfl rfl ?_
  refine gf_X9_64 (pc' := 64) (v := .ref 1) dX9_gives_61 rfl rfl rfl ?_
  refine jb_aload_n (pc' := 65) dX9_gives_64 rfl rfl ?_
  refine gf_X9_45 (pc' := 68) (v := (T 1)) dX9_gives_65 rfl rfl rfl ?_
  refine jb_top (v := (T 1)) (w := .ref (121 + q)) hT ?_
  refine jb_iload_n (pc' := 69) dX9_gives_68 rfl rfl ?_
  refine jb_iload_n (pc' := 70) dX9_gives_69 rfl rfl ?_
  refine jb_iload (pc' := 72) dX9_gives_70 rfl rfl ?_
  refine jb_iload (pc' := 74) dX9_gives_72 rfl rfl ?_
  refine jb_callV (pc' := 77) (ci := 8) (q := 1) (As := [.ref (121 + q), .int x, .int y, .int z, .int w]) (a2 := 0) (b2 := 0) wv_X9_111 rfl dX9_gives_74 (c_work imm Im rowm stkm tpm Tm x y z w c q f hq hf hc hw) rfl rfl ⟨by decide, Nat.le_of_eq (Nat.zero_add _), Nat.le_of_eq (Nat.zero_add _)⟩ (Nat.le_of_ble_eq_true rfl) rfl (fun r h9 hq => ?_)
  obtain ⟨rfl, stk9, rfl⟩ := hq
  show jb_J _ RX9 cX9_gives 7 (Option.some .int) false 4 0 0 77 [some (.ref 13), some (.int 1), some (.int x), some (.int y), some (.int z), some (.int w), none] [.int (jv_ (jx_N x y z w) c)] [jb_main imm Im Tm rowm stk9 tpm, jb_sch13 I W T, s2, s3, s4, s5, s6, s7, s8, s9, s10, s11] _
  refine jb_istore_ (pc' := 79) dX9_gives_77 (by decide) (jb_at6 rfl) rfl ?_
  refine jb_iconst (pc' := 80) 0 dX9_gives_79 (by decide) rfl ?_
  refine jb_iload (pc' := 82) dX9_gives_80 rfl rfl ?_
  refine jb_bipush (pc' := 84) 40 dX9_gives_82 (by decide) rfl ?_
  refine jb_irem (pc' := 85) dX9_gives_84 (by decide) rfl ?_
  refine jb_mmax (pc' := 88) wv_X9_105 dX9_gives_85 (by decide) (Nat.le_of_ble_eq_true rfl) rfl ?_
  refine jb_top (v := .int (if 0 < ((jv_ (jx_N x y z w) c) - (jv_ (jx_N x y z w) c) / 40 * 40) then ((jv_ (jx_N x y z w) c) - (jv_ (jx_N x y z w) c) / 40 * 40) else 0)) (w := .int (jm_cl 0 39 ((jv_ (jx_N x y z w) c) - (jv_ (jx_N x y z w) c) / 40 * 40))) (jb_vI (jk_rem40 _)) ?_
  refine jb_iret dX9_gives_88 rfl ?_
  refine ⟨congrArg (fun q => some (Value.int q)) ?_, stk9, rfl⟩
  show _ = jm_cl _ _ _
  rw [show X 1 = some c from h1]
  rfl
theorem c_gives_13 {sc : Nat × (Nat → Int32)} {X : Nat → Option (List Int32)} {T : Nat → Value} {s11 : List va_E} (hx : jx_c X T s11) : jG13 sc T s11 (jx_G X) := by
  intro s2 s3 s4 s5 s6 s7 s8 s9 s10 imm Im rowm stkm tpm Tm I W u x y z w hu
  match u, hu with
  | 0, _ =>
    rcases hx 0 (by decide) with ⟨h1, h2⟩ | ⟨c, q, f, h1, h2, h3, h4, h5, h6⟩
    · exact c_gives0n_13 imm Im rowm stkm tpm Tm I W T x y z w X h1 h2
    · exact c_gives0s_13 imm Im rowm stkm tpm Tm I W T x y z w X c q f h1 h2 h3 h4 h5 h6
  | 1, _ =>
    rcases hx 1 (by decide) with ⟨h1, h2⟩ | ⟨c, q, f, h1, h2, h3, h4, h5, h6⟩
    · exact c_gives1n_13 imm Im rowm stkm tpm Tm I W T x y z w X h1 h2
    · exact c_gives1s_13 imm Im rowm stkm tpm Tm I W T x y z w X c q f h1 h2 h3 h4 h5 h6
set_option maxRecDepth 100000 in
set_option maxHeartbeats 4000000 in
theorem c_gives0n_53 {sc : Nat × (Nat → Int32)} {s1 s2 s4 s5 s6 s7 s8 s9 s10 s11 : List va_E} (imm : Int32) (Im rowm stkm tpm : Nat → Int32) (Tm : Nat → Value) (I : Nat → Int32) (W : Nat → Nat → Int32) (T : Nat → Value) (x y z w : Int32) (X : Nat → Option (List Int32)) (h1 : X 0 = none) (hT : T 0 = .null) : jb_C sc yX9_gives cX9_gives 7 (Option.some .int) 4 0 0 [.ref 53, .int 0, .int x, .int y, .int z, .int w] [jb_main imm Im Tm rowm stkm tpm, s1, s2, jb_sch53 I W T, s4, s5, s6, s7, s8, s9, s10, s11] (fun r h9 => r = some (.int (jx_G X 0 x y z w)) ∧ ∃ stk9, h9 = [jb_main imm Im Tm rowm stk9 tpm, s1, s2, jb_sch53 I W T, s4, s5, s6, s7, s8, s9, s10, s11]) := by
  refine jb_CofJ (ini := false) (by decide +kernel) (fun h => by cases h) (Nat.le_of_ble_eq_true rfl) ?_
  show jb_J sc RX9 cX9_gives 7 (Option.some .int) false 4 0 0 0 [some (.ref 53), some (.int 0), some (.int x), some (.int y), some (.int z), some (.int w), none] [] [jb_main imm Im Tm rowm stkm tpm, s1, s2, jb_sch53 I W T, s4, s5, s6, s7, s8, s9, s10, s11] _
  refine jb_iload_n (pc' := 1) dX9_gives_0 rfl rfl ?_
  refine jb_if_ne (tgt := 47) (pc' := 4) dX9_gives_1 (by decide) rfl (fun z => absurd (by decide) z) (fun _ => ?_)
  refine jb_aload_n (pc' := 5) dX9_gives_4 rfl rfl ?_
  refine gf_X9_42 (pc' := 8) (v := (T 0)) dX9_gives_5 rfl rfl rfl ?_
  refine jb_top (v := (T 0)) (w := .null) hT ?_
  refine jb_nonnull_f (pc' := 11) dX9_gives_8 rfl ?_
  refine jb_iconst (pc' := 12) 0 dX9_gives_11 (by decide) rfl ?_
  refine jb_goto (pc' := 32) dX9_gives_12 (by decide) ?_
  refine jb_istore_ (pc' := 34) dX9_gives_32 (by decide) (jb_at6 rfl) rfl ?_
  refine jb_bipush (pc' := 36) (-10) dX9_gives_34 (by decide) rfl ?_
  refine jb_bipush (pc' := 38) 10 dX9_gives_36 (by decide) rfl ?_
  refine jb_iload (pc' := 40) dX9_gives_38 rfl rfl ?_
  refine jb_mmin (pc' := 43) wv_X9_99 dX9_gives_40 (by decide) (Nat.le_of_ble_eq_true rfl) rfl ?_
  refine jb_mmax (pc' := 46) wv_X9_105 dX9_gives_43 (by decide) (Nat.le_of_ble_eq_true rfl) rfl ?_
  refine jb_top (v := .int (if (-10) < (if 0 < 10 then 0 else 10) then (if 0 < 10 then 0 else 10) else (-10))) (w := .int (jm_cl (-10) 10 0)) (jb_vI (jk_cl10' _)) ?_
  refine jb_iret dX9_gives_46 rfl ?_
  refine ⟨congrArg (fun q => some (Value.int q)) ?_, stkm, rfl⟩
  show _ = jm_cl _ _ _
  rw [show X 0 = none from h1]
  rfl
set_option maxRecDepth 100000 in
set_option maxHeartbeats 4000000 in
theorem c_gives0s_53 {sc : Nat × (Nat → Int32)} {s1 s2 s4 s5 s6 s7 s8 s9 s10 s11 : List va_E} (imm : Int32) (Im rowm stkm tpm : Nat → Int32) (Tm : Nat → Value) (I : Nat → Int32) (W : Nat → Nat → Int32) (T : Nat → Value) (x y z w : Int32) (X : Nat → Option (List Int32)) (c : List Int32) (q : Nat) (f : Nat → Int32) (h1 : X 0 = some c) (hT : T 0 = .ref (121 + q)) (hq : s11[q]? = some (.inl (0, c.length, .inl f))) (hf : ∀ j, j < c.length → f j = c.getD j 0) (hc : c.length ≤ 50) (hw : jw_f c) : jb_C sc yX9_gives cX9_gives 7 (Option.some .int) 4 0 0 [.ref 53, .int 0, .int x, .int y, .int z, .int w] [jb_main imm Im Tm rowm stkm tpm, s1, s2, jb_sch53 I W T, s4, s5, s6, s7, s8, s9, s10, s11] (fun r h9 => r = some (.int (jx_G X 0 x y z w)) ∧ ∃ stk9, h9 = [jb_main imm Im Tm rowm stk9 tpm, s1, s2, jb_sch53 I W T, s4, s5, s6, s7, s8, s9, s10, s11]) := by
  refine jb_CofJ (ini := false) (by decide +kernel) (fun h => by cases h) (Nat.le_of_ble_eq_true rfl) ?_
  show jb_J sc RX9 cX9_gives 7 (Option.some .int) false 4 0 0 0 [some (.ref 53), some (.int 0), some (.int x), some (.int y), some (.int z), some (.int w), none] [] [jb_main imm Im Tm rowm stkm tpm, s1, s2, jb_sch53 I W T, s4, s5, s6, s7, s8, s9, s10, s11] _
  refine jb_iload_n (pc' := 1) dX9_gives_0 rfl rfl ?_
  refine jb_if_ne (tgt := 47) (pc' := 4) dX9_gives_1 (by decide) rfl (fun z => absurd (by decide) z) (fun _ => ?_)
  refine jb_aload_n (pc' := 5) dX9_gives_4 rfl rfl ?_
  refine gf_X9_42 (pc' := 8) (v := (T 0)) dX9_gives_5 rfl rfl rfl ?_
  refine jb_top (v := (T 0)) (w := .ref (121 + q)) hT ?_
  refine jb_nonnull (pc' := 15) dX9_gives_8 (by decide) ?_
  refine jb_aload_n (pc' := 16) dX9_gives_15 rfl rfl ?_
  refine gf_X9_64 (pc' := 19) (v := .ref 1) dX9_gives_16 rfl rfl rfl ?_
  refine jb_aload_n (pc' := 20) dX9_gives_19 rfl rfl ?_
  refine gf_X9_42 (pc' := 23) (v := (T 0)) dX9_gives_20 rfl rfl rfl ?_
  refine jb_top (v := (T 0)) (w := .ref (121 + q)) hT ?_
  refine jb_iload_n (pc' := 24) dX9_gives_23 rfl rfl ?_
  refine jb_iload_n (pc' := 25) dX9_gives_24 rfl rfl ?_
  refine jb_iload (pc' := 27) dX9_gives_25 rfl rfl ?_
  refine jb_iload (pc' := 29) dX9_gives_27 rfl rfl ?_
  refine jb_callV (pc' := 32) (ci := 8) (q := 1) (As := [.ref (121 + q), .int x, .int y, .int z, .int w]) (a2 := 0) (b2 := 0) wv_X9_111 rfl dX9_gives_29 (c_work imm Im rowm stkm tpm Tm x y z w c q f hq hf hc hw) rfl rfl ⟨by decide, Nat.le_of_eq (Nat.zero_add _), Nat.le_of_eq (Nat.zero_add _)⟩ (Nat.le_of_ble_eq_true rfl) rfl (fun r h9 hq => ?_)
  obtain ⟨rfl, stk9, rfl⟩ := hq
  show jb_J _ RX9 cX9_gives 7 (Option.some .int) false 4 0 0 32 [some (.ref 53), some (.int 0), some (.int x), some (.int y), some (.int z), some (.int w), none] [.int (jv_ (jx_N x y z w) c)] [jb_main imm Im Tm rowm stk9 tpm, s1, s2, jb_sch53 I W T, s4, s5, s6, s7, s8, s9, s10, s11] _
  refine jb_istore_ (pc' := 34) dX9_gives_32 (by decide) (jb_at6 rfl) rfl ?_
  refine jb_bipush (pc' := 36) (-10) dX9_gives_34 (by decide) rfl ?_
  refine jb_bipush (pc' := 38) 10 dX9_gives_36 (by decide) rfl ?_
  refine jb_iload (pc' := 40) dX9_gives_38 rfl rfl ?_
  refine jb_mmin (pc' := 43) wv_X9_99 dX9_gives_40 (by decide) (Nat.le_of_ble_eq_true rfl) rfl ?_
  refine jb_mmax (pc' := 46) wv_X9_105 dX9_gives_43 (by decide) (Nat.le_of_ble_eq_true rfl) rfl ?_
  refine jb_top (v := .int (if (-10) < (if (jv_ (jx_N x y z w) c) < 10 then (jv_ (jx_N x y z w) c) else 10) then (if (jv_ (jx_N x y z w) c) < 10 then (jv_ (jx_N x y z w) c) else 10) else (-10))) (w := .int (jm_cl (-10) 10 (jv_ (jx_N x y z w) c))) (jb_vI (jk_cl10' _)) ?_
  refine jb_iret dX9_gives_46 rfl ?_
  refine ⟨congrArg (fun q => some (Value.int q)) ?_, stk9, rfl⟩
  show _ = jm_cl _ _ _
  rw [show X 0 = some c from h1]
  rfl
set_option maxRecDepth 100000 in
set_option maxHeartbeats 4000000 in
theorem c_gives1n_53 {sc : Nat × (Nat → Int32)} {s1 s2 s4 s5 s6 s7 s8 s9 s10 s11 : List va_E} (imm : Int32) (Im rowm stkm tpm : Nat → Int32) (Tm : Nat → Value) (I : Nat → Int32) (W : Nat → Nat → Int32) (T : Nat → Value) (x y z w : Int32) (X : Nat → Option (List Int32)) (h1 : X 1 = none) (hT : T 1 = .null) : jb_C sc yX9_gives cX9_gives 7 (Option.some .int) 4 0 0 [.ref 53, .int 1, .int x, .int y, .int z, .int w] [jb_main imm Im Tm rowm stkm tpm, s1, s2, jb_sch53 I W T, s4, s5, s6, s7, s8, s9, s10, s11] (fun r h9 => r = some (.int (jx_G X 1 x y z w)) ∧ ∃ stk9, h9 = [jb_main imm Im Tm rowm stk9 tpm, s1, s2, jb_sch53 I W T, s4, s5, s6, s7, s8, s9, s10, s11]) := by
  refine jb_CofJ (ini := false) (by decide +kernel) (fun h => by cases h) (Nat.le_of_ble_eq_true rfl) ?_
  show jb_J sc RX9 cX9_gives 7 (Option.some .int) false 4 0 0 0 [some (.ref 53), some (.int 1), some (.int x), some (.int y), some (.int z), some (.int w), none] [] [jb_main imm Im Tm rowm stkm tpm, s1, s2, jb_sch53 I W T, s4, s5, s6, s7, s8, s9, s10, s11] _
  refine jb_iload_n (pc' := 1) dX9_gives_0 rfl rfl ?_
  refine jb_if_ne (tgt := 47) (pc' := 4) dX9_gives_1 (by decide) rfl (fun _ => ?_) (fun z => absurd z (by decide))
  refine jb_aload_n (pc' := 48) dX9_gives_47 rfl rfl ?_
  refine gf_X9_45 (pc' := 51) (v := (T 1)) dX9_gives_48 rfl rfl rfl ?_
  refine jb_top (v := (T 1)) (w := .null) hT ?_
  refine jb_nonnull_f (pc' := 54) dX9_gives_51 rfl ?_
  refine jb_iload_n (pc' := 55) dX9_gives_54 rfl rfl ?_
  refine jb_iconst (pc' := 56) 1 dX9_gives_55 (by decide) rfl ?_
  refine jb_iadd (pc' := 57) dX9_gives_56 rfl ?_
  refine jb_goto (pc' := 77) dX9_gives_57 (by decide) ?_
  refine jb_istore_ (pc' := 79) dX9_gives_77 (by decide) (jb_at6 rfl) rfl ?_
  refine jb_iconst (pc' := 80) 0 dX9_gives_79 (by decide) rfl ?_
  refine jb_iload (pc' := 82) dX9_gives_80 rfl rfl ?_
  refine jb_bipush (pc' := 84) 40 dX9_gives_82 (by decide) rfl ?_
  refine jb_irem (pc' := 85) dX9_gives_84 (by decide) rfl ?_
  refine jb_mmax (pc' := 88) wv_X9_105 dX9_gives_85 (by decide) (Nat.le_of_ble_eq_true rfl) rfl ?_
  refine jb_top (v := .int (if 0 < ((x + 1) - (x + 1) / 40 * 40) then ((x + 1) - (x + 1) / 40 * 40) else 0)) (w := .int (jm_cl 0 39 ((x + 1) - (x + 1) / 40 * 40))) (jb_vI (jk_rem40 _)) ?_
  refine jb_iret dX9_gives_88 rfl ?_
  refine ⟨congrArg (fun q => some (Value.int q)) ?_, stkm, rfl⟩
  show _ = jm_cl _ _ _
  rw [show X 1 = none from h1]
  rfl
set_option maxRecDepth 100000 in
set_option maxHeartbeats 4000000 in
theorem c_gives1s_53 {sc : Nat × (Nat → Int32)} {s1 s2 s4 s5 s6 s7 s8 s9 s10 s11 : List va_E} (imm : Int32) (Im rowm stkm tpm : Nat → Int32) (Tm : Nat → Value) (I : Nat → Int32) (W : Nat → Nat → Int32) (T : Nat → Value) (x y z w : Int32) (X : Nat → Option (List Int32)) (c : List Int32) (q : Nat) (f : Nat → Int32) (h1 : X 1 = some c) (hT : T 1 = .ref (121 + q)) (hq : s11[q]? = some (.inl (0, c.length, .inl f))) (hf : ∀ j, j < c.length → f j = c.getD j 0) (hc : c.length ≤ 50) (hw : jw_f c) : jb_C sc yX9_gives cX9_gives 7 (Option.some .int) 4 0 0 [.ref 53, .int 1, .int x, .int y, .int z, .int w] [jb_main imm Im Tm rowm stkm tpm, s1, s2, jb_sch53 I W T, s4, s5, s6, s7, s8, s9, s10, s11] (fun r h9 => r = some (.int (jx_G X 1 x y z w)) ∧ ∃ stk9, h9 = [jb_main imm Im Tm rowm stk9 tpm, s1, s2, jb_sch53 I W T, s4, s5, s6, s7, s8, s9, s10, s11]) := by
  refine jb_CofJ (ini := false) (by decide +kernel) (fun h => by cases h) (Nat.le_of_ble_eq_true rfl) ?_
  show jb_J sc RX9 cX9_gives 7 (Option.some .int) false 4 0 0 0 [some (.ref 53), some (.int 1), some (.int x), some (.int y), some (.int z), some (.int w), none] [] [jb_main imm Im Tm rowm stkm tpm, s1, s2, jb_sch53 I W T, s4, s5, s6, s7, s8, s9, s10, s11] _
  refine jb_iload_n (pc' := 1) dX9_gives_0 rfl rfl ?_
  refine jb_if_ne (tgt := 47) (pc' := 4) dX9_gives_1 (by decide) rfl (fun _ => ?_) (fun z => absurd z (by decide))
  refine jb_aload_n (pc' := 48) dX9_gives_47 rfl rfl ?_
  refine gf_X9_45 (pc' := 51) (v := (T 1)) dX9_gives_48 rfl rfl rfl ?_
  refine jb_top (v := (T 1)) (w := .ref (121 + q)) hT ?_
  refine jb_nonnull (pc' := 60) dX9_gives_51 (by decide) ?_
  refine jb_aload_n (pc' := 61) dX9_gives_60 rfl rfl ?_
  refine gf_X9_64 (pc' := 64) (v := .ref 1) dX9_gives_61 rfl rfl rfl ?_
  refine jb_aload_n (pc' := 65) dX9_gives_64 rfl rfl ?_
  refine gf_X9_45 (pc' := 68) (v := (T 1)) dX9_gives_65 rfl rfl rfl ?_
  refine jb_top (v := (T 1)) (w := .ref (121 + q)) hT ?_
  refine jb_iload_n (pc' := 69) dX9_gives_68 rfl rfl ?_
  refine jb_iload_n (pc' := 70) dX9_gives_69 rfl rfl ?_
  refine jb_iload (pc' := 72) dX9_gives_70 rfl rfl ?_
  refine jb_iload (pc' := 74) dX9_gives_72 rfl rfl ?_
  refine jb_callV (pc' := 77) (ci := 8) (q := 1) (As := [.ref (121 + q), .int x, .int y, .int z, .int w]) (a2 := 0) (b2 := 0) wv_X9_111 rfl dX9_gives_74 (c_work imm Im rowm stkm tpm Tm x y z w c q f hq hf hc hw) rfl rfl ⟨by decide, Nat.le_of_eq (Nat.zero_add _), Nat.le_of_eq (Nat.zero_add _)⟩ (Nat.le_of_ble_eq_true rfl) rfl (fun r h9 hq => ?_)
  obtain ⟨rfl, stk9, rfl⟩ := hq
  show jb_J _ RX9 cX9_gives 7 (Option.some .int) false 4 0 0 77 [some (.ref 53), some (.int 1), some (.int x), some (.int y), some (.int z), some (.int w), none] [.int (jv_ (jx_N x y z w) c)] [jb_main imm Im Tm rowm stk9 tpm, s1, s2, jb_sch53 I W T, s4, s5, s6, s7, s8, s9, s10, s11] _
  refine jb_istore_ (pc' := 79) dX9_gives_77 (by decide) (jb_at6 rfl) rfl ?_
  refine jb_iconst (pc' := 80) 0 dX9_gives_79 (by decide) rfl ?_
  refine jb_iload (pc' := 82) dX9_gives_80 rfl rfl ?_
  refine jb_bipush (pc' := 84) 40 dX9_gives_82 (by decide) rfl ?_
  refine jb_irem (pc' := 85) dX9_gives_84 (by decide) rfl ?_
  refine jb_mmax (pc' := 88) wv_X9_105 dX9_gives_85 (by decide) (Nat.le_of_ble_eq_true rfl) rfl ?_
  refine jb_top (v := .int (if 0 < ((jv_ (jx_N x y z w) c) - (jv_ (jx_N x y z w) c) / 40 * 40) then ((jv_ (jx_N x y z w) c) - (jv_ (jx_N x y z w) c) / 40 * 40) else 0)) (w := .int (jm_cl 0 39 ((jv_ (jx_N x y z w) c) - (jv_ (jx_N x y z w) c) / 40 * 40))) (jb_vI (jk_rem40 _)) ?_
  refine jb_iret dX9_gives_88 rfl ?_
  refine ⟨congrArg (fun q => some (Value.int q)) ?_, stk9, rfl⟩
  show _ = jm_cl _ _ _
  rw [show X 1 = some c from h1]
  rfl
theorem c_gives_53 {sc : Nat × (Nat → Int32)} {X : Nat → Option (List Int32)} {T : Nat → Value} {s11 : List va_E} (hx : jx_c X T s11) : jG53 sc T s11 (jx_G X) := by
  intro s1 s2 s4 s5 s6 s7 s8 s9 s10 imm Im rowm stkm tpm Tm I W u x y z w hu
  match u, hu with
  | 0, _ =>
    rcases hx 0 (by decide) with ⟨h1, h2⟩ | ⟨c, q, f, h1, h2, h3, h4, h5, h6⟩
    · exact c_gives0n_53 imm Im rowm stkm tpm Tm I W T x y z w X h1 h2
    · exact c_gives0s_53 imm Im rowm stkm tpm Tm I W T x y z w X c q f h1 h2 h3 h4 h5 h6
  | 1, _ =>
    rcases hx 1 (by decide) with ⟨h1, h2⟩ | ⟨c, q, f, h1, h2, h3, h4, h5, h6⟩
    · exact c_gives1n_53 imm Im rowm stkm tpm Tm I W T x y z w X h1 h2
    · exact c_gives1s_53 imm Im rowm stkm tpm Tm I W T x y z w X c q f h1 h2 h3 h4 h5 h6
