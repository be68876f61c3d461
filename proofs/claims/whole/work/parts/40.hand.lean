theorem jr_air0 {V : Nat → Nat → Nat} {I : Nat → Int32} {W : Nat → Nat → Int32} (hr : jr_ V I W) (x : Nat) : jr_ (jv_up V 0 4 x) I (va_up W 0 (upd (W 0) 0 (nI x))) := by
  obtain ⟨r0, r2, r3, r4, a0, a1, a2, rv, rs, rd⟩ := hr
  exact ⟨r0, r2, r3, r4, rfl, a1, a2, rv, rs, rd⟩
theorem jd_air0 {V : Nat → Nat → Nat} {d : Nat → Int32} (hd : jd_ V d) (hk : jv_ok V) (x : Nat) : jd_ (jv_up V 0 4 x) (upd d 0 (nI x)) := by
  obtain ⟨e0, e1, e2, e3, e4, e5, e6, dv, ds, dd⟩ := hd
  obtain ⟨k0, k1, k2, k3, k4, k5, k6, k7, -, -, -⟩ := hk
  refine ⟨rfl, (jb_une (by decide)).trans e1, (jb_une (by decide)).trans e2, (jb_une (by decide)).trans e3, (jb_une (by decide)).trans e4, (jb_une (by decide)).trans e5, (jb_une (by decide)).trans e6, fun p hp => ?_, fun s hs => ?_, fun k hk => ?_⟩
  · rw [jb_une (by omega), jb_une (by omega), jb_une (by omega)]; exact dv p hp
  · rw [jb_une (by omega), jb_une (by omega), jb_une (by omega), jb_une (by omega), jb_une (by omega), jb_une (by omega)]; exact ds s hs
  · rw [jb_une (by omega), jb_une (by omega), jb_une (by omega), jb_une (by omega)]; exact dd k hk
theorem jv_air0 {V : Nat → Nat → Nat} (h : jv_ok V) {x : Nat} (h1 : 1 ≤ x) (h2 : x ≤ 20) : jv_ok (jv_up V 0 4 x) := by
  obtain ⟨k0, k1, k2, k3, k4, k5, k6, k7, kv, ks, kd⟩ := h
  exact ⟨k0, k1, k2, k3, h1, h2, k6, k7, kv, ks, kd⟩
theorem jr_air1 {V : Nat → Nat → Nat} {I : Nat → Int32} {W : Nat → Nat → Int32} (hr : jr_ V I W) (x : Nat) : jr_ (jv_up V 0 5 x) I (va_up W 0 (upd (W 0) 1 (nI x))) := by
  obtain ⟨r0, r2, r3, r4, a0, a1, a2, rv, rs, rd⟩ := hr
  exact ⟨r0, r2, r3, r4, a0, rfl, a2, rv, rs, rd⟩
theorem jd_air1 {V : Nat → Nat → Nat} {d : Nat → Int32} (hd : jd_ V d) (hk : jv_ok V) (x : Nat) : jd_ (jv_up V 0 5 x) (upd d 1 (nI x)) := by
  obtain ⟨e0, e1, e2, e3, e4, e5, e6, dv, ds, dd⟩ := hd
  obtain ⟨k0, k1, k2, k3, k4, k5, k6, k7, -, -, -⟩ := hk
  refine ⟨(jb_une (by decide)).trans e0, rfl, (jb_une (by decide)).trans e2, (jb_une (by decide)).trans e3, (jb_une (by decide)).trans e4, (jb_une (by decide)).trans e5, (jb_une (by decide)).trans e6, fun p hp => ?_, fun s hs => ?_, fun k hk => ?_⟩
  · rw [jb_une (by omega), jb_une (by omega), jb_une (by omega)]; exact dv p hp
  · rw [jb_une (by omega), jb_une (by omega), jb_une (by omega), jb_une (by omega), jb_une (by omega), jb_une (by omega)]; exact ds s hs
  · rw [jb_une (by omega), jb_une (by omega), jb_une (by omega), jb_une (by omega)]; exact dd k hk
theorem jv_air1 {V : Nat → Nat → Nat} (h : jv_ok V) {x : Nat} (h1 : 0 ≤ x) (h2 : x ≤ 9) : jv_ok (jv_up V 0 5 x) := by
  obtain ⟨k0, k1, k2, k3, k4, k5, k6, k7, kv, ks, kd⟩ := h
  exact ⟨k0, k1, k2, k3, k4, k5, h2, k7, kv, ks, kd⟩
theorem jr_air2 {V : Nat → Nat → Nat} {I : Nat → Int32} {W : Nat → Nat → Int32} (hr : jr_ V I W) (x : Nat) : jr_ (jv_up V 0 6 x) I (va_up W 0 (upd (W 0) 2 (nI x))) := by
  obtain ⟨r0, r2, r3, r4, a0, a1, a2, rv, rs, rd⟩ := hr
  exact ⟨r0, r2, r3, r4, a0, a1, rfl, rv, rs, rd⟩
theorem jd_air2 {V : Nat → Nat → Nat} {d : Nat → Int32} (hd : jd_ V d) (hk : jv_ok V) (x : Nat) : jd_ (jv_up V 0 6 x) (upd d 2 (nI x)) := by
  obtain ⟨e0, e1, e2, e3, e4, e5, e6, dv, ds, dd⟩ := hd
  obtain ⟨k0, k1, k2, k3, k4, k5, k6, k7, -, -, -⟩ := hk
  refine ⟨(jb_une (by decide)).trans e0, (jb_une (by decide)).trans e1, rfl, (jb_une (by decide)).trans e3, (jb_une (by decide)).trans e4, (jb_une (by decide)).trans e5, (jb_une (by decide)).trans e6, fun p hp => ?_, fun s hs => ?_, fun k hk => ?_⟩
  · rw [jb_une (by omega), jb_une (by omega), jb_une (by omega)]; exact dv p hp
  · rw [jb_une (by omega), jb_une (by omega), jb_une (by omega), jb_une (by omega), jb_une (by omega), jb_une (by omega)]; exact ds s hs
  · rw [jb_une (by omega), jb_une (by omega), jb_une (by omega), jb_une (by omega)]; exact dd k hk
theorem jv_air2 {V : Nat → Nat → Nat} (h : jv_ok V) {x : Nat} (h1 : 0 ≤ x) (h2 : x ≤ 9) : jv_ok (jv_up V 0 6 x) := by
  obtain ⟨k0, k1, k2, k3, k4, k5, k6, k7, kv, ks, kd⟩ := h
  exact ⟨k0, k1, k2, k3, k4, k5, k6, h2, kv, ks, kd⟩
theorem jr_go {V : Nat → Nat → Nat} {I : Nat → Int32} {W : Nat → Nat → Int32} (hr : jr_ V I W) (p c : Nat) : jr_ (jv_up V 3 p c) I (va_up W 3 (upd (W 3) p (nI c))) := by
  obtain ⟨r0, r2, r3, r4, a0, a1, a2, rv, rs, rd⟩ := hr
  refine ⟨r0, r2, r3, r4, a0, a1, a2, fun q hq => ⟨(rv q hq).1, (rv q hq).2.1, ?_⟩, rs, rd⟩
  show (if q = p then nI c else W 3 q) = nI (if q = p then c else V 3 q)
  by_cases e : q = p
  · rw [if_pos e, if_pos e]
  · rw [if_neg e, if_neg e]; exact (rv q hq).2.2
theorem jd_go {V : Nat → Nat → Nat} {d : Nat → Int32} (hd : jd_ V d) (hk : jv_ok V) {p : Nat} (hp : p < V 0 1) (c : Nat) : jd_ (jv_up V 3 p c) (upd d (10 + 3 * p + 2) (nI c)) := by
  obtain ⟨e0, e1, e2, e3, e4, e5, e6, dv, ds, dd⟩ := hd
  obtain ⟨k0, k1, k2, k3, k4, k5, k6, k7, -, -, -⟩ := hk
  refine ⟨(jb_une (by omega)).trans e0, (jb_une (by omega)).trans e1, (jb_une (by omega)).trans e2, (jb_une (by omega)).trans e3, (jb_une (by omega)).trans e4, (jb_une (by omega)).trans e5, (jb_une (by omega)).trans e6, fun q hq => ⟨(jb_une (by omega)).trans (dv q hq).1, (jb_une (by omega)).trans (dv q hq).2.1, ?_⟩, fun s hs => ?_, fun k hk => ?_⟩
  · show (if 10 + 3 * q + 2 = 10 + 3 * p + 2 then nI c else d (10 + 3 * q + 2)) = nI (if q = p then c else V 3 q)
    by_cases e : q = p
    · rw [if_pos (by omega), if_pos e]
    · rw [if_neg (by omega), if_neg e]; exact (dv q hq).2.2
  · have hs' : s < V 0 2 := hs
    rw [jb_une (by omega), jb_une (by omega), jb_une (by omega), jb_une (by omega), jb_une (by omega), jb_une (by omega)]; exact ds s hs
  · rw [jb_une (by omega), jb_une (by omega), jb_une (by omega), jb_une (by omega)]; exact dd k hk
theorem jv_go {V : Nat → Nat → Nat} (h : jv_ok V) {p c : Nat} (hc : c < 2) : jv_ok (jv_up V 3 p c) := by
  obtain ⟨k0, k1, k2, k3, k4, k5, k6, k7, kv, ks, kd⟩ := h
  refine ⟨k0, k1, k2, k3, k4, k5, k6, k7, fun q hq => ⟨(kv q hq).1, (kv q hq).2.1, ?_⟩, ks, kd⟩
  show (if q = p then c else V 3 q) < 2
  by_cases e : q = p
  · rw [if_pos e]; exact hc
  · rw [if_neg e]; exact (kv q hq).2.2
def jm_be (V : Nat → Nat → Nat) (p k m : Nat) : Nat → Nat → Nat := jv_up (jv_up V 1 p k) 2 p m
theorem jr_be {V : Nat → Nat → Nat} {I : Nat → Int32} {W : Nat → Nat → Int32} (hr : jr_ V I W) (p k m : Nat) : jr_ (jm_be V p k m) I (va_up (va_up W 1 (upd (W 1) p (nI k))) 2 (upd (W 2) p (nI m))) := by
  obtain ⟨r0, r2, r3, r4, a0, a1, a2, rv, rs, rd⟩ := hr
  refine ⟨r0, r2, r3, r4, a0, a1, a2, fun q hq => ?_, rs, rd⟩
  show (if q = p then nI k else W 1 q) = nI (if q = p then k else V 1 q) ∧ (if q = p then nI m else W 2 q) = nI (if q = p then m else V 2 q) ∧ W 3 q = nI (V 3 q)
  by_cases e : q = p
  · rw [if_pos e, if_pos e, if_pos e, if_pos e]; exact ⟨rfl, rfl, (rv q hq).2.2⟩
  · rw [if_neg e, if_neg e, if_neg e, if_neg e]; exact rv q hq
theorem jd_be {V : Nat → Nat → Nat} {d : Nat → Int32} (hd : jd_ V d) (hk : jv_ok V) {p : Nat} (hp : p < V 0 1) (k m : Nat) : jd_ (jm_be V p k m) (upd (upd d (10 + 3 * p + 0) (nI k)) (10 + 3 * p + 1) (nI m)) := by
  obtain ⟨e0, e1, e2, e3, e4, e5, e6, dv, ds, dd⟩ := hd
  obtain ⟨k0, k1, k2, k3, k4, k5, k6, k7, -, -, -⟩ := hk
  have g : ∀ j, (j < 10 + 3 * p ∨ 10 + 3 * p + 2 ≤ j) → (upd (upd d (10 + 3 * p + 0) (nI k)) (10 + 3 * p + 1) (nI m)) j = d j := fun j hj => by rw [jb_une (by omega), jb_une (by omega)]
  refine ⟨(g 0 (by omega)).trans e0, (g 1 (by omega)).trans e1, (g 2 (by omega)).trans e2, (g 3 (by omega)).trans e3, (g 4 (by omega)).trans e4, (g 5 (by omega)).trans e5, (g 6 (by omega)).trans e6, fun q hq => ?_, fun s hs => ?_, fun i hi => ?_⟩
  · have hq' : q < V 0 1 := hq
    show _ = nI (if q = p then k else V 1 q) ∧ _ = nI (if q = p then m else V 2 q) ∧ _ = nI (V 3 q)
    by_cases e : q = p
    · subst e
      rw [if_pos rfl, if_pos rfl]
      exact ⟨by rw [jb_une (by omega), jb_uee], jb_uee, (g _ (by omega)).trans (dv q hq').2.2⟩
    · rw [if_neg e, if_neg e]
      exact ⟨(g _ (by omega)).trans (dv q hq').1, (g _ (by omega)).trans (dv q hq').2.1, (g _ (by omega)).trans (dv q hq').2.2⟩
  · have hs' : s < V 0 2 := hs
    rw [g _ (by omega), g _ (by omega), g _ (by omega), g _ (by omega), g _ (by omega), g _ (by omega)]; exact ds s hs'
  · rw [g _ (by omega), g _ (by omega), g _ (by omega), g _ (by omega)]; exact dd i hi
theorem jv_be {V : Nat → Nat → Nat} (h : jv_ok V) {p k m : Nat} (hk : k < 7) (hm : m < 10) : jv_ok (jm_be V p k m) := by
  obtain ⟨k0, k1, k2, k3, k4, k5, k6, k7, kv, ks, kd⟩ := h
  refine ⟨k0, k1, k2, k3, k4, k5, k6, k7, fun q hq => ?_, ks, kd⟩
  show (if q = p then k else V 1 q) < 7 ∧ (if q = p then m else V 2 q) < 10 ∧ V 3 q < 2
  by_cases e : q = p
  · rw [if_pos e, if_pos e]; exact ⟨hk, hm, (kv q hq).2.2⟩
  · rw [if_neg e, if_neg e]; exact kv q hq
theorem jd_av {V : Nat → Nat → Nat} {d : Nat → Int32} (hd : jd_ V d) (hk : jv_ok V) (h1 : V 0 1 < 6) (k m c : Nat) : jd_ (jm_av V k m c) (upd (upd (upd (upd d (10 + 3 * V 0 1 + 0) (nI k)) (10 + 3 * V 0 1 + 1) (nI m)) (10 + 3 * V 0 1 + 2) (nI c)) 4 (nI (V 0 1 + 1))) := by
  obtain ⟨e0, e1, e2, e3, e4, e5, e6, dv, ds, dd⟩ := hd
  obtain ⟨k0, k1, k2, k3, k4, k5, k6, k7, -, -, -⟩ := hk
  have g : ∀ j, ¬ j = 4 → (j < 10 + 3 * V 0 1 ∨ 10 + 3 * V 0 1 + 3 ≤ j) → (upd (upd (upd (upd d (10 + 3 * V 0 1 + 0) (nI k)) (10 + 3 * V 0 1 + 1) (nI m)) (10 + 3 * V 0 1 + 2) (nI c)) 4 (nI (V 0 1 + 1))) j = d j := fun j h4 hj => by rw [jb_une h4, jb_une (by omega), jb_une (by omega), jb_une (by omega)]
  refine ⟨(g 0 (by omega) (by omega)).trans e0, (g 1 (by omega) (by omega)).trans e1, (g 2 (by omega) (by omega)).trans e2, (g 3 (by omega) (by omega)).trans e3, jb_uee, (g 5 (by omega) (by omega)).trans e5, (g 6 (by omega) (by omega)).trans e6, fun q hq => ?_, fun s hs => ?_, fun i hi => ?_⟩
  · have hq' : q < V 0 1 + 1 := hq
    show _ = nI (if q = V 0 1 then k else V 1 q) ∧ _ = nI (if q = V 0 1 then m else V 2 q) ∧ _ = nI (if q = V 0 1 then c else V 3 q)
    by_cases e : q = V 0 1
    · subst e
      rw [if_pos rfl, if_pos rfl, if_pos rfl]
      exact ⟨by rw [jb_une (by omega), jb_une (by omega), jb_une (by omega), jb_uee], by rw [jb_une (by omega), jb_une (by omega), jb_uee], by rw [jb_une (by omega), jb_uee]⟩
    · rw [if_neg e, if_neg e, if_neg e]
      have hq2 : q < V 0 1 := by omega
      exact ⟨(g _ (by omega) (by omega)).trans (dv q hq2).1, (g _ (by omega) (by omega)).trans (dv q hq2).2.1, (g _ (by omega) (by omega)).trans (dv q hq2).2.2⟩
  · have hs' : s < V 0 2 := hs
    rw [g _ (by omega) (by omega), g _ (by omega) (by omega), g _ (by omega) (by omega), g _ (by omega) (by omega), g _ (by omega) (by omega), g _ (by omega) (by omega)]; exact ds s hs'
  · rw [g _ (by omega) (by omega), g _ (by omega) (by omega), g _ (by omega) (by omega), g _ (by omega) (by omega)]; exact dd i hi
def jm_fo (V : Nat → Nat → Nat) : Nat → Nat → Nat := jv_up (jv_up V 0 2 0) 0 3 0
theorem jr_fo {V : Nat → Nat → Nat} {I : Nat → Int32} {W : Nat → Nat → Int32} (hr : jr_ V I W) : jr_ (jm_fo V) (upd (upd I 3 0) 4 0) W := by
  obtain ⟨r0, r2, r3, r4, a0, a1, a2, rv, rs, rd⟩ := hr
  exact ⟨r0, r2, rfl, rfl, a0, a1, a2, rv, fun s hs => absurd hs (Nat.not_lt_zero _), fun k hk => absurd hk (Nat.not_lt_zero _)⟩
theorem jd_fo {V : Nat → Nat → Nat} {d : Nat → Int32} (hd : jd_ V d) : jd_ (jm_fo V) (upd (upd d 5 0) 6 0) := by
  obtain ⟨e0, e1, e2, e3, e4, e5, e6, dv, ds, dd⟩ := hd
  refine ⟨e0, e1, e2, e3, e4, rfl, rfl, fun q hq => ?_, fun s hs => absurd hs (Nat.not_lt_zero _), fun k hk => absurd hk (Nat.not_lt_zero _)⟩
  rw [jb_une (by omega), jb_une (by omega), jb_une (by omega), jb_une (by omega), jb_une (by omega), jb_une (by omega)]; exact dv q hq
theorem jv_fo {V : Nat → Nat → Nat} (h : jv_ok V) : jv_ok (jm_fo V) := by
  obtain ⟨k0, k1, k2, k3, k4, k5, k6, k7, kv, ks, kd⟩ := h
  exact ⟨k0, k1, Nat.zero_le _, Nat.zero_le _, k4, k5, k6, k7, kv, fun s hs => absurd hs (Nat.not_lt_zero _), fun k hk => absurd hk (Nat.not_lt_zero _)⟩
/-- of a kind, or of one under it -/
def jm_un (k j : Nat) : Prop := j = 0 ∨ j = k ∨ j = k - 3
/-- to which all led: the shout that began, and how many there are -/
def jm_ld (V : Nat → Nat → Nat) : Nat → Nat → Nat → Nat × Nat
  | 0, s, n => (s, n)
  | k + 1, s, n => if V 8 s = 0 then (s, n) else jm_ld V k (V 8 s - 1) (n + 1)
theorem jn_tob {a n : Nat} (h : a ≤ n) (hn : n < 2 ^ 30) : jn_b (nI a - 1) 0 n ↔ ¬ a = 0 := by
  rw [jn_bI (by omega), jn_pred (by omega)]
  omega
theorem jr_seed {V : Nat → Nat → Nat} {I : Nat → Int32} {W : Nat → Nat → Int32} (hr : jr_ V I W) (v : Int32) : jr_ V (upd I 1 v) W := hr
