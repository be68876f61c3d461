/-! ===== the reference: its row holds V ===== -/
def jd_ (V : Nat → Nat → Nat) (d : Nat → Int32) : Prop :=
  d 0 = nI (V 0 4) ∧ d 1 = nI (V 0 5) ∧ d 2 = nI (V 0 6) ∧ d 3 = nI (V 0 0) ∧ d 4 = nI (V 0 1) ∧ d 5 = nI (V 0 2) ∧ d 6 = nI (V 0 3) ∧
  (∀ p, p < V 0 1 → d (10 + 3 * p + 0) = nI (V 1 p) ∧ d (10 + 3 * p + 1) = nI (V 2 p) ∧ d (10 + 3 * p + 2) = nI (V 3 p)) ∧
  (∀ s, s < V 0 2 → d (28 + 6 * s + 0) = nI (V 4 s) ∧ d (28 + 6 * s + 1) = nI (V 5 s) ∧ d (28 + 6 * s + 2) = nI (V 6 s) ∧ d (28 + 6 * s + 3) = nI (V 7 s) ∧ d (28 + 6 * s + 4) = nI (V 8 s) - 1 ∧ d (28 + 6 * s + 5) = nI (V 9 s)) ∧
  (∀ k, k < V 0 3 → d (268 + 4 * k + 0) = nI (V 10 k) ∧ d (268 + 4 * k + 1) = nI (V 11 k) ∧ d (268 + 4 * k + 2) = nI (V 12 k) ∧ d (268 + 4 * k + 3) = nI (V 13 k))
/-- what a school's seconds leave as it is: tape, waits, texts -/
def jd_f (d d' : Nat → Int32) : Prop := d' 8 = d 8 ∧ d' 9 = d 9 ∧ ∀ k, 316 ≤ k → d' k = d k
theorem jd_f.rf (d : Nat → Int32) : jd_f d d := ⟨rfl, rfl, fun _ _ => rfl⟩
theorem jd_f.tr {d d' d'' : Nat → Int32} (h : jd_f d d') (h' : jd_f d' d'') : jd_f d d'' := ⟨h'.1.trans h.1, h'.2.1.trans h.2.1, fun k hk => (h'.2.2 k hk).trans (h.2.2 k hk)⟩
/-- what the reference's 'gives' must say -/
def jGm (sc : Nat × (Nat → Int32)) (d0 : Nat → Int32) (G : jm_G) : Prop := ∀ (s0 s1 s2 s3 s4 s5 s6 s7 s8 s9 s11 : List va_E) (I J d e kp nm : Nat → Int32) (W : Nat → Nat → Int32) (u : Nat) (x y z w : Int32), u < 2 → (∀ k, 316 ≤ k → d k = d0 k) → jb_C sc yX12_gives cX12_gives 7 (Option.some .int) 45 0 0 [.ref 105, .int (nI u), .int x, .int y, .int z, .int w] [s0, s1, s2, s3, s4, s5, s6, s7, s8, s9, jb_mdl I J d e kp nm W, s11] (fun r h9 => r = some (.int (G u x y z w)) ∧ ∃ J9 nm9, h9 = [s0, s1, s2, s3, s4, s5, s6, s7, s8, s9, jb_mdl I J9 d e kp nm9 W, s11])
theorem jd_k7 {k : Nat} (h : k < 7) : (k = 0 ∧ some (Value.int (nI k)) = some (.int 0)) ∨ (k = 1 ∧ some (Value.int (nI k)) = some (.int 1)) ∨ (k = 2 ∧ some (Value.int (nI k)) = some (.int 2)) ∨ (k = 3 ∧ some (Value.int (nI k)) = some (.int 3)) ∨ (k = 4 ∧ some (Value.int (nI k)) = some (.int 4)) ∨ (k = 5 ∧ some (Value.int (nI k)) = some (.int 5)) ∨ (k = 6 ∧ some (Value.int (nI k)) = some (.int 6)) := by
  match k, h with
  | 0, _ => exact Or.inl ⟨rfl, rfl⟩
  | 1, _ => exact Or.inr (Or.inl ⟨rfl, rfl⟩)
  | 2, _ => exact Or.inr (Or.inr (Or.inl ⟨rfl, rfl⟩))
  | 3, _ => exact Or.inr (Or.inr (Or.inr (Or.inl ⟨rfl, rfl⟩)))
  | 4, _ => exact Or.inr (Or.inr (Or.inr (Or.inr (Or.inl ⟨rfl, rfl⟩))))
  | 5, _ => exact Or.inr (Or.inr (Or.inr (Or.inr (Or.inr (Or.inl ⟨rfl, rfl⟩)))))
  | 6, _ => exact Or.inr (Or.inr (Or.inr (Or.inr (Or.inr (Or.inr ⟨rfl, rfl⟩)))))
set_option maxRecDepth 100000 in
set_option maxHeartbeats 4000000 in
theorem c_held {sc : Nat × (Nat → Int32)} (h : jb_H) (x lo hi : Int32) : jb_C sc yX12_held cX12_held 3 (Option.some .int) 0 0 0 [.int x, .int lo, .int hi] h (fun r h9 => r = some (.int (jm_cl lo hi x)) ∧ h9 = h) := by
  refine jb_CofJ (ini := false) (by decide +kernel) (fun h => by cases h) (Nat.le_of_ble_eq_true rfl) ?_
  show jb_J sc RX12 cX12_held 3 (Option.some .int) false 0 0 0 0 [some (.int x), some (.int lo), some (.int hi)] [] h _
  refine jb_iload_n (pc' := 1) dX12_held_0 rfl rfl ?_
  refine jb_iload_n (pc' := 2) dX12_held_1 rfl rfl ?_
  refine jb_icmp_ge (tgt := 9) (pc' := 5) dX12_held_2 (by decide) rfl (fun c1 => ?_) (fun c1 => ?_)
  · refine jb_iload_n (pc' := 10) dX12_held_9 rfl rfl ?_
    refine jb_iload_n (pc' := 11) dX12_held_10 rfl rfl ?_
    refine jb_icmp_le (tgt := 18) (pc' := 14) dX12_held_11 (by decide) rfl (fun c2 => ?_) (fun c2 => ?_)
    · refine jb_iload_n (pc' := 19) dX12_held_18 rfl rfl ?_
      refine jb_iret dX12_held_19 rfl ?_
      exact ⟨congrArg (fun y => some (Value.int y)) (by unfold jm_cl; first | exact (if_pos (Int32.not_le.mp c1)).symm | exact ((if_neg (Int32.not_lt.mpr c1)).trans (if_pos (Int32.not_le.mp c2))).symm | exact ((if_neg (Int32.not_lt.mpr c1)).trans (if_neg (Int32.not_lt.mpr c2))).symm), rfl⟩
    · refine jb_iload_n (pc' := 15) dX12_held_14 rfl rfl ?_
      refine jb_goto (pc' := 19) dX12_held_15 (by decide) ?_
      refine jb_iret dX12_held_19 rfl ?_
      exact ⟨congrArg (fun y => some (Value.int y)) (by unfold jm_cl; first | exact (if_pos (Int32.not_le.mp c1)).symm | exact ((if_neg (Int32.not_lt.mpr c1)).trans (if_pos (Int32.not_le.mp c2))).symm | exact ((if_neg (Int32.not_lt.mpr c1)).trans (if_neg (Int32.not_lt.mpr c2))).symm), rfl⟩
  · refine jb_iload_n (pc' := 6) dX12_held_5 rfl rfl ?_
    refine jb_goto (pc' := 19) dX12_held_6 (by decide) ?_
    refine jb_iret dX12_held_19 rfl ?_
    exact ⟨congrArg (fun y => some (Value.int y)) (by unfold jm_cl; first | exact (if_pos (Int32.not_le.mp c1)).symm | exact ((if_neg (Int32.not_lt.mpr c1)).trans (if_pos (Int32.not_le.mp c2))).symm | exact ((if_neg (Int32.not_lt.mpr c1)).trans (if_neg (Int32.not_lt.mpr c2))).symm), rfl⟩
set_option maxRecDepth 100000 in
set_option maxHeartbeats 4000000 in
theorem c_of0 {sc : Nat × (Nat → Int32)} {s0 s1 s2 s3 s4 s5 s6 s7 s8 s9 s11 : List va_E} {V : Nat → Nat → Nat} (I J d e kp nm : Nat → Int32) (W : Nat → Nat → Int32) (hd : jd_ V d) (hk : jv_ok V) (p : Nat) (hp : p < V 0 1) : jb_C sc yX12_of cX12_of 3 (Option.some .int) 0 0 0 [.ref 105, .int (nI p), .int 0] [s0, s1, s2, s3, s4, s5, s6, s7, s8, s9, jb_mdl I J d e kp nm W, s11] (fun r h9 => r = some (.int (nI (V 1 p))) ∧ h9 = [s0, s1, s2, s3, s4, s5, s6, s7, s8, s9, jb_mdl I J d e kp nm W, s11]) := by
  refine jb_CofJ (ini := false) (by decide +kernel) (fun h => by cases h) (Nat.le_of_ble_eq_true rfl) ?_
  show jb_J sc RX12 cX12_of 3 (Option.some .int) false 0 0 0 0 [some (.ref 105), some (.int (nI p)), some (.int 0)] [] [s0, s1, s2, s3, s4, s5, s6, s7, s8, s9, jb_mdl I J d e kp nm W, s11] _
  obtain ⟨e0, e1, e2, e3, e4, e5, e6, dv, ds, dd⟩ := hd
  obtain ⟨k0, k1, k2, k3, k4, k5, k6, k7, kv, ks, kd⟩ := hk
  refine jb_aload_n (pc' := 1) dX12_of_0 rfl rfl ?_
  refine gf_X12_7 (pc' := 4) (v := .ref 106) dX12_of_1 rfl rfl rfl ?_
  refine jb_bipush (pc' := 6) 10 dX12_of_4 (by decide) rfl ?_
  refine jb_iconst (pc' := 7) 3 dX12_of_6 (by decide) rfl ?_
  refine jb_iload_n (pc' := 8) dX12_of_7 rfl rfl ?_
  refine jb_imul (pc' := 9) dX12_of_8 rfl ?_
  refine jb_top (v := .int (3 * (nI p))) (w := .int (nI (3 * p))) (jb_vI (pk_mul 3 _)) ?_
  refine jb_iadd (pc' := 10) dX12_of_9 rfl ?_
  refine jb_top (v := .int (10 + (nI (3 * p)))) (w := .int (nI (10 + 3 * p))) (jb_vI (nI_add 10 _)) ?_
  refine jb_iload_n (pc' := 11) dX12_of_10 rfl rfl ?_
  refine jb_iadd (pc' := 12) dX12_of_11 rfl ?_
  refine jb_top (v := .int ((nI (10 + 3 * p)) + 0)) (w := .int (nI (10 + 3 * p + 0))) (jb_vI (nI_add _ 0)) ?_
  refine jb_iaload (pc' := 13) (i9 := (10 + 3 * p + 0)) (f := d) dX12_of_12 rfl (jb_ix_nI (by omega)) (by omega) rfl ?_
  refine jb_top (v := .int (d (10 + 3 * p + 0))) (w := .int (nI (V 1 p))) (jb_vI (dv p (by omega)).1) ?_
  refine jb_iret dX12_of_13 rfl ?_
  exact ⟨rfl, rfl⟩
set_option maxRecDepth 100000 in
set_option maxHeartbeats 4000000 in
theorem c_of1 {sc : Nat × (Nat → Int32)} {s0 s1 s2 s3 s4 s5 s6 s7 s8 s9 s11 : List va_E} {V : Nat → Nat → Nat} (I J d e kp nm : Nat → Int32) (W : Nat → Nat → Int32) (hd : jd_ V d) (hk : jv_ok V) (p : Nat) (hp : p < V 0 1) : jb_C sc yX12_of cX12_of 3 (Option.some .int) 0 0 0 [.ref 105, .int (nI p), .int 1] [s0, s1, s2, s3, s4, s5, s6, s7, s8, s9, jb_mdl I J d e kp nm W, s11] (fun r h9 => r = some (.int (nI (V 2 p))) ∧ h9 = [s0, s1, s2, s3, s4, s5, s6, s7, s8, s9, jb_mdl I J d e kp nm W, s11]) := by
  refine jb_CofJ (ini := false) (by decide +kernel) (fun h => by cases h) (Nat.le_of_ble_eq_true rfl) ?_
  show jb_J sc RX12 cX12_of 3 (Option.some .int) false 0 0 0 0 [some (.ref 105), some (.int (nI p)), some (.int 1)] [] [s0, s1, s2, s3, s4, s5, s6, s7, s8, s9, jb_mdl I J d e kp nm W, s11] _
  obtain ⟨e0, e1, e2, e3, e4, e5, e6, dv, ds, dd⟩ := hd
  obtain ⟨k0, k1, k2, k3, k4, k5, k6, k7, kv, ks, kd⟩ := hk
  refine jb_aload_n (pc' := 1) dX12_of_0 rfl rfl ?_
  refine gf_X12_7 (pc' := 4) (v := .ref 106) dX12_of_1 rfl rfl rfl ?_
  refine jb_bipush (pc' := 6) 10 dX12_of_4 (by decide) rfl ?_
  refine jb_iconst (pc' := 7) 3 dX12_of_6 (by decide) rfl ?_
  refine jb_iload_n (pc' := 8) dX12_of_7 rfl rfl ?_
  refine jb_imul (pc' := 9) dX12_of_8 rfl ?_
  refine jb_top (v := .int (3 * (nI p))) (w := .int (nI (3 * p))) (jb_vI (pk_mul 3 _)) ?_
  refine jb_iadd (pc' := 10) dX12_of_9 rfl ?_
  refine jb_top (v := .int (10 + (nI (3 * p)))) (w := .int (nI (10 + 3 * p))) (jb_vI (nI_add 10 _)) ?_
  refine jb_iload_n (pc' := 11) dX12_of_10 rfl rfl ?_
  refine jb_iadd (pc' := 12) dX12_of_11 rfl ?_
  refine jb_top (v := .int ((nI (10 + 3 * p)) + 1)) (w := .int (nI (10 + 3 * p + 1))) (jb_vI (nI_add _ 1)) ?_
  refine jb_iaload (pc' := 13) (i9 := (10 + 3 * p + 1)) (f := d) dX12_of_12 rfl (jb_ix_nI (by omega)) (by omega) rfl ?_
  refine jb_top (v := .int (d (10 + 3 * p + 1))) (w := .int (nI (V 2 p))) (jb_vI (dv p (by omega)).2.1) ?_
  refine jb_iret dX12_of_13 rfl ?_
  exact ⟨rfl, rfl⟩
set_option maxRecDepth 100000 in
set_option maxHeartbeats 4000000 in
theorem c_of2 {sc : Nat × (Nat → Int32)} {s0 s1 s2 s3 s4 s5 s6 s7 s8 s9 s11 : List va_E} {V : Nat → Nat → Nat} (I J d e kp nm : Nat → Int32) (W : Nat → Nat → Int32) (hd : jd_ V d) (hk : jv_ok V) (p : Nat) (hp : p < V 0 1) : jb_C sc yX12_of cX12_of 3 (Option.some .int) 0 0 0 [.ref 105, .int (nI p), .int 2] [s0, s1, s2, s3, s4, s5, s6, s7, s8, s9, jb_mdl I J d e kp nm W, s11] (fun r h9 => r = some (.int (nI (V 3 p))) ∧ h9 = [s0, s1, s2, s3, s4, s5, s6, s7, s8, s9, jb_mdl I J d e kp nm W, s11]) := by
  refine jb_CofJ (ini := false) (by decide +kernel) (fun h => by cases h) (Nat.le_of_ble_eq_true rfl) ?_
  show jb_J sc RX12 cX12_of 3 (Option.some .int) false 0 0 0 0 [some (.ref 105), some (.int (nI p)), some (.int 2)] [] [s0, s1, s2, s3, s4, s5, s6, s7, s8, s9, jb_mdl I J d e kp nm W, s11] _
  obtain ⟨e0, e1, e2, e3, e4, e5, e6, dv, ds, dd⟩ := hd
  obtain ⟨k0, k1, k2, k3, k4, k5, k6, k7, kv, ks, kd⟩ := hk
  refine jb_aload_n (pc' := 1) dX12_of_0 rfl rfl ?_
  refine gf_X12_7 (pc' := 4) (v := .ref 106) dX12_of_1 rfl rfl rfl ?_
  refine jb_bipush (pc' := 6) 10 dX12_of_4 (by decide) rfl ?_
  refine jb_iconst (pc' := 7) 3 dX12_of_6 (by decide) rfl ?_
  refine jb_iload_n (pc' := 8) dX12_of_7 rfl rfl ?_
  refine jb_imul (pc' := 9) dX12_of_8 rfl ?_
  refine jb_top (v := .int (3 * (nI p))) (w := .int (nI (3 * p))) (jb_vI (pk_mul 3 _)) ?_
  refine jb_iadd (pc' := 10) dX12_of_9 rfl ?_
  refine jb_top (v := .int (10 + (nI (3 * p)))) (w := .int (nI (10 + 3 * p))) (jb_vI (nI_add 10 _)) ?_
  refine jb_iload_n (pc' := 11) dX12_of_10 rfl rfl ?_
  refine jb_iadd (pc' := 12) dX12_of_11 rfl ?_
  refine jb_top (v := .int ((nI (10 + 3 * p)) + 2)) (w := .int (nI (10 + 3 * p + 2))) (jb_vI (nI_add _ 2)) ?_
  refine jb_iaload (pc' := 13) (i9 := (10 + 3 * p + 2)) (f := d) dX12_of_12 rfl (jb_ix_nI (by omega)) (by omega) rfl ?_
  refine jb_top (v := .int (d (10 + 3 * p + 2))) (w := .int (nI (V 3 p))) (jb_vI (dv p (by omega)).2.2) ?_
  refine jb_iret dX12_of_13 rfl ?_
  exact ⟨rfl, rfl⟩
set_option maxRecDepth 100000 in
set_option maxHeartbeats 4000000 in
theorem c_ofk {sc : Nat × (Nat → Int32)} {s0 s1 s2 s3 s4 s5 s6 s7 s8 s9 s11 : List va_E} {V : Nat → Nat → Nat} (I J d e kp nm : Nat → Int32) (W : Nat → Nat → Int32) (hd : jd_ V d) (hk : jv_ok V) (p : Nat) (hp : p < V 0 1) : jb_C sc yX12_of cX12_of 3 (Option.some .int) 0 0 0 [.ref 105, .int (nI p), .int 0] [s0, s1, s2, s3, s4, s5, s6, s7, s8, s9, jb_mdl I J d e kp nm W, s11] (fun r h9 => h9 = [s0, s1, s2, s3, s4, s5, s6, s7, s8, s9, jb_mdl I J d e kp nm W, s11] ∧ ((V 1 p = 0 ∧ r = some (.int 0)) ∨ (V 1 p = 1 ∧ r = some (.int 1)) ∨ (V 1 p = 2 ∧ r = some (.int 2)) ∨ (V 1 p = 3 ∧ r = some (.int 3)) ∨ (V 1 p = 4 ∧ r = some (.int 4)) ∨ (V 1 p = 5 ∧ r = some (.int 5)) ∨ (V 1 p = 6 ∧ r = some (.int 6)))) := by
  refine jb_CofJ (ini := false) (by decide +kernel) (fun h => by cases h) (Nat.le_of_ble_eq_true rfl) ?_
  show jb_J sc RX12 cX12_of 3 (Option.some .int) false 0 0 0 0 [some (.ref 105), some (.int (nI p)), some (.int 0)] [] [s0, s1, s2, s3, s4, s5, s6, s7, s8, s9, jb_mdl I J d e kp nm W, s11] _
  obtain ⟨e0, e1, e2, e3, e4, e5, e6, dv, ds, dd⟩ := hd
  obtain ⟨k0, k1, k2, k3, k4, k5, k6, k7, kv, ks, kd⟩ := hk
  refine jb_aload_n (pc' := 1) dX12_of_0 rfl rfl ?_
  refine gf_X12_7 (pc' := 4) (v := .ref 106) dX12_of_1 rfl rfl rfl ?_
  refine jb_bipush (pc' := 6) 10 dX12_of_4 (by decide) rfl ?_
  refine jb_iconst (pc' := 7) 3 dX12_of_6 (by decide) rfl ?_
  refine jb_iload_n (pc' := 8) dX12_of_7 rfl rfl ?_
  refine jb_imul (pc' := 9) dX12_of_8 rfl ?_
  refine jb_top (v := .int (3 * (nI p))) (w := .int (nI (3 * p))) (jb_vI (pk_mul 3 _)) ?_
  refine jb_iadd (pc' := 10) dX12_of_9 rfl ?_
  refine jb_top (v := .int (10 + (nI (3 * p)))) (w := .int (nI (10 + 3 * p))) (jb_vI (nI_add 10 _)) ?_
  refine jb_iload_n (pc' := 11) dX12_of_10 rfl rfl ?_
  refine jb_iadd (pc' := 12) dX12_of_11 rfl ?_
  refine jb_top (v := .int ((nI (10 + 3 * p)) + 0)) (w := .int (nI (10 + 3 * p + 0))) (jb_vI (nI_add _ 0)) ?_
  refine jb_iaload (pc' := 13) (i9 := (10 + 3 * p + 0)) (f := d) dX12_of_12 rfl (jb_ix_nI (by omega)) (by omega) rfl ?_
  refine jb_top (v := .int (d (10 + 3 * p + 0))) (w := .int (nI (V 1 p))) (jb_vI (dv p (by omega)).1) ?_
  refine jb_iret dX12_of_13 rfl ?_
  exact ⟨rfl, jd_k7 (kv p hp).1⟩
set_option maxRecDepth 100000 in
set_option maxHeartbeats 4000000 in
theorem c_ofIt0 {sc : Nat × (Nat → Int32)} {s0 s1 s2 s3 s4 s5 s6 s7 s8 s9 s11 : List va_E} {V : Nat → Nat → Nat} (I J d e kp nm : Nat → Int32) (W : Nat → Nat → Int32) (hd : jd_ V d) (hk : jv_ok V) (s : Nat) (hs : s < V 0 2) : jb_C sc yX12_ofIt cX12_ofIt 3 (Option.some .int) 0 0 0 [.ref 105, .int (nI s), .int 0] [s0, s1, s2, s3, s4, s5, s6, s7, s8, s9, jb_mdl I J d e kp nm W, s11] (fun r h9 => r = some (.int (nI (V 4 s))) ∧ h9 = [s0, s1, s2, s3, s4, s5, s6, s7, s8, s9, jb_mdl I J d e kp nm W, s11]) := by
  refine jb_CofJ (ini := false) (by decide +kernel) (fun h => by cases h) (Nat.le_of_ble_eq_true rfl) ?_
  show jb_J sc RX12 cX12_ofIt 3 (Option.some .int) false 0 0 0 0 [some (.ref 105), some (.int (nI s)), some (.int 0)] [] [s0, s1, s2, s3, s4, s5, s6, s7, s8, s9, jb_mdl I J d e kp nm W, s11] _
  obtain ⟨e0, e1, e2, e3, e4, e5, e6, dv, ds, dd⟩ := hd
  obtain ⟨k0, k1, k2, k3, k4, k5, k6, k7, kv, ks, kd⟩ := hk
  refine jb_aload_n (pc' := 1) dX12_ofIt_0 rfl rfl ?_
  refine gf_X12_7 (pc' := 4) (v := .ref 106) dX12_ofIt_1 rfl rfl rfl ?_
  refine jb_bipush (pc' := 6) 28 dX12_ofIt_4 (by decide) rfl ?_
  refine jb_bipush (pc' := 8) 6 dX12_ofIt_6 (by decide) rfl ?_
  refine jb_iload_n (pc' := 9) dX12_ofIt_8 rfl rfl ?_
  refine jb_imul (pc' := 10) dX12_ofIt_9 rfl ?_
  refine jb_top (v := .int (6 * (nI s))) (w := .int (nI (6 * s))) (jb_vI (pk_mul 6 _)) ?_
  refine jb_iadd (pc' := 11) dX12_ofIt_10 rfl ?_
  refine jb_top (v := .int (28 + (nI (6 * s)))) (w := .int (nI (28 + 6 * s))) (jb_vI (nI_add 28 _)) ?_
  refine jb_iload_n (pc' := 12) dX12_ofIt_11 rfl rfl ?_
  refine jb_iadd (pc' := 13) dX12_ofIt_12 rfl ?_
  refine jb_top (v := .int ((nI (28 + 6 * s)) + 0)) (w := .int (nI (28 + 6 * s + 0))) (jb_vI (nI_add _ 0)) ?_
  refine jb_iaload (pc' := 14) (i9 := (28 + 6 * s + 0)) (f := d) dX12_ofIt_13 rfl (jb_ix_nI (by omega)) (by omega) rfl ?_
  refine jb_top (v := .int (d (28 + 6 * s + 0))) (w := .int (nI (V 4 s))) (jb_vI (ds s (by omega)).1) ?_
  refine jb_iret dX12_ofIt_14 rfl ?_
  exact ⟨rfl, rfl⟩
set_option maxRecDepth 100000 in
set_option maxHeartbeats 4000000 in
theorem c_ofIt1 {sc : Nat × (Nat → Int32)} {s0 s1 s2 s3 s4 s5 s6 s7 s8 s9 s11 : List va_E} {V : Nat → Nat → Nat} (I J d e kp nm : Nat → Int32) (W : Nat → Nat → Int32) (hd : jd_ V d) (hk : jv_ok V) (s : Nat) (hs : s < V 0 2) : jb_C sc yX12_ofIt cX12_ofIt 3 (Option.some .int) 0 0 0 [.ref 105, .int (nI s), .int 1] [s0, s1, s2, s3, s4, s5, s6, s7, s8, s9, jb_mdl I J d e kp nm W, s11] (fun r h9 => r = some (.int (nI (V 5 s))) ∧ h9 = [s0, s1, s2, s3, s4, s5, s6, s7, s8, s9, jb_mdl I J d e kp nm W, s11]) := by
  refine jb_CofJ (ini := false) (by decide +kernel) (fun h => by cases h) (Nat.le_of_ble_eq_true rfl) ?_
  show jb_J sc RX12 cX12_ofIt 3 (Option.some .int) false 0 0 0 0 [some (.ref 105), some (.int (nI s)), some (.int 1)] [] [s0, s1, s2, s3, s4, s5, s6, s7, s8, s9, jb_mdl I J d e kp nm W, s11] _
  obtain ⟨e0, e1, e2, e3, e4, e5, e6, dv, ds, dd⟩ := hd
  obtain ⟨k0, k1, k2, k3, k4, k5, k6, k7, kv, ks, kd⟩ := hk
  refine jb_aload_n (pc' := 1) dX12_ofIt_0 rfl rfl ?_
  refine gf_X12_7 (pc' := 4) (v := .ref 106) dX12_ofIt_1 rfl rfl rfl ?_
  refine jb_bipush (pc' := 6) 28 dX12_ofIt_4 (by decide) rfl ?_
  refine jb_bipush (pc' := 8) 6 dX12_ofIt_6 (by decide) rfl ?_
  refine jb_iload_n (pc' := 9) dX12_ofIt_8 rfl rfl ?_
  refine jb_imul (pc' := 10) dX12_ofIt_9 rfl ?_
  refine jb_top (v := .int (6 * (nI s))) (w := .int (nI (6 * s))) (jb_vI (pk_mul 6 _)) ?_
  refine jb_iadd (pc' := 11) dX12_ofIt_10 rfl ?_
  refine jb_top (v := .int (28 + (nI (6 * s)))) (w := .int (nI (28 + 6 * s))) (jb_vI (nI_add 28 _)) ?_
  refine jb_iload_n (pc' := 12) dX12_ofIt_11 rfl rfl ?_
  refine jb_iadd (pc' := 13) dX12_ofIt_12 rfl ?_
  refine jb_top (v := .int ((nI (28 + 6 * s)) + 1)) (w := .int (nI (28 + 6 * s + 1))) (jb_vI (nI_add _ 1)) ?_
  refine jb_iaload (pc' := 14) (i9 := (28 + 6 * s + 1)) (f := d) dX12_ofIt_13 rfl (jb_ix_nI (by omega)) (by omega) rfl ?_
  refine jb_top (v := .int (d (28 + 6 * s + 1))) (w := .int (nI (V 5 s))) (jb_vI (ds s (by omega)).2.1) ?_
  refine jb_iret dX12_ofIt_14 rfl ?_
  exact ⟨rfl, rfl⟩
set_option maxRecDepth 100000 in
set_option maxHeartbeats 4000000 in
theorem c_ofIt2 {sc : Nat × (Nat → Int32)} {s0 s1 s2 s3 s4 s5 s6 s7 s8 s9 s11 : List va_E} {V : Nat → Nat → Nat} (I J d e kp nm : Nat → Int32) (W : Nat → Nat → Int32) (hd : jd_ V d) (hk : jv_ok V) (s : Nat) (hs : s < V 0 2) : jb_C sc yX12_ofIt cX12_ofIt 3 (Option.some .int) 0 0 0 [.ref 105, .int (nI s), .int 2] [s0, s1, s2, s3, s4, s5, s6, s7, s8, s9, jb_mdl I J d e kp nm W, s11] (fun r h9 => r = some (.int (nI (V 6 s))) ∧ h9 = [s0, s1, s2, s3, s4, s5, s6, s7, s8, s9, jb_mdl I J d e kp nm W, s11]) := by
  refine jb_CofJ (ini := false) (by decide +kernel) (fun h => by cases h) (Nat.le_of_ble_eq_true rfl) ?_
  show jb_J sc RX12 cX12_ofIt 3 (Option.some .int) false 0 0 0 0 [some (.ref 105), some (.int (nI s)), some (.int 2)] [] [s0, s1, s2, s3, s4, s5, s6, s7, s8, s9, jb_mdl I J d e kp nm W, s11] _
  obtain ⟨e0, e1, e2, e3, e4, e5, e6, dv, ds, dd⟩ := hd
  obtain ⟨k0, k1, k2, k3, k4, k5, k6, k7, kv, ks, kd⟩ := hk
  refine jb_aload_n (pc' := 1) dX12_ofIt_0 rfl rfl ?_
  refine gf_X12_7 (pc' := 4) (v := .ref 106) dX12_ofIt_1 rfl rfl rfl ?_
  refine jb_bipush (pc' := 6) 28 dX12_ofIt_4 (by decide) rfl ?_
  refine jb_bipush (pc' := 8) 6 dX12_ofIt_6 (by decide) rfl ?_
  refine jb_iload_n (pc' := 9) dX12_ofIt_8 rfl rfl ?_
  refine jb_imul (pc' := 10) dX12_ofIt_9 rfl ?_
  refine jb_top (v := .int (6 * (nI s))) (w := .int (nI (6 * s))) (jb_vI (pk_mul 6 _)) ?_
  refine jb_iadd (pc' := 11) dX12_ofIt_10 rfl ?_
  refine jb_top (v := .int (28 + (nI (6 * s)))) (w := .int (nI (28 + 6 * s))) (jb_vI (nI_add 28 _)) ?_
  refine jb_iload_n (pc' := 12) dX12_ofIt_11 rfl rfl ?_
  refine jb_iadd (pc' := 13) dX12_ofIt_12 rfl ?_
  refine jb_top (v := .int ((nI (28 + 6 * s)) + 2)) (w := .int (nI (28 + 6 * s + 2))) (jb_vI (nI_add _ 2)) ?_
  refine jb_iaload (pc' := 14) (i9 := (28 + 6 * s + 2)) (f := d) dX12_ofIt_13 rfl (jb_ix_nI (by omega)) (by omega) rfl ?_
  refine jb_top (v := .int (d (28 + 6 * s + 2))) (w := .int (nI (V 6 s))) (jb_vI (ds s (by omega)).2.2.1) ?_
  refine jb_iret dX12_ofIt_14 rfl ?_
  exact ⟨rfl, rfl⟩
set_option maxRecDepth 100000 in
set_option maxHeartbeats 4000000 in
theorem c_ofIt3 {sc : Nat × (Nat → Int32)} {s0 s1 s2 s3 s4 s5 s6 s7 s8 s9 s11 : List va_E} {V : Nat → Nat → Nat} (I J d e kp nm : Nat → Int32) (W : Nat → Nat → Int32) (hd : jd_ V d) (hk : jv_ok V) (s : Nat) (hs : s < V 0 2) : jb_C sc yX12_ofIt cX12_ofIt 3 (Option.some .int) 0 0 0 [.ref 105, .int (nI s), .int 3] [s0, s1, s2, s3, s4, s5, s6, s7, s8, s9, jb_mdl I J d e kp nm W, s11] (fun r h9 => r = some (.int (nI (V 7 s))) ∧ h9 = [s0, s1, s2, s3, s4, s5, s6, s7, s8, s9, jb_mdl I J d e kp nm W, s11]) := by
  refine jb_CofJ (ini := false) (by decide +kernel) (fun h => by cases h) (Nat.le_of_ble_eq_true rfl) ?_
  show jb_J sc RX12 cX12_ofIt 3 (Option.some .int) false 0 0 0 0 [some (.ref 105), some (.int (nI s)), some (.int 3)] [] [s0, s1, s2, s3, s4, s5, s6, s7, s8, s9, jb_mdl I J d e kp nm W, s11] _
  obtain ⟨e0, e1, e2, e3, e4, e5, e6, dv, ds, dd⟩ := hd
  obtain ⟨k0, k1, k2, k3, k4, k5, k6, k7, kv, ks, kd⟩ := hk
  refine jb_aload_n (pc' := 1) dX12_ofIt_0 rfl rfl ?_
  refine gf_X12_7 (pc' := 4) (v := .ref 106) dX12_ofIt_1 rfl rfl rfl ?_
  refine jb_bipush (pc' := 6) 28 dX12_ofIt_4 (by decide) rfl ?_
  refine jb_bipush (pc' := 8) 6 dX12_ofIt_6 (by decide) rfl ?_
  refine jb_iload_n (pc' := 9) dX12_ofIt_8 rfl rfl ?_
  refine jb_imul (pc' := 10) dX12_ofIt_9 rfl ?_
  refine jb_top (v := .int (6 * (nI s))) (w := .int (nI (6 * s))) (jb_vI (pk_mul 6 _)) ?_
  refine jb_iadd (pc' := 11) dX12_ofIt_10 rfl ?_
  refine jb_top (v := .int (28 + (nI (6 * s)))) (w := .int (nI (28 + 6 * s))) (jb_vI (nI_add 28 _)) ?_
  refine jb_iload_n (pc' := 12) dX12_ofIt_11 rfl rfl ?_
  refine jb_iadd (pc' := 13) dX12_ofIt_12 rfl ?_
  refine jb_top (v := .int ((nI (28 + 6 * s)) + 3)) (w := .int (nI (28 + 6 * s + 3))) (jb_vI (nI_add _ 3)) ?_
  refine jb_iaload (pc' := 14) (i9 := (28 + 6 * s + 3)) (f := d) dX12_ofIt_13 rfl (jb_ix_nI (by omega)) (by omega) rfl ?_
  refine jb_top (v := .int (d (28 + 6 * s + 3))) (w := .int (nI (V 7 s))) (jb_vI (ds s (by omega)).2.2.2.1) ?_
  refine jb_iret dX12_ofIt_14 rfl ?_
  exact ⟨rfl, rfl⟩
set_option maxRecDepth 100000 in
set_option maxHeartbeats 4000000 in
theorem c_ofIt4 {sc : Nat × (Nat → Int32)} {s0 s1 s2 s3 s4 s5 s6 s7 s8 s9 s11 : List va_E} {V : Nat → Nat → Nat} (I J d e kp nm : Nat → Int32) (W : Nat → Nat → Int32) (hd : jd_ V d) (hk : jv_ok V) (s : Nat) (hs : s < V 0 2) : jb_C sc yX12_ofIt cX12_ofIt 3 (Option.some .int) 0 0 0 [.ref 105, .int (nI s), .int 4] [s0, s1, s2, s3, s4, s5, s6, s7, s8, s9, jb_mdl I J d e kp nm W, s11] (fun r h9 => r = some (.int (nI (V 8 s) - 1)) ∧ h9 = [s0, s1, s2, s3, s4, s5, s6, s7, s8, s9, jb_mdl I J d e kp nm W, s11]) := by
  refine jb_CofJ (ini := false) (by decide +kernel) (fun h => by cases h) (Nat.le_of_ble_eq_true rfl) ?_
  show jb_J sc RX12 cX12_ofIt 3 (Option.some .int) false 0 0 0 0 [some (.ref 105), some (.int (nI s)), some (.int 4)] [] [s0, s1, s2, s3, s4, s5, s6, s7, s8, s9, jb_mdl I J d e kp nm W, s11] _
  obtain ⟨e0, e1, e2, e3, e4, e5, e6, dv, ds, dd⟩ := hd
  obtain ⟨k0, k1, k2, k3, k4, k5, k6, k7, kv, ks, kd⟩ := hk
  refine jb_aload_n (pc' := 1) dX12_ofIt_0 rfl rfl ?_
  refine gf_X12_7 (pc' := 4) (v := .ref 106) dX12_ofIt_1 rfl rfl rfl ?_
  refine jb_bipush (pc' := 6) 28 dX12_ofIt_4 (by decide) rfl ?_
  refine jb_bipush (pc' := 8) 6 dX12_ofIt_6 (by decide) rfl ?_
  refine jb_iload_n (pc' := 9) dX12_ofIt_8 rfl rfl ?_
  refine jb_imul (pc' := 10) dX12_ofIt_9 rfl ?_
  refine jb_top (v := .int (6 * (nI s))) (w := .int (nI (6 * s))) (jb_vI (pk_mul 6 _)) ?_
  refine jb_iadd (pc' := 11) dX12_ofIt_10 rfl ?_
  refine jb_top (v := .int (28 + (nI (6 * s)))) (w := .int (nI (28 + 6 * s))) (jb_vI (nI_add 28 _)) ?_
  refine jb_iload_n (pc' := 12) dX12_ofIt_11 rfl rfl ?_
  refine jb_iadd (pc' := 13) dX12_ofIt_12 rfl ?_
  refine jb_top (v := .int ((nI (28 + 6 * s)) + 4)) (w := .int (nI (28 + 6 * s + 4))) (jb_vI (nI_add _ 4)) ?_
  refine jb_iaload (pc' := 14) (i9 := (28 + 6 * s + 4)) (f := d) dX12_ofIt_13 rfl (jb_ix_nI (by omega)) (by omega) rfl ?_
  refine jb_top (v := .int (d (28 + 6 * s + 4))) (w := .int (nI (V 8 s) - 1)) (jb_vI (ds s (by omega)).2.2.2.2.1) ?_
  refine jb_iret dX12_ofIt_14 rfl ?_
  exact ⟨rfl, rfl⟩
set_option maxRecDepth 100000 in
set_option maxHeartbeats 4000000 in
theorem c_ofIt5 {sc : Nat × (Nat → Int32)} {s0 s1 s2 s3 s4 s5 s6 s7 s8 s9 s11 : List va_E} {V : Nat → Nat → Nat} (I J d e kp nm : Nat → Int32) (W : Nat → Nat → Int32) (hd : jd_ V d) (hk : jv_ok V) (s : Nat) (hs : s < V 0 2) : jb_C sc yX12_ofIt cX12_ofIt 3 (Option.some .int) 0 0 0 [.ref 105, .int (nI s), .int 5] [s0, s1, s2, s3, s4, s5, s6, s7, s8, s9, jb_mdl I J d e kp nm W, s11] (fun r h9 => r = some (.int (nI (V 9 s))) ∧ h9 = [s0, s1, s2, s3, s4, s5, s6, s7, s8, s9, jb_mdl I J d e kp nm W, s11]) := by
  refine jb_CofJ (ini := false) (by decide +kernel) (fun h => by cases h) (Nat.le_of_ble_eq_true rfl) ?_
  show jb_J sc RX12 cX12_ofIt 3 (Option.some .int) false 0 0 0 0 [some (.ref 105), some (.int (nI s)), some (.int 5)] [] [s0, s1, s2, s3, s4, s5, s6, s7, s8, s9, jb_mdl I J d e kp nm W, s11] _
  obtain ⟨e0, e1, e2, e3, e4, e5, e6, dv, ds, dd⟩ := hd
  obtain ⟨k0, k1, k2, k3, k4, k5, k6, k7, kv, ks, kd⟩ := hk
  refine jb_aload_n (pc' := 1) dX12_ofIt_0 rfl rfl ?_
  refine gf_X12_7 (pc' := 4) (v := .ref 106) dX12_ofIt_1 rfl rfl rfl ?_
  refine jb_bipush (pc' := 6) 28 dX12_ofIt_4 (by decide) rfl ?_
  refine jb_bipush (pc' := 8) 6 dX12_ofIt_6 (by decide) rfl ?_
  refine jb_iload_n (pc' := 9) dX12_ofIt_8 rfl rfl ?_
  refine jb_imul (pc' := 10) dX12_ofIt_9 rfl ?_
  refine jb_top (v := .int (6 * (nI s))) (w := .int (nI (6 * s))) (jb_vI (pk_mul 6 _)) ?_
  refine jb_iadd (pc' := 11) dX12_ofIt_10 rfl ?_
  refine jb_top (v := .int (28 + (nI (6 * s)))) (w := .int (nI (28 + 6 * s))) (jb_vI (nI_add 28 _)) ?_
  refine jb_iload_n (pc' := 12) dX12_ofIt_11 rfl rfl ?_
  refine jb_iadd (pc' := 13) dX12_ofIt_12 rfl ?_
  refine jb_top (v := .int ((nI (28 + 6 * s)) + 5)) (w := .int (nI (28 + 6 * s + 5))) (jb_vI (nI_add _ 5)) ?_
  refine jb_iaload (pc' := 14) (i9 := (28 + 6 * s + 5)) (f := d) dX12_ofIt_13 rfl (jb_ix_nI (by omega)) (by omega) rfl ?_
  refine jb_top (v := .int (d (28 + 6 * s + 5))) (w := .int (nI (V 9 s))) (jb_vI (ds s (by omega)).2.2.2.2.2) ?_
  refine jb_iret dX12_ofIt_14 rfl ?_
  exact ⟨rfl, rfl⟩
set_option maxRecDepth 100000 in
set_option maxHeartbeats 4000000 in
theorem c_gapm {sc : Nat × (Nat → Int32)} {s0 s1 s2 s3 s4 s5 s6 s7 s8 s9 s11 : List va_E} {V : Nat → Nat → Nat} (I J d e kp nm : Nat → Int32) (W : Nat → Nat → Int32) (hd : jd_ V d) (hk : jv_ok V) : jb_C sc yX12_gap cX12_gap 1 (Option.some .int) 0 0 0 [.ref 105] [s0, s1, s2, s3, s4, s5, s6, s7, s8, s9, jb_mdl I J d e kp nm W, s11] (fun r h9 => r = some (.int (nI (V 0 4 + V 0 5))) ∧ h9 = [s0, s1, s2, s3, s4, s5, s6, s7, s8, s9, jb_mdl I J d e kp nm W, s11]) := by
  refine jb_CofJ (ini := false) (by decide +kernel) (fun h => by cases h) (Nat.le_of_ble_eq_true rfl) ?_
  show jb_J sc RX12 cX12_gap 1 (Option.some .int) false 0 0 0 0 [some (.ref 105)] [] [s0, s1, s2, s3, s4, s5, s6, s7, s8, s9, jb_mdl I J d e kp nm W, s11] _
  obtain ⟨e0, e1, e2, e3, e4, e5, e6, dv, ds, dd⟩ := hd
  obtain ⟨k0, k1, k2, k3, k4, k5, k6, k7, kv, ks, kd⟩ := hk
  refine jb_aload_n (pc' := 1) dX12_gap_0 rfl rfl ?_
  refine gf_X12_7 (pc' := 4) (v := .ref 106) dX12_gap_1 rfl rfl rfl ?_
  refine jb_iconst (pc' := 5) 0 dX12_gap_4 (by decide) rfl ?_
  refine jb_iaload (pc' := 6) (i9 := 0) (f := d) dX12_gap_5 rfl jb_x0 (by decide) rfl ?_
  refine jb_top (v := .int (d 0)) (w := .int (nI (V 0 4))) (jb_vI e0) ?_
  refine jb_aload_n (pc' := 7) dX12_gap_6 rfl rfl ?_
  refine gf_X12_7 (pc' := 10) (v := .ref 106) dX12_gap_7 rfl rfl rfl ?_
  refine jb_iconst (pc' := 11) 1 dX12_gap_10 (by decide) rfl ?_
  refine jb_iaload (pc' := 12) (i9 := 1) (f := d) dX12_gap_11 rfl jb_x1 (by decide) rfl ?_
  refine jb_top (v := .int (d 1)) (w := .int (nI (V 0 5))) (jb_vI e1) ?_
  refine jb_iadd (pc' := 13) dX12_gap_12 rfl ?_
  refine jb_top (v := .int ((nI (V 0 4)) + (nI (V 0 5)))) (w := .int (nI ((V 0 4) + (V 0 5)))) (jb_vI (nI_add _ _)) ?_
  refine jb_iret dX12_gap_13 rfl ?_
  exact ⟨rfl, rfl⟩
set_option maxRecDepth 100000 in
set_option maxHeartbeats 4000000 in
theorem c_thinksOf {sc : Nat × (Nat → Int32)} {s0 s1 s2 s3 s4 s5 s6 s7 s8 s9 s11 : List va_E} {V : Nat → Nat → Nat} (I J d e kp nm : Nat → Int32) (W : Nat → Nat → Int32) (hd : jd_ V d) (hk : jv_ok V) (p : Nat) (hp : p < V 0 1) : jb_C sc yX12_thinksOf cX12_thinksOf 4 (Option.some .int) 1 0 0 [.ref 105, .int (nI p)] [s0, s1, s2, s3, s4, s5, s6, s7, s8, s9, jb_mdl I J d e kp nm W, s11] (fun r h9 => r = some (.int (nI (jm_th V p))) ∧ h9 = [s0, s1, s2, s3, s4, s5, s6, s7, s8, s9, jb_mdl I J d e kp nm W, s11]) := by
  refine jb_CofJ (ini := false) (by decide +kernel) (fun h => by cases h) (Nat.le_of_ble_eq_true rfl) ?_
  show jb_J sc RX12 cX12_thinksOf 4 (Option.some .int) false 1 0 0 0 [some (.ref 105), some (.int (nI p)), none, none] [] [s0, s1, s2, s3, s4, s5, s6, s7, s8, s9, jb_mdl I J d e kp nm W, s11] _
  have hd0 := hd
  have hk0 := hk
  obtain ⟨e0, e1, e2, e3, e4, e5, e6, dv, ds, dd⟩ := hd
  obtain ⟨k0, k1, k2, k3, k4, k5, k6, k7, kv, ks, kd⟩ := hk
  have q0 := kv p hp
  refine jb_aload_n (pc' := 1) dX12_thinksOf_0 rfl rfl ?_
  refine jb_iload_n (pc' := 2) dX12_thinksOf_1 rfl rfl ?_
  refine jb_iconst (pc' := 3) 1 dX12_thinksOf_2 (by decide) rfl ?_
  refine jb_callV (pc' := 6) (ci := 12) (q := 105) (As := [.int (nI p), .int 1]) (a2 := 0) (b2 := 0) wv_X12_145 rfl dX12_thinksOf_3 (c_of1 I J d e kp nm W hd0 hk0 p (by omega)) rfl rfl ⟨by decide, Nat.le_of_eq (Nat.zero_add _), Nat.le_of_eq (Nat.zero_add _)⟩ (Nat.le_of_ble_eq_true rfl) rfl (fun r h9 hq => ?_)
  obtain ⟨rfl, rfl⟩ := hq
  show jb_J _ RX12 cX12_thinksOf 4 (Option.some .int) false 1 0 0 6 [some (.ref 105), some (.int (nI p)), none, none] [.int (nI (V 2 p))] [s0, s1, s2, s3, s4, s5, s6, s7, s8, s9, jb_mdl I J d e kp nm W, s11] _
  refine jb_istore_n_ (pc' := 7) dX12_thinksOf_6 (by decide) (jb_at2 rfl) rfl ?_
  refine jb_iload_n (pc' := 8) dX12_thinksOf_7 rfl rfl ?_
  refine jb_iconst (pc' := 9) 3 dX12_thinksOf_8 (by decide) rfl ?_
  refine jb_icmp_ge (tgt := 18) (pc' := 12) dX12_thinksOf_9 (by decide) rfl (fun c1 => ?_) (fun c1 => ?_)
  · have c1 : 3 ≤ (V 2 p) := (nI_leI (a := 3) (b := (V 2 p)) (by omega) (by omega)).mp c1
    refine jb_iconst (pc' := 19) 0 dX12_thinksOf_18 (by decide) rfl ?_
    refine jb_istore_n_ (pc' := 20) dX12_thinksOf_19 (by decide) (jb_at3 rfl) rfl ?_
    refine jb_aload_n (pc' := 21) dX12_thinksOf_20 rfl rfl ?_
    refine jb_iload_n (pc' := 22) dX12_thinksOf_21 rfl rfl ?_
    refine jb_iconst (pc' := 23) 0 dX12_thinksOf_22 (by decide) rfl ?_
    refine jb_callV (pc' := 26) (ci := 12) (q := 105) (As := [.int (nI p), .int 0]) (a2 := 0) (b2 := 0) wv_X12_145 rfl dX12_thinksOf_23 (c_ofk I J d e kp nm W hd0 hk0 p (by omega)) rfl rfl ⟨by decide, Nat.le_of_eq (Nat.zero_add _), Nat.le_of_eq (Nat.zero_add _)⟩ (Nat.le_of_ble_eq_true rfl) rfl (fun r h9 hq => ?_)
    rcases hq with ⟨rfl, ⟨ek, rfl⟩ | ⟨ek, rfl⟩ | ⟨ek, rfl⟩ | ⟨ek, rfl⟩ | ⟨ek, rfl⟩ | ⟨ek, rfl⟩ | ⟨ek, rfl⟩⟩
    · show jb_J _ RX12 cX12_thinksOf 4 (Option.some .int) false 1 0 0 26 [some (.ref 105), some (.int (nI p)), some (.int (nI (V 2 p))), some (.int 0)] [.int 0] [s0, s1, s2, s3, s4, s5, s6, s7, s8, s9, jb_mdl I J d e kp nm W, s11] _
      refine jb_tableOut (pc' := 104) dX12_thinksOf_26 (by decide) (by decide) ?_
      refine jb_iconst (pc' := 105) 3 dX12_thinksOf_104 (by decide) rfl ?_
      refine jb_iret dX12_thinksOf_105 rfl ?_
      exact ⟨congrArg (fun y => some (Value.int (nI y))) (by unfold jm_th; rw [ek]; first | rfl | exact (show 0 = 3 - V 2 p from by omega) | (rw [show jm_thk 1 (V 2 p) (V 0 5) (V 0 6) = 3 - V 2 p from rfl]; omega) | (rw [show jm_thk 4 (V 2 p) (V 0 5) (V 0 6) = 3 - V 2 p + (if V 0 5 = 0 then 0 else 1) from rfl]; split <;> omega)), rfl⟩
    · show jb_J _ RX12 cX12_thinksOf 4 (Option.some .int) false 1 0 0 26 [some (.ref 105), some (.int (nI p)), some (.int (nI (V 2 p))), some (.int 0)] [.int 1] [s0, s1, s2, s3, s4, s5, s6, s7, s8, s9, jb_mdl I J d e kp nm W, s11] _
      refine jb_tableIn (pc' := 64) (off := 38) dX12_thinksOf_26 (by decide) (by decide) (by decide +kernel) (by decide) ?_
      refine jb_iload_n (pc' := 65) dX12_thinksOf_64 rfl rfl ?_
      refine jb_iret dX12_thinksOf_65 rfl ?_
      exact ⟨congrArg (fun y => some (Value.int (nI y))) (by unfold jm_th; rw [ek]; first | rfl | exact (show 0 = 3 - V 2 p from by omega) | (rw [show jm_thk 1 (V 2 p) (V 0 5) (V 0 6) = 3 - V 2 p from rfl]; omega) | (rw [show jm_thk 4 (V 2 p) (V 0 5) (V 0 6) = 3 - V 2 p + (if V 0 5 = 0 then 0 else 1) from rfl]; split <;> omega)), rfl⟩
    · show jb_J _ RX12 cX12_thinksOf 4 (Option.some .int) false 1 0 0 26 [some (.ref 105), some (.int (nI p)), some (.int (nI (V 2 p))), some (.int 0)] [.int 2] [s0, s1, s2, s3, s4, s5, s6, s7, s8, s9, jb_mdl I J d e kp nm W, s11] _
      refine jb_tableIn (pc' := 83) (off := 57) dX12_thinksOf_26 (by decide) (by decide) (by decide +kernel) (by decide) ?_
      refine jb_iconst (pc' := 84) 3 dX12_thinksOf_83 (by decide) rfl ?_
      refine jb_iload_n (pc' := 85) dX12_thinksOf_84 rfl rfl ?_
      refine jb_iadd (pc' := 86) dX12_thinksOf_85 rfl ?_
      refine jb_top (v := .int (3 + (nI (V 2 p)))) (w := .int (nI (3 + (V 2 p)))) (jb_vI (nI_add 3 _)) ?_
      refine jb_iret dX12_thinksOf_86 rfl ?_
      exact ⟨congrArg (fun y => some (Value.int (nI y))) (by unfold jm_th; rw [ek]; first | rfl | exact (show 0 = 3 - V 2 p from by omega) | (rw [show jm_thk 1 (V 2 p) (V 0 5) (V 0 6) = 3 - V 2 p from rfl]; omega) | (rw [show jm_thk 4 (V 2 p) (V 0 5) (V 0 6) = 3 - V 2 p + (if V 0 5 = 0 then 0 else 1) from rfl]; split <;> omega)), rfl⟩
    · show jb_J _ RX12 cX12_thinksOf 4 (Option.some .int) false 1 0 0 26 [some (.ref 105), some (.int (nI p)), some (.int (nI (V 2 p))), some (.int 0)] [.int 3] [s0, s1, s2, s3, s4, s5, s6, s7, s8, s9, jb_mdl I J d e kp nm W, s11] _
      refine jb_tableIn (pc' := 98) (off := 72) dX12_thinksOf_26 (by decide) (by decide) (by decide +kernel) (by decide) ?_
      refine jb_iconst (pc' := 99) 1 dX12_thinksOf_98 (by decide) rfl ?_
      refine jb_iret dX12_thinksOf_99 rfl ?_
      exact ⟨congrArg (fun y => some (Value.int (nI y))) (by unfold jm_th; rw [ek]; first | rfl | exact (show 0 = 3 - V 2 p from by omega) | (rw [show jm_thk 1 (V 2 p) (V 0 5) (V 0 6) = 3 - V 2 p from rfl]; omega) | (rw [show jm_thk 4 (V 2 p) (V 0 5) (V 0 6) = 3 - V 2 p + (if V 0 5 = 0 then 0 else 1) from rfl]; split <;> omega)), rfl⟩
    · show jb_J _ RX12 cX12_thinksOf 4 (Option.some .int) false 1 0 0 26 [some (.ref 105), some (.int (nI p)), some (.int (nI (V 2 p))), some (.int 0)] [.int 4] [s0, s1, s2, s3, s4, s5, s6, s7, s8, s9, jb_mdl I J d e kp nm W, s11] _
      refine jb_tableIn (pc' := 66) (off := 40) dX12_thinksOf_26 (by decide) (by decide) (by decide +kernel) (by decide) ?_
      refine jb_iload_n (pc' := 67) dX12_thinksOf_66 rfl rfl ?_
      refine jb_aload_n (pc' := 68) dX12_thinksOf_67 rfl rfl ?_
      refine gf_X12_7 (pc' := 71) (v := .ref 106) dX12_thinksOf_68 rfl rfl rfl ?_
      refine jb_iconst (pc' := 72) 1 dX12_thinksOf_71 (by decide) rfl ?_
      refine jb_iaload (pc' := 73) (i9 := 1) (f := d) dX12_thinksOf_72 rfl jb_x1 (by decide) rfl ?_
      refine jb_top (v := .int (d 1)) (w := .int (nI (V 0 5))) (jb_vI e1) ?_
      refine jb_if_le (tgt := 80) (pc' := 76) dX12_thinksOf_73 (by decide) rfl (fun c2 => ?_) (fun c2 => ?_)
      · have c2 : (V 0 5) ≤ 0 := (nI_leI (a := (V 0 5)) (b := 0) (by omega) (by omega)).mp c2
        refine jb_iconst (pc' := 81) 0 dX12_thinksOf_80 (by decide) rfl ?_
        refine jb_iadd (pc' := 82) dX12_thinksOf_81 rfl ?_
        refine jb_top (v := .int (0 + 0)) (w := .int 0) (jb_vI (by decide)) ?_
        refine jb_iret dX12_thinksOf_82 rfl ?_
        exact ⟨congrArg (fun y => some (Value.int (nI y))) (by unfold jm_th; rw [ek]; first | rfl | exact (show 0 = 3 - V 2 p from by omega) | (rw [show jm_thk 1 (V 2 p) (V 0 5) (V 0 6) = 3 - V 2 p from rfl]; omega) | (rw [show jm_thk 4 (V 2 p) (V 0 5) (V 0 6) = 3 - V 2 p + (if V 0 5 = 0 then 0 else 1) from rfl]; split <;> omega)), rfl⟩
      · have c2 : ¬ (V 0 5) ≤ 0 := fun z9 => c2 ((nI_leI (a := (V 0 5)) (b := 0) (by omega) (by omega)).mpr z9)
        refine jb_iconst (pc' := 77) 1 dX12_thinksOf_76 (by decide) rfl ?_
        refine jb_goto (pc' := 81) dX12_thinksOf_77 (by decide) ?_
        refine jb_iadd (pc' := 82) dX12_thinksOf_81 rfl ?_
        refine jb_top (v := .int (0 + 1)) (w := .int 1) (jb_vI (by decide)) ?_
        refine jb_iret dX12_thinksOf_82 rfl ?_
        exact ⟨congrArg (fun y => some (Value.int (nI y))) (by unfold jm_th; rw [ek]; first | rfl | exact (show 0 = 3 - V 2 p from by omega) | (rw [show jm_thk 1 (V 2 p) (V 0 5) (V 0 6) = 3 - V 2 p from rfl]; omega) | (rw [show jm_thk 4 (V 2 p) (V 0 5) (V 0 6) = 3 - V 2 p + (if V 0 5 = 0 then 0 else 1) from rfl]; split <;> omega)), rfl⟩
    · show jb_J _ RX12 cX12_thinksOf 4 (Option.some .int) false 1 0 0 26 [some (.ref 105), some (.int (nI p)), some (.int (nI (V 2 p))), some (.int 0)] [.int 5] [s0, s1, s2, s3, s4, s5, s6, s7, s8, s9, jb_mdl I J d e kp nm W, s11] _
      refine jb_tableIn (pc' := 87) (off := 61) dX12_thinksOf_26 (by decide) (by decide) (by decide +kernel) (by decide) ?_
      refine jb_iconst (pc' := 88) 3 dX12_thinksOf_87 (by decide) rfl ?_
      refine jb_iload_n (pc' := 89) dX12_thinksOf_88 rfl rfl ?_
      refine jb_iadd (pc' := 90) dX12_thinksOf_89 rfl ?_
      refine jb_top (v := .int (3 + (nI (V 2 p)))) (w := .int (nI (3 + (V 2 p)))) (jb_vI (nI_add 3 _)) ?_
      refine jb_aload_n (pc' := 91) dX12_thinksOf_90 rfl rfl ?_
      refine gf_X12_7 (pc' := 94) (v := .ref 106) dX12_thinksOf_91 rfl rfl rfl ?_
      refine jb_iconst (pc' := 95) 2 dX12_thinksOf_94 (by decide) rfl ?_
      refine jb_iaload (pc' := 96) (i9 := 2) (f := d) dX12_thinksOf_95 rfl jb_x2 (by decide) rfl ?_
      refine jb_top (v := .int (d 2)) (w := .int (nI (V 0 6))) (jb_vI e2) ?_
      refine jb_iadd (pc' := 97) dX12_thinksOf_96 rfl ?_
      refine jb_top (v := .int ((nI (3 + (V 2 p))) + (nI (V 0 6)))) (w := .int (nI ((3 + (V 2 p)) + (V 0 6)))) (jb_vI (nI_add _ _)) ?_
      refine jb_iret dX12_thinksOf_97 rfl ?_
      exact ⟨congrArg (fun y => some (Value.int (nI y))) (by unfold jm_th; rw [ek]; first | rfl | exact (show 0 = 3 - V 2 p from by omega) | (rw [show jm_thk 1 (V 2 p) (V 0 5) (V 0 6) = 3 - V 2 p from rfl]; omega) | (rw [show jm_thk 4 (V 2 p) (V 0 5) (V 0 6) = 3 - V 2 p + (if V 0 5 = 0 then 0 else 1) from rfl]; split <;> omega)), rfl⟩
    · show jb_J _ RX12 cX12_thinksOf 4 (Option.some .int) false 1 0 0 26 [some (.ref 105), some (.int (nI p)), some (.int (nI (V 2 p))), some (.int 0)] [.int 6] [s0, s1, s2, s3, s4, s5, s6, s7, s8, s9, jb_mdl I J d e kp nm W, s11] _
      refine jb_tableIn (pc' := 100) (off := 74) dX12_thinksOf_26 (by decide) (by decide) (by decide +kernel) (by decide) ?_
      refine jb_iconst (pc' := 101) 2 dX12_thinksOf_100 (by decide) rfl ?_
      refine jb_iload_n (pc' := 102) dX12_thinksOf_101 rfl rfl ?_
      refine jb_iadd (pc' := 103) dX12_thinksOf_102 rfl ?_
      refine jb_top (v := .int (2 + (nI (V 2 p)))) (w := .int (nI (2 + (V 2 p)))) (jb_vI (nI_add 2 _)) ?_
      refine jb_iret dX12_thinksOf_103 rfl ?_
      exact ⟨congrArg (fun y => some (Value.int (nI y))) (by unfold jm_th; rw [ek]; first | rfl | exact (show 0 = 3 - V 2 p from by omega) | (rw [show jm_thk 1 (V 2 p) (V 0 5) (V 0 6) = 3 - V 2 p from rfl]; omega) | (rw [show jm_thk 4 (V 2 p) (V 0 5) (V 0 6) = 3 - V 2 p + (if V 0 5 = 0 then 0 else 1) from rfl]; split <;> omega)), rfl⟩
  · have c1 : ¬ 3 ≤ (V 2 p) := fun z9 => c1 ((nI_leI (a := 3) (b := (V 2 p)) (by omega) (by omega)).mpr z9)
    refine jb_iconst (pc' := 13) 3 dX12_thinksOf_12 (by decide) rfl ?_
    refine jb_iload_n (pc' := 14) dX12_thinksOf_13 rfl rfl ?_
    refine jb_isub (pc' := 15) dX12_thinksOf_14 rfl ?_
    refine jb_top (v := .int (3 - (nI (V 2 p)))) (w := .int (nI (3 - (V 2 p)))) (jb_vI (pk_sub (a := 3) (by omega))) ?_
    refine jb_goto (pc' := 19) dX12_thinksOf_15 (by decide) ?_
    refine jb_istore_n_ (pc' := 20) dX12_thinksOf_19 (by decide) (jb_at3 rfl) rfl ?_
    refine jb_aload_n (pc' := 21) dX12_thinksOf_20 rfl rfl ?_
    refine jb_iload_n (pc' := 22) dX12_thinksOf_21 rfl rfl ?_
    refine jb_iconst (pc' := 23) 0 dX12_thinksOf_22 (by decide) rfl ?_
    refine jb_callV (pc' := 26) (ci := 12) (q := 105) (As := [.int (nI p), .int 0]) (a2 := 0) (b2 := 0) wv_X12_145 rfl dX12_thinksOf_23 (c_ofk I J d e kp nm W hd0 hk0 p (by omega)) rfl rfl ⟨by decide, Nat.le_of_eq (Nat.zero_add _), Nat.le_of_eq (Nat.zero_add _)⟩ (Nat.le_of_ble_eq_true rfl) rfl (fun r h9 hq => ?_)
    rcases hq with ⟨rfl, ⟨ek, rfl⟩ | ⟨ek, rfl⟩ | ⟨ek, rfl⟩ | ⟨ek, rfl⟩ | ⟨ek, rfl⟩ | ⟨ek, rfl⟩ | ⟨ek, rfl⟩⟩
    · show jb_J _ RX12 cX12_thinksOf 4 (Option.some .int) false 1 0 0 26 [some (.ref 105), some (.int (nI p)), some (.int (nI (V 2 p))), some (.int (nI (3 - (V 2 p))))] [.int 0] [s0, s1, s2, s3, s4, s5, s6, s7, s8, s9, jb_mdl I J d e kp nm W, s11] _
      refine jb_tableOut (pc' := 104) dX12_thinksOf_26 (by decide) (by decide) ?_
      refine jb_iconst (pc' := 105) 3 dX12_thinksOf_104 (by decide) rfl ?_
      refine jb_iret dX12_thinksOf_105 rfl ?_
      exact ⟨congrArg (fun y => some (Value.int (nI y))) (by unfold jm_th; rw [ek]; first | rfl | exact (show 0 = 3 - V 2 p from by omega) | (rw [show jm_thk 1 (V 2 p) (V 0 5) (V 0 6) = 3 - V 2 p from rfl]; omega) | (rw [show jm_thk 4 (V 2 p) (V 0 5) (V 0 6) = 3 - V 2 p + (if V 0 5 = 0 then 0 else 1) from rfl]; split <;> omega)), rfl⟩
    · show jb_J _ RX12 cX12_thinksOf 4 (Option.some .int) false 1 0 0 26 [some (.ref 105), some (.int (nI p)), some (.int (nI (V 2 p))), some (.int (nI (3 - (V 2 p))))] [.int 1] [s0, s1, s2, s3, s4, s5, s6, s7, s8, s9, jb_mdl I J d e kp nm W, s11] _
      refine jb_tableIn (pc' := 64) (off := 38) dX12_thinksOf_26 (by decide) (by decide) (by decide +kernel) (by decide) ?_
      refine jb_iload_n (pc' := 65) dX12_thinksOf_64 rfl rfl ?_
      refine jb_iret dX12_thinksOf_65 rfl ?_
      exact ⟨congrArg (fun y => some (Value.int (nI y))) (by unfold jm_th; rw [ek]; first | rfl | exact (show 0 = 3 - V 2 p from by omega) | (rw [show jm_thk 1 (V 2 p) (V 0 5) (V 0 6) = 3 - V 2 p from rfl]; omega) | (rw [show jm_thk 4 (V 2 p) (V 0 5) (V 0 6) = 3 - V 2 p + (if V 0 5 = 0 then 0 else 1) from rfl]; split <;> omega)), rfl⟩
    · show jb_J _ RX12 cX12_thinksOf 4 (Option.some .int) false 1 0 0 26 [some (.ref 105), some (.int (nI p)), some (.int (nI (V 2 p))), some (.int (nI (3 - (V 2 p))))] [.int 2] [s0, s1, s2, s3, s4, s5, s6, s7, s8, s9, jb_mdl I J d e kp nm W, s11] _
      refine jb_tableIn (pc' := 83) (off := 57) dX12_thinksOf_26 (by decide) (by decide) (by decide +kernel) (by decide) ?_
      refine jb_iconst (pc' := 84) 3 dX12_thinksOf_83 (by decide) rfl ?_
      refine jb_iload_n (pc' := 85) dX12_thinksOf_84 rfl rfl ?_
      refine jb_iadd (pc' := 86) dX12_thinksOf_85 rfl ?_
      refine jb_top (v := .int (3 + (nI (V 2 p)))) (w := .int (nI (3 + (V 2 p)))) (jb_vI (nI_add 3 _)) ?_
      refine jb_iret dX12_thinksOf_86 rfl ?_
      exact ⟨congrArg (fun y => some (Value.int (nI y))) (by unfold jm_th; rw [ek]; first | rfl | exact (show 0 = 3 - V 2 p from by omega) | (rw [show jm_thk 1 (V 2 p) (V 0 5) (V 0 6) = 3 - V 2 p from rfl]; omega) | (rw [show jm_thk 4 (V 2 p) (V 0 5) (V 0 6) = 3 - V 2 p + (if V 0 5 = 0 then 0 else 1) from rfl]; split <;> omega)), rfl⟩
    · show jb_J _ RX12 cX12_thinksOf 4 (Option.some .int) false 1 0 0 26 [some (.ref 105), some (.int (nI p)), some (.int (nI (V 2 p))), some (.int (nI (3 - (V 2 p))))] [.int 3] [s0, s1, s2, s3, s4, s5, s6, s7, s8, s9, jb_mdl I J d e kp nm W, s11] _
      refine jb_tableIn (pc' := 98) (off := 72) dX12_thinksOf_26 (by decide) (by decide) (by decide +kernel) (by decide) ?_
      refine jb_iconst (pc' := 99) 1 dX12_thinksOf_98 (by decide) rfl ?_
      refine jb_iret dX12_thinksOf_99 rfl ?_
      exact ⟨congrArg (fun y => some (Value.int (nI y))) (by unfold jm_th; rw [ek]; first | rfl | exact (show 0 = 3 - V 2 p from by omega) | (rw [show jm_thk 1 (V 2 p) (V 0 5) (V 0 6) = 3 - V 2 p from rfl]; omega) | (rw [show jm_thk 4 (V 2 p) (V 0 5) (V 0 6) = 3 - V 2 p + (if V 0 5 = 0 then 0 else 1) from rfl]; split <;> omega)), rfl⟩
    · show jb_J _ RX12 cX12_thinksOf 4 (Option.some .int) false 1 0 0 26 [some (.ref 105), some (.int (nI p)), some (.int (nI (V 2 p))), some (.int (nI (3 - (V 2 p))))] [.int 4] [s0, s1, s2, s3, s4, s5, s6, s7, s8, s9, jb_mdl I J d e kp nm W, s11] _
      refine jb_tableIn (pc' := 66) (off := 40) dX12_thinksOf_26 (by decide) (by decide) (by decide +kernel) (by decide) ?_
      refine jb_iload_n (pc' := 67) dX12_thinksOf_66 rfl rfl ?_
      refine jb_aload_n (pc' := 68) dX12_thinksOf_67 rfl rfl ?_
      refine gf_X12_7 (pc' := 71) (v := .ref 106) dX12_thinksOf_68 rfl rfl rfl ?_
      refine jb_iconst (pc' := 72) 1 dX12_thinksOf_71 (by decide) rfl ?_
      refine jb_iaload (pc' := 73) (i9 := 1) (f := d) dX12_thinksOf_72 rfl jb_x1 (by decide) rfl ?_
      refine jb_top (v := .int (d 1)) (w := .int (nI (V 0 5))) (jb_vI e1) ?_
      refine jb_if_le (tgt := 80) (pc' := 76) dX12_thinksOf_73 (by decide) rfl (fun c3 => ?_) (fun c3 => ?_)
      · have c3 : (V 0 5) ≤ 0 := (nI_leI (a := (V 0 5)) (b := 0) (by omega) (by omega)).mp c3
        refine jb_iconst (pc' := 81) 0 dX12_thinksOf_80 (by decide) rfl ?_
        refine jb_iadd (pc' := 82) dX12_thinksOf_81 rfl ?_
        refine jb_top (v := .int ((nI (3 - (V 2 p))) + 0)) (w := .int (nI ((3 - (V 2 p)) + 0))) (jb_vI (nI_add _ 0)) ?_
        refine jb_iret dX12_thinksOf_82 rfl ?_
        exact ⟨congrArg (fun y => some (Value.int (nI y))) (by unfold jm_th; rw [ek]; first | rfl | exact (show 0 = 3 - V 2 p from by omega) | (rw [show jm_thk 1 (V 2 p) (V 0 5) (V 0 6) = 3 - V 2 p from rfl]; omega) | (rw [show jm_thk 4 (V 2 p) (V 0 5) (V 0 6) = 3 - V 2 p + (if V 0 5 = 0 then 0 else 1) from rfl]; split <;> omega)), rfl⟩
      · have c3 : ¬ (V 0 5) ≤ 0 := fun z9 => c3 ((nI_leI (a := (V 0 5)) (b := 0) (by omega) (by omega)).mpr z9)
        refine jb_iconst (pc' := 77) 1 dX12_thinksOf_76 (by decide) rfl ?_
        refine jb_goto (pc' := 81) dX12_thinksOf_77 (by decide) ?_
        refine jb_iadd (pc' := 82) dX12_thinksOf_81 rfl ?_
        refine jb_top (v := .int ((nI (3 - (V 2 p))) + 1)) (w := .int (nI ((3 - (V 2 p)) + 1))) (jb_vI (nI_add _ 1)) ?_
        refine jb_iret dX12_thinksOf_82 rfl ?_
        exact ⟨congrArg (fun y => some (Value.int (nI y))) (by unfold jm_th; rw [ek]; first | rfl | exact (show 0 = 3 - V 2 p from by omega) | (rw [show jm_thk 1 (V 2 p) (V 0 5) (V 0 6) = 3 - V 2 p from rfl]; omega) | (rw [show jm_thk 4 (V 2 p) (V 0 5) (V 0 6) = 3 - V 2 p + (if V 0 5 = 0 then 0 else 1) from rfl]; split <;> omega)), rfl⟩
    · show jb_J _ RX12 cX12_thinksOf 4 (Option.some .int) false 1 0 0 26 [some (.ref 105), some (.int (nI p)), some (.int (nI (V 2 p))), some (.int (nI (3 - (V 2 p))))] [.int 5] [s0, s1, s2, s3, s4, s5, s6, s7, s8, s9, jb_mdl I J d e kp nm W, s11] _
      refine jb_tableIn (pc' := 87) (off := 61) dX12_thinksOf_26 (by decide) (by decide) (by decide +kernel) (by decide) ?_
      refine jb_iconst (pc' := 88) 3 dX12_thinksOf_87 (by decide) rfl ?_
      refine jb_iload_n (pc' := 89) dX12_thinksOf_88 rfl rfl ?_
      refine jb_iadd (pc' := 90) dX12_thinksOf_89 rfl ?_
      refine jb_top (v := .int (3 + (nI (V 2 p)))) (w := .int (nI (3 + (V 2 p)))) (jb_vI (nI_add 3 _)) ?_
      refine jb_aload_n (pc' := 91) dX12_thinksOf_90 rfl rfl ?_
      refine gf_X12_7 (pc' := 94) (v := .ref 106) dX12_thinksOf_91 rfl rfl rfl ?_
      refine jb_iconst (pc' := 95) 2 dX12_thinksOf_94 (by decide) rfl ?_
      refine jb_iaload (pc' := 96) (i9 := 2) (f := d) dX12_thinksOf_95 rfl jb_x2 (by decide) rfl ?_
      refine jb_top (v := .int (d 2)) (w := .int (nI (V 0 6))) (jb_vI e2) ?_
      refine jb_iadd (pc' := 97) dX12_thinksOf_96 rfl ?_
      refine jb_top (v := .int ((nI (3 + (V 2 p))) + (nI (V 0 6)))) (w := .int (nI ((3 + (V 2 p)) + (V 0 6)))) (jb_vI (nI_add _ _)) ?_
      refine jb_iret dX12_thinksOf_97 rfl ?_
      exact ⟨congrArg (fun y => some (Value.int (nI y))) (by unfold jm_th; rw [ek]; first | rfl | exact (show 0 = 3 - V 2 p from by omega) | (rw [show jm_thk 1 (V 2 p) (V 0 5) (V 0 6) = 3 - V 2 p from rfl]; omega) | (rw [show jm_thk 4 (V 2 p) (V 0 5) (V 0 6) = 3 - V 2 p + (if V 0 5 = 0 then 0 else 1) from rfl]; split <;> omega)), rfl⟩
    · show jb_J _ RX12 cX12_thinksOf 4 (Option.some .int) false 1 0 0 26 [some (.ref 105), some (.int (nI p)), some (.int (nI (V 2 p))), some (.int (nI (3 - (V 2 p))))] [.int 6] [s0, s1, s2, s3, s4, s5, s6, s7, s8, s9, jb_mdl I J d e kp nm W, s11] _
      refine jb_tableIn (pc' := 100) (off := 74) dX12_thinksOf_26 (by decide) (by decide) (by decide +kernel) (by decide) ?_
      refine jb_iconst (pc' := 101) 2 dX12_thinksOf_100 (by decide) rfl ?_
      refine jb_iload_n (pc' := 102) dX12_thinksOf_101 rfl rfl ?_
      refine jb_iadd (pc' := 103) dX12_thinksOf_102 rfl ?_
      refine jb_top (v := .int (2 + (nI (V 2 p)))) (w := .int (nI (2 + (V 2 p)))) (jb_vI (nI_add 2 _)) ?_
      refine jb_iret dX12_thinksOf_103 rfl ?_
      exact ⟨congrArg (fun y => some (Value.int (nI y))) (by unfold jm_th; rw [ek]; first | rfl | exact (show 0 = 3 - V 2 p from by omega) | (rw [show jm_thk 1 (V 2 p) (V 0 5) (V 0 6) = 3 - V 2 p from rfl]; omega) | (rw [show jm_thk 4 (V 2 p) (V 0 5) (V 0 6) = 3 - V 2 p + (if V 0 5 = 0 then 0 else 1) from rfl]; split <;> omega)), rfl⟩
