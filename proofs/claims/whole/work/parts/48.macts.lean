set_option maxRecDepth 100000 in
set_option maxHeartbeats 4000000 in
theorem c_ran {sc : Nat × (Nat → Int32)} {s0 s1 s2 s3 s4 s5 s6 s7 s8 s9 s11 : List va_E} (I J d e kp nm : Nat → Int32) (W : Nat → Nat → Int32) (t9 : Nat) (h3 : I 3 = nI t9) (ht : t9 < 40) (s : Int32) : jb_C sc yX12_ran cX12_ran 2 (Option.none : Option Jvm.ClassFile.FieldType) 0 0 0 [.ref 105, .int s] [s0, s1, s2, s3, s4, s5, s6, s7, s8, s9, jb_mdl I J d e kp nm W, s11] (fun r h9 => r = none ∧ ∃ I9 W9, (∀ j, ¬ j = 3 → I9 j = I j) ∧ I9 3 = nI (t9 + 1) ∧ (∀ r, ¬ r = 10 → W9 r = W r) ∧ W9 10 = jp_wr (W 10) t9 [s] ∧ h9 = [s0, s1, s2, s3, s4, s5, s6, s7, s8, s9, jb_mdl I9 J d e kp nm W9, s11]) := by
  refine jb_CofJ (ini := false) (by decide +kernel) (fun h => by cases h) (Nat.le_of_ble_eq_true rfl) ?_
  show jb_J sc RX12 cX12_ran 2 (Option.none : Option Jvm.ClassFile.FieldType) false 0 0 0 0 [some (.ref 105), some (.int s)] [] [s0, s1, s2, s3, s4, s5, s6, s7, s8, s9, jb_mdl I J d e kp nm W, s11] _
  refine jb_aload_n (pc' := 1) dX12_ran_0 rfl rfl ?_
  refine gf_X12_259 (pc' := 4) (v := .int (I 3)) dX12_ran_1 rfl rfl rfl ?_
  refine jb_top (v := .int (I 3)) (w := .int (nI t9)) (jb_vI h3) ?_
  refine jb_bipush (pc' := 6) 40 dX12_ran_4 (by decide) rfl ?_
  refine jb_icmp_ge (tgt := 29) (pc' := 9) dX12_ran_6 (by decide) rfl (fun z => absurd z (nI_ge (a := t9) (b := 40) (by omega) (by omega))) (fun _ => ?_)
  refine jb_aload_n (pc' := 10) dX12_ran_9 rfl rfl ?_
  refine gf_X12_52 (pc' := 13) (v := .ref 120) dX12_ran_10 rfl rfl rfl ?_
  refine jb_aload_n (pc' := 14) dX12_ran_13 rfl rfl ?_
  refine gf_X12_259 (pc' := 17) (v := .int (I 3)) dX12_ran_14 rfl rfl rfl ?_
  refine jb_top (v := .int (I 3)) (w := .int (nI t9)) (jb_vI h3) ?_
  refine jb_iload_n (pc' := 18) dX12_ran_17 rfl rfl ?_
  refine jb_iastore (pc' := 19) (i9 := t9) (f := (W 10)) (h' := [s0, s1, s2, s3, s4, s5, s6, s7, s8, s9, jb_mdl I J d e kp nm (va_up W 10 (upd (W 10) t9 s)), s11]) dX12_ran_18 rfl (jb_ix_nI (by omega)) (by omega) rfl rfl ?_
  refine jb_aload_n (pc' := 20) dX12_ran_19 rfl rfl ?_
  refine jb_dup (pc' := 21) dX12_ran_20 rfl rfl ?_
  refine gf_X12_259 (pc' := 24) (v := .int (I 3)) dX12_ran_21 rfl rfl rfl ?_
  refine jb_top (v := .int (I 3)) (w := .int (nI t9)) (jb_vI h3) ?_
  refine jb_iconst (pc' := 25) 1 dX12_ran_24 (by decide) rfl ?_
  refine jb_iadd (pc' := 26) dX12_ran_25 rfl ?_
  refine jb_top (v := .int ((nI t9) + 1)) (w := .int (nI (t9 + 1))) (jb_vI (nI_add _ 1)) ?_
  refine pf_X12_259 (pc' := 29) (h' := [s0, s1, s2, s3, s4, s5, s6, s7, s8, s9, jb_mdl (upd I 3 (nI (t9 + 1))) J d e kp nm (va_up W 10 (upd (W 10) t9 s)), s11]) dX12_ran_26 (fun _ => ⟨rfl, rfl⟩) rfl (Nat.le_of_ble_eq_true rfl) rfl rfl ?_
  refine jb_vret dX12_ran_29 ?_
  exact ⟨rfl, (upd I 3 (nI (t9 + 1))), (va_up W 10 (upd (W 10) t9 s)), fun j hj => pk_un hj, rfl, fun r hr => if_neg hr, rfl, rfl⟩
set_option maxRecDepth 100000 in
set_option maxHeartbeats 4000000 in
theorem c_own {sc : Nat × (Nat → Int32)} {s0 s1 s2 s3 s4 s5 s6 s7 s8 s9 s11 : List va_E} {V : Nat → Nat → Nat} (I J d e kp nm : Nat → Int32) (W : Nat → Nat → Int32) (hd : jd_ V d) (hk : jv_ok V) (p : Nat) (hp : p < V 0 1) (h4 : I 4 = nI p) : jb_C sc yX12_own cX12_own 1 (Option.some .int) 1 0 0 [.ref 105] [s0, s1, s2, s3, s4, s5, s6, s7, s8, s9, jb_mdl I J d e kp nm W, s11] (fun r h9 => r = some (.int (nI (V 1 p))) ∧ h9 = [s0, s1, s2, s3, s4, s5, s6, s7, s8, s9, jb_mdl I J d e kp nm W, s11]) := by
  refine jb_CofJ (ini := false) (by decide +kernel) (fun h => by cases h) (Nat.le_of_ble_eq_true rfl) ?_
  show jb_J sc RX12 cX12_own 1 (Option.some .int) false 1 0 0 0 [some (.ref 105)] [] [s0, s1, s2, s3, s4, s5, s6, s7, s8, s9, jb_mdl I J d e kp nm W, s11] _
  have hd0 := hd
  have hk0 := hk
  refine jb_aload_n (pc' := 1) dX12_own_0 rfl rfl ?_
  refine jb_aload_n (pc' := 2) dX12_own_1 rfl rfl ?_
  refine gf_X12_262 (pc' := 5) (v := .int (I 4)) dX12_own_2 rfl rfl rfl ?_
  refine jb_top (v := .int (I 4)) (w := .int (nI p)) (jb_vI h4) ?_
  refine jb_iconst (pc' := 6) 0 dX12_own_5 (by decide) rfl ?_
  refine jb_callV (pc' := 9) (ci := 12) (q := 105) (As := [.int (nI p), .int 0]) (a2 := 0) (b2 := 0) wv_X12_145 rfl dX12_own_6 (c_of0 I J d e kp nm W hd0 hk0 p (by omega)) rfl rfl ⟨by decide, Nat.le_of_eq (Nat.zero_add _), Nat.le_of_eq (Nat.zero_add _)⟩ (Nat.le_of_ble_eq_true rfl) rfl (fun r h9 hq => ?_)
  obtain ⟨rfl, rfl⟩ := hq
  show jb_J _ RX12 cX12_own 1 (Option.some .int) false 1 0 0 9 [some (.ref 105)] [.int (nI (V 1 p))] [s0, s1, s2, s3, s4, s5, s6, s7, s8, s9, jb_mdl I J d e kp nm W, s11] _
  refine jb_iret dX12_own_9 rfl ?_
  exact ⟨rfl, rfl⟩
set_option maxRecDepth 100000 in
set_option maxHeartbeats 4000000 in
theorem cm_calls_0_0 {sc : Nat × (Nat → Int32)} {s0 s1 s2 s3 s4 s5 s6 s7 s8 s9 s11 : List va_E} {V : Nat → Nat → Nat} (I J d e kp nm : Nat → Int32) (W : Nat → Nat → Int32) (hd : jd_ V d) (hk : jv_ok V) (p : Nat) (hp : p < V 0 1) (hkd : V 1 p = 0) (h4 : I 4 = nI p) (t9 : Nat) (h3 : I 3 = nI t9) (ht : t9 + 1 ≤ 40) (x : Int32) : jb_C sc yX12_calls cX12_calls 3 (Option.some .int) 1 0 0 [.ref 105, .int 0, .int x] [s0, s1, s2, s3, s4, s5, s6, s7, s8, s9, jb_mdl I J d e kp nm W, s11] (fun r h9 => r = some (.int ((x) + (nI p))) ∧ ∃ I9 W9, (∀ j, ¬ j = 3 → I9 j = I j) ∧ I9 3 = nI (t9 + 1) ∧ (∀ r, ¬ r = 10 → W9 r = W r) ∧ W9 10 = jp_wr (W 10) t9 [10] ∧ h9 = [s0, s1, s2, s3, s4, s5, s6, s7, s8, s9, jb_mdl I9 J d e kp nm W9, s11]) := by
  refine jb_CofJ (ini := false) (by decide +kernel) (fun h => by cases h) (Nat.le_of_ble_eq_true rfl) ?_
  show jb_J sc RX12 cX12_calls 3 (Option.some .int) false 1 0 0 0 [some (.ref 105), some (.int 0), some (.int x)] [] [s0, s1, s2, s3, s4, s5, s6, s7, s8, s9, jb_mdl I J d e kp nm W, s11] _
  have gI0 : ∀ j, ¬ j = 3 → I j = I j := fun _ _ => rfl
  have gW0 : ∀ r, ¬ r = 10 → W r = W r := fun _ _ => rfl
  have gT0 : W 10 = jp_wr (W 10) t9 [] := rfl
  refine jb_iload_n (pc' := 1) dX12_calls_0 rfl rfl ?_
  refine jb_lookup (pc' := 28) (off := 27) dX12_calls_1 (by decide +kernel) (by decide +kernel) (by decide) ?_
  refine jb_aload_n (pc' := 29) dX12_calls_28 rfl rfl ?_
  refine jb_bipush (pc' := 31) 10 dX12_calls_29 (by decide) rfl ?_
  refine jb_callV (pc' := 34) (ci := 12) (q := 105) (As := [.int 10]) (a2 := 0) (b2 := 0) wv_X12_265 rfl dX12_calls_31 (c_ran I J d e kp nm W t9 h3 (by omega) 10) rfl rfl ⟨by decide, Nat.le_of_eq (Nat.zero_add _), Nat.le_of_eq (Nat.zero_add _)⟩ (Nat.le_of_ble_eq_true rfl) rfl (fun r h9 hq => ?_)
  obtain ⟨rfl, I1, W1, hI1, h31, hW1, hT1, rfl⟩ := hq
  have gI1 : ∀ j, ¬ j = 3 → I1 j = I j := fun j hj => (hI1 j hj).trans (gI0 j hj)
  have gW1 : ∀ r, ¬ r = 10 → W1 r = W r := fun r hr => (hW1 r hr).trans (gW0 r hr)
  have gT1 : W1 10 = jp_wr (W 10) t9 [10] := hT1.trans (by first | rfl | (rw [gT0]; done) | (rw [gT0]; rfl))
  show jb_J _ RX12 cX12_calls 3 (Option.some .int) false 1 0 0 34 [some (.ref 105), some (.int 0), some (.int x)] [] [s0, s1, s2, s3, s4, s5, s6, s7, s8, s9, jb_mdl I1 J d e kp nm W1, s11] _
  refine jb_iload_n (pc' := 35) dX12_calls_34 rfl rfl ?_
  refine jb_aload_n (pc' := 36) dX12_calls_35 rfl rfl ?_
  refine gf_X12_262 (pc' := 39) (v := .int (I1 4)) dX12_calls_36 rfl rfl rfl ?_
  refine jb_top (v := .int (I1 4)) (w := .int (nI p)) (jb_vI ((gI1 4 (by decide)).trans h4)) ?_
  refine jb_iadd (pc' := 40) dX12_calls_39 rfl ?_
  refine jb_iret dX12_calls_40 rfl ?_
  exact ⟨rfl, I1, W1, gI1, h31, gW1, gT1, rfl⟩
set_option maxRecDepth 100000 in
set_option maxHeartbeats 4000000 in
theorem cm_waits_0_0 {sc : Nat × (Nat → Int32)} {s0 s1 s2 s3 s4 s5 s6 s7 s8 s9 s11 : List va_E} {V : Nat → Nat → Nat} (I J d e kp nm : Nat → Int32) (W : Nat → Nat → Int32) (hd : jd_ V d) (hk : jv_ok V) (p : Nat) (hp : p < V 0 1) (hkd : V 1 p = 0) (h4 : I 4 = nI p) (t9 : Nat) (h3 : I 3 = nI t9) (ht : t9 + 1 ≤ 40) (x : Int32) : jb_C sc yX12_waits cX12_waits 3 (Option.some .int) 1 0 0 [.ref 105, .int 0, .int x] [s0, s1, s2, s3, s4, s5, s6, s7, s8, s9, jb_mdl I J d e kp nm W, s11] (fun r h9 => r = some (.int ((x) - (nI (V 2 p)))) ∧ ∃ I9 W9, (∀ j, ¬ j = 3 → I9 j = I j) ∧ I9 3 = nI (t9 + 1) ∧ (∀ r, ¬ r = 10 → W9 r = W r) ∧ W9 10 = jp_wr (W 10) t9 [12] ∧ h9 = [s0, s1, s2, s3, s4, s5, s6, s7, s8, s9, jb_mdl I9 J d e kp nm W9, s11]) := by
  refine jb_CofJ (ini := false) (by decide +kernel) (fun h => by cases h) (Nat.le_of_ble_eq_true rfl) ?_
  show jb_J sc RX12 cX12_waits 3 (Option.some .int) false 1 0 0 0 [some (.ref 105), some (.int 0), some (.int x)] [] [s0, s1, s2, s3, s4, s5, s6, s7, s8, s9, jb_mdl I J d e kp nm W, s11] _
  have gI0 : ∀ j, ¬ j = 3 → I j = I j := fun _ _ => rfl
  have gW0 : ∀ r, ¬ r = 10 → W r = W r := fun _ _ => rfl
  have gT0 : W 10 = jp_wr (W 10) t9 [] := rfl
  refine jb_iload_n (pc' := 1) dX12_waits_0 rfl rfl ?_
  refine jb_lookup (pc' := 36) (off := 35) dX12_waits_1 (by decide +kernel) (by decide +kernel) (by decide) ?_
  refine jb_aload_n (pc' := 37) dX12_waits_36 rfl rfl ?_
  refine jb_bipush (pc' := 39) 12 dX12_waits_37 (by decide) rfl ?_
  refine jb_callV (pc' := 42) (ci := 12) (q := 105) (As := [.int 12]) (a2 := 0) (b2 := 0) wv_X12_265 rfl dX12_waits_39 (c_ran I J d e kp nm W t9 h3 (by omega) 12) rfl rfl ⟨by decide, Nat.le_of_eq (Nat.zero_add _), Nat.le_of_eq (Nat.zero_add _)⟩ (Nat.le_of_ble_eq_true rfl) rfl (fun r h9 hq => ?_)
  obtain ⟨rfl, I1, W1, hI1, h31, hW1, hT1, rfl⟩ := hq
  have gI1 : ∀ j, ¬ j = 3 → I1 j = I j := fun j hj => (hI1 j hj).trans (gI0 j hj)
  have gW1 : ∀ r, ¬ r = 10 → W1 r = W r := fun r hr => (hW1 r hr).trans (gW0 r hr)
  have gT1 : W1 10 = jp_wr (W 10) t9 [12] := hT1.trans (by first | rfl | (rw [gT0]; done) | (rw [gT0]; rfl))
  show jb_J _ RX12 cX12_waits 3 (Option.some .int) false 1 0 0 42 [some (.ref 105), some (.int 0), some (.int x)] [] [s0, s1, s2, s3, s4, s5, s6, s7, s8, s9, jb_mdl I1 J d e kp nm W1, s11] _
  refine jb_iload_n (pc' := 43) dX12_waits_42 rfl rfl ?_
  refine jb_aload_n (pc' := 44) dX12_waits_43 rfl rfl ?_
  refine jb_aload_n (pc' := 45) dX12_waits_44 rfl rfl ?_
  refine gf_X12_262 (pc' := 48) (v := .int (I1 4)) dX12_waits_45 rfl rfl rfl ?_
  refine jb_top (v := .int (I1 4)) (w := .int (nI p)) (jb_vI ((gI1 4 (by decide)).trans h4)) ?_
  refine jb_iconst (pc' := 49) 1 dX12_waits_48 (by decide) rfl ?_
  refine jb_callV (pc' := 52) (ci := 12) (q := 105) (As := [.int (nI p), .int 1]) (a2 := 0) (b2 := 0) wv_X12_145 rfl dX12_waits_49 (c_of1 I1 J d e kp nm W1 hd hk p hp) rfl rfl ⟨by decide, Nat.le_of_eq (Nat.zero_add _), Nat.le_of_eq (Nat.zero_add _)⟩ (Nat.le_of_ble_eq_true rfl) rfl (fun r h9 hq => ?_)
  obtain ⟨rfl, rfl⟩ := hq
  show jb_J _ RX12 cX12_waits 3 (Option.some .int) false 1 0 0 52 [some (.ref 105), some (.int 0), some (.int x)] [.int (nI (V 2 p)), .int x] [s0, s1, s2, s3, s4, s5, s6, s7, s8, s9, jb_mdl I1 J d e kp nm W1, s11] _
  refine jb_isub (pc' := 53) dX12_waits_52 rfl ?_
  refine jb_iret dX12_waits_53 rfl ?_
  exact ⟨rfl, I1, W1, gI1, h31, gW1, gT1, rfl⟩
set_option maxRecDepth 100000 in
set_option maxHeartbeats 4000000 in
theorem cm_hears_0_0 {sc : Nat × (Nat → Int32)} {s0 s1 s2 s3 s4 s5 s6 s7 s8 s9 s11 : List va_E} {V : Nat → Nat → Nat} (I J d e kp nm : Nat → Int32) (W : Nat → Nat → Int32) (hd : jd_ V d) (hk : jv_ok V) (p : Nat) (hp : p < V 0 1) (hkd : V 1 p = 0) (h4 : I 4 = nI p) (t9 : Nat) (h3 : I 3 = nI t9) (ht : t9 + 2 ≤ 40) (x : Int32) : jb_C sc yX12_hears cX12_hears 4 (Option.some .int) 2 0 0 [.ref 105, .int 0, .int x] [s0, s1, s2, s3, s4, s5, s6, s7, s8, s9, jb_mdl I J d e kp nm W, s11] (fun r h9 => r = some (.int (((x) + (nI p)) * 2)) ∧ ∃ I9 W9, (∀ j, ¬ j = 3 → I9 j = I j) ∧ I9 3 = nI (t9 + 2) ∧ (∀ r, ¬ r = 10 → W9 r = W r) ∧ W9 10 = jp_wr (W 10) t9 [11, 10] ∧ h9 = [s0, s1, s2, s3, s4, s5, s6, s7, s8, s9, jb_mdl I9 J d e kp nm W9, s11]) := by
  refine jb_CofJ (ini := false) (by decide +kernel) (fun h => by cases h) (Nat.le_of_ble_eq_true rfl) ?_
  show jb_J sc RX12 cX12_hears 4 (Option.some .int) false 2 0 0 0 [some (.ref 105), some (.int 0), some (.int x), none] [] [s0, s1, s2, s3, s4, s5, s6, s7, s8, s9, jb_mdl I J d e kp nm W, s11] _
  have gI0 : ∀ j, ¬ j = 3 → I j = I j := fun _ _ => rfl
  have gW0 : ∀ r, ¬ r = 10 → W r = W r := fun _ _ => rfl
  have gT0 : W 10 = jp_wr (W 10) t9 [] := rfl
  refine jb_iload_n (pc' := 1) dX12_hears_0 rfl rfl ?_
  refine jb_tableIn (pc' := 36) (off := 35) dX12_hears_1 (by decide) (by decide) (by decide +kernel) (by decide) ?_
  refine jb_aload_n (pc' := 37) dX12_hears_36 rfl rfl ?_
  refine jb_bipush (pc' := 39) 11 dX12_hears_37 (by decide) rfl ?_
  refine jb_callV (pc' := 42) (ci := 12) (q := 105) (As := [.int 11]) (a2 := 0) (b2 := 0) wv_X12_265 rfl dX12_hears_39 (c_ran I J d e kp nm W t9 h3 (by omega) 11) rfl rfl ⟨by decide, Nat.le_of_eq (Nat.zero_add _), Nat.le_of_eq (Nat.zero_add _)⟩ (Nat.le_of_ble_eq_true rfl) rfl (fun r h9 hq => ?_)
  obtain ⟨rfl, I1, W1, hI1, h31, hW1, hT1, rfl⟩ := hq
  have gI1 : ∀ j, ¬ j = 3 → I1 j = I j := fun j hj => (hI1 j hj).trans (gI0 j hj)
  have gW1 : ∀ r, ¬ r = 10 → W1 r = W r := fun r hr => (hW1 r hr).trans (gW0 r hr)
  have gT1 : W1 10 = jp_wr (W 10) t9 [11] := hT1.trans (by first | rfl | (rw [gT0]; done) | (rw [gT0]; rfl))
  show jb_J _ RX12 cX12_hears 4 (Option.some .int) false 2 0 0 42 [some (.ref 105), some (.int 0), some (.int x), none] [] [s0, s1, s2, s3, s4, s5, s6, s7, s8, s9, jb_mdl I1 J d e kp nm W1, s11] _
  refine jb_aload_n (pc' := 43) dX12_hears_42 rfl rfl ?_
  refine jb_aload_n (pc' := 44) dX12_hears_43 rfl rfl ?_
  refine jb_callV (pc' := 47) (ci := 12) (q := 105) (As := []) (a2 := 0) (b2 := 0) wv_X12_271 rfl dX12_hears_44 (c_own I1 J d e kp nm W1 hd hk p hp ((gI1 4 (by decide)).trans h4)) rfl rfl ⟨by decide, Nat.le_of_eq (Nat.zero_add _), Nat.le_of_eq (Nat.zero_add _)⟩ (Nat.le_of_ble_eq_true rfl) rfl (fun r h9 hq => ?_)
  obtain ⟨rfl, rfl⟩ := hq
  rw [hkd]
  show jb_J _ RX12 cX12_hears 4 (Option.some .int) false 2 0 0 47 [some (.ref 105), some (.int 0), some (.int x), none] [.int 0, .ref 105] [s0, s1, s2, s3, s4, s5, s6, s7, s8, s9, jb_mdl I1 J d e kp nm W1, s11] _
  refine jb_iload_n (pc' := 48) dX12_hears_47 rfl rfl ?_
  refine jb_callV (pc' := 51) (ci := 12) (q := 105) (As := [.int 0, .int x]) (a2 := 0) (b2 := 0) wv_X12_268 rfl dX12_hears_48 (cm_calls_0_0 I1 J d e kp nm W1 hd hk p hp hkd ((gI1 4 (by decide)).trans h4) (t9 + 1) h31 (by omega) x) rfl rfl ⟨by decide, Nat.le_of_eq (Nat.zero_add _), Nat.le_of_eq (Nat.zero_add _)⟩ (Nat.le_of_ble_eq_true rfl) rfl (fun r h9 hq => ?_)
  obtain ⟨rfl, I2, W2, hI2, h32, hW2, hT2, rfl⟩ := hq
  have gI2 : ∀ j, ¬ j = 3 → I2 j = I j := fun j hj => (hI2 j hj).trans (gI1 j hj)
  have gW2 : ∀ r, ¬ r = 10 → W2 r = W r := fun r hr => (hW2 r hr).trans (gW1 r hr)
  have gT2 : W2 10 = jp_wr (W 10) t9 [11, 10] := hT2.trans (by first | rfl | (rw [gT1]; done) | (rw [gT1]; rfl))
  show jb_J _ RX12 cX12_hears 4 (Option.some .int) false 2 0 0 51 [some (.ref 105), some (.int 0), some (.int x), none] [.int ((x) + (nI p))] [s0, s1, s2, s3, s4, s5, s6, s7, s8, s9, jb_mdl I2 J d e kp nm W2, s11] _
  refine jb_iconst (pc' := 52) 2 dX12_hears_51 (by decide) rfl ?_
  refine jb_imul (pc' := 53) dX12_hears_52 rfl ?_
  refine jb_iret dX12_hears_53 rfl ?_
  exact ⟨rfl, I2, W2, gI2, h32, gW2, gT2, rfl⟩
set_option maxRecDepth 100000 in
set_option maxHeartbeats 4000000 in
theorem cm_tells_0_0 {sc : Nat × (Nat → Int32)} {s0 s1 s2 s3 s4 s5 s6 s7 s8 s9 s11 : List va_E} {V : Nat → Nat → Nat} (I J d e kp nm : Nat → Int32) (W : Nat → Nat → Int32) (hd : jd_ V d) (hk : jv_ok V) (p : Nat) (hp : p < V 0 1) (hkd : V 1 p = 0) (h4 : I 4 = nI p) (t9 : Nat) (h3 : I 3 = nI t9) (ht : t9 + 4 ≤ 40) (x : Int32) : jb_C sc yX12_tells cX12_tells 4 (Option.some .int) 3 0 0 [.ref 105, .int 0, .int x] [s0, s1, s2, s3, s4, s5, s6, s7, s8, s9, jb_mdl I J d e kp nm W, s11] (fun r h9 => r = some (.int ((((x) + (nI p)) * 2) ^^^ ((x) - (nI (V 2 p))))) ∧ ∃ I9 W9, (∀ j, ¬ j = 3 → I9 j = I j) ∧ I9 3 = nI (t9 + 4) ∧ (∀ r, ¬ r = 10 → W9 r = W r) ∧ W9 10 = jp_wr (W 10) t9 [13, 11, 10, 12] ∧ h9 = [s0, s1, s2, s3, s4, s5, s6, s7, s8, s9, jb_mdl I9 J d e kp nm W9, s11]) := by
  refine jb_CofJ (ini := false) (by decide +kernel) (fun h => by cases h) (Nat.le_of_ble_eq_true rfl) ?_
  show jb_J sc RX12 cX12_tells 4 (Option.some .int) false 3 0 0 0 [some (.ref 105), some (.int 0), some (.int x), none] [] [s0, s1, s2, s3, s4, s5, s6, s7, s8, s9, jb_mdl I J d e kp nm W, s11] _
  have gI0 : ∀ j, ¬ j = 3 → I j = I j := fun _ _ => rfl
  have gW0 : ∀ r, ¬ r = 10 → W r = W r := fun _ _ => rfl
  have gT0 : W 10 = jp_wr (W 10) t9 [] := rfl
  refine jb_iload_n (pc' := 1) dX12_tells_0 rfl rfl ?_
  refine jb_lookup (pc' := 36) (off := 35) dX12_tells_1 (by decide +kernel) (by decide +kernel) (by decide) ?_
  refine jb_aload_n (pc' := 37) dX12_tells_36 rfl rfl ?_
  refine jb_bipush (pc' := 39) 13 dX12_tells_37 (by decide) rfl ?_
  refine jb_callV (pc' := 42) (ci := 12) (q := 105) (As := [.int 13]) (a2 := 0) (b2 := 0) wv_X12_265 rfl dX12_tells_39 (c_ran I J d e kp nm W t9 h3 (by omega) 13) rfl rfl ⟨by decide, Nat.le_of_eq (Nat.zero_add _), Nat.le_of_eq (Nat.zero_add _)⟩ (Nat.le_of_ble_eq_true rfl) rfl (fun r h9 hq => ?_)
  obtain ⟨rfl, I1, W1, hI1, h31, hW1, hT1, rfl⟩ := hq
  have gI1 : ∀ j, ¬ j = 3 → I1 j = I j := fun j hj => (hI1 j hj).trans (gI0 j hj)
  have gW1 : ∀ r, ¬ r = 10 → W1 r = W r := fun r hr => (hW1 r hr).trans (gW0 r hr)
  have gT1 : W1 10 = jp_wr (W 10) t9 [13] := hT1.trans (by first | rfl | (rw [gT0]; done) | (rw [gT0]; rfl))
  show jb_J _ RX12 cX12_tells 4 (Option.some .int) false 3 0 0 42 [some (.ref 105), some (.int 0), some (.int x), none] [] [s0, s1, s2, s3, s4, s5, s6, s7, s8, s9, jb_mdl I1 J d e kp nm W1, s11] _
  refine jb_aload_n (pc' := 43) dX12_tells_42 rfl rfl ?_
  refine jb_aload_n (pc' := 44) dX12_tells_43 rfl rfl ?_
  refine jb_callV (pc' := 47) (ci := 12) (q := 105) (As := []) (a2 := 0) (b2 := 0) wv_X12_271 rfl dX12_tells_44 (c_own I1 J d e kp nm W1 hd hk p hp ((gI1 4 (by decide)).trans h4)) rfl rfl ⟨by decide, Nat.le_of_eq (Nat.zero_add _), Nat.le_of_eq (Nat.zero_add _)⟩ (Nat.le_of_ble_eq_true rfl) rfl (fun r h9 hq => ?_)
  obtain ⟨rfl, rfl⟩ := hq
  rw [hkd]
  show jb_J _ RX12 cX12_tells 4 (Option.some .int) false 3 0 0 47 [some (.ref 105), some (.int 0), some (.int x), none] [.int 0, .ref 105] [s0, s1, s2, s3, s4, s5, s6, s7, s8, s9, jb_mdl I1 J d e kp nm W1, s11] _
  refine jb_iload_n (pc' := 48) dX12_tells_47 rfl rfl ?_
  refine jb_callV (pc' := 51) (ci := 12) (q := 105) (As := [.int 0, .int x]) (a2 := 0) (b2 := 0) wv_X12_274 rfl dX12_tells_48 (cm_hears_0_0 I1 J d e kp nm W1 hd hk p hp hkd ((gI1 4 (by decide)).trans h4) (t9 + 1) h31 (by omega) x) rfl rfl ⟨by decide, Nat.le_of_eq (Nat.zero_add _), Nat.le_of_eq (Nat.zero_add _)⟩ (Nat.le_of_ble_eq_true rfl) rfl (fun r h9 hq => ?_)
  obtain ⟨rfl, I2, W2, hI2, h32, hW2, hT2, rfl⟩ := hq
  have gI2 : ∀ j, ¬ j = 3 → I2 j = I j := fun j hj => (hI2 j hj).trans (gI1 j hj)
  have gW2 : ∀ r, ¬ r = 10 → W2 r = W r := fun r hr => (hW2 r hr).trans (gW1 r hr)
  have gT2 : W2 10 = jp_wr (W 10) t9 [13, 11, 10] := hT2.trans (by first | rfl | (rw [gT1]; done) | (rw [gT1]; rfl))
  show jb_J _ RX12 cX12_tells 4 (Option.some .int) false 3 0 0 51 [some (.ref 105), some (.int 0), some (.int x), none] [.int (((x) + (nI p)) * 2)] [s0, s1, s2, s3, s4, s5, s6, s7, s8, s9, jb_mdl I2 J d e kp nm W2, s11] _
  refine jb_istore_n_ (pc' := 52) dX12_tells_51 (by decide) (jb_at3 rfl) rfl ?_
  refine jb_iload_n (pc' := 53) dX12_tells_52 rfl rfl ?_
  refine jb_aload_n (pc' := 54) dX12_tells_53 rfl rfl ?_
  refine jb_aload_n (pc' := 55) dX12_tells_54 rfl rfl ?_
  refine jb_callV (pc' := 58) (ci := 12) (q := 105) (As := []) (a2 := 0) (b2 := 0) wv_X12_271 rfl dX12_tells_55 (c_own I2 J d e kp nm W2 hd hk p hp ((gI2 4 (by decide)).trans h4)) rfl rfl ⟨by decide, Nat.le_of_eq (Nat.zero_add _), Nat.le_of_eq (Nat.zero_add _)⟩ (Nat.le_of_ble_eq_true rfl) rfl (fun r h9 hq => ?_)
  obtain ⟨rfl, rfl⟩ := hq
  rw [hkd]
  show jb_J _ RX12 cX12_tells 4 (Option.some .int) false 3 0 0 58 [some (.ref 105), some (.int 0), some (.int x), some (.int (((x) + (nI p)) * 2))] [.int 0, .ref 105, .int (((x) + (nI p)) * 2)] [s0, s1, s2, s3, s4, s5, s6, s7, s8, s9, jb_mdl I2 J d e kp nm W2, s11] _
  refine jb_iload_n (pc' := 59) dX12_tells_58 rfl rfl ?_
  refine jb_callV (pc' := 62) (ci := 12) (q := 105) (As := [.int 0, .int x]) (a2 := 0) (b2 := 0) wv_X12_277 rfl dX12_tells_59 (cm_waits_0_0 I2 J d e kp nm W2 hd hk p hp hkd ((gI2 4 (by decide)).trans h4) ((t9 + 1) + 2) h32 (by omega) x) rfl rfl ⟨by decide, Nat.le_of_eq (Nat.zero_add _), Nat.le_of_eq (Nat.zero_add _)⟩ (Nat.le_of_ble_eq_true rfl) rfl (fun r h9 hq => ?_)
  obtain ⟨rfl, I3, W3, hI3, h33, hW3, hT3, rfl⟩ := hq
  have gI3 : ∀ j, ¬ j = 3 → I3 j = I j := fun j hj => (hI3 j hj).trans (gI2 j hj)
  have gW3 : ∀ r, ¬ r = 10 → W3 r = W r := fun r hr => (hW3 r hr).trans (gW2 r hr)
  have gT3 : W3 10 = jp_wr (W 10) t9 [13, 11, 10, 12] := hT3.trans (by first | rfl | (rw [gT2]; done) | (rw [gT2]; rfl))
  show jb_J _ RX12 cX12_tells 4 (Option.some .int) false 3 0 0 62 [some (.ref 105), some (.int 0), some (.int x), some (.int (((x) + (nI p)) * 2))] [.int ((x) - (nI (V 2 p))), .int (((x) + (nI p)) * 2)] [s0, s1, s2, s3, s4, s5, s6, s7, s8, s9, jb_mdl I3 J d e kp nm W3, s11] _
  refine jb_ixor (pc' := 63) dX12_tells_62 rfl ?_
  refine jb_iret dX12_tells_63 rfl ?_
  exact ⟨rfl, I3, W3, gI3, h33, gW3, gT3, rfl⟩
set_option maxRecDepth 100000 in
set_option maxHeartbeats 4000000 in
theorem mx_voice0_0 {sc : Nat × (Nat → Int32)} {s0 s1 s2 s3 s4 s5 s6 s7 s8 s9 s11 : List va_E} {V : Nat → Nat → Nat} (I J d e kp nm : Nat → Int32) (W : Nat → Nat → Int32) (hd : jd_ V d) (hk : jv_ok V) (p : Nat) (hp : p < V 0 1) (hkd : V 1 p = 0) (x : Int32) : jb_C sc yX12_voice cX12_voice 5 (Option.some .int) 2 0 0 [.ref 105, .int (nI p), .int 0, .int x] [s0, s1, s2, s3, s4, s5, s6, s7, s8, s9, jb_mdl I J d e kp nm W, s11] (fun r h9 => r = some (.int ((x) + (nI p))) ∧ ∃ I9 W9, I9 0 = I 0 ∧ I9 3 = nI 1 ∧ (∀ r, ¬ r = 10 → W9 r = W r) ∧ W9 10 = jp_wr (W 10) 0 [10] ∧ h9 = [s0, s1, s2, s3, s4, s5, s6, s7, s8, s9, jb_mdl I9 J d e kp nm W9, s11]) := by
  refine jb_CofJ (ini := false) (by decide +kernel) (fun h => by cases h) (Nat.le_of_ble_eq_true rfl) ?_
  show jb_J sc RX12 cX12_voice 5 (Option.some .int) false 2 0 0 0 [some (.ref 105), some (.int (nI p)), some (.int 0), some (.int x), none] [] [s0, s1, s2, s3, s4, s5, s6, s7, s8, s9, jb_mdl I J d e kp nm W, s11] _
  have hd0 := hd
  have hk0 := hk
  obtain ⟨e0, e1, e2, e3, e4, e5, e6, dv, ds, dd⟩ := hd
  obtain ⟨k0, k1, k2, k3, k4, k5, k6, k7, kv, ks, kd⟩ := hk
  have q0 := kv p hp
  refine jb_aload_n (pc' := 1) dX12_voice_0 rfl rfl ?_
  refine jb_iload_n (pc' := 2) dX12_voice_1 rfl rfl ?_
  refine jb_callV (pc' := 5) (ci := 12) (q := 105) (As := [.int (nI p)]) (a2 := 0) (b2 := 0) wv_X12_149 rfl dX12_voice_2 (c_isVoiceG I J d e kp nm W hd0 hk0 p (by omega)) rfl rfl ⟨by decide, Nat.le_of_eq (Nat.zero_add _), Nat.le_of_eq (Nat.zero_add _)⟩ (Nat.le_of_ble_eq_true rfl) rfl (fun r h9 hq => ?_)
  obtain ⟨rfl, rfl⟩ := hq
  show jb_J _ RX12 cX12_voice 5 (Option.some .int) false 2 0 0 5 [some (.ref 105), some (.int (nI p)), some (.int 0), some (.int x), none] [.int 1] [s0, s1, s2, s3, s4, s5, s6, s7, s8, s9, jb_mdl I J d e kp nm W, s11] _
  refine jb_if_eq (tgt := 20) (pc' := 8) dX12_voice_5 (by decide) rfl (fun z => absurd z (by decide)) (fun _ => ?_)
  refine jb_iload_n (pc' := 9) dX12_voice_8 rfl rfl ?_
  refine jb_i2l (pc' := 10) dX12_voice_9 rfl ?_
  refine jb_lconst (pc' := 11) 0 dX12_voice_10 (by decide) rfl ?_
  refine jb_ldc2 (pc' := 14) 3 dX12_voice_11 wk_X12_152 rfl ?_
  refine jb_callS (pc' := 17) (As := [.long ((0 : Int32).toInt64), .long 0, .long 3]) (a2 := 0) (b2 := 0) wv_X12_56 dX12_voice_14 (c_inLG _ 0 0 3 (by omega) (by omega) (by omega)) rfl ⟨by decide, Nat.le_of_eq (Nat.zero_add _), Nat.le_of_eq (Nat.zero_add _)⟩ (Nat.le_of_ble_eq_true rfl) rfl (fun r h9 hq => ?_)
  obtain ⟨rfl, rfl⟩ := hq
  show jb_J _ RX12 cX12_voice 5 (Option.some .int) false 2 0 0 17 [some (.ref 105), some (.int (nI p)), some (.int 0), some (.int x), none] [.int 1] [s0, s1, s2, s3, s4, s5, s6, s7, s8, s9, jb_mdl I J d e kp nm W, s11] _
  refine jb_if_ne (tgt := 26) (pc' := 20) dX12_voice_17 (by decide) rfl (fun _ => ?_) (fun z => absurd z (by decide))
  refine jb_aload_n (pc' := 27) dX12_voice_26 rfl rfl ?_
  refine jb_iconst (pc' := 28) 0 dX12_voice_27 (by decide) rfl ?_
  refine pf_X12_259 (pc' := 31) (h' := [s0, s1, s2, s3, s4, s5, s6, s7, s8, s9, jb_mdl (upd I 3 0) J d e kp nm W, s11]) dX12_voice_28 (fun _ => ⟨rfl, rfl⟩) rfl (Nat.le_of_ble_eq_true rfl) rfl rfl ?_
  refine jb_aload_n (pc' := 32) dX12_voice_31 rfl rfl ?_
  refine jb_iload_n (pc' := 33) dX12_voice_32 rfl rfl ?_
  refine pf_X12_262 (pc' := 36) (h' := [s0, s1, s2, s3, s4, s5, s6, s7, s8, s9, jb_mdl (upd (upd I 3 0) 4 (nI p)) J d e kp nm W, s11]) dX12_voice_33 (fun _ => ⟨rfl, rfl⟩) rfl (Nat.le_of_ble_eq_true rfl) rfl rfl ?_
  refine jb_aload_n (pc' := 37) dX12_voice_36 rfl rfl ?_
  refine jb_callV (pc' := 40) (ci := 12) (q := 105) (As := []) (a2 := 0) (b2 := 0) wv_X12_271 rfl dX12_voice_37 (c_own (upd (upd I 3 0) 4 (nI p)) J d e kp nm W hd0 hk0 p hp rfl) rfl rfl ⟨by decide, Nat.le_of_eq (Nat.zero_add _), Nat.le_of_eq (Nat.zero_add _)⟩ (Nat.le_of_ble_eq_true rfl) rfl (fun r h9 hq => ?_)
  obtain ⟨rfl, rfl⟩ := hq
  rw [hkd]
  show jb_J _ RX12 cX12_voice 5 (Option.some .int) false 2 0 0 40 [some (.ref 105), some (.int (nI p)), some (.int 0), some (.int x), none] [.int 0] [s0, s1, s2, s3, s4, s5, s6, s7, s8, s9, jb_mdl (upd (upd I 3 0) 4 (nI p)) J d e kp nm W, s11] _
  refine jb_istore_ (pc' := 42) dX12_voice_40 (by decide) (jb_at4 rfl) rfl ?_
  refine jb_iload_n (pc' := 43) dX12_voice_42 rfl rfl ?_
  refine jb_if_ne (tgt := 56) (pc' := 46) dX12_voice_43 (by decide) rfl (fun z => absurd (by decide) z) (fun _ => ?_)
  refine jb_aload_n (pc' := 47) dX12_voice_46 rfl rfl ?_
  refine jb_iload (pc' := 49) dX12_voice_47 rfl rfl ?_
  refine jb_iload_n (pc' := 50) dX12_voice_49 rfl rfl ?_
  refine jb_callV (pc' := 53) (ci := 12) (q := 105) (As := [.int 0, .int x]) (a2 := 0) (b2 := 0) wv_X12_268 rfl dX12_voice_50 (cm_calls_0_0 (upd (upd I 3 0) 4 (nI p)) J d e kp nm W hd0 hk0 p hp hkd rfl 0 rfl (by omega) x) rfl rfl ⟨by decide, Nat.le_of_eq (Nat.zero_add _), Nat.le_of_eq (Nat.zero_add _)⟩ (Nat.le_of_ble_eq_true rfl) rfl (fun r h9 hq => ?_)
  obtain ⟨rfl, I9, W9, hI9, h39, hW9, hT9, rfl⟩ := hq
  show jb_J _ RX12 cX12_voice 5 (Option.some .int) false 2 0 0 53 [some (.ref 105), some (.int (nI p)), some (.int 0), some (.int x), some (.int 0)] [.int ((x) + (nI p))] [s0, s1, s2, s3, s4, s5, s6, s7, s8, s9, jb_mdl I9 J d e kp nm W9, s11] _
  refine jb_goto (pc' := 93) dX12_voice_53 (by decide) ?_
  refine jb_iret dX12_voice_93 rfl ?_
  exact ⟨rfl, I9, W9, hI9 0 (by decide), by rw [h39], hW9, hT9, rfl⟩
set_option maxRecDepth 100000 in
set_option maxHeartbeats 4000000 in
theorem mx_voice1_0 {sc : Nat × (Nat → Int32)} {s0 s1 s2 s3 s4 s5 s6 s7 s8 s9 s11 : List va_E} {V : Nat → Nat → Nat} (I J d e kp nm : Nat → Int32) (W : Nat → Nat → Int32) (hd : jd_ V d) (hk : jv_ok V) (p : Nat) (hp : p < V 0 1) (hkd : V 1 p = 0) (x : Int32) : jb_C sc yX12_voice cX12_voice 5 (Option.some .int) 3 0 0 [.ref 105, .int (nI p), .int 1, .int x] [s0, s1, s2, s3, s4, s5, s6, s7, s8, s9, jb_mdl I J d e kp nm W, s11] (fun r h9 => r = some (.int (((x) + (nI p)) * 2)) ∧ ∃ I9 W9, I9 0 = I 0 ∧ I9 3 = nI 2 ∧ (∀ r, ¬ r = 10 → W9 r = W r) ∧ W9 10 = jp_wr (W 10) 0 [11, 10] ∧ h9 = [s0, s1, s2, s3, s4, s5, s6, s7, s8, s9, jb_mdl I9 J d e kp nm W9, s11]) := by
  refine jb_CofJ (ini := false) (by decide +kernel) (fun h => by cases h) (Nat.le_of_ble_eq_true rfl) ?_
  show jb_J sc RX12 cX12_voice 5 (Option.some .int) false 3 0 0 0 [some (.ref 105), some (.int (nI p)), some (.int 1), some (.int x), none] [] [s0, s1, s2, s3, s4, s5, s6, s7, s8, s9, jb_mdl I J d e kp nm W, s11] _
  have hd0 := hd
  have hk0 := hk
  obtain ⟨e0, e1, e2, e3, e4, e5, e6, dv, ds, dd⟩ := hd
  obtain ⟨k0, k1, k2, k3, k4, k5, k6, k7, kv, ks, kd⟩ := hk
  have q0 := kv p hp
  refine jb_aload_n (pc' := 1) dX12_voice_0 rfl rfl ?_
  refine jb_iload_n (pc' := 2) dX12_voice_1 rfl rfl ?_
  refine jb_callV (pc' := 5) (ci := 12) (q := 105) (As := [.int (nI p)]) (a2 := 0) (b2 := 0) wv_X12_149 rfl dX12_voice_2 (c_isVoiceG I J d e kp nm W hd0 hk0 p (by omega)) rfl rfl ⟨by decide, Nat.le_of_eq (Nat.zero_add _), Nat.le_of_eq (Nat.zero_add _)⟩ (Nat.le_of_ble_eq_true rfl) rfl (fun r h9 hq => ?_)
  obtain ⟨rfl, rfl⟩ := hq
  show jb_J _ RX12 cX12_voice 5 (Option.some .int) false 3 0 0 5 [some (.ref 105), some (.int (nI p)), some (.int 1), some (.int x), none] [.int 1] [s0, s1, s2, s3, s4, s5, s6, s7, s8, s9, jb_mdl I J d e kp nm W, s11] _
  refine jb_if_eq (tgt := 20) (pc' := 8) dX12_voice_5 (by decide) rfl (fun z => absurd z (by decide)) (fun _ => ?_)
  refine jb_iload_n (pc' := 9) dX12_voice_8 rfl rfl ?_
  refine jb_i2l (pc' := 10) dX12_voice_9 rfl ?_
  refine jb_lconst (pc' := 11) 0 dX12_voice_10 (by decide) rfl ?_
  refine jb_ldc2 (pc' := 14) 3 dX12_voice_11 wk_X12_152 rfl ?_
  refine jb_callS (pc' := 17) (As := [.long ((1 : Int32).toInt64), .long 0, .long 3]) (a2 := 0) (b2 := 0) wv_X12_56 dX12_voice_14 (c_inLG _ 1 0 3 (by omega) (by omega) (by omega)) rfl ⟨by decide, Nat.le_of_eq (Nat.zero_add _), Nat.le_of_eq (Nat.zero_add _)⟩ (Nat.le_of_ble_eq_true rfl) rfl (fun r h9 hq => ?_)
  obtain ⟨rfl, rfl⟩ := hq
  show jb_J _ RX12 cX12_voice 5 (Option.some .int) false 3 0 0 17 [some (.ref 105), some (.int (nI p)), some (.int 1), some (.int x), none] [.int 1] [s0, s1, s2, s3, s4, s5, s6, s7, s8, s9, jb_mdl I J d e kp nm W, s11] _
  refine jb_if_ne (tgt := 26) (pc' := 20) dX12_voice_17 (by decide) rfl (fun _ => ?_) (fun z => absurd z (by decide))
  refine jb_aload_n (pc' := 27) dX12_voice_26 rfl rfl ?_
  refine jb_iconst (pc' := 28) 0 dX12_voice_27 (by decide) rfl ?_
  refine pf_X12_259 (pc' := 31) (h' := [s0, s1, s2, s3, s4, s5, s6, s7, s8, s9, jb_mdl (upd I 3 0) J d e kp nm W, s11]) dX12_voice_28 (fun _ => ⟨rfl, rfl⟩) rfl (Nat.le_of_ble_eq_true rfl) rfl rfl ?_
  refine jb_aload_n (pc' := 32) dX12_voice_31 rfl rfl ?_
  refine jb_iload_n (pc' := 33) dX12_voice_32 rfl rfl ?_
  refine pf_X12_262 (pc' := 36) (h' := [s0, s1, s2, s3, s4, s5, s6, s7, s8, s9, jb_mdl (upd (upd I 3 0) 4 (nI p)) J d e kp nm W, s11]) dX12_voice_33 (fun _ => ⟨rfl, rfl⟩) rfl (Nat.le_of_ble_eq_true rfl) rfl rfl ?_
  refine jb_aload_n (pc' := 37) dX12_voice_36 rfl rfl ?_
  refine jb_callV (pc' := 40) (ci := 12) (q := 105) (As := []) (a2 := 0) (b2 := 0) wv_X12_271 rfl dX12_voice_37 (c_own (upd (upd I 3 0) 4 (nI p)) J d e kp nm W hd0 hk0 p hp rfl) rfl rfl ⟨by decide, Nat.le_of_eq (Nat.zero_add _), Nat.le_of_eq (Nat.zero_add _)⟩ (Nat.le_of_ble_eq_true rfl) rfl (fun r h9 hq => ?_)
  obtain ⟨rfl, rfl⟩ := hq
  rw [hkd]
  show jb_J _ RX12 cX12_voice 5 (Option.some .int) false 3 0 0 40 [some (.ref 105), some (.int (nI p)), some (.int 1), some (.int x), none] [.int 0] [s0, s1, s2, s3, s4, s5, s6, s7, s8, s9, jb_mdl (upd (upd I 3 0) 4 (nI p)) J d e kp nm W, s11] _
  refine jb_istore_ (pc' := 42) dX12_voice_40 (by decide) (jb_at4 rfl) rfl ?_
  refine jb_iload_n (pc' := 43) dX12_voice_42 rfl rfl ?_
  refine jb_if_ne (tgt := 56) (pc' := 46) dX12_voice_43 (by decide) rfl (fun _ => ?_) (fun z => absurd z (by decide))
  refine jb_iload_n (pc' := 57) dX12_voice_56 rfl rfl ?_
  refine jb_iconst (pc' := 58) 1 dX12_voice_57 (by decide) rfl ?_
  refine jb_icmp_ne (tgt := 71) (pc' := 61) dX12_voice_58 (by decide) rfl (fun z => absurd (by decide) z) (fun _ => ?_)
  refine jb_aload_n (pc' := 62) dX12_voice_61 rfl rfl ?_
  refine jb_iload (pc' := 64) dX12_voice_62 rfl rfl ?_
  refine jb_iload_n (pc' := 65) dX12_voice_64 rfl rfl ?_
  refine jb_callV (pc' := 68) (ci := 12) (q := 105) (As := [.int 0, .int x]) (a2 := 0) (b2 := 0) wv_X12_274 rfl dX12_voice_65 (cm_hears_0_0 (upd (upd I 3 0) 4 (nI p)) J d e kp nm W hd0 hk0 p hp hkd rfl 0 rfl (by omega) x) rfl rfl ⟨by decide, Nat.le_of_eq (Nat.zero_add _), Nat.le_of_eq (Nat.zero_add _)⟩ (Nat.le_of_ble_eq_true rfl) rfl (fun r h9 hq => ?_)
  obtain ⟨rfl, I9, W9, hI9, h39, hW9, hT9, rfl⟩ := hq
  show jb_J _ RX12 cX12_voice 5 (Option.some .int) false 3 0 0 68 [some (.ref 105), some (.int (nI p)), some (.int 1), some (.int x), some (.int 0)] [.int (((x) + (nI p)) * 2)] [s0, s1, s2, s3, s4, s5, s6, s7, s8, s9, jb_mdl I9 J d e kp nm W9, s11] _
  refine jb_goto (pc' := 93) dX12_voice_68 (by decide) ?_
  refine jb_iret dX12_voice_93 rfl ?_
  exact ⟨rfl, I9, W9, hI9 0 (by decide), by rw [h39], hW9, hT9, rfl⟩
set_option maxRecDepth 100000 in
set_option maxHeartbeats 4000000 in
theorem mx_voice2_0 {sc : Nat × (Nat → Int32)} {s0 s1 s2 s3 s4 s5 s6 s7 s8 s9 s11 : List va_E} {V : Nat → Nat → Nat} (I J d e kp nm : Nat → Int32) (W : Nat → Nat → Int32) (hd : jd_ V d) (hk : jv_ok V) (p : Nat) (hp : p < V 0 1) (hkd : V 1 p = 0) (x : Int32) : jb_C sc yX12_voice cX12_voice 5 (Option.some .int) 2 0 0 [.ref 105, .int (nI p), .int 2, .int x] [s0, s1, s2, s3, s4, s5, s6, s7, s8, s9, jb_mdl I J d e kp nm W, s11] (fun r h9 => r = some (.int ((x) - (nI (V 2 p)))) ∧ ∃ I9 W9, I9 0 = I 0 ∧ I9 3 = nI 1 ∧ (∀ r, ¬ r = 10 → W9 r = W r) ∧ W9 10 = jp_wr (W 10) 0 [12] ∧ h9 = [s0, s1, s2, s3, s4, s5, s6, s7, s8, s9, jb_mdl I9 J d e kp nm W9, s11]) := by
  refine jb_CofJ (ini := false) (by decide +kernel) (fun h => by cases h) (Nat.le_of_ble_eq_true rfl) ?_
  show jb_J sc RX12 cX12_voice 5 (Option.some .int) false 2 0 0 0 [some (.ref 105), some (.int (nI p)), some (.int 2), some (.int x), none] [] [s0, s1, s2, s3, s4, s5, s6, s7, s8, s9, jb_mdl I J d e kp nm W, s11] _
  have hd0 := hd
  have hk0 := hk
  obtain ⟨e0, e1, e2, e3, e4, e5, e6, dv, ds, dd⟩ := hd
  obtain ⟨k0, k1, k2, k3, k4, k5, k6, k7, kv, ks, kd⟩ := hk
  have q0 := kv p hp
  refine jb_aload_n (pc' := 1) dX12_voice_0 rfl rfl ?_
  refine jb_iload_n (pc' := 2) dX12_voice_1 rfl rfl ?_
  refine jb_callV (pc' := 5) (ci := 12) (q := 105) (As := [.int (nI p)]) (a2 := 0) (b2 := 0) wv_X12_149 rfl dX12_voice_2 (c_isVoiceG I J d e kp nm W hd0 hk0 p (by omega)) rfl rfl ⟨by decide, Nat.le_of_eq (Nat.zero_add _), Nat.le_of_eq (Nat.zero_add _)⟩ (Nat.le_of_ble_eq_true rfl) rfl (fun r h9 hq => ?_)
  obtain ⟨rfl, rfl⟩ := hq
  show jb_J _ RX12 cX12_voice 5 (Option.some .int) false 2 0 0 5 [some (.ref 105), some (.int (nI p)), some (.int 2), some (.int x), none] [.int 1] [s0, s1, s2, s3, s4, s5, s6, s7, s8, s9, jb_mdl I J d e kp nm W, s11] _
  refine jb_if_eq (tgt := 20) (pc' := 8) dX12_voice_5 (by decide) rfl (fun z => absurd z (by decide)) (fun _ => ?_)
  refine jb_iload_n (pc' := 9) dX12_voice_8 rfl rfl ?_
  refine jb_i2l (pc' := 10) dX12_voice_9 rfl ?_
  refine jb_lconst (pc' := 11) 0 dX12_voice_10 (by decide) rfl ?_
  refine jb_ldc2 (pc' := 14) 3 dX12_voice_11 wk_X12_152 rfl ?_
  refine jb_callS (pc' := 17) (As := [.long ((2 : Int32).toInt64), .long 0, .long 3]) (a2 := 0) (b2 := 0) wv_X12_56 dX12_voice_14 (c_inLG _ 2 0 3 (by omega) (by omega) (by omega)) rfl ⟨by decide, Nat.le_of_eq (Nat.zero_add _), Nat.le_of_eq (Nat.zero_add _)⟩ (Nat.le_of_ble_eq_true rfl) rfl (fun r h9 hq => ?_)
  obtain ⟨rfl, rfl⟩ := hq
  show jb_J _ RX12 cX12_voice 5 (Option.some .int) false 2 0 0 17 [some (.ref 105), some (.int (nI p)), some (.int 2), some (.int x), none] [.int 1] [s0, s1, s2, s3, s4, s5, s6, s7, s8, s9, jb_mdl I J d e kp nm W, s11] _
  refine jb_if_ne (tgt := 26) (pc' := 20) dX12_voice_17 (by decide) rfl (fun _ => ?_) (fun z => absurd z (by decide))
  refine jb_aload_n (pc' := 27) dX12_voice_26 rfl rfl ?_
  refine jb_iconst (pc' := 28) 0 dX12_voice_27 (by decide) rfl ?_
  refine pf_X12_259 (pc' := 31) (h' := [s0, s1, s2, s3, s4, s5, s6, s7, s8, s9, jb_mdl (upd I 3 0) J d e kp nm W, s11]) dX12_voice_28 (fun _ => ⟨rfl, rfl⟩) rfl (Nat.le_of_ble_eq_true rfl) rfl rfl ?_
  refine jb_aload_n (pc' := 32) dX12_voice_31 rfl rfl ?_
  refine jb_iload_n (pc' := 33) dX12_voice_32 rfl rfl ?_
  refine pf_X12_262 (pc' := 36) (h' := [s0, s1, s2, s3, s4, s5, s6, s7, s8, s9, jb_mdl (upd (upd I 3 0) 4 (nI p)) J d e kp nm W, s11]) dX12_voice_33 (fun _ => ⟨rfl, rfl⟩) rfl (Nat.le_of_ble_eq_true rfl) rfl rfl ?_
  refine jb_aload_n (pc' := 37) dX12_voice_36 rfl rfl ?_
  refine jb_callV (pc' := 40) (ci := 12) (q := 105) (As := []) (a2 := 0) (b2 := 0) wv_X12_271 rfl dX12_voice_37 (c_own (upd (upd I 3 0) 4 (nI p)) J d e kp nm W hd0 hk0 p hp rfl) rfl rfl ⟨by decide, Nat.le_of_eq (Nat.zero_add _), Nat.le_of_eq (Nat.zero_add _)⟩ (Nat.le_of_ble_eq_true rfl) rfl (fun r h9 hq => ?_)
  obtain ⟨rfl, rfl⟩ := hq
  rw [hkd]
  show jb_J _ RX12 cX12_voice 5 (Option.some .int) false 2 0 0 40 [some (.ref 105), some (.int (nI p)), some (.int 2), some (.int x), none] [.int 0] [s0, s1, s2, s3, s4, s5, s6, s7, s8, s9, jb_mdl (upd (upd I 3 0) 4 (nI p)) J d e kp nm W, s11] _
  refine jb_istore_ (pc' := 42) dX12_voice_40 (by decide) (jb_at4 rfl) rfl ?_
  refine jb_iload_n (pc' := 43) dX12_voice_42 rfl rfl ?_
  refine jb_if_ne (tgt := 56) (pc' := 46) dX12_voice_43 (by decide) rfl (fun _ => ?_) (fun z => absurd z (by decide))
  refine jb_iload_n (pc' := 57) dX12_voice_56 rfl rfl ?_
  refine jb_iconst (pc' := 58) 1 dX12_voice_57 (by decide) rfl ?_
  refine jb_icmp_ne (tgt := 71) (pc' := 61) dX12_voice_58 (by decide) rfl (fun _ => ?_) (fun z => absurd z (by decide))
  refine jb_iload_n (pc' := 72) dX12_voice_71 rfl rfl ?_
  refine jb_iconst (pc' := 73) 2 dX12_voice_72 (by decide) rfl ?_
  refine jb_icmp_ne (tgt := 86) (pc' := 76) dX12_voice_73 (by decide) rfl (fun z => absurd (by decide) z) (fun _ => ?_)
  refine jb_aload_n (pc' := 77) dX12_voice_76 rfl rfl ?_
  refine jb_iload (pc' := 79) dX12_voice_77 rfl rfl ?_
  refine jb_iload_n (pc' := 80) dX12_voice_79 rfl rfl ?_
  refine jb_callV (pc' := 83) (ci := 12) (q := 105) (As := [.int 0, .int x]) (a2 := 0) (b2 := 0) wv_X12_277 rfl dX12_voice_80 (cm_waits_0_0 (upd (upd I 3 0) 4 (nI p)) J d e kp nm W hd0 hk0 p hp hkd rfl 0 rfl (by omega) x) rfl rfl ⟨by decide, Nat.le_of_eq (Nat.zero_add _), Nat.le_of_eq (Nat.zero_add _)⟩ (Nat.le_of_ble_eq_true rfl) rfl (fun r h9 hq => ?_)
  obtain ⟨rfl, I9, W9, hI9, h39, hW9, hT9, rfl⟩ := hq
  show jb_J _ RX12 cX12_voice 5 (Option.some .int) false 2 0 0 83 [some (.ref 105), some (.int (nI p)), some (.int 2), some (.int x), some (.int 0)] [.int ((x) - (nI (V 2 p)))] [s0, s1, s2, s3, s4, s5, s6, s7, s8, s9, jb_mdl I9 J d e kp nm W9, s11] _
  refine jb_goto (pc' := 93) dX12_voice_83 (by decide) ?_
  refine jb_iret dX12_voice_93 rfl ?_
  exact ⟨rfl, I9, W9, hI9 0 (by decide), by rw [h39], hW9, hT9, rfl⟩
set_option maxRecDepth 100000 in
set_option maxHeartbeats 4000000 in
theorem mx_voice3_0 {sc : Nat × (Nat → Int32)} {s0 s1 s2 s3 s4 s5 s6 s7 s8 s9 s11 : List va_E} {V : Nat → Nat → Nat} (I J d e kp nm : Nat → Int32) (W : Nat → Nat → Int32) (hd : jd_ V d) (hk : jv_ok V) (p : Nat) (hp : p < V 0 1) (hkd : V 1 p = 0) (x : Int32) : jb_C sc yX12_voice cX12_voice 5 (Option.some .int) 4 0 0 [.ref 105, .int (nI p), .int 3, .int x] [s0, s1, s2, s3, s4, s5, s6, s7, s8, s9, jb_mdl I J d e kp nm W, s11] (fun r h9 => r = some (.int ((((x) + (nI p)) * 2) ^^^ ((x) - (nI (V 2 p))))) ∧ ∃ I9 W9, I9 0 = I 0 ∧ I9 3 = nI 4 ∧ (∀ r, ¬ r = 10 → W9 r = W r) ∧ W9 10 = jp_wr (W 10) 0 [13, 11, 10, 12] ∧ h9 = [s0, s1, s2, s3, s4, s5, s6, s7, s8, s9, jb_mdl I9 J d e kp nm W9, s11]) := by
  refine jb_CofJ (ini := false) (by decide +kernel) (fun h => by cases h) (Nat.le_of_ble_eq_true rfl) ?_
  show jb_J sc RX12 cX12_voice 5 (Option.some .int) false 4 0 0 0 [some (.ref 105), some (.int (nI p)), some (.int 3), some (.int x), none] [] [s0, s1, s2, s3, s4, s5, s6, s7, s8, s9, jb_mdl I J d e kp nm W, s11] _
  have hd0 := hd
  have hk0 := hk
  obtain ⟨e0, e1, e2, e3, e4, e5, e6, dv, ds, dd⟩ := hd
  obtain ⟨k0, k1, k2, k3, k4, k5, k6, k7, kv, ks, kd⟩ := hk
  have q0 := kv p hp
  refine jb_aload_n (pc' := 1) dX12_voice_0 rfl rfl ?_
  refine jb_iload_n (pc' := 2) dX12_voice_1 rfl rfl ?_
  refine jb_callV (pc' := 5) (ci := 12) (q := 105) (As := [.int (nI p)]) (a2 := 0) (b2 := 0) wv_X12_149 rfl dX12_voice_2 (c_isVoiceG I J d e kp nm W hd0 hk0 p (by omega)) rfl rfl ⟨by decide, Nat.le_of_eq (Nat.zero_add _), Nat.le_of_eq (Nat.zero_add _)⟩ (Nat.le_of_ble_eq_true rfl) rfl (fun r h9 hq => ?_)
  obtain ⟨rfl, rfl⟩ := hq
  show jb_J _ RX12 cX12_voice 5 (Option.some .int) false 4 0 0 5 [some (.ref 105), some (.int (nI p)), some (.int 3), some (.int x), none] [.int 1] [s0, s1, s2, s3, s4, s5, s6, s7, s8, s9, jb_mdl I J d e kp nm W, s11] _
  refine jb_if_eq (tgt := 20) (pc' := 8) dX12_voice_5 (by decide) rfl (fun z => absurd z (by decide)) (fun _ => ?_)
  refine jb_iload_n (pc' := 9) dX12_voice_8 rfl rfl ?_
  refine jb_i2l (pc' := 10) dX12_voice_9 rfl ?_
  refine jb_lconst (pc' := 11) 0 dX12_voice_10 (by decide) rfl ?_
  refine jb_ldc2 (pc' := 14) 3 dX12_voice_11 wk_X12_152 rfl ?_
  refine jb_callS (pc' := 17) (As := [.long ((3 : Int32).toInt64), .long 0, .long 3]) (a2 := 0) (b2 := 0) wv_X12_56 dX12_voice_14 (c_inLG _ 3 0 3 (by omega) (by omega) (by omega)) rfl ⟨by decide, Nat.le_of_eq (Nat.zero_add _), Nat.le_of_eq (Nat.zero_add _)⟩ (Nat.le_of_ble_eq_true rfl) rfl (fun r h9 hq => ?_)
  obtain ⟨rfl, rfl⟩ := hq
  show jb_J _ RX12 cX12_voice 5 (Option.some .int) false 4 0 0 17 [some (.ref 105), some (.int (nI p)), some (.int 3), some (.int x), none] [.int 1] [s0, s1, s2, s3, s4, s5, s6, s7, s8, s9, jb_mdl I J d e kp nm W, s11] _
  refine jb_if_ne (tgt := 26) (pc' := 20) dX12_voice_17 (by decide) rfl (fun _ => ?_) (fun z => absurd z (by decide))
  refine jb_aload_n (pc' := 27) dX12_voice_26 rfl rfl ?_
  refine jb_iconst (pc' := 28) 0 dX12_voice_27 (by decide) rfl ?_
  refine pf_X12_259 (pc' := 31) (h' := [s0, s1, s2, s3, s4, s5, s6, s7, s8, s9, jb_mdl (upd I 3 0) J d e kp nm W, s11]) dX12_voice_28 (fun _ => ⟨rfl, rfl⟩) rfl (Nat.le_of_ble_eq_true rfl) rfl rfl ?_
  refine jb_aload_n (pc' := 32) dX12_voice_31 rfl rfl ?_
  refine jb_iload_n (pc' := 33) dX12_voice_32 rfl rfl ?_
  refine pf_X12_262 (pc' := 36) (h' := [s0, s1, s2, s3, s4, s5, s6, s7, s8, s9, jb_mdl (upd (upd I 3 0) 4 (nI p)) J d e kp nm W, s11]) dX12_voice_33 (fun _ => ⟨rfl, rfl⟩) rfl (Nat.le_of_ble_eq_true rfl) rfl rfl ?_
  refine jb_aload_n (pc' := 37) dX12_voice_36 rfl rfl ?_
  refine jb_callV (pc' := 40) (ci := 12) (q := 105) (As := []) (a2 := 0) (b2 := 0) wv_X12_271 rfl dX12_voice_37 (c_own (upd (upd I 3 0) 4 (nI p)) J d e kp nm W hd0 hk0 p hp rfl) rfl rfl ⟨by decide, Nat.le_of_eq (Nat.zero_add _), Nat.le_of_eq (Nat.zero_add _)⟩ (Nat.le_of_ble_eq_true rfl) rfl (fun r h9 hq => ?_)
  obtain ⟨rfl, rfl⟩ := hq
  rw [hkd]
  show jb_J _ RX12 cX12_voice 5 (Option.some .int) false 4 0 0 40 [some (.ref 105), some (.int (nI p)), some (.int 3), some (.int x), none] [.int 0] [s0, s1, s2, s3, s4, s5, s6, s7, s8, s9, jb_mdl (upd (upd I 3 0) 4 (nI p)) J d e kp nm W, s11] _
  refine jb_istore_ (pc' := 42) dX12_voice_40 (by decide) (jb_at4 rfl) rfl ?_
  refine jb_iload_n (pc' := 43) dX12_voice_42 rfl rfl ?_
  refine jb_if_ne (tgt := 56) (pc' := 46) dX12_voice_43 (by decide) rfl (fun _ => ?_) (fun z => absurd z (by decide))
  refine jb_iload_n (pc' := 57) dX12_voice_56 rfl rfl ?_
  refine jb_iconst (pc' := 58) 1 dX12_voice_57 (by decide) rfl ?_
  refine jb_icmp_ne (tgt := 71) (pc' := 61) dX12_voice_58 (by decide) rfl (fun _ => ?_) (fun z => absurd z (by decide))
  refine jb_iload_n (pc' := 72) dX12_voice_71 rfl rfl ?_
  refine jb_iconst (pc' := 73) 2 dX12_voice_72 (by decide) rfl ?_
  refine jb_icmp_ne (tgt := 86) (pc' := 76) dX12_voice_73 (by decide) rfl (fun _ => ?_) (fun z => absurd z (by decide))
  refine jb_aload_n (pc' := 87) dX12_voice_86 rfl rfl ?_
  refine jb_iload (pc' := 89) dX12_voice_87 rfl rfl ?_
  refine jb_iload_n (pc' := 90) dX12_voice_89 rfl rfl ?_
  refine jb_callV (pc' := 93) (ci := 12) (q := 105) (As := [.int 0, .int x]) (a2 := 0) (b2 := 0) wv_X12_280 rfl dX12_voice_90 (cm_tells_0_0 (upd (upd I 3 0) 4 (nI p)) J d e kp nm W hd0 hk0 p hp hkd rfl 0 rfl (by omega) x) rfl rfl ⟨by decide, Nat.le_of_eq (Nat.zero_add _), Nat.le_of_eq (Nat.zero_add _)⟩ (Nat.le_of_ble_eq_true rfl) rfl (fun r h9 hq => ?_)
  obtain ⟨rfl, I9, W9, hI9, h39, hW9, hT9, rfl⟩ := hq
  show jb_J _ RX12 cX12_voice 5 (Option.some .int) false 4 0 0 93 [some (.ref 105), some (.int (nI p)), some (.int 3), some (.int x), some (.int 0)] [.int ((((x) + (nI p)) * 2) ^^^ ((x) - (nI (V 2 p))))] [s0, s1, s2, s3, s4, s5, s6, s7, s8, s9, jb_mdl I9 J d e kp nm W9, s11] _
  refine jb_iret dX12_voice_93 rfl ?_
  exact ⟨rfl, I9, W9, hI9 0 (by decide), by rw [h39], hW9, hT9, rfl⟩
set_option maxRecDepth 100000 in
set_option maxHeartbeats 4000000 in
theorem cm_calls_0_1 {sc : Nat × (Nat → Int32)} {s0 s1 s2 s3 s4 s5 s6 s7 s8 s9 s11 : List va_E} {V : Nat → Nat → Nat} (I J d e kp nm : Nat → Int32) (W : Nat → Nat → Int32) (hd : jd_ V d) (hk : jv_ok V) (p : Nat) (hp : p < V 0 1) (hkd : V 1 p = 1) (h4 : I 4 = nI p) (t9 : Nat) (h3 : I 3 = nI t9) (ht : t9 + 1 ≤ 40) (x : Int32) : jb_C sc yX12_calls cX12_calls 3 (Option.some .int) 1 0 0 [.ref 105, .int 0, .int x] [s0, s1, s2, s3, s4, s5, s6, s7, s8, s9, jb_mdl I J d e kp nm W, s11] (fun r h9 => r = some (.int ((x) + (nI p))) ∧ ∃ I9 W9, (∀ j, ¬ j = 3 → I9 j = I j) ∧ I9 3 = nI (t9 + 1) ∧ (∀ r, ¬ r = 10 → W9 r = W r) ∧ W9 10 = jp_wr (W 10) t9 [10] ∧ h9 = [s0, s1, s2, s3, s4, s5, s6, s7, s8, s9, jb_mdl I9 J d e kp nm W9, s11]) := by
  refine jb_CofJ (ini := false) (by decide +kernel) (fun h => by cases h) (Nat.le_of_ble_eq_true rfl) ?_
  show jb_J sc RX12 cX12_calls 3 (Option.some .int) false 1 0 0 0 [some (.ref 105), some (.int 0), some (.int x)] [] [s0, s1, s2, s3, s4, s5, s6, s7, s8, s9, jb_mdl I J d e kp nm W, s11] _
  have gI0 : ∀ j, ¬ j = 3 → I j = I j := fun _ _ => rfl
  have gW0 : ∀ r, ¬ r = 10 → W r = W r := fun _ _ => rfl
  have gT0 : W 10 = jp_wr (W 10) t9 [] := rfl
  refine jb_iload_n (pc' := 1) dX12_calls_0 rfl rfl ?_
  refine jb_lookup (pc' := 28) (off := 27) dX12_calls_1 (by decide +kernel) (by decide +kernel) (by decide) ?_
  refine jb_aload_n (pc' := 29) dX12_calls_28 rfl rfl ?_
  refine jb_bipush (pc' := 31) 10 dX12_calls_29 (by decide) rfl ?_
  refine jb_callV (pc' := 34) (ci := 12) (q := 105) (As := [.int 10]) (a2 := 0) (b2 := 0) wv_X12_265 rfl dX12_calls_31 (c_ran I J d e kp nm W t9 h3 (by omega) 10) rfl rfl ⟨by decide, Nat.le_of_eq (Nat.zero_add _), Nat.le_of_eq (Nat.zero_add _)⟩ (Nat.le_of_ble_eq_true rfl) rfl (fun r h9 hq => ?_)
  obtain ⟨rfl, I1, W1, hI1, h31, hW1, hT1, rfl⟩ := hq
  have gI1 : ∀ j, ¬ j = 3 → I1 j = I j := fun j hj => (hI1 j hj).trans (gI0 j hj)
  have gW1 : ∀ r, ¬ r = 10 → W1 r = W r := fun r hr => (hW1 r hr).trans (gW0 r hr)
  have gT1 : W1 10 = jp_wr (W 10) t9 [10] := hT1.trans (by first | rfl | (rw [gT0]; done) | (rw [gT0]; rfl))
  show jb_J _ RX12 cX12_calls 3 (Option.some .int) false 1 0 0 34 [some (.ref 105), some (.int 0), some (.int x)] [] [s0, s1, s2, s3, s4, s5, s6, s7, s8, s9, jb_mdl I1 J d e kp nm W1, s11] _
  refine jb_iload_n (pc' := 35) dX12_calls_34 rfl rfl ?_
  refine jb_aload_n (pc' := 36) dX12_calls_35 rfl rfl ?_
  refine gf_X12_262 (pc' := 39) (v := .int (I1 4)) dX12_calls_36 rfl rfl rfl ?_
  refine jb_top (v := .int (I1 4)) (w := .int (nI p)) (jb_vI ((gI1 4 (by decide)).trans h4)) ?_
  refine jb_iadd (pc' := 40) dX12_calls_39 rfl ?_
  refine jb_iret dX12_calls_40 rfl ?_
  exact ⟨rfl, I1, W1, gI1, h31, gW1, gT1, rfl⟩
set_option maxRecDepth 100000 in
set_option maxHeartbeats 4000000 in
theorem cm_calls_1_1 {sc : Nat × (Nat → Int32)} {s0 s1 s2 s3 s4 s5 s6 s7 s8 s9 s11 : List va_E} {V : Nat → Nat → Nat} (I J d e kp nm : Nat → Int32) (W : Nat → Nat → Int32) (hd : jd_ V d) (hk : jv_ok V) (p : Nat) (hp : p < V 0 1) (hkd : V 1 p = 1) (h4 : I 4 = nI p) (t9 : Nat) (h3 : I 3 = nI t9) (ht : t9 + 1 ≤ 40) (x : Int32) : jb_C sc yX12_calls cX12_calls 3 (Option.some .int) 2 0 0 [.ref 105, .int 1, .int x] [s0, s1, s2, s3, s4, s5, s6, s7, s8, s9, jb_mdl I J d e kp nm W, s11] (fun r h9 => r = some (.int ((x) + (nI p))) ∧ ∃ I9 W9, (∀ j, ¬ j = 3 → I9 j = I j) ∧ I9 3 = nI (t9 + 1) ∧ (∀ r, ¬ r = 10 → W9 r = W r) ∧ W9 10 = jp_wr (W 10) t9 [10] ∧ h9 = [s0, s1, s2, s3, s4, s5, s6, s7, s8, s9, jb_mdl I9 J d e kp nm W9, s11]) := by
  refine jb_CofJ (ini := false) (by decide +kernel) (fun h => by cases h) (Nat.le_of_ble_eq_true rfl) ?_
  show jb_J sc RX12 cX12_calls 3 (Option.some .int) false 2 0 0 0 [some (.ref 105), some (.int 1), some (.int x)] [] [s0, s1, s2, s3, s4, s5, s6, s7, s8, s9, jb_mdl I J d e kp nm W, s11] _
  have gI0 : ∀ j, ¬ j = 3 → I j = I j := fun _ _ => rfl
  have gW0 : ∀ r, ¬ r = 10 → W r = W r := fun _ _ => rfl
  have gT0 : W 10 = jp_wr (W 10) t9 [] := rfl
  refine jb_iload_n (pc' := 1) dX12_calls_0 rfl rfl ?_
  refine jb_lookup (pc' := 59) (off := 58) dX12_calls_1 (by decide +kernel) (by decide +kernel) (by decide) ?_
  refine jb_aload_n (pc' := 60) dX12_calls_59 rfl rfl ?_
  refine jb_iload_n (pc' := 61) dX12_calls_60 rfl rfl ?_
  refine jb_callS (pc' := 64) (As := [.int 1]) (a2 := 0) (b2 := 0) wv_X12_168 dX12_calls_61 (c_above 1 (by decide)) rfl ⟨by decide, Nat.le_of_eq (Nat.zero_add _), Nat.le_of_eq (Nat.zero_add _)⟩ (Nat.le_of_ble_eq_true rfl) rfl (fun r h9 hq => ?_)
  obtain ⟨rfl, rfl⟩ := hq
  show jb_J _ RX12 cX12_calls 3 (Option.some .int) false 2 0 0 64 [some (.ref 105), some (.int 1), some (.int x)] [.int 0, .ref 105] [s0, s1, s2, s3, s4, s5, s6, s7, s8, s9, jb_mdl I J d e kp nm W, s11] _
  refine jb_iload_n (pc' := 65) dX12_calls_64 rfl rfl ?_
  refine jb_callV (pc' := 68) (ci := 12) (q := 105) (As := [.int 0, .int x]) (a2 := 0) (b2 := 0) wv_X12_268 rfl dX12_calls_65 (cm_calls_0_1 I J d e kp nm W hd hk p hp hkd ((gI0 4 (by decide)).trans h4) t9 h3 (by omega) x) rfl rfl ⟨by decide, Nat.le_of_eq (Nat.zero_add _), Nat.le_of_eq (Nat.zero_add _)⟩ (Nat.le_of_ble_eq_true rfl) rfl (fun r h9 hq => ?_)
  obtain ⟨rfl, I1, W1, hI1, h31, hW1, hT1, rfl⟩ := hq
  have gI1 : ∀ j, ¬ j = 3 → I1 j = I j := fun j hj => (hI1 j hj).trans (gI0 j hj)
  have gW1 : ∀ r, ¬ r = 10 → W1 r = W r := fun r hr => (hW1 r hr).trans (gW0 r hr)
  have gT1 : W1 10 = jp_wr (W 10) t9 [10] := hT1.trans (by first | rfl | (rw [gT0]; done) | (rw [gT0]; rfl))
  show jb_J _ RX12 cX12_calls 3 (Option.some .int) false 2 0 0 68 [some (.ref 105), some (.int 1), some (.int x)] [.int ((x) + (nI p))] [s0, s1, s2, s3, s4, s5, s6, s7, s8, s9, jb_mdl I1 J d e kp nm W1, s11] _
  refine jb_iret dX12_calls_68 rfl ?_
  exact ⟨rfl, I1, W1, gI1, h31, gW1, gT1, rfl⟩
set_option maxRecDepth 100000 in
set_option maxHeartbeats 4000000 in
theorem cm_waits_0_1 {sc : Nat × (Nat → Int32)} {s0 s1 s2 s3 s4 s5 s6 s7 s8 s9 s11 : List va_E} {V : Nat → Nat → Nat} (I J d e kp nm : Nat → Int32) (W : Nat → Nat → Int32) (hd : jd_ V d) (hk : jv_ok V) (p : Nat) (hp : p < V 0 1) (hkd : V 1 p = 1) (h4 : I 4 = nI p) (t9 : Nat) (h3 : I 3 = nI t9) (ht : t9 + 1 ≤ 40) (x : Int32) : jb_C sc yX12_waits cX12_waits 3 (Option.some .int) 1 0 0 [.ref 105, .int 0, .int x] [s0, s1, s2, s3, s4, s5, s6, s7, s8, s9, jb_mdl I J d e kp nm W, s11] (fun r h9 => r = some (.int ((x) - (nI (V 2 p)))) ∧ ∃ I9 W9, (∀ j, ¬ j = 3 → I9 j = I j) ∧ I9 3 = nI (t9 + 1) ∧ (∀ r, ¬ r = 10 → W9 r = W r) ∧ W9 10 = jp_wr (W 10) t9 [12] ∧ h9 = [s0, s1, s2, s3, s4, s5, s6, s7, s8, s9, jb_mdl I9 J d e kp nm W9, s11]) := by
  refine jb_CofJ (ini := false) (by decide +kernel) (fun h => by cases h) (Nat.le_of_ble_eq_true rfl) ?_
  show jb_J sc RX12 cX12_waits 3 (Option.some .int) false 1 0 0 0 [some (.ref 105), some (.int 0), some (.int x)] [] [s0, s1, s2, s3, s4, s5, s6, s7, s8, s9, jb_mdl I J d e kp nm W, s11] _
  have gI0 : ∀ j, ¬ j = 3 → I j = I j := fun _ _ => rfl
  have gW0 : ∀ r, ¬ r = 10 → W r = W r := fun _ _ => rfl
  have gT0 : W 10 = jp_wr (W 10) t9 [] := rfl
  refine jb_iload_n (pc' := 1) dX12_waits_0 rfl rfl ?_
  refine jb_lookup (pc' := 36) (off := 35) dX12_waits_1 (by decide +kernel) (by decide +kernel) (by decide) ?_
  refine jb_aload_n (pc' := 37) dX12_waits_36 rfl rfl ?_
  refine jb_bipush (pc' := 39) 12 dX12_waits_37 (by decide) rfl ?_
  refine jb_callV (pc' := 42) (ci := 12) (q := 105) (As := [.int 12]) (a2 := 0) (b2 := 0) wv_X12_265 rfl dX12_waits_39 (c_ran I J d e kp nm W t9 h3 (by omega) 12) rfl rfl ⟨by decide, Nat.le_of_eq (Nat.zero_add _), Nat.le_of_eq (Nat.zero_add _)⟩ (Nat.le_of_ble_eq_true rfl) rfl (fun r h9 hq => ?_)
  obtain ⟨rfl, I1, W1, hI1, h31, hW1, hT1, rfl⟩ := hq
  have gI1 : ∀ j, ¬ j = 3 → I1 j = I j := fun j hj => (hI1 j hj).trans (gI0 j hj)
  have gW1 : ∀ r, ¬ r = 10 → W1 r = W r := fun r hr => (hW1 r hr).trans (gW0 r hr)
  have gT1 : W1 10 = jp_wr (W 10) t9 [12] := hT1.trans (by first | rfl | (rw [gT0]; done) | (rw [gT0]; rfl))
  show jb_J _ RX12 cX12_waits 3 (Option.some .int) false 1 0 0 42 [some (.ref 105), some (.int 0), some (.int x)] [] [s0, s1, s2, s3, s4, s5, s6, s7, s8, s9, jb_mdl I1 J d e kp nm W1, s11] _
  refine jb_iload_n (pc' := 43) dX12_waits_42 rfl rfl ?_
  refine jb_aload_n (pc' := 44) dX12_waits_43 rfl rfl ?_
  refine jb_aload_n (pc' := 45) dX12_waits_44 rfl rfl ?_
  refine gf_X12_262 (pc' := 48) (v := .int (I1 4)) dX12_waits_45 rfl rfl rfl ?_
  refine jb_top (v := .int (I1 4)) (w := .int (nI p)) (jb_vI ((gI1 4 (by decide)).trans h4)) ?_
  refine jb_iconst (pc' := 49) 1 dX12_waits_48 (by decide) rfl ?_
  refine jb_callV (pc' := 52) (ci := 12) (q := 105) (As := [.int (nI p), .int 1]) (a2 := 0) (b2 := 0) wv_X12_145 rfl dX12_waits_49 (c_of1 I1 J d e kp nm W1 hd hk p hp) rfl rfl ⟨by decide, Nat.le_of_eq (Nat.zero_add _), Nat.le_of_eq (Nat.zero_add _)⟩ (Nat.le_of_ble_eq_true rfl) rfl (fun r h9 hq => ?_)
  obtain ⟨rfl, rfl⟩ := hq
  show jb_J _ RX12 cX12_waits 3 (Option.some .int) false 1 0 0 52 [some (.ref 105), some (.int 0), some (.int x)] [.int (nI (V 2 p)), .int x] [s0, s1, s2, s3, s4, s5, s6, s7, s8, s9, jb_mdl I1 J d e kp nm W1, s11] _
  refine jb_isub (pc' := 53) dX12_waits_52 rfl ?_
  refine jb_iret dX12_waits_53 rfl ?_
  exact ⟨rfl, I1, W1, gI1, h31, gW1, gT1, rfl⟩
set_option maxRecDepth 100000 in
set_option maxHeartbeats 4000000 in
theorem cm_waits_1_1 {sc : Nat × (Nat → Int32)} {s0 s1 s2 s3 s4 s5 s6 s7 s8 s9 s11 : List va_E} {V : Nat → Nat → Nat} (I J d e kp nm : Nat → Int32) (W : Nat → Nat → Int32) (hd : jd_ V d) (hk : jv_ok V) (p : Nat) (hp : p < V 0 1) (hkd : V 1 p = 1) (h4 : I 4 = nI p) (t9 : Nat) (h3 : I 3 = nI t9) (ht : t9 + 1 ≤ 40) (x : Int32) : jb_C sc yX12_waits cX12_waits 3 (Option.some .int) 2 0 0 [.ref 105, .int 1, .int x] [s0, s1, s2, s3, s4, s5, s6, s7, s8, s9, jb_mdl I J d e kp nm W, s11] (fun r h9 => r = some (.int ((x) - (nI (V 2 p)))) ∧ ∃ I9 W9, (∀ j, ¬ j = 3 → I9 j = I j) ∧ I9 3 = nI (t9 + 1) ∧ (∀ r, ¬ r = 10 → W9 r = W r) ∧ W9 10 = jp_wr (W 10) t9 [12] ∧ h9 = [s0, s1, s2, s3, s4, s5, s6, s7, s8, s9, jb_mdl I9 J d e kp nm W9, s11]) := by
  refine jb_CofJ (ini := false) (by decide +kernel) (fun h => by cases h) (Nat.le_of_ble_eq_true rfl) ?_
  show jb_J sc RX12 cX12_waits 3 (Option.some .int) false 2 0 0 0 [some (.ref 105), some (.int 1), some (.int x)] [] [s0, s1, s2, s3, s4, s5, s6, s7, s8, s9, jb_mdl I J d e kp nm W, s11] _
  have gI0 : ∀ j, ¬ j = 3 → I j = I j := fun _ _ => rfl
  have gW0 : ∀ r, ¬ r = 10 → W r = W r := fun _ _ => rfl
  have gT0 : W 10 = jp_wr (W 10) t9 [] := rfl
  refine jb_iload_n (pc' := 1) dX12_waits_0 rfl rfl ?_
  refine jb_lookup (pc' := 93) (off := 92) dX12_waits_1 (by decide +kernel) (by decide +kernel) (by decide) ?_
  refine jb_aload_n (pc' := 94) dX12_waits_93 rfl rfl ?_
  refine jb_iload_n (pc' := 95) dX12_waits_94 rfl rfl ?_
  refine jb_callS (pc' := 98) (As := [.int 1]) (a2 := 0) (b2 := 0) wv_X12_168 dX12_waits_95 (c_above 1 (by decide)) rfl ⟨by decide, Nat.le_of_eq (Nat.zero_add _), Nat.le_of_eq (Nat.zero_add _)⟩ (Nat.le_of_ble_eq_true rfl) rfl (fun r h9 hq => ?_)
  obtain ⟨rfl, rfl⟩ := hq
  show jb_J _ RX12 cX12_waits 3 (Option.some .int) false 2 0 0 98 [some (.ref 105), some (.int 1), some (.int x)] [.int 0, .ref 105] [s0, s1, s2, s3, s4, s5, s6, s7, s8, s9, jb_mdl I J d e kp nm W, s11] _
  refine jb_iload_n (pc' := 99) dX12_waits_98 rfl rfl ?_
  refine jb_callV (pc' := 102) (ci := 12) (q := 105) (As := [.int 0, .int x]) (a2 := 0) (b2 := 0) wv_X12_277 rfl dX12_waits_99 (cm_waits_0_1 I J d e kp nm W hd hk p hp hkd ((gI0 4 (by decide)).trans h4) t9 h3 (by omega) x) rfl rfl ⟨by decide, Nat.le_of_eq (Nat.zero_add _), Nat.le_of_eq (Nat.zero_add _)⟩ (Nat.le_of_ble_eq_true rfl) rfl (fun r h9 hq => ?_)
  obtain ⟨rfl, I1, W1, hI1, h31, hW1, hT1, rfl⟩ := hq
  have gI1 : ∀ j, ¬ j = 3 → I1 j = I j := fun j hj => (hI1 j hj).trans (gI0 j hj)
  have gW1 : ∀ r, ¬ r = 10 → W1 r = W r := fun r hr => (hW1 r hr).trans (gW0 r hr)
  have gT1 : W1 10 = jp_wr (W 10) t9 [12] := hT1.trans (by first | rfl | (rw [gT0]; done) | (rw [gT0]; rfl))
  show jb_J _ RX12 cX12_waits 3 (Option.some .int) false 2 0 0 102 [some (.ref 105), some (.int 1), some (.int x)] [.int ((x) - (nI (V 2 p)))] [s0, s1, s2, s3, s4, s5, s6, s7, s8, s9, jb_mdl I1 J d e kp nm W1, s11] _
  refine jb_iret dX12_waits_102 rfl ?_
  exact ⟨rfl, I1, W1, gI1, h31, gW1, gT1, rfl⟩
set_option maxRecDepth 100000 in
set_option maxHeartbeats 4000000 in
theorem cm_hears_0_1 {sc : Nat × (Nat → Int32)} {s0 s1 s2 s3 s4 s5 s6 s7 s8 s9 s11 : List va_E} {V : Nat → Nat → Nat} (I J d e kp nm : Nat → Int32) (W : Nat → Nat → Int32) (hd : jd_ V d) (hk : jv_ok V) (p : Nat) (hp : p < V 0 1) (hkd : V 1 p = 1) (h4 : I 4 = nI p) (t9 : Nat) (h3 : I 3 = nI t9) (ht : t9 + 2 ≤ 40) (x : Int32) : jb_C sc yX12_hears cX12_hears 4 (Option.some .int) 3 0 0 [.ref 105, .int 0, .int x] [s0, s1, s2, s3, s4, s5, s6, s7, s8, s9, jb_mdl I J d e kp nm W, s11] (fun r h9 => r = some (.int (((x) + (nI p)) * 2)) ∧ ∃ I9 W9, (∀ j, ¬ j = 3 → I9 j = I j) ∧ I9 3 = nI (t9 + 2) ∧ (∀ r, ¬ r = 10 → W9 r = W r) ∧ W9 10 = jp_wr (W 10) t9 [11, 10] ∧ h9 = [s0, s1, s2, s3, s4, s5, s6, s7, s8, s9, jb_mdl I9 J d e kp nm W9, s11]) := by
  refine jb_CofJ (ini := false) (by decide +kernel) (fun h => by cases h) (Nat.le_of_ble_eq_true rfl) ?_
  show jb_J sc RX12 cX12_hears 4 (Option.some .int) false 3 0 0 0 [some (.ref 105), some (.int 0), some (.int x), none] [] [s0, s1, s2, s3, s4, s5, s6, s7, s8, s9, jb_mdl I J d e kp nm W, s11] _
  have gI0 : ∀ j, ¬ j = 3 → I j = I j := fun _ _ => rfl
  have gW0 : ∀ r, ¬ r = 10 → W r = W r := fun _ _ => rfl
  have gT0 : W 10 = jp_wr (W 10) t9 [] := rfl
  refine jb_iload_n (pc' := 1) dX12_hears_0 rfl rfl ?_
  refine jb_tableIn (pc' := 36) (off := 35) dX12_hears_1 (by decide) (by decide) (by decide +kernel) (by decide) ?_
  refine jb_aload_n (pc' := 37) dX12_hears_36 rfl rfl ?_
  refine jb_bipush (pc' := 39) 11 dX12_hears_37 (by decide) rfl ?_
  refine jb_callV (pc' := 42) (ci := 12) (q := 105) (As := [.int 11]) (a2 := 0) (b2 := 0) wv_X12_265 rfl dX12_hears_39 (c_ran I J d e kp nm W t9 h3 (by omega) 11) rfl rfl ⟨by decide, Nat.le_of_eq (Nat.zero_add _), Nat.le_of_eq (Nat.zero_add _)⟩ (Nat.le_of_ble_eq_true rfl) rfl (fun r h9 hq => ?_)
  obtain ⟨rfl, I1, W1, hI1, h31, hW1, hT1, rfl⟩ := hq
  have gI1 : ∀ j, ¬ j = 3 → I1 j = I j := fun j hj => (hI1 j hj).trans (gI0 j hj)
  have gW1 : ∀ r, ¬ r = 10 → W1 r = W r := fun r hr => (hW1 r hr).trans (gW0 r hr)
  have gT1 : W1 10 = jp_wr (W 10) t9 [11] := hT1.trans (by first | rfl | (rw [gT0]; done) | (rw [gT0]; rfl))
  show jb_J _ RX12 cX12_hears 4 (Option.some .int) false 3 0 0 42 [some (.ref 105), some (.int 0), some (.int x), none] [] [s0, s1, s2, s3, s4, s5, s6, s7, s8, s9, jb_mdl I1 J d e kp nm W1, s11] _
  refine jb_aload_n (pc' := 43) dX12_hears_42 rfl rfl ?_
  refine jb_aload_n (pc' := 44) dX12_hears_43 rfl rfl ?_
  refine jb_callV (pc' := 47) (ci := 12) (q := 105) (As := []) (a2 := 0) (b2 := 0) wv_X12_271 rfl dX12_hears_44 (c_own I1 J d e kp nm W1 hd hk p hp ((gI1 4 (by decide)).trans h4)) rfl rfl ⟨by decide, Nat.le_of_eq (Nat.zero_add _), Nat.le_of_eq (Nat.zero_add _)⟩ (Nat.le_of_ble_eq_true rfl) rfl (fun r h9 hq => ?_)
  obtain ⟨rfl, rfl⟩ := hq
  rw [hkd]
  show jb_J _ RX12 cX12_hears 4 (Option.some .int) false 3 0 0 47 [some (.ref 105), some (.int 0), some (.int x), none] [.int 1, .ref 105] [s0, s1, s2, s3, s4, s5, s6, s7, s8, s9, jb_mdl I1 J d e kp nm W1, s11] _
  refine jb_iload_n (pc' := 48) dX12_hears_47 rfl rfl ?_
  refine jb_callV (pc' := 51) (ci := 12) (q := 105) (As := [.int 1, .int x]) (a2 := 0) (b2 := 0) wv_X12_268 rfl dX12_hears_48 (cm_calls_1_1 I1 J d e kp nm W1 hd hk p hp hkd ((gI1 4 (by decide)).trans h4) (t9 + 1) h31 (by omega) x) rfl rfl ⟨by decide, Nat.le_of_eq (Nat.zero_add _), Nat.le_of_eq (Nat.zero_add _)⟩ (Nat.le_of_ble_eq_true rfl) rfl (fun r h9 hq => ?_)
  obtain ⟨rfl, I2, W2, hI2, h32, hW2, hT2, rfl⟩ := hq
  have gI2 : ∀ j, ¬ j = 3 → I2 j = I j := fun j hj => (hI2 j hj).trans (gI1 j hj)
  have gW2 : ∀ r, ¬ r = 10 → W2 r = W r := fun r hr => (hW2 r hr).trans (gW1 r hr)
  have gT2 : W2 10 = jp_wr (W 10) t9 [11, 10] := hT2.trans (by first | rfl | (rw [gT1]; done) | (rw [gT1]; rfl))
  show jb_J _ RX12 cX12_hears 4 (Option.some .int) false 3 0 0 51 [some (.ref 105), some (.int 0), some (.int x), none] [.int ((x) + (nI p))] [s0, s1, s2, s3, s4, s5, s6, s7, s8, s9, jb_mdl I2 J d e kp nm W2, s11] _
  refine jb_iconst (pc' := 52) 2 dX12_hears_51 (by decide) rfl ?_
  refine jb_imul (pc' := 53) dX12_hears_52 rfl ?_
  refine jb_iret dX12_hears_53 rfl ?_
  exact ⟨rfl, I2, W2, gI2, h32, gW2, gT2, rfl⟩
set_option maxRecDepth 100000 in
set_option maxHeartbeats 4000000 in
theorem cm_hears_1_1 {sc : Nat × (Nat → Int32)} {s0 s1 s2 s3 s4 s5 s6 s7 s8 s9 s11 : List va_E} {V : Nat → Nat → Nat} (I J d e kp nm : Nat → Int32) (W : Nat → Nat → Int32) (hd : jd_ V d) (hk : jv_ok V) (p : Nat) (hp : p < V 0 1) (hkd : V 1 p = 1) (h4 : I 4 = nI p) (t9 : Nat) (h3 : I 3 = nI t9) (ht : t9 + 4 ≤ 40) (x : Int32) : jb_C sc yX12_hears cX12_hears 4 (Option.some .int) 4 0 0 [.ref 105, .int 1, .int x] [s0, s1, s2, s3, s4, s5, s6, s7, s8, s9, jb_mdl I J d e kp nm W, s11] (fun r h9 => r = some (.int ((((x) + (nI p)) * 2) - ((1) - (nI (V 2 p))))) ∧ ∃ I9 W9, (∀ j, ¬ j = 3 → I9 j = I j) ∧ I9 3 = nI (t9 + 4) ∧ (∀ r, ¬ r = 10 → W9 r = W r) ∧ W9 10 = jp_wr (W 10) t9 [20, 11, 10, 12] ∧ h9 = [s0, s1, s2, s3, s4, s5, s6, s7, s8, s9, jb_mdl I9 J d e kp nm W9, s11]) := by
  refine jb_CofJ (ini := false) (by decide +kernel) (fun h => by cases h) (Nat.le_of_ble_eq_true rfl) ?_
  show jb_J sc RX12 cX12_hears 4 (Option.some .int) false 4 0 0 0 [some (.ref 105), some (.int 1), some (.int x), none] [] [s0, s1, s2, s3, s4, s5, s6, s7, s8, s9, jb_mdl I J d e kp nm W, s11] _
  have gI0 : ∀ j, ¬ j = 3 → I j = I j := fun _ _ => rfl
  have gW0 : ∀ r, ¬ r = 10 → W r = W r := fun _ _ => rfl
  have gT0 : W 10 = jp_wr (W 10) t9 [] := rfl
  refine jb_iload_n (pc' := 1) dX12_hears_0 rfl rfl ?_
  refine jb_tableIn (pc' := 54) (off := 53) dX12_hears_1 (by decide) (by decide) (by decide +kernel) (by decide) ?_
  refine jb_aload_n (pc' := 55) dX12_hears_54 rfl rfl ?_
  refine jb_bipush (pc' := 57) 20 dX12_hears_55 (by decide) rfl ?_
  refine jb_callV (pc' := 60) (ci := 12) (q := 105) (As := [.int 20]) (a2 := 0) (b2 := 0) wv_X12_265 rfl dX12_hears_57 (c_ran I J d e kp nm W t9 h3 (by omega) 20) rfl rfl ⟨by decide, Nat.le_of_eq (Nat.zero_add _), Nat.le_of_eq (Nat.zero_add _)⟩ (Nat.le_of_ble_eq_true rfl) rfl (fun r h9 hq => ?_)
  obtain ⟨rfl, I1, W1, hI1, h31, hW1, hT1, rfl⟩ := hq
  have gI1 : ∀ j, ¬ j = 3 → I1 j = I j := fun j hj => (hI1 j hj).trans (gI0 j hj)
  have gW1 : ∀ r, ¬ r = 10 → W1 r = W r := fun r hr => (hW1 r hr).trans (gW0 r hr)
  have gT1 : W1 10 = jp_wr (W 10) t9 [20] := hT1.trans (by first | rfl | (rw [gT0]; done) | (rw [gT0]; rfl))
  show jb_J _ RX12 cX12_hears 4 (Option.some .int) false 4 0 0 60 [some (.ref 105), some (.int 1), some (.int x), none] [] [s0, s1, s2, s3, s4, s5, s6, s7, s8, s9, jb_mdl I1 J d e kp nm W1, s11] _
  refine jb_aload_n (pc' := 61) dX12_hears_60 rfl rfl ?_
  refine jb_iconst (pc' := 62) 1 dX12_hears_61 (by decide) rfl ?_
  refine jb_callS (pc' := 65) (As := [.int 1]) (a2 := 0) (b2 := 0) wv_X12_168 dX12_hears_62 (c_above 1 (by decide)) rfl ⟨by decide, Nat.le_of_eq (Nat.zero_add _), Nat.le_of_eq (Nat.zero_add _)⟩ (Nat.le_of_ble_eq_true rfl) rfl (fun r h9 hq => ?_)
  obtain ⟨rfl, rfl⟩ := hq
  show jb_J _ RX12 cX12_hears 4 (Option.some .int) false 4 0 0 65 [some (.ref 105), some (.int 1), some (.int x), none] [.int 0, .ref 105] [s0, s1, s2, s3, s4, s5, s6, s7, s8, s9, jb_mdl I1 J d e kp nm W1, s11] _
  refine jb_iload_n (pc' := 66) dX12_hears_65 rfl rfl ?_
  refine jb_callV (pc' := 69) (ci := 12) (q := 105) (As := [.int 0, .int x]) (a2 := 0) (b2 := 0) wv_X12_274 rfl dX12_hears_66 (cm_hears_0_1 I1 J d e kp nm W1 hd hk p hp hkd ((gI1 4 (by decide)).trans h4) (t9 + 1) h31 (by omega) x) rfl rfl ⟨by decide, Nat.le_of_eq (Nat.zero_add _), Nat.le_of_eq (Nat.zero_add _)⟩ (Nat.le_of_ble_eq_true rfl) rfl (fun r h9 hq => ?_)
  obtain ⟨rfl, I2, W2, hI2, h32, hW2, hT2, rfl⟩ := hq
  have gI2 : ∀ j, ¬ j = 3 → I2 j = I j := fun j hj => (hI2 j hj).trans (gI1 j hj)
  have gW2 : ∀ r, ¬ r = 10 → W2 r = W r := fun r hr => (hW2 r hr).trans (gW1 r hr)
  have gT2 : W2 10 = jp_wr (W 10) t9 [20, 11, 10] := hT2.trans (by first | rfl | (rw [gT1]; done) | (rw [gT1]; rfl))
  show jb_J _ RX12 cX12_hears 4 (Option.some .int) false 4 0 0 69 [some (.ref 105), some (.int 1), some (.int x), none] [.int (((x) + (nI p)) * 2)] [s0, s1, s2, s3, s4, s5, s6, s7, s8, s9, jb_mdl I2 J d e kp nm W2, s11] _
  refine jb_istore_n_ (pc' := 70) dX12_hears_69 (by decide) (jb_at3 rfl) rfl ?_
  refine jb_iload_n (pc' := 71) dX12_hears_70 rfl rfl ?_
  refine jb_aload_n (pc' := 72) dX12_hears_71 rfl rfl ?_
  refine jb_aload_n (pc' := 73) dX12_hears_72 rfl rfl ?_
  refine jb_callV (pc' := 76) (ci := 12) (q := 105) (As := []) (a2 := 0) (b2 := 0) wv_X12_271 rfl dX12_hears_73 (c_own I2 J d e kp nm W2 hd hk p hp ((gI2 4 (by decide)).trans h4)) rfl rfl ⟨by decide, Nat.le_of_eq (Nat.zero_add _), Nat.le_of_eq (Nat.zero_add _)⟩ (Nat.le_of_ble_eq_true rfl) rfl (fun r h9 hq => ?_)
  obtain ⟨rfl, rfl⟩ := hq
  rw [hkd]
  show jb_J _ RX12 cX12_hears 4 (Option.some .int) false 4 0 0 76 [some (.ref 105), some (.int 1), some (.int x), some (.int (((x) + (nI p)) * 2))] [.int 1, .ref 105, .int (((x) + (nI p)) * 2)] [s0, s1, s2, s3, s4, s5, s6, s7, s8, s9, jb_mdl I2 J d e kp nm W2, s11] _
  refine jb_iconst (pc' := 77) 1 dX12_hears_76 (by decide) rfl ?_
  refine jb_callV (pc' := 80) (ci := 12) (q := 105) (As := [.int 1, .int 1]) (a2 := 0) (b2 := 0) wv_X12_277 rfl dX12_hears_77 (cm_waits_1_1 I2 J d e kp nm W2 hd hk p hp hkd ((gI2 4 (by decide)).trans h4) ((t9 + 1) + 2) h32 (by omega) 1) rfl rfl ⟨by decide, Nat.le_of_eq (Nat.zero_add _), Nat.le_of_eq (Nat.zero_add _)⟩ (Nat.le_of_ble_eq_true rfl) rfl (fun r h9 hq => ?_)
  obtain ⟨rfl, I3, W3, hI3, h33, hW3, hT3, rfl⟩ := hq
  have gI3 : ∀ j, ¬ j = 3 → I3 j = I j := fun j hj => (hI3 j hj).trans (gI2 j hj)
  have gW3 : ∀ r, ¬ r = 10 → W3 r = W r := fun r hr => (hW3 r hr).trans (gW2 r hr)
  have gT3 : W3 10 = jp_wr (W 10) t9 [20, 11, 10, 12] := hT3.trans (by first | rfl | (rw [gT2]; done) | (rw [gT2]; rfl))
  show jb_J _ RX12 cX12_hears 4 (Option.some .int) false 4 0 0 80 [some (.ref 105), some (.int 1), some (.int x), some (.int (((x) + (nI p)) * 2))] [.int ((1) - (nI (V 2 p))), .int (((x) + (nI p)) * 2)] [s0, s1, s2, s3, s4, s5, s6, s7, s8, s9, jb_mdl I3 J d e kp nm W3, s11] _
  refine jb_isub (pc' := 81) dX12_hears_80 rfl ?_
  refine jb_iret dX12_hears_81 rfl ?_
  exact ⟨rfl, I3, W3, gI3, h33, gW3, gT3, rfl⟩
set_option maxRecDepth 100000 in
set_option maxHeartbeats 4000000 in
theorem cm_tells_0_1 {sc : Nat × (Nat → Int32)} {s0 s1 s2 s3 s4 s5 s6 s7 s8 s9 s11 : List va_E} {V : Nat → Nat → Nat} (I J d e kp nm : Nat → Int32) (W : Nat → Nat → Int32) (hd : jd_ V d) (hk : jv_ok V) (p : Nat) (hp : p < V 0 1) (hkd : V 1 p = 1) (h4 : I 4 = nI p) (t9 : Nat) (h3 : I 3 = nI t9) (ht : t9 + 6 ≤ 40) (x : Int32) : jb_C sc yX12_tells cX12_tells 4 (Option.some .int) 5 0 0 [.ref 105, .int 0, .int x] [s0, s1, s2, s3, s4, s5, s6, s7, s8, s9, jb_mdl I J d e kp nm W, s11] (fun r h9 => r = some (.int (((((x) + (nI p)) * 2) - ((1) - (nI (V 2 p)))) ^^^ ((x) - (nI (V 2 p))))) ∧ ∃ I9 W9, (∀ j, ¬ j = 3 → I9 j = I j) ∧ I9 3 = nI (t9 + 6) ∧ (∀ r, ¬ r = 10 → W9 r = W r) ∧ W9 10 = jp_wr (W 10) t9 [13, 20, 11, 10, 12, 12] ∧ h9 = [s0, s1, s2, s3, s4, s5, s6, s7, s8, s9, jb_mdl I9 J d e kp nm W9, s11]) := by
  refine jb_CofJ (ini := false) (by decide +kernel) (fun h => by cases h) (Nat.le_of_ble_eq_true rfl) ?_
  show jb_J sc RX12 cX12_tells 4 (Option.some .int) false 5 0 0 0 [some (.ref 105), some (.int 0), some (.int x), none] [] [s0, s1, s2, s3, s4, s5, s6, s7, s8, s9, jb_mdl I J d e kp nm W, s11] _
  have gI0 : ∀ j, ¬ j = 3 → I j = I j := fun _ _ => rfl
  have gW0 : ∀ r, ¬ r = 10 → W r = W r := fun _ _ => rfl
  have gT0 : W 10 = jp_wr (W 10) t9 [] := rfl
  refine jb_iload_n (pc' := 1) dX12_tells_0 rfl rfl ?_
  refine jb_lookup (pc' := 36) (off := 35) dX12_tells_1 (by decide +kernel) (by decide +kernel) (by decide) ?_
  refine jb_aload_n (pc' := 37) dX12_tells_36 rfl rfl ?_
  refine jb_bipush (pc' := 39) 13 dX12_tells_37 (by decide) rfl ?_
  refine jb_callV (pc' := 42) (ci := 12) (q := 105) (As := [.int 13]) (a2 := 0) (b2 := 0) wv_X12_265 rfl dX12_tells_39 (c_ran I J d e kp nm W t9 h3 (by omega) 13) rfl rfl ⟨by decide, Nat.le_of_eq (Nat.zero_add _), Nat.le_of_eq (Nat.zero_add _)⟩ (Nat.le_of_ble_eq_true rfl) rfl (fun r h9 hq => ?_)
  obtain ⟨rfl, I1, W1, hI1, h31, hW1, hT1, rfl⟩ := hq
  have gI1 : ∀ j, ¬ j = 3 → I1 j = I j := fun j hj => (hI1 j hj).trans (gI0 j hj)
  have gW1 : ∀ r, ¬ r = 10 → W1 r = W r := fun r hr => (hW1 r hr).trans (gW0 r hr)
  have gT1 : W1 10 = jp_wr (W 10) t9 [13] := hT1.trans (by first | rfl | (rw [gT0]; done) | (rw [gT0]; rfl))
  show jb_J _ RX12 cX12_tells 4 (Option.some .int) false 5 0 0 42 [some (.ref 105), some (.int 0), some (.int x), none] [] [s0, s1, s2, s3, s4, s5, s6, s7, s8, s9, jb_mdl I1 J d e kp nm W1, s11] _
  refine jb_aload_n (pc' := 43) dX12_tells_42 rfl rfl ?_
  refine jb_aload_n (pc' := 44) dX12_tells_43 rfl rfl ?_
  refine jb_callV (pc' := 47) (ci := 12) (q := 105) (As := []) (a2 := 0) (b2 := 0) wv_X12_271 rfl dX12_tells_44 (c_own I1 J d e kp nm W1 hd hk p hp ((gI1 4 (by decide)).trans h4)) rfl rfl ⟨by decide, Nat.le_of_eq (Nat.zero_add _), Nat.le_of_eq (Nat.zero_add _)⟩ (Nat.le_of_ble_eq_true rfl) rfl (fun r h9 hq => ?_)
  obtain ⟨rfl, rfl⟩ := hq
  rw [hkd]
  show jb_J _ RX12 cX12_tells 4 (Option.some .int) false 5 0 0 47 [some (.ref 105), some (.int 0), some (.int x), none] [.int 1, .ref 105] [s0, s1, s2, s3, s4, s5, s6, s7, s8, s9, jb_mdl I1 J d e kp nm W1, s11] _
  refine jb_iload_n (pc' := 48) dX12_tells_47 rfl rfl ?_
  refine jb_callV (pc' := 51) (ci := 12) (q := 105) (As := [.int 1, .int x]) (a2 := 0) (b2 := 0) wv_X12_274 rfl dX12_tells_48 (cm_hears_1_1 I1 J d e kp nm W1 hd hk p hp hkd ((gI1 4 (by decide)).trans h4) (t9 + 1) h31 (by omega) x) rfl rfl ⟨by decide, Nat.le_of_eq (Nat.zero_add _), Nat.le_of_eq (Nat.zero_add _)⟩ (Nat.le_of_ble_eq_true rfl) rfl (fun r h9 hq => ?_)
  obtain ⟨rfl, I2, W2, hI2, h32, hW2, hT2, rfl⟩ := hq
  have gI2 : ∀ j, ¬ j = 3 → I2 j = I j := fun j hj => (hI2 j hj).trans (gI1 j hj)
  have gW2 : ∀ r, ¬ r = 10 → W2 r = W r := fun r hr => (hW2 r hr).trans (gW1 r hr)
  have gT2 : W2 10 = jp_wr (W 10) t9 [13, 20, 11, 10, 12] := hT2.trans (by first | rfl | (rw [gT1]; done) | (rw [gT1]; rfl))
  show jb_J _ RX12 cX12_tells 4 (Option.some .int) false 5 0 0 51 [some (.ref 105), some (.int 0), some (.int x), none] [.int ((((x) + (nI p)) * 2) - ((1) - (nI (V 2 p))))] [s0, s1, s2, s3, s4, s5, s6, s7, s8, s9, jb_mdl I2 J d e kp nm W2, s11] _
  refine jb_istore_n_ (pc' := 52) dX12_tells_51 (by decide) (jb_at3 rfl) rfl ?_
  refine jb_iload_n (pc' := 53) dX12_tells_52 rfl rfl ?_
  refine jb_aload_n (pc' := 54) dX12_tells_53 rfl rfl ?_
  refine jb_aload_n (pc' := 55) dX12_tells_54 rfl rfl ?_
  refine jb_callV (pc' := 58) (ci := 12) (q := 105) (As := []) (a2 := 0) (b2 := 0) wv_X12_271 rfl dX12_tells_55 (c_own I2 J d e kp nm W2 hd hk p hp ((gI2 4 (by decide)).trans h4)) rfl rfl ⟨by decide, Nat.le_of_eq (Nat.zero_add _), Nat.le_of_eq (Nat.zero_add _)⟩ (Nat.le_of_ble_eq_true rfl) rfl (fun r h9 hq => ?_)
  obtain ⟨rfl, rfl⟩ := hq
  rw [hkd]
  show jb_J _ RX12 cX12_tells 4 (Option.some .int) false 5 0 0 58 [some (.ref 105), some (.int 0), some (.int x), some (.int ((((x) + (nI p)) * 2) - ((1) - (nI (V 2 p)))))] [.int 1, .ref 105, .int ((((x) + (nI p)) * 2) - ((1) - (nI (V 2 p))))] [s0, s1, s2, s3, s4, s5, s6, s7, s8, s9, jb_mdl I2 J d e kp nm W2, s11] _
  refine jb_iload_n (pc' := 59) dX12_tells_58 rfl rfl ?_
  refine jb_callV (pc' := 62) (ci := 12) (q := 105) (As := [.int 1, .int x]) (a2 := 0) (b2 := 0) wv_X12_277 rfl dX12_tells_59 (cm_waits_1_1 I2 J d e kp nm W2 hd hk p hp hkd ((gI2 4 (by decide)).trans h4) ((t9 + 1) + 4) h32 (by omega) x) rfl rfl ⟨by decide, Nat.le_of_eq (Nat.zero_add _), Nat.le_of_eq (Nat.zero_add _)⟩ (Nat.le_of_ble_eq_true rfl) rfl (fun r h9 hq => ?_)
  obtain ⟨rfl, I3, W3, hI3, h33, hW3, hT3, rfl⟩ := hq
  have gI3 : ∀ j, ¬ j = 3 → I3 j = I j := fun j hj => (hI3 j hj).trans (gI2 j hj)
  have gW3 : ∀ r, ¬ r = 10 → W3 r = W r := fun r hr => (hW3 r hr).trans (gW2 r hr)
  have gT3 : W3 10 = jp_wr (W 10) t9 [13, 20, 11, 10, 12, 12] := hT3.trans (by first | rfl | (rw [gT2]; done) | (rw [gT2]; rfl))
  show jb_J _ RX12 cX12_tells 4 (Option.some .int) false 5 0 0 62 [some (.ref 105), some (.int 0), some (.int x), some (.int ((((x) + (nI p)) * 2) - ((1) - (nI (V 2 p)))))] [.int ((x) - (nI (V 2 p))), .int ((((x) + (nI p)) * 2) - ((1) - (nI (V 2 p))))] [s0, s1, s2, s3, s4, s5, s6, s7, s8, s9, jb_mdl I3 J d e kp nm W3, s11] _
  refine jb_ixor (pc' := 63) dX12_tells_62 rfl ?_
  refine jb_iret dX12_tells_63 rfl ?_
  exact ⟨rfl, I3, W3, gI3, h33, gW3, gT3, rfl⟩
set_option maxRecDepth 100000 in
set_option maxHeartbeats 4000000 in
theorem cm_tells_1_1 {sc : Nat × (Nat → Int32)} {s0 s1 s2 s3 s4 s5 s6 s7 s8 s9 s11 : List va_E} {V : Nat → Nat → Nat} (I J d e kp nm : Nat → Int32) (W : Nat → Nat → Int32) (hd : jd_ V d) (hk : jv_ok V) (p : Nat) (hp : p < V 0 1) (hkd : V 1 p = 1) (h4 : I 4 = nI p) (t9 : Nat) (h3 : I 3 = nI t9) (ht : t9 + 6 ≤ 40) (x : Int32) : jb_C sc yX12_tells cX12_tells 4 (Option.some .int) 6 0 0 [.ref 105, .int 1, .int x] [s0, s1, s2, s3, s4, s5, s6, s7, s8, s9, jb_mdl I J d e kp nm W, s11] (fun r h9 => r = some (.int (((((x) + (nI p)) * 2) - ((1) - (nI (V 2 p)))) ^^^ ((x) - (nI (V 2 p))))) ∧ ∃ I9 W9, (∀ j, ¬ j = 3 → I9 j = I j) ∧ I9 3 = nI (t9 + 6) ∧ (∀ r, ¬ r = 10 → W9 r = W r) ∧ W9 10 = jp_wr (W 10) t9 [13, 20, 11, 10, 12, 12] ∧ h9 = [s0, s1, s2, s3, s4, s5, s6, s7, s8, s9, jb_mdl I9 J d e kp nm W9, s11]) := by
  refine jb_CofJ (ini := false) (by decide +kernel) (fun h => by cases h) (Nat.le_of_ble_eq_true rfl) ?_
  show jb_J sc RX12 cX12_tells 4 (Option.some .int) false 6 0 0 0 [some (.ref 105), some (.int 1), some (.int x), none] [] [s0, s1, s2, s3, s4, s5, s6, s7, s8, s9, jb_mdl I J d e kp nm W, s11] _
  have gI0 : ∀ j, ¬ j = 3 → I j = I j := fun _ _ => rfl
  have gW0 : ∀ r, ¬ r = 10 → W r = W r := fun _ _ => rfl
  have gT0 : W 10 = jp_wr (W 10) t9 [] := rfl
  refine jb_iload_n (pc' := 1) dX12_tells_0 rfl rfl ?_
  refine jb_lookup (pc' := 121) (off := 120) dX12_tells_1 (by decide +kernel) (by decide +kernel) (by decide) ?_
  refine jb_aload_n (pc' := 122) dX12_tells_121 rfl rfl ?_
  refine jb_iload_n (pc' := 123) dX12_tells_122 rfl rfl ?_
  refine jb_callS (pc' := 126) (As := [.int 1]) (a2 := 0) (b2 := 0) wv_X12_168 dX12_tells_123 (c_above 1 (by decide)) rfl ⟨by decide, Nat.le_of_eq (Nat.zero_add _), Nat.le_of_eq (Nat.zero_add _)⟩ (Nat.le_of_ble_eq_true rfl) rfl (fun r h9 hq => ?_)
  obtain ⟨rfl, rfl⟩ := hq
  show jb_J _ RX12 cX12_tells 4 (Option.some .int) false 6 0 0 126 [some (.ref 105), some (.int 1), some (.int x), none] [.int 0, .ref 105] [s0, s1, s2, s3, s4, s5, s6, s7, s8, s9, jb_mdl I J d e kp nm W, s11] _
  refine jb_iload_n (pc' := 127) dX12_tells_126 rfl rfl ?_
  refine jb_callV (pc' := 130) (ci := 12) (q := 105) (As := [.int 0, .int x]) (a2 := 0) (b2 := 0) wv_X12_280 rfl dX12_tells_127 (cm_tells_0_1 I J d e kp nm W hd hk p hp hkd ((gI0 4 (by decide)).trans h4) t9 h3 (by omega) x) rfl rfl ⟨by decide, Nat.le_of_eq (Nat.zero_add _), Nat.le_of_eq (Nat.zero_add _)⟩ (Nat.le_of_ble_eq_true rfl) rfl (fun r h9 hq => ?_)
  obtain ⟨rfl, I1, W1, hI1, h31, hW1, hT1, rfl⟩ := hq
  have gI1 : ∀ j, ¬ j = 3 → I1 j = I j := fun j hj => (hI1 j hj).trans (gI0 j hj)
  have gW1 : ∀ r, ¬ r = 10 → W1 r = W r := fun r hr => (hW1 r hr).trans (gW0 r hr)
  have gT1 : W1 10 = jp_wr (W 10) t9 [13, 20, 11, 10, 12, 12] := hT1.trans (by first | rfl | (rw [gT0]; done) | (rw [gT0]; rfl))
  show jb_J _ RX12 cX12_tells 4 (Option.some .int) false 6 0 0 130 [some (.ref 105), some (.int 1), some (.int x), none] [.int (((((x) + (nI p)) * 2) - ((1) - (nI (V 2 p)))) ^^^ ((x) - (nI (V 2 p))))] [s0, s1, s2, s3, s4, s5, s6, s7, s8, s9, jb_mdl I1 J d e kp nm W1, s11] _
  refine jb_iret dX12_tells_130 rfl ?_
  exact ⟨rfl, I1, W1, gI1, h31, gW1, gT1, rfl⟩
set_option maxRecDepth 100000 in
set_option maxHeartbeats 4000000 in
theorem mx_voice0_1 {sc : Nat × (Nat → Int32)} {s0 s1 s2 s3 s4 s5 s6 s7 s8 s9 s11 : List va_E} {V : Nat → Nat → Nat} (I J d e kp nm : Nat → Int32) (W : Nat → Nat → Int32) (hd : jd_ V d) (hk : jv_ok V) (p : Nat) (hp : p < V 0 1) (hkd : V 1 p = 1) (x : Int32) : jb_C sc yX12_voice cX12_voice 5 (Option.some .int) 3 0 0 [.ref 105, .int (nI p), .int 0, .int x] [s0, s1, s2, s3, s4, s5, s6, s7, s8, s9, jb_mdl I J d e kp nm W, s11] (fun r h9 => r = some (.int ((x) + (nI p))) ∧ ∃ I9 W9, I9 0 = I 0 ∧ I9 3 = nI 1 ∧ (∀ r, ¬ r = 10 → W9 r = W r) ∧ W9 10 = jp_wr (W 10) 0 [10] ∧ h9 = [s0, s1, s2, s3, s4, s5, s6, s7, s8, s9, jb_mdl I9 J d e kp nm W9, s11]) := by
  refine jb_CofJ (ini := false) (by decide +kernel) (fun h => by cases h) (Nat.le_of_ble_eq_true rfl) ?_
  show jb_J sc RX12 cX12_voice 5 (Option.some .int) false 3 0 0 0 [some (.ref 105), some (.int (nI p)), some (.int 0), some (.int x), none] [] [s0, s1, s2, s3, s4, s5, s6, s7, s8, s9, jb_mdl I J d e kp nm W, s11] _
  have hd0 := hd
  have hk0 := hk
  obtain ⟨e0, e1, e2, e3, e4, e5, e6, dv, ds, dd⟩ := hd
  obtain ⟨k0, k1, k2, k3, k4, k5, k6, k7, kv, ks, kd⟩ := hk
  have q0 := kv p hp
  refine jb_aload_n (pc' := 1) dX12_voice_0 rfl rfl ?_
  refine jb_iload_n (pc' := 2) dX12_voice_1 rfl rfl ?_
  refine jb_callV (pc' := 5) (ci := 12) (q := 105) (As := [.int (nI p)]) (a2 := 0) (b2 := 0) wv_X12_149 rfl dX12_voice_2 (c_isVoiceG I J d e kp nm W hd0 hk0 p (by omega)) rfl rfl ⟨by decide, Nat.le_of_eq (Nat.zero_add _), Nat.le_of_eq (Nat.zero_add _)⟩ (Nat.le_of_ble_eq_true rfl) rfl (fun r h9 hq => ?_)
  obtain ⟨rfl, rfl⟩ := hq
  show jb_J _ RX12 cX12_voice 5 (Option.some .int) false 3 0 0 5 [some (.ref 105), some (.int (nI p)), some (.int 0), some (.int x), none] [.int 1] [s0, s1, s2, s3, s4, s5, s6, s7, s8, s9, jb_mdl I J d e kp nm W, s11] _
  refine jb_if_eq (tgt := 20) (pc' := 8) dX12_voice_5 (by decide) rfl (fun z => absurd z (by decide)) (fun _ => ?_)
  refine jb_iload_n (pc' := 9) dX12_voice_8 rfl rfl ?_
  refine jb_i2l (pc' := 10) dX12_voice_9 rfl ?_
  refine jb_lconst (pc' := 11) 0 dX12_voice_10 (by decide) rfl ?_
  refine jb_ldc2 (pc' := 14) 3 dX12_voice_11 wk_X12_152 rfl ?_
  refine jb_callS (pc' := 17) (As := [.long ((0 : Int32).toInt64), .long 0, .long 3]) (a2 := 0) (b2 := 0) wv_X12_56 dX12_voice_14 (c_inLG _ 0 0 3 (by omega) (by omega) (by omega)) rfl ⟨by decide, Nat.le_of_eq (Nat.zero_add _), Nat.le_of_eq (Nat.zero_add _)⟩ (Nat.le_of_ble_eq_true rfl) rfl (fun r h9 hq => ?_)
  obtain ⟨rfl, rfl⟩ := hq
  show jb_J _ RX12 cX12_voice 5 (Option.some .int) false 3 0 0 17 [some (.ref 105), some (.int (nI p)), some (.int 0), some (.int x), none] [.int 1] [s0, s1, s2, s3, s4, s5, s6, s7, s8, s9, jb_mdl I J d e kp nm W, s11] _
  refine jb_if_ne (tgt := 26) (pc' := 20) dX12_voice_17 (by decide) rfl (fun _ => ?_) (fun z => absurd z (by decide))
  refine jb_aload_n (pc' := 27) dX12_voice_26 rfl rfl ?_
  refine jb_iconst (pc' := 28) 0 dX12_voice_27 (by decide) rfl ?_
  refine pf_X12_259 (pc' := 31) (h' := [s0, s1, s2, s3, s4, s5, s6, s7, s8, s9, jb_mdl (upd I 3 0) J d e kp nm W, s11]) dX12_voice_28 (fun _ => ⟨rfl, rfl⟩) rfl (Nat.le_of_ble_eq_true rfl) rfl rfl ?_
  refine jb_aload_n (pc' := 32) dX12_voice_31 rfl rfl ?_
  refine jb_iload_n (pc' := 33) dX12_voice_32 rfl rfl ?_
  refine pf_X12_262 (pc' := 36) (h' := [s0, s1, s2, s3, s4, s5, s6, s7, s8, s9, jb_mdl (upd (upd I 3 0) 4 (nI p)) J d e kp nm W, s11]) dX12_voice_33 (fun _ => ⟨rfl, rfl⟩) rfl (Nat.le_of_ble_eq_true rfl) rfl rfl ?_
  refine jb_aload_n (pc' := 37) dX12_voice_36 rfl rfl ?_
  refine jb_callV (pc' := 40) (ci := 12) (q := 105) (As := []) (a2 := 0) (b2 := 0) wv_X12_271 rfl dX12_voice_37 (c_own (upd (upd I 3 0) 4 (nI p)) J d e kp nm W hd0 hk0 p hp rfl) rfl rfl ⟨by decide, Nat.le_of_eq (Nat.zero_add _), Nat.le_of_eq (Nat.zero_add _)⟩ (Nat.le_of_ble_eq_true rfl) rfl (fun r h9 hq => ?_)
  obtain ⟨rfl, rfl⟩ := hq
  rw [hkd]
  show jb_J _ RX12 cX12_voice 5 (Option.some .int) false 3 0 0 40 [some (.ref 105), some (.int (nI p)), some (.int 0), some (.int x), none] [.int 1] [s0, s1, s2, s3, s4, s5, s6, s7, s8, s9, jb_mdl (upd (upd I 3 0) 4 (nI p)) J d e kp nm W, s11] _
  refine jb_istore_ (pc' := 42) dX12_voice_40 (by decide) (jb_at4 rfl) rfl ?_
  refine jb_iload_n (pc' := 43) dX12_voice_42 rfl rfl ?_
  refine jb_if_ne (tgt := 56) (pc' := 46) dX12_voice_43 (by decide) rfl (fun z => absurd (by decide) z) (fun _ => ?_)
  refine jb_aload_n (pc' := 47) dX12_voice_46 rfl rfl ?_
  refine jb_iload (pc' := 49) dX12_voice_47 rfl rfl ?_
  refine jb_iload_n (pc' := 50) dX12_voice_49 rfl rfl ?_
  refine jb_callV (pc' := 53) (ci := 12) (q := 105) (As := [.int 1, .int x]) (a2 := 0) (b2 := 0) wv_X12_268 rfl dX12_voice_50 (cm_calls_1_1 (upd (upd I 3 0) 4 (nI p)) J d e kp nm W hd0 hk0 p hp hkd rfl 0 rfl (by omega) x) rfl rfl ⟨by decide, Nat.le_of_eq (Nat.zero_add _), Nat.le_of_eq (Nat.zero_add _)⟩ (Nat.le_of_ble_eq_true rfl) rfl (fun r h9 hq => ?_)
  obtain ⟨rfl, I9, W9, hI9, h39, hW9, hT9, rfl⟩ := hq
  show jb_J _ RX12 cX12_voice 5 (Option.some .int) false 3 0 0 53 [some (.ref 105), some (.int (nI p)), some (.int 0), some (.int x), some (.int 1)] [.int ((x) + (nI p))] [s0, s1, s2, s3, s4, s5, s6, s7, s8, s9, jb_mdl I9 J d e kp nm W9, s11] _
  refine jb_goto (pc' := 93) dX12_voice_53 (by decide) ?_
  refine jb_iret dX12_voice_93 rfl ?_
  exact ⟨rfl, I9, W9, hI9 0 (by decide), by rw [h39], hW9, hT9, rfl⟩
set_option maxRecDepth 100000 in
set_option maxHeartbeats 4000000 in
theorem mx_voice1_1 {sc : Nat × (Nat → Int32)} {s0 s1 s2 s3 s4 s5 s6 s7 s8 s9 s11 : List va_E} {V : Nat → Nat → Nat} (I J d e kp nm : Nat → Int32) (W : Nat → Nat → Int32) (hd : jd_ V d) (hk : jv_ok V) (p : Nat) (hp : p < V 0 1) (hkd : V 1 p = 1) (x : Int32) : jb_C sc yX12_voice cX12_voice 5 (Option.some .int) 5 0 0 [.ref 105, .int (nI p), .int 1, .int x] [s0, s1, s2, s3, s4, s5, s6, s7, s8, s9, jb_mdl I J d e kp nm W, s11] (fun r h9 => r = some (.int ((((x) + (nI p)) * 2) - ((1) - (nI (V 2 p))))) ∧ ∃ I9 W9, I9 0 = I 0 ∧ I9 3 = nI 4 ∧ (∀ r, ¬ r = 10 → W9 r = W r) ∧ W9 10 = jp_wr (W 10) 0 [20, 11, 10, 12] ∧ h9 = [s0, s1, s2, s3, s4, s5, s6, s7, s8, s9, jb_mdl I9 J d e kp nm W9, s11]) := by
  refine jb_CofJ (ini := false) (by decide +kernel) (fun h => by cases h) (Nat.le_of_ble_eq_true rfl) ?_
  show jb_J sc RX12 cX12_voice 5 (Option.some .int) false 5 0 0 0 [some (.ref 105), some (.int (nI p)), some (.int 1), some (.int x), none] [] [s0, s1, s2, s3, s4, s5, s6, s7, s8, s9, jb_mdl I J d e kp nm W, s11] _
  have hd0 := hd
  have hk0 := hk
  obtain ⟨e0, e1, e2, e3, e4, e5, e6, dv, ds, dd⟩ := hd
  obtain ⟨k0, k1, k2, k3, k4, k5, k6, k7, kv, ks, kd⟩ := hk
  have q0 := kv p hp
  refine jb_aload_n (pc' := 1) dX12_voice_0 rfl rfl ?_
  refine jb_iload_n (pc' := 2) dX12_voice_1 rfl rfl ?_
  refine jb_callV (pc' := 5) (ci := 12) (q := 105) (As := [.int (nI p)]) (a2 := 0) (b2 := 0) wv_X12_149 rfl dX12_voice_2 (c_isVoiceG I J d e kp nm W hd0 hk0 p (by omega)) rfl rfl ⟨by decide, Nat.le_of_eq (Nat.zero_add _), Nat.le_of_eq (Nat.zero_add _)⟩ (Nat.le_of_ble_eq_true rfl) rfl (fun r h9 hq => ?_)
  obtain ⟨rfl, rfl⟩ := hq
  show jb_J _ RX12 cX12_voice 5 (Option.some .int) false 5 0 0 5 [some (.ref 105), some (.int (nI p)), some (.int 1), some (.int x), none] [.int 1] [s0, s1, s2, s3, s4, s5, s6, s7, s8, s9, jb_mdl I J d e kp nm W, s11] _
  refine jb_if_eq (tgt := 20) (pc' := 8) dX12_voice_5 (by decide) rfl (fun z => absurd z (by decide)) (fun _ => ?_)
  refine jb_iload_n (pc' := 9) dX12_voice_8 rfl rfl ?_
  refine jb_i2l (pc' := 10) dX12_voice_9 rfl ?_
  refine jb_lconst (pc' := 11) 0 dX12_voice_10 (by decide) rfl ?_
  refine jb_ldc2 (pc' := 14) 3 dX12_voice_11 wk_X12_152 rfl ?_
  refine jb_callS (pc' := 17) (As := [.long ((1 : Int32).toInt64), .long 0, .long 3]) (a2 := 0) (b2 := 0) wv_X12_56 dX12_voice_14 (c_inLG _ 1 0 3 (by omega) (by omega) (by omega)) rfl ⟨by decide, Nat.le_of_eq (Nat.zero_add _), Nat.le_of_eq (Nat.zero_add _)⟩ (Nat.le_of_ble_eq_true rfl) rfl (fun r h9 hq => ?_)
  obtain ⟨rfl, rfl⟩ := hq
  show jb_J _ RX12 cX12_voice 5 (Option.some .int) false 5 0 0 17 [some (.ref 105), some (.int (nI p)), some (.int 1), some (.int x), none] [.int 1] [s0, s1, s2, s3, s4, s5, s6, s7, s8, s9, jb_mdl I J d e kp nm W, s11] _
  refine jb_if_ne (tgt := 26) (pc' := 20) dX12_voice_17 (by decide) rfl (fun _ => ?_) (fun z => absurd z (by decide))
  refine jb_aload_n (pc' := 27) dX12_voice_26 rfl rfl ?_
  refine jb_iconst (pc' := 28) 0 dX12_voice_27 (by decide) rfl ?_
  refine pf_X12_259 (pc' := 31) (h' := [s0, s1, s2, s3, s4, s5, s6, s7, s8, s9, jb_mdl (upd I 3 0) J d e kp nm W, s11]) dX12_voice_28 (fun _ => ⟨rfl, rfl⟩) rfl (Nat.le_of_ble_eq_true rfl) rfl rfl ?_
  refine jb_aload_n (pc' := 32) dX12_voice_31 rfl rfl ?_
  refine jb_iload_n (pc' := 33) dX12_voice_32 rfl rfl ?_
  refine pf_X12_262 (pc' := 36) (h' := [s0, s1, s2, s3, s4, s5, s6, s7, s8, s9, jb_mdl (upd (upd I 3 0) 4 (nI p)) J d e kp nm W, s11]) dX12_voice_33 (fun _ => ⟨rfl, rfl⟩) rfl (Nat.le_of_ble_eq_true rfl) rfl rfl ?_
  refine jb_aload_n (pc' := 37) dX12_voice_36 rfl rfl ?_
  refine jb_callV (pc' := 40) (ci := 12) (q := 105) (As := []) (a2 := 0) (b2 := 0) wv_X12_271 rfl dX12_voice_37 (c_own (upd (upd I 3 0) 4 (nI p)) J d e kp nm W hd0 hk0 p hp rfl) rfl rfl ⟨by decide, Nat.le_of_eq (Nat.zero_add _), Nat.le_of_eq (Nat.zero_add _)⟩ (Nat.le_of_ble_eq_true rfl) rfl (fun r h9 hq => ?_)
  obtain ⟨rfl, rfl⟩ := hq
  rw [hkd]
  show jb_J _ RX12 cX12_voice 5 (Option.some .int) false 5 0 0 40 [some (.ref 105), some (.int (nI p)), some (.int 1), some (.int x), none] [.int 1] [s0, s1, s2, s3, s4, s5, s6, s7, s8, s9, jb_mdl (upd (upd I 3 0) 4 (nI p)) J d e kp nm W, s11] _
  refine jb_istore_ (pc' := 42) dX12_voice_40 (by decide) (jb_at4 rfl) rfl ?_
  refine jb_iload_n (pc' := 43) dX12_voice_42 rfl rfl ?_
  refine jb_if_ne (tgt := 56) (pc' := 46) dX12_voice_43 (by decide) rfl (fun _ => ?_) (fun z => absurd z (by decide))
  refine jb_iload_n (pc' := 57) dX12_voice_56 rfl rfl ?_
  refine jb_iconst (pc' := 58) 1 dX12_voice_57 (by decide) rfl ?_
  refine jb_icmp_ne (tgt := 71) (pc' := 61) dX12_voice_58 (by decide) rfl (fun z => absurd (by decide) z) (fun _ => ?_)
  refine jb_aload_n (pc' := 62) dX12_voice_61 rfl rfl ?_
  refine jb_iload (pc' := 64) dX12_voice_62 rfl rfl ?_
  refine jb_iload_n (pc' := 65) dX12_voice_64 rfl rfl ?_
  refine jb_callV (pc' := 68) (ci := 12) (q := 105) (As := [.int 1, .int x]) (a2 := 0) (b2 := 0) wv_X12_274 rfl dX12_voice_65 (cm_hears_1_1 (upd (upd I 3 0) 4 (nI p)) J d e kp nm W hd0 hk0 p hp hkd rfl 0 rfl (by omega) x) rfl rfl ⟨by decide, Nat.le_of_eq (Nat.zero_add _), Nat.le_of_eq (Nat.zero_add _)⟩ (Nat.le_of_ble_eq_true rfl) rfl (fun r h9 hq => ?_)
  obtain ⟨rfl, I9, W9, hI9, h39, hW9, hT9, rfl⟩ := hq
  show jb_J _ RX12 cX12_voice 5 (Option.some .int) false 5 0 0 68 [some (.ref 105), some (.int (nI p)), some (.int 1), some (.int x), some (.int 1)] [.int ((((x) + (nI p)) * 2) - ((1) - (nI (V 2 p))))] [s0, s1, s2, s3, s4, s5, s6, s7, s8, s9, jb_mdl I9 J d e kp nm W9, s11] _
  refine jb_goto (pc' := 93) dX12_voice_68 (by decide) ?_
  refine jb_iret dX12_voice_93 rfl ?_
  exact ⟨rfl, I9, W9, hI9 0 (by decide), by rw [h39], hW9, hT9, rfl⟩
set_option maxRecDepth 100000 in
set_option maxHeartbeats 4000000 in
theorem mx_voice2_1 {sc : Nat × (Nat → Int32)} {s0 s1 s2 s3 s4 s5 s6 s7 s8 s9 s11 : List va_E} {V : Nat → Nat → Nat} (I J d e kp nm : Nat → Int32) (W : Nat → Nat → Int32) (hd : jd_ V d) (hk : jv_ok V) (p : Nat) (hp : p < V 0 1) (hkd : V 1 p = 1) (x : Int32) : jb_C sc yX12_voice cX12_voice 5 (Option.some .int) 3 0 0 [.ref 105, .int (nI p), .int 2, .int x] [s0, s1, s2, s3, s4, s5, s6, s7, s8, s9, jb_mdl I J d e kp nm W, s11] (fun r h9 => r = some (.int ((x) - (nI (V 2 p)))) ∧ ∃ I9 W9, I9 0 = I 0 ∧ I9 3 = nI 1 ∧ (∀ r, ¬ r = 10 → W9 r = W r) ∧ W9 10 = jp_wr (W 10) 0 [12] ∧ h9 = [s0, s1, s2, s3, s4, s5, s6, s7, s8, s9, jb_mdl I9 J d e kp nm W9, s11]) := by
  refine jb_CofJ (ini := false) (by decide +kernel) (fun h => by cases h) (Nat.le_of_ble_eq_true rfl) ?_
  show jb_J sc RX12 cX12_voice 5 (Option.some .int) false 3 0 0 0 [some (.ref 105), some (.int (nI p)), some (.int 2), some (.int x), none] [] [s0, s1, s2, s3, s4, s5, s6, s7, s8, s9, jb_mdl I J d e kp nm W, s11] _
  have hd0 := hd
  have hk0 := hk
  obtain ⟨e0, e1, e2, e3, e4, e5, e6, dv, ds, dd⟩ := hd
  obtain ⟨k0, k1, k2, k3, k4, k5, k6, k7, kv, ks, kd⟩ := hk
  have q0 := kv p hp
  refine jb_aload_n (pc' := 1) dX12_voice_0 rfl rfl ?_
  refine jb_iload_n (pc' := 2) dX12_voice_1 rfl rfl ?_
  refine jb_callV (pc' := 5) (ci := 12) (q := 105) (As := [.int (nI p)]) (a2 := 0) (b2 := 0) wv_X12_149 rfl dX12_voice_2 (c_isVoiceG I J d e kp nm W hd0 hk0 p (by omega)) rfl rfl ⟨by decide, Nat.le_of_eq (Nat.zero_add _), Nat.le_of_eq (Nat.zero_add _)⟩ (Nat.le_of_ble_eq_true rfl) rfl (fun r h9 hq => ?_)
  obtain ⟨rfl, rfl⟩ := hq
  show jb_J _ RX12 cX12_voice 5 (Option.some .int) false 3 0 0 5 [some (.ref 105), some (.int (nI p)), some (.int 2), some (.int x), none] [.int 1] [s0, s1, s2, s3, s4, s5, s6, s7, s8, s9, jb_mdl I J d e kp nm W, s11] _
  refine jb_if_eq (tgt := 20) (pc' := 8) dX12_voice_5 (by decide) rfl (fun z => absurd z (by decide)) (fun _ => ?_)
  refine jb_iload_n (pc' := 9) dX12_voice_8 rfl rfl ?_
  refine jb_i2l (pc' := 10) dX12_voice_9 rfl ?_
  refine jb_lconst (pc' := 11) 0 dX12_voice_10 (by decide) rfl ?_
  refine jb_ldc2 (pc' := 14) 3 dX12_voice_11 wk_X12_152 rfl ?_
  refine jb_callS (pc' := 17) (As := [.long ((2 : Int32).toInt64), .long 0, .long 3]) (a2 := 0) (b2 := 0) wv_X12_56 dX12_voice_14 (c_inLG _ 2 0 3 (by omega) (by omega) (by omega)) rfl ⟨by decide, Nat.le_of_eq (Nat.zero_add _), Nat.le_of_eq (Nat.zero_add _)⟩ (Nat.le_of_ble_eq_true rfl) rfl (fun r h9 hq => ?_)
  obtain ⟨rfl, rfl⟩ := hq
  show jb_J _ RX12 cX12_voice 5 (Option.some .int) false 3 0 0 17 [some (.ref 105), some (.int (nI p)), some (.int 2), some (.int x), none] [.int 1] [s0, s1, s2, s3, s4, s5, s6, s7, s8, s9, jb_mdl I J d e kp nm W, s11] _
  refine jb_if_ne (tgt := 26) (pc' := 20) dX12_voice_17 (by decide) rfl (fun _ => ?_) (fun z => absurd z (by decide))
  refine jb_aload_n (pc' := 27) dX12_voice_26 rfl rfl ?_
  refine jb_iconst (pc' := 28) 0 dX12_voice_27 (by decide) rfl ?_
  refine pf_X12_259 (pc' := 31) (h' := [s0, s1, s2, s3, s4, s5, s6, s7, s8, s9, jb_mdl (upd I 3 0) J d e kp nm W, s11]) dX12_voice_28 (fun _ => ⟨rfl, rfl⟩) rfl (Nat.le_of_ble_eq_true rfl) rfl rfl ?_
  refine jb_aload_n (pc' := 32) dX12_voice_31 rfl rfl ?_
  refine jb_iload_n (pc' := 33) dX12_voice_32 rfl rfl ?_
  refine pf_X12_262 (pc' := 36) (h' := [s0, s1, s2, s3, s4, s5, s6, s7, s8, s9, jb_mdl (upd (upd I 3 0) 4 (nI p)) J d e kp nm W, s11]) dX12_voice_33 (fun _ => ⟨rfl, rfl⟩) rfl (Nat.le_of_ble_eq_true rfl) rfl rfl ?_
  refine jb_aload_n (pc' := 37) dX12_voice_36 rfl rfl ?_
  refine jb_callV (pc' := 40) (ci := 12) (q := 105) (As := []) (a2 := 0) (b2 := 0) wv_X12_271 rfl dX12_voice_37 (c_own (upd (upd I 3 0) 4 (nI p)) J d e kp nm W hd0 hk0 p hp rfl) rfl rfl ⟨by decide, Nat.le_of_eq (Nat.zero_add _), Nat.le_of_eq (Nat.zero_add _)⟩ (Nat.le_of_ble_eq_true rfl) rfl (fun r h9 hq => ?_)
  obtain ⟨rfl, rfl⟩ := hq
  rw [hkd]
  show jb_J _ RX12 cX12_voice 5 (Option.some .int) false 3 0 0 40 [some (.ref 105), some (.int (nI p)), some (.int 2), some (.int x), none] [.int 1] [s0, s1, s2, s3, s4, s5, s6, s7, s8, s9, jb_mdl (upd (upd I 3 0) 4 (nI p)) J d e kp nm W, s11] _
  refine jb_istore_ (pc' := 42) dX12_voice_40 (by decide) (jb_at4 rfl) rfl ?_
  refine jb_iload_n (pc' := 43) dX12_voice_42 rfl rfl ?_
  refine jb_if_ne (tgt := 56) (pc' := 46) dX12_voice_43 (by decide) rfl (fun _ => ?_) (fun z => absurd z (by decide))
  refine jb_iload_n (pc' := 57) dX12_voice_56 rfl rfl ?_
  refine jb_iconst (pc' := 58) 1 dX12_voice_57 (by decide) rfl ?_
  refine jb_icmp_ne (tgt := 71) (pc' := 61) dX12_voice_58 (by decide) rfl (fun _ => ?_) (fun z => absurd z (by decide))
  refine jb_iload_n (pc' := 72) dX12_voice_71 rfl rfl ?_
  refine jb_iconst (pc' := 73) 2 dX12_voice_72 (by decide) rfl ?_
  refine jb_icmp_ne (tgt := 86) (pc' := 76) dX12_voice_73 (by decide) rfl (fun z => absurd (by decide) z) (fun _ => ?_)
  refine jb_aload_n (pc' := 77) dX12_voice_76 rfl rfl ?_
  refine jb_iload (pc' := 79) dX12_voice_77 rfl rfl ?_
  refine jb_iload_n (pc' := 80) dX12_voice_79 rfl rfl ?_
  refine jb_callV (pc' := 83) (ci := 12) (q := 105) (As := [.int 1, .int x]) (a2 := 0) (b2 := 0) wv_X12_277 rfl dX12_voice_80 (cm_waits_1_1 (upd (upd I 3 0) 4 (nI p)) J d e kp nm W hd0 hk0 p hp hkd rfl 0 rfl (by omega) x) rfl rfl ⟨by decide, Nat.le_of_eq (Nat.zero_add _), Nat.le_of_eq (Nat.zero_add _)⟩ (Nat.le_of_ble_eq_true rfl) rfl (fun r h9 hq => ?_)
  obtain ⟨rfl, I9, W9, hI9, h39, hW9, hT9, rfl⟩ := hq
  show jb_J _ RX12 cX12_voice 5 (Option.some .int) false 3 0 0 83 [some (.ref 105), some (.int (nI p)), some (.int 2), some (.int x), some (.int 1)] [.int ((x) - (nI (V 2 p)))] [s0, s1, s2, s3, s4, s5, s6, s7, s8, s9, jb_mdl I9 J d e kp nm W9, s11] _
  refine jb_goto (pc' := 93) dX12_voice_83 (by decide) ?_
  refine jb_iret dX12_voice_93 rfl ?_
  exact ⟨rfl, I9, W9, hI9 0 (by decide), by rw [h39], hW9, hT9, rfl⟩
set_option maxRecDepth 100000 in
set_option maxHeartbeats 4000000 in
theorem mx_voice3_1 {sc : Nat × (Nat → Int32)} {s0 s1 s2 s3 s4 s5 s6 s7 s8 s9 s11 : List va_E} {V : Nat → Nat → Nat} (I J d e kp nm : Nat → Int32) (W : Nat → Nat → Int32) (hd : jd_ V d) (hk : jv_ok V) (p : Nat) (hp : p < V 0 1) (hkd : V 1 p = 1) (x : Int32) : jb_C sc yX12_voice cX12_voice 5 (Option.some .int) 7 0 0 [.ref 105, .int (nI p), .int 3, .int x] [s0, s1, s2, s3, s4, s5, s6, s7, s8, s9, jb_mdl I J d e kp nm W, s11] (fun r h9 => r = some (.int (((((x) + (nI p)) * 2) - ((1) - (nI (V 2 p)))) ^^^ ((x) - (nI (V 2 p))))) ∧ ∃ I9 W9, I9 0 = I 0 ∧ I9 3 = nI 6 ∧ (∀ r, ¬ r = 10 → W9 r = W r) ∧ W9 10 = jp_wr (W 10) 0 [13, 20, 11, 10, 12, 12] ∧ h9 = [s0, s1, s2, s3, s4, s5, s6, s7, s8, s9, jb_mdl I9 J d e kp nm W9, s11]) := by
  refine jb_CofJ (ini := false) (by decide +kernel) (fun h => by cases h) (Nat.le_of_ble_eq_true rfl) ?_
  show jb_J sc RX12 cX12_voice 5 (Option.some .int) false 7 0 0 0 [some (.ref 105), some (.int (nI p)), some (.int 3), some (.int x), none] [] [s0, s1, s2, s3, s4, s5, s6, s7, s8, s9, jb_mdl I J d e kp nm W, s11] _
  have hd0 := hd
  have hk0 := hk
  obtain ⟨e0, e1, e2, e3, e4, e5, e6, dv, ds, dd⟩ := hd
  obtain ⟨k0, k1, k2, k3, k4, k5, k6, k7, kv, ks, kd⟩ := hk
  have q0 := kv p hp
  refine jb_aload_n (pc' := 1) dX12_voice_0 rfl rfl ?_
  refine jb_iload_n (pc' := 2) dX12_voice_1 rfl rfl ?_
  refine jb_callV (pc' := 5) (ci := 12) (q := 105) (As := [.int (nI p)]) (a2 := 0) (b2 := 0) wv_X12_149 rfl dX12_voice_2 (c_isVoiceG I J d e kp nm W hd0 hk0 p (by omega)) rfl rfl ⟨by decide, Nat.le_of_eq (Nat.zero_add _), Nat.le_of_eq (Nat.zero_add _)⟩ (Nat.le_of_ble_eq_true rfl) rfl (fun r h9 hq => ?_)
  obtain ⟨rfl, rfl⟩ := hq
  show jb_J _ RX12 cX12_voice 5 (Option.some .int) false 7 0 0 5 [some (.ref 105), some (.int (nI p)), some (.int 3), some (.int x), none] [.int 1] [s0, s1, s2, s3, s4, s5, s6, s7, s8, s9, jb_mdl I J d e kp nm W, s11] _
  refine jb_if_eq (tgt := 20) (pc' := 8) dX12_voice_5 (by decide) rfl (fun z => absurd z (by decide)) (fun _ => ?_)
  refine jb_iload_n (pc' := 9) dX12_voice_8 rfl rfl ?_
  refine jb_i2l (pc' := 10) dX12_voice_9 rfl ?_
  refine jb_lconst (pc' := 11) 0 dX12_voice_10 (by decide) rfl ?_
  refine jb_ldc2 (pc' := 14) 3 dX12_voice_11 wk_X12_152 rfl ?_
  refine jb_callS (pc' := 17) (As := [.long ((3 : Int32).toInt64), .long 0, .long 3]) (a2 := 0) (b2 := 0) wv_X12_56 dX12_voice_14 (c_inLG _ 3 0 3 (by omega) (by omega) (by omega)) rfl ⟨by decide, Nat.le_of_eq (Nat.zero_add _), Nat.le_of_eq (Nat.zero_add _)⟩ (Nat.le_of_ble_eq_true rfl) rfl (fun r h9 hq => ?_)
  obtain ⟨rfl, rfl⟩ := hq
  show jb_J _ RX12 cX12_voice 5 (Option.some .int) false 7 0 0 17 [some (.ref 105), some (.int (nI p)), some (.int 3), some (.int x), none] [.int 1] [s0, s1, s2, s3, s4, s5, s6, s7, s8, s9, jb_mdl I J d e kp nm W, s11] _
  refine jb_if_ne (tgt := 26) (pc' := 20) dX12_voice_17 (by decide) rfl (fun _ => ?_) (fun z => absurd z (by decide))
  refine jb_aload_n (pc' := 27) dX12_voice_26 rfl rfl ?_
  refine jb_iconst (pc' := 28) 0 dX12_voice_27 (by decide) rfl ?_
  refine pf_X12_259 (pc' := 31) (h' := [s0, s1, s2, s3, s4, s5, s6, s7, s8, s9, jb_mdl (upd I 3 0) J d e kp nm W, s11]) dX12_voice_28 (fun _ => ⟨rfl, rfl⟩) rfl (Nat.le_of_ble_eq_true rfl) rfl rfl ?_
  refine jb_aload_n (pc' := 32) dX12_voice_31 rfl rfl ?_
  refine jb_iload_n (pc' := 33) dX12_voice_32 rfl rfl ?_
  refine pf_X12_262 (pc' := 36) (h' := [s0, s1, s2, s3, s4, s5, s6, s7, s8, s9, jb_mdl (upd (upd I 3 0) 4 (nI p)) J d e kp nm W, s11]) dX12_voice_33 (fun _ => ⟨rfl, rfl⟩) rfl (Nat.le_of_ble_eq_true rfl) rfl rfl ?_
  refine jb_aload_n (pc' := 37) dX12_voice_36 rfl rfl ?_
  refine jb_callV (pc' := 40) (ci := 12) (q := 105) (As := []) (a2 := 0) (b2 := 0) wv_X12_271 rfl dX12_voice_37 (c_own (upd (upd I 3 0) 4 (nI p)) J d e kp nm W hd0 hk0 p hp rfl) rfl rfl ⟨by decide, Nat.le_of_eq (Nat.zero_add _), Nat.le_of_eq (Nat.zero_add _)⟩ (Nat.le_of_ble_eq_true rfl) rfl (fun r h9 hq => ?_)
  obtain ⟨rfl, rfl⟩ := hq
  rw [hkd]
  show jb_J _ RX12 cX12_voice 5 (Option.some .int) false 7 0 0 40 [some (.ref 105), some (.int (nI p)), some (.int 3), some (.int x), none] [.int 1] [s0, s1, s2, s3, s4, s5, s6, s7, s8, s9, jb_mdl (upd (upd I 3 0) 4 (nI p)) J d e kp nm W, s11] _
  refine jb_istore_ (pc' := 42) dX12_voice_40 (by decide) (jb_at4 rfl) rfl ?_
  refine jb_iload_n (pc' := 43) dX12_voice_42 rfl rfl ?_
  refine jb_if_ne (tgt := 56) (pc' := 46) dX12_voice_43 (by decide) rfl (fun _ => ?_) (fun z => absurd z (by decide))
  refine jb_iload_n (pc' := 57) dX12_voice_56 rfl rfl ?_
  refine jb_iconst (pc' := 58) 1 dX12_voice_57 (by decide) rfl ?_
  refine jb_icmp_ne (tgt := 71) (pc' := 61) dX12_voice_58 (by decide) rfl (fun _ => ?_) (fun z => absurd z (by decide))
  refine jb_iload_n (pc' := 72) dX12_voice_71 rfl rfl ?_
  refine jb_iconst (pc' := 73) 2 dX12_voice_72 (by decide) rfl ?_
  refine jb_icmp_ne (tgt := 86) (pc' := 76) dX12_voice_73 (by decide) rfl (fun _ => ?_) (fun z => absurd z (by decide))
  refine jb_aload_n (pc' := 87) dX12_voice_86 rfl rfl ?_
  refine jb_iload (pc' := 89) dX12_voice_87 rfl rfl ?_
  refine jb_iload_n (pc' := 90) dX12_voice_89 rfl rfl ?_
  refine jb_callV (pc' := 93) (ci := 12) (q := 105) (As := [.int 1, .int x]) (a2 := 0) (b2 := 0) wv_X12_280 rfl dX12_voice_90 (cm_tells_1_1 (upd (upd I 3 0) 4 (nI p)) J d e kp nm W hd0 hk0 p hp hkd rfl 0 rfl (by omega) x) rfl rfl ⟨by decide, Nat.le_of_eq (Nat.zero_add _), Nat.le_of_eq (Nat.zero_add _)⟩ (Nat.le_of_ble_eq_true rfl) rfl (fun r h9 hq => ?_)
  obtain ⟨rfl, I9, W9, hI9, h39, hW9, hT9, rfl⟩ := hq
  show jb_J _ RX12 cX12_voice 5 (Option.some .int) false 7 0 0 93 [some (.ref 105), some (.int (nI p)), some (.int 3), some (.int x), some (.int 1)] [.int (((((x) + (nI p)) * 2) - ((1) - (nI (V 2 p)))) ^^^ ((x) - (nI (V 2 p))))] [s0, s1, s2, s3, s4, s5, s6, s7, s8, s9, jb_mdl I9 J d e kp nm W9, s11] _
  refine jb_iret dX12_voice_93 rfl ?_
  exact ⟨rfl, I9, W9, hI9 0 (by decide), by rw [h39], hW9, hT9, rfl⟩
set_option maxRecDepth 100000 in
set_option maxHeartbeats 4000000 in
theorem cm_calls_0_2 {sc : Nat × (Nat → Int32)} {s0 s1 s2 s3 s4 s5 s6 s7 s8 s9 s11 : List va_E} {V : Nat → Nat → Nat} (I J d e kp nm : Nat → Int32) (W : Nat → Nat → Int32) (hd : jd_ V d) (hk : jv_ok V) (p : Nat) (hp : p < V 0 1) (hkd : V 1 p = 2) (h4 : I 4 = nI p) (t9 : Nat) (h3 : I 3 = nI t9) (ht : t9 + 1 ≤ 40) (x : Int32) : jb_C sc yX12_calls cX12_calls 3 (Option.some .int) 1 0 0 [.ref 105, .int 0, .int x] [s0, s1, s2, s3, s4, s5, s6, s7, s8, s9, jb_mdl I J d e kp nm W, s11] (fun r h9 => r = some (.int ((x) + (nI p))) ∧ ∃ I9 W9, (∀ j, ¬ j = 3 → I9 j = I j) ∧ I9 3 = nI (t9 + 1) ∧ (∀ r, ¬ r = 10 → W9 r = W r) ∧ W9 10 = jp_wr (W 10) t9 [10] ∧ h9 = [s0, s1, s2, s3, s4, s5, s6, s7, s8, s9, jb_mdl I9 J d e kp nm W9, s11]) := by
  refine jb_CofJ (ini := false) (by decide +kernel) (fun h => by cases h) (Nat.le_of_ble_eq_true rfl) ?_
  show jb_J sc RX12 cX12_calls 3 (Option.some .int) false 1 0 0 0 [some (.ref 105), some (.int 0), some (.int x)] [] [s0, s1, s2, s3, s4, s5, s6, s7, s8, s9, jb_mdl I J d e kp nm W, s11] _
  have gI0 : ∀ j, ¬ j = 3 → I j = I j := fun _ _ => rfl
  have gW0 : ∀ r, ¬ r = 10 → W r = W r := fun _ _ => rfl
  have gT0 : W 10 = jp_wr (W 10) t9 [] := rfl
  refine jb_iload_n (pc' := 1) dX12_calls_0 rfl rfl ?_
  refine jb_lookup (pc' := 28) (off := 27) dX12_calls_1 (by decide +kernel) (by decide +kernel) (by decide) ?_
  refine jb_aload_n (pc' := 29) dX12_calls_28 rfl rfl ?_
  refine jb_bipush (pc' := 31) 10 dX12_calls_29 (by decide) rfl ?_
  refine jb_callV (pc' := 34) (ci := 12) (q := 105) (As := [.int 10]) (a2 := 0) (b2 := 0) wv_X12_265 rfl dX12_calls_31 (c_ran I J d e kp nm W t9 h3 (by omega) 10) rfl rfl ⟨by decide, Nat.le_of_eq (Nat.zero_add _), Nat.le_of_eq (Nat.zero_add _)⟩ (Nat.le_of_ble_eq_true rfl) rfl (fun r h9 hq => ?_)
  obtain ⟨rfl, I1, W1, hI1, h31, hW1, hT1, rfl⟩ := hq
  have gI1 : ∀ j, ¬ j = 3 → I1 j = I j := fun j hj => (hI1 j hj).trans (gI0 j hj)
  have gW1 : ∀ r, ¬ r = 10 → W1 r = W r := fun r hr => (hW1 r hr).trans (gW0 r hr)
  have gT1 : W1 10 = jp_wr (W 10) t9 [10] := hT1.trans (by first | rfl | (rw [gT0]; done) | (rw [gT0]; rfl))
  show jb_J _ RX12 cX12_calls 3 (Option.some .int) false 1 0 0 34 [some (.ref 105), some (.int 0), some (.int x)] [] [s0, s1, s2, s3, s4, s5, s6, s7, s8, s9, jb_mdl I1 J d e kp nm W1, s11] _
  refine jb_iload_n (pc' := 35) dX12_calls_34 rfl rfl ?_
  refine jb_aload_n (pc' := 36) dX12_calls_35 rfl rfl ?_
  refine gf_X12_262 (pc' := 39) (v := .int (I1 4)) dX12_calls_36 rfl rfl rfl ?_
  refine jb_top (v := .int (I1 4)) (w := .int (nI p)) (jb_vI ((gI1 4 (by decide)).trans h4)) ?_
  refine jb_iadd (pc' := 40) dX12_calls_39 rfl ?_
  refine jb_iret dX12_calls_40 rfl ?_
  exact ⟨rfl, I1, W1, gI1, h31, gW1, gT1, rfl⟩
set_option maxRecDepth 100000 in
set_option maxHeartbeats 4000000 in
theorem cm_calls_2_2 {sc : Nat × (Nat → Int32)} {s0 s1 s2 s3 s4 s5 s6 s7 s8 s9 s11 : List va_E} {V : Nat → Nat → Nat} (I J d e kp nm : Nat → Int32) (W : Nat → Nat → Int32) (hd : jd_ V d) (hk : jv_ok V) (p : Nat) (hp : p < V 0 1) (hkd : V 1 p = 2) (h4 : I 4 = nI p) (t9 : Nat) (h3 : I 3 = nI t9) (ht : t9 + 2 ≤ 40) (x : Int32) : jb_C sc yX12_calls cX12_calls 3 (Option.some .int) 2 0 0 [.ref 105, .int 2, .int x] [s0, s1, s2, s3, s4, s5, s6, s7, s8, s9, jb_mdl I J d e kp nm W, s11] (fun r h9 => r = some (.int (((x) + (nI p)) * 3)) ∧ ∃ I9 W9, (∀ j, ¬ j = 3 → I9 j = I j) ∧ I9 3 = nI (t9 + 2) ∧ (∀ r, ¬ r = 10 → W9 r = W r) ∧ W9 10 = jp_wr (W 10) t9 [30, 10] ∧ h9 = [s0, s1, s2, s3, s4, s5, s6, s7, s8, s9, jb_mdl I9 J d e kp nm W9, s11]) := by
  refine jb_CofJ (ini := false) (by decide +kernel) (fun h => by cases h) (Nat.le_of_ble_eq_true rfl) ?_
  show jb_J sc RX12 cX12_calls 3 (Option.some .int) false 2 0 0 0 [some (.ref 105), some (.int 2), some (.int x)] [] [s0, s1, s2, s3, s4, s5, s6, s7, s8, s9, jb_mdl I J d e kp nm W, s11] _
  have gI0 : ∀ j, ¬ j = 3 → I j = I j := fun _ _ => rfl
  have gW0 : ∀ r, ¬ r = 10 → W r = W r := fun _ _ => rfl
  have gT0 : W 10 = jp_wr (W 10) t9 [] := rfl
  refine jb_iload_n (pc' := 1) dX12_calls_0 rfl rfl ?_
  refine jb_lookup (pc' := 41) (off := 40) dX12_calls_1 (by decide +kernel) (by decide +kernel) (by decide) ?_
  refine jb_aload_n (pc' := 42) dX12_calls_41 rfl rfl ?_
  refine jb_bipush (pc' := 44) 30 dX12_calls_42 (by decide) rfl ?_
  refine jb_callV (pc' := 47) (ci := 12) (q := 105) (As := [.int 30]) (a2 := 0) (b2 := 0) wv_X12_265 rfl dX12_calls_44 (c_ran I J d e kp nm W t9 h3 (by omega) 30) rfl rfl ⟨by decide, Nat.le_of_eq (Nat.zero_add _), Nat.le_of_eq (Nat.zero_add _)⟩ (Nat.le_of_ble_eq_true rfl) rfl (fun r h9 hq => ?_)
  obtain ⟨rfl, I1, W1, hI1, h31, hW1, hT1, rfl⟩ := hq
  have gI1 : ∀ j, ¬ j = 3 → I1 j = I j := fun j hj => (hI1 j hj).trans (gI0 j hj)
  have gW1 : ∀ r, ¬ r = 10 → W1 r = W r := fun r hr => (hW1 r hr).trans (gW0 r hr)
  have gT1 : W1 10 = jp_wr (W 10) t9 [30] := hT1.trans (by first | rfl | (rw [gT0]; done) | (rw [gT0]; rfl))
  show jb_J _ RX12 cX12_calls 3 (Option.some .int) false 2 0 0 47 [some (.ref 105), some (.int 2), some (.int x)] [] [s0, s1, s2, s3, s4, s5, s6, s7, s8, s9, jb_mdl I1 J d e kp nm W1, s11] _
  refine jb_aload_n (pc' := 48) dX12_calls_47 rfl rfl ?_
  refine jb_iconst (pc' := 49) 2 dX12_calls_48 (by decide) rfl ?_
  refine jb_callS (pc' := 52) (As := [.int 2]) (a2 := 0) (b2 := 0) wv_X12_168 dX12_calls_49 (c_above 2 (by decide)) rfl ⟨by decide, Nat.le_of_eq (Nat.zero_add _), Nat.le_of_eq (Nat.zero_add _)⟩ (Nat.le_of_ble_eq_true rfl) rfl (fun r h9 hq => ?_)
  obtain ⟨rfl, rfl⟩ := hq
  show jb_J _ RX12 cX12_calls 3 (Option.some .int) false 2 0 0 52 [some (.ref 105), some (.int 2), some (.int x)] [.int 0, .ref 105] [s0, s1, s2, s3, s4, s5, s6, s7, s8, s9, jb_mdl I1 J d e kp nm W1, s11] _
  refine jb_iload_n (pc' := 53) dX12_calls_52 rfl rfl ?_
  refine jb_callV (pc' := 56) (ci := 12) (q := 105) (As := [.int 0, .int x]) (a2 := 0) (b2 := 0) wv_X12_268 rfl dX12_calls_53 (cm_calls_0_2 I1 J d e kp nm W1 hd hk p hp hkd ((gI1 4 (by decide)).trans h4) (t9 + 1) h31 (by omega) x) rfl rfl ⟨by decide, Nat.le_of_eq (Nat.zero_add _), Nat.le_of_eq (Nat.zero_add _)⟩ (Nat.le_of_ble_eq_true rfl) rfl (fun r h9 hq => ?_)
  obtain ⟨rfl, I2, W2, hI2, h32, hW2, hT2, rfl⟩ := hq
  have gI2 : ∀ j, ¬ j = 3 → I2 j = I j := fun j hj => (hI2 j hj).trans (gI1 j hj)
  have gW2 : ∀ r, ¬ r = 10 → W2 r = W r := fun r hr => (hW2 r hr).trans (gW1 r hr)
  have gT2 : W2 10 = jp_wr (W 10) t9 [30, 10] := hT2.trans (by first | rfl | (rw [gT1]; done) | (rw [gT1]; rfl))
  show jb_J _ RX12 cX12_calls 3 (Option.some .int) false 2 0 0 56 [some (.ref 105), some (.int 2), some (.int x)] [.int ((x) + (nI p))] [s0, s1, s2, s3, s4, s5, s6, s7, s8, s9, jb_mdl I2 J d e kp nm W2, s11] _
  refine jb_iconst (pc' := 57) 3 dX12_calls_56 (by decide) rfl ?_
  refine jb_imul (pc' := 58) dX12_calls_57 rfl ?_
  refine jb_iret dX12_calls_58 rfl ?_
  exact ⟨rfl, I2, W2, gI2, h32, gW2, gT2, rfl⟩
set_option maxRecDepth 100000 in
set_option maxHeartbeats 4000000 in
theorem cm_waits_0_2 {sc : Nat × (Nat → Int32)} {s0 s1 s2 s3 s4 s5 s6 s7 s8 s9 s11 : List va_E} {V : Nat → Nat → Nat} (I J d e kp nm : Nat → Int32) (W : Nat → Nat → Int32) (hd : jd_ V d) (hk : jv_ok V) (p : Nat) (hp : p < V 0 1) (hkd : V 1 p = 2) (h4 : I 4 = nI p) (t9 : Nat) (h3 : I 3 = nI t9) (ht : t9 + 1 ≤ 40) (x : Int32) : jb_C sc yX12_waits cX12_waits 3 (Option.some .int) 1 0 0 [.ref 105, .int 0, .int x] [s0, s1, s2, s3, s4, s5, s6, s7, s8, s9, jb_mdl I J d e kp nm W, s11] (fun r h9 => r = some (.int ((x) - (nI (V 2 p)))) ∧ ∃ I9 W9, (∀ j, ¬ j = 3 → I9 j = I j) ∧ I9 3 = nI (t9 + 1) ∧ (∀ r, ¬ r = 10 → W9 r = W r) ∧ W9 10 = jp_wr (W 10) t9 [12] ∧ h9 = [s0, s1, s2, s3, s4, s5, s6, s7, s8, s9, jb_mdl I9 J d e kp nm W9, s11]) := by
  refine jb_CofJ (ini := false) (by decide +kernel) (fun h => by cases h) (Nat.le_of_ble_eq_true rfl) ?_
  show jb_J sc RX12 cX12_waits 3 (Option.some .int) false 1 0 0 0 [some (.ref 105), some (.int 0), some (.int x)] [] [s0, s1, s2, s3, s4, s5, s6, s7, s8, s9, jb_mdl I J d e kp nm W, s11] _
  have gI0 : ∀ j, ¬ j = 3 → I j = I j := fun _ _ => rfl
  have gW0 : ∀ r, ¬ r = 10 → W r = W r := fun _ _ => rfl
  have gT0 : W 10 = jp_wr (W 10) t9 [] := rfl
  refine jb_iload_n (pc' := 1) dX12_waits_0 rfl rfl ?_
  refine jb_lookup (pc' := 36) (off := 35) dX12_waits_1 (by decide +kernel) (by decide +kernel) (by decide) ?_
  refine jb_aload_n (pc' := 37) dX12_waits_36 rfl rfl ?_
  refine jb_bipush (pc' := 39) 12 dX12_waits_37 (by decide) rfl ?_
  refine jb_callV (pc' := 42) (ci := 12) (q := 105) (As := [.int 12]) (a2 := 0) (b2 := 0) wv_X12_265 rfl dX12_waits_39 (c_ran I J d e kp nm W t9 h3 (by omega) 12) rfl rfl ⟨by decide, Nat.le_of_eq (Nat.zero_add _), Nat.le_of_eq (Nat.zero_add _)⟩ (Nat.le_of_ble_eq_true rfl) rfl (fun r h9 hq => ?_)
  obtain ⟨rfl, I1, W1, hI1, h31, hW1, hT1, rfl⟩ := hq
  have gI1 : ∀ j, ¬ j = 3 → I1 j = I j := fun j hj => (hI1 j hj).trans (gI0 j hj)
  have gW1 : ∀ r, ¬ r = 10 → W1 r = W r := fun r hr => (hW1 r hr).trans (gW0 r hr)
  have gT1 : W1 10 = jp_wr (W 10) t9 [12] := hT1.trans (by first | rfl | (rw [gT0]; done) | (rw [gT0]; rfl))
  show jb_J _ RX12 cX12_waits 3 (Option.some .int) false 1 0 0 42 [some (.ref 105), some (.int 0), some (.int x)] [] [s0, s1, s2, s3, s4, s5, s6, s7, s8, s9, jb_mdl I1 J d e kp nm W1, s11] _
  refine jb_iload_n (pc' := 43) dX12_waits_42 rfl rfl ?_
  refine jb_aload_n (pc' := 44) dX12_waits_43 rfl rfl ?_
  refine jb_aload_n (pc' := 45) dX12_waits_44 rfl rfl ?_
  refine gf_X12_262 (pc' := 48) (v := .int (I1 4)) dX12_waits_45 rfl rfl rfl ?_
  refine jb_top (v := .int (I1 4)) (w := .int (nI p)) (jb_vI ((gI1 4 (by decide)).trans h4)) ?_
  refine jb_iconst (pc' := 49) 1 dX12_waits_48 (by decide) rfl ?_
  refine jb_callV (pc' := 52) (ci := 12) (q := 105) (As := [.int (nI p), .int 1]) (a2 := 0) (b2 := 0) wv_X12_145 rfl dX12_waits_49 (c_of1 I1 J d e kp nm W1 hd hk p hp) rfl rfl ⟨by decide, Nat.le_of_eq (Nat.zero_add _), Nat.le_of_eq (Nat.zero_add _)⟩ (Nat.le_of_ble_eq_true rfl) rfl (fun r h9 hq => ?_)
  obtain ⟨rfl, rfl⟩ := hq
  show jb_J _ RX12 cX12_waits 3 (Option.some .int) false 1 0 0 52 [some (.ref 105), some (.int 0), some (.int x)] [.int (nI (V 2 p)), .int x] [s0, s1, s2, s3, s4, s5, s6, s7, s8, s9, jb_mdl I1 J d e kp nm W1, s11] _
  refine jb_isub (pc' := 53) dX12_waits_52 rfl ?_
  refine jb_iret dX12_waits_53 rfl ?_
  exact ⟨rfl, I1, W1, gI1, h31, gW1, gT1, rfl⟩
set_option maxRecDepth 100000 in
set_option maxHeartbeats 4000000 in
theorem cm_waits_2_2 {sc : Nat × (Nat → Int32)} {s0 s1 s2 s3 s4 s5 s6 s7 s8 s9 s11 : List va_E} {V : Nat → Nat → Nat} (I J d e kp nm : Nat → Int32) (W : Nat → Nat → Int32) (hd : jd_ V d) (hk : jv_ok V) (p : Nat) (hp : p < V 0 1) (hkd : V 1 p = 2) (h4 : I 4 = nI p) (t9 : Nat) (h3 : I 3 = nI t9) (ht : t9 + 1 ≤ 40) (x : Int32) : jb_C sc yX12_waits cX12_waits 3 (Option.some .int) 2 0 0 [.ref 105, .int 2, .int x] [s0, s1, s2, s3, s4, s5, s6, s7, s8, s9, jb_mdl I J d e kp nm W, s11] (fun r h9 => r = some (.int ((x) - (nI (V 2 p)))) ∧ ∃ I9 W9, (∀ j, ¬ j = 3 → I9 j = I j) ∧ I9 3 = nI (t9 + 1) ∧ (∀ r, ¬ r = 10 → W9 r = W r) ∧ W9 10 = jp_wr (W 10) t9 [12] ∧ h9 = [s0, s1, s2, s3, s4, s5, s6, s7, s8, s9, jb_mdl I9 J d e kp nm W9, s11]) := by
  refine jb_CofJ (ini := false) (by decide +kernel) (fun h => by cases h) (Nat.le_of_ble_eq_true rfl) ?_
  show jb_J sc RX12 cX12_waits 3 (Option.some .int) false 2 0 0 0 [some (.ref 105), some (.int 2), some (.int x)] [] [s0, s1, s2, s3, s4, s5, s6, s7, s8, s9, jb_mdl I J d e kp nm W, s11] _
  have gI0 : ∀ j, ¬ j = 3 → I j = I j := fun _ _ => rfl
  have gW0 : ∀ r, ¬ r = 10 → W r = W r := fun _ _ => rfl
  have gT0 : W 10 = jp_wr (W 10) t9 [] := rfl
  refine jb_iload_n (pc' := 1) dX12_waits_0 rfl rfl ?_
  refine jb_lookup (pc' := 93) (off := 92) dX12_waits_1 (by decide +kernel) (by decide +kernel) (by decide) ?_
  refine jb_aload_n (pc' := 94) dX12_waits_93 rfl rfl ?_
  refine jb_iload_n (pc' := 95) dX12_waits_94 rfl rfl ?_
  refine jb_callS (pc' := 98) (As := [.int 2]) (a2 := 0) (b2 := 0) wv_X12_168 dX12_waits_95 (c_above 2 (by decide)) rfl ⟨by decide, Nat.le_of_eq (Nat.zero_add _), Nat.le_of_eq (Nat.zero_add _)⟩ (Nat.le_of_ble_eq_true rfl) rfl (fun r h9 hq => ?_)
  obtain ⟨rfl, rfl⟩ := hq
  show jb_J _ RX12 cX12_waits 3 (Option.some .int) false 2 0 0 98 [some (.ref 105), some (.int 2), some (.int x)] [.int 0, .ref 105] [s0, s1, s2, s3, s4, s5, s6, s7, s8, s9, jb_mdl I J d e kp nm W, s11] _
  refine jb_iload_n (pc' := 99) dX12_waits_98 rfl rfl ?_
  refine jb_callV (pc' := 102) (ci := 12) (q := 105) (As := [.int 0, .int x]) (a2 := 0) (b2 := 0) wv_X12_277 rfl dX12_waits_99 (cm_waits_0_2 I J d e kp nm W hd hk p hp hkd ((gI0 4 (by decide)).trans h4) t9 h3 (by omega) x) rfl rfl ⟨by decide, Nat.le_of_eq (Nat.zero_add _), Nat.le_of_eq (Nat.zero_add _)⟩ (Nat.le_of_ble_eq_true rfl) rfl (fun r h9 hq => ?_)
  obtain ⟨rfl, I1, W1, hI1, h31, hW1, hT1, rfl⟩ := hq
  have gI1 : ∀ j, ¬ j = 3 → I1 j = I j := fun j hj => (hI1 j hj).trans (gI0 j hj)
  have gW1 : ∀ r, ¬ r = 10 → W1 r = W r := fun r hr => (hW1 r hr).trans (gW0 r hr)
  have gT1 : W1 10 = jp_wr (W 10) t9 [12] := hT1.trans (by first | rfl | (rw [gT0]; done) | (rw [gT0]; rfl))
  show jb_J _ RX12 cX12_waits 3 (Option.some .int) false 2 0 0 102 [some (.ref 105), some (.int 2), some (.int x)] [.int ((x) - (nI (V 2 p)))] [s0, s1, s2, s3, s4, s5, s6, s7, s8, s9, jb_mdl I1 J d e kp nm W1, s11] _
  refine jb_iret dX12_waits_102 rfl ?_
  exact ⟨rfl, I1, W1, gI1, h31, gW1, gT1, rfl⟩
set_option maxRecDepth 100000 in
set_option maxHeartbeats 4000000 in
theorem cm_hears_0_2 {sc : Nat × (Nat → Int32)} {s0 s1 s2 s3 s4 s5 s6 s7 s8 s9 s11 : List va_E} {V : Nat → Nat → Nat} (I J d e kp nm : Nat → Int32) (W : Nat → Nat → Int32) (hd : jd_ V d) (hk : jv_ok V) (p : Nat) (hp : p < V 0 1) (hkd : V 1 p = 2) (h4 : I 4 = nI p) (t9 : Nat) (h3 : I 3 = nI t9) (ht : t9 + 3 ≤ 40) (x : Int32) : jb_C sc yX12_hears cX12_hears 4 (Option.some .int) 3 0 0 [.ref 105, .int 0, .int x] [s0, s1, s2, s3, s4, s5, s6, s7, s8, s9, jb_mdl I J d e kp nm W, s11] (fun r h9 => r = some (.int ((((x) + (nI p)) * 3) * 2)) ∧ ∃ I9 W9, (∀ j, ¬ j = 3 → I9 j = I j) ∧ I9 3 = nI (t9 + 3) ∧ (∀ r, ¬ r = 10 → W9 r = W r) ∧ W9 10 = jp_wr (W 10) t9 [11, 30, 10] ∧ h9 = [s0, s1, s2, s3, s4, s5, s6, s7, s8, s9, jb_mdl I9 J d e kp nm W9, s11]) := by
  refine jb_CofJ (ini := false) (by decide +kernel) (fun h => by cases h) (Nat.le_of_ble_eq_true rfl) ?_
  show jb_J sc RX12 cX12_hears 4 (Option.some .int) false 3 0 0 0 [some (.ref 105), some (.int 0), some (.int x), none] [] [s0, s1, s2, s3, s4, s5, s6, s7, s8, s9, jb_mdl I J d e kp nm W, s11] _
  have gI0 : ∀ j, ¬ j = 3 → I j = I j := fun _ _ => rfl
  have gW0 : ∀ r, ¬ r = 10 → W r = W r := fun _ _ => rfl
  have gT0 : W 10 = jp_wr (W 10) t9 [] := rfl
  refine jb_iload_n (pc' := 1) dX12_hears_0 rfl rfl ?_
  refine jb_tableIn (pc' := 36) (off := 35) dX12_hears_1 (by decide) (by decide) (by decide +kernel) (by decide) ?_
  refine jb_aload_n (pc' := 37) dX12_hears_36 rfl rfl ?_
  refine jb_bipush (pc' := 39) 11 dX12_hears_37 (by decide) rfl ?_
  refine jb_callV (pc' := 42) (ci := 12) (q := 105) (As := [.int 11]) (a2 := 0) (b2 := 0) wv_X12_265 rfl dX12_hears_39 (c_ran I J d e kp nm W t9 h3 (by omega) 11) rfl rfl ⟨by decide, Nat.le_of_eq (Nat.zero_add _), Nat.le_of_eq (Nat.zero_add _)⟩ (Nat.le_of_ble_eq_true rfl) rfl (fun r h9 hq => ?_)
  obtain ⟨rfl, I1, W1, hI1, h31, hW1, hT1, rfl⟩ := hq
  have gI1 : ∀ j, ¬ j = 3 → I1 j = I j := fun j hj => (hI1 j hj).trans (gI0 j hj)
  have gW1 : ∀ r, ¬ r = 10 → W1 r = W r := fun r hr => (hW1 r hr).trans (gW0 r hr)
  have gT1 : W1 10 = jp_wr (W 10) t9 [11] := hT1.trans (by first | rfl | (rw [gT0]; done) | (rw [gT0]; rfl))
  show jb_J _ RX12 cX12_hears 4 (Option.some .int) false 3 0 0 42 [some (.ref 105), some (.int 0), some (.int x), none] [] [s0, s1, s2, s3, s4, s5, s6, s7, s8, s9, jb_mdl I1 J d e kp nm W1, s11] _
  refine jb_aload_n (pc' := 43) dX12_hears_42 rfl rfl ?_
  refine jb_aload_n (pc' := 44) dX12_hears_43 rfl rfl ?_
  refine jb_callV (pc' := 47) (ci := 12) (q := 105) (As := []) (a2 := 0) (b2 := 0) wv_X12_271 rfl dX12_hears_44 (c_own I1 J d e kp nm W1 hd hk p hp ((gI1 4 (by decide)).trans h4)) rfl rfl ⟨by decide, Nat.le_of_eq (Nat.zero_add _), Nat.le_of_eq (Nat.zero_add _)⟩ (Nat.le_of_ble_eq_true rfl) rfl (fun r h9 hq => ?_)
  obtain ⟨rfl, rfl⟩ := hq
  rw [hkd]
  show jb_J _ RX12 cX12_hears 4 (Option.some .int) false 3 0 0 47 [some (.ref 105), some (.int 0), some (.int x), none] [.int 2, .ref 105] [s0, s1, s2, s3, s4, s5, s6, s7, s8, s9, jb_mdl I1 J d e kp nm W1, s11] _
  refine jb_iload_n (pc' := 48) dX12_hears_47 rfl rfl ?_
  refine jb_callV (pc' := 51) (ci := 12) (q := 105) (As := [.int 2, .int x]) (a2 := 0) (b2 := 0) wv_X12_268 rfl dX12_hears_48 (cm_calls_2_2 I1 J d e kp nm W1 hd hk p hp hkd ((gI1 4 (by decide)).trans h4) (t9 + 1) h31 (by omega) x) rfl rfl ⟨by decide, Nat.le_of_eq (Nat.zero_add _), Nat.le_of_eq (Nat.zero_add _)⟩ (Nat.le_of_ble_eq_true rfl) rfl (fun r h9 hq => ?_)
  obtain ⟨rfl, I2, W2, hI2, h32, hW2, hT2, rfl⟩ := hq
  have gI2 : ∀ j, ¬ j = 3 → I2 j = I j := fun j hj => (hI2 j hj).trans (gI1 j hj)
  have gW2 : ∀ r, ¬ r = 10 → W2 r = W r := fun r hr => (hW2 r hr).trans (gW1 r hr)
  have gT2 : W2 10 = jp_wr (W 10) t9 [11, 30, 10] := hT2.trans (by first | rfl | (rw [gT1]; done) | (rw [gT1]; rfl))
  show jb_J _ RX12 cX12_hears 4 (Option.some .int) false 3 0 0 51 [some (.ref 105), some (.int 0), some (.int x), none] [.int (((x) + (nI p)) * 3)] [s0, s1, s2, s3, s4, s5, s6, s7, s8, s9, jb_mdl I2 J d e kp nm W2, s11] _
  refine jb_iconst (pc' := 52) 2 dX12_hears_51 (by decide) rfl ?_
  refine jb_imul (pc' := 53) dX12_hears_52 rfl ?_
  refine jb_iret dX12_hears_53 rfl ?_
  exact ⟨rfl, I2, W2, gI2, h32, gW2, gT2, rfl⟩
set_option maxRecDepth 100000 in
set_option maxHeartbeats 4000000 in
theorem cm_hears_2_2 {sc : Nat × (Nat → Int32)} {s0 s1 s2 s3 s4 s5 s6 s7 s8 s9 s11 : List va_E} {V : Nat → Nat → Nat} (I J d e kp nm : Nat → Int32) (W : Nat → Nat → Int32) (hd : jd_ V d) (hk : jv_ok V) (p : Nat) (hp : p < V 0 1) (hkd : V 1 p = 2) (h4 : I 4 = nI p) (t9 : Nat) (h3 : I 3 = nI t9) (ht : t9 + 3 ≤ 40) (x : Int32) : jb_C sc yX12_hears cX12_hears 4 (Option.some .int) 4 0 0 [.ref 105, .int 2, .int x] [s0, s1, s2, s3, s4, s5, s6, s7, s8, s9, jb_mdl I J d e kp nm W, s11] (fun r h9 => r = some (.int ((((x) + (nI p)) * 3) * 2)) ∧ ∃ I9 W9, (∀ j, ¬ j = 3 → I9 j = I j) ∧ I9 3 = nI (t9 + 3) ∧ (∀ r, ¬ r = 10 → W9 r = W r) ∧ W9 10 = jp_wr (W 10) t9 [11, 30, 10] ∧ h9 = [s0, s1, s2, s3, s4, s5, s6, s7, s8, s9, jb_mdl I9 J d e kp nm W9, s11]) := by
  refine jb_CofJ (ini := false) (by decide +kernel) (fun h => by cases h) (Nat.le_of_ble_eq_true rfl) ?_
  show jb_J sc RX12 cX12_hears 4 (Option.some .int) false 4 0 0 0 [some (.ref 105), some (.int 2), some (.int x), none] [] [s0, s1, s2, s3, s4, s5, s6, s7, s8, s9, jb_mdl I J d e kp nm W, s11] _
  have gI0 : ∀ j, ¬ j = 3 → I j = I j := fun _ _ => rfl
  have gW0 : ∀ r, ¬ r = 10 → W r = W r := fun _ _ => rfl
  have gT0 : W 10 = jp_wr (W 10) t9 [] := rfl
  refine jb_iload_n (pc' := 1) dX12_hears_0 rfl rfl ?_
  refine jb_tableIn (pc' := 100) (off := 99) dX12_hears_1 (by decide) (by decide) (by decide +kernel) (by decide) ?_
  refine jb_aload_n (pc' := 101) dX12_hears_100 rfl rfl ?_
  refine jb_iload_n (pc' := 102) dX12_hears_101 rfl rfl ?_
  refine jb_callS (pc' := 105) (As := [.int 2]) (a2 := 0) (b2 := 0) wv_X12_168 dX12_hears_102 (c_above 2 (by decide)) rfl ⟨by decide, Nat.le_of_eq (Nat.zero_add _), Nat.le_of_eq (Nat.zero_add _)⟩ (Nat.le_of_ble_eq_true rfl) rfl (fun r h9 hq => ?_)
  obtain ⟨rfl, rfl⟩ := hq
  show jb_J _ RX12 cX12_hears 4 (Option.some .int) false 4 0 0 105 [some (.ref 105), some (.int 2), some (.int x), none] [.int 0, .ref 105] [s0, s1, s2, s3, s4, s5, s6, s7, s8, s9, jb_mdl I J d e kp nm W, s11] _
  refine jb_iload_n (pc' := 106) dX12_hears_105 rfl rfl ?_
  refine jb_callV (pc' := 109) (ci := 12) (q := 105) (As := [.int 0, .int x]) (a2 := 0) (b2 := 0) wv_X12_274 rfl dX12_hears_106 (cm_hears_0_2 I J d e kp nm W hd hk p hp hkd ((gI0 4 (by decide)).trans h4) t9 h3 (by omega) x) rfl rfl ⟨by decide, Nat.le_of_eq (Nat.zero_add _), Nat.le_of_eq (Nat.zero_add _)⟩ (Nat.le_of_ble_eq_true rfl) rfl (fun r h9 hq => ?_)
  obtain ⟨rfl, I1, W1, hI1, h31, hW1, hT1, rfl⟩ := hq
  have gI1 : ∀ j, ¬ j = 3 → I1 j = I j := fun j hj => (hI1 j hj).trans (gI0 j hj)
  have gW1 : ∀ r, ¬ r = 10 → W1 r = W r := fun r hr => (hW1 r hr).trans (gW0 r hr)
  have gT1 : W1 10 = jp_wr (W 10) t9 [11, 30, 10] := hT1.trans (by first | rfl | (rw [gT0]; done) | (rw [gT0]; rfl))
  show jb_J _ RX12 cX12_hears 4 (Option.some .int) false 4 0 0 109 [some (.ref 105), some (.int 2), some (.int x), none] [.int ((((x) + (nI p)) * 3) * 2)] [s0, s1, s2, s3, s4, s5, s6, s7, s8, s9, jb_mdl I1 J d e kp nm W1, s11] _
  refine jb_iret dX12_hears_109 rfl ?_
  exact ⟨rfl, I1, W1, gI1, h31, gW1, gT1, rfl⟩
set_option maxRecDepth 100000 in
set_option maxHeartbeats 4000000 in
theorem cm_tells_0_2 {sc : Nat × (Nat → Int32)} {s0 s1 s2 s3 s4 s5 s6 s7 s8 s9 s11 : List va_E} {V : Nat → Nat → Nat} (I J d e kp nm : Nat → Int32) (W : Nat → Nat → Int32) (hd : jd_ V d) (hk : jv_ok V) (p : Nat) (hp : p < V 0 1) (hkd : V 1 p = 2) (h4 : I 4 = nI p) (t9 : Nat) (h3 : I 3 = nI t9) (ht : t9 + 5 ≤ 40) (x : Int32) : jb_C sc yX12_tells cX12_tells 4 (Option.some .int) 5 0 0 [.ref 105, .int 0, .int x] [s0, s1, s2, s3, s4, s5, s6, s7, s8, s9, jb_mdl I J d e kp nm W, s11] (fun r h9 => r = some (.int (((((x) + (nI p)) * 3) * 2) ^^^ ((x) - (nI (V 2 p))))) ∧ ∃ I9 W9, (∀ j, ¬ j = 3 → I9 j = I j) ∧ I9 3 = nI (t9 + 5) ∧ (∀ r, ¬ r = 10 → W9 r = W r) ∧ W9 10 = jp_wr (W 10) t9 [13, 11, 30, 10, 12] ∧ h9 = [s0, s1, s2, s3, s4, s5, s6, s7, s8, s9, jb_mdl I9 J d e kp nm W9, s11]) := by
  refine jb_CofJ (ini := false) (by decide +kernel) (fun h => by cases h) (Nat.le_of_ble_eq_true rfl) ?_
  show jb_J sc RX12 cX12_tells 4 (Option.some .int) false 5 0 0 0 [some (.ref 105), some (.int 0), some (.int x), none] [] [s0, s1, s2, s3, s4, s5, s6, s7, s8, s9, jb_mdl I J d e kp nm W, s11] _
  have gI0 : ∀ j, ¬ j = 3 → I j = I j := fun _ _ => rfl
  have gW0 : ∀ r, ¬ r = 10 → W r = W r := fun _ _ => rfl
  have gT0 : W 10 = jp_wr (W 10) t9 [] := rfl
  refine jb_iload_n (pc' := 1) dX12_tells_0 rfl rfl ?_
  refine jb_lookup (pc' := 36) (off := 35) dX12_tells_1 (by decide +kernel) (by decide +kernel) (by decide) ?_
  refine jb_aload_n (pc' := 37) dX12_tells_36 rfl rfl ?_
  refine jb_bipush (pc' := 39) 13 dX12_tells_37 (by decide) rfl ?_
  refine jb_callV (pc' := 42) (ci := 12) (q := 105) (As := [.int 13]) (a2 := 0) (b2 := 0) wv_X12_265 rfl dX12_tells_39 (c_ran I J d e kp nm W t9 h3 (by omega) 13) rfl rfl ⟨by decide, Nat.le_of_eq (Nat.zero_add _), Nat.le_of_eq (Nat.zero_add _)⟩ (Nat.le_of_ble_eq_true rfl) rfl (fun r h9 hq => ?_)
  obtain ⟨rfl, I1, W1, hI1, h31, hW1, hT1, rfl⟩ := hq
  have gI1 : ∀ j, ¬ j = 3 → I1 j = I j := fun j hj => (hI1 j hj).trans (gI0 j hj)
  have gW1 : ∀ r, ¬ r = 10 → W1 r = W r := fun r hr => (hW1 r hr).trans (gW0 r hr)
  have gT1 : W1 10 = jp_wr (W 10) t9 [13] := hT1.trans (by first | rfl | (rw [gT0]; done) | (rw [gT0]; rfl))
  show jb_J _ RX12 cX12_tells 4 (Option.some .int) false 5 0 0 42 [some (.ref 105), some (.int 0), some (.int x), none] [] [s0, s1, s2, s3, s4, s5, s6, s7, s8, s9, jb_mdl I1 J d e kp nm W1, s11] _
  refine jb_aload_n (pc' := 43) dX12_tells_42 rfl rfl ?_
  refine jb_aload_n (pc' := 44) dX12_tells_43 rfl rfl ?_
  refine jb_callV (pc' := 47) (ci := 12) (q := 105) (As := []) (a2 := 0) (b2 := 0) wv_X12_271 rfl dX12_tells_44 (c_own I1 J d e kp nm W1 hd hk p hp ((gI1 4 (by decide)).trans h4)) rfl rfl ⟨by decide, Nat.le_of_eq (Nat.zero_add _), Nat.le_of_eq (Nat.zero_add _)⟩ (Nat.le_of_ble_eq_true rfl) rfl (fun r h9 hq => ?_)
  obtain ⟨rfl, rfl⟩ := hq
  rw [hkd]
  show jb_J _ RX12 cX12_tells 4 (Option.some .int) false 5 0 0 47 [some (.ref 105), some (.int 0), some (.int x), none] [.int 2, .ref 105] [s0, s1, s2, s3, s4, s5, s6, s7, s8, s9, jb_mdl I1 J d e kp nm W1, s11] _
  refine jb_iload_n (pc' := 48) dX12_tells_47 rfl rfl ?_
  refine jb_callV (pc' := 51) (ci := 12) (q := 105) (As := [.int 2, .int x]) (a2 := 0) (b2 := 0) wv_X12_274 rfl dX12_tells_48 (cm_hears_2_2 I1 J d e kp nm W1 hd hk p hp hkd ((gI1 4 (by decide)).trans h4) (t9 + 1) h31 (by omega) x) rfl rfl ⟨by decide, Nat.le_of_eq (Nat.zero_add _), Nat.le_of_eq (Nat.zero_add _)⟩ (Nat.le_of_ble_eq_true rfl) rfl (fun r h9 hq => ?_)
  obtain ⟨rfl, I2, W2, hI2, h32, hW2, hT2, rfl⟩ := hq
  have gI2 : ∀ j, ¬ j = 3 → I2 j = I j := fun j hj => (hI2 j hj).trans (gI1 j hj)
  have gW2 : ∀ r, ¬ r = 10 → W2 r = W r := fun r hr => (hW2 r hr).trans (gW1 r hr)
  have gT2 : W2 10 = jp_wr (W 10) t9 [13, 11, 30, 10] := hT2.trans (by first | rfl | (rw [gT1]; done) | (rw [gT1]; rfl))
  show jb_J _ RX12 cX12_tells 4 (Option.some .int) false 5 0 0 51 [some (.ref 105), some (.int 0), some (.int x), none] [.int ((((x) + (nI p)) * 3) * 2)] [s0, s1, s2, s3, s4, s5, s6, s7, s8, s9, jb_mdl I2 J d e kp nm W2, s11] _
  refine jb_istore_n_ (pc' := 52) dX12_tells_51 (by decide) (jb_at3 rfl) rfl ?_
  refine jb_iload_n (pc' := 53) dX12_tells_52 rfl rfl ?_
  refine jb_aload_n (pc' := 54) dX12_tells_53 rfl rfl ?_
  refine jb_aload_n (pc' := 55) dX12_tells_54 rfl rfl ?_
  refine jb_callV (pc' := 58) (ci := 12) (q := 105) (As := []) (a2 := 0) (b2 := 0) wv_X12_271 rfl dX12_tells_55 (c_own I2 J d e kp nm W2 hd hk p hp ((gI2 4 (by decide)).trans h4)) rfl rfl ⟨by decide, Nat.le_of_eq (Nat.zero_add _), Nat.le_of_eq (Nat.zero_add _)⟩ (Nat.le_of_ble_eq_true rfl) rfl (fun r h9 hq => ?_)
  obtain ⟨rfl, rfl⟩ := hq
  rw [hkd]
  show jb_J _ RX12 cX12_tells 4 (Option.some .int) false 5 0 0 58 [some (.ref 105), some (.int 0), some (.int x), some (.int ((((x) + (nI p)) * 3) * 2))] [.int 2, .ref 105, .int ((((x) + (nI p)) * 3) * 2)] [s0, s1, s2, s3, s4, s5, s6, s7, s8, s9, jb_mdl I2 J d e kp nm W2, s11] _
  refine jb_iload_n (pc' := 59) dX12_tells_58 rfl rfl ?_
  refine jb_callV (pc' := 62) (ci := 12) (q := 105) (As := [.int 2, .int x]) (a2 := 0) (b2 := 0) wv_X12_277 rfl dX12_tells_59 (cm_waits_2_2 I2 J d e kp nm W2 hd hk p hp hkd ((gI2 4 (by decide)).trans h4) ((t9 + 1) + 3) h32 (by omega) x) rfl rfl ⟨by decide, Nat.le_of_eq (Nat.zero_add _), Nat.le_of_eq (Nat.zero_add _)⟩ (Nat.le_of_ble_eq_true rfl) rfl (fun r h9 hq => ?_)
  obtain ⟨rfl, I3, W3, hI3, h33, hW3, hT3, rfl⟩ := hq
  have gI3 : ∀ j, ¬ j = 3 → I3 j = I j := fun j hj => (hI3 j hj).trans (gI2 j hj)
  have gW3 : ∀ r, ¬ r = 10 → W3 r = W r := fun r hr => (hW3 r hr).trans (gW2 r hr)
  have gT3 : W3 10 = jp_wr (W 10) t9 [13, 11, 30, 10, 12] := hT3.trans (by first | rfl | (rw [gT2]; done) | (rw [gT2]; rfl))
  show jb_J _ RX12 cX12_tells 4 (Option.some .int) false 5 0 0 62 [some (.ref 105), some (.int 0), some (.int x), some (.int ((((x) + (nI p)) * 3) * 2))] [.int ((x) - (nI (V 2 p))), .int ((((x) + (nI p)) * 3) * 2)] [s0, s1, s2, s3, s4, s5, s6, s7, s8, s9, jb_mdl I3 J d e kp nm W3, s11] _
  refine jb_ixor (pc' := 63) dX12_tells_62 rfl ?_
  refine jb_iret dX12_tells_63 rfl ?_
  exact ⟨rfl, I3, W3, gI3, h33, gW3, gT3, rfl⟩
set_option maxRecDepth 100000 in
set_option maxHeartbeats 4000000 in
theorem cm_tells_2_2 {sc : Nat × (Nat → Int32)} {s0 s1 s2 s3 s4 s5 s6 s7 s8 s9 s11 : List va_E} {V : Nat → Nat → Nat} (I J d e kp nm : Nat → Int32) (W : Nat → Nat → Int32) (hd : jd_ V d) (hk : jv_ok V) (p : Nat) (hp : p < V 0 1) (hkd : V 1 p = 2) (h4 : I 4 = nI p) (t9 : Nat) (h3 : I 3 = nI t9) (ht : t9 + 5 ≤ 40) (x : Int32) : jb_C sc yX12_tells cX12_tells 4 (Option.some .int) 6 0 0 [.ref 105, .int 2, .int x] [s0, s1, s2, s3, s4, s5, s6, s7, s8, s9, jb_mdl I J d e kp nm W, s11] (fun r h9 => r = some (.int (((((x) + (nI p)) * 3) * 2) ^^^ ((x) - (nI (V 2 p))))) ∧ ∃ I9 W9, (∀ j, ¬ j = 3 → I9 j = I j) ∧ I9 3 = nI (t9 + 5) ∧ (∀ r, ¬ r = 10 → W9 r = W r) ∧ W9 10 = jp_wr (W 10) t9 [13, 11, 30, 10, 12] ∧ h9 = [s0, s1, s2, s3, s4, s5, s6, s7, s8, s9, jb_mdl I9 J d e kp nm W9, s11]) := by
  refine jb_CofJ (ini := false) (by decide +kernel) (fun h => by cases h) (Nat.le_of_ble_eq_true rfl) ?_
  show jb_J sc RX12 cX12_tells 4 (Option.some .int) false 6 0 0 0 [some (.ref 105), some (.int 2), some (.int x), none] [] [s0, s1, s2, s3, s4, s5, s6, s7, s8, s9, jb_mdl I J d e kp nm W, s11] _
  have gI0 : ∀ j, ¬ j = 3 → I j = I j := fun _ _ => rfl
  have gW0 : ∀ r, ¬ r = 10 → W r = W r := fun _ _ => rfl
  have gT0 : W 10 = jp_wr (W 10) t9 [] := rfl
  refine jb_iload_n (pc' := 1) dX12_tells_0 rfl rfl ?_
  refine jb_lookup (pc' := 121) (off := 120) dX12_tells_1 (by decide +kernel) (by decide +kernel) (by decide) ?_
  refine jb_aload_n (pc' := 122) dX12_tells_121 rfl rfl ?_
  refine jb_iload_n (pc' := 123) dX12_tells_122 rfl rfl ?_
  refine jb_callS (pc' := 126) (As := [.int 2]) (a2 := 0) (b2 := 0) wv_X12_168 dX12_tells_123 (c_above 2 (by decide)) rfl ⟨by decide, Nat.le_of_eq (Nat.zero_add _), Nat.le_of_eq (Nat.zero_add _)⟩ (Nat.le_of_ble_eq_true rfl) rfl (fun r h9 hq => ?_)
  obtain ⟨rfl, rfl⟩ := hq
  show jb_J _ RX12 cX12_tells 4 (Option.some .int) false 6 0 0 126 [some (.ref 105), some (.int 2), some (.int x), none] [.int 0, .ref 105] [s0, s1, s2, s3, s4, s5, s6, s7, s8, s9, jb_mdl I J d e kp nm W, s11] _
  refine jb_iload_n (pc' := 127) dX12_tells_126 rfl rfl ?_
  refine jb_callV (pc' := 130) (ci := 12) (q := 105) (As := [.int 0, .int x]) (a2 := 0) (b2 := 0) wv_X12_280 rfl dX12_tells_127 (cm_tells_0_2 I J d e kp nm W hd hk p hp hkd ((gI0 4 (by decide)).trans h4) t9 h3 (by omega) x) rfl rfl ⟨by decide, Nat.le_of_eq (Nat.zero_add _), Nat.le_of_eq (Nat.zero_add _)⟩ (Nat.le_of_ble_eq_true rfl) rfl (fun r h9 hq => ?_)
  obtain ⟨rfl, I1, W1, hI1, h31, hW1, hT1, rfl⟩ := hq
  have gI1 : ∀ j, ¬ j = 3 → I1 j = I j := fun j hj => (hI1 j hj).trans (gI0 j hj)
  have gW1 : ∀ r, ¬ r = 10 → W1 r = W r := fun r hr => (hW1 r hr).trans (gW0 r hr)
  have gT1 : W1 10 = jp_wr (W 10) t9 [13, 11, 30, 10, 12] := hT1.trans (by first | rfl | (rw [gT0]; done) | (rw [gT0]; rfl))
  show jb_J _ RX12 cX12_tells 4 (Option.some .int) false 6 0 0 130 [some (.ref 105), some (.int 2), some (.int x), none] [.int (((((x) + (nI p)) * 3) * 2) ^^^ ((x) - (nI (V 2 p))))] [s0, s1, s2, s3, s4, s5, s6, s7, s8, s9, jb_mdl I1 J d e kp nm W1, s11] _
  refine jb_iret dX12_tells_130 rfl ?_
  exact ⟨rfl, I1, W1, gI1, h31, gW1, gT1, rfl⟩
set_option maxRecDepth 100000 in
set_option maxHeartbeats 4000000 in
theorem mx_voice0_2 {sc : Nat × (Nat → Int32)} {s0 s1 s2 s3 s4 s5 s6 s7 s8 s9 s11 : List va_E} {V : Nat → Nat → Nat} (I J d e kp nm : Nat → Int32) (W : Nat → Nat → Int32) (hd : jd_ V d) (hk : jv_ok V) (p : Nat) (hp : p < V 0 1) (hkd : V 1 p = 2) (x : Int32) : jb_C sc yX12_voice cX12_voice 5 (Option.some .int) 3 0 0 [.ref 105, .int (nI p), .int 0, .int x] [s0, s1, s2, s3, s4, s5, s6, s7, s8, s9, jb_mdl I J d e kp nm W, s11] (fun r h9 => r = some (.int (((x) + (nI p)) * 3)) ∧ ∃ I9 W9, I9 0 = I 0 ∧ I9 3 = nI 2 ∧ (∀ r, ¬ r = 10 → W9 r = W r) ∧ W9 10 = jp_wr (W 10) 0 [30, 10] ∧ h9 = [s0, s1, s2, s3, s4, s5, s6, s7, s8, s9, jb_mdl I9 J d e kp nm W9, s11]) := by
  refine jb_CofJ (ini := false) (by decide +kernel) (fun h => by cases h) (Nat.le_of_ble_eq_true rfl) ?_
  show jb_J sc RX12 cX12_voice 5 (Option.some .int) false 3 0 0 0 [some (.ref 105), some (.int (nI p)), some (.int 0), some (.int x), none] [] [s0, s1, s2, s3, s4, s5, s6, s7, s8, s9, jb_mdl I J d e kp nm W, s11] _
  have hd0 := hd
  have hk0 := hk
  obtain ⟨e0, e1, e2, e3, e4, e5, e6, dv, ds, dd⟩ := hd
  obtain ⟨k0, k1, k2, k3, k4, k5, k6, k7, kv, ks, kd⟩ := hk
  have q0 := kv p hp
  refine jb_aload_n (pc' := 1) dX12_voice_0 rfl rfl ?_
  refine jb_iload_n (pc' := 2) dX12_voice_1 rfl rfl ?_
  refine jb_callV (pc' := 5) (ci := 12) (q := 105) (As := [.int (nI p)]) (a2 := 0) (b2 := 0) wv_X12_149 rfl dX12_voice_2 (c_isVoiceG I J d e kp nm W hd0 hk0 p (by omega)) rfl rfl ⟨by decide, Nat.le_of_eq (Nat.zero_add _), Nat.le_of_eq (Nat.zero_add _)⟩ (Nat.le_of_ble_eq_true rfl) rfl (fun r h9 hq => ?_)
  obtain ⟨rfl, rfl⟩ := hq
  show jb_J _ RX12 cX12_voice 5 (Option.some .int) false 3 0 0 5 [some (.ref 105), some (.int (nI p)), some (.int 0), some (.int x), none] [.int 1] [s0, s1, s2, s3, s4, s5, s6, s7, s8, s9, jb_mdl I J d e kp nm W, s11] _
  refine jb_if_eq (tgt := 20) (pc' := 8) dX12_voice_5 (by decide) rfl (fun z => absurd z (by decide)) (fun _ => ?_)
  refine jb_iload_n (pc' := 9) dX12_voice_8 rfl rfl ?_
  refine jb_i2l (pc' := 10) dX12_voice_9 rfl ?_
  refine jb_lconst (pc' := 11) 0 dX12_voice_10 (by decide) rfl ?_
  refine jb_ldc2 (pc' := 14) 3 dX12_voice_11 wk_X12_152 rfl ?_
  refine jb_callS (pc' := 17) (As := [.long ((0 : Int32).toInt64), .long 0, .long 3]) (a2 := 0) (b2 := 0) wv_X12_56 dX12_voice_14 (c_inLG _ 0 0 3 (by omega) (by omega) (by omega)) rfl ⟨by decide, Nat.le_of_eq (Nat.zero_add _), Nat.le_of_eq (Nat.zero_add _)⟩ (Nat.le_of_ble_eq_true rfl) rfl (fun r h9 hq => ?_)
  obtain ⟨rfl, rfl⟩ := hq
  show jb_J _ RX12 cX12_voice 5 (Option.some .int) false 3 0 0 17 [some (.ref 105), some (.int (nI p)), some (.int 0), some (.int x), none] [.int 1] [s0, s1, s2, s3, s4, s5, s6, s7, s8, s9, jb_mdl I J d e kp nm W, s11] _
  refine jb_if_ne (tgt := 26) (pc' := 20) dX12_voice_17 (by decide) rfl (fun _ => ?_) (fun z => absurd z (by decide))
  refine jb_aload_n (pc' := 27) dX12_voice_26 rfl rfl ?_
  refine jb_iconst (pc' := 28) 0 dX12_voice_27 (by decide) rfl ?_
  refine pf_X12_259 (pc' := 31) (h' := [s0, s1, s2, s3, s4, s5, s6, s7, s8, s9, jb_mdl (upd I 3 0) J d e kp nm W, s11]) dX12_voice_28 (fun _ => ⟨rfl, rfl⟩) rfl (Nat.le_of_ble_eq_true rfl) rfl rfl ?_
  refine jb_aload_n (pc' := 32) dX12_voice_31 rfl rfl ?_
  refine jb_iload_n (pc' := 33) dX12_voice_32 rfl rfl ?_
  refine pf_X12_262 (pc' := 36) (h' := [s0, s1, s2, s3, s4, s5, s6, s7, s8, s9, jb_mdl (upd (upd I 3 0) 4 (nI p)) J d e kp nm W, s11]) dX12_voice_33 (fun _ => ⟨rfl, rfl⟩) rfl (Nat.le_of_ble_eq_true rfl) rfl rfl ?_
  refine jb_aload_n (pc' := 37) dX12_voice_36 rfl rfl ?_
  refine jb_callV (pc' := 40) (ci := 12) (q := 105) (As := []) (a2 := 0) (b2 := 0) wv_X12_271 rfl dX12_voice_37 (c_own (upd (upd I 3 0) 4 (nI p)) J d e kp nm W hd0 hk0 p hp rfl) rfl rfl ⟨by decide, Nat.le_of_eq (Nat.zero_add _), Nat.le_of_eq (Nat.zero_add _)⟩ (Nat.le_of_ble_eq_true rfl) rfl (fun r h9 hq => ?_)
  obtain ⟨rfl, rfl⟩ := hq
  rw [hkd]
  show jb_J _ RX12 cX12_voice 5 (Option.some .int) false 3 0 0 40 [some (.ref 105), some (.int (nI p)), some (.int 0), some (.int x), none] [.int 2] [s0, s1, s2, s3, s4, s5, s6, s7, s8, s9, jb_mdl (upd (upd I 3 0) 4 (nI p)) J d e kp nm W, s11] _
  refine jb_istore_ (pc' := 42) dX12_voice_40 (by decide) (jb_at4 rfl) rfl ?_
  refine jb_iload_n (pc' := 43) dX12_voice_42 rfl rfl ?_
  refine jb_if_ne (tgt := 56) (pc' := 46) dX12_voice_43 (by decide) rfl (fun z => absurd (by decide) z) (fun _ => ?_)
  refine jb_aload_n (pc' := 47) dX12_voice_46 rfl rfl ?_
  refine jb_iload (pc' := 49) dX12_voice_47 rfl rfl ?_
  refine jb_iload_n (pc' := 50) dX12_voice_49 rfl rfl ?_
  refine jb_callV (pc' := 53) (ci := 12) (q := 105) (As := [.int 2, .int x]) (a2 := 0) (b2 := 0) wv_X12_268 rfl dX12_voice_50 (cm_calls_2_2 (upd (upd I 3 0) 4 (nI p)) J d e kp nm W hd0 hk0 p hp hkd rfl 0 rfl (by omega) x) rfl rfl ⟨by decide, Nat.le_of_eq (Nat.zero_add _), Nat.le_of_eq (Nat.zero_add _)⟩ (Nat.le_of_ble_eq_true rfl) rfl (fun r h9 hq => ?_)
  obtain ⟨rfl, I9, W9, hI9, h39, hW9, hT9, rfl⟩ := hq
  show jb_J _ RX12 cX12_voice 5 (Option.some .int) false 3 0 0 53 [some (.ref 105), some (.int (nI p)), some (.int 0), some (.int x), some (.int 2)] [.int (((x) + (nI p)) * 3)] [s0, s1, s2, s3, s4, s5, s6, s7, s8, s9, jb_mdl I9 J d e kp nm W9, s11] _
  refine jb_goto (pc' := 93) dX12_voice_53 (by decide) ?_
  refine jb_iret dX12_voice_93 rfl ?_
  exact ⟨rfl, I9, W9, hI9 0 (by decide), by rw [h39], hW9, hT9, rfl⟩
set_option maxRecDepth 100000 in
set_option maxHeartbeats 4000000 in
theorem mx_voice1_2 {sc : Nat × (Nat → Int32)} {s0 s1 s2 s3 s4 s5 s6 s7 s8 s9 s11 : List va_E} {V : Nat → Nat → Nat} (I J d e kp nm : Nat → Int32) (W : Nat → Nat → Int32) (hd : jd_ V d) (hk : jv_ok V) (p : Nat) (hp : p < V 0 1) (hkd : V 1 p = 2) (x : Int32) : jb_C sc yX12_voice cX12_voice 5 (Option.some .int) 5 0 0 [.ref 105, .int (nI p), .int 1, .int x] [s0, s1, s2, s3, s4, s5, s6, s7, s8, s9, jb_mdl I J d e kp nm W, s11] (fun r h9 => r = some (.int ((((x) + (nI p)) * 3) * 2)) ∧ ∃ I9 W9, I9 0 = I 0 ∧ I9 3 = nI 3 ∧ (∀ r, ¬ r = 10 → W9 r = W r) ∧ W9 10 = jp_wr (W 10) 0 [11, 30, 10] ∧ h9 = [s0, s1, s2, s3, s4, s5, s6, s7, s8, s9, jb_mdl I9 J d e kp nm W9, s11]) := by
  refine jb_CofJ (ini := false) (by decide +kernel) (fun h => by cases h) (Nat.le_of_ble_eq_true rfl) ?_
  show jb_J sc RX12 cX12_voice 5 (Option.some .int) false 5 0 0 0 [some (.ref 105), some (.int (nI p)), some (.int 1), some (.int x), none] [] [s0, s1, s2, s3, s4, s5, s6, s7, s8, s9, jb_mdl I J d e kp nm W, s11] _
  have hd0 := hd
  have hk0 := hk
  obtain ⟨e0, e1, e2, e3, e4, e5, e6, dv, ds, dd⟩ := hd
  obtain ⟨k0, k1, k2, k3, k4, k5, k6, k7, kv, ks, kd⟩ := hk
  have q0 := kv p hp
  refine jb_aload_n (pc' := 1) dX12_voice_0 rfl rfl ?_
  refine jb_iload_n (pc' := 2) dX12_voice_1 rfl rfl ?_
  refine jb_callV (pc' := 5) (ci := 12) (q := 105) (As := [.int (nI p)]) (a2 := 0) (b2 := 0) wv_X12_149 rfl dX12_voice_2 (c_isVoiceG I J d e kp nm W hd0 hk0 p (by omega)) rfl rfl ⟨by decide, Nat.le_of_eq (Nat.zero_add _), Nat.le_of_eq (Nat.zero_add _)⟩ (Nat.le_of_ble_eq_true rfl) rfl (fun r h9 hq => ?_)
  obtain ⟨rfl, rfl⟩ := hq
  show jb_J _ RX12 cX12_voice 5 (Option.some .int) false 5 0 0 5 [some (.ref 105), some (.int (nI p)), some (.int 1), some (.int x), none] [.int 1] [s0, s1, s2, s3, s4, s5, s6, s7, s8, s9, jb_mdl I J d e kp nm W, s11] _
  refine jb_if_eq (tgt := 20) (pc' := 8) dX12_voice_5 (by decide) rfl (fun z => absurd z (by decide)) (fun _ => ?_)
  refine jb_iload_n (pc' := 9) dX12_voice_8 rfl rfl ?_
  refine jb_i2l (pc' := 10) dX12_voice_9 rfl ?_
  refine jb_lconst (pc' := 11) 0 dX12_voice_10 (by decide) rfl ?_
  refine jb_ldc2 (pc' := 14) 3 dX12_voice_11 wk_X12_152 rfl ?_
  refine jb_callS (pc' := 17) (As := [.long ((1 : Int32).toInt64), .long 0, .long 3]) (a2 := 0) (b2 := 0) wv_X12_56 dX12_voice_14 (c_inLG _ 1 0 3 (by omega) (by omega) (by omega)) rfl ⟨by decide, Nat.le_of_eq (Nat.zero_add _), Nat.le_of_eq (Nat.zero_add _)⟩ (Nat.le_of_ble_eq_true rfl) rfl (fun r h9 hq => ?_)
  obtain ⟨rfl, rfl⟩ := hq
  show jb_J _ RX12 cX12_voice 5 (Option.some .int) false 5 0 0 17 [some (.ref 105), some (.int (nI p)), some (.int 1), some (.int x), none] [.int 1] [s0, s1, s2, s3, s4, s5, s6, s7, s8, s9, jb_mdl I J d e kp nm W, s11] _
  refine jb_if_ne (tgt := 26) (pc' := 20) dX12_voice_17 (by decide) rfl (fun _ => ?_) (fun z => absurd z (by decide))
  refine jb_aload_n (pc' := 27) dX12_voice_26 rfl rfl ?_
  refine jb_iconst (pc' := 28) 0 dX12_voice_27 (by decide) rfl ?_
  refine pf_X12_259 (pc' := 31) (h' := [s0, s1, s2, s3, s4, s5, s6, s7, s8, s9, jb_mdl (upd I 3 0) J d e kp nm W, s11]) dX12_voice_28 (fun _ => ⟨rfl, rfl⟩) rfl (Nat.le_of_ble_eq_true rfl) rfl rfl ?_
  refine jb_aload_n (pc' := 32) dX12_voice_31 rfl rfl ?_
  refine jb_iload_n (pc' := 33) dX12_voice_32 rfl rfl ?_
  refine pf_X12_262 (pc' := 36) (h' := [s0, s1, s2, s3, s4, s5, s6, s7, s8, s9, jb_mdl (upd (upd I 3 0) 4 (nI p)) J d e kp nm W, s11]) dX12_voice_33 (fun _ => ⟨rfl, rfl⟩) rfl (Nat.le_of_ble_eq_true rfl) rfl rfl ?_
  refine jb_aload_n (pc' := 37) dX12_voice_36 rfl rfl ?_
  refine jb_callV (pc' := 40) (ci := 12) (q := 105) (As := []) (a2 := 0) (b2 := 0) wv_X12_271 rfl dX12_voice_37 (c_own (upd (upd I 3 0) 4 (nI p)) J d e kp nm W hd0 hk0 p hp rfl) rfl rfl ⟨by decide, Nat.le_of_eq (Nat.zero_add _), Nat.le_of_eq (Nat.zero_add _)⟩ (Nat.le_of_ble_eq_true rfl) rfl (fun r h9 hq => ?_)
  obtain ⟨rfl, rfl⟩ := hq
  rw [hkd]
  show jb_J _ RX12 cX12_voice 5 (Option.some .int) false 5 0 0 40 [some (.ref 105), some (.int (nI p)), some (.int 1), some (.int x), none] [.int 2] [s0, s1, s2, s3, s4, s5, s6, s7, s8, s9, jb_mdl (upd (upd I 3 0) 4 (nI p)) J d e kp nm W, s11] _
  refine jb_istore_ (pc' := 42) dX12_voice_40 (by decide) (jb_at4 rfl) rfl ?_
  refine jb_iload_n (pc' := 43) dX12_voice_42 rfl rfl ?_
  refine jb_if_ne (tgt := 56) (pc' := 46) dX12_voice_43 (by decide) rfl (fun _ => ?_) (fun z => absurd z (by decide))
  refine jb_iload_n (pc' := 57) dX12_voice_56 rfl rfl ?_
  refine jb_iconst (pc' := 58) 1 dX12_voice_57 (by decide) rfl ?_
  refine jb_icmp_ne (tgt := 71) (pc' := 61) dX12_voice_58 (by decide) rfl (fun z => absurd (by decide) z) (fun _ => ?_)
  refine jb_aload_n (pc' := 62) dX12_voice_61 rfl rfl ?_
  refine jb_iload (pc' := 64) dX12_voice_62 rfl rfl ?_
  refine jb_iload_n (pc' := 65) dX12_voice_64 rfl rfl ?_
  refine jb_callV (pc' := 68) (ci := 12) (q := 105) (As := [.int 2, .int x]) (a2 := 0) (b2 := 0) wv_X12_274 rfl dX12_voice_65 (cm_hears_2_2 (upd (upd I 3 0) 4 (nI p)) J d e kp nm W hd0 hk0 p hp hkd rfl 0 rfl (by omega) x) rfl rfl ⟨by decide, Nat.le_of_eq (Nat.zero_add _), Nat.le_of_eq (Nat.zero_add _)⟩ (Nat.le_of_ble_eq_true rfl) rfl (fun r h9 hq => ?_)
  obtain ⟨rfl, I9, W9, hI9, h39, hW9, hT9, rfl⟩ := hq
  show jb_J _ RX12 cX12_voice 5 (Option.some .int) false 5 0 0 68 [some (.ref 105), some (.int (nI p)), some (.int 1), some (.int x), some (.int 2)] [.int ((((x) + (nI p)) * 3) * 2)] [s0, s1, s2, s3, s4, s5, s6, s7, s8, s9, jb_mdl I9 J d e kp nm W9, s11] _
  refine jb_goto (pc' := 93) dX12_voice_68 (by decide) ?_
  refine jb_iret dX12_voice_93 rfl ?_
  exact ⟨rfl, I9, W9, hI9 0 (by decide), by rw [h39], hW9, hT9, rfl⟩
set_option maxRecDepth 100000 in
set_option maxHeartbeats 4000000 in
theorem mx_voice2_2 {sc : Nat × (Nat → Int32)} {s0 s1 s2 s3 s4 s5 s6 s7 s8 s9 s11 : List va_E} {V : Nat → Nat → Nat} (I J d e kp nm : Nat → Int32) (W : Nat → Nat → Int32) (hd : jd_ V d) (hk : jv_ok V) (p : Nat) (hp : p < V 0 1) (hkd : V 1 p = 2) (x : Int32) : jb_C sc yX12_voice cX12_voice 5 (Option.some .int) 3 0 0 [.ref 105, .int (nI p), .int 2, .int x] [s0, s1, s2, s3, s4, s5, s6, s7, s8, s9, jb_mdl I J d e kp nm W, s11] (fun r h9 => r = some (.int ((x) - (nI (V 2 p)))) ∧ ∃ I9 W9, I9 0 = I 0 ∧ I9 3 = nI 1 ∧ (∀ r, ¬ r = 10 → W9 r = W r) ∧ W9 10 = jp_wr (W 10) 0 [12] ∧ h9 = [s0, s1, s2, s3, s4, s5, s6, s7, s8, s9, jb_mdl I9 J d e kp nm W9, s11]) := by
  refine jb_CofJ (ini := false) (by decide +kernel) (fun h => by cases h) (Nat.le_of_ble_eq_true rfl) ?_
  show jb_J sc RX12 cX12_voice 5 (Option.some .int) false 3 0 0 0 [some (.ref 105), some (.int (nI p)), some (.int 2), some (.int x), none] [] [s0, s1, s2, s3, s4, s5, s6, s7, s8, s9, jb_mdl I J d e kp nm W, s11] _
  have hd0 := hd
  have hk0 := hk
  obtain ⟨e0, e1, e2, e3, e4, e5, e6, dv, ds, dd⟩ := hd
  obtain ⟨k0, k1, k2, k3, k4, k5, k6, k7, kv, ks, kd⟩ := hk
  have q0 := kv p hp
  refine jb_aload_n (pc' := 1) dX12_voice_0 rfl rfl ?_
  refine jb_iload_n (pc' := 2) dX12_voice_1 rfl rfl ?_
  refine jb_callV (pc' := 5) (ci := 12) (q := 105) (As := [.int (nI p)]) (a2 := 0) (b2 := 0) wv_X12_149 rfl dX12_voice_2 (c_isVoiceG I J d e kp nm W hd0 hk0 p (by omega)) rfl rfl ⟨by decide, Nat.le_of_eq (Nat.zero_add _), Nat.le_of_eq (Nat.zero_add _)⟩ (Nat.le_of_ble_eq_true rfl) rfl (fun r h9 hq => ?_)
  obtain ⟨rfl, rfl⟩ := hq
  show jb_J _ RX12 cX12_voice 5 (Option.some .int) false 3 0 0 5 [some (.ref 105), some (.int (nI p)), some (.int 2), some (.int x), none] [.int 1] [s0, s1, s2, s3, s4, s5, s6, s7, s8, s9, jb_mdl I J d e kp nm W, s11] _
  refine jb_if_eq (tgt := 20) (pc' := 8) dX12_voice_5 (by decide) rfl (fun z => absurd z (by decide)) (fun _ => ?_)
  refine jb_iload_n (pc' := 9) dX12_voice_8 rfl rfl ?_
  refine jb_i2l (pc' := 10) dX12_voice_9 rfl ?_
  refine jb_lconst (pc' := 11) 0 dX12_voice_10 (by decide) rfl ?_
  refine jb_ldc2 (pc' := 14) 3 dX12_voice_11 wk_X12_152 rfl ?_
  refine jb_callS (pc' := 17) (As := [.long ((2 : Int32).toInt64), .long 0, .long 3]) (a2 := 0) (b2 := 0) wv_X12_56 dX12_voice_14 (c_inLG _ 2 0 3 (by omega) (by omega) (by omega)) rfl ⟨by decide, Nat.le_of_eq (Nat.zero_add _), Nat.le_of_eq (Nat.zero_add _)⟩ (Nat.le_of_ble_eq_true rfl) rfl (fun r h9 hq => ?_)
  obtain ⟨rfl, rfl⟩ := hq
  show jb_J _ RX12 cX12_voice 5 (Option.some .int) false 3 0 0 17 [some (.ref 105), some (.int (nI p)), some (.int 2), some (.int x), none] [.int 1] [s0, s1, s2, s3, s4, s5, s6, s7, s8, s9, jb_mdl I J d e kp nm W, s11] _
  refine jb_if_ne (tgt := 26) (pc' := 20) dX12_voice_17 (by decide) rfl (fun _ => ?_) (fun z => absurd z (by decide))
  refine jb_aload_n (pc' := 27) dX12_voice_26 rfl rfl ?_
  refine jb_iconst (pc' := 28) 0 dX12_voice_27 (by decide) rfl ?_
  refine pf_X12_259 (pc' := 31) (h' := [s0, s1, s2, s3, s4, s5, s6, s7, s8, s9, jb_mdl (upd I 3 0) J d e kp nm W, s11]) dX12_voice_28 (fun _ => ⟨rfl, rfl⟩) rfl (Nat.le_of_ble_eq_true rfl) rfl rfl ?_
  refine jb_aload_n (pc' := 32) dX12_voice_31 rfl rfl ?_
  refine jb_iload_n (pc' := 33) dX12_voice_32 rfl rfl ?_
  refine pf_X12_262 (pc' := 36) (h' := [s0, s1, s2, s3, s4, s5, s6, s7, s8, s9, jb_mdl (upd (upd I 3 0) 4 (nI p)) J d e kp nm W, s11]) dX12_voice_33 (fun _ => ⟨rfl, rfl⟩) rfl (Nat.le_of_ble_eq_true rfl) rfl rfl ?_
  refine jb_aload_n (pc' := 37) dX12_voice_36 rfl rfl ?_
  refine jb_callV (pc' := 40) (ci := 12) (q := 105) (As := []) (a2 := 0) (b2 := 0) wv_X12_271 rfl dX12_voice_37 (c_own (upd (upd I 3 0) 4 (nI p)) J d e kp nm W hd0 hk0 p hp rfl) rfl rfl ⟨by decide, Nat.le_of_eq (Nat.zero_add _), Nat.le_of_eq (Nat.zero_add _)⟩ (Nat.le_of_ble_eq_true rfl) rfl (fun r h9 hq => ?_)
  obtain ⟨rfl, rfl⟩ := hq
  rw [hkd]
  show jb_J _ RX12 cX12_voice 5 (Option.some .int) false 3 0 0 40 [some (.ref 105), some (.int (nI p)), some (.int 2), some (.int x), none] [.int 2] [s0, s1, s2, s3, s4, s5, s6, s7, s8, s9, jb_mdl (upd (upd I 3 0) 4 (nI p)) J d e kp nm W, s11] _
  refine jb_istore_ (pc' := 42) dX12_voice_40 (by decide) (jb_at4 rfl) rfl ?_
  refine jb_iload_n (pc' := 43) dX12_voice_42 rfl rfl ?_
  refine jb_if_ne (tgt := 56) (pc' := 46) dX12_voice_43 (by decide) rfl (fun _ => ?_) (fun z => absurd z (by decide))
  refine jb_iload_n (pc' := 57) dX12_voice_56 rfl rfl ?_
  refine jb_iconst (pc' := 58) 1 dX12_voice_57 (by decide) rfl ?_
  refine jb_icmp_ne (tgt := 71) (pc' := 61) dX12_voice_58 (by decide) rfl (fun _ => ?_) (fun z => absurd z (by decide))
  refine jb_iload_n (pc' := 72) dX12_voice_71 rfl rfl ?_
  refine jb_iconst (pc' := 73) 2 dX12_voice_72 (by decide) rfl ?_
  refine jb_icmp_ne (tgt := 86) (pc' := 76) dX12_voice_73 (by decide) rfl (fun z => absurd (by decide) z) (fun _ => ?_)
  refine jb_aload_n (pc' := 77) dX12_voice_76 rfl rfl ?_
  refine jb_iload (pc' := 79) dX12_voice_77 rfl rfl ?_
  refine jb_iload_n (pc' := 80) dX12_voice_79 rfl rfl ?_
  refine jb_callV (pc' := 83) (ci := 12) (q := 105) (As := [.int 2, .int x]) (a2 := 0) (b2 := 0) wv_X12_277 rfl dX12_voice_80 (cm_waits_2_2 (upd (upd I 3 0) 4 (nI p)) J d e kp nm W hd0 hk0 p hp hkd rfl 0 rfl (by omega) x) rfl rfl ⟨by decide, Nat.le_of_eq (Nat.zero_add _), Nat.le_of_eq (Nat.zero_add _)⟩ (Nat.le_of_ble_eq_true rfl) rfl (fun r h9 hq => ?_)
  obtain ⟨rfl, I9, W9, hI9, h39, hW9, hT9, rfl⟩ := hq
  show jb_J _ RX12 cX12_voice 5 (Option.some .int) false 3 0 0 83 [some (.ref 105), some (.int (nI p)), some (.int 2), some (.int x), some (.int 2)] [.int ((x) - (nI (V 2 p)))] [s0, s1, s2, s3, s4, s5, s6, s7, s8, s9, jb_mdl I9 J d e kp nm W9, s11] _
  refine jb_goto (pc' := 93) dX12_voice_83 (by decide) ?_
  refine jb_iret dX12_voice_93 rfl ?_
  exact ⟨rfl, I9, W9, hI9 0 (by decide), by rw [h39], hW9, hT9, rfl⟩
set_option maxRecDepth 100000 in
set_option maxHeartbeats 4000000 in
theorem mx_voice3_2 {sc : Nat × (Nat → Int32)} {s0 s1 s2 s3 s4 s5 s6 s7 s8 s9 s11 : List va_E} {V : Nat → Nat → Nat} (I J d e kp nm : Nat → Int32) (W : Nat → Nat → Int32) (hd : jd_ V d) (hk : jv_ok V) (p : Nat) (hp : p < V 0 1) (hkd : V 1 p = 2) (x : Int32) : jb_C sc yX12_voice cX12_voice 5 (Option.some .int) 7 0 0 [.ref 105, .int (nI p), .int 3, .int x] [s0, s1, s2, s3, s4, s5, s6, s7, s8, s9, jb_mdl I J d e kp nm W, s11] (fun r h9 => r = some (.int (((((x) + (nI p)) * 3) * 2) ^^^ ((x) - (nI (V 2 p))))) ∧ ∃ I9 W9, I9 0 = I 0 ∧ I9 3 = nI 5 ∧ (∀ r, ¬ r = 10 → W9 r = W r) ∧ W9 10 = jp_wr (W 10) 0 [13, 11, 30, 10, 12] ∧ h9 = [s0, s1, s2, s3, s4, s5, s6, s7, s8, s9, jb_mdl I9 J d e kp nm W9, s11]) := by
  refine jb_CofJ (ini := false) (by decide +kernel) (fun h => by cases h) (Nat.le_of_ble_eq_true rfl) ?_
  show jb_J sc RX12 cX12_voice 5 (Option.some .int) false 7 0 0 0 [some (.ref 105), some (.int (nI p)), some (.int 3), some (.int x), none] [] [s0, s1, s2, s3, s4, s5, s6, s7, s8, s9, jb_mdl I J d e kp nm W, s11] _
  have hd0 := hd
  have hk0 := hk
  obtain ⟨e0, e1, e2, e3, e4, e5, e6, dv, ds, dd⟩ := hd
  obtain ⟨k0, k1, k2, k3, k4, k5, k6, k7, kv, ks, kd⟩ := hk
  have q0 := kv p hp
  refine jb_aload_n (pc' := 1) dX12_voice_0 rfl rfl ?_
  refine jb_iload_n (pc' := 2) dX12_voice_1 rfl rfl ?_
  refine jb_callV (pc' := 5) (ci := 12) (q := 105) (As := [.int (nI p)]) (a2 := 0) (b2 := 0) wv_X12_149 rfl dX12_voice_2 (c_isVoiceG I J d e kp nm W hd0 hk0 p (by omega)) rfl rfl ⟨by decide, Nat.le_of_eq (Nat.zero_add _), Nat.le_of_eq (Nat.zero_add _)⟩ (Nat.le_of_ble_eq_true rfl) rfl (fun r h9 hq => ?_)
  obtain ⟨rfl, rfl⟩ := hq
  show jb_J _ RX12 cX12_voice 5 (Option.some .int) false 7 0 0 5 [some (.ref 105), some (.int (nI p)), some (.int 3), some (.int x), none] [.int 1] [s0, s1, s2, s3, s4, s5, s6, s7, s8, s9, jb_mdl I J d e kp nm W, s11] _
  refine jb_if_eq (tgt := 20) (pc' := 8) dX12_voice_5 (by decide) rfl (fun z => absurd z (by decide)) (fun _ => ?_)
  refine jb_iload_n (pc' := 9) dX12_voice_8 rfl rfl ?_
  refine jb_i2l (pc' := 10) dX12_voice_9 rfl ?_
  refine jb_lconst (pc' := 11) 0 dX12_voice_10 (by decide) rfl ?_
  refine jb_ldc2 (pc' := 14) 3 dX12_voice_11 wk_X12_152 rfl ?_
  refine jb_callS (pc' := 17) (As := [.long ((3 : Int32).toInt64), .long 0, .long 3]) (a2 := 0) (b2 := 0) wv_X12_56 dX12_voice_14 (c_inLG _ 3 0 3 (by omega) (by omega) (by omega)) rfl ⟨by decide, Nat.le_of_eq (Nat.zero_add _), Nat.le_of_eq (Nat.zero_add _)⟩ (Nat.le_of_ble_eq_true rfl) rfl (fun r h9 hq => ?_)
  obtain ⟨rfl, rfl⟩ := hq
  show jb_J _ RX12 cX12_voice 5 (Option.some .int) false 7 0 0 17 [some (.ref 105), some (.int (nI p)), some (.int 3), some (.int x), none] [.int 1] [s0, s1, s2, s3, s4, s5, s6, s7, s8, s9, jb_mdl I J d e kp nm W, s11] _
  refine jb_if_ne (tgt := 26) (pc' := 20) dX12_voice_17 (by decide) rfl (fun _ => ?_) (fun z => absurd z (by decide))
  refine jb_aload_n (pc' := 27) dX12_voice_26 rfl rfl ?_
  refine jb_iconst (pc' := 28) 0 dX12_voice_27 (by decide) rfl ?_
  refine pf_X12_259 (pc' := 31) (h' := [s0, s1, s2, s3, s4, s5, s6, s7, s8, s9, jb_mdl (upd I 3 0) J d e kp nm W, s11]) dX12_voice_28 (fun _ => ⟨rfl, rfl⟩) rfl (Nat.le_of_ble_eq_true rfl) rfl rfl ?_
  refine jb_aload_n (pc' := 32) dX12_voice_31 rfl rfl ?_
  refine jb_iload_n (pc' := 33) dX12_voice_32 rfl rfl ?_
  refine pf_X12_262 (pc' := 36) (h' := [s0, s1, s2, s3, s4, s5, s6, s7, s8, s9, jb_mdl (upd (upd I 3 0) 4 (nI p)) J d e kp nm W, s11]) dX12_voice_33 (fun _ => ⟨rfl, rfl⟩) rfl (Nat.le_of_ble_eq_true rfl) rfl rfl ?_
  refine jb_aload_n (pc' := 37) dX12_voice_36 rfl rfl ?_
  refine jb_callV (pc' := 40) (ci := 12) (q := 105) (As := []) (a2 := 0) (b2 := 0) wv_X12_271 rfl dX12_voice_37 (c_own (upd (upd I 3 0) 4 (nI p)) J d e kp nm W hd0 hk0 p hp rfl) rfl rfl ⟨by decide, Nat.le_of_eq (Nat.zero_add _), Nat.le_of_eq (Nat.zero_add _)⟩ (Nat.le_of_ble_eq_true rfl) rfl (fun r h9 hq => ?_)
  obtain ⟨rfl, rfl⟩ := hq
  rw [hkd]
  show jb_J _ RX12 cX12_voice 5 (Option.some .int) false 7 0 0 40 [some (.ref 105), some (.int (nI p)), some (.int 3), some (.int x), none] [.int 2] [s0, s1, s2, s3, s4, s5, s6, s7, s8, s9, jb_mdl (upd (upd I 3 0) 4 (nI p)) J d e kp nm W, s11] _
  refine jb_istore_ (pc' := 42) dX12_voice_40 (by decide) (jb_at4 rfl) rfl ?_
  refine jb_iload_n (pc' := 43) dX12_voice_42 rfl rfl ?_
  refine jb_if_ne (tgt := 56) (pc' := 46) dX12_voice_43 (by decide) rfl (fun _ => ?_) (fun z => absurd z (by decide))
  refine jb_iload_n (pc' := 57) dX12_voice_56 rfl rfl ?_
  refine jb_iconst (pc' := 58) 1 dX12_voice_57 (by decide) rfl ?_
  refine jb_icmp_ne (tgt := 71) (pc' := 61) dX12_voice_58 (by decide) rfl (fun _ => ?_) (fun z => absurd z (by decide))
  refine jb_iload_n (pc' := 72) dX12_voice_71 rfl rfl ?_
  refine jb_iconst (pc' := 73) 2 dX12_voice_72 (by decide) rfl ?_
  refine jb_icmp_ne (tgt := 86) (pc' := 76) dX12_voice_73 (by decide) rfl (fun _ => ?_) (fun z => absurd z (by decide))
  refine jb_aload_n (pc' := 87) dX12_voice_86 rfl rfl ?_
  refine jb_iload (pc' := 89) dX12_voice_87 rfl rfl ?_
  refine jb_iload_n (pc' := 90) dX12_voice_89 rfl rfl ?_
  refine jb_callV (pc' := 93) (ci := 12) (q := 105) (As := [.int 2, .int x]) (a2 := 0) (b2 := 0) wv_X12_280 rfl dX12_voice_90 (cm_tells_2_2 (upd (upd I 3 0) 4 (nI p)) J d e kp nm W hd0 hk0 p hp hkd rfl 0 rfl (by omega) x) rfl rfl ⟨by decide, Nat.le_of_eq (Nat.zero_add _), Nat.le_of_eq (Nat.zero_add _)⟩ (Nat.le_of_ble_eq_true rfl) rfl (fun r h9 hq => ?_)
  obtain ⟨rfl, I9, W9, hI9, h39, hW9, hT9, rfl⟩ := hq
  show jb_J _ RX12 cX12_voice 5 (Option.some .int) false 7 0 0 93 [some (.ref 105), some (.int (nI p)), some (.int 3), some (.int x), some (.int 2)] [.int (((((x) + (nI p)) * 3) * 2) ^^^ ((x) - (nI (V 2 p))))] [s0, s1, s2, s3, s4, s5, s6, s7, s8, s9, jb_mdl I9 J d e kp nm W9, s11] _
  refine jb_iret dX12_voice_93 rfl ?_
  exact ⟨rfl, I9, W9, hI9 0 (by decide), by rw [h39], hW9, hT9, rfl⟩
set_option maxRecDepth 100000 in
set_option maxHeartbeats 4000000 in
theorem cm_calls_0_3 {sc : Nat × (Nat → Int32)} {s0 s1 s2 s3 s4 s5 s6 s7 s8 s9 s11 : List va_E} {V : Nat → Nat → Nat} (I J d e kp nm : Nat → Int32) (W : Nat → Nat → Int32) (hd : jd_ V d) (hk : jv_ok V) (p : Nat) (hp : p < V 0 1) (hkd : V 1 p = 3) (h4 : I 4 = nI p) (t9 : Nat) (h3 : I 3 = nI t9) (ht : t9 + 1 ≤ 40) (x : Int32) : jb_C sc yX12_calls cX12_calls 3 (Option.some .int) 1 0 0 [.ref 105, .int 0, .int x] [s0, s1, s2, s3, s4, s5, s6, s7, s8, s9, jb_mdl I J d e kp nm W, s11] (fun r h9 => r = some (.int ((x) + (nI p))) ∧ ∃ I9 W9, (∀ j, ¬ j = 3 → I9 j = I j) ∧ I9 3 = nI (t9 + 1) ∧ (∀ r, ¬ r = 10 → W9 r = W r) ∧ W9 10 = jp_wr (W 10) t9 [10] ∧ h9 = [s0, s1, s2, s3, s4, s5, s6, s7, s8, s9, jb_mdl I9 J d e kp nm W9, s11]) := by
  refine jb_CofJ (ini := false) (by decide +kernel) (fun h => by cases h) (Nat.le_of_ble_eq_true rfl) ?_
  show jb_J sc RX12 cX12_calls 3 (Option.some .int) false 1 0 0 0 [some (.ref 105), some (.int 0), some (.int x)] [] [s0, s1, s2, s3, s4, s5, s6, s7, s8, s9, jb_mdl I J d e kp nm W, s11] _
  have gI0 : ∀ j, ¬ j = 3 → I j = I j := fun _ _ => rfl
  have gW0 : ∀ r, ¬ r = 10 → W r = W r := fun _ _ => rfl
  have gT0 : W 10 = jp_wr (W 10) t9 [] := rfl
  refine jb_iload_n (pc' := 1) dX12_calls_0 rfl rfl ?_
  refine jb_lookup (pc' := 28) (off := 27) dX12_calls_1 (by decide +kernel) (by decide +kernel) (by decide) ?_
  refine jb_aload_n (pc' := 29) dX12_calls_28 rfl rfl ?_
  refine jb_bipush (pc' := 31) 10 dX12_calls_29 (by decide) rfl ?_
  refine jb_callV (pc' := 34) (ci := 12) (q := 105) (As := [.int 10]) (a2 := 0) (b2 := 0) wv_X12_265 rfl dX12_calls_31 (c_ran I J d e kp nm W t9 h3 (by omega) 10) rfl rfl ⟨by decide, Nat.le_of_eq (Nat.zero_add _), Nat.le_of_eq (Nat.zero_add _)⟩ (Nat.le_of_ble_eq_true rfl) rfl (fun r h9 hq => ?_)
  obtain ⟨rfl, I1, W1, hI1, h31, hW1, hT1, rfl⟩ := hq
  have gI1 : ∀ j, ¬ j = 3 → I1 j = I j := fun j hj => (hI1 j hj).trans (gI0 j hj)
  have gW1 : ∀ r, ¬ r = 10 → W1 r = W r := fun r hr => (hW1 r hr).trans (gW0 r hr)
  have gT1 : W1 10 = jp_wr (W 10) t9 [10] := hT1.trans (by first | rfl | (rw [gT0]; done) | (rw [gT0]; rfl))
  show jb_J _ RX12 cX12_calls 3 (Option.some .int) false 1 0 0 34 [some (.ref 105), some (.int 0), some (.int x)] [] [s0, s1, s2, s3, s4, s5, s6, s7, s8, s9, jb_mdl I1 J d e kp nm W1, s11] _
  refine jb_iload_n (pc' := 35) dX12_calls_34 rfl rfl ?_
  refine jb_aload_n (pc' := 36) dX12_calls_35 rfl rfl ?_
  refine gf_X12_262 (pc' := 39) (v := .int (I1 4)) dX12_calls_36 rfl rfl rfl ?_
  refine jb_top (v := .int (I1 4)) (w := .int (nI p)) (jb_vI ((gI1 4 (by decide)).trans h4)) ?_
  refine jb_iadd (pc' := 40) dX12_calls_39 rfl ?_
  refine jb_iret dX12_calls_40 rfl ?_
  exact ⟨rfl, I1, W1, gI1, h31, gW1, gT1, rfl⟩
set_option maxRecDepth 100000 in
set_option maxHeartbeats 4000000 in
theorem cm_calls_3_3 {sc : Nat × (Nat → Int32)} {s0 s1 s2 s3 s4 s5 s6 s7 s8 s9 s11 : List va_E} {V : Nat → Nat → Nat} (I J d e kp nm : Nat → Int32) (W : Nat → Nat → Int32) (hd : jd_ V d) (hk : jv_ok V) (p : Nat) (hp : p < V 0 1) (hkd : V 1 p = 3) (h4 : I 4 = nI p) (t9 : Nat) (h3 : I 3 = nI t9) (ht : t9 + 1 ≤ 40) (x : Int32) : jb_C sc yX12_calls cX12_calls 3 (Option.some .int) 2 0 0 [.ref 105, .int 3, .int x] [s0, s1, s2, s3, s4, s5, s6, s7, s8, s9, jb_mdl I J d e kp nm W, s11] (fun r h9 => r = some (.int ((x) + (nI p))) ∧ ∃ I9 W9, (∀ j, ¬ j = 3 → I9 j = I j) ∧ I9 3 = nI (t9 + 1) ∧ (∀ r, ¬ r = 10 → W9 r = W r) ∧ W9 10 = jp_wr (W 10) t9 [10] ∧ h9 = [s0, s1, s2, s3, s4, s5, s6, s7, s8, s9, jb_mdl I9 J d e kp nm W9, s11]) := by
  refine jb_CofJ (ini := false) (by decide +kernel) (fun h => by cases h) (Nat.le_of_ble_eq_true rfl) ?_
  show jb_J sc RX12 cX12_calls 3 (Option.some .int) false 2 0 0 0 [some (.ref 105), some (.int 3), some (.int x)] [] [s0, s1, s2, s3, s4, s5, s6, s7, s8, s9, jb_mdl I J d e kp nm W, s11] _
  have gI0 : ∀ j, ¬ j = 3 → I j = I j := fun _ _ => rfl
  have gW0 : ∀ r, ¬ r = 10 → W r = W r := fun _ _ => rfl
  have gT0 : W 10 = jp_wr (W 10) t9 [] := rfl
  refine jb_iload_n (pc' := 1) dX12_calls_0 rfl rfl ?_
  refine jb_lookup (pc' := 59) (off := 58) dX12_calls_1 (by decide +kernel) (by decide +kernel) (by decide) ?_
  refine jb_aload_n (pc' := 60) dX12_calls_59 rfl rfl ?_
  refine jb_iload_n (pc' := 61) dX12_calls_60 rfl rfl ?_
  refine jb_callS (pc' := 64) (As := [.int 3]) (a2 := 0) (b2 := 0) wv_X12_168 dX12_calls_61 (c_above 3 (by decide)) rfl ⟨by decide, Nat.le_of_eq (Nat.zero_add _), Nat.le_of_eq (Nat.zero_add _)⟩ (Nat.le_of_ble_eq_true rfl) rfl (fun r h9 hq => ?_)
  obtain ⟨rfl, rfl⟩ := hq
  show jb_J _ RX12 cX12_calls 3 (Option.some .int) false 2 0 0 64 [some (.ref 105), some (.int 3), some (.int x)] [.int 0, .ref 105] [s0, s1, s2, s3, s4, s5, s6, s7, s8, s9, jb_mdl I J d e kp nm W, s11] _
  refine jb_iload_n (pc' := 65) dX12_calls_64 rfl rfl ?_
  refine jb_callV (pc' := 68) (ci := 12) (q := 105) (As := [.int 0, .int x]) (a2 := 0) (b2 := 0) wv_X12_268 rfl dX12_calls_65 (cm_calls_0_3 I J d e kp nm W hd hk p hp hkd ((gI0 4 (by decide)).trans h4) t9 h3 (by omega) x) rfl rfl ⟨by decide, Nat.le_of_eq (Nat.zero_add _), Nat.le_of_eq (Nat.zero_add _)⟩ (Nat.le_of_ble_eq_true rfl) rfl (fun r h9 hq => ?_)
  obtain ⟨rfl, I1, W1, hI1, h31, hW1, hT1, rfl⟩ := hq
  have gI1 : ∀ j, ¬ j = 3 → I1 j = I j := fun j hj => (hI1 j hj).trans (gI0 j hj)
  have gW1 : ∀ r, ¬ r = 10 → W1 r = W r := fun r hr => (hW1 r hr).trans (gW0 r hr)
  have gT1 : W1 10 = jp_wr (W 10) t9 [10] := hT1.trans (by first | rfl | (rw [gT0]; done) | (rw [gT0]; rfl))
  show jb_J _ RX12 cX12_calls 3 (Option.some .int) false 2 0 0 68 [some (.ref 105), some (.int 3), some (.int x)] [.int ((x) + (nI p))] [s0, s1, s2, s3, s4, s5, s6, s7, s8, s9, jb_mdl I1 J d e kp nm W1, s11] _
  refine jb_iret dX12_calls_68 rfl ?_
  exact ⟨rfl, I1, W1, gI1, h31, gW1, gT1, rfl⟩
set_option maxRecDepth 100000 in
set_option maxHeartbeats 4000000 in
theorem cm_waits_0_3 {sc : Nat × (Nat → Int32)} {s0 s1 s2 s3 s4 s5 s6 s7 s8 s9 s11 : List va_E} {V : Nat → Nat → Nat} (I J d e kp nm : Nat → Int32) (W : Nat → Nat → Int32) (hd : jd_ V d) (hk : jv_ok V) (p : Nat) (hp : p < V 0 1) (hkd : V 1 p = 3) (h4 : I 4 = nI p) (t9 : Nat) (h3 : I 3 = nI t9) (ht : t9 + 1 ≤ 40) (x : Int32) : jb_C sc yX12_waits cX12_waits 3 (Option.some .int) 1 0 0 [.ref 105, .int 0, .int x] [s0, s1, s2, s3, s4, s5, s6, s7, s8, s9, jb_mdl I J d e kp nm W, s11] (fun r h9 => r = some (.int ((x) - (nI (V 2 p)))) ∧ ∃ I9 W9, (∀ j, ¬ j = 3 → I9 j = I j) ∧ I9 3 = nI (t9 + 1) ∧ (∀ r, ¬ r = 10 → W9 r = W r) ∧ W9 10 = jp_wr (W 10) t9 [12] ∧ h9 = [s0, s1, s2, s3, s4, s5, s6, s7, s8, s9, jb_mdl I9 J d e kp nm W9, s11]) := by
  refine jb_CofJ (ini := false) (by decide +kernel) (fun h => by cases h) (Nat.le_of_ble_eq_true rfl) ?_
  show jb_J sc RX12 cX12_waits 3 (Option.some .int) false 1 0 0 0 [some (.ref 105), some (.int 0), some (.int x)] [] [s0, s1, s2, s3, s4, s5, s6, s7, s8, s9, jb_mdl I J d e kp nm W, s11] _
  have gI0 : ∀ j, ¬ j = 3 → I j = I j := fun _ _ => rfl
  have gW0 : ∀ r, ¬ r = 10 → W r = W r := fun _ _ => rfl
  have gT0 : W 10 = jp_wr (W 10) t9 [] := rfl
  refine jb_iload_n (pc' := 1) dX12_waits_0 rfl rfl ?_
  refine jb_lookup (pc' := 36) (off := 35) dX12_waits_1 (by decide +kernel) (by decide +kernel) (by decide) ?_
  refine jb_aload_n (pc' := 37) dX12_waits_36 rfl rfl ?_
  refine jb_bipush (pc' := 39) 12 dX12_waits_37 (by decide) rfl ?_
  refine jb_callV (pc' := 42) (ci := 12) (q := 105) (As := [.int 12]) (a2 := 0) (b2 := 0) wv_X12_265 rfl dX12_waits_39 (c_ran I J d e kp nm W t9 h3 (by omega) 12) rfl rfl ⟨by decide, Nat.le_of_eq (Nat.zero_add _), Nat.le_of_eq (Nat.zero_add _)⟩ (Nat.le_of_ble_eq_true rfl) rfl (fun r h9 hq => ?_)
  obtain ⟨rfl, I1, W1, hI1, h31, hW1, hT1, rfl⟩ := hq
  have gI1 : ∀ j, ¬ j = 3 → I1 j = I j := fun j hj => (hI1 j hj).trans (gI0 j hj)
  have gW1 : ∀ r, ¬ r = 10 → W1 r = W r := fun r hr => (hW1 r hr).trans (gW0 r hr)
  have gT1 : W1 10 = jp_wr (W 10) t9 [12] := hT1.trans (by first | rfl | (rw [gT0]; done) | (rw [gT0]; rfl))
  show jb_J _ RX12 cX12_waits 3 (Option.some .int) false 1 0 0 42 [some (.ref 105), some (.int 0), some (.int x)] [] [s0, s1, s2, s3, s4, s5, s6, s7, s8, s9, jb_mdl I1 J d e kp nm W1, s11] _
  refine jb_iload_n (pc' := 43) dX12_waits_42 rfl rfl ?_
  refine jb_aload_n (pc' := 44) dX12_waits_43 rfl rfl ?_
  refine jb_aload_n (pc' := 45) dX12_waits_44 rfl rfl ?_
  refine gf_X12_262 (pc' := 48) (v := .int (I1 4)) dX12_waits_45 rfl rfl rfl ?_
  refine jb_top (v := .int (I1 4)) (w := .int (nI p)) (jb_vI ((gI1 4 (by decide)).trans h4)) ?_
  refine jb_iconst (pc' := 49) 1 dX12_waits_48 (by decide) rfl ?_
  refine jb_callV (pc' := 52) (ci := 12) (q := 105) (As := [.int (nI p), .int 1]) (a2 := 0) (b2 := 0) wv_X12_145 rfl dX12_waits_49 (c_of1 I1 J d e kp nm W1 hd hk p hp) rfl rfl ⟨by decide, Nat.le_of_eq (Nat.zero_add _), Nat.le_of_eq (Nat.zero_add _)⟩ (Nat.le_of_ble_eq_true rfl) rfl (fun r h9 hq => ?_)
  obtain ⟨rfl, rfl⟩ := hq
  show jb_J _ RX12 cX12_waits 3 (Option.some .int) false 1 0 0 52 [some (.ref 105), some (.int 0), some (.int x)] [.int (nI (V 2 p)), .int x] [s0, s1, s2, s3, s4, s5, s6, s7, s8, s9, jb_mdl I1 J d e kp nm W1, s11] _
  refine jb_isub (pc' := 53) dX12_waits_52 rfl ?_
  refine jb_iret dX12_waits_53 rfl ?_
  exact ⟨rfl, I1, W1, gI1, h31, gW1, gT1, rfl⟩
set_option maxRecDepth 100000 in
set_option maxHeartbeats 4000000 in
theorem cm_waits_3_3 {sc : Nat × (Nat → Int32)} {s0 s1 s2 s3 s4 s5 s6 s7 s8 s9 s11 : List va_E} {V : Nat → Nat → Nat} (I J d e kp nm : Nat → Int32) (W : Nat → Nat → Int32) (hd : jd_ V d) (hk : jv_ok V) (p : Nat) (hp : p < V 0 1) (hkd : V 1 p = 3) (h4 : I 4 = nI p) (t9 : Nat) (h3 : I 3 = nI t9) (ht : t9 + 2 ≤ 40) (x : Int32) : jb_C sc yX12_waits cX12_waits 3 (Option.some .int) 2 0 0 [.ref 105, .int 3, .int x] [s0, s1, s2, s3, s4, s5, s6, s7, s8, s9, jb_mdl I J d e kp nm W, s11] (fun r h9 => r = some (.int (-((x) - (nI (V 2 p))))) ∧ ∃ I9 W9, (∀ j, ¬ j = 3 → I9 j = I j) ∧ I9 3 = nI (t9 + 2) ∧ (∀ r, ¬ r = 10 → W9 r = W r) ∧ W9 10 = jp_wr (W 10) t9 [40, 12] ∧ h9 = [s0, s1, s2, s3, s4, s5, s6, s7, s8, s9, jb_mdl I9 J d e kp nm W9, s11]) := by
  refine jb_CofJ (ini := false) (by decide +kernel) (fun h => by cases h) (Nat.le_of_ble_eq_true rfl) ?_
  show jb_J sc RX12 cX12_waits 3 (Option.some .int) false 2 0 0 0 [some (.ref 105), some (.int 3), some (.int x)] [] [s0, s1, s2, s3, s4, s5, s6, s7, s8, s9, jb_mdl I J d e kp nm W, s11] _
  have gI0 : ∀ j, ¬ j = 3 → I j = I j := fun _ _ => rfl
  have gW0 : ∀ r, ¬ r = 10 → W r = W r := fun _ _ => rfl
  have gT0 : W 10 = jp_wr (W 10) t9 [] := rfl
  refine jb_iload_n (pc' := 1) dX12_waits_0 rfl rfl ?_
  refine jb_lookup (pc' := 54) (off := 53) dX12_waits_1 (by decide +kernel) (by decide +kernel) (by decide) ?_
  refine jb_aload_n (pc' := 55) dX12_waits_54 rfl rfl ?_
  refine jb_bipush (pc' := 57) 40 dX12_waits_55 (by decide) rfl ?_
  refine jb_callV (pc' := 60) (ci := 12) (q := 105) (As := [.int 40]) (a2 := 0) (b2 := 0) wv_X12_265 rfl dX12_waits_57 (c_ran I J d e kp nm W t9 h3 (by omega) 40) rfl rfl ⟨by decide, Nat.le_of_eq (Nat.zero_add _), Nat.le_of_eq (Nat.zero_add _)⟩ (Nat.le_of_ble_eq_true rfl) rfl (fun r h9 hq => ?_)
  obtain ⟨rfl, I1, W1, hI1, h31, hW1, hT1, rfl⟩ := hq
  have gI1 : ∀ j, ¬ j = 3 → I1 j = I j := fun j hj => (hI1 j hj).trans (gI0 j hj)
  have gW1 : ∀ r, ¬ r = 10 → W1 r = W r := fun r hr => (hW1 r hr).trans (gW0 r hr)
  have gT1 : W1 10 = jp_wr (W 10) t9 [40] := hT1.trans (by first | rfl | (rw [gT0]; done) | (rw [gT0]; rfl))
  show jb_J _ RX12 cX12_waits 3 (Option.some .int) false 2 0 0 60 [some (.ref 105), some (.int 3), some (.int x)] [] [s0, s1, s2, s3, s4, s5, s6, s7, s8, s9, jb_mdl I1 J d e kp nm W1, s11] _
  refine jb_aload_n (pc' := 61) dX12_waits_60 rfl rfl ?_
  refine jb_iconst (pc' := 62) 3 dX12_waits_61 (by decide) rfl ?_
  refine jb_callS (pc' := 65) (As := [.int 3]) (a2 := 0) (b2 := 0) wv_X12_168 dX12_waits_62 (c_above 3 (by decide)) rfl ⟨by decide, Nat.le_of_eq (Nat.zero_add _), Nat.le_of_eq (Nat.zero_add _)⟩ (Nat.le_of_ble_eq_true rfl) rfl (fun r h9 hq => ?_)
  obtain ⟨rfl, rfl⟩ := hq
  show jb_J _ RX12 cX12_waits 3 (Option.some .int) false 2 0 0 65 [some (.ref 105), some (.int 3), some (.int x)] [.int 0, .ref 105] [s0, s1, s2, s3, s4, s5, s6, s7, s8, s9, jb_mdl I1 J d e kp nm W1, s11] _
  refine jb_iload_n (pc' := 66) dX12_waits_65 rfl rfl ?_
  refine jb_callV (pc' := 69) (ci := 12) (q := 105) (As := [.int 0, .int x]) (a2 := 0) (b2 := 0) wv_X12_277 rfl dX12_waits_66 (cm_waits_0_3 I1 J d e kp nm W1 hd hk p hp hkd ((gI1 4 (by decide)).trans h4) (t9 + 1) h31 (by omega) x) rfl rfl ⟨by decide, Nat.le_of_eq (Nat.zero_add _), Nat.le_of_eq (Nat.zero_add _)⟩ (Nat.le_of_ble_eq_true rfl) rfl (fun r h9 hq => ?_)
  obtain ⟨rfl, I2, W2, hI2, h32, hW2, hT2, rfl⟩ := hq
  have gI2 : ∀ j, ¬ j = 3 → I2 j = I j := fun j hj => (hI2 j hj).trans (gI1 j hj)
  have gW2 : ∀ r, ¬ r = 10 → W2 r = W r := fun r hr => (hW2 r hr).trans (gW1 r hr)
  have gT2 : W2 10 = jp_wr (W 10) t9 [40, 12] := hT2.trans (by first | rfl | (rw [gT1]; done) | (rw [gT1]; rfl))
  show jb_J _ RX12 cX12_waits 3 (Option.some .int) false 2 0 0 69 [some (.ref 105), some (.int 3), some (.int x)] [.int ((x) - (nI (V 2 p)))] [s0, s1, s2, s3, s4, s5, s6, s7, s8, s9, jb_mdl I2 J d e kp nm W2, s11] _
  refine jb_ineg (pc' := 70) dX12_waits_69 rfl ?_
  refine jb_iret dX12_waits_70 rfl ?_
  exact ⟨rfl, I2, W2, gI2, h32, gW2, gT2, rfl⟩
set_option maxRecDepth 100000 in
set_option maxHeartbeats 4000000 in
theorem cm_hears_0_3 {sc : Nat × (Nat → Int32)} {s0 s1 s2 s3 s4 s5 s6 s7 s8 s9 s11 : List va_E} {V : Nat → Nat → Nat} (I J d e kp nm : Nat → Int32) (W : Nat → Nat → Int32) (hd : jd_ V d) (hk : jv_ok V) (p : Nat) (hp : p < V 0 1) (hkd : V 1 p = 3) (h4 : I 4 = nI p) (t9 : Nat) (h3 : I 3 = nI t9) (ht : t9 + 2 ≤ 40) (x : Int32) : jb_C sc yX12_hears cX12_hears 4 (Option.some .int) 3 0 0 [.ref 105, .int 0, .int x] [s0, s1, s2, s3, s4, s5, s6, s7, s8, s9, jb_mdl I J d e kp nm W, s11] (fun r h9 => r = some (.int (((x) + (nI p)) * 2)) ∧ ∃ I9 W9, (∀ j, ¬ j = 3 → I9 j = I j) ∧ I9 3 = nI (t9 + 2) ∧ (∀ r, ¬ r = 10 → W9 r = W r) ∧ W9 10 = jp_wr (W 10) t9 [11, 10] ∧ h9 = [s0, s1, s2, s3, s4, s5, s6, s7, s8, s9, jb_mdl I9 J d e kp nm W9, s11]) := by
  refine jb_CofJ (ini := false) (by decide +kernel) (fun h => by cases h) (Nat.le_of_ble_eq_true rfl) ?_
  show jb_J sc RX12 cX12_hears 4 (Option.some .int) false 3 0 0 0 [some (.ref 105), some (.int 0), some (.int x), none] [] [s0, s1, s2, s3, s4, s5, s6, s7, s8, s9, jb_mdl I J d e kp nm W, s11] _
  have gI0 : ∀ j, ¬ j = 3 → I j = I j := fun _ _ => rfl
  have gW0 : ∀ r, ¬ r = 10 → W r = W r := fun _ _ => rfl
  have gT0 : W 10 = jp_wr (W 10) t9 [] := rfl
  refine jb_iload_n (pc' := 1) dX12_hears_0 rfl rfl ?_
  refine jb_tableIn (pc' := 36) (off := 35) dX12_hears_1 (by decide) (by decide) (by decide +kernel) (by decide) ?_
  refine jb_aload_n (pc' := 37) dX12_hears_36 rfl rfl ?_
  refine jb_bipush (pc' := 39) 11 dX12_hears_37 (by decide) rfl ?_
  refine jb_callV (pc' := 42) (ci := 12) (q := 105) (As := [.int 11]) (a2 := 0) (b2 := 0) wv_X12_265 rfl dX12_hears_39 (c_ran I J d e kp nm W t9 h3 (by omega) 11) rfl rfl ⟨by decide, Nat.le_of_eq (Nat.zero_add _), Nat.le_of_eq (Nat.zero_add _)⟩ (Nat.le_of_ble_eq_true rfl) rfl (fun r h9 hq => ?_)
  obtain ⟨rfl, I1, W1, hI1, h31, hW1, hT1, rfl⟩ := hq
  have gI1 : ∀ j, ¬ j = 3 → I1 j = I j := fun j hj => (hI1 j hj).trans (gI0 j hj)
  have gW1 : ∀ r, ¬ r = 10 → W1 r = W r := fun r hr => (hW1 r hr).trans (gW0 r hr)
  have gT1 : W1 10 = jp_wr (W 10) t9 [11] := hT1.trans (by first | rfl | (rw [gT0]; done) | (rw [gT0]; rfl))
  show jb_J _ RX12 cX12_hears 4 (Option.some .int) false 3 0 0 42 [some (.ref 105), some (.int 0), some (.int x), none] [] [s0, s1, s2, s3, s4, s5, s6, s7, s8, s9, jb_mdl I1 J d e kp nm W1, s11] _
  refine jb_aload_n (pc' := 43) dX12_hears_42 rfl rfl ?_
  refine jb_aload_n (pc' := 44) dX12_hears_43 rfl rfl ?_
  refine jb_callV (pc' := 47) (ci := 12) (q := 105) (As := []) (a2 := 0) (b2 := 0) wv_X12_271 rfl dX12_hears_44 (c_own I1 J d e kp nm W1 hd hk p hp ((gI1 4 (by decide)).trans h4)) rfl rfl ⟨by decide, Nat.le_of_eq (Nat.zero_add _), Nat.le_of_eq (Nat.zero_add _)⟩ (Nat.le_of_ble_eq_true rfl) rfl (fun r h9 hq => ?_)
  obtain ⟨rfl, rfl⟩ := hq
  rw [hkd]
  show jb_J _ RX12 cX12_hears 4 (Option.some .int) false 3 0 0 47 [some (.ref 105), some (.int 0), some (.int x), none] [.int 3, .ref 105] [s0, s1, s2, s3, s4, s5, s6, s7, s8, s9, jb_mdl I1 J d e kp nm W1, s11] _
  refine jb_iload_n (pc' := 48) dX12_hears_47 rfl rfl ?_
  refine jb_callV (pc' := 51) (ci := 12) (q := 105) (As := [.int 3, .int x]) (a2 := 0) (b2 := 0) wv_X12_268 rfl dX12_hears_48 (cm_calls_3_3 I1 J d e kp nm W1 hd hk p hp hkd ((gI1 4 (by decide)).trans h4) (t9 + 1) h31 (by omega) x) rfl rfl ⟨by decide, Nat.le_of_eq (Nat.zero_add _), Nat.le_of_eq (Nat.zero_add _)⟩ (Nat.le_of_ble_eq_true rfl) rfl (fun r h9 hq => ?_)
  obtain ⟨rfl, I2, W2, hI2, h32, hW2, hT2, rfl⟩ := hq
  have gI2 : ∀ j, ¬ j = 3 → I2 j = I j := fun j hj => (hI2 j hj).trans (gI1 j hj)
  have gW2 : ∀ r, ¬ r = 10 → W2 r = W r := fun r hr => (hW2 r hr).trans (gW1 r hr)
  have gT2 : W2 10 = jp_wr (W 10) t9 [11, 10] := hT2.trans (by first | rfl | (rw [gT1]; done) | (rw [gT1]; rfl))
  show jb_J _ RX12 cX12_hears 4 (Option.some .int) false 3 0 0 51 [some (.ref 105), some (.int 0), some (.int x), none] [.int ((x) + (nI p))] [s0, s1, s2, s3, s4, s5, s6, s7, s8, s9, jb_mdl I2 J d e kp nm W2, s11] _
  refine jb_iconst (pc' := 52) 2 dX12_hears_51 (by decide) rfl ?_
  refine jb_imul (pc' := 53) dX12_hears_52 rfl ?_
  refine jb_iret dX12_hears_53 rfl ?_
  exact ⟨rfl, I2, W2, gI2, h32, gW2, gT2, rfl⟩
set_option maxRecDepth 100000 in
set_option maxHeartbeats 4000000 in
theorem cm_hears_3_3 {sc : Nat × (Nat → Int32)} {s0 s1 s2 s3 s4 s5 s6 s7 s8 s9 s11 : List va_E} {V : Nat → Nat → Nat} (I J d e kp nm : Nat → Int32) (W : Nat → Nat → Int32) (hd : jd_ V d) (hk : jv_ok V) (p : Nat) (hp : p < V 0 1) (hkd : V 1 p = 3) (h4 : I 4 = nI p) (t9 : Nat) (h3 : I 3 = nI t9) (ht : t9 + 2 ≤ 40) (x : Int32) : jb_C sc yX12_hears cX12_hears 4 (Option.some .int) 4 0 0 [.ref 105, .int 3, .int x] [s0, s1, s2, s3, s4, s5, s6, s7, s8, s9, jb_mdl I J d e kp nm W, s11] (fun r h9 => r = some (.int (((x) + (nI p)) * 2)) ∧ ∃ I9 W9, (∀ j, ¬ j = 3 → I9 j = I j) ∧ I9 3 = nI (t9 + 2) ∧ (∀ r, ¬ r = 10 → W9 r = W r) ∧ W9 10 = jp_wr (W 10) t9 [11, 10] ∧ h9 = [s0, s1, s2, s3, s4, s5, s6, s7, s8, s9, jb_mdl I9 J d e kp nm W9, s11]) := by
  refine jb_CofJ (ini := false) (by decide +kernel) (fun h => by cases h) (Nat.le_of_ble_eq_true rfl) ?_
  show jb_J sc RX12 cX12_hears 4 (Option.some .int) false 4 0 0 0 [some (.ref 105), some (.int 3), some (.int x), none] [] [s0, s1, s2, s3, s4, s5, s6, s7, s8, s9, jb_mdl I J d e kp nm W, s11] _
  have gI0 : ∀ j, ¬ j = 3 → I j = I j := fun _ _ => rfl
  have gW0 : ∀ r, ¬ r = 10 → W r = W r := fun _ _ => rfl
  have gT0 : W 10 = jp_wr (W 10) t9 [] := rfl
  refine jb_iload_n (pc' := 1) dX12_hears_0 rfl rfl ?_
  refine jb_tableIn (pc' := 100) (off := 99) dX12_hears_1 (by decide) (by decide) (by decide +kernel) (by decide) ?_
  refine jb_aload_n (pc' := 101) dX12_hears_100 rfl rfl ?_
  refine jb_iload_n (pc' := 102) dX12_hears_101 rfl rfl ?_
  refine jb_callS (pc' := 105) (As := [.int 3]) (a2 := 0) (b2 := 0) wv_X12_168 dX12_hears_102 (c_above 3 (by decide)) rfl ⟨by decide, Nat.le_of_eq (Nat.zero_add _), Nat.le_of_eq (Nat.zero_add _)⟩ (Nat.le_of_ble_eq_true rfl) rfl (fun r h9 hq => ?_)
  obtain ⟨rfl, rfl⟩ := hq
  show jb_J _ RX12 cX12_hears 4 (Option.some .int) false 4 0 0 105 [some (.ref 105), some (.int 3), some (.int x), none] [.int 0, .ref 105] [s0, s1, s2, s3, s4, s5, s6, s7, s8, s9, jb_mdl I J d e kp nm W, s11] _
  refine jb_iload_n (pc' := 106) dX12_hears_105 rfl rfl ?_
  refine jb_callV (pc' := 109) (ci := 12) (q := 105) (As := [.int 0, .int x]) (a2 := 0) (b2 := 0) wv_X12_274 rfl dX12_hears_106 (cm_hears_0_3 I J d e kp nm W hd hk p hp hkd ((gI0 4 (by decide)).trans h4) t9 h3 (by omega) x) rfl rfl ⟨by decide, Nat.le_of_eq (Nat.zero_add _), Nat.le_of_eq (Nat.zero_add _)⟩ (Nat.le_of_ble_eq_true rfl) rfl (fun r h9 hq => ?_)
  obtain ⟨rfl, I1, W1, hI1, h31, hW1, hT1, rfl⟩ := hq
  have gI1 : ∀ j, ¬ j = 3 → I1 j = I j := fun j hj => (hI1 j hj).trans (gI0 j hj)
  have gW1 : ∀ r, ¬ r = 10 → W1 r = W r := fun r hr => (hW1 r hr).trans (gW0 r hr)
  have gT1 : W1 10 = jp_wr (W 10) t9 [11, 10] := hT1.trans (by first | rfl | (rw [gT0]; done) | (rw [gT0]; rfl))
  show jb_J _ RX12 cX12_hears 4 (Option.some .int) false 4 0 0 109 [some (.ref 105), some (.int 3), some (.int x), none] [.int (((x) + (nI p)) * 2)] [s0, s1, s2, s3, s4, s5, s6, s7, s8, s9, jb_mdl I1 J d e kp nm W1, s11] _
  refine jb_iret dX12_hears_109 rfl ?_
  exact ⟨rfl, I1, W1, gI1, h31, gW1, gT1, rfl⟩
set_option maxRecDepth 100000 in
set_option maxHeartbeats 4000000 in
theorem cm_tells_0_3 {sc : Nat × (Nat → Int32)} {s0 s1 s2 s3 s4 s5 s6 s7 s8 s9 s11 : List va_E} {V : Nat → Nat → Nat} (I J d e kp nm : Nat → Int32) (W : Nat → Nat → Int32) (hd : jd_ V d) (hk : jv_ok V) (p : Nat) (hp : p < V 0 1) (hkd : V 1 p = 3) (h4 : I 4 = nI p) (t9 : Nat) (h3 : I 3 = nI t9) (ht : t9 + 5 ≤ 40) (x : Int32) : jb_C sc yX12_tells cX12_tells 4 (Option.some .int) 5 0 0 [.ref 105, .int 0, .int x] [s0, s1, s2, s3, s4, s5, s6, s7, s8, s9, jb_mdl I J d e kp nm W, s11] (fun r h9 => r = some (.int ((((x) + (nI p)) * 2) ^^^ (-((x) - (nI (V 2 p)))))) ∧ ∃ I9 W9, (∀ j, ¬ j = 3 → I9 j = I j) ∧ I9 3 = nI (t9 + 5) ∧ (∀ r, ¬ r = 10 → W9 r = W r) ∧ W9 10 = jp_wr (W 10) t9 [13, 11, 10, 40, 12] ∧ h9 = [s0, s1, s2, s3, s4, s5, s6, s7, s8, s9, jb_mdl I9 J d e kp nm W9, s11]) := by
  refine jb_CofJ (ini := false) (by decide +kernel) (fun h => by cases h) (Nat.le_of_ble_eq_true rfl) ?_
  show jb_J sc RX12 cX12_tells 4 (Option.some .int) false 5 0 0 0 [some (.ref 105), some (.int 0), some (.int x), none] [] [s0, s1, s2, s3, s4, s5, s6, s7, s8, s9, jb_mdl I J d e kp nm W, s11] _
  have gI0 : ∀ j, ¬ j = 3 → I j = I j := fun _ _ => rfl
  have gW0 : ∀ r, ¬ r = 10 → W r = W r := fun _ _ => rfl
  have gT0 : W 10 = jp_wr (W 10) t9 [] := rfl
  refine jb_iload_n (pc' := 1) dX12_tells_0 rfl rfl ?_
  refine jb_lookup (pc' := 36) (off := 35) dX12_tells_1 (by decide +kernel) (by decide +kernel) (by decide) ?_
  refine jb_aload_n (pc' := 37) dX12_tells_36 rfl rfl ?_
  refine jb_bipush (pc' := 39) 13 dX12_tells_37 (by decide) rfl ?_
  refine jb_callV (pc' := 42) (ci := 12) (q := 105) (As := [.int 13]) (a2 := 0) (b2 := 0) wv_X12_265 rfl dX12_tells_39 (c_ran I J d e kp nm W t9 h3 (by omega) 13) rfl rfl ⟨by decide, Nat.le_of_eq (Nat.zero_add _), Nat.le_of_eq (Nat.zero_add _)⟩ (Nat.le_of_ble_eq_true rfl) rfl (fun r h9 hq => ?_)
  obtain ⟨rfl, I1, W1, hI1, h31, hW1, hT1, rfl⟩ := hq
  have gI1 : ∀ j, ¬ j = 3 → I1 j = I j := fun j hj => (hI1 j hj).trans (gI0 j hj)
  have gW1 : ∀ r, ¬ r = 10 → W1 r = W r := fun r hr => (hW1 r hr).trans (gW0 r hr)
  have gT1 : W1 10 = jp_wr (W 10) t9 [13] := hT1.trans (by first | rfl | (rw [gT0]; done) | (rw [gT0]; rfl))
  show jb_J _ RX12 cX12_tells 4 (Option.some .int) false 5 0 0 42 [some (.ref 105), some (.int 0), some (.int x), none] [] [s0, s1, s2, s3, s4, s5, s6, s7, s8, s9, jb_mdl I1 J d e kp nm W1, s11] _
  refine jb_aload_n (pc' := 43) dX12_tells_42 rfl rfl ?_
  refine jb_aload_n (pc' := 44) dX12_tells_43 rfl rfl ?_
  refine jb_callV (pc' := 47) (ci := 12) (q := 105) (As := []) (a2 := 0) (b2 := 0) wv_X12_271 rfl dX12_tells_44 (c_own I1 J d e kp nm W1 hd hk p hp ((gI1 4 (by decide)).trans h4)) rfl rfl ⟨by decide, Nat.le_of_eq (Nat.zero_add _), Nat.le_of_eq (Nat.zero_add _)⟩ (Nat.le_of_ble_eq_true rfl) rfl (fun r h9 hq => ?_)
  obtain ⟨rfl, rfl⟩ := hq
  rw [hkd]
  show jb_J _ RX12 cX12_tells 4 (Option.some .int) false 5 0 0 47 [some (.ref 105), some (.int 0), some (.int x), none] [.int 3, .ref 105] [s0, s1, s2, s3, s4, s5, s6, s7, s8, s9, jb_mdl I1 J d e kp nm W1, s11] _
  refine jb_iload_n (pc' := 48) dX12_tells_47 rfl rfl ?_
  refine jb_callV (pc' := 51) (ci := 12) (q := 105) (As := [.int 3, .int x]) (a2 := 0) (b2 := 0) wv_X12_274 rfl dX12_tells_48 (cm_hears_3_3 I1 J d e kp nm W1 hd hk p hp hkd ((gI1 4 (by decide)).trans h4) (t9 + 1) h31 (by omega) x) rfl rfl ⟨by decide, Nat.le_of_eq (Nat.zero_add _), Nat.le_of_eq (Nat.zero_add _)⟩ (Nat.le_of_ble_eq_true rfl) rfl (fun r h9 hq => ?_)
  obtain ⟨rfl, I2, W2, hI2, h32, hW2, hT2, rfl⟩ := hq
  have gI2 : ∀ j, ¬ j = 3 → I2 j = I j := fun j hj => (hI2 j hj).trans (gI1 j hj)
  have gW2 : ∀ r, ¬ r = 10 → W2 r = W r := fun r hr => (hW2 r hr).trans (gW1 r hr)
  have gT2 : W2 10 = jp_wr (W 10) t9 [13, 11, 10] := hT2.trans (by first | rfl | (rw [gT1]; done) | (rw [gT1]; rfl))
  show jb_J _ RX12 cX12_tells 4 (Option.some .int) false 5 0 0 51 [some (.ref 105), some (.int 0), some (.int x), none] [.int (((x) + (nI p)) * 2)] [s0, s1, s2, s3, s4, s5, s6, s7, s8, s9, jb_mdl I2 J d e kp nm W2, s11] _
  refine jb_istore_n_ (pc' := 52) dX12_tells_51 (by decide) (jb_at3 rfl) rfl ?_
  refine jb_iload_n (pc' := 53) dX12_tells_52 rfl rfl ?_
  refine jb_aload_n (pc' := 54) dX12_tells_53 rfl rfl ?_
  refine jb_aload_n (pc' := 55) dX12_tells_54 rfl rfl ?_
  refine jb_callV (pc' := 58) (ci := 12) (q := 105) (As := []) (a2 := 0) (b2 := 0) wv_X12_271 rfl dX12_tells_55 (c_own I2 J d e kp nm W2 hd hk p hp ((gI2 4 (by decide)).trans h4)) rfl rfl ⟨by decide, Nat.le_of_eq (Nat.zero_add _), Nat.le_of_eq (Nat.zero_add _)⟩ (Nat.le_of_ble_eq_true rfl) rfl (fun r h9 hq => ?_)
  obtain ⟨rfl, rfl⟩ := hq
  rw [hkd]
  show jb_J _ RX12 cX12_tells 4 (Option.some .int) false 5 0 0 58 [some (.ref 105), some (.int 0), some (.int x), some (.int (((x) + (nI p)) * 2))] [.int 3, .ref 105, .int (((x) + (nI p)) * 2)] [s0, s1, s2, s3, s4, s5, s6, s7, s8, s9, jb_mdl I2 J d e kp nm W2, s11] _
  refine jb_iload_n (pc' := 59) dX12_tells_58 rfl rfl ?_
  refine jb_callV (pc' := 62) (ci := 12) (q := 105) (As := [.int 3, .int x]) (a2 := 0) (b2 := 0) wv_X12_277 rfl dX12_tells_59 (cm_waits_3_3 I2 J d e kp nm W2 hd hk p hp hkd ((gI2 4 (by decide)).trans h4) ((t9 + 1) + 2) h32 (by omega) x) rfl rfl ⟨by decide, Nat.le_of_eq (Nat.zero_add _), Nat.le_of_eq (Nat.zero_add _)⟩ (Nat.le_of_ble_eq_true rfl) rfl (fun r h9 hq => ?_)
  obtain ⟨rfl, I3, W3, hI3, h33, hW3, hT3, rfl⟩ := hq
  have gI3 : ∀ j, ¬ j = 3 → I3 j = I j := fun j hj => (hI3 j hj).trans (gI2 j hj)
  have gW3 : ∀ r, ¬ r = 10 → W3 r = W r := fun r hr => (hW3 r hr).trans (gW2 r hr)
  have gT3 : W3 10 = jp_wr (W 10) t9 [13, 11, 10, 40, 12] := hT3.trans (by first | rfl | (rw [gT2]; done) | (rw [gT2]; rfl))
  show jb_J _ RX12 cX12_tells 4 (Option.some .int) false 5 0 0 62 [some (.ref 105), some (.int 0), some (.int x), some (.int (((x) + (nI p)) * 2))] [.int (-((x) - (nI (V 2 p)))), .int (((x) + (nI p)) * 2)] [s0, s1, s2, s3, s4, s5, s6, s7, s8, s9, jb_mdl I3 J d e kp nm W3, s11] _
  refine jb_ixor (pc' := 63) dX12_tells_62 rfl ?_
  refine jb_iret dX12_tells_63 rfl ?_
  exact ⟨rfl, I3, W3, gI3, h33, gW3, gT3, rfl⟩
set_option maxRecDepth 100000 in
set_option maxHeartbeats 4000000 in
theorem cm_tells_3_3 {sc : Nat × (Nat → Int32)} {s0 s1 s2 s3 s4 s5 s6 s7 s8 s9 s11 : List va_E} {V : Nat → Nat → Nat} (I J d e kp nm : Nat → Int32) (W : Nat → Nat → Int32) (hd : jd_ V d) (hk : jv_ok V) (p : Nat) (hp : p < V 0 1) (hkd : V 1 p = 3) (h4 : I 4 = nI p) (t9 : Nat) (h3 : I 3 = nI t9) (ht : t9 + 5 ≤ 40) (x : Int32) : jb_C sc yX12_tells cX12_tells 4 (Option.some .int) 6 0 0 [.ref 105, .int 3, .int x] [s0, s1, s2, s3, s4, s5, s6, s7, s8, s9, jb_mdl I J d e kp nm W, s11] (fun r h9 => r = some (.int ((((x) + (nI p)) * 2) ^^^ (-((x) - (nI (V 2 p)))))) ∧ ∃ I9 W9, (∀ j, ¬ j = 3 → I9 j = I j) ∧ I9 3 = nI (t9 + 5) ∧ (∀ r, ¬ r = 10 → W9 r = W r) ∧ W9 10 = jp_wr (W 10) t9 [13, 11, 10, 40, 12] ∧ h9 = [s0, s1, s2, s3, s4, s5, s6, s7, s8, s9, jb_mdl I9 J d e kp nm W9, s11]) := by
  refine jb_CofJ (ini := false) (by decide +kernel) (fun h => by cases h) (Nat.le_of_ble_eq_true rfl) ?_
  show jb_J sc RX12 cX12_tells 4 (Option.some .int) false 6 0 0 0 [some (.ref 105), some (.int 3), some (.int x), none] [] [s0, s1, s2, s3, s4, s5, s6, s7, s8, s9, jb_mdl I J d e kp nm W, s11] _
  have gI0 : ∀ j, ¬ j = 3 → I j = I j := fun _ _ => rfl
  have gW0 : ∀ r, ¬ r = 10 → W r = W r := fun _ _ => rfl
  have gT0 : W 10 = jp_wr (W 10) t9 [] := rfl
  refine jb_iload_n (pc' := 1) dX12_tells_0 rfl rfl ?_
  refine jb_lookup (pc' := 121) (off := 120) dX12_tells_1 (by decide +kernel) (by decide +kernel) (by decide) ?_
  refine jb_aload_n (pc' := 122) dX12_tells_121 rfl rfl ?_
  refine jb_iload_n (pc' := 123) dX12_tells_122 rfl rfl ?_
  refine jb_callS (pc' := 126) (As := [.int 3]) (a2 := 0) (b2 := 0) wv_X12_168 dX12_tells_123 (c_above 3 (by decide)) rfl ⟨by decide, Nat.le_of_eq (Nat.zero_add _), Nat.le_of_eq (Nat.zero_add _)⟩ (Nat.le_of_ble_eq_true rfl) rfl (fun r h9 hq => ?_)
  obtain ⟨rfl, rfl⟩ := hq
  show jb_J _ RX12 cX12_tells 4 (Option.some .int) false 6 0 0 126 [some (.ref 105), some (.int 3), some (.int x), none] [.int 0, .ref 105] [s0, s1, s2, s3, s4, s5, s6, s7, s8, s9, jb_mdl I J d e kp nm W, s11] _
  refine jb_iload_n (pc' := 127) dX12_tells_126 rfl rfl ?_
  refine jb_callV (pc' := 130) (ci := 12) (q := 105) (As := [.int 0, .int x]) (a2 := 0) (b2 := 0) wv_X12_280 rfl dX12_tells_127 (cm_tells_0_3 I J d e kp nm W hd hk p hp hkd ((gI0 4 (by decide)).trans h4) t9 h3 (by omega) x) rfl rfl ⟨by decide, Nat.le_of_eq (Nat.zero_add _), Nat.le_of_eq (Nat.zero_add _)⟩ (Nat.le_of_ble_eq_true rfl) rfl (fun r h9 hq => ?_)
  obtain ⟨rfl, I1, W1, hI1, h31, hW1, hT1, rfl⟩ := hq
  have gI1 : ∀ j, ¬ j = 3 → I1 j = I j := fun j hj => (hI1 j hj).trans (gI0 j hj)
  have gW1 : ∀ r, ¬ r = 10 → W1 r = W r := fun r hr => (hW1 r hr).trans (gW0 r hr)
  have gT1 : W1 10 = jp_wr (W 10) t9 [13, 11, 10, 40, 12] := hT1.trans (by first | rfl | (rw [gT0]; done) | (rw [gT0]; rfl))
  show jb_J _ RX12 cX12_tells 4 (Option.some .int) false 6 0 0 130 [some (.ref 105), some (.int 3), some (.int x), none] [.int ((((x) + (nI p)) * 2) ^^^ (-((x) - (nI (V 2 p)))))] [s0, s1, s2, s3, s4, s5, s6, s7, s8, s9, jb_mdl I1 J d e kp nm W1, s11] _
  refine jb_iret dX12_tells_130 rfl ?_
  exact ⟨rfl, I1, W1, gI1, h31, gW1, gT1, rfl⟩
set_option maxRecDepth 100000 in
set_option maxHeartbeats 4000000 in
theorem mx_voice0_3 {sc : Nat × (Nat → Int32)} {s0 s1 s2 s3 s4 s5 s6 s7 s8 s9 s11 : List va_E} {V : Nat → Nat → Nat} (I J d e kp nm : Nat → Int32) (W : Nat → Nat → Int32) (hd : jd_ V d) (hk : jv_ok V) (p : Nat) (hp : p < V 0 1) (hkd : V 1 p = 3) (x : Int32) : jb_C sc yX12_voice cX12_voice 5 (Option.some .int) 3 0 0 [.ref 105, .int (nI p), .int 0, .int x] [s0, s1, s2, s3, s4, s5, s6, s7, s8, s9, jb_mdl I J d e kp nm W, s11] (fun r h9 => r = some (.int ((x) + (nI p))) ∧ ∃ I9 W9, I9 0 = I 0 ∧ I9 3 = nI 1 ∧ (∀ r, ¬ r = 10 → W9 r = W r) ∧ W9 10 = jp_wr (W 10) 0 [10] ∧ h9 = [s0, s1, s2, s3, s4, s5, s6, s7, s8, s9, jb_mdl I9 J d e kp nm W9, s11]) := by
  refine jb_CofJ (ini := false) (by decide +kernel) (fun h => by cases h) (Nat.le_of_ble_eq_true rfl) ?_
  show jb_J sc RX12 cX12_voice 5 (Option.some .int) false 3 0 0 0 [some (.ref 105), some (.int (nI p)), some (.int 0), some (.int x), none] [] [s0, s1, s2, s3, s4, s5, s6, s7, s8, s9, jb_mdl I J d e kp nm W, s11] _
  have hd0 := hd
  have hk0 := hk
  obtain ⟨e0, e1, e2, e3, e4, e5, e6, dv, ds, dd⟩ := hd
  obtain ⟨k0, k1, k2, k3, k4, k5, k6, k7, kv, ks, kd⟩ := hk
  have q0 := kv p hp
  refine jb_aload_n (pc' := 1) dX12_voice_0 rfl rfl ?_
  refine jb_iload_n (pc' := 2) dX12_voice_1 rfl rfl ?_
  refine jb_callV (pc' := 5) (ci := 12) (q := 105) (As := [.int (nI p)]) (a2 := 0) (b2 := 0) wv_X12_149 rfl dX12_voice_2 (c_isVoiceG I J d e kp nm W hd0 hk0 p (by omega)) rfl rfl ⟨by decide, Nat.le_of_eq (Nat.zero_add _), Nat.le_of_eq (Nat.zero_add _)⟩ (Nat.le_of_ble_eq_true rfl) rfl (fun r h9 hq => ?_)
  obtain ⟨rfl, rfl⟩ := hq
  show jb_J _ RX12 cX12_voice 5 (Option.some .int) false 3 0 0 5 [some (.ref 105), some (.int (nI p)), some (.int 0), some (.int x), none] [.int 1] [s0, s1, s2, s3, s4, s5, s6, s7, s8, s9, jb_mdl I J d e kp nm W, s11] _
  refine jb_if_eq (tgt := 20) (pc' := 8) dX12_voice_5 (by decide) rfl (fun z => absurd z (by decide)) (fun _ => ?_)
  refine jb_iload_n (pc' := 9) dX12_voice_8 rfl rfl ?_
  refine jb_i2l (pc' := 10) dX12_voice_9 rfl ?_
  refine jb_lconst (pc' := 11) 0 dX12_voice_10 (by decide) rfl ?_
  refine jb_ldc2 (pc' := 14) 3 dX12_voice_11 wk_X12_152 rfl ?_
  refine jb_callS (pc' := 17) (As := [.long ((0 : Int32).toInt64), .long 0, .long 3]) (a2 := 0) (b2 := 0) wv_X12_56 dX12_voice_14 (c_inLG _ 0 0 3 (by omega) (by omega) (by omega)) rfl ⟨by decide, Nat.le_of_eq (Nat.zero_add _), Nat.le_of_eq (Nat.zero_add _)⟩ (Nat.le_of_ble_eq_true rfl) rfl (fun r h9 hq => ?_)
  obtain ⟨rfl, rfl⟩ := hq
  show jb_J _ RX12 cX12_voice 5 (Option.some .int) false 3 0 0 17 [some (.ref 105), some (.int (nI p)), some (.int 0), some (.int x), none] [.int 1] [s0, s1, s2, s3, s4, s5, s6, s7, s8, s9, jb_mdl I J d e kp nm W, s11] _
  refine jb_if_ne (tgt := 26) (pc' := 20) dX12_voice_17 (by decide) rfl (fun _ => ?_) (fun z => absurd z (by decide))
  refine jb_aload_n (pc' := 27) dX12_voice_26 rfl rfl ?_
  refine jb_iconst (pc' := 28) 0 dX12_voice_27 (by decide) rfl ?_
  refine pf_X12_259 (pc' := 31) (h' := [s0, s1, s2, s3, s4, s5, s6, s7, s8, s9, jb_mdl (upd I 3 0) J d e kp nm W, s11]) dX12_voice_28 (fun _ => ⟨rfl, rfl⟩) rfl (Nat.le_of_ble_eq_true rfl) rfl rfl ?_
  refine jb_aload_n (pc' := 32) dX12_voice_31 rfl rfl ?_
  refine jb_iload_n (pc' := 33) dX12_voice_32 rfl rfl ?_
  refine pf_X12_262 (pc' := 36) (h' := [s0, s1, s2, s3, s4, s5, s6, s7, s8, s9, jb_mdl (upd (upd I 3 0) 4 (nI p)) J d e kp nm W, s11]) dX12_voice_33 (fun _ => ⟨rfl, rfl⟩) rfl (Nat.le_of_ble_eq_true rfl) rfl rfl ?_
  refine jb_aload_n (pc' := 37) dX12_voice_36 rfl rfl ?_
  refine jb_callV (pc' := 40) (ci := 12) (q := 105) (As := []) (a2 := 0) (b2 := 0) wv_X12_271 rfl dX12_voice_37 (c_own (upd (upd I 3 0) 4 (nI p)) J d e kp nm W hd0 hk0 p hp rfl) rfl rfl ⟨by decide, Nat.le_of_eq (Nat.zero_add _), Nat.le_of_eq (Nat.zero_add _)⟩ (Nat.le_of_ble_eq_true rfl) rfl (fun r h9 hq => ?_)
  obtain ⟨rfl, rfl⟩ := hq
  rw [hkd]
  show jb_J _ RX12 cX12_voice 5 (Option.some .int) false 3 0 0 40 [some (.ref 105), some (.int (nI p)), some (.int 0), some (.int x), none] [.int 3] [s0, s1, s2, s3, s4, s5, s6, s7, s8, s9, jb_mdl (upd (upd I 3 0) 4 (nI p)) J d e kp nm W, s11] _
  refine jb_istore_ (pc' := 42) dX12_voice_40 (by decide) (jb_at4 rfl) rfl ?_
  refine jb_iload_n (pc' := 43) dX12_voice_42 rfl rfl ?_
  refine jb_if_ne (tgt := 56) (pc' := 46) dX12_voice_43 (by decide) rfl (fun z => absurd (by decide) z) (fun _ => ?_)
  refine jb_aload_n (pc' := 47) dX12_voice_46 rfl rfl ?_
  refine jb_iload (pc' := 49) dX12_voice_47 rfl rfl ?_
  refine jb_iload_n (pc' := 50) dX12_voice_49 rfl rfl ?_
  refine jb_callV (pc' := 53) (ci := 12) (q := 105) (As := [.int 3, .int x]) (a2 := 0) (b2 := 0) wv_X12_268 rfl dX12_voice_50 (cm_calls_3_3 (upd (upd I 3 0) 4 (nI p)) J d e kp nm W hd0 hk0 p hp hkd rfl 0 rfl (by omega) x) rfl rfl ⟨by decide, Nat.le_of_eq (Nat.zero_add _), Nat.le_of_eq (Nat.zero_add _)⟩ (Nat.le_of_ble_eq_true rfl) rfl (fun r h9 hq => ?_)
  obtain ⟨rfl, I9, W9, hI9, h39, hW9, hT9, rfl⟩ := hq
  show jb_J _ RX12 cX12_voice 5 (Option.some .int) false 3 0 0 53 [some (.ref 105), some (.int (nI p)), some (.int 0), some (.int x), some (.int 3)] [.int ((x) + (nI p))] [s0, s1, s2, s3, s4, s5, s6, s7, s8, s9, jb_mdl I9 J d e kp nm W9, s11] _
  refine jb_goto (pc' := 93) dX12_voice_53 (by decide) ?_
  refine jb_iret dX12_voice_93 rfl ?_
  exact ⟨rfl, I9, W9, hI9 0 (by decide), by rw [h39], hW9, hT9, rfl⟩
set_option maxRecDepth 100000 in
set_option maxHeartbeats 4000000 in
theorem mx_voice1_3 {sc : Nat × (Nat → Int32)} {s0 s1 s2 s3 s4 s5 s6 s7 s8 s9 s11 : List va_E} {V : Nat → Nat → Nat} (I J d e kp nm : Nat → Int32) (W : Nat → Nat → Int32) (hd : jd_ V d) (hk : jv_ok V) (p : Nat) (hp : p < V 0 1) (hkd : V 1 p = 3) (x : Int32) : jb_C sc yX12_voice cX12_voice 5 (Option.some .int) 5 0 0 [.ref 105, .int (nI p), .int 1, .int x] [s0, s1, s2, s3, s4, s5, s6, s7, s8, s9, jb_mdl I J d e kp nm W, s11] (fun r h9 => r = some (.int (((x) + (nI p)) * 2)) ∧ ∃ I9 W9, I9 0 = I 0 ∧ I9 3 = nI 2 ∧ (∀ r, ¬ r = 10 → W9 r = W r) ∧ W9 10 = jp_wr (W 10) 0 [11, 10] ∧ h9 = [s0, s1, s2, s3, s4, s5, s6, s7, s8, s9, jb_mdl I9 J d e kp nm W9, s11]) := by
  refine jb_CofJ (ini := false) (by decide +kernel) (fun h => by cases h) (Nat.le_of_ble_eq_true rfl) ?_
  show jb_J sc RX12 cX12_voice 5 (Option.some .int) false 5 0 0 0 [some (.ref 105), some (.int (nI p)), some (.int 1), some (.int x), none] [] [s0, s1, s2, s3, s4, s5, s6, s7, s8, s9, jb_mdl I J d e kp nm W, s11] _
  have hd0 := hd
  have hk0 := hk
  obtain ⟨e0, e1, e2, e3, e4, e5, e6, dv, ds, dd⟩ := hd
  obtain ⟨k0, k1, k2, k3, k4, k5, k6, k7, kv, ks, kd⟩ := hk
  have q0 := kv p hp
  refine jb_aload_n (pc' := 1) dX12_voice_0 rfl rfl ?_
  refine jb_iload_n (pc' := 2) dX12_voice_1 rfl rfl ?_
  refine jb_callV (pc' := 5) (ci := 12) (q := 105) (As := [.int (nI p)]) (a2 := 0) (b2 := 0) wv_X12_149 rfl dX12_voice_2 (c_isVoiceG I J d e kp nm W hd0 hk0 p (by omega)) rfl rfl ⟨by decide, Nat.le_of_eq (Nat.zero_add _), Nat.le_of_eq (Nat.zero_add _)⟩ (Nat.le_of_ble_eq_true rfl) rfl (fun r h9 hq => ?_)
  obtain ⟨rfl, rfl⟩ := hq
  show jb_J _ RX12 cX12_voice 5 (Option.some .int) false 5 0 0 5 [some (.ref 105), some (.int (nI p)), some (.int 1), some (.int x), none] [.int 1] [s0, s1, s2, s3, s4, s5, s6, s7, s8, s9, jb_mdl I J d e kp nm W, s11] _
  refine jb_if_eq (tgt := 20) (pc' := 8) dX12_voice_5 (by decide) rfl (fun z => absurd z (by decide)) (fun _ => ?_)
  refine jb_iload_n (pc' := 9) dX12_voice_8 rfl rfl ?_
  refine jb_i2l (pc' := 10) dX12_voice_9 rfl ?_
  refine jb_lconst (pc' := 11) 0 dX12_voice_10 (by decide) rfl ?_
  refine jb_ldc2 (pc' := 14) 3 dX12_voice_11 wk_X12_152 rfl ?_
  refine jb_callS (pc' := 17) (As := [.long ((1 : Int32).toInt64), .long 0, .long 3]) (a2 := 0) (b2 := 0) wv_X12_56 dX12_voice_14 (c_inLG _ 1 0 3 (by omega) (by omega) (by omega)) rfl ⟨by decide, Nat.le_of_eq (Nat.zero_add _), Nat.le_of_eq (Nat.zero_add _)⟩ (Nat.le_of_ble_eq_true rfl) rfl (fun r h9 hq => ?_)
  obtain ⟨rfl, rfl⟩ := hq
  show jb_J _ RX12 cX12_voice 5 (Option.some .int) false 5 0 0 17 [some (.ref 105), some (.int (nI p)), some (.int 1), some (.int x), none] [.int 1] [s0, s1, s2, s3, s4, s5, s6, s7, s8, s9, jb_mdl I J d e kp nm W, s11] _
  refine jb_if_ne (tgt := 26) (pc' := 20) dX12_voice_17 (by decide) rfl (fun _ => ?_) (fun z => absurd z (by decide))
  refine jb_aload_n (pc' := 27) dX12_voice_26 rfl rfl ?_
  refine jb_iconst (pc' := 28) 0 dX12_voice_27 (by decide) rfl ?_
  refine pf_X12_259 (pc' := 31) (h' := [s0, s1, s2, s3, s4, s5, s6, s7, s8, s9, jb_mdl (upd I 3 0) J d e kp nm W, s11]) dX12_voice_28 (fun _ => ⟨rfl, rfl⟩) rfl (Nat.le_of_ble_eq_true rfl) rfl rfl ?_
  refine jb_aload_n (pc' := 32) dX12_voice_31 rfl rfl ?_
  refine jb_iload_n (pc' := 33) dX12_voice_32 rfl rfl ?_
  refine pf_X12_262 (pc' := 36) (h' := [s0, s1, s2, s3, s4, s5, s6, s7, s8, s9, jb_mdl (upd (upd I 3 0) 4 (nI p)) J d e kp nm W, s11]) dX12_voice_33 (fun _ => ⟨rfl, rfl⟩) rfl (Nat.le_of_ble_eq_true rfl) rfl rfl ?_
  refine jb_aload_n (pc' := 37) dX12_voice_36 rfl rfl ?_
  refine jb_callV (pc' := 40) (ci := 12) (q := 105) (As := []) (a2 := 0) (b2 := 0) wv_X12_271 rfl dX12_voice_37 (c_own (upd (upd I 3 0) 4 (nI p)) J d e kp nm W hd0 hk0 p hp rfl) rfl rfl ⟨by decide, Nat.le_of_eq (Nat.zero_add _), Nat.le_of_eq (Nat.zero_add _)⟩ (Nat.le_of_ble_eq_true rfl) rfl (fun r h9 hq => ?_)
  obtain ⟨rfl, rfl⟩ := hq
  rw [hkd]
  show jb_J _ RX12 cX12_voice 5 (Option.some .int) false 5 0 0 40 [some (.ref 105), some (.int (nI p)), some (.int 1), some (.int x), none] [.int 3] [s0, s1, s2, s3, s4, s5, s6, s7, s8, s9, jb_mdl (upd (upd I 3 0) 4 (nI p)) J d e kp nm W, s11] _
  refine jb_istore_ (pc' := 42) dX12_voice_40 (by decide) (jb_at4 rfl) rfl ?_
  refine jb_iload_n (pc' := 43) dX12_voice_42 rfl rfl ?_
  refine jb_if_ne (tgt := 56) (pc' := 46) dX12_voice_43 (by decide) rfl (fun _ => ?_) (fun z => absurd z (by decide))
  refine jb_iload_n (pc' := 57) dX12_voice_56 rfl rfl ?_
  refine jb_iconst (pc' := 58) 1 dX12_voice_57 (by decide) rfl ?_
  refine jb_icmp_ne (tgt := 71) (pc' := 61) dX12_voice_58 (by decide) rfl (fun z => absurd (by decide) z) (fun _ => ?_)
  refine jb_aload_n (pc' := 62) dX12_voice_61 rfl rfl ?_
  refine jb_iload (pc' := 64) dX12_voice_62 rfl rfl ?_
  refine jb_iload_n (pc' := 65) dX12_voice_64 rfl rfl ?_
  refine jb_callV (pc' := 68) (ci := 12) (q := 105) (As := [.int 3, .int x]) (a2 := 0) (b2 := 0) wv_X12_274 rfl dX12_voice_65 (cm_hears_3_3 (upd (upd I 3 0) 4 (nI p)) J d e kp nm W hd0 hk0 p hp hkd rfl 0 rfl (by omega) x) rfl rfl ⟨by decide, Nat.le_of_eq (Nat.zero_add _), Nat.le_of_eq (Nat.zero_add _)⟩ (Nat.le_of_ble_eq_true rfl) rfl (fun r h9 hq => ?_)
  obtain ⟨rfl, I9, W9, hI9, h39, hW9, hT9, rfl⟩ := hq
  show jb_J _ RX12 cX12_voice 5 (Option.some .int) false 5 0 0 68 [some (.ref 105), some (.int (nI p)), some (.int 1), some (.int x), some (.int 3)] [.int (((x) + (nI p)) * 2)] [s0, s1, s2, s3, s4, s5, s6, s7, s8, s9, jb_mdl I9 J d e kp nm W9, s11] _
  refine jb_goto (pc' := 93) dX12_voice_68 (by decide) ?_
  refine jb_iret dX12_voice_93 rfl ?_
  exact ⟨rfl, I9, W9, hI9 0 (by decide), by rw [h39], hW9, hT9, rfl⟩
set_option maxRecDepth 100000 in
set_option maxHeartbeats 4000000 in
theorem mx_voice2_3 {sc : Nat × (Nat → Int32)} {s0 s1 s2 s3 s4 s5 s6 s7 s8 s9 s11 : List va_E} {V : Nat → Nat → Nat} (I J d e kp nm : Nat → Int32) (W : Nat → Nat → Int32) (hd : jd_ V d) (hk : jv_ok V) (p : Nat) (hp : p < V 0 1) (hkd : V 1 p = 3) (x : Int32) : jb_C sc yX12_voice cX12_voice 5 (Option.some .int) 3 0 0 [.ref 105, .int (nI p), .int 2, .int x] [s0, s1, s2, s3, s4, s5, s6, s7, s8, s9, jb_mdl I J d e kp nm W, s11] (fun r h9 => r = some (.int (-((x) - (nI (V 2 p))))) ∧ ∃ I9 W9, I9 0 = I 0 ∧ I9 3 = nI 2 ∧ (∀ r, ¬ r = 10 → W9 r = W r) ∧ W9 10 = jp_wr (W 10) 0 [40, 12] ∧ h9 = [s0, s1, s2, s3, s4, s5, s6, s7, s8, s9, jb_mdl I9 J d e kp nm W9, s11]) := by
  refine jb_CofJ (ini := false) (by decide +kernel) (fun h => by cases h) (Nat.le_of_ble_eq_true rfl) ?_
  show jb_J sc RX12 cX12_voice 5 (Option.some .int) false 3 0 0 0 [some (.ref 105), some (.int (nI p)), some (.int 2), some (.int x), none] [] [s0, s1, s2, s3, s4, s5, s6, s7, s8, s9, jb_mdl I J d e kp nm W, s11] _
  have hd0 := hd
  have hk0 := hk
  obtain ⟨e0, e1, e2, e3, e4, e5, e6, dv, ds, dd⟩ := hd
  obtain ⟨k0, k1, k2, k3, k4, k5, k6, k7, kv, ks, kd⟩ := hk
  have q0 := kv p hp
  refine jb_aload_n (pc' := 1) dX12_voice_0 rfl rfl ?_
  refine jb_iload_n (pc' := 2) dX12_voice_1 rfl rfl ?_
  refine jb_callV (pc' := 5) (ci := 12) (q := 105) (As := [.int (nI p)]) (a2 := 0) (b2 := 0) wv_X12_149 rfl dX12_voice_2 (c_isVoiceG I J d e kp nm W hd0 hk0 p (by omega)) rfl rfl ⟨by decide, Nat.le_of_eq (Nat.zero_add _), Nat.le_of_eq (Nat.zero_add _)⟩ (Nat.le_of_ble_eq_true rfl) rfl (fun r h9 hq => ?_)
  obtain ⟨rfl, rfl⟩ := hq
  show jb_J _ RX12 cX12_voice 5 (Option.some .int) false 3 0 0 5 [some (.ref 105), some (.int (nI p)), some (.int 2), some (.int x), none] [.int 1] [s0, s1, s2, s3, s4, s5, s6, s7, s8, s9, jb_mdl I J d e kp nm W, s11] _
  refine jb_if_eq (tgt := 20) (pc' := 8) dX12_voice_5 (by decide) rfl (fun z => absurd z (by decide)) (fun _ => ?_)
  refine jb_iload_n (pc' := 9) dX12_voice_8 rfl rfl ?_
  refine jb_i2l (pc' := 10) dX12_voice_9 rfl ?_
  refine jb_lconst (pc' := 11) 0 dX12_voice_10 (by decide) rfl ?_
  refine jb_ldc2 (pc' := 14) 3 dX12_voice_11 wk_X12_152 rfl ?_
  refine jb_callS (pc' := 17) (As := [.long ((2 : Int32).toInt64), .long 0, .long 3]) (a2 := 0) (b2 := 0) wv_X12_56 dX12_voice_14 (c_inLG _ 2 0 3 (by omega) (by omega) (by omega)) rfl ⟨by decide, Nat.le_of_eq (Nat.zero_add _), Nat.le_of_eq (Nat.zero_add _)⟩ (Nat.le_of_ble_eq_true rfl) rfl (fun r h9 hq => ?_)
  obtain ⟨rfl, rfl⟩ := hq
  show jb_J _ RX12 cX12_voice 5 (Option.some .int) false 3 0 0 17 [some (.ref 105), some (.int (nI p)), some (.int 2), some (.int x), none] [.int 1] [s0, s1, s2, s3, s4, s5, s6, s7, s8, s9, jb_mdl I J d e kp nm W, s11] _
  refine jb_if_ne (tgt := 26) (pc' := 20) dX12_voice_17 (by decide) rfl (fun _ => ?_) (fun z => absurd z (by decide))
  refine jb_aload_n (pc' := 27) dX12_voice_26 rfl rfl ?_
  refine jb_iconst (pc' := 28) 0 dX12_voice_27 (by decide) rfl ?_
  refine pf_X12_259 (pc' := 31) (h' := [s0, s1, s2, s3, s4, s5, s6, s7, s8, s9, jb_mdl (upd I 3 0) J d e kp nm W, s11]) dX12_voice_28 (fun _ => ⟨rfl, rfl⟩) rfl (Nat.le_of_ble_eq_true rfl) rfl rfl ?_
  refine jb_aload_n (pc' := 32) dX12_voice_31 rfl rfl ?_
  refine jb_iload_n (pc' := 33) dX12_voice_32 rfl rfl ?_
  refine pf_X12_262 (pc' := 36) (h' := [s0, s1, s2, s3, s4, s5, s6, s7, s8, s9, jb_mdl (upd (upd I 3 0) 4 (nI p)) J d e kp nm W, s11]) dX12_voice_33 (fun _ => ⟨rfl, rfl⟩) rfl (Nat.le_of_ble_eq_true rfl) rfl rfl ?_
  refine jb_aload_n (pc' := 37) dX12_voice_36 rfl rfl ?_
  refine jb_callV (pc' := 40) (ci := 12) (q := 105) (As := []) (a2 := 0) (b2 := 0) wv_X12_271 rfl dX12_voice_37 (c_own (upd (upd I 3 0) 4 (nI p)) J d e kp nm W hd0 hk0 p hp rfl) rfl rfl ⟨by decide, Nat.le_of_eq (Nat.zero_add _), Nat.le_of_eq (Nat.zero_add _)⟩ (Nat.le_of_ble_eq_true rfl) rfl (fun r h9 hq => ?_)
  obtain ⟨rfl, rfl⟩ := hq
  rw [hkd]
  show jb_J _ RX12 cX12_voice 5 (Option.some .int) false 3 0 0 40 [some (.ref 105), some (.int (nI p)), some (.int 2), some (.int x), none] [.int 3] [s0, s1, s2, s3, s4, s5, s6, s7, s8, s9, jb_mdl (upd (upd I 3 0) 4 (nI p)) J d e kp nm W, s11] _
  refine jb_istore_ (pc' := 42) dX12_voice_40 (by decide) (jb_at4 rfl) rfl ?_
  refine jb_iload_n (pc' := 43) dX12_voice_42 rfl rfl ?_
  refine jb_if_ne (tgt := 56) (pc' := 46) dX12_voice_43 (by decide) rfl (fun _ => ?_) (fun z => absurd z (by decide))
  refine jb_iload_n (pc' := 57) dX12_voice_56 rfl rfl ?_
  refine jb_iconst (pc' := 58) 1 dX12_voice_57 (by decide) rfl ?_
  refine jb_icmp_ne (tgt := 71) (pc' := 61) dX12_voice_58 (by decide) rfl (fun _ => ?_) (fun z => absurd z (by decide))
  refine jb_iload_n (pc' := 72) dX12_voice_71 rfl rfl ?_
  refine jb_iconst (pc' := 73) 2 dX12_voice_72 (by decide) rfl ?_
  refine jb_icmp_ne (tgt := 86) (pc' := 76) dX12_voice_73 (by decide) rfl (fun z => absurd (by decide) z) (fun _ => ?_)
  refine jb_aload_n (pc' := 77) dX12_voice_76 rfl rfl ?_
  refine jb_iload (pc' := 79) dX12_voice_77 rfl rfl ?_
  refine jb_iload_n (pc' := 80) dX12_voice_79 rfl rfl ?_
  refine jb_callV (pc' := 83) (ci := 12) (q := 105) (As := [.int 3, .int x]) (a2 := 0) (b2 := 0) wv_X12_277 rfl dX12_voice_80 (cm_waits_3_3 (upd (upd I 3 0) 4 (nI p)) J d e kp nm W hd0 hk0 p hp hkd rfl 0 rfl (by omega) x) rfl rfl ⟨by decide, Nat.le_of_eq (Nat.zero_add _), Nat.le_of_eq (Nat.zero_add _)⟩ (Nat.le_of_ble_eq_true rfl) rfl (fun r h9 hq => ?_)
  obtain ⟨rfl, I9, W9, hI9, h39, hW9, hT9, rfl⟩ := hq
  show jb_J _ RX12 cX12_voice 5 (Option.some .int) false 3 0 0 83 [some (.ref 105), some (.int (nI p)), some (.int 2), some (.int x), some (.int 3)] [.int (-((x) - (nI (V 2 p))))] [s0, s1, s2, s3, s4, s5, s6, s7, s8, s9, jb_mdl I9 J d e kp nm W9, s11] _
  refine jb_goto (pc' := 93) dX12_voice_83 (by decide) ?_
  refine jb_iret dX12_voice_93 rfl ?_
  exact ⟨rfl, I9, W9, hI9 0 (by decide), by rw [h39], hW9, hT9, rfl⟩
set_option maxRecDepth 100000 in
set_option maxHeartbeats 4000000 in
theorem mx_voice3_3 {sc : Nat × (Nat → Int32)} {s0 s1 s2 s3 s4 s5 s6 s7 s8 s9 s11 : List va_E} {V : Nat → Nat → Nat} (I J d e kp nm : Nat → Int32) (W : Nat → Nat → Int32) (hd : jd_ V d) (hk : jv_ok V) (p : Nat) (hp : p < V 0 1) (hkd : V 1 p = 3) (x : Int32) : jb_C sc yX12_voice cX12_voice 5 (Option.some .int) 7 0 0 [.ref 105, .int (nI p), .int 3, .int x] [s0, s1, s2, s3, s4, s5, s6, s7, s8, s9, jb_mdl I J d e kp nm W, s11] (fun r h9 => r = some (.int ((((x) + (nI p)) * 2) ^^^ (-((x) - (nI (V 2 p)))))) ∧ ∃ I9 W9, I9 0 = I 0 ∧ I9 3 = nI 5 ∧ (∀ r, ¬ r = 10 → W9 r = W r) ∧ W9 10 = jp_wr (W 10) 0 [13, 11, 10, 40, 12] ∧ h9 = [s0, s1, s2, s3, s4, s5, s6, s7, s8, s9, jb_mdl I9 J d e kp nm W9, s11]) := by
  refine jb_CofJ (ini := false) (by decide +kernel) (fun h => by cases h) (Nat.le_of_ble_eq_true rfl) ?_
  show jb_J sc RX12 cX12_voice 5 (Option.some .int) false 7 0 0 0 [some (.ref 105), some (.int (nI p)), some (.int 3), some (.int x), none] [] [s0, s1, s2, s3, s4, s5, s6, s7, s8, s9, jb_mdl I J d e kp nm W, s11] _
  have hd0 := hd
  have hk0 := hk
  obtain ⟨e0, e1, e2, e3, e4, e5, e6, dv, ds, dd⟩ := hd
  obtain ⟨k0, k1, k2, k3, k4, k5, k6, k7, kv, ks, kd⟩ := hk
  have q0 := kv p hp
  refine jb_aload_n (pc' := 1) dX12_voice_0 rfl rfl ?_
  refine jb_iload_n (pc' := 2) dX12_voice_1 rfl rfl ?_
  refine jb_callV (pc' := 5) (ci := 12) (q := 105) (As := [.int (nI p)]) (a2 := 0) (b2 := 0) wv_X12_149 rfl dX12_voice_2 (c_isVoiceG I J d e kp nm W hd0 hk0 p (by omega)) rfl rfl ⟨by decide, Nat.le_of_eq (Nat.zero_add _), Nat.le_of_eq (Nat.zero_add _)⟩ (Nat.le_of_ble_eq_true rfl) rfl (fun r h9 hq => ?_)
  obtain ⟨rfl, rfl⟩ := hq
  show jb_J _ RX12 cX12_voice 5 (Option.some .int) false 7 0 0 5 [some (.ref 105), some (.int (nI p)), some (.int 3), some (.int x), none] [.int 1] [s0, s1, s2, s3, s4, s5, s6, s7, s8, s9, jb_mdl I J d e kp nm W, s11] _
  refine jb_if_eq (tgt := 20) (pc' := 8) dX12_voice_5 (by decide) rfl (fun z => absurd z (by decide)) (fun _ => ?_)
  refine jb_iload_n (pc' := 9) dX12_voice_8 rfl rfl ?_
  refine jb_i2l (pc' := 10) dX12_voice_9 rfl ?_
  refine jb_lconst (pc' := 11) 0 dX12_voice_10 (by decide) rfl ?_
  refine jb_ldc2 (pc' := 14) 3 dX12_voice_11 wk_X12_152 rfl ?_
  refine jb_callS (pc' := 17) (As := [.long ((3 : Int32).toInt64), .long 0, .long 3]) (a2 := 0) (b2 := 0) wv_X12_56 dX12_voice_14 (c_inLG _ 3 0 3 (by omega) (by omega) (by omega)) rfl ⟨by decide, Nat.le_of_eq (Nat.zero_add _), Nat.le_of_eq (Nat.zero_add _)⟩ (Nat.le_of_ble_eq_true rfl) rfl (fun r h9 hq => ?_)
  obtain ⟨rfl, rfl⟩ := hq
  show jb_J _ RX12 cX12_voice 5 (Option.some .int) false 7 0 0 17 [some (.ref 105), some (.int (nI p)), some (.int 3), some (.int x), none] [.int 1] [s0, s1, s2, s3, s4, s5, s6, s7, s8, s9, jb_mdl I J d e kp nm W, s11] _
  refine jb_if_ne (tgt := 26) (pc' := 20) dX12_voice_17 (by decide) rfl (fun _ => ?_) (fun z => absurd z (by decide))
  refine jb_aload_n (pc' := 27) dX12_voice_26 rfl rfl ?_
  refine jb_iconst (pc' := 28) 0 dX12_voice_27 (by decide) rfl ?_
  refine pf_X12_259 (pc' := 31) (h' := [s0, s1, s2, s3, s4, s5, s6, s7, s8, s9, jb_mdl (upd I 3 0) J d e kp nm W, s11]) dX12_voice_28 (fun _ => ⟨rfl, rfl⟩) rfl (Nat.le_of_ble_eq_true rfl) rfl rfl ?_
  refine jb_aload_n (pc' := 32) dX12_voice_31 rfl rfl ?_
  refine jb_iload_n (pc' := 33) dX12_voice_32 rfl rfl ?_
  refine pf_X12_262 (pc' := 36) (h' := [s0, s1, s2, s3, s4, s5, s6, s7, s8, s9, jb_mdl (upd (upd I 3 0) 4 (nI p)) J d e kp nm W, s11]) dX12_voice_33 (fun _ => ⟨rfl, rfl⟩) rfl (Nat.le_of_ble_eq_true rfl) rfl rfl ?_
  refine jb_aload_n (pc' := 37) dX12_voice_36 rfl rfl ?_
  refine jb_callV (pc' := 40) (ci := 12) (q := 105) (As := []) (a2 := 0) (b2 := 0) wv_X12_271 rfl dX12_voice_37 (c_own (upd (upd I 3 0) 4 (nI p)) J d e kp nm W hd0 hk0 p hp rfl) rfl rfl ⟨by decide, Nat.le_of_eq (Nat.zero_add _), Nat.le_of_eq (Nat.zero_add _)⟩ (Nat.le_of_ble_eq_true rfl) rfl (fun r h9 hq => ?_)
  obtain ⟨rfl, rfl⟩ := hq
  rw [hkd]
  show jb_J _ RX12 cX12_voice 5 (Option.some .int) false 7 0 0 40 [some (.ref 105), some (.int (nI p)), some (.int 3), some (.int x), none] [.int 3] [s0, s1, s2, s3, s4, s5, s6, s7, s8, s9, jb_mdl (upd (upd I 3 0) 4 (nI p)) J d e kp nm W, s11] _
  refine jb_istore_ (pc' := 42) dX12_voice_40 (by decide) (jb_at4 rfl) rfl ?_
  refine jb_iload_n (pc' := 43) dX12_voice_42 rfl rfl ?_
  refine jb_if_ne (tgt := 56) (pc' := 46) dX12_voice_43 (by decide) rfl (fun _ => ?_) (fun z => absurd z (by decide))
  refine jb_iload_n (pc' := 57) dX12_voice_56 rfl rfl ?_
  refine jb_iconst (pc' := 58) 1 dX12_voice_57 (by decide) rfl ?_
  refine jb_icmp_ne (tgt := 71) (pc' := 61) dX12_voice_58 (by decide) rfl (fun _ => ?_) (fun z => absurd z (by decide))
  refine jb_iload_n (pc' := 72) dX12_voice_71 rfl rfl ?_
  refine jb_iconst (pc' := 73) 2 dX12_voice_72 (by decide) rfl ?_
  refine jb_icmp_ne (tgt := 86) (pc' := 76) dX12_voice_73 (by decide) rfl (fun _ => ?_) (fun z => absurd z (by decide))
  refine jb_aload_n (pc' := 87) dX12_voice_86 rfl rfl ?_
  refine jb_iload (pc' := 89) dX12_voice_87 rfl rfl ?_
  refine jb_iload_n (pc' := 90) dX12_voice_89 rfl rfl ?_
  refine jb_callV (pc' := 93) (ci := 12) (q := 105) (As := [.int 3, .int x]) (a2 := 0) (b2 := 0) wv_X12_280 rfl dX12_voice_90 (cm_tells_3_3 (upd (upd I 3 0) 4 (nI p)) J d e kp nm W hd0 hk0 p hp hkd rfl 0 rfl (by omega) x) rfl rfl ⟨by decide, Nat.le_of_eq (Nat.zero_add _), Nat.le_of_eq (Nat.zero_add _)⟩ (Nat.le_of_ble_eq_true rfl) rfl (fun r h9 hq => ?_)
  obtain ⟨rfl, I9, W9, hI9, h39, hW9, hT9, rfl⟩ := hq
  show jb_J _ RX12 cX12_voice 5 (Option.some .int) false 7 0 0 93 [some (.ref 105), some (.int (nI p)), some (.int 3), some (.int x), some (.int 3)] [.int ((((x) + (nI p)) * 2) ^^^ (-((x) - (nI (V 2 p)))))] [s0, s1, s2, s3, s4, s5, s6, s7, s8, s9, jb_mdl I9 J d e kp nm W9, s11] _
  refine jb_iret dX12_voice_93 rfl ?_
  exact ⟨rfl, I9, W9, hI9 0 (by decide), by rw [h39], hW9, hT9, rfl⟩
set_option maxRecDepth 100000 in
set_option maxHeartbeats 4000000 in
theorem cm_calls_0_4 {sc : Nat × (Nat → Int32)} {s0 s1 s2 s3 s4 s5 s6 s7 s8 s9 s11 : List va_E} {V : Nat → Nat → Nat} (I J d e kp nm : Nat → Int32) (W : Nat → Nat → Int32) (hd : jd_ V d) (hk : jv_ok V) (p : Nat) (hp : p < V 0 1) (hkd : V 1 p = 4) (h4 : I 4 = nI p) (t9 : Nat) (h3 : I 3 = nI t9) (ht : t9 + 1 ≤ 40) (x : Int32) : jb_C sc yX12_calls cX12_calls 3 (Option.some .int) 1 0 0 [.ref 105, .int 0, .int x] [s0, s1, s2, s3, s4, s5, s6, s7, s8, s9, jb_mdl I J d e kp nm W, s11] (fun r h9 => r = some (.int ((x) + (nI p))) ∧ ∃ I9 W9, (∀ j, ¬ j = 3 → I9 j = I j) ∧ I9 3 = nI (t9 + 1) ∧ (∀ r, ¬ r = 10 → W9 r = W r) ∧ W9 10 = jp_wr (W 10) t9 [10] ∧ h9 = [s0, s1, s2, s3, s4, s5, s6, s7, s8, s9, jb_mdl I9 J d e kp nm W9, s11]) := by
  refine jb_CofJ (ini := false) (by decide +kernel) (fun h => by cases h) (Nat.le_of_ble_eq_true rfl) ?_
  show jb_J sc RX12 cX12_calls 3 (Option.some .int) false 1 0 0 0 [some (.ref 105), some (.int 0), some (.int x)] [] [s0, s1, s2, s3, s4, s5, s6, s7, s8, s9, jb_mdl I J d e kp nm W, s11] _
  have gI0 : ∀ j, ¬ j = 3 → I j = I j := fun _ _ => rfl
  have gW0 : ∀ r, ¬ r = 10 → W r = W r := fun _ _ => rfl
  have gT0 : W 10 = jp_wr (W 10) t9 [] := rfl
  refine jb_iload_n (pc' := 1) dX12_calls_0 rfl rfl ?_
  refine jb_lookup (pc' := 28) (off := 27) dX12_calls_1 (by decide +kernel) (by decide +kernel) (by decide) ?_
  refine jb_aload_n (pc' := 29) dX12_calls_28 rfl rfl ?_
  refine jb_bipush (pc' := 31) 10 dX12_calls_29 (by decide) rfl ?_
  refine jb_callV (pc' := 34) (ci := 12) (q := 105) (As := [.int 10]) (a2 := 0) (b2 := 0) wv_X12_265 rfl dX12_calls_31 (c_ran I J d e kp nm W t9 h3 (by omega) 10) rfl rfl ⟨by decide, Nat.le_of_eq (Nat.zero_add _), Nat.le_of_eq (Nat.zero_add _)⟩ (Nat.le_of_ble_eq_true rfl) rfl (fun r h9 hq => ?_)
  obtain ⟨rfl, I1, W1, hI1, h31, hW1, hT1, rfl⟩ := hq
  have gI1 : ∀ j, ¬ j = 3 → I1 j = I j := fun j hj => (hI1 j hj).trans (gI0 j hj)
  have gW1 : ∀ r, ¬ r = 10 → W1 r = W r := fun r hr => (hW1 r hr).trans (gW0 r hr)
  have gT1 : W1 10 = jp_wr (W 10) t9 [10] := hT1.trans (by first | rfl | (rw [gT0]; done) | (rw [gT0]; rfl))
  show jb_J _ RX12 cX12_calls 3 (Option.some .int) false 1 0 0 34 [some (.ref 105), some (.int 0), some (.int x)] [] [s0, s1, s2, s3, s4, s5, s6, s7, s8, s9, jb_mdl I1 J d e kp nm W1, s11] _
  refine jb_iload_n (pc' := 35) dX12_calls_34 rfl rfl ?_
  refine jb_aload_n (pc' := 36) dX12_calls_35 rfl rfl ?_
  refine gf_X12_262 (pc' := 39) (v := .int (I1 4)) dX12_calls_36 rfl rfl rfl ?_
  refine jb_top (v := .int (I1 4)) (w := .int (nI p)) (jb_vI ((gI1 4 (by decide)).trans h4)) ?_
  refine jb_iadd (pc' := 40) dX12_calls_39 rfl ?_
  refine jb_iret dX12_calls_40 rfl ?_
  exact ⟨rfl, I1, W1, gI1, h31, gW1, gT1, rfl⟩
set_option maxRecDepth 100000 in
set_option maxHeartbeats 4000000 in
theorem cm_calls_1_4 {sc : Nat × (Nat → Int32)} {s0 s1 s2 s3 s4 s5 s6 s7 s8 s9 s11 : List va_E} {V : Nat → Nat → Nat} (I J d e kp nm : Nat → Int32) (W : Nat → Nat → Int32) (hd : jd_ V d) (hk : jv_ok V) (p : Nat) (hp : p < V 0 1) (hkd : V 1 p = 4) (h4 : I 4 = nI p) (t9 : Nat) (h3 : I 3 = nI t9) (ht : t9 + 1 ≤ 40) (x : Int32) : jb_C sc yX12_calls cX12_calls 3 (Option.some .int) 2 0 0 [.ref 105, .int 1, .int x] [s0, s1, s2, s3, s4, s5, s6, s7, s8, s9, jb_mdl I J d e kp nm W, s11] (fun r h9 => r = some (.int ((x) + (nI p))) ∧ ∃ I9 W9, (∀ j, ¬ j = 3 → I9 j = I j) ∧ I9 3 = nI (t9 + 1) ∧ (∀ r, ¬ r = 10 → W9 r = W r) ∧ W9 10 = jp_wr (W 10) t9 [10] ∧ h9 = [s0, s1, s2, s3, s4, s5, s6, s7, s8, s9, jb_mdl I9 J d e kp nm W9, s11]) := by
  refine jb_CofJ (ini := false) (by decide +kernel) (fun h => by cases h) (Nat.le_of_ble_eq_true rfl) ?_
  show jb_J sc RX12 cX12_calls 3 (Option.some .int) false 2 0 0 0 [some (.ref 105), some (.int 1), some (.int x)] [] [s0, s1, s2, s3, s4, s5, s6, s7, s8, s9, jb_mdl I J d e kp nm W, s11] _
  have gI0 : ∀ j, ¬ j = 3 → I j = I j := fun _ _ => rfl
  have gW0 : ∀ r, ¬ r = 10 → W r = W r := fun _ _ => rfl
  have gT0 : W 10 = jp_wr (W 10) t9 [] := rfl
  refine jb_iload_n (pc' := 1) dX12_calls_0 rfl rfl ?_
  refine jb_lookup (pc' := 59) (off := 58) dX12_calls_1 (by decide +kernel) (by decide +kernel) (by decide) ?_
  refine jb_aload_n (pc' := 60) dX12_calls_59 rfl rfl ?_
  refine jb_iload_n (pc' := 61) dX12_calls_60 rfl rfl ?_
  refine jb_callS (pc' := 64) (As := [.int 1]) (a2 := 0) (b2 := 0) wv_X12_168 dX12_calls_61 (c_above 1 (by decide)) rfl ⟨by decide, Nat.le_of_eq (Nat.zero_add _), Nat.le_of_eq (Nat.zero_add _)⟩ (Nat.le_of_ble_eq_true rfl) rfl (fun r h9 hq => ?_)
  obtain ⟨rfl, rfl⟩ := hq
  show jb_J _ RX12 cX12_calls 3 (Option.some .int) false 2 0 0 64 [some (.ref 105), some (.int 1), some (.int x)] [.int 0, .ref 105] [s0, s1, s2, s3, s4, s5, s6, s7, s8, s9, jb_mdl I J d e kp nm W, s11] _
  refine jb_iload_n (pc' := 65) dX12_calls_64 rfl rfl ?_
  refine jb_callV (pc' := 68) (ci := 12) (q := 105) (As := [.int 0, .int x]) (a2 := 0) (b2 := 0) wv_X12_268 rfl dX12_calls_65 (cm_calls_0_4 I J d e kp nm W hd hk p hp hkd ((gI0 4 (by decide)).trans h4) t9 h3 (by omega) x) rfl rfl ⟨by decide, Nat.le_of_eq (Nat.zero_add _), Nat.le_of_eq (Nat.zero_add _)⟩ (Nat.le_of_ble_eq_true rfl) rfl (fun r h9 hq => ?_)
  obtain ⟨rfl, I1, W1, hI1, h31, hW1, hT1, rfl⟩ := hq
  have gI1 : ∀ j, ¬ j = 3 → I1 j = I j := fun j hj => (hI1 j hj).trans (gI0 j hj)
  have gW1 : ∀ r, ¬ r = 10 → W1 r = W r := fun r hr => (hW1 r hr).trans (gW0 r hr)
  have gT1 : W1 10 = jp_wr (W 10) t9 [10] := hT1.trans (by first | rfl | (rw [gT0]; done) | (rw [gT0]; rfl))
  show jb_J _ RX12 cX12_calls 3 (Option.some .int) false 2 0 0 68 [some (.ref 105), some (.int 1), some (.int x)] [.int ((x) + (nI p))] [s0, s1, s2, s3, s4, s5, s6, s7, s8, s9, jb_mdl I1 J d e kp nm W1, s11] _
  refine jb_iret dX12_calls_68 rfl ?_
  exact ⟨rfl, I1, W1, gI1, h31, gW1, gT1, rfl⟩
set_option maxRecDepth 100000 in
set_option maxHeartbeats 4000000 in
theorem cm_calls_4_4 {sc : Nat × (Nat → Int32)} {s0 s1 s2 s3 s4 s5 s6 s7 s8 s9 s11 : List va_E} {V : Nat → Nat → Nat} (I J d e kp nm : Nat → Int32) (W : Nat → Nat → Int32) (hd : jd_ V d) (hk : jv_ok V) (p : Nat) (hp : p < V 0 1) (hkd : V 1 p = 4) (h4 : I 4 = nI p) (t9 : Nat) (h3 : I 3 = nI t9) (ht : t9 + 1 ≤ 40) (x : Int32) : jb_C sc yX12_calls cX12_calls 3 (Option.some .int) 3 0 0 [.ref 105, .int 4, .int x] [s0, s1, s2, s3, s4, s5, s6, s7, s8, s9, jb_mdl I J d e kp nm W, s11] (fun r h9 => r = some (.int ((x) + (nI p))) ∧ ∃ I9 W9, (∀ j, ¬ j = 3 → I9 j = I j) ∧ I9 3 = nI (t9 + 1) ∧ (∀ r, ¬ r = 10 → W9 r = W r) ∧ W9 10 = jp_wr (W 10) t9 [10] ∧ h9 = [s0, s1, s2, s3, s4, s5, s6, s7, s8, s9, jb_mdl I9 J d e kp nm W9, s11]) := by
  refine jb_CofJ (ini := false) (by decide +kernel) (fun h => by cases h) (Nat.le_of_ble_eq_true rfl) ?_
  show jb_J sc RX12 cX12_calls 3 (Option.some .int) false 3 0 0 0 [some (.ref 105), some (.int 4), some (.int x)] [] [s0, s1, s2, s3, s4, s5, s6, s7, s8, s9, jb_mdl I J d e kp nm W, s11] _
  have gI0 : ∀ j, ¬ j = 3 → I j = I j := fun _ _ => rfl
  have gW0 : ∀ r, ¬ r = 10 → W r = W r := fun _ _ => rfl
  have gT0 : W 10 = jp_wr (W 10) t9 [] := rfl
  refine jb_iload_n (pc' := 1) dX12_calls_0 rfl rfl ?_
  refine jb_lookup (pc' := 59) (off := 58) dX12_calls_1 (by decide +kernel) (by decide +kernel) (by decide) ?_
  refine jb_aload_n (pc' := 60) dX12_calls_59 rfl rfl ?_
  refine jb_iload_n (pc' := 61) dX12_calls_60 rfl rfl ?_
  refine jb_callS (pc' := 64) (As := [.int 4]) (a2 := 0) (b2 := 0) wv_X12_168 dX12_calls_61 (c_above 4 (by decide)) rfl ⟨by decide, Nat.le_of_eq (Nat.zero_add _), Nat.le_of_eq (Nat.zero_add _)⟩ (Nat.le_of_ble_eq_true rfl) rfl (fun r h9 hq => ?_)
  obtain ⟨rfl, rfl⟩ := hq
  show jb_J _ RX12 cX12_calls 3 (Option.some .int) false 3 0 0 64 [some (.ref 105), some (.int 4), some (.int x)] [.int 1, .ref 105] [s0, s1, s2, s3, s4, s5, s6, s7, s8, s9, jb_mdl I J d e kp nm W, s11] _
  refine jb_iload_n (pc' := 65) dX12_calls_64 rfl rfl ?_
  refine jb_callV (pc' := 68) (ci := 12) (q := 105) (As := [.int 1, .int x]) (a2 := 0) (b2 := 0) wv_X12_268 rfl dX12_calls_65 (cm_calls_1_4 I J d e kp nm W hd hk p hp hkd ((gI0 4 (by decide)).trans h4) t9 h3 (by omega) x) rfl rfl ⟨by decide, Nat.le_of_eq (Nat.zero_add _), Nat.le_of_eq (Nat.zero_add _)⟩ (Nat.le_of_ble_eq_true rfl) rfl (fun r h9 hq => ?_)
  obtain ⟨rfl, I1, W1, hI1, h31, hW1, hT1, rfl⟩ := hq
  have gI1 : ∀ j, ¬ j = 3 → I1 j = I j := fun j hj => (hI1 j hj).trans (gI0 j hj)
  have gW1 : ∀ r, ¬ r = 10 → W1 r = W r := fun r hr => (hW1 r hr).trans (gW0 r hr)
  have gT1 : W1 10 = jp_wr (W 10) t9 [10] := hT1.trans (by first | rfl | (rw [gT0]; done) | (rw [gT0]; rfl))
  show jb_J _ RX12 cX12_calls 3 (Option.some .int) false 3 0 0 68 [some (.ref 105), some (.int 4), some (.int x)] [.int ((x) + (nI p))] [s0, s1, s2, s3, s4, s5, s6, s7, s8, s9, jb_mdl I1 J d e kp nm W1, s11] _
  refine jb_iret dX12_calls_68 rfl ?_
  exact ⟨rfl, I1, W1, gI1, h31, gW1, gT1, rfl⟩
set_option maxRecDepth 100000 in
set_option maxHeartbeats 4000000 in
theorem cm_waits_0_4 {sc : Nat × (Nat → Int32)} {s0 s1 s2 s3 s4 s5 s6 s7 s8 s9 s11 : List va_E} {V : Nat → Nat → Nat} (I J d e kp nm : Nat → Int32) (W : Nat → Nat → Int32) (hd : jd_ V d) (hk : jv_ok V) (p : Nat) (hp : p < V 0 1) (hkd : V 1 p = 4) (h4 : I 4 = nI p) (t9 : Nat) (h3 : I 3 = nI t9) (ht : t9 + 1 ≤ 40) (x : Int32) : jb_C sc yX12_waits cX12_waits 3 (Option.some .int) 1 0 0 [.ref 105, .int 0, .int x] [s0, s1, s2, s3, s4, s5, s6, s7, s8, s9, jb_mdl I J d e kp nm W, s11] (fun r h9 => r = some (.int ((x) - (nI (V 2 p)))) ∧ ∃ I9 W9, (∀ j, ¬ j = 3 → I9 j = I j) ∧ I9 3 = nI (t9 + 1) ∧ (∀ r, ¬ r = 10 → W9 r = W r) ∧ W9 10 = jp_wr (W 10) t9 [12] ∧ h9 = [s0, s1, s2, s3, s4, s5, s6, s7, s8, s9, jb_mdl I9 J d e kp nm W9, s11]) := by
  refine jb_CofJ (ini := false) (by decide +kernel) (fun h => by cases h) (Nat.le_of_ble_eq_true rfl) ?_
  show jb_J sc RX12 cX12_waits 3 (Option.some .int) false 1 0 0 0 [some (.ref 105), some (.int 0), some (.int x)] [] [s0, s1, s2, s3, s4, s5, s6, s7, s8, s9, jb_mdl I J d e kp nm W, s11] _
  have gI0 : ∀ j, ¬ j = 3 → I j = I j := fun _ _ => rfl
  have gW0 : ∀ r, ¬ r = 10 → W r = W r := fun _ _ => rfl
  have gT0 : W 10 = jp_wr (W 10) t9 [] := rfl
  refine jb_iload_n (pc' := 1) dX12_waits_0 rfl rfl ?_
  refine jb_lookup (pc' := 36) (off := 35) dX12_waits_1 (by decide +kernel) (by decide +kernel) (by decide) ?_
  refine jb_aload_n (pc' := 37) dX12_waits_36 rfl rfl ?_
  refine jb_bipush (pc' := 39) 12 dX12_waits_37 (by decide) rfl ?_
  refine jb_callV (pc' := 42) (ci := 12) (q := 105) (As := [.int 12]) (a2 := 0) (b2 := 0) wv_X12_265 rfl dX12_waits_39 (c_ran I J d e kp nm W t9 h3 (by omega) 12) rfl rfl ⟨by decide, Nat.le_of_eq (Nat.zero_add _), Nat.le_of_eq (Nat.zero_add _)⟩ (Nat.le_of_ble_eq_true rfl) rfl (fun r h9 hq => ?_)
  obtain ⟨rfl, I1, W1, hI1, h31, hW1, hT1, rfl⟩ := hq
  have gI1 : ∀ j, ¬ j = 3 → I1 j = I j := fun j hj => (hI1 j hj).trans (gI0 j hj)
  have gW1 : ∀ r, ¬ r = 10 → W1 r = W r := fun r hr => (hW1 r hr).trans (gW0 r hr)
  have gT1 : W1 10 = jp_wr (W 10) t9 [12] := hT1.trans (by first | rfl | (rw [gT0]; done) | (rw [gT0]; rfl))
  show jb_J _ RX12 cX12_waits 3 (Option.some .int) false 1 0 0 42 [some (.ref 105), some (.int 0), some (.int x)] [] [s0, s1, s2, s3, s4, s5, s6, s7, s8, s9, jb_mdl I1 J d e kp nm W1, s11] _
  refine jb_iload_n (pc' := 43) dX12_waits_42 rfl rfl ?_
  refine jb_aload_n (pc' := 44) dX12_waits_43 rfl rfl ?_
  refine jb_aload_n (pc' := 45) dX12_waits_44 rfl rfl ?_
  refine gf_X12_262 (pc' := 48) (v := .int (I1 4)) dX12_waits_45 rfl rfl rfl ?_
  refine jb_top (v := .int (I1 4)) (w := .int (nI p)) (jb_vI ((gI1 4 (by decide)).trans h4)) ?_
  refine jb_iconst (pc' := 49) 1 dX12_waits_48 (by decide) rfl ?_
  refine jb_callV (pc' := 52) (ci := 12) (q := 105) (As := [.int (nI p), .int 1]) (a2 := 0) (b2 := 0) wv_X12_145 rfl dX12_waits_49 (c_of1 I1 J d e kp nm W1 hd hk p hp) rfl rfl ⟨by decide, Nat.le_of_eq (Nat.zero_add _), Nat.le_of_eq (Nat.zero_add _)⟩ (Nat.le_of_ble_eq_true rfl) rfl (fun r h9 hq => ?_)
  obtain ⟨rfl, rfl⟩ := hq
  show jb_J _ RX12 cX12_waits 3 (Option.some .int) false 1 0 0 52 [some (.ref 105), some (.int 0), some (.int x)] [.int (nI (V 2 p)), .int x] [s0, s1, s2, s3, s4, s5, s6, s7, s8, s9, jb_mdl I1 J d e kp nm W1, s11] _
  refine jb_isub (pc' := 53) dX12_waits_52 rfl ?_
  refine jb_iret dX12_waits_53 rfl ?_
  exact ⟨rfl, I1, W1, gI1, h31, gW1, gT1, rfl⟩
set_option maxRecDepth 100000 in
set_option maxHeartbeats 4000000 in
theorem cm_waits_1_4 {sc : Nat × (Nat → Int32)} {s0 s1 s2 s3 s4 s5 s6 s7 s8 s9 s11 : List va_E} {V : Nat → Nat → Nat} (I J d e kp nm : Nat → Int32) (W : Nat → Nat → Int32) (hd : jd_ V d) (hk : jv_ok V) (p : Nat) (hp : p < V 0 1) (hkd : V 1 p = 4) (h4 : I 4 = nI p) (t9 : Nat) (h3 : I 3 = nI t9) (ht : t9 + 1 ≤ 40) (x : Int32) : jb_C sc yX12_waits cX12_waits 3 (Option.some .int) 2 0 0 [.ref 105, .int 1, .int x] [s0, s1, s2, s3, s4, s5, s6, s7, s8, s9, jb_mdl I J d e kp nm W, s11] (fun r h9 => r = some (.int ((x) - (nI (V 2 p)))) ∧ ∃ I9 W9, (∀ j, ¬ j = 3 → I9 j = I j) ∧ I9 3 = nI (t9 + 1) ∧ (∀ r, ¬ r = 10 → W9 r = W r) ∧ W9 10 = jp_wr (W 10) t9 [12] ∧ h9 = [s0, s1, s2, s3, s4, s5, s6, s7, s8, s9, jb_mdl I9 J d e kp nm W9, s11]) := by
  refine jb_CofJ (ini := false) (by decide +kernel) (fun h => by cases h) (Nat.le_of_ble_eq_true rfl) ?_
  show jb_J sc RX12 cX12_waits 3 (Option.some .int) false 2 0 0 0 [some (.ref 105), some (.int 1), some (.int x)] [] [s0, s1, s2, s3, s4, s5, s6, s7, s8, s9, jb_mdl I J d e kp nm W, s11] _
  have gI0 : ∀ j, ¬ j = 3 → I j = I j := fun _ _ => rfl
  have gW0 : ∀ r, ¬ r = 10 → W r = W r := fun _ _ => rfl
  have gT0 : W 10 = jp_wr (W 10) t9 [] := rfl
  refine jb_iload_n (pc' := 1) dX12_waits_0 rfl rfl ?_
  refine jb_lookup (pc' := 93) (off := 92) dX12_waits_1 (by decide +kernel) (by decide +kernel) (by decide) ?_
  refine jb_aload_n (pc' := 94) dX12_waits_93 rfl rfl ?_
  refine jb_iload_n (pc' := 95) dX12_waits_94 rfl rfl ?_
  refine jb_callS (pc' := 98) (As := [.int 1]) (a2 := 0) (b2 := 0) wv_X12_168 dX12_waits_95 (c_above 1 (by decide)) rfl ⟨by decide, Nat.le_of_eq (Nat.zero_add _), Nat.le_of_eq (Nat.zero_add _)⟩ (Nat.le_of_ble_eq_true rfl) rfl (fun r h9 hq => ?_)
  obtain ⟨rfl, rfl⟩ := hq
  show jb_J _ RX12 cX12_waits 3 (Option.some .int) false 2 0 0 98 [some (.ref 105), some (.int 1), some (.int x)] [.int 0, .ref 105] [s0, s1, s2, s3, s4, s5, s6, s7, s8, s9, jb_mdl I J d e kp nm W, s11] _
  refine jb_iload_n (pc' := 99) dX12_waits_98 rfl rfl ?_
  refine jb_callV (pc' := 102) (ci := 12) (q := 105) (As := [.int 0, .int x]) (a2 := 0) (b2 := 0) wv_X12_277 rfl dX12_waits_99 (cm_waits_0_4 I J d e kp nm W hd hk p hp hkd ((gI0 4 (by decide)).trans h4) t9 h3 (by omega) x) rfl rfl ⟨by decide, Nat.le_of_eq (Nat.zero_add _), Nat.le_of_eq (Nat.zero_add _)⟩ (Nat.le_of_ble_eq_true rfl) rfl (fun r h9 hq => ?_)
  obtain ⟨rfl, I1, W1, hI1, h31, hW1, hT1, rfl⟩ := hq
  have gI1 : ∀ j, ¬ j = 3 → I1 j = I j := fun j hj => (hI1 j hj).trans (gI0 j hj)
  have gW1 : ∀ r, ¬ r = 10 → W1 r = W r := fun r hr => (hW1 r hr).trans (gW0 r hr)
  have gT1 : W1 10 = jp_wr (W 10) t9 [12] := hT1.trans (by first | rfl | (rw [gT0]; done) | (rw [gT0]; rfl))
  show jb_J _ RX12 cX12_waits 3 (Option.some .int) false 2 0 0 102 [some (.ref 105), some (.int 1), some (.int x)] [.int ((x) - (nI (V 2 p)))] [s0, s1, s2, s3, s4, s5, s6, s7, s8, s9, jb_mdl I1 J d e kp nm W1, s11] _
  refine jb_iret dX12_waits_102 rfl ?_
  exact ⟨rfl, I1, W1, gI1, h31, gW1, gT1, rfl⟩
set_option maxRecDepth 100000 in
set_option maxHeartbeats 4000000 in
theorem cm_waits_4_4 {sc : Nat × (Nat → Int32)} {s0 s1 s2 s3 s4 s5 s6 s7 s8 s9 s11 : List va_E} {V : Nat → Nat → Nat} (I J d e kp nm : Nat → Int32) (W : Nat → Nat → Int32) (hd : jd_ V d) (hk : jv_ok V) (p : Nat) (hp : p < V 0 1) (hkd : V 1 p = 4) (h4 : I 4 = nI p) (t9 : Nat) (h3 : I 3 = nI t9) (ht : t9 + 1 ≤ 40) (x : Int32) : jb_C sc yX12_waits cX12_waits 3 (Option.some .int) 3 0 0 [.ref 105, .int 4, .int x] [s0, s1, s2, s3, s4, s5, s6, s7, s8, s9, jb_mdl I J d e kp nm W, s11] (fun r h9 => r = some (.int ((x) - (nI (V 2 p)))) ∧ ∃ I9 W9, (∀ j, ¬ j = 3 → I9 j = I j) ∧ I9 3 = nI (t9 + 1) ∧ (∀ r, ¬ r = 10 → W9 r = W r) ∧ W9 10 = jp_wr (W 10) t9 [12] ∧ h9 = [s0, s1, s2, s3, s4, s5, s6, s7, s8, s9, jb_mdl I9 J d e kp nm W9, s11]) := by
  refine jb_CofJ (ini := false) (by decide +kernel) (fun h => by cases h) (Nat.le_of_ble_eq_true rfl) ?_
  show jb_J sc RX12 cX12_waits 3 (Option.some .int) false 3 0 0 0 [some (.ref 105), some (.int 4), some (.int x)] [] [s0, s1, s2, s3, s4, s5, s6, s7, s8, s9, jb_mdl I J d e kp nm W, s11] _
  have gI0 : ∀ j, ¬ j = 3 → I j = I j := fun _ _ => rfl
  have gW0 : ∀ r, ¬ r = 10 → W r = W r := fun _ _ => rfl
  have gT0 : W 10 = jp_wr (W 10) t9 [] := rfl
  refine jb_iload_n (pc' := 1) dX12_waits_0 rfl rfl ?_
  refine jb_lookup (pc' := 93) (off := 92) dX12_waits_1 (by decide +kernel) (by decide +kernel) (by decide) ?_
  refine jb_aload_n (pc' := 94) dX12_waits_93 rfl rfl ?_
  refine jb_iload_n (pc' := 95) dX12_waits_94 rfl rfl ?_
  refine jb_callS (pc' := 98) (As := [.int 4]) (a2 := 0) (b2 := 0) wv_X12_168 dX12_waits_95 (c_above 4 (by decide)) rfl ⟨by decide, Nat.le_of_eq (Nat.zero_add _), Nat.le_of_eq (Nat.zero_add _)⟩ (Nat.le_of_ble_eq_true rfl) rfl (fun r h9 hq => ?_)
  obtain ⟨rfl, rfl⟩ := hq
  show jb_J _ RX12 cX12_waits 3 (Option.some .int) false 3 0 0 98 [some (.ref 105), some (.int 4), some (.int x)] [.int 1, .ref 105] [s0, s1, s2, s3, s4, s5, s6, s7, s8, s9, jb_mdl I J d e kp nm W, s11] _
  refine jb_iload_n (pc' := 99) dX12_waits_98 rfl rfl ?_
  refine jb_callV (pc' := 102) (ci := 12) (q := 105) (As := [.int 1, .int x]) (a2 := 0) (b2 := 0) wv_X12_277 rfl dX12_waits_99 (cm_waits_1_4 I J d e kp nm W hd hk p hp hkd ((gI0 4 (by decide)).trans h4) t9 h3 (by omega) x) rfl rfl ⟨by decide, Nat.le_of_eq (Nat.zero_add _), Nat.le_of_eq (Nat.zero_add _)⟩ (Nat.le_of_ble_eq_true rfl) rfl (fun r h9 hq => ?_)
  obtain ⟨rfl, I1, W1, hI1, h31, hW1, hT1, rfl⟩ := hq
  have gI1 : ∀ j, ¬ j = 3 → I1 j = I j := fun j hj => (hI1 j hj).trans (gI0 j hj)
  have gW1 : ∀ r, ¬ r = 10 → W1 r = W r := fun r hr => (hW1 r hr).trans (gW0 r hr)
  have gT1 : W1 10 = jp_wr (W 10) t9 [12] := hT1.trans (by first | rfl | (rw [gT0]; done) | (rw [gT0]; rfl))
  show jb_J _ RX12 cX12_waits 3 (Option.some .int) false 3 0 0 102 [some (.ref 105), some (.int 4), some (.int x)] [.int ((x) - (nI (V 2 p)))] [s0, s1, s2, s3, s4, s5, s6, s7, s8, s9, jb_mdl I1 J d e kp nm W1, s11] _
  refine jb_iret dX12_waits_102 rfl ?_
  exact ⟨rfl, I1, W1, gI1, h31, gW1, gT1, rfl⟩
set_option maxRecDepth 100000 in
set_option maxHeartbeats 4000000 in
theorem cm_hears_0_4 {sc : Nat × (Nat → Int32)} {s0 s1 s2 s3 s4 s5 s6 s7 s8 s9 s11 : List va_E} {V : Nat → Nat → Nat} (I J d e kp nm : Nat → Int32) (W : Nat → Nat → Int32) (hd : jd_ V d) (hk : jv_ok V) (p : Nat) (hp : p < V 0 1) (hkd : V 1 p = 4) (h4 : I 4 = nI p) (t9 : Nat) (h3 : I 3 = nI t9) (ht : t9 + 2 ≤ 40) (x : Int32) : jb_C sc yX12_hears cX12_hears 4 (Option.some .int) 4 0 0 [.ref 105, .int 0, .int x] [s0, s1, s2, s3, s4, s5, s6, s7, s8, s9, jb_mdl I J d e kp nm W, s11] (fun r h9 => r = some (.int (((x) + (nI p)) * 2)) ∧ ∃ I9 W9, (∀ j, ¬ j = 3 → I9 j = I j) ∧ I9 3 = nI (t9 + 2) ∧ (∀ r, ¬ r = 10 → W9 r = W r) ∧ W9 10 = jp_wr (W 10) t9 [11, 10] ∧ h9 = [s0, s1, s2, s3, s4, s5, s6, s7, s8, s9, jb_mdl I9 J d e kp nm W9, s11]) := by
  refine jb_CofJ (ini := false) (by decide +kernel) (fun h => by cases h) (Nat.le_of_ble_eq_true rfl) ?_
  show jb_J sc RX12 cX12_hears 4 (Option.some .int) false 4 0 0 0 [some (.ref 105), some (.int 0), some (.int x), none] [] [s0, s1, s2, s3, s4, s5, s6, s7, s8, s9, jb_mdl I J d e kp nm W, s11] _
  have gI0 : ∀ j, ¬ j = 3 → I j = I j := fun _ _ => rfl
  have gW0 : ∀ r, ¬ r = 10 → W r = W r := fun _ _ => rfl
  have gT0 : W 10 = jp_wr (W 10) t9 [] := rfl
  refine jb_iload_n (pc' := 1) dX12_hears_0 rfl rfl ?_
  refine jb_tableIn (pc' := 36) (off := 35) dX12_hears_1 (by decide) (by decide) (by decide +kernel) (by decide) ?_
  refine jb_aload_n (pc' := 37) dX12_hears_36 rfl rfl ?_
  refine jb_bipush (pc' := 39) 11 dX12_hears_37 (by decide) rfl ?_
  refine jb_callV (pc' := 42) (ci := 12) (q := 105) (As := [.int 11]) (a2 := 0) (b2 := 0) wv_X12_265 rfl dX12_hears_39 (c_ran I J d e kp nm W t9 h3 (by omega) 11) rfl rfl ⟨by decide, Nat.le_of_eq (Nat.zero_add _), Nat.le_of_eq (Nat.zero_add _)⟩ (Nat.le_of_ble_eq_true rfl) rfl (fun r h9 hq => ?_)
  obtain ⟨rfl, I1, W1, hI1, h31, hW1, hT1, rfl⟩ := hq
  have gI1 : ∀ j, ¬ j = 3 → I1 j = I j := fun j hj => (hI1 j hj).trans (gI0 j hj)
  have gW1 : ∀ r, ¬ r = 10 → W1 r = W r := fun r hr => (hW1 r hr).trans (gW0 r hr)
  have gT1 : W1 10 = jp_wr (W 10) t9 [11] := hT1.trans (by first | rfl | (rw [gT0]; done) | (rw [gT0]; rfl))
  show jb_J _ RX12 cX12_hears 4 (Option.some .int) false 4 0 0 42 [some (.ref 105), some (.int 0), some (.int x), none] [] [s0, s1, s2, s3, s4, s5, s6, s7, s8, s9, jb_mdl I1 J d e kp nm W1, s11] _
  refine jb_aload_n (pc' := 43) dX12_hears_42 rfl rfl ?_
  refine jb_aload_n (pc' := 44) dX12_hears_43 rfl rfl ?_
  refine jb_callV (pc' := 47) (ci := 12) (q := 105) (As := []) (a2 := 0) (b2 := 0) wv_X12_271 rfl dX12_hears_44 (c_own I1 J d e kp nm W1 hd hk p hp ((gI1 4 (by decide)).trans h4)) rfl rfl ⟨by decide, Nat.le_of_eq (Nat.zero_add _), Nat.le_of_eq (Nat.zero_add _)⟩ (Nat.le_of_ble_eq_true rfl) rfl (fun r h9 hq => ?_)
  obtain ⟨rfl, rfl⟩ := hq
  rw [hkd]
  show jb_J _ RX12 cX12_hears 4 (Option.some .int) false 4 0 0 47 [some (.ref 105), some (.int 0), some (.int x), none] [.int 4, .ref 105] [s0, s1, s2, s3, s4, s5, s6, s7, s8, s9, jb_mdl I1 J d e kp nm W1, s11] _
  refine jb_iload_n (pc' := 48) dX12_hears_47 rfl rfl ?_
  refine jb_callV (pc' := 51) (ci := 12) (q := 105) (As := [.int 4, .int x]) (a2 := 0) (b2 := 0) wv_X12_268 rfl dX12_hears_48 (cm_calls_4_4 I1 J d e kp nm W1 hd hk p hp hkd ((gI1 4 (by decide)).trans h4) (t9 + 1) h31 (by omega) x) rfl rfl ⟨by decide, Nat.le_of_eq (Nat.zero_add _), Nat.le_of_eq (Nat.zero_add _)⟩ (Nat.le_of_ble_eq_true rfl) rfl (fun r h9 hq => ?_)
  obtain ⟨rfl, I2, W2, hI2, h32, hW2, hT2, rfl⟩ := hq
  have gI2 : ∀ j, ¬ j = 3 → I2 j = I j := fun j hj => (hI2 j hj).trans (gI1 j hj)
  have gW2 : ∀ r, ¬ r = 10 → W2 r = W r := fun r hr => (hW2 r hr).trans (gW1 r hr)
  have gT2 : W2 10 = jp_wr (W 10) t9 [11, 10] := hT2.trans (by first | rfl | (rw [gT1]; done) | (rw [gT1]; rfl))
  show jb_J _ RX12 cX12_hears 4 (Option.some .int) false 4 0 0 51 [some (.ref 105), some (.int 0), some (.int x), none] [.int ((x) + (nI p))] [s0, s1, s2, s3, s4, s5, s6, s7, s8, s9, jb_mdl I2 J d e kp nm W2, s11] _
  refine jb_iconst (pc' := 52) 2 dX12_hears_51 (by decide) rfl ?_
  refine jb_imul (pc' := 53) dX12_hears_52 rfl ?_
  refine jb_iret dX12_hears_53 rfl ?_
  exact ⟨rfl, I2, W2, gI2, h32, gW2, gT2, rfl⟩
set_option maxRecDepth 100000 in
set_option maxHeartbeats 4000000 in
theorem cm_hears_1_4 {sc : Nat × (Nat → Int32)} {s0 s1 s2 s3 s4 s5 s6 s7 s8 s9 s11 : List va_E} {V : Nat → Nat → Nat} (I J d e kp nm : Nat → Int32) (W : Nat → Nat → Int32) (hd : jd_ V d) (hk : jv_ok V) (p : Nat) (hp : p < V 0 1) (hkd : V 1 p = 4) (h4 : I 4 = nI p) (t9 : Nat) (h3 : I 3 = nI t9) (ht : t9 + 4 ≤ 40) (x : Int32) : jb_C sc yX12_hears cX12_hears 4 (Option.some .int) 5 0 0 [.ref 105, .int 1, .int x] [s0, s1, s2, s3, s4, s5, s6, s7, s8, s9, jb_mdl I J d e kp nm W, s11] (fun r h9 => r = some (.int ((((x) + (nI p)) * 2) - ((1) - (nI (V 2 p))))) ∧ ∃ I9 W9, (∀ j, ¬ j = 3 → I9 j = I j) ∧ I9 3 = nI (t9 + 4) ∧ (∀ r, ¬ r = 10 → W9 r = W r) ∧ W9 10 = jp_wr (W 10) t9 [20, 11, 10, 12] ∧ h9 = [s0, s1, s2, s3, s4, s5, s6, s7, s8, s9, jb_mdl I9 J d e kp nm W9, s11]) := by
  refine jb_CofJ (ini := false) (by decide +kernel) (fun h => by cases h) (Nat.le_of_ble_eq_true rfl) ?_
  show jb_J sc RX12 cX12_hears 4 (Option.some .int) false 5 0 0 0 [some (.ref 105), some (.int 1), some (.int x), none] [] [s0, s1, s2, s3, s4, s5, s6, s7, s8, s9, jb_mdl I J d e kp nm W, s11] _
  have gI0 : ∀ j, ¬ j = 3 → I j = I j := fun _ _ => rfl
  have gW0 : ∀ r, ¬ r = 10 → W r = W r := fun _ _ => rfl
  have gT0 : W 10 = jp_wr (W 10) t9 [] := rfl
  refine jb_iload_n (pc' := 1) dX12_hears_0 rfl rfl ?_
  refine jb_tableIn (pc' := 54) (off := 53) dX12_hears_1 (by decide) (by decide) (by decide +kernel) (by decide) ?_
  refine jb_aload_n (pc' := 55) dX12_hears_54 rfl rfl ?_
  refine jb_bipush (pc' := 57) 20 dX12_hears_55 (by decide) rfl ?_
  refine jb_callV (pc' := 60) (ci := 12) (q := 105) (As := [.int 20]) (a2 := 0) (b2 := 0) wv_X12_265 rfl dX12_hears_57 (c_ran I J d e kp nm W t9 h3 (by omega) 20) rfl rfl ⟨by decide, Nat.le_of_eq (Nat.zero_add _), Nat.le_of_eq (Nat.zero_add _)⟩ (Nat.le_of_ble_eq_true rfl) rfl (fun r h9 hq => ?_)
  obtain ⟨rfl, I1, W1, hI1, h31, hW1, hT1, rfl⟩ := hq
  have gI1 : ∀ j, ¬ j = 3 → I1 j = I j := fun j hj => (hI1 j hj).trans (gI0 j hj)
  have gW1 : ∀ r, ¬ r = 10 → W1 r = W r := fun r hr => (hW1 r hr).trans (gW0 r hr)
  have gT1 : W1 10 = jp_wr (W 10) t9 [20] := hT1.trans (by first | rfl | (rw [gT0]; done) | (rw [gT0]; rfl))
  show jb_J _ RX12 cX12_hears 4 (Option.some .int) false 5 0 0 60 [some (.ref 105), some (.int 1), some (.int x), none] [] [s0, s1, s2, s3, s4, s5, s6, s7, s8, s9, jb_mdl I1 J d e kp nm W1, s11] _
  refine jb_aload_n (pc' := 61) dX12_hears_60 rfl rfl ?_
  refine jb_iconst (pc' := 62) 1 dX12_hears_61 (by decide) rfl ?_
  refine jb_callS (pc' := 65) (As := [.int 1]) (a2 := 0) (b2 := 0) wv_X12_168 dX12_hears_62 (c_above 1 (by decide)) rfl ⟨by decide, Nat.le_of_eq (Nat.zero_add _), Nat.le_of_eq (Nat.zero_add _)⟩ (Nat.le_of_ble_eq_true rfl) rfl (fun r h9 hq => ?_)
  obtain ⟨rfl, rfl⟩ := hq
  show jb_J _ RX12 cX12_hears 4 (Option.some .int) false 5 0 0 65 [some (.ref 105), some (.int 1), some (.int x), none] [.int 0, .ref 105] [s0, s1, s2, s3, s4, s5, s6, s7, s8, s9, jb_mdl I1 J d e kp nm W1, s11] _
  refine jb_iload_n (pc' := 66) dX12_hears_65 rfl rfl ?_
  refine jb_callV (pc' := 69) (ci := 12) (q := 105) (As := [.int 0, .int x]) (a2 := 0) (b2 := 0) wv_X12_274 rfl dX12_hears_66 (cm_hears_0_4 I1 J d e kp nm W1 hd hk p hp hkd ((gI1 4 (by decide)).trans h4) (t9 + 1) h31 (by omega) x) rfl rfl ⟨by decide, Nat.le_of_eq (Nat.zero_add _), Nat.le_of_eq (Nat.zero_add _)⟩ (Nat.le_of_ble_eq_true rfl) rfl (fun r h9 hq => ?_)
  obtain ⟨rfl, I2, W2, hI2, h32, hW2, hT2, rfl⟩ := hq
  have gI2 : ∀ j, ¬ j = 3 → I2 j = I j := fun j hj => (hI2 j hj).trans (gI1 j hj)
  have gW2 : ∀ r, ¬ r = 10 → W2 r = W r := fun r hr => (hW2 r hr).trans (gW1 r hr)
  have gT2 : W2 10 = jp_wr (W 10) t9 [20, 11, 10] := hT2.trans (by first | rfl | (rw [gT1]; done) | (rw [gT1]; rfl))
  show jb_J _ RX12 cX12_hears 4 (Option.some .int) false 5 0 0 69 [some (.ref 105), some (.int 1), some (.int x), none] [.int (((x) + (nI p)) * 2)] [s0, s1, s2, s3, s4, s5, s6, s7, s8, s9, jb_mdl I2 J d e kp nm W2, s11] _
  refine jb_istore_n_ (pc' := 70) dX12_hears_69 (by decide) (jb_at3 rfl) rfl ?_
  refine jb_iload_n (pc' := 71) dX12_hears_70 rfl rfl ?_
  refine jb_aload_n (pc' := 72) dX12_hears_71 rfl rfl ?_
  refine jb_aload_n (pc' := 73) dX12_hears_72 rfl rfl ?_
  refine jb_callV (pc' := 76) (ci := 12) (q := 105) (As := []) (a2 := 0) (b2 := 0) wv_X12_271 rfl dX12_hears_73 (c_own I2 J d e kp nm W2 hd hk p hp ((gI2 4 (by decide)).trans h4)) rfl rfl ⟨by decide, Nat.le_of_eq (Nat.zero_add _), Nat.le_of_eq (Nat.zero_add _)⟩ (Nat.le_of_ble_eq_true rfl) rfl (fun r h9 hq => ?_)
  obtain ⟨rfl, rfl⟩ := hq
  rw [hkd]
  show jb_J _ RX12 cX12_hears 4 (Option.some .int) false 5 0 0 76 [some (.ref 105), some (.int 1), some (.int x), some (.int (((x) + (nI p)) * 2))] [.int 4, .ref 105, .int (((x) + (nI p)) * 2)] [s0, s1, s2, s3, s4, s5, s6, s7, s8, s9, jb_mdl I2 J d e kp nm W2, s11] _
  refine jb_iconst (pc' := 77) 1 dX12_hears_76 (by decide) rfl ?_
  refine jb_callV (pc' := 80) (ci := 12) (q := 105) (As := [.int 4, .int 1]) (a2 := 0) (b2 := 0) wv_X12_277 rfl dX12_hears_77 (cm_waits_4_4 I2 J d e kp nm W2 hd hk p hp hkd ((gI2 4 (by decide)).trans h4) ((t9 + 1) + 2) h32 (by omega) 1) rfl rfl ⟨by decide, Nat.le_of_eq (Nat.zero_add _), Nat.le_of_eq (Nat.zero_add _)⟩ (Nat.le_of_ble_eq_true rfl) rfl (fun r h9 hq => ?_)
  obtain ⟨rfl, I3, W3, hI3, h33, hW3, hT3, rfl⟩ := hq
  have gI3 : ∀ j, ¬ j = 3 → I3 j = I j := fun j hj => (hI3 j hj).trans (gI2 j hj)
  have gW3 : ∀ r, ¬ r = 10 → W3 r = W r := fun r hr => (hW3 r hr).trans (gW2 r hr)
  have gT3 : W3 10 = jp_wr (W 10) t9 [20, 11, 10, 12] := hT3.trans (by first | rfl | (rw [gT2]; done) | (rw [gT2]; rfl))
  show jb_J _ RX12 cX12_hears 4 (Option.some .int) false 5 0 0 80 [some (.ref 105), some (.int 1), some (.int x), some (.int (((x) + (nI p)) * 2))] [.int ((1) - (nI (V 2 p))), .int (((x) + (nI p)) * 2)] [s0, s1, s2, s3, s4, s5, s6, s7, s8, s9, jb_mdl I3 J d e kp nm W3, s11] _
  refine jb_isub (pc' := 81) dX12_hears_80 rfl ?_
  refine jb_iret dX12_hears_81 rfl ?_
  exact ⟨rfl, I3, W3, gI3, h33, gW3, gT3, rfl⟩
set_option maxRecDepth 100000 in
set_option maxHeartbeats 4000000 in
theorem cm_hears_4_4 {sc : Nat × (Nat → Int32)} {s0 s1 s2 s3 s4 s5 s6 s7 s8 s9 s11 : List va_E} {V : Nat → Nat → Nat} (I J d e kp nm : Nat → Int32) (W : Nat → Nat → Int32) (hd : jd_ V d) (hk : jv_ok V) (p : Nat) (hp : p < V 0 1) (hkd : V 1 p = 4) (h4 : I 4 = nI p) (t9 : Nat) (h3 : I 3 = nI t9) (ht : t9 + 5 ≤ 40) (x : Int32) : jb_C sc yX12_hears cX12_hears 4 (Option.some .int) 6 0 0 [.ref 105, .int 4, .int x] [s0, s1, s2, s3, s4, s5, s6, s7, s8, s9, jb_mdl I J d e kp nm W, s11] (fun r h9 => r = some (.int (((((x) + 1) + (nI p)) * 2) - ((1) - (nI (V 2 p))))) ∧ ∃ I9 W9, (∀ j, ¬ j = 3 → I9 j = I j) ∧ I9 3 = nI (t9 + 5) ∧ (∀ r, ¬ r = 10 → W9 r = W r) ∧ W9 10 = jp_wr (W 10) t9 [50, 20, 11, 10, 12] ∧ h9 = [s0, s1, s2, s3, s4, s5, s6, s7, s8, s9, jb_mdl I9 J d e kp nm W9, s11]) := by
  refine jb_CofJ (ini := false) (by decide +kernel) (fun h => by cases h) (Nat.le_of_ble_eq_true rfl) ?_
  show jb_J sc RX12 cX12_hears 4 (Option.some .int) false 6 0 0 0 [some (.ref 105), some (.int 4), some (.int x), none] [] [s0, s1, s2, s3, s4, s5, s6, s7, s8, s9, jb_mdl I J d e kp nm W, s11] _
  have gI0 : ∀ j, ¬ j = 3 → I j = I j := fun _ _ => rfl
  have gW0 : ∀ r, ¬ r = 10 → W r = W r := fun _ _ => rfl
  have gT0 : W 10 = jp_wr (W 10) t9 [] := rfl
  refine jb_iload_n (pc' := 1) dX12_hears_0 rfl rfl ?_
  refine jb_tableIn (pc' := 82) (off := 81) dX12_hears_1 (by decide) (by decide) (by decide +kernel) (by decide) ?_
  refine jb_aload_n (pc' := 83) dX12_hears_82 rfl rfl ?_
  refine jb_bipush (pc' := 85) 50 dX12_hears_83 (by decide) rfl ?_
  refine jb_callV (pc' := 88) (ci := 12) (q := 105) (As := [.int 50]) (a2 := 0) (b2 := 0) wv_X12_265 rfl dX12_hears_85 (c_ran I J d e kp nm W t9 h3 (by omega) 50) rfl rfl ⟨by decide, Nat.le_of_eq (Nat.zero_add _), Nat.le_of_eq (Nat.zero_add _)⟩ (Nat.le_of_ble_eq_true rfl) rfl (fun r h9 hq => ?_)
  obtain ⟨rfl, I1, W1, hI1, h31, hW1, hT1, rfl⟩ := hq
  have gI1 : ∀ j, ¬ j = 3 → I1 j = I j := fun j hj => (hI1 j hj).trans (gI0 j hj)
  have gW1 : ∀ r, ¬ r = 10 → W1 r = W r := fun r hr => (hW1 r hr).trans (gW0 r hr)
  have gT1 : W1 10 = jp_wr (W 10) t9 [50] := hT1.trans (by first | rfl | (rw [gT0]; done) | (rw [gT0]; rfl))
  show jb_J _ RX12 cX12_hears 4 (Option.some .int) false 6 0 0 88 [some (.ref 105), some (.int 4), some (.int x), none] [] [s0, s1, s2, s3, s4, s5, s6, s7, s8, s9, jb_mdl I1 J d e kp nm W1, s11] _
  refine jb_aload_n (pc' := 89) dX12_hears_88 rfl rfl ?_
  refine jb_iconst (pc' := 90) 4 dX12_hears_89 (by decide) rfl ?_
  refine jb_callS (pc' := 93) (As := [.int 4]) (a2 := 0) (b2 := 0) wv_X12_168 dX12_hears_90 (c_above 4 (by decide)) rfl ⟨by decide, Nat.le_of_eq (Nat.zero_add _), Nat.le_of_eq (Nat.zero_add _)⟩ (Nat.le_of_ble_eq_true rfl) rfl (fun r h9 hq => ?_)
  obtain ⟨rfl, rfl⟩ := hq
  show jb_J _ RX12 cX12_hears 4 (Option.some .int) false 6 0 0 93 [some (.ref 105), some (.int 4), some (.int x), none] [.int 1, .ref 105] [s0, s1, s2, s3, s4, s5, s6, s7, s8, s9, jb_mdl I1 J d e kp nm W1, s11] _
  refine jb_iload_n (pc' := 94) dX12_hears_93 rfl rfl ?_
  refine jb_iconst (pc' := 95) 1 dX12_hears_94 (by decide) rfl ?_
  refine jb_iadd (pc' := 96) dX12_hears_95 rfl ?_
  refine jb_callV (pc' := 99) (ci := 12) (q := 105) (As := [.int 1, .int (x + 1)]) (a2 := 0) (b2 := 0) wv_X12_274 rfl dX12_hears_96 (cm_hears_1_4 I1 J d e kp nm W1 hd hk p hp hkd ((gI1 4 (by decide)).trans h4) (t9 + 1) h31 (by omega) (x + 1)) rfl rfl ⟨by decide, Nat.le_of_eq (Nat.zero_add _), Nat.le_of_eq (Nat.zero_add _)⟩ (Nat.le_of_ble_eq_true rfl) rfl (fun r h9 hq => ?_)
  obtain ⟨rfl, I2, W2, hI2, h32, hW2, hT2, rfl⟩ := hq
  have gI2 : ∀ j, ¬ j = 3 → I2 j = I j := fun j hj => (hI2 j hj).trans (gI1 j hj)
  have gW2 : ∀ r, ¬ r = 10 → W2 r = W r := fun r hr => (hW2 r hr).trans (gW1 r hr)
  have gT2 : W2 10 = jp_wr (W 10) t9 [50, 20, 11, 10, 12] := hT2.trans (by first | rfl | (rw [gT1]; done) | (rw [gT1]; rfl))
  show jb_J _ RX12 cX12_hears 4 (Option.some .int) false 6 0 0 99 [some (.ref 105), some (.int 4), some (.int x), none] [.int ((((x + 1) + (nI p)) * 2) - ((1) - (nI (V 2 p))))] [s0, s1, s2, s3, s4, s5, s6, s7, s8, s9, jb_mdl I2 J d e kp nm W2, s11] _
  refine jb_iret dX12_hears_99 rfl ?_
  exact ⟨rfl, I2, W2, gI2, h32, gW2, gT2, rfl⟩
set_option maxRecDepth 100000 in
set_option maxHeartbeats 4000000 in
theorem cm_tells_0_4 {sc : Nat × (Nat → Int32)} {s0 s1 s2 s3 s4 s5 s6 s7 s8 s9 s11 : List va_E} {V : Nat → Nat → Nat} (I J d e kp nm : Nat → Int32) (W : Nat → Nat → Int32) (hd : jd_ V d) (hk : jv_ok V) (p : Nat) (hp : p < V 0 1) (hkd : V 1 p = 4) (h4 : I 4 = nI p) (t9 : Nat) (h3 : I 3 = nI t9) (ht : t9 + 7 ≤ 40) (x : Int32) : jb_C sc yX12_tells cX12_tells 4 (Option.some .int) 7 0 0 [.ref 105, .int 0, .int x] [s0, s1, s2, s3, s4, s5, s6, s7, s8, s9, jb_mdl I J d e kp nm W, s11] (fun r h9 => r = some (.int ((((((x) + 1) + (nI p)) * 2) - ((1) - (nI (V 2 p)))) ^^^ ((x) - (nI (V 2 p))))) ∧ ∃ I9 W9, (∀ j, ¬ j = 3 → I9 j = I j) ∧ I9 3 = nI (t9 + 7) ∧ (∀ r, ¬ r = 10 → W9 r = W r) ∧ W9 10 = jp_wr (W 10) t9 [13, 50, 20, 11, 10, 12, 12] ∧ h9 = [s0, s1, s2, s3, s4, s5, s6, s7, s8, s9, jb_mdl I9 J d e kp nm W9, s11]) := by
  refine jb_CofJ (ini := false) (by decide +kernel) (fun h => by cases h) (Nat.le_of_ble_eq_true rfl) ?_
  show jb_J sc RX12 cX12_tells 4 (Option.some .int) false 7 0 0 0 [some (.ref 105), some (.int 0), some (.int x), none] [] [s0, s1, s2, s3, s4, s5, s6, s7, s8, s9, jb_mdl I J d e kp nm W, s11] _
  have gI0 : ∀ j, ¬ j = 3 → I j = I j := fun _ _ => rfl
  have gW0 : ∀ r, ¬ r = 10 → W r = W r := fun _ _ => rfl
  have gT0 : W 10 = jp_wr (W 10) t9 [] := rfl
  refine jb_iload_n (pc' := 1) dX12_tells_0 rfl rfl ?_
  refine jb_lookup (pc' := 36) (off := 35) dX12_tells_1 (by decide +kernel) (by decide +kernel) (by decide) ?_
  refine jb_aload_n (pc' := 37) dX12_tells_36 rfl rfl ?_
  refine jb_bipush (pc' := 39) 13 dX12_tells_37 (by decide) rfl ?_
  refine jb_callV (pc' := 42) (ci := 12) (q := 105) (As := [.int 13]) (a2 := 0) (b2 := 0) wv_X12_265 rfl dX12_tells_39 (c_ran I J d e kp nm W t9 h3 (by omega) 13) rfl rfl ⟨by decide, Nat.le_of_eq (Nat.zero_add _), Nat.le_of_eq (Nat.zero_add _)⟩ (Nat.le_of_ble_eq_true rfl) rfl (fun r h9 hq => ?_)
  obtain ⟨rfl, I1, W1, hI1, h31, hW1, hT1, rfl⟩ := hq
  have gI1 : ∀ j, ¬ j = 3 → I1 j = I j := fun j hj => (hI1 j hj).trans (gI0 j hj)
  have gW1 : ∀ r, ¬ r = 10 → W1 r = W r := fun r hr => (hW1 r hr).trans (gW0 r hr)
  have gT1 : W1 10 = jp_wr (W 10) t9 [13] := hT1.trans (by first | rfl | (rw [gT0]; done) | (rw [gT0]; rfl))
  show jb_J _ RX12 cX12_tells 4 (Option.some .int) false 7 0 0 42 [some (.ref 105), some (.int 0), some (.int x), none] [] [s0, s1, s2, s3, s4, s5, s6, s7, s8, s9, jb_mdl I1 J d e kp nm W1, s11] _
  refine jb_aload_n (pc' := 43) dX12_tells_42 rfl rfl ?_
  refine jb_aload_n (pc' := 44) dX12_tells_43 rfl rfl ?_
  refine jb_callV (pc' := 47) (ci := 12) (q := 105) (As := []) (a2 := 0) (b2 := 0) wv_X12_271 rfl dX12_tells_44 (c_own I1 J d e kp nm W1 hd hk p hp ((gI1 4 (by decide)).trans h4)) rfl rfl ⟨by decide, Nat.le_of_eq (Nat.zero_add _), Nat.le_of_eq (Nat.zero_add _)⟩ (Nat.le_of_ble_eq_true rfl) rfl (fun r h9 hq => ?_)
  obtain ⟨rfl, rfl⟩ := hq
  rw [hkd]
  show jb_J _ RX12 cX12_tells 4 (Option.some .int) false 7 0 0 47 [some (.ref 105), some (.int 0), some (.int x), none] [.int 4, .ref 105] [s0, s1, s2, s3, s4, s5, s6, s7, s8, s9, jb_mdl I1 J d e kp nm W1, s11] _
  refine jb_iload_n (pc' := 48) dX12_tells_47 rfl rfl ?_
  refine jb_callV (pc' := 51) (ci := 12) (q := 105) (As := [.int 4, .int x]) (a2 := 0) (b2 := 0) wv_X12_274 rfl dX12_tells_48 (cm_hears_4_4 I1 J d e kp nm W1 hd hk p hp hkd ((gI1 4 (by decide)).trans h4) (t9 + 1) h31 (by omega) x) rfl rfl ⟨by decide, Nat.le_of_eq (Nat.zero_add _), Nat.le_of_eq (Nat.zero_add _)⟩ (Nat.le_of_ble_eq_true rfl) rfl (fun r h9 hq => ?_)
  obtain ⟨rfl, I2, W2, hI2, h32, hW2, hT2, rfl⟩ := hq
  have gI2 : ∀ j, ¬ j = 3 → I2 j = I j := fun j hj => (hI2 j hj).trans (gI1 j hj)
  have gW2 : ∀ r, ¬ r = 10 → W2 r = W r := fun r hr => (hW2 r hr).trans (gW1 r hr)
  have gT2 : W2 10 = jp_wr (W 10) t9 [13, 50, 20, 11, 10, 12] := hT2.trans (by first | rfl | (rw [gT1]; done) | (rw [gT1]; rfl))
  show jb_J _ RX12 cX12_tells 4 (Option.some .int) false 7 0 0 51 [some (.ref 105), some (.int 0), some (.int x), none] [.int (((((x) + 1) + (nI p)) * 2) - ((1) - (nI (V 2 p))))] [s0, s1, s2, s3, s4, s5, s6, s7, s8, s9, jb_mdl I2 J d e kp nm W2, s11] _
  refine jb_istore_n_ (pc' := 52) dX12_tells_51 (by decide) (jb_at3 rfl) rfl ?_
  refine jb_iload_n (pc' := 53) dX12_tells_52 rfl rfl ?_
  refine jb_aload_n (pc' := 54) dX12_tells_53 rfl rfl ?_
  refine jb_aload_n (pc' := 55) dX12_tells_54 rfl rfl ?_
  refine jb_callV (pc' := 58) (ci := 12) (q := 105) (As := []) (a2 := 0) (b2 := 0) wv_X12_271 rfl dX12_tells_55 (c_own I2 J d e kp nm W2 hd hk p hp ((gI2 4 (by decide)).trans h4)) rfl rfl ⟨by decide, Nat.le_of_eq (Nat.zero_add _), Nat.le_of_eq (Nat.zero_add _)⟩ (Nat.le_of_ble_eq_true rfl) rfl (fun r h9 hq => ?_)
  obtain ⟨rfl, rfl⟩ := hq
  rw [hkd]
  show jb_J _ RX12 cX12_tells 4 (Option.some .int) false 7 0 0 58 [some (.ref 105), some (.int 0), some (.int x), some (.int (((((x) + 1) + (nI p)) * 2) - ((1) - (nI (V 2 p)))))] [.int 4, .ref 105, .int (((((x) + 1) + (nI p)) * 2) - ((1) - (nI (V 2 p))))] [s0, s1, s2, s3, s4, s5, s6, s7, s8, s9, jb_mdl I2 J d e kp nm W2, s11] _
  refine jb_iload_n (pc' := 59) dX12_tells_58 rfl rfl ?_
  refine jb_callV (pc' := 62) (ci := 12) (q := 105) (As := [.int 4, .int x]) (a2 := 0) (b2 := 0) wv_X12_277 rfl dX12_tells_59 (cm_waits_4_4 I2 J d e kp nm W2 hd hk p hp hkd ((gI2 4 (by decide)).trans h4) ((t9 + 1) + 5) h32 (by omega) x) rfl rfl ⟨by decide, Nat.le_of_eq (Nat.zero_add _), Nat.le_of_eq (Nat.zero_add _)⟩ (Nat.le_of_ble_eq_true rfl) rfl (fun r h9 hq => ?_)
  obtain ⟨rfl, I3, W3, hI3, h33, hW3, hT3, rfl⟩ := hq
  have gI3 : ∀ j, ¬ j = 3 → I3 j = I j := fun j hj => (hI3 j hj).trans (gI2 j hj)
  have gW3 : ∀ r, ¬ r = 10 → W3 r = W r := fun r hr => (hW3 r hr).trans (gW2 r hr)
  have gT3 : W3 10 = jp_wr (W 10) t9 [13, 50, 20, 11, 10, 12, 12] := hT3.trans (by first | rfl | (rw [gT2]; done) | (rw [gT2]; rfl))
  show jb_J _ RX12 cX12_tells 4 (Option.some .int) false 7 0 0 62 [some (.ref 105), some (.int 0), some (.int x), some (.int (((((x) + 1) + (nI p)) * 2) - ((1) - (nI (V 2 p)))))] [.int ((x) - (nI (V 2 p))), .int (((((x) + 1) + (nI p)) * 2) - ((1) - (nI (V 2 p))))] [s0, s1, s2, s3, s4, s5, s6, s7, s8, s9, jb_mdl I3 J d e kp nm W3, s11] _
  refine jb_ixor (pc' := 63) dX12_tells_62 rfl ?_
  refine jb_iret dX12_tells_63 rfl ?_
  exact ⟨rfl, I3, W3, gI3, h33, gW3, gT3, rfl⟩
set_option maxRecDepth 100000 in
set_option maxHeartbeats 4000000 in
theorem cm_tells_1_4 {sc : Nat × (Nat → Int32)} {s0 s1 s2 s3 s4 s5 s6 s7 s8 s9 s11 : List va_E} {V : Nat → Nat → Nat} (I J d e kp nm : Nat → Int32) (W : Nat → Nat → Int32) (hd : jd_ V d) (hk : jv_ok V) (p : Nat) (hp : p < V 0 1) (hkd : V 1 p = 4) (h4 : I 4 = nI p) (t9 : Nat) (h3 : I 3 = nI t9) (ht : t9 + 7 ≤ 40) (x : Int32) : jb_C sc yX12_tells cX12_tells 4 (Option.some .int) 8 0 0 [.ref 105, .int 1, .int x] [s0, s1, s2, s3, s4, s5, s6, s7, s8, s9, jb_mdl I J d e kp nm W, s11] (fun r h9 => r = some (.int ((((((x) + 1) + (nI p)) * 2) - ((1) - (nI (V 2 p)))) ^^^ ((x) - (nI (V 2 p))))) ∧ ∃ I9 W9, (∀ j, ¬ j = 3 → I9 j = I j) ∧ I9 3 = nI (t9 + 7) ∧ (∀ r, ¬ r = 10 → W9 r = W r) ∧ W9 10 = jp_wr (W 10) t9 [13, 50, 20, 11, 10, 12, 12] ∧ h9 = [s0, s1, s2, s3, s4, s5, s6, s7, s8, s9, jb_mdl I9 J d e kp nm W9, s11]) := by
  refine jb_CofJ (ini := false) (by decide +kernel) (fun h => by cases h) (Nat.le_of_ble_eq_true rfl) ?_
  show jb_J sc RX12 cX12_tells 4 (Option.some .int) false 8 0 0 0 [some (.ref 105), some (.int 1), some (.int x), none] [] [s0, s1, s2, s3, s4, s5, s6, s7, s8, s9, jb_mdl I J d e kp nm W, s11] _
  have gI0 : ∀ j, ¬ j = 3 → I j = I j := fun _ _ => rfl
  have gW0 : ∀ r, ¬ r = 10 → W r = W r := fun _ _ => rfl
  have gT0 : W 10 = jp_wr (W 10) t9 [] := rfl
  refine jb_iload_n (pc' := 1) dX12_tells_0 rfl rfl ?_
  refine jb_lookup (pc' := 121) (off := 120) dX12_tells_1 (by decide +kernel) (by decide +kernel) (by decide) ?_
  refine jb_aload_n (pc' := 122) dX12_tells_121 rfl rfl ?_
  refine jb_iload_n (pc' := 123) dX12_tells_122 rfl rfl ?_
  refine jb_callS (pc' := 126) (As := [.int 1]) (a2 := 0) (b2 := 0) wv_X12_168 dX12_tells_123 (c_above 1 (by decide)) rfl ⟨by decide, Nat.le_of_eq (Nat.zero_add _), Nat.le_of_eq (Nat.zero_add _)⟩ (Nat.le_of_ble_eq_true rfl) rfl (fun r h9 hq => ?_)
  obtain ⟨rfl, rfl⟩ := hq
  show jb_J _ RX12 cX12_tells 4 (Option.some .int) false 8 0 0 126 [some (.ref 105), some (.int 1), some (.int x), none] [.int 0, .ref 105] [s0, s1, s2, s3, s4, s5, s6, s7, s8, s9, jb_mdl I J d e kp nm W, s11] _
  refine jb_iload_n (pc' := 127) dX12_tells_126 rfl rfl ?_
  refine jb_callV (pc' := 130) (ci := 12) (q := 105) (As := [.int 0, .int x]) (a2 := 0) (b2 := 0) wv_X12_280 rfl dX12_tells_127 (cm_tells_0_4 I J d e kp nm W hd hk p hp hkd ((gI0 4 (by decide)).trans h4) t9 h3 (by omega) x) rfl rfl ⟨by decide, Nat.le_of_eq (Nat.zero_add _), Nat.le_of_eq (Nat.zero_add _)⟩ (Nat.le_of_ble_eq_true rfl) rfl (fun r h9 hq => ?_)
  obtain ⟨rfl, I1, W1, hI1, h31, hW1, hT1, rfl⟩ := hq
  have gI1 : ∀ j, ¬ j = 3 → I1 j = I j := fun j hj => (hI1 j hj).trans (gI0 j hj)
  have gW1 : ∀ r, ¬ r = 10 → W1 r = W r := fun r hr => (hW1 r hr).trans (gW0 r hr)
  have gT1 : W1 10 = jp_wr (W 10) t9 [13, 50, 20, 11, 10, 12, 12] := hT1.trans (by first | rfl | (rw [gT0]; done) | (rw [gT0]; rfl))
  show jb_J _ RX12 cX12_tells 4 (Option.some .int) false 8 0 0 130 [some (.ref 105), some (.int 1), some (.int x), none] [.int ((((((x) + 1) + (nI p)) * 2) - ((1) - (nI (V 2 p)))) ^^^ ((x) - (nI (V 2 p))))] [s0, s1, s2, s3, s4, s5, s6, s7, s8, s9, jb_mdl I1 J d e kp nm W1, s11] _
  refine jb_iret dX12_tells_130 rfl ?_
  exact ⟨rfl, I1, W1, gI1, h31, gW1, gT1, rfl⟩
set_option maxRecDepth 100000 in
set_option maxHeartbeats 4000000 in
theorem cm_tells_4_4 {sc : Nat × (Nat → Int32)} {s0 s1 s2 s3 s4 s5 s6 s7 s8 s9 s11 : List va_E} {V : Nat → Nat → Nat} (I J d e kp nm : Nat → Int32) (W : Nat → Nat → Int32) (hd : jd_ V d) (hk : jv_ok V) (p : Nat) (hp : p < V 0 1) (hkd : V 1 p = 4) (h4 : I 4 = nI p) (t9 : Nat) (h3 : I 3 = nI t9) (ht : t9 + 7 ≤ 40) (x : Int32) : jb_C sc yX12_tells cX12_tells 4 (Option.some .int) 9 0 0 [.ref 105, .int 4, .int x] [s0, s1, s2, s3, s4, s5, s6, s7, s8, s9, jb_mdl I J d e kp nm W, s11] (fun r h9 => r = some (.int ((((((x) + 1) + (nI p)) * 2) - ((1) - (nI (V 2 p)))) ^^^ ((x) - (nI (V 2 p))))) ∧ ∃ I9 W9, (∀ j, ¬ j = 3 → I9 j = I j) ∧ I9 3 = nI (t9 + 7) ∧ (∀ r, ¬ r = 10 → W9 r = W r) ∧ W9 10 = jp_wr (W 10) t9 [13, 50, 20, 11, 10, 12, 12] ∧ h9 = [s0, s1, s2, s3, s4, s5, s6, s7, s8, s9, jb_mdl I9 J d e kp nm W9, s11]) := by
  refine jb_CofJ (ini := false) (by decide +kernel) (fun h => by cases h) (Nat.le_of_ble_eq_true rfl) ?_
  show jb_J sc RX12 cX12_tells 4 (Option.some .int) false 9 0 0 0 [some (.ref 105), some (.int 4), some (.int x), none] [] [s0, s1, s2, s3, s4, s5, s6, s7, s8, s9, jb_mdl I J d e kp nm W, s11] _
  have gI0 : ∀ j, ¬ j = 3 → I j = I j := fun _ _ => rfl
  have gW0 : ∀ r, ¬ r = 10 → W r = W r := fun _ _ => rfl
  have gT0 : W 10 = jp_wr (W 10) t9 [] := rfl
  refine jb_iload_n (pc' := 1) dX12_tells_0 rfl rfl ?_
  refine jb_lookup (pc' := 121) (off := 120) dX12_tells_1 (by decide +kernel) (by decide +kernel) (by decide) ?_
  refine jb_aload_n (pc' := 122) dX12_tells_121 rfl rfl ?_
  refine jb_iload_n (pc' := 123) dX12_tells_122 rfl rfl ?_
  refine jb_callS (pc' := 126) (As := [.int 4]) (a2 := 0) (b2 := 0) wv_X12_168 dX12_tells_123 (c_above 4 (by decide)) rfl ⟨by decide, Nat.le_of_eq (Nat.zero_add _), Nat.le_of_eq (Nat.zero_add _)⟩ (Nat.le_of_ble_eq_true rfl) rfl (fun r h9 hq => ?_)
  obtain ⟨rfl, rfl⟩ := hq
  show jb_J _ RX12 cX12_tells 4 (Option.some .int) false 9 0 0 126 [some (.ref 105), some (.int 4), some (.int x), none] [.int 1, .ref 105] [s0, s1, s2, s3, s4, s5, s6, s7, s8, s9, jb_mdl I J d e kp nm W, s11] _
  refine jb_iload_n (pc' := 127) dX12_tells_126 rfl rfl ?_
  refine jb_callV (pc' := 130) (ci := 12) (q := 105) (As := [.int 1, .int x]) (a2 := 0) (b2 := 0) wv_X12_280 rfl dX12_tells_127 (cm_tells_1_4 I J d e kp nm W hd hk p hp hkd ((gI0 4 (by decide)).trans h4) t9 h3 (by omega) x) rfl rfl ⟨by decide, Nat.le_of_eq (Nat.zero_add _), Nat.le_of_eq (Nat.zero_add _)⟩ (Nat.le_of_ble_eq_true rfl) rfl (fun r h9 hq => ?_)
  obtain ⟨rfl, I1, W1, hI1, h31, hW1, hT1, rfl⟩ := hq
  have gI1 : ∀ j, ¬ j = 3 → I1 j = I j := fun j hj => (hI1 j hj).trans (gI0 j hj)
  have gW1 : ∀ r, ¬ r = 10 → W1 r = W r := fun r hr => (hW1 r hr).trans (gW0 r hr)
  have gT1 : W1 10 = jp_wr (W 10) t9 [13, 50, 20, 11, 10, 12, 12] := hT1.trans (by first | rfl | (rw [gT0]; done) | (rw [gT0]; rfl))
  show jb_J _ RX12 cX12_tells 4 (Option.some .int) false 9 0 0 130 [some (.ref 105), some (.int 4), some (.int x), none] [.int ((((((x) + 1) + (nI p)) * 2) - ((1) - (nI (V 2 p)))) ^^^ ((x) - (nI (V 2 p))))] [s0, s1, s2, s3, s4, s5, s6, s7, s8, s9, jb_mdl I1 J d e kp nm W1, s11] _
  refine jb_iret dX12_tells_130 rfl ?_
  exact ⟨rfl, I1, W1, gI1, h31, gW1, gT1, rfl⟩
set_option maxRecDepth 100000 in
set_option maxHeartbeats 4000000 in
theorem mx_voice0_4 {sc : Nat × (Nat → Int32)} {s0 s1 s2 s3 s4 s5 s6 s7 s8 s9 s11 : List va_E} {V : Nat → Nat → Nat} (I J d e kp nm : Nat → Int32) (W : Nat → Nat → Int32) (hd : jd_ V d) (hk : jv_ok V) (p : Nat) (hp : p < V 0 1) (hkd : V 1 p = 4) (x : Int32) : jb_C sc yX12_voice cX12_voice 5 (Option.some .int) 4 0 0 [.ref 105, .int (nI p), .int 0, .int x] [s0, s1, s2, s3, s4, s5, s6, s7, s8, s9, jb_mdl I J d e kp nm W, s11] (fun r h9 => r = some (.int ((x) + (nI p))) ∧ ∃ I9 W9, I9 0 = I 0 ∧ I9 3 = nI 1 ∧ (∀ r, ¬ r = 10 → W9 r = W r) ∧ W9 10 = jp_wr (W 10) 0 [10] ∧ h9 = [s0, s1, s2, s3, s4, s5, s6, s7, s8, s9, jb_mdl I9 J d e kp nm W9, s11]) := by
  refine jb_CofJ (ini := false) (by decide +kernel) (fun h => by cases h) (Nat.le_of_ble_eq_true rfl) ?_
  show jb_J sc RX12 cX12_voice 5 (Option.some .int) false 4 0 0 0 [some (.ref 105), some (.int (nI p)), some (.int 0), some (.int x), none] [] [s0, s1, s2, s3, s4, s5, s6, s7, s8, s9, jb_mdl I J d e kp nm W, s11] _
  have hd0 := hd
  have hk0 := hk
  obtain ⟨e0, e1, e2, e3, e4, e5, e6, dv, ds, dd⟩ := hd
  obtain ⟨k0, k1, k2, k3, k4, k5, k6, k7, kv, ks, kd⟩ := hk
  have q0 := kv p hp
  refine jb_aload_n (pc' := 1) dX12_voice_0 rfl rfl ?_
  refine jb_iload_n (pc' := 2) dX12_voice_1 rfl rfl ?_
  refine jb_callV (pc' := 5) (ci := 12) (q := 105) (As := [.int (nI p)]) (a2 := 0) (b2 := 0) wv_X12_149 rfl dX12_voice_2 (c_isVoiceG I J d e kp nm W hd0 hk0 p (by omega)) rfl rfl ⟨by decide, Nat.le_of_eq (Nat.zero_add _), Nat.le_of_eq (Nat.zero_add _)⟩ (Nat.le_of_ble_eq_true rfl) rfl (fun r h9 hq => ?_)
  obtain ⟨rfl, rfl⟩ := hq
  show jb_J _ RX12 cX12_voice 5 (Option.some .int) false 4 0 0 5 [some (.ref 105), some (.int (nI p)), some (.int 0), some (.int x), none] [.int 1] [s0, s1, s2, s3, s4, s5, s6, s7, s8, s9, jb_mdl I J d e kp nm W, s11] _
  refine jb_if_eq (tgt := 20) (pc' := 8) dX12_voice_5 (by decide) rfl (fun z => absurd z (by decide)) (fun _ => ?_)
  refine jb_iload_n (pc' := 9) dX12_voice_8 rfl rfl ?_
  refine jb_i2l (pc' := 10) dX12_voice_9 rfl ?_
  refine jb_lconst (pc' := 11) 0 dX12_voice_10 (by decide) rfl ?_
  refine jb_ldc2 (pc' := 14) 3 dX12_voice_11 wk_X12_152 rfl ?_
  refine jb_callS (pc' := 17) (As := [.long ((0 : Int32).toInt64), .long 0, .long 3]) (a2 := 0) (b2 := 0) wv_X12_56 dX12_voice_14 (c_inLG _ 0 0 3 (by omega) (by omega) (by omega)) rfl ⟨by decide, Nat.le_of_eq (Nat.zero_add _), Nat.le_of_eq (Nat.zero_add _)⟩ (Nat.le_of_ble_eq_true rfl) rfl (fun r h9 hq => ?_)
  obtain ⟨rfl, rfl⟩ := hq
  show jb_J _ RX12 cX12_voice 5 (Option.some .int) false 4 0 0 17 [some (.ref 105), some (.int (nI p)), some (.int 0), some (.int x), none] [.int 1] [s0, s1, s2, s3, s4, s5, s6, s7, s8, s9, jb_mdl I J d e kp nm W, s11] _
  refine jb_if_ne (tgt := 26) (pc' := 20) dX12_voice_17 (by decide) rfl (fun _ => ?_) (fun z => absurd z (by decide))
  refine jb_aload_n (pc' := 27) dX12_voice_26 rfl rfl ?_
  refine jb_iconst (pc' := 28) 0 dX12_voice_27 (by decide) rfl ?_
  refine pf_X12_259 (pc' := 31) (h' := [s0, s1, s2, s3, s4, s5, s6, s7, s8, s9, jb_mdl (upd I 3 0) J d e kp nm W, s11]) dX12_voice_28 (fun _ => ⟨rfl, rfl⟩) rfl (Nat.le_of_ble_eq_true rfl) rfl rfl ?_
  refine jb_aload_n (pc' := 32) dX12_voice_31 rfl rfl ?_
  refine jb_iload_n (pc' := 33) dX12_voice_32 rfl rfl ?_
  refine pf_X12_262 (pc' := 36) (h' := [s0, s1, s2, s3, s4, s5, s6, s7, s8, s9, jb_mdl (upd (upd I 3 0) 4 (nI p)) J d e kp nm W, s11]) dX12_voice_33 (fun _ => ⟨rfl, rfl⟩) rfl (Nat.le_of_ble_eq_true rfl) rfl rfl ?_
  refine jb_aload_n (pc' := 37) dX12_voice_36 rfl rfl ?_
  refine jb_callV (pc' := 40) (ci := 12) (q := 105) (As := []) (a2 := 0) (b2 := 0) wv_X12_271 rfl dX12_voice_37 (c_own (upd (upd I 3 0) 4 (nI p)) J d e kp nm W hd0 hk0 p hp rfl) rfl rfl ⟨by decide, Nat.le_of_eq (Nat.zero_add _), Nat.le_of_eq (Nat.zero_add _)⟩ (Nat.le_of_ble_eq_true rfl) rfl (fun r h9 hq => ?_)
  obtain ⟨rfl, rfl⟩ := hq
  rw [hkd]
  show jb_J _ RX12 cX12_voice 5 (Option.some .int) false 4 0 0 40 [some (.ref 105), some (.int (nI p)), some (.int 0), some (.int x), none] [.int 4] [s0, s1, s2, s3, s4, s5, s6, s7, s8, s9, jb_mdl (upd (upd I 3 0) 4 (nI p)) J d e kp nm W, s11] _
  refine jb_istore_ (pc' := 42) dX12_voice_40 (by decide) (jb_at4 rfl) rfl ?_
  refine jb_iload_n (pc' := 43) dX12_voice_42 rfl rfl ?_
  refine jb_if_ne (tgt := 56) (pc' := 46) dX12_voice_43 (by decide) rfl (fun z => absurd (by decide) z) (fun _ => ?_)
  refine jb_aload_n (pc' := 47) dX12_voice_46 rfl rfl ?_
  refine jb_iload (pc' := 49) dX12_voice_47 rfl rfl ?_
  refine jb_iload_n (pc' := 50) dX12_voice_49 rfl rfl ?_
  refine jb_callV (pc' := 53) (ci := 12) (q := 105) (As := [.int 4, .int x]) (a2 := 0) (b2 := 0) wv_X12_268 rfl dX12_voice_50 (cm_calls_4_4 (upd (upd I 3 0) 4 (nI p)) J d e kp nm W hd0 hk0 p hp hkd rfl 0 rfl (by omega) x) rfl rfl ⟨by decide, Nat.le_of_eq (Nat.zero_add _), Nat.le_of_eq (Nat.zero_add _)⟩ (Nat.le_of_ble_eq_true rfl) rfl (fun r h9 hq => ?_)
  obtain ⟨rfl, I9, W9, hI9, h39, hW9, hT9, rfl⟩ := hq
  show jb_J _ RX12 cX12_voice 5 (Option.some .int) false 4 0 0 53 [some (.ref 105), some (.int (nI p)), some (.int 0), some (.int x), some (.int 4)] [.int ((x) + (nI p))] [s0, s1, s2, s3, s4, s5, s6, s7, s8, s9, jb_mdl I9 J d e kp nm W9, s11] _
  refine jb_goto (pc' := 93) dX12_voice_53 (by decide) ?_
  refine jb_iret dX12_voice_93 rfl ?_
  exact ⟨rfl, I9, W9, hI9 0 (by decide), by rw [h39], hW9, hT9, rfl⟩
set_option maxRecDepth 100000 in
set_option maxHeartbeats 4000000 in
theorem mx_voice1_4 {sc : Nat × (Nat → Int32)} {s0 s1 s2 s3 s4 s5 s6 s7 s8 s9 s11 : List va_E} {V : Nat → Nat → Nat} (I J d e kp nm : Nat → Int32) (W : Nat → Nat → Int32) (hd : jd_ V d) (hk : jv_ok V) (p : Nat) (hp : p < V 0 1) (hkd : V 1 p = 4) (x : Int32) : jb_C sc yX12_voice cX12_voice 5 (Option.some .int) 7 0 0 [.ref 105, .int (nI p), .int 1, .int x] [s0, s1, s2, s3, s4, s5, s6, s7, s8, s9, jb_mdl I J d e kp nm W, s11] (fun r h9 => r = some (.int (((((x) + 1) + (nI p)) * 2) - ((1) - (nI (V 2 p))))) ∧ ∃ I9 W9, I9 0 = I 0 ∧ I9 3 = nI 5 ∧ (∀ r, ¬ r = 10 → W9 r = W r) ∧ W9 10 = jp_wr (W 10) 0 [50, 20, 11, 10, 12] ∧ h9 = [s0, s1, s2, s3, s4, s5, s6, s7, s8, s9, jb_mdl I9 J d e kp nm W9, s11]) := by
  refine jb_CofJ (ini := false) (by decide +kernel) (fun h => by cases h) (Nat.le_of_ble_eq_true rfl) ?_
  show jb_J sc RX12 cX12_voice 5 (Option.some .int) false 7 0 0 0 [some (.ref 105), some (.int (nI p)), some (.int 1), some (.int x), none] [] [s0, s1, s2, s3, s4, s5, s6, s7, s8, s9, jb_mdl I J d e kp nm W, s11] _
  have hd0 := hd
  have hk0 := hk
  obtain ⟨e0, e1, e2, e3, e4, e5, e6, dv, ds, dd⟩ := hd
  obtain ⟨k0, k1, k2, k3, k4, k5, k6, k7, kv, ks, kd⟩ := hk
  have q0 := kv p hp
  refine jb_aload_n (pc' := 1) dX12_voice_0 rfl rfl ?_
  refine jb_iload_n (pc' := 2) dX12_voice_1 rfl rfl ?_
  refine jb_callV (pc' := 5) (ci := 12) (q := 105) (As := [.int (nI p)]) (a2 := 0) (b2 := 0) wv_X12_149 rfl dX12_voice_2 (c_isVoiceG I J d e kp nm W hd0 hk0 p (by omega)) rfl rfl ⟨by decide, Nat.le_of_eq (Nat.zero_add _), Nat.le_of_eq (Nat.zero_add _)⟩ (Nat.le_of_ble_eq_true rfl) rfl (fun r h9 hq => ?_)
  obtain ⟨rfl, rfl⟩ := hq
  show jb_J _ RX12 cX12_voice 5 (Option.some .int) false 7 0 0 5 [some (.ref 105), some (.int (nI p)), some (.int 1), some (.int x), none] [.int 1] [s0, s1, s2, s3, s4, s5, s6, s7, s8, s9, jb_mdl I J d e kp nm W, s11] _
  refine jb_if_eq (tgt := 20) (pc' := 8) dX12_voice_5 (by decide) rfl (fun z => absurd z (by decide)) (fun _ => ?_)
  refine jb_iload_n (pc' := 9) dX12_voice_8 rfl rfl ?_
  refine jb_i2l (pc' := 10) dX12_voice_9 rfl ?_
  refine jb_lconst (pc' := 11) 0 dX12_voice_10 (by decide) rfl ?_
  refine jb_ldc2 (pc' := 14) 3 dX12_voice_11 wk_X12_152 rfl ?_
  refine jb_callS (pc' := 17) (As := [.long ((1 : Int32).toInt64), .long 0, .long 3]) (a2 := 0) (b2 := 0) wv_X12_56 dX12_voice_14 (c_inLG _ 1 0 3 (by omega) (by omega) (by omega)) rfl ⟨by decide, Nat.le_of_eq (Nat.zero_add _), Nat.le_of_eq (Nat.zero_add _)⟩ (Nat.le_of_ble_eq_true rfl) rfl (fun r h9 hq => ?_)
  obtain ⟨rfl, rfl⟩ := hq
  show jb_J _ RX12 cX12_voice 5 (Option.some .int) false 7 0 0 17 [some (.ref 105), some (.int (nI p)), some (.int 1), some (.int x), none] [.int 1] [s0, s1, s2, s3, s4, s5, s6, s7, s8, s9, jb_mdl I J d e kp nm W, s11] _
  refine jb_if_ne (tgt := 26) (pc' := 20) dX12_voice_17 (by decide) rfl (fun _ => ?_) (fun z => absurd z (by decide))
  refine jb_aload_n (pc' := 27) dX12_voice_26 rfl rfl ?_
  refine jb_iconst (pc' := 28) 0 dX12_voice_27 (by decide) rfl ?_
  refine pf_X12_259 (pc' := 31) (h' := [s0, s1, s2, s3, s4, s5, s6, s7, s8, s9, jb_mdl (upd I 3 0) J d e kp nm W, s11]) dX12_voice_28 (fun _ => ⟨rfl, rfl⟩) rfl (Nat.le_of_ble_eq_true rfl) rfl rfl ?_
  refine jb_aload_n (pc' := 32) dX12_voice_31 rfl rfl ?_
  refine jb_iload_n (pc' := 33) dX12_voice_32 rfl rfl ?_
  refine pf_X12_262 (pc' := 36) (h' := [s0, s1, s2, s3, s4, s5, s6, s7, s8, s9, jb_mdl (upd (upd I 3 0) 4 (nI p)) J d e kp nm W, s11]) dX12_voice_33 (fun _ => ⟨rfl, rfl⟩) rfl (Nat.le_of_ble_eq_true rfl) rfl rfl ?_
  refine jb_aload_n (pc' := 37) dX12_voice_36 rfl rfl ?_
  refine jb_callV (pc' := 40) (ci := 12) (q := 105) (As := []) (a2 := 0) (b2 := 0) wv_X12_271 rfl dX12_voice_37 (c_own (upd (upd I 3 0) 4 (nI p)) J d e kp nm W hd0 hk0 p hp rfl) rfl rfl ⟨by decide, Nat.le_of_eq (Nat.zero_add _), Nat.le_of_eq (Nat.zero_add _)⟩ (Nat.le_of_ble_eq_true rfl) rfl (fun r h9 hq => ?_)
  obtain ⟨rfl, rfl⟩ := hq
  rw [hkd]
  show jb_J _ RX12 cX12_voice 5 (Option.some .int) false 7 0 0 40 [some (.ref 105), some (.int (nI p)), some (.int 1), some (.int x), none] [.int 4] [s0, s1, s2, s3, s4, s5, s6, s7, s8, s9, jb_mdl (upd (upd I 3 0) 4 (nI p)) J d e kp nm W, s11] _
  refine jb_istore_ (pc' := 42) dX12_voice_40 (by decide) (jb_at4 rfl) rfl ?_
  refine jb_iload_n (pc' := 43) dX12_voice_42 rfl rfl ?_
  refine jb_if_ne (tgt := 56) (pc' := 46) dX12_voice_43 (by decide) rfl (fun _ => ?_) (fun z => absurd z (by decide))
  refine jb_iload_n (pc' := 57) dX12_voice_56 rfl rfl ?_
  refine jb_iconst (pc' := 58) 1 dX12_voice_57 (by decide) rfl ?_
  refine jb_icmp_ne (tgt := 71) (pc' := 61) dX12_voice_58 (by decide) rfl (fun z => absurd (by decide) z) (fun _ => ?_)
  refine jb_aload_n (pc' := 62) dX12_voice_61 rfl rfl ?_
  refine jb_iload (pc' := 64) dX12_voice_62 rfl rfl ?_
  refine jb_iload_n (pc' := 65) dX12_voice_64 rfl rfl ?_
  refine jb_callV (pc' := 68) (ci := 12) (q := 105) (As := [.int 4, .int x]) (a2 := 0) (b2 := 0) wv_X12_274 rfl dX12_voice_65 (cm_hears_4_4 (upd (upd I 3 0) 4 (nI p)) J d e kp nm W hd0 hk0 p hp hkd rfl 0 rfl (by omega) x) rfl rfl ⟨by decide, Nat.le_of_eq (Nat.zero_add _), Nat.le_of_eq (Nat.zero_add _)⟩ (Nat.le_of_ble_eq_true rfl) rfl (fun r h9 hq => ?_)
  obtain ⟨rfl, I9, W9, hI9, h39, hW9, hT9, rfl⟩ := hq
  show jb_J _ RX12 cX12_voice 5 (Option.some .int) false 7 0 0 68 [some (.ref 105), some (.int (nI p)), some (.int 1), some (.int x), some (.int 4)] [.int (((((x) + 1) + (nI p)) * 2) - ((1) - (nI (V 2 p))))] [s0, s1, s2, s3, s4, s5, s6, s7, s8, s9, jb_mdl I9 J d e kp nm W9, s11] _
  refine jb_goto (pc' := 93) dX12_voice_68 (by decide) ?_
  refine jb_iret dX12_voice_93 rfl ?_
  exact ⟨rfl, I9, W9, hI9 0 (by decide), by rw [h39], hW9, hT9, rfl⟩
set_option maxRecDepth 100000 in
set_option maxHeartbeats 4000000 in
theorem mx_voice2_4 {sc : Nat × (Nat → Int32)} {s0 s1 s2 s3 s4 s5 s6 s7 s8 s9 s11 : List va_E} {V : Nat → Nat → Nat} (I J d e kp nm : Nat → Int32) (W : Nat → Nat → Int32) (hd : jd_ V d) (hk : jv_ok V) (p : Nat) (hp : p < V 0 1) (hkd : V 1 p = 4) (x : Int32) : jb_C sc yX12_voice cX12_voice 5 (Option.some .int) 4 0 0 [.ref 105, .int (nI p), .int 2, .int x] [s0, s1, s2, s3, s4, s5, s6, s7, s8, s9, jb_mdl I J d e kp nm W, s11] (fun r h9 => r = some (.int ((x) - (nI (V 2 p)))) ∧ ∃ I9 W9, I9 0 = I 0 ∧ I9 3 = nI 1 ∧ (∀ r, ¬ r = 10 → W9 r = W r) ∧ W9 10 = jp_wr (W 10) 0 [12] ∧ h9 = [s0, s1, s2, s3, s4, s5, s6, s7, s8, s9, jb_mdl I9 J d e kp nm W9, s11]) := by
  refine jb_CofJ (ini := false) (by decide +kernel) (fun h => by cases h) (Nat.le_of_ble_eq_true rfl) ?_
  show jb_J sc RX12 cX12_voice 5 (Option.some .int) false 4 0 0 0 [some (.ref 105), some (.int (nI p)), some (.int 2), some (.int x), none] [] [s0, s1, s2, s3, s4, s5, s6, s7, s8, s9, jb_mdl I J d e kp nm W, s11] _
  have hd0 := hd
  have hk0 := hk
  obtain ⟨e0, e1, e2, e3, e4, e5, e6, dv, ds, dd⟩ := hd
  obtain ⟨k0, k1, k2, k3, k4, k5, k6, k7, kv, ks, kd⟩ := hk
  have q0 := kv p hp
  refine jb_aload_n (pc' := 1) dX12_voice_0 rfl rfl ?_
  refine jb_iload_n (pc' := 2) dX12_voice_1 rfl rfl ?_
  refine jb_callV (pc' := 5) (ci := 12) (q := 105) (As := [.int (nI p)]) (a2 := 0) (b2 := 0) wv_X12_149 rfl dX12_voice_2 (c_isVoiceG I J d e kp nm W hd0 hk0 p (by omega)) rfl rfl ⟨by decide, Nat.le_of_eq (Nat.zero_add _), Nat.le_of_eq (Nat.zero_add _)⟩ (Nat.le_of_ble_eq_true rfl) rfl (fun r h9 hq => ?_)
  obtain ⟨rfl, rfl⟩ := hq
  show jb_J _ RX12 cX12_voice 5 (Option.some .int) false 4 0 0 5 [some (.ref 105), some (.int (nI p)), some (.int 2), some (.int x), none] [.int 1] [s0, s1, s2, s3, s4, s5, s6, s7, s8, s9, jb_mdl I J d e kp nm W, s11] _
  refine jb_if_eq (tgt := 20) (pc' := 8) dX12_voice_5 (by decide) rfl (fun z => absurd z (by decide)) (fun _ => ?_)
  refine jb_iload_n (pc' := 9) dX12_voice_8 rfl rfl ?_
  refine jb_i2l (pc' := 10) dX12_voice_9 rfl ?_
  refine jb_lconst (pc' := 11) 0 dX12_voice_10 (by decide) rfl ?_
  refine jb_ldc2 (pc' := 14) 3 dX12_voice_11 wk_X12_152 rfl ?_
  refine jb_callS (pc' := 17) (As := [.long ((2 : Int32).toInt64), .long 0, .long 3]) (a2 := 0) (b2 := 0) wv_X12_56 dX12_voice_14 (c_inLG _ 2 0 3 (by omega) (by omega) (by omega)) rfl ⟨by decide, Nat.le_of_eq (Nat.zero_add _), Nat.le_of_eq (Nat.zero_add _)⟩ (Nat.le_of_ble_eq_true rfl) rfl (fun r h9 hq => ?_)
  obtain ⟨rfl, rfl⟩ := hq
  show jb_J _ RX12 cX12_voice 5 (Option.some .int) false 4 0 0 17 [some (.ref 105), some (.int (nI p)), some (.int 2), some (.int x), none] [.int 1] [s0, s1, s2, s3, s4, s5, s6, s7, s8, s9, jb_mdl I J d e kp nm W, s11] _
  refine jb_if_ne (tgt := 26) (pc' := 20) dX12_voice_17 (by decide) rfl (fun _ => ?_) (fun z => absurd z (by decide))
  refine jb_aload_n (pc' := 27) dX12_voice_26 rfl rfl ?_
  refine jb_iconst (pc' := 28) 0 dX12_voice_27 (by decide) rfl ?_
  refine pf_X12_259 (pc' := 31) (h' := [s0, s1, s2, s3, s4, s5, s6, s7, s8, s9, jb_mdl (upd I 3 0) J d e kp nm W, s11]) dX12_voice_28 (fun _ => ⟨rfl, rfl⟩) rfl (Nat.le_of_ble_eq_true rfl) rfl rfl ?_
  refine jb_aload_n (pc' := 32) dX12_voice_31 rfl rfl ?_
  refine jb_iload_n (pc' := 33) dX12_voice_32 rfl rfl ?_
  refine pf_X12_262 (pc' := 36) (h' := [s0, s1, s2, s3, s4, s5, s6, s7, s8, s9, jb_mdl (upd (upd I 3 0) 4 (nI p)) J d e kp nm W, s11]) dX12_voice_33 (fun _ => ⟨rfl, rfl⟩) rfl (Nat.le_of_ble_eq_true rfl) rfl rfl ?_
  refine jb_aload_n (pc' := 37) dX12_voice_36 rfl rfl ?_
  refine jb_callV (pc' := 40) (ci := 12) (q := 105) (As := []) (a2 := 0) (b2 := 0) wv_X12_271 rfl dX12_voice_37 (c_own (upd (upd I 3 0) 4 (nI p)) J d e kp nm W hd0 hk0 p hp rfl) rfl rfl ⟨by decide, Nat.le_of_eq (Nat.zero_add _), Nat.le_of_eq (Nat.zero_add _)⟩ (Nat.le_of_ble_eq_true rfl) rfl (fun r h9 hq => ?_)
  obtain ⟨rfl, rfl⟩ := hq
  rw [hkd]
  show jb_J _ RX12 cX12_voice 5 (Option.some .int) false 4 0 0 40 [some (.ref 105), some (.int (nI p)), some (.int 2), some (.int x), none] [.int 4] [s0, s1, s2, s3, s4, s5, s6, s7, s8, s9, jb_mdl (upd (upd I 3 0) 4 (nI p)) J d e kp nm W, s11] _
  refine jb_istore_ (pc' := 42) dX12_voice_40 (by decide) (jb_at4 rfl) rfl ?_
  refine jb_iload_n (pc' := 43) dX12_voice_42 rfl rfl ?_
  refine jb_if_ne (tgt := 56) (pc' := 46) dX12_voice_43 (by decide) rfl (fun _ => ?_) (fun z => absurd z (by decide))
  refine jb_iload_n (pc' := 57) dX12_voice_56 rfl rfl ?_
  refine jb_iconst (pc' := 58) 1 dX12_voice_57 (by decide) rfl ?_
  refine jb_icmp_ne (tgt := 71) (pc' := 61) dX12_voice_58 (by decide) rfl (fun _ => ?_) (fun z => absurd z (by decide))
  refine jb_iload_n (pc' := 72) dX12_voice_71 rfl rfl ?_
  refine jb_iconst (pc' := 73) 2 dX12_voice_72 (by decide) rfl ?_
  refine jb_icmp_ne (tgt := 86) (pc' := 76) dX12_voice_73 (by decide) rfl (fun z => absurd (by decide) z) (fun _ => ?_)
  refine jb_aload_n (pc' := 77) dX12_voice_76 rfl rfl ?_
  refine jb_iload (pc' := 79) dX12_voice_77 rfl rfl ?_
  refine jb_iload_n (pc' := 80) dX12_voice_79 rfl rfl ?_
  refine jb_callV (pc' := 83) (ci := 12) (q := 105) (As := [.int 4, .int x]) (a2 := 0) (b2 := 0) wv_X12_277 rfl dX12_voice_80 (cm_waits_4_4 (upd (upd I 3 0) 4 (nI p)) J d e kp nm W hd0 hk0 p hp hkd rfl 0 rfl (by omega) x) rfl rfl ⟨by decide, Nat.le_of_eq (Nat.zero_add _), Nat.le_of_eq (Nat.zero_add _)⟩ (Nat.le_of_ble_eq_true rfl) rfl (fun r h9 hq => ?_)
  obtain ⟨rfl, I9, W9, hI9, h39, hW9, hT9, rfl⟩ := hq
  show jb_J _ RX12 cX12_voice 5 (Option.some .int) false 4 0 0 83 [some (.ref 105), some (.int (nI p)), some (.int 2), some (.int x), some (.int 4)] [.int ((x) - (nI (V 2 p)))] [s0, s1, s2, s3, s4, s5, s6, s7, s8, s9, jb_mdl I9 J d e kp nm W9, s11] _
  refine jb_goto (pc' := 93) dX12_voice_83 (by decide) ?_
  refine jb_iret dX12_voice_93 rfl ?_
  exact ⟨rfl, I9, W9, hI9 0 (by decide), by rw [h39], hW9, hT9, rfl⟩
set_option maxRecDepth 100000 in
set_option maxHeartbeats 4000000 in
theorem mx_voice3_4 {sc : Nat × (Nat → Int32)} {s0 s1 s2 s3 s4 s5 s6 s7 s8 s9 s11 : List va_E} {V : Nat → Nat → Nat} (I J d e kp nm : Nat → Int32) (W : Nat → Nat → Int32) (hd : jd_ V d) (hk : jv_ok V) (p : Nat) (hp : p < V 0 1) (hkd : V 1 p = 4) (x : Int32) : jb_C sc yX12_voice cX12_voice 5 (Option.some .int) 10 0 0 [.ref 105, .int (nI p), .int 3, .int x] [s0, s1, s2, s3, s4, s5, s6, s7, s8, s9, jb_mdl I J d e kp nm W, s11] (fun r h9 => r = some (.int ((((((x) + 1) + (nI p)) * 2) - ((1) - (nI (V 2 p)))) ^^^ ((x) - (nI (V 2 p))))) ∧ ∃ I9 W9, I9 0 = I 0 ∧ I9 3 = nI 7 ∧ (∀ r, ¬ r = 10 → W9 r = W r) ∧ W9 10 = jp_wr (W 10) 0 [13, 50, 20, 11, 10, 12, 12] ∧ h9 = [s0, s1, s2, s3, s4, s5, s6, s7, s8, s9, jb_mdl I9 J d e kp nm W9, s11]) := by
  refine jb_CofJ (ini := false) (by decide +kernel) (fun h => by cases h) (Nat.le_of_ble_eq_true rfl) ?_
  show jb_J sc RX12 cX12_voice 5 (Option.some .int) false 10 0 0 0 [some (.ref 105), some (.int (nI p)), some (.int 3), some (.int x), none] [] [s0, s1, s2, s3, s4, s5, s6, s7, s8, s9, jb_mdl I J d e kp nm W, s11] _
  have hd0 := hd
  have hk0 := hk
  obtain ⟨e0, e1, e2, e3, e4, e5, e6, dv, ds, dd⟩ := hd
  obtain ⟨k0, k1, k2, k3, k4, k5, k6, k7, kv, ks, kd⟩ := hk
  have q0 := kv p hp
  refine jb_aload_n (pc' := 1) dX12_voice_0 rfl rfl ?_
  refine jb_iload_n (pc' := 2) dX12_voice_1 rfl rfl ?_
  refine jb_callV (pc' := 5) (ci := 12) (q := 105) (As := [.int (nI p)]) (a2 := 0) (b2 := 0) wv_X12_149 rfl dX12_voice_2 (c_isVoiceG I J d e kp nm W hd0 hk0 p (by omega)) rfl rfl ⟨by decide, Nat.le_of_eq (Nat.zero_add _), Nat.le_of_eq (Nat.zero_add _)⟩ (Nat.le_of_ble_eq_true rfl) rfl (fun r h9 hq => ?_)
  obtain ⟨rfl, rfl⟩ := hq
  show jb_J _ RX12 cX12_voice 5 (Option.some .int) false 10 0 0 5 [some (.ref 105), some (.int (nI p)), some (.int 3), some (.int x), none] [.int 1] [s0, s1, s2, s3, s4, s5, s6, s7, s8, s9, jb_mdl I J d e kp nm W, s11] _
  refine jb_if_eq (tgt := 20) (pc' := 8) dX12_voice_5 (by decide) rfl (fun z => absurd z (by decide)) (fun _ => ?_)
  refine jb_iload_n (pc' := 9) dX12_voice_8 rfl rfl ?_
  refine jb_i2l (pc' := 10) dX12_voice_9 rfl ?_
  refine jb_lconst (pc' := 11) 0 dX12_voice_10 (by decide) rfl ?_
  refine jb_ldc2 (pc' := 14) 3 dX12_voice_11 wk_X12_152 rfl ?_
  refine jb_callS (pc' := 17) (As := [.long ((3 : Int32).toInt64), .long 0, .long 3]) (a2 := 0) (b2 := 0) wv_X12_56 dX12_voice_14 (c_inLG _ 3 0 3 (by omega) (by omega) (by omega)) rfl ⟨by decide, Nat.le_of_eq (Nat.zero_add _), Nat.le_of_eq (Nat.zero_add _)⟩ (Nat.le_of_ble_eq_true rfl) rfl (fun r h9 hq => ?_)
  obtain ⟨rfl, rfl⟩ := hq
  show jb_J _ RX12 cX12_voice 5 (Option.some .int) false 10 0 0 17 [some (.ref 105), some (.int (nI p)), some (.int 3), some (.int x), none] [.int 1] [s0, s1, s2, s3, s4, s5, s6, s7, s8, s9, jb_mdl I J d e kp nm W, s11] _
  refine jb_if_ne (tgt := 26) (pc' := 20) dX12_voice_17 (by decide) rfl (fun _ => ?_) (fun z => absurd z (by decide))
  refine jb_aload_n (pc' := 27) dX12_voice_26 rfl rfl ?_
  refine jb_iconst (pc' := 28) 0 dX12_voice_27 (by decide) rfl ?_
  refine pf_X12_259 (pc' := 31) (h' := [s0, s1, s2, s3, s4, s5, s6, s7, s8, s9, jb_mdl (upd I 3 0) J d e kp nm W, s11]) dX12_voice_28 (fun _ => ⟨rfl, rfl⟩) rfl (Nat.le_of_ble_eq_true rfl) rfl rfl ?_
  refine jb_aload_n (pc' := 32) dX12_voice_31 rfl rfl ?_
  refine jb_iload_n (pc' := 33) dX12_voice_32 rfl rfl ?_
  refine pf_X12_262 (pc' := 36) (h' := [s0, s1, s2, s3, s4, s5, s6, s7, s8, s9, jb_mdl (upd (upd I 3 0) 4 (nI p)) J d e kp nm W, s11]) dX12_voice_33 (fun _ => ⟨rfl, rfl⟩) rfl (Nat.le_of_ble_eq_true rfl) rfl rfl ?_
  refine jb_aload_n (pc' := 37) dX12_voice_36 rfl rfl ?_
  refine jb_callV (pc' := 40) (ci := 12) (q := 105) (As := []) (a2 := 0) (b2 := 0) wv_X12_271 rfl dX12_voice_37 (c_own (upd (upd I 3 0) 4 (nI p)) J d e kp nm W hd0 hk0 p hp rfl) rfl rfl ⟨by decide, Nat.le_of_eq (Nat.zero_add _), Nat.le_of_eq (Nat.zero_add _)⟩ (Nat.le_of_ble_eq_true rfl) rfl (fun r h9 hq => ?_)
  obtain ⟨rfl, rfl⟩ := hq
  rw [hkd]
  show jb_J _ RX12 cX12_voice 5 (Option.some .int) false 10 0 0 40 [some (.ref 105), some (.int (nI p)), some (.int 3), some (.int x), none] [.int 4] [s0, s1, s2, s3, s4, s5, s6, s7, s8, s9, jb_mdl (upd (upd I 3 0) 4 (nI p)) J d e kp nm W, s11] _
  refine jb_istore_ (pc' := 42) dX12_voice_40 (by decide) (jb_at4 rfl) rfl ?_
  refine jb_iload_n (pc' := 43) dX12_voice_42 rfl rfl ?_
  refine jb_if_ne (tgt := 56) (pc' := 46) dX12_voice_43 (by decide) rfl (fun _ => ?_) (fun z => absurd z (by decide))
  refine jb_iload_n (pc' := 57) dX12_voice_56 rfl rfl ?_
  refine jb_iconst (pc' := 58) 1 dX12_voice_57 (by decide) rfl ?_
  refine jb_icmp_ne (tgt := 71) (pc' := 61) dX12_voice_58 (by decide) rfl (fun _ => ?_) (fun z => absurd z (by decide))
  refine jb_iload_n (pc' := 72) dX12_voice_71 rfl rfl ?_
  refine jb_iconst (pc' := 73) 2 dX12_voice_72 (by decide) rfl ?_
  refine jb_icmp_ne (tgt := 86) (pc' := 76) dX12_voice_73 (by decide) rfl (fun _ => ?_) (fun z => absurd z (by decide))
  refine jb_aload_n (pc' := 87) dX12_voice_86 rfl rfl ?_
  refine jb_iload (pc' := 89) dX12_voice_87 rfl rfl ?_
  refine jb_iload_n (pc' := 90) dX12_voice_89 rfl rfl ?_
  refine jb_callV (pc' := 93) (ci := 12) (q := 105) (As := [.int 4, .int x]) (a2 := 0) (b2 := 0) wv_X12_280 rfl dX12_voice_90 (cm_tells_4_4 (upd (upd I 3 0) 4 (nI p)) J d e kp nm W hd0 hk0 p hp hkd rfl 0 rfl (by omega) x) rfl rfl ⟨by decide, Nat.le_of_eq (Nat.zero_add _), Nat.le_of_eq (Nat.zero_add _)⟩ (Nat.le_of_ble_eq_true rfl) rfl (fun r h9 hq => ?_)
  obtain ⟨rfl, I9, W9, hI9, h39, hW9, hT9, rfl⟩ := hq
  show jb_J _ RX12 cX12_voice 5 (Option.some .int) false 10 0 0 93 [some (.ref 105), some (.int (nI p)), some (.int 3), some (.int x), some (.int 4)] [.int ((((((x) + 1) + (nI p)) * 2) - ((1) - (nI (V 2 p)))) ^^^ ((x) - (nI (V 2 p))))] [s0, s1, s2, s3, s4, s5, s6, s7, s8, s9, jb_mdl I9 J d e kp nm W9, s11] _
  refine jb_iret dX12_voice_93 rfl ?_
  exact ⟨rfl, I9, W9, hI9 0 (by decide), by rw [h39], hW9, hT9, rfl⟩
set_option maxRecDepth 100000 in
set_option maxHeartbeats 4000000 in
theorem cm_calls_0_5 {sc : Nat × (Nat → Int32)} {s0 s1 s2 s3 s4 s5 s6 s7 s8 s9 s11 : List va_E} {V : Nat → Nat → Nat} (I J d e kp nm : Nat → Int32) (W : Nat → Nat → Int32) (hd : jd_ V d) (hk : jv_ok V) (p : Nat) (hp : p < V 0 1) (hkd : V 1 p = 5) (h4 : I 4 = nI p) (t9 : Nat) (h3 : I 3 = nI t9) (ht : t9 + 1 ≤ 40) (x : Int32) : jb_C sc yX12_calls cX12_calls 3 (Option.some .int) 1 0 0 [.ref 105, .int 0, .int x] [s0, s1, s2, s3, s4, s5, s6, s7, s8, s9, jb_mdl I J d e kp nm W, s11] (fun r h9 => r = some (.int ((x) + (nI p))) ∧ ∃ I9 W9, (∀ j, ¬ j = 3 → I9 j = I j) ∧ I9 3 = nI (t9 + 1) ∧ (∀ r, ¬ r = 10 → W9 r = W r) ∧ W9 10 = jp_wr (W 10) t9 [10] ∧ h9 = [s0, s1, s2, s3, s4, s5, s6, s7, s8, s9, jb_mdl I9 J d e kp nm W9, s11]) := by
  refine jb_CofJ (ini := false) (by decide +kernel) (fun h => by cases h) (Nat.le_of_ble_eq_true rfl) ?_
  show jb_J sc RX12 cX12_calls 3 (Option.some .int) false 1 0 0 0 [some (.ref 105), some (.int 0), some (.int x)] [] [s0, s1, s2, s3, s4, s5, s6, s7, s8, s9, jb_mdl I J d e kp nm W, s11] _
  have gI0 : ∀ j, ¬ j = 3 → I j = I j := fun _ _ => rfl
  have gW0 : ∀ r, ¬ r = 10 → W r = W r := fun _ _ => rfl
  have gT0 : W 10 = jp_wr (W 10) t9 [] := rfl
  refine jb_iload_n (pc' := 1) dX12_calls_0 rfl rfl ?_
  refine jb_lookup (pc' := 28) (off := 27) dX12_calls_1 (by decide +kernel) (by decide +kernel) (by decide) ?_
  refine jb_aload_n (pc' := 29) dX12_calls_28 rfl rfl ?_
  refine jb_bipush (pc' := 31) 10 dX12_calls_29 (by decide) rfl ?_
  refine jb_callV (pc' := 34) (ci := 12) (q := 105) (As := [.int 10]) (a2 := 0) (b2 := 0) wv_X12_265 rfl dX12_calls_31 (c_ran I J d e kp nm W t9 h3 (by omega) 10) rfl rfl ⟨by decide, Nat.le_of_eq (Nat.zero_add _), Nat.le_of_eq (Nat.zero_add _)⟩ (Nat.le_of_ble_eq_true rfl) rfl (fun r h9 hq => ?_)
  obtain ⟨rfl, I1, W1, hI1, h31, hW1, hT1, rfl⟩ := hq
  have gI1 : ∀ j, ¬ j = 3 → I1 j = I j := fun j hj => (hI1 j hj).trans (gI0 j hj)
  have gW1 : ∀ r, ¬ r = 10 → W1 r = W r := fun r hr => (hW1 r hr).trans (gW0 r hr)
  have gT1 : W1 10 = jp_wr (W 10) t9 [10] := hT1.trans (by first | rfl | (rw [gT0]; done) | (rw [gT0]; rfl))
  show jb_J _ RX12 cX12_calls 3 (Option.some .int) false 1 0 0 34 [some (.ref 105), some (.int 0), some (.int x)] [] [s0, s1, s2, s3, s4, s5, s6, s7, s8, s9, jb_mdl I1 J d e kp nm W1, s11] _
  refine jb_iload_n (pc' := 35) dX12_calls_34 rfl rfl ?_
  refine jb_aload_n (pc' := 36) dX12_calls_35 rfl rfl ?_
  refine gf_X12_262 (pc' := 39) (v := .int (I1 4)) dX12_calls_36 rfl rfl rfl ?_
  refine jb_top (v := .int (I1 4)) (w := .int (nI p)) (jb_vI ((gI1 4 (by decide)).trans h4)) ?_
  refine jb_iadd (pc' := 40) dX12_calls_39 rfl ?_
  refine jb_iret dX12_calls_40 rfl ?_
  exact ⟨rfl, I1, W1, gI1, h31, gW1, gT1, rfl⟩
set_option maxRecDepth 100000 in
set_option maxHeartbeats 4000000 in
theorem cm_calls_2_5 {sc : Nat × (Nat → Int32)} {s0 s1 s2 s3 s4 s5 s6 s7 s8 s9 s11 : List va_E} {V : Nat → Nat → Nat} (I J d e kp nm : Nat → Int32) (W : Nat → Nat → Int32) (hd : jd_ V d) (hk : jv_ok V) (p : Nat) (hp : p < V 0 1) (hkd : V 1 p = 5) (h4 : I 4 = nI p) (t9 : Nat) (h3 : I 3 = nI t9) (ht : t9 + 2 ≤ 40) (x : Int32) : jb_C sc yX12_calls cX12_calls 3 (Option.some .int) 2 0 0 [.ref 105, .int 2, .int x] [s0, s1, s2, s3, s4, s5, s6, s7, s8, s9, jb_mdl I J d e kp nm W, s11] (fun r h9 => r = some (.int (((x) + (nI p)) * 3)) ∧ ∃ I9 W9, (∀ j, ¬ j = 3 → I9 j = I j) ∧ I9 3 = nI (t9 + 2) ∧ (∀ r, ¬ r = 10 → W9 r = W r) ∧ W9 10 = jp_wr (W 10) t9 [30, 10] ∧ h9 = [s0, s1, s2, s3, s4, s5, s6, s7, s8, s9, jb_mdl I9 J d e kp nm W9, s11]) := by
  refine jb_CofJ (ini := false) (by decide +kernel) (fun h => by cases h) (Nat.le_of_ble_eq_true rfl) ?_
  show jb_J sc RX12 cX12_calls 3 (Option.some .int) false 2 0 0 0 [some (.ref 105), some (.int 2), some (.int x)] [] [s0, s1, s2, s3, s4, s5, s6, s7, s8, s9, jb_mdl I J d e kp nm W, s11] _
  have gI0 : ∀ j, ¬ j = 3 → I j = I j := fun _ _ => rfl
  have gW0 : ∀ r, ¬ r = 10 → W r = W r := fun _ _ => rfl
  have gT0 : W 10 = jp_wr (W 10) t9 [] := rfl
  refine jb_iload_n (pc' := 1) dX12_calls_0 rfl rfl ?_
  refine jb_lookup (pc' := 41) (off := 40) dX12_calls_1 (by decide +kernel) (by decide +kernel) (by decide) ?_
  refine jb_aload_n (pc' := 42) dX12_calls_41 rfl rfl ?_
  refine jb_bipush (pc' := 44) 30 dX12_calls_42 (by decide) rfl ?_
  refine jb_callV (pc' := 47) (ci := 12) (q := 105) (As := [.int 30]) (a2 := 0) (b2 := 0) wv_X12_265 rfl dX12_calls_44 (c_ran I J d e kp nm W t9 h3 (by omega) 30) rfl rfl ⟨by decide, Nat.le_of_eq (Nat.zero_add _), Nat.le_of_eq (Nat.zero_add _)⟩ (Nat.le_of_ble_eq_true rfl) rfl (fun r h9 hq => ?_)
  obtain ⟨rfl, I1, W1, hI1, h31, hW1, hT1, rfl⟩ := hq
  have gI1 : ∀ j, ¬ j = 3 → I1 j = I j := fun j hj => (hI1 j hj).trans (gI0 j hj)
  have gW1 : ∀ r, ¬ r = 10 → W1 r = W r := fun r hr => (hW1 r hr).trans (gW0 r hr)
  have gT1 : W1 10 = jp_wr (W 10) t9 [30] := hT1.trans (by first | rfl | (rw [gT0]; done) | (rw [gT0]; rfl))
  show jb_J _ RX12 cX12_calls 3 (Option.some .int) false 2 0 0 47 [some (.ref 105), some (.int 2), some (.int x)] [] [s0, s1, s2, s3, s4, s5, s6, s7, s8, s9, jb_mdl I1 J d e kp nm W1, s11] _
  refine jb_aload_n (pc' := 48) dX12_calls_47 rfl rfl ?_
  refine jb_iconst (pc' := 49) 2 dX12_calls_48 (by decide) rfl ?_
  refine jb_callS (pc' := 52) (As := [.int 2]) (a2 := 0) (b2 := 0) wv_X12_168 dX12_calls_49 (c_above 2 (by decide)) rfl ⟨by decide, Nat.le_of_eq (Nat.zero_add _), Nat.le_of_eq (Nat.zero_add _)⟩ (Nat.le_of_ble_eq_true rfl) rfl (fun r h9 hq => ?_)
  obtain ⟨rfl, rfl⟩ := hq
  show jb_J _ RX12 cX12_calls 3 (Option.some .int) false 2 0 0 52 [some (.ref 105), some (.int 2), some (.int x)] [.int 0, .ref 105] [s0, s1, s2, s3, s4, s5, s6, s7, s8, s9, jb_mdl I1 J d e kp nm W1, s11] _
  refine jb_iload_n (pc' := 53) dX12_calls_52 rfl rfl ?_
  refine jb_callV (pc' := 56) (ci := 12) (q := 105) (As := [.int 0, .int x]) (a2 := 0) (b2 := 0) wv_X12_268 rfl dX12_calls_53 (cm_calls_0_5 I1 J d e kp nm W1 hd hk p hp hkd ((gI1 4 (by decide)).trans h4) (t9 + 1) h31 (by omega) x) rfl rfl ⟨by decide, Nat.le_of_eq (Nat.zero_add _), Nat.le_of_eq (Nat.zero_add _)⟩ (Nat.le_of_ble_eq_true rfl) rfl (fun r h9 hq => ?_)
  obtain ⟨rfl, I2, W2, hI2, h32, hW2, hT2, rfl⟩ := hq
  have gI2 : ∀ j, ¬ j = 3 → I2 j = I j := fun j hj => (hI2 j hj).trans (gI1 j hj)
  have gW2 : ∀ r, ¬ r = 10 → W2 r = W r := fun r hr => (hW2 r hr).trans (gW1 r hr)
  have gT2 : W2 10 = jp_wr (W 10) t9 [30, 10] := hT2.trans (by first | rfl | (rw [gT1]; done) | (rw [gT1]; rfl))
  show jb_J _ RX12 cX12_calls 3 (Option.some .int) false 2 0 0 56 [some (.ref 105), some (.int 2), some (.int x)] [.int ((x) + (nI p))] [s0, s1, s2, s3, s4, s5, s6, s7, s8, s9, jb_mdl I2 J d e kp nm W2, s11] _
  refine jb_iconst (pc' := 57) 3 dX12_calls_56 (by decide) rfl ?_
  refine jb_imul (pc' := 58) dX12_calls_57 rfl ?_
  refine jb_iret dX12_calls_58 rfl ?_
  exact ⟨rfl, I2, W2, gI2, h32, gW2, gT2, rfl⟩
set_option maxRecDepth 100000 in
set_option maxHeartbeats 4000000 in
theorem cm_calls_5_5 {sc : Nat × (Nat → Int32)} {s0 s1 s2 s3 s4 s5 s6 s7 s8 s9 s11 : List va_E} {V : Nat → Nat → Nat} (I J d e kp nm : Nat → Int32) (W : Nat → Nat → Int32) (hd : jd_ V d) (hk : jv_ok V) (p : Nat) (hp : p < V 0 1) (hkd : V 1 p = 5) (h4 : I 4 = nI p) (t9 : Nat) (h3 : I 3 = nI t9) (ht : t9 + 2 ≤ 40) (x : Int32) : jb_C sc yX12_calls cX12_calls 3 (Option.some .int) 3 0 0 [.ref 105, .int 5, .int x] [s0, s1, s2, s3, s4, s5, s6, s7, s8, s9, jb_mdl I J d e kp nm W, s11] (fun r h9 => r = some (.int (((x) + (nI p)) * 3)) ∧ ∃ I9 W9, (∀ j, ¬ j = 3 → I9 j = I j) ∧ I9 3 = nI (t9 + 2) ∧ (∀ r, ¬ r = 10 → W9 r = W r) ∧ W9 10 = jp_wr (W 10) t9 [30, 10] ∧ h9 = [s0, s1, s2, s3, s4, s5, s6, s7, s8, s9, jb_mdl I9 J d e kp nm W9, s11]) := by
  refine jb_CofJ (ini := false) (by decide +kernel) (fun h => by cases h) (Nat.le_of_ble_eq_true rfl) ?_
  show jb_J sc RX12 cX12_calls 3 (Option.some .int) false 3 0 0 0 [some (.ref 105), some (.int 5), some (.int x)] [] [s0, s1, s2, s3, s4, s5, s6, s7, s8, s9, jb_mdl I J d e kp nm W, s11] _
  have gI0 : ∀ j, ¬ j = 3 → I j = I j := fun _ _ => rfl
  have gW0 : ∀ r, ¬ r = 10 → W r = W r := fun _ _ => rfl
  have gT0 : W 10 = jp_wr (W 10) t9 [] := rfl
  refine jb_iload_n (pc' := 1) dX12_calls_0 rfl rfl ?_
  refine jb_lookup (pc' := 59) (off := 58) dX12_calls_1 (by decide +kernel) (by decide +kernel) (by decide) ?_
  refine jb_aload_n (pc' := 60) dX12_calls_59 rfl rfl ?_
  refine jb_iload_n (pc' := 61) dX12_calls_60 rfl rfl ?_
  refine jb_callS (pc' := 64) (As := [.int 5]) (a2 := 0) (b2 := 0) wv_X12_168 dX12_calls_61 (c_above 5 (by decide)) rfl ⟨by decide, Nat.le_of_eq (Nat.zero_add _), Nat.le_of_eq (Nat.zero_add _)⟩ (Nat.le_of_ble_eq_true rfl) rfl (fun r h9 hq => ?_)
  obtain ⟨rfl, rfl⟩ := hq
  show jb_J _ RX12 cX12_calls 3 (Option.some .int) false 3 0 0 64 [some (.ref 105), some (.int 5), some (.int x)] [.int 2, .ref 105] [s0, s1, s2, s3, s4, s5, s6, s7, s8, s9, jb_mdl I J d e kp nm W, s11] _
  refine jb_iload_n (pc' := 65) dX12_calls_64 rfl rfl ?_
  refine jb_callV (pc' := 68) (ci := 12) (q := 105) (As := [.int 2, .int x]) (a2 := 0) (b2 := 0) wv_X12_268 rfl dX12_calls_65 (cm_calls_2_5 I J d e kp nm W hd hk p hp hkd ((gI0 4 (by decide)).trans h4) t9 h3 (by omega) x) rfl rfl ⟨by decide, Nat.le_of_eq (Nat.zero_add _), Nat.le_of_eq (Nat.zero_add _)⟩ (Nat.le_of_ble_eq_true rfl) rfl (fun r h9 hq => ?_)
  obtain ⟨rfl, I1, W1, hI1, h31, hW1, hT1, rfl⟩ := hq
  have gI1 : ∀ j, ¬ j = 3 → I1 j = I j := fun j hj => (hI1 j hj).trans (gI0 j hj)
  have gW1 : ∀ r, ¬ r = 10 → W1 r = W r := fun r hr => (hW1 r hr).trans (gW0 r hr)
  have gT1 : W1 10 = jp_wr (W 10) t9 [30, 10] := hT1.trans (by first | rfl | (rw [gT0]; done) | (rw [gT0]; rfl))
  show jb_J _ RX12 cX12_calls 3 (Option.some .int) false 3 0 0 68 [some (.ref 105), some (.int 5), some (.int x)] [.int (((x) + (nI p)) * 3)] [s0, s1, s2, s3, s4, s5, s6, s7, s8, s9, jb_mdl I1 J d e kp nm W1, s11] _
  refine jb_iret dX12_calls_68 rfl ?_
  exact ⟨rfl, I1, W1, gI1, h31, gW1, gT1, rfl⟩
set_option maxRecDepth 100000 in
set_option maxHeartbeats 4000000 in
theorem cm_waits_0_5 {sc : Nat × (Nat → Int32)} {s0 s1 s2 s3 s4 s5 s6 s7 s8 s9 s11 : List va_E} {V : Nat → Nat → Nat} (I J d e kp nm : Nat → Int32) (W : Nat → Nat → Int32) (hd : jd_ V d) (hk : jv_ok V) (p : Nat) (hp : p < V 0 1) (hkd : V 1 p = 5) (h4 : I 4 = nI p) (t9 : Nat) (h3 : I 3 = nI t9) (ht : t9 + 1 ≤ 40) (x : Int32) : jb_C sc yX12_waits cX12_waits 3 (Option.some .int) 1 0 0 [.ref 105, .int 0, .int x] [s0, s1, s2, s3, s4, s5, s6, s7, s8, s9, jb_mdl I J d e kp nm W, s11] (fun r h9 => r = some (.int ((x) - (nI (V 2 p)))) ∧ ∃ I9 W9, (∀ j, ¬ j = 3 → I9 j = I j) ∧ I9 3 = nI (t9 + 1) ∧ (∀ r, ¬ r = 10 → W9 r = W r) ∧ W9 10 = jp_wr (W 10) t9 [12] ∧ h9 = [s0, s1, s2, s3, s4, s5, s6, s7, s8, s9, jb_mdl I9 J d e kp nm W9, s11]) := by
  refine jb_CofJ (ini := false) (by decide +kernel) (fun h => by cases h) (Nat.le_of_ble_eq_true rfl) ?_
  show jb_J sc RX12 cX12_waits 3 (Option.some .int) false 1 0 0 0 [some (.ref 105), some (.int 0), some (.int x)] [] [s0, s1, s2, s3, s4, s5, s6, s7, s8, s9, jb_mdl I J d e kp nm W, s11] _
  have gI0 : ∀ j, ¬ j = 3 → I j = I j := fun _ _ => rfl
  have gW0 : ∀ r, ¬ r = 10 → W r = W r := fun _ _ => rfl
  have gT0 : W 10 = jp_wr (W 10) t9 [] := rfl
  refine jb_iload_n (pc' := 1) dX12_waits_0 rfl rfl ?_
  refine jb_lookup (pc' := 36) (off := 35) dX12_waits_1 (by decide +kernel) (by decide +kernel) (by decide) ?_
  refine jb_aload_n (pc' := 37) dX12_waits_36 rfl rfl ?_
  refine jb_bipush (pc' := 39) 12 dX12_waits_37 (by decide) rfl ?_
  refine jb_callV (pc' := 42) (ci := 12) (q := 105) (As := [.int 12]) (a2 := 0) (b2 := 0) wv_X12_265 rfl dX12_waits_39 (c_ran I J d e kp nm W t9 h3 (by omega) 12) rfl rfl ⟨by decide, Nat.le_of_eq (Nat.zero_add _), Nat.le_of_eq (Nat.zero_add _)⟩ (Nat.le_of_ble_eq_true rfl) rfl (fun r h9 hq => ?_)
  obtain ⟨rfl, I1, W1, hI1, h31, hW1, hT1, rfl⟩ := hq
  have gI1 : ∀ j, ¬ j = 3 → I1 j = I j := fun j hj => (hI1 j hj).trans (gI0 j hj)
  have gW1 : ∀ r, ¬ r = 10 → W1 r = W r := fun r hr => (hW1 r hr).trans (gW0 r hr)
  have gT1 : W1 10 = jp_wr (W 10) t9 [12] := hT1.trans (by first | rfl | (rw [gT0]; done) | (rw [gT0]; rfl))
  show jb_J _ RX12 cX12_waits 3 (Option.some .int) false 1 0 0 42 [some (.ref 105), some (.int 0), some (.int x)] [] [s0, s1, s2, s3, s4, s5, s6, s7, s8, s9, jb_mdl I1 J d e kp nm W1, s11] _
  refine jb_iload_n (pc' := 43) dX12_waits_42 rfl rfl ?_
  refine jb_aload_n (pc' := 44) dX12_waits_43 rfl rfl ?_
  refine jb_aload_n (pc' := 45) dX12_waits_44 rfl rfl ?_
  refine gf_X12_262 (pc' := 48) (v := .int (I1 4)) dX12_waits_45 rfl rfl rfl ?_
  refine jb_top (v := .int (I1 4)) (w := .int (nI p)) (jb_vI ((gI1 4 (by decide)).trans h4)) ?_
  refine jb_iconst (pc' := 49) 1 dX12_waits_48 (by decide) rfl ?_
  refine jb_callV (pc' := 52) (ci := 12) (q := 105) (As := [.int (nI p), .int 1]) (a2 := 0) (b2 := 0) wv_X12_145 rfl dX12_waits_49 (c_of1 I1 J d e kp nm W1 hd hk p hp) rfl rfl ⟨by decide, Nat.le_of_eq (Nat.zero_add _), Nat.le_of_eq (Nat.zero_add _)⟩ (Nat.le_of_ble_eq_true rfl) rfl (fun r h9 hq => ?_)
  obtain ⟨rfl, rfl⟩ := hq
  show jb_J _ RX12 cX12_waits 3 (Option.some .int) false 1 0 0 52 [some (.ref 105), some (.int 0), some (.int x)] [.int (nI (V 2 p)), .int x] [s0, s1, s2, s3, s4, s5, s6, s7, s8, s9, jb_mdl I1 J d e kp nm W1, s11] _
  refine jb_isub (pc' := 53) dX12_waits_52 rfl ?_
  refine jb_iret dX12_waits_53 rfl ?_
  exact ⟨rfl, I1, W1, gI1, h31, gW1, gT1, rfl⟩
set_option maxRecDepth 100000 in
set_option maxHeartbeats 4000000 in
theorem cm_waits_2_5 {sc : Nat × (Nat → Int32)} {s0 s1 s2 s3 s4 s5 s6 s7 s8 s9 s11 : List va_E} {V : Nat → Nat → Nat} (I J d e kp nm : Nat → Int32) (W : Nat → Nat → Int32) (hd : jd_ V d) (hk : jv_ok V) (p : Nat) (hp : p < V 0 1) (hkd : V 1 p = 5) (h4 : I 4 = nI p) (t9 : Nat) (h3 : I 3 = nI t9) (ht : t9 + 1 ≤ 40) (x : Int32) : jb_C sc yX12_waits cX12_waits 3 (Option.some .int) 2 0 0 [.ref 105, .int 2, .int x] [s0, s1, s2, s3, s4, s5, s6, s7, s8, s9, jb_mdl I J d e kp nm W, s11] (fun r h9 => r = some (.int ((x) - (nI (V 2 p)))) ∧ ∃ I9 W9, (∀ j, ¬ j = 3 → I9 j = I j) ∧ I9 3 = nI (t9 + 1) ∧ (∀ r, ¬ r = 10 → W9 r = W r) ∧ W9 10 = jp_wr (W 10) t9 [12] ∧ h9 = [s0, s1, s2, s3, s4, s5, s6, s7, s8, s9, jb_mdl I9 J d e kp nm W9, s11]) := by
  refine jb_CofJ (ini := false) (by decide +kernel) (fun h => by cases h) (Nat.le_of_ble_eq_true rfl) ?_
  show jb_J sc RX12 cX12_waits 3 (Option.some .int) false 2 0 0 0 [some (.ref 105), some (.int 2), some (.int x)] [] [s0, s1, s2, s3, s4, s5, s6, s7, s8, s9, jb_mdl I J d e kp nm W, s11] _
  have gI0 : ∀ j, ¬ j = 3 → I j = I j := fun _ _ => rfl
  have gW0 : ∀ r, ¬ r = 10 → W r = W r := fun _ _ => rfl
  have gT0 : W 10 = jp_wr (W 10) t9 [] := rfl
  refine jb_iload_n (pc' := 1) dX12_waits_0 rfl rfl ?_
  refine jb_lookup (pc' := 93) (off := 92) dX12_waits_1 (by decide +kernel) (by decide +kernel) (by decide) ?_
  refine jb_aload_n (pc' := 94) dX12_waits_93 rfl rfl ?_
  refine jb_iload_n (pc' := 95) dX12_waits_94 rfl rfl ?_
  refine jb_callS (pc' := 98) (As := [.int 2]) (a2 := 0) (b2 := 0) wv_X12_168 dX12_waits_95 (c_above 2 (by decide)) rfl ⟨by decide, Nat.le_of_eq (Nat.zero_add _), Nat.le_of_eq (Nat.zero_add _)⟩ (Nat.le_of_ble_eq_true rfl) rfl (fun r h9 hq => ?_)
  obtain ⟨rfl, rfl⟩ := hq
  show jb_J _ RX12 cX12_waits 3 (Option.some .int) false 2 0 0 98 [some (.ref 105), some (.int 2), some (.int x)] [.int 0, .ref 105] [s0, s1, s2, s3, s4, s5, s6, s7, s8, s9, jb_mdl I J d e kp nm W, s11] _
  refine jb_iload_n (pc' := 99) dX12_waits_98 rfl rfl ?_
  refine jb_callV (pc' := 102) (ci := 12) (q := 105) (As := [.int 0, .int x]) (a2 := 0) (b2 := 0) wv_X12_277 rfl dX12_waits_99 (cm_waits_0_5 I J d e kp nm W hd hk p hp hkd ((gI0 4 (by decide)).trans h4) t9 h3 (by omega) x) rfl rfl ⟨by decide, Nat.le_of_eq (Nat.zero_add _), Nat.le_of_eq (Nat.zero_add _)⟩ (Nat.le_of_ble_eq_true rfl) rfl (fun r h9 hq => ?_)
  obtain ⟨rfl, I1, W1, hI1, h31, hW1, hT1, rfl⟩ := hq
  have gI1 : ∀ j, ¬ j = 3 → I1 j = I j := fun j hj => (hI1 j hj).trans (gI0 j hj)
  have gW1 : ∀ r, ¬ r = 10 → W1 r = W r := fun r hr => (hW1 r hr).trans (gW0 r hr)
  have gT1 : W1 10 = jp_wr (W 10) t9 [12] := hT1.trans (by first | rfl | (rw [gT0]; done) | (rw [gT0]; rfl))
  show jb_J _ RX12 cX12_waits 3 (Option.some .int) false 2 0 0 102 [some (.ref 105), some (.int 2), some (.int x)] [.int ((x) - (nI (V 2 p)))] [s0, s1, s2, s3, s4, s5, s6, s7, s8, s9, jb_mdl I1 J d e kp nm W1, s11] _
  refine jb_iret dX12_waits_102 rfl ?_
  exact ⟨rfl, I1, W1, gI1, h31, gW1, gT1, rfl⟩
set_option maxRecDepth 100000 in
set_option maxHeartbeats 4000000 in
theorem cm_waits_5_5 {sc : Nat × (Nat → Int32)} {s0 s1 s2 s3 s4 s5 s6 s7 s8 s9 s11 : List va_E} {V : Nat → Nat → Nat} (I J d e kp nm : Nat → Int32) (W : Nat → Nat → Int32) (hd : jd_ V d) (hk : jv_ok V) (p : Nat) (hp : p < V 0 1) (hkd : V 1 p = 5) (h4 : I 4 = nI p) (t9 : Nat) (h3 : I 3 = nI t9) (ht : t9 + 1 ≤ 40) (x : Int32) : jb_C sc yX12_waits cX12_waits 3 (Option.some .int) 3 0 0 [.ref 105, .int 5, .int x] [s0, s1, s2, s3, s4, s5, s6, s7, s8, s9, jb_mdl I J d e kp nm W, s11] (fun r h9 => r = some (.int ((x) - (nI (V 2 p)))) ∧ ∃ I9 W9, (∀ j, ¬ j = 3 → I9 j = I j) ∧ I9 3 = nI (t9 + 1) ∧ (∀ r, ¬ r = 10 → W9 r = W r) ∧ W9 10 = jp_wr (W 10) t9 [12] ∧ h9 = [s0, s1, s2, s3, s4, s5, s6, s7, s8, s9, jb_mdl I9 J d e kp nm W9, s11]) := by
  refine jb_CofJ (ini := false) (by decide +kernel) (fun h => by cases h) (Nat.le_of_ble_eq_true rfl) ?_
  show jb_J sc RX12 cX12_waits 3 (Option.some .int) false 3 0 0 0 [some (.ref 105), some (.int 5), some (.int x)] [] [s0, s1, s2, s3, s4, s5, s6, s7, s8, s9, jb_mdl I J d e kp nm W, s11] _
  have gI0 : ∀ j, ¬ j = 3 → I j = I j := fun _ _ => rfl
  have gW0 : ∀ r, ¬ r = 10 → W r = W r := fun _ _ => rfl
  have gT0 : W 10 = jp_wr (W 10) t9 [] := rfl
  refine jb_iload_n (pc' := 1) dX12_waits_0 rfl rfl ?_
  refine jb_lookup (pc' := 93) (off := 92) dX12_waits_1 (by decide +kernel) (by decide +kernel) (by decide) ?_
  refine jb_aload_n (pc' := 94) dX12_waits_93 rfl rfl ?_
  refine jb_iload_n (pc' := 95) dX12_waits_94 rfl rfl ?_
  refine jb_callS (pc' := 98) (As := [.int 5]) (a2 := 0) (b2 := 0) wv_X12_168 dX12_waits_95 (c_above 5 (by decide)) rfl ⟨by decide, Nat.le_of_eq (Nat.zero_add _), Nat.le_of_eq (Nat.zero_add _)⟩ (Nat.le_of_ble_eq_true rfl) rfl (fun r h9 hq => ?_)
  obtain ⟨rfl, rfl⟩ := hq
  show jb_J _ RX12 cX12_waits 3 (Option.some .int) false 3 0 0 98 [some (.ref 105), some (.int 5), some (.int x)] [.int 2, .ref 105] [s0, s1, s2, s3, s4, s5, s6, s7, s8, s9, jb_mdl I J d e kp nm W, s11] _
  refine jb_iload_n (pc' := 99) dX12_waits_98 rfl rfl ?_
  refine jb_callV (pc' := 102) (ci := 12) (q := 105) (As := [.int 2, .int x]) (a2 := 0) (b2 := 0) wv_X12_277 rfl dX12_waits_99 (cm_waits_2_5 I J d e kp nm W hd hk p hp hkd ((gI0 4 (by decide)).trans h4) t9 h3 (by omega) x) rfl rfl ⟨by decide, Nat.le_of_eq (Nat.zero_add _), Nat.le_of_eq (Nat.zero_add _)⟩ (Nat.le_of_ble_eq_true rfl) rfl (fun r h9 hq => ?_)
  obtain ⟨rfl, I1, W1, hI1, h31, hW1, hT1, rfl⟩ := hq
  have gI1 : ∀ j, ¬ j = 3 → I1 j = I j := fun j hj => (hI1 j hj).trans (gI0 j hj)
  have gW1 : ∀ r, ¬ r = 10 → W1 r = W r := fun r hr => (hW1 r hr).trans (gW0 r hr)
  have gT1 : W1 10 = jp_wr (W 10) t9 [12] := hT1.trans (by first | rfl | (rw [gT0]; done) | (rw [gT0]; rfl))
  show jb_J _ RX12 cX12_waits 3 (Option.some .int) false 3 0 0 102 [some (.ref 105), some (.int 5), some (.int x)] [.int ((x) - (nI (V 2 p)))] [s0, s1, s2, s3, s4, s5, s6, s7, s8, s9, jb_mdl I1 J d e kp nm W1, s11] _
  refine jb_iret dX12_waits_102 rfl ?_
  exact ⟨rfl, I1, W1, gI1, h31, gW1, gT1, rfl⟩
set_option maxRecDepth 100000 in
set_option maxHeartbeats 4000000 in
theorem cm_hears_0_5 {sc : Nat × (Nat → Int32)} {s0 s1 s2 s3 s4 s5 s6 s7 s8 s9 s11 : List va_E} {V : Nat → Nat → Nat} (I J d e kp nm : Nat → Int32) (W : Nat → Nat → Int32) (hd : jd_ V d) (hk : jv_ok V) (p : Nat) (hp : p < V 0 1) (hkd : V 1 p = 5) (h4 : I 4 = nI p) (t9 : Nat) (h3 : I 3 = nI t9) (ht : t9 + 3 ≤ 40) (x : Int32) : jb_C sc yX12_hears cX12_hears 4 (Option.some .int) 4 0 0 [.ref 105, .int 0, .int x] [s0, s1, s2, s3, s4, s5, s6, s7, s8, s9, jb_mdl I J d e kp nm W, s11] (fun r h9 => r = some (.int ((((x) + (nI p)) * 3) * 2)) ∧ ∃ I9 W9, (∀ j, ¬ j = 3 → I9 j = I j) ∧ I9 3 = nI (t9 + 3) ∧ (∀ r, ¬ r = 10 → W9 r = W r) ∧ W9 10 = jp_wr (W 10) t9 [11, 30, 10] ∧ h9 = [s0, s1, s2, s3, s4, s5, s6, s7, s8, s9, jb_mdl I9 J d e kp nm W9, s11]) := by
  refine jb_CofJ (ini := false) (by decide +kernel) (fun h => by cases h) (Nat.le_of_ble_eq_true rfl) ?_
  show jb_J sc RX12 cX12_hears 4 (Option.some .int) false 4 0 0 0 [some (.ref 105), some (.int 0), some (.int x), none] [] [s0, s1, s2, s3, s4, s5, s6, s7, s8, s9, jb_mdl I J d e kp nm W, s11] _
  have gI0 : ∀ j, ¬ j = 3 → I j = I j := fun _ _ => rfl
  have gW0 : ∀ r, ¬ r = 10 → W r = W r := fun _ _ => rfl
  have gT0 : W 10 = jp_wr (W 10) t9 [] := rfl
  refine jb_iload_n (pc' := 1) dX12_hears_0 rfl rfl ?_
  refine jb_tableIn (pc' := 36) (off := 35) dX12_hears_1 (by decide) (by decide) (by decide +kernel) (by decide) ?_
  refine jb_aload_n (pc' := 37) dX12_hears_36 rfl rfl ?_
  refine jb_bipush (pc' := 39) 11 dX12_hears_37 (by decide) rfl ?_
  refine jb_callV (pc' := 42) (ci := 12) (q := 105) (As := [.int 11]) (a2 := 0) (b2 := 0) wv_X12_265 rfl dX12_hears_39 (c_ran I J d e kp nm W t9 h3 (by omega) 11) rfl rfl ⟨by decide, Nat.le_of_eq (Nat.zero_add _), Nat.le_of_eq (Nat.zero_add _)⟩ (Nat.le_of_ble_eq_true rfl) rfl (fun r h9 hq => ?_)
  obtain ⟨rfl, I1, W1, hI1, h31, hW1, hT1, rfl⟩ := hq
  have gI1 : ∀ j, ¬ j = 3 → I1 j = I j := fun j hj => (hI1 j hj).trans (gI0 j hj)
  have gW1 : ∀ r, ¬ r = 10 → W1 r = W r := fun r hr => (hW1 r hr).trans (gW0 r hr)
  have gT1 : W1 10 = jp_wr (W 10) t9 [11] := hT1.trans (by first | rfl | (rw [gT0]; done) | (rw [gT0]; rfl))
  show jb_J _ RX12 cX12_hears 4 (Option.some .int) false 4 0 0 42 [some (.ref 105), some (.int 0), some (.int x), none] [] [s0, s1, s2, s3, s4, s5, s6, s7, s8, s9, jb_mdl I1 J d e kp nm W1, s11] _
  refine jb_aload_n (pc' := 43) dX12_hears_42 rfl rfl ?_
  refine jb_aload_n (pc' := 44) dX12_hears_43 rfl rfl ?_
  refine jb_callV (pc' := 47) (ci := 12) (q := 105) (As := []) (a2 := 0) (b2 := 0) wv_X12_271 rfl dX12_hears_44 (c_own I1 J d e kp nm W1 hd hk p hp ((gI1 4 (by decide)).trans h4)) rfl rfl ⟨by decide, Nat.le_of_eq (Nat.zero_add _), Nat.le_of_eq (Nat.zero_add _)⟩ (Nat.le_of_ble_eq_true rfl) rfl (fun r h9 hq => ?_)
  obtain ⟨rfl, rfl⟩ := hq
  rw [hkd]
  show jb_J _ RX12 cX12_hears 4 (Option.some .int) false 4 0 0 47 [some (.ref 105), some (.int 0), some (.int x), none] [.int 5, .ref 105] [s0, s1, s2, s3, s4, s5, s6, s7, s8, s9, jb_mdl I1 J d e kp nm W1, s11] _
  refine jb_iload_n (pc' := 48) dX12_hears_47 rfl rfl ?_
  refine jb_callV (pc' := 51) (ci := 12) (q := 105) (As := [.int 5, .int x]) (a2 := 0) (b2 := 0) wv_X12_268 rfl dX12_hears_48 (cm_calls_5_5 I1 J d e kp nm W1 hd hk p hp hkd ((gI1 4 (by decide)).trans h4) (t9 + 1) h31 (by omega) x) rfl rfl ⟨by decide, Nat.le_of_eq (Nat.zero_add _), Nat.le_of_eq (Nat.zero_add _)⟩ (Nat.le_of_ble_eq_true rfl) rfl (fun r h9 hq => ?_)
  obtain ⟨rfl, I2, W2, hI2, h32, hW2, hT2, rfl⟩ := hq
  have gI2 : ∀ j, ¬ j = 3 → I2 j = I j := fun j hj => (hI2 j hj).trans (gI1 j hj)
  have gW2 : ∀ r, ¬ r = 10 → W2 r = W r := fun r hr => (hW2 r hr).trans (gW1 r hr)
  have gT2 : W2 10 = jp_wr (W 10) t9 [11, 30, 10] := hT2.trans (by first | rfl | (rw [gT1]; done) | (rw [gT1]; rfl))
  show jb_J _ RX12 cX12_hears 4 (Option.some .int) false 4 0 0 51 [some (.ref 105), some (.int 0), some (.int x), none] [.int (((x) + (nI p)) * 3)] [s0, s1, s2, s3, s4, s5, s6, s7, s8, s9, jb_mdl I2 J d e kp nm W2, s11] _
  refine jb_iconst (pc' := 52) 2 dX12_hears_51 (by decide) rfl ?_
  refine jb_imul (pc' := 53) dX12_hears_52 rfl ?_
  refine jb_iret dX12_hears_53 rfl ?_
  exact ⟨rfl, I2, W2, gI2, h32, gW2, gT2, rfl⟩
set_option maxRecDepth 100000 in
set_option maxHeartbeats 4000000 in
theorem cm_hears_2_5 {sc : Nat × (Nat → Int32)} {s0 s1 s2 s3 s4 s5 s6 s7 s8 s9 s11 : List va_E} {V : Nat → Nat → Nat} (I J d e kp nm : Nat → Int32) (W : Nat → Nat → Int32) (hd : jd_ V d) (hk : jv_ok V) (p : Nat) (hp : p < V 0 1) (hkd : V 1 p = 5) (h4 : I 4 = nI p) (t9 : Nat) (h3 : I 3 = nI t9) (ht : t9 + 3 ≤ 40) (x : Int32) : jb_C sc yX12_hears cX12_hears 4 (Option.some .int) 5 0 0 [.ref 105, .int 2, .int x] [s0, s1, s2, s3, s4, s5, s6, s7, s8, s9, jb_mdl I J d e kp nm W, s11] (fun r h9 => r = some (.int ((((x) + (nI p)) * 3) * 2)) ∧ ∃ I9 W9, (∀ j, ¬ j = 3 → I9 j = I j) ∧ I9 3 = nI (t9 + 3) ∧ (∀ r, ¬ r = 10 → W9 r = W r) ∧ W9 10 = jp_wr (W 10) t9 [11, 30, 10] ∧ h9 = [s0, s1, s2, s3, s4, s5, s6, s7, s8, s9, jb_mdl I9 J d e kp nm W9, s11]) := by
  refine jb_CofJ (ini := false) (by decide +kernel) (fun h => by cases h) (Nat.le_of_ble_eq_true rfl) ?_
  show jb_J sc RX12 cX12_hears 4 (Option.some .int) false 5 0 0 0 [some (.ref 105), some (.int 2), some (.int x), none] [] [s0, s1, s2, s3, s4, s5, s6, s7, s8, s9, jb_mdl I J d e kp nm W, s11] _
  have gI0 : ∀ j, ¬ j = 3 → I j = I j := fun _ _ => rfl
  have gW0 : ∀ r, ¬ r = 10 → W r = W r := fun _ _ => rfl
  have gT0 : W 10 = jp_wr (W 10) t9 [] := rfl
  refine jb_iload_n (pc' := 1) dX12_hears_0 rfl rfl ?_
  refine jb_tableIn (pc' := 100) (off := 99) dX12_hears_1 (by decide) (by decide) (by decide +kernel) (by decide) ?_
  refine jb_aload_n (pc' := 101) dX12_hears_100 rfl rfl ?_
  refine jb_iload_n (pc' := 102) dX12_hears_101 rfl rfl ?_
  refine jb_callS (pc' := 105) (As := [.int 2]) (a2 := 0) (b2 := 0) wv_X12_168 dX12_hears_102 (c_above 2 (by decide)) rfl ⟨by decide, Nat.le_of_eq (Nat.zero_add _), Nat.le_of_eq (Nat.zero_add _)⟩ (Nat.le_of_ble_eq_true rfl) rfl (fun r h9 hq => ?_)
  obtain ⟨rfl, rfl⟩ := hq
  show jb_J _ RX12 cX12_hears 4 (Option.some .int) false 5 0 0 105 [some (.ref 105), some (.int 2), some (.int x), none] [.int 0, .ref 105] [s0, s1, s2, s3, s4, s5, s6, s7, s8, s9, jb_mdl I J d e kp nm W, s11] _
  refine jb_iload_n (pc' := 106) dX12_hears_105 rfl rfl ?_
  refine jb_callV (pc' := 109) (ci := 12) (q := 105) (As := [.int 0, .int x]) (a2 := 0) (b2 := 0) wv_X12_274 rfl dX12_hears_106 (cm_hears_0_5 I J d e kp nm W hd hk p hp hkd ((gI0 4 (by decide)).trans h4) t9 h3 (by omega) x) rfl rfl ⟨by decide, Nat.le_of_eq (Nat.zero_add _), Nat.le_of_eq (Nat.zero_add _)⟩ (Nat.le_of_ble_eq_true rfl) rfl (fun r h9 hq => ?_)
  obtain ⟨rfl, I1, W1, hI1, h31, hW1, hT1, rfl⟩ := hq
  have gI1 : ∀ j, ¬ j = 3 → I1 j = I j := fun j hj => (hI1 j hj).trans (gI0 j hj)
  have gW1 : ∀ r, ¬ r = 10 → W1 r = W r := fun r hr => (hW1 r hr).trans (gW0 r hr)
  have gT1 : W1 10 = jp_wr (W 10) t9 [11, 30, 10] := hT1.trans (by first | rfl | (rw [gT0]; done) | (rw [gT0]; rfl))
  show jb_J _ RX12 cX12_hears 4 (Option.some .int) false 5 0 0 109 [some (.ref 105), some (.int 2), some (.int x), none] [.int ((((x) + (nI p)) * 3) * 2)] [s0, s1, s2, s3, s4, s5, s6, s7, s8, s9, jb_mdl I1 J d e kp nm W1, s11] _
  refine jb_iret dX12_hears_109 rfl ?_
  exact ⟨rfl, I1, W1, gI1, h31, gW1, gT1, rfl⟩
set_option maxRecDepth 100000 in
set_option maxHeartbeats 4000000 in
theorem cm_hears_5_5 {sc : Nat × (Nat → Int32)} {s0 s1 s2 s3 s4 s5 s6 s7 s8 s9 s11 : List va_E} {V : Nat → Nat → Nat} (I J d e kp nm : Nat → Int32) (W : Nat → Nat → Int32) (hd : jd_ V d) (hk : jv_ok V) (p : Nat) (hp : p < V 0 1) (hkd : V 1 p = 5) (h4 : I 4 = nI p) (t9 : Nat) (h3 : I 3 = nI t9) (ht : t9 + 3 ≤ 40) (x : Int32) : jb_C sc yX12_hears cX12_hears 4 (Option.some .int) 6 0 0 [.ref 105, .int 5, .int x] [s0, s1, s2, s3, s4, s5, s6, s7, s8, s9, jb_mdl I J d e kp nm W, s11] (fun r h9 => r = some (.int ((((x) + (nI p)) * 3) * 2)) ∧ ∃ I9 W9, (∀ j, ¬ j = 3 → I9 j = I j) ∧ I9 3 = nI (t9 + 3) ∧ (∀ r, ¬ r = 10 → W9 r = W r) ∧ W9 10 = jp_wr (W 10) t9 [11, 30, 10] ∧ h9 = [s0, s1, s2, s3, s4, s5, s6, s7, s8, s9, jb_mdl I9 J d e kp nm W9, s11]) := by
  refine jb_CofJ (ini := false) (by decide +kernel) (fun h => by cases h) (Nat.le_of_ble_eq_true rfl) ?_
  show jb_J sc RX12 cX12_hears 4 (Option.some .int) false 6 0 0 0 [some (.ref 105), some (.int 5), some (.int x), none] [] [s0, s1, s2, s3, s4, s5, s6, s7, s8, s9, jb_mdl I J d e kp nm W, s11] _
  have gI0 : ∀ j, ¬ j = 3 → I j = I j := fun _ _ => rfl
  have gW0 : ∀ r, ¬ r = 10 → W r = W r := fun _ _ => rfl
  have gT0 : W 10 = jp_wr (W 10) t9 [] := rfl
  refine jb_iload_n (pc' := 1) dX12_hears_0 rfl rfl ?_
  refine jb_tableOut (pc' := 100) dX12_hears_1 (by decide) (by decide) ?_
  refine jb_aload_n (pc' := 101) dX12_hears_100 rfl rfl ?_
  refine jb_iload_n (pc' := 102) dX12_hears_101 rfl rfl ?_
  refine jb_callS (pc' := 105) (As := [.int 5]) (a2 := 0) (b2 := 0) wv_X12_168 dX12_hears_102 (c_above 5 (by decide)) rfl ⟨by decide, Nat.le_of_eq (Nat.zero_add _), Nat.le_of_eq (Nat.zero_add _)⟩ (Nat.le_of_ble_eq_true rfl) rfl (fun r h9 hq => ?_)
  obtain ⟨rfl, rfl⟩ := hq
  show jb_J _ RX12 cX12_hears 4 (Option.some .int) false 6 0 0 105 [some (.ref 105), some (.int 5), some (.int x), none] [.int 2, .ref 105] [s0, s1, s2, s3, s4, s5, s6, s7, s8, s9, jb_mdl I J d e kp nm W, s11] _
  refine jb_iload_n (pc' := 106) dX12_hears_105 rfl rfl ?_
  refine jb_callV (pc' := 109) (ci := 12) (q := 105) (As := [.int 2, .int x]) (a2 := 0) (b2 := 0) wv_X12_274 rfl dX12_hears_106 (cm_hears_2_5 I J d e kp nm W hd hk p hp hkd ((gI0 4 (by decide)).trans h4) t9 h3 (by omega) x) rfl rfl ⟨by decide, Nat.le_of_eq (Nat.zero_add _), Nat.le_of_eq (Nat.zero_add _)⟩ (Nat.le_of_ble_eq_true rfl) rfl (fun r h9 hq => ?_)
  obtain ⟨rfl, I1, W1, hI1, h31, hW1, hT1, rfl⟩ := hq
  have gI1 : ∀ j, ¬ j = 3 → I1 j = I j := fun j hj => (hI1 j hj).trans (gI0 j hj)
  have gW1 : ∀ r, ¬ r = 10 → W1 r = W r := fun r hr => (hW1 r hr).trans (gW0 r hr)
  have gT1 : W1 10 = jp_wr (W 10) t9 [11, 30, 10] := hT1.trans (by first | rfl | (rw [gT0]; done) | (rw [gT0]; rfl))
  show jb_J _ RX12 cX12_hears 4 (Option.some .int) false 6 0 0 109 [some (.ref 105), some (.int 5), some (.int x), none] [.int ((((x) + (nI p)) * 3) * 2)] [s0, s1, s2, s3, s4, s5, s6, s7, s8, s9, jb_mdl I1 J d e kp nm W1, s11] _
  refine jb_iret dX12_hears_109 rfl ?_
  exact ⟨rfl, I1, W1, gI1, h31, gW1, gT1, rfl⟩
set_option maxRecDepth 100000 in
set_option maxHeartbeats 4000000 in
theorem cm_tells_0_5 {sc : Nat × (Nat → Int32)} {s0 s1 s2 s3 s4 s5 s6 s7 s8 s9 s11 : List va_E} {V : Nat → Nat → Nat} (I J d e kp nm : Nat → Int32) (W : Nat → Nat → Int32) (hd : jd_ V d) (hk : jv_ok V) (p : Nat) (hp : p < V 0 1) (hkd : V 1 p = 5) (h4 : I 4 = nI p) (t9 : Nat) (h3 : I 3 = nI t9) (ht : t9 + 5 ≤ 40) (x : Int32) : jb_C sc yX12_tells cX12_tells 4 (Option.some .int) 7 0 0 [.ref 105, .int 0, .int x] [s0, s1, s2, s3, s4, s5, s6, s7, s8, s9, jb_mdl I J d e kp nm W, s11] (fun r h9 => r = some (.int (((((x) + (nI p)) * 3) * 2) ^^^ ((x) - (nI (V 2 p))))) ∧ ∃ I9 W9, (∀ j, ¬ j = 3 → I9 j = I j) ∧ I9 3 = nI (t9 + 5) ∧ (∀ r, ¬ r = 10 → W9 r = W r) ∧ W9 10 = jp_wr (W 10) t9 [13, 11, 30, 10, 12] ∧ h9 = [s0, s1, s2, s3, s4, s5, s6, s7, s8, s9, jb_mdl I9 J d e kp nm W9, s11]) := by
  refine jb_CofJ (ini := false) (by decide +kernel) (fun h => by cases h) (Nat.le_of_ble_eq_true rfl) ?_
  show jb_J sc RX12 cX12_tells 4 (Option.some .int) false 7 0 0 0 [some (.ref 105), some (.int 0), some (.int x), none] [] [s0, s1, s2, s3, s4, s5, s6, s7, s8, s9, jb_mdl I J d e kp nm W, s11] _
  have gI0 : ∀ j, ¬ j = 3 → I j = I j := fun _ _ => rfl
  have gW0 : ∀ r, ¬ r = 10 → W r = W r := fun _ _ => rfl
  have gT0 : W 10 = jp_wr (W 10) t9 [] := rfl
  refine jb_iload_n (pc' := 1) dX12_tells_0 rfl rfl ?_
  refine jb_lookup (pc' := 36) (off := 35) dX12_tells_1 (by decide +kernel) (by decide +kernel) (by decide) ?_
  refine jb_aload_n (pc' := 37) dX12_tells_36 rfl rfl ?_
  refine jb_bipush (pc' := 39) 13 dX12_tells_37 (by decide) rfl ?_
  refine jb_callV (pc' := 42) (ci := 12) (q := 105) (As := [.int 13]) (a2 := 0) (b2 := 0) wv_X12_265 rfl dX12_tells_39 (c_ran I J d e kp nm W t9 h3 (by omega) 13) rfl rfl ⟨by decide, Nat.le_of_eq (Nat.zero_add _), Nat.le_of_eq (Nat.zero_add _)⟩ (Nat.le_of_ble_eq_true rfl) rfl (fun r h9 hq => ?_)
  obtain ⟨rfl, I1, W1, hI1, h31, hW1, hT1, rfl⟩ := hq
  have gI1 : ∀ j, ¬ j = 3 → I1 j = I j := fun j hj => (hI1 j hj).trans (gI0 j hj)
  have gW1 : ∀ r, ¬ r = 10 → W1 r = W r := fun r hr => (hW1 r hr).trans (gW0 r hr)
  have gT1 : W1 10 = jp_wr (W 10) t9 [13] := hT1.trans (by first | rfl | (rw [gT0]; done) | (rw [gT0]; rfl))
  show jb_J _ RX12 cX12_tells 4 (Option.some .int) false 7 0 0 42 [some (.ref 105), some (.int 0), some (.int x), none] [] [s0, s1, s2, s3, s4, s5, s6, s7, s8, s9, jb_mdl I1 J d e kp nm W1, s11] _
  refine jb_aload_n (pc' := 43) dX12_tells_42 rfl rfl ?_
  refine jb_aload_n (pc' := 44) dX12_tells_43 rfl rfl ?_
  refine jb_callV (pc' := 47) (ci := 12) (q := 105) (As := []) (a2 := 0) (b2 := 0) wv_X12_271 rfl dX12_tells_44 (c_own I1 J d e kp nm W1 hd hk p hp ((gI1 4 (by decide)).trans h4)) rfl rfl ⟨by decide, Nat.le_of_eq (Nat.zero_add _), Nat.le_of_eq (Nat.zero_add _)⟩ (Nat.le_of_ble_eq_true rfl) rfl (fun r h9 hq => ?_)
  obtain ⟨rfl, rfl⟩ := hq
  rw [hkd]
  show jb_J _ RX12 cX12_tells 4 (Option.some .int) false 7 0 0 47 [some (.ref 105), some (.int 0), some (.int x), none] [.int 5, .ref 105] [s0, s1, s2, s3, s4, s5, s6, s7, s8, s9, jb_mdl I1 J d e kp nm W1, s11] _
  refine jb_iload_n (pc' := 48) dX12_tells_47 rfl rfl ?_
  refine jb_callV (pc' := 51) (ci := 12) (q := 105) (As := [.int 5, .int x]) (a2 := 0) (b2 := 0) wv_X12_274 rfl dX12_tells_48 (cm_hears_5_5 I1 J d e kp nm W1 hd hk p hp hkd ((gI1 4 (by decide)).trans h4) (t9 + 1) h31 (by omega) x) rfl rfl ⟨by decide, Nat.le_of_eq (Nat.zero_add _), Nat.le_of_eq (Nat.zero_add _)⟩ (Nat.le_of_ble_eq_true rfl) rfl (fun r h9 hq => ?_)
  obtain ⟨rfl, I2, W2, hI2, h32, hW2, hT2, rfl⟩ := hq
  have gI2 : ∀ j, ¬ j = 3 → I2 j = I j := fun j hj => (hI2 j hj).trans (gI1 j hj)
  have gW2 : ∀ r, ¬ r = 10 → W2 r = W r := fun r hr => (hW2 r hr).trans (gW1 r hr)
  have gT2 : W2 10 = jp_wr (W 10) t9 [13, 11, 30, 10] := hT2.trans (by first | rfl | (rw [gT1]; done) | (rw [gT1]; rfl))
  show jb_J _ RX12 cX12_tells 4 (Option.some .int) false 7 0 0 51 [some (.ref 105), some (.int 0), some (.int x), none] [.int ((((x) + (nI p)) * 3) * 2)] [s0, s1, s2, s3, s4, s5, s6, s7, s8, s9, jb_mdl I2 J d e kp nm W2, s11] _
  refine jb_istore_n_ (pc' := 52) dX12_tells_51 (by decide) (jb_at3 rfl) rfl ?_
  refine jb_iload_n (pc' := 53) dX12_tells_52 rfl rfl ?_
  refine jb_aload_n (pc' := 54) dX12_tells_53 rfl rfl ?_
  refine jb_aload_n (pc' := 55) dX12_tells_54 rfl rfl ?_
  refine jb_callV (pc' := 58) (ci := 12) (q := 105) (As := []) (a2 := 0) (b2 := 0) wv_X12_271 rfl dX12_tells_55 (c_own I2 J d e kp nm W2 hd hk p hp ((gI2 4 (by decide)).trans h4)) rfl rfl ⟨by decide, Nat.le_of_eq (Nat.zero_add _), Nat.le_of_eq (Nat.zero_add _)⟩ (Nat.le_of_ble_eq_true rfl) rfl (fun r h9 hq => ?_)
  obtain ⟨rfl, rfl⟩ := hq
  rw [hkd]
  show jb_J _ RX12 cX12_tells 4 (Option.some .int) false 7 0 0 58 [some (.ref 105), some (.int 0), some (.int x), some (.int ((((x) + (nI p)) * 3) * 2))] [.int 5, .ref 105, .int ((((x) + (nI p)) * 3) * 2)] [s0, s1, s2, s3, s4, s5, s6, s7, s8, s9, jb_mdl I2 J d e kp nm W2, s11] _
  refine jb_iload_n (pc' := 59) dX12_tells_58 rfl rfl ?_
  refine jb_callV (pc' := 62) (ci := 12) (q := 105) (As := [.int 5, .int x]) (a2 := 0) (b2 := 0) wv_X12_277 rfl dX12_tells_59 (cm_waits_5_5 I2 J d e kp nm W2 hd hk p hp hkd ((gI2 4 (by decide)).trans h4) ((t9 + 1) + 3) h32 (by omega) x) rfl rfl ⟨by decide, Nat.le_of_eq (Nat.zero_add _), Nat.le_of_eq (Nat.zero_add _)⟩ (Nat.le_of_ble_eq_true rfl) rfl (fun r h9 hq => ?_)
  obtain ⟨rfl, I3, W3, hI3, h33, hW3, hT3, rfl⟩ := hq
  have gI3 : ∀ j, ¬ j = 3 → I3 j = I j := fun j hj => (hI3 j hj).trans (gI2 j hj)
  have gW3 : ∀ r, ¬ r = 10 → W3 r = W r := fun r hr => (hW3 r hr).trans (gW2 r hr)
  have gT3 : W3 10 = jp_wr (W 10) t9 [13, 11, 30, 10, 12] := hT3.trans (by first | rfl | (rw [gT2]; done) | (rw [gT2]; rfl))
  show jb_J _ RX12 cX12_tells 4 (Option.some .int) false 7 0 0 62 [some (.ref 105), some (.int 0), some (.int x), some (.int ((((x) + (nI p)) * 3) * 2))] [.int ((x) - (nI (V 2 p))), .int ((((x) + (nI p)) * 3) * 2)] [s0, s1, s2, s3, s4, s5, s6, s7, s8, s9, jb_mdl I3 J d e kp nm W3, s11] _
  refine jb_ixor (pc' := 63) dX12_tells_62 rfl ?_
  refine jb_iret dX12_tells_63 rfl ?_
  exact ⟨rfl, I3, W3, gI3, h33, gW3, gT3, rfl⟩
set_option maxRecDepth 100000 in
set_option maxHeartbeats 4000000 in
theorem cm_tells_2_5 {sc : Nat × (Nat → Int32)} {s0 s1 s2 s3 s4 s5 s6 s7 s8 s9 s11 : List va_E} {V : Nat → Nat → Nat} (I J d e kp nm : Nat → Int32) (W : Nat → Nat → Int32) (hd : jd_ V d) (hk : jv_ok V) (p : Nat) (hp : p < V 0 1) (hkd : V 1 p = 5) (h4 : I 4 = nI p) (t9 : Nat) (h3 : I 3 = nI t9) (ht : t9 + 5 ≤ 40) (x : Int32) : jb_C sc yX12_tells cX12_tells 4 (Option.some .int) 8 0 0 [.ref 105, .int 2, .int x] [s0, s1, s2, s3, s4, s5, s6, s7, s8, s9, jb_mdl I J d e kp nm W, s11] (fun r h9 => r = some (.int (((((x) + (nI p)) * 3) * 2) ^^^ ((x) - (nI (V 2 p))))) ∧ ∃ I9 W9, (∀ j, ¬ j = 3 → I9 j = I j) ∧ I9 3 = nI (t9 + 5) ∧ (∀ r, ¬ r = 10 → W9 r = W r) ∧ W9 10 = jp_wr (W 10) t9 [13, 11, 30, 10, 12] ∧ h9 = [s0, s1, s2, s3, s4, s5, s6, s7, s8, s9, jb_mdl I9 J d e kp nm W9, s11]) := by
  refine jb_CofJ (ini := false) (by decide +kernel) (fun h => by cases h) (Nat.le_of_ble_eq_true rfl) ?_
  show jb_J sc RX12 cX12_tells 4 (Option.some .int) false 8 0 0 0 [some (.ref 105), some (.int 2), some (.int x), none] [] [s0, s1, s2, s3, s4, s5, s6, s7, s8, s9, jb_mdl I J d e kp nm W, s11] _
  have gI0 : ∀ j, ¬ j = 3 → I j = I j := fun _ _ => rfl
  have gW0 : ∀ r, ¬ r = 10 → W r = W r := fun _ _ => rfl
  have gT0 : W 10 = jp_wr (W 10) t9 [] := rfl
  refine jb_iload_n (pc' := 1) dX12_tells_0 rfl rfl ?_
  refine jb_lookup (pc' := 121) (off := 120) dX12_tells_1 (by decide +kernel) (by decide +kernel) (by decide) ?_
  refine jb_aload_n (pc' := 122) dX12_tells_121 rfl rfl ?_
  refine jb_iload_n (pc' := 123) dX12_tells_122 rfl rfl ?_
  refine jb_callS (pc' := 126) (As := [.int 2]) (a2 := 0) (b2 := 0) wv_X12_168 dX12_tells_123 (c_above 2 (by decide)) rfl ⟨by decide, Nat.le_of_eq (Nat.zero_add _), Nat.le_of_eq (Nat.zero_add _)⟩ (Nat.le_of_ble_eq_true rfl) rfl (fun r h9 hq => ?_)
  obtain ⟨rfl, rfl⟩ := hq
  show jb_J _ RX12 cX12_tells 4 (Option.some .int) false 8 0 0 126 [some (.ref 105), some (.int 2), some (.int x), none] [.int 0, .ref 105] [s0, s1, s2, s3, s4, s5, s6, s7, s8, s9, jb_mdl I J d e kp nm W, s11] _
  refine jb_iload_n (pc' := 127) dX12_tells_126 rfl rfl ?_
  refine jb_callV (pc' := 130) (ci := 12) (q := 105) (As := [.int 0, .int x]) (a2 := 0) (b2 := 0) wv_X12_280 rfl dX12_tells_127 (cm_tells_0_5 I J d e kp nm W hd hk p hp hkd ((gI0 4 (by decide)).trans h4) t9 h3 (by omega) x) rfl rfl ⟨by decide, Nat.le_of_eq (Nat.zero_add _), Nat.le_of_eq (Nat.zero_add _)⟩ (Nat.le_of_ble_eq_true rfl) rfl (fun r h9 hq => ?_)
  obtain ⟨rfl, I1, W1, hI1, h31, hW1, hT1, rfl⟩ := hq
  have gI1 : ∀ j, ¬ j = 3 → I1 j = I j := fun j hj => (hI1 j hj).trans (gI0 j hj)
  have gW1 : ∀ r, ¬ r = 10 → W1 r = W r := fun r hr => (hW1 r hr).trans (gW0 r hr)
  have gT1 : W1 10 = jp_wr (W 10) t9 [13, 11, 30, 10, 12] := hT1.trans (by first | rfl | (rw [gT0]; done) | (rw [gT0]; rfl))
  show jb_J _ RX12 cX12_tells 4 (Option.some .int) false 8 0 0 130 [some (.ref 105), some (.int 2), some (.int x), none] [.int (((((x) + (nI p)) * 3) * 2) ^^^ ((x) - (nI (V 2 p))))] [s0, s1, s2, s3, s4, s5, s6, s7, s8, s9, jb_mdl I1 J d e kp nm W1, s11] _
  refine jb_iret dX12_tells_130 rfl ?_
  exact ⟨rfl, I1, W1, gI1, h31, gW1, gT1, rfl⟩
set_option maxRecDepth 100000 in
set_option maxHeartbeats 4000000 in
theorem cm_tells_5_5 {sc : Nat × (Nat → Int32)} {s0 s1 s2 s3 s4 s5 s6 s7 s8 s9 s11 : List va_E} {V : Nat → Nat → Nat} (I J d e kp nm : Nat → Int32) (W : Nat → Nat → Int32) (hd : jd_ V d) (hk : jv_ok V) (p : Nat) (hp : p < V 0 1) (hkd : V 1 p = 5) (h4 : I 4 = nI p) (t9 : Nat) (h3 : I 3 = nI t9) (ht : t9 + 8 ≤ 40) (x : Int32) : jb_C sc yX12_tells cX12_tells 4 (Option.some .int) 9 0 0 [.ref 105, .int 5, .int x] [s0, s1, s2, s3, s4, s5, s6, s7, s8, s9, jb_mdl I J d e kp nm W, s11] (fun r h9 => r = some (.int ((((((x) + (nI p)) * 3) * 2) ^^^ ((x) - (nI (V 2 p)))) - (((2) + (nI p)) * 3))) ∧ ∃ I9 W9, (∀ j, ¬ j = 3 → I9 j = I j) ∧ I9 3 = nI (t9 + 8) ∧ (∀ r, ¬ r = 10 → W9 r = W r) ∧ W9 10 = jp_wr (W 10) t9 [60, 13, 11, 30, 10, 12, 30, 10] ∧ h9 = [s0, s1, s2, s3, s4, s5, s6, s7, s8, s9, jb_mdl I9 J d e kp nm W9, s11]) := by
  refine jb_CofJ (ini := false) (by decide +kernel) (fun h => by cases h) (Nat.le_of_ble_eq_true rfl) ?_
  show jb_J sc RX12 cX12_tells 4 (Option.some .int) false 9 0 0 0 [some (.ref 105), some (.int 5), some (.int x), none] [] [s0, s1, s2, s3, s4, s5, s6, s7, s8, s9, jb_mdl I J d e kp nm W, s11] _
  have gI0 : ∀ j, ¬ j = 3 → I j = I j := fun _ _ => rfl
  have gW0 : ∀ r, ¬ r = 10 → W r = W r := fun _ _ => rfl
  have gT0 : W 10 = jp_wr (W 10) t9 [] := rfl
  refine jb_iload_n (pc' := 1) dX12_tells_0 rfl rfl ?_
  refine jb_lookup (pc' := 64) (off := 63) dX12_tells_1 (by decide +kernel) (by decide +kernel) (by decide) ?_
  refine jb_aload_n (pc' := 65) dX12_tells_64 rfl rfl ?_
  refine jb_bipush (pc' := 67) 60 dX12_tells_65 (by decide) rfl ?_
  refine jb_callV (pc' := 70) (ci := 12) (q := 105) (As := [.int 60]) (a2 := 0) (b2 := 0) wv_X12_265 rfl dX12_tells_67 (c_ran I J d e kp nm W t9 h3 (by omega) 60) rfl rfl ⟨by decide, Nat.le_of_eq (Nat.zero_add _), Nat.le_of_eq (Nat.zero_add _)⟩ (Nat.le_of_ble_eq_true rfl) rfl (fun r h9 hq => ?_)
  obtain ⟨rfl, I1, W1, hI1, h31, hW1, hT1, rfl⟩ := hq
  have gI1 : ∀ j, ¬ j = 3 → I1 j = I j := fun j hj => (hI1 j hj).trans (gI0 j hj)
  have gW1 : ∀ r, ¬ r = 10 → W1 r = W r := fun r hr => (hW1 r hr).trans (gW0 r hr)
  have gT1 : W1 10 = jp_wr (W 10) t9 [60] := hT1.trans (by first | rfl | (rw [gT0]; done) | (rw [gT0]; rfl))
  show jb_J _ RX12 cX12_tells 4 (Option.some .int) false 9 0 0 70 [some (.ref 105), some (.int 5), some (.int x), none] [] [s0, s1, s2, s3, s4, s5, s6, s7, s8, s9, jb_mdl I1 J d e kp nm W1, s11] _
  refine jb_aload_n (pc' := 71) dX12_tells_70 rfl rfl ?_
  refine jb_iconst (pc' := 72) 5 dX12_tells_71 (by decide) rfl ?_
  refine jb_callS (pc' := 75) (As := [.int 5]) (a2 := 0) (b2 := 0) wv_X12_168 dX12_tells_72 (c_above 5 (by decide)) rfl ⟨by decide, Nat.le_of_eq (Nat.zero_add _), Nat.le_of_eq (Nat.zero_add _)⟩ (Nat.le_of_ble_eq_true rfl) rfl (fun r h9 hq => ?_)
  obtain ⟨rfl, rfl⟩ := hq
  show jb_J _ RX12 cX12_tells 4 (Option.some .int) false 9 0 0 75 [some (.ref 105), some (.int 5), some (.int x), none] [.int 2, .ref 105] [s0, s1, s2, s3, s4, s5, s6, s7, s8, s9, jb_mdl I1 J d e kp nm W1, s11] _
  refine jb_iload_n (pc' := 76) dX12_tells_75 rfl rfl ?_
  refine jb_callV (pc' := 79) (ci := 12) (q := 105) (As := [.int 2, .int x]) (a2 := 0) (b2 := 0) wv_X12_280 rfl dX12_tells_76 (cm_tells_2_5 I1 J d e kp nm W1 hd hk p hp hkd ((gI1 4 (by decide)).trans h4) (t9 + 1) h31 (by omega) x) rfl rfl ⟨by decide, Nat.le_of_eq (Nat.zero_add _), Nat.le_of_eq (Nat.zero_add _)⟩ (Nat.le_of_ble_eq_true rfl) rfl (fun r h9 hq => ?_)
  obtain ⟨rfl, I2, W2, hI2, h32, hW2, hT2, rfl⟩ := hq
  have gI2 : ∀ j, ¬ j = 3 → I2 j = I j := fun j hj => (hI2 j hj).trans (gI1 j hj)
  have gW2 : ∀ r, ¬ r = 10 → W2 r = W r := fun r hr => (hW2 r hr).trans (gW1 r hr)
  have gT2 : W2 10 = jp_wr (W 10) t9 [60, 13, 11, 30, 10, 12] := hT2.trans (by first | rfl | (rw [gT1]; done) | (rw [gT1]; rfl))
  show jb_J _ RX12 cX12_tells 4 (Option.some .int) false 9 0 0 79 [some (.ref 105), some (.int 5), some (.int x), none] [.int (((((x) + (nI p)) * 3) * 2) ^^^ ((x) - (nI (V 2 p))))] [s0, s1, s2, s3, s4, s5, s6, s7, s8, s9, jb_mdl I2 J d e kp nm W2, s11] _
  refine jb_istore_n_ (pc' := 80) dX12_tells_79 (by decide) (jb_at3 rfl) rfl ?_
  refine jb_iload_n (pc' := 81) dX12_tells_80 rfl rfl ?_
  refine jb_aload_n (pc' := 82) dX12_tells_81 rfl rfl ?_
  refine jb_aload_n (pc' := 83) dX12_tells_82 rfl rfl ?_
  refine jb_callV (pc' := 86) (ci := 12) (q := 105) (As := []) (a2 := 0) (b2 := 0) wv_X12_271 rfl dX12_tells_83 (c_own I2 J d e kp nm W2 hd hk p hp ((gI2 4 (by decide)).trans h4)) rfl rfl ⟨by decide, Nat.le_of_eq (Nat.zero_add _), Nat.le_of_eq (Nat.zero_add _)⟩ (Nat.le_of_ble_eq_true rfl) rfl (fun r h9 hq => ?_)
  obtain ⟨rfl, rfl⟩ := hq
  rw [hkd]
  show jb_J _ RX12 cX12_tells 4 (Option.some .int) false 9 0 0 86 [some (.ref 105), some (.int 5), some (.int x), some (.int (((((x) + (nI p)) * 3) * 2) ^^^ ((x) - (nI (V 2 p)))))] [.int 5, .ref 105, .int (((((x) + (nI p)) * 3) * 2) ^^^ ((x) - (nI (V 2 p))))] [s0, s1, s2, s3, s4, s5, s6, s7, s8, s9, jb_mdl I2 J d e kp nm W2, s11] _
  refine jb_iconst (pc' := 87) 2 dX12_tells_86 (by decide) rfl ?_
  refine jb_callV (pc' := 90) (ci := 12) (q := 105) (As := [.int 5, .int 2]) (a2 := 0) (b2 := 0) wv_X12_268 rfl dX12_tells_87 (cm_calls_5_5 I2 J d e kp nm W2 hd hk p hp hkd ((gI2 4 (by decide)).trans h4) ((t9 + 1) + 5) h32 (by omega) 2) rfl rfl ⟨by decide, Nat.le_of_eq (Nat.zero_add _), Nat.le_of_eq (Nat.zero_add _)⟩ (Nat.le_of_ble_eq_true rfl) rfl (fun r h9 hq => ?_)
  obtain ⟨rfl, I3, W3, hI3, h33, hW3, hT3, rfl⟩ := hq
  have gI3 : ∀ j, ¬ j = 3 → I3 j = I j := fun j hj => (hI3 j hj).trans (gI2 j hj)
  have gW3 : ∀ r, ¬ r = 10 → W3 r = W r := fun r hr => (hW3 r hr).trans (gW2 r hr)
  have gT3 : W3 10 = jp_wr (W 10) t9 [60, 13, 11, 30, 10, 12, 30, 10] := hT3.trans (by first | rfl | (rw [gT2]; done) | (rw [gT2]; rfl))
  show jb_J _ RX12 cX12_tells 4 (Option.some .int) false 9 0 0 90 [some (.ref 105), some (.int 5), some (.int x), some (.int (((((x) + (nI p)) * 3) * 2) ^^^ ((x) - (nI (V 2 p)))))] [.int (((2) + (nI p)) * 3), .int (((((x) + (nI p)) * 3) * 2) ^^^ ((x) - (nI (V 2 p))))] [s0, s1, s2, s3, s4, s5, s6, s7, s8, s9, jb_mdl I3 J d e kp nm W3, s11] _
  refine jb_isub (pc' := 91) dX12_tells_90 rfl ?_
  refine jb_iret dX12_tells_91 rfl ?_
  exact ⟨rfl, I3, W3, gI3, h33, gW3, gT3, rfl⟩
set_option maxRecDepth 100000 in
set_option maxHeartbeats 4000000 in
theorem mx_voice0_5 {sc : Nat × (Nat → Int32)} {s0 s1 s2 s3 s4 s5 s6 s7 s8 s9 s11 : List va_E} {V : Nat → Nat → Nat} (I J d e kp nm : Nat → Int32) (W : Nat → Nat → Int32) (hd : jd_ V d) (hk : jv_ok V) (p : Nat) (hp : p < V 0 1) (hkd : V 1 p = 5) (x : Int32) : jb_C sc yX12_voice cX12_voice 5 (Option.some .int) 4 0 0 [.ref 105, .int (nI p), .int 0, .int x] [s0, s1, s2, s3, s4, s5, s6, s7, s8, s9, jb_mdl I J d e kp nm W, s11] (fun r h9 => r = some (.int (((x) + (nI p)) * 3)) ∧ ∃ I9 W9, I9 0 = I 0 ∧ I9 3 = nI 2 ∧ (∀ r, ¬ r = 10 → W9 r = W r) ∧ W9 10 = jp_wr (W 10) 0 [30, 10] ∧ h9 = [s0, s1, s2, s3, s4, s5, s6, s7, s8, s9, jb_mdl I9 J d e kp nm W9, s11]) := by
  refine jb_CofJ (ini := false) (by decide +kernel) (fun h => by cases h) (Nat.le_of_ble_eq_true rfl) ?_
  show jb_J sc RX12 cX12_voice 5 (Option.some .int) false 4 0 0 0 [some (.ref 105), some (.int (nI p)), some (.int 0), some (.int x), none] [] [s0, s1, s2, s3, s4, s5, s6, s7, s8, s9, jb_mdl I J d e kp nm W, s11] _
  have hd0 := hd
  have hk0 := hk
  obtain ⟨e0, e1, e2, e3, e4, e5, e6, dv, ds, dd⟩ := hd
  obtain ⟨k0, k1, k2, k3, k4, k5, k6, k7, kv, ks, kd⟩ := hk
  have q0 := kv p hp
  refine jb_aload_n (pc' := 1) dX12_voice_0 rfl rfl ?_
  refine jb_iload_n (pc' := 2) dX12_voice_1 rfl rfl ?_
  refine jb_callV (pc' := 5) (ci := 12) (q := 105) (As := [.int (nI p)]) (a2 := 0) (b2 := 0) wv_X12_149 rfl dX12_voice_2 (c_isVoiceG I J d e kp nm W hd0 hk0 p (by omega)) rfl rfl ⟨by decide, Nat.le_of_eq (Nat.zero_add _), Nat.le_of_eq (Nat.zero_add _)⟩ (Nat.le_of_ble_eq_true rfl) rfl (fun r h9 hq => ?_)
  obtain ⟨rfl, rfl⟩ := hq
  show jb_J _ RX12 cX12_voice 5 (Option.some .int) false 4 0 0 5 [some (.ref 105), some (.int (nI p)), some (.int 0), some (.int x), none] [.int 1] [s0, s1, s2, s3, s4, s5, s6, s7, s8, s9, jb_mdl I J d e kp nm W, s11] _
  refine jb_if_eq (tgt := 20) (pc' := 8) dX12_voice_5 (by decide) rfl (fun z => absurd z (by decide)) (fun _ => ?_)
  refine jb_iload_n (pc' := 9) dX12_voice_8 rfl rfl ?_
  refine jb_i2l (pc' := 10) dX12_voice_9 rfl ?_
  refine jb_lconst (pc' := 11) 0 dX12_voice_10 (by decide) rfl ?_
  refine jb_ldc2 (pc' := 14) 3 dX12_voice_11 wk_X12_152 rfl ?_
  refine jb_callS (pc' := 17) (As := [.long ((0 : Int32).toInt64), .long 0, .long 3]) (a2 := 0) (b2 := 0) wv_X12_56 dX12_voice_14 (c_inLG _ 0 0 3 (by omega) (by omega) (by omega)) rfl ⟨by decide, Nat.le_of_eq (Nat.zero_add _), Nat.le_of_eq (Nat.zero_add _)⟩ (Nat.le_of_ble_eq_true rfl) rfl (fun r h9 hq => ?_)
  obtain ⟨rfl, rfl⟩ := hq
  show jb_J _ RX12 cX12_voice 5 (Option.some .int) false 4 0 0 17 [some (.ref 105), some (.int (nI p)), some (.int 0), some (.int x), none] [.int 1] [s0, s1, s2, s3, s4, s5, s6, s7, s8, s9, jb_mdl I J d e kp nm W, s11] _
  refine jb_if_ne (tgt := 26) (pc' := 20) dX12_voice_17 (by decide) rfl (fun _ => ?_) (fun z => absurd z (by decide))
  refine jb_aload_n (pc' := 27) dX12_voice_26 rfl rfl ?_
  refine jb_iconst (pc' := 28) 0 dX12_voice_27 (by decide) rfl ?_
  refine pf_X12_259 (pc' := 31) (h' := [s0, s1, s2, s3, s4, s5, s6, s7, s8, s9, jb_mdl (upd I 3 0) J d e kp nm W, s11]) dX12_voice_28 (fun _ => ⟨rfl, rfl⟩) rfl (Nat.le_of_ble_eq_true rfl) rfl rfl ?_
  refine jb_aload_n (pc' := 32) dX12_voice_31 rfl rfl ?_
  refine jb_iload_n (pc' := 33) dX12_voice_32 rfl rfl ?_
  refine pf_X12_262 (pc' := 36) (h' := [s0, s1, s2, s3, s4, s5, s6, s7, s8, s9, jb_mdl (upd (upd I 3 0) 4 (nI p)) J d e kp nm W, s11]) dX12_voice_33 (fun _ => ⟨rfl, rfl⟩) rfl (Nat.le_of_ble_eq_true rfl) rfl rfl ?_
  refine jb_aload_n (pc' := 37) dX12_voice_36 rfl rfl ?_
  refine jb_callV (pc' := 40) (ci := 12) (q := 105) (As := []) (a2 := 0) (b2 := 0) wv_X12_271 rfl dX12_voice_37 (c_own (upd (upd I 3 0) 4 (nI p)) J d e kp nm W hd0 hk0 p hp rfl) rfl rfl ⟨by decide, Nat.le_of_eq (Nat.zero_add _), Nat.le_of_eq (Nat.zero_add _)⟩ (Nat.le_of_ble_eq_true rfl) rfl (fun r h9 hq => ?_)
  obtain ⟨rfl, rfl⟩ := hq
  rw [hkd]
  show jb_J _ RX12 cX12_voice 5 (Option.some .int) false 4 0 0 40 [some (.ref 105), some (.int (nI p)), some (.int 0), some (.int x), none] [.int 5] [s0, s1, s2, s3, s4, s5, s6, s7, s8, s9, jb_mdl (upd (upd I 3 0) 4 (nI p)) J d e kp nm W, s11] _
  refine jb_istore_ (pc' := 42) dX12_voice_40 (by decide) (jb_at4 rfl) rfl ?_
  refine jb_iload_n (pc' := 43) dX12_voice_42 rfl rfl ?_
  refine jb_if_ne (tgt := 56) (pc' := 46) dX12_voice_43 (by decide) rfl (fun z => absurd (by decide) z) (fun _ => ?_)
  refine jb_aload_n (pc' := 47) dX12_voice_46 rfl rfl ?_
  refine jb_iload (pc' := 49) dX12_voice_47 rfl rfl ?_
  refine jb_iload_n (pc' := 50) dX12_voice_49 rfl rfl ?_
  refine jb_callV (pc' := 53) (ci := 12) (q := 105) (As := [.int 5, .int x]) (a2 := 0) (b2 := 0) wv_X12_268 rfl dX12_voice_50 (cm_calls_5_5 (upd (upd I 3 0) 4 (nI p)) J d e kp nm W hd0 hk0 p hp hkd rfl 0 rfl (by omega) x) rfl rfl ⟨by decide, Nat.le_of_eq (Nat.zero_add _), Nat.le_of_eq (Nat.zero_add _)⟩ (Nat.le_of_ble_eq_true rfl) rfl (fun r h9 hq => ?_)
  obtain ⟨rfl, I9, W9, hI9, h39, hW9, hT9, rfl⟩ := hq
  show jb_J _ RX12 cX12_voice 5 (Option.some .int) false 4 0 0 53 [some (.ref 105), some (.int (nI p)), some (.int 0), some (.int x), some (.int 5)] [.int (((x) + (nI p)) * 3)] [s0, s1, s2, s3, s4, s5, s6, s7, s8, s9, jb_mdl I9 J d e kp nm W9, s11] _
  refine jb_goto (pc' := 93) dX12_voice_53 (by decide) ?_
  refine jb_iret dX12_voice_93 rfl ?_
  exact ⟨rfl, I9, W9, hI9 0 (by decide), by rw [h39], hW9, hT9, rfl⟩
set_option maxRecDepth 100000 in
set_option maxHeartbeats 4000000 in
theorem mx_voice1_5 {sc : Nat × (Nat → Int32)} {s0 s1 s2 s3 s4 s5 s6 s7 s8 s9 s11 : List va_E} {V : Nat → Nat → Nat} (I J d e kp nm : Nat → Int32) (W : Nat → Nat → Int32) (hd : jd_ V d) (hk : jv_ok V) (p : Nat) (hp : p < V 0 1) (hkd : V 1 p = 5) (x : Int32) : jb_C sc yX12_voice cX12_voice 5 (Option.some .int) 7 0 0 [.ref 105, .int (nI p), .int 1, .int x] [s0, s1, s2, s3, s4, s5, s6, s7, s8, s9, jb_mdl I J d e kp nm W, s11] (fun r h9 => r = some (.int ((((x) + (nI p)) * 3) * 2)) ∧ ∃ I9 W9, I9 0 = I 0 ∧ I9 3 = nI 3 ∧ (∀ r, ¬ r = 10 → W9 r = W r) ∧ W9 10 = jp_wr (W 10) 0 [11, 30, 10] ∧ h9 = [s0, s1, s2, s3, s4, s5, s6, s7, s8, s9, jb_mdl I9 J d e kp nm W9, s11]) := by
  refine jb_CofJ (ini := false) (by decide +kernel) (fun h => by cases h) (Nat.le_of_ble_eq_true rfl) ?_
  show jb_J sc RX12 cX12_voice 5 (Option.some .int) false 7 0 0 0 [some (.ref 105), some (.int (nI p)), some (.int 1), some (.int x), none] [] [s0, s1, s2, s3, s4, s5, s6, s7, s8, s9, jb_mdl I J d e kp nm W, s11] _
  have hd0 := hd
  have hk0 := hk
  obtain ⟨e0, e1, e2, e3, e4, e5, e6, dv, ds, dd⟩ := hd
  obtain ⟨k0, k1, k2, k3, k4, k5, k6, k7, kv, ks, kd⟩ := hk
  have q0 := kv p hp
  refine jb_aload_n (pc' := 1) dX12_voice_0 rfl rfl ?_
  refine jb_iload_n (pc' := 2) dX12_voice_1 rfl rfl ?_
  refine jb_callV (pc' := 5) (ci := 12) (q := 105) (As := [.int (nI p)]) (a2 := 0) (b2 := 0) wv_X12_149 rfl dX12_voice_2 (c_isVoiceG I J d e kp nm W hd0 hk0 p (by omega)) rfl rfl ⟨by decide, Nat.le_of_eq (Nat.zero_add _), Nat.le_of_eq (Nat.zero_add _)⟩ (Nat.le_of_ble_eq_true rfl) rfl (fun r h9 hq => ?_)
  obtain ⟨rfl, rfl⟩ := hq
  show jb_J _ RX12 cX12_voice 5 (Option.some .int) false 7 0 0 5 [some (.ref 105), some (.int (nI p)), some (.int 1), some (.int x), none] [.int 1] [s0, s1, s2, s3, s4, s5, s6, s7, s8, s9, jb_mdl I J d e kp nm W, s11] _
  refine jb_if_eq (tgt := 20) (pc' := 8) dX12_voice_5 (by decide) rfl (fun z => absurd z (by decide)) (fun _ => ?_)
  refine jb_iload_n (pc' := 9) dX12_voice_8 rfl rfl ?_
  refine jb_i2l (pc' := 10) dX12_voice_9 rfl ?_
  refine jb_lconst (pc' := 11) 0 dX12_voice_10 (by decide) rfl ?_
  refine jb_ldc2 (pc' := 14) 3 dX12_voice_11 wk_X12_152 rfl ?_
  refine jb_callS (pc' := 17) (As := [.long ((1 : Int32).toInt64), .long 0, .long 3]) (a2 := 0) (b2 := 0) wv_X12_56 dX12_voice_14 (c_inLG _ 1 0 3 (by omega) (by omega) (by omega)) rfl ⟨by decide, Nat.le_of_eq (Nat.zero_add _), Nat.le_of_eq (Nat.zero_add _)⟩ (Nat.le_of_ble_eq_true rfl) rfl (fun r h9 hq => ?_)
  obtain ⟨rfl, rfl⟩ := hq
  show jb_J _ RX12 cX12_voice 5 (Option.some .int) false 7 0 0 17 [some (.ref 105), some (.int (nI p)), some (.int 1), some (.int x), none] [.int 1] [s0, s1, s2, s3, s4, s5, s6, s7, s8, s9, jb_mdl I J d e kp nm W, s11] _
  refine jb_if_ne (tgt := 26) (pc' := 20) dX12_voice_17 (by decide) rfl (fun _ => ?_) (fun z => absurd z (by decide))
  refine jb_aload_n (pc' := 27) dX12_voice_26 rfl rfl ?_
  refine jb_iconst (pc' := 28) 0 dX12_voice_27 (by decide) rfl ?_
  refine pf_X12_259 (pc' := 31) (h' := [s0, s1, s2, s3, s4, s5, s6, s7, s8, s9, jb_mdl (upd I 3 0) J d e kp nm W, s11]) dX12_voice_28 (fun _ => ⟨rfl, rfl⟩) rfl (Nat.le_of_ble_eq_true rfl) rfl rfl ?_
  refine jb_aload_n (pc' := 32) dX12_voice_31 rfl rfl ?_
  refine jb_iload_n (pc' := 33) dX12_voice_32 rfl rfl ?_
  refine pf_X12_262 (pc' := 36) (h' := [s0, s1, s2, s3, s4, s5, s6, s7, s8, s9, jb_mdl (upd (upd I 3 0) 4 (nI p)) J d e kp nm W, s11]) dX12_voice_33 (fun _ => ⟨rfl, rfl⟩) rfl (Nat.le_of_ble_eq_true rfl) rfl rfl ?_
  refine jb_aload_n (pc' := 37) dX12_voice_36 rfl rfl ?_
  refine jb_callV (pc' := 40) (ci := 12) (q := 105) (As := []) (a2 := 0) (b2 := 0) wv_X12_271 rfl dX12_voice_37 (c_own (upd (upd I 3 0) 4 (nI p)) J d e kp nm W hd0 hk0 p hp rfl) rfl rfl ⟨by decide, Nat.le_of_eq (Nat.zero_add _), Nat.le_of_eq (Nat.zero_add _)⟩ (Nat.le_of_ble_eq_true rfl) rfl (fun r h9 hq => ?_)
  obtain ⟨rfl, rfl⟩ := hq
  rw [hkd]
  show jb_J _ RX12 cX12_voice 5 (Option.some .int) false 7 0 0 40 [some (.ref 105), some (.int (nI p)), some (.int 1), some (.int x), none] [.int 5] [s0, s1, s2, s3, s4, s5, s6, s7, s8, s9, jb_mdl (upd (upd I 3 0) 4 (nI p)) J d e kp nm W, s11] _
  refine jb_istore_ (pc' := 42) dX12_voice_40 (by decide) (jb_at4 rfl) rfl ?_
  refine jb_iload_n (pc' := 43) dX12_voice_42 rfl rfl ?_
  refine jb_if_ne (tgt := 56) (pc' := 46) dX12_voice_43 (by decide) rfl (fun _ => ?_) (fun z => absurd z (by decide))
  refine jb_iload_n (pc' := 57) dX12_voice_56 rfl rfl ?_
  refine jb_iconst (pc' := 58) 1 dX12_voice_57 (by decide) rfl ?_
  refine jb_icmp_ne (tgt := 71) (pc' := 61) dX12_voice_58 (by decide) rfl (fun z => absurd (by decide) z) (fun _ => ?_)
  refine jb_aload_n (pc' := 62) dX12_voice_61 rfl rfl ?_
  refine jb_iload (pc' := 64) dX12_voice_62 rfl rfl ?_
  refine jb_iload_n (pc' := 65) dX12_voice_64 rfl rfl ?_
  refine jb_callV (pc' := 68) (ci := 12) (q := 105) (As := [.int 5, .int x]) (a2 := 0) (b2 := 0) wv_X12_274 rfl dX12_voice_65 (cm_hears_5_5 (upd (upd I 3 0) 4 (nI p)) J d e kp nm W hd0 hk0 p hp hkd rfl 0 rfl (by omega) x) rfl rfl ⟨by decide, Nat.le_of_eq (Nat.zero_add _), Nat.le_of_eq (Nat.zero_add _)⟩ (Nat.le_of_ble_eq_true rfl) rfl (fun r h9 hq => ?_)
  obtain ⟨rfl, I9, W9, hI9, h39, hW9, hT9, rfl⟩ := hq
  show jb_J _ RX12 cX12_voice 5 (Option.some .int) false 7 0 0 68 [some (.ref 105), some (.int (nI p)), some (.int 1), some (.int x), some (.int 5)] [.int ((((x) + (nI p)) * 3) * 2)] [s0, s1, s2, s3, s4, s5, s6, s7, s8, s9, jb_mdl I9 J d e kp nm W9, s11] _
  refine jb_goto (pc' := 93) dX12_voice_68 (by decide) ?_
  refine jb_iret dX12_voice_93 rfl ?_
  exact ⟨rfl, I9, W9, hI9 0 (by decide), by rw [h39], hW9, hT9, rfl⟩
set_option maxRecDepth 100000 in
set_option maxHeartbeats 4000000 in
theorem mx_voice2_5 {sc : Nat × (Nat → Int32)} {s0 s1 s2 s3 s4 s5 s6 s7 s8 s9 s11 : List va_E} {V : Nat → Nat → Nat} (I J d e kp nm : Nat → Int32) (W : Nat → Nat → Int32) (hd : jd_ V d) (hk : jv_ok V) (p : Nat) (hp : p < V 0 1) (hkd : V 1 p = 5) (x : Int32) : jb_C sc yX12_voice cX12_voice 5 (Option.some .int) 4 0 0 [.ref 105, .int (nI p), .int 2, .int x] [s0, s1, s2, s3, s4, s5, s6, s7, s8, s9, jb_mdl I J d e kp nm W, s11] (fun r h9 => r = some (.int ((x) - (nI (V 2 p)))) ∧ ∃ I9 W9, I9 0 = I 0 ∧ I9 3 = nI 1 ∧ (∀ r, ¬ r = 10 → W9 r = W r) ∧ W9 10 = jp_wr (W 10) 0 [12] ∧ h9 = [s0, s1, s2, s3, s4, s5, s6, s7, s8, s9, jb_mdl I9 J d e kp nm W9, s11]) := by
  refine jb_CofJ (ini := false) (by decide +kernel) (fun h => by cases h) (Nat.le_of_ble_eq_true rfl) ?_
  show jb_J sc RX12 cX12_voice 5 (Option.some .int) false 4 0 0 0 [some (.ref 105), some (.int (nI p)), some (.int 2), some (.int x), none] [] [s0, s1, s2, s3, s4, s5, s6, s7, s8, s9, jb_mdl I J d e kp nm W, s11] _
  have hd0 := hd
  have hk0 := hk
  obtain ⟨e0, e1, e2, e3, e4, e5, e6, dv, ds, dd⟩ := hd
  obtain ⟨k0, k1, k2, k3, k4, k5, k6, k7, kv, ks, kd⟩ := hk
  have q0 := kv p hp
  refine jb_aload_n (pc' := 1) dX12_voice_0 rfl rfl ?_
  refine jb_iload_n (pc' := 2) dX12_voice_1 rfl rfl ?_
  refine jb_callV (pc' := 5) (ci := 12) (q := 105) (As := [.int (nI p)]) (a2 := 0) (b2 := 0) wv_X12_149 rfl dX12_voice_2 (c_isVoiceG I J d e kp nm W hd0 hk0 p (by omega)) rfl rfl ⟨by decide, Nat.le_of_eq (Nat.zero_add _), Nat.le_of_eq (Nat.zero_add _)⟩ (Nat.le_of_ble_eq_true rfl) rfl (fun r h9 hq => ?_)
  obtain ⟨rfl, rfl⟩ := hq
  show jb_J _ RX12 cX12_voice 5 (Option.some .int) false 4 0 0 5 [some (.ref 105), some (.int (nI p)), some (.int 2), some (.int x), none] [.int 1] [s0, s1, s2, s3, s4, s5, s6, s7, s8, s9, jb_mdl I J d e kp nm W, s11] _
  refine jb_if_eq (tgt := 20) (pc' := 8) dX12_voice_5 (by decide) rfl (fun z => absurd z (by decide)) (fun _ => ?_)
  refine jb_iload_n (pc' := 9) dX12_voice_8 rfl rfl ?_
  refine jb_i2l (pc' := 10) dX12_voice_9 rfl ?_
  refine jb_lconst (pc' := 11) 0 dX12_voice_10 (by decide) rfl ?_
  refine jb_ldc2 (pc' := 14) 3 dX12_voice_11 wk_X12_152 rfl ?_
  refine jb_callS (pc' := 17) (As := [.long ((2 : Int32).toInt64), .long 0, .long 3]) (a2 := 0) (b2 := 0) wv_X12_56 dX12_voice_14 (c_inLG _ 2 0 3 (by omega) (by omega) (by omega)) rfl ⟨by decide, Nat.le_of_eq (Nat.zero_add _), Nat.le_of_eq (Nat.zero_add _)⟩ (Nat.le_of_ble_eq_true rfl) rfl (fun r h9 hq => ?_)
  obtain ⟨rfl, rfl⟩ := hq
  show jb_J _ RX12 cX12_voice 5 (Option.some .int) false 4 0 0 17 [some (.ref 105), some (.int (nI p)), some (.int 2), some (.int x), none] [.int 1] [s0, s1, s2, s3, s4, s5, s6, s7, s8, s9, jb_mdl I J d e kp nm W, s11] _
  refine jb_if_ne (tgt := 26) (pc' := 20) dX12_voice_17 (by decide) rfl (fun _ => ?_) (fun z => absurd z (by decide))
  refine jb_aload_n (pc' := 27) dX12_voice_26 rfl rfl ?_
  refine jb_iconst (pc' := 28) 0 dX12_voice_27 (by decide) rfl ?_
  refine pf_X12_259 (pc' := 31) (h' := [s0, s1, s2, s3, s4, s5, s6, s7, s8, s9, jb_mdl (upd I 3 0) J d e kp nm W, s11]) dX12_voice_28 (fun _ => ⟨rfl, rfl⟩) rfl (Nat.le_of_ble_eq_true rfl) rfl rfl ?_
  refine jb_aload_n (pc' := 32) dX12_voice_31 rfl rfl ?_
  refine jb_iload_n (pc' := 33) dX12_voice_32 rfl rfl ?_
  refine pf_X12_262 (pc' := 36) (h' := [s0, s1, s2, s3, s4, s5, s6, s7, s8, s9, jb_mdl (upd (upd I 3 0) 4 (nI p)) J d e kp nm W, s11]) dX12_voice_33 (fun _ => ⟨rfl, rfl⟩) rfl (Nat.le_of_ble_eq_true rfl) rfl rfl ?_
  refine jb_aload_n (pc' := 37) dX12_voice_36 rfl rfl ?_
  refine jb_callV (pc' := 40) (ci := 12) (q := 105) (As := []) (a2 := 0) (b2 := 0) wv_X12_271 rfl dX12_voice_37 (c_own (upd (upd I 3 0) 4 (nI p)) J d e kp nm W hd0 hk0 p hp rfl) rfl rfl ⟨by decide, Nat.le_of_eq (Nat.zero_add _), Nat.le_of_eq (Nat.zero_add _)⟩ (Nat.le_of_ble_eq_true rfl) rfl (fun r h9 hq => ?_)
  obtain ⟨rfl, rfl⟩ := hq
  rw [hkd]
  show jb_J _ RX12 cX12_voice 5 (Option.some .int) false 4 0 0 40 [some (.ref 105), some (.int (nI p)), some (.int 2), some (.int x), none] [.int 5] [s0, s1, s2, s3, s4, s5, s6, s7, s8, s9, jb_mdl (upd (upd I 3 0) 4 (nI p)) J d e kp nm W, s11] _
  refine jb_istore_ (pc' := 42) dX12_voice_40 (by decide) (jb_at4 rfl) rfl ?_
  refine jb_iload_n (pc' := 43) dX12_voice_42 rfl rfl ?_
  refine jb_if_ne (tgt := 56) (pc' := 46) dX12_voice_43 (by decide) rfl (fun _ => ?_) (fun z => absurd z (by decide))
  refine jb_iload_n (pc' := 57) dX12_voice_56 rfl rfl ?_
  refine jb_iconst (pc' := 58) 1 dX12_voice_57 (by decide) rfl ?_
  refine jb_icmp_ne (tgt := 71) (pc' := 61) dX12_voice_58 (by decide) rfl (fun _ => ?_) (fun z => absurd z (by decide))
  refine jb_iload_n (pc' := 72) dX12_voice_71 rfl rfl ?_
  refine jb_iconst (pc' := 73) 2 dX12_voice_72 (by decide) rfl ?_
  refine jb_icmp_ne (tgt := 86) (pc' := 76) dX12_voice_73 (by decide) rfl (fun z => absurd (by decide) z) (fun _ => ?_)
  refine jb_aload_n (pc' := 77) dX12_voice_76 rfl rfl ?_
  refine jb_iload (pc' := 79) dX12_voice_77 rfl rfl ?_
  refine jb_iload_n (pc' := 80) dX12_voice_79 rfl rfl ?_
  refine jb_callV (pc' := 83) (ci := 12) (q := 105) (As := [.int 5, .int x]) (a2 := 0) (b2 := 0) wv_X12_277 rfl dX12_voice_80 (cm_waits_5_5 (upd (upd I 3 0) 4 (nI p)) J d e kp nm W hd0 hk0 p hp hkd rfl 0 rfl (by omega) x) rfl rfl ⟨by decide, Nat.le_of_eq (Nat.zero_add _), Nat.le_of_eq (Nat.zero_add _)⟩ (Nat.le_of_ble_eq_true rfl) rfl (fun r h9 hq => ?_)
  obtain ⟨rfl, I9, W9, hI9, h39, hW9, hT9, rfl⟩ := hq
  show jb_J _ RX12 cX12_voice 5 (Option.some .int) false 4 0 0 83 [some (.ref 105), some (.int (nI p)), some (.int 2), some (.int x), some (.int 5)] [.int ((x) - (nI (V 2 p)))] [s0, s1, s2, s3, s4, s5, s6, s7, s8, s9, jb_mdl I9 J d e kp nm W9, s11] _
  refine jb_goto (pc' := 93) dX12_voice_83 (by decide) ?_
  refine jb_iret dX12_voice_93 rfl ?_
  exact ⟨rfl, I9, W9, hI9 0 (by decide), by rw [h39], hW9, hT9, rfl⟩
set_option maxRecDepth 100000 in
set_option maxHeartbeats 4000000 in
theorem mx_voice3_5 {sc : Nat × (Nat → Int32)} {s0 s1 s2 s3 s4 s5 s6 s7 s8 s9 s11 : List va_E} {V : Nat → Nat → Nat} (I J d e kp nm : Nat → Int32) (W : Nat → Nat → Int32) (hd : jd_ V d) (hk : jv_ok V) (p : Nat) (hp : p < V 0 1) (hkd : V 1 p = 5) (x : Int32) : jb_C sc yX12_voice cX12_voice 5 (Option.some .int) 10 0 0 [.ref 105, .int (nI p), .int 3, .int x] [s0, s1, s2, s3, s4, s5, s6, s7, s8, s9, jb_mdl I J d e kp nm W, s11] (fun r h9 => r = some (.int ((((((x) + (nI p)) * 3) * 2) ^^^ ((x) - (nI (V 2 p)))) - (((2) + (nI p)) * 3))) ∧ ∃ I9 W9, I9 0 = I 0 ∧ I9 3 = nI 8 ∧ (∀ r, ¬ r = 10 → W9 r = W r) ∧ W9 10 = jp_wr (W 10) 0 [60, 13, 11, 30, 10, 12, 30, 10] ∧ h9 = [s0, s1, s2, s3, s4, s5, s6, s7, s8, s9, jb_mdl I9 J d e kp nm W9, s11]) := by
  refine jb_CofJ (ini := false) (by decide +kernel) (fun h => by cases h) (Nat.le_of_ble_eq_true rfl) ?_
  show jb_J sc RX12 cX12_voice 5 (Option.some .int) false 10 0 0 0 [some (.ref 105), some (.int (nI p)), some (.int 3), some (.int x), none] [] [s0, s1, s2, s3, s4, s5, s6, s7, s8, s9, jb_mdl I J d e kp nm W, s11] _
  have hd0 := hd
  have hk0 := hk
  obtain ⟨e0, e1, e2, e3, e4, e5, e6, dv, ds, dd⟩ := hd
  obtain ⟨k0, k1, k2, k3, k4, k5, k6, k7, kv, ks, kd⟩ := hk
  have q0 := kv p hp
  refine jb_aload_n (pc' := 1) dX12_voice_0 rfl rfl ?_
  refine jb_iload_n (pc' := 2) dX12_voice_1 rfl rfl ?_
  refine jb_callV (pc' := 5) (ci := 12) (q := 105) (As := [.int (nI p)]) (a2 := 0) (b2 := 0) wv_X12_149 rfl dX12_voice_2 (c_isVoiceG I J d e kp nm W hd0 hk0 p (by omega)) rfl rfl ⟨by decide, Nat.le_of_eq (Nat.zero_add _), Nat.le_of_eq (Nat.zero_add _)⟩ (Nat.le_of_ble_eq_true rfl) rfl (fun r h9 hq => ?_)
  obtain ⟨rfl, rfl⟩ := hq
  show jb_J _ RX12 cX12_voice 5 (Option.some .int) false 10 0 0 5 [some (.ref 105), some (.int (nI p)), some (.int 3), some (.int x), none] [.int 1] [s0, s1, s2, s3, s4, s5, s6, s7, s8, s9, jb_mdl I J d e kp nm W, s11] _
  refine jb_if_eq (tgt := 20) (pc' := 8) dX12_voice_5 (by decide) rfl (fun z => absurd z (by decide)) (fun _ => ?_)
  refine jb_iload_n (pc' := 9) dX12_voice_8 rfl rfl ?_
  refine jb_i2l (pc' := 10) dX12_voice_9 rfl ?_
  refine jb_lconst (pc' := 11) 0 dX12_voice_10 (by decide) rfl ?_
  refine jb_ldc2 (pc' := 14) 3 dX12_voice_11 wk_X12_152 rfl ?_
  refine jb_callS (pc' := 17) (As := [.long ((3 : Int32).toInt64), .long 0, .long 3]) (a2 := 0) (b2 := 0) wv_X12_56 dX12_voice_14 (c_inLG _ 3 0 3 (by omega) (by omega) (by omega)) rfl ⟨by decide, Nat.le_of_eq (Nat.zero_add _), Nat.le_of_eq (Nat.zero_add _)⟩ (Nat.le_of_ble_eq_true rfl) rfl (fun r h9 hq => ?_)
  obtain ⟨rfl, rfl⟩ := hq
  show jb_J _ RX12 cX12_voice 5 (Option.some .int) false 10 0 0 17 [some (.ref 105), some (.int (nI p)), some (.int 3), some (.int x), none] [.int 1] [s0, s1, s2, s3, s4, s5, s6, s7, s8, s9, jb_mdl I J d e kp nm W, s11] _
  refine jb_if_ne (tgt := 26) (pc' := 20) dX12_voice_17 (by decide) rfl (fun _ => ?_) (fun z => absurd z (by decide))
  refine jb_aload_n (pc' := 27) dX12_voice_26 rfl rfl ?_
  refine jb_iconst (pc' := 28) 0 dX12_voice_27 (by decide) rfl ?_
  refine pf_X12_259 (pc' := 31) (h' := [s0, s1, s2, s3, s4, s5, s6, s7, s8, s9, jb_mdl (upd I 3 0) J d e kp nm W, s11]) dX12_voice_28 (fun _ => ⟨rfl, rfl⟩) rfl (Nat.le_of_ble_eq_true rfl) rfl rfl ?_
  refine jb_aload_n (pc' := 32) dX12_voice_31 rfl rfl ?_
  refine jb_iload_n (pc' := 33) dX12_voice_32 rfl rfl ?_
  refine pf_X12_262 (pc' := 36) (h' := [s0, s1, s2, s3, s4, s5, s6, s7, s8, s9, jb_mdl (upd (upd I 3 0) 4 (nI p)) J d e kp nm W, s11]) dX12_voice_33 (fun _ => ⟨rfl, rfl⟩) rfl (Nat.le_of_ble_eq_true rfl) rfl rfl ?_
  refine jb_aload_n (pc' := 37) dX12_voice_36 rfl rfl ?_
  refine jb_callV (pc' := 40) (ci := 12) (q := 105) (As := []) (a2 := 0) (b2 := 0) wv_X12_271 rfl dX12_voice_37 (c_own (upd (upd I 3 0) 4 (nI p)) J d e kp nm W hd0 hk0 p hp rfl) rfl rfl ⟨by decide, Nat.le_of_eq (Nat.zero_add _), Nat.le_of_eq (Nat.zero_add _)⟩ (Nat.le_of_ble_eq_true rfl) rfl (fun r h9 hq => ?_)
  obtain ⟨rfl, rfl⟩ := hq
  rw [hkd]
  show jb_J _ RX12 cX12_voice 5 (Option.some .int) false 10 0 0 40 [some (.ref 105), some (.int (nI p)), some (.int 3), some (.int x), none] [.int 5] [s0, s1, s2, s3, s4, s5, s6, s7, s8, s9, jb_mdl (upd (upd I 3 0) 4 (nI p)) J d e kp nm W, s11] _
  refine jb_istore_ (pc' := 42) dX12_voice_40 (by decide) (jb_at4 rfl) rfl ?_
  refine jb_iload_n (pc' := 43) dX12_voice_42 rfl rfl ?_
  refine jb_if_ne (tgt := 56) (pc' := 46) dX12_voice_43 (by decide) rfl (fun _ => ?_) (fun z => absurd z (by decide))
  refine jb_iload_n (pc' := 57) dX12_voice_56 rfl rfl ?_
  refine jb_iconst (pc' := 58) 1 dX12_voice_57 (by decide) rfl ?_
  refine jb_icmp_ne (tgt := 71) (pc' := 61) dX12_voice_58 (by decide) rfl (fun _ => ?_) (fun z => absurd z (by decide))
  refine jb_iload_n (pc' := 72) dX12_voice_71 rfl rfl ?_
  refine jb_iconst (pc' := 73) 2 dX12_voice_72 (by decide) rfl ?_
  refine jb_icmp_ne (tgt := 86) (pc' := 76) dX12_voice_73 (by decide) rfl (fun _ => ?_) (fun z => absurd z (by decide))
  refine jb_aload_n (pc' := 87) dX12_voice_86 rfl rfl ?_
  refine jb_iload (pc' := 89) dX12_voice_87 rfl rfl ?_
  refine jb_iload_n (pc' := 90) dX12_voice_89 rfl rfl ?_
  refine jb_callV (pc' := 93) (ci := 12) (q := 105) (As := [.int 5, .int x]) (a2 := 0) (b2 := 0) wv_X12_280 rfl dX12_voice_90 (cm_tells_5_5 (upd (upd I 3 0) 4 (nI p)) J d e kp nm W hd0 hk0 p hp hkd rfl 0 rfl (by omega) x) rfl rfl ⟨by decide, Nat.le_of_eq (Nat.zero_add _), Nat.le_of_eq (Nat.zero_add _)⟩ (Nat.le_of_ble_eq_true rfl) rfl (fun r h9 hq => ?_)
  obtain ⟨rfl, I9, W9, hI9, h39, hW9, hT9, rfl⟩ := hq
  show jb_J _ RX12 cX12_voice 5 (Option.some .int) false 10 0 0 93 [some (.ref 105), some (.int (nI p)), some (.int 3), some (.int x), some (.int 5)] [.int ((((((x) + (nI p)) * 3) * 2) ^^^ ((x) - (nI (V 2 p)))) - (((2) + (nI p)) * 3))] [s0, s1, s2, s3, s4, s5, s6, s7, s8, s9, jb_mdl I9 J d e kp nm W9, s11] _
  refine jb_iret dX12_voice_93 rfl ?_
  exact ⟨rfl, I9, W9, hI9 0 (by decide), by rw [h39], hW9, hT9, rfl⟩
set_option maxRecDepth 100000 in
set_option maxHeartbeats 4000000 in
theorem cm_calls_0_6 {sc : Nat × (Nat → Int32)} {s0 s1 s2 s3 s4 s5 s6 s7 s8 s9 s11 : List va_E} {V : Nat → Nat → Nat} (I J d e kp nm : Nat → Int32) (W : Nat → Nat → Int32) (hd : jd_ V d) (hk : jv_ok V) (p : Nat) (hp : p < V 0 1) (hkd : V 1 p = 6) (h4 : I 4 = nI p) (t9 : Nat) (h3 : I 3 = nI t9) (ht : t9 + 1 ≤ 40) (x : Int32) : jb_C sc yX12_calls cX12_calls 3 (Option.some .int) 1 0 0 [.ref 105, .int 0, .int x] [s0, s1, s2, s3, s4, s5, s6, s7, s8, s9, jb_mdl I J d e kp nm W, s11] (fun r h9 => r = some (.int ((x) + (nI p))) ∧ ∃ I9 W9, (∀ j, ¬ j = 3 → I9 j = I j) ∧ I9 3 = nI (t9 + 1) ∧ (∀ r, ¬ r = 10 → W9 r = W r) ∧ W9 10 = jp_wr (W 10) t9 [10] ∧ h9 = [s0, s1, s2, s3, s4, s5, s6, s7, s8, s9, jb_mdl I9 J d e kp nm W9, s11]) := by
  refine jb_CofJ (ini := false) (by decide +kernel) (fun h => by cases h) (Nat.le_of_ble_eq_true rfl) ?_
  show jb_J sc RX12 cX12_calls 3 (Option.some .int) false 1 0 0 0 [some (.ref 105), some (.int 0), some (.int x)] [] [s0, s1, s2, s3, s4, s5, s6, s7, s8, s9, jb_mdl I J d e kp nm W, s11] _
  have gI0 : ∀ j, ¬ j = 3 → I j = I j := fun _ _ => rfl
  have gW0 : ∀ r, ¬ r = 10 → W r = W r := fun _ _ => rfl
  have gT0 : W 10 = jp_wr (W 10) t9 [] := rfl
  refine jb_iload_n (pc' := 1) dX12_calls_0 rfl rfl ?_
  refine jb_lookup (pc' := 28) (off := 27) dX12_calls_1 (by decide +kernel) (by decide +kernel) (by decide) ?_
  refine jb_aload_n (pc' := 29) dX12_calls_28 rfl rfl ?_
  refine jb_bipush (pc' := 31) 10 dX12_calls_29 (by decide) rfl ?_
  refine jb_callV (pc' := 34) (ci := 12) (q := 105) (As := [.int 10]) (a2 := 0) (b2 := 0) wv_X12_265 rfl dX12_calls_31 (c_ran I J d e kp nm W t9 h3 (by omega) 10) rfl rfl ⟨by decide, Nat.le_of_eq (Nat.zero_add _), Nat.le_of_eq (Nat.zero_add _)⟩ (Nat.le_of_ble_eq_true rfl) rfl (fun r h9 hq => ?_)
  obtain ⟨rfl, I1, W1, hI1, h31, hW1, hT1, rfl⟩ := hq
  have gI1 : ∀ j, ¬ j = 3 → I1 j = I j := fun j hj => (hI1 j hj).trans (gI0 j hj)
  have gW1 : ∀ r, ¬ r = 10 → W1 r = W r := fun r hr => (hW1 r hr).trans (gW0 r hr)
  have gT1 : W1 10 = jp_wr (W 10) t9 [10] := hT1.trans (by first | rfl | (rw [gT0]; done) | (rw [gT0]; rfl))
  show jb_J _ RX12 cX12_calls 3 (Option.some .int) false 1 0 0 34 [some (.ref 105), some (.int 0), some (.int x)] [] [s0, s1, s2, s3, s4, s5, s6, s7, s8, s9, jb_mdl I1 J d e kp nm W1, s11] _
  refine jb_iload_n (pc' := 35) dX12_calls_34 rfl rfl ?_
  refine jb_aload_n (pc' := 36) dX12_calls_35 rfl rfl ?_
  refine gf_X12_262 (pc' := 39) (v := .int (I1 4)) dX12_calls_36 rfl rfl rfl ?_
  refine jb_top (v := .int (I1 4)) (w := .int (nI p)) (jb_vI ((gI1 4 (by decide)).trans h4)) ?_
  refine jb_iadd (pc' := 40) dX12_calls_39 rfl ?_
  refine jb_iret dX12_calls_40 rfl ?_
  exact ⟨rfl, I1, W1, gI1, h31, gW1, gT1, rfl⟩
set_option maxRecDepth 100000 in
set_option maxHeartbeats 4000000 in
theorem cm_calls_3_6 {sc : Nat × (Nat → Int32)} {s0 s1 s2 s3 s4 s5 s6 s7 s8 s9 s11 : List va_E} {V : Nat → Nat → Nat} (I J d e kp nm : Nat → Int32) (W : Nat → Nat → Int32) (hd : jd_ V d) (hk : jv_ok V) (p : Nat) (hp : p < V 0 1) (hkd : V 1 p = 6) (h4 : I 4 = nI p) (t9 : Nat) (h3 : I 3 = nI t9) (ht : t9 + 1 ≤ 40) (x : Int32) : jb_C sc yX12_calls cX12_calls 3 (Option.some .int) 2 0 0 [.ref 105, .int 3, .int x] [s0, s1, s2, s3, s4, s5, s6, s7, s8, s9, jb_mdl I J d e kp nm W, s11] (fun r h9 => r = some (.int ((x) + (nI p))) ∧ ∃ I9 W9, (∀ j, ¬ j = 3 → I9 j = I j) ∧ I9 3 = nI (t9 + 1) ∧ (∀ r, ¬ r = 10 → W9 r = W r) ∧ W9 10 = jp_wr (W 10) t9 [10] ∧ h9 = [s0, s1, s2, s3, s4, s5, s6, s7, s8, s9, jb_mdl I9 J d e kp nm W9, s11]) := by
  refine jb_CofJ (ini := false) (by decide +kernel) (fun h => by cases h) (Nat.le_of_ble_eq_true rfl) ?_
  show jb_J sc RX12 cX12_calls 3 (Option.some .int) false 2 0 0 0 [some (.ref 105), some (.int 3), some (.int x)] [] [s0, s1, s2, s3, s4, s5, s6, s7, s8, s9, jb_mdl I J d e kp nm W, s11] _
  have gI0 : ∀ j, ¬ j = 3 → I j = I j := fun _ _ => rfl
  have gW0 : ∀ r, ¬ r = 10 → W r = W r := fun _ _ => rfl
  have gT0 : W 10 = jp_wr (W 10) t9 [] := rfl
  refine jb_iload_n (pc' := 1) dX12_calls_0 rfl rfl ?_
  refine jb_lookup (pc' := 59) (off := 58) dX12_calls_1 (by decide +kernel) (by decide +kernel) (by decide) ?_
  refine jb_aload_n (pc' := 60) dX12_calls_59 rfl rfl ?_
  refine jb_iload_n (pc' := 61) dX12_calls_60 rfl rfl ?_
  refine jb_callS (pc' := 64) (As := [.int 3]) (a2 := 0) (b2 := 0) wv_X12_168 dX12_calls_61 (c_above 3 (by decide)) rfl ⟨by decide, Nat.le_of_eq (Nat.zero_add _), Nat.le_of_eq (Nat.zero_add _)⟩ (Nat.le_of_ble_eq_true rfl) rfl (fun r h9 hq => ?_)
  obtain ⟨rfl, rfl⟩ := hq
  show jb_J _ RX12 cX12_calls 3 (Option.some .int) false 2 0 0 64 [some (.ref 105), some (.int 3), some (.int x)] [.int 0, .ref 105] [s0, s1, s2, s3, s4, s5, s6, s7, s8, s9, jb_mdl I J d e kp nm W, s11] _
  refine jb_iload_n (pc' := 65) dX12_calls_64 rfl rfl ?_
  refine jb_callV (pc' := 68) (ci := 12) (q := 105) (As := [.int 0, .int x]) (a2 := 0) (b2 := 0) wv_X12_268 rfl dX12_calls_65 (cm_calls_0_6 I J d e kp nm W hd hk p hp hkd ((gI0 4 (by decide)).trans h4) t9 h3 (by omega) x) rfl rfl ⟨by decide, Nat.le_of_eq (Nat.zero_add _), Nat.le_of_eq (Nat.zero_add _)⟩ (Nat.le_of_ble_eq_true rfl) rfl (fun r h9 hq => ?_)
  obtain ⟨rfl, I1, W1, hI1, h31, hW1, hT1, rfl⟩ := hq
  have gI1 : ∀ j, ¬ j = 3 → I1 j = I j := fun j hj => (hI1 j hj).trans (gI0 j hj)
  have gW1 : ∀ r, ¬ r = 10 → W1 r = W r := fun r hr => (hW1 r hr).trans (gW0 r hr)
  have gT1 : W1 10 = jp_wr (W 10) t9 [10] := hT1.trans (by first | rfl | (rw [gT0]; done) | (rw [gT0]; rfl))
  show jb_J _ RX12 cX12_calls 3 (Option.some .int) false 2 0 0 68 [some (.ref 105), some (.int 3), some (.int x)] [.int ((x) + (nI p))] [s0, s1, s2, s3, s4, s5, s6, s7, s8, s9, jb_mdl I1 J d e kp nm W1, s11] _
  refine jb_iret dX12_calls_68 rfl ?_
  exact ⟨rfl, I1, W1, gI1, h31, gW1, gT1, rfl⟩
set_option maxRecDepth 100000 in
set_option maxHeartbeats 4000000 in
theorem cm_calls_6_6 {sc : Nat × (Nat → Int32)} {s0 s1 s2 s3 s4 s5 s6 s7 s8 s9 s11 : List va_E} {V : Nat → Nat → Nat} (I J d e kp nm : Nat → Int32) (W : Nat → Nat → Int32) (hd : jd_ V d) (hk : jv_ok V) (p : Nat) (hp : p < V 0 1) (hkd : V 1 p = 6) (h4 : I 4 = nI p) (t9 : Nat) (h3 : I 3 = nI t9) (ht : t9 + 1 ≤ 40) (x : Int32) : jb_C sc yX12_calls cX12_calls 3 (Option.some .int) 3 0 0 [.ref 105, .int 6, .int x] [s0, s1, s2, s3, s4, s5, s6, s7, s8, s9, jb_mdl I J d e kp nm W, s11] (fun r h9 => r = some (.int ((x) + (nI p))) ∧ ∃ I9 W9, (∀ j, ¬ j = 3 → I9 j = I j) ∧ I9 3 = nI (t9 + 1) ∧ (∀ r, ¬ r = 10 → W9 r = W r) ∧ W9 10 = jp_wr (W 10) t9 [10] ∧ h9 = [s0, s1, s2, s3, s4, s5, s6, s7, s8, s9, jb_mdl I9 J d e kp nm W9, s11]) := by
  refine jb_CofJ (ini := false) (by decide +kernel) (fun h => by cases h) (Nat.le_of_ble_eq_true rfl) ?_
  show jb_J sc RX12 cX12_calls 3 (Option.some .int) false 3 0 0 0 [some (.ref 105), some (.int 6), some (.int x)] [] [s0, s1, s2, s3, s4, s5, s6, s7, s8, s9, jb_mdl I J d e kp nm W, s11] _
  have gI0 : ∀ j, ¬ j = 3 → I j = I j := fun _ _ => rfl
  have gW0 : ∀ r, ¬ r = 10 → W r = W r := fun _ _ => rfl
  have gT0 : W 10 = jp_wr (W 10) t9 [] := rfl
  refine jb_iload_n (pc' := 1) dX12_calls_0 rfl rfl ?_
  refine jb_lookup (pc' := 59) (off := 58) dX12_calls_1 (by decide +kernel) (by decide +kernel) (by decide) ?_
  refine jb_aload_n (pc' := 60) dX12_calls_59 rfl rfl ?_
  refine jb_iload_n (pc' := 61) dX12_calls_60 rfl rfl ?_
  refine jb_callS (pc' := 64) (As := [.int 6]) (a2 := 0) (b2 := 0) wv_X12_168 dX12_calls_61 (c_above 6 (by decide)) rfl ⟨by decide, Nat.le_of_eq (Nat.zero_add _), Nat.le_of_eq (Nat.zero_add _)⟩ (Nat.le_of_ble_eq_true rfl) rfl (fun r h9 hq => ?_)
  obtain ⟨rfl, rfl⟩ := hq
  show jb_J _ RX12 cX12_calls 3 (Option.some .int) false 3 0 0 64 [some (.ref 105), some (.int 6), some (.int x)] [.int 3, .ref 105] [s0, s1, s2, s3, s4, s5, s6, s7, s8, s9, jb_mdl I J d e kp nm W, s11] _
  refine jb_iload_n (pc' := 65) dX12_calls_64 rfl rfl ?_
  refine jb_callV (pc' := 68) (ci := 12) (q := 105) (As := [.int 3, .int x]) (a2 := 0) (b2 := 0) wv_X12_268 rfl dX12_calls_65 (cm_calls_3_6 I J d e kp nm W hd hk p hp hkd ((gI0 4 (by decide)).trans h4) t9 h3 (by omega) x) rfl rfl ⟨by decide, Nat.le_of_eq (Nat.zero_add _), Nat.le_of_eq (Nat.zero_add _)⟩ (Nat.le_of_ble_eq_true rfl) rfl (fun r h9 hq => ?_)
  obtain ⟨rfl, I1, W1, hI1, h31, hW1, hT1, rfl⟩ := hq
  have gI1 : ∀ j, ¬ j = 3 → I1 j = I j := fun j hj => (hI1 j hj).trans (gI0 j hj)
  have gW1 : ∀ r, ¬ r = 10 → W1 r = W r := fun r hr => (hW1 r hr).trans (gW0 r hr)
  have gT1 : W1 10 = jp_wr (W 10) t9 [10] := hT1.trans (by first | rfl | (rw [gT0]; done) | (rw [gT0]; rfl))
  show jb_J _ RX12 cX12_calls 3 (Option.some .int) false 3 0 0 68 [some (.ref 105), some (.int 6), some (.int x)] [.int ((x) + (nI p))] [s0, s1, s2, s3, s4, s5, s6, s7, s8, s9, jb_mdl I1 J d e kp nm W1, s11] _
  refine jb_iret dX12_calls_68 rfl ?_
  exact ⟨rfl, I1, W1, gI1, h31, gW1, gT1, rfl⟩
set_option maxRecDepth 100000 in
set_option maxHeartbeats 4000000 in
theorem cm_waits_0_6 {sc : Nat × (Nat → Int32)} {s0 s1 s2 s3 s4 s5 s6 s7 s8 s9 s11 : List va_E} {V : Nat → Nat → Nat} (I J d e kp nm : Nat → Int32) (W : Nat → Nat → Int32) (hd : jd_ V d) (hk : jv_ok V) (p : Nat) (hp : p < V 0 1) (hkd : V 1 p = 6) (h4 : I 4 = nI p) (t9 : Nat) (h3 : I 3 = nI t9) (ht : t9 + 1 ≤ 40) (x : Int32) : jb_C sc yX12_waits cX12_waits 3 (Option.some .int) 1 0 0 [.ref 105, .int 0, .int x] [s0, s1, s2, s3, s4, s5, s6, s7, s8, s9, jb_mdl I J d e kp nm W, s11] (fun r h9 => r = some (.int ((x) - (nI (V 2 p)))) ∧ ∃ I9 W9, (∀ j, ¬ j = 3 → I9 j = I j) ∧ I9 3 = nI (t9 + 1) ∧ (∀ r, ¬ r = 10 → W9 r = W r) ∧ W9 10 = jp_wr (W 10) t9 [12] ∧ h9 = [s0, s1, s2, s3, s4, s5, s6, s7, s8, s9, jb_mdl I9 J d e kp nm W9, s11]) := by
  refine jb_CofJ (ini := false) (by decide +kernel) (fun h => by cases h) (Nat.le_of_ble_eq_true rfl) ?_
  show jb_J sc RX12 cX12_waits 3 (Option.some .int) false 1 0 0 0 [some (.ref 105), some (.int 0), some (.int x)] [] [s0, s1, s2, s3, s4, s5, s6, s7, s8, s9, jb_mdl I J d e kp nm W, s11] _
  have gI0 : ∀ j, ¬ j = 3 → I j = I j := fun _ _ => rfl
  have gW0 : ∀ r, ¬ r = 10 → W r = W r := fun _ _ => rfl
  have gT0 : W 10 = jp_wr (W 10) t9 [] := rfl
  refine jb_iload_n (pc' := 1) dX12_waits_0 rfl rfl ?_
  refine jb_lookup (pc' := 36) (off := 35) dX12_waits_1 (by decide +kernel) (by decide +kernel) (by decide) ?_
  refine jb_aload_n (pc' := 37) dX12_waits_36 rfl rfl ?_
  refine jb_bipush (pc' := 39) 12 dX12_waits_37 (by decide) rfl ?_
  refine jb_callV (pc' := 42) (ci := 12) (q := 105) (As := [.int 12]) (a2 := 0) (b2 := 0) wv_X12_265 rfl dX12_waits_39 (c_ran I J d e kp nm W t9 h3 (by omega) 12) rfl rfl ⟨by decide, Nat.le_of_eq (Nat.zero_add _), Nat.le_of_eq (Nat.zero_add _)⟩ (Nat.le_of_ble_eq_true rfl) rfl (fun r h9 hq => ?_)
  obtain ⟨rfl, I1, W1, hI1, h31, hW1, hT1, rfl⟩ := hq
  have gI1 : ∀ j, ¬ j = 3 → I1 j = I j := fun j hj => (hI1 j hj).trans (gI0 j hj)
  have gW1 : ∀ r, ¬ r = 10 → W1 r = W r := fun r hr => (hW1 r hr).trans (gW0 r hr)
  have gT1 : W1 10 = jp_wr (W 10) t9 [12] := hT1.trans (by first | rfl | (rw [gT0]; done) | (rw [gT0]; rfl))
  show jb_J _ RX12 cX12_waits 3 (Option.some .int) false 1 0 0 42 [some (.ref 105), some (.int 0), some (.int x)] [] [s0, s1, s2, s3, s4, s5, s6, s7, s8, s9, jb_mdl I1 J d e kp nm W1, s11] _
  refine jb_iload_n (pc' := 43) dX12_waits_42 rfl rfl ?_
  refine jb_aload_n (pc' := 44) dX12_waits_43 rfl rfl ?_
  refine jb_aload_n (pc' := 45) dX12_waits_44 rfl rfl ?_
  refine gf_X12_262 (pc' := 48) (v := .int (I1 4)) dX12_waits_45 rfl rfl rfl ?_
  refine jb_top (v := .int (I1 4)) (w := .int (nI p)) (jb_vI ((gI1 4 (by decide)).trans h4)) ?_
  refine jb_iconst (pc' := 49) 1 dX12_waits_48 (by decide) rfl ?_
  refine jb_callV (pc' := 52) (ci := 12) (q := 105) (As := [.int (nI p), .int 1]) (a2 := 0) (b2 := 0) wv_X12_145 rfl dX12_waits_49 (c_of1 I1 J d e kp nm W1 hd hk p hp) rfl rfl ⟨by decide, Nat.le_of_eq (Nat.zero_add _), Nat.le_of_eq (Nat.zero_add _)⟩ (Nat.le_of_ble_eq_true rfl) rfl (fun r h9 hq => ?_)
  obtain ⟨rfl, rfl⟩ := hq
  show jb_J _ RX12 cX12_waits 3 (Option.some .int) false 1 0 0 52 [some (.ref 105), some (.int 0), some (.int x)] [.int (nI (V 2 p)), .int x] [s0, s1, s2, s3, s4, s5, s6, s7, s8, s9, jb_mdl I1 J d e kp nm W1, s11] _
  refine jb_isub (pc' := 53) dX12_waits_52 rfl ?_
  refine jb_iret dX12_waits_53 rfl ?_
  exact ⟨rfl, I1, W1, gI1, h31, gW1, gT1, rfl⟩
set_option maxRecDepth 100000 in
set_option maxHeartbeats 4000000 in
theorem cm_waits_3_6 {sc : Nat × (Nat → Int32)} {s0 s1 s2 s3 s4 s5 s6 s7 s8 s9 s11 : List va_E} {V : Nat → Nat → Nat} (I J d e kp nm : Nat → Int32) (W : Nat → Nat → Int32) (hd : jd_ V d) (hk : jv_ok V) (p : Nat) (hp : p < V 0 1) (hkd : V 1 p = 6) (h4 : I 4 = nI p) (t9 : Nat) (h3 : I 3 = nI t9) (ht : t9 + 2 ≤ 40) (x : Int32) : jb_C sc yX12_waits cX12_waits 3 (Option.some .int) 2 0 0 [.ref 105, .int 3, .int x] [s0, s1, s2, s3, s4, s5, s6, s7, s8, s9, jb_mdl I J d e kp nm W, s11] (fun r h9 => r = some (.int (-((x) - (nI (V 2 p))))) ∧ ∃ I9 W9, (∀ j, ¬ j = 3 → I9 j = I j) ∧ I9 3 = nI (t9 + 2) ∧ (∀ r, ¬ r = 10 → W9 r = W r) ∧ W9 10 = jp_wr (W 10) t9 [40, 12] ∧ h9 = [s0, s1, s2, s3, s4, s5, s6, s7, s8, s9, jb_mdl I9 J d e kp nm W9, s11]) := by
  refine jb_CofJ (ini := false) (by decide +kernel) (fun h => by cases h) (Nat.le_of_ble_eq_true rfl) ?_
  show jb_J sc RX12 cX12_waits 3 (Option.some .int) false 2 0 0 0 [some (.ref 105), some (.int 3), some (.int x)] [] [s0, s1, s2, s3, s4, s5, s6, s7, s8, s9, jb_mdl I J d e kp nm W, s11] _
  have gI0 : ∀ j, ¬ j = 3 → I j = I j := fun _ _ => rfl
  have gW0 : ∀ r, ¬ r = 10 → W r = W r := fun _ _ => rfl
  have gT0 : W 10 = jp_wr (W 10) t9 [] := rfl
  refine jb_iload_n (pc' := 1) dX12_waits_0 rfl rfl ?_
  refine jb_lookup (pc' := 54) (off := 53) dX12_waits_1 (by decide +kernel) (by decide +kernel) (by decide) ?_
  refine jb_aload_n (pc' := 55) dX12_waits_54 rfl rfl ?_
  refine jb_bipush (pc' := 57) 40 dX12_waits_55 (by decide) rfl ?_
  refine jb_callV (pc' := 60) (ci := 12) (q := 105) (As := [.int 40]) (a2 := 0) (b2 := 0) wv_X12_265 rfl dX12_waits_57 (c_ran I J d e kp nm W t9 h3 (by omega) 40) rfl rfl ⟨by decide, Nat.le_of_eq (Nat.zero_add _), Nat.le_of_eq (Nat.zero_add _)⟩ (Nat.le_of_ble_eq_true rfl) rfl (fun r h9 hq => ?_)
  obtain ⟨rfl, I1, W1, hI1, h31, hW1, hT1, rfl⟩ := hq
  have gI1 : ∀ j, ¬ j = 3 → I1 j = I j := fun j hj => (hI1 j hj).trans (gI0 j hj)
  have gW1 : ∀ r, ¬ r = 10 → W1 r = W r := fun r hr => (hW1 r hr).trans (gW0 r hr)
  have gT1 : W1 10 = jp_wr (W 10) t9 [40] := hT1.trans (by first | rfl | (rw [gT0]; done) | (rw [gT0]; rfl))
  show jb_J _ RX12 cX12_waits 3 (Option.some .int) false 2 0 0 60 [some (.ref 105), some (.int 3), some (.int x)] [] [s0, s1, s2, s3, s4, s5, s6, s7, s8, s9, jb_mdl I1 J d e kp nm W1, s11] _
  refine jb_aload_n (pc' := 61) dX12_waits_60 rfl rfl ?_
  refine jb_iconst (pc' := 62) 3 dX12_waits_61 (by decide) rfl ?_
  refine jb_callS (pc' := 65) (As := [.int 3]) (a2 := 0) (b2 := 0) wv_X12_168 dX12_waits_62 (c_above 3 (by decide)) rfl ⟨by decide, Nat.le_of_eq (Nat.zero_add _), Nat.le_of_eq (Nat.zero_add _)⟩ (Nat.le_of_ble_eq_true rfl) rfl (fun r h9 hq => ?_)
  obtain ⟨rfl, rfl⟩ := hq
  show jb_J _ RX12 cX12_waits 3 (Option.some .int) false 2 0 0 65 [some (.ref 105), some (.int 3), some (.int x)] [.int 0, .ref 105] [s0, s1, s2, s3, s4, s5, s6, s7, s8, s9, jb_mdl I1 J d e kp nm W1, s11] _
  refine jb_iload_n (pc' := 66) dX12_waits_65 rfl rfl ?_
  refine jb_callV (pc' := 69) (ci := 12) (q := 105) (As := [.int 0, .int x]) (a2 := 0) (b2 := 0) wv_X12_277 rfl dX12_waits_66 (cm_waits_0_6 I1 J d e kp nm W1 hd hk p hp hkd ((gI1 4 (by decide)).trans h4) (t9 + 1) h31 (by omega) x) rfl rfl ⟨by decide, Nat.le_of_eq (Nat.zero_add _), Nat.le_of_eq (Nat.zero_add _)⟩ (Nat.le_of_ble_eq_true rfl) rfl (fun r h9 hq => ?_)
  obtain ⟨rfl, I2, W2, hI2, h32, hW2, hT2, rfl⟩ := hq
  have gI2 : ∀ j, ¬ j = 3 → I2 j = I j := fun j hj => (hI2 j hj).trans (gI1 j hj)
  have gW2 : ∀ r, ¬ r = 10 → W2 r = W r := fun r hr => (hW2 r hr).trans (gW1 r hr)
  have gT2 : W2 10 = jp_wr (W 10) t9 [40, 12] := hT2.trans (by first | rfl | (rw [gT1]; done) | (rw [gT1]; rfl))
  show jb_J _ RX12 cX12_waits 3 (Option.some .int) false 2 0 0 69 [some (.ref 105), some (.int 3), some (.int x)] [.int ((x) - (nI (V 2 p)))] [s0, s1, s2, s3, s4, s5, s6, s7, s8, s9, jb_mdl I2 J d e kp nm W2, s11] _
  refine jb_ineg (pc' := 70) dX12_waits_69 rfl ?_
  refine jb_iret dX12_waits_70 rfl ?_
  exact ⟨rfl, I2, W2, gI2, h32, gW2, gT2, rfl⟩
set_option maxRecDepth 100000 in
set_option maxHeartbeats 4000000 in
theorem cm_waits_6_6 {sc : Nat × (Nat → Int32)} {s0 s1 s2 s3 s4 s5 s6 s7 s8 s9 s11 : List va_E} {V : Nat → Nat → Nat} (I J d e kp nm : Nat → Int32) (W : Nat → Nat → Int32) (hd : jd_ V d) (hk : jv_ok V) (p : Nat) (hp : p < V 0 1) (hkd : V 1 p = 6) (h4 : I 4 = nI p) (t9 : Nat) (h3 : I 3 = nI t9) (ht : t9 + 3 ≤ 40) (x : Int32) : jb_C sc yX12_waits cX12_waits 3 (Option.some .int) 3 0 0 [.ref 105, .int 6, .int x] [s0, s1, s2, s3, s4, s5, s6, s7, s8, s9, jb_mdl I J d e kp nm W, s11] (fun r h9 => r = some (.int ((-((x) - (nI (V 2 p)))) ^^^ (nI p))) ∧ ∃ I9 W9, (∀ j, ¬ j = 3 → I9 j = I j) ∧ I9 3 = nI (t9 + 3) ∧ (∀ r, ¬ r = 10 → W9 r = W r) ∧ W9 10 = jp_wr (W 10) t9 [70, 40, 12] ∧ h9 = [s0, s1, s2, s3, s4, s5, s6, s7, s8, s9, jb_mdl I9 J d e kp nm W9, s11]) := by
  refine jb_CofJ (ini := false) (by decide +kernel) (fun h => by cases h) (Nat.le_of_ble_eq_true rfl) ?_
  show jb_J sc RX12 cX12_waits 3 (Option.some .int) false 3 0 0 0 [some (.ref 105), some (.int 6), some (.int x)] [] [s0, s1, s2, s3, s4, s5, s6, s7, s8, s9, jb_mdl I J d e kp nm W, s11] _
  have gI0 : ∀ j, ¬ j = 3 → I j = I j := fun _ _ => rfl
  have gW0 : ∀ r, ¬ r = 10 → W r = W r := fun _ _ => rfl
  have gT0 : W 10 = jp_wr (W 10) t9 [] := rfl
  refine jb_iload_n (pc' := 1) dX12_waits_0 rfl rfl ?_
  refine jb_lookup (pc' := 71) (off := 70) dX12_waits_1 (by decide +kernel) (by decide +kernel) (by decide) ?_
  refine jb_aload_n (pc' := 72) dX12_waits_71 rfl rfl ?_
  refine jb_bipush (pc' := 74) 70 dX12_waits_72 (by decide) rfl ?_
  refine jb_callV (pc' := 77) (ci := 12) (q := 105) (As := [.int 70]) (a2 := 0) (b2 := 0) wv_X12_265 rfl dX12_waits_74 (c_ran I J d e kp nm W t9 h3 (by omega) 70) rfl rfl ⟨by decide, Nat.le_of_eq (Nat.zero_add _), Nat.le_of_eq (Nat.zero_add _)⟩ (Nat.le_of_ble_eq_true rfl) rfl (fun r h9 hq => ?_)
  obtain ⟨rfl, I1, W1, hI1, h31, hW1, hT1, rfl⟩ := hq
  have gI1 : ∀ j, ¬ j = 3 → I1 j = I j := fun j hj => (hI1 j hj).trans (gI0 j hj)
  have gW1 : ∀ r, ¬ r = 10 → W1 r = W r := fun r hr => (hW1 r hr).trans (gW0 r hr)
  have gT1 : W1 10 = jp_wr (W 10) t9 [70] := hT1.trans (by first | rfl | (rw [gT0]; done) | (rw [gT0]; rfl))
  show jb_J _ RX12 cX12_waits 3 (Option.some .int) false 3 0 0 77 [some (.ref 105), some (.int 6), some (.int x)] [] [s0, s1, s2, s3, s4, s5, s6, s7, s8, s9, jb_mdl I1 J d e kp nm W1, s11] _
  refine jb_aload_n (pc' := 78) dX12_waits_77 rfl rfl ?_
  refine jb_bipush (pc' := 80) 6 dX12_waits_78 (by decide) rfl ?_
  refine jb_callS (pc' := 83) (As := [.int 6]) (a2 := 0) (b2 := 0) wv_X12_168 dX12_waits_80 (c_above 6 (by decide)) rfl ⟨by decide, Nat.le_of_eq (Nat.zero_add _), Nat.le_of_eq (Nat.zero_add _)⟩ (Nat.le_of_ble_eq_true rfl) rfl (fun r h9 hq => ?_)
  obtain ⟨rfl, rfl⟩ := hq
  show jb_J _ RX12 cX12_waits 3 (Option.some .int) false 3 0 0 83 [some (.ref 105), some (.int 6), some (.int x)] [.int 3, .ref 105] [s0, s1, s2, s3, s4, s5, s6, s7, s8, s9, jb_mdl I1 J d e kp nm W1, s11] _
  refine jb_iload_n (pc' := 84) dX12_waits_83 rfl rfl ?_
  refine jb_callV (pc' := 87) (ci := 12) (q := 105) (As := [.int 3, .int x]) (a2 := 0) (b2 := 0) wv_X12_277 rfl dX12_waits_84 (cm_waits_3_6 I1 J d e kp nm W1 hd hk p hp hkd ((gI1 4 (by decide)).trans h4) (t9 + 1) h31 (by omega) x) rfl rfl ⟨by decide, Nat.le_of_eq (Nat.zero_add _), Nat.le_of_eq (Nat.zero_add _)⟩ (Nat.le_of_ble_eq_true rfl) rfl (fun r h9 hq => ?_)
  obtain ⟨rfl, I2, W2, hI2, h32, hW2, hT2, rfl⟩ := hq
  have gI2 : ∀ j, ¬ j = 3 → I2 j = I j := fun j hj => (hI2 j hj).trans (gI1 j hj)
  have gW2 : ∀ r, ¬ r = 10 → W2 r = W r := fun r hr => (hW2 r hr).trans (gW1 r hr)
  have gT2 : W2 10 = jp_wr (W 10) t9 [70, 40, 12] := hT2.trans (by first | rfl | (rw [gT1]; done) | (rw [gT1]; rfl))
  show jb_J _ RX12 cX12_waits 3 (Option.some .int) false 3 0 0 87 [some (.ref 105), some (.int 6), some (.int x)] [.int (-((x) - (nI (V 2 p))))] [s0, s1, s2, s3, s4, s5, s6, s7, s8, s9, jb_mdl I2 J d e kp nm W2, s11] _
  refine jb_aload_n (pc' := 88) dX12_waits_87 rfl rfl ?_
  refine gf_X12_262 (pc' := 91) (v := .int (I2 4)) dX12_waits_88 rfl rfl rfl ?_
  refine jb_top (v := .int (I2 4)) (w := .int (nI p)) (jb_vI ((gI2 4 (by decide)).trans h4)) ?_
  refine jb_ixor (pc' := 92) dX12_waits_91 rfl ?_
  refine jb_iret dX12_waits_92 rfl ?_
  exact ⟨rfl, I2, W2, gI2, h32, gW2, gT2, rfl⟩
set_option maxRecDepth 100000 in
set_option maxHeartbeats 4000000 in
theorem cm_hears_0_6 {sc : Nat × (Nat → Int32)} {s0 s1 s2 s3 s4 s5 s6 s7 s8 s9 s11 : List va_E} {V : Nat → Nat → Nat} (I J d e kp nm : Nat → Int32) (W : Nat → Nat → Int32) (hd : jd_ V d) (hk : jv_ok V) (p : Nat) (hp : p < V 0 1) (hkd : V 1 p = 6) (h4 : I 4 = nI p) (t9 : Nat) (h3 : I 3 = nI t9) (ht : t9 + 2 ≤ 40) (x : Int32) : jb_C sc yX12_hears cX12_hears 4 (Option.some .int) 4 0 0 [.ref 105, .int 0, .int x] [s0, s1, s2, s3, s4, s5, s6, s7, s8, s9, jb_mdl I J d e kp nm W, s11] (fun r h9 => r = some (.int (((x) + (nI p)) * 2)) ∧ ∃ I9 W9, (∀ j, ¬ j = 3 → I9 j = I j) ∧ I9 3 = nI (t9 + 2) ∧ (∀ r, ¬ r = 10 → W9 r = W r) ∧ W9 10 = jp_wr (W 10) t9 [11, 10] ∧ h9 = [s0, s1, s2, s3, s4, s5, s6, s7, s8, s9, jb_mdl I9 J d e kp nm W9, s11]) := by
  refine jb_CofJ (ini := false) (by decide +kernel) (fun h => by cases h) (Nat.le_of_ble_eq_true rfl) ?_
  show jb_J sc RX12 cX12_hears 4 (Option.some .int) false 4 0 0 0 [some (.ref 105), some (.int 0), some (.int x), none] [] [s0, s1, s2, s3, s4, s5, s6, s7, s8, s9, jb_mdl I J d e kp nm W, s11] _
  have gI0 : ∀ j, ¬ j = 3 → I j = I j := fun _ _ => rfl
  have gW0 : ∀ r, ¬ r = 10 → W r = W r := fun _ _ => rfl
  have gT0 : W 10 = jp_wr (W 10) t9 [] := rfl
  refine jb_iload_n (pc' := 1) dX12_hears_0 rfl rfl ?_
  refine jb_tableIn (pc' := 36) (off := 35) dX12_hears_1 (by decide) (by decide) (by decide +kernel) (by decide) ?_
  refine jb_aload_n (pc' := 37) dX12_hears_36 rfl rfl ?_
  refine jb_bipush (pc' := 39) 11 dX12_hears_37 (by decide) rfl ?_
  refine jb_callV (pc' := 42) (ci := 12) (q := 105) (As := [.int 11]) (a2 := 0) (b2 := 0) wv_X12_265 rfl dX12_hears_39 (c_ran I J d e kp nm W t9 h3 (by omega) 11) rfl rfl ⟨by decide, Nat.le_of_eq (Nat.zero_add _), Nat.le_of_eq (Nat.zero_add _)⟩ (Nat.le_of_ble_eq_true rfl) rfl (fun r h9 hq => ?_)
  obtain ⟨rfl, I1, W1, hI1, h31, hW1, hT1, rfl⟩ := hq
  have gI1 : ∀ j, ¬ j = 3 → I1 j = I j := fun j hj => (hI1 j hj).trans (gI0 j hj)
  have gW1 : ∀ r, ¬ r = 10 → W1 r = W r := fun r hr => (hW1 r hr).trans (gW0 r hr)
  have gT1 : W1 10 = jp_wr (W 10) t9 [11] := hT1.trans (by first | rfl | (rw [gT0]; done) | (rw [gT0]; rfl))
  show jb_J _ RX12 cX12_hears 4 (Option.some .int) false 4 0 0 42 [some (.ref 105), some (.int 0), some (.int x), none] [] [s0, s1, s2, s3, s4, s5, s6, s7, s8, s9, jb_mdl I1 J d e kp nm W1, s11] _
  refine jb_aload_n (pc' := 43) dX12_hears_42 rfl rfl ?_
  refine jb_aload_n (pc' := 44) dX12_hears_43 rfl rfl ?_
  refine jb_callV (pc' := 47) (ci := 12) (q := 105) (As := []) (a2 := 0) (b2 := 0) wv_X12_271 rfl dX12_hears_44 (c_own I1 J d e kp nm W1 hd hk p hp ((gI1 4 (by decide)).trans h4)) rfl rfl ⟨by decide, Nat.le_of_eq (Nat.zero_add _), Nat.le_of_eq (Nat.zero_add _)⟩ (Nat.le_of_ble_eq_true rfl) rfl (fun r h9 hq => ?_)
  obtain ⟨rfl, rfl⟩ := hq
  rw [hkd]
  show jb_J _ RX12 cX12_hears 4 (Option.some .int) false 4 0 0 47 [some (.ref 105), some (.int 0), some (.int x), none] [.int 6, .ref 105] [s0, s1, s2, s3, s4, s5, s6, s7, s8, s9, jb_mdl I1 J d e kp nm W1, s11] _
  refine jb_iload_n (pc' := 48) dX12_hears_47 rfl rfl ?_
  refine jb_callV (pc' := 51) (ci := 12) (q := 105) (As := [.int 6, .int x]) (a2 := 0) (b2 := 0) wv_X12_268 rfl dX12_hears_48 (cm_calls_6_6 I1 J d e kp nm W1 hd hk p hp hkd ((gI1 4 (by decide)).trans h4) (t9 + 1) h31 (by omega) x) rfl rfl ⟨by decide, Nat.le_of_eq (Nat.zero_add _), Nat.le_of_eq (Nat.zero_add _)⟩ (Nat.le_of_ble_eq_true rfl) rfl (fun r h9 hq => ?_)
  obtain ⟨rfl, I2, W2, hI2, h32, hW2, hT2, rfl⟩ := hq
  have gI2 : ∀ j, ¬ j = 3 → I2 j = I j := fun j hj => (hI2 j hj).trans (gI1 j hj)
  have gW2 : ∀ r, ¬ r = 10 → W2 r = W r := fun r hr => (hW2 r hr).trans (gW1 r hr)
  have gT2 : W2 10 = jp_wr (W 10) t9 [11, 10] := hT2.trans (by first | rfl | (rw [gT1]; done) | (rw [gT1]; rfl))
  show jb_J _ RX12 cX12_hears 4 (Option.some .int) false 4 0 0 51 [some (.ref 105), some (.int 0), some (.int x), none] [.int ((x) + (nI p))] [s0, s1, s2, s3, s4, s5, s6, s7, s8, s9, jb_mdl I2 J d e kp nm W2, s11] _
  refine jb_iconst (pc' := 52) 2 dX12_hears_51 (by decide) rfl ?_
  refine jb_imul (pc' := 53) dX12_hears_52 rfl ?_
  refine jb_iret dX12_hears_53 rfl ?_
  exact ⟨rfl, I2, W2, gI2, h32, gW2, gT2, rfl⟩
set_option maxRecDepth 100000 in
set_option maxHeartbeats 4000000 in
theorem cm_hears_3_6 {sc : Nat × (Nat → Int32)} {s0 s1 s2 s3 s4 s5 s6 s7 s8 s9 s11 : List va_E} {V : Nat → Nat → Nat} (I J d e kp nm : Nat → Int32) (W : Nat → Nat → Int32) (hd : jd_ V d) (hk : jv_ok V) (p : Nat) (hp : p < V 0 1) (hkd : V 1 p = 6) (h4 : I 4 = nI p) (t9 : Nat) (h3 : I 3 = nI t9) (ht : t9 + 2 ≤ 40) (x : Int32) : jb_C sc yX12_hears cX12_hears 4 (Option.some .int) 5 0 0 [.ref 105, .int 3, .int x] [s0, s1, s2, s3, s4, s5, s6, s7, s8, s9, jb_mdl I J d e kp nm W, s11] (fun r h9 => r = some (.int (((x) + (nI p)) * 2)) ∧ ∃ I9 W9, (∀ j, ¬ j = 3 → I9 j = I j) ∧ I9 3 = nI (t9 + 2) ∧ (∀ r, ¬ r = 10 → W9 r = W r) ∧ W9 10 = jp_wr (W 10) t9 [11, 10] ∧ h9 = [s0, s1, s2, s3, s4, s5, s6, s7, s8, s9, jb_mdl I9 J d e kp nm W9, s11]) := by
  refine jb_CofJ (ini := false) (by decide +kernel) (fun h => by cases h) (Nat.le_of_ble_eq_true rfl) ?_
  show jb_J sc RX12 cX12_hears 4 (Option.some .int) false 5 0 0 0 [some (.ref 105), some (.int 3), some (.int x), none] [] [s0, s1, s2, s3, s4, s5, s6, s7, s8, s9, jb_mdl I J d e kp nm W, s11] _
  have gI0 : ∀ j, ¬ j = 3 → I j = I j := fun _ _ => rfl
  have gW0 : ∀ r, ¬ r = 10 → W r = W r := fun _ _ => rfl
  have gT0 : W 10 = jp_wr (W 10) t9 [] := rfl
  refine jb_iload_n (pc' := 1) dX12_hears_0 rfl rfl ?_
  refine jb_tableIn (pc' := 100) (off := 99) dX12_hears_1 (by decide) (by decide) (by decide +kernel) (by decide) ?_
  refine jb_aload_n (pc' := 101) dX12_hears_100 rfl rfl ?_
  refine jb_iload_n (pc' := 102) dX12_hears_101 rfl rfl ?_
  refine jb_callS (pc' := 105) (As := [.int 3]) (a2 := 0) (b2 := 0) wv_X12_168 dX12_hears_102 (c_above 3 (by decide)) rfl ⟨by decide, Nat.le_of_eq (Nat.zero_add _), Nat.le_of_eq (Nat.zero_add _)⟩ (Nat.le_of_ble_eq_true rfl) rfl (fun r h9 hq => ?_)
  obtain ⟨rfl, rfl⟩ := hq
  show jb_J _ RX12 cX12_hears 4 (Option.some .int) false 5 0 0 105 [some (.ref 105), some (.int 3), some (.int x), none] [.int 0, .ref 105] [s0, s1, s2, s3, s4, s5, s6, s7, s8, s9, jb_mdl I J d e kp nm W, s11] _
  refine jb_iload_n (pc' := 106) dX12_hears_105 rfl rfl ?_
  refine jb_callV (pc' := 109) (ci := 12) (q := 105) (As := [.int 0, .int x]) (a2 := 0) (b2 := 0) wv_X12_274 rfl dX12_hears_106 (cm_hears_0_6 I J d e kp nm W hd hk p hp hkd ((gI0 4 (by decide)).trans h4) t9 h3 (by omega) x) rfl rfl ⟨by decide, Nat.le_of_eq (Nat.zero_add _), Nat.le_of_eq (Nat.zero_add _)⟩ (Nat.le_of_ble_eq_true rfl) rfl (fun r h9 hq => ?_)
  obtain ⟨rfl, I1, W1, hI1, h31, hW1, hT1, rfl⟩ := hq
  have gI1 : ∀ j, ¬ j = 3 → I1 j = I j := fun j hj => (hI1 j hj).trans (gI0 j hj)
  have gW1 : ∀ r, ¬ r = 10 → W1 r = W r := fun r hr => (hW1 r hr).trans (gW0 r hr)
  have gT1 : W1 10 = jp_wr (W 10) t9 [11, 10] := hT1.trans (by first | rfl | (rw [gT0]; done) | (rw [gT0]; rfl))
  show jb_J _ RX12 cX12_hears 4 (Option.some .int) false 5 0 0 109 [some (.ref 105), some (.int 3), some (.int x), none] [.int (((x) + (nI p)) * 2)] [s0, s1, s2, s3, s4, s5, s6, s7, s8, s9, jb_mdl I1 J d e kp nm W1, s11] _
  refine jb_iret dX12_hears_109 rfl ?_
  exact ⟨rfl, I1, W1, gI1, h31, gW1, gT1, rfl⟩
set_option maxRecDepth 100000 in
set_option maxHeartbeats 4000000 in
theorem cm_hears_6_6 {sc : Nat × (Nat → Int32)} {s0 s1 s2 s3 s4 s5 s6 s7 s8 s9 s11 : List va_E} {V : Nat → Nat → Nat} (I J d e kp nm : Nat → Int32) (W : Nat → Nat → Int32) (hd : jd_ V d) (hk : jv_ok V) (p : Nat) (hp : p < V 0 1) (hkd : V 1 p = 6) (h4 : I 4 = nI p) (t9 : Nat) (h3 : I 3 = nI t9) (ht : t9 + 2 ≤ 40) (x : Int32) : jb_C sc yX12_hears cX12_hears 4 (Option.some .int) 6 0 0 [.ref 105, .int 6, .int x] [s0, s1, s2, s3, s4, s5, s6, s7, s8, s9, jb_mdl I J d e kp nm W, s11] (fun r h9 => r = some (.int (((x) + (nI p)) * 2)) ∧ ∃ I9 W9, (∀ j, ¬ j = 3 → I9 j = I j) ∧ I9 3 = nI (t9 + 2) ∧ (∀ r, ¬ r = 10 → W9 r = W r) ∧ W9 10 = jp_wr (W 10) t9 [11, 10] ∧ h9 = [s0, s1, s2, s3, s4, s5, s6, s7, s8, s9, jb_mdl I9 J d e kp nm W9, s11]) := by
  refine jb_CofJ (ini := false) (by decide +kernel) (fun h => by cases h) (Nat.le_of_ble_eq_true rfl) ?_
  show jb_J sc RX12 cX12_hears 4 (Option.some .int) false 6 0 0 0 [some (.ref 105), some (.int 6), some (.int x), none] [] [s0, s1, s2, s3, s4, s5, s6, s7, s8, s9, jb_mdl I J d e kp nm W, s11] _
  have gI0 : ∀ j, ¬ j = 3 → I j = I j := fun _ _ => rfl
  have gW0 : ∀ r, ¬ r = 10 → W r = W r := fun _ _ => rfl
  have gT0 : W 10 = jp_wr (W 10) t9 [] := rfl
  refine jb_iload_n (pc' := 1) dX12_hears_0 rfl rfl ?_
  refine jb_tableOut (pc' := 100) dX12_hears_1 (by decide) (by decide) ?_
  refine jb_aload_n (pc' := 101) dX12_hears_100 rfl rfl ?_
  refine jb_iload_n (pc' := 102) dX12_hears_101 rfl rfl ?_
  refine jb_callS (pc' := 105) (As := [.int 6]) (a2 := 0) (b2 := 0) wv_X12_168 dX12_hears_102 (c_above 6 (by decide)) rfl ⟨by decide, Nat.le_of_eq (Nat.zero_add _), Nat.le_of_eq (Nat.zero_add _)⟩ (Nat.le_of_ble_eq_true rfl) rfl (fun r h9 hq => ?_)
  obtain ⟨rfl, rfl⟩ := hq
  show jb_J _ RX12 cX12_hears 4 (Option.some .int) false 6 0 0 105 [some (.ref 105), some (.int 6), some (.int x), none] [.int 3, .ref 105] [s0, s1, s2, s3, s4, s5, s6, s7, s8, s9, jb_mdl I J d e kp nm W, s11] _
  refine jb_iload_n (pc' := 106) dX12_hears_105 rfl rfl ?_
  refine jb_callV (pc' := 109) (ci := 12) (q := 105) (As := [.int 3, .int x]) (a2 := 0) (b2 := 0) wv_X12_274 rfl dX12_hears_106 (cm_hears_3_6 I J d e kp nm W hd hk p hp hkd ((gI0 4 (by decide)).trans h4) t9 h3 (by omega) x) rfl rfl ⟨by decide, Nat.le_of_eq (Nat.zero_add _), Nat.le_of_eq (Nat.zero_add _)⟩ (Nat.le_of_ble_eq_true rfl) rfl (fun r h9 hq => ?_)
  obtain ⟨rfl, I1, W1, hI1, h31, hW1, hT1, rfl⟩ := hq
  have gI1 : ∀ j, ¬ j = 3 → I1 j = I j := fun j hj => (hI1 j hj).trans (gI0 j hj)
  have gW1 : ∀ r, ¬ r = 10 → W1 r = W r := fun r hr => (hW1 r hr).trans (gW0 r hr)
  have gT1 : W1 10 = jp_wr (W 10) t9 [11, 10] := hT1.trans (by first | rfl | (rw [gT0]; done) | (rw [gT0]; rfl))
  show jb_J _ RX12 cX12_hears 4 (Option.some .int) false 6 0 0 109 [some (.ref 105), some (.int 6), some (.int x), none] [.int (((x) + (nI p)) * 2)] [s0, s1, s2, s3, s4, s5, s6, s7, s8, s9, jb_mdl I1 J d e kp nm W1, s11] _
  refine jb_iret dX12_hears_109 rfl ?_
  exact ⟨rfl, I1, W1, gI1, h31, gW1, gT1, rfl⟩
set_option maxRecDepth 100000 in
set_option maxHeartbeats 4000000 in
theorem cm_tells_0_6 {sc : Nat × (Nat → Int32)} {s0 s1 s2 s3 s4 s5 s6 s7 s8 s9 s11 : List va_E} {V : Nat → Nat → Nat} (I J d e kp nm : Nat → Int32) (W : Nat → Nat → Int32) (hd : jd_ V d) (hk : jv_ok V) (p : Nat) (hp : p < V 0 1) (hkd : V 1 p = 6) (h4 : I 4 = nI p) (t9 : Nat) (h3 : I 3 = nI t9) (ht : t9 + 6 ≤ 40) (x : Int32) : jb_C sc yX12_tells cX12_tells 4 (Option.some .int) 7 0 0 [.ref 105, .int 0, .int x] [s0, s1, s2, s3, s4, s5, s6, s7, s8, s9, jb_mdl I J d e kp nm W, s11] (fun r h9 => r = some (.int ((((x) + (nI p)) * 2) ^^^ ((-((x) - (nI (V 2 p)))) ^^^ (nI p)))) ∧ ∃ I9 W9, (∀ j, ¬ j = 3 → I9 j = I j) ∧ I9 3 = nI (t9 + 6) ∧ (∀ r, ¬ r = 10 → W9 r = W r) ∧ W9 10 = jp_wr (W 10) t9 [13, 11, 10, 70, 40, 12] ∧ h9 = [s0, s1, s2, s3, s4, s5, s6, s7, s8, s9, jb_mdl I9 J d e kp nm W9, s11]) := by
  refine jb_CofJ (ini := false) (by decide +kernel) (fun h => by cases h) (Nat.le_of_ble_eq_true rfl) ?_
  show jb_J sc RX12 cX12_tells 4 (Option.some .int) false 7 0 0 0 [some (.ref 105), some (.int 0), some (.int x), none] [] [s0, s1, s2, s3, s4, s5, s6, s7, s8, s9, jb_mdl I J d e kp nm W, s11] _
  have gI0 : ∀ j, ¬ j = 3 → I j = I j := fun _ _ => rfl
  have gW0 : ∀ r, ¬ r = 10 → W r = W r := fun _ _ => rfl
  have gT0 : W 10 = jp_wr (W 10) t9 [] := rfl
  refine jb_iload_n (pc' := 1) dX12_tells_0 rfl rfl ?_
  refine jb_lookup (pc' := 36) (off := 35) dX12_tells_1 (by decide +kernel) (by decide +kernel) (by decide) ?_
  refine jb_aload_n (pc' := 37) dX12_tells_36 rfl rfl ?_
  refine jb_bipush (pc' := 39) 13 dX12_tells_37 (by decide) rfl ?_
  refine jb_callV (pc' := 42) (ci := 12) (q := 105) (As := [.int 13]) (a2 := 0) (b2 := 0) wv_X12_265 rfl dX12_tells_39 (c_ran I J d e kp nm W t9 h3 (by omega) 13) rfl rfl ⟨by decide, Nat.le_of_eq (Nat.zero_add _), Nat.le_of_eq (Nat.zero_add _)⟩ (Nat.le_of_ble_eq_true rfl) rfl (fun r h9 hq => ?_)
  obtain ⟨rfl, I1, W1, hI1, h31, hW1, hT1, rfl⟩ := hq
  have gI1 : ∀ j, ¬ j = 3 → I1 j = I j := fun j hj => (hI1 j hj).trans (gI0 j hj)
  have gW1 : ∀ r, ¬ r = 10 → W1 r = W r := fun r hr => (hW1 r hr).trans (gW0 r hr)
  have gT1 : W1 10 = jp_wr (W 10) t9 [13] := hT1.trans (by first | rfl | (rw [gT0]; done) | (rw [gT0]; rfl))
  show jb_J _ RX12 cX12_tells 4 (Option.some .int) false 7 0 0 42 [some (.ref 105), some (.int 0), some (.int x), none] [] [s0, s1, s2, s3, s4, s5, s6, s7, s8, s9, jb_mdl I1 J d e kp nm W1, s11] _
  refine jb_aload_n (pc' := 43) dX12_tells_42 rfl rfl ?_
  refine jb_aload_n (pc' := 44) dX12_tells_43 rfl rfl ?_
  refine jb_callV (pc' := 47) (ci := 12) (q := 105) (As := []) (a2 := 0) (b2 := 0) wv_X12_271 rfl dX12_tells_44 (c_own I1 J d e kp nm W1 hd hk p hp ((gI1 4 (by decide)).trans h4)) rfl rfl ⟨by decide, Nat.le_of_eq (Nat.zero_add _), Nat.le_of_eq (Nat.zero_add _)⟩ (Nat.le_of_ble_eq_true rfl) rfl (fun r h9 hq => ?_)
  obtain ⟨rfl, rfl⟩ := hq
  rw [hkd]
  show jb_J _ RX12 cX12_tells 4 (Option.some .int) false 7 0 0 47 [some (.ref 105), some (.int 0), some (.int x), none] [.int 6, .ref 105] [s0, s1, s2, s3, s4, s5, s6, s7, s8, s9, jb_mdl I1 J d e kp nm W1, s11] _
  refine jb_iload_n (pc' := 48) dX12_tells_47 rfl rfl ?_
  refine jb_callV (pc' := 51) (ci := 12) (q := 105) (As := [.int 6, .int x]) (a2 := 0) (b2 := 0) wv_X12_274 rfl dX12_tells_48 (cm_hears_6_6 I1 J d e kp nm W1 hd hk p hp hkd ((gI1 4 (by decide)).trans h4) (t9 + 1) h31 (by omega) x) rfl rfl ⟨by decide, Nat.le_of_eq (Nat.zero_add _), Nat.le_of_eq (Nat.zero_add _)⟩ (Nat.le_of_ble_eq_true rfl) rfl (fun r h9 hq => ?_)
  obtain ⟨rfl, I2, W2, hI2, h32, hW2, hT2, rfl⟩ := hq
  have gI2 : ∀ j, ¬ j = 3 → I2 j = I j := fun j hj => (hI2 j hj).trans (gI1 j hj)
  have gW2 : ∀ r, ¬ r = 10 → W2 r = W r := fun r hr => (hW2 r hr).trans (gW1 r hr)
  have gT2 : W2 10 = jp_wr (W 10) t9 [13, 11, 10] := hT2.trans (by first | rfl | (rw [gT1]; done) | (rw [gT1]; rfl))
  show jb_J _ RX12 cX12_tells 4 (Option.some .int) false 7 0 0 51 [some (.ref 105), some (.int 0), some (.int x), none] [.int (((x) + (nI p)) * 2)] [s0, s1, s2, s3, s4, s5, s6, s7, s8, s9, jb_mdl I2 J d e kp nm W2, s11] _
  refine jb_istore_n_ (pc' := 52) dX12_tells_51 (by decide) (jb_at3 rfl) rfl ?_
  refine jb_iload_n (pc' := 53) dX12_tells_52 rfl rfl ?_
  refine jb_aload_n (pc' := 54) dX12_tells_53 rfl rfl ?_
  refine jb_aload_n (pc' := 55) dX12_tells_54 rfl rfl ?_
  refine jb_callV (pc' := 58) (ci := 12) (q := 105) (As := []) (a2 := 0) (b2 := 0) wv_X12_271 rfl dX12_tells_55 (c_own I2 J d e kp nm W2 hd hk p hp ((gI2 4 (by decide)).trans h4)) rfl rfl ⟨by decide, Nat.le_of_eq (Nat.zero_add _), Nat.le_of_eq (Nat.zero_add _)⟩ (Nat.le_of_ble_eq_true rfl) rfl (fun r h9 hq => ?_)
  obtain ⟨rfl, rfl⟩ := hq
  rw [hkd]
  show jb_J _ RX12 cX12_tells 4 (Option.some .int) false 7 0 0 58 [some (.ref 105), some (.int 0), some (.int x), some (.int (((x) + (nI p)) * 2))] [.int 6, .ref 105, .int (((x) + (nI p)) * 2)] [s0, s1, s2, s3, s4, s5, s6, s7, s8, s9, jb_mdl I2 J d e kp nm W2, s11] _
  refine jb_iload_n (pc' := 59) dX12_tells_58 rfl rfl ?_
  refine jb_callV (pc' := 62) (ci := 12) (q := 105) (As := [.int 6, .int x]) (a2 := 0) (b2 := 0) wv_X12_277 rfl dX12_tells_59 (cm_waits_6_6 I2 J d e kp nm W2 hd hk p hp hkd ((gI2 4 (by decide)).trans h4) ((t9 + 1) + 2) h32 (by omega) x) rfl rfl ⟨by decide, Nat.le_of_eq (Nat.zero_add _), Nat.le_of_eq (Nat.zero_add _)⟩ (Nat.le_of_ble_eq_true rfl) rfl (fun r h9 hq => ?_)
  obtain ⟨rfl, I3, W3, hI3, h33, hW3, hT3, rfl⟩ := hq
  have gI3 : ∀ j, ¬ j = 3 → I3 j = I j := fun j hj => (hI3 j hj).trans (gI2 j hj)
  have gW3 : ∀ r, ¬ r = 10 → W3 r = W r := fun r hr => (hW3 r hr).trans (gW2 r hr)
  have gT3 : W3 10 = jp_wr (W 10) t9 [13, 11, 10, 70, 40, 12] := hT3.trans (by first | rfl | (rw [gT2]; done) | (rw [gT2]; rfl))
  show jb_J _ RX12 cX12_tells 4 (Option.some .int) false 7 0 0 62 [some (.ref 105), some (.int 0), some (.int x), some (.int (((x) + (nI p)) * 2))] [.int ((-((x) - (nI (V 2 p)))) ^^^ (nI p)), .int (((x) + (nI p)) * 2)] [s0, s1, s2, s3, s4, s5, s6, s7, s8, s9, jb_mdl I3 J d e kp nm W3, s11] _
  refine jb_ixor (pc' := 63) dX12_tells_62 rfl ?_
  refine jb_iret dX12_tells_63 rfl ?_
  exact ⟨rfl, I3, W3, gI3, h33, gW3, gT3, rfl⟩
set_option maxRecDepth 100000 in
set_option maxHeartbeats 4000000 in
theorem cm_tells_3_6 {sc : Nat × (Nat → Int32)} {s0 s1 s2 s3 s4 s5 s6 s7 s8 s9 s11 : List va_E} {V : Nat → Nat → Nat} (I J d e kp nm : Nat → Int32) (W : Nat → Nat → Int32) (hd : jd_ V d) (hk : jv_ok V) (p : Nat) (hp : p < V 0 1) (hkd : V 1 p = 6) (h4 : I 4 = nI p) (t9 : Nat) (h3 : I 3 = nI t9) (ht : t9 + 6 ≤ 40) (x : Int32) : jb_C sc yX12_tells cX12_tells 4 (Option.some .int) 8 0 0 [.ref 105, .int 3, .int x] [s0, s1, s2, s3, s4, s5, s6, s7, s8, s9, jb_mdl I J d e kp nm W, s11] (fun r h9 => r = some (.int ((((x) + (nI p)) * 2) ^^^ ((-((x) - (nI (V 2 p)))) ^^^ (nI p)))) ∧ ∃ I9 W9, (∀ j, ¬ j = 3 → I9 j = I j) ∧ I9 3 = nI (t9 + 6) ∧ (∀ r, ¬ r = 10 → W9 r = W r) ∧ W9 10 = jp_wr (W 10) t9 [13, 11, 10, 70, 40, 12] ∧ h9 = [s0, s1, s2, s3, s4, s5, s6, s7, s8, s9, jb_mdl I9 J d e kp nm W9, s11]) := by
  refine jb_CofJ (ini := false) (by decide +kernel) (fun h => by cases h) (Nat.le_of_ble_eq_true rfl) ?_
  show jb_J sc RX12 cX12_tells 4 (Option.some .int) false 8 0 0 0 [some (.ref 105), some (.int 3), some (.int x), none] [] [s0, s1, s2, s3, s4, s5, s6, s7, s8, s9, jb_mdl I J d e kp nm W, s11] _
  have gI0 : ∀ j, ¬ j = 3 → I j = I j := fun _ _ => rfl
  have gW0 : ∀ r, ¬ r = 10 → W r = W r := fun _ _ => rfl
  have gT0 : W 10 = jp_wr (W 10) t9 [] := rfl
  refine jb_iload_n (pc' := 1) dX12_tells_0 rfl rfl ?_
  refine jb_lookup (pc' := 121) (off := 120) dX12_tells_1 (by decide +kernel) (by decide +kernel) (by decide) ?_
  refine jb_aload_n (pc' := 122) dX12_tells_121 rfl rfl ?_
  refine jb_iload_n (pc' := 123) dX12_tells_122 rfl rfl ?_
  refine jb_callS (pc' := 126) (As := [.int 3]) (a2 := 0) (b2 := 0) wv_X12_168 dX12_tells_123 (c_above 3 (by decide)) rfl ⟨by decide, Nat.le_of_eq (Nat.zero_add _), Nat.le_of_eq (Nat.zero_add _)⟩ (Nat.le_of_ble_eq_true rfl) rfl (fun r h9 hq => ?_)
  obtain ⟨rfl, rfl⟩ := hq
  show jb_J _ RX12 cX12_tells 4 (Option.some .int) false 8 0 0 126 [some (.ref 105), some (.int 3), some (.int x), none] [.int 0, .ref 105] [s0, s1, s2, s3, s4, s5, s6, s7, s8, s9, jb_mdl I J d e kp nm W, s11] _
  refine jb_iload_n (pc' := 127) dX12_tells_126 rfl rfl ?_
  refine jb_callV (pc' := 130) (ci := 12) (q := 105) (As := [.int 0, .int x]) (a2 := 0) (b2 := 0) wv_X12_280 rfl dX12_tells_127 (cm_tells_0_6 I J d e kp nm W hd hk p hp hkd ((gI0 4 (by decide)).trans h4) t9 h3 (by omega) x) rfl rfl ⟨by decide, Nat.le_of_eq (Nat.zero_add _), Nat.le_of_eq (Nat.zero_add _)⟩ (Nat.le_of_ble_eq_true rfl) rfl (fun r h9 hq => ?_)
  obtain ⟨rfl, I1, W1, hI1, h31, hW1, hT1, rfl⟩ := hq
  have gI1 : ∀ j, ¬ j = 3 → I1 j = I j := fun j hj => (hI1 j hj).trans (gI0 j hj)
  have gW1 : ∀ r, ¬ r = 10 → W1 r = W r := fun r hr => (hW1 r hr).trans (gW0 r hr)
  have gT1 : W1 10 = jp_wr (W 10) t9 [13, 11, 10, 70, 40, 12] := hT1.trans (by first | rfl | (rw [gT0]; done) | (rw [gT0]; rfl))
  show jb_J _ RX12 cX12_tells 4 (Option.some .int) false 8 0 0 130 [some (.ref 105), some (.int 3), some (.int x), none] [.int ((((x) + (nI p)) * 2) ^^^ ((-((x) - (nI (V 2 p)))) ^^^ (nI p)))] [s0, s1, s2, s3, s4, s5, s6, s7, s8, s9, jb_mdl I1 J d e kp nm W1, s11] _
  refine jb_iret dX12_tells_130 rfl ?_
  exact ⟨rfl, I1, W1, gI1, h31, gW1, gT1, rfl⟩
set_option maxRecDepth 100000 in
set_option maxHeartbeats 4000000 in
theorem cm_tells_6_6 {sc : Nat × (Nat → Int32)} {s0 s1 s2 s3 s4 s5 s6 s7 s8 s9 s11 : List va_E} {V : Nat → Nat → Nat} (I J d e kp nm : Nat → Int32) (W : Nat → Nat → Int32) (hd : jd_ V d) (hk : jv_ok V) (p : Nat) (hp : p < V 0 1) (hkd : V 1 p = 6) (h4 : I 4 = nI p) (t9 : Nat) (h3 : I 3 = nI t9) (ht : t9 + 9 ≤ 40) (x : Int32) : jb_C sc yX12_tells cX12_tells 4 (Option.some .int) 9 0 0 [.ref 105, .int 6, .int x] [s0, s1, s2, s3, s4, s5, s6, s7, s8, s9, jb_mdl I J d e kp nm W, s11] (fun r h9 => r = some (.int ((((x) + (nI p)) * 2) - ((((x) + (nI p)) * 2) ^^^ ((-((x) - (nI (V 2 p)))) ^^^ (nI p))))) ∧ ∃ I9 W9, (∀ j, ¬ j = 3 → I9 j = I j) ∧ I9 3 = nI (t9 + 9) ∧ (∀ r, ¬ r = 10 → W9 r = W r) ∧ W9 10 = jp_wr (W 10) t9 [71, 11, 10, 13, 11, 10, 70, 40, 12] ∧ h9 = [s0, s1, s2, s3, s4, s5, s6, s7, s8, s9, jb_mdl I9 J d e kp nm W9, s11]) := by
  refine jb_CofJ (ini := false) (by decide +kernel) (fun h => by cases h) (Nat.le_of_ble_eq_true rfl) ?_
  show jb_J sc RX12 cX12_tells 4 (Option.some .int) false 9 0 0 0 [some (.ref 105), some (.int 6), some (.int x), none] [] [s0, s1, s2, s3, s4, s5, s6, s7, s8, s9, jb_mdl I J d e kp nm W, s11] _
  have gI0 : ∀ j, ¬ j = 3 → I j = I j := fun _ _ => rfl
  have gW0 : ∀ r, ¬ r = 10 → W r = W r := fun _ _ => rfl
  have gT0 : W 10 = jp_wr (W 10) t9 [] := rfl
  refine jb_iload_n (pc' := 1) dX12_tells_0 rfl rfl ?_
  refine jb_lookup (pc' := 92) (off := 91) dX12_tells_1 (by decide +kernel) (by decide +kernel) (by decide) ?_
  refine jb_aload_n (pc' := 93) dX12_tells_92 rfl rfl ?_
  refine jb_bipush (pc' := 95) 71 dX12_tells_93 (by decide) rfl ?_
  refine jb_callV (pc' := 98) (ci := 12) (q := 105) (As := [.int 71]) (a2 := 0) (b2 := 0) wv_X12_265 rfl dX12_tells_95 (c_ran I J d e kp nm W t9 h3 (by omega) 71) rfl rfl ⟨by decide, Nat.le_of_eq (Nat.zero_add _), Nat.le_of_eq (Nat.zero_add _)⟩ (Nat.le_of_ble_eq_true rfl) rfl (fun r h9 hq => ?_)
  obtain ⟨rfl, I1, W1, hI1, h31, hW1, hT1, rfl⟩ := hq
  have gI1 : ∀ j, ¬ j = 3 → I1 j = I j := fun j hj => (hI1 j hj).trans (gI0 j hj)
  have gW1 : ∀ r, ¬ r = 10 → W1 r = W r := fun r hr => (hW1 r hr).trans (gW0 r hr)
  have gT1 : W1 10 = jp_wr (W 10) t9 [71] := hT1.trans (by first | rfl | (rw [gT0]; done) | (rw [gT0]; rfl))
  show jb_J _ RX12 cX12_tells 4 (Option.some .int) false 9 0 0 98 [some (.ref 105), some (.int 6), some (.int x), none] [] [s0, s1, s2, s3, s4, s5, s6, s7, s8, s9, jb_mdl I1 J d e kp nm W1, s11] _
  refine jb_aload_n (pc' := 99) dX12_tells_98 rfl rfl ?_
  refine jb_aload_n (pc' := 100) dX12_tells_99 rfl rfl ?_
  refine jb_callV (pc' := 103) (ci := 12) (q := 105) (As := []) (a2 := 0) (b2 := 0) wv_X12_271 rfl dX12_tells_100 (c_own I1 J d e kp nm W1 hd hk p hp ((gI1 4 (by decide)).trans h4)) rfl rfl ⟨by decide, Nat.le_of_eq (Nat.zero_add _), Nat.le_of_eq (Nat.zero_add _)⟩ (Nat.le_of_ble_eq_true rfl) rfl (fun r h9 hq => ?_)
  obtain ⟨rfl, rfl⟩ := hq
  rw [hkd]
  show jb_J _ RX12 cX12_tells 4 (Option.some .int) false 9 0 0 103 [some (.ref 105), some (.int 6), some (.int x), none] [.int 6, .ref 105] [s0, s1, s2, s3, s4, s5, s6, s7, s8, s9, jb_mdl I1 J d e kp nm W1, s11] _
  refine jb_iload_n (pc' := 104) dX12_tells_103 rfl rfl ?_
  refine jb_callV (pc' := 107) (ci := 12) (q := 105) (As := [.int 6, .int x]) (a2 := 0) (b2 := 0) wv_X12_274 rfl dX12_tells_104 (cm_hears_6_6 I1 J d e kp nm W1 hd hk p hp hkd ((gI1 4 (by decide)).trans h4) (t9 + 1) h31 (by omega) x) rfl rfl ⟨by decide, Nat.le_of_eq (Nat.zero_add _), Nat.le_of_eq (Nat.zero_add _)⟩ (Nat.le_of_ble_eq_true rfl) rfl (fun r h9 hq => ?_)
  obtain ⟨rfl, I2, W2, hI2, h32, hW2, hT2, rfl⟩ := hq
  have gI2 : ∀ j, ¬ j = 3 → I2 j = I j := fun j hj => (hI2 j hj).trans (gI1 j hj)
  have gW2 : ∀ r, ¬ r = 10 → W2 r = W r := fun r hr => (hW2 r hr).trans (gW1 r hr)
  have gT2 : W2 10 = jp_wr (W 10) t9 [71, 11, 10] := hT2.trans (by first | rfl | (rw [gT1]; done) | (rw [gT1]; rfl))
  show jb_J _ RX12 cX12_tells 4 (Option.some .int) false 9 0 0 107 [some (.ref 105), some (.int 6), some (.int x), none] [.int (((x) + (nI p)) * 2)] [s0, s1, s2, s3, s4, s5, s6, s7, s8, s9, jb_mdl I2 J d e kp nm W2, s11] _
  refine jb_istore_n_ (pc' := 108) dX12_tells_107 (by decide) (jb_at3 rfl) rfl ?_
  refine jb_iload_n (pc' := 109) dX12_tells_108 rfl rfl ?_
  refine jb_aload_n (pc' := 110) dX12_tells_109 rfl rfl ?_
  refine jb_bipush (pc' := 112) 6 dX12_tells_110 (by decide) rfl ?_
  refine jb_callS (pc' := 115) (As := [.int 6]) (a2 := 0) (b2 := 0) wv_X12_168 dX12_tells_112 (c_above 6 (by decide)) rfl ⟨by decide, Nat.le_of_eq (Nat.zero_add _), Nat.le_of_eq (Nat.zero_add _)⟩ (Nat.le_of_ble_eq_true rfl) rfl (fun r h9 hq => ?_)
  obtain ⟨rfl, rfl⟩ := hq
  show jb_J _ RX12 cX12_tells 4 (Option.some .int) false 9 0 0 115 [some (.ref 105), some (.int 6), some (.int x), some (.int (((x) + (nI p)) * 2))] [.int 3, .ref 105, .int (((x) + (nI p)) * 2)] [s0, s1, s2, s3, s4, s5, s6, s7, s8, s9, jb_mdl I2 J d e kp nm W2, s11] _
  refine jb_iload_n (pc' := 116) dX12_tells_115 rfl rfl ?_
  refine jb_callV (pc' := 119) (ci := 12) (q := 105) (As := [.int 3, .int x]) (a2 := 0) (b2 := 0) wv_X12_280 rfl dX12_tells_116 (cm_tells_3_6 I2 J d e kp nm W2 hd hk p hp hkd ((gI2 4 (by decide)).trans h4) ((t9 + 1) + 2) h32 (by omega) x) rfl rfl ⟨by decide, Nat.le_of_eq (Nat.zero_add _), Nat.le_of_eq (Nat.zero_add _)⟩ (Nat.le_of_ble_eq_true rfl) rfl (fun r h9 hq => ?_)
  obtain ⟨rfl, I3, W3, hI3, h33, hW3, hT3, rfl⟩ := hq
  have gI3 : ∀ j, ¬ j = 3 → I3 j = I j := fun j hj => (hI3 j hj).trans (gI2 j hj)
  have gW3 : ∀ r, ¬ r = 10 → W3 r = W r := fun r hr => (hW3 r hr).trans (gW2 r hr)
  have gT3 : W3 10 = jp_wr (W 10) t9 [71, 11, 10, 13, 11, 10, 70, 40, 12] := hT3.trans (by first | rfl | (rw [gT2]; done) | (rw [gT2]; rfl))
  show jb_J _ RX12 cX12_tells 4 (Option.some .int) false 9 0 0 119 [some (.ref 105), some (.int 6), some (.int x), some (.int (((x) + (nI p)) * 2))] [.int ((((x) + (nI p)) * 2) ^^^ ((-((x) - (nI (V 2 p)))) ^^^ (nI p))), .int (((x) + (nI p)) * 2)] [s0, s1, s2, s3, s4, s5, s6, s7, s8, s9, jb_mdl I3 J d e kp nm W3, s11] _
  refine jb_isub (pc' := 120) dX12_tells_119 rfl ?_
  refine jb_iret dX12_tells_120 rfl ?_
  exact ⟨rfl, I3, W3, gI3, h33, gW3, gT3, rfl⟩
set_option maxRecDepth 100000 in
set_option maxHeartbeats 4000000 in
theorem mx_voice0_6 {sc : Nat × (Nat → Int32)} {s0 s1 s2 s3 s4 s5 s6 s7 s8 s9 s11 : List va_E} {V : Nat → Nat → Nat} (I J d e kp nm : Nat → Int32) (W : Nat → Nat → Int32) (hd : jd_ V d) (hk : jv_ok V) (p : Nat) (hp : p < V 0 1) (hkd : V 1 p = 6) (x : Int32) : jb_C sc yX12_voice cX12_voice 5 (Option.some .int) 4 0 0 [.ref 105, .int (nI p), .int 0, .int x] [s0, s1, s2, s3, s4, s5, s6, s7, s8, s9, jb_mdl I J d e kp nm W, s11] (fun r h9 => r = some (.int ((x) + (nI p))) ∧ ∃ I9 W9, I9 0 = I 0 ∧ I9 3 = nI 1 ∧ (∀ r, ¬ r = 10 → W9 r = W r) ∧ W9 10 = jp_wr (W 10) 0 [10] ∧ h9 = [s0, s1, s2, s3, s4, s5, s6, s7, s8, s9, jb_mdl I9 J d e kp nm W9, s11]) := by
  refine jb_CofJ (ini := false) (by decide +kernel) (fun h => by cases h) (Nat.le_of_ble_eq_true rfl) ?_
  show jb_J sc RX12 cX12_voice 5 (Option.some .int) false 4 0 0 0 [some (.ref 105), some (.int (nI p)), some (.int 0), some (.int x), none] [] [s0, s1, s2, s3, s4, s5, s6, s7, s8, s9, jb_mdl I J d e kp nm W, s11] _
  have hd0 := hd
  have hk0 := hk
  obtain ⟨e0, e1, e2, e3, e4, e5, e6, dv, ds, dd⟩ := hd
  obtain ⟨k0, k1, k2, k3, k4, k5, k6, k7, kv, ks, kd⟩ := hk
  have q0 := kv p hp
  refine jb_aload_n (pc' := 1) dX12_voice_0 rfl rfl ?_
  refine jb_iload_n (pc' := 2) dX12_voice_1 rfl rfl ?_
  refine jb_callV (pc' := 5) (ci := 12) (q := 105) (As := [.int (nI p)]) (a2 := 0) (b2 := 0) wv_X12_149 rfl dX12_voice_2 (c_isVoiceG I J d e kp nm W hd0 hk0 p (by omega)) rfl rfl ⟨by decide, Nat.le_of_eq (Nat.zero_add _), Nat.le_of_eq (Nat.zero_add _)⟩ (Nat.le_of_ble_eq_true rfl) rfl (fun r h9 hq => ?_)
  obtain ⟨rfl, rfl⟩ := hq
  show jb_J _ RX12 cX12_voice 5 (Option.some .int) false 4 0 0 5 [some (.ref 105), some (.int (nI p)), some (.int 0), some (.int x), none] [.int 1] [s0, s1, s2, s3, s4, s5, s6, s7, s8, s9, jb_mdl I J d e kp nm W, s11] _
  refine jb_if_eq (tgt := 20) (pc' := 8) dX12_voice_5 (by decide) rfl (fun z => absurd z (by decide)) (fun _ => ?_)
  refine jb_iload_n (pc' := 9) dX12_voice_8 rfl rfl ?_
  refine jb_i2l (pc' := 10) dX12_voice_9 rfl ?_
  refine jb_lconst (pc' := 11) 0 dX12_voice_10 (by decide) rfl ?_
  refine jb_ldc2 (pc' := 14) 3 dX12_voice_11 wk_X12_152 rfl ?_
  refine jb_callS (pc' := 17) (As := [.long ((0 : Int32).toInt64), .long 0, .long 3]) (a2 := 0) (b2 := 0) wv_X12_56 dX12_voice_14 (c_inLG _ 0 0 3 (by omega) (by omega) (by omega)) rfl ⟨by decide, Nat.le_of_eq (Nat.zero_add _), Nat.le_of_eq (Nat.zero_add _)⟩ (Nat.le_of_ble_eq_true rfl) rfl (fun r h9 hq => ?_)
  obtain ⟨rfl, rfl⟩ := hq
  show jb_J _ RX12 cX12_voice 5 (Option.some .int) false 4 0 0 17 [some (.ref 105), some (.int (nI p)), some (.int 0), some (.int x), none] [.int 1] [s0, s1, s2, s3, s4, s5, s6, s7, s8, s9, jb_mdl I J d e kp nm W, s11] _
  refine jb_if_ne (tgt := 26) (pc' := 20) dX12_voice_17 (by decide) rfl (fun _ => ?_) (fun z => absurd z (by decide))
  refine jb_aload_n (pc' := 27) dX12_voice_26 rfl rfl ?_
  refine jb_iconst (pc' := 28) 0 dX12_voice_27 (by decide) rfl ?_
  refine pf_X12_259 (pc' := 31) (h' := [s0, s1, s2, s3, s4, s5, s6, s7, s8, s9, jb_mdl (upd I 3 0) J d e kp nm W, s11]) dX12_voice_28 (fun _ => ⟨rfl, rfl⟩) rfl (Nat.le_of_ble_eq_true rfl) rfl rfl ?_
  refine jb_aload_n (pc' := 32) dX12_voice_31 rfl rfl ?_
  refine jb_iload_n (pc' := 33) dX12_voice_32 rfl rfl ?_
  refine pf_X12_262 (pc' := 36) (h' := [s0, s1, s2, s3, s4, s5, s6, s7, s8, s9, jb_mdl (upd (upd I 3 0) 4 (nI p)) J d e kp nm W, s11]) dX12_voice_33 (fun _ => ⟨rfl, rfl⟩) rfl (Nat.le_of_ble_eq_true rfl) rfl rfl ?_
  refine jb_aload_n (pc' := 37) dX12_voice_36 rfl rfl ?_
  refine jb_callV (pc' := 40) (ci := 12) (q := 105) (As := []) (a2 := 0) (b2 := 0) wv_X12_271 rfl dX12_voice_37 (c_own (upd (upd I 3 0) 4 (nI p)) J d e kp nm W hd0 hk0 p hp rfl) rfl rfl ⟨by decide, Nat.le_of_eq (Nat.zero_add _), Nat.le_of_eq (Nat.zero_add _)⟩ (Nat.le_of_ble_eq_true rfl) rfl (fun r h9 hq => ?_)
  obtain ⟨rfl, rfl⟩ := hq
  rw [hkd]
  show jb_J _ RX12 cX12_voice 5 (Option.some .int) false 4 0 0 40 [some (.ref 105), some (.int (nI p)), some (.int 0), some (.int x), none] [.int 6] [s0, s1, s2, s3, s4, s5, s6, s7, s8, s9, jb_mdl (upd (upd I 3 0) 4 (nI p)) J d e kp nm W, s11] _
  refine jb_istore_ (pc' := 42) dX12_voice_40 (by decide) (jb_at4 rfl) rfl ?_
  refine jb_iload_n (pc' := 43) dX12_voice_42 rfl rfl ?_
  refine jb_if_ne (tgt := 56) (pc' := 46) dX12_voice_43 (by decide) rfl (fun z => absurd (by decide) z) (fun _ => ?_)
  refine jb_aload_n (pc' := 47) dX12_voice_46 rfl rfl ?_
  refine jb_iload (pc' := 49) dX12_voice_47 rfl rfl ?_
  refine jb_iload_n (pc' := 50) dX12_voice_49 rfl rfl ?_
  refine jb_callV (pc' := 53) (ci := 12) (q := 105) (As := [.int 6, .int x]) (a2 := 0) (b2 := 0) wv_X12_268 rfl dX12_voice_50 (cm_calls_6_6 (upd (upd I 3 0) 4 (nI p)) J d e kp nm W hd0 hk0 p hp hkd rfl 0 rfl (by omega) x) rfl rfl ⟨by decide, Nat.le_of_eq (Nat.zero_add _), Nat.le_of_eq (Nat.zero_add _)⟩ (Nat.le_of_ble_eq_true rfl) rfl (fun r h9 hq => ?_)
  obtain ⟨rfl, I9, W9, hI9, h39, hW9, hT9, rfl⟩ := hq
  show jb_J _ RX12 cX12_voice 5 (Option.some .int) false 4 0 0 53 [some (.ref 105), some (.int (nI p)), some (.int 0), some (.int x), some (.int 6)] [.int ((x) + (nI p))] [s0, s1, s2, s3, s4, s5, s6, s7, s8, s9, jb_mdl I9 J d e kp nm W9, s11] _
  refine jb_goto (pc' := 93) dX12_voice_53 (by decide) ?_
  refine jb_iret dX12_voice_93 rfl ?_
  exact ⟨rfl, I9, W9, hI9 0 (by decide), by rw [h39], hW9, hT9, rfl⟩
set_option maxRecDepth 100000 in
set_option maxHeartbeats 4000000 in
theorem mx_voice1_6 {sc : Nat × (Nat → Int32)} {s0 s1 s2 s3 s4 s5 s6 s7 s8 s9 s11 : List va_E} {V : Nat → Nat → Nat} (I J d e kp nm : Nat → Int32) (W : Nat → Nat → Int32) (hd : jd_ V d) (hk : jv_ok V) (p : Nat) (hp : p < V 0 1) (hkd : V 1 p = 6) (x : Int32) : jb_C sc yX12_voice cX12_voice 5 (Option.some .int) 7 0 0 [.ref 105, .int (nI p), .int 1, .int x] [s0, s1, s2, s3, s4, s5, s6, s7, s8, s9, jb_mdl I J d e kp nm W, s11] (fun r h9 => r = some (.int (((x) + (nI p)) * 2)) ∧ ∃ I9 W9, I9 0 = I 0 ∧ I9 3 = nI 2 ∧ (∀ r, ¬ r = 10 → W9 r = W r) ∧ W9 10 = jp_wr (W 10) 0 [11, 10] ∧ h9 = [s0, s1, s2, s3, s4, s5, s6, s7, s8, s9, jb_mdl I9 J d e kp nm W9, s11]) := by
  refine jb_CofJ (ini := false) (by decide +kernel) (fun h => by cases h) (Nat.le_of_ble_eq_true rfl) ?_
  show jb_J sc RX12 cX12_voice 5 (Option.some .int) false 7 0 0 0 [some (.ref 105), some (.int (nI p)), some (.int 1), some (.int x), none] [] [s0, s1, s2, s3, s4, s5, s6, s7, s8, s9, jb_mdl I J d e kp nm W, s11] _
  have hd0 := hd
  have hk0 := hk
  obtain ⟨e0, e1, e2, e3, e4, e5, e6, dv, ds, dd⟩ := hd
  obtain ⟨k0, k1, k2, k3, k4, k5, k6, k7, kv, ks, kd⟩ := hk
  have q0 := kv p hp
  refine jb_aload_n (pc' := 1) dX12_voice_0 rfl rfl ?_
  refine jb_iload_n (pc' := 2) dX12_voice_1 rfl rfl ?_
  refine jb_callV (pc' := 5) (ci := 12) (q := 105) (As := [.int (nI p)]) (a2 := 0) (b2 := 0) wv_X12_149 rfl dX12_voice_2 (c_isVoiceG I J d e kp nm W hd0 hk0 p (by omega)) rfl rfl ⟨by decide, Nat.le_of_eq (Nat.zero_add _), Nat.le_of_eq (Nat.zero_add _)⟩ (Nat.le_of_ble_eq_true rfl) rfl (fun r h9 hq => ?_)
  obtain ⟨rfl, rfl⟩ := hq
  show jb_J _ RX12 cX12_voice 5 (Option.some .int) false 7 0 0 5 [some (.ref 105), some (.int (nI p)), some (.int 1), some (.int x), none] [.int 1] [s0, s1, s2, s3, s4, s5, s6, s7, s8, s9, jb_mdl I J d e kp nm W, s11] _
  refine jb_if_eq (tgt := 20) (pc' := 8) dX12_voice_5 (by decide) rfl (fun z => absurd z (by decide)) (fun _ => ?_)
  refine jb_iload_n (pc' := 9) dX12_voice_8 rfl rfl ?_
  refine jb_i2l (pc' := 10) dX12_voice_9 rfl ?_
  refine jb_lconst (pc' := 11) 0 dX12_voice_10 (by decide) rfl ?_
  refine jb_ldc2 (pc' := 14) 3 dX12_voice_11 wk_X12_152 rfl ?_
  refine jb_callS (pc' := 17) (As := [.long ((1 : Int32).toInt64), .long 0, .long 3]) (a2 := 0) (b2 := 0) wv_X12_56 dX12_voice_14 (c_inLG _ 1 0 3 (by omega) (by omega) (by omega)) rfl ⟨by decide, Nat.le_of_eq (Nat.zero_add _), Nat.le_of_eq (Nat.zero_add _)⟩ (Nat.le_of_ble_eq_true rfl) rfl (fun r h9 hq => ?_)
  obtain ⟨rfl, rfl⟩ := hq
  show jb_J _ RX12 cX12_voice 5 (Option.some .int) false 7 0 0 17 [some (.ref 105), some (.int (nI p)), some (.int 1), some (.int x), none] [.int 1] [s0, s1, s2, s3, s4, s5, s6, s7, s8, s9, jb_mdl I J d e kp nm W, s11] _
  refine jb_if_ne (tgt := 26) (pc' := 20) dX12_voice_17 (by decide) rfl (fun _ => ?_) (fun z => absurd z (by decide))
  refine jb_aload_n (pc' := 27) dX12_voice_26 rfl rfl ?_
  refine jb_iconst (pc' := 28) 0 dX12_voice_27 (by decide) rfl ?_
  refine pf_X12_259 (pc' := 31) (h' := [s0, s1, s2, s3, s4, s5, s6, s7, s8, s9, jb_mdl (upd I 3 0) J d e kp nm W, s11]) dX12_voice_28 (fun _ => ⟨rfl, rfl⟩) rfl (Nat.le_of_ble_eq_true rfl) rfl rfl ?_
  refine jb_aload_n (pc' := 32) dX12_voice_31 rfl rfl ?_
  refine jb_iload_n (pc' := 33) dX12_voice_32 rfl rfl ?_
  refine pf_X12_262 (pc' := 36) (h' := [s0, s1, s2, s3, s4, s5, s6, s7, s8, s9, jb_mdl (upd (upd I 3 0) 4 (nI p)) J d e kp nm W, s11]) dX12_voice_33 (fun _ => ⟨rfl, rfl⟩) rfl (Nat.le_of_ble_eq_true rfl) rfl rfl ?_
  refine jb_aload_n (pc' := 37) dX12_voice_36 rfl rfl ?_
  refine jb_callV (pc' := 40) (ci := 12) (q := 105) (As := []) (a2 := 0) (b2 := 0) wv_X12_271 rfl dX12_voice_37 (c_own (upd (upd I 3 0) 4 (nI p)) J d e kp nm W hd0 hk0 p hp rfl) rfl rfl ⟨by decide, Nat.le_of_eq (Nat.zero_add _), Nat.le_of_eq (Nat.zero_add _)⟩ (Nat.le_of_ble_eq_true rfl) rfl (fun r h9 hq => ?_)
  obtain ⟨rfl, rfl⟩ := hq
  rw [hkd]
  show jb_J _ RX12 cX12_voice 5 (Option.some .int) false 7 0 0 40 [some (.ref 105), some (.int (nI p)), some (.int 1), some (.int x), none] [.int 6] [s0, s1, s2, s3, s4, s5, s6, s7, s8, s9, jb_mdl (upd (upd I 3 0) 4 (nI p)) J d e kp nm W, s11] _
  refine jb_istore_ (pc' := 42) dX12_voice_40 (by decide) (jb_at4 rfl) rfl ?_
  refine jb_iload_n (pc' := 43) dX12_voice_42 rfl rfl ?_
  refine jb_if_ne (tgt := 56) (pc' := 46) dX12_voice_43 (by decide) rfl (fun _ => ?_) (fun z => absurd z (by decide))
  refine jb_iload_n (pc' := 57) dX12_voice_56 rfl rfl ?_
  refine jb_iconst (pc' := 58) 1 dX12_voice_57 (by decide) rfl ?_
  refine jb_icmp_ne (tgt := 71) (pc' := 61) dX12_voice_58 (by decide) rfl (fun z => absurd (by decide) z) (fun _ => ?_)
  refine jb_aload_n (pc' := 62) dX12_voice_61 rfl rfl ?_
  refine jb_iload (pc' := 64) dX12_voice_62 rfl rfl ?_
  refine jb_iload_n (pc' := 65) dX12_voice_64 rfl rfl ?_
  refine jb_callV (pc' := 68) (ci := 12) (q := 105) (As := [.int 6, .int x]) (a2 := 0) (b2 := 0) wv_X12_274 rfl dX12_voice_65 (cm_hears_6_6 (upd (upd I 3 0) 4 (nI p)) J d e kp nm W hd0 hk0 p hp hkd rfl 0 rfl (by omega) x) rfl rfl ⟨by decide, Nat.le_of_eq (Nat.zero_add _), Nat.le_of_eq (Nat.zero_add _)⟩ (Nat.le_of_ble_eq_true rfl) rfl (fun r h9 hq => ?_)
  obtain ⟨rfl, I9, W9, hI9, h39, hW9, hT9, rfl⟩ := hq
  show jb_J _ RX12 cX12_voice 5 (Option.some .int) false 7 0 0 68 [some (.ref 105), some (.int (nI p)), some (.int 1), some (.int x), some (.int 6)] [.int (((x) + (nI p)) * 2)] [s0, s1, s2, s3, s4, s5, s6, s7, s8, s9, jb_mdl I9 J d e kp nm W9, s11] _
  refine jb_goto (pc' := 93) dX12_voice_68 (by decide) ?_
  refine jb_iret dX12_voice_93 rfl ?_
  exact ⟨rfl, I9, W9, hI9 0 (by decide), by rw [h39], hW9, hT9, rfl⟩
set_option maxRecDepth 100000 in
set_option maxHeartbeats 4000000 in
theorem mx_voice2_6 {sc : Nat × (Nat → Int32)} {s0 s1 s2 s3 s4 s5 s6 s7 s8 s9 s11 : List va_E} {V : Nat → Nat → Nat} (I J d e kp nm : Nat → Int32) (W : Nat → Nat → Int32) (hd : jd_ V d) (hk : jv_ok V) (p : Nat) (hp : p < V 0 1) (hkd : V 1 p = 6) (x : Int32) : jb_C sc yX12_voice cX12_voice 5 (Option.some .int) 4 0 0 [.ref 105, .int (nI p), .int 2, .int x] [s0, s1, s2, s3, s4, s5, s6, s7, s8, s9, jb_mdl I J d e kp nm W, s11] (fun r h9 => r = some (.int ((-((x) - (nI (V 2 p)))) ^^^ (nI p))) ∧ ∃ I9 W9, I9 0 = I 0 ∧ I9 3 = nI 3 ∧ (∀ r, ¬ r = 10 → W9 r = W r) ∧ W9 10 = jp_wr (W 10) 0 [70, 40, 12] ∧ h9 = [s0, s1, s2, s3, s4, s5, s6, s7, s8, s9, jb_mdl I9 J d e kp nm W9, s11]) := by
  refine jb_CofJ (ini := false) (by decide +kernel) (fun h => by cases h) (Nat.le_of_ble_eq_true rfl) ?_
  show jb_J sc RX12 cX12_voice 5 (Option.some .int) false 4 0 0 0 [some (.ref 105), some (.int (nI p)), some (.int 2), some (.int x), none] [] [s0, s1, s2, s3, s4, s5, s6, s7, s8, s9, jb_mdl I J d e kp nm W, s11] _
  have hd0 := hd
  have hk0 := hk
  obtain ⟨e0, e1, e2, e3, e4, e5, e6, dv, ds, dd⟩ := hd
  obtain ⟨k0, k1, k2, k3, k4, k5, k6, k7, kv, ks, kd⟩ := hk
  have q0 := kv p hp
  refine jb_aload_n (pc' := 1) dX12_voice_0 rfl rfl ?_
  refine jb_iload_n (pc' := 2) dX12_voice_1 rfl rfl ?_
  refine jb_callV (pc' := 5) (ci := 12) (q := 105) (As := [.int (nI p)]) (a2 := 0) (b2 := 0) wv_X12_149 rfl dX12_voice_2 (c_isVoiceG I J d e kp nm W hd0 hk0 p (by omega)) rfl rfl ⟨by decide, Nat.le_of_eq (Nat.zero_add _), Nat.le_of_eq (Nat.zero_add _)⟩ (Nat.le_of_ble_eq_true rfl) rfl (fun r h9 hq => ?_)
  obtain ⟨rfl, rfl⟩ := hq
  show jb_J _ RX12 cX12_voice 5 (Option.some .int) false 4 0 0 5 [some (.ref 105), some (.int (nI p)), some (.int 2), some (.int x), none] [.int 1] [s0, s1, s2, s3, s4, s5, s6, s7, s8, s9, jb_mdl I J d e kp nm W, s11] _
  refine jb_if_eq (tgt := 20) (pc' := 8) dX12_voice_5 (by decide) rfl (fun z => absurd z (by decide)) (fun _ => ?_)
  refine jb_iload_n (pc' := 9) dX12_voice_8 rfl rfl ?_
  refine jb_i2l (pc' := 10) dX12_voice_9 rfl ?_
  refine jb_lconst (pc' := 11) 0 dX12_voice_10 (by decide) rfl ?_
  refine jb_ldc2 (pc' := 14) 3 dX12_voice_11 wk_X12_152 rfl ?_
  refine jb_callS (pc' := 17) (As := [.long ((2 : Int32).toInt64), .long 0, .long 3]) (a2 := 0) (b2 := 0) wv_X12_56 dX12_voice_14 (c_inLG _ 2 0 3 (by omega) (by omega) (by omega)) rfl ⟨by decide, Nat.le_of_eq (Nat.zero_add _), Nat.le_of_eq (Nat.zero_add _)⟩ (Nat.le_of_ble_eq_true rfl) rfl (fun r h9 hq => ?_)
  obtain ⟨rfl, rfl⟩ := hq
  show jb_J _ RX12 cX12_voice 5 (Option.some .int) false 4 0 0 17 [some (.ref 105), some (.int (nI p)), some (.int 2), some (.int x), none] [.int 1] [s0, s1, s2, s3, s4, s5, s6, s7, s8, s9, jb_mdl I J d e kp nm W, s11] _
  refine jb_if_ne (tgt := 26) (pc' := 20) dX12_voice_17 (by decide) rfl (fun _ => ?_) (fun z => absurd z (by decide))
  refine jb_aload_n (pc' := 27) dX12_voice_26 rfl rfl ?_
  refine jb_iconst (pc' := 28) 0 dX12_voice_27 (by decide) rfl ?_
  refine pf_X12_259 (pc' := 31) (h' := [s0, s1, s2, s3, s4, s5, s6, s7, s8, s9, jb_mdl (upd I 3 0) J d e kp nm W, s11]) dX12_voice_28 (fun _ => ⟨rfl, rfl⟩) rfl (Nat.le_of_ble_eq_true rfl) rfl rfl ?_
  refine jb_aload_n (pc' := 32) dX12_voice_31 rfl rfl ?_
  refine jb_iload_n (pc' := 33) dX12_voice_32 rfl rfl ?_
  refine pf_X12_262 (pc' := 36) (h' := [s0, s1, s2, s3, s4, s5, s6, s7, s8, s9, jb_mdl (upd (upd I 3 0) 4 (nI p)) J d e kp nm W, s11]) dX12_voice_33 (fun _ => ⟨rfl, rfl⟩) rfl (Nat.le_of_ble_eq_true rfl) rfl rfl ?_
  refine jb_aload_n (pc' := 37) dX12_voice_36 rfl rfl ?_
  refine jb_callV (pc' := 40) (ci := 12) (q := 105) (As := []) (a2 := 0) (b2 := 0) wv_X12_271 rfl dX12_voice_37 (c_own (upd (upd I 3 0) 4 (nI p)) J d e kp nm W hd0 hk0 p hp rfl) rfl rfl ⟨by decide, Nat.le_of_eq (Nat.zero_add _), Nat.le_of_eq (Nat.zero_add _)⟩ (Nat.le_of_ble_eq_true rfl) rfl (fun r h9 hq => ?_)
  obtain ⟨rfl, rfl⟩ := hq
  rw [hkd]
  show jb_J _ RX12 cX12_voice 5 (Option.some .int) false 4 0 0 40 [some (.ref 105), some (.int (nI p)), some (.int 2), some (.int x), none] [.int 6] [s0, s1, s2, s3, s4, s5, s6, s7, s8, s9, jb_mdl (upd (upd I 3 0) 4 (nI p)) J d e kp nm W, s11] _
  refine jb_istore_ (pc' := 42) dX12_voice_40 (by decide) (jb_at4 rfl) rfl ?_
  refine jb_iload_n (pc' := 43) dX12_voice_42 rfl rfl ?_
  refine jb_if_ne (tgt := 56) (pc' := 46) dX12_voice_43 (by decide) rfl (fun _ => ?_) (fun z => absurd z (by decide))
  refine jb_iload_n (pc' := 57) dX12_voice_56 rfl rfl ?_
  refine jb_iconst (pc' := 58) 1 dX12_voice_57 (by decide) rfl ?_
  refine jb_icmp_ne (tgt := 71) (pc' := 61) dX12_voice_58 (by decide) rfl (fun _ => ?_) (fun z => absurd z (by decide))
  refine jb_iload_n (pc' := 72) dX12_voice_71 rfl rfl ?_
  refine jb_iconst (pc' := 73) 2 dX12_voice_72 (by decide) rfl ?_
  refine jb_icmp_ne (tgt := 86) (pc' := 76) dX12_voice_73 (by decide) rfl (fun z => absurd (by decide) z) (fun _ => ?_)
  refine jb_aload_n (pc' := 77) dX12_voice_76 rfl rfl ?_
  refine jb_iload (pc' := 79) dX12_voice_77 rfl rfl ?_
  refine jb_iload_n (pc' := 80) dX12_voice_79 rfl rfl ?_
  refine jb_callV (pc' := 83) (ci := 12) (q := 105) (As := [.int 6, .int x]) (a2 := 0) (b2 := 0) wv_X12_277 rfl dX12_voice_80 (cm_waits_6_6 (upd (upd I 3 0) 4 (nI p)) J d e kp nm W hd0 hk0 p hp hkd rfl 0 rfl (by omega) x) rfl rfl ⟨by decide, Nat.le_of_eq (Nat.zero_add _), Nat.le_of_eq (Nat.zero_add _)⟩ (Nat.le_of_ble_eq_true rfl) rfl (fun r h9 hq => ?_)
  obtain ⟨rfl, I9, W9, hI9, h39, hW9, hT9, rfl⟩ := hq
  show jb_J _ RX12 cX12_voice 5 (Option.some .int) false 4 0 0 83 [some (.ref 105), some (.int (nI p)), some (.int 2), some (.int x), some (.int 6)] [.int ((-((x) - (nI (V 2 p)))) ^^^ (nI p))] [s0, s1, s2, s3, s4, s5, s6, s7, s8, s9, jb_mdl I9 J d e kp nm W9, s11] _
  refine jb_goto (pc' := 93) dX12_voice_83 (by decide) ?_
  refine jb_iret dX12_voice_93 rfl ?_
  exact ⟨rfl, I9, W9, hI9 0 (by decide), by rw [h39], hW9, hT9, rfl⟩
set_option maxRecDepth 100000 in
set_option maxHeartbeats 4000000 in
theorem mx_voice3_6 {sc : Nat × (Nat → Int32)} {s0 s1 s2 s3 s4 s5 s6 s7 s8 s9 s11 : List va_E} {V : Nat → Nat → Nat} (I J d e kp nm : Nat → Int32) (W : Nat → Nat → Int32) (hd : jd_ V d) (hk : jv_ok V) (p : Nat) (hp : p < V 0 1) (hkd : V 1 p = 6) (x : Int32) : jb_C sc yX12_voice cX12_voice 5 (Option.some .int) 10 0 0 [.ref 105, .int (nI p), .int 3, .int x] [s0, s1, s2, s3, s4, s5, s6, s7, s8, s9, jb_mdl I J d e kp nm W, s11] (fun r h9 => r = some (.int ((((x) + (nI p)) * 2) - ((((x) + (nI p)) * 2) ^^^ ((-((x) - (nI (V 2 p)))) ^^^ (nI p))))) ∧ ∃ I9 W9, I9 0 = I 0 ∧ I9 3 = nI 9 ∧ (∀ r, ¬ r = 10 → W9 r = W r) ∧ W9 10 = jp_wr (W 10) 0 [71, 11, 10, 13, 11, 10, 70, 40, 12] ∧ h9 = [s0, s1, s2, s3, s4, s5, s6, s7, s8, s9, jb_mdl I9 J d e kp nm W9, s11]) := by
  refine jb_CofJ (ini := false) (by decide +kernel) (fun h => by cases h) (Nat.le_of_ble_eq_true rfl) ?_
  show jb_J sc RX12 cX12_voice 5 (Option.some .int) false 10 0 0 0 [some (.ref 105), some (.int (nI p)), some (.int 3), some (.int x), none] [] [s0, s1, s2, s3, s4, s5, s6, s7, s8, s9, jb_mdl I J d e kp nm W, s11] _
  have hd0 := hd
  have hk0 := hk
  obtain ⟨e0, e1, e2, e3, e4, e5, e6, dv, ds, dd⟩ := hd
  obtain ⟨k0, k1, k2, k3, k4, k5, k6, k7, kv, ks, kd⟩ := hk
  have q0 := kv p hp
  refine jb_aload_n (pc' := 1) dX12_voice_0 rfl rfl ?_
  refine jb_iload_n (pc' := 2) dX12_voice_1 rfl rfl ?_
  refine jb_callV (pc' := 5) (ci := 12) (q := 105) (As := [.int (nI p)]) (a2 := 0) (b2 := 0) wv_X12_149 rfl dX12_voice_2 (c_isVoiceG I J d e kp nm W hd0 hk0 p (by omega)) rfl rfl ⟨by decide, Nat.le_of_eq (Nat.zero_add _), Nat.le_of_eq (Nat.zero_add _)⟩ (Nat.le_of_ble_eq_true rfl) rfl (fun r h9 hq => ?_)
  obtain ⟨rfl, rfl⟩ := hq
  show jb_J _ RX12 cX12_voice 5 (Option.some .int) false 10 0 0 5 [some (.ref 105), some (.int (nI p)), some (.int 3), some (.int x), none] [.int 1] [s0, s1, s2, s3, s4, s5, s6, s7, s8, s9, jb_mdl I J d e kp nm W, s11] _
  refine jb_if_eq (tgt := 20) (pc' := 8) dX12_voice_5 (by decide) rfl (fun z => absurd z (by decide)) (fun _ => ?_)
  refine jb_iload_n (pc' := 9) dX12_voice_8 rfl rfl ?_
  refine jb_i2l (pc' := 10) dX12_voice_9 rfl ?_
  refine jb_lconst (pc' := 11) 0 dX12_voice_10 (by decide) rfl ?_
  refine jb_ldc2 (pc' := 14) 3 dX12_voice_11 wk_X12_152 rfl ?_
  refine jb_callS (pc' := 17) (As := [.long ((3 : Int32).toInt64), .long 0, .long 3]) (a2 := 0) (b2 := 0) wv_X12_56 dX12_voice_14 (c_inLG _ 3 0 3 (by omega) (by omega) (by omega)) rfl ⟨by decide, Nat.le_of_eq (Nat.zero_add _), Nat.le_of_eq (Nat.zero_add _)⟩ (Nat.le_of_ble_eq_true rfl) rfl (fun r h9 hq => ?_)
  obtain ⟨rfl, rfl⟩ := hq
  show jb_J _ RX12 cX12_voice 5 (Option.some .int) false 10 0 0 17 [some (.ref 105), some (.int (nI p)), some (.int 3), some (.int x), none] [.int 1] [s0, s1, s2, s3, s4, s5, s6, s7, s8, s9, jb_mdl I J d e kp nm W, s11] _
  refine jb_if_ne (tgt := 26) (pc' := 20) dX12_voice_17 (by decide) rfl (fun _ => ?_) (fun z => absurd z (by decide))
  refine jb_aload_n (pc' := 27) dX12_voice_26 rfl rfl ?_
  refine jb_iconst (pc' := 28) 0 dX12_voice_27 (by decide) rfl ?_
  refine pf_X12_259 (pc' := 31) (h' := [s0, s1, s2, s3, s4, s5, s6, s7, s8, s9, jb_mdl (upd I 3 0) J d e kp nm W, s11]) dX12_voice_28 (fun _ => ⟨rfl, rfl⟩) rfl (Nat.le_of_ble_eq_true rfl) rfl rfl ?_
  refine jb_aload_n (pc' := 32) dX12_voice_31 rfl rfl ?_
  refine jb_iload_n (pc' := 33) dX12_voice_32 rfl rfl ?_
  refine pf_X12_262 (pc' := 36) (h' := [s0, s1, s2, s3, s4, s5, s6, s7, s8, s9, jb_mdl (upd (upd I 3 0) 4 (nI p)) J d e kp nm W, s11]) dX12_voice_33 (fun _ => ⟨rfl, rfl⟩) rfl (Nat.le_of_ble_eq_true rfl) rfl rfl ?_
  refine jb_aload_n (pc' := 37) dX12_voice_36 rfl rfl ?_
  refine jb_callV (pc' := 40) (ci := 12) (q := 105) (As := []) (a2 := 0) (b2 := 0) wv_X12_271 rfl dX12_voice_37 (c_own (upd (upd I 3 0) 4 (nI p)) J d e kp nm W hd0 hk0 p hp rfl) rfl rfl ⟨by decide, Nat.le_of_eq (Nat.zero_add _), Nat.le_of_eq (Nat.zero_add _)⟩ (Nat.le_of_ble_eq_true rfl) rfl (fun r h9 hq => ?_)
  obtain ⟨rfl, rfl⟩ := hq
  rw [hkd]
  show jb_J _ RX12 cX12_voice 5 (Option.some .int) false 10 0 0 40 [some (.ref 105), some (.int (nI p)), some (.int 3), some (.int x), none] [.int 6] [s0, s1, s2, s3, s4, s5, s6, s7, s8, s9, jb_mdl (upd (upd I 3 0) 4 (nI p)) J d e kp nm W, s11] _
  refine jb_istore_ (pc' := 42) dX12_voice_40 (by decide) (jb_at4 rfl) rfl ?_
  refine jb_iload_n (pc' := 43) dX12_voice_42 rfl rfl ?_
  refine jb_if_ne (tgt := 56) (pc' := 46) dX12_voice_43 (by decide) rfl (fun _ => ?_) (fun z => absurd z (by decide))
  refine jb_iload_n (pc' := 57) dX12_voice_56 rfl rfl ?_
  refine jb_iconst (pc' := 58) 1 dX12_voice_57 (by decide) rfl ?_
  refine jb_icmp_ne (tgt := 71) (pc' := 61) dX12_voice_58 (by decide) rfl (fun _ => ?_) (fun z => absurd z (by decide))
  refine jb_iload_n (pc' := 72) dX12_voice_71 rfl rfl ?_
  refine jb_iconst (pc' := 73) 2 dX12_voice_72 (by decide) rfl ?_
  refine jb_icmp_ne (tgt := 86) (pc' := 76) dX12_voice_73 (by decide) rfl (fun _ => ?_) (fun z => absurd z (by decide))
  refine jb_aload_n (pc' := 87) dX12_voice_86 rfl rfl ?_
  refine jb_iload (pc' := 89) dX12_voice_87 rfl rfl ?_
  refine jb_iload_n (pc' := 90) dX12_voice_89 rfl rfl ?_
  refine jb_callV (pc' := 93) (ci := 12) (q := 105) (As := [.int 6, .int x]) (a2 := 0) (b2 := 0) wv_X12_280 rfl dX12_voice_90 (cm_tells_6_6 (upd (upd I 3 0) 4 (nI p)) J d e kp nm W hd0 hk0 p hp hkd rfl 0 rfl (by omega) x) rfl rfl ⟨by decide, Nat.le_of_eq (Nat.zero_add _), Nat.le_of_eq (Nat.zero_add _)⟩ (Nat.le_of_ble_eq_true rfl) rfl (fun r h9 hq => ?_)
  obtain ⟨rfl, I9, W9, hI9, h39, hW9, hT9, rfl⟩ := hq
  show jb_J _ RX12 cX12_voice 5 (Option.some .int) false 10 0 0 93 [some (.ref 105), some (.int (nI p)), some (.int 3), some (.int x), some (.int 6)] [.int ((((x) + (nI p)) * 2) - ((((x) + (nI p)) * 2) ^^^ ((-((x) - (nI (V 2 p)))) ^^^ (nI p))))] [s0, s1, s2, s3, s4, s5, s6, s7, s8, s9, jb_mdl I9 J d e kp nm W9, s11] _
  refine jb_iret dX12_voice_93 rfl ?_
  exact ⟨rfl, I9, W9, hI9 0 (by decide), by rw [h39], hW9, hT9, rfl⟩
set_option maxRecDepth 100000 in
set_option maxHeartbeats 4000000 in
theorem me_voice {sc : Nat × (Nat → Int32)} {s0 s1 s2 s3 s4 s5 s6 s7 s8 s9 s11 : List va_E} {V : Nat → Nat → Nat} (I J d e kp nm : Nat → Int32) (W : Nat → Nat → Int32) (hd : jd_ V d) (hk : jv_ok V) (p a x : Int32) (hb : ¬ (jn_b p 0 (V 0 1) ∧ jn_b a 0 4)) : jb_C sc yX12_voice cX12_voice 5 (Option.some .int) 2 0 0 [.ref 105, .int p, .int a, .int x] [s0, s1, s2, s3, s4, s5, s6, s7, s8, s9, jb_mdl I J d e kp nm W, s11] (fun r h9 => r = some (.int (jm_er 1)) ∧ h9 = [s0, s1, s2, s3, s4, s5, s6, s7, s8, s9, jb_mdl I J d e kp nm (va_up W 0 (jm_ef (W 0) 1)), s11]) := by
  refine jb_CofJ (ini := false) (by decide +kernel) (fun h => by cases h) (Nat.le_of_ble_eq_true rfl) ?_
  show jb_J sc RX12 cX12_voice 5 (Option.some .int) false 2 0 0 0 [some (.ref 105), some (.int p), some (.int a), some (.int x), none] [] [s0, s1, s2, s3, s4, s5, s6, s7, s8, s9, jb_mdl I J d e kp nm W, s11] _
  have hd0 := hd
  have hk0 := hk
  obtain ⟨e0, e1, e2, e3, e4, e5, e6, dv, ds, dd⟩ := hd
  obtain ⟨k0, k1, k2, k3, k4, k5, k6, k7, kv, ks, kd⟩ := hk
  refine jb_aload_n (pc' := 1) dX12_voice_0 rfl rfl ?_
  refine jb_iload_n (pc' := 2) dX12_voice_1 rfl rfl ?_
  refine jb_callV (pc' := 5) (ci := 12) (q := 105) (As := [.int p]) (a2 := 0) (b2 := 0) wv_X12_149 rfl dX12_voice_2 (c_isVoice I J d e kp nm W hd0 hk0 p) rfl rfl ⟨by decide, Nat.le_of_eq (Nat.zero_add _), Nat.le_of_eq (Nat.zero_add _)⟩ (Nat.le_of_ble_eq_true rfl) rfl (fun r h9 hq => ?_)
  rcases hq with ⟨rfl, ⟨o1, rfl⟩ | ⟨o1, rfl⟩⟩
  · show jb_J _ RX12 cX12_voice 5 (Option.some .int) false 2 0 0 5 [some (.ref 105), some (.int p), some (.int a), some (.int x), none] [.int 1] [s0, s1, s2, s3, s4, s5, s6, s7, s8, s9, jb_mdl I J d e kp nm W, s11] _
    refine jb_if_eq (tgt := 20) (pc' := 8) dX12_voice_5 (by decide) rfl (fun z => absurd z (by decide)) (fun _ => ?_)
    refine jb_iload_n (pc' := 9) dX12_voice_8 rfl rfl ?_
    refine jb_i2l (pc' := 10) dX12_voice_9 rfl ?_
    refine jb_lconst (pc' := 11) 0 dX12_voice_10 (by decide) rfl ?_
    refine jb_ldc2 (pc' := 14) 3 dX12_voice_11 wk_X12_152 rfl ?_
    refine jb_callS (pc' := 17) (As := [.long a.toInt64, .long 0, .long 3]) (a2 := 0) (b2 := 0) wv_X12_56 dX12_voice_14 (c_inL _ a 0 3 (by omega) (by omega)) rfl ⟨by decide, Nat.le_of_eq (Nat.zero_add _), Nat.le_of_eq (Nat.zero_add _)⟩ (Nat.le_of_ble_eq_true rfl) rfl (fun r h9 hq => ?_)
    rcases hq with ⟨rfl, ⟨o4, rfl⟩ | ⟨o4, rfl⟩⟩
    · exact absurd ⟨by assumption, by assumption⟩ hb
    · show jb_J _ RX12 cX12_voice 5 (Option.some .int) false 2 0 0 17 [some (.ref 105), some (.int p), some (.int a), some (.int x), none] [.int 0] [s0, s1, s2, s3, s4, s5, s6, s7, s8, s9, jb_mdl I J d e kp nm W, s11] _
      refine jb_if_ne (tgt := 26) (pc' := 20) dX12_voice_17 (by decide) rfl (fun z => absurd (by decide) z) (fun _ => ?_)
      refine jb_aload_n (pc' := 21) dX12_voice_20 rfl rfl ?_
      refine jb_iconst (pc' := 22) 1 dX12_voice_21 (by decide) rfl ?_
      refine jb_callV (pc' := 25) (ci := 12) (q := 105) (As := [.int 1]) (a2 := 0) (b2 := 0) wv_X12_121 rfl dX12_voice_22 (c_finds I J d e kp nm W 1 (by decide)) rfl rfl ⟨by decide, Nat.le_of_eq (Nat.zero_add _), Nat.le_of_eq (Nat.zero_add _)⟩ (Nat.le_of_ble_eq_true rfl) rfl (fun r h9 hq => ?_)
      obtain ⟨rfl, rfl⟩ := hq
      show jb_J _ RX12 cX12_voice 5 (Option.some .int) false 2 0 0 25 [some (.ref 105), some (.int p), some (.int a), some (.int x), none] [.int (jm_er 1)] [s0, s1, s2, s3, s4, s5, s6, s7, s8, s9, jb_mdl I J d e kp nm (va_up W 0 (jm_ef (W 0) 1)), s11] _
      refine jb_iret dX12_voice_25 rfl ?_
      exact ⟨rfl, rfl⟩
  · show jb_J _ RX12 cX12_voice 5 (Option.some .int) false 2 0 0 5 [some (.ref 105), some (.int p), some (.int a), some (.int x), none] [.int 0] [s0, s1, s2, s3, s4, s5, s6, s7, s8, s9, jb_mdl I J d e kp nm W, s11] _
    refine jb_if_eq (tgt := 20) (pc' := 8) dX12_voice_5 (by decide) rfl (fun _ => ?_) (fun z => absurd (by decide) z)
    refine jb_aload_n (pc' := 21) dX12_voice_20 rfl rfl ?_
    refine jb_iconst (pc' := 22) 1 dX12_voice_21 (by decide) rfl ?_
    refine jb_callV (pc' := 25) (ci := 12) (q := 105) (As := [.int 1]) (a2 := 0) (b2 := 0) wv_X12_121 rfl dX12_voice_22 (c_finds I J d e kp nm W 1 (by decide)) rfl rfl ⟨by decide, Nat.le_of_eq (Nat.zero_add _), Nat.le_of_eq (Nat.zero_add _)⟩ (Nat.le_of_ble_eq_true rfl) rfl (fun r h9 hq => ?_)
    obtain ⟨rfl, rfl⟩ := hq
    show jb_J _ RX12 cX12_voice 5 (Option.some .int) false 2 0 0 25 [some (.ref 105), some (.int p), some (.int a), some (.int x), none] [.int (jm_er 1)] [s0, s1, s2, s3, s4, s5, s6, s7, s8, s9, jb_mdl I J d e kp nm (va_up W 0 (jm_ef (W 0) 1)), s11] _
    refine jb_iret dX12_voice_25 rfl ?_
    exact ⟨rfl, rfl⟩
