set_option maxRecDepth 100000 in
set_option maxHeartbeats 4000000 in
theorem mx_air0 {sc : Nat × (Nat → Int32)} {s0 s1 s2 s3 s4 s5 s6 s7 s8 s9 s11 : List va_E} {V : Nat → Nat → Nat} (I J d e kp nm : Nat → Int32) (W : Nat → Nat → Int32) (hd : jd_ V d) (hk : jv_ok V) (x : Nat) (h1 : 1 ≤ x) (h2 : x ≤ 20) : jb_C sc yX12_air cX12_air 4 (Option.some .int) 1 0 0 [.ref 105, .int 0, .int (nI x)] [s0, s1, s2, s3, s4, s5, s6, s7, s8, s9, jb_mdl I J d e kp nm W, s11] (fun r h9 => r = some (.int (nI (V 0 4))) ∧ ∃ d9, jd_ (jv_up V 0 4 x) d9 ∧ d9 7 = d 7 ∧ jd_f d d9 ∧ h9 = [s0, s1, s2, s3, s4, s5, s6, s7, s8, s9, jb_mdl I J d9 e kp nm W, s11]) := by
  refine jb_CofJ (ini := false) (by decide +kernel) (fun h => by cases h) (Nat.le_of_ble_eq_true rfl) ?_
  show jb_J sc RX12 cX12_air 4 (Option.some .int) false 1 0 0 0 [some (.ref 105), some (.int 0), some (.int (nI x)), none] [] [s0, s1, s2, s3, s4, s5, s6, s7, s8, s9, jb_mdl I J d e kp nm W, s11] _
  have hd0 := hd
  have hk0 := hk
  obtain ⟨e0, e1, e2, e3, e4, e5, e6, dv, ds, dd⟩ := hd
  obtain ⟨k0, k1, k2, k3, k4, k5, k6, k7, kv, ks, kd⟩ := hk
  refine jb_iload_n (pc' := 1) dX12_air_0 rfl rfl ?_
  refine jb_i2l (pc' := 2) dX12_air_1 rfl ?_
  refine jb_lconst (pc' := 3) 0 dX12_air_2 (by decide) rfl ?_
  refine jb_ldc2 (pc' := 6) 2 dX12_air_3 wk_X12_137 rfl ?_
  refine jb_callS (pc' := 9) (As := [.long ((0 : Int32).toInt64), .long 0, .long 2]) (a2 := 0) (b2 := 0) wv_X12_56 dX12_air_6 (c_inLG _ 0 0 2 (by omega) (by omega) (by omega)) rfl ⟨by decide, Nat.le_of_eq (Nat.zero_add _), Nat.le_of_eq (Nat.zero_add _)⟩ (Nat.le_of_ble_eq_true rfl) rfl (fun r h9 hq => ?_)
  obtain ⟨rfl, rfl⟩ := hq
  show jb_J _ RX12 cX12_air 4 (Option.some .int) false 1 0 0 9 [some (.ref 105), some (.int 0), some (.int (nI x)), none] [.int 1] [s0, s1, s2, s3, s4, s5, s6, s7, s8, s9, jb_mdl I J d e kp nm W, s11] _
  refine jb_if_eq (tgt := 43) (pc' := 12) dX12_air_9 (by decide) rfl (fun z => absurd z (by decide)) (fun _ => ?_)
  refine jb_iload_n (pc' := 13) dX12_air_12 rfl rfl ?_
  refine jb_if_ne (tgt := 31) (pc' := 16) dX12_air_13 (by decide) rfl (fun z => absurd (by decide) z) (fun _ => ?_)
  refine jb_iload_n (pc' := 17) dX12_air_16 rfl rfl ?_
  refine jb_i2l (pc' := 18) dX12_air_17 rfl ?_
  refine jb_lconst (pc' := 19) 1 dX12_air_18 (by decide) rfl ?_
  refine jb_ldc2 (pc' := 22) 20 dX12_air_19 wk_X12_139 rfl ?_
  refine jb_callS (pc' := 25) (As := [.long ((nI x).toInt64), .long 1, .long 20]) (a2 := 0) (b2 := 0) wv_X12_56 dX12_air_22 (c_inLG _ x 1 20 (by omega) (by omega) (by omega)) rfl ⟨by decide, Nat.le_of_eq (Nat.zero_add _), Nat.le_of_eq (Nat.zero_add _)⟩ (Nat.le_of_ble_eq_true rfl) rfl (fun r h9 hq => ?_)
  obtain ⟨rfl, rfl⟩ := hq
  show jb_J _ RX12 cX12_air 4 (Option.some .int) false 1 0 0 25 [some (.ref 105), some (.int 0), some (.int (nI x)), none] [.int 1] [s0, s1, s2, s3, s4, s5, s6, s7, s8, s9, jb_mdl I J d e kp nm W, s11] _
  refine jb_if_eq (tgt := 43) (pc' := 28) dX12_air_25 (by decide) rfl (fun z => absurd z (by decide)) (fun _ => ?_)
  refine jb_goto (pc' := 49) dX12_air_28 (by decide) ?_
  refine jb_aload_n (pc' := 50) dX12_air_49 rfl rfl ?_
  refine gf_X12_7 (pc' := 53) (v := .ref 106) dX12_air_50 rfl rfl rfl ?_
  refine jb_iload_n (pc' := 54) dX12_air_53 rfl rfl ?_
  refine jb_iaload (pc' := 55) (i9 := 0) (f := d) dX12_air_54 rfl jb_x0 (by decide) rfl ?_
  refine jb_top (v := .int (d 0)) (w := .int (nI (V 0 4))) (jb_vI e0) ?_
  refine jb_istore_n_ (pc' := 56) dX12_air_55 (by decide) (jb_at3 rfl) rfl ?_
  refine jb_aload_n (pc' := 57) dX12_air_56 rfl rfl ?_
  refine gf_X12_7 (pc' := 60) (v := .ref 106) dX12_air_57 rfl rfl rfl ?_
  refine jb_iload_n (pc' := 61) dX12_air_60 rfl rfl ?_
  refine jb_iload_n (pc' := 62) dX12_air_61 rfl rfl ?_
  refine jb_iastore (pc' := 63) (i9 := 0) (f := d) (h' := [s0, s1, s2, s3, s4, s5, s6, s7, s8, s9, jb_mdl I J (upd d 0 (nI x)) e kp nm W, s11]) dX12_air_62 rfl jb_x0 (by decide) rfl rfl ?_
  refine jb_iload_n (pc' := 64) dX12_air_63 rfl rfl ?_
  refine jb_iret dX12_air_64 rfl ?_
  exact ⟨rfl, (upd d 0 (nI x)), jd_air0 hd0 hk0 x, by rw [jb_une (by omega)], ⟨by rw [jb_une (by omega)], by rw [jb_une (by omega)], fun k hk => by rw [jb_une (by omega)]⟩, rfl⟩
set_option maxRecDepth 100000 in
set_option maxHeartbeats 4000000 in
theorem me_air0 {sc : Nat × (Nat → Int32)} {s0 s1 s2 s3 s4 s5 s6 s7 s8 s9 s11 : List va_E} {V : Nat → Nat → Nat} (I J d e kp nm : Nat → Int32) (W : Nat → Nat → Int32) (hd : jd_ V d) (hk : jv_ok V) (v : Int32) (hb : ¬ jn_b v 1 21) : jb_C sc yX12_air cX12_air 4 (Option.some .int) 1 0 0 [.ref 105, .int 0, .int v] [s0, s1, s2, s3, s4, s5, s6, s7, s8, s9, jb_mdl I J d e kp nm W, s11] (fun r h9 => r = some (.int (jm_er 1)) ∧ h9 = [s0, s1, s2, s3, s4, s5, s6, s7, s8, s9, jb_mdl I J d e kp nm (va_up W 0 (jm_ef (W 0) 1)), s11]) := by
  refine jb_CofJ (ini := false) (by decide +kernel) (fun h => by cases h) (Nat.le_of_ble_eq_true rfl) ?_
  show jb_J sc RX12 cX12_air 4 (Option.some .int) false 1 0 0 0 [some (.ref 105), some (.int 0), some (.int v), none] [] [s0, s1, s2, s3, s4, s5, s6, s7, s8, s9, jb_mdl I J d e kp nm W, s11] _
  have hd0 := hd
  have hk0 := hk
  obtain ⟨e0, e1, e2, e3, e4, e5, e6, dv, ds, dd⟩ := hd
  obtain ⟨k0, k1, k2, k3, k4, k5, k6, k7, kv, ks, kd⟩ := hk
  refine jb_iload_n (pc' := 1) dX12_air_0 rfl rfl ?_
  refine jb_i2l (pc' := 2) dX12_air_1 rfl ?_
  refine jb_lconst (pc' := 3) 0 dX12_air_2 (by decide) rfl ?_
  refine jb_ldc2 (pc' := 6) 2 dX12_air_3 wk_X12_137 rfl ?_
  refine jb_callS (pc' := 9) (As := [.long ((0 : Int32).toInt64), .long 0, .long 2]) (a2 := 0) (b2 := 0) wv_X12_56 dX12_air_6 (c_inLG _ 0 0 2 (by omega) (by omega) (by omega)) rfl ⟨by decide, Nat.le_of_eq (Nat.zero_add _), Nat.le_of_eq (Nat.zero_add _)⟩ (Nat.le_of_ble_eq_true rfl) rfl (fun r h9 hq => ?_)
  obtain ⟨rfl, rfl⟩ := hq
  show jb_J _ RX12 cX12_air 4 (Option.some .int) false 1 0 0 9 [some (.ref 105), some (.int 0), some (.int v), none] [.int 1] [s0, s1, s2, s3, s4, s5, s6, s7, s8, s9, jb_mdl I J d e kp nm W, s11] _
  refine jb_if_eq (tgt := 43) (pc' := 12) dX12_air_9 (by decide) rfl (fun z => absurd z (by decide)) (fun _ => ?_)
  refine jb_iload_n (pc' := 13) dX12_air_12 rfl rfl ?_
  refine jb_if_ne (tgt := 31) (pc' := 16) dX12_air_13 (by decide) rfl (fun z => absurd (by decide) z) (fun _ => ?_)
  refine jb_iload_n (pc' := 17) dX12_air_16 rfl rfl ?_
  refine jb_i2l (pc' := 18) dX12_air_17 rfl ?_
  refine jb_lconst (pc' := 19) 1 dX12_air_18 (by decide) rfl ?_
  refine jb_ldc2 (pc' := 22) 20 dX12_air_19 wk_X12_139 rfl ?_
  refine jb_callS (pc' := 25) (As := [.long v.toInt64, .long 1, .long 20]) (a2 := 0) (b2 := 0) wv_X12_56 dX12_air_22 (c_inL _ v 1 20 (by omega) (by omega)) rfl ⟨by decide, Nat.le_of_eq (Nat.zero_add _), Nat.le_of_eq (Nat.zero_add _)⟩ (Nat.le_of_ble_eq_true rfl) rfl (fun r h9 hq => ?_)
  rcases hq with ⟨rfl, ⟨o5, rfl⟩ | ⟨o5, rfl⟩⟩
  · show jb_J _ RX12 cX12_air 4 (Option.some .int) false 1 0 0 25 [some (.ref 105), some (.int 0), some (.int v), none] [.int 1] [s0, s1, s2, s3, s4, s5, s6, s7, s8, s9, jb_mdl I J d e kp nm W, s11] _
    refine jb_if_eq (tgt := 43) (pc' := 28) dX12_air_25 (by decide) rfl (fun z => absurd z (by decide)) (fun _ => ?_)
    refine jb_goto (pc' := 49) dX12_air_28 (by decide) ?_
    refine jb_aload_n (pc' := 50) dX12_air_49 rfl rfl ?_
    refine gf_X12_7 (pc' := 53) (v := .ref 106) dX12_air_50 rfl rfl rfl ?_
    refine jb_iload_n (pc' := 54) dX12_air_53 rfl rfl ?_
    refine jb_iaload (pc' := 55) (i9 := 0) (f := d) dX12_air_54 rfl jb_x0 (by decide) rfl ?_
    refine jb_top (v := .int (d 0)) (w := .int (nI (V 0 4))) (jb_vI e0) ?_
    refine jb_istore_n_ (pc' := 56) dX12_air_55 (by decide) (jb_at3 rfl) rfl ?_
    refine jb_aload_n (pc' := 57) dX12_air_56 rfl rfl ?_
    refine gf_X12_7 (pc' := 60) (v := .ref 106) dX12_air_57 rfl rfl rfl ?_
    refine jb_iload_n (pc' := 61) dX12_air_60 rfl rfl ?_
    refine jb_iload_n (pc' := 62) dX12_air_61 rfl rfl ?_
    refine jb_iastore (pc' := 63) (i9 := 0) (f := d) (h' := [s0, s1, s2, s3, s4, s5, s6, s7, s8, s9, jb_mdl I J (upd d 0 v) e kp nm W, s11]) dX12_air_62 rfl jb_x0 (by decide) rfl rfl ?_
    refine jb_iload_n (pc' := 64) dX12_air_63 rfl rfl ?_
    refine jb_iret dX12_air_64 rfl ?_
    exact absurd (by assumption) hb
  · show jb_J _ RX12 cX12_air 4 (Option.some .int) false 1 0 0 25 [some (.ref 105), some (.int 0), some (.int v), none] [.int 0] [s0, s1, s2, s3, s4, s5, s6, s7, s8, s9, jb_mdl I J d e kp nm W, s11] _
    refine jb_if_eq (tgt := 43) (pc' := 28) dX12_air_25 (by decide) rfl (fun _ => ?_) (fun z => absurd (by decide) z)
    refine jb_aload_n (pc' := 44) dX12_air_43 rfl rfl ?_
    refine jb_iconst (pc' := 45) 1 dX12_air_44 (by decide) rfl ?_
    refine jb_callV (pc' := 48) (ci := 12) (q := 105) (As := [.int 1]) (a2 := 0) (b2 := 0) wv_X12_121 rfl dX12_air_45 (c_finds I J d e kp nm W 1 (by decide)) rfl rfl ⟨by decide, Nat.le_of_eq (Nat.zero_add _), Nat.le_of_eq (Nat.zero_add _)⟩ (Nat.le_of_ble_eq_true rfl) rfl (fun r h9 hq => ?_)
    obtain ⟨rfl, rfl⟩ := hq
    show jb_J _ RX12 cX12_air 4 (Option.some .int) false 1 0 0 48 [some (.ref 105), some (.int 0), some (.int v), none] [.int (jm_er 1)] [s0, s1, s2, s3, s4, s5, s6, s7, s8, s9, jb_mdl I J d e kp nm (va_up W 0 (jm_ef (W 0) 1)), s11] _
    refine jb_iret dX12_air_48 rfl ?_
    exact ⟨rfl, rfl⟩
set_option maxRecDepth 100000 in
set_option maxHeartbeats 4000000 in
theorem mx_air1 {sc : Nat × (Nat → Int32)} {s0 s1 s2 s3 s4 s5 s6 s7 s8 s9 s11 : List va_E} {V : Nat → Nat → Nat} (I J d e kp nm : Nat → Int32) (W : Nat → Nat → Int32) (hd : jd_ V d) (hk : jv_ok V) (x : Nat) (h1 : 0 ≤ x) (h2 : x ≤ 9) : jb_C sc yX12_air cX12_air 4 (Option.some .int) 1 0 0 [.ref 105, .int 1, .int (nI x)] [s0, s1, s2, s3, s4, s5, s6, s7, s8, s9, jb_mdl I J d e kp nm W, s11] (fun r h9 => r = some (.int (nI (V 0 5))) ∧ ∃ d9, jd_ (jv_up V 0 5 x) d9 ∧ d9 7 = d 7 ∧ jd_f d d9 ∧ h9 = [s0, s1, s2, s3, s4, s5, s6, s7, s8, s9, jb_mdl I J d9 e kp nm W, s11]) := by
  refine jb_CofJ (ini := false) (by decide +kernel) (fun h => by cases h) (Nat.le_of_ble_eq_true rfl) ?_
  show jb_J sc RX12 cX12_air 4 (Option.some .int) false 1 0 0 0 [some (.ref 105), some (.int 1), some (.int (nI x)), none] [] [s0, s1, s2, s3, s4, s5, s6, s7, s8, s9, jb_mdl I J d e kp nm W, s11] _
  have hd0 := hd
  have hk0 := hk
  obtain ⟨e0, e1, e2, e3, e4, e5, e6, dv, ds, dd⟩ := hd
  obtain ⟨k0, k1, k2, k3, k4, k5, k6, k7, kv, ks, kd⟩ := hk
  refine jb_iload_n (pc' := 1) dX12_air_0 rfl rfl ?_
  refine jb_i2l (pc' := 2) dX12_air_1 rfl ?_
  refine jb_lconst (pc' := 3) 0 dX12_air_2 (by decide) rfl ?_
  refine jb_ldc2 (pc' := 6) 2 dX12_air_3 wk_X12_137 rfl ?_
  refine jb_callS (pc' := 9) (As := [.long ((1 : Int32).toInt64), .long 0, .long 2]) (a2 := 0) (b2 := 0) wv_X12_56 dX12_air_6 (c_inLG _ 1 0 2 (by omega) (by omega) (by omega)) rfl ⟨by decide, Nat.le_of_eq (Nat.zero_add _), Nat.le_of_eq (Nat.zero_add _)⟩ (Nat.le_of_ble_eq_true rfl) rfl (fun r h9 hq => ?_)
  obtain ⟨rfl, rfl⟩ := hq
  show jb_J _ RX12 cX12_air 4 (Option.some .int) false 1 0 0 9 [some (.ref 105), some (.int 1), some (.int (nI x)), none] [.int 1] [s0, s1, s2, s3, s4, s5, s6, s7, s8, s9, jb_mdl I J d e kp nm W, s11] _
  refine jb_if_eq (tgt := 43) (pc' := 12) dX12_air_9 (by decide) rfl (fun z => absurd z (by decide)) (fun _ => ?_)
  refine jb_iload_n (pc' := 13) dX12_air_12 rfl rfl ?_
  refine jb_if_ne (tgt := 31) (pc' := 16) dX12_air_13 (by decide) rfl (fun _ => ?_) (fun z => absurd z (by decide))
  refine jb_iload_n (pc' := 32) dX12_air_31 rfl rfl ?_
  refine jb_i2l (pc' := 33) dX12_air_32 rfl ?_
  refine jb_lconst (pc' := 34) 0 dX12_air_33 (by decide) rfl ?_
  refine jb_ldc2 (pc' := 37) 9 dX12_air_34 wk_X12_141 rfl ?_
  refine jb_callS (pc' := 40) (As := [.long ((nI x).toInt64), .long 0, .long 9]) (a2 := 0) (b2 := 0) wv_X12_56 dX12_air_37 (c_inLG _ x 0 9 (by omega) (by omega) (by omega)) rfl ⟨by decide, Nat.le_of_eq (Nat.zero_add _), Nat.le_of_eq (Nat.zero_add _)⟩ (Nat.le_of_ble_eq_true rfl) rfl (fun r h9 hq => ?_)
  obtain ⟨rfl, rfl⟩ := hq
  show jb_J _ RX12 cX12_air 4 (Option.some .int) false 1 0 0 40 [some (.ref 105), some (.int 1), some (.int (nI x)), none] [.int 1] [s0, s1, s2, s3, s4, s5, s6, s7, s8, s9, jb_mdl I J d e kp nm W, s11] _
  refine jb_if_ne (tgt := 49) (pc' := 43) dX12_air_40 (by decide) rfl (fun _ => ?_) (fun z => absurd z (by decide))
  refine jb_aload_n (pc' := 50) dX12_air_49 rfl rfl ?_
  refine gf_X12_7 (pc' := 53) (v := .ref 106) dX12_air_50 rfl rfl rfl ?_
  refine jb_iload_n (pc' := 54) dX12_air_53 rfl rfl ?_
  refine jb_iaload (pc' := 55) (i9 := 1) (f := d) dX12_air_54 rfl jb_x1 (by decide) rfl ?_
  refine jb_top (v := .int (d 1)) (w := .int (nI (V 0 5))) (jb_vI e1) ?_
  refine jb_istore_n_ (pc' := 56) dX12_air_55 (by decide) (jb_at3 rfl) rfl ?_
  refine jb_aload_n (pc' := 57) dX12_air_56 rfl rfl ?_
  refine gf_X12_7 (pc' := 60) (v := .ref 106) dX12_air_57 rfl rfl rfl ?_
  refine jb_iload_n (pc' := 61) dX12_air_60 rfl rfl ?_
  refine jb_iload_n (pc' := 62) dX12_air_61 rfl rfl ?_
  refine jb_iastore (pc' := 63) (i9 := 1) (f := d) (h' := [s0, s1, s2, s3, s4, s5, s6, s7, s8, s9, jb_mdl I J (upd d 1 (nI x)) e kp nm W, s11]) dX12_air_62 rfl jb_x1 (by decide) rfl rfl ?_
  refine jb_iload_n (pc' := 64) dX12_air_63 rfl rfl ?_
  refine jb_iret dX12_air_64 rfl ?_
  exact ⟨rfl, (upd d 1 (nI x)), jd_air1 hd0 hk0 x, by rw [jb_une (by omega)], ⟨by rw [jb_une (by omega)], by rw [jb_une (by omega)], fun k hk => by rw [jb_une (by omega)]⟩, rfl⟩
set_option maxRecDepth 100000 in
set_option maxHeartbeats 4000000 in
theorem me_air1 {sc : Nat × (Nat → Int32)} {s0 s1 s2 s3 s4 s5 s6 s7 s8 s9 s11 : List va_E} {V : Nat → Nat → Nat} (I J d e kp nm : Nat → Int32) (W : Nat → Nat → Int32) (hd : jd_ V d) (hk : jv_ok V) (v : Int32) (hb : ¬ jn_b v 0 10) : jb_C sc yX12_air cX12_air 4 (Option.some .int) 1 0 0 [.ref 105, .int 1, .int v] [s0, s1, s2, s3, s4, s5, s6, s7, s8, s9, jb_mdl I J d e kp nm W, s11] (fun r h9 => r = some (.int (jm_er 1)) ∧ h9 = [s0, s1, s2, s3, s4, s5, s6, s7, s8, s9, jb_mdl I J d e kp nm (va_up W 0 (jm_ef (W 0) 1)), s11]) := by
  refine jb_CofJ (ini := false) (by decide +kernel) (fun h => by cases h) (Nat.le_of_ble_eq_true rfl) ?_
  show jb_J sc RX12 cX12_air 4 (Option.some .int) false 1 0 0 0 [some (.ref 105), some (.int 1), some (.int v), none] [] [s0, s1, s2, s3, s4, s5, s6, s7, s8, s9, jb_mdl I J d e kp nm W, s11] _
  have hd0 := hd
  have hk0 := hk
  obtain ⟨e0, e1, e2, e3, e4, e5, e6, dv, ds, dd⟩ := hd
  obtain ⟨k0, k1, k2, k3, k4, k5, k6, k7, kv, ks, kd⟩ := hk
  refine jb_iload_n (pc' := 1) dX12_air_0 rfl rfl ?_
  refine jb_i2l (pc' := 2) dX12_air_1 rfl ?_
  refine jb_lconst (pc' := 3) 0 dX12_air_2 (by decide) rfl ?_
  refine jb_ldc2 (pc' := 6) 2 dX12_air_3 wk_X12_137 rfl ?_
  refine jb_callS (pc' := 9) (As := [.long ((1 : Int32).toInt64), .long 0, .long 2]) (a2 := 0) (b2 := 0) wv_X12_56 dX12_air_6 (c_inLG _ 1 0 2 (by omega) (by omega) (by omega)) rfl ⟨by decide, Nat.le_of_eq (Nat.zero_add _), Nat.le_of_eq (Nat.zero_add _)⟩ (Nat.le_of_ble_eq_true rfl) rfl (fun r h9 hq => ?_)
  obtain ⟨rfl, rfl⟩ := hq
  show jb_J _ RX12 cX12_air 4 (Option.some .int) false 1 0 0 9 [some (.ref 105), some (.int 1), some (.int v), none] [.int 1] [s0, s1, s2, s3, s4, s5, s6, s7, s8, s9, jb_mdl I J d e kp nm W, s11] _
  refine jb_if_eq (tgt := 43) (pc' := 12) dX12_air_9 (by decide) rfl (fun z => absurd z (by decide)) (fun _ => ?_)
  refine jb_iload_n (pc' := 13) dX12_air_12 rfl rfl ?_
  refine jb_if_ne (tgt := 31) (pc' := 16) dX12_air_13 (by decide) rfl (fun _ => ?_) (fun z => absurd z (by decide))
  refine jb_iload_n (pc' := 32) dX12_air_31 rfl rfl ?_
  refine jb_i2l (pc' := 33) dX12_air_32 rfl ?_
  refine jb_lconst (pc' := 34) 0 dX12_air_33 (by decide) rfl ?_
  refine jb_ldc2 (pc' := 37) 9 dX12_air_34 wk_X12_141 rfl ?_
  refine jb_callS (pc' := 40) (As := [.long v.toInt64, .long 0, .long 9]) (a2 := 0) (b2 := 0) wv_X12_56 dX12_air_37 (c_inL _ v 0 9 (by omega) (by omega)) rfl ⟨by decide, Nat.le_of_eq (Nat.zero_add _), Nat.le_of_eq (Nat.zero_add _)⟩ (Nat.le_of_ble_eq_true rfl) rfl (fun r h9 hq => ?_)
  rcases hq with ⟨rfl, ⟨o5, rfl⟩ | ⟨o5, rfl⟩⟩
  · show jb_J _ RX12 cX12_air 4 (Option.some .int) false 1 0 0 40 [some (.ref 105), some (.int 1), some (.int v), none] [.int 1] [s0, s1, s2, s3, s4, s5, s6, s7, s8, s9, jb_mdl I J d e kp nm W, s11] _
    refine jb_if_ne (tgt := 49) (pc' := 43) dX12_air_40 (by decide) rfl (fun _ => ?_) (fun z => absurd z (by decide))
    refine jb_aload_n (pc' := 50) dX12_air_49 rfl rfl ?_
    refine gf_X12_7 (pc' := 53) (v := .ref 106) dX12_air_50 rfl rfl rfl ?_
    refine jb_iload_n (pc' := 54) dX12_air_53 rfl rfl ?_
    refine jb_iaload (pc' := 55) (i9 := 1) (f := d) dX12_air_54 rfl jb_x1 (by decide) rfl ?_
    refine jb_top (v := .int (d 1)) (w := .int (nI (V 0 5))) (jb_vI e1) ?_
    refine jb_istore_n_ (pc' := 56) dX12_air_55 (by decide) (jb_at3 rfl) rfl ?_
    refine jb_aload_n (pc' := 57) dX12_air_56 rfl rfl ?_
    refine gf_X12_7 (pc' := 60) (v := .ref 106) dX12_air_57 rfl rfl rfl ?_
    refine jb_iload_n (pc' := 61) dX12_air_60 rfl rfl ?_
    refine jb_iload_n (pc' := 62) dX12_air_61 rfl rfl ?_
    refine jb_iastore (pc' := 63) (i9 := 1) (f := d) (h' := [s0, s1, s2, s3, s4, s5, s6, s7, s8, s9, jb_mdl I J (upd d 1 v) e kp nm W, s11]) dX12_air_62 rfl jb_x1 (by decide) rfl rfl ?_
    refine jb_iload_n (pc' := 64) dX12_air_63 rfl rfl ?_
    refine jb_iret dX12_air_64 rfl ?_
    exact absurd (by assumption) hb
  · show jb_J _ RX12 cX12_air 4 (Option.some .int) false 1 0 0 40 [some (.ref 105), some (.int 1), some (.int v), none] [.int 0] [s0, s1, s2, s3, s4, s5, s6, s7, s8, s9, jb_mdl I J d e kp nm W, s11] _
    refine jb_if_ne (tgt := 49) (pc' := 43) dX12_air_40 (by decide) rfl (fun z => absurd (by decide) z) (fun _ => ?_)
    refine jb_aload_n (pc' := 44) dX12_air_43 rfl rfl ?_
    refine jb_iconst (pc' := 45) 1 dX12_air_44 (by decide) rfl ?_
    refine jb_callV (pc' := 48) (ci := 12) (q := 105) (As := [.int 1]) (a2 := 0) (b2 := 0) wv_X12_121 rfl dX12_air_45 (c_finds I J d e kp nm W 1 (by decide)) rfl rfl ⟨by decide, Nat.le_of_eq (Nat.zero_add _), Nat.le_of_eq (Nat.zero_add _)⟩ (Nat.le_of_ble_eq_true rfl) rfl (fun r h9 hq => ?_)
    obtain ⟨rfl, rfl⟩ := hq
    show jb_J _ RX12 cX12_air 4 (Option.some .int) false 1 0 0 48 [some (.ref 105), some (.int 1), some (.int v), none] [.int (jm_er 1)] [s0, s1, s2, s3, s4, s5, s6, s7, s8, s9, jb_mdl I J d e kp nm (va_up W 0 (jm_ef (W 0) 1)), s11] _
    refine jb_iret dX12_air_48 rfl ?_
    exact ⟨rfl, rfl⟩
set_option maxRecDepth 100000 in
set_option maxHeartbeats 4000000 in
theorem mx_air2 {sc : Nat × (Nat → Int32)} {s0 s1 s2 s3 s4 s5 s6 s7 s8 s9 s11 : List va_E} {V : Nat → Nat → Nat} (I J d e kp nm : Nat → Int32) (W : Nat → Nat → Int32) (hd : jd_ V d) (hk : jv_ok V) (x : Nat) (h1 : 0 ≤ x) (h2 : x ≤ 9) : jb_C sc yX12_air cX12_air 4 (Option.some .int) 1 0 0 [.ref 105, .int 2, .int (nI x)] [s0, s1, s2, s3, s4, s5, s6, s7, s8, s9, jb_mdl I J d e kp nm W, s11] (fun r h9 => r = some (.int (nI (V 0 6))) ∧ ∃ d9, jd_ (jv_up V 0 6 x) d9 ∧ d9 7 = d 7 ∧ jd_f d d9 ∧ h9 = [s0, s1, s2, s3, s4, s5, s6, s7, s8, s9, jb_mdl I J d9 e kp nm W, s11]) := by
  refine jb_CofJ (ini := false) (by decide +kernel) (fun h => by cases h) (Nat.le_of_ble_eq_true rfl) ?_
  show jb_J sc RX12 cX12_air 4 (Option.some .int) false 1 0 0 0 [some (.ref 105), some (.int 2), some (.int (nI x)), none] [] [s0, s1, s2, s3, s4, s5, s6, s7, s8, s9, jb_mdl I J d e kp nm W, s11] _
  have hd0 := hd
  have hk0 := hk
  obtain ⟨e0, e1, e2, e3, e4, e5, e6, dv, ds, dd⟩ := hd
  obtain ⟨k0, k1, k2, k3, k4, k5, k6, k7, kv, ks, kd⟩ := hk
  refine jb_iload_n (pc' := 1) dX12_air_0 rfl rfl ?_
  refine jb_i2l (pc' := 2) dX12_air_1 rfl ?_
  refine jb_lconst (pc' := 3) 0 dX12_air_2 (by decide) rfl ?_
  refine jb_ldc2 (pc' := 6) 2 dX12_air_3 wk_X12_137 rfl ?_
  refine jb_callS (pc' := 9) (As := [.long ((2 : Int32).toInt64), .long 0, .long 2]) (a2 := 0) (b2 := 0) wv_X12_56 dX12_air_6 (c_inLG _ 2 0 2 (by omega) (by omega) (by omega)) rfl ⟨by decide, Nat.le_of_eq (Nat.zero_add _), Nat.le_of_eq (Nat.zero_add _)⟩ (Nat.le_of_ble_eq_true rfl) rfl (fun r h9 hq => ?_)
  obtain ⟨rfl, rfl⟩ := hq
  show jb_J _ RX12 cX12_air 4 (Option.some .int) false 1 0 0 9 [some (.ref 105), some (.int 2), some (.int (nI x)), none] [.int 1] [s0, s1, s2, s3, s4, s5, s6, s7, s8, s9, jb_mdl I J d e kp nm W, s11] _
  refine jb_if_eq (tgt := 43) (pc' := 12) dX12_air_9 (by decide) rfl (fun z => absurd z (by decide)) (fun _ => ?_)
  refine jb_iload_n (pc' := 13) dX12_air_12 rfl rfl ?_
  refine jb_if_ne (tgt := 31) (pc' := 16) dX12_air_13 (by decide) rfl (fun _ => ?_) (fun z => absurd z (by decide))
  refine jb_iload_n (pc' := 32) dX12_air_31 rfl rfl ?_
  refine jb_i2l (pc' := 33) dX12_air_32 rfl ?_
  refine jb_lconst (pc' := 34) 0 dX12_air_33 (by decide) rfl ?_
  refine jb_ldc2 (pc' := 37) 9 dX12_air_34 wk_X12_141 rfl ?_
  refine jb_callS (pc' := 40) (As := [.long ((nI x).toInt64), .long 0, .long 9]) (a2 := 0) (b2 := 0) wv_X12_56 dX12_air_37 (c_inLG _ x 0 9 (by omega) (by omega) (by omega)) rfl ⟨by decide, Nat.le_of_eq (Nat.zero_add _), Nat.le_of_eq (Nat.zero_add _)⟩ (Nat.le_of_ble_eq_true rfl) rfl (fun r h9 hq => ?_)
  obtain ⟨rfl, rfl⟩ := hq
  show jb_J _ RX12 cX12_air 4 (Option.some .int) false 1 0 0 40 [some (.ref 105), some (.int 2), some (.int (nI x)), none] [.int 1] [s0, s1, s2, s3, s4, s5, s6, s7, s8, s9, jb_mdl I J d e kp nm W, s11] _
  refine jb_if_ne (tgt := 49) (pc' := 43) dX12_air_40 (by decide) rfl (fun _ => ?_) (fun z => absurd z (by decide))
  refine jb_aload_n (pc' := 50) dX12_air_49 rfl rfl ?_
  refine gf_X12_7 (pc' := 53) (v := .ref 106) dX12_air_50 rfl rfl rfl ?_
  refine jb_iload_n (pc' := 54) dX12_air_53 rfl rfl ?_
  refine jb_iaload (pc' := 55) (i9 := 2) (f := d) dX12_air_54 rfl jb_x2 (by decide) rfl ?_
  refine jb_top (v := .int (d 2)) (w := .int (nI (V 0 6))) (jb_vI e2) ?_
  refine jb_istore_n_ (pc' := 56) dX12_air_55 (by decide) (jb_at3 rfl) rfl ?_
  refine jb_aload_n (pc' := 57) dX12_air_56 rfl rfl ?_
  refine gf_X12_7 (pc' := 60) (v := .ref 106) dX12_air_57 rfl rfl rfl ?_
  refine jb_iload_n (pc' := 61) dX12_air_60 rfl rfl ?_
  refine jb_iload_n (pc' := 62) dX12_air_61 rfl rfl ?_
  refine jb_iastore (pc' := 63) (i9 := 2) (f := d) (h' := [s0, s1, s2, s3, s4, s5, s6, s7, s8, s9, jb_mdl I J (upd d 2 (nI x)) e kp nm W, s11]) dX12_air_62 rfl jb_x2 (by decide) rfl rfl ?_
  refine jb_iload_n (pc' := 64) dX12_air_63 rfl rfl ?_
  refine jb_iret dX12_air_64 rfl ?_
  exact ⟨rfl, (upd d 2 (nI x)), jd_air2 hd0 hk0 x, by rw [jb_une (by omega)], ⟨by rw [jb_une (by omega)], by rw [jb_une (by omega)], fun k hk => by rw [jb_une (by omega)]⟩, rfl⟩
set_option maxRecDepth 100000 in
set_option maxHeartbeats 4000000 in
theorem me_air2 {sc : Nat × (Nat → Int32)} {s0 s1 s2 s3 s4 s5 s6 s7 s8 s9 s11 : List va_E} {V : Nat → Nat → Nat} (I J d e kp nm : Nat → Int32) (W : Nat → Nat → Int32) (hd : jd_ V d) (hk : jv_ok V) (v : Int32) (hb : ¬ jn_b v 0 10) : jb_C sc yX12_air cX12_air 4 (Option.some .int) 1 0 0 [.ref 105, .int 2, .int v] [s0, s1, s2, s3, s4, s5, s6, s7, s8, s9, jb_mdl I J d e kp nm W, s11] (fun r h9 => r = some (.int (jm_er 1)) ∧ h9 = [s0, s1, s2, s3, s4, s5, s6, s7, s8, s9, jb_mdl I J d e kp nm (va_up W 0 (jm_ef (W 0) 1)), s11]) := by
  refine jb_CofJ (ini := false) (by decide +kernel) (fun h => by cases h) (Nat.le_of_ble_eq_true rfl) ?_
  show jb_J sc RX12 cX12_air 4 (Option.some .int) false 1 0 0 0 [some (.ref 105), some (.int 2), some (.int v), none] [] [s0, s1, s2, s3, s4, s5, s6, s7, s8, s9, jb_mdl I J d e kp nm W, s11] _
  have hd0 := hd
  have hk0 := hk
  obtain ⟨e0, e1, e2, e3, e4, e5, e6, dv, ds, dd⟩ := hd
  obtain ⟨k0, k1, k2, k3, k4, k5, k6, k7, kv, ks, kd⟩ := hk
  refine jb_iload_n (pc' := 1) dX12_air_0 rfl rfl ?_
  refine jb_i2l (pc' := 2) dX12_air_1 rfl ?_
  refine jb_lconst (pc' := 3) 0 dX12_air_2 (by decide) rfl ?_
  refine jb_ldc2 (pc' := 6) 2 dX12_air_3 wk_X12_137 rfl ?_
  refine jb_callS (pc' := 9) (As := [.long ((2 : Int32).toInt64), .long 0, .long 2]) (a2 := 0) (b2 := 0) wv_X12_56 dX12_air_6 (c_inLG _ 2 0 2 (by omega) (by omega) (by omega)) rfl ⟨by decide, Nat.le_of_eq (Nat.zero_add _), Nat.le_of_eq (Nat.zero_add _)⟩ (Nat.le_of_ble_eq_true rfl) rfl (fun r h9 hq => ?_)
  obtain ⟨rfl, rfl⟩ := hq
  show jb_J _ RX12 cX12_air 4 (Option.some .int) false 1 0 0 9 [some (.ref 105), some (.int 2), some (.int v), none] [.int 1] [s0, s1, s2, s3, s4, s5, s6, s7, s8, s9, jb_mdl I J d e kp nm W, s11] _
  refine jb_if_eq (tgt := 43) (pc' := 12) dX12_air_9 (by decide) rfl (fun z => absurd z (by decide)) (fun _ => ?_)
  refine jb_iload_n (pc' := 13) dX12_air_12 rfl rfl ?_
  refine jb_if_ne (tgt := 31) (pc' := 16) dX12_air_13 (by decide) rfl (fun _ => ?_) (fun z => absurd z (by decide))
  refine jb_iload_n (pc' := 32) dX12_air_31 rfl rfl ?_
  refine jb_i2l (pc' := 33) dX12_air_32 rfl ?_
  refine jb_lconst (pc' := 34) 0 dX12_air_33 (by decide) rfl ?_
  refine jb_ldc2 (pc' := 37) 9 dX12_air_34 wk_X12_141 rfl ?_
  refine jb_callS (pc' := 40) (As := [.long v.toInt64, .long 0, .long 9]) (a2 := 0) (b2 := 0) wv_X12_56 dX12_air_37 (c_inL _ v 0 9 (by omega) (by omega)) rfl ⟨by decide, Nat.le_of_eq (Nat.zero_add _), Nat.le_of_eq (Nat.zero_add _)⟩ (Nat.le_of_ble_eq_true rfl) rfl (fun r h9 hq => ?_)
  rcases hq with ⟨rfl, ⟨o5, rfl⟩ | ⟨o5, rfl⟩⟩
  · show jb_J _ RX12 cX12_air 4 (Option.some .int) false 1 0 0 40 [some (.ref 105), some (.int 2), some (.int v), none] [.int 1] [s0, s1, s2, s3, s4, s5, s6, s7, s8, s9, jb_mdl I J d e kp nm W, s11] _
    refine jb_if_ne (tgt := 49) (pc' := 43) dX12_air_40 (by decide) rfl (fun _ => ?_) (fun z => absurd z (by decide))
    refine jb_aload_n (pc' := 50) dX12_air_49 rfl rfl ?_
    refine gf_X12_7 (pc' := 53) (v := .ref 106) dX12_air_50 rfl rfl rfl ?_
    refine jb_iload_n (pc' := 54) dX12_air_53 rfl rfl ?_
    refine jb_iaload (pc' := 55) (i9 := 2) (f := d) dX12_air_54 rfl jb_x2 (by decide) rfl ?_
    refine jb_top (v := .int (d 2)) (w := .int (nI (V 0 6))) (jb_vI e2) ?_
    refine jb_istore_n_ (pc' := 56) dX12_air_55 (by decide) (jb_at3 rfl) rfl ?_
    refine jb_aload_n (pc' := 57) dX12_air_56 rfl rfl ?_
    refine gf_X12_7 (pc' := 60) (v := .ref 106) dX12_air_57 rfl rfl rfl ?_
    refine jb_iload_n (pc' := 61) dX12_air_60 rfl rfl ?_
    refine jb_iload_n (pc' := 62) dX12_air_61 rfl rfl ?_
    refine jb_iastore (pc' := 63) (i9 := 2) (f := d) (h' := [s0, s1, s2, s3, s4, s5, s6, s7, s8, s9, jb_mdl I J (upd d 2 v) e kp nm W, s11]) dX12_air_62 rfl jb_x2 (by decide) rfl rfl ?_
    refine jb_iload_n (pc' := 64) dX12_air_63 rfl rfl ?_
    refine jb_iret dX12_air_64 rfl ?_
    exact absurd (by assumption) hb
  · show jb_J _ RX12 cX12_air 4 (Option.some .int) false 1 0 0 40 [some (.ref 105), some (.int 2), some (.int v), none] [.int 0] [s0, s1, s2, s3, s4, s5, s6, s7, s8, s9, jb_mdl I J d e kp nm W, s11] _
    refine jb_if_ne (tgt := 49) (pc' := 43) dX12_air_40 (by decide) rfl (fun z => absurd (by decide) z) (fun _ => ?_)
    refine jb_aload_n (pc' := 44) dX12_air_43 rfl rfl ?_
    refine jb_iconst (pc' := 45) 1 dX12_air_44 (by decide) rfl ?_
    refine jb_callV (pc' := 48) (ci := 12) (q := 105) (As := [.int 1]) (a2 := 0) (b2 := 0) wv_X12_121 rfl dX12_air_45 (c_finds I J d e kp nm W 1 (by decide)) rfl rfl ⟨by decide, Nat.le_of_eq (Nat.zero_add _), Nat.le_of_eq (Nat.zero_add _)⟩ (Nat.le_of_ble_eq_true rfl) rfl (fun r h9 hq => ?_)
    obtain ⟨rfl, rfl⟩ := hq
    show jb_J _ RX12 cX12_air 4 (Option.some .int) false 1 0 0 48 [some (.ref 105), some (.int 2), some (.int v), none] [.int (jm_er 1)] [s0, s1, s2, s3, s4, s5, s6, s7, s8, s9, jb_mdl I J d e kp nm (va_up W 0 (jm_ef (W 0) 1)), s11] _
    refine jb_iret dX12_air_48 rfl ?_
    exact ⟨rfl, rfl⟩
set_option maxRecDepth 100000 in
set_option maxHeartbeats 4000000 in
theorem me_air {sc : Nat × (Nat → Int32)} {s0 s1 s2 s3 s4 s5 s6 s7 s8 s9 s11 : List va_E} {V : Nat → Nat → Nat} (I J d e kp nm : Nat → Int32) (W : Nat → Nat → Int32) (hd : jd_ V d) (hk : jv_ok V) (w v : Int32) (hb : ¬ jn_b w 0 3) : jb_C sc yX12_air cX12_air 4 (Option.some .int) 1 0 0 [.ref 105, .int w, .int v] [s0, s1, s2, s3, s4, s5, s6, s7, s8, s9, jb_mdl I J d e kp nm W, s11] (fun r h9 => r = some (.int (jm_er 1)) ∧ h9 = [s0, s1, s2, s3, s4, s5, s6, s7, s8, s9, jb_mdl I J d e kp nm (va_up W 0 (jm_ef (W 0) 1)), s11]) := by
  refine jb_CofJ (ini := false) (by decide +kernel) (fun h => by cases h) (Nat.le_of_ble_eq_true rfl) ?_
  show jb_J sc RX12 cX12_air 4 (Option.some .int) false 1 0 0 0 [some (.ref 105), some (.int w), some (.int v), none] [] [s0, s1, s2, s3, s4, s5, s6, s7, s8, s9, jb_mdl I J d e kp nm W, s11] _
  have hd0 := hd
  have hk0 := hk
  obtain ⟨e0, e1, e2, e3, e4, e5, e6, dv, ds, dd⟩ := hd
  obtain ⟨k0, k1, k2, k3, k4, k5, k6, k7, kv, ks, kd⟩ := hk
  refine jb_iload_n (pc' := 1) dX12_air_0 rfl rfl ?_
  refine jb_i2l (pc' := 2) dX12_air_1 rfl ?_
  refine jb_lconst (pc' := 3) 0 dX12_air_2 (by decide) rfl ?_
  refine jb_ldc2 (pc' := 6) 2 dX12_air_3 wk_X12_137 rfl ?_
  refine jb_callS (pc' := 9) (As := [.long w.toInt64, .long 0, .long 2]) (a2 := 0) (b2 := 0) wv_X12_56 dX12_air_6 (c_inL _ w 0 2 (by omega) (by omega)) rfl ⟨by decide, Nat.le_of_eq (Nat.zero_add _), Nat.le_of_eq (Nat.zero_add _)⟩ (Nat.le_of_ble_eq_true rfl) rfl (fun r h9 hq => ?_)
  rcases hq with ⟨rfl, ⟨o1, rfl⟩ | ⟨o1, rfl⟩⟩
  · show jb_J _ RX12 cX12_air 4 (Option.some .int) false 1 0 0 9 [some (.ref 105), some (.int w), some (.int v), none] [.int 1] [s0, s1, s2, s3, s4, s5, s6, s7, s8, s9, jb_mdl I J d e kp nm W, s11] _
    refine jb_if_eq (tgt := 43) (pc' := 12) dX12_air_9 (by decide) rfl (fun z => absurd z (by decide)) (fun _ => ?_)
    refine jb_iload_n (pc' := 13) dX12_air_12 rfl rfl ?_
    refine jb_if_ne (tgt := 31) (pc' := 16) dX12_air_13 (by decide) rfl (fun c4 => ?_) (fun c4 => ?_)
    · refine jb_iload_n (pc' := 32) dX12_air_31 rfl rfl ?_
      refine jb_i2l (pc' := 33) dX12_air_32 rfl ?_
      refine jb_lconst (pc' := 34) 0 dX12_air_33 (by decide) rfl ?_
      refine jb_ldc2 (pc' := 37) 9 dX12_air_34 wk_X12_141 rfl ?_
      refine jb_callS (pc' := 40) (As := [.long v.toInt64, .long 0, .long 9]) (a2 := 0) (b2 := 0) wv_X12_56 dX12_air_37 (c_inL _ v 0 9 (by omega) (by omega)) rfl ⟨by decide, Nat.le_of_eq (Nat.zero_add _), Nat.le_of_eq (Nat.zero_add _)⟩ (Nat.le_of_ble_eq_true rfl) rfl (fun r h9 hq => ?_)
      rcases hq with ⟨rfl, ⟨o5, rfl⟩ | ⟨o5, rfl⟩⟩
      · show jb_J _ RX12 cX12_air 4 (Option.some .int) false 1 0 0 40 [some (.ref 105), some (.int w), some (.int v), none] [.int 1] [s0, s1, s2, s3, s4, s5, s6, s7, s8, s9, jb_mdl I J d e kp nm W, s11] _
        exact absurd (by assumption) hb
      · show jb_J _ RX12 cX12_air 4 (Option.some .int) false 1 0 0 40 [some (.ref 105), some (.int w), some (.int v), none] [.int 0] [s0, s1, s2, s3, s4, s5, s6, s7, s8, s9, jb_mdl I J d e kp nm W, s11] _
        refine jb_if_ne (tgt := 49) (pc' := 43) dX12_air_40 (by decide) rfl (fun z => absurd (by decide) z) (fun _ => ?_)
        refine jb_aload_n (pc' := 44) dX12_air_43 rfl rfl ?_
        refine jb_iconst (pc' := 45) 1 dX12_air_44 (by decide) rfl ?_
        refine jb_callV (pc' := 48) (ci := 12) (q := 105) (As := [.int 1]) (a2 := 0) (b2 := 0) wv_X12_121 rfl dX12_air_45 (c_finds I J d e kp nm W 1 (by decide)) rfl rfl ⟨by decide, Nat.le_of_eq (Nat.zero_add _), Nat.le_of_eq (Nat.zero_add _)⟩ (Nat.le_of_ble_eq_true rfl) rfl (fun r h9 hq => ?_)
        obtain ⟨rfl, rfl⟩ := hq
        show jb_J _ RX12 cX12_air 4 (Option.some .int) false 1 0 0 48 [some (.ref 105), some (.int w), some (.int v), none] [.int (jm_er 1)] [s0, s1, s2, s3, s4, s5, s6, s7, s8, s9, jb_mdl I J d e kp nm (va_up W 0 (jm_ef (W 0) 1)), s11] _
        refine jb_iret dX12_air_48 rfl ?_
        exact ⟨rfl, rfl⟩
    · refine jb_iload_n (pc' := 17) dX12_air_16 rfl rfl ?_
      refine jb_i2l (pc' := 18) dX12_air_17 rfl ?_
      refine jb_lconst (pc' := 19) 1 dX12_air_18 (by decide) rfl ?_
      refine jb_ldc2 (pc' := 22) 20 dX12_air_19 wk_X12_139 rfl ?_
      refine jb_callS (pc' := 25) (As := [.long v.toInt64, .long 1, .long 20]) (a2 := 0) (b2 := 0) wv_X12_56 dX12_air_22 (c_inL _ v 1 20 (by omega) (by omega)) rfl ⟨by decide, Nat.le_of_eq (Nat.zero_add _), Nat.le_of_eq (Nat.zero_add _)⟩ (Nat.le_of_ble_eq_true rfl) rfl (fun r h9 hq => ?_)
      rcases hq with ⟨rfl, ⟨o9, rfl⟩ | ⟨o9, rfl⟩⟩
      · show jb_J _ RX12 cX12_air 4 (Option.some .int) false 1 0 0 25 [some (.ref 105), some (.int w), some (.int v), none] [.int 1] [s0, s1, s2, s3, s4, s5, s6, s7, s8, s9, jb_mdl I J d e kp nm W, s11] _
        exact absurd (by assumption) hb
      · show jb_J _ RX12 cX12_air 4 (Option.some .int) false 1 0 0 25 [some (.ref 105), some (.int w), some (.int v), none] [.int 0] [s0, s1, s2, s3, s4, s5, s6, s7, s8, s9, jb_mdl I J d e kp nm W, s11] _
        refine jb_if_eq (tgt := 43) (pc' := 28) dX12_air_25 (by decide) rfl (fun _ => ?_) (fun z => absurd (by decide) z)
        refine jb_aload_n (pc' := 44) dX12_air_43 rfl rfl ?_
        refine jb_iconst (pc' := 45) 1 dX12_air_44 (by decide) rfl ?_
        refine jb_callV (pc' := 48) (ci := 12) (q := 105) (As := [.int 1]) (a2 := 0) (b2 := 0) wv_X12_121 rfl dX12_air_45 (c_finds I J d e kp nm W 1 (by decide)) rfl rfl ⟨by decide, Nat.le_of_eq (Nat.zero_add _), Nat.le_of_eq (Nat.zero_add _)⟩ (Nat.le_of_ble_eq_true rfl) rfl (fun r h9 hq => ?_)
        obtain ⟨rfl, rfl⟩ := hq
        show jb_J _ RX12 cX12_air 4 (Option.some .int) false 1 0 0 48 [some (.ref 105), some (.int w), some (.int v), none] [.int (jm_er 1)] [s0, s1, s2, s3, s4, s5, s6, s7, s8, s9, jb_mdl I J d e kp nm (va_up W 0 (jm_ef (W 0) 1)), s11] _
        refine jb_iret dX12_air_48 rfl ?_
        exact ⟨rfl, rfl⟩
  · show jb_J _ RX12 cX12_air 4 (Option.some .int) false 1 0 0 9 [some (.ref 105), some (.int w), some (.int v), none] [.int 0] [s0, s1, s2, s3, s4, s5, s6, s7, s8, s9, jb_mdl I J d e kp nm W, s11] _
    refine jb_if_eq (tgt := 43) (pc' := 12) dX12_air_9 (by decide) rfl (fun _ => ?_) (fun z => absurd (by decide) z)
    refine jb_aload_n (pc' := 44) dX12_air_43 rfl rfl ?_
    refine jb_iconst (pc' := 45) 1 dX12_air_44 (by decide) rfl ?_
    refine jb_callV (pc' := 48) (ci := 12) (q := 105) (As := [.int 1]) (a2 := 0) (b2 := 0) wv_X12_121 rfl dX12_air_45 (c_finds I J d e kp nm W 1 (by decide)) rfl rfl ⟨by decide, Nat.le_of_eq (Nat.zero_add _), Nat.le_of_eq (Nat.zero_add _)⟩ (Nat.le_of_ble_eq_true rfl) rfl (fun r h9 hq => ?_)
    obtain ⟨rfl, rfl⟩ := hq
    show jb_J _ RX12 cX12_air 4 (Option.some .int) false 1 0 0 48 [some (.ref 105), some (.int w), some (.int v), none] [.int (jm_er 1)] [s0, s1, s2, s3, s4, s5, s6, s7, s8, s9, jb_mdl I J d e kp nm (va_up W 0 (jm_ef (W 0) 1)), s11] _
    refine jb_iret dX12_air_48 rfl ?_
    exact ⟨rfl, rfl⟩
set_option maxRecDepth 100000 in
set_option maxHeartbeats 4000000 in
theorem mx_person {sc : Nat × (Nat → Int32)} {s0 s1 s2 s3 s4 s5 s6 s7 s8 s9 s11 : List va_E} {V : Nat → Nat → Nat} (I J d e kp nm : Nat → Int32) (W : Nat → Nat → Int32) (hd : jd_ V d) (hk : jv_ok V) (km c : Nat) (hkm : km < 70) (hc : c < 2) (h1 : V 0 1 < 6) : jb_C sc yX12_person cX12_person 4 (Option.some .int) 1 0 0 [.ref 105, .int (nI km), .int (nI c)] [s0, s1, s2, s3, s4, s5, s6, s7, s8, s9, jb_mdl I J d e kp nm W, s11] (fun r h9 => r = some (.int (nI (V 0 1))) ∧ ∃ d9, jd_ (jm_av V (km / 10) (km % 10) c) d9 ∧ d9 7 = d 7 ∧ jd_f d d9 ∧ h9 = [s0, s1, s2, s3, s4, s5, s6, s7, s8, s9, jb_mdl I J d9 e kp nm W, s11]) := by
  refine jb_CofJ (ini := false) (by decide +kernel) (fun h => by cases h) (Nat.le_of_ble_eq_true rfl) ?_
  show jb_J sc RX12 cX12_person 4 (Option.some .int) false 1 0 0 0 [some (.ref 105), some (.int (nI km)), some (.int (nI c)), none] [] [s0, s1, s2, s3, s4, s5, s6, s7, s8, s9, jb_mdl I J d e kp nm W, s11] _
  have hd0 := hd
  have hk0 := hk
  obtain ⟨e0, e1, e2, e3, e4, e5, e6, dv, ds, dd⟩ := hd
  obtain ⟨k0, k1, k2, k3, k4, k5, k6, k7, kv, ks, kd⟩ := hk
  refine jb_iload_n (pc' := 1) dX12_person_0 rfl rfl ?_
  refine jb_i2l (pc' := 2) dX12_person_1 rfl ?_
  refine jb_lconst (pc' := 3) 0 dX12_person_2 (by decide) rfl ?_
  refine jb_ldc2 (pc' := 6) 69 dX12_person_3 wk_X12_143 rfl ?_
  refine jb_callS (pc' := 9) (As := [.long ((nI km).toInt64), .long 0, .long 69]) (a2 := 0) (b2 := 0) wv_X12_56 dX12_person_6 (c_inLG _ km 0 69 (by omega) (by omega) (by omega)) rfl ⟨by decide, Nat.le_of_eq (Nat.zero_add _), Nat.le_of_eq (Nat.zero_add _)⟩ (Nat.le_of_ble_eq_true rfl) rfl (fun r h9 hq => ?_)
  obtain ⟨rfl, rfl⟩ := hq
  show jb_J _ RX12 cX12_person 4 (Option.some .int) false 1 0 0 9 [some (.ref 105), some (.int (nI km)), some (.int (nI c)), none] [.int 1] [s0, s1, s2, s3, s4, s5, s6, s7, s8, s9, jb_mdl I J d e kp nm W, s11] _
  refine jb_if_eq (tgt := 22) (pc' := 12) dX12_person_9 (by decide) rfl (fun z => absurd z (by decide)) (fun _ => ?_)
  refine jb_iload_n (pc' := 13) dX12_person_12 rfl rfl ?_
  refine jb_i2l (pc' := 14) dX12_person_13 rfl ?_
  refine jb_lconst (pc' := 15) 0 dX12_person_14 (by decide) rfl ?_
  refine jb_lconst (pc' := 16) 1 dX12_person_15 (by decide) rfl ?_
  refine jb_callS (pc' := 19) (As := [.long ((nI c).toInt64), .long 0, .long 1]) (a2 := 0) (b2 := 0) wv_X12_56 dX12_person_16 (c_inLG _ c 0 1 (by omega) (by omega) (by omega)) rfl ⟨by decide, Nat.le_of_eq (Nat.zero_add _), Nat.le_of_eq (Nat.zero_add _)⟩ (Nat.le_of_ble_eq_true rfl) rfl (fun r h9 hq => ?_)
  obtain ⟨rfl, rfl⟩ := hq
  show jb_J _ RX12 cX12_person 4 (Option.some .int) false 1 0 0 19 [some (.ref 105), some (.int (nI km)), some (.int (nI c)), none] [.int 1] [s0, s1, s2, s3, s4, s5, s6, s7, s8, s9, jb_mdl I J d e kp nm W, s11] _
  refine jb_if_ne (tgt := 28) (pc' := 22) dX12_person_19 (by decide) rfl (fun _ => ?_) (fun z => absurd z (by decide))
  refine jb_aload_n (pc' := 29) dX12_person_28 rfl rfl ?_
  refine gf_X12_7 (pc' := 32) (v := .ref 106) dX12_person_29 rfl rfl rfl ?_
  refine jb_iconst (pc' := 33) 4 dX12_person_32 (by decide) rfl ?_
  refine jb_iaload (pc' := 34) (i9 := 4) (f := d) dX12_person_33 rfl jb_x4 (by decide) rfl ?_
  refine jb_top (v := .int (d 4)) (w := .int (nI (V 0 1))) (jb_vI e4) ?_
  refine jb_bipush (pc' := 36) 6 dX12_person_34 (by decide) rfl ?_
  refine jb_icmp_ne (tgt := 45) (pc' := 39) dX12_person_36 (by decide) rfl (fun _ => ?_) (fun z => absurd z (fun z => absurd ((nI_eq (a := V 0 1) (b := 6) (by omega) (by omega)).mp z) (by omega)))
  refine jb_aload_n (pc' := 46) dX12_person_45 rfl rfl ?_
  refine gf_X12_7 (pc' := 49) (v := .ref 106) dX12_person_46 rfl rfl rfl ?_
  refine jb_iconst (pc' := 50) 4 dX12_person_49 (by decide) rfl ?_
  refine jb_iaload (pc' := 51) (i9 := 4) (f := d) dX12_person_50 rfl jb_x4 (by decide) rfl ?_
  refine jb_top (v := .int (d 4)) (w := .int (nI (V 0 1))) (jb_vI e4) ?_
  refine jb_istore_n_ (pc' := 52) dX12_person_51 (by decide) (jb_at3 rfl) rfl ?_
  refine jb_aload_n (pc' := 53) dX12_person_52 rfl rfl ?_
  refine gf_X12_7 (pc' := 56) (v := .ref 106) dX12_person_53 rfl rfl rfl ?_
  refine jb_bipush (pc' := 58) 10 dX12_person_56 (by decide) rfl ?_
  refine jb_iconst (pc' := 59) 3 dX12_person_58 (by decide) rfl ?_
  refine jb_iload_n (pc' := 60) dX12_person_59 rfl rfl ?_
  refine jb_imul (pc' := 61) dX12_person_60 rfl ?_
  refine jb_top (v := .int (3 * (nI (V 0 1)))) (w := .int (nI (3 * (V 0 1)))) (jb_vI (pk_mul 3 _)) ?_
  refine jb_iadd (pc' := 62) dX12_person_61 rfl ?_
  refine jb_top (v := .int (10 + (nI (3 * (V 0 1))))) (w := .int (nI (10 + 3 * (V 0 1)))) (jb_vI (nI_add 10 _)) ?_
  refine jb_iconst (pc' := 63) 0 dX12_person_62 (by decide) rfl ?_
  refine jb_iadd (pc' := 64) dX12_person_63 rfl ?_
  refine jb_top (v := .int ((nI (10 + 3 * (V 0 1))) + 0)) (w := .int (nI (10 + 3 * (V 0 1) + 0))) (jb_vI (nI_add _ 0)) ?_
  refine jb_iload_n (pc' := 65) dX12_person_64 rfl rfl ?_
  refine jb_bipush (pc' := 67) 10 dX12_person_65 (by decide) rfl ?_
  refine jb_idiv (pc' := 68) dX12_person_67 (by decide) rfl ?_
  refine jb_top (v := .int ((nI km) / 10)) (w := .int (nI (km / 10))) (jb_vI (pk_div (a := km) (d := 10) (by omega) (by omega) (by omega))) ?_
  refine jb_iastore (pc' := 69) (i9 := (10 + 3 * (V 0 1) + 0)) (f := d) (h' := [s0, s1, s2, s3, s4, s5, s6, s7, s8, s9, jb_mdl I J (upd d (10 + 3 * (V 0 1) + 0) (nI (km / 10))) e kp nm W, s11]) dX12_person_68 rfl (jb_ix_nI (by omega)) (by omega) rfl rfl ?_
  refine jb_aload_n (pc' := 70) dX12_person_69 rfl rfl ?_
  refine gf_X12_7 (pc' := 73) (v := .ref 106) dX12_person_70 rfl rfl rfl ?_
  refine jb_bipush (pc' := 75) 10 dX12_person_73 (by decide) rfl ?_
  refine jb_iconst (pc' := 76) 3 dX12_person_75 (by decide) rfl ?_
  refine jb_iload_n (pc' := 77) dX12_person_76 rfl rfl ?_
  refine jb_imul (pc' := 78) dX12_person_77 rfl ?_
  refine jb_top (v := .int (3 * (nI (V 0 1)))) (w := .int (nI (3 * (V 0 1)))) (jb_vI (pk_mul 3 _)) ?_
  refine jb_iadd (pc' := 79) dX12_person_78 rfl ?_
  refine jb_top (v := .int (10 + (nI (3 * (V 0 1))))) (w := .int (nI (10 + 3 * (V 0 1)))) (jb_vI (nI_add 10 _)) ?_
  refine jb_iconst (pc' := 80) 1 dX12_person_79 (by decide) rfl ?_
  refine jb_iadd (pc' := 81) dX12_person_80 rfl ?_
  refine jb_top (v := .int ((nI (10 + 3 * (V 0 1))) + 1)) (w := .int (nI (10 + 3 * (V 0 1) + 1))) (jb_vI (nI_add _ 1)) ?_
  refine jb_iload_n (pc' := 82) dX12_person_81 rfl rfl ?_
  refine jb_bipush (pc' := 84) 10 dX12_person_82 (by decide) rfl ?_
  refine jb_irem (pc' := 85) dX12_person_84 (by decide) rfl ?_
  refine jb_top (v := .int ((nI km) - (nI km) / 10 * 10)) (w := .int (nI (km % 10))) (jb_vI (pk_rem (a := km) (d := 10) (by omega) (by omega) (by omega))) ?_
  refine jb_iastore (pc' := 86) (i9 := (10 + 3 * (V 0 1) + 1)) (f := (upd d (10 + 3 * (V 0 1) + 0) (nI (km / 10)))) (h' := [s0, s1, s2, s3, s4, s5, s6, s7, s8, s9, jb_mdl I J (upd (upd d (10 + 3 * (V 0 1) + 0) (nI (km / 10))) (10 + 3 * (V 0 1) + 1) (nI (km % 10))) e kp nm W, s11]) dX12_person_85 rfl (jb_ix_nI (by omega)) (by omega) rfl rfl ?_
  refine jb_aload_n (pc' := 87) dX12_person_86 rfl rfl ?_
  refine gf_X12_7 (pc' := 90) (v := .ref 106) dX12_person_87 rfl rfl rfl ?_
  refine jb_bipush (pc' := 92) 10 dX12_person_90 (by decide) rfl ?_
  refine jb_iconst (pc' := 93) 3 dX12_person_92 (by decide) rfl ?_
  refine jb_iload_n (pc' := 94) dX12_person_93 rfl rfl ?_
  refine jb_imul (pc' := 95) dX12_person_94 rfl ?_
  refine jb_top (v := .int (3 * (nI (V 0 1)))) (w := .int (nI (3 * (V 0 1)))) (jb_vI (pk_mul 3 _)) ?_
  refine jb_iadd (pc' := 96) dX12_person_95 rfl ?_
  refine jb_top (v := .int (10 + (nI (3 * (V 0 1))))) (w := .int (nI (10 + 3 * (V 0 1)))) (jb_vI (nI_add 10 _)) ?_
  refine jb_iconst (pc' := 97) 2 dX12_person_96 (by decide) rfl ?_
  refine jb_iadd (pc' := 98) dX12_person_97 rfl ?_
  refine jb_top (v := .int ((nI (10 + 3 * (V 0 1))) + 2)) (w := .int (nI (10 + 3 * (V 0 1) + 2))) (jb_vI (nI_add _ 2)) ?_
  refine jb_iload_n (pc' := 99) dX12_person_98 rfl rfl ?_
  refine jb_iastore (pc' := 100) (i9 := (10 + 3 * (V 0 1) + 2)) (f := (upd (upd d (10 + 3 * (V 0 1) + 0) (nI (km / 10))) (10 + 3 * (V 0 1) + 1) (nI (km % 10)))) (h' := [s0, s1, s2, s3, s4, s5, s6, s7, s8, s9, jb_mdl I J (upd (upd (upd d (10 + 3 * (V 0 1) + 0) (nI (km / 10))) (10 + 3 * (V 0 1) + 1) (nI (km % 10))) (10 + 3 * (V 0 1) + 2) (nI c)) e kp nm W, s11]) dX12_person_99 rfl (jb_ix_nI (by omega)) (by omega) rfl rfl ?_
  refine jb_aload_n (pc' := 101) dX12_person_100 rfl rfl ?_
  refine gf_X12_7 (pc' := 104) (v := .ref 106) dX12_person_101 rfl rfl rfl ?_
  refine jb_iconst (pc' := 105) 4 dX12_person_104 (by decide) rfl ?_
  refine jb_dup2 (pc' := 106) dX12_person_105 rfl rfl rfl ?_
  refine jb_iaload (pc' := 107) (i9 := 4) (f := (upd (upd (upd d (10 + 3 * (V 0 1) + 0) (nI (km / 10))) (10 + 3 * (V 0 1) + 1) (nI (km % 10))) (10 + 3 * (V 0 1) + 2) (nI c))) dX12_person_106 rfl jb_x4 (by decide) rfl ?_
  refine jb_top (v := .int ((upd (upd (upd d (10 + 3 * (V 0 1) + 0) (nI (km / 10))) (10 + 3 * (V 0 1) + 1) (nI (km % 10))) (10 + 3 * (V 0 1) + 2) (nI c)) 4)) (w := .int (nI (V 0 1))) (jb_vI (by rw [jb_une (by omega), jb_une (by omega), jb_une (by omega)]; exact e4)) ?_
  refine jb_iconst (pc' := 108) 1 dX12_person_107 (by decide) rfl ?_
  refine jb_iadd (pc' := 109) dX12_person_108 rfl ?_
  refine jb_top (v := .int ((nI (V 0 1)) + 1)) (w := .int (nI ((V 0 1) + 1))) (jb_vI (nI_add _ 1)) ?_
  refine jb_iastore (pc' := 110) (i9 := 4) (f := (upd (upd (upd d (10 + 3 * (V 0 1) + 0) (nI (km / 10))) (10 + 3 * (V 0 1) + 1) (nI (km % 10))) (10 + 3 * (V 0 1) + 2) (nI c))) (h' := [s0, s1, s2, s3, s4, s5, s6, s7, s8, s9, jb_mdl I J (upd (upd (upd (upd d (10 + 3 * (V 0 1) + 0) (nI (km / 10))) (10 + 3 * (V 0 1) + 1) (nI (km % 10))) (10 + 3 * (V 0 1) + 2) (nI c)) 4 (nI ((V 0 1) + 1))) e kp nm W, s11]) dX12_person_109 rfl jb_x4 (by decide) rfl rfl ?_
  refine jb_iload_n (pc' := 111) dX12_person_110 rfl rfl ?_
  refine jb_iret dX12_person_111 rfl ?_
  exact ⟨rfl, (upd (upd (upd (upd d (10 + 3 * (V 0 1) + 0) (nI (km / 10))) (10 + 3 * (V 0 1) + 1) (nI (km % 10))) (10 + 3 * (V 0 1) + 2) (nI c)) 4 (nI ((V 0 1) + 1))), jd_av hd0 hk0 h1 (km / 10) (km % 10) c, by rw [jb_une (by omega), jb_une (by omega), jb_une (by omega), jb_une (by omega)], ⟨by rw [jb_une (by omega), jb_une (by omega), jb_une (by omega), jb_une (by omega)], by rw [jb_une (by omega), jb_une (by omega), jb_une (by omega), jb_une (by omega)], fun k hk => by rw [jb_une (by omega), jb_une (by omega), jb_une (by omega), jb_une (by omega)]⟩, rfl⟩
set_option maxRecDepth 100000 in
set_option maxHeartbeats 4000000 in
theorem me_person {sc : Nat × (Nat → Int32)} {s0 s1 s2 s3 s4 s5 s6 s7 s8 s9 s11 : List va_E} {V : Nat → Nat → Nat} (I J d e kp nm : Nat → Int32) (W : Nat → Nat → Int32) (hd : jd_ V d) (hk : jv_ok V) (km c : Int32) (hb : ¬ (jn_b km 0 70 ∧ jn_b c 0 2)) : jb_C sc yX12_person cX12_person 4 (Option.some .int) 1 0 0 [.ref 105, .int km, .int c] [s0, s1, s2, s3, s4, s5, s6, s7, s8, s9, jb_mdl I J d e kp nm W, s11] (fun r h9 => r = some (.int (jm_er 1)) ∧ h9 = [s0, s1, s2, s3, s4, s5, s6, s7, s8, s9, jb_mdl I J d e kp nm (va_up W 0 (jm_ef (W 0) 1)), s11]) := by
  refine jb_CofJ (ini := false) (by decide +kernel) (fun h => by cases h) (Nat.le_of_ble_eq_true rfl) ?_
  show jb_J sc RX12 cX12_person 4 (Option.some .int) false 1 0 0 0 [some (.ref 105), some (.int km), some (.int c), none] [] [s0, s1, s2, s3, s4, s5, s6, s7, s8, s9, jb_mdl I J d e kp nm W, s11] _
  have hd0 := hd
  have hk0 := hk
  obtain ⟨e0, e1, e2, e3, e4, e5, e6, dv, ds, dd⟩ := hd
  obtain ⟨k0, k1, k2, k3, k4, k5, k6, k7, kv, ks, kd⟩ := hk
  refine jb_iload_n (pc' := 1) dX12_person_0 rfl rfl ?_
  refine jb_i2l (pc' := 2) dX12_person_1 rfl ?_
  refine jb_lconst (pc' := 3) 0 dX12_person_2 (by decide) rfl ?_
  refine jb_ldc2 (pc' := 6) 69 dX12_person_3 wk_X12_143 rfl ?_
  refine jb_callS (pc' := 9) (As := [.long km.toInt64, .long 0, .long 69]) (a2 := 0) (b2 := 0) wv_X12_56 dX12_person_6 (c_inL _ km 0 69 (by omega) (by omega)) rfl ⟨by decide, Nat.le_of_eq (Nat.zero_add _), Nat.le_of_eq (Nat.zero_add _)⟩ (Nat.le_of_ble_eq_true rfl) rfl (fun r h9 hq => ?_)
  rcases hq with ⟨rfl, ⟨o1, rfl⟩ | ⟨o1, rfl⟩⟩
  · show jb_J _ RX12 cX12_person 4 (Option.some .int) false 1 0 0 9 [some (.ref 105), some (.int km), some (.int c), none] [.int 1] [s0, s1, s2, s3, s4, s5, s6, s7, s8, s9, jb_mdl I J d e kp nm W, s11] _
    refine jb_if_eq (tgt := 22) (pc' := 12) dX12_person_9 (by decide) rfl (fun z => absurd z (by decide)) (fun _ => ?_)
    refine jb_iload_n (pc' := 13) dX12_person_12 rfl rfl ?_
    refine jb_i2l (pc' := 14) dX12_person_13 rfl ?_
    refine jb_lconst (pc' := 15) 0 dX12_person_14 (by decide) rfl ?_
    refine jb_lconst (pc' := 16) 1 dX12_person_15 (by decide) rfl ?_
    refine jb_callS (pc' := 19) (As := [.long c.toInt64, .long 0, .long 1]) (a2 := 0) (b2 := 0) wv_X12_56 dX12_person_16 (c_inL _ c 0 1 (by omega) (by omega)) rfl ⟨by decide, Nat.le_of_eq (Nat.zero_add _), Nat.le_of_eq (Nat.zero_add _)⟩ (Nat.le_of_ble_eq_true rfl) rfl (fun r h9 hq => ?_)
    rcases hq with ⟨rfl, ⟨o4, rfl⟩ | ⟨o4, rfl⟩⟩
    · show jb_J _ RX12 cX12_person 4 (Option.some .int) false 1 0 0 19 [some (.ref 105), some (.int km), some (.int c), none] [.int 1] [s0, s1, s2, s3, s4, s5, s6, s7, s8, s9, jb_mdl I J d e kp nm W, s11] _
      refine jb_if_ne (tgt := 28) (pc' := 22) dX12_person_19 (by decide) rfl (fun _ => ?_) (fun z => absurd z (by decide))
      refine jb_aload_n (pc' := 29) dX12_person_28 rfl rfl ?_
      refine gf_X12_7 (pc' := 32) (v := .ref 106) dX12_person_29 rfl rfl rfl ?_
      refine jb_iconst (pc' := 33) 4 dX12_person_32 (by decide) rfl ?_
      refine jb_iaload (pc' := 34) (i9 := 4) (f := d) dX12_person_33 rfl jb_x4 (by decide) rfl ?_
      refine jb_top (v := .int (d 4)) (w := .int (nI (V 0 1))) (jb_vI e4) ?_
      refine jb_bipush (pc' := 36) 6 dX12_person_34 (by decide) rfl ?_
      refine jb_icmp_ne (tgt := 45) (pc' := 39) dX12_person_36 (by decide) rfl (fun c7 => ?_) (fun c7 => ?_)
      · have c7 : ¬ (V 0 1) = 6 := fun z9 => c7 ((nI_eq (a := (V 0 1)) (b := 6) (by omega) (by omega)).mpr z9)
        refine jb_aload_n (pc' := 46) dX12_person_45 rfl rfl ?_
        refine gf_X12_7 (pc' := 49) (v := .ref 106) dX12_person_46 rfl rfl rfl ?_
        refine jb_iconst (pc' := 50) 4 dX12_person_49 (by decide) rfl ?_
        refine jb_iaload (pc' := 51) (i9 := 4) (f := d) dX12_person_50 rfl jb_x4 (by decide) rfl ?_
        refine jb_top (v := .int (d 4)) (w := .int (nI (V 0 1))) (jb_vI e4) ?_
        refine jb_istore_n_ (pc' := 52) dX12_person_51 (by decide) (jb_at3 rfl) rfl ?_
        refine jb_aload_n (pc' := 53) dX12_person_52 rfl rfl ?_
        refine gf_X12_7 (pc' := 56) (v := .ref 106) dX12_person_53 rfl rfl rfl ?_
        refine jb_bipush (pc' := 58) 10 dX12_person_56 (by decide) rfl ?_
        refine jb_iconst (pc' := 59) 3 dX12_person_58 (by decide) rfl ?_
        refine jb_iload_n (pc' := 60) dX12_person_59 rfl rfl ?_
        refine jb_imul (pc' := 61) dX12_person_60 rfl ?_
        refine jb_top (v := .int (3 * (nI (V 0 1)))) (w := .int (nI (3 * (V 0 1)))) (jb_vI (pk_mul 3 _)) ?_
        refine jb_iadd (pc' := 62) dX12_person_61 rfl ?_
        refine jb_top (v := .int (10 + (nI (3 * (V 0 1))))) (w := .int (nI (10 + 3 * (V 0 1)))) (jb_vI (nI_add 10 _)) ?_
        refine jb_iconst (pc' := 63) 0 dX12_person_62 (by decide) rfl ?_
        refine jb_iadd (pc' := 64) dX12_person_63 rfl ?_
        refine jb_top (v := .int ((nI (10 + 3 * (V 0 1))) + 0)) (w := .int (nI (10 + 3 * (V 0 1) + 0))) (jb_vI (nI_add _ 0)) ?_
        refine jb_iload_n (pc' := 65) dX12_person_64 rfl rfl ?_
        refine jb_bipush (pc' := 67) 10 dX12_person_65 (by decide) rfl ?_
        refine jb_idiv (pc' := 68) dX12_person_67 (by decide) rfl ?_
        refine jb_iastore (pc' := 69) (i9 := (10 + 3 * (V 0 1) + 0)) (f := d) (h' := [s0, s1, s2, s3, s4, s5, s6, s7, s8, s9, jb_mdl I J (upd d (10 + 3 * (V 0 1) + 0) (km / 10)) e kp nm W, s11]) dX12_person_68 rfl (jb_ix_nI (by omega)) (by omega) rfl rfl ?_
        refine jb_aload_n (pc' := 70) dX12_person_69 rfl rfl ?_
        refine gf_X12_7 (pc' := 73) (v := .ref 106) dX12_person_70 rfl rfl rfl ?_
        refine jb_bipush (pc' := 75) 10 dX12_person_73 (by decide) rfl ?_
        refine jb_iconst (pc' := 76) 3 dX12_person_75 (by decide) rfl ?_
        refine jb_iload_n (pc' := 77) dX12_person_76 rfl rfl ?_
        refine jb_imul (pc' := 78) dX12_person_77 rfl ?_
        refine jb_top (v := .int (3 * (nI (V 0 1)))) (w := .int (nI (3 * (V 0 1)))) (jb_vI (pk_mul 3 _)) ?_
        refine jb_iadd (pc' := 79) dX12_person_78 rfl ?_
        refine jb_top (v := .int (10 + (nI (3 * (V 0 1))))) (w := .int (nI (10 + 3 * (V 0 1)))) (jb_vI (nI_add 10 _)) ?_
        refine jb_iconst (pc' := 80) 1 dX12_person_79 (by decide) rfl ?_
        refine jb_iadd (pc' := 81) dX12_person_80 rfl ?_
        refine jb_top (v := .int ((nI (10 + 3 * (V 0 1))) + 1)) (w := .int (nI (10 + 3 * (V 0 1) + 1))) (jb_vI (nI_add _ 1)) ?_
        refine jb_iload_n (pc' := 82) dX12_person_81 rfl rfl ?_
        refine jb_bipush (pc' := 84) 10 dX12_person_82 (by decide) rfl ?_
        refine jb_irem (pc' := 85) dX12_person_84 (by decide) rfl ?_
        refine jb_iastore (pc' := 86) (i9 := (10 + 3 * (V 0 1) + 1)) (f := (upd d (10 + 3 * (V 0 1) + 0) (km / 10))) (h' := [s0, s1, s2, s3, s4, s5, s6, s7, s8, s9, jb_mdl I J (upd (upd d (10 + 3 * (V 0 1) + 0) (km / 10)) (10 + 3 * (V 0 1) + 1) (km - km / 10 * 10)) e kp nm W, s11]) dX12_person_85 rfl (jb_ix_nI (by omega)) (by omega) rfl rfl ?_
        refine jb_aload_n (pc' := 87) dX12_person_86 rfl rfl ?_
        refine gf_X12_7 (pc' := 90) (v := .ref 106) dX12_person_87 rfl rfl rfl ?_
        refine jb_bipush (pc' := 92) 10 dX12_person_90 (by decide) rfl ?_
        refine jb_iconst (pc' := 93) 3 dX12_person_92 (by decide) rfl ?_
        refine jb_iload_n (pc' := 94) dX12_person_93 rfl rfl ?_
        refine jb_imul (pc' := 95) dX12_person_94 rfl ?_
        refine jb_top (v := .int (3 * (nI (V 0 1)))) (w := .int (nI (3 * (V 0 1)))) (jb_vI (pk_mul 3 _)) ?_
        refine jb_iadd (pc' := 96) dX12_person_95 rfl ?_
        refine jb_top (v := .int (10 + (nI (3 * (V 0 1))))) (w := .int (nI (10 + 3 * (V 0 1)))) (jb_vI (nI_add 10 _)) ?_
        refine jb_iconst (pc' := 97) 2 dX12_person_96 (by decide) rfl ?_
        refine jb_iadd (pc' := 98) dX12_person_97 rfl ?_
        refine jb_top (v := .int ((nI (10 + 3 * (V 0 1))) + 2)) (w := .int (nI (10 + 3 * (V 0 1) + 2))) (jb_vI (nI_add _ 2)) ?_
        refine jb_iload_n (pc' := 99) dX12_person_98 rfl rfl ?_
        refine jb_iastore (pc' := 100) (i9 := (10 + 3 * (V 0 1) + 2)) (f := (upd (upd d (10 + 3 * (V 0 1) + 0) (km / 10)) (10 + 3 * (V 0 1) + 1) (km - km / 10 * 10))) (h' := [s0, s1, s2, s3, s4, s5, s6, s7, s8, s9, jb_mdl I J (upd (upd (upd d (10 + 3 * (V 0 1) + 0) (km / 10)) (10 + 3 * (V 0 1) + 1) (km - km / 10 * 10)) (10 + 3 * (V 0 1) + 2) c) e kp nm W, s11]) dX12_person_99 rfl (jb_ix_nI (by omega)) (by omega) rfl rfl ?_
        refine jb_aload_n (pc' := 101) dX12_person_100 rfl rfl ?_
        refine gf_X12_7 (pc' := 104) (v := .ref 106) dX12_person_101 rfl rfl rfl ?_
        refine jb_iconst (pc' := 105) 4 dX12_person_104 (by decide) rfl ?_
        refine jb_dup2 (pc' := 106) dX12_person_105 rfl rfl rfl ?_
        refine jb_iaload (pc' := 107) (i9 := 4) (f := (upd (upd (upd d (10 + 3 * (V 0 1) + 0) (km / 10)) (10 + 3 * (V 0 1) + 1) (km - km / 10 * 10)) (10 + 3 * (V 0 1) + 2) c)) dX12_person_106 rfl jb_x4 (by decide) rfl ?_
        refine jb_top (v := .int ((upd (upd (upd d (10 + 3 * (V 0 1) + 0) (km / 10)) (10 + 3 * (V 0 1) + 1) (km - km / 10 * 10)) (10 + 3 * (V 0 1) + 2) c) 4)) (w := .int (nI (V 0 1))) (jb_vI (by rw [jb_une (by omega), jb_une (by omega), jb_une (by omega)]; exact e4)) ?_
        refine jb_iconst (pc' := 108) 1 dX12_person_107 (by decide) rfl ?_
        refine jb_iadd (pc' := 109) dX12_person_108 rfl ?_
        refine jb_top (v := .int ((nI (V 0 1)) + 1)) (w := .int (nI ((V 0 1) + 1))) (jb_vI (nI_add _ 1)) ?_
        refine jb_iastore (pc' := 110) (i9 := 4) (f := (upd (upd (upd d (10 + 3 * (V 0 1) + 0) (km / 10)) (10 + 3 * (V 0 1) + 1) (km - km / 10 * 10)) (10 + 3 * (V 0 1) + 2) c)) (h' := [s0, s1, s2, s3, s4, s5, s6, s7, s8, s9, jb_mdl I J (upd (upd (upd (upd d (10 + 3 * (V 0 1) + 0) (km / 10)) (10 + 3 * (V 0 1) + 1) (km - km / 10 * 10)) (10 + 3 * (V 0 1) + 2) c) 4 (nI ((V 0 1) + 1))) e kp nm W, s11]) dX12_person_109 rfl jb_x4 (by decide) rfl rfl ?_
        refine jb_iload_n (pc' := 111) dX12_person_110 rfl rfl ?_
        refine jb_iret dX12_person_111 rfl ?_
        exact absurd ⟨by assumption, by assumption⟩ hb
      · have c7 : (V 0 1) = 6 := (nI_eq (a := (V 0 1)) (b := 6) (by omega) (by omega)).mp c7
        refine jb_aload_n (pc' := 40) dX12_person_39 rfl rfl ?_
        refine jb_iconst (pc' := 41) 4 dX12_person_40 (by decide) rfl ?_
        refine jb_callV (pc' := 44) (ci := 12) (q := 105) (As := [.int 4]) (a2 := 0) (b2 := 0) wv_X12_121 rfl dX12_person_41 (c_finds I J d e kp nm W 4 (by decide)) rfl rfl ⟨by decide, Nat.le_of_eq (Nat.zero_add _), Nat.le_of_eq (Nat.zero_add _)⟩ (Nat.le_of_ble_eq_true rfl) rfl (fun r h9 hq => ?_)
        obtain ⟨rfl, rfl⟩ := hq
        show jb_J _ RX12 cX12_person 4 (Option.some .int) false 1 0 0 44 [some (.ref 105), some (.int km), some (.int c), none] [.int (jm_er 4)] [s0, s1, s2, s3, s4, s5, s6, s7, s8, s9, jb_mdl I J d e kp nm (va_up W 0 (jm_ef (W 0) 4)), s11] _
        refine jb_iret dX12_person_44 rfl ?_
        exact absurd ⟨by assumption, by assumption⟩ hb
    · show jb_J _ RX12 cX12_person 4 (Option.some .int) false 1 0 0 19 [some (.ref 105), some (.int km), some (.int c), none] [.int 0] [s0, s1, s2, s3, s4, s5, s6, s7, s8, s9, jb_mdl I J d e kp nm W, s11] _
      refine jb_if_ne (tgt := 28) (pc' := 22) dX12_person_19 (by decide) rfl (fun z => absurd (by decide) z) (fun _ => ?_)
      refine jb_aload_n (pc' := 23) dX12_person_22 rfl rfl ?_
      refine jb_iconst (pc' := 24) 1 dX12_person_23 (by decide) rfl ?_
      refine jb_callV (pc' := 27) (ci := 12) (q := 105) (As := [.int 1]) (a2 := 0) (b2 := 0) wv_X12_121 rfl dX12_person_24 (c_finds I J d e kp nm W 1 (by decide)) rfl rfl ⟨by decide, Nat.le_of_eq (Nat.zero_add _), Nat.le_of_eq (Nat.zero_add _)⟩ (Nat.le_of_ble_eq_true rfl) rfl (fun r h9 hq => ?_)
      obtain ⟨rfl, rfl⟩ := hq
      show jb_J _ RX12 cX12_person 4 (Option.some .int) false 1 0 0 27 [some (.ref 105), some (.int km), some (.int c), none] [.int (jm_er 1)] [s0, s1, s2, s3, s4, s5, s6, s7, s8, s9, jb_mdl I J d e kp nm (va_up W 0 (jm_ef (W 0) 1)), s11] _
      refine jb_iret dX12_person_27 rfl ?_
      exact ⟨rfl, rfl⟩
  · show jb_J _ RX12 cX12_person 4 (Option.some .int) false 1 0 0 9 [some (.ref 105), some (.int km), some (.int c), none] [.int 0] [s0, s1, s2, s3, s4, s5, s6, s7, s8, s9, jb_mdl I J d e kp nm W, s11] _
    refine jb_if_eq (tgt := 22) (pc' := 12) dX12_person_9 (by decide) rfl (fun _ => ?_) (fun z => absurd (by decide) z)
    refine jb_aload_n (pc' := 23) dX12_person_22 rfl rfl ?_
    refine jb_iconst (pc' := 24) 1 dX12_person_23 (by decide) rfl ?_
    refine jb_callV (pc' := 27) (ci := 12) (q := 105) (As := [.int 1]) (a2 := 0) (b2 := 0) wv_X12_121 rfl dX12_person_24 (c_finds I J d e kp nm W 1 (by decide)) rfl rfl ⟨by decide, Nat.le_of_eq (Nat.zero_add _), Nat.le_of_eq (Nat.zero_add _)⟩ (Nat.le_of_ble_eq_true rfl) rfl (fun r h9 hq => ?_)
    obtain ⟨rfl, rfl⟩ := hq
    show jb_J _ RX12 cX12_person 4 (Option.some .int) false 1 0 0 27 [some (.ref 105), some (.int km), some (.int c), none] [.int (jm_er 1)] [s0, s1, s2, s3, s4, s5, s6, s7, s8, s9, jb_mdl I J d e kp nm (va_up W 0 (jm_ef (W 0) 1)), s11] _
    refine jb_iret dX12_person_27 rfl ?_
    exact ⟨rfl, rfl⟩
set_option maxRecDepth 100000 in
set_option maxHeartbeats 4000000 in
theorem me_personF {sc : Nat × (Nat → Int32)} {s0 s1 s2 s3 s4 s5 s6 s7 s8 s9 s11 : List va_E} {V : Nat → Nat → Nat} (I J d e kp nm : Nat → Int32) (W : Nat → Nat → Int32) (hd : jd_ V d) (hk : jv_ok V) (km c : Nat) (hkm : km < 70) (hc : c < 2) (h1 : V 0 1 = 6) : jb_C sc yX12_person cX12_person 4 (Option.some .int) 1 0 0 [.ref 105, .int (nI km), .int (nI c)] [s0, s1, s2, s3, s4, s5, s6, s7, s8, s9, jb_mdl I J d e kp nm W, s11] (fun r h9 => r = some (.int (jm_er 4)) ∧ h9 = [s0, s1, s2, s3, s4, s5, s6, s7, s8, s9, jb_mdl I J d e kp nm (va_up W 0 (jm_ef (W 0) 4)), s11]) := by
  refine jb_CofJ (ini := false) (by decide +kernel) (fun h => by cases h) (Nat.le_of_ble_eq_true rfl) ?_
  show jb_J sc RX12 cX12_person 4 (Option.some .int) false 1 0 0 0 [some (.ref 105), some (.int (nI km)), some (.int (nI c)), none] [] [s0, s1, s2, s3, s4, s5, s6, s7, s8, s9, jb_mdl I J d e kp nm W, s11] _
  have hd0 := hd
  have hk0 := hk
  obtain ⟨e0, e1, e2, e3, e4, e5, e6, dv, ds, dd⟩ := hd
  obtain ⟨k0, k1, k2, k3, k4, k5, k6, k7, kv, ks, kd⟩ := hk
  refine jb_iload_n (pc' := 1) dX12_person_0 rfl rfl ?_
  refine jb_i2l (pc' := 2) dX12_person_1 rfl ?_
  refine jb_lconst (pc' := 3) 0 dX12_person_2 (by decide) rfl ?_
  refine jb_ldc2 (pc' := 6) 69 dX12_person_3 wk_X12_143 rfl ?_
  refine jb_callS (pc' := 9) (As := [.long ((nI km).toInt64), .long 0, .long 69]) (a2 := 0) (b2 := 0) wv_X12_56 dX12_person_6 (c_inLG _ km 0 69 (by omega) (by omega) (by omega)) rfl ⟨by decide, Nat.le_of_eq (Nat.zero_add _), Nat.le_of_eq (Nat.zero_add _)⟩ (Nat.le_of_ble_eq_true rfl) rfl (fun r h9 hq => ?_)
  obtain ⟨rfl, rfl⟩ := hq
  show jb_J _ RX12 cX12_person 4 (Option.some .int) false 1 0 0 9 [some (.ref 105), some (.int (nI km)), some (.int (nI c)), none] [.int 1] [s0, s1, s2, s3, s4, s5, s6, s7, s8, s9, jb_mdl I J d e kp nm W, s11] _
  refine jb_if_eq (tgt := 22) (pc' := 12) dX12_person_9 (by decide) rfl (fun z => absurd z (by decide)) (fun _ => ?_)
  refine jb_iload_n (pc' := 13) dX12_person_12 rfl rfl ?_
  refine jb_i2l (pc' := 14) dX12_person_13 rfl ?_
  refine jb_lconst (pc' := 15) 0 dX12_person_14 (by decide) rfl ?_
  refine jb_lconst (pc' := 16) 1 dX12_person_15 (by decide) rfl ?_
  refine jb_callS (pc' := 19) (As := [.long ((nI c).toInt64), .long 0, .long 1]) (a2 := 0) (b2 := 0) wv_X12_56 dX12_person_16 (c_inLG _ c 0 1 (by omega) (by omega) (by omega)) rfl ⟨by decide, Nat.le_of_eq (Nat.zero_add _), Nat.le_of_eq (Nat.zero_add _)⟩ (Nat.le_of_ble_eq_true rfl) rfl (fun r h9 hq => ?_)
  obtain ⟨rfl, rfl⟩ := hq
  show jb_J _ RX12 cX12_person 4 (Option.some .int) false 1 0 0 19 [some (.ref 105), some (.int (nI km)), some (.int (nI c)), none] [.int 1] [s0, s1, s2, s3, s4, s5, s6, s7, s8, s9, jb_mdl I J d e kp nm W, s11] _
  refine jb_if_ne (tgt := 28) (pc' := 22) dX12_person_19 (by decide) rfl (fun _ => ?_) (fun z => absurd z (by decide))
  refine jb_aload_n (pc' := 29) dX12_person_28 rfl rfl ?_
  refine gf_X12_7 (pc' := 32) (v := .ref 106) dX12_person_29 rfl rfl rfl ?_
  refine jb_iconst (pc' := 33) 4 dX12_person_32 (by decide) rfl ?_
  refine jb_iaload (pc' := 34) (i9 := 4) (f := d) dX12_person_33 rfl jb_x4 (by decide) rfl ?_
  refine jb_top (v := .int (d 4)) (w := .int (nI (V 0 1))) (jb_vI e4) ?_
  refine jb_bipush (pc' := 36) 6 dX12_person_34 (by decide) rfl ?_
  refine jb_icmp_ne (tgt := 45) (pc' := 39) dX12_person_36 (by decide) rfl (fun z => absurd (congrArg nI h1) z) (fun _ => ?_)
  refine jb_aload_n (pc' := 40) dX12_person_39 rfl rfl ?_
  refine jb_iconst (pc' := 41) 4 dX12_person_40 (by decide) rfl ?_
  refine jb_callV (pc' := 44) (ci := 12) (q := 105) (As := [.int 4]) (a2 := 0) (b2 := 0) wv_X12_121 rfl dX12_person_41 (c_finds I J d e kp nm W 4 (by decide)) rfl rfl ⟨by decide, Nat.le_of_eq (Nat.zero_add _), Nat.le_of_eq (Nat.zero_add _)⟩ (Nat.le_of_ble_eq_true rfl) rfl (fun r h9 hq => ?_)
  obtain ⟨rfl, rfl⟩ := hq
  show jb_J _ RX12 cX12_person 4 (Option.some .int) false 1 0 0 44 [some (.ref 105), some (.int (nI km)), some (.int (nI c)), none] [.int (jm_er 4)] [s0, s1, s2, s3, s4, s5, s6, s7, s8, s9, jb_mdl I J d e kp nm (va_up W 0 (jm_ef (W 0) 4)), s11] _
  refine jb_iret dX12_person_44 rfl ?_
  exact ⟨rfl, rfl⟩
set_option maxRecDepth 100000 in
set_option maxHeartbeats 4000000 in
theorem mx_ofVoice0 {sc : Nat × (Nat → Int32)} {s0 s1 s2 s3 s4 s5 s6 s7 s8 s9 s11 : List va_E} {V : Nat → Nat → Nat} (I J d e kp nm : Nat → Int32) (W : Nat → Nat → Int32) (hd : jd_ V d) (hk : jv_ok V) (p : Nat) (hp : p < V 0 1) : jb_C sc yX12_ofVoice cX12_ofVoice 3 (Option.some .int) 2 0 0 [.ref 105, .int (nI p), .int 0] [s0, s1, s2, s3, s4, s5, s6, s7, s8, s9, jb_mdl I J d e kp nm W, s11] (fun r h9 => r = some (.int (nI (V 1 p))) ∧ h9 = [s0, s1, s2, s3, s4, s5, s6, s7, s8, s9, jb_mdl I J d e kp nm W, s11]) := by
  refine jb_CofJ (ini := false) (by decide +kernel) (fun h => by cases h) (Nat.le_of_ble_eq_true rfl) ?_
  show jb_J sc RX12 cX12_ofVoice 3 (Option.some .int) false 2 0 0 0 [some (.ref 105), some (.int (nI p)), some (.int 0)] [] [s0, s1, s2, s3, s4, s5, s6, s7, s8, s9, jb_mdl I J d e kp nm W, s11] _
  have hd0 := hd
  have hk0 := hk
  obtain ⟨e0, e1, e2, e3, e4, e5, e6, dv, ds, dd⟩ := hd
  obtain ⟨k0, k1, k2, k3, k4, k5, k6, k7, kv, ks, kd⟩ := hk
  refine jb_aload_n (pc' := 1) dX12_ofVoice_0 rfl rfl ?_
  refine jb_iload_n (pc' := 2) dX12_ofVoice_1 rfl rfl ?_
  refine jb_callV (pc' := 5) (ci := 12) (q := 105) (As := [.int (nI p)]) (a2 := 0) (b2 := 0) wv_X12_149 rfl dX12_ofVoice_2 (c_isVoiceG I J d e kp nm W hd0 hk0 p (by omega)) rfl rfl ⟨by decide, Nat.le_of_eq (Nat.zero_add _), Nat.le_of_eq (Nat.zero_add _)⟩ (Nat.le_of_ble_eq_true rfl) rfl (fun r h9 hq => ?_)
  obtain ⟨rfl, rfl⟩ := hq
  show jb_J _ RX12 cX12_ofVoice 3 (Option.some .int) false 2 0 0 5 [some (.ref 105), some (.int (nI p)), some (.int 0)] [.int 1] [s0, s1, s2, s3, s4, s5, s6, s7, s8, s9, jb_mdl I J d e kp nm W, s11] _
  refine jb_if_eq (tgt := 20) (pc' := 8) dX12_ofVoice_5 (by decide) rfl (fun z => absurd z (by decide)) (fun _ => ?_)
  refine jb_iload_n (pc' := 9) dX12_ofVoice_8 rfl rfl ?_
  refine jb_i2l (pc' := 10) dX12_ofVoice_9 rfl ?_
  refine jb_lconst (pc' := 11) 0 dX12_ofVoice_10 (by decide) rfl ?_
  refine jb_ldc2 (pc' := 14) 3 dX12_ofVoice_11 wk_X12_152 rfl ?_
  refine jb_callS (pc' := 17) (As := [.long ((0 : Int32).toInt64), .long 0, .long 3]) (a2 := 0) (b2 := 0) wv_X12_56 dX12_ofVoice_14 (c_inLG _ 0 0 3 (by omega) (by omega) (by omega)) rfl ⟨by decide, Nat.le_of_eq (Nat.zero_add _), Nat.le_of_eq (Nat.zero_add _)⟩ (Nat.le_of_ble_eq_true rfl) rfl (fun r h9 hq => ?_)
  obtain ⟨rfl, rfl⟩ := hq
  show jb_J _ RX12 cX12_ofVoice 3 (Option.some .int) false 2 0 0 17 [some (.ref 105), some (.int (nI p)), some (.int 0)] [.int 1] [s0, s1, s2, s3, s4, s5, s6, s7, s8, s9, jb_mdl I J d e kp nm W, s11] _
  refine jb_if_ne (tgt := 26) (pc' := 20) dX12_ofVoice_17 (by decide) rfl (fun _ => ?_) (fun z => absurd z (by decide))
  refine jb_iload_n (pc' := 27) dX12_ofVoice_26 rfl rfl ?_
  refine jb_iconst (pc' := 28) 3 dX12_ofVoice_27 (by decide) rfl ?_
  refine jb_icmp_ge (tgt := 40) (pc' := 31) dX12_ofVoice_28 (by decide) rfl (fun z => absurd z (by decide)) (fun _ => ?_)
  refine jb_aload_n (pc' := 32) dX12_ofVoice_31 rfl rfl ?_
  refine jb_iload_n (pc' := 33) dX12_ofVoice_32 rfl rfl ?_
  refine jb_iload_n (pc' := 34) dX12_ofVoice_33 rfl rfl ?_
  refine jb_callV (pc' := 37) (ci := 12) (q := 105) (As := [.int (nI p), .int 0]) (a2 := 0) (b2 := 0) wv_X12_145 rfl dX12_ofVoice_34 (c_of0 I J d e kp nm W hd0 hk0 p (by omega)) rfl rfl ⟨by decide, Nat.le_of_eq (Nat.zero_add _), Nat.le_of_eq (Nat.zero_add _)⟩ (Nat.le_of_ble_eq_true rfl) rfl (fun r h9 hq => ?_)
  obtain ⟨rfl, rfl⟩ := hq
  show jb_J _ RX12 cX12_ofVoice 3 (Option.some .int) false 2 0 0 37 [some (.ref 105), some (.int (nI p)), some (.int 0)] [.int (nI (V 1 p))] [s0, s1, s2, s3, s4, s5, s6, s7, s8, s9, jb_mdl I J d e kp nm W, s11] _
  refine jb_goto (pc' := 45) dX12_ofVoice_37 (by decide) ?_
  refine jb_iret dX12_ofVoice_45 rfl ?_
  exact ⟨rfl, rfl⟩
set_option maxRecDepth 100000 in
set_option maxHeartbeats 4000000 in
theorem mx_ofVoice1 {sc : Nat × (Nat → Int32)} {s0 s1 s2 s3 s4 s5 s6 s7 s8 s9 s11 : List va_E} {V : Nat → Nat → Nat} (I J d e kp nm : Nat → Int32) (W : Nat → Nat → Int32) (hd : jd_ V d) (hk : jv_ok V) (p : Nat) (hp : p < V 0 1) : jb_C sc yX12_ofVoice cX12_ofVoice 3 (Option.some .int) 2 0 0 [.ref 105, .int (nI p), .int 1] [s0, s1, s2, s3, s4, s5, s6, s7, s8, s9, jb_mdl I J d e kp nm W, s11] (fun r h9 => r = some (.int (nI (V 2 p))) ∧ h9 = [s0, s1, s2, s3, s4, s5, s6, s7, s8, s9, jb_mdl I J d e kp nm W, s11]) := by
  refine jb_CofJ (ini := false) (by decide +kernel) (fun h => by cases h) (Nat.le_of_ble_eq_true rfl) ?_
  show jb_J sc RX12 cX12_ofVoice 3 (Option.some .int) false 2 0 0 0 [some (.ref 105), some (.int (nI p)), some (.int 1)] [] [s0, s1, s2, s3, s4, s5, s6, s7, s8, s9, jb_mdl I J d e kp nm W, s11] _
  have hd0 := hd
  have hk0 := hk
  obtain ⟨e0, e1, e2, e3, e4, e5, e6, dv, ds, dd⟩ := hd
  obtain ⟨k0, k1, k2, k3, k4, k5, k6, k7, kv, ks, kd⟩ := hk
  refine jb_aload_n (pc' := 1) dX12_ofVoice_0 rfl rfl ?_
  refine jb_iload_n (pc' := 2) dX12_ofVoice_1 rfl rfl ?_
  refine jb_callV (pc' := 5) (ci := 12) (q := 105) (As := [.int (nI p)]) (a2 := 0) (b2 := 0) wv_X12_149 rfl dX12_ofVoice_2 (c_isVoiceG I J d e kp nm W hd0 hk0 p (by omega)) rfl rfl ⟨by decide, Nat.le_of_eq (Nat.zero_add _), Nat.le_of_eq (Nat.zero_add _)⟩ (Nat.le_of_ble_eq_true rfl) rfl (fun r h9 hq => ?_)
  obtain ⟨rfl, rfl⟩ := hq
  show jb_J _ RX12 cX12_ofVoice 3 (Option.some .int) false 2 0 0 5 [some (.ref 105), some (.int (nI p)), some (.int 1)] [.int 1] [s0, s1, s2, s3, s4, s5, s6, s7, s8, s9, jb_mdl I J d e kp nm W, s11] _
  refine jb_if_eq (tgt := 20) (pc' := 8) dX12_ofVoice_5 (by decide) rfl (fun z => absurd z (by decide)) (fun _ => ?_)
  refine jb_iload_n (pc' := 9) dX12_ofVoice_8 rfl rfl ?_
  refine jb_i2l (pc' := 10) dX12_ofVoice_9 rfl ?_
  refine jb_lconst (pc' := 11) 0 dX12_ofVoice_10 (by decide) rfl ?_
  refine jb_ldc2 (pc' := 14) 3 dX12_ofVoice_11 wk_X12_152 rfl ?_
  refine jb_callS (pc' := 17) (As := [.long ((1 : Int32).toInt64), .long 0, .long 3]) (a2 := 0) (b2 := 0) wv_X12_56 dX12_ofVoice_14 (c_inLG _ 1 0 3 (by omega) (by omega) (by omega)) rfl ⟨by decide, Nat.le_of_eq (Nat.zero_add _), Nat.le_of_eq (Nat.zero_add _)⟩ (Nat.le_of_ble_eq_true rfl) rfl (fun r h9 hq => ?_)
  obtain ⟨rfl, rfl⟩ := hq
  show jb_J _ RX12 cX12_ofVoice 3 (Option.some .int) false 2 0 0 17 [some (.ref 105), some (.int (nI p)), some (.int 1)] [.int 1] [s0, s1, s2, s3, s4, s5, s6, s7, s8, s9, jb_mdl I J d e kp nm W, s11] _
  refine jb_if_ne (tgt := 26) (pc' := 20) dX12_ofVoice_17 (by decide) rfl (fun _ => ?_) (fun z => absurd z (by decide))
  refine jb_iload_n (pc' := 27) dX12_ofVoice_26 rfl rfl ?_
  refine jb_iconst (pc' := 28) 3 dX12_ofVoice_27 (by decide) rfl ?_
  refine jb_icmp_ge (tgt := 40) (pc' := 31) dX12_ofVoice_28 (by decide) rfl (fun z => absurd z (by decide)) (fun _ => ?_)
  refine jb_aload_n (pc' := 32) dX12_ofVoice_31 rfl rfl ?_
  refine jb_iload_n (pc' := 33) dX12_ofVoice_32 rfl rfl ?_
  refine jb_iload_n (pc' := 34) dX12_ofVoice_33 rfl rfl ?_
  refine jb_callV (pc' := 37) (ci := 12) (q := 105) (As := [.int (nI p), .int 1]) (a2 := 0) (b2 := 0) wv_X12_145 rfl dX12_ofVoice_34 (c_of1 I J d e kp nm W hd0 hk0 p (by omega)) rfl rfl ⟨by decide, Nat.le_of_eq (Nat.zero_add _), Nat.le_of_eq (Nat.zero_add _)⟩ (Nat.le_of_ble_eq_true rfl) rfl (fun r h9 hq => ?_)
  obtain ⟨rfl, rfl⟩ := hq
  show jb_J _ RX12 cX12_ofVoice 3 (Option.some .int) false 2 0 0 37 [some (.ref 105), some (.int (nI p)), some (.int 1)] [.int (nI (V 2 p))] [s0, s1, s2, s3, s4, s5, s6, s7, s8, s9, jb_mdl I J d e kp nm W, s11] _
  refine jb_goto (pc' := 45) dX12_ofVoice_37 (by decide) ?_
  refine jb_iret dX12_ofVoice_45 rfl ?_
  exact ⟨rfl, rfl⟩
set_option maxRecDepth 100000 in
set_option maxHeartbeats 4000000 in
theorem mx_ofVoice2 {sc : Nat × (Nat → Int32)} {s0 s1 s2 s3 s4 s5 s6 s7 s8 s9 s11 : List va_E} {V : Nat → Nat → Nat} (I J d e kp nm : Nat → Int32) (W : Nat → Nat → Int32) (hd : jd_ V d) (hk : jv_ok V) (p : Nat) (hp : p < V 0 1) : jb_C sc yX12_ofVoice cX12_ofVoice 3 (Option.some .int) 2 0 0 [.ref 105, .int (nI p), .int 2] [s0, s1, s2, s3, s4, s5, s6, s7, s8, s9, jb_mdl I J d e kp nm W, s11] (fun r h9 => r = some (.int (nI (V 3 p))) ∧ h9 = [s0, s1, s2, s3, s4, s5, s6, s7, s8, s9, jb_mdl I J d e kp nm W, s11]) := by
  refine jb_CofJ (ini := false) (by decide +kernel) (fun h => by cases h) (Nat.le_of_ble_eq_true rfl) ?_
  show jb_J sc RX12 cX12_ofVoice 3 (Option.some .int) false 2 0 0 0 [some (.ref 105), some (.int (nI p)), some (.int 2)] [] [s0, s1, s2, s3, s4, s5, s6, s7, s8, s9, jb_mdl I J d e kp nm W, s11] _
  have hd0 := hd
  have hk0 := hk
  obtain ⟨e0, e1, e2, e3, e4, e5, e6, dv, ds, dd⟩ := hd
  obtain ⟨k0, k1, k2, k3, k4, k5, k6, k7, kv, ks, kd⟩ := hk
  refine jb_aload_n (pc' := 1) dX12_ofVoice_0 rfl rfl ?_
  refine jb_iload_n (pc' := 2) dX12_ofVoice_1 rfl rfl ?_
  refine jb_callV (pc' := 5) (ci := 12) (q := 105) (As := [.int (nI p)]) (a2 := 0) (b2 := 0) wv_X12_149 rfl dX12_ofVoice_2 (c_isVoiceG I J d e kp nm W hd0 hk0 p (by omega)) rfl rfl ⟨by decide, Nat.le_of_eq (Nat.zero_add _), Nat.le_of_eq (Nat.zero_add _)⟩ (Nat.le_of_ble_eq_true rfl) rfl (fun r h9 hq => ?_)
  obtain ⟨rfl, rfl⟩ := hq
  show jb_J _ RX12 cX12_ofVoice 3 (Option.some .int) false 2 0 0 5 [some (.ref 105), some (.int (nI p)), some (.int 2)] [.int 1] [s0, s1, s2, s3, s4, s5, s6, s7, s8, s9, jb_mdl I J d e kp nm W, s11] _
  refine jb_if_eq (tgt := 20) (pc' := 8) dX12_ofVoice_5 (by decide) rfl (fun z => absurd z (by decide)) (fun _ => ?_)
  refine jb_iload_n (pc' := 9) dX12_ofVoice_8 rfl rfl ?_
  refine jb_i2l (pc' := 10) dX12_ofVoice_9 rfl ?_
  refine jb_lconst (pc' := 11) 0 dX12_ofVoice_10 (by decide) rfl ?_
  refine jb_ldc2 (pc' := 14) 3 dX12_ofVoice_11 wk_X12_152 rfl ?_
  refine jb_callS (pc' := 17) (As := [.long ((2 : Int32).toInt64), .long 0, .long 3]) (a2 := 0) (b2 := 0) wv_X12_56 dX12_ofVoice_14 (c_inLG _ 2 0 3 (by omega) (by omega) (by omega)) rfl ⟨by decide, Nat.le_of_eq (Nat.zero_add _), Nat.le_of_eq (Nat.zero_add _)⟩ (Nat.le_of_ble_eq_true rfl) rfl (fun r h9 hq => ?_)
  obtain ⟨rfl, rfl⟩ := hq
  show jb_J _ RX12 cX12_ofVoice 3 (Option.some .int) false 2 0 0 17 [some (.ref 105), some (.int (nI p)), some (.int 2)] [.int 1] [s0, s1, s2, s3, s4, s5, s6, s7, s8, s9, jb_mdl I J d e kp nm W, s11] _
  refine jb_if_ne (tgt := 26) (pc' := 20) dX12_ofVoice_17 (by decide) rfl (fun _ => ?_) (fun z => absurd z (by decide))
  refine jb_iload_n (pc' := 27) dX12_ofVoice_26 rfl rfl ?_
  refine jb_iconst (pc' := 28) 3 dX12_ofVoice_27 (by decide) rfl ?_
  refine jb_icmp_ge (tgt := 40) (pc' := 31) dX12_ofVoice_28 (by decide) rfl (fun z => absurd z (by decide)) (fun _ => ?_)
  refine jb_aload_n (pc' := 32) dX12_ofVoice_31 rfl rfl ?_
  refine jb_iload_n (pc' := 33) dX12_ofVoice_32 rfl rfl ?_
  refine jb_iload_n (pc' := 34) dX12_ofVoice_33 rfl rfl ?_
  refine jb_callV (pc' := 37) (ci := 12) (q := 105) (As := [.int (nI p), .int 2]) (a2 := 0) (b2 := 0) wv_X12_145 rfl dX12_ofVoice_34 (c_of2 I J d e kp nm W hd0 hk0 p (by omega)) rfl rfl ⟨by decide, Nat.le_of_eq (Nat.zero_add _), Nat.le_of_eq (Nat.zero_add _)⟩ (Nat.le_of_ble_eq_true rfl) rfl (fun r h9 hq => ?_)
  obtain ⟨rfl, rfl⟩ := hq
  show jb_J _ RX12 cX12_ofVoice 3 (Option.some .int) false 2 0 0 37 [some (.ref 105), some (.int (nI p)), some (.int 2)] [.int (nI (V 3 p))] [s0, s1, s2, s3, s4, s5, s6, s7, s8, s9, jb_mdl I J d e kp nm W, s11] _
  refine jb_goto (pc' := 45) dX12_ofVoice_37 (by decide) ?_
  refine jb_iret dX12_ofVoice_45 rfl ?_
  exact ⟨rfl, rfl⟩
set_option maxRecDepth 100000 in
set_option maxHeartbeats 4000000 in
theorem mx_ofVoice3 {sc : Nat × (Nat → Int32)} {s0 s1 s2 s3 s4 s5 s6 s7 s8 s9 s11 : List va_E} {V : Nat → Nat → Nat} (I J d e kp nm : Nat → Int32) (W : Nat → Nat → Int32) (hd : jd_ V d) (hk : jv_ok V) (p : Nat) (hp : p < V 0 1) : jb_C sc yX12_ofVoice cX12_ofVoice 3 (Option.some .int) 2 0 0 [.ref 105, .int (nI p), .int 3] [s0, s1, s2, s3, s4, s5, s6, s7, s8, s9, jb_mdl I J d e kp nm W, s11] (fun r h9 => r = some (.int (nI (jm_th V p))) ∧ h9 = [s0, s1, s2, s3, s4, s5, s6, s7, s8, s9, jb_mdl I J d e kp nm W, s11]) := by
  refine jb_CofJ (ini := false) (by decide +kernel) (fun h => by cases h) (Nat.le_of_ble_eq_true rfl) ?_
  show jb_J sc RX12 cX12_ofVoice 3 (Option.some .int) false 2 0 0 0 [some (.ref 105), some (.int (nI p)), some (.int 3)] [] [s0, s1, s2, s3, s4, s5, s6, s7, s8, s9, jb_mdl I J d e kp nm W, s11] _
  have hd0 := hd
  have hk0 := hk
  obtain ⟨e0, e1, e2, e3, e4, e5, e6, dv, ds, dd⟩ := hd
  obtain ⟨k0, k1, k2, k3, k4, k5, k6, k7, kv, ks, kd⟩ := hk
  refine jb_aload_n (pc' := 1) dX12_ofVoice_0 rfl rfl ?_
  refine jb_iload_n (pc' := 2) dX12_ofVoice_1 rfl rfl ?_
  refine jb_callV (pc' := 5) (ci := 12) (q := 105) (As := [.int (nI p)]) (a2 := 0) (b2 := 0) wv_X12_149 rfl dX12_ofVoice_2 (c_isVoiceG I J d e kp nm W hd0 hk0 p (by omega)) rfl rfl ⟨by decide, Nat.le_of_eq (Nat.zero_add _), Nat.le_of_eq (Nat.zero_add _)⟩ (Nat.le_of_ble_eq_true rfl) rfl (fun r h9 hq => ?_)
  obtain ⟨rfl, rfl⟩ := hq
  show jb_J _ RX12 cX12_ofVoice 3 (Option.some .int) false 2 0 0 5 [some (.ref 105), some (.int (nI p)), some (.int 3)] [.int 1] [s0, s1, s2, s3, s4, s5, s6, s7, s8, s9, jb_mdl I J d e kp nm W, s11] _
  refine jb_if_eq (tgt := 20) (pc' := 8) dX12_ofVoice_5 (by decide) rfl (fun z => absurd z (by decide)) (fun _ => ?_)
  refine jb_iload_n (pc' := 9) dX12_ofVoice_8 rfl rfl ?_
  refine jb_i2l (pc' := 10) dX12_ofVoice_9 rfl ?_
  refine jb_lconst (pc' := 11) 0 dX12_ofVoice_10 (by decide) rfl ?_
  refine jb_ldc2 (pc' := 14) 3 dX12_ofVoice_11 wk_X12_152 rfl ?_
  refine jb_callS (pc' := 17) (As := [.long ((3 : Int32).toInt64), .long 0, .long 3]) (a2 := 0) (b2 := 0) wv_X12_56 dX12_ofVoice_14 (c_inLG _ 3 0 3 (by omega) (by omega) (by omega)) rfl ⟨by decide, Nat.le_of_eq (Nat.zero_add _), Nat.le_of_eq (Nat.zero_add _)⟩ (Nat.le_of_ble_eq_true rfl) rfl (fun r h9 hq => ?_)
  obtain ⟨rfl, rfl⟩ := hq
  show jb_J _ RX12 cX12_ofVoice 3 (Option.some .int) false 2 0 0 17 [some (.ref 105), some (.int (nI p)), some (.int 3)] [.int 1] [s0, s1, s2, s3, s4, s5, s6, s7, s8, s9, jb_mdl I J d e kp nm W, s11] _
  refine jb_if_ne (tgt := 26) (pc' := 20) dX12_ofVoice_17 (by decide) rfl (fun _ => ?_) (fun z => absurd z (by decide))
  refine jb_iload_n (pc' := 27) dX12_ofVoice_26 rfl rfl ?_
  refine jb_iconst (pc' := 28) 3 dX12_ofVoice_27 (by decide) rfl ?_
  refine jb_icmp_ge (tgt := 40) (pc' := 31) dX12_ofVoice_28 (by decide) rfl (fun _ => ?_) (fun z => absurd (by decide) z)
  refine jb_aload_n (pc' := 41) dX12_ofVoice_40 rfl rfl ?_
  refine jb_iload_n (pc' := 42) dX12_ofVoice_41 rfl rfl ?_
  refine jb_callV (pc' := 45) (ci := 12) (q := 105) (As := [.int (nI p)]) (a2 := 0) (b2 := 0) wv_X12_154 rfl dX12_ofVoice_42 (c_thinksOf I J d e kp nm W hd0 hk0 p (by omega)) rfl rfl ⟨by decide, Nat.le_of_eq (Nat.zero_add _), Nat.le_of_eq (Nat.zero_add _)⟩ (Nat.le_of_ble_eq_true rfl) rfl (fun r h9 hq => ?_)
  obtain ⟨rfl, rfl⟩ := hq
  show jb_J _ RX12 cX12_ofVoice 3 (Option.some .int) false 2 0 0 45 [some (.ref 105), some (.int (nI p)), some (.int 3)] [.int (nI (jm_th V p))] [s0, s1, s2, s3, s4, s5, s6, s7, s8, s9, jb_mdl I J d e kp nm W, s11] _
  refine jb_iret dX12_ofVoice_45 rfl ?_
  exact ⟨rfl, rfl⟩
set_option maxRecDepth 100000 in
set_option maxHeartbeats 4000000 in
theorem me_ofVoice {sc : Nat × (Nat → Int32)} {s0 s1 s2 s3 s4 s5 s6 s7 s8 s9 s11 : List va_E} {V : Nat → Nat → Nat} (I J d e kp nm : Nat → Int32) (W : Nat → Nat → Int32) (hd : jd_ V d) (hk : jv_ok V) (p w : Int32) (hb : ¬ (jn_b p 0 (V 0 1) ∧ jn_b w 0 4)) : jb_C sc yX12_ofVoice cX12_ofVoice 3 (Option.some .int) 2 0 0 [.ref 105, .int p, .int w] [s0, s1, s2, s3, s4, s5, s6, s7, s8, s9, jb_mdl I J d e kp nm W, s11] (fun r h9 => r = some (.int (jm_er 1)) ∧ h9 = [s0, s1, s2, s3, s4, s5, s6, s7, s8, s9, jb_mdl I J d e kp nm (va_up W 0 (jm_ef (W 0) 1)), s11]) := by
  refine jb_CofJ (ini := false) (by decide +kernel) (fun h => by cases h) (Nat.le_of_ble_eq_true rfl) ?_
  show jb_J sc RX12 cX12_ofVoice 3 (Option.some .int) false 2 0 0 0 [some (.ref 105), some (.int p), some (.int w)] [] [s0, s1, s2, s3, s4, s5, s6, s7, s8, s9, jb_mdl I J d e kp nm W, s11] _
  have hd0 := hd
  have hk0 := hk
  obtain ⟨e0, e1, e2, e3, e4, e5, e6, dv, ds, dd⟩ := hd
  obtain ⟨k0, k1, k2, k3, k4, k5, k6, k7, kv, ks, kd⟩ := hk
  refine jb_aload_n (pc' := 1) dX12_ofVoice_0 rfl rfl ?_
  refine jb_iload_n (pc' := 2) dX12_ofVoice_1 rfl rfl ?_
  refine jb_callV (pc' := 5) (ci := 12) (q := 105) (As := [.int p]) (a2 := 0) (b2 := 0) wv_X12_149 rfl dX12_ofVoice_2 (c_isVoice I J d e kp nm W hd0 hk0 p) rfl rfl ⟨by decide, Nat.le_of_eq (Nat.zero_add _), Nat.le_of_eq (Nat.zero_add _)⟩ (Nat.le_of_ble_eq_true rfl) rfl (fun r h9 hq => ?_)
  rcases hq with ⟨rfl, ⟨o1, rfl⟩ | ⟨o1, rfl⟩⟩
  · show jb_J _ RX12 cX12_ofVoice 3 (Option.some .int) false 2 0 0 5 [some (.ref 105), some (.int p), some (.int w)] [.int 1] [s0, s1, s2, s3, s4, s5, s6, s7, s8, s9, jb_mdl I J d e kp nm W, s11] _
    refine jb_if_eq (tgt := 20) (pc' := 8) dX12_ofVoice_5 (by decide) rfl (fun z => absurd z (by decide)) (fun _ => ?_)
    refine jb_iload_n (pc' := 9) dX12_ofVoice_8 rfl rfl ?_
    refine jb_i2l (pc' := 10) dX12_ofVoice_9 rfl ?_
    refine jb_lconst (pc' := 11) 0 dX12_ofVoice_10 (by decide) rfl ?_
    refine jb_ldc2 (pc' := 14) 3 dX12_ofVoice_11 wk_X12_152 rfl ?_
    refine jb_callS (pc' := 17) (As := [.long w.toInt64, .long 0, .long 3]) (a2 := 0) (b2 := 0) wv_X12_56 dX12_ofVoice_14 (c_inL _ w 0 3 (by omega) (by omega)) rfl ⟨by decide, Nat.le_of_eq (Nat.zero_add _), Nat.le_of_eq (Nat.zero_add _)⟩ (Nat.le_of_ble_eq_true rfl) rfl (fun r h9 hq => ?_)
    rcases hq with ⟨rfl, ⟨o4, rfl⟩ | ⟨o4, rfl⟩⟩
    · show jb_J _ RX12 cX12_ofVoice 3 (Option.some .int) false 2 0 0 17 [some (.ref 105), some (.int p), some (.int w)] [.int 1] [s0, s1, s2, s3, s4, s5, s6, s7, s8, s9, jb_mdl I J d e kp nm W, s11] _
      refine jb_if_ne (tgt := 26) (pc' := 20) dX12_ofVoice_17 (by decide) rfl (fun _ => ?_) (fun z => absurd z (by decide))
      refine jb_iload_n (pc' := 27) dX12_ofVoice_26 rfl rfl ?_
      refine jb_iconst (pc' := 28) 3 dX12_ofVoice_27 (by decide) rfl ?_
      refine jb_icmp_ge (tgt := 40) (pc' := 31) dX12_ofVoice_28 (by decide) rfl (fun c7 => ?_) (fun c7 => ?_)
      · exact absurd ⟨by assumption, by assumption⟩ hb
      · exact absurd ⟨by assumption, by assumption⟩ hb
    · show jb_J _ RX12 cX12_ofVoice 3 (Option.some .int) false 2 0 0 17 [some (.ref 105), some (.int p), some (.int w)] [.int 0] [s0, s1, s2, s3, s4, s5, s6, s7, s8, s9, jb_mdl I J d e kp nm W, s11] _
      refine jb_if_ne (tgt := 26) (pc' := 20) dX12_ofVoice_17 (by decide) rfl (fun z => absurd (by decide) z) (fun _ => ?_)
      refine jb_aload_n (pc' := 21) dX12_ofVoice_20 rfl rfl ?_
      refine jb_iconst (pc' := 22) 1 dX12_ofVoice_21 (by decide) rfl ?_
      refine jb_callV (pc' := 25) (ci := 12) (q := 105) (As := [.int 1]) (a2 := 0) (b2 := 0) wv_X12_121 rfl dX12_ofVoice_22 (c_finds I J d e kp nm W 1 (by decide)) rfl rfl ⟨by decide, Nat.le_of_eq (Nat.zero_add _), Nat.le_of_eq (Nat.zero_add _)⟩ (Nat.le_of_ble_eq_true rfl) rfl (fun r h9 hq => ?_)
      obtain ⟨rfl, rfl⟩ := hq
      show jb_J _ RX12 cX12_ofVoice 3 (Option.some .int) false 2 0 0 25 [some (.ref 105), some (.int p), some (.int w)] [.int (jm_er 1)] [s0, s1, s2, s3, s4, s5, s6, s7, s8, s9, jb_mdl I J d e kp nm (va_up W 0 (jm_ef (W 0) 1)), s11] _
      refine jb_iret dX12_ofVoice_25 rfl ?_
      exact ⟨rfl, rfl⟩
  · show jb_J _ RX12 cX12_ofVoice 3 (Option.some .int) false 2 0 0 5 [some (.ref 105), some (.int p), some (.int w)] [.int 0] [s0, s1, s2, s3, s4, s5, s6, s7, s8, s9, jb_mdl I J d e kp nm W, s11] _
    refine jb_if_eq (tgt := 20) (pc' := 8) dX12_ofVoice_5 (by decide) rfl (fun _ => ?_) (fun z => absurd (by decide) z)
    refine jb_aload_n (pc' := 21) dX12_ofVoice_20 rfl rfl ?_
    refine jb_iconst (pc' := 22) 1 dX12_ofVoice_21 (by decide) rfl ?_
    refine jb_callV (pc' := 25) (ci := 12) (q := 105) (As := [.int 1]) (a2 := 0) (b2 := 0) wv_X12_121 rfl dX12_ofVoice_22 (c_finds I J d e kp nm W 1 (by decide)) rfl rfl ⟨by decide, Nat.le_of_eq (Nat.zero_add _), Nat.le_of_eq (Nat.zero_add _)⟩ (Nat.le_of_ble_eq_true rfl) rfl (fun r h9 hq => ?_)
    obtain ⟨rfl, rfl⟩ := hq
    show jb_J _ RX12 cX12_ofVoice 3 (Option.some .int) false 2 0 0 25 [some (.ref 105), some (.int p), some (.int w)] [.int (jm_er 1)] [s0, s1, s2, s3, s4, s5, s6, s7, s8, s9, jb_mdl I J d e kp nm (va_up W 0 (jm_ef (W 0) 1)), s11] _
    refine jb_iret dX12_ofVoice_25 rfl ?_
    exact ⟨rfl, rfl⟩
set_option maxRecDepth 100000 in
set_option maxHeartbeats 4000000 in
theorem mx_carries {sc : Nat × (Nat → Int32)} {s0 s1 s2 s3 s4 s5 s6 s7 s8 s9 s11 : List va_E} {V : Nat → Nat → Nat} (I J d e kp nm : Nat → Int32) (W : Nat → Nat → Int32) (hd : jd_ V d) (hk : jv_ok V) (p : Nat) (hp : p < V 0 1) (w : Nat) (hw : w < 40) {G : jm_G} (hG : jm_Gok G) {d0 : Nat → Int32} (hg : jGm sc d0 G) (hag : ∀ k, 316 ≤ k → d k = d0 k) : jb_C sc yX12_carries cX12_carries 3 (Option.some .int) 47 0 0 [.ref 105, .int (nI p), .int (nI w)] [s0, s1, s2, s3, s4, s5, s6, s7, s8, s9, jb_mdl I J d e kp nm W, s11] (fun r h9 => r = some (.int (jm_ca V G p w)) ∧ ∃ J9 nm9, h9 = [s0, s1, s2, s3, s4, s5, s6, s7, s8, s9, jb_mdl I J9 d e kp nm9 W, s11]) := by
  refine jb_CofJ (ini := false) (by decide +kernel) (fun h => by cases h) (Nat.le_of_ble_eq_true rfl) ?_
  show jb_J sc RX12 cX12_carries 3 (Option.some .int) false 47 0 0 0 [some (.ref 105), some (.int (nI p)), some (.int (nI w))] [] [s0, s1, s2, s3, s4, s5, s6, s7, s8, s9, jb_mdl I J d e kp nm W, s11] _
  have hd0 := hd
  have hk0 := hk
  obtain ⟨e0, e1, e2, e3, e4, e5, e6, dv, ds, dd⟩ := hd
  obtain ⟨k0, k1, k2, k3, k4, k5, k6, k7, kv, ks, kd⟩ := hk
  refine jb_aload_n (pc' := 1) dX12_carries_0 rfl rfl ?_
  refine jb_iload_n (pc' := 2) dX12_carries_1 rfl rfl ?_
  refine jb_callV (pc' := 5) (ci := 12) (q := 105) (As := [.int (nI p)]) (a2 := 0) (b2 := 0) wv_X12_149 rfl dX12_carries_2 (c_isVoiceG I J d e kp nm W hd0 hk0 p (by omega)) rfl rfl ⟨by decide, Nat.le_of_eq (Nat.zero_add _), Nat.le_of_eq (Nat.zero_add _)⟩ (Nat.le_of_ble_eq_true rfl) rfl (fun r h9 hq => ?_)
  obtain ⟨rfl, rfl⟩ := hq
  show jb_J _ RX12 cX12_carries 3 (Option.some .int) false 47 0 0 5 [some (.ref 105), some (.int (nI p)), some (.int (nI w))] [.int 1] [s0, s1, s2, s3, s4, s5, s6, s7, s8, s9, jb_mdl I J d e kp nm W, s11] _
  refine jb_if_eq (tgt := 24) (pc' := 8) dX12_carries_5 (by decide) rfl (fun z => absurd z (by decide)) (fun _ => ?_)
  refine jb_iload_n (pc' := 9) dX12_carries_8 rfl rfl ?_
  refine jb_callS (pc' := 12) (As := [.int (nI w)]) (a2 := 0) (b2 := 0) wv_X12_157 dX12_carries_9 (c_isWordG _ w (by omega)) rfl ⟨by decide, Nat.le_of_eq (Nat.zero_add _), Nat.le_of_eq (Nat.zero_add _)⟩ (Nat.le_of_ble_eq_true rfl) rfl (fun r h9 hq => ?_)
  obtain ⟨rfl, rfl⟩ := hq
  show jb_J _ RX12 cX12_carries 3 (Option.some .int) false 47 0 0 12 [some (.ref 105), some (.int (nI p)), some (.int (nI w))] [.int 1] [s0, s1, s2, s3, s4, s5, s6, s7, s8, s9, jb_mdl I J d e kp nm W, s11] _
  refine jb_if_eq (tgt := 24) (pc' := 15) dX12_carries_12 (by decide) rfl (fun z => absurd z (by decide)) (fun _ => ?_)
  refine jb_aload_n (pc' := 16) dX12_carries_15 rfl rfl ?_
  refine jb_iload_n (pc' := 17) dX12_carries_16 rfl rfl ?_
  refine jb_iload_n (pc' := 18) dX12_carries_17 rfl rfl ?_
  refine jb_callV (pc' := 21) (ci := 12) (q := 105) (As := [.int (nI p), .int (nI w)]) (a2 := 0) (b2 := 0) wv_X12_160 rfl dX12_carries_18 (c_carriesOf I J d e kp nm W hd0 hk0 hG hg hag p w hp hw) rfl rfl ⟨by decide, Nat.le_of_eq (Nat.zero_add _), Nat.le_of_eq (Nat.zero_add _)⟩ (Nat.le_of_ble_eq_true rfl) rfl (fun r h9 hq => ?_)
  obtain ⟨rfl, J9, nm9, rfl⟩ := hq
  show jb_J _ RX12 cX12_carries 3 (Option.some .int) false 47 0 0 21 [some (.ref 105), some (.int (nI p)), some (.int (nI w))] [.int (jm_ca V G p w)] [s0, s1, s2, s3, s4, s5, s6, s7, s8, s9, jb_mdl I J9 d e kp nm9 W, s11] _
  refine jb_goto (pc' := 29) dX12_carries_21 (by decide) ?_
  refine jb_iret dX12_carries_29 rfl ?_
  exact ⟨rfl, _, _, rfl⟩
set_option maxRecDepth 100000 in
set_option maxHeartbeats 4000000 in
theorem mx_says {sc : Nat × (Nat → Int32)} {s0 s1 s2 s3 s4 s5 s6 s7 s8 s9 s11 : List va_E} {V : Nat → Nat → Nat} (I J d e kp nm : Nat → Int32) (W : Nat → Nat → Int32) (hd : jd_ V d) (hk : jv_ok V) (p : Nat) (hp : p < V 0 1) (w : Nat) (hw : w < 40) {G : jm_G} (hG : jm_Gok G) {d0 : Nat → Int32} (hg : jGm sc d0 G) (hag : ∀ k, 316 ≤ k → d k = d0 k) : jb_C sc yX12_says cX12_says 3 (Option.some .int) 47 0 0 [.ref 105, .int (nI p), .int (nI w)] [s0, s1, s2, s3, s4, s5, s6, s7, s8, s9, jb_mdl I J d e kp nm W, s11] (fun r h9 => r = some (.int (nI (jm_sa V G p w))) ∧ ∃ J9 nm9, h9 = [s0, s1, s2, s3, s4, s5, s6, s7, s8, s9, jb_mdl I J9 d e kp nm9 W, s11]) := by
  refine jb_CofJ (ini := false) (by decide +kernel) (fun h => by cases h) (Nat.le_of_ble_eq_true rfl) ?_
  show jb_J sc RX12 cX12_says 3 (Option.some .int) false 47 0 0 0 [some (.ref 105), some (.int (nI p)), some (.int (nI w))] [] [s0, s1, s2, s3, s4, s5, s6, s7, s8, s9, jb_mdl I J d e kp nm W, s11] _
  have hd0 := hd
  have hk0 := hk
  obtain ⟨e0, e1, e2, e3, e4, e5, e6, dv, ds, dd⟩ := hd
  obtain ⟨k0, k1, k2, k3, k4, k5, k6, k7, kv, ks, kd⟩ := hk
  refine jb_aload_n (pc' := 1) dX12_says_0 rfl rfl ?_
  refine jb_iload_n (pc' := 2) dX12_says_1 rfl rfl ?_
  refine jb_callV (pc' := 5) (ci := 12) (q := 105) (As := [.int (nI p)]) (a2 := 0) (b2 := 0) wv_X12_149 rfl dX12_says_2 (c_isVoiceG I J d e kp nm W hd0 hk0 p (by omega)) rfl rfl ⟨by decide, Nat.le_of_eq (Nat.zero_add _), Nat.le_of_eq (Nat.zero_add _)⟩ (Nat.le_of_ble_eq_true rfl) rfl (fun r h9 hq => ?_)
  obtain ⟨rfl, rfl⟩ := hq
  show jb_J _ RX12 cX12_says 3 (Option.some .int) false 47 0 0 5 [some (.ref 105), some (.int (nI p)), some (.int (nI w))] [.int 1] [s0, s1, s2, s3, s4, s5, s6, s7, s8, s9, jb_mdl I J d e kp nm W, s11] _
  refine jb_if_eq (tgt := 24) (pc' := 8) dX12_says_5 (by decide) rfl (fun z => absurd z (by decide)) (fun _ => ?_)
  refine jb_iload_n (pc' := 9) dX12_says_8 rfl rfl ?_
  refine jb_callS (pc' := 12) (As := [.int (nI w)]) (a2 := 0) (b2 := 0) wv_X12_157 dX12_says_9 (c_isWordG _ w (by omega)) rfl ⟨by decide, Nat.le_of_eq (Nat.zero_add _), Nat.le_of_eq (Nat.zero_add _)⟩ (Nat.le_of_ble_eq_true rfl) rfl (fun r h9 hq => ?_)
  obtain ⟨rfl, rfl⟩ := hq
  show jb_J _ RX12 cX12_says 3 (Option.some .int) false 47 0 0 12 [some (.ref 105), some (.int (nI p)), some (.int (nI w))] [.int 1] [s0, s1, s2, s3, s4, s5, s6, s7, s8, s9, jb_mdl I J d e kp nm W, s11] _
  refine jb_if_eq (tgt := 24) (pc' := 15) dX12_says_12 (by decide) rfl (fun z => absurd z (by decide)) (fun _ => ?_)
  refine jb_aload_n (pc' := 16) dX12_says_15 rfl rfl ?_
  refine jb_iload_n (pc' := 17) dX12_says_16 rfl rfl ?_
  refine jb_iload_n (pc' := 18) dX12_says_17 rfl rfl ?_
  refine jb_callV (pc' := 21) (ci := 12) (q := 105) (As := [.int (nI p), .int (nI w)]) (a2 := 0) (b2 := 0) wv_X12_163 rfl dX12_says_18 (c_saysOf I J d e kp nm W hd0 hk0 hG hg hag p w hp hw) rfl rfl ⟨by decide, Nat.le_of_eq (Nat.zero_add _), Nat.le_of_eq (Nat.zero_add _)⟩ (Nat.le_of_ble_eq_true rfl) rfl (fun r h9 hq => ?_)
  obtain ⟨rfl, J9, nm9, rfl⟩ := hq
  show jb_J _ RX12 cX12_says 3 (Option.some .int) false 47 0 0 21 [some (.ref 105), some (.int (nI p)), some (.int (nI w))] [.int (nI (jm_sa V G p w))] [s0, s1, s2, s3, s4, s5, s6, s7, s8, s9, jb_mdl I J9 d e kp nm9 W, s11] _
  refine jb_goto (pc' := 29) dX12_says_21 (by decide) ?_
  refine jb_iret dX12_says_29 rfl ?_
  exact ⟨rfl, _, _, rfl⟩
set_option maxRecDepth 100000 in
set_option maxHeartbeats 4000000 in
theorem me_carries {sc : Nat × (Nat → Int32)} {s0 s1 s2 s3 s4 s5 s6 s7 s8 s9 s11 : List va_E} {V : Nat → Nat → Nat} (I J d e kp nm : Nat → Int32) (W : Nat → Nat → Int32) (hd : jd_ V d) (hk : jv_ok V) (p w : Int32) (hb : ¬ (jn_b p 0 (V 0 1) ∧ jn_b w 0 40)) : jb_C sc yX12_carries cX12_carries 3 (Option.some .int) 2 0 0 [.ref 105, .int p, .int w] [s0, s1, s2, s3, s4, s5, s6, s7, s8, s9, jb_mdl I J d e kp nm W, s11] (fun r h9 => r = some (.int (jm_er 1)) ∧ h9 = [s0, s1, s2, s3, s4, s5, s6, s7, s8, s9, jb_mdl I J d e kp nm (va_up W 0 (jm_ef (W 0) 1)), s11]) := by
  refine jb_CofJ (ini := false) (by decide +kernel) (fun h => by cases h) (Nat.le_of_ble_eq_true rfl) ?_
  show jb_J sc RX12 cX12_carries 3 (Option.some .int) false 2 0 0 0 [some (.ref 105), some (.int p), some (.int w)] [] [s0, s1, s2, s3, s4, s5, s6, s7, s8, s9, jb_mdl I J d e kp nm W, s11] _
  have hd0 := hd
  have hk0 := hk
  obtain ⟨e0, e1, e2, e3, e4, e5, e6, dv, ds, dd⟩ := hd
  obtain ⟨k0, k1, k2, k3, k4, k5, k6, k7, kv, ks, kd⟩ := hk
  refine jb_aload_n (pc' := 1) dX12_carries_0 rfl rfl ?_
  refine jb_iload_n (pc' := 2) dX12_carries_1 rfl rfl ?_
  refine jb_callV (pc' := 5) (ci := 12) (q := 105) (As := [.int p]) (a2 := 0) (b2 := 0) wv_X12_149 rfl dX12_carries_2 (c_isVoice I J d e kp nm W hd0 hk0 p) rfl rfl ⟨by decide, Nat.le_of_eq (Nat.zero_add _), Nat.le_of_eq (Nat.zero_add _)⟩ (Nat.le_of_ble_eq_true rfl) rfl (fun r h9 hq => ?_)
  rcases hq with ⟨rfl, ⟨o1, rfl⟩ | ⟨o1, rfl⟩⟩
  · show jb_J _ RX12 cX12_carries 3 (Option.some .int) false 2 0 0 5 [some (.ref 105), some (.int p), some (.int w)] [.int 1] [s0, s1, s2, s3, s4, s5, s6, s7, s8, s9, jb_mdl I J d e kp nm W, s11] _
    refine jb_if_eq (tgt := 24) (pc' := 8) dX12_carries_5 (by decide) rfl (fun z => absurd z (by decide)) (fun _ => ?_)
    refine jb_iload_n (pc' := 9) dX12_carries_8 rfl rfl ?_
    refine jb_callS (pc' := 12) (As := [.int w]) (a2 := 0) (b2 := 0) wv_X12_157 dX12_carries_9 (c_isWord _ w) rfl ⟨by decide, Nat.le_of_eq (Nat.zero_add _), Nat.le_of_eq (Nat.zero_add _)⟩ (Nat.le_of_ble_eq_true rfl) rfl (fun r h9 hq => ?_)
    rcases hq with ⟨rfl, ⟨o4, rfl⟩ | ⟨o4, rfl⟩⟩
    · show jb_J _ RX12 cX12_carries 3 (Option.some .int) false 2 0 0 12 [some (.ref 105), some (.int p), some (.int w)] [.int 1] [s0, s1, s2, s3, s4, s5, s6, s7, s8, s9, jb_mdl I J d e kp nm W, s11] _
      exact absurd ⟨by assumption, by assumption⟩ hb
    · show jb_J _ RX12 cX12_carries 3 (Option.some .int) false 2 0 0 12 [some (.ref 105), some (.int p), some (.int w)] [.int 0] [s0, s1, s2, s3, s4, s5, s6, s7, s8, s9, jb_mdl I J d e kp nm W, s11] _
      refine jb_if_eq (tgt := 24) (pc' := 15) dX12_carries_12 (by decide) rfl (fun _ => ?_) (fun z => absurd (by decide) z)
      refine jb_aload_n (pc' := 25) dX12_carries_24 rfl rfl ?_
      refine jb_iconst (pc' := 26) 1 dX12_carries_25 (by decide) rfl ?_
      refine jb_callV (pc' := 29) (ci := 12) (q := 105) (As := [.int 1]) (a2 := 0) (b2 := 0) wv_X12_121 rfl dX12_carries_26 (c_finds I J d e kp nm W 1 (by decide)) rfl rfl ⟨by decide, Nat.le_of_eq (Nat.zero_add _), Nat.le_of_eq (Nat.zero_add _)⟩ (Nat.le_of_ble_eq_true rfl) rfl (fun r h9 hq => ?_)
      obtain ⟨rfl, rfl⟩ := hq
      show jb_J _ RX12 cX12_carries 3 (Option.some .int) false 2 0 0 29 [some (.ref 105), some (.int p), some (.int w)] [.int (jm_er 1)] [s0, s1, s2, s3, s4, s5, s6, s7, s8, s9, jb_mdl I J d e kp nm (va_up W 0 (jm_ef (W 0) 1)), s11] _
      refine jb_iret dX12_carries_29 rfl ?_
      exact ⟨rfl, rfl⟩
  · show jb_J _ RX12 cX12_carries 3 (Option.some .int) false 2 0 0 5 [some (.ref 105), some (.int p), some (.int w)] [.int 0] [s0, s1, s2, s3, s4, s5, s6, s7, s8, s9, jb_mdl I J d e kp nm W, s11] _
    refine jb_if_eq (tgt := 24) (pc' := 8) dX12_carries_5 (by decide) rfl (fun _ => ?_) (fun z => absurd (by decide) z)
    refine jb_aload_n (pc' := 25) dX12_carries_24 rfl rfl ?_
    refine jb_iconst (pc' := 26) 1 dX12_carries_25 (by decide) rfl ?_
    refine jb_callV (pc' := 29) (ci := 12) (q := 105) (As := [.int 1]) (a2 := 0) (b2 := 0) wv_X12_121 rfl dX12_carries_26 (c_finds I J d e kp nm W 1 (by decide)) rfl rfl ⟨by decide, Nat.le_of_eq (Nat.zero_add _), Nat.le_of_eq (Nat.zero_add _)⟩ (Nat.le_of_ble_eq_true rfl) rfl (fun r h9 hq => ?_)
    obtain ⟨rfl, rfl⟩ := hq
    show jb_J _ RX12 cX12_carries 3 (Option.some .int) false 2 0 0 29 [some (.ref 105), some (.int p), some (.int w)] [.int (jm_er 1)] [s0, s1, s2, s3, s4, s5, s6, s7, s8, s9, jb_mdl I J d e kp nm (va_up W 0 (jm_ef (W 0) 1)), s11] _
    refine jb_iret dX12_carries_29 rfl ?_
    exact ⟨rfl, rfl⟩
set_option maxRecDepth 100000 in
set_option maxHeartbeats 4000000 in
theorem me_says {sc : Nat × (Nat → Int32)} {s0 s1 s2 s3 s4 s5 s6 s7 s8 s9 s11 : List va_E} {V : Nat → Nat → Nat} (I J d e kp nm : Nat → Int32) (W : Nat → Nat → Int32) (hd : jd_ V d) (hk : jv_ok V) (p w : Int32) (hb : ¬ (jn_b p 0 (V 0 1) ∧ jn_b w 0 40)) : jb_C sc yX12_says cX12_says 3 (Option.some .int) 2 0 0 [.ref 105, .int p, .int w] [s0, s1, s2, s3, s4, s5, s6, s7, s8, s9, jb_mdl I J d e kp nm W, s11] (fun r h9 => r = some (.int (jm_er 1)) ∧ h9 = [s0, s1, s2, s3, s4, s5, s6, s7, s8, s9, jb_mdl I J d e kp nm (va_up W 0 (jm_ef (W 0) 1)), s11]) := by
  refine jb_CofJ (ini := false) (by decide +kernel) (fun h => by cases h) (Nat.le_of_ble_eq_true rfl) ?_
  show jb_J sc RX12 cX12_says 3 (Option.some .int) false 2 0 0 0 [some (.ref 105), some (.int p), some (.int w)] [] [s0, s1, s2, s3, s4, s5, s6, s7, s8, s9, jb_mdl I J d e kp nm W, s11] _
  have hd0 := hd
  have hk0 := hk
  obtain ⟨e0, e1, e2, e3, e4, e5, e6, dv, ds, dd⟩ := hd
  obtain ⟨k0, k1, k2, k3, k4, k5, k6, k7, kv, ks, kd⟩ := hk
  refine jb_aload_n (pc' := 1) dX12_says_0 rfl rfl ?_
  refine jb_iload_n (pc' := 2) dX12_says_1 rfl rfl ?_
  refine jb_callV (pc' := 5) (ci := 12) (q := 105) (As := [.int p]) (a2 := 0) (b2 := 0) wv_X12_149 rfl dX12_says_2 (c_isVoice I J d e kp nm W hd0 hk0 p) rfl rfl ⟨by decide, Nat.le_of_eq (Nat.zero_add _), Nat.le_of_eq (Nat.zero_add _)⟩ (Nat.le_of_ble_eq_true rfl) rfl (fun r h9 hq => ?_)
  rcases hq with ⟨rfl, ⟨o1, rfl⟩ | ⟨o1, rfl⟩⟩
  · show jb_J _ RX12 cX12_says 3 (Option.some .int) false 2 0 0 5 [some (.ref 105), some (.int p), some (.int w)] [.int 1] [s0, s1, s2, s3, s4, s5, s6, s7, s8, s9, jb_mdl I J d e kp nm W, s11] _
    refine jb_if_eq (tgt := 24) (pc' := 8) dX12_says_5 (by decide) rfl (fun z => absurd z (by decide)) (fun _ => ?_)
    refine jb_iload_n (pc' := 9) dX12_says_8 rfl rfl ?_
    refine jb_callS (pc' := 12) (As := [.int w]) (a2 := 0) (b2 := 0) wv_X12_157 dX12_says_9 (c_isWord _ w) rfl ⟨by decide, Nat.le_of_eq (Nat.zero_add _), Nat.le_of_eq (Nat.zero_add _)⟩ (Nat.le_of_ble_eq_true rfl) rfl (fun r h9 hq => ?_)
    rcases hq with ⟨rfl, ⟨o4, rfl⟩ | ⟨o4, rfl⟩⟩
    · show jb_J _ RX12 cX12_says 3 (Option.some .int) false 2 0 0 12 [some (.ref 105), some (.int p), some (.int w)] [.int 1] [s0, s1, s2, s3, s4, s5, s6, s7, s8, s9, jb_mdl I J d e kp nm W, s11] _
      exact absurd ⟨by assumption, by assumption⟩ hb
    · show jb_J _ RX12 cX12_says 3 (Option.some .int) false 2 0 0 12 [some (.ref 105), some (.int p), some (.int w)] [.int 0] [s0, s1, s2, s3, s4, s5, s6, s7, s8, s9, jb_mdl I J d e kp nm W, s11] _
      refine jb_if_eq (tgt := 24) (pc' := 15) dX12_says_12 (by decide) rfl (fun _ => ?_) (fun z => absurd (by decide) z)
      refine jb_aload_n (pc' := 25) dX12_says_24 rfl rfl ?_
      refine jb_iconst (pc' := 26) 1 dX12_says_25 (by decide) rfl ?_
      refine jb_callV (pc' := 29) (ci := 12) (q := 105) (As := [.int 1]) (a2 := 0) (b2 := 0) wv_X12_121 rfl dX12_says_26 (c_finds I J d e kp nm W 1 (by decide)) rfl rfl ⟨by decide, Nat.le_of_eq (Nat.zero_add _), Nat.le_of_eq (Nat.zero_add _)⟩ (Nat.le_of_ble_eq_true rfl) rfl (fun r h9 hq => ?_)
      obtain ⟨rfl, rfl⟩ := hq
      show jb_J _ RX12 cX12_says 3 (Option.some .int) false 2 0 0 29 [some (.ref 105), some (.int p), some (.int w)] [.int (jm_er 1)] [s0, s1, s2, s3, s4, s5, s6, s7, s8, s9, jb_mdl I J d e kp nm (va_up W 0 (jm_ef (W 0) 1)), s11] _
      refine jb_iret dX12_says_29 rfl ?_
      exact ⟨rfl, rfl⟩
  · show jb_J _ RX12 cX12_says 3 (Option.some .int) false 2 0 0 5 [some (.ref 105), some (.int p), some (.int w)] [.int 0] [s0, s1, s2, s3, s4, s5, s6, s7, s8, s9, jb_mdl I J d e kp nm W, s11] _
    refine jb_if_eq (tgt := 24) (pc' := 8) dX12_says_5 (by decide) rfl (fun _ => ?_) (fun z => absurd (by decide) z)
    refine jb_aload_n (pc' := 25) dX12_says_24 rfl rfl ?_
    refine jb_iconst (pc' := 26) 1 dX12_says_25 (by decide) rfl ?_
    refine jb_callV (pc' := 29) (ci := 12) (q := 105) (As := [.int 1]) (a2 := 0) (b2 := 0) wv_X12_121 rfl dX12_says_26 (c_finds I J d e kp nm W 1 (by decide)) rfl rfl ⟨by decide, Nat.le_of_eq (Nat.zero_add _), Nat.le_of_eq (Nat.zero_add _)⟩ (Nat.le_of_ble_eq_true rfl) rfl (fun r h9 hq => ?_)
    obtain ⟨rfl, rfl⟩ := hq
    show jb_J _ RX12 cX12_says 3 (Option.some .int) false 2 0 0 29 [some (.ref 105), some (.int p), some (.int w)] [.int (jm_er 1)] [s0, s1, s2, s3, s4, s5, s6, s7, s8, s9, jb_mdl I J d e kp nm (va_up W 0 (jm_ef (W 0) 1)), s11] _
    refine jb_iret dX12_says_29 rfl ?_
    exact ⟨rfl, rfl⟩
set_option maxRecDepth 100000 in
set_option maxHeartbeats 4000000 in
theorem mx_go {sc : Nat × (Nat → Int32)} {s0 s1 s2 s3 s4 s5 s6 s7 s8 s9 s11 : List va_E} {V : Nat → Nat → Nat} (I J d e kp nm : Nat → Int32) (W : Nat → Nat → Int32) (hd : jd_ V d) (hk : jv_ok V) (p : Nat) (hp : p < V 0 1) (c : Nat) (hc : c < 2) : jb_C sc yX12_go cX12_go 4 (Option.some .int) 2 0 0 [.ref 105, .int (nI p), .int (nI c)] [s0, s1, s2, s3, s4, s5, s6, s7, s8, s9, jb_mdl I J d e kp nm W, s11] (fun r h9 => r = some (.int (nI (V 3 p))) ∧ ∃ d9, jd_ (jv_up V 3 p c) d9 ∧ d9 7 = d 7 ∧ jd_f d d9 ∧ h9 = [s0, s1, s2, s3, s4, s5, s6, s7, s8, s9, jb_mdl I J d9 e kp nm W, s11]) := by
  refine jb_CofJ (ini := false) (by decide +kernel) (fun h => by cases h) (Nat.le_of_ble_eq_true rfl) ?_
  show jb_J sc RX12 cX12_go 4 (Option.some .int) false 2 0 0 0 [some (.ref 105), some (.int (nI p)), some (.int (nI c)), none] [] [s0, s1, s2, s3, s4, s5, s6, s7, s8, s9, jb_mdl I J d e kp nm W, s11] _
  have hd0 := hd
  have hk0 := hk
  obtain ⟨e0, e1, e2, e3, e4, e5, e6, dv, ds, dd⟩ := hd
  obtain ⟨k0, k1, k2, k3, k4, k5, k6, k7, kv, ks, kd⟩ := hk
  refine jb_aload_n (pc' := 1) dX12_go_0 rfl rfl ?_
  refine jb_iload_n (pc' := 2) dX12_go_1 rfl rfl ?_
  refine jb_callV (pc' := 5) (ci := 12) (q := 105) (As := [.int (nI p)]) (a2 := 0) (b2 := 0) wv_X12_149 rfl dX12_go_2 (c_isVoiceG I J d e kp nm W hd0 hk0 p (by omega)) rfl rfl ⟨by decide, Nat.le_of_eq (Nat.zero_add _), Nat.le_of_eq (Nat.zero_add _)⟩ (Nat.le_of_ble_eq_true rfl) rfl (fun r h9 hq => ?_)
  obtain ⟨rfl, rfl⟩ := hq
  show jb_J _ RX12 cX12_go 4 (Option.some .int) false 2 0 0 5 [some (.ref 105), some (.int (nI p)), some (.int (nI c)), none] [.int 1] [s0, s1, s2, s3, s4, s5, s6, s7, s8, s9, jb_mdl I J d e kp nm W, s11] _
  refine jb_if_eq (tgt := 18) (pc' := 8) dX12_go_5 (by decide) rfl (fun z => absurd z (by decide)) (fun _ => ?_)
  refine jb_iload_n (pc' := 9) dX12_go_8 rfl rfl ?_
  refine jb_i2l (pc' := 10) dX12_go_9 rfl ?_
  refine jb_lconst (pc' := 11) 0 dX12_go_10 (by decide) rfl ?_
  refine jb_lconst (pc' := 12) 1 dX12_go_11 (by decide) rfl ?_
  refine jb_callS (pc' := 15) (As := [.long ((nI c).toInt64), .long 0, .long 1]) (a2 := 0) (b2 := 0) wv_X12_56 dX12_go_12 (c_inLG _ c 0 1 (by omega) (by omega) (by omega)) rfl ⟨by decide, Nat.le_of_eq (Nat.zero_add _), Nat.le_of_eq (Nat.zero_add _)⟩ (Nat.le_of_ble_eq_true rfl) rfl (fun r h9 hq => ?_)
  obtain ⟨rfl, rfl⟩ := hq
  show jb_J _ RX12 cX12_go 4 (Option.some .int) false 2 0 0 15 [some (.ref 105), some (.int (nI p)), some (.int (nI c)), none] [.int 1] [s0, s1, s2, s3, s4, s5, s6, s7, s8, s9, jb_mdl I J d e kp nm W, s11] _
  refine jb_if_ne (tgt := 24) (pc' := 18) dX12_go_15 (by decide) rfl (fun _ => ?_) (fun z => absurd z (by decide))
  refine jb_aload_n (pc' := 25) dX12_go_24 rfl rfl ?_
  refine jb_iload_n (pc' := 26) dX12_go_25 rfl rfl ?_
  refine jb_iconst (pc' := 27) 2 dX12_go_26 (by decide) rfl ?_
  refine jb_callV (pc' := 30) (ci := 12) (q := 105) (As := [.int (nI p), .int 2]) (a2 := 0) (b2 := 0) wv_X12_145 rfl dX12_go_27 (c_of2 I J d e kp nm W hd0 hk0 p (by omega)) rfl rfl ⟨by decide, Nat.le_of_eq (Nat.zero_add _), Nat.le_of_eq (Nat.zero_add _)⟩ (Nat.le_of_ble_eq_true rfl) rfl (fun r h9 hq => ?_)
  obtain ⟨rfl, rfl⟩ := hq
  show jb_J _ RX12 cX12_go 4 (Option.some .int) false 2 0 0 30 [some (.ref 105), some (.int (nI p)), some (.int (nI c)), none] [.int (nI (V 3 p))] [s0, s1, s2, s3, s4, s5, s6, s7, s8, s9, jb_mdl I J d e kp nm W, s11] _
  refine jb_istore_n_ (pc' := 31) dX12_go_30 (by decide) (jb_at3 rfl) rfl ?_
  refine jb_aload_n (pc' := 32) dX12_go_31 rfl rfl ?_
  refine gf_X12_7 (pc' := 35) (v := .ref 106) dX12_go_32 rfl rfl rfl ?_
  refine jb_bipush (pc' := 37) 10 dX12_go_35 (by decide) rfl ?_
  refine jb_iconst (pc' := 38) 3 dX12_go_37 (by decide) rfl ?_
  refine jb_iload_n (pc' := 39) dX12_go_38 rfl rfl ?_
  refine jb_imul (pc' := 40) dX12_go_39 rfl ?_
  refine jb_top (v := .int (3 * (nI p))) (w := .int (nI (3 * p))) (jb_vI (pk_mul 3 _)) ?_
  refine jb_iadd (pc' := 41) dX12_go_40 rfl ?_
  refine jb_top (v := .int (10 + (nI (3 * p)))) (w := .int (nI (10 + 3 * p))) (jb_vI (nI_add 10 _)) ?_
  refine jb_iconst (pc' := 42) 2 dX12_go_41 (by decide) rfl ?_
  refine jb_iadd (pc' := 43) dX12_go_42 rfl ?_
  refine jb_top (v := .int ((nI (10 + 3 * p)) + 2)) (w := .int (nI (10 + 3 * p + 2))) (jb_vI (nI_add _ 2)) ?_
  refine jb_iload_n (pc' := 44) dX12_go_43 rfl rfl ?_
  refine jb_iastore (pc' := 45) (i9 := (10 + 3 * p + 2)) (f := d) (h' := [s0, s1, s2, s3, s4, s5, s6, s7, s8, s9, jb_mdl I J (upd d (10 + 3 * p + 2) (nI c)) e kp nm W, s11]) dX12_go_44 rfl (jb_ix_nI (by omega)) (by omega) rfl rfl ?_
  refine jb_iload_n (pc' := 46) dX12_go_45 rfl rfl ?_
  refine jb_iret dX12_go_46 rfl ?_
  exact ⟨rfl, (upd d (10 + 3 * p + 2) (nI c)), jd_go hd0 hk0 hp c, by rw [jb_une (by omega)], ⟨by rw [jb_une (by omega)], by rw [jb_une (by omega)], fun k hk => by rw [jb_une (by omega)]⟩, rfl⟩
set_option maxRecDepth 100000 in
set_option maxHeartbeats 4000000 in
theorem me_go {sc : Nat × (Nat → Int32)} {s0 s1 s2 s3 s4 s5 s6 s7 s8 s9 s11 : List va_E} {V : Nat → Nat → Nat} (I J d e kp nm : Nat → Int32) (W : Nat → Nat → Int32) (hd : jd_ V d) (hk : jv_ok V) (p c : Int32) (hb : ¬ (jn_b p 0 (V 0 1) ∧ jn_b c 0 2)) : jb_C sc yX12_go cX12_go 4 (Option.some .int) 2 0 0 [.ref 105, .int p, .int c] [s0, s1, s2, s3, s4, s5, s6, s7, s8, s9, jb_mdl I J d e kp nm W, s11] (fun r h9 => r = some (.int (jm_er 1)) ∧ h9 = [s0, s1, s2, s3, s4, s5, s6, s7, s8, s9, jb_mdl I J d e kp nm (va_up W 0 (jm_ef (W 0) 1)), s11]) := by
  refine jb_CofJ (ini := false) (by decide +kernel) (fun h => by cases h) (Nat.le_of_ble_eq_true rfl) ?_
  show jb_J sc RX12 cX12_go 4 (Option.some .int) false 2 0 0 0 [some (.ref 105), some (.int p), some (.int c), none] [] [s0, s1, s2, s3, s4, s5, s6, s7, s8, s9, jb_mdl I J d e kp nm W, s11] _
  have hd0 := hd
  have hk0 := hk
  obtain ⟨e0, e1, e2, e3, e4, e5, e6, dv, ds, dd⟩ := hd
  obtain ⟨k0, k1, k2, k3, k4, k5, k6, k7, kv, ks, kd⟩ := hk
  refine jb_aload_n (pc' := 1) dX12_go_0 rfl rfl ?_
  refine jb_iload_n (pc' := 2) dX12_go_1 rfl rfl ?_
  refine jb_callV (pc' := 5) (ci := 12) (q := 105) (As := [.int p]) (a2 := 0) (b2 := 0) wv_X12_149 rfl dX12_go_2 (c_isVoice I J d e kp nm W hd0 hk0 p) rfl rfl ⟨by decide, Nat.le_of_eq (Nat.zero_add _), Nat.le_of_eq (Nat.zero_add _)⟩ (Nat.le_of_ble_eq_true rfl) rfl (fun r h9 hq => ?_)
  rcases hq with ⟨rfl, ⟨o1, rfl⟩ | ⟨o1, rfl⟩⟩
  · show jb_J _ RX12 cX12_go 4 (Option.some .int) false 2 0 0 5 [some (.ref 105), some (.int p), some (.int c), none] [.int 1] [s0, s1, s2, s3, s4, s5, s6, s7, s8, s9, jb_mdl I J d e kp nm W, s11] _
    refine jb_if_eq (tgt := 18) (pc' := 8) dX12_go_5 (by decide) rfl (fun z => absurd z (by decide)) (fun _ => ?_)
    refine jb_iload_n (pc' := 9) dX12_go_8 rfl rfl ?_
    refine jb_i2l (pc' := 10) dX12_go_9 rfl ?_
    refine jb_lconst (pc' := 11) 0 dX12_go_10 (by decide) rfl ?_
    refine jb_lconst (pc' := 12) 1 dX12_go_11 (by decide) rfl ?_
    refine jb_callS (pc' := 15) (As := [.long c.toInt64, .long 0, .long 1]) (a2 := 0) (b2 := 0) wv_X12_56 dX12_go_12 (c_inL _ c 0 1 (by omega) (by omega)) rfl ⟨by decide, Nat.le_of_eq (Nat.zero_add _), Nat.le_of_eq (Nat.zero_add _)⟩ (Nat.le_of_ble_eq_true rfl) rfl (fun r h9 hq => ?_)
    rcases hq with ⟨rfl, ⟨o4, rfl⟩ | ⟨o4, rfl⟩⟩
    · show jb_J _ RX12 cX12_go 4 (Option.some .int) false 2 0 0 15 [some (.ref 105), some (.int p), some (.int c), none] [.int 1] [s0, s1, s2, s3, s4, s5, s6, s7, s8, s9, jb_mdl I J d e kp nm W, s11] _
      exact absurd ⟨by assumption, by assumption⟩ hb
    · show jb_J _ RX12 cX12_go 4 (Option.some .int) false 2 0 0 15 [some (.ref 105), some (.int p), some (.int c), none] [.int 0] [s0, s1, s2, s3, s4, s5, s6, s7, s8, s9, jb_mdl I J d e kp nm W, s11] _
      refine jb_if_ne (tgt := 24) (pc' := 18) dX12_go_15 (by decide) rfl (fun z => absurd (by decide) z) (fun _ => ?_)
      refine jb_aload_n (pc' := 19) dX12_go_18 rfl rfl ?_
      refine jb_iconst (pc' := 20) 1 dX12_go_19 (by decide) rfl ?_
      refine jb_callV (pc' := 23) (ci := 12) (q := 105) (As := [.int 1]) (a2 := 0) (b2 := 0) wv_X12_121 rfl dX12_go_20 (c_finds I J d e kp nm W 1 (by decide)) rfl rfl ⟨by decide, Nat.le_of_eq (Nat.zero_add _), Nat.le_of_eq (Nat.zero_add _)⟩ (Nat.le_of_ble_eq_true rfl) rfl (fun r h9 hq => ?_)
      obtain ⟨rfl, rfl⟩ := hq
      show jb_J _ RX12 cX12_go 4 (Option.some .int) false 2 0 0 23 [some (.ref 105), some (.int p), some (.int c), none] [.int (jm_er 1)] [s0, s1, s2, s3, s4, s5, s6, s7, s8, s9, jb_mdl I J d e kp nm (va_up W 0 (jm_ef (W 0) 1)), s11] _
      refine jb_iret dX12_go_23 rfl ?_
      exact ⟨rfl, rfl⟩
  · show jb_J _ RX12 cX12_go 4 (Option.some .int) false 2 0 0 5 [some (.ref 105), some (.int p), some (.int c), none] [.int 0] [s0, s1, s2, s3, s4, s5, s6, s7, s8, s9, jb_mdl I J d e kp nm W, s11] _
    refine jb_if_eq (tgt := 18) (pc' := 8) dX12_go_5 (by decide) rfl (fun _ => ?_) (fun z => absurd (by decide) z)
    refine jb_aload_n (pc' := 19) dX12_go_18 rfl rfl ?_
    refine jb_iconst (pc' := 20) 1 dX12_go_19 (by decide) rfl ?_
    refine jb_callV (pc' := 23) (ci := 12) (q := 105) (As := [.int 1]) (a2 := 0) (b2 := 0) wv_X12_121 rfl dX12_go_20 (c_finds I J d e kp nm W 1 (by decide)) rfl rfl ⟨by decide, Nat.le_of_eq (Nat.zero_add _), Nat.le_of_eq (Nat.zero_add _)⟩ (Nat.le_of_ble_eq_true rfl) rfl (fun r h9 hq => ?_)
    obtain ⟨rfl, rfl⟩ := hq
    show jb_J _ RX12 cX12_go 4 (Option.some .int) false 2 0 0 23 [some (.ref 105), some (.int p), some (.int c), none] [.int (jm_er 1)] [s0, s1, s2, s3, s4, s5, s6, s7, s8, s9, jb_mdl I J d e kp nm (va_up W 0 (jm_ef (W 0) 1)), s11] _
    refine jb_iret dX12_go_23 rfl ?_
    exact ⟨rfl, rfl⟩
set_option maxRecDepth 100000 in
set_option maxHeartbeats 4000000 in
theorem mx_become {sc : Nat × (Nat → Int32)} {s0 s1 s2 s3 s4 s5 s6 s7 s8 s9 s11 : List va_E} {V : Nat → Nat → Nat} (I J d e kp nm : Nat → Int32) (W : Nat → Nat → Int32) (hd : jd_ V d) (hk : jv_ok V) (p : Nat) (hp : p < V 0 1) (km : Nat) (hkm : km < 70) : jb_C sc yX12_become cX12_become 4 (Option.some .int) 2 0 0 [.ref 105, .int (nI p), .int (nI km)] [s0, s1, s2, s3, s4, s5, s6, s7, s8, s9, jb_mdl I J d e kp nm W, s11] (fun r h9 => r = some (.int (nI (V 1 p))) ∧ ∃ d9, jd_ (jm_be V p (km / 10) (km % 10)) d9 ∧ d9 7 = d 7 ∧ jd_f d d9 ∧ h9 = [s0, s1, s2, s3, s4, s5, s6, s7, s8, s9, jb_mdl I J d9 e kp nm W, s11]) := by
  refine jb_CofJ (ini := false) (by decide +kernel) (fun h => by cases h) (Nat.le_of_ble_eq_true rfl) ?_
  show jb_J sc RX12 cX12_become 4 (Option.some .int) false 2 0 0 0 [some (.ref 105), some (.int (nI p)), some (.int (nI km)), none] [] [s0, s1, s2, s3, s4, s5, s6, s7, s8, s9, jb_mdl I J d e kp nm W, s11] _
  have hd0 := hd
  have hk0 := hk
  obtain ⟨e0, e1, e2, e3, e4, e5, e6, dv, ds, dd⟩ := hd
  obtain ⟨k0, k1, k2, k3, k4, k5, k6, k7, kv, ks, kd⟩ := hk
  refine jb_aload_n (pc' := 1) dX12_become_0 rfl rfl ?_
  refine jb_iload_n (pc' := 2) dX12_become_1 rfl rfl ?_
  refine jb_callV (pc' := 5) (ci := 12) (q := 105) (As := [.int (nI p)]) (a2 := 0) (b2 := 0) wv_X12_149 rfl dX12_become_2 (c_isVoiceG I J d e kp nm W hd0 hk0 p (by omega)) rfl rfl ⟨by decide, Nat.le_of_eq (Nat.zero_add _), Nat.le_of_eq (Nat.zero_add _)⟩ (Nat.le_of_ble_eq_true rfl) rfl (fun r h9 hq => ?_)
  obtain ⟨rfl, rfl⟩ := hq
  show jb_J _ RX12 cX12_become 4 (Option.some .int) false 2 0 0 5 [some (.ref 105), some (.int (nI p)), some (.int (nI km)), none] [.int 1] [s0, s1, s2, s3, s4, s5, s6, s7, s8, s9, jb_mdl I J d e kp nm W, s11] _
  refine jb_if_eq (tgt := 20) (pc' := 8) dX12_become_5 (by decide) rfl (fun z => absurd z (by decide)) (fun _ => ?_)
  refine jb_iload_n (pc' := 9) dX12_become_8 rfl rfl ?_
  refine jb_i2l (pc' := 10) dX12_become_9 rfl ?_
  refine jb_lconst (pc' := 11) 0 dX12_become_10 (by decide) rfl ?_
  refine jb_ldc2 (pc' := 14) 69 dX12_become_11 wk_X12_143 rfl ?_
  refine jb_callS (pc' := 17) (As := [.long ((nI km).toInt64), .long 0, .long 69]) (a2 := 0) (b2 := 0) wv_X12_56 dX12_become_14 (c_inLG _ km 0 69 (by omega) (by omega) (by omega)) rfl ⟨by decide, Nat.le_of_eq (Nat.zero_add _), Nat.le_of_eq (Nat.zero_add _)⟩ (Nat.le_of_ble_eq_true rfl) rfl (fun r h9 hq => ?_)
  obtain ⟨rfl, rfl⟩ := hq
  show jb_J _ RX12 cX12_become 4 (Option.some .int) false 2 0 0 17 [some (.ref 105), some (.int (nI p)), some (.int (nI km)), none] [.int 1] [s0, s1, s2, s3, s4, s5, s6, s7, s8, s9, jb_mdl I J d e kp nm W, s11] _
  refine jb_if_ne (tgt := 26) (pc' := 20) dX12_become_17 (by decide) rfl (fun _ => ?_) (fun z => absurd z (by decide))
  refine jb_aload_n (pc' := 27) dX12_become_26 rfl rfl ?_
  refine jb_iload_n (pc' := 28) dX12_become_27 rfl rfl ?_
  refine jb_iconst (pc' := 29) 0 dX12_become_28 (by decide) rfl ?_
  refine jb_callV (pc' := 32) (ci := 12) (q := 105) (As := [.int (nI p), .int 0]) (a2 := 0) (b2 := 0) wv_X12_145 rfl dX12_become_29 (c_of0 I J d e kp nm W hd0 hk0 p (by omega)) rfl rfl ⟨by decide, Nat.le_of_eq (Nat.zero_add _), Nat.le_of_eq (Nat.zero_add _)⟩ (Nat.le_of_ble_eq_true rfl) rfl (fun r h9 hq => ?_)
  obtain ⟨rfl, rfl⟩ := hq
  show jb_J _ RX12 cX12_become 4 (Option.some .int) false 2 0 0 32 [some (.ref 105), some (.int (nI p)), some (.int (nI km)), none] [.int (nI (V 1 p))] [s0, s1, s2, s3, s4, s5, s6, s7, s8, s9, jb_mdl I J d e kp nm W, s11] _
  refine jb_istore_n_ (pc' := 33) dX12_become_32 (by decide) (jb_at3 rfl) rfl ?_
  refine jb_aload_n (pc' := 34) dX12_become_33 rfl rfl ?_
  refine gf_X12_7 (pc' := 37) (v := .ref 106) dX12_become_34 rfl rfl rfl ?_
  refine jb_bipush (pc' := 39) 10 dX12_become_37 (by decide) rfl ?_
  refine jb_iconst (pc' := 40) 3 dX12_become_39 (by decide) rfl ?_
  refine jb_iload_n (pc' := 41) dX12_become_40 rfl rfl ?_
  refine jb_imul (pc' := 42) dX12_become_41 rfl ?_
  refine jb_top (v := .int (3 * (nI p))) (w := .int (nI (3 * p))) (jb_vI (pk_mul 3 _)) ?_
  refine jb_iadd (pc' := 43) dX12_become_42 rfl ?_
  refine jb_top (v := .int (10 + (nI (3 * p)))) (w := .int (nI (10 + 3 * p))) (jb_vI (nI_add 10 _)) ?_
  refine jb_iconst (pc' := 44) 0 dX12_become_43 (by decide) rfl ?_
  refine jb_iadd (pc' := 45) dX12_become_44 rfl ?_
  refine jb_top (v := .int ((nI (10 + 3 * p)) + 0)) (w := .int (nI (10 + 3 * p + 0))) (jb_vI (nI_add _ 0)) ?_
  refine jb_iload_n (pc' := 46) dX12_become_45 rfl rfl ?_
  refine jb_bipush (pc' := 48) 10 dX12_become_46 (by decide) rfl ?_
  refine jb_idiv (pc' := 49) dX12_become_48 (by decide) rfl ?_
  refine jb_top (v := .int ((nI km) / 10)) (w := .int (nI (km / 10))) (jb_vI (pk_div (a := km) (d := 10) (by omega) (by omega) (by omega))) ?_
  refine jb_iastore (pc' := 50) (i9 := (10 + 3 * p + 0)) (f := d) (h' := [s0, s1, s2, s3, s4, s5, s6, s7, s8, s9, jb_mdl I J (upd d (10 + 3 * p + 0) (nI (km / 10))) e kp nm W, s11]) dX12_become_49 rfl (jb_ix_nI (by omega)) (by omega) rfl rfl ?_
  refine jb_aload_n (pc' := 51) dX12_become_50 rfl rfl ?_
  refine gf_X12_7 (pc' := 54) (v := .ref 106) dX12_become_51 rfl rfl rfl ?_
  refine jb_bipush (pc' := 56) 10 dX12_become_54 (by decide) rfl ?_
  refine jb_iconst (pc' := 57) 3 dX12_become_56 (by decide) rfl ?_
  refine jb_iload_n (pc' := 58) dX12_become_57 rfl rfl ?_
  refine jb_imul (pc' := 59) dX12_become_58 rfl ?_
  refine jb_top (v := .int (3 * (nI p))) (w := .int (nI (3 * p))) (jb_vI (pk_mul 3 _)) ?_
  refine jb_iadd (pc' := 60) dX12_become_59 rfl ?_
  refine jb_top (v := .int (10 + (nI (3 * p)))) (w := .int (nI (10 + 3 * p))) (jb_vI (nI_add 10 _)) ?_
  refine jb_iconst (pc' := 61) 1 dX12_become_60 (by decide) rfl ?_
  refine jb_iadd (pc' := 62) dX12_become_61 rfl ?_
  refine jb_top (v := .int ((nI (10 + 3 * p)) + 1)) (w := .int (nI (10 + 3 * p + 1))) (jb_vI (nI_add _ 1)) ?_
  refine jb_iload_n (pc' := 63) dX12_become_62 rfl rfl ?_
  refine jb_bipush (pc' := 65) 10 dX12_become_63 (by decide) rfl ?_
  refine jb_irem (pc' := 66) dX12_become_65 (by decide) rfl ?_
  refine jb_top (v := .int ((nI km) - (nI km) / 10 * 10)) (w := .int (nI (km % 10))) (jb_vI (pk_rem (a := km) (d := 10) (by omega) (by omega) (by omega))) ?_
  refine jb_iastore (pc' := 67) (i9 := (10 + 3 * p + 1)) (f := (upd d (10 + 3 * p + 0) (nI (km / 10)))) (h' := [s0, s1, s2, s3, s4, s5, s6, s7, s8, s9, jb_mdl I J (upd (upd d (10 + 3 * p + 0) (nI (km / 10))) (10 + 3 * p + 1) (nI (km % 10))) e kp nm W, s11]) dX12_become_66 rfl (jb_ix_nI (by omega)) (by omega) rfl rfl ?_
  refine jb_iload_n (pc' := 68) dX12_become_67 rfl rfl ?_
  refine jb_iret dX12_become_68 rfl ?_
  exact ⟨rfl, (upd (upd d (10 + 3 * p + 0) (nI (km / 10))) (10 + 3 * p + 1) (nI (km % 10))), jd_be hd0 hk0 hp (km / 10) (km % 10), by rw [jb_une (by omega), jb_une (by omega)], ⟨by rw [jb_une (by omega), jb_une (by omega)], by rw [jb_une (by omega), jb_une (by omega)], fun k hk => by rw [jb_une (by omega), jb_une (by omega)]⟩, rfl⟩
set_option maxRecDepth 100000 in
set_option maxHeartbeats 4000000 in
theorem me_become {sc : Nat × (Nat → Int32)} {s0 s1 s2 s3 s4 s5 s6 s7 s8 s9 s11 : List va_E} {V : Nat → Nat → Nat} (I J d e kp nm : Nat → Int32) (W : Nat → Nat → Int32) (hd : jd_ V d) (hk : jv_ok V) (p c : Int32) (hb : ¬ (jn_b p 0 (V 0 1) ∧ jn_b c 0 70)) : jb_C sc yX12_become cX12_become 4 (Option.some .int) 2 0 0 [.ref 105, .int p, .int c] [s0, s1, s2, s3, s4, s5, s6, s7, s8, s9, jb_mdl I J d e kp nm W, s11] (fun r h9 => r = some (.int (jm_er 1)) ∧ h9 = [s0, s1, s2, s3, s4, s5, s6, s7, s8, s9, jb_mdl I J d e kp nm (va_up W 0 (jm_ef (W 0) 1)), s11]) := by
  refine jb_CofJ (ini := false) (by decide +kernel) (fun h => by cases h) (Nat.le_of_ble_eq_true rfl) ?_
  show jb_J sc RX12 cX12_become 4 (Option.some .int) false 2 0 0 0 [some (.ref 105), some (.int p), some (.int c), none] [] [s0, s1, s2, s3, s4, s5, s6, s7, s8, s9, jb_mdl I J d e kp nm W, s11] _
  have hd0 := hd
  have hk0 := hk
  obtain ⟨e0, e1, e2, e3, e4, e5, e6, dv, ds, dd⟩ := hd
  obtain ⟨k0, k1, k2, k3, k4, k5, k6, k7, kv, ks, kd⟩ := hk
  refine jb_aload_n (pc' := 1) dX12_become_0 rfl rfl ?_
  refine jb_iload_n (pc' := 2) dX12_become_1 rfl rfl ?_
  refine jb_callV (pc' := 5) (ci := 12) (q := 105) (As := [.int p]) (a2 := 0) (b2 := 0) wv_X12_149 rfl dX12_become_2 (c_isVoice I J d e kp nm W hd0 hk0 p) rfl rfl ⟨by decide, Nat.le_of_eq (Nat.zero_add _), Nat.le_of_eq (Nat.zero_add _)⟩ (Nat.le_of_ble_eq_true rfl) rfl (fun r h9 hq => ?_)
  rcases hq with ⟨rfl, ⟨o1, rfl⟩ | ⟨o1, rfl⟩⟩
  · show jb_J _ RX12 cX12_become 4 (Option.some .int) false 2 0 0 5 [some (.ref 105), some (.int p), some (.int c), none] [.int 1] [s0, s1, s2, s3, s4, s5, s6, s7, s8, s9, jb_mdl I J d e kp nm W, s11] _
    refine jb_if_eq (tgt := 20) (pc' := 8) dX12_become_5 (by decide) rfl (fun z => absurd z (by decide)) (fun _ => ?_)
    refine jb_iload_n (pc' := 9) dX12_become_8 rfl rfl ?_
    refine jb_i2l (pc' := 10) dX12_become_9 rfl ?_
    refine jb_lconst (pc' := 11) 0 dX12_become_10 (by decide) rfl ?_
    refine jb_ldc2 (pc' := 14) 69 dX12_become_11 wk_X12_143 rfl ?_
    refine jb_callS (pc' := 17) (As := [.long c.toInt64, .long 0, .long 69]) (a2 := 0) (b2 := 0) wv_X12_56 dX12_become_14 (c_inL _ c 0 69 (by omega) (by omega)) rfl ⟨by decide, Nat.le_of_eq (Nat.zero_add _), Nat.le_of_eq (Nat.zero_add _)⟩ (Nat.le_of_ble_eq_true rfl) rfl (fun r h9 hq => ?_)
    rcases hq with ⟨rfl, ⟨o4, rfl⟩ | ⟨o4, rfl⟩⟩
    · show jb_J _ RX12 cX12_become 4 (Option.some .int) false 2 0 0 17 [some (.ref 105), some (.int p), some (.int c), none] [.int 1] [s0, s1, s2, s3, s4, s5, s6, s7, s8, s9, jb_mdl I J d e kp nm W, s11] _
      exact absurd ⟨by assumption, by assumption⟩ hb
    · show jb_J _ RX12 cX12_become 4 (Option.some .int) false 2 0 0 17 [some (.ref 105), some (.int p), some (.int c), none] [.int 0] [s0, s1, s2, s3, s4, s5, s6, s7, s8, s9, jb_mdl I J d e kp nm W, s11] _
      refine jb_if_ne (tgt := 26) (pc' := 20) dX12_become_17 (by decide) rfl (fun z => absurd (by decide) z) (fun _ => ?_)
      refine jb_aload_n (pc' := 21) dX12_become_20 rfl rfl ?_
      refine jb_iconst (pc' := 22) 1 dX12_become_21 (by decide) rfl ?_
      refine jb_callV (pc' := 25) (ci := 12) (q := 105) (As := [.int 1]) (a2 := 0) (b2 := 0) wv_X12_121 rfl dX12_become_22 (c_finds I J d e kp nm W 1 (by decide)) rfl rfl ⟨by decide, Nat.le_of_eq (Nat.zero_add _), Nat.le_of_eq (Nat.zero_add _)⟩ (Nat.le_of_ble_eq_true rfl) rfl (fun r h9 hq => ?_)
      obtain ⟨rfl, rfl⟩ := hq
      show jb_J _ RX12 cX12_become 4 (Option.some .int) false 2 0 0 25 [some (.ref 105), some (.int p), some (.int c), none] [.int (jm_er 1)] [s0, s1, s2, s3, s4, s5, s6, s7, s8, s9, jb_mdl I J d e kp nm (va_up W 0 (jm_ef (W 0) 1)), s11] _
      refine jb_iret dX12_become_25 rfl ?_
      exact ⟨rfl, rfl⟩
  · show jb_J _ RX12 cX12_become 4 (Option.some .int) false 2 0 0 5 [some (.ref 105), some (.int p), some (.int c), none] [.int 0] [s0, s1, s2, s3, s4, s5, s6, s7, s8, s9, jb_mdl I J d e kp nm W, s11] _
    refine jb_if_eq (tgt := 20) (pc' := 8) dX12_become_5 (by decide) rfl (fun _ => ?_) (fun z => absurd (by decide) z)
    refine jb_aload_n (pc' := 21) dX12_become_20 rfl rfl ?_
    refine jb_iconst (pc' := 22) 1 dX12_become_21 (by decide) rfl ?_
    refine jb_callV (pc' := 25) (ci := 12) (q := 105) (As := [.int 1]) (a2 := 0) (b2 := 0) wv_X12_121 rfl dX12_become_22 (c_finds I J d e kp nm W 1 (by decide)) rfl rfl ⟨by decide, Nat.le_of_eq (Nat.zero_add _), Nat.le_of_eq (Nat.zero_add _)⟩ (Nat.le_of_ble_eq_true rfl) rfl (fun r h9 hq => ?_)
    obtain ⟨rfl, rfl⟩ := hq
    show jb_J _ RX12 cX12_become 4 (Option.some .int) false 2 0 0 25 [some (.ref 105), some (.int p), some (.int c), none] [.int (jm_er 1)] [s0, s1, s2, s3, s4, s5, s6, s7, s8, s9, jb_mdl I J d e kp nm (va_up W 0 (jm_ef (W 0) 1)), s11] _
    refine jb_iret dX12_become_25 rfl ?_
    exact ⟨rfl, rfl⟩
set_option maxRecDepth 100000 in
set_option maxHeartbeats 4000000 in
theorem c_above {sc : Nat × (Nat → Int32)} {h : jb_H} (k : Nat) (hk : k < 7) : jb_C sc yX12_above cX12_above 1 (Option.some .int) 0 0 0 [.int (nI k)] h (fun r h9 => r = some (.int (nI (k - 3))) ∧ h = h9) := by
  refine jb_CofJ (ini := false) (by decide +kernel) (fun h => by cases h) (Nat.le_of_ble_eq_true rfl) ?_
  show jb_J sc RX12 cX12_above 1 (Option.some .int) false 0 0 0 0 [some (.int (nI k))] [] h _
  refine jb_iload_n (pc' := 1) dX12_above_0 rfl rfl ?_
  refine jb_iconst (pc' := 2) 4 dX12_above_1 (by decide) rfl ?_
  refine jb_icmp_ge (tgt := 9) (pc' := 5) dX12_above_2 (by decide) rfl (fun c1 => ?_) (fun c1 => ?_)
  · have c1 : 4 ≤ k := (nI_leI (a := 4) (b := k) (by omega) (by omega)).mp c1
    refine jb_iload_n (pc' := 10) dX12_above_9 rfl rfl ?_
    refine jb_iconst (pc' := 11) 3 dX12_above_10 (by decide) rfl ?_
    refine jb_isub (pc' := 12) dX12_above_11 rfl ?_
    refine jb_iret dX12_above_12 rfl ?_
    exact ⟨congrArg (fun q => some (Value.int q)) (by first | exact (pk_sub (a := k) (b := 3) (by omega)) | exact congrArg nI (show 0 = k - 3 by omega)), rfl⟩
  · have c1 : ¬ 4 ≤ k := fun z9 => c1 ((nI_leI (a := 4) (b := k) (by omega) (by omega)).mpr z9)
    refine jb_iconst (pc' := 6) 0 dX12_above_5 (by decide) rfl ?_
    refine jb_goto (pc' := 12) dX12_above_6 (by decide) ?_
    refine jb_iret dX12_above_12 rfl ?_
    exact ⟨congrArg (fun q => some (Value.int q)) (by first | exact (pk_sub (a := k) (b := 3) (by omega)) | exact congrArg nI (show 0 = k - 3 by omega)), rfl⟩
set_option maxRecDepth 100000 in
set_option maxHeartbeats 4000000 in
theorem mx_as {sc : Nat × (Nat → Int32)} {s0 s1 s2 s3 s4 s5 s6 s7 s8 s9 s11 : List va_E} {V : Nat → Nat → Nat} (I J d e kp nm : Nat → Int32) (W : Nat → Nat → Int32) (hd : jd_ V d) (hk : jv_ok V) (p : Nat) (hp : p < V 0 1) (j : Nat) (hj : j < 7) (hju : jm_un (V 1 p) j) : jb_C sc yX12_as cX12_as 4 (Option.some .int) 2 0 0 [.ref 105, .int (nI p), .int (nI j)] [s0, s1, s2, s3, s4, s5, s6, s7, s8, s9, jb_mdl I J d e kp nm W, s11] (fun r h9 => r = some (.int (nI (V 2 p))) ∧ h9 = [s0, s1, s2, s3, s4, s5, s6, s7, s8, s9, jb_mdl I J d e kp nm W, s11]) := by
  refine jb_CofJ (ini := false) (by decide +kernel) (fun h => by cases h) (Nat.le_of_ble_eq_true rfl) ?_
  show jb_J sc RX12 cX12_as 4 (Option.some .int) false 2 0 0 0 [some (.ref 105), some (.int (nI p)), some (.int (nI j)), none] [] [s0, s1, s2, s3, s4, s5, s6, s7, s8, s9, jb_mdl I J d e kp nm W, s11] _
  have hd0 := hd
  have hk0 := hk
  obtain ⟨e0, e1, e2, e3, e4, e5, e6, dv, ds, dd⟩ := hd
  obtain ⟨k0, k1, k2, k3, k4, k5, k6, k7, kv, ks, kd⟩ := hk
  have q1 := kv p hp
  refine jb_aload_n (pc' := 1) dX12_as_0 rfl rfl ?_
  refine jb_iload_n (pc' := 2) dX12_as_1 rfl rfl ?_
  refine jb_callV (pc' := 5) (ci := 12) (q := 105) (As := [.int (nI p)]) (a2 := 0) (b2 := 0) wv_X12_149 rfl dX12_as_2 (c_isVoiceG I J d e kp nm W hd0 hk0 p (by omega)) rfl rfl ⟨by decide, Nat.le_of_eq (Nat.zero_add _), Nat.le_of_eq (Nat.zero_add _)⟩ (Nat.le_of_ble_eq_true rfl) rfl (fun r h9 hq => ?_)
  obtain ⟨rfl, rfl⟩ := hq
  show jb_J _ RX12 cX12_as 4 (Option.some .int) false 2 0 0 5 [some (.ref 105), some (.int (nI p)), some (.int (nI j)), none] [.int 1] [s0, s1, s2, s3, s4, s5, s6, s7, s8, s9, jb_mdl I J d e kp nm W, s11] _
  refine jb_if_eq (tgt := 20) (pc' := 8) dX12_as_5 (by decide) rfl (fun z => absurd z (by decide)) (fun _ => ?_)
  refine jb_iload_n (pc' := 9) dX12_as_8 rfl rfl ?_
  refine jb_i2l (pc' := 10) dX12_as_9 rfl ?_
  refine jb_lconst (pc' := 11) 0 dX12_as_10 (by decide) rfl ?_
  refine jb_ldc2 (pc' := 14) 6 dX12_as_11 wk_X12_166 rfl ?_
  refine jb_callS (pc' := 17) (As := [.long ((nI j).toInt64), .long 0, .long 6]) (a2 := 0) (b2 := 0) wv_X12_56 dX12_as_14 (c_inLG _ j 0 6 (by omega) (by omega) (by omega)) rfl ⟨by decide, Nat.le_of_eq (Nat.zero_add _), Nat.le_of_eq (Nat.zero_add _)⟩ (Nat.le_of_ble_eq_true rfl) rfl (fun r h9 hq => ?_)
  obtain ⟨rfl, rfl⟩ := hq
  show jb_J _ RX12 cX12_as 4 (Option.some .int) false 2 0 0 17 [some (.ref 105), some (.int (nI p)), some (.int (nI j)), none] [.int 1] [s0, s1, s2, s3, s4, s5, s6, s7, s8, s9, jb_mdl I J d e kp nm W, s11] _
  refine jb_if_ne (tgt := 26) (pc' := 20) dX12_as_17 (by decide) rfl (fun _ => ?_) (fun z => absurd z (by decide))
  refine jb_aload_n (pc' := 27) dX12_as_26 rfl rfl ?_
  refine jb_iload_n (pc' := 28) dX12_as_27 rfl rfl ?_
  refine jb_iconst (pc' := 29) 0 dX12_as_28 (by decide) rfl ?_
  refine jb_callV (pc' := 32) (ci := 12) (q := 105) (As := [.int (nI p), .int 0]) (a2 := 0) (b2 := 0) wv_X12_145 rfl dX12_as_29 (c_of0 I J d e kp nm W hd0 hk0 p (by omega)) rfl rfl ⟨by decide, Nat.le_of_eq (Nat.zero_add _), Nat.le_of_eq (Nat.zero_add _)⟩ (Nat.le_of_ble_eq_true rfl) rfl (fun r h9 hq => ?_)
  obtain ⟨rfl, rfl⟩ := hq
  show jb_J _ RX12 cX12_as 4 (Option.some .int) false 2 0 0 32 [some (.ref 105), some (.int (nI p)), some (.int (nI j)), none] [.int (nI (V 1 p))] [s0, s1, s2, s3, s4, s5, s6, s7, s8, s9, jb_mdl I J d e kp nm W, s11] _
  refine jb_istore_n_ (pc' := 33) dX12_as_32 (by decide) (jb_at3 rfl) rfl ?_
  refine jb_iload_n (pc' := 34) dX12_as_33 rfl rfl ?_
  refine jb_if_eq (tgt := 50) (pc' := 37) dX12_as_34 (by decide) rfl (fun c7 => ?_) (fun c7 => ?_)
  · have c7 : j = 0 := (nI_eq (a := j) (b := 0) (by omega) (by omega)).mp c7
    refine jb_aload_n (pc' := 51) dX12_as_50 rfl rfl ?_
    refine jb_iload_n (pc' := 52) dX12_as_51 rfl rfl ?_
    refine jb_iconst (pc' := 53) 1 dX12_as_52 (by decide) rfl ?_
    refine jb_callV (pc' := 56) (ci := 12) (q := 105) (As := [.int (nI p), .int 1]) (a2 := 0) (b2 := 0) wv_X12_145 rfl dX12_as_53 (c_of1 I J d e kp nm W hd0 hk0 p (by omega)) rfl rfl ⟨by decide, Nat.le_of_eq (Nat.zero_add _), Nat.le_of_eq (Nat.zero_add _)⟩ (Nat.le_of_ble_eq_true rfl) rfl (fun r h9 hq => ?_)
    obtain ⟨rfl, rfl⟩ := hq
    show jb_J _ RX12 cX12_as 4 (Option.some .int) false 2 0 0 56 [some (.ref 105), some (.int (nI p)), some (.int (nI j)), some (.int (nI (V 1 p)))] [.int (nI (V 2 p))] [s0, s1, s2, s3, s4, s5, s6, s7, s8, s9, jb_mdl I J d e kp nm W, s11] _
    refine jb_goto (pc' := 64) dX12_as_56 (by decide) ?_
    refine jb_iret dX12_as_64 rfl ?_
    exact ⟨rfl, rfl⟩
  · have c7 : ¬ j = 0 := fun z9 => c7 ((nI_eq (a := j) (b := 0) (by omega) (by omega)).mpr z9)
    refine jb_iload_n (pc' := 38) dX12_as_37 rfl rfl ?_
    refine jb_iload_n (pc' := 39) dX12_as_38 rfl rfl ?_
    refine jb_icmp_eq (tgt := 50) (pc' := 42) dX12_as_39 (by decide) rfl (fun c8 => ?_) (fun c8 => ?_)
    · have c8 : j = (V 1 p) := (nI_eq (a := j) (b := (V 1 p)) (by omega) (by omega)).mp c8
      refine jb_aload_n (pc' := 51) dX12_as_50 rfl rfl ?_
      refine jb_iload_n (pc' := 52) dX12_as_51 rfl rfl ?_
      refine jb_iconst (pc' := 53) 1 dX12_as_52 (by decide) rfl ?_
      refine jb_callV (pc' := 56) (ci := 12) (q := 105) (As := [.int (nI p), .int 1]) (a2 := 0) (b2 := 0) wv_X12_145 rfl dX12_as_53 (c_of1 I J d e kp nm W hd0 hk0 p (by omega)) rfl rfl ⟨by decide, Nat.le_of_eq (Nat.zero_add _), Nat.le_of_eq (Nat.zero_add _)⟩ (Nat.le_of_ble_eq_true rfl) rfl (fun r h9 hq => ?_)
      obtain ⟨rfl, rfl⟩ := hq
      show jb_J _ RX12 cX12_as 4 (Option.some .int) false 2 0 0 56 [some (.ref 105), some (.int (nI p)), some (.int (nI j)), some (.int (nI (V 1 p)))] [.int (nI (V 2 p))] [s0, s1, s2, s3, s4, s5, s6, s7, s8, s9, jb_mdl I J d e kp nm W, s11] _
      refine jb_goto (pc' := 64) dX12_as_56 (by decide) ?_
      refine jb_iret dX12_as_64 rfl ?_
      exact ⟨rfl, rfl⟩
    · have c8 : ¬ j = (V 1 p) := fun z9 => c8 ((nI_eq (a := j) (b := (V 1 p)) (by omega) (by omega)).mpr z9)
      refine jb_iload_n (pc' := 43) dX12_as_42 rfl rfl ?_
      refine jb_iload_n (pc' := 44) dX12_as_43 rfl rfl ?_
      refine jb_callS (pc' := 47) (As := [.int (nI (V 1 p))]) (a2 := 0) (b2 := 0) wv_X12_168 dX12_as_44 (c_above (V 1 p) (by omega)) rfl ⟨by decide, Nat.le_of_eq (Nat.zero_add _), Nat.le_of_eq (Nat.zero_add _)⟩ (Nat.le_of_ble_eq_true rfl) rfl (fun r h9 hq => ?_)
      obtain ⟨rfl, rfl⟩ := hq
      show jb_J _ RX12 cX12_as 4 (Option.some .int) false 2 0 0 47 [some (.ref 105), some (.int (nI p)), some (.int (nI j)), some (.int (nI (V 1 p)))] [.int (nI ((V 1 p) - 3)), .int (nI j)] [s0, s1, s2, s3, s4, s5, s6, s7, s8, s9, jb_mdl I J d e kp nm W, s11] _
      refine jb_icmp_ne (tgt := 59) (pc' := 50) dX12_as_47 (by decide) rfl (fun c9 => ?_) (fun c9 => ?_)
      · have c9 : ¬ j = ((V 1 p) - 3) := fun z9 => c9 ((nI_eq (a := j) (b := ((V 1 p) - 3)) (by omega) (by omega)).mpr z9)
        refine jb_aload_n (pc' := 60) dX12_as_59 rfl rfl ?_
        refine jb_iconst (pc' := 61) 5 dX12_as_60 (by decide) rfl ?_
        refine jb_callV (pc' := 64) (ci := 12) (q := 105) (As := [.int 5]) (a2 := 0) (b2 := 0) wv_X12_121 rfl dX12_as_61 (c_finds I J d e kp nm W 5 (by decide)) rfl rfl ⟨by decide, Nat.le_of_eq (Nat.zero_add _), Nat.le_of_eq (Nat.zero_add _)⟩ (Nat.le_of_ble_eq_true rfl) rfl (fun r h9 hq => ?_)
        obtain ⟨rfl, rfl⟩ := hq
        show jb_J _ RX12 cX12_as 4 (Option.some .int) false 2 0 0 64 [some (.ref 105), some (.int (nI p)), some (.int (nI j)), some (.int (nI (V 1 p)))] [.int (jm_er 5)] [s0, s1, s2, s3, s4, s5, s6, s7, s8, s9, jb_mdl I J d e kp nm (va_up W 0 (jm_ef (W 0) 5)), s11] _
        refine jb_iret dX12_as_64 rfl ?_
        exact absurd hju (by unfold jm_un; omega)
      · have c9 : j = ((V 1 p) - 3) := (nI_eq (a := j) (b := ((V 1 p) - 3)) (by omega) (by omega)).mp c9
        refine jb_aload_n (pc' := 51) dX12_as_50 rfl rfl ?_
        refine jb_iload_n (pc' := 52) dX12_as_51 rfl rfl ?_
        refine jb_iconst (pc' := 53) 1 dX12_as_52 (by decide) rfl ?_
        refine jb_callV (pc' := 56) (ci := 12) (q := 105) (As := [.int (nI p), .int 1]) (a2 := 0) (b2 := 0) wv_X12_145 rfl dX12_as_53 (c_of1 I J d e kp nm W hd0 hk0 p (by omega)) rfl rfl ⟨by decide, Nat.le_of_eq (Nat.zero_add _), Nat.le_of_eq (Nat.zero_add _)⟩ (Nat.le_of_ble_eq_true rfl) rfl (fun r h9 hq => ?_)
        obtain ⟨rfl, rfl⟩ := hq
        show jb_J _ RX12 cX12_as 4 (Option.some .int) false 2 0 0 56 [some (.ref 105), some (.int (nI p)), some (.int (nI j)), some (.int (nI (V 1 p)))] [.int (nI (V 2 p))] [s0, s1, s2, s3, s4, s5, s6, s7, s8, s9, jb_mdl I J d e kp nm W, s11] _
        refine jb_goto (pc' := 64) dX12_as_56 (by decide) ?_
        refine jb_iret dX12_as_64 rfl ?_
        exact ⟨rfl, rfl⟩
set_option maxRecDepth 100000 in
set_option maxHeartbeats 4000000 in
theorem me_asK {sc : Nat × (Nat → Int32)} {s0 s1 s2 s3 s4 s5 s6 s7 s8 s9 s11 : List va_E} {V : Nat → Nat → Nat} (I J d e kp nm : Nat → Int32) (W : Nat → Nat → Int32) (hd : jd_ V d) (hk : jv_ok V) (p : Nat) (hp : p < V 0 1) (j : Nat) (hj : j < 7) (hju : ¬ jm_un (V 1 p) j) : jb_C sc yX12_as cX12_as 4 (Option.some .int) 2 0 0 [.ref 105, .int (nI p), .int (nI j)] [s0, s1, s2, s3, s4, s5, s6, s7, s8, s9, jb_mdl I J d e kp nm W, s11] (fun r h9 => r = some (.int (jm_er 5)) ∧ h9 = [s0, s1, s2, s3, s4, s5, s6, s7, s8, s9, jb_mdl I J d e kp nm (va_up W 0 (jm_ef (W 0) 5)), s11]) := by
  refine jb_CofJ (ini := false) (by decide +kernel) (fun h => by cases h) (Nat.le_of_ble_eq_true rfl) ?_
  show jb_J sc RX12 cX12_as 4 (Option.some .int) false 2 0 0 0 [some (.ref 105), some (.int (nI p)), some (.int (nI j)), none] [] [s0, s1, s2, s3, s4, s5, s6, s7, s8, s9, jb_mdl I J d e kp nm W, s11] _
  have hd0 := hd
  have hk0 := hk
  obtain ⟨e0, e1, e2, e3, e4, e5, e6, dv, ds, dd⟩ := hd
  obtain ⟨k0, k1, k2, k3, k4, k5, k6, k7, kv, ks, kd⟩ := hk
  have q1 := kv p hp
  refine jb_aload_n (pc' := 1) dX12_as_0 rfl rfl ?_
  refine jb_iload_n (pc' := 2) dX12_as_1 rfl rfl ?_
  refine jb_callV (pc' := 5) (ci := 12) (q := 105) (As := [.int (nI p)]) (a2 := 0) (b2 := 0) wv_X12_149 rfl dX12_as_2 (c_isVoiceG I J d e kp nm W hd0 hk0 p (by omega)) rfl rfl ⟨by decide, Nat.le_of_eq (Nat.zero_add _), Nat.le_of_eq (Nat.zero_add _)⟩ (Nat.le_of_ble_eq_true rfl) rfl (fun r h9 hq => ?_)
  obtain ⟨rfl, rfl⟩ := hq
  show jb_J _ RX12 cX12_as 4 (Option.some .int) false 2 0 0 5 [some (.ref 105), some (.int (nI p)), some (.int (nI j)), none] [.int 1] [s0, s1, s2, s3, s4, s5, s6, s7, s8, s9, jb_mdl I J d e kp nm W, s11] _
  refine jb_if_eq (tgt := 20) (pc' := 8) dX12_as_5 (by decide) rfl (fun z => absurd z (by decide)) (fun _ => ?_)
  refine jb_iload_n (pc' := 9) dX12_as_8 rfl rfl ?_
  refine jb_i2l (pc' := 10) dX12_as_9 rfl ?_
  refine jb_lconst (pc' := 11) 0 dX12_as_10 (by decide) rfl ?_
  refine jb_ldc2 (pc' := 14) 6 dX12_as_11 wk_X12_166 rfl ?_
  refine jb_callS (pc' := 17) (As := [.long ((nI j).toInt64), .long 0, .long 6]) (a2 := 0) (b2 := 0) wv_X12_56 dX12_as_14 (c_inLG _ j 0 6 (by omega) (by omega) (by omega)) rfl ⟨by decide, Nat.le_of_eq (Nat.zero_add _), Nat.le_of_eq (Nat.zero_add _)⟩ (Nat.le_of_ble_eq_true rfl) rfl (fun r h9 hq => ?_)
  obtain ⟨rfl, rfl⟩ := hq
  show jb_J _ RX12 cX12_as 4 (Option.some .int) false 2 0 0 17 [some (.ref 105), some (.int (nI p)), some (.int (nI j)), none] [.int 1] [s0, s1, s2, s3, s4, s5, s6, s7, s8, s9, jb_mdl I J d e kp nm W, s11] _
  refine jb_if_ne (tgt := 26) (pc' := 20) dX12_as_17 (by decide) rfl (fun _ => ?_) (fun z => absurd z (by decide))
  refine jb_aload_n (pc' := 27) dX12_as_26 rfl rfl ?_
  refine jb_iload_n (pc' := 28) dX12_as_27 rfl rfl ?_
  refine jb_iconst (pc' := 29) 0 dX12_as_28 (by decide) rfl ?_
  refine jb_callV (pc' := 32) (ci := 12) (q := 105) (As := [.int (nI p), .int 0]) (a2 := 0) (b2 := 0) wv_X12_145 rfl dX12_as_29 (c_of0 I J d e kp nm W hd0 hk0 p (by omega)) rfl rfl ⟨by decide, Nat.le_of_eq (Nat.zero_add _), Nat.le_of_eq (Nat.zero_add _)⟩ (Nat.le_of_ble_eq_true rfl) rfl (fun r h9 hq => ?_)
  obtain ⟨rfl, rfl⟩ := hq
  show jb_J _ RX12 cX12_as 4 (Option.some .int) false 2 0 0 32 [some (.ref 105), some (.int (nI p)), some (.int (nI j)), none] [.int (nI (V 1 p))] [s0, s1, s2, s3, s4, s5, s6, s7, s8, s9, jb_mdl I J d e kp nm W, s11] _
  refine jb_istore_n_ (pc' := 33) dX12_as_32 (by decide) (jb_at3 rfl) rfl ?_
  refine jb_iload_n (pc' := 34) dX12_as_33 rfl rfl ?_
  refine jb_if_eq (tgt := 50) (pc' := 37) dX12_as_34 (by decide) rfl (fun c7 => ?_) (fun c7 => ?_)
  · have c7 : j = 0 := (nI_eq (a := j) (b := 0) (by omega) (by omega)).mp c7
    refine jb_aload_n (pc' := 51) dX12_as_50 rfl rfl ?_
    refine jb_iload_n (pc' := 52) dX12_as_51 rfl rfl ?_
    refine jb_iconst (pc' := 53) 1 dX12_as_52 (by decide) rfl ?_
    refine jb_callV (pc' := 56) (ci := 12) (q := 105) (As := [.int (nI p), .int 1]) (a2 := 0) (b2 := 0) wv_X12_145 rfl dX12_as_53 (c_of1 I J d e kp nm W hd0 hk0 p (by omega)) rfl rfl ⟨by decide, Nat.le_of_eq (Nat.zero_add _), Nat.le_of_eq (Nat.zero_add _)⟩ (Nat.le_of_ble_eq_true rfl) rfl (fun r h9 hq => ?_)
    obtain ⟨rfl, rfl⟩ := hq
    show jb_J _ RX12 cX12_as 4 (Option.some .int) false 2 0 0 56 [some (.ref 105), some (.int (nI p)), some (.int (nI j)), some (.int (nI (V 1 p)))] [.int (nI (V 2 p))] [s0, s1, s2, s3, s4, s5, s6, s7, s8, s9, jb_mdl I J d e kp nm W, s11] _
    refine jb_goto (pc' := 64) dX12_as_56 (by decide) ?_
    refine jb_iret dX12_as_64 rfl ?_
    exact absurd (show jm_un (V 1 p) j by unfold jm_un; omega) hju
  · have c7 : ¬ j = 0 := fun z9 => c7 ((nI_eq (a := j) (b := 0) (by omega) (by omega)).mpr z9)
    refine jb_iload_n (pc' := 38) dX12_as_37 rfl rfl ?_
    refine jb_iload_n (pc' := 39) dX12_as_38 rfl rfl ?_
    refine jb_icmp_eq (tgt := 50) (pc' := 42) dX12_as_39 (by decide) rfl (fun c8 => ?_) (fun c8 => ?_)
    · have c8 : j = (V 1 p) := (nI_eq (a := j) (b := (V 1 p)) (by omega) (by omega)).mp c8
      refine jb_aload_n (pc' := 51) dX12_as_50 rfl rfl ?_
      refine jb_iload_n (pc' := 52) dX12_as_51 rfl rfl ?_
      refine jb_iconst (pc' := 53) 1 dX12_as_52 (by decide) rfl ?_
      refine jb_callV (pc' := 56) (ci := 12) (q := 105) (As := [.int (nI p), .int 1]) (a2 := 0) (b2 := 0) wv_X12_145 rfl dX12_as_53 (c_of1 I J d e kp nm W hd0 hk0 p (by omega)) rfl rfl ⟨by decide, Nat.le_of_eq (Nat.zero_add _), Nat.le_of_eq (Nat.zero_add _)⟩ (Nat.le_of_ble_eq_true rfl) rfl (fun r h9 hq => ?_)
      obtain ⟨rfl, rfl⟩ := hq
      show jb_J _ RX12 cX12_as 4 (Option.some .int) false 2 0 0 56 [some (.ref 105), some (.int (nI p)), some (.int (nI j)), some (.int (nI (V 1 p)))] [.int (nI (V 2 p))] [s0, s1, s2, s3, s4, s5, s6, s7, s8, s9, jb_mdl I J d e kp nm W, s11] _
      refine jb_goto (pc' := 64) dX12_as_56 (by decide) ?_
      refine jb_iret dX12_as_64 rfl ?_
      exact absurd (show jm_un (V 1 p) j by unfold jm_un; omega) hju
    · have c8 : ¬ j = (V 1 p) := fun z9 => c8 ((nI_eq (a := j) (b := (V 1 p)) (by omega) (by omega)).mpr z9)
      refine jb_iload_n (pc' := 43) dX12_as_42 rfl rfl ?_
      refine jb_iload_n (pc' := 44) dX12_as_43 rfl rfl ?_
      refine jb_callS (pc' := 47) (As := [.int (nI (V 1 p))]) (a2 := 0) (b2 := 0) wv_X12_168 dX12_as_44 (c_above (V 1 p) (by omega)) rfl ⟨by decide, Nat.le_of_eq (Nat.zero_add _), Nat.le_of_eq (Nat.zero_add _)⟩ (Nat.le_of_ble_eq_true rfl) rfl (fun r h9 hq => ?_)
      obtain ⟨rfl, rfl⟩ := hq
      show jb_J _ RX12 cX12_as 4 (Option.some .int) false 2 0 0 47 [some (.ref 105), some (.int (nI p)), some (.int (nI j)), some (.int (nI (V 1 p)))] [.int (nI ((V 1 p) - 3)), .int (nI j)] [s0, s1, s2, s3, s4, s5, s6, s7, s8, s9, jb_mdl I J d e kp nm W, s11] _
      refine jb_icmp_ne (tgt := 59) (pc' := 50) dX12_as_47 (by decide) rfl (fun c9 => ?_) (fun c9 => ?_)
      · have c9 : ¬ j = ((V 1 p) - 3) := fun z9 => c9 ((nI_eq (a := j) (b := ((V 1 p) - 3)) (by omega) (by omega)).mpr z9)
        refine jb_aload_n (pc' := 60) dX12_as_59 rfl rfl ?_
        refine jb_iconst (pc' := 61) 5 dX12_as_60 (by decide) rfl ?_
        refine jb_callV (pc' := 64) (ci := 12) (q := 105) (As := [.int 5]) (a2 := 0) (b2 := 0) wv_X12_121 rfl dX12_as_61 (c_finds I J d e kp nm W 5 (by decide)) rfl rfl ⟨by decide, Nat.le_of_eq (Nat.zero_add _), Nat.le_of_eq (Nat.zero_add _)⟩ (Nat.le_of_ble_eq_true rfl) rfl (fun r h9 hq => ?_)
        obtain ⟨rfl, rfl⟩ := hq
        show jb_J _ RX12 cX12_as 4 (Option.some .int) false 2 0 0 64 [some (.ref 105), some (.int (nI p)), some (.int (nI j)), some (.int (nI (V 1 p)))] [.int (jm_er 5)] [s0, s1, s2, s3, s4, s5, s6, s7, s8, s9, jb_mdl I J d e kp nm (va_up W 0 (jm_ef (W 0) 5)), s11] _
        refine jb_iret dX12_as_64 rfl ?_
        exact ⟨rfl, rfl⟩
      · have c9 : j = ((V 1 p) - 3) := (nI_eq (a := j) (b := ((V 1 p) - 3)) (by omega) (by omega)).mp c9
        refine jb_aload_n (pc' := 51) dX12_as_50 rfl rfl ?_
        refine jb_iload_n (pc' := 52) dX12_as_51 rfl rfl ?_
        refine jb_iconst (pc' := 53) 1 dX12_as_52 (by decide) rfl ?_
        refine jb_callV (pc' := 56) (ci := 12) (q := 105) (As := [.int (nI p), .int 1]) (a2 := 0) (b2 := 0) wv_X12_145 rfl dX12_as_53 (c_of1 I J d e kp nm W hd0 hk0 p (by omega)) rfl rfl ⟨by decide, Nat.le_of_eq (Nat.zero_add _), Nat.le_of_eq (Nat.zero_add _)⟩ (Nat.le_of_ble_eq_true rfl) rfl (fun r h9 hq => ?_)
        obtain ⟨rfl, rfl⟩ := hq
        show jb_J _ RX12 cX12_as 4 (Option.some .int) false 2 0 0 56 [some (.ref 105), some (.int (nI p)), some (.int (nI j)), some (.int (nI (V 1 p)))] [.int (nI (V 2 p))] [s0, s1, s2, s3, s4, s5, s6, s7, s8, s9, jb_mdl I J d e kp nm W, s11] _
        refine jb_goto (pc' := 64) dX12_as_56 (by decide) ?_
        refine jb_iret dX12_as_64 rfl ?_
        exact absurd (show jm_un (V 1 p) j by unfold jm_un; omega) hju
set_option maxRecDepth 100000 in
set_option maxHeartbeats 4000000 in
theorem me_as {sc : Nat × (Nat → Int32)} {s0 s1 s2 s3 s4 s5 s6 s7 s8 s9 s11 : List va_E} {V : Nat → Nat → Nat} (I J d e kp nm : Nat → Int32) (W : Nat → Nat → Int32) (hd : jd_ V d) (hk : jv_ok V) (p j : Int32) (hb : ¬ (jn_b p 0 (V 0 1) ∧ jn_b j 0 7)) : jb_C sc yX12_as cX12_as 4 (Option.some .int) 2 0 0 [.ref 105, .int p, .int j] [s0, s1, s2, s3, s4, s5, s6, s7, s8, s9, jb_mdl I J d e kp nm W, s11] (fun r h9 => r = some (.int (jm_er 1)) ∧ h9 = [s0, s1, s2, s3, s4, s5, s6, s7, s8, s9, jb_mdl I J d e kp nm (va_up W 0 (jm_ef (W 0) 1)), s11]) := by
  refine jb_CofJ (ini := false) (by decide +kernel) (fun h => by cases h) (Nat.le_of_ble_eq_true rfl) ?_
  show jb_J sc RX12 cX12_as 4 (Option.some .int) false 2 0 0 0 [some (.ref 105), some (.int p), some (.int j), none] [] [s0, s1, s2, s3, s4, s5, s6, s7, s8, s9, jb_mdl I J d e kp nm W, s11] _
  have hd0 := hd
  have hk0 := hk
  obtain ⟨e0, e1, e2, e3, e4, e5, e6, dv, ds, dd⟩ := hd
  obtain ⟨k0, k1, k2, k3, k4, k5, k6, k7, kv, ks, kd⟩ := hk
  refine jb_aload_n (pc' := 1) dX12_as_0 rfl rfl ?_
  refine jb_iload_n (pc' := 2) dX12_as_1 rfl rfl ?_
  refine jb_callV (pc' := 5) (ci := 12) (q := 105) (As := [.int p]) (a2 := 0) (b2 := 0) wv_X12_149 rfl dX12_as_2 (c_isVoice I J d e kp nm W hd0 hk0 p) rfl rfl ⟨by decide, Nat.le_of_eq (Nat.zero_add _), Nat.le_of_eq (Nat.zero_add _)⟩ (Nat.le_of_ble_eq_true rfl) rfl (fun r h9 hq => ?_)
  rcases hq with ⟨rfl, ⟨o1, rfl⟩ | ⟨o1, rfl⟩⟩
  · show jb_J _ RX12 cX12_as 4 (Option.some .int) false 2 0 0 5 [some (.ref 105), some (.int p), some (.int j), none] [.int 1] [s0, s1, s2, s3, s4, s5, s6, s7, s8, s9, jb_mdl I J d e kp nm W, s11] _
    refine jb_if_eq (tgt := 20) (pc' := 8) dX12_as_5 (by decide) rfl (fun z => absurd z (by decide)) (fun _ => ?_)
    refine jb_iload_n (pc' := 9) dX12_as_8 rfl rfl ?_
    refine jb_i2l (pc' := 10) dX12_as_9 rfl ?_
    refine jb_lconst (pc' := 11) 0 dX12_as_10 (by decide) rfl ?_
    refine jb_ldc2 (pc' := 14) 6 dX12_as_11 wk_X12_166 rfl ?_
    refine jb_callS (pc' := 17) (As := [.long j.toInt64, .long 0, .long 6]) (a2 := 0) (b2 := 0) wv_X12_56 dX12_as_14 (c_inL _ j 0 6 (by omega) (by omega)) rfl ⟨by decide, Nat.le_of_eq (Nat.zero_add _), Nat.le_of_eq (Nat.zero_add _)⟩ (Nat.le_of_ble_eq_true rfl) rfl (fun r h9 hq => ?_)
    rcases hq with ⟨rfl, ⟨o4, rfl⟩ | ⟨o4, rfl⟩⟩
    · show jb_J _ RX12 cX12_as 4 (Option.some .int) false 2 0 0 17 [some (.ref 105), some (.int p), some (.int j), none] [.int 1] [s0, s1, s2, s3, s4, s5, s6, s7, s8, s9, jb_mdl I J d e kp nm W, s11] _
      exact absurd ⟨by assumption, by assumption⟩ hb
    · show jb_J _ RX12 cX12_as 4 (Option.some .int) false 2 0 0 17 [some (.ref 105), some (.int p), some (.int j), none] [.int 0] [s0, s1, s2, s3, s4, s5, s6, s7, s8, s9, jb_mdl I J d e kp nm W, s11] _
      refine jb_if_ne (tgt := 26) (pc' := 20) dX12_as_17 (by decide) rfl (fun z => absurd (by decide) z) (fun _ => ?_)
      refine jb_aload_n (pc' := 21) dX12_as_20 rfl rfl ?_
      refine jb_iconst (pc' := 22) 1 dX12_as_21 (by decide) rfl ?_
      refine jb_callV (pc' := 25) (ci := 12) (q := 105) (As := [.int 1]) (a2 := 0) (b2 := 0) wv_X12_121 rfl dX12_as_22 (c_finds I J d e kp nm W 1 (by decide)) rfl rfl ⟨by decide, Nat.le_of_eq (Nat.zero_add _), Nat.le_of_eq (Nat.zero_add _)⟩ (Nat.le_of_ble_eq_true rfl) rfl (fun r h9 hq => ?_)
      obtain ⟨rfl, rfl⟩ := hq
      show jb_J _ RX12 cX12_as 4 (Option.some .int) false 2 0 0 25 [some (.ref 105), some (.int p), some (.int j), none] [.int (jm_er 1)] [s0, s1, s2, s3, s4, s5, s6, s7, s8, s9, jb_mdl I J d e kp nm (va_up W 0 (jm_ef (W 0) 1)), s11] _
      refine jb_iret dX12_as_25 rfl ?_
      exact ⟨rfl, rfl⟩
  · show jb_J _ RX12 cX12_as 4 (Option.some .int) false 2 0 0 5 [some (.ref 105), some (.int p), some (.int j), none] [.int 0] [s0, s1, s2, s3, s4, s5, s6, s7, s8, s9, jb_mdl I J d e kp nm W, s11] _
    refine jb_if_eq (tgt := 20) (pc' := 8) dX12_as_5 (by decide) rfl (fun _ => ?_) (fun z => absurd (by decide) z)
    refine jb_aload_n (pc' := 21) dX12_as_20 rfl rfl ?_
    refine jb_iconst (pc' := 22) 1 dX12_as_21 (by decide) rfl ?_
    refine jb_callV (pc' := 25) (ci := 12) (q := 105) (As := [.int 1]) (a2 := 0) (b2 := 0) wv_X12_121 rfl dX12_as_22 (c_finds I J d e kp nm W 1 (by decide)) rfl rfl ⟨by decide, Nat.le_of_eq (Nat.zero_add _), Nat.le_of_eq (Nat.zero_add _)⟩ (Nat.le_of_ble_eq_true rfl) rfl (fun r h9 hq => ?_)
    obtain ⟨rfl, rfl⟩ := hq
    show jb_J _ RX12 cX12_as 4 (Option.some .int) false 2 0 0 25 [some (.ref 105), some (.int p), some (.int j), none] [.int (jm_er 1)] [s0, s1, s2, s3, s4, s5, s6, s7, s8, s9, jb_mdl I J d e kp nm (va_up W 0 (jm_ef (W 0) 1)), s11] _
    refine jb_iret dX12_as_25 rfl ?_
    exact ⟨rfl, rfl⟩
set_option maxRecDepth 100000 in
set_option maxHeartbeats 4000000 in
theorem mx_shout {sc : Nat × (Nat → Int32)} {s0 s1 s2 s3 s4 s5 s6 s7 s8 s9 s11 : List va_E} {V : Nat → Nat → Nat} (I J d e kp nm : Nat → Int32) (W : Nat → Nat → Int32) (hd : jd_ V d) (hk : jv_ok V) (p : Nat) (hp : p < V 0 1) (w : Nat) (hw : w < 40) (h1 : V 0 2 < 40) : jb_C sc yX12_shout cX12_shout 3 (Option.some .int) 2 0 0 [.ref 105, .int (nI p), .int (nI w)] [s0, s1, s2, s3, s4, s5, s6, s7, s8, s9, jb_mdl I J d e kp nm W, s11] (fun r h9 => r = some (.int (nI (V 0 2))) ∧ ∃ d9, jd_ (jm_sh V p w 0) d9 ∧ d9 7 = d 7 ∧ jd_f d d9 ∧ h9 = [s0, s1, s2, s3, s4, s5, s6, s7, s8, s9, jb_mdl I J d9 e kp nm W, s11]) := by
  refine jb_CofJ (ini := false) (by decide +kernel) (fun h => by cases h) (Nat.le_of_ble_eq_true rfl) ?_
  show jb_J sc RX12 cX12_shout 3 (Option.some .int) false 2 0 0 0 [some (.ref 105), some (.int (nI p)), some (.int (nI w))] [] [s0, s1, s2, s3, s4, s5, s6, s7, s8, s9, jb_mdl I J d e kp nm W, s11] _
  have hd0 := hd
  have hk0 := hk
  obtain ⟨e0, e1, e2, e3, e4, e5, e6, dv, ds, dd⟩ := hd
  obtain ⟨k0, k1, k2, k3, k4, k5, k6, k7, kv, ks, kd⟩ := hk
  refine jb_aload_n (pc' := 1) dX12_shout_0 rfl rfl ?_
  refine jb_iload_n (pc' := 2) dX12_shout_1 rfl rfl ?_
  refine jb_callV (pc' := 5) (ci := 12) (q := 105) (As := [.int (nI p)]) (a2 := 0) (b2 := 0) wv_X12_149 rfl dX12_shout_2 (c_isVoiceG I J d e kp nm W hd0 hk0 p (by omega)) rfl rfl ⟨by decide, Nat.le_of_eq (Nat.zero_add _), Nat.le_of_eq (Nat.zero_add _)⟩ (Nat.le_of_ble_eq_true rfl) rfl (fun r h9 hq => ?_)
  obtain ⟨rfl, rfl⟩ := hq
  show jb_J _ RX12 cX12_shout 3 (Option.some .int) false 2 0 0 5 [some (.ref 105), some (.int (nI p)), some (.int (nI w))] [.int 1] [s0, s1, s2, s3, s4, s5, s6, s7, s8, s9, jb_mdl I J d e kp nm W, s11] _
  refine jb_if_eq (tgt := 15) (pc' := 8) dX12_shout_5 (by decide) rfl (fun z => absurd z (by decide)) (fun _ => ?_)
  refine jb_iload_n (pc' := 9) dX12_shout_8 rfl rfl ?_
  refine jb_callS (pc' := 12) (As := [.int (nI w)]) (a2 := 0) (b2 := 0) wv_X12_157 dX12_shout_9 (c_isWordG _ w (by omega)) rfl ⟨by decide, Nat.le_of_eq (Nat.zero_add _), Nat.le_of_eq (Nat.zero_add _)⟩ (Nat.le_of_ble_eq_true rfl) rfl (fun r h9 hq => ?_)
  obtain ⟨rfl, rfl⟩ := hq
  show jb_J _ RX12 cX12_shout 3 (Option.some .int) false 2 0 0 12 [some (.ref 105), some (.int (nI p)), some (.int (nI w))] [.int 1] [s0, s1, s2, s3, s4, s5, s6, s7, s8, s9, jb_mdl I J d e kp nm W, s11] _
  refine jb_if_ne (tgt := 21) (pc' := 15) dX12_shout_12 (by decide) rfl (fun _ => ?_) (fun z => absurd z (by decide))
  refine jb_aload_n (pc' := 22) dX12_shout_21 rfl rfl ?_
  refine gf_X12_7 (pc' := 25) (v := .ref 106) dX12_shout_22 rfl rfl rfl ?_
  refine jb_iconst (pc' := 26) 5 dX12_shout_25 (by decide) rfl ?_
  refine jb_iaload (pc' := 27) (i9 := 5) (f := d) dX12_shout_26 rfl jb_x5 (by decide) rfl ?_
  refine jb_top (v := .int (d 5)) (w := .int (nI (V 0 2))) (jb_vI e5) ?_
  refine jb_bipush (pc' := 29) 40 dX12_shout_27 (by decide) rfl ?_
  refine jb_icmp_ne (tgt := 40) (pc' := 32) dX12_shout_29 (by decide) rfl (fun _ => ?_) (fun z => absurd z (fun z => absurd ((nI_eq (a := V 0 2) (b := 40) (by omega) (by omega)).mp z) (by omega)))
  refine jb_aload_n (pc' := 41) dX12_shout_40 rfl rfl ?_
  refine jb_iload_n (pc' := 42) dX12_shout_41 rfl rfl ?_
  refine jb_iload_n (pc' := 43) dX12_shout_42 rfl rfl ?_
  refine jb_iconst (pc' := 44) (-1) dX12_shout_43 (by decide) rfl ?_
  refine jb_callV (pc' := 47) (ci := 12) (q := 105) (As := [.int (nI p), .int (nI w), .int (-1)]) (a2 := 0) (b2 := 0) wv_X12_174 rfl dX12_shout_44 (c_shoutsm I J d e kp nm W hd0 hk0 p w 0 (by omega) (by omega)) rfl rfl ⟨by decide, Nat.le_of_eq (Nat.zero_add _), Nat.le_of_eq (Nat.zero_add _)⟩ (Nat.le_of_ble_eq_true rfl) rfl (fun r h9 hq => ?_)
  obtain ⟨rfl, d9, hd9, hz9, hf9, rfl⟩ := hq
  show jb_J _ RX12 cX12_shout 3 (Option.some .int) false 2 0 0 47 [some (.ref 105), some (.int (nI p)), some (.int (nI w))] [.int (nI (V 0 2))] [s0, s1, s2, s3, s4, s5, s6, s7, s8, s9, jb_mdl I J d9 e kp nm W, s11] _
  refine jb_iret dX12_shout_47 rfl ?_
  exact ⟨rfl, d9, hd9, hz9, hf9, rfl⟩
set_option maxRecDepth 100000 in
set_option maxHeartbeats 4000000 in
theorem me_shout {sc : Nat × (Nat → Int32)} {s0 s1 s2 s3 s4 s5 s6 s7 s8 s9 s11 : List va_E} {V : Nat → Nat → Nat} (I J d e kp nm : Nat → Int32) (W : Nat → Nat → Int32) (hd : jd_ V d) (hk : jv_ok V) (p w : Int32) (hb : ¬ (jn_b p 0 (V 0 1) ∧ jn_b w 0 40)) : jb_C sc yX12_shout cX12_shout 3 (Option.some .int) 2 0 0 [.ref 105, .int p, .int w] [s0, s1, s2, s3, s4, s5, s6, s7, s8, s9, jb_mdl I J d e kp nm W, s11] (fun r h9 => r = some (.int (jm_er 1)) ∧ h9 = [s0, s1, s2, s3, s4, s5, s6, s7, s8, s9, jb_mdl I J d e kp nm (va_up W 0 (jm_ef (W 0) 1)), s11]) := by
  refine jb_CofJ (ini := false) (by decide +kernel) (fun h => by cases h) (Nat.le_of_ble_eq_true rfl) ?_
  show jb_J sc RX12 cX12_shout 3 (Option.some .int) false 2 0 0 0 [some (.ref 105), some (.int p), some (.int w)] [] [s0, s1, s2, s3, s4, s5, s6, s7, s8, s9, jb_mdl I J d e kp nm W, s11] _
  have hd0 := hd
  have hk0 := hk
  obtain ⟨e0, e1, e2, e3, e4, e5, e6, dv, ds, dd⟩ := hd
  obtain ⟨k0, k1, k2, k3, k4, k5, k6, k7, kv, ks, kd⟩ := hk
  refine jb_aload_n (pc' := 1) dX12_shout_0 rfl rfl ?_
  refine jb_iload_n (pc' := 2) dX12_shout_1 rfl rfl ?_
  refine jb_callV (pc' := 5) (ci := 12) (q := 105) (As := [.int p]) (a2 := 0) (b2 := 0) wv_X12_149 rfl dX12_shout_2 (c_isVoice I J d e kp nm W hd0 hk0 p) rfl rfl ⟨by decide, Nat.le_of_eq (Nat.zero_add _), Nat.le_of_eq (Nat.zero_add _)⟩ (Nat.le_of_ble_eq_true rfl) rfl (fun r h9 hq => ?_)
  rcases hq with ⟨rfl, ⟨o1, rfl⟩ | ⟨o1, rfl⟩⟩
  · show jb_J _ RX12 cX12_shout 3 (Option.some .int) false 2 0 0 5 [some (.ref 105), some (.int p), some (.int w)] [.int 1] [s0, s1, s2, s3, s4, s5, s6, s7, s8, s9, jb_mdl I J d e kp nm W, s11] _
    refine jb_if_eq (tgt := 15) (pc' := 8) dX12_shout_5 (by decide) rfl (fun z => absurd z (by decide)) (fun _ => ?_)
    refine jb_iload_n (pc' := 9) dX12_shout_8 rfl rfl ?_
    refine jb_callS (pc' := 12) (As := [.int w]) (a2 := 0) (b2 := 0) wv_X12_157 dX12_shout_9 (c_isWord _ w) rfl ⟨by decide, Nat.le_of_eq (Nat.zero_add _), Nat.le_of_eq (Nat.zero_add _)⟩ (Nat.le_of_ble_eq_true rfl) rfl (fun r h9 hq => ?_)
    rcases hq with ⟨rfl, ⟨o4, rfl⟩ | ⟨o4, rfl⟩⟩
    · show jb_J _ RX12 cX12_shout 3 (Option.some .int) false 2 0 0 12 [some (.ref 105), some (.int p), some (.int w)] [.int 1] [s0, s1, s2, s3, s4, s5, s6, s7, s8, s9, jb_mdl I J d e kp nm W, s11] _
      refine jb_if_ne (tgt := 21) (pc' := 15) dX12_shout_12 (by decide) rfl (fun _ => ?_) (fun z => absurd z (by decide))
      refine jb_aload_n (pc' := 22) dX12_shout_21 rfl rfl ?_
      refine gf_X12_7 (pc' := 25) (v := .ref 106) dX12_shout_22 rfl rfl rfl ?_
      refine jb_iconst (pc' := 26) 5 dX12_shout_25 (by decide) rfl ?_
      refine jb_iaload (pc' := 27) (i9 := 5) (f := d) dX12_shout_26 rfl jb_x5 (by decide) rfl ?_
      refine jb_top (v := .int (d 5)) (w := .int (nI (V 0 2))) (jb_vI e5) ?_
      refine jb_bipush (pc' := 29) 40 dX12_shout_27 (by decide) rfl ?_
      refine jb_icmp_ne (tgt := 40) (pc' := 32) dX12_shout_29 (by decide) rfl (fun c7 => ?_) (fun c7 => ?_)
      · have c7 : ¬ (V 0 2) = 40 := fun z9 => c7 ((nI_eq (a := (V 0 2)) (b := 40) (by omega) (by omega)).mpr z9)
        exact absurd ⟨by assumption, by assumption⟩ hb
      · have c7 : (V 0 2) = 40 := (nI_eq (a := (V 0 2)) (b := 40) (by omega) (by omega)).mp c7
        refine jb_aload_n (pc' := 33) dX12_shout_32 rfl rfl ?_
        refine jb_iconst (pc' := 34) 4 dX12_shout_33 (by decide) rfl ?_
        refine jb_callV (pc' := 37) (ci := 12) (q := 105) (As := [.int 4]) (a2 := 0) (b2 := 0) wv_X12_121 rfl dX12_shout_34 (c_finds I J d e kp nm W 4 (by decide)) rfl rfl ⟨by decide, Nat.le_of_eq (Nat.zero_add _), Nat.le_of_eq (Nat.zero_add _)⟩ (Nat.le_of_ble_eq_true rfl) rfl (fun r h9 hq => ?_)
        obtain ⟨rfl, rfl⟩ := hq
        show jb_J _ RX12 cX12_shout 3 (Option.some .int) false 2 0 0 37 [some (.ref 105), some (.int p), some (.int w)] [.int (jm_er 4)] [s0, s1, s2, s3, s4, s5, s6, s7, s8, s9, jb_mdl I J d e kp nm (va_up W 0 (jm_ef (W 0) 4)), s11] _
        refine jb_goto (pc' := 47) dX12_shout_37 (by decide) ?_
        refine jb_iret dX12_shout_47 rfl ?_
        exact absurd ⟨by assumption, by assumption⟩ hb
    · show jb_J _ RX12 cX12_shout 3 (Option.some .int) false 2 0 0 12 [some (.ref 105), some (.int p), some (.int w)] [.int 0] [s0, s1, s2, s3, s4, s5, s6, s7, s8, s9, jb_mdl I J d e kp nm W, s11] _
      refine jb_if_ne (tgt := 21) (pc' := 15) dX12_shout_12 (by decide) rfl (fun z => absurd (by decide) z) (fun _ => ?_)
      refine jb_aload_n (pc' := 16) dX12_shout_15 rfl rfl ?_
      refine jb_iconst (pc' := 17) 1 dX12_shout_16 (by decide) rfl ?_
      refine jb_callV (pc' := 20) (ci := 12) (q := 105) (As := [.int 1]) (a2 := 0) (b2 := 0) wv_X12_121 rfl dX12_shout_17 (c_finds I J d e kp nm W 1 (by decide)) rfl rfl ⟨by decide, Nat.le_of_eq (Nat.zero_add _), Nat.le_of_eq (Nat.zero_add _)⟩ (Nat.le_of_ble_eq_true rfl) rfl (fun r h9 hq => ?_)
      obtain ⟨rfl, rfl⟩ := hq
      show jb_J _ RX12 cX12_shout 3 (Option.some .int) false 2 0 0 20 [some (.ref 105), some (.int p), some (.int w)] [.int (jm_er 1)] [s0, s1, s2, s3, s4, s5, s6, s7, s8, s9, jb_mdl I J d e kp nm (va_up W 0 (jm_ef (W 0) 1)), s11] _
      refine jb_iret dX12_shout_20 rfl ?_
      exact ⟨rfl, rfl⟩
  · show jb_J _ RX12 cX12_shout 3 (Option.some .int) false 2 0 0 5 [some (.ref 105), some (.int p), some (.int w)] [.int 0] [s0, s1, s2, s3, s4, s5, s6, s7, s8, s9, jb_mdl I J d e kp nm W, s11] _
    refine jb_if_eq (tgt := 15) (pc' := 8) dX12_shout_5 (by decide) rfl (fun _ => ?_) (fun z => absurd (by decide) z)
    refine jb_aload_n (pc' := 16) dX12_shout_15 rfl rfl ?_
    refine jb_iconst (pc' := 17) 1 dX12_shout_16 (by decide) rfl ?_
    refine jb_callV (pc' := 20) (ci := 12) (q := 105) (As := [.int 1]) (a2 := 0) (b2 := 0) wv_X12_121 rfl dX12_shout_17 (c_finds I J d e kp nm W 1 (by decide)) rfl rfl ⟨by decide, Nat.le_of_eq (Nat.zero_add _), Nat.le_of_eq (Nat.zero_add _)⟩ (Nat.le_of_ble_eq_true rfl) rfl (fun r h9 hq => ?_)
    obtain ⟨rfl, rfl⟩ := hq
    show jb_J _ RX12 cX12_shout 3 (Option.some .int) false 2 0 0 20 [some (.ref 105), some (.int p), some (.int w)] [.int (jm_er 1)] [s0, s1, s2, s3, s4, s5, s6, s7, s8, s9, jb_mdl I J d e kp nm (va_up W 0 (jm_ef (W 0) 1)), s11] _
    refine jb_iret dX12_shout_20 rfl ?_
    exact ⟨rfl, rfl⟩
set_option maxRecDepth 100000 in
set_option maxHeartbeats 4000000 in
theorem me_shoutF {sc : Nat × (Nat → Int32)} {s0 s1 s2 s3 s4 s5 s6 s7 s8 s9 s11 : List va_E} {V : Nat → Nat → Nat} (I J d e kp nm : Nat → Int32) (W : Nat → Nat → Int32) (hd : jd_ V d) (hk : jv_ok V) (p : Nat) (hp : p < V 0 1) (w : Nat) (hw : w < 40) (h1 : V 0 2 = 40) : jb_C sc yX12_shout cX12_shout 3 (Option.some .int) 2 0 0 [.ref 105, .int (nI p), .int (nI w)] [s0, s1, s2, s3, s4, s5, s6, s7, s8, s9, jb_mdl I J d e kp nm W, s11] (fun r h9 => r = some (.int (jm_er 4)) ∧ h9 = [s0, s1, s2, s3, s4, s5, s6, s7, s8, s9, jb_mdl I J d e kp nm (va_up W 0 (jm_ef (W 0) 4)), s11]) := by
  refine jb_CofJ (ini := false) (by decide +kernel) (fun h => by cases h) (Nat.le_of_ble_eq_true rfl) ?_
  show jb_J sc RX12 cX12_shout 3 (Option.some .int) false 2 0 0 0 [some (.ref 105), some (.int (nI p)), some (.int (nI w))] [] [s0, s1, s2, s3, s4, s5, s6, s7, s8, s9, jb_mdl I J d e kp nm W, s11] _
  have hd0 := hd
  have hk0 := hk
  obtain ⟨e0, e1, e2, e3, e4, e5, e6, dv, ds, dd⟩ := hd
  obtain ⟨k0, k1, k2, k3, k4, k5, k6, k7, kv, ks, kd⟩ := hk
  refine jb_aload_n (pc' := 1) dX12_shout_0 rfl rfl ?_
  refine jb_iload_n (pc' := 2) dX12_shout_1 rfl rfl ?_
  refine jb_callV (pc' := 5) (ci := 12) (q := 105) (As := [.int (nI p)]) (a2 := 0) (b2 := 0) wv_X12_149 rfl dX12_shout_2 (c_isVoiceG I J d e kp nm W hd0 hk0 p (by omega)) rfl rfl ⟨by decide, Nat.le_of_eq (Nat.zero_add _), Nat.le_of_eq (Nat.zero_add _)⟩ (Nat.le_of_ble_eq_true rfl) rfl (fun r h9 hq => ?_)
  obtain ⟨rfl, rfl⟩ := hq
  show jb_J _ RX12 cX12_shout 3 (Option.some .int) false 2 0 0 5 [some (.ref 105), some (.int (nI p)), some (.int (nI w))] [.int 1] [s0, s1, s2, s3, s4, s5, s6, s7, s8, s9, jb_mdl I J d e kp nm W, s11] _
  refine jb_if_eq (tgt := 15) (pc' := 8) dX12_shout_5 (by decide) rfl (fun z => absurd z (by decide)) (fun _ => ?_)
  refine jb_iload_n (pc' := 9) dX12_shout_8 rfl rfl ?_
  refine jb_callS (pc' := 12) (As := [.int (nI w)]) (a2 := 0) (b2 := 0) wv_X12_157 dX12_shout_9 (c_isWordG _ w (by omega)) rfl ⟨by decide, Nat.le_of_eq (Nat.zero_add _), Nat.le_of_eq (Nat.zero_add _)⟩ (Nat.le_of_ble_eq_true rfl) rfl (fun r h9 hq => ?_)
  obtain ⟨rfl, rfl⟩ := hq
  show jb_J _ RX12 cX12_shout 3 (Option.some .int) false 2 0 0 12 [some (.ref 105), some (.int (nI p)), some (.int (nI w))] [.int 1] [s0, s1, s2, s3, s4, s5, s6, s7, s8, s9, jb_mdl I J d e kp nm W, s11] _
  refine jb_if_ne (tgt := 21) (pc' := 15) dX12_shout_12 (by decide) rfl (fun _ => ?_) (fun z => absurd z (by decide))
  refine jb_aload_n (pc' := 22) dX12_shout_21 rfl rfl ?_
  refine gf_X12_7 (pc' := 25) (v := .ref 106) dX12_shout_22 rfl rfl rfl ?_
  refine jb_iconst (pc' := 26) 5 dX12_shout_25 (by decide) rfl ?_
  refine jb_iaload (pc' := 27) (i9 := 5) (f := d) dX12_shout_26 rfl jb_x5 (by decide) rfl ?_
  refine jb_top (v := .int (d 5)) (w := .int (nI (V 0 2))) (jb_vI e5) ?_
  refine jb_bipush (pc' := 29) 40 dX12_shout_27 (by decide) rfl ?_
  refine jb_icmp_ne (tgt := 40) (pc' := 32) dX12_shout_29 (by decide) rfl (fun z => absurd (congrArg nI h1) z) (fun _ => ?_)
  refine jb_aload_n (pc' := 33) dX12_shout_32 rfl rfl ?_
  refine jb_iconst (pc' := 34) 4 dX12_shout_33 (by decide) rfl ?_
  refine jb_callV (pc' := 37) (ci := 12) (q := 105) (As := [.int 4]) (a2 := 0) (b2 := 0) wv_X12_121 rfl dX12_shout_34 (c_finds I J d e kp nm W 4 (by decide)) rfl rfl ⟨by decide, Nat.le_of_eq (Nat.zero_add _), Nat.le_of_eq (Nat.zero_add _)⟩ (Nat.le_of_ble_eq_true rfl) rfl (fun r h9 hq => ?_)
  obtain ⟨rfl, rfl⟩ := hq
  show jb_J _ RX12 cX12_shout 3 (Option.some .int) false 2 0 0 37 [some (.ref 105), some (.int (nI p)), some (.int (nI w))] [.int (jm_er 4)] [s0, s1, s2, s3, s4, s5, s6, s7, s8, s9, jb_mdl I J d e kp nm (va_up W 0 (jm_ef (W 0) 4)), s11] _
  refine jb_goto (pc' := 47) dX12_shout_37 (by decide) ?_
  refine jb_iret dX12_shout_47 rfl ?_
  exact ⟨rfl, rfl⟩
set_option maxRecDepth 100000 in
set_option maxHeartbeats 4000000 in
theorem mx_ofShout0 {sc : Nat × (Nat → Int32)} {s0 s1 s2 s3 s4 s5 s6 s7 s8 s9 s11 : List va_E} {V : Nat → Nat → Nat} (I J d e kp nm : Nat → Int32) (W : Nat → Nat → Int32) (hd : jd_ V d) (hk : jv_ok V) (s : Nat) (hs : s < V 0 2) : jb_C sc yX12_ofShout cX12_ofShout 3 (Option.some .int) 2 0 0 [.ref 105, .int (nI s), .int 0] [s0, s1, s2, s3, s4, s5, s6, s7, s8, s9, jb_mdl I J d e kp nm W, s11] (fun r h9 => r = some (.int (nI (V 4 s))) ∧ h9 = [s0, s1, s2, s3, s4, s5, s6, s7, s8, s9, jb_mdl I J d e kp nm W, s11]) := by
  refine jb_CofJ (ini := false) (by decide +kernel) (fun h => by cases h) (Nat.le_of_ble_eq_true rfl) ?_
  show jb_J sc RX12 cX12_ofShout 3 (Option.some .int) false 2 0 0 0 [some (.ref 105), some (.int (nI s)), some (.int 0)] [] [s0, s1, s2, s3, s4, s5, s6, s7, s8, s9, jb_mdl I J d e kp nm W, s11] _
  have hd0 := hd
  have hk0 := hk
  obtain ⟨e0, e1, e2, e3, e4, e5, e6, dv, ds, dd⟩ := hd
  obtain ⟨k0, k1, k2, k3, k4, k5, k6, k7, kv, ks, kd⟩ := hk
  refine jb_aload_n (pc' := 1) dX12_ofShout_0 rfl rfl ?_
  refine jb_iload_n (pc' := 2) dX12_ofShout_1 rfl rfl ?_
  refine jb_callV (pc' := 5) (ci := 12) (q := 105) (As := [.int (nI s)]) (a2 := 0) (b2 := 0) wv_X12_177 rfl dX12_ofShout_2 (c_isShoutG I J d e kp nm W hd0 hk0 s (by omega)) rfl rfl ⟨by decide, Nat.le_of_eq (Nat.zero_add _), Nat.le_of_eq (Nat.zero_add _)⟩ (Nat.le_of_ble_eq_true rfl) rfl (fun r h9 hq => ?_)
  obtain ⟨rfl, rfl⟩ := hq
  show jb_J _ RX12 cX12_ofShout 3 (Option.some .int) false 2 0 0 5 [some (.ref 105), some (.int (nI s)), some (.int 0)] [.int 1] [s0, s1, s2, s3, s4, s5, s6, s7, s8, s9, jb_mdl I J d e kp nm W, s11] _
  refine jb_if_eq (tgt := 29) (pc' := 8) dX12_ofShout_5 (by decide) rfl (fun z => absurd z (by decide)) (fun _ => ?_)
  refine jb_iload_n (pc' := 9) dX12_ofShout_8 rfl rfl ?_
  refine jb_i2l (pc' := 10) dX12_ofShout_9 rfl ?_
  refine jb_lconst (pc' := 11) 0 dX12_ofShout_10 (by decide) rfl ?_
  refine jb_ldc2 (pc' := 14) 5 dX12_ofShout_11 wk_X12_180 rfl ?_
  refine jb_callS (pc' := 17) (As := [.long ((0 : Int32).toInt64), .long 0, .long 5]) (a2 := 0) (b2 := 0) wv_X12_56 dX12_ofShout_14 (c_inLG _ 0 0 5 (by omega) (by omega) (by omega)) rfl ⟨by decide, Nat.le_of_eq (Nat.zero_add _), Nat.le_of_eq (Nat.zero_add _)⟩ (Nat.le_of_ble_eq_true rfl) rfl (fun r h9 hq => ?_)
  obtain ⟨rfl, rfl⟩ := hq
  show jb_J _ RX12 cX12_ofShout 3 (Option.some .int) false 2 0 0 17 [some (.ref 105), some (.int (nI s)), some (.int 0)] [.int 1] [s0, s1, s2, s3, s4, s5, s6, s7, s8, s9, jb_mdl I J d e kp nm W, s11] _
  refine jb_if_eq (tgt := 29) (pc' := 20) dX12_ofShout_17 (by decide) rfl (fun z => absurd z (by decide)) (fun _ => ?_)
  refine jb_aload_n (pc' := 21) dX12_ofShout_20 rfl rfl ?_
  refine jb_iload_n (pc' := 22) dX12_ofShout_21 rfl rfl ?_
  refine jb_iload_n (pc' := 23) dX12_ofShout_22 rfl rfl ?_
  refine jb_callV (pc' := 26) (ci := 12) (q := 105) (As := [.int (nI s), .int 0]) (a2 := 0) (b2 := 0) wv_X12_182 rfl dX12_ofShout_23 (c_ofIt0 I J d e kp nm W hd0 hk0 s (by omega)) rfl rfl ⟨by decide, Nat.le_of_eq (Nat.zero_add _), Nat.le_of_eq (Nat.zero_add _)⟩ (Nat.le_of_ble_eq_true rfl) rfl (fun r h9 hq => ?_)
  obtain ⟨rfl, rfl⟩ := hq
  show jb_J _ RX12 cX12_ofShout 3 (Option.some .int) false 2 0 0 26 [some (.ref 105), some (.int (nI s)), some (.int 0)] [.int (nI (V 4 s))] [s0, s1, s2, s3, s4, s5, s6, s7, s8, s9, jb_mdl I J d e kp nm W, s11] _
  refine jb_goto (pc' := 34) dX12_ofShout_26 (by decide) ?_
  refine jb_iret dX12_ofShout_34 rfl ?_
  exact ⟨rfl, rfl⟩
set_option maxRecDepth 100000 in
set_option maxHeartbeats 4000000 in
theorem mx_ofShout1 {sc : Nat × (Nat → Int32)} {s0 s1 s2 s3 s4 s5 s6 s7 s8 s9 s11 : List va_E} {V : Nat → Nat → Nat} (I J d e kp nm : Nat → Int32) (W : Nat → Nat → Int32) (hd : jd_ V d) (hk : jv_ok V) (s : Nat) (hs : s < V 0 2) : jb_C sc yX12_ofShout cX12_ofShout 3 (Option.some .int) 2 0 0 [.ref 105, .int (nI s), .int 1] [s0, s1, s2, s3, s4, s5, s6, s7, s8, s9, jb_mdl I J d e kp nm W, s11] (fun r h9 => r = some (.int (nI (V 5 s))) ∧ h9 = [s0, s1, s2, s3, s4, s5, s6, s7, s8, s9, jb_mdl I J d e kp nm W, s11]) := by
  refine jb_CofJ (ini := false) (by decide +kernel) (fun h => by cases h) (Nat.le_of_ble_eq_true rfl) ?_
  show jb_J sc RX12 cX12_ofShout 3 (Option.some .int) false 2 0 0 0 [some (.ref 105), some (.int (nI s)), some (.int 1)] [] [s0, s1, s2, s3, s4, s5, s6, s7, s8, s9, jb_mdl I J d e kp nm W, s11] _
  have hd0 := hd
  have hk0 := hk
  obtain ⟨e0, e1, e2, e3, e4, e5, e6, dv, ds, dd⟩ := hd
  obtain ⟨k0, k1, k2, k3, k4, k5, k6, k7, kv, ks, kd⟩ := hk
  refine jb_aload_n (pc' := 1) dX12_ofShout_0 rfl rfl ?_
  refine jb_iload_n (pc' := 2) dX12_ofShout_1 rfl rfl ?_
  refine jb_callV (pc' := 5) (ci := 12) (q := 105) (As := [.int (nI s)]) (a2 := 0) (b2 := 0) wv_X12_177 rfl dX12_ofShout_2 (c_isShoutG I J d e kp nm W hd0 hk0 s (by omega)) rfl rfl ⟨by decide, Nat.le_of_eq (Nat.zero_add _), Nat.le_of_eq (Nat.zero_add _)⟩ (Nat.le_of_ble_eq_true rfl) rfl (fun r h9 hq => ?_)
  obtain ⟨rfl, rfl⟩ := hq
  show jb_J _ RX12 cX12_ofShout 3 (Option.some .int) false 2 0 0 5 [some (.ref 105), some (.int (nI s)), some (.int 1)] [.int 1] [s0, s1, s2, s3, s4, s5, s6, s7, s8, s9, jb_mdl I J d e kp nm W, s11] _
  refine jb_if_eq (tgt := 29) (pc' := 8) dX12_ofShout_5 (by decide) rfl (fun z => absurd z (by decide)) (fun _ => ?_)
  refine jb_iload_n (pc' := 9) dX12_ofShout_8 rfl rfl ?_
  refine jb_i2l (pc' := 10) dX12_ofShout_9 rfl ?_
  refine jb_lconst (pc' := 11) 0 dX12_ofShout_10 (by decide) rfl ?_
  refine jb_ldc2 (pc' := 14) 5 dX12_ofShout_11 wk_X12_180 rfl ?_
  refine jb_callS (pc' := 17) (As := [.long ((1 : Int32).toInt64), .long 0, .long 5]) (a2 := 0) (b2 := 0) wv_X12_56 dX12_ofShout_14 (c_inLG _ 1 0 5 (by omega) (by omega) (by omega)) rfl ⟨by decide, Nat.le_of_eq (Nat.zero_add _), Nat.le_of_eq (Nat.zero_add _)⟩ (Nat.le_of_ble_eq_true rfl) rfl (fun r h9 hq => ?_)
  obtain ⟨rfl, rfl⟩ := hq
  show jb_J _ RX12 cX12_ofShout 3 (Option.some .int) false 2 0 0 17 [some (.ref 105), some (.int (nI s)), some (.int 1)] [.int 1] [s0, s1, s2, s3, s4, s5, s6, s7, s8, s9, jb_mdl I J d e kp nm W, s11] _
  refine jb_if_eq (tgt := 29) (pc' := 20) dX12_ofShout_17 (by decide) rfl (fun z => absurd z (by decide)) (fun _ => ?_)
  refine jb_aload_n (pc' := 21) dX12_ofShout_20 rfl rfl ?_
  refine jb_iload_n (pc' := 22) dX12_ofShout_21 rfl rfl ?_
  refine jb_iload_n (pc' := 23) dX12_ofShout_22 rfl rfl ?_
  refine jb_callV (pc' := 26) (ci := 12) (q := 105) (As := [.int (nI s), .int 1]) (a2 := 0) (b2 := 0) wv_X12_182 rfl dX12_ofShout_23 (c_ofIt1 I J d e kp nm W hd0 hk0 s (by omega)) rfl rfl ⟨by decide, Nat.le_of_eq (Nat.zero_add _), Nat.le_of_eq (Nat.zero_add _)⟩ (Nat.le_of_ble_eq_true rfl) rfl (fun r h9 hq => ?_)
  obtain ⟨rfl, rfl⟩ := hq
  show jb_J _ RX12 cX12_ofShout 3 (Option.some .int) false 2 0 0 26 [some (.ref 105), some (.int (nI s)), some (.int 1)] [.int (nI (V 5 s))] [s0, s1, s2, s3, s4, s5, s6, s7, s8, s9, jb_mdl I J d e kp nm W, s11] _
  refine jb_goto (pc' := 34) dX12_ofShout_26 (by decide) ?_
  refine jb_iret dX12_ofShout_34 rfl ?_
  exact ⟨rfl, rfl⟩
set_option maxRecDepth 100000 in
set_option maxHeartbeats 4000000 in
theorem mx_ofShout2 {sc : Nat × (Nat → Int32)} {s0 s1 s2 s3 s4 s5 s6 s7 s8 s9 s11 : List va_E} {V : Nat → Nat → Nat} (I J d e kp nm : Nat → Int32) (W : Nat → Nat → Int32) (hd : jd_ V d) (hk : jv_ok V) (s : Nat) (hs : s < V 0 2) : jb_C sc yX12_ofShout cX12_ofShout 3 (Option.some .int) 2 0 0 [.ref 105, .int (nI s), .int 2] [s0, s1, s2, s3, s4, s5, s6, s7, s8, s9, jb_mdl I J d e kp nm W, s11] (fun r h9 => r = some (.int (nI (V 6 s))) ∧ h9 = [s0, s1, s2, s3, s4, s5, s6, s7, s8, s9, jb_mdl I J d e kp nm W, s11]) := by
  refine jb_CofJ (ini := false) (by decide +kernel) (fun h => by cases h) (Nat.le_of_ble_eq_true rfl) ?_
  show jb_J sc RX12 cX12_ofShout 3 (Option.some .int) false 2 0 0 0 [some (.ref 105), some (.int (nI s)), some (.int 2)] [] [s0, s1, s2, s3, s4, s5, s6, s7, s8, s9, jb_mdl I J d e kp nm W, s11] _
  have hd0 := hd
  have hk0 := hk
  obtain ⟨e0, e1, e2, e3, e4, e5, e6, dv, ds, dd⟩ := hd
  obtain ⟨k0, k1, k2, k3, k4, k5, k6, k7, kv, ks, kd⟩ := hk
  refine jb_aload_n (pc' := 1) dX12_ofShout_0 rfl rfl ?_
  refine jb_iload_n (pc' := 2) dX12_ofShout_1 rfl rfl ?_
  refine jb_callV (pc' := 5) (ci := 12) (q := 105) (As := [.int (nI s)]) (a2 := 0) (b2 := 0) wv_X12_177 rfl dX12_ofShout_2 (c_isShoutG I J d e kp nm W hd0 hk0 s (by omega)) rfl rfl ⟨by decide, Nat.le_of_eq (Nat.zero_add _), Nat.le_of_eq (Nat.zero_add _)⟩ (Nat.le_of_ble_eq_true rfl) rfl (fun r h9 hq => ?_)
  obtain ⟨rfl, rfl⟩ := hq
  show jb_J _ RX12 cX12_ofShout 3 (Option.some .int) false 2 0 0 5 [some (.ref 105), some (.int (nI s)), some (.int 2)] [.int 1] [s0, s1, s2, s3, s4, s5, s6, s7, s8, s9, jb_mdl I J d e kp nm W, s11] _
  refine jb_if_eq (tgt := 29) (pc' := 8) dX12_ofShout_5 (by decide) rfl (fun z => absurd z (by decide)) (fun _ => ?_)
  refine jb_iload_n (pc' := 9) dX12_ofShout_8 rfl rfl ?_
  refine jb_i2l (pc' := 10) dX12_ofShout_9 rfl ?_
  refine jb_lconst (pc' := 11) 0 dX12_ofShout_10 (by decide) rfl ?_
  refine jb_ldc2 (pc' := 14) 5 dX12_ofShout_11 wk_X12_180 rfl ?_
  refine jb_callS (pc' := 17) (As := [.long ((2 : Int32).toInt64), .long 0, .long 5]) (a2 := 0) (b2 := 0) wv_X12_56 dX12_ofShout_14 (c_inLG _ 2 0 5 (by omega) (by omega) (by omega)) rfl ⟨by decide, Nat.le_of_eq (Nat.zero_add _), Nat.le_of_eq (Nat.zero_add _)⟩ (Nat.le_of_ble_eq_true rfl) rfl (fun r h9 hq => ?_)
  obtain ⟨rfl, rfl⟩ := hq
  show jb_J _ RX12 cX12_ofShout 3 (Option.some .int) false 2 0 0 17 [some (.ref 105), some (.int (nI s)), some (.int 2)] [.int 1] [s0, s1, s2, s3, s4, s5, s6, s7, s8, s9, jb_mdl I J d e kp nm W, s11] _
  refine jb_if_eq (tgt := 29) (pc' := 20) dX12_ofShout_17 (by decide) rfl (fun z => absurd z (by decide)) (fun _ => ?_)
  refine jb_aload_n (pc' := 21) dX12_ofShout_20 rfl rfl ?_
  refine jb_iload_n (pc' := 22) dX12_ofShout_21 rfl rfl ?_
  refine jb_iload_n (pc' := 23) dX12_ofShout_22 rfl rfl ?_
  refine jb_callV (pc' := 26) (ci := 12) (q := 105) (As := [.int (nI s), .int 2]) (a2 := 0) (b2 := 0) wv_X12_182 rfl dX12_ofShout_23 (c_ofIt2 I J d e kp nm W hd0 hk0 s (by omega)) rfl rfl ⟨by decide, Nat.le_of_eq (Nat.zero_add _), Nat.le_of_eq (Nat.zero_add _)⟩ (Nat.le_of_ble_eq_true rfl) rfl (fun r h9 hq => ?_)
  obtain ⟨rfl, rfl⟩ := hq
  show jb_J _ RX12 cX12_ofShout 3 (Option.some .int) false 2 0 0 26 [some (.ref 105), some (.int (nI s)), some (.int 2)] [.int (nI (V 6 s))] [s0, s1, s2, s3, s4, s5, s6, s7, s8, s9, jb_mdl I J d e kp nm W, s11] _
  refine jb_goto (pc' := 34) dX12_ofShout_26 (by decide) ?_
  refine jb_iret dX12_ofShout_34 rfl ?_
  exact ⟨rfl, rfl⟩
set_option maxRecDepth 100000 in
set_option maxHeartbeats 4000000 in
theorem mx_ofShout3 {sc : Nat × (Nat → Int32)} {s0 s1 s2 s3 s4 s5 s6 s7 s8 s9 s11 : List va_E} {V : Nat → Nat → Nat} (I J d e kp nm : Nat → Int32) (W : Nat → Nat → Int32) (hd : jd_ V d) (hk : jv_ok V) (s : Nat) (hs : s < V 0 2) : jb_C sc yX12_ofShout cX12_ofShout 3 (Option.some .int) 2 0 0 [.ref 105, .int (nI s), .int 3] [s0, s1, s2, s3, s4, s5, s6, s7, s8, s9, jb_mdl I J d e kp nm W, s11] (fun r h9 => r = some (.int (nI (V 7 s))) ∧ h9 = [s0, s1, s2, s3, s4, s5, s6, s7, s8, s9, jb_mdl I J d e kp nm W, s11]) := by
  refine jb_CofJ (ini := false) (by decide +kernel) (fun h => by cases h) (Nat.le_of_ble_eq_true rfl) ?_
  show jb_J sc RX12 cX12_ofShout 3 (Option.some .int) false 2 0 0 0 [some (.ref 105), some (.int (nI s)), some (.int 3)] [] [s0, s1, s2, s3, s4, s5, s6, s7, s8, s9, jb_mdl I J d e kp nm W, s11] _
  have hd0 := hd
  have hk0 := hk
  obtain ⟨e0, e1, e2, e3, e4, e5, e6, dv, ds, dd⟩ := hd
  obtain ⟨k0, k1, k2, k3, k4, k5, k6, k7, kv, ks, kd⟩ := hk
  refine jb_aload_n (pc' := 1) dX12_ofShout_0 rfl rfl ?_
  refine jb_iload_n (pc' := 2) dX12_ofShout_1 rfl rfl ?_
  refine jb_callV (pc' := 5) (ci := 12) (q := 105) (As := [.int (nI s)]) (a2 := 0) (b2 := 0) wv_X12_177 rfl dX12_ofShout_2 (c_isShoutG I J d e kp nm W hd0 hk0 s (by omega)) rfl rfl ⟨by decide, Nat.le_of_eq (Nat.zero_add _), Nat.le_of_eq (Nat.zero_add _)⟩ (Nat.le_of_ble_eq_true rfl) rfl (fun r h9 hq => ?_)
  obtain ⟨rfl, rfl⟩ := hq
  show jb_J _ RX12 cX12_ofShout 3 (Option.some .int) false 2 0 0 5 [some (.ref 105), some (.int (nI s)), some (.int 3)] [.int 1] [s0, s1, s2, s3, s4, s5, s6, s7, s8, s9, jb_mdl I J d e kp nm W, s11] _
  refine jb_if_eq (tgt := 29) (pc' := 8) dX12_ofShout_5 (by decide) rfl (fun z => absurd z (by decide)) (fun _ => ?_)
  refine jb_iload_n (pc' := 9) dX12_ofShout_8 rfl rfl ?_
  refine jb_i2l (pc' := 10) dX12_ofShout_9 rfl ?_
  refine jb_lconst (pc' := 11) 0 dX12_ofShout_10 (by decide) rfl ?_
  refine jb_ldc2 (pc' := 14) 5 dX12_ofShout_11 wk_X12_180 rfl ?_
  refine jb_callS (pc' := 17) (As := [.long ((3 : Int32).toInt64), .long 0, .long 5]) (a2 := 0) (b2 := 0) wv_X12_56 dX12_ofShout_14 (c_inLG _ 3 0 5 (by omega) (by omega) (by omega)) rfl ⟨by decide, Nat.le_of_eq (Nat.zero_add _), Nat.le_of_eq (Nat.zero_add _)⟩ (Nat.le_of_ble_eq_true rfl) rfl (fun r h9 hq => ?_)
  obtain ⟨rfl, rfl⟩ := hq
  show jb_J _ RX12 cX12_ofShout 3 (Option.some .int) false 2 0 0 17 [some (.ref 105), some (.int (nI s)), some (.int 3)] [.int 1] [s0, s1, s2, s3, s4, s5, s6, s7, s8, s9, jb_mdl I J d e kp nm W, s11] _
  refine jb_if_eq (tgt := 29) (pc' := 20) dX12_ofShout_17 (by decide) rfl (fun z => absurd z (by decide)) (fun _ => ?_)
  refine jb_aload_n (pc' := 21) dX12_ofShout_20 rfl rfl ?_
  refine jb_iload_n (pc' := 22) dX12_ofShout_21 rfl rfl ?_
  refine jb_iload_n (pc' := 23) dX12_ofShout_22 rfl rfl ?_
  refine jb_callV (pc' := 26) (ci := 12) (q := 105) (As := [.int (nI s), .int 3]) (a2 := 0) (b2 := 0) wv_X12_182 rfl dX12_ofShout_23 (c_ofIt3 I J d e kp nm W hd0 hk0 s (by omega)) rfl rfl ⟨by decide, Nat.le_of_eq (Nat.zero_add _), Nat.le_of_eq (Nat.zero_add _)⟩ (Nat.le_of_ble_eq_true rfl) rfl (fun r h9 hq => ?_)
  obtain ⟨rfl, rfl⟩ := hq
  show jb_J _ RX12 cX12_ofShout 3 (Option.some .int) false 2 0 0 26 [some (.ref 105), some (.int (nI s)), some (.int 3)] [.int (nI (V 7 s))] [s0, s1, s2, s3, s4, s5, s6, s7, s8, s9, jb_mdl I J d e kp nm W, s11] _
  refine jb_goto (pc' := 34) dX12_ofShout_26 (by decide) ?_
  refine jb_iret dX12_ofShout_34 rfl ?_
  exact ⟨rfl, rfl⟩
set_option maxRecDepth 100000 in
set_option maxHeartbeats 4000000 in
theorem mx_ofShout4 {sc : Nat × (Nat → Int32)} {s0 s1 s2 s3 s4 s5 s6 s7 s8 s9 s11 : List va_E} {V : Nat → Nat → Nat} (I J d e kp nm : Nat → Int32) (W : Nat → Nat → Int32) (hd : jd_ V d) (hk : jv_ok V) (s : Nat) (hs : s < V 0 2) : jb_C sc yX12_ofShout cX12_ofShout 3 (Option.some .int) 2 0 0 [.ref 105, .int (nI s), .int 4] [s0, s1, s2, s3, s4, s5, s6, s7, s8, s9, jb_mdl I J d e kp nm W, s11] (fun r h9 => r = some (.int (nI (V 8 s) - 1)) ∧ h9 = [s0, s1, s2, s3, s4, s5, s6, s7, s8, s9, jb_mdl I J d e kp nm W, s11]) := by
  refine jb_CofJ (ini := false) (by decide +kernel) (fun h => by cases h) (Nat.le_of_ble_eq_true rfl) ?_
  show jb_J sc RX12 cX12_ofShout 3 (Option.some .int) false 2 0 0 0 [some (.ref 105), some (.int (nI s)), some (.int 4)] [] [s0, s1, s2, s3, s4, s5, s6, s7, s8, s9, jb_mdl I J d e kp nm W, s11] _
  have hd0 := hd
  have hk0 := hk
  obtain ⟨e0, e1, e2, e3, e4, e5, e6, dv, ds, dd⟩ := hd
  obtain ⟨k0, k1, k2, k3, k4, k5, k6, k7, kv, ks, kd⟩ := hk
  refine jb_aload_n (pc' := 1) dX12_ofShout_0 rfl rfl ?_
  refine jb_iload_n (pc' := 2) dX12_ofShout_1 rfl rfl ?_
  refine jb_callV (pc' := 5) (ci := 12) (q := 105) (As := [.int (nI s)]) (a2 := 0) (b2 := 0) wv_X12_177 rfl dX12_ofShout_2 (c_isShoutG I J d e kp nm W hd0 hk0 s (by omega)) rfl rfl ⟨by decide, Nat.le_of_eq (Nat.zero_add _), Nat.le_of_eq (Nat.zero_add _)⟩ (Nat.le_of_ble_eq_true rfl) rfl (fun r h9 hq => ?_)
  obtain ⟨rfl, rfl⟩ := hq
  show jb_J _ RX12 cX12_ofShout 3 (Option.some .int) false 2 0 0 5 [some (.ref 105), some (.int (nI s)), some (.int 4)] [.int 1] [s0, s1, s2, s3, s4, s5, s6, s7, s8, s9, jb_mdl I J d e kp nm W, s11] _
  refine jb_if_eq (tgt := 29) (pc' := 8) dX12_ofShout_5 (by decide) rfl (fun z => absurd z (by decide)) (fun _ => ?_)
  refine jb_iload_n (pc' := 9) dX12_ofShout_8 rfl rfl ?_
  refine jb_i2l (pc' := 10) dX12_ofShout_9 rfl ?_
  refine jb_lconst (pc' := 11) 0 dX12_ofShout_10 (by decide) rfl ?_
  refine jb_ldc2 (pc' := 14) 5 dX12_ofShout_11 wk_X12_180 rfl ?_
  refine jb_callS (pc' := 17) (As := [.long ((4 : Int32).toInt64), .long 0, .long 5]) (a2 := 0) (b2 := 0) wv_X12_56 dX12_ofShout_14 (c_inLG _ 4 0 5 (by omega) (by omega) (by omega)) rfl ⟨by decide, Nat.le_of_eq (Nat.zero_add _), Nat.le_of_eq (Nat.zero_add _)⟩ (Nat.le_of_ble_eq_true rfl) rfl (fun r h9 hq => ?_)
  obtain ⟨rfl, rfl⟩ := hq
  show jb_J _ RX12 cX12_ofShout 3 (Option.some .int) false 2 0 0 17 [some (.ref 105), some (.int (nI s)), some (.int 4)] [.int 1] [s0, s1, s2, s3, s4, s5, s6, s7, s8, s9, jb_mdl I J d e kp nm W, s11] _
  refine jb_if_eq (tgt := 29) (pc' := 20) dX12_ofShout_17 (by decide) rfl (fun z => absurd z (by decide)) (fun _ => ?_)
  refine jb_aload_n (pc' := 21) dX12_ofShout_20 rfl rfl ?_
  refine jb_iload_n (pc' := 22) dX12_ofShout_21 rfl rfl ?_
  refine jb_iload_n (pc' := 23) dX12_ofShout_22 rfl rfl ?_
  refine jb_callV (pc' := 26) (ci := 12) (q := 105) (As := [.int (nI s), .int 4]) (a2 := 0) (b2 := 0) wv_X12_182 rfl dX12_ofShout_23 (c_ofIt4 I J d e kp nm W hd0 hk0 s (by omega)) rfl rfl ⟨by decide, Nat.le_of_eq (Nat.zero_add _), Nat.le_of_eq (Nat.zero_add _)⟩ (Nat.le_of_ble_eq_true rfl) rfl (fun r h9 hq => ?_)
  obtain ⟨rfl, rfl⟩ := hq
  show jb_J _ RX12 cX12_ofShout 3 (Option.some .int) false 2 0 0 26 [some (.ref 105), some (.int (nI s)), some (.int 4)] [.int (nI (V 8 s) - 1)] [s0, s1, s2, s3, s4, s5, s6, s7, s8, s9, jb_mdl I J d e kp nm W, s11] _
  refine jb_goto (pc' := 34) dX12_ofShout_26 (by decide) ?_
  refine jb_iret dX12_ofShout_34 rfl ?_
  exact ⟨rfl, rfl⟩
set_option maxRecDepth 100000 in
set_option maxHeartbeats 4000000 in
theorem mx_ofShout5 {sc : Nat × (Nat → Int32)} {s0 s1 s2 s3 s4 s5 s6 s7 s8 s9 s11 : List va_E} {V : Nat → Nat → Nat} (I J d e kp nm : Nat → Int32) (W : Nat → Nat → Int32) (hd : jd_ V d) (hk : jv_ok V) (s : Nat) (hs : s < V 0 2) : jb_C sc yX12_ofShout cX12_ofShout 3 (Option.some .int) 2 0 0 [.ref 105, .int (nI s), .int 5] [s0, s1, s2, s3, s4, s5, s6, s7, s8, s9, jb_mdl I J d e kp nm W, s11] (fun r h9 => r = some (.int (nI (V 9 s))) ∧ h9 = [s0, s1, s2, s3, s4, s5, s6, s7, s8, s9, jb_mdl I J d e kp nm W, s11]) := by
  refine jb_CofJ (ini := false) (by decide +kernel) (fun h => by cases h) (Nat.le_of_ble_eq_true rfl) ?_
  show jb_J sc RX12 cX12_ofShout 3 (Option.some .int) false 2 0 0 0 [some (.ref 105), some (.int (nI s)), some (.int 5)] [] [s0, s1, s2, s3, s4, s5, s6, s7, s8, s9, jb_mdl I J d e kp nm W, s11] _
  have hd0 := hd
  have hk0 := hk
  obtain ⟨e0, e1, e2, e3, e4, e5, e6, dv, ds, dd⟩ := hd
  obtain ⟨k0, k1, k2, k3, k4, k5, k6, k7, kv, ks, kd⟩ := hk
  refine jb_aload_n (pc' := 1) dX12_ofShout_0 rfl rfl ?_
  refine jb_iload_n (pc' := 2) dX12_ofShout_1 rfl rfl ?_
  refine jb_callV (pc' := 5) (ci := 12) (q := 105) (As := [.int (nI s)]) (a2 := 0) (b2 := 0) wv_X12_177 rfl dX12_ofShout_2 (c_isShoutG I J d e kp nm W hd0 hk0 s (by omega)) rfl rfl ⟨by decide, Nat.le_of_eq (Nat.zero_add _), Nat.le_of_eq (Nat.zero_add _)⟩ (Nat.le_of_ble_eq_true rfl) rfl (fun r h9 hq => ?_)
  obtain ⟨rfl, rfl⟩ := hq
  show jb_J _ RX12 cX12_ofShout 3 (Option.some .int) false 2 0 0 5 [some (.ref 105), some (.int (nI s)), some (.int 5)] [.int 1] [s0, s1, s2, s3, s4, s5, s6, s7, s8, s9, jb_mdl I J d e kp nm W, s11] _
  refine jb_if_eq (tgt := 29) (pc' := 8) dX12_ofShout_5 (by decide) rfl (fun z => absurd z (by decide)) (fun _ => ?_)
  refine jb_iload_n (pc' := 9) dX12_ofShout_8 rfl rfl ?_
  refine jb_i2l (pc' := 10) dX12_ofShout_9 rfl ?_
  refine jb_lconst (pc' := 11) 0 dX12_ofShout_10 (by decide) rfl ?_
  refine jb_ldc2 (pc' := 14) 5 dX12_ofShout_11 wk_X12_180 rfl ?_
  refine jb_callS (pc' := 17) (As := [.long ((5 : Int32).toInt64), .long 0, .long 5]) (a2 := 0) (b2 := 0) wv_X12_56 dX12_ofShout_14 (c_inLG _ 5 0 5 (by omega) (by omega) (by omega)) rfl ⟨by decide, Nat.le_of_eq (Nat.zero_add _), Nat.le_of_eq (Nat.zero_add _)⟩ (Nat.le_of_ble_eq_true rfl) rfl (fun r h9 hq => ?_)
  obtain ⟨rfl, rfl⟩ := hq
  show jb_J _ RX12 cX12_ofShout 3 (Option.some .int) false 2 0 0 17 [some (.ref 105), some (.int (nI s)), some (.int 5)] [.int 1] [s0, s1, s2, s3, s4, s5, s6, s7, s8, s9, jb_mdl I J d e kp nm W, s11] _
  refine jb_if_eq (tgt := 29) (pc' := 20) dX12_ofShout_17 (by decide) rfl (fun z => absurd z (by decide)) (fun _ => ?_)
  refine jb_aload_n (pc' := 21) dX12_ofShout_20 rfl rfl ?_
  refine jb_iload_n (pc' := 22) dX12_ofShout_21 rfl rfl ?_
  refine jb_iload_n (pc' := 23) dX12_ofShout_22 rfl rfl ?_
  refine jb_callV (pc' := 26) (ci := 12) (q := 105) (As := [.int (nI s), .int 5]) (a2 := 0) (b2 := 0) wv_X12_182 rfl dX12_ofShout_23 (c_ofIt5 I J d e kp nm W hd0 hk0 s (by omega)) rfl rfl ⟨by decide, Nat.le_of_eq (Nat.zero_add _), Nat.le_of_eq (Nat.zero_add _)⟩ (Nat.le_of_ble_eq_true rfl) rfl (fun r h9 hq => ?_)
  obtain ⟨rfl, rfl⟩ := hq
  show jb_J _ RX12 cX12_ofShout 3 (Option.some .int) false 2 0 0 26 [some (.ref 105), some (.int (nI s)), some (.int 5)] [.int (nI (V 9 s))] [s0, s1, s2, s3, s4, s5, s6, s7, s8, s9, jb_mdl I J d e kp nm W, s11] _
  refine jb_goto (pc' := 34) dX12_ofShout_26 (by decide) ?_
  refine jb_iret dX12_ofShout_34 rfl ?_
  exact ⟨rfl, rfl⟩
set_option maxRecDepth 100000 in
set_option maxHeartbeats 4000000 in
theorem me_ofShout {sc : Nat × (Nat → Int32)} {s0 s1 s2 s3 s4 s5 s6 s7 s8 s9 s11 : List va_E} {V : Nat → Nat → Nat} (I J d e kp nm : Nat → Int32) (W : Nat → Nat → Int32) (hd : jd_ V d) (hk : jv_ok V) (s w : Int32) (hb : ¬ (jn_b s 0 (V 0 2) ∧ jn_b w 0 6)) : jb_C sc yX12_ofShout cX12_ofShout 3 (Option.some .int) 2 0 0 [.ref 105, .int s, .int w] [s0, s1, s2, s3, s4, s5, s6, s7, s8, s9, jb_mdl I J d e kp nm W, s11] (fun r h9 => r = some (.int (jm_er 1)) ∧ h9 = [s0, s1, s2, s3, s4, s5, s6, s7, s8, s9, jb_mdl I J d e kp nm (va_up W 0 (jm_ef (W 0) 1)), s11]) := by
  refine jb_CofJ (ini := false) (by decide +kernel) (fun h => by cases h) (Nat.le_of_ble_eq_true rfl) ?_
  show jb_J sc RX12 cX12_ofShout 3 (Option.some .int) false 2 0 0 0 [some (.ref 105), some (.int s), some (.int w)] [] [s0, s1, s2, s3, s4, s5, s6, s7, s8, s9, jb_mdl I J d e kp nm W, s11] _
  have hd0 := hd
  have hk0 := hk
  obtain ⟨e0, e1, e2, e3, e4, e5, e6, dv, ds, dd⟩ := hd
  obtain ⟨k0, k1, k2, k3, k4, k5, k6, k7, kv, ks, kd⟩ := hk
  refine jb_aload_n (pc' := 1) dX12_ofShout_0 rfl rfl ?_
  refine jb_iload_n (pc' := 2) dX12_ofShout_1 rfl rfl ?_
  refine jb_callV (pc' := 5) (ci := 12) (q := 105) (As := [.int s]) (a2 := 0) (b2 := 0) wv_X12_177 rfl dX12_ofShout_2 (c_isShout I J d e kp nm W hd0 hk0 s) rfl rfl ⟨by decide, Nat.le_of_eq (Nat.zero_add _), Nat.le_of_eq (Nat.zero_add _)⟩ (Nat.le_of_ble_eq_true rfl) rfl (fun r h9 hq => ?_)
  rcases hq with ⟨rfl, ⟨o1, rfl⟩ | ⟨o1, rfl⟩⟩
  · show jb_J _ RX12 cX12_ofShout 3 (Option.some .int) false 2 0 0 5 [some (.ref 105), some (.int s), some (.int w)] [.int 1] [s0, s1, s2, s3, s4, s5, s6, s7, s8, s9, jb_mdl I J d e kp nm W, s11] _
    refine jb_if_eq (tgt := 29) (pc' := 8) dX12_ofShout_5 (by decide) rfl (fun z => absurd z (by decide)) (fun _ => ?_)
    refine jb_iload_n (pc' := 9) dX12_ofShout_8 rfl rfl ?_
    refine jb_i2l (pc' := 10) dX12_ofShout_9 rfl ?_
    refine jb_lconst (pc' := 11) 0 dX12_ofShout_10 (by decide) rfl ?_
    refine jb_ldc2 (pc' := 14) 5 dX12_ofShout_11 wk_X12_180 rfl ?_
    refine jb_callS (pc' := 17) (As := [.long w.toInt64, .long 0, .long 5]) (a2 := 0) (b2 := 0) wv_X12_56 dX12_ofShout_14 (c_inL _ w 0 5 (by omega) (by omega)) rfl ⟨by decide, Nat.le_of_eq (Nat.zero_add _), Nat.le_of_eq (Nat.zero_add _)⟩ (Nat.le_of_ble_eq_true rfl) rfl (fun r h9 hq => ?_)
    rcases hq with ⟨rfl, ⟨o4, rfl⟩ | ⟨o4, rfl⟩⟩
    · show jb_J _ RX12 cX12_ofShout 3 (Option.some .int) false 2 0 0 17 [some (.ref 105), some (.int s), some (.int w)] [.int 1] [s0, s1, s2, s3, s4, s5, s6, s7, s8, s9, jb_mdl I J d e kp nm W, s11] _
      exact absurd ⟨by assumption, by assumption⟩ hb
    · show jb_J _ RX12 cX12_ofShout 3 (Option.some .int) false 2 0 0 17 [some (.ref 105), some (.int s), some (.int w)] [.int 0] [s0, s1, s2, s3, s4, s5, s6, s7, s8, s9, jb_mdl I J d e kp nm W, s11] _
      refine jb_if_eq (tgt := 29) (pc' := 20) dX12_ofShout_17 (by decide) rfl (fun _ => ?_) (fun z => absurd (by decide) z)
      refine jb_aload_n (pc' := 30) dX12_ofShout_29 rfl rfl ?_
      refine jb_iconst (pc' := 31) 1 dX12_ofShout_30 (by decide) rfl ?_
      refine jb_callV (pc' := 34) (ci := 12) (q := 105) (As := [.int 1]) (a2 := 0) (b2 := 0) wv_X12_121 rfl dX12_ofShout_31 (c_finds I J d e kp nm W 1 (by decide)) rfl rfl ⟨by decide, Nat.le_of_eq (Nat.zero_add _), Nat.le_of_eq (Nat.zero_add _)⟩ (Nat.le_of_ble_eq_true rfl) rfl (fun r h9 hq => ?_)
      obtain ⟨rfl, rfl⟩ := hq
      show jb_J _ RX12 cX12_ofShout 3 (Option.some .int) false 2 0 0 34 [some (.ref 105), some (.int s), some (.int w)] [.int (jm_er 1)] [s0, s1, s2, s3, s4, s5, s6, s7, s8, s9, jb_mdl I J d e kp nm (va_up W 0 (jm_ef (W 0) 1)), s11] _
      refine jb_iret dX12_ofShout_34 rfl ?_
      exact ⟨rfl, rfl⟩
  · show jb_J _ RX12 cX12_ofShout 3 (Option.some .int) false 2 0 0 5 [some (.ref 105), some (.int s), some (.int w)] [.int 0] [s0, s1, s2, s3, s4, s5, s6, s7, s8, s9, jb_mdl I J d e kp nm W, s11] _
    refine jb_if_eq (tgt := 29) (pc' := 8) dX12_ofShout_5 (by decide) rfl (fun _ => ?_) (fun z => absurd (by decide) z)
    refine jb_aload_n (pc' := 30) dX12_ofShout_29 rfl rfl ?_
    refine jb_iconst (pc' := 31) 1 dX12_ofShout_30 (by decide) rfl ?_
    refine jb_callV (pc' := 34) (ci := 12) (q := 105) (As := [.int 1]) (a2 := 0) (b2 := 0) wv_X12_121 rfl dX12_ofShout_31 (c_finds I J d e kp nm W 1 (by decide)) rfl rfl ⟨by decide, Nat.le_of_eq (Nat.zero_add _), Nat.le_of_eq (Nat.zero_add _)⟩ (Nat.le_of_ble_eq_true rfl) rfl (fun r h9 hq => ?_)
    obtain ⟨rfl, rfl⟩ := hq
    show jb_J _ RX12 cX12_ofShout 3 (Option.some .int) false 2 0 0 34 [some (.ref 105), some (.int s), some (.int w)] [.int (jm_er 1)] [s0, s1, s2, s3, s4, s5, s6, s7, s8, s9, jb_mdl I J d e kp nm (va_up W 0 (jm_ef (W 0) 1)), s11] _
    refine jb_iret dX12_ofShout_34 rfl ?_
    exact ⟨rfl, rfl⟩
set_option maxRecDepth 100000 in
set_option maxHeartbeats 4000000 in
theorem me_lead {sc : Nat × (Nat → Int32)} {s0 s1 s2 s3 s4 s5 s6 s7 s8 s9 s11 : List va_E} {V : Nat → Nat → Nat} (I J d e kp nm : Nat → Int32) (W : Nat → Nat → Int32) (hd : jd_ V d) (hk : jv_ok V) (s w : Int32) (hb : ¬ (jn_b s 0 (V 0 2) ∧ jn_b w 0 2)) : jb_C sc yX12_lead cX12_lead 5 (Option.some .int) 2 0 0 [.ref 105, .int s, .int w] [s0, s1, s2, s3, s4, s5, s6, s7, s8, s9, jb_mdl I J d e kp nm W, s11] (fun r h9 => r = some (.int (jm_er 1)) ∧ h9 = [s0, s1, s2, s3, s4, s5, s6, s7, s8, s9, jb_mdl I J d e kp nm (va_up W 0 (jm_ef (W 0) 1)), s11]) := by
  refine jb_CofJ (ini := false) (by decide +kernel) (fun h => by cases h) (Nat.le_of_ble_eq_true rfl) ?_
  show jb_J sc RX12 cX12_lead 5 (Option.some .int) false 2 0 0 0 [some (.ref 105), some (.int s), some (.int w), none, none] [] [s0, s1, s2, s3, s4, s5, s6, s7, s8, s9, jb_mdl I J d e kp nm W, s11] _
  have hd0 := hd
  have hk0 := hk
  obtain ⟨e0, e1, e2, e3, e4, e5, e6, dv, ds, dd⟩ := hd
  obtain ⟨k0, k1, k2, k3, k4, k5, k6, k7, kv, ks, kd⟩ := hk
  refine jb_aload_n (pc' := 1) dX12_lead_0 rfl rfl ?_
  refine jb_iload_n (pc' := 2) dX12_lead_1 rfl rfl ?_
  refine jb_callV (pc' := 5) (ci := 12) (q := 105) (As := [.int s]) (a2 := 0) (b2 := 0) wv_X12_177 rfl dX12_lead_2 (c_isShout I J d e kp nm W hd0 hk0 s) rfl rfl ⟨by decide, Nat.le_of_eq (Nat.zero_add _), Nat.le_of_eq (Nat.zero_add _)⟩ (Nat.le_of_ble_eq_true rfl) rfl (fun r h9 hq => ?_)
  rcases hq with ⟨rfl, ⟨o1, rfl⟩ | ⟨o1, rfl⟩⟩
  · show jb_J _ RX12 cX12_lead 5 (Option.some .int) false 2 0 0 5 [some (.ref 105), some (.int s), some (.int w), none, none] [.int 1] [s0, s1, s2, s3, s4, s5, s6, s7, s8, s9, jb_mdl I J d e kp nm W, s11] _
    refine jb_if_eq (tgt := 18) (pc' := 8) dX12_lead_5 (by decide) rfl (fun z => absurd z (by decide)) (fun _ => ?_)
    refine jb_iload_n (pc' := 9) dX12_lead_8 rfl rfl ?_
    refine jb_i2l (pc' := 10) dX12_lead_9 rfl ?_
    refine jb_lconst (pc' := 11) 0 dX12_lead_10 (by decide) rfl ?_
    refine jb_lconst (pc' := 12) 1 dX12_lead_11 (by decide) rfl ?_
    refine jb_callS (pc' := 15) (As := [.long w.toInt64, .long 0, .long 1]) (a2 := 0) (b2 := 0) wv_X12_56 dX12_lead_12 (c_inL _ w 0 1 (by omega) (by omega)) rfl ⟨by decide, Nat.le_of_eq (Nat.zero_add _), Nat.le_of_eq (Nat.zero_add _)⟩ (Nat.le_of_ble_eq_true rfl) rfl (fun r h9 hq => ?_)
    rcases hq with ⟨rfl, ⟨o4, rfl⟩ | ⟨o4, rfl⟩⟩
    · show jb_J _ RX12 cX12_lead 5 (Option.some .int) false 2 0 0 15 [some (.ref 105), some (.int s), some (.int w), none, none] [.int 1] [s0, s1, s2, s3, s4, s5, s6, s7, s8, s9, jb_mdl I J d e kp nm W, s11] _
      exact absurd ⟨by assumption, by assumption⟩ hb
    · show jb_J _ RX12 cX12_lead 5 (Option.some .int) false 2 0 0 15 [some (.ref 105), some (.int s), some (.int w), none, none] [.int 0] [s0, s1, s2, s3, s4, s5, s6, s7, s8, s9, jb_mdl I J d e kp nm W, s11] _
      refine jb_if_ne (tgt := 24) (pc' := 18) dX12_lead_15 (by decide) rfl (fun z => absurd (by decide) z) (fun _ => ?_)
      refine jb_aload_n (pc' := 19) dX12_lead_18 rfl rfl ?_
      refine jb_iconst (pc' := 20) 1 dX12_lead_19 (by decide) rfl ?_
      refine jb_callV (pc' := 23) (ci := 12) (q := 105) (As := [.int 1]) (a2 := 0) (b2 := 0) wv_X12_121 rfl dX12_lead_20 (c_finds I J d e kp nm W 1 (by decide)) rfl rfl ⟨by decide, Nat.le_of_eq (Nat.zero_add _), Nat.le_of_eq (Nat.zero_add _)⟩ (Nat.le_of_ble_eq_true rfl) rfl (fun r h9 hq => ?_)
      obtain ⟨rfl, rfl⟩ := hq
      show jb_J _ RX12 cX12_lead 5 (Option.some .int) false 2 0 0 23 [some (.ref 105), some (.int s), some (.int w), none, none] [.int (jm_er 1)] [s0, s1, s2, s3, s4, s5, s6, s7, s8, s9, jb_mdl I J d e kp nm (va_up W 0 (jm_ef (W 0) 1)), s11] _
      refine jb_iret dX12_lead_23 rfl ?_
      exact ⟨rfl, rfl⟩
  · show jb_J _ RX12 cX12_lead 5 (Option.some .int) false 2 0 0 5 [some (.ref 105), some (.int s), some (.int w), none, none] [.int 0] [s0, s1, s2, s3, s4, s5, s6, s7, s8, s9, jb_mdl I J d e kp nm W, s11] _
    refine jb_if_eq (tgt := 18) (pc' := 8) dX12_lead_5 (by decide) rfl (fun _ => ?_) (fun z => absurd (by decide) z)
    refine jb_aload_n (pc' := 19) dX12_lead_18 rfl rfl ?_
    refine jb_iconst (pc' := 20) 1 dX12_lead_19 (by decide) rfl ?_
    refine jb_callV (pc' := 23) (ci := 12) (q := 105) (As := [.int 1]) (a2 := 0) (b2 := 0) wv_X12_121 rfl dX12_lead_20 (c_finds I J d e kp nm W 1 (by decide)) rfl rfl ⟨by decide, Nat.le_of_eq (Nat.zero_add _), Nat.le_of_eq (Nat.zero_add _)⟩ (Nat.le_of_ble_eq_true rfl) rfl (fun r h9 hq => ?_)
    obtain ⟨rfl, rfl⟩ := hq
    show jb_J _ RX12 cX12_lead 5 (Option.some .int) false 2 0 0 23 [some (.ref 105), some (.int s), some (.int w), none, none] [.int (jm_er 1)] [s0, s1, s2, s3, s4, s5, s6, s7, s8, s9, jb_mdl I J d e kp nm (va_up W 0 (jm_ef (W 0) 1)), s11] _
    refine jb_iret dX12_lead_23 rfl ?_
    exact ⟨rfl, rfl⟩
set_option maxRecDepth 100000 in
set_option maxHeartbeats 4000000 in
theorem l_leadm0 {sc : Nat × (Nat → Int32)} {s0 s1 s2 s3 s4 s5 s6 s7 s8 s9 s11 : List va_E} {V : Nat → Nat → Nat} (I J d e kp nm : Nat → Int32) (W : Nat → Nat → Int32) (hd : jd_ V d) (hk : jv_ok V) (x1 : Option Value) : ∀ (k s n : Nat), s < k → k ≤ V 0 2 → jb_J sc RX12 cX12_lead 5 (Option.some .int) false 2 0 0 29 [some (.ref 105), x1, some (.int 0), some (.int (nI s)), some (.int (nI n))] [] [s0, s1, s2, s3, s4, s5, s6, s7, s8, s9, jb_mdl I J d e kp nm W, s11] (fun r h9 => r = some (.int (nI (jm_ld V k s n).1)) ∧ h9 = [s0, s1, s2, s3, s4, s5, s6, s7, s8, s9, jb_mdl I J d e kp nm W, s11]) := by
  have hd0 := hd
  have hk0 := hk
  obtain ⟨e0, e1, e2, e3, e4, e5, e6, dv, ds, dd⟩ := hd
  obtain ⟨k0, k1, k2, k3, k4, k5, k6, k7, kv, ks, kd⟩ := hk
  intro k
  induction k with
  | zero => intro s n hs; omega
  | succ k ih =>
    intro s n hs hk9
    have q1 := ks s (by omega)
    by_cases h0 : V 8 s = 0
    · show jb_J _ RX12 cX12_lead 5 (Option.some .int) false 2 0 0 29 [some (.ref 105), x1, some (.int 0), some (.int (nI s)), some (.int (nI n))] [] [s0, s1, s2, s3, s4, s5, s6, s7, s8, s9, jb_mdl I J d e kp nm W, s11] _
      refine jb_aload_n (pc' := 30) dX12_lead_29 rfl rfl ?_
      refine jb_iload_n (pc' := 31) dX12_lead_30 rfl rfl ?_
      refine jb_iconst (pc' := 32) 4 dX12_lead_31 (by decide) rfl ?_
      refine jb_callV (pc' := 35) (ci := 12) (q := 105) (As := [.int (nI s), .int 4]) (a2 := 0) (b2 := 0) wv_X12_182 rfl dX12_lead_32 (c_ofIt4 I J d e kp nm W hd0 hk0 s (by omega)) rfl rfl ⟨by decide, Nat.le_of_eq (Nat.zero_add _), Nat.le_of_eq (Nat.zero_add _)⟩ (Nat.le_of_ble_eq_true rfl) rfl (fun r h9 hq => ?_)
      obtain ⟨rfl, rfl⟩ := hq
      show jb_J _ RX12 cX12_lead 5 (Option.some .int) false 2 0 0 35 [some (.ref 105), x1, some (.int 0), some (.int (nI s)), some (.int (nI n))] [.int (nI (V 8 s) - 1)] [s0, s1, s2, s3, s4, s5, s6, s7, s8, s9, jb_mdl I J d e kp nm W, s11] _
      refine jb_if_lt (tgt := 51) (pc' := 38) dX12_lead_35 (by decide) rfl (fun _ => ?_) (fun z => absurd (by rw [h0]; decide) z)
      refine jb_iload_n (pc' := 52) dX12_lead_51 rfl rfl ?_
      refine jb_if_ne (tgt := 59) (pc' := 55) dX12_lead_52 (by decide) rfl (fun z => absurd (by decide) z) (fun _ => ?_)
      refine jb_iload_n (pc' := 56) dX12_lead_55 rfl rfl ?_
      refine jb_goto (pc' := 61) dX12_lead_56 (by decide) ?_
      refine jb_iret dX12_lead_61 rfl ?_
      have e9 : jm_ld V (k + 1) s n = (s, n) := if_pos h0
      rw [e9]
      exact ⟨rfl, rfl⟩
    · show jb_J _ RX12 cX12_lead 5 (Option.some .int) false 2 0 0 29 [some (.ref 105), x1, some (.int 0), some (.int (nI s)), some (.int (nI n))] [] [s0, s1, s2, s3, s4, s5, s6, s7, s8, s9, jb_mdl I J d e kp nm W, s11] _
      refine jb_aload_n (pc' := 30) dX12_lead_29 rfl rfl ?_
      refine jb_iload_n (pc' := 31) dX12_lead_30 rfl rfl ?_
      refine jb_iconst (pc' := 32) 4 dX12_lead_31 (by decide) rfl ?_
      refine jb_callV (pc' := 35) (ci := 12) (q := 105) (As := [.int (nI s), .int 4]) (a2 := 0) (b2 := 0) wv_X12_182 rfl dX12_lead_32 (c_ofIt4 I J d e kp nm W hd0 hk0 s (by omega)) rfl rfl ⟨by decide, Nat.le_of_eq (Nat.zero_add _), Nat.le_of_eq (Nat.zero_add _)⟩ (Nat.le_of_ble_eq_true rfl) rfl (fun r h9 hq => ?_)
      obtain ⟨rfl, rfl⟩ := hq
      show jb_J _ RX12 cX12_lead 5 (Option.some .int) false 2 0 0 35 [some (.ref 105), x1, some (.int 0), some (.int (nI s)), some (.int (nI n))] [.int (nI (V 8 s) - 1)] [s0, s1, s2, s3, s4, s5, s6, s7, s8, s9, jb_mdl I J d e kp nm W, s11] _
      refine jb_top (v := .int (nI (V 8 s) - 1)) (w := .int (nI (V 8 s - 1))) (jb_vI (pk_sub (a := V 8 s) (b := 1) (by omega))) ?_
      refine jb_if_lt (tgt := 51) (pc' := 38) dX12_lead_35 (by decide) rfl (fun z => absurd z (nI_pos (n := (V 8 s - 1)) (by omega))) (fun _ => ?_)
      refine jb_aload_n (pc' := 39) dX12_lead_38 rfl rfl ?_
      refine jb_iload_n (pc' := 40) dX12_lead_39 rfl rfl ?_
      refine jb_iconst (pc' := 41) 4 dX12_lead_40 (by decide) rfl ?_
      refine jb_callV (pc' := 44) (ci := 12) (q := 105) (As := [.int (nI s), .int 4]) (a2 := 0) (b2 := 0) wv_X12_182 rfl dX12_lead_41 (c_ofIt4 I J d e kp nm W hd0 hk0 s (by omega)) rfl rfl ⟨by decide, Nat.le_of_eq (Nat.zero_add _), Nat.le_of_eq (Nat.zero_add _)⟩ (Nat.le_of_ble_eq_true rfl) rfl (fun r h9 hq => ?_)
      obtain ⟨rfl, rfl⟩ := hq
      show jb_J _ RX12 cX12_lead 5 (Option.some .int) false 2 0 0 44 [some (.ref 105), x1, some (.int 0), some (.int (nI s)), some (.int (nI n))] [.int (nI (V 8 s) - 1)] [s0, s1, s2, s3, s4, s5, s6, s7, s8, s9, jb_mdl I J d e kp nm W, s11] _
      refine jb_top (v := .int (nI (V 8 s) - 1)) (w := .int (nI (V 8 s - 1))) (jb_vI (pk_sub (a := V 8 s) (b := 1) (by omega))) ?_
      refine jb_istore_n_ (pc' := 45) dX12_lead_44 (by decide) (jb_at3 rfl) rfl ?_
      refine jb_iinc_ (pc' := 48) (nI (n + 1)) dX12_lead_45 (by decide) rfl (jb_inc n 1) (jb_at4 rfl) rfl ?_
      refine jb_goto (pc' := 29) dX12_lead_48 (by decide) ?_
      have e9 : jm_ld V (k + 1) s n = jm_ld V k (V 8 s - 1) (n + 1) := if_neg h0
      rw [e9]
      exact ih (V 8 s - 1) (n + 1) (by omega) (by omega)
set_option maxRecDepth 100000 in
set_option maxHeartbeats 4000000 in
theorem mx_lead0 {sc : Nat × (Nat → Int32)} {s0 s1 s2 s3 s4 s5 s6 s7 s8 s9 s11 : List va_E} {V : Nat → Nat → Nat} (I J d e kp nm : Nat → Int32) (W : Nat → Nat → Int32) (hd : jd_ V d) (hk : jv_ok V) (s : Nat) (hs : s < V 0 2) : jb_C sc yX12_lead cX12_lead 5 (Option.some .int) 2 0 0 [.ref 105, .int (nI s), .int 0] [s0, s1, s2, s3, s4, s5, s6, s7, s8, s9, jb_mdl I J d e kp nm W, s11] (fun r h9 => r = some (.int (nI (jm_ld V (V 0 2) s 1).1)) ∧ h9 = [s0, s1, s2, s3, s4, s5, s6, s7, s8, s9, jb_mdl I J d e kp nm W, s11]) := by
  refine jb_CofJ (ini := false) (by decide +kernel) (fun h => by cases h) (Nat.le_of_ble_eq_true rfl) ?_
  show jb_J sc RX12 cX12_lead 5 (Option.some .int) false 2 0 0 0 [some (.ref 105), some (.int (nI s)), some (.int 0), none, none] [] [s0, s1, s2, s3, s4, s5, s6, s7, s8, s9, jb_mdl I J d e kp nm W, s11] _
  have hd0 := hd
  have hk0 := hk
  obtain ⟨e0, e1, e2, e3, e4, e5, e6, dv, ds, dd⟩ := hd
  obtain ⟨k0, k1, k2, k3, k4, k5, k6, k7, kv, ks, kd⟩ := hk
  refine jb_aload_n (pc' := 1) dX12_lead_0 rfl rfl ?_
  refine jb_iload_n (pc' := 2) dX12_lead_1 rfl rfl ?_
  refine jb_callV (pc' := 5) (ci := 12) (q := 105) (As := [.int (nI s)]) (a2 := 0) (b2 := 0) wv_X12_177 rfl dX12_lead_2 (c_isShoutG I J d e kp nm W hd0 hk0 s (by omega)) rfl rfl ⟨by decide, Nat.le_of_eq (Nat.zero_add _), Nat.le_of_eq (Nat.zero_add _)⟩ (Nat.le_of_ble_eq_true rfl) rfl (fun r h9 hq => ?_)
  obtain ⟨rfl, rfl⟩ := hq
  show jb_J _ RX12 cX12_lead 5 (Option.some .int) false 2 0 0 5 [some (.ref 105), some (.int (nI s)), some (.int 0), none, none] [.int 1] [s0, s1, s2, s3, s4, s5, s6, s7, s8, s9, jb_mdl I J d e kp nm W, s11] _
  refine jb_if_eq (tgt := 18) (pc' := 8) dX12_lead_5 (by decide) rfl (fun z => absurd z (by decide)) (fun _ => ?_)
  refine jb_iload_n (pc' := 9) dX12_lead_8 rfl rfl ?_
  refine jb_i2l (pc' := 10) dX12_lead_9 rfl ?_
  refine jb_lconst (pc' := 11) 0 dX12_lead_10 (by decide) rfl ?_
  refine jb_lconst (pc' := 12) 1 dX12_lead_11 (by decide) rfl ?_
  refine jb_callS (pc' := 15) (As := [.long ((0 : Int32).toInt64), .long 0, .long 1]) (a2 := 0) (b2 := 0) wv_X12_56 dX12_lead_12 (c_inLG _ 0 0 1 (by omega) (by omega) (by omega)) rfl ⟨by decide, Nat.le_of_eq (Nat.zero_add _), Nat.le_of_eq (Nat.zero_add _)⟩ (Nat.le_of_ble_eq_true rfl) rfl (fun r h9 hq => ?_)
  obtain ⟨rfl, rfl⟩ := hq
  show jb_J _ RX12 cX12_lead 5 (Option.some .int) false 2 0 0 15 [some (.ref 105), some (.int (nI s)), some (.int 0), none, none] [.int 1] [s0, s1, s2, s3, s4, s5, s6, s7, s8, s9, jb_mdl I J d e kp nm W, s11] _
  refine jb_if_ne (tgt := 24) (pc' := 18) dX12_lead_15 (by decide) rfl (fun _ => ?_) (fun z => absurd z (by decide))
  refine jb_iload_n (pc' := 25) dX12_lead_24 rfl rfl ?_
  refine jb_istore_n_ (pc' := 26) dX12_lead_25 (by decide) (jb_at3 rfl) rfl ?_
  refine jb_iconst (pc' := 27) 1 dX12_lead_26 (by decide) rfl ?_
  refine jb_istore_ (pc' := 29) dX12_lead_27 (by decide) (jb_at4 rfl) rfl ?_
  exact l_leadm0 I J d e kp nm W hd0 hk0 _ (V 0 2) s 1 hs (Nat.le_refl _)
set_option maxRecDepth 100000 in
set_option maxHeartbeats 4000000 in
theorem l_leadm1 {sc : Nat × (Nat → Int32)} {s0 s1 s2 s3 s4 s5 s6 s7 s8 s9 s11 : List va_E} {V : Nat → Nat → Nat} (I J d e kp nm : Nat → Int32) (W : Nat → Nat → Int32) (hd : jd_ V d) (hk : jv_ok V) (x1 : Option Value) : ∀ (k s n : Nat), s < k → k ≤ V 0 2 → jb_J sc RX12 cX12_lead 5 (Option.some .int) false 2 0 0 29 [some (.ref 105), x1, some (.int 1), some (.int (nI s)), some (.int (nI n))] [] [s0, s1, s2, s3, s4, s5, s6, s7, s8, s9, jb_mdl I J d e kp nm W, s11] (fun r h9 => r = some (.int (nI (jm_ld V k s n).2)) ∧ h9 = [s0, s1, s2, s3, s4, s5, s6, s7, s8, s9, jb_mdl I J d e kp nm W, s11]) := by
  have hd0 := hd
  have hk0 := hk
  obtain ⟨e0, e1, e2, e3, e4, e5, e6, dv, ds, dd⟩ := hd
  obtain ⟨k0, k1, k2, k3, k4, k5, k6, k7, kv, ks, kd⟩ := hk
  intro k
  induction k with
  | zero => intro s n hs; omega
  | succ k ih =>
    intro s n hs hk9
    have q1 := ks s (by omega)
    by_cases h0 : V 8 s = 0
    · show jb_J _ RX12 cX12_lead 5 (Option.some .int) false 2 0 0 29 [some (.ref 105), x1, some (.int 1), some (.int (nI s)), some (.int (nI n))] [] [s0, s1, s2, s3, s4, s5, s6, s7, s8, s9, jb_mdl I J d e kp nm W, s11] _
      refine jb_aload_n (pc' := 30) dX12_lead_29 rfl rfl ?_
      refine jb_iload_n (pc' := 31) dX12_lead_30 rfl rfl ?_
      refine jb_iconst (pc' := 32) 4 dX12_lead_31 (by decide) rfl ?_
      refine jb_callV (pc' := 35) (ci := 12) (q := 105) (As := [.int (nI s), .int 4]) (a2 := 0) (b2 := 0) wv_X12_182 rfl dX12_lead_32 (c_ofIt4 I J d e kp nm W hd0 hk0 s (by omega)) rfl rfl ⟨by decide, Nat.le_of_eq (Nat.zero_add _), Nat.le_of_eq (Nat.zero_add _)⟩ (Nat.le_of_ble_eq_true rfl) rfl (fun r h9 hq => ?_)
      obtain ⟨rfl, rfl⟩ := hq
      show jb_J _ RX12 cX12_lead 5 (Option.some .int) false 2 0 0 35 [some (.ref 105), x1, some (.int 1), some (.int (nI s)), some (.int (nI n))] [.int (nI (V 8 s) - 1)] [s0, s1, s2, s3, s4, s5, s6, s7, s8, s9, jb_mdl I J d e kp nm W, s11] _
      refine jb_if_lt (tgt := 51) (pc' := 38) dX12_lead_35 (by decide) rfl (fun _ => ?_) (fun z => absurd (by rw [h0]; decide) z)
      refine jb_iload_n (pc' := 52) dX12_lead_51 rfl rfl ?_
      refine jb_if_ne (tgt := 59) (pc' := 55) dX12_lead_52 (by decide) rfl (fun _ => ?_) (fun z => absurd z (by decide))
      refine jb_iload (pc' := 61) dX12_lead_59 rfl rfl ?_
      refine jb_iret dX12_lead_61 rfl ?_
      have e9 : jm_ld V (k + 1) s n = (s, n) := if_pos h0
      rw [e9]
      exact ⟨rfl, rfl⟩
    · show jb_J _ RX12 cX12_lead 5 (Option.some .int) false 2 0 0 29 [some (.ref 105), x1, some (.int 1), some (.int (nI s)), some (.int (nI n))] [] [s0, s1, s2, s3, s4, s5, s6, s7, s8, s9, jb_mdl I J d e kp nm W, s11] _
      refine jb_aload_n (pc' := 30) dX12_lead_29 rfl rfl ?_
      refine jb_iload_n (pc' := 31) dX12_lead_30 rfl rfl ?_
      refine jb_iconst (pc' := 32) 4 dX12_lead_31 (by decide) rfl ?_
      refine jb_callV (pc' := 35) (ci := 12) (q := 105) (As := [.int (nI s), .int 4]) (a2 := 0) (b2 := 0) wv_X12_182 rfl dX12_lead_32 (c_ofIt4 I J d e kp nm W hd0 hk0 s (by omega)) rfl rfl ⟨by decide, Nat.le_of_eq (Nat.zero_add _), Nat.le_of_eq (Nat.zero_add _)⟩ (Nat.le_of_ble_eq_true rfl) rfl (fun r h9 hq => ?_)
      obtain ⟨rfl, rfl⟩ := hq
      show jb_J _ RX12 cX12_lead 5 (Option.some .int) false 2 0 0 35 [some (.ref 105), x1, some (.int 1), some (.int (nI s)), some (.int (nI n))] [.int (nI (V 8 s) - 1)] [s0, s1, s2, s3, s4, s5, s6, s7, s8, s9, jb_mdl I J d e kp nm W, s11] _
      refine jb_top (v := .int (nI (V 8 s) - 1)) (w := .int (nI (V 8 s - 1))) (jb_vI (pk_sub (a := V 8 s) (b := 1) (by omega))) ?_
      refine jb_if_lt (tgt := 51) (pc' := 38) dX12_lead_35 (by decide) rfl (fun z => absurd z (nI_pos (n := (V 8 s - 1)) (by omega))) (fun _ => ?_)
      refine jb_aload_n (pc' := 39) dX12_lead_38 rfl rfl ?_
      refine jb_iload_n (pc' := 40) dX12_lead_39 rfl rfl ?_
      refine jb_iconst (pc' := 41) 4 dX12_lead_40 (by decide) rfl ?_
      refine jb_callV (pc' := 44) (ci := 12) (q := 105) (As := [.int (nI s), .int 4]) (a2 := 0) (b2 := 0) wv_X12_182 rfl dX12_lead_41 (c_ofIt4 I J d e kp nm W hd0 hk0 s (by omega)) rfl rfl ⟨by decide, Nat.le_of_eq (Nat.zero_add _), Nat.le_of_eq (Nat.zero_add _)⟩ (Nat.le_of_ble_eq_true rfl) rfl (fun r h9 hq => ?_)
      obtain ⟨rfl, rfl⟩ := hq
      show jb_J _ RX12 cX12_lead 5 (Option.some .int) false 2 0 0 44 [some (.ref 105), x1, some (.int 1), some (.int (nI s)), some (.int (nI n))] [.int (nI (V 8 s) - 1)] [s0, s1, s2, s3, s4, s5, s6, s7, s8, s9, jb_mdl I J d e kp nm W, s11] _
      refine jb_top (v := .int (nI (V 8 s) - 1)) (w := .int (nI (V 8 s - 1))) (jb_vI (pk_sub (a := V 8 s) (b := 1) (by omega))) ?_
      refine jb_istore_n_ (pc' := 45) dX12_lead_44 (by decide) (jb_at3 rfl) rfl ?_
      refine jb_iinc_ (pc' := 48) (nI (n + 1)) dX12_lead_45 (by decide) rfl (jb_inc n 1) (jb_at4 rfl) rfl ?_
      refine jb_goto (pc' := 29) dX12_lead_48 (by decide) ?_
      have e9 : jm_ld V (k + 1) s n = jm_ld V k (V 8 s - 1) (n + 1) := if_neg h0
      rw [e9]
      exact ih (V 8 s - 1) (n + 1) (by omega) (by omega)
set_option maxRecDepth 100000 in
set_option maxHeartbeats 4000000 in
theorem mx_lead1 {sc : Nat × (Nat → Int32)} {s0 s1 s2 s3 s4 s5 s6 s7 s8 s9 s11 : List va_E} {V : Nat → Nat → Nat} (I J d e kp nm : Nat → Int32) (W : Nat → Nat → Int32) (hd : jd_ V d) (hk : jv_ok V) (s : Nat) (hs : s < V 0 2) : jb_C sc yX12_lead cX12_lead 5 (Option.some .int) 2 0 0 [.ref 105, .int (nI s), .int 1] [s0, s1, s2, s3, s4, s5, s6, s7, s8, s9, jb_mdl I J d e kp nm W, s11] (fun r h9 => r = some (.int (nI (jm_ld V (V 0 2) s 1).2)) ∧ h9 = [s0, s1, s2, s3, s4, s5, s6, s7, s8, s9, jb_mdl I J d e kp nm W, s11]) := by
  refine jb_CofJ (ini := false) (by decide +kernel) (fun h => by cases h) (Nat.le_of_ble_eq_true rfl) ?_
  show jb_J sc RX12 cX12_lead 5 (Option.some .int) false 2 0 0 0 [some (.ref 105), some (.int (nI s)), some (.int 1), none, none] [] [s0, s1, s2, s3, s4, s5, s6, s7, s8, s9, jb_mdl I J d e kp nm W, s11] _
  have hd0 := hd
  have hk0 := hk
  obtain ⟨e0, e1, e2, e3, e4, e5, e6, dv, ds, dd⟩ := hd
  obtain ⟨k0, k1, k2, k3, k4, k5, k6, k7, kv, ks, kd⟩ := hk
  refine jb_aload_n (pc' := 1) dX12_lead_0 rfl rfl ?_
  refine jb_iload_n (pc' := 2) dX12_lead_1 rfl rfl ?_
  refine jb_callV (pc' := 5) (ci := 12) (q := 105) (As := [.int (nI s)]) (a2 := 0) (b2 := 0) wv_X12_177 rfl dX12_lead_2 (c_isShoutG I J d e kp nm W hd0 hk0 s (by omega)) rfl rfl ⟨by decide, Nat.le_of_eq (Nat.zero_add _), Nat.le_of_eq (Nat.zero_add _)⟩ (Nat.le_of_ble_eq_true rfl) rfl (fun r h9 hq => ?_)
  obtain ⟨rfl, rfl⟩ := hq
  show jb_J _ RX12 cX12_lead 5 (Option.some .int) false 2 0 0 5 [some (.ref 105), some (.int (nI s)), some (.int 1), none, none] [.int 1] [s0, s1, s2, s3, s4, s5, s6, s7, s8, s9, jb_mdl I J d e kp nm W, s11] _
  refine jb_if_eq (tgt := 18) (pc' := 8) dX12_lead_5 (by decide) rfl (fun z => absurd z (by decide)) (fun _ => ?_)
  refine jb_iload_n (pc' := 9) dX12_lead_8 rfl rfl ?_
  refine jb_i2l (pc' := 10) dX12_lead_9 rfl ?_
  refine jb_lconst (pc' := 11) 0 dX12_lead_10 (by decide) rfl ?_
  refine jb_lconst (pc' := 12) 1 dX12_lead_11 (by decide) rfl ?_
  refine jb_callS (pc' := 15) (As := [.long ((1 : Int32).toInt64), .long 0, .long 1]) (a2 := 0) (b2 := 0) wv_X12_56 dX12_lead_12 (c_inLG _ 1 0 1 (by omega) (by omega) (by omega)) rfl ⟨by decide, Nat.le_of_eq (Nat.zero_add _), Nat.le_of_eq (Nat.zero_add _)⟩ (Nat.le_of_ble_eq_true rfl) rfl (fun r h9 hq => ?_)
  obtain ⟨rfl, rfl⟩ := hq
  show jb_J _ RX12 cX12_lead 5 (Option.some .int) false 2 0 0 15 [some (.ref 105), some (.int (nI s)), some (.int 1), none, none] [.int 1] [s0, s1, s2, s3, s4, s5, s6, s7, s8, s9, jb_mdl I J d e kp nm W, s11] _
  refine jb_if_ne (tgt := 24) (pc' := 18) dX12_lead_15 (by decide) rfl (fun _ => ?_) (fun z => absurd z (by decide))
  refine jb_iload_n (pc' := 25) dX12_lead_24 rfl rfl ?_
  refine jb_istore_n_ (pc' := 26) dX12_lead_25 (by decide) (jb_at3 rfl) rfl ?_
  refine jb_iconst (pc' := 27) 1 dX12_lead_26 (by decide) rfl ?_
  refine jb_istore_ (pc' := 29) dX12_lead_27 (by decide) (jb_at4 rfl) rfl ?_
  exact l_leadm1 I J d e kp nm W hd0 hk0 _ (V 0 2) s 1 hs (Nat.le_refl _)
set_option maxRecDepth 100000 in
set_option maxHeartbeats 4000000 in
theorem mx_forget {sc : Nat × (Nat → Int32)} {s0 s1 s2 s3 s4 s5 s6 s7 s8 s9 s11 : List va_E} {V : Nat → Nat → Nat} (I J d e kp nm : Nat → Int32) (W : Nat → Nat → Int32) (hd : jd_ V d) (hk : jv_ok V)  : jb_C sc yX12_forget cX12_forget 2 (Option.some .int) 0 0 0 [.ref 105] [s0, s1, s2, s3, s4, s5, s6, s7, s8, s9, jb_mdl I J d e kp nm W, s11] (fun r h9 => r = some (.int (nI (V 0 2))) ∧ ∃ d9, jd_ (jm_fo V) d9 ∧ d9 7 = d 7 ∧ jd_f d d9 ∧ h9 = [s0, s1, s2, s3, s4, s5, s6, s7, s8, s9, jb_mdl I J d9 e kp nm W, s11]) := by
  refine jb_CofJ (ini := false) (by decide +kernel) (fun h => by cases h) (Nat.le_of_ble_eq_true rfl) ?_
  show jb_J sc RX12 cX12_forget 2 (Option.some .int) false 0 0 0 0 [some (.ref 105), none] [] [s0, s1, s2, s3, s4, s5, s6, s7, s8, s9, jb_mdl I J d e kp nm W, s11] _
  have hd0 := hd
  have hk0 := hk
  obtain ⟨e0, e1, e2, e3, e4, e5, e6, dv, ds, dd⟩ := hd
  obtain ⟨k0, k1, k2, k3, k4, k5, k6, k7, kv, ks, kd⟩ := hk
  refine jb_aload_n (pc' := 1) dX12_forget_0 rfl rfl ?_
  refine gf_X12_7 (pc' := 4) (v := .ref 106) dX12_forget_1 rfl rfl rfl ?_
  refine jb_iconst (pc' := 5) 5 dX12_forget_4 (by decide) rfl ?_
  refine jb_iaload (pc' := 6) (i9 := 5) (f := d) dX12_forget_5 rfl jb_x5 (by decide) rfl ?_
  refine jb_top (v := .int (d 5)) (w := .int (nI (V 0 2))) (jb_vI e5) ?_
  refine jb_istore_n_ (pc' := 7) dX12_forget_6 (by decide) (jb_at1 rfl) rfl ?_
  refine jb_aload_n (pc' := 8) dX12_forget_7 rfl rfl ?_
  refine gf_X12_7 (pc' := 11) (v := .ref 106) dX12_forget_8 rfl rfl rfl ?_
  refine jb_iconst (pc' := 12) 5 dX12_forget_11 (by decide) rfl ?_
  refine jb_iconst (pc' := 13) 0 dX12_forget_12 (by decide) rfl ?_
  refine jb_iastore (pc' := 14) (i9 := 5) (f := d) (h' := [s0, s1, s2, s3, s4, s5, s6, s7, s8, s9, jb_mdl I J (upd d 5 0) e kp nm W, s11]) dX12_forget_13 rfl jb_x5 (by decide) rfl rfl ?_
  refine jb_aload_n (pc' := 15) dX12_forget_14 rfl rfl ?_
  refine gf_X12_7 (pc' := 18) (v := .ref 106) dX12_forget_15 rfl rfl rfl ?_
  refine jb_bipush (pc' := 20) 6 dX12_forget_18 (by decide) rfl ?_
  refine jb_iconst (pc' := 21) 0 dX12_forget_20 (by decide) rfl ?_
  refine jb_iastore (pc' := 22) (i9 := 6) (f := (upd d 5 0)) (h' := [s0, s1, s2, s3, s4, s5, s6, s7, s8, s9, jb_mdl I J (upd (upd d 5 0) 6 0) e kp nm W, s11]) dX12_forget_21 rfl jb_x6 (by decide) rfl rfl ?_
  refine jb_iload_n (pc' := 23) dX12_forget_22 rfl rfl ?_
  refine jb_iret dX12_forget_23 rfl ?_
  exact ⟨rfl, (upd (upd d 5 0) 6 0), jd_fo hd0, by rw [jb_une (by omega), jb_une (by omega)], ⟨by rw [jb_une (by omega), jb_une (by omega)], by rw [jb_une (by omega), jb_une (by omega)], fun k hk => by rw [jb_une (by omega), jb_une (by omega)]⟩, rfl⟩
set_option maxRecDepth 100000 in
set_option maxHeartbeats 4000000 in
theorem mx_seed {sc : Nat × (Nat → Int32)} {s0 s1 s2 s3 s4 s5 s6 s7 s8 s9 s11 : List va_E} {V : Nat → Nat → Nat} (I J d e kp nm : Nat → Int32) (W : Nat → Nat → Int32) (hd : jd_ V d) (hk : jv_ok V) (v : Int32) : jb_C sc yX12_seed cX12_seed 3 (Option.some .int) 0 0 0 [.ref 105, .int v] [s0, s1, s2, s3, s4, s5, s6, s7, s8, s9, jb_mdl I J d e kp nm W, s11] (fun r h9 => r = some (.int (d 7)) ∧ h9 = [s0, s1, s2, s3, s4, s5, s6, s7, s8, s9, jb_mdl I J (upd d 7 v) e kp nm W, s11]) := by
  refine jb_CofJ (ini := false) (by decide +kernel) (fun h => by cases h) (Nat.le_of_ble_eq_true rfl) ?_
  show jb_J sc RX12 cX12_seed 3 (Option.some .int) false 0 0 0 0 [some (.ref 105), some (.int v), none] [] [s0, s1, s2, s3, s4, s5, s6, s7, s8, s9, jb_mdl I J d e kp nm W, s11] _
  have hd0 := hd
  have hk0 := hk
  obtain ⟨e0, e1, e2, e3, e4, e5, e6, dv, ds, dd⟩ := hd
  obtain ⟨k0, k1, k2, k3, k4, k5, k6, k7, kv, ks, kd⟩ := hk
  refine jb_aload_n (pc' := 1) dX12_seed_0 rfl rfl ?_
  refine gf_X12_7 (pc' := 4) (v := .ref 106) dX12_seed_1 rfl rfl rfl ?_
  refine jb_bipush (pc' := 6) 7 dX12_seed_4 (by decide) rfl ?_
  refine jb_iaload (pc' := 7) (i9 := 7) (f := d) dX12_seed_6 rfl jb_x7 (by decide) rfl ?_
  refine jb_istore_n_ (pc' := 8) dX12_seed_7 (by decide) (jb_at2 rfl) rfl ?_
  refine jb_aload_n (pc' := 9) dX12_seed_8 rfl rfl ?_
  refine gf_X12_7 (pc' := 12) (v := .ref 106) dX12_seed_9 rfl rfl rfl ?_
  refine jb_bipush (pc' := 14) 7 dX12_seed_12 (by decide) rfl ?_
  refine jb_iload_n (pc' := 15) dX12_seed_14 rfl rfl ?_
  refine jb_iastore (pc' := 16) (i9 := 7) (f := d) (h' := [s0, s1, s2, s3, s4, s5, s6, s7, s8, s9, jb_mdl I J (upd d 7 v) e kp nm W, s11]) dX12_seed_15 rfl jb_x7 (by decide) rfl rfl ?_
  refine jb_iload_n (pc' := 17) dX12_seed_16 rfl rfl ?_
  refine jb_iret dX12_seed_17 rfl ?_
  exact ⟨rfl, rfl⟩
set_option maxRecDepth 100000 in
set_option maxHeartbeats 4000000 in
theorem mx_law0 {sc : Nat × (Nat → Int32)} {s0 s1 s2 s3 s4 s5 s6 s7 s8 s9 s11 : List va_E} {V : Nat → Nat → Nat} (I J d e kp nm : Nat → Int32) (W : Nat → Nat → Int32) (hd : jd_ V d) (hk : jv_ok V) (a b c f : Int32) {G : jm_G} (hG : jm_Gok G) {d0 : Nat → Int32} (hg : jGm sc d0 G) (hag : ∀ k, 316 ≤ k → d k = d0 k) : jb_C sc yX12_law cX12_law 6 (Option.some .int) 46 0 0 [.ref 105, .int 0, .int a, .int b, .int c, .int f] [s0, s1, s2, s3, s4, s5, s6, s7, s8, s9, jb_mdl I J d e kp nm W, s11] (fun r h9 => r = some (.int (G 0 a b c f)) ∧ ∃ J9 nm9, h9 = [s0, s1, s2, s3, s4, s5, s6, s7, s8, s9, jb_mdl I J9 d e kp nm9 W, s11]) := by
  refine jb_CofJ (ini := false) (by decide +kernel) (fun h => by cases h) (Nat.le_of_ble_eq_true rfl) ?_
  show jb_J sc RX12 cX12_law 6 (Option.some .int) false 46 0 0 0 [some (.ref 105), some (.int 0), some (.int a), some (.int b), some (.int c), some (.int f)] [] [s0, s1, s2, s3, s4, s5, s6, s7, s8, s9, jb_mdl I J d e kp nm W, s11] _
  have hd0 := hd
  have hk0 := hk
  obtain ⟨e0, e1, e2, e3, e4, e5, e6, dv, ds, dd⟩ := hd
  obtain ⟨k0, k1, k2, k3, k4, k5, k6, k7, kv, ks, kd⟩ := hk
  refine jb_iload_n (pc' := 1) dX12_law_0 rfl rfl ?_
  refine jb_i2l (pc' := 2) dX12_law_1 rfl ?_
  refine jb_lconst (pc' := 3) 0 dX12_law_2 (by decide) rfl ?_
  refine jb_lconst (pc' := 4) 1 dX12_law_3 (by decide) rfl ?_
  refine jb_callS (pc' := 7) (As := [.long ((0 : Int32).toInt64), .long 0, .long 1]) (a2 := 0) (b2 := 0) wv_X12_56 dX12_law_4 (c_inLG _ 0 0 1 (by omega) (by omega) (by omega)) rfl ⟨by decide, Nat.le_of_eq (Nat.zero_add _), Nat.le_of_eq (Nat.zero_add _)⟩ (Nat.le_of_ble_eq_true rfl) rfl (fun r h9 hq => ?_)
  obtain ⟨rfl, rfl⟩ := hq
  show jb_J _ RX12 cX12_law 6 (Option.some .int) false 46 0 0 7 [some (.ref 105), some (.int 0), some (.int a), some (.int b), some (.int c), some (.int f)] [.int 1] [s0, s1, s2, s3, s4, s5, s6, s7, s8, s9, jb_mdl I J d e kp nm W, s11] _
  refine jb_if_eq (tgt := 24) (pc' := 10) dX12_law_7 (by decide) rfl (fun z => absurd z (by decide)) (fun _ => ?_)
  refine jb_aload_n (pc' := 11) dX12_law_10 rfl rfl ?_
  refine jb_iload_n (pc' := 12) dX12_law_11 rfl rfl ?_
  refine jb_iload_n (pc' := 13) dX12_law_12 rfl rfl ?_
  refine jb_iload_n (pc' := 14) dX12_law_13 rfl rfl ?_
  refine jb_iload (pc' := 16) dX12_law_14 rfl rfl ?_
  refine jb_iload (pc' := 18) dX12_law_16 rfl rfl ?_
  refine jb_callV (pc' := 21) (ci := 12) (q := 105) (As := [.int 0, .int a, .int b, .int c, .int f]) (a2 := 0) (b2 := 0) wv_X12_133 rfl dX12_law_18 (hg _ _ _ _ _ _ _ _ _ _ _ I J d e kp nm W 0 a b c f (by decide) hag) rfl rfl ⟨by decide, Nat.le_of_eq (Nat.zero_add _), Nat.le_of_eq (Nat.zero_add _)⟩ (Nat.le_of_ble_eq_true rfl) rfl (fun r h9 hq => ?_)
  obtain ⟨rfl, J9, nm9, rfl⟩ := hq
  show jb_J _ RX12 cX12_law 6 (Option.some .int) false 46 0 0 21 [some (.ref 105), some (.int 0), some (.int a), some (.int b), some (.int c), some (.int f)] [.int (G 0 a b c f)] [s0, s1, s2, s3, s4, s5, s6, s7, s8, s9, jb_mdl I J9 d e kp nm9 W, s11] _
  refine jb_goto (pc' := 29) dX12_law_21 (by decide) ?_
  refine jb_iret dX12_law_29 rfl ?_
  exact ⟨rfl, _, _, rfl⟩
set_option maxRecDepth 100000 in
set_option maxHeartbeats 4000000 in
theorem mx_law1 {sc : Nat × (Nat → Int32)} {s0 s1 s2 s3 s4 s5 s6 s7 s8 s9 s11 : List va_E} {V : Nat → Nat → Nat} (I J d e kp nm : Nat → Int32) (W : Nat → Nat → Int32) (hd : jd_ V d) (hk : jv_ok V) (a b c f : Int32) {G : jm_G} (hG : jm_Gok G) {d0 : Nat → Int32} (hg : jGm sc d0 G) (hag : ∀ k, 316 ≤ k → d k = d0 k) : jb_C sc yX12_law cX12_law 6 (Option.some .int) 46 0 0 [.ref 105, .int 1, .int a, .int b, .int c, .int f] [s0, s1, s2, s3, s4, s5, s6, s7, s8, s9, jb_mdl I J d e kp nm W, s11] (fun r h9 => r = some (.int (G 1 a b c f)) ∧ ∃ J9 nm9, h9 = [s0, s1, s2, s3, s4, s5, s6, s7, s8, s9, jb_mdl I J9 d e kp nm9 W, s11]) := by
  refine jb_CofJ (ini := false) (by decide +kernel) (fun h => by cases h) (Nat.le_of_ble_eq_true rfl) ?_
  show jb_J sc RX12 cX12_law 6 (Option.some .int) false 46 0 0 0 [some (.ref 105), some (.int 1), some (.int a), some (.int b), some (.int c), some (.int f)] [] [s0, s1, s2, s3, s4, s5, s6, s7, s8, s9, jb_mdl I J d e kp nm W, s11] _
  have hd0 := hd
  have hk0 := hk
  obtain ⟨e0, e1, e2, e3, e4, e5, e6, dv, ds, dd⟩ := hd
  obtain ⟨k0, k1, k2, k3, k4, k5, k6, k7, kv, ks, kd⟩ := hk
  refine jb_iload_n (pc' := 1) dX12_law_0 rfl rfl ?_
  refine jb_i2l (pc' := 2) dX12_law_1 rfl ?_
  refine jb_lconst (pc' := 3) 0 dX12_law_2 (by decide) rfl ?_
  refine jb_lconst (pc' := 4) 1 dX12_law_3 (by decide) rfl ?_
  refine jb_callS (pc' := 7) (As := [.long ((1 : Int32).toInt64), .long 0, .long 1]) (a2 := 0) (b2 := 0) wv_X12_56 dX12_law_4 (c_inLG _ 1 0 1 (by omega) (by omega) (by omega)) rfl ⟨by decide, Nat.le_of_eq (Nat.zero_add _), Nat.le_of_eq (Nat.zero_add _)⟩ (Nat.le_of_ble_eq_true rfl) rfl (fun r h9 hq => ?_)
  obtain ⟨rfl, rfl⟩ := hq
  show jb_J _ RX12 cX12_law 6 (Option.some .int) false 46 0 0 7 [some (.ref 105), some (.int 1), some (.int a), some (.int b), some (.int c), some (.int f)] [.int 1] [s0, s1, s2, s3, s4, s5, s6, s7, s8, s9, jb_mdl I J d e kp nm W, s11] _
  refine jb_if_eq (tgt := 24) (pc' := 10) dX12_law_7 (by decide) rfl (fun z => absurd z (by decide)) (fun _ => ?_)
  refine jb_aload_n (pc' := 11) dX12_law_10 rfl rfl ?_
  refine jb_iload_n (pc' := 12) dX12_law_11 rfl rfl ?_
  refine jb_iload_n (pc' := 13) dX12_law_12 rfl rfl ?_
  refine jb_iload_n (pc' := 14) dX12_law_13 rfl rfl ?_
  refine jb_iload (pc' := 16) dX12_law_14 rfl rfl ?_
  refine jb_iload (pc' := 18) dX12_law_16 rfl rfl ?_
  refine jb_callV (pc' := 21) (ci := 12) (q := 105) (As := [.int 1, .int a, .int b, .int c, .int f]) (a2 := 0) (b2 := 0) wv_X12_133 rfl dX12_law_18 (hg _ _ _ _ _ _ _ _ _ _ _ I J d e kp nm W 1 a b c f (by decide) hag) rfl rfl ⟨by decide, Nat.le_of_eq (Nat.zero_add _), Nat.le_of_eq (Nat.zero_add _)⟩ (Nat.le_of_ble_eq_true rfl) rfl (fun r h9 hq => ?_)
  obtain ⟨rfl, J9, nm9, rfl⟩ := hq
  show jb_J _ RX12 cX12_law 6 (Option.some .int) false 46 0 0 21 [some (.ref 105), some (.int 1), some (.int a), some (.int b), some (.int c), some (.int f)] [.int (G 1 a b c f)] [s0, s1, s2, s3, s4, s5, s6, s7, s8, s9, jb_mdl I J9 d e kp nm9 W, s11] _
  refine jb_goto (pc' := 29) dX12_law_21 (by decide) ?_
  refine jb_iret dX12_law_29 rfl ?_
  exact ⟨rfl, _, _, rfl⟩
set_option maxRecDepth 100000 in
set_option maxHeartbeats 4000000 in
theorem me_law {sc : Nat × (Nat → Int32)} {s0 s1 s2 s3 s4 s5 s6 s7 s8 s9 s11 : List va_E} {V : Nat → Nat → Nat} (I J d e kp nm : Nat → Int32) (W : Nat → Nat → Int32) (hd : jd_ V d) (hk : jv_ok V) (u a b c f : Int32) (hb : ¬ jn_b u 0 2) : jb_C sc yX12_law cX12_law 6 (Option.some .int) 1 0 0 [.ref 105, .int u, .int a, .int b, .int c, .int f] [s0, s1, s2, s3, s4, s5, s6, s7, s8, s9, jb_mdl I J d e kp nm W, s11] (fun r h9 => r = some (.int (jm_er 1)) ∧ h9 = [s0, s1, s2, s3, s4, s5, s6, s7, s8, s9, jb_mdl I J d e kp nm (va_up W 0 (jm_ef (W 0) 1)), s11]) := by
  refine jb_CofJ (ini := false) (by decide +kernel) (fun h => by cases h) (Nat.le_of_ble_eq_true rfl) ?_
  show jb_J sc RX12 cX12_law 6 (Option.some .int) false 1 0 0 0 [some (.ref 105), some (.int u), some (.int a), some (.int b), some (.int c), some (.int f)] [] [s0, s1, s2, s3, s4, s5, s6, s7, s8, s9, jb_mdl I J d e kp nm W, s11] _
  have hd0 := hd
  have hk0 := hk
  obtain ⟨e0, e1, e2, e3, e4, e5, e6, dv, ds, dd⟩ := hd
  obtain ⟨k0, k1, k2, k3, k4, k5, k6, k7, kv, ks, kd⟩ := hk
  refine jb_iload_n (pc' := 1) dX12_law_0 rfl rfl ?_
  refine jb_i2l (pc' := 2) dX12_law_1 rfl ?_
  refine jb_lconst (pc' := 3) 0 dX12_law_2 (by decide) rfl ?_
  refine jb_lconst (pc' := 4) 1 dX12_law_3 (by decide) rfl ?_
  refine jb_callS (pc' := 7) (As := [.long u.toInt64, .long 0, .long 1]) (a2 := 0) (b2 := 0) wv_X12_56 dX12_law_4 (c_inL _ u 0 1 (by omega) (by omega)) rfl ⟨by decide, Nat.le_of_eq (Nat.zero_add _), Nat.le_of_eq (Nat.zero_add _)⟩ (Nat.le_of_ble_eq_true rfl) rfl (fun r h9 hq => ?_)
  rcases hq with ⟨rfl, ⟨o1, rfl⟩ | ⟨o1, rfl⟩⟩
  · show jb_J _ RX12 cX12_law 6 (Option.some .int) false 1 0 0 7 [some (.ref 105), some (.int u), some (.int a), some (.int b), some (.int c), some (.int f)] [.int 1] [s0, s1, s2, s3, s4, s5, s6, s7, s8, s9, jb_mdl I J d e kp nm W, s11] _
    exact absurd (by assumption) hb
  · show jb_J _ RX12 cX12_law 6 (Option.some .int) false 1 0 0 7 [some (.ref 105), some (.int u), some (.int a), some (.int b), some (.int c), some (.int f)] [.int 0] [s0, s1, s2, s3, s4, s5, s6, s7, s8, s9, jb_mdl I J d e kp nm W, s11] _
    refine jb_if_eq (tgt := 24) (pc' := 10) dX12_law_7 (by decide) rfl (fun _ => ?_) (fun z => absurd (by decide) z)
    refine jb_aload_n (pc' := 25) dX12_law_24 rfl rfl ?_
    refine jb_iconst (pc' := 26) 1 dX12_law_25 (by decide) rfl ?_
    refine jb_callV (pc' := 29) (ci := 12) (q := 105) (As := [.int 1]) (a2 := 0) (b2 := 0) wv_X12_121 rfl dX12_law_26 (c_finds I J d e kp nm W 1 (by decide)) rfl rfl ⟨by decide, Nat.le_of_eq (Nat.zero_add _), Nat.le_of_eq (Nat.zero_add _)⟩ (Nat.le_of_ble_eq_true rfl) rfl (fun r h9 hq => ?_)
    obtain ⟨rfl, rfl⟩ := hq
    show jb_J _ RX12 cX12_law 6 (Option.some .int) false 1 0 0 29 [some (.ref 105), some (.int u), some (.int a), some (.int b), some (.int c), some (.int f)] [.int (jm_er 1)] [s0, s1, s2, s3, s4, s5, s6, s7, s8, s9, jb_mdl I J d e kp nm (va_up W 0 (jm_ef (W 0) 1)), s11] _
    refine jb_iret dX12_law_29 rfl ?_
    exact ⟨rfl, rfl⟩
set_option maxRecDepth 100000 in
set_option maxHeartbeats 4000000 in
theorem mx_count0 {sc : Nat × (Nat → Int32)} {s0 s1 s2 s3 s4 s5 s6 s7 s8 s9 s11 : List va_E} {V : Nat → Nat → Nat} (I J d e kp nm : Nat → Int32) (W : Nat → Nat → Int32) (hd : jd_ V d) (hk : jv_ok V)  : jb_C sc yX12_count cX12_count 2 (Option.some .int) 1 0 0 [.ref 105, .int 0] [s0, s1, s2, s3, s4, s5, s6, s7, s8, s9, jb_mdl I J d e kp nm W, s11] (fun r h9 => r = some (.int (nI (V 0 0))) ∧ h9 = [s0, s1, s2, s3, s4, s5, s6, s7, s8, s9, jb_mdl I J d e kp nm W, s11]) := by
  refine jb_CofJ (ini := false) (by decide +kernel) (fun h => by cases h) (Nat.le_of_ble_eq_true rfl) ?_
  show jb_J sc RX12 cX12_count 2 (Option.some .int) false 1 0 0 0 [some (.ref 105), some (.int 0)] [] [s0, s1, s2, s3, s4, s5, s6, s7, s8, s9, jb_mdl I J d e kp nm W, s11] _
  have hd0 := hd
  have hk0 := hk
  obtain ⟨e0, e1, e2, e3, e4, e5, e6, dv, ds, dd⟩ := hd
  obtain ⟨k0, k1, k2, k3, k4, k5, k6, k7, kv, ks, kd⟩ := hk
  refine jb_iload_n (pc' := 1) dX12_count_0 rfl rfl ?_
  refine jb_tableIn (pc' := 56) (off := 55) dX12_count_1 (by decide) (by decide) (by decide +kernel) (by decide) ?_
  refine jb_aload_n (pc' := 57) dX12_count_56 rfl rfl ?_
  refine gf_X12_7 (pc' := 60) (v := .ref 106) dX12_count_57 rfl rfl rfl ?_
  refine jb_iconst (pc' := 61) 3 dX12_count_60 (by decide) rfl ?_
  refine jb_iaload (pc' := 62) (i9 := 3) (f := d) dX12_count_61 rfl jb_x3 (by decide) rfl ?_
  refine jb_top (v := .int (d 3)) (w := .int (nI (V 0 0))) (jb_vI e3) ?_
  refine jb_iret dX12_count_62 rfl ?_
  exact ⟨rfl, rfl⟩
set_option maxRecDepth 100000 in
set_option maxHeartbeats 4000000 in
theorem mx_count1 {sc : Nat × (Nat → Int32)} {s0 s1 s2 s3 s4 s5 s6 s7 s8 s9 s11 : List va_E} {V : Nat → Nat → Nat} (I J d e kp nm : Nat → Int32) (W : Nat → Nat → Int32) (hd : jd_ V d) (hk : jv_ok V)  : jb_C sc yX12_count cX12_count 2 (Option.some .int) 1 0 0 [.ref 105, .int 1] [s0, s1, s2, s3, s4, s5, s6, s7, s8, s9, jb_mdl I J d e kp nm W, s11] (fun r h9 => r = some (.int (nI (V 0 1))) ∧ h9 = [s0, s1, s2, s3, s4, s5, s6, s7, s8, s9, jb_mdl I J d e kp nm W, s11]) := by
  refine jb_CofJ (ini := false) (by decide +kernel) (fun h => by cases h) (Nat.le_of_ble_eq_true rfl) ?_
  show jb_J sc RX12 cX12_count 2 (Option.some .int) false 1 0 0 0 [some (.ref 105), some (.int 1)] [] [s0, s1, s2, s3, s4, s5, s6, s7, s8, s9, jb_mdl I J d e kp nm W, s11] _
  have hd0 := hd
  have hk0 := hk
  obtain ⟨e0, e1, e2, e3, e4, e5, e6, dv, ds, dd⟩ := hd
  obtain ⟨k0, k1, k2, k3, k4, k5, k6, k7, kv, ks, kd⟩ := hk
  refine jb_iload_n (pc' := 1) dX12_count_0 rfl rfl ?_
  refine jb_tableIn (pc' := 63) (off := 62) dX12_count_1 (by decide) (by decide) (by decide +kernel) (by decide) ?_
  refine jb_aload_n (pc' := 64) dX12_count_63 rfl rfl ?_
  refine gf_X12_7 (pc' := 67) (v := .ref 106) dX12_count_64 rfl rfl rfl ?_
  refine jb_iconst (pc' := 68) 4 dX12_count_67 (by decide) rfl ?_
  refine jb_iaload (pc' := 69) (i9 := 4) (f := d) dX12_count_68 rfl jb_x4 (by decide) rfl ?_
  refine jb_top (v := .int (d 4)) (w := .int (nI (V 0 1))) (jb_vI e4) ?_
  refine jb_iret dX12_count_69 rfl ?_
  exact ⟨rfl, rfl⟩
set_option maxRecDepth 100000 in
set_option maxHeartbeats 4000000 in
theorem mx_count2 {sc : Nat × (Nat → Int32)} {s0 s1 s2 s3 s4 s5 s6 s7 s8 s9 s11 : List va_E} {V : Nat → Nat → Nat} (I J d e kp nm : Nat → Int32) (W : Nat → Nat → Int32) (hd : jd_ V d) (hk : jv_ok V)  : jb_C sc yX12_count cX12_count 2 (Option.some .int) 1 0 0 [.ref 105, .int 2] [s0, s1, s2, s3, s4, s5, s6, s7, s8, s9, jb_mdl I J d e kp nm W, s11] (fun r h9 => r = some (.int (nI (V 0 2))) ∧ h9 = [s0, s1, s2, s3, s4, s5, s6, s7, s8, s9, jb_mdl I J d e kp nm W, s11]) := by
  refine jb_CofJ (ini := false) (by decide +kernel) (fun h => by cases h) (Nat.le_of_ble_eq_true rfl) ?_
  show jb_J sc RX12 cX12_count 2 (Option.some .int) false 1 0 0 0 [some (.ref 105), some (.int 2)] [] [s0, s1, s2, s3, s4, s5, s6, s7, s8, s9, jb_mdl I J d e kp nm W, s11] _
  have hd0 := hd
  have hk0 := hk
  obtain ⟨e0, e1, e2, e3, e4, e5, e6, dv, ds, dd⟩ := hd
  obtain ⟨k0, k1, k2, k3, k4, k5, k6, k7, kv, ks, kd⟩ := hk
  refine jb_iload_n (pc' := 1) dX12_count_0 rfl rfl ?_
  refine jb_tableIn (pc' := 70) (off := 69) dX12_count_1 (by decide) (by decide) (by decide +kernel) (by decide) ?_
  refine jb_aload_n (pc' := 71) dX12_count_70 rfl rfl ?_
  refine gf_X12_7 (pc' := 74) (v := .ref 106) dX12_count_71 rfl rfl rfl ?_
  refine jb_iconst (pc' := 75) 5 dX12_count_74 (by decide) rfl ?_
  refine jb_iaload (pc' := 76) (i9 := 5) (f := d) dX12_count_75 rfl jb_x5 (by decide) rfl ?_
  refine jb_top (v := .int (d 5)) (w := .int (nI (V 0 2))) (jb_vI e5) ?_
  refine jb_iret dX12_count_76 rfl ?_
  exact ⟨rfl, rfl⟩
set_option maxRecDepth 100000 in
set_option maxHeartbeats 4000000 in
theorem mx_count3 {sc : Nat × (Nat → Int32)} {s0 s1 s2 s3 s4 s5 s6 s7 s8 s9 s11 : List va_E} {V : Nat → Nat → Nat} (I J d e kp nm : Nat → Int32) (W : Nat → Nat → Int32) (hd : jd_ V d) (hk : jv_ok V)  : jb_C sc yX12_count cX12_count 2 (Option.some .int) 1 0 0 [.ref 105, .int 3] [s0, s1, s2, s3, s4, s5, s6, s7, s8, s9, jb_mdl I J d e kp nm W, s11] (fun r h9 => r = some (.int (nI (V 0 3))) ∧ h9 = [s0, s1, s2, s3, s4, s5, s6, s7, s8, s9, jb_mdl I J d e kp nm W, s11]) := by
  refine jb_CofJ (ini := false) (by decide +kernel) (fun h => by cases h) (Nat.le_of_ble_eq_true rfl) ?_
  show jb_J sc RX12 cX12_count 2 (Option.some .int) false 1 0 0 0 [some (.ref 105), some (.int 3)] [] [s0, s1, s2, s3, s4, s5, s6, s7, s8, s9, jb_mdl I J d e kp nm W, s11] _
  have hd0 := hd
  have hk0 := hk
  obtain ⟨e0, e1, e2, e3, e4, e5, e6, dv, ds, dd⟩ := hd
  obtain ⟨k0, k1, k2, k3, k4, k5, k6, k7, kv, ks, kd⟩ := hk
  refine jb_iload_n (pc' := 1) dX12_count_0 rfl rfl ?_
  refine jb_tableIn (pc' := 77) (off := 76) dX12_count_1 (by decide) (by decide) (by decide +kernel) (by decide) ?_
  refine jb_aload_n (pc' := 78) dX12_count_77 rfl rfl ?_
  refine gf_X12_7 (pc' := 81) (v := .ref 106) dX12_count_78 rfl rfl rfl ?_
  refine jb_bipush (pc' := 83) 6 dX12_count_81 (by decide) rfl ?_
  refine jb_iaload (pc' := 84) (i9 := 6) (f := d) dX12_count_83 rfl jb_x6 (by decide) rfl ?_
  refine jb_top (v := .int (d 6)) (w := .int (nI (V 0 3))) (jb_vI e6) ?_
  refine jb_iret dX12_count_84 rfl ?_
  exact ⟨rfl, rfl⟩
set_option maxRecDepth 100000 in
set_option maxHeartbeats 4000000 in
theorem mx_count4 {sc : Nat × (Nat → Int32)} {s0 s1 s2 s3 s4 s5 s6 s7 s8 s9 s11 : List va_E} {V : Nat → Nat → Nat} (I J d e kp nm : Nat → Int32) (W : Nat → Nat → Int32) (hd : jd_ V d) (hk : jv_ok V)  : jb_C sc yX12_count cX12_count 2 (Option.some .int) 1 0 0 [.ref 105, .int 4] [s0, s1, s2, s3, s4, s5, s6, s7, s8, s9, jb_mdl I J d e kp nm W, s11] (fun r h9 => r = some (.int (nI (V 0 4 + V 0 5))) ∧ h9 = [s0, s1, s2, s3, s4, s5, s6, s7, s8, s9, jb_mdl I J d e kp nm W, s11]) := by
  refine jb_CofJ (ini := false) (by decide +kernel) (fun h => by cases h) (Nat.le_of_ble_eq_true rfl) ?_
  show jb_J sc RX12 cX12_count 2 (Option.some .int) false 1 0 0 0 [some (.ref 105), some (.int 4)] [] [s0, s1, s2, s3, s4, s5, s6, s7, s8, s9, jb_mdl I J d e kp nm W, s11] _
  have hd0 := hd
  have hk0 := hk
  obtain ⟨e0, e1, e2, e3, e4, e5, e6, dv, ds, dd⟩ := hd
  obtain ⟨k0, k1, k2, k3, k4, k5, k6, k7, kv, ks, kd⟩ := hk
  refine jb_iload_n (pc' := 1) dX12_count_0 rfl rfl ?_
  refine jb_tableIn (pc' := 85) (off := 84) dX12_count_1 (by decide) (by decide) (by decide +kernel) (by decide) ?_
  refine jb_aload_n (pc' := 86) dX12_count_85 rfl rfl ?_
  refine jb_callV (pc' := 89) (ci := 12) (q := 105) (As := []) (a2 := 0) (b2 := 0) wv_X12_171 rfl dX12_count_86 (c_gapm I J d e kp nm W hd0 hk0) rfl rfl ⟨by decide, Nat.le_of_eq (Nat.zero_add _), Nat.le_of_eq (Nat.zero_add _)⟩ (Nat.le_of_ble_eq_true rfl) rfl (fun r h9 hq => ?_)
  obtain ⟨rfl, rfl⟩ := hq
  show jb_J _ RX12 cX12_count 2 (Option.some .int) false 1 0 0 89 [some (.ref 105), some (.int 4)] [.int (nI (V 0 4 + V 0 5))] [s0, s1, s2, s3, s4, s5, s6, s7, s8, s9, jb_mdl I J d e kp nm W, s11] _
  refine jb_iret dX12_count_89 rfl ?_
  exact ⟨rfl, rfl⟩
set_option maxRecDepth 100000 in
set_option maxHeartbeats 4000000 in
theorem mx_count5 {sc : Nat × (Nat → Int32)} {s0 s1 s2 s3 s4 s5 s6 s7 s8 s9 s11 : List va_E} {V : Nat → Nat → Nat} (I J d e kp nm : Nat → Int32) (W : Nat → Nat → Int32) (hd : jd_ V d) (hk : jv_ok V)  : jb_C sc yX12_count cX12_count 2 (Option.some .int) 1 0 0 [.ref 105, .int 5] [s0, s1, s2, s3, s4, s5, s6, s7, s8, s9, jb_mdl I J d e kp nm W, s11] (fun r h9 => r = some (.int (nI (V 0 6))) ∧ h9 = [s0, s1, s2, s3, s4, s5, s6, s7, s8, s9, jb_mdl I J d e kp nm W, s11]) := by
  refine jb_CofJ (ini := false) (by decide +kernel) (fun h => by cases h) (Nat.le_of_ble_eq_true rfl) ?_
  show jb_J sc RX12 cX12_count 2 (Option.some .int) false 1 0 0 0 [some (.ref 105), some (.int 5)] [] [s0, s1, s2, s3, s4, s5, s6, s7, s8, s9, jb_mdl I J d e kp nm W, s11] _
  have hd0 := hd
  have hk0 := hk
  obtain ⟨e0, e1, e2, e3, e4, e5, e6, dv, ds, dd⟩ := hd
  obtain ⟨k0, k1, k2, k3, k4, k5, k6, k7, kv, ks, kd⟩ := hk
  refine jb_iload_n (pc' := 1) dX12_count_0 rfl rfl ?_
  refine jb_tableIn (pc' := 90) (off := 89) dX12_count_1 (by decide) (by decide) (by decide +kernel) (by decide) ?_
  refine jb_aload_n (pc' := 91) dX12_count_90 rfl rfl ?_
  refine gf_X12_7 (pc' := 94) (v := .ref 106) dX12_count_91 rfl rfl rfl ?_
  refine jb_iconst (pc' := 95) 2 dX12_count_94 (by decide) rfl ?_
  refine jb_iaload (pc' := 96) (i9 := 2) (f := d) dX12_count_95 rfl jb_x2 (by decide) rfl ?_
  refine jb_top (v := .int (d 2)) (w := .int (nI (V 0 6))) (jb_vI e2) ?_
  refine jb_iret dX12_count_96 rfl ?_
  exact ⟨rfl, rfl⟩
set_option maxRecDepth 100000 in
set_option maxHeartbeats 4000000 in
theorem mx_count6 {sc : Nat × (Nat → Int32)} {s0 s1 s2 s3 s4 s5 s6 s7 s8 s9 s11 : List va_E} {V : Nat → Nat → Nat} (I J d e kp nm : Nat → Int32) (W : Nat → Nat → Int32) (hd : jd_ V d) (hk : jv_ok V)  : jb_C sc yX12_count cX12_count 2 (Option.some .int) 1 0 0 [.ref 105, .int 6] [s0, s1, s2, s3, s4, s5, s6, s7, s8, s9, jb_mdl I J d e kp nm W, s11] (fun r h9 => r = some (.int (d 8)) ∧ h9 = [s0, s1, s2, s3, s4, s5, s6, s7, s8, s9, jb_mdl I J d e kp nm W, s11]) := by
  refine jb_CofJ (ini := false) (by decide +kernel) (fun h => by cases h) (Nat.le_of_ble_eq_true rfl) ?_
  show jb_J sc RX12 cX12_count 2 (Option.some .int) false 1 0 0 0 [some (.ref 105), some (.int 6)] [] [s0, s1, s2, s3, s4, s5, s6, s7, s8, s9, jb_mdl I J d e kp nm W, s11] _
  have hd0 := hd
  have hk0 := hk
  obtain ⟨e0, e1, e2, e3, e4, e5, e6, dv, ds, dd⟩ := hd
  obtain ⟨k0, k1, k2, k3, k4, k5, k6, k7, kv, ks, kd⟩ := hk
  refine jb_iload_n (pc' := 1) dX12_count_0 rfl rfl ?_
  refine jb_tableIn (pc' := 97) (off := 96) dX12_count_1 (by decide) (by decide) (by decide +kernel) (by decide) ?_
  refine jb_aload_n (pc' := 98) dX12_count_97 rfl rfl ?_
  refine gf_X12_7 (pc' := 101) (v := .ref 106) dX12_count_98 rfl rfl rfl ?_
  refine jb_bipush (pc' := 103) 8 dX12_count_101 (by decide) rfl ?_
  refine jb_iaload (pc' := 104) (i9 := 8) (f := d) dX12_count_103 rfl jb_x8 (by decide) rfl ?_
  refine jb_iret dX12_count_104 rfl ?_
  exact ⟨rfl, rfl⟩
set_option maxRecDepth 100000 in
set_option maxHeartbeats 4000000 in
theorem mx_count7 {sc : Nat × (Nat → Int32)} {s0 s1 s2 s3 s4 s5 s6 s7 s8 s9 s11 : List va_E} {V : Nat → Nat → Nat} (I J d e kp nm : Nat → Int32) (W : Nat → Nat → Int32) (hd : jd_ V d) (hk : jv_ok V)  : jb_C sc yX12_count cX12_count 2 (Option.some .int) 1 0 0 [.ref 105, .int 7] [s0, s1, s2, s3, s4, s5, s6, s7, s8, s9, jb_mdl I J d e kp nm W, s11] (fun r h9 => r = some (.int (d 9)) ∧ h9 = [s0, s1, s2, s3, s4, s5, s6, s7, s8, s9, jb_mdl I J d e kp nm W, s11]) := by
  refine jb_CofJ (ini := false) (by decide +kernel) (fun h => by cases h) (Nat.le_of_ble_eq_true rfl) ?_
  show jb_J sc RX12 cX12_count 2 (Option.some .int) false 1 0 0 0 [some (.ref 105), some (.int 7)] [] [s0, s1, s2, s3, s4, s5, s6, s7, s8, s9, jb_mdl I J d e kp nm W, s11] _
  have hd0 := hd
  have hk0 := hk
  obtain ⟨e0, e1, e2, e3, e4, e5, e6, dv, ds, dd⟩ := hd
  obtain ⟨k0, k1, k2, k3, k4, k5, k6, k7, kv, ks, kd⟩ := hk
  refine jb_iload_n (pc' := 1) dX12_count_0 rfl rfl ?_
  refine jb_tableIn (pc' := 105) (off := 104) dX12_count_1 (by decide) (by decide) (by decide +kernel) (by decide) ?_
  refine jb_aload_n (pc' := 106) dX12_count_105 rfl rfl ?_
  refine gf_X12_7 (pc' := 109) (v := .ref 106) dX12_count_106 rfl rfl rfl ?_
  refine jb_bipush (pc' := 111) 9 dX12_count_109 (by decide) rfl ?_
  refine jb_iaload (pc' := 112) (i9 := 9) (f := d) dX12_count_111 rfl jb_x9 (by decide) rfl ?_
  refine jb_iret dX12_count_112 rfl ?_
  exact ⟨rfl, rfl⟩
set_option maxRecDepth 100000 in
set_option maxHeartbeats 4000000 in
theorem mx_count8 {sc : Nat × (Nat → Int32)} {s0 s1 s2 s3 s4 s5 s6 s7 s8 s9 s11 : List va_E} {V : Nat → Nat → Nat} (I J d e kp nm : Nat → Int32) (W : Nat → Nat → Int32) (hd : jd_ V d) (hk : jv_ok V)  : jb_C sc yX12_count cX12_count 2 (Option.some .int) 1 0 0 [.ref 105, .int 8] [s0, s1, s2, s3, s4, s5, s6, s7, s8, s9, jb_mdl I J d e kp nm W, s11] (fun r h9 => r = some (.int (I 3)) ∧ h9 = [s0, s1, s2, s3, s4, s5, s6, s7, s8, s9, jb_mdl I J d e kp nm W, s11]) := by
  refine jb_CofJ (ini := false) (by decide +kernel) (fun h => by cases h) (Nat.le_of_ble_eq_true rfl) ?_
  show jb_J sc RX12 cX12_count 2 (Option.some .int) false 1 0 0 0 [some (.ref 105), some (.int 8)] [] [s0, s1, s2, s3, s4, s5, s6, s7, s8, s9, jb_mdl I J d e kp nm W, s11] _
  have hd0 := hd
  have hk0 := hk
  obtain ⟨e0, e1, e2, e3, e4, e5, e6, dv, ds, dd⟩ := hd
  obtain ⟨k0, k1, k2, k3, k4, k5, k6, k7, kv, ks, kd⟩ := hk
  refine jb_iload_n (pc' := 1) dX12_count_0 rfl rfl ?_
  refine jb_tableIn (pc' := 113) (off := 112) dX12_count_1 (by decide) (by decide) (by decide +kernel) (by decide) ?_
  refine jb_aload_n (pc' := 114) dX12_count_113 rfl rfl ?_
  refine gf_X12_259 (pc' := 117) (v := .int (I 3)) dX12_count_114 rfl rfl rfl ?_
  refine jb_iret dX12_count_117 rfl ?_
  exact ⟨rfl, rfl⟩
set_option maxRecDepth 100000 in
set_option maxHeartbeats 4000000 in
theorem mx_count9 {sc : Nat × (Nat → Int32)} {s0 s1 s2 s3 s4 s5 s6 s7 s8 s9 s11 : List va_E} {V : Nat → Nat → Nat} (I J d e kp nm : Nat → Int32) (W : Nat → Nat → Int32) (hd : jd_ V d) (hk : jv_ok V)  : jb_C sc yX12_count cX12_count 2 (Option.some .int) 1 0 0 [.ref 105, .int 9] [s0, s1, s2, s3, s4, s5, s6, s7, s8, s9, jb_mdl I J d e kp nm W, s11] (fun r h9 => r = some (.int (d 7)) ∧ h9 = [s0, s1, s2, s3, s4, s5, s6, s7, s8, s9, jb_mdl I J d e kp nm W, s11]) := by
  refine jb_CofJ (ini := false) (by decide +kernel) (fun h => by cases h) (Nat.le_of_ble_eq_true rfl) ?_
  show jb_J sc RX12 cX12_count 2 (Option.some .int) false 1 0 0 0 [some (.ref 105), some (.int 9)] [] [s0, s1, s2, s3, s4, s5, s6, s7, s8, s9, jb_mdl I J d e kp nm W, s11] _
  have hd0 := hd
  have hk0 := hk
  obtain ⟨e0, e1, e2, e3, e4, e5, e6, dv, ds, dd⟩ := hd
  obtain ⟨k0, k1, k2, k3, k4, k5, k6, k7, kv, ks, kd⟩ := hk
  refine jb_iload_n (pc' := 1) dX12_count_0 rfl rfl ?_
  refine jb_tableIn (pc' := 118) (off := 117) dX12_count_1 (by decide) (by decide) (by decide +kernel) (by decide) ?_
  refine jb_aload_n (pc' := 119) dX12_count_118 rfl rfl ?_
  refine gf_X12_7 (pc' := 122) (v := .ref 106) dX12_count_119 rfl rfl rfl ?_
  refine jb_bipush (pc' := 124) 7 dX12_count_122 (by decide) rfl ?_
  refine jb_iaload (pc' := 125) (i9 := 7) (f := d) dX12_count_124 rfl jb_x7 (by decide) rfl ?_
  refine jb_iret dX12_count_125 rfl ?_
  exact ⟨rfl, rfl⟩
set_option maxRecDepth 100000 in
set_option maxHeartbeats 4000000 in
theorem me_count {sc : Nat × (Nat → Int32)} {s0 s1 s2 s3 s4 s5 s6 s7 s8 s9 s11 : List va_E} {V : Nat → Nat → Nat} (I J d e kp nm : Nat → Int32) (W : Nat → Nat → Int32) (hd : jd_ V d) (hk : jv_ok V) (w : Int32) (hb : ¬ jn_b w 0 10) : jb_C sc yX12_count cX12_count 2 (Option.some .int) 1 0 0 [.ref 105, .int w] [s0, s1, s2, s3, s4, s5, s6, s7, s8, s9, jb_mdl I J d e kp nm W, s11] (fun r h9 => r = some (.int (jm_er 1)) ∧ h9 = [s0, s1, s2, s3, s4, s5, s6, s7, s8, s9, jb_mdl I J d e kp nm (va_up W 0 (jm_ef (W 0) 1)), s11]) := by
  refine jb_CofJ (ini := false) (by decide +kernel) (fun h => by cases h) (Nat.le_of_ble_eq_true rfl) ?_
  show jb_J sc RX12 cX12_count 2 (Option.some .int) false 1 0 0 0 [some (.ref 105), some (.int w)] [] [s0, s1, s2, s3, s4, s5, s6, s7, s8, s9, jb_mdl I J d e kp nm W, s11] _
  have hd0 := hd
  have hk0 := hk
  obtain ⟨e0, e1, e2, e3, e4, e5, e6, dv, ds, dd⟩ := hd
  obtain ⟨k0, k1, k2, k3, k4, k5, k6, k7, kv, ks, kd⟩ := hk
  refine jb_iload_n (pc' := 1) dX12_count_0 rfl rfl ?_
  refine jb_tableOut (pc' := 126) dX12_count_1 (by rw [jn_bI (by decide)] at hb; omega) (by decide) ?_
  refine jb_aload_n (pc' := 127) dX12_count_126 rfl rfl ?_
  refine jb_iconst (pc' := 128) 1 dX12_count_127 (by decide) rfl ?_
  refine jb_callV (pc' := 131) (ci := 12) (q := 105) (As := [.int 1]) (a2 := 0) (b2 := 0) wv_X12_121 rfl dX12_count_128 (c_finds I J d e kp nm W 1 (by decide)) rfl rfl ⟨by decide, Nat.le_of_eq (Nat.zero_add _), Nat.le_of_eq (Nat.zero_add _)⟩ (Nat.le_of_ble_eq_true rfl) rfl (fun r h9 hq => ?_)
  obtain ⟨rfl, rfl⟩ := hq
  show jb_J _ RX12 cX12_count 2 (Option.some .int) false 1 0 0 131 [some (.ref 105), some (.int w)] [.int (jm_er 1)] [s0, s1, s2, s3, s4, s5, s6, s7, s8, s9, jb_mdl I J d e kp nm (va_up W 0 (jm_ef (W 0) 1)), s11] _
  refine jb_iret dX12_count_131 rfl ?_
  exact ⟨rfl, rfl⟩
set_option maxRecDepth 100000 in
set_option maxHeartbeats 4000000 in
theorem mx_told {sc : Nat × (Nat → Int32)} {s0 s1 s2 s3 s4 s5 s6 s7 s8 s9 s11 : List va_E} (I J d e kp nm : Nat → Int32) (W : Nat → Nat → Int32) (k : Nat) (h1 : 1 ≤ k) (h2 : k ≤ 5) : jb_C sc yX12_told cX12_told 2 (Option.some .int) 1 0 0 [.ref 105, .int (nI k)] [s0, s1, s2, s3, s4, s5, s6, s7, s8, s9, jb_mdl I J d e kp nm W, s11] (fun r h9 => r = some (.int (W 0 k)) ∧ h9 = [s0, s1, s2, s3, s4, s5, s6, s7, s8, s9, jb_mdl I J d e kp nm W, s11]) := by
  refine jb_CofJ (ini := false) (by decide +kernel) (fun h => by cases h) (Nat.le_of_ble_eq_true rfl) ?_
  show jb_J sc RX12 cX12_told 2 (Option.some .int) false 1 0 0 0 [some (.ref 105), some (.int (nI k))] [] [s0, s1, s2, s3, s4, s5, s6, s7, s8, s9, jb_mdl I J d e kp nm W, s11] _
  refine jb_iload_n (pc' := 1) dX12_told_0 rfl rfl ?_
  refine jb_i2l (pc' := 2) dX12_told_1 rfl ?_
  refine jb_lconst (pc' := 3) 1 dX12_told_2 (by decide) rfl ?_
  refine jb_ldc2 (pc' := 6) 5 dX12_told_3 wk_X12_180 rfl ?_
  refine jb_callS (pc' := 9) (As := [.long ((nI k).toInt64), .long 1, .long 5]) (a2 := 0) (b2 := 0) wv_X12_56 dX12_told_6 (c_inLG _ k 1 5 (by omega) (by omega) (by omega)) rfl ⟨by decide, Nat.le_of_eq (Nat.zero_add _), Nat.le_of_eq (Nat.zero_add _)⟩ (Nat.le_of_ble_eq_true rfl) rfl (fun r h9 hq => ?_)
  obtain ⟨rfl, rfl⟩ := hq
  show jb_J _ RX12 cX12_told 2 (Option.some .int) false 1 0 0 9 [some (.ref 105), some (.int (nI k))] [.int 1] [s0, s1, s2, s3, s4, s5, s6, s7, s8, s9, jb_mdl I J d e kp nm W, s11] _
  refine jb_if_eq (tgt := 21) (pc' := 12) dX12_told_9 (by decide) rfl (fun z => absurd z (by decide)) (fun _ => ?_)
  refine jb_aload_n (pc' := 13) dX12_told_12 rfl rfl ?_
  refine gf_X12_19 (pc' := 16) (v := .ref 109) dX12_told_13 rfl rfl rfl ?_
  refine jb_iload_n (pc' := 17) dX12_told_16 rfl rfl ?_
  refine jb_iaload (pc' := 18) (i9 := k) (f := (W 0)) dX12_told_17 rfl (jb_ix_nI (by omega)) (by omega) rfl ?_
  refine jb_goto (pc' := 26) dX12_told_18 (by decide) ?_
  refine jb_iret dX12_told_26 rfl ?_
  exact ⟨rfl, rfl⟩
set_option maxRecDepth 100000 in
set_option maxHeartbeats 4000000 in
theorem me_told {sc : Nat × (Nat → Int32)} {s0 s1 s2 s3 s4 s5 s6 s7 s8 s9 s11 : List va_E} {V : Nat → Nat → Nat} (I J d e kp nm : Nat → Int32) (W : Nat → Nat → Int32) (hd : jd_ V d) (hk : jv_ok V) (k : Int32) (hb : ¬ jn_b k 1 6) : jb_C sc yX12_told cX12_told 2 (Option.some .int) 1 0 0 [.ref 105, .int k] [s0, s1, s2, s3, s4, s5, s6, s7, s8, s9, jb_mdl I J d e kp nm W, s11] (fun r h9 => r = some (.int (jm_er 1)) ∧ h9 = [s0, s1, s2, s3, s4, s5, s6, s7, s8, s9, jb_mdl I J d e kp nm (va_up W 0 (jm_ef (W 0) 1)), s11]) := by
  refine jb_CofJ (ini := false) (by decide +kernel) (fun h => by cases h) (Nat.le_of_ble_eq_true rfl) ?_
  show jb_J sc RX12 cX12_told 2 (Option.some .int) false 1 0 0 0 [some (.ref 105), some (.int k)] [] [s0, s1, s2, s3, s4, s5, s6, s7, s8, s9, jb_mdl I J d e kp nm W, s11] _
  have hd0 := hd
  have hk0 := hk
  obtain ⟨e0, e1, e2, e3, e4, e5, e6, dv, ds, dd⟩ := hd
  obtain ⟨k0, k1, k2, k3, k4, k5, k6, k7, kv, ks, kd⟩ := hk
  refine jb_iload_n (pc' := 1) dX12_told_0 rfl rfl ?_
  refine jb_i2l (pc' := 2) dX12_told_1 rfl ?_
  refine jb_lconst (pc' := 3) 1 dX12_told_2 (by decide) rfl ?_
  refine jb_ldc2 (pc' := 6) 5 dX12_told_3 wk_X12_180 rfl ?_
  refine jb_callS (pc' := 9) (As := [.long k.toInt64, .long 1, .long 5]) (a2 := 0) (b2 := 0) wv_X12_56 dX12_told_6 (c_inL _ k 1 5 (by omega) (by omega)) rfl ⟨by decide, Nat.le_of_eq (Nat.zero_add _), Nat.le_of_eq (Nat.zero_add _)⟩ (Nat.le_of_ble_eq_true rfl) rfl (fun r h9 hq => ?_)
  rcases hq with ⟨rfl, ⟨o1, rfl⟩ | ⟨o1, rfl⟩⟩
  · show jb_J _ RX12 cX12_told 2 (Option.some .int) false 1 0 0 9 [some (.ref 105), some (.int k)] [.int 1] [s0, s1, s2, s3, s4, s5, s6, s7, s8, s9, jb_mdl I J d e kp nm W, s11] _
    exact absurd (by assumption) hb
  · show jb_J _ RX12 cX12_told 2 (Option.some .int) false 1 0 0 9 [some (.ref 105), some (.int k)] [.int 0] [s0, s1, s2, s3, s4, s5, s6, s7, s8, s9, jb_mdl I J d e kp nm W, s11] _
    refine jb_if_eq (tgt := 21) (pc' := 12) dX12_told_9 (by decide) rfl (fun _ => ?_) (fun z => absurd (by decide) z)
    refine jb_aload_n (pc' := 22) dX12_told_21 rfl rfl ?_
    refine jb_iconst (pc' := 23) 1 dX12_told_22 (by decide) rfl ?_
    refine jb_callV (pc' := 26) (ci := 12) (q := 105) (As := [.int 1]) (a2 := 0) (b2 := 0) wv_X12_121 rfl dX12_told_23 (c_finds I J d e kp nm W 1 (by decide)) rfl rfl ⟨by decide, Nat.le_of_eq (Nat.zero_add _), Nat.le_of_eq (Nat.zero_add _)⟩ (Nat.le_of_ble_eq_true rfl) rfl (fun r h9 hq => ?_)
    obtain ⟨rfl, rfl⟩ := hq
    show jb_J _ RX12 cX12_told 2 (Option.some .int) false 1 0 0 26 [some (.ref 105), some (.int k)] [.int (jm_er 1)] [s0, s1, s2, s3, s4, s5, s6, s7, s8, s9, jb_mdl I J d e kp nm (va_up W 0 (jm_ef (W 0) 1)), s11] _
    refine jb_iret dX12_told_26 rfl ?_
    exact ⟨rfl, rfl⟩
set_option maxRecDepth 100000 in
set_option maxHeartbeats 4000000 in
theorem mx_trace {sc : Nat × (Nat → Int32)} {s0 s1 s2 s3 s4 s5 s6 s7 s8 s9 s11 : List va_E} (I J d e kp nm : Nat → Int32) (W : Nat → Nat → Int32) {t9 : Nat} (ha2 : I 3 = nI t9) (ht : t9 ≤ 40) (i : Nat) (hi : i < t9) : jb_C sc yX12_trace cX12_trace 2 (Option.some .int) 1 0 0 [.ref 105, .int (nI i)] [s0, s1, s2, s3, s4, s5, s6, s7, s8, s9, jb_mdl I J d e kp nm W, s11] (fun r h9 => r = some (.int (W 10 i)) ∧ h9 = [s0, s1, s2, s3, s4, s5, s6, s7, s8, s9, jb_mdl I J d e kp nm W, s11]) := by
  refine jb_CofJ (ini := false) (by decide +kernel) (fun h => by cases h) (Nat.le_of_ble_eq_true rfl) ?_
  show jb_J sc RX12 cX12_trace 2 (Option.some .int) false 1 0 0 0 [some (.ref 105), some (.int (nI i))] [] [s0, s1, s2, s3, s4, s5, s6, s7, s8, s9, jb_mdl I J d e kp nm W, s11] _
  refine jb_iload_n (pc' := 1) dX12_trace_0 rfl rfl ?_
  refine jb_i2l (pc' := 2) dX12_trace_1 rfl ?_
  refine jb_lconst (pc' := 3) 0 dX12_trace_2 (by decide) rfl ?_
  refine jb_aload_n (pc' := 4) dX12_trace_3 rfl rfl ?_
  refine gf_X12_259 (pc' := 7) (v := .int (I 3)) dX12_trace_4 rfl rfl rfl ?_
  refine jb_top (v := .int (I 3)) (w := .int (nI t9)) (jb_vI ha2) ?_
  refine jb_iconst (pc' := 8) 1 dX12_trace_7 (by decide) rfl ?_
  refine jb_isub (pc' := 9) dX12_trace_8 rfl ?_
  refine jb_i2l (pc' := 10) dX12_trace_9 rfl ?_
  refine jb_callS (pc' := 13) (As := [.long ((nI i).toInt64), .long 0, .long (((nI t9) - 1).toInt64)]) (a2 := 0) (b2 := 0) wv_X12_56 dX12_trace_10 (c_inNG _ i t9 (by omega) (by omega)) rfl ⟨by decide, Nat.le_of_eq (Nat.zero_add _), Nat.le_of_eq (Nat.zero_add _)⟩ (Nat.le_of_ble_eq_true rfl) rfl (fun r h9 hq => ?_)
  obtain ⟨rfl, rfl⟩ := hq
  show jb_J _ RX12 cX12_trace 2 (Option.some .int) false 1 0 0 13 [some (.ref 105), some (.int (nI i))] [.int 1] [s0, s1, s2, s3, s4, s5, s6, s7, s8, s9, jb_mdl I J d e kp nm W, s11] _
  refine jb_if_eq (tgt := 25) (pc' := 16) dX12_trace_13 (by decide) rfl (fun z => absurd z (by decide)) (fun _ => ?_)
  refine jb_aload_n (pc' := 17) dX12_trace_16 rfl rfl ?_
  refine gf_X12_52 (pc' := 20) (v := .ref 120) dX12_trace_17 rfl rfl rfl ?_
  refine jb_iload_n (pc' := 21) dX12_trace_20 rfl rfl ?_
  refine jb_iaload (pc' := 22) (i9 := i) (f := (W 10)) dX12_trace_21 rfl (jb_ix_nI (by omega)) (by omega) rfl ?_
  refine jb_goto (pc' := 30) dX12_trace_22 (by decide) ?_
  refine jb_iret dX12_trace_30 rfl ?_
  exact ⟨rfl, rfl⟩
set_option maxRecDepth 100000 in
set_option maxHeartbeats 4000000 in
theorem me_trace {sc : Nat × (Nat → Int32)} {s0 s1 s2 s3 s4 s5 s6 s7 s8 s9 s11 : List va_E} {V : Nat → Nat → Nat} (I J d e kp nm : Nat → Int32) (W : Nat → Nat → Int32) (hd : jd_ V d) (hk : jv_ok V) {t9 : Nat} (ha2 : I 3 = nI t9) (ht : t9 ≤ 40) (i : Int32) (hb : ¬ jn_b i 0 t9) : jb_C sc yX12_trace cX12_trace 2 (Option.some .int) 1 0 0 [.ref 105, .int i] [s0, s1, s2, s3, s4, s5, s6, s7, s8, s9, jb_mdl I J d e kp nm W, s11] (fun r h9 => r = some (.int (jm_er 2)) ∧ h9 = [s0, s1, s2, s3, s4, s5, s6, s7, s8, s9, jb_mdl I J d e kp nm (va_up W 0 (jm_ef (W 0) 2)), s11]) := by
  refine jb_CofJ (ini := false) (by decide +kernel) (fun h => by cases h) (Nat.le_of_ble_eq_true rfl) ?_
  show jb_J sc RX12 cX12_trace 2 (Option.some .int) false 1 0 0 0 [some (.ref 105), some (.int i)] [] [s0, s1, s2, s3, s4, s5, s6, s7, s8, s9, jb_mdl I J d e kp nm W, s11] _
  have hd0 := hd
  have hk0 := hk
  obtain ⟨e0, e1, e2, e3, e4, e5, e6, dv, ds, dd⟩ := hd
  obtain ⟨k0, k1, k2, k3, k4, k5, k6, k7, kv, ks, kd⟩ := hk
  refine jb_iload_n (pc' := 1) dX12_trace_0 rfl rfl ?_
  refine jb_i2l (pc' := 2) dX12_trace_1 rfl ?_
  refine jb_lconst (pc' := 3) 0 dX12_trace_2 (by decide) rfl ?_
  refine jb_aload_n (pc' := 4) dX12_trace_3 rfl rfl ?_
  refine gf_X12_259 (pc' := 7) (v := .int (I 3)) dX12_trace_4 rfl rfl rfl ?_
  refine jb_top (v := .int (I 3)) (w := .int (nI t9)) (jb_vI ha2) ?_
  refine jb_iconst (pc' := 8) 1 dX12_trace_7 (by decide) rfl ?_
  refine jb_isub (pc' := 9) dX12_trace_8 rfl ?_
  refine jb_i2l (pc' := 10) dX12_trace_9 rfl ?_
  refine jb_callS (pc' := 13) (As := [.long i.toInt64, .long 0, .long (((nI t9) - 1).toInt64)]) (a2 := 0) (b2 := 0) wv_X12_56 dX12_trace_10 (c_inN _ i t9 (by omega)) rfl ⟨by decide, Nat.le_of_eq (Nat.zero_add _), Nat.le_of_eq (Nat.zero_add _)⟩ (Nat.le_of_ble_eq_true rfl) rfl (fun r h9 hq => ?_)
  rcases hq with ⟨rfl, ⟨o1, rfl⟩ | ⟨o1, rfl⟩⟩
  · show jb_J _ RX12 cX12_trace 2 (Option.some .int) false 1 0 0 13 [some (.ref 105), some (.int i)] [.int 1] [s0, s1, s2, s3, s4, s5, s6, s7, s8, s9, jb_mdl I J d e kp nm W, s11] _
    exact absurd (by assumption) hb
  · show jb_J _ RX12 cX12_trace 2 (Option.some .int) false 1 0 0 13 [some (.ref 105), some (.int i)] [.int 0] [s0, s1, s2, s3, s4, s5, s6, s7, s8, s9, jb_mdl I J d e kp nm W, s11] _
    refine jb_if_eq (tgt := 25) (pc' := 16) dX12_trace_13 (by decide) rfl (fun _ => ?_) (fun z => absurd (by decide) z)
    refine jb_aload_n (pc' := 26) dX12_trace_25 rfl rfl ?_
    refine jb_iconst (pc' := 27) 2 dX12_trace_26 (by decide) rfl ?_
    refine jb_callV (pc' := 30) (ci := 12) (q := 105) (As := [.int 2]) (a2 := 0) (b2 := 0) wv_X12_121 rfl dX12_trace_27 (c_finds I J d e kp nm W 2 (by decide)) rfl rfl ⟨by decide, Nat.le_of_eq (Nat.zero_add _), Nat.le_of_eq (Nat.zero_add _)⟩ (Nat.le_of_ble_eq_true rfl) rfl (fun r h9 hq => ?_)
    obtain ⟨rfl, rfl⟩ := hq
    show jb_J _ RX12 cX12_trace 2 (Option.some .int) false 1 0 0 30 [some (.ref 105), some (.int i)] [.int (jm_er 2)] [s0, s1, s2, s3, s4, s5, s6, s7, s8, s9, jb_mdl I J d e kp nm (va_up W 0 (jm_ef (W 0) 2)), s11] _
    refine jb_iret dX12_trace_30 rfl ?_
    exact ⟨rfl, rfl⟩
set_option maxRecDepth 100000 in
set_option maxHeartbeats 4000000 in
theorem mx_tell {sc : Nat × (Nat → Int32)} {s0 s1 s2 s3 s4 s5 s6 s7 s8 s9 s11 : List va_E} {V : Nat → Nat → Nat} (I J d e kp nm : Nat → Int32) (W : Nat → Nat → Int32) (hd : jd_ V d) (hk : jv_ok V) {wt : Nat} (h9 : d 9 = nI wt) (hwt : wt < 20) (v : Int32) : jb_C sc yX12_tell cX12_tell 2 (Option.some .int) 0 0 0 [.ref 105, .int v] [s0, s1, s2, s3, s4, s5, s6, s7, s8, s9, jb_mdl I J d e kp nm W, s11] (fun r h9 => r = some (.int (nI (wt + 1))) ∧ h9 = [s0, s1, s2, s3, s4, s5, s6, s7, s8, s9, jb_mdl I J (upd (upd d (318 + wt) v) 9 (nI (wt + 1))) e kp nm W, s11]) := by
  refine jb_CofJ (ini := false) (by decide +kernel) (fun h => by cases h) (Nat.le_of_ble_eq_true rfl) ?_
  show jb_J sc RX12 cX12_tell 2 (Option.some .int) false 0 0 0 0 [some (.ref 105), some (.int v)] [] [s0, s1, s2, s3, s4, s5, s6, s7, s8, s9, jb_mdl I J d e kp nm W, s11] _
  have hd0 := hd
  have hk0 := hk
  obtain ⟨e0, e1, e2, e3, e4, e5, e6, dv, ds, dd⟩ := hd
  obtain ⟨k0, k1, k2, k3, k4, k5, k6, k7, kv, ks, kd⟩ := hk
  refine jb_aload_n (pc' := 1) dX12_tell_0 rfl rfl ?_
  refine gf_X12_7 (pc' := 4) (v := .ref 106) dX12_tell_1 rfl rfl rfl ?_
  refine jb_bipush (pc' := 6) 9 dX12_tell_4 (by decide) rfl ?_
  refine jb_iaload (pc' := 7) (i9 := 9) (f := d) dX12_tell_6 rfl jb_x9 (by decide) rfl ?_
  refine jb_top (v := .int (d 9)) (w := .int (nI wt)) (jb_vI h9) ?_
  refine jb_bipush (pc' := 9) 20 dX12_tell_7 (by decide) rfl ?_
  refine jb_icmp_ne (tgt := 18) (pc' := 12) dX12_tell_9 (by decide) rfl (fun _ => ?_) (fun z => absurd z (fun z => absurd ((nI_eq (a := wt) (b := 20) (by omega) (by omega)).mp z) (by omega)))
  refine jb_aload_n (pc' := 19) dX12_tell_18 rfl rfl ?_
  refine gf_X12_7 (pc' := 22) (v := .ref 106) dX12_tell_19 rfl rfl rfl ?_
  refine jb_sipush (pc' := 25) 318 dX12_tell_22 (by decide) rfl ?_
  refine jb_aload_n (pc' := 26) dX12_tell_25 rfl rfl ?_
  refine gf_X12_7 (pc' := 29) (v := .ref 106) dX12_tell_26 rfl rfl rfl ?_
  refine jb_bipush (pc' := 31) 9 dX12_tell_29 (by decide) rfl ?_
  refine jb_iaload (pc' := 32) (i9 := 9) (f := d) dX12_tell_31 rfl jb_x9 (by decide) rfl ?_
  refine jb_top (v := .int (d 9)) (w := .int (nI wt)) (jb_vI h9) ?_
  refine jb_iadd (pc' := 33) dX12_tell_32 rfl ?_
  refine jb_top (v := .int (318 + (nI wt))) (w := .int (nI (318 + wt))) (jb_vI (nI_add 318 _)) ?_
  refine jb_iload_n (pc' := 34) dX12_tell_33 rfl rfl ?_
  refine jb_iastore (pc' := 35) (i9 := (318 + wt)) (f := d) (h' := [s0, s1, s2, s3, s4, s5, s6, s7, s8, s9, jb_mdl I J (upd d (318 + wt) v) e kp nm W, s11]) dX12_tell_34 rfl (jb_ix_nI (by omega)) (by omega) rfl rfl ?_
  refine jb_aload_n (pc' := 36) dX12_tell_35 rfl rfl ?_
  refine gf_X12_7 (pc' := 39) (v := .ref 106) dX12_tell_36 rfl rfl rfl ?_
  refine jb_bipush (pc' := 41) 9 dX12_tell_39 (by decide) rfl ?_
  refine jb_dup2 (pc' := 42) dX12_tell_41 rfl rfl rfl ?_
  refine jb_iaload (pc' := 43) (i9 := 9) (f := (upd d (318 + wt) v)) dX12_tell_42 rfl jb_x9 (by decide) rfl ?_
  refine jb_top (v := .int ((upd d (318 + wt) v) 9)) (w := .int (nI wt)) (jb_vI (by rw [jb_une (by omega)]; exact h9)) ?_
  refine jb_iconst (pc' := 44) 1 dX12_tell_43 (by decide) rfl ?_
  refine jb_iadd (pc' := 45) dX12_tell_44 rfl ?_
  refine jb_top (v := .int ((nI wt) + 1)) (w := .int (nI (wt + 1))) (jb_vI (nI_add _ 1)) ?_
  refine jb_iastore (pc' := 46) (i9 := 9) (f := (upd d (318 + wt) v)) (h' := [s0, s1, s2, s3, s4, s5, s6, s7, s8, s9, jb_mdl I J (upd (upd d (318 + wt) v) 9 (nI (wt + 1))) e kp nm W, s11]) dX12_tell_45 rfl jb_x9 (by decide) rfl rfl ?_
  refine jb_aload_n (pc' := 47) dX12_tell_46 rfl rfl ?_
  refine gf_X12_7 (pc' := 50) (v := .ref 106) dX12_tell_47 rfl rfl rfl ?_
  refine jb_bipush (pc' := 52) 9 dX12_tell_50 (by decide) rfl ?_
  refine jb_iaload (pc' := 53) (i9 := 9) (f := (upd (upd d (318 + wt) v) 9 (nI (wt + 1)))) dX12_tell_52 rfl jb_x9 (by decide) rfl ?_
  refine jb_top (v := .int ((upd (upd d (318 + wt) v) 9 (nI (wt + 1))) 9)) (w := .int (nI (wt + 1))) (jb_vI jb_uee) ?_
  refine jb_iret dX12_tell_53 rfl ?_
  exact ⟨rfl, rfl⟩
set_option maxRecDepth 100000 in
set_option maxHeartbeats 4000000 in
theorem me_tell {sc : Nat × (Nat → Int32)} {s0 s1 s2 s3 s4 s5 s6 s7 s8 s9 s11 : List va_E} {V : Nat → Nat → Nat} (I J d e kp nm : Nat → Int32) (W : Nat → Nat → Int32) (hd : jd_ V d) (hk : jv_ok V) {wt : Nat} (h9 : d 9 = nI wt) (hwt : wt = 20) (v : Int32) : jb_C sc yX12_tell cX12_tell 2 (Option.some .int) 1 0 0 [.ref 105, .int v] [s0, s1, s2, s3, s4, s5, s6, s7, s8, s9, jb_mdl I J d e kp nm W, s11] (fun r h9 => r = some (.int (jm_er 4)) ∧ h9 = [s0, s1, s2, s3, s4, s5, s6, s7, s8, s9, jb_mdl I J d e kp nm (va_up W 0 (jm_ef (W 0) 4)), s11]) := by
  refine jb_CofJ (ini := false) (by decide +kernel) (fun h => by cases h) (Nat.le_of_ble_eq_true rfl) ?_
  show jb_J sc RX12 cX12_tell 2 (Option.some .int) false 1 0 0 0 [some (.ref 105), some (.int v)] [] [s0, s1, s2, s3, s4, s5, s6, s7, s8, s9, jb_mdl I J d e kp nm W, s11] _
  have hd0 := hd
  have hk0 := hk
  obtain ⟨e0, e1, e2, e3, e4, e5, e6, dv, ds, dd⟩ := hd
  obtain ⟨k0, k1, k2, k3, k4, k5, k6, k7, kv, ks, kd⟩ := hk
  refine jb_aload_n (pc' := 1) dX12_tell_0 rfl rfl ?_
  refine gf_X12_7 (pc' := 4) (v := .ref 106) dX12_tell_1 rfl rfl rfl ?_
  refine jb_bipush (pc' := 6) 9 dX12_tell_4 (by decide) rfl ?_
  refine jb_iaload (pc' := 7) (i9 := 9) (f := d) dX12_tell_6 rfl jb_x9 (by decide) rfl ?_
  refine jb_top (v := .int (d 9)) (w := .int (nI wt)) (jb_vI h9) ?_
  refine jb_bipush (pc' := 9) 20 dX12_tell_7 (by decide) rfl ?_
  refine jb_icmp_ne (tgt := 18) (pc' := 12) dX12_tell_9 (by decide) rfl (fun z => absurd (congrArg nI hwt) z) (fun _ => ?_)
  refine jb_aload_n (pc' := 13) dX12_tell_12 rfl rfl ?_
  refine jb_iconst (pc' := 14) 4 dX12_tell_13 (by decide) rfl ?_
  refine jb_callV (pc' := 17) (ci := 12) (q := 105) (As := [.int 4]) (a2 := 0) (b2 := 0) wv_X12_121 rfl dX12_tell_14 (c_finds I J d e kp nm W 4 (by decide)) rfl rfl ⟨by decide, Nat.le_of_eq (Nat.zero_add _), Nat.le_of_eq (Nat.zero_add _)⟩ (Nat.le_of_ble_eq_true rfl) rfl (fun r h9 hq => ?_)
  obtain ⟨rfl, rfl⟩ := hq
  show jb_J _ RX12 cX12_tell 2 (Option.some .int) false 1 0 0 17 [some (.ref 105), some (.int v)] [.int (jm_er 4)] [s0, s1, s2, s3, s4, s5, s6, s7, s8, s9, jb_mdl I J d e kp nm (va_up W 0 (jm_ef (W 0) 4)), s11] _
  refine jb_iret dX12_tell_17 rfl ?_
  exact ⟨rfl, rfl⟩
set_option maxRecDepth 100000 in
set_option maxHeartbeats 4000000 in
theorem l_goes0 {sc : Nat × (Nat → Int32)} {s0 s1 s2 s3 s4 s5 s6 s7 s8 s9 s11 : List va_E} (I e kp : Nat → Int32) (W : Nat → Nat → Int32) {G : jm_G} (hG : jm_Gok G) {d0 : Nat → Int32} (hg : jGm sc d0 G) (N : Nat) (hN : N ≤ 10000) : ∀ (n i : Nat) (V : Nat → Nat → Nat) (d J nm : Nat → Int32), i + n = N → V 0 0 + n ≤ 20000 → jd_ V d → jv_ok V → (∀ k, 316 ≤ k → d k = d0 k) → jb_J sc RX12 cX12_goes 4 (Option.some .int) false 49 0 0 40 [some (.ref 105), some (.int (nI N)), some (.int 0), some (.int (nI i))] [] [s0, s1, s2, s3, s4, s5, s6, s7, s8, s9, jb_mdl I J d e kp nm W, s11] (fun r h9 => r = some (.int (nI ((jm_pa G false n (V, d 7)).1 0 2))) ∧ ∃ J9 nm9 d9, jd_ (jm_pa G false n (V, d 7)).1 d9 ∧ d9 7 = (jm_pa G false n (V, d 7)).2 ∧ jd_f d d9 ∧ h9 = [s0, s1, s2, s3, s4, s5, s6, s7, s8, s9, jb_mdl I J9 d9 e kp nm9 W, s11]) := by
  intro n
  induction n with
  | zero =>
    intro i V d J nm hi h2 hd hk hag
    have hd0 := hd
    have hk0 := hk
    obtain ⟨e0, e1, e2, e3, e4, e5, e6, dv, ds, dd⟩ := hd
    obtain ⟨k0, k1, k2, k3, k4, k5, k6, k7, kv, ks, kd⟩ := hk
    show jb_J _ RX12 cX12_goes 4 (Option.some .int) false 49 0 0 40 [some (.ref 105), some (.int (nI N)), some (.int 0), some (.int (nI i))] [] [s0, s1, s2, s3, s4, s5, s6, s7, s8, s9, jb_mdl I J d e kp nm W, s11] _
    refine jb_iload_n (pc' := 41) dX12_goes_40 rfl rfl ?_
    refine jb_iload_n (pc' := 42) dX12_goes_41 rfl rfl ?_
    refine jb_icmp_ge (tgt := 56) (pc' := 45) dX12_goes_42 (by decide) rfl (fun _ => ?_) (fun z => absurd (nI_le (a := N) (b := i) (by omega) (by omega)) z)
    refine jb_aload_n (pc' := 57) dX12_goes_56 rfl rfl ?_
    refine gf_X12_7 (pc' := 60) (v := .ref 106) dX12_goes_57 rfl rfl rfl ?_
    refine jb_iconst (pc' := 61) 5 dX12_goes_60 (by decide) rfl ?_
    refine jb_iaload (pc' := 62) (i9 := 5) (f := d) dX12_goes_61 rfl jb_x5 (by decide) rfl ?_
    refine jb_top (v := .int (d 5)) (w := .int (nI (V 0 2))) (jb_vI e5) ?_
    refine jb_iret dX12_goes_62 rfl ?_
    exact ⟨rfl, J, nm, d, hd0, rfl, jd_f.rf d, rfl⟩
  | succ n ih =>
    intro i V d J nm hi h2 hd hk hag
    show jb_J _ RX12 cX12_goes 4 (Option.some .int) false 49 0 0 40 [some (.ref 105), some (.int (nI N)), some (.int 0), some (.int (nI i))] [] [s0, s1, s2, s3, s4, s5, s6, s7, s8, s9, jb_mdl I J d e kp nm W, s11] _
    refine jb_iload_n (pc' := 41) dX12_goes_40 rfl rfl ?_
    refine jb_iload_n (pc' := 42) dX12_goes_41 rfl rfl ?_
    refine jb_icmp_ge (tgt := 56) (pc' := 45) dX12_goes_42 (by decide) rfl (fun z => absurd z (nI_ge (a := i) (b := N) (by omega) (by omega))) (fun _ => ?_)
    refine jb_aload_n (pc' := 46) dX12_goes_45 rfl rfl ?_
    refine jb_iload_n (pc' := 47) dX12_goes_46 rfl rfl ?_
    refine jb_callV (pc' := 50) (ci := 12) (q := 105) (As := [.int 0]) (a2 := 0) (b2 := 0) wv_X12_202 rfl dX12_goes_47 (c_goesBy0 I J d e kp nm W hd hk hG hg hag) rfl rfl ⟨by decide, Nat.le_of_eq (Nat.zero_add _), Nat.le_of_eq (Nat.zero_add _)⟩ (Nat.le_of_ble_eq_true rfl) rfl (fun r h9 hq => ?_)
    obtain ⟨rfl, J9, nm9, d9, hd9, hz9, hf9, rfl⟩ := hq
    show jb_J _ RX12 cX12_goes 4 (Option.some .int) false 49 0 0 50 [some (.ref 105), some (.int (nI N)), some (.int 0), some (.int (nI i))] [] [s0, s1, s2, s3, s4, s5, s6, s7, s8, s9, jb_mdl I J9 d9 e kp nm9 W, s11] _
    refine jb_iinc_ (pc' := 53) (nI (i + 1)) dX12_goes_50 (by decide) rfl (jb_inc i 1) (jb_at3 rfl) rfl ?_
    refine jb_goto (pc' := 40) dX12_goes_53 (by decide) ?_
    have e9 : jm_pa G false (n + 1) (V, d 7) = jm_pa G false n ((jm_se G false (V, d 7)).1, d9 7) := by
      rw [hz9]
      rfl
    obtain ⟨hk9, hs9, -⟩ := jv_se hk hG false (d 7) (by omega)
    refine jb_J.mono (ih (i + 1) (jm_se G false (V, d 7)).1 d9 J9 nm9 (by omega) (by omega) hd9 hk9 (fun k hk => (hf9.2.2 k hk).trans (hag k hk))) (Nat.le_refl _) (Nat.le_refl _) (Nat.le_refl _) (fun r h9 hq => ?_)
    obtain ⟨rfl, J7, nm7, d7, hd7, hz7, hf7, rfl⟩ := hq
    exact ⟨by rw [e9], J7, nm7, d7, by rw [e9]; exact hd7, by rw [e9]; exact hz7, hf9.tr hf7, rfl⟩
set_option maxRecDepth 100000 in
set_option maxHeartbeats 4000000 in
theorem mx_goes0 {sc : Nat × (Nat → Int32)} {s0 s1 s2 s3 s4 s5 s6 s7 s8 s9 s11 : List va_E} {V : Nat → Nat → Nat} (I J d e kp nm : Nat → Int32) (W : Nat → Nat → Int32) (hd : jd_ V d) (hk : jv_ok V) {G : jm_G} (hG : jm_Gok G) {d0 : Nat → Int32} (hg : jGm sc d0 G) (hag : ∀ k, 316 ≤ k → d k = d0 k) (n : Nat) (h1 : 1 ≤ n) (h2 : n ≤ 200) (h3 : V 0 0 + n ≤ 9999) : jb_C sc yX12_goes cX12_goes 4 (Option.some .int) 49 0 0 [.ref 105, .int (nI n), .int 0] [s0, s1, s2, s3, s4, s5, s6, s7, s8, s9, jb_mdl I J d e kp nm W, s11] (fun r h9 => r = some (.int (nI ((jm_pa G false n (V, d 7)).1 0 2))) ∧ ∃ J9 nm9 d9, jd_ (jm_pa G false n (V, d 7)).1 d9 ∧ d9 7 = (jm_pa G false n (V, d 7)).2 ∧ jd_f d d9 ∧ h9 = [s0, s1, s2, s3, s4, s5, s6, s7, s8, s9, jb_mdl I J9 d9 e kp nm9 W, s11]) := by
  refine jb_CofJ (ini := false) (by decide +kernel) (fun h => by cases h) (Nat.le_of_ble_eq_true rfl) ?_
  show jb_J sc RX12 cX12_goes 4 (Option.some .int) false 49 0 0 0 [some (.ref 105), some (.int (nI n)), some (.int 0), none] [] [s0, s1, s2, s3, s4, s5, s6, s7, s8, s9, jb_mdl I J d e kp nm W, s11] _
  have hd0 := hd
  have hk0 := hk
  obtain ⟨e0, e1, e2, e3, e4, e5, e6, dv, ds, dd⟩ := hd
  obtain ⟨k0, k1, k2, k3, k4, k5, k6, k7, kv, ks, kd⟩ := hk
  refine jb_iload_n (pc' := 1) dX12_goes_0 rfl rfl ?_
  refine jb_i2l (pc' := 2) dX12_goes_1 rfl ?_
  refine jb_lconst (pc' := 3) 1 dX12_goes_2 (by decide) rfl ?_
  refine jb_ldc2 (pc' := 6) 200 dX12_goes_3 wk_X12_206 rfl ?_
  refine jb_callS (pc' := 9) (As := [.long ((nI n).toInt64), .long 1, .long 200]) (a2 := 0) (b2 := 0) wv_X12_56 dX12_goes_6 (c_inLG _ n 1 200 (by omega) (by omega) (by omega)) rfl ⟨by decide, Nat.le_of_eq (Nat.zero_add _), Nat.le_of_eq (Nat.zero_add _)⟩ (Nat.le_of_ble_eq_true rfl) rfl (fun r h9 hq => ?_)
  obtain ⟨rfl, rfl⟩ := hq
  show jb_J _ RX12 cX12_goes 4 (Option.some .int) false 49 0 0 9 [some (.ref 105), some (.int (nI n)), some (.int 0), none] [.int 1] [s0, s1, s2, s3, s4, s5, s6, s7, s8, s9, jb_mdl I J d e kp nm W, s11] _
  refine jb_if_ne (tgt := 18) (pc' := 12) dX12_goes_9 (by decide) rfl (fun _ => ?_) (fun z => absurd z (by decide))
  refine jb_aload_n (pc' := 19) dX12_goes_18 rfl rfl ?_
  refine gf_X12_7 (pc' := 22) (v := .ref 106) dX12_goes_19 rfl rfl rfl ?_
  refine jb_iconst (pc' := 23) 3 dX12_goes_22 (by decide) rfl ?_
  refine jb_iaload (pc' := 24) (i9 := 3) (f := d) dX12_goes_23 rfl jb_x3 (by decide) rfl ?_
  refine jb_top (v := .int (d 3)) (w := .int (nI (V 0 0))) (jb_vI e3) ?_
  refine jb_iload_n (pc' := 25) dX12_goes_24 rfl rfl ?_
  refine jb_iadd (pc' := 26) dX12_goes_25 rfl ?_
  refine jb_top (v := .int ((nI (V 0 0)) + (nI n))) (w := .int (nI ((V 0 0) + n))) (jb_vI (nI_add _ _)) ?_
  refine jb_sipush (pc' := 29) 9999 dX12_goes_26 (by decide) rfl ?_
  refine jb_icmp_le (tgt := 38) (pc' := 32) dX12_goes_29 (by decide) rfl (fun _ => ?_) (fun z => absurd (nI_le (a := V 0 0 + n) (b := 9999) (by omega) (by omega)) z)
  refine jb_iconst (pc' := 39) 0 dX12_goes_38 (by decide) rfl ?_
  refine jb_istore_n_ (pc' := 40) dX12_goes_39 (by decide) (jb_at3 rfl) rfl ?_
  exact l_goes0 I e kp W hG hg n (by omega) n 0 V d J nm (by omega) (by omega) hd0 hk0 hag
set_option maxRecDepth 100000 in
set_option maxHeartbeats 4000000 in
theorem me_goes0 {sc : Nat × (Nat → Int32)} {s0 s1 s2 s3 s4 s5 s6 s7 s8 s9 s11 : List va_E} {V : Nat → Nat → Nat} (I J d e kp nm : Nat → Int32) (W : Nat → Nat → Int32) (hd : jd_ V d) (hk : jv_ok V) (n : Int32) (hb : ¬ jn_b n 1 201) : jb_C sc yX12_goes cX12_goes 4 (Option.some .int) 1 0 0 [.ref 105, .int n, .int 0] [s0, s1, s2, s3, s4, s5, s6, s7, s8, s9, jb_mdl I J d e kp nm W, s11] (fun r h9 => r = some (.int (jm_er 1)) ∧ h9 = [s0, s1, s2, s3, s4, s5, s6, s7, s8, s9, jb_mdl I J d e kp nm (va_up W 0 (jm_ef (W 0) 1)), s11]) := by
  refine jb_CofJ (ini := false) (by decide +kernel) (fun h => by cases h) (Nat.le_of_ble_eq_true rfl) ?_
  show jb_J sc RX12 cX12_goes 4 (Option.some .int) false 1 0 0 0 [some (.ref 105), some (.int n), some (.int 0), none] [] [s0, s1, s2, s3, s4, s5, s6, s7, s8, s9, jb_mdl I J d e kp nm W, s11] _
  have hd0 := hd
  have hk0 := hk
  obtain ⟨e0, e1, e2, e3, e4, e5, e6, dv, ds, dd⟩ := hd
  obtain ⟨k0, k1, k2, k3, k4, k5, k6, k7, kv, ks, kd⟩ := hk
  refine jb_iload_n (pc' := 1) dX12_goes_0 rfl rfl ?_
  refine jb_i2l (pc' := 2) dX12_goes_1 rfl ?_
  refine jb_lconst (pc' := 3) 1 dX12_goes_2 (by decide) rfl ?_
  refine jb_ldc2 (pc' := 6) 200 dX12_goes_3 wk_X12_206 rfl ?_
  refine jb_callS (pc' := 9) (As := [.long n.toInt64, .long 1, .long 200]) (a2 := 0) (b2 := 0) wv_X12_56 dX12_goes_6 (c_inL _ n 1 200 (by omega) (by omega)) rfl ⟨by decide, Nat.le_of_eq (Nat.zero_add _), Nat.le_of_eq (Nat.zero_add _)⟩ (Nat.le_of_ble_eq_true rfl) rfl (fun r h9 hq => ?_)
  rcases hq with ⟨rfl, ⟨o1, rfl⟩ | ⟨o1, rfl⟩⟩
  · exact absurd (by assumption) hb
  · show jb_J _ RX12 cX12_goes 4 (Option.some .int) false 1 0 0 9 [some (.ref 105), some (.int n), some (.int 0), none] [.int 0] [s0, s1, s2, s3, s4, s5, s6, s7, s8, s9, jb_mdl I J d e kp nm W, s11] _
    refine jb_if_ne (tgt := 18) (pc' := 12) dX12_goes_9 (by decide) rfl (fun z => absurd (by decide) z) (fun _ => ?_)
    refine jb_aload_n (pc' := 13) dX12_goes_12 rfl rfl ?_
    refine jb_iconst (pc' := 14) 1 dX12_goes_13 (by decide) rfl ?_
    refine jb_callV (pc' := 17) (ci := 12) (q := 105) (As := [.int 1]) (a2 := 0) (b2 := 0) wv_X12_121 rfl dX12_goes_14 (c_finds I J d e kp nm W 1 (by decide)) rfl rfl ⟨by decide, Nat.le_of_eq (Nat.zero_add _), Nat.le_of_eq (Nat.zero_add _)⟩ (Nat.le_of_ble_eq_true rfl) rfl (fun r h9 hq => ?_)
    obtain ⟨rfl, rfl⟩ := hq
    show jb_J _ RX12 cX12_goes 4 (Option.some .int) false 1 0 0 17 [some (.ref 105), some (.int n), some (.int 0), none] [.int (jm_er 1)] [s0, s1, s2, s3, s4, s5, s6, s7, s8, s9, jb_mdl I J d e kp nm (va_up W 0 (jm_ef (W 0) 1)), s11] _
    refine jb_iret dX12_goes_17 rfl ?_
    exact ⟨rfl, rfl⟩
set_option maxRecDepth 100000 in
set_option maxHeartbeats 4000000 in
theorem me_goesS0 {sc : Nat × (Nat → Int32)} {s0 s1 s2 s3 s4 s5 s6 s7 s8 s9 s11 : List va_E} {V : Nat → Nat → Nat} (I J d e kp nm : Nat → Int32) (W : Nat → Nat → Int32) (hd : jd_ V d) (hk : jv_ok V) (n : Nat) (h1 : 1 ≤ n) (h2 : n ≤ 200) (h3 : ¬ V 0 0 + n ≤ 9999) : jb_C sc yX12_goes cX12_goes 4 (Option.some .int) 1 0 0 [.ref 105, .int (nI n), .int 0] [s0, s1, s2, s3, s4, s5, s6, s7, s8, s9, jb_mdl I J d e kp nm W, s11] (fun r h9 => r = some (.int (jm_er 3)) ∧ h9 = [s0, s1, s2, s3, s4, s5, s6, s7, s8, s9, jb_mdl I J d e kp nm (va_up W 0 (jm_ef (W 0) 3)), s11]) := by
  refine jb_CofJ (ini := false) (by decide +kernel) (fun h => by cases h) (Nat.le_of_ble_eq_true rfl) ?_
  show jb_J sc RX12 cX12_goes 4 (Option.some .int) false 1 0 0 0 [some (.ref 105), some (.int (nI n)), some (.int 0), none] [] [s0, s1, s2, s3, s4, s5, s6, s7, s8, s9, jb_mdl I J d e kp nm W, s11] _
  have hd0 := hd
  have hk0 := hk
  obtain ⟨e0, e1, e2, e3, e4, e5, e6, dv, ds, dd⟩ := hd
  obtain ⟨k0, k1, k2, k3, k4, k5, k6, k7, kv, ks, kd⟩ := hk
  refine jb_iload_n (pc' := 1) dX12_goes_0 rfl rfl ?_
  refine jb_i2l (pc' := 2) dX12_goes_1 rfl ?_
  refine jb_lconst (pc' := 3) 1 dX12_goes_2 (by decide) rfl ?_
  refine jb_ldc2 (pc' := 6) 200 dX12_goes_3 wk_X12_206 rfl ?_
  refine jb_callS (pc' := 9) (As := [.long ((nI n).toInt64), .long 1, .long 200]) (a2 := 0) (b2 := 0) wv_X12_56 dX12_goes_6 (c_inLG _ n 1 200 (by omega) (by omega) (by omega)) rfl ⟨by decide, Nat.le_of_eq (Nat.zero_add _), Nat.le_of_eq (Nat.zero_add _)⟩ (Nat.le_of_ble_eq_true rfl) rfl (fun r h9 hq => ?_)
  obtain ⟨rfl, rfl⟩ := hq
  show jb_J _ RX12 cX12_goes 4 (Option.some .int) false 1 0 0 9 [some (.ref 105), some (.int (nI n)), some (.int 0), none] [.int 1] [s0, s1, s2, s3, s4, s5, s6, s7, s8, s9, jb_mdl I J d e kp nm W, s11] _
  refine jb_if_ne (tgt := 18) (pc' := 12) dX12_goes_9 (by decide) rfl (fun _ => ?_) (fun z => absurd z (by decide))
  refine jb_aload_n (pc' := 19) dX12_goes_18 rfl rfl ?_
  refine gf_X12_7 (pc' := 22) (v := .ref 106) dX12_goes_19 rfl rfl rfl ?_
  refine jb_iconst (pc' := 23) 3 dX12_goes_22 (by decide) rfl ?_
  refine jb_iaload (pc' := 24) (i9 := 3) (f := d) dX12_goes_23 rfl jb_x3 (by decide) rfl ?_
  refine jb_top (v := .int (d 3)) (w := .int (nI (V 0 0))) (jb_vI e3) ?_
  refine jb_iload_n (pc' := 25) dX12_goes_24 rfl rfl ?_
  refine jb_iadd (pc' := 26) dX12_goes_25 rfl ?_
  refine jb_top (v := .int ((nI (V 0 0)) + (nI n))) (w := .int (nI ((V 0 0) + n))) (jb_vI (nI_add _ _)) ?_
  refine jb_sipush (pc' := 29) 9999 dX12_goes_26 (by decide) rfl ?_
  refine jb_icmp_le (tgt := 38) (pc' := 32) dX12_goes_29 (by decide) rfl (fun z => absurd z (nI_ge (a := 9999) (b := V 0 0 + n) (by omega) (by omega))) (fun _ => ?_)
  refine jb_aload_n (pc' := 33) dX12_goes_32 rfl rfl ?_
  refine jb_iconst (pc' := 34) 3 dX12_goes_33 (by decide) rfl ?_
  refine jb_callV (pc' := 37) (ci := 12) (q := 105) (As := [.int 3]) (a2 := 0) (b2 := 0) wv_X12_121 rfl dX12_goes_34 (c_finds I J d e kp nm W 3 (by decide)) rfl rfl ⟨by decide, Nat.le_of_eq (Nat.zero_add _), Nat.le_of_eq (Nat.zero_add _)⟩ (Nat.le_of_ble_eq_true rfl) rfl (fun r h9 hq => ?_)
  obtain ⟨rfl, rfl⟩ := hq
  show jb_J _ RX12 cX12_goes 4 (Option.some .int) false 1 0 0 37 [some (.ref 105), some (.int (nI n)), some (.int 0), none] [.int (jm_er 3)] [s0, s1, s2, s3, s4, s5, s6, s7, s8, s9, jb_mdl I J d e kp nm (va_up W 0 (jm_ef (W 0) 3)), s11] _
  refine jb_iret dX12_goes_37 rfl ?_
  exact ⟨rfl, rfl⟩
set_option maxRecDepth 100000 in
set_option maxHeartbeats 4000000 in
theorem mx_seconds {sc : Nat × (Nat → Int32)} {s0 s1 s2 s3 s4 s5 s6 s7 s8 s9 s11 : List va_E} {V : Nat → Nat → Nat} (I J d e kp nm : Nat → Int32) (W : Nat → Nat → Int32) (hd : jd_ V d) (hk : jv_ok V) {G : jm_G} (hG : jm_Gok G) {d0 : Nat → Int32} (hg : jGm sc d0 G) (hag : ∀ k, 316 ≤ k → d k = d0 k) (n : Nat) (h1 : 1 ≤ n) (h2 : n ≤ 200) (h3 : V 0 0 + n ≤ 9999) : jb_C sc yX12_seconds cX12_seconds 2 (Option.some .int) 50 0 0 [.ref 105, .int (nI n)] [s0, s1, s2, s3, s4, s5, s6, s7, s8, s9, jb_mdl I J d e kp nm W, s11] (fun r h9 => r = some (.int (nI ((jm_pa G false n (V, d 7)).1 0 2))) ∧ ∃ J9 nm9 d9, jd_ (jm_pa G false n (V, d 7)).1 d9 ∧ d9 7 = (jm_pa G false n (V, d 7)).2 ∧ jd_f d d9 ∧ h9 = [s0, s1, s2, s3, s4, s5, s6, s7, s8, s9, jb_mdl I J9 d9 e kp nm9 W, s11]) := by
  refine jb_CofJ (ini := false) (by decide +kernel) (fun h => by cases h) (Nat.le_of_ble_eq_true rfl) ?_
  show jb_J sc RX12 cX12_seconds 2 (Option.some .int) false 50 0 0 0 [some (.ref 105), some (.int (nI n))] [] [s0, s1, s2, s3, s4, s5, s6, s7, s8, s9, jb_mdl I J d e kp nm W, s11] _
  have hd0 := hd
  have hk0 := hk
  obtain ⟨e0, e1, e2, e3, e4, e5, e6, dv, ds, dd⟩ := hd
  obtain ⟨k0, k1, k2, k3, k4, k5, k6, k7, kv, ks, kd⟩ := hk
  refine jb_aload_n (pc' := 1) dX12_seconds_0 rfl rfl ?_
  refine jb_iload_n (pc' := 2) dX12_seconds_1 rfl rfl ?_
  refine jb_iconst (pc' := 3) 0 dX12_seconds_2 (by decide) rfl ?_
  refine jb_callV (pc' := 6) (ci := 12) (q := 105) (As := [.int (nI n), .int 0]) (a2 := 0) (b2 := 0) wv_X12_208 rfl dX12_seconds_3 (mx_goes0 I J d e kp nm W hd0 hk0 hG hg hag n h1 h2 h3) rfl rfl ⟨by decide, Nat.le_of_eq (Nat.zero_add _), Nat.le_of_eq (Nat.zero_add _)⟩ (Nat.le_of_ble_eq_true rfl) rfl (fun r h9 hq => ?_)
  obtain ⟨rfl, J9, nm9, d9, hd9, hz9, hf9, rfl⟩ := hq
  show jb_J _ RX12 cX12_seconds 2 (Option.some .int) false 50 0 0 6 [some (.ref 105), some (.int (nI n))] [.int (nI ((jm_pa G false n (V, d 7)).1 0 2))] [s0, s1, s2, s3, s4, s5, s6, s7, s8, s9, jb_mdl I J9 d9 e kp nm9 W, s11] _
  refine jb_iret dX12_seconds_6 rfl ?_
  exact ⟨rfl, J9, nm9, d9, hd9, hz9, hf9, rfl⟩
set_option maxRecDepth 100000 in
set_option maxHeartbeats 4000000 in
theorem me_seconds {sc : Nat × (Nat → Int32)} {s0 s1 s2 s3 s4 s5 s6 s7 s8 s9 s11 : List va_E} {V : Nat → Nat → Nat} (I J d e kp nm : Nat → Int32) (W : Nat → Nat → Int32) (hd : jd_ V d) (hk : jv_ok V) (n : Int32) (hb : ¬ jn_b n 1 201) : jb_C sc yX12_seconds cX12_seconds 2 (Option.some .int) 2 0 0 [.ref 105, .int n] [s0, s1, s2, s3, s4, s5, s6, s7, s8, s9, jb_mdl I J d e kp nm W, s11] (fun r h9 => r = some (.int (jm_er 1)) ∧ h9 = [s0, s1, s2, s3, s4, s5, s6, s7, s8, s9, jb_mdl I J d e kp nm (va_up W 0 (jm_ef (W 0) 1)), s11]) := by
  refine jb_CofJ (ini := false) (by decide +kernel) (fun h => by cases h) (Nat.le_of_ble_eq_true rfl) ?_
  show jb_J sc RX12 cX12_seconds 2 (Option.some .int) false 2 0 0 0 [some (.ref 105), some (.int n)] [] [s0, s1, s2, s3, s4, s5, s6, s7, s8, s9, jb_mdl I J d e kp nm W, s11] _
  have hd0 := hd
  have hk0 := hk
  obtain ⟨e0, e1, e2, e3, e4, e5, e6, dv, ds, dd⟩ := hd
  obtain ⟨k0, k1, k2, k3, k4, k5, k6, k7, kv, ks, kd⟩ := hk
  refine jb_aload_n (pc' := 1) dX12_seconds_0 rfl rfl ?_
  refine jb_iload_n (pc' := 2) dX12_seconds_1 rfl rfl ?_
  refine jb_iconst (pc' := 3) 0 dX12_seconds_2 (by decide) rfl ?_
  refine jb_callV (pc' := 6) (ci := 12) (q := 105) (As := [.int n, .int 0]) (a2 := 0) (b2 := 0) wv_X12_208 rfl dX12_seconds_3 (me_goes0 I J d e kp nm W hd0 hk0 n hb) rfl rfl ⟨by decide, Nat.le_of_eq (Nat.zero_add _), Nat.le_of_eq (Nat.zero_add _)⟩ (Nat.le_of_ble_eq_true rfl) rfl (fun r h9 hq => ?_)
  obtain ⟨rfl, rfl⟩ := hq
  show jb_J _ RX12 cX12_seconds 2 (Option.some .int) false 2 0 0 6 [some (.ref 105), some (.int n)] [.int (jm_er 1)] [s0, s1, s2, s3, s4, s5, s6, s7, s8, s9, jb_mdl I J d e kp nm (va_up W 0 (jm_ef (W 0) 1)), s11] _
  refine jb_iret dX12_seconds_6 rfl ?_
  exact ⟨rfl, rfl⟩
set_option maxRecDepth 100000 in
set_option maxHeartbeats 4000000 in
theorem me_secondsS {sc : Nat × (Nat → Int32)} {s0 s1 s2 s3 s4 s5 s6 s7 s8 s9 s11 : List va_E} {V : Nat → Nat → Nat} (I J d e kp nm : Nat → Int32) (W : Nat → Nat → Int32) (hd : jd_ V d) (hk : jv_ok V) (n : Nat) (h1 : 1 ≤ n) (h2 : n ≤ 200) (h3 : ¬ V 0 0 + n ≤ 9999) : jb_C sc yX12_seconds cX12_seconds 2 (Option.some .int) 2 0 0 [.ref 105, .int (nI n)] [s0, s1, s2, s3, s4, s5, s6, s7, s8, s9, jb_mdl I J d e kp nm W, s11] (fun r h9 => r = some (.int (jm_er 3)) ∧ h9 = [s0, s1, s2, s3, s4, s5, s6, s7, s8, s9, jb_mdl I J d e kp nm (va_up W 0 (jm_ef (W 0) 3)), s11]) := by
  refine jb_CofJ (ini := false) (by decide +kernel) (fun h => by cases h) (Nat.le_of_ble_eq_true rfl) ?_
  show jb_J sc RX12 cX12_seconds 2 (Option.some .int) false 2 0 0 0 [some (.ref 105), some (.int (nI n))] [] [s0, s1, s2, s3, s4, s5, s6, s7, s8, s9, jb_mdl I J d e kp nm W, s11] _
  have hd0 := hd
  have hk0 := hk
  obtain ⟨e0, e1, e2, e3, e4, e5, e6, dv, ds, dd⟩ := hd
  obtain ⟨k0, k1, k2, k3, k4, k5, k6, k7, kv, ks, kd⟩ := hk
  refine jb_aload_n (pc' := 1) dX12_seconds_0 rfl rfl ?_
  refine jb_iload_n (pc' := 2) dX12_seconds_1 rfl rfl ?_
  refine jb_iconst (pc' := 3) 0 dX12_seconds_2 (by decide) rfl ?_
  refine jb_callV (pc' := 6) (ci := 12) (q := 105) (As := [.int (nI n), .int 0]) (a2 := 0) (b2 := 0) wv_X12_208 rfl dX12_seconds_3 (me_goesS0 I J d e kp nm W hd0 hk0 n h1 h2 h3) rfl rfl ⟨by decide, Nat.le_of_eq (Nat.zero_add _), Nat.le_of_eq (Nat.zero_add _)⟩ (Nat.le_of_ble_eq_true rfl) rfl (fun r h9 hq => ?_)
  obtain ⟨rfl, rfl⟩ := hq
  show jb_J _ RX12 cX12_seconds 2 (Option.some .int) false 2 0 0 6 [some (.ref 105), some (.int (nI n))] [.int (jm_er 3)] [s0, s1, s2, s3, s4, s5, s6, s7, s8, s9, jb_mdl I J d e kp nm (va_up W 0 (jm_ef (W 0) 3)), s11] _
  refine jb_iret dX12_seconds_6 rfl ?_
  exact ⟨rfl, rfl⟩
set_option maxRecDepth 100000 in
set_option maxHeartbeats 4000000 in
theorem l_goes1 {sc : Nat × (Nat → Int32)} {s0 s1 s2 s3 s4 s5 s6 s7 s8 s9 s11 : List va_E} (I e kp : Nat → Int32) (W : Nat → Nat → Int32) {G : jm_G} (hG : jm_Gok G) {d0 : Nat → Int32} (hg : jGm sc d0 G) (N : Nat) (hN : N ≤ 10000) : ∀ (n i : Nat) (V : Nat → Nat → Nat) (d J nm : Nat → Int32), i + n = N → V 0 0 + n ≤ 20000 → jd_ V d → jv_ok V → (∀ k, 316 ≤ k → d k = d0 k) → jb_J sc RX12 cX12_goes 4 (Option.some .int) false 49 0 0 40 [some (.ref 105), some (.int (nI N)), some (.int 1), some (.int (nI i))] [] [s0, s1, s2, s3, s4, s5, s6, s7, s8, s9, jb_mdl I J d e kp nm W, s11] (fun r h9 => r = some (.int (nI ((jm_pa G true n (V, d 7)).1 0 2))) ∧ ∃ J9 nm9 d9, jd_ (jm_pa G true n (V, d 7)).1 d9 ∧ d9 7 = (jm_pa G true n (V, d 7)).2 ∧ jd_f d d9 ∧ h9 = [s0, s1, s2, s3, s4, s5, s6, s7, s8, s9, jb_mdl I J9 d9 e kp nm9 W, s11]) := by
  intro n
  induction n with
  | zero =>
    intro i V d J nm hi h2 hd hk hag
    have hd0 := hd
    have hk0 := hk
    obtain ⟨e0, e1, e2, e3, e4, e5, e6, dv, ds, dd⟩ := hd
    obtain ⟨k0, k1, k2, k3, k4, k5, k6, k7, kv, ks, kd⟩ := hk
    show jb_J _ RX12 cX12_goes 4 (Option.some .int) false 49 0 0 40 [some (.ref 105), some (.int (nI N)), some (.int 1), some (.int (nI i))] [] [s0, s1, s2, s3, s4, s5, s6, s7, s8, s9, jb_mdl I J d e kp nm W, s11] _
    refine jb_iload_n (pc' := 41) dX12_goes_40 rfl rfl ?_
    refine jb_iload_n (pc' := 42) dX12_goes_41 rfl rfl ?_
    refine jb_icmp_ge (tgt := 56) (pc' := 45) dX12_goes_42 (by decide) rfl (fun _ => ?_) (fun z => absurd (nI_le (a := N) (b := i) (by omega) (by omega)) z)
    refine jb_aload_n (pc' := 57) dX12_goes_56 rfl rfl ?_
    refine gf_X12_7 (pc' := 60) (v := .ref 106) dX12_goes_57 rfl rfl rfl ?_
    refine jb_iconst (pc' := 61) 5 dX12_goes_60 (by decide) rfl ?_
    refine jb_iaload (pc' := 62) (i9 := 5) (f := d) dX12_goes_61 rfl jb_x5 (by decide) rfl ?_
    refine jb_top (v := .int (d 5)) (w := .int (nI (V 0 2))) (jb_vI e5) ?_
    refine jb_iret dX12_goes_62 rfl ?_
    exact ⟨rfl, J, nm, d, hd0, rfl, jd_f.rf d, rfl⟩
  | succ n ih =>
    intro i V d J nm hi h2 hd hk hag
    show jb_J _ RX12 cX12_goes 4 (Option.some .int) false 49 0 0 40 [some (.ref 105), some (.int (nI N)), some (.int 1), some (.int (nI i))] [] [s0, s1, s2, s3, s4, s5, s6, s7, s8, s9, jb_mdl I J d e kp nm W, s11] _
    refine jb_iload_n (pc' := 41) dX12_goes_40 rfl rfl ?_
    refine jb_iload_n (pc' := 42) dX12_goes_41 rfl rfl ?_
    refine jb_icmp_ge (tgt := 56) (pc' := 45) dX12_goes_42 (by decide) rfl (fun z => absurd z (nI_ge (a := i) (b := N) (by omega) (by omega))) (fun _ => ?_)
    refine jb_aload_n (pc' := 46) dX12_goes_45 rfl rfl ?_
    refine jb_iload_n (pc' := 47) dX12_goes_46 rfl rfl ?_
    refine jb_callV (pc' := 50) (ci := 12) (q := 105) (As := [.int 1]) (a2 := 0) (b2 := 0) wv_X12_202 rfl dX12_goes_47 (c_goesBy1 I J d e kp nm W hd hk hG hg hag) rfl rfl ⟨by decide, Nat.le_of_eq (Nat.zero_add _), Nat.le_of_eq (Nat.zero_add _)⟩ (Nat.le_of_ble_eq_true rfl) rfl (fun r h9 hq => ?_)
    obtain ⟨rfl, J9, nm9, d9, hd9, hz9, hf9, rfl⟩ := hq
    show jb_J _ RX12 cX12_goes 4 (Option.some .int) false 49 0 0 50 [some (.ref 105), some (.int (nI N)), some (.int 1), some (.int (nI i))] [] [s0, s1, s2, s3, s4, s5, s6, s7, s8, s9, jb_mdl I J9 d9 e kp nm9 W, s11] _
    refine jb_iinc_ (pc' := 53) (nI (i + 1)) dX12_goes_50 (by decide) rfl (jb_inc i 1) (jb_at3 rfl) rfl ?_
    refine jb_goto (pc' := 40) dX12_goes_53 (by decide) ?_
    have e9 : jm_pa G true (n + 1) (V, d 7) = jm_pa G true n ((jm_se G true (V, d 7)).1, d9 7) := by
      rw [hz9]
      rfl
    obtain ⟨hk9, hs9, -⟩ := jv_se hk hG true (d 7) (by omega)
    refine jb_J.mono (ih (i + 1) (jm_se G true (V, d 7)).1 d9 J9 nm9 (by omega) (by omega) hd9 hk9 (fun k hk => (hf9.2.2 k hk).trans (hag k hk))) (Nat.le_refl _) (Nat.le_refl _) (Nat.le_refl _) (fun r h9 hq => ?_)
    obtain ⟨rfl, J7, nm7, d7, hd7, hz7, hf7, rfl⟩ := hq
    exact ⟨by rw [e9], J7, nm7, d7, by rw [e9]; exact hd7, by rw [e9]; exact hz7, hf9.tr hf7, rfl⟩
set_option maxRecDepth 100000 in
set_option maxHeartbeats 4000000 in
theorem mx_goes1 {sc : Nat × (Nat → Int32)} {s0 s1 s2 s3 s4 s5 s6 s7 s8 s9 s11 : List va_E} {V : Nat → Nat → Nat} (I J d e kp nm : Nat → Int32) (W : Nat → Nat → Int32) (hd : jd_ V d) (hk : jv_ok V) {G : jm_G} (hG : jm_Gok G) {d0 : Nat → Int32} (hg : jGm sc d0 G) (hag : ∀ k, 316 ≤ k → d k = d0 k) (n : Nat) (h1 : 1 ≤ n) (h2 : n ≤ 200) (h3 : V 0 0 + n ≤ 9999) : jb_C sc yX12_goes cX12_goes 4 (Option.some .int) 49 0 0 [.ref 105, .int (nI n), .int 1] [s0, s1, s2, s3, s4, s5, s6, s7, s8, s9, jb_mdl I J d e kp nm W, s11] (fun r h9 => r = some (.int (nI ((jm_pa G true n (V, d 7)).1 0 2))) ∧ ∃ J9 nm9 d9, jd_ (jm_pa G true n (V, d 7)).1 d9 ∧ d9 7 = (jm_pa G true n (V, d 7)).2 ∧ jd_f d d9 ∧ h9 = [s0, s1, s2, s3, s4, s5, s6, s7, s8, s9, jb_mdl I J9 d9 e kp nm9 W, s11]) := by
  refine jb_CofJ (ini := false) (by decide +kernel) (fun h => by cases h) (Nat.le_of_ble_eq_true rfl) ?_
  show jb_J sc RX12 cX12_goes 4 (Option.some .int) false 49 0 0 0 [some (.ref 105), some (.int (nI n)), some (.int 1), none] [] [s0, s1, s2, s3, s4, s5, s6, s7, s8, s9, jb_mdl I J d e kp nm W, s11] _
  have hd0 := hd
  have hk0 := hk
  obtain ⟨e0, e1, e2, e3, e4, e5, e6, dv, ds, dd⟩ := hd
  obtain ⟨k0, k1, k2, k3, k4, k5, k6, k7, kv, ks, kd⟩ := hk
  refine jb_iload_n (pc' := 1) dX12_goes_0 rfl rfl ?_
  refine jb_i2l (pc' := 2) dX12_goes_1 rfl ?_
  refine jb_lconst (pc' := 3) 1 dX12_goes_2 (by decide) rfl ?_
  refine jb_ldc2 (pc' := 6) 200 dX12_goes_3 wk_X12_206 rfl ?_
  refine jb_callS (pc' := 9) (As := [.long ((nI n).toInt64), .long 1, .long 200]) (a2 := 0) (b2 := 0) wv_X12_56 dX12_goes_6 (c_inLG _ n 1 200 (by omega) (by omega) (by omega)) rfl ⟨by decide, Nat.le_of_eq (Nat.zero_add _), Nat.le_of_eq (Nat.zero_add _)⟩ (Nat.le_of_ble_eq_true rfl) rfl (fun r h9 hq => ?_)
  obtain ⟨rfl, rfl⟩ := hq
  show jb_J _ RX12 cX12_goes 4 (Option.some .int) false 49 0 0 9 [some (.ref 105), some (.int (nI n)), some (.int 1), none] [.int 1] [s0, s1, s2, s3, s4, s5, s6, s7, s8, s9, jb_mdl I J d e kp nm W, s11] _
  refine jb_if_ne (tgt := 18) (pc' := 12) dX12_goes_9 (by decide) rfl (fun _ => ?_) (fun z => absurd z (by decide))
  refine jb_aload_n (pc' := 19) dX12_goes_18 rfl rfl ?_
  refine gf_X12_7 (pc' := 22) (v := .ref 106) dX12_goes_19 rfl rfl rfl ?_
  refine jb_iconst (pc' := 23) 3 dX12_goes_22 (by decide) rfl ?_
  refine jb_iaload (pc' := 24) (i9 := 3) (f := d) dX12_goes_23 rfl jb_x3 (by decide) rfl ?_
  refine jb_top (v := .int (d 3)) (w := .int (nI (V 0 0))) (jb_vI e3) ?_
  refine jb_iload_n (pc' := 25) dX12_goes_24 rfl rfl ?_
  refine jb_iadd (pc' := 26) dX12_goes_25 rfl ?_
  refine jb_top (v := .int ((nI (V 0 0)) + (nI n))) (w := .int (nI ((V 0 0) + n))) (jb_vI (nI_add _ _)) ?_
  refine jb_sipush (pc' := 29) 9999 dX12_goes_26 (by decide) rfl ?_
  refine jb_icmp_le (tgt := 38) (pc' := 32) dX12_goes_29 (by decide) rfl (fun _ => ?_) (fun z => absurd (nI_le (a := V 0 0 + n) (b := 9999) (by omega) (by omega)) z)
  refine jb_iconst (pc' := 39) 0 dX12_goes_38 (by decide) rfl ?_
  refine jb_istore_n_ (pc' := 40) dX12_goes_39 (by decide) (jb_at3 rfl) rfl ?_
  exact l_goes1 I e kp W hG hg n (by omega) n 0 V d J nm (by omega) (by omega) hd0 hk0 hag
set_option maxRecDepth 100000 in
set_option maxHeartbeats 4000000 in
theorem me_goes1 {sc : Nat × (Nat → Int32)} {s0 s1 s2 s3 s4 s5 s6 s7 s8 s9 s11 : List va_E} {V : Nat → Nat → Nat} (I J d e kp nm : Nat → Int32) (W : Nat → Nat → Int32) (hd : jd_ V d) (hk : jv_ok V) (n : Int32) (hb : ¬ jn_b n 1 201) : jb_C sc yX12_goes cX12_goes 4 (Option.some .int) 1 0 0 [.ref 105, .int n, .int 1] [s0, s1, s2, s3, s4, s5, s6, s7, s8, s9, jb_mdl I J d e kp nm W, s11] (fun r h9 => r = some (.int (jm_er 1)) ∧ h9 = [s0, s1, s2, s3, s4, s5, s6, s7, s8, s9, jb_mdl I J d e kp nm (va_up W 0 (jm_ef (W 0) 1)), s11]) := by
  refine jb_CofJ (ini := false) (by decide +kernel) (fun h => by cases h) (Nat.le_of_ble_eq_true rfl) ?_
  show jb_J sc RX12 cX12_goes 4 (Option.some .int) false 1 0 0 0 [some (.ref 105), some (.int n), some (.int 1), none] [] [s0, s1, s2, s3, s4, s5, s6, s7, s8, s9, jb_mdl I J d e kp nm W, s11] _
  have hd0 := hd
  have hk0 := hk
  obtain ⟨e0, e1, e2, e3, e4, e5, e6, dv, ds, dd⟩ := hd
  obtain ⟨k0, k1, k2, k3, k4, k5, k6, k7, kv, ks, kd⟩ := hk
  refine jb_iload_n (pc' := 1) dX12_goes_0 rfl rfl ?_
  refine jb_i2l (pc' := 2) dX12_goes_1 rfl ?_
  refine jb_lconst (pc' := 3) 1 dX12_goes_2 (by decide) rfl ?_
  refine jb_ldc2 (pc' := 6) 200 dX12_goes_3 wk_X12_206 rfl ?_
  refine jb_callS (pc' := 9) (As := [.long n.toInt64, .long 1, .long 200]) (a2 := 0) (b2 := 0) wv_X12_56 dX12_goes_6 (c_inL _ n 1 200 (by omega) (by omega)) rfl ⟨by decide, Nat.le_of_eq (Nat.zero_add _), Nat.le_of_eq (Nat.zero_add _)⟩ (Nat.le_of_ble_eq_true rfl) rfl (fun r h9 hq => ?_)
  rcases hq with ⟨rfl, ⟨o1, rfl⟩ | ⟨o1, rfl⟩⟩
  · exact absurd (by assumption) hb
  · show jb_J _ RX12 cX12_goes 4 (Option.some .int) false 1 0 0 9 [some (.ref 105), some (.int n), some (.int 1), none] [.int 0] [s0, s1, s2, s3, s4, s5, s6, s7, s8, s9, jb_mdl I J d e kp nm W, s11] _
    refine jb_if_ne (tgt := 18) (pc' := 12) dX12_goes_9 (by decide) rfl (fun z => absurd (by decide) z) (fun _ => ?_)
    refine jb_aload_n (pc' := 13) dX12_goes_12 rfl rfl ?_
    refine jb_iconst (pc' := 14) 1 dX12_goes_13 (by decide) rfl ?_
    refine jb_callV (pc' := 17) (ci := 12) (q := 105) (As := [.int 1]) (a2 := 0) (b2 := 0) wv_X12_121 rfl dX12_goes_14 (c_finds I J d e kp nm W 1 (by decide)) rfl rfl ⟨by decide, Nat.le_of_eq (Nat.zero_add _), Nat.le_of_eq (Nat.zero_add _)⟩ (Nat.le_of_ble_eq_true rfl) rfl (fun r h9 hq => ?_)
    obtain ⟨rfl, rfl⟩ := hq
    show jb_J _ RX12 cX12_goes 4 (Option.some .int) false 1 0 0 17 [some (.ref 105), some (.int n), some (.int 1), none] [.int (jm_er 1)] [s0, s1, s2, s3, s4, s5, s6, s7, s8, s9, jb_mdl I J d e kp nm (va_up W 0 (jm_ef (W 0) 1)), s11] _
    refine jb_iret dX12_goes_17 rfl ?_
    exact ⟨rfl, rfl⟩
set_option maxRecDepth 100000 in
set_option maxHeartbeats 4000000 in
theorem me_goesS1 {sc : Nat × (Nat → Int32)} {s0 s1 s2 s3 s4 s5 s6 s7 s8 s9 s11 : List va_E} {V : Nat → Nat → Nat} (I J d e kp nm : Nat → Int32) (W : Nat → Nat → Int32) (hd : jd_ V d) (hk : jv_ok V) (n : Nat) (h1 : 1 ≤ n) (h2 : n ≤ 200) (h3 : ¬ V 0 0 + n ≤ 9999) : jb_C sc yX12_goes cX12_goes 4 (Option.some .int) 1 0 0 [.ref 105, .int (nI n), .int 1] [s0, s1, s2, s3, s4, s5, s6, s7, s8, s9, jb_mdl I J d e kp nm W, s11] (fun r h9 => r = some (.int (jm_er 3)) ∧ h9 = [s0, s1, s2, s3, s4, s5, s6, s7, s8, s9, jb_mdl I J d e kp nm (va_up W 0 (jm_ef (W 0) 3)), s11]) := by
  refine jb_CofJ (ini := false) (by decide +kernel) (fun h => by cases h) (Nat.le_of_ble_eq_true rfl) ?_
  show jb_J sc RX12 cX12_goes 4 (Option.some .int) false 1 0 0 0 [some (.ref 105), some (.int (nI n)), some (.int 1), none] [] [s0, s1, s2, s3, s4, s5, s6, s7, s8, s9, jb_mdl I J d e kp nm W, s11] _
  have hd0 := hd
  have hk0 := hk
  obtain ⟨e0, e1, e2, e3, e4, e5, e6, dv, ds, dd⟩ := hd
  obtain ⟨k0, k1, k2, k3, k4, k5, k6, k7, kv, ks, kd⟩ := hk
  refine jb_iload_n (pc' := 1) dX12_goes_0 rfl rfl ?_
  refine jb_i2l (pc' := 2) dX12_goes_1 rfl ?_
  refine jb_lconst (pc' := 3) 1 dX12_goes_2 (by decide) rfl ?_
  refine jb_ldc2 (pc' := 6) 200 dX12_goes_3 wk_X12_206 rfl ?_
  refine jb_callS (pc' := 9) (As := [.long ((nI n).toInt64), .long 1, .long 200]) (a2 := 0) (b2 := 0) wv_X12_56 dX12_goes_6 (c_inLG _ n 1 200 (by omega) (by omega) (by omega)) rfl ⟨by decide, Nat.le_of_eq (Nat.zero_add _), Nat.le_of_eq (Nat.zero_add _)⟩ (Nat.le_of_ble_eq_true rfl) rfl (fun r h9 hq => ?_)
  obtain ⟨rfl, rfl⟩ := hq
  show jb_J _ RX12 cX12_goes 4 (Option.some .int) false 1 0 0 9 [some (.ref 105), some (.int (nI n)), some (.int 1), none] [.int 1] [s0, s1, s2, s3, s4, s5, s6, s7, s8, s9, jb_mdl I J d e kp nm W, s11] _
  refine jb_if_ne (tgt := 18) (pc' := 12) dX12_goes_9 (by decide) rfl (fun _ => ?_) (fun z => absurd z (by decide))
  refine jb_aload_n (pc' := 19) dX12_goes_18 rfl rfl ?_
  refine gf_X12_7 (pc' := 22) (v := .ref 106) dX12_goes_19 rfl rfl rfl ?_
  refine jb_iconst (pc' := 23) 3 dX12_goes_22 (by decide) rfl ?_
  refine jb_iaload (pc' := 24) (i9 := 3) (f := d) dX12_goes_23 rfl jb_x3 (by decide) rfl ?_
  refine jb_top (v := .int (d 3)) (w := .int (nI (V 0 0))) (jb_vI e3) ?_
  refine jb_iload_n (pc' := 25) dX12_goes_24 rfl rfl ?_
  refine jb_iadd (pc' := 26) dX12_goes_25 rfl ?_
  refine jb_top (v := .int ((nI (V 0 0)) + (nI n))) (w := .int (nI ((V 0 0) + n))) (jb_vI (nI_add _ _)) ?_
  refine jb_sipush (pc' := 29) 9999 dX12_goes_26 (by decide) rfl ?_
  refine jb_icmp_le (tgt := 38) (pc' := 32) dX12_goes_29 (by decide) rfl (fun z => absurd z (nI_ge (a := 9999) (b := V 0 0 + n) (by omega) (by omega))) (fun _ => ?_)
  refine jb_aload_n (pc' := 33) dX12_goes_32 rfl rfl ?_
  refine jb_iconst (pc' := 34) 3 dX12_goes_33 (by decide) rfl ?_
  refine jb_callV (pc' := 37) (ci := 12) (q := 105) (As := [.int 3]) (a2 := 0) (b2 := 0) wv_X12_121 rfl dX12_goes_34 (c_finds I J d e kp nm W 3 (by decide)) rfl rfl ⟨by decide, Nat.le_of_eq (Nat.zero_add _), Nat.le_of_eq (Nat.zero_add _)⟩ (Nat.le_of_ble_eq_true rfl) rfl (fun r h9 hq => ?_)
  obtain ⟨rfl, rfl⟩ := hq
  show jb_J _ RX12 cX12_goes 4 (Option.some .int) false 1 0 0 37 [some (.ref 105), some (.int (nI n)), some (.int 1), none] [.int (jm_er 3)] [s0, s1, s2, s3, s4, s5, s6, s7, s8, s9, jb_mdl I J d e kp nm (va_up W 0 (jm_ef (W 0) 3)), s11] _
  refine jb_iret dX12_goes_37 rfl ?_
  exact ⟨rfl, rfl⟩
set_option maxRecDepth 100000 in
set_option maxHeartbeats 4000000 in
theorem mx_loose {sc : Nat × (Nat → Int32)} {s0 s1 s2 s3 s4 s5 s6 s7 s8 s9 s11 : List va_E} {V : Nat → Nat → Nat} (I J d e kp nm : Nat → Int32) (W : Nat → Nat → Int32) (hd : jd_ V d) (hk : jv_ok V) {G : jm_G} (hG : jm_Gok G) {d0 : Nat → Int32} (hg : jGm sc d0 G) (hag : ∀ k, 316 ≤ k → d k = d0 k) (n : Nat) (h1 : 1 ≤ n) (h2 : n ≤ 200) (h3 : V 0 0 + n ≤ 9999) : jb_C sc yX12_loose cX12_loose 2 (Option.some .int) 50 0 0 [.ref 105, .int (nI n)] [s0, s1, s2, s3, s4, s5, s6, s7, s8, s9, jb_mdl I J d e kp nm W, s11] (fun r h9 => r = some (.int (nI ((jm_pa G true n (V, d 7)).1 0 2))) ∧ ∃ J9 nm9 d9, jd_ (jm_pa G true n (V, d 7)).1 d9 ∧ d9 7 = (jm_pa G true n (V, d 7)).2 ∧ jd_f d d9 ∧ h9 = [s0, s1, s2, s3, s4, s5, s6, s7, s8, s9, jb_mdl I J9 d9 e kp nm9 W, s11]) := by
  refine jb_CofJ (ini := false) (by decide +kernel) (fun h => by cases h) (Nat.le_of_ble_eq_true rfl) ?_
  show jb_J sc RX12 cX12_loose 2 (Option.some .int) false 50 0 0 0 [some (.ref 105), some (.int (nI n))] [] [s0, s1, s2, s3, s4, s5, s6, s7, s8, s9, jb_mdl I J d e kp nm W, s11] _
  have hd0 := hd
  have hk0 := hk
  obtain ⟨e0, e1, e2, e3, e4, e5, e6, dv, ds, dd⟩ := hd
  obtain ⟨k0, k1, k2, k3, k4, k5, k6, k7, kv, ks, kd⟩ := hk
  refine jb_aload_n (pc' := 1) dX12_loose_0 rfl rfl ?_
  refine jb_iload_n (pc' := 2) dX12_loose_1 rfl rfl ?_
  refine jb_iconst (pc' := 3) 1 dX12_loose_2 (by decide) rfl ?_
  refine jb_callV (pc' := 6) (ci := 12) (q := 105) (As := [.int (nI n), .int 1]) (a2 := 0) (b2 := 0) wv_X12_208 rfl dX12_loose_3 (mx_goes1 I J d e kp nm W hd0 hk0 hG hg hag n h1 h2 h3) rfl rfl ⟨by decide, Nat.le_of_eq (Nat.zero_add _), Nat.le_of_eq (Nat.zero_add _)⟩ (Nat.le_of_ble_eq_true rfl) rfl (fun r h9 hq => ?_)
  obtain ⟨rfl, J9, nm9, d9, hd9, hz9, hf9, rfl⟩ := hq
  show jb_J _ RX12 cX12_loose 2 (Option.some .int) false 50 0 0 6 [some (.ref 105), some (.int (nI n))] [.int (nI ((jm_pa G true n (V, d 7)).1 0 2))] [s0, s1, s2, s3, s4, s5, s6, s7, s8, s9, jb_mdl I J9 d9 e kp nm9 W, s11] _
  refine jb_iret dX12_loose_6 rfl ?_
  exact ⟨rfl, J9, nm9, d9, hd9, hz9, hf9, rfl⟩
set_option maxRecDepth 100000 in
set_option maxHeartbeats 4000000 in
theorem me_loose {sc : Nat × (Nat → Int32)} {s0 s1 s2 s3 s4 s5 s6 s7 s8 s9 s11 : List va_E} {V : Nat → Nat → Nat} (I J d e kp nm : Nat → Int32) (W : Nat → Nat → Int32) (hd : jd_ V d) (hk : jv_ok V) (n : Int32) (hb : ¬ jn_b n 1 201) : jb_C sc yX12_loose cX12_loose 2 (Option.some .int) 2 0 0 [.ref 105, .int n] [s0, s1, s2, s3, s4, s5, s6, s7, s8, s9, jb_mdl I J d e kp nm W, s11] (fun r h9 => r = some (.int (jm_er 1)) ∧ h9 = [s0, s1, s2, s3, s4, s5, s6, s7, s8, s9, jb_mdl I J d e kp nm (va_up W 0 (jm_ef (W 0) 1)), s11]) := by
  refine jb_CofJ (ini := false) (by decide +kernel) (fun h => by cases h) (Nat.le_of_ble_eq_true rfl) ?_
  show jb_J sc RX12 cX12_loose 2 (Option.some .int) false 2 0 0 0 [some (.ref 105), some (.int n)] [] [s0, s1, s2, s3, s4, s5, s6, s7, s8, s9, jb_mdl I J d e kp nm W, s11] _
  have hd0 := hd
  have hk0 := hk
  obtain ⟨e0, e1, e2, e3, e4, e5, e6, dv, ds, dd⟩ := hd
  obtain ⟨k0, k1, k2, k3, k4, k5, k6, k7, kv, ks, kd⟩ := hk
  refine jb_aload_n (pc' := 1) dX12_loose_0 rfl rfl ?_
  refine jb_iload_n (pc' := 2) dX12_loose_1 rfl rfl ?_
  refine jb_iconst (pc' := 3) 1 dX12_loose_2 (by decide) rfl ?_
  refine jb_callV (pc' := 6) (ci := 12) (q := 105) (As := [.int n, .int 1]) (a2 := 0) (b2 := 0) wv_X12_208 rfl dX12_loose_3 (me_goes1 I J d e kp nm W hd0 hk0 n hb) rfl rfl ⟨by decide, Nat.le_of_eq (Nat.zero_add _), Nat.le_of_eq (Nat.zero_add _)⟩ (Nat.le_of_ble_eq_true rfl) rfl (fun r h9 hq => ?_)
  obtain ⟨rfl, rfl⟩ := hq
  show jb_J _ RX12 cX12_loose 2 (Option.some .int) false 2 0 0 6 [some (.ref 105), some (.int n)] [.int (jm_er 1)] [s0, s1, s2, s3, s4, s5, s6, s7, s8, s9, jb_mdl I J d e kp nm (va_up W 0 (jm_ef (W 0) 1)), s11] _
  refine jb_iret dX12_loose_6 rfl ?_
  exact ⟨rfl, rfl⟩
set_option maxRecDepth 100000 in
set_option maxHeartbeats 4000000 in
theorem me_looseS {sc : Nat × (Nat → Int32)} {s0 s1 s2 s3 s4 s5 s6 s7 s8 s9 s11 : List va_E} {V : Nat → Nat → Nat} (I J d e kp nm : Nat → Int32) (W : Nat → Nat → Int32) (hd : jd_ V d) (hk : jv_ok V) (n : Nat) (h1 : 1 ≤ n) (h2 : n ≤ 200) (h3 : ¬ V 0 0 + n ≤ 9999) : jb_C sc yX12_loose cX12_loose 2 (Option.some .int) 2 0 0 [.ref 105, .int (nI n)] [s0, s1, s2, s3, s4, s5, s6, s7, s8, s9, jb_mdl I J d e kp nm W, s11] (fun r h9 => r = some (.int (jm_er 3)) ∧ h9 = [s0, s1, s2, s3, s4, s5, s6, s7, s8, s9, jb_mdl I J d e kp nm (va_up W 0 (jm_ef (W 0) 3)), s11]) := by
  refine jb_CofJ (ini := false) (by decide +kernel) (fun h => by cases h) (Nat.le_of_ble_eq_true rfl) ?_
  show jb_J sc RX12 cX12_loose 2 (Option.some .int) false 2 0 0 0 [some (.ref 105), some (.int (nI n))] [] [s0, s1, s2, s3, s4, s5, s6, s7, s8, s9, jb_mdl I J d e kp nm W, s11] _
  have hd0 := hd
  have hk0 := hk
  obtain ⟨e0, e1, e2, e3, e4, e5, e6, dv, ds, dd⟩ := hd
  obtain ⟨k0, k1, k2, k3, k4, k5, k6, k7, kv, ks, kd⟩ := hk
  refine jb_aload_n (pc' := 1) dX12_loose_0 rfl rfl ?_
  refine jb_iload_n (pc' := 2) dX12_loose_1 rfl rfl ?_
  refine jb_iconst (pc' := 3) 1 dX12_loose_2 (by decide) rfl ?_
  refine jb_callV (pc' := 6) (ci := 12) (q := 105) (As := [.int (nI n), .int 1]) (a2 := 0) (b2 := 0) wv_X12_208 rfl dX12_loose_3 (me_goesS1 I J d e kp nm W hd0 hk0 n h1 h2 h3) rfl rfl ⟨by decide, Nat.le_of_eq (Nat.zero_add _), Nat.le_of_eq (Nat.zero_add _)⟩ (Nat.le_of_ble_eq_true rfl) rfl (fun r h9 hq => ?_)
  obtain ⟨rfl, rfl⟩ := hq
  show jb_J _ RX12 cX12_loose 2 (Option.some .int) false 2 0 0 6 [some (.ref 105), some (.int (nI n))] [.int (jm_er 3)] [s0, s1, s2, s3, s4, s5, s6, s7, s8, s9, jb_mdl I J d e kp nm (va_up W 0 (jm_ef (W 0) 3)), s11] _
  refine jb_iret dX12_loose_6 rfl ?_
  exact ⟨rfl, rfl⟩
