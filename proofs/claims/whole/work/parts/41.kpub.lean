set_option maxRecDepth 100000 in
set_option maxHeartbeats 4000000 in
theorem kx_air0 {sc : Nat × (Nat → Int32)} {s2 s3 s4 s5 s6 s7 s8 s9 s10 s11 : List va_E} {V : Nat → Nat → Nat} (imm : Int32) (Im rowm stkm tpm : Nat → Int32) (Tm : Nat → Value) (I : Nat → Int32) (W : Nat → Nat → Int32) (T : Nat → Value) (hr : jr_ V I W) (hk : jv_ok V) (x : Nat) (h1 : 1 ≤ x) (h2 : x ≤ 20) : jb_C sc yX11_air cX11_air 5 (Option.some .int) 1 0 0 [.ref 0, .int 0, .int (nI x)] [jb_main imm Im Tm rowm stkm tpm, jb_sch13 I W T, s2, s3, s4, s5, s6, s7, s8, s9, s10, s11] (fun r h9 => r = some (.int (nI (V 0 4))) ∧ ∃ I9 W9, jr_ (jv_up V 0 4 x) I9 W9 ∧ I9 1 = I 1 ∧ jr_f I W I9 W9 ∧ h9 = [jb_main imm Im Tm rowm stkm tpm, jb_sch13 I9 W9 T, s2, s3, s4, s5, s6, s7, s8, s9, s10, s11]) := by
  refine jb_CofJ (ini := false) (by decide +kernel) (fun h => by cases h) (Nat.le_of_ble_eq_true rfl) ?_
  show jb_J sc RX11 cX11_air 5 (Option.some .int) false 1 0 0 0 [some (.ref 0), some (.int 0), some (.int (nI x)), none, none] [] [jb_main imm Im Tm rowm stkm tpm, jb_sch13 I W T, s2, s3, s4, s5, s6, s7, s8, s9, s10, s11] _
  have hr0 := hr
  have hk0 := hk
  obtain ⟨r0, r2, r3, r4, a0, a1, a2, rv, rs, rd⟩ := hr
  obtain ⟨k0, k1, k2, k3, k4, k5, k6, k7, kv, ks, kd⟩ := hk
  refine jb_iload_n (pc' := 1) dX11_air_0 rfl rfl ?_
  refine jb_iconst (pc' := 2) 0 dX11_air_1 (by decide) rfl ?_
  refine jb_iconst (pc' := 3) 2 dX11_air_2 (by decide) rfl ?_
  refine jb_callS (pc' := 6) (As := [.int 0, .int 0, .int 2]) (a2 := 0) (b2 := 0) wv_X11_74 dX11_air_3 (c_isOutLG 0 0 2 (by omega) (by omega) (by omega)) rfl ⟨by decide, Nat.le_of_eq (Nat.zero_add _), Nat.le_of_eq (Nat.zero_add _)⟩ (Nat.le_of_ble_eq_true rfl) rfl (fun r h9 hq => ?_)
  obtain ⟨rfl, rfl⟩ := hq
  show jb_J _ RX11 cX11_air 5 (Option.some .int) false 1 0 0 6 [some (.ref 0), some (.int 0), some (.int (nI x)), none, none] [.int 0] [jb_main imm Im Tm rowm stkm tpm, jb_sch13 I W T, s2, s3, s4, s5, s6, s7, s8, s9, s10, s11] _
  refine jb_if_eq (tgt := 15) (pc' := 9) dX11_air_6 (by decide) rfl (fun _ => ?_) (fun z => absurd (by decide) z)
  refine jb_iload_n (pc' := 16) dX11_air_15 rfl rfl ?_
  refine jb_if_ne (tgt := 37) (pc' := 19) dX11_air_16 (by decide) rfl (fun z => absurd (by decide) z) (fun _ => ?_)
  refine jb_iload_n (pc' := 20) dX11_air_19 rfl rfl ?_
  refine jb_iconst (pc' := 21) 1 dX11_air_20 (by decide) rfl ?_
  refine jb_bipush (pc' := 23) 20 dX11_air_21 (by decide) rfl ?_
  refine jb_callS (pc' := 26) (As := [.int (nI x), .int 1, .int 20]) (a2 := 0) (b2 := 0) wv_X11_74 dX11_air_23 (c_isOutLG x 1 20 (by omega) (by omega) (by omega)) rfl ⟨by decide, Nat.le_of_eq (Nat.zero_add _), Nat.le_of_eq (Nat.zero_add _)⟩ (Nat.le_of_ble_eq_true rfl) rfl (fun r h9 hq => ?_)
  obtain ⟨rfl, rfl⟩ := hq
  show jb_J _ RX11 cX11_air 5 (Option.some .int) false 1 0 0 26 [some (.ref 0), some (.int 0), some (.int (nI x)), none, none] [.int 0] [jb_main imm Im Tm rowm stkm tpm, jb_sch13 I W T, s2, s3, s4, s5, s6, s7, s8, s9, s10, s11] _
  refine jb_if_ne (tgt := 33) (pc' := 29) dX11_air_26 (by decide) rfl (fun z => absurd (by decide) z) (fun _ => ?_)
  refine jb_iconst (pc' := 30) 1 dX11_air_29 (by decide) rfl ?_
  refine jb_goto (pc' := 52) dX11_air_30 (by decide) ?_
  refine jb_istore_n_ (pc' := 53) dX11_air_52 (by decide) (jb_at3 rfl) rfl ?_
  refine jb_iload_n (pc' := 54) dX11_air_53 rfl rfl ?_
  refine jb_if_ne (tgt := 63) (pc' := 57) dX11_air_54 (by decide) rfl (fun _ => ?_) (fun z => absurd z (by decide))
  refine jb_aload_n (pc' := 64) dX11_air_63 rfl rfl ?_
  refine gf_X11_42 (pc' := 67) (v := .ref 13) dX11_air_64 rfl rfl rfl ?_
  refine gf_X11_82 (pc' := 70) (v := .ref 14) dX11_air_67 rfl rfl rfl ?_
  refine jb_iload_n (pc' := 71) dX11_air_70 rfl rfl ?_
  refine jb_iaload (pc' := 72) (i9 := 0) (f := (W 0)) dX11_air_71 rfl jb_x0 (by decide) rfl ?_
  refine jb_top (v := .int ((W 0) 0)) (w := .int (nI (V 0 4))) (jb_vI a0) ?_
  refine jb_istore_ (pc' := 74) dX11_air_72 (by decide) (jb_at4 rfl) rfl ?_
  refine jb_aload_n (pc' := 75) dX11_air_74 rfl rfl ?_
  refine gf_X11_42 (pc' := 78) (v := .ref 13) dX11_air_75 rfl rfl rfl ?_
  refine gf_X11_82 (pc' := 81) (v := .ref 14) dX11_air_78 rfl rfl rfl ?_
  refine jb_iload_n (pc' := 82) dX11_air_81 rfl rfl ?_
  refine jb_iload_n (pc' := 83) dX11_air_82 rfl rfl ?_
  refine jb_iastore (pc' := 84) (i9 := 0) (f := (W 0)) (h' := [jb_main imm Im Tm rowm stkm tpm, jb_sch13 I (va_up W 0 (upd (W 0) 0 (nI x))) T, s2, s3, s4, s5, s6, s7, s8, s9, s10, s11]) dX11_air_83 rfl jb_x0 (by decide) rfl rfl ?_
  refine jb_iload (pc' := 86) dX11_air_84 rfl rfl ?_
  refine jb_iret dX11_air_86 rfl ?_
  exact ⟨rfl, I, (va_up W 0 (upd (W 0) 0 (nI x))), jr_air0 hr0 x, rfl, ⟨rfl, rfl, rfl, rfl⟩, rfl⟩
set_option maxRecDepth 100000 in
set_option maxHeartbeats 4000000 in
theorem ke_air0 {sc : Nat × (Nat → Int32)} {s2 s3 s4 s5 s6 s7 s8 s10 s11 : List va_E} {V : Nat → Nat → Nat} (imm : Int32) (Im rowm stkm tpm : Nat → Int32) (Tm : Nat → Value) (I : Nat → Int32) (W : Nat → Nat → Int32) (T : Nat → Value) (Ia boa era : Nat → Int32) (hr : jr_ V I W) (hk : jv_ok V) (v : Int32) (hb : ¬ jn_b v 1 21) : jb_C sc yX11_air cX11_air 5 (Option.some .int) 1 0 0 [.ref 0, .int 0, .int v] [jb_main imm Im Tm rowm stkm tpm, jb_sch13 I W T, s2, s3, s4, s5, s6, s7, s8, jb_act Ia boa era, s10, s11] (fun r h9 => r = some (.int (jm_er 1)) ∧ h9 = [jb_main imm Im Tm rowm stkm tpm, jb_sch13 I W T, s2, s3, s4, s5, s6, s7, s8, jb_act Ia boa (jm_ef era 1), s10, s11]) := by
  refine jb_CofJ (ini := false) (by decide +kernel) (fun h => by cases h) (Nat.le_of_ble_eq_true rfl) ?_
  show jb_J sc RX11 cX11_air 5 (Option.some .int) false 1 0 0 0 [some (.ref 0), some (.int 0), some (.int v), none, none] [] [jb_main imm Im Tm rowm stkm tpm, jb_sch13 I W T, s2, s3, s4, s5, s6, s7, s8, jb_act Ia boa era, s10, s11] _
  have hr0 := hr
  have hk0 := hk
  obtain ⟨r0, r2, r3, r4, a0, a1, a2, rv, rs, rd⟩ := hr
  obtain ⟨k0, k1, k2, k3, k4, k5, k6, k7, kv, ks, kd⟩ := hk
  refine jb_iload_n (pc' := 1) dX11_air_0 rfl rfl ?_
  refine jb_iconst (pc' := 2) 0 dX11_air_1 (by decide) rfl ?_
  refine jb_iconst (pc' := 3) 2 dX11_air_2 (by decide) rfl ?_
  refine jb_callS (pc' := 6) (As := [.int 0, .int 0, .int 2]) (a2 := 0) (b2 := 0) wv_X11_74 dX11_air_3 (c_isOutLG 0 0 2 (by omega) (by omega) (by omega)) rfl ⟨by decide, Nat.le_of_eq (Nat.zero_add _), Nat.le_of_eq (Nat.zero_add _)⟩ (Nat.le_of_ble_eq_true rfl) rfl (fun r h9 hq => ?_)
  obtain ⟨rfl, rfl⟩ := hq
  show jb_J _ RX11 cX11_air 5 (Option.some .int) false 1 0 0 6 [some (.ref 0), some (.int 0), some (.int v), none, none] [.int 0] [jb_main imm Im Tm rowm stkm tpm, jb_sch13 I W T, s2, s3, s4, s5, s6, s7, s8, jb_act Ia boa era, s10, s11] _
  refine jb_if_eq (tgt := 15) (pc' := 9) dX11_air_6 (by decide) rfl (fun _ => ?_) (fun z => absurd (by decide) z)
  refine jb_iload_n (pc' := 16) dX11_air_15 rfl rfl ?_
  refine jb_if_ne (tgt := 37) (pc' := 19) dX11_air_16 (by decide) rfl (fun z => absurd (by decide) z) (fun _ => ?_)
  refine jb_iload_n (pc' := 20) dX11_air_19 rfl rfl ?_
  refine jb_iconst (pc' := 21) 1 dX11_air_20 (by decide) rfl ?_
  refine jb_bipush (pc' := 23) 20 dX11_air_21 (by decide) rfl ?_
  refine jb_callS (pc' := 26) (As := [.int v, .int 1, .int 20]) (a2 := 0) (b2 := 0) wv_X11_74 dX11_air_23 (c_isOutL v 1 20 (by omega) (by omega)) rfl ⟨by decide, Nat.le_of_eq (Nat.zero_add _), Nat.le_of_eq (Nat.zero_add _)⟩ (Nat.le_of_ble_eq_true rfl) rfl (fun r h9 hq => ?_)
  rcases hq with ⟨rfl, ⟨o5, rfl⟩ | ⟨o5, rfl⟩⟩
  · show jb_J _ RX11 cX11_air 5 (Option.some .int) false 1 0 0 26 [some (.ref 0), some (.int 0), some (.int v), none, none] [.int 1] [jb_main imm Im Tm rowm stkm tpm, jb_sch13 I W T, s2, s3, s4, s5, s6, s7, s8, jb_act Ia boa era, s10, s11] _
    refine jb_if_ne (tgt := 33) (pc' := 29) dX11_air_26 (by decide) rfl (fun _ => ?_) (fun z => absurd z (by decide))
    refine jb_iconst (pc' := 34) 0 dX11_air_33 (by decide) rfl ?_
    refine jb_goto (pc' := 52) dX11_air_34 (by decide) ?_
    refine jb_istore_n_ (pc' := 53) dX11_air_52 (by decide) (jb_at3 rfl) rfl ?_
    refine jb_iload_n (pc' := 54) dX11_air_53 rfl rfl ?_
    refine jb_if_ne (tgt := 63) (pc' := 57) dX11_air_54 (by decide) rfl (fun z => absurd (by decide) z) (fun _ => ?_)
    refine jb_aload_n (pc' := 58) dX11_air_57 rfl rfl ?_
    refine jb_iconst (pc' := 59) 1 dX11_air_58 (by decide) rfl ?_
    refine jb_callV (pc' := 62) (ci := 11) (q := 0) (As := [.int 1]) (a2 := 0) (b2 := 0) wv_X11_78 rfl dX11_air_59 (c_error imm Im rowm stkm tpm Tm Ia boa era 1 (by decide)) rfl rfl ⟨by decide, Nat.le_of_eq (Nat.zero_add _), Nat.le_of_eq (Nat.zero_add _)⟩ (Nat.le_of_ble_eq_true rfl) rfl (fun r h9 hq => ?_)
    obtain ⟨rfl, rfl⟩ := hq
    show jb_J _ RX11 cX11_air 5 (Option.some .int) false 1 0 0 62 [some (.ref 0), some (.int 0), some (.int v), some (.int 0), none] [.int (jm_er 1)] [jb_main imm Im Tm rowm stkm tpm, jb_sch13 I W T, s2, s3, s4, s5, s6, s7, s8, jb_act Ia boa (jm_ef era 1), s10, s11] _
    refine jb_iret dX11_air_62 rfl ?_
    exact ⟨rfl, rfl⟩
  · show jb_J _ RX11 cX11_air 5 (Option.some .int) false 1 0 0 26 [some (.ref 0), some (.int 0), some (.int v), none, none] [.int 0] [jb_main imm Im Tm rowm stkm tpm, jb_sch13 I W T, s2, s3, s4, s5, s6, s7, s8, jb_act Ia boa era, s10, s11] _
    refine jb_if_ne (tgt := 33) (pc' := 29) dX11_air_26 (by decide) rfl (fun z => absurd (by decide) z) (fun _ => ?_)
    refine jb_iconst (pc' := 30) 1 dX11_air_29 (by decide) rfl ?_
    refine jb_goto (pc' := 52) dX11_air_30 (by decide) ?_
    refine jb_istore_n_ (pc' := 53) dX11_air_52 (by decide) (jb_at3 rfl) rfl ?_
    refine jb_iload_n (pc' := 54) dX11_air_53 rfl rfl ?_
    refine jb_if_ne (tgt := 63) (pc' := 57) dX11_air_54 (by decide) rfl (fun _ => ?_) (fun z => absurd z (by decide))
    refine jb_aload_n (pc' := 64) dX11_air_63 rfl rfl ?_
    refine gf_X11_42 (pc' := 67) (v := .ref 13) dX11_air_64 rfl rfl rfl ?_
    refine gf_X11_82 (pc' := 70) (v := .ref 14) dX11_air_67 rfl rfl rfl ?_
    refine jb_iload_n (pc' := 71) dX11_air_70 rfl rfl ?_
    refine jb_iaload (pc' := 72) (i9 := 0) (f := (W 0)) dX11_air_71 rfl jb_x0 (by decide) rfl ?_
    refine jb_top (v := .int ((W 0) 0)) (w := .int (nI (V 0 4))) (jb_vI a0) ?_
    refine jb_istore_ (pc' := 74) dX11_air_72 (by decide) (jb_at4 rfl) rfl ?_
    refine jb_aload_n (pc' := 75) dX11_air_74 rfl rfl ?_
    refine gf_X11_42 (pc' := 78) (v := .ref 13) dX11_air_75 rfl rfl rfl ?_
    refine gf_X11_82 (pc' := 81) (v := .ref 14) dX11_air_78 rfl rfl rfl ?_
    refine jb_iload_n (pc' := 82) dX11_air_81 rfl rfl ?_
    refine jb_iload_n (pc' := 83) dX11_air_82 rfl rfl ?_
    refine jb_iastore (pc' := 84) (i9 := 0) (f := (W 0)) (h' := [jb_main imm Im Tm rowm stkm tpm, jb_sch13 I (va_up W 0 (upd (W 0) 0 v)) T, s2, s3, s4, s5, s6, s7, s8, jb_act Ia boa era, s10, s11]) dX11_air_83 rfl jb_x0 (by decide) rfl rfl ?_
    refine jb_iload (pc' := 86) dX11_air_84 rfl rfl ?_
    refine jb_iret dX11_air_86 rfl ?_
    exact absurd (by assumption) hb
set_option maxRecDepth 100000 in
set_option maxHeartbeats 4000000 in
theorem kx_air1 {sc : Nat × (Nat → Int32)} {s2 s3 s4 s5 s6 s7 s8 s9 s10 s11 : List va_E} {V : Nat → Nat → Nat} (imm : Int32) (Im rowm stkm tpm : Nat → Int32) (Tm : Nat → Value) (I : Nat → Int32) (W : Nat → Nat → Int32) (T : Nat → Value) (hr : jr_ V I W) (hk : jv_ok V) (x : Nat) (h1 : 0 ≤ x) (h2 : x ≤ 9) : jb_C sc yX11_air cX11_air 5 (Option.some .int) 1 0 0 [.ref 0, .int 1, .int (nI x)] [jb_main imm Im Tm rowm stkm tpm, jb_sch13 I W T, s2, s3, s4, s5, s6, s7, s8, s9, s10, s11] (fun r h9 => r = some (.int (nI (V 0 5))) ∧ ∃ I9 W9, jr_ (jv_up V 0 5 x) I9 W9 ∧ I9 1 = I 1 ∧ jr_f I W I9 W9 ∧ h9 = [jb_main imm Im Tm rowm stkm tpm, jb_sch13 I9 W9 T, s2, s3, s4, s5, s6, s7, s8, s9, s10, s11]) := by
  refine jb_CofJ (ini := false) (by decide +kernel) (fun h => by cases h) (Nat.le_of_ble_eq_true rfl) ?_
  show jb_J sc RX11 cX11_air 5 (Option.some .int) false 1 0 0 0 [some (.ref 0), some (.int 1), some (.int (nI x)), none, none] [] [jb_main imm Im Tm rowm stkm tpm, jb_sch13 I W T, s2, s3, s4, s5, s6, s7, s8, s9, s10, s11] _
  have hr0 := hr
  have hk0 := hk
  obtain ⟨r0, r2, r3, r4, a0, a1, a2, rv, rs, rd⟩ := hr
  obtain ⟨k0, k1, k2, k3, k4, k5, k6, k7, kv, ks, kd⟩ := hk
  refine jb_iload_n (pc' := 1) dX11_air_0 rfl rfl ?_
  refine jb_iconst (pc' := 2) 0 dX11_air_1 (by decide) rfl ?_
  refine jb_iconst (pc' := 3) 2 dX11_air_2 (by decide) rfl ?_
  refine jb_callS (pc' := 6) (As := [.int 1, .int 0, .int 2]) (a2 := 0) (b2 := 0) wv_X11_74 dX11_air_3 (c_isOutLG 1 0 2 (by omega) (by omega) (by omega)) rfl ⟨by decide, Nat.le_of_eq (Nat.zero_add _), Nat.le_of_eq (Nat.zero_add _)⟩ (Nat.le_of_ble_eq_true rfl) rfl (fun r h9 hq => ?_)
  obtain ⟨rfl, rfl⟩ := hq
  show jb_J _ RX11 cX11_air 5 (Option.some .int) false 1 0 0 6 [some (.ref 0), some (.int 1), some (.int (nI x)), none, none] [.int 0] [jb_main imm Im Tm rowm stkm tpm, jb_sch13 I W T, s2, s3, s4, s5, s6, s7, s8, s9, s10, s11] _
  refine jb_if_eq (tgt := 15) (pc' := 9) dX11_air_6 (by decide) rfl (fun _ => ?_) (fun z => absurd (by decide) z)
  refine jb_iload_n (pc' := 16) dX11_air_15 rfl rfl ?_
  refine jb_if_ne (tgt := 37) (pc' := 19) dX11_air_16 (by decide) rfl (fun _ => ?_) (fun z => absurd z (by decide))
  refine jb_iload_n (pc' := 38) dX11_air_37 rfl rfl ?_
  refine jb_iconst (pc' := 39) 0 dX11_air_38 (by decide) rfl ?_
  refine jb_bipush (pc' := 41) 9 dX11_air_39 (by decide) rfl ?_
  refine jb_callS (pc' := 44) (As := [.int (nI x), .int 0, .int 9]) (a2 := 0) (b2 := 0) wv_X11_74 dX11_air_41 (c_isOutLG x 0 9 (by omega) (by omega) (by omega)) rfl ⟨by decide, Nat.le_of_eq (Nat.zero_add _), Nat.le_of_eq (Nat.zero_add _)⟩ (Nat.le_of_ble_eq_true rfl) rfl (fun r h9 hq => ?_)
  obtain ⟨rfl, rfl⟩ := hq
  show jb_J _ RX11 cX11_air 5 (Option.some .int) false 1 0 0 44 [some (.ref 0), some (.int 1), some (.int (nI x)), none, none] [.int 0] [jb_main imm Im Tm rowm stkm tpm, jb_sch13 I W T, s2, s3, s4, s5, s6, s7, s8, s9, s10, s11] _
  refine jb_if_ne (tgt := 51) (pc' := 47) dX11_air_44 (by decide) rfl (fun z => absurd (by decide) z) (fun _ => ?_)
  refine jb_iconst (pc' := 48) 1 dX11_air_47 (by decide) rfl ?_
  refine jb_goto (pc' := 52) dX11_air_48 (by decide) ?_
  refine jb_istore_n_ (pc' := 53) dX11_air_52 (by decide) (jb_at3 rfl) rfl ?_
  refine jb_iload_n (pc' := 54) dX11_air_53 rfl rfl ?_
  refine jb_if_ne (tgt := 63) (pc' := 57) dX11_air_54 (by decide) rfl (fun _ => ?_) (fun z => absurd z (by decide))
  refine jb_aload_n (pc' := 64) dX11_air_63 rfl rfl ?_
  refine gf_X11_42 (pc' := 67) (v := .ref 13) dX11_air_64 rfl rfl rfl ?_
  refine gf_X11_82 (pc' := 70) (v := .ref 14) dX11_air_67 rfl rfl rfl ?_
  refine jb_iload_n (pc' := 71) dX11_air_70 rfl rfl ?_
  refine jb_iaload (pc' := 72) (i9 := 1) (f := (W 0)) dX11_air_71 rfl jb_x1 (by decide) rfl ?_
  refine jb_top (v := .int ((W 0) 1)) (w := .int (nI (V 0 5))) (jb_vI a1) ?_
  refine jb_istore_ (pc' := 74) dX11_air_72 (by decide) (jb_at4 rfl) rfl ?_
  refine jb_aload_n (pc' := 75) dX11_air_74 rfl rfl ?_
  refine gf_X11_42 (pc' := 78) (v := .ref 13) dX11_air_75 rfl rfl rfl ?_
  refine gf_X11_82 (pc' := 81) (v := .ref 14) dX11_air_78 rfl rfl rfl ?_
  refine jb_iload_n (pc' := 82) dX11_air_81 rfl rfl ?_
  refine jb_iload_n (pc' := 83) dX11_air_82 rfl rfl ?_
  refine jb_iastore (pc' := 84) (i9 := 1) (f := (W 0)) (h' := [jb_main imm Im Tm rowm stkm tpm, jb_sch13 I (va_up W 0 (upd (W 0) 1 (nI x))) T, s2, s3, s4, s5, s6, s7, s8, s9, s10, s11]) dX11_air_83 rfl jb_x1 (by decide) rfl rfl ?_
  refine jb_iload (pc' := 86) dX11_air_84 rfl rfl ?_
  refine jb_iret dX11_air_86 rfl ?_
  exact ⟨rfl, I, (va_up W 0 (upd (W 0) 1 (nI x))), jr_air1 hr0 x, rfl, ⟨rfl, rfl, rfl, rfl⟩, rfl⟩
set_option maxRecDepth 100000 in
set_option maxHeartbeats 4000000 in
theorem ke_air1 {sc : Nat × (Nat → Int32)} {s2 s3 s4 s5 s6 s7 s8 s10 s11 : List va_E} {V : Nat → Nat → Nat} (imm : Int32) (Im rowm stkm tpm : Nat → Int32) (Tm : Nat → Value) (I : Nat → Int32) (W : Nat → Nat → Int32) (T : Nat → Value) (Ia boa era : Nat → Int32) (hr : jr_ V I W) (hk : jv_ok V) (v : Int32) (hb : ¬ jn_b v 0 10) : jb_C sc yX11_air cX11_air 5 (Option.some .int) 1 0 0 [.ref 0, .int 1, .int v] [jb_main imm Im Tm rowm stkm tpm, jb_sch13 I W T, s2, s3, s4, s5, s6, s7, s8, jb_act Ia boa era, s10, s11] (fun r h9 => r = some (.int (jm_er 1)) ∧ h9 = [jb_main imm Im Tm rowm stkm tpm, jb_sch13 I W T, s2, s3, s4, s5, s6, s7, s8, jb_act Ia boa (jm_ef era 1), s10, s11]) := by
  refine jb_CofJ (ini := false) (by decide +kernel) (fun h => by cases h) (Nat.le_of_ble_eq_true rfl) ?_
  show jb_J sc RX11 cX11_air 5 (Option.some .int) false 1 0 0 0 [some (.ref 0), some (.int 1), some (.int v), none, none] [] [jb_main imm Im Tm rowm stkm tpm, jb_sch13 I W T, s2, s3, s4, s5, s6, s7, s8, jb_act Ia boa era, s10, s11] _
  have hr0 := hr
  have hk0 := hk
  obtain ⟨r0, r2, r3, r4, a0, a1, a2, rv, rs, rd⟩ := hr
  obtain ⟨k0, k1, k2, k3, k4, k5, k6, k7, kv, ks, kd⟩ := hk
  refine jb_iload_n (pc' := 1) dX11_air_0 rfl rfl ?_
  refine jb_iconst (pc' := 2) 0 dX11_air_1 (by decide) rfl ?_
  refine jb_iconst (pc' := 3) 2 dX11_air_2 (by decide) rfl ?_
  refine jb_callS (pc' := 6) (As := [.int 1, .int 0, .int 2]) (a2 := 0) (b2 := 0) wv_X11_74 dX11_air_3 (c_isOutLG 1 0 2 (by omega) (by omega) (by omega)) rfl ⟨by decide, Nat.le_of_eq (Nat.zero_add _), Nat.le_of_eq (Nat.zero_add _)⟩ (Nat.le_of_ble_eq_true rfl) rfl (fun r h9 hq => ?_)
  obtain ⟨rfl, rfl⟩ := hq
  show jb_J _ RX11 cX11_air 5 (Option.some .int) false 1 0 0 6 [some (.ref 0), some (.int 1), some (.int v), none, none] [.int 0] [jb_main imm Im Tm rowm stkm tpm, jb_sch13 I W T, s2, s3, s4, s5, s6, s7, s8, jb_act Ia boa era, s10, s11] _
  refine jb_if_eq (tgt := 15) (pc' := 9) dX11_air_6 (by decide) rfl (fun _ => ?_) (fun z => absurd (by decide) z)
  refine jb_iload_n (pc' := 16) dX11_air_15 rfl rfl ?_
  refine jb_if_ne (tgt := 37) (pc' := 19) dX11_air_16 (by decide) rfl (fun _ => ?_) (fun z => absurd z (by decide))
  refine jb_iload_n (pc' := 38) dX11_air_37 rfl rfl ?_
  refine jb_iconst (pc' := 39) 0 dX11_air_38 (by decide) rfl ?_
  refine jb_bipush (pc' := 41) 9 dX11_air_39 (by decide) rfl ?_
  refine jb_callS (pc' := 44) (As := [.int v, .int 0, .int 9]) (a2 := 0) (b2 := 0) wv_X11_74 dX11_air_41 (c_isOutL v 0 9 (by omega) (by omega)) rfl ⟨by decide, Nat.le_of_eq (Nat.zero_add _), Nat.le_of_eq (Nat.zero_add _)⟩ (Nat.le_of_ble_eq_true rfl) rfl (fun r h9 hq => ?_)
  rcases hq with ⟨rfl, ⟨o5, rfl⟩ | ⟨o5, rfl⟩⟩
  · show jb_J _ RX11 cX11_air 5 (Option.some .int) false 1 0 0 44 [some (.ref 0), some (.int 1), some (.int v), none, none] [.int 1] [jb_main imm Im Tm rowm stkm tpm, jb_sch13 I W T, s2, s3, s4, s5, s6, s7, s8, jb_act Ia boa era, s10, s11] _
    refine jb_if_ne (tgt := 51) (pc' := 47) dX11_air_44 (by decide) rfl (fun _ => ?_) (fun z => absurd z (by decide))
    refine jb_iconst (pc' := 52) 0 dX11_air_51 (by decide) rfl ?_
    refine jb_istore_n_ (pc' := 53) dX11_air_52 (by decide) (jb_at3 rfl) rfl ?_
    refine jb_iload_n (pc' := 54) dX11_air_53 rfl rfl ?_
    refine jb_if_ne (tgt := 63) (pc' := 57) dX11_air_54 (by decide) rfl (fun z => absurd (by decide) z) (fun _ => ?_)
    refine jb_aload_n (pc' := 58) dX11_air_57 rfl rfl ?_
    refine jb_iconst (pc' := 59) 1 dX11_air_58 (by decide) rfl ?_
    refine jb_callV (pc' := 62) (ci := 11) (q := 0) (As := [.int 1]) (a2 := 0) (b2 := 0) wv_X11_78 rfl dX11_air_59 (c_error imm Im rowm stkm tpm Tm Ia boa era 1 (by decide)) rfl rfl ⟨by decide, Nat.le_of_eq (Nat.zero_add _), Nat.le_of_eq (Nat.zero_add _)⟩ (Nat.le_of_ble_eq_true rfl) rfl (fun r h9 hq => ?_)
    obtain ⟨rfl, rfl⟩ := hq
    show jb_J _ RX11 cX11_air 5 (Option.some .int) false 1 0 0 62 [some (.ref 0), some (.int 1), some (.int v), some (.int 0), none] [.int (jm_er 1)] [jb_main imm Im Tm rowm stkm tpm, jb_sch13 I W T, s2, s3, s4, s5, s6, s7, s8, jb_act Ia boa (jm_ef era 1), s10, s11] _
    refine jb_iret dX11_air_62 rfl ?_
    exact ⟨rfl, rfl⟩
  · show jb_J _ RX11 cX11_air 5 (Option.some .int) false 1 0 0 44 [some (.ref 0), some (.int 1), some (.int v), none, none] [.int 0] [jb_main imm Im Tm rowm stkm tpm, jb_sch13 I W T, s2, s3, s4, s5, s6, s7, s8, jb_act Ia boa era, s10, s11] _
    refine jb_if_ne (tgt := 51) (pc' := 47) dX11_air_44 (by decide) rfl (fun z => absurd (by decide) z) (fun _ => ?_)
    refine jb_iconst (pc' := 48) 1 dX11_air_47 (by decide) rfl ?_
    refine jb_goto (pc' := 52) dX11_air_48 (by decide) ?_
    refine jb_istore_n_ (pc' := 53) dX11_air_52 (by decide) (jb_at3 rfl) rfl ?_
    refine jb_iload_n (pc' := 54) dX11_air_53 rfl rfl ?_
    refine jb_if_ne (tgt := 63) (pc' := 57) dX11_air_54 (by decide) rfl (fun _ => ?_) (fun z => absurd z (by decide))
    refine jb_aload_n (pc' := 64) dX11_air_63 rfl rfl ?_
    refine gf_X11_42 (pc' := 67) (v := .ref 13) dX11_air_64 rfl rfl rfl ?_
    refine gf_X11_82 (pc' := 70) (v := .ref 14) dX11_air_67 rfl rfl rfl ?_
    refine jb_iload_n (pc' := 71) dX11_air_70 rfl rfl ?_
    refine jb_iaload (pc' := 72) (i9 := 1) (f := (W 0)) dX11_air_71 rfl jb_x1 (by decide) rfl ?_
    refine jb_top (v := .int ((W 0) 1)) (w := .int (nI (V 0 5))) (jb_vI a1) ?_
    refine jb_istore_ (pc' := 74) dX11_air_72 (by decide) (jb_at4 rfl) rfl ?_
    refine jb_aload_n (pc' := 75) dX11_air_74 rfl rfl ?_
    refine gf_X11_42 (pc' := 78) (v := .ref 13) dX11_air_75 rfl rfl rfl ?_
    refine gf_X11_82 (pc' := 81) (v := .ref 14) dX11_air_78 rfl rfl rfl ?_
    refine jb_iload_n (pc' := 82) dX11_air_81 rfl rfl ?_
    refine jb_iload_n (pc' := 83) dX11_air_82 rfl rfl ?_
    refine jb_iastore (pc' := 84) (i9 := 1) (f := (W 0)) (h' := [jb_main imm Im Tm rowm stkm tpm, jb_sch13 I (va_up W 0 (upd (W 0) 1 v)) T, s2, s3, s4, s5, s6, s7, s8, jb_act Ia boa era, s10, s11]) dX11_air_83 rfl jb_x1 (by decide) rfl rfl ?_
    refine jb_iload (pc' := 86) dX11_air_84 rfl rfl ?_
    refine jb_iret dX11_air_86 rfl ?_
    exact absurd (by assumption) hb
set_option maxRecDepth 100000 in
set_option maxHeartbeats 4000000 in
theorem kx_air2 {sc : Nat × (Nat → Int32)} {s2 s3 s4 s5 s6 s7 s8 s9 s10 s11 : List va_E} {V : Nat → Nat → Nat} (imm : Int32) (Im rowm stkm tpm : Nat → Int32) (Tm : Nat → Value) (I : Nat → Int32) (W : Nat → Nat → Int32) (T : Nat → Value) (hr : jr_ V I W) (hk : jv_ok V) (x : Nat) (h1 : 0 ≤ x) (h2 : x ≤ 9) : jb_C sc yX11_air cX11_air 5 (Option.some .int) 1 0 0 [.ref 0, .int 2, .int (nI x)] [jb_main imm Im Tm rowm stkm tpm, jb_sch13 I W T, s2, s3, s4, s5, s6, s7, s8, s9, s10, s11] (fun r h9 => r = some (.int (nI (V 0 6))) ∧ ∃ I9 W9, jr_ (jv_up V 0 6 x) I9 W9 ∧ I9 1 = I 1 ∧ jr_f I W I9 W9 ∧ h9 = [jb_main imm Im Tm rowm stkm tpm, jb_sch13 I9 W9 T, s2, s3, s4, s5, s6, s7, s8, s9, s10, s11]) := by
  refine jb_CofJ (ini := false) (by decide +kernel) (fun h => by cases h) (Nat.le_of_ble_eq_true rfl) ?_
  show jb_J sc RX11 cX11_air 5 (Option.some .int) false 1 0 0 0 [some (.ref 0), some (.int 2), some (.int (nI x)), none, none] [] [jb_main imm Im Tm rowm stkm tpm, jb_sch13 I W T, s2, s3, s4, s5, s6, s7, s8, s9, s10, s11] _
  have hr0 := hr
  have hk0 := hk
  obtain ⟨r0, r2, r3, r4, a0, a1, a2, rv, rs, rd⟩ := hr
  obtain ⟨k0, k1, k2, k3, k4, k5, k6, k7, kv, ks, kd⟩ := hk
  refine jb_iload_n (pc' := 1) dX11_air_0 rfl rfl ?_
  refine jb_iconst (pc' := 2) 0 dX11_air_1 (by decide) rfl ?_
  refine jb_iconst (pc' := 3) 2 dX11_air_2 (by decide) rfl ?_
  refine jb_callS (pc' := 6) (As := [.int 2, .int 0, .int 2]) (a2 := 0) (b2 := 0) wv_X11_74 dX11_air_3 (c_isOutLG 2 0 2 (by omega) (by omega) (by omega)) rfl ⟨by decide, Nat.le_of_eq (Nat.zero_add _), Nat.le_of_eq (Nat.zero_add _)⟩ (Nat.le_of_ble_eq_true rfl) rfl (fun r h9 hq => ?_)
  obtain ⟨rfl, rfl⟩ := hq
  show jb_J _ RX11 cX11_air 5 (Option.some .int) false 1 0 0 6 [some (.ref 0), some (.int 2), some (.int (nI x)), none, none] [.int 0] [jb_main imm Im Tm rowm stkm tpm, jb_sch13 I W T, s2, s3, s4, s5, s6, s7, s8, s9, s10, s11] _
  refine jb_if_eq (tgt := 15) (pc' := 9) dX11_air_6 (by decide) rfl (fun _ => ?_) (fun z => absurd (by decide) z)
  refine jb_iload_n (pc' := 16) dX11_air_15 rfl rfl ?_
  refine jb_if_ne (tgt := 37) (pc' := 19) dX11_air_16 (by decide) rfl (fun _ => ?_) (fun z => absurd z (by decide))
  refine jb_iload_n (pc' := 38) dX11_air_37 rfl rfl ?_
  refine jb_iconst (pc' := 39) 0 dX11_air_38 (by decide) rfl ?_
  refine jb_bipush (pc' := 41) 9 dX11_air_39 (by decide) rfl ?_
  refine jb_callS (pc' := 44) (As := [.int (nI x), .int 0, .int 9]) (a2 := 0) (b2 := 0) wv_X11_74 dX11_air_41 (c_isOutLG x 0 9 (by omega) (by omega) (by omega)) rfl ⟨by decide, Nat.le_of_eq (Nat.zero_add _), Nat.le_of_eq (Nat.zero_add _)⟩ (Nat.le_of_ble_eq_true rfl) rfl (fun r h9 hq => ?_)
  obtain ⟨rfl, rfl⟩ := hq
  show jb_J _ RX11 cX11_air 5 (Option.some .int) false 1 0 0 44 [some (.ref 0), some (.int 2), some (.int (nI x)), none, none] [.int 0] [jb_main imm Im Tm rowm stkm tpm, jb_sch13 I W T, s2, s3, s4, s5, s6, s7, s8, s9, s10, s11] _
  refine jb_if_ne (tgt := 51) (pc' := 47) dX11_air_44 (by decide) rfl (fun z => absurd (by decide) z) (fun _ => ?_)
  refine jb_iconst (pc' := 48) 1 dX11_air_47 (by decide) rfl ?_
  refine jb_goto (pc' := 52) dX11_air_48 (by decide) ?_
  refine jb_istore_n_ (pc' := 53) dX11_air_52 (by decide) (jb_at3 rfl) rfl ?_
  refine jb_iload_n (pc' := 54) dX11_air_53 rfl rfl ?_
  refine jb_if_ne (tgt := 63) (pc' := 57) dX11_air_54 (by decide) rfl (fun _ => ?_) (fun z => absurd z (by decide))
  refine jb_aload_n (pc' := 64) dX11_air_63 rfl rfl ?_
  refine gf_X11_42 (pc' := 67) (v := .ref 13) dX11_air_64 rfl rfl rfl ?_
  refine gf_X11_82 (pc' := 70) (v := .ref 14) dX11_air_67 rfl rfl rfl ?_
  refine jb_iload_n (pc' := 71) dX11_air_70 rfl rfl ?_
  refine jb_iaload (pc' := 72) (i9 := 2) (f := (W 0)) dX11_air_71 rfl jb_x2 (by decide) rfl ?_
  refine jb_top (v := .int ((W 0) 2)) (w := .int (nI (V 0 6))) (jb_vI a2) ?_
  refine jb_istore_ (pc' := 74) dX11_air_72 (by decide) (jb_at4 rfl) rfl ?_
  refine jb_aload_n (pc' := 75) dX11_air_74 rfl rfl ?_
  refine gf_X11_42 (pc' := 78) (v := .ref 13) dX11_air_75 rfl rfl rfl ?_
  refine gf_X11_82 (pc' := 81) (v := .ref 14) dX11_air_78 rfl rfl rfl ?_
  refine jb_iload_n (pc' := 82) dX11_air_81 rfl rfl ?_
  refine jb_iload_n (pc' := 83) dX11_air_82 rfl rfl ?_
  refine jb_iastore (pc' := 84) (i9 := 2) (f := (W 0)) (h' := [jb_main imm Im Tm rowm stkm tpm, jb_sch13 I (va_up W 0 (upd (W 0) 2 (nI x))) T, s2, s3, s4, s5, s6, s7, s8, s9, s10, s11]) dX11_air_83 rfl jb_x2 (by decide) rfl rfl ?_
  refine jb_iload (pc' := 86) dX11_air_84 rfl rfl ?_
  refine jb_iret dX11_air_86 rfl ?_
  exact ⟨rfl, I, (va_up W 0 (upd (W 0) 2 (nI x))), jr_air2 hr0 x, rfl, ⟨rfl, rfl, rfl, rfl⟩, rfl⟩
set_option maxRecDepth 100000 in
set_option maxHeartbeats 4000000 in
theorem ke_air2 {sc : Nat × (Nat → Int32)} {s2 s3 s4 s5 s6 s7 s8 s10 s11 : List va_E} {V : Nat → Nat → Nat} (imm : Int32) (Im rowm stkm tpm : Nat → Int32) (Tm : Nat → Value) (I : Nat → Int32) (W : Nat → Nat → Int32) (T : Nat → Value) (Ia boa era : Nat → Int32) (hr : jr_ V I W) (hk : jv_ok V) (v : Int32) (hb : ¬ jn_b v 0 10) : jb_C sc yX11_air cX11_air 5 (Option.some .int) 1 0 0 [.ref 0, .int 2, .int v] [jb_main imm Im Tm rowm stkm tpm, jb_sch13 I W T, s2, s3, s4, s5, s6, s7, s8, jb_act Ia boa era, s10, s11] (fun r h9 => r = some (.int (jm_er 1)) ∧ h9 = [jb_main imm Im Tm rowm stkm tpm, jb_sch13 I W T, s2, s3, s4, s5, s6, s7, s8, jb_act Ia boa (jm_ef era 1), s10, s11]) := by
  refine jb_CofJ (ini := false) (by decide +kernel) (fun h => by cases h) (Nat.le_of_ble_eq_true rfl) ?_
  show jb_J sc RX11 cX11_air 5 (Option.some .int) false 1 0 0 0 [some (.ref 0), some (.int 2), some (.int v), none, none] [] [jb_main imm Im Tm rowm stkm tpm, jb_sch13 I W T, s2, s3, s4, s5, s6, s7, s8, jb_act Ia boa era, s10, s11] _
  have hr0 := hr
  have hk0 := hk
  obtain ⟨r0, r2, r3, r4, a0, a1, a2, rv, rs, rd⟩ := hr
  obtain ⟨k0, k1, k2, k3, k4, k5, k6, k7, kv, ks, kd⟩ := hk
  refine jb_iload_n (pc' := 1) dX11_air_0 rfl rfl ?_
  refine jb_iconst (pc' := 2) 0 dX11_air_1 (by decide) rfl ?_
  refine jb_iconst (pc' := 3) 2 dX11_air_2 (by decide) rfl ?_
  refine jb_callS (pc' := 6) (As := [.int 2, .int 0, .int 2]) (a2 := 0) (b2 := 0) wv_X11_74 dX11_air_3 (c_isOutLG 2 0 2 (by omega) (by omega) (by omega)) rfl ⟨by decide, Nat.le_of_eq (Nat.zero_add _), Nat.le_of_eq (Nat.zero_add _)⟩ (Nat.le_of_ble_eq_true rfl) rfl (fun r h9 hq => ?_)
  obtain ⟨rfl, rfl⟩ := hq
  show jb_J _ RX11 cX11_air 5 (Option.some .int) false 1 0 0 6 [some (.ref 0), some (.int 2), some (.int v), none, none] [.int 0] [jb_main imm Im Tm rowm stkm tpm, jb_sch13 I W T, s2, s3, s4, s5, s6, s7, s8, jb_act Ia boa era, s10, s11] _
  refine jb_if_eq (tgt := 15) (pc' := 9) dX11_air_6 (by decide) rfl (fun _ => ?_) (fun z => absurd (by decide) z)
  refine jb_iload_n (pc' := 16) dX11_air_15 rfl rfl ?_
  refine jb_if_ne (tgt := 37) (pc' := 19) dX11_air_16 (by decide) rfl (fun _ => ?_) (fun z => absurd z (by decide))
  refine jb_iload_n (pc' := 38) dX11_air_37 rfl rfl ?_
  refine jb_iconst (pc' := 39) 0 dX11_air_38 (by decide) rfl ?_
  refine jb_bipush (pc' := 41) 9 dX11_air_39 (by decide) rfl ?_
  refine jb_callS (pc' := 44) (As := [.int v, .int 0, .int 9]) (a2 := 0) (b2 := 0) wv_X11_74 dX11_air_41 (c_isOutL v 0 9 (by omega) (by omega)) rfl ⟨by decide, Nat.le_of_eq (Nat.zero_add _), Nat.le_of_eq (Nat.zero_add _)⟩ (Nat.le_of_ble_eq_true rfl) rfl (fun r h9 hq => ?_)
  rcases hq with ⟨rfl, ⟨o5, rfl⟩ | ⟨o5, rfl⟩⟩
  · show jb_J _ RX11 cX11_air 5 (Option.some .int) false 1 0 0 44 [some (.ref 0), some (.int 2), some (.int v), none, none] [.int 1] [jb_main imm Im Tm rowm stkm tpm, jb_sch13 I W T, s2, s3, s4, s5, s6, s7, s8, jb_act Ia boa era, s10, s11] _
    refine jb_if_ne (tgt := 51) (pc' := 47) dX11_air_44 (by decide) rfl (fun _ => ?_) (fun z => absurd z (by decide))
    refine jb_iconst (pc' := 52) 0 dX11_air_51 (by decide) rfl ?_
    refine jb_istore_n_ (pc' := 53) dX11_air_52 (by decide) (jb_at3 rfl) rfl ?_
    refine jb_iload_n (pc' := 54) dX11_air_53 rfl rfl ?_
    refine jb_if_ne (tgt := 63) (pc' := 57) dX11_air_54 (by decide) rfl (fun z => absurd (by decide) z) (fun _ => ?_)
    refine jb_aload_n (pc' := 58) dX11_air_57 rfl rfl ?_
    refine jb_iconst (pc' := 59) 1 dX11_air_58 (by decide) rfl ?_
    refine jb_callV (pc' := 62) (ci := 11) (q := 0) (As := [.int 1]) (a2 := 0) (b2 := 0) wv_X11_78 rfl dX11_air_59 (c_error imm Im rowm stkm tpm Tm Ia boa era 1 (by decide)) rfl rfl ⟨by decide, Nat.le_of_eq (Nat.zero_add _), Nat.le_of_eq (Nat.zero_add _)⟩ (Nat.le_of_ble_eq_true rfl) rfl (fun r h9 hq => ?_)
    obtain ⟨rfl, rfl⟩ := hq
    show jb_J _ RX11 cX11_air 5 (Option.some .int) false 1 0 0 62 [some (.ref 0), some (.int 2), some (.int v), some (.int 0), none] [.int (jm_er 1)] [jb_main imm Im Tm rowm stkm tpm, jb_sch13 I W T, s2, s3, s4, s5, s6, s7, s8, jb_act Ia boa (jm_ef era 1), s10, s11] _
    refine jb_iret dX11_air_62 rfl ?_
    exact ⟨rfl, rfl⟩
  · show jb_J _ RX11 cX11_air 5 (Option.some .int) false 1 0 0 44 [some (.ref 0), some (.int 2), some (.int v), none, none] [.int 0] [jb_main imm Im Tm rowm stkm tpm, jb_sch13 I W T, s2, s3, s4, s5, s6, s7, s8, jb_act Ia boa era, s10, s11] _
    refine jb_if_ne (tgt := 51) (pc' := 47) dX11_air_44 (by decide) rfl (fun z => absurd (by decide) z) (fun _ => ?_)
    refine jb_iconst (pc' := 48) 1 dX11_air_47 (by decide) rfl ?_
    refine jb_goto (pc' := 52) dX11_air_48 (by decide) ?_
    refine jb_istore_n_ (pc' := 53) dX11_air_52 (by decide) (jb_at3 rfl) rfl ?_
    refine jb_iload_n (pc' := 54) dX11_air_53 rfl rfl ?_
    refine jb_if_ne (tgt := 63) (pc' := 57) dX11_air_54 (by decide) rfl (fun _ => ?_) (fun z => absurd z (by decide))
    refine jb_aload_n (pc' := 64) dX11_air_63 rfl rfl ?_
    refine gf_X11_42 (pc' := 67) (v := .ref 13) dX11_air_64 rfl rfl rfl ?_
    refine gf_X11_82 (pc' := 70) (v := .ref 14) dX11_air_67 rfl rfl rfl ?_
    refine jb_iload_n (pc' := 71) dX11_air_70 rfl rfl ?_
    refine jb_iaload (pc' := 72) (i9 := 2) (f := (W 0)) dX11_air_71 rfl jb_x2 (by decide) rfl ?_
    refine jb_top (v := .int ((W 0) 2)) (w := .int (nI (V 0 6))) (jb_vI a2) ?_
    refine jb_istore_ (pc' := 74) dX11_air_72 (by decide) (jb_at4 rfl) rfl ?_
    refine jb_aload_n (pc' := 75) dX11_air_74 rfl rfl ?_
    refine gf_X11_42 (pc' := 78) (v := .ref 13) dX11_air_75 rfl rfl rfl ?_
    refine gf_X11_82 (pc' := 81) (v := .ref 14) dX11_air_78 rfl rfl rfl ?_
    refine jb_iload_n (pc' := 82) dX11_air_81 rfl rfl ?_
    refine jb_iload_n (pc' := 83) dX11_air_82 rfl rfl ?_
    refine jb_iastore (pc' := 84) (i9 := 2) (f := (W 0)) (h' := [jb_main imm Im Tm rowm stkm tpm, jb_sch13 I (va_up W 0 (upd (W 0) 2 v)) T, s2, s3, s4, s5, s6, s7, s8, jb_act Ia boa era, s10, s11]) dX11_air_83 rfl jb_x2 (by decide) rfl rfl ?_
    refine jb_iload (pc' := 86) dX11_air_84 rfl rfl ?_
    refine jb_iret dX11_air_86 rfl ?_
    exact absurd (by assumption) hb
set_option maxRecDepth 100000 in
set_option maxHeartbeats 4000000 in
theorem ke_air {sc : Nat × (Nat → Int32)} {s2 s3 s4 s5 s6 s7 s8 s10 s11 : List va_E} {V : Nat → Nat → Nat} (imm : Int32) (Im rowm stkm tpm : Nat → Int32) (Tm : Nat → Value) (I : Nat → Int32) (W : Nat → Nat → Int32) (T : Nat → Value) (Ia boa era : Nat → Int32) (hr : jr_ V I W) (hk : jv_ok V) (w v : Int32) (hb : ¬ jn_b w 0 3) : jb_C sc yX11_air cX11_air 5 (Option.some .int) 1 0 0 [.ref 0, .int w, .int v] [jb_main imm Im Tm rowm stkm tpm, jb_sch13 I W T, s2, s3, s4, s5, s6, s7, s8, jb_act Ia boa era, s10, s11] (fun r h9 => r = some (.int (jm_er 1)) ∧ h9 = [jb_main imm Im Tm rowm stkm tpm, jb_sch13 I W T, s2, s3, s4, s5, s6, s7, s8, jb_act Ia boa (jm_ef era 1), s10, s11]) := by
  refine jb_CofJ (ini := false) (by decide +kernel) (fun h => by cases h) (Nat.le_of_ble_eq_true rfl) ?_
  show jb_J sc RX11 cX11_air 5 (Option.some .int) false 1 0 0 0 [some (.ref 0), some (.int w), some (.int v), none, none] [] [jb_main imm Im Tm rowm stkm tpm, jb_sch13 I W T, s2, s3, s4, s5, s6, s7, s8, jb_act Ia boa era, s10, s11] _
  have hr0 := hr
  have hk0 := hk
  obtain ⟨r0, r2, r3, r4, a0, a1, a2, rv, rs, rd⟩ := hr
  obtain ⟨k0, k1, k2, k3, k4, k5, k6, k7, kv, ks, kd⟩ := hk
  refine jb_iload_n (pc' := 1) dX11_air_0 rfl rfl ?_
  refine jb_iconst (pc' := 2) 0 dX11_air_1 (by decide) rfl ?_
  refine jb_iconst (pc' := 3) 2 dX11_air_2 (by decide) rfl ?_
  refine jb_callS (pc' := 6) (As := [.int w, .int 0, .int 2]) (a2 := 0) (b2 := 0) wv_X11_74 dX11_air_3 (c_isOutL w 0 2 (by omega) (by omega)) rfl ⟨by decide, Nat.le_of_eq (Nat.zero_add _), Nat.le_of_eq (Nat.zero_add _)⟩ (Nat.le_of_ble_eq_true rfl) rfl (fun r h9 hq => ?_)
  rcases hq with ⟨rfl, ⟨o1, rfl⟩ | ⟨o1, rfl⟩⟩
  · show jb_J _ RX11 cX11_air 5 (Option.some .int) false 1 0 0 6 [some (.ref 0), some (.int w), some (.int v), none, none] [.int 1] [jb_main imm Im Tm rowm stkm tpm, jb_sch13 I W T, s2, s3, s4, s5, s6, s7, s8, jb_act Ia boa era, s10, s11] _
    refine jb_if_eq (tgt := 15) (pc' := 9) dX11_air_6 (by decide) rfl (fun z => absurd z (by decide)) (fun _ => ?_)
    refine jb_aload_n (pc' := 10) dX11_air_9 rfl rfl ?_
    refine jb_iconst (pc' := 11) 1 dX11_air_10 (by decide) rfl ?_
    refine jb_callV (pc' := 14) (ci := 11) (q := 0) (As := [.int 1]) (a2 := 0) (b2 := 0) wv_X11_78 rfl dX11_air_11 (c_error imm Im rowm stkm tpm Tm Ia boa era 1 (by decide)) rfl rfl ⟨by decide, Nat.le_of_eq (Nat.zero_add _), Nat.le_of_eq (Nat.zero_add _)⟩ (Nat.le_of_ble_eq_true rfl) rfl (fun r h9 hq => ?_)
    obtain ⟨rfl, rfl⟩ := hq
    show jb_J _ RX11 cX11_air 5 (Option.some .int) false 1 0 0 14 [some (.ref 0), some (.int w), some (.int v), none, none] [.int (jm_er 1)] [jb_main imm Im Tm rowm stkm tpm, jb_sch13 I W T, s2, s3, s4, s5, s6, s7, s8, jb_act Ia boa (jm_ef era 1), s10, s11] _
    refine jb_iret dX11_air_14 rfl ?_
    exact ⟨rfl, rfl⟩
  · show jb_J _ RX11 cX11_air 5 (Option.some .int) false 1 0 0 6 [some (.ref 0), some (.int w), some (.int v), none, none] [.int 0] [jb_main imm Im Tm rowm stkm tpm, jb_sch13 I W T, s2, s3, s4, s5, s6, s7, s8, jb_act Ia boa era, s10, s11] _
    refine jb_if_eq (tgt := 15) (pc' := 9) dX11_air_6 (by decide) rfl (fun _ => ?_) (fun z => absurd (by decide) z)
    refine jb_iload_n (pc' := 16) dX11_air_15 rfl rfl ?_
    refine jb_if_ne (tgt := 37) (pc' := 19) dX11_air_16 (by decide) rfl (fun c5 => ?_) (fun c5 => ?_)
    · refine jb_iload_n (pc' := 38) dX11_air_37 rfl rfl ?_
      refine jb_iconst (pc' := 39) 0 dX11_air_38 (by decide) rfl ?_
      refine jb_bipush (pc' := 41) 9 dX11_air_39 (by decide) rfl ?_
      refine jb_callS (pc' := 44) (As := [.int v, .int 0, .int 9]) (a2 := 0) (b2 := 0) wv_X11_74 dX11_air_41 (c_isOutL v 0 9 (by omega) (by omega)) rfl ⟨by decide, Nat.le_of_eq (Nat.zero_add _), Nat.le_of_eq (Nat.zero_add _)⟩ (Nat.le_of_ble_eq_true rfl) rfl (fun r h9 hq => ?_)
      rcases hq with ⟨rfl, ⟨o6, rfl⟩ | ⟨o6, rfl⟩⟩
      · show jb_J _ RX11 cX11_air 5 (Option.some .int) false 1 0 0 44 [some (.ref 0), some (.int w), some (.int v), none, none] [.int 1] [jb_main imm Im Tm rowm stkm tpm, jb_sch13 I W T, s2, s3, s4, s5, s6, s7, s8, jb_act Ia boa era, s10, s11] _
        refine jb_if_ne (tgt := 51) (pc' := 47) dX11_air_44 (by decide) rfl (fun _ => ?_) (fun z => absurd z (by decide))
        refine jb_iconst (pc' := 52) 0 dX11_air_51 (by decide) rfl ?_
        refine jb_istore_n_ (pc' := 53) dX11_air_52 (by decide) (jb_at3 rfl) rfl ?_
        refine jb_iload_n (pc' := 54) dX11_air_53 rfl rfl ?_
        refine jb_if_ne (tgt := 63) (pc' := 57) dX11_air_54 (by decide) rfl (fun z => absurd (by decide) z) (fun _ => ?_)
        refine jb_aload_n (pc' := 58) dX11_air_57 rfl rfl ?_
        refine jb_iconst (pc' := 59) 1 dX11_air_58 (by decide) rfl ?_
        refine jb_callV (pc' := 62) (ci := 11) (q := 0) (As := [.int 1]) (a2 := 0) (b2 := 0) wv_X11_78 rfl dX11_air_59 (c_error imm Im rowm stkm tpm Tm Ia boa era 1 (by decide)) rfl rfl ⟨by decide, Nat.le_of_eq (Nat.zero_add _), Nat.le_of_eq (Nat.zero_add _)⟩ (Nat.le_of_ble_eq_true rfl) rfl (fun r h9 hq => ?_)
        obtain ⟨rfl, rfl⟩ := hq
        show jb_J _ RX11 cX11_air 5 (Option.some .int) false 1 0 0 62 [some (.ref 0), some (.int w), some (.int v), some (.int 0), none] [.int (jm_er 1)] [jb_main imm Im Tm rowm stkm tpm, jb_sch13 I W T, s2, s3, s4, s5, s6, s7, s8, jb_act Ia boa (jm_ef era 1), s10, s11] _
        refine jb_iret dX11_air_62 rfl ?_
        exact ⟨rfl, rfl⟩
      · show jb_J _ RX11 cX11_air 5 (Option.some .int) false 1 0 0 44 [some (.ref 0), some (.int w), some (.int v), none, none] [.int 0] [jb_main imm Im Tm rowm stkm tpm, jb_sch13 I W T, s2, s3, s4, s5, s6, s7, s8, jb_act Ia boa era, s10, s11] _
        exact absurd (by assumption) hb
    · refine jb_iload_n (pc' := 20) dX11_air_19 rfl rfl ?_
      refine jb_iconst (pc' := 21) 1 dX11_air_20 (by decide) rfl ?_
      refine jb_bipush (pc' := 23) 20 dX11_air_21 (by decide) rfl ?_
      refine jb_callS (pc' := 26) (As := [.int v, .int 1, .int 20]) (a2 := 0) (b2 := 0) wv_X11_74 dX11_air_23 (c_isOutL v 1 20 (by omega) (by omega)) rfl ⟨by decide, Nat.le_of_eq (Nat.zero_add _), Nat.le_of_eq (Nat.zero_add _)⟩ (Nat.le_of_ble_eq_true rfl) rfl (fun r h9 hq => ?_)
      rcases hq with ⟨rfl, ⟨o12, rfl⟩ | ⟨o12, rfl⟩⟩
      · show jb_J _ RX11 cX11_air 5 (Option.some .int) false 1 0 0 26 [some (.ref 0), some (.int w), some (.int v), none, none] [.int 1] [jb_main imm Im Tm rowm stkm tpm, jb_sch13 I W T, s2, s3, s4, s5, s6, s7, s8, jb_act Ia boa era, s10, s11] _
        refine jb_if_ne (tgt := 33) (pc' := 29) dX11_air_26 (by decide) rfl (fun _ => ?_) (fun z => absurd z (by decide))
        refine jb_iconst (pc' := 34) 0 dX11_air_33 (by decide) rfl ?_
        refine jb_goto (pc' := 52) dX11_air_34 (by decide) ?_
        refine jb_istore_n_ (pc' := 53) dX11_air_52 (by decide) (jb_at3 rfl) rfl ?_
        refine jb_iload_n (pc' := 54) dX11_air_53 rfl rfl ?_
        refine jb_if_ne (tgt := 63) (pc' := 57) dX11_air_54 (by decide) rfl (fun z => absurd (by decide) z) (fun _ => ?_)
        refine jb_aload_n (pc' := 58) dX11_air_57 rfl rfl ?_
        refine jb_iconst (pc' := 59) 1 dX11_air_58 (by decide) rfl ?_
        refine jb_callV (pc' := 62) (ci := 11) (q := 0) (As := [.int 1]) (a2 := 0) (b2 := 0) wv_X11_78 rfl dX11_air_59 (c_error imm Im rowm stkm tpm Tm Ia boa era 1 (by decide)) rfl rfl ⟨by decide, Nat.le_of_eq (Nat.zero_add _), Nat.le_of_eq (Nat.zero_add _)⟩ (Nat.le_of_ble_eq_true rfl) rfl (fun r h9 hq => ?_)
        obtain ⟨rfl, rfl⟩ := hq
        show jb_J _ RX11 cX11_air 5 (Option.some .int) false 1 0 0 62 [some (.ref 0), some (.int w), some (.int v), some (.int 0), none] [.int (jm_er 1)] [jb_main imm Im Tm rowm stkm tpm, jb_sch13 I W T, s2, s3, s4, s5, s6, s7, s8, jb_act Ia boa (jm_ef era 1), s10, s11] _
        refine jb_iret dX11_air_62 rfl ?_
        exact ⟨rfl, rfl⟩
      · show jb_J _ RX11 cX11_air 5 (Option.some .int) false 1 0 0 26 [some (.ref 0), some (.int w), some (.int v), none, none] [.int 0] [jb_main imm Im Tm rowm stkm tpm, jb_sch13 I W T, s2, s3, s4, s5, s6, s7, s8, jb_act Ia boa era, s10, s11] _
        exact absurd (by assumption) hb
set_option maxRecDepth 100000 in
set_option maxHeartbeats 4000000 in
theorem kx_person {sc : Nat × (Nat → Int32)} {s2 s3 s4 s5 s6 s7 s8 s9 s10 s11 : List va_E} {V : Nat → Nat → Nat} (imm : Int32) (Im rowm stkm tpm : Nat → Int32) (Tm : Nat → Value) (I : Nat → Int32) (W : Nat → Nat → Int32) (T : Nat → Value) (hr : jr_ V I W) (hk : jv_ok V) (km c : Nat) (hkm : km < 70) (hc : c < 2) (h1 : V 0 1 < 6) : jb_C sc yX11_person cX11_person 3 (Option.some .int) 1 0 0 [.ref 0, .int (nI km), .int (nI c)] [jb_main imm Im Tm rowm stkm tpm, jb_sch13 I W T, s2, s3, s4, s5, s6, s7, s8, s9, s10, s11] (fun r h9 => r = some (.int (nI (V 0 1))) ∧ ∃ I9 W9, jr_ (jm_av V (km / 10) (km % 10) c) I9 W9 ∧ I9 1 = I 1 ∧ jr_f I W I9 W9 ∧ h9 = [jb_main imm Im Tm rowm stkm tpm, jb_sch13 I9 W9 T, s2, s3, s4, s5, s6, s7, s8, s9, s10, s11]) := by
  refine jb_CofJ (ini := false) (by decide +kernel) (fun h => by cases h) (Nat.le_of_ble_eq_true rfl) ?_
  show jb_J sc RX11 cX11_person 3 (Option.some .int) false 1 0 0 0 [some (.ref 0), some (.int (nI km)), some (.int (nI c))] [] [jb_main imm Im Tm rowm stkm tpm, jb_sch13 I W T, s2, s3, s4, s5, s6, s7, s8, s9, s10, s11] _
  have hr0 := hr
  have hk0 := hk
  obtain ⟨r0, r2, r3, r4, a0, a1, a2, rv, rs, rd⟩ := hr
  obtain ⟨k0, k1, k2, k3, k4, k5, k6, k7, kv, ks, kd⟩ := hk
  refine jb_iload_n (pc' := 1) dX11_person_0 rfl rfl ?_
  refine jb_iconst (pc' := 2) 0 dX11_person_1 (by decide) rfl ?_
  refine jb_bipush (pc' := 4) 69 dX11_person_2 (by decide) rfl ?_
  refine jb_callS (pc' := 7) (As := [.int (nI km), .int 0, .int 69]) (a2 := 0) (b2 := 0) wv_X11_74 dX11_person_4 (c_isOutLG km 0 69 (by omega) (by omega) (by omega)) rfl ⟨by decide, Nat.le_of_eq (Nat.zero_add _), Nat.le_of_eq (Nat.zero_add _)⟩ (Nat.le_of_ble_eq_true rfl) rfl (fun r h9 hq => ?_)
  obtain ⟨rfl, rfl⟩ := hq
  show jb_J _ RX11 cX11_person 3 (Option.some .int) false 1 0 0 7 [some (.ref 0), some (.int (nI km)), some (.int (nI c))] [.int 0] [jb_main imm Im Tm rowm stkm tpm, jb_sch13 I W T, s2, s3, s4, s5, s6, s7, s8, s9, s10, s11] _
  refine jb_if_ne (tgt := 19) (pc' := 10) dX11_person_7 (by decide) rfl (fun z => absurd (by decide) z) (fun _ => ?_)
  refine jb_iload_n (pc' := 11) dX11_person_10 rfl rfl ?_
  refine jb_iconst (pc' := 12) 0 dX11_person_11 (by decide) rfl ?_
  refine jb_iconst (pc' := 13) 1 dX11_person_12 (by decide) rfl ?_
  refine jb_callS (pc' := 16) (As := [.int (nI c), .int 0, .int 1]) (a2 := 0) (b2 := 0) wv_X11_74 dX11_person_13 (c_isOutLG c 0 1 (by omega) (by omega) (by omega)) rfl ⟨by decide, Nat.le_of_eq (Nat.zero_add _), Nat.le_of_eq (Nat.zero_add _)⟩ (Nat.le_of_ble_eq_true rfl) rfl (fun r h9 hq => ?_)
  obtain ⟨rfl, rfl⟩ := hq
  show jb_J _ RX11 cX11_person 3 (Option.some .int) false 1 0 0 16 [some (.ref 0), some (.int (nI km)), some (.int (nI c))] [.int 0] [jb_main imm Im Tm rowm stkm tpm, jb_sch13 I W T, s2, s3, s4, s5, s6, s7, s8, s9, s10, s11] _
  refine jb_if_eq (tgt := 25) (pc' := 19) dX11_person_16 (by decide) rfl (fun _ => ?_) (fun z => absurd (by decide) z)
  refine jb_aload_n (pc' := 26) dX11_person_25 rfl rfl ?_
  refine gf_X11_42 (pc' := 29) (v := .ref 13) dX11_person_26 rfl rfl rfl ?_
  refine gf_X11_85 (pc' := 32) (v := .int (I 2)) dX11_person_29 rfl rfl rfl ?_
  refine jb_top (v := .int (I 2)) (w := .int (nI (V 0 1))) (jb_vI r2) ?_
  refine jb_bipush (pc' := 34) 6 dX11_person_32 (by decide) rfl ?_
  refine jb_icmp_lt (tgt := 43) (pc' := 37) dX11_person_34 (by decide) rfl (fun _ => ?_) (fun z => absurd (nI_lt (a := V 0 1) (b := 6) (by omega) (by omega)) z)
  refine jb_aload_n (pc' := 44) dX11_person_43 rfl rfl ?_
  refine gf_X11_42 (pc' := 47) (v := .ref 13) dX11_person_44 rfl rfl rfl ?_
  refine jb_iload_n (pc' := 48) dX11_person_47 rfl rfl ?_
  refine jb_iload_n (pc' := 49) dX11_person_48 rfl rfl ?_
  refine jb_callV (pc' := 52) (ci := 9) (q := 13) (As := [.int (nI km), .int (nI c)]) (a2 := 0) (b2 := 0) wv_X11_88 rfl dX11_person_49 (c_addVoice_13 I W T hr0 hk0 km c hkm hc h1) rfl rfl ⟨by decide, Nat.le_of_eq (Nat.zero_add _), Nat.le_of_eq (Nat.zero_add _)⟩ (Nat.le_of_ble_eq_true rfl) rfl (fun r h9 hq => ?_)
  obtain ⟨rfl, I9, W9, hr9, hz9, hf9, rfl⟩ := hq
  show jb_J _ RX11 cX11_person 3 (Option.some .int) false 1 0 0 52 [some (.ref 0), some (.int (nI km)), some (.int (nI c))] [.int (nI (V 0 1))] [jb_main imm Im Tm rowm stkm tpm, jb_sch13 I9 W9 T, s2, s3, s4, s5, s6, s7, s8, s9, s10, s11] _
  refine jb_iret dX11_person_52 rfl ?_
  exact ⟨rfl, I9, W9, hr9, hz9, hf9, rfl⟩
set_option maxRecDepth 100000 in
set_option maxHeartbeats 4000000 in
theorem ke_person {sc : Nat × (Nat → Int32)} {s2 s3 s4 s5 s6 s7 s8 s10 s11 : List va_E} {V : Nat → Nat → Nat} (imm : Int32) (Im rowm stkm tpm : Nat → Int32) (Tm : Nat → Value) (I : Nat → Int32) (W : Nat → Nat → Int32) (T : Nat → Value) (Ia boa era : Nat → Int32) (hr : jr_ V I W) (hk : jv_ok V) (km c : Int32) (hb : ¬ (jn_b km 0 70 ∧ jn_b c 0 2)) : jb_C sc yX11_person cX11_person 3 (Option.some .int) 1 0 0 [.ref 0, .int km, .int c] [jb_main imm Im Tm rowm stkm tpm, jb_sch13 I W T, s2, s3, s4, s5, s6, s7, s8, jb_act Ia boa era, s10, s11] (fun r h9 => r = some (.int (jm_er 1)) ∧ h9 = [jb_main imm Im Tm rowm stkm tpm, jb_sch13 I W T, s2, s3, s4, s5, s6, s7, s8, jb_act Ia boa (jm_ef era 1), s10, s11]) := by
  refine jb_CofJ (ini := false) (by decide +kernel) (fun h => by cases h) (Nat.le_of_ble_eq_true rfl) ?_
  show jb_J sc RX11 cX11_person 3 (Option.some .int) false 1 0 0 0 [some (.ref 0), some (.int km), some (.int c)] [] [jb_main imm Im Tm rowm stkm tpm, jb_sch13 I W T, s2, s3, s4, s5, s6, s7, s8, jb_act Ia boa era, s10, s11] _
  have hr0 := hr
  have hk0 := hk
  obtain ⟨r0, r2, r3, r4, a0, a1, a2, rv, rs, rd⟩ := hr
  obtain ⟨k0, k1, k2, k3, k4, k5, k6, k7, kv, ks, kd⟩ := hk
  refine jb_iload_n (pc' := 1) dX11_person_0 rfl rfl ?_
  refine jb_iconst (pc' := 2) 0 dX11_person_1 (by decide) rfl ?_
  refine jb_bipush (pc' := 4) 69 dX11_person_2 (by decide) rfl ?_
  refine jb_callS (pc' := 7) (As := [.int km, .int 0, .int 69]) (a2 := 0) (b2 := 0) wv_X11_74 dX11_person_4 (c_isOutL km 0 69 (by omega) (by omega)) rfl ⟨by decide, Nat.le_of_eq (Nat.zero_add _), Nat.le_of_eq (Nat.zero_add _)⟩ (Nat.le_of_ble_eq_true rfl) rfl (fun r h9 hq => ?_)
  rcases hq with ⟨rfl, ⟨o1, rfl⟩ | ⟨o1, rfl⟩⟩
  · show jb_J _ RX11 cX11_person 3 (Option.some .int) false 1 0 0 7 [some (.ref 0), some (.int km), some (.int c)] [.int 1] [jb_main imm Im Tm rowm stkm tpm, jb_sch13 I W T, s2, s3, s4, s5, s6, s7, s8, jb_act Ia boa era, s10, s11] _
    refine jb_if_ne (tgt := 19) (pc' := 10) dX11_person_7 (by decide) rfl (fun _ => ?_) (fun z => absurd z (by decide))
    refine jb_aload_n (pc' := 20) dX11_person_19 rfl rfl ?_
    refine jb_iconst (pc' := 21) 1 dX11_person_20 (by decide) rfl ?_
    refine jb_callV (pc' := 24) (ci := 11) (q := 0) (As := [.int 1]) (a2 := 0) (b2 := 0) wv_X11_78 rfl dX11_person_21 (c_error imm Im rowm stkm tpm Tm Ia boa era 1 (by decide)) rfl rfl ⟨by decide, Nat.le_of_eq (Nat.zero_add _), Nat.le_of_eq (Nat.zero_add _)⟩ (Nat.le_of_ble_eq_true rfl) rfl (fun r h9 hq => ?_)
    obtain ⟨rfl, rfl⟩ := hq
    show jb_J _ RX11 cX11_person 3 (Option.some .int) false 1 0 0 24 [some (.ref 0), some (.int km), some (.int c)] [.int (jm_er 1)] [jb_main imm Im Tm rowm stkm tpm, jb_sch13 I W T, s2, s3, s4, s5, s6, s7, s8, jb_act Ia boa (jm_ef era 1), s10, s11] _
    refine jb_iret dX11_person_24 rfl ?_
    exact ⟨rfl, rfl⟩
  · show jb_J _ RX11 cX11_person 3 (Option.some .int) false 1 0 0 7 [some (.ref 0), some (.int km), some (.int c)] [.int 0] [jb_main imm Im Tm rowm stkm tpm, jb_sch13 I W T, s2, s3, s4, s5, s6, s7, s8, jb_act Ia boa era, s10, s11] _
    refine jb_if_ne (tgt := 19) (pc' := 10) dX11_person_7 (by decide) rfl (fun z => absurd (by decide) z) (fun _ => ?_)
    refine jb_iload_n (pc' := 11) dX11_person_10 rfl rfl ?_
    refine jb_iconst (pc' := 12) 0 dX11_person_11 (by decide) rfl ?_
    refine jb_iconst (pc' := 13) 1 dX11_person_12 (by decide) rfl ?_
    refine jb_callS (pc' := 16) (As := [.int c, .int 0, .int 1]) (a2 := 0) (b2 := 0) wv_X11_74 dX11_person_13 (c_isOutL c 0 1 (by omega) (by omega)) rfl ⟨by decide, Nat.le_of_eq (Nat.zero_add _), Nat.le_of_eq (Nat.zero_add _)⟩ (Nat.le_of_ble_eq_true rfl) rfl (fun r h9 hq => ?_)
    rcases hq with ⟨rfl, ⟨o5, rfl⟩ | ⟨o5, rfl⟩⟩
    · show jb_J _ RX11 cX11_person 3 (Option.some .int) false 1 0 0 16 [some (.ref 0), some (.int km), some (.int c)] [.int 1] [jb_main imm Im Tm rowm stkm tpm, jb_sch13 I W T, s2, s3, s4, s5, s6, s7, s8, jb_act Ia boa era, s10, s11] _
      refine jb_if_eq (tgt := 25) (pc' := 19) dX11_person_16 (by decide) rfl (fun z => absurd z (by decide)) (fun _ => ?_)
      refine jb_aload_n (pc' := 20) dX11_person_19 rfl rfl ?_
      refine jb_iconst (pc' := 21) 1 dX11_person_20 (by decide) rfl ?_
      refine jb_callV (pc' := 24) (ci := 11) (q := 0) (As := [.int 1]) (a2 := 0) (b2 := 0) wv_X11_78 rfl dX11_person_21 (c_error imm Im rowm stkm tpm Tm Ia boa era 1 (by decide)) rfl rfl ⟨by decide, Nat.le_of_eq (Nat.zero_add _), Nat.le_of_eq (Nat.zero_add _)⟩ (Nat.le_of_ble_eq_true rfl) rfl (fun r h9 hq => ?_)
      obtain ⟨rfl, rfl⟩ := hq
      show jb_J _ RX11 cX11_person 3 (Option.some .int) false 1 0 0 24 [some (.ref 0), some (.int km), some (.int c)] [.int (jm_er 1)] [jb_main imm Im Tm rowm stkm tpm, jb_sch13 I W T, s2, s3, s4, s5, s6, s7, s8, jb_act Ia boa (jm_ef era 1), s10, s11] _
      refine jb_iret dX11_person_24 rfl ?_
      exact ⟨rfl, rfl⟩
    · show jb_J _ RX11 cX11_person 3 (Option.some .int) false 1 0 0 16 [some (.ref 0), some (.int km), some (.int c)] [.int 0] [jb_main imm Im Tm rowm stkm tpm, jb_sch13 I W T, s2, s3, s4, s5, s6, s7, s8, jb_act Ia boa era, s10, s11] _
      refine jb_if_eq (tgt := 25) (pc' := 19) dX11_person_16 (by decide) rfl (fun _ => ?_) (fun z => absurd (by decide) z)
      refine jb_aload_n (pc' := 26) dX11_person_25 rfl rfl ?_
      refine gf_X11_42 (pc' := 29) (v := .ref 13) dX11_person_26 rfl rfl rfl ?_
      refine gf_X11_85 (pc' := 32) (v := .int (I 2)) dX11_person_29 rfl rfl rfl ?_
      refine jb_top (v := .int (I 2)) (w := .int (nI (V 0 1))) (jb_vI r2) ?_
      refine jb_bipush (pc' := 34) 6 dX11_person_32 (by decide) rfl ?_
      refine jb_icmp_lt (tgt := 43) (pc' := 37) dX11_person_34 (by decide) rfl (fun c9 => ?_) (fun c9 => ?_)
      · have c9 : (V 0 1) < 6 := (nI_ltI (a := (V 0 1)) (b := 6) (by omega) (by omega)).mp c9
        exact absurd ⟨by assumption, by assumption⟩ hb
      · have c9 : ¬ (V 0 1) < 6 := fun z9 => c9 ((nI_ltI (a := (V 0 1)) (b := 6) (by omega) (by omega)).mpr z9)
        refine jb_aload_n (pc' := 38) dX11_person_37 rfl rfl ?_
        refine jb_iconst (pc' := 39) 4 dX11_person_38 (by decide) rfl ?_
        refine jb_callV (pc' := 42) (ci := 11) (q := 0) (As := [.int 4]) (a2 := 0) (b2 := 0) wv_X11_78 rfl dX11_person_39 (c_error imm Im rowm stkm tpm Tm Ia boa era 4 (by decide)) rfl rfl ⟨by decide, Nat.le_of_eq (Nat.zero_add _), Nat.le_of_eq (Nat.zero_add _)⟩ (Nat.le_of_ble_eq_true rfl) rfl (fun r h9 hq => ?_)
        obtain ⟨rfl, rfl⟩ := hq
        show jb_J _ RX11 cX11_person 3 (Option.some .int) false 1 0 0 42 [some (.ref 0), some (.int km), some (.int c)] [.int (jm_er 4)] [jb_main imm Im Tm rowm stkm tpm, jb_sch13 I W T, s2, s3, s4, s5, s6, s7, s8, jb_act Ia boa (jm_ef era 4), s10, s11] _
        refine jb_iret dX11_person_42 rfl ?_
        exact absurd ⟨by assumption, by assumption⟩ hb
set_option maxRecDepth 100000 in
set_option maxHeartbeats 4000000 in
theorem ke_personF {sc : Nat × (Nat → Int32)} {s2 s3 s4 s5 s6 s7 s8 s10 s11 : List va_E} {V : Nat → Nat → Nat} (imm : Int32) (Im rowm stkm tpm : Nat → Int32) (Tm : Nat → Value) (I : Nat → Int32) (W : Nat → Nat → Int32) (T : Nat → Value) (Ia boa era : Nat → Int32) (hr : jr_ V I W) (hk : jv_ok V) (km c : Nat) (hkm : km < 70) (hc : c < 2) (h1 : V 0 1 = 6) : jb_C sc yX11_person cX11_person 3 (Option.some .int) 1 0 0 [.ref 0, .int (nI km), .int (nI c)] [jb_main imm Im Tm rowm stkm tpm, jb_sch13 I W T, s2, s3, s4, s5, s6, s7, s8, jb_act Ia boa era, s10, s11] (fun r h9 => r = some (.int (jm_er 4)) ∧ h9 = [jb_main imm Im Tm rowm stkm tpm, jb_sch13 I W T, s2, s3, s4, s5, s6, s7, s8, jb_act Ia boa (jm_ef era 4), s10, s11]) := by
  refine jb_CofJ (ini := false) (by decide +kernel) (fun h => by cases h) (Nat.le_of_ble_eq_true rfl) ?_
  show jb_J sc RX11 cX11_person 3 (Option.some .int) false 1 0 0 0 [some (.ref 0), some (.int (nI km)), some (.int (nI c))] [] [jb_main imm Im Tm rowm stkm tpm, jb_sch13 I W T, s2, s3, s4, s5, s6, s7, s8, jb_act Ia boa era, s10, s11] _
  have hr0 := hr
  have hk0 := hk
  obtain ⟨r0, r2, r3, r4, a0, a1, a2, rv, rs, rd⟩ := hr
  obtain ⟨k0, k1, k2, k3, k4, k5, k6, k7, kv, ks, kd⟩ := hk
  refine jb_iload_n (pc' := 1) dX11_person_0 rfl rfl ?_
  refine jb_iconst (pc' := 2) 0 dX11_person_1 (by decide) rfl ?_
  refine jb_bipush (pc' := 4) 69 dX11_person_2 (by decide) rfl ?_
  refine jb_callS (pc' := 7) (As := [.int (nI km), .int 0, .int 69]) (a2 := 0) (b2 := 0) wv_X11_74 dX11_person_4 (c_isOutLG km 0 69 (by omega) (by omega) (by omega)) rfl ⟨by decide, Nat.le_of_eq (Nat.zero_add _), Nat.le_of_eq (Nat.zero_add _)⟩ (Nat.le_of_ble_eq_true rfl) rfl (fun r h9 hq => ?_)
  obtain ⟨rfl, rfl⟩ := hq
  show jb_J _ RX11 cX11_person 3 (Option.some .int) false 1 0 0 7 [some (.ref 0), some (.int (nI km)), some (.int (nI c))] [.int 0] [jb_main imm Im Tm rowm stkm tpm, jb_sch13 I W T, s2, s3, s4, s5, s6, s7, s8, jb_act Ia boa era, s10, s11] _
  refine jb_if_ne (tgt := 19) (pc' := 10) dX11_person_7 (by decide) rfl (fun z => absurd (by decide) z) (fun _ => ?_)
  refine jb_iload_n (pc' := 11) dX11_person_10 rfl rfl ?_
  refine jb_iconst (pc' := 12) 0 dX11_person_11 (by decide) rfl ?_
  refine jb_iconst (pc' := 13) 1 dX11_person_12 (by decide) rfl ?_
  refine jb_callS (pc' := 16) (As := [.int (nI c), .int 0, .int 1]) (a2 := 0) (b2 := 0) wv_X11_74 dX11_person_13 (c_isOutLG c 0 1 (by omega) (by omega) (by omega)) rfl ⟨by decide, Nat.le_of_eq (Nat.zero_add _), Nat.le_of_eq (Nat.zero_add _)⟩ (Nat.le_of_ble_eq_true rfl) rfl (fun r h9 hq => ?_)
  obtain ⟨rfl, rfl⟩ := hq
  show jb_J _ RX11 cX11_person 3 (Option.some .int) false 1 0 0 16 [some (.ref 0), some (.int (nI km)), some (.int (nI c))] [.int 0] [jb_main imm Im Tm rowm stkm tpm, jb_sch13 I W T, s2, s3, s4, s5, s6, s7, s8, jb_act Ia boa era, s10, s11] _
  refine jb_if_eq (tgt := 25) (pc' := 19) dX11_person_16 (by decide) rfl (fun _ => ?_) (fun z => absurd (by decide) z)
  refine jb_aload_n (pc' := 26) dX11_person_25 rfl rfl ?_
  refine gf_X11_42 (pc' := 29) (v := .ref 13) dX11_person_26 rfl rfl rfl ?_
  refine gf_X11_85 (pc' := 32) (v := .int (I 2)) dX11_person_29 rfl rfl rfl ?_
  refine jb_top (v := .int (I 2)) (w := .int (nI (V 0 1))) (jb_vI r2) ?_
  refine jb_bipush (pc' := 34) 6 dX11_person_32 (by decide) rfl ?_
  refine jb_icmp_lt (tgt := 43) (pc' := 37) dX11_person_34 (by decide) rfl (fun z => absurd z (nI_nlt (a := V 0 1) (b := 6) (by omega) (by omega))) (fun _ => ?_)
  refine jb_aload_n (pc' := 38) dX11_person_37 rfl rfl ?_
  refine jb_iconst (pc' := 39) 4 dX11_person_38 (by decide) rfl ?_
  refine jb_callV (pc' := 42) (ci := 11) (q := 0) (As := [.int 4]) (a2 := 0) (b2 := 0) wv_X11_78 rfl dX11_person_39 (c_error imm Im rowm stkm tpm Tm Ia boa era 4 (by decide)) rfl rfl ⟨by decide, Nat.le_of_eq (Nat.zero_add _), Nat.le_of_eq (Nat.zero_add _)⟩ (Nat.le_of_ble_eq_true rfl) rfl (fun r h9 hq => ?_)
  obtain ⟨rfl, rfl⟩ := hq
  show jb_J _ RX11 cX11_person 3 (Option.some .int) false 1 0 0 42 [some (.ref 0), some (.int (nI km)), some (.int (nI c))] [.int (jm_er 4)] [jb_main imm Im Tm rowm stkm tpm, jb_sch13 I W T, s2, s3, s4, s5, s6, s7, s8, jb_act Ia boa (jm_ef era 4), s10, s11] _
  refine jb_iret dX11_person_42 rfl ?_
  exact ⟨rfl, rfl⟩
set_option maxRecDepth 100000 in
set_option maxHeartbeats 4000000 in
theorem kx_ofVoice0 {sc : Nat × (Nat → Int32)} {s2 s3 s4 s5 s6 s7 s8 s9 s10 s11 : List va_E} {V : Nat → Nat → Nat} (imm : Int32) (Im rowm stkm tpm : Nat → Int32) (Tm : Nat → Value) (I : Nat → Int32) (W : Nat → Nat → Int32) (T : Nat → Value) (hr : jr_ V I W) (hk : jv_ok V) (p : Nat) (hp : p < V 0 1) : jb_C sc yX11_ofVoice cX11_ofVoice 3 (Option.some .int) 2 0 0 [.ref 0, .int (nI p), .int 0] [jb_main imm Im Tm rowm stkm tpm, jb_sch13 I W T, s2, s3, s4, s5, s6, s7, s8, s9, s10, s11] (fun r h9 => r = some (.int (nI (V 1 p))) ∧ h9 = [jb_main imm Im Tm rowm stkm tpm, jb_sch13 I W T, s2, s3, s4, s5, s6, s7, s8, s9, s10, s11]) := by
  refine jb_CofJ (ini := false) (by decide +kernel) (fun h => by cases h) (Nat.le_of_ble_eq_true rfl) ?_
  show jb_J sc RX11 cX11_ofVoice 3 (Option.some .int) false 2 0 0 0 [some (.ref 0), some (.int (nI p)), some (.int 0)] [] [jb_main imm Im Tm rowm stkm tpm, jb_sch13 I W T, s2, s3, s4, s5, s6, s7, s8, s9, s10, s11] _
  have hr0 := hr
  have hk0 := hk
  obtain ⟨r0, r2, r3, r4, a0, a1, a2, rv, rs, rd⟩ := hr
  obtain ⟨k0, k1, k2, k3, k4, k5, k6, k7, kv, ks, kd⟩ := hk
  refine jb_aload_n (pc' := 1) dX11_ofVoice_0 rfl rfl ?_
  refine jb_iload_n (pc' := 2) dX11_ofVoice_1 rfl rfl ?_
  refine jb_callV (pc' := 5) (ci := 11) (q := 0) (As := [.int (nI p)]) (a2 := 0) (b2 := 0) wv_X11_92 rfl dX11_ofVoice_2 (c_isNoVoiceG imm Im rowm stkm tpm Tm I W T hr0 hk0 p (by omega)) rfl rfl ⟨by decide, Nat.le_of_eq (Nat.zero_add _), Nat.le_of_eq (Nat.zero_add _)⟩ (Nat.le_of_ble_eq_true rfl) rfl (fun r h9 hq => ?_)
  obtain ⟨rfl, rfl⟩ := hq
  show jb_J _ RX11 cX11_ofVoice 3 (Option.some .int) false 2 0 0 5 [some (.ref 0), some (.int (nI p)), some (.int 0)] [.int 0] [jb_main imm Im Tm rowm stkm tpm, jb_sch13 I W T, s2, s3, s4, s5, s6, s7, s8, s9, s10, s11] _
  refine jb_if_ne (tgt := 17) (pc' := 8) dX11_ofVoice_5 (by decide) rfl (fun z => absurd (by decide) z) (fun _ => ?_)
  refine jb_iload_n (pc' := 9) dX11_ofVoice_8 rfl rfl ?_
  refine jb_iconst (pc' := 10) 0 dX11_ofVoice_9 (by decide) rfl ?_
  refine jb_iconst (pc' := 11) 3 dX11_ofVoice_10 (by decide) rfl ?_
  refine jb_callS (pc' := 14) (As := [.int 0, .int 0, .int 3]) (a2 := 0) (b2 := 0) wv_X11_74 dX11_ofVoice_11 (c_isOutLG 0 0 3 (by omega) (by omega) (by omega)) rfl ⟨by decide, Nat.le_of_eq (Nat.zero_add _), Nat.le_of_eq (Nat.zero_add _)⟩ (Nat.le_of_ble_eq_true rfl) rfl (fun r h9 hq => ?_)
  obtain ⟨rfl, rfl⟩ := hq
  show jb_J _ RX11 cX11_ofVoice 3 (Option.some .int) false 2 0 0 14 [some (.ref 0), some (.int (nI p)), some (.int 0)] [.int 0] [jb_main imm Im Tm rowm stkm tpm, jb_sch13 I W T, s2, s3, s4, s5, s6, s7, s8, s9, s10, s11] _
  refine jb_if_eq (tgt := 23) (pc' := 17) dX11_ofVoice_14 (by decide) rfl (fun _ => ?_) (fun z => absurd (by decide) z)
  refine jb_iload_n (pc' := 24) dX11_ofVoice_23 rfl rfl ?_
  refine jb_iconst (pc' := 25) 3 dX11_ofVoice_24 (by decide) rfl ?_
  refine jb_icmp_ne (tgt := 39) (pc' := 28) dX11_ofVoice_25 (by decide) rfl (fun _ => ?_) (fun z => absurd z (by decide))
  refine jb_aload_n (pc' := 40) dX11_ofVoice_39 rfl rfl ?_
  refine gf_X11_42 (pc' := 43) (v := .ref 13) dX11_ofVoice_40 rfl rfl rfl ?_
  refine gf_X11_99 (pc' := 46) (v := .ref 15) dX11_ofVoice_43 rfl rfl rfl ?_
  refine jb_iload_n (pc' := 47) dX11_ofVoice_46 rfl rfl ?_
  refine jb_aaload (pc' := 48) (i9 := 0) (r := 16) (Or.inl rfl) dX11_ofVoice_47 rfl jb_x0 (by decide) rfl rfl ?_
  refine jb_iload_n (pc' := 49) dX11_ofVoice_48 rfl rfl ?_
  refine jb_iaload (pc' := 50) (i9 := p) (f := (W 1)) dX11_ofVoice_49 rfl (jb_ix_nI (by omega)) (by omega) rfl ?_
  refine jb_top (v := .int ((W 1) p)) (w := .int (nI (V 1 p))) (jb_vI (rv p (by omega)).1) ?_
  refine jb_iret dX11_ofVoice_50 rfl ?_
  exact ⟨rfl, rfl⟩
set_option maxRecDepth 100000 in
set_option maxHeartbeats 4000000 in
theorem kx_ofVoice1 {sc : Nat × (Nat → Int32)} {s2 s3 s4 s5 s6 s7 s8 s9 s10 s11 : List va_E} {V : Nat → Nat → Nat} (imm : Int32) (Im rowm stkm tpm : Nat → Int32) (Tm : Nat → Value) (I : Nat → Int32) (W : Nat → Nat → Int32) (T : Nat → Value) (hr : jr_ V I W) (hk : jv_ok V) (p : Nat) (hp : p < V 0 1) : jb_C sc yX11_ofVoice cX11_ofVoice 3 (Option.some .int) 2 0 0 [.ref 0, .int (nI p), .int 1] [jb_main imm Im Tm rowm stkm tpm, jb_sch13 I W T, s2, s3, s4, s5, s6, s7, s8, s9, s10, s11] (fun r h9 => r = some (.int (nI (V 2 p))) ∧ h9 = [jb_main imm Im Tm rowm stkm tpm, jb_sch13 I W T, s2, s3, s4, s5, s6, s7, s8, s9, s10, s11]) := by
  refine jb_CofJ (ini := false) (by decide +kernel) (fun h => by cases h) (Nat.le_of_ble_eq_true rfl) ?_
  show jb_J sc RX11 cX11_ofVoice 3 (Option.some .int) false 2 0 0 0 [some (.ref 0), some (.int (nI p)), some (.int 1)] [] [jb_main imm Im Tm rowm stkm tpm, jb_sch13 I W T, s2, s3, s4, s5, s6, s7, s8, s9, s10, s11] _
  have hr0 := hr
  have hk0 := hk
  obtain ⟨r0, r2, r3, r4, a0, a1, a2, rv, rs, rd⟩ := hr
  obtain ⟨k0, k1, k2, k3, k4, k5, k6, k7, kv, ks, kd⟩ := hk
  refine jb_aload_n (pc' := 1) dX11_ofVoice_0 rfl rfl ?_
  refine jb_iload_n (pc' := 2) dX11_ofVoice_1 rfl rfl ?_
  refine jb_callV (pc' := 5) (ci := 11) (q := 0) (As := [.int (nI p)]) (a2 := 0) (b2 := 0) wv_X11_92 rfl dX11_ofVoice_2 (c_isNoVoiceG imm Im rowm stkm tpm Tm I W T hr0 hk0 p (by omega)) rfl rfl ⟨by decide, Nat.le_of_eq (Nat.zero_add _), Nat.le_of_eq (Nat.zero_add _)⟩ (Nat.le_of_ble_eq_true rfl) rfl (fun r h9 hq => ?_)
  obtain ⟨rfl, rfl⟩ := hq
  show jb_J _ RX11 cX11_ofVoice 3 (Option.some .int) false 2 0 0 5 [some (.ref 0), some (.int (nI p)), some (.int 1)] [.int 0] [jb_main imm Im Tm rowm stkm tpm, jb_sch13 I W T, s2, s3, s4, s5, s6, s7, s8, s9, s10, s11] _
  refine jb_if_ne (tgt := 17) (pc' := 8) dX11_ofVoice_5 (by decide) rfl (fun z => absurd (by decide) z) (fun _ => ?_)
  refine jb_iload_n (pc' := 9) dX11_ofVoice_8 rfl rfl ?_
  refine jb_iconst (pc' := 10) 0 dX11_ofVoice_9 (by decide) rfl ?_
  refine jb_iconst (pc' := 11) 3 dX11_ofVoice_10 (by decide) rfl ?_
  refine jb_callS (pc' := 14) (As := [.int 1, .int 0, .int 3]) (a2 := 0) (b2 := 0) wv_X11_74 dX11_ofVoice_11 (c_isOutLG 1 0 3 (by omega) (by omega) (by omega)) rfl ⟨by decide, Nat.le_of_eq (Nat.zero_add _), Nat.le_of_eq (Nat.zero_add _)⟩ (Nat.le_of_ble_eq_true rfl) rfl (fun r h9 hq => ?_)
  obtain ⟨rfl, rfl⟩ := hq
  show jb_J _ RX11 cX11_ofVoice 3 (Option.some .int) false 2 0 0 14 [some (.ref 0), some (.int (nI p)), some (.int 1)] [.int 0] [jb_main imm Im Tm rowm stkm tpm, jb_sch13 I W T, s2, s3, s4, s5, s6, s7, s8, s9, s10, s11] _
  refine jb_if_eq (tgt := 23) (pc' := 17) dX11_ofVoice_14 (by decide) rfl (fun _ => ?_) (fun z => absurd (by decide) z)
  refine jb_iload_n (pc' := 24) dX11_ofVoice_23 rfl rfl ?_
  refine jb_iconst (pc' := 25) 3 dX11_ofVoice_24 (by decide) rfl ?_
  refine jb_icmp_ne (tgt := 39) (pc' := 28) dX11_ofVoice_25 (by decide) rfl (fun _ => ?_) (fun z => absurd z (by decide))
  refine jb_aload_n (pc' := 40) dX11_ofVoice_39 rfl rfl ?_
  refine gf_X11_42 (pc' := 43) (v := .ref 13) dX11_ofVoice_40 rfl rfl rfl ?_
  refine gf_X11_99 (pc' := 46) (v := .ref 15) dX11_ofVoice_43 rfl rfl rfl ?_
  refine jb_iload_n (pc' := 47) dX11_ofVoice_46 rfl rfl ?_
  refine jb_aaload (pc' := 48) (i9 := 1) (r := 17) (Or.inl rfl) dX11_ofVoice_47 rfl jb_x1 (by decide) rfl rfl ?_
  refine jb_iload_n (pc' := 49) dX11_ofVoice_48 rfl rfl ?_
  refine jb_iaload (pc' := 50) (i9 := p) (f := (W 2)) dX11_ofVoice_49 rfl (jb_ix_nI (by omega)) (by omega) rfl ?_
  refine jb_top (v := .int ((W 2) p)) (w := .int (nI (V 2 p))) (jb_vI (rv p (by omega)).2.1) ?_
  refine jb_iret dX11_ofVoice_50 rfl ?_
  exact ⟨rfl, rfl⟩
set_option maxRecDepth 100000 in
set_option maxHeartbeats 4000000 in
theorem kx_ofVoice2 {sc : Nat × (Nat → Int32)} {s2 s3 s4 s5 s6 s7 s8 s9 s10 s11 : List va_E} {V : Nat → Nat → Nat} (imm : Int32) (Im rowm stkm tpm : Nat → Int32) (Tm : Nat → Value) (I : Nat → Int32) (W : Nat → Nat → Int32) (T : Nat → Value) (hr : jr_ V I W) (hk : jv_ok V) (p : Nat) (hp : p < V 0 1) : jb_C sc yX11_ofVoice cX11_ofVoice 3 (Option.some .int) 2 0 0 [.ref 0, .int (nI p), .int 2] [jb_main imm Im Tm rowm stkm tpm, jb_sch13 I W T, s2, s3, s4, s5, s6, s7, s8, s9, s10, s11] (fun r h9 => r = some (.int (nI (V 3 p))) ∧ h9 = [jb_main imm Im Tm rowm stkm tpm, jb_sch13 I W T, s2, s3, s4, s5, s6, s7, s8, s9, s10, s11]) := by
  refine jb_CofJ (ini := false) (by decide +kernel) (fun h => by cases h) (Nat.le_of_ble_eq_true rfl) ?_
  show jb_J sc RX11 cX11_ofVoice 3 (Option.some .int) false 2 0 0 0 [some (.ref 0), some (.int (nI p)), some (.int 2)] [] [jb_main imm Im Tm rowm stkm tpm, jb_sch13 I W T, s2, s3, s4, s5, s6, s7, s8, s9, s10, s11] _
  have hr0 := hr
  have hk0 := hk
  obtain ⟨r0, r2, r3, r4, a0, a1, a2, rv, rs, rd⟩ := hr
  obtain ⟨k0, k1, k2, k3, k4, k5, k6, k7, kv, ks, kd⟩ := hk
  refine jb_aload_n (pc' := 1) dX11_ofVoice_0 rfl rfl ?_
  refine jb_iload_n (pc' := 2) dX11_ofVoice_1 rfl rfl ?_
  refine jb_callV (pc' := 5) (ci := 11) (q := 0) (As := [.int (nI p)]) (a2 := 0) (b2 := 0) wv_X11_92 rfl dX11_ofVoice_2 (c_isNoVoiceG imm Im rowm stkm tpm Tm I W T hr0 hk0 p (by omega)) rfl rfl ⟨by decide, Nat.le_of_eq (Nat.zero_add _), Nat.le_of_eq (Nat.zero_add _)⟩ (Nat.le_of_ble_eq_true rfl) rfl (fun r h9 hq => ?_)
  obtain ⟨rfl, rfl⟩ := hq
  show jb_J _ RX11 cX11_ofVoice 3 (Option.some .int) false 2 0 0 5 [some (.ref 0), some (.int (nI p)), some (.int 2)] [.int 0] [jb_main imm Im Tm rowm stkm tpm, jb_sch13 I W T, s2, s3, s4, s5, s6, s7, s8, s9, s10, s11] _
  refine jb_if_ne (tgt := 17) (pc' := 8) dX11_ofVoice_5 (by decide) rfl (fun z => absurd (by decide) z) (fun _ => ?_)
  refine jb_iload_n (pc' := 9) dX11_ofVoice_8 rfl rfl ?_
  refine jb_iconst (pc' := 10) 0 dX11_ofVoice_9 (by decide) rfl ?_
  refine jb_iconst (pc' := 11) 3 dX11_ofVoice_10 (by decide) rfl ?_
  refine jb_callS (pc' := 14) (As := [.int 2, .int 0, .int 3]) (a2 := 0) (b2 := 0) wv_X11_74 dX11_ofVoice_11 (c_isOutLG 2 0 3 (by omega) (by omega) (by omega)) rfl ⟨by decide, Nat.le_of_eq (Nat.zero_add _), Nat.le_of_eq (Nat.zero_add _)⟩ (Nat.le_of_ble_eq_true rfl) rfl (fun r h9 hq => ?_)
  obtain ⟨rfl, rfl⟩ := hq
  show jb_J _ RX11 cX11_ofVoice 3 (Option.some .int) false 2 0 0 14 [some (.ref 0), some (.int (nI p)), some (.int 2)] [.int 0] [jb_main imm Im Tm rowm stkm tpm, jb_sch13 I W T, s2, s3, s4, s5, s6, s7, s8, s9, s10, s11] _
  refine jb_if_eq (tgt := 23) (pc' := 17) dX11_ofVoice_14 (by decide) rfl (fun _ => ?_) (fun z => absurd (by decide) z)
  refine jb_iload_n (pc' := 24) dX11_ofVoice_23 rfl rfl ?_
  refine jb_iconst (pc' := 25) 3 dX11_ofVoice_24 (by decide) rfl ?_
  refine jb_icmp_ne (tgt := 39) (pc' := 28) dX11_ofVoice_25 (by decide) rfl (fun _ => ?_) (fun z => absurd z (by decide))
  refine jb_aload_n (pc' := 40) dX11_ofVoice_39 rfl rfl ?_
  refine gf_X11_42 (pc' := 43) (v := .ref 13) dX11_ofVoice_40 rfl rfl rfl ?_
  refine gf_X11_99 (pc' := 46) (v := .ref 15) dX11_ofVoice_43 rfl rfl rfl ?_
  refine jb_iload_n (pc' := 47) dX11_ofVoice_46 rfl rfl ?_
  refine jb_aaload (pc' := 48) (i9 := 2) (r := 18) (Or.inl rfl) dX11_ofVoice_47 rfl jb_x2 (by decide) rfl rfl ?_
  refine jb_iload_n (pc' := 49) dX11_ofVoice_48 rfl rfl ?_
  refine jb_iaload (pc' := 50) (i9 := p) (f := (W 3)) dX11_ofVoice_49 rfl (jb_ix_nI (by omega)) (by omega) rfl ?_
  refine jb_top (v := .int ((W 3) p)) (w := .int (nI (V 3 p))) (jb_vI (rv p (by omega)).2.2) ?_
  refine jb_iret dX11_ofVoice_50 rfl ?_
  exact ⟨rfl, rfl⟩
set_option maxRecDepth 100000 in
set_option maxHeartbeats 4000000 in
theorem kx_ofVoice3 {sc : Nat × (Nat → Int32)} {s2 s3 s4 s5 s6 s7 s8 s9 s10 s11 : List va_E} {V : Nat → Nat → Nat} (imm : Int32) (Im rowm stkm tpm : Nat → Int32) (Tm : Nat → Value) (I : Nat → Int32) (W : Nat → Nat → Int32) (T : Nat → Value) (hr : jr_ V I W) (hk : jv_ok V) (p : Nat) (hp : p < V 0 1) : jb_C sc yX11_ofVoice cX11_ofVoice 3 (Option.some .int) 4 0 0 [.ref 0, .int (nI p), .int 3] [jb_main imm Im Tm rowm stkm tpm, jb_sch13 I W T, s2, s3, s4, s5, s6, s7, s8, s9, s10, s11] (fun r h9 => r = some (.int (nI (jm_th V p))) ∧ h9 = [jb_main imm Im Tm rowm stkm tpm, jb_sch13 I W T, s2, s3, s4, s5, s6, s7, s8, s9, s10, s11]) := by
  refine jb_CofJ (ini := false) (by decide +kernel) (fun h => by cases h) (Nat.le_of_ble_eq_true rfl) ?_
  show jb_J sc RX11 cX11_ofVoice 3 (Option.some .int) false 4 0 0 0 [some (.ref 0), some (.int (nI p)), some (.int 3)] [] [jb_main imm Im Tm rowm stkm tpm, jb_sch13 I W T, s2, s3, s4, s5, s6, s7, s8, s9, s10, s11] _
  have hr0 := hr
  have hk0 := hk
  obtain ⟨r0, r2, r3, r4, a0, a1, a2, rv, rs, rd⟩ := hr
  obtain ⟨k0, k1, k2, k3, k4, k5, k6, k7, kv, ks, kd⟩ := hk
  refine jb_aload_n (pc' := 1) dX11_ofVoice_0 rfl rfl ?_
  refine jb_iload_n (pc' := 2) dX11_ofVoice_1 rfl rfl ?_
  refine jb_callV (pc' := 5) (ci := 11) (q := 0) (As := [.int (nI p)]) (a2 := 0) (b2 := 0) wv_X11_92 rfl dX11_ofVoice_2 (c_isNoVoiceG imm Im rowm stkm tpm Tm I W T hr0 hk0 p (by omega)) rfl rfl ⟨by decide, Nat.le_of_eq (Nat.zero_add _), Nat.le_of_eq (Nat.zero_add _)⟩ (Nat.le_of_ble_eq_true rfl) rfl (fun r h9 hq => ?_)
  obtain ⟨rfl, rfl⟩ := hq
  show jb_J _ RX11 cX11_ofVoice 3 (Option.some .int) false 4 0 0 5 [some (.ref 0), some (.int (nI p)), some (.int 3)] [.int 0] [jb_main imm Im Tm rowm stkm tpm, jb_sch13 I W T, s2, s3, s4, s5, s6, s7, s8, s9, s10, s11] _
  refine jb_if_ne (tgt := 17) (pc' := 8) dX11_ofVoice_5 (by decide) rfl (fun z => absurd (by decide) z) (fun _ => ?_)
  refine jb_iload_n (pc' := 9) dX11_ofVoice_8 rfl rfl ?_
  refine jb_iconst (pc' := 10) 0 dX11_ofVoice_9 (by decide) rfl ?_
  refine jb_iconst (pc' := 11) 3 dX11_ofVoice_10 (by decide) rfl ?_
  refine jb_callS (pc' := 14) (As := [.int 3, .int 0, .int 3]) (a2 := 0) (b2 := 0) wv_X11_74 dX11_ofVoice_11 (c_isOutLG 3 0 3 (by omega) (by omega) (by omega)) rfl ⟨by decide, Nat.le_of_eq (Nat.zero_add _), Nat.le_of_eq (Nat.zero_add _)⟩ (Nat.le_of_ble_eq_true rfl) rfl (fun r h9 hq => ?_)
  obtain ⟨rfl, rfl⟩ := hq
  show jb_J _ RX11 cX11_ofVoice 3 (Option.some .int) false 4 0 0 14 [some (.ref 0), some (.int (nI p)), some (.int 3)] [.int 0] [jb_main imm Im Tm rowm stkm tpm, jb_sch13 I W T, s2, s3, s4, s5, s6, s7, s8, s9, s10, s11] _
  refine jb_if_eq (tgt := 23) (pc' := 17) dX11_ofVoice_14 (by decide) rfl (fun _ => ?_) (fun z => absurd (by decide) z)
  refine jb_iload_n (pc' := 24) dX11_ofVoice_23 rfl rfl ?_
  refine jb_iconst (pc' := 25) 3 dX11_ofVoice_24 (by decide) rfl ?_
  refine jb_icmp_ne (tgt := 39) (pc' := 28) dX11_ofVoice_25 (by decide) rfl (fun z => absurd (by decide) z) (fun _ => ?_)
  refine jb_aload_n (pc' := 29) dX11_ofVoice_28 rfl rfl ?_
  refine gf_X11_42 (pc' := 32) (v := .ref 13) dX11_ofVoice_29 rfl rfl rfl ?_
  refine jb_iload_n (pc' := 33) dX11_ofVoice_32 rfl rfl ?_
  refine jb_callV (pc' := 36) (ci := 9) (q := 13) (As := [.int (nI p)]) (a2 := 0) (b2 := 0) wv_X11_96 rfl dX11_ofVoice_33 (c_thinking_13 _ _ _ _ _ _ I W T ⟨r0, r2, r3, r4, a0, a1, a2, rv, rs, rd⟩ ⟨k0, k1, k2, k3, k4, k5, k6, k7, kv, ks, kd⟩ p (by omega)) rfl rfl ⟨by decide, Nat.le_of_eq (Nat.zero_add _), Nat.le_of_eq (Nat.zero_add _)⟩ (Nat.le_of_ble_eq_true rfl) rfl (fun r h9 hq => ?_)
  obtain ⟨rfl, rfl⟩ := hq
  show jb_J _ RX11 cX11_ofVoice 3 (Option.some .int) false 4 0 0 36 [some (.ref 0), some (.int (nI p)), some (.int 3)] [.int (nI (jm_th V p))] [jb_main imm Im Tm rowm stkm tpm, jb_sch13 I W T, s2, s3, s4, s5, s6, s7, s8, s9, s10, s11] _
  refine jb_goto (pc' := 50) dX11_ofVoice_36 (by decide) ?_
  refine jb_iret dX11_ofVoice_50 rfl ?_
  exact ⟨rfl, rfl⟩
set_option maxRecDepth 100000 in
set_option maxHeartbeats 4000000 in
theorem ke_ofVoice {sc : Nat × (Nat → Int32)} {s2 s3 s4 s5 s6 s7 s8 s10 s11 : List va_E} {V : Nat → Nat → Nat} (imm : Int32) (Im rowm stkm tpm : Nat → Int32) (Tm : Nat → Value) (I : Nat → Int32) (W : Nat → Nat → Int32) (T : Nat → Value) (Ia boa era : Nat → Int32) (hr : jr_ V I W) (hk : jv_ok V) (p w : Int32) (hb : ¬ (jn_b p 0 (V 0 1) ∧ jn_b w 0 4)) : jb_C sc yX11_ofVoice cX11_ofVoice 3 (Option.some .int) 2 0 0 [.ref 0, .int p, .int w] [jb_main imm Im Tm rowm stkm tpm, jb_sch13 I W T, s2, s3, s4, s5, s6, s7, s8, jb_act Ia boa era, s10, s11] (fun r h9 => r = some (.int (jm_er 1)) ∧ h9 = [jb_main imm Im Tm rowm stkm tpm, jb_sch13 I W T, s2, s3, s4, s5, s6, s7, s8, jb_act Ia boa (jm_ef era 1), s10, s11]) := by
  refine jb_CofJ (ini := false) (by decide +kernel) (fun h => by cases h) (Nat.le_of_ble_eq_true rfl) ?_
  show jb_J sc RX11 cX11_ofVoice 3 (Option.some .int) false 2 0 0 0 [some (.ref 0), some (.int p), some (.int w)] [] [jb_main imm Im Tm rowm stkm tpm, jb_sch13 I W T, s2, s3, s4, s5, s6, s7, s8, jb_act Ia boa era, s10, s11] _
  have hr0 := hr
  have hk0 := hk
  obtain ⟨r0, r2, r3, r4, a0, a1, a2, rv, rs, rd⟩ := hr
  obtain ⟨k0, k1, k2, k3, k4, k5, k6, k7, kv, ks, kd⟩ := hk
  refine jb_aload_n (pc' := 1) dX11_ofVoice_0 rfl rfl ?_
  refine jb_iload_n (pc' := 2) dX11_ofVoice_1 rfl rfl ?_
  refine jb_callV (pc' := 5) (ci := 11) (q := 0) (As := [.int p]) (a2 := 0) (b2 := 0) wv_X11_92 rfl dX11_ofVoice_2 (c_isNoVoice imm Im rowm stkm tpm Tm I W T hr0 hk0 p) rfl rfl ⟨by decide, Nat.le_of_eq (Nat.zero_add _), Nat.le_of_eq (Nat.zero_add _)⟩ (Nat.le_of_ble_eq_true rfl) rfl (fun r h9 hq => ?_)
  rcases hq with ⟨rfl, ⟨o1, rfl⟩ | ⟨o1, rfl⟩⟩
  · show jb_J _ RX11 cX11_ofVoice 3 (Option.some .int) false 2 0 0 5 [some (.ref 0), some (.int p), some (.int w)] [.int 0] [jb_main imm Im Tm rowm stkm tpm, jb_sch13 I W T, s2, s3, s4, s5, s6, s7, s8, jb_act Ia boa era, s10, s11] _
    refine jb_if_ne (tgt := 17) (pc' := 8) dX11_ofVoice_5 (by decide) rfl (fun z => absurd (by decide) z) (fun _ => ?_)
    refine jb_iload_n (pc' := 9) dX11_ofVoice_8 rfl rfl ?_
    refine jb_iconst (pc' := 10) 0 dX11_ofVoice_9 (by decide) rfl ?_
    refine jb_iconst (pc' := 11) 3 dX11_ofVoice_10 (by decide) rfl ?_
    refine jb_callS (pc' := 14) (As := [.int w, .int 0, .int 3]) (a2 := 0) (b2 := 0) wv_X11_74 dX11_ofVoice_11 (c_isOutL w 0 3 (by omega) (by omega)) rfl ⟨by decide, Nat.le_of_eq (Nat.zero_add _), Nat.le_of_eq (Nat.zero_add _)⟩ (Nat.le_of_ble_eq_true rfl) rfl (fun r h9 hq => ?_)
    rcases hq with ⟨rfl, ⟨o4, rfl⟩ | ⟨o4, rfl⟩⟩
    · show jb_J _ RX11 cX11_ofVoice 3 (Option.some .int) false 2 0 0 14 [some (.ref 0), some (.int p), some (.int w)] [.int 1] [jb_main imm Im Tm rowm stkm tpm, jb_sch13 I W T, s2, s3, s4, s5, s6, s7, s8, jb_act Ia boa era, s10, s11] _
      refine jb_if_eq (tgt := 23) (pc' := 17) dX11_ofVoice_14 (by decide) rfl (fun z => absurd z (by decide)) (fun _ => ?_)
      refine jb_aload_n (pc' := 18) dX11_ofVoice_17 rfl rfl ?_
      refine jb_iconst (pc' := 19) 1 dX11_ofVoice_18 (by decide) rfl ?_
      refine jb_callV (pc' := 22) (ci := 11) (q := 0) (As := [.int 1]) (a2 := 0) (b2 := 0) wv_X11_78 rfl dX11_ofVoice_19 (c_error imm Im rowm stkm tpm Tm Ia boa era 1 (by decide)) rfl rfl ⟨by decide, Nat.le_of_eq (Nat.zero_add _), Nat.le_of_eq (Nat.zero_add _)⟩ (Nat.le_of_ble_eq_true rfl) rfl (fun r h9 hq => ?_)
      obtain ⟨rfl, rfl⟩ := hq
      show jb_J _ RX11 cX11_ofVoice 3 (Option.some .int) false 2 0 0 22 [some (.ref 0), some (.int p), some (.int w)] [.int (jm_er 1)] [jb_main imm Im Tm rowm stkm tpm, jb_sch13 I W T, s2, s3, s4, s5, s6, s7, s8, jb_act Ia boa (jm_ef era 1), s10, s11] _
      refine jb_iret dX11_ofVoice_22 rfl ?_
      exact ⟨rfl, rfl⟩
    · show jb_J _ RX11 cX11_ofVoice 3 (Option.some .int) false 2 0 0 14 [some (.ref 0), some (.int p), some (.int w)] [.int 0] [jb_main imm Im Tm rowm stkm tpm, jb_sch13 I W T, s2, s3, s4, s5, s6, s7, s8, jb_act Ia boa era, s10, s11] _
      refine jb_if_eq (tgt := 23) (pc' := 17) dX11_ofVoice_14 (by decide) rfl (fun _ => ?_) (fun z => absurd (by decide) z)
      refine jb_iload_n (pc' := 24) dX11_ofVoice_23 rfl rfl ?_
      refine jb_iconst (pc' := 25) 3 dX11_ofVoice_24 (by decide) rfl ?_
      refine jb_icmp_ne (tgt := 39) (pc' := 28) dX11_ofVoice_25 (by decide) rfl (fun c8 => ?_) (fun c8 => ?_)
      · exact absurd ⟨by assumption, by assumption⟩ hb
      · exact absurd ⟨by assumption, by assumption⟩ hb
  · show jb_J _ RX11 cX11_ofVoice 3 (Option.some .int) false 2 0 0 5 [some (.ref 0), some (.int p), some (.int w)] [.int 1] [jb_main imm Im Tm rowm stkm tpm, jb_sch13 I W T, s2, s3, s4, s5, s6, s7, s8, jb_act Ia boa era, s10, s11] _
    refine jb_if_ne (tgt := 17) (pc' := 8) dX11_ofVoice_5 (by decide) rfl (fun _ => ?_) (fun z => absurd z (by decide))
    refine jb_aload_n (pc' := 18) dX11_ofVoice_17 rfl rfl ?_
    refine jb_iconst (pc' := 19) 1 dX11_ofVoice_18 (by decide) rfl ?_
    refine jb_callV (pc' := 22) (ci := 11) (q := 0) (As := [.int 1]) (a2 := 0) (b2 := 0) wv_X11_78 rfl dX11_ofVoice_19 (c_error imm Im rowm stkm tpm Tm Ia boa era 1 (by decide)) rfl rfl ⟨by decide, Nat.le_of_eq (Nat.zero_add _), Nat.le_of_eq (Nat.zero_add _)⟩ (Nat.le_of_ble_eq_true rfl) rfl (fun r h9 hq => ?_)
    obtain ⟨rfl, rfl⟩ := hq
    show jb_J _ RX11 cX11_ofVoice 3 (Option.some .int) false 2 0 0 22 [some (.ref 0), some (.int p), some (.int w)] [.int (jm_er 1)] [jb_main imm Im Tm rowm stkm tpm, jb_sch13 I W T, s2, s3, s4, s5, s6, s7, s8, jb_act Ia boa (jm_ef era 1), s10, s11] _
    refine jb_iret dX11_ofVoice_22 rfl ?_
    exact ⟨rfl, rfl⟩
set_option maxRecDepth 100000 in
set_option maxHeartbeats 4000000 in
theorem kx_carries {sc : Nat × (Nat → Int32)} {s2 s3 s4 s5 s6 s7 s8 s9 s10 s11 : List va_E} {V : Nat → Nat → Nat} (imm : Int32) (Im rowm stkm tpm : Nat → Int32) (Tm : Nat → Value) (I : Nat → Int32) (W : Nat → Nat → Int32) (T : Nat → Value) (hr : jr_ V I W) (hk : jv_ok V) (p : Nat) (hp : p < V 0 1) (w : Nat) (hw : w < 40) {G : jm_G} (hG : jm_Gok G) (hg : jG13 sc T s11 G) : jb_C sc yX11_carries cX11_carries 3 (Option.some .int) 6 0 0 [.ref 0, .int (nI p), .int (nI w)] [jb_main imm Im Tm rowm stkm tpm, jb_sch13 I W T, s2, s3, s4, s5, s6, s7, s8, s9, s10, s11] (fun r h9 => r = some (.int (jm_ca V G p w)) ∧ ∃ stk9, h9 = [jb_main imm Im Tm rowm stk9 tpm, jb_sch13 I W T, s2, s3, s4, s5, s6, s7, s8, s9, s10, s11]) := by
  refine jb_CofJ (ini := false) (by decide +kernel) (fun h => by cases h) (Nat.le_of_ble_eq_true rfl) ?_
  show jb_J sc RX11 cX11_carries 3 (Option.some .int) false 6 0 0 0 [some (.ref 0), some (.int (nI p)), some (.int (nI w))] [] [jb_main imm Im Tm rowm stkm tpm, jb_sch13 I W T, s2, s3, s4, s5, s6, s7, s8, s9, s10, s11] _
  have hr0 := hr
  have hk0 := hk
  obtain ⟨r0, r2, r3, r4, a0, a1, a2, rv, rs, rd⟩ := hr
  obtain ⟨k0, k1, k2, k3, k4, k5, k6, k7, kv, ks, kd⟩ := hk
  refine jb_aload_n (pc' := 1) dX11_carries_0 rfl rfl ?_
  refine jb_iload_n (pc' := 2) dX11_carries_1 rfl rfl ?_
  refine jb_callV (pc' := 5) (ci := 11) (q := 0) (As := [.int (nI p)]) (a2 := 0) (b2 := 0) wv_X11_92 rfl dX11_carries_2 (c_isNoVoiceG imm Im rowm stkm tpm Tm I W T hr0 hk0 p (by omega)) rfl rfl ⟨by decide, Nat.le_of_eq (Nat.zero_add _), Nat.le_of_eq (Nat.zero_add _)⟩ (Nat.le_of_ble_eq_true rfl) rfl (fun r h9 hq => ?_)
  obtain ⟨rfl, rfl⟩ := hq
  show jb_J _ RX11 cX11_carries 3 (Option.some .int) false 6 0 0 5 [some (.ref 0), some (.int (nI p)), some (.int (nI w))] [.int 0] [jb_main imm Im Tm rowm stkm tpm, jb_sch13 I W T, s2, s3, s4, s5, s6, s7, s8, s9, s10, s11] _
  refine jb_if_ne (tgt := 18) (pc' := 8) dX11_carries_5 (by decide) rfl (fun z => absurd (by decide) z) (fun _ => ?_)
  refine jb_iload_n (pc' := 9) dX11_carries_8 rfl rfl ?_
  refine jb_iconst (pc' := 10) 0 dX11_carries_9 (by decide) rfl ?_
  refine jb_bipush (pc' := 12) 39 dX11_carries_10 (by decide) rfl ?_
  refine jb_callS (pc' := 15) (As := [.int (nI w), .int 0, .int 39]) (a2 := 0) (b2 := 0) wv_X11_74 dX11_carries_12 (c_isOutLG w 0 39 (by omega) (by omega) (by omega)) rfl ⟨by decide, Nat.le_of_eq (Nat.zero_add _), Nat.le_of_eq (Nat.zero_add _)⟩ (Nat.le_of_ble_eq_true rfl) rfl (fun r h9 hq => ?_)
  obtain ⟨rfl, rfl⟩ := hq
  show jb_J _ RX11 cX11_carries 3 (Option.some .int) false 6 0 0 15 [some (.ref 0), some (.int (nI p)), some (.int (nI w))] [.int 0] [jb_main imm Im Tm rowm stkm tpm, jb_sch13 I W T, s2, s3, s4, s5, s6, s7, s8, s9, s10, s11] _
  refine jb_if_eq (tgt := 24) (pc' := 18) dX11_carries_15 (by decide) rfl (fun _ => ?_) (fun z => absurd (by decide) z)
  refine jb_aload_n (pc' := 25) dX11_carries_24 rfl rfl ?_
  refine gf_X11_42 (pc' := 28) (v := .ref 13) dX11_carries_25 rfl rfl rfl ?_
  refine jb_iload_n (pc' := 29) dX11_carries_28 rfl rfl ?_
  refine jb_iload_n (pc' := 30) dX11_carries_29 rfl rfl ?_
  refine jb_callV (pc' := 33) (ci := 9) (q := 13) (As := [.int (nI p), .int (nI w)]) (a2 := 0) (b2 := 0) wv_X11_103 rfl dX11_carries_30 (c_carriage_13 _ _ _ _ _ _ I W T ⟨r0, r2, r3, r4, a0, a1, a2, rv, rs, rd⟩ ⟨k0, k1, k2, k3, k4, k5, k6, k7, kv, ks, kd⟩ hG hg p w (by omega) (by omega)) rfl rfl ⟨by decide, Nat.le_of_eq (Nat.zero_add _), Nat.le_of_eq (Nat.zero_add _)⟩ (Nat.le_of_ble_eq_true rfl) rfl (fun r h9 hq => ?_)
  obtain ⟨rfl, stk9, rfl⟩ := hq
  show jb_J _ RX11 cX11_carries 3 (Option.some .int) false 6 0 0 33 [some (.ref 0), some (.int (nI p)), some (.int (nI w))] [.int (jm_ca V G p w)] [jb_main imm Im Tm rowm stk9 tpm, jb_sch13 I W T, s2, s3, s4, s5, s6, s7, s8, s9, s10, s11] _
  refine jb_iret dX11_carries_33 rfl ?_
  exact ⟨rfl, _, rfl⟩
set_option maxRecDepth 100000 in
set_option maxHeartbeats 4000000 in
theorem ke_carries {sc : Nat × (Nat → Int32)} {s2 s3 s4 s5 s6 s7 s8 s10 s11 : List va_E} {V : Nat → Nat → Nat} (imm : Int32) (Im rowm stkm tpm : Nat → Int32) (Tm : Nat → Value) (I : Nat → Int32) (W : Nat → Nat → Int32) (T : Nat → Value) (Ia boa era : Nat → Int32) (hr : jr_ V I W) (hk : jv_ok V) (p w : Int32) (hb : ¬ (jn_b p 0 (V 0 1) ∧ jn_b w 0 40)) : jb_C sc yX11_carries cX11_carries 3 (Option.some .int) 2 0 0 [.ref 0, .int p, .int w] [jb_main imm Im Tm rowm stkm tpm, jb_sch13 I W T, s2, s3, s4, s5, s6, s7, s8, jb_act Ia boa era, s10, s11] (fun r h9 => r = some (.int (jm_er 1)) ∧ h9 = [jb_main imm Im Tm rowm stkm tpm, jb_sch13 I W T, s2, s3, s4, s5, s6, s7, s8, jb_act Ia boa (jm_ef era 1), s10, s11]) := by
  refine jb_CofJ (ini := false) (by decide +kernel) (fun h => by cases h) (Nat.le_of_ble_eq_true rfl) ?_
  show jb_J sc RX11 cX11_carries 3 (Option.some .int) false 2 0 0 0 [some (.ref 0), some (.int p), some (.int w)] [] [jb_main imm Im Tm rowm stkm tpm, jb_sch13 I W T, s2, s3, s4, s5, s6, s7, s8, jb_act Ia boa era, s10, s11] _
  have hr0 := hr
  have hk0 := hk
  obtain ⟨r0, r2, r3, r4, a0, a1, a2, rv, rs, rd⟩ := hr
  obtain ⟨k0, k1, k2, k3, k4, k5, k6, k7, kv, ks, kd⟩ := hk
  refine jb_aload_n (pc' := 1) dX11_carries_0 rfl rfl ?_
  refine jb_iload_n (pc' := 2) dX11_carries_1 rfl rfl ?_
  refine jb_callV (pc' := 5) (ci := 11) (q := 0) (As := [.int p]) (a2 := 0) (b2 := 0) wv_X11_92 rfl dX11_carries_2 (c_isNoVoice imm Im rowm stkm tpm Tm I W T hr0 hk0 p) rfl rfl ⟨by decide, Nat.le_of_eq (Nat.zero_add _), Nat.le_of_eq (Nat.zero_add _)⟩ (Nat.le_of_ble_eq_true rfl) rfl (fun r h9 hq => ?_)
  rcases hq with ⟨rfl, ⟨o1, rfl⟩ | ⟨o1, rfl⟩⟩
  · show jb_J _ RX11 cX11_carries 3 (Option.some .int) false 2 0 0 5 [some (.ref 0), some (.int p), some (.int w)] [.int 0] [jb_main imm Im Tm rowm stkm tpm, jb_sch13 I W T, s2, s3, s4, s5, s6, s7, s8, jb_act Ia boa era, s10, s11] _
    refine jb_if_ne (tgt := 18) (pc' := 8) dX11_carries_5 (by decide) rfl (fun z => absurd (by decide) z) (fun _ => ?_)
    refine jb_iload_n (pc' := 9) dX11_carries_8 rfl rfl ?_
    refine jb_iconst (pc' := 10) 0 dX11_carries_9 (by decide) rfl ?_
    refine jb_bipush (pc' := 12) 39 dX11_carries_10 (by decide) rfl ?_
    refine jb_callS (pc' := 15) (As := [.int w, .int 0, .int 39]) (a2 := 0) (b2 := 0) wv_X11_74 dX11_carries_12 (c_isOutL w 0 39 (by omega) (by omega)) rfl ⟨by decide, Nat.le_of_eq (Nat.zero_add _), Nat.le_of_eq (Nat.zero_add _)⟩ (Nat.le_of_ble_eq_true rfl) rfl (fun r h9 hq => ?_)
    rcases hq with ⟨rfl, ⟨o4, rfl⟩ | ⟨o4, rfl⟩⟩
    · show jb_J _ RX11 cX11_carries 3 (Option.some .int) false 2 0 0 15 [some (.ref 0), some (.int p), some (.int w)] [.int 1] [jb_main imm Im Tm rowm stkm tpm, jb_sch13 I W T, s2, s3, s4, s5, s6, s7, s8, jb_act Ia boa era, s10, s11] _
      refine jb_if_eq (tgt := 24) (pc' := 18) dX11_carries_15 (by decide) rfl (fun z => absurd z (by decide)) (fun _ => ?_)
      refine jb_aload_n (pc' := 19) dX11_carries_18 rfl rfl ?_
      refine jb_iconst (pc' := 20) 1 dX11_carries_19 (by decide) rfl ?_
      refine jb_callV (pc' := 23) (ci := 11) (q := 0) (As := [.int 1]) (a2 := 0) (b2 := 0) wv_X11_78 rfl dX11_carries_20 (c_error imm Im rowm stkm tpm Tm Ia boa era 1 (by decide)) rfl rfl ⟨by decide, Nat.le_of_eq (Nat.zero_add _), Nat.le_of_eq (Nat.zero_add _)⟩ (Nat.le_of_ble_eq_true rfl) rfl (fun r h9 hq => ?_)
      obtain ⟨rfl, rfl⟩ := hq
      show jb_J _ RX11 cX11_carries 3 (Option.some .int) false 2 0 0 23 [some (.ref 0), some (.int p), some (.int w)] [.int (jm_er 1)] [jb_main imm Im Tm rowm stkm tpm, jb_sch13 I W T, s2, s3, s4, s5, s6, s7, s8, jb_act Ia boa (jm_ef era 1), s10, s11] _
      refine jb_iret dX11_carries_23 rfl ?_
      exact ⟨rfl, rfl⟩
    · show jb_J _ RX11 cX11_carries 3 (Option.some .int) false 2 0 0 15 [some (.ref 0), some (.int p), some (.int w)] [.int 0] [jb_main imm Im Tm rowm stkm tpm, jb_sch13 I W T, s2, s3, s4, s5, s6, s7, s8, jb_act Ia boa era, s10, s11] _
      exact absurd ⟨by assumption, by assumption⟩ hb
  · show jb_J _ RX11 cX11_carries 3 (Option.some .int) false 2 0 0 5 [some (.ref 0), some (.int p), some (.int w)] [.int 1] [jb_main imm Im Tm rowm stkm tpm, jb_sch13 I W T, s2, s3, s4, s5, s6, s7, s8, jb_act Ia boa era, s10, s11] _
    refine jb_if_ne (tgt := 18) (pc' := 8) dX11_carries_5 (by decide) rfl (fun _ => ?_) (fun z => absurd z (by decide))
    refine jb_aload_n (pc' := 19) dX11_carries_18 rfl rfl ?_
    refine jb_iconst (pc' := 20) 1 dX11_carries_19 (by decide) rfl ?_
    refine jb_callV (pc' := 23) (ci := 11) (q := 0) (As := [.int 1]) (a2 := 0) (b2 := 0) wv_X11_78 rfl dX11_carries_20 (c_error imm Im rowm stkm tpm Tm Ia boa era 1 (by decide)) rfl rfl ⟨by decide, Nat.le_of_eq (Nat.zero_add _), Nat.le_of_eq (Nat.zero_add _)⟩ (Nat.le_of_ble_eq_true rfl) rfl (fun r h9 hq => ?_)
    obtain ⟨rfl, rfl⟩ := hq
    show jb_J _ RX11 cX11_carries 3 (Option.some .int) false 2 0 0 23 [some (.ref 0), some (.int p), some (.int w)] [.int (jm_er 1)] [jb_main imm Im Tm rowm stkm tpm, jb_sch13 I W T, s2, s3, s4, s5, s6, s7, s8, jb_act Ia boa (jm_ef era 1), s10, s11] _
    refine jb_iret dX11_carries_23 rfl ?_
    exact ⟨rfl, rfl⟩
set_option maxRecDepth 100000 in
set_option maxHeartbeats 4000000 in
theorem kx_says {sc : Nat × (Nat → Int32)} {s2 s3 s4 s5 s6 s7 s8 s9 s10 s11 : List va_E} {V : Nat → Nat → Nat} (imm : Int32) (Im rowm stkm tpm : Nat → Int32) (Tm : Nat → Value) (I : Nat → Int32) (W : Nat → Nat → Int32) (T : Nat → Value) (hr : jr_ V I W) (hk : jv_ok V) (p : Nat) (hp : p < V 0 1) (w : Nat) (hw : w < 40) {G : jm_G} (hG : jm_Gok G) (hg : jG13 sc T s11 G) : jb_C sc yX11_says cX11_says 3 (Option.some .int) 6 0 0 [.ref 0, .int (nI p), .int (nI w)] [jb_main imm Im Tm rowm stkm tpm, jb_sch13 I W T, s2, s3, s4, s5, s6, s7, s8, s9, s10, s11] (fun r h9 => r = some (.int (nI (jm_sa V G p w))) ∧ ∃ stk9, h9 = [jb_main imm Im Tm rowm stk9 tpm, jb_sch13 I W T, s2, s3, s4, s5, s6, s7, s8, s9, s10, s11]) := by
  refine jb_CofJ (ini := false) (by decide +kernel) (fun h => by cases h) (Nat.le_of_ble_eq_true rfl) ?_
  show jb_J sc RX11 cX11_says 3 (Option.some .int) false 6 0 0 0 [some (.ref 0), some (.int (nI p)), some (.int (nI w))] [] [jb_main imm Im Tm rowm stkm tpm, jb_sch13 I W T, s2, s3, s4, s5, s6, s7, s8, s9, s10, s11] _
  have hr0 := hr
  have hk0 := hk
  obtain ⟨r0, r2, r3, r4, a0, a1, a2, rv, rs, rd⟩ := hr
  obtain ⟨k0, k1, k2, k3, k4, k5, k6, k7, kv, ks, kd⟩ := hk
  refine jb_aload_n (pc' := 1) dX11_says_0 rfl rfl ?_
  refine jb_iload_n (pc' := 2) dX11_says_1 rfl rfl ?_
  refine jb_callV (pc' := 5) (ci := 11) (q := 0) (As := [.int (nI p)]) (a2 := 0) (b2 := 0) wv_X11_92 rfl dX11_says_2 (c_isNoVoiceG imm Im rowm stkm tpm Tm I W T hr0 hk0 p (by omega)) rfl rfl ⟨by decide, Nat.le_of_eq (Nat.zero_add _), Nat.le_of_eq (Nat.zero_add _)⟩ (Nat.le_of_ble_eq_true rfl) rfl (fun r h9 hq => ?_)
  obtain ⟨rfl, rfl⟩ := hq
  show jb_J _ RX11 cX11_says 3 (Option.some .int) false 6 0 0 5 [some (.ref 0), some (.int (nI p)), some (.int (nI w))] [.int 0] [jb_main imm Im Tm rowm stkm tpm, jb_sch13 I W T, s2, s3, s4, s5, s6, s7, s8, s9, s10, s11] _
  refine jb_if_ne (tgt := 18) (pc' := 8) dX11_says_5 (by decide) rfl (fun z => absurd (by decide) z) (fun _ => ?_)
  refine jb_iload_n (pc' := 9) dX11_says_8 rfl rfl ?_
  refine jb_iconst (pc' := 10) 0 dX11_says_9 (by decide) rfl ?_
  refine jb_bipush (pc' := 12) 39 dX11_says_10 (by decide) rfl ?_
  refine jb_callS (pc' := 15) (As := [.int (nI w), .int 0, .int 39]) (a2 := 0) (b2 := 0) wv_X11_74 dX11_says_12 (c_isOutLG w 0 39 (by omega) (by omega) (by omega)) rfl ⟨by decide, Nat.le_of_eq (Nat.zero_add _), Nat.le_of_eq (Nat.zero_add _)⟩ (Nat.le_of_ble_eq_true rfl) rfl (fun r h9 hq => ?_)
  obtain ⟨rfl, rfl⟩ := hq
  show jb_J _ RX11 cX11_says 3 (Option.some .int) false 6 0 0 15 [some (.ref 0), some (.int (nI p)), some (.int (nI w))] [.int 0] [jb_main imm Im Tm rowm stkm tpm, jb_sch13 I W T, s2, s3, s4, s5, s6, s7, s8, s9, s10, s11] _
  refine jb_if_eq (tgt := 24) (pc' := 18) dX11_says_15 (by decide) rfl (fun _ => ?_) (fun z => absurd (by decide) z)
  refine jb_aload_n (pc' := 25) dX11_says_24 rfl rfl ?_
  refine gf_X11_42 (pc' := 28) (v := .ref 13) dX11_says_25 rfl rfl rfl ?_
  refine jb_iload_n (pc' := 29) dX11_says_28 rfl rfl ?_
  refine jb_iload_n (pc' := 30) dX11_says_29 rfl rfl ?_
  refine jb_callV (pc' := 33) (ci := 9) (q := 13) (As := [.int (nI p), .int (nI w)]) (a2 := 0) (b2 := 0) wv_X11_106 rfl dX11_says_30 (c_wordSaid_13 _ _ _ _ _ _ I W T ⟨r0, r2, r3, r4, a0, a1, a2, rv, rs, rd⟩ ⟨k0, k1, k2, k3, k4, k5, k6, k7, kv, ks, kd⟩ hG hg p w (by omega) (by omega)) rfl rfl ⟨by decide, Nat.le_of_eq (Nat.zero_add _), Nat.le_of_eq (Nat.zero_add _)⟩ (Nat.le_of_ble_eq_true rfl) rfl (fun r h9 hq => ?_)
  obtain ⟨rfl, stk9, rfl⟩ := hq
  show jb_J _ RX11 cX11_says 3 (Option.some .int) false 6 0 0 33 [some (.ref 0), some (.int (nI p)), some (.int (nI w))] [.int (nI (jm_sa V G p w))] [jb_main imm Im Tm rowm stk9 tpm, jb_sch13 I W T, s2, s3, s4, s5, s6, s7, s8, s9, s10, s11] _
  refine jb_iret dX11_says_33 rfl ?_
  exact ⟨rfl, _, rfl⟩
set_option maxRecDepth 100000 in
set_option maxHeartbeats 4000000 in
theorem ke_says {sc : Nat × (Nat → Int32)} {s2 s3 s4 s5 s6 s7 s8 s10 s11 : List va_E} {V : Nat → Nat → Nat} (imm : Int32) (Im rowm stkm tpm : Nat → Int32) (Tm : Nat → Value) (I : Nat → Int32) (W : Nat → Nat → Int32) (T : Nat → Value) (Ia boa era : Nat → Int32) (hr : jr_ V I W) (hk : jv_ok V) (p w : Int32) (hb : ¬ (jn_b p 0 (V 0 1) ∧ jn_b w 0 40)) : jb_C sc yX11_says cX11_says 3 (Option.some .int) 2 0 0 [.ref 0, .int p, .int w] [jb_main imm Im Tm rowm stkm tpm, jb_sch13 I W T, s2, s3, s4, s5, s6, s7, s8, jb_act Ia boa era, s10, s11] (fun r h9 => r = some (.int (jm_er 1)) ∧ h9 = [jb_main imm Im Tm rowm stkm tpm, jb_sch13 I W T, s2, s3, s4, s5, s6, s7, s8, jb_act Ia boa (jm_ef era 1), s10, s11]) := by
  refine jb_CofJ (ini := false) (by decide +kernel) (fun h => by cases h) (Nat.le_of_ble_eq_true rfl) ?_
  show jb_J sc RX11 cX11_says 3 (Option.some .int) false 2 0 0 0 [some (.ref 0), some (.int p), some (.int w)] [] [jb_main imm Im Tm rowm stkm tpm, jb_sch13 I W T, s2, s3, s4, s5, s6, s7, s8, jb_act Ia boa era, s10, s11] _
  have hr0 := hr
  have hk0 := hk
  obtain ⟨r0, r2, r3, r4, a0, a1, a2, rv, rs, rd⟩ := hr
  obtain ⟨k0, k1, k2, k3, k4, k5, k6, k7, kv, ks, kd⟩ := hk
  refine jb_aload_n (pc' := 1) dX11_says_0 rfl rfl ?_
  refine jb_iload_n (pc' := 2) dX11_says_1 rfl rfl ?_
  refine jb_callV (pc' := 5) (ci := 11) (q := 0) (As := [.int p]) (a2 := 0) (b2 := 0) wv_X11_92 rfl dX11_says_2 (c_isNoVoice imm Im rowm stkm tpm Tm I W T hr0 hk0 p) rfl rfl ⟨by decide, Nat.le_of_eq (Nat.zero_add _), Nat.le_of_eq (Nat.zero_add _)⟩ (Nat.le_of_ble_eq_true rfl) rfl (fun r h9 hq => ?_)
  rcases hq with ⟨rfl, ⟨o1, rfl⟩ | ⟨o1, rfl⟩⟩
  · show jb_J _ RX11 cX11_says 3 (Option.some .int) false 2 0 0 5 [some (.ref 0), some (.int p), some (.int w)] [.int 0] [jb_main imm Im Tm rowm stkm tpm, jb_sch13 I W T, s2, s3, s4, s5, s6, s7, s8, jb_act Ia boa era, s10, s11] _
    refine jb_if_ne (tgt := 18) (pc' := 8) dX11_says_5 (by decide) rfl (fun z => absurd (by decide) z) (fun _ => ?_)
    refine jb_iload_n (pc' := 9) dX11_says_8 rfl rfl ?_
    refine jb_iconst (pc' := 10) 0 dX11_says_9 (by decide) rfl ?_
    refine jb_bipush (pc' := 12) 39 dX11_says_10 (by decide) rfl ?_
    refine jb_callS (pc' := 15) (As := [.int w, .int 0, .int 39]) (a2 := 0) (b2 := 0) wv_X11_74 dX11_says_12 (c_isOutL w 0 39 (by omega) (by omega)) rfl ⟨by decide, Nat.le_of_eq (Nat.zero_add _), Nat.le_of_eq (Nat.zero_add _)⟩ (Nat.le_of_ble_eq_true rfl) rfl (fun r h9 hq => ?_)
    rcases hq with ⟨rfl, ⟨o4, rfl⟩ | ⟨o4, rfl⟩⟩
    · show jb_J _ RX11 cX11_says 3 (Option.some .int) false 2 0 0 15 [some (.ref 0), some (.int p), some (.int w)] [.int 1] [jb_main imm Im Tm rowm stkm tpm, jb_sch13 I W T, s2, s3, s4, s5, s6, s7, s8, jb_act Ia boa era, s10, s11] _
      refine jb_if_eq (tgt := 24) (pc' := 18) dX11_says_15 (by decide) rfl (fun z => absurd z (by decide)) (fun _ => ?_)
      refine jb_aload_n (pc' := 19) dX11_says_18 rfl rfl ?_
      refine jb_iconst (pc' := 20) 1 dX11_says_19 (by decide) rfl ?_
      refine jb_callV (pc' := 23) (ci := 11) (q := 0) (As := [.int 1]) (a2 := 0) (b2 := 0) wv_X11_78 rfl dX11_says_20 (c_error imm Im rowm stkm tpm Tm Ia boa era 1 (by decide)) rfl rfl ⟨by decide, Nat.le_of_eq (Nat.zero_add _), Nat.le_of_eq (Nat.zero_add _)⟩ (Nat.le_of_ble_eq_true rfl) rfl (fun r h9 hq => ?_)
      obtain ⟨rfl, rfl⟩ := hq
      show jb_J _ RX11 cX11_says 3 (Option.some .int) false 2 0 0 23 [some (.ref 0), some (.int p), some (.int w)] [.int (jm_er 1)] [jb_main imm Im Tm rowm stkm tpm, jb_sch13 I W T, s2, s3, s4, s5, s6, s7, s8, jb_act Ia boa (jm_ef era 1), s10, s11] _
      refine jb_iret dX11_says_23 rfl ?_
      exact ⟨rfl, rfl⟩
    · show jb_J _ RX11 cX11_says 3 (Option.some .int) false 2 0 0 15 [some (.ref 0), some (.int p), some (.int w)] [.int 0] [jb_main imm Im Tm rowm stkm tpm, jb_sch13 I W T, s2, s3, s4, s5, s6, s7, s8, jb_act Ia boa era, s10, s11] _
      exact absurd ⟨by assumption, by assumption⟩ hb
  · show jb_J _ RX11 cX11_says 3 (Option.some .int) false 2 0 0 5 [some (.ref 0), some (.int p), some (.int w)] [.int 1] [jb_main imm Im Tm rowm stkm tpm, jb_sch13 I W T, s2, s3, s4, s5, s6, s7, s8, jb_act Ia boa era, s10, s11] _
    refine jb_if_ne (tgt := 18) (pc' := 8) dX11_says_5 (by decide) rfl (fun _ => ?_) (fun z => absurd z (by decide))
    refine jb_aload_n (pc' := 19) dX11_says_18 rfl rfl ?_
    refine jb_iconst (pc' := 20) 1 dX11_says_19 (by decide) rfl ?_
    refine jb_callV (pc' := 23) (ci := 11) (q := 0) (As := [.int 1]) (a2 := 0) (b2 := 0) wv_X11_78 rfl dX11_says_20 (c_error imm Im rowm stkm tpm Tm Ia boa era 1 (by decide)) rfl rfl ⟨by decide, Nat.le_of_eq (Nat.zero_add _), Nat.le_of_eq (Nat.zero_add _)⟩ (Nat.le_of_ble_eq_true rfl) rfl (fun r h9 hq => ?_)
    obtain ⟨rfl, rfl⟩ := hq
    show jb_J _ RX11 cX11_says 3 (Option.some .int) false 2 0 0 23 [some (.ref 0), some (.int p), some (.int w)] [.int (jm_er 1)] [jb_main imm Im Tm rowm stkm tpm, jb_sch13 I W T, s2, s3, s4, s5, s6, s7, s8, jb_act Ia boa (jm_ef era 1), s10, s11] _
    refine jb_iret dX11_says_23 rfl ?_
    exact ⟨rfl, rfl⟩
set_option maxRecDepth 100000 in
set_option maxHeartbeats 4000000 in
theorem kx_go {sc : Nat × (Nat → Int32)} {s2 s3 s4 s5 s6 s7 s8 s9 s10 s11 : List va_E} {V : Nat → Nat → Nat} (imm : Int32) (Im rowm stkm tpm : Nat → Int32) (Tm : Nat → Value) (I : Nat → Int32) (W : Nat → Nat → Int32) (T : Nat → Value) (hr : jr_ V I W) (hk : jv_ok V) (p : Nat) (hp : p < V 0 1) (c : Nat) (hc : c < 2) : jb_C sc yX11_go cX11_go 4 (Option.some .int) 2 0 0 [.ref 0, .int (nI p), .int (nI c)] [jb_main imm Im Tm rowm stkm tpm, jb_sch13 I W T, s2, s3, s4, s5, s6, s7, s8, s9, s10, s11] (fun r h9 => r = some (.int (nI (V 3 p))) ∧ ∃ I9 W9, jr_ (jv_up V 3 p c) I9 W9 ∧ I9 1 = I 1 ∧ jr_f I W I9 W9 ∧ h9 = [jb_main imm Im Tm rowm stkm tpm, jb_sch13 I9 W9 T, s2, s3, s4, s5, s6, s7, s8, s9, s10, s11]) := by
  refine jb_CofJ (ini := false) (by decide +kernel) (fun h => by cases h) (Nat.le_of_ble_eq_true rfl) ?_
  show jb_J sc RX11 cX11_go 4 (Option.some .int) false 2 0 0 0 [some (.ref 0), some (.int (nI p)), some (.int (nI c)), none] [] [jb_main imm Im Tm rowm stkm tpm, jb_sch13 I W T, s2, s3, s4, s5, s6, s7, s8, s9, s10, s11] _
  have hr0 := hr
  have hk0 := hk
  obtain ⟨r0, r2, r3, r4, a0, a1, a2, rv, rs, rd⟩ := hr
  obtain ⟨k0, k1, k2, k3, k4, k5, k6, k7, kv, ks, kd⟩ := hk
  refine jb_aload_n (pc' := 1) dX11_go_0 rfl rfl ?_
  refine jb_iload_n (pc' := 2) dX11_go_1 rfl rfl ?_
  refine jb_callV (pc' := 5) (ci := 11) (q := 0) (As := [.int (nI p)]) (a2 := 0) (b2 := 0) wv_X11_92 rfl dX11_go_2 (c_isNoVoiceG imm Im rowm stkm tpm Tm I W T hr0 hk0 p (by omega)) rfl rfl ⟨by decide, Nat.le_of_eq (Nat.zero_add _), Nat.le_of_eq (Nat.zero_add _)⟩ (Nat.le_of_ble_eq_true rfl) rfl (fun r h9 hq => ?_)
  obtain ⟨rfl, rfl⟩ := hq
  show jb_J _ RX11 cX11_go 4 (Option.some .int) false 2 0 0 5 [some (.ref 0), some (.int (nI p)), some (.int (nI c)), none] [.int 0] [jb_main imm Im Tm rowm stkm tpm, jb_sch13 I W T, s2, s3, s4, s5, s6, s7, s8, s9, s10, s11] _
  refine jb_if_ne (tgt := 17) (pc' := 8) dX11_go_5 (by decide) rfl (fun z => absurd (by decide) z) (fun _ => ?_)
  refine jb_iload_n (pc' := 9) dX11_go_8 rfl rfl ?_
  refine jb_iconst (pc' := 10) 0 dX11_go_9 (by decide) rfl ?_
  refine jb_iconst (pc' := 11) 1 dX11_go_10 (by decide) rfl ?_
  refine jb_callS (pc' := 14) (As := [.int (nI c), .int 0, .int 1]) (a2 := 0) (b2 := 0) wv_X11_74 dX11_go_11 (c_isOutLG c 0 1 (by omega) (by omega) (by omega)) rfl ⟨by decide, Nat.le_of_eq (Nat.zero_add _), Nat.le_of_eq (Nat.zero_add _)⟩ (Nat.le_of_ble_eq_true rfl) rfl (fun r h9 hq => ?_)
  obtain ⟨rfl, rfl⟩ := hq
  show jb_J _ RX11 cX11_go 4 (Option.some .int) false 2 0 0 14 [some (.ref 0), some (.int (nI p)), some (.int (nI c)), none] [.int 0] [jb_main imm Im Tm rowm stkm tpm, jb_sch13 I W T, s2, s3, s4, s5, s6, s7, s8, s9, s10, s11] _
  refine jb_if_eq (tgt := 23) (pc' := 17) dX11_go_14 (by decide) rfl (fun _ => ?_) (fun z => absurd (by decide) z)
  refine jb_aload_n (pc' := 24) dX11_go_23 rfl rfl ?_
  refine gf_X11_42 (pc' := 27) (v := .ref 13) dX11_go_24 rfl rfl rfl ?_
  refine gf_X11_99 (pc' := 30) (v := .ref 15) dX11_go_27 rfl rfl rfl ?_
  refine jb_iconst (pc' := 31) 2 dX11_go_30 (by decide) rfl ?_
  refine jb_aaload (pc' := 32) (i9 := 2) (r := 18) (Or.inl rfl) dX11_go_31 rfl jb_x2 (by decide) rfl rfl ?_
  refine jb_iload_n (pc' := 33) dX11_go_32 rfl rfl ?_
  refine jb_iaload (pc' := 34) (i9 := p) (f := (W 3)) dX11_go_33 rfl (jb_ix_nI (by omega)) (by omega) rfl ?_
  refine jb_top (v := .int ((W 3) p)) (w := .int (nI (V 3 p))) (jb_vI (rv p (by omega)).2.2) ?_
  refine jb_istore_n_ (pc' := 35) dX11_go_34 (by decide) (jb_at3 rfl) rfl ?_
  refine jb_aload_n (pc' := 36) dX11_go_35 rfl rfl ?_
  refine gf_X11_42 (pc' := 39) (v := .ref 13) dX11_go_36 rfl rfl rfl ?_
  refine gf_X11_99 (pc' := 42) (v := .ref 15) dX11_go_39 rfl rfl rfl ?_
  refine jb_iconst (pc' := 43) 2 dX11_go_42 (by decide) rfl ?_
  refine jb_aaload (pc' := 44) (i9 := 2) (r := 18) (Or.inl rfl) dX11_go_43 rfl jb_x2 (by decide) rfl rfl ?_
  refine jb_iload_n (pc' := 45) dX11_go_44 rfl rfl ?_
  refine jb_iload_n (pc' := 46) dX11_go_45 rfl rfl ?_
  refine jb_iastore (pc' := 47) (i9 := p) (f := (W 3)) (h' := [jb_main imm Im Tm rowm stkm tpm, jb_sch13 I (va_up W 3 (upd (W 3) p (nI c))) T, s2, s3, s4, s5, s6, s7, s8, s9, s10, s11]) dX11_go_46 rfl (jb_ix_nI (by omega)) (by omega) rfl rfl ?_
  refine jb_iload_n (pc' := 48) dX11_go_47 rfl rfl ?_
  refine jb_iret dX11_go_48 rfl ?_
  exact ⟨rfl, I, (va_up W 3 (upd (W 3) p (nI c))), jr_go hr0 p c, rfl, ⟨rfl, rfl, rfl, rfl⟩, rfl⟩
set_option maxRecDepth 100000 in
set_option maxHeartbeats 4000000 in
theorem ke_go {sc : Nat × (Nat → Int32)} {s2 s3 s4 s5 s6 s7 s8 s10 s11 : List va_E} {V : Nat → Nat → Nat} (imm : Int32) (Im rowm stkm tpm : Nat → Int32) (Tm : Nat → Value) (I : Nat → Int32) (W : Nat → Nat → Int32) (T : Nat → Value) (Ia boa era : Nat → Int32) (hr : jr_ V I W) (hk : jv_ok V) (p c : Int32) (hb : ¬ (jn_b p 0 (V 0 1) ∧ jn_b c 0 2)) : jb_C sc yX11_go cX11_go 4 (Option.some .int) 2 0 0 [.ref 0, .int p, .int c] [jb_main imm Im Tm rowm stkm tpm, jb_sch13 I W T, s2, s3, s4, s5, s6, s7, s8, jb_act Ia boa era, s10, s11] (fun r h9 => r = some (.int (jm_er 1)) ∧ h9 = [jb_main imm Im Tm rowm stkm tpm, jb_sch13 I W T, s2, s3, s4, s5, s6, s7, s8, jb_act Ia boa (jm_ef era 1), s10, s11]) := by
  refine jb_CofJ (ini := false) (by decide +kernel) (fun h => by cases h) (Nat.le_of_ble_eq_true rfl) ?_
  show jb_J sc RX11 cX11_go 4 (Option.some .int) false 2 0 0 0 [some (.ref 0), some (.int p), some (.int c), none] [] [jb_main imm Im Tm rowm stkm tpm, jb_sch13 I W T, s2, s3, s4, s5, s6, s7, s8, jb_act Ia boa era, s10, s11] _
  have hr0 := hr
  have hk0 := hk
  obtain ⟨r0, r2, r3, r4, a0, a1, a2, rv, rs, rd⟩ := hr
  obtain ⟨k0, k1, k2, k3, k4, k5, k6, k7, kv, ks, kd⟩ := hk
  refine jb_aload_n (pc' := 1) dX11_go_0 rfl rfl ?_
  refine jb_iload_n (pc' := 2) dX11_go_1 rfl rfl ?_
  refine jb_callV (pc' := 5) (ci := 11) (q := 0) (As := [.int p]) (a2 := 0) (b2 := 0) wv_X11_92 rfl dX11_go_2 (c_isNoVoice imm Im rowm stkm tpm Tm I W T hr0 hk0 p) rfl rfl ⟨by decide, Nat.le_of_eq (Nat.zero_add _), Nat.le_of_eq (Nat.zero_add _)⟩ (Nat.le_of_ble_eq_true rfl) rfl (fun r h9 hq => ?_)
  rcases hq with ⟨rfl, ⟨o1, rfl⟩ | ⟨o1, rfl⟩⟩
  · show jb_J _ RX11 cX11_go 4 (Option.some .int) false 2 0 0 5 [some (.ref 0), some (.int p), some (.int c), none] [.int 0] [jb_main imm Im Tm rowm stkm tpm, jb_sch13 I W T, s2, s3, s4, s5, s6, s7, s8, jb_act Ia boa era, s10, s11] _
    refine jb_if_ne (tgt := 17) (pc' := 8) dX11_go_5 (by decide) rfl (fun z => absurd (by decide) z) (fun _ => ?_)
    refine jb_iload_n (pc' := 9) dX11_go_8 rfl rfl ?_
    refine jb_iconst (pc' := 10) 0 dX11_go_9 (by decide) rfl ?_
    refine jb_iconst (pc' := 11) 1 dX11_go_10 (by decide) rfl ?_
    refine jb_callS (pc' := 14) (As := [.int c, .int 0, .int 1]) (a2 := 0) (b2 := 0) wv_X11_74 dX11_go_11 (c_isOutL c 0 1 (by omega) (by omega)) rfl ⟨by decide, Nat.le_of_eq (Nat.zero_add _), Nat.le_of_eq (Nat.zero_add _)⟩ (Nat.le_of_ble_eq_true rfl) rfl (fun r h9 hq => ?_)
    rcases hq with ⟨rfl, ⟨o4, rfl⟩ | ⟨o4, rfl⟩⟩
    · show jb_J _ RX11 cX11_go 4 (Option.some .int) false 2 0 0 14 [some (.ref 0), some (.int p), some (.int c), none] [.int 1] [jb_main imm Im Tm rowm stkm tpm, jb_sch13 I W T, s2, s3, s4, s5, s6, s7, s8, jb_act Ia boa era, s10, s11] _
      refine jb_if_eq (tgt := 23) (pc' := 17) dX11_go_14 (by decide) rfl (fun z => absurd z (by decide)) (fun _ => ?_)
      refine jb_aload_n (pc' := 18) dX11_go_17 rfl rfl ?_
      refine jb_iconst (pc' := 19) 1 dX11_go_18 (by decide) rfl ?_
      refine jb_callV (pc' := 22) (ci := 11) (q := 0) (As := [.int 1]) (a2 := 0) (b2 := 0) wv_X11_78 rfl dX11_go_19 (c_error imm Im rowm stkm tpm Tm Ia boa era 1 (by decide)) rfl rfl ⟨by decide, Nat.le_of_eq (Nat.zero_add _), Nat.le_of_eq (Nat.zero_add _)⟩ (Nat.le_of_ble_eq_true rfl) rfl (fun r h9 hq => ?_)
      obtain ⟨rfl, rfl⟩ := hq
      show jb_J _ RX11 cX11_go 4 (Option.some .int) false 2 0 0 22 [some (.ref 0), some (.int p), some (.int c), none] [.int (jm_er 1)] [jb_main imm Im Tm rowm stkm tpm, jb_sch13 I W T, s2, s3, s4, s5, s6, s7, s8, jb_act Ia boa (jm_ef era 1), s10, s11] _
      refine jb_iret dX11_go_22 rfl ?_
      exact ⟨rfl, rfl⟩
    · show jb_J _ RX11 cX11_go 4 (Option.some .int) false 2 0 0 14 [some (.ref 0), some (.int p), some (.int c), none] [.int 0] [jb_main imm Im Tm rowm stkm tpm, jb_sch13 I W T, s2, s3, s4, s5, s6, s7, s8, jb_act Ia boa era, s10, s11] _
      exact absurd ⟨by assumption, by assumption⟩ hb
  · show jb_J _ RX11 cX11_go 4 (Option.some .int) false 2 0 0 5 [some (.ref 0), some (.int p), some (.int c), none] [.int 1] [jb_main imm Im Tm rowm stkm tpm, jb_sch13 I W T, s2, s3, s4, s5, s6, s7, s8, jb_act Ia boa era, s10, s11] _
    refine jb_if_ne (tgt := 17) (pc' := 8) dX11_go_5 (by decide) rfl (fun _ => ?_) (fun z => absurd z (by decide))
    refine jb_aload_n (pc' := 18) dX11_go_17 rfl rfl ?_
    refine jb_iconst (pc' := 19) 1 dX11_go_18 (by decide) rfl ?_
    refine jb_callV (pc' := 22) (ci := 11) (q := 0) (As := [.int 1]) (a2 := 0) (b2 := 0) wv_X11_78 rfl dX11_go_19 (c_error imm Im rowm stkm tpm Tm Ia boa era 1 (by decide)) rfl rfl ⟨by decide, Nat.le_of_eq (Nat.zero_add _), Nat.le_of_eq (Nat.zero_add _)⟩ (Nat.le_of_ble_eq_true rfl) rfl (fun r h9 hq => ?_)
    obtain ⟨rfl, rfl⟩ := hq
    show jb_J _ RX11 cX11_go 4 (Option.some .int) false 2 0 0 22 [some (.ref 0), some (.int p), some (.int c), none] [.int (jm_er 1)] [jb_main imm Im Tm rowm stkm tpm, jb_sch13 I W T, s2, s3, s4, s5, s6, s7, s8, jb_act Ia boa (jm_ef era 1), s10, s11] _
    refine jb_iret dX11_go_22 rfl ?_
    exact ⟨rfl, rfl⟩
set_option maxRecDepth 100000 in
set_option maxHeartbeats 4000000 in
theorem kx_become {sc : Nat × (Nat → Int32)} {s2 s3 s4 s5 s6 s7 s8 s9 s10 s11 : List va_E} {V : Nat → Nat → Nat} (imm : Int32) (Im rowm stkm tpm : Nat → Int32) (Tm : Nat → Value) (I : Nat → Int32) (W : Nat → Nat → Int32) (T : Nat → Value) (hr : jr_ V I W) (hk : jv_ok V) (p : Nat) (hp : p < V 0 1) (km : Nat) (hkm : km < 70) : jb_C sc yX11_become cX11_become 4 (Option.some .int) 2 0 0 [.ref 0, .int (nI p), .int (nI km)] [jb_main imm Im Tm rowm stkm tpm, jb_sch13 I W T, s2, s3, s4, s5, s6, s7, s8, s9, s10, s11] (fun r h9 => r = some (.int (nI (V 1 p))) ∧ ∃ I9 W9, jr_ (jm_be V p (km / 10) (km % 10)) I9 W9 ∧ I9 1 = I 1 ∧ jr_f I W I9 W9 ∧ h9 = [jb_main imm Im Tm rowm stkm tpm, jb_sch13 I9 W9 T, s2, s3, s4, s5, s6, s7, s8, s9, s10, s11]) := by
  refine jb_CofJ (ini := false) (by decide +kernel) (fun h => by cases h) (Nat.le_of_ble_eq_true rfl) ?_
  show jb_J sc RX11 cX11_become 4 (Option.some .int) false 2 0 0 0 [some (.ref 0), some (.int (nI p)), some (.int (nI km)), none] [] [jb_main imm Im Tm rowm stkm tpm, jb_sch13 I W T, s2, s3, s4, s5, s6, s7, s8, s9, s10, s11] _
  have hr0 := hr
  have hk0 := hk
  obtain ⟨r0, r2, r3, r4, a0, a1, a2, rv, rs, rd⟩ := hr
  obtain ⟨k0, k1, k2, k3, k4, k5, k6, k7, kv, ks, kd⟩ := hk
  refine jb_aload_n (pc' := 1) dX11_become_0 rfl rfl ?_
  refine jb_iload_n (pc' := 2) dX11_become_1 rfl rfl ?_
  refine jb_callV (pc' := 5) (ci := 11) (q := 0) (As := [.int (nI p)]) (a2 := 0) (b2 := 0) wv_X11_92 rfl dX11_become_2 (c_isNoVoiceG imm Im rowm stkm tpm Tm I W T hr0 hk0 p (by omega)) rfl rfl ⟨by decide, Nat.le_of_eq (Nat.zero_add _), Nat.le_of_eq (Nat.zero_add _)⟩ (Nat.le_of_ble_eq_true rfl) rfl (fun r h9 hq => ?_)
  obtain ⟨rfl, rfl⟩ := hq
  show jb_J _ RX11 cX11_become 4 (Option.some .int) false 2 0 0 5 [some (.ref 0), some (.int (nI p)), some (.int (nI km)), none] [.int 0] [jb_main imm Im Tm rowm stkm tpm, jb_sch13 I W T, s2, s3, s4, s5, s6, s7, s8, s9, s10, s11] _
  refine jb_if_ne (tgt := 18) (pc' := 8) dX11_become_5 (by decide) rfl (fun z => absurd (by decide) z) (fun _ => ?_)
  refine jb_iload_n (pc' := 9) dX11_become_8 rfl rfl ?_
  refine jb_iconst (pc' := 10) 0 dX11_become_9 (by decide) rfl ?_
  refine jb_bipush (pc' := 12) 69 dX11_become_10 (by decide) rfl ?_
  refine jb_callS (pc' := 15) (As := [.int (nI km), .int 0, .int 69]) (a2 := 0) (b2 := 0) wv_X11_74 dX11_become_12 (c_isOutLG km 0 69 (by omega) (by omega) (by omega)) rfl ⟨by decide, Nat.le_of_eq (Nat.zero_add _), Nat.le_of_eq (Nat.zero_add _)⟩ (Nat.le_of_ble_eq_true rfl) rfl (fun r h9 hq => ?_)
  obtain ⟨rfl, rfl⟩ := hq
  show jb_J _ RX11 cX11_become 4 (Option.some .int) false 2 0 0 15 [some (.ref 0), some (.int (nI p)), some (.int (nI km)), none] [.int 0] [jb_main imm Im Tm rowm stkm tpm, jb_sch13 I W T, s2, s3, s4, s5, s6, s7, s8, s9, s10, s11] _
  refine jb_if_eq (tgt := 24) (pc' := 18) dX11_become_15 (by decide) rfl (fun _ => ?_) (fun z => absurd (by decide) z)
  refine jb_aload_n (pc' := 25) dX11_become_24 rfl rfl ?_
  refine gf_X11_42 (pc' := 28) (v := .ref 13) dX11_become_25 rfl rfl rfl ?_
  refine gf_X11_99 (pc' := 31) (v := .ref 15) dX11_become_28 rfl rfl rfl ?_
  refine jb_iconst (pc' := 32) 0 dX11_become_31 (by decide) rfl ?_
  refine jb_aaload (pc' := 33) (i9 := 0) (r := 16) (Or.inl rfl) dX11_become_32 rfl jb_x0 (by decide) rfl rfl ?_
  refine jb_iload_n (pc' := 34) dX11_become_33 rfl rfl ?_
  refine jb_iaload (pc' := 35) (i9 := p) (f := (W 1)) dX11_become_34 rfl (jb_ix_nI (by omega)) (by omega) rfl ?_
  refine jb_top (v := .int ((W 1) p)) (w := .int (nI (V 1 p))) (jb_vI (rv p (by omega)).1) ?_
  refine jb_istore_n_ (pc' := 36) dX11_become_35 (by decide) (jb_at3 rfl) rfl ?_
  refine jb_aload_n (pc' := 37) dX11_become_36 rfl rfl ?_
  refine gf_X11_42 (pc' := 40) (v := .ref 13) dX11_become_37 rfl rfl rfl ?_
  refine gf_X11_99 (pc' := 43) (v := .ref 15) dX11_become_40 rfl rfl rfl ?_
  refine jb_iconst (pc' := 44) 0 dX11_become_43 (by decide) rfl ?_
  refine jb_aaload (pc' := 45) (i9 := 0) (r := 16) (Or.inl rfl) dX11_become_44 rfl jb_x0 (by decide) rfl rfl ?_
  refine jb_iload_n (pc' := 46) dX11_become_45 rfl rfl ?_
  refine jb_iload_n (pc' := 47) dX11_become_46 rfl rfl ?_
  refine jb_bipush (pc' := 49) 10 dX11_become_47 (by decide) rfl ?_
  refine jb_idiv (pc' := 50) dX11_become_49 (by decide) rfl ?_
  refine jb_top (v := .int ((nI km) / 10)) (w := .int (nI (km / 10))) (jb_vI (pk_div (a := km) (d := 10) (by omega) (by omega) (by omega))) ?_
  refine jb_iastore (pc' := 51) (i9 := p) (f := (W 1)) (h' := [jb_main imm Im Tm rowm stkm tpm, jb_sch13 I (va_up W 1 (upd (W 1) p (nI (km / 10)))) T, s2, s3, s4, s5, s6, s7, s8, s9, s10, s11]) dX11_become_50 rfl (jb_ix_nI (by omega)) (by omega) rfl rfl ?_
  refine jb_aload_n (pc' := 52) dX11_become_51 rfl rfl ?_
  refine gf_X11_42 (pc' := 55) (v := .ref 13) dX11_become_52 rfl rfl rfl ?_
  refine gf_X11_99 (pc' := 58) (v := .ref 15) dX11_become_55 rfl rfl rfl ?_
  refine jb_iconst (pc' := 59) 1 dX11_become_58 (by decide) rfl ?_
  refine jb_aaload (pc' := 60) (i9 := 1) (r := 17) (Or.inl rfl) dX11_become_59 rfl jb_x1 (by decide) rfl rfl ?_
  refine jb_iload_n (pc' := 61) dX11_become_60 rfl rfl ?_
  refine jb_iload_n (pc' := 62) dX11_become_61 rfl rfl ?_
  refine jb_bipush (pc' := 64) 10 dX11_become_62 (by decide) rfl ?_
  refine jb_irem (pc' := 65) dX11_become_64 (by decide) rfl ?_
  refine jb_top (v := .int ((nI km) - (nI km) / 10 * 10)) (w := .int (nI (km % 10))) (jb_vI (pk_rem (a := km) (d := 10) (by omega) (by omega) (by omega))) ?_
  refine jb_iastore (pc' := 66) (i9 := p) (f := (W 2)) (h' := [jb_main imm Im Tm rowm stkm tpm, jb_sch13 I (va_up (va_up W 1 (upd (W 1) p (nI (km / 10)))) 2 (upd (W 2) p (nI (km % 10)))) T, s2, s3, s4, s5, s6, s7, s8, s9, s10, s11]) dX11_become_65 rfl (jb_ix_nI (by omega)) (by omega) rfl rfl ?_
  refine jb_iload_n (pc' := 67) dX11_become_66 rfl rfl ?_
  refine jb_iret dX11_become_67 rfl ?_
  exact ⟨rfl, I, (va_up (va_up W 1 (upd (W 1) p (nI (km / 10)))) 2 (upd (W 2) p (nI (km % 10)))), jr_be hr0 p (km / 10) (km % 10), rfl, ⟨rfl, rfl, rfl, rfl⟩, rfl⟩
set_option maxRecDepth 100000 in
set_option maxHeartbeats 4000000 in
theorem ke_become {sc : Nat × (Nat → Int32)} {s2 s3 s4 s5 s6 s7 s8 s10 s11 : List va_E} {V : Nat → Nat → Nat} (imm : Int32) (Im rowm stkm tpm : Nat → Int32) (Tm : Nat → Value) (I : Nat → Int32) (W : Nat → Nat → Int32) (T : Nat → Value) (Ia boa era : Nat → Int32) (hr : jr_ V I W) (hk : jv_ok V) (p c : Int32) (hb : ¬ (jn_b p 0 (V 0 1) ∧ jn_b c 0 70)) : jb_C sc yX11_become cX11_become 4 (Option.some .int) 2 0 0 [.ref 0, .int p, .int c] [jb_main imm Im Tm rowm stkm tpm, jb_sch13 I W T, s2, s3, s4, s5, s6, s7, s8, jb_act Ia boa era, s10, s11] (fun r h9 => r = some (.int (jm_er 1)) ∧ h9 = [jb_main imm Im Tm rowm stkm tpm, jb_sch13 I W T, s2, s3, s4, s5, s6, s7, s8, jb_act Ia boa (jm_ef era 1), s10, s11]) := by
  refine jb_CofJ (ini := false) (by decide +kernel) (fun h => by cases h) (Nat.le_of_ble_eq_true rfl) ?_
  show jb_J sc RX11 cX11_become 4 (Option.some .int) false 2 0 0 0 [some (.ref 0), some (.int p), some (.int c), none] [] [jb_main imm Im Tm rowm stkm tpm, jb_sch13 I W T, s2, s3, s4, s5, s6, s7, s8, jb_act Ia boa era, s10, s11] _
  have hr0 := hr
  have hk0 := hk
  obtain ⟨r0, r2, r3, r4, a0, a1, a2, rv, rs, rd⟩ := hr
  obtain ⟨k0, k1, k2, k3, k4, k5, k6, k7, kv, ks, kd⟩ := hk
  refine jb_aload_n (pc' := 1) dX11_become_0 rfl rfl ?_
  refine jb_iload_n (pc' := 2) dX11_become_1 rfl rfl ?_
  refine jb_callV (pc' := 5) (ci := 11) (q := 0) (As := [.int p]) (a2 := 0) (b2 := 0) wv_X11_92 rfl dX11_become_2 (c_isNoVoice imm Im rowm stkm tpm Tm I W T hr0 hk0 p) rfl rfl ⟨by decide, Nat.le_of_eq (Nat.zero_add _), Nat.le_of_eq (Nat.zero_add _)⟩ (Nat.le_of_ble_eq_true rfl) rfl (fun r h9 hq => ?_)
  rcases hq with ⟨rfl, ⟨o1, rfl⟩ | ⟨o1, rfl⟩⟩
  · show jb_J _ RX11 cX11_become 4 (Option.some .int) false 2 0 0 5 [some (.ref 0), some (.int p), some (.int c), none] [.int 0] [jb_main imm Im Tm rowm stkm tpm, jb_sch13 I W T, s2, s3, s4, s5, s6, s7, s8, jb_act Ia boa era, s10, s11] _
    refine jb_if_ne (tgt := 18) (pc' := 8) dX11_become_5 (by decide) rfl (fun z => absurd (by decide) z) (fun _ => ?_)
    refine jb_iload_n (pc' := 9) dX11_become_8 rfl rfl ?_
    refine jb_iconst (pc' := 10) 0 dX11_become_9 (by decide) rfl ?_
    refine jb_bipush (pc' := 12) 69 dX11_become_10 (by decide) rfl ?_
    refine jb_callS (pc' := 15) (As := [.int c, .int 0, .int 69]) (a2 := 0) (b2 := 0) wv_X11_74 dX11_become_12 (c_isOutL c 0 69 (by omega) (by omega)) rfl ⟨by decide, Nat.le_of_eq (Nat.zero_add _), Nat.le_of_eq (Nat.zero_add _)⟩ (Nat.le_of_ble_eq_true rfl) rfl (fun r h9 hq => ?_)
    rcases hq with ⟨rfl, ⟨o4, rfl⟩ | ⟨o4, rfl⟩⟩
    · show jb_J _ RX11 cX11_become 4 (Option.some .int) false 2 0 0 15 [some (.ref 0), some (.int p), some (.int c), none] [.int 1] [jb_main imm Im Tm rowm stkm tpm, jb_sch13 I W T, s2, s3, s4, s5, s6, s7, s8, jb_act Ia boa era, s10, s11] _
      refine jb_if_eq (tgt := 24) (pc' := 18) dX11_become_15 (by decide) rfl (fun z => absurd z (by decide)) (fun _ => ?_)
      refine jb_aload_n (pc' := 19) dX11_become_18 rfl rfl ?_
      refine jb_iconst (pc' := 20) 1 dX11_become_19 (by decide) rfl ?_
      refine jb_callV (pc' := 23) (ci := 11) (q := 0) (As := [.int 1]) (a2 := 0) (b2 := 0) wv_X11_78 rfl dX11_become_20 (c_error imm Im rowm stkm tpm Tm Ia boa era 1 (by decide)) rfl rfl ⟨by decide, Nat.le_of_eq (Nat.zero_add _), Nat.le_of_eq (Nat.zero_add _)⟩ (Nat.le_of_ble_eq_true rfl) rfl (fun r h9 hq => ?_)
      obtain ⟨rfl, rfl⟩ := hq
      show jb_J _ RX11 cX11_become 4 (Option.some .int) false 2 0 0 23 [some (.ref 0), some (.int p), some (.int c), none] [.int (jm_er 1)] [jb_main imm Im Tm rowm stkm tpm, jb_sch13 I W T, s2, s3, s4, s5, s6, s7, s8, jb_act Ia boa (jm_ef era 1), s10, s11] _
      refine jb_iret dX11_become_23 rfl ?_
      exact ⟨rfl, rfl⟩
    · show jb_J _ RX11 cX11_become 4 (Option.some .int) false 2 0 0 15 [some (.ref 0), some (.int p), some (.int c), none] [.int 0] [jb_main imm Im Tm rowm stkm tpm, jb_sch13 I W T, s2, s3, s4, s5, s6, s7, s8, jb_act Ia boa era, s10, s11] _
      exact absurd ⟨by assumption, by assumption⟩ hb
  · show jb_J _ RX11 cX11_become 4 (Option.some .int) false 2 0 0 5 [some (.ref 0), some (.int p), some (.int c), none] [.int 1] [jb_main imm Im Tm rowm stkm tpm, jb_sch13 I W T, s2, s3, s4, s5, s6, s7, s8, jb_act Ia boa era, s10, s11] _
    refine jb_if_ne (tgt := 18) (pc' := 8) dX11_become_5 (by decide) rfl (fun _ => ?_) (fun z => absurd z (by decide))
    refine jb_aload_n (pc' := 19) dX11_become_18 rfl rfl ?_
    refine jb_iconst (pc' := 20) 1 dX11_become_19 (by decide) rfl ?_
    refine jb_callV (pc' := 23) (ci := 11) (q := 0) (As := [.int 1]) (a2 := 0) (b2 := 0) wv_X11_78 rfl dX11_become_20 (c_error imm Im rowm stkm tpm Tm Ia boa era 1 (by decide)) rfl rfl ⟨by decide, Nat.le_of_eq (Nat.zero_add _), Nat.le_of_eq (Nat.zero_add _)⟩ (Nat.le_of_ble_eq_true rfl) rfl (fun r h9 hq => ?_)
    obtain ⟨rfl, rfl⟩ := hq
    show jb_J _ RX11 cX11_become 4 (Option.some .int) false 2 0 0 23 [some (.ref 0), some (.int p), some (.int c), none] [.int (jm_er 1)] [jb_main imm Im Tm rowm stkm tpm, jb_sch13 I W T, s2, s3, s4, s5, s6, s7, s8, jb_act Ia boa (jm_ef era 1), s10, s11] _
    refine jb_iret dX11_become_23 rfl ?_
    exact ⟨rfl, rfl⟩
theorem c_isOutM1 {sc : Nat × (Nat → Int32)} {h : jb_H} : jb_C sc yX11_isOutside cX11_isOutside 3 (Option.some .boolean) 0 0 0 [.int (-1), .int 0, .int 6] h (fun r h9 => r = some (.int 1) ∧ h = h9) := by
  refine jb_CofJ (ini := false) (by decide +kernel) (fun h => by cases h) (Nat.le_of_ble_eq_true rfl) ?_
  show jb_J _ RX11 cX11_isOutside 3 (Option.some .boolean) false 0 0 0 0 [some (.int (-1)), some (.int 0), some (.int 6)] [] h _
  refine jb_iload_n (pc' := 1) dX11_isOutside_0 rfl rfl ?_
  refine jb_iload_n (pc' := 2) dX11_isOutside_1 rfl rfl ?_
  refine jb_icmp_lt (tgt := 10) (pc' := 5) dX11_isOutside_2 (by decide) rfl (fun _ => ?_) (fun z => absurd (by decide) z)
  refine jb_iconst (pc' := 11) 1 dX11_isOutside_10 (by decide) rfl ?_
  refine jb_goto (pc' := 15) dX11_isOutside_11 (by decide) ?_
  refine jb_iret dX11_isOutside_15 rfl ?_
  exact ⟨rfl, rfl⟩
set_option maxRecDepth 100000 in
set_option maxHeartbeats 4000000 in
theorem c_isUnder {sc : Nat × (Nat → Int32)} (h : jb_H) (k j : Nat) (hk : k < 7) (hj : j < 7) : jb_C sc yX11_isUnder cX11_isUnder 4 (Option.some .boolean) 1 0 0 [.int (nI k), .int (nI j)] h (fun r h9 => h = h9 ∧ ((jm_un k j ∧ r = some (.int 1)) ∨ (¬ jm_un k j ∧ r = some (.int 0)))) := by
  refine jb_CofJ (ini := false) (by decide +kernel) (fun h => by cases h) (Nat.le_of_ble_eq_true rfl) ?_
  match k, hk with
  | 0, _ =>
    show jb_J _ RX11 cX11_isUnder 4 (Option.some .boolean) false 1 0 0 0 [some (.int 0), some (.int (nI j)), none, none] [] h _
    refine jb_iload_n (pc' := 1) dX11_isUnder_0 rfl rfl ?_
    refine jb_istore_n_ (pc' := 2) dX11_isUnder_1 (by decide) (jb_at2 rfl) rfl ?_
    refine jb_iconst (pc' := 3) 0 dX11_isUnder_2 (by decide) rfl ?_
    refine jb_istore_n_ (pc' := 4) dX11_isUnder_3 (by decide) (jb_at3 rfl) rfl ?_
    refine jb_iload_n (pc' := 5) dX11_isUnder_4 rfl rfl ?_
    refine jb_bipush (pc' := 7) 7 dX11_isUnder_5 (by decide) rfl ?_
    refine jb_icmp_ge (tgt := 39) (pc' := 10) dX11_isUnder_7 (by decide) rfl (fun z => absurd z (by decide)) (fun _ => ?_)
    refine jb_iload_n (pc' := 11) dX11_isUnder_10 rfl rfl ?_
    refine jb_iconst (pc' := 12) 0 dX11_isUnder_11 (by decide) rfl ?_
    refine jb_bipush (pc' := 14) 6 dX11_isUnder_12 (by decide) rfl ?_
    refine jb_callS (pc' := 17) (As := [.int 0, .int 0, .int 6]) (a2 := 0) (b2 := 0) wv_X11_74 dX11_isUnder_14 (c_isOutLG 0 0 6 (by omega) (by omega) (by omega)) rfl ⟨by decide, Nat.le_of_eq (Nat.zero_add _), Nat.le_of_eq (Nat.zero_add _)⟩ (Nat.le_of_ble_eq_true rfl) rfl (fun r h9 hq => ?_)
    obtain ⟨rfl, rfl⟩ := hq
    show jb_J _ RX11 cX11_isUnder 4 (Option.some .boolean) false 1 0 0 17 [some (.int 0), some (.int (nI j)), some (.int 0), some (.int 0)] [.int 0] h _
    refine jb_if_ne (tgt := 39) (pc' := 20) dX11_isUnder_17 (by decide) rfl (fun z => absurd (by decide) z) (fun _ => ?_)
    refine jb_iload_n (pc' := 21) dX11_isUnder_20 rfl rfl ?_
    refine jb_iload_n (pc' := 22) dX11_isUnder_21 rfl rfl ?_
    refine jb_icmp_ne (tgt := 27) (pc' := 25) dX11_isUnder_22 (by decide) rfl (fun c3 => ?_) (fun c3 => ?_)
    · have c3 : ¬ 0 = j := fun z9 => c3 ((nI_eq (a := 0) (b := j) (by omega) (by omega)).mpr z9)
      refine jb_kabove (pc' := 30) jb_fl_X11_270 dX11_isUnder_27 rfl ?_
      refine jb_iload_n (pc' := 31) dX11_isUnder_30 rfl rfl ?_
      refine jb_kload (pc' := 32) (i9 := 0) dX11_isUnder_31 jb_x0 (by decide) rfl ?_
      refine jb_top (v := (jb_kab 0)) (w := .int (-1)) rfl ?_
      refine jb_istore_n_ (pc' := 33) dX11_isUnder_32 (by decide) (jb_at2 rfl) rfl ?_
      refine jb_iinc_ (pc' := 36) 1 dX11_isUnder_33 (by decide) rfl (by decide) (jb_at3 rfl) rfl ?_
      refine jb_goto (pc' := 4) dX11_isUnder_36 (by decide) ?_
      refine jb_iload_n (pc' := 5) dX11_isUnder_4 rfl rfl ?_
      refine jb_bipush (pc' := 7) 7 dX11_isUnder_5 (by decide) rfl ?_
      refine jb_icmp_ge (tgt := 39) (pc' := 10) dX11_isUnder_7 (by decide) rfl (fun z => absurd z (by decide)) (fun _ => ?_)
      refine jb_iload_n (pc' := 11) dX11_isUnder_10 rfl rfl ?_
      refine jb_iconst (pc' := 12) 0 dX11_isUnder_11 (by decide) rfl ?_
      refine jb_bipush (pc' := 14) 6 dX11_isUnder_12 (by decide) rfl ?_
      refine jb_callS (pc' := 17) (As := [.int (-1), .int 0, .int 6]) (a2 := 0) (b2 := 0) wv_X11_74 dX11_isUnder_14 (c_isOutM1 (h := h)) rfl ⟨by decide, Nat.le_of_eq (Nat.zero_add _), Nat.le_of_eq (Nat.zero_add _)⟩ (Nat.le_of_ble_eq_true rfl) rfl (fun r h9 hq => ?_)
      obtain ⟨rfl, rfl⟩ := hq
      show jb_J _ RX11 cX11_isUnder 4 (Option.some .boolean) false 1 0 0 17 [some (.int 0), some (.int (nI j)), some (.int (-1)), some (.int 1)] [.int 1] h _
      refine jb_if_ne (tgt := 39) (pc' := 20) dX11_isUnder_17 (by decide) rfl (fun _ => ?_) (fun z => absurd z (by decide))
      refine jb_iconst (pc' := 40) 0 dX11_isUnder_39 (by decide) rfl ?_
      refine jb_iret dX11_isUnder_40 rfl ?_
      exact ⟨rfl, Or.inr ⟨by unfold jm_un; omega, rfl⟩⟩
    · have c3 : 0 = j := (nI_eq (a := 0) (b := j) (by omega) (by omega)).mp c3
      refine jb_iconst (pc' := 26) 1 dX11_isUnder_25 (by decide) rfl ?_
      refine jb_iret dX11_isUnder_26 rfl ?_
      exact ⟨rfl, Or.inl ⟨by unfold jm_un; omega, rfl⟩⟩
  | 1, _ =>
    show jb_J _ RX11 cX11_isUnder 4 (Option.some .boolean) false 1 0 0 0 [some (.int 1), some (.int (nI j)), none, none] [] h _
    refine jb_iload_n (pc' := 1) dX11_isUnder_0 rfl rfl ?_
    refine jb_istore_n_ (pc' := 2) dX11_isUnder_1 (by decide) (jb_at2 rfl) rfl ?_
    refine jb_iconst (pc' := 3) 0 dX11_isUnder_2 (by decide) rfl ?_
    refine jb_istore_n_ (pc' := 4) dX11_isUnder_3 (by decide) (jb_at3 rfl) rfl ?_
    refine jb_iload_n (pc' := 5) dX11_isUnder_4 rfl rfl ?_
    refine jb_bipush (pc' := 7) 7 dX11_isUnder_5 (by decide) rfl ?_
    refine jb_icmp_ge (tgt := 39) (pc' := 10) dX11_isUnder_7 (by decide) rfl (fun z => absurd z (by decide)) (fun _ => ?_)
    refine jb_iload_n (pc' := 11) dX11_isUnder_10 rfl rfl ?_
    refine jb_iconst (pc' := 12) 0 dX11_isUnder_11 (by decide) rfl ?_
    refine jb_bipush (pc' := 14) 6 dX11_isUnder_12 (by decide) rfl ?_
    refine jb_callS (pc' := 17) (As := [.int 1, .int 0, .int 6]) (a2 := 0) (b2 := 0) wv_X11_74 dX11_isUnder_14 (c_isOutLG 1 0 6 (by omega) (by omega) (by omega)) rfl ⟨by decide, Nat.le_of_eq (Nat.zero_add _), Nat.le_of_eq (Nat.zero_add _)⟩ (Nat.le_of_ble_eq_true rfl) rfl (fun r h9 hq => ?_)
    obtain ⟨rfl, rfl⟩ := hq
    show jb_J _ RX11 cX11_isUnder 4 (Option.some .boolean) false 1 0 0 17 [some (.int 1), some (.int (nI j)), some (.int 1), some (.int 0)] [.int 0] h _
    refine jb_if_ne (tgt := 39) (pc' := 20) dX11_isUnder_17 (by decide) rfl (fun z => absurd (by decide) z) (fun _ => ?_)
    refine jb_iload_n (pc' := 21) dX11_isUnder_20 rfl rfl ?_
    refine jb_iload_n (pc' := 22) dX11_isUnder_21 rfl rfl ?_
    refine jb_icmp_ne (tgt := 27) (pc' := 25) dX11_isUnder_22 (by decide) rfl (fun c3 => ?_) (fun c3 => ?_)
    · have c3 : ¬ 1 = j := fun z9 => c3 ((nI_eq (a := 1) (b := j) (by omega) (by omega)).mpr z9)
      refine jb_kabove (pc' := 30) jb_fl_X11_270 dX11_isUnder_27 rfl ?_
      refine jb_iload_n (pc' := 31) dX11_isUnder_30 rfl rfl ?_
      refine jb_kload (pc' := 32) (i9 := 1) dX11_isUnder_31 jb_x1 (by decide) rfl ?_
      refine jb_top (v := (jb_kab 1)) (w := .int 0) rfl ?_
      refine jb_istore_n_ (pc' := 33) dX11_isUnder_32 (by decide) (jb_at2 rfl) rfl ?_
      refine jb_iinc_ (pc' := 36) 1 dX11_isUnder_33 (by decide) rfl (by decide) (jb_at3 rfl) rfl ?_
      refine jb_goto (pc' := 4) dX11_isUnder_36 (by decide) ?_
      refine jb_iload_n (pc' := 5) dX11_isUnder_4 rfl rfl ?_
      refine jb_bipush (pc' := 7) 7 dX11_isUnder_5 (by decide) rfl ?_
      refine jb_icmp_ge (tgt := 39) (pc' := 10) dX11_isUnder_7 (by decide) rfl (fun z => absurd z (by decide)) (fun _ => ?_)
      refine jb_iload_n (pc' := 11) dX11_isUnder_10 rfl rfl ?_
      refine jb_iconst (pc' := 12) 0 dX11_isUnder_11 (by decide) rfl ?_
      refine jb_bipush (pc' := 14) 6 dX11_isUnder_12 (by decide) rfl ?_
      refine jb_callS (pc' := 17) (As := [.int 0, .int 0, .int 6]) (a2 := 0) (b2 := 0) wv_X11_74 dX11_isUnder_14 (c_isOutLG 0 0 6 (by omega) (by omega) (by omega)) rfl ⟨by decide, Nat.le_of_eq (Nat.zero_add _), Nat.le_of_eq (Nat.zero_add _)⟩ (Nat.le_of_ble_eq_true rfl) rfl (fun r h9 hq => ?_)
      obtain ⟨rfl, rfl⟩ := hq
      show jb_J _ RX11 cX11_isUnder 4 (Option.some .boolean) false 1 0 0 17 [some (.int 1), some (.int (nI j)), some (.int 0), some (.int 1)] [.int 0] h _
      refine jb_if_ne (tgt := 39) (pc' := 20) dX11_isUnder_17 (by decide) rfl (fun z => absurd (by decide) z) (fun _ => ?_)
      refine jb_iload_n (pc' := 21) dX11_isUnder_20 rfl rfl ?_
      refine jb_iload_n (pc' := 22) dX11_isUnder_21 rfl rfl ?_
      refine jb_icmp_ne (tgt := 27) (pc' := 25) dX11_isUnder_22 (by decide) rfl (fun c6 => ?_) (fun c6 => ?_)
      · have c6 : ¬ 0 = j := fun z9 => c6 ((nI_eq (a := 0) (b := j) (by omega) (by omega)).mpr z9)
        refine jb_kabove (pc' := 30) jb_fl_X11_270 dX11_isUnder_27 rfl ?_
        refine jb_iload_n (pc' := 31) dX11_isUnder_30 rfl rfl ?_
        refine jb_kload (pc' := 32) (i9 := 0) dX11_isUnder_31 jb_x0 (by decide) rfl ?_
        refine jb_top (v := (jb_kab 0)) (w := .int (-1)) rfl ?_
        refine jb_istore_n_ (pc' := 33) dX11_isUnder_32 (by decide) (jb_at2 rfl) rfl ?_
        refine jb_iinc_ (pc' := 36) 2 dX11_isUnder_33 (by decide) rfl (by decide) (jb_at3 rfl) rfl ?_
        refine jb_goto (pc' := 4) dX11_isUnder_36 (by decide) ?_
        refine jb_iload_n (pc' := 5) dX11_isUnder_4 rfl rfl ?_
        refine jb_bipush (pc' := 7) 7 dX11_isUnder_5 (by decide) rfl ?_
        refine jb_icmp_ge (tgt := 39) (pc' := 10) dX11_isUnder_7 (by decide) rfl (fun z => absurd z (by decide)) (fun _ => ?_)
        refine jb_iload_n (pc' := 11) dX11_isUnder_10 rfl rfl ?_
        refine jb_iconst (pc' := 12) 0 dX11_isUnder_11 (by decide) rfl ?_
        refine jb_bipush (pc' := 14) 6 dX11_isUnder_12 (by decide) rfl ?_
        refine jb_callS (pc' := 17) (As := [.int (-1), .int 0, .int 6]) (a2 := 0) (b2 := 0) wv_X11_74 dX11_isUnder_14 (c_isOutM1 (h := h)) rfl ⟨by decide, Nat.le_of_eq (Nat.zero_add _), Nat.le_of_eq (Nat.zero_add _)⟩ (Nat.le_of_ble_eq_true rfl) rfl (fun r h9 hq => ?_)
        obtain ⟨rfl, rfl⟩ := hq
        show jb_J _ RX11 cX11_isUnder 4 (Option.some .boolean) false 1 0 0 17 [some (.int 1), some (.int (nI j)), some (.int (-1)), some (.int 2)] [.int 1] h _
        refine jb_if_ne (tgt := 39) (pc' := 20) dX11_isUnder_17 (by decide) rfl (fun _ => ?_) (fun z => absurd z (by decide))
        refine jb_iconst (pc' := 40) 0 dX11_isUnder_39 (by decide) rfl ?_
        refine jb_iret dX11_isUnder_40 rfl ?_
        exact ⟨rfl, Or.inr ⟨by unfold jm_un; omega, rfl⟩⟩
      · have c6 : 0 = j := (nI_eq (a := 0) (b := j) (by omega) (by omega)).mp c6
        refine jb_iconst (pc' := 26) 1 dX11_isUnder_25 (by decide) rfl ?_
        refine jb_iret dX11_isUnder_26 rfl ?_
        exact ⟨rfl, Or.inl ⟨by unfold jm_un; omega, rfl⟩⟩
    · have c3 : 1 = j := (nI_eq (a := 1) (b := j) (by omega) (by omega)).mp c3
      refine jb_iconst (pc' := 26) 1 dX11_isUnder_25 (by decide) rfl ?_
      refine jb_iret dX11_isUnder_26 rfl ?_
      exact ⟨rfl, Or.inl ⟨by unfold jm_un; omega, rfl⟩⟩
  | 2, _ =>
    show jb_J _ RX11 cX11_isUnder 4 (Option.some .boolean) false 1 0 0 0 [some (.int 2), some (.int (nI j)), none, none] [] h _
    refine jb_iload_n (pc' := 1) dX11_isUnder_0 rfl rfl ?_
    refine jb_istore_n_ (pc' := 2) dX11_isUnder_1 (by decide) (jb_at2 rfl) rfl ?_
    refine jb_iconst (pc' := 3) 0 dX11_isUnder_2 (by decide) rfl ?_
    refine jb_istore_n_ (pc' := 4) dX11_isUnder_3 (by decide) (jb_at3 rfl) rfl ?_
    refine jb_iload_n (pc' := 5) dX11_isUnder_4 rfl rfl ?_
    refine jb_bipush (pc' := 7) 7 dX11_isUnder_5 (by decide) rfl ?_
    refine jb_icmp_ge (tgt := 39) (pc' := 10) dX11_isUnder_7 (by decide) rfl (fun z => absurd z (by decide)) (fun _ => ?_)
    refine jb_iload_n (pc' := 11) dX11_isUnder_10 rfl rfl ?_
    refine jb_iconst (pc' := 12) 0 dX11_isUnder_11 (by decide) rfl ?_
    refine jb_bipush (pc' := 14) 6 dX11_isUnder_12 (by decide) rfl ?_
    refine jb_callS (pc' := 17) (As := [.int 2, .int 0, .int 6]) (a2 := 0) (b2 := 0) wv_X11_74 dX11_isUnder_14 (c_isOutLG 2 0 6 (by omega) (by omega) (by omega)) rfl ⟨by decide, Nat.le_of_eq (Nat.zero_add _), Nat.le_of_eq (Nat.zero_add _)⟩ (Nat.le_of_ble_eq_true rfl) rfl (fun r h9 hq => ?_)
    obtain ⟨rfl, rfl⟩ := hq
    show jb_J _ RX11 cX11_isUnder 4 (Option.some .boolean) false 1 0 0 17 [some (.int 2), some (.int (nI j)), some (.int 2), some (.int 0)] [.int 0] h _
    refine jb_if_ne (tgt := 39) (pc' := 20) dX11_isUnder_17 (by decide) rfl (fun z => absurd (by decide) z) (fun _ => ?_)
    refine jb_iload_n (pc' := 21) dX11_isUnder_20 rfl rfl ?_
    refine jb_iload_n (pc' := 22) dX11_isUnder_21 rfl rfl ?_
    refine jb_icmp_ne (tgt := 27) (pc' := 25) dX11_isUnder_22 (by decide) rfl (fun c3 => ?_) (fun c3 => ?_)
    · have c3 : ¬ 2 = j := fun z9 => c3 ((nI_eq (a := 2) (b := j) (by omega) (by omega)).mpr z9)
      refine jb_kabove (pc' := 30) jb_fl_X11_270 dX11_isUnder_27 rfl ?_
      refine jb_iload_n (pc' := 31) dX11_isUnder_30 rfl rfl ?_
      refine jb_kload (pc' := 32) (i9 := 2) dX11_isUnder_31 jb_x2 (by decide) rfl ?_
      refine jb_top (v := (jb_kab 2)) (w := .int 0) rfl ?_
      refine jb_istore_n_ (pc' := 33) dX11_isUnder_32 (by decide) (jb_at2 rfl) rfl ?_
      refine jb_iinc_ (pc' := 36) 1 dX11_isUnder_33 (by decide) rfl (by decide) (jb_at3 rfl) rfl ?_
      refine jb_goto (pc' := 4) dX11_isUnder_36 (by decide) ?_
      refine jb_iload_n (pc' := 5) dX11_isUnder_4 rfl rfl ?_
      refine jb_bipush (pc' := 7) 7 dX11_isUnder_5 (by decide) rfl ?_
      refine jb_icmp_ge (tgt := 39) (pc' := 10) dX11_isUnder_7 (by decide) rfl (fun z => absurd z (by decide)) (fun _ => ?_)
      refine jb_iload_n (pc' := 11) dX11_isUnder_10 rfl rfl ?_
      refine jb_iconst (pc' := 12) 0 dX11_isUnder_11 (by decide) rfl ?_
      refine jb_bipush (pc' := 14) 6 dX11_isUnder_12 (by decide) rfl ?_
      refine jb_callS (pc' := 17) (As := [.int 0, .int 0, .int 6]) (a2 := 0) (b2 := 0) wv_X11_74 dX11_isUnder_14 (c_isOutLG 0 0 6 (by omega) (by omega) (by omega)) rfl ⟨by decide, Nat.le_of_eq (Nat.zero_add _), Nat.le_of_eq (Nat.zero_add _)⟩ (Nat.le_of_ble_eq_true rfl) rfl (fun r h9 hq => ?_)
      obtain ⟨rfl, rfl⟩ := hq
      show jb_J _ RX11 cX11_isUnder 4 (Option.some .boolean) false 1 0 0 17 [some (.int 2), some (.int (nI j)), some (.int 0), some (.int 1)] [.int 0] h _
      refine jb_if_ne (tgt := 39) (pc' := 20) dX11_isUnder_17 (by decide) rfl (fun z => absurd (by decide) z) (fun _ => ?_)
      refine jb_iload_n (pc' := 21) dX11_isUnder_20 rfl rfl ?_
      refine jb_iload_n (pc' := 22) dX11_isUnder_21 rfl rfl ?_
      refine jb_icmp_ne (tgt := 27) (pc' := 25) dX11_isUnder_22 (by decide) rfl (fun c6 => ?_) (fun c6 => ?_)
      · have c6 : ¬ 0 = j := fun z9 => c6 ((nI_eq (a := 0) (b := j) (by omega) (by omega)).mpr z9)
        refine jb_kabove (pc' := 30) jb_fl_X11_270 dX11_isUnder_27 rfl ?_
        refine jb_iload_n (pc' := 31) dX11_isUnder_30 rfl rfl ?_
        refine jb_kload (pc' := 32) (i9 := 0) dX11_isUnder_31 jb_x0 (by decide) rfl ?_
        refine jb_top (v := (jb_kab 0)) (w := .int (-1)) rfl ?_
        refine jb_istore_n_ (pc' := 33) dX11_isUnder_32 (by decide) (jb_at2 rfl) rfl ?_
        refine jb_iinc_ (pc' := 36) 2 dX11_isUnder_33 (by decide) rfl (by decide) (jb_at3 rfl) rfl ?_
        refine jb_goto (pc' := 4) dX11_isUnder_36 (by decide) ?_
        refine jb_iload_n (pc' := 5) dX11_isUnder_4 rfl rfl ?_
        refine jb_bipush (pc' := 7) 7 dX11_isUnder_5 (by decide) rfl ?_
        refine jb_icmp_ge (tgt := 39) (pc' := 10) dX11_isUnder_7 (by decide) rfl (fun z => absurd z (by decide)) (fun _ => ?_)
        refine jb_iload_n (pc' := 11) dX11_isUnder_10 rfl rfl ?_
        refine jb_iconst (pc' := 12) 0 dX11_isUnder_11 (by decide) rfl ?_
        refine jb_bipush (pc' := 14) 6 dX11_isUnder_12 (by decide) rfl ?_
        refine jb_callS (pc' := 17) (As := [.int (-1), .int 0, .int 6]) (a2 := 0) (b2 := 0) wv_X11_74 dX11_isUnder_14 (c_isOutM1 (h := h)) rfl ⟨by decide, Nat.le_of_eq (Nat.zero_add _), Nat.le_of_eq (Nat.zero_add _)⟩ (Nat.le_of_ble_eq_true rfl) rfl (fun r h9 hq => ?_)
        obtain ⟨rfl, rfl⟩ := hq
        show jb_J _ RX11 cX11_isUnder 4 (Option.some .boolean) false 1 0 0 17 [some (.int 2), some (.int (nI j)), some (.int (-1)), some (.int 2)] [.int 1] h _
        refine jb_if_ne (tgt := 39) (pc' := 20) dX11_isUnder_17 (by decide) rfl (fun _ => ?_) (fun z => absurd z (by decide))
        refine jb_iconst (pc' := 40) 0 dX11_isUnder_39 (by decide) rfl ?_
        refine jb_iret dX11_isUnder_40 rfl ?_
        exact ⟨rfl, Or.inr ⟨by unfold jm_un; omega, rfl⟩⟩
      · have c6 : 0 = j := (nI_eq (a := 0) (b := j) (by omega) (by omega)).mp c6
        refine jb_iconst (pc' := 26) 1 dX11_isUnder_25 (by decide) rfl ?_
        refine jb_iret dX11_isUnder_26 rfl ?_
        exact ⟨rfl, Or.inl ⟨by unfold jm_un; omega, rfl⟩⟩
    · have c3 : 2 = j := (nI_eq (a := 2) (b := j) (by omega) (by omega)).mp c3
      refine jb_iconst (pc' := 26) 1 dX11_isUnder_25 (by decide) rfl ?_
      refine jb_iret dX11_isUnder_26 rfl ?_
      exact ⟨rfl, Or.inl ⟨by unfold jm_un; omega, rfl⟩⟩
  | 3, _ =>
    show jb_J _ RX11 cX11_isUnder 4 (Option.some .boolean) false 1 0 0 0 [some (.int 3), some (.int (nI j)), none, none] [] h _
    refine jb_iload_n (pc' := 1) dX11_isUnder_0 rfl rfl ?_
    refine jb_istore_n_ (pc' := 2) dX11_isUnder_1 (by decide) (jb_at2 rfl) rfl ?_
    refine jb_iconst (pc' := 3) 0 dX11_isUnder_2 (by decide) rfl ?_
    refine jb_istore_n_ (pc' := 4) dX11_isUnder_3 (by decide) (jb_at3 rfl) rfl ?_
    refine jb_iload_n (pc' := 5) dX11_isUnder_4 rfl rfl ?_
    refine jb_bipush (pc' := 7) 7 dX11_isUnder_5 (by decide) rfl ?_
    refine jb_icmp_ge (tgt := 39) (pc' := 10) dX11_isUnder_7 (by decide) rfl (fun z => absurd z (by decide)) (fun _ => ?_)
    refine jb_iload_n (pc' := 11) dX11_isUnder_10 rfl rfl ?_
    refine jb_iconst (pc' := 12) 0 dX11_isUnder_11 (by decide) rfl ?_
    refine jb_bipush (pc' := 14) 6 dX11_isUnder_12 (by decide) rfl ?_
    refine jb_callS (pc' := 17) (As := [.int 3, .int 0, .int 6]) (a2 := 0) (b2 := 0) wv_X11_74 dX11_isUnder_14 (c_isOutLG 3 0 6 (by omega) (by omega) (by omega)) rfl ⟨by decide, Nat.le_of_eq (Nat.zero_add _), Nat.le_of_eq (Nat.zero_add _)⟩ (Nat.le_of_ble_eq_true rfl) rfl (fun r h9 hq => ?_)
    obtain ⟨rfl, rfl⟩ := hq
    show jb_J _ RX11 cX11_isUnder 4 (Option.some .boolean) false 1 0 0 17 [some (.int 3), some (.int (nI j)), some (.int 3), some (.int 0)] [.int 0] h _
    refine jb_if_ne (tgt := 39) (pc' := 20) dX11_isUnder_17 (by decide) rfl (fun z => absurd (by decide) z) (fun _ => ?_)
    refine jb_iload_n (pc' := 21) dX11_isUnder_20 rfl rfl ?_
    refine jb_iload_n (pc' := 22) dX11_isUnder_21 rfl rfl ?_
    refine jb_icmp_ne (tgt := 27) (pc' := 25) dX11_isUnder_22 (by decide) rfl (fun c3 => ?_) (fun c3 => ?_)
    · have c3 : ¬ 3 = j := fun z9 => c3 ((nI_eq (a := 3) (b := j) (by omega) (by omega)).mpr z9)
      refine jb_kabove (pc' := 30) jb_fl_X11_270 dX11_isUnder_27 rfl ?_
      refine jb_iload_n (pc' := 31) dX11_isUnder_30 rfl rfl ?_
      refine jb_kload (pc' := 32) (i9 := 3) dX11_isUnder_31 jb_x3 (by decide) rfl ?_
      refine jb_top (v := (jb_kab 3)) (w := .int 0) rfl ?_
      refine jb_istore_n_ (pc' := 33) dX11_isUnder_32 (by decide) (jb_at2 rfl) rfl ?_
      refine jb_iinc_ (pc' := 36) 1 dX11_isUnder_33 (by decide) rfl (by decide) (jb_at3 rfl) rfl ?_
      refine jb_goto (pc' := 4) dX11_isUnder_36 (by decide) ?_
      refine jb_iload_n (pc' := 5) dX11_isUnder_4 rfl rfl ?_
      refine jb_bipush (pc' := 7) 7 dX11_isUnder_5 (by decide) rfl ?_
      refine jb_icmp_ge (tgt := 39) (pc' := 10) dX11_isUnder_7 (by decide) rfl (fun z => absurd z (by decide)) (fun _ => ?_)
      refine jb_iload_n (pc' := 11) dX11_isUnder_10 rfl rfl ?_
      refine jb_iconst (pc' := 12) 0 dX11_isUnder_11 (by decide) rfl ?_
      refine jb_bipush (pc' := 14) 6 dX11_isUnder_12 (by decide) rfl ?_
      refine jb_callS (pc' := 17) (As := [.int 0, .int 0, .int 6]) (a2 := 0) (b2 := 0) wv_X11_74 dX11_isUnder_14 (c_isOutLG 0 0 6 (by omega) (by omega) (by omega)) rfl ⟨by decide, Nat.le_of_eq (Nat.zero_add _), Nat.le_of_eq (Nat.zero_add _)⟩ (Nat.le_of_ble_eq_true rfl) rfl (fun r h9 hq => ?_)
      obtain ⟨rfl, rfl⟩ := hq
      show jb_J _ RX11 cX11_isUnder 4 (Option.some .boolean) false 1 0 0 17 [some (.int 3), some (.int (nI j)), some (.int 0), some (.int 1)] [.int 0] h _
      refine jb_if_ne (tgt := 39) (pc' := 20) dX11_isUnder_17 (by decide) rfl (fun z => absurd (by decide) z) (fun _ => ?_)
      refine jb_iload_n (pc' := 21) dX11_isUnder_20 rfl rfl ?_
      refine jb_iload_n (pc' := 22) dX11_isUnder_21 rfl rfl ?_
      refine jb_icmp_ne (tgt := 27) (pc' := 25) dX11_isUnder_22 (by decide) rfl (fun c6 => ?_) (fun c6 => ?_)
      · have c6 : ¬ 0 = j := fun z9 => c6 ((nI_eq (a := 0) (b := j) (by omega) (by omega)).mpr z9)
        refine jb_kabove (pc' := 30) jb_fl_X11_270 dX11_isUnder_27 rfl ?_
        refine jb_iload_n (pc' := 31) dX11_isUnder_30 rfl rfl ?_
        refine jb_kload (pc' := 32) (i9 := 0) dX11_isUnder_31 jb_x0 (by decide) rfl ?_
        refine jb_top (v := (jb_kab 0)) (w := .int (-1)) rfl ?_
        refine jb_istore_n_ (pc' := 33) dX11_isUnder_32 (by decide) (jb_at2 rfl) rfl ?_
        refine jb_iinc_ (pc' := 36) 2 dX11_isUnder_33 (by decide) rfl (by decide) (jb_at3 rfl) rfl ?_
        refine jb_goto (pc' := 4) dX11_isUnder_36 (by decide) ?_
        refine jb_iload_n (pc' := 5) dX11_isUnder_4 rfl rfl ?_
        refine jb_bipush (pc' := 7) 7 dX11_isUnder_5 (by decide) rfl ?_
        refine jb_icmp_ge (tgt := 39) (pc' := 10) dX11_isUnder_7 (by decide) rfl (fun z => absurd z (by decide)) (fun _ => ?_)
        refine jb_iload_n (pc' := 11) dX11_isUnder_10 rfl rfl ?_
        refine jb_iconst (pc' := 12) 0 dX11_isUnder_11 (by decide) rfl ?_
        refine jb_bipush (pc' := 14) 6 dX11_isUnder_12 (by decide) rfl ?_
        refine jb_callS (pc' := 17) (As := [.int (-1), .int 0, .int 6]) (a2 := 0) (b2 := 0) wv_X11_74 dX11_isUnder_14 (c_isOutM1 (h := h)) rfl ⟨by decide, Nat.le_of_eq (Nat.zero_add _), Nat.le_of_eq (Nat.zero_add _)⟩ (Nat.le_of_ble_eq_true rfl) rfl (fun r h9 hq => ?_)
        obtain ⟨rfl, rfl⟩ := hq
        show jb_J _ RX11 cX11_isUnder 4 (Option.some .boolean) false 1 0 0 17 [some (.int 3), some (.int (nI j)), some (.int (-1)), some (.int 2)] [.int 1] h _
        refine jb_if_ne (tgt := 39) (pc' := 20) dX11_isUnder_17 (by decide) rfl (fun _ => ?_) (fun z => absurd z (by decide))
        refine jb_iconst (pc' := 40) 0 dX11_isUnder_39 (by decide) rfl ?_
        refine jb_iret dX11_isUnder_40 rfl ?_
        exact ⟨rfl, Or.inr ⟨by unfold jm_un; omega, rfl⟩⟩
      · have c6 : 0 = j := (nI_eq (a := 0) (b := j) (by omega) (by omega)).mp c6
        refine jb_iconst (pc' := 26) 1 dX11_isUnder_25 (by decide) rfl ?_
        refine jb_iret dX11_isUnder_26 rfl ?_
        exact ⟨rfl, Or.inl ⟨by unfold jm_un; omega, rfl⟩⟩
    · have c3 : 3 = j := (nI_eq (a := 3) (b := j) (by omega) (by omega)).mp c3
      refine jb_iconst (pc' := 26) 1 dX11_isUnder_25 (by decide) rfl ?_
      refine jb_iret dX11_isUnder_26 rfl ?_
      exact ⟨rfl, Or.inl ⟨by unfold jm_un; omega, rfl⟩⟩
  | 4, _ =>
    show jb_J _ RX11 cX11_isUnder 4 (Option.some .boolean) false 1 0 0 0 [some (.int 4), some (.int (nI j)), none, none] [] h _
    refine jb_iload_n (pc' := 1) dX11_isUnder_0 rfl rfl ?_
    refine jb_istore_n_ (pc' := 2) dX11_isUnder_1 (by decide) (jb_at2 rfl) rfl ?_
    refine jb_iconst (pc' := 3) 0 dX11_isUnder_2 (by decide) rfl ?_
    refine jb_istore_n_ (pc' := 4) dX11_isUnder_3 (by decide) (jb_at3 rfl) rfl ?_
    refine jb_iload_n (pc' := 5) dX11_isUnder_4 rfl rfl ?_
    refine jb_bipush (pc' := 7) 7 dX11_isUnder_5 (by decide) rfl ?_
    refine jb_icmp_ge (tgt := 39) (pc' := 10) dX11_isUnder_7 (by decide) rfl (fun z => absurd z (by decide)) (fun _ => ?_)
    refine jb_iload_n (pc' := 11) dX11_isUnder_10 rfl rfl ?_
    refine jb_iconst (pc' := 12) 0 dX11_isUnder_11 (by decide) rfl ?_
    refine jb_bipush (pc' := 14) 6 dX11_isUnder_12 (by decide) rfl ?_
    refine jb_callS (pc' := 17) (As := [.int 4, .int 0, .int 6]) (a2 := 0) (b2 := 0) wv_X11_74 dX11_isUnder_14 (c_isOutLG 4 0 6 (by omega) (by omega) (by omega)) rfl ⟨by decide, Nat.le_of_eq (Nat.zero_add _), Nat.le_of_eq (Nat.zero_add _)⟩ (Nat.le_of_ble_eq_true rfl) rfl (fun r h9 hq => ?_)
    obtain ⟨rfl, rfl⟩ := hq
    show jb_J _ RX11 cX11_isUnder 4 (Option.some .boolean) false 1 0 0 17 [some (.int 4), some (.int (nI j)), some (.int 4), some (.int 0)] [.int 0] h _
    refine jb_if_ne (tgt := 39) (pc' := 20) dX11_isUnder_17 (by decide) rfl (fun z => absurd (by decide) z) (fun _ => ?_)
    refine jb_iload_n (pc' := 21) dX11_isUnder_20 rfl rfl ?_
    refine jb_iload_n (pc' := 22) dX11_isUnder_21 rfl rfl ?_
    refine jb_icmp_ne (tgt := 27) (pc' := 25) dX11_isUnder_22 (by decide) rfl (fun c3 => ?_) (fun c3 => ?_)
    · have c3 : ¬ 4 = j := fun z9 => c3 ((nI_eq (a := 4) (b := j) (by omega) (by omega)).mpr z9)
      refine jb_kabove (pc' := 30) jb_fl_X11_270 dX11_isUnder_27 rfl ?_
      refine jb_iload_n (pc' := 31) dX11_isUnder_30 rfl rfl ?_
      refine jb_kload (pc' := 32) (i9 := 4) dX11_isUnder_31 jb_x4 (by decide) rfl ?_
      refine jb_top (v := (jb_kab 4)) (w := .int 1) rfl ?_
      refine jb_istore_n_ (pc' := 33) dX11_isUnder_32 (by decide) (jb_at2 rfl) rfl ?_
      refine jb_iinc_ (pc' := 36) 1 dX11_isUnder_33 (by decide) rfl (by decide) (jb_at3 rfl) rfl ?_
      refine jb_goto (pc' := 4) dX11_isUnder_36 (by decide) ?_
      refine jb_iload_n (pc' := 5) dX11_isUnder_4 rfl rfl ?_
      refine jb_bipush (pc' := 7) 7 dX11_isUnder_5 (by decide) rfl ?_
      refine jb_icmp_ge (tgt := 39) (pc' := 10) dX11_isUnder_7 (by decide) rfl (fun z => absurd z (by decide)) (fun _ => ?_)
      refine jb_iload_n (pc' := 11) dX11_isUnder_10 rfl rfl ?_
      refine jb_iconst (pc' := 12) 0 dX11_isUnder_11 (by decide) rfl ?_
      refine jb_bipush (pc' := 14) 6 dX11_isUnder_12 (by decide) rfl ?_
      refine jb_callS (pc' := 17) (As := [.int 1, .int 0, .int 6]) (a2 := 0) (b2 := 0) wv_X11_74 dX11_isUnder_14 (c_isOutLG 1 0 6 (by omega) (by omega) (by omega)) rfl ⟨by decide, Nat.le_of_eq (Nat.zero_add _), Nat.le_of_eq (Nat.zero_add _)⟩ (Nat.le_of_ble_eq_true rfl) rfl (fun r h9 hq => ?_)
      obtain ⟨rfl, rfl⟩ := hq
      show jb_J _ RX11 cX11_isUnder 4 (Option.some .boolean) false 1 0 0 17 [some (.int 4), some (.int (nI j)), some (.int 1), some (.int 1)] [.int 0] h _
      refine jb_if_ne (tgt := 39) (pc' := 20) dX11_isUnder_17 (by decide) rfl (fun z => absurd (by decide) z) (fun _ => ?_)
      refine jb_iload_n (pc' := 21) dX11_isUnder_20 rfl rfl ?_
      refine jb_iload_n (pc' := 22) dX11_isUnder_21 rfl rfl ?_
      refine jb_icmp_ne (tgt := 27) (pc' := 25) dX11_isUnder_22 (by decide) rfl (fun c6 => ?_) (fun c6 => ?_)
      · have c6 : ¬ 1 = j := fun z9 => c6 ((nI_eq (a := 1) (b := j) (by omega) (by omega)).mpr z9)
        refine jb_kabove (pc' := 30) jb_fl_X11_270 dX11_isUnder_27 rfl ?_
        refine jb_iload_n (pc' := 31) dX11_isUnder_30 rfl rfl ?_
        refine jb_kload (pc' := 32) (i9 := 1) dX11_isUnder_31 jb_x1 (by decide) rfl ?_
        refine jb_top (v := (jb_kab 1)) (w := .int 0) rfl ?_
        refine jb_istore_n_ (pc' := 33) dX11_isUnder_32 (by decide) (jb_at2 rfl) rfl ?_
        refine jb_iinc_ (pc' := 36) 2 dX11_isUnder_33 (by decide) rfl (by decide) (jb_at3 rfl) rfl ?_
        refine jb_goto (pc' := 4) dX11_isUnder_36 (by decide) ?_
        refine jb_iload_n (pc' := 5) dX11_isUnder_4 rfl rfl ?_
        refine jb_bipush (pc' := 7) 7 dX11_isUnder_5 (by decide) rfl ?_
        refine jb_icmp_ge (tgt := 39) (pc' := 10) dX11_isUnder_7 (by decide) rfl (fun z => absurd z (by decide)) (fun _ => ?_)
        refine jb_iload_n (pc' := 11) dX11_isUnder_10 rfl rfl ?_
        refine jb_iconst (pc' := 12) 0 dX11_isUnder_11 (by decide) rfl ?_
        refine jb_bipush (pc' := 14) 6 dX11_isUnder_12 (by decide) rfl ?_
        refine jb_callS (pc' := 17) (As := [.int 0, .int 0, .int 6]) (a2 := 0) (b2 := 0) wv_X11_74 dX11_isUnder_14 (c_isOutLG 0 0 6 (by omega) (by omega) (by omega)) rfl ⟨by decide, Nat.le_of_eq (Nat.zero_add _), Nat.le_of_eq (Nat.zero_add _)⟩ (Nat.le_of_ble_eq_true rfl) rfl (fun r h9 hq => ?_)
        obtain ⟨rfl, rfl⟩ := hq
        show jb_J _ RX11 cX11_isUnder 4 (Option.some .boolean) false 1 0 0 17 [some (.int 4), some (.int (nI j)), some (.int 0), some (.int 2)] [.int 0] h _
        refine jb_if_ne (tgt := 39) (pc' := 20) dX11_isUnder_17 (by decide) rfl (fun z => absurd (by decide) z) (fun _ => ?_)
        refine jb_iload_n (pc' := 21) dX11_isUnder_20 rfl rfl ?_
        refine jb_iload_n (pc' := 22) dX11_isUnder_21 rfl rfl ?_
        refine jb_icmp_ne (tgt := 27) (pc' := 25) dX11_isUnder_22 (by decide) rfl (fun c9 => ?_) (fun c9 => ?_)
        · have c9 : ¬ 0 = j := fun z9 => c9 ((nI_eq (a := 0) (b := j) (by omega) (by omega)).mpr z9)
          refine jb_kabove (pc' := 30) jb_fl_X11_270 dX11_isUnder_27 rfl ?_
          refine jb_iload_n (pc' := 31) dX11_isUnder_30 rfl rfl ?_
          refine jb_kload (pc' := 32) (i9 := 0) dX11_isUnder_31 jb_x0 (by decide) rfl ?_
          refine jb_top (v := (jb_kab 0)) (w := .int (-1)) rfl ?_
          refine jb_istore_n_ (pc' := 33) dX11_isUnder_32 (by decide) (jb_at2 rfl) rfl ?_
          refine jb_iinc_ (pc' := 36) 3 dX11_isUnder_33 (by decide) rfl (by decide) (jb_at3 rfl) rfl ?_
          refine jb_goto (pc' := 4) dX11_isUnder_36 (by decide) ?_
          refine jb_iload_n (pc' := 5) dX11_isUnder_4 rfl rfl ?_
          refine jb_bipush (pc' := 7) 7 dX11_isUnder_5 (by decide) rfl ?_
          refine jb_icmp_ge (tgt := 39) (pc' := 10) dX11_isUnder_7 (by decide) rfl (fun z => absurd z (by decide)) (fun _ => ?_)
          refine jb_iload_n (pc' := 11) dX11_isUnder_10 rfl rfl ?_
          refine jb_iconst (pc' := 12) 0 dX11_isUnder_11 (by decide) rfl ?_
          refine jb_bipush (pc' := 14) 6 dX11_isUnder_12 (by decide) rfl ?_
          refine jb_callS (pc' := 17) (As := [.int (-1), .int 0, .int 6]) (a2 := 0) (b2 := 0) wv_X11_74 dX11_isUnder_14 (c_isOutM1 (h := h)) rfl ⟨by decide, Nat.le_of_eq (Nat.zero_add _), Nat.le_of_eq (Nat.zero_add _)⟩ (Nat.le_of_ble_eq_true rfl) rfl (fun r h9 hq => ?_)
          obtain ⟨rfl, rfl⟩ := hq
          show jb_J _ RX11 cX11_isUnder 4 (Option.some .boolean) false 1 0 0 17 [some (.int 4), some (.int (nI j)), some (.int (-1)), some (.int 3)] [.int 1] h _
          refine jb_if_ne (tgt := 39) (pc' := 20) dX11_isUnder_17 (by decide) rfl (fun _ => ?_) (fun z => absurd z (by decide))
          refine jb_iconst (pc' := 40) 0 dX11_isUnder_39 (by decide) rfl ?_
          refine jb_iret dX11_isUnder_40 rfl ?_
          exact ⟨rfl, Or.inr ⟨by unfold jm_un; omega, rfl⟩⟩
        · have c9 : 0 = j := (nI_eq (a := 0) (b := j) (by omega) (by omega)).mp c9
          refine jb_iconst (pc' := 26) 1 dX11_isUnder_25 (by decide) rfl ?_
          refine jb_iret dX11_isUnder_26 rfl ?_
          exact ⟨rfl, Or.inl ⟨by unfold jm_un; omega, rfl⟩⟩
      · have c6 : 1 = j := (nI_eq (a := 1) (b := j) (by omega) (by omega)).mp c6
        refine jb_iconst (pc' := 26) 1 dX11_isUnder_25 (by decide) rfl ?_
        refine jb_iret dX11_isUnder_26 rfl ?_
        exact ⟨rfl, Or.inl ⟨by unfold jm_un; omega, rfl⟩⟩
    · have c3 : 4 = j := (nI_eq (a := 4) (b := j) (by omega) (by omega)).mp c3
      refine jb_iconst (pc' := 26) 1 dX11_isUnder_25 (by decide) rfl ?_
      refine jb_iret dX11_isUnder_26 rfl ?_
      exact ⟨rfl, Or.inl ⟨by unfold jm_un; omega, rfl⟩⟩
  | 5, _ =>
    show jb_J _ RX11 cX11_isUnder 4 (Option.some .boolean) false 1 0 0 0 [some (.int 5), some (.int (nI j)), none, none] [] h _
    refine jb_iload_n (pc' := 1) dX11_isUnder_0 rfl rfl ?_
    refine jb_istore_n_ (pc' := 2) dX11_isUnder_1 (by decide) (jb_at2 rfl) rfl ?_
    refine jb_iconst (pc' := 3) 0 dX11_isUnder_2 (by decide) rfl ?_
    refine jb_istore_n_ (pc' := 4) dX11_isUnder_3 (by decide) (jb_at3 rfl) rfl ?_
    refine jb_iload_n (pc' := 5) dX11_isUnder_4 rfl rfl ?_
    refine jb_bipush (pc' := 7) 7 dX11_isUnder_5 (by decide) rfl ?_
    refine jb_icmp_ge (tgt := 39) (pc' := 10) dX11_isUnder_7 (by decide) rfl (fun z => absurd z (by decide)) (fun _ => ?_)
    refine jb_iload_n (pc' := 11) dX11_isUnder_10 rfl rfl ?_
    refine jb_iconst (pc' := 12) 0 dX11_isUnder_11 (by decide) rfl ?_
    refine jb_bipush (pc' := 14) 6 dX11_isUnder_12 (by decide) rfl ?_
    refine jb_callS (pc' := 17) (As := [.int 5, .int 0, .int 6]) (a2 := 0) (b2 := 0) wv_X11_74 dX11_isUnder_14 (c_isOutLG 5 0 6 (by omega) (by omega) (by omega)) rfl ⟨by decide, Nat.le_of_eq (Nat.zero_add _), Nat.le_of_eq (Nat.zero_add _)⟩ (Nat.le_of_ble_eq_true rfl) rfl (fun r h9 hq => ?_)
    obtain ⟨rfl, rfl⟩ := hq
    show jb_J _ RX11 cX11_isUnder 4 (Option.some .boolean) false 1 0 0 17 [some (.int 5), some (.int (nI j)), some (.int 5), some (.int 0)] [.int 0] h _
    refine jb_if_ne (tgt := 39) (pc' := 20) dX11_isUnder_17 (by decide) rfl (fun z => absurd (by decide) z) (fun _ => ?_)
    refine jb_iload_n (pc' := 21) dX11_isUnder_20 rfl rfl ?_
    refine jb_iload_n (pc' := 22) dX11_isUnder_21 rfl rfl ?_
    refine jb_icmp_ne (tgt := 27) (pc' := 25) dX11_isUnder_22 (by decide) rfl (fun c3 => ?_) (fun c3 => ?_)
    · have c3 : ¬ 5 = j := fun z9 => c3 ((nI_eq (a := 5) (b := j) (by omega) (by omega)).mpr z9)
      refine jb_kabove (pc' := 30) jb_fl_X11_270 dX11_isUnder_27 rfl ?_
      refine jb_iload_n (pc' := 31) dX11_isUnder_30 rfl rfl ?_
      refine jb_kload (pc' := 32) (i9 := 5) dX11_isUnder_31 jb_x5 (by decide) rfl ?_
      refine jb_top (v := (jb_kab 5)) (w := .int 2) rfl ?_
      refine jb_istore_n_ (pc' := 33) dX11_isUnder_32 (by decide) (jb_at2 rfl) rfl ?_
      refine jb_iinc_ (pc' := 36) 1 dX11_isUnder_33 (by decide) rfl (by decide) (jb_at3 rfl) rfl ?_
      refine jb_goto (pc' := 4) dX11_isUnder_36 (by decide) ?_
      refine jb_iload_n (pc' := 5) dX11_isUnder_4 rfl rfl ?_
      refine jb_bipush (pc' := 7) 7 dX11_isUnder_5 (by decide) rfl ?_
      refine jb_icmp_ge (tgt := 39) (pc' := 10) dX11_isUnder_7 (by decide) rfl (fun z => absurd z (by decide)) (fun _ => ?_)
      refine jb_iload_n (pc' := 11) dX11_isUnder_10 rfl rfl ?_
      refine jb_iconst (pc' := 12) 0 dX11_isUnder_11 (by decide) rfl ?_
      refine jb_bipush (pc' := 14) 6 dX11_isUnder_12 (by decide) rfl ?_
      refine jb_callS (pc' := 17) (As := [.int 2, .int 0, .int 6]) (a2 := 0) (b2 := 0) wv_X11_74 dX11_isUnder_14 (c_isOutLG 2 0 6 (by omega) (by omega) (by omega)) rfl ⟨by decide, Nat.le_of_eq (Nat.zero_add _), Nat.le_of_eq (Nat.zero_add _)⟩ (Nat.le_of_ble_eq_true rfl) rfl (fun r h9 hq => ?_)
      obtain ⟨rfl, rfl⟩ := hq
      show jb_J _ RX11 cX11_isUnder 4 (Option.some .boolean) false 1 0 0 17 [some (.int 5), some (.int (nI j)), some (.int 2), some (.int 1)] [.int 0] h _
      refine jb_if_ne (tgt := 39) (pc' := 20) dX11_isUnder_17 (by decide) rfl (fun z => absurd (by decide) z) (fun _ => ?_)
      refine jb_iload_n (pc' := 21) dX11_isUnder_20 rfl rfl ?_
      refine jb_iload_n (pc' := 22) dX11_isUnder_21 rfl rfl ?_
      refine jb_icmp_ne (tgt := 27) (pc' := 25) dX11_isUnder_22 (by decide) rfl (fun c6 => ?_) (fun c6 => ?_)
      · have c6 : ¬ 2 = j := fun z9 => c6 ((nI_eq (a := 2) (b := j) (by omega) (by omega)).mpr z9)
        refine jb_kabove (pc' := 30) jb_fl_X11_270 dX11_isUnder_27 rfl ?_
        refine jb_iload_n (pc' := 31) dX11_isUnder_30 rfl rfl ?_
        refine jb_kload (pc' := 32) (i9 := 2) dX11_isUnder_31 jb_x2 (by decide) rfl ?_
        refine jb_top (v := (jb_kab 2)) (w := .int 0) rfl ?_
        refine jb_istore_n_ (pc' := 33) dX11_isUnder_32 (by decide) (jb_at2 rfl) rfl ?_
        refine jb_iinc_ (pc' := 36) 2 dX11_isUnder_33 (by decide) rfl (by decide) (jb_at3 rfl) rfl ?_
        refine jb_goto (pc' := 4) dX11_isUnder_36 (by decide) ?_
        refine jb_iload_n (pc' := 5) dX11_isUnder_4 rfl rfl ?_
        refine jb_bipush (pc' := 7) 7 dX11_isUnder_5 (by decide) rfl ?_
        refine jb_icmp_ge (tgt := 39) (pc' := 10) dX11_isUnder_7 (by decide) rfl (fun z => absurd z (by decide)) (fun _ => ?_)
        refine jb_iload_n (pc' := 11) dX11_isUnder_10 rfl rfl ?_
        refine jb_iconst (pc' := 12) 0 dX11_isUnder_11 (by decide) rfl ?_
        refine jb_bipush (pc' := 14) 6 dX11_isUnder_12 (by decide) rfl ?_
        refine jb_callS (pc' := 17) (As := [.int 0, .int 0, .int 6]) (a2 := 0) (b2 := 0) wv_X11_74 dX11_isUnder_14 (c_isOutLG 0 0 6 (by omega) (by omega) (by omega)) rfl ⟨by decide, Nat.le_of_eq (Nat.zero_add _), Nat.le_of_eq (Nat.zero_add _)⟩ (Nat.le_of_ble_eq_true rfl) rfl (fun r h9 hq => ?_)
        obtain ⟨rfl, rfl⟩ := hq
        show jb_J _ RX11 cX11_isUnder 4 (Option.some .boolean) false 1 0 0 17 [some (.int 5), some (.int (nI j)), some (.int 0), some (.int 2)] [.int 0] h _
        refine jb_if_ne (tgt := 39) (pc' := 20) dX11_isUnder_17 (by decide) rfl (fun z => absurd (by decide) z) (fun _ => ?_)
        refine jb_iload_n (pc' := 21) dX11_isUnder_20 rfl rfl ?_
        refine jb_iload_n (pc' := 22) dX11_isUnder_21 rfl rfl ?_
        refine jb_icmp_ne (tgt := 27) (pc' := 25) dX11_isUnder_22 (by decide) rfl (fun c9 => ?_) (fun c9 => ?_)
        · have c9 : ¬ 0 = j := fun z9 => c9 ((nI_eq (a := 0) (b := j) (by omega) (by omega)).mpr z9)
          refine jb_kabove (pc' := 30) jb_fl_X11_270 dX11_isUnder_27 rfl ?_
          refine jb_iload_n (pc' := 31) dX11_isUnder_30 rfl rfl ?_
          refine jb_kload (pc' := 32) (i9 := 0) dX11_isUnder_31 jb_x0 (by decide) rfl ?_
          refine jb_top (v := (jb_kab 0)) (w := .int (-1)) rfl ?_
          refine jb_istore_n_ (pc' := 33) dX11_isUnder_32 (by decide) (jb_at2 rfl) rfl ?_
          refine jb_iinc_ (pc' := 36) 3 dX11_isUnder_33 (by decide) rfl (by decide) (jb_at3 rfl) rfl ?_
          refine jb_goto (pc' := 4) dX11_isUnder_36 (by decide) ?_
          refine jb_iload_n (pc' := 5) dX11_isUnder_4 rfl rfl ?_
          refine jb_bipush (pc' := 7) 7 dX11_isUnder_5 (by decide) rfl ?_
          refine jb_icmp_ge (tgt := 39) (pc' := 10) dX11_isUnder_7 (by decide) rfl (fun z => absurd z (by decide)) (fun _ => ?_)
          refine jb_iload_n (pc' := 11) dX11_isUnder_10 rfl rfl ?_
          refine jb_iconst (pc' := 12) 0 dX11_isUnder_11 (by decide) rfl ?_
          refine jb_bipush (pc' := 14) 6 dX11_isUnder_12 (by decide) rfl ?_
          refine jb_callS (pc' := 17) (As := [.int (-1), .int 0, .int 6]) (a2 := 0) (b2 := 0) wv_X11_74 dX11_isUnder_14 (c_isOutM1 (h := h)) rfl ⟨by decide, Nat.le_of_eq (Nat.zero_add _), Nat.le_of_eq (Nat.zero_add _)⟩ (Nat.le_of_ble_eq_true rfl) rfl (fun r h9 hq => ?_)
          obtain ⟨rfl, rfl⟩ := hq
          show jb_J _ RX11 cX11_isUnder 4 (Option.some .boolean) false 1 0 0 17 [some (.int 5), some (.int (nI j)), some (.int (-1)), some (.int 3)] [.int 1] h _
          refine jb_if_ne (tgt := 39) (pc' := 20) dX11_isUnder_17 (by decide) rfl (fun _ => ?_) (fun z => absurd z (by decide))
          refine jb_iconst (pc' := 40) 0 dX11_isUnder_39 (by decide) rfl ?_
          refine jb_iret dX11_isUnder_40 rfl ?_
          exact ⟨rfl, Or.inr ⟨by unfold jm_un; omega, rfl⟩⟩
        · have c9 : 0 = j := (nI_eq (a := 0) (b := j) (by omega) (by omega)).mp c9
          refine jb_iconst (pc' := 26) 1 dX11_isUnder_25 (by decide) rfl ?_
          refine jb_iret dX11_isUnder_26 rfl ?_
          exact ⟨rfl, Or.inl ⟨by unfold jm_un; omega, rfl⟩⟩
      · have c6 : 2 = j := (nI_eq (a := 2) (b := j) (by omega) (by omega)).mp c6
        refine jb_iconst (pc' := 26) 1 dX11_isUnder_25 (by decide) rfl ?_
        refine jb_iret dX11_isUnder_26 rfl ?_
        exact ⟨rfl, Or.inl ⟨by unfold jm_un; omega, rfl⟩⟩
    · have c3 : 5 = j := (nI_eq (a := 5) (b := j) (by omega) (by omega)).mp c3
      refine jb_iconst (pc' := 26) 1 dX11_isUnder_25 (by decide) rfl ?_
      refine jb_iret dX11_isUnder_26 rfl ?_
      exact ⟨rfl, Or.inl ⟨by unfold jm_un; omega, rfl⟩⟩
  | 6, _ =>
    show jb_J _ RX11 cX11_isUnder 4 (Option.some .boolean) false 1 0 0 0 [some (.int 6), some (.int (nI j)), none, none] [] h _
    refine jb_iload_n (pc' := 1) dX11_isUnder_0 rfl rfl ?_
    refine jb_istore_n_ (pc' := 2) dX11_isUnder_1 (by decide) (jb_at2 rfl) rfl ?_
    refine jb_iconst (pc' := 3) 0 dX11_isUnder_2 (by decide) rfl ?_
    refine jb_istore_n_ (pc' := 4) dX11_isUnder_3 (by decide) (jb_at3 rfl) rfl ?_
    refine jb_iload_n (pc' := 5) dX11_isUnder_4 rfl rfl ?_
    refine jb_bipush (pc' := 7) 7 dX11_isUnder_5 (by decide) rfl ?_
    refine jb_icmp_ge (tgt := 39) (pc' := 10) dX11_isUnder_7 (by decide) rfl (fun z => absurd z (by decide)) (fun _ => ?_)
    refine jb_iload_n (pc' := 11) dX11_isUnder_10 rfl rfl ?_
    refine jb_iconst (pc' := 12) 0 dX11_isUnder_11 (by decide) rfl ?_
    refine jb_bipush (pc' := 14) 6 dX11_isUnder_12 (by decide) rfl ?_
    refine jb_callS (pc' := 17) (As := [.int 6, .int 0, .int 6]) (a2 := 0) (b2 := 0) wv_X11_74 dX11_isUnder_14 (c_isOutLG 6 0 6 (by omega) (by omega) (by omega)) rfl ⟨by decide, Nat.le_of_eq (Nat.zero_add _), Nat.le_of_eq (Nat.zero_add _)⟩ (Nat.le_of_ble_eq_true rfl) rfl (fun r h9 hq => ?_)
    obtain ⟨rfl, rfl⟩ := hq
    show jb_J _ RX11 cX11_isUnder 4 (Option.some .boolean) false 1 0 0 17 [some (.int 6), some (.int (nI j)), some (.int 6), some (.int 0)] [.int 0] h _
    refine jb_if_ne (tgt := 39) (pc' := 20) dX11_isUnder_17 (by decide) rfl (fun z => absurd (by decide) z) (fun _ => ?_)
    refine jb_iload_n (pc' := 21) dX11_isUnder_20 rfl rfl ?_
    refine jb_iload_n (pc' := 22) dX11_isUnder_21 rfl rfl ?_
    refine jb_icmp_ne (tgt := 27) (pc' := 25) dX11_isUnder_22 (by decide) rfl (fun c3 => ?_) (fun c3 => ?_)
    · have c3 : ¬ 6 = j := fun z9 => c3 ((nI_eq (a := 6) (b := j) (by omega) (by omega)).mpr z9)
      refine jb_kabove (pc' := 30) jb_fl_X11_270 dX11_isUnder_27 rfl ?_
      refine jb_iload_n (pc' := 31) dX11_isUnder_30 rfl rfl ?_
      refine jb_kload (pc' := 32) (i9 := 6) dX11_isUnder_31 jb_x6 (by decide) rfl ?_
      refine jb_top (v := (jb_kab 6)) (w := .int 3) rfl ?_
      refine jb_istore_n_ (pc' := 33) dX11_isUnder_32 (by decide) (jb_at2 rfl) rfl ?_
      refine jb_iinc_ (pc' := 36) 1 dX11_isUnder_33 (by decide) rfl (by decide) (jb_at3 rfl) rfl ?_
      refine jb_goto (pc' := 4) dX11_isUnder_36 (by decide) ?_
      refine jb_iload_n (pc' := 5) dX11_isUnder_4 rfl rfl ?_
      refine jb_bipush (pc' := 7) 7 dX11_isUnder_5 (by decide) rfl ?_
      refine jb_icmp_ge (tgt := 39) (pc' := 10) dX11_isUnder_7 (by decide) rfl (fun z => absurd z (by decide)) (fun _ => ?_)
      refine jb_iload_n (pc' := 11) dX11_isUnder_10 rfl rfl ?_
      refine jb_iconst (pc' := 12) 0 dX11_isUnder_11 (by decide) rfl ?_
      refine jb_bipush (pc' := 14) 6 dX11_isUnder_12 (by decide) rfl ?_
      refine jb_callS (pc' := 17) (As := [.int 3, .int 0, .int 6]) (a2 := 0) (b2 := 0) wv_X11_74 dX11_isUnder_14 (c_isOutLG 3 0 6 (by omega) (by omega) (by omega)) rfl ⟨by decide, Nat.le_of_eq (Nat.zero_add _), Nat.le_of_eq (Nat.zero_add _)⟩ (Nat.le_of_ble_eq_true rfl) rfl (fun r h9 hq => ?_)
      obtain ⟨rfl, rfl⟩ := hq
      show jb_J _ RX11 cX11_isUnder 4 (Option.some .boolean) false 1 0 0 17 [some (.int 6), some (.int (nI j)), some (.int 3), some (.int 1)] [.int 0] h _
      refine jb_if_ne (tgt := 39) (pc' := 20) dX11_isUnder_17 (by decide) rfl (fun z => absurd (by decide) z) (fun _ => ?_)
      refine jb_iload_n (pc' := 21) dX11_isUnder_20 rfl rfl ?_
      refine jb_iload_n (pc' := 22) dX11_isUnder_21 rfl rfl ?_
      refine jb_icmp_ne (tgt := 27) (pc' := 25) dX11_isUnder_22 (by decide) rfl (fun c6 => ?_) (fun c6 => ?_)
      · have c6 : ¬ 3 = j := fun z9 => c6 ((nI_eq (a := 3) (b := j) (by omega) (by omega)).mpr z9)
        refine jb_kabove (pc' := 30) jb_fl_X11_270 dX11_isUnder_27 rfl ?_
        refine jb_iload_n (pc' := 31) dX11_isUnder_30 rfl rfl ?_
        refine jb_kload (pc' := 32) (i9 := 3) dX11_isUnder_31 jb_x3 (by decide) rfl ?_
        refine jb_top (v := (jb_kab 3)) (w := .int 0) rfl ?_
        refine jb_istore_n_ (pc' := 33) dX11_isUnder_32 (by decide) (jb_at2 rfl) rfl ?_
        refine jb_iinc_ (pc' := 36) 2 dX11_isUnder_33 (by decide) rfl (by decide) (jb_at3 rfl) rfl ?_
        refine jb_goto (pc' := 4) dX11_isUnder_36 (by decide) ?_
        refine jb_iload_n (pc' := 5) dX11_isUnder_4 rfl rfl ?_
        refine jb_bipush (pc' := 7) 7 dX11_isUnder_5 (by decide) rfl ?_
        refine jb_icmp_ge (tgt := 39) (pc' := 10) dX11_isUnder_7 (by decide) rfl (fun z => absurd z (by decide)) (fun _ => ?_)
        refine jb_iload_n (pc' := 11) dX11_isUnder_10 rfl rfl ?_
        refine jb_iconst (pc' := 12) 0 dX11_isUnder_11 (by decide) rfl ?_
        refine jb_bipush (pc' := 14) 6 dX11_isUnder_12 (by decide) rfl ?_
        refine jb_callS (pc' := 17) (As := [.int 0, .int 0, .int 6]) (a2 := 0) (b2 := 0) wv_X11_74 dX11_isUnder_14 (c_isOutLG 0 0 6 (by omega) (by omega) (by omega)) rfl ⟨by decide, Nat.le_of_eq (Nat.zero_add _), Nat.le_of_eq (Nat.zero_add _)⟩ (Nat.le_of_ble_eq_true rfl) rfl (fun r h9 hq => ?_)
        obtain ⟨rfl, rfl⟩ := hq
        show jb_J _ RX11 cX11_isUnder 4 (Option.some .boolean) false 1 0 0 17 [some (.int 6), some (.int (nI j)), some (.int 0), some (.int 2)] [.int 0] h _
        refine jb_if_ne (tgt := 39) (pc' := 20) dX11_isUnder_17 (by decide) rfl (fun z => absurd (by decide) z) (fun _ => ?_)
        refine jb_iload_n (pc' := 21) dX11_isUnder_20 rfl rfl ?_
        refine jb_iload_n (pc' := 22) dX11_isUnder_21 rfl rfl ?_
        refine jb_icmp_ne (tgt := 27) (pc' := 25) dX11_isUnder_22 (by decide) rfl (fun c9 => ?_) (fun c9 => ?_)
        · have c9 : ¬ 0 = j := fun z9 => c9 ((nI_eq (a := 0) (b := j) (by omega) (by omega)).mpr z9)
          refine jb_kabove (pc' := 30) jb_fl_X11_270 dX11_isUnder_27 rfl ?_
          refine jb_iload_n (pc' := 31) dX11_isUnder_30 rfl rfl ?_
          refine jb_kload (pc' := 32) (i9 := 0) dX11_isUnder_31 jb_x0 (by decide) rfl ?_
          refine jb_top (v := (jb_kab 0)) (w := .int (-1)) rfl ?_
          refine jb_istore_n_ (pc' := 33) dX11_isUnder_32 (by decide) (jb_at2 rfl) rfl ?_
          refine jb_iinc_ (pc' := 36) 3 dX11_isUnder_33 (by decide) rfl (by decide) (jb_at3 rfl) rfl ?_
          refine jb_goto (pc' := 4) dX11_isUnder_36 (by decide) ?_
          refine jb_iload_n (pc' := 5) dX11_isUnder_4 rfl rfl ?_
          refine jb_bipush (pc' := 7) 7 dX11_isUnder_5 (by decide) rfl ?_
          refine jb_icmp_ge (tgt := 39) (pc' := 10) dX11_isUnder_7 (by decide) rfl (fun z => absurd z (by decide)) (fun _ => ?_)
          refine jb_iload_n (pc' := 11) dX11_isUnder_10 rfl rfl ?_
          refine jb_iconst (pc' := 12) 0 dX11_isUnder_11 (by decide) rfl ?_
          refine jb_bipush (pc' := 14) 6 dX11_isUnder_12 (by decide) rfl ?_
          refine jb_callS (pc' := 17) (As := [.int (-1), .int 0, .int 6]) (a2 := 0) (b2 := 0) wv_X11_74 dX11_isUnder_14 (c_isOutM1 (h := h)) rfl ⟨by decide, Nat.le_of_eq (Nat.zero_add _), Nat.le_of_eq (Nat.zero_add _)⟩ (Nat.le_of_ble_eq_true rfl) rfl (fun r h9 hq => ?_)
          obtain ⟨rfl, rfl⟩ := hq
          show jb_J _ RX11 cX11_isUnder 4 (Option.some .boolean) false 1 0 0 17 [some (.int 6), some (.int (nI j)), some (.int (-1)), some (.int 3)] [.int 1] h _
          refine jb_if_ne (tgt := 39) (pc' := 20) dX11_isUnder_17 (by decide) rfl (fun _ => ?_) (fun z => absurd z (by decide))
          refine jb_iconst (pc' := 40) 0 dX11_isUnder_39 (by decide) rfl ?_
          refine jb_iret dX11_isUnder_40 rfl ?_
          exact ⟨rfl, Or.inr ⟨by unfold jm_un; omega, rfl⟩⟩
        · have c9 : 0 = j := (nI_eq (a := 0) (b := j) (by omega) (by omega)).mp c9
          refine jb_iconst (pc' := 26) 1 dX11_isUnder_25 (by decide) rfl ?_
          refine jb_iret dX11_isUnder_26 rfl ?_
          exact ⟨rfl, Or.inl ⟨by unfold jm_un; omega, rfl⟩⟩
      · have c6 : 3 = j := (nI_eq (a := 3) (b := j) (by omega) (by omega)).mp c6
        refine jb_iconst (pc' := 26) 1 dX11_isUnder_25 (by decide) rfl ?_
        refine jb_iret dX11_isUnder_26 rfl ?_
        exact ⟨rfl, Or.inl ⟨by unfold jm_un; omega, rfl⟩⟩
    · have c3 : 6 = j := (nI_eq (a := 6) (b := j) (by omega) (by omega)).mp c3
      refine jb_iconst (pc' := 26) 1 dX11_isUnder_25 (by decide) rfl ?_
      refine jb_iret dX11_isUnder_26 rfl ?_
      exact ⟨rfl, Or.inl ⟨by unfold jm_un; omega, rfl⟩⟩
set_option maxRecDepth 100000 in
set_option maxHeartbeats 4000000 in
theorem kx_as {sc : Nat × (Nat → Int32)} {s2 s3 s4 s5 s6 s7 s8 s9 s10 s11 : List va_E} {V : Nat → Nat → Nat} (imm : Int32) (Im rowm stkm tpm : Nat → Int32) (Tm : Nat → Value) (I : Nat → Int32) (W : Nat → Nat → Int32) (T : Nat → Value) (hr : jr_ V I W) (hk : jv_ok V) (p : Nat) (hp : p < V 0 1) (j : Nat) (hj : j < 7) (hju : jm_un (V 1 p) j) : jb_C sc yX11_as cX11_as 3 (Option.some .int) 2 0 0 [.ref 0, .int (nI p), .int (nI j)] [jb_main imm Im Tm rowm stkm tpm, jb_sch13 I W T, s2, s3, s4, s5, s6, s7, s8, s9, s10, s11] (fun r h9 => r = some (.int (nI (V 2 p))) ∧ h9 = [jb_main imm Im Tm rowm stkm tpm, jb_sch13 I W T, s2, s3, s4, s5, s6, s7, s8, s9, s10, s11]) := by
  refine jb_CofJ (ini := false) (by decide +kernel) (fun h => by cases h) (Nat.le_of_ble_eq_true rfl) ?_
  show jb_J sc RX11 cX11_as 3 (Option.some .int) false 2 0 0 0 [some (.ref 0), some (.int (nI p)), some (.int (nI j))] [] [jb_main imm Im Tm rowm stkm tpm, jb_sch13 I W T, s2, s3, s4, s5, s6, s7, s8, s9, s10, s11] _
  have hr0 := hr
  have hk0 := hk
  obtain ⟨r0, r2, r3, r4, a0, a1, a2, rv, rs, rd⟩ := hr
  obtain ⟨k0, k1, k2, k3, k4, k5, k6, k7, kv, ks, kd⟩ := hk
  have q1 := kv p hp
  refine jb_aload_n (pc' := 1) dX11_as_0 rfl rfl ?_
  refine jb_iload_n (pc' := 2) dX11_as_1 rfl rfl ?_
  refine jb_callV (pc' := 5) (ci := 11) (q := 0) (As := [.int (nI p)]) (a2 := 0) (b2 := 0) wv_X11_92 rfl dX11_as_2 (c_isNoVoiceG imm Im rowm stkm tpm Tm I W T hr0 hk0 p (by omega)) rfl rfl ⟨by decide, Nat.le_of_eq (Nat.zero_add _), Nat.le_of_eq (Nat.zero_add _)⟩ (Nat.le_of_ble_eq_true rfl) rfl (fun r h9 hq => ?_)
  obtain ⟨rfl, rfl⟩ := hq
  show jb_J _ RX11 cX11_as 3 (Option.some .int) false 2 0 0 5 [some (.ref 0), some (.int (nI p)), some (.int (nI j))] [.int 0] [jb_main imm Im Tm rowm stkm tpm, jb_sch13 I W T, s2, s3, s4, s5, s6, s7, s8, s9, s10, s11] _
  refine jb_if_ne (tgt := 18) (pc' := 8) dX11_as_5 (by decide) rfl (fun z => absurd (by decide) z) (fun _ => ?_)
  refine jb_iload_n (pc' := 9) dX11_as_8 rfl rfl ?_
  refine jb_iconst (pc' := 10) 0 dX11_as_9 (by decide) rfl ?_
  refine jb_bipush (pc' := 12) 6 dX11_as_10 (by decide) rfl ?_
  refine jb_callS (pc' := 15) (As := [.int (nI j), .int 0, .int 6]) (a2 := 0) (b2 := 0) wv_X11_74 dX11_as_12 (c_isOutLG j 0 6 (by omega) (by omega) (by omega)) rfl ⟨by decide, Nat.le_of_eq (Nat.zero_add _), Nat.le_of_eq (Nat.zero_add _)⟩ (Nat.le_of_ble_eq_true rfl) rfl (fun r h9 hq => ?_)
  obtain ⟨rfl, rfl⟩ := hq
  show jb_J _ RX11 cX11_as 3 (Option.some .int) false 2 0 0 15 [some (.ref 0), some (.int (nI p)), some (.int (nI j))] [.int 0] [jb_main imm Im Tm rowm stkm tpm, jb_sch13 I W T, s2, s3, s4, s5, s6, s7, s8, s9, s10, s11] _
  refine jb_if_eq (tgt := 24) (pc' := 18) dX11_as_15 (by decide) rfl (fun _ => ?_) (fun z => absurd (by decide) z)
  refine jb_aload_n (pc' := 25) dX11_as_24 rfl rfl ?_
  refine gf_X11_42 (pc' := 28) (v := .ref 13) dX11_as_25 rfl rfl rfl ?_
  refine gf_X11_99 (pc' := 31) (v := .ref 15) dX11_as_28 rfl rfl rfl ?_
  refine jb_iconst (pc' := 32) 0 dX11_as_31 (by decide) rfl ?_
  refine jb_aaload (pc' := 33) (i9 := 0) (r := 16) (Or.inl rfl) dX11_as_32 rfl jb_x0 (by decide) rfl rfl ?_
  refine jb_iload_n (pc' := 34) dX11_as_33 rfl rfl ?_
  refine jb_iaload (pc' := 35) (i9 := p) (f := (W 1)) dX11_as_34 rfl (jb_ix_nI (by omega)) (by omega) rfl ?_
  refine jb_top (v := .int ((W 1) p)) (w := .int (nI (V 1 p))) (jb_vI (rv p (by omega)).1) ?_
  refine jb_iload_n (pc' := 36) dX11_as_35 rfl rfl ?_
  refine jb_callS (pc' := 39) (As := [.int (nI (V 1 p)), .int (nI j)]) (a2 := 0) (b2 := 0) wv_X11_109 dX11_as_36 (c_isUnder _ (V 1 p) j (by omega) hj) rfl ⟨by decide, Nat.le_of_eq (Nat.zero_add _), Nat.le_of_eq (Nat.zero_add _)⟩ (Nat.le_of_ble_eq_true rfl) rfl (fun r h9 hq => ?_)
  rcases hq with ⟨rfl, ⟨hu, rfl⟩ | ⟨hu, rfl⟩⟩
  · show jb_J _ RX11 cX11_as 3 (Option.some .int) false 2 0 0 39 [some (.ref 0), some (.int (nI p)), some (.int (nI j))] [.int 1] [jb_main imm Im Tm rowm stkm tpm, jb_sch13 I W T, s2, s3, s4, s5, s6, s7, s8, s9, s10, s11] _
    refine jb_if_ne (tgt := 48) (pc' := 42) dX11_as_39 (by decide) rfl (fun _ => ?_) (fun z => absurd z (by decide))
    refine jb_aload_n (pc' := 49) dX11_as_48 rfl rfl ?_
    refine gf_X11_42 (pc' := 52) (v := .ref 13) dX11_as_49 rfl rfl rfl ?_
    refine gf_X11_99 (pc' := 55) (v := .ref 15) dX11_as_52 rfl rfl rfl ?_
    refine jb_iconst (pc' := 56) 1 dX11_as_55 (by decide) rfl ?_
    refine jb_aaload (pc' := 57) (i9 := 1) (r := 17) (Or.inl rfl) dX11_as_56 rfl jb_x1 (by decide) rfl rfl ?_
    refine jb_iload_n (pc' := 58) dX11_as_57 rfl rfl ?_
    refine jb_iaload (pc' := 59) (i9 := p) (f := (W 2)) dX11_as_58 rfl (jb_ix_nI (by omega)) (by omega) rfl ?_
    refine jb_top (v := .int ((W 2) p)) (w := .int (nI (V 2 p))) (jb_vI (rv p (by omega)).2.1) ?_
    refine jb_iret dX11_as_59 rfl ?_
    exact ⟨rfl, rfl⟩
  · exact absurd hju hu
set_option maxRecDepth 100000 in
set_option maxHeartbeats 4000000 in
theorem ke_asK {sc : Nat × (Nat → Int32)} {s2 s3 s4 s5 s6 s7 s8 s10 s11 : List va_E} {V : Nat → Nat → Nat} (imm : Int32) (Im rowm stkm tpm : Nat → Int32) (Tm : Nat → Value) (I : Nat → Int32) (W : Nat → Nat → Int32) (T : Nat → Value) (Ia boa era : Nat → Int32) (hr : jr_ V I W) (hk : jv_ok V) (p : Nat) (hp : p < V 0 1) (j : Nat) (hj : j < 7) (hju : ¬ jm_un (V 1 p) j) : jb_C sc yX11_as cX11_as 3 (Option.some .int) 2 0 0 [.ref 0, .int (nI p), .int (nI j)] [jb_main imm Im Tm rowm stkm tpm, jb_sch13 I W T, s2, s3, s4, s5, s6, s7, s8, jb_act Ia boa era, s10, s11] (fun r h9 => r = some (.int (jm_er 5)) ∧ h9 = [jb_main imm Im Tm rowm stkm tpm, jb_sch13 I W T, s2, s3, s4, s5, s6, s7, s8, jb_act Ia boa (jm_ef era 5), s10, s11]) := by
  refine jb_CofJ (ini := false) (by decide +kernel) (fun h => by cases h) (Nat.le_of_ble_eq_true rfl) ?_
  show jb_J sc RX11 cX11_as 3 (Option.some .int) false 2 0 0 0 [some (.ref 0), some (.int (nI p)), some (.int (nI j))] [] [jb_main imm Im Tm rowm stkm tpm, jb_sch13 I W T, s2, s3, s4, s5, s6, s7, s8, jb_act Ia boa era, s10, s11] _
  have hr0 := hr
  have hk0 := hk
  obtain ⟨r0, r2, r3, r4, a0, a1, a2, rv, rs, rd⟩ := hr
  obtain ⟨k0, k1, k2, k3, k4, k5, k6, k7, kv, ks, kd⟩ := hk
  have q1 := kv p hp
  refine jb_aload_n (pc' := 1) dX11_as_0 rfl rfl ?_
  refine jb_iload_n (pc' := 2) dX11_as_1 rfl rfl ?_
  refine jb_callV (pc' := 5) (ci := 11) (q := 0) (As := [.int (nI p)]) (a2 := 0) (b2 := 0) wv_X11_92 rfl dX11_as_2 (c_isNoVoiceG imm Im rowm stkm tpm Tm I W T hr0 hk0 p (by omega)) rfl rfl ⟨by decide, Nat.le_of_eq (Nat.zero_add _), Nat.le_of_eq (Nat.zero_add _)⟩ (Nat.le_of_ble_eq_true rfl) rfl (fun r h9 hq => ?_)
  obtain ⟨rfl, rfl⟩ := hq
  show jb_J _ RX11 cX11_as 3 (Option.some .int) false 2 0 0 5 [some (.ref 0), some (.int (nI p)), some (.int (nI j))] [.int 0] [jb_main imm Im Tm rowm stkm tpm, jb_sch13 I W T, s2, s3, s4, s5, s6, s7, s8, jb_act Ia boa era, s10, s11] _
  refine jb_if_ne (tgt := 18) (pc' := 8) dX11_as_5 (by decide) rfl (fun z => absurd (by decide) z) (fun _ => ?_)
  refine jb_iload_n (pc' := 9) dX11_as_8 rfl rfl ?_
  refine jb_iconst (pc' := 10) 0 dX11_as_9 (by decide) rfl ?_
  refine jb_bipush (pc' := 12) 6 dX11_as_10 (by decide) rfl ?_
  refine jb_callS (pc' := 15) (As := [.int (nI j), .int 0, .int 6]) (a2 := 0) (b2 := 0) wv_X11_74 dX11_as_12 (c_isOutLG j 0 6 (by omega) (by omega) (by omega)) rfl ⟨by decide, Nat.le_of_eq (Nat.zero_add _), Nat.le_of_eq (Nat.zero_add _)⟩ (Nat.le_of_ble_eq_true rfl) rfl (fun r h9 hq => ?_)
  obtain ⟨rfl, rfl⟩ := hq
  show jb_J _ RX11 cX11_as 3 (Option.some .int) false 2 0 0 15 [some (.ref 0), some (.int (nI p)), some (.int (nI j))] [.int 0] [jb_main imm Im Tm rowm stkm tpm, jb_sch13 I W T, s2, s3, s4, s5, s6, s7, s8, jb_act Ia boa era, s10, s11] _
  refine jb_if_eq (tgt := 24) (pc' := 18) dX11_as_15 (by decide) rfl (fun _ => ?_) (fun z => absurd (by decide) z)
  refine jb_aload_n (pc' := 25) dX11_as_24 rfl rfl ?_
  refine gf_X11_42 (pc' := 28) (v := .ref 13) dX11_as_25 rfl rfl rfl ?_
  refine gf_X11_99 (pc' := 31) (v := .ref 15) dX11_as_28 rfl rfl rfl ?_
  refine jb_iconst (pc' := 32) 0 dX11_as_31 (by decide) rfl ?_
  refine jb_aaload (pc' := 33) (i9 := 0) (r := 16) (Or.inl rfl) dX11_as_32 rfl jb_x0 (by decide) rfl rfl ?_
  refine jb_iload_n (pc' := 34) dX11_as_33 rfl rfl ?_
  refine jb_iaload (pc' := 35) (i9 := p) (f := (W 1)) dX11_as_34 rfl (jb_ix_nI (by omega)) (by omega) rfl ?_
  refine jb_top (v := .int ((W 1) p)) (w := .int (nI (V 1 p))) (jb_vI (rv p (by omega)).1) ?_
  refine jb_iload_n (pc' := 36) dX11_as_35 rfl rfl ?_
  refine jb_callS (pc' := 39) (As := [.int (nI (V 1 p)), .int (nI j)]) (a2 := 0) (b2 := 0) wv_X11_109 dX11_as_36 (c_isUnder _ (V 1 p) j (by omega) hj) rfl ⟨by decide, Nat.le_of_eq (Nat.zero_add _), Nat.le_of_eq (Nat.zero_add _)⟩ (Nat.le_of_ble_eq_true rfl) rfl (fun r h9 hq => ?_)
  rcases hq with ⟨rfl, ⟨hu, rfl⟩ | ⟨hu, rfl⟩⟩
  · exact absurd hu hju
  · show jb_J _ RX11 cX11_as 3 (Option.some .int) false 2 0 0 39 [some (.ref 0), some (.int (nI p)), some (.int (nI j))] [.int 0] [jb_main imm Im Tm rowm stkm tpm, jb_sch13 I W T, s2, s3, s4, s5, s6, s7, s8, jb_act Ia boa era, s10, s11] _
    refine jb_if_ne (tgt := 48) (pc' := 42) dX11_as_39 (by decide) rfl (fun z => absurd (by decide) z) (fun _ => ?_)
    refine jb_aload_n (pc' := 43) dX11_as_42 rfl rfl ?_
    refine jb_iconst (pc' := 44) 5 dX11_as_43 (by decide) rfl ?_
    refine jb_callV (pc' := 47) (ci := 11) (q := 0) (As := [.int 5]) (a2 := 0) (b2 := 0) wv_X11_78 rfl dX11_as_44 (c_error imm Im rowm stkm tpm Tm Ia boa era 5 (by decide)) rfl rfl ⟨by decide, Nat.le_of_eq (Nat.zero_add _), Nat.le_of_eq (Nat.zero_add _)⟩ (Nat.le_of_ble_eq_true rfl) rfl (fun r h9 hq => ?_)
    obtain ⟨rfl, rfl⟩ := hq
    show jb_J _ RX11 cX11_as 3 (Option.some .int) false 2 0 0 47 [some (.ref 0), some (.int (nI p)), some (.int (nI j))] [.int (jm_er 5)] [jb_main imm Im Tm rowm stkm tpm, jb_sch13 I W T, s2, s3, s4, s5, s6, s7, s8, jb_act Ia boa (jm_ef era 5), s10, s11] _
    refine jb_iret dX11_as_47 rfl ?_
    exact ⟨rfl, rfl⟩
set_option maxRecDepth 100000 in
set_option maxHeartbeats 4000000 in
theorem ke_as {sc : Nat × (Nat → Int32)} {s2 s3 s4 s5 s6 s7 s8 s10 s11 : List va_E} {V : Nat → Nat → Nat} (imm : Int32) (Im rowm stkm tpm : Nat → Int32) (Tm : Nat → Value) (I : Nat → Int32) (W : Nat → Nat → Int32) (T : Nat → Value) (Ia boa era : Nat → Int32) (hr : jr_ V I W) (hk : jv_ok V) (p j : Int32) (hb : ¬ (jn_b p 0 (V 0 1) ∧ jn_b j 0 7)) : jb_C sc yX11_as cX11_as 3 (Option.some .int) 2 0 0 [.ref 0, .int p, .int j] [jb_main imm Im Tm rowm stkm tpm, jb_sch13 I W T, s2, s3, s4, s5, s6, s7, s8, jb_act Ia boa era, s10, s11] (fun r h9 => r = some (.int (jm_er 1)) ∧ h9 = [jb_main imm Im Tm rowm stkm tpm, jb_sch13 I W T, s2, s3, s4, s5, s6, s7, s8, jb_act Ia boa (jm_ef era 1), s10, s11]) := by
  refine jb_CofJ (ini := false) (by decide +kernel) (fun h => by cases h) (Nat.le_of_ble_eq_true rfl) ?_
  show jb_J sc RX11 cX11_as 3 (Option.some .int) false 2 0 0 0 [some (.ref 0), some (.int p), some (.int j)] [] [jb_main imm Im Tm rowm stkm tpm, jb_sch13 I W T, s2, s3, s4, s5, s6, s7, s8, jb_act Ia boa era, s10, s11] _
  have hr0 := hr
  have hk0 := hk
  obtain ⟨r0, r2, r3, r4, a0, a1, a2, rv, rs, rd⟩ := hr
  obtain ⟨k0, k1, k2, k3, k4, k5, k6, k7, kv, ks, kd⟩ := hk
  refine jb_aload_n (pc' := 1) dX11_as_0 rfl rfl ?_
  refine jb_iload_n (pc' := 2) dX11_as_1 rfl rfl ?_
  refine jb_callV (pc' := 5) (ci := 11) (q := 0) (As := [.int p]) (a2 := 0) (b2 := 0) wv_X11_92 rfl dX11_as_2 (c_isNoVoice imm Im rowm stkm tpm Tm I W T hr0 hk0 p) rfl rfl ⟨by decide, Nat.le_of_eq (Nat.zero_add _), Nat.le_of_eq (Nat.zero_add _)⟩ (Nat.le_of_ble_eq_true rfl) rfl (fun r h9 hq => ?_)
  rcases hq with ⟨rfl, ⟨o1, rfl⟩ | ⟨o1, rfl⟩⟩
  · show jb_J _ RX11 cX11_as 3 (Option.some .int) false 2 0 0 5 [some (.ref 0), some (.int p), some (.int j)] [.int 0] [jb_main imm Im Tm rowm stkm tpm, jb_sch13 I W T, s2, s3, s4, s5, s6, s7, s8, jb_act Ia boa era, s10, s11] _
    refine jb_if_ne (tgt := 18) (pc' := 8) dX11_as_5 (by decide) rfl (fun z => absurd (by decide) z) (fun _ => ?_)
    refine jb_iload_n (pc' := 9) dX11_as_8 rfl rfl ?_
    refine jb_iconst (pc' := 10) 0 dX11_as_9 (by decide) rfl ?_
    refine jb_bipush (pc' := 12) 6 dX11_as_10 (by decide) rfl ?_
    refine jb_callS (pc' := 15) (As := [.int j, .int 0, .int 6]) (a2 := 0) (b2 := 0) wv_X11_74 dX11_as_12 (c_isOutL j 0 6 (by omega) (by omega)) rfl ⟨by decide, Nat.le_of_eq (Nat.zero_add _), Nat.le_of_eq (Nat.zero_add _)⟩ (Nat.le_of_ble_eq_true rfl) rfl (fun r h9 hq => ?_)
    rcases hq with ⟨rfl, ⟨o4, rfl⟩ | ⟨o4, rfl⟩⟩
    · show jb_J _ RX11 cX11_as 3 (Option.some .int) false 2 0 0 15 [some (.ref 0), some (.int p), some (.int j)] [.int 1] [jb_main imm Im Tm rowm stkm tpm, jb_sch13 I W T, s2, s3, s4, s5, s6, s7, s8, jb_act Ia boa era, s10, s11] _
      refine jb_if_eq (tgt := 24) (pc' := 18) dX11_as_15 (by decide) rfl (fun z => absurd z (by decide)) (fun _ => ?_)
      refine jb_aload_n (pc' := 19) dX11_as_18 rfl rfl ?_
      refine jb_iconst (pc' := 20) 1 dX11_as_19 (by decide) rfl ?_
      refine jb_callV (pc' := 23) (ci := 11) (q := 0) (As := [.int 1]) (a2 := 0) (b2 := 0) wv_X11_78 rfl dX11_as_20 (c_error imm Im rowm stkm tpm Tm Ia boa era 1 (by decide)) rfl rfl ⟨by decide, Nat.le_of_eq (Nat.zero_add _), Nat.le_of_eq (Nat.zero_add _)⟩ (Nat.le_of_ble_eq_true rfl) rfl (fun r h9 hq => ?_)
      obtain ⟨rfl, rfl⟩ := hq
      show jb_J _ RX11 cX11_as 3 (Option.some .int) false 2 0 0 23 [some (.ref 0), some (.int p), some (.int j)] [.int (jm_er 1)] [jb_main imm Im Tm rowm stkm tpm, jb_sch13 I W T, s2, s3, s4, s5, s6, s7, s8, jb_act Ia boa (jm_ef era 1), s10, s11] _
      refine jb_iret dX11_as_23 rfl ?_
      exact ⟨rfl, rfl⟩
    · show jb_J _ RX11 cX11_as 3 (Option.some .int) false 2 0 0 15 [some (.ref 0), some (.int p), some (.int j)] [.int 0] [jb_main imm Im Tm rowm stkm tpm, jb_sch13 I W T, s2, s3, s4, s5, s6, s7, s8, jb_act Ia boa era, s10, s11] _
      exact absurd ⟨by assumption, by assumption⟩ hb
  · show jb_J _ RX11 cX11_as 3 (Option.some .int) false 2 0 0 5 [some (.ref 0), some (.int p), some (.int j)] [.int 1] [jb_main imm Im Tm rowm stkm tpm, jb_sch13 I W T, s2, s3, s4, s5, s6, s7, s8, jb_act Ia boa era, s10, s11] _
    refine jb_if_ne (tgt := 18) (pc' := 8) dX11_as_5 (by decide) rfl (fun _ => ?_) (fun z => absurd z (by decide))
    refine jb_aload_n (pc' := 19) dX11_as_18 rfl rfl ?_
    refine jb_iconst (pc' := 20) 1 dX11_as_19 (by decide) rfl ?_
    refine jb_callV (pc' := 23) (ci := 11) (q := 0) (As := [.int 1]) (a2 := 0) (b2 := 0) wv_X11_78 rfl dX11_as_20 (c_error imm Im rowm stkm tpm Tm Ia boa era 1 (by decide)) rfl rfl ⟨by decide, Nat.le_of_eq (Nat.zero_add _), Nat.le_of_eq (Nat.zero_add _)⟩ (Nat.le_of_ble_eq_true rfl) rfl (fun r h9 hq => ?_)
    obtain ⟨rfl, rfl⟩ := hq
    show jb_J _ RX11 cX11_as 3 (Option.some .int) false 2 0 0 23 [some (.ref 0), some (.int p), some (.int j)] [.int (jm_er 1)] [jb_main imm Im Tm rowm stkm tpm, jb_sch13 I W T, s2, s3, s4, s5, s6, s7, s8, jb_act Ia boa (jm_ef era 1), s10, s11] _
    refine jb_iret dX11_as_23 rfl ?_
    exact ⟨rfl, rfl⟩
set_option maxRecDepth 100000 in
set_option maxHeartbeats 4000000 in
theorem kx_shout {sc : Nat × (Nat → Int32)} {s2 s3 s4 s5 s6 s7 s8 s9 s10 s11 : List va_E} {V : Nat → Nat → Nat} (imm : Int32) (Im rowm stkm tpm : Nat → Int32) (Tm : Nat → Value) (I : Nat → Int32) (W : Nat → Nat → Int32) (T : Nat → Value) (hr : jr_ V I W) (hk : jv_ok V) (p : Nat) (hp : p < V 0 1) (w : Nat) (hw : w < 40) (h1 : V 0 2 < 40) : jb_C sc yX11_shout cX11_shout 3 (Option.some .int) 2 0 0 [.ref 0, .int (nI p), .int (nI w)] [jb_main imm Im Tm rowm stkm tpm, jb_sch13 I W T, s2, s3, s4, s5, s6, s7, s8, s9, s10, s11] (fun r h9 => r = some (.int (nI (V 0 2))) ∧ ∃ I9 W9, jr_ (jm_sh V p w 0) I9 W9 ∧ I9 1 = I 1 ∧ jr_f I W I9 W9 ∧ h9 = [jb_main imm Im Tm rowm stkm tpm, jb_sch13 I9 W9 T, s2, s3, s4, s5, s6, s7, s8, s9, s10, s11]) := by
  refine jb_CofJ (ini := false) (by decide +kernel) (fun h => by cases h) (Nat.le_of_ble_eq_true rfl) ?_
  show jb_J sc RX11 cX11_shout 3 (Option.some .int) false 2 0 0 0 [some (.ref 0), some (.int (nI p)), some (.int (nI w))] [] [jb_main imm Im Tm rowm stkm tpm, jb_sch13 I W T, s2, s3, s4, s5, s6, s7, s8, s9, s10, s11] _
  have hr0 := hr
  have hk0 := hk
  obtain ⟨r0, r2, r3, r4, a0, a1, a2, rv, rs, rd⟩ := hr
  obtain ⟨k0, k1, k2, k3, k4, k5, k6, k7, kv, ks, kd⟩ := hk
  refine jb_aload_n (pc' := 1) dX11_shout_0 rfl rfl ?_
  refine jb_iload_n (pc' := 2) dX11_shout_1 rfl rfl ?_
  refine jb_callV (pc' := 5) (ci := 11) (q := 0) (As := [.int (nI p)]) (a2 := 0) (b2 := 0) wv_X11_92 rfl dX11_shout_2 (c_isNoVoiceG imm Im rowm stkm tpm Tm I W T hr0 hk0 p (by omega)) rfl rfl ⟨by decide, Nat.le_of_eq (Nat.zero_add _), Nat.le_of_eq (Nat.zero_add _)⟩ (Nat.le_of_ble_eq_true rfl) rfl (fun r h9 hq => ?_)
  obtain ⟨rfl, rfl⟩ := hq
  show jb_J _ RX11 cX11_shout 3 (Option.some .int) false 2 0 0 5 [some (.ref 0), some (.int (nI p)), some (.int (nI w))] [.int 0] [jb_main imm Im Tm rowm stkm tpm, jb_sch13 I W T, s2, s3, s4, s5, s6, s7, s8, s9, s10, s11] _
  refine jb_if_ne (tgt := 18) (pc' := 8) dX11_shout_5 (by decide) rfl (fun z => absurd (by decide) z) (fun _ => ?_)
  refine jb_iload_n (pc' := 9) dX11_shout_8 rfl rfl ?_
  refine jb_iconst (pc' := 10) 0 dX11_shout_9 (by decide) rfl ?_
  refine jb_bipush (pc' := 12) 39 dX11_shout_10 (by decide) rfl ?_
  refine jb_callS (pc' := 15) (As := [.int (nI w), .int 0, .int 39]) (a2 := 0) (b2 := 0) wv_X11_74 dX11_shout_12 (c_isOutLG w 0 39 (by omega) (by omega) (by omega)) rfl ⟨by decide, Nat.le_of_eq (Nat.zero_add _), Nat.le_of_eq (Nat.zero_add _)⟩ (Nat.le_of_ble_eq_true rfl) rfl (fun r h9 hq => ?_)
  obtain ⟨rfl, rfl⟩ := hq
  show jb_J _ RX11 cX11_shout 3 (Option.some .int) false 2 0 0 15 [some (.ref 0), some (.int (nI p)), some (.int (nI w))] [.int 0] [jb_main imm Im Tm rowm stkm tpm, jb_sch13 I W T, s2, s3, s4, s5, s6, s7, s8, s9, s10, s11] _
  refine jb_if_eq (tgt := 24) (pc' := 18) dX11_shout_15 (by decide) rfl (fun _ => ?_) (fun z => absurd (by decide) z)
  refine jb_aload_n (pc' := 25) dX11_shout_24 rfl rfl ?_
  refine gf_X11_42 (pc' := 28) (v := .ref 13) dX11_shout_25 rfl rfl rfl ?_
  refine gf_X11_113 (pc' := 31) (v := .int (I 3)) dX11_shout_28 rfl rfl rfl ?_
  refine jb_top (v := .int (I 3)) (w := .int (nI (V 0 2))) (jb_vI r3) ?_
  refine jb_bipush (pc' := 33) 40 dX11_shout_31 (by decide) rfl ?_
  refine jb_icmp_lt (tgt := 42) (pc' := 36) dX11_shout_33 (by decide) rfl (fun _ => ?_) (fun z => absurd (nI_lt (a := V 0 2) (b := 40) (by omega) (by omega)) z)
  refine jb_aload_n (pc' := 43) dX11_shout_42 rfl rfl ?_
  refine gf_X11_42 (pc' := 46) (v := .ref 13) dX11_shout_43 rfl rfl rfl ?_
  refine jb_iload_n (pc' := 47) dX11_shout_46 rfl rfl ?_
  refine jb_iload_n (pc' := 48) dX11_shout_47 rfl rfl ?_
  refine jb_iconst (pc' := 49) (-1) dX11_shout_48 (by decide) rfl ?_
  refine jb_callV (pc' := 52) (ci := 9) (q := 13) (As := [.int (nI p), .int (nI w), .int (-1)]) (a2 := 0) (b2 := 0) wv_X11_116 rfl dX11_shout_49 (c_addShout_13 I W T hr0 hk0 p w 0 hp hw (by omega)) rfl rfl ⟨by decide, Nat.le_of_eq (Nat.zero_add _), Nat.le_of_eq (Nat.zero_add _)⟩ (Nat.le_of_ble_eq_true rfl) rfl (fun r h9 hq => ?_)
  obtain ⟨rfl, I9, W9, hr9, hz9, hf9, rfl⟩ := hq
  show jb_J _ RX11 cX11_shout 3 (Option.some .int) false 2 0 0 52 [some (.ref 0), some (.int (nI p)), some (.int (nI w))] [] [jb_main imm Im Tm rowm stkm tpm, jb_sch13 I9 W9 T, s2, s3, s4, s5, s6, s7, s8, s9, s10, s11] _
  refine jb_aload_n (pc' := 53) dX11_shout_52 rfl rfl ?_
  refine gf_X11_42 (pc' := 56) (v := .ref 13) dX11_shout_53 rfl rfl rfl ?_
  refine gf_X11_113 (pc' := 59) (v := .int (I9 3)) dX11_shout_56 rfl rfl rfl ?_
  refine jb_top (v := .int (I9 3)) (w := .int (nI (V 0 2 + 1))) (jb_vI (by rw [hr9.2.2.1, show jm_as V p w 0 = jm_sh V p w 0 from if_pos h1]; rfl)) ?_
  refine jb_iconst (pc' := 60) 1 dX11_shout_59 (by decide) rfl ?_
  refine jb_isub (pc' := 61) dX11_shout_60 rfl ?_
  refine jb_top (v := .int ((nI (V 0 2 + 1)) - 1)) (w := .int (nI (V 0 2))) (jb_vI (nI_pred _)) ?_
  refine jb_iret dX11_shout_61 rfl ?_
  rw [show jm_as V p w 0 = jm_sh V p w 0 from if_pos h1] at hr9
  exact ⟨rfl, I9, W9, hr9, hz9, hf9, rfl⟩
set_option maxRecDepth 100000 in
set_option maxHeartbeats 4000000 in
theorem ke_shout {sc : Nat × (Nat → Int32)} {s2 s3 s4 s5 s6 s7 s8 s10 s11 : List va_E} {V : Nat → Nat → Nat} (imm : Int32) (Im rowm stkm tpm : Nat → Int32) (Tm : Nat → Value) (I : Nat → Int32) (W : Nat → Nat → Int32) (T : Nat → Value) (Ia boa era : Nat → Int32) (hr : jr_ V I W) (hk : jv_ok V) (p w : Int32) (hb : ¬ (jn_b p 0 (V 0 1) ∧ jn_b w 0 40)) : jb_C sc yX11_shout cX11_shout 3 (Option.some .int) 2 0 0 [.ref 0, .int p, .int w] [jb_main imm Im Tm rowm stkm tpm, jb_sch13 I W T, s2, s3, s4, s5, s6, s7, s8, jb_act Ia boa era, s10, s11] (fun r h9 => r = some (.int (jm_er 1)) ∧ h9 = [jb_main imm Im Tm rowm stkm tpm, jb_sch13 I W T, s2, s3, s4, s5, s6, s7, s8, jb_act Ia boa (jm_ef era 1), s10, s11]) := by
  refine jb_CofJ (ini := false) (by decide +kernel) (fun h => by cases h) (Nat.le_of_ble_eq_true rfl) ?_
  show jb_J sc RX11 cX11_shout 3 (Option.some .int) false 2 0 0 0 [some (.ref 0), some (.int p), some (.int w)] [] [jb_main imm Im Tm rowm stkm tpm, jb_sch13 I W T, s2, s3, s4, s5, s6, s7, s8, jb_act Ia boa era, s10, s11] _
  have hr0 := hr
  have hk0 := hk
  obtain ⟨r0, r2, r3, r4, a0, a1, a2, rv, rs, rd⟩ := hr
  obtain ⟨k0, k1, k2, k3, k4, k5, k6, k7, kv, ks, kd⟩ := hk
  refine jb_aload_n (pc' := 1) dX11_shout_0 rfl rfl ?_
  refine jb_iload_n (pc' := 2) dX11_shout_1 rfl rfl ?_
  refine jb_callV (pc' := 5) (ci := 11) (q := 0) (As := [.int p]) (a2 := 0) (b2 := 0) wv_X11_92 rfl dX11_shout_2 (c_isNoVoice imm Im rowm stkm tpm Tm I W T hr0 hk0 p) rfl rfl ⟨by decide, Nat.le_of_eq (Nat.zero_add _), Nat.le_of_eq (Nat.zero_add _)⟩ (Nat.le_of_ble_eq_true rfl) rfl (fun r h9 hq => ?_)
  rcases hq with ⟨rfl, ⟨o1, rfl⟩ | ⟨o1, rfl⟩⟩
  · show jb_J _ RX11 cX11_shout 3 (Option.some .int) false 2 0 0 5 [some (.ref 0), some (.int p), some (.int w)] [.int 0] [jb_main imm Im Tm rowm stkm tpm, jb_sch13 I W T, s2, s3, s4, s5, s6, s7, s8, jb_act Ia boa era, s10, s11] _
    refine jb_if_ne (tgt := 18) (pc' := 8) dX11_shout_5 (by decide) rfl (fun z => absurd (by decide) z) (fun _ => ?_)
    refine jb_iload_n (pc' := 9) dX11_shout_8 rfl rfl ?_
    refine jb_iconst (pc' := 10) 0 dX11_shout_9 (by decide) rfl ?_
    refine jb_bipush (pc' := 12) 39 dX11_shout_10 (by decide) rfl ?_
    refine jb_callS (pc' := 15) (As := [.int w, .int 0, .int 39]) (a2 := 0) (b2 := 0) wv_X11_74 dX11_shout_12 (c_isOutL w 0 39 (by omega) (by omega)) rfl ⟨by decide, Nat.le_of_eq (Nat.zero_add _), Nat.le_of_eq (Nat.zero_add _)⟩ (Nat.le_of_ble_eq_true rfl) rfl (fun r h9 hq => ?_)
    rcases hq with ⟨rfl, ⟨o4, rfl⟩ | ⟨o4, rfl⟩⟩
    · show jb_J _ RX11 cX11_shout 3 (Option.some .int) false 2 0 0 15 [some (.ref 0), some (.int p), some (.int w)] [.int 1] [jb_main imm Im Tm rowm stkm tpm, jb_sch13 I W T, s2, s3, s4, s5, s6, s7, s8, jb_act Ia boa era, s10, s11] _
      refine jb_if_eq (tgt := 24) (pc' := 18) dX11_shout_15 (by decide) rfl (fun z => absurd z (by decide)) (fun _ => ?_)
      refine jb_aload_n (pc' := 19) dX11_shout_18 rfl rfl ?_
      refine jb_iconst (pc' := 20) 1 dX11_shout_19 (by decide) rfl ?_
      refine jb_callV (pc' := 23) (ci := 11) (q := 0) (As := [.int 1]) (a2 := 0) (b2 := 0) wv_X11_78 rfl dX11_shout_20 (c_error imm Im rowm stkm tpm Tm Ia boa era 1 (by decide)) rfl rfl ⟨by decide, Nat.le_of_eq (Nat.zero_add _), Nat.le_of_eq (Nat.zero_add _)⟩ (Nat.le_of_ble_eq_true rfl) rfl (fun r h9 hq => ?_)
      obtain ⟨rfl, rfl⟩ := hq
      show jb_J _ RX11 cX11_shout 3 (Option.some .int) false 2 0 0 23 [some (.ref 0), some (.int p), some (.int w)] [.int (jm_er 1)] [jb_main imm Im Tm rowm stkm tpm, jb_sch13 I W T, s2, s3, s4, s5, s6, s7, s8, jb_act Ia boa (jm_ef era 1), s10, s11] _
      refine jb_iret dX11_shout_23 rfl ?_
      exact ⟨rfl, rfl⟩
    · show jb_J _ RX11 cX11_shout 3 (Option.some .int) false 2 0 0 15 [some (.ref 0), some (.int p), some (.int w)] [.int 0] [jb_main imm Im Tm rowm stkm tpm, jb_sch13 I W T, s2, s3, s4, s5, s6, s7, s8, jb_act Ia boa era, s10, s11] _
      refine jb_if_eq (tgt := 24) (pc' := 18) dX11_shout_15 (by decide) rfl (fun _ => ?_) (fun z => absurd (by decide) z)
      refine jb_aload_n (pc' := 25) dX11_shout_24 rfl rfl ?_
      refine gf_X11_42 (pc' := 28) (v := .ref 13) dX11_shout_25 rfl rfl rfl ?_
      refine gf_X11_113 (pc' := 31) (v := .int (I 3)) dX11_shout_28 rfl rfl rfl ?_
      refine jb_top (v := .int (I 3)) (w := .int (nI (V 0 2))) (jb_vI r3) ?_
      refine jb_bipush (pc' := 33) 40 dX11_shout_31 (by decide) rfl ?_
      refine jb_icmp_lt (tgt := 42) (pc' := 36) dX11_shout_33 (by decide) rfl (fun c8 => ?_) (fun c8 => ?_)
      · have c8 : (V 0 2) < 40 := (nI_ltI (a := (V 0 2)) (b := 40) (by omega) (by omega)).mp c8
        exact absurd ⟨by assumption, by assumption⟩ hb
      · have c8 : ¬ (V 0 2) < 40 := fun z9 => c8 ((nI_ltI (a := (V 0 2)) (b := 40) (by omega) (by omega)).mpr z9)
        refine jb_aload_n (pc' := 37) dX11_shout_36 rfl rfl ?_
        refine jb_iconst (pc' := 38) 4 dX11_shout_37 (by decide) rfl ?_
        refine jb_callV (pc' := 41) (ci := 11) (q := 0) (As := [.int 4]) (a2 := 0) (b2 := 0) wv_X11_78 rfl dX11_shout_38 (c_error imm Im rowm stkm tpm Tm Ia boa era 4 (by decide)) rfl rfl ⟨by decide, Nat.le_of_eq (Nat.zero_add _), Nat.le_of_eq (Nat.zero_add _)⟩ (Nat.le_of_ble_eq_true rfl) rfl (fun r h9 hq => ?_)
        obtain ⟨rfl, rfl⟩ := hq
        show jb_J _ RX11 cX11_shout 3 (Option.some .int) false 2 0 0 41 [some (.ref 0), some (.int p), some (.int w)] [.int (jm_er 4)] [jb_main imm Im Tm rowm stkm tpm, jb_sch13 I W T, s2, s3, s4, s5, s6, s7, s8, jb_act Ia boa (jm_ef era 4), s10, s11] _
        refine jb_iret dX11_shout_41 rfl ?_
        exact absurd ⟨by assumption, by assumption⟩ hb
  · show jb_J _ RX11 cX11_shout 3 (Option.some .int) false 2 0 0 5 [some (.ref 0), some (.int p), some (.int w)] [.int 1] [jb_main imm Im Tm rowm stkm tpm, jb_sch13 I W T, s2, s3, s4, s5, s6, s7, s8, jb_act Ia boa era, s10, s11] _
    refine jb_if_ne (tgt := 18) (pc' := 8) dX11_shout_5 (by decide) rfl (fun _ => ?_) (fun z => absurd z (by decide))
    refine jb_aload_n (pc' := 19) dX11_shout_18 rfl rfl ?_
    refine jb_iconst (pc' := 20) 1 dX11_shout_19 (by decide) rfl ?_
    refine jb_callV (pc' := 23) (ci := 11) (q := 0) (As := [.int 1]) (a2 := 0) (b2 := 0) wv_X11_78 rfl dX11_shout_20 (c_error imm Im rowm stkm tpm Tm Ia boa era 1 (by decide)) rfl rfl ⟨by decide, Nat.le_of_eq (Nat.zero_add _), Nat.le_of_eq (Nat.zero_add _)⟩ (Nat.le_of_ble_eq_true rfl) rfl (fun r h9 hq => ?_)
    obtain ⟨rfl, rfl⟩ := hq
    show jb_J _ RX11 cX11_shout 3 (Option.some .int) false 2 0 0 23 [some (.ref 0), some (.int p), some (.int w)] [.int (jm_er 1)] [jb_main imm Im Tm rowm stkm tpm, jb_sch13 I W T, s2, s3, s4, s5, s6, s7, s8, jb_act Ia boa (jm_ef era 1), s10, s11] _
    refine jb_iret dX11_shout_23 rfl ?_
    exact ⟨rfl, rfl⟩
set_option maxRecDepth 100000 in
set_option maxHeartbeats 4000000 in
theorem ke_shoutF {sc : Nat × (Nat → Int32)} {s2 s3 s4 s5 s6 s7 s8 s10 s11 : List va_E} {V : Nat → Nat → Nat} (imm : Int32) (Im rowm stkm tpm : Nat → Int32) (Tm : Nat → Value) (I : Nat → Int32) (W : Nat → Nat → Int32) (T : Nat → Value) (Ia boa era : Nat → Int32) (hr : jr_ V I W) (hk : jv_ok V) (p : Nat) (hp : p < V 0 1) (w : Nat) (hw : w < 40) (h1 : V 0 2 = 40) : jb_C sc yX11_shout cX11_shout 3 (Option.some .int) 2 0 0 [.ref 0, .int (nI p), .int (nI w)] [jb_main imm Im Tm rowm stkm tpm, jb_sch13 I W T, s2, s3, s4, s5, s6, s7, s8, jb_act Ia boa era, s10, s11] (fun r h9 => r = some (.int (jm_er 4)) ∧ h9 = [jb_main imm Im Tm rowm stkm tpm, jb_sch13 I W T, s2, s3, s4, s5, s6, s7, s8, jb_act Ia boa (jm_ef era 4), s10, s11]) := by
  refine jb_CofJ (ini := false) (by decide +kernel) (fun h => by cases h) (Nat.le_of_ble_eq_true rfl) ?_
  show jb_J sc RX11 cX11_shout 3 (Option.some .int) false 2 0 0 0 [some (.ref 0), some (.int (nI p)), some (.int (nI w))] [] [jb_main imm Im Tm rowm stkm tpm, jb_sch13 I W T, s2, s3, s4, s5, s6, s7, s8, jb_act Ia boa era, s10, s11] _
  have hr0 := hr
  have hk0 := hk
  obtain ⟨r0, r2, r3, r4, a0, a1, a2, rv, rs, rd⟩ := hr
  obtain ⟨k0, k1, k2, k3, k4, k5, k6, k7, kv, ks, kd⟩ := hk
  refine jb_aload_n (pc' := 1) dX11_shout_0 rfl rfl ?_
  refine jb_iload_n (pc' := 2) dX11_shout_1 rfl rfl ?_
  refine jb_callV (pc' := 5) (ci := 11) (q := 0) (As := [.int (nI p)]) (a2 := 0) (b2 := 0) wv_X11_92 rfl dX11_shout_2 (c_isNoVoiceG imm Im rowm stkm tpm Tm I W T hr0 hk0 p (by omega)) rfl rfl ⟨by decide, Nat.le_of_eq (Nat.zero_add _), Nat.le_of_eq (Nat.zero_add _)⟩ (Nat.le_of_ble_eq_true rfl) rfl (fun r h9 hq => ?_)
  obtain ⟨rfl, rfl⟩ := hq
  show jb_J _ RX11 cX11_shout 3 (Option.some .int) false 2 0 0 5 [some (.ref 0), some (.int (nI p)), some (.int (nI w))] [.int 0] [jb_main imm Im Tm rowm stkm tpm, jb_sch13 I W T, s2, s3, s4, s5, s6, s7, s8, jb_act Ia boa era, s10, s11] _
  refine jb_if_ne (tgt := 18) (pc' := 8) dX11_shout_5 (by decide) rfl (fun z => absurd (by decide) z) (fun _ => ?_)
  refine jb_iload_n (pc' := 9) dX11_shout_8 rfl rfl ?_
  refine jb_iconst (pc' := 10) 0 dX11_shout_9 (by decide) rfl ?_
  refine jb_bipush (pc' := 12) 39 dX11_shout_10 (by decide) rfl ?_
  refine jb_callS (pc' := 15) (As := [.int (nI w), .int 0, .int 39]) (a2 := 0) (b2 := 0) wv_X11_74 dX11_shout_12 (c_isOutLG w 0 39 (by omega) (by omega) (by omega)) rfl ⟨by decide, Nat.le_of_eq (Nat.zero_add _), Nat.le_of_eq (Nat.zero_add _)⟩ (Nat.le_of_ble_eq_true rfl) rfl (fun r h9 hq => ?_)
  obtain ⟨rfl, rfl⟩ := hq
  show jb_J _ RX11 cX11_shout 3 (Option.some .int) false 2 0 0 15 [some (.ref 0), some (.int (nI p)), some (.int (nI w))] [.int 0] [jb_main imm Im Tm rowm stkm tpm, jb_sch13 I W T, s2, s3, s4, s5, s6, s7, s8, jb_act Ia boa era, s10, s11] _
  refine jb_if_eq (tgt := 24) (pc' := 18) dX11_shout_15 (by decide) rfl (fun _ => ?_) (fun z => absurd (by decide) z)
  refine jb_aload_n (pc' := 25) dX11_shout_24 rfl rfl ?_
  refine gf_X11_42 (pc' := 28) (v := .ref 13) dX11_shout_25 rfl rfl rfl ?_
  refine gf_X11_113 (pc' := 31) (v := .int (I 3)) dX11_shout_28 rfl rfl rfl ?_
  refine jb_top (v := .int (I 3)) (w := .int (nI (V 0 2))) (jb_vI r3) ?_
  refine jb_bipush (pc' := 33) 40 dX11_shout_31 (by decide) rfl ?_
  refine jb_icmp_lt (tgt := 42) (pc' := 36) dX11_shout_33 (by decide) rfl (fun z => absurd z (nI_nlt (a := V 0 2) (b := 40) (by omega) (by omega))) (fun _ => ?_)
  refine jb_aload_n (pc' := 37) dX11_shout_36 rfl rfl ?_
  refine jb_iconst (pc' := 38) 4 dX11_shout_37 (by decide) rfl ?_
  refine jb_callV (pc' := 41) (ci := 11) (q := 0) (As := [.int 4]) (a2 := 0) (b2 := 0) wv_X11_78 rfl dX11_shout_38 (c_error imm Im rowm stkm tpm Tm Ia boa era 4 (by decide)) rfl rfl ⟨by decide, Nat.le_of_eq (Nat.zero_add _), Nat.le_of_eq (Nat.zero_add _)⟩ (Nat.le_of_ble_eq_true rfl) rfl (fun r h9 hq => ?_)
  obtain ⟨rfl, rfl⟩ := hq
  show jb_J _ RX11 cX11_shout 3 (Option.some .int) false 2 0 0 41 [some (.ref 0), some (.int (nI p)), some (.int (nI w))] [.int (jm_er 4)] [jb_main imm Im Tm rowm stkm tpm, jb_sch13 I W T, s2, s3, s4, s5, s6, s7, s8, jb_act Ia boa (jm_ef era 4), s10, s11] _
  refine jb_iret dX11_shout_41 rfl ?_
  exact ⟨rfl, rfl⟩
set_option maxRecDepth 100000 in
set_option maxHeartbeats 4000000 in
theorem kx_ofShout0 {sc : Nat × (Nat → Int32)} {s2 s3 s4 s5 s6 s7 s8 s9 s10 s11 : List va_E} {V : Nat → Nat → Nat} (imm : Int32) (Im rowm stkm tpm : Nat → Int32) (Tm : Nat → Value) (I : Nat → Int32) (W : Nat → Nat → Int32) (T : Nat → Value) (hr : jr_ V I W) (hk : jv_ok V) (s : Nat) (hs : s < V 0 2) : jb_C sc yX11_ofShout cX11_ofShout 3 (Option.some .int) 1 0 0 [.ref 0, .int (nI s), .int 0] [jb_main imm Im Tm rowm stkm tpm, jb_sch13 I W T, s2, s3, s4, s5, s6, s7, s8, s9, s10, s11] (fun r h9 => r = some (.int (nI (V 4 s))) ∧ h9 = [jb_main imm Im Tm rowm stkm tpm, jb_sch13 I W T, s2, s3, s4, s5, s6, s7, s8, s9, s10, s11]) := by
  refine jb_CofJ (ini := false) (by decide +kernel) (fun h => by cases h) (Nat.le_of_ble_eq_true rfl) ?_
  show jb_J sc RX11 cX11_ofShout 3 (Option.some .int) false 1 0 0 0 [some (.ref 0), some (.int (nI s)), some (.int 0)] [] [jb_main imm Im Tm rowm stkm tpm, jb_sch13 I W T, s2, s3, s4, s5, s6, s7, s8, s9, s10, s11] _
  have hr0 := hr
  have hk0 := hk
  obtain ⟨r0, r2, r3, r4, a0, a1, a2, rv, rs, rd⟩ := hr
  obtain ⟨k0, k1, k2, k3, k4, k5, k6, k7, kv, ks, kd⟩ := hk
  refine jb_iload_n (pc' := 1) dX11_ofShout_0 rfl rfl ?_
  refine jb_iconst (pc' := 2) 0 dX11_ofShout_1 (by decide) rfl ?_
  refine jb_aload_n (pc' := 3) dX11_ofShout_2 rfl rfl ?_
  refine gf_X11_42 (pc' := 6) (v := .ref 13) dX11_ofShout_3 rfl rfl rfl ?_
  refine gf_X11_113 (pc' := 9) (v := .int (I 3)) dX11_ofShout_6 rfl rfl rfl ?_
  refine jb_top (v := .int (I 3)) (w := .int (nI (V 0 2))) (jb_vI r3) ?_
  refine jb_iconst (pc' := 10) 1 dX11_ofShout_9 (by decide) rfl ?_
  refine jb_isub (pc' := 11) dX11_ofShout_10 rfl ?_
  refine jb_callS (pc' := 14) (As := [.int (nI s), .int 0, .int ((nI (V 0 2)) - 1)]) (a2 := 0) (b2 := 0) wv_X11_74 dX11_ofShout_11 (c_isOutNG s (V 0 2) (by omega) (by omega)) rfl ⟨by decide, Nat.le_of_eq (Nat.zero_add _), Nat.le_of_eq (Nat.zero_add _)⟩ (Nat.le_of_ble_eq_true rfl) rfl (fun r h9 hq => ?_)
  obtain ⟨rfl, rfl⟩ := hq
  show jb_J _ RX11 cX11_ofShout 3 (Option.some .int) false 1 0 0 14 [some (.ref 0), some (.int (nI s)), some (.int 0)] [.int 0] [jb_main imm Im Tm rowm stkm tpm, jb_sch13 I W T, s2, s3, s4, s5, s6, s7, s8, s9, s10, s11] _
  refine jb_if_ne (tgt := 26) (pc' := 17) dX11_ofShout_14 (by decide) rfl (fun z => absurd (by decide) z) (fun _ => ?_)
  refine jb_iload_n (pc' := 18) dX11_ofShout_17 rfl rfl ?_
  refine jb_iconst (pc' := 19) 0 dX11_ofShout_18 (by decide) rfl ?_
  refine jb_iconst (pc' := 20) 5 dX11_ofShout_19 (by decide) rfl ?_
  refine jb_callS (pc' := 23) (As := [.int 0, .int 0, .int 5]) (a2 := 0) (b2 := 0) wv_X11_74 dX11_ofShout_20 (c_isOutLG 0 0 5 (by omega) (by omega) (by omega)) rfl ⟨by decide, Nat.le_of_eq (Nat.zero_add _), Nat.le_of_eq (Nat.zero_add _)⟩ (Nat.le_of_ble_eq_true rfl) rfl (fun r h9 hq => ?_)
  obtain ⟨rfl, rfl⟩ := hq
  show jb_J _ RX11 cX11_ofShout 3 (Option.some .int) false 1 0 0 23 [some (.ref 0), some (.int (nI s)), some (.int 0)] [.int 0] [jb_main imm Im Tm rowm stkm tpm, jb_sch13 I W T, s2, s3, s4, s5, s6, s7, s8, s9, s10, s11] _
  refine jb_if_eq (tgt := 32) (pc' := 26) dX11_ofShout_23 (by decide) rfl (fun _ => ?_) (fun z => absurd (by decide) z)
  refine jb_aload_n (pc' := 33) dX11_ofShout_32 rfl rfl ?_
  refine gf_X11_42 (pc' := 36) (v := .ref 13) dX11_ofShout_33 rfl rfl rfl ?_
  refine gf_X11_120 (pc' := 39) (v := .ref 19) dX11_ofShout_36 rfl rfl rfl ?_
  refine jb_iload_n (pc' := 40) dX11_ofShout_39 rfl rfl ?_
  refine jb_aaload (pc' := 41) (i9 := 0) (r := 20) (Or.inl rfl) dX11_ofShout_40 rfl jb_x0 (by decide) rfl rfl ?_
  refine jb_iload_n (pc' := 42) dX11_ofShout_41 rfl rfl ?_
  refine jb_iaload (pc' := 43) (i9 := s) (f := (W 4)) dX11_ofShout_42 rfl (jb_ix_nI (by omega)) (by omega) rfl ?_
  refine jb_top (v := .int ((W 4) s)) (w := .int (nI (V 4 s))) (jb_vI (rs s (by omega)).1) ?_
  refine jb_iret dX11_ofShout_43 rfl ?_
  exact ⟨rfl, rfl⟩
set_option maxRecDepth 100000 in
set_option maxHeartbeats 4000000 in
theorem kx_ofShout1 {sc : Nat × (Nat → Int32)} {s2 s3 s4 s5 s6 s7 s8 s9 s10 s11 : List va_E} {V : Nat → Nat → Nat} (imm : Int32) (Im rowm stkm tpm : Nat → Int32) (Tm : Nat → Value) (I : Nat → Int32) (W : Nat → Nat → Int32) (T : Nat → Value) (hr : jr_ V I W) (hk : jv_ok V) (s : Nat) (hs : s < V 0 2) : jb_C sc yX11_ofShout cX11_ofShout 3 (Option.some .int) 1 0 0 [.ref 0, .int (nI s), .int 1] [jb_main imm Im Tm rowm stkm tpm, jb_sch13 I W T, s2, s3, s4, s5, s6, s7, s8, s9, s10, s11] (fun r h9 => r = some (.int (nI (V 5 s))) ∧ h9 = [jb_main imm Im Tm rowm stkm tpm, jb_sch13 I W T, s2, s3, s4, s5, s6, s7, s8, s9, s10, s11]) := by
  refine jb_CofJ (ini := false) (by decide +kernel) (fun h => by cases h) (Nat.le_of_ble_eq_true rfl) ?_
  show jb_J sc RX11 cX11_ofShout 3 (Option.some .int) false 1 0 0 0 [some (.ref 0), some (.int (nI s)), some (.int 1)] [] [jb_main imm Im Tm rowm stkm tpm, jb_sch13 I W T, s2, s3, s4, s5, s6, s7, s8, s9, s10, s11] _
  have hr0 := hr
  have hk0 := hk
  obtain ⟨r0, r2, r3, r4, a0, a1, a2, rv, rs, rd⟩ := hr
  obtain ⟨k0, k1, k2, k3, k4, k5, k6, k7, kv, ks, kd⟩ := hk
  refine jb_iload_n (pc' := 1) dX11_ofShout_0 rfl rfl ?_
  refine jb_iconst (pc' := 2) 0 dX11_ofShout_1 (by decide) rfl ?_
  refine jb_aload_n (pc' := 3) dX11_ofShout_2 rfl rfl ?_
  refine gf_X11_42 (pc' := 6) (v := .ref 13) dX11_ofShout_3 rfl rfl rfl ?_
  refine gf_X11_113 (pc' := 9) (v := .int (I 3)) dX11_ofShout_6 rfl rfl rfl ?_
  refine jb_top (v := .int (I 3)) (w := .int (nI (V 0 2))) (jb_vI r3) ?_
  refine jb_iconst (pc' := 10) 1 dX11_ofShout_9 (by decide) rfl ?_
  refine jb_isub (pc' := 11) dX11_ofShout_10 rfl ?_
  refine jb_callS (pc' := 14) (As := [.int (nI s), .int 0, .int ((nI (V 0 2)) - 1)]) (a2 := 0) (b2 := 0) wv_X11_74 dX11_ofShout_11 (c_isOutNG s (V 0 2) (by omega) (by omega)) rfl ⟨by decide, Nat.le_of_eq (Nat.zero_add _), Nat.le_of_eq (Nat.zero_add _)⟩ (Nat.le_of_ble_eq_true rfl) rfl (fun r h9 hq => ?_)
  obtain ⟨rfl, rfl⟩ := hq
  show jb_J _ RX11 cX11_ofShout 3 (Option.some .int) false 1 0 0 14 [some (.ref 0), some (.int (nI s)), some (.int 1)] [.int 0] [jb_main imm Im Tm rowm stkm tpm, jb_sch13 I W T, s2, s3, s4, s5, s6, s7, s8, s9, s10, s11] _
  refine jb_if_ne (tgt := 26) (pc' := 17) dX11_ofShout_14 (by decide) rfl (fun z => absurd (by decide) z) (fun _ => ?_)
  refine jb_iload_n (pc' := 18) dX11_ofShout_17 rfl rfl ?_
  refine jb_iconst (pc' := 19) 0 dX11_ofShout_18 (by decide) rfl ?_
  refine jb_iconst (pc' := 20) 5 dX11_ofShout_19 (by decide) rfl ?_
  refine jb_callS (pc' := 23) (As := [.int 1, .int 0, .int 5]) (a2 := 0) (b2 := 0) wv_X11_74 dX11_ofShout_20 (c_isOutLG 1 0 5 (by omega) (by omega) (by omega)) rfl ⟨by decide, Nat.le_of_eq (Nat.zero_add _), Nat.le_of_eq (Nat.zero_add _)⟩ (Nat.le_of_ble_eq_true rfl) rfl (fun r h9 hq => ?_)
  obtain ⟨rfl, rfl⟩ := hq
  show jb_J _ RX11 cX11_ofShout 3 (Option.some .int) false 1 0 0 23 [some (.ref 0), some (.int (nI s)), some (.int 1)] [.int 0] [jb_main imm Im Tm rowm stkm tpm, jb_sch13 I W T, s2, s3, s4, s5, s6, s7, s8, s9, s10, s11] _
  refine jb_if_eq (tgt := 32) (pc' := 26) dX11_ofShout_23 (by decide) rfl (fun _ => ?_) (fun z => absurd (by decide) z)
  refine jb_aload_n (pc' := 33) dX11_ofShout_32 rfl rfl ?_
  refine gf_X11_42 (pc' := 36) (v := .ref 13) dX11_ofShout_33 rfl rfl rfl ?_
  refine gf_X11_120 (pc' := 39) (v := .ref 19) dX11_ofShout_36 rfl rfl rfl ?_
  refine jb_iload_n (pc' := 40) dX11_ofShout_39 rfl rfl ?_
  refine jb_aaload (pc' := 41) (i9 := 1) (r := 21) (Or.inl rfl) dX11_ofShout_40 rfl jb_x1 (by decide) rfl rfl ?_
  refine jb_iload_n (pc' := 42) dX11_ofShout_41 rfl rfl ?_
  refine jb_iaload (pc' := 43) (i9 := s) (f := (W 5)) dX11_ofShout_42 rfl (jb_ix_nI (by omega)) (by omega) rfl ?_
  refine jb_top (v := .int ((W 5) s)) (w := .int (nI (V 5 s))) (jb_vI (rs s (by omega)).2.1) ?_
  refine jb_iret dX11_ofShout_43 rfl ?_
  exact ⟨rfl, rfl⟩
set_option maxRecDepth 100000 in
set_option maxHeartbeats 4000000 in
theorem kx_ofShout2 {sc : Nat × (Nat → Int32)} {s2 s3 s4 s5 s6 s7 s8 s9 s10 s11 : List va_E} {V : Nat → Nat → Nat} (imm : Int32) (Im rowm stkm tpm : Nat → Int32) (Tm : Nat → Value) (I : Nat → Int32) (W : Nat → Nat → Int32) (T : Nat → Value) (hr : jr_ V I W) (hk : jv_ok V) (s : Nat) (hs : s < V 0 2) : jb_C sc yX11_ofShout cX11_ofShout 3 (Option.some .int) 1 0 0 [.ref 0, .int (nI s), .int 2] [jb_main imm Im Tm rowm stkm tpm, jb_sch13 I W T, s2, s3, s4, s5, s6, s7, s8, s9, s10, s11] (fun r h9 => r = some (.int (nI (V 6 s))) ∧ h9 = [jb_main imm Im Tm rowm stkm tpm, jb_sch13 I W T, s2, s3, s4, s5, s6, s7, s8, s9, s10, s11]) := by
  refine jb_CofJ (ini := false) (by decide +kernel) (fun h => by cases h) (Nat.le_of_ble_eq_true rfl) ?_
  show jb_J sc RX11 cX11_ofShout 3 (Option.some .int) false 1 0 0 0 [some (.ref 0), some (.int (nI s)), some (.int 2)] [] [jb_main imm Im Tm rowm stkm tpm, jb_sch13 I W T, s2, s3, s4, s5, s6, s7, s8, s9, s10, s11] _
  have hr0 := hr
  have hk0 := hk
  obtain ⟨r0, r2, r3, r4, a0, a1, a2, rv, rs, rd⟩ := hr
  obtain ⟨k0, k1, k2, k3, k4, k5, k6, k7, kv, ks, kd⟩ := hk
  refine jb_iload_n (pc' := 1) dX11_ofShout_0 rfl rfl ?_
  refine jb_iconst (pc' := 2) 0 dX11_ofShout_1 (by decide) rfl ?_
  refine jb_aload_n (pc' := 3) dX11_ofShout_2 rfl rfl ?_
  refine gf_X11_42 (pc' := 6) (v := .ref 13) dX11_ofShout_3 rfl rfl rfl ?_
  refine gf_X11_113 (pc' := 9) (v := .int (I 3)) dX11_ofShout_6 rfl rfl rfl ?_
  refine jb_top (v := .int (I 3)) (w := .int (nI (V 0 2))) (jb_vI r3) ?_
  refine jb_iconst (pc' := 10) 1 dX11_ofShout_9 (by decide) rfl ?_
  refine jb_isub (pc' := 11) dX11_ofShout_10 rfl ?_
  refine jb_callS (pc' := 14) (As := [.int (nI s), .int 0, .int ((nI (V 0 2)) - 1)]) (a2 := 0) (b2 := 0) wv_X11_74 dX11_ofShout_11 (c_isOutNG s (V 0 2) (by omega) (by omega)) rfl ⟨by decide, Nat.le_of_eq (Nat.zero_add _), Nat.le_of_eq (Nat.zero_add _)⟩ (Nat.le_of_ble_eq_true rfl) rfl (fun r h9 hq => ?_)
  obtain ⟨rfl, rfl⟩ := hq
  show jb_J _ RX11 cX11_ofShout 3 (Option.some .int) false 1 0 0 14 [some (.ref 0), some (.int (nI s)), some (.int 2)] [.int 0] [jb_main imm Im Tm rowm stkm tpm, jb_sch13 I W T, s2, s3, s4, s5, s6, s7, s8, s9, s10, s11] _
  refine jb_if_ne (tgt := 26) (pc' := 17) dX11_ofShout_14 (by decide) rfl (fun z => absurd (by decide) z) (fun _ => ?_)
  refine jb_iload_n (pc' := 18) dX11_ofShout_17 rfl rfl ?_
  refine jb_iconst (pc' := 19) 0 dX11_ofShout_18 (by decide) rfl ?_
  refine jb_iconst (pc' := 20) 5 dX11_ofShout_19 (by decide) rfl ?_
  refine jb_callS (pc' := 23) (As := [.int 2, .int 0, .int 5]) (a2 := 0) (b2 := 0) wv_X11_74 dX11_ofShout_20 (c_isOutLG 2 0 5 (by omega) (by omega) (by omega)) rfl ⟨by decide, Nat.le_of_eq (Nat.zero_add _), Nat.le_of_eq (Nat.zero_add _)⟩ (Nat.le_of_ble_eq_true rfl) rfl (fun r h9 hq => ?_)
  obtain ⟨rfl, rfl⟩ := hq
  show jb_J _ RX11 cX11_ofShout 3 (Option.some .int) false 1 0 0 23 [some (.ref 0), some (.int (nI s)), some (.int 2)] [.int 0] [jb_main imm Im Tm rowm stkm tpm, jb_sch13 I W T, s2, s3, s4, s5, s6, s7, s8, s9, s10, s11] _
  refine jb_if_eq (tgt := 32) (pc' := 26) dX11_ofShout_23 (by decide) rfl (fun _ => ?_) (fun z => absurd (by decide) z)
  refine jb_aload_n (pc' := 33) dX11_ofShout_32 rfl rfl ?_
  refine gf_X11_42 (pc' := 36) (v := .ref 13) dX11_ofShout_33 rfl rfl rfl ?_
  refine gf_X11_120 (pc' := 39) (v := .ref 19) dX11_ofShout_36 rfl rfl rfl ?_
  refine jb_iload_n (pc' := 40) dX11_ofShout_39 rfl rfl ?_
  refine jb_aaload (pc' := 41) (i9 := 2) (r := 22) (Or.inl rfl) dX11_ofShout_40 rfl jb_x2 (by decide) rfl rfl ?_
  refine jb_iload_n (pc' := 42) dX11_ofShout_41 rfl rfl ?_
  refine jb_iaload (pc' := 43) (i9 := s) (f := (W 6)) dX11_ofShout_42 rfl (jb_ix_nI (by omega)) (by omega) rfl ?_
  refine jb_top (v := .int ((W 6) s)) (w := .int (nI (V 6 s))) (jb_vI (rs s (by omega)).2.2.1) ?_
  refine jb_iret dX11_ofShout_43 rfl ?_
  exact ⟨rfl, rfl⟩
set_option maxRecDepth 100000 in
set_option maxHeartbeats 4000000 in
theorem kx_ofShout3 {sc : Nat × (Nat → Int32)} {s2 s3 s4 s5 s6 s7 s8 s9 s10 s11 : List va_E} {V : Nat → Nat → Nat} (imm : Int32) (Im rowm stkm tpm : Nat → Int32) (Tm : Nat → Value) (I : Nat → Int32) (W : Nat → Nat → Int32) (T : Nat → Value) (hr : jr_ V I W) (hk : jv_ok V) (s : Nat) (hs : s < V 0 2) : jb_C sc yX11_ofShout cX11_ofShout 3 (Option.some .int) 1 0 0 [.ref 0, .int (nI s), .int 3] [jb_main imm Im Tm rowm stkm tpm, jb_sch13 I W T, s2, s3, s4, s5, s6, s7, s8, s9, s10, s11] (fun r h9 => r = some (.int (nI (V 7 s))) ∧ h9 = [jb_main imm Im Tm rowm stkm tpm, jb_sch13 I W T, s2, s3, s4, s5, s6, s7, s8, s9, s10, s11]) := by
  refine jb_CofJ (ini := false) (by decide +kernel) (fun h => by cases h) (Nat.le_of_ble_eq_true rfl) ?_
  show jb_J sc RX11 cX11_ofShout 3 (Option.some .int) false 1 0 0 0 [some (.ref 0), some (.int (nI s)), some (.int 3)] [] [jb_main imm Im Tm rowm stkm tpm, jb_sch13 I W T, s2, s3, s4, s5, s6, s7, s8, s9, s10, s11] _
  have hr0 := hr
  have hk0 := hk
  obtain ⟨r0, r2, r3, r4, a0, a1, a2, rv, rs, rd⟩ := hr
  obtain ⟨k0, k1, k2, k3, k4, k5, k6, k7, kv, ks, kd⟩ := hk
  refine jb_iload_n (pc' := 1) dX11_ofShout_0 rfl rfl ?_
  refine jb_iconst (pc' := 2) 0 dX11_ofShout_1 (by decide) rfl ?_
  refine jb_aload_n (pc' := 3) dX11_ofShout_2 rfl rfl ?_
  refine gf_X11_42 (pc' := 6) (v := .ref 13) dX11_ofShout_3 rfl rfl rfl ?_
  refine gf_X11_113 (pc' := 9) (v := .int (I 3)) dX11_ofShout_6 rfl rfl rfl ?_
  refine jb_top (v := .int (I 3)) (w := .int (nI (V 0 2))) (jb_vI r3) ?_
  refine jb_iconst (pc' := 10) 1 dX11_ofShout_9 (by decide) rfl ?_
  refine jb_isub (pc' := 11) dX11_ofShout_10 rfl ?_
  refine jb_callS (pc' := 14) (As := [.int (nI s), .int 0, .int ((nI (V 0 2)) - 1)]) (a2 := 0) (b2 := 0) wv_X11_74 dX11_ofShout_11 (c_isOutNG s (V 0 2) (by omega) (by omega)) rfl ⟨by decide, Nat.le_of_eq (Nat.zero_add _), Nat.le_of_eq (Nat.zero_add _)⟩ (Nat.le_of_ble_eq_true rfl) rfl (fun r h9 hq => ?_)
  obtain ⟨rfl, rfl⟩ := hq
  show jb_J _ RX11 cX11_ofShout 3 (Option.some .int) false 1 0 0 14 [some (.ref 0), some (.int (nI s)), some (.int 3)] [.int 0] [jb_main imm Im Tm rowm stkm tpm, jb_sch13 I W T, s2, s3, s4, s5, s6, s7, s8, s9, s10, s11] _
  refine jb_if_ne (tgt := 26) (pc' := 17) dX11_ofShout_14 (by decide) rfl (fun z => absurd (by decide) z) (fun _ => ?_)
  refine jb_iload_n (pc' := 18) dX11_ofShout_17 rfl rfl ?_
  refine jb_iconst (pc' := 19) 0 dX11_ofShout_18 (by decide) rfl ?_
  refine jb_iconst (pc' := 20) 5 dX11_ofShout_19 (by decide) rfl ?_
  refine jb_callS (pc' := 23) (As := [.int 3, .int 0, .int 5]) (a2 := 0) (b2 := 0) wv_X11_74 dX11_ofShout_20 (c_isOutLG 3 0 5 (by omega) (by omega) (by omega)) rfl ⟨by decide, Nat.le_of_eq (Nat.zero_add _), Nat.le_of_eq (Nat.zero_add _)⟩ (Nat.le_of_ble_eq_true rfl) rfl (fun r h9 hq => ?_)
  obtain ⟨rfl, rfl⟩ := hq
  show jb_J _ RX11 cX11_ofShout 3 (Option.some .int) false 1 0 0 23 [some (.ref 0), some (.int (nI s)), some (.int 3)] [.int 0] [jb_main imm Im Tm rowm stkm tpm, jb_sch13 I W T, s2, s3, s4, s5, s6, s7, s8, s9, s10, s11] _
  refine jb_if_eq (tgt := 32) (pc' := 26) dX11_ofShout_23 (by decide) rfl (fun _ => ?_) (fun z => absurd (by decide) z)
  refine jb_aload_n (pc' := 33) dX11_ofShout_32 rfl rfl ?_
  refine gf_X11_42 (pc' := 36) (v := .ref 13) dX11_ofShout_33 rfl rfl rfl ?_
  refine gf_X11_120 (pc' := 39) (v := .ref 19) dX11_ofShout_36 rfl rfl rfl ?_
  refine jb_iload_n (pc' := 40) dX11_ofShout_39 rfl rfl ?_
  refine jb_aaload (pc' := 41) (i9 := 3) (r := 23) (Or.inl rfl) dX11_ofShout_40 rfl jb_x3 (by decide) rfl rfl ?_
  refine jb_iload_n (pc' := 42) dX11_ofShout_41 rfl rfl ?_
  refine jb_iaload (pc' := 43) (i9 := s) (f := (W 7)) dX11_ofShout_42 rfl (jb_ix_nI (by omega)) (by omega) rfl ?_
  refine jb_top (v := .int ((W 7) s)) (w := .int (nI (V 7 s))) (jb_vI (rs s (by omega)).2.2.2.1) ?_
  refine jb_iret dX11_ofShout_43 rfl ?_
  exact ⟨rfl, rfl⟩
set_option maxRecDepth 100000 in
set_option maxHeartbeats 4000000 in
theorem kx_ofShout4 {sc : Nat × (Nat → Int32)} {s2 s3 s4 s5 s6 s7 s8 s9 s10 s11 : List va_E} {V : Nat → Nat → Nat} (imm : Int32) (Im rowm stkm tpm : Nat → Int32) (Tm : Nat → Value) (I : Nat → Int32) (W : Nat → Nat → Int32) (T : Nat → Value) (hr : jr_ V I W) (hk : jv_ok V) (s : Nat) (hs : s < V 0 2) : jb_C sc yX11_ofShout cX11_ofShout 3 (Option.some .int) 1 0 0 [.ref 0, .int (nI s), .int 4] [jb_main imm Im Tm rowm stkm tpm, jb_sch13 I W T, s2, s3, s4, s5, s6, s7, s8, s9, s10, s11] (fun r h9 => r = some (.int (nI (V 8 s) - 1)) ∧ h9 = [jb_main imm Im Tm rowm stkm tpm, jb_sch13 I W T, s2, s3, s4, s5, s6, s7, s8, s9, s10, s11]) := by
  refine jb_CofJ (ini := false) (by decide +kernel) (fun h => by cases h) (Nat.le_of_ble_eq_true rfl) ?_
  show jb_J sc RX11 cX11_ofShout 3 (Option.some .int) false 1 0 0 0 [some (.ref 0), some (.int (nI s)), some (.int 4)] [] [jb_main imm Im Tm rowm stkm tpm, jb_sch13 I W T, s2, s3, s4, s5, s6, s7, s8, s9, s10, s11] _
  have hr0 := hr
  have hk0 := hk
  obtain ⟨r0, r2, r3, r4, a0, a1, a2, rv, rs, rd⟩ := hr
  obtain ⟨k0, k1, k2, k3, k4, k5, k6, k7, kv, ks, kd⟩ := hk
  refine jb_iload_n (pc' := 1) dX11_ofShout_0 rfl rfl ?_
  refine jb_iconst (pc' := 2) 0 dX11_ofShout_1 (by decide) rfl ?_
  refine jb_aload_n (pc' := 3) dX11_ofShout_2 rfl rfl ?_
  refine gf_X11_42 (pc' := 6) (v := .ref 13) dX11_ofShout_3 rfl rfl rfl ?_
  refine gf_X11_113 (pc' := 9) (v := .int (I 3)) dX11_ofShout_6 rfl rfl rfl ?_
  refine jb_top (v := .int (I 3)) (w := .int (nI (V 0 2))) (jb_vI r3) ?_
  refine jb_iconst (pc' := 10) 1 dX11_ofShout_9 (by decide) rfl ?_
  refine jb_isub (pc' := 11) dX11_ofShout_10 rfl ?_
  refine jb_callS (pc' := 14) (As := [.int (nI s), .int 0, .int ((nI (V 0 2)) - 1)]) (a2 := 0) (b2 := 0) wv_X11_74 dX11_ofShout_11 (c_isOutNG s (V 0 2) (by omega) (by omega)) rfl ⟨by decide, Nat.le_of_eq (Nat.zero_add _), Nat.le_of_eq (Nat.zero_add _)⟩ (Nat.le_of_ble_eq_true rfl) rfl (fun r h9 hq => ?_)
  obtain ⟨rfl, rfl⟩ := hq
  show jb_J _ RX11 cX11_ofShout 3 (Option.some .int) false 1 0 0 14 [some (.ref 0), some (.int (nI s)), some (.int 4)] [.int 0] [jb_main imm Im Tm rowm stkm tpm, jb_sch13 I W T, s2, s3, s4, s5, s6, s7, s8, s9, s10, s11] _
  refine jb_if_ne (tgt := 26) (pc' := 17) dX11_ofShout_14 (by decide) rfl (fun z => absurd (by decide) z) (fun _ => ?_)
  refine jb_iload_n (pc' := 18) dX11_ofShout_17 rfl rfl ?_
  refine jb_iconst (pc' := 19) 0 dX11_ofShout_18 (by decide) rfl ?_
  refine jb_iconst (pc' := 20) 5 dX11_ofShout_19 (by decide) rfl ?_
  refine jb_callS (pc' := 23) (As := [.int 4, .int 0, .int 5]) (a2 := 0) (b2 := 0) wv_X11_74 dX11_ofShout_20 (c_isOutLG 4 0 5 (by omega) (by omega) (by omega)) rfl ⟨by decide, Nat.le_of_eq (Nat.zero_add _), Nat.le_of_eq (Nat.zero_add _)⟩ (Nat.le_of_ble_eq_true rfl) rfl (fun r h9 hq => ?_)
  obtain ⟨rfl, rfl⟩ := hq
  show jb_J _ RX11 cX11_ofShout 3 (Option.some .int) false 1 0 0 23 [some (.ref 0), some (.int (nI s)), some (.int 4)] [.int 0] [jb_main imm Im Tm rowm stkm tpm, jb_sch13 I W T, s2, s3, s4, s5, s6, s7, s8, s9, s10, s11] _
  refine jb_if_eq (tgt := 32) (pc' := 26) dX11_ofShout_23 (by decide) rfl (fun _ => ?_) (fun z => absurd (by decide) z)
  refine jb_aload_n (pc' := 33) dX11_ofShout_32 rfl rfl ?_
  refine gf_X11_42 (pc' := 36) (v := .ref 13) dX11_ofShout_33 rfl rfl rfl ?_
  refine gf_X11_120 (pc' := 39) (v := .ref 19) dX11_ofShout_36 rfl rfl rfl ?_
  refine jb_iload_n (pc' := 40) dX11_ofShout_39 rfl rfl ?_
  refine jb_aaload (pc' := 41) (i9 := 4) (r := 24) (Or.inl rfl) dX11_ofShout_40 rfl jb_x4 (by decide) rfl rfl ?_
  refine jb_iload_n (pc' := 42) dX11_ofShout_41 rfl rfl ?_
  refine jb_iaload (pc' := 43) (i9 := s) (f := (W 8)) dX11_ofShout_42 rfl (jb_ix_nI (by omega)) (by omega) rfl ?_
  refine jb_top (v := .int ((W 8) s)) (w := .int (nI (V 8 s) - 1)) (jb_vI (rs s (by omega)).2.2.2.2.1) ?_
  refine jb_iret dX11_ofShout_43 rfl ?_
  exact ⟨rfl, rfl⟩
set_option maxRecDepth 100000 in
set_option maxHeartbeats 4000000 in
theorem kx_ofShout5 {sc : Nat × (Nat → Int32)} {s2 s3 s4 s5 s6 s7 s8 s9 s10 s11 : List va_E} {V : Nat → Nat → Nat} (imm : Int32) (Im rowm stkm tpm : Nat → Int32) (Tm : Nat → Value) (I : Nat → Int32) (W : Nat → Nat → Int32) (T : Nat → Value) (hr : jr_ V I W) (hk : jv_ok V) (s : Nat) (hs : s < V 0 2) : jb_C sc yX11_ofShout cX11_ofShout 3 (Option.some .int) 1 0 0 [.ref 0, .int (nI s), .int 5] [jb_main imm Im Tm rowm stkm tpm, jb_sch13 I W T, s2, s3, s4, s5, s6, s7, s8, s9, s10, s11] (fun r h9 => r = some (.int (nI (V 9 s))) ∧ h9 = [jb_main imm Im Tm rowm stkm tpm, jb_sch13 I W T, s2, s3, s4, s5, s6, s7, s8, s9, s10, s11]) := by
  refine jb_CofJ (ini := false) (by decide +kernel) (fun h => by cases h) (Nat.le_of_ble_eq_true rfl) ?_
  show jb_J sc RX11 cX11_ofShout 3 (Option.some .int) false 1 0 0 0 [some (.ref 0), some (.int (nI s)), some (.int 5)] [] [jb_main imm Im Tm rowm stkm tpm, jb_sch13 I W T, s2, s3, s4, s5, s6, s7, s8, s9, s10, s11] _
  have hr0 := hr
  have hk0 := hk
  obtain ⟨r0, r2, r3, r4, a0, a1, a2, rv, rs, rd⟩ := hr
  obtain ⟨k0, k1, k2, k3, k4, k5, k6, k7, kv, ks, kd⟩ := hk
  refine jb_iload_n (pc' := 1) dX11_ofShout_0 rfl rfl ?_
  refine jb_iconst (pc' := 2) 0 dX11_ofShout_1 (by decide) rfl ?_
  refine jb_aload_n (pc' := 3) dX11_ofShout_2 rfl rfl ?_
  refine gf_X11_42 (pc' := 6) (v := .ref 13) dX11_ofShout_3 rfl rfl rfl ?_
  refine gf_X11_113 (pc' := 9) (v := .int (I 3)) dX11_ofShout_6 rfl rfl rfl ?_
  refine jb_top (v := .int (I 3)) (w := .int (nI (V 0 2))) (jb_vI r3) ?_
  refine jb_iconst (pc' := 10) 1 dX11_ofShout_9 (by decide) rfl ?_
  refine jb_isub (pc' := 11) dX11_ofShout_10 rfl ?_
  refine jb_callS (pc' := 14) (As := [.int (nI s), .int 0, .int ((nI (V 0 2)) - 1)]) (a2 := 0) (b2 := 0) wv_X11_74 dX11_ofShout_11 (c_isOutNG s (V 0 2) (by omega) (by omega)) rfl ⟨by decide, Nat.le_of_eq (Nat.zero_add _), Nat.le_of_eq (Nat.zero_add _)⟩ (Nat.le_of_ble_eq_true rfl) rfl (fun r h9 hq => ?_)
  obtain ⟨rfl, rfl⟩ := hq
  show jb_J _ RX11 cX11_ofShout 3 (Option.some .int) false 1 0 0 14 [some (.ref 0), some (.int (nI s)), some (.int 5)] [.int 0] [jb_main imm Im Tm rowm stkm tpm, jb_sch13 I W T, s2, s3, s4, s5, s6, s7, s8, s9, s10, s11] _
  refine jb_if_ne (tgt := 26) (pc' := 17) dX11_ofShout_14 (by decide) rfl (fun z => absurd (by decide) z) (fun _ => ?_)
  refine jb_iload_n (pc' := 18) dX11_ofShout_17 rfl rfl ?_
  refine jb_iconst (pc' := 19) 0 dX11_ofShout_18 (by decide) rfl ?_
  refine jb_iconst (pc' := 20) 5 dX11_ofShout_19 (by decide) rfl ?_
  refine jb_callS (pc' := 23) (As := [.int 5, .int 0, .int 5]) (a2 := 0) (b2 := 0) wv_X11_74 dX11_ofShout_20 (c_isOutLG 5 0 5 (by omega) (by omega) (by omega)) rfl ⟨by decide, Nat.le_of_eq (Nat.zero_add _), Nat.le_of_eq (Nat.zero_add _)⟩ (Nat.le_of_ble_eq_true rfl) rfl (fun r h9 hq => ?_)
  obtain ⟨rfl, rfl⟩ := hq
  show jb_J _ RX11 cX11_ofShout 3 (Option.some .int) false 1 0 0 23 [some (.ref 0), some (.int (nI s)), some (.int 5)] [.int 0] [jb_main imm Im Tm rowm stkm tpm, jb_sch13 I W T, s2, s3, s4, s5, s6, s7, s8, s9, s10, s11] _
  refine jb_if_eq (tgt := 32) (pc' := 26) dX11_ofShout_23 (by decide) rfl (fun _ => ?_) (fun z => absurd (by decide) z)
  refine jb_aload_n (pc' := 33) dX11_ofShout_32 rfl rfl ?_
  refine gf_X11_42 (pc' := 36) (v := .ref 13) dX11_ofShout_33 rfl rfl rfl ?_
  refine gf_X11_120 (pc' := 39) (v := .ref 19) dX11_ofShout_36 rfl rfl rfl ?_
  refine jb_iload_n (pc' := 40) dX11_ofShout_39 rfl rfl ?_
  refine jb_aaload (pc' := 41) (i9 := 5) (r := 25) (Or.inl rfl) dX11_ofShout_40 rfl jb_x5 (by decide) rfl rfl ?_
  refine jb_iload_n (pc' := 42) dX11_ofShout_41 rfl rfl ?_
  refine jb_iaload (pc' := 43) (i9 := s) (f := (W 9)) dX11_ofShout_42 rfl (jb_ix_nI (by omega)) (by omega) rfl ?_
  refine jb_top (v := .int ((W 9) s)) (w := .int (nI (V 9 s))) (jb_vI (rs s (by omega)).2.2.2.2.2) ?_
  refine jb_iret dX11_ofShout_43 rfl ?_
  exact ⟨rfl, rfl⟩
set_option maxRecDepth 100000 in
set_option maxHeartbeats 4000000 in
theorem ke_ofShout {sc : Nat × (Nat → Int32)} {s2 s3 s4 s5 s6 s7 s8 s10 s11 : List va_E} {V : Nat → Nat → Nat} (imm : Int32) (Im rowm stkm tpm : Nat → Int32) (Tm : Nat → Value) (I : Nat → Int32) (W : Nat → Nat → Int32) (T : Nat → Value) (Ia boa era : Nat → Int32) (hr : jr_ V I W) (hk : jv_ok V) (s w : Int32) (hb : ¬ (jn_b s 0 (V 0 2) ∧ jn_b w 0 6)) : jb_C sc yX11_ofShout cX11_ofShout 3 (Option.some .int) 1 0 0 [.ref 0, .int s, .int w] [jb_main imm Im Tm rowm stkm tpm, jb_sch13 I W T, s2, s3, s4, s5, s6, s7, s8, jb_act Ia boa era, s10, s11] (fun r h9 => r = some (.int (jm_er 1)) ∧ h9 = [jb_main imm Im Tm rowm stkm tpm, jb_sch13 I W T, s2, s3, s4, s5, s6, s7, s8, jb_act Ia boa (jm_ef era 1), s10, s11]) := by
  refine jb_CofJ (ini := false) (by decide +kernel) (fun h => by cases h) (Nat.le_of_ble_eq_true rfl) ?_
  show jb_J sc RX11 cX11_ofShout 3 (Option.some .int) false 1 0 0 0 [some (.ref 0), some (.int s), some (.int w)] [] [jb_main imm Im Tm rowm stkm tpm, jb_sch13 I W T, s2, s3, s4, s5, s6, s7, s8, jb_act Ia boa era, s10, s11] _
  have hr0 := hr
  have hk0 := hk
  obtain ⟨r0, r2, r3, r4, a0, a1, a2, rv, rs, rd⟩ := hr
  obtain ⟨k0, k1, k2, k3, k4, k5, k6, k7, kv, ks, kd⟩ := hk
  refine jb_iload_n (pc' := 1) dX11_ofShout_0 rfl rfl ?_
  refine jb_iconst (pc' := 2) 0 dX11_ofShout_1 (by decide) rfl ?_
  refine jb_aload_n (pc' := 3) dX11_ofShout_2 rfl rfl ?_
  refine gf_X11_42 (pc' := 6) (v := .ref 13) dX11_ofShout_3 rfl rfl rfl ?_
  refine gf_X11_113 (pc' := 9) (v := .int (I 3)) dX11_ofShout_6 rfl rfl rfl ?_
  refine jb_top (v := .int (I 3)) (w := .int (nI (V 0 2))) (jb_vI r3) ?_
  refine jb_iconst (pc' := 10) 1 dX11_ofShout_9 (by decide) rfl ?_
  refine jb_isub (pc' := 11) dX11_ofShout_10 rfl ?_
  refine jb_callS (pc' := 14) (As := [.int s, .int 0, .int ((nI (V 0 2)) - 1)]) (a2 := 0) (b2 := 0) wv_X11_74 dX11_ofShout_11 (c_isOutN s (V 0 2) (by omega)) rfl ⟨by decide, Nat.le_of_eq (Nat.zero_add _), Nat.le_of_eq (Nat.zero_add _)⟩ (Nat.le_of_ble_eq_true rfl) rfl (fun r h9 hq => ?_)
  rcases hq with ⟨rfl, ⟨o1, rfl⟩ | ⟨o1, rfl⟩⟩
  · show jb_J _ RX11 cX11_ofShout 3 (Option.some .int) false 1 0 0 14 [some (.ref 0), some (.int s), some (.int w)] [.int 1] [jb_main imm Im Tm rowm stkm tpm, jb_sch13 I W T, s2, s3, s4, s5, s6, s7, s8, jb_act Ia boa era, s10, s11] _
    refine jb_if_ne (tgt := 26) (pc' := 17) dX11_ofShout_14 (by decide) rfl (fun _ => ?_) (fun z => absurd z (by decide))
    refine jb_aload_n (pc' := 27) dX11_ofShout_26 rfl rfl ?_
    refine jb_iconst (pc' := 28) 1 dX11_ofShout_27 (by decide) rfl ?_
    refine jb_callV (pc' := 31) (ci := 11) (q := 0) (As := [.int 1]) (a2 := 0) (b2 := 0) wv_X11_78 rfl dX11_ofShout_28 (c_error imm Im rowm stkm tpm Tm Ia boa era 1 (by decide)) rfl rfl ⟨by decide, Nat.le_of_eq (Nat.zero_add _), Nat.le_of_eq (Nat.zero_add _)⟩ (Nat.le_of_ble_eq_true rfl) rfl (fun r h9 hq => ?_)
    obtain ⟨rfl, rfl⟩ := hq
    show jb_J _ RX11 cX11_ofShout 3 (Option.some .int) false 1 0 0 31 [some (.ref 0), some (.int s), some (.int w)] [.int (jm_er 1)] [jb_main imm Im Tm rowm stkm tpm, jb_sch13 I W T, s2, s3, s4, s5, s6, s7, s8, jb_act Ia boa (jm_ef era 1), s10, s11] _
    refine jb_iret dX11_ofShout_31 rfl ?_
    exact ⟨rfl, rfl⟩
  · show jb_J _ RX11 cX11_ofShout 3 (Option.some .int) false 1 0 0 14 [some (.ref 0), some (.int s), some (.int w)] [.int 0] [jb_main imm Im Tm rowm stkm tpm, jb_sch13 I W T, s2, s3, s4, s5, s6, s7, s8, jb_act Ia boa era, s10, s11] _
    refine jb_if_ne (tgt := 26) (pc' := 17) dX11_ofShout_14 (by decide) rfl (fun z => absurd (by decide) z) (fun _ => ?_)
    refine jb_iload_n (pc' := 18) dX11_ofShout_17 rfl rfl ?_
    refine jb_iconst (pc' := 19) 0 dX11_ofShout_18 (by decide) rfl ?_
    refine jb_iconst (pc' := 20) 5 dX11_ofShout_19 (by decide) rfl ?_
    refine jb_callS (pc' := 23) (As := [.int w, .int 0, .int 5]) (a2 := 0) (b2 := 0) wv_X11_74 dX11_ofShout_20 (c_isOutL w 0 5 (by omega) (by omega)) rfl ⟨by decide, Nat.le_of_eq (Nat.zero_add _), Nat.le_of_eq (Nat.zero_add _)⟩ (Nat.le_of_ble_eq_true rfl) rfl (fun r h9 hq => ?_)
    rcases hq with ⟨rfl, ⟨o5, rfl⟩ | ⟨o5, rfl⟩⟩
    · show jb_J _ RX11 cX11_ofShout 3 (Option.some .int) false 1 0 0 23 [some (.ref 0), some (.int s), some (.int w)] [.int 1] [jb_main imm Im Tm rowm stkm tpm, jb_sch13 I W T, s2, s3, s4, s5, s6, s7, s8, jb_act Ia boa era, s10, s11] _
      refine jb_if_eq (tgt := 32) (pc' := 26) dX11_ofShout_23 (by decide) rfl (fun z => absurd z (by decide)) (fun _ => ?_)
      refine jb_aload_n (pc' := 27) dX11_ofShout_26 rfl rfl ?_
      refine jb_iconst (pc' := 28) 1 dX11_ofShout_27 (by decide) rfl ?_
      refine jb_callV (pc' := 31) (ci := 11) (q := 0) (As := [.int 1]) (a2 := 0) (b2 := 0) wv_X11_78 rfl dX11_ofShout_28 (c_error imm Im rowm stkm tpm Tm Ia boa era 1 (by decide)) rfl rfl ⟨by decide, Nat.le_of_eq (Nat.zero_add _), Nat.le_of_eq (Nat.zero_add _)⟩ (Nat.le_of_ble_eq_true rfl) rfl (fun r h9 hq => ?_)
      obtain ⟨rfl, rfl⟩ := hq
      show jb_J _ RX11 cX11_ofShout 3 (Option.some .int) false 1 0 0 31 [some (.ref 0), some (.int s), some (.int w)] [.int (jm_er 1)] [jb_main imm Im Tm rowm stkm tpm, jb_sch13 I W T, s2, s3, s4, s5, s6, s7, s8, jb_act Ia boa (jm_ef era 1), s10, s11] _
      refine jb_iret dX11_ofShout_31 rfl ?_
      exact ⟨rfl, rfl⟩
    · show jb_J _ RX11 cX11_ofShout 3 (Option.some .int) false 1 0 0 23 [some (.ref 0), some (.int s), some (.int w)] [.int 0] [jb_main imm Im Tm rowm stkm tpm, jb_sch13 I W T, s2, s3, s4, s5, s6, s7, s8, jb_act Ia boa era, s10, s11] _
      exact absurd ⟨by assumption, by assumption⟩ hb
set_option maxRecDepth 100000 in
set_option maxHeartbeats 4000000 in
theorem ke_lead {sc : Nat × (Nat → Int32)} {s2 s3 s4 s5 s6 s7 s8 s10 s11 : List va_E} {V : Nat → Nat → Nat} (imm : Int32) (Im rowm stkm tpm : Nat → Int32) (Tm : Nat → Value) (I : Nat → Int32) (W : Nat → Nat → Int32) (T : Nat → Value) (Ia boa era : Nat → Int32) (hr : jr_ V I W) (hk : jv_ok V) (s w : Int32) (hb : ¬ (jn_b s 0 (V 0 2) ∧ jn_b w 0 2)) : jb_C sc yX11_lead cX11_lead 7 (Option.some .int) 1 0 0 [.ref 0, .int s, .int w] [jb_main imm Im Tm rowm stkm tpm, jb_sch13 I W T, s2, s3, s4, s5, s6, s7, s8, jb_act Ia boa era, s10, s11] (fun r h9 => r = some (.int (jm_er 1)) ∧ h9 = [jb_main imm Im Tm rowm stkm tpm, jb_sch13 I W T, s2, s3, s4, s5, s6, s7, s8, jb_act Ia boa (jm_ef era 1), s10, s11]) := by
  refine jb_CofJ (ini := false) (by decide +kernel) (fun h => by cases h) (Nat.le_of_ble_eq_true rfl) ?_
  show jb_J sc RX11 cX11_lead 7 (Option.some .int) false 1 0 0 0 [some (.ref 0), some (.int s), some (.int w), none, none, none, none] [] [jb_main imm Im Tm rowm stkm tpm, jb_sch13 I W T, s2, s3, s4, s5, s6, s7, s8, jb_act Ia boa era, s10, s11] _
  have hr0 := hr
  have hk0 := hk
  obtain ⟨r0, r2, r3, r4, a0, a1, a2, rv, rs, rd⟩ := hr
  obtain ⟨k0, k1, k2, k3, k4, k5, k6, k7, kv, ks, kd⟩ := hk
  refine jb_iload_n (pc' := 1) dX11_lead_0 rfl rfl ?_
  refine jb_iconst (pc' := 2) 0 dX11_lead_1 (by decide) rfl ?_
  refine jb_aload_n (pc' := 3) dX11_lead_2 rfl rfl ?_
  refine gf_X11_42 (pc' := 6) (v := .ref 13) dX11_lead_3 rfl rfl rfl ?_
  refine gf_X11_113 (pc' := 9) (v := .int (I 3)) dX11_lead_6 rfl rfl rfl ?_
  refine jb_top (v := .int (I 3)) (w := .int (nI (V 0 2))) (jb_vI r3) ?_
  refine jb_iconst (pc' := 10) 1 dX11_lead_9 (by decide) rfl ?_
  refine jb_isub (pc' := 11) dX11_lead_10 rfl ?_
  refine jb_callS (pc' := 14) (As := [.int s, .int 0, .int ((nI (V 0 2)) - 1)]) (a2 := 0) (b2 := 0) wv_X11_74 dX11_lead_11 (c_isOutN s (V 0 2) (by omega)) rfl ⟨by decide, Nat.le_of_eq (Nat.zero_add _), Nat.le_of_eq (Nat.zero_add _)⟩ (Nat.le_of_ble_eq_true rfl) rfl (fun r h9 hq => ?_)
  rcases hq with ⟨rfl, ⟨o1, rfl⟩ | ⟨o1, rfl⟩⟩
  · show jb_J _ RX11 cX11_lead 7 (Option.some .int) false 1 0 0 14 [some (.ref 0), some (.int s), some (.int w), none, none, none, none] [.int 1] [jb_main imm Im Tm rowm stkm tpm, jb_sch13 I W T, s2, s3, s4, s5, s6, s7, s8, jb_act Ia boa era, s10, s11] _
    refine jb_if_ne (tgt := 26) (pc' := 17) dX11_lead_14 (by decide) rfl (fun _ => ?_) (fun z => absurd z (by decide))
    refine jb_aload_n (pc' := 27) dX11_lead_26 rfl rfl ?_
    refine jb_iconst (pc' := 28) 1 dX11_lead_27 (by decide) rfl ?_
    refine jb_callV (pc' := 31) (ci := 11) (q := 0) (As := [.int 1]) (a2 := 0) (b2 := 0) wv_X11_78 rfl dX11_lead_28 (c_error imm Im rowm stkm tpm Tm Ia boa era 1 (by decide)) rfl rfl ⟨by decide, Nat.le_of_eq (Nat.zero_add _), Nat.le_of_eq (Nat.zero_add _)⟩ (Nat.le_of_ble_eq_true rfl) rfl (fun r h9 hq => ?_)
    obtain ⟨rfl, rfl⟩ := hq
    show jb_J _ RX11 cX11_lead 7 (Option.some .int) false 1 0 0 31 [some (.ref 0), some (.int s), some (.int w), none, none, none, none] [.int (jm_er 1)] [jb_main imm Im Tm rowm stkm tpm, jb_sch13 I W T, s2, s3, s4, s5, s6, s7, s8, jb_act Ia boa (jm_ef era 1), s10, s11] _
    refine jb_iret dX11_lead_31 rfl ?_
    exact ⟨rfl, rfl⟩
  · show jb_J _ RX11 cX11_lead 7 (Option.some .int) false 1 0 0 14 [some (.ref 0), some (.int s), some (.int w), none, none, none, none] [.int 0] [jb_main imm Im Tm rowm stkm tpm, jb_sch13 I W T, s2, s3, s4, s5, s6, s7, s8, jb_act Ia boa era, s10, s11] _
    refine jb_if_ne (tgt := 26) (pc' := 17) dX11_lead_14 (by decide) rfl (fun z => absurd (by decide) z) (fun _ => ?_)
    refine jb_iload_n (pc' := 18) dX11_lead_17 rfl rfl ?_
    refine jb_iconst (pc' := 19) 0 dX11_lead_18 (by decide) rfl ?_
    refine jb_iconst (pc' := 20) 1 dX11_lead_19 (by decide) rfl ?_
    refine jb_callS (pc' := 23) (As := [.int w, .int 0, .int 1]) (a2 := 0) (b2 := 0) wv_X11_74 dX11_lead_20 (c_isOutL w 0 1 (by omega) (by omega)) rfl ⟨by decide, Nat.le_of_eq (Nat.zero_add _), Nat.le_of_eq (Nat.zero_add _)⟩ (Nat.le_of_ble_eq_true rfl) rfl (fun r h9 hq => ?_)
    rcases hq with ⟨rfl, ⟨o5, rfl⟩ | ⟨o5, rfl⟩⟩
    · show jb_J _ RX11 cX11_lead 7 (Option.some .int) false 1 0 0 23 [some (.ref 0), some (.int s), some (.int w), none, none, none, none] [.int 1] [jb_main imm Im Tm rowm stkm tpm, jb_sch13 I W T, s2, s3, s4, s5, s6, s7, s8, jb_act Ia boa era, s10, s11] _
      refine jb_if_eq (tgt := 32) (pc' := 26) dX11_lead_23 (by decide) rfl (fun z => absurd z (by decide)) (fun _ => ?_)
      refine jb_aload_n (pc' := 27) dX11_lead_26 rfl rfl ?_
      refine jb_iconst (pc' := 28) 1 dX11_lead_27 (by decide) rfl ?_
      refine jb_callV (pc' := 31) (ci := 11) (q := 0) (As := [.int 1]) (a2 := 0) (b2 := 0) wv_X11_78 rfl dX11_lead_28 (c_error imm Im rowm stkm tpm Tm Ia boa era 1 (by decide)) rfl rfl ⟨by decide, Nat.le_of_eq (Nat.zero_add _), Nat.le_of_eq (Nat.zero_add _)⟩ (Nat.le_of_ble_eq_true rfl) rfl (fun r h9 hq => ?_)
      obtain ⟨rfl, rfl⟩ := hq
      show jb_J _ RX11 cX11_lead 7 (Option.some .int) false 1 0 0 31 [some (.ref 0), some (.int s), some (.int w), none, none, none, none] [.int (jm_er 1)] [jb_main imm Im Tm rowm stkm tpm, jb_sch13 I W T, s2, s3, s4, s5, s6, s7, s8, jb_act Ia boa (jm_ef era 1), s10, s11] _
      refine jb_iret dX11_lead_31 rfl ?_
      exact ⟨rfl, rfl⟩
    · show jb_J _ RX11 cX11_lead 7 (Option.some .int) false 1 0 0 23 [some (.ref 0), some (.int s), some (.int w), none, none, none, none] [.int 0] [jb_main imm Im Tm rowm stkm tpm, jb_sch13 I W T, s2, s3, s4, s5, s6, s7, s8, jb_act Ia boa era, s10, s11] _
      refine jb_if_eq (tgt := 32) (pc' := 26) dX11_lead_23 (by decide) rfl (fun _ => ?_) (fun z => absurd (by decide) z)
      refine jb_iload_n (pc' := 33) dX11_lead_32 rfl rfl ?_
      refine jb_istore_n_ (pc' := 34) dX11_lead_33 (by decide) (jb_at3 rfl) rfl ?_
      refine jb_iconst (pc' := 35) 1 dX11_lead_34 (by decide) rfl ?_
      refine jb_istore_ (pc' := 37) dX11_lead_35 (by decide) (jb_at4 rfl) rfl ?_
      refine jb_iconst (pc' := 38) 0 dX11_lead_37 (by decide) rfl ?_
      refine jb_istore_ (pc' := 40) dX11_lead_38 (by decide) (jb_at5 rfl) rfl ?_
      refine jb_iload (pc' := 42) dX11_lead_40 rfl rfl ?_
      refine jb_aload_n (pc' := 43) dX11_lead_42 rfl rfl ?_
      refine gf_X11_42 (pc' := 46) (v := .ref 13) dX11_lead_43 rfl rfl rfl ?_
      refine gf_X11_113 (pc' := 49) (v := .int (I 3)) dX11_lead_46 rfl rfl rfl ?_
      refine jb_top (v := .int (I 3)) (w := .int (nI (V 0 2))) (jb_vI r3) ?_
      refine jb_icmp_ge (tgt := 98) (pc' := 52) dX11_lead_49 (by decide) rfl (fun c9 => ?_) (fun c9 => ?_)
      · have c9 : (V 0 2) ≤ 0 := (nI_leI (a := (V 0 2)) (b := 0) (by omega) (by omega)).mp c9
        refine jb_iload_n (pc' := 99) dX11_lead_98 rfl rfl ?_
        refine jb_if_ne (tgt := 106) (pc' := 102) dX11_lead_99 (by decide) rfl (fun c10 => ?_) (fun c10 => ?_)
        · refine jb_iload (pc' := 108) dX11_lead_106 rfl rfl ?_
          refine jb_iret dX11_lead_108 rfl ?_
          exact absurd ⟨by assumption, by assumption⟩ hb
        · refine jb_iload_n (pc' := 103) dX11_lead_102 rfl rfl ?_
          refine jb_goto (pc' := 108) dX11_lead_103 (by decide) ?_
          refine jb_iret dX11_lead_108 rfl ?_
          exact absurd ⟨by assumption, by assumption⟩ hb
      · have c9 : ¬ (V 0 2) ≤ 0 := fun z9 => c9 ((nI_leI (a := (V 0 2)) (b := 0) (by omega) (by omega)).mpr z9)
        exact absurd ⟨by assumption, by assumption⟩ hb
set_option maxRecDepth 100000 in
set_option maxHeartbeats 4000000 in
theorem l_lead0 {sc : Nat × (Nat → Int32)} {s2 s3 s4 s5 s6 s7 s8 s9 s10 s11 : List va_E} {V : Nat → Nat → Nat} (imm : Int32) (Im rowm stkm tpm : Nat → Int32) (Tm : Nat → Value) (I : Nat → Int32) (W : Nat → Nat → Int32) (T : Nat → Value) (hr : jr_ V I W) (hk : jv_ok V) (x1 : Option Value) : ∀ (k e s n : Nat) (x6 : Option Value), e + k = V 0 2 → s < k → n ≤ e + 1 → jb_J sc RX11 cX11_lead 7 (Option.some .int) false 1 0 0 40 [some (.ref 0), x1, some (.int 0), some (.int (nI s)), some (.int (nI n)), some (.int (nI e)), x6] [] [jb_main imm Im Tm rowm stkm tpm, jb_sch13 I W T, s2, s3, s4, s5, s6, s7, s8, s9, s10, s11] (fun r h9 => r = some (.int (nI (jm_ld V k s n).1)) ∧ h9 = [jb_main imm Im Tm rowm stkm tpm, jb_sch13 I W T, s2, s3, s4, s5, s6, s7, s8, s9, s10, s11]) := by
  have hr0 := hr
  have hk0 := hk
  obtain ⟨r0, r2, r3, r4, a0, a1, a2, rv, rs, rd⟩ := hr
  obtain ⟨k0, k1, k2, k3, k4, k5, k6, k7, kv, ks, kd⟩ := hk
  intro k
  induction k with
  | zero => intro e s n x6 he hs; omega
  | succ k ih =>
    intro e s n x6 he hs hn
    have q1 := ks s (by omega)
    show jb_J _ RX11 cX11_lead 7 (Option.some .int) false 1 0 0 40 [some (.ref 0), x1, some (.int 0), some (.int (nI s)), some (.int (nI n)), some (.int (nI e)), x6] [] [jb_main imm Im Tm rowm stkm tpm, jb_sch13 I W T, s2, s3, s4, s5, s6, s7, s8, s9, s10, s11] _
    refine jb_iload (pc' := 42) dX11_lead_40 rfl rfl ?_
    refine jb_aload_n (pc' := 43) dX11_lead_42 rfl rfl ?_
    refine gf_X11_42 (pc' := 46) (v := .ref 13) dX11_lead_43 rfl rfl rfl ?_
    refine gf_X11_113 (pc' := 49) (v := .int (I 3)) dX11_lead_46 rfl rfl rfl ?_
    refine jb_top (v := .int (I 3)) (w := .int (nI (V 0 2))) (jb_vI r3) ?_
    refine jb_icmp_ge (tgt := 98) (pc' := 52) dX11_lead_49 (by decide) rfl (fun z => absurd z (nI_ge (a := e) (b := V 0 2) (by omega) (by omega))) (fun _ => ?_)
    refine jb_aload_n (pc' := 53) dX11_lead_52 rfl rfl ?_
    refine gf_X11_42 (pc' := 56) (v := .ref 13) dX11_lead_53 rfl rfl rfl ?_
    refine gf_X11_120 (pc' := 59) (v := .ref 19) dX11_lead_56 rfl rfl rfl ?_
    refine jb_iconst (pc' := 60) 4 dX11_lead_59 (by decide) rfl ?_
    refine jb_aaload (pc' := 61) (i9 := 4) (r := 24) (Or.inl rfl) dX11_lead_60 rfl jb_x4 (by decide) rfl rfl ?_
    refine jb_iload_n (pc' := 62) dX11_lead_61 rfl rfl ?_
    refine jb_iaload (pc' := 63) (i9 := s) (f := (W 8)) dX11_lead_62 rfl (jb_ix_nI (by omega)) (by omega) rfl ?_
    refine jb_top (v := .int ((W 8) s)) (w := .int (nI (V 8 s) - 1)) (jb_vI (rs s (by omega)).2.2.2.2.1) ?_
    refine jb_istore_ (pc' := 65) dX11_lead_63 (by decide) (jb_at6 rfl) rfl ?_
    refine jb_iload (pc' := 67) dX11_lead_65 rfl rfl ?_
    refine jb_iconst (pc' := 68) 0 dX11_lead_67 (by decide) rfl ?_
    refine jb_aload_n (pc' := 69) dX11_lead_68 rfl rfl ?_
    refine gf_X11_42 (pc' := 72) (v := .ref 13) dX11_lead_69 rfl rfl rfl ?_
    refine gf_X11_113 (pc' := 75) (v := .int (I 3)) dX11_lead_72 rfl rfl rfl ?_
    refine jb_top (v := .int (I 3)) (w := .int (nI (V 0 2))) (jb_vI r3) ?_
    refine jb_iconst (pc' := 76) 1 dX11_lead_75 (by decide) rfl ?_
    refine jb_isub (pc' := 77) dX11_lead_76 rfl ?_
    refine jb_callS (pc' := 80) (As := [.int (nI (V 8 s) - 1), .int 0, .int ((nI (V 0 2)) - 1)]) (a2 := 0) (b2 := 0) wv_X11_74 dX11_lead_77 (c_isOutN (nI (V 8 s) - 1) (V 0 2) (by omega)) rfl ⟨by decide, Nat.le_of_eq (Nat.zero_add _), Nat.le_of_eq (Nat.zero_add _)⟩ (Nat.le_of_ble_eq_true rfl) rfl (fun r h9 hq => ?_)
    rcases hq with ⟨rfl, ⟨oo, rfl⟩ | ⟨oo, rfl⟩⟩
    · show jb_J _ RX11 cX11_lead 7 (Option.some .int) false 1 0 0 80 [some (.ref 0), x1, some (.int 0), some (.int (nI s)), some (.int (nI n)), some (.int (nI e)), some (.int (nI (V 8 s) - 1))] [.int 1] [jb_main imm Im Tm rowm stkm tpm, jb_sch13 I W T, s2, s3, s4, s5, s6, s7, s8, s9, s10, s11] _
      refine jb_if_eq (tgt := 86) (pc' := 83) dX11_lead_80 (by decide) rfl (fun z => absurd z (by decide)) (fun _ => ?_)
      refine jb_goto (pc' := 98) dX11_lead_83 (by decide) ?_
      refine jb_iload_n (pc' := 99) dX11_lead_98 rfl rfl ?_
      refine jb_if_ne (tgt := 106) (pc' := 102) dX11_lead_99 (by decide) rfl (fun z => absurd (by decide) z) (fun _ => ?_)
      refine jb_iload_n (pc' := 103) dX11_lead_102 rfl rfl ?_
      refine jb_goto (pc' := 108) dX11_lead_103 (by decide) ?_
      refine jb_iret dX11_lead_108 rfl ?_
      have h0 : V 8 s = 0 := Classical.byContradiction (fun z => oo ((jn_tob (by omega) (by omega)).mpr z))
      have e9 : jm_ld V (k + 1) s n = (s, n) := if_pos h0
      rw [e9]
      exact ⟨rfl, rfl⟩
    · show jb_J _ RX11 cX11_lead 7 (Option.some .int) false 1 0 0 80 [some (.ref 0), x1, some (.int 0), some (.int (nI s)), some (.int (nI n)), some (.int (nI e)), some (.int (nI (V 8 s) - 1))] [.int 0] [jb_main imm Im Tm rowm stkm tpm, jb_sch13 I W T, s2, s3, s4, s5, s6, s7, s8, s9, s10, s11] _
      refine jb_if_eq (tgt := 86) (pc' := 83) dX11_lead_80 (by decide) rfl (fun _ => ?_) (fun z => absurd (by decide) z)
      refine jb_iload (pc' := 88) dX11_lead_86 rfl rfl ?_
      refine jb_istore_n_ (pc' := 89) dX11_lead_88 (by decide) (jb_at3 rfl) rfl ?_
      refine jb_iinc_ (pc' := 92) (nI (n + 1)) dX11_lead_89 (by decide) rfl (jb_inc n 1) (jb_at4 rfl) rfl ?_
      refine jb_iinc_ (pc' := 95) (nI (e + 1)) dX11_lead_92 (by decide) rfl (jb_inc e 1) (jb_at5 rfl) rfl ?_
      refine jb_goto (pc' := 40) dX11_lead_95 (by decide) ?_
      have h0 : ¬ V 8 s = 0 := (jn_tob (by omega) (by omega)).mp oo
      have e9 : jm_ld V (k + 1) s n = jm_ld V k (V 8 s - 1) (n + 1) := if_neg h0
      rw [e9]
      have e8 : nI (V 8 s) - 1 = nI (V 8 s - 1) := pk_sub (a := V 8 s) (b := 1) (by omega)
      refine jb_locs (congrArg (fun y9 => ([some (.ref 0), x1, some (.int 0), some (.int y9), some (.int (nI (n + 1))), some (.int (nI (e + 1))), some (.int y9)] : List (Option Value))) e8) ?_
      exact ih (e + 1) (V 8 s - 1) (n + 1) _ (by omega) (by omega) (by omega)
set_option maxRecDepth 100000 in
set_option maxHeartbeats 4000000 in
theorem kx_lead0 {sc : Nat × (Nat → Int32)} {s2 s3 s4 s5 s6 s7 s8 s9 s10 s11 : List va_E} {V : Nat → Nat → Nat} (imm : Int32) (Im rowm stkm tpm : Nat → Int32) (Tm : Nat → Value) (I : Nat → Int32) (W : Nat → Nat → Int32) (T : Nat → Value) (hr : jr_ V I W) (hk : jv_ok V) (s : Nat) (hs : s < V 0 2) : jb_C sc yX11_lead cX11_lead 7 (Option.some .int) 1 0 0 [.ref 0, .int (nI s), .int 0] [jb_main imm Im Tm rowm stkm tpm, jb_sch13 I W T, s2, s3, s4, s5, s6, s7, s8, s9, s10, s11] (fun r h9 => r = some (.int (nI (jm_ld V (V 0 2) s 1).1)) ∧ h9 = [jb_main imm Im Tm rowm stkm tpm, jb_sch13 I W T, s2, s3, s4, s5, s6, s7, s8, s9, s10, s11]) := by
  refine jb_CofJ (ini := false) (by decide +kernel) (fun h => by cases h) (Nat.le_of_ble_eq_true rfl) ?_
  show jb_J sc RX11 cX11_lead 7 (Option.some .int) false 1 0 0 0 [some (.ref 0), some (.int (nI s)), some (.int 0), none, none, none, none] [] [jb_main imm Im Tm rowm stkm tpm, jb_sch13 I W T, s2, s3, s4, s5, s6, s7, s8, s9, s10, s11] _
  have hr0 := hr
  have hk0 := hk
  obtain ⟨r0, r2, r3, r4, a0, a1, a2, rv, rs, rd⟩ := hr
  obtain ⟨k0, k1, k2, k3, k4, k5, k6, k7, kv, ks, kd⟩ := hk
  refine jb_iload_n (pc' := 1) dX11_lead_0 rfl rfl ?_
  refine jb_iconst (pc' := 2) 0 dX11_lead_1 (by decide) rfl ?_
  refine jb_aload_n (pc' := 3) dX11_lead_2 rfl rfl ?_
  refine gf_X11_42 (pc' := 6) (v := .ref 13) dX11_lead_3 rfl rfl rfl ?_
  refine gf_X11_113 (pc' := 9) (v := .int (I 3)) dX11_lead_6 rfl rfl rfl ?_
  refine jb_top (v := .int (I 3)) (w := .int (nI (V 0 2))) (jb_vI r3) ?_
  refine jb_iconst (pc' := 10) 1 dX11_lead_9 (by decide) rfl ?_
  refine jb_isub (pc' := 11) dX11_lead_10 rfl ?_
  refine jb_callS (pc' := 14) (As := [.int (nI s), .int 0, .int ((nI (V 0 2)) - 1)]) (a2 := 0) (b2 := 0) wv_X11_74 dX11_lead_11 (c_isOutNG s (V 0 2) (by omega) (by omega)) rfl ⟨by decide, Nat.le_of_eq (Nat.zero_add _), Nat.le_of_eq (Nat.zero_add _)⟩ (Nat.le_of_ble_eq_true rfl) rfl (fun r h9 hq => ?_)
  obtain ⟨rfl, rfl⟩ := hq
  show jb_J _ RX11 cX11_lead 7 (Option.some .int) false 1 0 0 14 [some (.ref 0), some (.int (nI s)), some (.int 0), none, none, none, none] [.int 0] [jb_main imm Im Tm rowm stkm tpm, jb_sch13 I W T, s2, s3, s4, s5, s6, s7, s8, s9, s10, s11] _
  refine jb_if_ne (tgt := 26) (pc' := 17) dX11_lead_14 (by decide) rfl (fun z => absurd (by decide) z) (fun _ => ?_)
  refine jb_iload_n (pc' := 18) dX11_lead_17 rfl rfl ?_
  refine jb_iconst (pc' := 19) 0 dX11_lead_18 (by decide) rfl ?_
  refine jb_iconst (pc' := 20) 1 dX11_lead_19 (by decide) rfl ?_
  refine jb_callS (pc' := 23) (As := [.int 0, .int 0, .int 1]) (a2 := 0) (b2 := 0) wv_X11_74 dX11_lead_20 (c_isOutLG 0 0 1 (by omega) (by omega) (by omega)) rfl ⟨by decide, Nat.le_of_eq (Nat.zero_add _), Nat.le_of_eq (Nat.zero_add _)⟩ (Nat.le_of_ble_eq_true rfl) rfl (fun r h9 hq => ?_)
  obtain ⟨rfl, rfl⟩ := hq
  show jb_J _ RX11 cX11_lead 7 (Option.some .int) false 1 0 0 23 [some (.ref 0), some (.int (nI s)), some (.int 0), none, none, none, none] [.int 0] [jb_main imm Im Tm rowm stkm tpm, jb_sch13 I W T, s2, s3, s4, s5, s6, s7, s8, s9, s10, s11] _
  refine jb_if_eq (tgt := 32) (pc' := 26) dX11_lead_23 (by decide) rfl (fun _ => ?_) (fun z => absurd (by decide) z)
  refine jb_iload_n (pc' := 33) dX11_lead_32 rfl rfl ?_
  refine jb_istore_n_ (pc' := 34) dX11_lead_33 (by decide) (jb_at3 rfl) rfl ?_
  refine jb_iconst (pc' := 35) 1 dX11_lead_34 (by decide) rfl ?_
  refine jb_istore_ (pc' := 37) dX11_lead_35 (by decide) (jb_at4 rfl) rfl ?_
  refine jb_iconst (pc' := 38) 0 dX11_lead_37 (by decide) rfl ?_
  refine jb_istore_ (pc' := 40) dX11_lead_38 (by decide) (jb_at5 rfl) rfl ?_
  exact l_lead0 imm Im rowm stkm tpm Tm I W T hr0 hk0 _ (V 0 2) 0 s 1 _ (by omega) hs (by omega)
set_option maxRecDepth 100000 in
set_option maxHeartbeats 4000000 in
theorem l_lead1 {sc : Nat × (Nat → Int32)} {s2 s3 s4 s5 s6 s7 s8 s9 s10 s11 : List va_E} {V : Nat → Nat → Nat} (imm : Int32) (Im rowm stkm tpm : Nat → Int32) (Tm : Nat → Value) (I : Nat → Int32) (W : Nat → Nat → Int32) (T : Nat → Value) (hr : jr_ V I W) (hk : jv_ok V) (x1 : Option Value) : ∀ (k e s n : Nat) (x6 : Option Value), e + k = V 0 2 → s < k → n ≤ e + 1 → jb_J sc RX11 cX11_lead 7 (Option.some .int) false 1 0 0 40 [some (.ref 0), x1, some (.int 1), some (.int (nI s)), some (.int (nI n)), some (.int (nI e)), x6] [] [jb_main imm Im Tm rowm stkm tpm, jb_sch13 I W T, s2, s3, s4, s5, s6, s7, s8, s9, s10, s11] (fun r h9 => r = some (.int (nI (jm_ld V k s n).2)) ∧ h9 = [jb_main imm Im Tm rowm stkm tpm, jb_sch13 I W T, s2, s3, s4, s5, s6, s7, s8, s9, s10, s11]) := by
  have hr0 := hr
  have hk0 := hk
  obtain ⟨r0, r2, r3, r4, a0, a1, a2, rv, rs, rd⟩ := hr
  obtain ⟨k0, k1, k2, k3, k4, k5, k6, k7, kv, ks, kd⟩ := hk
  intro k
  induction k with
  | zero => intro e s n x6 he hs; omega
  | succ k ih =>
    intro e s n x6 he hs hn
    have q1 := ks s (by omega)
    show jb_J _ RX11 cX11_lead 7 (Option.some .int) false 1 0 0 40 [some (.ref 0), x1, some (.int 1), some (.int (nI s)), some (.int (nI n)), some (.int (nI e)), x6] [] [jb_main imm Im Tm rowm stkm tpm, jb_sch13 I W T, s2, s3, s4, s5, s6, s7, s8, s9, s10, s11] _
    refine jb_iload (pc' := 42) dX11_lead_40 rfl rfl ?_
    refine jb_aload_n (pc' := 43) dX11_lead_42 rfl rfl ?_
    refine gf_X11_42 (pc' := 46) (v := .ref 13) dX11_lead_43 rfl rfl rfl ?_
    refine gf_X11_113 (pc' := 49) (v := .int (I 3)) dX11_lead_46 rfl rfl rfl ?_
    refine jb_top (v := .int (I 3)) (w := .int (nI (V 0 2))) (jb_vI r3) ?_
    refine jb_icmp_ge (tgt := 98) (pc' := 52) dX11_lead_49 (by decide) rfl (fun z => absurd z (nI_ge (a := e) (b := V 0 2) (by omega) (by omega))) (fun _ => ?_)
    refine jb_aload_n (pc' := 53) dX11_lead_52 rfl rfl ?_
    refine gf_X11_42 (pc' := 56) (v := .ref 13) dX11_lead_53 rfl rfl rfl ?_
    refine gf_X11_120 (pc' := 59) (v := .ref 19) dX11_lead_56 rfl rfl rfl ?_
    refine jb_iconst (pc' := 60) 4 dX11_lead_59 (by decide) rfl ?_
    refine jb_aaload (pc' := 61) (i9 := 4) (r := 24) (Or.inl rfl) dX11_lead_60 rfl jb_x4 (by decide) rfl rfl ?_
    refine jb_iload_n (pc' := 62) dX11_lead_61 rfl rfl ?_
    refine jb_iaload (pc' := 63) (i9 := s) (f := (W 8)) dX11_lead_62 rfl (jb_ix_nI (by omega)) (by omega) rfl ?_
    refine jb_top (v := .int ((W 8) s)) (w := .int (nI (V 8 s) - 1)) (jb_vI (rs s (by omega)).2.2.2.2.1) ?_
    refine jb_istore_ (pc' := 65) dX11_lead_63 (by decide) (jb_at6 rfl) rfl ?_
    refine jb_iload (pc' := 67) dX11_lead_65 rfl rfl ?_
    refine jb_iconst (pc' := 68) 0 dX11_lead_67 (by decide) rfl ?_
    refine jb_aload_n (pc' := 69) dX11_lead_68 rfl rfl ?_
    refine gf_X11_42 (pc' := 72) (v := .ref 13) dX11_lead_69 rfl rfl rfl ?_
    refine gf_X11_113 (pc' := 75) (v := .int (I 3)) dX11_lead_72 rfl rfl rfl ?_
    refine jb_top (v := .int (I 3)) (w := .int (nI (V 0 2))) (jb_vI r3) ?_
    refine jb_iconst (pc' := 76) 1 dX11_lead_75 (by decide) rfl ?_
    refine jb_isub (pc' := 77) dX11_lead_76 rfl ?_
    refine jb_callS (pc' := 80) (As := [.int (nI (V 8 s) - 1), .int 0, .int ((nI (V 0 2)) - 1)]) (a2 := 0) (b2 := 0) wv_X11_74 dX11_lead_77 (c_isOutN (nI (V 8 s) - 1) (V 0 2) (by omega)) rfl ⟨by decide, Nat.le_of_eq (Nat.zero_add _), Nat.le_of_eq (Nat.zero_add _)⟩ (Nat.le_of_ble_eq_true rfl) rfl (fun r h9 hq => ?_)
    rcases hq with ⟨rfl, ⟨oo, rfl⟩ | ⟨oo, rfl⟩⟩
    · show jb_J _ RX11 cX11_lead 7 (Option.some .int) false 1 0 0 80 [some (.ref 0), x1, some (.int 1), some (.int (nI s)), some (.int (nI n)), some (.int (nI e)), some (.int (nI (V 8 s) - 1))] [.int 1] [jb_main imm Im Tm rowm stkm tpm, jb_sch13 I W T, s2, s3, s4, s5, s6, s7, s8, s9, s10, s11] _
      refine jb_if_eq (tgt := 86) (pc' := 83) dX11_lead_80 (by decide) rfl (fun z => absurd z (by decide)) (fun _ => ?_)
      refine jb_goto (pc' := 98) dX11_lead_83 (by decide) ?_
      refine jb_iload_n (pc' := 99) dX11_lead_98 rfl rfl ?_
      refine jb_if_ne (tgt := 106) (pc' := 102) dX11_lead_99 (by decide) rfl (fun _ => ?_) (fun z => absurd z (by decide))
      refine jb_iload (pc' := 108) dX11_lead_106 rfl rfl ?_
      refine jb_iret dX11_lead_108 rfl ?_
      have h0 : V 8 s = 0 := Classical.byContradiction (fun z => oo ((jn_tob (by omega) (by omega)).mpr z))
      have e9 : jm_ld V (k + 1) s n = (s, n) := if_pos h0
      rw [e9]
      exact ⟨rfl, rfl⟩
    · show jb_J _ RX11 cX11_lead 7 (Option.some .int) false 1 0 0 80 [some (.ref 0), x1, some (.int 1), some (.int (nI s)), some (.int (nI n)), some (.int (nI e)), some (.int (nI (V 8 s) - 1))] [.int 0] [jb_main imm Im Tm rowm stkm tpm, jb_sch13 I W T, s2, s3, s4, s5, s6, s7, s8, s9, s10, s11] _
      refine jb_if_eq (tgt := 86) (pc' := 83) dX11_lead_80 (by decide) rfl (fun _ => ?_) (fun z => absurd (by decide) z)
      refine jb_iload (pc' := 88) dX11_lead_86 rfl rfl ?_
      refine jb_istore_n_ (pc' := 89) dX11_lead_88 (by decide) (jb_at3 rfl) rfl ?_
      refine jb_iinc_ (pc' := 92) (nI (n + 1)) dX11_lead_89 (by decide) rfl (jb_inc n 1) (jb_at4 rfl) rfl ?_
      refine jb_iinc_ (pc' := 95) (nI (e + 1)) dX11_lead_92 (by decide) rfl (jb_inc e 1) (jb_at5 rfl) rfl ?_
      refine jb_goto (pc' := 40) dX11_lead_95 (by decide) ?_
      have h0 : ¬ V 8 s = 0 := (jn_tob (by omega) (by omega)).mp oo
      have e9 : jm_ld V (k + 1) s n = jm_ld V k (V 8 s - 1) (n + 1) := if_neg h0
      rw [e9]
      have e8 : nI (V 8 s) - 1 = nI (V 8 s - 1) := pk_sub (a := V 8 s) (b := 1) (by omega)
      refine jb_locs (congrArg (fun y9 => ([some (.ref 0), x1, some (.int 1), some (.int y9), some (.int (nI (n + 1))), some (.int (nI (e + 1))), some (.int y9)] : List (Option Value))) e8) ?_
      exact ih (e + 1) (V 8 s - 1) (n + 1) _ (by omega) (by omega) (by omega)
set_option maxRecDepth 100000 in
set_option maxHeartbeats 4000000 in
theorem kx_lead1 {sc : Nat × (Nat → Int32)} {s2 s3 s4 s5 s6 s7 s8 s9 s10 s11 : List va_E} {V : Nat → Nat → Nat} (imm : Int32) (Im rowm stkm tpm : Nat → Int32) (Tm : Nat → Value) (I : Nat → Int32) (W : Nat → Nat → Int32) (T : Nat → Value) (hr : jr_ V I W) (hk : jv_ok V) (s : Nat) (hs : s < V 0 2) : jb_C sc yX11_lead cX11_lead 7 (Option.some .int) 1 0 0 [.ref 0, .int (nI s), .int 1] [jb_main imm Im Tm rowm stkm tpm, jb_sch13 I W T, s2, s3, s4, s5, s6, s7, s8, s9, s10, s11] (fun r h9 => r = some (.int (nI (jm_ld V (V 0 2) s 1).2)) ∧ h9 = [jb_main imm Im Tm rowm stkm tpm, jb_sch13 I W T, s2, s3, s4, s5, s6, s7, s8, s9, s10, s11]) := by
  refine jb_CofJ (ini := false) (by decide +kernel) (fun h => by cases h) (Nat.le_of_ble_eq_true rfl) ?_
  show jb_J sc RX11 cX11_lead 7 (Option.some .int) false 1 0 0 0 [some (.ref 0), some (.int (nI s)), some (.int 1), none, none, none, none] [] [jb_main imm Im Tm rowm stkm tpm, jb_sch13 I W T, s2, s3, s4, s5, s6, s7, s8, s9, s10, s11] _
  have hr0 := hr
  have hk0 := hk
  obtain ⟨r0, r2, r3, r4, a0, a1, a2, rv, rs, rd⟩ := hr
  obtain ⟨k0, k1, k2, k3, k4, k5, k6, k7, kv, ks, kd⟩ := hk
  refine jb_iload_n (pc' := 1) dX11_lead_0 rfl rfl ?_
  refine jb_iconst (pc' := 2) 0 dX11_lead_1 (by decide) rfl ?_
  refine jb_aload_n (pc' := 3) dX11_lead_2 rfl rfl ?_
  refine gf_X11_42 (pc' := 6) (v := .ref 13) dX11_lead_3 rfl rfl rfl ?_
  refine gf_X11_113 (pc' := 9) (v := .int (I 3)) dX11_lead_6 rfl rfl rfl ?_
  refine jb_top (v := .int (I 3)) (w := .int (nI (V 0 2))) (jb_vI r3) ?_
  refine jb_iconst (pc' := 10) 1 dX11_lead_9 (by decide) rfl ?_
  refine jb_isub (pc' := 11) dX11_lead_10 rfl ?_
  refine jb_callS (pc' := 14) (As := [.int (nI s), .int 0, .int ((nI (V 0 2)) - 1)]) (a2 := 0) (b2 := 0) wv_X11_74 dX11_lead_11 (c_isOutNG s (V 0 2) (by omega) (by omega)) rfl ⟨by decide, Nat.le_of_eq (Nat.zero_add _), Nat.le_of_eq (Nat.zero_add _)⟩ (Nat.le_of_ble_eq_true rfl) rfl (fun r h9 hq => ?_)
  obtain ⟨rfl, rfl⟩ := hq
  show jb_J _ RX11 cX11_lead 7 (Option.some .int) false 1 0 0 14 [some (.ref 0), some (.int (nI s)), some (.int 1), none, none, none, none] [.int 0] [jb_main imm Im Tm rowm stkm tpm, jb_sch13 I W T, s2, s3, s4, s5, s6, s7, s8, s9, s10, s11] _
  refine jb_if_ne (tgt := 26) (pc' := 17) dX11_lead_14 (by decide) rfl (fun z => absurd (by decide) z) (fun _ => ?_)
  refine jb_iload_n (pc' := 18) dX11_lead_17 rfl rfl ?_
  refine jb_iconst (pc' := 19) 0 dX11_lead_18 (by decide) rfl ?_
  refine jb_iconst (pc' := 20) 1 dX11_lead_19 (by decide) rfl ?_
  refine jb_callS (pc' := 23) (As := [.int 1, .int 0, .int 1]) (a2 := 0) (b2 := 0) wv_X11_74 dX11_lead_20 (c_isOutLG 1 0 1 (by omega) (by omega) (by omega)) rfl ⟨by decide, Nat.le_of_eq (Nat.zero_add _), Nat.le_of_eq (Nat.zero_add _)⟩ (Nat.le_of_ble_eq_true rfl) rfl (fun r h9 hq => ?_)
  obtain ⟨rfl, rfl⟩ := hq
  show jb_J _ RX11 cX11_lead 7 (Option.some .int) false 1 0 0 23 [some (.ref 0), some (.int (nI s)), some (.int 1), none, none, none, none] [.int 0] [jb_main imm Im Tm rowm stkm tpm, jb_sch13 I W T, s2, s3, s4, s5, s6, s7, s8, s9, s10, s11] _
  refine jb_if_eq (tgt := 32) (pc' := 26) dX11_lead_23 (by decide) rfl (fun _ => ?_) (fun z => absurd (by decide) z)
  refine jb_iload_n (pc' := 33) dX11_lead_32 rfl rfl ?_
  refine jb_istore_n_ (pc' := 34) dX11_lead_33 (by decide) (jb_at3 rfl) rfl ?_
  refine jb_iconst (pc' := 35) 1 dX11_lead_34 (by decide) rfl ?_
  refine jb_istore_ (pc' := 37) dX11_lead_35 (by decide) (jb_at4 rfl) rfl ?_
  refine jb_iconst (pc' := 38) 0 dX11_lead_37 (by decide) rfl ?_
  refine jb_istore_ (pc' := 40) dX11_lead_38 (by decide) (jb_at5 rfl) rfl ?_
  exact l_lead1 imm Im rowm stkm tpm Tm I W T hr0 hk0 _ (V 0 2) 0 s 1 _ (by omega) hs (by omega)
set_option maxRecDepth 100000 in
set_option maxHeartbeats 4000000 in
theorem kx_taught {sc : Nat × (Nat → Int32)} {s2 s3 s4 s5 s6 s7 s8 s9 s10 s11 : List va_E} {V : Nat → Nat → Nat} (imm : Int32) (Im rowm stkm tpm : Nat → Int32) (Tm : Nat → Value) (I : Nat → Int32) (W : Nat → Nat → Int32) (T : Nat → Value) (hr : jr_ V I W) (hk : jv_ok V)  : jb_C sc yX11_taught cX11_taught 1 (Option.some .int) 2 0 0 [.ref 0] [jb_main imm Im Tm rowm stkm tpm, jb_sch13 I W T, s2, s3, s4, s5, s6, s7, s8, s9, s10, s11] (fun r h9 => r = some (.int (nI (jm_ta V))) ∧ h9 = [jb_main imm Im Tm rowm stkm tpm, jb_sch13 I W T, s2, s3, s4, s5, s6, s7, s8, s9, s10, s11]) := by
  refine jb_CofJ (ini := false) (by decide +kernel) (fun h => by cases h) (Nat.le_of_ble_eq_true rfl) ?_
  show jb_J sc RX11 cX11_taught 1 (Option.some .int) false 2 0 0 0 [some (.ref 0)] [] [jb_main imm Im Tm rowm stkm tpm, jb_sch13 I W T, s2, s3, s4, s5, s6, s7, s8, s9, s10, s11] _
  have hr0 := hr
  have hk0 := hk
  obtain ⟨r0, r2, r3, r4, a0, a1, a2, rv, rs, rd⟩ := hr
  obtain ⟨k0, k1, k2, k3, k4, k5, k6, k7, kv, ks, kd⟩ := hk
  refine jb_aload_n (pc' := 1) dX11_taught_0 rfl rfl ?_
  refine gf_X11_42 (pc' := 4) (v := .ref 13) dX11_taught_1 rfl rfl rfl ?_
  refine jb_callV (pc' := 7) (ci := 9) (q := 13) (As := []) (a2 := 0) (b2 := 0) wv_X11_123 rfl dX11_taught_4 (c_taught_13 I W T ⟨r0, r2, r3, r4, a0, a1, a2, rv, rs, rd⟩ ⟨k0, k1, k2, k3, k4, k5, k6, k7, kv, ks, kd⟩) rfl rfl ⟨by decide, Nat.le_of_eq (Nat.zero_add _), Nat.le_of_eq (Nat.zero_add _)⟩ (Nat.le_of_ble_eq_true rfl) rfl (fun r h9 hq => ?_)
  obtain ⟨rfl, rfl⟩ := hq
  show jb_J _ RX11 cX11_taught 1 (Option.some .int) false 2 0 0 7 [some (.ref 0)] [.int (nI (jm_ta V))] [jb_main imm Im Tm rowm stkm tpm, jb_sch13 I W T, s2, s3, s4, s5, s6, s7, s8, s9, s10, s11] _
  refine jb_iret dX11_taught_7 rfl ?_
  exact ⟨rfl, rfl⟩
set_option maxRecDepth 100000 in
set_option maxHeartbeats 4000000 in
theorem kx_forget {sc : Nat × (Nat → Int32)} {s2 s3 s4 s5 s6 s7 s8 s9 s10 s11 : List va_E} {V : Nat → Nat → Nat} (imm : Int32) (Im rowm stkm tpm : Nat → Int32) (Tm : Nat → Value) (I : Nat → Int32) (W : Nat → Nat → Int32) (T : Nat → Value) (hr : jr_ V I W) (hk : jv_ok V)  : jb_C sc yX11_forget cX11_forget 2 (Option.some .int) 0 0 0 [.ref 0] [jb_main imm Im Tm rowm stkm tpm, jb_sch13 I W T, s2, s3, s4, s5, s6, s7, s8, s9, s10, s11] (fun r h9 => r = some (.int (nI (V 0 2))) ∧ ∃ I9 W9, jr_ (jm_fo V) I9 W9 ∧ I9 1 = I 1 ∧ jr_f I W I9 W9 ∧ h9 = [jb_main imm Im Tm rowm stkm tpm, jb_sch13 I9 W9 T, s2, s3, s4, s5, s6, s7, s8, s9, s10, s11]) := by
  refine jb_CofJ (ini := false) (by decide +kernel) (fun h => by cases h) (Nat.le_of_ble_eq_true rfl) ?_
  show jb_J sc RX11 cX11_forget 2 (Option.some .int) false 0 0 0 0 [some (.ref 0), none] [] [jb_main imm Im Tm rowm stkm tpm, jb_sch13 I W T, s2, s3, s4, s5, s6, s7, s8, s9, s10, s11] _
  have hr0 := hr
  have hk0 := hk
  obtain ⟨r0, r2, r3, r4, a0, a1, a2, rv, rs, rd⟩ := hr
  obtain ⟨k0, k1, k2, k3, k4, k5, k6, k7, kv, ks, kd⟩ := hk
  refine jb_aload_n (pc' := 1) dX11_forget_0 rfl rfl ?_
  refine gf_X11_42 (pc' := 4) (v := .ref 13) dX11_forget_1 rfl rfl rfl ?_
  refine gf_X11_113 (pc' := 7) (v := .int (I 3)) dX11_forget_4 rfl rfl rfl ?_
  refine jb_top (v := .int (I 3)) (w := .int (nI (V 0 2))) (jb_vI r3) ?_
  refine jb_istore_n_ (pc' := 8) dX11_forget_7 (by decide) (jb_at1 rfl) rfl ?_
  refine jb_aload_n (pc' := 9) dX11_forget_8 rfl rfl ?_
  refine gf_X11_42 (pc' := 12) (v := .ref 13) dX11_forget_9 rfl rfl rfl ?_
  refine jb_iconst (pc' := 13) 0 dX11_forget_12 (by decide) rfl ?_
  refine pf_X11_113 (pc' := 16) (h' := [jb_main imm Im Tm rowm stkm tpm, jb_sch13 (upd I 3 0) W T, s2, s3, s4, s5, s6, s7, s8, s9, s10, s11]) dX11_forget_13 (fun _ => ⟨rfl, rfl⟩) rfl (Nat.le_of_ble_eq_true rfl) rfl rfl ?_
  refine jb_aload_n (pc' := 17) dX11_forget_16 rfl rfl ?_
  refine gf_X11_42 (pc' := 20) (v := .ref 13) dX11_forget_17 rfl rfl rfl ?_
  refine jb_iconst (pc' := 21) 0 dX11_forget_20 (by decide) rfl ?_
  refine pf_X11_127 (pc' := 24) (h' := [jb_main imm Im Tm rowm stkm tpm, jb_sch13 (upd (upd I 3 0) 4 0) W T, s2, s3, s4, s5, s6, s7, s8, s9, s10, s11]) dX11_forget_21 (fun _ => ⟨rfl, rfl⟩) rfl (Nat.le_of_ble_eq_true rfl) rfl rfl ?_
  refine jb_iload_n (pc' := 25) dX11_forget_24 rfl rfl ?_
  refine jb_iret dX11_forget_25 rfl ?_
  exact ⟨rfl, (upd (upd I 3 0) 4 0), W, jr_fo hr0, rfl, ⟨rfl, rfl, rfl, rfl⟩, rfl⟩
set_option maxRecDepth 100000 in
set_option maxHeartbeats 4000000 in
theorem kx_seed {sc : Nat × (Nat → Int32)} {s2 s3 s4 s5 s6 s7 s8 s9 s10 s11 : List va_E} {V : Nat → Nat → Nat} (imm : Int32) (Im rowm stkm tpm : Nat → Int32) (Tm : Nat → Value) (I : Nat → Int32) (W : Nat → Nat → Int32) (T : Nat → Value) (hr : jr_ V I W) (hk : jv_ok V) (v : Int32) : jb_C sc yX11_seed cX11_seed 3 (Option.some .int) 0 0 0 [.ref 0, .int v] [jb_main imm Im Tm rowm stkm tpm, jb_sch13 I W T, s2, s3, s4, s5, s6, s7, s8, s9, s10, s11] (fun r h9 => r = some (.int (I 1)) ∧ h9 = [jb_main imm Im Tm rowm stkm tpm, jb_sch13 (upd I 1 v) W T, s2, s3, s4, s5, s6, s7, s8, s9, s10, s11]) := by
  refine jb_CofJ (ini := false) (by decide +kernel) (fun h => by cases h) (Nat.le_of_ble_eq_true rfl) ?_
  show jb_J sc RX11 cX11_seed 3 (Option.some .int) false 0 0 0 0 [some (.ref 0), some (.int v), none] [] [jb_main imm Im Tm rowm stkm tpm, jb_sch13 I W T, s2, s3, s4, s5, s6, s7, s8, s9, s10, s11] _
  have hr0 := hr
  have hk0 := hk
  obtain ⟨r0, r2, r3, r4, a0, a1, a2, rv, rs, rd⟩ := hr
  obtain ⟨k0, k1, k2, k3, k4, k5, k6, k7, kv, ks, kd⟩ := hk
  refine jb_aload_n (pc' := 1) dX11_seed_0 rfl rfl ?_
  refine gf_X11_42 (pc' := 4) (v := .ref 13) dX11_seed_1 rfl rfl rfl ?_
  refine gf_X11_202 (pc' := 7) (v := .int (I 1)) dX11_seed_4 rfl rfl rfl ?_
  refine jb_istore_n_ (pc' := 8) dX11_seed_7 (by decide) (jb_at2 rfl) rfl ?_
  refine jb_aload_n (pc' := 9) dX11_seed_8 rfl rfl ?_
  refine gf_X11_42 (pc' := 12) (v := .ref 13) dX11_seed_9 rfl rfl rfl ?_
  refine jb_iload_n (pc' := 13) dX11_seed_12 rfl rfl ?_
  refine pf_X11_202 (pc' := 16) (h' := [jb_main imm Im Tm rowm stkm tpm, jb_sch13 (upd I 1 v) W T, s2, s3, s4, s5, s6, s7, s8, s9, s10, s11]) dX11_seed_13 (fun _ => ⟨rfl, rfl⟩) rfl (Nat.le_of_ble_eq_true rfl) rfl rfl ?_
  refine jb_iload_n (pc' := 17) dX11_seed_16 rfl rfl ?_
  refine jb_iret dX11_seed_17 rfl ?_
  exact ⟨rfl, rfl⟩
set_option maxRecDepth 100000 in
set_option maxHeartbeats 4000000 in
theorem kx_law0 {sc : Nat × (Nat → Int32)} {s2 s3 s4 s5 s6 s7 s8 s9 s10 s11 : List va_E} {V : Nat → Nat → Nat} (imm : Int32) (Im rowm stkm tpm : Nat → Int32) (Tm : Nat → Value) (I : Nat → Int32) (W : Nat → Nat → Int32) (T : Nat → Value) (hr : jr_ V I W) (hk : jv_ok V) (a b c e : Int32) {G : jm_G} (hG : jm_Gok G) (hg : jG13 sc T s11 G) : jb_C sc yX11_law cX11_law 6 (Option.some .int) 5 0 0 [.ref 0, .int 0, .int a, .int b, .int c, .int e] [jb_main imm Im Tm rowm stkm tpm, jb_sch13 I W T, s2, s3, s4, s5, s6, s7, s8, s9, s10, s11] (fun r h9 => r = some (.int (G 0 a b c e)) ∧ ∃ stk9, h9 = [jb_main imm Im Tm rowm stk9 tpm, jb_sch13 I W T, s2, s3, s4, s5, s6, s7, s8, s9, s10, s11]) := by
  refine jb_CofJ (ini := false) (by decide +kernel) (fun h => by cases h) (Nat.le_of_ble_eq_true rfl) ?_
  show jb_J sc RX11 cX11_law 6 (Option.some .int) false 5 0 0 0 [some (.ref 0), some (.int 0), some (.int a), some (.int b), some (.int c), some (.int e)] [] [jb_main imm Im Tm rowm stkm tpm, jb_sch13 I W T, s2, s3, s4, s5, s6, s7, s8, s9, s10, s11] _
  have hr0 := hr
  have hk0 := hk
  obtain ⟨r0, r2, r3, r4, a0, a1, a2, rv, rs, rd⟩ := hr
  obtain ⟨k0, k1, k2, k3, k4, k5, k6, k7, kv, ks, kd⟩ := hk
  refine jb_iload_n (pc' := 1) dX11_law_0 rfl rfl ?_
  refine jb_iconst (pc' := 2) 0 dX11_law_1 (by decide) rfl ?_
  refine jb_iconst (pc' := 3) 1 dX11_law_2 (by decide) rfl ?_
  refine jb_callS (pc' := 6) (As := [.int 0, .int 0, .int 1]) (a2 := 0) (b2 := 0) wv_X11_74 dX11_law_3 (c_isOutLG 0 0 1 (by omega) (by omega) (by omega)) rfl ⟨by decide, Nat.le_of_eq (Nat.zero_add _), Nat.le_of_eq (Nat.zero_add _)⟩ (Nat.le_of_ble_eq_true rfl) rfl (fun r h9 hq => ?_)
  obtain ⟨rfl, rfl⟩ := hq
  show jb_J _ RX11 cX11_law 6 (Option.some .int) false 5 0 0 6 [some (.ref 0), some (.int 0), some (.int a), some (.int b), some (.int c), some (.int e)] [.int 0] [jb_main imm Im Tm rowm stkm tpm, jb_sch13 I W T, s2, s3, s4, s5, s6, s7, s8, s9, s10, s11] _
  refine jb_if_eq (tgt := 15) (pc' := 9) dX11_law_6 (by decide) rfl (fun _ => ?_) (fun z => absurd (by decide) z)
  refine jb_aload_n (pc' := 16) dX11_law_15 rfl rfl ?_
  refine gf_X11_42 (pc' := 19) (v := .ref 13) dX11_law_16 rfl rfl rfl ?_
  refine jb_iload_n (pc' := 20) dX11_law_19 rfl rfl ?_
  refine jb_iload_n (pc' := 21) dX11_law_20 rfl rfl ?_
  refine jb_iload_n (pc' := 22) dX11_law_21 rfl rfl ?_
  refine jb_iload (pc' := 24) dX11_law_22 rfl rfl ?_
  refine jb_iload (pc' := 26) dX11_law_24 rfl rfl ?_
  refine jb_callV (pc' := 29) (ci := 9) (q := 13) (As := [.int 0, .int a, .int b, .int c, .int e]) (a2 := 0) (b2 := 0) wv_X11_153 rfl dX11_law_26 (hg _ _ _ _ _ _ _ _ _ _ _ _ _ _ _ _ _ 0 a b c e (by decide)) rfl rfl ⟨by decide, Nat.le_of_eq (Nat.zero_add _), Nat.le_of_eq (Nat.zero_add _)⟩ (Nat.le_of_ble_eq_true rfl) rfl (fun r h9 hq => ?_)
  obtain ⟨rfl, stk9, rfl⟩ := hq
  show jb_J _ RX11 cX11_law 6 (Option.some .int) false 5 0 0 29 [some (.ref 0), some (.int 0), some (.int a), some (.int b), some (.int c), some (.int e)] [.int (G 0 a b c e)] [jb_main imm Im Tm rowm stk9 tpm, jb_sch13 I W T, s2, s3, s4, s5, s6, s7, s8, s9, s10, s11] _
  refine jb_iret dX11_law_29 rfl ?_
  exact ⟨rfl, _, rfl⟩
set_option maxRecDepth 100000 in
set_option maxHeartbeats 4000000 in
theorem kx_law1 {sc : Nat × (Nat → Int32)} {s2 s3 s4 s5 s6 s7 s8 s9 s10 s11 : List va_E} {V : Nat → Nat → Nat} (imm : Int32) (Im rowm stkm tpm : Nat → Int32) (Tm : Nat → Value) (I : Nat → Int32) (W : Nat → Nat → Int32) (T : Nat → Value) (hr : jr_ V I W) (hk : jv_ok V) (a b c e : Int32) {G : jm_G} (hG : jm_Gok G) (hg : jG13 sc T s11 G) : jb_C sc yX11_law cX11_law 6 (Option.some .int) 5 0 0 [.ref 0, .int 1, .int a, .int b, .int c, .int e] [jb_main imm Im Tm rowm stkm tpm, jb_sch13 I W T, s2, s3, s4, s5, s6, s7, s8, s9, s10, s11] (fun r h9 => r = some (.int (G 1 a b c e)) ∧ ∃ stk9, h9 = [jb_main imm Im Tm rowm stk9 tpm, jb_sch13 I W T, s2, s3, s4, s5, s6, s7, s8, s9, s10, s11]) := by
  refine jb_CofJ (ini := false) (by decide +kernel) (fun h => by cases h) (Nat.le_of_ble_eq_true rfl) ?_
  show jb_J sc RX11 cX11_law 6 (Option.some .int) false 5 0 0 0 [some (.ref 0), some (.int 1), some (.int a), some (.int b), some (.int c), some (.int e)] [] [jb_main imm Im Tm rowm stkm tpm, jb_sch13 I W T, s2, s3, s4, s5, s6, s7, s8, s9, s10, s11] _
  have hr0 := hr
  have hk0 := hk
  obtain ⟨r0, r2, r3, r4, a0, a1, a2, rv, rs, rd⟩ := hr
  obtain ⟨k0, k1, k2, k3, k4, k5, k6, k7, kv, ks, kd⟩ := hk
  refine jb_iload_n (pc' := 1) dX11_law_0 rfl rfl ?_
  refine jb_iconst (pc' := 2) 0 dX11_law_1 (by decide) rfl ?_
  refine jb_iconst (pc' := 3) 1 dX11_law_2 (by decide) rfl ?_
  refine jb_callS (pc' := 6) (As := [.int 1, .int 0, .int 1]) (a2 := 0) (b2 := 0) wv_X11_74 dX11_law_3 (c_isOutLG 1 0 1 (by omega) (by omega) (by omega)) rfl ⟨by decide, Nat.le_of_eq (Nat.zero_add _), Nat.le_of_eq (Nat.zero_add _)⟩ (Nat.le_of_ble_eq_true rfl) rfl (fun r h9 hq => ?_)
  obtain ⟨rfl, rfl⟩ := hq
  show jb_J _ RX11 cX11_law 6 (Option.some .int) false 5 0 0 6 [some (.ref 0), some (.int 1), some (.int a), some (.int b), some (.int c), some (.int e)] [.int 0] [jb_main imm Im Tm rowm stkm tpm, jb_sch13 I W T, s2, s3, s4, s5, s6, s7, s8, s9, s10, s11] _
  refine jb_if_eq (tgt := 15) (pc' := 9) dX11_law_6 (by decide) rfl (fun _ => ?_) (fun z => absurd (by decide) z)
  refine jb_aload_n (pc' := 16) dX11_law_15 rfl rfl ?_
  refine gf_X11_42 (pc' := 19) (v := .ref 13) dX11_law_16 rfl rfl rfl ?_
  refine jb_iload_n (pc' := 20) dX11_law_19 rfl rfl ?_
  refine jb_iload_n (pc' := 21) dX11_law_20 rfl rfl ?_
  refine jb_iload_n (pc' := 22) dX11_law_21 rfl rfl ?_
  refine jb_iload (pc' := 24) dX11_law_22 rfl rfl ?_
  refine jb_iload (pc' := 26) dX11_law_24 rfl rfl ?_
  refine jb_callV (pc' := 29) (ci := 9) (q := 13) (As := [.int 1, .int a, .int b, .int c, .int e]) (a2 := 0) (b2 := 0) wv_X11_153 rfl dX11_law_26 (hg _ _ _ _ _ _ _ _ _ _ _ _ _ _ _ _ _ 1 a b c e (by decide)) rfl rfl ⟨by decide, Nat.le_of_eq (Nat.zero_add _), Nat.le_of_eq (Nat.zero_add _)⟩ (Nat.le_of_ble_eq_true rfl) rfl (fun r h9 hq => ?_)
  obtain ⟨rfl, stk9, rfl⟩ := hq
  show jb_J _ RX11 cX11_law 6 (Option.some .int) false 5 0 0 29 [some (.ref 0), some (.int 1), some (.int a), some (.int b), some (.int c), some (.int e)] [.int (G 1 a b c e)] [jb_main imm Im Tm rowm stk9 tpm, jb_sch13 I W T, s2, s3, s4, s5, s6, s7, s8, s9, s10, s11] _
  refine jb_iret dX11_law_29 rfl ?_
  exact ⟨rfl, _, rfl⟩
set_option maxRecDepth 100000 in
set_option maxHeartbeats 4000000 in
theorem ke_law {sc : Nat × (Nat → Int32)} {s2 s3 s4 s5 s6 s7 s8 s10 s11 : List va_E} {V : Nat → Nat → Nat} (imm : Int32) (Im rowm stkm tpm : Nat → Int32) (Tm : Nat → Value) (I : Nat → Int32) (W : Nat → Nat → Int32) (T : Nat → Value) (Ia boa era : Nat → Int32) (hr : jr_ V I W) (hk : jv_ok V) (u a b c e : Int32) (hb : ¬ jn_b u 0 2) : jb_C sc yX11_law cX11_law 6 (Option.some .int) 1 0 0 [.ref 0, .int u, .int a, .int b, .int c, .int e] [jb_main imm Im Tm rowm stkm tpm, jb_sch13 I W T, s2, s3, s4, s5, s6, s7, s8, jb_act Ia boa era, s10, s11] (fun r h9 => r = some (.int (jm_er 1)) ∧ h9 = [jb_main imm Im Tm rowm stkm tpm, jb_sch13 I W T, s2, s3, s4, s5, s6, s7, s8, jb_act Ia boa (jm_ef era 1), s10, s11]) := by
  refine jb_CofJ (ini := false) (by decide +kernel) (fun h => by cases h) (Nat.le_of_ble_eq_true rfl) ?_
  show jb_J sc RX11 cX11_law 6 (Option.some .int) false 1 0 0 0 [some (.ref 0), some (.int u), some (.int a), some (.int b), some (.int c), some (.int e)] [] [jb_main imm Im Tm rowm stkm tpm, jb_sch13 I W T, s2, s3, s4, s5, s6, s7, s8, jb_act Ia boa era, s10, s11] _
  have hr0 := hr
  have hk0 := hk
  obtain ⟨r0, r2, r3, r4, a0, a1, a2, rv, rs, rd⟩ := hr
  obtain ⟨k0, k1, k2, k3, k4, k5, k6, k7, kv, ks, kd⟩ := hk
  refine jb_iload_n (pc' := 1) dX11_law_0 rfl rfl ?_
  refine jb_iconst (pc' := 2) 0 dX11_law_1 (by decide) rfl ?_
  refine jb_iconst (pc' := 3) 1 dX11_law_2 (by decide) rfl ?_
  refine jb_callS (pc' := 6) (As := [.int u, .int 0, .int 1]) (a2 := 0) (b2 := 0) wv_X11_74 dX11_law_3 (c_isOutL u 0 1 (by omega) (by omega)) rfl ⟨by decide, Nat.le_of_eq (Nat.zero_add _), Nat.le_of_eq (Nat.zero_add _)⟩ (Nat.le_of_ble_eq_true rfl) rfl (fun r h9 hq => ?_)
  rcases hq with ⟨rfl, ⟨o1, rfl⟩ | ⟨o1, rfl⟩⟩
  · show jb_J _ RX11 cX11_law 6 (Option.some .int) false 1 0 0 6 [some (.ref 0), some (.int u), some (.int a), some (.int b), some (.int c), some (.int e)] [.int 1] [jb_main imm Im Tm rowm stkm tpm, jb_sch13 I W T, s2, s3, s4, s5, s6, s7, s8, jb_act Ia boa era, s10, s11] _
    refine jb_if_eq (tgt := 15) (pc' := 9) dX11_law_6 (by decide) rfl (fun z => absurd z (by decide)) (fun _ => ?_)
    refine jb_aload_n (pc' := 10) dX11_law_9 rfl rfl ?_
    refine jb_iconst (pc' := 11) 1 dX11_law_10 (by decide) rfl ?_
    refine jb_callV (pc' := 14) (ci := 11) (q := 0) (As := [.int 1]) (a2 := 0) (b2 := 0) wv_X11_78 rfl dX11_law_11 (c_error imm Im rowm stkm tpm Tm Ia boa era 1 (by decide)) rfl rfl ⟨by decide, Nat.le_of_eq (Nat.zero_add _), Nat.le_of_eq (Nat.zero_add _)⟩ (Nat.le_of_ble_eq_true rfl) rfl (fun r h9 hq => ?_)
    obtain ⟨rfl, rfl⟩ := hq
    show jb_J _ RX11 cX11_law 6 (Option.some .int) false 1 0 0 14 [some (.ref 0), some (.int u), some (.int a), some (.int b), some (.int c), some (.int e)] [.int (jm_er 1)] [jb_main imm Im Tm rowm stkm tpm, jb_sch13 I W T, s2, s3, s4, s5, s6, s7, s8, jb_act Ia boa (jm_ef era 1), s10, s11] _
    refine jb_iret dX11_law_14 rfl ?_
    exact ⟨rfl, rfl⟩
  · show jb_J _ RX11 cX11_law 6 (Option.some .int) false 1 0 0 6 [some (.ref 0), some (.int u), some (.int a), some (.int b), some (.int c), some (.int e)] [.int 0] [jb_main imm Im Tm rowm stkm tpm, jb_sch13 I W T, s2, s3, s4, s5, s6, s7, s8, jb_act Ia boa era, s10, s11] _
    exact absurd (by assumption) hb
set_option maxRecDepth 100000 in
set_option maxHeartbeats 4000000 in
theorem kx_count0 {sc : Nat × (Nat → Int32)} {s2 s3 s4 s5 s6 s7 s8 s9 s10 s11 : List va_E} {V : Nat → Nat → Nat} (imm : Int32) (Im rowm stkm tpm : Nat → Int32) (Tm : Nat → Value) (I : Nat → Int32) (W : Nat → Nat → Int32) (T : Nat → Value) (hr : jr_ V I W) (hk : jv_ok V)  : jb_C sc yX11_count cX11_count 2 (Option.some .int) 1 0 0 [.ref 0, .int 0] [jb_main imm Im Tm rowm stkm tpm, jb_sch13 I W T, s2, s3, s4, s5, s6, s7, s8, s9, s10, s11] (fun r h9 => r = some (.int (nI (V 0 0))) ∧ h9 = [jb_main imm Im Tm rowm stkm tpm, jb_sch13 I W T, s2, s3, s4, s5, s6, s7, s8, s9, s10, s11]) := by
  refine jb_CofJ (ini := false) (by decide +kernel) (fun h => by cases h) (Nat.le_of_ble_eq_true rfl) ?_
  show jb_J sc RX11 cX11_count 2 (Option.some .int) false 1 0 0 0 [some (.ref 0), some (.int 0)] [] [jb_main imm Im Tm rowm stkm tpm, jb_sch13 I W T, s2, s3, s4, s5, s6, s7, s8, s9, s10, s11] _
  have hr0 := hr
  have hk0 := hk
  obtain ⟨r0, r2, r3, r4, a0, a1, a2, rv, rs, rd⟩ := hr
  obtain ⟨k0, k1, k2, k3, k4, k5, k6, k7, kv, ks, kd⟩ := hk
  refine jb_iload_n (pc' := 1) dX11_count_0 rfl rfl ?_
  refine jb_tableIn (pc' := 56) (off := 55) dX11_count_1 (by decide) (by decide) (by decide +kernel) (by decide) ?_
  refine jb_aload_n (pc' := 57) dX11_count_56 rfl rfl ?_
  refine gf_X11_42 (pc' := 60) (v := .ref 13) dX11_count_57 rfl rfl rfl ?_
  refine gf_X11_257 (pc' := 63) (v := .int (I 0)) dX11_count_60 rfl rfl rfl ?_
  refine jb_top (v := .int (I 0)) (w := .int (nI (V 0 0))) (jb_vI r0) ?_
  refine jb_iret dX11_count_63 rfl ?_
  exact ⟨rfl, rfl⟩
set_option maxRecDepth 100000 in
set_option maxHeartbeats 4000000 in
theorem kx_count1 {sc : Nat × (Nat → Int32)} {s2 s3 s4 s5 s6 s7 s8 s9 s10 s11 : List va_E} {V : Nat → Nat → Nat} (imm : Int32) (Im rowm stkm tpm : Nat → Int32) (Tm : Nat → Value) (I : Nat → Int32) (W : Nat → Nat → Int32) (T : Nat → Value) (hr : jr_ V I W) (hk : jv_ok V)  : jb_C sc yX11_count cX11_count 2 (Option.some .int) 1 0 0 [.ref 0, .int 1] [jb_main imm Im Tm rowm stkm tpm, jb_sch13 I W T, s2, s3, s4, s5, s6, s7, s8, s9, s10, s11] (fun r h9 => r = some (.int (nI (V 0 1))) ∧ h9 = [jb_main imm Im Tm rowm stkm tpm, jb_sch13 I W T, s2, s3, s4, s5, s6, s7, s8, s9, s10, s11]) := by
  refine jb_CofJ (ini := false) (by decide +kernel) (fun h => by cases h) (Nat.le_of_ble_eq_true rfl) ?_
  show jb_J sc RX11 cX11_count 2 (Option.some .int) false 1 0 0 0 [some (.ref 0), some (.int 1)] [] [jb_main imm Im Tm rowm stkm tpm, jb_sch13 I W T, s2, s3, s4, s5, s6, s7, s8, s9, s10, s11] _
  have hr0 := hr
  have hk0 := hk
  obtain ⟨r0, r2, r3, r4, a0, a1, a2, rv, rs, rd⟩ := hr
  obtain ⟨k0, k1, k2, k3, k4, k5, k6, k7, kv, ks, kd⟩ := hk
  refine jb_iload_n (pc' := 1) dX11_count_0 rfl rfl ?_
  refine jb_tableIn (pc' := 64) (off := 63) dX11_count_1 (by decide) (by decide) (by decide +kernel) (by decide) ?_
  refine jb_aload_n (pc' := 65) dX11_count_64 rfl rfl ?_
  refine gf_X11_42 (pc' := 68) (v := .ref 13) dX11_count_65 rfl rfl rfl ?_
  refine gf_X11_85 (pc' := 71) (v := .int (I 2)) dX11_count_68 rfl rfl rfl ?_
  refine jb_top (v := .int (I 2)) (w := .int (nI (V 0 1))) (jb_vI r2) ?_
  refine jb_iret dX11_count_71 rfl ?_
  exact ⟨rfl, rfl⟩
set_option maxRecDepth 100000 in
set_option maxHeartbeats 4000000 in
theorem kx_count2 {sc : Nat × (Nat → Int32)} {s2 s3 s4 s5 s6 s7 s8 s9 s10 s11 : List va_E} {V : Nat → Nat → Nat} (imm : Int32) (Im rowm stkm tpm : Nat → Int32) (Tm : Nat → Value) (I : Nat → Int32) (W : Nat → Nat → Int32) (T : Nat → Value) (hr : jr_ V I W) (hk : jv_ok V)  : jb_C sc yX11_count cX11_count 2 (Option.some .int) 1 0 0 [.ref 0, .int 2] [jb_main imm Im Tm rowm stkm tpm, jb_sch13 I W T, s2, s3, s4, s5, s6, s7, s8, s9, s10, s11] (fun r h9 => r = some (.int (nI (V 0 2))) ∧ h9 = [jb_main imm Im Tm rowm stkm tpm, jb_sch13 I W T, s2, s3, s4, s5, s6, s7, s8, s9, s10, s11]) := by
  refine jb_CofJ (ini := false) (by decide +kernel) (fun h => by cases h) (Nat.le_of_ble_eq_true rfl) ?_
  show jb_J sc RX11 cX11_count 2 (Option.some .int) false 1 0 0 0 [some (.ref 0), some (.int 2)] [] [jb_main imm Im Tm rowm stkm tpm, jb_sch13 I W T, s2, s3, s4, s5, s6, s7, s8, s9, s10, s11] _
  have hr0 := hr
  have hk0 := hk
  obtain ⟨r0, r2, r3, r4, a0, a1, a2, rv, rs, rd⟩ := hr
  obtain ⟨k0, k1, k2, k3, k4, k5, k6, k7, kv, ks, kd⟩ := hk
  refine jb_iload_n (pc' := 1) dX11_count_0 rfl rfl ?_
  refine jb_tableIn (pc' := 72) (off := 71) dX11_count_1 (by decide) (by decide) (by decide +kernel) (by decide) ?_
  refine jb_aload_n (pc' := 73) dX11_count_72 rfl rfl ?_
  refine gf_X11_42 (pc' := 76) (v := .ref 13) dX11_count_73 rfl rfl rfl ?_
  refine gf_X11_113 (pc' := 79) (v := .int (I 3)) dX11_count_76 rfl rfl rfl ?_
  refine jb_top (v := .int (I 3)) (w := .int (nI (V 0 2))) (jb_vI r3) ?_
  refine jb_iret dX11_count_79 rfl ?_
  exact ⟨rfl, rfl⟩
set_option maxRecDepth 100000 in
set_option maxHeartbeats 4000000 in
theorem kx_count3 {sc : Nat × (Nat → Int32)} {s2 s3 s4 s5 s6 s7 s8 s9 s10 s11 : List va_E} {V : Nat → Nat → Nat} (imm : Int32) (Im rowm stkm tpm : Nat → Int32) (Tm : Nat → Value) (I : Nat → Int32) (W : Nat → Nat → Int32) (T : Nat → Value) (hr : jr_ V I W) (hk : jv_ok V)  : jb_C sc yX11_count cX11_count 2 (Option.some .int) 1 0 0 [.ref 0, .int 3] [jb_main imm Im Tm rowm stkm tpm, jb_sch13 I W T, s2, s3, s4, s5, s6, s7, s8, s9, s10, s11] (fun r h9 => r = some (.int (nI (V 0 3))) ∧ h9 = [jb_main imm Im Tm rowm stkm tpm, jb_sch13 I W T, s2, s3, s4, s5, s6, s7, s8, s9, s10, s11]) := by
  refine jb_CofJ (ini := false) (by decide +kernel) (fun h => by cases h) (Nat.le_of_ble_eq_true rfl) ?_
  show jb_J sc RX11 cX11_count 2 (Option.some .int) false 1 0 0 0 [some (.ref 0), some (.int 3)] [] [jb_main imm Im Tm rowm stkm tpm, jb_sch13 I W T, s2, s3, s4, s5, s6, s7, s8, s9, s10, s11] _
  have hr0 := hr
  have hk0 := hk
  obtain ⟨r0, r2, r3, r4, a0, a1, a2, rv, rs, rd⟩ := hr
  obtain ⟨k0, k1, k2, k3, k4, k5, k6, k7, kv, ks, kd⟩ := hk
  refine jb_iload_n (pc' := 1) dX11_count_0 rfl rfl ?_
  refine jb_tableIn (pc' := 80) (off := 79) dX11_count_1 (by decide) (by decide) (by decide +kernel) (by decide) ?_
  refine jb_aload_n (pc' := 81) dX11_count_80 rfl rfl ?_
  refine gf_X11_42 (pc' := 84) (v := .ref 13) dX11_count_81 rfl rfl rfl ?_
  refine gf_X11_127 (pc' := 87) (v := .int (I 4)) dX11_count_84 rfl rfl rfl ?_
  refine jb_top (v := .int (I 4)) (w := .int (nI (V 0 3))) (jb_vI r4) ?_
  refine jb_iret dX11_count_87 rfl ?_
  exact ⟨rfl, rfl⟩
set_option maxRecDepth 100000 in
set_option maxHeartbeats 4000000 in
theorem kx_count4 {sc : Nat × (Nat → Int32)} {s2 s3 s4 s5 s6 s7 s8 s9 s10 s11 : List va_E} {V : Nat → Nat → Nat} (imm : Int32) (Im rowm stkm tpm : Nat → Int32) (Tm : Nat → Value) (I : Nat → Int32) (W : Nat → Nat → Int32) (T : Nat → Value) (hr : jr_ V I W) (hk : jv_ok V)  : jb_C sc yX11_count cX11_count 2 (Option.some .int) 1 0 0 [.ref 0, .int 4] [jb_main imm Im Tm rowm stkm tpm, jb_sch13 I W T, s2, s3, s4, s5, s6, s7, s8, s9, s10, s11] (fun r h9 => r = some (.int (nI (V 0 4 + V 0 5))) ∧ h9 = [jb_main imm Im Tm rowm stkm tpm, jb_sch13 I W T, s2, s3, s4, s5, s6, s7, s8, s9, s10, s11]) := by
  refine jb_CofJ (ini := false) (by decide +kernel) (fun h => by cases h) (Nat.le_of_ble_eq_true rfl) ?_
  show jb_J sc RX11 cX11_count 2 (Option.some .int) false 1 0 0 0 [some (.ref 0), some (.int 4)] [] [jb_main imm Im Tm rowm stkm tpm, jb_sch13 I W T, s2, s3, s4, s5, s6, s7, s8, s9, s10, s11] _
  have hr0 := hr
  have hk0 := hk
  obtain ⟨r0, r2, r3, r4, a0, a1, a2, rv, rs, rd⟩ := hr
  obtain ⟨k0, k1, k2, k3, k4, k5, k6, k7, kv, ks, kd⟩ := hk
  refine jb_iload_n (pc' := 1) dX11_count_0 rfl rfl ?_
  refine jb_tableIn (pc' := 88) (off := 87) dX11_count_1 (by decide) (by decide) (by decide +kernel) (by decide) ?_
  refine jb_aload_n (pc' := 89) dX11_count_88 rfl rfl ?_
  refine gf_X11_42 (pc' := 92) (v := .ref 13) dX11_count_89 rfl rfl rfl ?_
  refine jb_callV (pc' := 95) (ci := 9) (q := 13) (As := []) (a2 := 0) (b2 := 0) wv_X11_172 rfl dX11_count_92 (c_gap_13 _ _ _) rfl rfl ⟨by decide, Nat.le_of_eq (Nat.zero_add _), Nat.le_of_eq (Nat.zero_add _)⟩ (Nat.le_of_ble_eq_true rfl) rfl (fun r h9 hq => ?_)
  obtain ⟨rfl, rfl⟩ := hq
  show jb_J _ RX11 cX11_count 2 (Option.some .int) false 1 0 0 95 [some (.ref 0), some (.int 4)] [.int (W 0 0 + W 0 1)] [jb_main imm Im Tm rowm stkm tpm, jb_sch13 I W T, s2, s3, s4, s5, s6, s7, s8, s9, s10, s11] _
  refine jb_top (v := .int (W 0 0 + W 0 1)) (w := .int (nI (V 0 4 + V 0 5))) (jb_vI (by rw [a0, a1, nI_add])) ?_
  refine jb_iret dX11_count_95 rfl ?_
  exact ⟨rfl, rfl⟩
set_option maxRecDepth 100000 in
set_option maxHeartbeats 4000000 in
theorem kx_count5 {sc : Nat × (Nat → Int32)} {s2 s3 s4 s5 s6 s7 s8 s9 s10 s11 : List va_E} {V : Nat → Nat → Nat} (imm : Int32) (Im rowm stkm tpm : Nat → Int32) (Tm : Nat → Value) (I : Nat → Int32) (W : Nat → Nat → Int32) (T : Nat → Value) (hr : jr_ V I W) (hk : jv_ok V)  : jb_C sc yX11_count cX11_count 2 (Option.some .int) 1 0 0 [.ref 0, .int 5] [jb_main imm Im Tm rowm stkm tpm, jb_sch13 I W T, s2, s3, s4, s5, s6, s7, s8, s9, s10, s11] (fun r h9 => r = some (.int (nI (V 0 6))) ∧ h9 = [jb_main imm Im Tm rowm stkm tpm, jb_sch13 I W T, s2, s3, s4, s5, s6, s7, s8, s9, s10, s11]) := by
  refine jb_CofJ (ini := false) (by decide +kernel) (fun h => by cases h) (Nat.le_of_ble_eq_true rfl) ?_
  show jb_J sc RX11 cX11_count 2 (Option.some .int) false 1 0 0 0 [some (.ref 0), some (.int 5)] [] [jb_main imm Im Tm rowm stkm tpm, jb_sch13 I W T, s2, s3, s4, s5, s6, s7, s8, s9, s10, s11] _
  have hr0 := hr
  have hk0 := hk
  obtain ⟨r0, r2, r3, r4, a0, a1, a2, rv, rs, rd⟩ := hr
  obtain ⟨k0, k1, k2, k3, k4, k5, k6, k7, kv, ks, kd⟩ := hk
  refine jb_iload_n (pc' := 1) dX11_count_0 rfl rfl ?_
  refine jb_tableIn (pc' := 96) (off := 95) dX11_count_1 (by decide) (by decide) (by decide +kernel) (by decide) ?_
  refine jb_aload_n (pc' := 97) dX11_count_96 rfl rfl ?_
  refine gf_X11_42 (pc' := 100) (v := .ref 13) dX11_count_97 rfl rfl rfl ?_
  refine gf_X11_82 (pc' := 103) (v := .ref 14) dX11_count_100 rfl rfl rfl ?_
  refine jb_iconst (pc' := 104) 2 dX11_count_103 (by decide) rfl ?_
  refine jb_iaload (pc' := 105) (i9 := 2) (f := (W 0)) dX11_count_104 rfl jb_x2 (by decide) rfl ?_
  refine jb_top (v := .int ((W 0) 2)) (w := .int (nI (V 0 6))) (jb_vI a2) ?_
  refine jb_iret dX11_count_105 rfl ?_
  exact ⟨rfl, rfl⟩
set_option maxRecDepth 100000 in
set_option maxHeartbeats 4000000 in
theorem kx_count6 {sc : Nat × (Nat → Int32)} {s2 s3 s4 s5 s6 s7 s8 s9 s10 s11 : List va_E} {V : Nat → Nat → Nat} (imm : Int32) (Im rowm stkm tpm : Nat → Int32) (Tm : Nat → Value) (I : Nat → Int32) (W : Nat → Nat → Int32) (T : Nat → Value) (hr : jr_ V I W) (hk : jv_ok V)  : jb_C sc yX11_count cX11_count 2 (Option.some .int) 1 0 0 [.ref 0, .int 6] [jb_main imm Im Tm rowm stkm tpm, jb_sch13 I W T, s2, s3, s4, s5, s6, s7, s8, s9, s10, s11] (fun r h9 => r = some (.int (I 5)) ∧ h9 = [jb_main imm Im Tm rowm stkm tpm, jb_sch13 I W T, s2, s3, s4, s5, s6, s7, s8, s9, s10, s11]) := by
  refine jb_CofJ (ini := false) (by decide +kernel) (fun h => by cases h) (Nat.le_of_ble_eq_true rfl) ?_
  show jb_J sc RX11 cX11_count 2 (Option.some .int) false 1 0 0 0 [some (.ref 0), some (.int 6)] [] [jb_main imm Im Tm rowm stkm tpm, jb_sch13 I W T, s2, s3, s4, s5, s6, s7, s8, s9, s10, s11] _
  have hr0 := hr
  have hk0 := hk
  obtain ⟨r0, r2, r3, r4, a0, a1, a2, rv, rs, rd⟩ := hr
  obtain ⟨k0, k1, k2, k3, k4, k5, k6, k7, kv, ks, kd⟩ := hk
  refine jb_iload_n (pc' := 1) dX11_count_0 rfl rfl ?_
  refine jb_tableIn (pc' := 106) (off := 105) dX11_count_1 (by decide) (by decide) (by decide +kernel) (by decide) ?_
  refine jb_aload_n (pc' := 107) dX11_count_106 rfl rfl ?_
  refine gf_X11_42 (pc' := 110) (v := .ref 13) dX11_count_107 rfl rfl rfl ?_
  refine gf_X11_130 (pc' := 113) (v := .int (I 5)) dX11_count_110 rfl rfl rfl ?_
  refine jb_iret dX11_count_113 rfl ?_
  exact ⟨rfl, rfl⟩
set_option maxRecDepth 100000 in
set_option maxHeartbeats 4000000 in
theorem kx_count7 {sc : Nat × (Nat → Int32)} {s2 s3 s4 s5 s6 s7 s8 s9 s10 s11 : List va_E} {V : Nat → Nat → Nat} (imm : Int32) (Im rowm stkm tpm : Nat → Int32) (Tm : Nat → Value) (I : Nat → Int32) (W : Nat → Nat → Int32) (T : Nat → Value) (hr : jr_ V I W) (hk : jv_ok V)  : jb_C sc yX11_count cX11_count 2 (Option.some .int) 1 0 0 [.ref 0, .int 7] [jb_main imm Im Tm rowm stkm tpm, jb_sch13 I W T, s2, s3, s4, s5, s6, s7, s8, s9, s10, s11] (fun r h9 => r = some (.int (I 6)) ∧ h9 = [jb_main imm Im Tm rowm stkm tpm, jb_sch13 I W T, s2, s3, s4, s5, s6, s7, s8, s9, s10, s11]) := by
  refine jb_CofJ (ini := false) (by decide +kernel) (fun h => by cases h) (Nat.le_of_ble_eq_true rfl) ?_
  show jb_J sc RX11 cX11_count 2 (Option.some .int) false 1 0 0 0 [some (.ref 0), some (.int 7)] [] [jb_main imm Im Tm rowm stkm tpm, jb_sch13 I W T, s2, s3, s4, s5, s6, s7, s8, s9, s10, s11] _
  have hr0 := hr
  have hk0 := hk
  obtain ⟨r0, r2, r3, r4, a0, a1, a2, rv, rs, rd⟩ := hr
  obtain ⟨k0, k1, k2, k3, k4, k5, k6, k7, kv, ks, kd⟩ := hk
  refine jb_iload_n (pc' := 1) dX11_count_0 rfl rfl ?_
  refine jb_tableIn (pc' := 114) (off := 113) dX11_count_1 (by decide) (by decide) (by decide +kernel) (by decide) ?_
  refine jb_aload_n (pc' := 115) dX11_count_114 rfl rfl ?_
  refine gf_X11_42 (pc' := 118) (v := .ref 13) dX11_count_115 rfl rfl rfl ?_
  refine gf_X11_260 (pc' := 121) (v := .int (I 6)) dX11_count_118 rfl rfl rfl ?_
  refine jb_iret dX11_count_121 rfl ?_
  exact ⟨rfl, rfl⟩
set_option maxRecDepth 100000 in
set_option maxHeartbeats 4000000 in
theorem kx_count8 {sc : Nat × (Nat → Int32)} {s1 s2 s3 s4 s5 s6 s7 s8 s10 s11 : List va_E} (imm : Int32) (Im rowm stkm tpm : Nat → Int32) (Tm : Nat → Value) (Ia boa era : Nat → Int32) : jb_C sc yX11_count cX11_count 2 (Option.some .int) 0 0 0 [.ref 0, .int 8] [jb_main imm Im Tm rowm stkm tpm, s1, s2, s3, s4, s5, s6, s7, s8, jb_act Ia boa era, s10, s11] (fun r h9 => r = some (.int (Ia 2)) ∧ h9 = [jb_main imm Im Tm rowm stkm tpm, s1, s2, s3, s4, s5, s6, s7, s8, jb_act Ia boa era, s10, s11]) := by
  refine jb_CofJ (ini := false) (by decide +kernel) (fun h => by cases h) (Nat.le_of_ble_eq_true rfl) ?_
  show jb_J sc RX11 cX11_count 2 (Option.some .int) false 0 0 0 0 [some (.ref 0), some (.int 8)] [] [jb_main imm Im Tm rowm stkm tpm, s1, s2, s3, s4, s5, s6, s7, s8, jb_act Ia boa era, s10, s11] _
  refine jb_iload_n (pc' := 1) dX11_count_0 rfl rfl ?_
  refine jb_tableIn (pc' := 122) (off := 121) dX11_count_1 (by decide) (by decide) (by decide +kernel) (by decide) ?_
  refine jb_aload_n (pc' := 123) dX11_count_122 rfl rfl ?_
  refine gf_X11_62 (pc' := 126) (v := .ref 102) dX11_count_123 rfl rfl rfl ?_
  refine gf_X11_226 (pc' := 129) (v := .int (Ia 2)) dX11_count_126 rfl rfl rfl ?_
  refine jb_iret dX11_count_129 rfl ?_
  exact ⟨rfl, rfl⟩
set_option maxRecDepth 100000 in
set_option maxHeartbeats 4000000 in
theorem kx_count9 {sc : Nat × (Nat → Int32)} {s2 s3 s4 s5 s6 s7 s8 s9 s10 s11 : List va_E} {V : Nat → Nat → Nat} (imm : Int32) (Im rowm stkm tpm : Nat → Int32) (Tm : Nat → Value) (I : Nat → Int32) (W : Nat → Nat → Int32) (T : Nat → Value) (hr : jr_ V I W) (hk : jv_ok V)  : jb_C sc yX11_count cX11_count 2 (Option.some .int) 1 0 0 [.ref 0, .int 9] [jb_main imm Im Tm rowm stkm tpm, jb_sch13 I W T, s2, s3, s4, s5, s6, s7, s8, s9, s10, s11] (fun r h9 => r = some (.int (I 1)) ∧ h9 = [jb_main imm Im Tm rowm stkm tpm, jb_sch13 I W T, s2, s3, s4, s5, s6, s7, s8, s9, s10, s11]) := by
  refine jb_CofJ (ini := false) (by decide +kernel) (fun h => by cases h) (Nat.le_of_ble_eq_true rfl) ?_
  show jb_J sc RX11 cX11_count 2 (Option.some .int) false 1 0 0 0 [some (.ref 0), some (.int 9)] [] [jb_main imm Im Tm rowm stkm tpm, jb_sch13 I W T, s2, s3, s4, s5, s6, s7, s8, s9, s10, s11] _
  have hr0 := hr
  have hk0 := hk
  obtain ⟨r0, r2, r3, r4, a0, a1, a2, rv, rs, rd⟩ := hr
  obtain ⟨k0, k1, k2, k3, k4, k5, k6, k7, kv, ks, kd⟩ := hk
  refine jb_iload_n (pc' := 1) dX11_count_0 rfl rfl ?_
  refine jb_tableIn (pc' := 130) (off := 129) dX11_count_1 (by decide) (by decide) (by decide +kernel) (by decide) ?_
  refine jb_aload_n (pc' := 131) dX11_count_130 rfl rfl ?_
  refine gf_X11_42 (pc' := 134) (v := .ref 13) dX11_count_131 rfl rfl rfl ?_
  refine gf_X11_202 (pc' := 137) (v := .int (I 1)) dX11_count_134 rfl rfl rfl ?_
  refine jb_iret dX11_count_137 rfl ?_
  exact ⟨rfl, rfl⟩
set_option maxRecDepth 100000 in
set_option maxHeartbeats 4000000 in
theorem ke_count {sc : Nat × (Nat → Int32)} {s2 s3 s4 s5 s6 s7 s8 s10 s11 : List va_E} {V : Nat → Nat → Nat} (imm : Int32) (Im rowm stkm tpm : Nat → Int32) (Tm : Nat → Value) (I : Nat → Int32) (W : Nat → Nat → Int32) (T : Nat → Value) (Ia boa era : Nat → Int32) (hr : jr_ V I W) (hk : jv_ok V) (w : Int32) (hb : ¬ jn_b w 0 10) : jb_C sc yX11_count cX11_count 2 (Option.some .int) 1 0 0 [.ref 0, .int w] [jb_main imm Im Tm rowm stkm tpm, jb_sch13 I W T, s2, s3, s4, s5, s6, s7, s8, jb_act Ia boa era, s10, s11] (fun r h9 => r = some (.int (jm_er 1)) ∧ h9 = [jb_main imm Im Tm rowm stkm tpm, jb_sch13 I W T, s2, s3, s4, s5, s6, s7, s8, jb_act Ia boa (jm_ef era 1), s10, s11]) := by
  refine jb_CofJ (ini := false) (by decide +kernel) (fun h => by cases h) (Nat.le_of_ble_eq_true rfl) ?_
  show jb_J sc RX11 cX11_count 2 (Option.some .int) false 1 0 0 0 [some (.ref 0), some (.int w)] [] [jb_main imm Im Tm rowm stkm tpm, jb_sch13 I W T, s2, s3, s4, s5, s6, s7, s8, jb_act Ia boa era, s10, s11] _
  have hr0 := hr
  have hk0 := hk
  obtain ⟨r0, r2, r3, r4, a0, a1, a2, rv, rs, rd⟩ := hr
  obtain ⟨k0, k1, k2, k3, k4, k5, k6, k7, kv, ks, kd⟩ := hk
  refine jb_iload_n (pc' := 1) dX11_count_0 rfl rfl ?_
  refine jb_tableOut (pc' := 138) dX11_count_1 (by rw [jn_bI (by decide)] at hb; omega) (by decide) ?_
  refine jb_aload_n (pc' := 139) dX11_count_138 rfl rfl ?_
  refine jb_iconst (pc' := 140) 1 dX11_count_139 (by decide) rfl ?_
  refine jb_callV (pc' := 143) (ci := 11) (q := 0) (As := [.int 1]) (a2 := 0) (b2 := 0) wv_X11_78 rfl dX11_count_140 (c_error imm Im rowm stkm tpm Tm Ia boa era 1 (by decide)) rfl rfl ⟨by decide, Nat.le_of_eq (Nat.zero_add _), Nat.le_of_eq (Nat.zero_add _)⟩ (Nat.le_of_ble_eq_true rfl) rfl (fun r h9 hq => ?_)
  obtain ⟨rfl, rfl⟩ := hq
  show jb_J _ RX11 cX11_count 2 (Option.some .int) false 1 0 0 143 [some (.ref 0), some (.int w)] [.int (jm_er 1)] [jb_main imm Im Tm rowm stkm tpm, jb_sch13 I W T, s2, s3, s4, s5, s6, s7, s8, jb_act Ia boa (jm_ef era 1), s10, s11] _
  refine jb_iret dX11_count_143 rfl ?_
  exact ⟨rfl, rfl⟩
set_option maxRecDepth 100000 in
set_option maxHeartbeats 4000000 in
theorem kx_told {sc : Nat × (Nat → Int32)} {s1 s2 s3 s4 s5 s6 s7 s8 s10 s11 : List va_E} (imm : Int32) (Im rowm stkm tpm : Nat → Int32) (Tm : Nat → Value) (Ia boa era : Nat → Int32) (k : Nat) (h1 : 1 ≤ k) (h2 : k ≤ 5) : jb_C sc yX11_told cX11_told 2 (Option.some .int) 1 0 0 [.ref 0, .int (nI k)] [jb_main imm Im Tm rowm stkm tpm, s1, s2, s3, s4, s5, s6, s7, s8, jb_act Ia boa era, s10, s11] (fun r h9 => r = some (.int (era k)) ∧ h9 = [jb_main imm Im Tm rowm stkm tpm, s1, s2, s3, s4, s5, s6, s7, s8, jb_act Ia boa era, s10, s11]) := by
  refine jb_CofJ (ini := false) (by decide +kernel) (fun h => by cases h) (Nat.le_of_ble_eq_true rfl) ?_
  show jb_J sc RX11 cX11_told 2 (Option.some .int) false 1 0 0 0 [some (.ref 0), some (.int (nI k))] [] [jb_main imm Im Tm rowm stkm tpm, s1, s2, s3, s4, s5, s6, s7, s8, jb_act Ia boa era, s10, s11] _
  refine jb_iload_n (pc' := 1) dX11_told_0 rfl rfl ?_
  refine jb_iconst (pc' := 2) 1 dX11_told_1 (by decide) rfl ?_
  refine jb_iconst (pc' := 3) 5 dX11_told_2 (by decide) rfl ?_
  refine jb_callS (pc' := 6) (As := [.int (nI k), .int 1, .int 5]) (a2 := 0) (b2 := 0) wv_X11_74 dX11_told_3 (c_isOutLG k 1 5 (by omega) (by omega) (by omega)) rfl ⟨by decide, Nat.le_of_eq (Nat.zero_add _), Nat.le_of_eq (Nat.zero_add _)⟩ (Nat.le_of_ble_eq_true rfl) rfl (fun r h9 hq => ?_)
  obtain ⟨rfl, rfl⟩ := hq
  show jb_J _ RX11 cX11_told 2 (Option.some .int) false 1 0 0 6 [some (.ref 0), some (.int (nI k))] [.int 0] [jb_main imm Im Tm rowm stkm tpm, s1, s2, s3, s4, s5, s6, s7, s8, jb_act Ia boa era, s10, s11] _
  refine jb_if_eq (tgt := 15) (pc' := 9) dX11_told_6 (by decide) rfl (fun _ => ?_) (fun z => absurd (by decide) z)
  refine jb_aload_n (pc' := 16) dX11_told_15 rfl rfl ?_
  refine gf_X11_66 (pc' := 19) (v := .ref 104) dX11_told_16 rfl rfl rfl ?_
  refine jb_iload_n (pc' := 20) dX11_told_19 rfl rfl ?_
  refine jb_iaload (pc' := 21) (i9 := k) (f := era) dX11_told_20 rfl (jb_ix_nI (by omega)) (by omega) rfl ?_
  refine jb_iret dX11_told_21 rfl ?_
  exact ⟨rfl, rfl⟩
set_option maxRecDepth 100000 in
set_option maxHeartbeats 4000000 in
theorem ke_told {sc : Nat × (Nat → Int32)} {s2 s3 s4 s5 s6 s7 s8 s10 s11 : List va_E} {V : Nat → Nat → Nat} (imm : Int32) (Im rowm stkm tpm : Nat → Int32) (Tm : Nat → Value) (I : Nat → Int32) (W : Nat → Nat → Int32) (T : Nat → Value) (Ia boa era : Nat → Int32) (hr : jr_ V I W) (hk : jv_ok V) (k : Int32) (hb : ¬ jn_b k 1 6) : jb_C sc yX11_told cX11_told 2 (Option.some .int) 1 0 0 [.ref 0, .int k] [jb_main imm Im Tm rowm stkm tpm, jb_sch13 I W T, s2, s3, s4, s5, s6, s7, s8, jb_act Ia boa era, s10, s11] (fun r h9 => r = some (.int (jm_er 1)) ∧ h9 = [jb_main imm Im Tm rowm stkm tpm, jb_sch13 I W T, s2, s3, s4, s5, s6, s7, s8, jb_act Ia boa (jm_ef era 1), s10, s11]) := by
  refine jb_CofJ (ini := false) (by decide +kernel) (fun h => by cases h) (Nat.le_of_ble_eq_true rfl) ?_
  show jb_J sc RX11 cX11_told 2 (Option.some .int) false 1 0 0 0 [some (.ref 0), some (.int k)] [] [jb_main imm Im Tm rowm stkm tpm, jb_sch13 I W T, s2, s3, s4, s5, s6, s7, s8, jb_act Ia boa era, s10, s11] _
  have hr0 := hr
  have hk0 := hk
  obtain ⟨r0, r2, r3, r4, a0, a1, a2, rv, rs, rd⟩ := hr
  obtain ⟨k0, k1, k2, k3, k4, k5, k6, k7, kv, ks, kd⟩ := hk
  refine jb_iload_n (pc' := 1) dX11_told_0 rfl rfl ?_
  refine jb_iconst (pc' := 2) 1 dX11_told_1 (by decide) rfl ?_
  refine jb_iconst (pc' := 3) 5 dX11_told_2 (by decide) rfl ?_
  refine jb_callS (pc' := 6) (As := [.int k, .int 1, .int 5]) (a2 := 0) (b2 := 0) wv_X11_74 dX11_told_3 (c_isOutL k 1 5 (by omega) (by omega)) rfl ⟨by decide, Nat.le_of_eq (Nat.zero_add _), Nat.le_of_eq (Nat.zero_add _)⟩ (Nat.le_of_ble_eq_true rfl) rfl (fun r h9 hq => ?_)
  rcases hq with ⟨rfl, ⟨o1, rfl⟩ | ⟨o1, rfl⟩⟩
  · show jb_J _ RX11 cX11_told 2 (Option.some .int) false 1 0 0 6 [some (.ref 0), some (.int k)] [.int 1] [jb_main imm Im Tm rowm stkm tpm, jb_sch13 I W T, s2, s3, s4, s5, s6, s7, s8, jb_act Ia boa era, s10, s11] _
    refine jb_if_eq (tgt := 15) (pc' := 9) dX11_told_6 (by decide) rfl (fun z => absurd z (by decide)) (fun _ => ?_)
    refine jb_aload_n (pc' := 10) dX11_told_9 rfl rfl ?_
    refine jb_iconst (pc' := 11) 1 dX11_told_10 (by decide) rfl ?_
    refine jb_callV (pc' := 14) (ci := 11) (q := 0) (As := [.int 1]) (a2 := 0) (b2 := 0) wv_X11_78 rfl dX11_told_11 (c_error imm Im rowm stkm tpm Tm Ia boa era 1 (by decide)) rfl rfl ⟨by decide, Nat.le_of_eq (Nat.zero_add _), Nat.le_of_eq (Nat.zero_add _)⟩ (Nat.le_of_ble_eq_true rfl) rfl (fun r h9 hq => ?_)
    obtain ⟨rfl, rfl⟩ := hq
    show jb_J _ RX11 cX11_told 2 (Option.some .int) false 1 0 0 14 [some (.ref 0), some (.int k)] [.int (jm_er 1)] [jb_main imm Im Tm rowm stkm tpm, jb_sch13 I W T, s2, s3, s4, s5, s6, s7, s8, jb_act Ia boa (jm_ef era 1), s10, s11] _
    refine jb_iret dX11_told_14 rfl ?_
    exact ⟨rfl, rfl⟩
  · show jb_J _ RX11 cX11_told 2 (Option.some .int) false 1 0 0 6 [some (.ref 0), some (.int k)] [.int 0] [jb_main imm Im Tm rowm stkm tpm, jb_sch13 I W T, s2, s3, s4, s5, s6, s7, s8, jb_act Ia boa era, s10, s11] _
    exact absurd (by assumption) hb
set_option maxRecDepth 100000 in
set_option maxHeartbeats 4000000 in
theorem kx_trace {sc : Nat × (Nat → Int32)} {s1 s2 s3 s4 s5 s6 s7 s8 s10 s11 : List va_E} (imm : Int32) (Im rowm stkm tpm : Nat → Int32) (Tm : Nat → Value) (Ia boa era : Nat → Int32) {t9 : Nat} (ha2 : Ia 2 = nI t9) (ht : t9 ≤ 40) (i : Nat) (hi : i < t9) : jb_C sc yX11_trace cX11_trace 2 (Option.some .int) 1 0 0 [.ref 0, .int (nI i)] [jb_main imm Im Tm rowm stkm tpm, s1, s2, s3, s4, s5, s6, s7, s8, jb_act Ia boa era, s10, s11] (fun r h9 => r = some (.int (boa i)) ∧ h9 = [jb_main imm Im Tm rowm stkm tpm, s1, s2, s3, s4, s5, s6, s7, s8, jb_act Ia boa era, s10, s11]) := by
  refine jb_CofJ (ini := false) (by decide +kernel) (fun h => by cases h) (Nat.le_of_ble_eq_true rfl) ?_
  show jb_J sc RX11 cX11_trace 2 (Option.some .int) false 1 0 0 0 [some (.ref 0), some (.int (nI i))] [] [jb_main imm Im Tm rowm stkm tpm, s1, s2, s3, s4, s5, s6, s7, s8, jb_act Ia boa era, s10, s11] _
  refine jb_iload_n (pc' := 1) dX11_trace_0 rfl rfl ?_
  refine jb_iconst (pc' := 2) 0 dX11_trace_1 (by decide) rfl ?_
  refine jb_aload_n (pc' := 3) dX11_trace_2 rfl rfl ?_
  refine gf_X11_62 (pc' := 6) (v := .ref 102) dX11_trace_3 rfl rfl rfl ?_
  refine gf_X11_226 (pc' := 9) (v := .int (Ia 2)) dX11_trace_6 rfl rfl rfl ?_
  refine jb_top (v := .int (Ia 2)) (w := .int (nI t9)) (jb_vI ha2) ?_
  refine jb_iconst (pc' := 10) 1 dX11_trace_9 (by decide) rfl ?_
  refine jb_isub (pc' := 11) dX11_trace_10 rfl ?_
  refine jb_callS (pc' := 14) (As := [.int (nI i), .int 0, .int ((nI t9) - 1)]) (a2 := 0) (b2 := 0) wv_X11_74 dX11_trace_11 (c_isOutNG i t9 (by omega) (by omega)) rfl ⟨by decide, Nat.le_of_eq (Nat.zero_add _), Nat.le_of_eq (Nat.zero_add _)⟩ (Nat.le_of_ble_eq_true rfl) rfl (fun r h9 hq => ?_)
  obtain ⟨rfl, rfl⟩ := hq
  show jb_J _ RX11 cX11_trace 2 (Option.some .int) false 1 0 0 14 [some (.ref 0), some (.int (nI i))] [.int 0] [jb_main imm Im Tm rowm stkm tpm, s1, s2, s3, s4, s5, s6, s7, s8, jb_act Ia boa era, s10, s11] _
  refine jb_if_eq (tgt := 23) (pc' := 17) dX11_trace_14 (by decide) rfl (fun _ => ?_) (fun z => absurd (by decide) z)
  refine jb_aload_n (pc' := 24) dX11_trace_23 rfl rfl ?_
  refine gf_X11_62 (pc' := 27) (v := .ref 102) dX11_trace_24 rfl rfl rfl ?_
  refine gf_X11_229 (pc' := 30) (v := .ref 103) dX11_trace_27 rfl rfl rfl ?_
  refine jb_iload_n (pc' := 31) dX11_trace_30 rfl rfl ?_
  refine jb_iaload (pc' := 32) (i9 := i) (f := boa) dX11_trace_31 rfl (jb_ix_nI (by omega)) (by omega) rfl ?_
  refine jb_iret dX11_trace_32 rfl ?_
  exact ⟨rfl, rfl⟩
set_option maxRecDepth 100000 in
set_option maxHeartbeats 4000000 in
theorem ke_trace {sc : Nat × (Nat → Int32)} {s2 s3 s4 s5 s6 s7 s8 s10 s11 : List va_E} {V : Nat → Nat → Nat} (imm : Int32) (Im rowm stkm tpm : Nat → Int32) (Tm : Nat → Value) (I : Nat → Int32) (W : Nat → Nat → Int32) (T : Nat → Value) (Ia boa era : Nat → Int32) (hr : jr_ V I W) (hk : jv_ok V) {t9 : Nat} (ha2 : Ia 2 = nI t9) (ht : t9 ≤ 40) (i : Int32) (hb : ¬ jn_b i 0 t9) : jb_C sc yX11_trace cX11_trace 2 (Option.some .int) 1 0 0 [.ref 0, .int i] [jb_main imm Im Tm rowm stkm tpm, jb_sch13 I W T, s2, s3, s4, s5, s6, s7, s8, jb_act Ia boa era, s10, s11] (fun r h9 => r = some (.int (jm_er 2)) ∧ h9 = [jb_main imm Im Tm rowm stkm tpm, jb_sch13 I W T, s2, s3, s4, s5, s6, s7, s8, jb_act Ia boa (jm_ef era 2), s10, s11]) := by
  refine jb_CofJ (ini := false) (by decide +kernel) (fun h => by cases h) (Nat.le_of_ble_eq_true rfl) ?_
  show jb_J sc RX11 cX11_trace 2 (Option.some .int) false 1 0 0 0 [some (.ref 0), some (.int i)] [] [jb_main imm Im Tm rowm stkm tpm, jb_sch13 I W T, s2, s3, s4, s5, s6, s7, s8, jb_act Ia boa era, s10, s11] _
  have hr0 := hr
  have hk0 := hk
  obtain ⟨r0, r2, r3, r4, a0, a1, a2, rv, rs, rd⟩ := hr
  obtain ⟨k0, k1, k2, k3, k4, k5, k6, k7, kv, ks, kd⟩ := hk
  refine jb_iload_n (pc' := 1) dX11_trace_0 rfl rfl ?_
  refine jb_iconst (pc' := 2) 0 dX11_trace_1 (by decide) rfl ?_
  refine jb_aload_n (pc' := 3) dX11_trace_2 rfl rfl ?_
  refine gf_X11_62 (pc' := 6) (v := .ref 102) dX11_trace_3 rfl rfl rfl ?_
  refine gf_X11_226 (pc' := 9) (v := .int (Ia 2)) dX11_trace_6 rfl rfl rfl ?_
  refine jb_top (v := .int (Ia 2)) (w := .int (nI t9)) (jb_vI ha2) ?_
  refine jb_iconst (pc' := 10) 1 dX11_trace_9 (by decide) rfl ?_
  refine jb_isub (pc' := 11) dX11_trace_10 rfl ?_
  refine jb_callS (pc' := 14) (As := [.int i, .int 0, .int ((nI t9) - 1)]) (a2 := 0) (b2 := 0) wv_X11_74 dX11_trace_11 (c_isOutN i t9 (by omega)) rfl ⟨by decide, Nat.le_of_eq (Nat.zero_add _), Nat.le_of_eq (Nat.zero_add _)⟩ (Nat.le_of_ble_eq_true rfl) rfl (fun r h9 hq => ?_)
  rcases hq with ⟨rfl, ⟨o1, rfl⟩ | ⟨o1, rfl⟩⟩
  · show jb_J _ RX11 cX11_trace 2 (Option.some .int) false 1 0 0 14 [some (.ref 0), some (.int i)] [.int 1] [jb_main imm Im Tm rowm stkm tpm, jb_sch13 I W T, s2, s3, s4, s5, s6, s7, s8, jb_act Ia boa era, s10, s11] _
    refine jb_if_eq (tgt := 23) (pc' := 17) dX11_trace_14 (by decide) rfl (fun z => absurd z (by decide)) (fun _ => ?_)
    refine jb_aload_n (pc' := 18) dX11_trace_17 rfl rfl ?_
    refine jb_iconst (pc' := 19) 2 dX11_trace_18 (by decide) rfl ?_
    refine jb_callV (pc' := 22) (ci := 11) (q := 0) (As := [.int 2]) (a2 := 0) (b2 := 0) wv_X11_78 rfl dX11_trace_19 (c_error imm Im rowm stkm tpm Tm Ia boa era 2 (by decide)) rfl rfl ⟨by decide, Nat.le_of_eq (Nat.zero_add _), Nat.le_of_eq (Nat.zero_add _)⟩ (Nat.le_of_ble_eq_true rfl) rfl (fun r h9 hq => ?_)
    obtain ⟨rfl, rfl⟩ := hq
    show jb_J _ RX11 cX11_trace 2 (Option.some .int) false 1 0 0 22 [some (.ref 0), some (.int i)] [.int (jm_er 2)] [jb_main imm Im Tm rowm stkm tpm, jb_sch13 I W T, s2, s3, s4, s5, s6, s7, s8, jb_act Ia boa (jm_ef era 2), s10, s11] _
    refine jb_iret dX11_trace_22 rfl ?_
    exact ⟨rfl, rfl⟩
  · show jb_J _ RX11 cX11_trace 2 (Option.some .int) false 1 0 0 14 [some (.ref 0), some (.int i)] [.int 0] [jb_main imm Im Tm rowm stkm tpm, jb_sch13 I W T, s2, s3, s4, s5, s6, s7, s8, jb_act Ia boa era, s10, s11] _
    exact absurd (by assumption) hb
set_option maxRecDepth 100000 in
set_option maxHeartbeats 4000000 in
theorem kx_tell {sc : Nat × (Nat → Int32)} {s2 s3 s4 s5 s6 s7 s8 s9 s10 s11 : List va_E} {V : Nat → Nat → Nat} (imm : Int32) (Im rowm stkm tpm : Nat → Int32) (Tm : Nat → Value) (I : Nat → Int32) (W : Nat → Nat → Int32) (T : Nat → Value) (hr : jr_ V I W) (hk : jv_ok V) {wt : Nat} (h6 : I 6 = nI wt) (hwt : wt < 20) (v : Int32) : jb_C sc yX11_tell cX11_tell 2 (Option.some .int) 0 0 0 [.ref 0, .int v] [jb_main imm Im Tm rowm stkm tpm, jb_sch13 I W T, s2, s3, s4, s5, s6, s7, s8, s9, s10, s11] (fun r h9 => r = some (.int (nI (wt + 1))) ∧ h9 = [jb_main imm Im Tm rowm stkm tpm, jb_sch13 (upd I 6 (nI (wt + 1))) (va_up W 15 (upd (W 15) wt v)) T, s2, s3, s4, s5, s6, s7, s8, s9, s10, s11]) := by
  refine jb_CofJ (ini := false) (by decide +kernel) (fun h => by cases h) (Nat.le_of_ble_eq_true rfl) ?_
  show jb_J sc RX11 cX11_tell 2 (Option.some .int) false 0 0 0 0 [some (.ref 0), some (.int v)] [] [jb_main imm Im Tm rowm stkm tpm, jb_sch13 I W T, s2, s3, s4, s5, s6, s7, s8, s9, s10, s11] _
  have hr0 := hr
  have hk0 := hk
  obtain ⟨r0, r2, r3, r4, a0, a1, a2, rv, rs, rd⟩ := hr
  obtain ⟨k0, k1, k2, k3, k4, k5, k6, k7, kv, ks, kd⟩ := hk
  refine jb_aload_n (pc' := 1) dX11_tell_0 rfl rfl ?_
  refine gf_X11_42 (pc' := 4) (v := .ref 13) dX11_tell_1 rfl rfl rfl ?_
  refine gf_X11_260 (pc' := 7) (v := .int (I 6)) dX11_tell_4 rfl rfl rfl ?_
  refine jb_top (v := .int (I 6)) (w := .int (nI wt)) (jb_vI h6) ?_
  refine jb_bipush (pc' := 9) 20 dX11_tell_7 (by decide) rfl ?_
  refine jb_icmp_lt (tgt := 18) (pc' := 12) dX11_tell_9 (by decide) rfl (fun _ => ?_) (fun z => absurd (nI_lt (a := wt) (b := 20) (by omega) (by omega)) z)
  refine jb_aload_n (pc' := 19) dX11_tell_18 rfl rfl ?_
  refine gf_X11_42 (pc' := 22) (v := .ref 13) dX11_tell_19 rfl rfl rfl ?_
  refine gf_X11_263 (pc' := 25) (v := .ref 32) dX11_tell_22 rfl rfl rfl ?_
  refine jb_aload_n (pc' := 26) dX11_tell_25 rfl rfl ?_
  refine gf_X11_42 (pc' := 29) (v := .ref 13) dX11_tell_26 rfl rfl rfl ?_
  refine gf_X11_260 (pc' := 32) (v := .int (I 6)) dX11_tell_29 rfl rfl rfl ?_
  refine jb_top (v := .int (I 6)) (w := .int (nI wt)) (jb_vI h6) ?_
  refine jb_iload_n (pc' := 33) dX11_tell_32 rfl rfl ?_
  refine jb_iastore (pc' := 34) (i9 := wt) (f := (W 15)) (h' := [jb_main imm Im Tm rowm stkm tpm, jb_sch13 I (va_up W 15 (upd (W 15) wt v)) T, s2, s3, s4, s5, s6, s7, s8, s9, s10, s11]) dX11_tell_33 rfl (jb_ix_nI (by omega)) (by omega) rfl rfl ?_
  refine jb_aload_n (pc' := 35) dX11_tell_34 rfl rfl ?_
  refine gf_X11_42 (pc' := 38) (v := .ref 13) dX11_tell_35 rfl rfl rfl ?_
  refine jb_dup (pc' := 39) dX11_tell_38 rfl rfl ?_
  refine gf_X11_260 (pc' := 42) (v := .int (I 6)) dX11_tell_39 rfl rfl rfl ?_
  refine jb_top (v := .int (I 6)) (w := .int (nI wt)) (jb_vI h6) ?_
  refine jb_iconst (pc' := 43) 1 dX11_tell_42 (by decide) rfl ?_
  refine jb_iadd (pc' := 44) dX11_tell_43 rfl ?_
  refine jb_top (v := .int ((nI wt) + 1)) (w := .int (nI (wt + 1))) (jb_vI (nI_add _ 1)) ?_
  refine pf_X11_260 (pc' := 47) (h' := [jb_main imm Im Tm rowm stkm tpm, jb_sch13 (upd I 6 (nI (wt + 1))) (va_up W 15 (upd (W 15) wt v)) T, s2, s3, s4, s5, s6, s7, s8, s9, s10, s11]) dX11_tell_44 (fun _ => ⟨rfl, rfl⟩) rfl (Nat.le_of_ble_eq_true rfl) rfl rfl ?_
  refine jb_aload_n (pc' := 48) dX11_tell_47 rfl rfl ?_
  refine gf_X11_42 (pc' := 51) (v := .ref 13) dX11_tell_48 rfl rfl rfl ?_
  refine gf_X11_260 (pc' := 54) (v := .int (nI (wt + 1))) dX11_tell_51 rfl rfl rfl ?_
  refine jb_iret dX11_tell_54 rfl ?_
  exact ⟨rfl, rfl⟩
set_option maxRecDepth 100000 in
set_option maxHeartbeats 4000000 in
theorem ke_tell {sc : Nat × (Nat → Int32)} {s2 s3 s4 s5 s6 s7 s8 s10 s11 : List va_E} {V : Nat → Nat → Nat} (imm : Int32) (Im rowm stkm tpm : Nat → Int32) (Tm : Nat → Value) (I : Nat → Int32) (W : Nat → Nat → Int32) (T : Nat → Value) (Ia boa era : Nat → Int32) (hr : jr_ V I W) (hk : jv_ok V) {wt : Nat} (h6 : I 6 = nI wt) (hwt : wt = 20) (v : Int32) : jb_C sc yX11_tell cX11_tell 2 (Option.some .int) 1 0 0 [.ref 0, .int v] [jb_main imm Im Tm rowm stkm tpm, jb_sch13 I W T, s2, s3, s4, s5, s6, s7, s8, jb_act Ia boa era, s10, s11] (fun r h9 => r = some (.int (jm_er 4)) ∧ h9 = [jb_main imm Im Tm rowm stkm tpm, jb_sch13 I W T, s2, s3, s4, s5, s6, s7, s8, jb_act Ia boa (jm_ef era 4), s10, s11]) := by
  refine jb_CofJ (ini := false) (by decide +kernel) (fun h => by cases h) (Nat.le_of_ble_eq_true rfl) ?_
  show jb_J sc RX11 cX11_tell 2 (Option.some .int) false 1 0 0 0 [some (.ref 0), some (.int v)] [] [jb_main imm Im Tm rowm stkm tpm, jb_sch13 I W T, s2, s3, s4, s5, s6, s7, s8, jb_act Ia boa era, s10, s11] _
  have hr0 := hr
  have hk0 := hk
  obtain ⟨r0, r2, r3, r4, a0, a1, a2, rv, rs, rd⟩ := hr
  obtain ⟨k0, k1, k2, k3, k4, k5, k6, k7, kv, ks, kd⟩ := hk
  refine jb_aload_n (pc' := 1) dX11_tell_0 rfl rfl ?_
  refine gf_X11_42 (pc' := 4) (v := .ref 13) dX11_tell_1 rfl rfl rfl ?_
  refine gf_X11_260 (pc' := 7) (v := .int (I 6)) dX11_tell_4 rfl rfl rfl ?_
  refine jb_top (v := .int (I 6)) (w := .int (nI wt)) (jb_vI h6) ?_
  refine jb_bipush (pc' := 9) 20 dX11_tell_7 (by decide) rfl ?_
  refine jb_icmp_lt (tgt := 18) (pc' := 12) dX11_tell_9 (by decide) rfl (fun z => absurd z (nI_nlt (a := wt) (b := 20) (by omega) (by omega))) (fun _ => ?_)
  refine jb_aload_n (pc' := 13) dX11_tell_12 rfl rfl ?_
  refine jb_iconst (pc' := 14) 4 dX11_tell_13 (by decide) rfl ?_
  refine jb_callV (pc' := 17) (ci := 11) (q := 0) (As := [.int 4]) (a2 := 0) (b2 := 0) wv_X11_78 rfl dX11_tell_14 (c_error imm Im rowm stkm tpm Tm Ia boa era 4 (by decide)) rfl rfl ⟨by decide, Nat.le_of_eq (Nat.zero_add _), Nat.le_of_eq (Nat.zero_add _)⟩ (Nat.le_of_ble_eq_true rfl) rfl (fun r h9 hq => ?_)
  obtain ⟨rfl, rfl⟩ := hq
  show jb_J _ RX11 cX11_tell 2 (Option.some .int) false 1 0 0 17 [some (.ref 0), some (.int v)] [.int (jm_er 4)] [jb_main imm Im Tm rowm stkm tpm, jb_sch13 I W T, s2, s3, s4, s5, s6, s7, s8, jb_act Ia boa (jm_ef era 4), s10, s11] _
  refine jb_iret dX11_tell_17 rfl ?_
  exact ⟨rfl, rfl⟩
set_option maxRecDepth 100000 in
set_option maxHeartbeats 4000000 in
theorem kx_goOn0 {sc : Nat × (Nat → Int32)} {s2 s3 s4 s5 s6 s7 s8 s9 s10 s11 : List va_E} {V : Nat → Nat → Nat} (imm : Int32) (Im rowm stkm tpm : Nat → Int32) (Tm : Nat → Value) (I : Nat → Int32) (W : Nat → Nat → Int32) (T : Nat → Value) (hr : jr_ V I W) (hk : jv_ok V) (n : Nat) (h1 : 1 ≤ n) (h2 : n ≤ 200) (h3 : V 0 0 + n ≤ 9999) {G : jm_G} (hG : jm_Gok G) (hg : jG13 sc T s11 G) : jb_C sc yX11_goOn cX11_goOn 3 (Option.some .int) 8 0 0 [.ref 0, .int (nI n), .int 0] [jb_main imm Im Tm rowm stkm tpm, jb_sch13 I W T, s2, s3, s4, s5, s6, s7, s8, s9, s10, s11] (fun r h9 => r = some (.int (nI ((jm_pa G false n (V, I 1)).1 0 2))) ∧ ∃ I9 W9 stk9, jr_ (jm_pa G false n (V, I 1)).1 I9 W9 ∧ I9 1 = (jm_pa G false n (V, I 1)).2 ∧ jr_f I W I9 W9 ∧ h9 = [jb_main imm Im Tm rowm stk9 tpm, jb_sch13 I9 W9 T, s2, s3, s4, s5, s6, s7, s8, s9, s10, s11]) := by
  refine jb_CofJ (ini := false) (by decide +kernel) (fun h => by cases h) (Nat.le_of_ble_eq_true rfl) ?_
  show jb_J sc RX11 cX11_goOn 3 (Option.some .int) false 8 0 0 0 [some (.ref 0), some (.int (nI n)), some (.int 0)] [] [jb_main imm Im Tm rowm stkm tpm, jb_sch13 I W T, s2, s3, s4, s5, s6, s7, s8, s9, s10, s11] _
  have hr0 := hr
  have hk0 := hk
  obtain ⟨r0, r2, r3, r4, a0, a1, a2, rv, rs, rd⟩ := hr
  obtain ⟨k0, k1, k2, k3, k4, k5, k6, k7, kv, ks, kd⟩ := hk
  refine jb_iload_n (pc' := 1) dX11_goOn_0 rfl rfl ?_
  refine jb_iconst (pc' := 2) 1 dX11_goOn_1 (by decide) rfl ?_
  refine jb_sipush (pc' := 5) 200 dX11_goOn_2 (by decide) rfl ?_
  refine jb_callS (pc' := 8) (As := [.int (nI n), .int 1, .int 200]) (a2 := 0) (b2 := 0) wv_X11_74 dX11_goOn_5 (c_isOutLG n 1 200 (by omega) (by omega) (by omega)) rfl ⟨by decide, Nat.le_of_eq (Nat.zero_add _), Nat.le_of_eq (Nat.zero_add _)⟩ (Nat.le_of_ble_eq_true rfl) rfl (fun r h9 hq => ?_)
  obtain ⟨rfl, rfl⟩ := hq
  show jb_J _ RX11 cX11_goOn 3 (Option.some .int) false 8 0 0 8 [some (.ref 0), some (.int (nI n)), some (.int 0)] [.int 0] [jb_main imm Im Tm rowm stkm tpm, jb_sch13 I W T, s2, s3, s4, s5, s6, s7, s8, s9, s10, s11] _
  refine jb_if_eq (tgt := 17) (pc' := 11) dX11_goOn_8 (by decide) rfl (fun _ => ?_) (fun z => absurd (by decide) z)
  refine jb_aload_n (pc' := 18) dX11_goOn_17 rfl rfl ?_
  refine gf_X11_42 (pc' := 21) (v := .ref 13) dX11_goOn_18 rfl rfl rfl ?_
  refine gf_X11_257 (pc' := 24) (v := .int (I 0)) dX11_goOn_21 rfl rfl rfl ?_
  refine jb_top (v := .int (I 0)) (w := .int (nI (V 0 0))) (jb_vI r0) ?_
  refine jb_iload_n (pc' := 25) dX11_goOn_24 rfl rfl ?_
  refine jb_iadd (pc' := 26) dX11_goOn_25 rfl ?_
  refine jb_top (v := .int ((nI (V 0 0)) + (nI n))) (w := .int (nI ((V 0 0) + n))) (jb_vI (nI_add _ _)) ?_
  refine jb_sipush (pc' := 29) 9999 dX11_goOn_26 (by decide) rfl ?_
  refine jb_icmp_le (tgt := 38) (pc' := 32) dX11_goOn_29 (by decide) rfl (fun _ => ?_) (fun z => absurd (nI_le (a := V 0 0 + n) (b := 9999) (by omega) (by omega)) z)
  refine jb_aload_n (pc' := 39) dX11_goOn_38 rfl rfl ?_
  refine gf_X11_42 (pc' := 42) (v := .ref 13) dX11_goOn_39 rfl rfl rfl ?_
  refine jb_iload_n (pc' := 43) dX11_goOn_42 rfl rfl ?_
  refine jb_iload_n (pc' := 44) dX11_goOn_43 rfl rfl ?_
  refine jb_callV (pc' := 47) (ci := 9) (q := 13) (As := [.int (nI n), .int 0]) (a2 := 0) (b2 := 0) wv_X11_265 rfl dX11_goOn_44 (c_pass0_13 imm Im rowm stkm tpm Tm I W T hr0 hk0 hG hg n (by omega) (by omega)) rfl rfl ⟨by decide, Nat.le_of_eq (Nat.zero_add _), Nat.le_of_eq (Nat.zero_add _)⟩ (Nat.le_of_ble_eq_true rfl) rfl (fun r h9 hq => ?_)
  obtain ⟨rfl, I9, W9, stk9, hr9, hz9, hf9, rfl⟩ := hq
  show jb_J _ RX11 cX11_goOn 3 (Option.some .int) false 8 0 0 47 [some (.ref 0), some (.int (nI n)), some (.int 0)] [] [jb_main imm Im Tm rowm stk9 tpm, jb_sch13 I9 W9 T, s2, s3, s4, s5, s6, s7, s8, s9, s10, s11] _
  refine jb_aload_n (pc' := 48) dX11_goOn_47 rfl rfl ?_
  refine gf_X11_42 (pc' := 51) (v := .ref 13) dX11_goOn_48 rfl rfl rfl ?_
  refine gf_X11_113 (pc' := 54) (v := .int (I9 3)) dX11_goOn_51 rfl rfl rfl ?_
  refine jb_top (v := .int (I9 3)) (w := .int (nI ((jm_pa G false n (V, I 1)).1 0 2))) (jb_vI hr9.2.2.1) ?_
  refine jb_iret dX11_goOn_54 rfl ?_
  exact ⟨rfl, I9, W9, stk9, hr9, hz9, hf9, rfl⟩
set_option maxRecDepth 100000 in
set_option maxHeartbeats 4000000 in
theorem ke_goOn0 {sc : Nat × (Nat → Int32)} {s2 s3 s4 s5 s6 s7 s8 s10 s11 : List va_E} {V : Nat → Nat → Nat} (imm : Int32) (Im rowm stkm tpm : Nat → Int32) (Tm : Nat → Value) (I : Nat → Int32) (W : Nat → Nat → Int32) (T : Nat → Value) (Ia boa era : Nat → Int32) (hr : jr_ V I W) (hk : jv_ok V) (n : Int32) (hb : ¬ jn_b n 1 201) : jb_C sc yX11_goOn cX11_goOn 3 (Option.some .int) 1 0 0 [.ref 0, .int n, .int 0] [jb_main imm Im Tm rowm stkm tpm, jb_sch13 I W T, s2, s3, s4, s5, s6, s7, s8, jb_act Ia boa era, s10, s11] (fun r h9 => r = some (.int (jm_er 1)) ∧ h9 = [jb_main imm Im Tm rowm stkm tpm, jb_sch13 I W T, s2, s3, s4, s5, s6, s7, s8, jb_act Ia boa (jm_ef era 1), s10, s11]) := by
  refine jb_CofJ (ini := false) (by decide +kernel) (fun h => by cases h) (Nat.le_of_ble_eq_true rfl) ?_
  show jb_J sc RX11 cX11_goOn 3 (Option.some .int) false 1 0 0 0 [some (.ref 0), some (.int n), some (.int 0)] [] [jb_main imm Im Tm rowm stkm tpm, jb_sch13 I W T, s2, s3, s4, s5, s6, s7, s8, jb_act Ia boa era, s10, s11] _
  have hr0 := hr
  have hk0 := hk
  obtain ⟨r0, r2, r3, r4, a0, a1, a2, rv, rs, rd⟩ := hr
  obtain ⟨k0, k1, k2, k3, k4, k5, k6, k7, kv, ks, kd⟩ := hk
  refine jb_iload_n (pc' := 1) dX11_goOn_0 rfl rfl ?_
  refine jb_iconst (pc' := 2) 1 dX11_goOn_1 (by decide) rfl ?_
  refine jb_sipush (pc' := 5) 200 dX11_goOn_2 (by decide) rfl ?_
  refine jb_callS (pc' := 8) (As := [.int n, .int 1, .int 200]) (a2 := 0) (b2 := 0) wv_X11_74 dX11_goOn_5 (c_isOutL n 1 200 (by omega) (by omega)) rfl ⟨by decide, Nat.le_of_eq (Nat.zero_add _), Nat.le_of_eq (Nat.zero_add _)⟩ (Nat.le_of_ble_eq_true rfl) rfl (fun r h9 hq => ?_)
  rcases hq with ⟨rfl, ⟨o1, rfl⟩ | ⟨o1, rfl⟩⟩
  · show jb_J _ RX11 cX11_goOn 3 (Option.some .int) false 1 0 0 8 [some (.ref 0), some (.int n), some (.int 0)] [.int 1] [jb_main imm Im Tm rowm stkm tpm, jb_sch13 I W T, s2, s3, s4, s5, s6, s7, s8, jb_act Ia boa era, s10, s11] _
    refine jb_if_eq (tgt := 17) (pc' := 11) dX11_goOn_8 (by decide) rfl (fun z => absurd z (by decide)) (fun _ => ?_)
    refine jb_aload_n (pc' := 12) dX11_goOn_11 rfl rfl ?_
    refine jb_iconst (pc' := 13) 1 dX11_goOn_12 (by decide) rfl ?_
    refine jb_callV (pc' := 16) (ci := 11) (q := 0) (As := [.int 1]) (a2 := 0) (b2 := 0) wv_X11_78 rfl dX11_goOn_13 (c_error imm Im rowm stkm tpm Tm Ia boa era 1 (by decide)) rfl rfl ⟨by decide, Nat.le_of_eq (Nat.zero_add _), Nat.le_of_eq (Nat.zero_add _)⟩ (Nat.le_of_ble_eq_true rfl) rfl (fun r h9 hq => ?_)
    obtain ⟨rfl, rfl⟩ := hq
    show jb_J _ RX11 cX11_goOn 3 (Option.some .int) false 1 0 0 16 [some (.ref 0), some (.int n), some (.int 0)] [.int (jm_er 1)] [jb_main imm Im Tm rowm stkm tpm, jb_sch13 I W T, s2, s3, s4, s5, s6, s7, s8, jb_act Ia boa (jm_ef era 1), s10, s11] _
    refine jb_iret dX11_goOn_16 rfl ?_
    exact ⟨rfl, rfl⟩
  · show jb_J _ RX11 cX11_goOn 3 (Option.some .int) false 1 0 0 8 [some (.ref 0), some (.int n), some (.int 0)] [.int 0] [jb_main imm Im Tm rowm stkm tpm, jb_sch13 I W T, s2, s3, s4, s5, s6, s7, s8, jb_act Ia boa era, s10, s11] _
    refine jb_if_eq (tgt := 17) (pc' := 11) dX11_goOn_8 (by decide) rfl (fun _ => ?_) (fun z => absurd (by decide) z)
    refine jb_aload_n (pc' := 18) dX11_goOn_17 rfl rfl ?_
    refine gf_X11_42 (pc' := 21) (v := .ref 13) dX11_goOn_18 rfl rfl rfl ?_
    refine gf_X11_257 (pc' := 24) (v := .int (I 0)) dX11_goOn_21 rfl rfl rfl ?_
    refine jb_top (v := .int (I 0)) (w := .int (nI (V 0 0))) (jb_vI r0) ?_
    refine jb_iload_n (pc' := 25) dX11_goOn_24 rfl rfl ?_
    refine jb_iadd (pc' := 26) dX11_goOn_25 rfl ?_
    refine jb_sipush (pc' := 29) 9999 dX11_goOn_26 (by decide) rfl ?_
    refine jb_icmp_le (tgt := 38) (pc' := 32) dX11_goOn_29 (by decide) rfl (fun c5 => ?_) (fun c5 => ?_)
    · exact absurd (by assumption) hb
    · refine jb_aload_n (pc' := 33) dX11_goOn_32 rfl rfl ?_
      refine jb_iconst (pc' := 34) 3 dX11_goOn_33 (by decide) rfl ?_
      refine jb_callV (pc' := 37) (ci := 11) (q := 0) (As := [.int 3]) (a2 := 0) (b2 := 0) wv_X11_78 rfl dX11_goOn_34 (c_error imm Im rowm stkm tpm Tm Ia boa era 3 (by decide)) rfl rfl ⟨by decide, Nat.le_of_eq (Nat.zero_add _), Nat.le_of_eq (Nat.zero_add _)⟩ (Nat.le_of_ble_eq_true rfl) rfl (fun r h9 hq => ?_)
      obtain ⟨rfl, rfl⟩ := hq
      show jb_J _ RX11 cX11_goOn 3 (Option.some .int) false 1 0 0 37 [some (.ref 0), some (.int n), some (.int 0)] [.int (jm_er 3)] [jb_main imm Im Tm rowm stkm tpm, jb_sch13 I W T, s2, s3, s4, s5, s6, s7, s8, jb_act Ia boa (jm_ef era 3), s10, s11] _
      refine jb_iret dX11_goOn_37 rfl ?_
      exact absurd (by assumption) hb
set_option maxRecDepth 100000 in
set_option maxHeartbeats 4000000 in
theorem ke_goOnS0 {sc : Nat × (Nat → Int32)} {s2 s3 s4 s5 s6 s7 s8 s10 s11 : List va_E} {V : Nat → Nat → Nat} (imm : Int32) (Im rowm stkm tpm : Nat → Int32) (Tm : Nat → Value) (I : Nat → Int32) (W : Nat → Nat → Int32) (T : Nat → Value) (Ia boa era : Nat → Int32) (hr : jr_ V I W) (hk : jv_ok V) (n : Nat) (h1 : 1 ≤ n) (h2 : n ≤ 200) (h3 : ¬ V 0 0 + n ≤ 9999) : jb_C sc yX11_goOn cX11_goOn 3 (Option.some .int) 1 0 0 [.ref 0, .int (nI n), .int 0] [jb_main imm Im Tm rowm stkm tpm, jb_sch13 I W T, s2, s3, s4, s5, s6, s7, s8, jb_act Ia boa era, s10, s11] (fun r h9 => r = some (.int (jm_er 3)) ∧ h9 = [jb_main imm Im Tm rowm stkm tpm, jb_sch13 I W T, s2, s3, s4, s5, s6, s7, s8, jb_act Ia boa (jm_ef era 3), s10, s11]) := by
  refine jb_CofJ (ini := false) (by decide +kernel) (fun h => by cases h) (Nat.le_of_ble_eq_true rfl) ?_
  show jb_J sc RX11 cX11_goOn 3 (Option.some .int) false 1 0 0 0 [some (.ref 0), some (.int (nI n)), some (.int 0)] [] [jb_main imm Im Tm rowm stkm tpm, jb_sch13 I W T, s2, s3, s4, s5, s6, s7, s8, jb_act Ia boa era, s10, s11] _
  have hr0 := hr
  have hk0 := hk
  obtain ⟨r0, r2, r3, r4, a0, a1, a2, rv, rs, rd⟩ := hr
  obtain ⟨k0, k1, k2, k3, k4, k5, k6, k7, kv, ks, kd⟩ := hk
  refine jb_iload_n (pc' := 1) dX11_goOn_0 rfl rfl ?_
  refine jb_iconst (pc' := 2) 1 dX11_goOn_1 (by decide) rfl ?_
  refine jb_sipush (pc' := 5) 200 dX11_goOn_2 (by decide) rfl ?_
  refine jb_callS (pc' := 8) (As := [.int (nI n), .int 1, .int 200]) (a2 := 0) (b2 := 0) wv_X11_74 dX11_goOn_5 (c_isOutLG n 1 200 (by omega) (by omega) (by omega)) rfl ⟨by decide, Nat.le_of_eq (Nat.zero_add _), Nat.le_of_eq (Nat.zero_add _)⟩ (Nat.le_of_ble_eq_true rfl) rfl (fun r h9 hq => ?_)
  obtain ⟨rfl, rfl⟩ := hq
  show jb_J _ RX11 cX11_goOn 3 (Option.some .int) false 1 0 0 8 [some (.ref 0), some (.int (nI n)), some (.int 0)] [.int 0] [jb_main imm Im Tm rowm stkm tpm, jb_sch13 I W T, s2, s3, s4, s5, s6, s7, s8, jb_act Ia boa era, s10, s11] _
  refine jb_if_eq (tgt := 17) (pc' := 11) dX11_goOn_8 (by decide) rfl (fun _ => ?_) (fun z => absurd (by decide) z)
  refine jb_aload_n (pc' := 18) dX11_goOn_17 rfl rfl ?_
  refine gf_X11_42 (pc' := 21) (v := .ref 13) dX11_goOn_18 rfl rfl rfl ?_
  refine gf_X11_257 (pc' := 24) (v := .int (I 0)) dX11_goOn_21 rfl rfl rfl ?_
  refine jb_top (v := .int (I 0)) (w := .int (nI (V 0 0))) (jb_vI r0) ?_
  refine jb_iload_n (pc' := 25) dX11_goOn_24 rfl rfl ?_
  refine jb_iadd (pc' := 26) dX11_goOn_25 rfl ?_
  refine jb_top (v := .int ((nI (V 0 0)) + (nI n))) (w := .int (nI ((V 0 0) + n))) (jb_vI (nI_add _ _)) ?_
  refine jb_sipush (pc' := 29) 9999 dX11_goOn_26 (by decide) rfl ?_
  refine jb_icmp_le (tgt := 38) (pc' := 32) dX11_goOn_29 (by decide) rfl (fun z => absurd z (nI_ge (a := 9999) (b := V 0 0 + n) (by omega) (by omega))) (fun _ => ?_)
  refine jb_aload_n (pc' := 33) dX11_goOn_32 rfl rfl ?_
  refine jb_iconst (pc' := 34) 3 dX11_goOn_33 (by decide) rfl ?_
  refine jb_callV (pc' := 37) (ci := 11) (q := 0) (As := [.int 3]) (a2 := 0) (b2 := 0) wv_X11_78 rfl dX11_goOn_34 (c_error imm Im rowm stkm tpm Tm Ia boa era 3 (by decide)) rfl rfl ⟨by decide, Nat.le_of_eq (Nat.zero_add _), Nat.le_of_eq (Nat.zero_add _)⟩ (Nat.le_of_ble_eq_true rfl) rfl (fun r h9 hq => ?_)
  obtain ⟨rfl, rfl⟩ := hq
  show jb_J _ RX11 cX11_goOn 3 (Option.some .int) false 1 0 0 37 [some (.ref 0), some (.int (nI n)), some (.int 0)] [.int (jm_er 3)] [jb_main imm Im Tm rowm stkm tpm, jb_sch13 I W T, s2, s3, s4, s5, s6, s7, s8, jb_act Ia boa (jm_ef era 3), s10, s11] _
  refine jb_iret dX11_goOn_37 rfl ?_
  exact ⟨rfl, rfl⟩
set_option maxRecDepth 100000 in
set_option maxHeartbeats 4000000 in
theorem kx_seconds {sc : Nat × (Nat → Int32)} {s2 s3 s4 s5 s6 s7 s8 s9 s10 s11 : List va_E} {V : Nat → Nat → Nat} (imm : Int32) (Im rowm stkm tpm : Nat → Int32) (Tm : Nat → Value) (I : Nat → Int32) (W : Nat → Nat → Int32) (T : Nat → Value) (hr : jr_ V I W) (hk : jv_ok V) (n : Nat) (h1 : 1 ≤ n) (h2 : n ≤ 200) (h3 : V 0 0 + n ≤ 9999) {G : jm_G} (hG : jm_Gok G) (hg : jG13 sc T s11 G) : jb_C sc yX11_seconds cX11_seconds 2 (Option.some .int) 9 0 0 [.ref 0, .int (nI n)] [jb_main imm Im Tm rowm stkm tpm, jb_sch13 I W T, s2, s3, s4, s5, s6, s7, s8, s9, s10, s11] (fun r h9 => r = some (.int (nI ((jm_pa G false n (V, I 1)).1 0 2))) ∧ ∃ I9 W9 stk9, jr_ (jm_pa G false n (V, I 1)).1 I9 W9 ∧ I9 1 = (jm_pa G false n (V, I 1)).2 ∧ jr_f I W I9 W9 ∧ h9 = [jb_main imm Im Tm rowm stk9 tpm, jb_sch13 I9 W9 T, s2, s3, s4, s5, s6, s7, s8, s9, s10, s11]) := by
  refine jb_CofJ (ini := false) (by decide +kernel) (fun h => by cases h) (Nat.le_of_ble_eq_true rfl) ?_
  show jb_J sc RX11 cX11_seconds 2 (Option.some .int) false 9 0 0 0 [some (.ref 0), some (.int (nI n))] [] [jb_main imm Im Tm rowm stkm tpm, jb_sch13 I W T, s2, s3, s4, s5, s6, s7, s8, s9, s10, s11] _
  have hr0 := hr
  have hk0 := hk
  obtain ⟨r0, r2, r3, r4, a0, a1, a2, rv, rs, rd⟩ := hr
  obtain ⟨k0, k1, k2, k3, k4, k5, k6, k7, kv, ks, kd⟩ := hk
  refine jb_aload_n (pc' := 1) dX11_seconds_0 rfl rfl ?_
  refine jb_iload_n (pc' := 2) dX11_seconds_1 rfl rfl ?_
  refine jb_iconst (pc' := 3) 0 dX11_seconds_2 (by decide) rfl ?_
  refine jb_callV (pc' := 6) (ci := 11) (q := 0) (As := [.int (nI n), .int 0]) (a2 := 0) (b2 := 0) wv_X11_157 rfl dX11_seconds_3 (kx_goOn0 imm Im rowm stkm tpm Tm I W T hr0 hk0 n h1 h2 h3 hG hg) rfl rfl ⟨by decide, Nat.le_of_eq (Nat.zero_add _), Nat.le_of_eq (Nat.zero_add _)⟩ (Nat.le_of_ble_eq_true rfl) rfl (fun r h9 hq => ?_)
  obtain ⟨rfl, I9, W9, stk9, hr9, hz9, hf9, rfl⟩ := hq
  show jb_J _ RX11 cX11_seconds 2 (Option.some .int) false 9 0 0 6 [some (.ref 0), some (.int (nI n))] [.int (nI ((jm_pa G false n (V, I 1)).1 0 2))] [jb_main imm Im Tm rowm stk9 tpm, jb_sch13 I9 W9 T, s2, s3, s4, s5, s6, s7, s8, s9, s10, s11] _
  refine jb_iret dX11_seconds_6 rfl ?_
  exact ⟨rfl, I9, W9, stk9, hr9, hz9, hf9, rfl⟩
set_option maxRecDepth 100000 in
set_option maxHeartbeats 4000000 in
theorem ke_seconds {sc : Nat × (Nat → Int32)} {s2 s3 s4 s5 s6 s7 s8 s10 s11 : List va_E} {V : Nat → Nat → Nat} (imm : Int32) (Im rowm stkm tpm : Nat → Int32) (Tm : Nat → Value) (I : Nat → Int32) (W : Nat → Nat → Int32) (T : Nat → Value) (Ia boa era : Nat → Int32) (hr : jr_ V I W) (hk : jv_ok V) (n : Int32) (hb : ¬ jn_b n 1 201) : jb_C sc yX11_seconds cX11_seconds 2 (Option.some .int) 2 0 0 [.ref 0, .int n] [jb_main imm Im Tm rowm stkm tpm, jb_sch13 I W T, s2, s3, s4, s5, s6, s7, s8, jb_act Ia boa era, s10, s11] (fun r h9 => r = some (.int (jm_er 1)) ∧ h9 = [jb_main imm Im Tm rowm stkm tpm, jb_sch13 I W T, s2, s3, s4, s5, s6, s7, s8, jb_act Ia boa (jm_ef era 1), s10, s11]) := by
  refine jb_CofJ (ini := false) (by decide +kernel) (fun h => by cases h) (Nat.le_of_ble_eq_true rfl) ?_
  show jb_J sc RX11 cX11_seconds 2 (Option.some .int) false 2 0 0 0 [some (.ref 0), some (.int n)] [] [jb_main imm Im Tm rowm stkm tpm, jb_sch13 I W T, s2, s3, s4, s5, s6, s7, s8, jb_act Ia boa era, s10, s11] _
  have hr0 := hr
  have hk0 := hk
  obtain ⟨r0, r2, r3, r4, a0, a1, a2, rv, rs, rd⟩ := hr
  obtain ⟨k0, k1, k2, k3, k4, k5, k6, k7, kv, ks, kd⟩ := hk
  refine jb_aload_n (pc' := 1) dX11_seconds_0 rfl rfl ?_
  refine jb_iload_n (pc' := 2) dX11_seconds_1 rfl rfl ?_
  refine jb_iconst (pc' := 3) 0 dX11_seconds_2 (by decide) rfl ?_
  refine jb_callV (pc' := 6) (ci := 11) (q := 0) (As := [.int n, .int 0]) (a2 := 0) (b2 := 0) wv_X11_157 rfl dX11_seconds_3 (ke_goOn0 imm Im rowm stkm tpm Tm I W T Ia boa era hr0 hk0 n hb) rfl rfl ⟨by decide, Nat.le_of_eq (Nat.zero_add _), Nat.le_of_eq (Nat.zero_add _)⟩ (Nat.le_of_ble_eq_true rfl) rfl (fun r h9 hq => ?_)
  obtain ⟨rfl, rfl⟩ := hq
  show jb_J _ RX11 cX11_seconds 2 (Option.some .int) false 2 0 0 6 [some (.ref 0), some (.int n)] [.int (jm_er 1)] [jb_main imm Im Tm rowm stkm tpm, jb_sch13 I W T, s2, s3, s4, s5, s6, s7, s8, jb_act Ia boa (jm_ef era 1), s10, s11] _
  refine jb_iret dX11_seconds_6 rfl ?_
  exact ⟨rfl, rfl⟩
set_option maxRecDepth 100000 in
set_option maxHeartbeats 4000000 in
theorem ke_secondsS {sc : Nat × (Nat → Int32)} {s2 s3 s4 s5 s6 s7 s8 s10 s11 : List va_E} {V : Nat → Nat → Nat} (imm : Int32) (Im rowm stkm tpm : Nat → Int32) (Tm : Nat → Value) (I : Nat → Int32) (W : Nat → Nat → Int32) (T : Nat → Value) (Ia boa era : Nat → Int32) (hr : jr_ V I W) (hk : jv_ok V) (n : Nat) (h1 : 1 ≤ n) (h2 : n ≤ 200) (h3 : ¬ V 0 0 + n ≤ 9999) : jb_C sc yX11_seconds cX11_seconds 2 (Option.some .int) 2 0 0 [.ref 0, .int (nI n)] [jb_main imm Im Tm rowm stkm tpm, jb_sch13 I W T, s2, s3, s4, s5, s6, s7, s8, jb_act Ia boa era, s10, s11] (fun r h9 => r = some (.int (jm_er 3)) ∧ h9 = [jb_main imm Im Tm rowm stkm tpm, jb_sch13 I W T, s2, s3, s4, s5, s6, s7, s8, jb_act Ia boa (jm_ef era 3), s10, s11]) := by
  refine jb_CofJ (ini := false) (by decide +kernel) (fun h => by cases h) (Nat.le_of_ble_eq_true rfl) ?_
  show jb_J sc RX11 cX11_seconds 2 (Option.some .int) false 2 0 0 0 [some (.ref 0), some (.int (nI n))] [] [jb_main imm Im Tm rowm stkm tpm, jb_sch13 I W T, s2, s3, s4, s5, s6, s7, s8, jb_act Ia boa era, s10, s11] _
  have hr0 := hr
  have hk0 := hk
  obtain ⟨r0, r2, r3, r4, a0, a1, a2, rv, rs, rd⟩ := hr
  obtain ⟨k0, k1, k2, k3, k4, k5, k6, k7, kv, ks, kd⟩ := hk
  refine jb_aload_n (pc' := 1) dX11_seconds_0 rfl rfl ?_
  refine jb_iload_n (pc' := 2) dX11_seconds_1 rfl rfl ?_
  refine jb_iconst (pc' := 3) 0 dX11_seconds_2 (by decide) rfl ?_
  refine jb_callV (pc' := 6) (ci := 11) (q := 0) (As := [.int (nI n), .int 0]) (a2 := 0) (b2 := 0) wv_X11_157 rfl dX11_seconds_3 (ke_goOnS0 imm Im rowm stkm tpm Tm I W T Ia boa era hr0 hk0 n h1 h2 h3) rfl rfl ⟨by decide, Nat.le_of_eq (Nat.zero_add _), Nat.le_of_eq (Nat.zero_add _)⟩ (Nat.le_of_ble_eq_true rfl) rfl (fun r h9 hq => ?_)
  obtain ⟨rfl, rfl⟩ := hq
  show jb_J _ RX11 cX11_seconds 2 (Option.some .int) false 2 0 0 6 [some (.ref 0), some (.int (nI n))] [.int (jm_er 3)] [jb_main imm Im Tm rowm stkm tpm, jb_sch13 I W T, s2, s3, s4, s5, s6, s7, s8, jb_act Ia boa (jm_ef era 3), s10, s11] _
  refine jb_iret dX11_seconds_6 rfl ?_
  exact ⟨rfl, rfl⟩
set_option maxRecDepth 100000 in
set_option maxHeartbeats 4000000 in
theorem kx_goOn1 {sc : Nat × (Nat → Int32)} {s2 s3 s4 s5 s6 s7 s8 s9 s10 s11 : List va_E} {V : Nat → Nat → Nat} (imm : Int32) (Im rowm stkm tpm : Nat → Int32) (Tm : Nat → Value) (I : Nat → Int32) (W : Nat → Nat → Int32) (T : Nat → Value) (hr : jr_ V I W) (hk : jv_ok V) (n : Nat) (h1 : 1 ≤ n) (h2 : n ≤ 200) (h3 : V 0 0 + n ≤ 9999) {G : jm_G} (hG : jm_Gok G) (hg : jG13 sc T s11 G) : jb_C sc yX11_goOn cX11_goOn 3 (Option.some .int) 8 0 0 [.ref 0, .int (nI n), .int 1] [jb_main imm Im Tm rowm stkm tpm, jb_sch13 I W T, s2, s3, s4, s5, s6, s7, s8, s9, s10, s11] (fun r h9 => r = some (.int (nI ((jm_pa G true n (V, I 1)).1 0 2))) ∧ ∃ I9 W9 stk9, jr_ (jm_pa G true n (V, I 1)).1 I9 W9 ∧ I9 1 = (jm_pa G true n (V, I 1)).2 ∧ jr_f I W I9 W9 ∧ h9 = [jb_main imm Im Tm rowm stk9 tpm, jb_sch13 I9 W9 T, s2, s3, s4, s5, s6, s7, s8, s9, s10, s11]) := by
  refine jb_CofJ (ini := false) (by decide +kernel) (fun h => by cases h) (Nat.le_of_ble_eq_true rfl) ?_
  show jb_J sc RX11 cX11_goOn 3 (Option.some .int) false 8 0 0 0 [some (.ref 0), some (.int (nI n)), some (.int 1)] [] [jb_main imm Im Tm rowm stkm tpm, jb_sch13 I W T, s2, s3, s4, s5, s6, s7, s8, s9, s10, s11] _
  have hr0 := hr
  have hk0 := hk
  obtain ⟨r0, r2, r3, r4, a0, a1, a2, rv, rs, rd⟩ := hr
  obtain ⟨k0, k1, k2, k3, k4, k5, k6, k7, kv, ks, kd⟩ := hk
  refine jb_iload_n (pc' := 1) dX11_goOn_0 rfl rfl ?_
  refine jb_iconst (pc' := 2) 1 dX11_goOn_1 (by decide) rfl ?_
  refine jb_sipush (pc' := 5) 200 dX11_goOn_2 (by decide) rfl ?_
  refine jb_callS (pc' := 8) (As := [.int (nI n), .int 1, .int 200]) (a2 := 0) (b2 := 0) wv_X11_74 dX11_goOn_5 (c_isOutLG n 1 200 (by omega) (by omega) (by omega)) rfl ⟨by decide, Nat.le_of_eq (Nat.zero_add _), Nat.le_of_eq (Nat.zero_add _)⟩ (Nat.le_of_ble_eq_true rfl) rfl (fun r h9 hq => ?_)
  obtain ⟨rfl, rfl⟩ := hq
  show jb_J _ RX11 cX11_goOn 3 (Option.some .int) false 8 0 0 8 [some (.ref 0), some (.int (nI n)), some (.int 1)] [.int 0] [jb_main imm Im Tm rowm stkm tpm, jb_sch13 I W T, s2, s3, s4, s5, s6, s7, s8, s9, s10, s11] _
  refine jb_if_eq (tgt := 17) (pc' := 11) dX11_goOn_8 (by decide) rfl (fun _ => ?_) (fun z => absurd (by decide) z)
  refine jb_aload_n (pc' := 18) dX11_goOn_17 rfl rfl ?_
  refine gf_X11_42 (pc' := 21) (v := .ref 13) dX11_goOn_18 rfl rfl rfl ?_
  refine gf_X11_257 (pc' := 24) (v := .int (I 0)) dX11_goOn_21 rfl rfl rfl ?_
  refine jb_top (v := .int (I 0)) (w := .int (nI (V 0 0))) (jb_vI r0) ?_
  refine jb_iload_n (pc' := 25) dX11_goOn_24 rfl rfl ?_
  refine jb_iadd (pc' := 26) dX11_goOn_25 rfl ?_
  refine jb_top (v := .int ((nI (V 0 0)) + (nI n))) (w := .int (nI ((V 0 0) + n))) (jb_vI (nI_add _ _)) ?_
  refine jb_sipush (pc' := 29) 9999 dX11_goOn_26 (by decide) rfl ?_
  refine jb_icmp_le (tgt := 38) (pc' := 32) dX11_goOn_29 (by decide) rfl (fun _ => ?_) (fun z => absurd (nI_le (a := V 0 0 + n) (b := 9999) (by omega) (by omega)) z)
  refine jb_aload_n (pc' := 39) dX11_goOn_38 rfl rfl ?_
  refine gf_X11_42 (pc' := 42) (v := .ref 13) dX11_goOn_39 rfl rfl rfl ?_
  refine jb_iload_n (pc' := 43) dX11_goOn_42 rfl rfl ?_
  refine jb_iload_n (pc' := 44) dX11_goOn_43 rfl rfl ?_
  refine jb_callV (pc' := 47) (ci := 9) (q := 13) (As := [.int (nI n), .int 1]) (a2 := 0) (b2 := 0) wv_X11_265 rfl dX11_goOn_44 (c_pass1_13 imm Im rowm stkm tpm Tm I W T hr0 hk0 hG hg n (by omega) (by omega)) rfl rfl ⟨by decide, Nat.le_of_eq (Nat.zero_add _), Nat.le_of_eq (Nat.zero_add _)⟩ (Nat.le_of_ble_eq_true rfl) rfl (fun r h9 hq => ?_)
  obtain ⟨rfl, I9, W9, stk9, hr9, hz9, hf9, rfl⟩ := hq
  show jb_J _ RX11 cX11_goOn 3 (Option.some .int) false 8 0 0 47 [some (.ref 0), some (.int (nI n)), some (.int 1)] [] [jb_main imm Im Tm rowm stk9 tpm, jb_sch13 I9 W9 T, s2, s3, s4, s5, s6, s7, s8, s9, s10, s11] _
  refine jb_aload_n (pc' := 48) dX11_goOn_47 rfl rfl ?_
  refine gf_X11_42 (pc' := 51) (v := .ref 13) dX11_goOn_48 rfl rfl rfl ?_
  refine gf_X11_113 (pc' := 54) (v := .int (I9 3)) dX11_goOn_51 rfl rfl rfl ?_
  refine jb_top (v := .int (I9 3)) (w := .int (nI ((jm_pa G true n (V, I 1)).1 0 2))) (jb_vI hr9.2.2.1) ?_
  refine jb_iret dX11_goOn_54 rfl ?_
  exact ⟨rfl, I9, W9, stk9, hr9, hz9, hf9, rfl⟩
set_option maxRecDepth 100000 in
set_option maxHeartbeats 4000000 in
theorem ke_goOn1 {sc : Nat × (Nat → Int32)} {s2 s3 s4 s5 s6 s7 s8 s10 s11 : List va_E} {V : Nat → Nat → Nat} (imm : Int32) (Im rowm stkm tpm : Nat → Int32) (Tm : Nat → Value) (I : Nat → Int32) (W : Nat → Nat → Int32) (T : Nat → Value) (Ia boa era : Nat → Int32) (hr : jr_ V I W) (hk : jv_ok V) (n : Int32) (hb : ¬ jn_b n 1 201) : jb_C sc yX11_goOn cX11_goOn 3 (Option.some .int) 1 0 0 [.ref 0, .int n, .int 1] [jb_main imm Im Tm rowm stkm tpm, jb_sch13 I W T, s2, s3, s4, s5, s6, s7, s8, jb_act Ia boa era, s10, s11] (fun r h9 => r = some (.int (jm_er 1)) ∧ h9 = [jb_main imm Im Tm rowm stkm tpm, jb_sch13 I W T, s2, s3, s4, s5, s6, s7, s8, jb_act Ia boa (jm_ef era 1), s10, s11]) := by
  refine jb_CofJ (ini := false) (by decide +kernel) (fun h => by cases h) (Nat.le_of_ble_eq_true rfl) ?_
  show jb_J sc RX11 cX11_goOn 3 (Option.some .int) false 1 0 0 0 [some (.ref 0), some (.int n), some (.int 1)] [] [jb_main imm Im Tm rowm stkm tpm, jb_sch13 I W T, s2, s3, s4, s5, s6, s7, s8, jb_act Ia boa era, s10, s11] _
  have hr0 := hr
  have hk0 := hk
  obtain ⟨r0, r2, r3, r4, a0, a1, a2, rv, rs, rd⟩ := hr
  obtain ⟨k0, k1, k2, k3, k4, k5, k6, k7, kv, ks, kd⟩ := hk
  refine jb_iload_n (pc' := 1) dX11_goOn_0 rfl rfl ?_
  refine jb_iconst (pc' := 2) 1 dX11_goOn_1 (by decide) rfl ?_
  refine jb_sipush (pc' := 5) 200 dX11_goOn_2 (by decide) rfl ?_
  refine jb_callS (pc' := 8) (As := [.int n, .int 1, .int 200]) (a2 := 0) (b2 := 0) wv_X11_74 dX11_goOn_5 (c_isOutL n 1 200 (by omega) (by omega)) rfl ⟨by decide, Nat.le_of_eq (Nat.zero_add _), Nat.le_of_eq (Nat.zero_add _)⟩ (Nat.le_of_ble_eq_true rfl) rfl (fun r h9 hq => ?_)
  rcases hq with ⟨rfl, ⟨o1, rfl⟩ | ⟨o1, rfl⟩⟩
  · show jb_J _ RX11 cX11_goOn 3 (Option.some .int) false 1 0 0 8 [some (.ref 0), some (.int n), some (.int 1)] [.int 1] [jb_main imm Im Tm rowm stkm tpm, jb_sch13 I W T, s2, s3, s4, s5, s6, s7, s8, jb_act Ia boa era, s10, s11] _
    refine jb_if_eq (tgt := 17) (pc' := 11) dX11_goOn_8 (by decide) rfl (fun z => absurd z (by decide)) (fun _ => ?_)
    refine jb_aload_n (pc' := 12) dX11_goOn_11 rfl rfl ?_
    refine jb_iconst (pc' := 13) 1 dX11_goOn_12 (by decide) rfl ?_
    refine jb_callV (pc' := 16) (ci := 11) (q := 0) (As := [.int 1]) (a2 := 0) (b2 := 0) wv_X11_78 rfl dX11_goOn_13 (c_error imm Im rowm stkm tpm Tm Ia boa era 1 (by decide)) rfl rfl ⟨by decide, Nat.le_of_eq (Nat.zero_add _), Nat.le_of_eq (Nat.zero_add _)⟩ (Nat.le_of_ble_eq_true rfl) rfl (fun r h9 hq => ?_)
    obtain ⟨rfl, rfl⟩ := hq
    show jb_J _ RX11 cX11_goOn 3 (Option.some .int) false 1 0 0 16 [some (.ref 0), some (.int n), some (.int 1)] [.int (jm_er 1)] [jb_main imm Im Tm rowm stkm tpm, jb_sch13 I W T, s2, s3, s4, s5, s6, s7, s8, jb_act Ia boa (jm_ef era 1), s10, s11] _
    refine jb_iret dX11_goOn_16 rfl ?_
    exact ⟨rfl, rfl⟩
  · show jb_J _ RX11 cX11_goOn 3 (Option.some .int) false 1 0 0 8 [some (.ref 0), some (.int n), some (.int 1)] [.int 0] [jb_main imm Im Tm rowm stkm tpm, jb_sch13 I W T, s2, s3, s4, s5, s6, s7, s8, jb_act Ia boa era, s10, s11] _
    refine jb_if_eq (tgt := 17) (pc' := 11) dX11_goOn_8 (by decide) rfl (fun _ => ?_) (fun z => absurd (by decide) z)
    refine jb_aload_n (pc' := 18) dX11_goOn_17 rfl rfl ?_
    refine gf_X11_42 (pc' := 21) (v := .ref 13) dX11_goOn_18 rfl rfl rfl ?_
    refine gf_X11_257 (pc' := 24) (v := .int (I 0)) dX11_goOn_21 rfl rfl rfl ?_
    refine jb_top (v := .int (I 0)) (w := .int (nI (V 0 0))) (jb_vI r0) ?_
    refine jb_iload_n (pc' := 25) dX11_goOn_24 rfl rfl ?_
    refine jb_iadd (pc' := 26) dX11_goOn_25 rfl ?_
    refine jb_sipush (pc' := 29) 9999 dX11_goOn_26 (by decide) rfl ?_
    refine jb_icmp_le (tgt := 38) (pc' := 32) dX11_goOn_29 (by decide) rfl (fun c5 => ?_) (fun c5 => ?_)
    · exact absurd (by assumption) hb
    · refine jb_aload_n (pc' := 33) dX11_goOn_32 rfl rfl ?_
      refine jb_iconst (pc' := 34) 3 dX11_goOn_33 (by decide) rfl ?_
      refine jb_callV (pc' := 37) (ci := 11) (q := 0) (As := [.int 3]) (a2 := 0) (b2 := 0) wv_X11_78 rfl dX11_goOn_34 (c_error imm Im rowm stkm tpm Tm Ia boa era 3 (by decide)) rfl rfl ⟨by decide, Nat.le_of_eq (Nat.zero_add _), Nat.le_of_eq (Nat.zero_add _)⟩ (Nat.le_of_ble_eq_true rfl) rfl (fun r h9 hq => ?_)
      obtain ⟨rfl, rfl⟩ := hq
      show jb_J _ RX11 cX11_goOn 3 (Option.some .int) false 1 0 0 37 [some (.ref 0), some (.int n), some (.int 1)] [.int (jm_er 3)] [jb_main imm Im Tm rowm stkm tpm, jb_sch13 I W T, s2, s3, s4, s5, s6, s7, s8, jb_act Ia boa (jm_ef era 3), s10, s11] _
      refine jb_iret dX11_goOn_37 rfl ?_
      exact absurd (by assumption) hb
set_option maxRecDepth 100000 in
set_option maxHeartbeats 4000000 in
theorem ke_goOnS1 {sc : Nat × (Nat → Int32)} {s2 s3 s4 s5 s6 s7 s8 s10 s11 : List va_E} {V : Nat → Nat → Nat} (imm : Int32) (Im rowm stkm tpm : Nat → Int32) (Tm : Nat → Value) (I : Nat → Int32) (W : Nat → Nat → Int32) (T : Nat → Value) (Ia boa era : Nat → Int32) (hr : jr_ V I W) (hk : jv_ok V) (n : Nat) (h1 : 1 ≤ n) (h2 : n ≤ 200) (h3 : ¬ V 0 0 + n ≤ 9999) : jb_C sc yX11_goOn cX11_goOn 3 (Option.some .int) 1 0 0 [.ref 0, .int (nI n), .int 1] [jb_main imm Im Tm rowm stkm tpm, jb_sch13 I W T, s2, s3, s4, s5, s6, s7, s8, jb_act Ia boa era, s10, s11] (fun r h9 => r = some (.int (jm_er 3)) ∧ h9 = [jb_main imm Im Tm rowm stkm tpm, jb_sch13 I W T, s2, s3, s4, s5, s6, s7, s8, jb_act Ia boa (jm_ef era 3), s10, s11]) := by
  refine jb_CofJ (ini := false) (by decide +kernel) (fun h => by cases h) (Nat.le_of_ble_eq_true rfl) ?_
  show jb_J sc RX11 cX11_goOn 3 (Option.some .int) false 1 0 0 0 [some (.ref 0), some (.int (nI n)), some (.int 1)] [] [jb_main imm Im Tm rowm stkm tpm, jb_sch13 I W T, s2, s3, s4, s5, s6, s7, s8, jb_act Ia boa era, s10, s11] _
  have hr0 := hr
  have hk0 := hk
  obtain ⟨r0, r2, r3, r4, a0, a1, a2, rv, rs, rd⟩ := hr
  obtain ⟨k0, k1, k2, k3, k4, k5, k6, k7, kv, ks, kd⟩ := hk
  refine jb_iload_n (pc' := 1) dX11_goOn_0 rfl rfl ?_
  refine jb_iconst (pc' := 2) 1 dX11_goOn_1 (by decide) rfl ?_
  refine jb_sipush (pc' := 5) 200 dX11_goOn_2 (by decide) rfl ?_
  refine jb_callS (pc' := 8) (As := [.int (nI n), .int 1, .int 200]) (a2 := 0) (b2 := 0) wv_X11_74 dX11_goOn_5 (c_isOutLG n 1 200 (by omega) (by omega) (by omega)) rfl ⟨by decide, Nat.le_of_eq (Nat.zero_add _), Nat.le_of_eq (Nat.zero_add _)⟩ (Nat.le_of_ble_eq_true rfl) rfl (fun r h9 hq => ?_)
  obtain ⟨rfl, rfl⟩ := hq
  show jb_J _ RX11 cX11_goOn 3 (Option.some .int) false 1 0 0 8 [some (.ref 0), some (.int (nI n)), some (.int 1)] [.int 0] [jb_main imm Im Tm rowm stkm tpm, jb_sch13 I W T, s2, s3, s4, s5, s6, s7, s8, jb_act Ia boa era, s10, s11] _
  refine jb_if_eq (tgt := 17) (pc' := 11) dX11_goOn_8 (by decide) rfl (fun _ => ?_) (fun z => absurd (by decide) z)
  refine jb_aload_n (pc' := 18) dX11_goOn_17 rfl rfl ?_
  refine gf_X11_42 (pc' := 21) (v := .ref 13) dX11_goOn_18 rfl rfl rfl ?_
  refine gf_X11_257 (pc' := 24) (v := .int (I 0)) dX11_goOn_21 rfl rfl rfl ?_
  refine jb_top (v := .int (I 0)) (w := .int (nI (V 0 0))) (jb_vI r0) ?_
  refine jb_iload_n (pc' := 25) dX11_goOn_24 rfl rfl ?_
  refine jb_iadd (pc' := 26) dX11_goOn_25 rfl ?_
  refine jb_top (v := .int ((nI (V 0 0)) + (nI n))) (w := .int (nI ((V 0 0) + n))) (jb_vI (nI_add _ _)) ?_
  refine jb_sipush (pc' := 29) 9999 dX11_goOn_26 (by decide) rfl ?_
  refine jb_icmp_le (tgt := 38) (pc' := 32) dX11_goOn_29 (by decide) rfl (fun z => absurd z (nI_ge (a := 9999) (b := V 0 0 + n) (by omega) (by omega))) (fun _ => ?_)
  refine jb_aload_n (pc' := 33) dX11_goOn_32 rfl rfl ?_
  refine jb_iconst (pc' := 34) 3 dX11_goOn_33 (by decide) rfl ?_
  refine jb_callV (pc' := 37) (ci := 11) (q := 0) (As := [.int 3]) (a2 := 0) (b2 := 0) wv_X11_78 rfl dX11_goOn_34 (c_error imm Im rowm stkm tpm Tm Ia boa era 3 (by decide)) rfl rfl ⟨by decide, Nat.le_of_eq (Nat.zero_add _), Nat.le_of_eq (Nat.zero_add _)⟩ (Nat.le_of_ble_eq_true rfl) rfl (fun r h9 hq => ?_)
  obtain ⟨rfl, rfl⟩ := hq
  show jb_J _ RX11 cX11_goOn 3 (Option.some .int) false 1 0 0 37 [some (.ref 0), some (.int (nI n)), some (.int 1)] [.int (jm_er 3)] [jb_main imm Im Tm rowm stkm tpm, jb_sch13 I W T, s2, s3, s4, s5, s6, s7, s8, jb_act Ia boa (jm_ef era 3), s10, s11] _
  refine jb_iret dX11_goOn_37 rfl ?_
  exact ⟨rfl, rfl⟩
set_option maxRecDepth 100000 in
set_option maxHeartbeats 4000000 in
theorem kx_loose {sc : Nat × (Nat → Int32)} {s2 s3 s4 s5 s6 s7 s8 s9 s10 s11 : List va_E} {V : Nat → Nat → Nat} (imm : Int32) (Im rowm stkm tpm : Nat → Int32) (Tm : Nat → Value) (I : Nat → Int32) (W : Nat → Nat → Int32) (T : Nat → Value) (hr : jr_ V I W) (hk : jv_ok V) (n : Nat) (h1 : 1 ≤ n) (h2 : n ≤ 200) (h3 : V 0 0 + n ≤ 9999) {G : jm_G} (hG : jm_Gok G) (hg : jG13 sc T s11 G) : jb_C sc yX11_loose cX11_loose 2 (Option.some .int) 9 0 0 [.ref 0, .int (nI n)] [jb_main imm Im Tm rowm stkm tpm, jb_sch13 I W T, s2, s3, s4, s5, s6, s7, s8, s9, s10, s11] (fun r h9 => r = some (.int (nI ((jm_pa G true n (V, I 1)).1 0 2))) ∧ ∃ I9 W9 stk9, jr_ (jm_pa G true n (V, I 1)).1 I9 W9 ∧ I9 1 = (jm_pa G true n (V, I 1)).2 ∧ jr_f I W I9 W9 ∧ h9 = [jb_main imm Im Tm rowm stk9 tpm, jb_sch13 I9 W9 T, s2, s3, s4, s5, s6, s7, s8, s9, s10, s11]) := by
  refine jb_CofJ (ini := false) (by decide +kernel) (fun h => by cases h) (Nat.le_of_ble_eq_true rfl) ?_
  show jb_J sc RX11 cX11_loose 2 (Option.some .int) false 9 0 0 0 [some (.ref 0), some (.int (nI n))] [] [jb_main imm Im Tm rowm stkm tpm, jb_sch13 I W T, s2, s3, s4, s5, s6, s7, s8, s9, s10, s11] _
  have hr0 := hr
  have hk0 := hk
  obtain ⟨r0, r2, r3, r4, a0, a1, a2, rv, rs, rd⟩ := hr
  obtain ⟨k0, k1, k2, k3, k4, k5, k6, k7, kv, ks, kd⟩ := hk
  refine jb_aload_n (pc' := 1) dX11_loose_0 rfl rfl ?_
  refine jb_iload_n (pc' := 2) dX11_loose_1 rfl rfl ?_
  refine jb_iconst (pc' := 3) 1 dX11_loose_2 (by decide) rfl ?_
  refine jb_callV (pc' := 6) (ci := 11) (q := 0) (As := [.int (nI n), .int 1]) (a2 := 0) (b2 := 0) wv_X11_157 rfl dX11_loose_3 (kx_goOn1 imm Im rowm stkm tpm Tm I W T hr0 hk0 n h1 h2 h3 hG hg) rfl rfl ⟨by decide, Nat.le_of_eq (Nat.zero_add _), Nat.le_of_eq (Nat.zero_add _)⟩ (Nat.le_of_ble_eq_true rfl) rfl (fun r h9 hq => ?_)
  obtain ⟨rfl, I9, W9, stk9, hr9, hz9, hf9, rfl⟩ := hq
  show jb_J _ RX11 cX11_loose 2 (Option.some .int) false 9 0 0 6 [some (.ref 0), some (.int (nI n))] [.int (nI ((jm_pa G true n (V, I 1)).1 0 2))] [jb_main imm Im Tm rowm stk9 tpm, jb_sch13 I9 W9 T, s2, s3, s4, s5, s6, s7, s8, s9, s10, s11] _
  refine jb_iret dX11_loose_6 rfl ?_
  exact ⟨rfl, I9, W9, stk9, hr9, hz9, hf9, rfl⟩
set_option maxRecDepth 100000 in
set_option maxHeartbeats 4000000 in
theorem ke_loose {sc : Nat × (Nat → Int32)} {s2 s3 s4 s5 s6 s7 s8 s10 s11 : List va_E} {V : Nat → Nat → Nat} (imm : Int32) (Im rowm stkm tpm : Nat → Int32) (Tm : Nat → Value) (I : Nat → Int32) (W : Nat → Nat → Int32) (T : Nat → Value) (Ia boa era : Nat → Int32) (hr : jr_ V I W) (hk : jv_ok V) (n : Int32) (hb : ¬ jn_b n 1 201) : jb_C sc yX11_loose cX11_loose 2 (Option.some .int) 2 0 0 [.ref 0, .int n] [jb_main imm Im Tm rowm stkm tpm, jb_sch13 I W T, s2, s3, s4, s5, s6, s7, s8, jb_act Ia boa era, s10, s11] (fun r h9 => r = some (.int (jm_er 1)) ∧ h9 = [jb_main imm Im Tm rowm stkm tpm, jb_sch13 I W T, s2, s3, s4, s5, s6, s7, s8, jb_act Ia boa (jm_ef era 1), s10, s11]) := by
  refine jb_CofJ (ini := false) (by decide +kernel) (fun h => by cases h) (Nat.le_of_ble_eq_true rfl) ?_
  show jb_J sc RX11 cX11_loose 2 (Option.some .int) false 2 0 0 0 [some (.ref 0), some (.int n)] [] [jb_main imm Im Tm rowm stkm tpm, jb_sch13 I W T, s2, s3, s4, s5, s6, s7, s8, jb_act Ia boa era, s10, s11] _
  have hr0 := hr
  have hk0 := hk
  obtain ⟨r0, r2, r3, r4, a0, a1, a2, rv, rs, rd⟩ := hr
  obtain ⟨k0, k1, k2, k3, k4, k5, k6, k7, kv, ks, kd⟩ := hk
  refine jb_aload_n (pc' := 1) dX11_loose_0 rfl rfl ?_
  refine jb_iload_n (pc' := 2) dX11_loose_1 rfl rfl ?_
  refine jb_iconst (pc' := 3) 1 dX11_loose_2 (by decide) rfl ?_
  refine jb_callV (pc' := 6) (ci := 11) (q := 0) (As := [.int n, .int 1]) (a2 := 0) (b2 := 0) wv_X11_157 rfl dX11_loose_3 (ke_goOn1 imm Im rowm stkm tpm Tm I W T Ia boa era hr0 hk0 n hb) rfl rfl ⟨by decide, Nat.le_of_eq (Nat.zero_add _), Nat.le_of_eq (Nat.zero_add _)⟩ (Nat.le_of_ble_eq_true rfl) rfl (fun r h9 hq => ?_)
  obtain ⟨rfl, rfl⟩ := hq
  show jb_J _ RX11 cX11_loose 2 (Option.some .int) false 2 0 0 6 [some (.ref 0), some (.int n)] [.int (jm_er 1)] [jb_main imm Im Tm rowm stkm tpm, jb_sch13 I W T, s2, s3, s4, s5, s6, s7, s8, jb_act Ia boa (jm_ef era 1), s10, s11] _
  refine jb_iret dX11_loose_6 rfl ?_
  exact ⟨rfl, rfl⟩
set_option maxRecDepth 100000 in
set_option maxHeartbeats 4000000 in
theorem ke_looseS {sc : Nat × (Nat → Int32)} {s2 s3 s4 s5 s6 s7 s8 s10 s11 : List va_E} {V : Nat → Nat → Nat} (imm : Int32) (Im rowm stkm tpm : Nat → Int32) (Tm : Nat → Value) (I : Nat → Int32) (W : Nat → Nat → Int32) (T : Nat → Value) (Ia boa era : Nat → Int32) (hr : jr_ V I W) (hk : jv_ok V) (n : Nat) (h1 : 1 ≤ n) (h2 : n ≤ 200) (h3 : ¬ V 0 0 + n ≤ 9999) : jb_C sc yX11_loose cX11_loose 2 (Option.some .int) 2 0 0 [.ref 0, .int (nI n)] [jb_main imm Im Tm rowm stkm tpm, jb_sch13 I W T, s2, s3, s4, s5, s6, s7, s8, jb_act Ia boa era, s10, s11] (fun r h9 => r = some (.int (jm_er 3)) ∧ h9 = [jb_main imm Im Tm rowm stkm tpm, jb_sch13 I W T, s2, s3, s4, s5, s6, s7, s8, jb_act Ia boa (jm_ef era 3), s10, s11]) := by
  refine jb_CofJ (ini := false) (by decide +kernel) (fun h => by cases h) (Nat.le_of_ble_eq_true rfl) ?_
  show jb_J sc RX11 cX11_loose 2 (Option.some .int) false 2 0 0 0 [some (.ref 0), some (.int (nI n))] [] [jb_main imm Im Tm rowm stkm tpm, jb_sch13 I W T, s2, s3, s4, s5, s6, s7, s8, jb_act Ia boa era, s10, s11] _
  have hr0 := hr
  have hk0 := hk
  obtain ⟨r0, r2, r3, r4, a0, a1, a2, rv, rs, rd⟩ := hr
  obtain ⟨k0, k1, k2, k3, k4, k5, k6, k7, kv, ks, kd⟩ := hk
  refine jb_aload_n (pc' := 1) dX11_loose_0 rfl rfl ?_
  refine jb_iload_n (pc' := 2) dX11_loose_1 rfl rfl ?_
  refine jb_iconst (pc' := 3) 1 dX11_loose_2 (by decide) rfl ?_
  refine jb_callV (pc' := 6) (ci := 11) (q := 0) (As := [.int (nI n), .int 1]) (a2 := 0) (b2 := 0) wv_X11_157 rfl dX11_loose_3 (ke_goOnS1 imm Im rowm stkm tpm Tm I W T Ia boa era hr0 hk0 n h1 h2 h3) rfl rfl ⟨by decide, Nat.le_of_eq (Nat.zero_add _), Nat.le_of_eq (Nat.zero_add _)⟩ (Nat.le_of_ble_eq_true rfl) rfl (fun r h9 hq => ?_)
  obtain ⟨rfl, rfl⟩ := hq
  show jb_J _ RX11 cX11_loose 2 (Option.some .int) false 2 0 0 6 [some (.ref 0), some (.int (nI n))] [.int (jm_er 3)] [jb_main imm Im Tm rowm stkm tpm, jb_sch13 I W T, s2, s3, s4, s5, s6, s7, s8, jb_act Ia boa (jm_ef era 3), s10, s11] _
  refine jb_iret dX11_loose_6 rfl ?_
  exact ⟨rfl, rfl⟩
