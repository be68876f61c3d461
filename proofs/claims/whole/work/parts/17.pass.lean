set_option maxRecDepth 100000 in
set_option maxHeartbeats 4000000 in
theorem l_due_13 {sc : Nat × (Nat → Int32)} {s0 s2 s3 s4 s5 s6 s7 s8 s9 s10 s11 : List va_E} (T : Nat → Value) : ∀ (n i l : Nat) (V : Nat → Nat → Nat) (I : Nat → Int32) (W : Nat → Nat → Int32) (x3 : Option Value), i + n = V 0 3 → l ≤ i → jr_ V I W → jv_ok V → jb_J sc RX9 cX9_shoutDue 4 (Option.none : Option Jvm.ClassFile.FieldType) false 2 0 0 4 [some (.ref 13), some (.int (nI l)), some (.int (nI i)), x3] [] [s0, jb_sch13 I W T, s2, s3, s4, s5, s6, s7, s8, s9, s10, s11] (fun r h9 => r = none ∧ ∃ I9 W9, jr_ (jv_up (jm_sd n i l V).1 0 3 (jm_sd n i l V).2) I9 W9 ∧ I9 1 = I 1 ∧ jr_f I W I9 W9 ∧ h9 = [s0, jb_sch13 I9 W9 T, s2, s3, s4, s5, s6, s7, s8, s9, s10, s11]) := by
  intro n
  induction n with
  | zero =>
    intro i l V I W x3 hi hl hr hk
    have hr0 := hr
    obtain ⟨r0, r2, r3, r4, a0, a1, a2, rv, rs, rd⟩ := hr
    obtain ⟨k0, k1, k2, k3, k4, k5, k6, k7, kv, ks, kd⟩ := hk
    show jb_J _ RX9 cX9_shoutDue 4 (Option.none : Option Jvm.ClassFile.FieldType) false 2 0 0 4 [some (.ref 13), some (.int (nI l)), some (.int (nI i)), x3] [] [s0, jb_sch13 I W T, s2, s3, s4, s5, s6, s7, s8, s9, s10, s11] _
    refine jb_iload_n (pc' := 5) dX9_shoutDue_4 rfl rfl ?_
    refine jb_aload_n (pc' := 6) dX9_shoutDue_5 rfl rfl ?_
    refine gf_X9_36 (pc' := 9) (v := .int (I 4)) dX9_shoutDue_6 rfl rfl rfl ?_
    refine jb_top (v := .int (I 4)) (w := .int (nI (V 0 3))) (jb_vI r4) ?_
    refine jb_icmp_ge (tgt := 100) (pc' := 12) dX9_shoutDue_9 (by decide) rfl (fun _ => ?_) (fun z => absurd (nI_le (a := V 0 3) (b := i) (by omega) (by omega)) z)
    refine jb_aload_n (pc' := 101) dX9_shoutDue_100 rfl rfl ?_
    refine jb_iload_n (pc' := 102) dX9_shoutDue_101 rfl rfl ?_
    refine pf_X9_36 (pc' := 105) (h' := [s0, jb_sch13 (upd I 4 (nI l)) W T, s2, s3, s4, s5, s6, s7, s8, s9, s10, s11]) dX9_shoutDue_102 (fun _ => ⟨rfl, rfl⟩) rfl (Nat.le_of_ble_eq_true rfl) rfl rfl ?_
    refine jb_vret dX9_shoutDue_105 ?_
    exact ⟨rfl, upd I 4 (nI l), W, jr_nd (l := l) hr0 (by omega), rfl, ⟨rfl, rfl, rfl, rfl⟩, rfl⟩
  | succ n ih =>
    intro i l V I W x3 hi hl hr hk
    have hr0 := hr
    have hk0 := hk
    obtain ⟨r0, r2, r3, r4, a0, a1, a2, rv, rs, rd⟩ := hr
    obtain ⟨k0, k1, k2, k3, k4, k5, k6, k7, kv, ks, kd⟩ := hk
    have q0 := kd i (by omega)
    show jb_J _ RX9 cX9_shoutDue 4 (Option.none : Option Jvm.ClassFile.FieldType) false 2 0 0 4 [some (.ref 13), some (.int (nI l)), some (.int (nI i)), x3] [] [s0, jb_sch13 I W T, s2, s3, s4, s5, s6, s7, s8, s9, s10, s11] _
    refine jb_iload_n (pc' := 5) dX9_shoutDue_4 rfl rfl ?_
    refine jb_aload_n (pc' := 6) dX9_shoutDue_5 rfl rfl ?_
    refine gf_X9_36 (pc' := 9) (v := .int (I 4)) dX9_shoutDue_6 rfl rfl rfl ?_
    refine jb_top (v := .int (I 4)) (w := .int (nI (V 0 3))) (jb_vI r4) ?_
    refine jb_icmp_ge (tgt := 100) (pc' := 12) dX9_shoutDue_9 (by decide) rfl (fun z => absurd z (nI_ge (a := i) (b := V 0 3) (by omega) (by omega))) (fun _ => ?_)
    refine jb_aload_n (pc' := 13) dX9_shoutDue_12 rfl rfl ?_
    refine gf_X9_39 (pc' := 16) (v := .ref 26) dX9_shoutDue_13 rfl rfl rfl ?_
    refine jb_iconst (pc' := 17) 3 dX9_shoutDue_16 (by decide) rfl ?_
    refine jb_aaload (pc' := 18) (i9 := 3) (r := 30) (Or.inl rfl) dX9_shoutDue_17 rfl jb_x3 (by decide) rfl rfl ?_
    refine jb_iload_n (pc' := 19) dX9_shoutDue_18 rfl rfl ?_
    refine jb_iaload (pc' := 20) (i9 := i) (f := (W 13)) dX9_shoutDue_19 rfl (jb_ix_nI (by omega)) (by omega) rfl ?_
    refine jb_top (v := .int ((W 13) i)) (w := .int (nI (V 13 i))) (jb_vI (rd i (by omega)).2.2.2) ?_
    refine jb_aload_n (pc' := 21) dX9_shoutDue_20 rfl rfl ?_
    refine gf_X9_15 (pc' := 24) (v := .int (I 0)) dX9_shoutDue_21 rfl rfl rfl ?_
    refine jb_top (v := .int (I 0)) (w := .int (nI (V 0 0))) (jb_vI r0) ?_
    refine jb_icmp_gt (tgt := 58) (pc' := 27) dX9_shoutDue_24 (by decide) rfl (fun c2 => ?_) (fun c2 => ?_)
    · have c2 : (V 0 0) < (V 13 i) := (nI_ltI (a := (V 0 0)) (b := (V 13 i)) (by omega) (by omega)).mp c2
      refine jb_iconst (pc' := 59) 0 dX9_shoutDue_58 (by decide) rfl ?_
      refine jb_istore_n_ (pc' := 60) dX9_shoutDue_59 (by decide) (jb_at3 rfl) rfl ?_
      refine jb_iload_n (pc' := 61) dX9_shoutDue_60 rfl rfl ?_
      refine jb_aload_n (pc' := 62) dX9_shoutDue_61 rfl rfl ?_
      refine gf_X9_39 (pc' := 65) (v := .ref 26) dX9_shoutDue_62 rfl rfl rfl ?_
      refine jb_alen (pc' := 66) 4 (by decide) dX9_shoutDue_65 rfl (by decide) rfl ?_
      refine jb_icmp_ge (tgt := 91) (pc' := 69) dX9_shoutDue_66 (by decide) rfl (fun z => absurd z (by decide)) (fun _ => ?_)
      refine jb_aload_n (pc' := 70) dX9_shoutDue_69 rfl rfl ?_
      refine gf_X9_39 (pc' := 73) (v := .ref 26) dX9_shoutDue_70 rfl rfl rfl ?_
      refine jb_iload_n (pc' := 74) dX9_shoutDue_73 rfl rfl ?_
      refine jb_aaload (pc' := 75) (i9 := 0) (r := 27) (Or.inl rfl) dX9_shoutDue_74 rfl jb_x0 (by decide) rfl rfl ?_
      refine jb_iload_n (pc' := 76) dX9_shoutDue_75 rfl rfl ?_
      refine jb_aload_n (pc' := 77) dX9_shoutDue_76 rfl rfl ?_
      refine gf_X9_39 (pc' := 80) (v := .ref 26) dX9_shoutDue_77 rfl rfl rfl ?_
      refine jb_iload_n (pc' := 81) dX9_shoutDue_80 rfl rfl ?_
      refine jb_aaload (pc' := 82) (i9 := 0) (r := 27) (Or.inl rfl) dX9_shoutDue_81 rfl jb_x0 (by decide) rfl rfl ?_
      refine jb_iload_n (pc' := 83) dX9_shoutDue_82 rfl rfl ?_
      refine jb_iaload (pc' := 84) (i9 := i) (f := (W 10)) dX9_shoutDue_83 rfl (jb_ix_nI (by omega)) (by omega) rfl ?_
      refine jb_top (v := .int ((W 10) i)) (w := .int (nI (V 10 i))) (jb_vI (rd i (by omega)).1) ?_
      refine jb_iastore (pc' := 85) (i9 := l) (f := (W 10)) (h' := [s0, jb_sch13 I (va_up W 10 (upd (W 10) l (nI (V 10 i)))) T, s2, s3, s4, s5, s6, s7, s8, s9, s10, s11]) dX9_shoutDue_84 rfl (jb_ix_nI (by omega)) (by omega) rfl rfl ?_
      refine jb_iinc_ (pc' := 88) 1 dX9_shoutDue_85 (by decide) rfl (by decide) (jb_at3 rfl) rfl ?_
      refine jb_goto (pc' := 60) dX9_shoutDue_88 (by decide) ?_
      refine jb_iload_n (pc' := 61) dX9_shoutDue_60 rfl rfl ?_
      refine jb_aload_n (pc' := 62) dX9_shoutDue_61 rfl rfl ?_
      refine gf_X9_39 (pc' := 65) (v := .ref 26) dX9_shoutDue_62 rfl rfl rfl ?_
      refine jb_alen (pc' := 66) 4 (by decide) dX9_shoutDue_65 rfl (by decide) rfl ?_
      refine jb_icmp_ge (tgt := 91) (pc' := 69) dX9_shoutDue_66 (by decide) rfl (fun z => absurd z (by decide)) (fun _ => ?_)
      refine jb_aload_n (pc' := 70) dX9_shoutDue_69 rfl rfl ?_
      refine gf_X9_39 (pc' := 73) (v := .ref 26) dX9_shoutDue_70 rfl rfl rfl ?_
      refine jb_iload_n (pc' := 74) dX9_shoutDue_73 rfl rfl ?_
      refine jb_aaload (pc' := 75) (i9 := 1) (r := 28) (Or.inl rfl) dX9_shoutDue_74 rfl jb_x1 (by decide) rfl rfl ?_
      refine jb_iload_n (pc' := 76) dX9_shoutDue_75 rfl rfl ?_
      refine jb_aload_n (pc' := 77) dX9_shoutDue_76 rfl rfl ?_
      refine gf_X9_39 (pc' := 80) (v := .ref 26) dX9_shoutDue_77 rfl rfl rfl ?_
      refine jb_iload_n (pc' := 81) dX9_shoutDue_80 rfl rfl ?_
      refine jb_aaload (pc' := 82) (i9 := 1) (r := 28) (Or.inl rfl) dX9_shoutDue_81 rfl jb_x1 (by decide) rfl rfl ?_
      refine jb_iload_n (pc' := 83) dX9_shoutDue_82 rfl rfl ?_
      refine jb_iaload (pc' := 84) (i9 := i) (f := (W 11)) dX9_shoutDue_83 rfl (jb_ix_nI (by omega)) (by omega) rfl ?_
      refine jb_top (v := .int ((W 11) i)) (w := .int (nI (V 11 i))) (jb_vI (rd i (by omega)).2.1) ?_
      refine jb_iastore (pc' := 85) (i9 := l) (f := (W 11)) (h' := [s0, jb_sch13 I (va_up (va_up W 10 (upd (W 10) l (nI (V 10 i)))) 11 (upd (W 11) l (nI (V 11 i)))) T, s2, s3, s4, s5, s6, s7, s8, s9, s10, s11]) dX9_shoutDue_84 rfl (jb_ix_nI (by omega)) (by omega) rfl rfl ?_
      refine jb_iinc_ (pc' := 88) 2 dX9_shoutDue_85 (by decide) rfl (by decide) (jb_at3 rfl) rfl ?_
      refine jb_goto (pc' := 60) dX9_shoutDue_88 (by decide) ?_
      refine jb_iload_n (pc' := 61) dX9_shoutDue_60 rfl rfl ?_
      refine jb_aload_n (pc' := 62) dX9_shoutDue_61 rfl rfl ?_
      refine gf_X9_39 (pc' := 65) (v := .ref 26) dX9_shoutDue_62 rfl rfl rfl ?_
      refine jb_alen (pc' := 66) 4 (by decide) dX9_shoutDue_65 rfl (by decide) rfl ?_
      refine jb_icmp_ge (tgt := 91) (pc' := 69) dX9_shoutDue_66 (by decide) rfl (fun z => absurd z (by decide)) (fun _ => ?_)
      refine jb_aload_n (pc' := 70) dX9_shoutDue_69 rfl rfl ?_
      refine gf_X9_39 (pc' := 73) (v := .ref 26) dX9_shoutDue_70 rfl rfl rfl ?_
      refine jb_iload_n (pc' := 74) dX9_shoutDue_73 rfl rfl ?_
      refine jb_aaload (pc' := 75) (i9 := 2) (r := 29) (Or.inl rfl) dX9_shoutDue_74 rfl jb_x2 (by decide) rfl rfl ?_
      refine jb_iload_n (pc' := 76) dX9_shoutDue_75 rfl rfl ?_
      refine jb_aload_n (pc' := 77) dX9_shoutDue_76 rfl rfl ?_
      refine gf_X9_39 (pc' := 80) (v := .ref 26) dX9_shoutDue_77 rfl rfl rfl ?_
      refine jb_iload_n (pc' := 81) dX9_shoutDue_80 rfl rfl ?_
      refine jb_aaload (pc' := 82) (i9 := 2) (r := 29) (Or.inl rfl) dX9_shoutDue_81 rfl jb_x2 (by decide) rfl rfl ?_
      refine jb_iload_n (pc' := 83) dX9_shoutDue_82 rfl rfl ?_
      refine jb_iaload (pc' := 84) (i9 := i) (f := (W 12)) dX9_shoutDue_83 rfl (jb_ix_nI (by omega)) (by omega) rfl ?_
      refine jb_top (v := .int ((W 12) i)) (w := .int (nI (V 12 i))) (jb_vI (rd i (by omega)).2.2.1) ?_
      refine jb_iastore (pc' := 85) (i9 := l) (f := (W 12)) (h' := [s0, jb_sch13 I (va_up (va_up (va_up W 10 (upd (W 10) l (nI (V 10 i)))) 11 (upd (W 11) l (nI (V 11 i)))) 12 (upd (W 12) l (nI (V 12 i)))) T, s2, s3, s4, s5, s6, s7, s8, s9, s10, s11]) dX9_shoutDue_84 rfl (jb_ix_nI (by omega)) (by omega) rfl rfl ?_
      refine jb_iinc_ (pc' := 88) 3 dX9_shoutDue_85 (by decide) rfl (by decide) (jb_at3 rfl) rfl ?_
      refine jb_goto (pc' := 60) dX9_shoutDue_88 (by decide) ?_
      refine jb_iload_n (pc' := 61) dX9_shoutDue_60 rfl rfl ?_
      refine jb_aload_n (pc' := 62) dX9_shoutDue_61 rfl rfl ?_
      refine gf_X9_39 (pc' := 65) (v := .ref 26) dX9_shoutDue_62 rfl rfl rfl ?_
      refine jb_alen (pc' := 66) 4 (by decide) dX9_shoutDue_65 rfl (by decide) rfl ?_
      refine jb_icmp_ge (tgt := 91) (pc' := 69) dX9_shoutDue_66 (by decide) rfl (fun z => absurd z (by decide)) (fun _ => ?_)
      refine jb_aload_n (pc' := 70) dX9_shoutDue_69 rfl rfl ?_
      refine gf_X9_39 (pc' := 73) (v := .ref 26) dX9_shoutDue_70 rfl rfl rfl ?_
      refine jb_iload_n (pc' := 74) dX9_shoutDue_73 rfl rfl ?_
      refine jb_aaload (pc' := 75) (i9 := 3) (r := 30) (Or.inl rfl) dX9_shoutDue_74 rfl jb_x3 (by decide) rfl rfl ?_
      refine jb_iload_n (pc' := 76) dX9_shoutDue_75 rfl rfl ?_
      refine jb_aload_n (pc' := 77) dX9_shoutDue_76 rfl rfl ?_
      refine gf_X9_39 (pc' := 80) (v := .ref 26) dX9_shoutDue_77 rfl rfl rfl ?_
      refine jb_iload_n (pc' := 81) dX9_shoutDue_80 rfl rfl ?_
      refine jb_aaload (pc' := 82) (i9 := 3) (r := 30) (Or.inl rfl) dX9_shoutDue_81 rfl jb_x3 (by decide) rfl rfl ?_
      refine jb_iload_n (pc' := 83) dX9_shoutDue_82 rfl rfl ?_
      refine jb_iaload (pc' := 84) (i9 := i) (f := (W 13)) dX9_shoutDue_83 rfl (jb_ix_nI (by omega)) (by omega) rfl ?_
      refine jb_top (v := .int ((W 13) i)) (w := .int (nI (V 13 i))) (jb_vI (rd i (by omega)).2.2.2) ?_
      refine jb_iastore (pc' := 85) (i9 := l) (f := (W 13)) (h' := [s0, jb_sch13 I (va_up (va_up (va_up (va_up W 10 (upd (W 10) l (nI (V 10 i)))) 11 (upd (W 11) l (nI (V 11 i)))) 12 (upd (W 12) l (nI (V 12 i)))) 13 (upd (W 13) l (nI (V 13 i)))) T, s2, s3, s4, s5, s6, s7, s8, s9, s10, s11]) dX9_shoutDue_84 rfl (jb_ix_nI (by omega)) (by omega) rfl rfl ?_
      refine jb_iinc_ (pc' := 88) 4 dX9_shoutDue_85 (by decide) rfl (by decide) (jb_at3 rfl) rfl ?_
      refine jb_goto (pc' := 60) dX9_shoutDue_88 (by decide) ?_
      refine jb_iload_n (pc' := 61) dX9_shoutDue_60 rfl rfl ?_
      refine jb_aload_n (pc' := 62) dX9_shoutDue_61 rfl rfl ?_
      refine gf_X9_39 (pc' := 65) (v := .ref 26) dX9_shoutDue_62 rfl rfl rfl ?_
      refine jb_alen (pc' := 66) 4 (by decide) dX9_shoutDue_65 rfl (by decide) rfl ?_
      refine jb_icmp_ge (tgt := 91) (pc' := 69) dX9_shoutDue_66 (by decide) rfl (fun _ => ?_) (fun z => absurd (by decide) z)
      refine jb_iinc_ (pc' := 94) (nI (l + 1)) dX9_shoutDue_91 (by decide) rfl (jb_inc l 1) (jb_at1 rfl) rfl ?_
      refine jb_iinc_ (pc' := 97) (nI (i + 1)) dX9_shoutDue_94 (by decide) rfl (jb_inc i 1) (jb_at2 rfl) rfl ?_
      refine jb_goto (pc' := 4) dX9_shoutDue_97 (by decide) ?_
      have e9 : jm_sd (n + 1) i l V = jm_sd n (i + 1) (l + 1) (jm_mv V l i) := if_neg (by omega)
      refine jb_J.mono (ih (i + 1) (l + 1) (jm_mv V l i) I (va_up (va_up (va_up (va_up W 10 (upd (W 10) l (nI (V 10 i)))) 11 (upd (W 11) l (nI (V 11 i)))) 12 (upd (W 12) l (nI (V 12 i)))) 13 (upd (W 13) l (nI (V 13 i)))) _ (show i + 1 + n = V 0 3 by omega) (by omega) (jr_mv hr0) (jv_ok_mv hk0 (by omega))) (Nat.le_refl _) (Nat.le_refl _) (Nat.le_refl _) (fun r h9 hq => ?_)
      obtain ⟨rfl, I7, W7, hr7, hz7, hf7, rfl⟩ := hq
      exact ⟨rfl, I7, W7, by rw [e9]; exact hr7, hz7, jr_f.tr ⟨rfl, rfl, rfl, rfl⟩ hf7, rfl⟩
    · have c2 : ¬ (V 0 0) < (V 13 i) := fun z9 => c2 ((nI_ltI (a := (V 0 0)) (b := (V 13 i)) (by omega) (by omega)).mpr z9)
      refine jb_aload_n (pc' := 28) dX9_shoutDue_27 rfl rfl ?_
      refine jb_aload_n (pc' := 29) dX9_shoutDue_28 rfl rfl ?_
      refine gf_X9_39 (pc' := 32) (v := .ref 26) dX9_shoutDue_29 rfl rfl rfl ?_
      refine jb_iconst (pc' := 33) 0 dX9_shoutDue_32 (by decide) rfl ?_
      refine jb_aaload (pc' := 34) (i9 := 0) (r := 27) (Or.inl rfl) dX9_shoutDue_33 rfl jb_x0 (by decide) rfl rfl ?_
      refine jb_iload_n (pc' := 35) dX9_shoutDue_34 rfl rfl ?_
      refine jb_iaload (pc' := 36) (i9 := i) (f := (W 10)) dX9_shoutDue_35 rfl (jb_ix_nI (by omega)) (by omega) rfl ?_
      refine jb_top (v := .int ((W 10) i)) (w := .int (nI (V 10 i))) (jb_vI (rd i (by omega)).1) ?_
      refine jb_aload_n (pc' := 37) dX9_shoutDue_36 rfl rfl ?_
      refine gf_X9_39 (pc' := 40) (v := .ref 26) dX9_shoutDue_37 rfl rfl rfl ?_
      refine jb_iconst (pc' := 41) 1 dX9_shoutDue_40 (by decide) rfl ?_
      refine jb_aaload (pc' := 42) (i9 := 1) (r := 28) (Or.inl rfl) dX9_shoutDue_41 rfl jb_x1 (by decide) rfl rfl ?_
      refine jb_iload_n (pc' := 43) dX9_shoutDue_42 rfl rfl ?_
      refine jb_iaload (pc' := 44) (i9 := i) (f := (W 11)) dX9_shoutDue_43 rfl (jb_ix_nI (by omega)) (by omega) rfl ?_
      refine jb_top (v := .int ((W 11) i)) (w := .int (nI (V 11 i))) (jb_vI (rd i (by omega)).2.1) ?_
      refine jb_aload_n (pc' := 45) dX9_shoutDue_44 rfl rfl ?_
      refine gf_X9_39 (pc' := 48) (v := .ref 26) dX9_shoutDue_45 rfl rfl rfl ?_
      refine jb_iconst (pc' := 49) 2 dX9_shoutDue_48 (by decide) rfl ?_
      refine jb_aaload (pc' := 50) (i9 := 2) (r := 29) (Or.inl rfl) dX9_shoutDue_49 rfl jb_x2 (by decide) rfl rfl ?_
      refine jb_iload_n (pc' := 51) dX9_shoutDue_50 rfl rfl ?_
      refine jb_iaload (pc' := 52) (i9 := i) (f := (W 12)) dX9_shoutDue_51 rfl (jb_ix_nI (by omega)) (by omega) rfl ?_
      refine jb_top (v := .int ((W 12) i)) (w := .int (nI (V 12 i + 1) - 1)) (jb_vI (by rw [(rd i (by omega)).2.2.1, nI_pred])) ?_
      refine jb_callV (pc' := 55) (ci := 9) (q := 13) (As := [.int (nI (V 10 i)), .int (nI (V 11 i)), .int (nI (V 12 i + 1) - 1)]) (a2 := 0) (b2 := 0) wv_X9_145 rfl dX9_shoutDue_52 (c_addShout_13 I W T hr0 hk0 (V 10 i) (V 11 i) (V 12 i + 1) (by omega) (by omega) (by omega)) rfl rfl ⟨by decide, Nat.le_of_eq (Nat.zero_add _), Nat.le_of_eq (Nat.zero_add _)⟩ (Nat.le_of_ble_eq_true rfl) rfl (fun r h9 hq => ?_)
      obtain ⟨rfl, I9, W9, hr9, hz9, hf9, rfl⟩ := hq
      show jb_J _ RX9 cX9_shoutDue 4 (Option.none : Option Jvm.ClassFile.FieldType) false 2 0 0 55 [some (.ref 13), some (.int (nI l)), some (.int (nI i)), x3] [] [s0, jb_sch13 I9 W9 T, s2, s3, s4, s5, s6, s7, s8, s9, s10, s11] _
      refine jb_goto (pc' := 94) dX9_shoutDue_55 (by decide) ?_
      refine jb_iinc_ (pc' := 97) (nI (i + 1)) dX9_shoutDue_94 (by decide) rfl (jb_inc i 1) (jb_at2 rfl) rfl ?_
      refine jb_goto (pc' := 4) dX9_shoutDue_97 (by decide) ?_
      have e9 : jm_sd (n + 1) i l V = jm_sd n (i + 1) l (jm_as V (V 10 i) (V 11 i) (V 12 i + 1)) := if_pos (by omega)
      refine jb_J.mono (ih (i + 1) l _ I9 W9 _ (by rw [jm_as_0 _ _ _ _ _ (by decide)]; omega) (by omega) hr9 (jv_ok_as hk0 (by omega) (by omega) (by omega))) (Nat.le_refl _) (Nat.le_refl _) (Nat.le_refl _) (fun r h9 hq => ?_)
      obtain ⟨rfl, I7, W7, hr7, hz7, hf7, rfl⟩ := hq
      exact ⟨rfl, I7, W7, by rw [e9]; exact hr7, hz7.trans hz9, hf9.tr hf7, rfl⟩
set_option maxRecDepth 100000 in
set_option maxHeartbeats 4000000 in
theorem c_shoutDue_13 {sc : Nat × (Nat → Int32)} {s0 s2 s3 s4 s5 s6 s7 s8 s9 s10 s11 : List va_E} {V : Nat → Nat → Nat} (I : Nat → Int32) (W : Nat → Nat → Int32) (T : Nat → Value) (hr : jr_ V I W) (hk : jv_ok V) : jb_C sc yX9_shoutDue cX9_shoutDue 4 (Option.none : Option Jvm.ClassFile.FieldType) 2 0 0 [.ref 13] [s0, jb_sch13 I W T, s2, s3, s4, s5, s6, s7, s8, s9, s10, s11] (fun r h9 => r = none ∧ ∃ I9 W9, jr_ (jm_du V) I9 W9 ∧ I9 1 = I 1 ∧ jr_f I W I9 W9 ∧ h9 = [s0, jb_sch13 I9 W9 T, s2, s3, s4, s5, s6, s7, s8, s9, s10, s11]) := by
  refine jb_CofJ (ini := false) (by decide +kernel) (fun h => by cases h) (Nat.le_of_ble_eq_true rfl) ?_
  show jb_J sc RX9 cX9_shoutDue 4 (Option.none : Option Jvm.ClassFile.FieldType) false 2 0 0 0 [some (.ref 13), none, none, none] [] [s0, jb_sch13 I W T, s2, s3, s4, s5, s6, s7, s8, s9, s10, s11] _
  refine jb_iconst (pc' := 1) 0 dX9_shoutDue_0 (by decide) rfl ?_
  refine jb_istore_n_ (pc' := 2) dX9_shoutDue_1 (by decide) (jb_at1 rfl) rfl ?_
  refine jb_iconst (pc' := 3) 0 dX9_shoutDue_2 (by decide) rfl ?_
  refine jb_istore_n_ (pc' := 4) dX9_shoutDue_3 (by decide) (jb_at2 rfl) rfl ?_
  refine jb_J.mono (l_due_13 T (V 0 3) 0 0 V I W _ (by omega) (by omega) hr hk) (Nat.le_refl _) (Nat.le_refl _) (Nat.le_refl _) (fun r h9 hq => hq)
set_option maxRecDepth 100000 in
set_option maxHeartbeats 4000000 in
theorem l_due_53 {sc : Nat × (Nat → Int32)} {s0 s1 s2 s4 s5 s6 s7 s8 s9 s10 s11 : List va_E} (T : Nat → Value) : ∀ (n i l : Nat) (V : Nat → Nat → Nat) (I : Nat → Int32) (W : Nat → Nat → Int32) (x3 : Option Value), i + n = V 0 3 → l ≤ i → jr_ V I W → jv_ok V → jb_J sc RX9 cX9_shoutDue 4 (Option.none : Option Jvm.ClassFile.FieldType) false 2 0 0 4 [some (.ref 53), some (.int (nI l)), some (.int (nI i)), x3] [] [s0, s1, s2, jb_sch53 I W T, s4, s5, s6, s7, s8, s9, s10, s11] (fun r h9 => r = none ∧ ∃ I9 W9, jr_ (jv_up (jm_sd n i l V).1 0 3 (jm_sd n i l V).2) I9 W9 ∧ I9 1 = I 1 ∧ jr_f I W I9 W9 ∧ h9 = [s0, s1, s2, jb_sch53 I9 W9 T, s4, s5, s6, s7, s8, s9, s10, s11]) := by
  intro n
  induction n with
  | zero =>
    intro i l V I W x3 hi hl hr hk
    have hr0 := hr
    obtain ⟨r0, r2, r3, r4, a0, a1, a2, rv, rs, rd⟩ := hr
    obtain ⟨k0, k1, k2, k3, k4, k5, k6, k7, kv, ks, kd⟩ := hk
    show jb_J _ RX9 cX9_shoutDue 4 (Option.none : Option Jvm.ClassFile.FieldType) false 2 0 0 4 [some (.ref 53), some (.int (nI l)), some (.int (nI i)), x3] [] [s0, s1, s2, jb_sch53 I W T, s4, s5, s6, s7, s8, s9, s10, s11] _
    refine jb_iload_n (pc' := 5) dX9_shoutDue_4 rfl rfl ?_
    refine jb_aload_n (pc' := 6) dX9_shoutDue_5 rfl rfl ?_
    refine gf_X9_36 (pc' := 9) (v := .int (I 4)) dX9_shoutDue_6 rfl rfl rfl ?_
    refine jb_top (v := .int (I 4)) (w := .int (nI (V 0 3))) (jb_vI r4) ?_
    refine jb_icmp_ge (tgt := 100) (pc' := 12) dX9_shoutDue_9 (by decide) rfl (fun _ => ?_) (fun z => absurd (nI_le (a := V 0 3) (b := i) (by omega) (by omega)) z)
    refine jb_aload_n (pc' := 101) dX9_shoutDue_100 rfl rfl ?_
    refine jb_iload_n (pc' := 102) dX9_shoutDue_101 rfl rfl ?_
    refine pf_X9_36 (pc' := 105) (h' := [s0, s1, s2, jb_sch53 (upd I 4 (nI l)) W T, s4, s5, s6, s7, s8, s9, s10, s11]) dX9_shoutDue_102 (fun _ => ⟨rfl, rfl⟩) rfl (Nat.le_of_ble_eq_true rfl) rfl rfl ?_
    refine jb_vret dX9_shoutDue_105 ?_
    exact ⟨rfl, upd I 4 (nI l), W, jr_nd (l := l) hr0 (by omega), rfl, ⟨rfl, rfl, rfl, rfl⟩, rfl⟩
  | succ n ih =>
    intro i l V I W x3 hi hl hr hk
    have hr0 := hr
    have hk0 := hk
    obtain ⟨r0, r2, r3, r4, a0, a1, a2, rv, rs, rd⟩ := hr
    obtain ⟨k0, k1, k2, k3, k4, k5, k6, k7, kv, ks, kd⟩ := hk
    have q0 := kd i (by omega)
    show jb_J _ RX9 cX9_shoutDue 4 (Option.none : Option Jvm.ClassFile.FieldType) false 2 0 0 4 [some (.ref 53), some (.int (nI l)), some (.int (nI i)), x3] [] [s0, s1, s2, jb_sch53 I W T, s4, s5, s6, s7, s8, s9, s10, s11] _
    refine jb_iload_n (pc' := 5) dX9_shoutDue_4 rfl rfl ?_
    refine jb_aload_n (pc' := 6) dX9_shoutDue_5 rfl rfl ?_
    refine gf_X9_36 (pc' := 9) (v := .int (I 4)) dX9_shoutDue_6 rfl rfl rfl ?_
    refine jb_top (v := .int (I 4)) (w := .int (nI (V 0 3))) (jb_vI r4) ?_
    refine jb_icmp_ge (tgt := 100) (pc' := 12) dX9_shoutDue_9 (by decide) rfl (fun z => absurd z (nI_ge (a := i) (b := V 0 3) (by omega) (by omega))) (fun _ => ?_)
    refine jb_aload_n (pc' := 13) dX9_shoutDue_12 rfl rfl ?_
    refine gf_X9_39 (pc' := 16) (v := .ref 66) dX9_shoutDue_13 rfl rfl rfl ?_
    refine jb_iconst (pc' := 17) 3 dX9_shoutDue_16 (by decide) rfl ?_
    refine jb_aaload (pc' := 18) (i9 := 3) (r := 70) (Or.inl rfl) dX9_shoutDue_17 rfl jb_x3 (by decide) rfl rfl ?_
    refine jb_iload_n (pc' := 19) dX9_shoutDue_18 rfl rfl ?_
    refine jb_iaload (pc' := 20) (i9 := i) (f := (W 13)) dX9_shoutDue_19 rfl (jb_ix_nI (by omega)) (by omega) rfl ?_
    refine jb_top (v := .int ((W 13) i)) (w := .int (nI (V 13 i))) (jb_vI (rd i (by omega)).2.2.2) ?_
    refine jb_aload_n (pc' := 21) dX9_shoutDue_20 rfl rfl ?_
    refine gf_X9_15 (pc' := 24) (v := .int (I 0)) dX9_shoutDue_21 rfl rfl rfl ?_
    refine jb_top (v := .int (I 0)) (w := .int (nI (V 0 0))) (jb_vI r0) ?_
    refine jb_icmp_gt (tgt := 58) (pc' := 27) dX9_shoutDue_24 (by decide) rfl (fun c2 => ?_) (fun c2 => ?_)
    · have c2 : (V 0 0) < (V 13 i) := (nI_ltI (a := (V 0 0)) (b := (V 13 i)) (by omega) (by omega)).mp c2
      refine jb_iconst (pc' := 59) 0 dX9_shoutDue_58 (by decide) rfl ?_
      refine jb_istore_n_ (pc' := 60) dX9_shoutDue_59 (by decide) (jb_at3 rfl) rfl ?_
      refine jb_iload_n (pc' := 61) dX9_shoutDue_60 rfl rfl ?_
      refine jb_aload_n (pc' := 62) dX9_shoutDue_61 rfl rfl ?_
      refine gf_X9_39 (pc' := 65) (v := .ref 66) dX9_shoutDue_62 rfl rfl rfl ?_
      refine jb_alen (pc' := 66) 4 (by decide) dX9_shoutDue_65 rfl (by decide) rfl ?_
      refine jb_icmp_ge (tgt := 91) (pc' := 69) dX9_shoutDue_66 (by decide) rfl (fun z => absurd z (by decide)) (fun _ => ?_)
      refine jb_aload_n (pc' := 70) dX9_shoutDue_69 rfl rfl ?_
      refine gf_X9_39 (pc' := 73) (v := .ref 66) dX9_shoutDue_70 rfl rfl rfl ?_
      refine jb_iload_n (pc' := 74) dX9_shoutDue_73 rfl rfl ?_
      refine jb_aaload (pc' := 75) (i9 := 0) (r := 67) (Or.inl rfl) dX9_shoutDue_74 rfl jb_x0 (by decide) rfl rfl ?_
      refine jb_iload_n (pc' := 76) dX9_shoutDue_75 rfl rfl ?_
      refine jb_aload_n (pc' := 77) dX9_shoutDue_76 rfl rfl ?_
      refine gf_X9_39 (pc' := 80) (v := .ref 66) dX9_shoutDue_77 rfl rfl rfl ?_
      refine jb_iload_n (pc' := 81) dX9_shoutDue_80 rfl rfl ?_
      refine jb_aaload (pc' := 82) (i9 := 0) (r := 67) (Or.inl rfl) dX9_shoutDue_81 rfl jb_x0 (by decide) rfl rfl ?_
      refine jb_iload_n (pc' := 83) dX9_shoutDue_82 rfl rfl ?_
      refine jb_iaload (pc' := 84) (i9 := i) (f := (W 10)) dX9_shoutDue_83 rfl (jb_ix_nI (by omega)) (by omega) rfl ?_
      refine jb_top (v := .int ((W 10) i)) (w := .int (nI (V 10 i))) (jb_vI (rd i (by omega)).1) ?_
      refine jb_iastore (pc' := 85) (i9 := l) (f := (W 10)) (h' := [s0, s1, s2, jb_sch53 I (va_up W 10 (upd (W 10) l (nI (V 10 i)))) T, s4, s5, s6, s7, s8, s9, s10, s11]) dX9_shoutDue_84 rfl (jb_ix_nI (by omega)) (by omega) rfl rfl ?_
      refine jb_iinc_ (pc' := 88) 1 dX9_shoutDue_85 (by decide) rfl (by decide) (jb_at3 rfl) rfl ?_
      refine jb_goto (pc' := 60) dX9_shoutDue_88 (by decide) ?_
      refine jb_iload_n (pc' := 61) dX9_shoutDue_60 rfl rfl ?_
      refine jb_aload_n (pc' := 62) dX9_shoutDue_61 rfl rfl ?_
      refine gf_X9_39 (pc' := 65) (v := .ref 66) dX9_shoutDue_62 rfl rfl rfl ?_
      refine jb_alen (pc' := 66) 4 (by decide) dX9_shoutDue_65 rfl (by decide) rfl ?_
      refine jb_icmp_ge (tgt := 91) (pc' := 69) dX9_shoutDue_66 (by decide) rfl (fun z => absurd z (by decide)) (fun _ => ?_)
      refine jb_aload_n (pc' := 70) dX9_shoutDue_69 rfl rfl ?_
      refine gf_X9_39 (pc' := 73) (v := .ref 66) dX9_shoutDue_70 rfl rfl rfl ?_
      refine jb_iload_n (pc' := 74) dX9_shoutDue_73 rfl rfl ?_
      refine jb_aaload (pc' := 75) (i9 := 1) (r := 68) (Or.inl rfl) dX9_shoutDue_74 rfl jb_x1 (by decide) rfl rfl ?_
      refine jb_iload_n (pc' := 76) dX9_shoutDue_75 rfl rfl ?_
      refine jb_aload_n (pc' := 77) dX9_shoutDue_76 rfl rfl ?_
      refine gf_X9_39 (pc' := 80) (v := .ref 66) dX9_shoutDue_77 rfl rfl rfl ?_
      refine jb_iload_n (pc' := 81) dX9_shoutDue_80 rfl rfl ?_
      refine jb_aaload (pc' := 82) (i9 := 1) (r := 68) (Or.inl rfl) dX9_shoutDue_81 rfl jb_x1 (by decide) rfl rfl ?_
      refine jb_iload_n (pc' := 83) dX9_shoutDue_82 rfl rfl ?_
      refine jb_iaload (pc' := 84) (i9 := i) (f := (W 11)) dX9_shoutDue_83 rfl (jb_ix_nI (by omega)) (by omega) rfl ?_
      refine jb_top (v := .int ((W 11) i)) (w := .int (nI (V 11 i))) (jb_vI (rd i (by omega)).2.1) ?_
      refine jb_iastore (pc' := 85) (i9 := l) (f := (W 11)) (h' := [s0, s1, s2, jb_sch53 I (va_up (va_up W 10 (upd (W 10) l (nI (V 10 i)))) 11 (upd (W 11) l (nI (V 11 i)))) T, s4, s5, s6, s7, s8, s9, s10, s11]) dX9_shoutDue_84 rfl (jb_ix_nI (by omega)) (by omega) rfl rfl ?_
      refine jb_iinc_ (pc' := 88) 2 dX9_shoutDue_85 (by decide) rfl (by decide) (jb_at3 rfl) rfl ?_
      refine jb_goto (pc' := 60) dX9_shoutDue_88 (by decide) ?_
      refine jb_iload_n (pc' := 61) dX9_shoutDue_60 rfl rfl ?_
      refine jb_aload_n (pc' := 62) dX9_shoutDue_61 rfl rfl ?_
      refine gf_X9_39 (pc' := 65) (v := .ref 66) dX9_shoutDue_62 rfl rfl rfl ?_
      refine jb_alen (pc' := 66) 4 (by decide) dX9_shoutDue_65 rfl (by decide) rfl ?_
      refine jb_icmp_ge (tgt := 91) (pc' := 69) dX9_shoutDue_66 (by decide) rfl (fun z => absurd z (by decide)) (fun _ => ?_)
      refine jb_aload_n (pc' := 70) dX9_shoutDue_69 rfl rfl ?_
      refine gf_X9_39 (pc' := 73) (v := .ref 66) dX9_shoutDue_70 rfl rfl rfl ?_
      refine jb_iload_n (pc' := 74) dX9_shoutDue_73 rfl rfl ?_
      refine jb_aaload (pc' := 75) (i9 := 2) (r := 69) (Or.inl rfl) dX9_shoutDue_74 rfl jb_x2 (by decide) rfl rfl ?_
      refine jb_iload_n (pc' := 76) dX9_shoutDue_75 rfl rfl ?_
      refine jb_aload_n (pc' := 77) dX9_shoutDue_76 rfl rfl ?_
      refine gf_X9_39 (pc' := 80) (v := .ref 66) dX9_shoutDue_77 rfl rfl rfl ?_
      refine jb_iload_n (pc' := 81) dX9_shoutDue_80 rfl rfl ?_
      refine jb_aaload (pc' := 82) (i9 := 2) (r := 69) (Or.inl rfl) dX9_shoutDue_81 rfl jb_x2 (by decide) rfl rfl ?_
      refine jb_iload_n (pc' := 83) dX9_shoutDue_82 rfl rfl ?_
      refine jb_iaload (pc' := 84) (i9 := i) (f := (W 12)) dX9_shoutDue_83 rfl (jb_ix_nI (by omega)) (by omega) rfl ?_
      refine jb_top (v := .int ((W 12) i)) (w := .int (nI (V 12 i))) (jb_vI (rd i (by omega)).2.2.1) ?_
      refine jb_iastore (pc' := 85) (i9 := l) (f := (W 12)) (h' := [s0, s1, s2, jb_sch53 I (va_up (va_up (va_up W 10 (upd (W 10) l (nI (V 10 i)))) 11 (upd (W 11) l (nI (V 11 i)))) 12 (upd (W 12) l (nI (V 12 i)))) T, s4, s5, s6, s7, s8, s9, s10, s11]) dX9_shoutDue_84 rfl (jb_ix_nI (by omega)) (by omega) rfl rfl ?_
      refine jb_iinc_ (pc' := 88) 3 dX9_shoutDue_85 (by decide) rfl (by decide) (jb_at3 rfl) rfl ?_
      refine jb_goto (pc' := 60) dX9_shoutDue_88 (by decide) ?_
      refine jb_iload_n (pc' := 61) dX9_shoutDue_60 rfl rfl ?_
      refine jb_aload_n (pc' := 62) dX9_shoutDue_61 rfl rfl ?_
      refine gf_X9_39 (pc' := 65) (v := .ref 66) dX9_shoutDue_62 rfl rfl rfl ?_
      refine jb_alen (pc' := 66) 4 (by decide) dX9_shoutDue_65 rfl (by decide) rfl ?_
      refine jb_icmp_ge (tgt := 91) (pc' := 69) dX9_shoutDue_66 (by decide) rfl (fun z => absurd z (by decide)) (fun _ => ?_)
      refine jb_aload_n (pc' := 70) dX9_shoutDue_69 rfl rfl ?_
      refine gf_X9_39 (pc' := 73) (v := .ref 66) dX9_shoutDue_70 rfl rfl rfl ?_
      refine jb_iload_n (pc' := 74) dX9_shoutDue_73 rfl rfl ?_
      refine jb_aaload (pc' := 75) (i9 := 3) (r := 70) (Or.inl rfl) dX9_shoutDue_74 rfl jb_x3 (by decide) rfl rfl ?_
      refine jb_iload_n (pc' := 76) dX9_shoutDue_75 rfl rfl ?_
      refine jb_aload_n (pc' := 77) dX9_shoutDue_76 rfl rfl ?_
      refine gf_X9_39 (pc' := 80) (v := .ref 66) dX9_shoutDue_77 rfl rfl rfl ?_
      refine jb_iload_n (pc' := 81) dX9_shoutDue_80 rfl rfl ?_
      refine jb_aaload (pc' := 82) (i9 := 3) (r := 70) (Or.inl rfl) dX9_shoutDue_81 rfl jb_x3 (by decide) rfl rfl ?_
      refine jb_iload_n (pc' := 83) dX9_shoutDue_82 rfl rfl ?_
      refine jb_iaload (pc' := 84) (i9 := i) (f := (W 13)) dX9_shoutDue_83 rfl (jb_ix_nI (by omega)) (by omega) rfl ?_
      refine jb_top (v := .int ((W 13) i)) (w := .int (nI (V 13 i))) (jb_vI (rd i (by omega)).2.2.2) ?_
      refine jb_iastore (pc' := 85) (i9 := l) (f := (W 13)) (h' := [s0, s1, s2, jb_sch53 I (va_up (va_up (va_up (va_up W 10 (upd (W 10) l (nI (V 10 i)))) 11 (upd (W 11) l (nI (V 11 i)))) 12 (upd (W 12) l (nI (V 12 i)))) 13 (upd (W 13) l (nI (V 13 i)))) T, s4, s5, s6, s7, s8, s9, s10, s11]) dX9_shoutDue_84 rfl (jb_ix_nI (by omega)) (by omega) rfl rfl ?_
      refine jb_iinc_ (pc' := 88) 4 dX9_shoutDue_85 (by decide) rfl (by decide) (jb_at3 rfl) rfl ?_
      refine jb_goto (pc' := 60) dX9_shoutDue_88 (by decide) ?_
      refine jb_iload_n (pc' := 61) dX9_shoutDue_60 rfl rfl ?_
      refine jb_aload_n (pc' := 62) dX9_shoutDue_61 rfl rfl ?_
      refine gf_X9_39 (pc' := 65) (v := .ref 66) dX9_shoutDue_62 rfl rfl rfl ?_
      refine jb_alen (pc' := 66) 4 (by decide) dX9_shoutDue_65 rfl (by decide) rfl ?_
      refine jb_icmp_ge (tgt := 91) (pc' := 69) dX9_shoutDue_66 (by decide) rfl (fun _ => ?_) (fun z => absurd (by decide) z)
      refine jb_iinc_ (pc' := 94) (nI (l + 1)) dX9_shoutDue_91 (by decide) rfl (jb_inc l 1) (jb_at1 rfl) rfl ?_
      refine jb_iinc_ (pc' := 97) (nI (i + 1)) dX9_shoutDue_94 (by decide) rfl (jb_inc i 1) (jb_at2 rfl) rfl ?_
      refine jb_goto (pc' := 4) dX9_shoutDue_97 (by decide) ?_
      have e9 : jm_sd (n + 1) i l V = jm_sd n (i + 1) (l + 1) (jm_mv V l i) := if_neg (by omega)
      refine jb_J.mono (ih (i + 1) (l + 1) (jm_mv V l i) I (va_up (va_up (va_up (va_up W 10 (upd (W 10) l (nI (V 10 i)))) 11 (upd (W 11) l (nI (V 11 i)))) 12 (upd (W 12) l (nI (V 12 i)))) 13 (upd (W 13) l (nI (V 13 i)))) _ (show i + 1 + n = V 0 3 by omega) (by omega) (jr_mv hr0) (jv_ok_mv hk0 (by omega))) (Nat.le_refl _) (Nat.le_refl _) (Nat.le_refl _) (fun r h9 hq => ?_)
      obtain ⟨rfl, I7, W7, hr7, hz7, hf7, rfl⟩ := hq
      exact ⟨rfl, I7, W7, by rw [e9]; exact hr7, hz7, jr_f.tr ⟨rfl, rfl, rfl, rfl⟩ hf7, rfl⟩
    · have c2 : ¬ (V 0 0) < (V 13 i) := fun z9 => c2 ((nI_ltI (a := (V 0 0)) (b := (V 13 i)) (by omega) (by omega)).mpr z9)
      refine jb_aload_n (pc' := 28) dX9_shoutDue_27 rfl rfl ?_
      refine jb_aload_n (pc' := 29) dX9_shoutDue_28 rfl rfl ?_
      refine gf_X9_39 (pc' := 32) (v := .ref 66) dX9_shoutDue_29 rfl rfl rfl ?_
      refine jb_iconst (pc' := 33) 0 dX9_shoutDue_32 (by decide) rfl ?_
      refine jb_aaload (pc' := 34) (i9 := 0) (r := 67) (Or.inl rfl) dX9_shoutDue_33 rfl jb_x0 (by decide) rfl rfl ?_
      refine jb_iload_n (pc' := 35) dX9_shoutDue_34 rfl rfl ?_
      refine jb_iaload (pc' := 36) (i9 := i) (f := (W 10)) dX9_shoutDue_35 rfl (jb_ix_nI (by omega)) (by omega) rfl ?_
      refine jb_top (v := .int ((W 10) i)) (w := .int (nI (V 10 i))) (jb_vI (rd i (by omega)).1) ?_
      refine jb_aload_n (pc' := 37) dX9_shoutDue_36 rfl rfl ?_
      refine gf_X9_39 (pc' := 40) (v := .ref 66) dX9_shoutDue_37 rfl rfl rfl ?_
      refine jb_iconst (pc' := 41) 1 dX9_shoutDue_40 (by decide) rfl ?_
      refine jb_aaload (pc' := 42) (i9 := 1) (r := 68) (Or.inl rfl) dX9_shoutDue_41 rfl jb_x1 (by decide) rfl rfl ?_
      refine jb_iload_n (pc' := 43) dX9_shoutDue_42 rfl rfl ?_
      refine jb_iaload (pc' := 44) (i9 := i) (f := (W 11)) dX9_shoutDue_43 rfl (jb_ix_nI (by omega)) (by omega) rfl ?_
      refine jb_top (v := .int ((W 11) i)) (w := .int (nI (V 11 i))) (jb_vI (rd i (by omega)).2.1) ?_
      refine jb_aload_n (pc' := 45) dX9_shoutDue_44 rfl rfl ?_
      refine gf_X9_39 (pc' := 48) (v := .ref 66) dX9_shoutDue_45 rfl rfl rfl ?_
      refine jb_iconst (pc' := 49) 2 dX9_shoutDue_48 (by decide) rfl ?_
      refine jb_aaload (pc' := 50) (i9 := 2) (r := 69) (Or.inl rfl) dX9_shoutDue_49 rfl jb_x2 (by decide) rfl rfl ?_
      refine jb_iload_n (pc' := 51) dX9_shoutDue_50 rfl rfl ?_
      refine jb_iaload (pc' := 52) (i9 := i) (f := (W 12)) dX9_shoutDue_51 rfl (jb_ix_nI (by omega)) (by omega) rfl ?_
      refine jb_top (v := .int ((W 12) i)) (w := .int (nI (V 12 i + 1) - 1)) (jb_vI (by rw [(rd i (by omega)).2.2.1, nI_pred])) ?_
      refine jb_callV (pc' := 55) (ci := 9) (q := 53) (As := [.int (nI (V 10 i)), .int (nI (V 11 i)), .int (nI (V 12 i + 1) - 1)]) (a2 := 0) (b2 := 0) wv_X9_145 rfl dX9_shoutDue_52 (c_addShout_53 I W T hr0 hk0 (V 10 i) (V 11 i) (V 12 i + 1) (by omega) (by omega) (by omega)) rfl rfl ⟨by decide, Nat.le_of_eq (Nat.zero_add _), Nat.le_of_eq (Nat.zero_add _)⟩ (Nat.le_of_ble_eq_true rfl) rfl (fun r h9 hq => ?_)
      obtain ⟨rfl, I9, W9, hr9, hz9, hf9, rfl⟩ := hq
      show jb_J _ RX9 cX9_shoutDue 4 (Option.none : Option Jvm.ClassFile.FieldType) false 2 0 0 55 [some (.ref 53), some (.int (nI l)), some (.int (nI i)), x3] [] [s0, s1, s2, jb_sch53 I9 W9 T, s4, s5, s6, s7, s8, s9, s10, s11] _
      refine jb_goto (pc' := 94) dX9_shoutDue_55 (by decide) ?_
      refine jb_iinc_ (pc' := 97) (nI (i + 1)) dX9_shoutDue_94 (by decide) rfl (jb_inc i 1) (jb_at2 rfl) rfl ?_
      refine jb_goto (pc' := 4) dX9_shoutDue_97 (by decide) ?_
      have e9 : jm_sd (n + 1) i l V = jm_sd n (i + 1) l (jm_as V (V 10 i) (V 11 i) (V 12 i + 1)) := if_pos (by omega)
      refine jb_J.mono (ih (i + 1) l _ I9 W9 _ (by rw [jm_as_0 _ _ _ _ _ (by decide)]; omega) (by omega) hr9 (jv_ok_as hk0 (by omega) (by omega) (by omega))) (Nat.le_refl _) (Nat.le_refl _) (Nat.le_refl _) (fun r h9 hq => ?_)
      obtain ⟨rfl, I7, W7, hr7, hz7, hf7, rfl⟩ := hq
      exact ⟨rfl, I7, W7, by rw [e9]; exact hr7, hz7.trans hz9, hf9.tr hf7, rfl⟩
set_option maxRecDepth 100000 in
set_option maxHeartbeats 4000000 in
theorem c_shoutDue_53 {sc : Nat × (Nat → Int32)} {s0 s1 s2 s4 s5 s6 s7 s8 s9 s10 s11 : List va_E} {V : Nat → Nat → Nat} (I : Nat → Int32) (W : Nat → Nat → Int32) (T : Nat → Value) (hr : jr_ V I W) (hk : jv_ok V) : jb_C sc yX9_shoutDue cX9_shoutDue 4 (Option.none : Option Jvm.ClassFile.FieldType) 2 0 0 [.ref 53] [s0, s1, s2, jb_sch53 I W T, s4, s5, s6, s7, s8, s9, s10, s11] (fun r h9 => r = none ∧ ∃ I9 W9, jr_ (jm_du V) I9 W9 ∧ I9 1 = I 1 ∧ jr_f I W I9 W9 ∧ h9 = [s0, s1, s2, jb_sch53 I9 W9 T, s4, s5, s6, s7, s8, s9, s10, s11]) := by
  refine jb_CofJ (ini := false) (by decide +kernel) (fun h => by cases h) (Nat.le_of_ble_eq_true rfl) ?_
  show jb_J sc RX9 cX9_shoutDue 4 (Option.none : Option Jvm.ClassFile.FieldType) false 2 0 0 0 [some (.ref 53), none, none, none] [] [s0, s1, s2, jb_sch53 I W T, s4, s5, s6, s7, s8, s9, s10, s11] _
  refine jb_iconst (pc' := 1) 0 dX9_shoutDue_0 (by decide) rfl ?_
  refine jb_istore_n_ (pc' := 2) dX9_shoutDue_1 (by decide) (jb_at1 rfl) rfl ?_
  refine jb_iconst (pc' := 3) 0 dX9_shoutDue_2 (by decide) rfl ?_
  refine jb_istore_n_ (pc' := 4) dX9_shoutDue_3 (by decide) (jb_at2 rfl) rfl ?_
  refine jb_J.mono (l_due_53 T (V 0 3) 0 0 V I W _ (by omega) (by omega) hr hk) (Nat.le_refl _) (Nat.le_refl _) (Nat.le_refl _) (fun r h9 hq => hq)
set_option maxRecDepth 100000 in
set_option maxHeartbeats 4000000 in
theorem l_over1_13 {sc : Nat × (Nat → Int32)} {s2 s3 s4 s5 s6 s7 s8 s9 s10 s11 : List va_E} (imm : Int32) (Im rowm tpm : Nat → Int32) (Tm : Nat → Value) (T : Nat → Value) {G : jm_G} (hG : jm_Gok G) (hg : jG13 sc T s11 G) (N : Nat) (i4 : Int32) (Q : Option Value → jb_H → Prop) : ∀ (n s : Nat) (V : Nat → Nat → Nat) (I : Nat → Int32) (W : Nat → Nat → Int32) (stkm : Nat → Int32), s + n = V 0 2 → jr_ V I W → jv_ok V → (∀ I9 W9 stk9 x5, jr_ (jm_cs G true n s (V, I 1)).1 I9 W9 → I9 1 = (jm_cs G true n s (V, I 1)).2 → jr_f I W I9 W9 → jb_J sc RX9 cX9_pass 6 (Option.none : Option Jvm.ClassFile.FieldType) false 7 0 0 52 [some (.ref 13), some (.int (nI N)), some (.int 1), some (.ref 25), some (.int i4), x5] [] [jb_main imm Im Tm rowm stk9 tpm, jb_sch13 I9 W9 T, s2, s3, s4, s5, s6, s7, s8, s9, s10, s11] Q) → jb_J sc RX9 cX9_pass 6 (Option.none : Option Jvm.ClassFile.FieldType) false 7 0 0 19 [some (.ref 13), some (.int (nI N)), some (.int 1), some (.ref 25), some (.int i4), some (.int (nI s))] [] [jb_main imm Im Tm rowm stkm tpm, jb_sch13 I W T, s2, s3, s4, s5, s6, s7, s8, s9, s10, s11] Q := by
  intro n
  induction n with
  | zero =>
    intro s V I W stkm hs hr hk hQ
    have hr0 := hr
    obtain ⟨r0, r2, r3, r4, a0, a1, a2, rv, rs, rd⟩ := hr
    obtain ⟨k0, k1, k2, k3, k4, k5, k6, k7, kv, ks, kd⟩ := hk
    show jb_J _ RX9 cX9_pass 6 (Option.none : Option Jvm.ClassFile.FieldType) false 7 0 0 19 [some (.ref 13), some (.int (nI N)), some (.int 1), some (.ref 25), some (.int i4), some (.int (nI s))] [] [jb_main imm Im Tm rowm stkm tpm, jb_sch13 I W T, s2, s3, s4, s5, s6, s7, s8, s9, s10, s11] _
    refine jb_iload (pc' := 21) dX9_pass_19 rfl rfl ?_
    refine jb_aload_n (pc' := 22) dX9_pass_21 rfl rfl ?_
    refine gf_X9_30 (pc' := 25) (v := .int (I 3)) dX9_pass_22 rfl rfl rfl ?_
    refine jb_top (v := .int (I 3)) (w := .int (nI (V 0 2))) (jb_vI r3) ?_
    refine jb_icmp_ge (tgt := 52) (pc' := 28) dX9_pass_25 (by decide) rfl (fun _ => ?_) (fun z => absurd (nI_le (a := V 0 2) (b := s) (by omega) (by omega)) z)
    exact hQ I W stkm _ hr0 rfl (jr_f.rf I W)
  | succ n ih =>
    intro s V I W stkm hs hr hk hQ
    have hr0 := hr
    have hk0 := hk
    obtain ⟨r0, r2, r3, r4, a0, a1, a2, rv, rs, rd⟩ := hr
    obtain ⟨k0, k1, k2, k3, k4, k5, k6, k7, kv, ks, kd⟩ := hk
    have q0 := ks s (by omega)
    show jb_J _ RX9 cX9_pass 6 (Option.none : Option Jvm.ClassFile.FieldType) false 7 0 0 19 [some (.ref 13), some (.int (nI N)), some (.int 1), some (.ref 25), some (.int i4), some (.int (nI s))] [] [jb_main imm Im Tm rowm stkm tpm, jb_sch13 I W T, s2, s3, s4, s5, s6, s7, s8, s9, s10, s11] _
    refine jb_iload (pc' := 21) dX9_pass_19 rfl rfl ?_
    refine jb_aload_n (pc' := 22) dX9_pass_21 rfl rfl ?_
    refine gf_X9_30 (pc' := 25) (v := .int (I 3)) dX9_pass_22 rfl rfl rfl ?_
    refine jb_top (v := .int (I 3)) (w := .int (nI (V 0 2))) (jb_vI r3) ?_
    refine jb_icmp_ge (tgt := 52) (pc' := 28) dX9_pass_25 (by decide) rfl (fun z => absurd z (nI_ge (a := s) (b := V 0 2) (by omega) (by omega))) (fun _ => ?_)
    refine jb_aload_n (pc' := 29) dX9_pass_28 rfl rfl ?_
    refine jb_iload (pc' := 31) dX9_pass_29 rfl rfl ?_
    refine jb_iaload (pc' := 32) (i9 := s) (f := (W 9)) dX9_pass_31 rfl (jb_ix_nI (by omega)) (by omega) rfl ?_
    refine jb_top (v := .int ((W 9) s)) (w := .int (nI (V 9 s))) (jb_vI (rs s (by omega)).2.2.2.2.2) ?_
    refine jb_aload_n (pc' := 33) dX9_pass_32 rfl rfl ?_
    refine gf_X9_15 (pc' := 36) (v := .int (I 0)) dX9_pass_33 rfl rfl rfl ?_
    refine jb_top (v := .int (I 0)) (w := .int (nI (V 0 0))) (jb_vI r0) ?_
    refine jb_icmp_ne (tgt := 46) (pc' := 39) dX9_pass_36 (by decide) rfl (fun hov => ?_) (fun hov => ?_)
    · have hov : ¬ (V 9 s) = (V 0 0) := fun z9 => hov ((nI_eq (a := (V 9 s)) (b := (V 0 0)) (by omega) (by omega)).mpr z9)
      refine jb_iinc_ (pc' := 49) (nI (s + 1)) dX9_pass_46 (by decide) rfl (jb_inc s 1) (jb_at5 rfl) rfl ?_
      refine jb_goto (pc' := 19) dX9_pass_49 (by decide) ?_
      have e9 : jm_cs G true (n + 1) s (V, I 1) = jm_cs G true n (s + 1) (V, I 1) := congrArg (jm_cs G true n (s + 1)) (if_neg hov)
      refine ih (s + 1) V I W stkm (by omega) hr0 hk0 (fun I7 W7 stk7 x5 hr7 hz7 hf7 => ?_)
      exact hQ I7 W7 stk7 x5 (by rw [e9]; exact hr7) (by rw [e9]; exact hz7) hf7
    · have hov : (V 9 s) = (V 0 0) := (nI_eq (a := (V 9 s)) (b := (V 0 0)) (by omega) (by omega)).mp hov
      refine jb_aload_n (pc' := 40) dX9_pass_39 rfl rfl ?_
      refine jb_iload (pc' := 42) dX9_pass_40 rfl rfl ?_
      refine jb_iload_n (pc' := 43) dX9_pass_42 rfl rfl ?_
      refine jb_callV (pc' := 46) (ci := 9) (q := 13) (As := [.int (nI s), .int 1]) (a2 := 0) (b2 := 0) wv_X9_121 rfl dX9_pass_43 (c_comeOver1_13 _ _ _ _ _ _ I W T hr0 hk0 hG hg s (by omega)) rfl rfl ⟨by decide, Nat.le_of_eq (Nat.zero_add _), Nat.le_of_eq (Nat.zero_add _)⟩ (Nat.le_of_ble_eq_true rfl) rfl (fun r h9 hq => ?_)
      obtain ⟨rfl, I9, W9, stk9, hr9, hz9, hf9, rfl⟩ := hq
      show jb_J _ RX9 cX9_pass 6 (Option.none : Option Jvm.ClassFile.FieldType) false 7 0 0 46 [some (.ref 13), some (.int (nI N)), some (.int 1), some (.ref 25), some (.int i4), some (.int (nI s))] [] [jb_main imm Im Tm rowm stk9 tpm, jb_sch13 I9 W9 T, s2, s3, s4, s5, s6, s7, s8, s9, s10, s11] _
      refine jb_iinc_ (pc' := 49) (nI (s + 1)) dX9_pass_46 (by decide) rfl (jb_inc s 1) (jb_at5 rfl) rfl ?_
      refine jb_goto (pc' := 19) dX9_pass_49 (by decide) ?_
      have e9 : jm_cs G true (n + 1) s (V, I 1) = jm_cs G true n (s + 1) ((jm_co G true s (V, I 1)).1, I9 1) := by
        rw [hz9]
        exact congrArg (jm_cs G true n (s + 1)) (if_pos hov)
      obtain ⟨hk9, hs9, -⟩ := jv_co hk0 hG true (I 1) (s := s) (by omega)
      refine ih (s + 1) (jm_co G true s (V, I 1)).1 I9 W9 stk9 (by rw [hs9.2.2.1]; omega) hr9 hk9 (fun I7 W7 stk7 x5 hr7 hz7 hf7 => ?_)
      exact hQ I7 W7 stk7 x5 (by rw [e9]; exact hr7) (by rw [e9]; exact hz7) (hf9.tr hf7)
set_option maxRecDepth 100000 in
set_option maxHeartbeats 4000000 in
theorem l_pass1_13 {sc : Nat × (Nat → Int32)} {s2 s3 s4 s5 s6 s7 s8 s9 s10 s11 : List va_E} (imm : Int32) (Im rowm tpm : Nat → Int32) (Tm : Nat → Value) (T : Nat → Value) {G : jm_G} (hG : jm_Gok G) (hg : jG13 sc T s11 G) (N : Nat) (hN : N ≤ 10000) : ∀ (n i : Nat) (V : Nat → Nat → Nat) (I : Nat → Int32) (W : Nat → Nat → Int32) (stkm : Nat → Int32) (x5 : Option Value), i + n = N → V 0 0 + n ≤ 20000 → jr_ V I W → jv_ok V → jb_J sc RX9 cX9_pass 6 (Option.none : Option Jvm.ClassFile.FieldType) false 7 0 0 10 [some (.ref 13), some (.int (nI N)), some (.int 1), some (.ref 25), some (.int (nI i)), x5] [] [jb_main imm Im Tm rowm stkm tpm, jb_sch13 I W T, s2, s3, s4, s5, s6, s7, s8, s9, s10, s11] (fun r h9 => r = none ∧ ∃ I9 W9 stk9, jr_ (jm_pa G true n (V, I 1)).1 I9 W9 ∧ I9 1 = (jm_pa G true n (V, I 1)).2 ∧ jr_f I W I9 W9 ∧ h9 = [jb_main imm Im Tm rowm stk9 tpm, jb_sch13 I9 W9 T, s2, s3, s4, s5, s6, s7, s8, s9, s10, s11]) := by
  intro n
  induction n with
  | zero =>
    intro i V I W stkm x5 hi h2 hr hk
    show jb_J _ RX9 cX9_pass 6 (Option.none : Option Jvm.ClassFile.FieldType) false 7 0 0 10 [some (.ref 13), some (.int (nI N)), some (.int 1), some (.ref 25), some (.int (nI i)), x5] [] [jb_main imm Im Tm rowm stkm tpm, jb_sch13 I W T, s2, s3, s4, s5, s6, s7, s8, s9, s10, s11] _
    refine jb_iload (pc' := 12) dX9_pass_10 rfl rfl ?_
    refine jb_iload_n (pc' := 13) dX9_pass_12 rfl rfl ?_
    refine jb_icmp_ge (tgt := 72) (pc' := 16) dX9_pass_13 (by decide) rfl (fun _ => ?_) (fun z => absurd (nI_le (a := N) (b := i) (by omega) (by omega)) z)
    refine jb_vret dX9_pass_72 ?_
    exact ⟨rfl, I, W, stkm, hr, rfl, jr_f.rf I W, rfl⟩
  | succ n ih =>
    intro i V I W stkm x5 hi h2 hr hk
    show jb_J _ RX9 cX9_pass 6 (Option.none : Option Jvm.ClassFile.FieldType) false 7 0 0 10 [some (.ref 13), some (.int (nI N)), some (.int 1), some (.ref 25), some (.int (nI i)), x5] [] [jb_main imm Im Tm rowm stkm tpm, jb_sch13 I W T, s2, s3, s4, s5, s6, s7, s8, s9, s10, s11] _
    refine jb_iload (pc' := 12) dX9_pass_10 rfl rfl ?_
    refine jb_iload_n (pc' := 13) dX9_pass_12 rfl rfl ?_
    refine jb_icmp_ge (tgt := 72) (pc' := 16) dX9_pass_13 (by decide) rfl (fun z => absurd z (nI_ge (a := i) (b := N) (by omega) (by omega))) (fun _ => ?_)
    refine jb_iconst (pc' := 17) 0 dX9_pass_16 (by decide) rfl ?_
    refine jb_istore_ (pc' := 19) dX9_pass_17 (by decide) (jb_at5 rfl) rfl ?_
    refine l_over1_13 imm Im rowm tpm Tm T hG hg N (nI i) _ (V 0 2) 0 V I W stkm (by omega) hr hk (fun I8 W8 stk8 x8 hr8 hz8 hf8 => ?_)
    obtain ⟨hk8, hs8⟩ := jv_cs hG true (V 0 2) 0 V (I 1) hk (by omega)
    show jb_J _ RX9 cX9_pass 6 (Option.none : Option Jvm.ClassFile.FieldType) false 7 0 0 52 [some (.ref 13), some (.int (nI N)), some (.int 1), some (.ref 25), some (.int (nI i)), x8] [] [jb_main imm Im Tm rowm stk8 tpm, jb_sch13 I8 W8 T, s2, s3, s4, s5, s6, s7, s8, s9, s10, s11] _
    refine jb_aload_n (pc' := 53) dX9_pass_52 rfl rfl ?_
    refine jb_callV (pc' := 56) (ci := 9) (q := 13) (As := []) (a2 := 0) (b2 := 0) wv_X9_125 rfl dX9_pass_53 (c_shoutDue_13 I8 W8 T hr8 hk8) rfl rfl ⟨by decide, Nat.le_of_eq (Nat.zero_add _), Nat.le_of_eq (Nat.zero_add _)⟩ (Nat.le_of_ble_eq_true rfl) rfl (fun r h9 hq => ?_)
    obtain ⟨rfl, I9, W9, hr9, hz9, hf9, rfl⟩ := hq
    obtain ⟨V7, hV7⟩ : ∃ X, jm_du (jm_cs G true (V 0 2) 0 (V, I 1)).1 = X := ⟨_, rfl⟩
    rw [hV7] at hr9
    have q0 := hk8.1
    obtain ⟨hk7, hd7⟩ := jv_du hk8
    have u7 := hd7 0 (by decide) (by decide)
    rw [hV7] at hk7 u7
    have u8 := hs8.1
    show jb_J _ RX9 cX9_pass 6 (Option.none : Option Jvm.ClassFile.FieldType) false 7 0 0 56 [some (.ref 13), some (.int (nI N)), some (.int 1), some (.ref 25), some (.int (nI i)), x8] [] [jb_main imm Im Tm rowm stk8 tpm, jb_sch13 I9 W9 T, s2, s3, s4, s5, s6, s7, s8, s9, s10, s11] _
    refine jb_aload_n (pc' := 57) dX9_pass_56 rfl rfl ?_
    refine jb_dup (pc' := 58) dX9_pass_57 rfl rfl ?_
    refine gf_X9_15 (pc' := 61) (v := .int (I9 0)) dX9_pass_58 rfl rfl rfl ?_
    refine jb_top (v := .int (I9 0)) (w := .int (nI (V7 0 0))) (jb_vI hr9.1) ?_
    refine jb_iconst (pc' := 62) 1 dX9_pass_61 (by decide) rfl ?_
    refine jb_iadd (pc' := 63) dX9_pass_62 rfl ?_
    refine jb_top (v := .int ((nI (V7 0 0)) + 1)) (w := .int (nI ((V7 0 0) + 1))) (jb_vI (nI_add _ 1)) ?_
    refine pf_X9_15 (pc' := 66) (h' := [jb_main imm Im Tm rowm stk8 tpm, jb_sch13 (upd I9 0 (nI ((V7 0 0) + 1))) W9 T, s2, s3, s4, s5, s6, s7, s8, s9, s10, s11]) dX9_pass_63 (fun _ => ⟨rfl, rfl⟩) rfl (Nat.le_of_ble_eq_true rfl) rfl rfl ?_
    refine jb_iinc_ (pc' := 69) (nI (i + 1)) dX9_pass_66 (by decide) rfl (jb_inc i 1) (jb_at4 rfl) rfl ?_
    refine jb_goto (pc' := 10) dX9_pass_69 (by decide) ?_
    have e9 : jm_pa G true (n + 1) (V, I 1) = jm_pa G true n (jv_up V7 0 0 (V7 0 0 + 1), (upd I9 0 (nI ((V7 0 0) + 1))) 1) := by
      rw [show (upd I9 0 (nI ((V7 0 0) + 1))) 1 = (jm_cs G true (V 0 2) 0 (V, I 1)).2 from (jb_une (by decide)).trans (hz9.trans hz8), ← hV7]
      rfl
    refine jb_J.mono (ih (i + 1) (jv_up V7 0 0 (V7 0 0 + 1)) (upd I9 0 (nI ((V7 0 0) + 1))) W9 stk8 _ (by omega) (by rw [jv_up_s]; omega) (jr_sec hr9 _) (jv_ok_sec hk7 (by omega))) (Nat.le_refl _) (Nat.le_refl _) (Nat.le_refl _) (fun r h9 hq => ?_)
    obtain ⟨rfl, I7, W7, stk7, hr7, hz7, hf7, rfl⟩ := hq
    exact ⟨rfl, I7, W7, stk7, by rw [e9]; exact hr7, by rw [e9]; exact hz7, hf8.tr (hf9.tr (jr_f.tr ⟨rfl, rfl, rfl, rfl⟩ hf7)), rfl⟩
set_option maxRecDepth 100000 in
set_option maxHeartbeats 4000000 in
theorem c_pass1_13 {sc : Nat × (Nat → Int32)} {s2 s3 s4 s5 s6 s7 s8 s9 s10 s11 : List va_E} {V : Nat → Nat → Nat} (imm : Int32) (Im rowm stkm tpm : Nat → Int32) (Tm : Nat → Value) (I : Nat → Int32) (W : Nat → Nat → Int32) (T : Nat → Value) (hr : jr_ V I W) (hk : jv_ok V) {G : jm_G} (hG : jm_Gok G) (hg : jG13 sc T s11 G) (N : Nat) (hN : N ≤ 10000) (h2 : V 0 0 + N ≤ 20000) : jb_C sc yX9_pass cX9_pass 6 (Option.none : Option Jvm.ClassFile.FieldType) 7 0 0 [.ref 13, .int (nI N), .int 1] [jb_main imm Im Tm rowm stkm tpm, jb_sch13 I W T, s2, s3, s4, s5, s6, s7, s8, s9, s10, s11] (fun r h9 => r = none ∧ ∃ I9 W9 stk9, jr_ (jm_pa G true N (V, I 1)).1 I9 W9 ∧ I9 1 = (jm_pa G true N (V, I 1)).2 ∧ jr_f I W I9 W9 ∧ h9 = [jb_main imm Im Tm rowm stk9 tpm, jb_sch13 I9 W9 T, s2, s3, s4, s5, s6, s7, s8, s9, s10, s11]) := by
  refine jb_CofJ (ini := false) (by decide +kernel) (fun h => by cases h) (Nat.le_of_ble_eq_true rfl) ?_
  show jb_J sc RX9 cX9_pass 6 (Option.none : Option Jvm.ClassFile.FieldType) false 7 0 0 0 [some (.ref 13), some (.int (nI N)), some (.int 1), none, none, none] [] [jb_main imm Im Tm rowm stkm tpm, jb_sch13 I W T, s2, s3, s4, s5, s6, s7, s8, s9, s10, s11] _
  refine jb_aload_n (pc' := 1) dX9_pass_0 rfl rfl ?_
  refine gf_X9_33 (pc' := 4) (v := .ref 19) dX9_pass_1 rfl rfl rfl ?_
  refine jb_iconst (pc' := 5) 5 dX9_pass_4 (by decide) rfl ?_
  refine jb_aaload (pc' := 6) (i9 := 5) (r := 25) (Or.inl rfl) dX9_pass_5 rfl jb_x5 (by decide) rfl rfl ?_
  refine jb_astore_n_ (pc' := 7) dX9_pass_6 (by decide) (jb_at3 rfl) rfl ?_
  refine jb_iconst (pc' := 8) 0 dX9_pass_7 (by decide) rfl ?_
  refine jb_istore_ (pc' := 10) dX9_pass_8 (by decide) (jb_at4 rfl) rfl ?_
  exact l_pass1_13 imm Im rowm tpm Tm T hG hg N hN N 0 V I W stkm _ (by omega) h2 hr hk
set_option maxRecDepth 100000 in
set_option maxHeartbeats 4000000 in
theorem l_over0_13 {sc : Nat × (Nat → Int32)} {s2 s3 s4 s5 s6 s7 s8 s9 s10 s11 : List va_E} (imm : Int32) (Im rowm tpm : Nat → Int32) (Tm : Nat → Value) (T : Nat → Value) {G : jm_G} (hG : jm_Gok G) (hg : jG13 sc T s11 G) (N : Nat) (i4 : Int32) (Q : Option Value → jb_H → Prop) : ∀ (n s : Nat) (V : Nat → Nat → Nat) (I : Nat → Int32) (W : Nat → Nat → Int32) (stkm : Nat → Int32), s + n = V 0 2 → jr_ V I W → jv_ok V → (∀ I9 W9 stk9 x5, jr_ (jm_cs G false n s (V, I 1)).1 I9 W9 → I9 1 = (jm_cs G false n s (V, I 1)).2 → jr_f I W I9 W9 → jb_J sc RX9 cX9_pass 6 (Option.none : Option Jvm.ClassFile.FieldType) false 7 0 0 52 [some (.ref 13), some (.int (nI N)), some (.int 0), some (.ref 25), some (.int i4), x5] [] [jb_main imm Im Tm rowm stk9 tpm, jb_sch13 I9 W9 T, s2, s3, s4, s5, s6, s7, s8, s9, s10, s11] Q) → jb_J sc RX9 cX9_pass 6 (Option.none : Option Jvm.ClassFile.FieldType) false 7 0 0 19 [some (.ref 13), some (.int (nI N)), some (.int 0), some (.ref 25), some (.int i4), some (.int (nI s))] [] [jb_main imm Im Tm rowm stkm tpm, jb_sch13 I W T, s2, s3, s4, s5, s6, s7, s8, s9, s10, s11] Q := by
  intro n
  induction n with
  | zero =>
    intro s V I W stkm hs hr hk hQ
    have hr0 := hr
    obtain ⟨r0, r2, r3, r4, a0, a1, a2, rv, rs, rd⟩ := hr
    obtain ⟨k0, k1, k2, k3, k4, k5, k6, k7, kv, ks, kd⟩ := hk
    show jb_J _ RX9 cX9_pass 6 (Option.none : Option Jvm.ClassFile.FieldType) false 7 0 0 19 [some (.ref 13), some (.int (nI N)), some (.int 0), some (.ref 25), some (.int i4), some (.int (nI s))] [] [jb_main imm Im Tm rowm stkm tpm, jb_sch13 I W T, s2, s3, s4, s5, s6, s7, s8, s9, s10, s11] _
    refine jb_iload (pc' := 21) dX9_pass_19 rfl rfl ?_
    refine jb_aload_n (pc' := 22) dX9_pass_21 rfl rfl ?_
    refine gf_X9_30 (pc' := 25) (v := .int (I 3)) dX9_pass_22 rfl rfl rfl ?_
    refine jb_top (v := .int (I 3)) (w := .int (nI (V 0 2))) (jb_vI r3) ?_
    refine jb_icmp_ge (tgt := 52) (pc' := 28) dX9_pass_25 (by decide) rfl (fun _ => ?_) (fun z => absurd (nI_le (a := V 0 2) (b := s) (by omega) (by omega)) z)
    exact hQ I W stkm _ hr0 rfl (jr_f.rf I W)
  | succ n ih =>
    intro s V I W stkm hs hr hk hQ
    have hr0 := hr
    have hk0 := hk
    obtain ⟨r0, r2, r3, r4, a0, a1, a2, rv, rs, rd⟩ := hr
    obtain ⟨k0, k1, k2, k3, k4, k5, k6, k7, kv, ks, kd⟩ := hk
    have q0 := ks s (by omega)
    show jb_J _ RX9 cX9_pass 6 (Option.none : Option Jvm.ClassFile.FieldType) false 7 0 0 19 [some (.ref 13), some (.int (nI N)), some (.int 0), some (.ref 25), some (.int i4), some (.int (nI s))] [] [jb_main imm Im Tm rowm stkm tpm, jb_sch13 I W T, s2, s3, s4, s5, s6, s7, s8, s9, s10, s11] _
    refine jb_iload (pc' := 21) dX9_pass_19 rfl rfl ?_
    refine jb_aload_n (pc' := 22) dX9_pass_21 rfl rfl ?_
    refine gf_X9_30 (pc' := 25) (v := .int (I 3)) dX9_pass_22 rfl rfl rfl ?_
    refine jb_top (v := .int (I 3)) (w := .int (nI (V 0 2))) (jb_vI r3) ?_
    refine jb_icmp_ge (tgt := 52) (pc' := 28) dX9_pass_25 (by decide) rfl (fun z => absurd z (nI_ge (a := s) (b := V 0 2) (by omega) (by omega))) (fun _ => ?_)
    refine jb_aload_n (pc' := 29) dX9_pass_28 rfl rfl ?_
    refine jb_iload (pc' := 31) dX9_pass_29 rfl rfl ?_
    refine jb_iaload (pc' := 32) (i9 := s) (f := (W 9)) dX9_pass_31 rfl (jb_ix_nI (by omega)) (by omega) rfl ?_
    refine jb_top (v := .int ((W 9) s)) (w := .int (nI (V 9 s))) (jb_vI (rs s (by omega)).2.2.2.2.2) ?_
    refine jb_aload_n (pc' := 33) dX9_pass_32 rfl rfl ?_
    refine gf_X9_15 (pc' := 36) (v := .int (I 0)) dX9_pass_33 rfl rfl rfl ?_
    refine jb_top (v := .int (I 0)) (w := .int (nI (V 0 0))) (jb_vI r0) ?_
    refine jb_icmp_ne (tgt := 46) (pc' := 39) dX9_pass_36 (by decide) rfl (fun hov => ?_) (fun hov => ?_)
    · have hov : ¬ (V 9 s) = (V 0 0) := fun z9 => hov ((nI_eq (a := (V 9 s)) (b := (V 0 0)) (by omega) (by omega)).mpr z9)
      refine jb_iinc_ (pc' := 49) (nI (s + 1)) dX9_pass_46 (by decide) rfl (jb_inc s 1) (jb_at5 rfl) rfl ?_
      refine jb_goto (pc' := 19) dX9_pass_49 (by decide) ?_
      have e9 : jm_cs G false (n + 1) s (V, I 1) = jm_cs G false n (s + 1) (V, I 1) := congrArg (jm_cs G false n (s + 1)) (if_neg hov)
      refine ih (s + 1) V I W stkm (by omega) hr0 hk0 (fun I7 W7 stk7 x5 hr7 hz7 hf7 => ?_)
      exact hQ I7 W7 stk7 x5 (by rw [e9]; exact hr7) (by rw [e9]; exact hz7) hf7
    · have hov : (V 9 s) = (V 0 0) := (nI_eq (a := (V 9 s)) (b := (V 0 0)) (by omega) (by omega)).mp hov
      refine jb_aload_n (pc' := 40) dX9_pass_39 rfl rfl ?_
      refine jb_iload (pc' := 42) dX9_pass_40 rfl rfl ?_
      refine jb_iload_n (pc' := 43) dX9_pass_42 rfl rfl ?_
      refine jb_callV (pc' := 46) (ci := 9) (q := 13) (As := [.int (nI s), .int 0]) (a2 := 0) (b2 := 0) wv_X9_121 rfl dX9_pass_43 (c_comeOver0_13 _ _ _ _ _ _ I W T hr0 hk0 hG hg s (by omega)) rfl rfl ⟨by decide, Nat.le_of_eq (Nat.zero_add _), Nat.le_of_eq (Nat.zero_add _)⟩ (Nat.le_of_ble_eq_true rfl) rfl (fun r h9 hq => ?_)
      obtain ⟨rfl, I9, W9, stk9, hr9, hz9, hf9, rfl⟩ := hq
      show jb_J _ RX9 cX9_pass 6 (Option.none : Option Jvm.ClassFile.FieldType) false 7 0 0 46 [some (.ref 13), some (.int (nI N)), some (.int 0), some (.ref 25), some (.int i4), some (.int (nI s))] [] [jb_main imm Im Tm rowm stk9 tpm, jb_sch13 I9 W9 T, s2, s3, s4, s5, s6, s7, s8, s9, s10, s11] _
      refine jb_iinc_ (pc' := 49) (nI (s + 1)) dX9_pass_46 (by decide) rfl (jb_inc s 1) (jb_at5 rfl) rfl ?_
      refine jb_goto (pc' := 19) dX9_pass_49 (by decide) ?_
      have e9 : jm_cs G false (n + 1) s (V, I 1) = jm_cs G false n (s + 1) ((jm_co G false s (V, I 1)).1, I9 1) := by
        rw [hz9]
        exact congrArg (jm_cs G false n (s + 1)) (if_pos hov)
      obtain ⟨hk9, hs9, -⟩ := jv_co hk0 hG false (I 1) (s := s) (by omega)
      refine ih (s + 1) (jm_co G false s (V, I 1)).1 I9 W9 stk9 (by rw [hs9.2.2.1]; omega) hr9 hk9 (fun I7 W7 stk7 x5 hr7 hz7 hf7 => ?_)
      exact hQ I7 W7 stk7 x5 (by rw [e9]; exact hr7) (by rw [e9]; exact hz7) (hf9.tr hf7)
set_option maxRecDepth 100000 in
set_option maxHeartbeats 4000000 in
theorem l_pass0_13 {sc : Nat × (Nat → Int32)} {s2 s3 s4 s5 s6 s7 s8 s9 s10 s11 : List va_E} (imm : Int32) (Im rowm tpm : Nat → Int32) (Tm : Nat → Value) (T : Nat → Value) {G : jm_G} (hG : jm_Gok G) (hg : jG13 sc T s11 G) (N : Nat) (hN : N ≤ 10000) : ∀ (n i : Nat) (V : Nat → Nat → Nat) (I : Nat → Int32) (W : Nat → Nat → Int32) (stkm : Nat → Int32) (x5 : Option Value), i + n = N → V 0 0 + n ≤ 20000 → jr_ V I W → jv_ok V → jb_J sc RX9 cX9_pass 6 (Option.none : Option Jvm.ClassFile.FieldType) false 7 0 0 10 [some (.ref 13), some (.int (nI N)), some (.int 0), some (.ref 25), some (.int (nI i)), x5] [] [jb_main imm Im Tm rowm stkm tpm, jb_sch13 I W T, s2, s3, s4, s5, s6, s7, s8, s9, s10, s11] (fun r h9 => r = none ∧ ∃ I9 W9 stk9, jr_ (jm_pa G false n (V, I 1)).1 I9 W9 ∧ I9 1 = (jm_pa G false n (V, I 1)).2 ∧ jr_f I W I9 W9 ∧ h9 = [jb_main imm Im Tm rowm stk9 tpm, jb_sch13 I9 W9 T, s2, s3, s4, s5, s6, s7, s8, s9, s10, s11]) := by
  intro n
  induction n with
  | zero =>
    intro i V I W stkm x5 hi h2 hr hk
    show jb_J _ RX9 cX9_pass 6 (Option.none : Option Jvm.ClassFile.FieldType) false 7 0 0 10 [some (.ref 13), some (.int (nI N)), some (.int 0), some (.ref 25), some (.int (nI i)), x5] [] [jb_main imm Im Tm rowm stkm tpm, jb_sch13 I W T, s2, s3, s4, s5, s6, s7, s8, s9, s10, s11] _
    refine jb_iload (pc' := 12) dX9_pass_10 rfl rfl ?_
    refine jb_iload_n (pc' := 13) dX9_pass_12 rfl rfl ?_
    refine jb_icmp_ge (tgt := 72) (pc' := 16) dX9_pass_13 (by decide) rfl (fun _ => ?_) (fun z => absurd (nI_le (a := N) (b := i) (by omega) (by omega)) z)
    refine jb_vret dX9_pass_72 ?_
    exact ⟨rfl, I, W, stkm, hr, rfl, jr_f.rf I W, rfl⟩
  | succ n ih =>
    intro i V I W stkm x5 hi h2 hr hk
    show jb_J _ RX9 cX9_pass 6 (Option.none : Option Jvm.ClassFile.FieldType) false 7 0 0 10 [some (.ref 13), some (.int (nI N)), some (.int 0), some (.ref 25), some (.int (nI i)), x5] [] [jb_main imm Im Tm rowm stkm tpm, jb_sch13 I W T, s2, s3, s4, s5, s6, s7, s8, s9, s10, s11] _
    refine jb_iload (pc' := 12) dX9_pass_10 rfl rfl ?_
    refine jb_iload_n (pc' := 13) dX9_pass_12 rfl rfl ?_
    refine jb_icmp_ge (tgt := 72) (pc' := 16) dX9_pass_13 (by decide) rfl (fun z => absurd z (nI_ge (a := i) (b := N) (by omega) (by omega))) (fun _ => ?_)
    refine jb_iconst (pc' := 17) 0 dX9_pass_16 (by decide) rfl ?_
    refine jb_istore_ (pc' := 19) dX9_pass_17 (by decide) (jb_at5 rfl) rfl ?_
    refine l_over0_13 imm Im rowm tpm Tm T hG hg N (nI i) _ (V 0 2) 0 V I W stkm (by omega) hr hk (fun I8 W8 stk8 x8 hr8 hz8 hf8 => ?_)
    obtain ⟨hk8, hs8⟩ := jv_cs hG false (V 0 2) 0 V (I 1) hk (by omega)
    show jb_J _ RX9 cX9_pass 6 (Option.none : Option Jvm.ClassFile.FieldType) false 7 0 0 52 [some (.ref 13), some (.int (nI N)), some (.int 0), some (.ref 25), some (.int (nI i)), x8] [] [jb_main imm Im Tm rowm stk8 tpm, jb_sch13 I8 W8 T, s2, s3, s4, s5, s6, s7, s8, s9, s10, s11] _
    refine jb_aload_n (pc' := 53) dX9_pass_52 rfl rfl ?_
    refine jb_callV (pc' := 56) (ci := 9) (q := 13) (As := []) (a2 := 0) (b2 := 0) wv_X9_125 rfl dX9_pass_53 (c_shoutDue_13 I8 W8 T hr8 hk8) rfl rfl ⟨by decide, Nat.le_of_eq (Nat.zero_add _), Nat.le_of_eq (Nat.zero_add _)⟩ (Nat.le_of_ble_eq_true rfl) rfl (fun r h9 hq => ?_)
    obtain ⟨rfl, I9, W9, hr9, hz9, hf9, rfl⟩ := hq
    obtain ⟨V7, hV7⟩ : ∃ X, jm_du (jm_cs G false (V 0 2) 0 (V, I 1)).1 = X := ⟨_, rfl⟩
    rw [hV7] at hr9
    have q0 := hk8.1
    obtain ⟨hk7, hd7⟩ := jv_du hk8
    have u7 := hd7 0 (by decide) (by decide)
    rw [hV7] at hk7 u7
    have u8 := hs8.1
    show jb_J _ RX9 cX9_pass 6 (Option.none : Option Jvm.ClassFile.FieldType) false 7 0 0 56 [some (.ref 13), some (.int (nI N)), some (.int 0), some (.ref 25), some (.int (nI i)), x8] [] [jb_main imm Im Tm rowm stk8 tpm, jb_sch13 I9 W9 T, s2, s3, s4, s5, s6, s7, s8, s9, s10, s11] _
    refine jb_aload_n (pc' := 57) dX9_pass_56 rfl rfl ?_
    refine jb_dup (pc' := 58) dX9_pass_57 rfl rfl ?_
    refine gf_X9_15 (pc' := 61) (v := .int (I9 0)) dX9_pass_58 rfl rfl rfl ?_
    refine jb_top (v := .int (I9 0)) (w := .int (nI (V7 0 0))) (jb_vI hr9.1) ?_
    refine jb_iconst (pc' := 62) 1 dX9_pass_61 (by decide) rfl ?_
    refine jb_iadd (pc' := 63) dX9_pass_62 rfl ?_
    refine jb_top (v := .int ((nI (V7 0 0)) + 1)) (w := .int (nI ((V7 0 0) + 1))) (jb_vI (nI_add _ 1)) ?_
    refine pf_X9_15 (pc' := 66) (h' := [jb_main imm Im Tm rowm stk8 tpm, jb_sch13 (upd I9 0 (nI ((V7 0 0) + 1))) W9 T, s2, s3, s4, s5, s6, s7, s8, s9, s10, s11]) dX9_pass_63 (fun _ => ⟨rfl, rfl⟩) rfl (Nat.le_of_ble_eq_true rfl) rfl rfl ?_
    refine jb_iinc_ (pc' := 69) (nI (i + 1)) dX9_pass_66 (by decide) rfl (jb_inc i 1) (jb_at4 rfl) rfl ?_
    refine jb_goto (pc' := 10) dX9_pass_69 (by decide) ?_
    have e9 : jm_pa G false (n + 1) (V, I 1) = jm_pa G false n (jv_up V7 0 0 (V7 0 0 + 1), (upd I9 0 (nI ((V7 0 0) + 1))) 1) := by
      rw [show (upd I9 0 (nI ((V7 0 0) + 1))) 1 = (jm_cs G false (V 0 2) 0 (V, I 1)).2 from (jb_une (by decide)).trans (hz9.trans hz8), ← hV7]
      rfl
    refine jb_J.mono (ih (i + 1) (jv_up V7 0 0 (V7 0 0 + 1)) (upd I9 0 (nI ((V7 0 0) + 1))) W9 stk8 _ (by omega) (by rw [jv_up_s]; omega) (jr_sec hr9 _) (jv_ok_sec hk7 (by omega))) (Nat.le_refl _) (Nat.le_refl _) (Nat.le_refl _) (fun r h9 hq => ?_)
    obtain ⟨rfl, I7, W7, stk7, hr7, hz7, hf7, rfl⟩ := hq
    exact ⟨rfl, I7, W7, stk7, by rw [e9]; exact hr7, by rw [e9]; exact hz7, hf8.tr (hf9.tr (jr_f.tr ⟨rfl, rfl, rfl, rfl⟩ hf7)), rfl⟩
set_option maxRecDepth 100000 in
set_option maxHeartbeats 4000000 in
theorem c_pass0_13 {sc : Nat × (Nat → Int32)} {s2 s3 s4 s5 s6 s7 s8 s9 s10 s11 : List va_E} {V : Nat → Nat → Nat} (imm : Int32) (Im rowm stkm tpm : Nat → Int32) (Tm : Nat → Value) (I : Nat → Int32) (W : Nat → Nat → Int32) (T : Nat → Value) (hr : jr_ V I W) (hk : jv_ok V) {G : jm_G} (hG : jm_Gok G) (hg : jG13 sc T s11 G) (N : Nat) (hN : N ≤ 10000) (h2 : V 0 0 + N ≤ 20000) : jb_C sc yX9_pass cX9_pass 6 (Option.none : Option Jvm.ClassFile.FieldType) 7 0 0 [.ref 13, .int (nI N), .int 0] [jb_main imm Im Tm rowm stkm tpm, jb_sch13 I W T, s2, s3, s4, s5, s6, s7, s8, s9, s10, s11] (fun r h9 => r = none ∧ ∃ I9 W9 stk9, jr_ (jm_pa G false N (V, I 1)).1 I9 W9 ∧ I9 1 = (jm_pa G false N (V, I 1)).2 ∧ jr_f I W I9 W9 ∧ h9 = [jb_main imm Im Tm rowm stk9 tpm, jb_sch13 I9 W9 T, s2, s3, s4, s5, s6, s7, s8, s9, s10, s11]) := by
  refine jb_CofJ (ini := false) (by decide +kernel) (fun h => by cases h) (Nat.le_of_ble_eq_true rfl) ?_
  show jb_J sc RX9 cX9_pass 6 (Option.none : Option Jvm.ClassFile.FieldType) false 7 0 0 0 [some (.ref 13), some (.int (nI N)), some (.int 0), none, none, none] [] [jb_main imm Im Tm rowm stkm tpm, jb_sch13 I W T, s2, s3, s4, s5, s6, s7, s8, s9, s10, s11] _
  refine jb_aload_n (pc' := 1) dX9_pass_0 rfl rfl ?_
  refine gf_X9_33 (pc' := 4) (v := .ref 19) dX9_pass_1 rfl rfl rfl ?_
  refine jb_iconst (pc' := 5) 5 dX9_pass_4 (by decide) rfl ?_
  refine jb_aaload (pc' := 6) (i9 := 5) (r := 25) (Or.inl rfl) dX9_pass_5 rfl jb_x5 (by decide) rfl rfl ?_
  refine jb_astore_n_ (pc' := 7) dX9_pass_6 (by decide) (jb_at3 rfl) rfl ?_
  refine jb_iconst (pc' := 8) 0 dX9_pass_7 (by decide) rfl ?_
  refine jb_istore_ (pc' := 10) dX9_pass_8 (by decide) (jb_at4 rfl) rfl ?_
  exact l_pass0_13 imm Im rowm tpm Tm T hG hg N hN N 0 V I W stkm _ (by omega) h2 hr hk
set_option maxRecDepth 100000 in
set_option maxHeartbeats 4000000 in
theorem l_over1_53 {sc : Nat × (Nat → Int32)} {s1 s2 s4 s5 s6 s7 s8 s9 s10 s11 : List va_E} (imm : Int32) (Im rowm tpm : Nat → Int32) (Tm : Nat → Value) (T : Nat → Value) {G : jm_G} (hG : jm_Gok G) (hg : jG53 sc T s11 G) (N : Nat) (i4 : Int32) (Q : Option Value → jb_H → Prop) : ∀ (n s : Nat) (V : Nat → Nat → Nat) (I : Nat → Int32) (W : Nat → Nat → Int32) (stkm : Nat → Int32), s + n = V 0 2 → jr_ V I W → jv_ok V → (∀ I9 W9 stk9 x5, jr_ (jm_cs G true n s (V, I 1)).1 I9 W9 → I9 1 = (jm_cs G true n s (V, I 1)).2 → jr_f I W I9 W9 → jb_J sc RX9 cX9_pass 6 (Option.none : Option Jvm.ClassFile.FieldType) false 7 0 0 52 [some (.ref 53), some (.int (nI N)), some (.int 1), some (.ref 65), some (.int i4), x5] [] [jb_main imm Im Tm rowm stk9 tpm, s1, s2, jb_sch53 I9 W9 T, s4, s5, s6, s7, s8, s9, s10, s11] Q) → jb_J sc RX9 cX9_pass 6 (Option.none : Option Jvm.ClassFile.FieldType) false 7 0 0 19 [some (.ref 53), some (.int (nI N)), some (.int 1), some (.ref 65), some (.int i4), some (.int (nI s))] [] [jb_main imm Im Tm rowm stkm tpm, s1, s2, jb_sch53 I W T, s4, s5, s6, s7, s8, s9, s10, s11] Q := by
  intro n
  induction n with
  | zero =>
    intro s V I W stkm hs hr hk hQ
    have hr0 := hr
    obtain ⟨r0, r2, r3, r4, a0, a1, a2, rv, rs, rd⟩ := hr
    obtain ⟨k0, k1, k2, k3, k4, k5, k6, k7, kv, ks, kd⟩ := hk
    show jb_J _ RX9 cX9_pass 6 (Option.none : Option Jvm.ClassFile.FieldType) false 7 0 0 19 [some (.ref 53), some (.int (nI N)), some (.int 1), some (.ref 65), some (.int i4), some (.int (nI s))] [] [jb_main imm Im Tm rowm stkm tpm, s1, s2, jb_sch53 I W T, s4, s5, s6, s7, s8, s9, s10, s11] _
    refine jb_iload (pc' := 21) dX9_pass_19 rfl rfl ?_
    refine jb_aload_n (pc' := 22) dX9_pass_21 rfl rfl ?_
    refine gf_X9_30 (pc' := 25) (v := .int (I 3)) dX9_pass_22 rfl rfl rfl ?_
    refine jb_top (v := .int (I 3)) (w := .int (nI (V 0 2))) (jb_vI r3) ?_
    refine jb_icmp_ge (tgt := 52) (pc' := 28) dX9_pass_25 (by decide) rfl (fun _ => ?_) (fun z => absurd (nI_le (a := V 0 2) (b := s) (by omega) (by omega)) z)
    exact hQ I W stkm _ hr0 rfl (jr_f.rf I W)
  | succ n ih =>
    intro s V I W stkm hs hr hk hQ
    have hr0 := hr
    have hk0 := hk
    obtain ⟨r0, r2, r3, r4, a0, a1, a2, rv, rs, rd⟩ := hr
    obtain ⟨k0, k1, k2, k3, k4, k5, k6, k7, kv, ks, kd⟩ := hk
    have q0 := ks s (by omega)
    show jb_J _ RX9 cX9_pass 6 (Option.none : Option Jvm.ClassFile.FieldType) false 7 0 0 19 [some (.ref 53), some (.int (nI N)), some (.int 1), some (.ref 65), some (.int i4), some (.int (nI s))] [] [jb_main imm Im Tm rowm stkm tpm, s1, s2, jb_sch53 I W T, s4, s5, s6, s7, s8, s9, s10, s11] _
    refine jb_iload (pc' := 21) dX9_pass_19 rfl rfl ?_
    refine jb_aload_n (pc' := 22) dX9_pass_21 rfl rfl ?_
    refine gf_X9_30 (pc' := 25) (v := .int (I 3)) dX9_pass_22 rfl rfl rfl ?_
    refine jb_top (v := .int (I 3)) (w := .int (nI (V 0 2))) (jb_vI r3) ?_
    refine jb_icmp_ge (tgt := 52) (pc' := 28) dX9_pass_25 (by decide) rfl (fun z => absurd z (nI_ge (a := s) (b := V 0 2) (by omega) (by omega))) (fun _ => ?_)
    refine jb_aload_n (pc' := 29) dX9_pass_28 rfl rfl ?_
    refine jb_iload (pc' := 31) dX9_pass_29 rfl rfl ?_
    refine jb_iaload (pc' := 32) (i9 := s) (f := (W 9)) dX9_pass_31 rfl (jb_ix_nI (by omega)) (by omega) rfl ?_
    refine jb_top (v := .int ((W 9) s)) (w := .int (nI (V 9 s))) (jb_vI (rs s (by omega)).2.2.2.2.2) ?_
    refine jb_aload_n (pc' := 33) dX9_pass_32 rfl rfl ?_
    refine gf_X9_15 (pc' := 36) (v := .int (I 0)) dX9_pass_33 rfl rfl rfl ?_
    refine jb_top (v := .int (I 0)) (w := .int (nI (V 0 0))) (jb_vI r0) ?_
    refine jb_icmp_ne (tgt := 46) (pc' := 39) dX9_pass_36 (by decide) rfl (fun hov => ?_) (fun hov => ?_)
    · have hov : ¬ (V 9 s) = (V 0 0) := fun z9 => hov ((nI_eq (a := (V 9 s)) (b := (V 0 0)) (by omega) (by omega)).mpr z9)
      refine jb_iinc_ (pc' := 49) (nI (s + 1)) dX9_pass_46 (by decide) rfl (jb_inc s 1) (jb_at5 rfl) rfl ?_
      refine jb_goto (pc' := 19) dX9_pass_49 (by decide) ?_
      have e9 : jm_cs G true (n + 1) s (V, I 1) = jm_cs G true n (s + 1) (V, I 1) := congrArg (jm_cs G true n (s + 1)) (if_neg hov)
      refine ih (s + 1) V I W stkm (by omega) hr0 hk0 (fun I7 W7 stk7 x5 hr7 hz7 hf7 => ?_)
      exact hQ I7 W7 stk7 x5 (by rw [e9]; exact hr7) (by rw [e9]; exact hz7) hf7
    · have hov : (V 9 s) = (V 0 0) := (nI_eq (a := (V 9 s)) (b := (V 0 0)) (by omega) (by omega)).mp hov
      refine jb_aload_n (pc' := 40) dX9_pass_39 rfl rfl ?_
      refine jb_iload (pc' := 42) dX9_pass_40 rfl rfl ?_
      refine jb_iload_n (pc' := 43) dX9_pass_42 rfl rfl ?_
      refine jb_callV (pc' := 46) (ci := 9) (q := 53) (As := [.int (nI s), .int 1]) (a2 := 0) (b2 := 0) wv_X9_121 rfl dX9_pass_43 (c_comeOver1_53 _ _ _ _ _ _ I W T hr0 hk0 hG hg s (by omega)) rfl rfl ⟨by decide, Nat.le_of_eq (Nat.zero_add _), Nat.le_of_eq (Nat.zero_add _)⟩ (Nat.le_of_ble_eq_true rfl) rfl (fun r h9 hq => ?_)
      obtain ⟨rfl, I9, W9, stk9, hr9, hz9, hf9, rfl⟩ := hq
      show jb_J _ RX9 cX9_pass 6 (Option.none : Option Jvm.ClassFile.FieldType) false 7 0 0 46 [some (.ref 53), some (.int (nI N)), some (.int 1), some (.ref 65), some (.int i4), some (.int (nI s))] [] [jb_main imm Im Tm rowm stk9 tpm, s1, s2, jb_sch53 I9 W9 T, s4, s5, s6, s7, s8, s9, s10, s11] _
      refine jb_iinc_ (pc' := 49) (nI (s + 1)) dX9_pass_46 (by decide) rfl (jb_inc s 1) (jb_at5 rfl) rfl ?_
      refine jb_goto (pc' := 19) dX9_pass_49 (by decide) ?_
      have e9 : jm_cs G true (n + 1) s (V, I 1) = jm_cs G true n (s + 1) ((jm_co G true s (V, I 1)).1, I9 1) := by
        rw [hz9]
        exact congrArg (jm_cs G true n (s + 1)) (if_pos hov)
      obtain ⟨hk9, hs9, -⟩ := jv_co hk0 hG true (I 1) (s := s) (by omega)
      refine ih (s + 1) (jm_co G true s (V, I 1)).1 I9 W9 stk9 (by rw [hs9.2.2.1]; omega) hr9 hk9 (fun I7 W7 stk7 x5 hr7 hz7 hf7 => ?_)
      exact hQ I7 W7 stk7 x5 (by rw [e9]; exact hr7) (by rw [e9]; exact hz7) (hf9.tr hf7)
set_option maxRecDepth 100000 in
set_option maxHeartbeats 4000000 in
theorem l_pass1_53 {sc : Nat × (Nat → Int32)} {s1 s2 s4 s5 s6 s7 s8 s9 s10 s11 : List va_E} (imm : Int32) (Im rowm tpm : Nat → Int32) (Tm : Nat → Value) (T : Nat → Value) {G : jm_G} (hG : jm_Gok G) (hg : jG53 sc T s11 G) (N : Nat) (hN : N ≤ 10000) : ∀ (n i : Nat) (V : Nat → Nat → Nat) (I : Nat → Int32) (W : Nat → Nat → Int32) (stkm : Nat → Int32) (x5 : Option Value), i + n = N → V 0 0 + n ≤ 20000 → jr_ V I W → jv_ok V → jb_J sc RX9 cX9_pass 6 (Option.none : Option Jvm.ClassFile.FieldType) false 7 0 0 10 [some (.ref 53), some (.int (nI N)), some (.int 1), some (.ref 65), some (.int (nI i)), x5] [] [jb_main imm Im Tm rowm stkm tpm, s1, s2, jb_sch53 I W T, s4, s5, s6, s7, s8, s9, s10, s11] (fun r h9 => r = none ∧ ∃ I9 W9 stk9, jr_ (jm_pa G true n (V, I 1)).1 I9 W9 ∧ I9 1 = (jm_pa G true n (V, I 1)).2 ∧ jr_f I W I9 W9 ∧ h9 = [jb_main imm Im Tm rowm stk9 tpm, s1, s2, jb_sch53 I9 W9 T, s4, s5, s6, s7, s8, s9, s10, s11]) := by
  intro n
  induction n with
  | zero =>
    intro i V I W stkm x5 hi h2 hr hk
    show jb_J _ RX9 cX9_pass 6 (Option.none : Option Jvm.ClassFile.FieldType) false 7 0 0 10 [some (.ref 53), some (.int (nI N)), some (.int 1), some (.ref 65), some (.int (nI i)), x5] [] [jb_main imm Im Tm rowm stkm tpm, s1, s2, jb_sch53 I W T, s4, s5, s6, s7, s8, s9, s10, s11] _
    refine jb_iload (pc' := 12) dX9_pass_10 rfl rfl ?_
    refine jb_iload_n (pc' := 13) dX9_pass_12 rfl rfl ?_
    refine jb_icmp_ge (tgt := 72) (pc' := 16) dX9_pass_13 (by decide) rfl (fun _ => ?_) (fun z => absurd (nI_le (a := N) (b := i) (by omega) (by omega)) z)
    refine jb_vret dX9_pass_72 ?_
    exact ⟨rfl, I, W, stkm, hr, rfl, jr_f.rf I W, rfl⟩
  | succ n ih =>
    intro i V I W stkm x5 hi h2 hr hk
    show jb_J _ RX9 cX9_pass 6 (Option.none : Option Jvm.ClassFile.FieldType) false 7 0 0 10 [some (.ref 53), some (.int (nI N)), some (.int 1), some (.ref 65), some (.int (nI i)), x5] [] [jb_main imm Im Tm rowm stkm tpm, s1, s2, jb_sch53 I W T, s4, s5, s6, s7, s8, s9, s10, s11] _
    refine jb_iload (pc' := 12) dX9_pass_10 rfl rfl ?_
    refine jb_iload_n (pc' := 13) dX9_pass_12 rfl rfl ?_
    refine jb_icmp_ge (tgt := 72) (pc' := 16) dX9_pass_13 (by decide) rfl (fun z => absurd z (nI_ge (a := i) (b := N) (by omega) (by omega))) (fun _ => ?_)
    refine jb_iconst (pc' := 17) 0 dX9_pass_16 (by decide) rfl ?_
    refine jb_istore_ (pc' := 19) dX9_pass_17 (by decide) (jb_at5 rfl) rfl ?_
    refine l_over1_53 imm Im rowm tpm Tm T hG hg N (nI i) _ (V 0 2) 0 V I W stkm (by omega) hr hk (fun I8 W8 stk8 x8 hr8 hz8 hf8 => ?_)
    obtain ⟨hk8, hs8⟩ := jv_cs hG true (V 0 2) 0 V (I 1) hk (by omega)
    show jb_J _ RX9 cX9_pass 6 (Option.none : Option Jvm.ClassFile.FieldType) false 7 0 0 52 [some (.ref 53), some (.int (nI N)), some (.int 1), some (.ref 65), some (.int (nI i)), x8] [] [jb_main imm Im Tm rowm stk8 tpm, s1, s2, jb_sch53 I8 W8 T, s4, s5, s6, s7, s8, s9, s10, s11] _
    refine jb_aload_n (pc' := 53) dX9_pass_52 rfl rfl ?_
    refine jb_callV (pc' := 56) (ci := 9) (q := 53) (As := []) (a2 := 0) (b2 := 0) wv_X9_125 rfl dX9_pass_53 (c_shoutDue_53 I8 W8 T hr8 hk8) rfl rfl ⟨by decide, Nat.le_of_eq (Nat.zero_add _), Nat.le_of_eq (Nat.zero_add _)⟩ (Nat.le_of_ble_eq_true rfl) rfl (fun r h9 hq => ?_)
    obtain ⟨rfl, I9, W9, hr9, hz9, hf9, rfl⟩ := hq
    obtain ⟨V7, hV7⟩ : ∃ X, jm_du (jm_cs G true (V 0 2) 0 (V, I 1)).1 = X := ⟨_, rfl⟩
    rw [hV7] at hr9
    have q0 := hk8.1
    obtain ⟨hk7, hd7⟩ := jv_du hk8
    have u7 := hd7 0 (by decide) (by decide)
    rw [hV7] at hk7 u7
    have u8 := hs8.1
    show jb_J _ RX9 cX9_pass 6 (Option.none : Option Jvm.ClassFile.FieldType) false 7 0 0 56 [some (.ref 53), some (.int (nI N)), some (.int 1), some (.ref 65), some (.int (nI i)), x8] [] [jb_main imm Im Tm rowm stk8 tpm, s1, s2, jb_sch53 I9 W9 T, s4, s5, s6, s7, s8, s9, s10, s11] _
    refine jb_aload_n (pc' := 57) dX9_pass_56 rfl rfl ?_
    refine jb_dup (pc' := 58) dX9_pass_57 rfl rfl ?_
    refine gf_X9_15 (pc' := 61) (v := .int (I9 0)) dX9_pass_58 rfl rfl rfl ?_
    refine jb_top (v := .int (I9 0)) (w := .int (nI (V7 0 0))) (jb_vI hr9.1) ?_
    refine jb_iconst (pc' := 62) 1 dX9_pass_61 (by decide) rfl ?_
    refine jb_iadd (pc' := 63) dX9_pass_62 rfl ?_
    refine jb_top (v := .int ((nI (V7 0 0)) + 1)) (w := .int (nI ((V7 0 0) + 1))) (jb_vI (nI_add _ 1)) ?_
    refine pf_X9_15 (pc' := 66) (h' := [jb_main imm Im Tm rowm stk8 tpm, s1, s2, jb_sch53 (upd I9 0 (nI ((V7 0 0) + 1))) W9 T, s4, s5, s6, s7, s8, s9, s10, s11]) dX9_pass_63 (fun _ => ⟨rfl, rfl⟩) rfl (Nat.le_of_ble_eq_true rfl) rfl rfl ?_
    refine jb_iinc_ (pc' := 69) (nI (i + 1)) dX9_pass_66 (by decide) rfl (jb_inc i 1) (jb_at4 rfl) rfl ?_
    refine jb_goto (pc' := 10) dX9_pass_69 (by decide) ?_
    have e9 : jm_pa G true (n + 1) (V, I 1) = jm_pa G true n (jv_up V7 0 0 (V7 0 0 + 1), (upd I9 0 (nI ((V7 0 0) + 1))) 1) := by
      rw [show (upd I9 0 (nI ((V7 0 0) + 1))) 1 = (jm_cs G true (V 0 2) 0 (V, I 1)).2 from (jb_une (by decide)).trans (hz9.trans hz8), ← hV7]
      rfl
    refine jb_J.mono (ih (i + 1) (jv_up V7 0 0 (V7 0 0 + 1)) (upd I9 0 (nI ((V7 0 0) + 1))) W9 stk8 _ (by omega) (by rw [jv_up_s]; omega) (jr_sec hr9 _) (jv_ok_sec hk7 (by omega))) (Nat.le_refl _) (Nat.le_refl _) (Nat.le_refl _) (fun r h9 hq => ?_)
    obtain ⟨rfl, I7, W7, stk7, hr7, hz7, hf7, rfl⟩ := hq
    exact ⟨rfl, I7, W7, stk7, by rw [e9]; exact hr7, by rw [e9]; exact hz7, hf8.tr (hf9.tr (jr_f.tr ⟨rfl, rfl, rfl, rfl⟩ hf7)), rfl⟩
set_option maxRecDepth 100000 in
set_option maxHeartbeats 4000000 in
theorem c_pass1_53 {sc : Nat × (Nat → Int32)} {s1 s2 s4 s5 s6 s7 s8 s9 s10 s11 : List va_E} {V : Nat → Nat → Nat} (imm : Int32) (Im rowm stkm tpm : Nat → Int32) (Tm : Nat → Value) (I : Nat → Int32) (W : Nat → Nat → Int32) (T : Nat → Value) (hr : jr_ V I W) (hk : jv_ok V) {G : jm_G} (hG : jm_Gok G) (hg : jG53 sc T s11 G) (N : Nat) (hN : N ≤ 10000) (h2 : V 0 0 + N ≤ 20000) : jb_C sc yX9_pass cX9_pass 6 (Option.none : Option Jvm.ClassFile.FieldType) 7 0 0 [.ref 53, .int (nI N), .int 1] [jb_main imm Im Tm rowm stkm tpm, s1, s2, jb_sch53 I W T, s4, s5, s6, s7, s8, s9, s10, s11] (fun r h9 => r = none ∧ ∃ I9 W9 stk9, jr_ (jm_pa G true N (V, I 1)).1 I9 W9 ∧ I9 1 = (jm_pa G true N (V, I 1)).2 ∧ jr_f I W I9 W9 ∧ h9 = [jb_main imm Im Tm rowm stk9 tpm, s1, s2, jb_sch53 I9 W9 T, s4, s5, s6, s7, s8, s9, s10, s11]) := by
  refine jb_CofJ (ini := false) (by decide +kernel) (fun h => by cases h) (Nat.le_of_ble_eq_true rfl) ?_
  show jb_J sc RX9 cX9_pass 6 (Option.none : Option Jvm.ClassFile.FieldType) false 7 0 0 0 [some (.ref 53), some (.int (nI N)), some (.int 1), none, none, none] [] [jb_main imm Im Tm rowm stkm tpm, s1, s2, jb_sch53 I W T, s4, s5, s6, s7, s8, s9, s10, s11] _
  refine jb_aload_n (pc' := 1) dX9_pass_0 rfl rfl ?_
  refine gf_X9_33 (pc' := 4) (v := .ref 59) dX9_pass_1 rfl rfl rfl ?_
  refine jb_iconst (pc' := 5) 5 dX9_pass_4 (by decide) rfl ?_
  refine jb_aaload (pc' := 6) (i9 := 5) (r := 65) (Or.inl rfl) dX9_pass_5 rfl jb_x5 (by decide) rfl rfl ?_
  refine jb_astore_n_ (pc' := 7) dX9_pass_6 (by decide) (jb_at3 rfl) rfl ?_
  refine jb_iconst (pc' := 8) 0 dX9_pass_7 (by decide) rfl ?_
  refine jb_istore_ (pc' := 10) dX9_pass_8 (by decide) (jb_at4 rfl) rfl ?_
  exact l_pass1_53 imm Im rowm tpm Tm T hG hg N hN N 0 V I W stkm _ (by omega) h2 hr hk
set_option maxRecDepth 100000 in
set_option maxHeartbeats 4000000 in
theorem l_over0_53 {sc : Nat × (Nat → Int32)} {s1 s2 s4 s5 s6 s7 s8 s9 s10 s11 : List va_E} (imm : Int32) (Im rowm tpm : Nat → Int32) (Tm : Nat → Value) (T : Nat → Value) {G : jm_G} (hG : jm_Gok G) (hg : jG53 sc T s11 G) (N : Nat) (i4 : Int32) (Q : Option Value → jb_H → Prop) : ∀ (n s : Nat) (V : Nat → Nat → Nat) (I : Nat → Int32) (W : Nat → Nat → Int32) (stkm : Nat → Int32), s + n = V 0 2 → jr_ V I W → jv_ok V → (∀ I9 W9 stk9 x5, jr_ (jm_cs G false n s (V, I 1)).1 I9 W9 → I9 1 = (jm_cs G false n s (V, I 1)).2 → jr_f I W I9 W9 → jb_J sc RX9 cX9_pass 6 (Option.none : Option Jvm.ClassFile.FieldType) false 7 0 0 52 [some (.ref 53), some (.int (nI N)), some (.int 0), some (.ref 65), some (.int i4), x5] [] [jb_main imm Im Tm rowm stk9 tpm, s1, s2, jb_sch53 I9 W9 T, s4, s5, s6, s7, s8, s9, s10, s11] Q) → jb_J sc RX9 cX9_pass 6 (Option.none : Option Jvm.ClassFile.FieldType) false 7 0 0 19 [some (.ref 53), some (.int (nI N)), some (.int 0), some (.ref 65), some (.int i4), some (.int (nI s))] [] [jb_main imm Im Tm rowm stkm tpm, s1, s2, jb_sch53 I W T, s4, s5, s6, s7, s8, s9, s10, s11] Q := by
  intro n
  induction n with
  | zero =>
    intro s V I W stkm hs hr hk hQ
    have hr0 := hr
    obtain ⟨r0, r2, r3, r4, a0, a1, a2, rv, rs, rd⟩ := hr
    obtain ⟨k0, k1, k2, k3, k4, k5, k6, k7, kv, ks, kd⟩ := hk
    show jb_J _ RX9 cX9_pass 6 (Option.none : Option Jvm.ClassFile.FieldType) false 7 0 0 19 [some (.ref 53), some (.int (nI N)), some (.int 0), some (.ref 65), some (.int i4), some (.int (nI s))] [] [jb_main imm Im Tm rowm stkm tpm, s1, s2, jb_sch53 I W T, s4, s5, s6, s7, s8, s9, s10, s11] _
    refine jb_iload (pc' := 21) dX9_pass_19 rfl rfl ?_
    refine jb_aload_n (pc' := 22) dX9_pass_21 rfl rfl ?_
    refine gf_X9_30 (pc' := 25) (v := .int (I 3)) dX9_pass_22 rfl rfl rfl ?_
    refine jb_top (v := .int (I 3)) (w := .int (nI (V 0 2))) (jb_vI r3) ?_
    refine jb_icmp_ge (tgt := 52) (pc' := 28) dX9_pass_25 (by decide) rfl (fun _ => ?_) (fun z => absurd (nI_le (a := V 0 2) (b := s) (by omega) (by omega)) z)
    exact hQ I W stkm _ hr0 rfl (jr_f.rf I W)
  | succ n ih =>
    intro s V I W stkm hs hr hk hQ
    have hr0 := hr
    have hk0 := hk
    obtain ⟨r0, r2, r3, r4, a0, a1, a2, rv, rs, rd⟩ := hr
    obtain ⟨k0, k1, k2, k3, k4, k5, k6, k7, kv, ks, kd⟩ := hk
    have q0 := ks s (by omega)
    show jb_J _ RX9 cX9_pass 6 (Option.none : Option Jvm.ClassFile.FieldType) false 7 0 0 19 [some (.ref 53), some (.int (nI N)), some (.int 0), some (.ref 65), some (.int i4), some (.int (nI s))] [] [jb_main imm Im Tm rowm stkm tpm, s1, s2, jb_sch53 I W T, s4, s5, s6, s7, s8, s9, s10, s11] _
    refine jb_iload (pc' := 21) dX9_pass_19 rfl rfl ?_
    refine jb_aload_n (pc' := 22) dX9_pass_21 rfl rfl ?_
    refine gf_X9_30 (pc' := 25) (v := .int (I 3)) dX9_pass_22 rfl rfl rfl ?_
    refine jb_top (v := .int (I 3)) (w := .int (nI (V 0 2))) (jb_vI r3) ?_
    refine jb_icmp_ge (tgt := 52) (pc' := 28) dX9_pass_25 (by decide) rfl (fun z => absurd z (nI_ge (a := s) (b := V 0 2) (by omega) (by omega))) (fun _ => ?_)
    refine jb_aload_n (pc' := 29) dX9_pass_28 rfl rfl ?_
    refine jb_iload (pc' := 31) dX9_pass_29 rfl rfl ?_
    refine jb_iaload (pc' := 32) (i9 := s) (f := (W 9)) dX9_pass_31 rfl (jb_ix_nI (by omega)) (by omega) rfl ?_
    refine jb_top (v := .int ((W 9) s)) (w := .int (nI (V 9 s))) (jb_vI (rs s (by omega)).2.2.2.2.2) ?_
    refine jb_aload_n (pc' := 33) dX9_pass_32 rfl rfl ?_
    refine gf_X9_15 (pc' := 36) (v := .int (I 0)) dX9_pass_33 rfl rfl rfl ?_
    refine jb_top (v := .int (I 0)) (w := .int (nI (V 0 0))) (jb_vI r0) ?_
    refine jb_icmp_ne (tgt := 46) (pc' := 39) dX9_pass_36 (by decide) rfl (fun hov => ?_) (fun hov => ?_)
    · have hov : ¬ (V 9 s) = (V 0 0) := fun z9 => hov ((nI_eq (a := (V 9 s)) (b := (V 0 0)) (by omega) (by omega)).mpr z9)
      refine jb_iinc_ (pc' := 49) (nI (s + 1)) dX9_pass_46 (by decide) rfl (jb_inc s 1) (jb_at5 rfl) rfl ?_
      refine jb_goto (pc' := 19) dX9_pass_49 (by decide) ?_
      have e9 : jm_cs G false (n + 1) s (V, I 1) = jm_cs G false n (s + 1) (V, I 1) := congrArg (jm_cs G false n (s + 1)) (if_neg hov)
      refine ih (s + 1) V I W stkm (by omega) hr0 hk0 (fun I7 W7 stk7 x5 hr7 hz7 hf7 => ?_)
      exact hQ I7 W7 stk7 x5 (by rw [e9]; exact hr7) (by rw [e9]; exact hz7) hf7
    · have hov : (V 9 s) = (V 0 0) := (nI_eq (a := (V 9 s)) (b := (V 0 0)) (by omega) (by omega)).mp hov
      refine jb_aload_n (pc' := 40) dX9_pass_39 rfl rfl ?_
      refine jb_iload (pc' := 42) dX9_pass_40 rfl rfl ?_
      refine jb_iload_n (pc' := 43) dX9_pass_42 rfl rfl ?_
      refine jb_callV (pc' := 46) (ci := 9) (q := 53) (As := [.int (nI s), .int 0]) (a2 := 0) (b2 := 0) wv_X9_121 rfl dX9_pass_43 (c_comeOver0_53 _ _ _ _ _ _ I W T hr0 hk0 hG hg s (by omega)) rfl rfl ⟨by decide, Nat.le_of_eq (Nat.zero_add _), Nat.le_of_eq (Nat.zero_add _)⟩ (Nat.le_of_ble_eq_true rfl) rfl (fun r h9 hq => ?_)
      obtain ⟨rfl, I9, W9, stk9, hr9, hz9, hf9, rfl⟩ := hq
      show jb_J _ RX9 cX9_pass 6 (Option.none : Option Jvm.ClassFile.FieldType) false 7 0 0 46 [some (.ref 53), some (.int (nI N)), some (.int 0), some (.ref 65), some (.int i4), some (.int (nI s))] [] [jb_main imm Im Tm rowm stk9 tpm, s1, s2, jb_sch53 I9 W9 T, s4, s5, s6, s7, s8, s9, s10, s11] _
      refine jb_iinc_ (pc' := 49) (nI (s + 1)) dX9_pass_46 (by decide) rfl (jb_inc s 1) (jb_at5 rfl) rfl ?_
      refine jb_goto (pc' := 19) dX9_pass_49 (by decide) ?_
      have e9 : jm_cs G false (n + 1) s (V, I 1) = jm_cs G false n (s + 1) ((jm_co G false s (V, I 1)).1, I9 1) := by
        rw [hz9]
        exact congrArg (jm_cs G false n (s + 1)) (if_pos hov)
      obtain ⟨hk9, hs9, -⟩ := jv_co hk0 hG false (I 1) (s := s) (by omega)
      refine ih (s + 1) (jm_co G false s (V, I 1)).1 I9 W9 stk9 (by rw [hs9.2.2.1]; omega) hr9 hk9 (fun I7 W7 stk7 x5 hr7 hz7 hf7 => ?_)
      exact hQ I7 W7 stk7 x5 (by rw [e9]; exact hr7) (by rw [e9]; exact hz7) (hf9.tr hf7)
set_option maxRecDepth 100000 in
set_option maxHeartbeats 4000000 in
theorem l_pass0_53 {sc : Nat × (Nat → Int32)} {s1 s2 s4 s5 s6 s7 s8 s9 s10 s11 : List va_E} (imm : Int32) (Im rowm tpm : Nat → Int32) (Tm : Nat → Value) (T : Nat → Value) {G : jm_G} (hG : jm_Gok G) (hg : jG53 sc T s11 G) (N : Nat) (hN : N ≤ 10000) : ∀ (n i : Nat) (V : Nat → Nat → Nat) (I : Nat → Int32) (W : Nat → Nat → Int32) (stkm : Nat → Int32) (x5 : Option Value), i + n = N → V 0 0 + n ≤ 20000 → jr_ V I W → jv_ok V → jb_J sc RX9 cX9_pass 6 (Option.none : Option Jvm.ClassFile.FieldType) false 7 0 0 10 [some (.ref 53), some (.int (nI N)), some (.int 0), some (.ref 65), some (.int (nI i)), x5] [] [jb_main imm Im Tm rowm stkm tpm, s1, s2, jb_sch53 I W T, s4, s5, s6, s7, s8, s9, s10, s11] (fun r h9 => r = none ∧ ∃ I9 W9 stk9, jr_ (jm_pa G false n (V, I 1)).1 I9 W9 ∧ I9 1 = (jm_pa G false n (V, I 1)).2 ∧ jr_f I W I9 W9 ∧ h9 = [jb_main imm Im Tm rowm stk9 tpm, s1, s2, jb_sch53 I9 W9 T, s4, s5, s6, s7, s8, s9, s10, s11]) := by
  intro n
  induction n with
  | zero =>
    intro i V I W stkm x5 hi h2 hr hk
    show jb_J _ RX9 cX9_pass 6 (Option.none : Option Jvm.ClassFile.FieldType) false 7 0 0 10 [some (.ref 53), some (.int (nI N)), some (.int 0), some (.ref 65), some (.int (nI i)), x5] [] [jb_main imm Im Tm rowm stkm tpm, s1, s2, jb_sch53 I W T, s4, s5, s6, s7, s8, s9, s10, s11] _
    refine jb_iload (pc' := 12) dX9_pass_10 rfl rfl ?_
    refine jb_iload_n (pc' := 13) dX9_pass_12 rfl rfl ?_
    refine jb_icmp_ge (tgt := 72) (pc' := 16) dX9_pass_13 (by decide) rfl (fun _ => ?_) (fun z => absurd (nI_le (a := N) (b := i) (by omega) (by omega)) z)
    refine jb_vret dX9_pass_72 ?_
    exact ⟨rfl, I, W, stkm, hr, rfl, jr_f.rf I W, rfl⟩
  | succ n ih =>
    intro i V I W stkm x5 hi h2 hr hk
    show jb_J _ RX9 cX9_pass 6 (Option.none : Option Jvm.ClassFile.FieldType) false 7 0 0 10 [some (.ref 53), some (.int (nI N)), some (.int 0), some (.ref 65), some (.int (nI i)), x5] [] [jb_main imm Im Tm rowm stkm tpm, s1, s2, jb_sch53 I W T, s4, s5, s6, s7, s8, s9, s10, s11] _
    refine jb_iload (pc' := 12) dX9_pass_10 rfl rfl ?_
    refine jb_iload_n (pc' := 13) dX9_pass_12 rfl rfl ?_
    refine jb_icmp_ge (tgt := 72) (pc' := 16) dX9_pass_13 (by decide) rfl (fun z => absurd z (nI_ge (a := i) (b := N) (by omega) (by omega))) (fun _ => ?_)
    refine jb_iconst (pc' := 17) 0 dX9_pass_16 (by decide) rfl ?_
    refine jb_istore_ (pc' := 19) dX9_pass_17 (by decide) (jb_at5 rfl) rfl ?_
    refine l_over0_53 imm Im rowm tpm Tm T hG hg N (nI i) _ (V 0 2) 0 V I W stkm (by omega) hr hk (fun I8 W8 stk8 x8 hr8 hz8 hf8 => ?_)
    obtain ⟨hk8, hs8⟩ := jv_cs hG false (V 0 2) 0 V (I 1) hk (by omega)
    show jb_J _ RX9 cX9_pass 6 (Option.none : Option Jvm.ClassFile.FieldType) false 7 0 0 52 [some (.ref 53), some (.int (nI N)), some (.int 0), some (.ref 65), some (.int (nI i)), x8] [] [jb_main imm Im Tm rowm stk8 tpm, s1, s2, jb_sch53 I8 W8 T, s4, s5, s6, s7, s8, s9, s10, s11] _
    refine jb_aload_n (pc' := 53) dX9_pass_52 rfl rfl ?_
    refine jb_callV (pc' := 56) (ci := 9) (q := 53) (As := []) (a2 := 0) (b2 := 0) wv_X9_125 rfl dX9_pass_53 (c_shoutDue_53 I8 W8 T hr8 hk8) rfl rfl ⟨by decide, Nat.le_of_eq (Nat.zero_add _), Nat.le_of_eq (Nat.zero_add _)⟩ (Nat.le_of_ble_eq_true rfl) rfl (fun r h9 hq => ?_)
    obtain ⟨rfl, I9, W9, hr9, hz9, hf9, rfl⟩ := hq
    obtain ⟨V7, hV7⟩ : ∃ X, jm_du (jm_cs G false (V 0 2) 0 (V, I 1)).1 = X := ⟨_, rfl⟩
    rw [hV7] at hr9
    have q0 := hk8.1
    obtain ⟨hk7, hd7⟩ := jv_du hk8
    have u7 := hd7 0 (by decide) (by decide)
    rw [hV7] at hk7 u7
    have u8 := hs8.1
    show jb_J _ RX9 cX9_pass 6 (Option.none : Option Jvm.ClassFile.FieldType) false 7 0 0 56 [some (.ref 53), some (.int (nI N)), some (.int 0), some (.ref 65), some (.int (nI i)), x8] [] [jb_main imm Im Tm rowm stk8 tpm, s1, s2, jb_sch53 I9 W9 T, s4, s5, s6, s7, s8, s9, s10, s11] _
    refine jb_aload_n (pc' := 57) dX9_pass_56 rfl rfl ?_
    refine jb_dup (pc' := 58) dX9_pass_57 rfl rfl ?_
    refine gf_X9_15 (pc' := 61) (v := .int (I9 0)) dX9_pass_58 rfl rfl rfl ?_
    refine jb_top (v := .int (I9 0)) (w := .int (nI (V7 0 0))) (jb_vI hr9.1) ?_
    refine jb_iconst (pc' := 62) 1 dX9_pass_61 (by decide) rfl ?_
    refine jb_iadd (pc' := 63) dX9_pass_62 rfl ?_
    refine jb_top (v := .int ((nI (V7 0 0)) + 1)) (w := .int (nI ((V7 0 0) + 1))) (jb_vI (nI_add _ 1)) ?_
    refine pf_X9_15 (pc' := 66) (h' := [jb_main imm Im Tm rowm stk8 tpm, s1, s2, jb_sch53 (upd I9 0 (nI ((V7 0 0) + 1))) W9 T, s4, s5, s6, s7, s8, s9, s10, s11]) dX9_pass_63 (fun _ => ⟨rfl, rfl⟩) rfl (Nat.le_of_ble_eq_true rfl) rfl rfl ?_
    refine jb_iinc_ (pc' := 69) (nI (i + 1)) dX9_pass_66 (by decide) rfl (jb_inc i 1) (jb_at4 rfl) rfl ?_
    refine jb_goto (pc' := 10) dX9_pass_69 (by decide) ?_
    have e9 : jm_pa G false (n + 1) (V, I 1) = jm_pa G false n (jv_up V7 0 0 (V7 0 0 + 1), (upd I9 0 (nI ((V7 0 0) + 1))) 1) := by
      rw [show (upd I9 0 (nI ((V7 0 0) + 1))) 1 = (jm_cs G false (V 0 2) 0 (V, I 1)).2 from (jb_une (by decide)).trans (hz9.trans hz8), ← hV7]
      rfl
    refine jb_J.mono (ih (i + 1) (jv_up V7 0 0 (V7 0 0 + 1)) (upd I9 0 (nI ((V7 0 0) + 1))) W9 stk8 _ (by omega) (by rw [jv_up_s]; omega) (jr_sec hr9 _) (jv_ok_sec hk7 (by omega))) (Nat.le_refl _) (Nat.le_refl _) (Nat.le_refl _) (fun r h9 hq => ?_)
    obtain ⟨rfl, I7, W7, stk7, hr7, hz7, hf7, rfl⟩ := hq
    exact ⟨rfl, I7, W7, stk7, by rw [e9]; exact hr7, by rw [e9]; exact hz7, hf8.tr (hf9.tr (jr_f.tr ⟨rfl, rfl, rfl, rfl⟩ hf7)), rfl⟩
set_option maxRecDepth 100000 in
set_option maxHeartbeats 4000000 in
theorem c_pass0_53 {sc : Nat × (Nat → Int32)} {s1 s2 s4 s5 s6 s7 s8 s9 s10 s11 : List va_E} {V : Nat → Nat → Nat} (imm : Int32) (Im rowm stkm tpm : Nat → Int32) (Tm : Nat → Value) (I : Nat → Int32) (W : Nat → Nat → Int32) (T : Nat → Value) (hr : jr_ V I W) (hk : jv_ok V) {G : jm_G} (hG : jm_Gok G) (hg : jG53 sc T s11 G) (N : Nat) (hN : N ≤ 10000) (h2 : V 0 0 + N ≤ 20000) : jb_C sc yX9_pass cX9_pass 6 (Option.none : Option Jvm.ClassFile.FieldType) 7 0 0 [.ref 53, .int (nI N), .int 0] [jb_main imm Im Tm rowm stkm tpm, s1, s2, jb_sch53 I W T, s4, s5, s6, s7, s8, s9, s10, s11] (fun r h9 => r = none ∧ ∃ I9 W9 stk9, jr_ (jm_pa G false N (V, I 1)).1 I9 W9 ∧ I9 1 = (jm_pa G false N (V, I 1)).2 ∧ jr_f I W I9 W9 ∧ h9 = [jb_main imm Im Tm rowm stk9 tpm, s1, s2, jb_sch53 I9 W9 T, s4, s5, s6, s7, s8, s9, s10, s11]) := by
  refine jb_CofJ (ini := false) (by decide +kernel) (fun h => by cases h) (Nat.le_of_ble_eq_true rfl) ?_
  show jb_J sc RX9 cX9_pass 6 (Option.none : Option Jvm.ClassFile.FieldType) false 7 0 0 0 [some (.ref 53), some (.int (nI N)), some (.int 0), none, none, none] [] [jb_main imm Im Tm rowm stkm tpm, s1, s2, jb_sch53 I W T, s4, s5, s6, s7, s8, s9, s10, s11] _
  refine jb_aload_n (pc' := 1) dX9_pass_0 rfl rfl ?_
  refine gf_X9_33 (pc' := 4) (v := .ref 59) dX9_pass_1 rfl rfl rfl ?_
  refine jb_iconst (pc' := 5) 5 dX9_pass_4 (by decide) rfl ?_
  refine jb_aaload (pc' := 6) (i9 := 5) (r := 65) (Or.inl rfl) dX9_pass_5 rfl jb_x5 (by decide) rfl rfl ?_
  refine jb_astore_n_ (pc' := 7) dX9_pass_6 (by decide) (jb_at3 rfl) rfl ?_
  refine jb_iconst (pc' := 8) 0 dX9_pass_7 (by decide) rfl ?_
  refine jb_istore_ (pc' := 10) dX9_pass_8 (by decide) (jb_at4 rfl) rfl ?_
  exact l_pass0_53 imm Im rowm tpm Tm T hG hg N hN N 0 V I W stkm _ (by omega) h2 hr hk
