theorem jd_o {V : Nat → Nat → Nat} {d : Nat → Int32} {i : Nat} {x : Int32} (h : jd_ V d) (hk : jv_ok V) (hi : (7 ≤ i ∧ i < 10) ∨ (10 + 3 * V 0 1 ≤ i ∧ i < 28) ∨ (28 + 6 * V 0 2 ≤ i ∧ i < 268) ∨ 268 + 4 * V 0 3 ≤ i) : jd_ V (upd d i x) := by
  obtain ⟨e0, e1, e2, e3, e4, e5, e6, dv, ds, dd⟩ := h
  obtain ⟨k0, k1, k2, k3, k4, k5, k6, k7, -, -, -⟩ := hk
  refine ⟨by rw [jb_une (by omega)]; exact e0, by rw [jb_une (by omega)]; exact e1, by rw [jb_une (by omega)]; exact e2, by rw [jb_une (by omega)]; exact e3, by rw [jb_une (by omega)]; exact e4, by rw [jb_une (by omega)]; exact e5, by rw [jb_une (by omega)]; exact e6, fun p hp => ?_, fun s hs => ?_, fun k hk => ?_⟩
  · rw [jb_une (by omega), jb_une (by omega), jb_une (by omega)]; exact dv p hp
  · rw [jb_une (by omega), jb_une (by omega), jb_une (by omega), jb_une (by omega), jb_une (by omega), jb_une (by omega)]; exact ds s hs
  · rw [jb_une (by omega), jb_une (by omega), jb_une (by omega), jb_une (by omega)]; exact dd k hk
set_option maxRecDepth 100000 in
set_option maxHeartbeats 4000000 in
theorem c_carriesOf {sc : Nat × (Nat → Int32)} {s0 s1 s2 s3 s4 s5 s6 s7 s8 s9 s11 : List va_E} {V : Nat → Nat → Nat} (I J d e kp nm : Nat → Int32) (W : Nat → Nat → Int32) (hd : jd_ V d) (hk : jv_ok V) {G : jm_G} (hG : jm_Gok G) {d0 : Nat → Int32} (hg : jGm sc d0 G) (hag : ∀ k, 316 ≤ k → d k = d0 k) (p w : Nat) (hp : p < V 0 1) (hw : w < 40) : jb_C sc yX12_carriesOf cX12_carriesOf 6 (Option.some .int) 46 0 0 [.ref 105, .int (nI p), .int (nI w)] [s0, s1, s2, s3, s4, s5, s6, s7, s8, s9, jb_mdl I J d e kp nm W, s11] (fun r h9 => r = some (.int (jm_ca V G p w)) ∧ ∃ J9 nm9, h9 = [s0, s1, s2, s3, s4, s5, s6, s7, s8, s9, jb_mdl I J9 d e kp nm9 W, s11]) := by
  refine jb_CofJ (ini := false) (by decide +kernel) (fun h => by cases h) (Nat.le_of_ble_eq_true rfl) ?_
  show jb_J sc RX12 cX12_carriesOf 6 (Option.some .int) false 46 0 0 0 [some (.ref 105), some (.int (nI p)), some (.int (nI w)), none, none, none] [] [s0, s1, s2, s3, s4, s5, s6, s7, s8, s9, jb_mdl I J d e kp nm W, s11] _
  have hd0 := hd
  have hk0 := hk
  obtain ⟨e0, e1, e2, e3, e4, e5, e6, dv, ds, dd⟩ := hd
  obtain ⟨k0, k1, k2, k3, k4, k5, k6, k7, kv, ks, kd⟩ := hk
  have q0 := kv p hp
  refine jb_aload_n (pc' := 1) dX12_carriesOf_0 rfl rfl ?_
  refine jb_iload_n (pc' := 2) dX12_carriesOf_1 rfl rfl ?_
  refine jb_iconst (pc' := 3) 0 dX12_carriesOf_2 (by decide) rfl ?_
  refine jb_callV (pc' := 6) (ci := 12) (q := 105) (As := [.int (nI p), .int 0]) (a2 := 0) (b2 := 0) wv_X12_145 rfl dX12_carriesOf_3 (c_ofk I J d e kp nm W hd0 hk0 p (by omega)) rfl rfl ⟨by decide, Nat.le_of_eq (Nat.zero_add _), Nat.le_of_eq (Nat.zero_add _)⟩ (Nat.le_of_ble_eq_true rfl) rfl (fun r h9 hq => ?_)
  rcases hq with ⟨rfl, ⟨ek, rfl⟩ | ⟨ek, rfl⟩ | ⟨ek, rfl⟩ | ⟨ek, rfl⟩ | ⟨ek, rfl⟩ | ⟨ek, rfl⟩ | ⟨ek, rfl⟩⟩
  · show jb_J _ RX12 cX12_carriesOf 6 (Option.some .int) false 46 0 0 6 [some (.ref 105), some (.int (nI p)), some (.int (nI w)), none, none, none] [.int 0] [s0, s1, s2, s3, s4, s5, s6, s7, s8, s9, jb_mdl I J d e kp nm W, s11] _
    refine jb_istore_n_ (pc' := 7) dX12_carriesOf_6 (by decide) (jb_at3 rfl) rfl ?_
    refine jb_iload_n (pc' := 8) dX12_carriesOf_7 rfl rfl ?_
    refine jb_iconst (pc' := 9) 2 dX12_carriesOf_8 (by decide) rfl ?_
    refine jb_irem (pc' := 10) dX12_carriesOf_9 (by decide) rfl ?_
    refine jb_top (v := .int ((nI w) - (nI w) / 2 * 2)) (w := .int (nI (w % 2))) (jb_vI (pk_rem (a := w) (d := 2) (by omega) (by omega) (by omega))) ?_
    refine jb_iconst (pc' := 11) 1 dX12_carriesOf_10 (by decide) rfl ?_
    refine jb_icmp_ne (tgt := 26) (pc' := 14) dX12_carriesOf_11 (by decide) rfl (fun c1 => ?_) (fun c1 => ?_)
    · have c1 : ¬ (w % 2) = 1 := fun z9 => c1 ((nI_eq (a := (w % 2)) (b := 1) (by omega) (by omega)).mpr z9)
      refine jb_bipush (pc' := 28) 9 dX12_carriesOf_26 (by decide) rfl ?_
      refine jb_istore_ (pc' := 30) dX12_carriesOf_28 (by decide) (jb_at4 rfl) rfl ?_
      refine jb_iload_n (pc' := 31) dX12_carriesOf_30 rfl rfl ?_
      refine jb_iconst (pc' := 32) 3 dX12_carriesOf_31 (by decide) rfl ?_
      refine jb_icmp_ne (tgt := 40) (pc' := 35) dX12_carriesOf_32 (by decide) rfl (fun _ => ?_) (fun z => absurd z (by decide))
      refine jb_iload_n (pc' := 41) dX12_carriesOf_40 rfl rfl ?_
      refine jb_bipush (pc' := 43) 6 dX12_carriesOf_41 (by decide) rfl ?_
      refine jb_icmp_ne (tgt := 58) (pc' := 46) dX12_carriesOf_43 (by decide) rfl (fun _ => ?_) (fun z => absurd z (by decide))
      refine jb_iload_n (pc' := 59) dX12_carriesOf_58 rfl rfl ?_
      refine jb_iconst (pc' := 60) 4 dX12_carriesOf_59 (by decide) rfl ?_
      refine jb_icmp_ne (tgt := 77) (pc' := 63) dX12_carriesOf_60 (by decide) rfl (fun _ => ?_) (fun z => absurd z (by decide))
      refine jb_iload_n (pc' := 78) dX12_carriesOf_77 rfl rfl ?_
      refine jb_iconst (pc' := 79) 5 dX12_carriesOf_78 (by decide) rfl ?_
      refine jb_icmp_ne (tgt := 89) (pc' := 82) dX12_carriesOf_79 (by decide) rfl (fun _ => ?_) (fun z => absurd z (by decide))
      refine jb_iload (pc' := 91) dX12_carriesOf_89 rfl rfl ?_
      refine jb_istore_ (pc' := 93) dX12_carriesOf_91 (by decide) (jb_at5 rfl) rfl ?_
      refine jb_iload (pc' := 95) dX12_carriesOf_93 rfl rfl ?_
      refine jb_aload_n (pc' := 96) dX12_carriesOf_95 rfl rfl ?_
      refine jb_iconst (pc' := 97) 0 dX12_carriesOf_96 (by decide) rfl ?_
      refine jb_iload_n (pc' := 98) dX12_carriesOf_97 rfl rfl ?_
      refine jb_aload_n (pc' := 99) dX12_carriesOf_98 rfl rfl ?_
      refine gf_X12_7 (pc' := 102) (v := .ref 106) dX12_carriesOf_99 rfl rfl rfl ?_
      refine jb_iconst (pc' := 103) 1 dX12_carriesOf_102 (by decide) rfl ?_
      refine jb_iaload (pc' := 104) (i9 := 1) (f := d) dX12_carriesOf_103 rfl jb_x1 (by decide) rfl ?_
      refine jb_top (v := .int (d 1)) (w := .int (nI (V 0 5))) (jb_vI e1) ?_
      refine jb_aload_n (pc' := 105) dX12_carriesOf_104 rfl rfl ?_
      refine gf_X12_7 (pc' := 108) (v := .ref 106) dX12_carriesOf_105 rfl rfl rfl ?_
      refine jb_iconst (pc' := 109) 2 dX12_carriesOf_108 (by decide) rfl ?_
      refine jb_iaload (pc' := 110) (i9 := 2) (f := d) dX12_carriesOf_109 rfl jb_x2 (by decide) rfl ?_
      refine jb_top (v := .int (d 2)) (w := .int (nI (V 0 6))) (jb_vI e2) ?_
      refine jb_iload_n (pc' := 111) dX12_carriesOf_110 rfl rfl ?_
      refine jb_callV (pc' := 114) (ci := 12) (q := 105) (As := [.int 0, .int (nI w), .int (nI (V 0 5)), .int (nI (V 0 6)), .int 0]) (a2 := 0) (b2 := 0) wv_X12_133 rfl dX12_carriesOf_111 (hg _ _ _ _ _ _ _ _ _ _ _ I J d e kp nm W 0 (nI w) (nI (V 0 5)) (nI (V 0 6)) 0 (by decide) hag) rfl rfl ⟨by decide, Nat.le_of_eq (Nat.zero_add _), Nat.le_of_eq (Nat.zero_add _)⟩ (Nat.le_of_ble_eq_true rfl) rfl (fun r h9 hq => ?_)
      obtain ⟨rfl, J9, nm9, rfl⟩ := hq
      show jb_J _ RX12 cX12_carriesOf 6 (Option.some .int) false 46 0 0 114 [some (.ref 105), some (.int (nI p)), some (.int (nI w)), some (.int 0), some (.int 9), some (.int 9)] [.int (G 0 (nI w) (nI (V 0 5)) (nI (V 0 6)) 0), .int 9] [s0, s1, s2, s3, s4, s5, s6, s7, s8, s9, jb_mdl I J9 d e kp nm9 W, s11] _
      refine jb_iadd (pc' := 115) dX12_carriesOf_114 rfl ?_
      refine jb_iconst (pc' := 116) 0 dX12_carriesOf_115 (by decide) rfl ?_
      refine jb_bipush (pc' := 118) 10 dX12_carriesOf_116 (by decide) rfl ?_
      refine jb_callS (pc' := 121) (As := [.int (9 + (G 0 (nI w) (nI (V 0 5)) (nI (V 0 6)) 0)), .int 0, .int 10]) (a2 := 0) (b2 := 0) wv_X12_130 dX12_carriesOf_118 (c_held _ (9 + (G 0 (nI w) (nI (V 0 5)) (nI (V 0 6)) 0)) 0 10) rfl ⟨by decide, Nat.le_of_eq (Nat.zero_add _), Nat.le_of_eq (Nat.zero_add _)⟩ (Nat.le_of_ble_eq_true rfl) rfl (fun r h9 hq => ?_)
      obtain ⟨rfl, rfl⟩ := hq
      show jb_J _ RX12 cX12_carriesOf 6 (Option.some .int) false 46 0 0 121 [some (.ref 105), some (.int (nI p)), some (.int (nI w)), some (.int 0), some (.int 9), some (.int 9)] [.int (jm_cl 0 10 (9 + (G 0 (nI w) (nI (V 0 5)) (nI (V 0 6)) 0)))] [s0, s1, s2, s3, s4, s5, s6, s7, s8, s9, jb_mdl I J9 d e kp nm9 W, s11] _
      refine jb_iret dX12_carriesOf_121 rfl ?_
      exact ⟨congrArg (fun y => some (Value.int y)) (by unfold jm_ca; rw [ek, show jm_owk 0 (V 2 p) (V 0 6) w = jm_pl (V 0 6) w from rfl, show jm_pl (V 0 6) w = 9 from if_pos (by omega)]; rfl), _, _, rfl⟩
    · have c1 : (w % 2) = 1 := (nI_eq (a := (w % 2)) (b := 1) (by omega) (by omega)).mp c1
      refine jb_bipush (pc' := 16) 9 dX12_carriesOf_14 (by decide) rfl ?_
      refine jb_aload_n (pc' := 17) dX12_carriesOf_16 rfl rfl ?_
      refine gf_X12_7 (pc' := 20) (v := .ref 106) dX12_carriesOf_17 rfl rfl rfl ?_
      refine jb_iconst (pc' := 21) 2 dX12_carriesOf_20 (by decide) rfl ?_
      refine jb_iaload (pc' := 22) (i9 := 2) (f := d) dX12_carriesOf_21 rfl jb_x2 (by decide) rfl ?_
      refine jb_top (v := .int (d 2)) (w := .int (nI (V 0 6))) (jb_vI e2) ?_
      refine jb_isub (pc' := 23) dX12_carriesOf_22 rfl ?_
      refine jb_goto (pc' := 28) dX12_carriesOf_23 (by decide) ?_
      refine jb_istore_ (pc' := 30) dX12_carriesOf_28 (by decide) (jb_at4 rfl) rfl ?_
      refine jb_iload_n (pc' := 31) dX12_carriesOf_30 rfl rfl ?_
      refine jb_iconst (pc' := 32) 3 dX12_carriesOf_31 (by decide) rfl ?_
      refine jb_icmp_ne (tgt := 40) (pc' := 35) dX12_carriesOf_32 (by decide) rfl (fun _ => ?_) (fun z => absurd z (by decide))
      refine jb_iload_n (pc' := 41) dX12_carriesOf_40 rfl rfl ?_
      refine jb_bipush (pc' := 43) 6 dX12_carriesOf_41 (by decide) rfl ?_
      refine jb_icmp_ne (tgt := 58) (pc' := 46) dX12_carriesOf_43 (by decide) rfl (fun _ => ?_) (fun z => absurd z (by decide))
      refine jb_iload_n (pc' := 59) dX12_carriesOf_58 rfl rfl ?_
      refine jb_iconst (pc' := 60) 4 dX12_carriesOf_59 (by decide) rfl ?_
      refine jb_icmp_ne (tgt := 77) (pc' := 63) dX12_carriesOf_60 (by decide) rfl (fun _ => ?_) (fun z => absurd z (by decide))
      refine jb_iload_n (pc' := 78) dX12_carriesOf_77 rfl rfl ?_
      refine jb_iconst (pc' := 79) 5 dX12_carriesOf_78 (by decide) rfl ?_
      refine jb_icmp_ne (tgt := 89) (pc' := 82) dX12_carriesOf_79 (by decide) rfl (fun _ => ?_) (fun z => absurd z (by decide))
      refine jb_iload (pc' := 91) dX12_carriesOf_89 rfl rfl ?_
      refine jb_istore_ (pc' := 93) dX12_carriesOf_91 (by decide) (jb_at5 rfl) rfl ?_
      refine jb_iload (pc' := 95) dX12_carriesOf_93 rfl rfl ?_
      refine jb_aload_n (pc' := 96) dX12_carriesOf_95 rfl rfl ?_
      refine jb_iconst (pc' := 97) 0 dX12_carriesOf_96 (by decide) rfl ?_
      refine jb_iload_n (pc' := 98) dX12_carriesOf_97 rfl rfl ?_
      refine jb_aload_n (pc' := 99) dX12_carriesOf_98 rfl rfl ?_
      refine gf_X12_7 (pc' := 102) (v := .ref 106) dX12_carriesOf_99 rfl rfl rfl ?_
      refine jb_iconst (pc' := 103) 1 dX12_carriesOf_102 (by decide) rfl ?_
      refine jb_iaload (pc' := 104) (i9 := 1) (f := d) dX12_carriesOf_103 rfl jb_x1 (by decide) rfl ?_
      refine jb_top (v := .int (d 1)) (w := .int (nI (V 0 5))) (jb_vI e1) ?_
      refine jb_aload_n (pc' := 105) dX12_carriesOf_104 rfl rfl ?_
      refine gf_X12_7 (pc' := 108) (v := .ref 106) dX12_carriesOf_105 rfl rfl rfl ?_
      refine jb_iconst (pc' := 109) 2 dX12_carriesOf_108 (by decide) rfl ?_
      refine jb_iaload (pc' := 110) (i9 := 2) (f := d) dX12_carriesOf_109 rfl jb_x2 (by decide) rfl ?_
      refine jb_top (v := .int (d 2)) (w := .int (nI (V 0 6))) (jb_vI e2) ?_
      refine jb_iload_n (pc' := 111) dX12_carriesOf_110 rfl rfl ?_
      refine jb_callV (pc' := 114) (ci := 12) (q := 105) (As := [.int 0, .int (nI w), .int (nI (V 0 5)), .int (nI (V 0 6)), .int 0]) (a2 := 0) (b2 := 0) wv_X12_133 rfl dX12_carriesOf_111 (hg _ _ _ _ _ _ _ _ _ _ _ I J d e kp nm W 0 (nI w) (nI (V 0 5)) (nI (V 0 6)) 0 (by decide) hag) rfl rfl ⟨by decide, Nat.le_of_eq (Nat.zero_add _), Nat.le_of_eq (Nat.zero_add _)⟩ (Nat.le_of_ble_eq_true rfl) rfl (fun r h9 hq => ?_)
      obtain ⟨rfl, J9, nm9, rfl⟩ := hq
      show jb_J _ RX12 cX12_carriesOf 6 (Option.some .int) false 46 0 0 114 [some (.ref 105), some (.int (nI p)), some (.int (nI w)), some (.int 0), some (.int (9 - (nI (V 0 6)))), some (.int (9 - (nI (V 0 6))))] [.int (G 0 (nI w) (nI (V 0 5)) (nI (V 0 6)) 0), .int (9 - (nI (V 0 6)))] [s0, s1, s2, s3, s4, s5, s6, s7, s8, s9, jb_mdl I J9 d e kp nm9 W, s11] _
      refine jb_iadd (pc' := 115) dX12_carriesOf_114 rfl ?_
      refine jb_iconst (pc' := 116) 0 dX12_carriesOf_115 (by decide) rfl ?_
      refine jb_bipush (pc' := 118) 10 dX12_carriesOf_116 (by decide) rfl ?_
      refine jb_callS (pc' := 121) (As := [.int ((9 - (nI (V 0 6))) + (G 0 (nI w) (nI (V 0 5)) (nI (V 0 6)) 0)), .int 0, .int 10]) (a2 := 0) (b2 := 0) wv_X12_130 dX12_carriesOf_118 (c_held _ ((9 - (nI (V 0 6))) + (G 0 (nI w) (nI (V 0 5)) (nI (V 0 6)) 0)) 0 10) rfl ⟨by decide, Nat.le_of_eq (Nat.zero_add _), Nat.le_of_eq (Nat.zero_add _)⟩ (Nat.le_of_ble_eq_true rfl) rfl (fun r h9 hq => ?_)
      obtain ⟨rfl, rfl⟩ := hq
      show jb_J _ RX12 cX12_carriesOf 6 (Option.some .int) false 46 0 0 121 [some (.ref 105), some (.int (nI p)), some (.int (nI w)), some (.int 0), some (.int (9 - (nI (V 0 6)))), some (.int (9 - (nI (V 0 6))))] [.int (jm_cl 0 10 ((9 - (nI (V 0 6))) + (G 0 (nI w) (nI (V 0 5)) (nI (V 0 6)) 0)))] [s0, s1, s2, s3, s4, s5, s6, s7, s8, s9, jb_mdl I J9 d e kp nm9 W, s11] _
      refine jb_iret dX12_carriesOf_121 rfl ?_
      exact ⟨congrArg (fun y => some (Value.int y)) (by unfold jm_ca; rw [ek, show jm_owk 0 (V 2 p) (V 0 6) w = jm_pl (V 0 6) w from rfl, show jm_pl (V 0 6) w = 9 - nI (V 0 6) from if_neg (by omega)]; rfl), _, _, rfl⟩
  · show jb_J _ RX12 cX12_carriesOf 6 (Option.some .int) false 46 0 0 6 [some (.ref 105), some (.int (nI p)), some (.int (nI w)), none, none, none] [.int 1] [s0, s1, s2, s3, s4, s5, s6, s7, s8, s9, jb_mdl I J d e kp nm W, s11] _
    refine jb_istore_n_ (pc' := 7) dX12_carriesOf_6 (by decide) (jb_at3 rfl) rfl ?_
    refine jb_iload_n (pc' := 8) dX12_carriesOf_7 rfl rfl ?_
    refine jb_iconst (pc' := 9) 2 dX12_carriesOf_8 (by decide) rfl ?_
    refine jb_irem (pc' := 10) dX12_carriesOf_9 (by decide) rfl ?_
    refine jb_top (v := .int ((nI w) - (nI w) / 2 * 2)) (w := .int (nI (w % 2))) (jb_vI (pk_rem (a := w) (d := 2) (by omega) (by omega) (by omega))) ?_
    refine jb_iconst (pc' := 11) 1 dX12_carriesOf_10 (by decide) rfl ?_
    refine jb_icmp_ne (tgt := 26) (pc' := 14) dX12_carriesOf_11 (by decide) rfl (fun c10 => ?_) (fun c10 => ?_)
    · have c10 : ¬ (w % 2) = 1 := fun z9 => c10 ((nI_eq (a := (w % 2)) (b := 1) (by omega) (by omega)).mpr z9)
      refine jb_bipush (pc' := 28) 9 dX12_carriesOf_26 (by decide) rfl ?_
      refine jb_istore_ (pc' := 30) dX12_carriesOf_28 (by decide) (jb_at4 rfl) rfl ?_
      refine jb_iload_n (pc' := 31) dX12_carriesOf_30 rfl rfl ?_
      refine jb_iconst (pc' := 32) 3 dX12_carriesOf_31 (by decide) rfl ?_
      refine jb_icmp_ne (tgt := 40) (pc' := 35) dX12_carriesOf_32 (by decide) rfl (fun _ => ?_) (fun z => absurd z (by decide))
      refine jb_iload_n (pc' := 41) dX12_carriesOf_40 rfl rfl ?_
      refine jb_bipush (pc' := 43) 6 dX12_carriesOf_41 (by decide) rfl ?_
      refine jb_icmp_ne (tgt := 58) (pc' := 46) dX12_carriesOf_43 (by decide) rfl (fun _ => ?_) (fun z => absurd z (by decide))
      refine jb_iload_n (pc' := 59) dX12_carriesOf_58 rfl rfl ?_
      refine jb_iconst (pc' := 60) 4 dX12_carriesOf_59 (by decide) rfl ?_
      refine jb_icmp_ne (tgt := 77) (pc' := 63) dX12_carriesOf_60 (by decide) rfl (fun _ => ?_) (fun z => absurd z (by decide))
      refine jb_iload_n (pc' := 78) dX12_carriesOf_77 rfl rfl ?_
      refine jb_iconst (pc' := 79) 5 dX12_carriesOf_78 (by decide) rfl ?_
      refine jb_icmp_ne (tgt := 89) (pc' := 82) dX12_carriesOf_79 (by decide) rfl (fun _ => ?_) (fun z => absurd z (by decide))
      refine jb_iload (pc' := 91) dX12_carriesOf_89 rfl rfl ?_
      refine jb_istore_ (pc' := 93) dX12_carriesOf_91 (by decide) (jb_at5 rfl) rfl ?_
      refine jb_iload (pc' := 95) dX12_carriesOf_93 rfl rfl ?_
      refine jb_aload_n (pc' := 96) dX12_carriesOf_95 rfl rfl ?_
      refine jb_iconst (pc' := 97) 0 dX12_carriesOf_96 (by decide) rfl ?_
      refine jb_iload_n (pc' := 98) dX12_carriesOf_97 rfl rfl ?_
      refine jb_aload_n (pc' := 99) dX12_carriesOf_98 rfl rfl ?_
      refine gf_X12_7 (pc' := 102) (v := .ref 106) dX12_carriesOf_99 rfl rfl rfl ?_
      refine jb_iconst (pc' := 103) 1 dX12_carriesOf_102 (by decide) rfl ?_
      refine jb_iaload (pc' := 104) (i9 := 1) (f := d) dX12_carriesOf_103 rfl jb_x1 (by decide) rfl ?_
      refine jb_top (v := .int (d 1)) (w := .int (nI (V 0 5))) (jb_vI e1) ?_
      refine jb_aload_n (pc' := 105) dX12_carriesOf_104 rfl rfl ?_
      refine gf_X12_7 (pc' := 108) (v := .ref 106) dX12_carriesOf_105 rfl rfl rfl ?_
      refine jb_iconst (pc' := 109) 2 dX12_carriesOf_108 (by decide) rfl ?_
      refine jb_iaload (pc' := 110) (i9 := 2) (f := d) dX12_carriesOf_109 rfl jb_x2 (by decide) rfl ?_
      refine jb_top (v := .int (d 2)) (w := .int (nI (V 0 6))) (jb_vI e2) ?_
      refine jb_iload_n (pc' := 111) dX12_carriesOf_110 rfl rfl ?_
      refine jb_callV (pc' := 114) (ci := 12) (q := 105) (As := [.int 0, .int (nI w), .int (nI (V 0 5)), .int (nI (V 0 6)), .int 1]) (a2 := 0) (b2 := 0) wv_X12_133 rfl dX12_carriesOf_111 (hg _ _ _ _ _ _ _ _ _ _ _ I J d e kp nm W 0 (nI w) (nI (V 0 5)) (nI (V 0 6)) 1 (by decide) hag) rfl rfl ⟨by decide, Nat.le_of_eq (Nat.zero_add _), Nat.le_of_eq (Nat.zero_add _)⟩ (Nat.le_of_ble_eq_true rfl) rfl (fun r h9 hq => ?_)
      obtain ⟨rfl, J9, nm9, rfl⟩ := hq
      show jb_J _ RX12 cX12_carriesOf 6 (Option.some .int) false 46 0 0 114 [some (.ref 105), some (.int (nI p)), some (.int (nI w)), some (.int 1), some (.int 9), some (.int 9)] [.int (G 0 (nI w) (nI (V 0 5)) (nI (V 0 6)) 1), .int 9] [s0, s1, s2, s3, s4, s5, s6, s7, s8, s9, jb_mdl I J9 d e kp nm9 W, s11] _
      refine jb_iadd (pc' := 115) dX12_carriesOf_114 rfl ?_
      refine jb_iconst (pc' := 116) 0 dX12_carriesOf_115 (by decide) rfl ?_
      refine jb_bipush (pc' := 118) 10 dX12_carriesOf_116 (by decide) rfl ?_
      refine jb_callS (pc' := 121) (As := [.int (9 + (G 0 (nI w) (nI (V 0 5)) (nI (V 0 6)) 1)), .int 0, .int 10]) (a2 := 0) (b2 := 0) wv_X12_130 dX12_carriesOf_118 (c_held _ (9 + (G 0 (nI w) (nI (V 0 5)) (nI (V 0 6)) 1)) 0 10) rfl ⟨by decide, Nat.le_of_eq (Nat.zero_add _), Nat.le_of_eq (Nat.zero_add _)⟩ (Nat.le_of_ble_eq_true rfl) rfl (fun r h9 hq => ?_)
      obtain ⟨rfl, rfl⟩ := hq
      show jb_J _ RX12 cX12_carriesOf 6 (Option.some .int) false 46 0 0 121 [some (.ref 105), some (.int (nI p)), some (.int (nI w)), some (.int 1), some (.int 9), some (.int 9)] [.int (jm_cl 0 10 (9 + (G 0 (nI w) (nI (V 0 5)) (nI (V 0 6)) 1)))] [s0, s1, s2, s3, s4, s5, s6, s7, s8, s9, jb_mdl I J9 d e kp nm9 W, s11] _
      refine jb_iret dX12_carriesOf_121 rfl ?_
      exact ⟨congrArg (fun y => some (Value.int y)) (by unfold jm_ca; rw [ek, show jm_owk 1 (V 2 p) (V 0 6) w = jm_pl (V 0 6) w from rfl, show jm_pl (V 0 6) w = 9 from if_pos (by omega)]; rfl), _, _, rfl⟩
    · have c10 : (w % 2) = 1 := (nI_eq (a := (w % 2)) (b := 1) (by omega) (by omega)).mp c10
      refine jb_bipush (pc' := 16) 9 dX12_carriesOf_14 (by decide) rfl ?_
      refine jb_aload_n (pc' := 17) dX12_carriesOf_16 rfl rfl ?_
      refine gf_X12_7 (pc' := 20) (v := .ref 106) dX12_carriesOf_17 rfl rfl rfl ?_
      refine jb_iconst (pc' := 21) 2 dX12_carriesOf_20 (by decide) rfl ?_
      refine jb_iaload (pc' := 22) (i9 := 2) (f := d) dX12_carriesOf_21 rfl jb_x2 (by decide) rfl ?_
      refine jb_top (v := .int (d 2)) (w := .int (nI (V 0 6))) (jb_vI e2) ?_
      refine jb_isub (pc' := 23) dX12_carriesOf_22 rfl ?_
      refine jb_goto (pc' := 28) dX12_carriesOf_23 (by decide) ?_
      refine jb_istore_ (pc' := 30) dX12_carriesOf_28 (by decide) (jb_at4 rfl) rfl ?_
      refine jb_iload_n (pc' := 31) dX12_carriesOf_30 rfl rfl ?_
      refine jb_iconst (pc' := 32) 3 dX12_carriesOf_31 (by decide) rfl ?_
      refine jb_icmp_ne (tgt := 40) (pc' := 35) dX12_carriesOf_32 (by decide) rfl (fun _ => ?_) (fun z => absurd z (by decide))
      refine jb_iload_n (pc' := 41) dX12_carriesOf_40 rfl rfl ?_
      refine jb_bipush (pc' := 43) 6 dX12_carriesOf_41 (by decide) rfl ?_
      refine jb_icmp_ne (tgt := 58) (pc' := 46) dX12_carriesOf_43 (by decide) rfl (fun _ => ?_) (fun z => absurd z (by decide))
      refine jb_iload_n (pc' := 59) dX12_carriesOf_58 rfl rfl ?_
      refine jb_iconst (pc' := 60) 4 dX12_carriesOf_59 (by decide) rfl ?_
      refine jb_icmp_ne (tgt := 77) (pc' := 63) dX12_carriesOf_60 (by decide) rfl (fun _ => ?_) (fun z => absurd z (by decide))
      refine jb_iload_n (pc' := 78) dX12_carriesOf_77 rfl rfl ?_
      refine jb_iconst (pc' := 79) 5 dX12_carriesOf_78 (by decide) rfl ?_
      refine jb_icmp_ne (tgt := 89) (pc' := 82) dX12_carriesOf_79 (by decide) rfl (fun _ => ?_) (fun z => absurd z (by decide))
      refine jb_iload (pc' := 91) dX12_carriesOf_89 rfl rfl ?_
      refine jb_istore_ (pc' := 93) dX12_carriesOf_91 (by decide) (jb_at5 rfl) rfl ?_
      refine jb_iload (pc' := 95) dX12_carriesOf_93 rfl rfl ?_
      refine jb_aload_n (pc' := 96) dX12_carriesOf_95 rfl rfl ?_
      refine jb_iconst (pc' := 97) 0 dX12_carriesOf_96 (by decide) rfl ?_
      refine jb_iload_n (pc' := 98) dX12_carriesOf_97 rfl rfl ?_
      refine jb_aload_n (pc' := 99) dX12_carriesOf_98 rfl rfl ?_
      refine gf_X12_7 (pc' := 102) (v := .ref 106) dX12_carriesOf_99 rfl rfl rfl ?_
      refine jb_iconst (pc' := 103) 1 dX12_carriesOf_102 (by decide) rfl ?_
      refine jb_iaload (pc' := 104) (i9 := 1) (f := d) dX12_carriesOf_103 rfl jb_x1 (by decide) rfl ?_
      refine jb_top (v := .int (d 1)) (w := .int (nI (V 0 5))) (jb_vI e1) ?_
      refine jb_aload_n (pc' := 105) dX12_carriesOf_104 rfl rfl ?_
      refine gf_X12_7 (pc' := 108) (v := .ref 106) dX12_carriesOf_105 rfl rfl rfl ?_
      refine jb_iconst (pc' := 109) 2 dX12_carriesOf_108 (by decide) rfl ?_
      refine jb_iaload (pc' := 110) (i9 := 2) (f := d) dX12_carriesOf_109 rfl jb_x2 (by decide) rfl ?_
      refine jb_top (v := .int (d 2)) (w := .int (nI (V 0 6))) (jb_vI e2) ?_
      refine jb_iload_n (pc' := 111) dX12_carriesOf_110 rfl rfl ?_
      refine jb_callV (pc' := 114) (ci := 12) (q := 105) (As := [.int 0, .int (nI w), .int (nI (V 0 5)), .int (nI (V 0 6)), .int 1]) (a2 := 0) (b2 := 0) wv_X12_133 rfl dX12_carriesOf_111 (hg _ _ _ _ _ _ _ _ _ _ _ I J d e kp nm W 0 (nI w) (nI (V 0 5)) (nI (V 0 6)) 1 (by decide) hag) rfl rfl ⟨by decide, Nat.le_of_eq (Nat.zero_add _), Nat.le_of_eq (Nat.zero_add _)⟩ (Nat.le_of_ble_eq_true rfl) rfl (fun r h9 hq => ?_)
      obtain ⟨rfl, J9, nm9, rfl⟩ := hq
      show jb_J _ RX12 cX12_carriesOf 6 (Option.some .int) false 46 0 0 114 [some (.ref 105), some (.int (nI p)), some (.int (nI w)), some (.int 1), some (.int (9 - (nI (V 0 6)))), some (.int (9 - (nI (V 0 6))))] [.int (G 0 (nI w) (nI (V 0 5)) (nI (V 0 6)) 1), .int (9 - (nI (V 0 6)))] [s0, s1, s2, s3, s4, s5, s6, s7, s8, s9, jb_mdl I J9 d e kp nm9 W, s11] _
      refine jb_iadd (pc' := 115) dX12_carriesOf_114 rfl ?_
      refine jb_iconst (pc' := 116) 0 dX12_carriesOf_115 (by decide) rfl ?_
      refine jb_bipush (pc' := 118) 10 dX12_carriesOf_116 (by decide) rfl ?_
      refine jb_callS (pc' := 121) (As := [.int ((9 - (nI (V 0 6))) + (G 0 (nI w) (nI (V 0 5)) (nI (V 0 6)) 1)), .int 0, .int 10]) (a2 := 0) (b2 := 0) wv_X12_130 dX12_carriesOf_118 (c_held _ ((9 - (nI (V 0 6))) + (G 0 (nI w) (nI (V 0 5)) (nI (V 0 6)) 1)) 0 10) rfl ⟨by decide, Nat.le_of_eq (Nat.zero_add _), Nat.le_of_eq (Nat.zero_add _)⟩ (Nat.le_of_ble_eq_true rfl) rfl (fun r h9 hq => ?_)
      obtain ⟨rfl, rfl⟩ := hq
      show jb_J _ RX12 cX12_carriesOf 6 (Option.some .int) false 46 0 0 121 [some (.ref 105), some (.int (nI p)), some (.int (nI w)), some (.int 1), some (.int (9 - (nI (V 0 6)))), some (.int (9 - (nI (V 0 6))))] [.int (jm_cl 0 10 ((9 - (nI (V 0 6))) + (G 0 (nI w) (nI (V 0 5)) (nI (V 0 6)) 1)))] [s0, s1, s2, s3, s4, s5, s6, s7, s8, s9, jb_mdl I J9 d e kp nm9 W, s11] _
      refine jb_iret dX12_carriesOf_121 rfl ?_
      exact ⟨congrArg (fun y => some (Value.int y)) (by unfold jm_ca; rw [ek, show jm_owk 1 (V 2 p) (V 0 6) w = jm_pl (V 0 6) w from rfl, show jm_pl (V 0 6) w = 9 - nI (V 0 6) from if_neg (by omega)]; rfl), _, _, rfl⟩
  · show jb_J _ RX12 cX12_carriesOf 6 (Option.some .int) false 46 0 0 6 [some (.ref 105), some (.int (nI p)), some (.int (nI w)), none, none, none] [.int 2] [s0, s1, s2, s3, s4, s5, s6, s7, s8, s9, jb_mdl I J d e kp nm W, s11] _
    refine jb_istore_n_ (pc' := 7) dX12_carriesOf_6 (by decide) (jb_at3 rfl) rfl ?_
    refine jb_iload_n (pc' := 8) dX12_carriesOf_7 rfl rfl ?_
    refine jb_iconst (pc' := 9) 2 dX12_carriesOf_8 (by decide) rfl ?_
    refine jb_irem (pc' := 10) dX12_carriesOf_9 (by decide) rfl ?_
    refine jb_top (v := .int ((nI w) - (nI w) / 2 * 2)) (w := .int (nI (w % 2))) (jb_vI (pk_rem (a := w) (d := 2) (by omega) (by omega) (by omega))) ?_
    refine jb_iconst (pc' := 11) 1 dX12_carriesOf_10 (by decide) rfl ?_
    refine jb_icmp_ne (tgt := 26) (pc' := 14) dX12_carriesOf_11 (by decide) rfl (fun c19 => ?_) (fun c19 => ?_)
    · have c19 : ¬ (w % 2) = 1 := fun z9 => c19 ((nI_eq (a := (w % 2)) (b := 1) (by omega) (by omega)).mpr z9)
      refine jb_bipush (pc' := 28) 9 dX12_carriesOf_26 (by decide) rfl ?_
      refine jb_istore_ (pc' := 30) dX12_carriesOf_28 (by decide) (jb_at4 rfl) rfl ?_
      refine jb_iload_n (pc' := 31) dX12_carriesOf_30 rfl rfl ?_
      refine jb_iconst (pc' := 32) 3 dX12_carriesOf_31 (by decide) rfl ?_
      refine jb_icmp_ne (tgt := 40) (pc' := 35) dX12_carriesOf_32 (by decide) rfl (fun _ => ?_) (fun z => absurd z (by decide))
      refine jb_iload_n (pc' := 41) dX12_carriesOf_40 rfl rfl ?_
      refine jb_bipush (pc' := 43) 6 dX12_carriesOf_41 (by decide) rfl ?_
      refine jb_icmp_ne (tgt := 58) (pc' := 46) dX12_carriesOf_43 (by decide) rfl (fun _ => ?_) (fun z => absurd z (by decide))
      refine jb_iload_n (pc' := 59) dX12_carriesOf_58 rfl rfl ?_
      refine jb_iconst (pc' := 60) 4 dX12_carriesOf_59 (by decide) rfl ?_
      refine jb_icmp_ne (tgt := 77) (pc' := 63) dX12_carriesOf_60 (by decide) rfl (fun _ => ?_) (fun z => absurd z (by decide))
      refine jb_iload_n (pc' := 78) dX12_carriesOf_77 rfl rfl ?_
      refine jb_iconst (pc' := 79) 5 dX12_carriesOf_78 (by decide) rfl ?_
      refine jb_icmp_ne (tgt := 89) (pc' := 82) dX12_carriesOf_79 (by decide) rfl (fun _ => ?_) (fun z => absurd z (by decide))
      refine jb_iload (pc' := 91) dX12_carriesOf_89 rfl rfl ?_
      refine jb_istore_ (pc' := 93) dX12_carriesOf_91 (by decide) (jb_at5 rfl) rfl ?_
      refine jb_iload (pc' := 95) dX12_carriesOf_93 rfl rfl ?_
      refine jb_aload_n (pc' := 96) dX12_carriesOf_95 rfl rfl ?_
      refine jb_iconst (pc' := 97) 0 dX12_carriesOf_96 (by decide) rfl ?_
      refine jb_iload_n (pc' := 98) dX12_carriesOf_97 rfl rfl ?_
      refine jb_aload_n (pc' := 99) dX12_carriesOf_98 rfl rfl ?_
      refine gf_X12_7 (pc' := 102) (v := .ref 106) dX12_carriesOf_99 rfl rfl rfl ?_
      refine jb_iconst (pc' := 103) 1 dX12_carriesOf_102 (by decide) rfl ?_
      refine jb_iaload (pc' := 104) (i9 := 1) (f := d) dX12_carriesOf_103 rfl jb_x1 (by decide) rfl ?_
      refine jb_top (v := .int (d 1)) (w := .int (nI (V 0 5))) (jb_vI e1) ?_
      refine jb_aload_n (pc' := 105) dX12_carriesOf_104 rfl rfl ?_
      refine gf_X12_7 (pc' := 108) (v := .ref 106) dX12_carriesOf_105 rfl rfl rfl ?_
      refine jb_iconst (pc' := 109) 2 dX12_carriesOf_108 (by decide) rfl ?_
      refine jb_iaload (pc' := 110) (i9 := 2) (f := d) dX12_carriesOf_109 rfl jb_x2 (by decide) rfl ?_
      refine jb_top (v := .int (d 2)) (w := .int (nI (V 0 6))) (jb_vI e2) ?_
      refine jb_iload_n (pc' := 111) dX12_carriesOf_110 rfl rfl ?_
      refine jb_callV (pc' := 114) (ci := 12) (q := 105) (As := [.int 0, .int (nI w), .int (nI (V 0 5)), .int (nI (V 0 6)), .int 2]) (a2 := 0) (b2 := 0) wv_X12_133 rfl dX12_carriesOf_111 (hg _ _ _ _ _ _ _ _ _ _ _ I J d e kp nm W 0 (nI w) (nI (V 0 5)) (nI (V 0 6)) 2 (by decide) hag) rfl rfl ⟨by decide, Nat.le_of_eq (Nat.zero_add _), Nat.le_of_eq (Nat.zero_add _)⟩ (Nat.le_of_ble_eq_true rfl) rfl (fun r h9 hq => ?_)
      obtain ⟨rfl, J9, nm9, rfl⟩ := hq
      show jb_J _ RX12 cX12_carriesOf 6 (Option.some .int) false 46 0 0 114 [some (.ref 105), some (.int (nI p)), some (.int (nI w)), some (.int 2), some (.int 9), some (.int 9)] [.int (G 0 (nI w) (nI (V 0 5)) (nI (V 0 6)) 2), .int 9] [s0, s1, s2, s3, s4, s5, s6, s7, s8, s9, jb_mdl I J9 d e kp nm9 W, s11] _
      refine jb_iadd (pc' := 115) dX12_carriesOf_114 rfl ?_
      refine jb_iconst (pc' := 116) 0 dX12_carriesOf_115 (by decide) rfl ?_
      refine jb_bipush (pc' := 118) 10 dX12_carriesOf_116 (by decide) rfl ?_
      refine jb_callS (pc' := 121) (As := [.int (9 + (G 0 (nI w) (nI (V 0 5)) (nI (V 0 6)) 2)), .int 0, .int 10]) (a2 := 0) (b2 := 0) wv_X12_130 dX12_carriesOf_118 (c_held _ (9 + (G 0 (nI w) (nI (V 0 5)) (nI (V 0 6)) 2)) 0 10) rfl ⟨by decide, Nat.le_of_eq (Nat.zero_add _), Nat.le_of_eq (Nat.zero_add _)⟩ (Nat.le_of_ble_eq_true rfl) rfl (fun r h9 hq => ?_)
      obtain ⟨rfl, rfl⟩ := hq
      show jb_J _ RX12 cX12_carriesOf 6 (Option.some .int) false 46 0 0 121 [some (.ref 105), some (.int (nI p)), some (.int (nI w)), some (.int 2), some (.int 9), some (.int 9)] [.int (jm_cl 0 10 (9 + (G 0 (nI w) (nI (V 0 5)) (nI (V 0 6)) 2)))] [s0, s1, s2, s3, s4, s5, s6, s7, s8, s9, jb_mdl I J9 d e kp nm9 W, s11] _
      refine jb_iret dX12_carriesOf_121 rfl ?_
      exact ⟨congrArg (fun y => some (Value.int y)) (by unfold jm_ca; rw [ek, show jm_owk 2 (V 2 p) (V 0 6) w = jm_pl (V 0 6) w from rfl, show jm_pl (V 0 6) w = 9 from if_pos (by omega)]; rfl), _, _, rfl⟩
    · have c19 : (w % 2) = 1 := (nI_eq (a := (w % 2)) (b := 1) (by omega) (by omega)).mp c19
      refine jb_bipush (pc' := 16) 9 dX12_carriesOf_14 (by decide) rfl ?_
      refine jb_aload_n (pc' := 17) dX12_carriesOf_16 rfl rfl ?_
      refine gf_X12_7 (pc' := 20) (v := .ref 106) dX12_carriesOf_17 rfl rfl rfl ?_
      refine jb_iconst (pc' := 21) 2 dX12_carriesOf_20 (by decide) rfl ?_
      refine jb_iaload (pc' := 22) (i9 := 2) (f := d) dX12_carriesOf_21 rfl jb_x2 (by decide) rfl ?_
      refine jb_top (v := .int (d 2)) (w := .int (nI (V 0 6))) (jb_vI e2) ?_
      refine jb_isub (pc' := 23) dX12_carriesOf_22 rfl ?_
      refine jb_goto (pc' := 28) dX12_carriesOf_23 (by decide) ?_
      refine jb_istore_ (pc' := 30) dX12_carriesOf_28 (by decide) (jb_at4 rfl) rfl ?_
      refine jb_iload_n (pc' := 31) dX12_carriesOf_30 rfl rfl ?_
      refine jb_iconst (pc' := 32) 3 dX12_carriesOf_31 (by decide) rfl ?_
      refine jb_icmp_ne (tgt := 40) (pc' := 35) dX12_carriesOf_32 (by decide) rfl (fun _ => ?_) (fun z => absurd z (by decide))
      refine jb_iload_n (pc' := 41) dX12_carriesOf_40 rfl rfl ?_
      refine jb_bipush (pc' := 43) 6 dX12_carriesOf_41 (by decide) rfl ?_
      refine jb_icmp_ne (tgt := 58) (pc' := 46) dX12_carriesOf_43 (by decide) rfl (fun _ => ?_) (fun z => absurd z (by decide))
      refine jb_iload_n (pc' := 59) dX12_carriesOf_58 rfl rfl ?_
      refine jb_iconst (pc' := 60) 4 dX12_carriesOf_59 (by decide) rfl ?_
      refine jb_icmp_ne (tgt := 77) (pc' := 63) dX12_carriesOf_60 (by decide) rfl (fun _ => ?_) (fun z => absurd z (by decide))
      refine jb_iload_n (pc' := 78) dX12_carriesOf_77 rfl rfl ?_
      refine jb_iconst (pc' := 79) 5 dX12_carriesOf_78 (by decide) rfl ?_
      refine jb_icmp_ne (tgt := 89) (pc' := 82) dX12_carriesOf_79 (by decide) rfl (fun _ => ?_) (fun z => absurd z (by decide))
      refine jb_iload (pc' := 91) dX12_carriesOf_89 rfl rfl ?_
      refine jb_istore_ (pc' := 93) dX12_carriesOf_91 (by decide) (jb_at5 rfl) rfl ?_
      refine jb_iload (pc' := 95) dX12_carriesOf_93 rfl rfl ?_
      refine jb_aload_n (pc' := 96) dX12_carriesOf_95 rfl rfl ?_
      refine jb_iconst (pc' := 97) 0 dX12_carriesOf_96 (by decide) rfl ?_
      refine jb_iload_n (pc' := 98) dX12_carriesOf_97 rfl rfl ?_
      refine jb_aload_n (pc' := 99) dX12_carriesOf_98 rfl rfl ?_
      refine gf_X12_7 (pc' := 102) (v := .ref 106) dX12_carriesOf_99 rfl rfl rfl ?_
      refine jb_iconst (pc' := 103) 1 dX12_carriesOf_102 (by decide) rfl ?_
      refine jb_iaload (pc' := 104) (i9 := 1) (f := d) dX12_carriesOf_103 rfl jb_x1 (by decide) rfl ?_
      refine jb_top (v := .int (d 1)) (w := .int (nI (V 0 5))) (jb_vI e1) ?_
      refine jb_aload_n (pc' := 105) dX12_carriesOf_104 rfl rfl ?_
      refine gf_X12_7 (pc' := 108) (v := .ref 106) dX12_carriesOf_105 rfl rfl rfl ?_
      refine jb_iconst (pc' := 109) 2 dX12_carriesOf_108 (by decide) rfl ?_
      refine jb_iaload (pc' := 110) (i9 := 2) (f := d) dX12_carriesOf_109 rfl jb_x2 (by decide) rfl ?_
      refine jb_top (v := .int (d 2)) (w := .int (nI (V 0 6))) (jb_vI e2) ?_
      refine jb_iload_n (pc' := 111) dX12_carriesOf_110 rfl rfl ?_
      refine jb_callV (pc' := 114) (ci := 12) (q := 105) (As := [.int 0, .int (nI w), .int (nI (V 0 5)), .int (nI (V 0 6)), .int 2]) (a2 := 0) (b2 := 0) wv_X12_133 rfl dX12_carriesOf_111 (hg _ _ _ _ _ _ _ _ _ _ _ I J d e kp nm W 0 (nI w) (nI (V 0 5)) (nI (V 0 6)) 2 (by decide) hag) rfl rfl ⟨by decide, Nat.le_of_eq (Nat.zero_add _), Nat.le_of_eq (Nat.zero_add _)⟩ (Nat.le_of_ble_eq_true rfl) rfl (fun r h9 hq => ?_)
      obtain ⟨rfl, J9, nm9, rfl⟩ := hq
      show jb_J _ RX12 cX12_carriesOf 6 (Option.some .int) false 46 0 0 114 [some (.ref 105), some (.int (nI p)), some (.int (nI w)), some (.int 2), some (.int (9 - (nI (V 0 6)))), some (.int (9 - (nI (V 0 6))))] [.int (G 0 (nI w) (nI (V 0 5)) (nI (V 0 6)) 2), .int (9 - (nI (V 0 6)))] [s0, s1, s2, s3, s4, s5, s6, s7, s8, s9, jb_mdl I J9 d e kp nm9 W, s11] _
      refine jb_iadd (pc' := 115) dX12_carriesOf_114 rfl ?_
      refine jb_iconst (pc' := 116) 0 dX12_carriesOf_115 (by decide) rfl ?_
      refine jb_bipush (pc' := 118) 10 dX12_carriesOf_116 (by decide) rfl ?_
      refine jb_callS (pc' := 121) (As := [.int ((9 - (nI (V 0 6))) + (G 0 (nI w) (nI (V 0 5)) (nI (V 0 6)) 2)), .int 0, .int 10]) (a2 := 0) (b2 := 0) wv_X12_130 dX12_carriesOf_118 (c_held _ ((9 - (nI (V 0 6))) + (G 0 (nI w) (nI (V 0 5)) (nI (V 0 6)) 2)) 0 10) rfl ⟨by decide, Nat.le_of_eq (Nat.zero_add _), Nat.le_of_eq (Nat.zero_add _)⟩ (Nat.le_of_ble_eq_true rfl) rfl (fun r h9 hq => ?_)
      obtain ⟨rfl, rfl⟩ := hq
      show jb_J _ RX12 cX12_carriesOf 6 (Option.some .int) false 46 0 0 121 [some (.ref 105), some (.int (nI p)), some (.int (nI w)), some (.int 2), some (.int (9 - (nI (V 0 6)))), some (.int (9 - (nI (V 0 6))))] [.int (jm_cl 0 10 ((9 - (nI (V 0 6))) + (G 0 (nI w) (nI (V 0 5)) (nI (V 0 6)) 2)))] [s0, s1, s2, s3, s4, s5, s6, s7, s8, s9, jb_mdl I J9 d e kp nm9 W, s11] _
      refine jb_iret dX12_carriesOf_121 rfl ?_
      exact ⟨congrArg (fun y => some (Value.int y)) (by unfold jm_ca; rw [ek, show jm_owk 2 (V 2 p) (V 0 6) w = jm_pl (V 0 6) w from rfl, show jm_pl (V 0 6) w = 9 - nI (V 0 6) from if_neg (by omega)]; rfl), _, _, rfl⟩
  · show jb_J _ RX12 cX12_carriesOf 6 (Option.some .int) false 46 0 0 6 [some (.ref 105), some (.int (nI p)), some (.int (nI w)), none, none, none] [.int 3] [s0, s1, s2, s3, s4, s5, s6, s7, s8, s9, jb_mdl I J d e kp nm W, s11] _
    refine jb_istore_n_ (pc' := 7) dX12_carriesOf_6 (by decide) (jb_at3 rfl) rfl ?_
    refine jb_iload_n (pc' := 8) dX12_carriesOf_7 rfl rfl ?_
    refine jb_iconst (pc' := 9) 2 dX12_carriesOf_8 (by decide) rfl ?_
    refine jb_irem (pc' := 10) dX12_carriesOf_9 (by decide) rfl ?_
    refine jb_top (v := .int ((nI w) - (nI w) / 2 * 2)) (w := .int (nI (w % 2))) (jb_vI (pk_rem (a := w) (d := 2) (by omega) (by omega) (by omega))) ?_
    refine jb_iconst (pc' := 11) 1 dX12_carriesOf_10 (by decide) rfl ?_
    refine jb_icmp_ne (tgt := 26) (pc' := 14) dX12_carriesOf_11 (by decide) rfl (fun c28 => ?_) (fun c28 => ?_)
    · have c28 : ¬ (w % 2) = 1 := fun z9 => c28 ((nI_eq (a := (w % 2)) (b := 1) (by omega) (by omega)).mpr z9)
      refine jb_bipush (pc' := 28) 9 dX12_carriesOf_26 (by decide) rfl ?_
      refine jb_istore_ (pc' := 30) dX12_carriesOf_28 (by decide) (jb_at4 rfl) rfl ?_
      refine jb_iload_n (pc' := 31) dX12_carriesOf_30 rfl rfl ?_
      refine jb_iconst (pc' := 32) 3 dX12_carriesOf_31 (by decide) rfl ?_
      refine jb_icmp_ne (tgt := 40) (pc' := 35) dX12_carriesOf_32 (by decide) rfl (fun z => absurd (by decide) z) (fun _ => ?_)
      refine jb_bipush (pc' := 37) 10 dX12_carriesOf_35 (by decide) rfl ?_
      refine jb_goto (pc' := 91) dX12_carriesOf_37 (by decide) ?_
      refine jb_istore_ (pc' := 93) dX12_carriesOf_91 (by decide) (jb_at5 rfl) rfl ?_
      refine jb_iload (pc' := 95) dX12_carriesOf_93 rfl rfl ?_
      refine jb_aload_n (pc' := 96) dX12_carriesOf_95 rfl rfl ?_
      refine jb_iconst (pc' := 97) 0 dX12_carriesOf_96 (by decide) rfl ?_
      refine jb_iload_n (pc' := 98) dX12_carriesOf_97 rfl rfl ?_
      refine jb_aload_n (pc' := 99) dX12_carriesOf_98 rfl rfl ?_
      refine gf_X12_7 (pc' := 102) (v := .ref 106) dX12_carriesOf_99 rfl rfl rfl ?_
      refine jb_iconst (pc' := 103) 1 dX12_carriesOf_102 (by decide) rfl ?_
      refine jb_iaload (pc' := 104) (i9 := 1) (f := d) dX12_carriesOf_103 rfl jb_x1 (by decide) rfl ?_
      refine jb_top (v := .int (d 1)) (w := .int (nI (V 0 5))) (jb_vI e1) ?_
      refine jb_aload_n (pc' := 105) dX12_carriesOf_104 rfl rfl ?_
      refine gf_X12_7 (pc' := 108) (v := .ref 106) dX12_carriesOf_105 rfl rfl rfl ?_
      refine jb_iconst (pc' := 109) 2 dX12_carriesOf_108 (by decide) rfl ?_
      refine jb_iaload (pc' := 110) (i9 := 2) (f := d) dX12_carriesOf_109 rfl jb_x2 (by decide) rfl ?_
      refine jb_top (v := .int (d 2)) (w := .int (nI (V 0 6))) (jb_vI e2) ?_
      refine jb_iload_n (pc' := 111) dX12_carriesOf_110 rfl rfl ?_
      refine jb_callV (pc' := 114) (ci := 12) (q := 105) (As := [.int 0, .int (nI w), .int (nI (V 0 5)), .int (nI (V 0 6)), .int 3]) (a2 := 0) (b2 := 0) wv_X12_133 rfl dX12_carriesOf_111 (hg _ _ _ _ _ _ _ _ _ _ _ I J d e kp nm W 0 (nI w) (nI (V 0 5)) (nI (V 0 6)) 3 (by decide) hag) rfl rfl ⟨by decide, Nat.le_of_eq (Nat.zero_add _), Nat.le_of_eq (Nat.zero_add _)⟩ (Nat.le_of_ble_eq_true rfl) rfl (fun r h9 hq => ?_)
      obtain ⟨rfl, J9, nm9, rfl⟩ := hq
      show jb_J _ RX12 cX12_carriesOf 6 (Option.some .int) false 46 0 0 114 [some (.ref 105), some (.int (nI p)), some (.int (nI w)), some (.int 3), some (.int 9), some (.int 10)] [.int (G 0 (nI w) (nI (V 0 5)) (nI (V 0 6)) 3), .int 10] [s0, s1, s2, s3, s4, s5, s6, s7, s8, s9, jb_mdl I J9 d e kp nm9 W, s11] _
      refine jb_iadd (pc' := 115) dX12_carriesOf_114 rfl ?_
      refine jb_iconst (pc' := 116) 0 dX12_carriesOf_115 (by decide) rfl ?_
      refine jb_bipush (pc' := 118) 10 dX12_carriesOf_116 (by decide) rfl ?_
      refine jb_callS (pc' := 121) (As := [.int (10 + (G 0 (nI w) (nI (V 0 5)) (nI (V 0 6)) 3)), .int 0, .int 10]) (a2 := 0) (b2 := 0) wv_X12_130 dX12_carriesOf_118 (c_held _ (10 + (G 0 (nI w) (nI (V 0 5)) (nI (V 0 6)) 3)) 0 10) rfl ⟨by decide, Nat.le_of_eq (Nat.zero_add _), Nat.le_of_eq (Nat.zero_add _)⟩ (Nat.le_of_ble_eq_true rfl) rfl (fun r h9 hq => ?_)
      obtain ⟨rfl, rfl⟩ := hq
      show jb_J _ RX12 cX12_carriesOf 6 (Option.some .int) false 46 0 0 121 [some (.ref 105), some (.int (nI p)), some (.int (nI w)), some (.int 3), some (.int 9), some (.int 10)] [.int (jm_cl 0 10 (10 + (G 0 (nI w) (nI (V 0 5)) (nI (V 0 6)) 3)))] [s0, s1, s2, s3, s4, s5, s6, s7, s8, s9, jb_mdl I J9 d e kp nm9 W, s11] _
      refine jb_iret dX12_carriesOf_121 rfl ?_
      exact ⟨congrArg (fun y => some (Value.int y)) (by unfold jm_ca; rw [ek, show jm_owk 3 (V 2 p) (V 0 6) w = 10 from rfl]; rfl), _, _, rfl⟩
    · have c28 : (w % 2) = 1 := (nI_eq (a := (w % 2)) (b := 1) (by omega) (by omega)).mp c28
      refine jb_bipush (pc' := 16) 9 dX12_carriesOf_14 (by decide) rfl ?_
      refine jb_aload_n (pc' := 17) dX12_carriesOf_16 rfl rfl ?_
      refine gf_X12_7 (pc' := 20) (v := .ref 106) dX12_carriesOf_17 rfl rfl rfl ?_
      refine jb_iconst (pc' := 21) 2 dX12_carriesOf_20 (by decide) rfl ?_
      refine jb_iaload (pc' := 22) (i9 := 2) (f := d) dX12_carriesOf_21 rfl jb_x2 (by decide) rfl ?_
      refine jb_top (v := .int (d 2)) (w := .int (nI (V 0 6))) (jb_vI e2) ?_
      refine jb_isub (pc' := 23) dX12_carriesOf_22 rfl ?_
      refine jb_goto (pc' := 28) dX12_carriesOf_23 (by decide) ?_
      refine jb_istore_ (pc' := 30) dX12_carriesOf_28 (by decide) (jb_at4 rfl) rfl ?_
      refine jb_iload_n (pc' := 31) dX12_carriesOf_30 rfl rfl ?_
      refine jb_iconst (pc' := 32) 3 dX12_carriesOf_31 (by decide) rfl ?_
      refine jb_icmp_ne (tgt := 40) (pc' := 35) dX12_carriesOf_32 (by decide) rfl (fun z => absurd (by decide) z) (fun _ => ?_)
      refine jb_bipush (pc' := 37) 10 dX12_carriesOf_35 (by decide) rfl ?_
      refine jb_goto (pc' := 91) dX12_carriesOf_37 (by decide) ?_
      refine jb_istore_ (pc' := 93) dX12_carriesOf_91 (by decide) (jb_at5 rfl) rfl ?_
      refine jb_iload (pc' := 95) dX12_carriesOf_93 rfl rfl ?_
      refine jb_aload_n (pc' := 96) dX12_carriesOf_95 rfl rfl ?_
      refine jb_iconst (pc' := 97) 0 dX12_carriesOf_96 (by decide) rfl ?_
      refine jb_iload_n (pc' := 98) dX12_carriesOf_97 rfl rfl ?_
      refine jb_aload_n (pc' := 99) dX12_carriesOf_98 rfl rfl ?_
      refine gf_X12_7 (pc' := 102) (v := .ref 106) dX12_carriesOf_99 rfl rfl rfl ?_
      refine jb_iconst (pc' := 103) 1 dX12_carriesOf_102 (by decide) rfl ?_
      refine jb_iaload (pc' := 104) (i9 := 1) (f := d) dX12_carriesOf_103 rfl jb_x1 (by decide) rfl ?_
      refine jb_top (v := .int (d 1)) (w := .int (nI (V 0 5))) (jb_vI e1) ?_
      refine jb_aload_n (pc' := 105) dX12_carriesOf_104 rfl rfl ?_
      refine gf_X12_7 (pc' := 108) (v := .ref 106) dX12_carriesOf_105 rfl rfl rfl ?_
      refine jb_iconst (pc' := 109) 2 dX12_carriesOf_108 (by decide) rfl ?_
      refine jb_iaload (pc' := 110) (i9 := 2) (f := d) dX12_carriesOf_109 rfl jb_x2 (by decide) rfl ?_
      refine jb_top (v := .int (d 2)) (w := .int (nI (V 0 6))) (jb_vI e2) ?_
      refine jb_iload_n (pc' := 111) dX12_carriesOf_110 rfl rfl ?_
      refine jb_callV (pc' := 114) (ci := 12) (q := 105) (As := [.int 0, .int (nI w), .int (nI (V 0 5)), .int (nI (V 0 6)), .int 3]) (a2 := 0) (b2 := 0) wv_X12_133 rfl dX12_carriesOf_111 (hg _ _ _ _ _ _ _ _ _ _ _ I J d e kp nm W 0 (nI w) (nI (V 0 5)) (nI (V 0 6)) 3 (by decide) hag) rfl rfl ⟨by decide, Nat.le_of_eq (Nat.zero_add _), Nat.le_of_eq (Nat.zero_add _)⟩ (Nat.le_of_ble_eq_true rfl) rfl (fun r h9 hq => ?_)
      obtain ⟨rfl, J9, nm9, rfl⟩ := hq
      show jb_J _ RX12 cX12_carriesOf 6 (Option.some .int) false 46 0 0 114 [some (.ref 105), some (.int (nI p)), some (.int (nI w)), some (.int 3), some (.int (9 - (nI (V 0 6)))), some (.int 10)] [.int (G 0 (nI w) (nI (V 0 5)) (nI (V 0 6)) 3), .int 10] [s0, s1, s2, s3, s4, s5, s6, s7, s8, s9, jb_mdl I J9 d e kp nm9 W, s11] _
      refine jb_iadd (pc' := 115) dX12_carriesOf_114 rfl ?_
      refine jb_iconst (pc' := 116) 0 dX12_carriesOf_115 (by decide) rfl ?_
      refine jb_bipush (pc' := 118) 10 dX12_carriesOf_116 (by decide) rfl ?_
      refine jb_callS (pc' := 121) (As := [.int (10 + (G 0 (nI w) (nI (V 0 5)) (nI (V 0 6)) 3)), .int 0, .int 10]) (a2 := 0) (b2 := 0) wv_X12_130 dX12_carriesOf_118 (c_held _ (10 + (G 0 (nI w) (nI (V 0 5)) (nI (V 0 6)) 3)) 0 10) rfl ⟨by decide, Nat.le_of_eq (Nat.zero_add _), Nat.le_of_eq (Nat.zero_add _)⟩ (Nat.le_of_ble_eq_true rfl) rfl (fun r h9 hq => ?_)
      obtain ⟨rfl, rfl⟩ := hq
      show jb_J _ RX12 cX12_carriesOf 6 (Option.some .int) false 46 0 0 121 [some (.ref 105), some (.int (nI p)), some (.int (nI w)), some (.int 3), some (.int (9 - (nI (V 0 6)))), some (.int 10)] [.int (jm_cl 0 10 (10 + (G 0 (nI w) (nI (V 0 5)) (nI (V 0 6)) 3)))] [s0, s1, s2, s3, s4, s5, s6, s7, s8, s9, jb_mdl I J9 d e kp nm9 W, s11] _
      refine jb_iret dX12_carriesOf_121 rfl ?_
      exact ⟨congrArg (fun y => some (Value.int y)) (by unfold jm_ca; rw [ek, show jm_owk 3 (V 2 p) (V 0 6) w = 10 from rfl]; rfl), _, _, rfl⟩
  · show jb_J _ RX12 cX12_carriesOf 6 (Option.some .int) false 46 0 0 6 [some (.ref 105), some (.int (nI p)), some (.int (nI w)), none, none, none] [.int 4] [s0, s1, s2, s3, s4, s5, s6, s7, s8, s9, jb_mdl I J d e kp nm W, s11] _
    refine jb_istore_n_ (pc' := 7) dX12_carriesOf_6 (by decide) (jb_at3 rfl) rfl ?_
    refine jb_iload_n (pc' := 8) dX12_carriesOf_7 rfl rfl ?_
    refine jb_iconst (pc' := 9) 2 dX12_carriesOf_8 (by decide) rfl ?_
    refine jb_irem (pc' := 10) dX12_carriesOf_9 (by decide) rfl ?_
    refine jb_top (v := .int ((nI w) - (nI w) / 2 * 2)) (w := .int (nI (w % 2))) (jb_vI (pk_rem (a := w) (d := 2) (by omega) (by omega) (by omega))) ?_
    refine jb_iconst (pc' := 11) 1 dX12_carriesOf_10 (by decide) rfl ?_
    refine jb_icmp_ne (tgt := 26) (pc' := 14) dX12_carriesOf_11 (by decide) rfl (fun c31 => ?_) (fun c31 => ?_)
    · have c31 : ¬ (w % 2) = 1 := fun z9 => c31 ((nI_eq (a := (w % 2)) (b := 1) (by omega) (by omega)).mpr z9)
      refine jb_bipush (pc' := 28) 9 dX12_carriesOf_26 (by decide) rfl ?_
      refine jb_istore_ (pc' := 30) dX12_carriesOf_28 (by decide) (jb_at4 rfl) rfl ?_
      refine jb_iload_n (pc' := 31) dX12_carriesOf_30 rfl rfl ?_
      refine jb_iconst (pc' := 32) 3 dX12_carriesOf_31 (by decide) rfl ?_
      refine jb_icmp_ne (tgt := 40) (pc' := 35) dX12_carriesOf_32 (by decide) rfl (fun _ => ?_) (fun z => absurd z (by decide))
      refine jb_iload_n (pc' := 41) dX12_carriesOf_40 rfl rfl ?_
      refine jb_bipush (pc' := 43) 6 dX12_carriesOf_41 (by decide) rfl ?_
      refine jb_icmp_ne (tgt := 58) (pc' := 46) dX12_carriesOf_43 (by decide) rfl (fun _ => ?_) (fun z => absurd z (by decide))
      refine jb_iload_n (pc' := 59) dX12_carriesOf_58 rfl rfl ?_
      refine jb_iconst (pc' := 60) 4 dX12_carriesOf_59 (by decide) rfl ?_
      refine jb_icmp_ne (tgt := 77) (pc' := 63) dX12_carriesOf_60 (by decide) rfl (fun z => absurd (by decide) z) (fun _ => ?_)
      refine jb_iload (pc' := 65) dX12_carriesOf_63 rfl rfl ?_
      refine jb_aload_n (pc' := 66) dX12_carriesOf_65 rfl rfl ?_
      refine jb_iload_n (pc' := 67) dX12_carriesOf_66 rfl rfl ?_
      refine jb_iconst (pc' := 68) 1 dX12_carriesOf_67 (by decide) rfl ?_
      refine jb_callV (pc' := 71) (ci := 12) (q := 105) (As := [.int (nI p), .int 1]) (a2 := 0) (b2 := 0) wv_X12_145 rfl dX12_carriesOf_68 (c_of1 I J d e kp nm W hd0 hk0 p (by omega)) rfl rfl ⟨by decide, Nat.le_of_eq (Nat.zero_add _), Nat.le_of_eq (Nat.zero_add _)⟩ (Nat.le_of_ble_eq_true rfl) rfl (fun r h9 hq => ?_)
      obtain ⟨rfl, rfl⟩ := hq
      show jb_J _ RX12 cX12_carriesOf 6 (Option.some .int) false 46 0 0 71 [some (.ref 105), some (.int (nI p)), some (.int (nI w)), some (.int 4), some (.int 9), none] [.int (nI (V 2 p)), .int 9] [s0, s1, s2, s3, s4, s5, s6, s7, s8, s9, jb_mdl I J d e kp nm W, s11] _
      refine jb_iconst (pc' := 72) 3 dX12_carriesOf_71 (by decide) rfl ?_
      refine jb_idiv (pc' := 73) dX12_carriesOf_72 (by decide) rfl ?_
      refine jb_top (v := .int ((nI (V 2 p)) / 3)) (w := .int (nI (V 2 p / 3))) (jb_vI (pk_div (a := V 2 p) (d := 3) (by omega) (by omega) (by omega))) ?_
      refine jb_isub (pc' := 74) dX12_carriesOf_73 rfl ?_
      refine jb_goto (pc' := 91) dX12_carriesOf_74 (by decide) ?_
      refine jb_istore_ (pc' := 93) dX12_carriesOf_91 (by decide) (jb_at5 rfl) rfl ?_
      refine jb_iload (pc' := 95) dX12_carriesOf_93 rfl rfl ?_
      refine jb_aload_n (pc' := 96) dX12_carriesOf_95 rfl rfl ?_
      refine jb_iconst (pc' := 97) 0 dX12_carriesOf_96 (by decide) rfl ?_
      refine jb_iload_n (pc' := 98) dX12_carriesOf_97 rfl rfl ?_
      refine jb_aload_n (pc' := 99) dX12_carriesOf_98 rfl rfl ?_
      refine gf_X12_7 (pc' := 102) (v := .ref 106) dX12_carriesOf_99 rfl rfl rfl ?_
      refine jb_iconst (pc' := 103) 1 dX12_carriesOf_102 (by decide) rfl ?_
      refine jb_iaload (pc' := 104) (i9 := 1) (f := d) dX12_carriesOf_103 rfl jb_x1 (by decide) rfl ?_
      refine jb_top (v := .int (d 1)) (w := .int (nI (V 0 5))) (jb_vI e1) ?_
      refine jb_aload_n (pc' := 105) dX12_carriesOf_104 rfl rfl ?_
      refine gf_X12_7 (pc' := 108) (v := .ref 106) dX12_carriesOf_105 rfl rfl rfl ?_
      refine jb_iconst (pc' := 109) 2 dX12_carriesOf_108 (by decide) rfl ?_
      refine jb_iaload (pc' := 110) (i9 := 2) (f := d) dX12_carriesOf_109 rfl jb_x2 (by decide) rfl ?_
      refine jb_top (v := .int (d 2)) (w := .int (nI (V 0 6))) (jb_vI e2) ?_
      refine jb_iload_n (pc' := 111) dX12_carriesOf_110 rfl rfl ?_
      refine jb_callV (pc' := 114) (ci := 12) (q := 105) (As := [.int 0, .int (nI w), .int (nI (V 0 5)), .int (nI (V 0 6)), .int 4]) (a2 := 0) (b2 := 0) wv_X12_133 rfl dX12_carriesOf_111 (hg _ _ _ _ _ _ _ _ _ _ _ I J d e kp nm W 0 (nI w) (nI (V 0 5)) (nI (V 0 6)) 4 (by decide) hag) rfl rfl ⟨by decide, Nat.le_of_eq (Nat.zero_add _), Nat.le_of_eq (Nat.zero_add _)⟩ (Nat.le_of_ble_eq_true rfl) rfl (fun r h9 hq => ?_)
      obtain ⟨rfl, J9, nm9, rfl⟩ := hq
      show jb_J _ RX12 cX12_carriesOf 6 (Option.some .int) false 46 0 0 114 [some (.ref 105), some (.int (nI p)), some (.int (nI w)), some (.int 4), some (.int 9), some (.int (9 - (nI (V 2 p / 3))))] [.int (G 0 (nI w) (nI (V 0 5)) (nI (V 0 6)) 4), .int (9 - (nI (V 2 p / 3)))] [s0, s1, s2, s3, s4, s5, s6, s7, s8, s9, jb_mdl I J9 d e kp nm9 W, s11] _
      refine jb_iadd (pc' := 115) dX12_carriesOf_114 rfl ?_
      refine jb_iconst (pc' := 116) 0 dX12_carriesOf_115 (by decide) rfl ?_
      refine jb_bipush (pc' := 118) 10 dX12_carriesOf_116 (by decide) rfl ?_
      refine jb_callS (pc' := 121) (As := [.int ((9 - (nI (V 2 p / 3))) + (G 0 (nI w) (nI (V 0 5)) (nI (V 0 6)) 4)), .int 0, .int 10]) (a2 := 0) (b2 := 0) wv_X12_130 dX12_carriesOf_118 (c_held _ ((9 - (nI (V 2 p / 3))) + (G 0 (nI w) (nI (V 0 5)) (nI (V 0 6)) 4)) 0 10) rfl ⟨by decide, Nat.le_of_eq (Nat.zero_add _), Nat.le_of_eq (Nat.zero_add _)⟩ (Nat.le_of_ble_eq_true rfl) rfl (fun r h9 hq => ?_)
      obtain ⟨rfl, rfl⟩ := hq
      show jb_J _ RX12 cX12_carriesOf 6 (Option.some .int) false 46 0 0 121 [some (.ref 105), some (.int (nI p)), some (.int (nI w)), some (.int 4), some (.int 9), some (.int (9 - (nI (V 2 p / 3))))] [.int (jm_cl 0 10 ((9 - (nI (V 2 p / 3))) + (G 0 (nI w) (nI (V 0 5)) (nI (V 0 6)) 4)))] [s0, s1, s2, s3, s4, s5, s6, s7, s8, s9, jb_mdl I J9 d e kp nm9 W, s11] _
      refine jb_iret dX12_carriesOf_121 rfl ?_
      exact ⟨congrArg (fun y => some (Value.int y)) (by unfold jm_ca; rw [ek, show jm_owk 4 (V 2 p) (V 0 6) w = jm_pl (V 0 6) w - nI (V 2 p / 3) from rfl, show jm_pl (V 0 6) w = 9 from if_pos (by omega)]; rfl), _, _, rfl⟩
    · have c31 : (w % 2) = 1 := (nI_eq (a := (w % 2)) (b := 1) (by omega) (by omega)).mp c31
      refine jb_bipush (pc' := 16) 9 dX12_carriesOf_14 (by decide) rfl ?_
      refine jb_aload_n (pc' := 17) dX12_carriesOf_16 rfl rfl ?_
      refine gf_X12_7 (pc' := 20) (v := .ref 106) dX12_carriesOf_17 rfl rfl rfl ?_
      refine jb_iconst (pc' := 21) 2 dX12_carriesOf_20 (by decide) rfl ?_
      refine jb_iaload (pc' := 22) (i9 := 2) (f := d) dX12_carriesOf_21 rfl jb_x2 (by decide) rfl ?_
      refine jb_top (v := .int (d 2)) (w := .int (nI (V 0 6))) (jb_vI e2) ?_
      refine jb_isub (pc' := 23) dX12_carriesOf_22 rfl ?_
      refine jb_goto (pc' := 28) dX12_carriesOf_23 (by decide) ?_
      refine jb_istore_ (pc' := 30) dX12_carriesOf_28 (by decide) (jb_at4 rfl) rfl ?_
      refine jb_iload_n (pc' := 31) dX12_carriesOf_30 rfl rfl ?_
      refine jb_iconst (pc' := 32) 3 dX12_carriesOf_31 (by decide) rfl ?_
      refine jb_icmp_ne (tgt := 40) (pc' := 35) dX12_carriesOf_32 (by decide) rfl (fun _ => ?_) (fun z => absurd z (by decide))
      refine jb_iload_n (pc' := 41) dX12_carriesOf_40 rfl rfl ?_
      refine jb_bipush (pc' := 43) 6 dX12_carriesOf_41 (by decide) rfl ?_
      refine jb_icmp_ne (tgt := 58) (pc' := 46) dX12_carriesOf_43 (by decide) rfl (fun _ => ?_) (fun z => absurd z (by decide))
      refine jb_iload_n (pc' := 59) dX12_carriesOf_58 rfl rfl ?_
      refine jb_iconst (pc' := 60) 4 dX12_carriesOf_59 (by decide) rfl ?_
      refine jb_icmp_ne (tgt := 77) (pc' := 63) dX12_carriesOf_60 (by decide) rfl (fun z => absurd (by decide) z) (fun _ => ?_)
      refine jb_iload (pc' := 65) dX12_carriesOf_63 rfl rfl ?_
      refine jb_aload_n (pc' := 66) dX12_carriesOf_65 rfl rfl ?_
      refine jb_iload_n (pc' := 67) dX12_carriesOf_66 rfl rfl ?_
      refine jb_iconst (pc' := 68) 1 dX12_carriesOf_67 (by decide) rfl ?_
      refine jb_callV (pc' := 71) (ci := 12) (q := 105) (As := [.int (nI p), .int 1]) (a2 := 0) (b2 := 0) wv_X12_145 rfl dX12_carriesOf_68 (c_of1 I J d e kp nm W hd0 hk0 p (by omega)) rfl rfl ⟨by decide, Nat.le_of_eq (Nat.zero_add _), Nat.le_of_eq (Nat.zero_add _)⟩ (Nat.le_of_ble_eq_true rfl) rfl (fun r h9 hq => ?_)
      obtain ⟨rfl, rfl⟩ := hq
      show jb_J _ RX12 cX12_carriesOf 6 (Option.some .int) false 46 0 0 71 [some (.ref 105), some (.int (nI p)), some (.int (nI w)), some (.int 4), some (.int (9 - (nI (V 0 6)))), none] [.int (nI (V 2 p)), .int (9 - (nI (V 0 6)))] [s0, s1, s2, s3, s4, s5, s6, s7, s8, s9, jb_mdl I J d e kp nm W, s11] _
      refine jb_iconst (pc' := 72) 3 dX12_carriesOf_71 (by decide) rfl ?_
      refine jb_idiv (pc' := 73) dX12_carriesOf_72 (by decide) rfl ?_
      refine jb_top (v := .int ((nI (V 2 p)) / 3)) (w := .int (nI (V 2 p / 3))) (jb_vI (pk_div (a := V 2 p) (d := 3) (by omega) (by omega) (by omega))) ?_
      refine jb_isub (pc' := 74) dX12_carriesOf_73 rfl ?_
      refine jb_goto (pc' := 91) dX12_carriesOf_74 (by decide) ?_
      refine jb_istore_ (pc' := 93) dX12_carriesOf_91 (by decide) (jb_at5 rfl) rfl ?_
      refine jb_iload (pc' := 95) dX12_carriesOf_93 rfl rfl ?_
      refine jb_aload_n (pc' := 96) dX12_carriesOf_95 rfl rfl ?_
      refine jb_iconst (pc' := 97) 0 dX12_carriesOf_96 (by decide) rfl ?_
      refine jb_iload_n (pc' := 98) dX12_carriesOf_97 rfl rfl ?_
      refine jb_aload_n (pc' := 99) dX12_carriesOf_98 rfl rfl ?_
      refine gf_X12_7 (pc' := 102) (v := .ref 106) dX12_carriesOf_99 rfl rfl rfl ?_
      refine jb_iconst (pc' := 103) 1 dX12_carriesOf_102 (by decide) rfl ?_
      refine jb_iaload (pc' := 104) (i9 := 1) (f := d) dX12_carriesOf_103 rfl jb_x1 (by decide) rfl ?_
      refine jb_top (v := .int (d 1)) (w := .int (nI (V 0 5))) (jb_vI e1) ?_
      refine jb_aload_n (pc' := 105) dX12_carriesOf_104 rfl rfl ?_
      refine gf_X12_7 (pc' := 108) (v := .ref 106) dX12_carriesOf_105 rfl rfl rfl ?_
      refine jb_iconst (pc' := 109) 2 dX12_carriesOf_108 (by decide) rfl ?_
      refine jb_iaload (pc' := 110) (i9 := 2) (f := d) dX12_carriesOf_109 rfl jb_x2 (by decide) rfl ?_
      refine jb_top (v := .int (d 2)) (w := .int (nI (V 0 6))) (jb_vI e2) ?_
      refine jb_iload_n (pc' := 111) dX12_carriesOf_110 rfl rfl ?_
      refine jb_callV (pc' := 114) (ci := 12) (q := 105) (As := [.int 0, .int (nI w), .int (nI (V 0 5)), .int (nI (V 0 6)), .int 4]) (a2 := 0) (b2 := 0) wv_X12_133 rfl dX12_carriesOf_111 (hg _ _ _ _ _ _ _ _ _ _ _ I J d e kp nm W 0 (nI w) (nI (V 0 5)) (nI (V 0 6)) 4 (by decide) hag) rfl rfl ⟨by decide, Nat.le_of_eq (Nat.zero_add _), Nat.le_of_eq (Nat.zero_add _)⟩ (Nat.le_of_ble_eq_true rfl) rfl (fun r h9 hq => ?_)
      obtain ⟨rfl, J9, nm9, rfl⟩ := hq
      show jb_J _ RX12 cX12_carriesOf 6 (Option.some .int) false 46 0 0 114 [some (.ref 105), some (.int (nI p)), some (.int (nI w)), some (.int 4), some (.int (9 - (nI (V 0 6)))), some (.int ((9 - (nI (V 0 6))) - (nI (V 2 p / 3))))] [.int (G 0 (nI w) (nI (V 0 5)) (nI (V 0 6)) 4), .int ((9 - (nI (V 0 6))) - (nI (V 2 p / 3)))] [s0, s1, s2, s3, s4, s5, s6, s7, s8, s9, jb_mdl I J9 d e kp nm9 W, s11] _
      refine jb_iadd (pc' := 115) dX12_carriesOf_114 rfl ?_
      refine jb_iconst (pc' := 116) 0 dX12_carriesOf_115 (by decide) rfl ?_
      refine jb_bipush (pc' := 118) 10 dX12_carriesOf_116 (by decide) rfl ?_
      refine jb_callS (pc' := 121) (As := [.int (((9 - (nI (V 0 6))) - (nI (V 2 p / 3))) + (G 0 (nI w) (nI (V 0 5)) (nI (V 0 6)) 4)), .int 0, .int 10]) (a2 := 0) (b2 := 0) wv_X12_130 dX12_carriesOf_118 (c_held _ (((9 - (nI (V 0 6))) - (nI (V 2 p / 3))) + (G 0 (nI w) (nI (V 0 5)) (nI (V 0 6)) 4)) 0 10) rfl ⟨by decide, Nat.le_of_eq (Nat.zero_add _), Nat.le_of_eq (Nat.zero_add _)⟩ (Nat.le_of_ble_eq_true rfl) rfl (fun r h9 hq => ?_)
      obtain ⟨rfl, rfl⟩ := hq
      show jb_J _ RX12 cX12_carriesOf 6 (Option.some .int) false 46 0 0 121 [some (.ref 105), some (.int (nI p)), some (.int (nI w)), some (.int 4), some (.int (9 - (nI (V 0 6)))), some (.int ((9 - (nI (V 0 6))) - (nI (V 2 p / 3))))] [.int (jm_cl 0 10 (((9 - (nI (V 0 6))) - (nI (V 2 p / 3))) + (G 0 (nI w) (nI (V 0 5)) (nI (V 0 6)) 4)))] [s0, s1, s2, s3, s4, s5, s6, s7, s8, s9, jb_mdl I J9 d e kp nm9 W, s11] _
      refine jb_iret dX12_carriesOf_121 rfl ?_
      exact ⟨congrArg (fun y => some (Value.int y)) (by unfold jm_ca; rw [ek, show jm_owk 4 (V 2 p) (V 0 6) w = jm_pl (V 0 6) w - nI (V 2 p / 3) from rfl, show jm_pl (V 0 6) w = 9 - nI (V 0 6) from if_neg (by omega)]; rfl), _, _, rfl⟩
  · show jb_J _ RX12 cX12_carriesOf 6 (Option.some .int) false 46 0 0 6 [some (.ref 105), some (.int (nI p)), some (.int (nI w)), none, none, none] [.int 5] [s0, s1, s2, s3, s4, s5, s6, s7, s8, s9, jb_mdl I J d e kp nm W, s11] _
    refine jb_istore_n_ (pc' := 7) dX12_carriesOf_6 (by decide) (jb_at3 rfl) rfl ?_
    refine jb_iload_n (pc' := 8) dX12_carriesOf_7 rfl rfl ?_
    refine jb_iconst (pc' := 9) 2 dX12_carriesOf_8 (by decide) rfl ?_
    refine jb_irem (pc' := 10) dX12_carriesOf_9 (by decide) rfl ?_
    refine jb_top (v := .int ((nI w) - (nI w) / 2 * 2)) (w := .int (nI (w % 2))) (jb_vI (pk_rem (a := w) (d := 2) (by omega) (by omega) (by omega))) ?_
    refine jb_iconst (pc' := 11) 1 dX12_carriesOf_10 (by decide) rfl ?_
    refine jb_icmp_ne (tgt := 26) (pc' := 14) dX12_carriesOf_11 (by decide) rfl (fun c38 => ?_) (fun c38 => ?_)
    · have c38 : ¬ (w % 2) = 1 := fun z9 => c38 ((nI_eq (a := (w % 2)) (b := 1) (by omega) (by omega)).mpr z9)
      refine jb_bipush (pc' := 28) 9 dX12_carriesOf_26 (by decide) rfl ?_
      refine jb_istore_ (pc' := 30) dX12_carriesOf_28 (by decide) (jb_at4 rfl) rfl ?_
      refine jb_iload_n (pc' := 31) dX12_carriesOf_30 rfl rfl ?_
      refine jb_iconst (pc' := 32) 3 dX12_carriesOf_31 (by decide) rfl ?_
      refine jb_icmp_ne (tgt := 40) (pc' := 35) dX12_carriesOf_32 (by decide) rfl (fun _ => ?_) (fun z => absurd z (by decide))
      refine jb_iload_n (pc' := 41) dX12_carriesOf_40 rfl rfl ?_
      refine jb_bipush (pc' := 43) 6 dX12_carriesOf_41 (by decide) rfl ?_
      refine jb_icmp_ne (tgt := 58) (pc' := 46) dX12_carriesOf_43 (by decide) rfl (fun _ => ?_) (fun z => absurd z (by decide))
      refine jb_iload_n (pc' := 59) dX12_carriesOf_58 rfl rfl ?_
      refine jb_iconst (pc' := 60) 4 dX12_carriesOf_59 (by decide) rfl ?_
      refine jb_icmp_ne (tgt := 77) (pc' := 63) dX12_carriesOf_60 (by decide) rfl (fun _ => ?_) (fun z => absurd z (by decide))
      refine jb_iload_n (pc' := 78) dX12_carriesOf_77 rfl rfl ?_
      refine jb_iconst (pc' := 79) 5 dX12_carriesOf_78 (by decide) rfl ?_
      refine jb_icmp_ne (tgt := 89) (pc' := 82) dX12_carriesOf_79 (by decide) rfl (fun z => absurd (by decide) z) (fun _ => ?_)
      refine jb_iload (pc' := 84) dX12_carriesOf_82 rfl rfl ?_
      refine jb_iconst (pc' := 85) 2 dX12_carriesOf_84 (by decide) rfl ?_
      refine jb_idiv (pc' := 86) dX12_carriesOf_85 (by decide) rfl ?_
      refine jb_goto (pc' := 91) dX12_carriesOf_86 (by decide) ?_
      refine jb_istore_ (pc' := 93) dX12_carriesOf_91 (by decide) (jb_at5 rfl) rfl ?_
      refine jb_iload (pc' := 95) dX12_carriesOf_93 rfl rfl ?_
      refine jb_aload_n (pc' := 96) dX12_carriesOf_95 rfl rfl ?_
      refine jb_iconst (pc' := 97) 0 dX12_carriesOf_96 (by decide) rfl ?_
      refine jb_iload_n (pc' := 98) dX12_carriesOf_97 rfl rfl ?_
      refine jb_aload_n (pc' := 99) dX12_carriesOf_98 rfl rfl ?_
      refine gf_X12_7 (pc' := 102) (v := .ref 106) dX12_carriesOf_99 rfl rfl rfl ?_
      refine jb_iconst (pc' := 103) 1 dX12_carriesOf_102 (by decide) rfl ?_
      refine jb_iaload (pc' := 104) (i9 := 1) (f := d) dX12_carriesOf_103 rfl jb_x1 (by decide) rfl ?_
      refine jb_top (v := .int (d 1)) (w := .int (nI (V 0 5))) (jb_vI e1) ?_
      refine jb_aload_n (pc' := 105) dX12_carriesOf_104 rfl rfl ?_
      refine gf_X12_7 (pc' := 108) (v := .ref 106) dX12_carriesOf_105 rfl rfl rfl ?_
      refine jb_iconst (pc' := 109) 2 dX12_carriesOf_108 (by decide) rfl ?_
      refine jb_iaload (pc' := 110) (i9 := 2) (f := d) dX12_carriesOf_109 rfl jb_x2 (by decide) rfl ?_
      refine jb_top (v := .int (d 2)) (w := .int (nI (V 0 6))) (jb_vI e2) ?_
      refine jb_iload_n (pc' := 111) dX12_carriesOf_110 rfl rfl ?_
      refine jb_callV (pc' := 114) (ci := 12) (q := 105) (As := [.int 0, .int (nI w), .int (nI (V 0 5)), .int (nI (V 0 6)), .int 5]) (a2 := 0) (b2 := 0) wv_X12_133 rfl dX12_carriesOf_111 (hg _ _ _ _ _ _ _ _ _ _ _ I J d e kp nm W 0 (nI w) (nI (V 0 5)) (nI (V 0 6)) 5 (by decide) hag) rfl rfl ⟨by decide, Nat.le_of_eq (Nat.zero_add _), Nat.le_of_eq (Nat.zero_add _)⟩ (Nat.le_of_ble_eq_true rfl) rfl (fun r h9 hq => ?_)
      obtain ⟨rfl, J9, nm9, rfl⟩ := hq
      show jb_J _ RX12 cX12_carriesOf 6 (Option.some .int) false 46 0 0 114 [some (.ref 105), some (.int (nI p)), some (.int (nI w)), some (.int 5), some (.int 9), some (.int (9 / 2))] [.int (G 0 (nI w) (nI (V 0 5)) (nI (V 0 6)) 5), .int (9 / 2)] [s0, s1, s2, s3, s4, s5, s6, s7, s8, s9, jb_mdl I J9 d e kp nm9 W, s11] _
      refine jb_iadd (pc' := 115) dX12_carriesOf_114 rfl ?_
      refine jb_iconst (pc' := 116) 0 dX12_carriesOf_115 (by decide) rfl ?_
      refine jb_bipush (pc' := 118) 10 dX12_carriesOf_116 (by decide) rfl ?_
      refine jb_callS (pc' := 121) (As := [.int ((9 / 2) + (G 0 (nI w) (nI (V 0 5)) (nI (V 0 6)) 5)), .int 0, .int 10]) (a2 := 0) (b2 := 0) wv_X12_130 dX12_carriesOf_118 (c_held _ ((9 / 2) + (G 0 (nI w) (nI (V 0 5)) (nI (V 0 6)) 5)) 0 10) rfl ⟨by decide, Nat.le_of_eq (Nat.zero_add _), Nat.le_of_eq (Nat.zero_add _)⟩ (Nat.le_of_ble_eq_true rfl) rfl (fun r h9 hq => ?_)
      obtain ⟨rfl, rfl⟩ := hq
      show jb_J _ RX12 cX12_carriesOf 6 (Option.some .int) false 46 0 0 121 [some (.ref 105), some (.int (nI p)), some (.int (nI w)), some (.int 5), some (.int 9), some (.int (9 / 2))] [.int (jm_cl 0 10 ((9 / 2) + (G 0 (nI w) (nI (V 0 5)) (nI (V 0 6)) 5)))] [s0, s1, s2, s3, s4, s5, s6, s7, s8, s9, jb_mdl I J9 d e kp nm9 W, s11] _
      refine jb_iret dX12_carriesOf_121 rfl ?_
      exact ⟨congrArg (fun y => some (Value.int y)) (by unfold jm_ca; rw [ek, show jm_owk 5 (V 2 p) (V 0 6) w = jm_pl (V 0 6) w / 2 from rfl, show jm_pl (V 0 6) w = 9 from if_pos (by omega)]; rfl), _, _, rfl⟩
    · have c38 : (w % 2) = 1 := (nI_eq (a := (w % 2)) (b := 1) (by omega) (by omega)).mp c38
      refine jb_bipush (pc' := 16) 9 dX12_carriesOf_14 (by decide) rfl ?_
      refine jb_aload_n (pc' := 17) dX12_carriesOf_16 rfl rfl ?_
      refine gf_X12_7 (pc' := 20) (v := .ref 106) dX12_carriesOf_17 rfl rfl rfl ?_
      refine jb_iconst (pc' := 21) 2 dX12_carriesOf_20 (by decide) rfl ?_
      refine jb_iaload (pc' := 22) (i9 := 2) (f := d) dX12_carriesOf_21 rfl jb_x2 (by decide) rfl ?_
      refine jb_top (v := .int (d 2)) (w := .int (nI (V 0 6))) (jb_vI e2) ?_
      refine jb_isub (pc' := 23) dX12_carriesOf_22 rfl ?_
      refine jb_goto (pc' := 28) dX12_carriesOf_23 (by decide) ?_
      refine jb_istore_ (pc' := 30) dX12_carriesOf_28 (by decide) (jb_at4 rfl) rfl ?_
      refine jb_iload_n (pc' := 31) dX12_carriesOf_30 rfl rfl ?_
      refine jb_iconst (pc' := 32) 3 dX12_carriesOf_31 (by decide) rfl ?_
      refine jb_icmp_ne (tgt := 40) (pc' := 35) dX12_carriesOf_32 (by decide) rfl (fun _ => ?_) (fun z => absurd z (by decide))
      refine jb_iload_n (pc' := 41) dX12_carriesOf_40 rfl rfl ?_
      refine jb_bipush (pc' := 43) 6 dX12_carriesOf_41 (by decide) rfl ?_
      refine jb_icmp_ne (tgt := 58) (pc' := 46) dX12_carriesOf_43 (by decide) rfl (fun _ => ?_) (fun z => absurd z (by decide))
      refine jb_iload_n (pc' := 59) dX12_carriesOf_58 rfl rfl ?_
      refine jb_iconst (pc' := 60) 4 dX12_carriesOf_59 (by decide) rfl ?_
      refine jb_icmp_ne (tgt := 77) (pc' := 63) dX12_carriesOf_60 (by decide) rfl (fun _ => ?_) (fun z => absurd z (by decide))
      refine jb_iload_n (pc' := 78) dX12_carriesOf_77 rfl rfl ?_
      refine jb_iconst (pc' := 79) 5 dX12_carriesOf_78 (by decide) rfl ?_
      refine jb_icmp_ne (tgt := 89) (pc' := 82) dX12_carriesOf_79 (by decide) rfl (fun z => absurd (by decide) z) (fun _ => ?_)
      refine jb_iload (pc' := 84) dX12_carriesOf_82 rfl rfl ?_
      refine jb_iconst (pc' := 85) 2 dX12_carriesOf_84 (by decide) rfl ?_
      refine jb_idiv (pc' := 86) dX12_carriesOf_85 (by decide) rfl ?_
      refine jb_goto (pc' := 91) dX12_carriesOf_86 (by decide) ?_
      refine jb_istore_ (pc' := 93) dX12_carriesOf_91 (by decide) (jb_at5 rfl) rfl ?_
      refine jb_iload (pc' := 95) dX12_carriesOf_93 rfl rfl ?_
      refine jb_aload_n (pc' := 96) dX12_carriesOf_95 rfl rfl ?_
      refine jb_iconst (pc' := 97) 0 dX12_carriesOf_96 (by decide) rfl ?_
      refine jb_iload_n (pc' := 98) dX12_carriesOf_97 rfl rfl ?_
      refine jb_aload_n (pc' := 99) dX12_carriesOf_98 rfl rfl ?_
      refine gf_X12_7 (pc' := 102) (v := .ref 106) dX12_carriesOf_99 rfl rfl rfl ?_
      refine jb_iconst (pc' := 103) 1 dX12_carriesOf_102 (by decide) rfl ?_
      refine jb_iaload (pc' := 104) (i9 := 1) (f := d) dX12_carriesOf_103 rfl jb_x1 (by decide) rfl ?_
      refine jb_top (v := .int (d 1)) (w := .int (nI (V 0 5))) (jb_vI e1) ?_
      refine jb_aload_n (pc' := 105) dX12_carriesOf_104 rfl rfl ?_
      refine gf_X12_7 (pc' := 108) (v := .ref 106) dX12_carriesOf_105 rfl rfl rfl ?_
      refine jb_iconst (pc' := 109) 2 dX12_carriesOf_108 (by decide) rfl ?_
      refine jb_iaload (pc' := 110) (i9 := 2) (f := d) dX12_carriesOf_109 rfl jb_x2 (by decide) rfl ?_
      refine jb_top (v := .int (d 2)) (w := .int (nI (V 0 6))) (jb_vI e2) ?_
      refine jb_iload_n (pc' := 111) dX12_carriesOf_110 rfl rfl ?_
      refine jb_callV (pc' := 114) (ci := 12) (q := 105) (As := [.int 0, .int (nI w), .int (nI (V 0 5)), .int (nI (V 0 6)), .int 5]) (a2 := 0) (b2 := 0) wv_X12_133 rfl dX12_carriesOf_111 (hg _ _ _ _ _ _ _ _ _ _ _ I J d e kp nm W 0 (nI w) (nI (V 0 5)) (nI (V 0 6)) 5 (by decide) hag) rfl rfl ⟨by decide, Nat.le_of_eq (Nat.zero_add _), Nat.le_of_eq (Nat.zero_add _)⟩ (Nat.le_of_ble_eq_true rfl) rfl (fun r h9 hq => ?_)
      obtain ⟨rfl, J9, nm9, rfl⟩ := hq
      show jb_J _ RX12 cX12_carriesOf 6 (Option.some .int) false 46 0 0 114 [some (.ref 105), some (.int (nI p)), some (.int (nI w)), some (.int 5), some (.int (9 - (nI (V 0 6)))), some (.int ((9 - (nI (V 0 6))) / 2))] [.int (G 0 (nI w) (nI (V 0 5)) (nI (V 0 6)) 5), .int ((9 - (nI (V 0 6))) / 2)] [s0, s1, s2, s3, s4, s5, s6, s7, s8, s9, jb_mdl I J9 d e kp nm9 W, s11] _
      refine jb_iadd (pc' := 115) dX12_carriesOf_114 rfl ?_
      refine jb_iconst (pc' := 116) 0 dX12_carriesOf_115 (by decide) rfl ?_
      refine jb_bipush (pc' := 118) 10 dX12_carriesOf_116 (by decide) rfl ?_
      refine jb_callS (pc' := 121) (As := [.int (((9 - (nI (V 0 6))) / 2) + (G 0 (nI w) (nI (V 0 5)) (nI (V 0 6)) 5)), .int 0, .int 10]) (a2 := 0) (b2 := 0) wv_X12_130 dX12_carriesOf_118 (c_held _ (((9 - (nI (V 0 6))) / 2) + (G 0 (nI w) (nI (V 0 5)) (nI (V 0 6)) 5)) 0 10) rfl ⟨by decide, Nat.le_of_eq (Nat.zero_add _), Nat.le_of_eq (Nat.zero_add _)⟩ (Nat.le_of_ble_eq_true rfl) rfl (fun r h9 hq => ?_)
      obtain ⟨rfl, rfl⟩ := hq
      show jb_J _ RX12 cX12_carriesOf 6 (Option.some .int) false 46 0 0 121 [some (.ref 105), some (.int (nI p)), some (.int (nI w)), some (.int 5), some (.int (9 - (nI (V 0 6)))), some (.int ((9 - (nI (V 0 6))) / 2))] [.int (jm_cl 0 10 (((9 - (nI (V 0 6))) / 2) + (G 0 (nI w) (nI (V 0 5)) (nI (V 0 6)) 5)))] [s0, s1, s2, s3, s4, s5, s6, s7, s8, s9, jb_mdl I J9 d e kp nm9 W, s11] _
      refine jb_iret dX12_carriesOf_121 rfl ?_
      exact ⟨congrArg (fun y => some (Value.int y)) (by unfold jm_ca; rw [ek, show jm_owk 5 (V 2 p) (V 0 6) w = jm_pl (V 0 6) w / 2 from rfl, show jm_pl (V 0 6) w = 9 - nI (V 0 6) from if_neg (by omega)]; rfl), _, _, rfl⟩
  · show jb_J _ RX12 cX12_carriesOf 6 (Option.some .int) false 46 0 0 6 [some (.ref 105), some (.int (nI p)), some (.int (nI w)), none, none, none] [.int 6] [s0, s1, s2, s3, s4, s5, s6, s7, s8, s9, jb_mdl I J d e kp nm W, s11] _
    refine jb_istore_n_ (pc' := 7) dX12_carriesOf_6 (by decide) (jb_at3 rfl) rfl ?_
    refine jb_iload_n (pc' := 8) dX12_carriesOf_7 rfl rfl ?_
    refine jb_iconst (pc' := 9) 2 dX12_carriesOf_8 (by decide) rfl ?_
    refine jb_irem (pc' := 10) dX12_carriesOf_9 (by decide) rfl ?_
    refine jb_top (v := .int ((nI w) - (nI w) / 2 * 2)) (w := .int (nI (w % 2))) (jb_vI (pk_rem (a := w) (d := 2) (by omega) (by omega) (by omega))) ?_
    refine jb_iconst (pc' := 11) 1 dX12_carriesOf_10 (by decide) rfl ?_
    refine jb_icmp_ne (tgt := 26) (pc' := 14) dX12_carriesOf_11 (by decide) rfl (fun c47 => ?_) (fun c47 => ?_)
    · have c47 : ¬ (w % 2) = 1 := fun z9 => c47 ((nI_eq (a := (w % 2)) (b := 1) (by omega) (by omega)).mpr z9)
      refine jb_bipush (pc' := 28) 9 dX12_carriesOf_26 (by decide) rfl ?_
      refine jb_istore_ (pc' := 30) dX12_carriesOf_28 (by decide) (jb_at4 rfl) rfl ?_
      refine jb_iload_n (pc' := 31) dX12_carriesOf_30 rfl rfl ?_
      refine jb_iconst (pc' := 32) 3 dX12_carriesOf_31 (by decide) rfl ?_
      refine jb_icmp_ne (tgt := 40) (pc' := 35) dX12_carriesOf_32 (by decide) rfl (fun _ => ?_) (fun z => absurd z (by decide))
      refine jb_iload_n (pc' := 41) dX12_carriesOf_40 rfl rfl ?_
      refine jb_bipush (pc' := 43) 6 dX12_carriesOf_41 (by decide) rfl ?_
      refine jb_icmp_ne (tgt := 58) (pc' := 46) dX12_carriesOf_43 (by decide) rfl (fun z => absurd (by decide) z) (fun _ => ?_)
      refine jb_bipush (pc' := 48) 10 dX12_carriesOf_46 (by decide) rfl ?_
      refine jb_aload_n (pc' := 49) dX12_carriesOf_48 rfl rfl ?_
      refine gf_X12_7 (pc' := 52) (v := .ref 106) dX12_carriesOf_49 rfl rfl rfl ?_
      refine jb_iconst (pc' := 53) 2 dX12_carriesOf_52 (by decide) rfl ?_
      refine jb_iaload (pc' := 54) (i9 := 2) (f := d) dX12_carriesOf_53 rfl jb_x2 (by decide) rfl ?_
      refine jb_top (v := .int (d 2)) (w := .int (nI (V 0 6))) (jb_vI e2) ?_
      refine jb_isub (pc' := 55) dX12_carriesOf_54 rfl ?_
      refine jb_goto (pc' := 91) dX12_carriesOf_55 (by decide) ?_
      refine jb_istore_ (pc' := 93) dX12_carriesOf_91 (by decide) (jb_at5 rfl) rfl ?_
      refine jb_iload (pc' := 95) dX12_carriesOf_93 rfl rfl ?_
      refine jb_aload_n (pc' := 96) dX12_carriesOf_95 rfl rfl ?_
      refine jb_iconst (pc' := 97) 0 dX12_carriesOf_96 (by decide) rfl ?_
      refine jb_iload_n (pc' := 98) dX12_carriesOf_97 rfl rfl ?_
      refine jb_aload_n (pc' := 99) dX12_carriesOf_98 rfl rfl ?_
      refine gf_X12_7 (pc' := 102) (v := .ref 106) dX12_carriesOf_99 rfl rfl rfl ?_
      refine jb_iconst (pc' := 103) 1 dX12_carriesOf_102 (by decide) rfl ?_
      refine jb_iaload (pc' := 104) (i9 := 1) (f := d) dX12_carriesOf_103 rfl jb_x1 (by decide) rfl ?_
      refine jb_top (v := .int (d 1)) (w := .int (nI (V 0 5))) (jb_vI e1) ?_
      refine jb_aload_n (pc' := 105) dX12_carriesOf_104 rfl rfl ?_
      refine gf_X12_7 (pc' := 108) (v := .ref 106) dX12_carriesOf_105 rfl rfl rfl ?_
      refine jb_iconst (pc' := 109) 2 dX12_carriesOf_108 (by decide) rfl ?_
      refine jb_iaload (pc' := 110) (i9 := 2) (f := d) dX12_carriesOf_109 rfl jb_x2 (by decide) rfl ?_
      refine jb_top (v := .int (d 2)) (w := .int (nI (V 0 6))) (jb_vI e2) ?_
      refine jb_iload_n (pc' := 111) dX12_carriesOf_110 rfl rfl ?_
      refine jb_callV (pc' := 114) (ci := 12) (q := 105) (As := [.int 0, .int (nI w), .int (nI (V 0 5)), .int (nI (V 0 6)), .int 6]) (a2 := 0) (b2 := 0) wv_X12_133 rfl dX12_carriesOf_111 (hg _ _ _ _ _ _ _ _ _ _ _ I J d e kp nm W 0 (nI w) (nI (V 0 5)) (nI (V 0 6)) 6 (by decide) hag) rfl rfl ⟨by decide, Nat.le_of_eq (Nat.zero_add _), Nat.le_of_eq (Nat.zero_add _)⟩ (Nat.le_of_ble_eq_true rfl) rfl (fun r h9 hq => ?_)
      obtain ⟨rfl, J9, nm9, rfl⟩ := hq
      show jb_J _ RX12 cX12_carriesOf 6 (Option.some .int) false 46 0 0 114 [some (.ref 105), some (.int (nI p)), some (.int (nI w)), some (.int 6), some (.int 9), some (.int (10 - (nI (V 0 6))))] [.int (G 0 (nI w) (nI (V 0 5)) (nI (V 0 6)) 6), .int (10 - (nI (V 0 6)))] [s0, s1, s2, s3, s4, s5, s6, s7, s8, s9, jb_mdl I J9 d e kp nm9 W, s11] _
      refine jb_iadd (pc' := 115) dX12_carriesOf_114 rfl ?_
      refine jb_iconst (pc' := 116) 0 dX12_carriesOf_115 (by decide) rfl ?_
      refine jb_bipush (pc' := 118) 10 dX12_carriesOf_116 (by decide) rfl ?_
      refine jb_callS (pc' := 121) (As := [.int ((10 - (nI (V 0 6))) + (G 0 (nI w) (nI (V 0 5)) (nI (V 0 6)) 6)), .int 0, .int 10]) (a2 := 0) (b2 := 0) wv_X12_130 dX12_carriesOf_118 (c_held _ ((10 - (nI (V 0 6))) + (G 0 (nI w) (nI (V 0 5)) (nI (V 0 6)) 6)) 0 10) rfl ⟨by decide, Nat.le_of_eq (Nat.zero_add _), Nat.le_of_eq (Nat.zero_add _)⟩ (Nat.le_of_ble_eq_true rfl) rfl (fun r h9 hq => ?_)
      obtain ⟨rfl, rfl⟩ := hq
      show jb_J _ RX12 cX12_carriesOf 6 (Option.some .int) false 46 0 0 121 [some (.ref 105), some (.int (nI p)), some (.int (nI w)), some (.int 6), some (.int 9), some (.int (10 - (nI (V 0 6))))] [.int (jm_cl 0 10 ((10 - (nI (V 0 6))) + (G 0 (nI w) (nI (V 0 5)) (nI (V 0 6)) 6)))] [s0, s1, s2, s3, s4, s5, s6, s7, s8, s9, jb_mdl I J9 d e kp nm9 W, s11] _
      refine jb_iret dX12_carriesOf_121 rfl ?_
      exact ⟨congrArg (fun y => some (Value.int y)) (by unfold jm_ca; rw [ek, show jm_owk 6 (V 2 p) (V 0 6) w = 10 - nI (V 0 6) from rfl]; rfl), _, _, rfl⟩
    · have c47 : (w % 2) = 1 := (nI_eq (a := (w % 2)) (b := 1) (by omega) (by omega)).mp c47
      refine jb_bipush (pc' := 16) 9 dX12_carriesOf_14 (by decide) rfl ?_
      refine jb_aload_n (pc' := 17) dX12_carriesOf_16 rfl rfl ?_
      refine gf_X12_7 (pc' := 20) (v := .ref 106) dX12_carriesOf_17 rfl rfl rfl ?_
      refine jb_iconst (pc' := 21) 2 dX12_carriesOf_20 (by decide) rfl ?_
      refine jb_iaload (pc' := 22) (i9 := 2) (f := d) dX12_carriesOf_21 rfl jb_x2 (by decide) rfl ?_
      refine jb_top (v := .int (d 2)) (w := .int (nI (V 0 6))) (jb_vI e2) ?_
      refine jb_isub (pc' := 23) dX12_carriesOf_22 rfl ?_
      refine jb_goto (pc' := 28) dX12_carriesOf_23 (by decide) ?_
      refine jb_istore_ (pc' := 30) dX12_carriesOf_28 (by decide) (jb_at4 rfl) rfl ?_
      refine jb_iload_n (pc' := 31) dX12_carriesOf_30 rfl rfl ?_
      refine jb_iconst (pc' := 32) 3 dX12_carriesOf_31 (by decide) rfl ?_
      refine jb_icmp_ne (tgt := 40) (pc' := 35) dX12_carriesOf_32 (by decide) rfl (fun _ => ?_) (fun z => absurd z (by decide))
      refine jb_iload_n (pc' := 41) dX12_carriesOf_40 rfl rfl ?_
      refine jb_bipush (pc' := 43) 6 dX12_carriesOf_41 (by decide) rfl ?_
      refine jb_icmp_ne (tgt := 58) (pc' := 46) dX12_carriesOf_43 (by decide) rfl (fun z => absurd (by decide) z) (fun _ => ?_)
      refine jb_bipush (pc' := 48) 10 dX12_carriesOf_46 (by decide) rfl ?_
      refine jb_aload_n (pc' := 49) dX12_carriesOf_48 rfl rfl ?_
      refine gf_X12_7 (pc' := 52) (v := .ref 106) dX12_carriesOf_49 rfl rfl rfl ?_
      refine jb_iconst (pc' := 53) 2 dX12_carriesOf_52 (by decide) rfl ?_
      refine jb_iaload (pc' := 54) (i9 := 2) (f := d) dX12_carriesOf_53 rfl jb_x2 (by decide) rfl ?_
      refine jb_top (v := .int (d 2)) (w := .int (nI (V 0 6))) (jb_vI e2) ?_
      refine jb_isub (pc' := 55) dX12_carriesOf_54 rfl ?_
      refine jb_goto (pc' := 91) dX12_carriesOf_55 (by decide) ?_
      refine jb_istore_ (pc' := 93) dX12_carriesOf_91 (by decide) (jb_at5 rfl) rfl ?_
      refine jb_iload (pc' := 95) dX12_carriesOf_93 rfl rfl ?_
      refine jb_aload_n (pc' := 96) dX12_carriesOf_95 rfl rfl ?_
      refine jb_iconst (pc' := 97) 0 dX12_carriesOf_96 (by decide) rfl ?_
      refine jb_iload_n (pc' := 98) dX12_carriesOf_97 rfl rfl ?_
      refine jb_aload_n (pc' := 99) dX12_carriesOf_98 rfl rfl ?_
      refine gf_X12_7 (pc' := 102) (v := .ref 106) dX12_carriesOf_99 rfl rfl rfl ?_
      refine jb_iconst (pc' := 103) 1 dX12_carriesOf_102 (by decide) rfl ?_
      refine jb_iaload (pc' := 104) (i9 := 1) (f := d) dX12_carriesOf_103 rfl jb_x1 (by decide) rfl ?_
      refine jb_top (v := .int (d 1)) (w := .int (nI (V 0 5))) (jb_vI e1) ?_
      refine jb_aload_n (pc' := 105) dX12_carriesOf_104 rfl rfl ?_
      refine gf_X12_7 (pc' := 108) (v := .ref 106) dX12_carriesOf_105 rfl rfl rfl ?_
      refine jb_iconst (pc' := 109) 2 dX12_carriesOf_108 (by decide) rfl ?_
      refine jb_iaload (pc' := 110) (i9 := 2) (f := d) dX12_carriesOf_109 rfl jb_x2 (by decide) rfl ?_
      refine jb_top (v := .int (d 2)) (w := .int (nI (V 0 6))) (jb_vI e2) ?_
      refine jb_iload_n (pc' := 111) dX12_carriesOf_110 rfl rfl ?_
      refine jb_callV (pc' := 114) (ci := 12) (q := 105) (As := [.int 0, .int (nI w), .int (nI (V 0 5)), .int (nI (V 0 6)), .int 6]) (a2 := 0) (b2 := 0) wv_X12_133 rfl dX12_carriesOf_111 (hg _ _ _ _ _ _ _ _ _ _ _ I J d e kp nm W 0 (nI w) (nI (V 0 5)) (nI (V 0 6)) 6 (by decide) hag) rfl rfl ⟨by decide, Nat.le_of_eq (Nat.zero_add _), Nat.le_of_eq (Nat.zero_add _)⟩ (Nat.le_of_ble_eq_true rfl) rfl (fun r h9 hq => ?_)
      obtain ⟨rfl, J9, nm9, rfl⟩ := hq
      show jb_J _ RX12 cX12_carriesOf 6 (Option.some .int) false 46 0 0 114 [some (.ref 105), some (.int (nI p)), some (.int (nI w)), some (.int 6), some (.int (9 - (nI (V 0 6)))), some (.int (10 - (nI (V 0 6))))] [.int (G 0 (nI w) (nI (V 0 5)) (nI (V 0 6)) 6), .int (10 - (nI (V 0 6)))] [s0, s1, s2, s3, s4, s5, s6, s7, s8, s9, jb_mdl I J9 d e kp nm9 W, s11] _
      refine jb_iadd (pc' := 115) dX12_carriesOf_114 rfl ?_
      refine jb_iconst (pc' := 116) 0 dX12_carriesOf_115 (by decide) rfl ?_
      refine jb_bipush (pc' := 118) 10 dX12_carriesOf_116 (by decide) rfl ?_
      refine jb_callS (pc' := 121) (As := [.int ((10 - (nI (V 0 6))) + (G 0 (nI w) (nI (V 0 5)) (nI (V 0 6)) 6)), .int 0, .int 10]) (a2 := 0) (b2 := 0) wv_X12_130 dX12_carriesOf_118 (c_held _ ((10 - (nI (V 0 6))) + (G 0 (nI w) (nI (V 0 5)) (nI (V 0 6)) 6)) 0 10) rfl ⟨by decide, Nat.le_of_eq (Nat.zero_add _), Nat.le_of_eq (Nat.zero_add _)⟩ (Nat.le_of_ble_eq_true rfl) rfl (fun r h9 hq => ?_)
      obtain ⟨rfl, rfl⟩ := hq
      show jb_J _ RX12 cX12_carriesOf 6 (Option.some .int) false 46 0 0 121 [some (.ref 105), some (.int (nI p)), some (.int (nI w)), some (.int 6), some (.int (9 - (nI (V 0 6)))), some (.int (10 - (nI (V 0 6))))] [.int (jm_cl 0 10 ((10 - (nI (V 0 6))) + (G 0 (nI w) (nI (V 0 5)) (nI (V 0 6)) 6)))] [s0, s1, s2, s3, s4, s5, s6, s7, s8, s9, jb_mdl I J9 d e kp nm9 W, s11] _
      refine jb_iret dX12_carriesOf_121 rfl ?_
      exact ⟨congrArg (fun y => some (Value.int y)) (by unfold jm_ca; rw [ek, show jm_owk 6 (V 2 p) (V 0 6) w = 10 - nI (V 0 6) from rfl]; rfl), _, _, rfl⟩
set_option maxRecDepth 100000 in
set_option maxHeartbeats 4000000 in
theorem c_saysOf {sc : Nat × (Nat → Int32)} {s0 s1 s2 s3 s4 s5 s6 s7 s8 s9 s11 : List va_E} {V : Nat → Nat → Nat} (I J d e kp nm : Nat → Int32) (W : Nat → Nat → Int32) (hd : jd_ V d) (hk : jv_ok V) {G : jm_G} (hG : jm_Gok G) {d0 : Nat → Int32} (hg : jGm sc d0 G) (hag : ∀ k, 316 ≤ k → d k = d0 k) (p w : Nat) (hp : p < V 0 1) (hw : w < 40) : jb_C sc yX12_saysOf cX12_saysOf 6 (Option.some .int) 46 0 0 [.ref 105, .int (nI p), .int (nI w)] [s0, s1, s2, s3, s4, s5, s6, s7, s8, s9, jb_mdl I J d e kp nm W, s11] (fun r h9 => r = some (.int (nI (jm_sa V G p w))) ∧ ∃ J9 nm9, h9 = [s0, s1, s2, s3, s4, s5, s6, s7, s8, s9, jb_mdl I J9 d e kp nm9 W, s11]) := by
  refine jb_CofJ (ini := false) (by decide +kernel) (fun h => by cases h) (Nat.le_of_ble_eq_true rfl) ?_
  show jb_J sc RX12 cX12_saysOf 6 (Option.some .int) false 46 0 0 0 [some (.ref 105), some (.int (nI p)), some (.int (nI w)), none, none, none] [] [s0, s1, s2, s3, s4, s5, s6, s7, s8, s9, jb_mdl I J d e kp nm W, s11] _
  have hd0 := hd
  have hk0 := hk
  obtain ⟨e0, e1, e2, e3, e4, e5, e6, dv, ds, dd⟩ := hd
  obtain ⟨k0, k1, k2, k3, k4, k5, k6, k7, kv, ks, kd⟩ := hk
  have q0 := kv p hp
  refine jb_aload_n (pc' := 1) dX12_saysOf_0 rfl rfl ?_
  refine jb_iload_n (pc' := 2) dX12_saysOf_1 rfl rfl ?_
  refine jb_iconst (pc' := 3) 0 dX12_saysOf_2 (by decide) rfl ?_
  refine jb_callV (pc' := 6) (ci := 12) (q := 105) (As := [.int (nI p), .int 0]) (a2 := 0) (b2 := 0) wv_X12_145 rfl dX12_saysOf_3 (c_ofk I J d e kp nm W hd0 hk0 p (by omega)) rfl rfl ⟨by decide, Nat.le_of_eq (Nat.zero_add _), Nat.le_of_eq (Nat.zero_add _)⟩ (Nat.le_of_ble_eq_true rfl) rfl (fun r h9 hq => ?_)
  rcases hq with ⟨rfl, ⟨ek, rfl⟩ | ⟨ek, rfl⟩ | ⟨ek, rfl⟩ | ⟨ek, rfl⟩ | ⟨ek, rfl⟩ | ⟨ek, rfl⟩ | ⟨ek, rfl⟩⟩
  · show jb_J _ RX12 cX12_saysOf 6 (Option.some .int) false 46 0 0 6 [some (.ref 105), some (.int (nI p)), some (.int (nI w)), none, none, none] [.int 0] [s0, s1, s2, s3, s4, s5, s6, s7, s8, s9, jb_mdl I J d e kp nm W, s11] _
    refine jb_istore_n_ (pc' := 7) dX12_saysOf_6 (by decide) (jb_at3 rfl) rfl ?_
    refine jb_aload_n (pc' := 8) dX12_saysOf_7 rfl rfl ?_
    refine jb_iload_n (pc' := 9) dX12_saysOf_8 rfl rfl ?_
    refine jb_iconst (pc' := 10) 1 dX12_saysOf_9 (by decide) rfl ?_
    refine jb_callV (pc' := 13) (ci := 12) (q := 105) (As := [.int (nI p), .int 1]) (a2 := 0) (b2 := 0) wv_X12_145 rfl dX12_saysOf_10 (c_of1 I J d e kp nm W hd0 hk0 p (by omega)) rfl rfl ⟨by decide, Nat.le_of_eq (Nat.zero_add _), Nat.le_of_eq (Nat.zero_add _)⟩ (Nat.le_of_ble_eq_true rfl) rfl (fun r h9 hq => ?_)
    obtain ⟨rfl, rfl⟩ := hq
    show jb_J _ RX12 cX12_saysOf 6 (Option.some .int) false 46 0 0 13 [some (.ref 105), some (.int (nI p)), some (.int (nI w)), some (.int 0), none, none] [.int (nI (V 2 p))] [s0, s1, s2, s3, s4, s5, s6, s7, s8, s9, jb_mdl I J d e kp nm W, s11] _
    refine jb_istore_ (pc' := 15) dX12_saysOf_13 (by decide) (jb_at4 rfl) rfl ?_
    refine jb_iload_n (pc' := 16) dX12_saysOf_15 rfl rfl ?_
    refine jb_bipush (pc' := 18) 6 dX12_saysOf_16 (by decide) rfl ?_
    refine jb_icmp_ne (tgt := 23) (pc' := 21) dX12_saysOf_18 (by decide) rfl (fun _ => ?_) (fun z => absurd z (by decide))
    refine jb_aload_n (pc' := 24) dX12_saysOf_23 rfl rfl ?_
    refine jb_iconst (pc' := 25) 1 dX12_saysOf_24 (by decide) rfl ?_
    refine jb_iload_n (pc' := 26) dX12_saysOf_25 rfl rfl ?_
    refine jb_iload (pc' := 28) dX12_saysOf_26 rfl rfl ?_
    refine jb_aload_n (pc' := 29) dX12_saysOf_28 rfl rfl ?_
    refine jb_iload_n (pc' := 30) dX12_saysOf_29 rfl rfl ?_
    refine jb_iconst (pc' := 31) 2 dX12_saysOf_30 (by decide) rfl ?_
    refine jb_callV (pc' := 34) (ci := 12) (q := 105) (As := [.int (nI p), .int 2]) (a2 := 0) (b2 := 0) wv_X12_145 rfl dX12_saysOf_31 (c_of2 I J d e kp nm W hd0 hk0 p (by omega)) rfl rfl ⟨by decide, Nat.le_of_eq (Nat.zero_add _), Nat.le_of_eq (Nat.zero_add _)⟩ (Nat.le_of_ble_eq_true rfl) rfl (fun r h9 hq => ?_)
    obtain ⟨rfl, rfl⟩ := hq
    show jb_J _ RX12 cX12_saysOf 6 (Option.some .int) false 46 0 0 34 [some (.ref 105), some (.int (nI p)), some (.int (nI w)), some (.int 0), some (.int (nI (V 2 p))), none] [.int (nI (V 3 p)), .int (nI (V 2 p)), .int (nI w), .int 1, .ref 105] [s0, s1, s2, s3, s4, s5, s6, s7, s8, s9, jb_mdl I J d e kp nm W, s11] _
    refine jb_iconst (pc' := 35) 0 dX12_saysOf_34 (by decide) rfl ?_
    refine jb_callV (pc' := 38) (ci := 12) (q := 105) (As := [.int 1, .int (nI w), .int (nI (V 2 p)), .int (nI (V 3 p)), .int 0]) (a2 := 0) (b2 := 0) wv_X12_133 rfl dX12_saysOf_35 (hg _ _ _ _ _ _ _ _ _ _ _ I J d e kp nm W 1 (nI w) (nI (V 2 p)) (nI (V 3 p)) 0 (by decide) hag) rfl rfl ⟨by decide, Nat.le_of_eq (Nat.zero_add _), Nat.le_of_eq (Nat.zero_add _)⟩ (Nat.le_of_ble_eq_true rfl) rfl (fun r h9 hq => ?_)
    obtain ⟨rfl, J9, nm9, rfl⟩ := hq
    obtain ⟨g, hg1, hg2⟩ := hG (nI w) (nI (V 2 p)) (nI (V 3 p)) 0
    show jb_J _ RX12 cX12_saysOf 6 (Option.some .int) false 46 0 0 38 [some (.ref 105), some (.int (nI p)), some (.int (nI w)), some (.int 0), some (.int (nI (V 2 p))), none] [.int (G 1 (nI w) (nI (V 2 p)) (nI (V 3 p)) 0)] [s0, s1, s2, s3, s4, s5, s6, s7, s8, s9, jb_mdl I J9 d e kp nm9 W, s11] _
    refine jb_top (v := .int (G 1 (nI w) (nI (V 2 p)) (nI (V 3 p)) 0)) (w := .int (nI g)) (jb_vI hg2) ?_
    refine jb_istore_ (pc' := 40) dX12_saysOf_38 (by decide) (jb_at5 rfl) rfl ?_
    refine jb_iload_n (pc' := 41) dX12_saysOf_40 rfl rfl ?_
    refine jb_iconst (pc' := 42) 4 dX12_saysOf_41 (by decide) rfl ?_
    refine jb_icmp_ne (tgt := 56) (pc' := 45) dX12_saysOf_42 (by decide) rfl (fun _ => ?_) (fun z => absurd z (by decide))
    refine jb_iload (pc' := 58) dX12_saysOf_56 rfl rfl ?_
    refine jb_iret dX12_saysOf_58 rfl ?_
    exact ⟨congrArg (fun y => some (Value.int (nI y))) (by unfold jm_sa; rw [ek, hg2, nI_clamp (by omega)]; rfl), _, _, rfl⟩
  · show jb_J _ RX12 cX12_saysOf 6 (Option.some .int) false 46 0 0 6 [some (.ref 105), some (.int (nI p)), some (.int (nI w)), none, none, none] [.int 1] [s0, s1, s2, s3, s4, s5, s6, s7, s8, s9, jb_mdl I J d e kp nm W, s11] _
    refine jb_istore_n_ (pc' := 7) dX12_saysOf_6 (by decide) (jb_at3 rfl) rfl ?_
    refine jb_aload_n (pc' := 8) dX12_saysOf_7 rfl rfl ?_
    refine jb_iload_n (pc' := 9) dX12_saysOf_8 rfl rfl ?_
    refine jb_iconst (pc' := 10) 1 dX12_saysOf_9 (by decide) rfl ?_
    refine jb_callV (pc' := 13) (ci := 12) (q := 105) (As := [.int (nI p), .int 1]) (a2 := 0) (b2 := 0) wv_X12_145 rfl dX12_saysOf_10 (c_of1 I J d e kp nm W hd0 hk0 p (by omega)) rfl rfl ⟨by decide, Nat.le_of_eq (Nat.zero_add _), Nat.le_of_eq (Nat.zero_add _)⟩ (Nat.le_of_ble_eq_true rfl) rfl (fun r h9 hq => ?_)
    obtain ⟨rfl, rfl⟩ := hq
    show jb_J _ RX12 cX12_saysOf 6 (Option.some .int) false 46 0 0 13 [some (.ref 105), some (.int (nI p)), some (.int (nI w)), some (.int 1), none, none] [.int (nI (V 2 p))] [s0, s1, s2, s3, s4, s5, s6, s7, s8, s9, jb_mdl I J d e kp nm W, s11] _
    refine jb_istore_ (pc' := 15) dX12_saysOf_13 (by decide) (jb_at4 rfl) rfl ?_
    refine jb_iload_n (pc' := 16) dX12_saysOf_15 rfl rfl ?_
    refine jb_bipush (pc' := 18) 6 dX12_saysOf_16 (by decide) rfl ?_
    refine jb_icmp_ne (tgt := 23) (pc' := 21) dX12_saysOf_18 (by decide) rfl (fun _ => ?_) (fun z => absurd z (by decide))
    refine jb_aload_n (pc' := 24) dX12_saysOf_23 rfl rfl ?_
    refine jb_iconst (pc' := 25) 1 dX12_saysOf_24 (by decide) rfl ?_
    refine jb_iload_n (pc' := 26) dX12_saysOf_25 rfl rfl ?_
    refine jb_iload (pc' := 28) dX12_saysOf_26 rfl rfl ?_
    refine jb_aload_n (pc' := 29) dX12_saysOf_28 rfl rfl ?_
    refine jb_iload_n (pc' := 30) dX12_saysOf_29 rfl rfl ?_
    refine jb_iconst (pc' := 31) 2 dX12_saysOf_30 (by decide) rfl ?_
    refine jb_callV (pc' := 34) (ci := 12) (q := 105) (As := [.int (nI p), .int 2]) (a2 := 0) (b2 := 0) wv_X12_145 rfl dX12_saysOf_31 (c_of2 I J d e kp nm W hd0 hk0 p (by omega)) rfl rfl ⟨by decide, Nat.le_of_eq (Nat.zero_add _), Nat.le_of_eq (Nat.zero_add _)⟩ (Nat.le_of_ble_eq_true rfl) rfl (fun r h9 hq => ?_)
    obtain ⟨rfl, rfl⟩ := hq
    show jb_J _ RX12 cX12_saysOf 6 (Option.some .int) false 46 0 0 34 [some (.ref 105), some (.int (nI p)), some (.int (nI w)), some (.int 1), some (.int (nI (V 2 p))), none] [.int (nI (V 3 p)), .int (nI (V 2 p)), .int (nI w), .int 1, .ref 105] [s0, s1, s2, s3, s4, s5, s6, s7, s8, s9, jb_mdl I J d e kp nm W, s11] _
    refine jb_iconst (pc' := 35) 0 dX12_saysOf_34 (by decide) rfl ?_
    refine jb_callV (pc' := 38) (ci := 12) (q := 105) (As := [.int 1, .int (nI w), .int (nI (V 2 p)), .int (nI (V 3 p)), .int 0]) (a2 := 0) (b2 := 0) wv_X12_133 rfl dX12_saysOf_35 (hg _ _ _ _ _ _ _ _ _ _ _ I J d e kp nm W 1 (nI w) (nI (V 2 p)) (nI (V 3 p)) 0 (by decide) hag) rfl rfl ⟨by decide, Nat.le_of_eq (Nat.zero_add _), Nat.le_of_eq (Nat.zero_add _)⟩ (Nat.le_of_ble_eq_true rfl) rfl (fun r h9 hq => ?_)
    obtain ⟨rfl, J9, nm9, rfl⟩ := hq
    obtain ⟨g, hg1, hg2⟩ := hG (nI w) (nI (V 2 p)) (nI (V 3 p)) 0
    show jb_J _ RX12 cX12_saysOf 6 (Option.some .int) false 46 0 0 38 [some (.ref 105), some (.int (nI p)), some (.int (nI w)), some (.int 1), some (.int (nI (V 2 p))), none] [.int (G 1 (nI w) (nI (V 2 p)) (nI (V 3 p)) 0)] [s0, s1, s2, s3, s4, s5, s6, s7, s8, s9, jb_mdl I J9 d e kp nm9 W, s11] _
    refine jb_top (v := .int (G 1 (nI w) (nI (V 2 p)) (nI (V 3 p)) 0)) (w := .int (nI g)) (jb_vI hg2) ?_
    refine jb_istore_ (pc' := 40) dX12_saysOf_38 (by decide) (jb_at5 rfl) rfl ?_
    refine jb_iload_n (pc' := 41) dX12_saysOf_40 rfl rfl ?_
    refine jb_iconst (pc' := 42) 4 dX12_saysOf_41 (by decide) rfl ?_
    refine jb_icmp_ne (tgt := 56) (pc' := 45) dX12_saysOf_42 (by decide) rfl (fun _ => ?_) (fun z => absurd z (by decide))
    refine jb_iload (pc' := 58) dX12_saysOf_56 rfl rfl ?_
    refine jb_iret dX12_saysOf_58 rfl ?_
    exact ⟨congrArg (fun y => some (Value.int (nI y))) (by unfold jm_sa; rw [ek, hg2, nI_clamp (by omega)]; rfl), _, _, rfl⟩
  · show jb_J _ RX12 cX12_saysOf 6 (Option.some .int) false 46 0 0 6 [some (.ref 105), some (.int (nI p)), some (.int (nI w)), none, none, none] [.int 2] [s0, s1, s2, s3, s4, s5, s6, s7, s8, s9, jb_mdl I J d e kp nm W, s11] _
    refine jb_istore_n_ (pc' := 7) dX12_saysOf_6 (by decide) (jb_at3 rfl) rfl ?_
    refine jb_aload_n (pc' := 8) dX12_saysOf_7 rfl rfl ?_
    refine jb_iload_n (pc' := 9) dX12_saysOf_8 rfl rfl ?_
    refine jb_iconst (pc' := 10) 1 dX12_saysOf_9 (by decide) rfl ?_
    refine jb_callV (pc' := 13) (ci := 12) (q := 105) (As := [.int (nI p), .int 1]) (a2 := 0) (b2 := 0) wv_X12_145 rfl dX12_saysOf_10 (c_of1 I J d e kp nm W hd0 hk0 p (by omega)) rfl rfl ⟨by decide, Nat.le_of_eq (Nat.zero_add _), Nat.le_of_eq (Nat.zero_add _)⟩ (Nat.le_of_ble_eq_true rfl) rfl (fun r h9 hq => ?_)
    obtain ⟨rfl, rfl⟩ := hq
    show jb_J _ RX12 cX12_saysOf 6 (Option.some .int) false 46 0 0 13 [some (.ref 105), some (.int (nI p)), some (.int (nI w)), some (.int 2), none, none] [.int (nI (V 2 p))] [s0, s1, s2, s3, s4, s5, s6, s7, s8, s9, jb_mdl I J d e kp nm W, s11] _
    refine jb_istore_ (pc' := 15) dX12_saysOf_13 (by decide) (jb_at4 rfl) rfl ?_
    refine jb_iload_n (pc' := 16) dX12_saysOf_15 rfl rfl ?_
    refine jb_bipush (pc' := 18) 6 dX12_saysOf_16 (by decide) rfl ?_
    refine jb_icmp_ne (tgt := 23) (pc' := 21) dX12_saysOf_18 (by decide) rfl (fun _ => ?_) (fun z => absurd z (by decide))
    refine jb_aload_n (pc' := 24) dX12_saysOf_23 rfl rfl ?_
    refine jb_iconst (pc' := 25) 1 dX12_saysOf_24 (by decide) rfl ?_
    refine jb_iload_n (pc' := 26) dX12_saysOf_25 rfl rfl ?_
    refine jb_iload (pc' := 28) dX12_saysOf_26 rfl rfl ?_
    refine jb_aload_n (pc' := 29) dX12_saysOf_28 rfl rfl ?_
    refine jb_iload_n (pc' := 30) dX12_saysOf_29 rfl rfl ?_
    refine jb_iconst (pc' := 31) 2 dX12_saysOf_30 (by decide) rfl ?_
    refine jb_callV (pc' := 34) (ci := 12) (q := 105) (As := [.int (nI p), .int 2]) (a2 := 0) (b2 := 0) wv_X12_145 rfl dX12_saysOf_31 (c_of2 I J d e kp nm W hd0 hk0 p (by omega)) rfl rfl ⟨by decide, Nat.le_of_eq (Nat.zero_add _), Nat.le_of_eq (Nat.zero_add _)⟩ (Nat.le_of_ble_eq_true rfl) rfl (fun r h9 hq => ?_)
    obtain ⟨rfl, rfl⟩ := hq
    show jb_J _ RX12 cX12_saysOf 6 (Option.some .int) false 46 0 0 34 [some (.ref 105), some (.int (nI p)), some (.int (nI w)), some (.int 2), some (.int (nI (V 2 p))), none] [.int (nI (V 3 p)), .int (nI (V 2 p)), .int (nI w), .int 1, .ref 105] [s0, s1, s2, s3, s4, s5, s6, s7, s8, s9, jb_mdl I J d e kp nm W, s11] _
    refine jb_iconst (pc' := 35) 0 dX12_saysOf_34 (by decide) rfl ?_
    refine jb_callV (pc' := 38) (ci := 12) (q := 105) (As := [.int 1, .int (nI w), .int (nI (V 2 p)), .int (nI (V 3 p)), .int 0]) (a2 := 0) (b2 := 0) wv_X12_133 rfl dX12_saysOf_35 (hg _ _ _ _ _ _ _ _ _ _ _ I J d e kp nm W 1 (nI w) (nI (V 2 p)) (nI (V 3 p)) 0 (by decide) hag) rfl rfl ⟨by decide, Nat.le_of_eq (Nat.zero_add _), Nat.le_of_eq (Nat.zero_add _)⟩ (Nat.le_of_ble_eq_true rfl) rfl (fun r h9 hq => ?_)
    obtain ⟨rfl, J9, nm9, rfl⟩ := hq
    obtain ⟨g, hg1, hg2⟩ := hG (nI w) (nI (V 2 p)) (nI (V 3 p)) 0
    show jb_J _ RX12 cX12_saysOf 6 (Option.some .int) false 46 0 0 38 [some (.ref 105), some (.int (nI p)), some (.int (nI w)), some (.int 2), some (.int (nI (V 2 p))), none] [.int (G 1 (nI w) (nI (V 2 p)) (nI (V 3 p)) 0)] [s0, s1, s2, s3, s4, s5, s6, s7, s8, s9, jb_mdl I J9 d e kp nm9 W, s11] _
    refine jb_top (v := .int (G 1 (nI w) (nI (V 2 p)) (nI (V 3 p)) 0)) (w := .int (nI g)) (jb_vI hg2) ?_
    refine jb_istore_ (pc' := 40) dX12_saysOf_38 (by decide) (jb_at5 rfl) rfl ?_
    refine jb_iload_n (pc' := 41) dX12_saysOf_40 rfl rfl ?_
    refine jb_iconst (pc' := 42) 4 dX12_saysOf_41 (by decide) rfl ?_
    refine jb_icmp_ne (tgt := 56) (pc' := 45) dX12_saysOf_42 (by decide) rfl (fun _ => ?_) (fun z => absurd z (by decide))
    refine jb_iload (pc' := 58) dX12_saysOf_56 rfl rfl ?_
    refine jb_iret dX12_saysOf_58 rfl ?_
    exact ⟨congrArg (fun y => some (Value.int (nI y))) (by unfold jm_sa; rw [ek, hg2, nI_clamp (by omega)]; rfl), _, _, rfl⟩
  · show jb_J _ RX12 cX12_saysOf 6 (Option.some .int) false 46 0 0 6 [some (.ref 105), some (.int (nI p)), some (.int (nI w)), none, none, none] [.int 3] [s0, s1, s2, s3, s4, s5, s6, s7, s8, s9, jb_mdl I J d e kp nm W, s11] _
    refine jb_istore_n_ (pc' := 7) dX12_saysOf_6 (by decide) (jb_at3 rfl) rfl ?_
    refine jb_aload_n (pc' := 8) dX12_saysOf_7 rfl rfl ?_
    refine jb_iload_n (pc' := 9) dX12_saysOf_8 rfl rfl ?_
    refine jb_iconst (pc' := 10) 1 dX12_saysOf_9 (by decide) rfl ?_
    refine jb_callV (pc' := 13) (ci := 12) (q := 105) (As := [.int (nI p), .int 1]) (a2 := 0) (b2 := 0) wv_X12_145 rfl dX12_saysOf_10 (c_of1 I J d e kp nm W hd0 hk0 p (by omega)) rfl rfl ⟨by decide, Nat.le_of_eq (Nat.zero_add _), Nat.le_of_eq (Nat.zero_add _)⟩ (Nat.le_of_ble_eq_true rfl) rfl (fun r h9 hq => ?_)
    obtain ⟨rfl, rfl⟩ := hq
    show jb_J _ RX12 cX12_saysOf 6 (Option.some .int) false 46 0 0 13 [some (.ref 105), some (.int (nI p)), some (.int (nI w)), some (.int 3), none, none] [.int (nI (V 2 p))] [s0, s1, s2, s3, s4, s5, s6, s7, s8, s9, jb_mdl I J d e kp nm W, s11] _
    refine jb_istore_ (pc' := 15) dX12_saysOf_13 (by decide) (jb_at4 rfl) rfl ?_
    refine jb_iload_n (pc' := 16) dX12_saysOf_15 rfl rfl ?_
    refine jb_bipush (pc' := 18) 6 dX12_saysOf_16 (by decide) rfl ?_
    refine jb_icmp_ne (tgt := 23) (pc' := 21) dX12_saysOf_18 (by decide) rfl (fun _ => ?_) (fun z => absurd z (by decide))
    refine jb_aload_n (pc' := 24) dX12_saysOf_23 rfl rfl ?_
    refine jb_iconst (pc' := 25) 1 dX12_saysOf_24 (by decide) rfl ?_
    refine jb_iload_n (pc' := 26) dX12_saysOf_25 rfl rfl ?_
    refine jb_iload (pc' := 28) dX12_saysOf_26 rfl rfl ?_
    refine jb_aload_n (pc' := 29) dX12_saysOf_28 rfl rfl ?_
    refine jb_iload_n (pc' := 30) dX12_saysOf_29 rfl rfl ?_
    refine jb_iconst (pc' := 31) 2 dX12_saysOf_30 (by decide) rfl ?_
    refine jb_callV (pc' := 34) (ci := 12) (q := 105) (As := [.int (nI p), .int 2]) (a2 := 0) (b2 := 0) wv_X12_145 rfl dX12_saysOf_31 (c_of2 I J d e kp nm W hd0 hk0 p (by omega)) rfl rfl ⟨by decide, Nat.le_of_eq (Nat.zero_add _), Nat.le_of_eq (Nat.zero_add _)⟩ (Nat.le_of_ble_eq_true rfl) rfl (fun r h9 hq => ?_)
    obtain ⟨rfl, rfl⟩ := hq
    show jb_J _ RX12 cX12_saysOf 6 (Option.some .int) false 46 0 0 34 [some (.ref 105), some (.int (nI p)), some (.int (nI w)), some (.int 3), some (.int (nI (V 2 p))), none] [.int (nI (V 3 p)), .int (nI (V 2 p)), .int (nI w), .int 1, .ref 105] [s0, s1, s2, s3, s4, s5, s6, s7, s8, s9, jb_mdl I J d e kp nm W, s11] _
    refine jb_iconst (pc' := 35) 0 dX12_saysOf_34 (by decide) rfl ?_
    refine jb_callV (pc' := 38) (ci := 12) (q := 105) (As := [.int 1, .int (nI w), .int (nI (V 2 p)), .int (nI (V 3 p)), .int 0]) (a2 := 0) (b2 := 0) wv_X12_133 rfl dX12_saysOf_35 (hg _ _ _ _ _ _ _ _ _ _ _ I J d e kp nm W 1 (nI w) (nI (V 2 p)) (nI (V 3 p)) 0 (by decide) hag) rfl rfl ⟨by decide, Nat.le_of_eq (Nat.zero_add _), Nat.le_of_eq (Nat.zero_add _)⟩ (Nat.le_of_ble_eq_true rfl) rfl (fun r h9 hq => ?_)
    obtain ⟨rfl, J9, nm9, rfl⟩ := hq
    obtain ⟨g, hg1, hg2⟩ := hG (nI w) (nI (V 2 p)) (nI (V 3 p)) 0
    show jb_J _ RX12 cX12_saysOf 6 (Option.some .int) false 46 0 0 38 [some (.ref 105), some (.int (nI p)), some (.int (nI w)), some (.int 3), some (.int (nI (V 2 p))), none] [.int (G 1 (nI w) (nI (V 2 p)) (nI (V 3 p)) 0)] [s0, s1, s2, s3, s4, s5, s6, s7, s8, s9, jb_mdl I J9 d e kp nm9 W, s11] _
    refine jb_top (v := .int (G 1 (nI w) (nI (V 2 p)) (nI (V 3 p)) 0)) (w := .int (nI g)) (jb_vI hg2) ?_
    refine jb_istore_ (pc' := 40) dX12_saysOf_38 (by decide) (jb_at5 rfl) rfl ?_
    refine jb_iload_n (pc' := 41) dX12_saysOf_40 rfl rfl ?_
    refine jb_iconst (pc' := 42) 4 dX12_saysOf_41 (by decide) rfl ?_
    refine jb_icmp_ne (tgt := 56) (pc' := 45) dX12_saysOf_42 (by decide) rfl (fun _ => ?_) (fun z => absurd z (by decide))
    refine jb_iload (pc' := 58) dX12_saysOf_56 rfl rfl ?_
    refine jb_iret dX12_saysOf_58 rfl ?_
    exact ⟨congrArg (fun y => some (Value.int (nI y))) (by unfold jm_sa; rw [ek, hg2, nI_clamp (by omega)]; rfl), _, _, rfl⟩
  · show jb_J _ RX12 cX12_saysOf 6 (Option.some .int) false 46 0 0 6 [some (.ref 105), some (.int (nI p)), some (.int (nI w)), none, none, none] [.int 4] [s0, s1, s2, s3, s4, s5, s6, s7, s8, s9, jb_mdl I J d e kp nm W, s11] _
    refine jb_istore_n_ (pc' := 7) dX12_saysOf_6 (by decide) (jb_at3 rfl) rfl ?_
    refine jb_aload_n (pc' := 8) dX12_saysOf_7 rfl rfl ?_
    refine jb_iload_n (pc' := 9) dX12_saysOf_8 rfl rfl ?_
    refine jb_iconst (pc' := 10) 1 dX12_saysOf_9 (by decide) rfl ?_
    refine jb_callV (pc' := 13) (ci := 12) (q := 105) (As := [.int (nI p), .int 1]) (a2 := 0) (b2 := 0) wv_X12_145 rfl dX12_saysOf_10 (c_of1 I J d e kp nm W hd0 hk0 p (by omega)) rfl rfl ⟨by decide, Nat.le_of_eq (Nat.zero_add _), Nat.le_of_eq (Nat.zero_add _)⟩ (Nat.le_of_ble_eq_true rfl) rfl (fun r h9 hq => ?_)
    obtain ⟨rfl, rfl⟩ := hq
    show jb_J _ RX12 cX12_saysOf 6 (Option.some .int) false 46 0 0 13 [some (.ref 105), some (.int (nI p)), some (.int (nI w)), some (.int 4), none, none] [.int (nI (V 2 p))] [s0, s1, s2, s3, s4, s5, s6, s7, s8, s9, jb_mdl I J d e kp nm W, s11] _
    refine jb_istore_ (pc' := 15) dX12_saysOf_13 (by decide) (jb_at4 rfl) rfl ?_
    refine jb_iload_n (pc' := 16) dX12_saysOf_15 rfl rfl ?_
    refine jb_bipush (pc' := 18) 6 dX12_saysOf_16 (by decide) rfl ?_
    refine jb_icmp_ne (tgt := 23) (pc' := 21) dX12_saysOf_18 (by decide) rfl (fun _ => ?_) (fun z => absurd z (by decide))
    refine jb_aload_n (pc' := 24) dX12_saysOf_23 rfl rfl ?_
    refine jb_iconst (pc' := 25) 1 dX12_saysOf_24 (by decide) rfl ?_
    refine jb_iload_n (pc' := 26) dX12_saysOf_25 rfl rfl ?_
    refine jb_iload (pc' := 28) dX12_saysOf_26 rfl rfl ?_
    refine jb_aload_n (pc' := 29) dX12_saysOf_28 rfl rfl ?_
    refine jb_iload_n (pc' := 30) dX12_saysOf_29 rfl rfl ?_
    refine jb_iconst (pc' := 31) 2 dX12_saysOf_30 (by decide) rfl ?_
    refine jb_callV (pc' := 34) (ci := 12) (q := 105) (As := [.int (nI p), .int 2]) (a2 := 0) (b2 := 0) wv_X12_145 rfl dX12_saysOf_31 (c_of2 I J d e kp nm W hd0 hk0 p (by omega)) rfl rfl ⟨by decide, Nat.le_of_eq (Nat.zero_add _), Nat.le_of_eq (Nat.zero_add _)⟩ (Nat.le_of_ble_eq_true rfl) rfl (fun r h9 hq => ?_)
    obtain ⟨rfl, rfl⟩ := hq
    show jb_J _ RX12 cX12_saysOf 6 (Option.some .int) false 46 0 0 34 [some (.ref 105), some (.int (nI p)), some (.int (nI w)), some (.int 4), some (.int (nI (V 2 p))), none] [.int (nI (V 3 p)), .int (nI (V 2 p)), .int (nI w), .int 1, .ref 105] [s0, s1, s2, s3, s4, s5, s6, s7, s8, s9, jb_mdl I J d e kp nm W, s11] _
    refine jb_iconst (pc' := 35) 0 dX12_saysOf_34 (by decide) rfl ?_
    refine jb_callV (pc' := 38) (ci := 12) (q := 105) (As := [.int 1, .int (nI w), .int (nI (V 2 p)), .int (nI (V 3 p)), .int 0]) (a2 := 0) (b2 := 0) wv_X12_133 rfl dX12_saysOf_35 (hg _ _ _ _ _ _ _ _ _ _ _ I J d e kp nm W 1 (nI w) (nI (V 2 p)) (nI (V 3 p)) 0 (by decide) hag) rfl rfl ⟨by decide, Nat.le_of_eq (Nat.zero_add _), Nat.le_of_eq (Nat.zero_add _)⟩ (Nat.le_of_ble_eq_true rfl) rfl (fun r h9 hq => ?_)
    obtain ⟨rfl, J9, nm9, rfl⟩ := hq
    obtain ⟨g, hg1, hg2⟩ := hG (nI w) (nI (V 2 p)) (nI (V 3 p)) 0
    show jb_J _ RX12 cX12_saysOf 6 (Option.some .int) false 46 0 0 38 [some (.ref 105), some (.int (nI p)), some (.int (nI w)), some (.int 4), some (.int (nI (V 2 p))), none] [.int (G 1 (nI w) (nI (V 2 p)) (nI (V 3 p)) 0)] [s0, s1, s2, s3, s4, s5, s6, s7, s8, s9, jb_mdl I J9 d e kp nm9 W, s11] _
    refine jb_top (v := .int (G 1 (nI w) (nI (V 2 p)) (nI (V 3 p)) 0)) (w := .int (nI g)) (jb_vI hg2) ?_
    refine jb_istore_ (pc' := 40) dX12_saysOf_38 (by decide) (jb_at5 rfl) rfl ?_
    refine jb_iload_n (pc' := 41) dX12_saysOf_40 rfl rfl ?_
    refine jb_iconst (pc' := 42) 4 dX12_saysOf_41 (by decide) rfl ?_
    refine jb_icmp_ne (tgt := 56) (pc' := 45) dX12_saysOf_42 (by decide) rfl (fun z => absurd (by decide) z) (fun _ => ?_)
    refine jb_iload (pc' := 47) dX12_saysOf_45 rfl rfl ?_
    refine jb_iload (pc' := 49) dX12_saysOf_47 rfl rfl ?_
    refine jb_iadd (pc' := 50) dX12_saysOf_49 rfl ?_
    refine jb_top (v := .int ((nI g) + (nI (V 2 p)))) (w := .int (nI (g + (V 2 p)))) (jb_vI (nI_add _ _)) ?_
    refine jb_bipush (pc' := 52) 40 dX12_saysOf_50 (by decide) rfl ?_
    refine jb_irem (pc' := 53) dX12_saysOf_52 (by decide) rfl ?_
    refine jb_top (v := .int ((nI (g + (V 2 p))) - (nI (g + (V 2 p))) / 40 * 40)) (w := .int (nI ((g + (V 2 p)) % 40))) (jb_vI (pk_rem (a := (g + (V 2 p))) (d := 40) (by omega) (by omega) (by omega))) ?_
    refine jb_goto (pc' := 58) dX12_saysOf_53 (by decide) ?_
    refine jb_iret dX12_saysOf_58 rfl ?_
    exact ⟨congrArg (fun y => some (Value.int (nI y))) (by unfold jm_sa; rw [ek, hg2, nI_clamp (by omega)]; rfl), _, _, rfl⟩
  · show jb_J _ RX12 cX12_saysOf 6 (Option.some .int) false 46 0 0 6 [some (.ref 105), some (.int (nI p)), some (.int (nI w)), none, none, none] [.int 5] [s0, s1, s2, s3, s4, s5, s6, s7, s8, s9, jb_mdl I J d e kp nm W, s11] _
    refine jb_istore_n_ (pc' := 7) dX12_saysOf_6 (by decide) (jb_at3 rfl) rfl ?_
    refine jb_aload_n (pc' := 8) dX12_saysOf_7 rfl rfl ?_
    refine jb_iload_n (pc' := 9) dX12_saysOf_8 rfl rfl ?_
    refine jb_iconst (pc' := 10) 1 dX12_saysOf_9 (by decide) rfl ?_
    refine jb_callV (pc' := 13) (ci := 12) (q := 105) (As := [.int (nI p), .int 1]) (a2 := 0) (b2 := 0) wv_X12_145 rfl dX12_saysOf_10 (c_of1 I J d e kp nm W hd0 hk0 p (by omega)) rfl rfl ⟨by decide, Nat.le_of_eq (Nat.zero_add _), Nat.le_of_eq (Nat.zero_add _)⟩ (Nat.le_of_ble_eq_true rfl) rfl (fun r h9 hq => ?_)
    obtain ⟨rfl, rfl⟩ := hq
    show jb_J _ RX12 cX12_saysOf 6 (Option.some .int) false 46 0 0 13 [some (.ref 105), some (.int (nI p)), some (.int (nI w)), some (.int 5), none, none] [.int (nI (V 2 p))] [s0, s1, s2, s3, s4, s5, s6, s7, s8, s9, jb_mdl I J d e kp nm W, s11] _
    refine jb_istore_ (pc' := 15) dX12_saysOf_13 (by decide) (jb_at4 rfl) rfl ?_
    refine jb_iload_n (pc' := 16) dX12_saysOf_15 rfl rfl ?_
    refine jb_bipush (pc' := 18) 6 dX12_saysOf_16 (by decide) rfl ?_
    refine jb_icmp_ne (tgt := 23) (pc' := 21) dX12_saysOf_18 (by decide) rfl (fun _ => ?_) (fun z => absurd z (by decide))
    refine jb_aload_n (pc' := 24) dX12_saysOf_23 rfl rfl ?_
    refine jb_iconst (pc' := 25) 1 dX12_saysOf_24 (by decide) rfl ?_
    refine jb_iload_n (pc' := 26) dX12_saysOf_25 rfl rfl ?_
    refine jb_iload (pc' := 28) dX12_saysOf_26 rfl rfl ?_
    refine jb_aload_n (pc' := 29) dX12_saysOf_28 rfl rfl ?_
    refine jb_iload_n (pc' := 30) dX12_saysOf_29 rfl rfl ?_
    refine jb_iconst (pc' := 31) 2 dX12_saysOf_30 (by decide) rfl ?_
    refine jb_callV (pc' := 34) (ci := 12) (q := 105) (As := [.int (nI p), .int 2]) (a2 := 0) (b2 := 0) wv_X12_145 rfl dX12_saysOf_31 (c_of2 I J d e kp nm W hd0 hk0 p (by omega)) rfl rfl ⟨by decide, Nat.le_of_eq (Nat.zero_add _), Nat.le_of_eq (Nat.zero_add _)⟩ (Nat.le_of_ble_eq_true rfl) rfl (fun r h9 hq => ?_)
    obtain ⟨rfl, rfl⟩ := hq
    show jb_J _ RX12 cX12_saysOf 6 (Option.some .int) false 46 0 0 34 [some (.ref 105), some (.int (nI p)), some (.int (nI w)), some (.int 5), some (.int (nI (V 2 p))), none] [.int (nI (V 3 p)), .int (nI (V 2 p)), .int (nI w), .int 1, .ref 105] [s0, s1, s2, s3, s4, s5, s6, s7, s8, s9, jb_mdl I J d e kp nm W, s11] _
    refine jb_iconst (pc' := 35) 0 dX12_saysOf_34 (by decide) rfl ?_
    refine jb_callV (pc' := 38) (ci := 12) (q := 105) (As := [.int 1, .int (nI w), .int (nI (V 2 p)), .int (nI (V 3 p)), .int 0]) (a2 := 0) (b2 := 0) wv_X12_133 rfl dX12_saysOf_35 (hg _ _ _ _ _ _ _ _ _ _ _ I J d e kp nm W 1 (nI w) (nI (V 2 p)) (nI (V 3 p)) 0 (by decide) hag) rfl rfl ⟨by decide, Nat.le_of_eq (Nat.zero_add _), Nat.le_of_eq (Nat.zero_add _)⟩ (Nat.le_of_ble_eq_true rfl) rfl (fun r h9 hq => ?_)
    obtain ⟨rfl, J9, nm9, rfl⟩ := hq
    obtain ⟨g, hg1, hg2⟩ := hG (nI w) (nI (V 2 p)) (nI (V 3 p)) 0
    show jb_J _ RX12 cX12_saysOf 6 (Option.some .int) false 46 0 0 38 [some (.ref 105), some (.int (nI p)), some (.int (nI w)), some (.int 5), some (.int (nI (V 2 p))), none] [.int (G 1 (nI w) (nI (V 2 p)) (nI (V 3 p)) 0)] [s0, s1, s2, s3, s4, s5, s6, s7, s8, s9, jb_mdl I J9 d e kp nm9 W, s11] _
    refine jb_top (v := .int (G 1 (nI w) (nI (V 2 p)) (nI (V 3 p)) 0)) (w := .int (nI g)) (jb_vI hg2) ?_
    refine jb_istore_ (pc' := 40) dX12_saysOf_38 (by decide) (jb_at5 rfl) rfl ?_
    refine jb_iload_n (pc' := 41) dX12_saysOf_40 rfl rfl ?_
    refine jb_iconst (pc' := 42) 4 dX12_saysOf_41 (by decide) rfl ?_
    refine jb_icmp_ne (tgt := 56) (pc' := 45) dX12_saysOf_42 (by decide) rfl (fun _ => ?_) (fun z => absurd z (by decide))
    refine jb_iload (pc' := 58) dX12_saysOf_56 rfl rfl ?_
    refine jb_iret dX12_saysOf_58 rfl ?_
    exact ⟨congrArg (fun y => some (Value.int (nI y))) (by unfold jm_sa; rw [ek, hg2, nI_clamp (by omega)]; rfl), _, _, rfl⟩
  · show jb_J _ RX12 cX12_saysOf 6 (Option.some .int) false 46 0 0 6 [some (.ref 105), some (.int (nI p)), some (.int (nI w)), none, none, none] [.int 6] [s0, s1, s2, s3, s4, s5, s6, s7, s8, s9, jb_mdl I J d e kp nm W, s11] _
    refine jb_istore_n_ (pc' := 7) dX12_saysOf_6 (by decide) (jb_at3 rfl) rfl ?_
    refine jb_aload_n (pc' := 8) dX12_saysOf_7 rfl rfl ?_
    refine jb_iload_n (pc' := 9) dX12_saysOf_8 rfl rfl ?_
    refine jb_iconst (pc' := 10) 1 dX12_saysOf_9 (by decide) rfl ?_
    refine jb_callV (pc' := 13) (ci := 12) (q := 105) (As := [.int (nI p), .int 1]) (a2 := 0) (b2 := 0) wv_X12_145 rfl dX12_saysOf_10 (c_of1 I J d e kp nm W hd0 hk0 p (by omega)) rfl rfl ⟨by decide, Nat.le_of_eq (Nat.zero_add _), Nat.le_of_eq (Nat.zero_add _)⟩ (Nat.le_of_ble_eq_true rfl) rfl (fun r h9 hq => ?_)
    obtain ⟨rfl, rfl⟩ := hq
    show jb_J _ RX12 cX12_saysOf 6 (Option.some .int) false 46 0 0 13 [some (.ref 105), some (.int (nI p)), some (.int (nI w)), some (.int 6), none, none] [.int (nI (V 2 p))] [s0, s1, s2, s3, s4, s5, s6, s7, s8, s9, jb_mdl I J d e kp nm W, s11] _
    refine jb_istore_ (pc' := 15) dX12_saysOf_13 (by decide) (jb_at4 rfl) rfl ?_
    refine jb_iload_n (pc' := 16) dX12_saysOf_15 rfl rfl ?_
    refine jb_bipush (pc' := 18) 6 dX12_saysOf_16 (by decide) rfl ?_
    refine jb_icmp_ne (tgt := 23) (pc' := 21) dX12_saysOf_18 (by decide) rfl (fun z => absurd (by decide) z) (fun _ => ?_)
    refine jb_iload_n (pc' := 22) dX12_saysOf_21 rfl rfl ?_
    refine jb_iret dX12_saysOf_22 rfl ?_
    exact ⟨congrArg (fun y => some (Value.int (nI y))) (by unfold jm_sa; rw [ek]; rfl), _, _, rfl⟩
set_option maxRecDepth 100000 in
set_option maxHeartbeats 4000000 in
theorem c_drawn {sc : Nat × (Nat → Int32)} {s0 s1 s2 s3 s4 s5 s6 s7 s8 s9 s11 : List va_E} (I J d e kp nm : Nat → Int32) (W : Nat → Nat → Int32) : jb_C sc yX12_drawn cX12_drawn 1 (Option.some .int) 0 0 0 [.ref 105] [s0, s1, s2, s3, s4, s5, s6, s7, s8, s9, jb_mdl I J d e kp nm W, s11] (fun r h9 => r = some (.int (jm_us (jm_dr (d 7)))) ∧ h9 = [s0, s1, s2, s3, s4, s5, s6, s7, s8, s9, jb_mdl I J (upd d 7 (jm_dr (d 7))) e kp nm W, s11]) := by
  refine jb_CofJ (ini := false) (by decide +kernel) (fun h => by cases h) (Nat.le_of_ble_eq_true rfl) ?_
  show jb_J sc RX12 cX12_drawn 1 (Option.some .int) false 0 0 0 0 [some (.ref 105)] [] [s0, s1, s2, s3, s4, s5, s6, s7, s8, s9, jb_mdl I J d e kp nm W, s11] _
  refine jb_aload_n (pc' := 1) dX12_drawn_0 rfl rfl ?_
  refine gf_X12_7 (pc' := 4) (v := .ref 106) dX12_drawn_1 rfl rfl rfl ?_
  refine jb_bipush (pc' := 6) 7 dX12_drawn_4 (by decide) rfl ?_
  refine jb_aload_n (pc' := 7) dX12_drawn_6 rfl rfl ?_
  refine gf_X12_7 (pc' := 10) (v := .ref 106) dX12_drawn_7 rfl rfl rfl ?_
  refine jb_bipush (pc' := 12) 7 dX12_drawn_10 (by decide) rfl ?_
  refine jb_iaload (pc' := 13) (i9 := 7) (f := d) dX12_drawn_12 rfl jb_x7 (by decide) rfl ?_
  refine jb_ldc (pc' := 15) 1103515245 dX12_drawn_13 wk_X12_188 rfl ?_
  refine jb_imul (pc' := 16) dX12_drawn_15 rfl ?_
  refine jb_sipush (pc' := 19) 12345 dX12_drawn_16 (by decide) rfl ?_
  refine jb_iadd (pc' := 20) dX12_drawn_19 rfl ?_
  refine jb_iastore (pc' := 21) (i9 := 7) (f := d) (h' := [s0, s1, s2, s3, s4, s5, s6, s7, s8, s9, jb_mdl I J (upd d 7 (((d 7) * 1103515245) + 12345)) e kp nm W, s11]) dX12_drawn_20 rfl jb_x7 (by decide) rfl rfl ?_
  refine jb_aload_n (pc' := 22) dX12_drawn_21 rfl rfl ?_
  refine gf_X12_7 (pc' := 25) (v := .ref 106) dX12_drawn_22 rfl rfl rfl ?_
  refine jb_bipush (pc' := 27) 7 dX12_drawn_25 (by decide) rfl ?_
  refine jb_iaload (pc' := 28) (i9 := 7) (f := (upd d 7 (((d 7) * 1103515245) + 12345))) dX12_drawn_27 rfl jb_x7 (by decide) rfl ?_
  refine jb_top (v := .int ((upd d 7 (((d 7) * 1103515245) + 12345)) 7)) (w := .int (jm_dr (d 7))) (jb_vI jb_uee) ?_
  refine jb_bipush (pc' := 30) 8 dX12_drawn_28 (by decide) rfl ?_
  refine jb_iushr (pc' := 31) dX12_drawn_30 rfl ?_
  refine jb_iret dX12_drawn_31 rfl ?_
  exact ⟨rfl, rfl⟩
