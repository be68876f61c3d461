theorem jd_nd {V : Nat → Nat → Nat} {d : Nat → Int32} (hd : jd_ V d) (hk : jv_ok V) {l : Nat} (hl : l ≤ V 0 3) : jd_ (jv_up V 0 3 l) (upd d 6 (nI l)) := by
  obtain ⟨e0, e1, e2, e3, e4, e5, e6, dv, ds, dd⟩ := hd
  refine ⟨by rw [jb_une (by decide)]; exact e0, by rw [jb_une (by decide)]; exact e1, by rw [jb_une (by decide)]; exact e2, by rw [jb_une (by decide)]; exact e3, by rw [jb_une (by decide)]; exact e4, by rw [jb_une (by decide)]; exact e5, by rw [jb_uee]; rfl, fun p hp => ?_, fun s hs => ?_, fun k hk => ?_⟩
  · rw [jb_une (by omega), jb_une (by omega), jb_une (by omega)]; exact dv p hp
  · rw [jb_une (by omega), jb_une (by omega), jb_une (by omega), jb_une (by omega), jb_une (by omega), jb_une (by omega)]; exact ds s hs
  · have hk' : k < l := hk
    rw [jb_une (by omega), jb_une (by omega), jb_une (by omega), jb_une (by omega)]; exact dd k (by omega)
theorem jd_sec {V : Nat → Nat → Nat} {d : Nat → Int32} (hd : jd_ V d) (x : Nat) : jd_ (jv_up V 0 0 x) (upd d 3 (nI x)) := by
  obtain ⟨e0, e1, e2, e3, e4, e5, e6, dv, ds, dd⟩ := hd
  refine ⟨by rw [jb_une (by decide)]; exact e0, by rw [jb_une (by decide)]; exact e1, by rw [jb_une (by decide)]; exact e2, by rw [jb_uee]; rfl, by rw [jb_une (by decide)]; exact e4, by rw [jb_une (by decide)]; exact e5, by rw [jb_une (by decide)]; exact e6, fun p hp => ?_, fun s hs => ?_, fun k hk => ?_⟩
  · rw [jb_une (by omega), jb_une (by omega), jb_une (by omega)]; exact dv p hp
  · rw [jb_une (by omega), jb_une (by omega), jb_une (by omega), jb_une (by omega), jb_une (by omega), jb_une (by omega)]; exact ds s hs
  · rw [jb_une (by omega), jb_une (by omega), jb_une (by omega), jb_une (by omega)]; exact dd k hk
theorem jd_v4 {d : Nat → Int32} {n : Nat} {v0 v1 v2 v3 : Int32} :
    (∀ j, (j < 268 + 4 * n ∨ 268 + 4 * n + 4 ≤ j) → (upd (upd (upd (upd d (268 + 4 * n + 0) v0) (268 + 4 * n + 1) v1) (268 + 4 * n + 2) v2) (268 + 4 * n + 3) v3) j = d j) ∧ (upd (upd (upd (upd d (268 + 4 * n + 0) v0) (268 + 4 * n + 1) v1) (268 + 4 * n + 2) v2) (268 + 4 * n + 3) v3) (268 + 4 * n + 0) = v0 ∧ (upd (upd (upd (upd d (268 + 4 * n + 0) v0) (268 + 4 * n + 1) v1) (268 + 4 * n + 2) v2) (268 + 4 * n + 3) v3) (268 + 4 * n + 1) = v1 ∧ (upd (upd (upd (upd d (268 + 4 * n + 0) v0) (268 + 4 * n + 1) v1) (268 + 4 * n + 2) v2) (268 + 4 * n + 3) v3) (268 + 4 * n + 2) = v2 ∧ (upd (upd (upd (upd d (268 + 4 * n + 0) v0) (268 + 4 * n + 1) v1) (268 + 4 * n + 2) v2) (268 + 4 * n + 3) v3) (268 + 4 * n + 3) = v3 := by
  refine ⟨fun j hj => ?_, ?_, ?_, ?_, ?_⟩
  · rw [jb_une (by omega), jb_une (by omega), jb_une (by omega), jb_une (by omega)]
  · rw [jb_une (by omega), jb_une (by omega), jb_une (by omega)]; exact jb_uee
  · rw [jb_une (by omega), jb_une (by omega)]; exact jb_uee
  · rw [jb_une (by omega)]; exact jb_uee
  · exact jb_uee
theorem jd_mv {V : Nat → Nat → Nat} {d : Nat → Int32} (hd : jd_ V d) (hk : jv_ok V) {l i : Nat} :
    jd_ (jm_mv V l i) (upd (upd (upd (upd d (268 + 4 * l + 0) (nI (V 10 i))) (268 + 4 * l + 1) (nI (V 11 i))) (268 + 4 * l + 2) (nI (V 12 i))) (268 + 4 * l + 3) (nI (V 13 i))) := by
  obtain ⟨e0, e1, e2, e3, e4, e5, e6, dv, ds, dd⟩ := hd
  obtain ⟨k0, k1, k2, k3, k4, k5, k6, k7, -, -, -⟩ := hk
  obtain ⟨hf, g0, g1, g2, g3⟩ := jd_v4 (d := d) (n := l) (v0 := nI (V 10 i)) (v1 := nI (V 11 i)) (v2 := nI (V 12 i)) (v3 := nI (V 13 i))
  refine ⟨by rw [hf 0 (by omega)]; exact e0, by rw [hf 1 (by omega)]; exact e1, by rw [hf 2 (by omega)]; exact e2, by rw [hf 3 (by omega)]; exact e3, by rw [hf 4 (by omega)]; exact e4, by rw [hf 5 (by omega)]; exact e5, by rw [hf 6 (by omega)]; exact e6, fun p hp => ?_, fun s hs => ?_, fun k hk => ?_⟩
  · have hp' : p < V 0 1 := hp
    rw [hf _ (by omega), hf _ (by omega), hf _ (by omega)]; exact dv p hp'
  · have hs' : s < V 0 2 := hs
    rw [hf _ (by omega), hf _ (by omega), hf _ (by omega), hf _ (by omega), hf _ (by omega), hf _ (by omega)]; exact ds s hs'
  · have hk' : k < V 0 3 := hk
    by_cases e : k = l
    · rw [show jm_mv V l i 10 k = V 10 i from if_pos e, show jm_mv V l i 11 k = V 11 i from if_pos e, show jm_mv V l i 12 k = V 12 i from if_pos e, show jm_mv V l i 13 k = V 13 i from if_pos e, e]
      exact ⟨g0, g1, g2, g3⟩
    · rw [show jm_mv V l i 10 k = V 10 k from if_neg e, show jm_mv V l i 11 k = V 11 k from if_neg e, show jm_mv V l i 12 k = V 12 k from if_neg e, show jm_mv V l i 13 k = V 13 k from if_neg e]
      rw [hf _ (by omega), hf _ (by omega), hf _ (by omega), hf _ (by omega)]; exact dd k hk'
set_option maxRecDepth 100000 in
set_option maxHeartbeats 4000000 in
theorem l_ansm {sc : Nat × (Nat → Int32)} {s0 s1 s2 s3 s4 s5 s6 s7 s8 s9 s11 : List va_E} (I J e kp nm : Nat → Int32) (W : Nat → Nat → Int32) (N : Nat) : ∀ (n i l : Nat) (V : Nat → Nat → Nat) (d : Nat → Int32) (x4 x5 : Option Value), i + n = N → N = V 0 3 → l ≤ i → jd_ V d → jv_ok V → jb_J sc RX12 cX12_answers 6 (Option.none : Option Jvm.ClassFile.FieldType) false 2 0 0 12 [some (.ref 105), some (.int (nI l)), some (.int (nI N)), some (.int (nI i)), x4, x5] [] [s0, s1, s2, s3, s4, s5, s6, s7, s8, s9, jb_mdl I J d e kp nm W, s11] (fun r h9 => r = none ∧ ∃ d9, jd_ (jv_up (jm_sd n i l V).1 0 3 (jm_sd n i l V).2) d9 ∧ d9 7 = d 7 ∧ jd_f d d9 ∧ h9 = [s0, s1, s2, s3, s4, s5, s6, s7, s8, s9, jb_mdl I J d9 e kp nm W, s11]) := by
  intro n
  induction n with
  | zero =>
    intro i l V d x4 x5 hi hN hl hd hk
    have hd0 := hd
    have hk0 := hk
    obtain ⟨e0, e1, e2, e3, e4, e5, e6, dv, ds, dd⟩ := hd
    obtain ⟨k0, k1, k2, k3, k4, k5, k6, k7, kv, ks, kd⟩ := hk
    show jb_J _ RX12 cX12_answers 6 (Option.none : Option Jvm.ClassFile.FieldType) false 2 0 0 12 [some (.ref 105), some (.int (nI l)), some (.int (nI N)), some (.int (nI i)), x4, x5] [] [s0, s1, s2, s3, s4, s5, s6, s7, s8, s9, jb_mdl I J d e kp nm W, s11] _
    refine jb_iload_n (pc' := 13) dX12_answers_12 rfl rfl ?_
    refine jb_iload_n (pc' := 14) dX12_answers_13 rfl rfl ?_
    refine jb_icmp_ge (tgt := 138) (pc' := 17) dX12_answers_14 (by decide) rfl (fun _ => ?_) (fun z => absurd (nI_le (a := N) (b := i) (by omega) (by omega)) z)
    refine jb_aload_n (pc' := 139) dX12_answers_138 rfl rfl ?_
    refine gf_X12_7 (pc' := 142) (v := .ref 106) dX12_answers_139 rfl rfl rfl ?_
    refine jb_bipush (pc' := 144) 6 dX12_answers_142 (by decide) rfl ?_
    refine jb_iload_n (pc' := 145) dX12_answers_144 rfl rfl ?_
    refine jb_iastore (pc' := 146) (i9 := 6) (f := d) (h' := [s0, s1, s2, s3, s4, s5, s6, s7, s8, s9, jb_mdl I J (upd d 6 (nI l)) e kp nm W, s11]) dX12_answers_145 rfl jb_x6 (by decide) rfl rfl ?_
    refine jb_vret dX12_answers_146 ?_
    exact ⟨rfl, upd d 6 (nI l), jd_nd (l := l) hd0 hk0 (by omega), jb_une (by decide), ⟨jb_une (by decide), jb_une (by decide), fun k hk => jb_une (by omega)⟩, rfl⟩
  | succ n ih =>
    intro i l V d x4 x5 hi hN hl hd hk
    have hd0 := hd
    have hk0 := hk
    obtain ⟨e0, e1, e2, e3, e4, e5, e6, dv, ds, dd⟩ := hd
    obtain ⟨k0, k1, k2, k3, k4, k5, k6, k7, kv, ks, kd⟩ := hk
    have q0 := kd i (by omega)
    show jb_J _ RX12 cX12_answers 6 (Option.none : Option Jvm.ClassFile.FieldType) false 2 0 0 12 [some (.ref 105), some (.int (nI l)), some (.int (nI N)), some (.int (nI i)), x4, x5] [] [s0, s1, s2, s3, s4, s5, s6, s7, s8, s9, jb_mdl I J d e kp nm W, s11] _
    refine jb_iload_n (pc' := 13) dX12_answers_12 rfl rfl ?_
    refine jb_iload_n (pc' := 14) dX12_answers_13 rfl rfl ?_
    refine jb_icmp_ge (tgt := 138) (pc' := 17) dX12_answers_14 (by decide) rfl (fun z => absurd z (nI_ge (a := i) (b := N) (by omega) (by omega))) (fun _ => ?_)
    refine jb_sipush (pc' := 20) 268 dX12_answers_17 (by decide) rfl ?_
    refine jb_iconst (pc' := 21) 4 dX12_answers_20 (by decide) rfl ?_
    refine jb_iload_n (pc' := 22) dX12_answers_21 rfl rfl ?_
    refine jb_imul (pc' := 23) dX12_answers_22 rfl ?_
    refine jb_top (v := .int (4 * (nI i))) (w := .int (nI (4 * i))) (jb_vI (pk_mul 4 _)) ?_
    refine jb_iadd (pc' := 24) dX12_answers_23 rfl ?_
    refine jb_top (v := .int (268 + (nI (4 * i)))) (w := .int (nI (268 + 4 * i))) (jb_vI (nI_add 268 _)) ?_
    refine jb_istore_ (pc' := 26) dX12_answers_24 (by decide) (jb_at4 rfl) rfl ?_
    refine jb_aload_n (pc' := 27) dX12_answers_26 rfl rfl ?_
    refine gf_X12_7 (pc' := 30) (v := .ref 106) dX12_answers_27 rfl rfl rfl ?_
    refine jb_iload (pc' := 32) dX12_answers_30 rfl rfl ?_
    refine jb_iconst (pc' := 33) 3 dX12_answers_32 (by decide) rfl ?_
    refine jb_iadd (pc' := 34) dX12_answers_33 rfl ?_
    refine jb_top (v := .int ((nI (268 + 4 * i)) + 3)) (w := .int (nI (268 + 4 * i + 3))) (jb_vI (nI_add _ 3)) ?_
    refine jb_iaload (pc' := 35) (i9 := (268 + 4 * i + 3)) (f := d) dX12_answers_34 rfl (jb_ix_nI (by omega)) (by omega) rfl ?_
    refine jb_top (v := .int (d (268 + 4 * i + 3))) (w := .int (nI (V 13 i))) (jb_vI (dd i (by omega)).2.2.2) ?_
    refine jb_aload_n (pc' := 36) dX12_answers_35 rfl rfl ?_
    refine gf_X12_7 (pc' := 39) (v := .ref 106) dX12_answers_36 rfl rfl rfl ?_
    refine jb_iconst (pc' := 40) 3 dX12_answers_39 (by decide) rfl ?_
    refine jb_iaload (pc' := 41) (i9 := 3) (f := d) dX12_answers_40 rfl jb_x3 (by decide) rfl ?_
    refine jb_top (v := .int (d 3)) (w := .int (nI (V 0 0))) (jb_vI e3) ?_
    refine jb_icmp_le (tgt := 90) (pc' := 44) dX12_answers_41 (by decide) rfl (fun c2 => ?_) (fun c2 => ?_)
    · have c2 : (V 13 i) ≤ (V 0 0) := (nI_leI (a := (V 13 i)) (b := (V 0 0)) (by omega) (by omega)).mp c2
      refine jb_aload_n (pc' := 91) dX12_answers_90 rfl rfl ?_
      refine gf_X12_7 (pc' := 94) (v := .ref 106) dX12_answers_91 rfl rfl rfl ?_
      refine jb_iconst (pc' := 95) 5 dX12_answers_94 (by decide) rfl ?_
      refine jb_iaload (pc' := 96) (i9 := 5) (f := d) dX12_answers_95 rfl jb_x5 (by decide) rfl ?_
      refine jb_top (v := .int (d 5)) (w := .int (nI (V 0 2))) (jb_vI e5) ?_
      refine jb_bipush (pc' := 98) 40 dX12_answers_96 (by decide) rfl ?_
      refine jb_icmp_ge (tgt := 132) (pc' := 101) dX12_answers_98 (by decide) rfl (fun c3 => ?_) (fun c3 => ?_)
      · have c3 : 40 ≤ (V 0 2) := (nI_leI (a := 40) (b := (V 0 2)) (by omega) (by omega)).mp c3
        refine jb_iinc_ (pc' := 135) (nI (i + 1)) dX12_answers_132 (by decide) rfl (jb_inc i 1) (jb_at3 rfl) rfl ?_
        refine jb_goto (pc' := 12) dX12_answers_135 (by decide) ?_
        have e9 : jm_sd (n + 1) i l V = jm_sd n (i + 1) l (jm_as V (V 10 i) (V 11 i) (V 12 i + 1)) := if_pos (by omega)
        have ea : jm_as V (V 10 i) (V 11 i) (V 12 i + 1) = V := if_neg (by omega)
        rw [ea] at e9
        refine jb_J.mono (ih (i + 1) l V d _ _ (by omega) hN (by omega) hd0 hk0) (Nat.le_refl _) (Nat.le_refl _) (Nat.le_refl _) (fun r h9 hq => ?_)
        obtain ⟨rfl, d7, hd7, hz7, hf7, rfl⟩ := hq
        exact ⟨rfl, d7, by rw [e9]; exact hd7, hz7, hf7, rfl⟩
      · have c3 : ¬ 40 ≤ (V 0 2) := fun z9 => c3 ((nI_leI (a := 40) (b := (V 0 2)) (by omega) (by omega)).mpr z9)
        refine jb_aload_n (pc' := 102) dX12_answers_101 rfl rfl ?_
        refine jb_aload_n (pc' := 103) dX12_answers_102 rfl rfl ?_
        refine gf_X12_7 (pc' := 106) (v := .ref 106) dX12_answers_103 rfl rfl rfl ?_
        refine jb_iload (pc' := 108) dX12_answers_106 rfl rfl ?_
        refine jb_iaload (pc' := 109) (i9 := (268 + 4 * i)) (f := d) dX12_answers_108 rfl (jb_ix_nI (by omega)) (by omega) rfl ?_
        refine jb_top (v := .int (d (268 + 4 * i))) (w := .int (nI (V 10 i))) (jb_vI (dd i (by omega)).1) ?_
        refine jb_aload_n (pc' := 110) dX12_answers_109 rfl rfl ?_
        refine gf_X12_7 (pc' := 113) (v := .ref 106) dX12_answers_110 rfl rfl rfl ?_
        refine jb_iload (pc' := 115) dX12_answers_113 rfl rfl ?_
        refine jb_iconst (pc' := 116) 1 dX12_answers_115 (by decide) rfl ?_
        refine jb_iadd (pc' := 117) dX12_answers_116 rfl ?_
        refine jb_top (v := .int ((nI (268 + 4 * i)) + 1)) (w := .int (nI (268 + 4 * i + 1))) (jb_vI (nI_add _ 1)) ?_
        refine jb_iaload (pc' := 118) (i9 := (268 + 4 * i + 1)) (f := d) dX12_answers_117 rfl (jb_ix_nI (by omega)) (by omega) rfl ?_
        refine jb_top (v := .int (d (268 + 4 * i + 1))) (w := .int (nI (V 11 i))) (jb_vI (dd i (by omega)).2.1) ?_
        refine jb_aload_n (pc' := 119) dX12_answers_118 rfl rfl ?_
        refine gf_X12_7 (pc' := 122) (v := .ref 106) dX12_answers_119 rfl rfl rfl ?_
        refine jb_iload (pc' := 124) dX12_answers_122 rfl rfl ?_
        refine jb_iconst (pc' := 125) 2 dX12_answers_124 (by decide) rfl ?_
        refine jb_iadd (pc' := 126) dX12_answers_125 rfl ?_
        refine jb_top (v := .int ((nI (268 + 4 * i)) + 2)) (w := .int (nI (268 + 4 * i + 2))) (jb_vI (nI_add _ 2)) ?_
        refine jb_iaload (pc' := 127) (i9 := (268 + 4 * i + 2)) (f := d) dX12_answers_126 rfl (jb_ix_nI (by omega)) (by omega) rfl ?_
        refine jb_top (v := .int (d (268 + 4 * i + 2))) (w := .int (nI (V 12 i + 1) - 1)) (jb_vI (by rw [(dd i (by omega)).2.2.1, nI_pred])) ?_
        refine jb_callV (pc' := 130) (ci := 12) (q := 105) (As := [.int (nI (V 10 i)), .int (nI (V 11 i)), .int (nI (V 12 i + 1) - 1)]) (a2 := 0) (b2 := 0) wv_X12_174 rfl dX12_answers_127 (c_shoutsm I J d e kp nm W hd0 hk0 (V 10 i) (V 11 i) (V 12 i + 1) (by omega) (by omega)) rfl rfl ⟨by decide, Nat.le_of_eq (Nat.zero_add _), Nat.le_of_eq (Nat.zero_add _)⟩ (Nat.le_of_ble_eq_true rfl) rfl (fun r h9 hq => ?_)
        obtain ⟨rfl, d9, hd9, hz9, hf9, rfl⟩ := hq
        show jb_J _ RX12 cX12_answers 6 (Option.none : Option Jvm.ClassFile.FieldType) false 2 0 0 130 [some (.ref 105), some (.int (nI l)), some (.int (nI N)), some (.int (nI i)), some (.int (nI (268 + 4 * i))), x5] [.int (nI (V 0 2))] [s0, s1, s2, s3, s4, s5, s6, s7, s8, s9, jb_mdl I J d9 e kp nm W, s11] _
        refine jb_istore_ (pc' := 132) dX12_answers_130 (by decide) (jb_at5 rfl) rfl ?_
        refine jb_iinc_ (pc' := 135) (nI (i + 1)) dX12_answers_132 (by decide) rfl (jb_inc i 1) (jb_at3 rfl) rfl ?_
        refine jb_goto (pc' := 12) dX12_answers_135 (by decide) ?_
        have e9 : jm_sd (n + 1) i l V = jm_sd n (i + 1) l (jm_as V (V 10 i) (V 11 i) (V 12 i + 1)) := if_pos (by omega)
        have ea : jm_as V (V 10 i) (V 11 i) (V 12 i + 1) = jm_sh V (V 10 i) (V 11 i) (V 12 i + 1) := if_pos (by omega)
        rw [ea] at e9
        refine jb_J.mono (ih (i + 1) l (jm_sh V (V 10 i) (V 11 i) (V 12 i + 1)) d9 _ _ (by omega) hN (by omega) hd9 (jv_ok_sh hk0 (by omega) (by omega) (by omega) (by omega))) (Nat.le_refl _) (Nat.le_refl _) (Nat.le_refl _) (fun r h9 hq => ?_)
        obtain ⟨rfl, d7, hd7, hz7, hf7, rfl⟩ := hq
        exact ⟨rfl, d7, by rw [e9]; exact hd7, hz7.trans hz9, hf9.tr hf7, rfl⟩
    · have c2 : ¬ (V 13 i) ≤ (V 0 0) := fun z9 => c2 ((nI_leI (a := (V 13 i)) (b := (V 0 0)) (by omega) (by omega)).mpr z9)
      refine jb_iconst (pc' := 45) 0 dX12_answers_44 (by decide) rfl ?_
      refine jb_istore_ (pc' := 47) dX12_answers_45 (by decide) (jb_at5 rfl) rfl ?_
      refine jb_iload (pc' := 49) dX12_answers_47 rfl rfl ?_
      refine jb_iconst (pc' := 50) 4 dX12_answers_49 (by decide) rfl ?_
      refine jb_icmp_ge (tgt := 84) (pc' := 53) dX12_answers_50 (by decide) rfl (fun z => absurd z (by decide)) (fun _ => ?_)
      refine jb_aload_n (pc' := 54) dX12_answers_53 rfl rfl ?_
      refine gf_X12_7 (pc' := 57) (v := .ref 106) dX12_answers_54 rfl rfl rfl ?_
      refine jb_sipush (pc' := 60) 268 dX12_answers_57 (by decide) rfl ?_
      refine jb_iconst (pc' := 61) 4 dX12_answers_60 (by decide) rfl ?_
      refine jb_iload_n (pc' := 62) dX12_answers_61 rfl rfl ?_
      refine jb_imul (pc' := 63) dX12_answers_62 rfl ?_
      refine jb_top (v := .int (4 * (nI l))) (w := .int (nI (4 * l))) (jb_vI (pk_mul 4 _)) ?_
      refine jb_iadd (pc' := 64) dX12_answers_63 rfl ?_
      refine jb_top (v := .int (268 + (nI (4 * l)))) (w := .int (nI (268 + 4 * l))) (jb_vI (nI_add 268 _)) ?_
      refine jb_iload (pc' := 66) dX12_answers_64 rfl rfl ?_
      refine jb_iadd (pc' := 67) dX12_answers_66 rfl ?_
      refine jb_top (v := .int ((nI (268 + 4 * l)) + 0)) (w := .int (nI (268 + 4 * l + 0))) (jb_vI (nI_add _ 0)) ?_
      refine jb_aload_n (pc' := 68) dX12_answers_67 rfl rfl ?_
      refine gf_X12_7 (pc' := 71) (v := .ref 106) dX12_answers_68 rfl rfl rfl ?_
      refine jb_iload (pc' := 73) dX12_answers_71 rfl rfl ?_
      refine jb_iload (pc' := 75) dX12_answers_73 rfl rfl ?_
      refine jb_iadd (pc' := 76) dX12_answers_75 rfl ?_
      refine jb_top (v := .int ((nI (268 + 4 * i)) + 0)) (w := .int (nI (268 + 4 * i + 0))) (jb_vI (nI_add _ 0)) ?_
      refine jb_iaload (pc' := 77) (i9 := (268 + 4 * i + 0)) (f := d) dX12_answers_76 rfl (jb_ix_nI (by omega)) (by omega) rfl ?_
      refine jb_top (v := .int (d (268 + 4 * i + 0))) (w := .int (nI (V 10 i))) (jb_vI (dd i (by omega)).1) ?_
      refine jb_iastore (pc' := 78) (i9 := (268 + 4 * l + 0)) (f := d) (h' := [s0, s1, s2, s3, s4, s5, s6, s7, s8, s9, jb_mdl I J (upd d (268 + 4 * l + 0) (nI (V 10 i))) e kp nm W, s11]) dX12_answers_77 rfl (jb_ix_nI (by omega)) (by omega) rfl rfl ?_
      refine jb_iinc_ (pc' := 81) 1 dX12_answers_78 (by decide) rfl (by decide) (jb_at5 rfl) rfl ?_
      refine jb_goto (pc' := 47) dX12_answers_81 (by decide) ?_
      refine jb_iload (pc' := 49) dX12_answers_47 rfl rfl ?_
      refine jb_iconst (pc' := 50) 4 dX12_answers_49 (by decide) rfl ?_
      refine jb_icmp_ge (tgt := 84) (pc' := 53) dX12_answers_50 (by decide) rfl (fun z => absurd z (by decide)) (fun _ => ?_)
      refine jb_aload_n (pc' := 54) dX12_answers_53 rfl rfl ?_
      refine gf_X12_7 (pc' := 57) (v := .ref 106) dX12_answers_54 rfl rfl rfl ?_
      refine jb_sipush (pc' := 60) 268 dX12_answers_57 (by decide) rfl ?_
      refine jb_iconst (pc' := 61) 4 dX12_answers_60 (by decide) rfl ?_
      refine jb_iload_n (pc' := 62) dX12_answers_61 rfl rfl ?_
      refine jb_imul (pc' := 63) dX12_answers_62 rfl ?_
      refine jb_top (v := .int (4 * (nI l))) (w := .int (nI (4 * l))) (jb_vI (pk_mul 4 _)) ?_
      refine jb_iadd (pc' := 64) dX12_answers_63 rfl ?_
      refine jb_top (v := .int (268 + (nI (4 * l)))) (w := .int (nI (268 + 4 * l))) (jb_vI (nI_add 268 _)) ?_
      refine jb_iload (pc' := 66) dX12_answers_64 rfl rfl ?_
      refine jb_iadd (pc' := 67) dX12_answers_66 rfl ?_
      refine jb_top (v := .int ((nI (268 + 4 * l)) + 1)) (w := .int (nI (268 + 4 * l + 1))) (jb_vI (nI_add _ 1)) ?_
      refine jb_aload_n (pc' := 68) dX12_answers_67 rfl rfl ?_
      refine gf_X12_7 (pc' := 71) (v := .ref 106) dX12_answers_68 rfl rfl rfl ?_
      refine jb_iload (pc' := 73) dX12_answers_71 rfl rfl ?_
      refine jb_iload (pc' := 75) dX12_answers_73 rfl rfl ?_
      refine jb_iadd (pc' := 76) dX12_answers_75 rfl ?_
      refine jb_top (v := .int ((nI (268 + 4 * i)) + 1)) (w := .int (nI (268 + 4 * i + 1))) (jb_vI (nI_add _ 1)) ?_
      refine jb_iaload (pc' := 77) (i9 := (268 + 4 * i + 1)) (f := (upd d (268 + 4 * l + 0) (nI (V 10 i)))) dX12_answers_76 rfl (jb_ix_nI (by omega)) (by omega) rfl ?_
      refine jb_top (v := .int ((upd d (268 + 4 * l + 0) (nI (V 10 i))) (268 + 4 * i + 1))) (w := .int (nI (V 11 i))) (jb_vI (by rw [jb_une (by omega)]; exact (dd i (by omega)).2.1)) ?_
      refine jb_iastore (pc' := 78) (i9 := (268 + 4 * l + 1)) (f := (upd d (268 + 4 * l + 0) (nI (V 10 i)))) (h' := [s0, s1, s2, s3, s4, s5, s6, s7, s8, s9, jb_mdl I J (upd (upd d (268 + 4 * l + 0) (nI (V 10 i))) (268 + 4 * l + 1) (nI (V 11 i))) e kp nm W, s11]) dX12_answers_77 rfl (jb_ix_nI (by omega)) (by omega) rfl rfl ?_
      refine jb_iinc_ (pc' := 81) 2 dX12_answers_78 (by decide) rfl (by decide) (jb_at5 rfl) rfl ?_
      refine jb_goto (pc' := 47) dX12_answers_81 (by decide) ?_
      refine jb_iload (pc' := 49) dX12_answers_47 rfl rfl ?_
      refine jb_iconst (pc' := 50) 4 dX12_answers_49 (by decide) rfl ?_
      refine jb_icmp_ge (tgt := 84) (pc' := 53) dX12_answers_50 (by decide) rfl (fun z => absurd z (by decide)) (fun _ => ?_)
      refine jb_aload_n (pc' := 54) dX12_answers_53 rfl rfl ?_
      refine gf_X12_7 (pc' := 57) (v := .ref 106) dX12_answers_54 rfl rfl rfl ?_
      refine jb_sipush (pc' := 60) 268 dX12_answers_57 (by decide) rfl ?_
      refine jb_iconst (pc' := 61) 4 dX12_answers_60 (by decide) rfl ?_
      refine jb_iload_n (pc' := 62) dX12_answers_61 rfl rfl ?_
      refine jb_imul (pc' := 63) dX12_answers_62 rfl ?_
      refine jb_top (v := .int (4 * (nI l))) (w := .int (nI (4 * l))) (jb_vI (pk_mul 4 _)) ?_
      refine jb_iadd (pc' := 64) dX12_answers_63 rfl ?_
      refine jb_top (v := .int (268 + (nI (4 * l)))) (w := .int (nI (268 + 4 * l))) (jb_vI (nI_add 268 _)) ?_
      refine jb_iload (pc' := 66) dX12_answers_64 rfl rfl ?_
      refine jb_iadd (pc' := 67) dX12_answers_66 rfl ?_
      refine jb_top (v := .int ((nI (268 + 4 * l)) + 2)) (w := .int (nI (268 + 4 * l + 2))) (jb_vI (nI_add _ 2)) ?_
      refine jb_aload_n (pc' := 68) dX12_answers_67 rfl rfl ?_
      refine gf_X12_7 (pc' := 71) (v := .ref 106) dX12_answers_68 rfl rfl rfl ?_
      refine jb_iload (pc' := 73) dX12_answers_71 rfl rfl ?_
      refine jb_iload (pc' := 75) dX12_answers_73 rfl rfl ?_
      refine jb_iadd (pc' := 76) dX12_answers_75 rfl ?_
      refine jb_top (v := .int ((nI (268 + 4 * i)) + 2)) (w := .int (nI (268 + 4 * i + 2))) (jb_vI (nI_add _ 2)) ?_
      refine jb_iaload (pc' := 77) (i9 := (268 + 4 * i + 2)) (f := (upd (upd d (268 + 4 * l + 0) (nI (V 10 i))) (268 + 4 * l + 1) (nI (V 11 i)))) dX12_answers_76 rfl (jb_ix_nI (by omega)) (by omega) rfl ?_
      refine jb_top (v := .int ((upd (upd d (268 + 4 * l + 0) (nI (V 10 i))) (268 + 4 * l + 1) (nI (V 11 i))) (268 + 4 * i + 2))) (w := .int (nI (V 12 i))) (jb_vI (by rw [jb_une (by omega), jb_une (by omega)]; exact (dd i (by omega)).2.2.1)) ?_
      refine jb_iastore (pc' := 78) (i9 := (268 + 4 * l + 2)) (f := (upd (upd d (268 + 4 * l + 0) (nI (V 10 i))) (268 + 4 * l + 1) (nI (V 11 i)))) (h' := [s0, s1, s2, s3, s4, s5, s6, s7, s8, s9, jb_mdl I J (upd (upd (upd d (268 + 4 * l + 0) (nI (V 10 i))) (268 + 4 * l + 1) (nI (V 11 i))) (268 + 4 * l + 2) (nI (V 12 i))) e kp nm W, s11]) dX12_answers_77 rfl (jb_ix_nI (by omega)) (by omega) rfl rfl ?_
      refine jb_iinc_ (pc' := 81) 3 dX12_answers_78 (by decide) rfl (by decide) (jb_at5 rfl) rfl ?_
      refine jb_goto (pc' := 47) dX12_answers_81 (by decide) ?_
      refine jb_iload (pc' := 49) dX12_answers_47 rfl rfl ?_
      refine jb_iconst (pc' := 50) 4 dX12_answers_49 (by decide) rfl ?_
      refine jb_icmp_ge (tgt := 84) (pc' := 53) dX12_answers_50 (by decide) rfl (fun z => absurd z (by decide)) (fun _ => ?_)
      refine jb_aload_n (pc' := 54) dX12_answers_53 rfl rfl ?_
      refine gf_X12_7 (pc' := 57) (v := .ref 106) dX12_answers_54 rfl rfl rfl ?_
      refine jb_sipush (pc' := 60) 268 dX12_answers_57 (by decide) rfl ?_
      refine jb_iconst (pc' := 61) 4 dX12_answers_60 (by decide) rfl ?_
      refine jb_iload_n (pc' := 62) dX12_answers_61 rfl rfl ?_
      refine jb_imul (pc' := 63) dX12_answers_62 rfl ?_
      refine jb_top (v := .int (4 * (nI l))) (w := .int (nI (4 * l))) (jb_vI (pk_mul 4 _)) ?_
      refine jb_iadd (pc' := 64) dX12_answers_63 rfl ?_
      refine jb_top (v := .int (268 + (nI (4 * l)))) (w := .int (nI (268 + 4 * l))) (jb_vI (nI_add 268 _)) ?_
      refine jb_iload (pc' := 66) dX12_answers_64 rfl rfl ?_
      refine jb_iadd (pc' := 67) dX12_answers_66 rfl ?_
      refine jb_top (v := .int ((nI (268 + 4 * l)) + 3)) (w := .int (nI (268 + 4 * l + 3))) (jb_vI (nI_add _ 3)) ?_
      refine jb_aload_n (pc' := 68) dX12_answers_67 rfl rfl ?_
      refine gf_X12_7 (pc' := 71) (v := .ref 106) dX12_answers_68 rfl rfl rfl ?_
      refine jb_iload (pc' := 73) dX12_answers_71 rfl rfl ?_
      refine jb_iload (pc' := 75) dX12_answers_73 rfl rfl ?_
      refine jb_iadd (pc' := 76) dX12_answers_75 rfl ?_
      refine jb_top (v := .int ((nI (268 + 4 * i)) + 3)) (w := .int (nI (268 + 4 * i + 3))) (jb_vI (nI_add _ 3)) ?_
      refine jb_iaload (pc' := 77) (i9 := (268 + 4 * i + 3)) (f := (upd (upd (upd d (268 + 4 * l + 0) (nI (V 10 i))) (268 + 4 * l + 1) (nI (V 11 i))) (268 + 4 * l + 2) (nI (V 12 i)))) dX12_answers_76 rfl (jb_ix_nI (by omega)) (by omega) rfl ?_
      refine jb_top (v := .int ((upd (upd (upd d (268 + 4 * l + 0) (nI (V 10 i))) (268 + 4 * l + 1) (nI (V 11 i))) (268 + 4 * l + 2) (nI (V 12 i))) (268 + 4 * i + 3))) (w := .int (nI (V 13 i))) (jb_vI (by rw [jb_une (by omega), jb_une (by omega), jb_une (by omega)]; exact (dd i (by omega)).2.2.2)) ?_
      refine jb_iastore (pc' := 78) (i9 := (268 + 4 * l + 3)) (f := (upd (upd (upd d (268 + 4 * l + 0) (nI (V 10 i))) (268 + 4 * l + 1) (nI (V 11 i))) (268 + 4 * l + 2) (nI (V 12 i)))) (h' := [s0, s1, s2, s3, s4, s5, s6, s7, s8, s9, jb_mdl I J (upd (upd (upd (upd d (268 + 4 * l + 0) (nI (V 10 i))) (268 + 4 * l + 1) (nI (V 11 i))) (268 + 4 * l + 2) (nI (V 12 i))) (268 + 4 * l + 3) (nI (V 13 i))) e kp nm W, s11]) dX12_answers_77 rfl (jb_ix_nI (by omega)) (by omega) rfl rfl ?_
      refine jb_iinc_ (pc' := 81) 4 dX12_answers_78 (by decide) rfl (by decide) (jb_at5 rfl) rfl ?_
      refine jb_goto (pc' := 47) dX12_answers_81 (by decide) ?_
      refine jb_iload (pc' := 49) dX12_answers_47 rfl rfl ?_
      refine jb_iconst (pc' := 50) 4 dX12_answers_49 (by decide) rfl ?_
      refine jb_icmp_ge (tgt := 84) (pc' := 53) dX12_answers_50 (by decide) rfl (fun _ => ?_) (fun z => absurd (by decide) z)
      refine jb_iinc_ (pc' := 87) (nI (l + 1)) dX12_answers_84 (by decide) rfl (jb_inc l 1) (jb_at1 rfl) rfl ?_
      refine jb_goto (pc' := 132) dX12_answers_87 (by decide) ?_
      refine jb_iinc_ (pc' := 135) (nI (i + 1)) dX12_answers_132 (by decide) rfl (jb_inc i 1) (jb_at3 rfl) rfl ?_
      refine jb_goto (pc' := 12) dX12_answers_135 (by decide) ?_
      have e9 : jm_sd (n + 1) i l V = jm_sd n (i + 1) (l + 1) (jm_mv V l i) := if_neg (by omega)
      obtain ⟨hf, -, -, -, -⟩ := jd_v4 (d := d) (n := l) (v0 := nI (V 10 i)) (v1 := nI (V 11 i)) (v2 := nI (V 12 i)) (v3 := nI (V 13 i))
      refine jb_J.mono (ih (i + 1) (l + 1) (jm_mv V l i) (upd (upd (upd (upd d (268 + 4 * l + 0) (nI (V 10 i))) (268 + 4 * l + 1) (nI (V 11 i))) (268 + 4 * l + 2) (nI (V 12 i))) (268 + 4 * l + 3) (nI (V 13 i))) _ _ (by omega) hN (by omega) (jd_mv hd0 hk0) (jv_ok_mv hk0 (by omega))) (Nat.le_refl _) (Nat.le_refl _) (Nat.le_refl _) (fun r h9 hq => ?_)
      obtain ⟨rfl, d7, hd7, hz7, hf7, rfl⟩ := hq
      exact ⟨rfl, d7, by rw [e9]; exact hd7, hz7.trans (hf 7 (by omega)), jd_f.tr ⟨hf 8 (by omega), hf 9 (by omega), fun k hk => hf k (by omega)⟩ hf7, rfl⟩
set_option maxRecDepth 100000 in
set_option maxHeartbeats 4000000 in
theorem c_answersm {sc : Nat × (Nat → Int32)} {s0 s1 s2 s3 s4 s5 s6 s7 s8 s9 s11 : List va_E} {V : Nat → Nat → Nat} (I J d e kp nm : Nat → Int32) (W : Nat → Nat → Int32) (hd : jd_ V d) (hk : jv_ok V) : jb_C sc yX12_answers cX12_answers 6 (Option.none : Option Jvm.ClassFile.FieldType) 2 0 0 [.ref 105] [s0, s1, s2, s3, s4, s5, s6, s7, s8, s9, jb_mdl I J d e kp nm W, s11] (fun r h9 => r = none ∧ ∃ d9, jd_ (jm_du V) d9 ∧ d9 7 = d 7 ∧ jd_f d d9 ∧ h9 = [s0, s1, s2, s3, s4, s5, s6, s7, s8, s9, jb_mdl I J d9 e kp nm W, s11]) := by
  refine jb_CofJ (ini := false) (by decide +kernel) (fun h => by cases h) (Nat.le_of_ble_eq_true rfl) ?_
  show jb_J sc RX12 cX12_answers 6 (Option.none : Option Jvm.ClassFile.FieldType) false 2 0 0 0 [some (.ref 105), none, none, none, none, none] [] [s0, s1, s2, s3, s4, s5, s6, s7, s8, s9, jb_mdl I J d e kp nm W, s11] _
  have hd0 := hd
  have hk0 := hk
  obtain ⟨e0, e1, e2, e3, e4, e5, e6, dv, ds, dd⟩ := hd
  obtain ⟨k0, k1, k2, k3, k4, k5, k6, k7, kv, ks, kd⟩ := hk
  refine jb_iconst (pc' := 1) 0 dX12_answers_0 (by decide) rfl ?_
  refine jb_istore_n_ (pc' := 2) dX12_answers_1 (by decide) (jb_at1 rfl) rfl ?_
  refine jb_aload_n (pc' := 3) dX12_answers_2 rfl rfl ?_
  refine gf_X12_7 (pc' := 6) (v := .ref 106) dX12_answers_3 rfl rfl rfl ?_
  refine jb_bipush (pc' := 8) 6 dX12_answers_6 (by decide) rfl ?_
  refine jb_iaload (pc' := 9) (i9 := 6) (f := d) dX12_answers_8 rfl jb_x6 (by decide) rfl ?_
  refine jb_top (v := .int (d 6)) (w := .int (nI (V 0 3))) (jb_vI e6) ?_
  refine jb_istore_n_ (pc' := 10) dX12_answers_9 (by decide) (jb_at2 rfl) rfl ?_
  refine jb_iconst (pc' := 11) 0 dX12_answers_10 (by decide) rfl ?_
  refine jb_istore_n_ (pc' := 12) dX12_answers_11 (by decide) (jb_at3 rfl) rfl ?_
  refine jb_J.mono (l_ansm I J e kp nm W (V 0 3) (V 0 3) 0 0 V d _ _ (by omega) rfl (by omega) hd0 hk0) (Nat.le_refl _) (Nat.le_refl _) (Nat.le_refl _) (fun r h9 hq => hq)
