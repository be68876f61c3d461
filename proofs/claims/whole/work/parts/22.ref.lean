theorem jd_u4 {d : Nat → Int32} {n : Nat} {v0 v1 v2 v3 v4 : Int32} :
    (∀ j, ¬ j = 6 → (j < 268 + 4 * n ∨ 268 + 4 * n + 4 ≤ j) → (upd (upd (upd (upd (upd d (268 + 4 * n) v0) (268 + 4 * n + 1) v1) (268 + 4 * n + 2) v2) (268 + 4 * n + 3) v3) 6 v4) j = d j) ∧ (upd (upd (upd (upd (upd d (268 + 4 * n) v0) (268 + 4 * n + 1) v1) (268 + 4 * n + 2) v2) (268 + 4 * n + 3) v3) 6 v4) 6 = v4 ∧ (upd (upd (upd (upd (upd d (268 + 4 * n) v0) (268 + 4 * n + 1) v1) (268 + 4 * n + 2) v2) (268 + 4 * n + 3) v3) 6 v4) (268 + 4 * n + 0) = v0 ∧ (upd (upd (upd (upd (upd d (268 + 4 * n) v0) (268 + 4 * n + 1) v1) (268 + 4 * n + 2) v2) (268 + 4 * n + 3) v3) 6 v4) (268 + 4 * n + 1) = v1 ∧ (upd (upd (upd (upd (upd d (268 + 4 * n) v0) (268 + 4 * n + 1) v1) (268 + 4 * n + 2) v2) (268 + 4 * n + 3) v3) 6 v4) (268 + 4 * n + 2) = v2 ∧ (upd (upd (upd (upd (upd d (268 + 4 * n) v0) (268 + 4 * n + 1) v1) (268 + 4 * n + 2) v2) (268 + 4 * n + 3) v3) 6 v4) (268 + 4 * n + 3) = v3 := by
  refine ⟨fun j h5 hj => ?_, jb_uee, ?_, ?_, ?_, ?_⟩
  · rw [jb_une h5, jb_une (by omega), jb_une (by omega), jb_une (by omega), jb_une (by omega)]
  · rw [jb_une (by omega), jb_une (by omega), jb_une (by omega), jb_une (by omega)]; exact jb_uee
  · rw [jb_une (by omega), jb_une (by omega), jb_une (by omega)]; exact jb_uee
  · rw [jb_une (by omega), jb_une (by omega)]; exact jb_uee
  · rw [jb_une (by omega)]; exact jb_uee
theorem jd_due {V : Nat → Nat → Nat} {d : Nat → Int32} (hd : jd_ V d) (hk : jv_ok V) (q w s : Nat) :
    jd_ (jm_due V q w s) (upd (upd (upd (upd (upd d (268 + 4 * V 0 3) (nI q)) (268 + 4 * V 0 3 + 1) (nI w)) (268 + 4 * V 0 3 + 2) (nI s)) (268 + 4 * V 0 3 + 3) (nI (V 0 0 + jm_th V q))) 6 (nI (V 0 3 + 1))) := by
  obtain ⟨e0, e1, e2, e3, e4, e5, e6, dv, ds, dd⟩ := hd
  obtain ⟨k0, k1, k2, k3, k4, k5, k6, k7, -, -, -⟩ := hk
  obtain ⟨hf, f6, g0, g1, g2, g3⟩ := jd_u4 (d := d) (n := V 0 3) (v0 := nI q) (v1 := nI w) (v2 := nI s) (v3 := nI (V 0 0 + jm_th V q)) (v4 := nI (V 0 3 + 1))
  refine ⟨by rw [hf 0 (by decide) (by omega)]; exact e0, by rw [hf 1 (by decide) (by omega)]; exact e1, by rw [hf 2 (by decide) (by omega)]; exact e2, by rw [hf 3 (by decide) (by omega)]; exact e3, by rw [hf 4 (by decide) (by omega)]; exact e4, by rw [hf 5 (by decide) (by omega)]; exact e5, by rw [f6]; rfl, fun p hp => ?_, fun s hs => ?_, fun k hk => ?_⟩
  · have hp' : p < V 0 1 := hp
    rw [hf _ (by omega) (by omega), hf _ (by omega) (by omega), hf _ (by omega) (by omega)]; exact dv p hp'
  · have hs' : s < V 0 2 := hs
    rw [hf _ (by omega) (by omega), hf _ (by omega) (by omega), hf _ (by omega) (by omega), hf _ (by omega) (by omega), hf _ (by omega) (by omega), hf _ (by omega) (by omega)]; exact ds s hs'
  · have hk' : k < V 0 3 + 1 := hk
    by_cases e : k = V 0 3
    · rw [show jm_due V q w s 10 k = q from if_pos e, show jm_due V q w s 11 k = w from if_pos e, show jm_due V q w s 12 k = s from if_pos e, show jm_due V q w s 13 k = V 0 0 + jm_th V q from if_pos e, e]
      exact ⟨g0, g1, g2, g3⟩
    · rw [show jm_due V q w s 10 k = V 10 k from if_neg e, show jm_due V q w s 11 k = V 11 k from if_neg e, show jm_due V q w s 12 k = V 12 k from if_neg e, show jm_due V q w s 13 k = V 13 k from if_neg e]
      rw [hf _ (by omega) (by omega), hf _ (by omega) (by omega), hf _ (by omega) (by omega), hf _ (by omega) (by omega)]; exact dd k (by omega)
set_option maxRecDepth 100000 in
set_option maxHeartbeats 4000000 in
theorem c_comesOver1 {sc : Nat × (Nat → Int32)} {s0 s1 s2 s3 s4 s5 s6 s7 s8 s9 s11 : List va_E} {V : Nat → Nat → Nat} (I J d e kp nm : Nat → Int32) (W : Nat → Nat → Int32) (hd : jd_ V d) (hk : jv_ok V) {G : jm_G} (hG : jm_Gok G) {d0 : Nat → Int32} (hg : jGm sc d0 G) (hag : ∀ k, 316 ≤ k → d k = d0 k) (s : Nat) (hs : s < V 0 2) : jb_C sc yX12_comesOver cX12_comesOver 8 (Option.none : Option Jvm.ClassFile.FieldType) 47 0 0 [.ref 105, .int (nI s), .int 1] [s0, s1, s2, s3, s4, s5, s6, s7, s8, s9, jb_mdl I J d e kp nm W, s11] (fun r h9 => r = none ∧ ∃ J9 nm9 d9, jd_ (jm_co G true s (V, d 7)).1 d9 ∧ d9 7 = (jm_co G true s (V, d 7)).2 ∧ jd_f d d9 ∧ h9 = [s0, s1, s2, s3, s4, s5, s6, s7, s8, s9, jb_mdl I J9 d9 e kp nm9 W, s11]) := by
  refine jb_CofJ (ini := false) (by decide +kernel) (fun h => by cases h) (Nat.le_of_ble_eq_true rfl) ?_
  show jb_J sc RX12 cX12_comesOver 8 (Option.none : Option Jvm.ClassFile.FieldType) false 47 0 0 0 [some (.ref 105), some (.int (nI s)), some (.int 1), none, none, none, none, none] [] [s0, s1, s2, s3, s4, s5, s6, s7, s8, s9, jb_mdl I J d e kp nm W, s11] _
  have hd0 := hd
  have hk0 := hk
  obtain ⟨e0, e1, e2, e3, e4, e5, e6, dv, ds, dd⟩ := hd
  obtain ⟨k0, k1, k2, k3, k4, k5, k6, k7, kv, ks, kd⟩ := hk
  have q0 := ks s hs
  have q2 := kv (V 5 s) (by omega)
  refine jb_aload_n (pc' := 1) dX12_comesOver_0 rfl rfl ?_
  refine jb_iload_n (pc' := 2) dX12_comesOver_1 rfl rfl ?_
  refine jb_iconst (pc' := 3) 3 dX12_comesOver_2 (by decide) rfl ?_
  refine jb_callV (pc' := 6) (ci := 12) (q := 105) (As := [.int (nI s), .int 3]) (a2 := 0) (b2 := 0) wv_X12_182 rfl dX12_comesOver_3 (c_ofIt3 I J d e kp nm W hd0 hk0 s (by omega)) rfl rfl ⟨by decide, Nat.le_of_eq (Nat.zero_add _), Nat.le_of_eq (Nat.zero_add _)⟩ (Nat.le_of_ble_eq_true rfl) rfl (fun r h9 hq => ?_)
  obtain ⟨rfl, rfl⟩ := hq
  show jb_J _ RX12 cX12_comesOver 8 (Option.none : Option Jvm.ClassFile.FieldType) false 47 0 0 6 [some (.ref 105), some (.int (nI s)), some (.int 1), none, none, none, none, none] [.int (nI (V 7 s))] [s0, s1, s2, s3, s4, s5, s6, s7, s8, s9, jb_mdl I J d e kp nm W, s11] _
  refine jb_istore_n_ (pc' := 7) dX12_comesOver_6 (by decide) (jb_at3 rfl) rfl ?_
  refine jb_aload_n (pc' := 8) dX12_comesOver_7 rfl rfl ?_
  refine jb_aload_n (pc' := 9) dX12_comesOver_8 rfl rfl ?_
  refine jb_iload_n (pc' := 10) dX12_comesOver_9 rfl rfl ?_
  refine jb_iconst (pc' := 11) 1 dX12_comesOver_10 (by decide) rfl ?_
  refine jb_callV (pc' := 14) (ci := 12) (q := 105) (As := [.int (nI s), .int 1]) (a2 := 0) (b2 := 0) wv_X12_182 rfl dX12_comesOver_11 (c_ofIt1 I J d e kp nm W hd0 hk0 s (by omega)) rfl rfl ⟨by decide, Nat.le_of_eq (Nat.zero_add _), Nat.le_of_eq (Nat.zero_add _)⟩ (Nat.le_of_ble_eq_true rfl) rfl (fun r h9 hq => ?_)
  obtain ⟨rfl, rfl⟩ := hq
  show jb_J _ RX12 cX12_comesOver 8 (Option.none : Option Jvm.ClassFile.FieldType) false 47 0 0 14 [some (.ref 105), some (.int (nI s)), some (.int 1), some (.int (nI (V 7 s))), none, none, none, none] [.int (nI (V 5 s)), .ref 105] [s0, s1, s2, s3, s4, s5, s6, s7, s8, s9, jb_mdl I J d e kp nm W, s11] _
  refine jb_iload_n (pc' := 15) dX12_comesOver_14 rfl rfl ?_
  refine jb_callV (pc' := 18) (ci := 12) (q := 105) (As := [.int (nI (V 5 s)), .int (nI (V 7 s))]) (a2 := 0) (b2 := 0) wv_X12_160 rfl dX12_comesOver_15 (c_carriesOf I J d e kp nm W hd0 hk0 hG hg hag (V 5 s) (V 7 s) (by omega) (by omega)) rfl rfl ⟨by decide, Nat.le_of_eq (Nat.zero_add _), Nat.le_of_eq (Nat.zero_add _)⟩ (Nat.le_of_ble_eq_true rfl) rfl (fun r h9 hq => ?_)
  obtain ⟨rfl, J9, nm9, rfl⟩ := hq
  show jb_J _ RX12 cX12_comesOver 8 (Option.none : Option Jvm.ClassFile.FieldType) false 47 0 0 18 [some (.ref 105), some (.int (nI s)), some (.int 1), some (.int (nI (V 7 s))), none, none, none, none] [.int (jm_ca V G (V 5 s) (V 7 s))] [s0, s1, s2, s3, s4, s5, s6, s7, s8, s9, jb_mdl I J9 d e kp nm9 W, s11] _
  refine jb_istore_ (pc' := 20) dX12_comesOver_18 (by decide) (jb_at4 rfl) rfl ?_
  refine jb_iload_n (pc' := 21) dX12_comesOver_20 rfl rfl ?_
  refine jb_if_eq (tgt := 44) (pc' := 24) dX12_comesOver_21 (by decide) rfl (fun z => absurd z (by decide)) (fun _ => ?_)
  refine jb_aload_n (pc' := 25) dX12_comesOver_24 rfl rfl ?_
  refine jb_callV (pc' := 28) (ci := 12) (q := 105) (As := []) (a2 := 0) (b2 := 0) wv_X12_189 rfl dX12_comesOver_25 (c_drawn I J9 d e kp nm9 W) rfl rfl ⟨by decide, Nat.le_of_eq (Nat.zero_add _), Nat.le_of_eq (Nat.zero_add _)⟩ (Nat.le_of_ble_eq_true rfl) rfl (fun r h9 hq => ?_)
  obtain ⟨rfl, rfl⟩ := hq
  obtain ⟨z9, hz9⟩ : ∃ z, jm_dr (d 7) = z := ⟨_, rfl⟩
  rw [hz9]
  have hd8 : jd_ V (upd d 7 z9) := jd_o hd0 hk0 (by omega)
  have hz8 : (upd d 7 z9) 7 = z9 := jb_uee
  have hf8 : jd_f d (upd d 7 z9) := ⟨jb_une (by decide), jb_une (by decide), fun k hk => jb_une (by omega)⟩
  have hag8 : ∀ k, 316 ≤ k → (upd d 7 z9) k = d0 k := fun k hk => (jb_une (by omega)).trans (hag k hk)
  obtain ⟨d8, hd8e⟩ : ∃ f, upd d 7 z9 = f := ⟨_, rfl⟩
  rw [hd8e] at hd8 hz8 hf8 hag8 ⊢
  show jb_J _ RX12 cX12_comesOver 8 (Option.none : Option Jvm.ClassFile.FieldType) false 47 0 0 28 [some (.ref 105), some (.int (nI s)), some (.int 1), some (.int (nI (V 7 s))), some (.int (jm_ca V G (V 5 s) (V 7 s))), none, none, none] [.int (jm_us z9)] [s0, s1, s2, s3, s4, s5, s6, s7, s8, s9, jb_mdl I J9 d8 e kp nm9 W, s11] _
  refine jb_bipush (pc' := 30) 10 dX12_comesOver_28 (by decide) rfl ?_
  refine jb_irem (pc' := 31) dX12_comesOver_30 (by decide) rfl ?_
  refine jb_iload (pc' := 33) dX12_comesOver_31 rfl rfl ?_
  refine jb_icmp_ge (tgt := 40) (pc' := 36) dX12_comesOver_33 (by decide) rfl (fun hh => ?_) (fun hh => ?_)
  · have hh9 : ¬ jm_hd true (if true = true then jm_dr (d 7) else d 7) (jm_ca V G (V 5 s) (V 7 s)) = true := jm_hd_tf hz9 hh
    refine jb_iconst (pc' := 41) 0 dX12_comesOver_40 (by decide) rfl ?_
    refine jb_goto (pc' := 55) dX12_comesOver_41 (by decide) ?_
    refine jb_istore_ (pc' := 57) dX12_comesOver_55 (by decide) (jb_at5 rfl) rfl ?_
    refine jb_aload_n (pc' := 58) dX12_comesOver_57 rfl rfl ?_
    refine jb_iconst (pc' := 59) 1 dX12_comesOver_58 (by decide) rfl ?_
    refine jb_aload_n (pc' := 60) dX12_comesOver_59 rfl rfl ?_
    refine jb_iload_n (pc' := 61) dX12_comesOver_60 rfl rfl ?_
    refine jb_iconst (pc' := 62) 2 dX12_comesOver_61 (by decide) rfl ?_
    refine jb_callV (pc' := 65) (ci := 12) (q := 105) (As := [.int (nI s), .int 2]) (a2 := 0) (b2 := 0) wv_X12_182 rfl dX12_comesOver_62 (c_ofIt2 I J9 d8 e kp nm9 W hd8 hk0 s (by omega)) rfl rfl ⟨by decide, Nat.le_of_eq (Nat.zero_add _), Nat.le_of_eq (Nat.zero_add _)⟩ (Nat.le_of_ble_eq_true rfl) rfl (fun r h9 hq => ?_)
    obtain ⟨rfl, rfl⟩ := hq
    show jb_J _ RX12 cX12_comesOver 8 (Option.none : Option Jvm.ClassFile.FieldType) false 47 0 0 65 [some (.ref 105), some (.int (nI s)), some (.int 1), some (.int (nI (V 7 s))), some (.int (jm_ca V G (V 5 s) (V 7 s))), some (.int 0), none, none] [.int (nI (V 6 s)), .int 1, .ref 105] [s0, s1, s2, s3, s4, s5, s6, s7, s8, s9, jb_mdl I J9 d8 e kp nm9 W, s11] _
    refine jb_isub (pc' := 66) dX12_comesOver_65 rfl ?_
    refine jb_top (v := .int (1 - (nI (V 6 s)))) (w := .int (nI (1 - (V 6 s)))) (jb_vI (pk_sub (a := 1) (by omega))) ?_
    refine jb_callV (pc' := 69) (ci := 12) (q := 105) (As := [.int (nI (1 - (V 6 s)))]) (a2 := 0) (b2 := 0) wv_X12_192 rfl dX12_comesOver_66 (c_quickm I J9 d8 e kp nm9 W hd8 hk0 (1 - V 6 s) (by omega)) rfl rfl ⟨by decide, Nat.le_of_eq (Nat.zero_add _), Nat.le_of_eq (Nat.zero_add _)⟩ (Nat.le_of_ble_eq_true rfl) rfl (fun r h9 hq => ?_)
    rcases hq with ⟨rfl, ⟨eq9, rfl⟩ | ⟨q, hq9, eq9, rfl⟩⟩
    · show jb_J _ RX12 cX12_comesOver 8 (Option.none : Option Jvm.ClassFile.FieldType) false 47 0 0 69 [some (.ref 105), some (.int (nI s)), some (.int 1), some (.int (nI (V 7 s))), some (.int (jm_ca V G (V 5 s) (V 7 s))), some (.int 0), none, none] [.int (-1)] [s0, s1, s2, s3, s4, s5, s6, s7, s8, s9, jb_mdl I J9 d8 e kp nm9 W, s11] _
      refine jb_istore_ (pc' := 71) dX12_comesOver_69 (by decide) (jb_at6 rfl) rfl ?_
      refine jb_iload (pc' := 73) dX12_comesOver_71 rfl rfl ?_
      refine jb_if_eq (tgt := 182) (pc' := 76) dX12_comesOver_73 (by decide) rfl (fun _ => ?_) (fun z => absurd (by decide) z)
      refine jb_vret dX12_comesOver_182 ?_
      exact ⟨rfl, J9, nm9, d8, by first | (rw [jm_co_f G true s V (d 7) (fun z => by first | exact hh9 z.1 | omega)]; exact hd8) | (rw [jm_co_n G true s V (d 7) eq9]; exact hd8), Eq.trans (b := jm_dr (d 7)) (hz8.trans hz9.symm) (jm_co_z1 G s V (d 7)).symm, hf8, rfl⟩
    · show jb_J _ RX12 cX12_comesOver 8 (Option.none : Option Jvm.ClassFile.FieldType) false 47 0 0 69 [some (.ref 105), some (.int (nI s)), some (.int 1), some (.int (nI (V 7 s))), some (.int (jm_ca V G (V 5 s) (V 7 s))), some (.int 0), none, none] [.int (nI q)] [s0, s1, s2, s3, s4, s5, s6, s7, s8, s9, jb_mdl I J9 d8 e kp nm9 W, s11] _
      refine jb_istore_ (pc' := 71) dX12_comesOver_69 (by decide) (jb_at6 rfl) rfl ?_
      refine jb_iload (pc' := 73) dX12_comesOver_71 rfl rfl ?_
      refine jb_if_eq (tgt := 182) (pc' := 76) dX12_comesOver_73 (by decide) rfl (fun _ => ?_) (fun z => absurd (by decide) z)
      refine jb_vret dX12_comesOver_182 ?_
      exact ⟨rfl, J9, nm9, d8, by first | (rw [jm_co_f G true s V (d 7) (fun z => by first | exact hh9 z.1 | omega)]; exact hd8) | (rw [jm_co_n G true s V (d 7) eq9]; exact hd8), Eq.trans (b := jm_dr (d 7)) (hz8.trans hz9.symm) (jm_co_z1 G s V (d 7)).symm, hf8, rfl⟩
  · have hh9 : jm_hd true (if true = true then jm_dr (d 7) else d 7) (jm_ca V G (V 5 s) (V 7 s)) = true := jm_hd_tt hz9 hh
    refine jb_iconst (pc' := 37) 1 dX12_comesOver_36 (by decide) rfl ?_
    refine jb_goto (pc' := 55) dX12_comesOver_37 (by decide) ?_
    refine jb_istore_ (pc' := 57) dX12_comesOver_55 (by decide) (jb_at5 rfl) rfl ?_
    refine jb_aload_n (pc' := 58) dX12_comesOver_57 rfl rfl ?_
    refine jb_iconst (pc' := 59) 1 dX12_comesOver_58 (by decide) rfl ?_
    refine jb_aload_n (pc' := 60) dX12_comesOver_59 rfl rfl ?_
    refine jb_iload_n (pc' := 61) dX12_comesOver_60 rfl rfl ?_
    refine jb_iconst (pc' := 62) 2 dX12_comesOver_61 (by decide) rfl ?_
    refine jb_callV (pc' := 65) (ci := 12) (q := 105) (As := [.int (nI s), .int 2]) (a2 := 0) (b2 := 0) wv_X12_182 rfl dX12_comesOver_62 (c_ofIt2 I J9 d8 e kp nm9 W hd8 hk0 s (by omega)) rfl rfl ⟨by decide, Nat.le_of_eq (Nat.zero_add _), Nat.le_of_eq (Nat.zero_add _)⟩ (Nat.le_of_ble_eq_true rfl) rfl (fun r h9 hq => ?_)
    obtain ⟨rfl, rfl⟩ := hq
    show jb_J _ RX12 cX12_comesOver 8 (Option.none : Option Jvm.ClassFile.FieldType) false 47 0 0 65 [some (.ref 105), some (.int (nI s)), some (.int 1), some (.int (nI (V 7 s))), some (.int (jm_ca V G (V 5 s) (V 7 s))), some (.int 1), none, none] [.int (nI (V 6 s)), .int 1, .ref 105] [s0, s1, s2, s3, s4, s5, s6, s7, s8, s9, jb_mdl I J9 d8 e kp nm9 W, s11] _
    refine jb_isub (pc' := 66) dX12_comesOver_65 rfl ?_
    refine jb_top (v := .int (1 - (nI (V 6 s)))) (w := .int (nI (1 - (V 6 s)))) (jb_vI (pk_sub (a := 1) (by omega))) ?_
    refine jb_callV (pc' := 69) (ci := 12) (q := 105) (As := [.int (nI (1 - (V 6 s)))]) (a2 := 0) (b2 := 0) wv_X12_192 rfl dX12_comesOver_66 (c_quickm I J9 d8 e kp nm9 W hd8 hk0 (1 - V 6 s) (by omega)) rfl rfl ⟨by decide, Nat.le_of_eq (Nat.zero_add _), Nat.le_of_eq (Nat.zero_add _)⟩ (Nat.le_of_ble_eq_true rfl) rfl (fun r h9 hq => ?_)
    rcases hq with ⟨rfl, ⟨eq9, rfl⟩ | ⟨q, hq9, eq9, rfl⟩⟩
    · show jb_J _ RX12 cX12_comesOver 8 (Option.none : Option Jvm.ClassFile.FieldType) false 47 0 0 69 [some (.ref 105), some (.int (nI s)), some (.int 1), some (.int (nI (V 7 s))), some (.int (jm_ca V G (V 5 s) (V 7 s))), some (.int 1), none, none] [.int (-1)] [s0, s1, s2, s3, s4, s5, s6, s7, s8, s9, jb_mdl I J9 d8 e kp nm9 W, s11] _
      refine jb_istore_ (pc' := 71) dX12_comesOver_69 (by decide) (jb_at6 rfl) rfl ?_
      refine jb_iload (pc' := 73) dX12_comesOver_71 rfl rfl ?_
      refine jb_if_eq (tgt := 182) (pc' := 76) dX12_comesOver_73 (by decide) rfl (fun z => absurd z (by decide)) (fun _ => ?_)
      refine jb_iload_n (pc' := 77) dX12_comesOver_76 rfl rfl ?_
      refine jb_iconst (pc' := 78) 2 dX12_comesOver_77 (by decide) rfl ?_
      refine jb_irem (pc' := 79) dX12_comesOver_78 (by decide) rfl ?_
      refine jb_top (v := .int ((nI (V 7 s)) - (nI (V 7 s)) / 2 * 2)) (w := .int (nI ((V 7 s) % 2))) (jb_vI (pk_rem (a := (V 7 s)) (d := 2) (by omega) (by omega) (by omega))) ?_
      refine jb_if_ne (tgt := 182) (pc' := 82) dX12_comesOver_79 (by decide) rfl (fun c6 => ?_) (fun c6 => ?_)
      · have c6 : ¬ ((V 7 s) % 2) = 0 := fun z9 => c6 ((nI_eq (a := ((V 7 s) % 2)) (b := 0) (by omega) (by omega)).mpr z9)
        refine jb_vret dX12_comesOver_182 ?_
        exact ⟨rfl, J9, nm9, d8, by first | (rw [jm_co_f G true s V (d 7) (fun z => by first | exact hh9 z.1 | omega)]; exact hd8) | (rw [jm_co_n G true s V (d 7) eq9]; exact hd8), Eq.trans (b := jm_dr (d 7)) (hz8.trans hz9.symm) (jm_co_z1 G s V (d 7)).symm, hf8, rfl⟩
      · have c6 : ((V 7 s) % 2) = 0 := (nI_eq (a := ((V 7 s) % 2)) (b := 0) (by omega) (by omega)).mp c6
        refine jb_iload (pc' := 84) dX12_comesOver_82 rfl rfl ?_
        refine jb_if_lt (tgt := 182) (pc' := 87) dX12_comesOver_84 (by decide) rfl (fun _ => ?_) (fun z => absurd (by decide) z)
        refine jb_vret dX12_comesOver_182 ?_
        exact ⟨rfl, J9, nm9, d8, by first | (rw [jm_co_f G true s V (d 7) (fun z => by first | exact hh9 z.1 | omega)]; exact hd8) | (rw [jm_co_n G true s V (d 7) eq9]; exact hd8), Eq.trans (b := jm_dr (d 7)) (hz8.trans hz9.symm) (jm_co_z1 G s V (d 7)).symm, hf8, rfl⟩
    · show jb_J _ RX12 cX12_comesOver 8 (Option.none : Option Jvm.ClassFile.FieldType) false 47 0 0 69 [some (.ref 105), some (.int (nI s)), some (.int 1), some (.int (nI (V 7 s))), some (.int (jm_ca V G (V 5 s) (V 7 s))), some (.int 1), none, none] [.int (nI q)] [s0, s1, s2, s3, s4, s5, s6, s7, s8, s9, jb_mdl I J9 d8 e kp nm9 W, s11] _
      refine jb_istore_ (pc' := 71) dX12_comesOver_69 (by decide) (jb_at6 rfl) rfl ?_
      refine jb_iload (pc' := 73) dX12_comesOver_71 rfl rfl ?_
      refine jb_if_eq (tgt := 182) (pc' := 76) dX12_comesOver_73 (by decide) rfl (fun z => absurd z (by decide)) (fun _ => ?_)
      refine jb_iload_n (pc' := 77) dX12_comesOver_76 rfl rfl ?_
      refine jb_iconst (pc' := 78) 2 dX12_comesOver_77 (by decide) rfl ?_
      refine jb_irem (pc' := 79) dX12_comesOver_78 (by decide) rfl ?_
      refine jb_top (v := .int ((nI (V 7 s)) - (nI (V 7 s)) / 2 * 2)) (w := .int (nI ((V 7 s) % 2))) (jb_vI (pk_rem (a := (V 7 s)) (d := 2) (by omega) (by omega) (by omega))) ?_
      refine jb_if_ne (tgt := 182) (pc' := 82) dX12_comesOver_79 (by decide) rfl (fun c9 => ?_) (fun c9 => ?_)
      · have c9 : ¬ ((V 7 s) % 2) = 0 := fun z9 => c9 ((nI_eq (a := ((V 7 s) % 2)) (b := 0) (by omega) (by omega)).mpr z9)
        refine jb_vret dX12_comesOver_182 ?_
        exact ⟨rfl, J9, nm9, d8, by first | (rw [jm_co_f G true s V (d 7) (fun z => by first | exact hh9 z.1 | omega)]; exact hd8) | (rw [jm_co_n G true s V (d 7) eq9]; exact hd8), Eq.trans (b := jm_dr (d 7)) (hz8.trans hz9.symm) (jm_co_z1 G s V (d 7)).symm, hf8, rfl⟩
      · have c9 : ((V 7 s) % 2) = 0 := (nI_eq (a := ((V 7 s) % 2)) (b := 0) (by omega) (by omega)).mp c9
        refine jb_iload (pc' := 84) dX12_comesOver_82 rfl rfl ?_
        refine jb_if_lt (tgt := 182) (pc' := 87) dX12_comesOver_84 (by decide) rfl (fun z => absurd z (nI_pos (n := q) (by omega))) (fun _ => ?_)
        refine jb_aload_n (pc' := 88) dX12_comesOver_87 rfl rfl ?_
        refine gf_X12_7 (pc' := 91) (v := .ref 106) dX12_comesOver_88 rfl rfl rfl ?_
        refine jb_bipush (pc' := 93) 6 dX12_comesOver_91 (by decide) rfl ?_
        refine jb_iaload (pc' := 94) (i9 := 6) (f := d8) dX12_comesOver_93 rfl jb_x6 (by decide) rfl ?_
        refine jb_top (v := .int (d8 6)) (w := .int (nI (V 0 3))) (jb_vI hd8.2.2.2.2.2.2.1) ?_
        refine jb_bipush (pc' := 96) 12 dX12_comesOver_94 (by decide) rfl ?_
        refine jb_icmp_ge (tgt := 182) (pc' := 99) dX12_comesOver_96 (by decide) rfl (fun c11 => ?_) (fun c11 => ?_)
        · have c11 : 12 ≤ (V 0 3) := (nI_leI (a := 12) (b := (V 0 3)) (by omega) (by omega)).mp c11
          refine jb_vret dX12_comesOver_182 ?_
          exact ⟨rfl, J9, nm9, d8, by first | (rw [jm_co_f G true s V (d 7) (fun z => by first | exact hh9 z.1 | omega)]; exact hd8) | (rw [jm_co_n G true s V (d 7) eq9]; exact hd8), Eq.trans (b := jm_dr (d 7)) (hz8.trans hz9.symm) (jm_co_z1 G s V (d 7)).symm, hf8, rfl⟩
        · have c11 : ¬ 12 ≤ (V 0 3) := fun z9 => c11 ((nI_leI (a := 12) (b := (V 0 3)) (by omega) (by omega)).mpr z9)
          refine jb_sipush (pc' := 102) 268 dX12_comesOver_99 (by decide) rfl ?_
          refine jb_iconst (pc' := 103) 4 dX12_comesOver_102 (by decide) rfl ?_
          refine jb_aload_n (pc' := 104) dX12_comesOver_103 rfl rfl ?_
          refine gf_X12_7 (pc' := 107) (v := .ref 106) dX12_comesOver_104 rfl rfl rfl ?_
          refine jb_bipush (pc' := 109) 6 dX12_comesOver_107 (by decide) rfl ?_
          refine jb_iaload (pc' := 110) (i9 := 6) (f := d8) dX12_comesOver_109 rfl jb_x6 (by decide) rfl ?_
          refine jb_top (v := .int (d8 6)) (w := .int (nI (V 0 3))) (jb_vI hd8.2.2.2.2.2.2.1) ?_
          refine jb_imul (pc' := 111) dX12_comesOver_110 rfl ?_
          refine jb_top (v := .int (4 * (nI (V 0 3)))) (w := .int (nI (4 * (V 0 3)))) (jb_vI (pk_mul 4 _)) ?_
          refine jb_iadd (pc' := 112) dX12_comesOver_111 rfl ?_
          refine jb_top (v := .int (268 + (nI (4 * (V 0 3))))) (w := .int (nI (268 + 4 * (V 0 3)))) (jb_vI (nI_add 268 _)) ?_
          refine jb_istore_ (pc' := 114) dX12_comesOver_112 (by decide) (jb_at7 rfl) rfl ?_
          refine jb_aload_n (pc' := 115) dX12_comesOver_114 rfl rfl ?_
          refine gf_X12_7 (pc' := 118) (v := .ref 106) dX12_comesOver_115 rfl rfl rfl ?_
          refine jb_iload (pc' := 120) dX12_comesOver_118 rfl rfl ?_
          refine jb_iload (pc' := 122) dX12_comesOver_120 rfl rfl ?_
          refine jb_iastore (pc' := 123) (i9 := (268 + 4 * (V 0 3))) (f := d8) (h' := [s0, s1, s2, s3, s4, s5, s6, s7, s8, s9, jb_mdl I J9 (upd d8 (268 + 4 * (V 0 3)) (nI q)) e kp nm9 W, s11]) dX12_comesOver_122 rfl (jb_ix_nI (by omega)) (by omega) rfl rfl ?_
          have hdc2 : jd_ V (upd d8 (268 + 4 * (V 0 3)) (nI q)) := jd_o hd8 hk0 (by omega)
          refine jb_aload_n (pc' := 124) dX12_comesOver_123 rfl rfl ?_
          refine gf_X12_7 (pc' := 127) (v := .ref 106) dX12_comesOver_124 rfl rfl rfl ?_
          refine jb_iload (pc' := 129) dX12_comesOver_127 rfl rfl ?_
          refine jb_iconst (pc' := 130) 1 dX12_comesOver_129 (by decide) rfl ?_
          refine jb_iadd (pc' := 131) dX12_comesOver_130 rfl ?_
          refine jb_top (v := .int ((nI (268 + 4 * (V 0 3))) + 1)) (w := .int (nI (268 + 4 * (V 0 3) + 1))) (jb_vI (nI_add _ 1)) ?_
          refine jb_aload_n (pc' := 132) dX12_comesOver_131 rfl rfl ?_
          refine jb_iload (pc' := 134) dX12_comesOver_132 rfl rfl ?_
          refine jb_iload_n (pc' := 135) dX12_comesOver_134 rfl rfl ?_
          refine jb_callV (pc' := 138) (ci := 12) (q := 105) (As := [.int (nI q), .int (nI (V 7 s))]) (a2 := 0) (b2 := 0) wv_X12_163 rfl dX12_comesOver_135 (c_saysOf I J9 (upd d8 (268 + 4 * (V 0 3)) (nI q)) e kp nm9 W hdc2 hk0 hG hg (fun k hk => by rw [jb_une (by omega)]; exact hag8 k hk) q (V 7 s) (by omega) (by omega)) rfl rfl ⟨by decide, Nat.le_of_eq (Nat.zero_add _), Nat.le_of_eq (Nat.zero_add _)⟩ (Nat.le_of_ble_eq_true rfl) rfl (fun r h9 hq => ?_)
          obtain ⟨rfl, J7, nm7, rfl⟩ := hq
          show jb_J _ RX12 cX12_comesOver 8 (Option.none : Option Jvm.ClassFile.FieldType) false 47 0 0 138 [some (.ref 105), some (.int (nI s)), some (.int 1), some (.int (nI (V 7 s))), some (.int (jm_ca V G (V 5 s) (V 7 s))), some (.int 1), some (.int (nI q)), some (.int (nI (268 + 4 * (V 0 3))))] [.int (nI (jm_sa V G q (V 7 s))), .int (nI (268 + 4 * (V 0 3) + 1)), .ref 106] [s0, s1, s2, s3, s4, s5, s6, s7, s8, s9, jb_mdl I J7 (upd d8 (268 + 4 * (V 0 3)) (nI q)) e kp nm7 W, s11] _
          refine jb_iastore (pc' := 139) (i9 := (268 + 4 * (V 0 3) + 1)) (f := (upd d8 (268 + 4 * (V 0 3)) (nI q))) (h' := [s0, s1, s2, s3, s4, s5, s6, s7, s8, s9, jb_mdl I J7 (upd (upd d8 (268 + 4 * (V 0 3)) (nI q)) (268 + 4 * (V 0 3) + 1) (nI (jm_sa V G q (V 7 s)))) e kp nm7 W, s11]) dX12_comesOver_138 rfl (jb_ix_nI (by omega)) (by omega) rfl rfl ?_
          have hdc3 : jd_ V (upd (upd d8 (268 + 4 * (V 0 3)) (nI q)) (268 + 4 * (V 0 3) + 1) (nI (jm_sa V G q (V 7 s)))) := jd_o hdc2 hk0 (by omega)
          refine jb_aload_n (pc' := 140) dX12_comesOver_139 rfl rfl ?_
          refine gf_X12_7 (pc' := 143) (v := .ref 106) dX12_comesOver_140 rfl rfl rfl ?_
          refine jb_iload (pc' := 145) dX12_comesOver_143 rfl rfl ?_
          refine jb_iconst (pc' := 146) 2 dX12_comesOver_145 (by decide) rfl ?_
          refine jb_iadd (pc' := 147) dX12_comesOver_146 rfl ?_
          refine jb_top (v := .int ((nI (268 + 4 * (V 0 3))) + 2)) (w := .int (nI (268 + 4 * (V 0 3) + 2))) (jb_vI (nI_add _ 2)) ?_
          refine jb_iload_n (pc' := 148) dX12_comesOver_147 rfl rfl ?_
          refine jb_iastore (pc' := 149) (i9 := (268 + 4 * (V 0 3) + 2)) (f := (upd (upd d8 (268 + 4 * (V 0 3)) (nI q)) (268 + 4 * (V 0 3) + 1) (nI (jm_sa V G q (V 7 s))))) (h' := [s0, s1, s2, s3, s4, s5, s6, s7, s8, s9, jb_mdl I J7 (upd (upd (upd d8 (268 + 4 * (V 0 3)) (nI q)) (268 + 4 * (V 0 3) + 1) (nI (jm_sa V G q (V 7 s)))) (268 + 4 * (V 0 3) + 2) (nI s)) e kp nm7 W, s11]) dX12_comesOver_148 rfl (jb_ix_nI (by omega)) (by omega) rfl rfl ?_
          have hdc4 : jd_ V (upd (upd (upd d8 (268 + 4 * (V 0 3)) (nI q)) (268 + 4 * (V 0 3) + 1) (nI (jm_sa V G q (V 7 s)))) (268 + 4 * (V 0 3) + 2) (nI s)) := jd_o hdc3 hk0 (by omega)
          refine jb_aload_n (pc' := 150) dX12_comesOver_149 rfl rfl ?_
          refine gf_X12_7 (pc' := 153) (v := .ref 106) dX12_comesOver_150 rfl rfl rfl ?_
          refine jb_iload (pc' := 155) dX12_comesOver_153 rfl rfl ?_
          refine jb_iconst (pc' := 156) 3 dX12_comesOver_155 (by decide) rfl ?_
          refine jb_iadd (pc' := 157) dX12_comesOver_156 rfl ?_
          refine jb_top (v := .int ((nI (268 + 4 * (V 0 3))) + 3)) (w := .int (nI (268 + 4 * (V 0 3) + 3))) (jb_vI (nI_add _ 3)) ?_
          refine jb_aload_n (pc' := 158) dX12_comesOver_157 rfl rfl ?_
          refine gf_X12_7 (pc' := 161) (v := .ref 106) dX12_comesOver_158 rfl rfl rfl ?_
          refine jb_iconst (pc' := 162) 3 dX12_comesOver_161 (by decide) rfl ?_
          refine jb_iaload (pc' := 163) (i9 := 3) (f := (upd (upd (upd d8 (268 + 4 * (V 0 3)) (nI q)) (268 + 4 * (V 0 3) + 1) (nI (jm_sa V G q (V 7 s)))) (268 + 4 * (V 0 3) + 2) (nI s))) dX12_comesOver_162 rfl jb_x3 (by decide) rfl ?_
          refine jb_top (v := .int ((upd (upd (upd d8 (268 + 4 * (V 0 3)) (nI q)) (268 + 4 * (V 0 3) + 1) (nI (jm_sa V G q (V 7 s)))) (268 + 4 * (V 0 3) + 2) (nI s)) 3)) (w := .int (nI (V 0 0))) (jb_vI hdc4.2.2.2.1) ?_
          refine jb_aload_n (pc' := 164) dX12_comesOver_163 rfl rfl ?_
          refine jb_iload (pc' := 166) dX12_comesOver_164 rfl rfl ?_
          refine jb_callV (pc' := 169) (ci := 12) (q := 105) (As := [.int (nI q)]) (a2 := 0) (b2 := 0) wv_X12_154 rfl dX12_comesOver_166 (c_thinksOf I J7 (upd (upd (upd d8 (268 + 4 * (V 0 3)) (nI q)) (268 + 4 * (V 0 3) + 1) (nI (jm_sa V G q (V 7 s)))) (268 + 4 * (V 0 3) + 2) (nI s)) e kp nm7 W hdc4 hk0 q (by omega)) rfl rfl ⟨by decide, Nat.le_of_eq (Nat.zero_add _), Nat.le_of_eq (Nat.zero_add _)⟩ (Nat.le_of_ble_eq_true rfl) rfl (fun r h9 hq => ?_)
          obtain ⟨rfl, rfl⟩ := hq
          show jb_J _ RX12 cX12_comesOver 8 (Option.none : Option Jvm.ClassFile.FieldType) false 47 0 0 169 [some (.ref 105), some (.int (nI s)), some (.int 1), some (.int (nI (V 7 s))), some (.int (jm_ca V G (V 5 s) (V 7 s))), some (.int 1), some (.int (nI q)), some (.int (nI (268 + 4 * (V 0 3))))] [.int (nI (jm_th V q)), .int (nI (V 0 0)), .int (nI (268 + 4 * (V 0 3) + 3)), .ref 106] [s0, s1, s2, s3, s4, s5, s6, s7, s8, s9, jb_mdl I J7 (upd (upd (upd d8 (268 + 4 * (V 0 3)) (nI q)) (268 + 4 * (V 0 3) + 1) (nI (jm_sa V G q (V 7 s)))) (268 + 4 * (V 0 3) + 2) (nI s)) e kp nm7 W, s11] _
          refine jb_iadd (pc' := 170) dX12_comesOver_169 rfl ?_
          refine jb_top (v := .int ((nI (V 0 0)) + (nI (jm_th V q)))) (w := .int (nI ((V 0 0) + (jm_th V q)))) (jb_vI (nI_add _ _)) ?_
          refine jb_iastore (pc' := 171) (i9 := (268 + 4 * (V 0 3) + 3)) (f := (upd (upd (upd d8 (268 + 4 * (V 0 3)) (nI q)) (268 + 4 * (V 0 3) + 1) (nI (jm_sa V G q (V 7 s)))) (268 + 4 * (V 0 3) + 2) (nI s))) (h' := [s0, s1, s2, s3, s4, s5, s6, s7, s8, s9, jb_mdl I J7 (upd (upd (upd (upd d8 (268 + 4 * (V 0 3)) (nI q)) (268 + 4 * (V 0 3) + 1) (nI (jm_sa V G q (V 7 s)))) (268 + 4 * (V 0 3) + 2) (nI s)) (268 + 4 * (V 0 3) + 3) (nI ((V 0 0) + (jm_th V q)))) e kp nm7 W, s11]) dX12_comesOver_170 rfl (jb_ix_nI (by omega)) (by omega) rfl rfl ?_
          have hdc5 : jd_ V (upd (upd (upd (upd d8 (268 + 4 * (V 0 3)) (nI q)) (268 + 4 * (V 0 3) + 1) (nI (jm_sa V G q (V 7 s)))) (268 + 4 * (V 0 3) + 2) (nI s)) (268 + 4 * (V 0 3) + 3) (nI ((V 0 0) + (jm_th V q)))) := jd_o hdc4 hk0 (by omega)
          refine jb_aload_n (pc' := 172) dX12_comesOver_171 rfl rfl ?_
          refine gf_X12_7 (pc' := 175) (v := .ref 106) dX12_comesOver_172 rfl rfl rfl ?_
          refine jb_bipush (pc' := 177) 6 dX12_comesOver_175 (by decide) rfl ?_
          refine jb_dup2 (pc' := 178) dX12_comesOver_177 rfl rfl rfl ?_
          refine jb_iaload (pc' := 179) (i9 := 6) (f := (upd (upd (upd (upd d8 (268 + 4 * (V 0 3)) (nI q)) (268 + 4 * (V 0 3) + 1) (nI (jm_sa V G q (V 7 s)))) (268 + 4 * (V 0 3) + 2) (nI s)) (268 + 4 * (V 0 3) + 3) (nI ((V 0 0) + (jm_th V q))))) dX12_comesOver_178 rfl jb_x6 (by decide) rfl ?_
          refine jb_top (v := .int ((upd (upd (upd (upd d8 (268 + 4 * (V 0 3)) (nI q)) (268 + 4 * (V 0 3) + 1) (nI (jm_sa V G q (V 7 s)))) (268 + 4 * (V 0 3) + 2) (nI s)) (268 + 4 * (V 0 3) + 3) (nI ((V 0 0) + (jm_th V q)))) 6)) (w := .int (nI (V 0 3))) (jb_vI hdc5.2.2.2.2.2.2.1) ?_
          refine jb_iconst (pc' := 180) 1 dX12_comesOver_179 (by decide) rfl ?_
          refine jb_iadd (pc' := 181) dX12_comesOver_180 rfl ?_
          refine jb_top (v := .int ((nI (V 0 3)) + 1)) (w := .int (nI ((V 0 3) + 1))) (jb_vI (nI_add _ 1)) ?_
          refine jb_iastore (pc' := 182) (i9 := 6) (f := (upd (upd (upd (upd d8 (268 + 4 * (V 0 3)) (nI q)) (268 + 4 * (V 0 3) + 1) (nI (jm_sa V G q (V 7 s)))) (268 + 4 * (V 0 3) + 2) (nI s)) (268 + 4 * (V 0 3) + 3) (nI ((V 0 0) + (jm_th V q))))) (h' := [s0, s1, s2, s3, s4, s5, s6, s7, s8, s9, jb_mdl I J7 (upd (upd (upd (upd (upd d8 (268 + 4 * (V 0 3)) (nI q)) (268 + 4 * (V 0 3) + 1) (nI (jm_sa V G q (V 7 s)))) (268 + 4 * (V 0 3) + 2) (nI s)) (268 + 4 * (V 0 3) + 3) (nI ((V 0 0) + (jm_th V q)))) 6 (nI ((V 0 3) + 1))) e kp nm7 W, s11]) dX12_comesOver_181 rfl jb_x6 (by decide) rfl rfl ?_
          refine jb_vret dX12_comesOver_182 ?_
          obtain ⟨hf, -, -, -, -, -⟩ := jd_u4 (d := d8) (n := V 0 3) (v0 := nI q) (v1 := nI (jm_sa V G q (V 7 s))) (v2 := nI s) (v3 := nI (V 0 0 + jm_th V q)) (v4 := nI (V 0 3 + 1))
          exact ⟨rfl, J7, nm7, (upd (upd (upd (upd (upd d8 (268 + 4 * (V 0 3)) (nI q)) (268 + 4 * (V 0 3) + 1) (nI (jm_sa V G q (V 7 s)))) (268 + 4 * (V 0 3) + 2) (nI s)) (268 + 4 * (V 0 3) + 3) (nI ((V 0 0) + (jm_th V q)))) 6 (nI ((V 0 3) + 1))), by rw [jm_co_s G true s V (d 7) q ⟨hh9, by omega, by omega⟩ eq9]; exact jd_due hd8 hk0 q (jm_sa V G q (V 7 s)) s, Eq.trans (b := jm_dr (d 7)) ((hf 7 (by decide) (by omega)).trans (hz8.trans hz9.symm)) (jm_co_z1 G s V (d 7)).symm, jd_f.tr hf8 ⟨hf 8 (by decide) (by omega), hf 9 (by decide) (by omega), fun k hk => hf k (by omega) (by omega)⟩, rfl⟩
set_option maxRecDepth 100000 in
set_option maxHeartbeats 4000000 in
theorem c_comesOver0 {sc : Nat × (Nat → Int32)} {s0 s1 s2 s3 s4 s5 s6 s7 s8 s9 s11 : List va_E} {V : Nat → Nat → Nat} (I J d e kp nm : Nat → Int32) (W : Nat → Nat → Int32) (hd : jd_ V d) (hk : jv_ok V) {G : jm_G} (hG : jm_Gok G) {d0 : Nat → Int32} (hg : jGm sc d0 G) (hag : ∀ k, 316 ≤ k → d k = d0 k) (s : Nat) (hs : s < V 0 2) : jb_C sc yX12_comesOver cX12_comesOver 8 (Option.none : Option Jvm.ClassFile.FieldType) 47 0 0 [.ref 105, .int (nI s), .int 0] [s0, s1, s2, s3, s4, s5, s6, s7, s8, s9, jb_mdl I J d e kp nm W, s11] (fun r h9 => r = none ∧ ∃ J9 nm9 d9, jd_ (jm_co G false s (V, d 7)).1 d9 ∧ d9 7 = (jm_co G false s (V, d 7)).2 ∧ jd_f d d9 ∧ h9 = [s0, s1, s2, s3, s4, s5, s6, s7, s8, s9, jb_mdl I J9 d9 e kp nm9 W, s11]) := by
  refine jb_CofJ (ini := false) (by decide +kernel) (fun h => by cases h) (Nat.le_of_ble_eq_true rfl) ?_
  show jb_J sc RX12 cX12_comesOver 8 (Option.none : Option Jvm.ClassFile.FieldType) false 47 0 0 0 [some (.ref 105), some (.int (nI s)), some (.int 0), none, none, none, none, none] [] [s0, s1, s2, s3, s4, s5, s6, s7, s8, s9, jb_mdl I J d e kp nm W, s11] _
  have hd0 := hd
  have hk0 := hk
  obtain ⟨e0, e1, e2, e3, e4, e5, e6, dv, ds, dd⟩ := hd
  obtain ⟨k0, k1, k2, k3, k4, k5, k6, k7, kv, ks, kd⟩ := hk
  have q0 := ks s hs
  have q2 := kv (V 5 s) (by omega)
  refine jb_aload_n (pc' := 1) dX12_comesOver_0 rfl rfl ?_
  refine jb_iload_n (pc' := 2) dX12_comesOver_1 rfl rfl ?_
  refine jb_iconst (pc' := 3) 3 dX12_comesOver_2 (by decide) rfl ?_
  refine jb_callV (pc' := 6) (ci := 12) (q := 105) (As := [.int (nI s), .int 3]) (a2 := 0) (b2 := 0) wv_X12_182 rfl dX12_comesOver_3 (c_ofIt3 I J d e kp nm W hd0 hk0 s (by omega)) rfl rfl ⟨by decide, Nat.le_of_eq (Nat.zero_add _), Nat.le_of_eq (Nat.zero_add _)⟩ (Nat.le_of_ble_eq_true rfl) rfl (fun r h9 hq => ?_)
  obtain ⟨rfl, rfl⟩ := hq
  show jb_J _ RX12 cX12_comesOver 8 (Option.none : Option Jvm.ClassFile.FieldType) false 47 0 0 6 [some (.ref 105), some (.int (nI s)), some (.int 0), none, none, none, none, none] [.int (nI (V 7 s))] [s0, s1, s2, s3, s4, s5, s6, s7, s8, s9, jb_mdl I J d e kp nm W, s11] _
  refine jb_istore_n_ (pc' := 7) dX12_comesOver_6 (by decide) (jb_at3 rfl) rfl ?_
  refine jb_aload_n (pc' := 8) dX12_comesOver_7 rfl rfl ?_
  refine jb_aload_n (pc' := 9) dX12_comesOver_8 rfl rfl ?_
  refine jb_iload_n (pc' := 10) dX12_comesOver_9 rfl rfl ?_
  refine jb_iconst (pc' := 11) 1 dX12_comesOver_10 (by decide) rfl ?_
  refine jb_callV (pc' := 14) (ci := 12) (q := 105) (As := [.int (nI s), .int 1]) (a2 := 0) (b2 := 0) wv_X12_182 rfl dX12_comesOver_11 (c_ofIt1 I J d e kp nm W hd0 hk0 s (by omega)) rfl rfl ⟨by decide, Nat.le_of_eq (Nat.zero_add _), Nat.le_of_eq (Nat.zero_add _)⟩ (Nat.le_of_ble_eq_true rfl) rfl (fun r h9 hq => ?_)
  obtain ⟨rfl, rfl⟩ := hq
  show jb_J _ RX12 cX12_comesOver 8 (Option.none : Option Jvm.ClassFile.FieldType) false 47 0 0 14 [some (.ref 105), some (.int (nI s)), some (.int 0), some (.int (nI (V 7 s))), none, none, none, none] [.int (nI (V 5 s)), .ref 105] [s0, s1, s2, s3, s4, s5, s6, s7, s8, s9, jb_mdl I J d e kp nm W, s11] _
  refine jb_iload_n (pc' := 15) dX12_comesOver_14 rfl rfl ?_
  refine jb_callV (pc' := 18) (ci := 12) (q := 105) (As := [.int (nI (V 5 s)), .int (nI (V 7 s))]) (a2 := 0) (b2 := 0) wv_X12_160 rfl dX12_comesOver_15 (c_carriesOf I J d e kp nm W hd0 hk0 hG hg hag (V 5 s) (V 7 s) (by omega) (by omega)) rfl rfl ⟨by decide, Nat.le_of_eq (Nat.zero_add _), Nat.le_of_eq (Nat.zero_add _)⟩ (Nat.le_of_ble_eq_true rfl) rfl (fun r h9 hq => ?_)
  obtain ⟨rfl, J9, nm9, rfl⟩ := hq
  show jb_J _ RX12 cX12_comesOver 8 (Option.none : Option Jvm.ClassFile.FieldType) false 47 0 0 18 [some (.ref 105), some (.int (nI s)), some (.int 0), some (.int (nI (V 7 s))), none, none, none, none] [.int (jm_ca V G (V 5 s) (V 7 s))] [s0, s1, s2, s3, s4, s5, s6, s7, s8, s9, jb_mdl I J9 d e kp nm9 W, s11] _
  refine jb_istore_ (pc' := 20) dX12_comesOver_18 (by decide) (jb_at4 rfl) rfl ?_
  refine jb_iload_n (pc' := 21) dX12_comesOver_20 rfl rfl ?_
  refine jb_if_eq (tgt := 44) (pc' := 24) dX12_comesOver_21 (by decide) rfl (fun _ => ?_) (fun z => absurd (by decide) z)
  refine jb_iload (pc' := 46) dX12_comesOver_44 rfl rfl ?_
  refine jb_iconst (pc' := 47) 5 dX12_comesOver_46 (by decide) rfl ?_
  refine jb_icmp_lt (tgt := 54) (pc' := 50) dX12_comesOver_47 (by decide) rfl (fun hh => ?_) (fun hh => ?_)
  · have hh9 : ¬ jm_hd false (d 7) (jm_ca V G (V 5 s) (V 7 s)) = true := jm_hd_ff hh
    refine jb_iconst (pc' := 55) 0 dX12_comesOver_54 (by decide) rfl ?_
    refine jb_istore_ (pc' := 57) dX12_comesOver_55 (by decide) (jb_at5 rfl) rfl ?_
    refine jb_aload_n (pc' := 58) dX12_comesOver_57 rfl rfl ?_
    refine jb_iconst (pc' := 59) 1 dX12_comesOver_58 (by decide) rfl ?_
    refine jb_aload_n (pc' := 60) dX12_comesOver_59 rfl rfl ?_
    refine jb_iload_n (pc' := 61) dX12_comesOver_60 rfl rfl ?_
    refine jb_iconst (pc' := 62) 2 dX12_comesOver_61 (by decide) rfl ?_
    refine jb_callV (pc' := 65) (ci := 12) (q := 105) (As := [.int (nI s), .int 2]) (a2 := 0) (b2 := 0) wv_X12_182 rfl dX12_comesOver_62 (c_ofIt2 I J9 d e kp nm9 W hd0 hk0 s (by omega)) rfl rfl ⟨by decide, Nat.le_of_eq (Nat.zero_add _), Nat.le_of_eq (Nat.zero_add _)⟩ (Nat.le_of_ble_eq_true rfl) rfl (fun r h9 hq => ?_)
    obtain ⟨rfl, rfl⟩ := hq
    show jb_J _ RX12 cX12_comesOver 8 (Option.none : Option Jvm.ClassFile.FieldType) false 47 0 0 65 [some (.ref 105), some (.int (nI s)), some (.int 0), some (.int (nI (V 7 s))), some (.int (jm_ca V G (V 5 s) (V 7 s))), some (.int 0), none, none] [.int (nI (V 6 s)), .int 1, .ref 105] [s0, s1, s2, s3, s4, s5, s6, s7, s8, s9, jb_mdl I J9 d e kp nm9 W, s11] _
    refine jb_isub (pc' := 66) dX12_comesOver_65 rfl ?_
    refine jb_top (v := .int (1 - (nI (V 6 s)))) (w := .int (nI (1 - (V 6 s)))) (jb_vI (pk_sub (a := 1) (by omega))) ?_
    refine jb_callV (pc' := 69) (ci := 12) (q := 105) (As := [.int (nI (1 - (V 6 s)))]) (a2 := 0) (b2 := 0) wv_X12_192 rfl dX12_comesOver_66 (c_quickm I J9 d e kp nm9 W hd0 hk0 (1 - V 6 s) (by omega)) rfl rfl ⟨by decide, Nat.le_of_eq (Nat.zero_add _), Nat.le_of_eq (Nat.zero_add _)⟩ (Nat.le_of_ble_eq_true rfl) rfl (fun r h9 hq => ?_)
    rcases hq with ⟨rfl, ⟨eq9, rfl⟩ | ⟨q, hq9, eq9, rfl⟩⟩
    · show jb_J _ RX12 cX12_comesOver 8 (Option.none : Option Jvm.ClassFile.FieldType) false 47 0 0 69 [some (.ref 105), some (.int (nI s)), some (.int 0), some (.int (nI (V 7 s))), some (.int (jm_ca V G (V 5 s) (V 7 s))), some (.int 0), none, none] [.int (-1)] [s0, s1, s2, s3, s4, s5, s6, s7, s8, s9, jb_mdl I J9 d e kp nm9 W, s11] _
      refine jb_istore_ (pc' := 71) dX12_comesOver_69 (by decide) (jb_at6 rfl) rfl ?_
      refine jb_iload (pc' := 73) dX12_comesOver_71 rfl rfl ?_
      refine jb_if_eq (tgt := 182) (pc' := 76) dX12_comesOver_73 (by decide) rfl (fun _ => ?_) (fun z => absurd (by decide) z)
      refine jb_vret dX12_comesOver_182 ?_
      exact ⟨rfl, J9, nm9, d, by first | (rw [jm_co_f G false s V (d 7) (fun z => by first | exact hh9 z.1 | omega)]; exact hd0) | (rw [jm_co_n G false s V (d 7) eq9]; exact hd0), Eq.trans (b := d 7) rfl (jm_co_z0 G s V (d 7)).symm, (jd_f.rf d), rfl⟩
    · show jb_J _ RX12 cX12_comesOver 8 (Option.none : Option Jvm.ClassFile.FieldType) false 47 0 0 69 [some (.ref 105), some (.int (nI s)), some (.int 0), some (.int (nI (V 7 s))), some (.int (jm_ca V G (V 5 s) (V 7 s))), some (.int 0), none, none] [.int (nI q)] [s0, s1, s2, s3, s4, s5, s6, s7, s8, s9, jb_mdl I J9 d e kp nm9 W, s11] _
      refine jb_istore_ (pc' := 71) dX12_comesOver_69 (by decide) (jb_at6 rfl) rfl ?_
      refine jb_iload (pc' := 73) dX12_comesOver_71 rfl rfl ?_
      refine jb_if_eq (tgt := 182) (pc' := 76) dX12_comesOver_73 (by decide) rfl (fun _ => ?_) (fun z => absurd (by decide) z)
      refine jb_vret dX12_comesOver_182 ?_
      exact ⟨rfl, J9, nm9, d, by first | (rw [jm_co_f G false s V (d 7) (fun z => by first | exact hh9 z.1 | omega)]; exact hd0) | (rw [jm_co_n G false s V (d 7) eq9]; exact hd0), Eq.trans (b := d 7) rfl (jm_co_z0 G s V (d 7)).symm, (jd_f.rf d), rfl⟩
  · have hh9 : jm_hd false (d 7) (jm_ca V G (V 5 s) (V 7 s)) = true := jm_hd_ft hh
    refine jb_iconst (pc' := 51) 1 dX12_comesOver_50 (by decide) rfl ?_
    refine jb_goto (pc' := 55) dX12_comesOver_51 (by decide) ?_
    refine jb_istore_ (pc' := 57) dX12_comesOver_55 (by decide) (jb_at5 rfl) rfl ?_
    refine jb_aload_n (pc' := 58) dX12_comesOver_57 rfl rfl ?_
    refine jb_iconst (pc' := 59) 1 dX12_comesOver_58 (by decide) rfl ?_
    refine jb_aload_n (pc' := 60) dX12_comesOver_59 rfl rfl ?_
    refine jb_iload_n (pc' := 61) dX12_comesOver_60 rfl rfl ?_
    refine jb_iconst (pc' := 62) 2 dX12_comesOver_61 (by decide) rfl ?_
    refine jb_callV (pc' := 65) (ci := 12) (q := 105) (As := [.int (nI s), .int 2]) (a2 := 0) (b2 := 0) wv_X12_182 rfl dX12_comesOver_62 (c_ofIt2 I J9 d e kp nm9 W hd0 hk0 s (by omega)) rfl rfl ⟨by decide, Nat.le_of_eq (Nat.zero_add _), Nat.le_of_eq (Nat.zero_add _)⟩ (Nat.le_of_ble_eq_true rfl) rfl (fun r h9 hq => ?_)
    obtain ⟨rfl, rfl⟩ := hq
    show jb_J _ RX12 cX12_comesOver 8 (Option.none : Option Jvm.ClassFile.FieldType) false 47 0 0 65 [some (.ref 105), some (.int (nI s)), some (.int 0), some (.int (nI (V 7 s))), some (.int (jm_ca V G (V 5 s) (V 7 s))), some (.int 1), none, none] [.int (nI (V 6 s)), .int 1, .ref 105] [s0, s1, s2, s3, s4, s5, s6, s7, s8, s9, jb_mdl I J9 d e kp nm9 W, s11] _
    refine jb_isub (pc' := 66) dX12_comesOver_65 rfl ?_
    refine jb_top (v := .int (1 - (nI (V 6 s)))) (w := .int (nI (1 - (V 6 s)))) (jb_vI (pk_sub (a := 1) (by omega))) ?_
    refine jb_callV (pc' := 69) (ci := 12) (q := 105) (As := [.int (nI (1 - (V 6 s)))]) (a2 := 0) (b2 := 0) wv_X12_192 rfl dX12_comesOver_66 (c_quickm I J9 d e kp nm9 W hd0 hk0 (1 - V 6 s) (by omega)) rfl rfl ⟨by decide, Nat.le_of_eq (Nat.zero_add _), Nat.le_of_eq (Nat.zero_add _)⟩ (Nat.le_of_ble_eq_true rfl) rfl (fun r h9 hq => ?_)
    rcases hq with ⟨rfl, ⟨eq9, rfl⟩ | ⟨q, hq9, eq9, rfl⟩⟩
    · show jb_J _ RX12 cX12_comesOver 8 (Option.none : Option Jvm.ClassFile.FieldType) false 47 0 0 69 [some (.ref 105), some (.int (nI s)), some (.int 0), some (.int (nI (V 7 s))), some (.int (jm_ca V G (V 5 s) (V 7 s))), some (.int 1), none, none] [.int (-1)] [s0, s1, s2, s3, s4, s5, s6, s7, s8, s9, jb_mdl I J9 d e kp nm9 W, s11] _
      refine jb_istore_ (pc' := 71) dX12_comesOver_69 (by decide) (jb_at6 rfl) rfl ?_
      refine jb_iload (pc' := 73) dX12_comesOver_71 rfl rfl ?_
      refine jb_if_eq (tgt := 182) (pc' := 76) dX12_comesOver_73 (by decide) rfl (fun z => absurd z (by decide)) (fun _ => ?_)
      refine jb_iload_n (pc' := 77) dX12_comesOver_76 rfl rfl ?_
      refine jb_iconst (pc' := 78) 2 dX12_comesOver_77 (by decide) rfl ?_
      refine jb_irem (pc' := 79) dX12_comesOver_78 (by decide) rfl ?_
      refine jb_top (v := .int ((nI (V 7 s)) - (nI (V 7 s)) / 2 * 2)) (w := .int (nI ((V 7 s) % 2))) (jb_vI (pk_rem (a := (V 7 s)) (d := 2) (by omega) (by omega) (by omega))) ?_
      refine jb_if_ne (tgt := 182) (pc' := 82) dX12_comesOver_79 (by decide) rfl (fun c6 => ?_) (fun c6 => ?_)
      · have c6 : ¬ ((V 7 s) % 2) = 0 := fun z9 => c6 ((nI_eq (a := ((V 7 s) % 2)) (b := 0) (by omega) (by omega)).mpr z9)
        refine jb_vret dX12_comesOver_182 ?_
        exact ⟨rfl, J9, nm9, d, by first | (rw [jm_co_f G false s V (d 7) (fun z => by first | exact hh9 z.1 | omega)]; exact hd0) | (rw [jm_co_n G false s V (d 7) eq9]; exact hd0), Eq.trans (b := d 7) rfl (jm_co_z0 G s V (d 7)).symm, (jd_f.rf d), rfl⟩
      · have c6 : ((V 7 s) % 2) = 0 := (nI_eq (a := ((V 7 s) % 2)) (b := 0) (by omega) (by omega)).mp c6
        refine jb_iload (pc' := 84) dX12_comesOver_82 rfl rfl ?_
        refine jb_if_lt (tgt := 182) (pc' := 87) dX12_comesOver_84 (by decide) rfl (fun _ => ?_) (fun z => absurd (by decide) z)
        refine jb_vret dX12_comesOver_182 ?_
        exact ⟨rfl, J9, nm9, d, by first | (rw [jm_co_f G false s V (d 7) (fun z => by first | exact hh9 z.1 | omega)]; exact hd0) | (rw [jm_co_n G false s V (d 7) eq9]; exact hd0), Eq.trans (b := d 7) rfl (jm_co_z0 G s V (d 7)).symm, (jd_f.rf d), rfl⟩
    · show jb_J _ RX12 cX12_comesOver 8 (Option.none : Option Jvm.ClassFile.FieldType) false 47 0 0 69 [some (.ref 105), some (.int (nI s)), some (.int 0), some (.int (nI (V 7 s))), some (.int (jm_ca V G (V 5 s) (V 7 s))), some (.int 1), none, none] [.int (nI q)] [s0, s1, s2, s3, s4, s5, s6, s7, s8, s9, jb_mdl I J9 d e kp nm9 W, s11] _
      refine jb_istore_ (pc' := 71) dX12_comesOver_69 (by decide) (jb_at6 rfl) rfl ?_
      refine jb_iload (pc' := 73) dX12_comesOver_71 rfl rfl ?_
      refine jb_if_eq (tgt := 182) (pc' := 76) dX12_comesOver_73 (by decide) rfl (fun z => absurd z (by decide)) (fun _ => ?_)
      refine jb_iload_n (pc' := 77) dX12_comesOver_76 rfl rfl ?_
      refine jb_iconst (pc' := 78) 2 dX12_comesOver_77 (by decide) rfl ?_
      refine jb_irem (pc' := 79) dX12_comesOver_78 (by decide) rfl ?_
      refine jb_top (v := .int ((nI (V 7 s)) - (nI (V 7 s)) / 2 * 2)) (w := .int (nI ((V 7 s) % 2))) (jb_vI (pk_rem (a := (V 7 s)) (d := 2) (by omega) (by omega) (by omega))) ?_
      refine jb_if_ne (tgt := 182) (pc' := 82) dX12_comesOver_79 (by decide) rfl (fun c9 => ?_) (fun c9 => ?_)
      · have c9 : ¬ ((V 7 s) % 2) = 0 := fun z9 => c9 ((nI_eq (a := ((V 7 s) % 2)) (b := 0) (by omega) (by omega)).mpr z9)
        refine jb_vret dX12_comesOver_182 ?_
        exact ⟨rfl, J9, nm9, d, by first | (rw [jm_co_f G false s V (d 7) (fun z => by first | exact hh9 z.1 | omega)]; exact hd0) | (rw [jm_co_n G false s V (d 7) eq9]; exact hd0), Eq.trans (b := d 7) rfl (jm_co_z0 G s V (d 7)).symm, (jd_f.rf d), rfl⟩
      · have c9 : ((V 7 s) % 2) = 0 := (nI_eq (a := ((V 7 s) % 2)) (b := 0) (by omega) (by omega)).mp c9
        refine jb_iload (pc' := 84) dX12_comesOver_82 rfl rfl ?_
        refine jb_if_lt (tgt := 182) (pc' := 87) dX12_comesOver_84 (by decide) rfl (fun z => absurd z (nI_pos (n := q) (by omega))) (fun _ => ?_)
        refine jb_aload_n (pc' := 88) dX12_comesOver_87 rfl rfl ?_
        refine gf_X12_7 (pc' := 91) (v := .ref 106) dX12_comesOver_88 rfl rfl rfl ?_
        refine jb_bipush (pc' := 93) 6 dX12_comesOver_91 (by decide) rfl ?_
        refine jb_iaload (pc' := 94) (i9 := 6) (f := d) dX12_comesOver_93 rfl jb_x6 (by decide) rfl ?_
        refine jb_top (v := .int (d 6)) (w := .int (nI (V 0 3))) (jb_vI e6) ?_
        refine jb_bipush (pc' := 96) 12 dX12_comesOver_94 (by decide) rfl ?_
        refine jb_icmp_ge (tgt := 182) (pc' := 99) dX12_comesOver_96 (by decide) rfl (fun c11 => ?_) (fun c11 => ?_)
        · have c11 : 12 ≤ (V 0 3) := (nI_leI (a := 12) (b := (V 0 3)) (by omega) (by omega)).mp c11
          refine jb_vret dX12_comesOver_182 ?_
          exact ⟨rfl, J9, nm9, d, by first | (rw [jm_co_f G false s V (d 7) (fun z => by first | exact hh9 z.1 | omega)]; exact hd0) | (rw [jm_co_n G false s V (d 7) eq9]; exact hd0), Eq.trans (b := d 7) rfl (jm_co_z0 G s V (d 7)).symm, (jd_f.rf d), rfl⟩
        · have c11 : ¬ 12 ≤ (V 0 3) := fun z9 => c11 ((nI_leI (a := 12) (b := (V 0 3)) (by omega) (by omega)).mpr z9)
          refine jb_sipush (pc' := 102) 268 dX12_comesOver_99 (by decide) rfl ?_
          refine jb_iconst (pc' := 103) 4 dX12_comesOver_102 (by decide) rfl ?_
          refine jb_aload_n (pc' := 104) dX12_comesOver_103 rfl rfl ?_
          refine gf_X12_7 (pc' := 107) (v := .ref 106) dX12_comesOver_104 rfl rfl rfl ?_
          refine jb_bipush (pc' := 109) 6 dX12_comesOver_107 (by decide) rfl ?_
          refine jb_iaload (pc' := 110) (i9 := 6) (f := d) dX12_comesOver_109 rfl jb_x6 (by decide) rfl ?_
          refine jb_top (v := .int (d 6)) (w := .int (nI (V 0 3))) (jb_vI e6) ?_
          refine jb_imul (pc' := 111) dX12_comesOver_110 rfl ?_
          refine jb_top (v := .int (4 * (nI (V 0 3)))) (w := .int (nI (4 * (V 0 3)))) (jb_vI (pk_mul 4 _)) ?_
          refine jb_iadd (pc' := 112) dX12_comesOver_111 rfl ?_
          refine jb_top (v := .int (268 + (nI (4 * (V 0 3))))) (w := .int (nI (268 + 4 * (V 0 3)))) (jb_vI (nI_add 268 _)) ?_
          refine jb_istore_ (pc' := 114) dX12_comesOver_112 (by decide) (jb_at7 rfl) rfl ?_
          refine jb_aload_n (pc' := 115) dX12_comesOver_114 rfl rfl ?_
          refine gf_X12_7 (pc' := 118) (v := .ref 106) dX12_comesOver_115 rfl rfl rfl ?_
          refine jb_iload (pc' := 120) dX12_comesOver_118 rfl rfl ?_
          refine jb_iload (pc' := 122) dX12_comesOver_120 rfl rfl ?_
          refine jb_iastore (pc' := 123) (i9 := (268 + 4 * (V 0 3))) (f := d) (h' := [s0, s1, s2, s3, s4, s5, s6, s7, s8, s9, jb_mdl I J9 (upd d (268 + 4 * (V 0 3)) (nI q)) e kp nm9 W, s11]) dX12_comesOver_122 rfl (jb_ix_nI (by omega)) (by omega) rfl rfl ?_
          have hdc1 : jd_ V (upd d (268 + 4 * (V 0 3)) (nI q)) := jd_o hd0 hk0 (by omega)
          refine jb_aload_n (pc' := 124) dX12_comesOver_123 rfl rfl ?_
          refine gf_X12_7 (pc' := 127) (v := .ref 106) dX12_comesOver_124 rfl rfl rfl ?_
          refine jb_iload (pc' := 129) dX12_comesOver_127 rfl rfl ?_
          refine jb_iconst (pc' := 130) 1 dX12_comesOver_129 (by decide) rfl ?_
          refine jb_iadd (pc' := 131) dX12_comesOver_130 rfl ?_
          refine jb_top (v := .int ((nI (268 + 4 * (V 0 3))) + 1)) (w := .int (nI (268 + 4 * (V 0 3) + 1))) (jb_vI (nI_add _ 1)) ?_
          refine jb_aload_n (pc' := 132) dX12_comesOver_131 rfl rfl ?_
          refine jb_iload (pc' := 134) dX12_comesOver_132 rfl rfl ?_
          refine jb_iload_n (pc' := 135) dX12_comesOver_134 rfl rfl ?_
          refine jb_callV (pc' := 138) (ci := 12) (q := 105) (As := [.int (nI q), .int (nI (V 7 s))]) (a2 := 0) (b2 := 0) wv_X12_163 rfl dX12_comesOver_135 (c_saysOf I J9 (upd d (268 + 4 * (V 0 3)) (nI q)) e kp nm9 W hdc1 hk0 hG hg (fun k hk => by rw [jb_une (by omega)]; exact hag k hk) q (V 7 s) (by omega) (by omega)) rfl rfl ⟨by decide, Nat.le_of_eq (Nat.zero_add _), Nat.le_of_eq (Nat.zero_add _)⟩ (Nat.le_of_ble_eq_true rfl) rfl (fun r h9 hq => ?_)
          obtain ⟨rfl, J7, nm7, rfl⟩ := hq
          show jb_J _ RX12 cX12_comesOver 8 (Option.none : Option Jvm.ClassFile.FieldType) false 47 0 0 138 [some (.ref 105), some (.int (nI s)), some (.int 0), some (.int (nI (V 7 s))), some (.int (jm_ca V G (V 5 s) (V 7 s))), some (.int 1), some (.int (nI q)), some (.int (nI (268 + 4 * (V 0 3))))] [.int (nI (jm_sa V G q (V 7 s))), .int (nI (268 + 4 * (V 0 3) + 1)), .ref 106] [s0, s1, s2, s3, s4, s5, s6, s7, s8, s9, jb_mdl I J7 (upd d (268 + 4 * (V 0 3)) (nI q)) e kp nm7 W, s11] _
          refine jb_iastore (pc' := 139) (i9 := (268 + 4 * (V 0 3) + 1)) (f := (upd d (268 + 4 * (V 0 3)) (nI q))) (h' := [s0, s1, s2, s3, s4, s5, s6, s7, s8, s9, jb_mdl I J7 (upd (upd d (268 + 4 * (V 0 3)) (nI q)) (268 + 4 * (V 0 3) + 1) (nI (jm_sa V G q (V 7 s)))) e kp nm7 W, s11]) dX12_comesOver_138 rfl (jb_ix_nI (by omega)) (by omega) rfl rfl ?_
          have hdc2 : jd_ V (upd (upd d (268 + 4 * (V 0 3)) (nI q)) (268 + 4 * (V 0 3) + 1) (nI (jm_sa V G q (V 7 s)))) := jd_o hdc1 hk0 (by omega)
          refine jb_aload_n (pc' := 140) dX12_comesOver_139 rfl rfl ?_
          refine gf_X12_7 (pc' := 143) (v := .ref 106) dX12_comesOver_140 rfl rfl rfl ?_
          refine jb_iload (pc' := 145) dX12_comesOver_143 rfl rfl ?_
          refine jb_iconst (pc' := 146) 2 dX12_comesOver_145 (by decide) rfl ?_
          refine jb_iadd (pc' := 147) dX12_comesOver_146 rfl ?_
          refine jb_top (v := .int ((nI (268 + 4 * (V 0 3))) + 2)) (w := .int (nI (268 + 4 * (V 0 3) + 2))) (jb_vI (nI_add _ 2)) ?_
          refine jb_iload_n (pc' := 148) dX12_comesOver_147 rfl rfl ?_
          refine jb_iastore (pc' := 149) (i9 := (268 + 4 * (V 0 3) + 2)) (f := (upd (upd d (268 + 4 * (V 0 3)) (nI q)) (268 + 4 * (V 0 3) + 1) (nI (jm_sa V G q (V 7 s))))) (h' := [s0, s1, s2, s3, s4, s5, s6, s7, s8, s9, jb_mdl I J7 (upd (upd (upd d (268 + 4 * (V 0 3)) (nI q)) (268 + 4 * (V 0 3) + 1) (nI (jm_sa V G q (V 7 s)))) (268 + 4 * (V 0 3) + 2) (nI s)) e kp nm7 W, s11]) dX12_comesOver_148 rfl (jb_ix_nI (by omega)) (by omega) rfl rfl ?_
          have hdc3 : jd_ V (upd (upd (upd d (268 + 4 * (V 0 3)) (nI q)) (268 + 4 * (V 0 3) + 1) (nI (jm_sa V G q (V 7 s)))) (268 + 4 * (V 0 3) + 2) (nI s)) := jd_o hdc2 hk0 (by omega)
          refine jb_aload_n (pc' := 150) dX12_comesOver_149 rfl rfl ?_
          refine gf_X12_7 (pc' := 153) (v := .ref 106) dX12_comesOver_150 rfl rfl rfl ?_
          refine jb_iload (pc' := 155) dX12_comesOver_153 rfl rfl ?_
          refine jb_iconst (pc' := 156) 3 dX12_comesOver_155 (by decide) rfl ?_
          refine jb_iadd (pc' := 157) dX12_comesOver_156 rfl ?_
          refine jb_top (v := .int ((nI (268 + 4 * (V 0 3))) + 3)) (w := .int (nI (268 + 4 * (V 0 3) + 3))) (jb_vI (nI_add _ 3)) ?_
          refine jb_aload_n (pc' := 158) dX12_comesOver_157 rfl rfl ?_
          refine gf_X12_7 (pc' := 161) (v := .ref 106) dX12_comesOver_158 rfl rfl rfl ?_
          refine jb_iconst (pc' := 162) 3 dX12_comesOver_161 (by decide) rfl ?_
          refine jb_iaload (pc' := 163) (i9 := 3) (f := (upd (upd (upd d (268 + 4 * (V 0 3)) (nI q)) (268 + 4 * (V 0 3) + 1) (nI (jm_sa V G q (V 7 s)))) (268 + 4 * (V 0 3) + 2) (nI s))) dX12_comesOver_162 rfl jb_x3 (by decide) rfl ?_
          refine jb_top (v := .int ((upd (upd (upd d (268 + 4 * (V 0 3)) (nI q)) (268 + 4 * (V 0 3) + 1) (nI (jm_sa V G q (V 7 s)))) (268 + 4 * (V 0 3) + 2) (nI s)) 3)) (w := .int (nI (V 0 0))) (jb_vI hdc3.2.2.2.1) ?_
          refine jb_aload_n (pc' := 164) dX12_comesOver_163 rfl rfl ?_
          refine jb_iload (pc' := 166) dX12_comesOver_164 rfl rfl ?_
          refine jb_callV (pc' := 169) (ci := 12) (q := 105) (As := [.int (nI q)]) (a2 := 0) (b2 := 0) wv_X12_154 rfl dX12_comesOver_166 (c_thinksOf I J7 (upd (upd (upd d (268 + 4 * (V 0 3)) (nI q)) (268 + 4 * (V 0 3) + 1) (nI (jm_sa V G q (V 7 s)))) (268 + 4 * (V 0 3) + 2) (nI s)) e kp nm7 W hdc3 hk0 q (by omega)) rfl rfl ⟨by decide, Nat.le_of_eq (Nat.zero_add _), Nat.le_of_eq (Nat.zero_add _)⟩ (Nat.le_of_ble_eq_true rfl) rfl (fun r h9 hq => ?_)
          obtain ⟨rfl, rfl⟩ := hq
          show jb_J _ RX12 cX12_comesOver 8 (Option.none : Option Jvm.ClassFile.FieldType) false 47 0 0 169 [some (.ref 105), some (.int (nI s)), some (.int 0), some (.int (nI (V 7 s))), some (.int (jm_ca V G (V 5 s) (V 7 s))), some (.int 1), some (.int (nI q)), some (.int (nI (268 + 4 * (V 0 3))))] [.int (nI (jm_th V q)), .int (nI (V 0 0)), .int (nI (268 + 4 * (V 0 3) + 3)), .ref 106] [s0, s1, s2, s3, s4, s5, s6, s7, s8, s9, jb_mdl I J7 (upd (upd (upd d (268 + 4 * (V 0 3)) (nI q)) (268 + 4 * (V 0 3) + 1) (nI (jm_sa V G q (V 7 s)))) (268 + 4 * (V 0 3) + 2) (nI s)) e kp nm7 W, s11] _
          refine jb_iadd (pc' := 170) dX12_comesOver_169 rfl ?_
          refine jb_top (v := .int ((nI (V 0 0)) + (nI (jm_th V q)))) (w := .int (nI ((V 0 0) + (jm_th V q)))) (jb_vI (nI_add _ _)) ?_
          refine jb_iastore (pc' := 171) (i9 := (268 + 4 * (V 0 3) + 3)) (f := (upd (upd (upd d (268 + 4 * (V 0 3)) (nI q)) (268 + 4 * (V 0 3) + 1) (nI (jm_sa V G q (V 7 s)))) (268 + 4 * (V 0 3) + 2) (nI s))) (h' := [s0, s1, s2, s3, s4, s5, s6, s7, s8, s9, jb_mdl I J7 (upd (upd (upd (upd d (268 + 4 * (V 0 3)) (nI q)) (268 + 4 * (V 0 3) + 1) (nI (jm_sa V G q (V 7 s)))) (268 + 4 * (V 0 3) + 2) (nI s)) (268 + 4 * (V 0 3) + 3) (nI ((V 0 0) + (jm_th V q)))) e kp nm7 W, s11]) dX12_comesOver_170 rfl (jb_ix_nI (by omega)) (by omega) rfl rfl ?_
          have hdc4 : jd_ V (upd (upd (upd (upd d (268 + 4 * (V 0 3)) (nI q)) (268 + 4 * (V 0 3) + 1) (nI (jm_sa V G q (V 7 s)))) (268 + 4 * (V 0 3) + 2) (nI s)) (268 + 4 * (V 0 3) + 3) (nI ((V 0 0) + (jm_th V q)))) := jd_o hdc3 hk0 (by omega)
          refine jb_aload_n (pc' := 172) dX12_comesOver_171 rfl rfl ?_
          refine gf_X12_7 (pc' := 175) (v := .ref 106) dX12_comesOver_172 rfl rfl rfl ?_
          refine jb_bipush (pc' := 177) 6 dX12_comesOver_175 (by decide) rfl ?_
          refine jb_dup2 (pc' := 178) dX12_comesOver_177 rfl rfl rfl ?_
          refine jb_iaload (pc' := 179) (i9 := 6) (f := (upd (upd (upd (upd d (268 + 4 * (V 0 3)) (nI q)) (268 + 4 * (V 0 3) + 1) (nI (jm_sa V G q (V 7 s)))) (268 + 4 * (V 0 3) + 2) (nI s)) (268 + 4 * (V 0 3) + 3) (nI ((V 0 0) + (jm_th V q))))) dX12_comesOver_178 rfl jb_x6 (by decide) rfl ?_
          refine jb_top (v := .int ((upd (upd (upd (upd d (268 + 4 * (V 0 3)) (nI q)) (268 + 4 * (V 0 3) + 1) (nI (jm_sa V G q (V 7 s)))) (268 + 4 * (V 0 3) + 2) (nI s)) (268 + 4 * (V 0 3) + 3) (nI ((V 0 0) + (jm_th V q)))) 6)) (w := .int (nI (V 0 3))) (jb_vI hdc4.2.2.2.2.2.2.1) ?_
          refine jb_iconst (pc' := 180) 1 dX12_comesOver_179 (by decide) rfl ?_
          refine jb_iadd (pc' := 181) dX12_comesOver_180 rfl ?_
          refine jb_top (v := .int ((nI (V 0 3)) + 1)) (w := .int (nI ((V 0 3) + 1))) (jb_vI (nI_add _ 1)) ?_
          refine jb_iastore (pc' := 182) (i9 := 6) (f := (upd (upd (upd (upd d (268 + 4 * (V 0 3)) (nI q)) (268 + 4 * (V 0 3) + 1) (nI (jm_sa V G q (V 7 s)))) (268 + 4 * (V 0 3) + 2) (nI s)) (268 + 4 * (V 0 3) + 3) (nI ((V 0 0) + (jm_th V q))))) (h' := [s0, s1, s2, s3, s4, s5, s6, s7, s8, s9, jb_mdl I J7 (upd (upd (upd (upd (upd d (268 + 4 * (V 0 3)) (nI q)) (268 + 4 * (V 0 3) + 1) (nI (jm_sa V G q (V 7 s)))) (268 + 4 * (V 0 3) + 2) (nI s)) (268 + 4 * (V 0 3) + 3) (nI ((V 0 0) + (jm_th V q)))) 6 (nI ((V 0 3) + 1))) e kp nm7 W, s11]) dX12_comesOver_181 rfl jb_x6 (by decide) rfl rfl ?_
          refine jb_vret dX12_comesOver_182 ?_
          obtain ⟨hf, -, -, -, -, -⟩ := jd_u4 (d := d) (n := V 0 3) (v0 := nI q) (v1 := nI (jm_sa V G q (V 7 s))) (v2 := nI s) (v3 := nI (V 0 0 + jm_th V q)) (v4 := nI (V 0 3 + 1))
          exact ⟨rfl, J7, nm7, (upd (upd (upd (upd (upd d (268 + 4 * (V 0 3)) (nI q)) (268 + 4 * (V 0 3) + 1) (nI (jm_sa V G q (V 7 s)))) (268 + 4 * (V 0 3) + 2) (nI s)) (268 + 4 * (V 0 3) + 3) (nI ((V 0 0) + (jm_th V q)))) 6 (nI ((V 0 3) + 1))), by rw [jm_co_s G false s V (d 7) q ⟨hh9, by omega, by omega⟩ eq9]; exact jd_due hd0 hk0 q (jm_sa V G q (V 7 s)) s, Eq.trans (b := d 7) ((hf 7 (by decide) (by omega)).trans rfl) (jm_co_z0 G s V (d 7)).symm, jd_f.tr (jd_f.rf d) ⟨hf 8 (by decide) (by omega), hf 9 (by decide) (by omega), fun k hk => hf k (by omega) (by omega)⟩, rfl⟩
