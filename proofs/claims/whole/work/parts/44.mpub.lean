theorem jd_.to {V : Nat → Nat → Nat} {d d' : Nat → Int32} (hd : jd_ V d) (hk : jv_ok V) (h : ∀ k, k < 490 → d' k = d k) : jd_ V d' := by
  obtain ⟨e0, e1, e2, e3, e4, e5, e6, dv, ds, dd⟩ := hd
  obtain ⟨k0, k1, k2, k3, k4, k5, k6, k7, -, -, -⟩ := hk
  refine ⟨(h _ (by omega)).trans e0, (h _ (by omega)).trans e1, (h _ (by omega)).trans e2, (h _ (by omega)).trans e3, (h _ (by omega)).trans e4, (h _ (by omega)).trans e5, (h _ (by omega)).trans e6, fun p hp => ?_, fun s hs => ?_, fun k hk => ?_⟩
  · rw [h _ (by omega), h _ (by omega), h _ (by omega)]; exact dv p hp
  · rw [h _ (by omega), h _ (by omega), h _ (by omega), h _ (by omega), h _ (by omega), h _ (by omega)]; exact ds s hs
  · rw [h _ (by omega), h _ (by omega), h _ (by omega), h _ (by omega)]; exact dd k hk
set_option maxRecDepth 100000 in
set_option maxHeartbeats 4000000 in
theorem mx_then0 {sc : Nat × (Nat → Int32)} {s0 s1 s2 s3 s4 s5 s6 s7 s8 s9 s11 : List va_E} {V : Nat → Nat → Nat} (I J d e kp nm : Nat → Int32) (W : Nat → Nat → Int32) (hd : jd_ V d) (hk : jv_ok V) {G : jm_G} (hG : jm_Gok G) {d0 : Nat → Int32} (hg : jGm sc d0 G) (hag : ∀ k, 316 ≤ k → d k = d0 k) (n : Nat) (hn : n ≤ 200) (h0 : V 0 0 ≤ 9999) : jb_C sc yX12_then cX12_then 4 (Option.some .int) 50 0 0 [.ref 105, .int (nI n), .int 0] [s0, s1, s2, s3, s4, s5, s6, s7, s8, s9, jb_mdl I J d e kp nm W, s11] (fun r h9 => r = some (.int (nI ((jm_pa G false n (V, d 7)).1 0 2))) ∧ ∃ J9 nm9 d9 e9, (∀ k, k < 490 → d9 k = d k) ∧ h9 = [s0, s1, s2, s3, s4, s5, s6, s7, s8, s9, jb_mdl I J9 d9 e9 kp nm9 W, s11]) := by
  refine jb_CofJ (ini := false) (by decide +kernel) (fun h => by cases h) (Nat.le_of_ble_eq_true rfl) ?_
  show jb_J sc RX12 cX12_then 4 (Option.some .int) false 50 0 0 0 [some (.ref 105), some (.int (nI n)), some (.int 0), none] [] [s0, s1, s2, s3, s4, s5, s6, s7, s8, s9, jb_mdl I J d e kp nm W, s11] _
  have hd0 := hd
  have hk0 := hk
  obtain ⟨e0, e1, e2, e3, e4, e5, e6, dv, ds, dd⟩ := hd
  obtain ⟨k0, k1, k2, k3, k4, k5, k6, k7, kv, ks, kd⟩ := hk
  refine jb_iload_n (pc' := 1) dX12_then_0 rfl rfl ?_
  refine jb_i2l (pc' := 2) dX12_then_1 rfl ?_
  refine jb_lconst (pc' := 3) 0 dX12_then_2 (by decide) rfl ?_
  refine jb_ldc2 (pc' := 6) 200 dX12_then_3 wk_X12_206 rfl ?_
  refine jb_callS (pc' := 9) (As := [.long ((nI n).toInt64), .long 0, .long 200]) (a2 := 0) (b2 := 0) wv_X12_56 dX12_then_6 (c_inLG _ n 0 200 (by omega) (by omega) (by omega)) rfl ⟨by decide, Nat.le_of_eq (Nat.zero_add _), Nat.le_of_eq (Nat.zero_add _)⟩ (Nat.le_of_ble_eq_true rfl) rfl (fun r h9 hq => ?_)
  obtain ⟨rfl, rfl⟩ := hq
  show jb_J _ RX12 cX12_then 4 (Option.some .int) false 50 0 0 9 [some (.ref 105), some (.int (nI n)), some (.int 0), none] [.int 1] [s0, s1, s2, s3, s4, s5, s6, s7, s8, s9, jb_mdl I J d e kp nm W, s11] _
  refine jb_if_eq (tgt := 24) (pc' := 12) dX12_then_9 (by decide) rfl (fun z => absurd z (by decide)) (fun _ => ?_)
  refine jb_iload_n (pc' := 13) dX12_then_12 rfl rfl ?_
  refine jb_i2l (pc' := 14) dX12_then_13 rfl ?_
  refine jb_lconst (pc' := 15) 0 dX12_then_14 (by decide) rfl ?_
  refine jb_ldc2 (pc' := 18) 2 dX12_then_15 wk_X12_137 rfl ?_
  refine jb_callS (pc' := 21) (As := [.long ((0 : Int32).toInt64), .long 0, .long 2]) (a2 := 0) (b2 := 0) wv_X12_56 dX12_then_18 (c_inLG _ 0 0 2 (by omega) (by omega) (by omega)) rfl ⟨by decide, Nat.le_of_eq (Nat.zero_add _), Nat.le_of_eq (Nat.zero_add _)⟩ (Nat.le_of_ble_eq_true rfl) rfl (fun r h9 hq => ?_)
  obtain ⟨rfl, rfl⟩ := hq
  show jb_J _ RX12 cX12_then 4 (Option.some .int) false 50 0 0 21 [some (.ref 105), some (.int (nI n)), some (.int 0), none] [.int 1] [s0, s1, s2, s3, s4, s5, s6, s7, s8, s9, jb_mdl I J d e kp nm W, s11] _
  refine jb_if_ne (tgt := 30) (pc' := 24) dX12_then_21 (by decide) rfl (fun _ => ?_) (fun z => absurd z (by decide))
  refine jb_aload_n (pc' := 31) dX12_then_30 rfl rfl ?_
  refine gf_X12_7 (pc' := 34) (v := .ref 106) dX12_then_31 rfl rfl rfl ?_
  refine jb_aload_n (pc' := 35) dX12_then_34 rfl rfl ?_
  refine gf_X12_13 (pc' := 38) (v := .ref 107) dX12_then_35 rfl rfl rfl ?_
  refine jb_callS (pc' := 41) (As := [.ref 106, .ref 107]) (a2 := 0) (b2 := 0) wv_X12_212 dX12_then_38 (c_copies_106_107 I J d e kp nm W) rfl ⟨by decide, Nat.le_of_eq (Nat.zero_add _), Nat.le_of_eq (Nat.zero_add _)⟩ (Nat.le_of_ble_eq_true rfl) rfl (fun r h9 hq => ?_)
  obtain ⟨rfl, e9, he9, rfl⟩ := hq
  show jb_J _ RX12 cX12_then 4 (Option.some .int) false 50 0 0 41 [some (.ref 105), some (.int (nI n)), some (.int 0), none] [] [s0, s1, s2, s3, s4, s5, s6, s7, s8, s9, jb_mdl I J d e9 kp nm W, s11] _
  refine jb_aload_n (pc' := 42) dX12_then_41 rfl rfl ?_
  refine jb_iload_n (pc' := 43) dX12_then_42 rfl rfl ?_
  refine jb_callV (pc' := 46) (ci := 12) (q := 105) (As := [.int (nI n)]) (a2 := 0) (b2 := 0) wv_X12_216 rfl dX12_then_43 (c_goesOn I J d e9 kp nm W hd0 hk0 hG hg hag n (by omega) (by first | omega | exact h2n)) rfl rfl ⟨by decide, Nat.le_of_eq (Nat.zero_add _), Nat.le_of_eq (Nat.zero_add _)⟩ (Nat.le_of_ble_eq_true rfl) rfl (fun r h9 hq => ?_)
  obtain ⟨rfl, J9, nm9, d9, hd9, hz9, hf9, rfl⟩ := hq
  obtain ⟨hk9, hs9⟩ := jv_pa hG false n (V) (d 7) hk0 (by first | omega | exact h2n)
  obtain ⟨V9, hV9⟩ : ∃ X9, (jm_pa G false n (V, d 7)).1 = X9 := ⟨_, rfl⟩
  rw [hV9] at hd9 hk9 hs9
  show jb_J _ RX12 cX12_then 4 (Option.some .int) false 50 0 0 46 [some (.ref 105), some (.int (nI n)), some (.int 0), none] [] [s0, s1, s2, s3, s4, s5, s6, s7, s8, s9, jb_mdl I J9 d9 e9 kp nm9 W, s11] _
  refine jb_iload_n (pc' := 47) dX12_then_46 rfl rfl ?_
  refine jb_if_ne (tgt := 59) (pc' := 50) dX12_then_47 (by decide) rfl (fun z => absurd (by decide) z) (fun _ => ?_)
  refine jb_aload_n (pc' := 51) dX12_then_50 rfl rfl ?_
  refine gf_X12_7 (pc' := 54) (v := .ref 106) dX12_then_51 rfl rfl rfl ?_
  refine jb_iconst (pc' := 55) 5 dX12_then_54 (by decide) rfl ?_
  refine jb_iaload (pc' := 56) (i9 := 5) (f := d9) dX12_then_55 rfl jb_x5 (by decide) rfl ?_
  refine jb_top (v := .int (d9 5)) (w := .int (nI (V9 0 2))) (jb_vI hd9.2.2.2.2.2.1) ?_
  refine jb_goto (pc' := 78) dX12_then_56 (by decide) ?_
  refine jb_istore_n_ (pc' := 79) dX12_then_78 (by decide) (jb_at3 rfl) rfl ?_
  refine jb_aload_n (pc' := 80) dX12_then_79 rfl rfl ?_
  refine gf_X12_13 (pc' := 83) (v := .ref 107) dX12_then_80 rfl rfl rfl ?_
  refine jb_aload_n (pc' := 84) dX12_then_83 rfl rfl ?_
  refine gf_X12_7 (pc' := 87) (v := .ref 106) dX12_then_84 rfl rfl rfl ?_
  refine jb_callS (pc' := 90) (As := [.ref 107, .ref 106]) (a2 := 0) (b2 := 0) wv_X12_212 dX12_then_87 (c_copies_107_106 I J9 d9 e9 kp nm9 W) rfl ⟨by decide, Nat.le_of_eq (Nat.zero_add _), Nat.le_of_eq (Nat.zero_add _)⟩ (Nat.le_of_ble_eq_true rfl) rfl (fun r h9 hq => ?_)
  obtain ⟨rfl, d8, hd8, rfl⟩ := hq
  show jb_J _ RX12 cX12_then 4 (Option.some .int) false 50 0 0 90 [some (.ref 105), some (.int (nI n)), some (.int 0), some (.int (nI (V9 0 2)))] [] [s0, s1, s2, s3, s4, s5, s6, s7, s8, s9, jb_mdl I J9 d8 e9 kp nm9 W, s11] _
  refine jb_iload_n (pc' := 91) dX12_then_90 rfl rfl ?_
  refine jb_iret dX12_then_91 rfl ?_
  refine ⟨by rw [hV9], J9, nm9, d8, e9, fun k hk => (hd8 k hk).trans (he9 k hk), rfl⟩
set_option maxRecDepth 100000 in
set_option maxHeartbeats 4000000 in
theorem mx_then1 {sc : Nat × (Nat → Int32)} {s0 s1 s2 s3 s4 s5 s6 s7 s8 s9 s11 : List va_E} {V : Nat → Nat → Nat} (I J d e kp nm : Nat → Int32) (W : Nat → Nat → Int32) (hd : jd_ V d) (hk : jv_ok V) {G : jm_G} (hG : jm_Gok G) {d0 : Nat → Int32} (hg : jGm sc d0 G) (hag : ∀ k, 316 ≤ k → d k = d0 k) (n : Nat) (hn : n ≤ 200) (h0 : V 0 0 ≤ 9999) : jb_C sc yX12_then cX12_then 4 (Option.some .int) 50 0 0 [.ref 105, .int (nI n), .int 1] [s0, s1, s2, s3, s4, s5, s6, s7, s8, s9, jb_mdl I J d e kp nm W, s11] (fun r h9 => r = some (.int (nI ((jm_pa G false n (V, d 7)).1 0 3))) ∧ ∃ J9 nm9 d9 e9, (∀ k, k < 490 → d9 k = d k) ∧ h9 = [s0, s1, s2, s3, s4, s5, s6, s7, s8, s9, jb_mdl I J9 d9 e9 kp nm9 W, s11]) := by
  refine jb_CofJ (ini := false) (by decide +kernel) (fun h => by cases h) (Nat.le_of_ble_eq_true rfl) ?_
  show jb_J sc RX12 cX12_then 4 (Option.some .int) false 50 0 0 0 [some (.ref 105), some (.int (nI n)), some (.int 1), none] [] [s0, s1, s2, s3, s4, s5, s6, s7, s8, s9, jb_mdl I J d e kp nm W, s11] _
  have hd0 := hd
  have hk0 := hk
  obtain ⟨e0, e1, e2, e3, e4, e5, e6, dv, ds, dd⟩ := hd
  obtain ⟨k0, k1, k2, k3, k4, k5, k6, k7, kv, ks, kd⟩ := hk
  refine jb_iload_n (pc' := 1) dX12_then_0 rfl rfl ?_
  refine jb_i2l (pc' := 2) dX12_then_1 rfl ?_
  refine jb_lconst (pc' := 3) 0 dX12_then_2 (by decide) rfl ?_
  refine jb_ldc2 (pc' := 6) 200 dX12_then_3 wk_X12_206 rfl ?_
  refine jb_callS (pc' := 9) (As := [.long ((nI n).toInt64), .long 0, .long 200]) (a2 := 0) (b2 := 0) wv_X12_56 dX12_then_6 (c_inLG _ n 0 200 (by omega) (by omega) (by omega)) rfl ⟨by decide, Nat.le_of_eq (Nat.zero_add _), Nat.le_of_eq (Nat.zero_add _)⟩ (Nat.le_of_ble_eq_true rfl) rfl (fun r h9 hq => ?_)
  obtain ⟨rfl, rfl⟩ := hq
  show jb_J _ RX12 cX12_then 4 (Option.some .int) false 50 0 0 9 [some (.ref 105), some (.int (nI n)), some (.int 1), none] [.int 1] [s0, s1, s2, s3, s4, s5, s6, s7, s8, s9, jb_mdl I J d e kp nm W, s11] _
  refine jb_if_eq (tgt := 24) (pc' := 12) dX12_then_9 (by decide) rfl (fun z => absurd z (by decide)) (fun _ => ?_)
  refine jb_iload_n (pc' := 13) dX12_then_12 rfl rfl ?_
  refine jb_i2l (pc' := 14) dX12_then_13 rfl ?_
  refine jb_lconst (pc' := 15) 0 dX12_then_14 (by decide) rfl ?_
  refine jb_ldc2 (pc' := 18) 2 dX12_then_15 wk_X12_137 rfl ?_
  refine jb_callS (pc' := 21) (As := [.long ((1 : Int32).toInt64), .long 0, .long 2]) (a2 := 0) (b2 := 0) wv_X12_56 dX12_then_18 (c_inLG _ 1 0 2 (by omega) (by omega) (by omega)) rfl ⟨by decide, Nat.le_of_eq (Nat.zero_add _), Nat.le_of_eq (Nat.zero_add _)⟩ (Nat.le_of_ble_eq_true rfl) rfl (fun r h9 hq => ?_)
  obtain ⟨rfl, rfl⟩ := hq
  show jb_J _ RX12 cX12_then 4 (Option.some .int) false 50 0 0 21 [some (.ref 105), some (.int (nI n)), some (.int 1), none] [.int 1] [s0, s1, s2, s3, s4, s5, s6, s7, s8, s9, jb_mdl I J d e kp nm W, s11] _
  refine jb_if_ne (tgt := 30) (pc' := 24) dX12_then_21 (by decide) rfl (fun _ => ?_) (fun z => absurd z (by decide))
  refine jb_aload_n (pc' := 31) dX12_then_30 rfl rfl ?_
  refine gf_X12_7 (pc' := 34) (v := .ref 106) dX12_then_31 rfl rfl rfl ?_
  refine jb_aload_n (pc' := 35) dX12_then_34 rfl rfl ?_
  refine gf_X12_13 (pc' := 38) (v := .ref 107) dX12_then_35 rfl rfl rfl ?_
  refine jb_callS (pc' := 41) (As := [.ref 106, .ref 107]) (a2 := 0) (b2 := 0) wv_X12_212 dX12_then_38 (c_copies_106_107 I J d e kp nm W) rfl ⟨by decide, Nat.le_of_eq (Nat.zero_add _), Nat.le_of_eq (Nat.zero_add _)⟩ (Nat.le_of_ble_eq_true rfl) rfl (fun r h9 hq => ?_)
  obtain ⟨rfl, e9, he9, rfl⟩ := hq
  show jb_J _ RX12 cX12_then 4 (Option.some .int) false 50 0 0 41 [some (.ref 105), some (.int (nI n)), some (.int 1), none] [] [s0, s1, s2, s3, s4, s5, s6, s7, s8, s9, jb_mdl I J d e9 kp nm W, s11] _
  refine jb_aload_n (pc' := 42) dX12_then_41 rfl rfl ?_
  refine jb_iload_n (pc' := 43) dX12_then_42 rfl rfl ?_
  refine jb_callV (pc' := 46) (ci := 12) (q := 105) (As := [.int (nI n)]) (a2 := 0) (b2 := 0) wv_X12_216 rfl dX12_then_43 (c_goesOn I J d e9 kp nm W hd0 hk0 hG hg hag n (by omega) (by first | omega | exact h2n)) rfl rfl ⟨by decide, Nat.le_of_eq (Nat.zero_add _), Nat.le_of_eq (Nat.zero_add _)⟩ (Nat.le_of_ble_eq_true rfl) rfl (fun r h9 hq => ?_)
  obtain ⟨rfl, J9, nm9, d9, hd9, hz9, hf9, rfl⟩ := hq
  obtain ⟨hk9, hs9⟩ := jv_pa hG false n (V) (d 7) hk0 (by first | omega | exact h2n)
  obtain ⟨V9, hV9⟩ : ∃ X9, (jm_pa G false n (V, d 7)).1 = X9 := ⟨_, rfl⟩
  rw [hV9] at hd9 hk9 hs9
  show jb_J _ RX12 cX12_then 4 (Option.some .int) false 50 0 0 46 [some (.ref 105), some (.int (nI n)), some (.int 1), none] [] [s0, s1, s2, s3, s4, s5, s6, s7, s8, s9, jb_mdl I J9 d9 e9 kp nm9 W, s11] _
  refine jb_iload_n (pc' := 47) dX12_then_46 rfl rfl ?_
  refine jb_if_ne (tgt := 59) (pc' := 50) dX12_then_47 (by decide) rfl (fun _ => ?_) (fun z => absurd z (by decide))
  refine jb_iload_n (pc' := 60) dX12_then_59 rfl rfl ?_
  refine jb_iconst (pc' := 61) 1 dX12_then_60 (by decide) rfl ?_
  refine jb_icmp_ne (tgt := 74) (pc' := 64) dX12_then_61 (by decide) rfl (fun z => absurd (by decide) z) (fun _ => ?_)
  refine jb_aload_n (pc' := 65) dX12_then_64 rfl rfl ?_
  refine gf_X12_7 (pc' := 68) (v := .ref 106) dX12_then_65 rfl rfl rfl ?_
  refine jb_bipush (pc' := 70) 6 dX12_then_68 (by decide) rfl ?_
  refine jb_iaload (pc' := 71) (i9 := 6) (f := d9) dX12_then_70 rfl jb_x6 (by decide) rfl ?_
  refine jb_top (v := .int (d9 6)) (w := .int (nI (V9 0 3))) (jb_vI hd9.2.2.2.2.2.2.1) ?_
  refine jb_goto (pc' := 78) dX12_then_71 (by decide) ?_
  refine jb_istore_n_ (pc' := 79) dX12_then_78 (by decide) (jb_at3 rfl) rfl ?_
  refine jb_aload_n (pc' := 80) dX12_then_79 rfl rfl ?_
  refine gf_X12_13 (pc' := 83) (v := .ref 107) dX12_then_80 rfl rfl rfl ?_
  refine jb_aload_n (pc' := 84) dX12_then_83 rfl rfl ?_
  refine gf_X12_7 (pc' := 87) (v := .ref 106) dX12_then_84 rfl rfl rfl ?_
  refine jb_callS (pc' := 90) (As := [.ref 107, .ref 106]) (a2 := 0) (b2 := 0) wv_X12_212 dX12_then_87 (c_copies_107_106 I J9 d9 e9 kp nm9 W) rfl ⟨by decide, Nat.le_of_eq (Nat.zero_add _), Nat.le_of_eq (Nat.zero_add _)⟩ (Nat.le_of_ble_eq_true rfl) rfl (fun r h9 hq => ?_)
  obtain ⟨rfl, d8, hd8, rfl⟩ := hq
  show jb_J _ RX12 cX12_then 4 (Option.some .int) false 50 0 0 90 [some (.ref 105), some (.int (nI n)), some (.int 1), some (.int (nI (V9 0 3)))] [] [s0, s1, s2, s3, s4, s5, s6, s7, s8, s9, jb_mdl I J9 d8 e9 kp nm9 W, s11] _
  refine jb_iload_n (pc' := 91) dX12_then_90 rfl rfl ?_
  refine jb_iret dX12_then_91 rfl ?_
  refine ⟨by rw [hV9], J9, nm9, d8, e9, fun k hk => (hd8 k hk).trans (he9 k hk), rfl⟩
set_option maxRecDepth 100000 in
set_option maxHeartbeats 4000000 in
theorem mx_then2 {sc : Nat × (Nat → Int32)} {s0 s1 s2 s3 s4 s5 s6 s7 s8 s9 s11 : List va_E} {V : Nat → Nat → Nat} (I J d e kp nm : Nat → Int32) (W : Nat → Nat → Int32) (hd : jd_ V d) (hk : jv_ok V) {G : jm_G} (hG : jm_Gok G) {d0 : Nat → Int32} (hg : jGm sc d0 G) (hag : ∀ k, 316 ≤ k → d k = d0 k) (n : Nat) (hn : n ≤ 200) (h0 : V 0 0 ≤ 9999) : jb_C sc yX12_then cX12_then 4 (Option.some .int) 50 0 0 [.ref 105, .int (nI n), .int 2] [s0, s1, s2, s3, s4, s5, s6, s7, s8, s9, jb_mdl I J d e kp nm W, s11] (fun r h9 => r = some (.int (nI (jm_ta (jm_pa G false n (V, d 7)).1))) ∧ ∃ J9 nm9 d9 e9, (∀ k, k < 490 → d9 k = d k) ∧ h9 = [s0, s1, s2, s3, s4, s5, s6, s7, s8, s9, jb_mdl I J9 d9 e9 kp nm9 W, s11]) := by
  refine jb_CofJ (ini := false) (by decide +kernel) (fun h => by cases h) (Nat.le_of_ble_eq_true rfl) ?_
  show jb_J sc RX12 cX12_then 4 (Option.some .int) false 50 0 0 0 [some (.ref 105), some (.int (nI n)), some (.int 2), none] [] [s0, s1, s2, s3, s4, s5, s6, s7, s8, s9, jb_mdl I J d e kp nm W, s11] _
  have hd0 := hd
  have hk0 := hk
  obtain ⟨e0, e1, e2, e3, e4, e5, e6, dv, ds, dd⟩ := hd
  obtain ⟨k0, k1, k2, k3, k4, k5, k6, k7, kv, ks, kd⟩ := hk
  refine jb_iload_n (pc' := 1) dX12_then_0 rfl rfl ?_
  refine jb_i2l (pc' := 2) dX12_then_1 rfl ?_
  refine jb_lconst (pc' := 3) 0 dX12_then_2 (by decide) rfl ?_
  refine jb_ldc2 (pc' := 6) 200 dX12_then_3 wk_X12_206 rfl ?_
  refine jb_callS (pc' := 9) (As := [.long ((nI n).toInt64), .long 0, .long 200]) (a2 := 0) (b2 := 0) wv_X12_56 dX12_then_6 (c_inLG _ n 0 200 (by omega) (by omega) (by omega)) rfl ⟨by decide, Nat.le_of_eq (Nat.zero_add _), Nat.le_of_eq (Nat.zero_add _)⟩ (Nat.le_of_ble_eq_true rfl) rfl (fun r h9 hq => ?_)
  obtain ⟨rfl, rfl⟩ := hq
  show jb_J _ RX12 cX12_then 4 (Option.some .int) false 50 0 0 9 [some (.ref 105), some (.int (nI n)), some (.int 2), none] [.int 1] [s0, s1, s2, s3, s4, s5, s6, s7, s8, s9, jb_mdl I J d e kp nm W, s11] _
  refine jb_if_eq (tgt := 24) (pc' := 12) dX12_then_9 (by decide) rfl (fun z => absurd z (by decide)) (fun _ => ?_)
  refine jb_iload_n (pc' := 13) dX12_then_12 rfl rfl ?_
  refine jb_i2l (pc' := 14) dX12_then_13 rfl ?_
  refine jb_lconst (pc' := 15) 0 dX12_then_14 (by decide) rfl ?_
  refine jb_ldc2 (pc' := 18) 2 dX12_then_15 wk_X12_137 rfl ?_
  refine jb_callS (pc' := 21) (As := [.long ((2 : Int32).toInt64), .long 0, .long 2]) (a2 := 0) (b2 := 0) wv_X12_56 dX12_then_18 (c_inLG _ 2 0 2 (by omega) (by omega) (by omega)) rfl ⟨by decide, Nat.le_of_eq (Nat.zero_add _), Nat.le_of_eq (Nat.zero_add _)⟩ (Nat.le_of_ble_eq_true rfl) rfl (fun r h9 hq => ?_)
  obtain ⟨rfl, rfl⟩ := hq
  show jb_J _ RX12 cX12_then 4 (Option.some .int) false 50 0 0 21 [some (.ref 105), some (.int (nI n)), some (.int 2), none] [.int 1] [s0, s1, s2, s3, s4, s5, s6, s7, s8, s9, jb_mdl I J d e kp nm W, s11] _
  refine jb_if_ne (tgt := 30) (pc' := 24) dX12_then_21 (by decide) rfl (fun _ => ?_) (fun z => absurd z (by decide))
  refine jb_aload_n (pc' := 31) dX12_then_30 rfl rfl ?_
  refine gf_X12_7 (pc' := 34) (v := .ref 106) dX12_then_31 rfl rfl rfl ?_
  refine jb_aload_n (pc' := 35) dX12_then_34 rfl rfl ?_
  refine gf_X12_13 (pc' := 38) (v := .ref 107) dX12_then_35 rfl rfl rfl ?_
  refine jb_callS (pc' := 41) (As := [.ref 106, .ref 107]) (a2 := 0) (b2 := 0) wv_X12_212 dX12_then_38 (c_copies_106_107 I J d e kp nm W) rfl ⟨by decide, Nat.le_of_eq (Nat.zero_add _), Nat.le_of_eq (Nat.zero_add _)⟩ (Nat.le_of_ble_eq_true rfl) rfl (fun r h9 hq => ?_)
  obtain ⟨rfl, e9, he9, rfl⟩ := hq
  show jb_J _ RX12 cX12_then 4 (Option.some .int) false 50 0 0 41 [some (.ref 105), some (.int (nI n)), some (.int 2), none] [] [s0, s1, s2, s3, s4, s5, s6, s7, s8, s9, jb_mdl I J d e9 kp nm W, s11] _
  refine jb_aload_n (pc' := 42) dX12_then_41 rfl rfl ?_
  refine jb_iload_n (pc' := 43) dX12_then_42 rfl rfl ?_
  refine jb_callV (pc' := 46) (ci := 12) (q := 105) (As := [.int (nI n)]) (a2 := 0) (b2 := 0) wv_X12_216 rfl dX12_then_43 (c_goesOn I J d e9 kp nm W hd0 hk0 hG hg hag n (by omega) (by first | omega | exact h2n)) rfl rfl ⟨by decide, Nat.le_of_eq (Nat.zero_add _), Nat.le_of_eq (Nat.zero_add _)⟩ (Nat.le_of_ble_eq_true rfl) rfl (fun r h9 hq => ?_)
  obtain ⟨rfl, J9, nm9, d9, hd9, hz9, hf9, rfl⟩ := hq
  obtain ⟨hk9, hs9⟩ := jv_pa hG false n (V) (d 7) hk0 (by first | omega | exact h2n)
  obtain ⟨V9, hV9⟩ : ∃ X9, (jm_pa G false n (V, d 7)).1 = X9 := ⟨_, rfl⟩
  rw [hV9] at hd9 hk9 hs9
  show jb_J _ RX12 cX12_then 4 (Option.some .int) false 50 0 0 46 [some (.ref 105), some (.int (nI n)), some (.int 2), none] [] [s0, s1, s2, s3, s4, s5, s6, s7, s8, s9, jb_mdl I J9 d9 e9 kp nm9 W, s11] _
  refine jb_iload_n (pc' := 47) dX12_then_46 rfl rfl ?_
  refine jb_if_ne (tgt := 59) (pc' := 50) dX12_then_47 (by decide) rfl (fun _ => ?_) (fun z => absurd z (by decide))
  refine jb_iload_n (pc' := 60) dX12_then_59 rfl rfl ?_
  refine jb_iconst (pc' := 61) 1 dX12_then_60 (by decide) rfl ?_
  refine jb_icmp_ne (tgt := 74) (pc' := 64) dX12_then_61 (by decide) rfl (fun _ => ?_) (fun z => absurd z (by decide))
  refine jb_aload_n (pc' := 75) dX12_then_74 rfl rfl ?_
  refine jb_callV (pc' := 78) (ci := 12) (q := 105) (As := []) (a2 := 0) (b2 := 0) wv_X12_220 rfl dX12_then_75 (c_taughtm I J9 d9 e9 kp nm9 W hd9 hk9) rfl rfl ⟨by decide, Nat.le_of_eq (Nat.zero_add _), Nat.le_of_eq (Nat.zero_add _)⟩ (Nat.le_of_ble_eq_true rfl) rfl (fun r h9 hq => ?_)
  obtain ⟨rfl, rfl⟩ := hq
  show jb_J _ RX12 cX12_then 4 (Option.some .int) false 50 0 0 78 [some (.ref 105), some (.int (nI n)), some (.int 2), none] [.int (nI (jm_ta V9))] [s0, s1, s2, s3, s4, s5, s6, s7, s8, s9, jb_mdl I J9 d9 e9 kp nm9 W, s11] _
  refine jb_istore_n_ (pc' := 79) dX12_then_78 (by decide) (jb_at3 rfl) rfl ?_
  refine jb_aload_n (pc' := 80) dX12_then_79 rfl rfl ?_
  refine gf_X12_13 (pc' := 83) (v := .ref 107) dX12_then_80 rfl rfl rfl ?_
  refine jb_aload_n (pc' := 84) dX12_then_83 rfl rfl ?_
  refine gf_X12_7 (pc' := 87) (v := .ref 106) dX12_then_84 rfl rfl rfl ?_
  refine jb_callS (pc' := 90) (As := [.ref 107, .ref 106]) (a2 := 0) (b2 := 0) wv_X12_212 dX12_then_87 (c_copies_107_106 I J9 d9 e9 kp nm9 W) rfl ⟨by decide, Nat.le_of_eq (Nat.zero_add _), Nat.le_of_eq (Nat.zero_add _)⟩ (Nat.le_of_ble_eq_true rfl) rfl (fun r h9 hq => ?_)
  obtain ⟨rfl, d8, hd8, rfl⟩ := hq
  show jb_J _ RX12 cX12_then 4 (Option.some .int) false 50 0 0 90 [some (.ref 105), some (.int (nI n)), some (.int 2), some (.int (nI (jm_ta V9)))] [] [s0, s1, s2, s3, s4, s5, s6, s7, s8, s9, jb_mdl I J9 d8 e9 kp nm9 W, s11] _
  refine jb_iload_n (pc' := 91) dX12_then_90 rfl rfl ?_
  refine jb_iret dX12_then_91 rfl ?_
  refine ⟨by rw [hV9], J9, nm9, d8, e9, fun k hk => (hd8 k hk).trans (he9 k hk), rfl⟩
set_option maxRecDepth 100000 in
set_option maxHeartbeats 4000000 in
theorem me_then {sc : Nat × (Nat → Int32)} {s0 s1 s2 s3 s4 s5 s6 s7 s8 s9 s11 : List va_E} {V : Nat → Nat → Nat} (I J d e kp nm : Nat → Int32) (W : Nat → Nat → Int32) (hd : jd_ V d) (hk : jv_ok V) (n w : Int32) (hb : ¬ (jn_b n 0 201 ∧ jn_b w 0 3)) : jb_C sc yX12_then cX12_then 4 (Option.some .int) 1 0 0 [.ref 105, .int n, .int w] [s0, s1, s2, s3, s4, s5, s6, s7, s8, s9, jb_mdl I J d e kp nm W, s11] (fun r h9 => r = some (.int (jm_er 1)) ∧ h9 = [s0, s1, s2, s3, s4, s5, s6, s7, s8, s9, jb_mdl I J d e kp nm (va_up W 0 (jm_ef (W 0) 1)), s11]) := by
  refine jb_CofJ (ini := false) (by decide +kernel) (fun h => by cases h) (Nat.le_of_ble_eq_true rfl) ?_
  show jb_J sc RX12 cX12_then 4 (Option.some .int) false 1 0 0 0 [some (.ref 105), some (.int n), some (.int w), none] [] [s0, s1, s2, s3, s4, s5, s6, s7, s8, s9, jb_mdl I J d e kp nm W, s11] _
  have hd0 := hd
  have hk0 := hk
  obtain ⟨e0, e1, e2, e3, e4, e5, e6, dv, ds, dd⟩ := hd
  obtain ⟨k0, k1, k2, k3, k4, k5, k6, k7, kv, ks, kd⟩ := hk
  refine jb_iload_n (pc' := 1) dX12_then_0 rfl rfl ?_
  refine jb_i2l (pc' := 2) dX12_then_1 rfl ?_
  refine jb_lconst (pc' := 3) 0 dX12_then_2 (by decide) rfl ?_
  refine jb_ldc2 (pc' := 6) 200 dX12_then_3 wk_X12_206 rfl ?_
  refine jb_callS (pc' := 9) (As := [.long n.toInt64, .long 0, .long 200]) (a2 := 0) (b2 := 0) wv_X12_56 dX12_then_6 (c_inL _ n 0 200 (by omega) (by omega)) rfl ⟨by decide, Nat.le_of_eq (Nat.zero_add _), Nat.le_of_eq (Nat.zero_add _)⟩ (Nat.le_of_ble_eq_true rfl) rfl (fun r h9 hq => ?_)
  rcases hq with ⟨rfl, ⟨o1, rfl⟩ | ⟨o1, rfl⟩⟩
  · show jb_J _ RX12 cX12_then 4 (Option.some .int) false 1 0 0 9 [some (.ref 105), some (.int n), some (.int w), none] [.int 1] [s0, s1, s2, s3, s4, s5, s6, s7, s8, s9, jb_mdl I J d e kp nm W, s11] _
    refine jb_if_eq (tgt := 24) (pc' := 12) dX12_then_9 (by decide) rfl (fun z => absurd z (by decide)) (fun _ => ?_)
    refine jb_iload_n (pc' := 13) dX12_then_12 rfl rfl ?_
    refine jb_i2l (pc' := 14) dX12_then_13 rfl ?_
    refine jb_lconst (pc' := 15) 0 dX12_then_14 (by decide) rfl ?_
    refine jb_ldc2 (pc' := 18) 2 dX12_then_15 wk_X12_137 rfl ?_
    refine jb_callS (pc' := 21) (As := [.long w.toInt64, .long 0, .long 2]) (a2 := 0) (b2 := 0) wv_X12_56 dX12_then_18 (c_inL _ w 0 2 (by omega) (by omega)) rfl ⟨by decide, Nat.le_of_eq (Nat.zero_add _), Nat.le_of_eq (Nat.zero_add _)⟩ (Nat.le_of_ble_eq_true rfl) rfl (fun r h9 hq => ?_)
    rcases hq with ⟨rfl, ⟨o4, rfl⟩ | ⟨o4, rfl⟩⟩
    · show jb_J _ RX12 cX12_then 4 (Option.some .int) false 1 0 0 21 [some (.ref 105), some (.int n), some (.int w), none] [.int 1] [s0, s1, s2, s3, s4, s5, s6, s7, s8, s9, jb_mdl I J d e kp nm W, s11] _
      exact absurd ⟨by assumption, by assumption⟩ hb
    · show jb_J _ RX12 cX12_then 4 (Option.some .int) false 1 0 0 21 [some (.ref 105), some (.int n), some (.int w), none] [.int 0] [s0, s1, s2, s3, s4, s5, s6, s7, s8, s9, jb_mdl I J d e kp nm W, s11] _
      refine jb_if_ne (tgt := 30) (pc' := 24) dX12_then_21 (by decide) rfl (fun z => absurd (by decide) z) (fun _ => ?_)
      refine jb_aload_n (pc' := 25) dX12_then_24 rfl rfl ?_
      refine jb_iconst (pc' := 26) 1 dX12_then_25 (by decide) rfl ?_
      refine jb_callV (pc' := 29) (ci := 12) (q := 105) (As := [.int 1]) (a2 := 0) (b2 := 0) wv_X12_121 rfl dX12_then_26 (c_finds I J d e kp nm W 1 (by decide)) rfl rfl ⟨by decide, Nat.le_of_eq (Nat.zero_add _), Nat.le_of_eq (Nat.zero_add _)⟩ (Nat.le_of_ble_eq_true rfl) rfl (fun r h9 hq => ?_)
      obtain ⟨rfl, rfl⟩ := hq
      show jb_J _ RX12 cX12_then 4 (Option.some .int) false 1 0 0 29 [some (.ref 105), some (.int n), some (.int w), none] [.int (jm_er 1)] [s0, s1, s2, s3, s4, s5, s6, s7, s8, s9, jb_mdl I J d e kp nm (va_up W 0 (jm_ef (W 0) 1)), s11] _
      refine jb_iret dX12_then_29 rfl ?_
      exact ⟨rfl, rfl⟩
  · show jb_J _ RX12 cX12_then 4 (Option.some .int) false 1 0 0 9 [some (.ref 105), some (.int n), some (.int w), none] [.int 0] [s0, s1, s2, s3, s4, s5, s6, s7, s8, s9, jb_mdl I J d e kp nm W, s11] _
    refine jb_if_eq (tgt := 24) (pc' := 12) dX12_then_9 (by decide) rfl (fun _ => ?_) (fun z => absurd (by decide) z)
    refine jb_aload_n (pc' := 25) dX12_then_24 rfl rfl ?_
    refine jb_iconst (pc' := 26) 1 dX12_then_25 (by decide) rfl ?_
    refine jb_callV (pc' := 29) (ci := 12) (q := 105) (As := [.int 1]) (a2 := 0) (b2 := 0) wv_X12_121 rfl dX12_then_26 (c_finds I J d e kp nm W 1 (by decide)) rfl rfl ⟨by decide, Nat.le_of_eq (Nat.zero_add _), Nat.le_of_eq (Nat.zero_add _)⟩ (Nat.le_of_ble_eq_true rfl) rfl (fun r h9 hq => ?_)
    obtain ⟨rfl, rfl⟩ := hq
    show jb_J _ RX12 cX12_then 4 (Option.some .int) false 1 0 0 29 [some (.ref 105), some (.int n), some (.int w), none] [.int (jm_er 1)] [s0, s1, s2, s3, s4, s5, s6, s7, s8, s9, jb_mdl I J d e kp nm (va_up W 0 (jm_ef (W 0) 1)), s11] _
    refine jb_iret dX12_then_29 rfl ?_
    exact ⟨rfl, rfl⟩
set_option maxRecDepth 100000 in
set_option maxHeartbeats 4000000 in
theorem mx_thenShout0 {sc : Nat × (Nat → Int32)} {s0 s1 s2 s3 s4 s5 s6 s7 s8 s9 s11 : List va_E} {V : Nat → Nat → Nat} (I J d e kp nm : Nat → Int32) (W : Nat → Nat → Int32) (hd : jd_ V d) (hk : jv_ok V) {G : jm_G} (hG : jm_Gok G) {d0 : Nat → Int32} (hg : jGm sc d0 G) (hag : ∀ k, 316 ≤ k → d k = d0 k) (n : Nat) (hn : n ≤ 200) (h0 : V 0 0 ≤ 9999) (s : Nat) (hs : s < 40) (hs2 : s < (jm_pa G false n (V, d 7)).1 0 2) : jb_C sc yX12_thenShout cX12_thenShout 6 (Option.some .int) 50 0 0 [.ref 105, .int (nI n), .int (nI s), .int 0] [s0, s1, s2, s3, s4, s5, s6, s7, s8, s9, jb_mdl I J d e kp nm W, s11] (fun r h9 => r = some (.int (nI ((jm_pa G false n (V, d 7)).1 4 s))) ∧ ∃ J9 nm9 d9 e9, (∀ k, k < 490 → d9 k = d k) ∧ h9 = [s0, s1, s2, s3, s4, s5, s6, s7, s8, s9, jb_mdl I J9 d9 e9 kp nm9 W, s11]) := by
  refine jb_CofJ (ini := false) (by decide +kernel) (fun h => by cases h) (Nat.le_of_ble_eq_true rfl) ?_
  show jb_J sc RX12 cX12_thenShout 6 (Option.some .int) false 50 0 0 0 [some (.ref 105), some (.int (nI n)), some (.int (nI s)), some (.int 0), none, none] [] [s0, s1, s2, s3, s4, s5, s6, s7, s8, s9, jb_mdl I J d e kp nm W, s11] _
  have hd0 := hd
  have hk0 := hk
  obtain ⟨e0, e1, e2, e3, e4, e5, e6, dv, ds, dd⟩ := hd
  obtain ⟨k0, k1, k2, k3, k4, k5, k6, k7, kv, ks, kd⟩ := hk
  refine jb_iload_n (pc' := 1) dX12_thenShout_0 rfl rfl ?_
  refine jb_i2l (pc' := 2) dX12_thenShout_1 rfl ?_
  refine jb_lconst (pc' := 3) 0 dX12_thenShout_2 (by decide) rfl ?_
  refine jb_ldc2 (pc' := 6) 200 dX12_thenShout_3 wk_X12_206 rfl ?_
  refine jb_callS (pc' := 9) (As := [.long ((nI n).toInt64), .long 0, .long 200]) (a2 := 0) (b2 := 0) wv_X12_56 dX12_thenShout_6 (c_inLG _ n 0 200 (by omega) (by omega) (by omega)) rfl ⟨by decide, Nat.le_of_eq (Nat.zero_add _), Nat.le_of_eq (Nat.zero_add _)⟩ (Nat.le_of_ble_eq_true rfl) rfl (fun r h9 hq => ?_)
  obtain ⟨rfl, rfl⟩ := hq
  show jb_J _ RX12 cX12_thenShout 6 (Option.some .int) false 50 0 0 9 [some (.ref 105), some (.int (nI n)), some (.int (nI s)), some (.int 0), none, none] [.int 1] [s0, s1, s2, s3, s4, s5, s6, s7, s8, s9, jb_mdl I J d e kp nm W, s11] _
  refine jb_if_eq (tgt := 36) (pc' := 12) dX12_thenShout_9 (by decide) rfl (fun z => absurd z (by decide)) (fun _ => ?_)
  refine jb_iload_n (pc' := 13) dX12_thenShout_12 rfl rfl ?_
  refine jb_i2l (pc' := 14) dX12_thenShout_13 rfl ?_
  refine jb_lconst (pc' := 15) 0 dX12_thenShout_14 (by decide) rfl ?_
  refine jb_ldc2 (pc' := 18) 39 dX12_thenShout_15 wk_X12_60 rfl ?_
  refine jb_callS (pc' := 21) (As := [.long ((nI s).toInt64), .long 0, .long 39]) (a2 := 0) (b2 := 0) wv_X12_56 dX12_thenShout_18 (c_inLG _ s 0 39 (by omega) (by omega) (by omega)) rfl ⟨by decide, Nat.le_of_eq (Nat.zero_add _), Nat.le_of_eq (Nat.zero_add _)⟩ (Nat.le_of_ble_eq_true rfl) rfl (fun r h9 hq => ?_)
  obtain ⟨rfl, rfl⟩ := hq
  show jb_J _ RX12 cX12_thenShout 6 (Option.some .int) false 50 0 0 21 [some (.ref 105), some (.int (nI n)), some (.int (nI s)), some (.int 0), none, none] [.int 1] [s0, s1, s2, s3, s4, s5, s6, s7, s8, s9, jb_mdl I J d e kp nm W, s11] _
  refine jb_if_eq (tgt := 36) (pc' := 24) dX12_thenShout_21 (by decide) rfl (fun z => absurd z (by decide)) (fun _ => ?_)
  refine jb_iload_n (pc' := 25) dX12_thenShout_24 rfl rfl ?_
  refine jb_i2l (pc' := 26) dX12_thenShout_25 rfl ?_
  refine jb_lconst (pc' := 27) 0 dX12_thenShout_26 (by decide) rfl ?_
  refine jb_ldc2 (pc' := 30) 5 dX12_thenShout_27 wk_X12_180 rfl ?_
  refine jb_callS (pc' := 33) (As := [.long ((0 : Int32).toInt64), .long 0, .long 5]) (a2 := 0) (b2 := 0) wv_X12_56 dX12_thenShout_30 (c_inLG _ 0 0 5 (by omega) (by omega) (by omega)) rfl ⟨by decide, Nat.le_of_eq (Nat.zero_add _), Nat.le_of_eq (Nat.zero_add _)⟩ (Nat.le_of_ble_eq_true rfl) rfl (fun r h9 hq => ?_)
  obtain ⟨rfl, rfl⟩ := hq
  show jb_J _ RX12 cX12_thenShout 6 (Option.some .int) false 50 0 0 33 [some (.ref 105), some (.int (nI n)), some (.int (nI s)), some (.int 0), none, none] [.int 1] [s0, s1, s2, s3, s4, s5, s6, s7, s8, s9, jb_mdl I J d e kp nm W, s11] _
  refine jb_if_ne (tgt := 42) (pc' := 36) dX12_thenShout_33 (by decide) rfl (fun _ => ?_) (fun z => absurd z (by decide))
  refine jb_aload_n (pc' := 43) dX12_thenShout_42 rfl rfl ?_
  refine gf_X12_7 (pc' := 46) (v := .ref 106) dX12_thenShout_43 rfl rfl rfl ?_
  refine jb_aload_n (pc' := 47) dX12_thenShout_46 rfl rfl ?_
  refine gf_X12_13 (pc' := 50) (v := .ref 107) dX12_thenShout_47 rfl rfl rfl ?_
  refine jb_callS (pc' := 53) (As := [.ref 106, .ref 107]) (a2 := 0) (b2 := 0) wv_X12_212 dX12_thenShout_50 (c_copies_106_107 I J d e kp nm W) rfl ⟨by decide, Nat.le_of_eq (Nat.zero_add _), Nat.le_of_eq (Nat.zero_add _)⟩ (Nat.le_of_ble_eq_true rfl) rfl (fun r h9 hq => ?_)
  obtain ⟨rfl, e9, he9, rfl⟩ := hq
  show jb_J _ RX12 cX12_thenShout 6 (Option.some .int) false 50 0 0 53 [some (.ref 105), some (.int (nI n)), some (.int (nI s)), some (.int 0), none, none] [] [s0, s1, s2, s3, s4, s5, s6, s7, s8, s9, jb_mdl I J d e9 kp nm W, s11] _
  refine jb_aload_n (pc' := 54) dX12_thenShout_53 rfl rfl ?_
  refine jb_iload_n (pc' := 55) dX12_thenShout_54 rfl rfl ?_
  refine jb_callV (pc' := 58) (ci := 12) (q := 105) (As := [.int (nI n)]) (a2 := 0) (b2 := 0) wv_X12_216 rfl dX12_thenShout_55 (c_goesOn I J d e9 kp nm W hd0 hk0 hG hg hag n (by omega) (by first | omega | exact h2n)) rfl rfl ⟨by decide, Nat.le_of_eq (Nat.zero_add _), Nat.le_of_eq (Nat.zero_add _)⟩ (Nat.le_of_ble_eq_true rfl) rfl (fun r h9 hq => ?_)
  obtain ⟨rfl, J9, nm9, d9, hd9, hz9, hf9, rfl⟩ := hq
  obtain ⟨hk9, hs9⟩ := jv_pa hG false n (V) (d 7) hk0 (by first | omega | exact h2n)
  obtain ⟨V9, hV9⟩ : ∃ X9, (jm_pa G false n (V, d 7)).1 = X9 := ⟨_, rfl⟩
  rw [hV9] at hd9 hk9 hs9
  rw [hV9] at hs2
  have q9 := hk9.2.2.1
  show jb_J _ RX12 cX12_thenShout 6 (Option.some .int) false 50 0 0 58 [some (.ref 105), some (.int (nI n)), some (.int (nI s)), some (.int 0), none, none] [] [s0, s1, s2, s3, s4, s5, s6, s7, s8, s9, jb_mdl I J9 d9 e9 kp nm9 W, s11] _
  refine jb_aload_n (pc' := 59) dX12_thenShout_58 rfl rfl ?_
  refine jb_iload_n (pc' := 60) dX12_thenShout_59 rfl rfl ?_
  refine jb_callV (pc' := 63) (ci := 12) (q := 105) (As := [.int (nI s)]) (a2 := 0) (b2 := 0) wv_X12_177 rfl dX12_thenShout_60 (c_isShoutG I J9 d9 e9 kp nm9 W hd9 hk9 s (by omega)) rfl rfl ⟨by decide, Nat.le_of_eq (Nat.zero_add _), Nat.le_of_eq (Nat.zero_add _)⟩ (Nat.le_of_ble_eq_true rfl) rfl (fun r h9 hq => ?_)
  obtain ⟨rfl, rfl⟩ := hq
  show jb_J _ RX12 cX12_thenShout 6 (Option.some .int) false 50 0 0 63 [some (.ref 105), some (.int (nI n)), some (.int (nI s)), some (.int 0), none, none] [.int 1] [s0, s1, s2, s3, s4, s5, s6, s7, s8, s9, jb_mdl I J9 d9 e9 kp nm9 W, s11] _
  refine jb_istore_ (pc' := 65) dX12_thenShout_63 (by decide) (jb_at4 rfl) rfl ?_
  refine jb_iload (pc' := 67) dX12_thenShout_65 rfl rfl ?_
  refine jb_if_eq (tgt := 79) (pc' := 70) dX12_thenShout_67 (by decide) rfl (fun z => absurd z (by decide)) (fun _ => ?_)
  refine jb_aload_n (pc' := 71) dX12_thenShout_70 rfl rfl ?_
  refine jb_iload_n (pc' := 72) dX12_thenShout_71 rfl rfl ?_
  refine jb_iload_n (pc' := 73) dX12_thenShout_72 rfl rfl ?_
  refine jb_callV (pc' := 76) (ci := 12) (q := 105) (As := [.int (nI s), .int 0]) (a2 := 0) (b2 := 0) wv_X12_182 rfl dX12_thenShout_73 (c_ofIt0 I J9 d9 e9 kp nm9 W hd9 hk9 s (by omega)) rfl rfl ⟨by decide, Nat.le_of_eq (Nat.zero_add _), Nat.le_of_eq (Nat.zero_add _)⟩ (Nat.le_of_ble_eq_true rfl) rfl (fun r h9 hq => ?_)
  obtain ⟨rfl, rfl⟩ := hq
  show jb_J _ RX12 cX12_thenShout 6 (Option.some .int) false 50 0 0 76 [some (.ref 105), some (.int (nI n)), some (.int (nI s)), some (.int 0), some (.int 1), none] [.int (nI (V9 4 s))] [s0, s1, s2, s3, s4, s5, s6, s7, s8, s9, jb_mdl I J9 d9 e9 kp nm9 W, s11] _
  refine jb_goto (pc' := 80) dX12_thenShout_76 (by decide) ?_
  refine jb_istore_ (pc' := 82) dX12_thenShout_80 (by decide) (jb_at5 rfl) rfl ?_
  refine jb_aload_n (pc' := 83) dX12_thenShout_82 rfl rfl ?_
  refine gf_X12_13 (pc' := 86) (v := .ref 107) dX12_thenShout_83 rfl rfl rfl ?_
  refine jb_aload_n (pc' := 87) dX12_thenShout_86 rfl rfl ?_
  refine gf_X12_7 (pc' := 90) (v := .ref 106) dX12_thenShout_87 rfl rfl rfl ?_
  refine jb_callS (pc' := 93) (As := [.ref 107, .ref 106]) (a2 := 0) (b2 := 0) wv_X12_212 dX12_thenShout_90 (c_copies_107_106 I J9 d9 e9 kp nm9 W) rfl ⟨by decide, Nat.le_of_eq (Nat.zero_add _), Nat.le_of_eq (Nat.zero_add _)⟩ (Nat.le_of_ble_eq_true rfl) rfl (fun r h9 hq => ?_)
  obtain ⟨rfl, d8, hd8, rfl⟩ := hq
  show jb_J _ RX12 cX12_thenShout 6 (Option.some .int) false 50 0 0 93 [some (.ref 105), some (.int (nI n)), some (.int (nI s)), some (.int 0), some (.int 1), some (.int (nI (V9 4 s)))] [] [s0, s1, s2, s3, s4, s5, s6, s7, s8, s9, jb_mdl I J9 d8 e9 kp nm9 W, s11] _
  refine jb_iload (pc' := 95) dX12_thenShout_93 rfl rfl ?_
  refine jb_if_eq (tgt := 103) (pc' := 98) dX12_thenShout_95 (by decide) rfl (fun z => absurd z (by decide)) (fun _ => ?_)
  refine jb_iload (pc' := 100) dX12_thenShout_98 rfl rfl ?_
  refine jb_goto (pc' := 108) dX12_thenShout_100 (by decide) ?_
  refine jb_iret dX12_thenShout_108 rfl ?_
  refine ⟨by rw [hV9], J9, nm9, d8, e9, fun k hk => (hd8 k hk).trans (he9 k hk), rfl⟩
set_option maxRecDepth 100000 in
set_option maxHeartbeats 4000000 in
theorem mx_thenShout1 {sc : Nat × (Nat → Int32)} {s0 s1 s2 s3 s4 s5 s6 s7 s8 s9 s11 : List va_E} {V : Nat → Nat → Nat} (I J d e kp nm : Nat → Int32) (W : Nat → Nat → Int32) (hd : jd_ V d) (hk : jv_ok V) {G : jm_G} (hG : jm_Gok G) {d0 : Nat → Int32} (hg : jGm sc d0 G) (hag : ∀ k, 316 ≤ k → d k = d0 k) (n : Nat) (hn : n ≤ 200) (h0 : V 0 0 ≤ 9999) (s : Nat) (hs : s < 40) (hs2 : s < (jm_pa G false n (V, d 7)).1 0 2) : jb_C sc yX12_thenShout cX12_thenShout 6 (Option.some .int) 50 0 0 [.ref 105, .int (nI n), .int (nI s), .int 1] [s0, s1, s2, s3, s4, s5, s6, s7, s8, s9, jb_mdl I J d e kp nm W, s11] (fun r h9 => r = some (.int (nI ((jm_pa G false n (V, d 7)).1 5 s))) ∧ ∃ J9 nm9 d9 e9, (∀ k, k < 490 → d9 k = d k) ∧ h9 = [s0, s1, s2, s3, s4, s5, s6, s7, s8, s9, jb_mdl I J9 d9 e9 kp nm9 W, s11]) := by
  refine jb_CofJ (ini := false) (by decide +kernel) (fun h => by cases h) (Nat.le_of_ble_eq_true rfl) ?_
  show jb_J sc RX12 cX12_thenShout 6 (Option.some .int) false 50 0 0 0 [some (.ref 105), some (.int (nI n)), some (.int (nI s)), some (.int 1), none, none] [] [s0, s1, s2, s3, s4, s5, s6, s7, s8, s9, jb_mdl I J d e kp nm W, s11] _
  have hd0 := hd
  have hk0 := hk
  obtain ⟨e0, e1, e2, e3, e4, e5, e6, dv, ds, dd⟩ := hd
  obtain ⟨k0, k1, k2, k3, k4, k5, k6, k7, kv, ks, kd⟩ := hk
  refine jb_iload_n (pc' := 1) dX12_thenShout_0 rfl rfl ?_
  refine jb_i2l (pc' := 2) dX12_thenShout_1 rfl ?_
  refine jb_lconst (pc' := 3) 0 dX12_thenShout_2 (by decide) rfl ?_
  refine jb_ldc2 (pc' := 6) 200 dX12_thenShout_3 wk_X12_206 rfl ?_
  refine jb_callS (pc' := 9) (As := [.long ((nI n).toInt64), .long 0, .long 200]) (a2 := 0) (b2 := 0) wv_X12_56 dX12_thenShout_6 (c_inLG _ n 0 200 (by omega) (by omega) (by omega)) rfl ⟨by decide, Nat.le_of_eq (Nat.zero_add _), Nat.le_of_eq (Nat.zero_add _)⟩ (Nat.le_of_ble_eq_true rfl) rfl (fun r h9 hq => ?_)
  obtain ⟨rfl, rfl⟩ := hq
  show jb_J _ RX12 cX12_thenShout 6 (Option.some .int) false 50 0 0 9 [some (.ref 105), some (.int (nI n)), some (.int (nI s)), some (.int 1), none, none] [.int 1] [s0, s1, s2, s3, s4, s5, s6, s7, s8, s9, jb_mdl I J d e kp nm W, s11] _
  refine jb_if_eq (tgt := 36) (pc' := 12) dX12_thenShout_9 (by decide) rfl (fun z => absurd z (by decide)) (fun _ => ?_)
  refine jb_iload_n (pc' := 13) dX12_thenShout_12 rfl rfl ?_
  refine jb_i2l (pc' := 14) dX12_thenShout_13 rfl ?_
  refine jb_lconst (pc' := 15) 0 dX12_thenShout_14 (by decide) rfl ?_
  refine jb_ldc2 (pc' := 18) 39 dX12_thenShout_15 wk_X12_60 rfl ?_
  refine jb_callS (pc' := 21) (As := [.long ((nI s).toInt64), .long 0, .long 39]) (a2 := 0) (b2 := 0) wv_X12_56 dX12_thenShout_18 (c_inLG _ s 0 39 (by omega) (by omega) (by omega)) rfl ⟨by decide, Nat.le_of_eq (Nat.zero_add _), Nat.le_of_eq (Nat.zero_add _)⟩ (Nat.le_of_ble_eq_true rfl) rfl (fun r h9 hq => ?_)
  obtain ⟨rfl, rfl⟩ := hq
  show jb_J _ RX12 cX12_thenShout 6 (Option.some .int) false 50 0 0 21 [some (.ref 105), some (.int (nI n)), some (.int (nI s)), some (.int 1), none, none] [.int 1] [s0, s1, s2, s3, s4, s5, s6, s7, s8, s9, jb_mdl I J d e kp nm W, s11] _
  refine jb_if_eq (tgt := 36) (pc' := 24) dX12_thenShout_21 (by decide) rfl (fun z => absurd z (by decide)) (fun _ => ?_)
  refine jb_iload_n (pc' := 25) dX12_thenShout_24 rfl rfl ?_
  refine jb_i2l (pc' := 26) dX12_thenShout_25 rfl ?_
  refine jb_lconst (pc' := 27) 0 dX12_thenShout_26 (by decide) rfl ?_
  refine jb_ldc2 (pc' := 30) 5 dX12_thenShout_27 wk_X12_180 rfl ?_
  refine jb_callS (pc' := 33) (As := [.long ((1 : Int32).toInt64), .long 0, .long 5]) (a2 := 0) (b2 := 0) wv_X12_56 dX12_thenShout_30 (c_inLG _ 1 0 5 (by omega) (by omega) (by omega)) rfl ⟨by decide, Nat.le_of_eq (Nat.zero_add _), Nat.le_of_eq (Nat.zero_add _)⟩ (Nat.le_of_ble_eq_true rfl) rfl (fun r h9 hq => ?_)
  obtain ⟨rfl, rfl⟩ := hq
  show jb_J _ RX12 cX12_thenShout 6 (Option.some .int) false 50 0 0 33 [some (.ref 105), some (.int (nI n)), some (.int (nI s)), some (.int 1), none, none] [.int 1] [s0, s1, s2, s3, s4, s5, s6, s7, s8, s9, jb_mdl I J d e kp nm W, s11] _
  refine jb_if_ne (tgt := 42) (pc' := 36) dX12_thenShout_33 (by decide) rfl (fun _ => ?_) (fun z => absurd z (by decide))
  refine jb_aload_n (pc' := 43) dX12_thenShout_42 rfl rfl ?_
  refine gf_X12_7 (pc' := 46) (v := .ref 106) dX12_thenShout_43 rfl rfl rfl ?_
  refine jb_aload_n (pc' := 47) dX12_thenShout_46 rfl rfl ?_
  refine gf_X12_13 (pc' := 50) (v := .ref 107) dX12_thenShout_47 rfl rfl rfl ?_
  refine jb_callS (pc' := 53) (As := [.ref 106, .ref 107]) (a2 := 0) (b2 := 0) wv_X12_212 dX12_thenShout_50 (c_copies_106_107 I J d e kp nm W) rfl ⟨by decide, Nat.le_of_eq (Nat.zero_add _), Nat.le_of_eq (Nat.zero_add _)⟩ (Nat.le_of_ble_eq_true rfl) rfl (fun r h9 hq => ?_)
  obtain ⟨rfl, e9, he9, rfl⟩ := hq
  show jb_J _ RX12 cX12_thenShout 6 (Option.some .int) false 50 0 0 53 [some (.ref 105), some (.int (nI n)), some (.int (nI s)), some (.int 1), none, none] [] [s0, s1, s2, s3, s4, s5, s6, s7, s8, s9, jb_mdl I J d e9 kp nm W, s11] _
  refine jb_aload_n (pc' := 54) dX12_thenShout_53 rfl rfl ?_
  refine jb_iload_n (pc' := 55) dX12_thenShout_54 rfl rfl ?_
  refine jb_callV (pc' := 58) (ci := 12) (q := 105) (As := [.int (nI n)]) (a2 := 0) (b2 := 0) wv_X12_216 rfl dX12_thenShout_55 (c_goesOn I J d e9 kp nm W hd0 hk0 hG hg hag n (by omega) (by first | omega | exact h2n)) rfl rfl ⟨by decide, Nat.le_of_eq (Nat.zero_add _), Nat.le_of_eq (Nat.zero_add _)⟩ (Nat.le_of_ble_eq_true rfl) rfl (fun r h9 hq => ?_)
  obtain ⟨rfl, J9, nm9, d9, hd9, hz9, hf9, rfl⟩ := hq
  obtain ⟨hk9, hs9⟩ := jv_pa hG false n (V) (d 7) hk0 (by first | omega | exact h2n)
  obtain ⟨V9, hV9⟩ : ∃ X9, (jm_pa G false n (V, d 7)).1 = X9 := ⟨_, rfl⟩
  rw [hV9] at hd9 hk9 hs9
  rw [hV9] at hs2
  have q9 := hk9.2.2.1
  show jb_J _ RX12 cX12_thenShout 6 (Option.some .int) false 50 0 0 58 [some (.ref 105), some (.int (nI n)), some (.int (nI s)), some (.int 1), none, none] [] [s0, s1, s2, s3, s4, s5, s6, s7, s8, s9, jb_mdl I J9 d9 e9 kp nm9 W, s11] _
  refine jb_aload_n (pc' := 59) dX12_thenShout_58 rfl rfl ?_
  refine jb_iload_n (pc' := 60) dX12_thenShout_59 rfl rfl ?_
  refine jb_callV (pc' := 63) (ci := 12) (q := 105) (As := [.int (nI s)]) (a2 := 0) (b2 := 0) wv_X12_177 rfl dX12_thenShout_60 (c_isShoutG I J9 d9 e9 kp nm9 W hd9 hk9 s (by omega)) rfl rfl ⟨by decide, Nat.le_of_eq (Nat.zero_add _), Nat.le_of_eq (Nat.zero_add _)⟩ (Nat.le_of_ble_eq_true rfl) rfl (fun r h9 hq => ?_)
  obtain ⟨rfl, rfl⟩ := hq
  show jb_J _ RX12 cX12_thenShout 6 (Option.some .int) false 50 0 0 63 [some (.ref 105), some (.int (nI n)), some (.int (nI s)), some (.int 1), none, none] [.int 1] [s0, s1, s2, s3, s4, s5, s6, s7, s8, s9, jb_mdl I J9 d9 e9 kp nm9 W, s11] _
  refine jb_istore_ (pc' := 65) dX12_thenShout_63 (by decide) (jb_at4 rfl) rfl ?_
  refine jb_iload (pc' := 67) dX12_thenShout_65 rfl rfl ?_
  refine jb_if_eq (tgt := 79) (pc' := 70) dX12_thenShout_67 (by decide) rfl (fun z => absurd z (by decide)) (fun _ => ?_)
  refine jb_aload_n (pc' := 71) dX12_thenShout_70 rfl rfl ?_
  refine jb_iload_n (pc' := 72) dX12_thenShout_71 rfl rfl ?_
  refine jb_iload_n (pc' := 73) dX12_thenShout_72 rfl rfl ?_
  refine jb_callV (pc' := 76) (ci := 12) (q := 105) (As := [.int (nI s), .int 1]) (a2 := 0) (b2 := 0) wv_X12_182 rfl dX12_thenShout_73 (c_ofIt1 I J9 d9 e9 kp nm9 W hd9 hk9 s (by omega)) rfl rfl ⟨by decide, Nat.le_of_eq (Nat.zero_add _), Nat.le_of_eq (Nat.zero_add _)⟩ (Nat.le_of_ble_eq_true rfl) rfl (fun r h9 hq => ?_)
  obtain ⟨rfl, rfl⟩ := hq
  show jb_J _ RX12 cX12_thenShout 6 (Option.some .int) false 50 0 0 76 [some (.ref 105), some (.int (nI n)), some (.int (nI s)), some (.int 1), some (.int 1), none] [.int (nI (V9 5 s))] [s0, s1, s2, s3, s4, s5, s6, s7, s8, s9, jb_mdl I J9 d9 e9 kp nm9 W, s11] _
  refine jb_goto (pc' := 80) dX12_thenShout_76 (by decide) ?_
  refine jb_istore_ (pc' := 82) dX12_thenShout_80 (by decide) (jb_at5 rfl) rfl ?_
  refine jb_aload_n (pc' := 83) dX12_thenShout_82 rfl rfl ?_
  refine gf_X12_13 (pc' := 86) (v := .ref 107) dX12_thenShout_83 rfl rfl rfl ?_
  refine jb_aload_n (pc' := 87) dX12_thenShout_86 rfl rfl ?_
  refine gf_X12_7 (pc' := 90) (v := .ref 106) dX12_thenShout_87 rfl rfl rfl ?_
  refine jb_callS (pc' := 93) (As := [.ref 107, .ref 106]) (a2 := 0) (b2 := 0) wv_X12_212 dX12_thenShout_90 (c_copies_107_106 I J9 d9 e9 kp nm9 W) rfl ⟨by decide, Nat.le_of_eq (Nat.zero_add _), Nat.le_of_eq (Nat.zero_add _)⟩ (Nat.le_of_ble_eq_true rfl) rfl (fun r h9 hq => ?_)
  obtain ⟨rfl, d8, hd8, rfl⟩ := hq
  show jb_J _ RX12 cX12_thenShout 6 (Option.some .int) false 50 0 0 93 [some (.ref 105), some (.int (nI n)), some (.int (nI s)), some (.int 1), some (.int 1), some (.int (nI (V9 5 s)))] [] [s0, s1, s2, s3, s4, s5, s6, s7, s8, s9, jb_mdl I J9 d8 e9 kp nm9 W, s11] _
  refine jb_iload (pc' := 95) dX12_thenShout_93 rfl rfl ?_
  refine jb_if_eq (tgt := 103) (pc' := 98) dX12_thenShout_95 (by decide) rfl (fun z => absurd z (by decide)) (fun _ => ?_)
  refine jb_iload (pc' := 100) dX12_thenShout_98 rfl rfl ?_
  refine jb_goto (pc' := 108) dX12_thenShout_100 (by decide) ?_
  refine jb_iret dX12_thenShout_108 rfl ?_
  refine ⟨by rw [hV9], J9, nm9, d8, e9, fun k hk => (hd8 k hk).trans (he9 k hk), rfl⟩
set_option maxRecDepth 100000 in
set_option maxHeartbeats 4000000 in
theorem mx_thenShout2 {sc : Nat × (Nat → Int32)} {s0 s1 s2 s3 s4 s5 s6 s7 s8 s9 s11 : List va_E} {V : Nat → Nat → Nat} (I J d e kp nm : Nat → Int32) (W : Nat → Nat → Int32) (hd : jd_ V d) (hk : jv_ok V) {G : jm_G} (hG : jm_Gok G) {d0 : Nat → Int32} (hg : jGm sc d0 G) (hag : ∀ k, 316 ≤ k → d k = d0 k) (n : Nat) (hn : n ≤ 200) (h0 : V 0 0 ≤ 9999) (s : Nat) (hs : s < 40) (hs2 : s < (jm_pa G false n (V, d 7)).1 0 2) : jb_C sc yX12_thenShout cX12_thenShout 6 (Option.some .int) 50 0 0 [.ref 105, .int (nI n), .int (nI s), .int 2] [s0, s1, s2, s3, s4, s5, s6, s7, s8, s9, jb_mdl I J d e kp nm W, s11] (fun r h9 => r = some (.int (nI ((jm_pa G false n (V, d 7)).1 6 s))) ∧ ∃ J9 nm9 d9 e9, (∀ k, k < 490 → d9 k = d k) ∧ h9 = [s0, s1, s2, s3, s4, s5, s6, s7, s8, s9, jb_mdl I J9 d9 e9 kp nm9 W, s11]) := by
  refine jb_CofJ (ini := false) (by decide +kernel) (fun h => by cases h) (Nat.le_of_ble_eq_true rfl) ?_
  show jb_J sc RX12 cX12_thenShout 6 (Option.some .int) false 50 0 0 0 [some (.ref 105), some (.int (nI n)), some (.int (nI s)), some (.int 2), none, none] [] [s0, s1, s2, s3, s4, s5, s6, s7, s8, s9, jb_mdl I J d e kp nm W, s11] _
  have hd0 := hd
  have hk0 := hk
  obtain ⟨e0, e1, e2, e3, e4, e5, e6, dv, ds, dd⟩ := hd
  obtain ⟨k0, k1, k2, k3, k4, k5, k6, k7, kv, ks, kd⟩ := hk
  refine jb_iload_n (pc' := 1) dX12_thenShout_0 rfl rfl ?_
  refine jb_i2l (pc' := 2) dX12_thenShout_1 rfl ?_
  refine jb_lconst (pc' := 3) 0 dX12_thenShout_2 (by decide) rfl ?_
  refine jb_ldc2 (pc' := 6) 200 dX12_thenShout_3 wk_X12_206 rfl ?_
  refine jb_callS (pc' := 9) (As := [.long ((nI n).toInt64), .long 0, .long 200]) (a2 := 0) (b2 := 0) wv_X12_56 dX12_thenShout_6 (c_inLG _ n 0 200 (by omega) (by omega) (by omega)) rfl ⟨by decide, Nat.le_of_eq (Nat.zero_add _), Nat.le_of_eq (Nat.zero_add _)⟩ (Nat.le_of_ble_eq_true rfl) rfl (fun r h9 hq => ?_)
  obtain ⟨rfl, rfl⟩ := hq
  show jb_J _ RX12 cX12_thenShout 6 (Option.some .int) false 50 0 0 9 [some (.ref 105), some (.int (nI n)), some (.int (nI s)), some (.int 2), none, none] [.int 1] [s0, s1, s2, s3, s4, s5, s6, s7, s8, s9, jb_mdl I J d e kp nm W, s11] _
  refine jb_if_eq (tgt := 36) (pc' := 12) dX12_thenShout_9 (by decide) rfl (fun z => absurd z (by decide)) (fun _ => ?_)
  refine jb_iload_n (pc' := 13) dX12_thenShout_12 rfl rfl ?_
  refine jb_i2l (pc' := 14) dX12_thenShout_13 rfl ?_
  refine jb_lconst (pc' := 15) 0 dX12_thenShout_14 (by decide) rfl ?_
  refine jb_ldc2 (pc' := 18) 39 dX12_thenShout_15 wk_X12_60 rfl ?_
  refine jb_callS (pc' := 21) (As := [.long ((nI s).toInt64), .long 0, .long 39]) (a2 := 0) (b2 := 0) wv_X12_56 dX12_thenShout_18 (c_inLG _ s 0 39 (by omega) (by omega) (by omega)) rfl ⟨by decide, Nat.le_of_eq (Nat.zero_add _), Nat.le_of_eq (Nat.zero_add _)⟩ (Nat.le_of_ble_eq_true rfl) rfl (fun r h9 hq => ?_)
  obtain ⟨rfl, rfl⟩ := hq
  show jb_J _ RX12 cX12_thenShout 6 (Option.some .int) false 50 0 0 21 [some (.ref 105), some (.int (nI n)), some (.int (nI s)), some (.int 2), none, none] [.int 1] [s0, s1, s2, s3, s4, s5, s6, s7, s8, s9, jb_mdl I J d e kp nm W, s11] _
  refine jb_if_eq (tgt := 36) (pc' := 24) dX12_thenShout_21 (by decide) rfl (fun z => absurd z (by decide)) (fun _ => ?_)
  refine jb_iload_n (pc' := 25) dX12_thenShout_24 rfl rfl ?_
  refine jb_i2l (pc' := 26) dX12_thenShout_25 rfl ?_
  refine jb_lconst (pc' := 27) 0 dX12_thenShout_26 (by decide) rfl ?_
  refine jb_ldc2 (pc' := 30) 5 dX12_thenShout_27 wk_X12_180 rfl ?_
  refine jb_callS (pc' := 33) (As := [.long ((2 : Int32).toInt64), .long 0, .long 5]) (a2 := 0) (b2 := 0) wv_X12_56 dX12_thenShout_30 (c_inLG _ 2 0 5 (by omega) (by omega) (by omega)) rfl ⟨by decide, Nat.le_of_eq (Nat.zero_add _), Nat.le_of_eq (Nat.zero_add _)⟩ (Nat.le_of_ble_eq_true rfl) rfl (fun r h9 hq => ?_)
  obtain ⟨rfl, rfl⟩ := hq
  show jb_J _ RX12 cX12_thenShout 6 (Option.some .int) false 50 0 0 33 [some (.ref 105), some (.int (nI n)), some (.int (nI s)), some (.int 2), none, none] [.int 1] [s0, s1, s2, s3, s4, s5, s6, s7, s8, s9, jb_mdl I J d e kp nm W, s11] _
  refine jb_if_ne (tgt := 42) (pc' := 36) dX12_thenShout_33 (by decide) rfl (fun _ => ?_) (fun z => absurd z (by decide))
  refine jb_aload_n (pc' := 43) dX12_thenShout_42 rfl rfl ?_
  refine gf_X12_7 (pc' := 46) (v := .ref 106) dX12_thenShout_43 rfl rfl rfl ?_
  refine jb_aload_n (pc' := 47) dX12_thenShout_46 rfl rfl ?_
  refine gf_X12_13 (pc' := 50) (v := .ref 107) dX12_thenShout_47 rfl rfl rfl ?_
  refine jb_callS (pc' := 53) (As := [.ref 106, .ref 107]) (a2 := 0) (b2 := 0) wv_X12_212 dX12_thenShout_50 (c_copies_106_107 I J d e kp nm W) rfl ⟨by decide, Nat.le_of_eq (Nat.zero_add _), Nat.le_of_eq (Nat.zero_add _)⟩ (Nat.le_of_ble_eq_true rfl) rfl (fun r h9 hq => ?_)
  obtain ⟨rfl, e9, he9, rfl⟩ := hq
  show jb_J _ RX12 cX12_thenShout 6 (Option.some .int) false 50 0 0 53 [some (.ref 105), some (.int (nI n)), some (.int (nI s)), some (.int 2), none, none] [] [s0, s1, s2, s3, s4, s5, s6, s7, s8, s9, jb_mdl I J d e9 kp nm W, s11] _
  refine jb_aload_n (pc' := 54) dX12_thenShout_53 rfl rfl ?_
  refine jb_iload_n (pc' := 55) dX12_thenShout_54 rfl rfl ?_
  refine jb_callV (pc' := 58) (ci := 12) (q := 105) (As := [.int (nI n)]) (a2 := 0) (b2 := 0) wv_X12_216 rfl dX12_thenShout_55 (c_goesOn I J d e9 kp nm W hd0 hk0 hG hg hag n (by omega) (by first | omega | exact h2n)) rfl rfl ⟨by decide, Nat.le_of_eq (Nat.zero_add _), Nat.le_of_eq (Nat.zero_add _)⟩ (Nat.le_of_ble_eq_true rfl) rfl (fun r h9 hq => ?_)
  obtain ⟨rfl, J9, nm9, d9, hd9, hz9, hf9, rfl⟩ := hq
  obtain ⟨hk9, hs9⟩ := jv_pa hG false n (V) (d 7) hk0 (by first | omega | exact h2n)
  obtain ⟨V9, hV9⟩ : ∃ X9, (jm_pa G false n (V, d 7)).1 = X9 := ⟨_, rfl⟩
  rw [hV9] at hd9 hk9 hs9
  rw [hV9] at hs2
  have q9 := hk9.2.2.1
  show jb_J _ RX12 cX12_thenShout 6 (Option.some .int) false 50 0 0 58 [some (.ref 105), some (.int (nI n)), some (.int (nI s)), some (.int 2), none, none] [] [s0, s1, s2, s3, s4, s5, s6, s7, s8, s9, jb_mdl I J9 d9 e9 kp nm9 W, s11] _
  refine jb_aload_n (pc' := 59) dX12_thenShout_58 rfl rfl ?_
  refine jb_iload_n (pc' := 60) dX12_thenShout_59 rfl rfl ?_
  refine jb_callV (pc' := 63) (ci := 12) (q := 105) (As := [.int (nI s)]) (a2 := 0) (b2 := 0) wv_X12_177 rfl dX12_thenShout_60 (c_isShoutG I J9 d9 e9 kp nm9 W hd9 hk9 s (by omega)) rfl rfl ⟨by decide, Nat.le_of_eq (Nat.zero_add _), Nat.le_of_eq (Nat.zero_add _)⟩ (Nat.le_of_ble_eq_true rfl) rfl (fun r h9 hq => ?_)
  obtain ⟨rfl, rfl⟩ := hq
  show jb_J _ RX12 cX12_thenShout 6 (Option.some .int) false 50 0 0 63 [some (.ref 105), some (.int (nI n)), some (.int (nI s)), some (.int 2), none, none] [.int 1] [s0, s1, s2, s3, s4, s5, s6, s7, s8, s9, jb_mdl I J9 d9 e9 kp nm9 W, s11] _
  refine jb_istore_ (pc' := 65) dX12_thenShout_63 (by decide) (jb_at4 rfl) rfl ?_
  refine jb_iload (pc' := 67) dX12_thenShout_65 rfl rfl ?_
  refine jb_if_eq (tgt := 79) (pc' := 70) dX12_thenShout_67 (by decide) rfl (fun z => absurd z (by decide)) (fun _ => ?_)
  refine jb_aload_n (pc' := 71) dX12_thenShout_70 rfl rfl ?_
  refine jb_iload_n (pc' := 72) dX12_thenShout_71 rfl rfl ?_
  refine jb_iload_n (pc' := 73) dX12_thenShout_72 rfl rfl ?_
  refine jb_callV (pc' := 76) (ci := 12) (q := 105) (As := [.int (nI s), .int 2]) (a2 := 0) (b2 := 0) wv_X12_182 rfl dX12_thenShout_73 (c_ofIt2 I J9 d9 e9 kp nm9 W hd9 hk9 s (by omega)) rfl rfl ⟨by decide, Nat.le_of_eq (Nat.zero_add _), Nat.le_of_eq (Nat.zero_add _)⟩ (Nat.le_of_ble_eq_true rfl) rfl (fun r h9 hq => ?_)
  obtain ⟨rfl, rfl⟩ := hq
  show jb_J _ RX12 cX12_thenShout 6 (Option.some .int) false 50 0 0 76 [some (.ref 105), some (.int (nI n)), some (.int (nI s)), some (.int 2), some (.int 1), none] [.int (nI (V9 6 s))] [s0, s1, s2, s3, s4, s5, s6, s7, s8, s9, jb_mdl I J9 d9 e9 kp nm9 W, s11] _
  refine jb_goto (pc' := 80) dX12_thenShout_76 (by decide) ?_
  refine jb_istore_ (pc' := 82) dX12_thenShout_80 (by decide) (jb_at5 rfl) rfl ?_
  refine jb_aload_n (pc' := 83) dX12_thenShout_82 rfl rfl ?_
  refine gf_X12_13 (pc' := 86) (v := .ref 107) dX12_thenShout_83 rfl rfl rfl ?_
  refine jb_aload_n (pc' := 87) dX12_thenShout_86 rfl rfl ?_
  refine gf_X12_7 (pc' := 90) (v := .ref 106) dX12_thenShout_87 rfl rfl rfl ?_
  refine jb_callS (pc' := 93) (As := [.ref 107, .ref 106]) (a2 := 0) (b2 := 0) wv_X12_212 dX12_thenShout_90 (c_copies_107_106 I J9 d9 e9 kp nm9 W) rfl ⟨by decide, Nat.le_of_eq (Nat.zero_add _), Nat.le_of_eq (Nat.zero_add _)⟩ (Nat.le_of_ble_eq_true rfl) rfl (fun r h9 hq => ?_)
  obtain ⟨rfl, d8, hd8, rfl⟩ := hq
  show jb_J _ RX12 cX12_thenShout 6 (Option.some .int) false 50 0 0 93 [some (.ref 105), some (.int (nI n)), some (.int (nI s)), some (.int 2), some (.int 1), some (.int (nI (V9 6 s)))] [] [s0, s1, s2, s3, s4, s5, s6, s7, s8, s9, jb_mdl I J9 d8 e9 kp nm9 W, s11] _
  refine jb_iload (pc' := 95) dX12_thenShout_93 rfl rfl ?_
  refine jb_if_eq (tgt := 103) (pc' := 98) dX12_thenShout_95 (by decide) rfl (fun z => absurd z (by decide)) (fun _ => ?_)
  refine jb_iload (pc' := 100) dX12_thenShout_98 rfl rfl ?_
  refine jb_goto (pc' := 108) dX12_thenShout_100 (by decide) ?_
  refine jb_iret dX12_thenShout_108 rfl ?_
  refine ⟨by rw [hV9], J9, nm9, d8, e9, fun k hk => (hd8 k hk).trans (he9 k hk), rfl⟩
set_option maxRecDepth 100000 in
set_option maxHeartbeats 4000000 in
theorem mx_thenShout3 {sc : Nat × (Nat → Int32)} {s0 s1 s2 s3 s4 s5 s6 s7 s8 s9 s11 : List va_E} {V : Nat → Nat → Nat} (I J d e kp nm : Nat → Int32) (W : Nat → Nat → Int32) (hd : jd_ V d) (hk : jv_ok V) {G : jm_G} (hG : jm_Gok G) {d0 : Nat → Int32} (hg : jGm sc d0 G) (hag : ∀ k, 316 ≤ k → d k = d0 k) (n : Nat) (hn : n ≤ 200) (h0 : V 0 0 ≤ 9999) (s : Nat) (hs : s < 40) (hs2 : s < (jm_pa G false n (V, d 7)).1 0 2) : jb_C sc yX12_thenShout cX12_thenShout 6 (Option.some .int) 50 0 0 [.ref 105, .int (nI n), .int (nI s), .int 3] [s0, s1, s2, s3, s4, s5, s6, s7, s8, s9, jb_mdl I J d e kp nm W, s11] (fun r h9 => r = some (.int (nI ((jm_pa G false n (V, d 7)).1 7 s))) ∧ ∃ J9 nm9 d9 e9, (∀ k, k < 490 → d9 k = d k) ∧ h9 = [s0, s1, s2, s3, s4, s5, s6, s7, s8, s9, jb_mdl I J9 d9 e9 kp nm9 W, s11]) := by
  refine jb_CofJ (ini := false) (by decide +kernel) (fun h => by cases h) (Nat.le_of_ble_eq_true rfl) ?_
  show jb_J sc RX12 cX12_thenShout 6 (Option.some .int) false 50 0 0 0 [some (.ref 105), some (.int (nI n)), some (.int (nI s)), some (.int 3), none, none] [] [s0, s1, s2, s3, s4, s5, s6, s7, s8, s9, jb_mdl I J d e kp nm W, s11] _
  have hd0 := hd
  have hk0 := hk
  obtain ⟨e0, e1, e2, e3, e4, e5, e6, dv, ds, dd⟩ := hd
  obtain ⟨k0, k1, k2, k3, k4, k5, k6, k7, kv, ks, kd⟩ := hk
  refine jb_iload_n (pc' := 1) dX12_thenShout_0 rfl rfl ?_
  refine jb_i2l (pc' := 2) dX12_thenShout_1 rfl ?_
  refine jb_lconst (pc' := 3) 0 dX12_thenShout_2 (by decide) rfl ?_
  refine jb_ldc2 (pc' := 6) 200 dX12_thenShout_3 wk_X12_206 rfl ?_
  refine jb_callS (pc' := 9) (As := [.long ((nI n).toInt64), .long 0, .long 200]) (a2 := 0) (b2 := 0) wv_X12_56 dX12_thenShout_6 (c_inLG _ n 0 200 (by omega) (by omega) (by omega)) rfl ⟨by decide, Nat.le_of_eq (Nat.zero_add _), Nat.le_of_eq (Nat.zero_add _)⟩ (Nat.le_of_ble_eq_true rfl) rfl (fun r h9 hq => ?_)
  obtain ⟨rfl, rfl⟩ := hq
  show jb_J _ RX12 cX12_thenShout 6 (Option.some .int) false 50 0 0 9 [some (.ref 105), some (.int (nI n)), some (.int (nI s)), some (.int 3), none, none] [.int 1] [s0, s1, s2, s3, s4, s5, s6, s7, s8, s9, jb_mdl I J d e kp nm W, s11] _
  refine jb_if_eq (tgt := 36) (pc' := 12) dX12_thenShout_9 (by decide) rfl (fun z => absurd z (by decide)) (fun _ => ?_)
  refine jb_iload_n (pc' := 13) dX12_thenShout_12 rfl rfl ?_
  refine jb_i2l (pc' := 14) dX12_thenShout_13 rfl ?_
  refine jb_lconst (pc' := 15) 0 dX12_thenShout_14 (by decide) rfl ?_
  refine jb_ldc2 (pc' := 18) 39 dX12_thenShout_15 wk_X12_60 rfl ?_
  refine jb_callS (pc' := 21) (As := [.long ((nI s).toInt64), .long 0, .long 39]) (a2 := 0) (b2 := 0) wv_X12_56 dX12_thenShout_18 (c_inLG _ s 0 39 (by omega) (by omega) (by omega)) rfl ⟨by decide, Nat.le_of_eq (Nat.zero_add _), Nat.le_of_eq (Nat.zero_add _)⟩ (Nat.le_of_ble_eq_true rfl) rfl (fun r h9 hq => ?_)
  obtain ⟨rfl, rfl⟩ := hq
  show jb_J _ RX12 cX12_thenShout 6 (Option.some .int) false 50 0 0 21 [some (.ref 105), some (.int (nI n)), some (.int (nI s)), some (.int 3), none, none] [.int 1] [s0, s1, s2, s3, s4, s5, s6, s7, s8, s9, jb_mdl I J d e kp nm W, s11] _
  refine jb_if_eq (tgt := 36) (pc' := 24) dX12_thenShout_21 (by decide) rfl (fun z => absurd z (by decide)) (fun _ => ?_)
  refine jb_iload_n (pc' := 25) dX12_thenShout_24 rfl rfl ?_
  refine jb_i2l (pc' := 26) dX12_thenShout_25 rfl ?_
  refine jb_lconst (pc' := 27) 0 dX12_thenShout_26 (by decide) rfl ?_
  refine jb_ldc2 (pc' := 30) 5 dX12_thenShout_27 wk_X12_180 rfl ?_
  refine jb_callS (pc' := 33) (As := [.long ((3 : Int32).toInt64), .long 0, .long 5]) (a2 := 0) (b2 := 0) wv_X12_56 dX12_thenShout_30 (c_inLG _ 3 0 5 (by omega) (by omega) (by omega)) rfl ⟨by decide, Nat.le_of_eq (Nat.zero_add _), Nat.le_of_eq (Nat.zero_add _)⟩ (Nat.le_of_ble_eq_true rfl) rfl (fun r h9 hq => ?_)
  obtain ⟨rfl, rfl⟩ := hq
  show jb_J _ RX12 cX12_thenShout 6 (Option.some .int) false 50 0 0 33 [some (.ref 105), some (.int (nI n)), some (.int (nI s)), some (.int 3), none, none] [.int 1] [s0, s1, s2, s3, s4, s5, s6, s7, s8, s9, jb_mdl I J d e kp nm W, s11] _
  refine jb_if_ne (tgt := 42) (pc' := 36) dX12_thenShout_33 (by decide) rfl (fun _ => ?_) (fun z => absurd z (by decide))
  refine jb_aload_n (pc' := 43) dX12_thenShout_42 rfl rfl ?_
  refine gf_X12_7 (pc' := 46) (v := .ref 106) dX12_thenShout_43 rfl rfl rfl ?_
  refine jb_aload_n (pc' := 47) dX12_thenShout_46 rfl rfl ?_
  refine gf_X12_13 (pc' := 50) (v := .ref 107) dX12_thenShout_47 rfl rfl rfl ?_
  refine jb_callS (pc' := 53) (As := [.ref 106, .ref 107]) (a2 := 0) (b2 := 0) wv_X12_212 dX12_thenShout_50 (c_copies_106_107 I J d e kp nm W) rfl ⟨by decide, Nat.le_of_eq (Nat.zero_add _), Nat.le_of_eq (Nat.zero_add _)⟩ (Nat.le_of_ble_eq_true rfl) rfl (fun r h9 hq => ?_)
  obtain ⟨rfl, e9, he9, rfl⟩ := hq
  show jb_J _ RX12 cX12_thenShout 6 (Option.some .int) false 50 0 0 53 [some (.ref 105), some (.int (nI n)), some (.int (nI s)), some (.int 3), none, none] [] [s0, s1, s2, s3, s4, s5, s6, s7, s8, s9, jb_mdl I J d e9 kp nm W, s11] _
  refine jb_aload_n (pc' := 54) dX12_thenShout_53 rfl rfl ?_
  refine jb_iload_n (pc' := 55) dX12_thenShout_54 rfl rfl ?_
  refine jb_callV (pc' := 58) (ci := 12) (q := 105) (As := [.int (nI n)]) (a2 := 0) (b2 := 0) wv_X12_216 rfl dX12_thenShout_55 (c_goesOn I J d e9 kp nm W hd0 hk0 hG hg hag n (by omega) (by first | omega | exact h2n)) rfl rfl ⟨by decide, Nat.le_of_eq (Nat.zero_add _), Nat.le_of_eq (Nat.zero_add _)⟩ (Nat.le_of_ble_eq_true rfl) rfl (fun r h9 hq => ?_)
  obtain ⟨rfl, J9, nm9, d9, hd9, hz9, hf9, rfl⟩ := hq
  obtain ⟨hk9, hs9⟩ := jv_pa hG false n (V) (d 7) hk0 (by first | omega | exact h2n)
  obtain ⟨V9, hV9⟩ : ∃ X9, (jm_pa G false n (V, d 7)).1 = X9 := ⟨_, rfl⟩
  rw [hV9] at hd9 hk9 hs9
  rw [hV9] at hs2
  have q9 := hk9.2.2.1
  show jb_J _ RX12 cX12_thenShout 6 (Option.some .int) false 50 0 0 58 [some (.ref 105), some (.int (nI n)), some (.int (nI s)), some (.int 3), none, none] [] [s0, s1, s2, s3, s4, s5, s6, s7, s8, s9, jb_mdl I J9 d9 e9 kp nm9 W, s11] _
  refine jb_aload_n (pc' := 59) dX12_thenShout_58 rfl rfl ?_
  refine jb_iload_n (pc' := 60) dX12_thenShout_59 rfl rfl ?_
  refine jb_callV (pc' := 63) (ci := 12) (q := 105) (As := [.int (nI s)]) (a2 := 0) (b2 := 0) wv_X12_177 rfl dX12_thenShout_60 (c_isShoutG I J9 d9 e9 kp nm9 W hd9 hk9 s (by omega)) rfl rfl ⟨by decide, Nat.le_of_eq (Nat.zero_add _), Nat.le_of_eq (Nat.zero_add _)⟩ (Nat.le_of_ble_eq_true rfl) rfl (fun r h9 hq => ?_)
  obtain ⟨rfl, rfl⟩ := hq
  show jb_J _ RX12 cX12_thenShout 6 (Option.some .int) false 50 0 0 63 [some (.ref 105), some (.int (nI n)), some (.int (nI s)), some (.int 3), none, none] [.int 1] [s0, s1, s2, s3, s4, s5, s6, s7, s8, s9, jb_mdl I J9 d9 e9 kp nm9 W, s11] _
  refine jb_istore_ (pc' := 65) dX12_thenShout_63 (by decide) (jb_at4 rfl) rfl ?_
  refine jb_iload (pc' := 67) dX12_thenShout_65 rfl rfl ?_
  refine jb_if_eq (tgt := 79) (pc' := 70) dX12_thenShout_67 (by decide) rfl (fun z => absurd z (by decide)) (fun _ => ?_)
  refine jb_aload_n (pc' := 71) dX12_thenShout_70 rfl rfl ?_
  refine jb_iload_n (pc' := 72) dX12_thenShout_71 rfl rfl ?_
  refine jb_iload_n (pc' := 73) dX12_thenShout_72 rfl rfl ?_
  refine jb_callV (pc' := 76) (ci := 12) (q := 105) (As := [.int (nI s), .int 3]) (a2 := 0) (b2 := 0) wv_X12_182 rfl dX12_thenShout_73 (c_ofIt3 I J9 d9 e9 kp nm9 W hd9 hk9 s (by omega)) rfl rfl ⟨by decide, Nat.le_of_eq (Nat.zero_add _), Nat.le_of_eq (Nat.zero_add _)⟩ (Nat.le_of_ble_eq_true rfl) rfl (fun r h9 hq => ?_)
  obtain ⟨rfl, rfl⟩ := hq
  show jb_J _ RX12 cX12_thenShout 6 (Option.some .int) false 50 0 0 76 [some (.ref 105), some (.int (nI n)), some (.int (nI s)), some (.int 3), some (.int 1), none] [.int (nI (V9 7 s))] [s0, s1, s2, s3, s4, s5, s6, s7, s8, s9, jb_mdl I J9 d9 e9 kp nm9 W, s11] _
  refine jb_goto (pc' := 80) dX12_thenShout_76 (by decide) ?_
  refine jb_istore_ (pc' := 82) dX12_thenShout_80 (by decide) (jb_at5 rfl) rfl ?_
  refine jb_aload_n (pc' := 83) dX12_thenShout_82 rfl rfl ?_
  refine gf_X12_13 (pc' := 86) (v := .ref 107) dX12_thenShout_83 rfl rfl rfl ?_
  refine jb_aload_n (pc' := 87) dX12_thenShout_86 rfl rfl ?_
  refine gf_X12_7 (pc' := 90) (v := .ref 106) dX12_thenShout_87 rfl rfl rfl ?_
  refine jb_callS (pc' := 93) (As := [.ref 107, .ref 106]) (a2 := 0) (b2 := 0) wv_X12_212 dX12_thenShout_90 (c_copies_107_106 I J9 d9 e9 kp nm9 W) rfl ⟨by decide, Nat.le_of_eq (Nat.zero_add _), Nat.le_of_eq (Nat.zero_add _)⟩ (Nat.le_of_ble_eq_true rfl) rfl (fun r h9 hq => ?_)
  obtain ⟨rfl, d8, hd8, rfl⟩ := hq
  show jb_J _ RX12 cX12_thenShout 6 (Option.some .int) false 50 0 0 93 [some (.ref 105), some (.int (nI n)), some (.int (nI s)), some (.int 3), some (.int 1), some (.int (nI (V9 7 s)))] [] [s0, s1, s2, s3, s4, s5, s6, s7, s8, s9, jb_mdl I J9 d8 e9 kp nm9 W, s11] _
  refine jb_iload (pc' := 95) dX12_thenShout_93 rfl rfl ?_
  refine jb_if_eq (tgt := 103) (pc' := 98) dX12_thenShout_95 (by decide) rfl (fun z => absurd z (by decide)) (fun _ => ?_)
  refine jb_iload (pc' := 100) dX12_thenShout_98 rfl rfl ?_
  refine jb_goto (pc' := 108) dX12_thenShout_100 (by decide) ?_
  refine jb_iret dX12_thenShout_108 rfl ?_
  refine ⟨by rw [hV9], J9, nm9, d8, e9, fun k hk => (hd8 k hk).trans (he9 k hk), rfl⟩
set_option maxRecDepth 100000 in
set_option maxHeartbeats 4000000 in
theorem mx_thenShout4 {sc : Nat × (Nat → Int32)} {s0 s1 s2 s3 s4 s5 s6 s7 s8 s9 s11 : List va_E} {V : Nat → Nat → Nat} (I J d e kp nm : Nat → Int32) (W : Nat → Nat → Int32) (hd : jd_ V d) (hk : jv_ok V) {G : jm_G} (hG : jm_Gok G) {d0 : Nat → Int32} (hg : jGm sc d0 G) (hag : ∀ k, 316 ≤ k → d k = d0 k) (n : Nat) (hn : n ≤ 200) (h0 : V 0 0 ≤ 9999) (s : Nat) (hs : s < 40) (hs2 : s < (jm_pa G false n (V, d 7)).1 0 2) : jb_C sc yX12_thenShout cX12_thenShout 6 (Option.some .int) 50 0 0 [.ref 105, .int (nI n), .int (nI s), .int 4] [s0, s1, s2, s3, s4, s5, s6, s7, s8, s9, jb_mdl I J d e kp nm W, s11] (fun r h9 => r = some (.int (nI ((jm_pa G false n (V, d 7)).1 8 s) - 1)) ∧ ∃ J9 nm9 d9 e9, (∀ k, k < 490 → d9 k = d k) ∧ h9 = [s0, s1, s2, s3, s4, s5, s6, s7, s8, s9, jb_mdl I J9 d9 e9 kp nm9 W, s11]) := by
  refine jb_CofJ (ini := false) (by decide +kernel) (fun h => by cases h) (Nat.le_of_ble_eq_true rfl) ?_
  show jb_J sc RX12 cX12_thenShout 6 (Option.some .int) false 50 0 0 0 [some (.ref 105), some (.int (nI n)), some (.int (nI s)), some (.int 4), none, none] [] [s0, s1, s2, s3, s4, s5, s6, s7, s8, s9, jb_mdl I J d e kp nm W, s11] _
  have hd0 := hd
  have hk0 := hk
  obtain ⟨e0, e1, e2, e3, e4, e5, e6, dv, ds, dd⟩ := hd
  obtain ⟨k0, k1, k2, k3, k4, k5, k6, k7, kv, ks, kd⟩ := hk
  refine jb_iload_n (pc' := 1) dX12_thenShout_0 rfl rfl ?_
  refine jb_i2l (pc' := 2) dX12_thenShout_1 rfl ?_
  refine jb_lconst (pc' := 3) 0 dX12_thenShout_2 (by decide) rfl ?_
  refine jb_ldc2 (pc' := 6) 200 dX12_thenShout_3 wk_X12_206 rfl ?_
  refine jb_callS (pc' := 9) (As := [.long ((nI n).toInt64), .long 0, .long 200]) (a2 := 0) (b2 := 0) wv_X12_56 dX12_thenShout_6 (c_inLG _ n 0 200 (by omega) (by omega) (by omega)) rfl ⟨by decide, Nat.le_of_eq (Nat.zero_add _), Nat.le_of_eq (Nat.zero_add _)⟩ (Nat.le_of_ble_eq_true rfl) rfl (fun r h9 hq => ?_)
  obtain ⟨rfl, rfl⟩ := hq
  show jb_J _ RX12 cX12_thenShout 6 (Option.some .int) false 50 0 0 9 [some (.ref 105), some (.int (nI n)), some (.int (nI s)), some (.int 4), none, none] [.int 1] [s0, s1, s2, s3, s4, s5, s6, s7, s8, s9, jb_mdl I J d e kp nm W, s11] _
  refine jb_if_eq (tgt := 36) (pc' := 12) dX12_thenShout_9 (by decide) rfl (fun z => absurd z (by decide)) (fun _ => ?_)
  refine jb_iload_n (pc' := 13) dX12_thenShout_12 rfl rfl ?_
  refine jb_i2l (pc' := 14) dX12_thenShout_13 rfl ?_
  refine jb_lconst (pc' := 15) 0 dX12_thenShout_14 (by decide) rfl ?_
  refine jb_ldc2 (pc' := 18) 39 dX12_thenShout_15 wk_X12_60 rfl ?_
  refine jb_callS (pc' := 21) (As := [.long ((nI s).toInt64), .long 0, .long 39]) (a2 := 0) (b2 := 0) wv_X12_56 dX12_thenShout_18 (c_inLG _ s 0 39 (by omega) (by omega) (by omega)) rfl ⟨by decide, Nat.le_of_eq (Nat.zero_add _), Nat.le_of_eq (Nat.zero_add _)⟩ (Nat.le_of_ble_eq_true rfl) rfl (fun r h9 hq => ?_)
  obtain ⟨rfl, rfl⟩ := hq
  show jb_J _ RX12 cX12_thenShout 6 (Option.some .int) false 50 0 0 21 [some (.ref 105), some (.int (nI n)), some (.int (nI s)), some (.int 4), none, none] [.int 1] [s0, s1, s2, s3, s4, s5, s6, s7, s8, s9, jb_mdl I J d e kp nm W, s11] _
  refine jb_if_eq (tgt := 36) (pc' := 24) dX12_thenShout_21 (by decide) rfl (fun z => absurd z (by decide)) (fun _ => ?_)
  refine jb_iload_n (pc' := 25) dX12_thenShout_24 rfl rfl ?_
  refine jb_i2l (pc' := 26) dX12_thenShout_25 rfl ?_
  refine jb_lconst (pc' := 27) 0 dX12_thenShout_26 (by decide) rfl ?_
  refine jb_ldc2 (pc' := 30) 5 dX12_thenShout_27 wk_X12_180 rfl ?_
  refine jb_callS (pc' := 33) (As := [.long ((4 : Int32).toInt64), .long 0, .long 5]) (a2 := 0) (b2 := 0) wv_X12_56 dX12_thenShout_30 (c_inLG _ 4 0 5 (by omega) (by omega) (by omega)) rfl ⟨by decide, Nat.le_of_eq (Nat.zero_add _), Nat.le_of_eq (Nat.zero_add _)⟩ (Nat.le_of_ble_eq_true rfl) rfl (fun r h9 hq => ?_)
  obtain ⟨rfl, rfl⟩ := hq
  show jb_J _ RX12 cX12_thenShout 6 (Option.some .int) false 50 0 0 33 [some (.ref 105), some (.int (nI n)), some (.int (nI s)), some (.int 4), none, none] [.int 1] [s0, s1, s2, s3, s4, s5, s6, s7, s8, s9, jb_mdl I J d e kp nm W, s11] _
  refine jb_if_ne (tgt := 42) (pc' := 36) dX12_thenShout_33 (by decide) rfl (fun _ => ?_) (fun z => absurd z (by decide))
  refine jb_aload_n (pc' := 43) dX12_thenShout_42 rfl rfl ?_
  refine gf_X12_7 (pc' := 46) (v := .ref 106) dX12_thenShout_43 rfl rfl rfl ?_
  refine jb_aload_n (pc' := 47) dX12_thenShout_46 rfl rfl ?_
  refine gf_X12_13 (pc' := 50) (v := .ref 107) dX12_thenShout_47 rfl rfl rfl ?_
  refine jb_callS (pc' := 53) (As := [.ref 106, .ref 107]) (a2 := 0) (b2 := 0) wv_X12_212 dX12_thenShout_50 (c_copies_106_107 I J d e kp nm W) rfl ⟨by decide, Nat.le_of_eq (Nat.zero_add _), Nat.le_of_eq (Nat.zero_add _)⟩ (Nat.le_of_ble_eq_true rfl) rfl (fun r h9 hq => ?_)
  obtain ⟨rfl, e9, he9, rfl⟩ := hq
  show jb_J _ RX12 cX12_thenShout 6 (Option.some .int) false 50 0 0 53 [some (.ref 105), some (.int (nI n)), some (.int (nI s)), some (.int 4), none, none] [] [s0, s1, s2, s3, s4, s5, s6, s7, s8, s9, jb_mdl I J d e9 kp nm W, s11] _
  refine jb_aload_n (pc' := 54) dX12_thenShout_53 rfl rfl ?_
  refine jb_iload_n (pc' := 55) dX12_thenShout_54 rfl rfl ?_
  refine jb_callV (pc' := 58) (ci := 12) (q := 105) (As := [.int (nI n)]) (a2 := 0) (b2 := 0) wv_X12_216 rfl dX12_thenShout_55 (c_goesOn I J d e9 kp nm W hd0 hk0 hG hg hag n (by omega) (by first | omega | exact h2n)) rfl rfl ⟨by decide, Nat.le_of_eq (Nat.zero_add _), Nat.le_of_eq (Nat.zero_add _)⟩ (Nat.le_of_ble_eq_true rfl) rfl (fun r h9 hq => ?_)
  obtain ⟨rfl, J9, nm9, d9, hd9, hz9, hf9, rfl⟩ := hq
  obtain ⟨hk9, hs9⟩ := jv_pa hG false n (V) (d 7) hk0 (by first | omega | exact h2n)
  obtain ⟨V9, hV9⟩ : ∃ X9, (jm_pa G false n (V, d 7)).1 = X9 := ⟨_, rfl⟩
  rw [hV9] at hd9 hk9 hs9
  rw [hV9] at hs2
  have q9 := hk9.2.2.1
  show jb_J _ RX12 cX12_thenShout 6 (Option.some .int) false 50 0 0 58 [some (.ref 105), some (.int (nI n)), some (.int (nI s)), some (.int 4), none, none] [] [s0, s1, s2, s3, s4, s5, s6, s7, s8, s9, jb_mdl I J9 d9 e9 kp nm9 W, s11] _
  refine jb_aload_n (pc' := 59) dX12_thenShout_58 rfl rfl ?_
  refine jb_iload_n (pc' := 60) dX12_thenShout_59 rfl rfl ?_
  refine jb_callV (pc' := 63) (ci := 12) (q := 105) (As := [.int (nI s)]) (a2 := 0) (b2 := 0) wv_X12_177 rfl dX12_thenShout_60 (c_isShoutG I J9 d9 e9 kp nm9 W hd9 hk9 s (by omega)) rfl rfl ⟨by decide, Nat.le_of_eq (Nat.zero_add _), Nat.le_of_eq (Nat.zero_add _)⟩ (Nat.le_of_ble_eq_true rfl) rfl (fun r h9 hq => ?_)
  obtain ⟨rfl, rfl⟩ := hq
  show jb_J _ RX12 cX12_thenShout 6 (Option.some .int) false 50 0 0 63 [some (.ref 105), some (.int (nI n)), some (.int (nI s)), some (.int 4), none, none] [.int 1] [s0, s1, s2, s3, s4, s5, s6, s7, s8, s9, jb_mdl I J9 d9 e9 kp nm9 W, s11] _
  refine jb_istore_ (pc' := 65) dX12_thenShout_63 (by decide) (jb_at4 rfl) rfl ?_
  refine jb_iload (pc' := 67) dX12_thenShout_65 rfl rfl ?_
  refine jb_if_eq (tgt := 79) (pc' := 70) dX12_thenShout_67 (by decide) rfl (fun z => absurd z (by decide)) (fun _ => ?_)
  refine jb_aload_n (pc' := 71) dX12_thenShout_70 rfl rfl ?_
  refine jb_iload_n (pc' := 72) dX12_thenShout_71 rfl rfl ?_
  refine jb_iload_n (pc' := 73) dX12_thenShout_72 rfl rfl ?_
  refine jb_callV (pc' := 76) (ci := 12) (q := 105) (As := [.int (nI s), .int 4]) (a2 := 0) (b2 := 0) wv_X12_182 rfl dX12_thenShout_73 (c_ofIt4 I J9 d9 e9 kp nm9 W hd9 hk9 s (by omega)) rfl rfl ⟨by decide, Nat.le_of_eq (Nat.zero_add _), Nat.le_of_eq (Nat.zero_add _)⟩ (Nat.le_of_ble_eq_true rfl) rfl (fun r h9 hq => ?_)
  obtain ⟨rfl, rfl⟩ := hq
  show jb_J _ RX12 cX12_thenShout 6 (Option.some .int) false 50 0 0 76 [some (.ref 105), some (.int (nI n)), some (.int (nI s)), some (.int 4), some (.int 1), none] [.int (nI (V9 8 s) - 1)] [s0, s1, s2, s3, s4, s5, s6, s7, s8, s9, jb_mdl I J9 d9 e9 kp nm9 W, s11] _
  refine jb_goto (pc' := 80) dX12_thenShout_76 (by decide) ?_
  refine jb_istore_ (pc' := 82) dX12_thenShout_80 (by decide) (jb_at5 rfl) rfl ?_
  refine jb_aload_n (pc' := 83) dX12_thenShout_82 rfl rfl ?_
  refine gf_X12_13 (pc' := 86) (v := .ref 107) dX12_thenShout_83 rfl rfl rfl ?_
  refine jb_aload_n (pc' := 87) dX12_thenShout_86 rfl rfl ?_
  refine gf_X12_7 (pc' := 90) (v := .ref 106) dX12_thenShout_87 rfl rfl rfl ?_
  refine jb_callS (pc' := 93) (As := [.ref 107, .ref 106]) (a2 := 0) (b2 := 0) wv_X12_212 dX12_thenShout_90 (c_copies_107_106 I J9 d9 e9 kp nm9 W) rfl ⟨by decide, Nat.le_of_eq (Nat.zero_add _), Nat.le_of_eq (Nat.zero_add _)⟩ (Nat.le_of_ble_eq_true rfl) rfl (fun r h9 hq => ?_)
  obtain ⟨rfl, d8, hd8, rfl⟩ := hq
  show jb_J _ RX12 cX12_thenShout 6 (Option.some .int) false 50 0 0 93 [some (.ref 105), some (.int (nI n)), some (.int (nI s)), some (.int 4), some (.int 1), some (.int (nI (V9 8 s) - 1))] [] [s0, s1, s2, s3, s4, s5, s6, s7, s8, s9, jb_mdl I J9 d8 e9 kp nm9 W, s11] _
  refine jb_iload (pc' := 95) dX12_thenShout_93 rfl rfl ?_
  refine jb_if_eq (tgt := 103) (pc' := 98) dX12_thenShout_95 (by decide) rfl (fun z => absurd z (by decide)) (fun _ => ?_)
  refine jb_iload (pc' := 100) dX12_thenShout_98 rfl rfl ?_
  refine jb_goto (pc' := 108) dX12_thenShout_100 (by decide) ?_
  refine jb_iret dX12_thenShout_108 rfl ?_
  refine ⟨by rw [hV9], J9, nm9, d8, e9, fun k hk => (hd8 k hk).trans (he9 k hk), rfl⟩
set_option maxRecDepth 100000 in
set_option maxHeartbeats 4000000 in
theorem mx_thenShout5 {sc : Nat × (Nat → Int32)} {s0 s1 s2 s3 s4 s5 s6 s7 s8 s9 s11 : List va_E} {V : Nat → Nat → Nat} (I J d e kp nm : Nat → Int32) (W : Nat → Nat → Int32) (hd : jd_ V d) (hk : jv_ok V) {G : jm_G} (hG : jm_Gok G) {d0 : Nat → Int32} (hg : jGm sc d0 G) (hag : ∀ k, 316 ≤ k → d k = d0 k) (n : Nat) (hn : n ≤ 200) (h0 : V 0 0 ≤ 9999) (s : Nat) (hs : s < 40) (hs2 : s < (jm_pa G false n (V, d 7)).1 0 2) : jb_C sc yX12_thenShout cX12_thenShout 6 (Option.some .int) 50 0 0 [.ref 105, .int (nI n), .int (nI s), .int 5] [s0, s1, s2, s3, s4, s5, s6, s7, s8, s9, jb_mdl I J d e kp nm W, s11] (fun r h9 => r = some (.int (nI ((jm_pa G false n (V, d 7)).1 9 s))) ∧ ∃ J9 nm9 d9 e9, (∀ k, k < 490 → d9 k = d k) ∧ h9 = [s0, s1, s2, s3, s4, s5, s6, s7, s8, s9, jb_mdl I J9 d9 e9 kp nm9 W, s11]) := by
  refine jb_CofJ (ini := false) (by decide +kernel) (fun h => by cases h) (Nat.le_of_ble_eq_true rfl) ?_
  show jb_J sc RX12 cX12_thenShout 6 (Option.some .int) false 50 0 0 0 [some (.ref 105), some (.int (nI n)), some (.int (nI s)), some (.int 5), none, none] [] [s0, s1, s2, s3, s4, s5, s6, s7, s8, s9, jb_mdl I J d e kp nm W, s11] _
  have hd0 := hd
  have hk0 := hk
  obtain ⟨e0, e1, e2, e3, e4, e5, e6, dv, ds, dd⟩ := hd
  obtain ⟨k0, k1, k2, k3, k4, k5, k6, k7, kv, ks, kd⟩ := hk
  refine jb_iload_n (pc' := 1) dX12_thenShout_0 rfl rfl ?_
  refine jb_i2l (pc' := 2) dX12_thenShout_1 rfl ?_
  refine jb_lconst (pc' := 3) 0 dX12_thenShout_2 (by decide) rfl ?_
  refine jb_ldc2 (pc' := 6) 200 dX12_thenShout_3 wk_X12_206 rfl ?_
  refine jb_callS (pc' := 9) (As := [.long ((nI n).toInt64), .long 0, .long 200]) (a2 := 0) (b2 := 0) wv_X12_56 dX12_thenShout_6 (c_inLG _ n 0 200 (by omega) (by omega) (by omega)) rfl ⟨by decide, Nat.le_of_eq (Nat.zero_add _), Nat.le_of_eq (Nat.zero_add _)⟩ (Nat.le_of_ble_eq_true rfl) rfl (fun r h9 hq => ?_)
  obtain ⟨rfl, rfl⟩ := hq
  show jb_J _ RX12 cX12_thenShout 6 (Option.some .int) false 50 0 0 9 [some (.ref 105), some (.int (nI n)), some (.int (nI s)), some (.int 5), none, none] [.int 1] [s0, s1, s2, s3, s4, s5, s6, s7, s8, s9, jb_mdl I J d e kp nm W, s11] _
  refine jb_if_eq (tgt := 36) (pc' := 12) dX12_thenShout_9 (by decide) rfl (fun z => absurd z (by decide)) (fun _ => ?_)
  refine jb_iload_n (pc' := 13) dX12_thenShout_12 rfl rfl ?_
  refine jb_i2l (pc' := 14) dX12_thenShout_13 rfl ?_
  refine jb_lconst (pc' := 15) 0 dX12_thenShout_14 (by decide) rfl ?_
  refine jb_ldc2 (pc' := 18) 39 dX12_thenShout_15 wk_X12_60 rfl ?_
  refine jb_callS (pc' := 21) (As := [.long ((nI s).toInt64), .long 0, .long 39]) (a2 := 0) (b2 := 0) wv_X12_56 dX12_thenShout_18 (c_inLG _ s 0 39 (by omega) (by omega) (by omega)) rfl ⟨by decide, Nat.le_of_eq (Nat.zero_add _), Nat.le_of_eq (Nat.zero_add _)⟩ (Nat.le_of_ble_eq_true rfl) rfl (fun r h9 hq => ?_)
  obtain ⟨rfl, rfl⟩ := hq
  show jb_J _ RX12 cX12_thenShout 6 (Option.some .int) false 50 0 0 21 [some (.ref 105), some (.int (nI n)), some (.int (nI s)), some (.int 5), none, none] [.int 1] [s0, s1, s2, s3, s4, s5, s6, s7, s8, s9, jb_mdl I J d e kp nm W, s11] _
  refine jb_if_eq (tgt := 36) (pc' := 24) dX12_thenShout_21 (by decide) rfl (fun z => absurd z (by decide)) (fun _ => ?_)
  refine jb_iload_n (pc' := 25) dX12_thenShout_24 rfl rfl ?_
  refine jb_i2l (pc' := 26) dX12_thenShout_25 rfl ?_
  refine jb_lconst (pc' := 27) 0 dX12_thenShout_26 (by decide) rfl ?_
  refine jb_ldc2 (pc' := 30) 5 dX12_thenShout_27 wk_X12_180 rfl ?_
  refine jb_callS (pc' := 33) (As := [.long ((5 : Int32).toInt64), .long 0, .long 5]) (a2 := 0) (b2 := 0) wv_X12_56 dX12_thenShout_30 (c_inLG _ 5 0 5 (by omega) (by omega) (by omega)) rfl ⟨by decide, Nat.le_of_eq (Nat.zero_add _), Nat.le_of_eq (Nat.zero_add _)⟩ (Nat.le_of_ble_eq_true rfl) rfl (fun r h9 hq => ?_)
  obtain ⟨rfl, rfl⟩ := hq
  show jb_J _ RX12 cX12_thenShout 6 (Option.some .int) false 50 0 0 33 [some (.ref 105), some (.int (nI n)), some (.int (nI s)), some (.int 5), none, none] [.int 1] [s0, s1, s2, s3, s4, s5, s6, s7, s8, s9, jb_mdl I J d e kp nm W, s11] _
  refine jb_if_ne (tgt := 42) (pc' := 36) dX12_thenShout_33 (by decide) rfl (fun _ => ?_) (fun z => absurd z (by decide))
  refine jb_aload_n (pc' := 43) dX12_thenShout_42 rfl rfl ?_
  refine gf_X12_7 (pc' := 46) (v := .ref 106) dX12_thenShout_43 rfl rfl rfl ?_
  refine jb_aload_n (pc' := 47) dX12_thenShout_46 rfl rfl ?_
  refine gf_X12_13 (pc' := 50) (v := .ref 107) dX12_thenShout_47 rfl rfl rfl ?_
  refine jb_callS (pc' := 53) (As := [.ref 106, .ref 107]) (a2 := 0) (b2 := 0) wv_X12_212 dX12_thenShout_50 (c_copies_106_107 I J d e kp nm W) rfl ⟨by decide, Nat.le_of_eq (Nat.zero_add _), Nat.le_of_eq (Nat.zero_add _)⟩ (Nat.le_of_ble_eq_true rfl) rfl (fun r h9 hq => ?_)
  obtain ⟨rfl, e9, he9, rfl⟩ := hq
  show jb_J _ RX12 cX12_thenShout 6 (Option.some .int) false 50 0 0 53 [some (.ref 105), some (.int (nI n)), some (.int (nI s)), some (.int 5), none, none] [] [s0, s1, s2, s3, s4, s5, s6, s7, s8, s9, jb_mdl I J d e9 kp nm W, s11] _
  refine jb_aload_n (pc' := 54) dX12_thenShout_53 rfl rfl ?_
  refine jb_iload_n (pc' := 55) dX12_thenShout_54 rfl rfl ?_
  refine jb_callV (pc' := 58) (ci := 12) (q := 105) (As := [.int (nI n)]) (a2 := 0) (b2 := 0) wv_X12_216 rfl dX12_thenShout_55 (c_goesOn I J d e9 kp nm W hd0 hk0 hG hg hag n (by omega) (by first | omega | exact h2n)) rfl rfl ⟨by decide, Nat.le_of_eq (Nat.zero_add _), Nat.le_of_eq (Nat.zero_add _)⟩ (Nat.le_of_ble_eq_true rfl) rfl (fun r h9 hq => ?_)
  obtain ⟨rfl, J9, nm9, d9, hd9, hz9, hf9, rfl⟩ := hq
  obtain ⟨hk9, hs9⟩ := jv_pa hG false n (V) (d 7) hk0 (by first | omega | exact h2n)
  obtain ⟨V9, hV9⟩ : ∃ X9, (jm_pa G false n (V, d 7)).1 = X9 := ⟨_, rfl⟩
  rw [hV9] at hd9 hk9 hs9
  rw [hV9] at hs2
  have q9 := hk9.2.2.1
  show jb_J _ RX12 cX12_thenShout 6 (Option.some .int) false 50 0 0 58 [some (.ref 105), some (.int (nI n)), some (.int (nI s)), some (.int 5), none, none] [] [s0, s1, s2, s3, s4, s5, s6, s7, s8, s9, jb_mdl I J9 d9 e9 kp nm9 W, s11] _
  refine jb_aload_n (pc' := 59) dX12_thenShout_58 rfl rfl ?_
  refine jb_iload_n (pc' := 60) dX12_thenShout_59 rfl rfl ?_
  refine jb_callV (pc' := 63) (ci := 12) (q := 105) (As := [.int (nI s)]) (a2 := 0) (b2 := 0) wv_X12_177 rfl dX12_thenShout_60 (c_isShoutG I J9 d9 e9 kp nm9 W hd9 hk9 s (by omega)) rfl rfl ⟨by decide, Nat.le_of_eq (Nat.zero_add _), Nat.le_of_eq (Nat.zero_add _)⟩ (Nat.le_of_ble_eq_true rfl) rfl (fun r h9 hq => ?_)
  obtain ⟨rfl, rfl⟩ := hq
  show jb_J _ RX12 cX12_thenShout 6 (Option.some .int) false 50 0 0 63 [some (.ref 105), some (.int (nI n)), some (.int (nI s)), some (.int 5), none, none] [.int 1] [s0, s1, s2, s3, s4, s5, s6, s7, s8, s9, jb_mdl I J9 d9 e9 kp nm9 W, s11] _
  refine jb_istore_ (pc' := 65) dX12_thenShout_63 (by decide) (jb_at4 rfl) rfl ?_
  refine jb_iload (pc' := 67) dX12_thenShout_65 rfl rfl ?_
  refine jb_if_eq (tgt := 79) (pc' := 70) dX12_thenShout_67 (by decide) rfl (fun z => absurd z (by decide)) (fun _ => ?_)
  refine jb_aload_n (pc' := 71) dX12_thenShout_70 rfl rfl ?_
  refine jb_iload_n (pc' := 72) dX12_thenShout_71 rfl rfl ?_
  refine jb_iload_n (pc' := 73) dX12_thenShout_72 rfl rfl ?_
  refine jb_callV (pc' := 76) (ci := 12) (q := 105) (As := [.int (nI s), .int 5]) (a2 := 0) (b2 := 0) wv_X12_182 rfl dX12_thenShout_73 (c_ofIt5 I J9 d9 e9 kp nm9 W hd9 hk9 s (by omega)) rfl rfl ⟨by decide, Nat.le_of_eq (Nat.zero_add _), Nat.le_of_eq (Nat.zero_add _)⟩ (Nat.le_of_ble_eq_true rfl) rfl (fun r h9 hq => ?_)
  obtain ⟨rfl, rfl⟩ := hq
  show jb_J _ RX12 cX12_thenShout 6 (Option.some .int) false 50 0 0 76 [some (.ref 105), some (.int (nI n)), some (.int (nI s)), some (.int 5), some (.int 1), none] [.int (nI (V9 9 s))] [s0, s1, s2, s3, s4, s5, s6, s7, s8, s9, jb_mdl I J9 d9 e9 kp nm9 W, s11] _
  refine jb_goto (pc' := 80) dX12_thenShout_76 (by decide) ?_
  refine jb_istore_ (pc' := 82) dX12_thenShout_80 (by decide) (jb_at5 rfl) rfl ?_
  refine jb_aload_n (pc' := 83) dX12_thenShout_82 rfl rfl ?_
  refine gf_X12_13 (pc' := 86) (v := .ref 107) dX12_thenShout_83 rfl rfl rfl ?_
  refine jb_aload_n (pc' := 87) dX12_thenShout_86 rfl rfl ?_
  refine gf_X12_7 (pc' := 90) (v := .ref 106) dX12_thenShout_87 rfl rfl rfl ?_
  refine jb_callS (pc' := 93) (As := [.ref 107, .ref 106]) (a2 := 0) (b2 := 0) wv_X12_212 dX12_thenShout_90 (c_copies_107_106 I J9 d9 e9 kp nm9 W) rfl ⟨by decide, Nat.le_of_eq (Nat.zero_add _), Nat.le_of_eq (Nat.zero_add _)⟩ (Nat.le_of_ble_eq_true rfl) rfl (fun r h9 hq => ?_)
  obtain ⟨rfl, d8, hd8, rfl⟩ := hq
  show jb_J _ RX12 cX12_thenShout 6 (Option.some .int) false 50 0 0 93 [some (.ref 105), some (.int (nI n)), some (.int (nI s)), some (.int 5), some (.int 1), some (.int (nI (V9 9 s)))] [] [s0, s1, s2, s3, s4, s5, s6, s7, s8, s9, jb_mdl I J9 d8 e9 kp nm9 W, s11] _
  refine jb_iload (pc' := 95) dX12_thenShout_93 rfl rfl ?_
  refine jb_if_eq (tgt := 103) (pc' := 98) dX12_thenShout_95 (by decide) rfl (fun z => absurd z (by decide)) (fun _ => ?_)
  refine jb_iload (pc' := 100) dX12_thenShout_98 rfl rfl ?_
  refine jb_goto (pc' := 108) dX12_thenShout_100 (by decide) ?_
  refine jb_iret dX12_thenShout_108 rfl ?_
  refine ⟨by rw [hV9], J9, nm9, d8, e9, fun k hk => (hd8 k hk).trans (he9 k hk), rfl⟩
set_option maxRecDepth 100000 in
set_option maxHeartbeats 4000000 in
theorem me_thenShoutN {sc : Nat × (Nat → Int32)} {s0 s1 s2 s3 s4 s5 s6 s7 s8 s9 s11 : List va_E} {V : Nat → Nat → Nat} (I J d e kp nm : Nat → Int32) (W : Nat → Nat → Int32) (hd : jd_ V d) (hk : jv_ok V) {G : jm_G} (hG : jm_Gok G) {d0 : Nat → Int32} (hg : jGm sc d0 G) (hag : ∀ k, 316 ≤ k → d k = d0 k) (n : Nat) (hn : n ≤ 200) (h0 : V 0 0 ≤ 9999) (s : Nat) (hs : s < 40) (hs2 : ¬ s < (jm_pa G false n (V, d 7)).1 0 2) (w : Nat) (hw : w < 6) : jb_C sc yX12_thenShout cX12_thenShout 6 (Option.some .int) 50 0 0 [.ref 105, .int (nI n), .int (nI s), .int (nI w)] [s0, s1, s2, s3, s4, s5, s6, s7, s8, s9, jb_mdl I J d e kp nm W, s11] (fun r h9 => r = some (.int (jm_er 2)) ∧ ∃ J9 nm9 d9 e9, (∀ k, k < 490 → d9 k = d k) ∧ h9 = [s0, s1, s2, s3, s4, s5, s6, s7, s8, s9, jb_mdl I J9 d9 e9 kp nm9 (va_up W 0 (jm_ef (W 0) 2)), s11]) := by
  refine jb_CofJ (ini := false) (by decide +kernel) (fun h => by cases h) (Nat.le_of_ble_eq_true rfl) ?_
  show jb_J sc RX12 cX12_thenShout 6 (Option.some .int) false 50 0 0 0 [some (.ref 105), some (.int (nI n)), some (.int (nI s)), some (.int (nI w)), none, none] [] [s0, s1, s2, s3, s4, s5, s6, s7, s8, s9, jb_mdl I J d e kp nm W, s11] _
  have hd0 := hd
  have hk0 := hk
  obtain ⟨e0, e1, e2, e3, e4, e5, e6, dv, ds, dd⟩ := hd
  obtain ⟨k0, k1, k2, k3, k4, k5, k6, k7, kv, ks, kd⟩ := hk
  refine jb_iload_n (pc' := 1) dX12_thenShout_0 rfl rfl ?_
  refine jb_i2l (pc' := 2) dX12_thenShout_1 rfl ?_
  refine jb_lconst (pc' := 3) 0 dX12_thenShout_2 (by decide) rfl ?_
  refine jb_ldc2 (pc' := 6) 200 dX12_thenShout_3 wk_X12_206 rfl ?_
  refine jb_callS (pc' := 9) (As := [.long ((nI n).toInt64), .long 0, .long 200]) (a2 := 0) (b2 := 0) wv_X12_56 dX12_thenShout_6 (c_inLG _ n 0 200 (by omega) (by omega) (by omega)) rfl ⟨by decide, Nat.le_of_eq (Nat.zero_add _), Nat.le_of_eq (Nat.zero_add _)⟩ (Nat.le_of_ble_eq_true rfl) rfl (fun r h9 hq => ?_)
  obtain ⟨rfl, rfl⟩ := hq
  show jb_J _ RX12 cX12_thenShout 6 (Option.some .int) false 50 0 0 9 [some (.ref 105), some (.int (nI n)), some (.int (nI s)), some (.int (nI w)), none, none] [.int 1] [s0, s1, s2, s3, s4, s5, s6, s7, s8, s9, jb_mdl I J d e kp nm W, s11] _
  refine jb_if_eq (tgt := 36) (pc' := 12) dX12_thenShout_9 (by decide) rfl (fun z => absurd z (by decide)) (fun _ => ?_)
  refine jb_iload_n (pc' := 13) dX12_thenShout_12 rfl rfl ?_
  refine jb_i2l (pc' := 14) dX12_thenShout_13 rfl ?_
  refine jb_lconst (pc' := 15) 0 dX12_thenShout_14 (by decide) rfl ?_
  refine jb_ldc2 (pc' := 18) 39 dX12_thenShout_15 wk_X12_60 rfl ?_
  refine jb_callS (pc' := 21) (As := [.long ((nI s).toInt64), .long 0, .long 39]) (a2 := 0) (b2 := 0) wv_X12_56 dX12_thenShout_18 (c_inLG _ s 0 39 (by omega) (by omega) (by omega)) rfl ⟨by decide, Nat.le_of_eq (Nat.zero_add _), Nat.le_of_eq (Nat.zero_add _)⟩ (Nat.le_of_ble_eq_true rfl) rfl (fun r h9 hq => ?_)
  obtain ⟨rfl, rfl⟩ := hq
  show jb_J _ RX12 cX12_thenShout 6 (Option.some .int) false 50 0 0 21 [some (.ref 105), some (.int (nI n)), some (.int (nI s)), some (.int (nI w)), none, none] [.int 1] [s0, s1, s2, s3, s4, s5, s6, s7, s8, s9, jb_mdl I J d e kp nm W, s11] _
  refine jb_if_eq (tgt := 36) (pc' := 24) dX12_thenShout_21 (by decide) rfl (fun z => absurd z (by decide)) (fun _ => ?_)
  refine jb_iload_n (pc' := 25) dX12_thenShout_24 rfl rfl ?_
  refine jb_i2l (pc' := 26) dX12_thenShout_25 rfl ?_
  refine jb_lconst (pc' := 27) 0 dX12_thenShout_26 (by decide) rfl ?_
  refine jb_ldc2 (pc' := 30) 5 dX12_thenShout_27 wk_X12_180 rfl ?_
  refine jb_callS (pc' := 33) (As := [.long ((nI w).toInt64), .long 0, .long 5]) (a2 := 0) (b2 := 0) wv_X12_56 dX12_thenShout_30 (c_inLG _ w 0 5 (by omega) (by omega) (by omega)) rfl ⟨by decide, Nat.le_of_eq (Nat.zero_add _), Nat.le_of_eq (Nat.zero_add _)⟩ (Nat.le_of_ble_eq_true rfl) rfl (fun r h9 hq => ?_)
  obtain ⟨rfl, rfl⟩ := hq
  show jb_J _ RX12 cX12_thenShout 6 (Option.some .int) false 50 0 0 33 [some (.ref 105), some (.int (nI n)), some (.int (nI s)), some (.int (nI w)), none, none] [.int 1] [s0, s1, s2, s3, s4, s5, s6, s7, s8, s9, jb_mdl I J d e kp nm W, s11] _
  refine jb_if_ne (tgt := 42) (pc' := 36) dX12_thenShout_33 (by decide) rfl (fun _ => ?_) (fun z => absurd z (by decide))
  refine jb_aload_n (pc' := 43) dX12_thenShout_42 rfl rfl ?_
  refine gf_X12_7 (pc' := 46) (v := .ref 106) dX12_thenShout_43 rfl rfl rfl ?_
  refine jb_aload_n (pc' := 47) dX12_thenShout_46 rfl rfl ?_
  refine gf_X12_13 (pc' := 50) (v := .ref 107) dX12_thenShout_47 rfl rfl rfl ?_
  refine jb_callS (pc' := 53) (As := [.ref 106, .ref 107]) (a2 := 0) (b2 := 0) wv_X12_212 dX12_thenShout_50 (c_copies_106_107 I J d e kp nm W) rfl ⟨by decide, Nat.le_of_eq (Nat.zero_add _), Nat.le_of_eq (Nat.zero_add _)⟩ (Nat.le_of_ble_eq_true rfl) rfl (fun r h9 hq => ?_)
  obtain ⟨rfl, e9, he9, rfl⟩ := hq
  show jb_J _ RX12 cX12_thenShout 6 (Option.some .int) false 50 0 0 53 [some (.ref 105), some (.int (nI n)), some (.int (nI s)), some (.int (nI w)), none, none] [] [s0, s1, s2, s3, s4, s5, s6, s7, s8, s9, jb_mdl I J d e9 kp nm W, s11] _
  refine jb_aload_n (pc' := 54) dX12_thenShout_53 rfl rfl ?_
  refine jb_iload_n (pc' := 55) dX12_thenShout_54 rfl rfl ?_
  refine jb_callV (pc' := 58) (ci := 12) (q := 105) (As := [.int (nI n)]) (a2 := 0) (b2 := 0) wv_X12_216 rfl dX12_thenShout_55 (c_goesOn I J d e9 kp nm W hd0 hk0 hG hg hag n (by omega) (by first | omega | exact h2n)) rfl rfl ⟨by decide, Nat.le_of_eq (Nat.zero_add _), Nat.le_of_eq (Nat.zero_add _)⟩ (Nat.le_of_ble_eq_true rfl) rfl (fun r h9 hq => ?_)
  obtain ⟨rfl, J9, nm9, d9, hd9, hz9, hf9, rfl⟩ := hq
  obtain ⟨hk9, hs9⟩ := jv_pa hG false n (V) (d 7) hk0 (by first | omega | exact h2n)
  obtain ⟨V9, hV9⟩ : ∃ X9, (jm_pa G false n (V, d 7)).1 = X9 := ⟨_, rfl⟩
  rw [hV9] at hd9 hk9 hs9
  rw [hV9] at hs2
  have q9 := hk9.2.2.1
  show jb_J _ RX12 cX12_thenShout 6 (Option.some .int) false 50 0 0 58 [some (.ref 105), some (.int (nI n)), some (.int (nI s)), some (.int (nI w)), none, none] [] [s0, s1, s2, s3, s4, s5, s6, s7, s8, s9, jb_mdl I J9 d9 e9 kp nm9 W, s11] _
  refine jb_aload_n (pc' := 59) dX12_thenShout_58 rfl rfl ?_
  refine jb_iload_n (pc' := 60) dX12_thenShout_59 rfl rfl ?_
  refine jb_callV (pc' := 63) (ci := 12) (q := 105) (As := [.int (nI s)]) (a2 := 0) (b2 := 0) wv_X12_177 rfl dX12_thenShout_60 (c_isShout I J9 d9 e9 kp nm9 W hd9 hk9 (nI s)) rfl rfl ⟨by decide, Nat.le_of_eq (Nat.zero_add _), Nat.le_of_eq (Nat.zero_add _)⟩ (Nat.le_of_ble_eq_true rfl) rfl (fun r h9 hq => ?_)
  rcases hq with ⟨rfl, ⟨oo, rfl⟩ | ⟨oo, rfl⟩⟩
  · obtain ⟨j, -, hj2, hj3⟩ := oo
    have := (nI_eq (a := s) (b := j) (by omega) (by omega)).mp hj3
    omega
  · show jb_J _ RX12 cX12_thenShout 6 (Option.some .int) false 50 0 0 63 [some (.ref 105), some (.int (nI n)), some (.int (nI s)), some (.int (nI w)), none, none] [.int 0] [s0, s1, s2, s3, s4, s5, s6, s7, s8, s9, jb_mdl I J9 d9 e9 kp nm9 W, s11] _
    refine jb_istore_ (pc' := 65) dX12_thenShout_63 (by decide) (jb_at4 rfl) rfl ?_
    refine jb_iload (pc' := 67) dX12_thenShout_65 rfl rfl ?_
    refine jb_if_eq (tgt := 79) (pc' := 70) dX12_thenShout_67 (by decide) rfl (fun _ => ?_) (fun z => absurd (by decide) z)
    refine jb_iconst (pc' := 80) 0 dX12_thenShout_79 (by decide) rfl ?_
    refine jb_istore_ (pc' := 82) dX12_thenShout_80 (by decide) (jb_at5 rfl) rfl ?_
    refine jb_aload_n (pc' := 83) dX12_thenShout_82 rfl rfl ?_
    refine gf_X12_13 (pc' := 86) (v := .ref 107) dX12_thenShout_83 rfl rfl rfl ?_
    refine jb_aload_n (pc' := 87) dX12_thenShout_86 rfl rfl ?_
    refine gf_X12_7 (pc' := 90) (v := .ref 106) dX12_thenShout_87 rfl rfl rfl ?_
    refine jb_callS (pc' := 93) (As := [.ref 107, .ref 106]) (a2 := 0) (b2 := 0) wv_X12_212 dX12_thenShout_90 (c_copies_107_106 I J9 d9 e9 kp nm9 W) rfl ⟨by decide, Nat.le_of_eq (Nat.zero_add _), Nat.le_of_eq (Nat.zero_add _)⟩ (Nat.le_of_ble_eq_true rfl) rfl (fun r h9 hq => ?_)
    obtain ⟨rfl, d8, hd8, rfl⟩ := hq
    show jb_J _ RX12 cX12_thenShout 6 (Option.some .int) false 50 0 0 93 [some (.ref 105), some (.int (nI n)), some (.int (nI s)), some (.int (nI w)), some (.int 0), some (.int 0)] [] [s0, s1, s2, s3, s4, s5, s6, s7, s8, s9, jb_mdl I J9 d8 e9 kp nm9 W, s11] _
    refine jb_iload (pc' := 95) dX12_thenShout_93 rfl rfl ?_
    refine jb_if_eq (tgt := 103) (pc' := 98) dX12_thenShout_95 (by decide) rfl (fun _ => ?_) (fun z => absurd (by decide) z)
    refine jb_aload_n (pc' := 104) dX12_thenShout_103 rfl rfl ?_
    refine jb_iconst (pc' := 105) 2 dX12_thenShout_104 (by decide) rfl ?_
    refine jb_callV (pc' := 108) (ci := 12) (q := 105) (As := [.int 2]) (a2 := 0) (b2 := 0) wv_X12_121 rfl dX12_thenShout_105 (c_finds I J9 d8 e9 kp nm9 W 2 (by decide)) rfl rfl ⟨by decide, Nat.le_of_eq (Nat.zero_add _), Nat.le_of_eq (Nat.zero_add _)⟩ (Nat.le_of_ble_eq_true rfl) rfl (fun r h9 hq => ?_)
    obtain ⟨rfl, rfl⟩ := hq
    show jb_J _ RX12 cX12_thenShout 6 (Option.some .int) false 50 0 0 108 [some (.ref 105), some (.int (nI n)), some (.int (nI s)), some (.int (nI w)), some (.int 0), some (.int 0)] [.int (jm_er 2)] [s0, s1, s2, s3, s4, s5, s6, s7, s8, s9, jb_mdl I J9 d8 e9 kp nm9 (va_up W 0 (jm_ef (W 0) 2)), s11] _
    refine jb_iret dX12_thenShout_108 rfl ?_
    refine ⟨rfl, J9, nm9, d8, e9, fun k hk => (hd8 k hk).trans (he9 k hk), rfl⟩
set_option maxRecDepth 100000 in
set_option maxHeartbeats 4000000 in
theorem me_thenShout {sc : Nat × (Nat → Int32)} {s0 s1 s2 s3 s4 s5 s6 s7 s8 s9 s11 : List va_E} {V : Nat → Nat → Nat} (I J d e kp nm : Nat → Int32) (W : Nat → Nat → Int32) (hd : jd_ V d) (hk : jv_ok V) (n s w : Int32) (hb : ¬ (jn_b n 0 201 ∧ jn_b s 0 40 ∧ jn_b w 0 6)) : jb_C sc yX12_thenShout cX12_thenShout 6 (Option.some .int) 1 0 0 [.ref 105, .int n, .int s, .int w] [s0, s1, s2, s3, s4, s5, s6, s7, s8, s9, jb_mdl I J d e kp nm W, s11] (fun r h9 => r = some (.int (jm_er 1)) ∧ h9 = [s0, s1, s2, s3, s4, s5, s6, s7, s8, s9, jb_mdl I J d e kp nm (va_up W 0 (jm_ef (W 0) 1)), s11]) := by
  refine jb_CofJ (ini := false) (by decide +kernel) (fun h => by cases h) (Nat.le_of_ble_eq_true rfl) ?_
  show jb_J sc RX12 cX12_thenShout 6 (Option.some .int) false 1 0 0 0 [some (.ref 105), some (.int n), some (.int s), some (.int w), none, none] [] [s0, s1, s2, s3, s4, s5, s6, s7, s8, s9, jb_mdl I J d e kp nm W, s11] _
  have hd0 := hd
  have hk0 := hk
  obtain ⟨e0, e1, e2, e3, e4, e5, e6, dv, ds, dd⟩ := hd
  obtain ⟨k0, k1, k2, k3, k4, k5, k6, k7, kv, ks, kd⟩ := hk
  refine jb_iload_n (pc' := 1) dX12_thenShout_0 rfl rfl ?_
  refine jb_i2l (pc' := 2) dX12_thenShout_1 rfl ?_
  refine jb_lconst (pc' := 3) 0 dX12_thenShout_2 (by decide) rfl ?_
  refine jb_ldc2 (pc' := 6) 200 dX12_thenShout_3 wk_X12_206 rfl ?_
  refine jb_callS (pc' := 9) (As := [.long n.toInt64, .long 0, .long 200]) (a2 := 0) (b2 := 0) wv_X12_56 dX12_thenShout_6 (c_inL _ n 0 200 (by omega) (by omega)) rfl ⟨by decide, Nat.le_of_eq (Nat.zero_add _), Nat.le_of_eq (Nat.zero_add _)⟩ (Nat.le_of_ble_eq_true rfl) rfl (fun r h9 hq => ?_)
  rcases hq with ⟨rfl, ⟨o1, rfl⟩ | ⟨o1, rfl⟩⟩
  · show jb_J _ RX12 cX12_thenShout 6 (Option.some .int) false 1 0 0 9 [some (.ref 105), some (.int n), some (.int s), some (.int w), none, none] [.int 1] [s0, s1, s2, s3, s4, s5, s6, s7, s8, s9, jb_mdl I J d e kp nm W, s11] _
    refine jb_if_eq (tgt := 36) (pc' := 12) dX12_thenShout_9 (by decide) rfl (fun z => absurd z (by decide)) (fun _ => ?_)
    refine jb_iload_n (pc' := 13) dX12_thenShout_12 rfl rfl ?_
    refine jb_i2l (pc' := 14) dX12_thenShout_13 rfl ?_
    refine jb_lconst (pc' := 15) 0 dX12_thenShout_14 (by decide) rfl ?_
    refine jb_ldc2 (pc' := 18) 39 dX12_thenShout_15 wk_X12_60 rfl ?_
    refine jb_callS (pc' := 21) (As := [.long s.toInt64, .long 0, .long 39]) (a2 := 0) (b2 := 0) wv_X12_56 dX12_thenShout_18 (c_inL _ s 0 39 (by omega) (by omega)) rfl ⟨by decide, Nat.le_of_eq (Nat.zero_add _), Nat.le_of_eq (Nat.zero_add _)⟩ (Nat.le_of_ble_eq_true rfl) rfl (fun r h9 hq => ?_)
    rcases hq with ⟨rfl, ⟨o4, rfl⟩ | ⟨o4, rfl⟩⟩
    · show jb_J _ RX12 cX12_thenShout 6 (Option.some .int) false 1 0 0 21 [some (.ref 105), some (.int n), some (.int s), some (.int w), none, none] [.int 1] [s0, s1, s2, s3, s4, s5, s6, s7, s8, s9, jb_mdl I J d e kp nm W, s11] _
      refine jb_if_eq (tgt := 36) (pc' := 24) dX12_thenShout_21 (by decide) rfl (fun z => absurd z (by decide)) (fun _ => ?_)
      refine jb_iload_n (pc' := 25) dX12_thenShout_24 rfl rfl ?_
      refine jb_i2l (pc' := 26) dX12_thenShout_25 rfl ?_
      refine jb_lconst (pc' := 27) 0 dX12_thenShout_26 (by decide) rfl ?_
      refine jb_ldc2 (pc' := 30) 5 dX12_thenShout_27 wk_X12_180 rfl ?_
      refine jb_callS (pc' := 33) (As := [.long w.toInt64, .long 0, .long 5]) (a2 := 0) (b2 := 0) wv_X12_56 dX12_thenShout_30 (c_inL _ w 0 5 (by omega) (by omega)) rfl ⟨by decide, Nat.le_of_eq (Nat.zero_add _), Nat.le_of_eq (Nat.zero_add _)⟩ (Nat.le_of_ble_eq_true rfl) rfl (fun r h9 hq => ?_)
      rcases hq with ⟨rfl, ⟨o7, rfl⟩ | ⟨o7, rfl⟩⟩
      · show jb_J _ RX12 cX12_thenShout 6 (Option.some .int) false 1 0 0 33 [some (.ref 105), some (.int n), some (.int s), some (.int w), none, none] [.int 1] [s0, s1, s2, s3, s4, s5, s6, s7, s8, s9, jb_mdl I J d e kp nm W, s11] _
        exact absurd ⟨by assumption, by assumption, by assumption⟩ hb
      · show jb_J _ RX12 cX12_thenShout 6 (Option.some .int) false 1 0 0 33 [some (.ref 105), some (.int n), some (.int s), some (.int w), none, none] [.int 0] [s0, s1, s2, s3, s4, s5, s6, s7, s8, s9, jb_mdl I J d e kp nm W, s11] _
        refine jb_if_ne (tgt := 42) (pc' := 36) dX12_thenShout_33 (by decide) rfl (fun z => absurd (by decide) z) (fun _ => ?_)
        refine jb_aload_n (pc' := 37) dX12_thenShout_36 rfl rfl ?_
        refine jb_iconst (pc' := 38) 1 dX12_thenShout_37 (by decide) rfl ?_
        refine jb_callV (pc' := 41) (ci := 12) (q := 105) (As := [.int 1]) (a2 := 0) (b2 := 0) wv_X12_121 rfl dX12_thenShout_38 (c_finds I J d e kp nm W 1 (by decide)) rfl rfl ⟨by decide, Nat.le_of_eq (Nat.zero_add _), Nat.le_of_eq (Nat.zero_add _)⟩ (Nat.le_of_ble_eq_true rfl) rfl (fun r h9 hq => ?_)
        obtain ⟨rfl, rfl⟩ := hq
        show jb_J _ RX12 cX12_thenShout 6 (Option.some .int) false 1 0 0 41 [some (.ref 105), some (.int n), some (.int s), some (.int w), none, none] [.int (jm_er 1)] [s0, s1, s2, s3, s4, s5, s6, s7, s8, s9, jb_mdl I J d e kp nm (va_up W 0 (jm_ef (W 0) 1)), s11] _
        refine jb_iret dX12_thenShout_41 rfl ?_
        exact ⟨rfl, rfl⟩
    · show jb_J _ RX12 cX12_thenShout 6 (Option.some .int) false 1 0 0 21 [some (.ref 105), some (.int n), some (.int s), some (.int w), none, none] [.int 0] [s0, s1, s2, s3, s4, s5, s6, s7, s8, s9, jb_mdl I J d e kp nm W, s11] _
      refine jb_if_eq (tgt := 36) (pc' := 24) dX12_thenShout_21 (by decide) rfl (fun _ => ?_) (fun z => absurd (by decide) z)
      refine jb_aload_n (pc' := 37) dX12_thenShout_36 rfl rfl ?_
      refine jb_iconst (pc' := 38) 1 dX12_thenShout_37 (by decide) rfl ?_
      refine jb_callV (pc' := 41) (ci := 12) (q := 105) (As := [.int 1]) (a2 := 0) (b2 := 0) wv_X12_121 rfl dX12_thenShout_38 (c_finds I J d e kp nm W 1 (by decide)) rfl rfl ⟨by decide, Nat.le_of_eq (Nat.zero_add _), Nat.le_of_eq (Nat.zero_add _)⟩ (Nat.le_of_ble_eq_true rfl) rfl (fun r h9 hq => ?_)
      obtain ⟨rfl, rfl⟩ := hq
      show jb_J _ RX12 cX12_thenShout 6 (Option.some .int) false 1 0 0 41 [some (.ref 105), some (.int n), some (.int s), some (.int w), none, none] [.int (jm_er 1)] [s0, s1, s2, s3, s4, s5, s6, s7, s8, s9, jb_mdl I J d e kp nm (va_up W 0 (jm_ef (W 0) 1)), s11] _
      refine jb_iret dX12_thenShout_41 rfl ?_
      exact ⟨rfl, rfl⟩
  · show jb_J _ RX12 cX12_thenShout 6 (Option.some .int) false 1 0 0 9 [some (.ref 105), some (.int n), some (.int s), some (.int w), none, none] [.int 0] [s0, s1, s2, s3, s4, s5, s6, s7, s8, s9, jb_mdl I J d e kp nm W, s11] _
    refine jb_if_eq (tgt := 36) (pc' := 12) dX12_thenShout_9 (by decide) rfl (fun _ => ?_) (fun z => absurd (by decide) z)
    refine jb_aload_n (pc' := 37) dX12_thenShout_36 rfl rfl ?_
    refine jb_iconst (pc' := 38) 1 dX12_thenShout_37 (by decide) rfl ?_
    refine jb_callV (pc' := 41) (ci := 12) (q := 105) (As := [.int 1]) (a2 := 0) (b2 := 0) wv_X12_121 rfl dX12_thenShout_38 (c_finds I J d e kp nm W 1 (by decide)) rfl rfl ⟨by decide, Nat.le_of_eq (Nat.zero_add _), Nat.le_of_eq (Nat.zero_add _)⟩ (Nat.le_of_ble_eq_true rfl) rfl (fun r h9 hq => ?_)
    obtain ⟨rfl, rfl⟩ := hq
    show jb_J _ RX12 cX12_thenShout 6 (Option.some .int) false 1 0 0 41 [some (.ref 105), some (.int n), some (.int s), some (.int w), none, none] [.int (jm_er 1)] [s0, s1, s2, s3, s4, s5, s6, s7, s8, s9, jb_mdl I J d e kp nm (va_up W 0 (jm_ef (W 0) 1)), s11] _
    refine jb_iret dX12_thenShout_41 rfl ?_
    exact ⟨rfl, rfl⟩
set_option maxRecDepth 100000 in
set_option maxHeartbeats 4000000 in
theorem c_tBy0 {sc : Nat × (Nat → Int32)} {s0 s1 s2 s3 s4 s5 s6 s7 s8 s9 s11 : List va_E} {V : Nat → Nat → Nat} (I J d e kp nm : Nat → Int32) (W : Nat → Nat → Int32) (hd : jd_ V d) (hk : jv_ok V) {G : jm_G} (hG : jm_Gok G) {d0 : Nat → Int32} (hg : jGm sc d0 G) (hag : ∀ k, 316 ≤ k → d k = d0 k) (n : Nat) (hn : n ≤ 200) (h0 : V 0 0 ≤ 9999) : jb_C sc yX12_taughtBy cX12_taughtBy 4 (Option.some .int) 50 0 0 [.ref 105, .int (-1), .int (nI n)] [s0, s1, s2, s3, s4, s5, s6, s7, s8, s9, jb_mdl I J d e kp nm W, s11] (fun r h9 => r = some (.int (nI (jm_ta (jm_pa G false n (V, d 7)).1))) ∧ ∃ J9 nm9 d9 e9, (∀ k, k < 490 → d9 k = d k) ∧ h9 = [s0, s1, s2, s3, s4, s5, s6, s7, s8, s9, jb_mdl I J9 d9 e9 kp nm9 W, s11]) := by
  refine jb_CofJ (ini := false) (by decide +kernel) (fun h => by cases h) (Nat.le_of_ble_eq_true rfl) ?_
  show jb_J sc RX12 cX12_taughtBy 4 (Option.some .int) false 50 0 0 0 [some (.ref 105), some (.int (-1)), some (.int (nI n)), none] [] [s0, s1, s2, s3, s4, s5, s6, s7, s8, s9, jb_mdl I J d e kp nm W, s11] _
  have hd0 := hd
  have hk0 := hk
  obtain ⟨e0, e1, e2, e3, e4, e5, e6, dv, ds, dd⟩ := hd
  obtain ⟨k0, k1, k2, k3, k4, k5, k6, k7, kv, ks, kd⟩ := hk
  refine jb_aload_n (pc' := 1) dX12_taughtBy_0 rfl rfl ?_
  refine gf_X12_7 (pc' := 4) (v := .ref 106) dX12_taughtBy_1 rfl rfl rfl ?_
  refine jb_aload_n (pc' := 5) dX12_taughtBy_4 rfl rfl ?_
  refine gf_X12_13 (pc' := 8) (v := .ref 107) dX12_taughtBy_5 rfl rfl rfl ?_
  refine jb_callS (pc' := 11) (As := [.ref 106, .ref 107]) (a2 := 0) (b2 := 0) wv_X12_212 dX12_taughtBy_8 (c_copies_106_107 I J d e kp nm W) rfl ⟨by decide, Nat.le_of_eq (Nat.zero_add _), Nat.le_of_eq (Nat.zero_add _)⟩ (Nat.le_of_ble_eq_true rfl) rfl (fun r h9 hq => ?_)
  obtain ⟨rfl, e9, he9, rfl⟩ := hq
  show jb_J _ RX12 cX12_taughtBy 4 (Option.some .int) false 50 0 0 11 [some (.ref 105), some (.int (-1)), some (.int (nI n)), none] [] [s0, s1, s2, s3, s4, s5, s6, s7, s8, s9, jb_mdl I J d e9 kp nm W, s11] _
  refine jb_iload_n (pc' := 12) dX12_taughtBy_11 rfl rfl ?_
  refine jb_if_lt (tgt := 36) (pc' := 15) dX12_taughtBy_12 (by decide) rfl (fun _ => ?_) (fun z => absurd (by decide) z)
  refine jb_aload_n (pc' := 37) dX12_taughtBy_36 rfl rfl ?_
  refine jb_iload_n (pc' := 38) dX12_taughtBy_37 rfl rfl ?_
  refine jb_callV (pc' := 41) (ci := 12) (q := 105) (As := [.int (nI n)]) (a2 := 0) (b2 := 0) wv_X12_216 rfl dX12_taughtBy_38 (c_goesOn I J d e9 kp nm W hd0 hk0 hG hg hag n (by omega) (by first | omega | exact h2n)) rfl rfl ⟨by decide, Nat.le_of_eq (Nat.zero_add _), Nat.le_of_eq (Nat.zero_add _)⟩ (Nat.le_of_ble_eq_true rfl) rfl (fun r h9 hq => ?_)
  obtain ⟨rfl, J9, nm9, d9, hd9, hz9, hf9, rfl⟩ := hq
  obtain ⟨hk9, hs9⟩ := jv_pa hG false n (V) (d 7) hk0 (by first | omega | exact h2n)
  obtain ⟨V9, hV9⟩ : ∃ X9, (jm_pa G false n (V, d 7)).1 = X9 := ⟨_, rfl⟩
  rw [hV9] at hd9 hk9 hs9
  show jb_J _ RX12 cX12_taughtBy 4 (Option.some .int) false 50 0 0 41 [some (.ref 105), some (.int (-1)), some (.int (nI n)), none] [] [s0, s1, s2, s3, s4, s5, s6, s7, s8, s9, jb_mdl I J9 d9 e9 kp nm9 W, s11] _
  refine jb_aload_n (pc' := 42) dX12_taughtBy_41 rfl rfl ?_
  refine jb_callV (pc' := 45) (ci := 12) (q := 105) (As := []) (a2 := 0) (b2 := 0) wv_X12_220 rfl dX12_taughtBy_42 (c_taughtm I J9 d9 e9 kp nm9 W hd9 hk9) rfl rfl ⟨by decide, Nat.le_of_eq (Nat.zero_add _), Nat.le_of_eq (Nat.zero_add _)⟩ (Nat.le_of_ble_eq_true rfl) rfl (fun r h9 hq => ?_)
  obtain ⟨rfl, rfl⟩ := hq
  show jb_J _ RX12 cX12_taughtBy 4 (Option.some .int) false 50 0 0 45 [some (.ref 105), some (.int (-1)), some (.int (nI n)), none] [.int (nI (jm_ta V9))] [s0, s1, s2, s3, s4, s5, s6, s7, s8, s9, jb_mdl I J9 d9 e9 kp nm9 W, s11] _
  refine jb_istore_n_ (pc' := 46) dX12_taughtBy_45 (by decide) (jb_at3 rfl) rfl ?_
  refine jb_aload_n (pc' := 47) dX12_taughtBy_46 rfl rfl ?_
  refine gf_X12_13 (pc' := 50) (v := .ref 107) dX12_taughtBy_47 rfl rfl rfl ?_
  refine jb_aload_n (pc' := 51) dX12_taughtBy_50 rfl rfl ?_
  refine gf_X12_7 (pc' := 54) (v := .ref 106) dX12_taughtBy_51 rfl rfl rfl ?_
  refine jb_callS (pc' := 57) (As := [.ref 107, .ref 106]) (a2 := 0) (b2 := 0) wv_X12_212 dX12_taughtBy_54 (c_copies_107_106 I J9 d9 e9 kp nm9 W) rfl ⟨by decide, Nat.le_of_eq (Nat.zero_add _), Nat.le_of_eq (Nat.zero_add _)⟩ (Nat.le_of_ble_eq_true rfl) rfl (fun r h9 hq => ?_)
  obtain ⟨rfl, d8, hd8, rfl⟩ := hq
  show jb_J _ RX12 cX12_taughtBy 4 (Option.some .int) false 50 0 0 57 [some (.ref 105), some (.int (-1)), some (.int (nI n)), some (.int (nI (jm_ta V9)))] [] [s0, s1, s2, s3, s4, s5, s6, s7, s8, s9, jb_mdl I J9 d8 e9 kp nm9 W, s11] _
  refine jb_iload_n (pc' := 58) dX12_taughtBy_57 rfl rfl ?_
  refine jb_iret dX12_taughtBy_58 rfl ?_
  refine ⟨by rw [hV9], J9, nm9, d8, e9, fun k hk => (hd8 k hk).trans (he9 k hk), rfl⟩
set_option maxRecDepth 100000 in
set_option maxHeartbeats 4000000 in
theorem c_tBy1 {sc : Nat × (Nat → Int32)} {s0 s1 s2 s3 s4 s5 s6 s7 s8 s9 s11 : List va_E} {V : Nat → Nat → Nat} (I J d e kp nm : Nat → Int32) (W : Nat → Nat → Int32) (hd : jd_ V d) (hk : jv_ok V) {G : jm_G} (hG : jm_Gok G) {d0 : Nat → Int32} (hg : jGm sc d0 G) (hag : ∀ k, 316 ≤ k → d k = d0 k) (n : Nat) (hn : n ≤ 200) (h0 : V 0 0 ≤ 9999) (v : Nat) (hv : v < V 0 1) : jb_C sc yX12_taughtBy cX12_taughtBy 4 (Option.some .int) 50 0 0 [.ref 105, .int (nI v), .int (nI n)] [s0, s1, s2, s3, s4, s5, s6, s7, s8, s9, jb_mdl I J d e kp nm W, s11] (fun r h9 => r = some (.int (nI (jm_tb G n V (d 7) v))) ∧ ∃ J9 nm9 d9 e9, (∀ k, k < 490 → d9 k = d k) ∧ h9 = [s0, s1, s2, s3, s4, s5, s6, s7, s8, s9, jb_mdl I J9 d9 e9 kp nm9 W, s11]) := by
  refine jb_CofJ (ini := false) (by decide +kernel) (fun h => by cases h) (Nat.le_of_ble_eq_true rfl) ?_
  show jb_J sc RX12 cX12_taughtBy 4 (Option.some .int) false 50 0 0 0 [some (.ref 105), some (.int (nI v)), some (.int (nI n)), none] [] [s0, s1, s2, s3, s4, s5, s6, s7, s8, s9, jb_mdl I J d e kp nm W, s11] _
  have hd0 := hd
  have hk0 := hk
  obtain ⟨e0, e1, e2, e3, e4, e5, e6, dv, ds, dd⟩ := hd
  obtain ⟨k0, k1, k2, k3, k4, k5, k6, k7, kv, ks, kd⟩ := hk
  have q0 := kv v hv
  have hk7 : jv_ok (jv_up V 3 v (1 - V 3 v)) := jv_go hk0 (by omega)
  have h2n : (jv_up V 3 v (1 - V 3 v)) 0 0 + n ≤ 20000 := (show V 0 0 + n ≤ 20000 by omega)
  have hd7 : jd_ (jv_up V 3 v (1 - V 3 v)) (upd d (10 + 3 * v + 2) (nI (1 - V 3 v))) := jd_go hd0 hk0 hv (1 - V 3 v)
  have hag7 : ∀ k, 316 ≤ k → (upd d (10 + 3 * v + 2) (nI (1 - V 3 v))) k = d0 k := fun k hk => (jb_une (by omega)).trans (hag k hk)
  refine jb_aload_n (pc' := 1) dX12_taughtBy_0 rfl rfl ?_
  refine gf_X12_7 (pc' := 4) (v := .ref 106) dX12_taughtBy_1 rfl rfl rfl ?_
  refine jb_aload_n (pc' := 5) dX12_taughtBy_4 rfl rfl ?_
  refine gf_X12_13 (pc' := 8) (v := .ref 107) dX12_taughtBy_5 rfl rfl rfl ?_
  refine jb_callS (pc' := 11) (As := [.ref 106, .ref 107]) (a2 := 0) (b2 := 0) wv_X12_212 dX12_taughtBy_8 (c_copies_106_107 I J d e kp nm W) rfl ⟨by decide, Nat.le_of_eq (Nat.zero_add _), Nat.le_of_eq (Nat.zero_add _)⟩ (Nat.le_of_ble_eq_true rfl) rfl (fun r h9 hq => ?_)
  obtain ⟨rfl, e9, he9, rfl⟩ := hq
  show jb_J _ RX12 cX12_taughtBy 4 (Option.some .int) false 50 0 0 11 [some (.ref 105), some (.int (nI v)), some (.int (nI n)), none] [] [s0, s1, s2, s3, s4, s5, s6, s7, s8, s9, jb_mdl I J d e9 kp nm W, s11] _
  refine jb_iload_n (pc' := 12) dX12_taughtBy_11 rfl rfl ?_
  refine jb_if_lt (tgt := 36) (pc' := 15) dX12_taughtBy_12 (by decide) rfl (fun z => absurd z (nI_pos (n := v) (by omega))) (fun _ => ?_)
  refine jb_aload_n (pc' := 16) dX12_taughtBy_15 rfl rfl ?_
  refine gf_X12_7 (pc' := 19) (v := .ref 106) dX12_taughtBy_16 rfl rfl rfl ?_
  refine jb_bipush (pc' := 21) 10 dX12_taughtBy_19 (by decide) rfl ?_
  refine jb_iconst (pc' := 22) 3 dX12_taughtBy_21 (by decide) rfl ?_
  refine jb_iload_n (pc' := 23) dX12_taughtBy_22 rfl rfl ?_
  refine jb_imul (pc' := 24) dX12_taughtBy_23 rfl ?_
  refine jb_top (v := .int (3 * (nI v))) (w := .int (nI (3 * v))) (jb_vI (pk_mul 3 _)) ?_
  refine jb_iadd (pc' := 25) dX12_taughtBy_24 rfl ?_
  refine jb_top (v := .int (10 + (nI (3 * v)))) (w := .int (nI (10 + 3 * v))) (jb_vI (nI_add 10 _)) ?_
  refine jb_iconst (pc' := 26) 2 dX12_taughtBy_25 (by decide) rfl ?_
  refine jb_iadd (pc' := 27) dX12_taughtBy_26 rfl ?_
  refine jb_top (v := .int ((nI (10 + 3 * v)) + 2)) (w := .int (nI (10 + 3 * v + 2))) (jb_vI (nI_add _ 2)) ?_
  refine jb_iconst (pc' := 28) 1 dX12_taughtBy_27 (by decide) rfl ?_
  refine jb_aload_n (pc' := 29) dX12_taughtBy_28 rfl rfl ?_
  refine jb_iload_n (pc' := 30) dX12_taughtBy_29 rfl rfl ?_
  refine jb_iconst (pc' := 31) 2 dX12_taughtBy_30 (by decide) rfl ?_
  refine jb_callV (pc' := 34) (ci := 12) (q := 105) (As := [.int (nI v), .int 2]) (a2 := 0) (b2 := 0) wv_X12_145 rfl dX12_taughtBy_31 (c_of2 I J d e9 kp nm W hd0 hk0 v hv) rfl rfl ⟨by decide, Nat.le_of_eq (Nat.zero_add _), Nat.le_of_eq (Nat.zero_add _)⟩ (Nat.le_of_ble_eq_true rfl) rfl (fun r h9 hq => ?_)
  obtain ⟨rfl, rfl⟩ := hq
  show jb_J _ RX12 cX12_taughtBy 4 (Option.some .int) false 50 0 0 34 [some (.ref 105), some (.int (nI v)), some (.int (nI n)), none] [.int (nI (V 3 v)), .int 1, .int (nI (10 + 3 * v + 2)), .ref 106] [s0, s1, s2, s3, s4, s5, s6, s7, s8, s9, jb_mdl I J d e9 kp nm W, s11] _
  refine jb_isub (pc' := 35) dX12_taughtBy_34 rfl ?_
  refine jb_top (v := .int (1 - (nI (V 3 v)))) (w := .int (nI (1 - (V 3 v)))) (jb_vI (pk_sub (a := 1) (by omega))) ?_
  refine jb_iastore (pc' := 36) (i9 := (10 + 3 * v + 2)) (f := d) (h' := [s0, s1, s2, s3, s4, s5, s6, s7, s8, s9, jb_mdl I J (upd d (10 + 3 * v + 2) (nI (1 - (V 3 v)))) e9 kp nm W, s11]) dX12_taughtBy_35 rfl (jb_ix_nI (by omega)) (by omega) rfl rfl ?_
  refine jb_aload_n (pc' := 37) dX12_taughtBy_36 rfl rfl ?_
  refine jb_iload_n (pc' := 38) dX12_taughtBy_37 rfl rfl ?_
  refine jb_callV (pc' := 41) (ci := 12) (q := 105) (As := [.int (nI n)]) (a2 := 0) (b2 := 0) wv_X12_216 rfl dX12_taughtBy_38 (c_goesOn I J (upd d (10 + 3 * v + 2) (nI (1 - (V 3 v)))) e9 kp nm W hd7 hk7 hG hg hag7 n (by omega) (by first | omega | exact h2n)) rfl rfl ⟨by decide, Nat.le_of_eq (Nat.zero_add _), Nat.le_of_eq (Nat.zero_add _)⟩ (Nat.le_of_ble_eq_true rfl) rfl (fun r h9 hq => ?_)
  obtain ⟨rfl, J9, nm9, d9, hd9, hz9, hf9, rfl⟩ := hq
  obtain ⟨hk9, hs9⟩ := jv_pa hG false n (jv_up V 3 v (1 - V 3 v)) ((upd d (10 + 3 * v + 2) (nI (1 - V 3 v))) 7) hk7 (by first | omega | exact h2n)
  obtain ⟨V9, hV9⟩ : ∃ X9, (jm_pa G false n (jv_up V 3 v (1 - V 3 v), (upd d (10 + 3 * v + 2) (nI (1 - V 3 v))) 7)).1 = X9 := ⟨_, rfl⟩
  rw [hV9] at hd9 hk9 hs9
  show jb_J _ RX12 cX12_taughtBy 4 (Option.some .int) false 50 0 0 41 [some (.ref 105), some (.int (nI v)), some (.int (nI n)), none] [] [s0, s1, s2, s3, s4, s5, s6, s7, s8, s9, jb_mdl I J9 d9 e9 kp nm9 W, s11] _
  refine jb_aload_n (pc' := 42) dX12_taughtBy_41 rfl rfl ?_
  refine jb_callV (pc' := 45) (ci := 12) (q := 105) (As := []) (a2 := 0) (b2 := 0) wv_X12_220 rfl dX12_taughtBy_42 (c_taughtm I J9 d9 e9 kp nm9 W hd9 hk9) rfl rfl ⟨by decide, Nat.le_of_eq (Nat.zero_add _), Nat.le_of_eq (Nat.zero_add _)⟩ (Nat.le_of_ble_eq_true rfl) rfl (fun r h9 hq => ?_)
  obtain ⟨rfl, rfl⟩ := hq
  show jb_J _ RX12 cX12_taughtBy 4 (Option.some .int) false 50 0 0 45 [some (.ref 105), some (.int (nI v)), some (.int (nI n)), none] [.int (nI (jm_ta V9))] [s0, s1, s2, s3, s4, s5, s6, s7, s8, s9, jb_mdl I J9 d9 e9 kp nm9 W, s11] _
  refine jb_istore_n_ (pc' := 46) dX12_taughtBy_45 (by decide) (jb_at3 rfl) rfl ?_
  refine jb_aload_n (pc' := 47) dX12_taughtBy_46 rfl rfl ?_
  refine gf_X12_13 (pc' := 50) (v := .ref 107) dX12_taughtBy_47 rfl rfl rfl ?_
  refine jb_aload_n (pc' := 51) dX12_taughtBy_50 rfl rfl ?_
  refine gf_X12_7 (pc' := 54) (v := .ref 106) dX12_taughtBy_51 rfl rfl rfl ?_
  refine jb_callS (pc' := 57) (As := [.ref 107, .ref 106]) (a2 := 0) (b2 := 0) wv_X12_212 dX12_taughtBy_54 (c_copies_107_106 I J9 d9 e9 kp nm9 W) rfl ⟨by decide, Nat.le_of_eq (Nat.zero_add _), Nat.le_of_eq (Nat.zero_add _)⟩ (Nat.le_of_ble_eq_true rfl) rfl (fun r h9 hq => ?_)
  obtain ⟨rfl, d8, hd8, rfl⟩ := hq
  show jb_J _ RX12 cX12_taughtBy 4 (Option.some .int) false 50 0 0 57 [some (.ref 105), some (.int (nI v)), some (.int (nI n)), some (.int (nI (jm_ta V9)))] [] [s0, s1, s2, s3, s4, s5, s6, s7, s8, s9, jb_mdl I J9 d8 e9 kp nm9 W, s11] _
  refine jb_iload_n (pc' := 58) dX12_taughtBy_57 rfl rfl ?_
  refine jb_iret dX12_taughtBy_58 rfl ?_
  have z7 : (upd d (10 + 3 * v + 2) (nI (1 - V 3 v))) 7 = d 7 := jb_une (by omega)
  rw [z7] at hV9
  refine ⟨by unfold jm_tb; rw [hV9], J9, nm9, d8, e9, fun k hk => (hd8 k hk).trans (he9 k hk), rfl⟩
theorem jGm.cut {sc : Nat × (Nat → Int32)} {d0 d1 : Nat → Int32} {G : jm_G} (h : jGm sc d0 G) (e : ∀ k, 316 ≤ k → d1 k = d0 k) : jGm sc d1 G := by
  intro s0 s1 s2 s3 s4 s5 s6 s7 s8 s9 s11 I J d e9 kp nm W u x y z w hu hag
  exact h s0 s1 s2 s3 s4 s5 s6 s7 s8 s9 s11 I J d e9 kp nm W u x y z w hu (fun k hk => (hag k hk).trans (e k hk))
theorem c_tBy1x {sc : Nat × (Nat → Int32)} {s0 s1 s2 s3 s4 s5 s6 s7 s8 s9 s11 : List va_E} {V : Nat → Nat → Nat} (I J d e kp nm : Nat → Int32) (W : Nat → Nat → Int32) (hd : jd_ V d) (hk : jv_ok V) {G : jm_G} (hG : jm_Gok G) {d0 : Nat → Int32} (hg : ∀ d1 : Nat → Int32, (∀ k, 316 ≤ k → k < 490 → d1 k = d0 k) → jGm sc d1 G) (hag : ∀ k, 316 ≤ k → k < 490 → d k = d0 k) (n : Nat) (hn : n ≤ 200) (h0 : V 0 0 ≤ 9999) (v : Nat) (hv : v < V 0 1) : jb_C sc yX12_taughtBy cX12_taughtBy 4 (Option.some .int) 50 0 0 [.ref 105, .int (nI v), .int (nI n)] [s0, s1, s2, s3, s4, s5, s6, s7, s8, s9, jb_mdl I J d e kp nm W, s11] (fun r h9 => r = some (.int (nI (jm_tb G n V (d 7) v))) ∧ ∃ J9 nm9 d9 e9, (∀ k, k < 490 → d9 k = d k) ∧ h9 = [s0, s1, s2, s3, s4, s5, s6, s7, s8, s9, jb_mdl I J9 d9 e9 kp nm9 W, s11]) := c_tBy1 I J d e kp nm W hd hk hG (hg d hag) (fun _ _ => rfl) n hn h0 v hv
set_option maxRecDepth 100000 in
set_option maxHeartbeats 4000000 in
theorem l_overm {sc : Nat × (Nat → Int32)} {s0 s1 s2 s3 s4 s5 s6 s7 s8 s9 s11 : List va_E} {V : Nat → Nat → Nat} (I kp : Nat → Int32) (W : Nat → Nat → Int32) (hk : jv_ok V) {G : jm_G} (hG : jm_Gok G) {d0 : Nat → Int32} (hg : ∀ d1 : Nat → Int32, (∀ k, 316 ≤ k → k < 490 → d1 k = d0 k) → jGm sc d1 G) (n : Nat) (hn : n ≤ 200) (h0 : V 0 0 ≤ 9999) (z9 : Int32) : ∀ (k v most : Nat) (b : Option Nat) (d J e nm : Nat → Int32) (x5 : Option Value), v + k = V 0 1 → most ≤ 40 → (∀ q, b = some q → q < V 0 1) → jd_ V d → d 7 = z9 → (∀ k, 316 ≤ k → k < 490 → d k = d0 k) → jb_J sc RX12 cX12_over 6 (Option.some .int) false 51 0 0 30 [some (.ref 105), some (.int (nI n)), some (.int (jq_v b)), some (.int (nI most)), some (.int (nI v)), x5] [] [s0, s1, s2, s3, s4, s5, s6, s7, s8, s9, jb_mdl I J d e kp nm W, s11] (fun r h9 => ∃ J9 nm9 d9 e9 W9, (∀ k, k < 490 → d9 k = d k) ∧ ((jm_ov (jm_tb G n V z9) k v most b = none ∧ r = some (.int (jm_er 2)) ∧ W9 = va_up W 0 (jm_ef (W 0) 2)) ∨ (∃ q, jm_ov (jm_tb G n V z9) k v most b = some q ∧ r = some (.int (nI q)) ∧ W9 = W)) ∧ h9 = [s0, s1, s2, s3, s4, s5, s6, s7, s8, s9, jb_mdl I J9 d9 e9 kp nm9 W9, s11]) := by
  have hk0 := hk
  obtain ⟨k0, k1, k2, k3, k4, k5, k6, k7, kv, ks, kd⟩ := hk
  intro k
  induction k with
  | zero =>
    intro v most b d J e nm x5 hk9 hm hb9 hd hz hag
    have hd0 := hd
    obtain ⟨e0, e1, e2, e3, e4, e5, e6, dv, ds, dd⟩ := hd
    cases b with
    | none =>
      show jb_J _ RX12 cX12_over 6 (Option.some .int) false 51 0 0 30 [some (.ref 105), some (.int (nI n)), some (.int (-1)), some (.int (nI most)), some (.int (nI v)), x5] [] [s0, s1, s2, s3, s4, s5, s6, s7, s8, s9, jb_mdl I J d e kp nm W, s11] _
      refine jb_iload (pc' := 32) dX12_over_30 rfl rfl ?_
      refine jb_aload_n (pc' := 33) dX12_over_32 rfl rfl ?_
      refine gf_X12_7 (pc' := 36) (v := .ref 106) dX12_over_33 rfl rfl rfl ?_
      refine jb_iconst (pc' := 37) 4 dX12_over_36 (by decide) rfl ?_
      refine jb_iaload (pc' := 38) (i9 := 4) (f := d) dX12_over_37 rfl jb_x4 (by decide) rfl ?_
      refine jb_top (v := .int (d 4)) (w := .int (nI (V 0 1))) (jb_vI e4) ?_
      refine jb_icmp_ge (tgt := 82) (pc' := 41) dX12_over_38 (by decide) rfl (fun _ => ?_) (fun z => absurd (nI_le (a := V 0 1) (b := v) (by omega) (by omega)) z)
      refine jb_iload_n (pc' := 83) dX12_over_82 rfl rfl ?_
      refine jb_if_ge (tgt := 94) (pc' := 86) dX12_over_83 (by decide) rfl (fun z => absurd z (by decide)) (fun _ => ?_)
      refine jb_aload_n (pc' := 87) dX12_over_86 rfl rfl ?_
      refine jb_iconst (pc' := 88) 2 dX12_over_87 (by decide) rfl ?_
      refine jb_callV (pc' := 91) (ci := 12) (q := 105) (As := [.int 2]) (a2 := 0) (b2 := 0) wv_X12_121 rfl dX12_over_88 (c_finds I J d e kp nm W 2 (by decide)) rfl rfl ⟨by decide, Nat.le_of_eq (Nat.zero_add _), Nat.le_of_eq (Nat.zero_add _)⟩ (Nat.le_of_ble_eq_true rfl) rfl (fun r h9 hq => ?_)
      obtain ⟨rfl, rfl⟩ := hq
      show jb_J _ RX12 cX12_over 6 (Option.some .int) false 51 0 0 91 [some (.ref 105), some (.int (nI n)), some (.int (-1)), some (.int (nI most)), some (.int (nI v)), x5] [.int (jm_er 2)] [s0, s1, s2, s3, s4, s5, s6, s7, s8, s9, jb_mdl I J d e kp nm (va_up W 0 (jm_ef (W 0) 2)), s11] _
      refine jb_goto (pc' := 95) dX12_over_91 (by decide) ?_
      refine jb_iret dX12_over_95 rfl ?_
      exact ⟨J, nm, d, e, _, fun _ _ => rfl, Or.inl ⟨rfl, rfl, rfl⟩, rfl⟩
    | some q =>
      have hq9 := hb9 q rfl
      show jb_J _ RX12 cX12_over 6 (Option.some .int) false 51 0 0 30 [some (.ref 105), some (.int (nI n)), some (.int (nI q)), some (.int (nI most)), some (.int (nI v)), x5] [] [s0, s1, s2, s3, s4, s5, s6, s7, s8, s9, jb_mdl I J d e kp nm W, s11] _
      refine jb_iload (pc' := 32) dX12_over_30 rfl rfl ?_
      refine jb_aload_n (pc' := 33) dX12_over_32 rfl rfl ?_
      refine gf_X12_7 (pc' := 36) (v := .ref 106) dX12_over_33 rfl rfl rfl ?_
      refine jb_iconst (pc' := 37) 4 dX12_over_36 (by decide) rfl ?_
      refine jb_iaload (pc' := 38) (i9 := 4) (f := d) dX12_over_37 rfl jb_x4 (by decide) rfl ?_
      refine jb_top (v := .int (d 4)) (w := .int (nI (V 0 1))) (jb_vI e4) ?_
      refine jb_icmp_ge (tgt := 82) (pc' := 41) dX12_over_38 (by decide) rfl (fun _ => ?_) (fun z => absurd (nI_le (a := V 0 1) (b := v) (by omega) (by omega)) z)
      refine jb_iload_n (pc' := 83) dX12_over_82 rfl rfl ?_
      refine jb_if_ge (tgt := 94) (pc' := 86) dX12_over_83 (by decide) rfl (fun _ => ?_) (fun z => absurd (nI_pos' (n := q) (by omega)) z)
      refine jb_iload_n (pc' := 95) dX12_over_94 rfl rfl ?_
      refine jb_iret dX12_over_95 rfl ?_
      exact ⟨J, nm, d, e, _, fun _ _ => rfl, Or.inr ⟨q, rfl, rfl, rfl⟩, rfl⟩
  | succ k ih =>
    intro v most b d J e nm x5 hk9 hm hb9 hd hz hag
    have hd0 := hd
    obtain ⟨e0, e1, e2, e3, e4, e5, e6, dv, ds, dd⟩ := hd
    have q0 := kv v (by omega)
    have t40 := jm_tb_le (n := n) hG hk0 (by omega) z9 v q0.2.2
    by_cases hcc : most < (jm_tb G n V z9) v
    · show jb_J _ RX12 cX12_over 6 (Option.some .int) false 51 0 0 30 [some (.ref 105), some (.int (nI n)), some (.int (jq_v b)), some (.int (nI most)), some (.int (nI v)), x5] [] [s0, s1, s2, s3, s4, s5, s6, s7, s8, s9, jb_mdl I J d e kp nm W, s11] _
      refine jb_iload (pc' := 32) dX12_over_30 rfl rfl ?_
      refine jb_aload_n (pc' := 33) dX12_over_32 rfl rfl ?_
      refine gf_X12_7 (pc' := 36) (v := .ref 106) dX12_over_33 rfl rfl rfl ?_
      refine jb_iconst (pc' := 37) 4 dX12_over_36 (by decide) rfl ?_
      refine jb_iaload (pc' := 38) (i9 := 4) (f := d) dX12_over_37 rfl jb_x4 (by decide) rfl ?_
      refine jb_top (v := .int (d 4)) (w := .int (nI (V 0 1))) (jb_vI e4) ?_
      refine jb_icmp_ge (tgt := 82) (pc' := 41) dX12_over_38 (by decide) rfl (fun z => absurd z (nI_ge (a := v) (b := V 0 1) (by omega) (by omega))) (fun _ => ?_)
      refine jb_aload_n (pc' := 42) dX12_over_41 rfl rfl ?_
      refine jb_iload (pc' := 44) dX12_over_42 rfl rfl ?_
      refine jb_iload_n (pc' := 45) dX12_over_44 rfl rfl ?_
      refine jb_callV (pc' := 48) (ci := 12) (q := 105) (As := [.int (nI v), .int (nI n)]) (a2 := 0) (b2 := 0) wv_X12_256 rfl dX12_over_45 (c_tBy1x I J d e kp nm W hd0 hk0 hG hg hag n hn h0 v (by omega)) rfl rfl ⟨by decide, Nat.le_of_eq (Nat.zero_add _), Nat.le_of_eq (Nat.zero_add _)⟩ (Nat.le_of_ble_eq_true rfl) rfl (fun r h9 hq => ?_)
      obtain ⟨rfl, J9, nm9, d9, e9, hd9, rfl⟩ := hq
      rw [hz]
      show jb_J _ RX12 cX12_over 6 (Option.some .int) false 51 0 0 48 [some (.ref 105), some (.int (nI n)), some (.int (jq_v b)), some (.int (nI most)), some (.int (nI v)), x5] [.int (nI ((jm_tb G n V z9) v))] [s0, s1, s2, s3, s4, s5, s6, s7, s8, s9, jb_mdl I J9 d9 e9 kp nm9 W, s11] _
      refine jb_istore_ (pc' := 50) dX12_over_48 (by decide) (jb_at5 rfl) rfl ?_
      refine jb_iload (pc' := 52) dX12_over_50 rfl rfl ?_
      refine jb_iload_n (pc' := 53) dX12_over_52 rfl rfl ?_
      refine jb_icmp_le (tgt := 61) (pc' := 56) dX12_over_53 (by decide) rfl (fun z => absurd z (nI_ge (a := most) (b := (jm_tb G n V z9) v) (by omega) (by omega))) (fun _ => ?_)
      refine jb_iload (pc' := 58) dX12_over_56 rfl rfl ?_
      refine jb_goto (pc' := 62) dX12_over_58 (by decide) ?_
      refine jb_istore_n_ (pc' := 63) dX12_over_62 (by decide) (jb_at2 rfl) rfl ?_
      refine jb_iload (pc' := 65) dX12_over_63 rfl rfl ?_
      refine jb_iload_n (pc' := 66) dX12_over_65 rfl rfl ?_
      refine jb_icmp_le (tgt := 74) (pc' := 69) dX12_over_66 (by decide) rfl (fun z => absurd z (nI_ge (a := most) (b := (jm_tb G n V z9) v) (by omega) (by omega))) (fun _ => ?_)
      refine jb_iload (pc' := 71) dX12_over_69 rfl rfl ?_
      refine jb_goto (pc' := 75) dX12_over_71 (by decide) ?_
      refine jb_istore_n_ (pc' := 76) dX12_over_75 (by decide) (jb_at3 rfl) rfl ?_
      refine jb_iinc_ (pc' := 79) (nI (v + 1)) dX12_over_76 (by decide) rfl (jb_inc v 1) (jb_at4 rfl) rfl ?_
      refine jb_goto (pc' := 30) dX12_over_79 (by decide) ?_
      have eo : jm_ov (jm_tb G n V z9) (k + 1) v most b = jm_ov (jm_tb G n V z9) k (v + 1) ((jm_tb G n V z9) v) (some v) := if_pos (by omega)
      rw [eo]
      refine jb_J.mono (ih (v + 1) ((jm_tb G n V z9) v) (some v) d9 J9 e9 nm9 _ (by omega) (by omega) (fun q hq => by cases hq; omega) (hd0.to hk0 hd9) ((hd9 7 (by omega)).trans hz) (fun k h1 h2 => (hd9 k h2).trans (hag k h1 h2))) (Nat.le_refl _) (Nat.le_refl _) (Nat.le_refl _) (fun r h9 hq => ?_)
      obtain ⟨J7, nm7, d7, e7, W7, hd7, hor, rfl⟩ := hq
      exact ⟨J7, nm7, d7, e7, W7, fun k hk => (hd7 k hk).trans (hd9 k hk), hor, rfl⟩
    · show jb_J _ RX12 cX12_over 6 (Option.some .int) false 51 0 0 30 [some (.ref 105), some (.int (nI n)), some (.int (jq_v b)), some (.int (nI most)), some (.int (nI v)), x5] [] [s0, s1, s2, s3, s4, s5, s6, s7, s8, s9, jb_mdl I J d e kp nm W, s11] _
      refine jb_iload (pc' := 32) dX12_over_30 rfl rfl ?_
      refine jb_aload_n (pc' := 33) dX12_over_32 rfl rfl ?_
      refine gf_X12_7 (pc' := 36) (v := .ref 106) dX12_over_33 rfl rfl rfl ?_
      refine jb_iconst (pc' := 37) 4 dX12_over_36 (by decide) rfl ?_
      refine jb_iaload (pc' := 38) (i9 := 4) (f := d) dX12_over_37 rfl jb_x4 (by decide) rfl ?_
      refine jb_top (v := .int (d 4)) (w := .int (nI (V 0 1))) (jb_vI e4) ?_
      refine jb_icmp_ge (tgt := 82) (pc' := 41) dX12_over_38 (by decide) rfl (fun z => absurd z (nI_ge (a := v) (b := V 0 1) (by omega) (by omega))) (fun _ => ?_)
      refine jb_aload_n (pc' := 42) dX12_over_41 rfl rfl ?_
      refine jb_iload (pc' := 44) dX12_over_42 rfl rfl ?_
      refine jb_iload_n (pc' := 45) dX12_over_44 rfl rfl ?_
      refine jb_callV (pc' := 48) (ci := 12) (q := 105) (As := [.int (nI v), .int (nI n)]) (a2 := 0) (b2 := 0) wv_X12_256 rfl dX12_over_45 (c_tBy1x I J d e kp nm W hd0 hk0 hG hg hag n hn h0 v (by omega)) rfl rfl ⟨by decide, Nat.le_of_eq (Nat.zero_add _), Nat.le_of_eq (Nat.zero_add _)⟩ (Nat.le_of_ble_eq_true rfl) rfl (fun r h9 hq => ?_)
      obtain ⟨rfl, J9, nm9, d9, e9, hd9, rfl⟩ := hq
      rw [hz]
      show jb_J _ RX12 cX12_over 6 (Option.some .int) false 51 0 0 48 [some (.ref 105), some (.int (nI n)), some (.int (jq_v b)), some (.int (nI most)), some (.int (nI v)), x5] [.int (nI ((jm_tb G n V z9) v))] [s0, s1, s2, s3, s4, s5, s6, s7, s8, s9, jb_mdl I J9 d9 e9 kp nm9 W, s11] _
      refine jb_istore_ (pc' := 50) dX12_over_48 (by decide) (jb_at5 rfl) rfl ?_
      refine jb_iload (pc' := 52) dX12_over_50 rfl rfl ?_
      refine jb_iload_n (pc' := 53) dX12_over_52 rfl rfl ?_
      refine jb_icmp_le (tgt := 61) (pc' := 56) dX12_over_53 (by decide) rfl (fun _ => ?_) (fun z => absurd (nI_le (a := (jm_tb G n V z9) v) (b := most) (by omega) (by omega)) z)
      refine jb_iload_n (pc' := 62) dX12_over_61 rfl rfl ?_
      refine jb_istore_n_ (pc' := 63) dX12_over_62 (by decide) (jb_at2 rfl) rfl ?_
      refine jb_iload (pc' := 65) dX12_over_63 rfl rfl ?_
      refine jb_iload_n (pc' := 66) dX12_over_65 rfl rfl ?_
      refine jb_icmp_le (tgt := 74) (pc' := 69) dX12_over_66 (by decide) rfl (fun _ => ?_) (fun z => absurd (nI_le (a := (jm_tb G n V z9) v) (b := most) (by omega) (by omega)) z)
      refine jb_iload_n (pc' := 75) dX12_over_74 rfl rfl ?_
      refine jb_istore_n_ (pc' := 76) dX12_over_75 (by decide) (jb_at3 rfl) rfl ?_
      refine jb_iinc_ (pc' := 79) (nI (v + 1)) dX12_over_76 (by decide) rfl (jb_inc v 1) (jb_at4 rfl) rfl ?_
      refine jb_goto (pc' := 30) dX12_over_79 (by decide) ?_
      have eo : jm_ov (jm_tb G n V z9) (k + 1) v most b = jm_ov (jm_tb G n V z9) k (v + 1) most b := if_neg (by omega)
      rw [eo]
      refine jb_J.mono (ih (v + 1) most b d9 J9 e9 nm9 _ (by omega) (by omega) hb9 (hd0.to hk0 hd9) ((hd9 7 (by omega)).trans hz) (fun k h1 h2 => (hd9 k h2).trans (hag k h1 h2))) (Nat.le_refl _) (Nat.le_refl _) (Nat.le_refl _) (fun r h9 hq => ?_)
      obtain ⟨J7, nm7, d7, e7, W7, hd7, hor, rfl⟩ := hq
      exact ⟨J7, nm7, d7, e7, W7, fun k hk => (hd7 k hk).trans (hd9 k hk), hor, rfl⟩
set_option maxRecDepth 100000 in
set_option maxHeartbeats 4000000 in
theorem mx_over {sc : Nat × (Nat → Int32)} {s0 s1 s2 s3 s4 s5 s6 s7 s8 s9 s11 : List va_E} {V : Nat → Nat → Nat} (I J d e kp nm : Nat → Int32) (W : Nat → Nat → Int32) (hd : jd_ V d) (hk : jv_ok V) {G : jm_G} (hG : jm_Gok G) (hg : ∀ d1 : Nat → Int32, (∀ k, 316 ≤ k → k < 490 → d1 k = d k) → jGm sc d1 G) (n : Nat) (hn : n ≤ 200) (h0 : V 0 0 ≤ 9999) : jb_C sc yX12_over cX12_over 6 (Option.some .int) 51 0 0 [.ref 105, .int (nI n)] [s0, s1, s2, s3, s4, s5, s6, s7, s8, s9, jb_mdl I J d e kp nm W, s11] (fun r h9 => ∃ J9 nm9 d9 e9 W9, (∀ k, k < 490 → d9 k = d k) ∧ ((jm_ov (jm_tb G n V (d 7)) (V 0 1) 0 (jm_ta (jm_pa G false n (V, d 7)).1) none = none ∧ r = some (.int (jm_er 2)) ∧ W9 = va_up W 0 (jm_ef (W 0) 2)) ∨ (∃ q, jm_ov (jm_tb G n V (d 7)) (V 0 1) 0 (jm_ta (jm_pa G false n (V, d 7)).1) none = some q ∧ r = some (.int (nI q)) ∧ W9 = W)) ∧ h9 = [s0, s1, s2, s3, s4, s5, s6, s7, s8, s9, jb_mdl I J9 d9 e9 kp nm9 W9, s11]) := by
  refine jb_CofJ (ini := false) (by decide +kernel) (fun h => by cases h) (Nat.le_of_ble_eq_true rfl) ?_
  show jb_J sc RX12 cX12_over 6 (Option.some .int) false 51 0 0 0 [some (.ref 105), some (.int (nI n)), none, none, none, none] [] [s0, s1, s2, s3, s4, s5, s6, s7, s8, s9, jb_mdl I J d e kp nm W, s11] _
  have hd0 := hd
  have hk0 := hk
  obtain ⟨e0, e1, e2, e3, e4, e5, e6, dv, ds, dd⟩ := hd
  obtain ⟨k0, k1, k2, k3, k4, k5, k6, k7, kv, ks, kd⟩ := hk
  refine jb_iload_n (pc' := 1) dX12_over_0 rfl rfl ?_
  refine jb_i2l (pc' := 2) dX12_over_1 rfl ?_
  refine jb_lconst (pc' := 3) 0 dX12_over_2 (by decide) rfl ?_
  refine jb_ldc2 (pc' := 6) 200 dX12_over_3 wk_X12_206 rfl ?_
  refine jb_callS (pc' := 9) (As := [.long ((nI n).toInt64), .long 0, .long 200]) (a2 := 0) (b2 := 0) wv_X12_56 dX12_over_6 (c_inLG _ n 0 200 (by omega) (by omega) (by omega)) rfl ⟨by decide, Nat.le_of_eq (Nat.zero_add _), Nat.le_of_eq (Nat.zero_add _)⟩ (Nat.le_of_ble_eq_true rfl) rfl (fun r h9 hq => ?_)
  obtain ⟨rfl, rfl⟩ := hq
  show jb_J _ RX12 cX12_over 6 (Option.some .int) false 51 0 0 9 [some (.ref 105), some (.int (nI n)), none, none, none, none] [.int 1] [s0, s1, s2, s3, s4, s5, s6, s7, s8, s9, jb_mdl I J d e kp nm W, s11] _
  refine jb_if_ne (tgt := 18) (pc' := 12) dX12_over_9 (by decide) rfl (fun _ => ?_) (fun z => absurd z (by decide))
  refine jb_iconst (pc' := 19) (-1) dX12_over_18 (by decide) rfl ?_
  refine jb_istore_n_ (pc' := 20) dX12_over_19 (by decide) (jb_at2 rfl) rfl ?_
  refine jb_aload_n (pc' := 21) dX12_over_20 rfl rfl ?_
  refine jb_iconst (pc' := 22) (-1) dX12_over_21 (by decide) rfl ?_
  refine jb_iload_n (pc' := 23) dX12_over_22 rfl rfl ?_
  refine jb_callV (pc' := 26) (ci := 12) (q := 105) (As := [.int (-1), .int (nI n)]) (a2 := 0) (b2 := 0) wv_X12_256 rfl dX12_over_23 (c_tBy0 I J d e kp nm W hd0 hk0 hG (hg d (fun _ _ _ => rfl)) (fun _ _ => rfl) n hn h0) rfl rfl ⟨by decide, Nat.le_of_eq (Nat.zero_add _), Nat.le_of_eq (Nat.zero_add _)⟩ (Nat.le_of_ble_eq_true rfl) rfl (fun r h9 hq => ?_)
  obtain ⟨rfl, J9, nm9, d9, e9, hd9, rfl⟩ := hq
  show jb_J _ RX12 cX12_over 6 (Option.some .int) false 51 0 0 26 [some (.ref 105), some (.int (nI n)), some (.int (-1)), none, none, none] [.int (nI (jm_ta (jm_pa G false n (V, d 7)).1))] [s0, s1, s2, s3, s4, s5, s6, s7, s8, s9, jb_mdl I J9 d9 e9 kp nm9 W, s11] _
  refine jb_istore_n_ (pc' := 27) dX12_over_26 (by decide) (jb_at3 rfl) rfl ?_
  refine jb_iconst (pc' := 28) 0 dX12_over_27 (by decide) rfl ?_
  refine jb_istore_ (pc' := 30) dX12_over_28 (by decide) (jb_at4 rfl) rfl ?_
  have t40 := jm_ta_le (jv_pa hG false n V (d 7) hk0 (by omega)).1
  refine jb_J.mono (l_overm I kp W hk0 hG hg n hn h0 (d 7) (V 0 1) 0 (jm_ta (jm_pa G false n (V, d 7)).1) none d9 J9 e9 nm9 _ (by omega) t40 (fun q hq => by cases hq) (hd0.to hk0 hd9) (hd9 7 (by omega)) (fun k h1 h2 => hd9 k h2)) (Nat.le_refl _) (Nat.le_refl _) (Nat.le_refl _) (fun r h9 hq => ?_)
  obtain ⟨J7, nm7, d7, e7, W7, hd7, hor, rfl⟩ := hq
  exact ⟨J7, nm7, d7, e7, W7, fun k hk => (hd7 k hk).trans (hd9 k hk), hor, rfl⟩
set_option maxRecDepth 100000 in
set_option maxHeartbeats 4000000 in
theorem me_over {sc : Nat × (Nat → Int32)} {s0 s1 s2 s3 s4 s5 s6 s7 s8 s9 s11 : List va_E} {V : Nat → Nat → Nat} (I J d e kp nm : Nat → Int32) (W : Nat → Nat → Int32) (hd : jd_ V d) (hk : jv_ok V) (n : Int32) (hb : ¬ jn_b n 0 201) : jb_C sc yX12_over cX12_over 6 (Option.some .int) 1 0 0 [.ref 105, .int n] [s0, s1, s2, s3, s4, s5, s6, s7, s8, s9, jb_mdl I J d e kp nm W, s11] (fun r h9 => r = some (.int (jm_er 1)) ∧ h9 = [s0, s1, s2, s3, s4, s5, s6, s7, s8, s9, jb_mdl I J d e kp nm (va_up W 0 (jm_ef (W 0) 1)), s11]) := by
  refine jb_CofJ (ini := false) (by decide +kernel) (fun h => by cases h) (Nat.le_of_ble_eq_true rfl) ?_
  show jb_J sc RX12 cX12_over 6 (Option.some .int) false 1 0 0 0 [some (.ref 105), some (.int n), none, none, none, none] [] [s0, s1, s2, s3, s4, s5, s6, s7, s8, s9, jb_mdl I J d e kp nm W, s11] _
  have hd0 := hd
  have hk0 := hk
  obtain ⟨e0, e1, e2, e3, e4, e5, e6, dv, ds, dd⟩ := hd
  obtain ⟨k0, k1, k2, k3, k4, k5, k6, k7, kv, ks, kd⟩ := hk
  refine jb_iload_n (pc' := 1) dX12_over_0 rfl rfl ?_
  refine jb_i2l (pc' := 2) dX12_over_1 rfl ?_
  refine jb_lconst (pc' := 3) 0 dX12_over_2 (by decide) rfl ?_
  refine jb_ldc2 (pc' := 6) 200 dX12_over_3 wk_X12_206 rfl ?_
  refine jb_callS (pc' := 9) (As := [.long n.toInt64, .long 0, .long 200]) (a2 := 0) (b2 := 0) wv_X12_56 dX12_over_6 (c_inL _ n 0 200 (by omega) (by omega)) rfl ⟨by decide, Nat.le_of_eq (Nat.zero_add _), Nat.le_of_eq (Nat.zero_add _)⟩ (Nat.le_of_ble_eq_true rfl) rfl (fun r h9 hq => ?_)
  rcases hq with ⟨rfl, ⟨o1, rfl⟩ | ⟨o1, rfl⟩⟩
  · exact absurd (by assumption) hb
  · show jb_J _ RX12 cX12_over 6 (Option.some .int) false 1 0 0 9 [some (.ref 105), some (.int n), none, none, none, none] [.int 0] [s0, s1, s2, s3, s4, s5, s6, s7, s8, s9, jb_mdl I J d e kp nm W, s11] _
    refine jb_if_ne (tgt := 18) (pc' := 12) dX12_over_9 (by decide) rfl (fun z => absurd (by decide) z) (fun _ => ?_)
    refine jb_aload_n (pc' := 13) dX12_over_12 rfl rfl ?_
    refine jb_iconst (pc' := 14) 1 dX12_over_13 (by decide) rfl ?_
    refine jb_callV (pc' := 17) (ci := 12) (q := 105) (As := [.int 1]) (a2 := 0) (b2 := 0) wv_X12_121 rfl dX12_over_14 (c_finds I J d e kp nm W 1 (by decide)) rfl rfl ⟨by decide, Nat.le_of_eq (Nat.zero_add _), Nat.le_of_eq (Nat.zero_add _)⟩ (Nat.le_of_ble_eq_true rfl) rfl (fun r h9 hq => ?_)
    obtain ⟨rfl, rfl⟩ := hq
    show jb_J _ RX12 cX12_over 6 (Option.some .int) false 1 0 0 17 [some (.ref 105), some (.int n), none, none, none, none] [.int (jm_er 1)] [s0, s1, s2, s3, s4, s5, s6, s7, s8, s9, jb_mdl I J d e kp nm (va_up W 0 (jm_ef (W 0) 1)), s11] _
    refine jb_iret dX12_over_17 rfl ?_
    exact ⟨rfl, rfl⟩
set_option maxRecDepth 100000 in
set_option maxHeartbeats 4000000 in
theorem l_checke {sc : Nat × (Nat → Int32)} {s0 s1 s2 s3 s4 s5 s6 s7 s8 s9 s11 : List va_E} (I J d e kp nm : Nat → Int32) (W : Nat → Nat → Int32) (x1 x3 : Option Value) (v : Int32) : jb_J sc RX12 cX12_check 4 (Option.some .int) false 49 0 0 78 [some (.ref 105), x1, some (.int v), x3] [] [s0, s1, s2, s3, s4, s5, s6, s7, s8, s9, jb_mdl I J d e kp nm W, s11] (fun r h9 => r = some (.int (v)) ∧ ∃ J9 nm9 d9, (∀ k, k < 490 → d9 k = e k) ∧ h9 = [s0, s1, s2, s3, s4, s5, s6, s7, s8, s9, jb_mdl I J9 d9 e kp nm9 W, s11]) := by
  show jb_J _ RX12 cX12_check 4 (Option.some .int) false 49 0 0 78 [some (.ref 105), x1, some (.int v), x3] [] [s0, s1, s2, s3, s4, s5, s6, s7, s8, s9, jb_mdl I J d e kp nm W, s11] _
  refine jb_aload_n (pc' := 79) dX12_check_78 rfl rfl ?_
  refine gf_X12_13 (pc' := 82) (v := .ref 107) dX12_check_79 rfl rfl rfl ?_
  refine jb_aload_n (pc' := 83) dX12_check_82 rfl rfl ?_
  refine gf_X12_7 (pc' := 86) (v := .ref 106) dX12_check_83 rfl rfl rfl ?_
  refine jb_callS (pc' := 89) (As := [.ref 107, .ref 106]) (a2 := 0) (b2 := 0) wv_X12_212 dX12_check_86 (c_copies_107_106 I J d e kp nm W) rfl ⟨by decide, Nat.le_of_eq (Nat.zero_add _), Nat.le_of_eq (Nat.zero_add _)⟩ (Nat.le_of_ble_eq_true rfl) rfl (fun r h9 hq => ?_)
  obtain ⟨rfl, d8, hd8, rfl⟩ := hq
  show jb_J _ RX12 cX12_check 4 (Option.some .int) false 49 0 0 89 [some (.ref 105), x1, some (.int v), x3] [] [s0, s1, s2, s3, s4, s5, s6, s7, s8, s9, jb_mdl I J d8 e kp nm W, s11] _
  refine jb_iload_n (pc' := 90) dX12_check_89 rfl rfl ?_
  refine jb_iret dX12_check_90 rfl ?_
  exact ⟨rfl, J, nm, d8, hd8, rfl⟩
set_option maxRecDepth 100000 in
set_option maxHeartbeats 4000000 in
theorem l_checkm {sc : Nat × (Nat → Int32)} {s0 s1 s2 s3 s4 s5 s6 s7 s8 s9 s11 : List va_E} (I e kp : Nat → Int32) (W : Nat → Nat → Int32) {G : jm_G} (hG : jm_Gok G) {d0 : Nat → Int32} (hg : jGm sc d0 G) (wt : Nat) (hwt : wt ≤ 20) (w9 : Nat → Int32) (hw9 : ∀ k, k < wt → d0 (318 + k) = w9 k) : ∀ (k i : Nat) (V : Nat → Nat → Nat) (d J nm : Nat → Int32), i + k = wt → V 0 0 + k ≤ 20000 → jd_ V d → jv_ok V → (∀ k, 316 ≤ k → d k = d0 k) → jb_J sc RX12 cX12_check 4 (Option.some .int) false 49 0 0 31 [some (.ref 105), some (.int (nI wt)), some (.int 0), some (.int (nI i))] [] [s0, s1, s2, s3, s4, s5, s6, s7, s8, s9, jb_mdl I J d e kp nm W, s11] (fun r h9 => r = some (.int (jm_ck G w9 k i (V, d 7))) ∧ ∃ J9 nm9 d9, (∀ k, k < 490 → d9 k = e k) ∧ h9 = [s0, s1, s2, s3, s4, s5, s6, s7, s8, s9, jb_mdl I J9 d9 e kp nm9 W, s11]) := by
  intro k
  induction k with
  | zero =>
    intro i V d J nm hi h2 hd hk hag
    show jb_J _ RX12 cX12_check 4 (Option.some .int) false 49 0 0 31 [some (.ref 105), some (.int (nI wt)), some (.int 0), some (.int (nI i))] [] [s0, s1, s2, s3, s4, s5, s6, s7, s8, s9, jb_mdl I J d e kp nm W, s11] _
    refine jb_iload_n (pc' := 32) dX12_check_31 rfl rfl ?_
    refine jb_iload_n (pc' := 33) dX12_check_32 rfl rfl ?_
    refine jb_icmp_ge (tgt := 78) (pc' := 36) dX12_check_33 (by decide) rfl (fun _ => ?_) (fun z => absurd (nI_le (a := wt) (b := i) (by omega) (by omega)) z)
    exact l_checke I J d e kp nm W _ _ 0
  | succ k ih =>
    intro i V d J nm hi h2 hd hk hag
    show jb_J _ RX12 cX12_check 4 (Option.some .int) false 49 0 0 31 [some (.ref 105), some (.int (nI wt)), some (.int 0), some (.int (nI i))] [] [s0, s1, s2, s3, s4, s5, s6, s7, s8, s9, jb_mdl I J d e kp nm W, s11] _
    refine jb_iload_n (pc' := 32) dX12_check_31 rfl rfl ?_
    refine jb_iload_n (pc' := 33) dX12_check_32 rfl rfl ?_
    refine jb_icmp_ge (tgt := 78) (pc' := 36) dX12_check_33 (by decide) rfl (fun z => absurd z (nI_ge (a := i) (b := wt) (by omega) (by omega))) (fun _ => ?_)
    refine jb_iload_n (pc' := 37) dX12_check_36 rfl rfl ?_
    refine jb_if_ne (tgt := 78) (pc' := 40) dX12_check_37 (by decide) rfl (fun z => absurd (by decide) z) (fun _ => ?_)
    refine jb_aload_n (pc' := 41) dX12_check_40 rfl rfl ?_
    refine jb_iconst (pc' := 42) 0 dX12_check_41 (by decide) rfl ?_
    refine jb_callV (pc' := 45) (ci := 12) (q := 105) (As := [.int 0]) (a2 := 0) (b2 := 0) wv_X12_202 rfl dX12_check_42 (c_goesBy0 I J d e kp nm W hd hk hG hg hag) rfl rfl ⟨by decide, Nat.le_of_eq (Nat.zero_add _), Nat.le_of_eq (Nat.zero_add _)⟩ (Nat.le_of_ble_eq_true rfl) rfl (fun r h9 hq => ?_)
    obtain ⟨rfl, J9, nm9, d9, hd9, hz9, hf9, rfl⟩ := hq
    have hwi : d9 (318 + i) = w9 i := ((hf9.2.2 _ (by omega)).trans (hag _ (by omega))).trans (hw9 i (by omega))
    show jb_J _ RX12 cX12_check 4 (Option.some .int) false 49 0 0 45 [some (.ref 105), some (.int (nI wt)), some (.int 0), some (.int (nI i))] [] [s0, s1, s2, s3, s4, s5, s6, s7, s8, s9, jb_mdl I J9 d9 e kp nm9 W, s11] _
    refine jb_aload_n (pc' := 46) dX12_check_45 rfl rfl ?_
    refine gf_X12_7 (pc' := 49) (v := .ref 106) dX12_check_46 rfl rfl rfl ?_
    refine jb_iconst (pc' := 50) 5 dX12_check_49 (by decide) rfl ?_
    refine jb_iaload (pc' := 51) (i9 := 5) (f := d9) dX12_check_50 rfl jb_x5 (by decide) rfl ?_
    refine jb_top (v := .int (d9 5)) (w := .int (nI ((jm_se G false (V, d 7)).1 0 2))) (jb_vI hd9.2.2.2.2.2.1) ?_
    refine jb_aload_n (pc' := 52) dX12_check_51 rfl rfl ?_
    refine gf_X12_7 (pc' := 55) (v := .ref 106) dX12_check_52 rfl rfl rfl ?_
    refine jb_sipush (pc' := 58) 318 dX12_check_55 (by decide) rfl ?_
    refine jb_iload_n (pc' := 59) dX12_check_58 rfl rfl ?_
    refine jb_iadd (pc' := 60) dX12_check_59 rfl ?_
    refine jb_top (v := .int (318 + (nI i))) (w := .int (nI (318 + i))) (jb_vI (nI_add 318 _)) ?_
    refine jb_iaload (pc' := 61) (i9 := (318 + i)) (f := d9) dX12_check_60 rfl (jb_ix_nI (by omega)) (by omega) rfl ?_
    refine jb_top (v := .int (d9 (318 + i))) (w := .int (w9 i)) (jb_vI hwi) ?_
    refine jb_icmp_ne (tgt := 68) (pc' := 64) dX12_check_61 (by decide) rfl (fun hcc => ?_) (fun hcc => ?_)
    · refine jb_iconst (pc' := 69) 1 dX12_check_68 (by decide) rfl ?_
      refine jb_iload_n (pc' := 70) dX12_check_69 rfl rfl ?_
      refine jb_iadd (pc' := 71) dX12_check_70 rfl ?_
      refine jb_top (v := .int (1 + (nI i))) (w := .int (nI (1 + i))) (jb_vI (nI_add 1 i)) ?_
      refine jb_istore_n_ (pc' := 72) dX12_check_71 (by decide) (jb_at2 rfl) rfl ?_
      refine jb_iinc_ (pc' := 75) (nI (i + 1)) dX12_check_72 (by decide) rfl (jb_inc i 1) (jb_at3 rfl) rfl ?_
      refine jb_goto (pc' := 31) dX12_check_75 (by decide) ?_
      refine jb_iload_n (pc' := 32) dX12_check_31 rfl rfl ?_
      refine jb_iload_n (pc' := 33) dX12_check_32 rfl rfl ?_
      refine jb_icmp_ge (tgt := 78) (pc' := 36) dX12_check_33 (by decide) rfl (fun c4 => ?_) (fun c4 => ?_)
      · have e9 : jm_ck G w9 (k + 1) i (V, d 7) = nI (1 + i) := if_neg hcc
        rw [e9]
        exact l_checke I J9 d9 e kp nm9 W _ _ (nI (1 + i))
      · refine jb_iload_n (pc' := 37) dX12_check_36 rfl rfl ?_
        refine jb_if_ne (tgt := 78) (pc' := 40) dX12_check_37 (by decide) rfl (fun _ => ?_) (fun z => absurd z (nI_ne0 (n := 1 + i) (by omega) (by omega)))
        have e9 : jm_ck G w9 (k + 1) i (V, d 7) = nI (1 + i) := if_neg hcc
        rw [e9]
        exact l_checke I J9 d9 e kp nm9 W _ _ (nI (1 + i))
    · refine jb_iconst (pc' := 65) 0 dX12_check_64 (by decide) rfl ?_
      refine jb_goto (pc' := 71) dX12_check_65 (by decide) ?_
      refine jb_istore_n_ (pc' := 72) dX12_check_71 (by decide) (jb_at2 rfl) rfl ?_
      refine jb_iinc_ (pc' := 75) (nI (i + 1)) dX12_check_72 (by decide) rfl (jb_inc i 1) (jb_at3 rfl) rfl ?_
      refine jb_goto (pc' := 31) dX12_check_75 (by decide) ?_
      obtain ⟨hk9, hs9, -⟩ := jv_se hk hG false (d 7) (by omega)
      have e9 : jm_ck G w9 (k + 1) i (V, d 7) = jm_ck G w9 k (i + 1) ((jm_se G false (V, d 7)).1, d9 7) := by
        rw [hz9]
        exact if_pos hcc
      rw [e9]
      exact ih (i + 1) (jm_se G false (V, d 7)).1 d9 J9 nm9 (by omega) (by omega) hd9 hk9 (fun k hk => (hf9.2.2 k hk).trans (hag k hk))
set_option maxRecDepth 100000 in
set_option maxHeartbeats 4000000 in
theorem mx_check {sc : Nat × (Nat → Int32)} {s0 s1 s2 s3 s4 s5 s6 s7 s8 s9 s11 : List va_E} {V : Nat → Nat → Nat} (I J d e kp nm : Nat → Int32) (W : Nat → Nat → Int32) (hd : jd_ V d) (hk : jv_ok V) {G : jm_G} (hG : jm_Gok G) {d0 : Nat → Int32} (hg : jGm sc d0 G) (hag : ∀ k, 316 ≤ k → d k = d0 k) {wt : Nat} (h9 : d 9 = nI wt) (hwt : wt ≤ 20) (h0 : V 0 0 ≤ 9999) : jb_C sc yX12_check cX12_check 4 (Option.some .int) 49 0 0 [.ref 105] [s0, s1, s2, s3, s4, s5, s6, s7, s8, s9, jb_mdl I J d e kp nm W, s11] (fun r h9 => r = some (.int (jm_ck G (fun k => d (318 + k)) wt 0 (V, d 7))) ∧ ∃ J9 nm9 d9 e9, (∀ k, k < 490 → d9 k = (upd d 9 0) k) ∧ h9 = [s0, s1, s2, s3, s4, s5, s6, s7, s8, s9, jb_mdl I J9 d9 e9 kp nm9 W, s11]) := by
  refine jb_CofJ (ini := false) (by decide +kernel) (fun h => by cases h) (Nat.le_of_ble_eq_true rfl) ?_
  show jb_J sc RX12 cX12_check 4 (Option.some .int) false 49 0 0 0 [some (.ref 105), none, none, none] [] [s0, s1, s2, s3, s4, s5, s6, s7, s8, s9, jb_mdl I J d e kp nm W, s11] _
  have hd0 := hd
  have hk0 := hk
  obtain ⟨e0, e1, e2, e3, e4, e5, e6, dv, ds, dd⟩ := hd
  obtain ⟨k0, k1, k2, k3, k4, k5, k6, k7, kv, ks, kd⟩ := hk
  refine jb_aload_n (pc' := 1) dX12_check_0 rfl rfl ?_
  refine gf_X12_7 (pc' := 4) (v := .ref 106) dX12_check_1 rfl rfl rfl ?_
  refine jb_bipush (pc' := 6) 9 dX12_check_4 (by decide) rfl ?_
  refine jb_iaload (pc' := 7) (i9 := 9) (f := d) dX12_check_6 rfl jb_x9 (by decide) rfl ?_
  refine jb_top (v := .int (d 9)) (w := .int (nI wt)) (jb_vI h9) ?_
  refine jb_istore_n_ (pc' := 8) dX12_check_7 (by decide) (jb_at1 rfl) rfl ?_
  refine jb_aload_n (pc' := 9) dX12_check_8 rfl rfl ?_
  refine gf_X12_7 (pc' := 12) (v := .ref 106) dX12_check_9 rfl rfl rfl ?_
  refine jb_bipush (pc' := 14) 9 dX12_check_12 (by decide) rfl ?_
  refine jb_iconst (pc' := 15) 0 dX12_check_14 (by decide) rfl ?_
  refine jb_iastore (pc' := 16) (i9 := 9) (f := d) (h' := [s0, s1, s2, s3, s4, s5, s6, s7, s8, s9, jb_mdl I J (upd d 9 0) e kp nm W, s11]) dX12_check_15 rfl jb_x9 (by decide) rfl rfl ?_
  refine jb_iconst (pc' := 17) 0 dX12_check_16 (by decide) rfl ?_
  refine jb_istore_n_ (pc' := 18) dX12_check_17 (by decide) (jb_at2 rfl) rfl ?_
  refine jb_aload_n (pc' := 19) dX12_check_18 rfl rfl ?_
  refine gf_X12_7 (pc' := 22) (v := .ref 106) dX12_check_19 rfl rfl rfl ?_
  refine jb_aload_n (pc' := 23) dX12_check_22 rfl rfl ?_
  refine gf_X12_13 (pc' := 26) (v := .ref 107) dX12_check_23 rfl rfl rfl ?_
  refine jb_callS (pc' := 29) (As := [.ref 106, .ref 107]) (a2 := 0) (b2 := 0) wv_X12_212 dX12_check_26 (c_copies_106_107 I J (upd d 9 0) e kp nm W) rfl ⟨by decide, Nat.le_of_eq (Nat.zero_add _), Nat.le_of_eq (Nat.zero_add _)⟩ (Nat.le_of_ble_eq_true rfl) rfl (fun r h9 hq => ?_)
  obtain ⟨rfl, e9, he9, rfl⟩ := hq
  show jb_J _ RX12 cX12_check 4 (Option.some .int) false 49 0 0 29 [some (.ref 105), some (.int (nI wt)), some (.int 0), none] [] [s0, s1, s2, s3, s4, s5, s6, s7, s8, s9, jb_mdl I J (upd d 9 0) e9 kp nm W, s11] _
  refine jb_iconst (pc' := 30) 0 dX12_check_29 (by decide) rfl ?_
  refine jb_istore_n_ (pc' := 31) dX12_check_30 (by decide) (jb_at3 rfl) rfl ?_
  have hd7 : jd_ V (upd d 9 0) := jd_o hd0 hk0 (by omega)
  refine jb_J.mono (l_checkm I e9 kp W hG hg wt hwt (fun k => d (318 + k)) (fun k hk => (hag _ (by omega)).symm) wt 0 V (upd d 9 0) J nm (by omega) (by omega) hd7 hk0 (fun k hk => (jb_une (by omega)).trans (hag k hk))) (Nat.le_refl _) (Nat.le_refl _) (Nat.le_refl _) (fun r h9 hq => ?_)
  obtain ⟨rfl, J7, nm7, d7, hd9, rfl⟩ := hq
  exact ⟨by rw [show (upd d 9 0) 7 = d 7 from jb_une (by decide)], J7, nm7, d7, e9, fun k hk => (hd9 k hk).trans (he9 k hk), rfl⟩
set_option maxRecDepth 100000 in
set_option maxHeartbeats 4000000 in
theorem mx_image {sc : Nat × (Nat → Int32)} {s0 s1 s2 s3 s4 s5 s6 s7 s8 s9 s11 : List va_E} (I J d e kp nm : Nat → Int32) (W : Nat → Nat → Int32) : jb_C sc yX12_image cX12_image 1 (Option.some .int) 1 0 0 [.ref 105] [s0, s1, s2, s3, s4, s5, s6, s7, s8, s9, jb_mdl I J d e kp nm W, s11] (fun r h9 => r = some (.int (I 0 + 1)) ∧ ∃ kp9, (∀ k, k < 490 → kp9 k = d k) ∧ h9 = [s0, s1, s2, s3, s4, s5, s6, s7, s8, s9, jb_mdl (upd I 0 (I 0 + 1)) J d e kp9 nm W, s11]) := by
  refine jb_CofJ (ini := false) (by decide +kernel) (fun h => by cases h) (Nat.le_of_ble_eq_true rfl) ?_
  show jb_J sc RX12 cX12_image 1 (Option.some .int) false 1 0 0 0 [some (.ref 105)] [] [s0, s1, s2, s3, s4, s5, s6, s7, s8, s9, jb_mdl I J d e kp nm W, s11] _
  refine jb_aload_n (pc' := 1) dX12_image_0 rfl rfl ?_
  refine gf_X12_7 (pc' := 4) (v := .ref 106) dX12_image_1 rfl rfl rfl ?_
  refine jb_aload_n (pc' := 5) dX12_image_4 rfl rfl ?_
  refine gf_X12_16 (pc' := 8) (v := .ref 108) dX12_image_5 rfl rfl rfl ?_
  refine jb_callS (pc' := 11) (As := [.ref 106, .ref 108]) (a2 := 0) (b2 := 0) wv_X12_212 dX12_image_8 (c_copies_106_108 I J d e kp nm W) rfl ⟨by decide, Nat.le_of_eq (Nat.zero_add _), Nat.le_of_eq (Nat.zero_add _)⟩ (Nat.le_of_ble_eq_true rfl) rfl (fun r h9 hq => ?_)
  obtain ⟨rfl, kp9, hk9, rfl⟩ := hq
  show jb_J _ RX12 cX12_image 1 (Option.some .int) false 1 0 0 11 [some (.ref 105)] [] [s0, s1, s2, s3, s4, s5, s6, s7, s8, s9, jb_mdl I J d e kp9 nm W, s11] _
  refine jb_aload_n (pc' := 12) dX12_image_11 rfl rfl ?_
  refine jb_dup (pc' := 13) dX12_image_12 rfl rfl ?_
  refine gf_X12_283 (pc' := 16) (v := .int (I 0)) dX12_image_13 rfl rfl rfl ?_
  refine jb_iconst (pc' := 17) 1 dX12_image_16 (by decide) rfl ?_
  refine jb_iadd (pc' := 18) dX12_image_17 rfl ?_
  refine pf_X12_283 (pc' := 21) (h' := [s0, s1, s2, s3, s4, s5, s6, s7, s8, s9, jb_mdl (upd I 0 ((I 0) + 1)) J d e kp9 nm W, s11]) dX12_image_18 (fun _ => ⟨rfl, rfl⟩) rfl (Nat.le_of_ble_eq_true rfl) rfl rfl ?_
  refine jb_aload_n (pc' := 22) dX12_image_21 rfl rfl ?_
  refine gf_X12_283 (pc' := 25) (v := .int ((I 0) + 1)) dX12_image_22 rfl rfl rfl ?_
  refine jb_iret dX12_image_25 rfl ?_
  exact ⟨rfl, kp9, hk9, rfl⟩
set_option maxRecDepth 100000 in
set_option maxHeartbeats 4000000 in
theorem mx_restore {sc : Nat × (Nat → Int32)} {s0 s1 s2 s3 s4 s5 s6 s7 s8 s9 s11 : List va_E} {V : Nat → Nat → Nat} (I J d e kp nm : Nat → Int32) (W : Nat → Nat → Int32) (hd : jd_ V kp) (him : ¬ I 0 = 0) : jb_C sc yX12_restore cX12_restore 1 (Option.some .int) 1 0 0 [.ref 105] [s0, s1, s2, s3, s4, s5, s6, s7, s8, s9, jb_mdl I J d e kp nm W, s11] (fun r h9 => r = some (.int (nI (V 0 0))) ∧ ∃ d9, (∀ k, k < 490 → d9 k = kp k) ∧ h9 = [s0, s1, s2, s3, s4, s5, s6, s7, s8, s9, jb_mdl I J d9 e kp nm W, s11]) := by
  refine jb_CofJ (ini := false) (by decide +kernel) (fun h => by cases h) (Nat.le_of_ble_eq_true rfl) ?_
  show jb_J sc RX12 cX12_restore 1 (Option.some .int) false 1 0 0 0 [some (.ref 105)] [] [s0, s1, s2, s3, s4, s5, s6, s7, s8, s9, jb_mdl I J d e kp nm W, s11] _
  refine jb_aload_n (pc' := 1) dX12_restore_0 rfl rfl ?_
  refine gf_X12_283 (pc' := 4) (v := .int (I 0)) dX12_restore_1 rfl rfl rfl ?_
  refine jb_if_ne (tgt := 13) (pc' := 7) dX12_restore_4 (by decide) rfl (fun _ => ?_) (fun z => absurd z him)
  refine jb_aload_n (pc' := 14) dX12_restore_13 rfl rfl ?_
  refine gf_X12_16 (pc' := 17) (v := .ref 108) dX12_restore_14 rfl rfl rfl ?_
  refine jb_aload_n (pc' := 18) dX12_restore_17 rfl rfl ?_
  refine gf_X12_7 (pc' := 21) (v := .ref 106) dX12_restore_18 rfl rfl rfl ?_
  refine jb_callS (pc' := 24) (As := [.ref 108, .ref 106]) (a2 := 0) (b2 := 0) wv_X12_212 dX12_restore_21 (c_copies_108_106 I J d e kp nm W) rfl ⟨by decide, Nat.le_of_eq (Nat.zero_add _), Nat.le_of_eq (Nat.zero_add _)⟩ (Nat.le_of_ble_eq_true rfl) rfl (fun r h9 hq => ?_)
  obtain ⟨rfl, d9, hd9, rfl⟩ := hq
  show jb_J _ RX12 cX12_restore 1 (Option.some .int) false 1 0 0 24 [some (.ref 105)] [] [s0, s1, s2, s3, s4, s5, s6, s7, s8, s9, jb_mdl I J d9 e kp nm W, s11] _
  refine jb_aload_n (pc' := 25) dX12_restore_24 rfl rfl ?_
  refine gf_X12_7 (pc' := 28) (v := .ref 106) dX12_restore_25 rfl rfl rfl ?_
  refine jb_iconst (pc' := 29) 3 dX12_restore_28 (by decide) rfl ?_
  refine jb_iaload (pc' := 30) (i9 := 3) (f := d9) dX12_restore_29 rfl jb_x3 (by decide) rfl ?_
  refine jb_top (v := .int (d9 3)) (w := .int (nI (V 0 0))) (jb_vI ((hd9 3 (by omega)).trans hd.2.2.2.1)) ?_
  refine jb_iret dX12_restore_30 rfl ?_
  exact ⟨rfl, d9, hd9, rfl⟩
set_option maxRecDepth 100000 in
set_option maxHeartbeats 4000000 in
theorem me_restore {sc : Nat × (Nat → Int32)} {s0 s1 s2 s3 s4 s5 s6 s7 s8 s9 s11 : List va_E} (I J d e kp nm : Nat → Int32) (W : Nat → Nat → Int32) (him : I 0 = 0) : jb_C sc yX12_restore cX12_restore 1 (Option.some .int) 1 0 0 [.ref 105] [s0, s1, s2, s3, s4, s5, s6, s7, s8, s9, jb_mdl I J d e kp nm W, s11] (fun r h9 => r = some (.int (jm_er 2)) ∧ h9 = [s0, s1, s2, s3, s4, s5, s6, s7, s8, s9, jb_mdl I J d e kp nm (va_up W 0 (jm_ef (W 0) 2)), s11]) := by
  refine jb_CofJ (ini := false) (by decide +kernel) (fun h => by cases h) (Nat.le_of_ble_eq_true rfl) ?_
  show jb_J sc RX12 cX12_restore 1 (Option.some .int) false 1 0 0 0 [some (.ref 105)] [] [s0, s1, s2, s3, s4, s5, s6, s7, s8, s9, jb_mdl I J d e kp nm W, s11] _
  refine jb_aload_n (pc' := 1) dX12_restore_0 rfl rfl ?_
  refine gf_X12_283 (pc' := 4) (v := .int (I 0)) dX12_restore_1 rfl rfl rfl ?_
  refine jb_if_ne (tgt := 13) (pc' := 7) dX12_restore_4 (by decide) rfl (fun z => absurd him z) (fun _ => ?_)
  refine jb_aload_n (pc' := 8) dX12_restore_7 rfl rfl ?_
  refine jb_iconst (pc' := 9) 2 dX12_restore_8 (by decide) rfl ?_
  refine jb_callV (pc' := 12) (ci := 12) (q := 105) (As := [.int 2]) (a2 := 0) (b2 := 0) wv_X12_121 rfl dX12_restore_9 (c_finds I J d e kp nm W 2 (by decide)) rfl rfl ⟨by decide, Nat.le_of_eq (Nat.zero_add _), Nat.le_of_eq (Nat.zero_add _)⟩ (Nat.le_of_ble_eq_true rfl) rfl (fun r h9 hq => ?_)
  obtain ⟨rfl, rfl⟩ := hq
  show jb_J _ RX12 cX12_restore 1 (Option.some .int) false 1 0 0 12 [some (.ref 105)] [.int (jm_er 2)] [s0, s1, s2, s3, s4, s5, s6, s7, s8, s9, jb_mdl I J d e kp nm (va_up W 0 (jm_ef (W 0) 2)), s11] _
  refine jb_iret dX12_restore_12 rfl ?_
  exact ⟨rfl, rfl⟩
