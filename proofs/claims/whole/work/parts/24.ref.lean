set_option maxRecDepth 100000 in
set_option maxHeartbeats 4000000 in
theorem l_by1 {sc : Nat × (Nat → Int32)} {s0 s1 s2 s3 s4 s5 s6 s7 s8 s9 s11 : List va_E} (I e kp : Nat → Int32) (W : Nat → Nat → Int32) {G : jm_G} (hG : jm_Gok G) {d0 : Nat → Int32} (hg : jGm sc d0 G) (M0 : Nat) (Q : Option Value → jb_H → Prop) : ∀ (n s : Nat) (V : Nat → Nat → Nat) (d J nm : Nat → Int32), s + n = M0 → M0 = V 0 2 → jd_ V d → jv_ok V → (∀ k, 316 ≤ k → d k = d0 k) → (∀ d9 J9 nm9 x3, jd_ (jm_cs G true n s (V, d 7)).1 d9 → d9 7 = (jm_cs G true n s (V, d 7)).2 → jd_f d d9 → jb_J sc RX12 cX12_goesBy 4 (Option.none : Option Jvm.ClassFile.FieldType) false 48 0 0 41 [some (.ref 105), some (.int 1), some (.int (nI M0)), x3] [] [s0, s1, s2, s3, s4, s5, s6, s7, s8, s9, jb_mdl I J9 d9 e kp nm9 W, s11] Q) → jb_J sc RX12 cX12_goesBy 4 (Option.none : Option Jvm.ClassFile.FieldType) false 48 0 0 9 [some (.ref 105), some (.int 1), some (.int (nI M0)), some (.int (nI s))] [] [s0, s1, s2, s3, s4, s5, s6, s7, s8, s9, jb_mdl I J d e kp nm W, s11] Q := by
  intro n
  induction n with
  | zero =>
    intro s V d J nm hs hM hd hk hag hQ
    have hd0 := hd
    have hk0 := hk
    obtain ⟨e0, e1, e2, e3, e4, e5, e6, dv, ds, dd⟩ := hd
    obtain ⟨k0, k1, k2, k3, k4, k5, k6, k7, kv, ks, kd⟩ := hk
    show jb_J _ RX12 cX12_goesBy 4 (Option.none : Option Jvm.ClassFile.FieldType) false 48 0 0 9 [some (.ref 105), some (.int 1), some (.int (nI M0)), some (.int (nI s))] [] [s0, s1, s2, s3, s4, s5, s6, s7, s8, s9, jb_mdl I J d e kp nm W, s11] _
    refine jb_iload_n (pc' := 10) dX12_goesBy_9 rfl rfl ?_
    refine jb_iload_n (pc' := 11) dX12_goesBy_10 rfl rfl ?_
    refine jb_icmp_ge (tgt := 41) (pc' := 14) dX12_goesBy_11 (by decide) rfl (fun _ => ?_) (fun z => absurd (nI_le (a := M0) (b := s) (by omega) (by omega)) z)
    exact hQ d J nm _ hd0 rfl (jd_f.rf d)
  | succ n ih =>
    intro s V d J nm hs hM hd hk hag hQ
    have hd0 := hd
    have hk0 := hk
    obtain ⟨e0, e1, e2, e3, e4, e5, e6, dv, ds, dd⟩ := hd
    obtain ⟨k0, k1, k2, k3, k4, k5, k6, k7, kv, ks, kd⟩ := hk
    have q0 := ks s (by omega)
    show jb_J _ RX12 cX12_goesBy 4 (Option.none : Option Jvm.ClassFile.FieldType) false 48 0 0 9 [some (.ref 105), some (.int 1), some (.int (nI M0)), some (.int (nI s))] [] [s0, s1, s2, s3, s4, s5, s6, s7, s8, s9, jb_mdl I J d e kp nm W, s11] _
    refine jb_iload_n (pc' := 10) dX12_goesBy_9 rfl rfl ?_
    refine jb_iload_n (pc' := 11) dX12_goesBy_10 rfl rfl ?_
    refine jb_icmp_ge (tgt := 41) (pc' := 14) dX12_goesBy_11 (by decide) rfl (fun z => absurd z (nI_ge (a := s) (b := M0) (by omega) (by omega))) (fun _ => ?_)
    refine jb_aload_n (pc' := 15) dX12_goesBy_14 rfl rfl ?_
    refine jb_iload_n (pc' := 16) dX12_goesBy_15 rfl rfl ?_
    refine jb_iconst (pc' := 17) 5 dX12_goesBy_16 (by decide) rfl ?_
    refine jb_callV (pc' := 20) (ci := 12) (q := 105) (As := [.int (nI s), .int 5]) (a2 := 0) (b2 := 0) wv_X12_182 rfl dX12_goesBy_17 (c_ofIt5 I J d e kp nm W hd0 hk0 s (by omega)) rfl rfl ⟨by decide, Nat.le_of_eq (Nat.zero_add _), Nat.le_of_eq (Nat.zero_add _)⟩ (Nat.le_of_ble_eq_true rfl) rfl (fun r h9 hq => ?_)
    obtain ⟨rfl, rfl⟩ := hq
    show jb_J _ RX12 cX12_goesBy 4 (Option.none : Option Jvm.ClassFile.FieldType) false 48 0 0 20 [some (.ref 105), some (.int 1), some (.int (nI M0)), some (.int (nI s))] [.int (nI (V 9 s))] [s0, s1, s2, s3, s4, s5, s6, s7, s8, s9, jb_mdl I J d e kp nm W, s11] _
    refine jb_aload_n (pc' := 21) dX12_goesBy_20 rfl rfl ?_
    refine gf_X12_7 (pc' := 24) (v := .ref 106) dX12_goesBy_21 rfl rfl rfl ?_
    refine jb_iconst (pc' := 25) 3 dX12_goesBy_24 (by decide) rfl ?_
    refine jb_iaload (pc' := 26) (i9 := 3) (f := d) dX12_goesBy_25 rfl jb_x3 (by decide) rfl ?_
    refine jb_top (v := .int (d 3)) (w := .int (nI (V 0 0))) (jb_vI e3) ?_
    refine jb_icmp_ne (tgt := 35) (pc' := 29) dX12_goesBy_26 (by decide) rfl (fun hov => ?_) (fun hov => ?_)
    · have hov : ¬ (V 9 s) = (V 0 0) := fun z9 => hov ((nI_eq (a := (V 9 s)) (b := (V 0 0)) (by omega) (by omega)).mpr z9)
      refine jb_iinc_ (pc' := 38) (nI (s + 1)) dX12_goesBy_35 (by decide) rfl (jb_inc s 1) (jb_at3 rfl) rfl ?_
      refine jb_goto (pc' := 9) dX12_goesBy_38 (by decide) ?_
      have e9 : jm_cs G true (n + 1) s (V, d 7) = jm_cs G true n (s + 1) (V, d 7) := congrArg (jm_cs G true n (s + 1)) (if_neg hov)
      refine ih (s + 1) V d J nm (by omega) hM hd0 hk0 hag (fun d7 J7 nm7 x3 hr7 hz7 hf7 => ?_)
      exact hQ d7 J7 nm7 x3 (by rw [e9]; exact hr7) (by rw [e9]; exact hz7) hf7
    · have hov : (V 9 s) = (V 0 0) := (nI_eq (a := (V 9 s)) (b := (V 0 0)) (by omega) (by omega)).mp hov
      refine jb_aload_n (pc' := 30) dX12_goesBy_29 rfl rfl ?_
      refine jb_iload_n (pc' := 31) dX12_goesBy_30 rfl rfl ?_
      refine jb_iload_n (pc' := 32) dX12_goesBy_31 rfl rfl ?_
      refine jb_callV (pc' := 35) (ci := 12) (q := 105) (As := [.int (nI s), .int 1]) (a2 := 0) (b2 := 0) wv_X12_195 rfl dX12_goesBy_32 (c_comesOver1 I J d e kp nm W hd0 hk0 hG hg hag s (by omega)) rfl rfl ⟨by decide, Nat.le_of_eq (Nat.zero_add _), Nat.le_of_eq (Nat.zero_add _)⟩ (Nat.le_of_ble_eq_true rfl) rfl (fun r h9 hq => ?_)
      obtain ⟨rfl, J9, nm9, d9, hd9, hz9, hf9, rfl⟩ := hq
      show jb_J _ RX12 cX12_goesBy 4 (Option.none : Option Jvm.ClassFile.FieldType) false 48 0 0 35 [some (.ref 105), some (.int 1), some (.int (nI M0)), some (.int (nI s))] [] [s0, s1, s2, s3, s4, s5, s6, s7, s8, s9, jb_mdl I J9 d9 e kp nm9 W, s11] _
      refine jb_iinc_ (pc' := 38) (nI (s + 1)) dX12_goesBy_35 (by decide) rfl (jb_inc s 1) (jb_at3 rfl) rfl ?_
      refine jb_goto (pc' := 9) dX12_goesBy_38 (by decide) ?_
      have e9 : jm_cs G true (n + 1) s (V, d 7) = jm_cs G true n (s + 1) ((jm_co G true s (V, d 7)).1, d9 7) := by
        rw [hz9]
        exact congrArg (jm_cs G true n (s + 1)) (if_pos hov)
      obtain ⟨hk9, hs9, -⟩ := jv_co hk0 hG true (d 7) (s := s) (by omega)
      refine ih (s + 1) (jm_co G true s (V, d 7)).1 d9 J9 nm9 (by omega) (by rw [hs9.2.2.1]; exact hM) hd9 hk9 (fun k hk => (hf9.2.2 k hk).trans (hag k hk)) (fun d7 J7 nm7 x3 hr7 hz7 hf7 => ?_)
      exact hQ d7 J7 nm7 x3 (by rw [e9]; exact hr7) (by rw [e9]; exact hz7) (hf9.tr hf7)
set_option maxRecDepth 100000 in
set_option maxHeartbeats 4000000 in
theorem c_goesBy1 {sc : Nat × (Nat → Int32)} {s0 s1 s2 s3 s4 s5 s6 s7 s8 s9 s11 : List va_E} {V : Nat → Nat → Nat} (I J d e kp nm : Nat → Int32) (W : Nat → Nat → Int32) (hd : jd_ V d) (hk : jv_ok V) {G : jm_G} (hG : jm_Gok G) {d0 : Nat → Int32} (hg : jGm sc d0 G) (hag : ∀ k, 316 ≤ k → d k = d0 k) : jb_C sc yX12_goesBy cX12_goesBy 4 (Option.none : Option Jvm.ClassFile.FieldType) 48 0 0 [.ref 105, .int 1] [s0, s1, s2, s3, s4, s5, s6, s7, s8, s9, jb_mdl I J d e kp nm W, s11] (fun r h9 => r = none ∧ ∃ J9 nm9 d9, jd_ (jm_se G true (V, d 7)).1 d9 ∧ d9 7 = (jm_se G true (V, d 7)).2 ∧ jd_f d d9 ∧ h9 = [s0, s1, s2, s3, s4, s5, s6, s7, s8, s9, jb_mdl I J9 d9 e kp nm9 W, s11]) := by
  refine jb_CofJ (ini := false) (by decide +kernel) (fun h => by cases h) (Nat.le_of_ble_eq_true rfl) ?_
  show jb_J sc RX12 cX12_goesBy 4 (Option.none : Option Jvm.ClassFile.FieldType) false 48 0 0 0 [some (.ref 105), some (.int 1), none, none] [] [s0, s1, s2, s3, s4, s5, s6, s7, s8, s9, jb_mdl I J d e kp nm W, s11] _
  have hd0 := hd
  have hk0 := hk
  obtain ⟨e0, e1, e2, e3, e4, e5, e6, dv, ds, dd⟩ := hd
  obtain ⟨k0, k1, k2, k3, k4, k5, k6, k7, kv, ks, kd⟩ := hk
  refine jb_aload_n (pc' := 1) dX12_goesBy_0 rfl rfl ?_
  refine gf_X12_7 (pc' := 4) (v := .ref 106) dX12_goesBy_1 rfl rfl rfl ?_
  refine jb_iconst (pc' := 5) 5 dX12_goesBy_4 (by decide) rfl ?_
  refine jb_iaload (pc' := 6) (i9 := 5) (f := d) dX12_goesBy_5 rfl jb_x5 (by decide) rfl ?_
  refine jb_top (v := .int (d 5)) (w := .int (nI (V 0 2))) (jb_vI e5) ?_
  refine jb_istore_n_ (pc' := 7) dX12_goesBy_6 (by decide) (jb_at2 rfl) rfl ?_
  refine jb_iconst (pc' := 8) 0 dX12_goesBy_7 (by decide) rfl ?_
  refine jb_istore_n_ (pc' := 9) dX12_goesBy_8 (by decide) (jb_at3 rfl) rfl ?_
  refine l_by1 I e kp W hG hg (V 0 2) _ (V 0 2) 0 V d J nm (by omega) rfl hd0 hk0 hag (fun d8 J8 nm8 x8 hd8 hz8 hf8 => ?_)
  obtain ⟨hk8, hs8⟩ := jv_cs hG true (V 0 2) 0 V (d 7) hk0 (by omega)
  show jb_J _ RX12 cX12_goesBy 4 (Option.none : Option Jvm.ClassFile.FieldType) false 48 0 0 41 [some (.ref 105), some (.int 1), some (.int (nI (V 0 2))), x8] [] [s0, s1, s2, s3, s4, s5, s6, s7, s8, s9, jb_mdl I J8 d8 e kp nm8 W, s11] _
  refine jb_aload_n (pc' := 42) dX12_goesBy_41 rfl rfl ?_
  refine jb_callV (pc' := 45) (ci := 12) (q := 105) (As := []) (a2 := 0) (b2 := 0) wv_X12_199 rfl dX12_goesBy_42 (c_answersm I J8 d8 e kp nm8 W hd8 hk8) rfl rfl ⟨by decide, Nat.le_of_eq (Nat.zero_add _), Nat.le_of_eq (Nat.zero_add _)⟩ (Nat.le_of_ble_eq_true rfl) rfl (fun r h9 hq => ?_)
  obtain ⟨rfl, d9, hd9, hz9, hf9, rfl⟩ := hq
  obtain ⟨V7, hV7⟩ : ∃ X, jm_du (jm_cs G true (V 0 2) 0 (V, d 7)).1 = X := ⟨_, rfl⟩
  rw [hV7] at hd9
  show jb_J _ RX12 cX12_goesBy 4 (Option.none : Option Jvm.ClassFile.FieldType) false 48 0 0 45 [some (.ref 105), some (.int 1), some (.int (nI (V 0 2))), x8] [] [s0, s1, s2, s3, s4, s5, s6, s7, s8, s9, jb_mdl I J8 d9 e kp nm8 W, s11] _
  refine jb_aload_n (pc' := 46) dX12_goesBy_45 rfl rfl ?_
  refine gf_X12_7 (pc' := 49) (v := .ref 106) dX12_goesBy_46 rfl rfl rfl ?_
  refine jb_iconst (pc' := 50) 3 dX12_goesBy_49 (by decide) rfl ?_
  refine jb_dup2 (pc' := 51) dX12_goesBy_50 rfl rfl rfl ?_
  refine jb_iaload (pc' := 52) (i9 := 3) (f := d9) dX12_goesBy_51 rfl jb_x3 (by decide) rfl ?_
  refine jb_top (v := .int (d9 3)) (w := .int (nI (V7 0 0))) (jb_vI hd9.2.2.2.1) ?_
  refine jb_iconst (pc' := 53) 1 dX12_goesBy_52 (by decide) rfl ?_
  refine jb_iadd (pc' := 54) dX12_goesBy_53 rfl ?_
  refine jb_top (v := .int ((nI (V7 0 0)) + 1)) (w := .int (nI ((V7 0 0) + 1))) (jb_vI (nI_add _ 1)) ?_
  refine jb_iastore (pc' := 55) (i9 := 3) (f := d9) (h' := [s0, s1, s2, s3, s4, s5, s6, s7, s8, s9, jb_mdl I J8 (upd d9 3 (nI ((V7 0 0) + 1))) e kp nm8 W, s11]) dX12_goesBy_54 rfl jb_x3 (by decide) rfl rfl ?_
  refine jb_vret dX12_goesBy_55 ?_
  have e9 : jm_se G true (V, d 7) = (jv_up V7 0 0 (V7 0 0 + 1), (jm_cs G true (V 0 2) 0 (V, d 7)).2) := by
    rw [← hV7]
    rfl
  exact ⟨rfl, J8, nm8, (upd d9 3 (nI ((V7 0 0) + 1))), by rw [e9]; exact jd_sec hd9 _, by rw [e9]; exact (jb_une (by decide)).trans (hz9.trans hz8), hf8.tr (hf9.tr ⟨jb_une (by decide), jb_une (by decide), fun k hk => jb_une (by omega)⟩), rfl⟩
set_option maxRecDepth 100000 in
set_option maxHeartbeats 4000000 in
theorem l_by0 {sc : Nat × (Nat → Int32)} {s0 s1 s2 s3 s4 s5 s6 s7 s8 s9 s11 : List va_E} (I e kp : Nat → Int32) (W : Nat → Nat → Int32) {G : jm_G} (hG : jm_Gok G) {d0 : Nat → Int32} (hg : jGm sc d0 G) (M0 : Nat) (Q : Option Value → jb_H → Prop) : ∀ (n s : Nat) (V : Nat → Nat → Nat) (d J nm : Nat → Int32), s + n = M0 → M0 = V 0 2 → jd_ V d → jv_ok V → (∀ k, 316 ≤ k → d k = d0 k) → (∀ d9 J9 nm9 x3, jd_ (jm_cs G false n s (V, d 7)).1 d9 → d9 7 = (jm_cs G false n s (V, d 7)).2 → jd_f d d9 → jb_J sc RX12 cX12_goesBy 4 (Option.none : Option Jvm.ClassFile.FieldType) false 48 0 0 41 [some (.ref 105), some (.int 0), some (.int (nI M0)), x3] [] [s0, s1, s2, s3, s4, s5, s6, s7, s8, s9, jb_mdl I J9 d9 e kp nm9 W, s11] Q) → jb_J sc RX12 cX12_goesBy 4 (Option.none : Option Jvm.ClassFile.FieldType) false 48 0 0 9 [some (.ref 105), some (.int 0), some (.int (nI M0)), some (.int (nI s))] [] [s0, s1, s2, s3, s4, s5, s6, s7, s8, s9, jb_mdl I J d e kp nm W, s11] Q := by
  intro n
  induction n with
  | zero =>
    intro s V d J nm hs hM hd hk hag hQ
    have hd0 := hd
    have hk0 := hk
    obtain ⟨e0, e1, e2, e3, e4, e5, e6, dv, ds, dd⟩ := hd
    obtain ⟨k0, k1, k2, k3, k4, k5, k6, k7, kv, ks, kd⟩ := hk
    show jb_J _ RX12 cX12_goesBy 4 (Option.none : Option Jvm.ClassFile.FieldType) false 48 0 0 9 [some (.ref 105), some (.int 0), some (.int (nI M0)), some (.int (nI s))] [] [s0, s1, s2, s3, s4, s5, s6, s7, s8, s9, jb_mdl I J d e kp nm W, s11] _
    refine jb_iload_n (pc' := 10) dX12_goesBy_9 rfl rfl ?_
    refine jb_iload_n (pc' := 11) dX12_goesBy_10 rfl rfl ?_
    refine jb_icmp_ge (tgt := 41) (pc' := 14) dX12_goesBy_11 (by decide) rfl (fun _ => ?_) (fun z => absurd (nI_le (a := M0) (b := s) (by omega) (by omega)) z)
    exact hQ d J nm _ hd0 rfl (jd_f.rf d)
  | succ n ih =>
    intro s V d J nm hs hM hd hk hag hQ
    have hd0 := hd
    have hk0 := hk
    obtain ⟨e0, e1, e2, e3, e4, e5, e6, dv, ds, dd⟩ := hd
    obtain ⟨k0, k1, k2, k3, k4, k5, k6, k7, kv, ks, kd⟩ := hk
    have q0 := ks s (by omega)
    show jb_J _ RX12 cX12_goesBy 4 (Option.none : Option Jvm.ClassFile.FieldType) false 48 0 0 9 [some (.ref 105), some (.int 0), some (.int (nI M0)), some (.int (nI s))] [] [s0, s1, s2, s3, s4, s5, s6, s7, s8, s9, jb_mdl I J d e kp nm W, s11] _
    refine jb_iload_n (pc' := 10) dX12_goesBy_9 rfl rfl ?_
    refine jb_iload_n (pc' := 11) dX12_goesBy_10 rfl rfl ?_
    refine jb_icmp_ge (tgt := 41) (pc' := 14) dX12_goesBy_11 (by decide) rfl (fun z => absurd z (nI_ge (a := s) (b := M0) (by omega) (by omega))) (fun _ => ?_)
    refine jb_aload_n (pc' := 15) dX12_goesBy_14 rfl rfl ?_
    refine jb_iload_n (pc' := 16) dX12_goesBy_15 rfl rfl ?_
    refine jb_iconst (pc' := 17) 5 dX12_goesBy_16 (by decide) rfl ?_
    refine jb_callV (pc' := 20) (ci := 12) (q := 105) (As := [.int (nI s), .int 5]) (a2 := 0) (b2 := 0) wv_X12_182 rfl dX12_goesBy_17 (c_ofIt5 I J d e kp nm W hd0 hk0 s (by omega)) rfl rfl ⟨by decide, Nat.le_of_eq (Nat.zero_add _), Nat.le_of_eq (Nat.zero_add _)⟩ (Nat.le_of_ble_eq_true rfl) rfl (fun r h9 hq => ?_)
    obtain ⟨rfl, rfl⟩ := hq
    show jb_J _ RX12 cX12_goesBy 4 (Option.none : Option Jvm.ClassFile.FieldType) false 48 0 0 20 [some (.ref 105), some (.int 0), some (.int (nI M0)), some (.int (nI s))] [.int (nI (V 9 s))] [s0, s1, s2, s3, s4, s5, s6, s7, s8, s9, jb_mdl I J d e kp nm W, s11] _
    refine jb_aload_n (pc' := 21) dX12_goesBy_20 rfl rfl ?_
    refine gf_X12_7 (pc' := 24) (v := .ref 106) dX12_goesBy_21 rfl rfl rfl ?_
    refine jb_iconst (pc' := 25) 3 dX12_goesBy_24 (by decide) rfl ?_
    refine jb_iaload (pc' := 26) (i9 := 3) (f := d) dX12_goesBy_25 rfl jb_x3 (by decide) rfl ?_
    refine jb_top (v := .int (d 3)) (w := .int (nI (V 0 0))) (jb_vI e3) ?_
    refine jb_icmp_ne (tgt := 35) (pc' := 29) dX12_goesBy_26 (by decide) rfl (fun hov => ?_) (fun hov => ?_)
    · have hov : ¬ (V 9 s) = (V 0 0) := fun z9 => hov ((nI_eq (a := (V 9 s)) (b := (V 0 0)) (by omega) (by omega)).mpr z9)
      refine jb_iinc_ (pc' := 38) (nI (s + 1)) dX12_goesBy_35 (by decide) rfl (jb_inc s 1) (jb_at3 rfl) rfl ?_
      refine jb_goto (pc' := 9) dX12_goesBy_38 (by decide) ?_
      have e9 : jm_cs G false (n + 1) s (V, d 7) = jm_cs G false n (s + 1) (V, d 7) := congrArg (jm_cs G false n (s + 1)) (if_neg hov)
      refine ih (s + 1) V d J nm (by omega) hM hd0 hk0 hag (fun d7 J7 nm7 x3 hr7 hz7 hf7 => ?_)
      exact hQ d7 J7 nm7 x3 (by rw [e9]; exact hr7) (by rw [e9]; exact hz7) hf7
    · have hov : (V 9 s) = (V 0 0) := (nI_eq (a := (V 9 s)) (b := (V 0 0)) (by omega) (by omega)).mp hov
      refine jb_aload_n (pc' := 30) dX12_goesBy_29 rfl rfl ?_
      refine jb_iload_n (pc' := 31) dX12_goesBy_30 rfl rfl ?_
      refine jb_iload_n (pc' := 32) dX12_goesBy_31 rfl rfl ?_
      refine jb_callV (pc' := 35) (ci := 12) (q := 105) (As := [.int (nI s), .int 0]) (a2 := 0) (b2 := 0) wv_X12_195 rfl dX12_goesBy_32 (c_comesOver0 I J d e kp nm W hd0 hk0 hG hg hag s (by omega)) rfl rfl ⟨by decide, Nat.le_of_eq (Nat.zero_add _), Nat.le_of_eq (Nat.zero_add _)⟩ (Nat.le_of_ble_eq_true rfl) rfl (fun r h9 hq => ?_)
      obtain ⟨rfl, J9, nm9, d9, hd9, hz9, hf9, rfl⟩ := hq
      show jb_J _ RX12 cX12_goesBy 4 (Option.none : Option Jvm.ClassFile.FieldType) false 48 0 0 35 [some (.ref 105), some (.int 0), some (.int (nI M0)), some (.int (nI s))] [] [s0, s1, s2, s3, s4, s5, s6, s7, s8, s9, jb_mdl I J9 d9 e kp nm9 W, s11] _
      refine jb_iinc_ (pc' := 38) (nI (s + 1)) dX12_goesBy_35 (by decide) rfl (jb_inc s 1) (jb_at3 rfl) rfl ?_
      refine jb_goto (pc' := 9) dX12_goesBy_38 (by decide) ?_
      have e9 : jm_cs G false (n + 1) s (V, d 7) = jm_cs G false n (s + 1) ((jm_co G false s (V, d 7)).1, d9 7) := by
        rw [hz9]
        exact congrArg (jm_cs G false n (s + 1)) (if_pos hov)
      obtain ⟨hk9, hs9, -⟩ := jv_co hk0 hG false (d 7) (s := s) (by omega)
      refine ih (s + 1) (jm_co G false s (V, d 7)).1 d9 J9 nm9 (by omega) (by rw [hs9.2.2.1]; exact hM) hd9 hk9 (fun k hk => (hf9.2.2 k hk).trans (hag k hk)) (fun d7 J7 nm7 x3 hr7 hz7 hf7 => ?_)
      exact hQ d7 J7 nm7 x3 (by rw [e9]; exact hr7) (by rw [e9]; exact hz7) (hf9.tr hf7)
set_option maxRecDepth 100000 in
set_option maxHeartbeats 4000000 in
theorem c_goesBy0 {sc : Nat × (Nat → Int32)} {s0 s1 s2 s3 s4 s5 s6 s7 s8 s9 s11 : List va_E} {V : Nat → Nat → Nat} (I J d e kp nm : Nat → Int32) (W : Nat → Nat → Int32) (hd : jd_ V d) (hk : jv_ok V) {G : jm_G} (hG : jm_Gok G) {d0 : Nat → Int32} (hg : jGm sc d0 G) (hag : ∀ k, 316 ≤ k → d k = d0 k) : jb_C sc yX12_goesBy cX12_goesBy 4 (Option.none : Option Jvm.ClassFile.FieldType) 48 0 0 [.ref 105, .int 0] [s0, s1, s2, s3, s4, s5, s6, s7, s8, s9, jb_mdl I J d e kp nm W, s11] (fun r h9 => r = none ∧ ∃ J9 nm9 d9, jd_ (jm_se G false (V, d 7)).1 d9 ∧ d9 7 = (jm_se G false (V, d 7)).2 ∧ jd_f d d9 ∧ h9 = [s0, s1, s2, s3, s4, s5, s6, s7, s8, s9, jb_mdl I J9 d9 e kp nm9 W, s11]) := by
  refine jb_CofJ (ini := false) (by decide +kernel) (fun h => by cases h) (Nat.le_of_ble_eq_true rfl) ?_
  show jb_J sc RX12 cX12_goesBy 4 (Option.none : Option Jvm.ClassFile.FieldType) false 48 0 0 0 [some (.ref 105), some (.int 0), none, none] [] [s0, s1, s2, s3, s4, s5, s6, s7, s8, s9, jb_mdl I J d e kp nm W, s11] _
  have hd0 := hd
  have hk0 := hk
  obtain ⟨e0, e1, e2, e3, e4, e5, e6, dv, ds, dd⟩ := hd
  obtain ⟨k0, k1, k2, k3, k4, k5, k6, k7, kv, ks, kd⟩ := hk
  refine jb_aload_n (pc' := 1) dX12_goesBy_0 rfl rfl ?_
  refine gf_X12_7 (pc' := 4) (v := .ref 106) dX12_goesBy_1 rfl rfl rfl ?_
  refine jb_iconst (pc' := 5) 5 dX12_goesBy_4 (by decide) rfl ?_
  refine jb_iaload (pc' := 6) (i9 := 5) (f := d) dX12_goesBy_5 rfl jb_x5 (by decide) rfl ?_
  refine jb_top (v := .int (d 5)) (w := .int (nI (V 0 2))) (jb_vI e5) ?_
  refine jb_istore_n_ (pc' := 7) dX12_goesBy_6 (by decide) (jb_at2 rfl) rfl ?_
  refine jb_iconst (pc' := 8) 0 dX12_goesBy_7 (by decide) rfl ?_
  refine jb_istore_n_ (pc' := 9) dX12_goesBy_8 (by decide) (jb_at3 rfl) rfl ?_
  refine l_by0 I e kp W hG hg (V 0 2) _ (V 0 2) 0 V d J nm (by omega) rfl hd0 hk0 hag (fun d8 J8 nm8 x8 hd8 hz8 hf8 => ?_)
  obtain ⟨hk8, hs8⟩ := jv_cs hG false (V 0 2) 0 V (d 7) hk0 (by omega)
  show jb_J _ RX12 cX12_goesBy 4 (Option.none : Option Jvm.ClassFile.FieldType) false 48 0 0 41 [some (.ref 105), some (.int 0), some (.int (nI (V 0 2))), x8] [] [s0, s1, s2, s3, s4, s5, s6, s7, s8, s9, jb_mdl I J8 d8 e kp nm8 W, s11] _
  refine jb_aload_n (pc' := 42) dX12_goesBy_41 rfl rfl ?_
  refine jb_callV (pc' := 45) (ci := 12) (q := 105) (As := []) (a2 := 0) (b2 := 0) wv_X12_199 rfl dX12_goesBy_42 (c_answersm I J8 d8 e kp nm8 W hd8 hk8) rfl rfl ⟨by decide, Nat.le_of_eq (Nat.zero_add _), Nat.le_of_eq (Nat.zero_add _)⟩ (Nat.le_of_ble_eq_true rfl) rfl (fun r h9 hq => ?_)
  obtain ⟨rfl, d9, hd9, hz9, hf9, rfl⟩ := hq
  obtain ⟨V7, hV7⟩ : ∃ X, jm_du (jm_cs G false (V 0 2) 0 (V, d 7)).1 = X := ⟨_, rfl⟩
  rw [hV7] at hd9
  show jb_J _ RX12 cX12_goesBy 4 (Option.none : Option Jvm.ClassFile.FieldType) false 48 0 0 45 [some (.ref 105), some (.int 0), some (.int (nI (V 0 2))), x8] [] [s0, s1, s2, s3, s4, s5, s6, s7, s8, s9, jb_mdl I J8 d9 e kp nm8 W, s11] _
  refine jb_aload_n (pc' := 46) dX12_goesBy_45 rfl rfl ?_
  refine gf_X12_7 (pc' := 49) (v := .ref 106) dX12_goesBy_46 rfl rfl rfl ?_
  refine jb_iconst (pc' := 50) 3 dX12_goesBy_49 (by decide) rfl ?_
  refine jb_dup2 (pc' := 51) dX12_goesBy_50 rfl rfl rfl ?_
  refine jb_iaload (pc' := 52) (i9 := 3) (f := d9) dX12_goesBy_51 rfl jb_x3 (by decide) rfl ?_
  refine jb_top (v := .int (d9 3)) (w := .int (nI (V7 0 0))) (jb_vI hd9.2.2.2.1) ?_
  refine jb_iconst (pc' := 53) 1 dX12_goesBy_52 (by decide) rfl ?_
  refine jb_iadd (pc' := 54) dX12_goesBy_53 rfl ?_
  refine jb_top (v := .int ((nI (V7 0 0)) + 1)) (w := .int (nI ((V7 0 0) + 1))) (jb_vI (nI_add _ 1)) ?_
  refine jb_iastore (pc' := 55) (i9 := 3) (f := d9) (h' := [s0, s1, s2, s3, s4, s5, s6, s7, s8, s9, jb_mdl I J8 (upd d9 3 (nI ((V7 0 0) + 1))) e kp nm8 W, s11]) dX12_goesBy_54 rfl jb_x3 (by decide) rfl rfl ?_
  refine jb_vret dX12_goesBy_55 ?_
  have e9 : jm_se G false (V, d 7) = (jv_up V7 0 0 (V7 0 0 + 1), (jm_cs G false (V 0 2) 0 (V, d 7)).2) := by
    rw [← hV7]
    rfl
  exact ⟨rfl, J8, nm8, (upd d9 3 (nI ((V7 0 0) + 1))), by rw [e9]; exact jd_sec hd9 _, by rw [e9]; exact (jb_une (by decide)).trans (hz9.trans hz8), hf8.tr (hf9.tr ⟨jb_une (by decide), jb_une (by decide), fun k hk => jb_une (by omega)⟩), rfl⟩
