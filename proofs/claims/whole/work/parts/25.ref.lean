set_option maxRecDepth 100000 in
set_option maxHeartbeats 4000000 in
theorem l_on {sc : Nat × (Nat → Int32)} {s0 s1 s2 s3 s4 s5 s6 s7 s8 s9 s11 : List va_E} (I e kp : Nat → Int32) (W : Nat → Nat → Int32) {G : jm_G} (hG : jm_Gok G) {d0 : Nat → Int32} (hg : jGm sc d0 G) (N : Nat) (hN : N ≤ 10000) : ∀ (n i : Nat) (V : Nat → Nat → Nat) (d J nm : Nat → Int32), i + n = N → V 0 0 + n ≤ 20000 → jd_ V d → jv_ok V → (∀ k, 316 ≤ k → d k = d0 k) → jb_J sc RX12 cX12_goesOn 3 (Option.none : Option Jvm.ClassFile.FieldType) false 49 0 0 2 [some (.ref 105), some (.int (nI N)), some (.int (nI i))] [] [s0, s1, s2, s3, s4, s5, s6, s7, s8, s9, jb_mdl I J d e kp nm W, s11] (fun r h9 => r = none ∧ ∃ J9 nm9 d9, jd_ (jm_pa G false n (V, d 7)).1 d9 ∧ d9 7 = (jm_pa G false n (V, d 7)).2 ∧ jd_f d d9 ∧ h9 = [s0, s1, s2, s3, s4, s5, s6, s7, s8, s9, jb_mdl I J9 d9 e kp nm9 W, s11]) := by
  intro n
  induction n with
  | zero =>
    intro i V d J nm hi h2 hd hk hag
    show jb_J _ RX12 cX12_goesOn 3 (Option.none : Option Jvm.ClassFile.FieldType) false 49 0 0 2 [some (.ref 105), some (.int (nI N)), some (.int (nI i))] [] [s0, s1, s2, s3, s4, s5, s6, s7, s8, s9, jb_mdl I J d e kp nm W, s11] _
    refine jb_iload_n (pc' := 3) dX12_goesOn_2 rfl rfl ?_
    refine jb_iload_n (pc' := 4) dX12_goesOn_3 rfl rfl ?_
    refine jb_icmp_ge (tgt := 18) (pc' := 7) dX12_goesOn_4 (by decide) rfl (fun _ => ?_) (fun z => absurd (nI_le (a := N) (b := i) (by omega) (by omega)) z)
    refine jb_vret dX12_goesOn_18 ?_
    exact ⟨rfl, J, nm, d, hd, rfl, jd_f.rf d, rfl⟩
  | succ n ih =>
    intro i V d J nm hi h2 hd hk hag
    show jb_J _ RX12 cX12_goesOn 3 (Option.none : Option Jvm.ClassFile.FieldType) false 49 0 0 2 [some (.ref 105), some (.int (nI N)), some (.int (nI i))] [] [s0, s1, s2, s3, s4, s5, s6, s7, s8, s9, jb_mdl I J d e kp nm W, s11] _
    refine jb_iload_n (pc' := 3) dX12_goesOn_2 rfl rfl ?_
    refine jb_iload_n (pc' := 4) dX12_goesOn_3 rfl rfl ?_
    refine jb_icmp_ge (tgt := 18) (pc' := 7) dX12_goesOn_4 (by decide) rfl (fun z => absurd z (nI_ge (a := i) (b := N) (by omega) (by omega))) (fun _ => ?_)
    refine jb_aload_n (pc' := 8) dX12_goesOn_7 rfl rfl ?_
    refine jb_iconst (pc' := 9) 0 dX12_goesOn_8 (by decide) rfl ?_
    refine jb_callV (pc' := 12) (ci := 12) (q := 105) (As := [.int 0]) (a2 := 0) (b2 := 0) wv_X12_202 rfl dX12_goesOn_9 (c_goesBy0 I J d e kp nm W hd hk hG hg hag) rfl rfl ⟨by decide, Nat.le_of_eq (Nat.zero_add _), Nat.le_of_eq (Nat.zero_add _)⟩ (Nat.le_of_ble_eq_true rfl) rfl (fun r h9 hq => ?_)
    obtain ⟨rfl, J9, nm9, d9, hd9, hz9, hf9, rfl⟩ := hq
    show jb_J _ RX12 cX12_goesOn 3 (Option.none : Option Jvm.ClassFile.FieldType) false 49 0 0 12 [some (.ref 105), some (.int (nI N)), some (.int (nI i))] [] [s0, s1, s2, s3, s4, s5, s6, s7, s8, s9, jb_mdl I J9 d9 e kp nm9 W, s11] _
    refine jb_iinc_ (pc' := 15) (nI (i + 1)) dX12_goesOn_12 (by decide) rfl (jb_inc i 1) (jb_at2 rfl) rfl ?_
    refine jb_goto (pc' := 2) dX12_goesOn_15 (by decide) ?_
    have e9 : jm_pa G false (n + 1) (V, d 7) = jm_pa G false n ((jm_se G false (V, d 7)).1, d9 7) := by
      rw [hz9]
      rfl
    obtain ⟨hk9, hs9, -⟩ := jv_se hk hG false (d 7) (by omega)
    refine jb_J.mono (ih (i + 1) (jm_se G false (V, d 7)).1 d9 J9 nm9 (by omega) (by omega) hd9 hk9 (fun k hk => (hf9.2.2 k hk).trans (hag k hk))) (Nat.le_refl _) (Nat.le_refl _) (Nat.le_refl _) (fun r h9 hq => ?_)
    obtain ⟨rfl, J7, nm7, d7, hd7, hz7, hf7, rfl⟩ := hq
    exact ⟨rfl, J7, nm7, d7, by rw [e9]; exact hd7, by rw [e9]; exact hz7, hf9.tr hf7, rfl⟩
set_option maxRecDepth 100000 in
set_option maxHeartbeats 4000000 in
theorem c_goesOn {sc : Nat × (Nat → Int32)} {s0 s1 s2 s3 s4 s5 s6 s7 s8 s9 s11 : List va_E} {V : Nat → Nat → Nat} (I J d e kp nm : Nat → Int32) (W : Nat → Nat → Int32) (hd : jd_ V d) (hk : jv_ok V) {G : jm_G} (hG : jm_Gok G) {d0 : Nat → Int32} (hg : jGm sc d0 G) (hag : ∀ k, 316 ≤ k → d k = d0 k) (N : Nat) (hN : N ≤ 10000) (h2 : V 0 0 + N ≤ 20000) : jb_C sc yX12_goesOn cX12_goesOn 3 (Option.none : Option Jvm.ClassFile.FieldType) 49 0 0 [.ref 105, .int (nI N)] [s0, s1, s2, s3, s4, s5, s6, s7, s8, s9, jb_mdl I J d e kp nm W, s11] (fun r h9 => r = none ∧ ∃ J9 nm9 d9, jd_ (jm_pa G false N (V, d 7)).1 d9 ∧ d9 7 = (jm_pa G false N (V, d 7)).2 ∧ jd_f d d9 ∧ h9 = [s0, s1, s2, s3, s4, s5, s6, s7, s8, s9, jb_mdl I J9 d9 e kp nm9 W, s11]) := by
  refine jb_CofJ (ini := false) (by decide +kernel) (fun h => by cases h) (Nat.le_of_ble_eq_true rfl) ?_
  show jb_J sc RX12 cX12_goesOn 3 (Option.none : Option Jvm.ClassFile.FieldType) false 49 0 0 0 [some (.ref 105), some (.int (nI N)), none] [] [s0, s1, s2, s3, s4, s5, s6, s7, s8, s9, jb_mdl I J d e kp nm W, s11] _
  refine jb_iconst (pc' := 1) 0 dX12_goesOn_0 (by decide) rfl ?_
  refine jb_istore_n_ (pc' := 2) dX12_goesOn_1 (by decide) (jb_at2 rfl) rfl ?_
  exact l_on I e kp W hG hg N hN N 0 V d J nm (by omega) h2 hd hk hag
