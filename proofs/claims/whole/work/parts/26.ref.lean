set_option maxRecDepth 100000 in
set_option maxHeartbeats 4000000 in
theorem l_taughtm {sc : Nat × (Nat → Int32)} {s0 s1 s2 s3 s4 s5 s6 s7 s8 s9 s11 : List va_E} {V : Nat → Nat → Nat} (I J d e kp nm : Nat → Int32) (W : Nat → Nat → Int32) (hd : jd_ V d) (hk : jv_ok V) (q : Nat) (hq : q < V 0 2) : ∀ (n s : Nat), s + n = V 0 2 → jb_J sc RX12 cX12_isTaught 3 (Option.some .boolean) false 1 0 0 2 [some (.ref 105), some (.int (nI q)), some (.int (nI s))] [] [s0, s1, s2, s3, s4, s5, s6, s7, s8, s9, jb_mdl I J d e kp nm W, s11] (fun r h9 => h9 = [s0, s1, s2, s3, s4, s5, s6, s7, s8, s9, jb_mdl I J d e kp nm W, s11] ∧ ((jm_it V q n s = true ∧ r = some (.int 1)) ∨ (jm_it V q n s = false ∧ r = some (.int 0)))) := by
  have hd0 := hd
  have hk0 := hk
  obtain ⟨e0, e1, e2, e3, e4, e5, e6, dv, ds, dd⟩ := hd
  obtain ⟨k0, k1, k2, k3, k4, k5, k6, k7, kv, ks, kd⟩ := hk
  have q0 := ks q hq
  intro n
  induction n with
  | zero =>
    intro s hs
    show jb_J _ RX12 cX12_isTaught 3 (Option.some .boolean) false 1 0 0 2 [some (.ref 105), some (.int (nI q)), some (.int (nI s))] [] [s0, s1, s2, s3, s4, s5, s6, s7, s8, s9, jb_mdl I J d e kp nm W, s11] _
    refine jb_iload_n (pc' := 3) dX12_isTaught_2 rfl rfl ?_
    refine jb_aload_n (pc' := 4) dX12_isTaught_3 rfl rfl ?_
    refine gf_X12_7 (pc' := 7) (v := .ref 106) dX12_isTaught_4 rfl rfl rfl ?_
    refine jb_iconst (pc' := 8) 5 dX12_isTaught_7 (by decide) rfl ?_
    refine jb_iaload (pc' := 9) (i9 := 5) (f := d) dX12_isTaught_8 rfl jb_x5 (by decide) rfl ?_
    refine jb_top (v := .int (d 5)) (w := .int (nI (V 0 2))) (jb_vI e5) ?_
    refine jb_icmp_ge (tgt := 62) (pc' := 12) dX12_isTaught_9 (by decide) rfl (fun _ => ?_) (fun z => absurd (nI_le (a := V 0 2) (b := s) (by omega) (by omega)) z)
    refine jb_iconst (pc' := 63) 0 dX12_isTaught_62 (by decide) rfl ?_
    refine jb_iret dX12_isTaught_63 rfl ?_
    exact ⟨rfl, Or.inr ⟨rfl, rfl⟩⟩
  | succ n ih =>
    intro s hs
    have q1 := ks s (by omega)
    show jb_J _ RX12 cX12_isTaught 3 (Option.some .boolean) false 1 0 0 2 [some (.ref 105), some (.int (nI q)), some (.int (nI s))] [] [s0, s1, s2, s3, s4, s5, s6, s7, s8, s9, jb_mdl I J d e kp nm W, s11] _
    refine jb_iload_n (pc' := 3) dX12_isTaught_2 rfl rfl ?_
    refine jb_aload_n (pc' := 4) dX12_isTaught_3 rfl rfl ?_
    refine gf_X12_7 (pc' := 7) (v := .ref 106) dX12_isTaught_4 rfl rfl rfl ?_
    refine jb_iconst (pc' := 8) 5 dX12_isTaught_7 (by decide) rfl ?_
    refine jb_iaload (pc' := 9) (i9 := 5) (f := d) dX12_isTaught_8 rfl jb_x5 (by decide) rfl ?_
    refine jb_top (v := .int (d 5)) (w := .int (nI (V 0 2))) (jb_vI e5) ?_
    refine jb_icmp_ge (tgt := 62) (pc' := 12) dX12_isTaught_9 (by decide) rfl (fun z => absurd z (nI_ge (a := s) (b := V 0 2) (by omega) (by omega))) (fun _ => ?_)
    refine jb_aload_n (pc' := 13) dX12_isTaught_12 rfl rfl ?_
    refine jb_iload_n (pc' := 14) dX12_isTaught_13 rfl rfl ?_
    refine jb_iconst (pc' := 15) 4 dX12_isTaught_14 (by decide) rfl ?_
    refine jb_callV (pc' := 18) (ci := 12) (q := 105) (As := [.int (nI s), .int 4]) (a2 := 0) (b2 := 0) wv_X12_182 rfl dX12_isTaught_15 (c_ofIt4 I J d e kp nm W hd0 hk0 s (by omega)) rfl rfl ⟨by decide, Nat.le_of_eq (Nat.zero_add _), Nat.le_of_eq (Nat.zero_add _)⟩ (Nat.le_of_ble_eq_true rfl) rfl (fun r h9 hq => ?_)
    obtain ⟨rfl, rfl⟩ := hq
    show jb_J _ RX12 cX12_isTaught 3 (Option.some .boolean) false 1 0 0 18 [some (.ref 105), some (.int (nI q)), some (.int (nI s))] [.int (nI (V 8 s) - 1)] [s0, s1, s2, s3, s4, s5, s6, s7, s8, s9, jb_mdl I J d e kp nm W, s11] _
    refine jb_iload_n (pc' := 19) dX12_isTaught_18 rfl rfl ?_
    refine jb_icmp_ne (tgt := 56) (pc' := 22) dX12_isTaught_19 (by decide) rfl (fun c2 => ?_) (fun c2 => ?_)
    · have c2 : ¬ (V 8 s) = q + 1 := fun z9 => c2 ((jn_to (a := (V 8 s)) (q := q) (by omega) (by omega)).mpr z9)
      refine jb_iinc_ (pc' := 59) (nI (s + 1)) dX12_isTaught_56 (by decide) rfl (jb_inc s 1) (jb_at2 rfl) rfl ?_
      refine jb_goto (pc' := 2) dX12_isTaught_59 (by decide) ?_
      have e9 : jm_it V q (n + 1) s = jm_it V q n (s + 1) := if_neg (fun z => by omega)
      rw [e9]
      exact ih (s + 1) (by omega)
    · have c2 : (V 8 s) = q + 1 := (jn_to (a := (V 8 s)) (q := q) (by omega) (by omega)).mp c2
      refine jb_aload_n (pc' := 23) dX12_isTaught_22 rfl rfl ?_
      refine jb_iload_n (pc' := 24) dX12_isTaught_23 rfl rfl ?_
      refine jb_iconst (pc' := 25) 3 dX12_isTaught_24 (by decide) rfl ?_
      refine jb_callV (pc' := 28) (ci := 12) (q := 105) (As := [.int (nI s), .int 3]) (a2 := 0) (b2 := 0) wv_X12_182 rfl dX12_isTaught_25 (c_ofIt3 I J d e kp nm W hd0 hk0 s (by omega)) rfl rfl ⟨by decide, Nat.le_of_eq (Nat.zero_add _), Nat.le_of_eq (Nat.zero_add _)⟩ (Nat.le_of_ble_eq_true rfl) rfl (fun r h9 hq => ?_)
      obtain ⟨rfl, rfl⟩ := hq
      show jb_J _ RX12 cX12_isTaught 3 (Option.some .boolean) false 1 0 0 28 [some (.ref 105), some (.int (nI q)), some (.int (nI s))] [.int (nI (V 7 s))] [s0, s1, s2, s3, s4, s5, s6, s7, s8, s9, jb_mdl I J d e kp nm W, s11] _
      refine jb_aload_n (pc' := 29) dX12_isTaught_28 rfl rfl ?_
      refine jb_iload_n (pc' := 30) dX12_isTaught_29 rfl rfl ?_
      refine jb_iconst (pc' := 31) 3 dX12_isTaught_30 (by decide) rfl ?_
      refine jb_callV (pc' := 34) (ci := 12) (q := 105) (As := [.int (nI q), .int 3]) (a2 := 0) (b2 := 0) wv_X12_182 rfl dX12_isTaught_31 (c_ofIt3 I J d e kp nm W hd0 hk0 q (by omega)) rfl rfl ⟨by decide, Nat.le_of_eq (Nat.zero_add _), Nat.le_of_eq (Nat.zero_add _)⟩ (Nat.le_of_ble_eq_true rfl) rfl (fun r h9 hq => ?_)
      obtain ⟨rfl, rfl⟩ := hq
      show jb_J _ RX12 cX12_isTaught 3 (Option.some .boolean) false 1 0 0 34 [some (.ref 105), some (.int (nI q)), some (.int (nI s))] [.int (nI (V 7 q)), .int (nI (V 7 s))] [s0, s1, s2, s3, s4, s5, s6, s7, s8, s9, jb_mdl I J d e kp nm W, s11] _
      refine jb_iconst (pc' := 35) 1 dX12_isTaught_34 (by decide) rfl ?_
      refine jb_iadd (pc' := 36) dX12_isTaught_35 rfl ?_
      refine jb_top (v := .int ((nI (V 7 q)) + 1)) (w := .int (nI ((V 7 q) + 1))) (jb_vI (nI_add _ 1)) ?_
      refine jb_icmp_ne (tgt := 56) (pc' := 39) dX12_isTaught_36 (by decide) rfl (fun c3 => ?_) (fun c3 => ?_)
      · have c3 : ¬ (V 7 s) = ((V 7 q) + 1) := fun z9 => c3 ((nI_eq (a := (V 7 s)) (b := ((V 7 q) + 1)) (by omega) (by omega)).mpr z9)
        refine jb_iinc_ (pc' := 59) (nI (s + 1)) dX12_isTaught_56 (by decide) rfl (jb_inc s 1) (jb_at2 rfl) rfl ?_
        refine jb_goto (pc' := 2) dX12_isTaught_59 (by decide) ?_
        have e9 : jm_it V q (n + 1) s = jm_it V q n (s + 1) := if_neg (fun z => by omega)
        rw [e9]
        exact ih (s + 1) (by omega)
      · have c3 : (V 7 s) = ((V 7 q) + 1) := (nI_eq (a := (V 7 s)) (b := ((V 7 q) + 1)) (by omega) (by omega)).mp c3
        refine jb_aload_n (pc' := 40) dX12_isTaught_39 rfl rfl ?_
        refine jb_iload_n (pc' := 41) dX12_isTaught_40 rfl rfl ?_
        refine jb_iconst (pc' := 42) 5 dX12_isTaught_41 (by decide) rfl ?_
        refine jb_callV (pc' := 45) (ci := 12) (q := 105) (As := [.int (nI s), .int 5]) (a2 := 0) (b2 := 0) wv_X12_182 rfl dX12_isTaught_42 (c_ofIt5 I J d e kp nm W hd0 hk0 s (by omega)) rfl rfl ⟨by decide, Nat.le_of_eq (Nat.zero_add _), Nat.le_of_eq (Nat.zero_add _)⟩ (Nat.le_of_ble_eq_true rfl) rfl (fun r h9 hq => ?_)
        obtain ⟨rfl, rfl⟩ := hq
        show jb_J _ RX12 cX12_isTaught 3 (Option.some .boolean) false 1 0 0 45 [some (.ref 105), some (.int (nI q)), some (.int (nI s))] [.int (nI (V 9 s))] [s0, s1, s2, s3, s4, s5, s6, s7, s8, s9, jb_mdl I J d e kp nm W, s11] _
        refine jb_aload_n (pc' := 46) dX12_isTaught_45 rfl rfl ?_
        refine gf_X12_7 (pc' := 49) (v := .ref 106) dX12_isTaught_46 rfl rfl rfl ?_
        refine jb_iconst (pc' := 50) 3 dX12_isTaught_49 (by decide) rfl ?_
        refine jb_iaload (pc' := 51) (i9 := 3) (f := d) dX12_isTaught_50 rfl jb_x3 (by decide) rfl ?_
        refine jb_top (v := .int (d 3)) (w := .int (nI (V 0 0))) (jb_vI e3) ?_
        refine jb_icmp_ge (tgt := 56) (pc' := 54) dX12_isTaught_51 (by decide) rfl (fun c4 => ?_) (fun c4 => ?_)
        · have c4 : (V 0 0) ≤ (V 9 s) := (nI_leI (a := (V 0 0)) (b := (V 9 s)) (by omega) (by omega)).mp c4
          refine jb_iinc_ (pc' := 59) (nI (s + 1)) dX12_isTaught_56 (by decide) rfl (jb_inc s 1) (jb_at2 rfl) rfl ?_
          refine jb_goto (pc' := 2) dX12_isTaught_59 (by decide) ?_
          have e9 : jm_it V q (n + 1) s = jm_it V q n (s + 1) := if_neg (fun z => by omega)
          rw [e9]
          exact ih (s + 1) (by omega)
        · have c4 : ¬ (V 0 0) ≤ (V 9 s) := fun z9 => c4 ((nI_leI (a := (V 0 0)) (b := (V 9 s)) (by omega) (by omega)).mpr z9)
          refine jb_iconst (pc' := 55) 1 dX12_isTaught_54 (by decide) rfl ?_
          refine jb_iret dX12_isTaught_55 rfl ?_
          exact ⟨rfl, Or.inl ⟨if_pos (by omega), rfl⟩⟩
set_option maxRecDepth 100000 in
set_option maxHeartbeats 4000000 in
theorem c_isTaughtm {sc : Nat × (Nat → Int32)} {s0 s1 s2 s3 s4 s5 s6 s7 s8 s9 s11 : List va_E} {V : Nat → Nat → Nat} (I J d e kp nm : Nat → Int32) (W : Nat → Nat → Int32) (hd : jd_ V d) (hk : jv_ok V) (q : Nat) (hq : q < V 0 2) : jb_C sc yX12_isTaught cX12_isTaught 3 (Option.some .boolean) 1 0 0 [.ref 105, .int (nI q)] [s0, s1, s2, s3, s4, s5, s6, s7, s8, s9, jb_mdl I J d e kp nm W, s11] (fun r h9 => h9 = [s0, s1, s2, s3, s4, s5, s6, s7, s8, s9, jb_mdl I J d e kp nm W, s11] ∧ ((jm_it V q (V 0 2) 0 = true ∧ r = some (.int 1)) ∨ (jm_it V q (V 0 2) 0 = false ∧ r = some (.int 0)))) := by
  refine jb_CofJ (ini := false) (by decide +kernel) (fun h => by cases h) (Nat.le_of_ble_eq_true rfl) ?_
  show jb_J sc RX12 cX12_isTaught 3 (Option.some .boolean) false 1 0 0 0 [some (.ref 105), some (.int (nI q)), none] [] [s0, s1, s2, s3, s4, s5, s6, s7, s8, s9, jb_mdl I J d e kp nm W, s11] _
  refine jb_iconst (pc' := 1) 0 dX12_isTaught_0 (by decide) rfl ?_
  refine jb_istore_n_ (pc' := 2) dX12_isTaught_1 (by decide) (jb_at2 rfl) rfl ?_
  exact l_taughtm I J d e kp nm W hd hk q hq (V 0 2) 0 (by omega)
set_option maxRecDepth 100000 in
set_option maxHeartbeats 4000000 in
theorem l_taughtsm {sc : Nat × (Nat → Int32)} {s0 s1 s2 s3 s4 s5 s6 s7 s8 s9 s11 : List va_E} {V : Nat → Nat → Nat} (I J d e kp nm : Nat → Int32) (W : Nat → Nat → Int32) (hd : jd_ V d) (hk : jv_ok V) : ∀ (n q k : Nat), q + n = V 0 2 → k ≤ q → jb_J sc RX12 cX12_taught 3 (Option.some .int) false 2 0 0 4 [some (.ref 105), some (.int (nI k)), some (.int (nI q))] [] [s0, s1, s2, s3, s4, s5, s6, s7, s8, s9, jb_mdl I J d e kp nm W, s11] (fun r h9 => r = some (.int (nI (jm_tk V n q k))) ∧ h9 = [s0, s1, s2, s3, s4, s5, s6, s7, s8, s9, jb_mdl I J d e kp nm W, s11]) := by
  have hd0 := hd
  have hk0 := hk
  obtain ⟨e0, e1, e2, e3, e4, e5, e6, dv, ds, dd⟩ := hd
  obtain ⟨k0, k1, k2, k3, k4, k5, k6, k7, kv, ks, kd⟩ := hk
  intro n
  induction n with
  | zero =>
    intro q k hq hkq
    show jb_J _ RX12 cX12_taught 3 (Option.some .int) false 2 0 0 4 [some (.ref 105), some (.int (nI k)), some (.int (nI q))] [] [s0, s1, s2, s3, s4, s5, s6, s7, s8, s9, jb_mdl I J d e kp nm W, s11] _
    refine jb_iload_n (pc' := 5) dX12_taught_4 rfl rfl ?_
    refine jb_aload_n (pc' := 6) dX12_taught_5 rfl rfl ?_
    refine gf_X12_7 (pc' := 9) (v := .ref 106) dX12_taught_6 rfl rfl rfl ?_
    refine jb_iconst (pc' := 10) 5 dX12_taught_9 (by decide) rfl ?_
    refine jb_iaload (pc' := 11) (i9 := 5) (f := d) dX12_taught_10 rfl jb_x5 (by decide) rfl ?_
    refine jb_top (v := .int (d 5)) (w := .int (nI (V 0 2))) (jb_vI e5) ?_
    refine jb_icmp_ge (tgt := 47) (pc' := 14) dX12_taught_11 (by decide) rfl (fun _ => ?_) (fun z => absurd (nI_le (a := V 0 2) (b := q) (by omega) (by omega)) z)
    refine jb_iload_n (pc' := 48) dX12_taught_47 rfl rfl ?_
    refine jb_iret dX12_taught_48 rfl ?_
    exact ⟨rfl, rfl⟩
  | succ n ih =>
    intro q k hq hkq
    have q1 := ks q (by omega)
    show jb_J _ RX12 cX12_taught 3 (Option.some .int) false 2 0 0 4 [some (.ref 105), some (.int (nI k)), some (.int (nI q))] [] [s0, s1, s2, s3, s4, s5, s6, s7, s8, s9, jb_mdl I J d e kp nm W, s11] _
    refine jb_iload_n (pc' := 5) dX12_taught_4 rfl rfl ?_
    refine jb_aload_n (pc' := 6) dX12_taught_5 rfl rfl ?_
    refine gf_X12_7 (pc' := 9) (v := .ref 106) dX12_taught_6 rfl rfl rfl ?_
    refine jb_iconst (pc' := 10) 5 dX12_taught_9 (by decide) rfl ?_
    refine jb_iaload (pc' := 11) (i9 := 5) (f := d) dX12_taught_10 rfl jb_x5 (by decide) rfl ?_
    refine jb_top (v := .int (d 5)) (w := .int (nI (V 0 2))) (jb_vI e5) ?_
    refine jb_icmp_ge (tgt := 47) (pc' := 14) dX12_taught_11 (by decide) rfl (fun z => absurd z (nI_ge (a := q) (b := V 0 2) (by omega) (by omega))) (fun _ => ?_)
    refine jb_iload_n (pc' := 15) dX12_taught_14 rfl rfl ?_
    refine jb_aload_n (pc' := 16) dX12_taught_15 rfl rfl ?_
    refine jb_iload_n (pc' := 17) dX12_taught_16 rfl rfl ?_
    refine jb_iconst (pc' := 18) 3 dX12_taught_17 (by decide) rfl ?_
    refine jb_callV (pc' := 21) (ci := 12) (q := 105) (As := [.int (nI q), .int 3]) (a2 := 0) (b2 := 0) wv_X12_182 rfl dX12_taught_18 (c_ofIt3 I J d e kp nm W hd0 hk0 q (by omega)) rfl rfl ⟨by decide, Nat.le_of_eq (Nat.zero_add _), Nat.le_of_eq (Nat.zero_add _)⟩ (Nat.le_of_ble_eq_true rfl) rfl (fun r h9 hq => ?_)
    obtain ⟨rfl, rfl⟩ := hq
    show jb_J _ RX12 cX12_taught 3 (Option.some .int) false 2 0 0 21 [some (.ref 105), some (.int (nI k)), some (.int (nI q))] [.int (nI (V 7 q)), .int (nI k)] [s0, s1, s2, s3, s4, s5, s6, s7, s8, s9, jb_mdl I J d e kp nm W, s11] _
    refine jb_iconst (pc' := 22) 2 dX12_taught_21 (by decide) rfl ?_
    refine jb_irem (pc' := 23) dX12_taught_22 (by decide) rfl ?_
    refine jb_top (v := .int ((nI (V 7 q)) - (nI (V 7 q)) / 2 * 2)) (w := .int (nI ((V 7 q) % 2))) (jb_vI (pk_rem (a := (V 7 q)) (d := 2) (by omega) (by omega) (by omega))) ?_
    refine jb_if_ne (tgt := 38) (pc' := 26) dX12_taught_23 (by decide) rfl (fun c2 => ?_) (fun c2 => ?_)
    · have c2 : ¬ ((V 7 q) % 2) = 0 := fun z9 => c2 ((nI_eq (a := ((V 7 q) % 2)) (b := 0) (by omega) (by omega)).mpr z9)
      refine jb_iconst (pc' := 39) 0 dX12_taught_38 (by decide) rfl ?_
      refine jb_iadd (pc' := 40) dX12_taught_39 rfl ?_
      refine jb_top (v := .int ((nI k) + 0)) (w := .int (nI (k + 0))) (jb_vI (nI_add _ 0)) ?_
      refine jb_istore_n_ (pc' := 41) dX12_taught_40 (by decide) (jb_at1 rfl) rfl ?_
      refine jb_iinc_ (pc' := 44) (nI (q + 1)) dX12_taught_41 (by decide) rfl (jb_inc q 1) (jb_at2 rfl) rfl ?_
      refine jb_goto (pc' := 4) dX12_taught_44 (by decide) ?_
      have e9 : jm_tk V (n + 1) q k = jm_tk V n (q + 1) (k + 0) := congrArg (jm_tk V n (q + 1)) (if_neg (fun z => by first | omega | simp_all))
      rw [e9]
      exact ih (q + 1) (k + 0) (by omega) (by omega)
    · have c2 : ((V 7 q) % 2) = 0 := (nI_eq (a := ((V 7 q) % 2)) (b := 0) (by omega) (by omega)).mp c2
      refine jb_aload_n (pc' := 27) dX12_taught_26 rfl rfl ?_
      refine jb_iload_n (pc' := 28) dX12_taught_27 rfl rfl ?_
      refine jb_callV (pc' := 31) (ci := 12) (q := 105) (As := [.int (nI q)]) (a2 := 0) (b2 := 0) wv_X12_185 rfl dX12_taught_28 (c_isTaughtm I J d e kp nm W hd0 hk0 q (by omega)) rfl rfl ⟨by decide, Nat.le_of_eq (Nat.zero_add _), Nat.le_of_eq (Nat.zero_add _)⟩ (Nat.le_of_ble_eq_true rfl) rfl (fun r h9 hq => ?_)
      rcases hq with ⟨rfl, ⟨ht9, rfl⟩ | ⟨ht9, rfl⟩⟩
      · show jb_J _ RX12 cX12_taught 3 (Option.some .int) false 2 0 0 31 [some (.ref 105), some (.int (nI k)), some (.int (nI q))] [.int 1, .int (nI k)] [s0, s1, s2, s3, s4, s5, s6, s7, s8, s9, jb_mdl I J d e kp nm W, s11] _
        refine jb_if_eq (tgt := 38) (pc' := 34) dX12_taught_31 (by decide) rfl (fun z => absurd z (by decide)) (fun _ => ?_)
        refine jb_iconst (pc' := 35) 1 dX12_taught_34 (by decide) rfl ?_
        refine jb_goto (pc' := 39) dX12_taught_35 (by decide) ?_
        refine jb_iadd (pc' := 40) dX12_taught_39 rfl ?_
        refine jb_top (v := .int ((nI k) + 1)) (w := .int (nI (k + 1))) (jb_vI (nI_add _ 1)) ?_
        refine jb_istore_n_ (pc' := 41) dX12_taught_40 (by decide) (jb_at1 rfl) rfl ?_
        refine jb_iinc_ (pc' := 44) (nI (q + 1)) dX12_taught_41 (by decide) rfl (jb_inc q 1) (jb_at2 rfl) rfl ?_
        refine jb_goto (pc' := 4) dX12_taught_44 (by decide) ?_
        have e9 : jm_tk V (n + 1) q k = jm_tk V n (q + 1) (k + 1) := congrArg (jm_tk V n (q + 1)) (if_pos ⟨by omega, by assumption⟩)
        rw [e9]
        exact ih (q + 1) (k + 1) (by omega) (by omega)
      · show jb_J _ RX12 cX12_taught 3 (Option.some .int) false 2 0 0 31 [some (.ref 105), some (.int (nI k)), some (.int (nI q))] [.int 0, .int (nI k)] [s0, s1, s2, s3, s4, s5, s6, s7, s8, s9, jb_mdl I J d e kp nm W, s11] _
        refine jb_if_eq (tgt := 38) (pc' := 34) dX12_taught_31 (by decide) rfl (fun _ => ?_) (fun z => absurd (by decide) z)
        refine jb_iconst (pc' := 39) 0 dX12_taught_38 (by decide) rfl ?_
        refine jb_iadd (pc' := 40) dX12_taught_39 rfl ?_
        refine jb_top (v := .int ((nI k) + 0)) (w := .int (nI (k + 0))) (jb_vI (nI_add _ 0)) ?_
        refine jb_istore_n_ (pc' := 41) dX12_taught_40 (by decide) (jb_at1 rfl) rfl ?_
        refine jb_iinc_ (pc' := 44) (nI (q + 1)) dX12_taught_41 (by decide) rfl (jb_inc q 1) (jb_at2 rfl) rfl ?_
        refine jb_goto (pc' := 4) dX12_taught_44 (by decide) ?_
        have e9 : jm_tk V (n + 1) q k = jm_tk V n (q + 1) (k + 0) := congrArg (jm_tk V n (q + 1)) (if_neg (fun z => by first | omega | simp_all))
        rw [e9]
        exact ih (q + 1) (k + 0) (by omega) (by omega)
set_option maxRecDepth 100000 in
set_option maxHeartbeats 4000000 in
theorem c_taughtm {sc : Nat × (Nat → Int32)} {s0 s1 s2 s3 s4 s5 s6 s7 s8 s9 s11 : List va_E} {V : Nat → Nat → Nat} (I J d e kp nm : Nat → Int32) (W : Nat → Nat → Int32) (hd : jd_ V d) (hk : jv_ok V) : jb_C sc yX12_taught cX12_taught 3 (Option.some .int) 2 0 0 [.ref 105] [s0, s1, s2, s3, s4, s5, s6, s7, s8, s9, jb_mdl I J d e kp nm W, s11] (fun r h9 => r = some (.int (nI (jm_ta V))) ∧ h9 = [s0, s1, s2, s3, s4, s5, s6, s7, s8, s9, jb_mdl I J d e kp nm W, s11]) := by
  refine jb_CofJ (ini := false) (by decide +kernel) (fun h => by cases h) (Nat.le_of_ble_eq_true rfl) ?_
  show jb_J sc RX12 cX12_taught 3 (Option.some .int) false 2 0 0 0 [some (.ref 105), none, none] [] [s0, s1, s2, s3, s4, s5, s6, s7, s8, s9, jb_mdl I J d e kp nm W, s11] _
  refine jb_iconst (pc' := 1) 0 dX12_taught_0 (by decide) rfl ?_
  refine jb_istore_n_ (pc' := 2) dX12_taught_1 (by decide) (jb_at1 rfl) rfl ?_
  refine jb_iconst (pc' := 3) 0 dX12_taught_2 (by decide) rfl ?_
  refine jb_istore_n_ (pc' := 4) dX12_taught_3 (by decide) (jb_at2 rfl) rfl ?_
  exact l_taughtsm I J d e kp nm W hd hk (V 0 2) 0 0 (by omega) (by omega)
