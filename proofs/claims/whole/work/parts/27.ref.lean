set_option maxRecDepth 100000 in
set_option maxHeartbeats 4000000 in
theorem l_cp_106_107 {sc : Nat × (Nat → Int32)} {s0 s1 s2 s3 s4 s5 s6 s7 s8 s9 s11 : List va_E} (I J d kp nm : Nat → Int32) (W : Nat → Nat → Int32) : ∀ (n i : Nat) (g : Nat → Int32), i + n = 490 → (∀ k, k < i → g k = d k) → jb_J sc RX12 cX12_copies 3 (Option.none : Option Jvm.ClassFile.FieldType) false 0 0 0 2 [some (.ref 106), some (.ref 107), some (.int (nI i))] [] [s0, s1, s2, s3, s4, s5, s6, s7, s8, s9, jb_mdl I J d g kp nm W, s11] (fun r h9 => r = none ∧ ∃ g9, (∀ k, k < 490 → g9 k = d k) ∧ h9 = [s0, s1, s2, s3, s4, s5, s6, s7, s8, s9, jb_mdl I J d g9 kp nm W, s11]) := by
  intro n
  induction n with
  | zero =>
    intro i g hi hg
    show jb_J _ RX12 cX12_copies 3 (Option.none : Option Jvm.ClassFile.FieldType) false 0 0 0 2 [some (.ref 106), some (.ref 107), some (.int (nI i))] [] [s0, s1, s2, s3, s4, s5, s6, s7, s8, s9, jb_mdl I J d g kp nm W, s11] _
    refine jb_iload_n (pc' := 3) dX12_copies_2 rfl rfl ?_
    refine jb_sipush (pc' := 6) 490 dX12_copies_3 (by decide) rfl ?_
    refine jb_icmp_ge (tgt := 21) (pc' := 9) dX12_copies_6 (by decide) rfl (fun _ => ?_) (fun z => absurd (nI_le (a := 490) (b := i) (by omega) (by omega)) z)
    refine jb_vret dX12_copies_21 ?_
    exact ⟨rfl, g, fun k hk => hg k (by omega), rfl⟩
  | succ n ih =>
    intro i g hi hg
    show jb_J _ RX12 cX12_copies 3 (Option.none : Option Jvm.ClassFile.FieldType) false 0 0 0 2 [some (.ref 106), some (.ref 107), some (.int (nI i))] [] [s0, s1, s2, s3, s4, s5, s6, s7, s8, s9, jb_mdl I J d g kp nm W, s11] _
    refine jb_iload_n (pc' := 3) dX12_copies_2 rfl rfl ?_
    refine jb_sipush (pc' := 6) 490 dX12_copies_3 (by decide) rfl ?_
    refine jb_icmp_ge (tgt := 21) (pc' := 9) dX12_copies_6 (by decide) rfl (fun z => absurd z (nI_ge (a := i) (b := 490) (by omega) (by omega))) (fun _ => ?_)
    refine jb_aload_n (pc' := 10) dX12_copies_9 rfl rfl ?_
    refine jb_iload_n (pc' := 11) dX12_copies_10 rfl rfl ?_
    refine jb_aload_n (pc' := 12) dX12_copies_11 rfl rfl ?_
    refine jb_iload_n (pc' := 13) dX12_copies_12 rfl rfl ?_
    refine jb_iaload (pc' := 14) (i9 := i) (f := d) dX12_copies_13 rfl (jb_ix_nI (by omega)) (by omega) rfl ?_
    refine jb_iastore (pc' := 15) (i9 := i) (f := g) (h' := [s0, s1, s2, s3, s4, s5, s6, s7, s8, s9, jb_mdl I J d (upd g i (d i)) kp nm W, s11]) dX12_copies_14 rfl (jb_ix_nI (by omega)) (by omega) rfl rfl ?_
    refine jb_iinc_ (pc' := 18) (nI (i + 1)) dX12_copies_15 (by decide) rfl (jb_inc i 1) (jb_at2 rfl) rfl ?_
    refine jb_goto (pc' := 2) dX12_copies_18 (by decide) ?_
    exact ih (i + 1) (upd g i (d i)) (by omega) (fun k hk => by
      by_cases e9 : k = i
      · rw [e9]; exact jb_uee
      · rw [jb_une e9]; exact hg k (by omega))
set_option maxRecDepth 100000 in
set_option maxHeartbeats 4000000 in
theorem c_copies_106_107 {sc : Nat × (Nat → Int32)} {s0 s1 s2 s3 s4 s5 s6 s7 s8 s9 s11 : List va_E} (I J d e kp nm : Nat → Int32) (W : Nat → Nat → Int32) : jb_C sc yX12_copies cX12_copies 3 (Option.none : Option Jvm.ClassFile.FieldType) 0 0 0 [.ref 106, .ref 107] [s0, s1, s2, s3, s4, s5, s6, s7, s8, s9, jb_mdl I J d e kp nm W, s11] (fun r h9 => r = none ∧ ∃ g9, (∀ k, k < 490 → g9 k = d k) ∧ h9 = [s0, s1, s2, s3, s4, s5, s6, s7, s8, s9, jb_mdl I J d g9 kp nm W, s11]) := by
  refine jb_CofJ (ini := false) (by decide +kernel) (fun h => by cases h) (Nat.le_of_ble_eq_true rfl) ?_
  show jb_J sc RX12 cX12_copies 3 (Option.none : Option Jvm.ClassFile.FieldType) false 0 0 0 0 [some (.ref 106), some (.ref 107), none] [] [s0, s1, s2, s3, s4, s5, s6, s7, s8, s9, jb_mdl I J d e kp nm W, s11] _
  refine jb_iconst (pc' := 1) 0 dX12_copies_0 (by decide) rfl ?_
  refine jb_istore_n_ (pc' := 2) dX12_copies_1 (by decide) (jb_at2 rfl) rfl ?_
  exact l_cp_106_107 I J d kp nm W 490 0 e (by omega) (fun k hk => by omega)
set_option maxRecDepth 100000 in
set_option maxHeartbeats 4000000 in
theorem l_cp_107_106 {sc : Nat × (Nat → Int32)} {s0 s1 s2 s3 s4 s5 s6 s7 s8 s9 s11 : List va_E} (I J e kp nm : Nat → Int32) (W : Nat → Nat → Int32) : ∀ (n i : Nat) (g : Nat → Int32), i + n = 490 → (∀ k, k < i → g k = e k) → jb_J sc RX12 cX12_copies 3 (Option.none : Option Jvm.ClassFile.FieldType) false 0 0 0 2 [some (.ref 107), some (.ref 106), some (.int (nI i))] [] [s0, s1, s2, s3, s4, s5, s6, s7, s8, s9, jb_mdl I J g e kp nm W, s11] (fun r h9 => r = none ∧ ∃ g9, (∀ k, k < 490 → g9 k = e k) ∧ h9 = [s0, s1, s2, s3, s4, s5, s6, s7, s8, s9, jb_mdl I J g9 e kp nm W, s11]) := by
  intro n
  induction n with
  | zero =>
    intro i g hi hg
    show jb_J _ RX12 cX12_copies 3 (Option.none : Option Jvm.ClassFile.FieldType) false 0 0 0 2 [some (.ref 107), some (.ref 106), some (.int (nI i))] [] [s0, s1, s2, s3, s4, s5, s6, s7, s8, s9, jb_mdl I J g e kp nm W, s11] _
    refine jb_iload_n (pc' := 3) dX12_copies_2 rfl rfl ?_
    refine jb_sipush (pc' := 6) 490 dX12_copies_3 (by decide) rfl ?_
    refine jb_icmp_ge (tgt := 21) (pc' := 9) dX12_copies_6 (by decide) rfl (fun _ => ?_) (fun z => absurd (nI_le (a := 490) (b := i) (by omega) (by omega)) z)
    refine jb_vret dX12_copies_21 ?_
    exact ⟨rfl, g, fun k hk => hg k (by omega), rfl⟩
  | succ n ih =>
    intro i g hi hg
    show jb_J _ RX12 cX12_copies 3 (Option.none : Option Jvm.ClassFile.FieldType) false 0 0 0 2 [some (.ref 107), some (.ref 106), some (.int (nI i))] [] [s0, s1, s2, s3, s4, s5, s6, s7, s8, s9, jb_mdl I J g e kp nm W, s11] _
    refine jb_iload_n (pc' := 3) dX12_copies_2 rfl rfl ?_
    refine jb_sipush (pc' := 6) 490 dX12_copies_3 (by decide) rfl ?_
    refine jb_icmp_ge (tgt := 21) (pc' := 9) dX12_copies_6 (by decide) rfl (fun z => absurd z (nI_ge (a := i) (b := 490) (by omega) (by omega))) (fun _ => ?_)
    refine jb_aload_n (pc' := 10) dX12_copies_9 rfl rfl ?_
    refine jb_iload_n (pc' := 11) dX12_copies_10 rfl rfl ?_
    refine jb_aload_n (pc' := 12) dX12_copies_11 rfl rfl ?_
    refine jb_iload_n (pc' := 13) dX12_copies_12 rfl rfl ?_
    refine jb_iaload (pc' := 14) (i9 := i) (f := e) dX12_copies_13 rfl (jb_ix_nI (by omega)) (by omega) rfl ?_
    refine jb_iastore (pc' := 15) (i9 := i) (f := g) (h' := [s0, s1, s2, s3, s4, s5, s6, s7, s8, s9, jb_mdl I J (upd g i (e i)) e kp nm W, s11]) dX12_copies_14 rfl (jb_ix_nI (by omega)) (by omega) rfl rfl ?_
    refine jb_iinc_ (pc' := 18) (nI (i + 1)) dX12_copies_15 (by decide) rfl (jb_inc i 1) (jb_at2 rfl) rfl ?_
    refine jb_goto (pc' := 2) dX12_copies_18 (by decide) ?_
    exact ih (i + 1) (upd g i (e i)) (by omega) (fun k hk => by
      by_cases e9 : k = i
      · rw [e9]; exact jb_uee
      · rw [jb_une e9]; exact hg k (by omega))
set_option maxRecDepth 100000 in
set_option maxHeartbeats 4000000 in
theorem c_copies_107_106 {sc : Nat × (Nat → Int32)} {s0 s1 s2 s3 s4 s5 s6 s7 s8 s9 s11 : List va_E} (I J d e kp nm : Nat → Int32) (W : Nat → Nat → Int32) : jb_C sc yX12_copies cX12_copies 3 (Option.none : Option Jvm.ClassFile.FieldType) 0 0 0 [.ref 107, .ref 106] [s0, s1, s2, s3, s4, s5, s6, s7, s8, s9, jb_mdl I J d e kp nm W, s11] (fun r h9 => r = none ∧ ∃ g9, (∀ k, k < 490 → g9 k = e k) ∧ h9 = [s0, s1, s2, s3, s4, s5, s6, s7, s8, s9, jb_mdl I J g9 e kp nm W, s11]) := by
  refine jb_CofJ (ini := false) (by decide +kernel) (fun h => by cases h) (Nat.le_of_ble_eq_true rfl) ?_
  show jb_J sc RX12 cX12_copies 3 (Option.none : Option Jvm.ClassFile.FieldType) false 0 0 0 0 [some (.ref 107), some (.ref 106), none] [] [s0, s1, s2, s3, s4, s5, s6, s7, s8, s9, jb_mdl I J d e kp nm W, s11] _
  refine jb_iconst (pc' := 1) 0 dX12_copies_0 (by decide) rfl ?_
  refine jb_istore_n_ (pc' := 2) dX12_copies_1 (by decide) (jb_at2 rfl) rfl ?_
  exact l_cp_107_106 I J e kp nm W 490 0 d (by omega) (fun k hk => by omega)
set_option maxRecDepth 100000 in
set_option maxHeartbeats 4000000 in
theorem l_cp_106_108 {sc : Nat × (Nat → Int32)} {s0 s1 s2 s3 s4 s5 s6 s7 s8 s9 s11 : List va_E} (I J d e nm : Nat → Int32) (W : Nat → Nat → Int32) : ∀ (n i : Nat) (g : Nat → Int32), i + n = 490 → (∀ k, k < i → g k = d k) → jb_J sc RX12 cX12_copies 3 (Option.none : Option Jvm.ClassFile.FieldType) false 0 0 0 2 [some (.ref 106), some (.ref 108), some (.int (nI i))] [] [s0, s1, s2, s3, s4, s5, s6, s7, s8, s9, jb_mdl I J d e g nm W, s11] (fun r h9 => r = none ∧ ∃ g9, (∀ k, k < 490 → g9 k = d k) ∧ h9 = [s0, s1, s2, s3, s4, s5, s6, s7, s8, s9, jb_mdl I J d e g9 nm W, s11]) := by
  intro n
  induction n with
  | zero =>
    intro i g hi hg
    show jb_J _ RX12 cX12_copies 3 (Option.none : Option Jvm.ClassFile.FieldType) false 0 0 0 2 [some (.ref 106), some (.ref 108), some (.int (nI i))] [] [s0, s1, s2, s3, s4, s5, s6, s7, s8, s9, jb_mdl I J d e g nm W, s11] _
    refine jb_iload_n (pc' := 3) dX12_copies_2 rfl rfl ?_
    refine jb_sipush (pc' := 6) 490 dX12_copies_3 (by decide) rfl ?_
    refine jb_icmp_ge (tgt := 21) (pc' := 9) dX12_copies_6 (by decide) rfl (fun _ => ?_) (fun z => absurd (nI_le (a := 490) (b := i) (by omega) (by omega)) z)
    refine jb_vret dX12_copies_21 ?_
    exact ⟨rfl, g, fun k hk => hg k (by omega), rfl⟩
  | succ n ih =>
    intro i g hi hg
    show jb_J _ RX12 cX12_copies 3 (Option.none : Option Jvm.ClassFile.FieldType) false 0 0 0 2 [some (.ref 106), some (.ref 108), some (.int (nI i))] [] [s0, s1, s2, s3, s4, s5, s6, s7, s8, s9, jb_mdl I J d e g nm W, s11] _
    refine jb_iload_n (pc' := 3) dX12_copies_2 rfl rfl ?_
    refine jb_sipush (pc' := 6) 490 dX12_copies_3 (by decide) rfl ?_
    refine jb_icmp_ge (tgt := 21) (pc' := 9) dX12_copies_6 (by decide) rfl (fun z => absurd z (nI_ge (a := i) (b := 490) (by omega) (by omega))) (fun _ => ?_)
    refine jb_aload_n (pc' := 10) dX12_copies_9 rfl rfl ?_
    refine jb_iload_n (pc' := 11) dX12_copies_10 rfl rfl ?_
    refine jb_aload_n (pc' := 12) dX12_copies_11 rfl rfl ?_
    refine jb_iload_n (pc' := 13) dX12_copies_12 rfl rfl ?_
    refine jb_iaload (pc' := 14) (i9 := i) (f := d) dX12_copies_13 rfl (jb_ix_nI (by omega)) (by omega) rfl ?_
    refine jb_iastore (pc' := 15) (i9 := i) (f := g) (h' := [s0, s1, s2, s3, s4, s5, s6, s7, s8, s9, jb_mdl I J d e (upd g i (d i)) nm W, s11]) dX12_copies_14 rfl (jb_ix_nI (by omega)) (by omega) rfl rfl ?_
    refine jb_iinc_ (pc' := 18) (nI (i + 1)) dX12_copies_15 (by decide) rfl (jb_inc i 1) (jb_at2 rfl) rfl ?_
    refine jb_goto (pc' := 2) dX12_copies_18 (by decide) ?_
    exact ih (i + 1) (upd g i (d i)) (by omega) (fun k hk => by
      by_cases e9 : k = i
      · rw [e9]; exact jb_uee
      · rw [jb_une e9]; exact hg k (by omega))
set_option maxRecDepth 100000 in
set_option maxHeartbeats 4000000 in
theorem c_copies_106_108 {sc : Nat × (Nat → Int32)} {s0 s1 s2 s3 s4 s5 s6 s7 s8 s9 s11 : List va_E} (I J d e kp nm : Nat → Int32) (W : Nat → Nat → Int32) : jb_C sc yX12_copies cX12_copies 3 (Option.none : Option Jvm.ClassFile.FieldType) 0 0 0 [.ref 106, .ref 108] [s0, s1, s2, s3, s4, s5, s6, s7, s8, s9, jb_mdl I J d e kp nm W, s11] (fun r h9 => r = none ∧ ∃ g9, (∀ k, k < 490 → g9 k = d k) ∧ h9 = [s0, s1, s2, s3, s4, s5, s6, s7, s8, s9, jb_mdl I J d e g9 nm W, s11]) := by
  refine jb_CofJ (ini := false) (by decide +kernel) (fun h => by cases h) (Nat.le_of_ble_eq_true rfl) ?_
  show jb_J sc RX12 cX12_copies 3 (Option.none : Option Jvm.ClassFile.FieldType) false 0 0 0 0 [some (.ref 106), some (.ref 108), none] [] [s0, s1, s2, s3, s4, s5, s6, s7, s8, s9, jb_mdl I J d e kp nm W, s11] _
  refine jb_iconst (pc' := 1) 0 dX12_copies_0 (by decide) rfl ?_
  refine jb_istore_n_ (pc' := 2) dX12_copies_1 (by decide) (jb_at2 rfl) rfl ?_
  exact l_cp_106_108 I J d e nm W 490 0 kp (by omega) (fun k hk => by omega)
set_option maxRecDepth 100000 in
set_option maxHeartbeats 4000000 in
theorem l_cp_108_106 {sc : Nat × (Nat → Int32)} {s0 s1 s2 s3 s4 s5 s6 s7 s8 s9 s11 : List va_E} (I J e kp nm : Nat → Int32) (W : Nat → Nat → Int32) : ∀ (n i : Nat) (g : Nat → Int32), i + n = 490 → (∀ k, k < i → g k = kp k) → jb_J sc RX12 cX12_copies 3 (Option.none : Option Jvm.ClassFile.FieldType) false 0 0 0 2 [some (.ref 108), some (.ref 106), some (.int (nI i))] [] [s0, s1, s2, s3, s4, s5, s6, s7, s8, s9, jb_mdl I J g e kp nm W, s11] (fun r h9 => r = none ∧ ∃ g9, (∀ k, k < 490 → g9 k = kp k) ∧ h9 = [s0, s1, s2, s3, s4, s5, s6, s7, s8, s9, jb_mdl I J g9 e kp nm W, s11]) := by
  intro n
  induction n with
  | zero =>
    intro i g hi hg
    show jb_J _ RX12 cX12_copies 3 (Option.none : Option Jvm.ClassFile.FieldType) false 0 0 0 2 [some (.ref 108), some (.ref 106), some (.int (nI i))] [] [s0, s1, s2, s3, s4, s5, s6, s7, s8, s9, jb_mdl I J g e kp nm W, s11] _
    refine jb_iload_n (pc' := 3) dX12_copies_2 rfl rfl ?_
    refine jb_sipush (pc' := 6) 490 dX12_copies_3 (by decide) rfl ?_
    refine jb_icmp_ge (tgt := 21) (pc' := 9) dX12_copies_6 (by decide) rfl (fun _ => ?_) (fun z => absurd (nI_le (a := 490) (b := i) (by omega) (by omega)) z)
    refine jb_vret dX12_copies_21 ?_
    exact ⟨rfl, g, fun k hk => hg k (by omega), rfl⟩
  | succ n ih =>
    intro i g hi hg
    show jb_J _ RX12 cX12_copies 3 (Option.none : Option Jvm.ClassFile.FieldType) false 0 0 0 2 [some (.ref 108), some (.ref 106), some (.int (nI i))] [] [s0, s1, s2, s3, s4, s5, s6, s7, s8, s9, jb_mdl I J g e kp nm W, s11] _
    refine jb_iload_n (pc' := 3) dX12_copies_2 rfl rfl ?_
    refine jb_sipush (pc' := 6) 490 dX12_copies_3 (by decide) rfl ?_
    refine jb_icmp_ge (tgt := 21) (pc' := 9) dX12_copies_6 (by decide) rfl (fun z => absurd z (nI_ge (a := i) (b := 490) (by omega) (by omega))) (fun _ => ?_)
    refine jb_aload_n (pc' := 10) dX12_copies_9 rfl rfl ?_
    refine jb_iload_n (pc' := 11) dX12_copies_10 rfl rfl ?_
    refine jb_aload_n (pc' := 12) dX12_copies_11 rfl rfl ?_
    refine jb_iload_n (pc' := 13) dX12_copies_12 rfl rfl ?_
    refine jb_iaload (pc' := 14) (i9 := i) (f := kp) dX12_copies_13 rfl (jb_ix_nI (by omega)) (by omega) rfl ?_
    refine jb_iastore (pc' := 15) (i9 := i) (f := g) (h' := [s0, s1, s2, s3, s4, s5, s6, s7, s8, s9, jb_mdl I J (upd g i (kp i)) e kp nm W, s11]) dX12_copies_14 rfl (jb_ix_nI (by omega)) (by omega) rfl rfl ?_
    refine jb_iinc_ (pc' := 18) (nI (i + 1)) dX12_copies_15 (by decide) rfl (jb_inc i 1) (jb_at2 rfl) rfl ?_
    refine jb_goto (pc' := 2) dX12_copies_18 (by decide) ?_
    exact ih (i + 1) (upd g i (kp i)) (by omega) (fun k hk => by
      by_cases e9 : k = i
      · rw [e9]; exact jb_uee
      · rw [jb_une e9]; exact hg k (by omega))
set_option maxRecDepth 100000 in
set_option maxHeartbeats 4000000 in
theorem c_copies_108_106 {sc : Nat × (Nat → Int32)} {s0 s1 s2 s3 s4 s5 s6 s7 s8 s9 s11 : List va_E} (I J d e kp nm : Nat → Int32) (W : Nat → Nat → Int32) : jb_C sc yX12_copies cX12_copies 3 (Option.none : Option Jvm.ClassFile.FieldType) 0 0 0 [.ref 108, .ref 106] [s0, s1, s2, s3, s4, s5, s6, s7, s8, s9, jb_mdl I J d e kp nm W, s11] (fun r h9 => r = none ∧ ∃ g9, (∀ k, k < 490 → g9 k = kp k) ∧ h9 = [s0, s1, s2, s3, s4, s5, s6, s7, s8, s9, jb_mdl I J g9 e kp nm W, s11]) := by
  refine jb_CofJ (ini := false) (by decide +kernel) (fun h => by cases h) (Nat.le_of_ble_eq_true rfl) ?_
  show jb_J sc RX12 cX12_copies 3 (Option.none : Option Jvm.ClassFile.FieldType) false 0 0 0 0 [some (.ref 108), some (.ref 106), none] [] [s0, s1, s2, s3, s4, s5, s6, s7, s8, s9, jb_mdl I J d e kp nm W, s11] _
  refine jb_iconst (pc' := 1) 0 dX12_copies_0 (by decide) rfl ?_
  refine jb_istore_n_ (pc' := 2) dX12_copies_1 (by decide) (jb_at2 rfl) rfl ?_
  exact l_cp_108_106 I J e kp nm W 490 0 d (by omega) (fun k hk => by omega)
