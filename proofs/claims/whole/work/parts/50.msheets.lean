set_option maxRecDepth 100000 in
set_option maxHeartbeats 4000000 in
theorem l_sheetm {sc : Nat × (Nat → Int32)} {s0 s1 s2 s3 s4 s5 s6 s7 s8 s9 s11 : List va_E} (I J d e kp nm : Nat → Int32) (W : Nat → Nat → Int32) (s : Nat) (hs : s < 4) (x2 : Option Value) (v3 : Int32) : ∀ (k i : Nat) (Wc : Nat → Nat → Int32), i + k = 40 → (∀ r, ¬ r = 3 → Wc r = W r) ∧ (∀ k, k < i → Wc 3 (40 * s + k) = 0) ∧ (∀ k, (k < 40 * s ∨ 40 * s + 40 ≤ k) → Wc 3 k = W 3 k) → jb_J sc RX12 cX12_sheet 5 (Option.some .int) false 1 0 0 90 [some (.ref 105), some (.int (nI s)), x2, some (.int v3), some (.int (nI i))] [] [s0, s1, s2, s3, s4, s5, s6, s7, s8, s9, jb_mdl I J d e kp nm Wc, s11] (fun r h9 => r = some (.int 1) ∧ ∃ W9, (∀ r, ¬ r = 3 → W9 r = W r) ∧ (∀ k, k < 40 → W9 3 (40 * s + k) = 0) ∧ (∀ k, (k < 40 * s ∨ 40 * s + 40 ≤ k) → W9 3 k = W 3 k) ∧ h9 = [s0, s1, s2, s3, s4, s5, s6, s7, s8, s9, jb_mdl I J d e kp nm W9, s11]) := by
  intro k
  induction k with
  | zero =>
    intro i Wc hi ⟨g1, g2, g3⟩
    show jb_J _ RX12 cX12_sheet 5 (Option.some .int) false 1 0 0 90 [some (.ref 105), some (.int (nI s)), x2, some (.int v3), some (.int (nI i))] [] [s0, s1, s2, s3, s4, s5, s6, s7, s8, s9, jb_mdl I J d e kp nm Wc, s11] _
    refine jb_iload (pc' := 92) dX12_sheet_90 rfl rfl ?_
    refine jb_bipush (pc' := 94) 40 dX12_sheet_92 (by decide) rfl ?_
    refine jb_icmp_ge (tgt := 116) (pc' := 97) dX12_sheet_94 (by decide) rfl (fun _ => ?_) (fun z => absurd (nI_le (a := 40) (b := i) (by omega) (by omega)) z)
    refine jb_iconst (pc' := 117) 1 dX12_sheet_116 (by decide) rfl ?_
    refine jb_iret dX12_sheet_117 rfl ?_
    exact ⟨rfl, Wc, g1, fun k hk => g2 k (by omega), g3, rfl⟩
  | succ k ih =>
    intro i Wc hi ⟨g1, g2, g3⟩
    show jb_J _ RX12 cX12_sheet 5 (Option.some .int) false 1 0 0 90 [some (.ref 105), some (.int (nI s)), x2, some (.int v3), some (.int (nI i))] [] [s0, s1, s2, s3, s4, s5, s6, s7, s8, s9, jb_mdl I J d e kp nm Wc, s11] _
    refine jb_iload (pc' := 92) dX12_sheet_90 rfl rfl ?_
    refine jb_bipush (pc' := 94) 40 dX12_sheet_92 (by decide) rfl ?_
    refine jb_icmp_ge (tgt := 116) (pc' := 97) dX12_sheet_94 (by decide) rfl (fun z => absurd z (nI_ge (a := i) (b := 40) (by omega) (by omega))) (fun _ => ?_)
    refine jb_aload_n (pc' := 98) dX12_sheet_97 rfl rfl ?_
    refine gf_X12_31 (pc' := 101) (v := .ref 113) dX12_sheet_98 rfl rfl rfl ?_
    refine jb_bipush (pc' := 103) 40 dX12_sheet_101 (by decide) rfl ?_
    refine jb_iload_n (pc' := 104) dX12_sheet_103 rfl rfl ?_
    refine jb_imul (pc' := 105) dX12_sheet_104 rfl ?_
    refine jb_top (v := .int (40 * (nI s))) (w := .int (nI (40 * s))) (jb_vI (pk_mul 40 _)) ?_
    refine jb_iload (pc' := 107) dX12_sheet_105 rfl rfl ?_
    refine jb_iadd (pc' := 108) dX12_sheet_107 rfl ?_
    refine jb_top (v := .int ((nI (40 * s)) + (nI i))) (w := .int (nI (40 * s + i))) (jb_vI (nI_add _ _)) ?_
    refine jb_iconst (pc' := 109) 0 dX12_sheet_108 (by decide) rfl ?_
    refine jb_iastore (pc' := 110) (i9 := (40 * s + i)) (f := (Wc 3)) (h' := [s0, s1, s2, s3, s4, s5, s6, s7, s8, s9, jb_mdl I J d e kp nm (va_up Wc 3 (upd (Wc 3) (40 * s + i) 0)), s11]) dX12_sheet_109 rfl (jb_ix_nI (by omega)) (by omega) rfl rfl ?_
    refine jb_iinc_ (pc' := 113) (nI (i + 1)) dX12_sheet_110 (by decide) rfl (jb_inc i 1) (jb_at4 rfl) rfl ?_
    refine jb_goto (pc' := 90) dX12_sheet_113 (by decide) ?_
    refine ih (i + 1) (va_up Wc 3 (upd (Wc 3) (40 * s + i) 0)) (by omega) ⟨fun r hr => (va_ne hr).trans (g1 r hr), fun k hk => ?_, fun k hk => ?_⟩
    · show upd (Wc 3) (40 * s + i) 0 (40 * s + k) = 0
      by_cases e : k = i
      · rw [e]; exact jb_uee
      · rw [jb_une (by omega)]; exact g2 k (by omega)
    · show upd (Wc 3) (40 * s + i) 0 k = W 3 k
      rw [jb_une (by omega)]; exact g3 k hk
set_option maxRecDepth 100000 in
set_option maxHeartbeats 4000000 in
theorem mx_sheet0 {sc : Nat × (Nat → Int32)} {s0 s1 s2 s3 s4 s5 s6 s7 s8 s9 s11 : List va_E} (I J d e kp nm : Nat → Int32) (W : Nat → Nat → Int32) (s : Nat) (hs : s < 4) (n : Int32) : jb_C sc yX12_sheet cX12_sheet 5 (Option.some .int) 2 0 0 [.ref 105, .int (nI s), .int 0, .int n] [s0, s1, s2, s3, s4, s5, s6, s7, s8, s9, jb_mdl I J d e kp nm W, s11] (fun r h9 => r = some (.int 1) ∧ ∃ W9, (∀ r, ¬ r = 1 → ¬ r = 2 → ¬ r = 3 → W9 r = W r) ∧ W9 1 = upd (W 1) s 0 ∧ W9 2 = upd (W 2) s 0 ∧ (∀ k, k < 40 → W9 3 (40 * s + k) = 0) ∧ (∀ k, (k < 40 * s ∨ 40 * s + 40 ≤ k) → W9 3 k = W 3 k) ∧ h9 = [s0, s1, s2, s3, s4, s5, s6, s7, s8, s9, jb_mdl I J d e kp nm W9, s11]) := by
  refine jb_CofJ (ini := false) (by decide +kernel) (fun h => by cases h) (Nat.le_of_ble_eq_true rfl) ?_
  show jb_J sc RX12 cX12_sheet 5 (Option.some .int) false 2 0 0 0 [some (.ref 105), some (.int (nI s)), some (.int 0), some (.int n), none] [] [s0, s1, s2, s3, s4, s5, s6, s7, s8, s9, jb_mdl I J d e kp nm W, s11] _
  refine jb_iload_n (pc' := 1) dX12_sheet_0 rfl rfl ?_
  refine jb_callS (pc' := 4) (As := [.int (nI s)]) (a2 := 0) (b2 := 0) wv_X12_223 dX12_sheet_1 (c_isSheetG _ s (by omega)) rfl ⟨by decide, Nat.le_of_eq (Nat.zero_add _), Nat.le_of_eq (Nat.zero_add _)⟩ (Nat.le_of_ble_eq_true rfl) rfl (fun r h9 hq => ?_)
  obtain ⟨rfl, rfl⟩ := hq
  show jb_J _ RX12 cX12_sheet 5 (Option.some .int) false 2 0 0 4 [some (.ref 105), some (.int (nI s)), some (.int 0), some (.int n), none] [.int 1] [s0, s1, s2, s3, s4, s5, s6, s7, s8, s9, jb_mdl I J d e kp nm W, s11] _
  refine jb_if_eq (tgt := 29) (pc' := 7) dX12_sheet_4 (by decide) rfl (fun z => absurd z (by decide)) (fun _ => ?_)
  refine jb_iload_n (pc' := 8) dX12_sheet_7 rfl rfl ?_
  refine jb_if_eq (tgt := 35) (pc' := 11) dX12_sheet_8 (by decide) rfl (fun _ => ?_) (fun z => absurd (by decide) z)
  refine jb_iload_n (pc' := 36) dX12_sheet_35 rfl rfl ?_
  refine jb_if_eq (tgt := 49) (pc' := 39) dX12_sheet_36 (by decide) rfl (fun _ => ?_) (fun z => absurd (by decide) z)
  refine jb_iload_n (pc' := 50) dX12_sheet_49 rfl rfl ?_
  refine jb_if_eq (tgt := 65) (pc' := 53) dX12_sheet_50 (by decide) rfl (fun _ => ?_) (fun z => absurd (by decide) z)
  refine jb_aload_n (pc' := 66) dX12_sheet_65 rfl rfl ?_
  refine gf_X12_25 (pc' := 69) (v := .ref 111) dX12_sheet_66 rfl rfl rfl ?_
  refine jb_iload_n (pc' := 70) dX12_sheet_69 rfl rfl ?_
  refine jb_iload_n (pc' := 71) dX12_sheet_70 rfl rfl ?_
  refine jb_iastore (pc' := 72) (i9 := s) (f := (W 1)) (h' := [s0, s1, s2, s3, s4, s5, s6, s7, s8, s9, jb_mdl I J d e kp nm (va_up W 1 (upd (W 1) s 0)), s11]) dX12_sheet_71 rfl (jb_ix_nI (by omega)) (by omega) rfl rfl ?_
  refine jb_aload_n (pc' := 73) dX12_sheet_72 rfl rfl ?_
  refine gf_X12_28 (pc' := 76) (v := .ref 112) dX12_sheet_73 rfl rfl rfl ?_
  refine jb_iload_n (pc' := 77) dX12_sheet_76 rfl rfl ?_
  refine jb_iload_n (pc' := 78) dX12_sheet_77 rfl rfl ?_
  refine jb_if_ne (tgt := 85) (pc' := 81) dX12_sheet_78 (by decide) rfl (fun z => absurd (by decide) z) (fun _ => ?_)
  refine jb_iconst (pc' := 82) 0 dX12_sheet_81 (by decide) rfl ?_
  refine jb_goto (pc' := 86) dX12_sheet_82 (by decide) ?_
  refine jb_iastore (pc' := 87) (i9 := s) (f := (W 2)) (h' := [s0, s1, s2, s3, s4, s5, s6, s7, s8, s9, jb_mdl I J d e kp nm (va_up (va_up W 1 (upd (W 1) s 0)) 2 (upd (W 2) s 0)), s11]) dX12_sheet_86 rfl (jb_ix_nI (by omega)) (by omega) rfl rfl ?_
  refine jb_iconst (pc' := 88) 0 dX12_sheet_87 (by decide) rfl ?_
  refine jb_istore_ (pc' := 90) dX12_sheet_88 (by decide) (jb_at4 rfl) rfl ?_
  refine jb_J.mono (l_sheetm I J d e kp nm (va_up (va_up W 1 (upd (W 1) s 0)) 2 (upd (W 2) s 0)) s hs _ _ 40 0 (va_up (va_up W 1 (upd (W 1) s 0)) 2 (upd (W 2) s 0)) (by omega) ⟨fun _ _ => rfl, fun k hk => absurd hk (by omega), fun _ _ => rfl⟩) (by decide) (Nat.le_refl _) (Nat.le_refl _) (fun r h9 hq => ?_)
  obtain ⟨rfl, W9, g1, g2, g3, rfl⟩ := hq
  exact ⟨rfl, W9, fun r h1 h2 h3 => (g1 r h3).trans ((va_ne h2).trans (va_ne h1)), g1 1 (by decide), g1 2 (by decide), g2, g3, rfl⟩
set_option maxRecDepth 100000 in
set_option maxHeartbeats 4000000 in
theorem mx_sheet8 {sc : Nat × (Nat → Int32)} {s0 s1 s2 s3 s4 s5 s6 s7 s8 s9 s11 : List va_E} (I J d e kp nm : Nat → Int32) (W : Nat → Nat → Int32) (s : Nat) (hs : s < 4) (m : Nat) (hm : m ≤ 40) : jb_C sc yX12_sheet cX12_sheet 5 (Option.some .int) 2 0 0 [.ref 105, .int (nI s), .int 8, .int (nI m)] [s0, s1, s2, s3, s4, s5, s6, s7, s8, s9, jb_mdl I J d e kp nm W, s11] (fun r h9 => r = some (.int 1) ∧ ∃ W9, (∀ r, ¬ r = 1 → ¬ r = 2 → ¬ r = 3 → W9 r = W r) ∧ W9 1 = upd (W 1) s 8 ∧ W9 2 = upd (W 2) s (nI m) ∧ (∀ k, k < 40 → W9 3 (40 * s + k) = 0) ∧ (∀ k, (k < 40 * s ∨ 40 * s + 40 ≤ k) → W9 3 k = W 3 k) ∧ h9 = [s0, s1, s2, s3, s4, s5, s6, s7, s8, s9, jb_mdl I J d e kp nm W9, s11]) := by
  refine jb_CofJ (ini := false) (by decide +kernel) (fun h => by cases h) (Nat.le_of_ble_eq_true rfl) ?_
  show jb_J sc RX12 cX12_sheet 5 (Option.some .int) false 2 0 0 0 [some (.ref 105), some (.int (nI s)), some (.int 8), some (.int (nI m)), none] [] [s0, s1, s2, s3, s4, s5, s6, s7, s8, s9, jb_mdl I J d e kp nm W, s11] _
  refine jb_iload_n (pc' := 1) dX12_sheet_0 rfl rfl ?_
  refine jb_callS (pc' := 4) (As := [.int (nI s)]) (a2 := 0) (b2 := 0) wv_X12_223 dX12_sheet_1 (c_isSheetG _ s (by omega)) rfl ⟨by decide, Nat.le_of_eq (Nat.zero_add _), Nat.le_of_eq (Nat.zero_add _)⟩ (Nat.le_of_ble_eq_true rfl) rfl (fun r h9 hq => ?_)
  obtain ⟨rfl, rfl⟩ := hq
  show jb_J _ RX12 cX12_sheet 5 (Option.some .int) false 2 0 0 4 [some (.ref 105), some (.int (nI s)), some (.int 8), some (.int (nI m)), none] [.int 1] [s0, s1, s2, s3, s4, s5, s6, s7, s8, s9, jb_mdl I J d e kp nm W, s11] _
  refine jb_if_eq (tgt := 29) (pc' := 7) dX12_sheet_4 (by decide) rfl (fun z => absurd z (by decide)) (fun _ => ?_)
  refine jb_iload_n (pc' := 8) dX12_sheet_7 rfl rfl ?_
  refine jb_if_eq (tgt := 35) (pc' := 11) dX12_sheet_8 (by decide) rfl (fun z => absurd z (by decide)) (fun _ => ?_)
  refine jb_iload_n (pc' := 12) dX12_sheet_11 rfl rfl ?_
  refine jb_bipush (pc' := 14) 8 dX12_sheet_12 (by decide) rfl ?_
  refine jb_icmp_eq (tgt := 35) (pc' := 17) dX12_sheet_14 (by decide) rfl (fun _ => ?_) (fun z => absurd (by decide) z)
  refine jb_iload_n (pc' := 36) dX12_sheet_35 rfl rfl ?_
  refine jb_if_eq (tgt := 49) (pc' := 39) dX12_sheet_36 (by decide) rfl (fun z => absurd z (by decide)) (fun _ => ?_)
  refine jb_iload_n (pc' := 40) dX12_sheet_39 rfl rfl ?_
  refine jb_if_ge (tgt := 49) (pc' := 43) dX12_sheet_40 (by decide) rfl (fun _ => ?_) (fun z => absurd (nI_pos' (n := m) (by omega)) z)
  refine jb_iload_n (pc' := 50) dX12_sheet_49 rfl rfl ?_
  refine jb_if_eq (tgt := 65) (pc' := 53) dX12_sheet_50 (by decide) rfl (fun z => absurd z (by decide)) (fun _ => ?_)
  refine jb_iload_n (pc' := 54) dX12_sheet_53 rfl rfl ?_
  refine jb_bipush (pc' := 56) 40 dX12_sheet_54 (by decide) rfl ?_
  refine jb_icmp_le (tgt := 65) (pc' := 59) dX12_sheet_56 (by decide) rfl (fun _ => ?_) (fun z => absurd (nI_le (a := m) (b := 40) (by omega) (by omega)) z)
  refine jb_aload_n (pc' := 66) dX12_sheet_65 rfl rfl ?_
  refine gf_X12_25 (pc' := 69) (v := .ref 111) dX12_sheet_66 rfl rfl rfl ?_
  refine jb_iload_n (pc' := 70) dX12_sheet_69 rfl rfl ?_
  refine jb_iload_n (pc' := 71) dX12_sheet_70 rfl rfl ?_
  refine jb_iastore (pc' := 72) (i9 := s) (f := (W 1)) (h' := [s0, s1, s2, s3, s4, s5, s6, s7, s8, s9, jb_mdl I J d e kp nm (va_up W 1 (upd (W 1) s 8)), s11]) dX12_sheet_71 rfl (jb_ix_nI (by omega)) (by omega) rfl rfl ?_
  refine jb_aload_n (pc' := 73) dX12_sheet_72 rfl rfl ?_
  refine gf_X12_28 (pc' := 76) (v := .ref 112) dX12_sheet_73 rfl rfl rfl ?_
  refine jb_iload_n (pc' := 77) dX12_sheet_76 rfl rfl ?_
  refine jb_iload_n (pc' := 78) dX12_sheet_77 rfl rfl ?_
  refine jb_if_ne (tgt := 85) (pc' := 81) dX12_sheet_78 (by decide) rfl (fun _ => ?_) (fun z => absurd z (by decide))
  refine jb_iload_n (pc' := 86) dX12_sheet_85 rfl rfl ?_
  refine jb_iastore (pc' := 87) (i9 := s) (f := (W 2)) (h' := [s0, s1, s2, s3, s4, s5, s6, s7, s8, s9, jb_mdl I J d e kp nm (va_up (va_up W 1 (upd (W 1) s 8)) 2 (upd (W 2) s (nI m))), s11]) dX12_sheet_86 rfl (jb_ix_nI (by omega)) (by omega) rfl rfl ?_
  refine jb_iconst (pc' := 88) 0 dX12_sheet_87 (by decide) rfl ?_
  refine jb_istore_ (pc' := 90) dX12_sheet_88 (by decide) (jb_at4 rfl) rfl ?_
  refine jb_J.mono (l_sheetm I J d e kp nm (va_up (va_up W 1 (upd (W 1) s 8)) 2 (upd (W 2) s (nI m))) s hs _ _ 40 0 (va_up (va_up W 1 (upd (W 1) s 8)) 2 (upd (W 2) s (nI m))) (by omega) ⟨fun _ _ => rfl, fun k hk => absurd hk (by omega), fun _ _ => rfl⟩) (by decide) (Nat.le_refl _) (Nat.le_refl _) (fun r h9 hq => ?_)
  obtain ⟨rfl, W9, g1, g2, g3, rfl⟩ := hq
  exact ⟨rfl, W9, fun r h1 h2 h3 => (g1 r h3).trans ((va_ne h2).trans (va_ne h1)), g1 1 (by decide), g1 2 (by decide), g2, g3, rfl⟩
set_option maxRecDepth 100000 in
set_option maxHeartbeats 4000000 in
theorem mx_sheet16 {sc : Nat × (Nat → Int32)} {s0 s1 s2 s3 s4 s5 s6 s7 s8 s9 s11 : List va_E} (I J d e kp nm : Nat → Int32) (W : Nat → Nat → Int32) (s : Nat) (hs : s < 4) (m : Nat) (hm : m ≤ 40) : jb_C sc yX12_sheet cX12_sheet 5 (Option.some .int) 2 0 0 [.ref 105, .int (nI s), .int 16, .int (nI m)] [s0, s1, s2, s3, s4, s5, s6, s7, s8, s9, jb_mdl I J d e kp nm W, s11] (fun r h9 => r = some (.int 1) ∧ ∃ W9, (∀ r, ¬ r = 1 → ¬ r = 2 → ¬ r = 3 → W9 r = W r) ∧ W9 1 = upd (W 1) s 16 ∧ W9 2 = upd (W 2) s (nI m) ∧ (∀ k, k < 40 → W9 3 (40 * s + k) = 0) ∧ (∀ k, (k < 40 * s ∨ 40 * s + 40 ≤ k) → W9 3 k = W 3 k) ∧ h9 = [s0, s1, s2, s3, s4, s5, s6, s7, s8, s9, jb_mdl I J d e kp nm W9, s11]) := by
  refine jb_CofJ (ini := false) (by decide +kernel) (fun h => by cases h) (Nat.le_of_ble_eq_true rfl) ?_
  show jb_J sc RX12 cX12_sheet 5 (Option.some .int) false 2 0 0 0 [some (.ref 105), some (.int (nI s)), some (.int 16), some (.int (nI m)), none] [] [s0, s1, s2, s3, s4, s5, s6, s7, s8, s9, jb_mdl I J d e kp nm W, s11] _
  refine jb_iload_n (pc' := 1) dX12_sheet_0 rfl rfl ?_
  refine jb_callS (pc' := 4) (As := [.int (nI s)]) (a2 := 0) (b2 := 0) wv_X12_223 dX12_sheet_1 (c_isSheetG _ s (by omega)) rfl ⟨by decide, Nat.le_of_eq (Nat.zero_add _), Nat.le_of_eq (Nat.zero_add _)⟩ (Nat.le_of_ble_eq_true rfl) rfl (fun r h9 hq => ?_)
  obtain ⟨rfl, rfl⟩ := hq
  show jb_J _ RX12 cX12_sheet 5 (Option.some .int) false 2 0 0 4 [some (.ref 105), some (.int (nI s)), some (.int 16), some (.int (nI m)), none] [.int 1] [s0, s1, s2, s3, s4, s5, s6, s7, s8, s9, jb_mdl I J d e kp nm W, s11] _
  refine jb_if_eq (tgt := 29) (pc' := 7) dX12_sheet_4 (by decide) rfl (fun z => absurd z (by decide)) (fun _ => ?_)
  refine jb_iload_n (pc' := 8) dX12_sheet_7 rfl rfl ?_
  refine jb_if_eq (tgt := 35) (pc' := 11) dX12_sheet_8 (by decide) rfl (fun z => absurd z (by decide)) (fun _ => ?_)
  refine jb_iload_n (pc' := 12) dX12_sheet_11 rfl rfl ?_
  refine jb_bipush (pc' := 14) 8 dX12_sheet_12 (by decide) rfl ?_
  refine jb_icmp_eq (tgt := 35) (pc' := 17) dX12_sheet_14 (by decide) rfl (fun z => absurd z (by decide)) (fun _ => ?_)
  refine jb_iload_n (pc' := 18) dX12_sheet_17 rfl rfl ?_
  refine jb_bipush (pc' := 20) 16 dX12_sheet_18 (by decide) rfl ?_
  refine jb_icmp_eq (tgt := 35) (pc' := 23) dX12_sheet_20 (by decide) rfl (fun _ => ?_) (fun z => absurd (by decide) z)
  refine jb_iload_n (pc' := 36) dX12_sheet_35 rfl rfl ?_
  refine jb_if_eq (tgt := 49) (pc' := 39) dX12_sheet_36 (by decide) rfl (fun z => absurd z (by decide)) (fun _ => ?_)
  refine jb_iload_n (pc' := 40) dX12_sheet_39 rfl rfl ?_
  refine jb_if_ge (tgt := 49) (pc' := 43) dX12_sheet_40 (by decide) rfl (fun _ => ?_) (fun z => absurd (nI_pos' (n := m) (by omega)) z)
  refine jb_iload_n (pc' := 50) dX12_sheet_49 rfl rfl ?_
  refine jb_if_eq (tgt := 65) (pc' := 53) dX12_sheet_50 (by decide) rfl (fun z => absurd z (by decide)) (fun _ => ?_)
  refine jb_iload_n (pc' := 54) dX12_sheet_53 rfl rfl ?_
  refine jb_bipush (pc' := 56) 40 dX12_sheet_54 (by decide) rfl ?_
  refine jb_icmp_le (tgt := 65) (pc' := 59) dX12_sheet_56 (by decide) rfl (fun _ => ?_) (fun z => absurd (nI_le (a := m) (b := 40) (by omega) (by omega)) z)
  refine jb_aload_n (pc' := 66) dX12_sheet_65 rfl rfl ?_
  refine gf_X12_25 (pc' := 69) (v := .ref 111) dX12_sheet_66 rfl rfl rfl ?_
  refine jb_iload_n (pc' := 70) dX12_sheet_69 rfl rfl ?_
  refine jb_iload_n (pc' := 71) dX12_sheet_70 rfl rfl ?_
  refine jb_iastore (pc' := 72) (i9 := s) (f := (W 1)) (h' := [s0, s1, s2, s3, s4, s5, s6, s7, s8, s9, jb_mdl I J d e kp nm (va_up W 1 (upd (W 1) s 16)), s11]) dX12_sheet_71 rfl (jb_ix_nI (by omega)) (by omega) rfl rfl ?_
  refine jb_aload_n (pc' := 73) dX12_sheet_72 rfl rfl ?_
  refine gf_X12_28 (pc' := 76) (v := .ref 112) dX12_sheet_73 rfl rfl rfl ?_
  refine jb_iload_n (pc' := 77) dX12_sheet_76 rfl rfl ?_
  refine jb_iload_n (pc' := 78) dX12_sheet_77 rfl rfl ?_
  refine jb_if_ne (tgt := 85) (pc' := 81) dX12_sheet_78 (by decide) rfl (fun _ => ?_) (fun z => absurd z (by decide))
  refine jb_iload_n (pc' := 86) dX12_sheet_85 rfl rfl ?_
  refine jb_iastore (pc' := 87) (i9 := s) (f := (W 2)) (h' := [s0, s1, s2, s3, s4, s5, s6, s7, s8, s9, jb_mdl I J d e kp nm (va_up (va_up W 1 (upd (W 1) s 16)) 2 (upd (W 2) s (nI m))), s11]) dX12_sheet_86 rfl (jb_ix_nI (by omega)) (by omega) rfl rfl ?_
  refine jb_iconst (pc' := 88) 0 dX12_sheet_87 (by decide) rfl ?_
  refine jb_istore_ (pc' := 90) dX12_sheet_88 (by decide) (jb_at4 rfl) rfl ?_
  refine jb_J.mono (l_sheetm I J d e kp nm (va_up (va_up W 1 (upd (W 1) s 16)) 2 (upd (W 2) s (nI m))) s hs _ _ 40 0 (va_up (va_up W 1 (upd (W 1) s 16)) 2 (upd (W 2) s (nI m))) (by omega) ⟨fun _ _ => rfl, fun k hk => absurd hk (by omega), fun _ _ => rfl⟩) (by decide) (Nat.le_refl _) (Nat.le_refl _) (fun r h9 hq => ?_)
  obtain ⟨rfl, W9, g1, g2, g3, rfl⟩ := hq
  exact ⟨rfl, W9, fun r h1 h2 h3 => (g1 r h3).trans ((va_ne h2).trans (va_ne h1)), g1 1 (by decide), g1 2 (by decide), g2, g3, rfl⟩
set_option maxRecDepth 100000 in
set_option maxHeartbeats 4000000 in
theorem mx_sheet32 {sc : Nat × (Nat → Int32)} {s0 s1 s2 s3 s4 s5 s6 s7 s8 s9 s11 : List va_E} (I J d e kp nm : Nat → Int32) (W : Nat → Nat → Int32) (s : Nat) (hs : s < 4) (m : Nat) (hm : m ≤ 40) : jb_C sc yX12_sheet cX12_sheet 5 (Option.some .int) 2 0 0 [.ref 105, .int (nI s), .int 32, .int (nI m)] [s0, s1, s2, s3, s4, s5, s6, s7, s8, s9, jb_mdl I J d e kp nm W, s11] (fun r h9 => r = some (.int 1) ∧ ∃ W9, (∀ r, ¬ r = 1 → ¬ r = 2 → ¬ r = 3 → W9 r = W r) ∧ W9 1 = upd (W 1) s 32 ∧ W9 2 = upd (W 2) s (nI m) ∧ (∀ k, k < 40 → W9 3 (40 * s + k) = 0) ∧ (∀ k, (k < 40 * s ∨ 40 * s + 40 ≤ k) → W9 3 k = W 3 k) ∧ h9 = [s0, s1, s2, s3, s4, s5, s6, s7, s8, s9, jb_mdl I J d e kp nm W9, s11]) := by
  refine jb_CofJ (ini := false) (by decide +kernel) (fun h => by cases h) (Nat.le_of_ble_eq_true rfl) ?_
  show jb_J sc RX12 cX12_sheet 5 (Option.some .int) false 2 0 0 0 [some (.ref 105), some (.int (nI s)), some (.int 32), some (.int (nI m)), none] [] [s0, s1, s2, s3, s4, s5, s6, s7, s8, s9, jb_mdl I J d e kp nm W, s11] _
  refine jb_iload_n (pc' := 1) dX12_sheet_0 rfl rfl ?_
  refine jb_callS (pc' := 4) (As := [.int (nI s)]) (a2 := 0) (b2 := 0) wv_X12_223 dX12_sheet_1 (c_isSheetG _ s (by omega)) rfl ⟨by decide, Nat.le_of_eq (Nat.zero_add _), Nat.le_of_eq (Nat.zero_add _)⟩ (Nat.le_of_ble_eq_true rfl) rfl (fun r h9 hq => ?_)
  obtain ⟨rfl, rfl⟩ := hq
  show jb_J _ RX12 cX12_sheet 5 (Option.some .int) false 2 0 0 4 [some (.ref 105), some (.int (nI s)), some (.int 32), some (.int (nI m)), none] [.int 1] [s0, s1, s2, s3, s4, s5, s6, s7, s8, s9, jb_mdl I J d e kp nm W, s11] _
  refine jb_if_eq (tgt := 29) (pc' := 7) dX12_sheet_4 (by decide) rfl (fun z => absurd z (by decide)) (fun _ => ?_)
  refine jb_iload_n (pc' := 8) dX12_sheet_7 rfl rfl ?_
  refine jb_if_eq (tgt := 35) (pc' := 11) dX12_sheet_8 (by decide) rfl (fun z => absurd z (by decide)) (fun _ => ?_)
  refine jb_iload_n (pc' := 12) dX12_sheet_11 rfl rfl ?_
  refine jb_bipush (pc' := 14) 8 dX12_sheet_12 (by decide) rfl ?_
  refine jb_icmp_eq (tgt := 35) (pc' := 17) dX12_sheet_14 (by decide) rfl (fun z => absurd z (by decide)) (fun _ => ?_)
  refine jb_iload_n (pc' := 18) dX12_sheet_17 rfl rfl ?_
  refine jb_bipush (pc' := 20) 16 dX12_sheet_18 (by decide) rfl ?_
  refine jb_icmp_eq (tgt := 35) (pc' := 23) dX12_sheet_20 (by decide) rfl (fun z => absurd z (by decide)) (fun _ => ?_)
  refine jb_iload_n (pc' := 24) dX12_sheet_23 rfl rfl ?_
  refine jb_bipush (pc' := 26) 32 dX12_sheet_24 (by decide) rfl ?_
  refine jb_icmp_eq (tgt := 35) (pc' := 29) dX12_sheet_26 (by decide) rfl (fun _ => ?_) (fun z => absurd (by decide) z)
  refine jb_iload_n (pc' := 36) dX12_sheet_35 rfl rfl ?_
  refine jb_if_eq (tgt := 49) (pc' := 39) dX12_sheet_36 (by decide) rfl (fun z => absurd z (by decide)) (fun _ => ?_)
  refine jb_iload_n (pc' := 40) dX12_sheet_39 rfl rfl ?_
  refine jb_if_ge (tgt := 49) (pc' := 43) dX12_sheet_40 (by decide) rfl (fun _ => ?_) (fun z => absurd (nI_pos' (n := m) (by omega)) z)
  refine jb_iload_n (pc' := 50) dX12_sheet_49 rfl rfl ?_
  refine jb_if_eq (tgt := 65) (pc' := 53) dX12_sheet_50 (by decide) rfl (fun z => absurd z (by decide)) (fun _ => ?_)
  refine jb_iload_n (pc' := 54) dX12_sheet_53 rfl rfl ?_
  refine jb_bipush (pc' := 56) 40 dX12_sheet_54 (by decide) rfl ?_
  refine jb_icmp_le (tgt := 65) (pc' := 59) dX12_sheet_56 (by decide) rfl (fun _ => ?_) (fun z => absurd (nI_le (a := m) (b := 40) (by omega) (by omega)) z)
  refine jb_aload_n (pc' := 66) dX12_sheet_65 rfl rfl ?_
  refine gf_X12_25 (pc' := 69) (v := .ref 111) dX12_sheet_66 rfl rfl rfl ?_
  refine jb_iload_n (pc' := 70) dX12_sheet_69 rfl rfl ?_
  refine jb_iload_n (pc' := 71) dX12_sheet_70 rfl rfl ?_
  refine jb_iastore (pc' := 72) (i9 := s) (f := (W 1)) (h' := [s0, s1, s2, s3, s4, s5, s6, s7, s8, s9, jb_mdl I J d e kp nm (va_up W 1 (upd (W 1) s 32)), s11]) dX12_sheet_71 rfl (jb_ix_nI (by omega)) (by omega) rfl rfl ?_
  refine jb_aload_n (pc' := 73) dX12_sheet_72 rfl rfl ?_
  refine gf_X12_28 (pc' := 76) (v := .ref 112) dX12_sheet_73 rfl rfl rfl ?_
  refine jb_iload_n (pc' := 77) dX12_sheet_76 rfl rfl ?_
  refine jb_iload_n (pc' := 78) dX12_sheet_77 rfl rfl ?_
  refine jb_if_ne (tgt := 85) (pc' := 81) dX12_sheet_78 (by decide) rfl (fun _ => ?_) (fun z => absurd z (by decide))
  refine jb_iload_n (pc' := 86) dX12_sheet_85 rfl rfl ?_
  refine jb_iastore (pc' := 87) (i9 := s) (f := (W 2)) (h' := [s0, s1, s2, s3, s4, s5, s6, s7, s8, s9, jb_mdl I J d e kp nm (va_up (va_up W 1 (upd (W 1) s 32)) 2 (upd (W 2) s (nI m))), s11]) dX12_sheet_86 rfl (jb_ix_nI (by omega)) (by omega) rfl rfl ?_
  refine jb_iconst (pc' := 88) 0 dX12_sheet_87 (by decide) rfl ?_
  refine jb_istore_ (pc' := 90) dX12_sheet_88 (by decide) (jb_at4 rfl) rfl ?_
  refine jb_J.mono (l_sheetm I J d e kp nm (va_up (va_up W 1 (upd (W 1) s 32)) 2 (upd (W 2) s (nI m))) s hs _ _ 40 0 (va_up (va_up W 1 (upd (W 1) s 32)) 2 (upd (W 2) s (nI m))) (by omega) ⟨fun _ _ => rfl, fun k hk => absurd hk (by omega), fun _ _ => rfl⟩) (by decide) (Nat.le_refl _) (Nat.le_refl _) (fun r h9 hq => ?_)
  obtain ⟨rfl, W9, g1, g2, g3, rfl⟩ := hq
  exact ⟨rfl, W9, fun r h1 h2 h3 => (g1 r h3).trans ((va_ne h2).trans (va_ne h1)), g1 1 (by decide), g1 2 (by decide), g2, g3, rfl⟩
set_option maxRecDepth 100000 in
set_option maxHeartbeats 4000000 in
theorem me_sheet {sc : Nat × (Nat → Int32)} {s0 s1 s2 s3 s4 s5 s6 s7 s8 s9 s11 : List va_E} (I J d e kp nm : Nat → Int32) (W : Nat → Nat → Int32) (s b n : Int32) (hb : ¬ (jn_b s 0 4 ∧ (b = 0 ∨ b = 8 ∨ b = 16 ∨ b = 32))) : jb_C sc yX12_sheet cX12_sheet 5 (Option.some .int) 2 0 0 [.ref 105, .int s, .int b, .int n] [s0, s1, s2, s3, s4, s5, s6, s7, s8, s9, jb_mdl I J d e kp nm W, s11] (fun r h9 => r = some (.int (jm_er 1)) ∧ h9 = [s0, s1, s2, s3, s4, s5, s6, s7, s8, s9, jb_mdl I J d e kp nm (va_up W 0 (jm_ef (W 0) 1)), s11]) := by
  refine jb_CofJ (ini := false) (by decide +kernel) (fun h => by cases h) (Nat.le_of_ble_eq_true rfl) ?_
  show jb_J sc RX12 cX12_sheet 5 (Option.some .int) false 2 0 0 0 [some (.ref 105), some (.int s), some (.int b), some (.int n), none] [] [s0, s1, s2, s3, s4, s5, s6, s7, s8, s9, jb_mdl I J d e kp nm W, s11] _
  refine jb_iload_n (pc' := 1) dX12_sheet_0 rfl rfl ?_
  refine jb_callS (pc' := 4) (As := [.int s]) (a2 := 0) (b2 := 0) wv_X12_223 dX12_sheet_1 (c_isSheet _ s) rfl ⟨by decide, Nat.le_of_eq (Nat.zero_add _), Nat.le_of_eq (Nat.zero_add _)⟩ (Nat.le_of_ble_eq_true rfl) rfl (fun r h9 hq => ?_)
  rcases hq with ⟨rfl, ⟨o1, rfl⟩ | ⟨o1, rfl⟩⟩
  · show jb_J _ RX12 cX12_sheet 5 (Option.some .int) false 2 0 0 4 [some (.ref 105), some (.int s), some (.int b), some (.int n), none] [.int 1] [s0, s1, s2, s3, s4, s5, s6, s7, s8, s9, jb_mdl I J d e kp nm W, s11] _
    refine jb_if_eq (tgt := 29) (pc' := 7) dX12_sheet_4 (by decide) rfl (fun z => absurd z (by decide)) (fun _ => ?_)
    refine jb_iload_n (pc' := 8) dX12_sheet_7 rfl rfl ?_
    refine jb_if_eq (tgt := 35) (pc' := 11) dX12_sheet_8 (by decide) rfl (fun c4 => ?_) (fun c4 => ?_)
    · refine jb_iload_n (pc' := 36) dX12_sheet_35 rfl rfl ?_
      refine jb_if_eq (tgt := 49) (pc' := 39) dX12_sheet_36 (by decide) rfl (fun c5 => ?_) (fun c5 => ?_)
      · refine jb_iload_n (pc' := 50) dX12_sheet_49 rfl rfl ?_
        refine jb_if_eq (tgt := 65) (pc' := 53) dX12_sheet_50 (by decide) rfl (fun c6 => ?_) (fun c6 => ?_)
        · exact absurd ⟨by assumption, by first | exact Or.inl (by assumption) | exact Or.inr (Or.inl (by assumption)) | exact Or.inr (Or.inr (Or.inl (by assumption))) | exact Or.inr (Or.inr (Or.inr (by assumption)))⟩ hb
        · refine jb_iload_n (pc' := 54) dX12_sheet_53 rfl rfl ?_
          refine jb_bipush (pc' := 56) 40 dX12_sheet_54 (by decide) rfl ?_
          refine jb_icmp_le (tgt := 65) (pc' := 59) dX12_sheet_56 (by decide) rfl (fun c7 => ?_) (fun c7 => ?_)
          · exact absurd ⟨by assumption, by first | exact Or.inl (by assumption) | exact Or.inr (Or.inl (by assumption)) | exact Or.inr (Or.inr (Or.inl (by assumption))) | exact Or.inr (Or.inr (Or.inr (by assumption)))⟩ hb
          · refine jb_aload_n (pc' := 60) dX12_sheet_59 rfl rfl ?_
            refine jb_iconst (pc' := 61) 1 dX12_sheet_60 (by decide) rfl ?_
            refine jb_callV (pc' := 64) (ci := 12) (q := 105) (As := [.int 1]) (a2 := 0) (b2 := 0) wv_X12_121 rfl dX12_sheet_61 (c_finds I J d e kp nm W 1 (by decide)) rfl rfl ⟨by decide, Nat.le_of_eq (Nat.zero_add _), Nat.le_of_eq (Nat.zero_add _)⟩ (Nat.le_of_ble_eq_true rfl) rfl (fun r h9 hq => ?_)
            obtain ⟨rfl, rfl⟩ := hq
            show jb_J _ RX12 cX12_sheet 5 (Option.some .int) false 2 0 0 64 [some (.ref 105), some (.int s), some (.int b), some (.int n), none] [.int (jm_er 1)] [s0, s1, s2, s3, s4, s5, s6, s7, s8, s9, jb_mdl I J d e kp nm (va_up W 0 (jm_ef (W 0) 1)), s11] _
            refine jb_iret dX12_sheet_64 rfl ?_
            exact ⟨rfl, rfl⟩
      · refine jb_iload_n (pc' := 40) dX12_sheet_39 rfl rfl ?_
        refine jb_if_ge (tgt := 49) (pc' := 43) dX12_sheet_40 (by decide) rfl (fun c8 => ?_) (fun c8 => ?_)
        · refine jb_iload_n (pc' := 50) dX12_sheet_49 rfl rfl ?_
          refine jb_if_eq (tgt := 65) (pc' := 53) dX12_sheet_50 (by decide) rfl (fun c9 => ?_) (fun c9 => ?_)
          · exact absurd ⟨by assumption, by first | exact Or.inl (by assumption) | exact Or.inr (Or.inl (by assumption)) | exact Or.inr (Or.inr (Or.inl (by assumption))) | exact Or.inr (Or.inr (Or.inr (by assumption)))⟩ hb
          · refine jb_iload_n (pc' := 54) dX12_sheet_53 rfl rfl ?_
            refine jb_bipush (pc' := 56) 40 dX12_sheet_54 (by decide) rfl ?_
            refine jb_icmp_le (tgt := 65) (pc' := 59) dX12_sheet_56 (by decide) rfl (fun c10 => ?_) (fun c10 => ?_)
            · exact absurd ⟨by assumption, by first | exact Or.inl (by assumption) | exact Or.inr (Or.inl (by assumption)) | exact Or.inr (Or.inr (Or.inl (by assumption))) | exact Or.inr (Or.inr (Or.inr (by assumption)))⟩ hb
            · refine jb_aload_n (pc' := 60) dX12_sheet_59 rfl rfl ?_
              refine jb_iconst (pc' := 61) 1 dX12_sheet_60 (by decide) rfl ?_
              refine jb_callV (pc' := 64) (ci := 12) (q := 105) (As := [.int 1]) (a2 := 0) (b2 := 0) wv_X12_121 rfl dX12_sheet_61 (c_finds I J d e kp nm W 1 (by decide)) rfl rfl ⟨by decide, Nat.le_of_eq (Nat.zero_add _), Nat.le_of_eq (Nat.zero_add _)⟩ (Nat.le_of_ble_eq_true rfl) rfl (fun r h9 hq => ?_)
              obtain ⟨rfl, rfl⟩ := hq
              show jb_J _ RX12 cX12_sheet 5 (Option.some .int) false 2 0 0 64 [some (.ref 105), some (.int s), some (.int b), some (.int n), none] [.int (jm_er 1)] [s0, s1, s2, s3, s4, s5, s6, s7, s8, s9, jb_mdl I J d e kp nm (va_up W 0 (jm_ef (W 0) 1)), s11] _
              refine jb_iret dX12_sheet_64 rfl ?_
              exact ⟨rfl, rfl⟩
        · refine jb_aload_n (pc' := 44) dX12_sheet_43 rfl rfl ?_
          refine jb_iconst (pc' := 45) 3 dX12_sheet_44 (by decide) rfl ?_
          refine jb_callV (pc' := 48) (ci := 12) (q := 105) (As := [.int 3]) (a2 := 0) (b2 := 0) wv_X12_121 rfl dX12_sheet_45 (c_finds I J d e kp nm W 3 (by decide)) rfl rfl ⟨by decide, Nat.le_of_eq (Nat.zero_add _), Nat.le_of_eq (Nat.zero_add _)⟩ (Nat.le_of_ble_eq_true rfl) rfl (fun r h9 hq => ?_)
          obtain ⟨rfl, rfl⟩ := hq
          show jb_J _ RX12 cX12_sheet 5 (Option.some .int) false 2 0 0 48 [some (.ref 105), some (.int s), some (.int b), some (.int n), none] [.int (jm_er 3)] [s0, s1, s2, s3, s4, s5, s6, s7, s8, s9, jb_mdl I J d e kp nm (va_up W 0 (jm_ef (W 0) 3)), s11] _
          refine jb_iret dX12_sheet_48 rfl ?_
          exact absurd ⟨by assumption, by first | exact Or.inl (by assumption) | exact Or.inr (Or.inl (by assumption)) | exact Or.inr (Or.inr (Or.inl (by assumption))) | exact Or.inr (Or.inr (Or.inr (by assumption)))⟩ hb
    · refine jb_iload_n (pc' := 12) dX12_sheet_11 rfl rfl ?_
      refine jb_bipush (pc' := 14) 8 dX12_sheet_12 (by decide) rfl ?_
      refine jb_icmp_eq (tgt := 35) (pc' := 17) dX12_sheet_14 (by decide) rfl (fun c11 => ?_) (fun c11 => ?_)
      · refine jb_iload_n (pc' := 36) dX12_sheet_35 rfl rfl ?_
        refine jb_if_eq (tgt := 49) (pc' := 39) dX12_sheet_36 (by decide) rfl (fun c12 => ?_) (fun c12 => ?_)
        · refine jb_iload_n (pc' := 50) dX12_sheet_49 rfl rfl ?_
          refine jb_if_eq (tgt := 65) (pc' := 53) dX12_sheet_50 (by decide) rfl (fun c13 => ?_) (fun c13 => ?_)
          · exact absurd ⟨by assumption, by first | exact Or.inl (by assumption) | exact Or.inr (Or.inl (by assumption)) | exact Or.inr (Or.inr (Or.inl (by assumption))) | exact Or.inr (Or.inr (Or.inr (by assumption)))⟩ hb
          · refine jb_iload_n (pc' := 54) dX12_sheet_53 rfl rfl ?_
            refine jb_bipush (pc' := 56) 40 dX12_sheet_54 (by decide) rfl ?_
            refine jb_icmp_le (tgt := 65) (pc' := 59) dX12_sheet_56 (by decide) rfl (fun c14 => ?_) (fun c14 => ?_)
            · exact absurd ⟨by assumption, by first | exact Or.inl (by assumption) | exact Or.inr (Or.inl (by assumption)) | exact Or.inr (Or.inr (Or.inl (by assumption))) | exact Or.inr (Or.inr (Or.inr (by assumption)))⟩ hb
            · refine jb_aload_n (pc' := 60) dX12_sheet_59 rfl rfl ?_
              refine jb_iconst (pc' := 61) 1 dX12_sheet_60 (by decide) rfl ?_
              refine jb_callV (pc' := 64) (ci := 12) (q := 105) (As := [.int 1]) (a2 := 0) (b2 := 0) wv_X12_121 rfl dX12_sheet_61 (c_finds I J d e kp nm W 1 (by decide)) rfl rfl ⟨by decide, Nat.le_of_eq (Nat.zero_add _), Nat.le_of_eq (Nat.zero_add _)⟩ (Nat.le_of_ble_eq_true rfl) rfl (fun r h9 hq => ?_)
              obtain ⟨rfl, rfl⟩ := hq
              show jb_J _ RX12 cX12_sheet 5 (Option.some .int) false 2 0 0 64 [some (.ref 105), some (.int s), some (.int b), some (.int n), none] [.int (jm_er 1)] [s0, s1, s2, s3, s4, s5, s6, s7, s8, s9, jb_mdl I J d e kp nm (va_up W 0 (jm_ef (W 0) 1)), s11] _
              refine jb_iret dX12_sheet_64 rfl ?_
              exact ⟨rfl, rfl⟩
        · refine jb_iload_n (pc' := 40) dX12_sheet_39 rfl rfl ?_
          refine jb_if_ge (tgt := 49) (pc' := 43) dX12_sheet_40 (by decide) rfl (fun c15 => ?_) (fun c15 => ?_)
          · refine jb_iload_n (pc' := 50) dX12_sheet_49 rfl rfl ?_
            refine jb_if_eq (tgt := 65) (pc' := 53) dX12_sheet_50 (by decide) rfl (fun c16 => ?_) (fun c16 => ?_)
            · exact absurd ⟨by assumption, by first | exact Or.inl (by assumption) | exact Or.inr (Or.inl (by assumption)) | exact Or.inr (Or.inr (Or.inl (by assumption))) | exact Or.inr (Or.inr (Or.inr (by assumption)))⟩ hb
            · refine jb_iload_n (pc' := 54) dX12_sheet_53 rfl rfl ?_
              refine jb_bipush (pc' := 56) 40 dX12_sheet_54 (by decide) rfl ?_
              refine jb_icmp_le (tgt := 65) (pc' := 59) dX12_sheet_56 (by decide) rfl (fun c17 => ?_) (fun c17 => ?_)
              · exact absurd ⟨by assumption, by first | exact Or.inl (by assumption) | exact Or.inr (Or.inl (by assumption)) | exact Or.inr (Or.inr (Or.inl (by assumption))) | exact Or.inr (Or.inr (Or.inr (by assumption)))⟩ hb
              · refine jb_aload_n (pc' := 60) dX12_sheet_59 rfl rfl ?_
                refine jb_iconst (pc' := 61) 1 dX12_sheet_60 (by decide) rfl ?_
                refine jb_callV (pc' := 64) (ci := 12) (q := 105) (As := [.int 1]) (a2 := 0) (b2 := 0) wv_X12_121 rfl dX12_sheet_61 (c_finds I J d e kp nm W 1 (by decide)) rfl rfl ⟨by decide, Nat.le_of_eq (Nat.zero_add _), Nat.le_of_eq (Nat.zero_add _)⟩ (Nat.le_of_ble_eq_true rfl) rfl (fun r h9 hq => ?_)
                obtain ⟨rfl, rfl⟩ := hq
                show jb_J _ RX12 cX12_sheet 5 (Option.some .int) false 2 0 0 64 [some (.ref 105), some (.int s), some (.int b), some (.int n), none] [.int (jm_er 1)] [s0, s1, s2, s3, s4, s5, s6, s7, s8, s9, jb_mdl I J d e kp nm (va_up W 0 (jm_ef (W 0) 1)), s11] _
                refine jb_iret dX12_sheet_64 rfl ?_
                exact ⟨rfl, rfl⟩
          · refine jb_aload_n (pc' := 44) dX12_sheet_43 rfl rfl ?_
            refine jb_iconst (pc' := 45) 3 dX12_sheet_44 (by decide) rfl ?_
            refine jb_callV (pc' := 48) (ci := 12) (q := 105) (As := [.int 3]) (a2 := 0) (b2 := 0) wv_X12_121 rfl dX12_sheet_45 (c_finds I J d e kp nm W 3 (by decide)) rfl rfl ⟨by decide, Nat.le_of_eq (Nat.zero_add _), Nat.le_of_eq (Nat.zero_add _)⟩ (Nat.le_of_ble_eq_true rfl) rfl (fun r h9 hq => ?_)
            obtain ⟨rfl, rfl⟩ := hq
            show jb_J _ RX12 cX12_sheet 5 (Option.some .int) false 2 0 0 48 [some (.ref 105), some (.int s), some (.int b), some (.int n), none] [.int (jm_er 3)] [s0, s1, s2, s3, s4, s5, s6, s7, s8, s9, jb_mdl I J d e kp nm (va_up W 0 (jm_ef (W 0) 3)), s11] _
            refine jb_iret dX12_sheet_48 rfl ?_
            exact absurd ⟨by assumption, by first | exact Or.inl (by assumption) | exact Or.inr (Or.inl (by assumption)) | exact Or.inr (Or.inr (Or.inl (by assumption))) | exact Or.inr (Or.inr (Or.inr (by assumption)))⟩ hb
      · refine jb_iload_n (pc' := 18) dX12_sheet_17 rfl rfl ?_
        refine jb_bipush (pc' := 20) 16 dX12_sheet_18 (by decide) rfl ?_
        refine jb_icmp_eq (tgt := 35) (pc' := 23) dX12_sheet_20 (by decide) rfl (fun c18 => ?_) (fun c18 => ?_)
        · refine jb_iload_n (pc' := 36) dX12_sheet_35 rfl rfl ?_
          refine jb_if_eq (tgt := 49) (pc' := 39) dX12_sheet_36 (by decide) rfl (fun c19 => ?_) (fun c19 => ?_)
          · refine jb_iload_n (pc' := 50) dX12_sheet_49 rfl rfl ?_
            refine jb_if_eq (tgt := 65) (pc' := 53) dX12_sheet_50 (by decide) rfl (fun c20 => ?_) (fun c20 => ?_)
            · exact absurd ⟨by assumption, by first | exact Or.inl (by assumption) | exact Or.inr (Or.inl (by assumption)) | exact Or.inr (Or.inr (Or.inl (by assumption))) | exact Or.inr (Or.inr (Or.inr (by assumption)))⟩ hb
            · refine jb_iload_n (pc' := 54) dX12_sheet_53 rfl rfl ?_
              refine jb_bipush (pc' := 56) 40 dX12_sheet_54 (by decide) rfl ?_
              refine jb_icmp_le (tgt := 65) (pc' := 59) dX12_sheet_56 (by decide) rfl (fun c21 => ?_) (fun c21 => ?_)
              · exact absurd ⟨by assumption, by first | exact Or.inl (by assumption) | exact Or.inr (Or.inl (by assumption)) | exact Or.inr (Or.inr (Or.inl (by assumption))) | exact Or.inr (Or.inr (Or.inr (by assumption)))⟩ hb
              · refine jb_aload_n (pc' := 60) dX12_sheet_59 rfl rfl ?_
                refine jb_iconst (pc' := 61) 1 dX12_sheet_60 (by decide) rfl ?_
                refine jb_callV (pc' := 64) (ci := 12) (q := 105) (As := [.int 1]) (a2 := 0) (b2 := 0) wv_X12_121 rfl dX12_sheet_61 (c_finds I J d e kp nm W 1 (by decide)) rfl rfl ⟨by decide, Nat.le_of_eq (Nat.zero_add _), Nat.le_of_eq (Nat.zero_add _)⟩ (Nat.le_of_ble_eq_true rfl) rfl (fun r h9 hq => ?_)
                obtain ⟨rfl, rfl⟩ := hq
                show jb_J _ RX12 cX12_sheet 5 (Option.some .int) false 2 0 0 64 [some (.ref 105), some (.int s), some (.int b), some (.int n), none] [.int (jm_er 1)] [s0, s1, s2, s3, s4, s5, s6, s7, s8, s9, jb_mdl I J d e kp nm (va_up W 0 (jm_ef (W 0) 1)), s11] _
                refine jb_iret dX12_sheet_64 rfl ?_
                exact ⟨rfl, rfl⟩
          · refine jb_iload_n (pc' := 40) dX12_sheet_39 rfl rfl ?_
            refine jb_if_ge (tgt := 49) (pc' := 43) dX12_sheet_40 (by decide) rfl (fun c22 => ?_) (fun c22 => ?_)
            · refine jb_iload_n (pc' := 50) dX12_sheet_49 rfl rfl ?_
              refine jb_if_eq (tgt := 65) (pc' := 53) dX12_sheet_50 (by decide) rfl (fun c23 => ?_) (fun c23 => ?_)
              · exact absurd ⟨by assumption, by first | exact Or.inl (by assumption) | exact Or.inr (Or.inl (by assumption)) | exact Or.inr (Or.inr (Or.inl (by assumption))) | exact Or.inr (Or.inr (Or.inr (by assumption)))⟩ hb
              · refine jb_iload_n (pc' := 54) dX12_sheet_53 rfl rfl ?_
                refine jb_bipush (pc' := 56) 40 dX12_sheet_54 (by decide) rfl ?_
                refine jb_icmp_le (tgt := 65) (pc' := 59) dX12_sheet_56 (by decide) rfl (fun c24 => ?_) (fun c24 => ?_)
                · exact absurd ⟨by assumption, by first | exact Or.inl (by assumption) | exact Or.inr (Or.inl (by assumption)) | exact Or.inr (Or.inr (Or.inl (by assumption))) | exact Or.inr (Or.inr (Or.inr (by assumption)))⟩ hb
                · refine jb_aload_n (pc' := 60) dX12_sheet_59 rfl rfl ?_
                  refine jb_iconst (pc' := 61) 1 dX12_sheet_60 (by decide) rfl ?_
                  refine jb_callV (pc' := 64) (ci := 12) (q := 105) (As := [.int 1]) (a2 := 0) (b2 := 0) wv_X12_121 rfl dX12_sheet_61 (c_finds I J d e kp nm W 1 (by decide)) rfl rfl ⟨by decide, Nat.le_of_eq (Nat.zero_add _), Nat.le_of_eq (Nat.zero_add _)⟩ (Nat.le_of_ble_eq_true rfl) rfl (fun r h9 hq => ?_)
                  obtain ⟨rfl, rfl⟩ := hq
                  show jb_J _ RX12 cX12_sheet 5 (Option.some .int) false 2 0 0 64 [some (.ref 105), some (.int s), some (.int b), some (.int n), none] [.int (jm_er 1)] [s0, s1, s2, s3, s4, s5, s6, s7, s8, s9, jb_mdl I J d e kp nm (va_up W 0 (jm_ef (W 0) 1)), s11] _
                  refine jb_iret dX12_sheet_64 rfl ?_
                  exact ⟨rfl, rfl⟩
            · refine jb_aload_n (pc' := 44) dX12_sheet_43 rfl rfl ?_
              refine jb_iconst (pc' := 45) 3 dX12_sheet_44 (by decide) rfl ?_
              refine jb_callV (pc' := 48) (ci := 12) (q := 105) (As := [.int 3]) (a2 := 0) (b2 := 0) wv_X12_121 rfl dX12_sheet_45 (c_finds I J d e kp nm W 3 (by decide)) rfl rfl ⟨by decide, Nat.le_of_eq (Nat.zero_add _), Nat.le_of_eq (Nat.zero_add _)⟩ (Nat.le_of_ble_eq_true rfl) rfl (fun r h9 hq => ?_)
              obtain ⟨rfl, rfl⟩ := hq
              show jb_J _ RX12 cX12_sheet 5 (Option.some .int) false 2 0 0 48 [some (.ref 105), some (.int s), some (.int b), some (.int n), none] [.int (jm_er 3)] [s0, s1, s2, s3, s4, s5, s6, s7, s8, s9, jb_mdl I J d e kp nm (va_up W 0 (jm_ef (W 0) 3)), s11] _
              refine jb_iret dX12_sheet_48 rfl ?_
              exact absurd ⟨by assumption, by first | exact Or.inl (by assumption) | exact Or.inr (Or.inl (by assumption)) | exact Or.inr (Or.inr (Or.inl (by assumption))) | exact Or.inr (Or.inr (Or.inr (by assumption)))⟩ hb
        · refine jb_iload_n (pc' := 24) dX12_sheet_23 rfl rfl ?_
          refine jb_bipush (pc' := 26) 32 dX12_sheet_24 (by decide) rfl ?_
          refine jb_icmp_eq (tgt := 35) (pc' := 29) dX12_sheet_26 (by decide) rfl (fun c25 => ?_) (fun c25 => ?_)
          · refine jb_iload_n (pc' := 36) dX12_sheet_35 rfl rfl ?_
            refine jb_if_eq (tgt := 49) (pc' := 39) dX12_sheet_36 (by decide) rfl (fun c26 => ?_) (fun c26 => ?_)
            · refine jb_iload_n (pc' := 50) dX12_sheet_49 rfl rfl ?_
              refine jb_if_eq (tgt := 65) (pc' := 53) dX12_sheet_50 (by decide) rfl (fun c27 => ?_) (fun c27 => ?_)
              · exact absurd ⟨by assumption, by first | exact Or.inl (by assumption) | exact Or.inr (Or.inl (by assumption)) | exact Or.inr (Or.inr (Or.inl (by assumption))) | exact Or.inr (Or.inr (Or.inr (by assumption)))⟩ hb
              · refine jb_iload_n (pc' := 54) dX12_sheet_53 rfl rfl ?_
                refine jb_bipush (pc' := 56) 40 dX12_sheet_54 (by decide) rfl ?_
                refine jb_icmp_le (tgt := 65) (pc' := 59) dX12_sheet_56 (by decide) rfl (fun c28 => ?_) (fun c28 => ?_)
                · exact absurd ⟨by assumption, by first | exact Or.inl (by assumption) | exact Or.inr (Or.inl (by assumption)) | exact Or.inr (Or.inr (Or.inl (by assumption))) | exact Or.inr (Or.inr (Or.inr (by assumption)))⟩ hb
                · refine jb_aload_n (pc' := 60) dX12_sheet_59 rfl rfl ?_
                  refine jb_iconst (pc' := 61) 1 dX12_sheet_60 (by decide) rfl ?_
                  refine jb_callV (pc' := 64) (ci := 12) (q := 105) (As := [.int 1]) (a2 := 0) (b2 := 0) wv_X12_121 rfl dX12_sheet_61 (c_finds I J d e kp nm W 1 (by decide)) rfl rfl ⟨by decide, Nat.le_of_eq (Nat.zero_add _), Nat.le_of_eq (Nat.zero_add _)⟩ (Nat.le_of_ble_eq_true rfl) rfl (fun r h9 hq => ?_)
                  obtain ⟨rfl, rfl⟩ := hq
                  show jb_J _ RX12 cX12_sheet 5 (Option.some .int) false 2 0 0 64 [some (.ref 105), some (.int s), some (.int b), some (.int n), none] [.int (jm_er 1)] [s0, s1, s2, s3, s4, s5, s6, s7, s8, s9, jb_mdl I J d e kp nm (va_up W 0 (jm_ef (W 0) 1)), s11] _
                  refine jb_iret dX12_sheet_64 rfl ?_
                  exact ⟨rfl, rfl⟩
            · refine jb_iload_n (pc' := 40) dX12_sheet_39 rfl rfl ?_
              refine jb_if_ge (tgt := 49) (pc' := 43) dX12_sheet_40 (by decide) rfl (fun c29 => ?_) (fun c29 => ?_)
              · refine jb_iload_n (pc' := 50) dX12_sheet_49 rfl rfl ?_
                refine jb_if_eq (tgt := 65) (pc' := 53) dX12_sheet_50 (by decide) rfl (fun c30 => ?_) (fun c30 => ?_)
                · exact absurd ⟨by assumption, by first | exact Or.inl (by assumption) | exact Or.inr (Or.inl (by assumption)) | exact Or.inr (Or.inr (Or.inl (by assumption))) | exact Or.inr (Or.inr (Or.inr (by assumption)))⟩ hb
                · refine jb_iload_n (pc' := 54) dX12_sheet_53 rfl rfl ?_
                  refine jb_bipush (pc' := 56) 40 dX12_sheet_54 (by decide) rfl ?_
                  refine jb_icmp_le (tgt := 65) (pc' := 59) dX12_sheet_56 (by decide) rfl (fun c31 => ?_) (fun c31 => ?_)
                  · exact absurd ⟨by assumption, by first | exact Or.inl (by assumption) | exact Or.inr (Or.inl (by assumption)) | exact Or.inr (Or.inr (Or.inl (by assumption))) | exact Or.inr (Or.inr (Or.inr (by assumption)))⟩ hb
                  · refine jb_aload_n (pc' := 60) dX12_sheet_59 rfl rfl ?_
                    refine jb_iconst (pc' := 61) 1 dX12_sheet_60 (by decide) rfl ?_
                    refine jb_callV (pc' := 64) (ci := 12) (q := 105) (As := [.int 1]) (a2 := 0) (b2 := 0) wv_X12_121 rfl dX12_sheet_61 (c_finds I J d e kp nm W 1 (by decide)) rfl rfl ⟨by decide, Nat.le_of_eq (Nat.zero_add _), Nat.le_of_eq (Nat.zero_add _)⟩ (Nat.le_of_ble_eq_true rfl) rfl (fun r h9 hq => ?_)
                    obtain ⟨rfl, rfl⟩ := hq
                    show jb_J _ RX12 cX12_sheet 5 (Option.some .int) false 2 0 0 64 [some (.ref 105), some (.int s), some (.int b), some (.int n), none] [.int (jm_er 1)] [s0, s1, s2, s3, s4, s5, s6, s7, s8, s9, jb_mdl I J d e kp nm (va_up W 0 (jm_ef (W 0) 1)), s11] _
                    refine jb_iret dX12_sheet_64 rfl ?_
                    exact ⟨rfl, rfl⟩
              · refine jb_aload_n (pc' := 44) dX12_sheet_43 rfl rfl ?_
                refine jb_iconst (pc' := 45) 3 dX12_sheet_44 (by decide) rfl ?_
                refine jb_callV (pc' := 48) (ci := 12) (q := 105) (As := [.int 3]) (a2 := 0) (b2 := 0) wv_X12_121 rfl dX12_sheet_45 (c_finds I J d e kp nm W 3 (by decide)) rfl rfl ⟨by decide, Nat.le_of_eq (Nat.zero_add _), Nat.le_of_eq (Nat.zero_add _)⟩ (Nat.le_of_ble_eq_true rfl) rfl (fun r h9 hq => ?_)
                obtain ⟨rfl, rfl⟩ := hq
                show jb_J _ RX12 cX12_sheet 5 (Option.some .int) false 2 0 0 48 [some (.ref 105), some (.int s), some (.int b), some (.int n), none] [.int (jm_er 3)] [s0, s1, s2, s3, s4, s5, s6, s7, s8, s9, jb_mdl I J d e kp nm (va_up W 0 (jm_ef (W 0) 3)), s11] _
                refine jb_iret dX12_sheet_48 rfl ?_
                exact absurd ⟨by assumption, by first | exact Or.inl (by assumption) | exact Or.inr (Or.inl (by assumption)) | exact Or.inr (Or.inr (Or.inl (by assumption))) | exact Or.inr (Or.inr (Or.inr (by assumption)))⟩ hb
          · refine jb_aload_n (pc' := 30) dX12_sheet_29 rfl rfl ?_
            refine jb_iconst (pc' := 31) 1 dX12_sheet_30 (by decide) rfl ?_
            refine jb_callV (pc' := 34) (ci := 12) (q := 105) (As := [.int 1]) (a2 := 0) (b2 := 0) wv_X12_121 rfl dX12_sheet_31 (c_finds I J d e kp nm W 1 (by decide)) rfl rfl ⟨by decide, Nat.le_of_eq (Nat.zero_add _), Nat.le_of_eq (Nat.zero_add _)⟩ (Nat.le_of_ble_eq_true rfl) rfl (fun r h9 hq => ?_)
            obtain ⟨rfl, rfl⟩ := hq
            show jb_J _ RX12 cX12_sheet 5 (Option.some .int) false 2 0 0 34 [some (.ref 105), some (.int s), some (.int b), some (.int n), none] [.int (jm_er 1)] [s0, s1, s2, s3, s4, s5, s6, s7, s8, s9, jb_mdl I J d e kp nm (va_up W 0 (jm_ef (W 0) 1)), s11] _
            refine jb_iret dX12_sheet_34 rfl ?_
            exact ⟨rfl, rfl⟩
  · show jb_J _ RX12 cX12_sheet 5 (Option.some .int) false 2 0 0 4 [some (.ref 105), some (.int s), some (.int b), some (.int n), none] [.int 0] [s0, s1, s2, s3, s4, s5, s6, s7, s8, s9, jb_mdl I J d e kp nm W, s11] _
    refine jb_if_eq (tgt := 29) (pc' := 7) dX12_sheet_4 (by decide) rfl (fun _ => ?_) (fun z => absurd (by decide) z)
    refine jb_aload_n (pc' := 30) dX12_sheet_29 rfl rfl ?_
    refine jb_iconst (pc' := 31) 1 dX12_sheet_30 (by decide) rfl ?_
    refine jb_callV (pc' := 34) (ci := 12) (q := 105) (As := [.int 1]) (a2 := 0) (b2 := 0) wv_X12_121 rfl dX12_sheet_31 (c_finds I J d e kp nm W 1 (by decide)) rfl rfl ⟨by decide, Nat.le_of_eq (Nat.zero_add _), Nat.le_of_eq (Nat.zero_add _)⟩ (Nat.le_of_ble_eq_true rfl) rfl (fun r h9 hq => ?_)
    obtain ⟨rfl, rfl⟩ := hq
    show jb_J _ RX12 cX12_sheet 5 (Option.some .int) false 2 0 0 34 [some (.ref 105), some (.int s), some (.int b), some (.int n), none] [.int (jm_er 1)] [s0, s1, s2, s3, s4, s5, s6, s7, s8, s9, jb_mdl I J d e kp nm (va_up W 0 (jm_ef (W 0) 1)), s11] _
    refine jb_iret dX12_sheet_34 rfl ?_
    exact ⟨rfl, rfl⟩
set_option maxRecDepth 100000 in
set_option maxHeartbeats 4000000 in
theorem me_sheetS8 {sc : Nat × (Nat → Int32)} {s0 s1 s2 s3 s4 s5 s6 s7 s8 s9 s11 : List va_E} (I J d e kp nm : Nat → Int32) (W : Nat → Nat → Int32) (s : Nat) (hs : s < 4) (n : Int32) (hn : n < 0) : jb_C sc yX12_sheet cX12_sheet 5 (Option.some .int) 2 0 0 [.ref 105, .int (nI s), .int 8, .int n] [s0, s1, s2, s3, s4, s5, s6, s7, s8, s9, jb_mdl I J d e kp nm W, s11] (fun r h9 => r = some (.int (jm_er 3)) ∧ h9 = [s0, s1, s2, s3, s4, s5, s6, s7, s8, s9, jb_mdl I J d e kp nm (va_up W 0 (jm_ef (W 0) 3)), s11]) := by
  refine jb_CofJ (ini := false) (by decide +kernel) (fun h => by cases h) (Nat.le_of_ble_eq_true rfl) ?_
  show jb_J sc RX12 cX12_sheet 5 (Option.some .int) false 2 0 0 0 [some (.ref 105), some (.int (nI s)), some (.int 8), some (.int n), none] [] [s0, s1, s2, s3, s4, s5, s6, s7, s8, s9, jb_mdl I J d e kp nm W, s11] _
  refine jb_iload_n (pc' := 1) dX12_sheet_0 rfl rfl ?_
  refine jb_callS (pc' := 4) (As := [.int (nI s)]) (a2 := 0) (b2 := 0) wv_X12_223 dX12_sheet_1 (c_isSheetG _ s (by omega)) rfl ⟨by decide, Nat.le_of_eq (Nat.zero_add _), Nat.le_of_eq (Nat.zero_add _)⟩ (Nat.le_of_ble_eq_true rfl) rfl (fun r h9 hq => ?_)
  obtain ⟨rfl, rfl⟩ := hq
  show jb_J _ RX12 cX12_sheet 5 (Option.some .int) false 2 0 0 4 [some (.ref 105), some (.int (nI s)), some (.int 8), some (.int n), none] [.int 1] [s0, s1, s2, s3, s4, s5, s6, s7, s8, s9, jb_mdl I J d e kp nm W, s11] _
  refine jb_if_eq (tgt := 29) (pc' := 7) dX12_sheet_4 (by decide) rfl (fun z => absurd z (by decide)) (fun _ => ?_)
  refine jb_iload_n (pc' := 8) dX12_sheet_7 rfl rfl ?_
  refine jb_if_eq (tgt := 35) (pc' := 11) dX12_sheet_8 (by decide) rfl (fun z => absurd z (by decide)) (fun _ => ?_)
  refine jb_iload_n (pc' := 12) dX12_sheet_11 rfl rfl ?_
  refine jb_bipush (pc' := 14) 8 dX12_sheet_12 (by decide) rfl ?_
  refine jb_icmp_eq (tgt := 35) (pc' := 17) dX12_sheet_14 (by decide) rfl (fun _ => ?_) (fun z => absurd (by decide) z)
  refine jb_iload_n (pc' := 36) dX12_sheet_35 rfl rfl ?_
  refine jb_if_eq (tgt := 49) (pc' := 39) dX12_sheet_36 (by decide) rfl (fun z => absurd z (by decide)) (fun _ => ?_)
  refine jb_iload_n (pc' := 40) dX12_sheet_39 rfl rfl ?_
  refine jb_if_ge (tgt := 49) (pc' := 43) dX12_sheet_40 (by decide) rfl (fun z => absurd z (Int32.not_le.mpr hn)) (fun _ => ?_)
  refine jb_aload_n (pc' := 44) dX12_sheet_43 rfl rfl ?_
  refine jb_iconst (pc' := 45) 3 dX12_sheet_44 (by decide) rfl ?_
  refine jb_callV (pc' := 48) (ci := 12) (q := 105) (As := [.int 3]) (a2 := 0) (b2 := 0) wv_X12_121 rfl dX12_sheet_45 (c_finds I J d e kp nm W 3 (by decide)) rfl rfl ⟨by decide, Nat.le_of_eq (Nat.zero_add _), Nat.le_of_eq (Nat.zero_add _)⟩ (Nat.le_of_ble_eq_true rfl) rfl (fun r h9 hq => ?_)
  obtain ⟨rfl, rfl⟩ := hq
  show jb_J _ RX12 cX12_sheet 5 (Option.some .int) false 2 0 0 48 [some (.ref 105), some (.int (nI s)), some (.int 8), some (.int n), none] [.int (jm_er 3)] [s0, s1, s2, s3, s4, s5, s6, s7, s8, s9, jb_mdl I J d e kp nm (va_up W 0 (jm_ef (W 0) 3)), s11] _
  refine jb_iret dX12_sheet_48 rfl ?_
  exact ⟨rfl, rfl⟩
set_option maxRecDepth 100000 in
set_option maxHeartbeats 4000000 in
theorem me_sheetB8 {sc : Nat × (Nat → Int32)} {s0 s1 s2 s3 s4 s5 s6 s7 s8 s9 s11 : List va_E} (I J d e kp nm : Nat → Int32) (W : Nat → Nat → Int32) (s : Nat) (hs : s < 4) (n : Int32) (hn : ¬ n < 0) (hn2 : 40 < n) : jb_C sc yX12_sheet cX12_sheet 5 (Option.some .int) 2 0 0 [.ref 105, .int (nI s), .int 8, .int n] [s0, s1, s2, s3, s4, s5, s6, s7, s8, s9, jb_mdl I J d e kp nm W, s11] (fun r h9 => r = some (.int (jm_er 1)) ∧ h9 = [s0, s1, s2, s3, s4, s5, s6, s7, s8, s9, jb_mdl I J d e kp nm (va_up W 0 (jm_ef (W 0) 1)), s11]) := by
  refine jb_CofJ (ini := false) (by decide +kernel) (fun h => by cases h) (Nat.le_of_ble_eq_true rfl) ?_
  show jb_J sc RX12 cX12_sheet 5 (Option.some .int) false 2 0 0 0 [some (.ref 105), some (.int (nI s)), some (.int 8), some (.int n), none] [] [s0, s1, s2, s3, s4, s5, s6, s7, s8, s9, jb_mdl I J d e kp nm W, s11] _
  refine jb_iload_n (pc' := 1) dX12_sheet_0 rfl rfl ?_
  refine jb_callS (pc' := 4) (As := [.int (nI s)]) (a2 := 0) (b2 := 0) wv_X12_223 dX12_sheet_1 (c_isSheetG _ s (by omega)) rfl ⟨by decide, Nat.le_of_eq (Nat.zero_add _), Nat.le_of_eq (Nat.zero_add _)⟩ (Nat.le_of_ble_eq_true rfl) rfl (fun r h9 hq => ?_)
  obtain ⟨rfl, rfl⟩ := hq
  show jb_J _ RX12 cX12_sheet 5 (Option.some .int) false 2 0 0 4 [some (.ref 105), some (.int (nI s)), some (.int 8), some (.int n), none] [.int 1] [s0, s1, s2, s3, s4, s5, s6, s7, s8, s9, jb_mdl I J d e kp nm W, s11] _
  refine jb_if_eq (tgt := 29) (pc' := 7) dX12_sheet_4 (by decide) rfl (fun z => absurd z (by decide)) (fun _ => ?_)
  refine jb_iload_n (pc' := 8) dX12_sheet_7 rfl rfl ?_
  refine jb_if_eq (tgt := 35) (pc' := 11) dX12_sheet_8 (by decide) rfl (fun z => absurd z (by decide)) (fun _ => ?_)
  refine jb_iload_n (pc' := 12) dX12_sheet_11 rfl rfl ?_
  refine jb_bipush (pc' := 14) 8 dX12_sheet_12 (by decide) rfl ?_
  refine jb_icmp_eq (tgt := 35) (pc' := 17) dX12_sheet_14 (by decide) rfl (fun _ => ?_) (fun z => absurd (by decide) z)
  refine jb_iload_n (pc' := 36) dX12_sheet_35 rfl rfl ?_
  refine jb_if_eq (tgt := 49) (pc' := 39) dX12_sheet_36 (by decide) rfl (fun z => absurd z (by decide)) (fun _ => ?_)
  refine jb_iload_n (pc' := 40) dX12_sheet_39 rfl rfl ?_
  refine jb_if_ge (tgt := 49) (pc' := 43) dX12_sheet_40 (by decide) rfl (fun _ => ?_) (fun z => absurd (Int32.not_lt.mp hn) z)
  refine jb_iload_n (pc' := 50) dX12_sheet_49 rfl rfl ?_
  refine jb_if_eq (tgt := 65) (pc' := 53) dX12_sheet_50 (by decide) rfl (fun z => absurd z (by decide)) (fun _ => ?_)
  refine jb_iload_n (pc' := 54) dX12_sheet_53 rfl rfl ?_
  refine jb_bipush (pc' := 56) 40 dX12_sheet_54 (by decide) rfl ?_
  refine jb_icmp_le (tgt := 65) (pc' := 59) dX12_sheet_56 (by decide) rfl (fun z => absurd z (Int32.not_le.mpr hn2)) (fun _ => ?_)
  refine jb_aload_n (pc' := 60) dX12_sheet_59 rfl rfl ?_
  refine jb_iconst (pc' := 61) 1 dX12_sheet_60 (by decide) rfl ?_
  refine jb_callV (pc' := 64) (ci := 12) (q := 105) (As := [.int 1]) (a2 := 0) (b2 := 0) wv_X12_121 rfl dX12_sheet_61 (c_finds I J d e kp nm W 1 (by decide)) rfl rfl ⟨by decide, Nat.le_of_eq (Nat.zero_add _), Nat.le_of_eq (Nat.zero_add _)⟩ (Nat.le_of_ble_eq_true rfl) rfl (fun r h9 hq => ?_)
  obtain ⟨rfl, rfl⟩ := hq
  show jb_J _ RX12 cX12_sheet 5 (Option.some .int) false 2 0 0 64 [some (.ref 105), some (.int (nI s)), some (.int 8), some (.int n), none] [.int (jm_er 1)] [s0, s1, s2, s3, s4, s5, s6, s7, s8, s9, jb_mdl I J d e kp nm (va_up W 0 (jm_ef (W 0) 1)), s11] _
  refine jb_iret dX12_sheet_64 rfl ?_
  exact ⟨rfl, rfl⟩
set_option maxRecDepth 100000 in
set_option maxHeartbeats 4000000 in
theorem me_sheetS16 {sc : Nat × (Nat → Int32)} {s0 s1 s2 s3 s4 s5 s6 s7 s8 s9 s11 : List va_E} (I J d e kp nm : Nat → Int32) (W : Nat → Nat → Int32) (s : Nat) (hs : s < 4) (n : Int32) (hn : n < 0) : jb_C sc yX12_sheet cX12_sheet 5 (Option.some .int) 2 0 0 [.ref 105, .int (nI s), .int 16, .int n] [s0, s1, s2, s3, s4, s5, s6, s7, s8, s9, jb_mdl I J d e kp nm W, s11] (fun r h9 => r = some (.int (jm_er 3)) ∧ h9 = [s0, s1, s2, s3, s4, s5, s6, s7, s8, s9, jb_mdl I J d e kp nm (va_up W 0 (jm_ef (W 0) 3)), s11]) := by
  refine jb_CofJ (ini := false) (by decide +kernel) (fun h => by cases h) (Nat.le_of_ble_eq_true rfl) ?_
  show jb_J sc RX12 cX12_sheet 5 (Option.some .int) false 2 0 0 0 [some (.ref 105), some (.int (nI s)), some (.int 16), some (.int n), none] [] [s0, s1, s2, s3, s4, s5, s6, s7, s8, s9, jb_mdl I J d e kp nm W, s11] _
  refine jb_iload_n (pc' := 1) dX12_sheet_0 rfl rfl ?_
  refine jb_callS (pc' := 4) (As := [.int (nI s)]) (a2 := 0) (b2 := 0) wv_X12_223 dX12_sheet_1 (c_isSheetG _ s (by omega)) rfl ⟨by decide, Nat.le_of_eq (Nat.zero_add _), Nat.le_of_eq (Nat.zero_add _)⟩ (Nat.le_of_ble_eq_true rfl) rfl (fun r h9 hq => ?_)
  obtain ⟨rfl, rfl⟩ := hq
  show jb_J _ RX12 cX12_sheet 5 (Option.some .int) false 2 0 0 4 [some (.ref 105), some (.int (nI s)), some (.int 16), some (.int n), none] [.int 1] [s0, s1, s2, s3, s4, s5, s6, s7, s8, s9, jb_mdl I J d e kp nm W, s11] _
  refine jb_if_eq (tgt := 29) (pc' := 7) dX12_sheet_4 (by decide) rfl (fun z => absurd z (by decide)) (fun _ => ?_)
  refine jb_iload_n (pc' := 8) dX12_sheet_7 rfl rfl ?_
  refine jb_if_eq (tgt := 35) (pc' := 11) dX12_sheet_8 (by decide) rfl (fun z => absurd z (by decide)) (fun _ => ?_)
  refine jb_iload_n (pc' := 12) dX12_sheet_11 rfl rfl ?_
  refine jb_bipush (pc' := 14) 8 dX12_sheet_12 (by decide) rfl ?_
  refine jb_icmp_eq (tgt := 35) (pc' := 17) dX12_sheet_14 (by decide) rfl (fun z => absurd z (by decide)) (fun _ => ?_)
  refine jb_iload_n (pc' := 18) dX12_sheet_17 rfl rfl ?_
  refine jb_bipush (pc' := 20) 16 dX12_sheet_18 (by decide) rfl ?_
  refine jb_icmp_eq (tgt := 35) (pc' := 23) dX12_sheet_20 (by decide) rfl (fun _ => ?_) (fun z => absurd (by decide) z)
  refine jb_iload_n (pc' := 36) dX12_sheet_35 rfl rfl ?_
  refine jb_if_eq (tgt := 49) (pc' := 39) dX12_sheet_36 (by decide) rfl (fun z => absurd z (by decide)) (fun _ => ?_)
  refine jb_iload_n (pc' := 40) dX12_sheet_39 rfl rfl ?_
  refine jb_if_ge (tgt := 49) (pc' := 43) dX12_sheet_40 (by decide) rfl (fun z => absurd z (Int32.not_le.mpr hn)) (fun _ => ?_)
  refine jb_aload_n (pc' := 44) dX12_sheet_43 rfl rfl ?_
  refine jb_iconst (pc' := 45) 3 dX12_sheet_44 (by decide) rfl ?_
  refine jb_callV (pc' := 48) (ci := 12) (q := 105) (As := [.int 3]) (a2 := 0) (b2 := 0) wv_X12_121 rfl dX12_sheet_45 (c_finds I J d e kp nm W 3 (by decide)) rfl rfl ⟨by decide, Nat.le_of_eq (Nat.zero_add _), Nat.le_of_eq (Nat.zero_add _)⟩ (Nat.le_of_ble_eq_true rfl) rfl (fun r h9 hq => ?_)
  obtain ⟨rfl, rfl⟩ := hq
  show jb_J _ RX12 cX12_sheet 5 (Option.some .int) false 2 0 0 48 [some (.ref 105), some (.int (nI s)), some (.int 16), some (.int n), none] [.int (jm_er 3)] [s0, s1, s2, s3, s4, s5, s6, s7, s8, s9, jb_mdl I J d e kp nm (va_up W 0 (jm_ef (W 0) 3)), s11] _
  refine jb_iret dX12_sheet_48 rfl ?_
  exact ⟨rfl, rfl⟩
set_option maxRecDepth 100000 in
set_option maxHeartbeats 4000000 in
theorem me_sheetB16 {sc : Nat × (Nat → Int32)} {s0 s1 s2 s3 s4 s5 s6 s7 s8 s9 s11 : List va_E} (I J d e kp nm : Nat → Int32) (W : Nat → Nat → Int32) (s : Nat) (hs : s < 4) (n : Int32) (hn : ¬ n < 0) (hn2 : 40 < n) : jb_C sc yX12_sheet cX12_sheet 5 (Option.some .int) 2 0 0 [.ref 105, .int (nI s), .int 16, .int n] [s0, s1, s2, s3, s4, s5, s6, s7, s8, s9, jb_mdl I J d e kp nm W, s11] (fun r h9 => r = some (.int (jm_er 1)) ∧ h9 = [s0, s1, s2, s3, s4, s5, s6, s7, s8, s9, jb_mdl I J d e kp nm (va_up W 0 (jm_ef (W 0) 1)), s11]) := by
  refine jb_CofJ (ini := false) (by decide +kernel) (fun h => by cases h) (Nat.le_of_ble_eq_true rfl) ?_
  show jb_J sc RX12 cX12_sheet 5 (Option.some .int) false 2 0 0 0 [some (.ref 105), some (.int (nI s)), some (.int 16), some (.int n), none] [] [s0, s1, s2, s3, s4, s5, s6, s7, s8, s9, jb_mdl I J d e kp nm W, s11] _
  refine jb_iload_n (pc' := 1) dX12_sheet_0 rfl rfl ?_
  refine jb_callS (pc' := 4) (As := [.int (nI s)]) (a2 := 0) (b2 := 0) wv_X12_223 dX12_sheet_1 (c_isSheetG _ s (by omega)) rfl ⟨by decide, Nat.le_of_eq (Nat.zero_add _), Nat.le_of_eq (Nat.zero_add _)⟩ (Nat.le_of_ble_eq_true rfl) rfl (fun r h9 hq => ?_)
  obtain ⟨rfl, rfl⟩ := hq
  show jb_J _ RX12 cX12_sheet 5 (Option.some .int) false 2 0 0 4 [some (.ref 105), some (.int (nI s)), some (.int 16), some (.int n), none] [.int 1] [s0, s1, s2, s3, s4, s5, s6, s7, s8, s9, jb_mdl I J d e kp nm W, s11] _
  refine jb_if_eq (tgt := 29) (pc' := 7) dX12_sheet_4 (by decide) rfl (fun z => absurd z (by decide)) (fun _ => ?_)
  refine jb_iload_n (pc' := 8) dX12_sheet_7 rfl rfl ?_
  refine jb_if_eq (tgt := 35) (pc' := 11) dX12_sheet_8 (by decide) rfl (fun z => absurd z (by decide)) (fun _ => ?_)
  refine jb_iload_n (pc' := 12) dX12_sheet_11 rfl rfl ?_
  refine jb_bipush (pc' := 14) 8 dX12_sheet_12 (by decide) rfl ?_
  refine jb_icmp_eq (tgt := 35) (pc' := 17) dX12_sheet_14 (by decide) rfl (fun z => absurd z (by decide)) (fun _ => ?_)
  refine jb_iload_n (pc' := 18) dX12_sheet_17 rfl rfl ?_
  refine jb_bipush (pc' := 20) 16 dX12_sheet_18 (by decide) rfl ?_
  refine jb_icmp_eq (tgt := 35) (pc' := 23) dX12_sheet_20 (by decide) rfl (fun _ => ?_) (fun z => absurd (by decide) z)
  refine jb_iload_n (pc' := 36) dX12_sheet_35 rfl rfl ?_
  refine jb_if_eq (tgt := 49) (pc' := 39) dX12_sheet_36 (by decide) rfl (fun z => absurd z (by decide)) (fun _ => ?_)
  refine jb_iload_n (pc' := 40) dX12_sheet_39 rfl rfl ?_
  refine jb_if_ge (tgt := 49) (pc' := 43) dX12_sheet_40 (by decide) rfl (fun _ => ?_) (fun z => absurd (Int32.not_lt.mp hn) z)
  refine jb_iload_n (pc' := 50) dX12_sheet_49 rfl rfl ?_
  refine jb_if_eq (tgt := 65) (pc' := 53) dX12_sheet_50 (by decide) rfl (fun z => absurd z (by decide)) (fun _ => ?_)
  refine jb_iload_n (pc' := 54) dX12_sheet_53 rfl rfl ?_
  refine jb_bipush (pc' := 56) 40 dX12_sheet_54 (by decide) rfl ?_
  refine jb_icmp_le (tgt := 65) (pc' := 59) dX12_sheet_56 (by decide) rfl (fun z => absurd z (Int32.not_le.mpr hn2)) (fun _ => ?_)
  refine jb_aload_n (pc' := 60) dX12_sheet_59 rfl rfl ?_
  refine jb_iconst (pc' := 61) 1 dX12_sheet_60 (by decide) rfl ?_
  refine jb_callV (pc' := 64) (ci := 12) (q := 105) (As := [.int 1]) (a2 := 0) (b2 := 0) wv_X12_121 rfl dX12_sheet_61 (c_finds I J d e kp nm W 1 (by decide)) rfl rfl ⟨by decide, Nat.le_of_eq (Nat.zero_add _), Nat.le_of_eq (Nat.zero_add _)⟩ (Nat.le_of_ble_eq_true rfl) rfl (fun r h9 hq => ?_)
  obtain ⟨rfl, rfl⟩ := hq
  show jb_J _ RX12 cX12_sheet 5 (Option.some .int) false 2 0 0 64 [some (.ref 105), some (.int (nI s)), some (.int 16), some (.int n), none] [.int (jm_er 1)] [s0, s1, s2, s3, s4, s5, s6, s7, s8, s9, jb_mdl I J d e kp nm (va_up W 0 (jm_ef (W 0) 1)), s11] _
  refine jb_iret dX12_sheet_64 rfl ?_
  exact ⟨rfl, rfl⟩
set_option maxRecDepth 100000 in
set_option maxHeartbeats 4000000 in
theorem me_sheetS32 {sc : Nat × (Nat → Int32)} {s0 s1 s2 s3 s4 s5 s6 s7 s8 s9 s11 : List va_E} (I J d e kp nm : Nat → Int32) (W : Nat → Nat → Int32) (s : Nat) (hs : s < 4) (n : Int32) (hn : n < 0) : jb_C sc yX12_sheet cX12_sheet 5 (Option.some .int) 2 0 0 [.ref 105, .int (nI s), .int 32, .int n] [s0, s1, s2, s3, s4, s5, s6, s7, s8, s9, jb_mdl I J d e kp nm W, s11] (fun r h9 => r = some (.int (jm_er 3)) ∧ h9 = [s0, s1, s2, s3, s4, s5, s6, s7, s8, s9, jb_mdl I J d e kp nm (va_up W 0 (jm_ef (W 0) 3)), s11]) := by
  refine jb_CofJ (ini := false) (by decide +kernel) (fun h => by cases h) (Nat.le_of_ble_eq_true rfl) ?_
  show jb_J sc RX12 cX12_sheet 5 (Option.some .int) false 2 0 0 0 [some (.ref 105), some (.int (nI s)), some (.int 32), some (.int n), none] [] [s0, s1, s2, s3, s4, s5, s6, s7, s8, s9, jb_mdl I J d e kp nm W, s11] _
  refine jb_iload_n (pc' := 1) dX12_sheet_0 rfl rfl ?_
  refine jb_callS (pc' := 4) (As := [.int (nI s)]) (a2 := 0) (b2 := 0) wv_X12_223 dX12_sheet_1 (c_isSheetG _ s (by omega)) rfl ⟨by decide, Nat.le_of_eq (Nat.zero_add _), Nat.le_of_eq (Nat.zero_add _)⟩ (Nat.le_of_ble_eq_true rfl) rfl (fun r h9 hq => ?_)
  obtain ⟨rfl, rfl⟩ := hq
  show jb_J _ RX12 cX12_sheet 5 (Option.some .int) false 2 0 0 4 [some (.ref 105), some (.int (nI s)), some (.int 32), some (.int n), none] [.int 1] [s0, s1, s2, s3, s4, s5, s6, s7, s8, s9, jb_mdl I J d e kp nm W, s11] _
  refine jb_if_eq (tgt := 29) (pc' := 7) dX12_sheet_4 (by decide) rfl (fun z => absurd z (by decide)) (fun _ => ?_)
  refine jb_iload_n (pc' := 8) dX12_sheet_7 rfl rfl ?_
  refine jb_if_eq (tgt := 35) (pc' := 11) dX12_sheet_8 (by decide) rfl (fun z => absurd z (by decide)) (fun _ => ?_)
  refine jb_iload_n (pc' := 12) dX12_sheet_11 rfl rfl ?_
  refine jb_bipush (pc' := 14) 8 dX12_sheet_12 (by decide) rfl ?_
  refine jb_icmp_eq (tgt := 35) (pc' := 17) dX12_sheet_14 (by decide) rfl (fun z => absurd z (by decide)) (fun _ => ?_)
  refine jb_iload_n (pc' := 18) dX12_sheet_17 rfl rfl ?_
  refine jb_bipush (pc' := 20) 16 dX12_sheet_18 (by decide) rfl ?_
  refine jb_icmp_eq (tgt := 35) (pc' := 23) dX12_sheet_20 (by decide) rfl (fun z => absurd z (by decide)) (fun _ => ?_)
  refine jb_iload_n (pc' := 24) dX12_sheet_23 rfl rfl ?_
  refine jb_bipush (pc' := 26) 32 dX12_sheet_24 (by decide) rfl ?_
  refine jb_icmp_eq (tgt := 35) (pc' := 29) dX12_sheet_26 (by decide) rfl (fun _ => ?_) (fun z => absurd (by decide) z)
  refine jb_iload_n (pc' := 36) dX12_sheet_35 rfl rfl ?_
  refine jb_if_eq (tgt := 49) (pc' := 39) dX12_sheet_36 (by decide) rfl (fun z => absurd z (by decide)) (fun _ => ?_)
  refine jb_iload_n (pc' := 40) dX12_sheet_39 rfl rfl ?_
  refine jb_if_ge (tgt := 49) (pc' := 43) dX12_sheet_40 (by decide) rfl (fun z => absurd z (Int32.not_le.mpr hn)) (fun _ => ?_)
  refine jb_aload_n (pc' := 44) dX12_sheet_43 rfl rfl ?_
  refine jb_iconst (pc' := 45) 3 dX12_sheet_44 (by decide) rfl ?_
  refine jb_callV (pc' := 48) (ci := 12) (q := 105) (As := [.int 3]) (a2 := 0) (b2 := 0) wv_X12_121 rfl dX12_sheet_45 (c_finds I J d e kp nm W 3 (by decide)) rfl rfl ⟨by decide, Nat.le_of_eq (Nat.zero_add _), Nat.le_of_eq (Nat.zero_add _)⟩ (Nat.le_of_ble_eq_true rfl) rfl (fun r h9 hq => ?_)
  obtain ⟨rfl, rfl⟩ := hq
  show jb_J _ RX12 cX12_sheet 5 (Option.some .int) false 2 0 0 48 [some (.ref 105), some (.int (nI s)), some (.int 32), some (.int n), none] [.int (jm_er 3)] [s0, s1, s2, s3, s4, s5, s6, s7, s8, s9, jb_mdl I J d e kp nm (va_up W 0 (jm_ef (W 0) 3)), s11] _
  refine jb_iret dX12_sheet_48 rfl ?_
  exact ⟨rfl, rfl⟩
set_option maxRecDepth 100000 in
set_option maxHeartbeats 4000000 in
theorem me_sheetB32 {sc : Nat × (Nat → Int32)} {s0 s1 s2 s3 s4 s5 s6 s7 s8 s9 s11 : List va_E} (I J d e kp nm : Nat → Int32) (W : Nat → Nat → Int32) (s : Nat) (hs : s < 4) (n : Int32) (hn : ¬ n < 0) (hn2 : 40 < n) : jb_C sc yX12_sheet cX12_sheet 5 (Option.some .int) 2 0 0 [.ref 105, .int (nI s), .int 32, .int n] [s0, s1, s2, s3, s4, s5, s6, s7, s8, s9, jb_mdl I J d e kp nm W, s11] (fun r h9 => r = some (.int (jm_er 1)) ∧ h9 = [s0, s1, s2, s3, s4, s5, s6, s7, s8, s9, jb_mdl I J d e kp nm (va_up W 0 (jm_ef (W 0) 1)), s11]) := by
  refine jb_CofJ (ini := false) (by decide +kernel) (fun h => by cases h) (Nat.le_of_ble_eq_true rfl) ?_
  show jb_J sc RX12 cX12_sheet 5 (Option.some .int) false 2 0 0 0 [some (.ref 105), some (.int (nI s)), some (.int 32), some (.int n), none] [] [s0, s1, s2, s3, s4, s5, s6, s7, s8, s9, jb_mdl I J d e kp nm W, s11] _
  refine jb_iload_n (pc' := 1) dX12_sheet_0 rfl rfl ?_
  refine jb_callS (pc' := 4) (As := [.int (nI s)]) (a2 := 0) (b2 := 0) wv_X12_223 dX12_sheet_1 (c_isSheetG _ s (by omega)) rfl ⟨by decide, Nat.le_of_eq (Nat.zero_add _), Nat.le_of_eq (Nat.zero_add _)⟩ (Nat.le_of_ble_eq_true rfl) rfl (fun r h9 hq => ?_)
  obtain ⟨rfl, rfl⟩ := hq
  show jb_J _ RX12 cX12_sheet 5 (Option.some .int) false 2 0 0 4 [some (.ref 105), some (.int (nI s)), some (.int 32), some (.int n), none] [.int 1] [s0, s1, s2, s3, s4, s5, s6, s7, s8, s9, jb_mdl I J d e kp nm W, s11] _
  refine jb_if_eq (tgt := 29) (pc' := 7) dX12_sheet_4 (by decide) rfl (fun z => absurd z (by decide)) (fun _ => ?_)
  refine jb_iload_n (pc' := 8) dX12_sheet_7 rfl rfl ?_
  refine jb_if_eq (tgt := 35) (pc' := 11) dX12_sheet_8 (by decide) rfl (fun z => absurd z (by decide)) (fun _ => ?_)
  refine jb_iload_n (pc' := 12) dX12_sheet_11 rfl rfl ?_
  refine jb_bipush (pc' := 14) 8 dX12_sheet_12 (by decide) rfl ?_
  refine jb_icmp_eq (tgt := 35) (pc' := 17) dX12_sheet_14 (by decide) rfl (fun z => absurd z (by decide)) (fun _ => ?_)
  refine jb_iload_n (pc' := 18) dX12_sheet_17 rfl rfl ?_
  refine jb_bipush (pc' := 20) 16 dX12_sheet_18 (by decide) rfl ?_
  refine jb_icmp_eq (tgt := 35) (pc' := 23) dX12_sheet_20 (by decide) rfl (fun z => absurd z (by decide)) (fun _ => ?_)
  refine jb_iload_n (pc' := 24) dX12_sheet_23 rfl rfl ?_
  refine jb_bipush (pc' := 26) 32 dX12_sheet_24 (by decide) rfl ?_
  refine jb_icmp_eq (tgt := 35) (pc' := 29) dX12_sheet_26 (by decide) rfl (fun _ => ?_) (fun z => absurd (by decide) z)
  refine jb_iload_n (pc' := 36) dX12_sheet_35 rfl rfl ?_
  refine jb_if_eq (tgt := 49) (pc' := 39) dX12_sheet_36 (by decide) rfl (fun z => absurd z (by decide)) (fun _ => ?_)
  refine jb_iload_n (pc' := 40) dX12_sheet_39 rfl rfl ?_
  refine jb_if_ge (tgt := 49) (pc' := 43) dX12_sheet_40 (by decide) rfl (fun _ => ?_) (fun z => absurd (Int32.not_lt.mp hn) z)
  refine jb_iload_n (pc' := 50) dX12_sheet_49 rfl rfl ?_
  refine jb_if_eq (tgt := 65) (pc' := 53) dX12_sheet_50 (by decide) rfl (fun z => absurd z (by decide)) (fun _ => ?_)
  refine jb_iload_n (pc' := 54) dX12_sheet_53 rfl rfl ?_
  refine jb_bipush (pc' := 56) 40 dX12_sheet_54 (by decide) rfl ?_
  refine jb_icmp_le (tgt := 65) (pc' := 59) dX12_sheet_56 (by decide) rfl (fun z => absurd z (Int32.not_le.mpr hn2)) (fun _ => ?_)
  refine jb_aload_n (pc' := 60) dX12_sheet_59 rfl rfl ?_
  refine jb_iconst (pc' := 61) 1 dX12_sheet_60 (by decide) rfl ?_
  refine jb_callV (pc' := 64) (ci := 12) (q := 105) (As := [.int 1]) (a2 := 0) (b2 := 0) wv_X12_121 rfl dX12_sheet_61 (c_finds I J d e kp nm W 1 (by decide)) rfl rfl ⟨by decide, Nat.le_of_eq (Nat.zero_add _), Nat.le_of_eq (Nat.zero_add _)⟩ (Nat.le_of_ble_eq_true rfl) rfl (fun r h9 hq => ?_)
  obtain ⟨rfl, rfl⟩ := hq
  show jb_J _ RX12 cX12_sheet 5 (Option.some .int) false 2 0 0 64 [some (.ref 105), some (.int (nI s)), some (.int 32), some (.int n), none] [.int (jm_er 1)] [s0, s1, s2, s3, s4, s5, s6, s7, s8, s9, jb_mdl I J d e kp nm (va_up W 0 (jm_ef (W 0) 1)), s11] _
  refine jb_iret dX12_sheet_64 rfl ?_
  exact ⟨rfl, rfl⟩
set_option maxRecDepth 100000 in
set_option maxHeartbeats 4000000 in
theorem mx_put {sc : Nat × (Nat → Int32)} {s0 s1 s2 s3 s4 s5 s6 s7 s8 s9 s11 : List va_E} (I J d e kp nm : Nat → Int32) (W : Nat → Nat → Int32) (s : Nat) (hs : s < 4) {bs zs : Nat} (h1s : W 1 s = nI bs) (h2s : W 2 s = nI zs) (hbs : bs ≤ 32) (hzs : zs ≤ 40) (hm : ¬ bs = 0) (j : Nat) (hj : j < zs) (v : Int32) : jb_C sc yX12_put cX12_put 4 (Option.some .int) 2 0 0 [.ref 105, .int (nI s), .int (nI j), .int v] [s0, s1, s2, s3, s4, s5, s6, s7, s8, s9, jb_mdl I J d e kp nm W, s11] (fun r h9 => r = some (.int 1) ∧ h9 = [s0, s1, s2, s3, s4, s5, s6, s7, s8, s9, jb_mdl I J d e kp nm (va_up W 3 (upd (W 3) (40 * s + j) (jm_wr bs v))), s11]) := by
  refine jb_CofJ (ini := false) (by decide +kernel) (fun h => by cases h) (Nat.le_of_ble_eq_true rfl) ?_
  show jb_J sc RX12 cX12_put 4 (Option.some .int) false 2 0 0 0 [some (.ref 105), some (.int (nI s)), some (.int (nI j)), some (.int v)] [] [s0, s1, s2, s3, s4, s5, s6, s7, s8, s9, jb_mdl I J d e kp nm W, s11] _
  refine jb_iload_n (pc' := 1) dX12_put_0 rfl rfl ?_
  refine jb_callS (pc' := 4) (As := [.int (nI s)]) (a2 := 0) (b2 := 0) wv_X12_223 dX12_put_1 (c_isSheetG _ s (by omega)) rfl ⟨by decide, Nat.le_of_eq (Nat.zero_add _), Nat.le_of_eq (Nat.zero_add _)⟩ (Nat.le_of_ble_eq_true rfl) rfl (fun r h9 hq => ?_)
  obtain ⟨rfl, rfl⟩ := hq
  show jb_J _ RX12 cX12_put 4 (Option.some .int) false 2 0 0 4 [some (.ref 105), some (.int (nI s)), some (.int (nI j)), some (.int v)] [.int 1] [s0, s1, s2, s3, s4, s5, s6, s7, s8, s9, jb_mdl I J d e kp nm W, s11] _
  refine jb_if_ne (tgt := 13) (pc' := 7) dX12_put_4 (by decide) rfl (fun _ => ?_) (fun z => absurd z (by decide))
  refine jb_aload_n (pc' := 14) dX12_put_13 rfl rfl ?_
  refine gf_X12_25 (pc' := 17) (v := .ref 111) dX12_put_14 rfl rfl rfl ?_
  refine jb_iload_n (pc' := 18) dX12_put_17 rfl rfl ?_
  refine jb_iaload (pc' := 19) (i9 := s) (f := (W 1)) dX12_put_18 rfl (jb_ix_nI (by omega)) (by omega) rfl ?_
  refine jb_top (v := .int ((W 1) s)) (w := .int (nI bs)) (jb_vI h1s) ?_
  refine jb_if_ne (tgt := 28) (pc' := 22) dX12_put_19 (by decide) rfl (fun _ => ?_) (fun z => absurd z (nI_ne0 (n := bs) (by omega) (by omega)))
  refine jb_iload_n (pc' := 29) dX12_put_28 rfl rfl ?_
  refine jb_i2l (pc' := 30) dX12_put_29 rfl ?_
  refine jb_lconst (pc' := 31) 0 dX12_put_30 (by decide) rfl ?_
  refine jb_aload_n (pc' := 32) dX12_put_31 rfl rfl ?_
  refine gf_X12_28 (pc' := 35) (v := .ref 112) dX12_put_32 rfl rfl rfl ?_
  refine jb_iload_n (pc' := 36) dX12_put_35 rfl rfl ?_
  refine jb_iaload (pc' := 37) (i9 := s) (f := (W 2)) dX12_put_36 rfl (jb_ix_nI (by omega)) (by omega) rfl ?_
  refine jb_top (v := .int ((W 2) s)) (w := .int (nI zs)) (jb_vI h2s) ?_
  refine jb_iconst (pc' := 38) 1 dX12_put_37 (by decide) rfl ?_
  refine jb_isub (pc' := 39) dX12_put_38 rfl ?_
  refine jb_i2l (pc' := 40) dX12_put_39 rfl ?_
  refine jb_callS (pc' := 43) (As := [.long ((nI j).toInt64), .long 0, .long (((nI zs) - 1).toInt64)]) (a2 := 0) (b2 := 0) wv_X12_56 dX12_put_40 (c_inNG _ j zs (by omega) (by omega)) rfl ⟨by decide, Nat.le_of_eq (Nat.zero_add _), Nat.le_of_eq (Nat.zero_add _)⟩ (Nat.le_of_ble_eq_true rfl) rfl (fun r h9 hq => ?_)
  obtain ⟨rfl, rfl⟩ := hq
  show jb_J _ RX12 cX12_put 4 (Option.some .int) false 2 0 0 43 [some (.ref 105), some (.int (nI s)), some (.int (nI j)), some (.int v)] [.int 1] [s0, s1, s2, s3, s4, s5, s6, s7, s8, s9, jb_mdl I J d e kp nm W, s11] _
  refine jb_if_ne (tgt := 52) (pc' := 46) dX12_put_43 (by decide) rfl (fun _ => ?_) (fun z => absurd z (by decide))
  refine jb_aload_n (pc' := 53) dX12_put_52 rfl rfl ?_
  refine gf_X12_31 (pc' := 56) (v := .ref 113) dX12_put_53 rfl rfl rfl ?_
  refine jb_bipush (pc' := 58) 40 dX12_put_56 (by decide) rfl ?_
  refine jb_iload_n (pc' := 59) dX12_put_58 rfl rfl ?_
  refine jb_imul (pc' := 60) dX12_put_59 rfl ?_
  refine jb_top (v := .int (40 * (nI s))) (w := .int (nI (40 * s))) (jb_vI (pk_mul 40 _)) ?_
  refine jb_iload_n (pc' := 61) dX12_put_60 rfl rfl ?_
  refine jb_iadd (pc' := 62) dX12_put_61 rfl ?_
  refine jb_top (v := .int ((nI (40 * s)) + (nI j))) (w := .int (nI (40 * s + j))) (jb_vI (nI_add _ _)) ?_
  refine jb_aload_n (pc' := 63) dX12_put_62 rfl rfl ?_
  refine gf_X12_25 (pc' := 66) (v := .ref 111) dX12_put_63 rfl rfl rfl ?_
  refine jb_iload_n (pc' := 67) dX12_put_66 rfl rfl ?_
  refine jb_iaload (pc' := 68) (i9 := s) (f := (W 1)) dX12_put_67 rfl (jb_ix_nI (by omega)) (by omega) rfl ?_
  refine jb_top (v := .int ((W 1) s)) (w := .int (nI bs)) (jb_vI h1s) ?_
  refine jb_bipush (pc' := 70) 8 dX12_put_68 (by decide) rfl ?_
  refine jb_icmp_ne (tgt := 78) (pc' := 73) dX12_put_70 (by decide) rfl (fun c8 => ?_) (fun c8 => ?_)
  · have c8 : ¬ bs = 8 := fun z9 => c8 ((nI_eq (a := bs) (b := 8) (by omega) (by omega)).mpr z9)
    refine jb_aload_n (pc' := 79) dX12_put_78 rfl rfl ?_
    refine gf_X12_25 (pc' := 82) (v := .ref 111) dX12_put_79 rfl rfl rfl ?_
    refine jb_iload_n (pc' := 83) dX12_put_82 rfl rfl ?_
    refine jb_iaload (pc' := 84) (i9 := s) (f := (W 1)) dX12_put_83 rfl (jb_ix_nI (by omega)) (by omega) rfl ?_
    refine jb_top (v := .int ((W 1) s)) (w := .int (nI bs)) (jb_vI h1s) ?_
    refine jb_bipush (pc' := 86) 16 dX12_put_84 (by decide) rfl ?_
    refine jb_icmp_ne (tgt := 94) (pc' := 89) dX12_put_86 (by decide) rfl (fun c9 => ?_) (fun c9 => ?_)
    · have c9 : ¬ bs = 16 := fun z9 => c9 ((nI_eq (a := bs) (b := 16) (by omega) (by omega)).mpr z9)
      refine jb_iload_n (pc' := 95) dX12_put_94 rfl rfl ?_
      refine jb_iastore (pc' := 96) (i9 := (40 * s + j)) (f := (W 3)) (h' := [s0, s1, s2, s3, s4, s5, s6, s7, s8, s9, jb_mdl I J d e kp nm (va_up W 3 (upd (W 3) (40 * s + j) v)), s11]) dX12_put_95 rfl (jb_ix_nI (by omega)) (by omega) rfl rfl ?_
      refine jb_iconst (pc' := 97) 1 dX12_put_96 (by decide) rfl ?_
      refine jb_iret dX12_put_97 rfl ?_
      refine ⟨rfl, ?_⟩
      first | rw [show jm_wr bs v = v.toInt8.toInt32 from if_pos (by omega)] | rw [show jm_wr bs v = v.toInt16.toInt32 from (if_neg (by omega)).trans (if_pos (by omega))] | rw [show jm_wr bs v = v from (if_neg (by omega)).trans (if_neg (by omega))]
    · have c9 : bs = 16 := (nI_eq (a := bs) (b := 16) (by omega) (by omega)).mp c9
      refine jb_iload_n (pc' := 90) dX12_put_89 rfl rfl ?_
      refine jb_i2s (pc' := 91) dX12_put_90 rfl ?_
      refine jb_goto (pc' := 95) dX12_put_91 (by decide) ?_
      refine jb_iastore (pc' := 96) (i9 := (40 * s + j)) (f := (W 3)) (h' := [s0, s1, s2, s3, s4, s5, s6, s7, s8, s9, jb_mdl I J d e kp nm (va_up W 3 (upd (W 3) (40 * s + j) v.toInt16.toInt32)), s11]) dX12_put_95 rfl (jb_ix_nI (by omega)) (by omega) rfl rfl ?_
      refine jb_iconst (pc' := 97) 1 dX12_put_96 (by decide) rfl ?_
      refine jb_iret dX12_put_97 rfl ?_
      refine ⟨rfl, ?_⟩
      first | rw [show jm_wr bs v = v.toInt8.toInt32 from if_pos (by omega)] | rw [show jm_wr bs v = v.toInt16.toInt32 from (if_neg (by omega)).trans (if_pos (by omega))] | rw [show jm_wr bs v = v from (if_neg (by omega)).trans (if_neg (by omega))]
  · have c8 : bs = 8 := (nI_eq (a := bs) (b := 8) (by omega) (by omega)).mp c8
    refine jb_iload_n (pc' := 74) dX12_put_73 rfl rfl ?_
    refine jb_i2b (pc' := 75) dX12_put_74 rfl ?_
    refine jb_goto (pc' := 95) dX12_put_75 (by decide) ?_
    refine jb_iastore (pc' := 96) (i9 := (40 * s + j)) (f := (W 3)) (h' := [s0, s1, s2, s3, s4, s5, s6, s7, s8, s9, jb_mdl I J d e kp nm (va_up W 3 (upd (W 3) (40 * s + j) v.toInt8.toInt32)), s11]) dX12_put_95 rfl (jb_ix_nI (by omega)) (by omega) rfl rfl ?_
    refine jb_iconst (pc' := 97) 1 dX12_put_96 (by decide) rfl ?_
    refine jb_iret dX12_put_97 rfl ?_
    refine ⟨rfl, ?_⟩
    first | rw [show jm_wr bs v = v.toInt8.toInt32 from if_pos (by omega)] | rw [show jm_wr bs v = v.toInt16.toInt32 from (if_neg (by omega)).trans (if_pos (by omega))] | rw [show jm_wr bs v = v from (if_neg (by omega)).trans (if_neg (by omega))]
set_option maxRecDepth 100000 in
set_option maxHeartbeats 4000000 in
theorem me_put {sc : Nat × (Nat → Int32)} {s0 s1 s2 s3 s4 s5 s6 s7 s8 s9 s11 : List va_E} (I J d e kp nm : Nat → Int32) (W : Nat → Nat → Int32) (s i v : Int32) (hb : ¬ jn_b s 0 4) : jb_C sc yX12_put cX12_put 4 (Option.some .int) 2 0 0 [.ref 105, .int s, .int i, .int v] [s0, s1, s2, s3, s4, s5, s6, s7, s8, s9, jb_mdl I J d e kp nm W, s11] (fun r h9 => r = some (.int (jm_er 1)) ∧ h9 = [s0, s1, s2, s3, s4, s5, s6, s7, s8, s9, jb_mdl I J d e kp nm (va_up W 0 (jm_ef (W 0) 1)), s11]) := by
  refine jb_CofJ (ini := false) (by decide +kernel) (fun h => by cases h) (Nat.le_of_ble_eq_true rfl) ?_
  show jb_J sc RX12 cX12_put 4 (Option.some .int) false 2 0 0 0 [some (.ref 105), some (.int s), some (.int i), some (.int v)] [] [s0, s1, s2, s3, s4, s5, s6, s7, s8, s9, jb_mdl I J d e kp nm W, s11] _
  refine jb_iload_n (pc' := 1) dX12_put_0 rfl rfl ?_
  refine jb_callS (pc' := 4) (As := [.int s]) (a2 := 0) (b2 := 0) wv_X12_223 dX12_put_1 (c_isSheet _ s) rfl ⟨by decide, Nat.le_of_eq (Nat.zero_add _), Nat.le_of_eq (Nat.zero_add _)⟩ (Nat.le_of_ble_eq_true rfl) rfl (fun r h9 hq => ?_)
  rcases hq with ⟨rfl, ⟨o1, rfl⟩ | ⟨o1, rfl⟩⟩
  · show jb_J _ RX12 cX12_put 4 (Option.some .int) false 2 0 0 4 [some (.ref 105), some (.int s), some (.int i), some (.int v)] [.int 1] [s0, s1, s2, s3, s4, s5, s6, s7, s8, s9, jb_mdl I J d e kp nm W, s11] _
    exact absurd (by assumption) hb
  · show jb_J _ RX12 cX12_put 4 (Option.some .int) false 2 0 0 4 [some (.ref 105), some (.int s), some (.int i), some (.int v)] [.int 0] [s0, s1, s2, s3, s4, s5, s6, s7, s8, s9, jb_mdl I J d e kp nm W, s11] _
    refine jb_if_ne (tgt := 13) (pc' := 7) dX12_put_4 (by decide) rfl (fun z => absurd (by decide) z) (fun _ => ?_)
    refine jb_aload_n (pc' := 8) dX12_put_7 rfl rfl ?_
    refine jb_iconst (pc' := 9) 1 dX12_put_8 (by decide) rfl ?_
    refine jb_callV (pc' := 12) (ci := 12) (q := 105) (As := [.int 1]) (a2 := 0) (b2 := 0) wv_X12_121 rfl dX12_put_9 (c_finds I J d e kp nm W 1 (by decide)) rfl rfl ⟨by decide, Nat.le_of_eq (Nat.zero_add _), Nat.le_of_eq (Nat.zero_add _)⟩ (Nat.le_of_ble_eq_true rfl) rfl (fun r h9 hq => ?_)
    obtain ⟨rfl, rfl⟩ := hq
    show jb_J _ RX12 cX12_put 4 (Option.some .int) false 2 0 0 12 [some (.ref 105), some (.int s), some (.int i), some (.int v)] [.int (jm_er 1)] [s0, s1, s2, s3, s4, s5, s6, s7, s8, s9, jb_mdl I J d e kp nm (va_up W 0 (jm_ef (W 0) 1)), s11] _
    refine jb_iret dX12_put_12 rfl ?_
    exact ⟨rfl, rfl⟩
set_option maxRecDepth 100000 in
set_option maxHeartbeats 4000000 in
theorem me_putN {sc : Nat × (Nat → Int32)} {s0 s1 s2 s3 s4 s5 s6 s7 s8 s9 s11 : List va_E} (I J d e kp nm : Nat → Int32) (W : Nat → Nat → Int32) (s : Nat) (hs : s < 4) {bs zs : Nat} (h1s : W 1 s = nI bs) (h2s : W 2 s = nI zs) (hbs : bs ≤ 32) (hzs : zs ≤ 40) (hm : bs = 0) (i v : Int32) : jb_C sc yX12_put cX12_put 4 (Option.some .int) 2 0 0 [.ref 105, .int (nI s), .int i, .int v] [s0, s1, s2, s3, s4, s5, s6, s7, s8, s9, jb_mdl I J d e kp nm W, s11] (fun r h9 => r = some (.int (jm_er 2)) ∧ h9 = [s0, s1, s2, s3, s4, s5, s6, s7, s8, s9, jb_mdl I J d e kp nm (va_up W 0 (jm_ef (W 0) 2)), s11]) := by
  refine jb_CofJ (ini := false) (by decide +kernel) (fun h => by cases h) (Nat.le_of_ble_eq_true rfl) ?_
  show jb_J sc RX12 cX12_put 4 (Option.some .int) false 2 0 0 0 [some (.ref 105), some (.int (nI s)), some (.int i), some (.int v)] [] [s0, s1, s2, s3, s4, s5, s6, s7, s8, s9, jb_mdl I J d e kp nm W, s11] _
  refine jb_iload_n (pc' := 1) dX12_put_0 rfl rfl ?_
  refine jb_callS (pc' := 4) (As := [.int (nI s)]) (a2 := 0) (b2 := 0) wv_X12_223 dX12_put_1 (c_isSheetG _ s (by omega)) rfl ⟨by decide, Nat.le_of_eq (Nat.zero_add _), Nat.le_of_eq (Nat.zero_add _)⟩ (Nat.le_of_ble_eq_true rfl) rfl (fun r h9 hq => ?_)
  obtain ⟨rfl, rfl⟩ := hq
  show jb_J _ RX12 cX12_put 4 (Option.some .int) false 2 0 0 4 [some (.ref 105), some (.int (nI s)), some (.int i), some (.int v)] [.int 1] [s0, s1, s2, s3, s4, s5, s6, s7, s8, s9, jb_mdl I J d e kp nm W, s11] _
  refine jb_if_ne (tgt := 13) (pc' := 7) dX12_put_4 (by decide) rfl (fun _ => ?_) (fun z => absurd z (by decide))
  refine jb_aload_n (pc' := 14) dX12_put_13 rfl rfl ?_
  refine gf_X12_25 (pc' := 17) (v := .ref 111) dX12_put_14 rfl rfl rfl ?_
  refine jb_iload_n (pc' := 18) dX12_put_17 rfl rfl ?_
  refine jb_iaload (pc' := 19) (i9 := s) (f := (W 1)) dX12_put_18 rfl (jb_ix_nI (by omega)) (by omega) rfl ?_
  refine jb_top (v := .int ((W 1) s)) (w := .int (nI bs)) (jb_vI h1s) ?_
  refine jb_if_ne (tgt := 28) (pc' := 22) dX12_put_19 (by decide) rfl (fun z => absurd (congrArg nI hm) z) (fun _ => ?_)
  refine jb_aload_n (pc' := 23) dX12_put_22 rfl rfl ?_
  refine jb_iconst (pc' := 24) 2 dX12_put_23 (by decide) rfl ?_
  refine jb_callV (pc' := 27) (ci := 12) (q := 105) (As := [.int 2]) (a2 := 0) (b2 := 0) wv_X12_121 rfl dX12_put_24 (c_finds I J d e kp nm W 2 (by decide)) rfl rfl ⟨by decide, Nat.le_of_eq (Nat.zero_add _), Nat.le_of_eq (Nat.zero_add _)⟩ (Nat.le_of_ble_eq_true rfl) rfl (fun r h9 hq => ?_)
  obtain ⟨rfl, rfl⟩ := hq
  show jb_J _ RX12 cX12_put 4 (Option.some .int) false 2 0 0 27 [some (.ref 105), some (.int (nI s)), some (.int i), some (.int v)] [.int (jm_er 2)] [s0, s1, s2, s3, s4, s5, s6, s7, s8, s9, jb_mdl I J d e kp nm (va_up W 0 (jm_ef (W 0) 2)), s11] _
  refine jb_iret dX12_put_27 rfl ?_
  exact ⟨rfl, rfl⟩
set_option maxRecDepth 100000 in
set_option maxHeartbeats 4000000 in
theorem me_putB {sc : Nat × (Nat → Int32)} {s0 s1 s2 s3 s4 s5 s6 s7 s8 s9 s11 : List va_E} (I J d e kp nm : Nat → Int32) (W : Nat → Nat → Int32) (s : Nat) (hs : s < 4) {bs zs : Nat} (h1s : W 1 s = nI bs) (h2s : W 2 s = nI zs) (hbs : bs ≤ 32) (hzs : zs ≤ 40) (hm : ¬ bs = 0) (i v : Int32) (hb : ¬ jn_b i 0 zs) : jb_C sc yX12_put cX12_put 4 (Option.some .int) 2 0 0 [.ref 105, .int (nI s), .int i, .int v] [s0, s1, s2, s3, s4, s5, s6, s7, s8, s9, jb_mdl I J d e kp nm W, s11] (fun r h9 => r = some (.int (jm_er 1)) ∧ h9 = [s0, s1, s2, s3, s4, s5, s6, s7, s8, s9, jb_mdl I J d e kp nm (va_up W 0 (jm_ef (W 0) 1)), s11]) := by
  refine jb_CofJ (ini := false) (by decide +kernel) (fun h => by cases h) (Nat.le_of_ble_eq_true rfl) ?_
  show jb_J sc RX12 cX12_put 4 (Option.some .int) false 2 0 0 0 [some (.ref 105), some (.int (nI s)), some (.int i), some (.int v)] [] [s0, s1, s2, s3, s4, s5, s6, s7, s8, s9, jb_mdl I J d e kp nm W, s11] _
  refine jb_iload_n (pc' := 1) dX12_put_0 rfl rfl ?_
  refine jb_callS (pc' := 4) (As := [.int (nI s)]) (a2 := 0) (b2 := 0) wv_X12_223 dX12_put_1 (c_isSheetG _ s (by omega)) rfl ⟨by decide, Nat.le_of_eq (Nat.zero_add _), Nat.le_of_eq (Nat.zero_add _)⟩ (Nat.le_of_ble_eq_true rfl) rfl (fun r h9 hq => ?_)
  obtain ⟨rfl, rfl⟩ := hq
  show jb_J _ RX12 cX12_put 4 (Option.some .int) false 2 0 0 4 [some (.ref 105), some (.int (nI s)), some (.int i), some (.int v)] [.int 1] [s0, s1, s2, s3, s4, s5, s6, s7, s8, s9, jb_mdl I J d e kp nm W, s11] _
  refine jb_if_ne (tgt := 13) (pc' := 7) dX12_put_4 (by decide) rfl (fun _ => ?_) (fun z => absurd z (by decide))
  refine jb_aload_n (pc' := 14) dX12_put_13 rfl rfl ?_
  refine gf_X12_25 (pc' := 17) (v := .ref 111) dX12_put_14 rfl rfl rfl ?_
  refine jb_iload_n (pc' := 18) dX12_put_17 rfl rfl ?_
  refine jb_iaload (pc' := 19) (i9 := s) (f := (W 1)) dX12_put_18 rfl (jb_ix_nI (by omega)) (by omega) rfl ?_
  refine jb_top (v := .int ((W 1) s)) (w := .int (nI bs)) (jb_vI h1s) ?_
  refine jb_if_ne (tgt := 28) (pc' := 22) dX12_put_19 (by decide) rfl (fun _ => ?_) (fun z => absurd z (nI_ne0 (n := bs) (by omega) (by omega)))
  refine jb_iload_n (pc' := 29) dX12_put_28 rfl rfl ?_
  refine jb_i2l (pc' := 30) dX12_put_29 rfl ?_
  refine jb_lconst (pc' := 31) 0 dX12_put_30 (by decide) rfl ?_
  refine jb_aload_n (pc' := 32) dX12_put_31 rfl rfl ?_
  refine gf_X12_28 (pc' := 35) (v := .ref 112) dX12_put_32 rfl rfl rfl ?_
  refine jb_iload_n (pc' := 36) dX12_put_35 rfl rfl ?_
  refine jb_iaload (pc' := 37) (i9 := s) (f := (W 2)) dX12_put_36 rfl (jb_ix_nI (by omega)) (by omega) rfl ?_
  refine jb_top (v := .int ((W 2) s)) (w := .int (nI zs)) (jb_vI h2s) ?_
  refine jb_iconst (pc' := 38) 1 dX12_put_37 (by decide) rfl ?_
  refine jb_isub (pc' := 39) dX12_put_38 rfl ?_
  refine jb_i2l (pc' := 40) dX12_put_39 rfl ?_
  refine jb_callS (pc' := 43) (As := [.long i.toInt64, .long 0, .long (((nI zs) - 1).toInt64)]) (a2 := 0) (b2 := 0) wv_X12_56 dX12_put_40 (c_inN _ i zs (by omega)) rfl ⟨by decide, Nat.le_of_eq (Nat.zero_add _), Nat.le_of_eq (Nat.zero_add _)⟩ (Nat.le_of_ble_eq_true rfl) rfl (fun r h9 hq => ?_)
  rcases hq with ⟨rfl, ⟨o5, rfl⟩ | ⟨o5, rfl⟩⟩
  · show jb_J _ RX12 cX12_put 4 (Option.some .int) false 2 0 0 43 [some (.ref 105), some (.int (nI s)), some (.int i), some (.int v)] [.int 1] [s0, s1, s2, s3, s4, s5, s6, s7, s8, s9, jb_mdl I J d e kp nm W, s11] _
    refine jb_if_ne (tgt := 52) (pc' := 46) dX12_put_43 (by decide) rfl (fun _ => ?_) (fun z => absurd z (by decide))
    refine jb_aload_n (pc' := 53) dX12_put_52 rfl rfl ?_
    refine gf_X12_31 (pc' := 56) (v := .ref 113) dX12_put_53 rfl rfl rfl ?_
    refine jb_bipush (pc' := 58) 40 dX12_put_56 (by decide) rfl ?_
    refine jb_iload_n (pc' := 59) dX12_put_58 rfl rfl ?_
    refine jb_imul (pc' := 60) dX12_put_59 rfl ?_
    refine jb_top (v := .int (40 * (nI s))) (w := .int (nI (40 * s))) (jb_vI (pk_mul 40 _)) ?_
    refine jb_iload_n (pc' := 61) dX12_put_60 rfl rfl ?_
    refine jb_iadd (pc' := 62) dX12_put_61 rfl ?_
    refine jb_aload_n (pc' := 63) dX12_put_62 rfl rfl ?_
    refine gf_X12_25 (pc' := 66) (v := .ref 111) dX12_put_63 rfl rfl rfl ?_
    refine jb_iload_n (pc' := 67) dX12_put_66 rfl rfl ?_
    refine jb_iaload (pc' := 68) (i9 := s) (f := (W 1)) dX12_put_67 rfl (jb_ix_nI (by omega)) (by omega) rfl ?_
    refine jb_top (v := .int ((W 1) s)) (w := .int (nI bs)) (jb_vI h1s) ?_
    refine jb_bipush (pc' := 70) 8 dX12_put_68 (by decide) rfl ?_
    refine jb_icmp_ne (tgt := 78) (pc' := 73) dX12_put_70 (by decide) rfl (fun c8 => ?_) (fun c8 => ?_)
    · have c8 : ¬ bs = 8 := fun z9 => c8 ((nI_eq (a := bs) (b := 8) (by omega) (by omega)).mpr z9)
      refine jb_aload_n (pc' := 79) dX12_put_78 rfl rfl ?_
      refine gf_X12_25 (pc' := 82) (v := .ref 111) dX12_put_79 rfl rfl rfl ?_
      refine jb_iload_n (pc' := 83) dX12_put_82 rfl rfl ?_
      refine jb_iaload (pc' := 84) (i9 := s) (f := (W 1)) dX12_put_83 rfl (jb_ix_nI (by omega)) (by omega) rfl ?_
      refine jb_top (v := .int ((W 1) s)) (w := .int (nI bs)) (jb_vI h1s) ?_
      refine jb_bipush (pc' := 86) 16 dX12_put_84 (by decide) rfl ?_
      refine jb_icmp_ne (tgt := 94) (pc' := 89) dX12_put_86 (by decide) rfl (fun c9 => ?_) (fun c9 => ?_)
      · have c9 : ¬ bs = 16 := fun z9 => c9 ((nI_eq (a := bs) (b := 16) (by omega) (by omega)).mpr z9)
        exact absurd (by assumption) hb
      · have c9 : bs = 16 := (nI_eq (a := bs) (b := 16) (by omega) (by omega)).mp c9
        exact absurd (by assumption) hb
    · have c8 : bs = 8 := (nI_eq (a := bs) (b := 8) (by omega) (by omega)).mp c8
      exact absurd (by assumption) hb
  · show jb_J _ RX12 cX12_put 4 (Option.some .int) false 2 0 0 43 [some (.ref 105), some (.int (nI s)), some (.int i), some (.int v)] [.int 0] [s0, s1, s2, s3, s4, s5, s6, s7, s8, s9, jb_mdl I J d e kp nm W, s11] _
    refine jb_if_ne (tgt := 52) (pc' := 46) dX12_put_43 (by decide) rfl (fun z => absurd (by decide) z) (fun _ => ?_)
    refine jb_aload_n (pc' := 47) dX12_put_46 rfl rfl ?_
    refine jb_iconst (pc' := 48) 1 dX12_put_47 (by decide) rfl ?_
    refine jb_callV (pc' := 51) (ci := 12) (q := 105) (As := [.int 1]) (a2 := 0) (b2 := 0) wv_X12_121 rfl dX12_put_48 (c_finds I J d e kp nm W 1 (by decide)) rfl rfl ⟨by decide, Nat.le_of_eq (Nat.zero_add _), Nat.le_of_eq (Nat.zero_add _)⟩ (Nat.le_of_ble_eq_true rfl) rfl (fun r h9 hq => ?_)
    obtain ⟨rfl, rfl⟩ := hq
    show jb_J _ RX12 cX12_put 4 (Option.some .int) false 2 0 0 51 [some (.ref 105), some (.int (nI s)), some (.int i), some (.int v)] [.int (jm_er 1)] [s0, s1, s2, s3, s4, s5, s6, s7, s8, s9, jb_mdl I J d e kp nm (va_up W 0 (jm_ef (W 0) 1)), s11] _
    refine jb_iret dX12_put_51 rfl ?_
    exact ⟨rfl, rfl⟩
set_option maxRecDepth 100000 in
set_option maxHeartbeats 4000000 in
theorem me_move {sc : Nat × (Nat → Int32)} {s0 s1 s2 s3 s4 s5 s6 s7 s8 s9 s11 : List va_E} (I J d e kp nm : Nat → Int32) (W : Nat → Nat → Int32) (s i u j n : Int32) (hb : ¬ (jn_b s 0 4 ∧ jn_b u 0 4)) : jb_C sc yX12_move cX12_move 7 (Option.some .int) 2 0 0 [.ref 105, .int s, .int i, .int u, .int j, .int n] [s0, s1, s2, s3, s4, s5, s6, s7, s8, s9, jb_mdl I J d e kp nm W, s11] (fun r h9 => r = some (.int (jm_er 1)) ∧ h9 = [s0, s1, s2, s3, s4, s5, s6, s7, s8, s9, jb_mdl I J d e kp nm (va_up W 0 (jm_ef (W 0) 1)), s11]) := by
  refine jb_CofJ (ini := false) (by decide +kernel) (fun h => by cases h) (Nat.le_of_ble_eq_true rfl) ?_
  show jb_J sc RX12 cX12_move 7 (Option.some .int) false 2 0 0 0 [some (.ref 105), some (.int s), some (.int i), some (.int u), some (.int j), some (.int n), none] [] [s0, s1, s2, s3, s4, s5, s6, s7, s8, s9, jb_mdl I J d e kp nm W, s11] _
  refine jb_iload_n (pc' := 1) dX12_move_0 rfl rfl ?_
  refine jb_callS (pc' := 4) (As := [.int s]) (a2 := 0) (b2 := 0) wv_X12_223 dX12_move_1 (c_isSheet _ s) rfl ⟨by decide, Nat.le_of_eq (Nat.zero_add _), Nat.le_of_eq (Nat.zero_add _)⟩ (Nat.le_of_ble_eq_true rfl) rfl (fun r h9 hq => ?_)
  rcases hq with ⟨rfl, ⟨o1, rfl⟩ | ⟨o1, rfl⟩⟩
  · show jb_J _ RX12 cX12_move 7 (Option.some .int) false 2 0 0 4 [some (.ref 105), some (.int s), some (.int i), some (.int u), some (.int j), some (.int n), none] [.int 1] [s0, s1, s2, s3, s4, s5, s6, s7, s8, s9, jb_mdl I J d e kp nm W, s11] _
    refine jb_if_eq (tgt := 14) (pc' := 7) dX12_move_4 (by decide) rfl (fun z => absurd z (by decide)) (fun _ => ?_)
    refine jb_iload_n (pc' := 8) dX12_move_7 rfl rfl ?_
    refine jb_callS (pc' := 11) (As := [.int u]) (a2 := 0) (b2 := 0) wv_X12_223 dX12_move_8 (c_isSheet _ u) rfl ⟨by decide, Nat.le_of_eq (Nat.zero_add _), Nat.le_of_eq (Nat.zero_add _)⟩ (Nat.le_of_ble_eq_true rfl) rfl (fun r h9 hq => ?_)
    rcases hq with ⟨rfl, ⟨o4, rfl⟩ | ⟨o4, rfl⟩⟩
    · show jb_J _ RX12 cX12_move 7 (Option.some .int) false 2 0 0 11 [some (.ref 105), some (.int s), some (.int i), some (.int u), some (.int j), some (.int n), none] [.int 1] [s0, s1, s2, s3, s4, s5, s6, s7, s8, s9, jb_mdl I J d e kp nm W, s11] _
      exact absurd ⟨by assumption, by assumption⟩ hb
    · show jb_J _ RX12 cX12_move 7 (Option.some .int) false 2 0 0 11 [some (.ref 105), some (.int s), some (.int i), some (.int u), some (.int j), some (.int n), none] [.int 0] [s0, s1, s2, s3, s4, s5, s6, s7, s8, s9, jb_mdl I J d e kp nm W, s11] _
      refine jb_if_ne (tgt := 20) (pc' := 14) dX12_move_11 (by decide) rfl (fun z => absurd (by decide) z) (fun _ => ?_)
      refine jb_aload_n (pc' := 15) dX12_move_14 rfl rfl ?_
      refine jb_iconst (pc' := 16) 1 dX12_move_15 (by decide) rfl ?_
      refine jb_callV (pc' := 19) (ci := 12) (q := 105) (As := [.int 1]) (a2 := 0) (b2 := 0) wv_X12_121 rfl dX12_move_16 (c_finds I J d e kp nm W 1 (by decide)) rfl rfl ⟨by decide, Nat.le_of_eq (Nat.zero_add _), Nat.le_of_eq (Nat.zero_add _)⟩ (Nat.le_of_ble_eq_true rfl) rfl (fun r h9 hq => ?_)
      obtain ⟨rfl, rfl⟩ := hq
      show jb_J _ RX12 cX12_move 7 (Option.some .int) false 2 0 0 19 [some (.ref 105), some (.int s), some (.int i), some (.int u), some (.int j), some (.int n), none] [.int (jm_er 1)] [s0, s1, s2, s3, s4, s5, s6, s7, s8, s9, jb_mdl I J d e kp nm (va_up W 0 (jm_ef (W 0) 1)), s11] _
      refine jb_iret dX12_move_19 rfl ?_
      exact ⟨rfl, rfl⟩
  · show jb_J _ RX12 cX12_move 7 (Option.some .int) false 2 0 0 4 [some (.ref 105), some (.int s), some (.int i), some (.int u), some (.int j), some (.int n), none] [.int 0] [s0, s1, s2, s3, s4, s5, s6, s7, s8, s9, jb_mdl I J d e kp nm W, s11] _
    refine jb_if_eq (tgt := 14) (pc' := 7) dX12_move_4 (by decide) rfl (fun _ => ?_) (fun z => absurd (by decide) z)
    refine jb_aload_n (pc' := 15) dX12_move_14 rfl rfl ?_
    refine jb_iconst (pc' := 16) 1 dX12_move_15 (by decide) rfl ?_
    refine jb_callV (pc' := 19) (ci := 12) (q := 105) (As := [.int 1]) (a2 := 0) (b2 := 0) wv_X12_121 rfl dX12_move_16 (c_finds I J d e kp nm W 1 (by decide)) rfl rfl ⟨by decide, Nat.le_of_eq (Nat.zero_add _), Nat.le_of_eq (Nat.zero_add _)⟩ (Nat.le_of_ble_eq_true rfl) rfl (fun r h9 hq => ?_)
    obtain ⟨rfl, rfl⟩ := hq
    show jb_J _ RX12 cX12_move 7 (Option.some .int) false 2 0 0 19 [some (.ref 105), some (.int s), some (.int i), some (.int u), some (.int j), some (.int n), none] [.int (jm_er 1)] [s0, s1, s2, s3, s4, s5, s6, s7, s8, s9, jb_mdl I J d e kp nm (va_up W 0 (jm_ef (W 0) 1)), s11] _
    refine jb_iret dX12_move_19 rfl ?_
    exact ⟨rfl, rfl⟩
set_option maxRecDepth 100000 in
set_option maxHeartbeats 4000000 in
theorem me_moveN1 {sc : Nat × (Nat → Int32)} {s0 s1 s2 s3 s4 s5 s6 s7 s8 s9 s11 : List va_E} (I J d e kp nm : Nat → Int32) (W : Nat → Nat → Int32) (s : Nat) (hs : s < 4) (u : Nat) (hu : u < 4) {bs zs : Nat} (h1s : W 1 s = nI bs) (h2s : W 2 s = nI zs) (hbs : bs ≤ 32) (hzs : zs ≤ 40) {bu zu : Nat} (h1u : W 1 u = nI bu) (h2u : W 2 u = nI zu) (hbu : bu ≤ 32) (hzu : zu ≤ 40) (hm : bs = 0) (i j n : Int32) : jb_C sc yX12_move cX12_move 7 (Option.some .int) 2 0 0 [.ref 105, .int (nI s), .int i, .int (nI u), .int j, .int n] [s0, s1, s2, s3, s4, s5, s6, s7, s8, s9, jb_mdl I J d e kp nm W, s11] (fun r h9 => r = some (.int (jm_er 2)) ∧ h9 = [s0, s1, s2, s3, s4, s5, s6, s7, s8, s9, jb_mdl I J d e kp nm (va_up W 0 (jm_ef (W 0) 2)), s11]) := by
  refine jb_CofJ (ini := false) (by decide +kernel) (fun h => by cases h) (Nat.le_of_ble_eq_true rfl) ?_
  show jb_J sc RX12 cX12_move 7 (Option.some .int) false 2 0 0 0 [some (.ref 105), some (.int (nI s)), some (.int i), some (.int (nI u)), some (.int j), some (.int n), none] [] [s0, s1, s2, s3, s4, s5, s6, s7, s8, s9, jb_mdl I J d e kp nm W, s11] _
  refine jb_iload_n (pc' := 1) dX12_move_0 rfl rfl ?_
  refine jb_callS (pc' := 4) (As := [.int (nI s)]) (a2 := 0) (b2 := 0) wv_X12_223 dX12_move_1 (c_isSheetG _ s (by omega)) rfl ⟨by decide, Nat.le_of_eq (Nat.zero_add _), Nat.le_of_eq (Nat.zero_add _)⟩ (Nat.le_of_ble_eq_true rfl) rfl (fun r h9 hq => ?_)
  obtain ⟨rfl, rfl⟩ := hq
  show jb_J _ RX12 cX12_move 7 (Option.some .int) false 2 0 0 4 [some (.ref 105), some (.int (nI s)), some (.int i), some (.int (nI u)), some (.int j), some (.int n), none] [.int 1] [s0, s1, s2, s3, s4, s5, s6, s7, s8, s9, jb_mdl I J d e kp nm W, s11] _
  refine jb_if_eq (tgt := 14) (pc' := 7) dX12_move_4 (by decide) rfl (fun z => absurd z (by decide)) (fun _ => ?_)
  refine jb_iload_n (pc' := 8) dX12_move_7 rfl rfl ?_
  refine jb_callS (pc' := 11) (As := [.int (nI u)]) (a2 := 0) (b2 := 0) wv_X12_223 dX12_move_8 (c_isSheetG _ u (by omega)) rfl ⟨by decide, Nat.le_of_eq (Nat.zero_add _), Nat.le_of_eq (Nat.zero_add _)⟩ (Nat.le_of_ble_eq_true rfl) rfl (fun r h9 hq => ?_)
  obtain ⟨rfl, rfl⟩ := hq
  show jb_J _ RX12 cX12_move 7 (Option.some .int) false 2 0 0 11 [some (.ref 105), some (.int (nI s)), some (.int i), some (.int (nI u)), some (.int j), some (.int n), none] [.int 1] [s0, s1, s2, s3, s4, s5, s6, s7, s8, s9, jb_mdl I J d e kp nm W, s11] _
  refine jb_if_ne (tgt := 20) (pc' := 14) dX12_move_11 (by decide) rfl (fun _ => ?_) (fun z => absurd z (by decide))
  refine jb_aload_n (pc' := 21) dX12_move_20 rfl rfl ?_
  refine gf_X12_25 (pc' := 24) (v := .ref 111) dX12_move_21 rfl rfl rfl ?_
  refine jb_iload_n (pc' := 25) dX12_move_24 rfl rfl ?_
  refine jb_iaload (pc' := 26) (i9 := s) (f := (W 1)) dX12_move_25 rfl (jb_ix_nI (by omega)) (by omega) rfl ?_
  refine jb_top (v := .int ((W 1) s)) (w := .int (nI bs)) (jb_vI h1s) ?_
  refine jb_if_eq (tgt := 38) (pc' := 29) dX12_move_26 (by decide) rfl (fun _ => ?_) (fun z => absurd (congrArg nI hm) z)
  refine jb_aload_n (pc' := 39) dX12_move_38 rfl rfl ?_
  refine jb_iconst (pc' := 40) 2 dX12_move_39 (by decide) rfl ?_
  refine jb_callV (pc' := 43) (ci := 12) (q := 105) (As := [.int 2]) (a2 := 0) (b2 := 0) wv_X12_121 rfl dX12_move_40 (c_finds I J d e kp nm W 2 (by decide)) rfl rfl ⟨by decide, Nat.le_of_eq (Nat.zero_add _), Nat.le_of_eq (Nat.zero_add _)⟩ (Nat.le_of_ble_eq_true rfl) rfl (fun r h9 hq => ?_)
  obtain ⟨rfl, rfl⟩ := hq
  show jb_J _ RX12 cX12_move 7 (Option.some .int) false 2 0 0 43 [some (.ref 105), some (.int (nI s)), some (.int i), some (.int (nI u)), some (.int j), some (.int n), none] [.int (jm_er 2)] [s0, s1, s2, s3, s4, s5, s6, s7, s8, s9, jb_mdl I J d e kp nm (va_up W 0 (jm_ef (W 0) 2)), s11] _
  refine jb_iret dX12_move_43 rfl ?_
  exact ⟨rfl, rfl⟩
set_option maxRecDepth 100000 in
set_option maxHeartbeats 4000000 in
theorem me_moveN2 {sc : Nat × (Nat → Int32)} {s0 s1 s2 s3 s4 s5 s6 s7 s8 s9 s11 : List va_E} (I J d e kp nm : Nat → Int32) (W : Nat → Nat → Int32) (s : Nat) (hs : s < 4) (u : Nat) (hu : u < 4) {bs zs : Nat} (h1s : W 1 s = nI bs) (h2s : W 2 s = nI zs) (hbs : bs ≤ 32) (hzs : zs ≤ 40) {bu zu : Nat} (h1u : W 1 u = nI bu) (h2u : W 2 u = nI zu) (hbu : bu ≤ 32) (hzu : zu ≤ 40) (hm : ¬ bs = 0) (hm2 : bu = 0) (i j n : Int32) : jb_C sc yX12_move cX12_move 7 (Option.some .int) 2 0 0 [.ref 105, .int (nI s), .int i, .int (nI u), .int j, .int n] [s0, s1, s2, s3, s4, s5, s6, s7, s8, s9, jb_mdl I J d e kp nm W, s11] (fun r h9 => r = some (.int (jm_er 2)) ∧ h9 = [s0, s1, s2, s3, s4, s5, s6, s7, s8, s9, jb_mdl I J d e kp nm (va_up W 0 (jm_ef (W 0) 2)), s11]) := by
  refine jb_CofJ (ini := false) (by decide +kernel) (fun h => by cases h) (Nat.le_of_ble_eq_true rfl) ?_
  show jb_J sc RX12 cX12_move 7 (Option.some .int) false 2 0 0 0 [some (.ref 105), some (.int (nI s)), some (.int i), some (.int (nI u)), some (.int j), some (.int n), none] [] [s0, s1, s2, s3, s4, s5, s6, s7, s8, s9, jb_mdl I J d e kp nm W, s11] _
  refine jb_iload_n (pc' := 1) dX12_move_0 rfl rfl ?_
  refine jb_callS (pc' := 4) (As := [.int (nI s)]) (a2 := 0) (b2 := 0) wv_X12_223 dX12_move_1 (c_isSheetG _ s (by omega)) rfl ⟨by decide, Nat.le_of_eq (Nat.zero_add _), Nat.le_of_eq (Nat.zero_add _)⟩ (Nat.le_of_ble_eq_true rfl) rfl (fun r h9 hq => ?_)
  obtain ⟨rfl, rfl⟩ := hq
  show jb_J _ RX12 cX12_move 7 (Option.some .int) false 2 0 0 4 [some (.ref 105), some (.int (nI s)), some (.int i), some (.int (nI u)), some (.int j), some (.int n), none] [.int 1] [s0, s1, s2, s3, s4, s5, s6, s7, s8, s9, jb_mdl I J d e kp nm W, s11] _
  refine jb_if_eq (tgt := 14) (pc' := 7) dX12_move_4 (by decide) rfl (fun z => absurd z (by decide)) (fun _ => ?_)
  refine jb_iload_n (pc' := 8) dX12_move_7 rfl rfl ?_
  refine jb_callS (pc' := 11) (As := [.int (nI u)]) (a2 := 0) (b2 := 0) wv_X12_223 dX12_move_8 (c_isSheetG _ u (by omega)) rfl ⟨by decide, Nat.le_of_eq (Nat.zero_add _), Nat.le_of_eq (Nat.zero_add _)⟩ (Nat.le_of_ble_eq_true rfl) rfl (fun r h9 hq => ?_)
  obtain ⟨rfl, rfl⟩ := hq
  show jb_J _ RX12 cX12_move 7 (Option.some .int) false 2 0 0 11 [some (.ref 105), some (.int (nI s)), some (.int i), some (.int (nI u)), some (.int j), some (.int n), none] [.int 1] [s0, s1, s2, s3, s4, s5, s6, s7, s8, s9, jb_mdl I J d e kp nm W, s11] _
  refine jb_if_ne (tgt := 20) (pc' := 14) dX12_move_11 (by decide) rfl (fun _ => ?_) (fun z => absurd z (by decide))
  refine jb_aload_n (pc' := 21) dX12_move_20 rfl rfl ?_
  refine gf_X12_25 (pc' := 24) (v := .ref 111) dX12_move_21 rfl rfl rfl ?_
  refine jb_iload_n (pc' := 25) dX12_move_24 rfl rfl ?_
  refine jb_iaload (pc' := 26) (i9 := s) (f := (W 1)) dX12_move_25 rfl (jb_ix_nI (by omega)) (by omega) rfl ?_
  refine jb_top (v := .int ((W 1) s)) (w := .int (nI bs)) (jb_vI h1s) ?_
  refine jb_if_eq (tgt := 38) (pc' := 29) dX12_move_26 (by decide) rfl (fun z => absurd z (nI_ne0 (n := bs) (by omega) (by omega))) (fun _ => ?_)
  refine jb_aload_n (pc' := 30) dX12_move_29 rfl rfl ?_
  refine gf_X12_25 (pc' := 33) (v := .ref 111) dX12_move_30 rfl rfl rfl ?_
  refine jb_iload_n (pc' := 34) dX12_move_33 rfl rfl ?_
  refine jb_iaload (pc' := 35) (i9 := u) (f := (W 1)) dX12_move_34 rfl (jb_ix_nI (by omega)) (by omega) rfl ?_
  refine jb_top (v := .int ((W 1) u)) (w := .int (nI bu)) (jb_vI h1u) ?_
  refine jb_if_ne (tgt := 44) (pc' := 38) dX12_move_35 (by decide) rfl (fun z => absurd (congrArg nI hm2) z) (fun _ => ?_)
  refine jb_aload_n (pc' := 39) dX12_move_38 rfl rfl ?_
  refine jb_iconst (pc' := 40) 2 dX12_move_39 (by decide) rfl ?_
  refine jb_callV (pc' := 43) (ci := 12) (q := 105) (As := [.int 2]) (a2 := 0) (b2 := 0) wv_X12_121 rfl dX12_move_40 (c_finds I J d e kp nm W 2 (by decide)) rfl rfl ⟨by decide, Nat.le_of_eq (Nat.zero_add _), Nat.le_of_eq (Nat.zero_add _)⟩ (Nat.le_of_ble_eq_true rfl) rfl (fun r h9 hq => ?_)
  obtain ⟨rfl, rfl⟩ := hq
  show jb_J _ RX12 cX12_move 7 (Option.some .int) false 2 0 0 43 [some (.ref 105), some (.int (nI s)), some (.int i), some (.int (nI u)), some (.int j), some (.int n), none] [.int (jm_er 2)] [s0, s1, s2, s3, s4, s5, s6, s7, s8, s9, jb_mdl I J d e kp nm (va_up W 0 (jm_ef (W 0) 2)), s11] _
  refine jb_iret dX12_move_43 rfl ?_
  exact ⟨rfl, rfl⟩
set_option maxRecDepth 100000 in
set_option maxHeartbeats 4000000 in
theorem me_moveK {sc : Nat × (Nat → Int32)} {s0 s1 s2 s3 s4 s5 s6 s7 s8 s9 s11 : List va_E} (I J d e kp nm : Nat → Int32) (W : Nat → Nat → Int32) (s : Nat) (hs : s < 4) (u : Nat) (hu : u < 4) {bs zs : Nat} (h1s : W 1 s = nI bs) (h2s : W 2 s = nI zs) (hbs : bs ≤ 32) (hzs : zs ≤ 40) {bu zu : Nat} (h1u : W 1 u = nI bu) (h2u : W 2 u = nI zu) (hbu : bu ≤ 32) (hzu : zu ≤ 40) (hm : ¬ bs = 0) (hm2 : ¬ bu = 0) (hbb : ¬ bs = bu) (i j n : Int32) : jb_C sc yX12_move cX12_move 7 (Option.some .int) 2 0 0 [.ref 105, .int (nI s), .int i, .int (nI u), .int j, .int n] [s0, s1, s2, s3, s4, s5, s6, s7, s8, s9, jb_mdl I J d e kp nm W, s11] (fun r h9 => r = some (.int (jm_er 5)) ∧ h9 = [s0, s1, s2, s3, s4, s5, s6, s7, s8, s9, jb_mdl I J d e kp nm (va_up W 0 (jm_ef (W 0) 5)), s11]) := by
  refine jb_CofJ (ini := false) (by decide +kernel) (fun h => by cases h) (Nat.le_of_ble_eq_true rfl) ?_
  show jb_J sc RX12 cX12_move 7 (Option.some .int) false 2 0 0 0 [some (.ref 105), some (.int (nI s)), some (.int i), some (.int (nI u)), some (.int j), some (.int n), none] [] [s0, s1, s2, s3, s4, s5, s6, s7, s8, s9, jb_mdl I J d e kp nm W, s11] _
  refine jb_iload_n (pc' := 1) dX12_move_0 rfl rfl ?_
  refine jb_callS (pc' := 4) (As := [.int (nI s)]) (a2 := 0) (b2 := 0) wv_X12_223 dX12_move_1 (c_isSheetG _ s (by omega)) rfl ⟨by decide, Nat.le_of_eq (Nat.zero_add _), Nat.le_of_eq (Nat.zero_add _)⟩ (Nat.le_of_ble_eq_true rfl) rfl (fun r h9 hq => ?_)
  obtain ⟨rfl, rfl⟩ := hq
  show jb_J _ RX12 cX12_move 7 (Option.some .int) false 2 0 0 4 [some (.ref 105), some (.int (nI s)), some (.int i), some (.int (nI u)), some (.int j), some (.int n), none] [.int 1] [s0, s1, s2, s3, s4, s5, s6, s7, s8, s9, jb_mdl I J d e kp nm W, s11] _
  refine jb_if_eq (tgt := 14) (pc' := 7) dX12_move_4 (by decide) rfl (fun z => absurd z (by decide)) (fun _ => ?_)
  refine jb_iload_n (pc' := 8) dX12_move_7 rfl rfl ?_
  refine jb_callS (pc' := 11) (As := [.int (nI u)]) (a2 := 0) (b2 := 0) wv_X12_223 dX12_move_8 (c_isSheetG _ u (by omega)) rfl ⟨by decide, Nat.le_of_eq (Nat.zero_add _), Nat.le_of_eq (Nat.zero_add _)⟩ (Nat.le_of_ble_eq_true rfl) rfl (fun r h9 hq => ?_)
  obtain ⟨rfl, rfl⟩ := hq
  show jb_J _ RX12 cX12_move 7 (Option.some .int) false 2 0 0 11 [some (.ref 105), some (.int (nI s)), some (.int i), some (.int (nI u)), some (.int j), some (.int n), none] [.int 1] [s0, s1, s2, s3, s4, s5, s6, s7, s8, s9, jb_mdl I J d e kp nm W, s11] _
  refine jb_if_ne (tgt := 20) (pc' := 14) dX12_move_11 (by decide) rfl (fun _ => ?_) (fun z => absurd z (by decide))
  refine jb_aload_n (pc' := 21) dX12_move_20 rfl rfl ?_
  refine gf_X12_25 (pc' := 24) (v := .ref 111) dX12_move_21 rfl rfl rfl ?_
  refine jb_iload_n (pc' := 25) dX12_move_24 rfl rfl ?_
  refine jb_iaload (pc' := 26) (i9 := s) (f := (W 1)) dX12_move_25 rfl (jb_ix_nI (by omega)) (by omega) rfl ?_
  refine jb_top (v := .int ((W 1) s)) (w := .int (nI bs)) (jb_vI h1s) ?_
  refine jb_if_eq (tgt := 38) (pc' := 29) dX12_move_26 (by decide) rfl (fun z => absurd z (nI_ne0 (n := bs) (by omega) (by omega))) (fun _ => ?_)
  refine jb_aload_n (pc' := 30) dX12_move_29 rfl rfl ?_
  refine gf_X12_25 (pc' := 33) (v := .ref 111) dX12_move_30 rfl rfl rfl ?_
  refine jb_iload_n (pc' := 34) dX12_move_33 rfl rfl ?_
  refine jb_iaload (pc' := 35) (i9 := u) (f := (W 1)) dX12_move_34 rfl (jb_ix_nI (by omega)) (by omega) rfl ?_
  refine jb_top (v := .int ((W 1) u)) (w := .int (nI bu)) (jb_vI h1u) ?_
  refine jb_if_ne (tgt := 44) (pc' := 38) dX12_move_35 (by decide) rfl (fun _ => ?_) (fun z => absurd z (nI_ne0 (n := bu) (by omega) (by omega)))
  refine jb_aload_n (pc' := 45) dX12_move_44 rfl rfl ?_
  refine gf_X12_25 (pc' := 48) (v := .ref 111) dX12_move_45 rfl rfl rfl ?_
  refine jb_iload_n (pc' := 49) dX12_move_48 rfl rfl ?_
  refine jb_iaload (pc' := 50) (i9 := s) (f := (W 1)) dX12_move_49 rfl (jb_ix_nI (by omega)) (by omega) rfl ?_
  refine jb_top (v := .int ((W 1) s)) (w := .int (nI bs)) (jb_vI h1s) ?_
  refine jb_aload_n (pc' := 51) dX12_move_50 rfl rfl ?_
  refine gf_X12_25 (pc' := 54) (v := .ref 111) dX12_move_51 rfl rfl rfl ?_
  refine jb_iload_n (pc' := 55) dX12_move_54 rfl rfl ?_
  refine jb_iaload (pc' := 56) (i9 := u) (f := (W 1)) dX12_move_55 rfl (jb_ix_nI (by omega)) (by omega) rfl ?_
  refine jb_top (v := .int ((W 1) u)) (w := .int (nI bu)) (jb_vI h1u) ?_
  refine jb_icmp_eq (tgt := 65) (pc' := 59) dX12_move_56 (by decide) rfl (fun z => absurd z (fun z => hbb ((nI_eq (a := bs) (b := bu) (by omega) (by omega)).mp z))) (fun _ => ?_)
  refine jb_aload_n (pc' := 60) dX12_move_59 rfl rfl ?_
  refine jb_iconst (pc' := 61) 5 dX12_move_60 (by decide) rfl ?_
  refine jb_callV (pc' := 64) (ci := 12) (q := 105) (As := [.int 5]) (a2 := 0) (b2 := 0) wv_X12_121 rfl dX12_move_61 (c_finds I J d e kp nm W 5 (by decide)) rfl rfl ⟨by decide, Nat.le_of_eq (Nat.zero_add _), Nat.le_of_eq (Nat.zero_add _)⟩ (Nat.le_of_ble_eq_true rfl) rfl (fun r h9 hq => ?_)
  obtain ⟨rfl, rfl⟩ := hq
  show jb_J _ RX12 cX12_move 7 (Option.some .int) false 2 0 0 64 [some (.ref 105), some (.int (nI s)), some (.int i), some (.int (nI u)), some (.int j), some (.int n), none] [.int (jm_er 5)] [s0, s1, s2, s3, s4, s5, s6, s7, s8, s9, jb_mdl I J d e kp nm (va_up W 0 (jm_ef (W 0) 5)), s11] _
  refine jb_iret dX12_move_64 rfl ?_
  exact ⟨rfl, rfl⟩
set_option maxRecDepth 100000 in
set_option maxHeartbeats 4000000 in
theorem me_moveB {sc : Nat × (Nat → Int32)} {s0 s1 s2 s3 s4 s5 s6 s7 s8 s9 s11 : List va_E} (I J d e kp nm : Nat → Int32) (W : Nat → Nat → Int32) (s : Nat) (hs : s < 4) (u : Nat) (hu : u < 4) {bs zs : Nat} (h1s : W 1 s = nI bs) (h2s : W 2 s = nI zs) (hbs : bs ≤ 32) (hzs : zs ≤ 40) {bu zu : Nat} (h1u : W 1 u = nI bu) (h2u : W 2 u = nI zu) (hbu : bu ≤ 32) (hzu : zu ≤ 40) (hm : ¬ bs = 0) (hm2 : ¬ bu = 0) (hbb : bs = bu) (i j n : Int32) (hb : ¬ (jm_ho i n zs ∧ jm_ho j n zu)) : jb_C sc yX12_move cX12_move 7 (Option.some .int) 2 0 0 [.ref 105, .int (nI s), .int i, .int (nI u), .int j, .int n] [s0, s1, s2, s3, s4, s5, s6, s7, s8, s9, jb_mdl I J d e kp nm W, s11] (fun r h9 => r = some (.int (jm_er 1)) ∧ h9 = [s0, s1, s2, s3, s4, s5, s6, s7, s8, s9, jb_mdl I J d e kp nm (va_up W 0 (jm_ef (W 0) 1)), s11]) := by
  refine jb_CofJ (ini := false) (by decide +kernel) (fun h => by cases h) (Nat.le_of_ble_eq_true rfl) ?_
  show jb_J sc RX12 cX12_move 7 (Option.some .int) false 2 0 0 0 [some (.ref 105), some (.int (nI s)), some (.int i), some (.int (nI u)), some (.int j), some (.int n), none] [] [s0, s1, s2, s3, s4, s5, s6, s7, s8, s9, jb_mdl I J d e kp nm W, s11] _
  refine jb_iload_n (pc' := 1) dX12_move_0 rfl rfl ?_
  refine jb_callS (pc' := 4) (As := [.int (nI s)]) (a2 := 0) (b2 := 0) wv_X12_223 dX12_move_1 (c_isSheetG _ s (by omega)) rfl ⟨by decide, Nat.le_of_eq (Nat.zero_add _), Nat.le_of_eq (Nat.zero_add _)⟩ (Nat.le_of_ble_eq_true rfl) rfl (fun r h9 hq => ?_)
  obtain ⟨rfl, rfl⟩ := hq
  show jb_J _ RX12 cX12_move 7 (Option.some .int) false 2 0 0 4 [some (.ref 105), some (.int (nI s)), some (.int i), some (.int (nI u)), some (.int j), some (.int n), none] [.int 1] [s0, s1, s2, s3, s4, s5, s6, s7, s8, s9, jb_mdl I J d e kp nm W, s11] _
  refine jb_if_eq (tgt := 14) (pc' := 7) dX12_move_4 (by decide) rfl (fun z => absurd z (by decide)) (fun _ => ?_)
  refine jb_iload_n (pc' := 8) dX12_move_7 rfl rfl ?_
  refine jb_callS (pc' := 11) (As := [.int (nI u)]) (a2 := 0) (b2 := 0) wv_X12_223 dX12_move_8 (c_isSheetG _ u (by omega)) rfl ⟨by decide, Nat.le_of_eq (Nat.zero_add _), Nat.le_of_eq (Nat.zero_add _)⟩ (Nat.le_of_ble_eq_true rfl) rfl (fun r h9 hq => ?_)
  obtain ⟨rfl, rfl⟩ := hq
  show jb_J _ RX12 cX12_move 7 (Option.some .int) false 2 0 0 11 [some (.ref 105), some (.int (nI s)), some (.int i), some (.int (nI u)), some (.int j), some (.int n), none] [.int 1] [s0, s1, s2, s3, s4, s5, s6, s7, s8, s9, jb_mdl I J d e kp nm W, s11] _
  refine jb_if_ne (tgt := 20) (pc' := 14) dX12_move_11 (by decide) rfl (fun _ => ?_) (fun z => absurd z (by decide))
  refine jb_aload_n (pc' := 21) dX12_move_20 rfl rfl ?_
  refine gf_X12_25 (pc' := 24) (v := .ref 111) dX12_move_21 rfl rfl rfl ?_
  refine jb_iload_n (pc' := 25) dX12_move_24 rfl rfl ?_
  refine jb_iaload (pc' := 26) (i9 := s) (f := (W 1)) dX12_move_25 rfl (jb_ix_nI (by omega)) (by omega) rfl ?_
  refine jb_top (v := .int ((W 1) s)) (w := .int (nI bs)) (jb_vI h1s) ?_
  refine jb_if_eq (tgt := 38) (pc' := 29) dX12_move_26 (by decide) rfl (fun z => absurd z (nI_ne0 (n := bs) (by omega) (by omega))) (fun _ => ?_)
  refine jb_aload_n (pc' := 30) dX12_move_29 rfl rfl ?_
  refine gf_X12_25 (pc' := 33) (v := .ref 111) dX12_move_30 rfl rfl rfl ?_
  refine jb_iload_n (pc' := 34) dX12_move_33 rfl rfl ?_
  refine jb_iaload (pc' := 35) (i9 := u) (f := (W 1)) dX12_move_34 rfl (jb_ix_nI (by omega)) (by omega) rfl ?_
  refine jb_top (v := .int ((W 1) u)) (w := .int (nI bu)) (jb_vI h1u) ?_
  refine jb_if_ne (tgt := 44) (pc' := 38) dX12_move_35 (by decide) rfl (fun _ => ?_) (fun z => absurd z (nI_ne0 (n := bu) (by omega) (by omega)))
  refine jb_aload_n (pc' := 45) dX12_move_44 rfl rfl ?_
  refine gf_X12_25 (pc' := 48) (v := .ref 111) dX12_move_45 rfl rfl rfl ?_
  refine jb_iload_n (pc' := 49) dX12_move_48 rfl rfl ?_
  refine jb_iaload (pc' := 50) (i9 := s) (f := (W 1)) dX12_move_49 rfl (jb_ix_nI (by omega)) (by omega) rfl ?_
  refine jb_top (v := .int ((W 1) s)) (w := .int (nI bs)) (jb_vI h1s) ?_
  refine jb_aload_n (pc' := 51) dX12_move_50 rfl rfl ?_
  refine gf_X12_25 (pc' := 54) (v := .ref 111) dX12_move_51 rfl rfl rfl ?_
  refine jb_iload_n (pc' := 55) dX12_move_54 rfl rfl ?_
  refine jb_iaload (pc' := 56) (i9 := u) (f := (W 1)) dX12_move_55 rfl (jb_ix_nI (by omega)) (by omega) rfl ?_
  refine jb_top (v := .int ((W 1) u)) (w := .int (nI bu)) (jb_vI h1u) ?_
  refine jb_icmp_eq (tgt := 65) (pc' := 59) dX12_move_56 (by decide) rfl (fun _ => ?_) (fun z => absurd (congrArg nI hbb) z)
  refine jb_iload (pc' := 67) dX12_move_65 rfl rfl ?_
  refine jb_if_lt (tgt := 106) (pc' := 70) dX12_move_67 (by decide) rfl (fun c10 => ?_) (fun c10 => ?_)
  · refine jb_aload_n (pc' := 107) dX12_move_106 rfl rfl ?_
    refine jb_iconst (pc' := 108) 1 dX12_move_107 (by decide) rfl ?_
    refine jb_callV (pc' := 111) (ci := 12) (q := 105) (As := [.int 1]) (a2 := 0) (b2 := 0) wv_X12_121 rfl dX12_move_108 (c_finds I J d e kp nm W 1 (by decide)) rfl rfl ⟨by decide, Nat.le_of_eq (Nat.zero_add _), Nat.le_of_eq (Nat.zero_add _)⟩ (Nat.le_of_ble_eq_true rfl) rfl (fun r h9 hq => ?_)
    obtain ⟨rfl, rfl⟩ := hq
    show jb_J _ RX12 cX12_move 7 (Option.some .int) false 2 0 0 111 [some (.ref 105), some (.int (nI s)), some (.int i), some (.int (nI u)), some (.int j), some (.int n), none] [.int (jm_er 1)] [s0, s1, s2, s3, s4, s5, s6, s7, s8, s9, jb_mdl I J d e kp nm (va_up W 0 (jm_ef (W 0) 1)), s11] _
    refine jb_iret dX12_move_111 rfl ?_
    exact ⟨rfl, rfl⟩
  · refine jb_iload_n (pc' := 71) dX12_move_70 rfl rfl ?_
    refine jb_if_lt (tgt := 106) (pc' := 74) dX12_move_71 (by decide) rfl (fun c11 => ?_) (fun c11 => ?_)
    · refine jb_aload_n (pc' := 107) dX12_move_106 rfl rfl ?_
      refine jb_iconst (pc' := 108) 1 dX12_move_107 (by decide) rfl ?_
      refine jb_callV (pc' := 111) (ci := 12) (q := 105) (As := [.int 1]) (a2 := 0) (b2 := 0) wv_X12_121 rfl dX12_move_108 (c_finds I J d e kp nm W 1 (by decide)) rfl rfl ⟨by decide, Nat.le_of_eq (Nat.zero_add _), Nat.le_of_eq (Nat.zero_add _)⟩ (Nat.le_of_ble_eq_true rfl) rfl (fun r h9 hq => ?_)
      obtain ⟨rfl, rfl⟩ := hq
      show jb_J _ RX12 cX12_move 7 (Option.some .int) false 2 0 0 111 [some (.ref 105), some (.int (nI s)), some (.int i), some (.int (nI u)), some (.int j), some (.int n), none] [.int (jm_er 1)] [s0, s1, s2, s3, s4, s5, s6, s7, s8, s9, jb_mdl I J d e kp nm (va_up W 0 (jm_ef (W 0) 1)), s11] _
      refine jb_iret dX12_move_111 rfl ?_
      exact ⟨rfl, rfl⟩
    · refine jb_iload (pc' := 76) dX12_move_74 rfl rfl ?_
      refine jb_if_lt (tgt := 106) (pc' := 79) dX12_move_76 (by decide) rfl (fun c12 => ?_) (fun c12 => ?_)
      · refine jb_aload_n (pc' := 107) dX12_move_106 rfl rfl ?_
        refine jb_iconst (pc' := 108) 1 dX12_move_107 (by decide) rfl ?_
        refine jb_callV (pc' := 111) (ci := 12) (q := 105) (As := [.int 1]) (a2 := 0) (b2 := 0) wv_X12_121 rfl dX12_move_108 (c_finds I J d e kp nm W 1 (by decide)) rfl rfl ⟨by decide, Nat.le_of_eq (Nat.zero_add _), Nat.le_of_eq (Nat.zero_add _)⟩ (Nat.le_of_ble_eq_true rfl) rfl (fun r h9 hq => ?_)
        obtain ⟨rfl, rfl⟩ := hq
        show jb_J _ RX12 cX12_move 7 (Option.some .int) false 2 0 0 111 [some (.ref 105), some (.int (nI s)), some (.int i), some (.int (nI u)), some (.int j), some (.int n), none] [.int (jm_er 1)] [s0, s1, s2, s3, s4, s5, s6, s7, s8, s9, jb_mdl I J d e kp nm (va_up W 0 (jm_ef (W 0) 1)), s11] _
        refine jb_iret dX12_move_111 rfl ?_
        exact ⟨rfl, rfl⟩
      · refine jb_iload (pc' := 81) dX12_move_79 rfl rfl ?_
        refine jb_aload_n (pc' := 82) dX12_move_81 rfl rfl ?_
        refine gf_X12_28 (pc' := 85) (v := .ref 112) dX12_move_82 rfl rfl rfl ?_
        refine jb_iload_n (pc' := 86) dX12_move_85 rfl rfl ?_
        refine jb_iaload (pc' := 87) (i9 := s) (f := (W 2)) dX12_move_86 rfl (jb_ix_nI (by omega)) (by omega) rfl ?_
        refine jb_top (v := .int ((W 2) s)) (w := .int (nI zs)) (jb_vI h2s) ?_
        refine jb_iload_n (pc' := 88) dX12_move_87 rfl rfl ?_
        refine jb_isub (pc' := 89) dX12_move_88 rfl ?_
        refine jb_icmp_gt (tgt := 106) (pc' := 92) dX12_move_89 (by decide) rfl (fun c13 => ?_) (fun c13 => ?_)
        · refine jb_aload_n (pc' := 107) dX12_move_106 rfl rfl ?_
          refine jb_iconst (pc' := 108) 1 dX12_move_107 (by decide) rfl ?_
          refine jb_callV (pc' := 111) (ci := 12) (q := 105) (As := [.int 1]) (a2 := 0) (b2 := 0) wv_X12_121 rfl dX12_move_108 (c_finds I J d e kp nm W 1 (by decide)) rfl rfl ⟨by decide, Nat.le_of_eq (Nat.zero_add _), Nat.le_of_eq (Nat.zero_add _)⟩ (Nat.le_of_ble_eq_true rfl) rfl (fun r h9 hq => ?_)
          obtain ⟨rfl, rfl⟩ := hq
          show jb_J _ RX12 cX12_move 7 (Option.some .int) false 2 0 0 111 [some (.ref 105), some (.int (nI s)), some (.int i), some (.int (nI u)), some (.int j), some (.int n), none] [.int (jm_er 1)] [s0, s1, s2, s3, s4, s5, s6, s7, s8, s9, jb_mdl I J d e kp nm (va_up W 0 (jm_ef (W 0) 1)), s11] _
          refine jb_iret dX12_move_111 rfl ?_
          exact ⟨rfl, rfl⟩
        · refine jb_iload (pc' := 94) dX12_move_92 rfl rfl ?_
          refine jb_aload_n (pc' := 95) dX12_move_94 rfl rfl ?_
          refine gf_X12_28 (pc' := 98) (v := .ref 112) dX12_move_95 rfl rfl rfl ?_
          refine jb_iload_n (pc' := 99) dX12_move_98 rfl rfl ?_
          refine jb_iaload (pc' := 100) (i9 := u) (f := (W 2)) dX12_move_99 rfl (jb_ix_nI (by omega)) (by omega) rfl ?_
          refine jb_top (v := .int ((W 2) u)) (w := .int (nI zu)) (jb_vI h2u) ?_
          refine jb_iload (pc' := 102) dX12_move_100 rfl rfl ?_
          refine jb_isub (pc' := 103) dX12_move_102 rfl ?_
          refine jb_icmp_le (tgt := 112) (pc' := 106) dX12_move_103 (by decide) rfl (fun c14 => ?_) (fun c14 => ?_)
          · refine jb_iconst (pc' := 113) 0 dX12_move_112 (by decide) rfl ?_
            refine jb_istore_ (pc' := 115) dX12_move_113 (by decide) (jb_at6 rfl) rfl ?_
            refine jb_iload (pc' := 117) dX12_move_115 rfl rfl ?_
            refine jb_iload (pc' := 119) dX12_move_117 rfl rfl ?_
            refine jb_icmp_ge (tgt := 149) (pc' := 122) dX12_move_119 (by decide) rfl (fun c15 => ?_) (fun c15 => ?_)
            · refine jb_iconst (pc' := 150) 0 dX12_move_149 (by decide) rfl ?_
              refine jb_istore_ (pc' := 152) dX12_move_150 (by decide) (jb_at6 rfl) rfl ?_
              refine jb_iload (pc' := 154) dX12_move_152 rfl rfl ?_
              refine jb_iload (pc' := 156) dX12_move_154 rfl rfl ?_
              refine jb_icmp_ge (tgt := 187) (pc' := 159) dX12_move_156 (by decide) rfl (fun c16 => ?_) (fun c16 => ?_)
              · refine jb_iload (pc' := 189) dX12_move_187 rfl rfl ?_
                refine jb_iret dX12_move_189 rfl ?_
                exact absurd ⟨jm_ho_yes hzs (by assumption) (by assumption) (by assumption), jm_ho_yes hzu (by assumption) (by assumption) (Int32.not_lt.mpr (by assumption))⟩ hb
              · exact absurd ⟨jm_ho_yes hzs (by assumption) (by assumption) (by assumption), jm_ho_yes hzu (by assumption) (by assumption) (Int32.not_lt.mpr (by assumption))⟩ hb
            · exact absurd ⟨jm_ho_yes hzs (by assumption) (by assumption) (by assumption), jm_ho_yes hzu (by assumption) (by assumption) (Int32.not_lt.mpr (by assumption))⟩ hb
          · refine jb_aload_n (pc' := 107) dX12_move_106 rfl rfl ?_
            refine jb_iconst (pc' := 108) 1 dX12_move_107 (by decide) rfl ?_
            refine jb_callV (pc' := 111) (ci := 12) (q := 105) (As := [.int 1]) (a2 := 0) (b2 := 0) wv_X12_121 rfl dX12_move_108 (c_finds I J d e kp nm W 1 (by decide)) rfl rfl ⟨by decide, Nat.le_of_eq (Nat.zero_add _), Nat.le_of_eq (Nat.zero_add _)⟩ (Nat.le_of_ble_eq_true rfl) rfl (fun r h9 hq => ?_)
            obtain ⟨rfl, rfl⟩ := hq
            show jb_J _ RX12 cX12_move 7 (Option.some .int) false 2 0 0 111 [some (.ref 105), some (.int (nI s)), some (.int i), some (.int (nI u)), some (.int j), some (.int n), none] [.int (jm_er 1)] [s0, s1, s2, s3, s4, s5, s6, s7, s8, s9, jb_mdl I J d e kp nm (va_up W 0 (jm_ef (W 0) 1)), s11] _
            refine jb_iret dX12_move_111 rfl ?_
            exact ⟨rfl, rfl⟩
set_option maxRecDepth 100000 in
set_option maxHeartbeats 4000000 in
theorem l_move2 {sc : Nat × (Nat → Int32)} {s0 s1 s2 s3 s4 s5 s6 s7 s8 s9 s11 : List va_E} (I J d e kp nm : Nat → Int32) (W : Nat → Nat → Int32) (s a u c k9 : Nat) (hs : s < 4) (hu : u < 4) (ha : a + k9 ≤ 40) (hc : c + k9 ≤ 40) : ∀ (k i : Nat) (Wc : Nat → Nat → Int32), i + k = k9 → (∀ k, k < k9 → Wc 4 k = W 3 (40 * s + a + k)) → (∀ r, ¬ r = 3 → ¬ r = 4 → Wc r = W r) ∧ (∀ k, (k < 40 * u + c ∨ 40 * u + c + i ≤ k) → Wc 3 k = W 3 k) ∧ (∀ k, k < i → Wc 3 (40 * u + c + k) = W 3 (40 * s + a + k)) → jb_J sc RX12 cX12_move 7 (Option.some .int) false 2 0 0 152 [some (.ref 105), some (.int (nI s)), some (.int (nI a)), some (.int (nI u)), some (.int (nI c)), some (.int (nI k9)), some (.int (nI i))] [] [s0, s1, s2, s3, s4, s5, s6, s7, s8, s9, jb_mdl I J d e kp nm Wc, s11] (fun r h9 => r = some (.int (nI k9)) ∧ ∃ W9, (∀ r, ¬ r = 3 → ¬ r = 4 → W9 r = W r) ∧ (∀ k, (k < 40 * u + c ∨ 40 * u + c + k9 ≤ k) → W9 3 k = W 3 k) ∧ (∀ k, k < k9 → W9 3 (40 * u + c + k) = W 3 (40 * s + a + k)) ∧ h9 = [s0, s1, s2, s3, s4, s5, s6, s7, s8, s9, jb_mdl I J d e kp nm W9, s11]) := by
  intro k
  induction k with
  | zero =>
    intro i Wc hi g4 ⟨g1, g2, g3⟩
    obtain rfl : i = k9 := by omega
    show jb_J _ RX12 cX12_move 7 (Option.some .int) false 2 0 0 152 [some (.ref 105), some (.int (nI s)), some (.int (nI a)), some (.int (nI u)), some (.int (nI c)), some (.int (nI i)), some (.int (nI i))] [] [s0, s1, s2, s3, s4, s5, s6, s7, s8, s9, jb_mdl I J d e kp nm Wc, s11] _
    refine jb_iload (pc' := 154) dX12_move_152 rfl rfl ?_
    refine jb_iload (pc' := 156) dX12_move_154 rfl rfl ?_
    refine jb_icmp_ge (tgt := 187) (pc' := 159) dX12_move_156 (by decide) rfl (fun _ => ?_) (fun z => absurd (nI_le (a := i) (b := i) (by omega) (by omega)) z)
    refine jb_iload (pc' := 189) dX12_move_187 rfl rfl ?_
    refine jb_iret dX12_move_189 rfl ?_
    exact ⟨rfl, Wc, g1, g2, g3, rfl⟩
  | succ k ih =>
    intro i Wc hi g4 ⟨g1, g2, g3⟩
    show jb_J _ RX12 cX12_move 7 (Option.some .int) false 2 0 0 152 [some (.ref 105), some (.int (nI s)), some (.int (nI a)), some (.int (nI u)), some (.int (nI c)), some (.int (nI k9)), some (.int (nI i))] [] [s0, s1, s2, s3, s4, s5, s6, s7, s8, s9, jb_mdl I J d e kp nm Wc, s11] _
    refine jb_iload (pc' := 154) dX12_move_152 rfl rfl ?_
    refine jb_iload (pc' := 156) dX12_move_154 rfl rfl ?_
    refine jb_icmp_ge (tgt := 187) (pc' := 159) dX12_move_156 (by decide) rfl (fun z => absurd z (nI_ge (a := i) (b := k9) (by omega) (by omega))) (fun _ => ?_)
    refine jb_aload_n (pc' := 160) dX12_move_159 rfl rfl ?_
    refine gf_X12_31 (pc' := 163) (v := .ref 113) dX12_move_160 rfl rfl rfl ?_
    refine jb_bipush (pc' := 165) 40 dX12_move_163 (by decide) rfl ?_
    refine jb_iload_n (pc' := 166) dX12_move_165 rfl rfl ?_
    refine jb_imul (pc' := 167) dX12_move_166 rfl ?_
    refine jb_top (v := .int (40 * (nI u))) (w := .int (nI (40 * u))) (jb_vI (pk_mul 40 _)) ?_
    refine jb_iload (pc' := 169) dX12_move_167 rfl rfl ?_
    refine jb_iadd (pc' := 170) dX12_move_169 rfl ?_
    refine jb_top (v := .int ((nI (40 * u)) + (nI c))) (w := .int (nI (40 * u + c))) (jb_vI (nI_add _ _)) ?_
    refine jb_iload (pc' := 172) dX12_move_170 rfl rfl ?_
    refine jb_iadd (pc' := 173) dX12_move_172 rfl ?_
    refine jb_top (v := .int ((nI (40 * u + c)) + (nI i))) (w := .int (nI (40 * u + c + i))) (jb_vI (nI_add _ _)) ?_
    refine jb_aload_n (pc' := 174) dX12_move_173 rfl rfl ?_
    refine gf_X12_34 (pc' := 177) (v := .ref 114) dX12_move_174 rfl rfl rfl ?_
    refine jb_iload (pc' := 179) dX12_move_177 rfl rfl ?_
    refine jb_iaload (pc' := 180) (i9 := i) (f := (Wc 4)) dX12_move_179 rfl (jb_ix_nI (by omega)) (by omega) rfl ?_
    refine jb_iastore (pc' := 181) (i9 := (40 * u + c + i)) (f := (Wc 3)) (h' := [s0, s1, s2, s3, s4, s5, s6, s7, s8, s9, jb_mdl I J d e kp nm (va_up Wc 3 (upd (Wc 3) (40 * u + c + i) ((Wc 4) i))), s11]) dX12_move_180 rfl (jb_ix_nI (by omega)) (by omega) rfl rfl ?_
    refine jb_iinc_ (pc' := 184) (nI (i + 1)) dX12_move_181 (by decide) rfl (jb_inc i 1) (jb_at6 rfl) rfl ?_
    refine jb_goto (pc' := 152) dX12_move_184 (by decide) ?_
    refine ih (i + 1) (va_up Wc 3 (upd (Wc 3) (40 * u + c + i) ((Wc 4) i))) (by omega) (fun k hk => g4 k hk) ⟨fun r h3 h4 => (va_ne h3).trans (g1 r h3 h4), fun k hk => ?_, fun k hk => ?_⟩
    · show upd (Wc 3) (40 * u + c + i) (Wc 4 i) k = W 3 k
      rw [jb_une (by omega)]; exact g2 k (by omega)
    · show upd (Wc 3) (40 * u + c + i) (Wc 4 i) (40 * u + c + k) = _
      by_cases e : k = i
      · rw [e]; exact jb_uee.trans (g4 i (by omega))
      · rw [jb_une (by omega)]; exact g3 k (by omega)
set_option maxRecDepth 100000 in
set_option maxHeartbeats 4000000 in
theorem l_move1 {sc : Nat × (Nat → Int32)} {s0 s1 s2 s3 s4 s5 s6 s7 s8 s9 s11 : List va_E} (I J d e kp nm : Nat → Int32) (W : Nat → Nat → Int32) (s a u c k9 : Nat) (hs : s < 4) (hu : u < 4) (ha : a + k9 ≤ 40) (hc : c + k9 ≤ 40) : ∀ (k i : Nat) (Wc : Nat → Nat → Int32), i + k = k9 → (∀ r, ¬ r = 4 → Wc r = W r) ∧ (∀ k, k < i → Wc 4 k = W 3 (40 * s + a + k)) → jb_J sc RX12 cX12_move 7 (Option.some .int) false 2 0 0 115 [some (.ref 105), some (.int (nI s)), some (.int (nI a)), some (.int (nI u)), some (.int (nI c)), some (.int (nI k9)), some (.int (nI i))] [] [s0, s1, s2, s3, s4, s5, s6, s7, s8, s9, jb_mdl I J d e kp nm Wc, s11] (fun r h9 => r = some (.int (nI k9)) ∧ ∃ W9, (∀ r, ¬ r = 3 → ¬ r = 4 → W9 r = W r) ∧ (∀ k, (k < 40 * u + c ∨ 40 * u + c + k9 ≤ k) → W9 3 k = W 3 k) ∧ (∀ k, k < k9 → W9 3 (40 * u + c + k) = W 3 (40 * s + a + k)) ∧ h9 = [s0, s1, s2, s3, s4, s5, s6, s7, s8, s9, jb_mdl I J d e kp nm W9, s11]) := by
  intro k
  induction k with
  | zero =>
    intro i Wc hi ⟨g1, g2⟩
    obtain rfl : i = k9 := by omega
    show jb_J _ RX12 cX12_move 7 (Option.some .int) false 2 0 0 115 [some (.ref 105), some (.int (nI s)), some (.int (nI a)), some (.int (nI u)), some (.int (nI c)), some (.int (nI i)), some (.int (nI i))] [] [s0, s1, s2, s3, s4, s5, s6, s7, s8, s9, jb_mdl I J d e kp nm Wc, s11] _
    refine jb_iload (pc' := 117) dX12_move_115 rfl rfl ?_
    refine jb_iload (pc' := 119) dX12_move_117 rfl rfl ?_
    refine jb_icmp_ge (tgt := 149) (pc' := 122) dX12_move_119 (by decide) rfl (fun _ => ?_) (fun z => absurd (nI_le (a := i) (b := i) (by omega) (by omega)) z)
    refine jb_iconst (pc' := 150) 0 dX12_move_149 (by decide) rfl ?_
    refine jb_istore_ (pc' := 152) dX12_move_150 (by decide) (jb_at6 rfl) rfl ?_
    exact l_move2 I J d e kp nm W s a u c i hs hu ha hc i 0 Wc (by omega) g2 ⟨fun r h3 h4 => g1 r h4, fun k hk => congrFun (g1 3 (by decide)) k, fun k hk => absurd hk (by omega)⟩
  | succ k ih =>
    intro i Wc hi ⟨g1, g2⟩
    show jb_J _ RX12 cX12_move 7 (Option.some .int) false 2 0 0 115 [some (.ref 105), some (.int (nI s)), some (.int (nI a)), some (.int (nI u)), some (.int (nI c)), some (.int (nI k9)), some (.int (nI i))] [] [s0, s1, s2, s3, s4, s5, s6, s7, s8, s9, jb_mdl I J d e kp nm Wc, s11] _
    refine jb_iload (pc' := 117) dX12_move_115 rfl rfl ?_
    refine jb_iload (pc' := 119) dX12_move_117 rfl rfl ?_
    refine jb_icmp_ge (tgt := 149) (pc' := 122) dX12_move_119 (by decide) rfl (fun z => absurd z (nI_ge (a := i) (b := k9) (by omega) (by omega))) (fun _ => ?_)
    refine jb_aload_n (pc' := 123) dX12_move_122 rfl rfl ?_
    refine gf_X12_34 (pc' := 126) (v := .ref 114) dX12_move_123 rfl rfl rfl ?_
    refine jb_iload (pc' := 128) dX12_move_126 rfl rfl ?_
    refine jb_aload_n (pc' := 129) dX12_move_128 rfl rfl ?_
    refine gf_X12_31 (pc' := 132) (v := .ref 113) dX12_move_129 rfl rfl rfl ?_
    refine jb_bipush (pc' := 134) 40 dX12_move_132 (by decide) rfl ?_
    refine jb_iload_n (pc' := 135) dX12_move_134 rfl rfl ?_
    refine jb_imul (pc' := 136) dX12_move_135 rfl ?_
    refine jb_top (v := .int (40 * (nI s))) (w := .int (nI (40 * s))) (jb_vI (pk_mul 40 _)) ?_
    refine jb_iload_n (pc' := 137) dX12_move_136 rfl rfl ?_
    refine jb_iadd (pc' := 138) dX12_move_137 rfl ?_
    refine jb_top (v := .int ((nI (40 * s)) + (nI a))) (w := .int (nI (40 * s + a))) (jb_vI (nI_add _ _)) ?_
    refine jb_iload (pc' := 140) dX12_move_138 rfl rfl ?_
    refine jb_iadd (pc' := 141) dX12_move_140 rfl ?_
    refine jb_top (v := .int ((nI (40 * s + a)) + (nI i))) (w := .int (nI (40 * s + a + i))) (jb_vI (nI_add _ _)) ?_
    refine jb_iaload (pc' := 142) (i9 := (40 * s + a + i)) (f := (Wc 3)) dX12_move_141 rfl (jb_ix_nI (by omega)) (by omega) rfl ?_
    refine jb_iastore (pc' := 143) (i9 := i) (f := (Wc 4)) (h' := [s0, s1, s2, s3, s4, s5, s6, s7, s8, s9, jb_mdl I J d e kp nm (va_up Wc 4 (upd (Wc 4) i ((Wc 3) (40 * s + a + i)))), s11]) dX12_move_142 rfl (jb_ix_nI (by omega)) (by omega) rfl rfl ?_
    refine jb_iinc_ (pc' := 146) (nI (i + 1)) dX12_move_143 (by decide) rfl (jb_inc i 1) (jb_at6 rfl) rfl ?_
    refine jb_goto (pc' := 115) dX12_move_146 (by decide) ?_
    refine ih (i + 1) (va_up Wc 4 (upd (Wc 4) i ((Wc 3) (40 * s + a + i)))) (by omega) ⟨fun r h4 => (va_ne h4).trans (g1 r h4), fun k hk => ?_⟩
    show upd (Wc 4) i (Wc 3 (40 * s + a + i)) k = _
    by_cases e : k = i
    · rw [e]; exact jb_uee.trans (congrFun (g1 3 (by decide)) _)
    · rw [jb_une e]; exact g2 k (by omega)
set_option maxRecDepth 100000 in
set_option maxHeartbeats 4000000 in
theorem mx_move {sc : Nat × (Nat → Int32)} {s0 s1 s2 s3 s4 s5 s6 s7 s8 s9 s11 : List va_E} (I J d e kp nm : Nat → Int32) (W : Nat → Nat → Int32) (s u : Nat) (hs : s < 4) (hu : u < 4) {bs zs : Nat} (h1s : W 1 s = nI bs) (h2s : W 2 s = nI zs) (hbs : bs ≤ 32) (hzs : zs ≤ 40) {bu zu : Nat} (h1u : W 1 u = nI bu) (h2u : W 2 u = nI zu) (hbu : bu ≤ 32) (hzu : zu ≤ 40) (hm : ¬ bs = 0) (hm2 : ¬ bu = 0) (hbb : bs = bu) (a c k9 : Nat) (h1 : a + k9 ≤ zs) (h2 : c + k9 ≤ zu) : jb_C sc yX12_move cX12_move 7 (Option.some .int) 2 0 0 [.ref 105, .int (nI s), .int (nI a), .int (nI u), .int (nI c), .int (nI k9)] [s0, s1, s2, s3, s4, s5, s6, s7, s8, s9, jb_mdl I J d e kp nm W, s11] (fun r h9 => r = some (.int (nI k9)) ∧ ∃ W9, (∀ r, ¬ r = 3 → ¬ r = 4 → W9 r = W r) ∧ (∀ k, (k < 40 * u + c ∨ 40 * u + c + k9 ≤ k) → W9 3 k = W 3 k) ∧ (∀ k, k < k9 → W9 3 (40 * u + c + k) = W 3 (40 * s + a + k)) ∧ h9 = [s0, s1, s2, s3, s4, s5, s6, s7, s8, s9, jb_mdl I J d e kp nm W9, s11]) := by
  refine jb_CofJ (ini := false) (by decide +kernel) (fun h => by cases h) (Nat.le_of_ble_eq_true rfl) ?_
  show jb_J sc RX12 cX12_move 7 (Option.some .int) false 2 0 0 0 [some (.ref 105), some (.int (nI s)), some (.int (nI a)), some (.int (nI u)), some (.int (nI c)), some (.int (nI k9)), none] [] [s0, s1, s2, s3, s4, s5, s6, s7, s8, s9, jb_mdl I J d e kp nm W, s11] _
  refine jb_iload_n (pc' := 1) dX12_move_0 rfl rfl ?_
  refine jb_callS (pc' := 4) (As := [.int (nI s)]) (a2 := 0) (b2 := 0) wv_X12_223 dX12_move_1 (c_isSheetG _ s (by omega)) rfl ⟨by decide, Nat.le_of_eq (Nat.zero_add _), Nat.le_of_eq (Nat.zero_add _)⟩ (Nat.le_of_ble_eq_true rfl) rfl (fun r h9 hq => ?_)
  obtain ⟨rfl, rfl⟩ := hq
  show jb_J _ RX12 cX12_move 7 (Option.some .int) false 2 0 0 4 [some (.ref 105), some (.int (nI s)), some (.int (nI a)), some (.int (nI u)), some (.int (nI c)), some (.int (nI k9)), none] [.int 1] [s0, s1, s2, s3, s4, s5, s6, s7, s8, s9, jb_mdl I J d e kp nm W, s11] _
  refine jb_if_eq (tgt := 14) (pc' := 7) dX12_move_4 (by decide) rfl (fun z => absurd z (by decide)) (fun _ => ?_)
  refine jb_iload_n (pc' := 8) dX12_move_7 rfl rfl ?_
  refine jb_callS (pc' := 11) (As := [.int (nI u)]) (a2 := 0) (b2 := 0) wv_X12_223 dX12_move_8 (c_isSheetG _ u (by omega)) rfl ⟨by decide, Nat.le_of_eq (Nat.zero_add _), Nat.le_of_eq (Nat.zero_add _)⟩ (Nat.le_of_ble_eq_true rfl) rfl (fun r h9 hq => ?_)
  obtain ⟨rfl, rfl⟩ := hq
  show jb_J _ RX12 cX12_move 7 (Option.some .int) false 2 0 0 11 [some (.ref 105), some (.int (nI s)), some (.int (nI a)), some (.int (nI u)), some (.int (nI c)), some (.int (nI k9)), none] [.int 1] [s0, s1, s2, s3, s4, s5, s6, s7, s8, s9, jb_mdl I J d e kp nm W, s11] _
  refine jb_if_ne (tgt := 20) (pc' := 14) dX12_move_11 (by decide) rfl (fun _ => ?_) (fun z => absurd z (by decide))
  refine jb_aload_n (pc' := 21) dX12_move_20 rfl rfl ?_
  refine gf_X12_25 (pc' := 24) (v := .ref 111) dX12_move_21 rfl rfl rfl ?_
  refine jb_iload_n (pc' := 25) dX12_move_24 rfl rfl ?_
  refine jb_iaload (pc' := 26) (i9 := s) (f := (W 1)) dX12_move_25 rfl (jb_ix_nI (by omega)) (by omega) rfl ?_
  refine jb_top (v := .int ((W 1) s)) (w := .int (nI bs)) (jb_vI h1s) ?_
  refine jb_if_eq (tgt := 38) (pc' := 29) dX12_move_26 (by decide) rfl (fun z => absurd z (nI_ne0 (n := bs) (by omega) (by omega))) (fun _ => ?_)
  refine jb_aload_n (pc' := 30) dX12_move_29 rfl rfl ?_
  refine gf_X12_25 (pc' := 33) (v := .ref 111) dX12_move_30 rfl rfl rfl ?_
  refine jb_iload_n (pc' := 34) dX12_move_33 rfl rfl ?_
  refine jb_iaload (pc' := 35) (i9 := u) (f := (W 1)) dX12_move_34 rfl (jb_ix_nI (by omega)) (by omega) rfl ?_
  refine jb_top (v := .int ((W 1) u)) (w := .int (nI bu)) (jb_vI h1u) ?_
  refine jb_if_ne (tgt := 44) (pc' := 38) dX12_move_35 (by decide) rfl (fun _ => ?_) (fun z => absurd z (nI_ne0 (n := bu) (by omega) (by omega)))
  refine jb_aload_n (pc' := 45) dX12_move_44 rfl rfl ?_
  refine gf_X12_25 (pc' := 48) (v := .ref 111) dX12_move_45 rfl rfl rfl ?_
  refine jb_iload_n (pc' := 49) dX12_move_48 rfl rfl ?_
  refine jb_iaload (pc' := 50) (i9 := s) (f := (W 1)) dX12_move_49 rfl (jb_ix_nI (by omega)) (by omega) rfl ?_
  refine jb_top (v := .int ((W 1) s)) (w := .int (nI bs)) (jb_vI h1s) ?_
  refine jb_aload_n (pc' := 51) dX12_move_50 rfl rfl ?_
  refine gf_X12_25 (pc' := 54) (v := .ref 111) dX12_move_51 rfl rfl rfl ?_
  refine jb_iload_n (pc' := 55) dX12_move_54 rfl rfl ?_
  refine jb_iaload (pc' := 56) (i9 := u) (f := (W 1)) dX12_move_55 rfl (jb_ix_nI (by omega)) (by omega) rfl ?_
  refine jb_top (v := .int ((W 1) u)) (w := .int (nI bu)) (jb_vI h1u) ?_
  refine jb_icmp_eq (tgt := 65) (pc' := 59) dX12_move_56 (by decide) rfl (fun _ => ?_) (fun z => absurd (congrArg nI hbb) z)
  refine jb_iload (pc' := 67) dX12_move_65 rfl rfl ?_
  refine jb_if_lt (tgt := 106) (pc' := 70) dX12_move_67 (by decide) rfl (fun z => absurd z (nI_pos (n := k9) (by omega))) (fun _ => ?_)
  refine jb_iload_n (pc' := 71) dX12_move_70 rfl rfl ?_
  refine jb_if_lt (tgt := 106) (pc' := 74) dX12_move_71 (by decide) rfl (fun z => absurd z (nI_pos (n := a) (by omega))) (fun _ => ?_)
  refine jb_iload (pc' := 76) dX12_move_74 rfl rfl ?_
  refine jb_if_lt (tgt := 106) (pc' := 79) dX12_move_76 (by decide) rfl (fun z => absurd z (nI_pos (n := c) (by omega))) (fun _ => ?_)
  refine jb_iload (pc' := 81) dX12_move_79 rfl rfl ?_
  refine jb_aload_n (pc' := 82) dX12_move_81 rfl rfl ?_
  refine gf_X12_28 (pc' := 85) (v := .ref 112) dX12_move_82 rfl rfl rfl ?_
  refine jb_iload_n (pc' := 86) dX12_move_85 rfl rfl ?_
  refine jb_iaload (pc' := 87) (i9 := s) (f := (W 2)) dX12_move_86 rfl (jb_ix_nI (by omega)) (by omega) rfl ?_
  refine jb_top (v := .int ((W 2) s)) (w := .int (nI zs)) (jb_vI h2s) ?_
  refine jb_iload_n (pc' := 88) dX12_move_87 rfl rfl ?_
  refine jb_isub (pc' := 89) dX12_move_88 rfl ?_
  refine jb_icmp_gt (tgt := 106) (pc' := 92) dX12_move_89 (by decide) rfl (fun z => absurd z (by rw [pk_sub (a := zs) (b := a) (by omega)]; exact nI_nlt (a := zs - a) (b := k9) (by omega) (by omega))) (fun _ => ?_)
  refine jb_iload (pc' := 94) dX12_move_92 rfl rfl ?_
  refine jb_aload_n (pc' := 95) dX12_move_94 rfl rfl ?_
  refine gf_X12_28 (pc' := 98) (v := .ref 112) dX12_move_95 rfl rfl rfl ?_
  refine jb_iload_n (pc' := 99) dX12_move_98 rfl rfl ?_
  refine jb_iaload (pc' := 100) (i9 := u) (f := (W 2)) dX12_move_99 rfl (jb_ix_nI (by omega)) (by omega) rfl ?_
  refine jb_top (v := .int ((W 2) u)) (w := .int (nI zu)) (jb_vI h2u) ?_
  refine jb_iload (pc' := 102) dX12_move_100 rfl rfl ?_
  refine jb_isub (pc' := 103) dX12_move_102 rfl ?_
  refine jb_icmp_le (tgt := 112) (pc' := 106) dX12_move_103 (by decide) rfl (fun _ => ?_) (fun z => absurd (by rw [pk_sub (a := zu) (b := c) (by omega)]; exact nI_le (a := k9) (b := zu - c) (by omega) (by omega)) z)
  refine jb_iconst (pc' := 113) 0 dX12_move_112 (by decide) rfl ?_
  refine jb_istore_ (pc' := 115) dX12_move_113 (by decide) (jb_at6 rfl) rfl ?_
  exact l_move1 I J d e kp nm W s a u c k9 hs hu (by omega) (by omega) k9 0 W (by omega) ⟨fun _ _ => rfl, fun k hk => absurd hk (by omega)⟩
set_option maxRecDepth 100000 in
set_option maxHeartbeats 4000000 in
theorem c_whyNot {sc : Nat × (Nat → Int32)} {s0 s1 s2 s3 s4 s5 s6 s7 s8 s9 s11 : List va_E} (I J d e kp nm : Nat → Int32) (W : Nat → Nat → Int32) (s : Nat) (hs : s < 4) {bs zs : Nat} (h1s : W 1 s = nI bs) (h2s : W 2 s = nI zs) (hbs : bs ≤ 32) (hzs : zs ≤ 40) : jb_C sc yX12_whyNot cX12_whyNot 2 (Option.some .int) 2 0 0 [.ref 105, .int (nI s)] [s0, s1, s2, s3, s4, s5, s6, s7, s8, s9, jb_mdl I J d e kp nm W, s11] (fun r h9 => [s0, s1, s2, s3, s4, s5, s6, s7, s8, s9, jb_mdl I J d e kp nm W, s11] = h9 ∧ ((bs = 0 ∧ r = some (.int 2)) ∨ (¬ bs = 0 ∧ r = some (.int 0)))) := by
  refine jb_CofJ (ini := false) (by decide +kernel) (fun h => by cases h) (Nat.le_of_ble_eq_true rfl) ?_
  show jb_J sc RX12 cX12_whyNot 2 (Option.some .int) false 2 0 0 0 [some (.ref 105), some (.int (nI s))] [] [s0, s1, s2, s3, s4, s5, s6, s7, s8, s9, jb_mdl I J d e kp nm W, s11] _
  refine jb_iload_n (pc' := 1) dX12_whyNot_0 rfl rfl ?_
  refine jb_callS (pc' := 4) (As := [.int (nI s)]) (a2 := 0) (b2 := 0) wv_X12_223 dX12_whyNot_1 (c_isSheetG _ s (by omega)) rfl ⟨by decide, Nat.le_of_eq (Nat.zero_add _), Nat.le_of_eq (Nat.zero_add _)⟩ (Nat.le_of_ble_eq_true rfl) rfl (fun r h9 hq => ?_)
  obtain ⟨rfl, rfl⟩ := hq
  show jb_J _ RX12 cX12_whyNot 2 (Option.some .int) false 2 0 0 4 [some (.ref 105), some (.int (nI s))] [.int 1] [s0, s1, s2, s3, s4, s5, s6, s7, s8, s9, jb_mdl I J d e kp nm W, s11] _
  refine jb_if_ne (tgt := 11) (pc' := 7) dX12_whyNot_4 (by decide) rfl (fun _ => ?_) (fun z => absurd z (by decide))
  refine jb_aload_n (pc' := 12) dX12_whyNot_11 rfl rfl ?_
  refine gf_X12_25 (pc' := 15) (v := .ref 111) dX12_whyNot_12 rfl rfl rfl ?_
  refine jb_iload_n (pc' := 16) dX12_whyNot_15 rfl rfl ?_
  refine jb_iaload (pc' := 17) (i9 := s) (f := (W 1)) dX12_whyNot_16 rfl (jb_ix_nI (by omega)) (by omega) rfl ?_
  refine jb_top (v := .int ((W 1) s)) (w := .int (nI bs)) (jb_vI h1s) ?_
  refine jb_if_ne (tgt := 24) (pc' := 20) dX12_whyNot_17 (by decide) rfl (fun c4 => ?_) (fun c4 => ?_)
  · have c4 : ¬ bs = 0 := fun z9 => c4 ((nI_eq (a := bs) (b := 0) (by omega) (by omega)).mpr z9)
    refine jb_iconst (pc' := 25) 0 dX12_whyNot_24 (by decide) rfl ?_
    refine jb_iret dX12_whyNot_25 rfl ?_
    exact ⟨rfl, Or.inr ⟨by omega, rfl⟩⟩
  · have c4 : bs = 0 := (nI_eq (a := bs) (b := 0) (by omega) (by omega)).mp c4
    refine jb_iconst (pc' := 21) 2 dX12_whyNot_20 (by decide) rfl ?_
    refine jb_goto (pc' := 25) dX12_whyNot_21 (by decide) ?_
    refine jb_iret dX12_whyNot_25 rfl ?_
    exact ⟨rfl, Or.inl ⟨by omega, rfl⟩⟩
set_option maxRecDepth 100000 in
set_option maxHeartbeats 4000000 in
theorem c_whyNot1 {sc : Nat × (Nat → Int32)} {s0 s1 s2 s3 s4 s5 s6 s7 s8 s9 s11 : List va_E} (I J d e kp nm : Nat → Int32) (W : Nat → Nat → Int32) (s : Int32) (hb : ¬ jn_b s 0 4) : jb_C sc yX12_whyNot cX12_whyNot 2 (Option.some .int) 2 0 0 [.ref 105, .int s] [s0, s1, s2, s3, s4, s5, s6, s7, s8, s9, jb_mdl I J d e kp nm W, s11] (fun r h9 => r = some (.int 1) ∧ h9 = [s0, s1, s2, s3, s4, s5, s6, s7, s8, s9, jb_mdl I J d e kp nm W, s11]) := by
  refine jb_CofJ (ini := false) (by decide +kernel) (fun h => by cases h) (Nat.le_of_ble_eq_true rfl) ?_
  show jb_J sc RX12 cX12_whyNot 2 (Option.some .int) false 2 0 0 0 [some (.ref 105), some (.int s)] [] [s0, s1, s2, s3, s4, s5, s6, s7, s8, s9, jb_mdl I J d e kp nm W, s11] _
  refine jb_iload_n (pc' := 1) dX12_whyNot_0 rfl rfl ?_
  refine jb_callS (pc' := 4) (As := [.int s]) (a2 := 0) (b2 := 0) wv_X12_223 dX12_whyNot_1 (c_isSheet _ s) rfl ⟨by decide, Nat.le_of_eq (Nat.zero_add _), Nat.le_of_eq (Nat.zero_add _)⟩ (Nat.le_of_ble_eq_true rfl) rfl (fun r h9 hq => ?_)
  rcases hq with ⟨rfl, ⟨o1, rfl⟩ | ⟨o1, rfl⟩⟩
  · exact absurd (by assumption) hb
  · show jb_J _ RX12 cX12_whyNot 2 (Option.some .int) false 2 0 0 4 [some (.ref 105), some (.int s)] [.int 0] [s0, s1, s2, s3, s4, s5, s6, s7, s8, s9, jb_mdl I J d e kp nm W, s11] _
    refine jb_if_ne (tgt := 11) (pc' := 7) dX12_whyNot_4 (by decide) rfl (fun z => absurd (by decide) z) (fun _ => ?_)
    refine jb_iconst (pc' := 8) 1 dX12_whyNot_7 (by decide) rfl ?_
    refine jb_goto (pc' := 25) dX12_whyNot_8 (by decide) ?_
    refine jb_iret dX12_whyNot_25 rfl ?_
    exact ⟨rfl, rfl⟩
set_option maxRecDepth 100000 in
set_option maxHeartbeats 4000000 in
theorem me_lesson {sc : Nat × (Nat → Int32)} {s0 s1 s2 s3 s4 s5 s6 s7 s8 s9 s11 : List va_E} (I J d e kp nm : Nat → Int32) (W : Nat → Nat → Int32) (s : Int32) (hb : ¬ jn_b s 0 4) : jb_C sc yX12_lesson cX12_lesson 6 (Option.some .int) 3 0 0 [.ref 105, .int s] [s0, s1, s2, s3, s4, s5, s6, s7, s8, s9, jb_mdl I J d e kp nm W, s11] (fun r h9 => r = some (.int (jm_er 1)) ∧ h9 = [s0, s1, s2, s3, s4, s5, s6, s7, s8, s9, jb_mdl I J d e kp nm (va_up W 0 (jm_ef (W 0) 1)), s11]) := by
  refine jb_CofJ (ini := false) (by decide +kernel) (fun h => by cases h) (Nat.le_of_ble_eq_true rfl) ?_
  show jb_J sc RX12 cX12_lesson 6 (Option.some .int) false 3 0 0 0 [some (.ref 105), some (.int s), none, none, none, none] [] [s0, s1, s2, s3, s4, s5, s6, s7, s8, s9, jb_mdl I J d e kp nm W, s11] _
  refine jb_aload_n (pc' := 1) dX12_lesson_0 rfl rfl ?_
  refine jb_iload_n (pc' := 2) dX12_lesson_1 rfl rfl ?_
  refine jb_callV (pc' := 5) (ci := 12) (q := 105) (As := [.int s]) (a2 := 0) (b2 := 0) wv_X12_236 rfl dX12_lesson_2 (c_whyNot1 I J d e kp nm W s hb) rfl rfl ⟨by decide, Nat.le_of_eq (Nat.zero_add _), Nat.le_of_eq (Nat.zero_add _)⟩ (Nat.le_of_ble_eq_true rfl) rfl (fun r h9 hq => ?_)
  obtain ⟨rfl, rfl⟩ := hq
  show jb_J _ RX12 cX12_lesson 6 (Option.some .int) false 3 0 0 5 [some (.ref 105), some (.int s), none, none, none, none] [.int 1] [s0, s1, s2, s3, s4, s5, s6, s7, s8, s9, jb_mdl I J d e kp nm W, s11] _
  refine jb_istore_n_ (pc' := 6) dX12_lesson_5 (by decide) (jb_at2 rfl) rfl ?_
  refine jb_iload_n (pc' := 7) dX12_lesson_6 rfl rfl ?_
  refine jb_if_eq (tgt := 16) (pc' := 10) dX12_lesson_7 (by decide) rfl (fun z => absurd z (by decide)) (fun _ => ?_)
  refine jb_aload_n (pc' := 11) dX12_lesson_10 rfl rfl ?_
  refine jb_iload_n (pc' := 12) dX12_lesson_11 rfl rfl ?_
  refine jb_callV (pc' := 15) (ci := 12) (q := 105) (As := [.int 1]) (a2 := 0) (b2 := 0) wv_X12_121 rfl dX12_lesson_12 (c_finds I J d e kp nm W 1 (by decide)) rfl rfl ⟨by decide, Nat.le_of_eq (Nat.zero_add _), Nat.le_of_eq (Nat.zero_add _)⟩ (Nat.le_of_ble_eq_true rfl) rfl (fun r h9 hq => ?_)
  obtain ⟨rfl, rfl⟩ := hq
  show jb_J _ RX12 cX12_lesson 6 (Option.some .int) false 3 0 0 15 [some (.ref 105), some (.int s), some (.int 1), none, none, none] [.int (jm_er 1)] [s0, s1, s2, s3, s4, s5, s6, s7, s8, s9, jb_mdl I J d e kp nm (va_up W 0 (jm_ef (W 0) 1)), s11] _
  refine jb_iret dX12_lesson_15 rfl ?_
  exact ⟨rfl, rfl⟩
set_option maxRecDepth 100000 in
set_option maxHeartbeats 4000000 in
theorem me_lessonN {sc : Nat × (Nat → Int32)} {s0 s1 s2 s3 s4 s5 s6 s7 s8 s9 s11 : List va_E} (I J d e kp nm : Nat → Int32) (W : Nat → Nat → Int32) (s : Nat) (hs : s < 4) {bs zs : Nat} (h1s : W 1 s = nI bs) (h2s : W 2 s = nI zs) (hbs : bs ≤ 32) (hzs : zs ≤ 40) (hm : bs = 0) : jb_C sc yX12_lesson cX12_lesson 6 (Option.some .int) 3 0 0 [.ref 105, .int (nI s)] [s0, s1, s2, s3, s4, s5, s6, s7, s8, s9, jb_mdl I J d e kp nm W, s11] (fun r h9 => r = some (.int (jm_er 2)) ∧ h9 = [s0, s1, s2, s3, s4, s5, s6, s7, s8, s9, jb_mdl I J d e kp nm (va_up W 0 (jm_ef (W 0) 2)), s11]) := by
  refine jb_CofJ (ini := false) (by decide +kernel) (fun h => by cases h) (Nat.le_of_ble_eq_true rfl) ?_
  show jb_J sc RX12 cX12_lesson 6 (Option.some .int) false 3 0 0 0 [some (.ref 105), some (.int (nI s)), none, none, none, none] [] [s0, s1, s2, s3, s4, s5, s6, s7, s8, s9, jb_mdl I J d e kp nm W, s11] _
  refine jb_aload_n (pc' := 1) dX12_lesson_0 rfl rfl ?_
  refine jb_iload_n (pc' := 2) dX12_lesson_1 rfl rfl ?_
  refine jb_callV (pc' := 5) (ci := 12) (q := 105) (As := [.int (nI s)]) (a2 := 0) (b2 := 0) wv_X12_236 rfl dX12_lesson_2 (c_whyNot I J d e kp nm W s hs h1s h2s hbs hzs) rfl rfl ⟨by decide, Nat.le_of_eq (Nat.zero_add _), Nat.le_of_eq (Nat.zero_add _)⟩ (Nat.le_of_ble_eq_true rfl) rfl (fun r h9 hq => ?_)
  rcases hq with ⟨rfl, ⟨hms, rfl⟩ | ⟨hms, rfl⟩⟩
  · show jb_J _ RX12 cX12_lesson 6 (Option.some .int) false 3 0 0 5 [some (.ref 105), some (.int (nI s)), none, none, none, none] [.int 2] [s0, s1, s2, s3, s4, s5, s6, s7, s8, s9, jb_mdl I J d e kp nm W, s11] _
    refine jb_istore_n_ (pc' := 6) dX12_lesson_5 (by decide) (jb_at2 rfl) rfl ?_
    refine jb_iload_n (pc' := 7) dX12_lesson_6 rfl rfl ?_
    refine jb_if_eq (tgt := 16) (pc' := 10) dX12_lesson_7 (by decide) rfl (fun z => absurd z (by decide)) (fun _ => ?_)
    refine jb_aload_n (pc' := 11) dX12_lesson_10 rfl rfl ?_
    refine jb_iload_n (pc' := 12) dX12_lesson_11 rfl rfl ?_
    refine jb_callV (pc' := 15) (ci := 12) (q := 105) (As := [.int 2]) (a2 := 0) (b2 := 0) wv_X12_121 rfl dX12_lesson_12 (c_finds I J d e kp nm W 2 (by decide)) rfl rfl ⟨by decide, Nat.le_of_eq (Nat.zero_add _), Nat.le_of_eq (Nat.zero_add _)⟩ (Nat.le_of_ble_eq_true rfl) rfl (fun r h9 hq => ?_)
    obtain ⟨rfl, rfl⟩ := hq
    show jb_J _ RX12 cX12_lesson 6 (Option.some .int) false 3 0 0 15 [some (.ref 105), some (.int (nI s)), some (.int 2), none, none, none] [.int (jm_er 2)] [s0, s1, s2, s3, s4, s5, s6, s7, s8, s9, jb_mdl I J d e kp nm (va_up W 0 (jm_ef (W 0) 2)), s11] _
    refine jb_iret dX12_lesson_15 rfl ?_
    exact ⟨rfl, rfl⟩
  · exact absurd hm hms
set_option maxRecDepth 100000 in
set_option maxHeartbeats 4000000 in
theorem me_poemW {sc : Nat × (Nat → Int32)} {s0 s1 s2 s3 s4 s5 s6 s7 s8 s9 s11 : List va_E} (I J d e kp nm : Nat → Int32) (W : Nat → Nat → Int32) (s w : Int32) (hb : ¬ jn_b w 0 2) : jb_C sc yX12_poem cX12_poem 8 (Option.some .int) 3 0 0 [.ref 105, .int s, .int w] [s0, s1, s2, s3, s4, s5, s6, s7, s8, s9, jb_mdl I J d e kp nm W, s11] (fun r h9 => r = some (.int (jm_er 1)) ∧ h9 = [s0, s1, s2, s3, s4, s5, s6, s7, s8, s9, jb_mdl I J d e kp nm (va_up W 0 (jm_ef (W 0) 1)), s11]) := by
  refine jb_CofJ (ini := false) (by decide +kernel) (fun h => by cases h) (Nat.le_of_ble_eq_true rfl) ?_
  show jb_J sc RX12 cX12_poem 8 (Option.some .int) false 3 0 0 0 [some (.ref 105), some (.int s), some (.int w), none, none, none, none, none] [] [s0, s1, s2, s3, s4, s5, s6, s7, s8, s9, jb_mdl I J d e kp nm W, s11] _
  refine jb_iload_n (pc' := 1) dX12_poem_0 rfl rfl ?_
  refine jb_i2l (pc' := 2) dX12_poem_1 rfl ?_
  refine jb_lconst (pc' := 3) 0 dX12_poem_2 (by decide) rfl ?_
  refine jb_lconst (pc' := 4) 1 dX12_poem_3 (by decide) rfl ?_
  refine jb_callS (pc' := 7) (As := [.long w.toInt64, .long 0, .long 1]) (a2 := 0) (b2 := 0) wv_X12_56 dX12_poem_4 (c_inL _ w 0 1 (by omega) (by omega)) rfl ⟨by decide, Nat.le_of_eq (Nat.zero_add _), Nat.le_of_eq (Nat.zero_add _)⟩ (Nat.le_of_ble_eq_true rfl) rfl (fun r h9 hq => ?_)
  rcases hq with ⟨rfl, ⟨o1, rfl⟩ | ⟨o1, rfl⟩⟩
  · exact absurd (by assumption) hb
  · show jb_J _ RX12 cX12_poem 8 (Option.some .int) false 3 0 0 7 [some (.ref 105), some (.int s), some (.int w), none, none, none, none, none] [.int 0] [s0, s1, s2, s3, s4, s5, s6, s7, s8, s9, jb_mdl I J d e kp nm W, s11] _
    refine jb_if_ne (tgt := 14) (pc' := 10) dX12_poem_7 (by decide) rfl (fun z => absurd (by decide) z) (fun _ => ?_)
    refine jb_iconst (pc' := 11) 1 dX12_poem_10 (by decide) rfl ?_
    refine jb_goto (pc' := 19) dX12_poem_11 (by decide) ?_
    refine jb_istore_n_ (pc' := 20) dX12_poem_19 (by decide) (jb_at3 rfl) rfl ?_
    refine jb_iload_n (pc' := 21) dX12_poem_20 rfl rfl ?_
    refine jb_if_eq (tgt := 30) (pc' := 24) dX12_poem_21 (by decide) rfl (fun z => absurd z (by decide)) (fun _ => ?_)
    refine jb_aload_n (pc' := 25) dX12_poem_24 rfl rfl ?_
    refine jb_iload_n (pc' := 26) dX12_poem_25 rfl rfl ?_
    refine jb_callV (pc' := 29) (ci := 12) (q := 105) (As := [.int 1]) (a2 := 0) (b2 := 0) wv_X12_121 rfl dX12_poem_26 (c_finds I J d e kp nm W 1 (by decide)) rfl rfl ⟨by decide, Nat.le_of_eq (Nat.zero_add _), Nat.le_of_eq (Nat.zero_add _)⟩ (Nat.le_of_ble_eq_true rfl) rfl (fun r h9 hq => ?_)
    obtain ⟨rfl, rfl⟩ := hq
    show jb_J _ RX12 cX12_poem 8 (Option.some .int) false 3 0 0 29 [some (.ref 105), some (.int s), some (.int w), some (.int 1), none, none, none, none] [.int (jm_er 1)] [s0, s1, s2, s3, s4, s5, s6, s7, s8, s9, jb_mdl I J d e kp nm (va_up W 0 (jm_ef (W 0) 1)), s11] _
    refine jb_iret dX12_poem_29 rfl ?_
    exact ⟨rfl, rfl⟩
set_option maxRecDepth 100000 in
set_option maxHeartbeats 4000000 in
theorem me_poemS0 {sc : Nat × (Nat → Int32)} {s0 s1 s2 s3 s4 s5 s6 s7 s8 s9 s11 : List va_E} (I J d e kp nm : Nat → Int32) (W : Nat → Nat → Int32) (s : Int32) (hb : ¬ jn_b s 0 4) : jb_C sc yX12_poem cX12_poem 8 (Option.some .int) 3 0 0 [.ref 105, .int s, .int 0] [s0, s1, s2, s3, s4, s5, s6, s7, s8, s9, jb_mdl I J d e kp nm W, s11] (fun r h9 => r = some (.int (jm_er 1)) ∧ h9 = [s0, s1, s2, s3, s4, s5, s6, s7, s8, s9, jb_mdl I J d e kp nm (va_up W 0 (jm_ef (W 0) 1)), s11]) := by
  refine jb_CofJ (ini := false) (by decide +kernel) (fun h => by cases h) (Nat.le_of_ble_eq_true rfl) ?_
  show jb_J sc RX12 cX12_poem 8 (Option.some .int) false 3 0 0 0 [some (.ref 105), some (.int s), some (.int 0), none, none, none, none, none] [] [s0, s1, s2, s3, s4, s5, s6, s7, s8, s9, jb_mdl I J d e kp nm W, s11] _
  refine jb_iload_n (pc' := 1) dX12_poem_0 rfl rfl ?_
  refine jb_i2l (pc' := 2) dX12_poem_1 rfl ?_
  refine jb_lconst (pc' := 3) 0 dX12_poem_2 (by decide) rfl ?_
  refine jb_lconst (pc' := 4) 1 dX12_poem_3 (by decide) rfl ?_
  refine jb_callS (pc' := 7) (As := [.long ((0 : Int32).toInt64), .long 0, .long 1]) (a2 := 0) (b2 := 0) wv_X12_56 dX12_poem_4 (c_inLG _ 0 0 1 (by omega) (by omega) (by omega)) rfl ⟨by decide, Nat.le_of_eq (Nat.zero_add _), Nat.le_of_eq (Nat.zero_add _)⟩ (Nat.le_of_ble_eq_true rfl) rfl (fun r h9 hq => ?_)
  obtain ⟨rfl, rfl⟩ := hq
  show jb_J _ RX12 cX12_poem 8 (Option.some .int) false 3 0 0 7 [some (.ref 105), some (.int s), some (.int 0), none, none, none, none, none] [.int 1] [s0, s1, s2, s3, s4, s5, s6, s7, s8, s9, jb_mdl I J d e kp nm W, s11] _
  refine jb_if_ne (tgt := 14) (pc' := 10) dX12_poem_7 (by decide) rfl (fun _ => ?_) (fun z => absurd z (by decide))
  refine jb_aload_n (pc' := 15) dX12_poem_14 rfl rfl ?_
  refine jb_iload_n (pc' := 16) dX12_poem_15 rfl rfl ?_
  refine jb_callV (pc' := 19) (ci := 12) (q := 105) (As := [.int s]) (a2 := 0) (b2 := 0) wv_X12_236 rfl dX12_poem_16 (c_whyNot1 I J d e kp nm W s hb) rfl rfl ⟨by decide, Nat.le_of_eq (Nat.zero_add _), Nat.le_of_eq (Nat.zero_add _)⟩ (Nat.le_of_ble_eq_true rfl) rfl (fun r h9 hq => ?_)
  obtain ⟨rfl, rfl⟩ := hq
  show jb_J _ RX12 cX12_poem 8 (Option.some .int) false 3 0 0 19 [some (.ref 105), some (.int s), some (.int 0), none, none, none, none, none] [.int 1] [s0, s1, s2, s3, s4, s5, s6, s7, s8, s9, jb_mdl I J d e kp nm W, s11] _
  refine jb_istore_n_ (pc' := 20) dX12_poem_19 (by decide) (jb_at3 rfl) rfl ?_
  refine jb_iload_n (pc' := 21) dX12_poem_20 rfl rfl ?_
  refine jb_if_eq (tgt := 30) (pc' := 24) dX12_poem_21 (by decide) rfl (fun z => absurd z (by decide)) (fun _ => ?_)
  refine jb_aload_n (pc' := 25) dX12_poem_24 rfl rfl ?_
  refine jb_iload_n (pc' := 26) dX12_poem_25 rfl rfl ?_
  refine jb_callV (pc' := 29) (ci := 12) (q := 105) (As := [.int 1]) (a2 := 0) (b2 := 0) wv_X12_121 rfl dX12_poem_26 (c_finds I J d e kp nm W 1 (by decide)) rfl rfl ⟨by decide, Nat.le_of_eq (Nat.zero_add _), Nat.le_of_eq (Nat.zero_add _)⟩ (Nat.le_of_ble_eq_true rfl) rfl (fun r h9 hq => ?_)
  obtain ⟨rfl, rfl⟩ := hq
  show jb_J _ RX12 cX12_poem 8 (Option.some .int) false 3 0 0 29 [some (.ref 105), some (.int s), some (.int 0), some (.int 1), none, none, none, none] [.int (jm_er 1)] [s0, s1, s2, s3, s4, s5, s6, s7, s8, s9, jb_mdl I J d e kp nm (va_up W 0 (jm_ef (W 0) 1)), s11] _
  refine jb_iret dX12_poem_29 rfl ?_
  exact ⟨rfl, rfl⟩
set_option maxRecDepth 100000 in
set_option maxHeartbeats 4000000 in
theorem me_poemN0 {sc : Nat × (Nat → Int32)} {s0 s1 s2 s3 s4 s5 s6 s7 s8 s9 s11 : List va_E} (I J d e kp nm : Nat → Int32) (W : Nat → Nat → Int32) (s : Nat) (hs : s < 4) {bs zs : Nat} (h1s : W 1 s = nI bs) (h2s : W 2 s = nI zs) (hbs : bs ≤ 32) (hzs : zs ≤ 40) (hm : bs = 0) : jb_C sc yX12_poem cX12_poem 8 (Option.some .int) 3 0 0 [.ref 105, .int (nI s), .int 0] [s0, s1, s2, s3, s4, s5, s6, s7, s8, s9, jb_mdl I J d e kp nm W, s11] (fun r h9 => r = some (.int (jm_er 2)) ∧ h9 = [s0, s1, s2, s3, s4, s5, s6, s7, s8, s9, jb_mdl I J d e kp nm (va_up W 0 (jm_ef (W 0) 2)), s11]) := by
  refine jb_CofJ (ini := false) (by decide +kernel) (fun h => by cases h) (Nat.le_of_ble_eq_true rfl) ?_
  show jb_J sc RX12 cX12_poem 8 (Option.some .int) false 3 0 0 0 [some (.ref 105), some (.int (nI s)), some (.int 0), none, none, none, none, none] [] [s0, s1, s2, s3, s4, s5, s6, s7, s8, s9, jb_mdl I J d e kp nm W, s11] _
  refine jb_iload_n (pc' := 1) dX12_poem_0 rfl rfl ?_
  refine jb_i2l (pc' := 2) dX12_poem_1 rfl ?_
  refine jb_lconst (pc' := 3) 0 dX12_poem_2 (by decide) rfl ?_
  refine jb_lconst (pc' := 4) 1 dX12_poem_3 (by decide) rfl ?_
  refine jb_callS (pc' := 7) (As := [.long ((0 : Int32).toInt64), .long 0, .long 1]) (a2 := 0) (b2 := 0) wv_X12_56 dX12_poem_4 (c_inLG _ 0 0 1 (by omega) (by omega) (by omega)) rfl ⟨by decide, Nat.le_of_eq (Nat.zero_add _), Nat.le_of_eq (Nat.zero_add _)⟩ (Nat.le_of_ble_eq_true rfl) rfl (fun r h9 hq => ?_)
  obtain ⟨rfl, rfl⟩ := hq
  show jb_J _ RX12 cX12_poem 8 (Option.some .int) false 3 0 0 7 [some (.ref 105), some (.int (nI s)), some (.int 0), none, none, none, none, none] [.int 1] [s0, s1, s2, s3, s4, s5, s6, s7, s8, s9, jb_mdl I J d e kp nm W, s11] _
  refine jb_if_ne (tgt := 14) (pc' := 10) dX12_poem_7 (by decide) rfl (fun _ => ?_) (fun z => absurd z (by decide))
  refine jb_aload_n (pc' := 15) dX12_poem_14 rfl rfl ?_
  refine jb_iload_n (pc' := 16) dX12_poem_15 rfl rfl ?_
  refine jb_callV (pc' := 19) (ci := 12) (q := 105) (As := [.int (nI s)]) (a2 := 0) (b2 := 0) wv_X12_236 rfl dX12_poem_16 (c_whyNot I J d e kp nm W s hs h1s h2s hbs hzs) rfl rfl ⟨by decide, Nat.le_of_eq (Nat.zero_add _), Nat.le_of_eq (Nat.zero_add _)⟩ (Nat.le_of_ble_eq_true rfl) rfl (fun r h9 hq => ?_)
  rcases hq with ⟨rfl, ⟨hms, rfl⟩ | ⟨hms, rfl⟩⟩
  · show jb_J _ RX12 cX12_poem 8 (Option.some .int) false 3 0 0 19 [some (.ref 105), some (.int (nI s)), some (.int 0), none, none, none, none, none] [.int 2] [s0, s1, s2, s3, s4, s5, s6, s7, s8, s9, jb_mdl I J d e kp nm W, s11] _
    refine jb_istore_n_ (pc' := 20) dX12_poem_19 (by decide) (jb_at3 rfl) rfl ?_
    refine jb_iload_n (pc' := 21) dX12_poem_20 rfl rfl ?_
    refine jb_if_eq (tgt := 30) (pc' := 24) dX12_poem_21 (by decide) rfl (fun z => absurd z (by decide)) (fun _ => ?_)
    refine jb_aload_n (pc' := 25) dX12_poem_24 rfl rfl ?_
    refine jb_iload_n (pc' := 26) dX12_poem_25 rfl rfl ?_
    refine jb_callV (pc' := 29) (ci := 12) (q := 105) (As := [.int 2]) (a2 := 0) (b2 := 0) wv_X12_121 rfl dX12_poem_26 (c_finds I J d e kp nm W 2 (by decide)) rfl rfl ⟨by decide, Nat.le_of_eq (Nat.zero_add _), Nat.le_of_eq (Nat.zero_add _)⟩ (Nat.le_of_ble_eq_true rfl) rfl (fun r h9 hq => ?_)
    obtain ⟨rfl, rfl⟩ := hq
    show jb_J _ RX12 cX12_poem 8 (Option.some .int) false 3 0 0 29 [some (.ref 105), some (.int (nI s)), some (.int 0), some (.int 2), none, none, none, none] [.int (jm_er 2)] [s0, s1, s2, s3, s4, s5, s6, s7, s8, s9, jb_mdl I J d e kp nm (va_up W 0 (jm_ef (W 0) 2)), s11] _
    refine jb_iret dX12_poem_29 rfl ?_
    exact ⟨rfl, rfl⟩
  · exact absurd hm hms
set_option maxRecDepth 100000 in
set_option maxHeartbeats 4000000 in
theorem me_poemS1 {sc : Nat × (Nat → Int32)} {s0 s1 s2 s3 s4 s5 s6 s7 s8 s9 s11 : List va_E} (I J d e kp nm : Nat → Int32) (W : Nat → Nat → Int32) (s : Int32) (hb : ¬ jn_b s 0 4) : jb_C sc yX12_poem cX12_poem 8 (Option.some .int) 3 0 0 [.ref 105, .int s, .int 1] [s0, s1, s2, s3, s4, s5, s6, s7, s8, s9, jb_mdl I J d e kp nm W, s11] (fun r h9 => r = some (.int (jm_er 1)) ∧ h9 = [s0, s1, s2, s3, s4, s5, s6, s7, s8, s9, jb_mdl I J d e kp nm (va_up W 0 (jm_ef (W 0) 1)), s11]) := by
  refine jb_CofJ (ini := false) (by decide +kernel) (fun h => by cases h) (Nat.le_of_ble_eq_true rfl) ?_
  show jb_J sc RX12 cX12_poem 8 (Option.some .int) false 3 0 0 0 [some (.ref 105), some (.int s), some (.int 1), none, none, none, none, none] [] [s0, s1, s2, s3, s4, s5, s6, s7, s8, s9, jb_mdl I J d e kp nm W, s11] _
  refine jb_iload_n (pc' := 1) dX12_poem_0 rfl rfl ?_
  refine jb_i2l (pc' := 2) dX12_poem_1 rfl ?_
  refine jb_lconst (pc' := 3) 0 dX12_poem_2 (by decide) rfl ?_
  refine jb_lconst (pc' := 4) 1 dX12_poem_3 (by decide) rfl ?_
  refine jb_callS (pc' := 7) (As := [.long ((1 : Int32).toInt64), .long 0, .long 1]) (a2 := 0) (b2 := 0) wv_X12_56 dX12_poem_4 (c_inLG _ 1 0 1 (by omega) (by omega) (by omega)) rfl ⟨by decide, Nat.le_of_eq (Nat.zero_add _), Nat.le_of_eq (Nat.zero_add _)⟩ (Nat.le_of_ble_eq_true rfl) rfl (fun r h9 hq => ?_)
  obtain ⟨rfl, rfl⟩ := hq
  show jb_J _ RX12 cX12_poem 8 (Option.some .int) false 3 0 0 7 [some (.ref 105), some (.int s), some (.int 1), none, none, none, none, none] [.int 1] [s0, s1, s2, s3, s4, s5, s6, s7, s8, s9, jb_mdl I J d e kp nm W, s11] _
  refine jb_if_ne (tgt := 14) (pc' := 10) dX12_poem_7 (by decide) rfl (fun _ => ?_) (fun z => absurd z (by decide))
  refine jb_aload_n (pc' := 15) dX12_poem_14 rfl rfl ?_
  refine jb_iload_n (pc' := 16) dX12_poem_15 rfl rfl ?_
  refine jb_callV (pc' := 19) (ci := 12) (q := 105) (As := [.int s]) (a2 := 0) (b2 := 0) wv_X12_236 rfl dX12_poem_16 (c_whyNot1 I J d e kp nm W s hb) rfl rfl ⟨by decide, Nat.le_of_eq (Nat.zero_add _), Nat.le_of_eq (Nat.zero_add _)⟩ (Nat.le_of_ble_eq_true rfl) rfl (fun r h9 hq => ?_)
  obtain ⟨rfl, rfl⟩ := hq
  show jb_J _ RX12 cX12_poem 8 (Option.some .int) false 3 0 0 19 [some (.ref 105), some (.int s), some (.int 1), none, none, none, none, none] [.int 1] [s0, s1, s2, s3, s4, s5, s6, s7, s8, s9, jb_mdl I J d e kp nm W, s11] _
  refine jb_istore_n_ (pc' := 20) dX12_poem_19 (by decide) (jb_at3 rfl) rfl ?_
  refine jb_iload_n (pc' := 21) dX12_poem_20 rfl rfl ?_
  refine jb_if_eq (tgt := 30) (pc' := 24) dX12_poem_21 (by decide) rfl (fun z => absurd z (by decide)) (fun _ => ?_)
  refine jb_aload_n (pc' := 25) dX12_poem_24 rfl rfl ?_
  refine jb_iload_n (pc' := 26) dX12_poem_25 rfl rfl ?_
  refine jb_callV (pc' := 29) (ci := 12) (q := 105) (As := [.int 1]) (a2 := 0) (b2 := 0) wv_X12_121 rfl dX12_poem_26 (c_finds I J d e kp nm W 1 (by decide)) rfl rfl ⟨by decide, Nat.le_of_eq (Nat.zero_add _), Nat.le_of_eq (Nat.zero_add _)⟩ (Nat.le_of_ble_eq_true rfl) rfl (fun r h9 hq => ?_)
  obtain ⟨rfl, rfl⟩ := hq
  show jb_J _ RX12 cX12_poem 8 (Option.some .int) false 3 0 0 29 [some (.ref 105), some (.int s), some (.int 1), some (.int 1), none, none, none, none] [.int (jm_er 1)] [s0, s1, s2, s3, s4, s5, s6, s7, s8, s9, jb_mdl I J d e kp nm (va_up W 0 (jm_ef (W 0) 1)), s11] _
  refine jb_iret dX12_poem_29 rfl ?_
  exact ⟨rfl, rfl⟩
set_option maxRecDepth 100000 in
set_option maxHeartbeats 4000000 in
theorem me_poemN1 {sc : Nat × (Nat → Int32)} {s0 s1 s2 s3 s4 s5 s6 s7 s8 s9 s11 : List va_E} (I J d e kp nm : Nat → Int32) (W : Nat → Nat → Int32) (s : Nat) (hs : s < 4) {bs zs : Nat} (h1s : W 1 s = nI bs) (h2s : W 2 s = nI zs) (hbs : bs ≤ 32) (hzs : zs ≤ 40) (hm : bs = 0) : jb_C sc yX12_poem cX12_poem 8 (Option.some .int) 3 0 0 [.ref 105, .int (nI s), .int 1] [s0, s1, s2, s3, s4, s5, s6, s7, s8, s9, jb_mdl I J d e kp nm W, s11] (fun r h9 => r = some (.int (jm_er 2)) ∧ h9 = [s0, s1, s2, s3, s4, s5, s6, s7, s8, s9, jb_mdl I J d e kp nm (va_up W 0 (jm_ef (W 0) 2)), s11]) := by
  refine jb_CofJ (ini := false) (by decide +kernel) (fun h => by cases h) (Nat.le_of_ble_eq_true rfl) ?_
  show jb_J sc RX12 cX12_poem 8 (Option.some .int) false 3 0 0 0 [some (.ref 105), some (.int (nI s)), some (.int 1), none, none, none, none, none] [] [s0, s1, s2, s3, s4, s5, s6, s7, s8, s9, jb_mdl I J d e kp nm W, s11] _
  refine jb_iload_n (pc' := 1) dX12_poem_0 rfl rfl ?_
  refine jb_i2l (pc' := 2) dX12_poem_1 rfl ?_
  refine jb_lconst (pc' := 3) 0 dX12_poem_2 (by decide) rfl ?_
  refine jb_lconst (pc' := 4) 1 dX12_poem_3 (by decide) rfl ?_
  refine jb_callS (pc' := 7) (As := [.long ((1 : Int32).toInt64), .long 0, .long 1]) (a2 := 0) (b2 := 0) wv_X12_56 dX12_poem_4 (c_inLG _ 1 0 1 (by omega) (by omega) (by omega)) rfl ⟨by decide, Nat.le_of_eq (Nat.zero_add _), Nat.le_of_eq (Nat.zero_add _)⟩ (Nat.le_of_ble_eq_true rfl) rfl (fun r h9 hq => ?_)
  obtain ⟨rfl, rfl⟩ := hq
  show jb_J _ RX12 cX12_poem 8 (Option.some .int) false 3 0 0 7 [some (.ref 105), some (.int (nI s)), some (.int 1), none, none, none, none, none] [.int 1] [s0, s1, s2, s3, s4, s5, s6, s7, s8, s9, jb_mdl I J d e kp nm W, s11] _
  refine jb_if_ne (tgt := 14) (pc' := 10) dX12_poem_7 (by decide) rfl (fun _ => ?_) (fun z => absurd z (by decide))
  refine jb_aload_n (pc' := 15) dX12_poem_14 rfl rfl ?_
  refine jb_iload_n (pc' := 16) dX12_poem_15 rfl rfl ?_
  refine jb_callV (pc' := 19) (ci := 12) (q := 105) (As := [.int (nI s)]) (a2 := 0) (b2 := 0) wv_X12_236 rfl dX12_poem_16 (c_whyNot I J d e kp nm W s hs h1s h2s hbs hzs) rfl rfl ⟨by decide, Nat.le_of_eq (Nat.zero_add _), Nat.le_of_eq (Nat.zero_add _)⟩ (Nat.le_of_ble_eq_true rfl) rfl (fun r h9 hq => ?_)
  rcases hq with ⟨rfl, ⟨hms, rfl⟩ | ⟨hms, rfl⟩⟩
  · show jb_J _ RX12 cX12_poem 8 (Option.some .int) false 3 0 0 19 [some (.ref 105), some (.int (nI s)), some (.int 1), none, none, none, none, none] [.int 2] [s0, s1, s2, s3, s4, s5, s6, s7, s8, s9, jb_mdl I J d e kp nm W, s11] _
    refine jb_istore_n_ (pc' := 20) dX12_poem_19 (by decide) (jb_at3 rfl) rfl ?_
    refine jb_iload_n (pc' := 21) dX12_poem_20 rfl rfl ?_
    refine jb_if_eq (tgt := 30) (pc' := 24) dX12_poem_21 (by decide) rfl (fun z => absurd z (by decide)) (fun _ => ?_)
    refine jb_aload_n (pc' := 25) dX12_poem_24 rfl rfl ?_
    refine jb_iload_n (pc' := 26) dX12_poem_25 rfl rfl ?_
    refine jb_callV (pc' := 29) (ci := 12) (q := 105) (As := [.int 2]) (a2 := 0) (b2 := 0) wv_X12_121 rfl dX12_poem_26 (c_finds I J d e kp nm W 2 (by decide)) rfl rfl ⟨by decide, Nat.le_of_eq (Nat.zero_add _), Nat.le_of_eq (Nat.zero_add _)⟩ (Nat.le_of_ble_eq_true rfl) rfl (fun r h9 hq => ?_)
    obtain ⟨rfl, rfl⟩ := hq
    show jb_J _ RX12 cX12_poem 8 (Option.some .int) false 3 0 0 29 [some (.ref 105), some (.int (nI s)), some (.int 1), some (.int 2), none, none, none, none] [.int (jm_er 2)] [s0, s1, s2, s3, s4, s5, s6, s7, s8, s9, jb_mdl I J d e kp nm (va_up W 0 (jm_ef (W 0) 2)), s11] _
    refine jb_iret dX12_poem_29 rfl ?_
    exact ⟨rfl, rfl⟩
  · exact absurd hm hms
set_option maxRecDepth 100000 in
set_option maxHeartbeats 4000000 in
theorem me_heardW {sc : Nat × (Nat → Int32)} {s0 s1 s2 s3 s4 s5 s6 s7 s8 s9 s11 : List va_E} (I J d e kp nm : Nat → Int32) (W : Nat → Nat → Int32) (s w : Int32) (hb : ¬ jn_b w 0 3) : jb_C sc yX12_heard cX12_heard 8 (Option.some .int) 3 0 0 [.ref 105, .int s, .int w] [s0, s1, s2, s3, s4, s5, s6, s7, s8, s9, jb_mdl I J d e kp nm W, s11] (fun r h9 => r = some (.int (jm_er 1)) ∧ h9 = [s0, s1, s2, s3, s4, s5, s6, s7, s8, s9, jb_mdl I J d e kp nm (va_up W 0 (jm_ef (W 0) 1)), s11]) := by
  refine jb_CofJ (ini := false) (by decide +kernel) (fun h => by cases h) (Nat.le_of_ble_eq_true rfl) ?_
  show jb_J sc RX12 cX12_heard 8 (Option.some .int) false 3 0 0 0 [some (.ref 105), some (.int s), some (.int w), none, none, none, none, none] [] [s0, s1, s2, s3, s4, s5, s6, s7, s8, s9, jb_mdl I J d e kp nm W, s11] _
  refine jb_iload_n (pc' := 1) dX12_heard_0 rfl rfl ?_
  refine jb_i2l (pc' := 2) dX12_heard_1 rfl ?_
  refine jb_lconst (pc' := 3) 0 dX12_heard_2 (by decide) rfl ?_
  refine jb_ldc2 (pc' := 6) 2 dX12_heard_3 wk_X12_137 rfl ?_
  refine jb_callS (pc' := 9) (As := [.long w.toInt64, .long 0, .long 2]) (a2 := 0) (b2 := 0) wv_X12_56 dX12_heard_6 (c_inL _ w 0 2 (by omega) (by omega)) rfl ⟨by decide, Nat.le_of_eq (Nat.zero_add _), Nat.le_of_eq (Nat.zero_add _)⟩ (Nat.le_of_ble_eq_true rfl) rfl (fun r h9 hq => ?_)
  rcases hq with ⟨rfl, ⟨o1, rfl⟩ | ⟨o1, rfl⟩⟩
  · exact absurd (by assumption) hb
  · show jb_J _ RX12 cX12_heard 8 (Option.some .int) false 3 0 0 9 [some (.ref 105), some (.int s), some (.int w), none, none, none, none, none] [.int 0] [s0, s1, s2, s3, s4, s5, s6, s7, s8, s9, jb_mdl I J d e kp nm W, s11] _
    refine jb_if_ne (tgt := 16) (pc' := 12) dX12_heard_9 (by decide) rfl (fun z => absurd (by decide) z) (fun _ => ?_)
    refine jb_iconst (pc' := 13) 1 dX12_heard_12 (by decide) rfl ?_
    refine jb_goto (pc' := 21) dX12_heard_13 (by decide) ?_
    refine jb_istore_n_ (pc' := 22) dX12_heard_21 (by decide) (jb_at3 rfl) rfl ?_
    refine jb_iload_n (pc' := 23) dX12_heard_22 rfl rfl ?_
    refine jb_if_ne (tgt := 38) (pc' := 26) dX12_heard_23 (by decide) rfl (fun _ => ?_) (fun z => absurd z (by decide))
    refine jb_iload_n (pc' := 39) dX12_heard_38 rfl rfl ?_
    refine jb_if_eq (tgt := 48) (pc' := 42) dX12_heard_39 (by decide) rfl (fun z => absurd z (by decide)) (fun _ => ?_)
    refine jb_aload_n (pc' := 43) dX12_heard_42 rfl rfl ?_
    refine jb_iload_n (pc' := 44) dX12_heard_43 rfl rfl ?_
    refine jb_callV (pc' := 47) (ci := 12) (q := 105) (As := [.int 1]) (a2 := 0) (b2 := 0) wv_X12_121 rfl dX12_heard_44 (c_finds I J d e kp nm W 1 (by decide)) rfl rfl ⟨by decide, Nat.le_of_eq (Nat.zero_add _), Nat.le_of_eq (Nat.zero_add _)⟩ (Nat.le_of_ble_eq_true rfl) rfl (fun r h9 hq => ?_)
    obtain ⟨rfl, rfl⟩ := hq
    show jb_J _ RX12 cX12_heard 8 (Option.some .int) false 3 0 0 47 [some (.ref 105), some (.int s), some (.int w), some (.int 1), none, none, none, none] [.int (jm_er 1)] [s0, s1, s2, s3, s4, s5, s6, s7, s8, s9, jb_mdl I J d e kp nm (va_up W 0 (jm_ef (W 0) 1)), s11] _
    refine jb_iret dX12_heard_47 rfl ?_
    exact ⟨rfl, rfl⟩
set_option maxRecDepth 100000 in
set_option maxHeartbeats 4000000 in
theorem me_heardS0 {sc : Nat × (Nat → Int32)} {s0 s1 s2 s3 s4 s5 s6 s7 s8 s9 s11 : List va_E} (I J d e kp nm : Nat → Int32) (W : Nat → Nat → Int32) (s : Int32) (hb : ¬ jn_b s 0 4) : jb_C sc yX12_heard cX12_heard 8 (Option.some .int) 3 0 0 [.ref 105, .int s, .int 0] [s0, s1, s2, s3, s4, s5, s6, s7, s8, s9, jb_mdl I J d e kp nm W, s11] (fun r h9 => r = some (.int (jm_er 1)) ∧ h9 = [s0, s1, s2, s3, s4, s5, s6, s7, s8, s9, jb_mdl I J d e kp nm (va_up W 0 (jm_ef (W 0) 1)), s11]) := by
  refine jb_CofJ (ini := false) (by decide +kernel) (fun h => by cases h) (Nat.le_of_ble_eq_true rfl) ?_
  show jb_J sc RX12 cX12_heard 8 (Option.some .int) false 3 0 0 0 [some (.ref 105), some (.int s), some (.int 0), none, none, none, none, none] [] [s0, s1, s2, s3, s4, s5, s6, s7, s8, s9, jb_mdl I J d e kp nm W, s11] _
  refine jb_iload_n (pc' := 1) dX12_heard_0 rfl rfl ?_
  refine jb_i2l (pc' := 2) dX12_heard_1 rfl ?_
  refine jb_lconst (pc' := 3) 0 dX12_heard_2 (by decide) rfl ?_
  refine jb_ldc2 (pc' := 6) 2 dX12_heard_3 wk_X12_137 rfl ?_
  refine jb_callS (pc' := 9) (As := [.long ((0 : Int32).toInt64), .long 0, .long 2]) (a2 := 0) (b2 := 0) wv_X12_56 dX12_heard_6 (c_inLG _ 0 0 2 (by omega) (by omega) (by omega)) rfl ⟨by decide, Nat.le_of_eq (Nat.zero_add _), Nat.le_of_eq (Nat.zero_add _)⟩ (Nat.le_of_ble_eq_true rfl) rfl (fun r h9 hq => ?_)
  obtain ⟨rfl, rfl⟩ := hq
  show jb_J _ RX12 cX12_heard 8 (Option.some .int) false 3 0 0 9 [some (.ref 105), some (.int s), some (.int 0), none, none, none, none, none] [.int 1] [s0, s1, s2, s3, s4, s5, s6, s7, s8, s9, jb_mdl I J d e kp nm W, s11] _
  refine jb_if_ne (tgt := 16) (pc' := 12) dX12_heard_9 (by decide) rfl (fun _ => ?_) (fun z => absurd z (by decide))
  refine jb_aload_n (pc' := 17) dX12_heard_16 rfl rfl ?_
  refine jb_iload_n (pc' := 18) dX12_heard_17 rfl rfl ?_
  refine jb_callV (pc' := 21) (ci := 12) (q := 105) (As := [.int s]) (a2 := 0) (b2 := 0) wv_X12_236 rfl dX12_heard_18 (c_whyNot1 I J d e kp nm W s hb) rfl rfl ⟨by decide, Nat.le_of_eq (Nat.zero_add _), Nat.le_of_eq (Nat.zero_add _)⟩ (Nat.le_of_ble_eq_true rfl) rfl (fun r h9 hq => ?_)
  obtain ⟨rfl, rfl⟩ := hq
  show jb_J _ RX12 cX12_heard 8 (Option.some .int) false 3 0 0 21 [some (.ref 105), some (.int s), some (.int 0), none, none, none, none, none] [.int 1] [s0, s1, s2, s3, s4, s5, s6, s7, s8, s9, jb_mdl I J d e kp nm W, s11] _
  refine jb_istore_n_ (pc' := 22) dX12_heard_21 (by decide) (jb_at3 rfl) rfl ?_
  refine jb_iload_n (pc' := 23) dX12_heard_22 rfl rfl ?_
  refine jb_if_ne (tgt := 38) (pc' := 26) dX12_heard_23 (by decide) rfl (fun _ => ?_) (fun z => absurd z (by decide))
  refine jb_iload_n (pc' := 39) dX12_heard_38 rfl rfl ?_
  refine jb_if_eq (tgt := 48) (pc' := 42) dX12_heard_39 (by decide) rfl (fun z => absurd z (by decide)) (fun _ => ?_)
  refine jb_aload_n (pc' := 43) dX12_heard_42 rfl rfl ?_
  refine jb_iload_n (pc' := 44) dX12_heard_43 rfl rfl ?_
  refine jb_callV (pc' := 47) (ci := 12) (q := 105) (As := [.int 1]) (a2 := 0) (b2 := 0) wv_X12_121 rfl dX12_heard_44 (c_finds I J d e kp nm W 1 (by decide)) rfl rfl ⟨by decide, Nat.le_of_eq (Nat.zero_add _), Nat.le_of_eq (Nat.zero_add _)⟩ (Nat.le_of_ble_eq_true rfl) rfl (fun r h9 hq => ?_)
  obtain ⟨rfl, rfl⟩ := hq
  show jb_J _ RX12 cX12_heard 8 (Option.some .int) false 3 0 0 47 [some (.ref 105), some (.int s), some (.int 0), some (.int 1), none, none, none, none] [.int (jm_er 1)] [s0, s1, s2, s3, s4, s5, s6, s7, s8, s9, jb_mdl I J d e kp nm (va_up W 0 (jm_ef (W 0) 1)), s11] _
  refine jb_iret dX12_heard_47 rfl ?_
  exact ⟨rfl, rfl⟩
set_option maxRecDepth 100000 in
set_option maxHeartbeats 4000000 in
theorem me_heardN0 {sc : Nat × (Nat → Int32)} {s0 s1 s2 s3 s4 s5 s6 s7 s8 s9 s11 : List va_E} (I J d e kp nm : Nat → Int32) (W : Nat → Nat → Int32) (s : Nat) (hs : s < 4) {bs zs : Nat} (h1s : W 1 s = nI bs) (h2s : W 2 s = nI zs) (hbs : bs ≤ 32) (hzs : zs ≤ 40) (hm : bs = 0) : jb_C sc yX12_heard cX12_heard 8 (Option.some .int) 3 0 0 [.ref 105, .int (nI s), .int 0] [s0, s1, s2, s3, s4, s5, s6, s7, s8, s9, jb_mdl I J d e kp nm W, s11] (fun r h9 => r = some (.int (jm_er 2)) ∧ h9 = [s0, s1, s2, s3, s4, s5, s6, s7, s8, s9, jb_mdl I J d e kp nm (va_up W 0 (jm_ef (W 0) 2)), s11]) := by
  refine jb_CofJ (ini := false) (by decide +kernel) (fun h => by cases h) (Nat.le_of_ble_eq_true rfl) ?_
  show jb_J sc RX12 cX12_heard 8 (Option.some .int) false 3 0 0 0 [some (.ref 105), some (.int (nI s)), some (.int 0), none, none, none, none, none] [] [s0, s1, s2, s3, s4, s5, s6, s7, s8, s9, jb_mdl I J d e kp nm W, s11] _
  refine jb_iload_n (pc' := 1) dX12_heard_0 rfl rfl ?_
  refine jb_i2l (pc' := 2) dX12_heard_1 rfl ?_
  refine jb_lconst (pc' := 3) 0 dX12_heard_2 (by decide) rfl ?_
  refine jb_ldc2 (pc' := 6) 2 dX12_heard_3 wk_X12_137 rfl ?_
  refine jb_callS (pc' := 9) (As := [.long ((0 : Int32).toInt64), .long 0, .long 2]) (a2 := 0) (b2 := 0) wv_X12_56 dX12_heard_6 (c_inLG _ 0 0 2 (by omega) (by omega) (by omega)) rfl ⟨by decide, Nat.le_of_eq (Nat.zero_add _), Nat.le_of_eq (Nat.zero_add _)⟩ (Nat.le_of_ble_eq_true rfl) rfl (fun r h9 hq => ?_)
  obtain ⟨rfl, rfl⟩ := hq
  show jb_J _ RX12 cX12_heard 8 (Option.some .int) false 3 0 0 9 [some (.ref 105), some (.int (nI s)), some (.int 0), none, none, none, none, none] [.int 1] [s0, s1, s2, s3, s4, s5, s6, s7, s8, s9, jb_mdl I J d e kp nm W, s11] _
  refine jb_if_ne (tgt := 16) (pc' := 12) dX12_heard_9 (by decide) rfl (fun _ => ?_) (fun z => absurd z (by decide))
  refine jb_aload_n (pc' := 17) dX12_heard_16 rfl rfl ?_
  refine jb_iload_n (pc' := 18) dX12_heard_17 rfl rfl ?_
  refine jb_callV (pc' := 21) (ci := 12) (q := 105) (As := [.int (nI s)]) (a2 := 0) (b2 := 0) wv_X12_236 rfl dX12_heard_18 (c_whyNot I J d e kp nm W s hs h1s h2s hbs hzs) rfl rfl ⟨by decide, Nat.le_of_eq (Nat.zero_add _), Nat.le_of_eq (Nat.zero_add _)⟩ (Nat.le_of_ble_eq_true rfl) rfl (fun r h9 hq => ?_)
  rcases hq with ⟨rfl, ⟨hms, rfl⟩ | ⟨hms, rfl⟩⟩
  · show jb_J _ RX12 cX12_heard 8 (Option.some .int) false 3 0 0 21 [some (.ref 105), some (.int (nI s)), some (.int 0), none, none, none, none, none] [.int 2] [s0, s1, s2, s3, s4, s5, s6, s7, s8, s9, jb_mdl I J d e kp nm W, s11] _
    refine jb_istore_n_ (pc' := 22) dX12_heard_21 (by decide) (jb_at3 rfl) rfl ?_
    refine jb_iload_n (pc' := 23) dX12_heard_22 rfl rfl ?_
    refine jb_if_ne (tgt := 38) (pc' := 26) dX12_heard_23 (by decide) rfl (fun _ => ?_) (fun z => absurd z (by decide))
    refine jb_iload_n (pc' := 39) dX12_heard_38 rfl rfl ?_
    refine jb_if_eq (tgt := 48) (pc' := 42) dX12_heard_39 (by decide) rfl (fun z => absurd z (by decide)) (fun _ => ?_)
    refine jb_aload_n (pc' := 43) dX12_heard_42 rfl rfl ?_
    refine jb_iload_n (pc' := 44) dX12_heard_43 rfl rfl ?_
    refine jb_callV (pc' := 47) (ci := 12) (q := 105) (As := [.int 2]) (a2 := 0) (b2 := 0) wv_X12_121 rfl dX12_heard_44 (c_finds I J d e kp nm W 2 (by decide)) rfl rfl ⟨by decide, Nat.le_of_eq (Nat.zero_add _), Nat.le_of_eq (Nat.zero_add _)⟩ (Nat.le_of_ble_eq_true rfl) rfl (fun r h9 hq => ?_)
    obtain ⟨rfl, rfl⟩ := hq
    show jb_J _ RX12 cX12_heard 8 (Option.some .int) false 3 0 0 47 [some (.ref 105), some (.int (nI s)), some (.int 0), some (.int 2), none, none, none, none] [.int (jm_er 2)] [s0, s1, s2, s3, s4, s5, s6, s7, s8, s9, jb_mdl I J d e kp nm (va_up W 0 (jm_ef (W 0) 2)), s11] _
    refine jb_iret dX12_heard_47 rfl ?_
    exact ⟨rfl, rfl⟩
  · exact absurd hm hms
set_option maxRecDepth 100000 in
set_option maxHeartbeats 4000000 in
theorem me_heardS1 {sc : Nat × (Nat → Int32)} {s0 s1 s2 s3 s4 s5 s6 s7 s8 s9 s11 : List va_E} (I J d e kp nm : Nat → Int32) (W : Nat → Nat → Int32) (s : Int32) (hb : ¬ jn_b s 0 4) : jb_C sc yX12_heard cX12_heard 8 (Option.some .int) 3 0 0 [.ref 105, .int s, .int 1] [s0, s1, s2, s3, s4, s5, s6, s7, s8, s9, jb_mdl I J d e kp nm W, s11] (fun r h9 => r = some (.int (jm_er 1)) ∧ h9 = [s0, s1, s2, s3, s4, s5, s6, s7, s8, s9, jb_mdl I J d e kp nm (va_up W 0 (jm_ef (W 0) 1)), s11]) := by
  refine jb_CofJ (ini := false) (by decide +kernel) (fun h => by cases h) (Nat.le_of_ble_eq_true rfl) ?_
  show jb_J sc RX12 cX12_heard 8 (Option.some .int) false 3 0 0 0 [some (.ref 105), some (.int s), some (.int 1), none, none, none, none, none] [] [s0, s1, s2, s3, s4, s5, s6, s7, s8, s9, jb_mdl I J d e kp nm W, s11] _
  refine jb_iload_n (pc' := 1) dX12_heard_0 rfl rfl ?_
  refine jb_i2l (pc' := 2) dX12_heard_1 rfl ?_
  refine jb_lconst (pc' := 3) 0 dX12_heard_2 (by decide) rfl ?_
  refine jb_ldc2 (pc' := 6) 2 dX12_heard_3 wk_X12_137 rfl ?_
  refine jb_callS (pc' := 9) (As := [.long ((1 : Int32).toInt64), .long 0, .long 2]) (a2 := 0) (b2 := 0) wv_X12_56 dX12_heard_6 (c_inLG _ 1 0 2 (by omega) (by omega) (by omega)) rfl ⟨by decide, Nat.le_of_eq (Nat.zero_add _), Nat.le_of_eq (Nat.zero_add _)⟩ (Nat.le_of_ble_eq_true rfl) rfl (fun r h9 hq => ?_)
  obtain ⟨rfl, rfl⟩ := hq
  show jb_J _ RX12 cX12_heard 8 (Option.some .int) false 3 0 0 9 [some (.ref 105), some (.int s), some (.int 1), none, none, none, none, none] [.int 1] [s0, s1, s2, s3, s4, s5, s6, s7, s8, s9, jb_mdl I J d e kp nm W, s11] _
  refine jb_if_ne (tgt := 16) (pc' := 12) dX12_heard_9 (by decide) rfl (fun _ => ?_) (fun z => absurd z (by decide))
  refine jb_aload_n (pc' := 17) dX12_heard_16 rfl rfl ?_
  refine jb_iload_n (pc' := 18) dX12_heard_17 rfl rfl ?_
  refine jb_callV (pc' := 21) (ci := 12) (q := 105) (As := [.int s]) (a2 := 0) (b2 := 0) wv_X12_236 rfl dX12_heard_18 (c_whyNot1 I J d e kp nm W s hb) rfl rfl ⟨by decide, Nat.le_of_eq (Nat.zero_add _), Nat.le_of_eq (Nat.zero_add _)⟩ (Nat.le_of_ble_eq_true rfl) rfl (fun r h9 hq => ?_)
  obtain ⟨rfl, rfl⟩ := hq
  show jb_J _ RX12 cX12_heard 8 (Option.some .int) false 3 0 0 21 [some (.ref 105), some (.int s), some (.int 1), none, none, none, none, none] [.int 1] [s0, s1, s2, s3, s4, s5, s6, s7, s8, s9, jb_mdl I J d e kp nm W, s11] _
  refine jb_istore_n_ (pc' := 22) dX12_heard_21 (by decide) (jb_at3 rfl) rfl ?_
  refine jb_iload_n (pc' := 23) dX12_heard_22 rfl rfl ?_
  refine jb_if_ne (tgt := 38) (pc' := 26) dX12_heard_23 (by decide) rfl (fun _ => ?_) (fun z => absurd z (by decide))
  refine jb_iload_n (pc' := 39) dX12_heard_38 rfl rfl ?_
  refine jb_if_eq (tgt := 48) (pc' := 42) dX12_heard_39 (by decide) rfl (fun z => absurd z (by decide)) (fun _ => ?_)
  refine jb_aload_n (pc' := 43) dX12_heard_42 rfl rfl ?_
  refine jb_iload_n (pc' := 44) dX12_heard_43 rfl rfl ?_
  refine jb_callV (pc' := 47) (ci := 12) (q := 105) (As := [.int 1]) (a2 := 0) (b2 := 0) wv_X12_121 rfl dX12_heard_44 (c_finds I J d e kp nm W 1 (by decide)) rfl rfl ⟨by decide, Nat.le_of_eq (Nat.zero_add _), Nat.le_of_eq (Nat.zero_add _)⟩ (Nat.le_of_ble_eq_true rfl) rfl (fun r h9 hq => ?_)
  obtain ⟨rfl, rfl⟩ := hq
  show jb_J _ RX12 cX12_heard 8 (Option.some .int) false 3 0 0 47 [some (.ref 105), some (.int s), some (.int 1), some (.int 1), none, none, none, none] [.int (jm_er 1)] [s0, s1, s2, s3, s4, s5, s6, s7, s8, s9, jb_mdl I J d e kp nm (va_up W 0 (jm_ef (W 0) 1)), s11] _
  refine jb_iret dX12_heard_47 rfl ?_
  exact ⟨rfl, rfl⟩
set_option maxRecDepth 100000 in
set_option maxHeartbeats 4000000 in
theorem me_heardN1 {sc : Nat × (Nat → Int32)} {s0 s1 s2 s3 s4 s5 s6 s7 s8 s9 s11 : List va_E} (I J d e kp nm : Nat → Int32) (W : Nat → Nat → Int32) (s : Nat) (hs : s < 4) {bs zs : Nat} (h1s : W 1 s = nI bs) (h2s : W 2 s = nI zs) (hbs : bs ≤ 32) (hzs : zs ≤ 40) (hm : bs = 0) : jb_C sc yX12_heard cX12_heard 8 (Option.some .int) 3 0 0 [.ref 105, .int (nI s), .int 1] [s0, s1, s2, s3, s4, s5, s6, s7, s8, s9, jb_mdl I J d e kp nm W, s11] (fun r h9 => r = some (.int (jm_er 2)) ∧ h9 = [s0, s1, s2, s3, s4, s5, s6, s7, s8, s9, jb_mdl I J d e kp nm (va_up W 0 (jm_ef (W 0) 2)), s11]) := by
  refine jb_CofJ (ini := false) (by decide +kernel) (fun h => by cases h) (Nat.le_of_ble_eq_true rfl) ?_
  show jb_J sc RX12 cX12_heard 8 (Option.some .int) false 3 0 0 0 [some (.ref 105), some (.int (nI s)), some (.int 1), none, none, none, none, none] [] [s0, s1, s2, s3, s4, s5, s6, s7, s8, s9, jb_mdl I J d e kp nm W, s11] _
  refine jb_iload_n (pc' := 1) dX12_heard_0 rfl rfl ?_
  refine jb_i2l (pc' := 2) dX12_heard_1 rfl ?_
  refine jb_lconst (pc' := 3) 0 dX12_heard_2 (by decide) rfl ?_
  refine jb_ldc2 (pc' := 6) 2 dX12_heard_3 wk_X12_137 rfl ?_
  refine jb_callS (pc' := 9) (As := [.long ((1 : Int32).toInt64), .long 0, .long 2]) (a2 := 0) (b2 := 0) wv_X12_56 dX12_heard_6 (c_inLG _ 1 0 2 (by omega) (by omega) (by omega)) rfl ⟨by decide, Nat.le_of_eq (Nat.zero_add _), Nat.le_of_eq (Nat.zero_add _)⟩ (Nat.le_of_ble_eq_true rfl) rfl (fun r h9 hq => ?_)
  obtain ⟨rfl, rfl⟩ := hq
  show jb_J _ RX12 cX12_heard 8 (Option.some .int) false 3 0 0 9 [some (.ref 105), some (.int (nI s)), some (.int 1), none, none, none, none, none] [.int 1] [s0, s1, s2, s3, s4, s5, s6, s7, s8, s9, jb_mdl I J d e kp nm W, s11] _
  refine jb_if_ne (tgt := 16) (pc' := 12) dX12_heard_9 (by decide) rfl (fun _ => ?_) (fun z => absurd z (by decide))
  refine jb_aload_n (pc' := 17) dX12_heard_16 rfl rfl ?_
  refine jb_iload_n (pc' := 18) dX12_heard_17 rfl rfl ?_
  refine jb_callV (pc' := 21) (ci := 12) (q := 105) (As := [.int (nI s)]) (a2 := 0) (b2 := 0) wv_X12_236 rfl dX12_heard_18 (c_whyNot I J d e kp nm W s hs h1s h2s hbs hzs) rfl rfl ⟨by decide, Nat.le_of_eq (Nat.zero_add _), Nat.le_of_eq (Nat.zero_add _)⟩ (Nat.le_of_ble_eq_true rfl) rfl (fun r h9 hq => ?_)
  rcases hq with ⟨rfl, ⟨hms, rfl⟩ | ⟨hms, rfl⟩⟩
  · show jb_J _ RX12 cX12_heard 8 (Option.some .int) false 3 0 0 21 [some (.ref 105), some (.int (nI s)), some (.int 1), none, none, none, none, none] [.int 2] [s0, s1, s2, s3, s4, s5, s6, s7, s8, s9, jb_mdl I J d e kp nm W, s11] _
    refine jb_istore_n_ (pc' := 22) dX12_heard_21 (by decide) (jb_at3 rfl) rfl ?_
    refine jb_iload_n (pc' := 23) dX12_heard_22 rfl rfl ?_
    refine jb_if_ne (tgt := 38) (pc' := 26) dX12_heard_23 (by decide) rfl (fun _ => ?_) (fun z => absurd z (by decide))
    refine jb_iload_n (pc' := 39) dX12_heard_38 rfl rfl ?_
    refine jb_if_eq (tgt := 48) (pc' := 42) dX12_heard_39 (by decide) rfl (fun z => absurd z (by decide)) (fun _ => ?_)
    refine jb_aload_n (pc' := 43) dX12_heard_42 rfl rfl ?_
    refine jb_iload_n (pc' := 44) dX12_heard_43 rfl rfl ?_
    refine jb_callV (pc' := 47) (ci := 12) (q := 105) (As := [.int 2]) (a2 := 0) (b2 := 0) wv_X12_121 rfl dX12_heard_44 (c_finds I J d e kp nm W 2 (by decide)) rfl rfl ⟨by decide, Nat.le_of_eq (Nat.zero_add _), Nat.le_of_eq (Nat.zero_add _)⟩ (Nat.le_of_ble_eq_true rfl) rfl (fun r h9 hq => ?_)
    obtain ⟨rfl, rfl⟩ := hq
    show jb_J _ RX12 cX12_heard 8 (Option.some .int) false 3 0 0 47 [some (.ref 105), some (.int (nI s)), some (.int 1), some (.int 2), none, none, none, none] [.int (jm_er 2)] [s0, s1, s2, s3, s4, s5, s6, s7, s8, s9, jb_mdl I J d e kp nm (va_up W 0 (jm_ef (W 0) 2)), s11] _
    refine jb_iret dX12_heard_47 rfl ?_
    exact ⟨rfl, rfl⟩
  · exact absurd hm hms
set_option maxRecDepth 100000 in
set_option maxHeartbeats 4000000 in
theorem me_heardS2 {sc : Nat × (Nat → Int32)} {s0 s1 s2 s3 s4 s5 s6 s7 s8 s9 s11 : List va_E} (I J d e kp nm : Nat → Int32) (W : Nat → Nat → Int32) (s : Int32) (hb : ¬ jn_b s 0 4) : jb_C sc yX12_heard cX12_heard 8 (Option.some .int) 3 0 0 [.ref 105, .int s, .int 2] [s0, s1, s2, s3, s4, s5, s6, s7, s8, s9, jb_mdl I J d e kp nm W, s11] (fun r h9 => r = some (.int (jm_er 1)) ∧ h9 = [s0, s1, s2, s3, s4, s5, s6, s7, s8, s9, jb_mdl I J d e kp nm (va_up W 0 (jm_ef (W 0) 1)), s11]) := by
  refine jb_CofJ (ini := false) (by decide +kernel) (fun h => by cases h) (Nat.le_of_ble_eq_true rfl) ?_
  show jb_J sc RX12 cX12_heard 8 (Option.some .int) false 3 0 0 0 [some (.ref 105), some (.int s), some (.int 2), none, none, none, none, none] [] [s0, s1, s2, s3, s4, s5, s6, s7, s8, s9, jb_mdl I J d e kp nm W, s11] _
  refine jb_iload_n (pc' := 1) dX12_heard_0 rfl rfl ?_
  refine jb_i2l (pc' := 2) dX12_heard_1 rfl ?_
  refine jb_lconst (pc' := 3) 0 dX12_heard_2 (by decide) rfl ?_
  refine jb_ldc2 (pc' := 6) 2 dX12_heard_3 wk_X12_137 rfl ?_
  refine jb_callS (pc' := 9) (As := [.long ((2 : Int32).toInt64), .long 0, .long 2]) (a2 := 0) (b2 := 0) wv_X12_56 dX12_heard_6 (c_inLG _ 2 0 2 (by omega) (by omega) (by omega)) rfl ⟨by decide, Nat.le_of_eq (Nat.zero_add _), Nat.le_of_eq (Nat.zero_add _)⟩ (Nat.le_of_ble_eq_true rfl) rfl (fun r h9 hq => ?_)
  obtain ⟨rfl, rfl⟩ := hq
  show jb_J _ RX12 cX12_heard 8 (Option.some .int) false 3 0 0 9 [some (.ref 105), some (.int s), some (.int 2), none, none, none, none, none] [.int 1] [s0, s1, s2, s3, s4, s5, s6, s7, s8, s9, jb_mdl I J d e kp nm W, s11] _
  refine jb_if_ne (tgt := 16) (pc' := 12) dX12_heard_9 (by decide) rfl (fun _ => ?_) (fun z => absurd z (by decide))
  refine jb_aload_n (pc' := 17) dX12_heard_16 rfl rfl ?_
  refine jb_iload_n (pc' := 18) dX12_heard_17 rfl rfl ?_
  refine jb_callV (pc' := 21) (ci := 12) (q := 105) (As := [.int s]) (a2 := 0) (b2 := 0) wv_X12_236 rfl dX12_heard_18 (c_whyNot1 I J d e kp nm W s hb) rfl rfl ⟨by decide, Nat.le_of_eq (Nat.zero_add _), Nat.le_of_eq (Nat.zero_add _)⟩ (Nat.le_of_ble_eq_true rfl) rfl (fun r h9 hq => ?_)
  obtain ⟨rfl, rfl⟩ := hq
  show jb_J _ RX12 cX12_heard 8 (Option.some .int) false 3 0 0 21 [some (.ref 105), some (.int s), some (.int 2), none, none, none, none, none] [.int 1] [s0, s1, s2, s3, s4, s5, s6, s7, s8, s9, jb_mdl I J d e kp nm W, s11] _
  refine jb_istore_n_ (pc' := 22) dX12_heard_21 (by decide) (jb_at3 rfl) rfl ?_
  refine jb_iload_n (pc' := 23) dX12_heard_22 rfl rfl ?_
  refine jb_if_ne (tgt := 38) (pc' := 26) dX12_heard_23 (by decide) rfl (fun _ => ?_) (fun z => absurd z (by decide))
  refine jb_iload_n (pc' := 39) dX12_heard_38 rfl rfl ?_
  refine jb_if_eq (tgt := 48) (pc' := 42) dX12_heard_39 (by decide) rfl (fun z => absurd z (by decide)) (fun _ => ?_)
  refine jb_aload_n (pc' := 43) dX12_heard_42 rfl rfl ?_
  refine jb_iload_n (pc' := 44) dX12_heard_43 rfl rfl ?_
  refine jb_callV (pc' := 47) (ci := 12) (q := 105) (As := [.int 1]) (a2 := 0) (b2 := 0) wv_X12_121 rfl dX12_heard_44 (c_finds I J d e kp nm W 1 (by decide)) rfl rfl ⟨by decide, Nat.le_of_eq (Nat.zero_add _), Nat.le_of_eq (Nat.zero_add _)⟩ (Nat.le_of_ble_eq_true rfl) rfl (fun r h9 hq => ?_)
  obtain ⟨rfl, rfl⟩ := hq
  show jb_J _ RX12 cX12_heard 8 (Option.some .int) false 3 0 0 47 [some (.ref 105), some (.int s), some (.int 2), some (.int 1), none, none, none, none] [.int (jm_er 1)] [s0, s1, s2, s3, s4, s5, s6, s7, s8, s9, jb_mdl I J d e kp nm (va_up W 0 (jm_ef (W 0) 1)), s11] _
  refine jb_iret dX12_heard_47 rfl ?_
  exact ⟨rfl, rfl⟩
set_option maxRecDepth 100000 in
set_option maxHeartbeats 4000000 in
theorem me_heardN2 {sc : Nat × (Nat → Int32)} {s0 s1 s2 s3 s4 s5 s6 s7 s8 s9 s11 : List va_E} (I J d e kp nm : Nat → Int32) (W : Nat → Nat → Int32) (s : Nat) (hs : s < 4) {bs zs : Nat} (h1s : W 1 s = nI bs) (h2s : W 2 s = nI zs) (hbs : bs ≤ 32) (hzs : zs ≤ 40) (hm : bs = 0) : jb_C sc yX12_heard cX12_heard 8 (Option.some .int) 3 0 0 [.ref 105, .int (nI s), .int 2] [s0, s1, s2, s3, s4, s5, s6, s7, s8, s9, jb_mdl I J d e kp nm W, s11] (fun r h9 => r = some (.int (jm_er 2)) ∧ h9 = [s0, s1, s2, s3, s4, s5, s6, s7, s8, s9, jb_mdl I J d e kp nm (va_up W 0 (jm_ef (W 0) 2)), s11]) := by
  refine jb_CofJ (ini := false) (by decide +kernel) (fun h => by cases h) (Nat.le_of_ble_eq_true rfl) ?_
  show jb_J sc RX12 cX12_heard 8 (Option.some .int) false 3 0 0 0 [some (.ref 105), some (.int (nI s)), some (.int 2), none, none, none, none, none] [] [s0, s1, s2, s3, s4, s5, s6, s7, s8, s9, jb_mdl I J d e kp nm W, s11] _
  refine jb_iload_n (pc' := 1) dX12_heard_0 rfl rfl ?_
  refine jb_i2l (pc' := 2) dX12_heard_1 rfl ?_
  refine jb_lconst (pc' := 3) 0 dX12_heard_2 (by decide) rfl ?_
  refine jb_ldc2 (pc' := 6) 2 dX12_heard_3 wk_X12_137 rfl ?_
  refine jb_callS (pc' := 9) (As := [.long ((2 : Int32).toInt64), .long 0, .long 2]) (a2 := 0) (b2 := 0) wv_X12_56 dX12_heard_6 (c_inLG _ 2 0 2 (by omega) (by omega) (by omega)) rfl ⟨by decide, Nat.le_of_eq (Nat.zero_add _), Nat.le_of_eq (Nat.zero_add _)⟩ (Nat.le_of_ble_eq_true rfl) rfl (fun r h9 hq => ?_)
  obtain ⟨rfl, rfl⟩ := hq
  show jb_J _ RX12 cX12_heard 8 (Option.some .int) false 3 0 0 9 [some (.ref 105), some (.int (nI s)), some (.int 2), none, none, none, none, none] [.int 1] [s0, s1, s2, s3, s4, s5, s6, s7, s8, s9, jb_mdl I J d e kp nm W, s11] _
  refine jb_if_ne (tgt := 16) (pc' := 12) dX12_heard_9 (by decide) rfl (fun _ => ?_) (fun z => absurd z (by decide))
  refine jb_aload_n (pc' := 17) dX12_heard_16 rfl rfl ?_
  refine jb_iload_n (pc' := 18) dX12_heard_17 rfl rfl ?_
  refine jb_callV (pc' := 21) (ci := 12) (q := 105) (As := [.int (nI s)]) (a2 := 0) (b2 := 0) wv_X12_236 rfl dX12_heard_18 (c_whyNot I J d e kp nm W s hs h1s h2s hbs hzs) rfl rfl ⟨by decide, Nat.le_of_eq (Nat.zero_add _), Nat.le_of_eq (Nat.zero_add _)⟩ (Nat.le_of_ble_eq_true rfl) rfl (fun r h9 hq => ?_)
  rcases hq with ⟨rfl, ⟨hms, rfl⟩ | ⟨hms, rfl⟩⟩
  · show jb_J _ RX12 cX12_heard 8 (Option.some .int) false 3 0 0 21 [some (.ref 105), some (.int (nI s)), some (.int 2), none, none, none, none, none] [.int 2] [s0, s1, s2, s3, s4, s5, s6, s7, s8, s9, jb_mdl I J d e kp nm W, s11] _
    refine jb_istore_n_ (pc' := 22) dX12_heard_21 (by decide) (jb_at3 rfl) rfl ?_
    refine jb_iload_n (pc' := 23) dX12_heard_22 rfl rfl ?_
    refine jb_if_ne (tgt := 38) (pc' := 26) dX12_heard_23 (by decide) rfl (fun _ => ?_) (fun z => absurd z (by decide))
    refine jb_iload_n (pc' := 39) dX12_heard_38 rfl rfl ?_
    refine jb_if_eq (tgt := 48) (pc' := 42) dX12_heard_39 (by decide) rfl (fun z => absurd z (by decide)) (fun _ => ?_)
    refine jb_aload_n (pc' := 43) dX12_heard_42 rfl rfl ?_
    refine jb_iload_n (pc' := 44) dX12_heard_43 rfl rfl ?_
    refine jb_callV (pc' := 47) (ci := 12) (q := 105) (As := [.int 2]) (a2 := 0) (b2 := 0) wv_X12_121 rfl dX12_heard_44 (c_finds I J d e kp nm W 2 (by decide)) rfl rfl ⟨by decide, Nat.le_of_eq (Nat.zero_add _), Nat.le_of_eq (Nat.zero_add _)⟩ (Nat.le_of_ble_eq_true rfl) rfl (fun r h9 hq => ?_)
    obtain ⟨rfl, rfl⟩ := hq
    show jb_J _ RX12 cX12_heard 8 (Option.some .int) false 3 0 0 47 [some (.ref 105), some (.int (nI s)), some (.int 2), some (.int 2), none, none, none, none] [.int (jm_er 2)] [s0, s1, s2, s3, s4, s5, s6, s7, s8, s9, jb_mdl I J d e kp nm (va_up W 0 (jm_ef (W 0) 2)), s11] _
    refine jb_iret dX12_heard_47 rfl ?_
    exact ⟨rfl, rfl⟩
  · exact absurd hm hms
set_option maxRecDepth 100000 in
set_option maxHeartbeats 4000000 in
theorem me_heardZ0 {sc : Nat × (Nat → Int32)} {s0 s1 s2 s3 s4 s5 s6 s7 s8 s9 s11 : List va_E} (I J d e kp nm : Nat → Int32) (W : Nat → Nat → Int32) (s : Nat) (hs : s < 4) {bs zs : Nat} (h1s : W 1 s = nI bs) (h2s : W 2 s = nI zs) (hbs : bs ≤ 32) (hzs : zs ≤ 40) (hm : ¬ bs = 0) (h2 : zs < 2) : jb_C sc yX12_heard cX12_heard 8 (Option.some .int) 3 0 0 [.ref 105, .int (nI s), .int 0] [s0, s1, s2, s3, s4, s5, s6, s7, s8, s9, jb_mdl I J d e kp nm W, s11] (fun r h9 => r = some (.int (jm_er 2)) ∧ h9 = [s0, s1, s2, s3, s4, s5, s6, s7, s8, s9, jb_mdl I J d e kp nm (va_up W 0 (jm_ef (W 0) 2)), s11]) := by
  refine jb_CofJ (ini := false) (by decide +kernel) (fun h => by cases h) (Nat.le_of_ble_eq_true rfl) ?_
  show jb_J sc RX12 cX12_heard 8 (Option.some .int) false 3 0 0 0 [some (.ref 105), some (.int (nI s)), some (.int 0), none, none, none, none, none] [] [s0, s1, s2, s3, s4, s5, s6, s7, s8, s9, jb_mdl I J d e kp nm W, s11] _
  refine jb_iload_n (pc' := 1) dX12_heard_0 rfl rfl ?_
  refine jb_i2l (pc' := 2) dX12_heard_1 rfl ?_
  refine jb_lconst (pc' := 3) 0 dX12_heard_2 (by decide) rfl ?_
  refine jb_ldc2 (pc' := 6) 2 dX12_heard_3 wk_X12_137 rfl ?_
  refine jb_callS (pc' := 9) (As := [.long ((0 : Int32).toInt64), .long 0, .long 2]) (a2 := 0) (b2 := 0) wv_X12_56 dX12_heard_6 (c_inLG _ 0 0 2 (by omega) (by omega) (by omega)) rfl ⟨by decide, Nat.le_of_eq (Nat.zero_add _), Nat.le_of_eq (Nat.zero_add _)⟩ (Nat.le_of_ble_eq_true rfl) rfl (fun r h9 hq => ?_)
  obtain ⟨rfl, rfl⟩ := hq
  show jb_J _ RX12 cX12_heard 8 (Option.some .int) false 3 0 0 9 [some (.ref 105), some (.int (nI s)), some (.int 0), none, none, none, none, none] [.int 1] [s0, s1, s2, s3, s4, s5, s6, s7, s8, s9, jb_mdl I J d e kp nm W, s11] _
  refine jb_if_ne (tgt := 16) (pc' := 12) dX12_heard_9 (by decide) rfl (fun _ => ?_) (fun z => absurd z (by decide))
  refine jb_aload_n (pc' := 17) dX12_heard_16 rfl rfl ?_
  refine jb_iload_n (pc' := 18) dX12_heard_17 rfl rfl ?_
  refine jb_callV (pc' := 21) (ci := 12) (q := 105) (As := [.int (nI s)]) (a2 := 0) (b2 := 0) wv_X12_236 rfl dX12_heard_18 (c_whyNot I J d e kp nm W s hs h1s h2s hbs hzs) rfl rfl ⟨by decide, Nat.le_of_eq (Nat.zero_add _), Nat.le_of_eq (Nat.zero_add _)⟩ (Nat.le_of_ble_eq_true rfl) rfl (fun r h9 hq => ?_)
  rcases hq with ⟨rfl, ⟨hms, rfl⟩ | ⟨hms, rfl⟩⟩
  · exact absurd hms hm
  · show jb_J _ RX12 cX12_heard 8 (Option.some .int) false 3 0 0 21 [some (.ref 105), some (.int (nI s)), some (.int 0), none, none, none, none, none] [.int 0] [s0, s1, s2, s3, s4, s5, s6, s7, s8, s9, jb_mdl I J d e kp nm W, s11] _
    refine jb_istore_n_ (pc' := 22) dX12_heard_21 (by decide) (jb_at3 rfl) rfl ?_
    refine jb_iload_n (pc' := 23) dX12_heard_22 rfl rfl ?_
    refine jb_if_ne (tgt := 38) (pc' := 26) dX12_heard_23 (by decide) rfl (fun z => absurd (by decide) z) (fun _ => ?_)
    refine jb_aload_n (pc' := 27) dX12_heard_26 rfl rfl ?_
    refine gf_X12_28 (pc' := 30) (v := .ref 112) dX12_heard_27 rfl rfl rfl ?_
    refine jb_iload_n (pc' := 31) dX12_heard_30 rfl rfl ?_
    refine jb_iaload (pc' := 32) (i9 := s) (f := (W 2)) dX12_heard_31 rfl (jb_ix_nI (by omega)) (by omega) rfl ?_
    refine jb_top (v := .int ((W 2) s)) (w := .int (nI zs)) (jb_vI h2s) ?_
    refine jb_iconst (pc' := 33) 2 dX12_heard_32 (by decide) rfl ?_
    refine jb_icmp_ge (tgt := 38) (pc' := 36) dX12_heard_33 (by decide) rfl (fun z => absurd z (nI_ge (a := zs) (b := 2) (by omega) (by omega))) (fun _ => ?_)
    refine jb_iconst (pc' := 37) 2 dX12_heard_36 (by decide) rfl ?_
    refine jb_istore_n_ (pc' := 38) dX12_heard_37 (by decide) (jb_at3 rfl) rfl ?_
    refine jb_iload_n (pc' := 39) dX12_heard_38 rfl rfl ?_
    refine jb_if_eq (tgt := 48) (pc' := 42) dX12_heard_39 (by decide) rfl (fun z => absurd z (by decide)) (fun _ => ?_)
    refine jb_aload_n (pc' := 43) dX12_heard_42 rfl rfl ?_
    refine jb_iload_n (pc' := 44) dX12_heard_43 rfl rfl ?_
    refine jb_callV (pc' := 47) (ci := 12) (q := 105) (As := [.int 2]) (a2 := 0) (b2 := 0) wv_X12_121 rfl dX12_heard_44 (c_finds I J d e kp nm W 2 (by decide)) rfl rfl ⟨by decide, Nat.le_of_eq (Nat.zero_add _), Nat.le_of_eq (Nat.zero_add _)⟩ (Nat.le_of_ble_eq_true rfl) rfl (fun r h9 hq => ?_)
    obtain ⟨rfl, rfl⟩ := hq
    show jb_J _ RX12 cX12_heard 8 (Option.some .int) false 3 0 0 47 [some (.ref 105), some (.int (nI s)), some (.int 0), some (.int 2), none, none, none, none] [.int (jm_er 2)] [s0, s1, s2, s3, s4, s5, s6, s7, s8, s9, jb_mdl I J d e kp nm (va_up W 0 (jm_ef (W 0) 2)), s11] _
    refine jb_iret dX12_heard_47 rfl ?_
    exact ⟨rfl, rfl⟩
set_option maxRecDepth 100000 in
set_option maxHeartbeats 4000000 in
theorem me_heardZ1 {sc : Nat × (Nat → Int32)} {s0 s1 s2 s3 s4 s5 s6 s7 s8 s9 s11 : List va_E} (I J d e kp nm : Nat → Int32) (W : Nat → Nat → Int32) (s : Nat) (hs : s < 4) {bs zs : Nat} (h1s : W 1 s = nI bs) (h2s : W 2 s = nI zs) (hbs : bs ≤ 32) (hzs : zs ≤ 40) (hm : ¬ bs = 0) (h2 : zs < 2) : jb_C sc yX12_heard cX12_heard 8 (Option.some .int) 3 0 0 [.ref 105, .int (nI s), .int 1] [s0, s1, s2, s3, s4, s5, s6, s7, s8, s9, jb_mdl I J d e kp nm W, s11] (fun r h9 => r = some (.int (jm_er 2)) ∧ h9 = [s0, s1, s2, s3, s4, s5, s6, s7, s8, s9, jb_mdl I J d e kp nm (va_up W 0 (jm_ef (W 0) 2)), s11]) := by
  refine jb_CofJ (ini := false) (by decide +kernel) (fun h => by cases h) (Nat.le_of_ble_eq_true rfl) ?_
  show jb_J sc RX12 cX12_heard 8 (Option.some .int) false 3 0 0 0 [some (.ref 105), some (.int (nI s)), some (.int 1), none, none, none, none, none] [] [s0, s1, s2, s3, s4, s5, s6, s7, s8, s9, jb_mdl I J d e kp nm W, s11] _
  refine jb_iload_n (pc' := 1) dX12_heard_0 rfl rfl ?_
  refine jb_i2l (pc' := 2) dX12_heard_1 rfl ?_
  refine jb_lconst (pc' := 3) 0 dX12_heard_2 (by decide) rfl ?_
  refine jb_ldc2 (pc' := 6) 2 dX12_heard_3 wk_X12_137 rfl ?_
  refine jb_callS (pc' := 9) (As := [.long ((1 : Int32).toInt64), .long 0, .long 2]) (a2 := 0) (b2 := 0) wv_X12_56 dX12_heard_6 (c_inLG _ 1 0 2 (by omega) (by omega) (by omega)) rfl ⟨by decide, Nat.le_of_eq (Nat.zero_add _), Nat.le_of_eq (Nat.zero_add _)⟩ (Nat.le_of_ble_eq_true rfl) rfl (fun r h9 hq => ?_)
  obtain ⟨rfl, rfl⟩ := hq
  show jb_J _ RX12 cX12_heard 8 (Option.some .int) false 3 0 0 9 [some (.ref 105), some (.int (nI s)), some (.int 1), none, none, none, none, none] [.int 1] [s0, s1, s2, s3, s4, s5, s6, s7, s8, s9, jb_mdl I J d e kp nm W, s11] _
  refine jb_if_ne (tgt := 16) (pc' := 12) dX12_heard_9 (by decide) rfl (fun _ => ?_) (fun z => absurd z (by decide))
  refine jb_aload_n (pc' := 17) dX12_heard_16 rfl rfl ?_
  refine jb_iload_n (pc' := 18) dX12_heard_17 rfl rfl ?_
  refine jb_callV (pc' := 21) (ci := 12) (q := 105) (As := [.int (nI s)]) (a2 := 0) (b2 := 0) wv_X12_236 rfl dX12_heard_18 (c_whyNot I J d e kp nm W s hs h1s h2s hbs hzs) rfl rfl ⟨by decide, Nat.le_of_eq (Nat.zero_add _), Nat.le_of_eq (Nat.zero_add _)⟩ (Nat.le_of_ble_eq_true rfl) rfl (fun r h9 hq => ?_)
  rcases hq with ⟨rfl, ⟨hms, rfl⟩ | ⟨hms, rfl⟩⟩
  · exact absurd hms hm
  · show jb_J _ RX12 cX12_heard 8 (Option.some .int) false 3 0 0 21 [some (.ref 105), some (.int (nI s)), some (.int 1), none, none, none, none, none] [.int 0] [s0, s1, s2, s3, s4, s5, s6, s7, s8, s9, jb_mdl I J d e kp nm W, s11] _
    refine jb_istore_n_ (pc' := 22) dX12_heard_21 (by decide) (jb_at3 rfl) rfl ?_
    refine jb_iload_n (pc' := 23) dX12_heard_22 rfl rfl ?_
    refine jb_if_ne (tgt := 38) (pc' := 26) dX12_heard_23 (by decide) rfl (fun z => absurd (by decide) z) (fun _ => ?_)
    refine jb_aload_n (pc' := 27) dX12_heard_26 rfl rfl ?_
    refine gf_X12_28 (pc' := 30) (v := .ref 112) dX12_heard_27 rfl rfl rfl ?_
    refine jb_iload_n (pc' := 31) dX12_heard_30 rfl rfl ?_
    refine jb_iaload (pc' := 32) (i9 := s) (f := (W 2)) dX12_heard_31 rfl (jb_ix_nI (by omega)) (by omega) rfl ?_
    refine jb_top (v := .int ((W 2) s)) (w := .int (nI zs)) (jb_vI h2s) ?_
    refine jb_iconst (pc' := 33) 2 dX12_heard_32 (by decide) rfl ?_
    refine jb_icmp_ge (tgt := 38) (pc' := 36) dX12_heard_33 (by decide) rfl (fun z => absurd z (nI_ge (a := zs) (b := 2) (by omega) (by omega))) (fun _ => ?_)
    refine jb_iconst (pc' := 37) 2 dX12_heard_36 (by decide) rfl ?_
    refine jb_istore_n_ (pc' := 38) dX12_heard_37 (by decide) (jb_at3 rfl) rfl ?_
    refine jb_iload_n (pc' := 39) dX12_heard_38 rfl rfl ?_
    refine jb_if_eq (tgt := 48) (pc' := 42) dX12_heard_39 (by decide) rfl (fun z => absurd z (by decide)) (fun _ => ?_)
    refine jb_aload_n (pc' := 43) dX12_heard_42 rfl rfl ?_
    refine jb_iload_n (pc' := 44) dX12_heard_43 rfl rfl ?_
    refine jb_callV (pc' := 47) (ci := 12) (q := 105) (As := [.int 2]) (a2 := 0) (b2 := 0) wv_X12_121 rfl dX12_heard_44 (c_finds I J d e kp nm W 2 (by decide)) rfl rfl ⟨by decide, Nat.le_of_eq (Nat.zero_add _), Nat.le_of_eq (Nat.zero_add _)⟩ (Nat.le_of_ble_eq_true rfl) rfl (fun r h9 hq => ?_)
    obtain ⟨rfl, rfl⟩ := hq
    show jb_J _ RX12 cX12_heard 8 (Option.some .int) false 3 0 0 47 [some (.ref 105), some (.int (nI s)), some (.int 1), some (.int 2), none, none, none, none] [.int (jm_er 2)] [s0, s1, s2, s3, s4, s5, s6, s7, s8, s9, jb_mdl I J d e kp nm (va_up W 0 (jm_ef (W 0) 2)), s11] _
    refine jb_iret dX12_heard_47 rfl ?_
    exact ⟨rfl, rfl⟩
set_option maxRecDepth 100000 in
set_option maxHeartbeats 4000000 in
theorem me_heardZ2 {sc : Nat × (Nat → Int32)} {s0 s1 s2 s3 s4 s5 s6 s7 s8 s9 s11 : List va_E} (I J d e kp nm : Nat → Int32) (W : Nat → Nat → Int32) (s : Nat) (hs : s < 4) {bs zs : Nat} (h1s : W 1 s = nI bs) (h2s : W 2 s = nI zs) (hbs : bs ≤ 32) (hzs : zs ≤ 40) (hm : ¬ bs = 0) (h2 : zs < 2) : jb_C sc yX12_heard cX12_heard 8 (Option.some .int) 3 0 0 [.ref 105, .int (nI s), .int 2] [s0, s1, s2, s3, s4, s5, s6, s7, s8, s9, jb_mdl I J d e kp nm W, s11] (fun r h9 => r = some (.int (jm_er 2)) ∧ h9 = [s0, s1, s2, s3, s4, s5, s6, s7, s8, s9, jb_mdl I J d e kp nm (va_up W 0 (jm_ef (W 0) 2)), s11]) := by
  refine jb_CofJ (ini := false) (by decide +kernel) (fun h => by cases h) (Nat.le_of_ble_eq_true rfl) ?_
  show jb_J sc RX12 cX12_heard 8 (Option.some .int) false 3 0 0 0 [some (.ref 105), some (.int (nI s)), some (.int 2), none, none, none, none, none] [] [s0, s1, s2, s3, s4, s5, s6, s7, s8, s9, jb_mdl I J d e kp nm W, s11] _
  refine jb_iload_n (pc' := 1) dX12_heard_0 rfl rfl ?_
  refine jb_i2l (pc' := 2) dX12_heard_1 rfl ?_
  refine jb_lconst (pc' := 3) 0 dX12_heard_2 (by decide) rfl ?_
  refine jb_ldc2 (pc' := 6) 2 dX12_heard_3 wk_X12_137 rfl ?_
  refine jb_callS (pc' := 9) (As := [.long ((2 : Int32).toInt64), .long 0, .long 2]) (a2 := 0) (b2 := 0) wv_X12_56 dX12_heard_6 (c_inLG _ 2 0 2 (by omega) (by omega) (by omega)) rfl ⟨by decide, Nat.le_of_eq (Nat.zero_add _), Nat.le_of_eq (Nat.zero_add _)⟩ (Nat.le_of_ble_eq_true rfl) rfl (fun r h9 hq => ?_)
  obtain ⟨rfl, rfl⟩ := hq
  show jb_J _ RX12 cX12_heard 8 (Option.some .int) false 3 0 0 9 [some (.ref 105), some (.int (nI s)), some (.int 2), none, none, none, none, none] [.int 1] [s0, s1, s2, s3, s4, s5, s6, s7, s8, s9, jb_mdl I J d e kp nm W, s11] _
  refine jb_if_ne (tgt := 16) (pc' := 12) dX12_heard_9 (by decide) rfl (fun _ => ?_) (fun z => absurd z (by decide))
  refine jb_aload_n (pc' := 17) dX12_heard_16 rfl rfl ?_
  refine jb_iload_n (pc' := 18) dX12_heard_17 rfl rfl ?_
  refine jb_callV (pc' := 21) (ci := 12) (q := 105) (As := [.int (nI s)]) (a2 := 0) (b2 := 0) wv_X12_236 rfl dX12_heard_18 (c_whyNot I J d e kp nm W s hs h1s h2s hbs hzs) rfl rfl ⟨by decide, Nat.le_of_eq (Nat.zero_add _), Nat.le_of_eq (Nat.zero_add _)⟩ (Nat.le_of_ble_eq_true rfl) rfl (fun r h9 hq => ?_)
  rcases hq with ⟨rfl, ⟨hms, rfl⟩ | ⟨hms, rfl⟩⟩
  · exact absurd hms hm
  · show jb_J _ RX12 cX12_heard 8 (Option.some .int) false 3 0 0 21 [some (.ref 105), some (.int (nI s)), some (.int 2), none, none, none, none, none] [.int 0] [s0, s1, s2, s3, s4, s5, s6, s7, s8, s9, jb_mdl I J d e kp nm W, s11] _
    refine jb_istore_n_ (pc' := 22) dX12_heard_21 (by decide) (jb_at3 rfl) rfl ?_
    refine jb_iload_n (pc' := 23) dX12_heard_22 rfl rfl ?_
    refine jb_if_ne (tgt := 38) (pc' := 26) dX12_heard_23 (by decide) rfl (fun z => absurd (by decide) z) (fun _ => ?_)
    refine jb_aload_n (pc' := 27) dX12_heard_26 rfl rfl ?_
    refine gf_X12_28 (pc' := 30) (v := .ref 112) dX12_heard_27 rfl rfl rfl ?_
    refine jb_iload_n (pc' := 31) dX12_heard_30 rfl rfl ?_
    refine jb_iaload (pc' := 32) (i9 := s) (f := (W 2)) dX12_heard_31 rfl (jb_ix_nI (by omega)) (by omega) rfl ?_
    refine jb_top (v := .int ((W 2) s)) (w := .int (nI zs)) (jb_vI h2s) ?_
    refine jb_iconst (pc' := 33) 2 dX12_heard_32 (by decide) rfl ?_
    refine jb_icmp_ge (tgt := 38) (pc' := 36) dX12_heard_33 (by decide) rfl (fun z => absurd z (nI_ge (a := zs) (b := 2) (by omega) (by omega))) (fun _ => ?_)
    refine jb_iconst (pc' := 37) 2 dX12_heard_36 (by decide) rfl ?_
    refine jb_istore_n_ (pc' := 38) dX12_heard_37 (by decide) (jb_at3 rfl) rfl ?_
    refine jb_iload_n (pc' := 39) dX12_heard_38 rfl rfl ?_
    refine jb_if_eq (tgt := 48) (pc' := 42) dX12_heard_39 (by decide) rfl (fun z => absurd z (by decide)) (fun _ => ?_)
    refine jb_aload_n (pc' := 43) dX12_heard_42 rfl rfl ?_
    refine jb_iload_n (pc' := 44) dX12_heard_43 rfl rfl ?_
    refine jb_callV (pc' := 47) (ci := 12) (q := 105) (As := [.int 2]) (a2 := 0) (b2 := 0) wv_X12_121 rfl dX12_heard_44 (c_finds I J d e kp nm W 2 (by decide)) rfl rfl ⟨by decide, Nat.le_of_eq (Nat.zero_add _), Nat.le_of_eq (Nat.zero_add _)⟩ (Nat.le_of_ble_eq_true rfl) rfl (fun r h9 hq => ?_)
    obtain ⟨rfl, rfl⟩ := hq
    show jb_J _ RX12 cX12_heard 8 (Option.some .int) false 3 0 0 47 [some (.ref 105), some (.int (nI s)), some (.int 2), some (.int 2), none, none, none, none] [.int (jm_er 2)] [s0, s1, s2, s3, s4, s5, s6, s7, s8, s9, jb_mdl I J d e kp nm (va_up W 0 (jm_ef (W 0) 2)), s11] _
    refine jb_iret dX12_heard_47 rfl ?_
    exact ⟨rfl, rfl⟩
