set_option maxRecDepth 100000 in
set_option maxHeartbeats 4000000 in
theorem c_isOutside {sc : Nat × (Nat → Int32)} {h : jb_H} (v lo hi : Int32) : jb_C sc yX11_isOutside cX11_isOutside 3 (Option.some .boolean) 0 0 0 [.int v, .int lo, .int hi] h (fun r h9 => h9 = h ∧ (((v < lo ∨ hi < v) ∧ r = some (.int 1)) ∨ (¬ (v < lo ∨ hi < v) ∧ r = some (.int 0)))) := by
  refine jb_CofJ (ini := false) (by decide +kernel) (fun h => by cases h) (Nat.le_of_ble_eq_true rfl) ?_
  show jb_J sc RX11 cX11_isOutside 3 (Option.some .boolean) false 0 0 0 0 [some (.int v), some (.int lo), some (.int hi)] [] h _
  refine jb_iload_n (pc' := 1) dX11_isOutside_0 rfl rfl ?_
  refine jb_iload_n (pc' := 2) dX11_isOutside_1 rfl rfl ?_
  refine jb_icmp_lt (tgt := 10) (pc' := 5) dX11_isOutside_2 (by decide) rfl (fun c1 => ?_) (fun c1 => ?_)
  · refine jb_iconst (pc' := 11) 1 dX11_isOutside_10 (by decide) rfl ?_
    refine jb_goto (pc' := 15) dX11_isOutside_11 (by decide) ?_
    refine jb_iret dX11_isOutside_15 rfl ?_
    exact ⟨rfl, by first | exact Or.inl ⟨Or.inl (by assumption), rfl⟩ | exact Or.inl ⟨Or.inr (by assumption), rfl⟩ | exact Or.inl ⟨Or.inr (by simp_all), rfl⟩ | exact Or.inr ⟨by simp_all, rfl⟩⟩
  · refine jb_iload_n (pc' := 6) dX11_isOutside_5 rfl rfl ?_
    refine jb_iload_n (pc' := 7) dX11_isOutside_6 rfl rfl ?_
    refine jb_icmp_le (tgt := 14) (pc' := 10) dX11_isOutside_7 (by decide) rfl (fun c2 => ?_) (fun c2 => ?_)
    · refine jb_iconst (pc' := 15) 0 dX11_isOutside_14 (by decide) rfl ?_
      refine jb_iret dX11_isOutside_15 rfl ?_
      exact ⟨rfl, by first | exact Or.inl ⟨Or.inl (by assumption), rfl⟩ | exact Or.inl ⟨Or.inr (by assumption), rfl⟩ | exact Or.inl ⟨Or.inr (by simp_all), rfl⟩ | exact Or.inr ⟨by simp_all, rfl⟩⟩
    · refine jb_iconst (pc' := 11) 1 dX11_isOutside_10 (by decide) rfl ?_
      refine jb_goto (pc' := 15) dX11_isOutside_11 (by decide) ?_
      refine jb_iret dX11_isOutside_15 rfl ?_
      exact ⟨rfl, by first | exact Or.inl ⟨Or.inl (by assumption), rfl⟩ | exact Or.inl ⟨Or.inr (by assumption), rfl⟩ | exact Or.inl ⟨Or.inr (by simp_all), rfl⟩ | exact Or.inr ⟨by simp_all, rfl⟩⟩
theorem jk_th1 : ∀ m, m < 10 → (if (0 : Int32) < 3 - nI m then 3 - nI m else 0) = nI (3 - m) := by decide +kernel
theorem jk_th4 : ∀ m, m < 10 → nI (3 - m) + 1 = nI (3 - m + 1) := by decide +kernel
theorem jk_add3 : ∀ m, m < 10 → (3 : Int32) + nI m = nI (3 + m) := by decide +kernel
theorem jk_add2 : ∀ m, m < 10 → (2 : Int32) * nI 1 + nI m = nI (2 + m) := by decide +kernel
theorem jk_ev : ∀ w, w < 40 → (nI w - nI w / 2 * 2 = 0 ↔ w % 2 = 0) := by decide +kernel
theorem jk_fg : ∀ f, f < 10 → (nI f = 0 ↔ f = 0) := by decide +kernel
theorem jk_m3 : ∀ m, m < 10 → nI m / 3 = nI (m / 3) := by decide +kernel
theorem jk_r40 : ∀ g, g < 40 → ∀ m, m < 10 → (nI g + nI m) - (nI g + nI m) / 40 * 40 = nI ((g + m) % 40) := by decide +kernel
set_option maxRecDepth 100000 in
set_option maxHeartbeats 4000000 in
theorem c_th_X7_6 {sc : Nat × (Nat → Int32)} {s1 s2 s3 s4 s5 s6 s7 s8 s9 s10 s11 : List va_E} (m fg wd : Nat) (hm : m < 10) (hf : fg < 10) (hw : wd < 10) (im : Int32) (I row stk tp : Nat → Int32) (T : Nat → Value) : jb_C sc yX7_thinks cX7_thinks 4 (Option.some .int) 0 0 0 [.ref 6, .int (nI m), .int (nI fg), .int (nI wd)] [jb_main im I T row stk tp, s1, s2, s3, s4, s5, s6, s7, s8, s9, s10, s11] (fun r h9 => r = some (.int (nI (jm_thk 0 m fg wd))) ∧ h9 = [jb_main im I T row stk tp, s1, s2, s3, s4, s5, s6, s7, s8, s9, s10, s11]) := by
  refine jb_CofJ (ini := false) (by decide +kernel) (fun h => by cases h) (Nat.le_of_ble_eq_true rfl) ?_
  show jb_J sc RX7 cX7_thinks 4 (Option.some .int) false 0 0 0 0 [some (.ref 6), some (.int (nI m)), some (.int (nI fg)), some (.int (nI wd))] [] [jb_main im I T row stk tp, s1, s2, s3, s4, s5, s6, s7, s8, s9, s10, s11] _
  refine jb_iconst (pc' := 1) 3 dX7_thinks_0 (by decide) rfl ?_
  refine jb_iret dX7_thinks_1 rfl ?_
  exact ⟨rfl, rfl⟩
set_option maxRecDepth 100000 in
set_option maxHeartbeats 4000000 in
theorem c_th_X7_7 {sc : Nat × (Nat → Int32)} {s1 s2 s3 s4 s5 s6 s7 s8 s9 s10 s11 : List va_E} (m fg wd : Nat) (hm : m < 10) (hf : fg < 10) (hw : wd < 10) (im : Int32) (I row stk tp : Nat → Int32) (T : Nat → Value) : jb_C sc yX7_thinks cX7_thinks 4 (Option.some .int) 0 0 0 [.ref 7, .int (nI m), .int (nI fg), .int (nI wd)] [jb_main im I T row stk tp, s1, s2, s3, s4, s5, s6, s7, s8, s9, s10, s11] (fun r h9 => r = some (.int (nI (jm_thk 0 m fg wd))) ∧ h9 = [jb_main im I T row stk tp, s1, s2, s3, s4, s5, s6, s7, s8, s9, s10, s11]) := by
  refine jb_CofJ (ini := false) (by decide +kernel) (fun h => by cases h) (Nat.le_of_ble_eq_true rfl) ?_
  show jb_J sc RX7 cX7_thinks 4 (Option.some .int) false 0 0 0 0 [some (.ref 7), some (.int (nI m)), some (.int (nI fg)), some (.int (nI wd))] [] [jb_main im I T row stk tp, s1, s2, s3, s4, s5, s6, s7, s8, s9, s10, s11] _
  refine jb_iconst (pc' := 1) 3 dX7_thinks_0 (by decide) rfl ?_
  refine jb_iret dX7_thinks_1 rfl ?_
  exact ⟨rfl, rfl⟩
set_option maxRecDepth 100000 in
set_option maxHeartbeats 4000000 in
theorem c_th_X7_8 {sc : Nat × (Nat → Int32)} {s1 s2 s3 s4 s5 s6 s7 s8 s9 s10 s11 : List va_E} (m fg wd : Nat) (hm : m < 10) (hf : fg < 10) (hw : wd < 10) (im : Int32) (I row stk tp : Nat → Int32) (T : Nat → Value) : jb_C sc yX7_thinks cX7_thinks 4 (Option.some .int) 0 0 0 [.ref 8, .int (nI m), .int (nI fg), .int (nI wd)] [jb_main im I T row stk tp, s1, s2, s3, s4, s5, s6, s7, s8, s9, s10, s11] (fun r h9 => r = some (.int (nI (jm_thk 0 m fg wd))) ∧ h9 = [jb_main im I T row stk tp, s1, s2, s3, s4, s5, s6, s7, s8, s9, s10, s11]) := by
  refine jb_CofJ (ini := false) (by decide +kernel) (fun h => by cases h) (Nat.le_of_ble_eq_true rfl) ?_
  show jb_J sc RX7 cX7_thinks 4 (Option.some .int) false 0 0 0 0 [some (.ref 8), some (.int (nI m)), some (.int (nI fg)), some (.int (nI wd))] [] [jb_main im I T row stk tp, s1, s2, s3, s4, s5, s6, s7, s8, s9, s10, s11] _
  refine jb_iconst (pc' := 1) 3 dX7_thinks_0 (by decide) rfl ?_
  refine jb_iret dX7_thinks_1 rfl ?_
  exact ⟨rfl, rfl⟩
set_option maxRecDepth 100000 in
set_option maxHeartbeats 4000000 in
theorem c_th_X7_9 {sc : Nat × (Nat → Int32)} {s1 s2 s3 s4 s5 s6 s7 s8 s9 s10 s11 : List va_E} (m fg wd : Nat) (hm : m < 10) (hf : fg < 10) (hw : wd < 10) (im : Int32) (I row stk tp : Nat → Int32) (T : Nat → Value) : jb_C sc yX7_thinks cX7_thinks 4 (Option.some .int) 0 0 0 [.ref 9, .int (nI m), .int (nI fg), .int (nI wd)] [jb_main im I T row stk tp, s1, s2, s3, s4, s5, s6, s7, s8, s9, s10, s11] (fun r h9 => r = some (.int (nI (jm_thk 0 m fg wd))) ∧ h9 = [jb_main im I T row stk tp, s1, s2, s3, s4, s5, s6, s7, s8, s9, s10, s11]) := by
  refine jb_CofJ (ini := false) (by decide +kernel) (fun h => by cases h) (Nat.le_of_ble_eq_true rfl) ?_
  show jb_J sc RX7 cX7_thinks 4 (Option.some .int) false 0 0 0 0 [some (.ref 9), some (.int (nI m)), some (.int (nI fg)), some (.int (nI wd))] [] [jb_main im I T row stk tp, s1, s2, s3, s4, s5, s6, s7, s8, s9, s10, s11] _
  refine jb_iconst (pc' := 1) 3 dX7_thinks_0 (by decide) rfl ?_
  refine jb_iret dX7_thinks_1 rfl ?_
  exact ⟨rfl, rfl⟩
set_option maxRecDepth 100000 in
set_option maxHeartbeats 4000000 in
theorem c_th_X7_10 {sc : Nat × (Nat → Int32)} {s1 s2 s3 s4 s5 s6 s7 s8 s9 s10 s11 : List va_E} (m fg wd : Nat) (hm : m < 10) (hf : fg < 10) (hw : wd < 10) (im : Int32) (I row stk tp : Nat → Int32) (T : Nat → Value) : jb_C sc yX7_thinks cX7_thinks 4 (Option.some .int) 0 0 0 [.ref 10, .int (nI m), .int (nI fg), .int (nI wd)] [jb_main im I T row stk tp, s1, s2, s3, s4, s5, s6, s7, s8, s9, s10, s11] (fun r h9 => r = some (.int (nI (jm_thk 0 m fg wd))) ∧ h9 = [jb_main im I T row stk tp, s1, s2, s3, s4, s5, s6, s7, s8, s9, s10, s11]) := by
  refine jb_CofJ (ini := false) (by decide +kernel) (fun h => by cases h) (Nat.le_of_ble_eq_true rfl) ?_
  show jb_J sc RX7 cX7_thinks 4 (Option.some .int) false 0 0 0 0 [some (.ref 10), some (.int (nI m)), some (.int (nI fg)), some (.int (nI wd))] [] [jb_main im I T row stk tp, s1, s2, s3, s4, s5, s6, s7, s8, s9, s10, s11] _
  refine jb_iconst (pc' := 1) 3 dX7_thinks_0 (by decide) rfl ?_
  refine jb_iret dX7_thinks_1 rfl ?_
  exact ⟨rfl, rfl⟩
set_option maxRecDepth 100000 in
set_option maxHeartbeats 4000000 in
theorem c_th_X7_11 {sc : Nat × (Nat → Int32)} {s1 s2 s3 s4 s5 s6 s7 s8 s9 s10 s11 : List va_E} (m fg wd : Nat) (hm : m < 10) (hf : fg < 10) (hw : wd < 10) (im : Int32) (I row stk tp : Nat → Int32) (T : Nat → Value) : jb_C sc yX7_thinks cX7_thinks 4 (Option.some .int) 0 0 0 [.ref 11, .int (nI m), .int (nI fg), .int (nI wd)] [jb_main im I T row stk tp, s1, s2, s3, s4, s5, s6, s7, s8, s9, s10, s11] (fun r h9 => r = some (.int (nI (jm_thk 0 m fg wd))) ∧ h9 = [jb_main im I T row stk tp, s1, s2, s3, s4, s5, s6, s7, s8, s9, s10, s11]) := by
  refine jb_CofJ (ini := false) (by decide +kernel) (fun h => by cases h) (Nat.le_of_ble_eq_true rfl) ?_
  show jb_J sc RX7 cX7_thinks 4 (Option.some .int) false 0 0 0 0 [some (.ref 11), some (.int (nI m)), some (.int (nI fg)), some (.int (nI wd))] [] [jb_main im I T row stk tp, s1, s2, s3, s4, s5, s6, s7, s8, s9, s10, s11] _
  refine jb_iconst (pc' := 1) 3 dX7_thinks_0 (by decide) rfl ?_
  refine jb_iret dX7_thinks_1 rfl ?_
  exact ⟨rfl, rfl⟩
set_option maxRecDepth 100000 in
set_option maxHeartbeats 4000000 in
theorem c_th_X7_12 {sc : Nat × (Nat → Int32)} {s1 s2 s3 s4 s5 s6 s7 s8 s9 s10 s11 : List va_E} (m fg wd : Nat) (hm : m < 10) (hf : fg < 10) (hw : wd < 10) (im : Int32) (I row stk tp : Nat → Int32) (T : Nat → Value) : jb_C sc yX7_thinks cX7_thinks 4 (Option.some .int) 0 0 0 [.ref 12, .int (nI m), .int (nI fg), .int (nI wd)] [jb_main im I T row stk tp, s1, s2, s3, s4, s5, s6, s7, s8, s9, s10, s11] (fun r h9 => r = some (.int (nI (jm_thk 0 m fg wd))) ∧ h9 = [jb_main im I T row stk tp, s1, s2, s3, s4, s5, s6, s7, s8, s9, s10, s11]) := by
  refine jb_CofJ (ini := false) (by decide +kernel) (fun h => by cases h) (Nat.le_of_ble_eq_true rfl) ?_
  show jb_J sc RX7 cX7_thinks 4 (Option.some .int) false 0 0 0 0 [some (.ref 12), some (.int (nI m)), some (.int (nI fg)), some (.int (nI wd))] [] [jb_main im I T row stk tp, s1, s2, s3, s4, s5, s6, s7, s8, s9, s10, s11] _
  refine jb_iconst (pc' := 1) 3 dX7_thinks_0 (by decide) rfl ?_
  refine jb_iret dX7_thinks_1 rfl ?_
  exact ⟨rfl, rfl⟩
set_option maxRecDepth 100000 in
set_option maxHeartbeats 4000000 in
theorem c_th_X6_9 {sc : Nat × (Nat → Int32)} {s1 s2 s3 s4 s5 s6 s7 s8 s9 s10 s11 : List va_E} (m fg wd : Nat) (hm : m < 10) (hf : fg < 10) (hw : wd < 10) (im : Int32) (I row stk tp : Nat → Int32) (T : Nat → Value) : jb_C sc yX6_thinks cX6_thinks 4 (Option.some .int) 0 0 0 [.ref 9, .int (nI m), .int (nI fg), .int (nI wd)] [jb_main im I T row stk tp, s1, s2, s3, s4, s5, s6, s7, s8, s9, s10, s11] (fun r h9 => r = some (.int (nI (jm_thk 3 m fg wd))) ∧ h9 = [jb_main im I T row stk tp, s1, s2, s3, s4, s5, s6, s7, s8, s9, s10, s11]) := by
  refine jb_CofJ (ini := false) (by decide +kernel) (fun h => by cases h) (Nat.le_of_ble_eq_true rfl) ?_
  show jb_J sc RX6 cX6_thinks 4 (Option.some .int) false 0 0 0 0 [some (.ref 9), some (.int (nI m)), some (.int (nI fg)), some (.int (nI wd))] [] [jb_main im I T row stk tp, s1, s2, s3, s4, s5, s6, s7, s8, s9, s10, s11] _
  refine jb_iconst (pc' := 1) 1 dX6_thinks_0 (by decide) rfl ?_
  refine jb_iret dX6_thinks_1 rfl ?_
  exact ⟨rfl, rfl⟩
set_option maxRecDepth 100000 in
set_option maxHeartbeats 4000000 in
theorem c_th_X6_12 {sc : Nat × (Nat → Int32)} {s1 s2 s3 s4 s5 s6 s7 s8 s9 s10 s11 : List va_E} (m fg wd : Nat) (hm : m < 10) (hf : fg < 10) (hw : wd < 10) (im : Int32) (I row stk tp : Nat → Int32) (T : Nat → Value) : jb_C sc yX6_thinks cX6_thinks 4 (Option.some .int) 0 0 0 [.ref 12, .int (nI m), .int (nI fg), .int (nI wd)] [jb_main im I T row stk tp, s1, s2, s3, s4, s5, s6, s7, s8, s9, s10, s11] (fun r h9 => r = some (.int (nI (jm_thk 3 m fg wd))) ∧ h9 = [jb_main im I T row stk tp, s1, s2, s3, s4, s5, s6, s7, s8, s9, s10, s11]) := by
  refine jb_CofJ (ini := false) (by decide +kernel) (fun h => by cases h) (Nat.le_of_ble_eq_true rfl) ?_
  show jb_J sc RX6 cX6_thinks 4 (Option.some .int) false 0 0 0 0 [some (.ref 12), some (.int (nI m)), some (.int (nI fg)), some (.int (nI wd))] [] [jb_main im I T row stk tp, s1, s2, s3, s4, s5, s6, s7, s8, s9, s10, s11] _
  refine jb_iconst (pc' := 1) 1 dX6_thinks_0 (by decide) rfl ?_
  refine jb_iret dX6_thinks_1 rfl ?_
  exact ⟨rfl, rfl⟩
set_option maxRecDepth 100000 in
set_option maxHeartbeats 4000000 in
theorem c_th_X2_7 {sc : Nat × (Nat → Int32)} {s1 s2 s3 s4 s5 s6 s7 s8 s9 s10 s11 : List va_E} (m fg wd : Nat) (hm : m < 10) (hf : fg < 10) (hw : wd < 10) (im : Int32) (I row stk tp : Nat → Int32) (T : Nat → Value) : jb_C sc yX2_thinks cX2_thinks 4 (Option.some .int) 1 0 0 [.ref 7, .int (nI m), .int (nI fg), .int (nI wd)] [jb_main im I T row stk tp, s1, s2, s3, s4, s5, s6, s7, s8, s9, s10, s11] (fun r h9 => r = some (.int (nI (jm_thk 1 m fg wd))) ∧ h9 = [jb_main im I T row stk tp, s1, s2, s3, s4, s5, s6, s7, s8, s9, s10, s11]) := by
  refine jb_CofJ (ini := false) (by decide +kernel) (fun h => by cases h) (Nat.le_of_ble_eq_true rfl) ?_
  show jb_J sc RX2 cX2_thinks 4 (Option.some .int) false 1 0 0 0 [some (.ref 7), some (.int (nI m)), some (.int (nI fg)), some (.int (nI wd))] [] [jb_main im I T row stk tp, s1, s2, s3, s4, s5, s6, s7, s8, s9, s10, s11] _
  refine jb_iconst (pc' := 1) 0 dX2_thinks_0 (by decide) rfl ?_
  refine jb_aload_n (pc' := 2) dX2_thinks_1 rfl rfl ?_
  refine jb_iload_n (pc' := 3) dX2_thinks_2 rfl rfl ?_
  refine jb_iload_n (pc' := 4) dX2_thinks_3 rfl rfl ?_
  refine jb_iload_n (pc' := 5) dX2_thinks_4 rfl rfl ?_
  refine jb_callP (pc' := 8) (ci := 2) (q := 7) (As := [.int (nI m), .int (nI fg), .int (nI wd)]) (a2 := 0) (b2 := 0) wv_X2_7 rfl dX2_thinks_5 (c_th_X7_7 m fg wd hm hf hw _ _ _ _ _ _) rfl rfl ⟨by decide, Nat.le_of_eq (Nat.zero_add _), Nat.le_of_eq (Nat.zero_add _)⟩ (Nat.le_of_ble_eq_true rfl) rfl (fun r h9 hq => ?_)
  obtain ⟨rfl, rfl⟩ := hq
  show jb_J _ RX2 cX2_thinks 4 (Option.some .int) false 1 0 0 8 [some (.ref 7), some (.int (nI m)), some (.int (nI fg)), some (.int (nI wd))] [.int (nI (jm_thk 0 m fg wd)), .int 0] [jb_main im I T row stk tp, s1, s2, s3, s4, s5, s6, s7, s8, s9, s10, s11] _
  refine jb_iload_n (pc' := 9) dX2_thinks_8 rfl rfl ?_
  refine jb_isub (pc' := 10) dX2_thinks_9 rfl ?_
  refine jb_mmax (pc' := 13) wv_X2_11 dX2_thinks_10 (by decide) (Nat.le_of_ble_eq_true rfl) rfl ?_
  refine jb_top (v := .int (if 0 < ((nI (jm_thk 0 m fg wd)) - (nI m)) then ((nI (jm_thk 0 m fg wd)) - (nI m)) else 0)) (w := .int (nI (3 - m))) (jb_vI (jk_th1 m hm)) ?_
  refine jb_iret dX2_thinks_13 rfl ?_
  exact ⟨rfl, rfl⟩
set_option maxRecDepth 100000 in
set_option maxHeartbeats 4000000 in
theorem c_th_X2_10 {sc : Nat × (Nat → Int32)} {s1 s2 s3 s4 s5 s6 s7 s8 s9 s10 s11 : List va_E} (m fg wd : Nat) (hm : m < 10) (hf : fg < 10) (hw : wd < 10) (im : Int32) (I row stk tp : Nat → Int32) (T : Nat → Value) : jb_C sc yX2_thinks cX2_thinks 4 (Option.some .int) 1 0 0 [.ref 10, .int (nI m), .int (nI fg), .int (nI wd)] [jb_main im I T row stk tp, s1, s2, s3, s4, s5, s6, s7, s8, s9, s10, s11] (fun r h9 => r = some (.int (nI (jm_thk 1 m fg wd))) ∧ h9 = [jb_main im I T row stk tp, s1, s2, s3, s4, s5, s6, s7, s8, s9, s10, s11]) := by
  refine jb_CofJ (ini := false) (by decide +kernel) (fun h => by cases h) (Nat.le_of_ble_eq_true rfl) ?_
  show jb_J sc RX2 cX2_thinks 4 (Option.some .int) false 1 0 0 0 [some (.ref 10), some (.int (nI m)), some (.int (nI fg)), some (.int (nI wd))] [] [jb_main im I T row stk tp, s1, s2, s3, s4, s5, s6, s7, s8, s9, s10, s11] _
  refine jb_iconst (pc' := 1) 0 dX2_thinks_0 (by decide) rfl ?_
  refine jb_aload_n (pc' := 2) dX2_thinks_1 rfl rfl ?_
  refine jb_iload_n (pc' := 3) dX2_thinks_2 rfl rfl ?_
  refine jb_iload_n (pc' := 4) dX2_thinks_3 rfl rfl ?_
  refine jb_iload_n (pc' := 5) dX2_thinks_4 rfl rfl ?_
  refine jb_callP (pc' := 8) (ci := 3) (q := 10) (As := [.int (nI m), .int (nI fg), .int (nI wd)]) (a2 := 0) (b2 := 0) wv_X2_7 rfl dX2_thinks_5 (c_th_X7_10 m fg wd hm hf hw _ _ _ _ _ _) rfl rfl ⟨by decide, Nat.le_of_eq (Nat.zero_add _), Nat.le_of_eq (Nat.zero_add _)⟩ (Nat.le_of_ble_eq_true rfl) rfl (fun r h9 hq => ?_)
  obtain ⟨rfl, rfl⟩ := hq
  show jb_J _ RX2 cX2_thinks 4 (Option.some .int) false 1 0 0 8 [some (.ref 10), some (.int (nI m)), some (.int (nI fg)), some (.int (nI wd))] [.int (nI (jm_thk 0 m fg wd)), .int 0] [jb_main im I T row stk tp, s1, s2, s3, s4, s5, s6, s7, s8, s9, s10, s11] _
  refine jb_iload_n (pc' := 9) dX2_thinks_8 rfl rfl ?_
  refine jb_isub (pc' := 10) dX2_thinks_9 rfl ?_
  refine jb_mmax (pc' := 13) wv_X2_11 dX2_thinks_10 (by decide) (Nat.le_of_ble_eq_true rfl) rfl ?_
  refine jb_top (v := .int (if 0 < ((nI (jm_thk 0 m fg wd)) - (nI m)) then ((nI (jm_thk 0 m fg wd)) - (nI m)) else 0)) (w := .int (nI (3 - m))) (jb_vI (jk_th1 m hm)) ?_
  refine jb_iret dX2_thinks_13 rfl ?_
  exact ⟨rfl, rfl⟩
set_option maxRecDepth 100000 in
set_option maxHeartbeats 4000000 in
theorem c_th_X5_8 {sc : Nat × (Nat → Int32)} {s1 s2 s3 s4 s5 s6 s7 s8 s9 s10 s11 : List va_E} (m fg wd : Nat) (hm : m < 10) (hf : fg < 10) (hw : wd < 10) (im : Int32) (I row stk tp : Nat → Int32) (T : Nat → Value) : jb_C sc yX5_thinks cX5_thinks 4 (Option.some .int) 1 0 0 [.ref 8, .int (nI m), .int (nI fg), .int (nI wd)] [jb_main im I T row stk tp, s1, s2, s3, s4, s5, s6, s7, s8, s9, s10, s11] (fun r h9 => r = some (.int (nI (jm_thk 2 m fg wd))) ∧ h9 = [jb_main im I T row stk tp, s1, s2, s3, s4, s5, s6, s7, s8, s9, s10, s11]) := by
  refine jb_CofJ (ini := false) (by decide +kernel) (fun h => by cases h) (Nat.le_of_ble_eq_true rfl) ?_
  show jb_J sc RX5 cX5_thinks 4 (Option.some .int) false 1 0 0 0 [some (.ref 8), some (.int (nI m)), some (.int (nI fg)), some (.int (nI wd))] [] [jb_main im I T row stk tp, s1, s2, s3, s4, s5, s6, s7, s8, s9, s10, s11] _
  refine jb_aload_n (pc' := 1) dX5_thinks_0 rfl rfl ?_
  refine jb_iload_n (pc' := 2) dX5_thinks_1 rfl rfl ?_
  refine jb_iload_n (pc' := 3) dX5_thinks_2 rfl rfl ?_
  refine jb_iload_n (pc' := 4) dX5_thinks_3 rfl rfl ?_
  refine jb_callP (pc' := 7) (ci := 5) (q := 8) (As := [.int (nI m), .int (nI fg), .int (nI wd)]) (a2 := 0) (b2 := 0) wv_X5_7 rfl dX5_thinks_4 (c_th_X7_8 m fg wd hm hf hw _ _ _ _ _ _) rfl rfl ⟨by decide, Nat.le_of_eq (Nat.zero_add _), Nat.le_of_eq (Nat.zero_add _)⟩ (Nat.le_of_ble_eq_true rfl) rfl (fun r h9 hq => ?_)
  obtain ⟨rfl, rfl⟩ := hq
  show jb_J _ RX5 cX5_thinks 4 (Option.some .int) false 1 0 0 7 [some (.ref 8), some (.int (nI m)), some (.int (nI fg)), some (.int (nI wd))] [.int (nI (jm_thk 0 m fg wd))] [jb_main im I T row stk tp, s1, s2, s3, s4, s5, s6, s7, s8, s9, s10, s11] _
  refine jb_iload_n (pc' := 8) dX5_thinks_7 rfl rfl ?_
  refine jb_iadd (pc' := 9) dX5_thinks_8 rfl ?_
  refine jb_top (v := .int ((nI (jm_thk 0 m fg wd)) + (nI m))) (w := .int (nI (3 + m))) (jb_vI (jk_add3 m hm)) ?_
  refine jb_iret dX5_thinks_9 rfl ?_
  exact ⟨rfl, rfl⟩
set_option maxRecDepth 100000 in
set_option maxHeartbeats 4000000 in
theorem c_th_X5_11 {sc : Nat × (Nat → Int32)} {s1 s2 s3 s4 s5 s6 s7 s8 s9 s10 s11 : List va_E} (m fg wd : Nat) (hm : m < 10) (hf : fg < 10) (hw : wd < 10) (im : Int32) (I row stk tp : Nat → Int32) (T : Nat → Value) : jb_C sc yX5_thinks cX5_thinks 4 (Option.some .int) 1 0 0 [.ref 11, .int (nI m), .int (nI fg), .int (nI wd)] [jb_main im I T row stk tp, s1, s2, s3, s4, s5, s6, s7, s8, s9, s10, s11] (fun r h9 => r = some (.int (nI (jm_thk 2 m fg wd))) ∧ h9 = [jb_main im I T row stk tp, s1, s2, s3, s4, s5, s6, s7, s8, s9, s10, s11]) := by
  refine jb_CofJ (ini := false) (by decide +kernel) (fun h => by cases h) (Nat.le_of_ble_eq_true rfl) ?_
  show jb_J sc RX5 cX5_thinks 4 (Option.some .int) false 1 0 0 0 [some (.ref 11), some (.int (nI m)), some (.int (nI fg)), some (.int (nI wd))] [] [jb_main im I T row stk tp, s1, s2, s3, s4, s5, s6, s7, s8, s9, s10, s11] _
  refine jb_aload_n (pc' := 1) dX5_thinks_0 rfl rfl ?_
  refine jb_iload_n (pc' := 2) dX5_thinks_1 rfl rfl ?_
  refine jb_iload_n (pc' := 3) dX5_thinks_2 rfl rfl ?_
  refine jb_iload_n (pc' := 4) dX5_thinks_3 rfl rfl ?_
  refine jb_callP (pc' := 7) (ci := 4) (q := 11) (As := [.int (nI m), .int (nI fg), .int (nI wd)]) (a2 := 0) (b2 := 0) wv_X5_7 rfl dX5_thinks_4 (c_th_X7_11 m fg wd hm hf hw _ _ _ _ _ _) rfl rfl ⟨by decide, Nat.le_of_eq (Nat.zero_add _), Nat.le_of_eq (Nat.zero_add _)⟩ (Nat.le_of_ble_eq_true rfl) rfl (fun r h9 hq => ?_)
  obtain ⟨rfl, rfl⟩ := hq
  show jb_J _ RX5 cX5_thinks 4 (Option.some .int) false 1 0 0 7 [some (.ref 11), some (.int (nI m)), some (.int (nI fg)), some (.int (nI wd))] [.int (nI (jm_thk 0 m fg wd))] [jb_main im I T row stk tp, s1, s2, s3, s4, s5, s6, s7, s8, s9, s10, s11] _
  refine jb_iload_n (pc' := 8) dX5_thinks_7 rfl rfl ?_
  refine jb_iadd (pc' := 9) dX5_thinks_8 rfl ?_
  refine jb_top (v := .int ((nI (jm_thk 0 m fg wd)) + (nI m))) (w := .int (nI (3 + m))) (jb_vI (jk_add3 m hm)) ?_
  refine jb_iret dX5_thinks_9 rfl ?_
  exact ⟨rfl, rfl⟩
set_option maxRecDepth 100000 in
set_option maxHeartbeats 4000000 in
theorem c_th_X3_10 {sc : Nat × (Nat → Int32)} {s1 s2 s3 s4 s5 s6 s7 s8 s9 s10 s11 : List va_E} (m fg wd : Nat) (hm : m < 10) (hf : fg < 10) (hw : wd < 10) (im : Int32) (I row stk tp : Nat → Int32) (T : Nat → Value) : jb_C sc yX3_thinks cX3_thinks 4 (Option.some .int) 2 0 0 [.ref 10, .int (nI m), .int (nI fg), .int (nI wd)] [jb_main im I T row stk tp, s1, s2, s3, s4, s5, s6, s7, s8, s9, s10, s11] (fun r h9 => r = some (.int (nI (jm_thk 4 m fg wd))) ∧ h9 = [jb_main im I T row stk tp, s1, s2, s3, s4, s5, s6, s7, s8, s9, s10, s11]) := by
  refine jb_CofJ (ini := false) (by decide +kernel) (fun h => by cases h) (Nat.le_of_ble_eq_true rfl) ?_
  show jb_J sc RX3 cX3_thinks 4 (Option.some .int) false 2 0 0 0 [some (.ref 10), some (.int (nI m)), some (.int (nI fg)), some (.int (nI wd))] [] [jb_main im I T row stk tp, s1, s2, s3, s4, s5, s6, s7, s8, s9, s10, s11] _
  refine jb_aload_n (pc' := 1) dX3_thinks_0 rfl rfl ?_
  refine jb_iload_n (pc' := 2) dX3_thinks_1 rfl rfl ?_
  refine jb_iload_n (pc' := 3) dX3_thinks_2 rfl rfl ?_
  refine jb_iload_n (pc' := 4) dX3_thinks_3 rfl rfl ?_
  refine jb_callP (pc' := 7) (ci := 3) (q := 10) (As := [.int (nI m), .int (nI fg), .int (nI wd)]) (a2 := 0) (b2 := 0) wv_X3_9 rfl dX3_thinks_4 (c_th_X2_10 m fg wd hm hf hw _ _ _ _ _ _) rfl rfl ⟨by decide, Nat.le_of_eq (Nat.zero_add _), Nat.le_of_eq (Nat.zero_add _)⟩ (Nat.le_of_ble_eq_true rfl) rfl (fun r h9 hq => ?_)
  obtain ⟨rfl, rfl⟩ := hq
  show jb_J _ RX3 cX3_thinks 4 (Option.some .int) false 2 0 0 7 [some (.ref 10), some (.int (nI m)), some (.int (nI fg)), some (.int (nI wd))] [.int (nI (jm_thk 1 m fg wd))] [jb_main im I T row stk tp, s1, s2, s3, s4, s5, s6, s7, s8, s9, s10, s11] _
  refine jb_iload_n (pc' := 8) dX3_thinks_7 rfl rfl ?_
  refine jb_if_eq (tgt := 15) (pc' := 11) dX3_thinks_8 (by decide) rfl (fun c1 => ?_) (fun c1 => ?_)
  · have c1 : fg = 0 := (nI_eq (a := fg) (b := 0) (by omega) (by omega)).mp c1
    refine jb_iconst (pc' := 16) 0 dX3_thinks_15 (by decide) rfl ?_
    refine jb_iadd (pc' := 17) dX3_thinks_16 rfl ?_
    refine jb_iret dX3_thinks_17 rfl ?_
    first
      | (have hz : fg = 0 := by (first | exact (jk_fg fg hf).mp (by assumption) | omega)
         exact ⟨by simp [jm_thk, hz], rfl⟩)
      | (have hz : ¬ fg = 0 := fun q => (show ¬ nI fg = 0 by assumption) ((jk_fg fg hf).mpr q)
         exact ⟨by simp [jm_thk, hz, jk_th4 m hm], rfl⟩)
  · have c1 : ¬ fg = 0 := fun z9 => c1 ((nI_eq (a := fg) (b := 0) (by omega) (by omega)).mpr z9)
    refine jb_iconst (pc' := 12) 1 dX3_thinks_11 (by decide) rfl ?_
    refine jb_goto (pc' := 16) dX3_thinks_12 (by decide) ?_
    refine jb_iadd (pc' := 17) dX3_thinks_16 rfl ?_
    refine jb_iret dX3_thinks_17 rfl ?_
    first
      | (have hz : fg = 0 := by (first | exact (jk_fg fg hf).mp (by assumption) | omega)
         exact ⟨by simp [jm_thk, hz], rfl⟩)
      | (have hz : ¬ fg = 0 := fun q => (show ¬ nI fg = 0 by assumption) ((jk_fg fg hf).mpr q)
         exact ⟨by simp [jm_thk, hz, jk_th4 m hm], rfl⟩)
set_option maxRecDepth 100000 in
set_option maxHeartbeats 4000000 in
theorem c_th_X4_11 {sc : Nat × (Nat → Int32)} {s1 s2 s3 s4 s5 s6 s7 s8 s9 s10 s11 : List va_E} (m fg wd : Nat) (hm : m < 10) (hf : fg < 10) (hw : wd < 10) (im : Int32) (I row stk tp : Nat → Int32) (T : Nat → Value) : jb_C sc yX4_thinks cX4_thinks 4 (Option.some .int) 2 0 0 [.ref 11, .int (nI m), .int (nI fg), .int (nI wd)] [jb_main im I T row stk tp, s1, s2, s3, s4, s5, s6, s7, s8, s9, s10, s11] (fun r h9 => r = some (.int (nI (jm_thk 5 m fg wd))) ∧ h9 = [jb_main im I T row stk tp, s1, s2, s3, s4, s5, s6, s7, s8, s9, s10, s11]) := by
  refine jb_CofJ (ini := false) (by decide +kernel) (fun h => by cases h) (Nat.le_of_ble_eq_true rfl) ?_
  show jb_J sc RX4 cX4_thinks 4 (Option.some .int) false 2 0 0 0 [some (.ref 11), some (.int (nI m)), some (.int (nI fg)), some (.int (nI wd))] [] [jb_main im I T row stk tp, s1, s2, s3, s4, s5, s6, s7, s8, s9, s10, s11] _
  refine jb_aload_n (pc' := 1) dX4_thinks_0 rfl rfl ?_
  refine jb_iload_n (pc' := 2) dX4_thinks_1 rfl rfl ?_
  refine jb_iload_n (pc' := 3) dX4_thinks_2 rfl rfl ?_
  refine jb_iload_n (pc' := 4) dX4_thinks_3 rfl rfl ?_
  refine jb_callP (pc' := 7) (ci := 4) (q := 11) (As := [.int (nI m), .int (nI fg), .int (nI wd)]) (a2 := 0) (b2 := 0) wv_X4_7 rfl dX4_thinks_4 (c_th_X5_11 m fg wd hm hf hw _ _ _ _ _ _) rfl rfl ⟨by decide, Nat.le_of_eq (Nat.zero_add _), Nat.le_of_eq (Nat.zero_add _)⟩ (Nat.le_of_ble_eq_true rfl) rfl (fun r h9 hq => ?_)
  obtain ⟨rfl, rfl⟩ := hq
  show jb_J _ RX4 cX4_thinks 4 (Option.some .int) false 2 0 0 7 [some (.ref 11), some (.int (nI m)), some (.int (nI fg)), some (.int (nI wd))] [.int (nI (jm_thk 2 m fg wd))] [jb_main im I T row stk tp, s1, s2, s3, s4, s5, s6, s7, s8, s9, s10, s11] _
  refine jb_iload_n (pc' := 8) dX4_thinks_7 rfl rfl ?_
  refine jb_iadd (pc' := 9) dX4_thinks_8 rfl ?_
  refine jb_top (v := .int ((nI (jm_thk 2 m fg wd)) + (nI wd))) (w := .int (nI (3 + m + wd))) (jb_vI (nI_add _ _)) ?_
  refine jb_iret dX4_thinks_9 rfl ?_
  exact ⟨rfl, rfl⟩
set_option maxRecDepth 100000 in
set_option maxHeartbeats 4000000 in
theorem c_th_X1_12 {sc : Nat × (Nat → Int32)} {s1 s2 s3 s4 s5 s6 s7 s8 s9 s10 s11 : List va_E} (m fg wd : Nat) (hm : m < 10) (hf : fg < 10) (hw : wd < 10) (im : Int32) (I row stk tp : Nat → Int32) (T : Nat → Value) : jb_C sc yX1_thinks cX1_thinks 4 (Option.some .int) 1 0 0 [.ref 12, .int (nI m), .int (nI fg), .int (nI wd)] [jb_main im I T row stk tp, s1, s2, s3, s4, s5, s6, s7, s8, s9, s10, s11] (fun r h9 => r = some (.int (nI (jm_thk 6 m fg wd))) ∧ h9 = [jb_main im I T row stk tp, s1, s2, s3, s4, s5, s6, s7, s8, s9, s10, s11]) := by
  refine jb_CofJ (ini := false) (by decide +kernel) (fun h => by cases h) (Nat.le_of_ble_eq_true rfl) ?_
  show jb_J sc RX1 cX1_thinks 4 (Option.some .int) false 1 0 0 0 [some (.ref 12), some (.int (nI m)), some (.int (nI fg)), some (.int (nI wd))] [] [jb_main im I T row stk tp, s1, s2, s3, s4, s5, s6, s7, s8, s9, s10, s11] _
  refine jb_iconst (pc' := 1) 2 dX1_thinks_0 (by decide) rfl ?_
  refine jb_aload_n (pc' := 2) dX1_thinks_1 rfl rfl ?_
  refine jb_iload_n (pc' := 3) dX1_thinks_2 rfl rfl ?_
  refine jb_iload_n (pc' := 4) dX1_thinks_3 rfl rfl ?_
  refine jb_iload_n (pc' := 5) dX1_thinks_4 rfl rfl ?_
  refine jb_callP (pc' := 8) (ci := 1) (q := 12) (As := [.int (nI m), .int (nI fg), .int (nI wd)]) (a2 := 0) (b2 := 0) wv_X1_7 rfl dX1_thinks_5 (c_th_X6_12 m fg wd hm hf hw _ _ _ _ _ _) rfl rfl ⟨by decide, Nat.le_of_eq (Nat.zero_add _), Nat.le_of_eq (Nat.zero_add _)⟩ (Nat.le_of_ble_eq_true rfl) rfl (fun r h9 hq => ?_)
  obtain ⟨rfl, rfl⟩ := hq
  show jb_J _ RX1 cX1_thinks 4 (Option.some .int) false 1 0 0 8 [some (.ref 12), some (.int (nI m)), some (.int (nI fg)), some (.int (nI wd))] [.int (nI (jm_thk 3 m fg wd)), .int 2] [jb_main im I T row stk tp, s1, s2, s3, s4, s5, s6, s7, s8, s9, s10, s11] _
  refine jb_imul (pc' := 9) dX1_thinks_8 rfl ?_
  refine jb_iload_n (pc' := 10) dX1_thinks_9 rfl rfl ?_
  refine jb_iadd (pc' := 11) dX1_thinks_10 rfl ?_
  refine jb_top (v := .int ((2 * (nI (jm_thk 3 m fg wd))) + (nI m))) (w := .int (nI (2 + m))) (jb_vI (jk_add2 m hm)) ?_
  refine jb_iret dX1_thinks_11 rfl ?_
  exact ⟨rfl, rfl⟩
set_option maxRecDepth 100000 in
set_option maxHeartbeats 4000000 in
theorem c_ca_X7_6 {sc : Nat × (Nat → Int32)} {s1 s2 s3 s4 s5 s6 s7 s8 s9 s10 s11 : List va_E} (w m wd : Nat) (hw : w < 40) (hm : m < 10) (hd : wd < 10) (im : Int32) (I row stk tp : Nat → Int32) (T : Nat → Value) : jb_C sc yX7_carry cX7_carry 4 (Option.some .int) 0 0 0 [.ref 6, .int (nI w), .int (nI m), .int (nI wd)] [jb_main im I T row stk tp, s1, s2, s3, s4, s5, s6, s7, s8, s9, s10, s11] (fun r h9 => r = some (.int (jm_owk 0 m wd w)) ∧ h9 = [jb_main im I T row stk tp, s1, s2, s3, s4, s5, s6, s7, s8, s9, s10, s11]) := by
  refine jb_CofJ (ini := false) (by decide +kernel) (fun h => by cases h) (Nat.le_of_ble_eq_true rfl) ?_
  show jb_J sc RX7 cX7_carry 4 (Option.some .int) false 0 0 0 0 [some (.ref 6), some (.int (nI w)), some (.int (nI m)), some (.int (nI wd))] [] [jb_main im I T row stk tp, s1, s2, s3, s4, s5, s6, s7, s8, s9, s10, s11] _
  refine jb_iload_n (pc' := 1) dX7_carry_0 rfl rfl ?_
  refine jb_iconst (pc' := 2) 2 dX7_carry_1 (by decide) rfl ?_
  refine jb_irem (pc' := 3) dX7_carry_2 (by decide) rfl ?_
  refine jb_if_ne (tgt := 11) (pc' := 6) dX7_carry_3 (by decide) rfl (fun c1 => ?_) (fun c1 => ?_)
  · refine jb_bipush (pc' := 13) 9 dX7_carry_11 (by decide) rfl ?_
    refine jb_iload_n (pc' := 14) dX7_carry_13 rfl rfl ?_
    refine jb_isub (pc' := 15) dX7_carry_14 rfl ?_
    refine jb_iret dX7_carry_15 rfl ?_
    first
      | (have hz := (jk_ev w hw).mp (by assumption)
         exact ⟨by simp [jm_owk, jm_pl, hz], rfl⟩)
      | (have hz : ¬ w % 2 = 0 := fun q => (show ¬ nI w - nI w / 2 * 2 = 0 by assumption) ((jk_ev w hw).mpr q)
         exact ⟨by simp [jm_owk, jm_pl, hz], rfl⟩)
  · refine jb_bipush (pc' := 8) 9 dX7_carry_6 (by decide) rfl ?_
    refine jb_goto (pc' := 15) dX7_carry_8 (by decide) ?_
    refine jb_iret dX7_carry_15 rfl ?_
    first
      | (have hz := (jk_ev w hw).mp (by assumption)
         exact ⟨by simp [jm_owk, jm_pl, hz], rfl⟩)
      | (have hz : ¬ w % 2 = 0 := fun q => (show ¬ nI w - nI w / 2 * 2 = 0 by assumption) ((jk_ev w hw).mpr q)
         exact ⟨by simp [jm_owk, jm_pl, hz], rfl⟩)
set_option maxRecDepth 100000 in
set_option maxHeartbeats 4000000 in
theorem c_ca_X7_7 {sc : Nat × (Nat → Int32)} {s1 s2 s3 s4 s5 s6 s7 s8 s9 s10 s11 : List va_E} (w m wd : Nat) (hw : w < 40) (hm : m < 10) (hd : wd < 10) (im : Int32) (I row stk tp : Nat → Int32) (T : Nat → Value) : jb_C sc yX7_carry cX7_carry 4 (Option.some .int) 0 0 0 [.ref 7, .int (nI w), .int (nI m), .int (nI wd)] [jb_main im I T row stk tp, s1, s2, s3, s4, s5, s6, s7, s8, s9, s10, s11] (fun r h9 => r = some (.int (jm_owk 0 m wd w)) ∧ h9 = [jb_main im I T row stk tp, s1, s2, s3, s4, s5, s6, s7, s8, s9, s10, s11]) := by
  refine jb_CofJ (ini := false) (by decide +kernel) (fun h => by cases h) (Nat.le_of_ble_eq_true rfl) ?_
  show jb_J sc RX7 cX7_carry 4 (Option.some .int) false 0 0 0 0 [some (.ref 7), some (.int (nI w)), some (.int (nI m)), some (.int (nI wd))] [] [jb_main im I T row stk tp, s1, s2, s3, s4, s5, s6, s7, s8, s9, s10, s11] _
  refine jb_iload_n (pc' := 1) dX7_carry_0 rfl rfl ?_
  refine jb_iconst (pc' := 2) 2 dX7_carry_1 (by decide) rfl ?_
  refine jb_irem (pc' := 3) dX7_carry_2 (by decide) rfl ?_
  refine jb_if_ne (tgt := 11) (pc' := 6) dX7_carry_3 (by decide) rfl (fun c1 => ?_) (fun c1 => ?_)
  · refine jb_bipush (pc' := 13) 9 dX7_carry_11 (by decide) rfl ?_
    refine jb_iload_n (pc' := 14) dX7_carry_13 rfl rfl ?_
    refine jb_isub (pc' := 15) dX7_carry_14 rfl ?_
    refine jb_iret dX7_carry_15 rfl ?_
    first
      | (have hz := (jk_ev w hw).mp (by assumption)
         exact ⟨by simp [jm_owk, jm_pl, hz], rfl⟩)
      | (have hz : ¬ w % 2 = 0 := fun q => (show ¬ nI w - nI w / 2 * 2 = 0 by assumption) ((jk_ev w hw).mpr q)
         exact ⟨by simp [jm_owk, jm_pl, hz], rfl⟩)
  · refine jb_bipush (pc' := 8) 9 dX7_carry_6 (by decide) rfl ?_
    refine jb_goto (pc' := 15) dX7_carry_8 (by decide) ?_
    refine jb_iret dX7_carry_15 rfl ?_
    first
      | (have hz := (jk_ev w hw).mp (by assumption)
         exact ⟨by simp [jm_owk, jm_pl, hz], rfl⟩)
      | (have hz : ¬ w % 2 = 0 := fun q => (show ¬ nI w - nI w / 2 * 2 = 0 by assumption) ((jk_ev w hw).mpr q)
         exact ⟨by simp [jm_owk, jm_pl, hz], rfl⟩)
set_option maxRecDepth 100000 in
set_option maxHeartbeats 4000000 in
theorem c_ca_X7_8 {sc : Nat × (Nat → Int32)} {s1 s2 s3 s4 s5 s6 s7 s8 s9 s10 s11 : List va_E} (w m wd : Nat) (hw : w < 40) (hm : m < 10) (hd : wd < 10) (im : Int32) (I row stk tp : Nat → Int32) (T : Nat → Value) : jb_C sc yX7_carry cX7_carry 4 (Option.some .int) 0 0 0 [.ref 8, .int (nI w), .int (nI m), .int (nI wd)] [jb_main im I T row stk tp, s1, s2, s3, s4, s5, s6, s7, s8, s9, s10, s11] (fun r h9 => r = some (.int (jm_owk 0 m wd w)) ∧ h9 = [jb_main im I T row stk tp, s1, s2, s3, s4, s5, s6, s7, s8, s9, s10, s11]) := by
  refine jb_CofJ (ini := false) (by decide +kernel) (fun h => by cases h) (Nat.le_of_ble_eq_true rfl) ?_
  show jb_J sc RX7 cX7_carry 4 (Option.some .int) false 0 0 0 0 [some (.ref 8), some (.int (nI w)), some (.int (nI m)), some (.int (nI wd))] [] [jb_main im I T row stk tp, s1, s2, s3, s4, s5, s6, s7, s8, s9, s10, s11] _
  refine jb_iload_n (pc' := 1) dX7_carry_0 rfl rfl ?_
  refine jb_iconst (pc' := 2) 2 dX7_carry_1 (by decide) rfl ?_
  refine jb_irem (pc' := 3) dX7_carry_2 (by decide) rfl ?_
  refine jb_if_ne (tgt := 11) (pc' := 6) dX7_carry_3 (by decide) rfl (fun c1 => ?_) (fun c1 => ?_)
  · refine jb_bipush (pc' := 13) 9 dX7_carry_11 (by decide) rfl ?_
    refine jb_iload_n (pc' := 14) dX7_carry_13 rfl rfl ?_
    refine jb_isub (pc' := 15) dX7_carry_14 rfl ?_
    refine jb_iret dX7_carry_15 rfl ?_
    first
      | (have hz := (jk_ev w hw).mp (by assumption)
         exact ⟨by simp [jm_owk, jm_pl, hz], rfl⟩)
      | (have hz : ¬ w % 2 = 0 := fun q => (show ¬ nI w - nI w / 2 * 2 = 0 by assumption) ((jk_ev w hw).mpr q)
         exact ⟨by simp [jm_owk, jm_pl, hz], rfl⟩)
  · refine jb_bipush (pc' := 8) 9 dX7_carry_6 (by decide) rfl ?_
    refine jb_goto (pc' := 15) dX7_carry_8 (by decide) ?_
    refine jb_iret dX7_carry_15 rfl ?_
    first
      | (have hz := (jk_ev w hw).mp (by assumption)
         exact ⟨by simp [jm_owk, jm_pl, hz], rfl⟩)
      | (have hz : ¬ w % 2 = 0 := fun q => (show ¬ nI w - nI w / 2 * 2 = 0 by assumption) ((jk_ev w hw).mpr q)
         exact ⟨by simp [jm_owk, jm_pl, hz], rfl⟩)
set_option maxRecDepth 100000 in
set_option maxHeartbeats 4000000 in
theorem c_ca_X7_10 {sc : Nat × (Nat → Int32)} {s1 s2 s3 s4 s5 s6 s7 s8 s9 s10 s11 : List va_E} (w m wd : Nat) (hw : w < 40) (hm : m < 10) (hd : wd < 10) (im : Int32) (I row stk tp : Nat → Int32) (T : Nat → Value) : jb_C sc yX7_carry cX7_carry 4 (Option.some .int) 0 0 0 [.ref 10, .int (nI w), .int (nI m), .int (nI wd)] [jb_main im I T row stk tp, s1, s2, s3, s4, s5, s6, s7, s8, s9, s10, s11] (fun r h9 => r = some (.int (jm_owk 0 m wd w)) ∧ h9 = [jb_main im I T row stk tp, s1, s2, s3, s4, s5, s6, s7, s8, s9, s10, s11]) := by
  refine jb_CofJ (ini := false) (by decide +kernel) (fun h => by cases h) (Nat.le_of_ble_eq_true rfl) ?_
  show jb_J sc RX7 cX7_carry 4 (Option.some .int) false 0 0 0 0 [some (.ref 10), some (.int (nI w)), some (.int (nI m)), some (.int (nI wd))] [] [jb_main im I T row stk tp, s1, s2, s3, s4, s5, s6, s7, s8, s9, s10, s11] _
  refine jb_iload_n (pc' := 1) dX7_carry_0 rfl rfl ?_
  refine jb_iconst (pc' := 2) 2 dX7_carry_1 (by decide) rfl ?_
  refine jb_irem (pc' := 3) dX7_carry_2 (by decide) rfl ?_
  refine jb_if_ne (tgt := 11) (pc' := 6) dX7_carry_3 (by decide) rfl (fun c1 => ?_) (fun c1 => ?_)
  · refine jb_bipush (pc' := 13) 9 dX7_carry_11 (by decide) rfl ?_
    refine jb_iload_n (pc' := 14) dX7_carry_13 rfl rfl ?_
    refine jb_isub (pc' := 15) dX7_carry_14 rfl ?_
    refine jb_iret dX7_carry_15 rfl ?_
    first
      | (have hz := (jk_ev w hw).mp (by assumption)
         exact ⟨by simp [jm_owk, jm_pl, hz], rfl⟩)
      | (have hz : ¬ w % 2 = 0 := fun q => (show ¬ nI w - nI w / 2 * 2 = 0 by assumption) ((jk_ev w hw).mpr q)
         exact ⟨by simp [jm_owk, jm_pl, hz], rfl⟩)
  · refine jb_bipush (pc' := 8) 9 dX7_carry_6 (by decide) rfl ?_
    refine jb_goto (pc' := 15) dX7_carry_8 (by decide) ?_
    refine jb_iret dX7_carry_15 rfl ?_
    first
      | (have hz := (jk_ev w hw).mp (by assumption)
         exact ⟨by simp [jm_owk, jm_pl, hz], rfl⟩)
      | (have hz : ¬ w % 2 = 0 := fun q => (show ¬ nI w - nI w / 2 * 2 = 0 by assumption) ((jk_ev w hw).mpr q)
         exact ⟨by simp [jm_owk, jm_pl, hz], rfl⟩)
set_option maxRecDepth 100000 in
set_option maxHeartbeats 4000000 in
theorem c_ca_X7_11 {sc : Nat × (Nat → Int32)} {s1 s2 s3 s4 s5 s6 s7 s8 s9 s10 s11 : List va_E} (w m wd : Nat) (hw : w < 40) (hm : m < 10) (hd : wd < 10) (im : Int32) (I row stk tp : Nat → Int32) (T : Nat → Value) : jb_C sc yX7_carry cX7_carry 4 (Option.some .int) 0 0 0 [.ref 11, .int (nI w), .int (nI m), .int (nI wd)] [jb_main im I T row stk tp, s1, s2, s3, s4, s5, s6, s7, s8, s9, s10, s11] (fun r h9 => r = some (.int (jm_owk 0 m wd w)) ∧ h9 = [jb_main im I T row stk tp, s1, s2, s3, s4, s5, s6, s7, s8, s9, s10, s11]) := by
  refine jb_CofJ (ini := false) (by decide +kernel) (fun h => by cases h) (Nat.le_of_ble_eq_true rfl) ?_
  show jb_J sc RX7 cX7_carry 4 (Option.some .int) false 0 0 0 0 [some (.ref 11), some (.int (nI w)), some (.int (nI m)), some (.int (nI wd))] [] [jb_main im I T row stk tp, s1, s2, s3, s4, s5, s6, s7, s8, s9, s10, s11] _
  refine jb_iload_n (pc' := 1) dX7_carry_0 rfl rfl ?_
  refine jb_iconst (pc' := 2) 2 dX7_carry_1 (by decide) rfl ?_
  refine jb_irem (pc' := 3) dX7_carry_2 (by decide) rfl ?_
  refine jb_if_ne (tgt := 11) (pc' := 6) dX7_carry_3 (by decide) rfl (fun c1 => ?_) (fun c1 => ?_)
  · refine jb_bipush (pc' := 13) 9 dX7_carry_11 (by decide) rfl ?_
    refine jb_iload_n (pc' := 14) dX7_carry_13 rfl rfl ?_
    refine jb_isub (pc' := 15) dX7_carry_14 rfl ?_
    refine jb_iret dX7_carry_15 rfl ?_
    first
      | (have hz := (jk_ev w hw).mp (by assumption)
         exact ⟨by simp [jm_owk, jm_pl, hz], rfl⟩)
      | (have hz : ¬ w % 2 = 0 := fun q => (show ¬ nI w - nI w / 2 * 2 = 0 by assumption) ((jk_ev w hw).mpr q)
         exact ⟨by simp [jm_owk, jm_pl, hz], rfl⟩)
  · refine jb_bipush (pc' := 8) 9 dX7_carry_6 (by decide) rfl ?_
    refine jb_goto (pc' := 15) dX7_carry_8 (by decide) ?_
    refine jb_iret dX7_carry_15 rfl ?_
    first
      | (have hz := (jk_ev w hw).mp (by assumption)
         exact ⟨by simp [jm_owk, jm_pl, hz], rfl⟩)
      | (have hz : ¬ w % 2 = 0 := fun q => (show ¬ nI w - nI w / 2 * 2 = 0 by assumption) ((jk_ev w hw).mpr q)
         exact ⟨by simp [jm_owk, jm_pl, hz], rfl⟩)
set_option maxRecDepth 100000 in
set_option maxHeartbeats 4000000 in
theorem c_ca_X6_9 {sc : Nat × (Nat → Int32)} {s1 s2 s3 s4 s5 s6 s7 s8 s9 s10 s11 : List va_E} (w m wd : Nat) (hw : w < 40) (hm : m < 10) (hd : wd < 10) (im : Int32) (I row stk tp : Nat → Int32) (T : Nat → Value) : jb_C sc yX6_carry cX6_carry 4 (Option.some .int) 0 0 0 [.ref 9, .int (nI w), .int (nI m), .int (nI wd)] [jb_main im I T row stk tp, s1, s2, s3, s4, s5, s6, s7, s8, s9, s10, s11] (fun r h9 => r = some (.int (jm_owk 3 m wd w)) ∧ h9 = [jb_main im I T row stk tp, s1, s2, s3, s4, s5, s6, s7, s8, s9, s10, s11]) := by
  refine jb_CofJ (ini := false) (by decide +kernel) (fun h => by cases h) (Nat.le_of_ble_eq_true rfl) ?_
  show jb_J sc RX6 cX6_carry 4 (Option.some .int) false 0 0 0 0 [some (.ref 9), some (.int (nI w)), some (.int (nI m)), some (.int (nI wd))] [] [jb_main im I T row stk tp, s1, s2, s3, s4, s5, s6, s7, s8, s9, s10, s11] _
  refine jb_bipush (pc' := 2) 10 dX6_carry_0 (by decide) rfl ?_
  refine jb_iret dX6_carry_2 rfl ?_
  exact ⟨rfl, rfl⟩
set_option maxRecDepth 100000 in
set_option maxHeartbeats 4000000 in
theorem c_ca_X6_12 {sc : Nat × (Nat → Int32)} {s1 s2 s3 s4 s5 s6 s7 s8 s9 s10 s11 : List va_E} (w m wd : Nat) (hw : w < 40) (hm : m < 10) (hd : wd < 10) (im : Int32) (I row stk tp : Nat → Int32) (T : Nat → Value) : jb_C sc yX6_carry cX6_carry 4 (Option.some .int) 0 0 0 [.ref 12, .int (nI w), .int (nI m), .int (nI wd)] [jb_main im I T row stk tp, s1, s2, s3, s4, s5, s6, s7, s8, s9, s10, s11] (fun r h9 => r = some (.int (jm_owk 3 m wd w)) ∧ h9 = [jb_main im I T row stk tp, s1, s2, s3, s4, s5, s6, s7, s8, s9, s10, s11]) := by
  refine jb_CofJ (ini := false) (by decide +kernel) (fun h => by cases h) (Nat.le_of_ble_eq_true rfl) ?_
  show jb_J sc RX6 cX6_carry 4 (Option.some .int) false 0 0 0 0 [some (.ref 12), some (.int (nI w)), some (.int (nI m)), some (.int (nI wd))] [] [jb_main im I T row stk tp, s1, s2, s3, s4, s5, s6, s7, s8, s9, s10, s11] _
  refine jb_bipush (pc' := 2) 10 dX6_carry_0 (by decide) rfl ?_
  refine jb_iret dX6_carry_2 rfl ?_
  exact ⟨rfl, rfl⟩
set_option maxRecDepth 100000 in
set_option maxHeartbeats 4000000 in
theorem c_ca_X3_10 {sc : Nat × (Nat → Int32)} {s1 s2 s3 s4 s5 s6 s7 s8 s9 s10 s11 : List va_E} (w m wd : Nat) (hw : w < 40) (hm : m < 10) (hd : wd < 10) (im : Int32) (I row stk tp : Nat → Int32) (T : Nat → Value) : jb_C sc yX3_carry cX3_carry 4 (Option.some .int) 1 0 0 [.ref 10, .int (nI w), .int (nI m), .int (nI wd)] [jb_main im I T row stk tp, s1, s2, s3, s4, s5, s6, s7, s8, s9, s10, s11] (fun r h9 => r = some (.int (jm_owk 4 m wd w)) ∧ h9 = [jb_main im I T row stk tp, s1, s2, s3, s4, s5, s6, s7, s8, s9, s10, s11]) := by
  refine jb_CofJ (ini := false) (by decide +kernel) (fun h => by cases h) (Nat.le_of_ble_eq_true rfl) ?_
  show jb_J sc RX3 cX3_carry 4 (Option.some .int) false 1 0 0 0 [some (.ref 10), some (.int (nI w)), some (.int (nI m)), some (.int (nI wd))] [] [jb_main im I T row stk tp, s1, s2, s3, s4, s5, s6, s7, s8, s9, s10, s11] _
  refine jb_aload_n (pc' := 1) dX3_carry_0 rfl rfl ?_
  refine jb_iload_n (pc' := 2) dX3_carry_1 rfl rfl ?_
  refine jb_iload_n (pc' := 3) dX3_carry_2 rfl rfl ?_
  refine jb_iload_n (pc' := 4) dX3_carry_3 rfl rfl ?_
  refine jb_callP2 (pc' := 7) (ci := 3) (q := 10) (As := [.int (nI w), .int (nI m), .int (nI wd)]) (a2 := 0) (b2 := 0) wv_X3_13 rfl dX3_carry_4 (c_ca_X7_10 w m wd hw hm hd _ _ _ _ _ _) rfl rfl ⟨by decide, Nat.le_of_eq (Nat.zero_add _), Nat.le_of_eq (Nat.zero_add _)⟩ (Nat.le_of_ble_eq_true rfl) rfl (fun r h9 hq => ?_)
  obtain ⟨rfl, rfl⟩ := hq
  show jb_J _ RX3 cX3_carry 4 (Option.some .int) false 1 0 0 7 [some (.ref 10), some (.int (nI w)), some (.int (nI m)), some (.int (nI wd))] [.int (jm_owk 0 m wd w)] [jb_main im I T row stk tp, s1, s2, s3, s4, s5, s6, s7, s8, s9, s10, s11] _
  refine jb_iload_n (pc' := 8) dX3_carry_7 rfl rfl ?_
  refine jb_iconst (pc' := 9) 3 dX3_carry_8 (by decide) rfl ?_
  refine jb_idiv (pc' := 10) dX3_carry_9 (by decide) rfl ?_
  refine jb_top (v := .int ((nI m) / 3)) (w := .int (nI (m / 3))) (jb_vI (jk_m3 m hm)) ?_
  refine jb_isub (pc' := 11) dX3_carry_10 rfl ?_
  refine jb_iret dX3_carry_11 rfl ?_
  exact ⟨rfl, rfl⟩
set_option maxRecDepth 100000 in
set_option maxHeartbeats 4000000 in
theorem c_ca_X4_11 {sc : Nat × (Nat → Int32)} {s1 s2 s3 s4 s5 s6 s7 s8 s9 s10 s11 : List va_E} (w m wd : Nat) (hw : w < 40) (hm : m < 10) (hd : wd < 10) (im : Int32) (I row stk tp : Nat → Int32) (T : Nat → Value) : jb_C sc yX4_carry cX4_carry 4 (Option.some .int) 1 0 0 [.ref 11, .int (nI w), .int (nI m), .int (nI wd)] [jb_main im I T row stk tp, s1, s2, s3, s4, s5, s6, s7, s8, s9, s10, s11] (fun r h9 => r = some (.int (jm_owk 5 m wd w)) ∧ h9 = [jb_main im I T row stk tp, s1, s2, s3, s4, s5, s6, s7, s8, s9, s10, s11]) := by
  refine jb_CofJ (ini := false) (by decide +kernel) (fun h => by cases h) (Nat.le_of_ble_eq_true rfl) ?_
  show jb_J sc RX4 cX4_carry 4 (Option.some .int) false 1 0 0 0 [some (.ref 11), some (.int (nI w)), some (.int (nI m)), some (.int (nI wd))] [] [jb_main im I T row stk tp, s1, s2, s3, s4, s5, s6, s7, s8, s9, s10, s11] _
  refine jb_aload_n (pc' := 1) dX4_carry_0 rfl rfl ?_
  refine jb_iload_n (pc' := 2) dX4_carry_1 rfl rfl ?_
  refine jb_iload_n (pc' := 3) dX4_carry_2 rfl rfl ?_
  refine jb_iload_n (pc' := 4) dX4_carry_3 rfl rfl ?_
  refine jb_callP2 (pc' := 7) (ci := 4) (q := 11) (As := [.int (nI w), .int (nI m), .int (nI wd)]) (a2 := 0) (b2 := 0) wv_X4_11 rfl dX4_carry_4 (c_ca_X7_11 w m wd hw hm hd _ _ _ _ _ _) rfl rfl ⟨by decide, Nat.le_of_eq (Nat.zero_add _), Nat.le_of_eq (Nat.zero_add _)⟩ (Nat.le_of_ble_eq_true rfl) rfl (fun r h9 hq => ?_)
  obtain ⟨rfl, rfl⟩ := hq
  show jb_J _ RX4 cX4_carry 4 (Option.some .int) false 1 0 0 7 [some (.ref 11), some (.int (nI w)), some (.int (nI m)), some (.int (nI wd))] [.int (jm_owk 0 m wd w)] [jb_main im I T row stk tp, s1, s2, s3, s4, s5, s6, s7, s8, s9, s10, s11] _
  refine jb_iconst (pc' := 8) 2 dX4_carry_7 (by decide) rfl ?_
  refine jb_idiv (pc' := 9) dX4_carry_8 (by decide) rfl ?_
  refine jb_iret dX4_carry_9 rfl ?_
  exact ⟨rfl, rfl⟩
set_option maxRecDepth 100000 in
set_option maxHeartbeats 4000000 in
theorem c_ca_X1_12 {sc : Nat × (Nat → Int32)} {s1 s2 s3 s4 s5 s6 s7 s8 s9 s10 s11 : List va_E} (w m wd : Nat) (hw : w < 40) (hm : m < 10) (hd : wd < 10) (im : Int32) (I row stk tp : Nat → Int32) (T : Nat → Value) : jb_C sc yX1_carry cX1_carry 4 (Option.some .int) 1 0 0 [.ref 12, .int (nI w), .int (nI m), .int (nI wd)] [jb_main im I T row stk tp, s1, s2, s3, s4, s5, s6, s7, s8, s9, s10, s11] (fun r h9 => r = some (.int (jm_owk 6 m wd w)) ∧ h9 = [jb_main im I T row stk tp, s1, s2, s3, s4, s5, s6, s7, s8, s9, s10, s11]) := by
  refine jb_CofJ (ini := false) (by decide +kernel) (fun h => by cases h) (Nat.le_of_ble_eq_true rfl) ?_
  show jb_J sc RX1 cX1_carry 4 (Option.some .int) false 1 0 0 0 [some (.ref 12), some (.int (nI w)), some (.int (nI m)), some (.int (nI wd))] [] [jb_main im I T row stk tp, s1, s2, s3, s4, s5, s6, s7, s8, s9, s10, s11] _
  refine jb_aload_n (pc' := 1) dX1_carry_0 rfl rfl ?_
  refine jb_iload_n (pc' := 2) dX1_carry_1 rfl rfl ?_
  refine jb_iload_n (pc' := 3) dX1_carry_2 rfl rfl ?_
  refine jb_iload_n (pc' := 4) dX1_carry_3 rfl rfl ?_
  refine jb_callP (pc' := 7) (ci := 1) (q := 12) (As := [.int (nI w), .int (nI m), .int (nI wd)]) (a2 := 0) (b2 := 0) wv_X1_11 rfl dX1_carry_4 (c_ca_X6_12 w m wd hw hm hd _ _ _ _ _ _) rfl rfl ⟨by decide, Nat.le_of_eq (Nat.zero_add _), Nat.le_of_eq (Nat.zero_add _)⟩ (Nat.le_of_ble_eq_true rfl) rfl (fun r h9 hq => ?_)
  obtain ⟨rfl, rfl⟩ := hq
  show jb_J _ RX1 cX1_carry 4 (Option.some .int) false 1 0 0 7 [some (.ref 12), some (.int (nI w)), some (.int (nI m)), some (.int (nI wd))] [.int (jm_owk 3 m wd w)] [jb_main im I T row stk tp, s1, s2, s3, s4, s5, s6, s7, s8, s9, s10, s11] _
  refine jb_iload_n (pc' := 8) dX1_carry_7 rfl rfl ?_
  refine jb_isub (pc' := 9) dX1_carry_8 rfl ?_
  refine jb_iret dX1_carry_9 rfl ?_
  exact ⟨rfl, rfl⟩
set_option maxRecDepth 100000 in
set_option maxHeartbeats 4000000 in
theorem c_an_X7_6 {sc : Nat × (Nat → Int32)} {s1 s2 s3 s4 s5 s6 s7 s8 s9 s10 s11 : List va_E} (w g m : Nat) (hw : w < 40) (hg : g < 40) (hm : m < 10) (im : Int32) (I row stk tp : Nat → Int32) (T : Nat → Value) : jb_C sc yX7_answer cX7_answer 4 (Option.some .int) 0 0 0 [.ref 6, .int (nI w), .int (nI g), .int (nI m)] [jb_main im I T row stk tp, s1, s2, s3, s4, s5, s6, s7, s8, s9, s10, s11] (fun r h9 => r = some (.int (nI (jm_sak 0 m w g))) ∧ h9 = [jb_main im I T row stk tp, s1, s2, s3, s4, s5, s6, s7, s8, s9, s10, s11]) := by
  refine jb_CofJ (ini := false) (by decide +kernel) (fun h => by cases h) (Nat.le_of_ble_eq_true rfl) ?_
  show jb_J sc RX7 cX7_answer 4 (Option.some .int) false 0 0 0 0 [some (.ref 6), some (.int (nI w)), some (.int (nI g)), some (.int (nI m))] [] [jb_main im I T row stk tp, s1, s2, s3, s4, s5, s6, s7, s8, s9, s10, s11] _
  refine jb_iload_n (pc' := 1) dX7_answer_0 rfl rfl ?_
  refine jb_iret dX7_answer_1 rfl ?_
  exact ⟨rfl, rfl⟩
set_option maxRecDepth 100000 in
set_option maxHeartbeats 4000000 in
theorem c_an_X7_7 {sc : Nat × (Nat → Int32)} {s1 s2 s3 s4 s5 s6 s7 s8 s9 s10 s11 : List va_E} (w g m : Nat) (hw : w < 40) (hg : g < 40) (hm : m < 10) (im : Int32) (I row stk tp : Nat → Int32) (T : Nat → Value) : jb_C sc yX7_answer cX7_answer 4 (Option.some .int) 0 0 0 [.ref 7, .int (nI w), .int (nI g), .int (nI m)] [jb_main im I T row stk tp, s1, s2, s3, s4, s5, s6, s7, s8, s9, s10, s11] (fun r h9 => r = some (.int (nI (jm_sak 0 m w g))) ∧ h9 = [jb_main im I T row stk tp, s1, s2, s3, s4, s5, s6, s7, s8, s9, s10, s11]) := by
  refine jb_CofJ (ini := false) (by decide +kernel) (fun h => by cases h) (Nat.le_of_ble_eq_true rfl) ?_
  show jb_J sc RX7 cX7_answer 4 (Option.some .int) false 0 0 0 0 [some (.ref 7), some (.int (nI w)), some (.int (nI g)), some (.int (nI m))] [] [jb_main im I T row stk tp, s1, s2, s3, s4, s5, s6, s7, s8, s9, s10, s11] _
  refine jb_iload_n (pc' := 1) dX7_answer_0 rfl rfl ?_
  refine jb_iret dX7_answer_1 rfl ?_
  exact ⟨rfl, rfl⟩
set_option maxRecDepth 100000 in
set_option maxHeartbeats 4000000 in
theorem c_an_X7_8 {sc : Nat × (Nat → Int32)} {s1 s2 s3 s4 s5 s6 s7 s8 s9 s10 s11 : List va_E} (w g m : Nat) (hw : w < 40) (hg : g < 40) (hm : m < 10) (im : Int32) (I row stk tp : Nat → Int32) (T : Nat → Value) : jb_C sc yX7_answer cX7_answer 4 (Option.some .int) 0 0 0 [.ref 8, .int (nI w), .int (nI g), .int (nI m)] [jb_main im I T row stk tp, s1, s2, s3, s4, s5, s6, s7, s8, s9, s10, s11] (fun r h9 => r = some (.int (nI (jm_sak 0 m w g))) ∧ h9 = [jb_main im I T row stk tp, s1, s2, s3, s4, s5, s6, s7, s8, s9, s10, s11]) := by
  refine jb_CofJ (ini := false) (by decide +kernel) (fun h => by cases h) (Nat.le_of_ble_eq_true rfl) ?_
  show jb_J sc RX7 cX7_answer 4 (Option.some .int) false 0 0 0 0 [some (.ref 8), some (.int (nI w)), some (.int (nI g)), some (.int (nI m))] [] [jb_main im I T row stk tp, s1, s2, s3, s4, s5, s6, s7, s8, s9, s10, s11] _
  refine jb_iload_n (pc' := 1) dX7_answer_0 rfl rfl ?_
  refine jb_iret dX7_answer_1 rfl ?_
  exact ⟨rfl, rfl⟩
set_option maxRecDepth 100000 in
set_option maxHeartbeats 4000000 in
theorem c_an_X7_9 {sc : Nat × (Nat → Int32)} {s1 s2 s3 s4 s5 s6 s7 s8 s9 s10 s11 : List va_E} (w g m : Nat) (hw : w < 40) (hg : g < 40) (hm : m < 10) (im : Int32) (I row stk tp : Nat → Int32) (T : Nat → Value) : jb_C sc yX7_answer cX7_answer 4 (Option.some .int) 0 0 0 [.ref 9, .int (nI w), .int (nI g), .int (nI m)] [jb_main im I T row stk tp, s1, s2, s3, s4, s5, s6, s7, s8, s9, s10, s11] (fun r h9 => r = some (.int (nI (jm_sak 0 m w g))) ∧ h9 = [jb_main im I T row stk tp, s1, s2, s3, s4, s5, s6, s7, s8, s9, s10, s11]) := by
  refine jb_CofJ (ini := false) (by decide +kernel) (fun h => by cases h) (Nat.le_of_ble_eq_true rfl) ?_
  show jb_J sc RX7 cX7_answer 4 (Option.some .int) false 0 0 0 0 [some (.ref 9), some (.int (nI w)), some (.int (nI g)), some (.int (nI m))] [] [jb_main im I T row stk tp, s1, s2, s3, s4, s5, s6, s7, s8, s9, s10, s11] _
  refine jb_iload_n (pc' := 1) dX7_answer_0 rfl rfl ?_
  refine jb_iret dX7_answer_1 rfl ?_
  exact ⟨rfl, rfl⟩
set_option maxRecDepth 100000 in
set_option maxHeartbeats 4000000 in
theorem c_an_X7_10 {sc : Nat × (Nat → Int32)} {s1 s2 s3 s4 s5 s6 s7 s8 s9 s10 s11 : List va_E} (w g m : Nat) (hw : w < 40) (hg : g < 40) (hm : m < 10) (im : Int32) (I row stk tp : Nat → Int32) (T : Nat → Value) : jb_C sc yX7_answer cX7_answer 4 (Option.some .int) 0 0 0 [.ref 10, .int (nI w), .int (nI g), .int (nI m)] [jb_main im I T row stk tp, s1, s2, s3, s4, s5, s6, s7, s8, s9, s10, s11] (fun r h9 => r = some (.int (nI (jm_sak 0 m w g))) ∧ h9 = [jb_main im I T row stk tp, s1, s2, s3, s4, s5, s6, s7, s8, s9, s10, s11]) := by
  refine jb_CofJ (ini := false) (by decide +kernel) (fun h => by cases h) (Nat.le_of_ble_eq_true rfl) ?_
  show jb_J sc RX7 cX7_answer 4 (Option.some .int) false 0 0 0 0 [some (.ref 10), some (.int (nI w)), some (.int (nI g)), some (.int (nI m))] [] [jb_main im I T row stk tp, s1, s2, s3, s4, s5, s6, s7, s8, s9, s10, s11] _
  refine jb_iload_n (pc' := 1) dX7_answer_0 rfl rfl ?_
  refine jb_iret dX7_answer_1 rfl ?_
  exact ⟨rfl, rfl⟩
set_option maxRecDepth 100000 in
set_option maxHeartbeats 4000000 in
theorem c_an_X7_11 {sc : Nat × (Nat → Int32)} {s1 s2 s3 s4 s5 s6 s7 s8 s9 s10 s11 : List va_E} (w g m : Nat) (hw : w < 40) (hg : g < 40) (hm : m < 10) (im : Int32) (I row stk tp : Nat → Int32) (T : Nat → Value) : jb_C sc yX7_answer cX7_answer 4 (Option.some .int) 0 0 0 [.ref 11, .int (nI w), .int (nI g), .int (nI m)] [jb_main im I T row stk tp, s1, s2, s3, s4, s5, s6, s7, s8, s9, s10, s11] (fun r h9 => r = some (.int (nI (jm_sak 0 m w g))) ∧ h9 = [jb_main im I T row stk tp, s1, s2, s3, s4, s5, s6, s7, s8, s9, s10, s11]) := by
  refine jb_CofJ (ini := false) (by decide +kernel) (fun h => by cases h) (Nat.le_of_ble_eq_true rfl) ?_
  show jb_J sc RX7 cX7_answer 4 (Option.some .int) false 0 0 0 0 [some (.ref 11), some (.int (nI w)), some (.int (nI g)), some (.int (nI m))] [] [jb_main im I T row stk tp, s1, s2, s3, s4, s5, s6, s7, s8, s9, s10, s11] _
  refine jb_iload_n (pc' := 1) dX7_answer_0 rfl rfl ?_
  refine jb_iret dX7_answer_1 rfl ?_
  exact ⟨rfl, rfl⟩
set_option maxRecDepth 100000 in
set_option maxHeartbeats 4000000 in
theorem c_an_X3_10 {sc : Nat × (Nat → Int32)} {s1 s2 s3 s4 s5 s6 s7 s8 s9 s10 s11 : List va_E} (w g m : Nat) (hw : w < 40) (hg : g < 40) (hm : m < 10) (im : Int32) (I row stk tp : Nat → Int32) (T : Nat → Value) : jb_C sc yX3_answer cX3_answer 4 (Option.some .int) 1 0 0 [.ref 10, .int (nI w), .int (nI g), .int (nI m)] [jb_main im I T row stk tp, s1, s2, s3, s4, s5, s6, s7, s8, s9, s10, s11] (fun r h9 => r = some (.int (nI (jm_sak 4 m w g))) ∧ h9 = [jb_main im I T row stk tp, s1, s2, s3, s4, s5, s6, s7, s8, s9, s10, s11]) := by
  refine jb_CofJ (ini := false) (by decide +kernel) (fun h => by cases h) (Nat.le_of_ble_eq_true rfl) ?_
  show jb_J sc RX3 cX3_answer 4 (Option.some .int) false 1 0 0 0 [some (.ref 10), some (.int (nI w)), some (.int (nI g)), some (.int (nI m))] [] [jb_main im I T row stk tp, s1, s2, s3, s4, s5, s6, s7, s8, s9, s10, s11] _
  refine jb_aload_n (pc' := 1) dX3_answer_0 rfl rfl ?_
  refine jb_iload_n (pc' := 2) dX3_answer_1 rfl rfl ?_
  refine jb_iload_n (pc' := 3) dX3_answer_2 rfl rfl ?_
  refine jb_iload_n (pc' := 4) dX3_answer_3 rfl rfl ?_
  refine jb_callP2 (pc' := 7) (ci := 3) (q := 10) (As := [.int (nI w), .int (nI g), .int (nI m)]) (a2 := 0) (b2 := 0) wv_X3_16 rfl dX3_answer_4 (c_an_X7_10 w g m hw hg hm _ _ _ _ _ _) rfl rfl ⟨by decide, Nat.le_of_eq (Nat.zero_add _), Nat.le_of_eq (Nat.zero_add _)⟩ (Nat.le_of_ble_eq_true rfl) rfl (fun r h9 hq => ?_)
  obtain ⟨rfl, rfl⟩ := hq
  show jb_J _ RX3 cX3_answer 4 (Option.some .int) false 1 0 0 7 [some (.ref 10), some (.int (nI w)), some (.int (nI g)), some (.int (nI m))] [.int (nI (jm_sak 0 m w g))] [jb_main im I T row stk tp, s1, s2, s3, s4, s5, s6, s7, s8, s9, s10, s11] _
  refine jb_iload_n (pc' := 8) dX3_answer_7 rfl rfl ?_
  refine jb_iadd (pc' := 9) dX3_answer_8 rfl ?_
  refine jb_bipush (pc' := 11) 40 dX3_answer_9 (by decide) rfl ?_
  refine jb_irem (pc' := 12) dX3_answer_11 (by decide) rfl ?_
  refine jb_top (v := .int (((nI (jm_sak 0 m w g)) + (nI m)) - ((nI (jm_sak 0 m w g)) + (nI m)) / 40 * 40)) (w := .int (nI ((g + m) % 40))) (jb_vI (jk_r40 g hg m hm)) ?_
  refine jb_iret dX3_answer_12 rfl ?_
  exact ⟨rfl, rfl⟩
set_option maxRecDepth 100000 in
set_option maxHeartbeats 4000000 in
theorem c_an_X1_12 {sc : Nat × (Nat → Int32)} {s1 s2 s3 s4 s5 s6 s7 s8 s9 s10 s11 : List va_E} (w g m : Nat) (hw : w < 40) (hg : g < 40) (hm : m < 10) (im : Int32) (I row stk tp : Nat → Int32) (T : Nat → Value) : jb_C sc yX1_answer cX1_answer 4 (Option.some .int) 0 0 0 [.ref 12, .int (nI w), .int (nI g), .int (nI m)] [jb_main im I T row stk tp, s1, s2, s3, s4, s5, s6, s7, s8, s9, s10, s11] (fun r h9 => r = some (.int (nI (jm_sak 6 m w g))) ∧ h9 = [jb_main im I T row stk tp, s1, s2, s3, s4, s5, s6, s7, s8, s9, s10, s11]) := by
  refine jb_CofJ (ini := false) (by decide +kernel) (fun h => by cases h) (Nat.le_of_ble_eq_true rfl) ?_
  show jb_J sc RX1 cX1_answer 4 (Option.some .int) false 0 0 0 0 [some (.ref 12), some (.int (nI w)), some (.int (nI g)), some (.int (nI m))] [] [jb_main im I T row stk tp, s1, s2, s3, s4, s5, s6, s7, s8, s9, s10, s11] _
  refine jb_iload_n (pc' := 1) dX1_answer_0 rfl rfl ?_
  refine jb_iret dX1_answer_1 rfl ?_
  exact ⟨rfl, rfl⟩
