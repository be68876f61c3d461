set_option maxRecDepth 100000 in
set_option maxHeartbeats 4000000 in
theorem c_isOutside {sc : Nat × (Nat → Int32)} {h : jb_H} (v lo hi : Int32) : jb_C sc yX11_isOutside cX11_isOutside 3 (Option.some .boolean) 0 0 0 [.int v, .int lo, .int hi] h (fun r h9 => h9 = h ∧ (((v < lo ∨ hi < v) ∧ r = some (.int 1)) ∨ (¬ (v < lo ∨ hi < v) ∧ r = some (.int 0)))) := by
  refine jb_CofJ (ini := false) (by decide +kernel) (fun h => by cases h) (Nat.le_of_ble_eq_true rfl) ?_
  show jb_J sc RX11 cX11_isOutside 3 (Option.some .boolean) false 0 0 0 0 [some (.int v), some (.int lo), some (.int hi)] [] h _
  refine jb_iload_n (pc' := 1) dX11_isOutside_0 rfl rfl ?_
  refine jb_iload_n (pc' := 2) dX11_isOutside_1 rfl rfl ?_
  refine jb_icmp_lt (tgt := 10) (pc' := 5) dX11_isOutside_2 (by decide) rfl (fun c1 => ?_) (fun c1 => ?_)
  · refine jb_iconst (pc' := 11) 1 dX11_isOutside_10 (by decide) rfl ?_
    refine jb_goto (pc' := 15) dX11_isOutside_11 (by decide) ?_
    refine jb_iret dX11_isOutside_15 rfl ?_
    exact ⟨rfl, by first | exact Or.inl ⟨Or.inl (by assumption), rfl⟩ | exact Or.inl ⟨Or.inr (by assumption), rfl⟩ | exact Or.inl ⟨Or.inr (by simp_all), rfl⟩ | exact Or.inr ⟨by simp_all, rfl⟩⟩
  · refine jb_iload_n (pc' := 6) dX11_isOutside_5 rfl rfl ?_
    refine jb_iload_n (pc' := 7) dX11_isOutside_6 rfl rfl ?_
    refine jb_icmp_le (tgt := 14) (pc' := 10) dX11_isOutside_7 (by decide) rfl (fun c2 => ?_) (fun c2 => ?_)
    · refine jb_iconst (pc' := 15) 0 dX11_isOutside_14 (by decide) rfl ?_
      refine jb_iret dX11_isOutside_15 rfl ?_
      exact ⟨rfl, by first | exact Or.inl ⟨Or.inl (by assumption), rfl⟩ | exact Or.inl ⟨Or.inr (by assumption), rfl⟩ | exact Or.inl ⟨Or.inr (by simp_all), rfl⟩ | exact Or.inr ⟨by simp_all, rfl⟩⟩
    · refine jb_iconst (pc' := 11) 1 dX11_isOutside_10 (by decide) rfl ?_
      refine jb_goto (pc' := 15) dX11_isOutside_11 (by decide) ?_
      refine jb_iret dX11_isOutside_15 rfl ?_
      exact ⟨rfl, by first | exact Or.inl ⟨Or.inl (by assumption), rfl⟩ | exact Or.inl ⟨Or.inr (by assumption), rfl⟩ | exact Or.inl ⟨Or.inr (by simp_all), rfl⟩ | exact Or.inr ⟨by simp_all, rfl⟩⟩
set_option maxRecDepth 100000 in
set_option maxHeartbeats 4000000 in
theorem c_gap13 {sc : Nat × (Nat → Int32)} {s0 s2 s3 s4 s5 s6 s7 s8 s9 s10 s11 : List va_E} (I : Nat → Int32) (W : Nat → Nat → Int32) (T : Nat → Value) : jb_C sc yX9_gap cX9_gap 1 (Option.some .int) 0 0 0 [.ref 13] [s0, jb_sch13 I W T, s2, s3, s4, s5, s6, s7, s8, s9, s10, s11] (fun r h9 => r = some (.int (W 0 0 + W 0 1)) ∧ h9 = [s0, jb_sch13 I W T, s2, s3, s4, s5, s6, s7, s8, s9, s10, s11]) := by
  refine jb_CofJ (ini := false) (by decide +kernel) (fun h => by cases h) (Nat.le_of_ble_eq_true rfl) ?_
  show jb_J sc RX9 cX9_gap 1 (Option.some .int) false 0 0 0 0 [some (.ref 13)] [] [s0, jb_sch13 I W T, s2, s3, s4, s5, s6, s7, s8, s9, s10, s11] _
  refine jb_aload_n (pc' := 1) dX9_gap_0 rfl rfl ?_
  refine gf_X9_9 (pc' := 4) (v := .ref 14) dX9_gap_1 rfl rfl rfl ?_
  refine jb_iconst (pc' := 5) 0 dX9_gap_4 (by decide) rfl ?_
  refine jb_iaload (pc' := 6) (i9 := 0) (f := (W 0)) dX9_gap_5 rfl jb_x0 (by decide) rfl ?_
  refine jb_aload_n (pc' := 7) dX9_gap_6 rfl rfl ?_
  refine gf_X9_9 (pc' := 10) (v := .ref 14) dX9_gap_7 rfl rfl rfl ?_
  refine jb_iconst (pc' := 11) 1 dX9_gap_10 (by decide) rfl ?_
  refine jb_iaload (pc' := 12) (i9 := 1) (f := (W 0)) dX9_gap_11 rfl jb_x1 (by decide) rfl ?_
  refine jb_iadd (pc' := 13) dX9_gap_12 rfl ?_
  refine jb_iret dX9_gap_13 rfl ?_
  exact ⟨rfl, rfl⟩
