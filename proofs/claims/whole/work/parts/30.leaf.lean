set_option maxRecDepth 100000 in
set_option maxHeartbeats 4000000 in
theorem c_isOutL {sc : Nat × (Nat → Int32)} {h : jb_H} (v : Int32) (lo hi : Nat) (h1 : lo < 2 ^ 30) (h2 : hi < 2 ^ 30) : jb_C sc yX11_isOutside cX11_isOutside 3 (Option.some .boolean) 0 0 0 [.int v, .int (nI lo), .int (nI hi)] h (fun r h9 => h = h9 ∧ ((¬ jn_b v lo (hi + 1) ∧ r = some (.int 1)) ∨ (jn_b v lo (hi + 1) ∧ r = some (.int 0)))) := by
  refine jb_CofJ (ini := false) (by decide +kernel) (fun h => by cases h) (Nat.le_of_ble_eq_true rfl) ?_
  show jb_J sc RX11 cX11_isOutside 3 (Option.some .boolean) false 0 0 0 0 [some (.int v), some (.int (nI lo)), some (.int (nI hi))] [] h _
  refine jb_iload_n (pc' := 1) dX11_isOutside_0 rfl rfl ?_
  refine jb_iload_n (pc' := 2) dX11_isOutside_1 rfl rfl ?_
  refine jb_icmp_lt (tgt := 10) (pc' := 5) dX11_isOutside_2 (by decide) rfl (fun c1 => ?_) (fun c1 => ?_)
  · refine jb_iconst (pc' := 11) 1 dX11_isOutside_10 (by decide) rfl ?_
    refine jb_goto (pc' := 15) dX11_isOutside_11 (by decide) ?_
    refine jb_iret dX11_isOutside_15 rfl ?_
    first | exact ⟨rfl, Or.inl ⟨(jn_outL h1 h2).mp (Or.inl c1), rfl⟩⟩ | exact ⟨rfl, Or.inl ⟨(jn_outL h1 h2).mp (Or.inr (Int32.not_le.mp c2)), rfl⟩⟩ | exact ⟨rfl, Or.inr ⟨Classical.byContradiction (fun z => ((jn_outL h1 h2).mpr z).elim c1 (fun y => Int32.not_le.mpr y c2)), rfl⟩⟩
  · refine jb_iload_n (pc' := 6) dX11_isOutside_5 rfl rfl ?_
    refine jb_iload_n (pc' := 7) dX11_isOutside_6 rfl rfl ?_
    refine jb_icmp_le (tgt := 14) (pc' := 10) dX11_isOutside_7 (by decide) rfl (fun c2 => ?_) (fun c2 => ?_)
    · refine jb_iconst (pc' := 15) 0 dX11_isOutside_14 (by decide) rfl ?_
      refine jb_iret dX11_isOutside_15 rfl ?_
      first | exact ⟨rfl, Or.inl ⟨(jn_outL h1 h2).mp (Or.inl c1), rfl⟩⟩ | exact ⟨rfl, Or.inl ⟨(jn_outL h1 h2).mp (Or.inr (Int32.not_le.mp c2)), rfl⟩⟩ | exact ⟨rfl, Or.inr ⟨Classical.byContradiction (fun z => ((jn_outL h1 h2).mpr z).elim c1 (fun y => Int32.not_le.mpr y c2)), rfl⟩⟩
    · refine jb_iconst (pc' := 11) 1 dX11_isOutside_10 (by decide) rfl ?_
      refine jb_goto (pc' := 15) dX11_isOutside_11 (by decide) ?_
      refine jb_iret dX11_isOutside_15 rfl ?_
      first | exact ⟨rfl, Or.inl ⟨(jn_outL h1 h2).mp (Or.inl c1), rfl⟩⟩ | exact ⟨rfl, Or.inl ⟨(jn_outL h1 h2).mp (Or.inr (Int32.not_le.mp c2)), rfl⟩⟩ | exact ⟨rfl, Or.inr ⟨Classical.byContradiction (fun z => ((jn_outL h1 h2).mpr z).elim c1 (fun y => Int32.not_le.mpr y c2)), rfl⟩⟩
set_option maxRecDepth 100000 in
set_option maxHeartbeats 4000000 in
theorem c_isOutN {sc : Nat × (Nat → Int32)} {h : jb_H} (v : Int32) (n : Nat) (h1 : n < 2 ^ 30) : jb_C sc yX11_isOutside cX11_isOutside 3 (Option.some .boolean) 0 0 0 [.int v, .int 0, .int (nI n - 1)] h (fun r h9 => h = h9 ∧ ((¬ jn_b v 0 n ∧ r = some (.int 1)) ∨ (jn_b v 0 n ∧ r = some (.int 0)))) := by
  refine jb_CofJ (ini := false) (by decide +kernel) (fun h => by cases h) (Nat.le_of_ble_eq_true rfl) ?_
  show jb_J sc RX11 cX11_isOutside 3 (Option.some .boolean) false 0 0 0 0 [some (.int v), some (.int 0), some (.int (nI n - 1))] [] h _
  refine jb_iload_n (pc' := 1) dX11_isOutside_0 rfl rfl ?_
  refine jb_iload_n (pc' := 2) dX11_isOutside_1 rfl rfl ?_
  refine jb_icmp_lt (tgt := 10) (pc' := 5) dX11_isOutside_2 (by decide) rfl (fun c1 => ?_) (fun c1 => ?_)
  · refine jb_iconst (pc' := 11) 1 dX11_isOutside_10 (by decide) rfl ?_
    refine jb_goto (pc' := 15) dX11_isOutside_11 (by decide) ?_
    refine jb_iret dX11_isOutside_15 rfl ?_
    first | exact ⟨rfl, Or.inl ⟨(jn_outN h1).mp (Or.inl c1), rfl⟩⟩ | exact ⟨rfl, Or.inl ⟨(jn_outN h1).mp (Or.inr (Int32.not_le.mp c2)), rfl⟩⟩ | exact ⟨rfl, Or.inr ⟨Classical.byContradiction (fun z => ((jn_outN h1).mpr z).elim c1 (fun y => Int32.not_le.mpr y c2)), rfl⟩⟩
  · refine jb_iload_n (pc' := 6) dX11_isOutside_5 rfl rfl ?_
    refine jb_iload_n (pc' := 7) dX11_isOutside_6 rfl rfl ?_
    refine jb_icmp_le (tgt := 14) (pc' := 10) dX11_isOutside_7 (by decide) rfl (fun c2 => ?_) (fun c2 => ?_)
    · refine jb_iconst (pc' := 15) 0 dX11_isOutside_14 (by decide) rfl ?_
      refine jb_iret dX11_isOutside_15 rfl ?_
      first | exact ⟨rfl, Or.inl ⟨(jn_outN h1).mp (Or.inl c1), rfl⟩⟩ | exact ⟨rfl, Or.inl ⟨(jn_outN h1).mp (Or.inr (Int32.not_le.mp c2)), rfl⟩⟩ | exact ⟨rfl, Or.inr ⟨Classical.byContradiction (fun z => ((jn_outN h1).mpr z).elim c1 (fun y => Int32.not_le.mpr y c2)), rfl⟩⟩
    · refine jb_iconst (pc' := 11) 1 dX11_isOutside_10 (by decide) rfl ?_
      refine jb_goto (pc' := 15) dX11_isOutside_11 (by decide) ?_
      refine jb_iret dX11_isOutside_15 rfl ?_
      first | exact ⟨rfl, Or.inl ⟨(jn_outN h1).mp (Or.inl c1), rfl⟩⟩ | exact ⟨rfl, Or.inl ⟨(jn_outN h1).mp (Or.inr (Int32.not_le.mp c2)), rfl⟩⟩ | exact ⟨rfl, Or.inr ⟨Classical.byContradiction (fun z => ((jn_outN h1).mpr z).elim c1 (fun y => Int32.not_le.mpr y c2)), rfl⟩⟩
set_option maxRecDepth 100000 in
set_option maxHeartbeats 4000000 in
theorem c_isOutLG {sc : Nat × (Nat → Int32)} {h : jb_H} (j lo hi : Nat) (h1 : lo ≤ j) (h2 : j ≤ hi) (h3 : hi < 2 ^ 30) : jb_C sc yX11_isOutside cX11_isOutside 3 (Option.some .boolean) 0 0 0 [.int (nI j), .int (nI lo), .int (nI hi)] h (fun r h9 => r = some (.int 0) ∧ h = h9) := by
  refine jb_CofJ (ini := false) (by decide +kernel) (fun h => by cases h) (Nat.le_of_ble_eq_true rfl) ?_
  show jb_J sc RX11 cX11_isOutside 3 (Option.some .boolean) false 0 0 0 0 [some (.int (nI j)), some (.int (nI lo)), some (.int (nI hi))] [] h _
  refine jb_iload_n (pc' := 1) dX11_isOutside_0 rfl rfl ?_
  refine jb_iload_n (pc' := 2) dX11_isOutside_1 rfl rfl ?_
  refine jb_icmp_lt (tgt := 10) (pc' := 5) dX11_isOutside_2 (by decide) rfl (fun z => absurd z (nI_nlt (a := j) (b := lo) (by omega) (by omega))) (fun _ => ?_)
  refine jb_iload_n (pc' := 6) dX11_isOutside_5 rfl rfl ?_
  refine jb_iload_n (pc' := 7) dX11_isOutside_6 rfl rfl ?_
  refine jb_icmp_le (tgt := 14) (pc' := 10) dX11_isOutside_7 (by decide) rfl (fun _ => ?_) (fun z => absurd (nI_le (a := j) (b := hi) (by omega) (by omega)) z)
  refine jb_iconst (pc' := 15) 0 dX11_isOutside_14 (by decide) rfl ?_
  refine jb_iret dX11_isOutside_15 rfl ?_
  exact ⟨rfl, rfl⟩
set_option maxRecDepth 100000 in
set_option maxHeartbeats 4000000 in
theorem c_isOutNG {sc : Nat × (Nat → Int32)} {h : jb_H} (j n : Nat) (h1 : j < n) (h2 : n < 2 ^ 30) : jb_C sc yX11_isOutside cX11_isOutside 3 (Option.some .boolean) 0 0 0 [.int (nI j), .int 0, .int (nI n - 1)] h (fun r h9 => r = some (.int 0) ∧ h = h9) := by
  refine jb_CofJ (ini := false) (by decide +kernel) (fun h => by cases h) (Nat.le_of_ble_eq_true rfl) ?_
  show jb_J sc RX11 cX11_isOutside 3 (Option.some .boolean) false 0 0 0 0 [some (.int (nI j)), some (.int 0), some (.int (nI n - 1))] [] h _
  refine jb_iload_n (pc' := 1) dX11_isOutside_0 rfl rfl ?_
  refine jb_iload_n (pc' := 2) dX11_isOutside_1 rfl rfl ?_
  refine jb_icmp_lt (tgt := 10) (pc' := 5) dX11_isOutside_2 (by decide) rfl (fun z => absurd z (nI_pos (n := j) (by omega))) (fun _ => ?_)
  refine jb_iload_n (pc' := 6) dX11_isOutside_5 rfl rfl ?_
  refine jb_iload_n (pc' := 7) dX11_isOutside_6 rfl rfl ?_
  refine jb_icmp_le (tgt := 14) (pc' := 10) dX11_isOutside_7 (by decide) rfl (fun _ => ?_) (fun z => absurd (Int32.not_lt.mp (fun z => jn_no h1 h2 (Or.inr z))) z)
  refine jb_iconst (pc' := 15) 0 dX11_isOutside_14 (by decide) rfl ?_
  refine jb_iret dX11_isOutside_15 rfl ?_
  exact ⟨rfl, rfl⟩
set_option maxRecDepth 100000 in
set_option maxHeartbeats 4000000 in
theorem c_inL {sc : Nat × (Nat → Int32)} (h : jb_H) (x : Int32) (lo hi : Nat) (h1 : lo < 2 ^ 30) (h2 : hi < 2 ^ 30) : jb_C sc yX12_in cX12_in 6 (Option.some .boolean) 0 0 0 [.long x.toInt64, .long (lN lo), .long (lN hi)] h (fun r h9 => h = h9 ∧ ((jn_b x lo (hi + 1) ∧ r = some (.int 1)) ∨ (¬ jn_b x lo (hi + 1) ∧ r = some (.int 0)))) := by
  refine jb_CofJ (ini := false) (by decide +kernel) (fun h => by cases h) (Nat.le_of_ble_eq_true rfl) ?_
  show jb_J sc RX12 cX12_in 6 (Option.some .boolean) false 0 0 0 0 [some (.long x.toInt64), none, some (.long (lN lo)), none, some (.long (lN hi)), none] [] h _
  refine jb_lload_n (pc' := 1) dX12_in_0 rfl rfl ?_
  refine jb_lload_n (pc' := 2) dX12_in_1 rfl rfl ?_
  refine jb_lcmp (pc' := 3) dX12_in_2 rfl ?_
  refine jb_if_lt (tgt := 17) (pc' := 6) dX12_in_3 (by decide) rfl (fun c1 => ?_) (fun c1 => ?_)
  · refine jb_iconst (pc' := 18) 0 dX12_in_17 (by decide) rfl ?_
    refine jb_iret dX12_in_18 rfl ?_
    first | exact ⟨rfl, Or.inr ⟨(jn_inL h1 h2).mp (Or.inl (jl_lt.mp c1)), rfl⟩⟩ | exact ⟨rfl, Or.inr ⟨(jn_inL h1 h2).mp (Or.inr (jl_gt.mp c2)), rfl⟩⟩ | exact ⟨rfl, Or.inl ⟨Classical.byContradiction (fun z => ((jn_inL h1 h2).mpr z).elim (fun y => c1 (jl_lt.mpr y)) (fun y => c2 (jl_gt.mpr y))), rfl⟩⟩
  · refine jb_lload_n (pc' := 7) dX12_in_6 rfl rfl ?_
    refine jb_lload (pc' := 9) dX12_in_7 rfl rfl ?_
    refine jb_lcmp (pc' := 10) dX12_in_9 rfl ?_
    refine jb_if_gt (tgt := 17) (pc' := 13) dX12_in_10 (by decide) rfl (fun c2 => ?_) (fun c2 => ?_)
    · refine jb_iconst (pc' := 18) 0 dX12_in_17 (by decide) rfl ?_
      refine jb_iret dX12_in_18 rfl ?_
      first | exact ⟨rfl, Or.inr ⟨(jn_inL h1 h2).mp (Or.inl (jl_lt.mp c1)), rfl⟩⟩ | exact ⟨rfl, Or.inr ⟨(jn_inL h1 h2).mp (Or.inr (jl_gt.mp c2)), rfl⟩⟩ | exact ⟨rfl, Or.inl ⟨Classical.byContradiction (fun z => ((jn_inL h1 h2).mpr z).elim (fun y => c1 (jl_lt.mpr y)) (fun y => c2 (jl_gt.mpr y))), rfl⟩⟩
    · refine jb_iconst (pc' := 14) 1 dX12_in_13 (by decide) rfl ?_
      refine jb_goto (pc' := 18) dX12_in_14 (by decide) ?_
      refine jb_iret dX12_in_18 rfl ?_
      first | exact ⟨rfl, Or.inr ⟨(jn_inL h1 h2).mp (Or.inl (jl_lt.mp c1)), rfl⟩⟩ | exact ⟨rfl, Or.inr ⟨(jn_inL h1 h2).mp (Or.inr (jl_gt.mp c2)), rfl⟩⟩ | exact ⟨rfl, Or.inl ⟨Classical.byContradiction (fun z => ((jn_inL h1 h2).mpr z).elim (fun y => c1 (jl_lt.mpr y)) (fun y => c2 (jl_gt.mpr y))), rfl⟩⟩
set_option maxRecDepth 100000 in
set_option maxHeartbeats 4000000 in
theorem c_inN {sc : Nat × (Nat → Int32)} (h : jb_H) (x : Int32) (n : Nat) (h1 : n < 2 ^ 30) : jb_C sc yX12_in cX12_in 6 (Option.some .boolean) 0 0 0 [.long x.toInt64, .long 0, .long ((nI n - 1).toInt64)] h (fun r h9 => h = h9 ∧ ((jn_b x 0 n ∧ r = some (.int 1)) ∨ (¬ jn_b x 0 n ∧ r = some (.int 0)))) := by
  refine jb_CofJ (ini := false) (by decide +kernel) (fun h => by cases h) (Nat.le_of_ble_eq_true rfl) ?_
  show jb_J sc RX12 cX12_in 6 (Option.some .boolean) false 0 0 0 0 [some (.long x.toInt64), none, some (.long 0), none, some (.long ((nI n - 1).toInt64)), none] [] h _
  refine jb_lload_n (pc' := 1) dX12_in_0 rfl rfl ?_
  refine jb_lload_n (pc' := 2) dX12_in_1 rfl rfl ?_
  refine jb_lcmp (pc' := 3) dX12_in_2 rfl ?_
  refine jb_if_lt (tgt := 17) (pc' := 6) dX12_in_3 (by decide) rfl (fun c1 => ?_) (fun c1 => ?_)
  · refine jb_iconst (pc' := 18) 0 dX12_in_17 (by decide) rfl ?_
    refine jb_iret dX12_in_18 rfl ?_
    first | exact ⟨rfl, Or.inr ⟨(jn_inN h1).mp (Or.inl (jl_lt.mp c1)), rfl⟩⟩ | exact ⟨rfl, Or.inr ⟨(jn_inN h1).mp (Or.inr (jl_gt.mp c2)), rfl⟩⟩ | exact ⟨rfl, Or.inl ⟨Classical.byContradiction (fun z => ((jn_inN h1).mpr z).elim (fun y => c1 (jl_lt.mpr y)) (fun y => c2 (jl_gt.mpr y))), rfl⟩⟩
  · refine jb_lload_n (pc' := 7) dX12_in_6 rfl rfl ?_
    refine jb_lload (pc' := 9) dX12_in_7 rfl rfl ?_
    refine jb_lcmp (pc' := 10) dX12_in_9 rfl ?_
    refine jb_if_gt (tgt := 17) (pc' := 13) dX12_in_10 (by decide) rfl (fun c2 => ?_) (fun c2 => ?_)
    · refine jb_iconst (pc' := 18) 0 dX12_in_17 (by decide) rfl ?_
      refine jb_iret dX12_in_18 rfl ?_
      first | exact ⟨rfl, Or.inr ⟨(jn_inN h1).mp (Or.inl (jl_lt.mp c1)), rfl⟩⟩ | exact ⟨rfl, Or.inr ⟨(jn_inN h1).mp (Or.inr (jl_gt.mp c2)), rfl⟩⟩ | exact ⟨rfl, Or.inl ⟨Classical.byContradiction (fun z => ((jn_inN h1).mpr z).elim (fun y => c1 (jl_lt.mpr y)) (fun y => c2 (jl_gt.mpr y))), rfl⟩⟩
    · refine jb_iconst (pc' := 14) 1 dX12_in_13 (by decide) rfl ?_
      refine jb_goto (pc' := 18) dX12_in_14 (by decide) ?_
      refine jb_iret dX12_in_18 rfl ?_
      first | exact ⟨rfl, Or.inr ⟨(jn_inN h1).mp (Or.inl (jl_lt.mp c1)), rfl⟩⟩ | exact ⟨rfl, Or.inr ⟨(jn_inN h1).mp (Or.inr (jl_gt.mp c2)), rfl⟩⟩ | exact ⟨rfl, Or.inl ⟨Classical.byContradiction (fun z => ((jn_inN h1).mpr z).elim (fun y => c1 (jl_lt.mpr y)) (fun y => c2 (jl_gt.mpr y))), rfl⟩⟩
set_option maxRecDepth 100000 in
set_option maxHeartbeats 4000000 in
theorem c_inLG {sc : Nat × (Nat → Int32)} (h : jb_H) (j lo hi : Nat) (h1 : lo ≤ j) (h2 : j ≤ hi) (h3 : hi < 2 ^ 30) : jb_C sc yX12_in cX12_in 6 (Option.some .boolean) 0 0 0 [.long ((nI j).toInt64), .long (lN lo), .long (lN hi)] h (fun r h9 => r = some (.int 1) ∧ h = h9) := by
  refine jb_CofJ (ini := false) (by decide +kernel) (fun h => by cases h) (Nat.le_of_ble_eq_true rfl) ?_
  show jb_J sc RX12 cX12_in 6 (Option.some .boolean) false 0 0 0 0 [some (.long ((nI j).toInt64)), none, some (.long (lN lo)), none, some (.long (lN hi)), none] [] h _
  refine jb_lload_n (pc' := 1) dX12_in_0 rfl rfl ?_
  refine jb_lload_n (pc' := 2) dX12_in_1 rfl rfl ?_
  refine jb_lcmp (pc' := 3) dX12_in_2 rfl ?_
  refine jb_if_lt (tgt := 17) (pc' := 6) dX12_in_3 (by decide) rfl (fun z => absurd z (fun z => ((jn_inL (x := nI j) (lo := lo) (hi := hi) (by omega) h3).mp (Or.inl (jl_lt.mp z))) (jn_bN h1 (by omega)))) (fun _ => ?_)
  refine jb_lload_n (pc' := 7) dX12_in_6 rfl rfl ?_
  refine jb_lload (pc' := 9) dX12_in_7 rfl rfl ?_
  refine jb_lcmp (pc' := 10) dX12_in_9 rfl ?_
  refine jb_if_gt (tgt := 17) (pc' := 13) dX12_in_10 (by decide) rfl (fun z => absurd z (fun z => ((jn_inL (x := nI j) (lo := lo) (hi := hi) (by omega) h3).mp (Or.inr (jl_gt.mp z))) (jn_bN h1 (by omega)))) (fun _ => ?_)
  refine jb_iconst (pc' := 14) 1 dX12_in_13 (by decide) rfl ?_
  refine jb_goto (pc' := 18) dX12_in_14 (by decide) ?_
  refine jb_iret dX12_in_18 rfl ?_
  exact ⟨rfl, rfl⟩
set_option maxRecDepth 100000 in
set_option maxHeartbeats 4000000 in
theorem c_inNG {sc : Nat × (Nat → Int32)} (h : jb_H) (j n : Nat) (h1 : j < n) (h3 : n < 2 ^ 30) : jb_C sc yX12_in cX12_in 6 (Option.some .boolean) 0 0 0 [.long ((nI j).toInt64), .long 0, .long ((nI n - 1).toInt64)] h (fun r h9 => r = some (.int 1) ∧ h = h9) := by
  refine jb_CofJ (ini := false) (by decide +kernel) (fun h => by cases h) (Nat.le_of_ble_eq_true rfl) ?_
  show jb_J sc RX12 cX12_in 6 (Option.some .boolean) false 0 0 0 0 [some (.long ((nI j).toInt64)), none, some (.long 0), none, some (.long ((nI n - 1).toInt64)), none] [] h _
  refine jb_lload_n (pc' := 1) dX12_in_0 rfl rfl ?_
  refine jb_lload_n (pc' := 2) dX12_in_1 rfl rfl ?_
  refine jb_lcmp (pc' := 3) dX12_in_2 rfl ?_
  refine jb_if_lt (tgt := 17) (pc' := 6) dX12_in_3 (by decide) rfl (fun z => absurd z (fun z => ((jn_inN (x := nI j) (n := n) h3).mp (Or.inl (jl_lt.mp z))) (jn_bN (by omega) h1))) (fun _ => ?_)
  refine jb_lload_n (pc' := 7) dX12_in_6 rfl rfl ?_
  refine jb_lload (pc' := 9) dX12_in_7 rfl rfl ?_
  refine jb_lcmp (pc' := 10) dX12_in_9 rfl ?_
  refine jb_if_gt (tgt := 17) (pc' := 13) dX12_in_10 (by decide) rfl (fun z => absurd z (fun z => ((jn_inN (x := nI j) (n := n) h3).mp (Or.inr (jl_gt.mp z))) (jn_bN (by omega) h1))) (fun _ => ?_)
  refine jb_iconst (pc' := 14) 1 dX12_in_13 (by decide) rfl ?_
  refine jb_goto (pc' := 18) dX12_in_14 (by decide) ?_
  refine jb_iret dX12_in_18 rfl ?_
  exact ⟨rfl, rfl⟩
set_option maxRecDepth 100000 in
set_option maxHeartbeats 4000000 in
theorem c_finds {sc : Nat × (Nat → Int32)} {s0 s1 s2 s3 s4 s5 s6 s7 s8 s9 s11 : List va_E} (I J d e kp nm : Nat → Int32) (W : Nat → Nat → Int32) (k : Nat) (hk : k < 6) : jb_C sc yX12_finds cX12_finds 2 (Option.some .int) 0 0 0 [.ref 105, .int (nI k)] [s0, s1, s2, s3, s4, s5, s6, s7, s8, s9, jb_mdl I J d e kp nm W, s11] (fun r h9 => r = some (.int (jm_er k)) ∧ h9 = [s0, s1, s2, s3, s4, s5, s6, s7, s8, s9, jb_mdl I J d e kp nm (va_up W 0 (jm_ef (W 0) k)), s11]) := by
  refine jb_CofJ (ini := false) (by decide +kernel) (fun h => by cases h) (Nat.le_of_ble_eq_true rfl) ?_
  show jb_J sc RX12 cX12_finds 2 (Option.some .int) false 0 0 0 0 [some (.ref 105), some (.int (nI k))] [] [s0, s1, s2, s3, s4, s5, s6, s7, s8, s9, jb_mdl I J d e kp nm W, s11] _
  refine jb_aload_n (pc' := 1) dX12_finds_0 rfl rfl ?_
  refine gf_X12_19 (pc' := 4) (v := .ref 109) dX12_finds_1 rfl rfl rfl ?_
  refine jb_iload_n (pc' := 5) dX12_finds_4 rfl rfl ?_
  refine jb_dup2 (pc' := 6) dX12_finds_5 rfl rfl rfl ?_
  refine jb_iaload (pc' := 7) (i9 := k) (f := (W 0)) dX12_finds_6 rfl (jb_ix_nI (by omega)) (by omega) rfl ?_
  refine jb_iconst (pc' := 8) 1 dX12_finds_7 (by decide) rfl ?_
  refine jb_iadd (pc' := 9) dX12_finds_8 rfl ?_
  refine jb_iastore (pc' := 10) (i9 := k) (f := (W 0)) (h' := [s0, s1, s2, s3, s4, s5, s6, s7, s8, s9, jb_mdl I J d e kp nm (va_up W 0 (upd (W 0) k (((W 0) k) + 1))), s11]) dX12_finds_9 rfl (jb_ix_nI (by omega)) (by omega) rfl rfl ?_
  refine jb_ldc (pc' := 12) (-1000000000) dX12_finds_10 wk_X12_55 rfl ?_
  refine jb_iload_n (pc' := 13) dX12_finds_12 rfl rfl ?_
  refine jb_isub (pc' := 14) dX12_finds_13 rfl ?_
  refine jb_iret dX12_finds_14 rfl ?_
  exact ⟨rfl, rfl⟩
set_option maxRecDepth 100000 in
set_option maxHeartbeats 4000000 in
theorem c_error {sc : Nat × (Nat → Int32)} {s1 s2 s3 s4 s5 s6 s7 s8 s10 s11 : List va_E} (im : Int32) (I row stk tp : Nat → Int32) (T : Nat → Value) (Ia boa era : Nat → Int32) (k : Nat) (hk : k < 6) : jb_C sc yX11_error cX11_error 2 (Option.some .int) 0 0 0 [.ref 0, .int (nI k)] [jb_main im I T row stk tp, s1, s2, s3, s4, s5, s6, s7, s8, jb_act Ia boa era, s10, s11] (fun r h9 => r = some (.int (jm_er k)) ∧ h9 = [jb_main im I T row stk tp, s1, s2, s3, s4, s5, s6, s7, s8, jb_act Ia boa (jm_ef era k), s10, s11]) := by
  refine jb_CofJ (ini := false) (by decide +kernel) (fun h => by cases h) (Nat.le_of_ble_eq_true rfl) ?_
  show jb_J sc RX11 cX11_error 2 (Option.some .int) false 0 0 0 0 [some (.ref 0), some (.int (nI k))] [] [jb_main im I T row stk tp, s1, s2, s3, s4, s5, s6, s7, s8, jb_act Ia boa era, s10, s11] _
  refine jb_aload_n (pc' := 1) dX11_error_0 rfl rfl ?_
  refine gf_X11_66 (pc' := 4) (v := .ref 104) dX11_error_1 rfl rfl rfl ?_
  refine jb_iload_n (pc' := 5) dX11_error_4 rfl rfl ?_
  refine jb_dup2 (pc' := 6) dX11_error_5 rfl rfl rfl ?_
  refine jb_iaload (pc' := 7) (i9 := k) (f := era) dX11_error_6 rfl (jb_ix_nI (by omega)) (by omega) rfl ?_
  refine jb_iconst (pc' := 8) 1 dX11_error_7 (by decide) rfl ?_
  refine jb_iadd (pc' := 9) dX11_error_8 rfl ?_
  refine jb_iastore (pc' := 10) (i9 := k) (f := era) (h' := [jb_main im I T row stk tp, s1, s2, s3, s4, s5, s6, s7, s8, jb_act Ia boa (upd era k ((era k) + 1)), s10, s11]) dX11_error_9 rfl (jb_ix_nI (by omega)) (by omega) rfl rfl ?_
  refine jb_ldcw (pc' := 13) (-1000000000) dX11_error_10 wk_X11_269 rfl ?_
  refine jb_iload_n (pc' := 14) dX11_error_13 rfl rfl ?_
  refine jb_isub (pc' := 15) dX11_error_14 rfl ?_
  refine jb_iret dX11_error_15 rfl ?_
  exact ⟨rfl, rfl⟩
set_option maxRecDepth 100000 in
set_option maxHeartbeats 4000000 in
theorem c_isVoice {sc : Nat × (Nat → Int32)} {s0 s1 s2 s3 s4 s5 s6 s7 s8 s9 s11 : List va_E} {V : Nat → Nat → Nat} (I J d e kp nm : Nat → Int32) (W : Nat → Nat → Int32) (hd : jd_ V d) (hk : jv_ok V) (x : Int32) : jb_C sc yX12_isVoice cX12_isVoice 2 (Option.some .boolean) 1 0 0 [.ref 105, .int x] [s0, s1, s2, s3, s4, s5, s6, s7, s8, s9, jb_mdl I J d e kp nm W, s11] (fun r h9 => h9 = [s0, s1, s2, s3, s4, s5, s6, s7, s8, s9, jb_mdl I J d e kp nm W, s11] ∧ ((jn_b x 0 (V 0 1) ∧ r = some (.int 1)) ∨ (¬ jn_b x 0 (V 0 1) ∧ r = some (.int 0)))) := by
  refine jb_CofJ (ini := false) (by decide +kernel) (fun h => by cases h) (Nat.le_of_ble_eq_true rfl) ?_
  show jb_J sc RX12 cX12_isVoice 2 (Option.some .boolean) false 1 0 0 0 [some (.ref 105), some (.int x)] [] [s0, s1, s2, s3, s4, s5, s6, s7, s8, s9, jb_mdl I J d e kp nm W, s11] _
  obtain ⟨e0, e1, e2, e3, e4, e5, e6, dv, ds, dd⟩ := hd
  obtain ⟨k0, k1, k2, k3, k4, k5, k6, k7, kv, ks, kd⟩ := hk
  refine jb_iload_n (pc' := 1) dX12_isVoice_0 rfl rfl ?_
  refine jb_i2l (pc' := 2) dX12_isVoice_1 rfl ?_
  refine jb_lconst (pc' := 3) 0 dX12_isVoice_2 (by decide) rfl ?_
  refine jb_aload_n (pc' := 4) dX12_isVoice_3 rfl rfl ?_
  refine gf_X12_7 (pc' := 7) (v := .ref 106) dX12_isVoice_4 rfl rfl rfl ?_
  refine jb_iconst (pc' := 8) 4 dX12_isVoice_7 (by decide) rfl ?_
  refine jb_iaload (pc' := 9) (i9 := 4) (f := d) dX12_isVoice_8 rfl jb_x4 (by decide) rfl ?_
  refine jb_top (v := .int (d 4)) (w := .int (nI (V 0 1))) (jb_vI e4) ?_
  refine jb_iconst (pc' := 10) 1 dX12_isVoice_9 (by decide) rfl ?_
  refine jb_isub (pc' := 11) dX12_isVoice_10 rfl ?_
  refine jb_i2l (pc' := 12) dX12_isVoice_11 rfl ?_
  refine jb_callS (pc' := 15) (As := [.long x.toInt64, .long 0, .long (((nI (V 0 1)) - 1).toInt64)]) (a2 := 0) (b2 := 0) wv_X12_56 dX12_isVoice_12 (c_inN _ x (V 0 1) (by omega)) rfl ⟨by decide, Nat.le_of_eq (Nat.zero_add _), Nat.le_of_eq (Nat.zero_add _)⟩ (Nat.le_of_ble_eq_true rfl) rfl (fun r h9 hq => ?_)
  rcases hq with ⟨rfl, ⟨o1, rfl⟩ | ⟨o1, rfl⟩⟩
  · show jb_J _ RX12 cX12_isVoice 2 (Option.some .boolean) false 1 0 0 15 [some (.ref 105), some (.int x)] [.int 1] [s0, s1, s2, s3, s4, s5, s6, s7, s8, s9, jb_mdl I J d e kp nm W, s11] _
    refine jb_iret dX12_isVoice_15 rfl ?_
    first | exact ⟨rfl, Or.inl ⟨by assumption, rfl⟩⟩ | exact ⟨rfl, Or.inr ⟨by assumption, rfl⟩⟩
  · show jb_J _ RX12 cX12_isVoice 2 (Option.some .boolean) false 1 0 0 15 [some (.ref 105), some (.int x)] [.int 0] [s0, s1, s2, s3, s4, s5, s6, s7, s8, s9, jb_mdl I J d e kp nm W, s11] _
    refine jb_iret dX12_isVoice_15 rfl ?_
    first | exact ⟨rfl, Or.inl ⟨by assumption, rfl⟩⟩ | exact ⟨rfl, Or.inr ⟨by assumption, rfl⟩⟩
set_option maxRecDepth 100000 in
set_option maxHeartbeats 4000000 in
theorem c_isVoiceG {sc : Nat × (Nat → Int32)} {s0 s1 s2 s3 s4 s5 s6 s7 s8 s9 s11 : List va_E} {V : Nat → Nat → Nat} (I J d e kp nm : Nat → Int32) (W : Nat → Nat → Int32) (hd : jd_ V d) (hk : jv_ok V) (j : Nat) (hj : j < (V 0 1)) : jb_C sc yX12_isVoice cX12_isVoice 2 (Option.some .boolean) 1 0 0 [.ref 105, .int (nI j)] [s0, s1, s2, s3, s4, s5, s6, s7, s8, s9, jb_mdl I J d e kp nm W, s11] (fun r h9 => r = some (.int 1) ∧ h9 = [s0, s1, s2, s3, s4, s5, s6, s7, s8, s9, jb_mdl I J d e kp nm W, s11]) := by
  refine jb_CofJ (ini := false) (by decide +kernel) (fun h => by cases h) (Nat.le_of_ble_eq_true rfl) ?_
  show jb_J sc RX12 cX12_isVoice 2 (Option.some .boolean) false 1 0 0 0 [some (.ref 105), some (.int (nI j))] [] [s0, s1, s2, s3, s4, s5, s6, s7, s8, s9, jb_mdl I J d e kp nm W, s11] _
  obtain ⟨e0, e1, e2, e3, e4, e5, e6, dv, ds, dd⟩ := hd
  obtain ⟨k0, k1, k2, k3, k4, k5, k6, k7, kv, ks, kd⟩ := hk
  refine jb_iload_n (pc' := 1) dX12_isVoice_0 rfl rfl ?_
  refine jb_i2l (pc' := 2) dX12_isVoice_1 rfl ?_
  refine jb_lconst (pc' := 3) 0 dX12_isVoice_2 (by decide) rfl ?_
  refine jb_aload_n (pc' := 4) dX12_isVoice_3 rfl rfl ?_
  refine gf_X12_7 (pc' := 7) (v := .ref 106) dX12_isVoice_4 rfl rfl rfl ?_
  refine jb_iconst (pc' := 8) 4 dX12_isVoice_7 (by decide) rfl ?_
  refine jb_iaload (pc' := 9) (i9 := 4) (f := d) dX12_isVoice_8 rfl jb_x4 (by decide) rfl ?_
  refine jb_top (v := .int (d 4)) (w := .int (nI (V 0 1))) (jb_vI e4) ?_
  refine jb_iconst (pc' := 10) 1 dX12_isVoice_9 (by decide) rfl ?_
  refine jb_isub (pc' := 11) dX12_isVoice_10 rfl ?_
  refine jb_i2l (pc' := 12) dX12_isVoice_11 rfl ?_
  refine jb_callS (pc' := 15) (As := [.long ((nI j).toInt64), .long 0, .long (((nI (V 0 1)) - 1).toInt64)]) (a2 := 0) (b2 := 0) wv_X12_56 dX12_isVoice_12 (c_inNG _ j (V 0 1) (by omega) (by omega)) rfl ⟨by decide, Nat.le_of_eq (Nat.zero_add _), Nat.le_of_eq (Nat.zero_add _)⟩ (Nat.le_of_ble_eq_true rfl) rfl (fun r h9 hq => ?_)
  obtain ⟨rfl, rfl⟩ := hq
  show jb_J _ RX12 cX12_isVoice 2 (Option.some .boolean) false 1 0 0 15 [some (.ref 105), some (.int (nI j))] [.int 1] [s0, s1, s2, s3, s4, s5, s6, s7, s8, s9, jb_mdl I J d e kp nm W, s11] _
  refine jb_iret dX12_isVoice_15 rfl ?_
  exact ⟨rfl, rfl⟩
set_option maxRecDepth 100000 in
set_option maxHeartbeats 4000000 in
theorem c_isShout {sc : Nat × (Nat → Int32)} {s0 s1 s2 s3 s4 s5 s6 s7 s8 s9 s11 : List va_E} {V : Nat → Nat → Nat} (I J d e kp nm : Nat → Int32) (W : Nat → Nat → Int32) (hd : jd_ V d) (hk : jv_ok V) (x : Int32) : jb_C sc yX12_isShout cX12_isShout 2 (Option.some .boolean) 1 0 0 [.ref 105, .int x] [s0, s1, s2, s3, s4, s5, s6, s7, s8, s9, jb_mdl I J d e kp nm W, s11] (fun r h9 => h9 = [s0, s1, s2, s3, s4, s5, s6, s7, s8, s9, jb_mdl I J d e kp nm W, s11] ∧ ((jn_b x 0 (V 0 2) ∧ r = some (.int 1)) ∨ (¬ jn_b x 0 (V 0 2) ∧ r = some (.int 0)))) := by
  refine jb_CofJ (ini := false) (by decide +kernel) (fun h => by cases h) (Nat.le_of_ble_eq_true rfl) ?_
  show jb_J sc RX12 cX12_isShout 2 (Option.some .boolean) false 1 0 0 0 [some (.ref 105), some (.int x)] [] [s0, s1, s2, s3, s4, s5, s6, s7, s8, s9, jb_mdl I J d e kp nm W, s11] _
  obtain ⟨e0, e1, e2, e3, e4, e5, e6, dv, ds, dd⟩ := hd
  obtain ⟨k0, k1, k2, k3, k4, k5, k6, k7, kv, ks, kd⟩ := hk
  refine jb_iload_n (pc' := 1) dX12_isShout_0 rfl rfl ?_
  refine jb_i2l (pc' := 2) dX12_isShout_1 rfl ?_
  refine jb_lconst (pc' := 3) 0 dX12_isShout_2 (by decide) rfl ?_
  refine jb_aload_n (pc' := 4) dX12_isShout_3 rfl rfl ?_
  refine gf_X12_7 (pc' := 7) (v := .ref 106) dX12_isShout_4 rfl rfl rfl ?_
  refine jb_iconst (pc' := 8) 5 dX12_isShout_7 (by decide) rfl ?_
  refine jb_iaload (pc' := 9) (i9 := 5) (f := d) dX12_isShout_8 rfl jb_x5 (by decide) rfl ?_
  refine jb_top (v := .int (d 5)) (w := .int (nI (V 0 2))) (jb_vI e5) ?_
  refine jb_iconst (pc' := 10) 1 dX12_isShout_9 (by decide) rfl ?_
  refine jb_isub (pc' := 11) dX12_isShout_10 rfl ?_
  refine jb_i2l (pc' := 12) dX12_isShout_11 rfl ?_
  refine jb_callS (pc' := 15) (As := [.long x.toInt64, .long 0, .long (((nI (V 0 2)) - 1).toInt64)]) (a2 := 0) (b2 := 0) wv_X12_56 dX12_isShout_12 (c_inN _ x (V 0 2) (by omega)) rfl ⟨by decide, Nat.le_of_eq (Nat.zero_add _), Nat.le_of_eq (Nat.zero_add _)⟩ (Nat.le_of_ble_eq_true rfl) rfl (fun r h9 hq => ?_)
  rcases hq with ⟨rfl, ⟨o1, rfl⟩ | ⟨o1, rfl⟩⟩
  · show jb_J _ RX12 cX12_isShout 2 (Option.some .boolean) false 1 0 0 15 [some (.ref 105), some (.int x)] [.int 1] [s0, s1, s2, s3, s4, s5, s6, s7, s8, s9, jb_mdl I J d e kp nm W, s11] _
    refine jb_iret dX12_isShout_15 rfl ?_
    first | exact ⟨rfl, Or.inl ⟨by assumption, rfl⟩⟩ | exact ⟨rfl, Or.inr ⟨by assumption, rfl⟩⟩
  · show jb_J _ RX12 cX12_isShout 2 (Option.some .boolean) false 1 0 0 15 [some (.ref 105), some (.int x)] [.int 0] [s0, s1, s2, s3, s4, s5, s6, s7, s8, s9, jb_mdl I J d e kp nm W, s11] _
    refine jb_iret dX12_isShout_15 rfl ?_
    first | exact ⟨rfl, Or.inl ⟨by assumption, rfl⟩⟩ | exact ⟨rfl, Or.inr ⟨by assumption, rfl⟩⟩
set_option maxRecDepth 100000 in
set_option maxHeartbeats 4000000 in
theorem c_isShoutG {sc : Nat × (Nat → Int32)} {s0 s1 s2 s3 s4 s5 s6 s7 s8 s9 s11 : List va_E} {V : Nat → Nat → Nat} (I J d e kp nm : Nat → Int32) (W : Nat → Nat → Int32) (hd : jd_ V d) (hk : jv_ok V) (j : Nat) (hj : j < (V 0 2)) : jb_C sc yX12_isShout cX12_isShout 2 (Option.some .boolean) 1 0 0 [.ref 105, .int (nI j)] [s0, s1, s2, s3, s4, s5, s6, s7, s8, s9, jb_mdl I J d e kp nm W, s11] (fun r h9 => r = some (.int 1) ∧ h9 = [s0, s1, s2, s3, s4, s5, s6, s7, s8, s9, jb_mdl I J d e kp nm W, s11]) := by
  refine jb_CofJ (ini := false) (by decide +kernel) (fun h => by cases h) (Nat.le_of_ble_eq_true rfl) ?_
  show jb_J sc RX12 cX12_isShout 2 (Option.some .boolean) false 1 0 0 0 [some (.ref 105), some (.int (nI j))] [] [s0, s1, s2, s3, s4, s5, s6, s7, s8, s9, jb_mdl I J d e kp nm W, s11] _
  obtain ⟨e0, e1, e2, e3, e4, e5, e6, dv, ds, dd⟩ := hd
  obtain ⟨k0, k1, k2, k3, k4, k5, k6, k7, kv, ks, kd⟩ := hk
  refine jb_iload_n (pc' := 1) dX12_isShout_0 rfl rfl ?_
  refine jb_i2l (pc' := 2) dX12_isShout_1 rfl ?_
  refine jb_lconst (pc' := 3) 0 dX12_isShout_2 (by decide) rfl ?_
  refine jb_aload_n (pc' := 4) dX12_isShout_3 rfl rfl ?_
  refine gf_X12_7 (pc' := 7) (v := .ref 106) dX12_isShout_4 rfl rfl rfl ?_
  refine jb_iconst (pc' := 8) 5 dX12_isShout_7 (by decide) rfl ?_
  refine jb_iaload (pc' := 9) (i9 := 5) (f := d) dX12_isShout_8 rfl jb_x5 (by decide) rfl ?_
  refine jb_top (v := .int (d 5)) (w := .int (nI (V 0 2))) (jb_vI e5) ?_
  refine jb_iconst (pc' := 10) 1 dX12_isShout_9 (by decide) rfl ?_
  refine jb_isub (pc' := 11) dX12_isShout_10 rfl ?_
  refine jb_i2l (pc' := 12) dX12_isShout_11 rfl ?_
  refine jb_callS (pc' := 15) (As := [.long ((nI j).toInt64), .long 0, .long (((nI (V 0 2)) - 1).toInt64)]) (a2 := 0) (b2 := 0) wv_X12_56 dX12_isShout_12 (c_inNG _ j (V 0 2) (by omega) (by omega)) rfl ⟨by decide, Nat.le_of_eq (Nat.zero_add _), Nat.le_of_eq (Nat.zero_add _)⟩ (Nat.le_of_ble_eq_true rfl) rfl (fun r h9 hq => ?_)
  obtain ⟨rfl, rfl⟩ := hq
  show jb_J _ RX12 cX12_isShout 2 (Option.some .boolean) false 1 0 0 15 [some (.ref 105), some (.int (nI j))] [.int 1] [s0, s1, s2, s3, s4, s5, s6, s7, s8, s9, jb_mdl I J d e kp nm W, s11] _
  refine jb_iret dX12_isShout_15 rfl ?_
  exact ⟨rfl, rfl⟩
set_option maxRecDepth 100000 in
set_option maxHeartbeats 4000000 in
theorem c_isWord {sc : Nat × (Nat → Int32)} (h : jb_H) (x : Int32) : jb_C sc yX12_isWord cX12_isWord 1 (Option.some .boolean) 1 0 0 [.int x] h (fun r h9 => h = h9 ∧ ((jn_b x 0 40 ∧ r = some (.int 1)) ∨ (¬ jn_b x 0 40 ∧ r = some (.int 0)))) := by
  refine jb_CofJ (ini := false) (by decide +kernel) (fun h => by cases h) (Nat.le_of_ble_eq_true rfl) ?_
  show jb_J sc RX12 cX12_isWord 1 (Option.some .boolean) false 1 0 0 0 [some (.int x)] [] h _
  refine jb_iload_n (pc' := 1) dX12_isWord_0 rfl rfl ?_
  refine jb_i2l (pc' := 2) dX12_isWord_1 rfl ?_
  refine jb_lconst (pc' := 3) 0 dX12_isWord_2 (by decide) rfl ?_
  refine jb_ldc2 (pc' := 6) 39 dX12_isWord_3 wk_X12_60 rfl ?_
  refine jb_callS (pc' := 9) (As := [.long x.toInt64, .long 0, .long 39]) (a2 := 0) (b2 := 0) wv_X12_56 dX12_isWord_6 (c_inL _ x 0 39 (by omega) (by omega)) rfl ⟨by decide, Nat.le_of_eq (Nat.zero_add _), Nat.le_of_eq (Nat.zero_add _)⟩ (Nat.le_of_ble_eq_true rfl) rfl (fun r h9 hq => ?_)
  rcases hq with ⟨rfl, ⟨o1, rfl⟩ | ⟨o1, rfl⟩⟩
  · show jb_J _ RX12 cX12_isWord 1 (Option.some .boolean) false 1 0 0 9 [some (.int x)] [.int 1] h _
    refine jb_iret dX12_isWord_9 rfl ?_
    first | exact ⟨rfl, Or.inl ⟨by assumption, rfl⟩⟩ | exact ⟨rfl, Or.inr ⟨by assumption, rfl⟩⟩
  · show jb_J _ RX12 cX12_isWord 1 (Option.some .boolean) false 1 0 0 9 [some (.int x)] [.int 0] h _
    refine jb_iret dX12_isWord_9 rfl ?_
    first | exact ⟨rfl, Or.inl ⟨by assumption, rfl⟩⟩ | exact ⟨rfl, Or.inr ⟨by assumption, rfl⟩⟩
set_option maxRecDepth 100000 in
set_option maxHeartbeats 4000000 in
theorem c_isWordG {sc : Nat × (Nat → Int32)} (h : jb_H) (j : Nat) (hj : j < 40) : jb_C sc yX12_isWord cX12_isWord 1 (Option.some .boolean) 1 0 0 [.int (nI j)] h (fun r h9 => r = some (.int 1) ∧ h = h9) := by
  refine jb_CofJ (ini := false) (by decide +kernel) (fun h => by cases h) (Nat.le_of_ble_eq_true rfl) ?_
  show jb_J sc RX12 cX12_isWord 1 (Option.some .boolean) false 1 0 0 0 [some (.int (nI j))] [] h _
  refine jb_iload_n (pc' := 1) dX12_isWord_0 rfl rfl ?_
  refine jb_i2l (pc' := 2) dX12_isWord_1 rfl ?_
  refine jb_lconst (pc' := 3) 0 dX12_isWord_2 (by decide) rfl ?_
  refine jb_ldc2 (pc' := 6) 39 dX12_isWord_3 wk_X12_60 rfl ?_
  refine jb_callS (pc' := 9) (As := [.long ((nI j).toInt64), .long 0, .long 39]) (a2 := 0) (b2 := 0) wv_X12_56 dX12_isWord_6 (c_inLG _ j 0 39 (by omega) (by omega) (by omega)) rfl ⟨by decide, Nat.le_of_eq (Nat.zero_add _), Nat.le_of_eq (Nat.zero_add _)⟩ (Nat.le_of_ble_eq_true rfl) rfl (fun r h9 hq => ?_)
  obtain ⟨rfl, rfl⟩ := hq
  show jb_J _ RX12 cX12_isWord 1 (Option.some .boolean) false 1 0 0 9 [some (.int (nI j))] [.int 1] h _
  refine jb_iret dX12_isWord_9 rfl ?_
  exact ⟨rfl, rfl⟩
set_option maxRecDepth 100000 in
set_option maxHeartbeats 4000000 in
theorem c_isSheet {sc : Nat × (Nat → Int32)} (h : jb_H) (x : Int32) : jb_C sc yX12_isSheet cX12_isSheet 1 (Option.some .boolean) 1 0 0 [.int x] h (fun r h9 => h = h9 ∧ ((jn_b x 0 4 ∧ r = some (.int 1)) ∨ (¬ jn_b x 0 4 ∧ r = some (.int 0)))) := by
  refine jb_CofJ (ini := false) (by decide +kernel) (fun h => by cases h) (Nat.le_of_ble_eq_true rfl) ?_
  show jb_J sc RX12 cX12_isSheet 1 (Option.some .boolean) false 1 0 0 0 [some (.int x)] [] h _
  refine jb_iload_n (pc' := 1) dX12_isSheet_0 rfl rfl ?_
  refine jb_i2l (pc' := 2) dX12_isSheet_1 rfl ?_
  refine jb_lconst (pc' := 3) 0 dX12_isSheet_2 (by decide) rfl ?_
  refine jb_ldc2 (pc' := 6) 3 dX12_isSheet_3 wk_X12_152 rfl ?_
  refine jb_callS (pc' := 9) (As := [.long x.toInt64, .long 0, .long 3]) (a2 := 0) (b2 := 0) wv_X12_56 dX12_isSheet_6 (c_inL _ x 0 3 (by omega) (by omega)) rfl ⟨by decide, Nat.le_of_eq (Nat.zero_add _), Nat.le_of_eq (Nat.zero_add _)⟩ (Nat.le_of_ble_eq_true rfl) rfl (fun r h9 hq => ?_)
  rcases hq with ⟨rfl, ⟨o1, rfl⟩ | ⟨o1, rfl⟩⟩
  · show jb_J _ RX12 cX12_isSheet 1 (Option.some .boolean) false 1 0 0 9 [some (.int x)] [.int 1] h _
    refine jb_iret dX12_isSheet_9 rfl ?_
    first | exact ⟨rfl, Or.inl ⟨by assumption, rfl⟩⟩ | exact ⟨rfl, Or.inr ⟨by assumption, rfl⟩⟩
  · show jb_J _ RX12 cX12_isSheet 1 (Option.some .boolean) false 1 0 0 9 [some (.int x)] [.int 0] h _
    refine jb_iret dX12_isSheet_9 rfl ?_
    first | exact ⟨rfl, Or.inl ⟨by assumption, rfl⟩⟩ | exact ⟨rfl, Or.inr ⟨by assumption, rfl⟩⟩
set_option maxRecDepth 100000 in
set_option maxHeartbeats 4000000 in
theorem c_isSheetG {sc : Nat × (Nat → Int32)} (h : jb_H) (j : Nat) (hj : j < 4) : jb_C sc yX12_isSheet cX12_isSheet 1 (Option.some .boolean) 1 0 0 [.int (nI j)] h (fun r h9 => r = some (.int 1) ∧ h = h9) := by
  refine jb_CofJ (ini := false) (by decide +kernel) (fun h => by cases h) (Nat.le_of_ble_eq_true rfl) ?_
  show jb_J sc RX12 cX12_isSheet 1 (Option.some .boolean) false 1 0 0 0 [some (.int (nI j))] [] h _
  refine jb_iload_n (pc' := 1) dX12_isSheet_0 rfl rfl ?_
  refine jb_i2l (pc' := 2) dX12_isSheet_1 rfl ?_
  refine jb_lconst (pc' := 3) 0 dX12_isSheet_2 (by decide) rfl ?_
  refine jb_ldc2 (pc' := 6) 3 dX12_isSheet_3 wk_X12_152 rfl ?_
  refine jb_callS (pc' := 9) (As := [.long ((nI j).toInt64), .long 0, .long 3]) (a2 := 0) (b2 := 0) wv_X12_56 dX12_isSheet_6 (c_inLG _ j 0 3 (by omega) (by omega) (by omega)) rfl ⟨by decide, Nat.le_of_eq (Nat.zero_add _), Nat.le_of_eq (Nat.zero_add _)⟩ (Nat.le_of_ble_eq_true rfl) rfl (fun r h9 hq => ?_)
  obtain ⟨rfl, rfl⟩ := hq
  show jb_J _ RX12 cX12_isSheet 1 (Option.some .boolean) false 1 0 0 9 [some (.int (nI j))] [.int 1] h _
  refine jb_iret dX12_isSheet_9 rfl ?_
  exact ⟨rfl, rfl⟩
set_option maxRecDepth 100000 in
set_option maxHeartbeats 4000000 in
theorem c_isNoSheet {sc : Nat × (Nat → Int32)} (h : jb_H) (x : Int32) : jb_C sc yX11_isNoSheet cX11_isNoSheet 2 (Option.some .boolean) 1 0 0 [.ref 0, .int x] h (fun r h9 => h = h9 ∧ ((jn_b x 0 4 ∧ r = some (.int 0)) ∨ (¬ jn_b x 0 4 ∧ r = some (.int 1)))) := by
  refine jb_CofJ (ini := false) (by decide +kernel) (fun h => by cases h) (Nat.le_of_ble_eq_true rfl) ?_
  show jb_J sc RX11 cX11_isNoSheet 2 (Option.some .boolean) false 1 0 0 0 [some (.ref 0), some (.int x)] [] h _
  refine jb_iload_n (pc' := 1) dX11_isNoSheet_0 rfl rfl ?_
  refine jb_iconst (pc' := 2) 0 dX11_isNoSheet_1 (by decide) rfl ?_
  refine jb_iconst (pc' := 3) 3 dX11_isNoSheet_2 (by decide) rfl ?_
  refine jb_callS (pc' := 6) (As := [.int x, .int 0, .int 3]) (a2 := 0) (b2 := 0) wv_X11_74 dX11_isNoSheet_3 (c_isOutL x 0 3 (by omega) (by omega)) rfl ⟨by decide, Nat.le_of_eq (Nat.zero_add _), Nat.le_of_eq (Nat.zero_add _)⟩ (Nat.le_of_ble_eq_true rfl) rfl (fun r h9 hq => ?_)
  rcases hq with ⟨rfl, ⟨o1, rfl⟩ | ⟨o1, rfl⟩⟩
  · show jb_J _ RX11 cX11_isNoSheet 2 (Option.some .boolean) false 1 0 0 6 [some (.ref 0), some (.int x)] [.int 1] h _
    refine jb_iret dX11_isNoSheet_6 rfl ?_
    first | exact ⟨rfl, Or.inl ⟨by assumption, rfl⟩⟩ | exact ⟨rfl, Or.inr ⟨by assumption, rfl⟩⟩
  · show jb_J _ RX11 cX11_isNoSheet 2 (Option.some .boolean) false 1 0 0 6 [some (.ref 0), some (.int x)] [.int 0] h _
    refine jb_iret dX11_isNoSheet_6 rfl ?_
    first | exact ⟨rfl, Or.inl ⟨by assumption, rfl⟩⟩ | exact ⟨rfl, Or.inr ⟨by assumption, rfl⟩⟩
set_option maxRecDepth 100000 in
set_option maxHeartbeats 4000000 in
theorem c_isNoSheetG {sc : Nat × (Nat → Int32)} (h : jb_H) (j : Nat) (hj : j < 4) : jb_C sc yX11_isNoSheet cX11_isNoSheet 2 (Option.some .boolean) 1 0 0 [.ref 0, .int (nI j)] h (fun r h9 => r = some (.int 0) ∧ h = h9) := by
  refine jb_CofJ (ini := false) (by decide +kernel) (fun h => by cases h) (Nat.le_of_ble_eq_true rfl) ?_
  show jb_J sc RX11 cX11_isNoSheet 2 (Option.some .boolean) false 1 0 0 0 [some (.ref 0), some (.int (nI j))] [] h _
  refine jb_iload_n (pc' := 1) dX11_isNoSheet_0 rfl rfl ?_
  refine jb_iconst (pc' := 2) 0 dX11_isNoSheet_1 (by decide) rfl ?_
  refine jb_iconst (pc' := 3) 3 dX11_isNoSheet_2 (by decide) rfl ?_
  refine jb_callS (pc' := 6) (As := [.int (nI j), .int 0, .int 3]) (a2 := 0) (b2 := 0) wv_X11_74 dX11_isNoSheet_3 (c_isOutLG j 0 3 (by omega) (by omega) (by omega)) rfl ⟨by decide, Nat.le_of_eq (Nat.zero_add _), Nat.le_of_eq (Nat.zero_add _)⟩ (Nat.le_of_ble_eq_true rfl) rfl (fun r h9 hq => ?_)
  obtain ⟨rfl, rfl⟩ := hq
  show jb_J _ RX11 cX11_isNoSheet 2 (Option.some .boolean) false 1 0 0 6 [some (.ref 0), some (.int (nI j))] [.int 0] h _
  refine jb_iret dX11_isNoSheet_6 rfl ?_
  exact ⟨rfl, rfl⟩
set_option maxRecDepth 100000 in
set_option maxHeartbeats 4000000 in
theorem c_isNoVoice {sc : Nat × (Nat → Int32)} {s2 s3 s4 s5 s6 s7 s8 s9 s10 s11 : List va_E} {V : Nat → Nat → Nat} (imm : Int32) (Im rowm stkm tpm : Nat → Int32) (Tm : Nat → Value) (I : Nat → Int32) (W : Nat → Nat → Int32) (T : Nat → Value) (hr : jr_ V I W) (hk : jv_ok V) (x : Int32) : jb_C sc yX11_isNoVoice cX11_isNoVoice 2 (Option.some .boolean) 1 0 0 [.ref 0, .int x] [jb_main imm Im Tm rowm stkm tpm, jb_sch13 I W T, s2, s3, s4, s5, s6, s7, s8, s9, s10, s11] (fun r h9 => h9 = [jb_main imm Im Tm rowm stkm tpm, jb_sch13 I W T, s2, s3, s4, s5, s6, s7, s8, s9, s10, s11] ∧ ((jn_b x 0 (V 0 1) ∧ r = some (.int 0)) ∨ (¬ jn_b x 0 (V 0 1) ∧ r = some (.int 1)))) := by
  refine jb_CofJ (ini := false) (by decide +kernel) (fun h => by cases h) (Nat.le_of_ble_eq_true rfl) ?_
  show jb_J sc RX11 cX11_isNoVoice 2 (Option.some .boolean) false 1 0 0 0 [some (.ref 0), some (.int x)] [] [jb_main imm Im Tm rowm stkm tpm, jb_sch13 I W T, s2, s3, s4, s5, s6, s7, s8, s9, s10, s11] _
  obtain ⟨r0, r2, r3, r4, a0, a1, a2, rv, rs, rd⟩ := hr
  obtain ⟨k0, k1, k2, k3, k4, k5, k6, k7, kv, ks, kd⟩ := hk
  refine jb_iload_n (pc' := 1) dX11_isNoVoice_0 rfl rfl ?_
  refine jb_iconst (pc' := 2) 0 dX11_isNoVoice_1 (by decide) rfl ?_
  refine jb_aload_n (pc' := 3) dX11_isNoVoice_2 rfl rfl ?_
  refine gf_X11_42 (pc' := 6) (v := .ref 13) dX11_isNoVoice_3 rfl rfl rfl ?_
  refine gf_X11_85 (pc' := 9) (v := .int (I 2)) dX11_isNoVoice_6 rfl rfl rfl ?_
  refine jb_top (v := .int (I 2)) (w := .int (nI (V 0 1))) (jb_vI r2) ?_
  refine jb_iconst (pc' := 10) 1 dX11_isNoVoice_9 (by decide) rfl ?_
  refine jb_isub (pc' := 11) dX11_isNoVoice_10 rfl ?_
  refine jb_callS (pc' := 14) (As := [.int x, .int 0, .int ((nI (V 0 1)) - 1)]) (a2 := 0) (b2 := 0) wv_X11_74 dX11_isNoVoice_11 (c_isOutN x (V 0 1) (by omega)) rfl ⟨by decide, Nat.le_of_eq (Nat.zero_add _), Nat.le_of_eq (Nat.zero_add _)⟩ (Nat.le_of_ble_eq_true rfl) rfl (fun r h9 hq => ?_)
  rcases hq with ⟨rfl, ⟨o1, rfl⟩ | ⟨o1, rfl⟩⟩
  · show jb_J _ RX11 cX11_isNoVoice 2 (Option.some .boolean) false 1 0 0 14 [some (.ref 0), some (.int x)] [.int 1] [jb_main imm Im Tm rowm stkm tpm, jb_sch13 I W T, s2, s3, s4, s5, s6, s7, s8, s9, s10, s11] _
    refine jb_iret dX11_isNoVoice_14 rfl ?_
    first | exact ⟨rfl, Or.inl ⟨by assumption, rfl⟩⟩ | exact ⟨rfl, Or.inr ⟨by assumption, rfl⟩⟩
  · show jb_J _ RX11 cX11_isNoVoice 2 (Option.some .boolean) false 1 0 0 14 [some (.ref 0), some (.int x)] [.int 0] [jb_main imm Im Tm rowm stkm tpm, jb_sch13 I W T, s2, s3, s4, s5, s6, s7, s8, s9, s10, s11] _
    refine jb_iret dX11_isNoVoice_14 rfl ?_
    first | exact ⟨rfl, Or.inl ⟨by assumption, rfl⟩⟩ | exact ⟨rfl, Or.inr ⟨by assumption, rfl⟩⟩
set_option maxRecDepth 100000 in
set_option maxHeartbeats 4000000 in
theorem c_isNoVoiceG {sc : Nat × (Nat → Int32)} {s2 s3 s4 s5 s6 s7 s8 s9 s10 s11 : List va_E} {V : Nat → Nat → Nat} (imm : Int32) (Im rowm stkm tpm : Nat → Int32) (Tm : Nat → Value) (I : Nat → Int32) (W : Nat → Nat → Int32) (T : Nat → Value) (hr : jr_ V I W) (hk : jv_ok V) (j : Nat) (hj : j < (V 0 1)) : jb_C sc yX11_isNoVoice cX11_isNoVoice 2 (Option.some .boolean) 1 0 0 [.ref 0, .int (nI j)] [jb_main imm Im Tm rowm stkm tpm, jb_sch13 I W T, s2, s3, s4, s5, s6, s7, s8, s9, s10, s11] (fun r h9 => r = some (.int 0) ∧ h9 = [jb_main imm Im Tm rowm stkm tpm, jb_sch13 I W T, s2, s3, s4, s5, s6, s7, s8, s9, s10, s11]) := by
  refine jb_CofJ (ini := false) (by decide +kernel) (fun h => by cases h) (Nat.le_of_ble_eq_true rfl) ?_
  show jb_J sc RX11 cX11_isNoVoice 2 (Option.some .boolean) false 1 0 0 0 [some (.ref 0), some (.int (nI j))] [] [jb_main imm Im Tm rowm stkm tpm, jb_sch13 I W T, s2, s3, s4, s5, s6, s7, s8, s9, s10, s11] _
  obtain ⟨r0, r2, r3, r4, a0, a1, a2, rv, rs, rd⟩ := hr
  obtain ⟨k0, k1, k2, k3, k4, k5, k6, k7, kv, ks, kd⟩ := hk
  refine jb_iload_n (pc' := 1) dX11_isNoVoice_0 rfl rfl ?_
  refine jb_iconst (pc' := 2) 0 dX11_isNoVoice_1 (by decide) rfl ?_
  refine jb_aload_n (pc' := 3) dX11_isNoVoice_2 rfl rfl ?_
  refine gf_X11_42 (pc' := 6) (v := .ref 13) dX11_isNoVoice_3 rfl rfl rfl ?_
  refine gf_X11_85 (pc' := 9) (v := .int (I 2)) dX11_isNoVoice_6 rfl rfl rfl ?_
  refine jb_top (v := .int (I 2)) (w := .int (nI (V 0 1))) (jb_vI r2) ?_
  refine jb_iconst (pc' := 10) 1 dX11_isNoVoice_9 (by decide) rfl ?_
  refine jb_isub (pc' := 11) dX11_isNoVoice_10 rfl ?_
  refine jb_callS (pc' := 14) (As := [.int (nI j), .int 0, .int ((nI (V 0 1)) - 1)]) (a2 := 0) (b2 := 0) wv_X11_74 dX11_isNoVoice_11 (c_isOutNG j (V 0 1) (by omega) (by omega)) rfl ⟨by decide, Nat.le_of_eq (Nat.zero_add _), Nat.le_of_eq (Nat.zero_add _)⟩ (Nat.le_of_ble_eq_true rfl) rfl (fun r h9 hq => ?_)
  obtain ⟨rfl, rfl⟩ := hq
  show jb_J _ RX11 cX11_isNoVoice 2 (Option.some .boolean) false 1 0 0 14 [some (.ref 0), some (.int (nI j))] [.int 0] [jb_main imm Im Tm rowm stkm tpm, jb_sch13 I W T, s2, s3, s4, s5, s6, s7, s8, s9, s10, s11] _
  refine jb_iret dX11_isNoVoice_14 rfl ?_
  exact ⟨rfl, rfl⟩
