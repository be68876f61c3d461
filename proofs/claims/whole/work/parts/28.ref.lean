theorem jl_lt {x y : Int64} : lg_cmp x y < 0 ↔ x < y := by
  unfold lg_cmp
  rcases lg_tri x y with h | h | h
  · rw [if_neg (lg_lt_not h), if_neg (lg_lt_ne h)]; exact ⟨fun _ => h, fun _ => by decide⟩
  · subst h; rw [if_neg Int64.lt_irrefl, if_pos rfl]; exact ⟨fun z => absurd z (by decide), fun z => absurd z Int64.lt_irrefl⟩
  · rw [if_pos h]; exact ⟨fun z => absurd z (by decide), fun z => absurd h (lg_lt_not z)⟩
theorem jl_gt {x y : Int64} : 0 < lg_cmp x y ↔ y < x := by
  unfold lg_cmp
  rcases lg_tri x y with h | h | h
  · rw [if_neg (lg_lt_not h), if_neg (lg_lt_ne h)]; exact ⟨fun z => absurd z (by decide), fun z => absurd z (lg_lt_not h)⟩
  · subst h; rw [if_neg Int64.lt_irrefl, if_pos rfl]; exact ⟨fun z => absurd z (by decide), fun z => absurd z Int64.lt_irrefl⟩
  · rw [if_pos h]; exact ⟨fun _ => h, fun _ => by decide⟩
set_option maxRecDepth 100000 in
set_option maxHeartbeats 4000000 in
theorem c_in {sc : Nat × (Nat → Int32)} (h : jb_H) (x lo hi : Int64) : jb_C sc yX12_in cX12_in 6 (Option.some .boolean) 0 0 0 [.long x, .long lo, .long hi] h (fun r h9 => h9 = h ∧ ((¬ x < lo ∧ ¬ hi < x ∧ r = some (.int 1)) ∨ ((x < lo ∨ hi < x) ∧ r = some (.int 0)))) := by
  refine jb_CofJ (ini := false) (by decide +kernel) (fun h => by cases h) (Nat.le_of_ble_eq_true rfl) ?_
  show jb_J sc RX12 cX12_in 6 (Option.some .boolean) false 0 0 0 0 [some (.long x), none, some (.long lo), none, some (.long hi), none] [] h _
  refine jb_lload_n (pc' := 1) dX12_in_0 rfl rfl ?_
  refine jb_lload_n (pc' := 2) dX12_in_1 rfl rfl ?_
  refine jb_lcmp (pc' := 3) dX12_in_2 rfl ?_
  refine jb_if_lt (tgt := 17) (pc' := 6) dX12_in_3 (by decide) rfl (fun c1 => ?_) (fun c1 => ?_)
  · refine jb_iconst (pc' := 18) 0 dX12_in_17 (by decide) rfl ?_
    refine jb_iret dX12_in_18 rfl ?_
    first | exact ⟨rfl, Or.inl ⟨fun z => c1 (jl_lt.mpr z), fun z => c2 (jl_gt.mpr z), rfl⟩⟩ | exact ⟨rfl, Or.inr ⟨Or.inl (jl_lt.mp c1), rfl⟩⟩ | exact ⟨rfl, Or.inr ⟨Or.inr (jl_gt.mp c2), rfl⟩⟩
  · refine jb_lload_n (pc' := 7) dX12_in_6 rfl rfl ?_
    refine jb_lload (pc' := 9) dX12_in_7 rfl rfl ?_
    refine jb_lcmp (pc' := 10) dX12_in_9 rfl ?_
    refine jb_if_gt (tgt := 17) (pc' := 13) dX12_in_10 (by decide) rfl (fun c2 => ?_) (fun c2 => ?_)
    · refine jb_iconst (pc' := 18) 0 dX12_in_17 (by decide) rfl ?_
      refine jb_iret dX12_in_18 rfl ?_
      first | exact ⟨rfl, Or.inl ⟨fun z => c1 (jl_lt.mpr z), fun z => c2 (jl_gt.mpr z), rfl⟩⟩ | exact ⟨rfl, Or.inr ⟨Or.inl (jl_lt.mp c1), rfl⟩⟩ | exact ⟨rfl, Or.inr ⟨Or.inr (jl_gt.mp c2), rfl⟩⟩
    · refine jb_iconst (pc' := 14) 1 dX12_in_13 (by decide) rfl ?_
      refine jb_goto (pc' := 18) dX12_in_14 (by decide) ?_
      refine jb_iret dX12_in_18 rfl ?_
      first | exact ⟨rfl, Or.inl ⟨fun z => c1 (jl_lt.mpr z), fun z => c2 (jl_gt.mpr z), rfl⟩⟩ | exact ⟨rfl, Or.inr ⟨Or.inl (jl_lt.mp c1), rfl⟩⟩ | exact ⟨rfl, Or.inr ⟨Or.inr (jl_gt.mp c2), rfl⟩⟩
