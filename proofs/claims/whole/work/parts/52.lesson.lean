theorem jl_gd {l : List Nat} {t : Nat} : t ∈ l ↔ ∃ j, j < l.length ∧ l.getD j 0 = t := by
  constructor
  · intro h
    obtain ⟨j, hj, e⟩ := List.getElem_of_mem h
    exact ⟨j, hj, by rw [← e]; simp [List.getD, List.getElem?_eq_getElem hj]⟩
  · rintro ⟨j, hj, rfl⟩
    rw [show l.getD j 0 = l[j] by simp [List.getD, List.getElem?_eq_getElem hj]]
    exact List.getElem_mem hj
/-- a number put in its place -/
theorem jl_ins {l : List Nat} {p v : Nat} (hp : p ≤ l.length) : (l.take p ++ v :: l.drop p).length = l.length + 1 ∧ (∀ j, j < p → (l.take p ++ v :: l.drop p).getD j 0 = l.getD j 0) ∧ (l.take p ++ v :: l.drop p).getD p 0 = v ∧ (∀ j, p < j → (l.take p ++ v :: l.drop p).getD j 0 = l.getD (j - 1) 0) ∧ (l.take p ++ v :: l.drop p).Perm (v :: l) := by
  have ht : (l.take p).length = p := by rw [List.length_take]; omega
  refine ⟨?_, fun j hj => ?_, ?_, fun j hj => ?_, ?_⟩
  · rw [List.length_append, List.length_cons, List.length_drop, ht]; omega
  · simp only [List.getD, List.getElem?_append_left (show j < (l.take p).length by omega), List.getElem?_take, if_pos hj]
  · simp only [List.getD]
    rw [List.getElem?_append_right (by omega), ht, Nat.sub_self]
    rfl
  · simp only [List.getD]
    rw [List.getElem?_append_right (by omega), ht]
    obtain ⟨m, hm⟩ : ∃ m, j - p = m + 1 := ⟨j - p - 1, by omega⟩
    rw [hm, List.getElem?_cons_succ, List.getElem?_drop, show p + m = j - 1 by omega]
  · have := List.perm_middle (a := v) (l₁ := l.take p) (l₂ := l.drop p)
    rw [List.take_append_drop] at this
    exact this
theorem jl_ins_mx {l : List Nat} {p v : Nat} (hp : p ≤ l.length) (hm : ∀ t, t ∈ l → t ≤ l.getD 0 0) (h1 : ∀ j, p ≤ j → j < l.length → l.getD j 0 < v) (h2 : p = 0 ∨ v ≤ l.getD (p - 1) 0) : ∀ t, t ∈ l.take p ++ v :: l.drop p → t ≤ (l.take p ++ v :: l.drop p).getD 0 0 := by
  obtain ⟨g1, g2, g3, g4, g5⟩ := jl_ins (v := v) hp
  intro t ht
  have hv : t = v ∨ t ∈ l := List.mem_cons.mp (g5.mem_iff.mp ht)
  by_cases h0 : p = 0
  · subst h0
    rw [g3]
    rcases hv with e | e
    · omega
    · obtain ⟨j, hj, e2⟩ := jl_gd.mp e
      have := h1 j (by omega) hj
      omega
  · rw [g2 0 (by omega)]
    rcases hv with e | e
    · rcases h2 with h2 | h2
      · omega
      · have := hm (l.getD (p - 1) 0) (jl_gd.mpr ⟨p - 1, by omega, rfl⟩)
        omega
    · exact hm t e
theorem jl_ga_le {f : Nat → Int32} : ∀ (n i : Nat) (acc : List Nat), acc.length ≤ 5 → (jl_ga f n i acc).length ≤ 5
  | 0, i, acc, h => h
  | n + 1, i, acc, h => by
    unfold jl_ga
    split
    · split
      · exact jl_ga_le n (i + 1) _ (by rw [List.length_append]; show acc.length + 1 ≤ 5; omega)
      · exact jl_ga_le n (i + 1) _ h
    · exact h
theorem jl_upA {Wc : Nat → Nat → Int32} {A : Nat → Nat} {g q x : Nat} {th : Nat → Nat} (hA : ∀ j, j < q → Wc 1 j = nI (A j) ∧ Wc 2 j = nI (A j + g + th j) ∧ A j ≤ 200) {j : Nat} (hj : j < q + 1) (hx : x ≤ 200) :
    (va_up (va_up Wc 1 (upd (Wc 1) q (nI x))) 2 (upd (Wc 2) q (nI (x + (g + th q))))) 1 j = nI (jl_up A q x j) ∧ (va_up (va_up Wc 1 (upd (Wc 1) q (nI x))) 2 (upd (Wc 2) q (nI (x + (g + th q))))) 2 j = nI (jl_up A q x j + g + th j) ∧ jl_up A q x j ≤ 200 := by
  show upd (Wc 1) q (nI x) j = nI (if j = q then x else A j) ∧ upd (Wc 2) q (nI (x + (g + th q))) j = nI ((if j = q then x else A j) + g + th j) ∧ (if j = q then x else A j) ≤ 200
  by_cases e : j = q
  · subst e
    rw [if_pos rfl, jb_uee, jb_uee, Nat.add_assoc]
    exact ⟨rfl, rfl, hx⟩
  · rw [if_neg e, jb_une e, jb_une e]
    exact hA j (by omega)
set_option maxRecDepth 100000 in
set_option maxHeartbeats 4000000 in
theorem l_isFree_0 {sc : Nat × (Nat → Int32)} {s0 s1 s2 s3 s4 s6 s7 s8 s9 s10 s11 : List va_E} (Is nums Js : Nat → Int32) (Ws : Nat → Nat → Int32) (g : Nat) (th A : Nat → Nat) (q x y : Nat) (hg : g ≤ 60) (hq : q ≤ 5) (hx : x ≤ 200) (hy : y = x + g + th q) (hth : ∀ j, j < q → th j ≤ 20) (htq : th q ≤ 20) (hA : (∀ j, j < q → Ws 1 j = nI (A j) ∧ Ws 2 j = nI (A j + g + th j) ∧ A j ≤ 200)) : ∀ (n i : Nat), i + n = q → (∀ j, j < i → jl_c g (A j) (th j) x (th q)) → jb_J sc RX10 cX10_isFree 5 (Option.some .boolean) false 0 0 0 3 [some (.ref 74), some (.int (nI q)), some (.int (nI x)), some (.int (nI y)), some (.int (nI i))] [] [s0, s1, s2, s3, s4, jb_sht74 Is nums Js Ws, s6, s7, s8, s9, s10, s11] (fun r h9 => [s0, s1, s2, s3, s4, jb_sht74 Is nums Js Ws, s6, s7, s8, s9, s10, s11] = h9 ∧ ((jl_fr g th q A x ∧ r = some (.int 1)) ∨ (¬ jl_fr g th q A x ∧ r = some (.int 0)))) := by
  intro n
  induction n with
  | zero =>
    intro i hi hc
    show jb_J _ RX10 cX10_isFree 5 (Option.some .boolean) false 0 0 0 3 [some (.ref 74), some (.int (nI q)), some (.int (nI x)), some (.int (nI y)), some (.int (nI i))] [] [s0, s1, s2, s3, s4, jb_sht74 Is nums Js Ws, s6, s7, s8, s9, s10, s11] _
    refine jb_iload (pc' := 5) dX10_isFree_3 rfl rfl ?_
    refine jb_iload_n (pc' := 6) dX10_isFree_5 rfl rfl ?_
    refine jb_icmp_ge (tgt := 61) (pc' := 9) dX10_isFree_6 (by decide) rfl (fun _ => ?_) (fun z => absurd (nI_le (a := q) (b := i) (by omega) (by omega)) z)
    refine jb_iconst (pc' := 62) 1 dX10_isFree_61 (by decide) rfl ?_
    refine jb_iret dX10_isFree_62 rfl ?_
    exact ⟨rfl, Or.inl ⟨fun j hj => hc j (by omega), rfl⟩⟩
  | succ n ih =>
    intro i hi hc
    have a1 := hA i (by omega)
    have a2 := hth i (by omega)
    show jb_J _ RX10 cX10_isFree 5 (Option.some .boolean) false 0 0 0 3 [some (.ref 74), some (.int (nI q)), some (.int (nI x)), some (.int (nI y)), some (.int (nI i))] [] [s0, s1, s2, s3, s4, jb_sht74 Is nums Js Ws, s6, s7, s8, s9, s10, s11] _
    refine jb_iload (pc' := 5) dX10_isFree_3 rfl rfl ?_
    refine jb_iload_n (pc' := 6) dX10_isFree_5 rfl rfl ?_
    refine jb_icmp_ge (tgt := 61) (pc' := 9) dX10_isFree_6 (by decide) rfl (fun z => absurd z (nI_ge (a := i) (b := q) (by omega) (by omega))) (fun _ => ?_)
    refine jb_aload_n (pc' := 10) dX10_isFree_9 rfl rfl ?_
    refine gf_X10_28 (pc' := 13) (v := .ref 77) dX10_isFree_10 rfl rfl rfl ?_
    refine jb_iload (pc' := 15) dX10_isFree_13 rfl rfl ?_
    refine jb_iaload (pc' := 16) (i9 := i) (f := (Ws 1)) dX10_isFree_15 rfl (jb_ix_nI (by omega)) (by omega) rfl ?_
    refine jb_top (v := .int ((Ws 1) i)) (w := .int (nI (A i))) (jb_vI (hA i (by omega)).1) ?_
    refine jb_iload_n (pc' := 17) dX10_isFree_16 rfl rfl ?_
    refine jb_icmp_eq (tgt := 53) (pc' := 20) dX10_isFree_17 (by decide) rfl (fun c2 => ?_) (fun c2 => ?_)
    · have c2 : (A i) = x := (nI_eq (a := (A i)) (b := x) (by omega) (by omega)).mp c2
      refine jb_iconst (pc' := 54) 0 dX10_isFree_53 (by decide) rfl ?_
      refine jb_iret dX10_isFree_54 rfl ?_
      exact ⟨rfl, Or.inr ⟨fun z => (by have z1 := z i (by omega); unfold jl_c at z1; omega), rfl⟩⟩
    · have c2 : ¬ (A i) = x := fun z9 => c2 ((nI_eq (a := (A i)) (b := x) (by omega) (by omega)).mpr z9)
      refine jb_aload_n (pc' := 21) dX10_isFree_20 rfl rfl ?_
      refine gf_X10_28 (pc' := 24) (v := .ref 77) dX10_isFree_21 rfl rfl rfl ?_
      refine jb_iload (pc' := 26) dX10_isFree_24 rfl rfl ?_
      refine jb_iaload (pc' := 27) (i9 := i) (f := (Ws 1)) dX10_isFree_26 rfl (jb_ix_nI (by omega)) (by omega) rfl ?_
      refine jb_top (v := .int ((Ws 1) i)) (w := .int (nI (A i))) (jb_vI (hA i (by omega)).1) ?_
      refine jb_iload_n (pc' := 28) dX10_isFree_27 rfl rfl ?_
      refine jb_icmp_eq (tgt := 53) (pc' := 31) dX10_isFree_28 (by decide) rfl (fun c3 => ?_) (fun c3 => ?_)
      · have c3 : (A i) = y := (nI_eq (a := (A i)) (b := y) (by omega) (by omega)).mp c3
        refine jb_iconst (pc' := 54) 0 dX10_isFree_53 (by decide) rfl ?_
        refine jb_iret dX10_isFree_54 rfl ?_
        exact ⟨rfl, Or.inr ⟨fun z => (by have z1 := z i (by omega); unfold jl_c at z1; omega), rfl⟩⟩
      · have c3 : ¬ (A i) = y := fun z9 => c3 ((nI_eq (a := (A i)) (b := y) (by omega) (by omega)).mpr z9)
        refine jb_aload_n (pc' := 32) dX10_isFree_31 rfl rfl ?_
        refine gf_X10_31 (pc' := 35) (v := .ref 78) dX10_isFree_32 rfl rfl rfl ?_
        refine jb_iload (pc' := 37) dX10_isFree_35 rfl rfl ?_
        refine jb_iaload (pc' := 38) (i9 := i) (f := (Ws 2)) dX10_isFree_37 rfl (jb_ix_nI (by omega)) (by omega) rfl ?_
        refine jb_top (v := .int ((Ws 2) i)) (w := .int (nI (A i + g + th i))) (jb_vI (hA i (by omega)).2.1) ?_
        refine jb_iload_n (pc' := 39) dX10_isFree_38 rfl rfl ?_
        refine jb_icmp_eq (tgt := 53) (pc' := 42) dX10_isFree_39 (by decide) rfl (fun c4 => ?_) (fun c4 => ?_)
        · have c4 : (A i + g + th i) = x := (nI_eq (a := (A i + g + th i)) (b := x) (by omega) (by omega)).mp c4
          refine jb_iconst (pc' := 54) 0 dX10_isFree_53 (by decide) rfl ?_
          refine jb_iret dX10_isFree_54 rfl ?_
          exact ⟨rfl, Or.inr ⟨fun z => (by have z1 := z i (by omega); unfold jl_c at z1; omega), rfl⟩⟩
        · have c4 : ¬ (A i + g + th i) = x := fun z9 => c4 ((nI_eq (a := (A i + g + th i)) (b := x) (by omega) (by omega)).mpr z9)
          refine jb_aload_n (pc' := 43) dX10_isFree_42 rfl rfl ?_
          refine gf_X10_31 (pc' := 46) (v := .ref 78) dX10_isFree_43 rfl rfl rfl ?_
          refine jb_iload (pc' := 48) dX10_isFree_46 rfl rfl ?_
          refine jb_iaload (pc' := 49) (i9 := i) (f := (Ws 2)) dX10_isFree_48 rfl (jb_ix_nI (by omega)) (by omega) rfl ?_
          refine jb_top (v := .int ((Ws 2) i)) (w := .int (nI (A i + g + th i))) (jb_vI (hA i (by omega)).2.1) ?_
          refine jb_iload_n (pc' := 50) dX10_isFree_49 rfl rfl ?_
          refine jb_icmp_ne (tgt := 55) (pc' := 53) dX10_isFree_50 (by decide) rfl (fun c5 => ?_) (fun c5 => ?_)
          · have c5 : ¬ (A i + g + th i) = y := fun z9 => c5 ((nI_eq (a := (A i + g + th i)) (b := y) (by omega) (by omega)).mpr z9)
            refine jb_iinc_ (pc' := 58) (nI (i + 1)) dX10_isFree_55 (by decide) rfl (jb_inc i 1) (jb_at4 rfl) rfl ?_
            refine jb_goto (pc' := 3) dX10_isFree_58 (by decide) ?_
            exact ih (i + 1) (by omega) (fun j hj => by
              by_cases e : j = i
              · rw [e]; unfold jl_c; omega
              · exact hc j (by omega))
          · have c5 : (A i + g + th i) = y := (nI_eq (a := (A i + g + th i)) (b := y) (by omega) (by omega)).mp c5
            refine jb_iconst (pc' := 54) 0 dX10_isFree_53 (by decide) rfl ?_
            refine jb_iret dX10_isFree_54 rfl ?_
            exact ⟨rfl, Or.inr ⟨fun z => (by have z1 := z i (by omega); unfold jl_c at z1; omega), rfl⟩⟩
set_option maxRecDepth 100000 in
set_option maxHeartbeats 4000000 in
theorem c_isFree_0 {sc : Nat × (Nat → Int32)} {s0 s1 s2 s3 s4 s6 s7 s8 s9 s10 s11 : List va_E} (Is nums Js : Nat → Int32) (Ws : Nat → Nat → Int32) (g : Nat) (th A : Nat → Nat) (q x y : Nat) (hg : g ≤ 60) (hq : q ≤ 5) (hx : x ≤ 200) (hy : y = x + g + th q) (hth : ∀ j, j < q → th j ≤ 20) (htq : th q ≤ 20) (hA : (∀ j, j < q → Ws 1 j = nI (A j) ∧ Ws 2 j = nI (A j + g + th j) ∧ A j ≤ 200)) : jb_C sc yX10_isFree cX10_isFree 5 (Option.some .boolean) 0 0 0 [.ref 74, .int (nI q), .int (nI x), .int (nI y)] [s0, s1, s2, s3, s4, jb_sht74 Is nums Js Ws, s6, s7, s8, s9, s10, s11] (fun r h9 => [s0, s1, s2, s3, s4, jb_sht74 Is nums Js Ws, s6, s7, s8, s9, s10, s11] = h9 ∧ ((jl_fr g th q A x ∧ r = some (.int 1)) ∨ (¬ jl_fr g th q A x ∧ r = some (.int 0)))) := by
  refine jb_CofJ (ini := false) (by decide +kernel) (fun h => by cases h) (Nat.le_of_ble_eq_true rfl) ?_
  show jb_J sc RX10 cX10_isFree 5 (Option.some .boolean) false 0 0 0 0 [some (.ref 74), some (.int (nI q)), some (.int (nI x)), some (.int (nI y)), none] [] [s0, s1, s2, s3, s4, jb_sht74 Is nums Js Ws, s6, s7, s8, s9, s10, s11] _
  refine jb_iconst (pc' := 1) 0 dX10_isFree_0 (by decide) rfl ?_
  refine jb_istore_ (pc' := 3) dX10_isFree_1 (by decide) (jb_at4 rfl) rfl ?_
  exact l_isFree_0 Is nums Js Ws g th A q x y hg hq hx hy hth htq hA q 0 (by omega) (fun j hj => absurd hj (by omega))
set_option maxRecDepth 100000 in
set_option maxHeartbeats 4000000 in
theorem l_placed_0 {sc : Nat × (Nat → Int32)} {s0 s1 s2 s3 s4 s6 s7 s8 s9 s10 s11 : List va_E} (Is nums Js : Nat → Int32) (g gp last k : Nat) (th : Nat → Nat) (hgp : 2 * gp = g) (hg : g ≤ 60) (hl : last ≤ 200) (hk5 : k ≤ 5) (hth : ∀ j, j < k → th j ≤ 20) (hJ : Js 0 = nI k) (m q : Nat) (hqm : q + (m + 1) = k) (A : Nat → Nat) (Ws : Nat → Nat → Int32) (hT0 : (∀ j, j < k → Ws 0 j = nI (th j))) (hA0 : (∀ j, j < q → Ws 1 j = nI (A j) ∧ Ws 2 j = nI (A j + g + th j) ∧ A j ≤ 200)) (hI : (∀ (A : Nat → Nat) (Ws : Nat → Nat → Int32), (∀ j, j < k → Ws 0 j = nI (th j)) → (∀ j, j < (q + 1) → Ws 1 j = nI (A j) ∧ Ws 2 j = nI (A j + g + th j) ∧ A j ≤ 200) → jb_C sc yX10_isPlaced cX10_isPlaced 6 (Option.some .boolean) (m + 2) 0 0 [.ref 74, .int (nI (q + 1)), .int (nI last), .int (nI gp)] [s0, s1, s2, s3, s4, jb_sht74 Is nums Js Ws, s6, s7, s8, s9, s10, s11] (fun r h9 => ∃ W9, (∀ r, ¬ r = 1 → ¬ r = 2 → W9 r = Ws r) ∧ (∀ j, j < (q + 1) → W9 1 j = Ws 1 j ∧ W9 2 j = Ws 2 j) ∧ ((jl_X g last th k (q + 1) A ∧ r = some (.int 1)) ∨ (¬ jl_X g last th k (q + 1) A ∧ r = some (.int 0))) ∧ h9 = [s0, s1, s2, s3, s4, jb_sht74 Is nums Js W9, s6, s7, s8, s9, s10, s11]))) : ∀ (n x : Nat) (Wc : Nat → Nat → Int32), x + n = last + 1 → (∀ r, ¬ r = 1 → ¬ r = 2 → Wc r = Ws r) ∧ (∀ j, j < q → Wc 1 j = Ws 1 j ∧ Wc 2 j = Ws 2 j) → (∀ x9, x9 < x → ¬ (x9 + g + th q ≤ last ∧ jl_fr g th q A x9 ∧ jl_X g last th k (q + 1) (jl_up A q x9))) → jb_J sc RX10 cX10_isPlaced 6 (Option.some .boolean) false (m + 3) 0 0 30 [some (.ref 74), some (.int (nI q)), some (.int (nI last)), some (.int (nI gp)), some (.int (nI (g + th q))), some (.int (nI x))] [] [s0, s1, s2, s3, s4, jb_sht74 Is nums Js Wc, s6, s7, s8, s9, s10, s11] (fun r h9 => ∃ W9, (∀ r, ¬ r = 1 → ¬ r = 2 → W9 r = Ws r) ∧ (∀ j, j < q → W9 1 j = Ws 1 j ∧ W9 2 j = Ws 2 j) ∧ ((jl_X g last th k q A ∧ r = some (.int 1)) ∨ (¬ jl_X g last th k q A ∧ r = some (.int 0))) ∧ h9 = [s0, s1, s2, s3, s4, jb_sht74 Is nums Js W9, s6, s7, s8, s9, s10, s11]) := by
  have htq := hth q (by omega)
  intro n
  induction n with
  | zero =>
    intro x Wc hx ⟨hf, hp⟩ hno
    have hT : (∀ j, j < k → Wc 0 j = nI (th j)) := fun j hj => by rw [hf 0 (by decide) (by decide)]; exact hT0 j hj
    have hA : (∀ j, j < q → Wc 1 j = nI (A j) ∧ Wc 2 j = nI (A j + g + th j) ∧ A j ≤ 200) := fun j hj => ⟨(hp j hj).1.trans (hA0 j hj).1, (hp j hj).2.trans (hA0 j hj).2.1, (hA0 j hj).2.2⟩
    show jb_J _ RX10 cX10_isPlaced 6 (Option.some .boolean) false (m + 3) 0 0 30 [some (.ref 74), some (.int (nI q)), some (.int (nI last)), some (.int (nI gp)), some (.int (nI (g + th q))), some (.int (nI x))] [] [s0, s1, s2, s3, s4, jb_sht74 Is nums Js Wc, s6, s7, s8, s9, s10, s11] _
    refine jb_iload (pc' := 32) dX10_isPlaced_30 rfl rfl ?_
    refine jb_iload_n (pc' := 33) dX10_isPlaced_32 rfl rfl ?_
    refine jb_iload (pc' := 35) dX10_isPlaced_33 rfl rfl ?_
    refine jb_isub (pc' := 36) dX10_isPlaced_35 rfl ?_
    refine jb_icmp_gt (tgt := 96) (pc' := 39) dX10_isPlaced_36 (by decide) rfl (fun _ => ?_) (fun z => absurd ((jl_sub (last := last) (needs := g + th q) (x := x) (by omega) (by omega) (by omega)).mpr (by omega)) z)
    refine jb_iconst (pc' := 97) 0 dX10_isPlaced_96 (by decide) rfl ?_
    refine jb_iret dX10_isPlaced_97 rfl ?_
    exact ⟨Wc, hf, hp, Or.inr ⟨fun z => (by obtain ⟨x9, z1, z2, z3⟩ := (jl_X.step (by omega)).mp z; exact hno x9 (by omega) ⟨z1, z2, z3⟩), rfl⟩, rfl⟩
  | succ n ih =>
    intro x Wc hx ⟨hf, hp⟩ hno
    have hT : (∀ j, j < k → Wc 0 j = nI (th j)) := fun j hj => by rw [hf 0 (by decide) (by decide)]; exact hT0 j hj
    have hA : (∀ j, j < q → Wc 1 j = nI (A j) ∧ Wc 2 j = nI (A j + g + th j) ∧ A j ≤ 200) := fun j hj => ⟨(hp j hj).1.trans (hA0 j hj).1, (hp j hj).2.trans (hA0 j hj).2.1, (hA0 j hj).2.2⟩
    show jb_J _ RX10 cX10_isPlaced 6 (Option.some .boolean) false (m + 3) 0 0 30 [some (.ref 74), some (.int (nI q)), some (.int (nI last)), some (.int (nI gp)), some (.int (nI (g + th q))), some (.int (nI x))] [] [s0, s1, s2, s3, s4, jb_sht74 Is nums Js Wc, s6, s7, s8, s9, s10, s11] _
    refine jb_iload (pc' := 32) dX10_isPlaced_30 rfl rfl ?_
    refine jb_iload_n (pc' := 33) dX10_isPlaced_32 rfl rfl ?_
    refine jb_iload (pc' := 35) dX10_isPlaced_33 rfl rfl ?_
    refine jb_isub (pc' := 36) dX10_isPlaced_35 rfl ?_
    refine jb_icmp_gt (tgt := 96) (pc' := 39) dX10_isPlaced_36 (by decide) rfl (fun hgt => ?_) (fun hgt => ?_)
    · have hgt2 : ¬ x + (g + th q) ≤ last := (jl_sub (last := last) (needs := g + th q) (x := x) (by omega) (by omega) (by omega)).mp hgt
      refine jb_iconst (pc' := 97) 0 dX10_isPlaced_96 (by decide) rfl ?_
      refine jb_iret dX10_isPlaced_97 rfl ?_
      exact ⟨Wc, hf, hp, Or.inr ⟨fun z => (by obtain ⟨x9, z1, z2, z3⟩ := (jl_X.step (by omega)).mp z; exact hno x9 (by omega) ⟨z1, z2, z3⟩), rfl⟩, rfl⟩
    · have hgt2 : x + (g + th q) ≤ last := Classical.byContradiction (fun z => hgt ((jl_sub (last := last) (needs := g + th q) (x := x) (by omega) (by omega) (by omega)).mpr z))
      refine jb_aload_n (pc' := 40) dX10_isPlaced_39 rfl rfl ?_
      refine jb_iload_n (pc' := 41) dX10_isPlaced_40 rfl rfl ?_
      refine jb_iload (pc' := 43) dX10_isPlaced_41 rfl rfl ?_
      refine jb_iload (pc' := 45) dX10_isPlaced_43 rfl rfl ?_
      refine jb_iload (pc' := 47) dX10_isPlaced_45 rfl rfl ?_
      refine jb_iadd (pc' := 48) dX10_isPlaced_47 rfl ?_
      refine jb_top (v := .int ((nI x) + (nI (g + th q)))) (w := .int (nI (x + (g + th q)))) (jb_vI (nI_add _ _)) ?_
      refine jb_callV (pc' := 51) (ci := 10) (q := 74) (As := [.int (nI q), .int (nI x), .int (nI (x + (g + th q)))]) (a2 := 0) (b2 := 0) wv_X10_59 rfl dX10_isPlaced_48 (c_isFree_0 Is nums Js Wc g th A q x (x + (g + th q)) hg (by omega) (by omega) (by omega) (fun j hj => hth j (by omega)) htq hA) rfl rfl ⟨by omega, Nat.le_of_eq (Nat.zero_add _), Nat.le_of_eq (Nat.zero_add _)⟩ (Nat.le_of_ble_eq_true rfl) rfl (fun r h9 hq => ?_)
      rcases hq with ⟨rfl, ⟨hfr, rfl⟩ | ⟨hfr, rfl⟩⟩
      · show jb_J _ RX10 cX10_isPlaced 6 (Option.some .boolean) false (m + 3) 0 0 51 [some (.ref 74), some (.int (nI q)), some (.int (nI last)), some (.int (nI gp)), some (.int (nI (g + th q))), some (.int (nI x))] [.int 1] [s0, s1, s2, s3, s4, jb_sht74 Is nums Js Wc, s6, s7, s8, s9, s10, s11] _
        refine jb_if_ne (tgt := 57) (pc' := 54) dX10_isPlaced_51 (by decide) rfl (fun _ => ?_) (fun z => absurd z (by decide))
        refine jb_aload_n (pc' := 58) dX10_isPlaced_57 rfl rfl ?_
        refine gf_X10_28 (pc' := 61) (v := .ref 77) dX10_isPlaced_58 rfl rfl rfl ?_
        refine jb_iload_n (pc' := 62) dX10_isPlaced_61 rfl rfl ?_
        refine jb_iload (pc' := 64) dX10_isPlaced_62 rfl rfl ?_
        refine jb_iastore (pc' := 65) (i9 := q) (f := (Wc 1)) (h' := [s0, s1, s2, s3, s4, jb_sht74 Is nums Js (va_up Wc 1 (upd (Wc 1) q (nI x))), s6, s7, s8, s9, s10, s11]) dX10_isPlaced_64 rfl (jb_ix_nI (by omega)) (by omega) rfl rfl ?_
        refine jb_aload_n (pc' := 66) dX10_isPlaced_65 rfl rfl ?_
        refine gf_X10_31 (pc' := 69) (v := .ref 78) dX10_isPlaced_66 rfl rfl rfl ?_
        refine jb_iload_n (pc' := 70) dX10_isPlaced_69 rfl rfl ?_
        refine jb_iload (pc' := 72) dX10_isPlaced_70 rfl rfl ?_
        refine jb_iload (pc' := 74) dX10_isPlaced_72 rfl rfl ?_
        refine jb_iadd (pc' := 75) dX10_isPlaced_74 rfl ?_
        refine jb_top (v := .int ((nI x) + (nI (g + th q)))) (w := .int (nI (x + (g + th q)))) (jb_vI (nI_add _ _)) ?_
        refine jb_iastore (pc' := 76) (i9 := q) (f := (Wc 2)) (h' := [s0, s1, s2, s3, s4, jb_sht74 Is nums Js (va_up (va_up Wc 1 (upd (Wc 1) q (nI x))) 2 (upd (Wc 2) q (nI (x + (g + th q))))), s6, s7, s8, s9, s10, s11]) dX10_isPlaced_75 rfl (jb_ix_nI (by omega)) (by omega) rfl rfl ?_
        refine jb_aload_n (pc' := 77) dX10_isPlaced_76 rfl rfl ?_
        refine jb_iload_n (pc' := 78) dX10_isPlaced_77 rfl rfl ?_
        refine jb_iconst (pc' := 79) 1 dX10_isPlaced_78 (by decide) rfl ?_
        refine jb_iadd (pc' := 80) dX10_isPlaced_79 rfl ?_
        refine jb_top (v := .int ((nI q) + 1)) (w := .int (nI (q + 1))) (jb_vI (nI_add _ 1)) ?_
        refine jb_iload_n (pc' := 81) dX10_isPlaced_80 rfl rfl ?_
        refine jb_iload_n (pc' := 82) dX10_isPlaced_81 rfl rfl ?_
        refine jb_callV (pc' := 85) (ci := 10) (q := 74) (As := [.int (nI (q + 1)), .int (nI last), .int (nI gp)]) (a2 := 0) (b2 := 0) wv_X10_52 rfl dX10_isPlaced_82 (hI (jl_up A q x) (va_up (va_up Wc 1 (upd (Wc 1) q (nI x))) 2 (upd (Wc 2) q (nI (x + (g + th q))))) (fun j hj => hT j hj) (fun j hj => jl_upA hA hj (by omega))) rfl rfl ⟨by omega, Nat.le_of_eq (Nat.zero_add _), Nat.le_of_eq (Nat.zero_add _)⟩ (Nat.le_of_ble_eq_true rfl) rfl (fun r h9 hq => ?_)
        rcases hq with ⟨W8, hf8, hp8, ⟨hX, rfl⟩ | ⟨hX, rfl⟩, rfl⟩
        · show jb_J _ RX10 cX10_isPlaced 6 (Option.some .boolean) false (m + 3) 0 0 85 [some (.ref 74), some (.int (nI q)), some (.int (nI last)), some (.int (nI gp)), some (.int (nI (g + th q))), some (.int (nI x))] [.int 1] [s0, s1, s2, s3, s4, jb_sht74 Is nums Js W8, s6, s7, s8, s9, s10, s11] _
          refine jb_if_eq (tgt := 90) (pc' := 88) dX10_isPlaced_85 (by decide) rfl (fun z => absurd z (by decide)) (fun _ => ?_)
          refine jb_iconst (pc' := 89) 1 dX10_isPlaced_88 (by decide) rfl ?_
          refine jb_iret dX10_isPlaced_89 rfl ?_
          exact ⟨W8, fun r h1 h2 => (hf8 r h1 h2).trans (((va_ne h2).trans (va_ne h1)).trans (hf r h1 h2)), fun j hj => ⟨((hp8 j (by omega)).1.trans (jb_une (by omega))).trans (hp j hj).1, ((hp8 j (by omega)).2.trans (jb_une (by omega))).trans (hp j hj).2⟩, Or.inl ⟨(jl_X.step (by omega)).mpr ⟨x, by omega, hfr, hX⟩, rfl⟩, rfl⟩
        · show jb_J _ RX10 cX10_isPlaced 6 (Option.some .boolean) false (m + 3) 0 0 85 [some (.ref 74), some (.int (nI q)), some (.int (nI last)), some (.int (nI gp)), some (.int (nI (g + th q))), some (.int (nI x))] [.int 0] [s0, s1, s2, s3, s4, jb_sht74 Is nums Js W8, s6, s7, s8, s9, s10, s11] _
          refine jb_if_eq (tgt := 90) (pc' := 88) dX10_isPlaced_85 (by decide) rfl (fun _ => ?_) (fun z => absurd (by decide) z)
          refine jb_iinc_ (pc' := 93) (nI (x + 1)) dX10_isPlaced_90 (by decide) rfl (jb_inc x 1) (jb_at5 rfl) rfl ?_
          refine jb_goto (pc' := 30) dX10_isPlaced_93 (by decide) ?_
          refine ih (x + 1) W8 (by omega) ⟨fun r h1 h2 => (hf8 r h1 h2).trans (((va_ne h2).trans (va_ne h1)).trans (hf r h1 h2)), fun j hj => ⟨((hp8 j (by omega)).1.trans (jb_une (by omega))).trans (hp j hj).1, ((hp8 j (by omega)).2.trans (jb_une (by omega))).trans (hp j hj).2⟩⟩ (fun x9 h9 z => ?_)
          by_cases e : x9 = x
          · subst e; exact hX z.2.2
          · exact hno x9 (by omega) z
      · show jb_J _ RX10 cX10_isPlaced 6 (Option.some .boolean) false (m + 3) 0 0 51 [some (.ref 74), some (.int (nI q)), some (.int (nI last)), some (.int (nI gp)), some (.int (nI (g + th q))), some (.int (nI x))] [.int 0] [s0, s1, s2, s3, s4, jb_sht74 Is nums Js Wc, s6, s7, s8, s9, s10, s11] _
        refine jb_if_ne (tgt := 57) (pc' := 54) dX10_isPlaced_51 (by decide) rfl (fun z => absurd (by decide) z) (fun _ => ?_)
        refine jb_goto (pc' := 90) dX10_isPlaced_54 (by decide) ?_
        refine jb_iinc_ (pc' := 93) (nI (x + 1)) dX10_isPlaced_90 (by decide) rfl (jb_inc x 1) (jb_at5 rfl) rfl ?_
        refine jb_goto (pc' := 30) dX10_isPlaced_93 (by decide) ?_
        refine ih (x + 1) Wc (by omega) ⟨hf, hp⟩ (fun x9 h9 z => ?_)
        by_cases e : x9 = x
        · subst e; exact hfr z.2.1
        · exact hno x9 (by omega) z
set_option maxRecDepth 100000 in
set_option maxHeartbeats 4000000 in
theorem c_placed_0 {sc : Nat × (Nat → Int32)} {s0 s1 s2 s3 s4 s6 s7 s8 s9 s10 s11 : List va_E} (Is nums Js : Nat → Int32) (g gp last k : Nat) (th : Nat → Nat) (hgp : 2 * gp = g) (hg : g ≤ 60) (hl : last ≤ 200) (hk5 : k ≤ 5) (hth : ∀ j, j < k → th j ≤ 20) (hJ : Js 0 = nI k) : ∀ (m q : Nat), q + m = k → ∀ (A : Nat → Nat) (Ws : Nat → Nat → Int32), (∀ j, j < k → Ws 0 j = nI (th j)) → (∀ j, j < q → Ws 1 j = nI (A j) ∧ Ws 2 j = nI (A j + g + th j) ∧ A j ≤ 200) → jb_C sc yX10_isPlaced cX10_isPlaced 6 (Option.some .boolean) (m + 2) 0 0 [.ref 74, .int (nI q), .int (nI last), .int (nI gp)] [s0, s1, s2, s3, s4, jb_sht74 Is nums Js Ws, s6, s7, s8, s9, s10, s11] (fun r h9 => ∃ W9, (∀ r, ¬ r = 1 → ¬ r = 2 → W9 r = Ws r) ∧ (∀ j, j < q → W9 1 j = Ws 1 j ∧ W9 2 j = Ws 2 j) ∧ ((jl_X g last th k q A ∧ r = some (.int 1)) ∨ (¬ jl_X g last th k q A ∧ r = some (.int 0))) ∧ h9 = [s0, s1, s2, s3, s4, jb_sht74 Is nums Js W9, s6, s7, s8, s9, s10, s11]) := by
  intro m
  induction m with
  | zero =>
    intro q hq A Ws hT hA
    refine jb_CofJ (ini := false) (by decide +kernel) (fun h => by cases h) (Nat.le_of_ble_eq_true rfl) ?_
    show jb_J _ RX10 cX10_isPlaced 6 (Option.some .boolean) false (0 + 2) 0 0 0 [some (.ref 74), some (.int (nI q)), some (.int (nI last)), some (.int (nI gp)), none, none] [] [s0, s1, s2, s3, s4, jb_sht74 Is nums Js Ws, s6, s7, s8, s9, s10, s11] _
    refine jb_iload_n (pc' := 1) dX10_isPlaced_0 rfl rfl ?_
    refine jb_aload_n (pc' := 2) dX10_isPlaced_1 rfl rfl ?_
    refine gf_X10_22 (pc' := 5) (v := .int (Js 0)) dX10_isPlaced_2 rfl rfl rfl ?_
    refine jb_top (v := .int (Js 0)) (w := .int (nI k)) (jb_vI hJ) ?_
    refine jb_icmp_ge (tgt := 13) (pc' := 8) dX10_isPlaced_5 (by decide) rfl (fun _ => ?_) (fun z => absurd (nI_le (a := k) (b := q) (by omega) (by omega)) z)
    refine jb_iconst (pc' := 14) 1 dX10_isPlaced_13 (by decide) rfl ?_
    refine jb_iret dX10_isPlaced_14 rfl ?_
    exact ⟨Ws, fun _ _ _ => rfl, fun _ _ => ⟨rfl, rfl⟩, Or.inl ⟨jl_X.end (by omega) A, rfl⟩, rfl⟩
  | succ m ih =>
    intro q hq A Ws hT hA
    refine jb_CofJ (ini := false) (by decide +kernel) (fun h => by cases h) (Nat.le_of_ble_eq_true rfl) ?_
    have htq := hth q (by omega)
    show jb_J _ RX10 cX10_isPlaced 6 (Option.some .boolean) false (m + 1 + 2) 0 0 0 [some (.ref 74), some (.int (nI q)), some (.int (nI last)), some (.int (nI gp)), none, none] [] [s0, s1, s2, s3, s4, jb_sht74 Is nums Js Ws, s6, s7, s8, s9, s10, s11] _
    refine jb_iload_n (pc' := 1) dX10_isPlaced_0 rfl rfl ?_
    refine jb_aload_n (pc' := 2) dX10_isPlaced_1 rfl rfl ?_
    refine gf_X10_22 (pc' := 5) (v := .int (Js 0)) dX10_isPlaced_2 rfl rfl rfl ?_
    refine jb_top (v := .int (Js 0)) (w := .int (nI k)) (jb_vI hJ) ?_
    refine jb_icmp_ge (tgt := 13) (pc' := 8) dX10_isPlaced_5 (by decide) rfl (fun z => absurd z (nI_ge (a := q) (b := k) (by omega) (by omega))) (fun _ => ?_)
    refine jb_iload_n (pc' := 9) dX10_isPlaced_8 rfl rfl ?_
    refine jb_iconst (pc' := 10) 5 dX10_isPlaced_9 (by decide) rfl ?_
    refine jb_icmp_lt (tgt := 15) (pc' := 13) dX10_isPlaced_10 (by decide) rfl (fun _ => ?_) (fun z => absurd (nI_lt (a := q) (b := 5) (by omega) (by omega)) z)
    refine jb_iconst (pc' := 16) 2 dX10_isPlaced_15 (by decide) rfl ?_
    refine jb_iload_n (pc' := 17) dX10_isPlaced_16 rfl rfl ?_
    refine jb_imul (pc' := 18) dX10_isPlaced_17 rfl ?_
    refine jb_top (v := .int (2 * (nI gp))) (w := .int (nI (2 * gp))) (jb_vI (pk_mul 2 _)) ?_
    refine jb_aload_n (pc' := 19) dX10_isPlaced_18 rfl rfl ?_
    refine gf_X10_25 (pc' := 22) (v := .ref 76) dX10_isPlaced_19 rfl rfl rfl ?_
    refine jb_iload_n (pc' := 23) dX10_isPlaced_22 rfl rfl ?_
    refine jb_iaload (pc' := 24) (i9 := q) (f := (Ws 0)) dX10_isPlaced_23 rfl (jb_ix_nI (by omega)) (by omega) rfl ?_
    refine jb_top (v := .int ((Ws 0) q)) (w := .int (nI (th q))) (jb_vI (hT q (by omega))) ?_
    refine jb_iadd (pc' := 25) dX10_isPlaced_24 rfl ?_
    refine jb_top (v := .int ((nI (2 * gp)) + (nI (th q)))) (w := .int (nI (g + th q))) (jb_vI (by rw [nI_add, hgp])) ?_
    refine jb_istore_ (pc' := 27) dX10_isPlaced_25 (by decide) (jb_at4 rfl) rfl ?_
    refine jb_iconst (pc' := 28) 0 dX10_isPlaced_27 (by decide) rfl ?_
    refine jb_istore_ (pc' := 30) dX10_isPlaced_28 (by decide) (jb_at5 rfl) rfl ?_
    exact l_placed_0 Is nums Js g gp last k th hgp hg hl hk5 hth hJ m q (by omega) A Ws hT hA (ih (q + 1) (by omega)) (last + 1) 0 Ws (by omega) ⟨fun _ _ _ => rfl, fun _ _ => ⟨rfl, rfl⟩⟩ (fun x9 h9 => absurd h9 (by omega))
set_option maxRecDepth 100000 in
set_option maxHeartbeats 4000000 in
theorem l_ins_0 {sc : Nat × (Nat → Int32)} {s0 s1 s2 s3 s4 s6 s7 s8 s9 s10 s11 : List va_E} (Is nums Js : Nat → Int32) (l : List Nat) (hl5 : l.length < 5) (v : Nat) (hv : v ≤ 20) (hl20 : ∀ t, t ∈ l → t ≤ 20) (i1 : Int32) (Q : Option Value → jb_H → Prop) : ∀ (p : Nat) (Wc : Nat → Nat → Int32), p ≤ l.length → (∀ j, j < p → Wc 0 j = nI (l.getD j 0)) → (∀ j, p < j → j ≤ l.length → Wc 0 j = nI (l.getD (j - 1) 0)) → (∀ j, p ≤ j → j < l.length → l.getD j 0 < v) → (∀ (p : Nat) (Wc : Nat → Nat → Int32), p ≤ l.length → (∀ j, j < p → Wc 0 j = nI (l.getD j 0)) → (∀ j, p < j → j ≤ l.length → Wc 0 j = nI (l.getD (j - 1) 0)) → (∀ j, p ≤ j → j < l.length → l.getD j 0 < v) → (p = 0 ∨ v ≤ l.getD (p - 1) 0) → jb_J sc RX10 cX10_gatherThinks 4 (Option.none : Option Jvm.ClassFile.FieldType) false 1 0 0 84 [some (.ref 74), some (.int i1), some (.int (nI v)), some (.int (nI p))] [] [s0, s1, s2, s3, s4, jb_sht74 Is nums Js Wc, s6, s7, s8, s9, s10, s11] Q) → jb_J sc RX10 cX10_gatherThinks 4 (Option.none : Option Jvm.ClassFile.FieldType) false 1 0 0 48 [some (.ref 74), some (.int i1), some (.int (nI v)), some (.int (nI p))] [] [s0, s1, s2, s3, s4, jb_sht74 Is nums Js Wc, s6, s7, s8, s9, s10, s11] Q := by
  intro p
  induction p with
  | zero =>
    intro Wc h1 h2 h3 h4 hQ
    show jb_J _ RX10 cX10_gatherThinks 4 (Option.none : Option Jvm.ClassFile.FieldType) false 1 0 0 48 [some (.ref 74), some (.int i1), some (.int (nI v)), some (.int (nI 0))] [] [s0, s1, s2, s3, s4, jb_sht74 Is nums Js Wc, s6, s7, s8, s9, s10, s11] _
    refine jb_iload_n (pc' := 49) dX10_gatherThinks_48 rfl rfl ?_
    refine jb_if_le (tgt := 84) (pc' := 52) dX10_gatherThinks_49 (by decide) rfl (fun _ => ?_) (fun z => absurd (by decide) z)
    exact hQ 0 Wc h1 h2 h3 h4 (Or.inl rfl)
  | succ p ih =>
    intro Wc h1 h2 h3 h4 hQ
    have b20 := hl20 (l.getD p 0) (jl_gd.mpr ⟨p, by omega, rfl⟩)
    show jb_J _ RX10 cX10_gatherThinks 4 (Option.none : Option Jvm.ClassFile.FieldType) false 1 0 0 48 [some (.ref 74), some (.int i1), some (.int (nI v)), some (.int (nI (p + 1)))] [] [s0, s1, s2, s3, s4, jb_sht74 Is nums Js Wc, s6, s7, s8, s9, s10, s11] _
    refine jb_iload_n (pc' := 49) dX10_gatherThinks_48 rfl rfl ?_
    refine jb_if_le (tgt := 84) (pc' := 52) dX10_gatherThinks_49 (by decide) rfl (fun z => absurd z (nI_nle (n := p + 1) (by omega) (by omega))) (fun _ => ?_)
    refine jb_aload_n (pc' := 53) dX10_gatherThinks_52 rfl rfl ?_
    refine gf_X10_25 (pc' := 56) (v := .ref 76) dX10_gatherThinks_53 rfl rfl rfl ?_
    refine jb_iload_n (pc' := 57) dX10_gatherThinks_56 rfl rfl ?_
    refine jb_iconst (pc' := 58) 1 dX10_gatherThinks_57 (by decide) rfl ?_
    refine jb_isub (pc' := 59) dX10_gatherThinks_58 rfl ?_
    refine jb_top (v := .int ((nI (p + 1)) - 1)) (w := .int (nI p)) (jb_vI (nI_pred _)) ?_
    refine jb_iaload (pc' := 60) (i9 := p) (f := (Wc 0)) dX10_gatherThinks_59 rfl (jb_ix_nI (by omega)) (by omega) rfl ?_
    refine jb_top (v := .int ((Wc 0) p)) (w := .int (nI (l.getD p 0))) (jb_vI (h2 p (by omega))) ?_
    refine jb_iload_n (pc' := 61) dX10_gatherThinks_60 rfl rfl ?_
    refine jb_icmp_ge (tgt := 84) (pc' := 64) dX10_gatherThinks_61 (by decide) rfl (fun c2 => ?_) (fun c2 => ?_)
    · have c2 : v ≤ (l.getD p 0) := (nI_leI (a := v) (b := (l.getD p 0)) (by omega) (by omega)).mp c2
      exact hQ (p + 1) Wc h1 h2 h3 h4 (Or.inr (by rw [Nat.add_sub_cancel]; omega))
    · have c2 : ¬ v ≤ (l.getD p 0) := fun z9 => c2 ((nI_leI (a := v) (b := (l.getD p 0)) (by omega) (by omega)).mpr z9)
      refine jb_aload_n (pc' := 65) dX10_gatherThinks_64 rfl rfl ?_
      refine gf_X10_25 (pc' := 68) (v := .ref 76) dX10_gatherThinks_65 rfl rfl rfl ?_
      refine jb_iload_n (pc' := 69) dX10_gatherThinks_68 rfl rfl ?_
      refine jb_aload_n (pc' := 70) dX10_gatherThinks_69 rfl rfl ?_
      refine gf_X10_25 (pc' := 73) (v := .ref 76) dX10_gatherThinks_70 rfl rfl rfl ?_
      refine jb_iload_n (pc' := 74) dX10_gatherThinks_73 rfl rfl ?_
      refine jb_iconst (pc' := 75) 1 dX10_gatherThinks_74 (by decide) rfl ?_
      refine jb_isub (pc' := 76) dX10_gatherThinks_75 rfl ?_
      refine jb_top (v := .int ((nI (p + 1)) - 1)) (w := .int (nI p)) (jb_vI (nI_pred _)) ?_
      refine jb_iaload (pc' := 77) (i9 := p) (f := (Wc 0)) dX10_gatherThinks_76 rfl (jb_ix_nI (by omega)) (by omega) rfl ?_
      refine jb_top (v := .int ((Wc 0) p)) (w := .int (nI (l.getD p 0))) (jb_vI (h2 p (by omega))) ?_
      refine jb_iastore (pc' := 78) (i9 := (p + 1)) (f := (Wc 0)) (h' := [s0, s1, s2, s3, s4, jb_sht74 Is nums Js (va_up Wc 0 (upd (Wc 0) (p + 1) (nI (l.getD p 0)))), s6, s7, s8, s9, s10, s11]) dX10_gatherThinks_77 rfl (jb_ix_nI (by omega)) (by omega) rfl rfl ?_
      refine jb_iinc_ (pc' := 81) (nI p) dX10_gatherThinks_78 (by decide) rfl (pk_m1 p) (jb_at3 rfl) rfl ?_
      refine jb_goto (pc' := 48) dX10_gatherThinks_81 (by decide) ?_
      refine ih (va_up Wc 0 (upd (Wc 0) (p + 1) (nI (l.getD p 0)))) (by omega) (fun j hj => ?_) (fun j h5 h6 => ?_) (fun j h5 h6 => ?_) hQ
      · show upd (Wc 0) (p + 1) (nI (l.getD p 0)) j = _
        rw [jb_une (by omega)]; exact h2 j (by omega)
      · show upd (Wc 0) (p + 1) (nI (l.getD p 0)) j = _
        by_cases e : j = p + 1
        · rw [e]; exact jb_uee
        · rw [jb_une e]; exact h3 j (by omega) h6
      · by_cases e : j = p
        · rw [e]; omega
        · exact h4 j (by omega) h6
set_option maxRecDepth 100000 in
set_option maxHeartbeats 4000000 in
theorem l_gatherT_0 {sc : Nat × (Nat → Int32)} {s0 s1 s2 s3 s4 s6 s7 s8 s9 s10 s11 : List va_E} (Is nums : Nat → Int32) (zs : Nat) (h1s : Is 1 = nI zs) (hzs : zs ≤ 40) : ∀ (n i : Nat) (acc l : List Nat) (Js : Nat → Int32) (Ws : Nat → Nat → Int32) (x2 x3 : Option Value), i + n = zs → l.Perm acc ∧ Js 0 = nI l.length ∧ l.length ≤ 5 ∧ (∀ j, j < l.length → Ws 0 j = nI (l.getD j 0)) ∧ (∀ t, t ∈ l → t ≤ 20) ∧ (∀ t, t ∈ l → t ≤ l.getD 0 0) → jb_J sc RX10 cX10_gatherThinks 4 (Option.none : Option Jvm.ClassFile.FieldType) false 1 0 0 7 [some (.ref 74), some (.int (nI i)), x2, x3] [] [s0, s1, s2, s3, s4, jb_sht74 Is nums Js Ws, s6, s7, s8, s9, s10, s11] (fun r h9 => r = none ∧ ∃ (J9 : Nat → Int32) (W9 : Nat → Nat → Int32) (l9 : List Nat), (l9.Perm (jl_ga nums n i acc) ∧ J9 0 = nI l9.length ∧ l9.length ≤ 5 ∧ (∀ j, j < l9.length → W9 0 j = nI (l9.getD j 0)) ∧ (∀ t, t ∈ l9 → t ≤ 20) ∧ (∀ t, t ∈ l9 → t ≤ l9.getD 0 0)) ∧ h9 = [s0, s1, s2, s3, s4, jb_sht74 Is nums J9 W9, s6, s7, s8, s9, s10, s11]) := by
  intro n
  induction n with
  | zero =>
    intro i acc l Js Ws x2 x3 hi ⟨p1, hJ, p2, p3, p4, p5⟩
    show jb_J _ RX10 cX10_gatherThinks 4 (Option.none : Option Jvm.ClassFile.FieldType) false 1 0 0 7 [some (.ref 74), some (.int (nI i)), x2, x3] [] [s0, s1, s2, s3, s4, jb_sht74 Is nums Js Ws, s6, s7, s8, s9, s10, s11] _
    refine jb_iload_n (pc' := 8) dX10_gatherThinks_7 rfl rfl ?_
    refine jb_aload_n (pc' := 9) dX10_gatherThinks_8 rfl rfl ?_
    refine gf_X10_15 (pc' := 12) (v := .int (Is 1)) dX10_gatherThinks_9 rfl rfl rfl ?_
    refine jb_top (v := .int (Is 1)) (w := .int (nI zs)) (jb_vI h1s) ?_
    refine jb_icmp_ge (tgt := 107) (pc' := 15) dX10_gatherThinks_12 (by decide) rfl (fun _ => ?_) (fun z => absurd (nI_le (a := zs) (b := i) (by omega) (by omega)) z)
    refine jb_vret dX10_gatherThinks_107 ?_
    exact ⟨rfl, Js, Ws, l, ⟨p1, hJ, p2, p3, p4, p5⟩, rfl⟩
  | succ n ih =>
    intro i acc l Js Ws x2 x3 hi ⟨p1, hJ, p2, p3, p4, p5⟩
    have plen := p1.length_eq
    by_cases h5 : l.length < 5
    · by_cases hv : 0 ≤ nums i ∧ nums i ≤ 20
      · obtain ⟨v, hv1, hv2, ev⟩ := jl_20.mpr hv
        have e9 : jl_ga nums (n + 1) i acc = jl_ga nums n (i + 1) (acc ++ [v]) := by
          rw [show jl_ga nums (n + 1) i acc = (if acc.length < 5 then (if 0 ≤ nums i ∧ nums i ≤ 20 then jl_ga nums n (i + 1) (acc ++ [(nums i).toNatClampNeg]) else jl_ga nums n (i + 1) acc) else acc) from rfl, if_pos (by omega), if_pos hv, ev, nI_clamp (by omega)]
        rw [e9]
        show jb_J _ RX10 cX10_gatherThinks 4 (Option.none : Option Jvm.ClassFile.FieldType) false 1 0 0 7 [some (.ref 74), some (.int (nI i)), x2, x3] [] [s0, s1, s2, s3, s4, jb_sht74 Is nums Js Ws, s6, s7, s8, s9, s10, s11] _
        refine jb_iload_n (pc' := 8) dX10_gatherThinks_7 rfl rfl ?_
        refine jb_aload_n (pc' := 9) dX10_gatherThinks_8 rfl rfl ?_
        refine gf_X10_15 (pc' := 12) (v := .int (Is 1)) dX10_gatherThinks_9 rfl rfl rfl ?_
        refine jb_top (v := .int (Is 1)) (w := .int (nI zs)) (jb_vI h1s) ?_
        refine jb_icmp_ge (tgt := 107) (pc' := 15) dX10_gatherThinks_12 (by decide) rfl (fun z => absurd z (nI_ge (a := i) (b := zs) (by omega) (by omega))) (fun _ => ?_)
        refine jb_aload_n (pc' := 16) dX10_gatherThinks_15 rfl rfl ?_
        refine gf_X10_22 (pc' := 19) (v := .int (Js 0)) dX10_gatherThinks_16 rfl rfl rfl ?_
        refine jb_top (v := .int (Js 0)) (w := .int (nI l.length)) (jb_vI hJ) ?_
        refine jb_iconst (pc' := 20) 5 dX10_gatherThinks_19 (by decide) rfl ?_
        refine jb_icmp_ge (tgt := 107) (pc' := 23) dX10_gatherThinks_20 (by decide) rfl (fun z => absurd z (nI_ge (a := l.length) (b := 5) (by omega) (by omega))) (fun _ => ?_)
        refine jb_aload_n (pc' := 24) dX10_gatherThinks_23 rfl rfl ?_
        refine gf_X10_18 (pc' := 27) (v := .ref 75) dX10_gatherThinks_24 rfl rfl rfl ?_
        refine jb_iload_n (pc' := 28) dX10_gatherThinks_27 rfl rfl ?_
        refine jb_iaload (pc' := 29) (i9 := i) (f := nums) dX10_gatherThinks_28 rfl (jb_ix_nI (by omega)) (by omega) rfl ?_
        refine jb_top (v := .int (nums i)) (w := .int (nI v)) (jb_vI ev) ?_
        refine jb_istore_n_ (pc' := 30) dX10_gatherThinks_29 (by decide) (jb_at2 rfl) rfl ?_
        refine jb_iload_n (pc' := 31) dX10_gatherThinks_30 rfl rfl ?_
        refine jb_iconst (pc' := 32) 0 dX10_gatherThinks_31 (by decide) rfl ?_
        refine jb_bipush (pc' := 34) 20 dX10_gatherThinks_32 (by decide) rfl ?_
        refine jb_callSN (pc' := 37) (As := [.int (nI v), .int 0, .int 20]) (a2 := 0) (b2 := 0) wv_X10_56 dX10_gatherThinks_34 (c_isOutLG v 0 20 (by omega) (by omega) (by omega)) rfl ⟨by decide, Nat.le_of_eq (Nat.zero_add _), Nat.le_of_eq (Nat.zero_add _)⟩ (Nat.le_of_ble_eq_true rfl) rfl (fun r h9 hq => ?_)
        obtain ⟨rfl, rfl⟩ := hq
        show jb_J _ RX10 cX10_gatherThinks 4 (Option.none : Option Jvm.ClassFile.FieldType) false 1 0 0 37 [some (.ref 74), some (.int (nI i)), some (.int (nI v)), x3] [.int 0] [s0, s1, s2, s3, s4, jb_sht74 Is nums Js Ws, s6, s7, s8, s9, s10, s11] _
        refine jb_if_eq (tgt := 43) (pc' := 40) dX10_gatherThinks_37 (by decide) rfl (fun _ => ?_) (fun z => absurd (by decide) z)
        refine jb_aload_n (pc' := 44) dX10_gatherThinks_43 rfl rfl ?_
        refine gf_X10_22 (pc' := 47) (v := .int (Js 0)) dX10_gatherThinks_44 rfl rfl rfl ?_
        refine jb_top (v := .int (Js 0)) (w := .int (nI l.length)) (jb_vI hJ) ?_
        refine jb_istore_n_ (pc' := 48) dX10_gatherThinks_47 (by decide) (jb_at3 rfl) rfl ?_
        refine l_ins_0 Is nums Js l h5 v (by omega) p4 (nI i) _ l.length Ws (Nat.le_refl _) p3 (fun j h6 h7 => absurd h7 (by omega)) (fun j h6 h7 => absurd h7 (by omega)) (fun p Wc i1 i2 i3 i4 i5 => ?_)
        obtain ⟨g1, g2, g3, g4, g6⟩ := jl_ins (v := v) i1
        show jb_J _ RX10 cX10_gatherThinks 4 (Option.none : Option Jvm.ClassFile.FieldType) false 1 0 0 84 [some (.ref 74), some (.int (nI i)), some (.int (nI v)), some (.int (nI p))] [] [s0, s1, s2, s3, s4, jb_sht74 Is nums Js Wc, s6, s7, s8, s9, s10, s11] _
        refine jb_aload_n (pc' := 85) dX10_gatherThinks_84 rfl rfl ?_
        refine gf_X10_25 (pc' := 88) (v := .ref 76) dX10_gatherThinks_85 rfl rfl rfl ?_
        refine jb_iload_n (pc' := 89) dX10_gatherThinks_88 rfl rfl ?_
        refine jb_iload_n (pc' := 90) dX10_gatherThinks_89 rfl rfl ?_
        refine jb_iastore (pc' := 91) (i9 := p) (f := (Wc 0)) (h' := [s0, s1, s2, s3, s4, jb_sht74 Is nums Js (va_up Wc 0 (upd (Wc 0) p (nI v))), s6, s7, s8, s9, s10, s11]) dX10_gatherThinks_90 rfl (jb_ix_nI (by omega)) (by omega) rfl rfl ?_
        refine jb_aload_n (pc' := 92) dX10_gatherThinks_91 rfl rfl ?_
        refine jb_dup (pc' := 93) dX10_gatherThinks_92 rfl rfl ?_
        refine gf_X10_22 (pc' := 96) (v := .int (Js 0)) dX10_gatherThinks_93 rfl rfl rfl ?_
        refine jb_top (v := .int (Js 0)) (w := .int (nI l.length)) (jb_vI hJ) ?_
        refine jb_iconst (pc' := 97) 1 dX10_gatherThinks_96 (by decide) rfl ?_
        refine jb_iadd (pc' := 98) dX10_gatherThinks_97 rfl ?_
        refine jb_top (v := .int ((nI l.length) + 1)) (w := .int (nI (l.length + 1))) (jb_vI (nI_add _ 1)) ?_
        refine pf_X10_22 (pc' := 101) (h' := [s0, s1, s2, s3, s4, jb_sht74 Is nums (upd Js 0 (nI (l.length + 1))) (va_up Wc 0 (upd (Wc 0) p (nI v))), s6, s7, s8, s9, s10, s11]) dX10_gatherThinks_98 (fun _ => ⟨rfl, rfl⟩) rfl (Nat.le_of_ble_eq_true rfl) rfl rfl ?_
        refine jb_iinc_ (pc' := 104) (nI (i + 1)) dX10_gatherThinks_101 (by decide) rfl (jb_inc i 1) (jb_at1 rfl) rfl ?_
        refine jb_goto (pc' := 7) dX10_gatherThinks_104 (by decide) ?_
        refine ih (i + 1) (acc ++ [v]) (l.take p ++ v :: l.drop p) (upd Js 0 (nI (l.length + 1))) (va_up Wc 0 (upd (Wc 0) p (nI v))) _ _ (by omega) ⟨?_, ?_, by omega, fun j hj => ?_, fun t ht => ?_, jl_ins_mx i1 p5 i4 i5⟩
        · exact (g6.trans (p1.cons v)).trans (List.perm_append_comm (l₁ := [v]) (l₂ := acc))
        · rw [g1]; rfl
        · show upd (Wc 0) p (nI v) j = _
          rcases Nat.lt_trichotomy j p with q | q | q
          · rw [jb_une (by omega), g2 j q]; exact i2 j q
          · rw [q, g3]; exact jb_uee
          · rw [jb_une (by omega), g4 j q]; exact i3 j q (by omega)
        · rcases List.mem_cons.mp (g6.mem_iff.mp ht) with e | e
          · omega
          · exact p4 t e
      · have e9 : jl_ga nums (n + 1) i acc = jl_ga nums n (i + 1) acc := by
          rw [show jl_ga nums (n + 1) i acc = (if acc.length < 5 then (if 0 ≤ nums i ∧ nums i ≤ 20 then jl_ga nums n (i + 1) (acc ++ [(nums i).toNatClampNeg]) else jl_ga nums n (i + 1) acc) else acc) from rfl, if_pos (by omega), if_neg hv]
        rw [e9]
        show jb_J _ RX10 cX10_gatherThinks 4 (Option.none : Option Jvm.ClassFile.FieldType) false 1 0 0 7 [some (.ref 74), some (.int (nI i)), x2, x3] [] [s0, s1, s2, s3, s4, jb_sht74 Is nums Js Ws, s6, s7, s8, s9, s10, s11] _
        refine jb_iload_n (pc' := 8) dX10_gatherThinks_7 rfl rfl ?_
        refine jb_aload_n (pc' := 9) dX10_gatherThinks_8 rfl rfl ?_
        refine gf_X10_15 (pc' := 12) (v := .int (Is 1)) dX10_gatherThinks_9 rfl rfl rfl ?_
        refine jb_top (v := .int (Is 1)) (w := .int (nI zs)) (jb_vI h1s) ?_
        refine jb_icmp_ge (tgt := 107) (pc' := 15) dX10_gatherThinks_12 (by decide) rfl (fun z => absurd z (nI_ge (a := i) (b := zs) (by omega) (by omega))) (fun _ => ?_)
        refine jb_aload_n (pc' := 16) dX10_gatherThinks_15 rfl rfl ?_
        refine gf_X10_22 (pc' := 19) (v := .int (Js 0)) dX10_gatherThinks_16 rfl rfl rfl ?_
        refine jb_top (v := .int (Js 0)) (w := .int (nI l.length)) (jb_vI hJ) ?_
        refine jb_iconst (pc' := 20) 5 dX10_gatherThinks_19 (by decide) rfl ?_
        refine jb_icmp_ge (tgt := 107) (pc' := 23) dX10_gatherThinks_20 (by decide) rfl (fun z => absurd z (nI_ge (a := l.length) (b := 5) (by omega) (by omega))) (fun _ => ?_)
        refine jb_aload_n (pc' := 24) dX10_gatherThinks_23 rfl rfl ?_
        refine gf_X10_18 (pc' := 27) (v := .ref 75) dX10_gatherThinks_24 rfl rfl rfl ?_
        refine jb_iload_n (pc' := 28) dX10_gatherThinks_27 rfl rfl ?_
        refine jb_iaload (pc' := 29) (i9 := i) (f := nums) dX10_gatherThinks_28 rfl (jb_ix_nI (by omega)) (by omega) rfl ?_
        refine jb_istore_n_ (pc' := 30) dX10_gatherThinks_29 (by decide) (jb_at2 rfl) rfl ?_
        refine jb_iload_n (pc' := 31) dX10_gatherThinks_30 rfl rfl ?_
        refine jb_iconst (pc' := 32) 0 dX10_gatherThinks_31 (by decide) rfl ?_
        refine jb_bipush (pc' := 34) 20 dX10_gatherThinks_32 (by decide) rfl ?_
        refine jb_callSN (pc' := 37) (As := [.int (nums i), .int 0, .int 20]) (a2 := 0) (b2 := 0) wv_X10_56 dX10_gatherThinks_34 (c_isOutL (nums i) 0 20 (by omega) (by omega)) rfl ⟨by decide, Nat.le_of_eq (Nat.zero_add _), Nat.le_of_eq (Nat.zero_add _)⟩ (Nat.le_of_ble_eq_true rfl) rfl (fun r h9 hq => ?_)
        rcases hq with ⟨rfl, ⟨o3, rfl⟩ | ⟨o3, rfl⟩⟩
        · show jb_J _ RX10 cX10_gatherThinks 4 (Option.none : Option Jvm.ClassFile.FieldType) false 1 0 0 37 [some (.ref 74), some (.int (nI i)), some (.int (nums i)), x3] [.int 1] [s0, s1, s2, s3, s4, jb_sht74 Is nums Js Ws, s6, s7, s8, s9, s10, s11] _
          refine jb_if_eq (tgt := 43) (pc' := 40) dX10_gatherThinks_37 (by decide) rfl (fun z => absurd z (by decide)) (fun _ => ?_)
          refine jb_goto (pc' := 101) dX10_gatherThinks_40 (by decide) ?_
          refine jb_iinc_ (pc' := 104) (nI (i + 1)) dX10_gatherThinks_101 (by decide) rfl (jb_inc i 1) (jb_at1 rfl) rfl ?_
          refine jb_goto (pc' := 7) dX10_gatherThinks_104 (by decide) ?_
          exact ih (i + 1) acc l Js Ws _ _ (by omega) ⟨p1, hJ, p2, p3, p4, p5⟩
        · exact absurd (jl_20.mp (by assumption)) hv
    · have e9 : jl_ga nums (n + 1) i acc = acc := if_neg (by omega)
      rw [e9]
      show jb_J _ RX10 cX10_gatherThinks 4 (Option.none : Option Jvm.ClassFile.FieldType) false 1 0 0 7 [some (.ref 74), some (.int (nI i)), x2, x3] [] [s0, s1, s2, s3, s4, jb_sht74 Is nums Js Ws, s6, s7, s8, s9, s10, s11] _
      refine jb_iload_n (pc' := 8) dX10_gatherThinks_7 rfl rfl ?_
      refine jb_aload_n (pc' := 9) dX10_gatherThinks_8 rfl rfl ?_
      refine gf_X10_15 (pc' := 12) (v := .int (Is 1)) dX10_gatherThinks_9 rfl rfl rfl ?_
      refine jb_top (v := .int (Is 1)) (w := .int (nI zs)) (jb_vI h1s) ?_
      refine jb_icmp_ge (tgt := 107) (pc' := 15) dX10_gatherThinks_12 (by decide) rfl (fun z => absurd z (nI_ge (a := i) (b := zs) (by omega) (by omega))) (fun _ => ?_)
      refine jb_aload_n (pc' := 16) dX10_gatherThinks_15 rfl rfl ?_
      refine gf_X10_22 (pc' := 19) (v := .int (Js 0)) dX10_gatherThinks_16 rfl rfl rfl ?_
      refine jb_top (v := .int (Js 0)) (w := .int (nI l.length)) (jb_vI hJ) ?_
      refine jb_iconst (pc' := 20) 5 dX10_gatherThinks_19 (by decide) rfl ?_
      refine jb_icmp_ge (tgt := 107) (pc' := 23) dX10_gatherThinks_20 (by decide) rfl (fun _ => ?_) (fun z => absurd (nI_le (a := 5) (b := l.length) (by omega) (by omega)) z)
      refine jb_vret dX10_gatherThinks_107 ?_
      exact ⟨rfl, Js, Ws, l, ⟨p1, hJ, p2, p3, p4, p5⟩, rfl⟩
set_option maxRecDepth 100000 in
set_option maxHeartbeats 4000000 in
theorem c_gatherT_0 {sc : Nat × (Nat → Int32)} {s0 s1 s2 s3 s4 s6 s7 s8 s9 s10 s11 : List va_E} (Is nums Js : Nat → Int32) (Ws : Nat → Nat → Int32) (zs : Nat) (h1s : Is 1 = nI zs) (hzs : zs ≤ 40) : jb_C sc yX10_gatherThinks cX10_gatherThinks 4 (Option.none : Option Jvm.ClassFile.FieldType) 1 0 0 [.ref 74] [s0, s1, s2, s3, s4, jb_sht74 Is nums Js Ws, s6, s7, s8, s9, s10, s11] (fun r h9 => r = none ∧ ∃ (J9 : Nat → Int32) (W9 : Nat → Nat → Int32) (l9 : List Nat), (l9.Perm (jl_ga nums zs 0 []) ∧ J9 0 = nI l9.length ∧ l9.length ≤ 5 ∧ (∀ j, j < l9.length → W9 0 j = nI (l9.getD j 0)) ∧ (∀ t, t ∈ l9 → t ≤ 20) ∧ (∀ t, t ∈ l9 → t ≤ l9.getD 0 0)) ∧ h9 = [s0, s1, s2, s3, s4, jb_sht74 Is nums J9 W9, s6, s7, s8, s9, s10, s11]) := by
  refine jb_CofJ (ini := false) (by decide +kernel) (fun h => by cases h) (Nat.le_of_ble_eq_true rfl) ?_
  show jb_J sc RX10 cX10_gatherThinks 4 (Option.none : Option Jvm.ClassFile.FieldType) false 1 0 0 0 [some (.ref 74), none, none, none] [] [s0, s1, s2, s3, s4, jb_sht74 Is nums Js Ws, s6, s7, s8, s9, s10, s11] _
  refine jb_aload_n (pc' := 1) dX10_gatherThinks_0 rfl rfl ?_
  refine jb_iconst (pc' := 2) 0 dX10_gatherThinks_1 (by decide) rfl ?_
  refine pf_X10_22 (pc' := 5) (h' := [s0, s1, s2, s3, s4, jb_sht74 Is nums (upd Js 0 0) Ws, s6, s7, s8, s9, s10, s11]) dX10_gatherThinks_2 (fun _ => ⟨rfl, rfl⟩) rfl (Nat.le_of_ble_eq_true rfl) rfl rfl ?_
  refine jb_iconst (pc' := 6) 0 dX10_gatherThinks_5 (by decide) rfl ?_
  refine jb_istore_n_ (pc' := 7) dX10_gatherThinks_6 (by decide) (jb_at1 rfl) rfl ?_
  exact l_gatherT_0 Is nums zs h1s hzs zs 0 [] [] (upd Js 0 0) Ws _ _ (by omega) ⟨List.Perm.refl _, rfl, by decide, fun j hj => absurd hj (Nat.not_lt_zero _), fun t ht => (by cases ht), fun t ht => (by cases ht)⟩
set_option maxRecDepth 100000 in
set_option maxHeartbeats 4000000 in
theorem l_last_0 {sc : Nat × (Nat → Int32)} {s0 s1 s2 s3 s4 s6 s7 s8 s9 s10 s11 : List va_E} (Is nums Js : Nat → Int32) (g gp b0 : Nat) (l : List Nat) (hgp : 2 * gp = g) (hg : g ≤ 60) (hl5 : l.length ≤ 5) (hl20 : ∀ t, t ∈ l → t ≤ 20) (hb0 : b0 ≤ 80) (hbt : ∀ t, t ∈ l → g + t ≤ b0) (hJ : Js 0 = nI l.length) : ∀ (n sp : Nat) (Ws : Nat → Nat → Int32), sp + n = 16 → (∀ j, j < l.length → Ws 0 j = nI (l.getD j 0)) → (∀ u, b0 ≤ u → u < b0 + sp → ¬ jl_P g u l) → jb_J sc RX10 cX10_lastAnswer 4 (Option.some .int) false 8 0 0 26 [some (.ref 74), some (.int (nI gp)), some (.int (nI (b0 + sp))), some (.int (nI sp))] [] [s0, s1, s2, s3, s4, jb_sht74 Is nums Js Ws, s6, s7, s8, s9, s10, s11] (fun r h9 => ∃ v W9, jl_L g b0 l v ∧ r = some (.int (nI v)) ∧ h9 = [s0, s1, s2, s3, s4, jb_sht74 Is nums Js W9, s6, s7, s8, s9, s10, s11]) := by
  intro n
  induction n with
  | zero =>
    intro sp Ws hsp hT hno
    obtain rfl : sp = 16 := by omega
    show jb_J _ RX10 cX10_lastAnswer 4 (Option.some .int) false 8 0 0 26 [some (.ref 74), some (.int (nI gp)), some (.int (nI (b0 + 16))), some (.int (nI 16))] [] [s0, s1, s2, s3, s4, jb_sht74 Is nums Js Ws, s6, s7, s8, s9, s10, s11] _
    refine jb_iload_n (pc' := 27) dX10_lastAnswer_26 rfl rfl ?_
    refine jb_bipush (pc' := 29) 16 dX10_lastAnswer_27 (by decide) rfl ?_
    refine jb_icmp_ge (tgt := 51) (pc' := 32) dX10_lastAnswer_29 (by decide) rfl (fun _ => ?_) (fun z => absurd (by decide) z)
    refine jb_iload_n (pc' := 52) dX10_lastAnswer_51 rfl rfl ?_
    refine jb_iret dX10_lastAnswer_52 rfl ?_
    exact ⟨b0 + 16, Ws, ⟨by omega, by omega, jl_free l hl5 hbt, hno⟩, rfl, rfl⟩
  | succ n ih =>
    intro sp Ws hsp hT hno
    show jb_J _ RX10 cX10_lastAnswer 4 (Option.some .int) false 8 0 0 26 [some (.ref 74), some (.int (nI gp)), some (.int (nI (b0 + sp))), some (.int (nI sp))] [] [s0, s1, s2, s3, s4, jb_sht74 Is nums Js Ws, s6, s7, s8, s9, s10, s11] _
    refine jb_iload_n (pc' := 27) dX10_lastAnswer_26 rfl rfl ?_
    refine jb_bipush (pc' := 29) 16 dX10_lastAnswer_27 (by decide) rfl ?_
    refine jb_icmp_ge (tgt := 51) (pc' := 32) dX10_lastAnswer_29 (by decide) rfl (fun z => absurd z (nI_ge (a := sp) (b := 16) (by omega) (by omega))) (fun _ => ?_)
    refine jb_aload_n (pc' := 33) dX10_lastAnswer_32 rfl rfl ?_
    refine jb_iconst (pc' := 34) 0 dX10_lastAnswer_33 (by decide) rfl ?_
    refine jb_iload_n (pc' := 35) dX10_lastAnswer_34 rfl rfl ?_
    refine jb_iload_n (pc' := 36) dX10_lastAnswer_35 rfl rfl ?_
    refine jb_callV (pc' := 39) (ci := 10) (q := 74) (As := [.int 0, .int (nI (b0 + sp)), .int (nI gp)]) (a2 := 0) (b2 := 0) wv_X10_52 rfl dX10_lastAnswer_36 (c_placed_0 Is nums Js g gp (b0 + sp) l.length (fun j => l.getD j 0) hgp hg (by omega) hl5 (fun j hj => hl20 _ (jl_gd.mpr ⟨j, hj, rfl⟩)) hJ l.length 0 (by omega) (fun _ => 0) Ws hT (fun j hj => absurd hj (Nat.not_lt_zero _))) rfl rfl ⟨by omega, Nat.le_of_eq (Nat.zero_add _), Nat.le_of_eq (Nat.zero_add _)⟩ (Nat.le_of_ble_eq_true rfl) rfl (fun r h9 hq => ?_)
    rcases hq with ⟨W8, hf8, -, ⟨hX, rfl⟩ | ⟨hX, rfl⟩, rfl⟩
    · show jb_J _ RX10 cX10_lastAnswer 4 (Option.some .int) false 8 0 0 39 [some (.ref 74), some (.int (nI gp)), some (.int (nI (b0 + sp))), some (.int (nI sp))] [.int 1] [s0, s1, s2, s3, s4, jb_sht74 Is nums Js W8, s6, s7, s8, s9, s10, s11] _
      refine jb_if_ne (tgt := 51) (pc' := 42) dX10_lastAnswer_39 (by decide) rfl (fun _ => ?_) (fun z => absurd z (by decide))
      refine jb_iload_n (pc' := 52) dX10_lastAnswer_51 rfl rfl ?_
      refine jb_iret dX10_lastAnswer_52 rfl ?_
      exact ⟨b0 + sp, W8, ⟨by omega, by omega, jl_XP.mp hX, hno⟩, rfl, rfl⟩
    · show jb_J _ RX10 cX10_lastAnswer 4 (Option.some .int) false 8 0 0 39 [some (.ref 74), some (.int (nI gp)), some (.int (nI (b0 + sp))), some (.int (nI sp))] [.int 0] [s0, s1, s2, s3, s4, jb_sht74 Is nums Js W8, s6, s7, s8, s9, s10, s11] _
      refine jb_if_ne (tgt := 51) (pc' := 42) dX10_lastAnswer_39 (by decide) rfl (fun z => absurd (by decide) z) (fun _ => ?_)
      refine jb_iinc_ (pc' := 45) (nI (b0 + (sp + 1))) dX10_lastAnswer_42 (by decide) rfl (jb_inc (b0 + sp) 1) (jb_at2 rfl) rfl ?_
      refine jb_iinc_ (pc' := 48) (nI (sp + 1)) dX10_lastAnswer_45 (by decide) rfl (jb_inc sp 1) (jb_at3 rfl) rfl ?_
      refine jb_goto (pc' := 26) dX10_lastAnswer_48 (by decide) ?_
      exact ih (sp + 1) W8 (by omega) (fun j hj => by rw [hf8 0 (by decide) (by decide)]; exact hT j hj) (fun u h1 h2 => by
        by_cases e : u = b0 + sp
        · rw [e]; exact fun z => hX (jl_XP.mpr z)
        · exact hno u h1 (by omega))
set_option maxRecDepth 100000 in
set_option maxHeartbeats 4000000 in
theorem c_lastA_0 {sc : Nat × (Nat → Int32)} {s0 s1 s2 s3 s4 s6 s7 s8 s9 s10 s11 : List va_E} (Is nums Js : Nat → Int32) (Ws : Nat → Nat → Int32) (zs : Nat) (h1s : Is 1 = nI zs) (hzs : zs ≤ 40) (g gp : Nat) (hgp : 2 * gp = g) (hg : g ≤ 60) : jb_C sc yX10_lastAnswer cX10_lastAnswer 4 (Option.some .int) 8 0 0 [.ref 74, .int (nI gp)] [s0, s1, s2, s3, s4, jb_sht74 Is nums Js Ws, s6, s7, s8, s9, s10, s11] (fun r h9 => ∃ J9 W9, (((jl_ga nums zs 0 []) = [] ∧ r = some (.int (-1))) ∨ (∃ M9 v, jl_mx M9 (jl_ga nums zs 0 []) ∧ jl_L g (g + M9) (jl_ga nums zs 0 []) v ∧ r = some (.int (nI v)))) ∧ h9 = [s0, s1, s2, s3, s4, jb_sht74 Is nums J9 W9, s6, s7, s8, s9, s10, s11]) := by
  refine jb_CofJ (ini := false) (by decide +kernel) (fun h => by cases h) (Nat.le_of_ble_eq_true rfl) ?_
  show jb_J sc RX10 cX10_lastAnswer 4 (Option.some .int) false 8 0 0 0 [some (.ref 74), some (.int (nI gp)), none, none] [] [s0, s1, s2, s3, s4, jb_sht74 Is nums Js Ws, s6, s7, s8, s9, s10, s11] _
  refine jb_aload_n (pc' := 1) dX10_lastAnswer_0 rfl rfl ?_
  refine jb_callV (pc' := 4) (ci := 10) (q := 74) (As := []) (a2 := 0) (b2 := 0) wv_X10_49 rfl dX10_lastAnswer_1 (c_gatherT_0 Is nums Js Ws zs h1s hzs) rfl rfl ⟨by decide, Nat.le_of_eq (Nat.zero_add _), Nat.le_of_eq (Nat.zero_add _)⟩ (Nat.le_of_ble_eq_true rfl) rfl (fun r h9 hq => ?_)
  obtain ⟨rfl, J8, W8, l, ⟨p1, hJ, p2, p3, p4, p5⟩, rfl⟩ := hq
  show jb_J _ RX10 cX10_lastAnswer 4 (Option.some .int) false 8 0 0 4 [some (.ref 74), some (.int (nI gp)), none, none] [] [s0, s1, s2, s3, s4, jb_sht74 Is nums J8 W8, s6, s7, s8, s9, s10, s11] _
  refine jb_aload_n (pc' := 5) dX10_lastAnswer_4 rfl rfl ?_
  refine gf_X10_22 (pc' := 8) (v := .int (J8 0)) dX10_lastAnswer_5 rfl rfl rfl ?_
  refine jb_top (v := .int (J8 0)) (w := .int (nI l.length)) (jb_vI hJ) ?_
  refine jb_if_ne (tgt := 13) (pc' := 11) dX10_lastAnswer_8 (by decide) rfl (fun hz0 => ?_) (fun hz0 => ?_)
  · have hz0 : ¬ l.length = 0 := fun z9 => hz0 ((nI_eq (a := l.length) (b := 0) (by omega) (by omega)).mpr z9)
    refine jb_iconst (pc' := 14) 2 dX10_lastAnswer_13 (by decide) rfl ?_
    refine jb_iload_n (pc' := 15) dX10_lastAnswer_14 rfl rfl ?_
    refine jb_imul (pc' := 16) dX10_lastAnswer_15 rfl ?_
    refine jb_top (v := .int (2 * (nI gp))) (w := .int (nI (2 * gp))) (jb_vI (pk_mul 2 _)) ?_
    refine jb_aload_n (pc' := 17) dX10_lastAnswer_16 rfl rfl ?_
    refine gf_X10_25 (pc' := 20) (v := .ref 76) dX10_lastAnswer_17 rfl rfl rfl ?_
    refine jb_iconst (pc' := 21) 0 dX10_lastAnswer_20 (by decide) rfl ?_
    refine jb_iaload (pc' := 22) (i9 := 0) (f := (W8 0)) dX10_lastAnswer_21 rfl jb_x0 (by decide) rfl ?_
    refine jb_top (v := .int ((W8 0) 0)) (w := .int (nI (l.getD 0 0))) (jb_vI (p3 0 (by omega))) ?_
    refine jb_iadd (pc' := 23) dX10_lastAnswer_22 rfl ?_
    refine jb_top (v := .int ((nI (2 * gp)) + (nI (l.getD 0 0)))) (w := .int (nI (g + l.getD 0 0))) (jb_vI (by rw [nI_add, hgp])) ?_
    refine jb_istore_n_ (pc' := 24) dX10_lastAnswer_23 (by decide) (jb_at2 rfl) rfl ?_
    refine jb_iconst (pc' := 25) 0 dX10_lastAnswer_24 (by decide) rfl ?_
    refine jb_istore_n_ (pc' := 26) dX10_lastAnswer_25 (by decide) (jb_at3 rfl) rfl ?_
    have hm0 : l.getD 0 0 ∈ l := jl_gd.mpr ⟨0, by omega, rfl⟩
    have b20 := p4 _ hm0
    refine jb_J.mono (l_last_0 Is nums J8 g gp (g + l.getD 0 0) l hgp hg p2 p4 (by omega) (fun t ht => by have := p5 t ht; omega) hJ 16 0 W8 (by omega) p3 (fun u h1 h2 => absurd h2 (by omega))) (Nat.le_refl _) (Nat.le_refl _) (Nat.le_refl _) (fun r h9 hq => ?_)
    obtain ⟨v, W9, hL, rfl, rfl⟩ := hq
    refine ⟨J8, W9, Or.inr ⟨l.getD 0 0, v, ⟨p1.mem_iff.mp hm0, fun t ht => p5 t (p1.mem_iff.mpr ht)⟩, ⟨hL.1, hL.2.1, hL.2.2.1.perm p1, fun u h1 h2 z => hL.2.2.2 u h1 h2 (z.perm p1.symm)⟩, rfl⟩, rfl⟩
  · have hz0 : l.length = 0 := (nI_eq (a := l.length) (b := 0) (by omega) (by omega)).mp hz0
    refine jb_iconst (pc' := 12) (-1) dX10_lastAnswer_11 (by decide) rfl ?_
    refine jb_iret dX10_lastAnswer_12 rfl ?_
    have l0 : l = [] := List.eq_nil_of_length_eq_zero (by omega)
    subst l0
    exact ⟨J8, W8, Or.inl ⟨p1.nil_eq.symm, rfl⟩, rfl⟩
set_option maxRecDepth 100000 in
set_option maxHeartbeats 4000000 in
theorem kx_lesson_0 {sc : Nat × (Nat → Int32)} {s2 s3 s6 s7 s8 s9 s10 s11 : List va_E} {V : Nat → Nat → Nat} (imm : Int32) (Im rowm stkm tpm : Nat → Int32) (Tm : Nat → Value) (I : Nat → Int32) (W : Nat → Nat → Int32) (T : Nat → Value) (Is nums Js : Nat → Int32) (Ws : Nat → Nat → Int32) (hr : jr_ V I W) (hk : jv_ok V) {bs zs : Nat} (h0s : Is 0 = nI bs) (h1s : Is 1 = nI zs) (hbs : bs ≤ 32) (hzs : zs ≤ 40) (hm : ¬ bs = 0) : jb_C sc yX11_lesson cX11_lesson 2 (Option.some .int) 9 0 0 [.ref 0, .int 0] [jb_main imm Im Tm rowm stkm tpm, jb_sch13 I W T, s2, s3, jb_shs, jb_sht74 Is nums Js Ws, s6, s7, s8, s9, s10, s11] (fun r h9 => ∃ J9 W9, (((jl_ga nums zs 0 []) = [] ∧ r = some (.int (-1))) ∨ (∃ M9 v, jl_mx M9 (jl_ga nums zs 0 []) ∧ jl_L (2 * (V 0 4 + V 0 5)) ((2 * (V 0 4 + V 0 5)) + M9) (jl_ga nums zs 0 []) v ∧ r = some (.int (nI v)))) ∧ h9 = [jb_main imm Im Tm rowm stkm tpm, jb_sch13 I W T, s2, s3, jb_shs, jb_sht74 Is nums J9 W9, s6, s7, s8, s9, s10, s11]) := by
  refine jb_CofJ (ini := false) (by decide +kernel) (fun h => by cases h) (Nat.le_of_ble_eq_true rfl) ?_
  show jb_J sc RX11 cX11_lesson 2 (Option.some .int) false 9 0 0 0 [some (.ref 0), some (.int 0)] [] [jb_main imm Im Tm rowm stkm tpm, jb_sch13 I W T, s2, s3, jb_shs, jb_sht74 Is nums Js Ws, s6, s7, s8, s9, s10, s11] _
  have hr0 := hr
  have hk0 := hk
  obtain ⟨r0, r2, r3, r4, a0, a1, a2, rv, rs, rd⟩ := hr
  obtain ⟨k0, k1, k2, k3, k4, k5, k6, k7, kv, ks, kd⟩ := hk
  refine jb_aload_n (pc' := 1) dX11_lesson_0 rfl rfl ?_
  refine jb_iload_n (pc' := 2) dX11_lesson_1 rfl rfl ?_
  refine jb_callV (pc' := 5) (ci := 11) (q := 0) (As := [.int 0]) (a2 := 0) (b2 := 0) wv_X11_165 rfl dX11_lesson_2 (c_isNoSheetG _ 0 (by omega)) rfl rfl ⟨by decide, Nat.le_of_eq (Nat.zero_add _), Nat.le_of_eq (Nat.zero_add _)⟩ (Nat.le_of_ble_eq_true rfl) rfl (fun r h9 hq => ?_)
  obtain ⟨rfl, rfl⟩ := hq
  show jb_J _ RX11 cX11_lesson 2 (Option.some .int) false 9 0 0 5 [some (.ref 0), some (.int 0)] [.int 0] [jb_main imm Im Tm rowm stkm tpm, jb_sch13 I W T, s2, s3, jb_shs, jb_sht74 Is nums Js Ws, s6, s7, s8, s9, s10, s11] _
  refine jb_if_eq (tgt := 14) (pc' := 8) dX11_lesson_5 (by decide) rfl (fun _ => ?_) (fun z => absurd (by decide) z)
  refine jb_aload_n (pc' := 15) dX11_lesson_14 rfl rfl ?_
  refine gf_X11_54 (pc' := 18) (v := .ref 73) dX11_lesson_15 rfl rfl rfl ?_
  refine jb_iload_n (pc' := 19) dX11_lesson_18 rfl rfl ?_
  refine jb_aaload (pc' := 20) (i9 := 0) (r := 74) (Or.inr (Or.inr rfl)) dX11_lesson_19 rfl jb_x0 (by decide) rfl rfl ?_
  refine jb_callV (pc' := 23) (ci := 10) (q := 74) (As := []) (a2 := 0) (b2 := 0) wv_X11_168 rfl dX11_lesson_20 (c_isMissing_0 Is nums Js Ws h0s h1s hbs hzs) rfl rfl ⟨by decide, Nat.le_of_eq (Nat.zero_add _), Nat.le_of_eq (Nat.zero_add _)⟩ (Nat.le_of_ble_eq_true rfl) rfl (fun r h9 hq => ?_)
  rcases hq with ⟨rfl, ⟨hms, rfl⟩ | ⟨hms, rfl⟩⟩
  · exact absurd hms hm
  · show jb_J _ RX11 cX11_lesson 2 (Option.some .int) false 9 0 0 23 [some (.ref 0), some (.int 0)] [.int 0] [jb_main imm Im Tm rowm stkm tpm, jb_sch13 I W T, s2, s3, jb_shs, jb_sht74 Is nums Js Ws, s6, s7, s8, s9, s10, s11] _
    refine jb_if_eq (tgt := 32) (pc' := 26) dX11_lesson_23 (by decide) rfl (fun _ => ?_) (fun z => absurd (by decide) z)
    refine jb_aload_n (pc' := 33) dX11_lesson_32 rfl rfl ?_
    refine gf_X11_54 (pc' := 36) (v := .ref 73) dX11_lesson_33 rfl rfl rfl ?_
    refine jb_iload_n (pc' := 37) dX11_lesson_36 rfl rfl ?_
    refine jb_aaload (pc' := 38) (i9 := 0) (r := 74) (Or.inr (Or.inr rfl)) dX11_lesson_37 rfl jb_x0 (by decide) rfl rfl ?_
    refine jb_aload_n (pc' := 39) dX11_lesson_38 rfl rfl ?_
    refine gf_X11_42 (pc' := 42) (v := .ref 13) dX11_lesson_39 rfl rfl rfl ?_
    refine jb_callV (pc' := 45) (ci := 9) (q := 13) (As := []) (a2 := 0) (b2 := 0) wv_X11_172 rfl dX11_lesson_42 (c_gap_13 _ _ _) rfl rfl ⟨by decide, Nat.le_of_eq (Nat.zero_add _), Nat.le_of_eq (Nat.zero_add _)⟩ (Nat.le_of_ble_eq_true rfl) rfl (fun r h9 hq => ?_)
    obtain ⟨rfl, rfl⟩ := hq
    show jb_J _ RX11 cX11_lesson 2 (Option.some .int) false 9 0 0 45 [some (.ref 0), some (.int 0)] [.int (W 0 0 + W 0 1), .ref 74] [jb_main imm Im Tm rowm stkm tpm, jb_sch13 I W T, s2, s3, jb_shs, jb_sht74 Is nums Js Ws, s6, s7, s8, s9, s10, s11] _
    refine jb_top (v := .int (W 0 0 + W 0 1)) (w := .int (nI (V 0 4 + V 0 5))) (jb_vI (by rw [a0, a1, nI_add])) ?_
    refine jb_callV (pc' := 48) (ci := 10) (q := 74) (As := [.int (nI (V 0 4 + V 0 5))]) (a2 := 0) (b2 := 0) wv_X11_175 rfl dX11_lesson_45 (c_lastA_0 Is nums Js Ws zs h1s hzs (2 * (V 0 4 + V 0 5)) (V 0 4 + V 0 5) rfl (by omega)) rfl rfl ⟨by decide, Nat.le_of_eq (Nat.zero_add _), Nat.le_of_eq (Nat.zero_add _)⟩ (Nat.le_of_ble_eq_true rfl) rfl (fun r h9 hq => ?_)
    rcases hq with ⟨J9, W9, ⟨hga, rfl⟩ | ⟨M9, v, hmx, hL, rfl⟩, rfl⟩
    · show jb_J _ RX11 cX11_lesson 2 (Option.some .int) false 9 0 0 48 [some (.ref 0), some (.int 0)] [.int (-1)] [jb_main imm Im Tm rowm stkm tpm, jb_sch13 I W T, s2, s3, jb_shs, jb_sht74 Is nums J9 W9, s6, s7, s8, s9, s10, s11] _
      refine jb_iret dX11_lesson_48 rfl ?_
      exact ⟨J9, W9, Or.inl ⟨hga, rfl⟩, rfl⟩
    · show jb_J _ RX11 cX11_lesson 2 (Option.some .int) false 9 0 0 48 [some (.ref 0), some (.int 0)] [.int (nI v)] [jb_main imm Im Tm rowm stkm tpm, jb_sch13 I W T, s2, s3, jb_shs, jb_sht74 Is nums J9 W9, s6, s7, s8, s9, s10, s11] _
      refine jb_iret dX11_lesson_48 rfl ?_
      exact ⟨J9, W9, Or.inr ⟨M9, v, hmx, hL, rfl⟩, rfl⟩
set_option maxRecDepth 100000 in
set_option maxHeartbeats 4000000 in
theorem l_isFree_1 {sc : Nat × (Nat → Int32)} {s0 s1 s2 s3 s4 s5 s7 s8 s9 s10 s11 : List va_E} (Is nums Js : Nat → Int32) (Ws : Nat → Nat → Int32) (g : Nat) (th A : Nat → Nat) (q x y : Nat) (hg : g ≤ 60) (hq : q ≤ 5) (hx : x ≤ 200) (hy : y = x + g + th q) (hth : ∀ j, j < q → th j ≤ 20) (htq : th q ≤ 20) (hA : (∀ j, j < q → Ws 1 j = nI (A j) ∧ Ws 2 j = nI (A j + g + th j) ∧ A j ≤ 200)) : ∀ (n i : Nat), i + n = q → (∀ j, j < i → jl_c g (A j) (th j) x (th q)) → jb_J sc RX10 cX10_isFree 5 (Option.some .boolean) false 0 0 0 3 [some (.ref 81), some (.int (nI q)), some (.int (nI x)), some (.int (nI y)), some (.int (nI i))] [] [s0, s1, s2, s3, s4, s5, jb_sht81 Is nums Js Ws, s7, s8, s9, s10, s11] (fun r h9 => [s0, s1, s2, s3, s4, s5, jb_sht81 Is nums Js Ws, s7, s8, s9, s10, s11] = h9 ∧ ((jl_fr g th q A x ∧ r = some (.int 1)) ∨ (¬ jl_fr g th q A x ∧ r = some (.int 0)))) := by
  intro n
  induction n with
  | zero =>
    intro i hi hc
    show jb_J _ RX10 cX10_isFree 5 (Option.some .boolean) false 0 0 0 3 [some (.ref 81), some (.int (nI q)), some (.int (nI x)), some (.int (nI y)), some (.int (nI i))] [] [s0, s1, s2, s3, s4, s5, jb_sht81 Is nums Js Ws, s7, s8, s9, s10, s11] _
    refine jb_iload (pc' := 5) dX10_isFree_3 rfl rfl ?_
    refine jb_iload_n (pc' := 6) dX10_isFree_5 rfl rfl ?_
    refine jb_icmp_ge (tgt := 61) (pc' := 9) dX10_isFree_6 (by decide) rfl (fun _ => ?_) (fun z => absurd (nI_le (a := q) (b := i) (by omega) (by omega)) z)
    refine jb_iconst (pc' := 62) 1 dX10_isFree_61 (by decide) rfl ?_
    refine jb_iret dX10_isFree_62 rfl ?_
    exact ⟨rfl, Or.inl ⟨fun j hj => hc j (by omega), rfl⟩⟩
  | succ n ih =>
    intro i hi hc
    have a1 := hA i (by omega)
    have a2 := hth i (by omega)
    show jb_J _ RX10 cX10_isFree 5 (Option.some .boolean) false 0 0 0 3 [some (.ref 81), some (.int (nI q)), some (.int (nI x)), some (.int (nI y)), some (.int (nI i))] [] [s0, s1, s2, s3, s4, s5, jb_sht81 Is nums Js Ws, s7, s8, s9, s10, s11] _
    refine jb_iload (pc' := 5) dX10_isFree_3 rfl rfl ?_
    refine jb_iload_n (pc' := 6) dX10_isFree_5 rfl rfl ?_
    refine jb_icmp_ge (tgt := 61) (pc' := 9) dX10_isFree_6 (by decide) rfl (fun z => absurd z (nI_ge (a := i) (b := q) (by omega) (by omega))) (fun _ => ?_)
    refine jb_aload_n (pc' := 10) dX10_isFree_9 rfl rfl ?_
    refine gf_X10_28 (pc' := 13) (v := .ref 84) dX10_isFree_10 rfl rfl rfl ?_
    refine jb_iload (pc' := 15) dX10_isFree_13 rfl rfl ?_
    refine jb_iaload (pc' := 16) (i9 := i) (f := (Ws 1)) dX10_isFree_15 rfl (jb_ix_nI (by omega)) (by omega) rfl ?_
    refine jb_top (v := .int ((Ws 1) i)) (w := .int (nI (A i))) (jb_vI (hA i (by omega)).1) ?_
    refine jb_iload_n (pc' := 17) dX10_isFree_16 rfl rfl ?_
    refine jb_icmp_eq (tgt := 53) (pc' := 20) dX10_isFree_17 (by decide) rfl (fun c2 => ?_) (fun c2 => ?_)
    · have c2 : (A i) = x := (nI_eq (a := (A i)) (b := x) (by omega) (by omega)).mp c2
      refine jb_iconst (pc' := 54) 0 dX10_isFree_53 (by decide) rfl ?_
      refine jb_iret dX10_isFree_54 rfl ?_
      exact ⟨rfl, Or.inr ⟨fun z => (by have z1 := z i (by omega); unfold jl_c at z1; omega), rfl⟩⟩
    · have c2 : ¬ (A i) = x := fun z9 => c2 ((nI_eq (a := (A i)) (b := x) (by omega) (by omega)).mpr z9)
      refine jb_aload_n (pc' := 21) dX10_isFree_20 rfl rfl ?_
      refine gf_X10_28 (pc' := 24) (v := .ref 84) dX10_isFree_21 rfl rfl rfl ?_
      refine jb_iload (pc' := 26) dX10_isFree_24 rfl rfl ?_
      refine jb_iaload (pc' := 27) (i9 := i) (f := (Ws 1)) dX10_isFree_26 rfl (jb_ix_nI (by omega)) (by omega) rfl ?_
      refine jb_top (v := .int ((Ws 1) i)) (w := .int (nI (A i))) (jb_vI (hA i (by omega)).1) ?_
      refine jb_iload_n (pc' := 28) dX10_isFree_27 rfl rfl ?_
      refine jb_icmp_eq (tgt := 53) (pc' := 31) dX10_isFree_28 (by decide) rfl (fun c3 => ?_) (fun c3 => ?_)
      · have c3 : (A i) = y := (nI_eq (a := (A i)) (b := y) (by omega) (by omega)).mp c3
        refine jb_iconst (pc' := 54) 0 dX10_isFree_53 (by decide) rfl ?_
        refine jb_iret dX10_isFree_54 rfl ?_
        exact ⟨rfl, Or.inr ⟨fun z => (by have z1 := z i (by omega); unfold jl_c at z1; omega), rfl⟩⟩
      · have c3 : ¬ (A i) = y := fun z9 => c3 ((nI_eq (a := (A i)) (b := y) (by omega) (by omega)).mpr z9)
        refine jb_aload_n (pc' := 32) dX10_isFree_31 rfl rfl ?_
        refine gf_X10_31 (pc' := 35) (v := .ref 85) dX10_isFree_32 rfl rfl rfl ?_
        refine jb_iload (pc' := 37) dX10_isFree_35 rfl rfl ?_
        refine jb_iaload (pc' := 38) (i9 := i) (f := (Ws 2)) dX10_isFree_37 rfl (jb_ix_nI (by omega)) (by omega) rfl ?_
        refine jb_top (v := .int ((Ws 2) i)) (w := .int (nI (A i + g + th i))) (jb_vI (hA i (by omega)).2.1) ?_
        refine jb_iload_n (pc' := 39) dX10_isFree_38 rfl rfl ?_
        refine jb_icmp_eq (tgt := 53) (pc' := 42) dX10_isFree_39 (by decide) rfl (fun c4 => ?_) (fun c4 => ?_)
        · have c4 : (A i + g + th i) = x := (nI_eq (a := (A i + g + th i)) (b := x) (by omega) (by omega)).mp c4
          refine jb_iconst (pc' := 54) 0 dX10_isFree_53 (by decide) rfl ?_
          refine jb_iret dX10_isFree_54 rfl ?_
          exact ⟨rfl, Or.inr ⟨fun z => (by have z1 := z i (by omega); unfold jl_c at z1; omega), rfl⟩⟩
        · have c4 : ¬ (A i + g + th i) = x := fun z9 => c4 ((nI_eq (a := (A i + g + th i)) (b := x) (by omega) (by omega)).mpr z9)
          refine jb_aload_n (pc' := 43) dX10_isFree_42 rfl rfl ?_
          refine gf_X10_31 (pc' := 46) (v := .ref 85) dX10_isFree_43 rfl rfl rfl ?_
          refine jb_iload (pc' := 48) dX10_isFree_46 rfl rfl ?_
          refine jb_iaload (pc' := 49) (i9 := i) (f := (Ws 2)) dX10_isFree_48 rfl (jb_ix_nI (by omega)) (by omega) rfl ?_
          refine jb_top (v := .int ((Ws 2) i)) (w := .int (nI (A i + g + th i))) (jb_vI (hA i (by omega)).2.1) ?_
          refine jb_iload_n (pc' := 50) dX10_isFree_49 rfl rfl ?_
          refine jb_icmp_ne (tgt := 55) (pc' := 53) dX10_isFree_50 (by decide) rfl (fun c5 => ?_) (fun c5 => ?_)
          · have c5 : ¬ (A i + g + th i) = y := fun z9 => c5 ((nI_eq (a := (A i + g + th i)) (b := y) (by omega) (by omega)).mpr z9)
            refine jb_iinc_ (pc' := 58) (nI (i + 1)) dX10_isFree_55 (by decide) rfl (jb_inc i 1) (jb_at4 rfl) rfl ?_
            refine jb_goto (pc' := 3) dX10_isFree_58 (by decide) ?_
            exact ih (i + 1) (by omega) (fun j hj => by
              by_cases e : j = i
              · rw [e]; unfold jl_c; omega
              · exact hc j (by omega))
          · have c5 : (A i + g + th i) = y := (nI_eq (a := (A i + g + th i)) (b := y) (by omega) (by omega)).mp c5
            refine jb_iconst (pc' := 54) 0 dX10_isFree_53 (by decide) rfl ?_
            refine jb_iret dX10_isFree_54 rfl ?_
            exact ⟨rfl, Or.inr ⟨fun z => (by have z1 := z i (by omega); unfold jl_c at z1; omega), rfl⟩⟩
set_option maxRecDepth 100000 in
set_option maxHeartbeats 4000000 in
theorem c_isFree_1 {sc : Nat × (Nat → Int32)} {s0 s1 s2 s3 s4 s5 s7 s8 s9 s10 s11 : List va_E} (Is nums Js : Nat → Int32) (Ws : Nat → Nat → Int32) (g : Nat) (th A : Nat → Nat) (q x y : Nat) (hg : g ≤ 60) (hq : q ≤ 5) (hx : x ≤ 200) (hy : y = x + g + th q) (hth : ∀ j, j < q → th j ≤ 20) (htq : th q ≤ 20) (hA : (∀ j, j < q → Ws 1 j = nI (A j) ∧ Ws 2 j = nI (A j + g + th j) ∧ A j ≤ 200)) : jb_C sc yX10_isFree cX10_isFree 5 (Option.some .boolean) 0 0 0 [.ref 81, .int (nI q), .int (nI x), .int (nI y)] [s0, s1, s2, s3, s4, s5, jb_sht81 Is nums Js Ws, s7, s8, s9, s10, s11] (fun r h9 => [s0, s1, s2, s3, s4, s5, jb_sht81 Is nums Js Ws, s7, s8, s9, s10, s11] = h9 ∧ ((jl_fr g th q A x ∧ r = some (.int 1)) ∨ (¬ jl_fr g th q A x ∧ r = some (.int 0)))) := by
  refine jb_CofJ (ini := false) (by decide +kernel) (fun h => by cases h) (Nat.le_of_ble_eq_true rfl) ?_
  show jb_J sc RX10 cX10_isFree 5 (Option.some .boolean) false 0 0 0 0 [some (.ref 81), some (.int (nI q)), some (.int (nI x)), some (.int (nI y)), none] [] [s0, s1, s2, s3, s4, s5, jb_sht81 Is nums Js Ws, s7, s8, s9, s10, s11] _
  refine jb_iconst (pc' := 1) 0 dX10_isFree_0 (by decide) rfl ?_
  refine jb_istore_ (pc' := 3) dX10_isFree_1 (by decide) (jb_at4 rfl) rfl ?_
  exact l_isFree_1 Is nums Js Ws g th A q x y hg hq hx hy hth htq hA q 0 (by omega) (fun j hj => absurd hj (by omega))
set_option maxRecDepth 100000 in
set_option maxHeartbeats 4000000 in
theorem l_placed_1 {sc : Nat × (Nat → Int32)} {s0 s1 s2 s3 s4 s5 s7 s8 s9 s10 s11 : List va_E} (Is nums Js : Nat → Int32) (g gp last k : Nat) (th : Nat → Nat) (hgp : 2 * gp = g) (hg : g ≤ 60) (hl : last ≤ 200) (hk5 : k ≤ 5) (hth : ∀ j, j < k → th j ≤ 20) (hJ : Js 0 = nI k) (m q : Nat) (hqm : q + (m + 1) = k) (A : Nat → Nat) (Ws : Nat → Nat → Int32) (hT0 : (∀ j, j < k → Ws 0 j = nI (th j))) (hA0 : (∀ j, j < q → Ws 1 j = nI (A j) ∧ Ws 2 j = nI (A j + g + th j) ∧ A j ≤ 200)) (hI : (∀ (A : Nat → Nat) (Ws : Nat → Nat → Int32), (∀ j, j < k → Ws 0 j = nI (th j)) → (∀ j, j < (q + 1) → Ws 1 j = nI (A j) ∧ Ws 2 j = nI (A j + g + th j) ∧ A j ≤ 200) → jb_C sc yX10_isPlaced cX10_isPlaced 6 (Option.some .boolean) (m + 2) 0 0 [.ref 81, .int (nI (q + 1)), .int (nI last), .int (nI gp)] [s0, s1, s2, s3, s4, s5, jb_sht81 Is nums Js Ws, s7, s8, s9, s10, s11] (fun r h9 => ∃ W9, (∀ r, ¬ r = 1 → ¬ r = 2 → W9 r = Ws r) ∧ (∀ j, j < (q + 1) → W9 1 j = Ws 1 j ∧ W9 2 j = Ws 2 j) ∧ ((jl_X g last th k (q + 1) A ∧ r = some (.int 1)) ∨ (¬ jl_X g last th k (q + 1) A ∧ r = some (.int 0))) ∧ h9 = [s0, s1, s2, s3, s4, s5, jb_sht81 Is nums Js W9, s7, s8, s9, s10, s11]))) : ∀ (n x : Nat) (Wc : Nat → Nat → Int32), x + n = last + 1 → (∀ r, ¬ r = 1 → ¬ r = 2 → Wc r = Ws r) ∧ (∀ j, j < q → Wc 1 j = Ws 1 j ∧ Wc 2 j = Ws 2 j) → (∀ x9, x9 < x → ¬ (x9 + g + th q ≤ last ∧ jl_fr g th q A x9 ∧ jl_X g last th k (q + 1) (jl_up A q x9))) → jb_J sc RX10 cX10_isPlaced 6 (Option.some .boolean) false (m + 3) 0 0 30 [some (.ref 81), some (.int (nI q)), some (.int (nI last)), some (.int (nI gp)), some (.int (nI (g + th q))), some (.int (nI x))] [] [s0, s1, s2, s3, s4, s5, jb_sht81 Is nums Js Wc, s7, s8, s9, s10, s11] (fun r h9 => ∃ W9, (∀ r, ¬ r = 1 → ¬ r = 2 → W9 r = Ws r) ∧ (∀ j, j < q → W9 1 j = Ws 1 j ∧ W9 2 j = Ws 2 j) ∧ ((jl_X g last th k q A ∧ r = some (.int 1)) ∨ (¬ jl_X g last th k q A ∧ r = some (.int 0))) ∧ h9 = [s0, s1, s2, s3, s4, s5, jb_sht81 Is nums Js W9, s7, s8, s9, s10, s11]) := by
  have htq := hth q (by omega)
  intro n
  induction n with
  | zero =>
    intro x Wc hx ⟨hf, hp⟩ hno
    have hT : (∀ j, j < k → Wc 0 j = nI (th j)) := fun j hj => by rw [hf 0 (by decide) (by decide)]; exact hT0 j hj
    have hA : (∀ j, j < q → Wc 1 j = nI (A j) ∧ Wc 2 j = nI (A j + g + th j) ∧ A j ≤ 200) := fun j hj => ⟨(hp j hj).1.trans (hA0 j hj).1, (hp j hj).2.trans (hA0 j hj).2.1, (hA0 j hj).2.2⟩
    show jb_J _ RX10 cX10_isPlaced 6 (Option.some .boolean) false (m + 3) 0 0 30 [some (.ref 81), some (.int (nI q)), some (.int (nI last)), some (.int (nI gp)), some (.int (nI (g + th q))), some (.int (nI x))] [] [s0, s1, s2, s3, s4, s5, jb_sht81 Is nums Js Wc, s7, s8, s9, s10, s11] _
    refine jb_iload (pc' := 32) dX10_isPlaced_30 rfl rfl ?_
    refine jb_iload_n (pc' := 33) dX10_isPlaced_32 rfl rfl ?_
    refine jb_iload (pc' := 35) dX10_isPlaced_33 rfl rfl ?_
    refine jb_isub (pc' := 36) dX10_isPlaced_35 rfl ?_
    refine jb_icmp_gt (tgt := 96) (pc' := 39) dX10_isPlaced_36 (by decide) rfl (fun _ => ?_) (fun z => absurd ((jl_sub (last := last) (needs := g + th q) (x := x) (by omega) (by omega) (by omega)).mpr (by omega)) z)
    refine jb_iconst (pc' := 97) 0 dX10_isPlaced_96 (by decide) rfl ?_
    refine jb_iret dX10_isPlaced_97 rfl ?_
    exact ⟨Wc, hf, hp, Or.inr ⟨fun z => (by obtain ⟨x9, z1, z2, z3⟩ := (jl_X.step (by omega)).mp z; exact hno x9 (by omega) ⟨z1, z2, z3⟩), rfl⟩, rfl⟩
  | succ n ih =>
    intro x Wc hx ⟨hf, hp⟩ hno
    have hT : (∀ j, j < k → Wc 0 j = nI (th j)) := fun j hj => by rw [hf 0 (by decide) (by decide)]; exact hT0 j hj
    have hA : (∀ j, j < q → Wc 1 j = nI (A j) ∧ Wc 2 j = nI (A j + g + th j) ∧ A j ≤ 200) := fun j hj => ⟨(hp j hj).1.trans (hA0 j hj).1, (hp j hj).2.trans (hA0 j hj).2.1, (hA0 j hj).2.2⟩
    show jb_J _ RX10 cX10_isPlaced 6 (Option.some .boolean) false (m + 3) 0 0 30 [some (.ref 81), some (.int (nI q)), some (.int (nI last)), some (.int (nI gp)), some (.int (nI (g + th q))), some (.int (nI x))] [] [s0, s1, s2, s3, s4, s5, jb_sht81 Is nums Js Wc, s7, s8, s9, s10, s11] _
    refine jb_iload (pc' := 32) dX10_isPlaced_30 rfl rfl ?_
    refine jb_iload_n (pc' := 33) dX10_isPlaced_32 rfl rfl ?_
    refine jb_iload (pc' := 35) dX10_isPlaced_33 rfl rfl ?_
    refine jb_isub (pc' := 36) dX10_isPlaced_35 rfl ?_
    refine jb_icmp_gt (tgt := 96) (pc' := 39) dX10_isPlaced_36 (by decide) rfl (fun hgt => ?_) (fun hgt => ?_)
    · have hgt2 : ¬ x + (g + th q) ≤ last := (jl_sub (last := last) (needs := g + th q) (x := x) (by omega) (by omega) (by omega)).mp hgt
      refine jb_iconst (pc' := 97) 0 dX10_isPlaced_96 (by decide) rfl ?_
      refine jb_iret dX10_isPlaced_97 rfl ?_
      exact ⟨Wc, hf, hp, Or.inr ⟨fun z => (by obtain ⟨x9, z1, z2, z3⟩ := (jl_X.step (by omega)).mp z; exact hno x9 (by omega) ⟨z1, z2, z3⟩), rfl⟩, rfl⟩
    · have hgt2 : x + (g + th q) ≤ last := Classical.byContradiction (fun z => hgt ((jl_sub (last := last) (needs := g + th q) (x := x) (by omega) (by omega) (by omega)).mpr z))
      refine jb_aload_n (pc' := 40) dX10_isPlaced_39 rfl rfl ?_
      refine jb_iload_n (pc' := 41) dX10_isPlaced_40 rfl rfl ?_
      refine jb_iload (pc' := 43) dX10_isPlaced_41 rfl rfl ?_
      refine jb_iload (pc' := 45) dX10_isPlaced_43 rfl rfl ?_
      refine jb_iload (pc' := 47) dX10_isPlaced_45 rfl rfl ?_
      refine jb_iadd (pc' := 48) dX10_isPlaced_47 rfl ?_
      refine jb_top (v := .int ((nI x) + (nI (g + th q)))) (w := .int (nI (x + (g + th q)))) (jb_vI (nI_add _ _)) ?_
      refine jb_callV (pc' := 51) (ci := 10) (q := 81) (As := [.int (nI q), .int (nI x), .int (nI (x + (g + th q)))]) (a2 := 0) (b2 := 0) wv_X10_59 rfl dX10_isPlaced_48 (c_isFree_1 Is nums Js Wc g th A q x (x + (g + th q)) hg (by omega) (by omega) (by omega) (fun j hj => hth j (by omega)) htq hA) rfl rfl ⟨by omega, Nat.le_of_eq (Nat.zero_add _), Nat.le_of_eq (Nat.zero_add _)⟩ (Nat.le_of_ble_eq_true rfl) rfl (fun r h9 hq => ?_)
      rcases hq with ⟨rfl, ⟨hfr, rfl⟩ | ⟨hfr, rfl⟩⟩
      · show jb_J _ RX10 cX10_isPlaced 6 (Option.some .boolean) false (m + 3) 0 0 51 [some (.ref 81), some (.int (nI q)), some (.int (nI last)), some (.int (nI gp)), some (.int (nI (g + th q))), some (.int (nI x))] [.int 1] [s0, s1, s2, s3, s4, s5, jb_sht81 Is nums Js Wc, s7, s8, s9, s10, s11] _
        refine jb_if_ne (tgt := 57) (pc' := 54) dX10_isPlaced_51 (by decide) rfl (fun _ => ?_) (fun z => absurd z (by decide))
        refine jb_aload_n (pc' := 58) dX10_isPlaced_57 rfl rfl ?_
        refine gf_X10_28 (pc' := 61) (v := .ref 84) dX10_isPlaced_58 rfl rfl rfl ?_
        refine jb_iload_n (pc' := 62) dX10_isPlaced_61 rfl rfl ?_
        refine jb_iload (pc' := 64) dX10_isPlaced_62 rfl rfl ?_
        refine jb_iastore (pc' := 65) (i9 := q) (f := (Wc 1)) (h' := [s0, s1, s2, s3, s4, s5, jb_sht81 Is nums Js (va_up Wc 1 (upd (Wc 1) q (nI x))), s7, s8, s9, s10, s11]) dX10_isPlaced_64 rfl (jb_ix_nI (by omega)) (by omega) rfl rfl ?_
        refine jb_aload_n (pc' := 66) dX10_isPlaced_65 rfl rfl ?_
        refine gf_X10_31 (pc' := 69) (v := .ref 85) dX10_isPlaced_66 rfl rfl rfl ?_
        refine jb_iload_n (pc' := 70) dX10_isPlaced_69 rfl rfl ?_
        refine jb_iload (pc' := 72) dX10_isPlaced_70 rfl rfl ?_
        refine jb_iload (pc' := 74) dX10_isPlaced_72 rfl rfl ?_
        refine jb_iadd (pc' := 75) dX10_isPlaced_74 rfl ?_
        refine jb_top (v := .int ((nI x) + (nI (g + th q)))) (w := .int (nI (x + (g + th q)))) (jb_vI (nI_add _ _)) ?_
        refine jb_iastore (pc' := 76) (i9 := q) (f := (Wc 2)) (h' := [s0, s1, s2, s3, s4, s5, jb_sht81 Is nums Js (va_up (va_up Wc 1 (upd (Wc 1) q (nI x))) 2 (upd (Wc 2) q (nI (x + (g + th q))))), s7, s8, s9, s10, s11]) dX10_isPlaced_75 rfl (jb_ix_nI (by omega)) (by omega) rfl rfl ?_
        refine jb_aload_n (pc' := 77) dX10_isPlaced_76 rfl rfl ?_
        refine jb_iload_n (pc' := 78) dX10_isPlaced_77 rfl rfl ?_
        refine jb_iconst (pc' := 79) 1 dX10_isPlaced_78 (by decide) rfl ?_
        refine jb_iadd (pc' := 80) dX10_isPlaced_79 rfl ?_
        refine jb_top (v := .int ((nI q) + 1)) (w := .int (nI (q + 1))) (jb_vI (nI_add _ 1)) ?_
        refine jb_iload_n (pc' := 81) dX10_isPlaced_80 rfl rfl ?_
        refine jb_iload_n (pc' := 82) dX10_isPlaced_81 rfl rfl ?_
        refine jb_callV (pc' := 85) (ci := 10) (q := 81) (As := [.int (nI (q + 1)), .int (nI last), .int (nI gp)]) (a2 := 0) (b2 := 0) wv_X10_52 rfl dX10_isPlaced_82 (hI (jl_up A q x) (va_up (va_up Wc 1 (upd (Wc 1) q (nI x))) 2 (upd (Wc 2) q (nI (x + (g + th q))))) (fun j hj => hT j hj) (fun j hj => jl_upA hA hj (by omega))) rfl rfl ⟨by omega, Nat.le_of_eq (Nat.zero_add _), Nat.le_of_eq (Nat.zero_add _)⟩ (Nat.le_of_ble_eq_true rfl) rfl (fun r h9 hq => ?_)
        rcases hq with ⟨W8, hf8, hp8, ⟨hX, rfl⟩ | ⟨hX, rfl⟩, rfl⟩
        · show jb_J _ RX10 cX10_isPlaced 6 (Option.some .boolean) false (m + 3) 0 0 85 [some (.ref 81), some (.int (nI q)), some (.int (nI last)), some (.int (nI gp)), some (.int (nI (g + th q))), some (.int (nI x))] [.int 1] [s0, s1, s2, s3, s4, s5, jb_sht81 Is nums Js W8, s7, s8, s9, s10, s11] _
          refine jb_if_eq (tgt := 90) (pc' := 88) dX10_isPlaced_85 (by decide) rfl (fun z => absurd z (by decide)) (fun _ => ?_)
          refine jb_iconst (pc' := 89) 1 dX10_isPlaced_88 (by decide) rfl ?_
          refine jb_iret dX10_isPlaced_89 rfl ?_
          exact ⟨W8, fun r h1 h2 => (hf8 r h1 h2).trans (((va_ne h2).trans (va_ne h1)).trans (hf r h1 h2)), fun j hj => ⟨((hp8 j (by omega)).1.trans (jb_une (by omega))).trans (hp j hj).1, ((hp8 j (by omega)).2.trans (jb_une (by omega))).trans (hp j hj).2⟩, Or.inl ⟨(jl_X.step (by omega)).mpr ⟨x, by omega, hfr, hX⟩, rfl⟩, rfl⟩
        · show jb_J _ RX10 cX10_isPlaced 6 (Option.some .boolean) false (m + 3) 0 0 85 [some (.ref 81), some (.int (nI q)), some (.int (nI last)), some (.int (nI gp)), some (.int (nI (g + th q))), some (.int (nI x))] [.int 0] [s0, s1, s2, s3, s4, s5, jb_sht81 Is nums Js W8, s7, s8, s9, s10, s11] _
          refine jb_if_eq (tgt := 90) (pc' := 88) dX10_isPlaced_85 (by decide) rfl (fun _ => ?_) (fun z => absurd (by decide) z)
          refine jb_iinc_ (pc' := 93) (nI (x + 1)) dX10_isPlaced_90 (by decide) rfl (jb_inc x 1) (jb_at5 rfl) rfl ?_
          refine jb_goto (pc' := 30) dX10_isPlaced_93 (by decide) ?_
          refine ih (x + 1) W8 (by omega) ⟨fun r h1 h2 => (hf8 r h1 h2).trans (((va_ne h2).trans (va_ne h1)).trans (hf r h1 h2)), fun j hj => ⟨((hp8 j (by omega)).1.trans (jb_une (by omega))).trans (hp j hj).1, ((hp8 j (by omega)).2.trans (jb_une (by omega))).trans (hp j hj).2⟩⟩ (fun x9 h9 z => ?_)
          by_cases e : x9 = x
          · subst e; exact hX z.2.2
          · exact hno x9 (by omega) z
      · show jb_J _ RX10 cX10_isPlaced 6 (Option.some .boolean) false (m + 3) 0 0 51 [some (.ref 81), some (.int (nI q)), some (.int (nI last)), some (.int (nI gp)), some (.int (nI (g + th q))), some (.int (nI x))] [.int 0] [s0, s1, s2, s3, s4, s5, jb_sht81 Is nums Js Wc, s7, s8, s9, s10, s11] _
        refine jb_if_ne (tgt := 57) (pc' := 54) dX10_isPlaced_51 (by decide) rfl (fun z => absurd (by decide) z) (fun _ => ?_)
        refine jb_goto (pc' := 90) dX10_isPlaced_54 (by decide) ?_
        refine jb_iinc_ (pc' := 93) (nI (x + 1)) dX10_isPlaced_90 (by decide) rfl (jb_inc x 1) (jb_at5 rfl) rfl ?_
        refine jb_goto (pc' := 30) dX10_isPlaced_93 (by decide) ?_
        refine ih (x + 1) Wc (by omega) ⟨hf, hp⟩ (fun x9 h9 z => ?_)
        by_cases e : x9 = x
        · subst e; exact hfr z.2.1
        · exact hno x9 (by omega) z
set_option maxRecDepth 100000 in
set_option maxHeartbeats 4000000 in
theorem c_placed_1 {sc : Nat × (Nat → Int32)} {s0 s1 s2 s3 s4 s5 s7 s8 s9 s10 s11 : List va_E} (Is nums Js : Nat → Int32) (g gp last k : Nat) (th : Nat → Nat) (hgp : 2 * gp = g) (hg : g ≤ 60) (hl : last ≤ 200) (hk5 : k ≤ 5) (hth : ∀ j, j < k → th j ≤ 20) (hJ : Js 0 = nI k) : ∀ (m q : Nat), q + m = k → ∀ (A : Nat → Nat) (Ws : Nat → Nat → Int32), (∀ j, j < k → Ws 0 j = nI (th j)) → (∀ j, j < q → Ws 1 j = nI (A j) ∧ Ws 2 j = nI (A j + g + th j) ∧ A j ≤ 200) → jb_C sc yX10_isPlaced cX10_isPlaced 6 (Option.some .boolean) (m + 2) 0 0 [.ref 81, .int (nI q), .int (nI last), .int (nI gp)] [s0, s1, s2, s3, s4, s5, jb_sht81 Is nums Js Ws, s7, s8, s9, s10, s11] (fun r h9 => ∃ W9, (∀ r, ¬ r = 1 → ¬ r = 2 → W9 r = Ws r) ∧ (∀ j, j < q → W9 1 j = Ws 1 j ∧ W9 2 j = Ws 2 j) ∧ ((jl_X g last th k q A ∧ r = some (.int 1)) ∨ (¬ jl_X g last th k q A ∧ r = some (.int 0))) ∧ h9 = [s0, s1, s2, s3, s4, s5, jb_sht81 Is nums Js W9, s7, s8, s9, s10, s11]) := by
  intro m
  induction m with
  | zero =>
    intro q hq A Ws hT hA
    refine jb_CofJ (ini := false) (by decide +kernel) (fun h => by cases h) (Nat.le_of_ble_eq_true rfl) ?_
    show jb_J _ RX10 cX10_isPlaced 6 (Option.some .boolean) false (0 + 2) 0 0 0 [some (.ref 81), some (.int (nI q)), some (.int (nI last)), some (.int (nI gp)), none, none] [] [s0, s1, s2, s3, s4, s5, jb_sht81 Is nums Js Ws, s7, s8, s9, s10, s11] _
    refine jb_iload_n (pc' := 1) dX10_isPlaced_0 rfl rfl ?_
    refine jb_aload_n (pc' := 2) dX10_isPlaced_1 rfl rfl ?_
    refine gf_X10_22 (pc' := 5) (v := .int (Js 0)) dX10_isPlaced_2 rfl rfl rfl ?_
    refine jb_top (v := .int (Js 0)) (w := .int (nI k)) (jb_vI hJ) ?_
    refine jb_icmp_ge (tgt := 13) (pc' := 8) dX10_isPlaced_5 (by decide) rfl (fun _ => ?_) (fun z => absurd (nI_le (a := k) (b := q) (by omega) (by omega)) z)
    refine jb_iconst (pc' := 14) 1 dX10_isPlaced_13 (by decide) rfl ?_
    refine jb_iret dX10_isPlaced_14 rfl ?_
    exact ⟨Ws, fun _ _ _ => rfl, fun _ _ => ⟨rfl, rfl⟩, Or.inl ⟨jl_X.end (by omega) A, rfl⟩, rfl⟩
  | succ m ih =>
    intro q hq A Ws hT hA
    refine jb_CofJ (ini := false) (by decide +kernel) (fun h => by cases h) (Nat.le_of_ble_eq_true rfl) ?_
    have htq := hth q (by omega)
    show jb_J _ RX10 cX10_isPlaced 6 (Option.some .boolean) false (m + 1 + 2) 0 0 0 [some (.ref 81), some (.int (nI q)), some (.int (nI last)), some (.int (nI gp)), none, none] [] [s0, s1, s2, s3, s4, s5, jb_sht81 Is nums Js Ws, s7, s8, s9, s10, s11] _
    refine jb_iload_n (pc' := 1) dX10_isPlaced_0 rfl rfl ?_
    refine jb_aload_n (pc' := 2) dX10_isPlaced_1 rfl rfl ?_
    refine gf_X10_22 (pc' := 5) (v := .int (Js 0)) dX10_isPlaced_2 rfl rfl rfl ?_
    refine jb_top (v := .int (Js 0)) (w := .int (nI k)) (jb_vI hJ) ?_
    refine jb_icmp_ge (tgt := 13) (pc' := 8) dX10_isPlaced_5 (by decide) rfl (fun z => absurd z (nI_ge (a := q) (b := k) (by omega) (by omega))) (fun _ => ?_)
    refine jb_iload_n (pc' := 9) dX10_isPlaced_8 rfl rfl ?_
    refine jb_iconst (pc' := 10) 5 dX10_isPlaced_9 (by decide) rfl ?_
    refine jb_icmp_lt (tgt := 15) (pc' := 13) dX10_isPlaced_10 (by decide) rfl (fun _ => ?_) (fun z => absurd (nI_lt (a := q) (b := 5) (by omega) (by omega)) z)
    refine jb_iconst (pc' := 16) 2 dX10_isPlaced_15 (by decide) rfl ?_
    refine jb_iload_n (pc' := 17) dX10_isPlaced_16 rfl rfl ?_
    refine jb_imul (pc' := 18) dX10_isPlaced_17 rfl ?_
    refine jb_top (v := .int (2 * (nI gp))) (w := .int (nI (2 * gp))) (jb_vI (pk_mul 2 _)) ?_
    refine jb_aload_n (pc' := 19) dX10_isPlaced_18 rfl rfl ?_
    refine gf_X10_25 (pc' := 22) (v := .ref 83) dX10_isPlaced_19 rfl rfl rfl ?_
    refine jb_iload_n (pc' := 23) dX10_isPlaced_22 rfl rfl ?_
    refine jb_iaload (pc' := 24) (i9 := q) (f := (Ws 0)) dX10_isPlaced_23 rfl (jb_ix_nI (by omega)) (by omega) rfl ?_
    refine jb_top (v := .int ((Ws 0) q)) (w := .int (nI (th q))) (jb_vI (hT q (by omega))) ?_
    refine jb_iadd (pc' := 25) dX10_isPlaced_24 rfl ?_
    refine jb_top (v := .int ((nI (2 * gp)) + (nI (th q)))) (w := .int (nI (g + th q))) (jb_vI (by rw [nI_add, hgp])) ?_
    refine jb_istore_ (pc' := 27) dX10_isPlaced_25 (by decide) (jb_at4 rfl) rfl ?_
    refine jb_iconst (pc' := 28) 0 dX10_isPlaced_27 (by decide) rfl ?_
    refine jb_istore_ (pc' := 30) dX10_isPlaced_28 (by decide) (jb_at5 rfl) rfl ?_
    exact l_placed_1 Is nums Js g gp last k th hgp hg hl hk5 hth hJ m q (by omega) A Ws hT hA (ih (q + 1) (by omega)) (last + 1) 0 Ws (by omega) ⟨fun _ _ _ => rfl, fun _ _ => ⟨rfl, rfl⟩⟩ (fun x9 h9 => absurd h9 (by omega))
set_option maxRecDepth 100000 in
set_option maxHeartbeats 4000000 in
theorem l_ins_1 {sc : Nat × (Nat → Int32)} {s0 s1 s2 s3 s4 s5 s7 s8 s9 s10 s11 : List va_E} (Is nums Js : Nat → Int32) (l : List Nat) (hl5 : l.length < 5) (v : Nat) (hv : v ≤ 20) (hl20 : ∀ t, t ∈ l → t ≤ 20) (i1 : Int32) (Q : Option Value → jb_H → Prop) : ∀ (p : Nat) (Wc : Nat → Nat → Int32), p ≤ l.length → (∀ j, j < p → Wc 0 j = nI (l.getD j 0)) → (∀ j, p < j → j ≤ l.length → Wc 0 j = nI (l.getD (j - 1) 0)) → (∀ j, p ≤ j → j < l.length → l.getD j 0 < v) → (∀ (p : Nat) (Wc : Nat → Nat → Int32), p ≤ l.length → (∀ j, j < p → Wc 0 j = nI (l.getD j 0)) → (∀ j, p < j → j ≤ l.length → Wc 0 j = nI (l.getD (j - 1) 0)) → (∀ j, p ≤ j → j < l.length → l.getD j 0 < v) → (p = 0 ∨ v ≤ l.getD (p - 1) 0) → jb_J sc RX10 cX10_gatherThinks 4 (Option.none : Option Jvm.ClassFile.FieldType) false 1 0 0 84 [some (.ref 81), some (.int i1), some (.int (nI v)), some (.int (nI p))] [] [s0, s1, s2, s3, s4, s5, jb_sht81 Is nums Js Wc, s7, s8, s9, s10, s11] Q) → jb_J sc RX10 cX10_gatherThinks 4 (Option.none : Option Jvm.ClassFile.FieldType) false 1 0 0 48 [some (.ref 81), some (.int i1), some (.int (nI v)), some (.int (nI p))] [] [s0, s1, s2, s3, s4, s5, jb_sht81 Is nums Js Wc, s7, s8, s9, s10, s11] Q := by
  intro p
  induction p with
  | zero =>
    intro Wc h1 h2 h3 h4 hQ
    show jb_J _ RX10 cX10_gatherThinks 4 (Option.none : Option Jvm.ClassFile.FieldType) false 1 0 0 48 [some (.ref 81), some (.int i1), some (.int (nI v)), some (.int (nI 0))] [] [s0, s1, s2, s3, s4, s5, jb_sht81 Is nums Js Wc, s7, s8, s9, s10, s11] _
    refine jb_iload_n (pc' := 49) dX10_gatherThinks_48 rfl rfl ?_
    refine jb_if_le (tgt := 84) (pc' := 52) dX10_gatherThinks_49 (by decide) rfl (fun _ => ?_) (fun z => absurd (by decide) z)
    exact hQ 0 Wc h1 h2 h3 h4 (Or.inl rfl)
  | succ p ih =>
    intro Wc h1 h2 h3 h4 hQ
    have b20 := hl20 (l.getD p 0) (jl_gd.mpr ⟨p, by omega, rfl⟩)
    show jb_J _ RX10 cX10_gatherThinks 4 (Option.none : Option Jvm.ClassFile.FieldType) false 1 0 0 48 [some (.ref 81), some (.int i1), some (.int (nI v)), some (.int (nI (p + 1)))] [] [s0, s1, s2, s3, s4, s5, jb_sht81 Is nums Js Wc, s7, s8, s9, s10, s11] _
    refine jb_iload_n (pc' := 49) dX10_gatherThinks_48 rfl rfl ?_
    refine jb_if_le (tgt := 84) (pc' := 52) dX10_gatherThinks_49 (by decide) rfl (fun z => absurd z (nI_nle (n := p + 1) (by omega) (by omega))) (fun _ => ?_)
    refine jb_aload_n (pc' := 53) dX10_gatherThinks_52 rfl rfl ?_
    refine gf_X10_25 (pc' := 56) (v := .ref 83) dX10_gatherThinks_53 rfl rfl rfl ?_
    refine jb_iload_n (pc' := 57) dX10_gatherThinks_56 rfl rfl ?_
    refine jb_iconst (pc' := 58) 1 dX10_gatherThinks_57 (by decide) rfl ?_
    refine jb_isub (pc' := 59) dX10_gatherThinks_58 rfl ?_
    refine jb_top (v := .int ((nI (p + 1)) - 1)) (w := .int (nI p)) (jb_vI (nI_pred _)) ?_
    refine jb_iaload (pc' := 60) (i9 := p) (f := (Wc 0)) dX10_gatherThinks_59 rfl (jb_ix_nI (by omega)) (by omega) rfl ?_
    refine jb_top (v := .int ((Wc 0) p)) (w := .int (nI (l.getD p 0))) (jb_vI (h2 p (by omega))) ?_
    refine jb_iload_n (pc' := 61) dX10_gatherThinks_60 rfl rfl ?_
    refine jb_icmp_ge (tgt := 84) (pc' := 64) dX10_gatherThinks_61 (by decide) rfl (fun c2 => ?_) (fun c2 => ?_)
    · have c2 : v ≤ (l.getD p 0) := (nI_leI (a := v) (b := (l.getD p 0)) (by omega) (by omega)).mp c2
      exact hQ (p + 1) Wc h1 h2 h3 h4 (Or.inr (by rw [Nat.add_sub_cancel]; omega))
    · have c2 : ¬ v ≤ (l.getD p 0) := fun z9 => c2 ((nI_leI (a := v) (b := (l.getD p 0)) (by omega) (by omega)).mpr z9)
      refine jb_aload_n (pc' := 65) dX10_gatherThinks_64 rfl rfl ?_
      refine gf_X10_25 (pc' := 68) (v := .ref 83) dX10_gatherThinks_65 rfl rfl rfl ?_
      refine jb_iload_n (pc' := 69) dX10_gatherThinks_68 rfl rfl ?_
      refine jb_aload_n (pc' := 70) dX10_gatherThinks_69 rfl rfl ?_
      refine gf_X10_25 (pc' := 73) (v := .ref 83) dX10_gatherThinks_70 rfl rfl rfl ?_
      refine jb_iload_n (pc' := 74) dX10_gatherThinks_73 rfl rfl ?_
      refine jb_iconst (pc' := 75) 1 dX10_gatherThinks_74 (by decide) rfl ?_
      refine jb_isub (pc' := 76) dX10_gatherThinks_75 rfl ?_
      refine jb_top (v := .int ((nI (p + 1)) - 1)) (w := .int (nI p)) (jb_vI (nI_pred _)) ?_
      refine jb_iaload (pc' := 77) (i9 := p) (f := (Wc 0)) dX10_gatherThinks_76 rfl (jb_ix_nI (by omega)) (by omega) rfl ?_
      refine jb_top (v := .int ((Wc 0) p)) (w := .int (nI (l.getD p 0))) (jb_vI (h2 p (by omega))) ?_
      refine jb_iastore (pc' := 78) (i9 := (p + 1)) (f := (Wc 0)) (h' := [s0, s1, s2, s3, s4, s5, jb_sht81 Is nums Js (va_up Wc 0 (upd (Wc 0) (p + 1) (nI (l.getD p 0)))), s7, s8, s9, s10, s11]) dX10_gatherThinks_77 rfl (jb_ix_nI (by omega)) (by omega) rfl rfl ?_
      refine jb_iinc_ (pc' := 81) (nI p) dX10_gatherThinks_78 (by decide) rfl (pk_m1 p) (jb_at3 rfl) rfl ?_
      refine jb_goto (pc' := 48) dX10_gatherThinks_81 (by decide) ?_
      refine ih (va_up Wc 0 (upd (Wc 0) (p + 1) (nI (l.getD p 0)))) (by omega) (fun j hj => ?_) (fun j h5 h6 => ?_) (fun j h5 h6 => ?_) hQ
      · show upd (Wc 0) (p + 1) (nI (l.getD p 0)) j = _
        rw [jb_une (by omega)]; exact h2 j (by omega)
      · show upd (Wc 0) (p + 1) (nI (l.getD p 0)) j = _
        by_cases e : j = p + 1
        · rw [e]; exact jb_uee
        · rw [jb_une e]; exact h3 j (by omega) h6
      · by_cases e : j = p
        · rw [e]; omega
        · exact h4 j (by omega) h6
set_option maxRecDepth 100000 in
set_option maxHeartbeats 4000000 in
theorem l_gatherT_1 {sc : Nat × (Nat → Int32)} {s0 s1 s2 s3 s4 s5 s7 s8 s9 s10 s11 : List va_E} (Is nums : Nat → Int32) (zs : Nat) (h1s : Is 1 = nI zs) (hzs : zs ≤ 40) : ∀ (n i : Nat) (acc l : List Nat) (Js : Nat → Int32) (Ws : Nat → Nat → Int32) (x2 x3 : Option Value), i + n = zs → l.Perm acc ∧ Js 0 = nI l.length ∧ l.length ≤ 5 ∧ (∀ j, j < l.length → Ws 0 j = nI (l.getD j 0)) ∧ (∀ t, t ∈ l → t ≤ 20) ∧ (∀ t, t ∈ l → t ≤ l.getD 0 0) → jb_J sc RX10 cX10_gatherThinks 4 (Option.none : Option Jvm.ClassFile.FieldType) false 1 0 0 7 [some (.ref 81), some (.int (nI i)), x2, x3] [] [s0, s1, s2, s3, s4, s5, jb_sht81 Is nums Js Ws, s7, s8, s9, s10, s11] (fun r h9 => r = none ∧ ∃ (J9 : Nat → Int32) (W9 : Nat → Nat → Int32) (l9 : List Nat), (l9.Perm (jl_ga nums n i acc) ∧ J9 0 = nI l9.length ∧ l9.length ≤ 5 ∧ (∀ j, j < l9.length → W9 0 j = nI (l9.getD j 0)) ∧ (∀ t, t ∈ l9 → t ≤ 20) ∧ (∀ t, t ∈ l9 → t ≤ l9.getD 0 0)) ∧ h9 = [s0, s1, s2, s3, s4, s5, jb_sht81 Is nums J9 W9, s7, s8, s9, s10, s11]) := by
  intro n
  induction n with
  | zero =>
    intro i acc l Js Ws x2 x3 hi ⟨p1, hJ, p2, p3, p4, p5⟩
    show jb_J _ RX10 cX10_gatherThinks 4 (Option.none : Option Jvm.ClassFile.FieldType) false 1 0 0 7 [some (.ref 81), some (.int (nI i)), x2, x3] [] [s0, s1, s2, s3, s4, s5, jb_sht81 Is nums Js Ws, s7, s8, s9, s10, s11] _
    refine jb_iload_n (pc' := 8) dX10_gatherThinks_7 rfl rfl ?_
    refine jb_aload_n (pc' := 9) dX10_gatherThinks_8 rfl rfl ?_
    refine gf_X10_15 (pc' := 12) (v := .int (Is 1)) dX10_gatherThinks_9 rfl rfl rfl ?_
    refine jb_top (v := .int (Is 1)) (w := .int (nI zs)) (jb_vI h1s) ?_
    refine jb_icmp_ge (tgt := 107) (pc' := 15) dX10_gatherThinks_12 (by decide) rfl (fun _ => ?_) (fun z => absurd (nI_le (a := zs) (b := i) (by omega) (by omega)) z)
    refine jb_vret dX10_gatherThinks_107 ?_
    exact ⟨rfl, Js, Ws, l, ⟨p1, hJ, p2, p3, p4, p5⟩, rfl⟩
  | succ n ih =>
    intro i acc l Js Ws x2 x3 hi ⟨p1, hJ, p2, p3, p4, p5⟩
    have plen := p1.length_eq
    by_cases h5 : l.length < 5
    · by_cases hv : 0 ≤ nums i ∧ nums i ≤ 20
      · obtain ⟨v, hv1, hv2, ev⟩ := jl_20.mpr hv
        have e9 : jl_ga nums (n + 1) i acc = jl_ga nums n (i + 1) (acc ++ [v]) := by
          rw [show jl_ga nums (n + 1) i acc = (if acc.length < 5 then (if 0 ≤ nums i ∧ nums i ≤ 20 then jl_ga nums n (i + 1) (acc ++ [(nums i).toNatClampNeg]) else jl_ga nums n (i + 1) acc) else acc) from rfl, if_pos (by omega), if_pos hv, ev, nI_clamp (by omega)]
        rw [e9]
        show jb_J _ RX10 cX10_gatherThinks 4 (Option.none : Option Jvm.ClassFile.FieldType) false 1 0 0 7 [some (.ref 81), some (.int (nI i)), x2, x3] [] [s0, s1, s2, s3, s4, s5, jb_sht81 Is nums Js Ws, s7, s8, s9, s10, s11] _
        refine jb_iload_n (pc' := 8) dX10_gatherThinks_7 rfl rfl ?_
        refine jb_aload_n (pc' := 9) dX10_gatherThinks_8 rfl rfl ?_
        refine gf_X10_15 (pc' := 12) (v := .int (Is 1)) dX10_gatherThinks_9 rfl rfl rfl ?_
        refine jb_top (v := .int (Is 1)) (w := .int (nI zs)) (jb_vI h1s) ?_
        refine jb_icmp_ge (tgt := 107) (pc' := 15) dX10_gatherThinks_12 (by decide) rfl (fun z => absurd z (nI_ge (a := i) (b := zs) (by omega) (by omega))) (fun _ => ?_)
        refine jb_aload_n (pc' := 16) dX10_gatherThinks_15 rfl rfl ?_
        refine gf_X10_22 (pc' := 19) (v := .int (Js 0)) dX10_gatherThinks_16 rfl rfl rfl ?_
        refine jb_top (v := .int (Js 0)) (w := .int (nI l.length)) (jb_vI hJ) ?_
        refine jb_iconst (pc' := 20) 5 dX10_gatherThinks_19 (by decide) rfl ?_
        refine jb_icmp_ge (tgt := 107) (pc' := 23) dX10_gatherThinks_20 (by decide) rfl (fun z => absurd z (nI_ge (a := l.length) (b := 5) (by omega) (by omega))) (fun _ => ?_)
        refine jb_aload_n (pc' := 24) dX10_gatherThinks_23 rfl rfl ?_
        refine gf_X10_18 (pc' := 27) (v := .ref 82) dX10_gatherThinks_24 rfl rfl rfl ?_
        refine jb_iload_n (pc' := 28) dX10_gatherThinks_27 rfl rfl ?_
        refine jb_iaload (pc' := 29) (i9 := i) (f := nums) dX10_gatherThinks_28 rfl (jb_ix_nI (by omega)) (by omega) rfl ?_
        refine jb_top (v := .int (nums i)) (w := .int (nI v)) (jb_vI ev) ?_
        refine jb_istore_n_ (pc' := 30) dX10_gatherThinks_29 (by decide) (jb_at2 rfl) rfl ?_
        refine jb_iload_n (pc' := 31) dX10_gatherThinks_30 rfl rfl ?_
        refine jb_iconst (pc' := 32) 0 dX10_gatherThinks_31 (by decide) rfl ?_
        refine jb_bipush (pc' := 34) 20 dX10_gatherThinks_32 (by decide) rfl ?_
        refine jb_callSN (pc' := 37) (As := [.int (nI v), .int 0, .int 20]) (a2 := 0) (b2 := 0) wv_X10_56 dX10_gatherThinks_34 (c_isOutLG v 0 20 (by omega) (by omega) (by omega)) rfl ⟨by decide, Nat.le_of_eq (Nat.zero_add _), Nat.le_of_eq (Nat.zero_add _)⟩ (Nat.le_of_ble_eq_true rfl) rfl (fun r h9 hq => ?_)
        obtain ⟨rfl, rfl⟩ := hq
        show jb_J _ RX10 cX10_gatherThinks 4 (Option.none : Option Jvm.ClassFile.FieldType) false 1 0 0 37 [some (.ref 81), some (.int (nI i)), some (.int (nI v)), x3] [.int 0] [s0, s1, s2, s3, s4, s5, jb_sht81 Is nums Js Ws, s7, s8, s9, s10, s11] _
        refine jb_if_eq (tgt := 43) (pc' := 40) dX10_gatherThinks_37 (by decide) rfl (fun _ => ?_) (fun z => absurd (by decide) z)
        refine jb_aload_n (pc' := 44) dX10_gatherThinks_43 rfl rfl ?_
        refine gf_X10_22 (pc' := 47) (v := .int (Js 0)) dX10_gatherThinks_44 rfl rfl rfl ?_
        refine jb_top (v := .int (Js 0)) (w := .int (nI l.length)) (jb_vI hJ) ?_
        refine jb_istore_n_ (pc' := 48) dX10_gatherThinks_47 (by decide) (jb_at3 rfl) rfl ?_
        refine l_ins_1 Is nums Js l h5 v (by omega) p4 (nI i) _ l.length Ws (Nat.le_refl _) p3 (fun j h6 h7 => absurd h7 (by omega)) (fun j h6 h7 => absurd h7 (by omega)) (fun p Wc i1 i2 i3 i4 i5 => ?_)
        obtain ⟨g1, g2, g3, g4, g6⟩ := jl_ins (v := v) i1
        show jb_J _ RX10 cX10_gatherThinks 4 (Option.none : Option Jvm.ClassFile.FieldType) false 1 0 0 84 [some (.ref 81), some (.int (nI i)), some (.int (nI v)), some (.int (nI p))] [] [s0, s1, s2, s3, s4, s5, jb_sht81 Is nums Js Wc, s7, s8, s9, s10, s11] _
        refine jb_aload_n (pc' := 85) dX10_gatherThinks_84 rfl rfl ?_
        refine gf_X10_25 (pc' := 88) (v := .ref 83) dX10_gatherThinks_85 rfl rfl rfl ?_
        refine jb_iload_n (pc' := 89) dX10_gatherThinks_88 rfl rfl ?_
        refine jb_iload_n (pc' := 90) dX10_gatherThinks_89 rfl rfl ?_
        refine jb_iastore (pc' := 91) (i9 := p) (f := (Wc 0)) (h' := [s0, s1, s2, s3, s4, s5, jb_sht81 Is nums Js (va_up Wc 0 (upd (Wc 0) p (nI v))), s7, s8, s9, s10, s11]) dX10_gatherThinks_90 rfl (jb_ix_nI (by omega)) (by omega) rfl rfl ?_
        refine jb_aload_n (pc' := 92) dX10_gatherThinks_91 rfl rfl ?_
        refine jb_dup (pc' := 93) dX10_gatherThinks_92 rfl rfl ?_
        refine gf_X10_22 (pc' := 96) (v := .int (Js 0)) dX10_gatherThinks_93 rfl rfl rfl ?_
        refine jb_top (v := .int (Js 0)) (w := .int (nI l.length)) (jb_vI hJ) ?_
        refine jb_iconst (pc' := 97) 1 dX10_gatherThinks_96 (by decide) rfl ?_
        refine jb_iadd (pc' := 98) dX10_gatherThinks_97 rfl ?_
        refine jb_top (v := .int ((nI l.length) + 1)) (w := .int (nI (l.length + 1))) (jb_vI (nI_add _ 1)) ?_
        refine pf_X10_22 (pc' := 101) (h' := [s0, s1, s2, s3, s4, s5, jb_sht81 Is nums (upd Js 0 (nI (l.length + 1))) (va_up Wc 0 (upd (Wc 0) p (nI v))), s7, s8, s9, s10, s11]) dX10_gatherThinks_98 (fun _ => ⟨rfl, rfl⟩) rfl (Nat.le_of_ble_eq_true rfl) rfl rfl ?_
        refine jb_iinc_ (pc' := 104) (nI (i + 1)) dX10_gatherThinks_101 (by decide) rfl (jb_inc i 1) (jb_at1 rfl) rfl ?_
        refine jb_goto (pc' := 7) dX10_gatherThinks_104 (by decide) ?_
        refine ih (i + 1) (acc ++ [v]) (l.take p ++ v :: l.drop p) (upd Js 0 (nI (l.length + 1))) (va_up Wc 0 (upd (Wc 0) p (nI v))) _ _ (by omega) ⟨?_, ?_, by omega, fun j hj => ?_, fun t ht => ?_, jl_ins_mx i1 p5 i4 i5⟩
        · exact (g6.trans (p1.cons v)).trans (List.perm_append_comm (l₁ := [v]) (l₂ := acc))
        · rw [g1]; rfl
        · show upd (Wc 0) p (nI v) j = _
          rcases Nat.lt_trichotomy j p with q | q | q
          · rw [jb_une (by omega), g2 j q]; exact i2 j q
          · rw [q, g3]; exact jb_uee
          · rw [jb_une (by omega), g4 j q]; exact i3 j q (by omega)
        · rcases List.mem_cons.mp (g6.mem_iff.mp ht) with e | e
          · omega
          · exact p4 t e
      · have e9 : jl_ga nums (n + 1) i acc = jl_ga nums n (i + 1) acc := by
          rw [show jl_ga nums (n + 1) i acc = (if acc.length < 5 then (if 0 ≤ nums i ∧ nums i ≤ 20 then jl_ga nums n (i + 1) (acc ++ [(nums i).toNatClampNeg]) else jl_ga nums n (i + 1) acc) else acc) from rfl, if_pos (by omega), if_neg hv]
        rw [e9]
        show jb_J _ RX10 cX10_gatherThinks 4 (Option.none : Option Jvm.ClassFile.FieldType) false 1 0 0 7 [some (.ref 81), some (.int (nI i)), x2, x3] [] [s0, s1, s2, s3, s4, s5, jb_sht81 Is nums Js Ws, s7, s8, s9, s10, s11] _
        refine jb_iload_n (pc' := 8) dX10_gatherThinks_7 rfl rfl ?_
        refine jb_aload_n (pc' := 9) dX10_gatherThinks_8 rfl rfl ?_
        refine gf_X10_15 (pc' := 12) (v := .int (Is 1)) dX10_gatherThinks_9 rfl rfl rfl ?_
        refine jb_top (v := .int (Is 1)) (w := .int (nI zs)) (jb_vI h1s) ?_
        refine jb_icmp_ge (tgt := 107) (pc' := 15) dX10_gatherThinks_12 (by decide) rfl (fun z => absurd z (nI_ge (a := i) (b := zs) (by omega) (by omega))) (fun _ => ?_)
        refine jb_aload_n (pc' := 16) dX10_gatherThinks_15 rfl rfl ?_
        refine gf_X10_22 (pc' := 19) (v := .int (Js 0)) dX10_gatherThinks_16 rfl rfl rfl ?_
        refine jb_top (v := .int (Js 0)) (w := .int (nI l.length)) (jb_vI hJ) ?_
        refine jb_iconst (pc' := 20) 5 dX10_gatherThinks_19 (by decide) rfl ?_
        refine jb_icmp_ge (tgt := 107) (pc' := 23) dX10_gatherThinks_20 (by decide) rfl (fun z => absurd z (nI_ge (a := l.length) (b := 5) (by omega) (by omega))) (fun _ => ?_)
        refine jb_aload_n (pc' := 24) dX10_gatherThinks_23 rfl rfl ?_
        refine gf_X10_18 (pc' := 27) (v := .ref 82) dX10_gatherThinks_24 rfl rfl rfl ?_
        refine jb_iload_n (pc' := 28) dX10_gatherThinks_27 rfl rfl ?_
        refine jb_iaload (pc' := 29) (i9 := i) (f := nums) dX10_gatherThinks_28 rfl (jb_ix_nI (by omega)) (by omega) rfl ?_
        refine jb_istore_n_ (pc' := 30) dX10_gatherThinks_29 (by decide) (jb_at2 rfl) rfl ?_
        refine jb_iload_n (pc' := 31) dX10_gatherThinks_30 rfl rfl ?_
        refine jb_iconst (pc' := 32) 0 dX10_gatherThinks_31 (by decide) rfl ?_
        refine jb_bipush (pc' := 34) 20 dX10_gatherThinks_32 (by decide) rfl ?_
        refine jb_callSN (pc' := 37) (As := [.int (nums i), .int 0, .int 20]) (a2 := 0) (b2 := 0) wv_X10_56 dX10_gatherThinks_34 (c_isOutL (nums i) 0 20 (by omega) (by omega)) rfl ⟨by decide, Nat.le_of_eq (Nat.zero_add _), Nat.le_of_eq (Nat.zero_add _)⟩ (Nat.le_of_ble_eq_true rfl) rfl (fun r h9 hq => ?_)
        rcases hq with ⟨rfl, ⟨o3, rfl⟩ | ⟨o3, rfl⟩⟩
        · show jb_J _ RX10 cX10_gatherThinks 4 (Option.none : Option Jvm.ClassFile.FieldType) false 1 0 0 37 [some (.ref 81), some (.int (nI i)), some (.int (nums i)), x3] [.int 1] [s0, s1, s2, s3, s4, s5, jb_sht81 Is nums Js Ws, s7, s8, s9, s10, s11] _
          refine jb_if_eq (tgt := 43) (pc' := 40) dX10_gatherThinks_37 (by decide) rfl (fun z => absurd z (by decide)) (fun _ => ?_)
          refine jb_goto (pc' := 101) dX10_gatherThinks_40 (by decide) ?_
          refine jb_iinc_ (pc' := 104) (nI (i + 1)) dX10_gatherThinks_101 (by decide) rfl (jb_inc i 1) (jb_at1 rfl) rfl ?_
          refine jb_goto (pc' := 7) dX10_gatherThinks_104 (by decide) ?_
          exact ih (i + 1) acc l Js Ws _ _ (by omega) ⟨p1, hJ, p2, p3, p4, p5⟩
        · exact absurd (jl_20.mp (by assumption)) hv
    · have e9 : jl_ga nums (n + 1) i acc = acc := if_neg (by omega)
      rw [e9]
      show jb_J _ RX10 cX10_gatherThinks 4 (Option.none : Option Jvm.ClassFile.FieldType) false 1 0 0 7 [some (.ref 81), some (.int (nI i)), x2, x3] [] [s0, s1, s2, s3, s4, s5, jb_sht81 Is nums Js Ws, s7, s8, s9, s10, s11] _
      refine jb_iload_n (pc' := 8) dX10_gatherThinks_7 rfl rfl ?_
      refine jb_aload_n (pc' := 9) dX10_gatherThinks_8 rfl rfl ?_
      refine gf_X10_15 (pc' := 12) (v := .int (Is 1)) dX10_gatherThinks_9 rfl rfl rfl ?_
      refine jb_top (v := .int (Is 1)) (w := .int (nI zs)) (jb_vI h1s) ?_
      refine jb_icmp_ge (tgt := 107) (pc' := 15) dX10_gatherThinks_12 (by decide) rfl (fun z => absurd z (nI_ge (a := i) (b := zs) (by omega) (by omega))) (fun _ => ?_)
      refine jb_aload_n (pc' := 16) dX10_gatherThinks_15 rfl rfl ?_
      refine gf_X10_22 (pc' := 19) (v := .int (Js 0)) dX10_gatherThinks_16 rfl rfl rfl ?_
      refine jb_top (v := .int (Js 0)) (w := .int (nI l.length)) (jb_vI hJ) ?_
      refine jb_iconst (pc' := 20) 5 dX10_gatherThinks_19 (by decide) rfl ?_
      refine jb_icmp_ge (tgt := 107) (pc' := 23) dX10_gatherThinks_20 (by decide) rfl (fun _ => ?_) (fun z => absurd (nI_le (a := 5) (b := l.length) (by omega) (by omega)) z)
      refine jb_vret dX10_gatherThinks_107 ?_
      exact ⟨rfl, Js, Ws, l, ⟨p1, hJ, p2, p3, p4, p5⟩, rfl⟩
set_option maxRecDepth 100000 in
set_option maxHeartbeats 4000000 in
theorem c_gatherT_1 {sc : Nat × (Nat → Int32)} {s0 s1 s2 s3 s4 s5 s7 s8 s9 s10 s11 : List va_E} (Is nums Js : Nat → Int32) (Ws : Nat → Nat → Int32) (zs : Nat) (h1s : Is 1 = nI zs) (hzs : zs ≤ 40) : jb_C sc yX10_gatherThinks cX10_gatherThinks 4 (Option.none : Option Jvm.ClassFile.FieldType) 1 0 0 [.ref 81] [s0, s1, s2, s3, s4, s5, jb_sht81 Is nums Js Ws, s7, s8, s9, s10, s11] (fun r h9 => r = none ∧ ∃ (J9 : Nat → Int32) (W9 : Nat → Nat → Int32) (l9 : List Nat), (l9.Perm (jl_ga nums zs 0 []) ∧ J9 0 = nI l9.length ∧ l9.length ≤ 5 ∧ (∀ j, j < l9.length → W9 0 j = nI (l9.getD j 0)) ∧ (∀ t, t ∈ l9 → t ≤ 20) ∧ (∀ t, t ∈ l9 → t ≤ l9.getD 0 0)) ∧ h9 = [s0, s1, s2, s3, s4, s5, jb_sht81 Is nums J9 W9, s7, s8, s9, s10, s11]) := by
  refine jb_CofJ (ini := false) (by decide +kernel) (fun h => by cases h) (Nat.le_of_ble_eq_true rfl) ?_
  show jb_J sc RX10 cX10_gatherThinks 4 (Option.none : Option Jvm.ClassFile.FieldType) false 1 0 0 0 [some (.ref 81), none, none, none] [] [s0, s1, s2, s3, s4, s5, jb_sht81 Is nums Js Ws, s7, s8, s9, s10, s11] _
  refine jb_aload_n (pc' := 1) dX10_gatherThinks_0 rfl rfl ?_
  refine jb_iconst (pc' := 2) 0 dX10_gatherThinks_1 (by decide) rfl ?_
  refine pf_X10_22 (pc' := 5) (h' := [s0, s1, s2, s3, s4, s5, jb_sht81 Is nums (upd Js 0 0) Ws, s7, s8, s9, s10, s11]) dX10_gatherThinks_2 (fun _ => ⟨rfl, rfl⟩) rfl (Nat.le_of_ble_eq_true rfl) rfl rfl ?_
  refine jb_iconst (pc' := 6) 0 dX10_gatherThinks_5 (by decide) rfl ?_
  refine jb_istore_n_ (pc' := 7) dX10_gatherThinks_6 (by decide) (jb_at1 rfl) rfl ?_
  exact l_gatherT_1 Is nums zs h1s hzs zs 0 [] [] (upd Js 0 0) Ws _ _ (by omega) ⟨List.Perm.refl _, rfl, by decide, fun j hj => absurd hj (Nat.not_lt_zero _), fun t ht => (by cases ht), fun t ht => (by cases ht)⟩
set_option maxRecDepth 100000 in
set_option maxHeartbeats 4000000 in
theorem l_last_1 {sc : Nat × (Nat → Int32)} {s0 s1 s2 s3 s4 s5 s7 s8 s9 s10 s11 : List va_E} (Is nums Js : Nat → Int32) (g gp b0 : Nat) (l : List Nat) (hgp : 2 * gp = g) (hg : g ≤ 60) (hl5 : l.length ≤ 5) (hl20 : ∀ t, t ∈ l → t ≤ 20) (hb0 : b0 ≤ 80) (hbt : ∀ t, t ∈ l → g + t ≤ b0) (hJ : Js 0 = nI l.length) : ∀ (n sp : Nat) (Ws : Nat → Nat → Int32), sp + n = 16 → (∀ j, j < l.length → Ws 0 j = nI (l.getD j 0)) → (∀ u, b0 ≤ u → u < b0 + sp → ¬ jl_P g u l) → jb_J sc RX10 cX10_lastAnswer 4 (Option.some .int) false 8 0 0 26 [some (.ref 81), some (.int (nI gp)), some (.int (nI (b0 + sp))), some (.int (nI sp))] [] [s0, s1, s2, s3, s4, s5, jb_sht81 Is nums Js Ws, s7, s8, s9, s10, s11] (fun r h9 => ∃ v W9, jl_L g b0 l v ∧ r = some (.int (nI v)) ∧ h9 = [s0, s1, s2, s3, s4, s5, jb_sht81 Is nums Js W9, s7, s8, s9, s10, s11]) := by
  intro n
  induction n with
  | zero =>
    intro sp Ws hsp hT hno
    obtain rfl : sp = 16 := by omega
    show jb_J _ RX10 cX10_lastAnswer 4 (Option.some .int) false 8 0 0 26 [some (.ref 81), some (.int (nI gp)), some (.int (nI (b0 + 16))), some (.int (nI 16))] [] [s0, s1, s2, s3, s4, s5, jb_sht81 Is nums Js Ws, s7, s8, s9, s10, s11] _
    refine jb_iload_n (pc' := 27) dX10_lastAnswer_26 rfl rfl ?_
    refine jb_bipush (pc' := 29) 16 dX10_lastAnswer_27 (by decide) rfl ?_
    refine jb_icmp_ge (tgt := 51) (pc' := 32) dX10_lastAnswer_29 (by decide) rfl (fun _ => ?_) (fun z => absurd (by decide) z)
    refine jb_iload_n (pc' := 52) dX10_lastAnswer_51 rfl rfl ?_
    refine jb_iret dX10_lastAnswer_52 rfl ?_
    exact ⟨b0 + 16, Ws, ⟨by omega, by omega, jl_free l hl5 hbt, hno⟩, rfl, rfl⟩
  | succ n ih =>
    intro sp Ws hsp hT hno
    show jb_J _ RX10 cX10_lastAnswer 4 (Option.some .int) false 8 0 0 26 [some (.ref 81), some (.int (nI gp)), some (.int (nI (b0 + sp))), some (.int (nI sp))] [] [s0, s1, s2, s3, s4, s5, jb_sht81 Is nums Js Ws, s7, s8, s9, s10, s11] _
    refine jb_iload_n (pc' := 27) dX10_lastAnswer_26 rfl rfl ?_
    refine jb_bipush (pc' := 29) 16 dX10_lastAnswer_27 (by decide) rfl ?_
    refine jb_icmp_ge (tgt := 51) (pc' := 32) dX10_lastAnswer_29 (by decide) rfl (fun z => absurd z (nI_ge (a := sp) (b := 16) (by omega) (by omega))) (fun _ => ?_)
    refine jb_aload_n (pc' := 33) dX10_lastAnswer_32 rfl rfl ?_
    refine jb_iconst (pc' := 34) 0 dX10_lastAnswer_33 (by decide) rfl ?_
    refine jb_iload_n (pc' := 35) dX10_lastAnswer_34 rfl rfl ?_
    refine jb_iload_n (pc' := 36) dX10_lastAnswer_35 rfl rfl ?_
    refine jb_callV (pc' := 39) (ci := 10) (q := 81) (As := [.int 0, .int (nI (b0 + sp)), .int (nI gp)]) (a2 := 0) (b2 := 0) wv_X10_52 rfl dX10_lastAnswer_36 (c_placed_1 Is nums Js g gp (b0 + sp) l.length (fun j => l.getD j 0) hgp hg (by omega) hl5 (fun j hj => hl20 _ (jl_gd.mpr ⟨j, hj, rfl⟩)) hJ l.length 0 (by omega) (fun _ => 0) Ws hT (fun j hj => absurd hj (Nat.not_lt_zero _))) rfl rfl ⟨by omega, Nat.le_of_eq (Nat.zero_add _), Nat.le_of_eq (Nat.zero_add _)⟩ (Nat.le_of_ble_eq_true rfl) rfl (fun r h9 hq => ?_)
    rcases hq with ⟨W8, hf8, -, ⟨hX, rfl⟩ | ⟨hX, rfl⟩, rfl⟩
    · show jb_J _ RX10 cX10_lastAnswer 4 (Option.some .int) false 8 0 0 39 [some (.ref 81), some (.int (nI gp)), some (.int (nI (b0 + sp))), some (.int (nI sp))] [.int 1] [s0, s1, s2, s3, s4, s5, jb_sht81 Is nums Js W8, s7, s8, s9, s10, s11] _
      refine jb_if_ne (tgt := 51) (pc' := 42) dX10_lastAnswer_39 (by decide) rfl (fun _ => ?_) (fun z => absurd z (by decide))
      refine jb_iload_n (pc' := 52) dX10_lastAnswer_51 rfl rfl ?_
      refine jb_iret dX10_lastAnswer_52 rfl ?_
      exact ⟨b0 + sp, W8, ⟨by omega, by omega, jl_XP.mp hX, hno⟩, rfl, rfl⟩
    · show jb_J _ RX10 cX10_lastAnswer 4 (Option.some .int) false 8 0 0 39 [some (.ref 81), some (.int (nI gp)), some (.int (nI (b0 + sp))), some (.int (nI sp))] [.int 0] [s0, s1, s2, s3, s4, s5, jb_sht81 Is nums Js W8, s7, s8, s9, s10, s11] _
      refine jb_if_ne (tgt := 51) (pc' := 42) dX10_lastAnswer_39 (by decide) rfl (fun z => absurd (by decide) z) (fun _ => ?_)
      refine jb_iinc_ (pc' := 45) (nI (b0 + (sp + 1))) dX10_lastAnswer_42 (by decide) rfl (jb_inc (b0 + sp) 1) (jb_at2 rfl) rfl ?_
      refine jb_iinc_ (pc' := 48) (nI (sp + 1)) dX10_lastAnswer_45 (by decide) rfl (jb_inc sp 1) (jb_at3 rfl) rfl ?_
      refine jb_goto (pc' := 26) dX10_lastAnswer_48 (by decide) ?_
      exact ih (sp + 1) W8 (by omega) (fun j hj => by rw [hf8 0 (by decide) (by decide)]; exact hT j hj) (fun u h1 h2 => by
        by_cases e : u = b0 + sp
        · rw [e]; exact fun z => hX (jl_XP.mpr z)
        · exact hno u h1 (by omega))
set_option maxRecDepth 100000 in
set_option maxHeartbeats 4000000 in
theorem c_lastA_1 {sc : Nat × (Nat → Int32)} {s0 s1 s2 s3 s4 s5 s7 s8 s9 s10 s11 : List va_E} (Is nums Js : Nat → Int32) (Ws : Nat → Nat → Int32) (zs : Nat) (h1s : Is 1 = nI zs) (hzs : zs ≤ 40) (g gp : Nat) (hgp : 2 * gp = g) (hg : g ≤ 60) : jb_C sc yX10_lastAnswer cX10_lastAnswer 4 (Option.some .int) 8 0 0 [.ref 81, .int (nI gp)] [s0, s1, s2, s3, s4, s5, jb_sht81 Is nums Js Ws, s7, s8, s9, s10, s11] (fun r h9 => ∃ J9 W9, (((jl_ga nums zs 0 []) = [] ∧ r = some (.int (-1))) ∨ (∃ M9 v, jl_mx M9 (jl_ga nums zs 0 []) ∧ jl_L g (g + M9) (jl_ga nums zs 0 []) v ∧ r = some (.int (nI v)))) ∧ h9 = [s0, s1, s2, s3, s4, s5, jb_sht81 Is nums J9 W9, s7, s8, s9, s10, s11]) := by
  refine jb_CofJ (ini := false) (by decide +kernel) (fun h => by cases h) (Nat.le_of_ble_eq_true rfl) ?_
  show jb_J sc RX10 cX10_lastAnswer 4 (Option.some .int) false 8 0 0 0 [some (.ref 81), some (.int (nI gp)), none, none] [] [s0, s1, s2, s3, s4, s5, jb_sht81 Is nums Js Ws, s7, s8, s9, s10, s11] _
  refine jb_aload_n (pc' := 1) dX10_lastAnswer_0 rfl rfl ?_
  refine jb_callV (pc' := 4) (ci := 10) (q := 81) (As := []) (a2 := 0) (b2 := 0) wv_X10_49 rfl dX10_lastAnswer_1 (c_gatherT_1 Is nums Js Ws zs h1s hzs) rfl rfl ⟨by decide, Nat.le_of_eq (Nat.zero_add _), Nat.le_of_eq (Nat.zero_add _)⟩ (Nat.le_of_ble_eq_true rfl) rfl (fun r h9 hq => ?_)
  obtain ⟨rfl, J8, W8, l, ⟨p1, hJ, p2, p3, p4, p5⟩, rfl⟩ := hq
  show jb_J _ RX10 cX10_lastAnswer 4 (Option.some .int) false 8 0 0 4 [some (.ref 81), some (.int (nI gp)), none, none] [] [s0, s1, s2, s3, s4, s5, jb_sht81 Is nums J8 W8, s7, s8, s9, s10, s11] _
  refine jb_aload_n (pc' := 5) dX10_lastAnswer_4 rfl rfl ?_
  refine gf_X10_22 (pc' := 8) (v := .int (J8 0)) dX10_lastAnswer_5 rfl rfl rfl ?_
  refine jb_top (v := .int (J8 0)) (w := .int (nI l.length)) (jb_vI hJ) ?_
  refine jb_if_ne (tgt := 13) (pc' := 11) dX10_lastAnswer_8 (by decide) rfl (fun hz0 => ?_) (fun hz0 => ?_)
  · have hz0 : ¬ l.length = 0 := fun z9 => hz0 ((nI_eq (a := l.length) (b := 0) (by omega) (by omega)).mpr z9)
    refine jb_iconst (pc' := 14) 2 dX10_lastAnswer_13 (by decide) rfl ?_
    refine jb_iload_n (pc' := 15) dX10_lastAnswer_14 rfl rfl ?_
    refine jb_imul (pc' := 16) dX10_lastAnswer_15 rfl ?_
    refine jb_top (v := .int (2 * (nI gp))) (w := .int (nI (2 * gp))) (jb_vI (pk_mul 2 _)) ?_
    refine jb_aload_n (pc' := 17) dX10_lastAnswer_16 rfl rfl ?_
    refine gf_X10_25 (pc' := 20) (v := .ref 83) dX10_lastAnswer_17 rfl rfl rfl ?_
    refine jb_iconst (pc' := 21) 0 dX10_lastAnswer_20 (by decide) rfl ?_
    refine jb_iaload (pc' := 22) (i9 := 0) (f := (W8 0)) dX10_lastAnswer_21 rfl jb_x0 (by decide) rfl ?_
    refine jb_top (v := .int ((W8 0) 0)) (w := .int (nI (l.getD 0 0))) (jb_vI (p3 0 (by omega))) ?_
    refine jb_iadd (pc' := 23) dX10_lastAnswer_22 rfl ?_
    refine jb_top (v := .int ((nI (2 * gp)) + (nI (l.getD 0 0)))) (w := .int (nI (g + l.getD 0 0))) (jb_vI (by rw [nI_add, hgp])) ?_
    refine jb_istore_n_ (pc' := 24) dX10_lastAnswer_23 (by decide) (jb_at2 rfl) rfl ?_
    refine jb_iconst (pc' := 25) 0 dX10_lastAnswer_24 (by decide) rfl ?_
    refine jb_istore_n_ (pc' := 26) dX10_lastAnswer_25 (by decide) (jb_at3 rfl) rfl ?_
    have hm0 : l.getD 0 0 ∈ l := jl_gd.mpr ⟨0, by omega, rfl⟩
    have b20 := p4 _ hm0
    refine jb_J.mono (l_last_1 Is nums J8 g gp (g + l.getD 0 0) l hgp hg p2 p4 (by omega) (fun t ht => by have := p5 t ht; omega) hJ 16 0 W8 (by omega) p3 (fun u h1 h2 => absurd h2 (by omega))) (Nat.le_refl _) (Nat.le_refl _) (Nat.le_refl _) (fun r h9 hq => ?_)
    obtain ⟨v, W9, hL, rfl, rfl⟩ := hq
    refine ⟨J8, W9, Or.inr ⟨l.getD 0 0, v, ⟨p1.mem_iff.mp hm0, fun t ht => p5 t (p1.mem_iff.mpr ht)⟩, ⟨hL.1, hL.2.1, hL.2.2.1.perm p1, fun u h1 h2 z => hL.2.2.2 u h1 h2 (z.perm p1.symm)⟩, rfl⟩, rfl⟩
  · have hz0 : l.length = 0 := (nI_eq (a := l.length) (b := 0) (by omega) (by omega)).mp hz0
    refine jb_iconst (pc' := 12) (-1) dX10_lastAnswer_11 (by decide) rfl ?_
    refine jb_iret dX10_lastAnswer_12 rfl ?_
    have l0 : l = [] := List.eq_nil_of_length_eq_zero (by omega)
    subst l0
    exact ⟨J8, W8, Or.inl ⟨p1.nil_eq.symm, rfl⟩, rfl⟩
set_option maxRecDepth 100000 in
set_option maxHeartbeats 4000000 in
theorem kx_lesson_1 {sc : Nat × (Nat → Int32)} {s2 s3 s5 s7 s8 s9 s10 s11 : List va_E} {V : Nat → Nat → Nat} (imm : Int32) (Im rowm stkm tpm : Nat → Int32) (Tm : Nat → Value) (I : Nat → Int32) (W : Nat → Nat → Int32) (T : Nat → Value) (Is nums Js : Nat → Int32) (Ws : Nat → Nat → Int32) (hr : jr_ V I W) (hk : jv_ok V) {bs zs : Nat} (h0s : Is 0 = nI bs) (h1s : Is 1 = nI zs) (hbs : bs ≤ 32) (hzs : zs ≤ 40) (hm : ¬ bs = 0) : jb_C sc yX11_lesson cX11_lesson 2 (Option.some .int) 9 0 0 [.ref 0, .int 1] [jb_main imm Im Tm rowm stkm tpm, jb_sch13 I W T, s2, s3, jb_shs, s5, jb_sht81 Is nums Js Ws, s7, s8, s9, s10, s11] (fun r h9 => ∃ J9 W9, (((jl_ga nums zs 0 []) = [] ∧ r = some (.int (-1))) ∨ (∃ M9 v, jl_mx M9 (jl_ga nums zs 0 []) ∧ jl_L (2 * (V 0 4 + V 0 5)) ((2 * (V 0 4 + V 0 5)) + M9) (jl_ga nums zs 0 []) v ∧ r = some (.int (nI v)))) ∧ h9 = [jb_main imm Im Tm rowm stkm tpm, jb_sch13 I W T, s2, s3, jb_shs, s5, jb_sht81 Is nums J9 W9, s7, s8, s9, s10, s11]) := by
  refine jb_CofJ (ini := false) (by decide +kernel) (fun h => by cases h) (Nat.le_of_ble_eq_true rfl) ?_
  show jb_J sc RX11 cX11_lesson 2 (Option.some .int) false 9 0 0 0 [some (.ref 0), some (.int 1)] [] [jb_main imm Im Tm rowm stkm tpm, jb_sch13 I W T, s2, s3, jb_shs, s5, jb_sht81 Is nums Js Ws, s7, s8, s9, s10, s11] _
  have hr0 := hr
  have hk0 := hk
  obtain ⟨r0, r2, r3, r4, a0, a1, a2, rv, rs, rd⟩ := hr
  obtain ⟨k0, k1, k2, k3, k4, k5, k6, k7, kv, ks, kd⟩ := hk
  refine jb_aload_n (pc' := 1) dX11_lesson_0 rfl rfl ?_
  refine jb_iload_n (pc' := 2) dX11_lesson_1 rfl rfl ?_
  refine jb_callV (pc' := 5) (ci := 11) (q := 0) (As := [.int 1]) (a2 := 0) (b2 := 0) wv_X11_165 rfl dX11_lesson_2 (c_isNoSheetG _ 1 (by omega)) rfl rfl ⟨by decide, Nat.le_of_eq (Nat.zero_add _), Nat.le_of_eq (Nat.zero_add _)⟩ (Nat.le_of_ble_eq_true rfl) rfl (fun r h9 hq => ?_)
  obtain ⟨rfl, rfl⟩ := hq
  show jb_J _ RX11 cX11_lesson 2 (Option.some .int) false 9 0 0 5 [some (.ref 0), some (.int 1)] [.int 0] [jb_main imm Im Tm rowm stkm tpm, jb_sch13 I W T, s2, s3, jb_shs, s5, jb_sht81 Is nums Js Ws, s7, s8, s9, s10, s11] _
  refine jb_if_eq (tgt := 14) (pc' := 8) dX11_lesson_5 (by decide) rfl (fun _ => ?_) (fun z => absurd (by decide) z)
  refine jb_aload_n (pc' := 15) dX11_lesson_14 rfl rfl ?_
  refine gf_X11_54 (pc' := 18) (v := .ref 73) dX11_lesson_15 rfl rfl rfl ?_
  refine jb_iload_n (pc' := 19) dX11_lesson_18 rfl rfl ?_
  refine jb_aaload (pc' := 20) (i9 := 1) (r := 81) (Or.inr (Or.inr rfl)) dX11_lesson_19 rfl jb_x1 (by decide) rfl rfl ?_
  refine jb_callV (pc' := 23) (ci := 10) (q := 81) (As := []) (a2 := 0) (b2 := 0) wv_X11_168 rfl dX11_lesson_20 (c_isMissing_1 Is nums Js Ws h0s h1s hbs hzs) rfl rfl ⟨by decide, Nat.le_of_eq (Nat.zero_add _), Nat.le_of_eq (Nat.zero_add _)⟩ (Nat.le_of_ble_eq_true rfl) rfl (fun r h9 hq => ?_)
  rcases hq with ⟨rfl, ⟨hms, rfl⟩ | ⟨hms, rfl⟩⟩
  · exact absurd hms hm
  · show jb_J _ RX11 cX11_lesson 2 (Option.some .int) false 9 0 0 23 [some (.ref 0), some (.int 1)] [.int 0] [jb_main imm Im Tm rowm stkm tpm, jb_sch13 I W T, s2, s3, jb_shs, s5, jb_sht81 Is nums Js Ws, s7, s8, s9, s10, s11] _
    refine jb_if_eq (tgt := 32) (pc' := 26) dX11_lesson_23 (by decide) rfl (fun _ => ?_) (fun z => absurd (by decide) z)
    refine jb_aload_n (pc' := 33) dX11_lesson_32 rfl rfl ?_
    refine gf_X11_54 (pc' := 36) (v := .ref 73) dX11_lesson_33 rfl rfl rfl ?_
    refine jb_iload_n (pc' := 37) dX11_lesson_36 rfl rfl ?_
    refine jb_aaload (pc' := 38) (i9 := 1) (r := 81) (Or.inr (Or.inr rfl)) dX11_lesson_37 rfl jb_x1 (by decide) rfl rfl ?_
    refine jb_aload_n (pc' := 39) dX11_lesson_38 rfl rfl ?_
    refine gf_X11_42 (pc' := 42) (v := .ref 13) dX11_lesson_39 rfl rfl rfl ?_
    refine jb_callV (pc' := 45) (ci := 9) (q := 13) (As := []) (a2 := 0) (b2 := 0) wv_X11_172 rfl dX11_lesson_42 (c_gap_13 _ _ _) rfl rfl ⟨by decide, Nat.le_of_eq (Nat.zero_add _), Nat.le_of_eq (Nat.zero_add _)⟩ (Nat.le_of_ble_eq_true rfl) rfl (fun r h9 hq => ?_)
    obtain ⟨rfl, rfl⟩ := hq
    show jb_J _ RX11 cX11_lesson 2 (Option.some .int) false 9 0 0 45 [some (.ref 0), some (.int 1)] [.int (W 0 0 + W 0 1), .ref 81] [jb_main imm Im Tm rowm stkm tpm, jb_sch13 I W T, s2, s3, jb_shs, s5, jb_sht81 Is nums Js Ws, s7, s8, s9, s10, s11] _
    refine jb_top (v := .int (W 0 0 + W 0 1)) (w := .int (nI (V 0 4 + V 0 5))) (jb_vI (by rw [a0, a1, nI_add])) ?_
    refine jb_callV (pc' := 48) (ci := 10) (q := 81) (As := [.int (nI (V 0 4 + V 0 5))]) (a2 := 0) (b2 := 0) wv_X11_175 rfl dX11_lesson_45 (c_lastA_1 Is nums Js Ws zs h1s hzs (2 * (V 0 4 + V 0 5)) (V 0 4 + V 0 5) rfl (by omega)) rfl rfl ⟨by decide, Nat.le_of_eq (Nat.zero_add _), Nat.le_of_eq (Nat.zero_add _)⟩ (Nat.le_of_ble_eq_true rfl) rfl (fun r h9 hq => ?_)
    rcases hq with ⟨J9, W9, ⟨hga, rfl⟩ | ⟨M9, v, hmx, hL, rfl⟩, rfl⟩
    · show jb_J _ RX11 cX11_lesson 2 (Option.some .int) false 9 0 0 48 [some (.ref 0), some (.int 1)] [.int (-1)] [jb_main imm Im Tm rowm stkm tpm, jb_sch13 I W T, s2, s3, jb_shs, s5, jb_sht81 Is nums J9 W9, s7, s8, s9, s10, s11] _
      refine jb_iret dX11_lesson_48 rfl ?_
      exact ⟨J9, W9, Or.inl ⟨hga, rfl⟩, rfl⟩
    · show jb_J _ RX11 cX11_lesson 2 (Option.some .int) false 9 0 0 48 [some (.ref 0), some (.int 1)] [.int (nI v)] [jb_main imm Im Tm rowm stkm tpm, jb_sch13 I W T, s2, s3, jb_shs, s5, jb_sht81 Is nums J9 W9, s7, s8, s9, s10, s11] _
      refine jb_iret dX11_lesson_48 rfl ?_
      exact ⟨J9, W9, Or.inr ⟨M9, v, hmx, hL, rfl⟩, rfl⟩
set_option maxRecDepth 100000 in
set_option maxHeartbeats 4000000 in
theorem l_isFree_2 {sc : Nat × (Nat → Int32)} {s0 s1 s2 s3 s4 s5 s6 s8 s9 s10 s11 : List va_E} (Is nums Js : Nat → Int32) (Ws : Nat → Nat → Int32) (g : Nat) (th A : Nat → Nat) (q x y : Nat) (hg : g ≤ 60) (hq : q ≤ 5) (hx : x ≤ 200) (hy : y = x + g + th q) (hth : ∀ j, j < q → th j ≤ 20) (htq : th q ≤ 20) (hA : (∀ j, j < q → Ws 1 j = nI (A j) ∧ Ws 2 j = nI (A j + g + th j) ∧ A j ≤ 200)) : ∀ (n i : Nat), i + n = q → (∀ j, j < i → jl_c g (A j) (th j) x (th q)) → jb_J sc RX10 cX10_isFree 5 (Option.some .boolean) false 0 0 0 3 [some (.ref 88), some (.int (nI q)), some (.int (nI x)), some (.int (nI y)), some (.int (nI i))] [] [s0, s1, s2, s3, s4, s5, s6, jb_sht88 Is nums Js Ws, s8, s9, s10, s11] (fun r h9 => [s0, s1, s2, s3, s4, s5, s6, jb_sht88 Is nums Js Ws, s8, s9, s10, s11] = h9 ∧ ((jl_fr g th q A x ∧ r = some (.int 1)) ∨ (¬ jl_fr g th q A x ∧ r = some (.int 0)))) := by
  intro n
  induction n with
  | zero =>
    intro i hi hc
    show jb_J _ RX10 cX10_isFree 5 (Option.some .boolean) false 0 0 0 3 [some (.ref 88), some (.int (nI q)), some (.int (nI x)), some (.int (nI y)), some (.int (nI i))] [] [s0, s1, s2, s3, s4, s5, s6, jb_sht88 Is nums Js Ws, s8, s9, s10, s11] _
    refine jb_iload (pc' := 5) dX10_isFree_3 rfl rfl ?_
    refine jb_iload_n (pc' := 6) dX10_isFree_5 rfl rfl ?_
    refine jb_icmp_ge (tgt := 61) (pc' := 9) dX10_isFree_6 (by decide) rfl (fun _ => ?_) (fun z => absurd (nI_le (a := q) (b := i) (by omega) (by omega)) z)
    refine jb_iconst (pc' := 62) 1 dX10_isFree_61 (by decide) rfl ?_
    refine jb_iret dX10_isFree_62 rfl ?_
    exact ⟨rfl, Or.inl ⟨fun j hj => hc j (by omega), rfl⟩⟩
  | succ n ih =>
    intro i hi hc
    have a1 := hA i (by omega)
    have a2 := hth i (by omega)
    show jb_J _ RX10 cX10_isFree 5 (Option.some .boolean) false 0 0 0 3 [some (.ref 88), some (.int (nI q)), some (.int (nI x)), some (.int (nI y)), some (.int (nI i))] [] [s0, s1, s2, s3, s4, s5, s6, jb_sht88 Is nums Js Ws, s8, s9, s10, s11] _
    refine jb_iload (pc' := 5) dX10_isFree_3 rfl rfl ?_
    refine jb_iload_n (pc' := 6) dX10_isFree_5 rfl rfl ?_
    refine jb_icmp_ge (tgt := 61) (pc' := 9) dX10_isFree_6 (by decide) rfl (fun z => absurd z (nI_ge (a := i) (b := q) (by omega) (by omega))) (fun _ => ?_)
    refine jb_aload_n (pc' := 10) dX10_isFree_9 rfl rfl ?_
    refine gf_X10_28 (pc' := 13) (v := .ref 91) dX10_isFree_10 rfl rfl rfl ?_
    refine jb_iload (pc' := 15) dX10_isFree_13 rfl rfl ?_
    refine jb_iaload (pc' := 16) (i9 := i) (f := (Ws 1)) dX10_isFree_15 rfl (jb_ix_nI (by omega)) (by omega) rfl ?_
    refine jb_top (v := .int ((Ws 1) i)) (w := .int (nI (A i))) (jb_vI (hA i (by omega)).1) ?_
    refine jb_iload_n (pc' := 17) dX10_isFree_16 rfl rfl ?_
    refine jb_icmp_eq (tgt := 53) (pc' := 20) dX10_isFree_17 (by decide) rfl (fun c2 => ?_) (fun c2 => ?_)
    · have c2 : (A i) = x := (nI_eq (a := (A i)) (b := x) (by omega) (by omega)).mp c2
      refine jb_iconst (pc' := 54) 0 dX10_isFree_53 (by decide) rfl ?_
      refine jb_iret dX10_isFree_54 rfl ?_
      exact ⟨rfl, Or.inr ⟨fun z => (by have z1 := z i (by omega); unfold jl_c at z1; omega), rfl⟩⟩
    · have c2 : ¬ (A i) = x := fun z9 => c2 ((nI_eq (a := (A i)) (b := x) (by omega) (by omega)).mpr z9)
      refine jb_aload_n (pc' := 21) dX10_isFree_20 rfl rfl ?_
      refine gf_X10_28 (pc' := 24) (v := .ref 91) dX10_isFree_21 rfl rfl rfl ?_
      refine jb_iload (pc' := 26) dX10_isFree_24 rfl rfl ?_
      refine jb_iaload (pc' := 27) (i9 := i) (f := (Ws 1)) dX10_isFree_26 rfl (jb_ix_nI (by omega)) (by omega) rfl ?_
      refine jb_top (v := .int ((Ws 1) i)) (w := .int (nI (A i))) (jb_vI (hA i (by omega)).1) ?_
      refine jb_iload_n (pc' := 28) dX10_isFree_27 rfl rfl ?_
      refine jb_icmp_eq (tgt := 53) (pc' := 31) dX10_isFree_28 (by decide) rfl (fun c3 => ?_) (fun c3 => ?_)
      · have c3 : (A i) = y := (nI_eq (a := (A i)) (b := y) (by omega) (by omega)).mp c3
        refine jb_iconst (pc' := 54) 0 dX10_isFree_53 (by decide) rfl ?_
        refine jb_iret dX10_isFree_54 rfl ?_
        exact ⟨rfl, Or.inr ⟨fun z => (by have z1 := z i (by omega); unfold jl_c at z1; omega), rfl⟩⟩
      · have c3 : ¬ (A i) = y := fun z9 => c3 ((nI_eq (a := (A i)) (b := y) (by omega) (by omega)).mpr z9)
        refine jb_aload_n (pc' := 32) dX10_isFree_31 rfl rfl ?_
        refine gf_X10_31 (pc' := 35) (v := .ref 92) dX10_isFree_32 rfl rfl rfl ?_
        refine jb_iload (pc' := 37) dX10_isFree_35 rfl rfl ?_
        refine jb_iaload (pc' := 38) (i9 := i) (f := (Ws 2)) dX10_isFree_37 rfl (jb_ix_nI (by omega)) (by omega) rfl ?_
        refine jb_top (v := .int ((Ws 2) i)) (w := .int (nI (A i + g + th i))) (jb_vI (hA i (by omega)).2.1) ?_
        refine jb_iload_n (pc' := 39) dX10_isFree_38 rfl rfl ?_
        refine jb_icmp_eq (tgt := 53) (pc' := 42) dX10_isFree_39 (by decide) rfl (fun c4 => ?_) (fun c4 => ?_)
        · have c4 : (A i + g + th i) = x := (nI_eq (a := (A i + g + th i)) (b := x) (by omega) (by omega)).mp c4
          refine jb_iconst (pc' := 54) 0 dX10_isFree_53 (by decide) rfl ?_
          refine jb_iret dX10_isFree_54 rfl ?_
          exact ⟨rfl, Or.inr ⟨fun z => (by have z1 := z i (by omega); unfold jl_c at z1; omega), rfl⟩⟩
        · have c4 : ¬ (A i + g + th i) = x := fun z9 => c4 ((nI_eq (a := (A i + g + th i)) (b := x) (by omega) (by omega)).mpr z9)
          refine jb_aload_n (pc' := 43) dX10_isFree_42 rfl rfl ?_
          refine gf_X10_31 (pc' := 46) (v := .ref 92) dX10_isFree_43 rfl rfl rfl ?_
          refine jb_iload (pc' := 48) dX10_isFree_46 rfl rfl ?_
          refine jb_iaload (pc' := 49) (i9 := i) (f := (Ws 2)) dX10_isFree_48 rfl (jb_ix_nI (by omega)) (by omega) rfl ?_
          refine jb_top (v := .int ((Ws 2) i)) (w := .int (nI (A i + g + th i))) (jb_vI (hA i (by omega)).2.1) ?_
          refine jb_iload_n (pc' := 50) dX10_isFree_49 rfl rfl ?_
          refine jb_icmp_ne (tgt := 55) (pc' := 53) dX10_isFree_50 (by decide) rfl (fun c5 => ?_) (fun c5 => ?_)
          · have c5 : ¬ (A i + g + th i) = y := fun z9 => c5 ((nI_eq (a := (A i + g + th i)) (b := y) (by omega) (by omega)).mpr z9)
            refine jb_iinc_ (pc' := 58) (nI (i + 1)) dX10_isFree_55 (by decide) rfl (jb_inc i 1) (jb_at4 rfl) rfl ?_
            refine jb_goto (pc' := 3) dX10_isFree_58 (by decide) ?_
            exact ih (i + 1) (by omega) (fun j hj => by
              by_cases e : j = i
              · rw [e]; unfold jl_c; omega
              · exact hc j (by omega))
          · have c5 : (A i + g + th i) = y := (nI_eq (a := (A i + g + th i)) (b := y) (by omega) (by omega)).mp c5
            refine jb_iconst (pc' := 54) 0 dX10_isFree_53 (by decide) rfl ?_
            refine jb_iret dX10_isFree_54 rfl ?_
            exact ⟨rfl, Or.inr ⟨fun z => (by have z1 := z i (by omega); unfold jl_c at z1; omega), rfl⟩⟩
set_option maxRecDepth 100000 in
set_option maxHeartbeats 4000000 in
theorem c_isFree_2 {sc : Nat × (Nat → Int32)} {s0 s1 s2 s3 s4 s5 s6 s8 s9 s10 s11 : List va_E} (Is nums Js : Nat → Int32) (Ws : Nat → Nat → Int32) (g : Nat) (th A : Nat → Nat) (q x y : Nat) (hg : g ≤ 60) (hq : q ≤ 5) (hx : x ≤ 200) (hy : y = x + g + th q) (hth : ∀ j, j < q → th j ≤ 20) (htq : th q ≤ 20) (hA : (∀ j, j < q → Ws 1 j = nI (A j) ∧ Ws 2 j = nI (A j + g + th j) ∧ A j ≤ 200)) : jb_C sc yX10_isFree cX10_isFree 5 (Option.some .boolean) 0 0 0 [.ref 88, .int (nI q), .int (nI x), .int (nI y)] [s0, s1, s2, s3, s4, s5, s6, jb_sht88 Is nums Js Ws, s8, s9, s10, s11] (fun r h9 => [s0, s1, s2, s3, s4, s5, s6, jb_sht88 Is nums Js Ws, s8, s9, s10, s11] = h9 ∧ ((jl_fr g th q A x ∧ r = some (.int 1)) ∨ (¬ jl_fr g th q A x ∧ r = some (.int 0)))) := by
  refine jb_CofJ (ini := false) (by decide +kernel) (fun h => by cases h) (Nat.le_of_ble_eq_true rfl) ?_
  show jb_J sc RX10 cX10_isFree 5 (Option.some .boolean) false 0 0 0 0 [some (.ref 88), some (.int (nI q)), some (.int (nI x)), some (.int (nI y)), none] [] [s0, s1, s2, s3, s4, s5, s6, jb_sht88 Is nums Js Ws, s8, s9, s10, s11] _
  refine jb_iconst (pc' := 1) 0 dX10_isFree_0 (by decide) rfl ?_
  refine jb_istore_ (pc' := 3) dX10_isFree_1 (by decide) (jb_at4 rfl) rfl ?_
  exact l_isFree_2 Is nums Js Ws g th A q x y hg hq hx hy hth htq hA q 0 (by omega) (fun j hj => absurd hj (by omega))
set_option maxRecDepth 100000 in
set_option maxHeartbeats 4000000 in
theorem l_placed_2 {sc : Nat × (Nat → Int32)} {s0 s1 s2 s3 s4 s5 s6 s8 s9 s10 s11 : List va_E} (Is nums Js : Nat → Int32) (g gp last k : Nat) (th : Nat → Nat) (hgp : 2 * gp = g) (hg : g ≤ 60) (hl : last ≤ 200) (hk5 : k ≤ 5) (hth : ∀ j, j < k → th j ≤ 20) (hJ : Js 0 = nI k) (m q : Nat) (hqm : q + (m + 1) = k) (A : Nat → Nat) (Ws : Nat → Nat → Int32) (hT0 : (∀ j, j < k → Ws 0 j = nI (th j))) (hA0 : (∀ j, j < q → Ws 1 j = nI (A j) ∧ Ws 2 j = nI (A j + g + th j) ∧ A j ≤ 200)) (hI : (∀ (A : Nat → Nat) (Ws : Nat → Nat → Int32), (∀ j, j < k → Ws 0 j = nI (th j)) → (∀ j, j < (q + 1) → Ws 1 j = nI (A j) ∧ Ws 2 j = nI (A j + g + th j) ∧ A j ≤ 200) → jb_C sc yX10_isPlaced cX10_isPlaced 6 (Option.some .boolean) (m + 2) 0 0 [.ref 88, .int (nI (q + 1)), .int (nI last), .int (nI gp)] [s0, s1, s2, s3, s4, s5, s6, jb_sht88 Is nums Js Ws, s8, s9, s10, s11] (fun r h9 => ∃ W9, (∀ r, ¬ r = 1 → ¬ r = 2 → W9 r = Ws r) ∧ (∀ j, j < (q + 1) → W9 1 j = Ws 1 j ∧ W9 2 j = Ws 2 j) ∧ ((jl_X g last th k (q + 1) A ∧ r = some (.int 1)) ∨ (¬ jl_X g last th k (q + 1) A ∧ r = some (.int 0))) ∧ h9 = [s0, s1, s2, s3, s4, s5, s6, jb_sht88 Is nums Js W9, s8, s9, s10, s11]))) : ∀ (n x : Nat) (Wc : Nat → Nat → Int32), x + n = last + 1 → (∀ r, ¬ r = 1 → ¬ r = 2 → Wc r = Ws r) ∧ (∀ j, j < q → Wc 1 j = Ws 1 j ∧ Wc 2 j = Ws 2 j) → (∀ x9, x9 < x → ¬ (x9 + g + th q ≤ last ∧ jl_fr g th q A x9 ∧ jl_X g last th k (q + 1) (jl_up A q x9))) → jb_J sc RX10 cX10_isPlaced 6 (Option.some .boolean) false (m + 3) 0 0 30 [some (.ref 88), some (.int (nI q)), some (.int (nI last)), some (.int (nI gp)), some (.int (nI (g + th q))), some (.int (nI x))] [] [s0, s1, s2, s3, s4, s5, s6, jb_sht88 Is nums Js Wc, s8, s9, s10, s11] (fun r h9 => ∃ W9, (∀ r, ¬ r = 1 → ¬ r = 2 → W9 r = Ws r) ∧ (∀ j, j < q → W9 1 j = Ws 1 j ∧ W9 2 j = Ws 2 j) ∧ ((jl_X g last th k q A ∧ r = some (.int 1)) ∨ (¬ jl_X g last th k q A ∧ r = some (.int 0))) ∧ h9 = [s0, s1, s2, s3, s4, s5, s6, jb_sht88 Is nums Js W9, s8, s9, s10, s11]) := by
  have htq := hth q (by omega)
  intro n
  induction n with
  | zero =>
    intro x Wc hx ⟨hf, hp⟩ hno
    have hT : (∀ j, j < k → Wc 0 j = nI (th j)) := fun j hj => by rw [hf 0 (by decide) (by decide)]; exact hT0 j hj
    have hA : (∀ j, j < q → Wc 1 j = nI (A j) ∧ Wc 2 j = nI (A j + g + th j) ∧ A j ≤ 200) := fun j hj => ⟨(hp j hj).1.trans (hA0 j hj).1, (hp j hj).2.trans (hA0 j hj).2.1, (hA0 j hj).2.2⟩
    show jb_J _ RX10 cX10_isPlaced 6 (Option.some .boolean) false (m + 3) 0 0 30 [some (.ref 88), some (.int (nI q)), some (.int (nI last)), some (.int (nI gp)), some (.int (nI (g + th q))), some (.int (nI x))] [] [s0, s1, s2, s3, s4, s5, s6, jb_sht88 Is nums Js Wc, s8, s9, s10, s11] _
    refine jb_iload (pc' := 32) dX10_isPlaced_30 rfl rfl ?_
    refine jb_iload_n (pc' := 33) dX10_isPlaced_32 rfl rfl ?_
    refine jb_iload (pc' := 35) dX10_isPlaced_33 rfl rfl ?_
    refine jb_isub (pc' := 36) dX10_isPlaced_35 rfl ?_
    refine jb_icmp_gt (tgt := 96) (pc' := 39) dX10_isPlaced_36 (by decide) rfl (fun _ => ?_) (fun z => absurd ((jl_sub (last := last) (needs := g + th q) (x := x) (by omega) (by omega) (by omega)).mpr (by omega)) z)
    refine jb_iconst (pc' := 97) 0 dX10_isPlaced_96 (by decide) rfl ?_
    refine jb_iret dX10_isPlaced_97 rfl ?_
    exact ⟨Wc, hf, hp, Or.inr ⟨fun z => (by obtain ⟨x9, z1, z2, z3⟩ := (jl_X.step (by omega)).mp z; exact hno x9 (by omega) ⟨z1, z2, z3⟩), rfl⟩, rfl⟩
  | succ n ih =>
    intro x Wc hx ⟨hf, hp⟩ hno
    have hT : (∀ j, j < k → Wc 0 j = nI (th j)) := fun j hj => by rw [hf 0 (by decide) (by decide)]; exact hT0 j hj
    have hA : (∀ j, j < q → Wc 1 j = nI (A j) ∧ Wc 2 j = nI (A j + g + th j) ∧ A j ≤ 200) := fun j hj => ⟨(hp j hj).1.trans (hA0 j hj).1, (hp j hj).2.trans (hA0 j hj).2.1, (hA0 j hj).2.2⟩
    show jb_J _ RX10 cX10_isPlaced 6 (Option.some .boolean) false (m + 3) 0 0 30 [some (.ref 88), some (.int (nI q)), some (.int (nI last)), some (.int (nI gp)), some (.int (nI (g + th q))), some (.int (nI x))] [] [s0, s1, s2, s3, s4, s5, s6, jb_sht88 Is nums Js Wc, s8, s9, s10, s11] _
    refine jb_iload (pc' := 32) dX10_isPlaced_30 rfl rfl ?_
    refine jb_iload_n (pc' := 33) dX10_isPlaced_32 rfl rfl ?_
    refine jb_iload (pc' := 35) dX10_isPlaced_33 rfl rfl ?_
    refine jb_isub (pc' := 36) dX10_isPlaced_35 rfl ?_
    refine jb_icmp_gt (tgt := 96) (pc' := 39) dX10_isPlaced_36 (by decide) rfl (fun hgt => ?_) (fun hgt => ?_)
    · have hgt2 : ¬ x + (g + th q) ≤ last := (jl_sub (last := last) (needs := g + th q) (x := x) (by omega) (by omega) (by omega)).mp hgt
      refine jb_iconst (pc' := 97) 0 dX10_isPlaced_96 (by decide) rfl ?_
      refine jb_iret dX10_isPlaced_97 rfl ?_
      exact ⟨Wc, hf, hp, Or.inr ⟨fun z => (by obtain ⟨x9, z1, z2, z3⟩ := (jl_X.step (by omega)).mp z; exact hno x9 (by omega) ⟨z1, z2, z3⟩), rfl⟩, rfl⟩
    · have hgt2 : x + (g + th q) ≤ last := Classical.byContradiction (fun z => hgt ((jl_sub (last := last) (needs := g + th q) (x := x) (by omega) (by omega) (by omega)).mpr z))
      refine jb_aload_n (pc' := 40) dX10_isPlaced_39 rfl rfl ?_
      refine jb_iload_n (pc' := 41) dX10_isPlaced_40 rfl rfl ?_
      refine jb_iload (pc' := 43) dX10_isPlaced_41 rfl rfl ?_
      refine jb_iload (pc' := 45) dX10_isPlaced_43 rfl rfl ?_
      refine jb_iload (pc' := 47) dX10_isPlaced_45 rfl rfl ?_
      refine jb_iadd (pc' := 48) dX10_isPlaced_47 rfl ?_
      refine jb_top (v := .int ((nI x) + (nI (g + th q)))) (w := .int (nI (x + (g + th q)))) (jb_vI (nI_add _ _)) ?_
      refine jb_callV (pc' := 51) (ci := 10) (q := 88) (As := [.int (nI q), .int (nI x), .int (nI (x + (g + th q)))]) (a2 := 0) (b2 := 0) wv_X10_59 rfl dX10_isPlaced_48 (c_isFree_2 Is nums Js Wc g th A q x (x + (g + th q)) hg (by omega) (by omega) (by omega) (fun j hj => hth j (by omega)) htq hA) rfl rfl ⟨by omega, Nat.le_of_eq (Nat.zero_add _), Nat.le_of_eq (Nat.zero_add _)⟩ (Nat.le_of_ble_eq_true rfl) rfl (fun r h9 hq => ?_)
      rcases hq with ⟨rfl, ⟨hfr, rfl⟩ | ⟨hfr, rfl⟩⟩
      · show jb_J _ RX10 cX10_isPlaced 6 (Option.some .boolean) false (m + 3) 0 0 51 [some (.ref 88), some (.int (nI q)), some (.int (nI last)), some (.int (nI gp)), some (.int (nI (g + th q))), some (.int (nI x))] [.int 1] [s0, s1, s2, s3, s4, s5, s6, jb_sht88 Is nums Js Wc, s8, s9, s10, s11] _
        refine jb_if_ne (tgt := 57) (pc' := 54) dX10_isPlaced_51 (by decide) rfl (fun _ => ?_) (fun z => absurd z (by decide))
        refine jb_aload_n (pc' := 58) dX10_isPlaced_57 rfl rfl ?_
        refine gf_X10_28 (pc' := 61) (v := .ref 91) dX10_isPlaced_58 rfl rfl rfl ?_
        refine jb_iload_n (pc' := 62) dX10_isPlaced_61 rfl rfl ?_
        refine jb_iload (pc' := 64) dX10_isPlaced_62 rfl rfl ?_
        refine jb_iastore (pc' := 65) (i9 := q) (f := (Wc 1)) (h' := [s0, s1, s2, s3, s4, s5, s6, jb_sht88 Is nums Js (va_up Wc 1 (upd (Wc 1) q (nI x))), s8, s9, s10, s11]) dX10_isPlaced_64 rfl (jb_ix_nI (by omega)) (by omega) rfl rfl ?_
        refine jb_aload_n (pc' := 66) dX10_isPlaced_65 rfl rfl ?_
        refine gf_X10_31 (pc' := 69) (v := .ref 92) dX10_isPlaced_66 rfl rfl rfl ?_
        refine jb_iload_n (pc' := 70) dX10_isPlaced_69 rfl rfl ?_
        refine jb_iload (pc' := 72) dX10_isPlaced_70 rfl rfl ?_
        refine jb_iload (pc' := 74) dX10_isPlaced_72 rfl rfl ?_
        refine jb_iadd (pc' := 75) dX10_isPlaced_74 rfl ?_
        refine jb_top (v := .int ((nI x) + (nI (g + th q)))) (w := .int (nI (x + (g + th q)))) (jb_vI (nI_add _ _)) ?_
        refine jb_iastore (pc' := 76) (i9 := q) (f := (Wc 2)) (h' := [s0, s1, s2, s3, s4, s5, s6, jb_sht88 Is nums Js (va_up (va_up Wc 1 (upd (Wc 1) q (nI x))) 2 (upd (Wc 2) q (nI (x + (g + th q))))), s8, s9, s10, s11]) dX10_isPlaced_75 rfl (jb_ix_nI (by omega)) (by omega) rfl rfl ?_
        refine jb_aload_n (pc' := 77) dX10_isPlaced_76 rfl rfl ?_
        refine jb_iload_n (pc' := 78) dX10_isPlaced_77 rfl rfl ?_
        refine jb_iconst (pc' := 79) 1 dX10_isPlaced_78 (by decide) rfl ?_
        refine jb_iadd (pc' := 80) dX10_isPlaced_79 rfl ?_
        refine jb_top (v := .int ((nI q) + 1)) (w := .int (nI (q + 1))) (jb_vI (nI_add _ 1)) ?_
        refine jb_iload_n (pc' := 81) dX10_isPlaced_80 rfl rfl ?_
        refine jb_iload_n (pc' := 82) dX10_isPlaced_81 rfl rfl ?_
        refine jb_callV (pc' := 85) (ci := 10) (q := 88) (As := [.int (nI (q + 1)), .int (nI last), .int (nI gp)]) (a2 := 0) (b2 := 0) wv_X10_52 rfl dX10_isPlaced_82 (hI (jl_up A q x) (va_up (va_up Wc 1 (upd (Wc 1) q (nI x))) 2 (upd (Wc 2) q (nI (x + (g + th q))))) (fun j hj => hT j hj) (fun j hj => jl_upA hA hj (by omega))) rfl rfl ⟨by omega, Nat.le_of_eq (Nat.zero_add _), Nat.le_of_eq (Nat.zero_add _)⟩ (Nat.le_of_ble_eq_true rfl) rfl (fun r h9 hq => ?_)
        rcases hq with ⟨W8, hf8, hp8, ⟨hX, rfl⟩ | ⟨hX, rfl⟩, rfl⟩
        · show jb_J _ RX10 cX10_isPlaced 6 (Option.some .boolean) false (m + 3) 0 0 85 [some (.ref 88), some (.int (nI q)), some (.int (nI last)), some (.int (nI gp)), some (.int (nI (g + th q))), some (.int (nI x))] [.int 1] [s0, s1, s2, s3, s4, s5, s6, jb_sht88 Is nums Js W8, s8, s9, s10, s11] _
          refine jb_if_eq (tgt := 90) (pc' := 88) dX10_isPlaced_85 (by decide) rfl (fun z => absurd z (by decide)) (fun _ => ?_)
          refine jb_iconst (pc' := 89) 1 dX10_isPlaced_88 (by decide) rfl ?_
          refine jb_iret dX10_isPlaced_89 rfl ?_
          exact ⟨W8, fun r h1 h2 => (hf8 r h1 h2).trans (((va_ne h2).trans (va_ne h1)).trans (hf r h1 h2)), fun j hj => ⟨((hp8 j (by omega)).1.trans (jb_une (by omega))).trans (hp j hj).1, ((hp8 j (by omega)).2.trans (jb_une (by omega))).trans (hp j hj).2⟩, Or.inl ⟨(jl_X.step (by omega)).mpr ⟨x, by omega, hfr, hX⟩, rfl⟩, rfl⟩
        · show jb_J _ RX10 cX10_isPlaced 6 (Option.some .boolean) false (m + 3) 0 0 85 [some (.ref 88), some (.int (nI q)), some (.int (nI last)), some (.int (nI gp)), some (.int (nI (g + th q))), some (.int (nI x))] [.int 0] [s0, s1, s2, s3, s4, s5, s6, jb_sht88 Is nums Js W8, s8, s9, s10, s11] _
          refine jb_if_eq (tgt := 90) (pc' := 88) dX10_isPlaced_85 (by decide) rfl (fun _ => ?_) (fun z => absurd (by decide) z)
          refine jb_iinc_ (pc' := 93) (nI (x + 1)) dX10_isPlaced_90 (by decide) rfl (jb_inc x 1) (jb_at5 rfl) rfl ?_
          refine jb_goto (pc' := 30) dX10_isPlaced_93 (by decide) ?_
          refine ih (x + 1) W8 (by omega) ⟨fun r h1 h2 => (hf8 r h1 h2).trans (((va_ne h2).trans (va_ne h1)).trans (hf r h1 h2)), fun j hj => ⟨((hp8 j (by omega)).1.trans (jb_une (by omega))).trans (hp j hj).1, ((hp8 j (by omega)).2.trans (jb_une (by omega))).trans (hp j hj).2⟩⟩ (fun x9 h9 z => ?_)
          by_cases e : x9 = x
          · subst e; exact hX z.2.2
          · exact hno x9 (by omega) z
      · show jb_J _ RX10 cX10_isPlaced 6 (Option.some .boolean) false (m + 3) 0 0 51 [some (.ref 88), some (.int (nI q)), some (.int (nI last)), some (.int (nI gp)), some (.int (nI (g + th q))), some (.int (nI x))] [.int 0] [s0, s1, s2, s3, s4, s5, s6, jb_sht88 Is nums Js Wc, s8, s9, s10, s11] _
        refine jb_if_ne (tgt := 57) (pc' := 54) dX10_isPlaced_51 (by decide) rfl (fun z => absurd (by decide) z) (fun _ => ?_)
        refine jb_goto (pc' := 90) dX10_isPlaced_54 (by decide) ?_
        refine jb_iinc_ (pc' := 93) (nI (x + 1)) dX10_isPlaced_90 (by decide) rfl (jb_inc x 1) (jb_at5 rfl) rfl ?_
        refine jb_goto (pc' := 30) dX10_isPlaced_93 (by decide) ?_
        refine ih (x + 1) Wc (by omega) ⟨hf, hp⟩ (fun x9 h9 z => ?_)
        by_cases e : x9 = x
        · subst e; exact hfr z.2.1
        · exact hno x9 (by omega) z
set_option maxRecDepth 100000 in
set_option maxHeartbeats 4000000 in
theorem c_placed_2 {sc : Nat × (Nat → Int32)} {s0 s1 s2 s3 s4 s5 s6 s8 s9 s10 s11 : List va_E} (Is nums Js : Nat → Int32) (g gp last k : Nat) (th : Nat → Nat) (hgp : 2 * gp = g) (hg : g ≤ 60) (hl : last ≤ 200) (hk5 : k ≤ 5) (hth : ∀ j, j < k → th j ≤ 20) (hJ : Js 0 = nI k) : ∀ (m q : Nat), q + m = k → ∀ (A : Nat → Nat) (Ws : Nat → Nat → Int32), (∀ j, j < k → Ws 0 j = nI (th j)) → (∀ j, j < q → Ws 1 j = nI (A j) ∧ Ws 2 j = nI (A j + g + th j) ∧ A j ≤ 200) → jb_C sc yX10_isPlaced cX10_isPlaced 6 (Option.some .boolean) (m + 2) 0 0 [.ref 88, .int (nI q), .int (nI last), .int (nI gp)] [s0, s1, s2, s3, s4, s5, s6, jb_sht88 Is nums Js Ws, s8, s9, s10, s11] (fun r h9 => ∃ W9, (∀ r, ¬ r = 1 → ¬ r = 2 → W9 r = Ws r) ∧ (∀ j, j < q → W9 1 j = Ws 1 j ∧ W9 2 j = Ws 2 j) ∧ ((jl_X g last th k q A ∧ r = some (.int 1)) ∨ (¬ jl_X g last th k q A ∧ r = some (.int 0))) ∧ h9 = [s0, s1, s2, s3, s4, s5, s6, jb_sht88 Is nums Js W9, s8, s9, s10, s11]) := by
  intro m
  induction m with
  | zero =>
    intro q hq A Ws hT hA
    refine jb_CofJ (ini := false) (by decide +kernel) (fun h => by cases h) (Nat.le_of_ble_eq_true rfl) ?_
    show jb_J _ RX10 cX10_isPlaced 6 (Option.some .boolean) false (0 + 2) 0 0 0 [some (.ref 88), some (.int (nI q)), some (.int (nI last)), some (.int (nI gp)), none, none] [] [s0, s1, s2, s3, s4, s5, s6, jb_sht88 Is nums Js Ws, s8, s9, s10, s11] _
    refine jb_iload_n (pc' := 1) dX10_isPlaced_0 rfl rfl ?_
    refine jb_aload_n (pc' := 2) dX10_isPlaced_1 rfl rfl ?_
    refine gf_X10_22 (pc' := 5) (v := .int (Js 0)) dX10_isPlaced_2 rfl rfl rfl ?_
    refine jb_top (v := .int (Js 0)) (w := .int (nI k)) (jb_vI hJ) ?_
    refine jb_icmp_ge (tgt := 13) (pc' := 8) dX10_isPlaced_5 (by decide) rfl (fun _ => ?_) (fun z => absurd (nI_le (a := k) (b := q) (by omega) (by omega)) z)
    refine jb_iconst (pc' := 14) 1 dX10_isPlaced_13 (by decide) rfl ?_
    refine jb_iret dX10_isPlaced_14 rfl ?_
    exact ⟨Ws, fun _ _ _ => rfl, fun _ _ => ⟨rfl, rfl⟩, Or.inl ⟨jl_X.end (by omega) A, rfl⟩, rfl⟩
  | succ m ih =>
    intro q hq A Ws hT hA
    refine jb_CofJ (ini := false) (by decide +kernel) (fun h => by cases h) (Nat.le_of_ble_eq_true rfl) ?_
    have htq := hth q (by omega)
    show jb_J _ RX10 cX10_isPlaced 6 (Option.some .boolean) false (m + 1 + 2) 0 0 0 [some (.ref 88), some (.int (nI q)), some (.int (nI last)), some (.int (nI gp)), none, none] [] [s0, s1, s2, s3, s4, s5, s6, jb_sht88 Is nums Js Ws, s8, s9, s10, s11] _
    refine jb_iload_n (pc' := 1) dX10_isPlaced_0 rfl rfl ?_
    refine jb_aload_n (pc' := 2) dX10_isPlaced_1 rfl rfl ?_
    refine gf_X10_22 (pc' := 5) (v := .int (Js 0)) dX10_isPlaced_2 rfl rfl rfl ?_
    refine jb_top (v := .int (Js 0)) (w := .int (nI k)) (jb_vI hJ) ?_
    refine jb_icmp_ge (tgt := 13) (pc' := 8) dX10_isPlaced_5 (by decide) rfl (fun z => absurd z (nI_ge (a := q) (b := k) (by omega) (by omega))) (fun _ => ?_)
    refine jb_iload_n (pc' := 9) dX10_isPlaced_8 rfl rfl ?_
    refine jb_iconst (pc' := 10) 5 dX10_isPlaced_9 (by decide) rfl ?_
    refine jb_icmp_lt (tgt := 15) (pc' := 13) dX10_isPlaced_10 (by decide) rfl (fun _ => ?_) (fun z => absurd (nI_lt (a := q) (b := 5) (by omega) (by omega)) z)
    refine jb_iconst (pc' := 16) 2 dX10_isPlaced_15 (by decide) rfl ?_
    refine jb_iload_n (pc' := 17) dX10_isPlaced_16 rfl rfl ?_
    refine jb_imul (pc' := 18) dX10_isPlaced_17 rfl ?_
    refine jb_top (v := .int (2 * (nI gp))) (w := .int (nI (2 * gp))) (jb_vI (pk_mul 2 _)) ?_
    refine jb_aload_n (pc' := 19) dX10_isPlaced_18 rfl rfl ?_
    refine gf_X10_25 (pc' := 22) (v := .ref 90) dX10_isPlaced_19 rfl rfl rfl ?_
    refine jb_iload_n (pc' := 23) dX10_isPlaced_22 rfl rfl ?_
    refine jb_iaload (pc' := 24) (i9 := q) (f := (Ws 0)) dX10_isPlaced_23 rfl (jb_ix_nI (by omega)) (by omega) rfl ?_
    refine jb_top (v := .int ((Ws 0) q)) (w := .int (nI (th q))) (jb_vI (hT q (by omega))) ?_
    refine jb_iadd (pc' := 25) dX10_isPlaced_24 rfl ?_
    refine jb_top (v := .int ((nI (2 * gp)) + (nI (th q)))) (w := .int (nI (g + th q))) (jb_vI (by rw [nI_add, hgp])) ?_
    refine jb_istore_ (pc' := 27) dX10_isPlaced_25 (by decide) (jb_at4 rfl) rfl ?_
    refine jb_iconst (pc' := 28) 0 dX10_isPlaced_27 (by decide) rfl ?_
    refine jb_istore_ (pc' := 30) dX10_isPlaced_28 (by decide) (jb_at5 rfl) rfl ?_
    exact l_placed_2 Is nums Js g gp last k th hgp hg hl hk5 hth hJ m q (by omega) A Ws hT hA (ih (q + 1) (by omega)) (last + 1) 0 Ws (by omega) ⟨fun _ _ _ => rfl, fun _ _ => ⟨rfl, rfl⟩⟩ (fun x9 h9 => absurd h9 (by omega))
set_option maxRecDepth 100000 in
set_option maxHeartbeats 4000000 in
theorem l_ins_2 {sc : Nat × (Nat → Int32)} {s0 s1 s2 s3 s4 s5 s6 s8 s9 s10 s11 : List va_E} (Is nums Js : Nat → Int32) (l : List Nat) (hl5 : l.length < 5) (v : Nat) (hv : v ≤ 20) (hl20 : ∀ t, t ∈ l → t ≤ 20) (i1 : Int32) (Q : Option Value → jb_H → Prop) : ∀ (p : Nat) (Wc : Nat → Nat → Int32), p ≤ l.length → (∀ j, j < p → Wc 0 j = nI (l.getD j 0)) → (∀ j, p < j → j ≤ l.length → Wc 0 j = nI (l.getD (j - 1) 0)) → (∀ j, p ≤ j → j < l.length → l.getD j 0 < v) → (∀ (p : Nat) (Wc : Nat → Nat → Int32), p ≤ l.length → (∀ j, j < p → Wc 0 j = nI (l.getD j 0)) → (∀ j, p < j → j ≤ l.length → Wc 0 j = nI (l.getD (j - 1) 0)) → (∀ j, p ≤ j → j < l.length → l.getD j 0 < v) → (p = 0 ∨ v ≤ l.getD (p - 1) 0) → jb_J sc RX10 cX10_gatherThinks 4 (Option.none : Option Jvm.ClassFile.FieldType) false 1 0 0 84 [some (.ref 88), some (.int i1), some (.int (nI v)), some (.int (nI p))] [] [s0, s1, s2, s3, s4, s5, s6, jb_sht88 Is nums Js Wc, s8, s9, s10, s11] Q) → jb_J sc RX10 cX10_gatherThinks 4 (Option.none : Option Jvm.ClassFile.FieldType) false 1 0 0 48 [some (.ref 88), some (.int i1), some (.int (nI v)), some (.int (nI p))] [] [s0, s1, s2, s3, s4, s5, s6, jb_sht88 Is nums Js Wc, s8, s9, s10, s11] Q := by
  intro p
  induction p with
  | zero =>
    intro Wc h1 h2 h3 h4 hQ
    show jb_J _ RX10 cX10_gatherThinks 4 (Option.none : Option Jvm.ClassFile.FieldType) false 1 0 0 48 [some (.ref 88), some (.int i1), some (.int (nI v)), some (.int (nI 0))] [] [s0, s1, s2, s3, s4, s5, s6, jb_sht88 Is nums Js Wc, s8, s9, s10, s11] _
    refine jb_iload_n (pc' := 49) dX10_gatherThinks_48 rfl rfl ?_
    refine jb_if_le (tgt := 84) (pc' := 52) dX10_gatherThinks_49 (by decide) rfl (fun _ => ?_) (fun z => absurd (by decide) z)
    exact hQ 0 Wc h1 h2 h3 h4 (Or.inl rfl)
  | succ p ih =>
    intro Wc h1 h2 h3 h4 hQ
    have b20 := hl20 (l.getD p 0) (jl_gd.mpr ⟨p, by omega, rfl⟩)
    show jb_J _ RX10 cX10_gatherThinks 4 (Option.none : Option Jvm.ClassFile.FieldType) false 1 0 0 48 [some (.ref 88), some (.int i1), some (.int (nI v)), some (.int (nI (p + 1)))] [] [s0, s1, s2, s3, s4, s5, s6, jb_sht88 Is nums Js Wc, s8, s9, s10, s11] _
    refine jb_iload_n (pc' := 49) dX10_gatherThinks_48 rfl rfl ?_
    refine jb_if_le (tgt := 84) (pc' := 52) dX10_gatherThinks_49 (by decide) rfl (fun z => absurd z (nI_nle (n := p + 1) (by omega) (by omega))) (fun _ => ?_)
    refine jb_aload_n (pc' := 53) dX10_gatherThinks_52 rfl rfl ?_
    refine gf_X10_25 (pc' := 56) (v := .ref 90) dX10_gatherThinks_53 rfl rfl rfl ?_
    refine jb_iload_n (pc' := 57) dX10_gatherThinks_56 rfl rfl ?_
    refine jb_iconst (pc' := 58) 1 dX10_gatherThinks_57 (by decide) rfl ?_
    refine jb_isub (pc' := 59) dX10_gatherThinks_58 rfl ?_
    refine jb_top (v := .int ((nI (p + 1)) - 1)) (w := .int (nI p)) (jb_vI (nI_pred _)) ?_
    refine jb_iaload (pc' := 60) (i9 := p) (f := (Wc 0)) dX10_gatherThinks_59 rfl (jb_ix_nI (by omega)) (by omega) rfl ?_
    refine jb_top (v := .int ((Wc 0) p)) (w := .int (nI (l.getD p 0))) (jb_vI (h2 p (by omega))) ?_
    refine jb_iload_n (pc' := 61) dX10_gatherThinks_60 rfl rfl ?_
    refine jb_icmp_ge (tgt := 84) (pc' := 64) dX10_gatherThinks_61 (by decide) rfl (fun c2 => ?_) (fun c2 => ?_)
    · have c2 : v ≤ (l.getD p 0) := (nI_leI (a := v) (b := (l.getD p 0)) (by omega) (by omega)).mp c2
      exact hQ (p + 1) Wc h1 h2 h3 h4 (Or.inr (by rw [Nat.add_sub_cancel]; omega))
    · have c2 : ¬ v ≤ (l.getD p 0) := fun z9 => c2 ((nI_leI (a := v) (b := (l.getD p 0)) (by omega) (by omega)).mpr z9)
      refine jb_aload_n (pc' := 65) dX10_gatherThinks_64 rfl rfl ?_
      refine gf_X10_25 (pc' := 68) (v := .ref 90) dX10_gatherThinks_65 rfl rfl rfl ?_
      refine jb_iload_n (pc' := 69) dX10_gatherThinks_68 rfl rfl ?_
      refine jb_aload_n (pc' := 70) dX10_gatherThinks_69 rfl rfl ?_
      refine gf_X10_25 (pc' := 73) (v := .ref 90) dX10_gatherThinks_70 rfl rfl rfl ?_
      refine jb_iload_n (pc' := 74) dX10_gatherThinks_73 rfl rfl ?_
      refine jb_iconst (pc' := 75) 1 dX10_gatherThinks_74 (by decide) rfl ?_
      refine jb_isub (pc' := 76) dX10_gatherThinks_75 rfl ?_
      refine jb_top (v := .int ((nI (p + 1)) - 1)) (w := .int (nI p)) (jb_vI (nI_pred _)) ?_
      refine jb_iaload (pc' := 77) (i9 := p) (f := (Wc 0)) dX10_gatherThinks_76 rfl (jb_ix_nI (by omega)) (by omega) rfl ?_
      refine jb_top (v := .int ((Wc 0) p)) (w := .int (nI (l.getD p 0))) (jb_vI (h2 p (by omega))) ?_
      refine jb_iastore (pc' := 78) (i9 := (p + 1)) (f := (Wc 0)) (h' := [s0, s1, s2, s3, s4, s5, s6, jb_sht88 Is nums Js (va_up Wc 0 (upd (Wc 0) (p + 1) (nI (l.getD p 0)))), s8, s9, s10, s11]) dX10_gatherThinks_77 rfl (jb_ix_nI (by omega)) (by omega) rfl rfl ?_
      refine jb_iinc_ (pc' := 81) (nI p) dX10_gatherThinks_78 (by decide) rfl (pk_m1 p) (jb_at3 rfl) rfl ?_
      refine jb_goto (pc' := 48) dX10_gatherThinks_81 (by decide) ?_
      refine ih (va_up Wc 0 (upd (Wc 0) (p + 1) (nI (l.getD p 0)))) (by omega) (fun j hj => ?_) (fun j h5 h6 => ?_) (fun j h5 h6 => ?_) hQ
      · show upd (Wc 0) (p + 1) (nI (l.getD p 0)) j = _
        rw [jb_une (by omega)]; exact h2 j (by omega)
      · show upd (Wc 0) (p + 1) (nI (l.getD p 0)) j = _
        by_cases e : j = p + 1
        · rw [e]; exact jb_uee
        · rw [jb_une e]; exact h3 j (by omega) h6
      · by_cases e : j = p
        · rw [e]; omega
        · exact h4 j (by omega) h6
set_option maxRecDepth 100000 in
set_option maxHeartbeats 4000000 in
theorem l_gatherT_2 {sc : Nat × (Nat → Int32)} {s0 s1 s2 s3 s4 s5 s6 s8 s9 s10 s11 : List va_E} (Is nums : Nat → Int32) (zs : Nat) (h1s : Is 1 = nI zs) (hzs : zs ≤ 40) : ∀ (n i : Nat) (acc l : List Nat) (Js : Nat → Int32) (Ws : Nat → Nat → Int32) (x2 x3 : Option Value), i + n = zs → l.Perm acc ∧ Js 0 = nI l.length ∧ l.length ≤ 5 ∧ (∀ j, j < l.length → Ws 0 j = nI (l.getD j 0)) ∧ (∀ t, t ∈ l → t ≤ 20) ∧ (∀ t, t ∈ l → t ≤ l.getD 0 0) → jb_J sc RX10 cX10_gatherThinks 4 (Option.none : Option Jvm.ClassFile.FieldType) false 1 0 0 7 [some (.ref 88), some (.int (nI i)), x2, x3] [] [s0, s1, s2, s3, s4, s5, s6, jb_sht88 Is nums Js Ws, s8, s9, s10, s11] (fun r h9 => r = none ∧ ∃ (J9 : Nat → Int32) (W9 : Nat → Nat → Int32) (l9 : List Nat), (l9.Perm (jl_ga nums n i acc) ∧ J9 0 = nI l9.length ∧ l9.length ≤ 5 ∧ (∀ j, j < l9.length → W9 0 j = nI (l9.getD j 0)) ∧ (∀ t, t ∈ l9 → t ≤ 20) ∧ (∀ t, t ∈ l9 → t ≤ l9.getD 0 0)) ∧ h9 = [s0, s1, s2, s3, s4, s5, s6, jb_sht88 Is nums J9 W9, s8, s9, s10, s11]) := by
  intro n
  induction n with
  | zero =>
    intro i acc l Js Ws x2 x3 hi ⟨p1, hJ, p2, p3, p4, p5⟩
    show jb_J _ RX10 cX10_gatherThinks 4 (Option.none : Option Jvm.ClassFile.FieldType) false 1 0 0 7 [some (.ref 88), some (.int (nI i)), x2, x3] [] [s0, s1, s2, s3, s4, s5, s6, jb_sht88 Is nums Js Ws, s8, s9, s10, s11] _
    refine jb_iload_n (pc' := 8) dX10_gatherThinks_7 rfl rfl ?_
    refine jb_aload_n (pc' := 9) dX10_gatherThinks_8 rfl rfl ?_
    refine gf_X10_15 (pc' := 12) (v := .int (Is 1)) dX10_gatherThinks_9 rfl rfl rfl ?_
    refine jb_top (v := .int (Is 1)) (w := .int (nI zs)) (jb_vI h1s) ?_
    refine jb_icmp_ge (tgt := 107) (pc' := 15) dX10_gatherThinks_12 (by decide) rfl (fun _ => ?_) (fun z => absurd (nI_le (a := zs) (b := i) (by omega) (by omega)) z)
    refine jb_vret dX10_gatherThinks_107 ?_
    exact ⟨rfl, Js, Ws, l, ⟨p1, hJ, p2, p3, p4, p5⟩, rfl⟩
  | succ n ih =>
    intro i acc l Js Ws x2 x3 hi ⟨p1, hJ, p2, p3, p4, p5⟩
    have plen := p1.length_eq
    by_cases h5 : l.length < 5
    · by_cases hv : 0 ≤ nums i ∧ nums i ≤ 20
      · obtain ⟨v, hv1, hv2, ev⟩ := jl_20.mpr hv
        have e9 : jl_ga nums (n + 1) i acc = jl_ga nums n (i + 1) (acc ++ [v]) := by
          rw [show jl_ga nums (n + 1) i acc = (if acc.length < 5 then (if 0 ≤ nums i ∧ nums i ≤ 20 then jl_ga nums n (i + 1) (acc ++ [(nums i).toNatClampNeg]) else jl_ga nums n (i + 1) acc) else acc) from rfl, if_pos (by omega), if_pos hv, ev, nI_clamp (by omega)]
        rw [e9]
        show jb_J _ RX10 cX10_gatherThinks 4 (Option.none : Option Jvm.ClassFile.FieldType) false 1 0 0 7 [some (.ref 88), some (.int (nI i)), x2, x3] [] [s0, s1, s2, s3, s4, s5, s6, jb_sht88 Is nums Js Ws, s8, s9, s10, s11] _
        refine jb_iload_n (pc' := 8) dX10_gatherThinks_7 rfl rfl ?_
        refine jb_aload_n (pc' := 9) dX10_gatherThinks_8 rfl rfl ?_
        refine gf_X10_15 (pc' := 12) (v := .int (Is 1)) dX10_gatherThinks_9 rfl rfl rfl ?_
        refine jb_top (v := .int (Is 1)) (w := .int (nI zs)) (jb_vI h1s) ?_
        refine jb_icmp_ge (tgt := 107) (pc' := 15) dX10_gatherThinks_12 (by decide) rfl (fun z => absurd z (nI_ge (a := i) (b := zs) (by omega) (by omega))) (fun _ => ?_)
        refine jb_aload_n (pc' := 16) dX10_gatherThinks_15 rfl rfl ?_
        refine gf_X10_22 (pc' := 19) (v := .int (Js 0)) dX10_gatherThinks_16 rfl rfl rfl ?_
        refine jb_top (v := .int (Js 0)) (w := .int (nI l.length)) (jb_vI hJ) ?_
        refine jb_iconst (pc' := 20) 5 dX10_gatherThinks_19 (by decide) rfl ?_
        refine jb_icmp_ge (tgt := 107) (pc' := 23) dX10_gatherThinks_20 (by decide) rfl (fun z => absurd z (nI_ge (a := l.length) (b := 5) (by omega) (by omega))) (fun _ => ?_)
        refine jb_aload_n (pc' := 24) dX10_gatherThinks_23 rfl rfl ?_
        refine gf_X10_18 (pc' := 27) (v := .ref 89) dX10_gatherThinks_24 rfl rfl rfl ?_
        refine jb_iload_n (pc' := 28) dX10_gatherThinks_27 rfl rfl ?_
        refine jb_iaload (pc' := 29) (i9 := i) (f := nums) dX10_gatherThinks_28 rfl (jb_ix_nI (by omega)) (by omega) rfl ?_
        refine jb_top (v := .int (nums i)) (w := .int (nI v)) (jb_vI ev) ?_
        refine jb_istore_n_ (pc' := 30) dX10_gatherThinks_29 (by decide) (jb_at2 rfl) rfl ?_
        refine jb_iload_n (pc' := 31) dX10_gatherThinks_30 rfl rfl ?_
        refine jb_iconst (pc' := 32) 0 dX10_gatherThinks_31 (by decide) rfl ?_
        refine jb_bipush (pc' := 34) 20 dX10_gatherThinks_32 (by decide) rfl ?_
        refine jb_callSN (pc' := 37) (As := [.int (nI v), .int 0, .int 20]) (a2 := 0) (b2 := 0) wv_X10_56 dX10_gatherThinks_34 (c_isOutLG v 0 20 (by omega) (by omega) (by omega)) rfl ⟨by decide, Nat.le_of_eq (Nat.zero_add _), Nat.le_of_eq (Nat.zero_add _)⟩ (Nat.le_of_ble_eq_true rfl) rfl (fun r h9 hq => ?_)
        obtain ⟨rfl, rfl⟩ := hq
        show jb_J _ RX10 cX10_gatherThinks 4 (Option.none : Option Jvm.ClassFile.FieldType) false 1 0 0 37 [some (.ref 88), some (.int (nI i)), some (.int (nI v)), x3] [.int 0] [s0, s1, s2, s3, s4, s5, s6, jb_sht88 Is nums Js Ws, s8, s9, s10, s11] _
        refine jb_if_eq (tgt := 43) (pc' := 40) dX10_gatherThinks_37 (by decide) rfl (fun _ => ?_) (fun z => absurd (by decide) z)
        refine jb_aload_n (pc' := 44) dX10_gatherThinks_43 rfl rfl ?_
        refine gf_X10_22 (pc' := 47) (v := .int (Js 0)) dX10_gatherThinks_44 rfl rfl rfl ?_
        refine jb_top (v := .int (Js 0)) (w := .int (nI l.length)) (jb_vI hJ) ?_
        refine jb_istore_n_ (pc' := 48) dX10_gatherThinks_47 (by decide) (jb_at3 rfl) rfl ?_
        refine l_ins_2 Is nums Js l h5 v (by omega) p4 (nI i) _ l.length Ws (Nat.le_refl _) p3 (fun j h6 h7 => absurd h7 (by omega)) (fun j h6 h7 => absurd h7 (by omega)) (fun p Wc i1 i2 i3 i4 i5 => ?_)
        obtain ⟨g1, g2, g3, g4, g6⟩ := jl_ins (v := v) i1
        show jb_J _ RX10 cX10_gatherThinks 4 (Option.none : Option Jvm.ClassFile.FieldType) false 1 0 0 84 [some (.ref 88), some (.int (nI i)), some (.int (nI v)), some (.int (nI p))] [] [s0, s1, s2, s3, s4, s5, s6, jb_sht88 Is nums Js Wc, s8, s9, s10, s11] _
        refine jb_aload_n (pc' := 85) dX10_gatherThinks_84 rfl rfl ?_
        refine gf_X10_25 (pc' := 88) (v := .ref 90) dX10_gatherThinks_85 rfl rfl rfl ?_
        refine jb_iload_n (pc' := 89) dX10_gatherThinks_88 rfl rfl ?_
        refine jb_iload_n (pc' := 90) dX10_gatherThinks_89 rfl rfl ?_
        refine jb_iastore (pc' := 91) (i9 := p) (f := (Wc 0)) (h' := [s0, s1, s2, s3, s4, s5, s6, jb_sht88 Is nums Js (va_up Wc 0 (upd (Wc 0) p (nI v))), s8, s9, s10, s11]) dX10_gatherThinks_90 rfl (jb_ix_nI (by omega)) (by omega) rfl rfl ?_
        refine jb_aload_n (pc' := 92) dX10_gatherThinks_91 rfl rfl ?_
        refine jb_dup (pc' := 93) dX10_gatherThinks_92 rfl rfl ?_
        refine gf_X10_22 (pc' := 96) (v := .int (Js 0)) dX10_gatherThinks_93 rfl rfl rfl ?_
        refine jb_top (v := .int (Js 0)) (w := .int (nI l.length)) (jb_vI hJ) ?_
        refine jb_iconst (pc' := 97) 1 dX10_gatherThinks_96 (by decide) rfl ?_
        refine jb_iadd (pc' := 98) dX10_gatherThinks_97 rfl ?_
        refine jb_top (v := .int ((nI l.length) + 1)) (w := .int (nI (l.length + 1))) (jb_vI (nI_add _ 1)) ?_
        refine pf_X10_22 (pc' := 101) (h' := [s0, s1, s2, s3, s4, s5, s6, jb_sht88 Is nums (upd Js 0 (nI (l.length + 1))) (va_up Wc 0 (upd (Wc 0) p (nI v))), s8, s9, s10, s11]) dX10_gatherThinks_98 (fun _ => ⟨rfl, rfl⟩) rfl (Nat.le_of_ble_eq_true rfl) rfl rfl ?_
        refine jb_iinc_ (pc' := 104) (nI (i + 1)) dX10_gatherThinks_101 (by decide) rfl (jb_inc i 1) (jb_at1 rfl) rfl ?_
        refine jb_goto (pc' := 7) dX10_gatherThinks_104 (by decide) ?_
        refine ih (i + 1) (acc ++ [v]) (l.take p ++ v :: l.drop p) (upd Js 0 (nI (l.length + 1))) (va_up Wc 0 (upd (Wc 0) p (nI v))) _ _ (by omega) ⟨?_, ?_, by omega, fun j hj => ?_, fun t ht => ?_, jl_ins_mx i1 p5 i4 i5⟩
        · exact (g6.trans (p1.cons v)).trans (List.perm_append_comm (l₁ := [v]) (l₂ := acc))
        · rw [g1]; rfl
        · show upd (Wc 0) p (nI v) j = _
          rcases Nat.lt_trichotomy j p with q | q | q
          · rw [jb_une (by omega), g2 j q]; exact i2 j q
          · rw [q, g3]; exact jb_uee
          · rw [jb_une (by omega), g4 j q]; exact i3 j q (by omega)
        · rcases List.mem_cons.mp (g6.mem_iff.mp ht) with e | e
          · omega
          · exact p4 t e
      · have e9 : jl_ga nums (n + 1) i acc = jl_ga nums n (i + 1) acc := by
          rw [show jl_ga nums (n + 1) i acc = (if acc.length < 5 then (if 0 ≤ nums i ∧ nums i ≤ 20 then jl_ga nums n (i + 1) (acc ++ [(nums i).toNatClampNeg]) else jl_ga nums n (i + 1) acc) else acc) from rfl, if_pos (by omega), if_neg hv]
        rw [e9]
        show jb_J _ RX10 cX10_gatherThinks 4 (Option.none : Option Jvm.ClassFile.FieldType) false 1 0 0 7 [some (.ref 88), some (.int (nI i)), x2, x3] [] [s0, s1, s2, s3, s4, s5, s6, jb_sht88 Is nums Js Ws, s8, s9, s10, s11] _
        refine jb_iload_n (pc' := 8) dX10_gatherThinks_7 rfl rfl ?_
        refine jb_aload_n (pc' := 9) dX10_gatherThinks_8 rfl rfl ?_
        refine gf_X10_15 (pc' := 12) (v := .int (Is 1)) dX10_gatherThinks_9 rfl rfl rfl ?_
        refine jb_top (v := .int (Is 1)) (w := .int (nI zs)) (jb_vI h1s) ?_
        refine jb_icmp_ge (tgt := 107) (pc' := 15) dX10_gatherThinks_12 (by decide) rfl (fun z => absurd z (nI_ge (a := i) (b := zs) (by omega) (by omega))) (fun _ => ?_)
        refine jb_aload_n (pc' := 16) dX10_gatherThinks_15 rfl rfl ?_
        refine gf_X10_22 (pc' := 19) (v := .int (Js 0)) dX10_gatherThinks_16 rfl rfl rfl ?_
        refine jb_top (v := .int (Js 0)) (w := .int (nI l.length)) (jb_vI hJ) ?_
        refine jb_iconst (pc' := 20) 5 dX10_gatherThinks_19 (by decide) rfl ?_
        refine jb_icmp_ge (tgt := 107) (pc' := 23) dX10_gatherThinks_20 (by decide) rfl (fun z => absurd z (nI_ge (a := l.length) (b := 5) (by omega) (by omega))) (fun _ => ?_)
        refine jb_aload_n (pc' := 24) dX10_gatherThinks_23 rfl rfl ?_
        refine gf_X10_18 (pc' := 27) (v := .ref 89) dX10_gatherThinks_24 rfl rfl rfl ?_
        refine jb_iload_n (pc' := 28) dX10_gatherThinks_27 rfl rfl ?_
        refine jb_iaload (pc' := 29) (i9 := i) (f := nums) dX10_gatherThinks_28 rfl (jb_ix_nI (by omega)) (by omega) rfl ?_
        refine jb_istore_n_ (pc' := 30) dX10_gatherThinks_29 (by decide) (jb_at2 rfl) rfl ?_
        refine jb_iload_n (pc' := 31) dX10_gatherThinks_30 rfl rfl ?_
        refine jb_iconst (pc' := 32) 0 dX10_gatherThinks_31 (by decide) rfl ?_
        refine jb_bipush (pc' := 34) 20 dX10_gatherThinks_32 (by decide) rfl ?_
        refine jb_callSN (pc' := 37) (As := [.int (nums i), .int 0, .int 20]) (a2 := 0) (b2 := 0) wv_X10_56 dX10_gatherThinks_34 (c_isOutL (nums i) 0 20 (by omega) (by omega)) rfl ⟨by decide, Nat.le_of_eq (Nat.zero_add _), Nat.le_of_eq (Nat.zero_add _)⟩ (Nat.le_of_ble_eq_true rfl) rfl (fun r h9 hq => ?_)
        rcases hq with ⟨rfl, ⟨o3, rfl⟩ | ⟨o3, rfl⟩⟩
        · show jb_J _ RX10 cX10_gatherThinks 4 (Option.none : Option Jvm.ClassFile.FieldType) false 1 0 0 37 [some (.ref 88), some (.int (nI i)), some (.int (nums i)), x3] [.int 1] [s0, s1, s2, s3, s4, s5, s6, jb_sht88 Is nums Js Ws, s8, s9, s10, s11] _
          refine jb_if_eq (tgt := 43) (pc' := 40) dX10_gatherThinks_37 (by decide) rfl (fun z => absurd z (by decide)) (fun _ => ?_)
          refine jb_goto (pc' := 101) dX10_gatherThinks_40 (by decide) ?_
          refine jb_iinc_ (pc' := 104) (nI (i + 1)) dX10_gatherThinks_101 (by decide) rfl (jb_inc i 1) (jb_at1 rfl) rfl ?_
          refine jb_goto (pc' := 7) dX10_gatherThinks_104 (by decide) ?_
          exact ih (i + 1) acc l Js Ws _ _ (by omega) ⟨p1, hJ, p2, p3, p4, p5⟩
        · exact absurd (jl_20.mp (by assumption)) hv
    · have e9 : jl_ga nums (n + 1) i acc = acc := if_neg (by omega)
      rw [e9]
      show jb_J _ RX10 cX10_gatherThinks 4 (Option.none : Option Jvm.ClassFile.FieldType) false 1 0 0 7 [some (.ref 88), some (.int (nI i)), x2, x3] [] [s0, s1, s2, s3, s4, s5, s6, jb_sht88 Is nums Js Ws, s8, s9, s10, s11] _
      refine jb_iload_n (pc' := 8) dX10_gatherThinks_7 rfl rfl ?_
      refine jb_aload_n (pc' := 9) dX10_gatherThinks_8 rfl rfl ?_
      refine gf_X10_15 (pc' := 12) (v := .int (Is 1)) dX10_gatherThinks_9 rfl rfl rfl ?_
      refine jb_top (v := .int (Is 1)) (w := .int (nI zs)) (jb_vI h1s) ?_
      refine jb_icmp_ge (tgt := 107) (pc' := 15) dX10_gatherThinks_12 (by decide) rfl (fun z => absurd z (nI_ge (a := i) (b := zs) (by omega) (by omega))) (fun _ => ?_)
      refine jb_aload_n (pc' := 16) dX10_gatherThinks_15 rfl rfl ?_
      refine gf_X10_22 (pc' := 19) (v := .int (Js 0)) dX10_gatherThinks_16 rfl rfl rfl ?_
      refine jb_top (v := .int (Js 0)) (w := .int (nI l.length)) (jb_vI hJ) ?_
      refine jb_iconst (pc' := 20) 5 dX10_gatherThinks_19 (by decide) rfl ?_
      refine jb_icmp_ge (tgt := 107) (pc' := 23) dX10_gatherThinks_20 (by decide) rfl (fun _ => ?_) (fun z => absurd (nI_le (a := 5) (b := l.length) (by omega) (by omega)) z)
      refine jb_vret dX10_gatherThinks_107 ?_
      exact ⟨rfl, Js, Ws, l, ⟨p1, hJ, p2, p3, p4, p5⟩, rfl⟩
set_option maxRecDepth 100000 in
set_option maxHeartbeats 4000000 in
theorem c_gatherT_2 {sc : Nat × (Nat → Int32)} {s0 s1 s2 s3 s4 s5 s6 s8 s9 s10 s11 : List va_E} (Is nums Js : Nat → Int32) (Ws : Nat → Nat → Int32) (zs : Nat) (h1s : Is 1 = nI zs) (hzs : zs ≤ 40) : jb_C sc yX10_gatherThinks cX10_gatherThinks 4 (Option.none : Option Jvm.ClassFile.FieldType) 1 0 0 [.ref 88] [s0, s1, s2, s3, s4, s5, s6, jb_sht88 Is nums Js Ws, s8, s9, s10, s11] (fun r h9 => r = none ∧ ∃ (J9 : Nat → Int32) (W9 : Nat → Nat → Int32) (l9 : List Nat), (l9.Perm (jl_ga nums zs 0 []) ∧ J9 0 = nI l9.length ∧ l9.length ≤ 5 ∧ (∀ j, j < l9.length → W9 0 j = nI (l9.getD j 0)) ∧ (∀ t, t ∈ l9 → t ≤ 20) ∧ (∀ t, t ∈ l9 → t ≤ l9.getD 0 0)) ∧ h9 = [s0, s1, s2, s3, s4, s5, s6, jb_sht88 Is nums J9 W9, s8, s9, s10, s11]) := by
  refine jb_CofJ (ini := false) (by decide +kernel) (fun h => by cases h) (Nat.le_of_ble_eq_true rfl) ?_
  show jb_J sc RX10 cX10_gatherThinks 4 (Option.none : Option Jvm.ClassFile.FieldType) false 1 0 0 0 [some (.ref 88), none, none, none] [] [s0, s1, s2, s3, s4, s5, s6, jb_sht88 Is nums Js Ws, s8, s9, s10, s11] _
  refine jb_aload_n (pc' := 1) dX10_gatherThinks_0 rfl rfl ?_
  refine jb_iconst (pc' := 2) 0 dX10_gatherThinks_1 (by decide) rfl ?_
  refine pf_X10_22 (pc' := 5) (h' := [s0, s1, s2, s3, s4, s5, s6, jb_sht88 Is nums (upd Js 0 0) Ws, s8, s9, s10, s11]) dX10_gatherThinks_2 (fun _ => ⟨rfl, rfl⟩) rfl (Nat.le_of_ble_eq_true rfl) rfl rfl ?_
  refine jb_iconst (pc' := 6) 0 dX10_gatherThinks_5 (by decide) rfl ?_
  refine jb_istore_n_ (pc' := 7) dX10_gatherThinks_6 (by decide) (jb_at1 rfl) rfl ?_
  exact l_gatherT_2 Is nums zs h1s hzs zs 0 [] [] (upd Js 0 0) Ws _ _ (by omega) ⟨List.Perm.refl _, rfl, by decide, fun j hj => absurd hj (Nat.not_lt_zero _), fun t ht => (by cases ht), fun t ht => (by cases ht)⟩
set_option maxRecDepth 100000 in
set_option maxHeartbeats 4000000 in
theorem l_last_2 {sc : Nat × (Nat → Int32)} {s0 s1 s2 s3 s4 s5 s6 s8 s9 s10 s11 : List va_E} (Is nums Js : Nat → Int32) (g gp b0 : Nat) (l : List Nat) (hgp : 2 * gp = g) (hg : g ≤ 60) (hl5 : l.length ≤ 5) (hl20 : ∀ t, t ∈ l → t ≤ 20) (hb0 : b0 ≤ 80) (hbt : ∀ t, t ∈ l → g + t ≤ b0) (hJ : Js 0 = nI l.length) : ∀ (n sp : Nat) (Ws : Nat → Nat → Int32), sp + n = 16 → (∀ j, j < l.length → Ws 0 j = nI (l.getD j 0)) → (∀ u, b0 ≤ u → u < b0 + sp → ¬ jl_P g u l) → jb_J sc RX10 cX10_lastAnswer 4 (Option.some .int) false 8 0 0 26 [some (.ref 88), some (.int (nI gp)), some (.int (nI (b0 + sp))), some (.int (nI sp))] [] [s0, s1, s2, s3, s4, s5, s6, jb_sht88 Is nums Js Ws, s8, s9, s10, s11] (fun r h9 => ∃ v W9, jl_L g b0 l v ∧ r = some (.int (nI v)) ∧ h9 = [s0, s1, s2, s3, s4, s5, s6, jb_sht88 Is nums Js W9, s8, s9, s10, s11]) := by
  intro n
  induction n with
  | zero =>
    intro sp Ws hsp hT hno
    obtain rfl : sp = 16 := by omega
    show jb_J _ RX10 cX10_lastAnswer 4 (Option.some .int) false 8 0 0 26 [some (.ref 88), some (.int (nI gp)), some (.int (nI (b0 + 16))), some (.int (nI 16))] [] [s0, s1, s2, s3, s4, s5, s6, jb_sht88 Is nums Js Ws, s8, s9, s10, s11] _
    refine jb_iload_n (pc' := 27) dX10_lastAnswer_26 rfl rfl ?_
    refine jb_bipush (pc' := 29) 16 dX10_lastAnswer_27 (by decide) rfl ?_
    refine jb_icmp_ge (tgt := 51) (pc' := 32) dX10_lastAnswer_29 (by decide) rfl (fun _ => ?_) (fun z => absurd (by decide) z)
    refine jb_iload_n (pc' := 52) dX10_lastAnswer_51 rfl rfl ?_
    refine jb_iret dX10_lastAnswer_52 rfl ?_
    exact ⟨b0 + 16, Ws, ⟨by omega, by omega, jl_free l hl5 hbt, hno⟩, rfl, rfl⟩
  | succ n ih =>
    intro sp Ws hsp hT hno
    show jb_J _ RX10 cX10_lastAnswer 4 (Option.some .int) false 8 0 0 26 [some (.ref 88), some (.int (nI gp)), some (.int (nI (b0 + sp))), some (.int (nI sp))] [] [s0, s1, s2, s3, s4, s5, s6, jb_sht88 Is nums Js Ws, s8, s9, s10, s11] _
    refine jb_iload_n (pc' := 27) dX10_lastAnswer_26 rfl rfl ?_
    refine jb_bipush (pc' := 29) 16 dX10_lastAnswer_27 (by decide) rfl ?_
    refine jb_icmp_ge (tgt := 51) (pc' := 32) dX10_lastAnswer_29 (by decide) rfl (fun z => absurd z (nI_ge (a := sp) (b := 16) (by omega) (by omega))) (fun _ => ?_)
    refine jb_aload_n (pc' := 33) dX10_lastAnswer_32 rfl rfl ?_
    refine jb_iconst (pc' := 34) 0 dX10_lastAnswer_33 (by decide) rfl ?_
    refine jb_iload_n (pc' := 35) dX10_lastAnswer_34 rfl rfl ?_
    refine jb_iload_n (pc' := 36) dX10_lastAnswer_35 rfl rfl ?_
    refine jb_callV (pc' := 39) (ci := 10) (q := 88) (As := [.int 0, .int (nI (b0 + sp)), .int (nI gp)]) (a2 := 0) (b2 := 0) wv_X10_52 rfl dX10_lastAnswer_36 (c_placed_2 Is nums Js g gp (b0 + sp) l.length (fun j => l.getD j 0) hgp hg (by omega) hl5 (fun j hj => hl20 _ (jl_gd.mpr ⟨j, hj, rfl⟩)) hJ l.length 0 (by omega) (fun _ => 0) Ws hT (fun j hj => absurd hj (Nat.not_lt_zero _))) rfl rfl ⟨by omega, Nat.le_of_eq (Nat.zero_add _), Nat.le_of_eq (Nat.zero_add _)⟩ (Nat.le_of_ble_eq_true rfl) rfl (fun r h9 hq => ?_)
    rcases hq with ⟨W8, hf8, -, ⟨hX, rfl⟩ | ⟨hX, rfl⟩, rfl⟩
    · show jb_J _ RX10 cX10_lastAnswer 4 (Option.some .int) false 8 0 0 39 [some (.ref 88), some (.int (nI gp)), some (.int (nI (b0 + sp))), some (.int (nI sp))] [.int 1] [s0, s1, s2, s3, s4, s5, s6, jb_sht88 Is nums Js W8, s8, s9, s10, s11] _
      refine jb_if_ne (tgt := 51) (pc' := 42) dX10_lastAnswer_39 (by decide) rfl (fun _ => ?_) (fun z => absurd z (by decide))
      refine jb_iload_n (pc' := 52) dX10_lastAnswer_51 rfl rfl ?_
      refine jb_iret dX10_lastAnswer_52 rfl ?_
      exact ⟨b0 + sp, W8, ⟨by omega, by omega, jl_XP.mp hX, hno⟩, rfl, rfl⟩
    · show jb_J _ RX10 cX10_lastAnswer 4 (Option.some .int) false 8 0 0 39 [some (.ref 88), some (.int (nI gp)), some (.int (nI (b0 + sp))), some (.int (nI sp))] [.int 0] [s0, s1, s2, s3, s4, s5, s6, jb_sht88 Is nums Js W8, s8, s9, s10, s11] _
      refine jb_if_ne (tgt := 51) (pc' := 42) dX10_lastAnswer_39 (by decide) rfl (fun z => absurd (by decide) z) (fun _ => ?_)
      refine jb_iinc_ (pc' := 45) (nI (b0 + (sp + 1))) dX10_lastAnswer_42 (by decide) rfl (jb_inc (b0 + sp) 1) (jb_at2 rfl) rfl ?_
      refine jb_iinc_ (pc' := 48) (nI (sp + 1)) dX10_lastAnswer_45 (by decide) rfl (jb_inc sp 1) (jb_at3 rfl) rfl ?_
      refine jb_goto (pc' := 26) dX10_lastAnswer_48 (by decide) ?_
      exact ih (sp + 1) W8 (by omega) (fun j hj => by rw [hf8 0 (by decide) (by decide)]; exact hT j hj) (fun u h1 h2 => by
        by_cases e : u = b0 + sp
        · rw [e]; exact fun z => hX (jl_XP.mpr z)
        · exact hno u h1 (by omega))
set_option maxRecDepth 100000 in
set_option maxHeartbeats 4000000 in
theorem c_lastA_2 {sc : Nat × (Nat → Int32)} {s0 s1 s2 s3 s4 s5 s6 s8 s9 s10 s11 : List va_E} (Is nums Js : Nat → Int32) (Ws : Nat → Nat → Int32) (zs : Nat) (h1s : Is 1 = nI zs) (hzs : zs ≤ 40) (g gp : Nat) (hgp : 2 * gp = g) (hg : g ≤ 60) : jb_C sc yX10_lastAnswer cX10_lastAnswer 4 (Option.some .int) 8 0 0 [.ref 88, .int (nI gp)] [s0, s1, s2, s3, s4, s5, s6, jb_sht88 Is nums Js Ws, s8, s9, s10, s11] (fun r h9 => ∃ J9 W9, (((jl_ga nums zs 0 []) = [] ∧ r = some (.int (-1))) ∨ (∃ M9 v, jl_mx M9 (jl_ga nums zs 0 []) ∧ jl_L g (g + M9) (jl_ga nums zs 0 []) v ∧ r = some (.int (nI v)))) ∧ h9 = [s0, s1, s2, s3, s4, s5, s6, jb_sht88 Is nums J9 W9, s8, s9, s10, s11]) := by
  refine jb_CofJ (ini := false) (by decide +kernel) (fun h => by cases h) (Nat.le_of_ble_eq_true rfl) ?_
  show jb_J sc RX10 cX10_lastAnswer 4 (Option.some .int) false 8 0 0 0 [some (.ref 88), some (.int (nI gp)), none, none] [] [s0, s1, s2, s3, s4, s5, s6, jb_sht88 Is nums Js Ws, s8, s9, s10, s11] _
  refine jb_aload_n (pc' := 1) dX10_lastAnswer_0 rfl rfl ?_
  refine jb_callV (pc' := 4) (ci := 10) (q := 88) (As := []) (a2 := 0) (b2 := 0) wv_X10_49 rfl dX10_lastAnswer_1 (c_gatherT_2 Is nums Js Ws zs h1s hzs) rfl rfl ⟨by decide, Nat.le_of_eq (Nat.zero_add _), Nat.le_of_eq (Nat.zero_add _)⟩ (Nat.le_of_ble_eq_true rfl) rfl (fun r h9 hq => ?_)
  obtain ⟨rfl, J8, W8, l, ⟨p1, hJ, p2, p3, p4, p5⟩, rfl⟩ := hq
  show jb_J _ RX10 cX10_lastAnswer 4 (Option.some .int) false 8 0 0 4 [some (.ref 88), some (.int (nI gp)), none, none] [] [s0, s1, s2, s3, s4, s5, s6, jb_sht88 Is nums J8 W8, s8, s9, s10, s11] _
  refine jb_aload_n (pc' := 5) dX10_lastAnswer_4 rfl rfl ?_
  refine gf_X10_22 (pc' := 8) (v := .int (J8 0)) dX10_lastAnswer_5 rfl rfl rfl ?_
  refine jb_top (v := .int (J8 0)) (w := .int (nI l.length)) (jb_vI hJ) ?_
  refine jb_if_ne (tgt := 13) (pc' := 11) dX10_lastAnswer_8 (by decide) rfl (fun hz0 => ?_) (fun hz0 => ?_)
  · have hz0 : ¬ l.length = 0 := fun z9 => hz0 ((nI_eq (a := l.length) (b := 0) (by omega) (by omega)).mpr z9)
    refine jb_iconst (pc' := 14) 2 dX10_lastAnswer_13 (by decide) rfl ?_
    refine jb_iload_n (pc' := 15) dX10_lastAnswer_14 rfl rfl ?_
    refine jb_imul (pc' := 16) dX10_lastAnswer_15 rfl ?_
    refine jb_top (v := .int (2 * (nI gp))) (w := .int (nI (2 * gp))) (jb_vI (pk_mul 2 _)) ?_
    refine jb_aload_n (pc' := 17) dX10_lastAnswer_16 rfl rfl ?_
    refine gf_X10_25 (pc' := 20) (v := .ref 90) dX10_lastAnswer_17 rfl rfl rfl ?_
    refine jb_iconst (pc' := 21) 0 dX10_lastAnswer_20 (by decide) rfl ?_
    refine jb_iaload (pc' := 22) (i9 := 0) (f := (W8 0)) dX10_lastAnswer_21 rfl jb_x0 (by decide) rfl ?_
    refine jb_top (v := .int ((W8 0) 0)) (w := .int (nI (l.getD 0 0))) (jb_vI (p3 0 (by omega))) ?_
    refine jb_iadd (pc' := 23) dX10_lastAnswer_22 rfl ?_
    refine jb_top (v := .int ((nI (2 * gp)) + (nI (l.getD 0 0)))) (w := .int (nI (g + l.getD 0 0))) (jb_vI (by rw [nI_add, hgp])) ?_
    refine jb_istore_n_ (pc' := 24) dX10_lastAnswer_23 (by decide) (jb_at2 rfl) rfl ?_
    refine jb_iconst (pc' := 25) 0 dX10_lastAnswer_24 (by decide) rfl ?_
    refine jb_istore_n_ (pc' := 26) dX10_lastAnswer_25 (by decide) (jb_at3 rfl) rfl ?_
    have hm0 : l.getD 0 0 ∈ l := jl_gd.mpr ⟨0, by omega, rfl⟩
    have b20 := p4 _ hm0
    refine jb_J.mono (l_last_2 Is nums J8 g gp (g + l.getD 0 0) l hgp hg p2 p4 (by omega) (fun t ht => by have := p5 t ht; omega) hJ 16 0 W8 (by omega) p3 (fun u h1 h2 => absurd h2 (by omega))) (Nat.le_refl _) (Nat.le_refl _) (Nat.le_refl _) (fun r h9 hq => ?_)
    obtain ⟨v, W9, hL, rfl, rfl⟩ := hq
    refine ⟨J8, W9, Or.inr ⟨l.getD 0 0, v, ⟨p1.mem_iff.mp hm0, fun t ht => p5 t (p1.mem_iff.mpr ht)⟩, ⟨hL.1, hL.2.1, hL.2.2.1.perm p1, fun u h1 h2 z => hL.2.2.2 u h1 h2 (z.perm p1.symm)⟩, rfl⟩, rfl⟩
  · have hz0 : l.length = 0 := (nI_eq (a := l.length) (b := 0) (by omega) (by omega)).mp hz0
    refine jb_iconst (pc' := 12) (-1) dX10_lastAnswer_11 (by decide) rfl ?_
    refine jb_iret dX10_lastAnswer_12 rfl ?_
    have l0 : l = [] := List.eq_nil_of_length_eq_zero (by omega)
    subst l0
    exact ⟨J8, W8, Or.inl ⟨p1.nil_eq.symm, rfl⟩, rfl⟩
set_option maxRecDepth 100000 in
set_option maxHeartbeats 4000000 in
theorem kx_lesson_2 {sc : Nat × (Nat → Int32)} {s2 s3 s5 s6 s8 s9 s10 s11 : List va_E} {V : Nat → Nat → Nat} (imm : Int32) (Im rowm stkm tpm : Nat → Int32) (Tm : Nat → Value) (I : Nat → Int32) (W : Nat → Nat → Int32) (T : Nat → Value) (Is nums Js : Nat → Int32) (Ws : Nat → Nat → Int32) (hr : jr_ V I W) (hk : jv_ok V) {bs zs : Nat} (h0s : Is 0 = nI bs) (h1s : Is 1 = nI zs) (hbs : bs ≤ 32) (hzs : zs ≤ 40) (hm : ¬ bs = 0) : jb_C sc yX11_lesson cX11_lesson 2 (Option.some .int) 9 0 0 [.ref 0, .int 2] [jb_main imm Im Tm rowm stkm tpm, jb_sch13 I W T, s2, s3, jb_shs, s5, s6, jb_sht88 Is nums Js Ws, s8, s9, s10, s11] (fun r h9 => ∃ J9 W9, (((jl_ga nums zs 0 []) = [] ∧ r = some (.int (-1))) ∨ (∃ M9 v, jl_mx M9 (jl_ga nums zs 0 []) ∧ jl_L (2 * (V 0 4 + V 0 5)) ((2 * (V 0 4 + V 0 5)) + M9) (jl_ga nums zs 0 []) v ∧ r = some (.int (nI v)))) ∧ h9 = [jb_main imm Im Tm rowm stkm tpm, jb_sch13 I W T, s2, s3, jb_shs, s5, s6, jb_sht88 Is nums J9 W9, s8, s9, s10, s11]) := by
  refine jb_CofJ (ini := false) (by decide +kernel) (fun h => by cases h) (Nat.le_of_ble_eq_true rfl) ?_
  show jb_J sc RX11 cX11_lesson 2 (Option.some .int) false 9 0 0 0 [some (.ref 0), some (.int 2)] [] [jb_main imm Im Tm rowm stkm tpm, jb_sch13 I W T, s2, s3, jb_shs, s5, s6, jb_sht88 Is nums Js Ws, s8, s9, s10, s11] _
  have hr0 := hr
  have hk0 := hk
  obtain ⟨r0, r2, r3, r4, a0, a1, a2, rv, rs, rd⟩ := hr
  obtain ⟨k0, k1, k2, k3, k4, k5, k6, k7, kv, ks, kd⟩ := hk
  refine jb_aload_n (pc' := 1) dX11_lesson_0 rfl rfl ?_
  refine jb_iload_n (pc' := 2) dX11_lesson_1 rfl rfl ?_
  refine jb_callV (pc' := 5) (ci := 11) (q := 0) (As := [.int 2]) (a2 := 0) (b2 := 0) wv_X11_165 rfl dX11_lesson_2 (c_isNoSheetG _ 2 (by omega)) rfl rfl ⟨by decide, Nat.le_of_eq (Nat.zero_add _), Nat.le_of_eq (Nat.zero_add _)⟩ (Nat.le_of_ble_eq_true rfl) rfl (fun r h9 hq => ?_)
  obtain ⟨rfl, rfl⟩ := hq
  show jb_J _ RX11 cX11_lesson 2 (Option.some .int) false 9 0 0 5 [some (.ref 0), some (.int 2)] [.int 0] [jb_main imm Im Tm rowm stkm tpm, jb_sch13 I W T, s2, s3, jb_shs, s5, s6, jb_sht88 Is nums Js Ws, s8, s9, s10, s11] _
  refine jb_if_eq (tgt := 14) (pc' := 8) dX11_lesson_5 (by decide) rfl (fun _ => ?_) (fun z => absurd (by decide) z)
  refine jb_aload_n (pc' := 15) dX11_lesson_14 rfl rfl ?_
  refine gf_X11_54 (pc' := 18) (v := .ref 73) dX11_lesson_15 rfl rfl rfl ?_
  refine jb_iload_n (pc' := 19) dX11_lesson_18 rfl rfl ?_
  refine jb_aaload (pc' := 20) (i9 := 2) (r := 88) (Or.inr (Or.inr rfl)) dX11_lesson_19 rfl jb_x2 (by decide) rfl rfl ?_
  refine jb_callV (pc' := 23) (ci := 10) (q := 88) (As := []) (a2 := 0) (b2 := 0) wv_X11_168 rfl dX11_lesson_20 (c_isMissing_2 Is nums Js Ws h0s h1s hbs hzs) rfl rfl ⟨by decide, Nat.le_of_eq (Nat.zero_add _), Nat.le_of_eq (Nat.zero_add _)⟩ (Nat.le_of_ble_eq_true rfl) rfl (fun r h9 hq => ?_)
  rcases hq with ⟨rfl, ⟨hms, rfl⟩ | ⟨hms, rfl⟩⟩
  · exact absurd hms hm
  · show jb_J _ RX11 cX11_lesson 2 (Option.some .int) false 9 0 0 23 [some (.ref 0), some (.int 2)] [.int 0] [jb_main imm Im Tm rowm stkm tpm, jb_sch13 I W T, s2, s3, jb_shs, s5, s6, jb_sht88 Is nums Js Ws, s8, s9, s10, s11] _
    refine jb_if_eq (tgt := 32) (pc' := 26) dX11_lesson_23 (by decide) rfl (fun _ => ?_) (fun z => absurd (by decide) z)
    refine jb_aload_n (pc' := 33) dX11_lesson_32 rfl rfl ?_
    refine gf_X11_54 (pc' := 36) (v := .ref 73) dX11_lesson_33 rfl rfl rfl ?_
    refine jb_iload_n (pc' := 37) dX11_lesson_36 rfl rfl ?_
    refine jb_aaload (pc' := 38) (i9 := 2) (r := 88) (Or.inr (Or.inr rfl)) dX11_lesson_37 rfl jb_x2 (by decide) rfl rfl ?_
    refine jb_aload_n (pc' := 39) dX11_lesson_38 rfl rfl ?_
    refine gf_X11_42 (pc' := 42) (v := .ref 13) dX11_lesson_39 rfl rfl rfl ?_
    refine jb_callV (pc' := 45) (ci := 9) (q := 13) (As := []) (a2 := 0) (b2 := 0) wv_X11_172 rfl dX11_lesson_42 (c_gap_13 _ _ _) rfl rfl ⟨by decide, Nat.le_of_eq (Nat.zero_add _), Nat.le_of_eq (Nat.zero_add _)⟩ (Nat.le_of_ble_eq_true rfl) rfl (fun r h9 hq => ?_)
    obtain ⟨rfl, rfl⟩ := hq
    show jb_J _ RX11 cX11_lesson 2 (Option.some .int) false 9 0 0 45 [some (.ref 0), some (.int 2)] [.int (W 0 0 + W 0 1), .ref 88] [jb_main imm Im Tm rowm stkm tpm, jb_sch13 I W T, s2, s3, jb_shs, s5, s6, jb_sht88 Is nums Js Ws, s8, s9, s10, s11] _
    refine jb_top (v := .int (W 0 0 + W 0 1)) (w := .int (nI (V 0 4 + V 0 5))) (jb_vI (by rw [a0, a1, nI_add])) ?_
    refine jb_callV (pc' := 48) (ci := 10) (q := 88) (As := [.int (nI (V 0 4 + V 0 5))]) (a2 := 0) (b2 := 0) wv_X11_175 rfl dX11_lesson_45 (c_lastA_2 Is nums Js Ws zs h1s hzs (2 * (V 0 4 + V 0 5)) (V 0 4 + V 0 5) rfl (by omega)) rfl rfl ⟨by decide, Nat.le_of_eq (Nat.zero_add _), Nat.le_of_eq (Nat.zero_add _)⟩ (Nat.le_of_ble_eq_true rfl) rfl (fun r h9 hq => ?_)
    rcases hq with ⟨J9, W9, ⟨hga, rfl⟩ | ⟨M9, v, hmx, hL, rfl⟩, rfl⟩
    · show jb_J _ RX11 cX11_lesson 2 (Option.some .int) false 9 0 0 48 [some (.ref 0), some (.int 2)] [.int (-1)] [jb_main imm Im Tm rowm stkm tpm, jb_sch13 I W T, s2, s3, jb_shs, s5, s6, jb_sht88 Is nums J9 W9, s8, s9, s10, s11] _
      refine jb_iret dX11_lesson_48 rfl ?_
      exact ⟨J9, W9, Or.inl ⟨hga, rfl⟩, rfl⟩
    · show jb_J _ RX11 cX11_lesson 2 (Option.some .int) false 9 0 0 48 [some (.ref 0), some (.int 2)] [.int (nI v)] [jb_main imm Im Tm rowm stkm tpm, jb_sch13 I W T, s2, s3, jb_shs, s5, s6, jb_sht88 Is nums J9 W9, s8, s9, s10, s11] _
      refine jb_iret dX11_lesson_48 rfl ?_
      exact ⟨J9, W9, Or.inr ⟨M9, v, hmx, hL, rfl⟩, rfl⟩
set_option maxRecDepth 100000 in
set_option maxHeartbeats 4000000 in
theorem l_isFree_3 {sc : Nat × (Nat → Int32)} {s0 s1 s2 s3 s4 s5 s6 s7 s9 s10 s11 : List va_E} (Is nums Js : Nat → Int32) (Ws : Nat → Nat → Int32) (g : Nat) (th A : Nat → Nat) (q x y : Nat) (hg : g ≤ 60) (hq : q ≤ 5) (hx : x ≤ 200) (hy : y = x + g + th q) (hth : ∀ j, j < q → th j ≤ 20) (htq : th q ≤ 20) (hA : (∀ j, j < q → Ws 1 j = nI (A j) ∧ Ws 2 j = nI (A j + g + th j) ∧ A j ≤ 200)) : ∀ (n i : Nat), i + n = q → (∀ j, j < i → jl_c g (A j) (th j) x (th q)) → jb_J sc RX10 cX10_isFree 5 (Option.some .boolean) false 0 0 0 3 [some (.ref 95), some (.int (nI q)), some (.int (nI x)), some (.int (nI y)), some (.int (nI i))] [] [s0, s1, s2, s3, s4, s5, s6, s7, jb_sht95 Is nums Js Ws, s9, s10, s11] (fun r h9 => [s0, s1, s2, s3, s4, s5, s6, s7, jb_sht95 Is nums Js Ws, s9, s10, s11] = h9 ∧ ((jl_fr g th q A x ∧ r = some (.int 1)) ∨ (¬ jl_fr g th q A x ∧ r = some (.int 0)))) := by
  intro n
  induction n with
  | zero =>
    intro i hi hc
    show jb_J _ RX10 cX10_isFree 5 (Option.some .boolean) false 0 0 0 3 [some (.ref 95), some (.int (nI q)), some (.int (nI x)), some (.int (nI y)), some (.int (nI i))] [] [s0, s1, s2, s3, s4, s5, s6, s7, jb_sht95 Is nums Js Ws, s9, s10, s11] _
    refine jb_iload (pc' := 5) dX10_isFree_3 rfl rfl ?_
    refine jb_iload_n (pc' := 6) dX10_isFree_5 rfl rfl ?_
    refine jb_icmp_ge (tgt := 61) (pc' := 9) dX10_isFree_6 (by decide) rfl (fun _ => ?_) (fun z => absurd (nI_le (a := q) (b := i) (by omega) (by omega)) z)
    refine jb_iconst (pc' := 62) 1 dX10_isFree_61 (by decide) rfl ?_
    refine jb_iret dX10_isFree_62 rfl ?_
    exact ⟨rfl, Or.inl ⟨fun j hj => hc j (by omega), rfl⟩⟩
  | succ n ih =>
    intro i hi hc
    have a1 := hA i (by omega)
    have a2 := hth i (by omega)
    show jb_J _ RX10 cX10_isFree 5 (Option.some .boolean) false 0 0 0 3 [some (.ref 95), some (.int (nI q)), some (.int (nI x)), some (.int (nI y)), some (.int (nI i))] [] [s0, s1, s2, s3, s4, s5, s6, s7, jb_sht95 Is nums Js Ws, s9, s10, s11] _
    refine jb_iload (pc' := 5) dX10_isFree_3 rfl rfl ?_
    refine jb_iload_n (pc' := 6) dX10_isFree_5 rfl rfl ?_
    refine jb_icmp_ge (tgt := 61) (pc' := 9) dX10_isFree_6 (by decide) rfl (fun z => absurd z (nI_ge (a := i) (b := q) (by omega) (by omega))) (fun _ => ?_)
    refine jb_aload_n (pc' := 10) dX10_isFree_9 rfl rfl ?_
    refine gf_X10_28 (pc' := 13) (v := .ref 98) dX10_isFree_10 rfl rfl rfl ?_
    refine jb_iload (pc' := 15) dX10_isFree_13 rfl rfl ?_
    refine jb_iaload (pc' := 16) (i9 := i) (f := (Ws 1)) dX10_isFree_15 rfl (jb_ix_nI (by omega)) (by omega) rfl ?_
    refine jb_top (v := .int ((Ws 1) i)) (w := .int (nI (A i))) (jb_vI (hA i (by omega)).1) ?_
    refine jb_iload_n (pc' := 17) dX10_isFree_16 rfl rfl ?_
    refine jb_icmp_eq (tgt := 53) (pc' := 20) dX10_isFree_17 (by decide) rfl (fun c2 => ?_) (fun c2 => ?_)
    · have c2 : (A i) = x := (nI_eq (a := (A i)) (b := x) (by omega) (by omega)).mp c2
      refine jb_iconst (pc' := 54) 0 dX10_isFree_53 (by decide) rfl ?_
      refine jb_iret dX10_isFree_54 rfl ?_
      exact ⟨rfl, Or.inr ⟨fun z => (by have z1 := z i (by omega); unfold jl_c at z1; omega), rfl⟩⟩
    · have c2 : ¬ (A i) = x := fun z9 => c2 ((nI_eq (a := (A i)) (b := x) (by omega) (by omega)).mpr z9)
      refine jb_aload_n (pc' := 21) dX10_isFree_20 rfl rfl ?_
      refine gf_X10_28 (pc' := 24) (v := .ref 98) dX10_isFree_21 rfl rfl rfl ?_
      refine jb_iload (pc' := 26) dX10_isFree_24 rfl rfl ?_
      refine jb_iaload (pc' := 27) (i9 := i) (f := (Ws 1)) dX10_isFree_26 rfl (jb_ix_nI (by omega)) (by omega) rfl ?_
      refine jb_top (v := .int ((Ws 1) i)) (w := .int (nI (A i))) (jb_vI (hA i (by omega)).1) ?_
      refine jb_iload_n (pc' := 28) dX10_isFree_27 rfl rfl ?_
      refine jb_icmp_eq (tgt := 53) (pc' := 31) dX10_isFree_28 (by decide) rfl (fun c3 => ?_) (fun c3 => ?_)
      · have c3 : (A i) = y := (nI_eq (a := (A i)) (b := y) (by omega) (by omega)).mp c3
        refine jb_iconst (pc' := 54) 0 dX10_isFree_53 (by decide) rfl ?_
        refine jb_iret dX10_isFree_54 rfl ?_
        exact ⟨rfl, Or.inr ⟨fun z => (by have z1 := z i (by omega); unfold jl_c at z1; omega), rfl⟩⟩
      · have c3 : ¬ (A i) = y := fun z9 => c3 ((nI_eq (a := (A i)) (b := y) (by omega) (by omega)).mpr z9)
        refine jb_aload_n (pc' := 32) dX10_isFree_31 rfl rfl ?_
        refine gf_X10_31 (pc' := 35) (v := .ref 99) dX10_isFree_32 rfl rfl rfl ?_
        refine jb_iload (pc' := 37) dX10_isFree_35 rfl rfl ?_
        refine jb_iaload (pc' := 38) (i9 := i) (f := (Ws 2)) dX10_isFree_37 rfl (jb_ix_nI (by omega)) (by omega) rfl ?_
        refine jb_top (v := .int ((Ws 2) i)) (w := .int (nI (A i + g + th i))) (jb_vI (hA i (by omega)).2.1) ?_
        refine jb_iload_n (pc' := 39) dX10_isFree_38 rfl rfl ?_
        refine jb_icmp_eq (tgt := 53) (pc' := 42) dX10_isFree_39 (by decide) rfl (fun c4 => ?_) (fun c4 => ?_)
        · have c4 : (A i + g + th i) = x := (nI_eq (a := (A i + g + th i)) (b := x) (by omega) (by omega)).mp c4
          refine jb_iconst (pc' := 54) 0 dX10_isFree_53 (by decide) rfl ?_
          refine jb_iret dX10_isFree_54 rfl ?_
          exact ⟨rfl, Or.inr ⟨fun z => (by have z1 := z i (by omega); unfold jl_c at z1; omega), rfl⟩⟩
        · have c4 : ¬ (A i + g + th i) = x := fun z9 => c4 ((nI_eq (a := (A i + g + th i)) (b := x) (by omega) (by omega)).mpr z9)
          refine jb_aload_n (pc' := 43) dX10_isFree_42 rfl rfl ?_
          refine gf_X10_31 (pc' := 46) (v := .ref 99) dX10_isFree_43 rfl rfl rfl ?_
          refine jb_iload (pc' := 48) dX10_isFree_46 rfl rfl ?_
          refine jb_iaload (pc' := 49) (i9 := i) (f := (Ws 2)) dX10_isFree_48 rfl (jb_ix_nI (by omega)) (by omega) rfl ?_
          refine jb_top (v := .int ((Ws 2) i)) (w := .int (nI (A i + g + th i))) (jb_vI (hA i (by omega)).2.1) ?_
          refine jb_iload_n (pc' := 50) dX10_isFree_49 rfl rfl ?_
          refine jb_icmp_ne (tgt := 55) (pc' := 53) dX10_isFree_50 (by decide) rfl (fun c5 => ?_) (fun c5 => ?_)
          · have c5 : ¬ (A i + g + th i) = y := fun z9 => c5 ((nI_eq (a := (A i + g + th i)) (b := y) (by omega) (by omega)).mpr z9)
            refine jb_iinc_ (pc' := 58) (nI (i + 1)) dX10_isFree_55 (by decide) rfl (jb_inc i 1) (jb_at4 rfl) rfl ?_
            refine jb_goto (pc' := 3) dX10_isFree_58 (by decide) ?_
            exact ih (i + 1) (by omega) (fun j hj => by
              by_cases e : j = i
              · rw [e]; unfold jl_c; omega
              · exact hc j (by omega))
          · have c5 : (A i + g + th i) = y := (nI_eq (a := (A i + g + th i)) (b := y) (by omega) (by omega)).mp c5
            refine jb_iconst (pc' := 54) 0 dX10_isFree_53 (by decide) rfl ?_
            refine jb_iret dX10_isFree_54 rfl ?_
            exact ⟨rfl, Or.inr ⟨fun z => (by have z1 := z i (by omega); unfold jl_c at z1; omega), rfl⟩⟩
set_option maxRecDepth 100000 in
set_option maxHeartbeats 4000000 in
theorem c_isFree_3 {sc : Nat × (Nat → Int32)} {s0 s1 s2 s3 s4 s5 s6 s7 s9 s10 s11 : List va_E} (Is nums Js : Nat → Int32) (Ws : Nat → Nat → Int32) (g : Nat) (th A : Nat → Nat) (q x y : Nat) (hg : g ≤ 60) (hq : q ≤ 5) (hx : x ≤ 200) (hy : y = x + g + th q) (hth : ∀ j, j < q → th j ≤ 20) (htq : th q ≤ 20) (hA : (∀ j, j < q → Ws 1 j = nI (A j) ∧ Ws 2 j = nI (A j + g + th j) ∧ A j ≤ 200)) : jb_C sc yX10_isFree cX10_isFree 5 (Option.some .boolean) 0 0 0 [.ref 95, .int (nI q), .int (nI x), .int (nI y)] [s0, s1, s2, s3, s4, s5, s6, s7, jb_sht95 Is nums Js Ws, s9, s10, s11] (fun r h9 => [s0, s1, s2, s3, s4, s5, s6, s7, jb_sht95 Is nums Js Ws, s9, s10, s11] = h9 ∧ ((jl_fr g th q A x ∧ r = some (.int 1)) ∨ (¬ jl_fr g th q A x ∧ r = some (.int 0)))) := by
  refine jb_CofJ (ini := false) (by decide +kernel) (fun h => by cases h) (Nat.le_of_ble_eq_true rfl) ?_
  show jb_J sc RX10 cX10_isFree 5 (Option.some .boolean) false 0 0 0 0 [some (.ref 95), some (.int (nI q)), some (.int (nI x)), some (.int (nI y)), none] [] [s0, s1, s2, s3, s4, s5, s6, s7, jb_sht95 Is nums Js Ws, s9, s10, s11] _
  refine jb_iconst (pc' := 1) 0 dX10_isFree_0 (by decide) rfl ?_
  refine jb_istore_ (pc' := 3) dX10_isFree_1 (by decide) (jb_at4 rfl) rfl ?_
  exact l_isFree_3 Is nums Js Ws g th A q x y hg hq hx hy hth htq hA q 0 (by omega) (fun j hj => absurd hj (by omega))
set_option maxRecDepth 100000 in
set_option maxHeartbeats 4000000 in
theorem l_placed_3 {sc : Nat × (Nat → Int32)} {s0 s1 s2 s3 s4 s5 s6 s7 s9 s10 s11 : List va_E} (Is nums Js : Nat → Int32) (g gp last k : Nat) (th : Nat → Nat) (hgp : 2 * gp = g) (hg : g ≤ 60) (hl : last ≤ 200) (hk5 : k ≤ 5) (hth : ∀ j, j < k → th j ≤ 20) (hJ : Js 0 = nI k) (m q : Nat) (hqm : q + (m + 1) = k) (A : Nat → Nat) (Ws : Nat → Nat → Int32) (hT0 : (∀ j, j < k → Ws 0 j = nI (th j))) (hA0 : (∀ j, j < q → Ws 1 j = nI (A j) ∧ Ws 2 j = nI (A j + g + th j) ∧ A j ≤ 200)) (hI : (∀ (A : Nat → Nat) (Ws : Nat → Nat → Int32), (∀ j, j < k → Ws 0 j = nI (th j)) → (∀ j, j < (q + 1) → Ws 1 j = nI (A j) ∧ Ws 2 j = nI (A j + g + th j) ∧ A j ≤ 200) → jb_C sc yX10_isPlaced cX10_isPlaced 6 (Option.some .boolean) (m + 2) 0 0 [.ref 95, .int (nI (q + 1)), .int (nI last), .int (nI gp)] [s0, s1, s2, s3, s4, s5, s6, s7, jb_sht95 Is nums Js Ws, s9, s10, s11] (fun r h9 => ∃ W9, (∀ r, ¬ r = 1 → ¬ r = 2 → W9 r = Ws r) ∧ (∀ j, j < (q + 1) → W9 1 j = Ws 1 j ∧ W9 2 j = Ws 2 j) ∧ ((jl_X g last th k (q + 1) A ∧ r = some (.int 1)) ∨ (¬ jl_X g last th k (q + 1) A ∧ r = some (.int 0))) ∧ h9 = [s0, s1, s2, s3, s4, s5, s6, s7, jb_sht95 Is nums Js W9, s9, s10, s11]))) : ∀ (n x : Nat) (Wc : Nat → Nat → Int32), x + n = last + 1 → (∀ r, ¬ r = 1 → ¬ r = 2 → Wc r = Ws r) ∧ (∀ j, j < q → Wc 1 j = Ws 1 j ∧ Wc 2 j = Ws 2 j) → (∀ x9, x9 < x → ¬ (x9 + g + th q ≤ last ∧ jl_fr g th q A x9 ∧ jl_X g last th k (q + 1) (jl_up A q x9))) → jb_J sc RX10 cX10_isPlaced 6 (Option.some .boolean) false (m + 3) 0 0 30 [some (.ref 95), some (.int (nI q)), some (.int (nI last)), some (.int (nI gp)), some (.int (nI (g + th q))), some (.int (nI x))] [] [s0, s1, s2, s3, s4, s5, s6, s7, jb_sht95 Is nums Js Wc, s9, s10, s11] (fun r h9 => ∃ W9, (∀ r, ¬ r = 1 → ¬ r = 2 → W9 r = Ws r) ∧ (∀ j, j < q → W9 1 j = Ws 1 j ∧ W9 2 j = Ws 2 j) ∧ ((jl_X g last th k q A ∧ r = some (.int 1)) ∨ (¬ jl_X g last th k q A ∧ r = some (.int 0))) ∧ h9 = [s0, s1, s2, s3, s4, s5, s6, s7, jb_sht95 Is nums Js W9, s9, s10, s11]) := by
  have htq := hth q (by omega)
  intro n
  induction n with
  | zero =>
    intro x Wc hx ⟨hf, hp⟩ hno
    have hT : (∀ j, j < k → Wc 0 j = nI (th j)) := fun j hj => by rw [hf 0 (by decide) (by decide)]; exact hT0 j hj
    have hA : (∀ j, j < q → Wc 1 j = nI (A j) ∧ Wc 2 j = nI (A j + g + th j) ∧ A j ≤ 200) := fun j hj => ⟨(hp j hj).1.trans (hA0 j hj).1, (hp j hj).2.trans (hA0 j hj).2.1, (hA0 j hj).2.2⟩
    show jb_J _ RX10 cX10_isPlaced 6 (Option.some .boolean) false (m + 3) 0 0 30 [some (.ref 95), some (.int (nI q)), some (.int (nI last)), some (.int (nI gp)), some (.int (nI (g + th q))), some (.int (nI x))] [] [s0, s1, s2, s3, s4, s5, s6, s7, jb_sht95 Is nums Js Wc, s9, s10, s11] _
    refine jb_iload (pc' := 32) dX10_isPlaced_30 rfl rfl ?_
    refine jb_iload_n (pc' := 33) dX10_isPlaced_32 rfl rfl ?_
    refine jb_iload (pc' := 35) dX10_isPlaced_33 rfl rfl ?_
    refine jb_isub (pc' := 36) dX10_isPlaced_35 rfl ?_
    refine jb_icmp_gt (tgt := 96) (pc' := 39) dX10_isPlaced_36 (by decide) rfl (fun _ => ?_) (fun z => absurd ((jl_sub (last := last) (needs := g + th q) (x := x) (by omega) (by omega) (by omega)).mpr (by omega)) z)
    refine jb_iconst (pc' := 97) 0 dX10_isPlaced_96 (by decide) rfl ?_
    refine jb_iret dX10_isPlaced_97 rfl ?_
    exact ⟨Wc, hf, hp, Or.inr ⟨fun z => (by obtain ⟨x9, z1, z2, z3⟩ := (jl_X.step (by omega)).mp z; exact hno x9 (by omega) ⟨z1, z2, z3⟩), rfl⟩, rfl⟩
  | succ n ih =>
    intro x Wc hx ⟨hf, hp⟩ hno
    have hT : (∀ j, j < k → Wc 0 j = nI (th j)) := fun j hj => by rw [hf 0 (by decide) (by decide)]; exact hT0 j hj
    have hA : (∀ j, j < q → Wc 1 j = nI (A j) ∧ Wc 2 j = nI (A j + g + th j) ∧ A j ≤ 200) := fun j hj => ⟨(hp j hj).1.trans (hA0 j hj).1, (hp j hj).2.trans (hA0 j hj).2.1, (hA0 j hj).2.2⟩
    show jb_J _ RX10 cX10_isPlaced 6 (Option.some .boolean) false (m + 3) 0 0 30 [some (.ref 95), some (.int (nI q)), some (.int (nI last)), some (.int (nI gp)), some (.int (nI (g + th q))), some (.int (nI x))] [] [s0, s1, s2, s3, s4, s5, s6, s7, jb_sht95 Is nums Js Wc, s9, s10, s11] _
    refine jb_iload (pc' := 32) dX10_isPlaced_30 rfl rfl ?_
    refine jb_iload_n (pc' := 33) dX10_isPlaced_32 rfl rfl ?_
    refine jb_iload (pc' := 35) dX10_isPlaced_33 rfl rfl ?_
    refine jb_isub (pc' := 36) dX10_isPlaced_35 rfl ?_
    refine jb_icmp_gt (tgt := 96) (pc' := 39) dX10_isPlaced_36 (by decide) rfl (fun hgt => ?_) (fun hgt => ?_)
    · have hgt2 : ¬ x + (g + th q) ≤ last := (jl_sub (last := last) (needs := g + th q) (x := x) (by omega) (by omega) (by omega)).mp hgt
      refine jb_iconst (pc' := 97) 0 dX10_isPlaced_96 (by decide) rfl ?_
      refine jb_iret dX10_isPlaced_97 rfl ?_
      exact ⟨Wc, hf, hp, Or.inr ⟨fun z => (by obtain ⟨x9, z1, z2, z3⟩ := (jl_X.step (by omega)).mp z; exact hno x9 (by omega) ⟨z1, z2, z3⟩), rfl⟩, rfl⟩
    · have hgt2 : x + (g + th q) ≤ last := Classical.byContradiction (fun z => hgt ((jl_sub (last := last) (needs := g + th q) (x := x) (by omega) (by omega) (by omega)).mpr z))
      refine jb_aload_n (pc' := 40) dX10_isPlaced_39 rfl rfl ?_
      refine jb_iload_n (pc' := 41) dX10_isPlaced_40 rfl rfl ?_
      refine jb_iload (pc' := 43) dX10_isPlaced_41 rfl rfl ?_
      refine jb_iload (pc' := 45) dX10_isPlaced_43 rfl rfl ?_
      refine jb_iload (pc' := 47) dX10_isPlaced_45 rfl rfl ?_
      refine jb_iadd (pc' := 48) dX10_isPlaced_47 rfl ?_
      refine jb_top (v := .int ((nI x) + (nI (g + th q)))) (w := .int (nI (x + (g + th q)))) (jb_vI (nI_add _ _)) ?_
      refine jb_callV (pc' := 51) (ci := 10) (q := 95) (As := [.int (nI q), .int (nI x), .int (nI (x + (g + th q)))]) (a2 := 0) (b2 := 0) wv_X10_59 rfl dX10_isPlaced_48 (c_isFree_3 Is nums Js Wc g th A q x (x + (g + th q)) hg (by omega) (by omega) (by omega) (fun j hj => hth j (by omega)) htq hA) rfl rfl ⟨by omega, Nat.le_of_eq (Nat.zero_add _), Nat.le_of_eq (Nat.zero_add _)⟩ (Nat.le_of_ble_eq_true rfl) rfl (fun r h9 hq => ?_)
      rcases hq with ⟨rfl, ⟨hfr, rfl⟩ | ⟨hfr, rfl⟩⟩
      · show jb_J _ RX10 cX10_isPlaced 6 (Option.some .boolean) false (m + 3) 0 0 51 [some (.ref 95), some (.int (nI q)), some (.int (nI last)), some (.int (nI gp)), some (.int (nI (g + th q))), some (.int (nI x))] [.int 1] [s0, s1, s2, s3, s4, s5, s6, s7, jb_sht95 Is nums Js Wc, s9, s10, s11] _
        refine jb_if_ne (tgt := 57) (pc' := 54) dX10_isPlaced_51 (by decide) rfl (fun _ => ?_) (fun z => absurd z (by decide))
        refine jb_aload_n (pc' := 58) dX10_isPlaced_57 rfl rfl ?_
        refine gf_X10_28 (pc' := 61) (v := .ref 98) dX10_isPlaced_58 rfl rfl rfl ?_
        refine jb_iload_n (pc' := 62) dX10_isPlaced_61 rfl rfl ?_
        refine jb_iload (pc' := 64) dX10_isPlaced_62 rfl rfl ?_
        refine jb_iastore (pc' := 65) (i9 := q) (f := (Wc 1)) (h' := [s0, s1, s2, s3, s4, s5, s6, s7, jb_sht95 Is nums Js (va_up Wc 1 (upd (Wc 1) q (nI x))), s9, s10, s11]) dX10_isPlaced_64 rfl (jb_ix_nI (by omega)) (by omega) rfl rfl ?_
        refine jb_aload_n (pc' := 66) dX10_isPlaced_65 rfl rfl ?_
        refine gf_X10_31 (pc' := 69) (v := .ref 99) dX10_isPlaced_66 rfl rfl rfl ?_
        refine jb_iload_n (pc' := 70) dX10_isPlaced_69 rfl rfl ?_
        refine jb_iload (pc' := 72) dX10_isPlaced_70 rfl rfl ?_
        refine jb_iload (pc' := 74) dX10_isPlaced_72 rfl rfl ?_
        refine jb_iadd (pc' := 75) dX10_isPlaced_74 rfl ?_
        refine jb_top (v := .int ((nI x) + (nI (g + th q)))) (w := .int (nI (x + (g + th q)))) (jb_vI (nI_add _ _)) ?_
        refine jb_iastore (pc' := 76) (i9 := q) (f := (Wc 2)) (h' := [s0, s1, s2, s3, s4, s5, s6, s7, jb_sht95 Is nums Js (va_up (va_up Wc 1 (upd (Wc 1) q (nI x))) 2 (upd (Wc 2) q (nI (x + (g + th q))))), s9, s10, s11]) dX10_isPlaced_75 rfl (jb_ix_nI (by omega)) (by omega) rfl rfl ?_
        refine jb_aload_n (pc' := 77) dX10_isPlaced_76 rfl rfl ?_
        refine jb_iload_n (pc' := 78) dX10_isPlaced_77 rfl rfl ?_
        refine jb_iconst (pc' := 79) 1 dX10_isPlaced_78 (by decide) rfl ?_
        refine jb_iadd (pc' := 80) dX10_isPlaced_79 rfl ?_
        refine jb_top (v := .int ((nI q) + 1)) (w := .int (nI (q + 1))) (jb_vI (nI_add _ 1)) ?_
        refine jb_iload_n (pc' := 81) dX10_isPlaced_80 rfl rfl ?_
        refine jb_iload_n (pc' := 82) dX10_isPlaced_81 rfl rfl ?_
        refine jb_callV (pc' := 85) (ci := 10) (q := 95) (As := [.int (nI (q + 1)), .int (nI last), .int (nI gp)]) (a2 := 0) (b2 := 0) wv_X10_52 rfl dX10_isPlaced_82 (hI (jl_up A q x) (va_up (va_up Wc 1 (upd (Wc 1) q (nI x))) 2 (upd (Wc 2) q (nI (x + (g + th q))))) (fun j hj => hT j hj) (fun j hj => jl_upA hA hj (by omega))) rfl rfl ⟨by omega, Nat.le_of_eq (Nat.zero_add _), Nat.le_of_eq (Nat.zero_add _)⟩ (Nat.le_of_ble_eq_true rfl) rfl (fun r h9 hq => ?_)
        rcases hq with ⟨W8, hf8, hp8, ⟨hX, rfl⟩ | ⟨hX, rfl⟩, rfl⟩
        · show jb_J _ RX10 cX10_isPlaced 6 (Option.some .boolean) false (m + 3) 0 0 85 [some (.ref 95), some (.int (nI q)), some (.int (nI last)), some (.int (nI gp)), some (.int (nI (g + th q))), some (.int (nI x))] [.int 1] [s0, s1, s2, s3, s4, s5, s6, s7, jb_sht95 Is nums Js W8, s9, s10, s11] _
          refine jb_if_eq (tgt := 90) (pc' := 88) dX10_isPlaced_85 (by decide) rfl (fun z => absurd z (by decide)) (fun _ => ?_)
          refine jb_iconst (pc' := 89) 1 dX10_isPlaced_88 (by decide) rfl ?_
          refine jb_iret dX10_isPlaced_89 rfl ?_
          exact ⟨W8, fun r h1 h2 => (hf8 r h1 h2).trans (((va_ne h2).trans (va_ne h1)).trans (hf r h1 h2)), fun j hj => ⟨((hp8 j (by omega)).1.trans (jb_une (by omega))).trans (hp j hj).1, ((hp8 j (by omega)).2.trans (jb_une (by omega))).trans (hp j hj).2⟩, Or.inl ⟨(jl_X.step (by omega)).mpr ⟨x, by omega, hfr, hX⟩, rfl⟩, rfl⟩
        · show jb_J _ RX10 cX10_isPlaced 6 (Option.some .boolean) false (m + 3) 0 0 85 [some (.ref 95), some (.int (nI q)), some (.int (nI last)), some (.int (nI gp)), some (.int (nI (g + th q))), some (.int (nI x))] [.int 0] [s0, s1, s2, s3, s4, s5, s6, s7, jb_sht95 Is nums Js W8, s9, s10, s11] _
          refine jb_if_eq (tgt := 90) (pc' := 88) dX10_isPlaced_85 (by decide) rfl (fun _ => ?_) (fun z => absurd (by decide) z)
          refine jb_iinc_ (pc' := 93) (nI (x + 1)) dX10_isPlaced_90 (by decide) rfl (jb_inc x 1) (jb_at5 rfl) rfl ?_
          refine jb_goto (pc' := 30) dX10_isPlaced_93 (by decide) ?_
          refine ih (x + 1) W8 (by omega) ⟨fun r h1 h2 => (hf8 r h1 h2).trans (((va_ne h2).trans (va_ne h1)).trans (hf r h1 h2)), fun j hj => ⟨((hp8 j (by omega)).1.trans (jb_une (by omega))).trans (hp j hj).1, ((hp8 j (by omega)).2.trans (jb_une (by omega))).trans (hp j hj).2⟩⟩ (fun x9 h9 z => ?_)
          by_cases e : x9 = x
          · subst e; exact hX z.2.2
          · exact hno x9 (by omega) z
      · show jb_J _ RX10 cX10_isPlaced 6 (Option.some .boolean) false (m + 3) 0 0 51 [some (.ref 95), some (.int (nI q)), some (.int (nI last)), some (.int (nI gp)), some (.int (nI (g + th q))), some (.int (nI x))] [.int 0] [s0, s1, s2, s3, s4, s5, s6, s7, jb_sht95 Is nums Js Wc, s9, s10, s11] _
        refine jb_if_ne (tgt := 57) (pc' := 54) dX10_isPlaced_51 (by decide) rfl (fun z => absurd (by decide) z) (fun _ => ?_)
        refine jb_goto (pc' := 90) dX10_isPlaced_54 (by decide) ?_
        refine jb_iinc_ (pc' := 93) (nI (x + 1)) dX10_isPlaced_90 (by decide) rfl (jb_inc x 1) (jb_at5 rfl) rfl ?_
        refine jb_goto (pc' := 30) dX10_isPlaced_93 (by decide) ?_
        refine ih (x + 1) Wc (by omega) ⟨hf, hp⟩ (fun x9 h9 z => ?_)
        by_cases e : x9 = x
        · subst e; exact hfr z.2.1
        · exact hno x9 (by omega) z
set_option maxRecDepth 100000 in
set_option maxHeartbeats 4000000 in
theorem c_placed_3 {sc : Nat × (Nat → Int32)} {s0 s1 s2 s3 s4 s5 s6 s7 s9 s10 s11 : List va_E} (Is nums Js : Nat → Int32) (g gp last k : Nat) (th : Nat → Nat) (hgp : 2 * gp = g) (hg : g ≤ 60) (hl : last ≤ 200) (hk5 : k ≤ 5) (hth : ∀ j, j < k → th j ≤ 20) (hJ : Js 0 = nI k) : ∀ (m q : Nat), q + m = k → ∀ (A : Nat → Nat) (Ws : Nat → Nat → Int32), (∀ j, j < k → Ws 0 j = nI (th j)) → (∀ j, j < q → Ws 1 j = nI (A j) ∧ Ws 2 j = nI (A j + g + th j) ∧ A j ≤ 200) → jb_C sc yX10_isPlaced cX10_isPlaced 6 (Option.some .boolean) (m + 2) 0 0 [.ref 95, .int (nI q), .int (nI last), .int (nI gp)] [s0, s1, s2, s3, s4, s5, s6, s7, jb_sht95 Is nums Js Ws, s9, s10, s11] (fun r h9 => ∃ W9, (∀ r, ¬ r = 1 → ¬ r = 2 → W9 r = Ws r) ∧ (∀ j, j < q → W9 1 j = Ws 1 j ∧ W9 2 j = Ws 2 j) ∧ ((jl_X g last th k q A ∧ r = some (.int 1)) ∨ (¬ jl_X g last th k q A ∧ r = some (.int 0))) ∧ h9 = [s0, s1, s2, s3, s4, s5, s6, s7, jb_sht95 Is nums Js W9, s9, s10, s11]) := by
  intro m
  induction m with
  | zero =>
    intro q hq A Ws hT hA
    refine jb_CofJ (ini := false) (by decide +kernel) (fun h => by cases h) (Nat.le_of_ble_eq_true rfl) ?_
    show jb_J _ RX10 cX10_isPlaced 6 (Option.some .boolean) false (0 + 2) 0 0 0 [some (.ref 95), some (.int (nI q)), some (.int (nI last)), some (.int (nI gp)), none, none] [] [s0, s1, s2, s3, s4, s5, s6, s7, jb_sht95 Is nums Js Ws, s9, s10, s11] _
    refine jb_iload_n (pc' := 1) dX10_isPlaced_0 rfl rfl ?_
    refine jb_aload_n (pc' := 2) dX10_isPlaced_1 rfl rfl ?_
    refine gf_X10_22 (pc' := 5) (v := .int (Js 0)) dX10_isPlaced_2 rfl rfl rfl ?_
    refine jb_top (v := .int (Js 0)) (w := .int (nI k)) (jb_vI hJ) ?_
    refine jb_icmp_ge (tgt := 13) (pc' := 8) dX10_isPlaced_5 (by decide) rfl (fun _ => ?_) (fun z => absurd (nI_le (a := k) (b := q) (by omega) (by omega)) z)
    refine jb_iconst (pc' := 14) 1 dX10_isPlaced_13 (by decide) rfl ?_
    refine jb_iret dX10_isPlaced_14 rfl ?_
    exact ⟨Ws, fun _ _ _ => rfl, fun _ _ => ⟨rfl, rfl⟩, Or.inl ⟨jl_X.end (by omega) A, rfl⟩, rfl⟩
  | succ m ih =>
    intro q hq A Ws hT hA
    refine jb_CofJ (ini := false) (by decide +kernel) (fun h => by cases h) (Nat.le_of_ble_eq_true rfl) ?_
    have htq := hth q (by omega)
    show jb_J _ RX10 cX10_isPlaced 6 (Option.some .boolean) false (m + 1 + 2) 0 0 0 [some (.ref 95), some (.int (nI q)), some (.int (nI last)), some (.int (nI gp)), none, none] [] [s0, s1, s2, s3, s4, s5, s6, s7, jb_sht95 Is nums Js Ws, s9, s10, s11] _
    refine jb_iload_n (pc' := 1) dX10_isPlaced_0 rfl rfl ?_
    refine jb_aload_n (pc' := 2) dX10_isPlaced_1 rfl rfl ?_
    refine gf_X10_22 (pc' := 5) (v := .int (Js 0)) dX10_isPlaced_2 rfl rfl rfl ?_
    refine jb_top (v := .int (Js 0)) (w := .int (nI k)) (jb_vI hJ) ?_
    refine jb_icmp_ge (tgt := 13) (pc' := 8) dX10_isPlaced_5 (by decide) rfl (fun z => absurd z (nI_ge (a := q) (b := k) (by omega) (by omega))) (fun _ => ?_)
    refine jb_iload_n (pc' := 9) dX10_isPlaced_8 rfl rfl ?_
    refine jb_iconst (pc' := 10) 5 dX10_isPlaced_9 (by decide) rfl ?_
    refine jb_icmp_lt (tgt := 15) (pc' := 13) dX10_isPlaced_10 (by decide) rfl (fun _ => ?_) (fun z => absurd (nI_lt (a := q) (b := 5) (by omega) (by omega)) z)
    refine jb_iconst (pc' := 16) 2 dX10_isPlaced_15 (by decide) rfl ?_
    refine jb_iload_n (pc' := 17) dX10_isPlaced_16 rfl rfl ?_
    refine jb_imul (pc' := 18) dX10_isPlaced_17 rfl ?_
    refine jb_top (v := .int (2 * (nI gp))) (w := .int (nI (2 * gp))) (jb_vI (pk_mul 2 _)) ?_
    refine jb_aload_n (pc' := 19) dX10_isPlaced_18 rfl rfl ?_
    refine gf_X10_25 (pc' := 22) (v := .ref 97) dX10_isPlaced_19 rfl rfl rfl ?_
    refine jb_iload_n (pc' := 23) dX10_isPlaced_22 rfl rfl ?_
    refine jb_iaload (pc' := 24) (i9 := q) (f := (Ws 0)) dX10_isPlaced_23 rfl (jb_ix_nI (by omega)) (by omega) rfl ?_
    refine jb_top (v := .int ((Ws 0) q)) (w := .int (nI (th q))) (jb_vI (hT q (by omega))) ?_
    refine jb_iadd (pc' := 25) dX10_isPlaced_24 rfl ?_
    refine jb_top (v := .int ((nI (2 * gp)) + (nI (th q)))) (w := .int (nI (g + th q))) (jb_vI (by rw [nI_add, hgp])) ?_
    refine jb_istore_ (pc' := 27) dX10_isPlaced_25 (by decide) (jb_at4 rfl) rfl ?_
    refine jb_iconst (pc' := 28) 0 dX10_isPlaced_27 (by decide) rfl ?_
    refine jb_istore_ (pc' := 30) dX10_isPlaced_28 (by decide) (jb_at5 rfl) rfl ?_
    exact l_placed_3 Is nums Js g gp last k th hgp hg hl hk5 hth hJ m q (by omega) A Ws hT hA (ih (q + 1) (by omega)) (last + 1) 0 Ws (by omega) ⟨fun _ _ _ => rfl, fun _ _ => ⟨rfl, rfl⟩⟩ (fun x9 h9 => absurd h9 (by omega))
set_option maxRecDepth 100000 in
set_option maxHeartbeats 4000000 in
theorem l_ins_3 {sc : Nat × (Nat → Int32)} {s0 s1 s2 s3 s4 s5 s6 s7 s9 s10 s11 : List va_E} (Is nums Js : Nat → Int32) (l : List Nat) (hl5 : l.length < 5) (v : Nat) (hv : v ≤ 20) (hl20 : ∀ t, t ∈ l → t ≤ 20) (i1 : Int32) (Q : Option Value → jb_H → Prop) : ∀ (p : Nat) (Wc : Nat → Nat → Int32), p ≤ l.length → (∀ j, j < p → Wc 0 j = nI (l.getD j 0)) → (∀ j, p < j → j ≤ l.length → Wc 0 j = nI (l.getD (j - 1) 0)) → (∀ j, p ≤ j → j < l.length → l.getD j 0 < v) → (∀ (p : Nat) (Wc : Nat → Nat → Int32), p ≤ l.length → (∀ j, j < p → Wc 0 j = nI (l.getD j 0)) → (∀ j, p < j → j ≤ l.length → Wc 0 j = nI (l.getD (j - 1) 0)) → (∀ j, p ≤ j → j < l.length → l.getD j 0 < v) → (p = 0 ∨ v ≤ l.getD (p - 1) 0) → jb_J sc RX10 cX10_gatherThinks 4 (Option.none : Option Jvm.ClassFile.FieldType) false 1 0 0 84 [some (.ref 95), some (.int i1), some (.int (nI v)), some (.int (nI p))] [] [s0, s1, s2, s3, s4, s5, s6, s7, jb_sht95 Is nums Js Wc, s9, s10, s11] Q) → jb_J sc RX10 cX10_gatherThinks 4 (Option.none : Option Jvm.ClassFile.FieldType) false 1 0 0 48 [some (.ref 95), some (.int i1), some (.int (nI v)), some (.int (nI p))] [] [s0, s1, s2, s3, s4, s5, s6, s7, jb_sht95 Is nums Js Wc, s9, s10, s11] Q := by
  intro p
  induction p with
  | zero =>
    intro Wc h1 h2 h3 h4 hQ
    show jb_J _ RX10 cX10_gatherThinks 4 (Option.none : Option Jvm.ClassFile.FieldType) false 1 0 0 48 [some (.ref 95), some (.int i1), some (.int (nI v)), some (.int (nI 0))] [] [s0, s1, s2, s3, s4, s5, s6, s7, jb_sht95 Is nums Js Wc, s9, s10, s11] _
    refine jb_iload_n (pc' := 49) dX10_gatherThinks_48 rfl rfl ?_
    refine jb_if_le (tgt := 84) (pc' := 52) dX10_gatherThinks_49 (by decide) rfl (fun _ => ?_) (fun z => absurd (by decide) z)
    exact hQ 0 Wc h1 h2 h3 h4 (Or.inl rfl)
  | succ p ih =>
    intro Wc h1 h2 h3 h4 hQ
    have b20 := hl20 (l.getD p 0) (jl_gd.mpr ⟨p, by omega, rfl⟩)
    show jb_J _ RX10 cX10_gatherThinks 4 (Option.none : Option Jvm.ClassFile.FieldType) false 1 0 0 48 [some (.ref 95), some (.int i1), some (.int (nI v)), some (.int (nI (p + 1)))] [] [s0, s1, s2, s3, s4, s5, s6, s7, jb_sht95 Is nums Js Wc, s9, s10, s11] _
    refine jb_iload_n (pc' := 49) dX10_gatherThinks_48 rfl rfl ?_
    refine jb_if_le (tgt := 84) (pc' := 52) dX10_gatherThinks_49 (by decide) rfl (fun z => absurd z (nI_nle (n := p + 1) (by omega) (by omega))) (fun _ => ?_)
    refine jb_aload_n (pc' := 53) dX10_gatherThinks_52 rfl rfl ?_
    refine gf_X10_25 (pc' := 56) (v := .ref 97) dX10_gatherThinks_53 rfl rfl rfl ?_
    refine jb_iload_n (pc' := 57) dX10_gatherThinks_56 rfl rfl ?_
    refine jb_iconst (pc' := 58) 1 dX10_gatherThinks_57 (by decide) rfl ?_
    refine jb_isub (pc' := 59) dX10_gatherThinks_58 rfl ?_
    refine jb_top (v := .int ((nI (p + 1)) - 1)) (w := .int (nI p)) (jb_vI (nI_pred _)) ?_
    refine jb_iaload (pc' := 60) (i9 := p) (f := (Wc 0)) dX10_gatherThinks_59 rfl (jb_ix_nI (by omega)) (by omega) rfl ?_
    refine jb_top (v := .int ((Wc 0) p)) (w := .int (nI (l.getD p 0))) (jb_vI (h2 p (by omega))) ?_
    refine jb_iload_n (pc' := 61) dX10_gatherThinks_60 rfl rfl ?_
    refine jb_icmp_ge (tgt := 84) (pc' := 64) dX10_gatherThinks_61 (by decide) rfl (fun c2 => ?_) (fun c2 => ?_)
    · have c2 : v ≤ (l.getD p 0) := (nI_leI (a := v) (b := (l.getD p 0)) (by omega) (by omega)).mp c2
      exact hQ (p + 1) Wc h1 h2 h3 h4 (Or.inr (by rw [Nat.add_sub_cancel]; omega))
    · have c2 : ¬ v ≤ (l.getD p 0) := fun z9 => c2 ((nI_leI (a := v) (b := (l.getD p 0)) (by omega) (by omega)).mpr z9)
      refine jb_aload_n (pc' := 65) dX10_gatherThinks_64 rfl rfl ?_
      refine gf_X10_25 (pc' := 68) (v := .ref 97) dX10_gatherThinks_65 rfl rfl rfl ?_
      refine jb_iload_n (pc' := 69) dX10_gatherThinks_68 rfl rfl ?_
      refine jb_aload_n (pc' := 70) dX10_gatherThinks_69 rfl rfl ?_
      refine gf_X10_25 (pc' := 73) (v := .ref 97) dX10_gatherThinks_70 rfl rfl rfl ?_
      refine jb_iload_n (pc' := 74) dX10_gatherThinks_73 rfl rfl ?_
      refine jb_iconst (pc' := 75) 1 dX10_gatherThinks_74 (by decide) rfl ?_
      refine jb_isub (pc' := 76) dX10_gatherThinks_75 rfl ?_
      refine jb_top (v := .int ((nI (p + 1)) - 1)) (w := .int (nI p)) (jb_vI (nI_pred _)) ?_
      refine jb_iaload (pc' := 77) (i9 := p) (f := (Wc 0)) dX10_gatherThinks_76 rfl (jb_ix_nI (by omega)) (by omega) rfl ?_
      refine jb_top (v := .int ((Wc 0) p)) (w := .int (nI (l.getD p 0))) (jb_vI (h2 p (by omega))) ?_
      refine jb_iastore (pc' := 78) (i9 := (p + 1)) (f := (Wc 0)) (h' := [s0, s1, s2, s3, s4, s5, s6, s7, jb_sht95 Is nums Js (va_up Wc 0 (upd (Wc 0) (p + 1) (nI (l.getD p 0)))), s9, s10, s11]) dX10_gatherThinks_77 rfl (jb_ix_nI (by omega)) (by omega) rfl rfl ?_
      refine jb_iinc_ (pc' := 81) (nI p) dX10_gatherThinks_78 (by decide) rfl (pk_m1 p) (jb_at3 rfl) rfl ?_
      refine jb_goto (pc' := 48) dX10_gatherThinks_81 (by decide) ?_
      refine ih (va_up Wc 0 (upd (Wc 0) (p + 1) (nI (l.getD p 0)))) (by omega) (fun j hj => ?_) (fun j h5 h6 => ?_) (fun j h5 h6 => ?_) hQ
      · show upd (Wc 0) (p + 1) (nI (l.getD p 0)) j = _
        rw [jb_une (by omega)]; exact h2 j (by omega)
      · show upd (Wc 0) (p + 1) (nI (l.getD p 0)) j = _
        by_cases e : j = p + 1
        · rw [e]; exact jb_uee
        · rw [jb_une e]; exact h3 j (by omega) h6
      · by_cases e : j = p
        · rw [e]; omega
        · exact h4 j (by omega) h6
set_option maxRecDepth 100000 in
set_option maxHeartbeats 4000000 in
theorem l_gatherT_3 {sc : Nat × (Nat → Int32)} {s0 s1 s2 s3 s4 s5 s6 s7 s9 s10 s11 : List va_E} (Is nums : Nat → Int32) (zs : Nat) (h1s : Is 1 = nI zs) (hzs : zs ≤ 40) : ∀ (n i : Nat) (acc l : List Nat) (Js : Nat → Int32) (Ws : Nat → Nat → Int32) (x2 x3 : Option Value), i + n = zs → l.Perm acc ∧ Js 0 = nI l.length ∧ l.length ≤ 5 ∧ (∀ j, j < l.length → Ws 0 j = nI (l.getD j 0)) ∧ (∀ t, t ∈ l → t ≤ 20) ∧ (∀ t, t ∈ l → t ≤ l.getD 0 0) → jb_J sc RX10 cX10_gatherThinks 4 (Option.none : Option Jvm.ClassFile.FieldType) false 1 0 0 7 [some (.ref 95), some (.int (nI i)), x2, x3] [] [s0, s1, s2, s3, s4, s5, s6, s7, jb_sht95 Is nums Js Ws, s9, s10, s11] (fun r h9 => r = none ∧ ∃ (J9 : Nat → Int32) (W9 : Nat → Nat → Int32) (l9 : List Nat), (l9.Perm (jl_ga nums n i acc) ∧ J9 0 = nI l9.length ∧ l9.length ≤ 5 ∧ (∀ j, j < l9.length → W9 0 j = nI (l9.getD j 0)) ∧ (∀ t, t ∈ l9 → t ≤ 20) ∧ (∀ t, t ∈ l9 → t ≤ l9.getD 0 0)) ∧ h9 = [s0, s1, s2, s3, s4, s5, s6, s7, jb_sht95 Is nums J9 W9, s9, s10, s11]) := by
  intro n
  induction n with
  | zero =>
    intro i acc l Js Ws x2 x3 hi ⟨p1, hJ, p2, p3, p4, p5⟩
    show jb_J _ RX10 cX10_gatherThinks 4 (Option.none : Option Jvm.ClassFile.FieldType) false 1 0 0 7 [some (.ref 95), some (.int (nI i)), x2, x3] [] [s0, s1, s2, s3, s4, s5, s6, s7, jb_sht95 Is nums Js Ws, s9, s10, s11] _
    refine jb_iload_n (pc' := 8) dX10_gatherThinks_7 rfl rfl ?_
    refine jb_aload_n (pc' := 9) dX10_gatherThinks_8 rfl rfl ?_
    refine gf_X10_15 (pc' := 12) (v := .int (Is 1)) dX10_gatherThinks_9 rfl rfl rfl ?_
    refine jb_top (v := .int (Is 1)) (w := .int (nI zs)) (jb_vI h1s) ?_
    refine jb_icmp_ge (tgt := 107) (pc' := 15) dX10_gatherThinks_12 (by decide) rfl (fun _ => ?_) (fun z => absurd (nI_le (a := zs) (b := i) (by omega) (by omega)) z)
    refine jb_vret dX10_gatherThinks_107 ?_
    exact ⟨rfl, Js, Ws, l, ⟨p1, hJ, p2, p3, p4, p5⟩, rfl⟩
  | succ n ih =>
    intro i acc l Js Ws x2 x3 hi ⟨p1, hJ, p2, p3, p4, p5⟩
    have plen := p1.length_eq
    by_cases h5 : l.length < 5
    · by_cases hv : 0 ≤ nums i ∧ nums i ≤ 20
      · obtain ⟨v, hv1, hv2, ev⟩ := jl_20.mpr hv
        have e9 : jl_ga nums (n + 1) i acc = jl_ga nums n (i + 1) (acc ++ [v]) := by
          rw [show jl_ga nums (n + 1) i acc = (if acc.length < 5 then (if 0 ≤ nums i ∧ nums i ≤ 20 then jl_ga nums n (i + 1) (acc ++ [(nums i).toNatClampNeg]) else jl_ga nums n (i + 1) acc) else acc) from rfl, if_pos (by omega), if_pos hv, ev, nI_clamp (by omega)]
        rw [e9]
        show jb_J _ RX10 cX10_gatherThinks 4 (Option.none : Option Jvm.ClassFile.FieldType) false 1 0 0 7 [some (.ref 95), some (.int (nI i)), x2, x3] [] [s0, s1, s2, s3, s4, s5, s6, s7, jb_sht95 Is nums Js Ws, s9, s10, s11] _
        refine jb_iload_n (pc' := 8) dX10_gatherThinks_7 rfl rfl ?_
        refine jb_aload_n (pc' := 9) dX10_gatherThinks_8 rfl rfl ?_
        refine gf_X10_15 (pc' := 12) (v := .int (Is 1)) dX10_gatherThinks_9 rfl rfl rfl ?_
        refine jb_top (v := .int (Is 1)) (w := .int (nI zs)) (jb_vI h1s) ?_
        refine jb_icmp_ge (tgt := 107) (pc' := 15) dX10_gatherThinks_12 (by decide) rfl (fun z => absurd z (nI_ge (a := i) (b := zs) (by omega) (by omega))) (fun _ => ?_)
        refine jb_aload_n (pc' := 16) dX10_gatherThinks_15 rfl rfl ?_
        refine gf_X10_22 (pc' := 19) (v := .int (Js 0)) dX10_gatherThinks_16 rfl rfl rfl ?_
        refine jb_top (v := .int (Js 0)) (w := .int (nI l.length)) (jb_vI hJ) ?_
        refine jb_iconst (pc' := 20) 5 dX10_gatherThinks_19 (by decide) rfl ?_
        refine jb_icmp_ge (tgt := 107) (pc' := 23) dX10_gatherThinks_20 (by decide) rfl (fun z => absurd z (nI_ge (a := l.length) (b := 5) (by omega) (by omega))) (fun _ => ?_)
        refine jb_aload_n (pc' := 24) dX10_gatherThinks_23 rfl rfl ?_
        refine gf_X10_18 (pc' := 27) (v := .ref 96) dX10_gatherThinks_24 rfl rfl rfl ?_
        refine jb_iload_n (pc' := 28) dX10_gatherThinks_27 rfl rfl ?_
        refine jb_iaload (pc' := 29) (i9 := i) (f := nums) dX10_gatherThinks_28 rfl (jb_ix_nI (by omega)) (by omega) rfl ?_
        refine jb_top (v := .int (nums i)) (w := .int (nI v)) (jb_vI ev) ?_
        refine jb_istore_n_ (pc' := 30) dX10_gatherThinks_29 (by decide) (jb_at2 rfl) rfl ?_
        refine jb_iload_n (pc' := 31) dX10_gatherThinks_30 rfl rfl ?_
        refine jb_iconst (pc' := 32) 0 dX10_gatherThinks_31 (by decide) rfl ?_
        refine jb_bipush (pc' := 34) 20 dX10_gatherThinks_32 (by decide) rfl ?_
        refine jb_callSN (pc' := 37) (As := [.int (nI v), .int 0, .int 20]) (a2 := 0) (b2 := 0) wv_X10_56 dX10_gatherThinks_34 (c_isOutLG v 0 20 (by omega) (by omega) (by omega)) rfl ⟨by decide, Nat.le_of_eq (Nat.zero_add _), Nat.le_of_eq (Nat.zero_add _)⟩ (Nat.le_of_ble_eq_true rfl) rfl (fun r h9 hq => ?_)
        obtain ⟨rfl, rfl⟩ := hq
        show jb_J _ RX10 cX10_gatherThinks 4 (Option.none : Option Jvm.ClassFile.FieldType) false 1 0 0 37 [some (.ref 95), some (.int (nI i)), some (.int (nI v)), x3] [.int 0] [s0, s1, s2, s3, s4, s5, s6, s7, jb_sht95 Is nums Js Ws, s9, s10, s11] _
        refine jb_if_eq (tgt := 43) (pc' := 40) dX10_gatherThinks_37 (by decide) rfl (fun _ => ?_) (fun z => absurd (by decide) z)
        refine jb_aload_n (pc' := 44) dX10_gatherThinks_43 rfl rfl ?_
        refine gf_X10_22 (pc' := 47) (v := .int (Js 0)) dX10_gatherThinks_44 rfl rfl rfl ?_
        refine jb_top (v := .int (Js 0)) (w := .int (nI l.length)) (jb_vI hJ) ?_
        refine jb_istore_n_ (pc' := 48) dX10_gatherThinks_47 (by decide) (jb_at3 rfl) rfl ?_
        refine l_ins_3 Is nums Js l h5 v (by omega) p4 (nI i) _ l.length Ws (Nat.le_refl _) p3 (fun j h6 h7 => absurd h7 (by omega)) (fun j h6 h7 => absurd h7 (by omega)) (fun p Wc i1 i2 i3 i4 i5 => ?_)
        obtain ⟨g1, g2, g3, g4, g6⟩ := jl_ins (v := v) i1
        show jb_J _ RX10 cX10_gatherThinks 4 (Option.none : Option Jvm.ClassFile.FieldType) false 1 0 0 84 [some (.ref 95), some (.int (nI i)), some (.int (nI v)), some (.int (nI p))] [] [s0, s1, s2, s3, s4, s5, s6, s7, jb_sht95 Is nums Js Wc, s9, s10, s11] _
        refine jb_aload_n (pc' := 85) dX10_gatherThinks_84 rfl rfl ?_
        refine gf_X10_25 (pc' := 88) (v := .ref 97) dX10_gatherThinks_85 rfl rfl rfl ?_
        refine jb_iload_n (pc' := 89) dX10_gatherThinks_88 rfl rfl ?_
        refine jb_iload_n (pc' := 90) dX10_gatherThinks_89 rfl rfl ?_
        refine jb_iastore (pc' := 91) (i9 := p) (f := (Wc 0)) (h' := [s0, s1, s2, s3, s4, s5, s6, s7, jb_sht95 Is nums Js (va_up Wc 0 (upd (Wc 0) p (nI v))), s9, s10, s11]) dX10_gatherThinks_90 rfl (jb_ix_nI (by omega)) (by omega) rfl rfl ?_
        refine jb_aload_n (pc' := 92) dX10_gatherThinks_91 rfl rfl ?_
        refine jb_dup (pc' := 93) dX10_gatherThinks_92 rfl rfl ?_
        refine gf_X10_22 (pc' := 96) (v := .int (Js 0)) dX10_gatherThinks_93 rfl rfl rfl ?_
        refine jb_top (v := .int (Js 0)) (w := .int (nI l.length)) (jb_vI hJ) ?_
        refine jb_iconst (pc' := 97) 1 dX10_gatherThinks_96 (by decide) rfl ?_
        refine jb_iadd (pc' := 98) dX10_gatherThinks_97 rfl ?_
        refine jb_top (v := .int ((nI l.length) + 1)) (w := .int (nI (l.length + 1))) (jb_vI (nI_add _ 1)) ?_
        refine pf_X10_22 (pc' := 101) (h' := [s0, s1, s2, s3, s4, s5, s6, s7, jb_sht95 Is nums (upd Js 0 (nI (l.length + 1))) (va_up Wc 0 (upd (Wc 0) p (nI v))), s9, s10, s11]) dX10_gatherThinks_98 (fun _ => ⟨rfl, rfl⟩) rfl (Nat.le_of_ble_eq_true rfl) rfl rfl ?_
        refine jb_iinc_ (pc' := 104) (nI (i + 1)) dX10_gatherThinks_101 (by decide) rfl (jb_inc i 1) (jb_at1 rfl) rfl ?_
        refine jb_goto (pc' := 7) dX10_gatherThinks_104 (by decide) ?_
        refine ih (i + 1) (acc ++ [v]) (l.take p ++ v :: l.drop p) (upd Js 0 (nI (l.length + 1))) (va_up Wc 0 (upd (Wc 0) p (nI v))) _ _ (by omega) ⟨?_, ?_, by omega, fun j hj => ?_, fun t ht => ?_, jl_ins_mx i1 p5 i4 i5⟩
        · exact (g6.trans (p1.cons v)).trans (List.perm_append_comm (l₁ := [v]) (l₂ := acc))
        · rw [g1]; rfl
        · show upd (Wc 0) p (nI v) j = _
          rcases Nat.lt_trichotomy j p with q | q | q
          · rw [jb_une (by omega), g2 j q]; exact i2 j q
          · rw [q, g3]; exact jb_uee
          · rw [jb_une (by omega), g4 j q]; exact i3 j q (by omega)
        · rcases List.mem_cons.mp (g6.mem_iff.mp ht) with e | e
          · omega
          · exact p4 t e
      · have e9 : jl_ga nums (n + 1) i acc = jl_ga nums n (i + 1) acc := by
          rw [show jl_ga nums (n + 1) i acc = (if acc.length < 5 then (if 0 ≤ nums i ∧ nums i ≤ 20 then jl_ga nums n (i + 1) (acc ++ [(nums i).toNatClampNeg]) else jl_ga nums n (i + 1) acc) else acc) from rfl, if_pos (by omega), if_neg hv]
        rw [e9]
        show jb_J _ RX10 cX10_gatherThinks 4 (Option.none : Option Jvm.ClassFile.FieldType) false 1 0 0 7 [some (.ref 95), some (.int (nI i)), x2, x3] [] [s0, s1, s2, s3, s4, s5, s6, s7, jb_sht95 Is nums Js Ws, s9, s10, s11] _
        refine jb_iload_n (pc' := 8) dX10_gatherThinks_7 rfl rfl ?_
        refine jb_aload_n (pc' := 9) dX10_gatherThinks_8 rfl rfl ?_
        refine gf_X10_15 (pc' := 12) (v := .int (Is 1)) dX10_gatherThinks_9 rfl rfl rfl ?_
        refine jb_top (v := .int (Is 1)) (w := .int (nI zs)) (jb_vI h1s) ?_
        refine jb_icmp_ge (tgt := 107) (pc' := 15) dX10_gatherThinks_12 (by decide) rfl (fun z => absurd z (nI_ge (a := i) (b := zs) (by omega) (by omega))) (fun _ => ?_)
        refine jb_aload_n (pc' := 16) dX10_gatherThinks_15 rfl rfl ?_
        refine gf_X10_22 (pc' := 19) (v := .int (Js 0)) dX10_gatherThinks_16 rfl rfl rfl ?_
        refine jb_top (v := .int (Js 0)) (w := .int (nI l.length)) (jb_vI hJ) ?_
        refine jb_iconst (pc' := 20) 5 dX10_gatherThinks_19 (by decide) rfl ?_
        refine jb_icmp_ge (tgt := 107) (pc' := 23) dX10_gatherThinks_20 (by decide) rfl (fun z => absurd z (nI_ge (a := l.length) (b := 5) (by omega) (by omega))) (fun _ => ?_)
        refine jb_aload_n (pc' := 24) dX10_gatherThinks_23 rfl rfl ?_
        refine gf_X10_18 (pc' := 27) (v := .ref 96) dX10_gatherThinks_24 rfl rfl rfl ?_
        refine jb_iload_n (pc' := 28) dX10_gatherThinks_27 rfl rfl ?_
        refine jb_iaload (pc' := 29) (i9 := i) (f := nums) dX10_gatherThinks_28 rfl (jb_ix_nI (by omega)) (by omega) rfl ?_
        refine jb_istore_n_ (pc' := 30) dX10_gatherThinks_29 (by decide) (jb_at2 rfl) rfl ?_
        refine jb_iload_n (pc' := 31) dX10_gatherThinks_30 rfl rfl ?_
        refine jb_iconst (pc' := 32) 0 dX10_gatherThinks_31 (by decide) rfl ?_
        refine jb_bipush (pc' := 34) 20 dX10_gatherThinks_32 (by decide) rfl ?_
        refine jb_callSN (pc' := 37) (As := [.int (nums i), .int 0, .int 20]) (a2 := 0) (b2 := 0) wv_X10_56 dX10_gatherThinks_34 (c_isOutL (nums i) 0 20 (by omega) (by omega)) rfl ⟨by decide, Nat.le_of_eq (Nat.zero_add _), Nat.le_of_eq (Nat.zero_add _)⟩ (Nat.le_of_ble_eq_true rfl) rfl (fun r h9 hq => ?_)
        rcases hq with ⟨rfl, ⟨o3, rfl⟩ | ⟨o3, rfl⟩⟩
        · show jb_J _ RX10 cX10_gatherThinks 4 (Option.none : Option Jvm.ClassFile.FieldType) false 1 0 0 37 [some (.ref 95), some (.int (nI i)), some (.int (nums i)), x3] [.int 1] [s0, s1, s2, s3, s4, s5, s6, s7, jb_sht95 Is nums Js Ws, s9, s10, s11] _
          refine jb_if_eq (tgt := 43) (pc' := 40) dX10_gatherThinks_37 (by decide) rfl (fun z => absurd z (by decide)) (fun _ => ?_)
          refine jb_goto (pc' := 101) dX10_gatherThinks_40 (by decide) ?_
          refine jb_iinc_ (pc' := 104) (nI (i + 1)) dX10_gatherThinks_101 (by decide) rfl (jb_inc i 1) (jb_at1 rfl) rfl ?_
          refine jb_goto (pc' := 7) dX10_gatherThinks_104 (by decide) ?_
          exact ih (i + 1) acc l Js Ws _ _ (by omega) ⟨p1, hJ, p2, p3, p4, p5⟩
        · exact absurd (jl_20.mp (by assumption)) hv
    · have e9 : jl_ga nums (n + 1) i acc = acc := if_neg (by omega)
      rw [e9]
      show jb_J _ RX10 cX10_gatherThinks 4 (Option.none : Option Jvm.ClassFile.FieldType) false 1 0 0 7 [some (.ref 95), some (.int (nI i)), x2, x3] [] [s0, s1, s2, s3, s4, s5, s6, s7, jb_sht95 Is nums Js Ws, s9, s10, s11] _
      refine jb_iload_n (pc' := 8) dX10_gatherThinks_7 rfl rfl ?_
      refine jb_aload_n (pc' := 9) dX10_gatherThinks_8 rfl rfl ?_
      refine gf_X10_15 (pc' := 12) (v := .int (Is 1)) dX10_gatherThinks_9 rfl rfl rfl ?_
      refine jb_top (v := .int (Is 1)) (w := .int (nI zs)) (jb_vI h1s) ?_
      refine jb_icmp_ge (tgt := 107) (pc' := 15) dX10_gatherThinks_12 (by decide) rfl (fun z => absurd z (nI_ge (a := i) (b := zs) (by omega) (by omega))) (fun _ => ?_)
      refine jb_aload_n (pc' := 16) dX10_gatherThinks_15 rfl rfl ?_
      refine gf_X10_22 (pc' := 19) (v := .int (Js 0)) dX10_gatherThinks_16 rfl rfl rfl ?_
      refine jb_top (v := .int (Js 0)) (w := .int (nI l.length)) (jb_vI hJ) ?_
      refine jb_iconst (pc' := 20) 5 dX10_gatherThinks_19 (by decide) rfl ?_
      refine jb_icmp_ge (tgt := 107) (pc' := 23) dX10_gatherThinks_20 (by decide) rfl (fun _ => ?_) (fun z => absurd (nI_le (a := 5) (b := l.length) (by omega) (by omega)) z)
      refine jb_vret dX10_gatherThinks_107 ?_
      exact ⟨rfl, Js, Ws, l, ⟨p1, hJ, p2, p3, p4, p5⟩, rfl⟩
set_option maxRecDepth 100000 in
set_option maxHeartbeats 4000000 in
theorem c_gatherT_3 {sc : Nat × (Nat → Int32)} {s0 s1 s2 s3 s4 s5 s6 s7 s9 s10 s11 : List va_E} (Is nums Js : Nat → Int32) (Ws : Nat → Nat → Int32) (zs : Nat) (h1s : Is 1 = nI zs) (hzs : zs ≤ 40) : jb_C sc yX10_gatherThinks cX10_gatherThinks 4 (Option.none : Option Jvm.ClassFile.FieldType) 1 0 0 [.ref 95] [s0, s1, s2, s3, s4, s5, s6, s7, jb_sht95 Is nums Js Ws, s9, s10, s11] (fun r h9 => r = none ∧ ∃ (J9 : Nat → Int32) (W9 : Nat → Nat → Int32) (l9 : List Nat), (l9.Perm (jl_ga nums zs 0 []) ∧ J9 0 = nI l9.length ∧ l9.length ≤ 5 ∧ (∀ j, j < l9.length → W9 0 j = nI (l9.getD j 0)) ∧ (∀ t, t ∈ l9 → t ≤ 20) ∧ (∀ t, t ∈ l9 → t ≤ l9.getD 0 0)) ∧ h9 = [s0, s1, s2, s3, s4, s5, s6, s7, jb_sht95 Is nums J9 W9, s9, s10, s11]) := by
  refine jb_CofJ (ini := false) (by decide +kernel) (fun h => by cases h) (Nat.le_of_ble_eq_true rfl) ?_
  show jb_J sc RX10 cX10_gatherThinks 4 (Option.none : Option Jvm.ClassFile.FieldType) false 1 0 0 0 [some (.ref 95), none, none, none] [] [s0, s1, s2, s3, s4, s5, s6, s7, jb_sht95 Is nums Js Ws, s9, s10, s11] _
  refine jb_aload_n (pc' := 1) dX10_gatherThinks_0 rfl rfl ?_
  refine jb_iconst (pc' := 2) 0 dX10_gatherThinks_1 (by decide) rfl ?_
  refine pf_X10_22 (pc' := 5) (h' := [s0, s1, s2, s3, s4, s5, s6, s7, jb_sht95 Is nums (upd Js 0 0) Ws, s9, s10, s11]) dX10_gatherThinks_2 (fun _ => ⟨rfl, rfl⟩) rfl (Nat.le_of_ble_eq_true rfl) rfl rfl ?_
  refine jb_iconst (pc' := 6) 0 dX10_gatherThinks_5 (by decide) rfl ?_
  refine jb_istore_n_ (pc' := 7) dX10_gatherThinks_6 (by decide) (jb_at1 rfl) rfl ?_
  exact l_gatherT_3 Is nums zs h1s hzs zs 0 [] [] (upd Js 0 0) Ws _ _ (by omega) ⟨List.Perm.refl _, rfl, by decide, fun j hj => absurd hj (Nat.not_lt_zero _), fun t ht => (by cases ht), fun t ht => (by cases ht)⟩
set_option maxRecDepth 100000 in
set_option maxHeartbeats 4000000 in
theorem l_last_3 {sc : Nat × (Nat → Int32)} {s0 s1 s2 s3 s4 s5 s6 s7 s9 s10 s11 : List va_E} (Is nums Js : Nat → Int32) (g gp b0 : Nat) (l : List Nat) (hgp : 2 * gp = g) (hg : g ≤ 60) (hl5 : l.length ≤ 5) (hl20 : ∀ t, t ∈ l → t ≤ 20) (hb0 : b0 ≤ 80) (hbt : ∀ t, t ∈ l → g + t ≤ b0) (hJ : Js 0 = nI l.length) : ∀ (n sp : Nat) (Ws : Nat → Nat → Int32), sp + n = 16 → (∀ j, j < l.length → Ws 0 j = nI (l.getD j 0)) → (∀ u, b0 ≤ u → u < b0 + sp → ¬ jl_P g u l) → jb_J sc RX10 cX10_lastAnswer 4 (Option.some .int) false 8 0 0 26 [some (.ref 95), some (.int (nI gp)), some (.int (nI (b0 + sp))), some (.int (nI sp))] [] [s0, s1, s2, s3, s4, s5, s6, s7, jb_sht95 Is nums Js Ws, s9, s10, s11] (fun r h9 => ∃ v W9, jl_L g b0 l v ∧ r = some (.int (nI v)) ∧ h9 = [s0, s1, s2, s3, s4, s5, s6, s7, jb_sht95 Is nums Js W9, s9, s10, s11]) := by
  intro n
  induction n with
  | zero =>
    intro sp Ws hsp hT hno
    obtain rfl : sp = 16 := by omega
    show jb_J _ RX10 cX10_lastAnswer 4 (Option.some .int) false 8 0 0 26 [some (.ref 95), some (.int (nI gp)), some (.int (nI (b0 + 16))), some (.int (nI 16))] [] [s0, s1, s2, s3, s4, s5, s6, s7, jb_sht95 Is nums Js Ws, s9, s10, s11] _
    refine jb_iload_n (pc' := 27) dX10_lastAnswer_26 rfl rfl ?_
    refine jb_bipush (pc' := 29) 16 dX10_lastAnswer_27 (by decide) rfl ?_
    refine jb_icmp_ge (tgt := 51) (pc' := 32) dX10_lastAnswer_29 (by decide) rfl (fun _ => ?_) (fun z => absurd (by decide) z)
    refine jb_iload_n (pc' := 52) dX10_lastAnswer_51 rfl rfl ?_
    refine jb_iret dX10_lastAnswer_52 rfl ?_
    exact ⟨b0 + 16, Ws, ⟨by omega, by omega, jl_free l hl5 hbt, hno⟩, rfl, rfl⟩
  | succ n ih =>
    intro sp Ws hsp hT hno
    show jb_J _ RX10 cX10_lastAnswer 4 (Option.some .int) false 8 0 0 26 [some (.ref 95), some (.int (nI gp)), some (.int (nI (b0 + sp))), some (.int (nI sp))] [] [s0, s1, s2, s3, s4, s5, s6, s7, jb_sht95 Is nums Js Ws, s9, s10, s11] _
    refine jb_iload_n (pc' := 27) dX10_lastAnswer_26 rfl rfl ?_
    refine jb_bipush (pc' := 29) 16 dX10_lastAnswer_27 (by decide) rfl ?_
    refine jb_icmp_ge (tgt := 51) (pc' := 32) dX10_lastAnswer_29 (by decide) rfl (fun z => absurd z (nI_ge (a := sp) (b := 16) (by omega) (by omega))) (fun _ => ?_)
    refine jb_aload_n (pc' := 33) dX10_lastAnswer_32 rfl rfl ?_
    refine jb_iconst (pc' := 34) 0 dX10_lastAnswer_33 (by decide) rfl ?_
    refine jb_iload_n (pc' := 35) dX10_lastAnswer_34 rfl rfl ?_
    refine jb_iload_n (pc' := 36) dX10_lastAnswer_35 rfl rfl ?_
    refine jb_callV (pc' := 39) (ci := 10) (q := 95) (As := [.int 0, .int (nI (b0 + sp)), .int (nI gp)]) (a2 := 0) (b2 := 0) wv_X10_52 rfl dX10_lastAnswer_36 (c_placed_3 Is nums Js g gp (b0 + sp) l.length (fun j => l.getD j 0) hgp hg (by omega) hl5 (fun j hj => hl20 _ (jl_gd.mpr ⟨j, hj, rfl⟩)) hJ l.length 0 (by omega) (fun _ => 0) Ws hT (fun j hj => absurd hj (Nat.not_lt_zero _))) rfl rfl ⟨by omega, Nat.le_of_eq (Nat.zero_add _), Nat.le_of_eq (Nat.zero_add _)⟩ (Nat.le_of_ble_eq_true rfl) rfl (fun r h9 hq => ?_)
    rcases hq with ⟨W8, hf8, -, ⟨hX, rfl⟩ | ⟨hX, rfl⟩, rfl⟩
    · show jb_J _ RX10 cX10_lastAnswer 4 (Option.some .int) false 8 0 0 39 [some (.ref 95), some (.int (nI gp)), some (.int (nI (b0 + sp))), some (.int (nI sp))] [.int 1] [s0, s1, s2, s3, s4, s5, s6, s7, jb_sht95 Is nums Js W8, s9, s10, s11] _
      refine jb_if_ne (tgt := 51) (pc' := 42) dX10_lastAnswer_39 (by decide) rfl (fun _ => ?_) (fun z => absurd z (by decide))
      refine jb_iload_n (pc' := 52) dX10_lastAnswer_51 rfl rfl ?_
      refine jb_iret dX10_lastAnswer_52 rfl ?_
      exact ⟨b0 + sp, W8, ⟨by omega, by omega, jl_XP.mp hX, hno⟩, rfl, rfl⟩
    · show jb_J _ RX10 cX10_lastAnswer 4 (Option.some .int) false 8 0 0 39 [some (.ref 95), some (.int (nI gp)), some (.int (nI (b0 + sp))), some (.int (nI sp))] [.int 0] [s0, s1, s2, s3, s4, s5, s6, s7, jb_sht95 Is nums Js W8, s9, s10, s11] _
      refine jb_if_ne (tgt := 51) (pc' := 42) dX10_lastAnswer_39 (by decide) rfl (fun z => absurd (by decide) z) (fun _ => ?_)
      refine jb_iinc_ (pc' := 45) (nI (b0 + (sp + 1))) dX10_lastAnswer_42 (by decide) rfl (jb_inc (b0 + sp) 1) (jb_at2 rfl) rfl ?_
      refine jb_iinc_ (pc' := 48) (nI (sp + 1)) dX10_lastAnswer_45 (by decide) rfl (jb_inc sp 1) (jb_at3 rfl) rfl ?_
      refine jb_goto (pc' := 26) dX10_lastAnswer_48 (by decide) ?_
      exact ih (sp + 1) W8 (by omega) (fun j hj => by rw [hf8 0 (by decide) (by decide)]; exact hT j hj) (fun u h1 h2 => by
        by_cases e : u = b0 + sp
        · rw [e]; exact fun z => hX (jl_XP.mpr z)
        · exact hno u h1 (by omega))
set_option maxRecDepth 100000 in
set_option maxHeartbeats 4000000 in
theorem c_lastA_3 {sc : Nat × (Nat → Int32)} {s0 s1 s2 s3 s4 s5 s6 s7 s9 s10 s11 : List va_E} (Is nums Js : Nat → Int32) (Ws : Nat → Nat → Int32) (zs : Nat) (h1s : Is 1 = nI zs) (hzs : zs ≤ 40) (g gp : Nat) (hgp : 2 * gp = g) (hg : g ≤ 60) : jb_C sc yX10_lastAnswer cX10_lastAnswer 4 (Option.some .int) 8 0 0 [.ref 95, .int (nI gp)] [s0, s1, s2, s3, s4, s5, s6, s7, jb_sht95 Is nums Js Ws, s9, s10, s11] (fun r h9 => ∃ J9 W9, (((jl_ga nums zs 0 []) = [] ∧ r = some (.int (-1))) ∨ (∃ M9 v, jl_mx M9 (jl_ga nums zs 0 []) ∧ jl_L g (g + M9) (jl_ga nums zs 0 []) v ∧ r = some (.int (nI v)))) ∧ h9 = [s0, s1, s2, s3, s4, s5, s6, s7, jb_sht95 Is nums J9 W9, s9, s10, s11]) := by
  refine jb_CofJ (ini := false) (by decide +kernel) (fun h => by cases h) (Nat.le_of_ble_eq_true rfl) ?_
  show jb_J sc RX10 cX10_lastAnswer 4 (Option.some .int) false 8 0 0 0 [some (.ref 95), some (.int (nI gp)), none, none] [] [s0, s1, s2, s3, s4, s5, s6, s7, jb_sht95 Is nums Js Ws, s9, s10, s11] _
  refine jb_aload_n (pc' := 1) dX10_lastAnswer_0 rfl rfl ?_
  refine jb_callV (pc' := 4) (ci := 10) (q := 95) (As := []) (a2 := 0) (b2 := 0) wv_X10_49 rfl dX10_lastAnswer_1 (c_gatherT_3 Is nums Js Ws zs h1s hzs) rfl rfl ⟨by decide, Nat.le_of_eq (Nat.zero_add _), Nat.le_of_eq (Nat.zero_add _)⟩ (Nat.le_of_ble_eq_true rfl) rfl (fun r h9 hq => ?_)
  obtain ⟨rfl, J8, W8, l, ⟨p1, hJ, p2, p3, p4, p5⟩, rfl⟩ := hq
  show jb_J _ RX10 cX10_lastAnswer 4 (Option.some .int) false 8 0 0 4 [some (.ref 95), some (.int (nI gp)), none, none] [] [s0, s1, s2, s3, s4, s5, s6, s7, jb_sht95 Is nums J8 W8, s9, s10, s11] _
  refine jb_aload_n (pc' := 5) dX10_lastAnswer_4 rfl rfl ?_
  refine gf_X10_22 (pc' := 8) (v := .int (J8 0)) dX10_lastAnswer_5 rfl rfl rfl ?_
  refine jb_top (v := .int (J8 0)) (w := .int (nI l.length)) (jb_vI hJ) ?_
  refine jb_if_ne (tgt := 13) (pc' := 11) dX10_lastAnswer_8 (by decide) rfl (fun hz0 => ?_) (fun hz0 => ?_)
  · have hz0 : ¬ l.length = 0 := fun z9 => hz0 ((nI_eq (a := l.length) (b := 0) (by omega) (by omega)).mpr z9)
    refine jb_iconst (pc' := 14) 2 dX10_lastAnswer_13 (by decide) rfl ?_
    refine jb_iload_n (pc' := 15) dX10_lastAnswer_14 rfl rfl ?_
    refine jb_imul (pc' := 16) dX10_lastAnswer_15 rfl ?_
    refine jb_top (v := .int (2 * (nI gp))) (w := .int (nI (2 * gp))) (jb_vI (pk_mul 2 _)) ?_
    refine jb_aload_n (pc' := 17) dX10_lastAnswer_16 rfl rfl ?_
    refine gf_X10_25 (pc' := 20) (v := .ref 97) dX10_lastAnswer_17 rfl rfl rfl ?_
    refine jb_iconst (pc' := 21) 0 dX10_lastAnswer_20 (by decide) rfl ?_
    refine jb_iaload (pc' := 22) (i9 := 0) (f := (W8 0)) dX10_lastAnswer_21 rfl jb_x0 (by decide) rfl ?_
    refine jb_top (v := .int ((W8 0) 0)) (w := .int (nI (l.getD 0 0))) (jb_vI (p3 0 (by omega))) ?_
    refine jb_iadd (pc' := 23) dX10_lastAnswer_22 rfl ?_
    refine jb_top (v := .int ((nI (2 * gp)) + (nI (l.getD 0 0)))) (w := .int (nI (g + l.getD 0 0))) (jb_vI (by rw [nI_add, hgp])) ?_
    refine jb_istore_n_ (pc' := 24) dX10_lastAnswer_23 (by decide) (jb_at2 rfl) rfl ?_
    refine jb_iconst (pc' := 25) 0 dX10_lastAnswer_24 (by decide) rfl ?_
    refine jb_istore_n_ (pc' := 26) dX10_lastAnswer_25 (by decide) (jb_at3 rfl) rfl ?_
    have hm0 : l.getD 0 0 ∈ l := jl_gd.mpr ⟨0, by omega, rfl⟩
    have b20 := p4 _ hm0
    refine jb_J.mono (l_last_3 Is nums J8 g gp (g + l.getD 0 0) l hgp hg p2 p4 (by omega) (fun t ht => by have := p5 t ht; omega) hJ 16 0 W8 (by omega) p3 (fun u h1 h2 => absurd h2 (by omega))) (Nat.le_refl _) (Nat.le_refl _) (Nat.le_refl _) (fun r h9 hq => ?_)
    obtain ⟨v, W9, hL, rfl, rfl⟩ := hq
    refine ⟨J8, W9, Or.inr ⟨l.getD 0 0, v, ⟨p1.mem_iff.mp hm0, fun t ht => p5 t (p1.mem_iff.mpr ht)⟩, ⟨hL.1, hL.2.1, hL.2.2.1.perm p1, fun u h1 h2 z => hL.2.2.2 u h1 h2 (z.perm p1.symm)⟩, rfl⟩, rfl⟩
  · have hz0 : l.length = 0 := (nI_eq (a := l.length) (b := 0) (by omega) (by omega)).mp hz0
    refine jb_iconst (pc' := 12) (-1) dX10_lastAnswer_11 (by decide) rfl ?_
    refine jb_iret dX10_lastAnswer_12 rfl ?_
    have l0 : l = [] := List.eq_nil_of_length_eq_zero (by omega)
    subst l0
    exact ⟨J8, W8, Or.inl ⟨p1.nil_eq.symm, rfl⟩, rfl⟩
set_option maxRecDepth 100000 in
set_option maxHeartbeats 4000000 in
theorem kx_lesson_3 {sc : Nat × (Nat → Int32)} {s2 s3 s5 s6 s7 s9 s10 s11 : List va_E} {V : Nat → Nat → Nat} (imm : Int32) (Im rowm stkm tpm : Nat → Int32) (Tm : Nat → Value) (I : Nat → Int32) (W : Nat → Nat → Int32) (T : Nat → Value) (Is nums Js : Nat → Int32) (Ws : Nat → Nat → Int32) (hr : jr_ V I W) (hk : jv_ok V) {bs zs : Nat} (h0s : Is 0 = nI bs) (h1s : Is 1 = nI zs) (hbs : bs ≤ 32) (hzs : zs ≤ 40) (hm : ¬ bs = 0) : jb_C sc yX11_lesson cX11_lesson 2 (Option.some .int) 9 0 0 [.ref 0, .int 3] [jb_main imm Im Tm rowm stkm tpm, jb_sch13 I W T, s2, s3, jb_shs, s5, s6, s7, jb_sht95 Is nums Js Ws, s9, s10, s11] (fun r h9 => ∃ J9 W9, (((jl_ga nums zs 0 []) = [] ∧ r = some (.int (-1))) ∨ (∃ M9 v, jl_mx M9 (jl_ga nums zs 0 []) ∧ jl_L (2 * (V 0 4 + V 0 5)) ((2 * (V 0 4 + V 0 5)) + M9) (jl_ga nums zs 0 []) v ∧ r = some (.int (nI v)))) ∧ h9 = [jb_main imm Im Tm rowm stkm tpm, jb_sch13 I W T, s2, s3, jb_shs, s5, s6, s7, jb_sht95 Is nums J9 W9, s9, s10, s11]) := by
  refine jb_CofJ (ini := false) (by decide +kernel) (fun h => by cases h) (Nat.le_of_ble_eq_true rfl) ?_
  show jb_J sc RX11 cX11_lesson 2 (Option.some .int) false 9 0 0 0 [some (.ref 0), some (.int 3)] [] [jb_main imm Im Tm rowm stkm tpm, jb_sch13 I W T, s2, s3, jb_shs, s5, s6, s7, jb_sht95 Is nums Js Ws, s9, s10, s11] _
  have hr0 := hr
  have hk0 := hk
  obtain ⟨r0, r2, r3, r4, a0, a1, a2, rv, rs, rd⟩ := hr
  obtain ⟨k0, k1, k2, k3, k4, k5, k6, k7, kv, ks, kd⟩ := hk
  refine jb_aload_n (pc' := 1) dX11_lesson_0 rfl rfl ?_
  refine jb_iload_n (pc' := 2) dX11_lesson_1 rfl rfl ?_
  refine jb_callV (pc' := 5) (ci := 11) (q := 0) (As := [.int 3]) (a2 := 0) (b2 := 0) wv_X11_165 rfl dX11_lesson_2 (c_isNoSheetG _ 3 (by omega)) rfl rfl ⟨by decide, Nat.le_of_eq (Nat.zero_add _), Nat.le_of_eq (Nat.zero_add _)⟩ (Nat.le_of_ble_eq_true rfl) rfl (fun r h9 hq => ?_)
  obtain ⟨rfl, rfl⟩ := hq
  show jb_J _ RX11 cX11_lesson 2 (Option.some .int) false 9 0 0 5 [some (.ref 0), some (.int 3)] [.int 0] [jb_main imm Im Tm rowm stkm tpm, jb_sch13 I W T, s2, s3, jb_shs, s5, s6, s7, jb_sht95 Is nums Js Ws, s9, s10, s11] _
  refine jb_if_eq (tgt := 14) (pc' := 8) dX11_lesson_5 (by decide) rfl (fun _ => ?_) (fun z => absurd (by decide) z)
  refine jb_aload_n (pc' := 15) dX11_lesson_14 rfl rfl ?_
  refine gf_X11_54 (pc' := 18) (v := .ref 73) dX11_lesson_15 rfl rfl rfl ?_
  refine jb_iload_n (pc' := 19) dX11_lesson_18 rfl rfl ?_
  refine jb_aaload (pc' := 20) (i9 := 3) (r := 95) (Or.inr (Or.inr rfl)) dX11_lesson_19 rfl jb_x3 (by decide) rfl rfl ?_
  refine jb_callV (pc' := 23) (ci := 10) (q := 95) (As := []) (a2 := 0) (b2 := 0) wv_X11_168 rfl dX11_lesson_20 (c_isMissing_3 Is nums Js Ws h0s h1s hbs hzs) rfl rfl ⟨by decide, Nat.le_of_eq (Nat.zero_add _), Nat.le_of_eq (Nat.zero_add _)⟩ (Nat.le_of_ble_eq_true rfl) rfl (fun r h9 hq => ?_)
  rcases hq with ⟨rfl, ⟨hms, rfl⟩ | ⟨hms, rfl⟩⟩
  · exact absurd hms hm
  · show jb_J _ RX11 cX11_lesson 2 (Option.some .int) false 9 0 0 23 [some (.ref 0), some (.int 3)] [.int 0] [jb_main imm Im Tm rowm stkm tpm, jb_sch13 I W T, s2, s3, jb_shs, s5, s6, s7, jb_sht95 Is nums Js Ws, s9, s10, s11] _
    refine jb_if_eq (tgt := 32) (pc' := 26) dX11_lesson_23 (by decide) rfl (fun _ => ?_) (fun z => absurd (by decide) z)
    refine jb_aload_n (pc' := 33) dX11_lesson_32 rfl rfl ?_
    refine gf_X11_54 (pc' := 36) (v := .ref 73) dX11_lesson_33 rfl rfl rfl ?_
    refine jb_iload_n (pc' := 37) dX11_lesson_36 rfl rfl ?_
    refine jb_aaload (pc' := 38) (i9 := 3) (r := 95) (Or.inr (Or.inr rfl)) dX11_lesson_37 rfl jb_x3 (by decide) rfl rfl ?_
    refine jb_aload_n (pc' := 39) dX11_lesson_38 rfl rfl ?_
    refine gf_X11_42 (pc' := 42) (v := .ref 13) dX11_lesson_39 rfl rfl rfl ?_
    refine jb_callV (pc' := 45) (ci := 9) (q := 13) (As := []) (a2 := 0) (b2 := 0) wv_X11_172 rfl dX11_lesson_42 (c_gap_13 _ _ _) rfl rfl ⟨by decide, Nat.le_of_eq (Nat.zero_add _), Nat.le_of_eq (Nat.zero_add _)⟩ (Nat.le_of_ble_eq_true rfl) rfl (fun r h9 hq => ?_)
    obtain ⟨rfl, rfl⟩ := hq
    show jb_J _ RX11 cX11_lesson 2 (Option.some .int) false 9 0 0 45 [some (.ref 0), some (.int 3)] [.int (W 0 0 + W 0 1), .ref 95] [jb_main imm Im Tm rowm stkm tpm, jb_sch13 I W T, s2, s3, jb_shs, s5, s6, s7, jb_sht95 Is nums Js Ws, s9, s10, s11] _
    refine jb_top (v := .int (W 0 0 + W 0 1)) (w := .int (nI (V 0 4 + V 0 5))) (jb_vI (by rw [a0, a1, nI_add])) ?_
    refine jb_callV (pc' := 48) (ci := 10) (q := 95) (As := [.int (nI (V 0 4 + V 0 5))]) (a2 := 0) (b2 := 0) wv_X11_175 rfl dX11_lesson_45 (c_lastA_3 Is nums Js Ws zs h1s hzs (2 * (V 0 4 + V 0 5)) (V 0 4 + V 0 5) rfl (by omega)) rfl rfl ⟨by decide, Nat.le_of_eq (Nat.zero_add _), Nat.le_of_eq (Nat.zero_add _)⟩ (Nat.le_of_ble_eq_true rfl) rfl (fun r h9 hq => ?_)
    rcases hq with ⟨J9, W9, ⟨hga, rfl⟩ | ⟨M9, v, hmx, hL, rfl⟩, rfl⟩
    · show jb_J _ RX11 cX11_lesson 2 (Option.some .int) false 9 0 0 48 [some (.ref 0), some (.int 3)] [.int (-1)] [jb_main imm Im Tm rowm stkm tpm, jb_sch13 I W T, s2, s3, jb_shs, s5, s6, s7, jb_sht95 Is nums J9 W9, s9, s10, s11] _
      refine jb_iret dX11_lesson_48 rfl ?_
      exact ⟨J9, W9, Or.inl ⟨hga, rfl⟩, rfl⟩
    · show jb_J _ RX11 cX11_lesson 2 (Option.some .int) false 9 0 0 48 [some (.ref 0), some (.int 3)] [.int (nI v)] [jb_main imm Im Tm rowm stkm tpm, jb_sch13 I W T, s2, s3, jb_shs, s5, s6, s7, jb_sht95 Is nums J9 W9, s9, s10, s11] _
      refine jb_iret dX11_lesson_48 rfl ?_
      exact ⟨J9, W9, Or.inr ⟨M9, v, hmx, hL, rfl⟩, rfl⟩
