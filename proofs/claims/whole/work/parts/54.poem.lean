/-! ===== a poem's lines, and the gaps that it fits ===== -/
noncomputable def jy_ga (f : Nat → Int32) (zs : Nat) : Nat → Nat → List (Nat × Nat) → List (Nat × Nat)
  | 0, _, acc => acc
  | n + 1, i, acc => if i + 1 < zs ∧ acc.length < 12 then (if (0 ≤ f i ∧ f i ≤ 1) ∧ (0 ≤ f (i + 1) ∧ f (i + 1) ≤ 999) then jy_ga f zs n (i + 2) (acc ++ [((f i).toNatClampNeg, (f (i + 1)).toNatClampNeg)]) else jy_ga f zs n (i + 2) acc) else acc
theorem jy_ga_eq {f h : Nat → Int32} {zs : Nat} (e : ∀ k, k < zs → f k = h k) : ∀ (n i : Nat) (acc : List (Nat × Nat)), jy_ga f zs n i acc = jy_ga h zs n i acc
  | 0, i, acc => rfl
  | n + 1, i, acc => by
    unfold jy_ga
    by_cases q : i + 1 < zs ∧ acc.length < 12
    · rw [if_pos q, if_pos q, e i (by omega), e (i + 1) q.1, jy_ga_eq e n, jy_ga_eq e n]
    · rw [if_neg q, if_neg q]
def jy_k (g : Nat) (x y : Nat × Nat) : Prop := (x.1 = y.1 ∧ x.2 = y.2) ∨ (¬ x.1 = y.1 ∧ (x.2 = y.2 + g ∨ y.2 = x.2 + g))
def jy_on (c g : Nat) (x : Nat × Nat) : Nat := if x.1 = c then x.2 else x.2 + g
theorem jy_on_le {c g : Nat} {x : Nat × Nat} (h : x.2 < 1000) (hg : g ≤ 40) : jy_on c g x ≤ 1040 := by unfold jy_on; split <;> omega
theorem jy_cl {g : Nat} {x y : Nat × Nat} (hx : x.1 < 2) (hy : y.1 < 2) : (jy_on 0 g x = jy_on 0 g y ∨ jy_on 1 g x = jy_on 1 g y) ↔ jy_k g x y := by
  unfold jy_on jy_k
  split <;> split <;> split <;> split <;> omega
def jy_f (ls : List (Nat × Nat)) (g : Nat) : Prop := ∀ a b, b < a → a < ls.length → ¬ jy_k g (ls.getD a (0, 0)) (ls.getD b (0, 0))
def jy_in (ls : List (Nat × Nat)) : Prop := ls.length ≤ 12 ∧ ∀ j, j < ls.length → (ls.getD j (0, 0)).1 < 2 ∧ (ls.getD j (0, 0)).2 < 1000
theorem jy_in.app {ls : List (Nat × Nat)} (h : jy_in ls) (hl : ls.length < 12) {x : Nat × Nat} (h1 : x.1 < 2) (h2 : x.2 < 1000) : jy_in (ls ++ [x]) := by
  refine ⟨by rw [List.length_append]; show ls.length + 1 ≤ 12; omega, fun j hj => ?_⟩
  rw [List.length_append] at hj
  have hj2 : j < ls.length + 1 := hj
  by_cases e : j = ls.length
  · rw [e, show (ls ++ [x]).getD ls.length (0, 0) = x by simp [List.getD]]
    exact ⟨h1, h2⟩
  · rw [show (ls ++ [x]).getD j (0, 0) = ls.getD j (0, 0) by simp only [List.getD, List.getElem?_append_left (show j < ls.length by omega)]]
    exact h.2 j (by omega)
theorem jy_gda {ls : List (Nat × Nat)} {x : Nat × Nat} {j : Nat} (h : j < ls.length) : (ls ++ [x]).getD j (0, 0) = ls.getD j (0, 0) := by simp only [List.getD, List.getElem?_append_left h]
theorem jy_gde {ls : List (Nat × Nat)} {x : Nat × Nat} : (ls ++ [x]).getD ls.length (0, 0) = x := by simp [List.getD]
theorem jy_rng {x : Int32} {n : Nat} (hn : n < 2 ^ 30) : jn_b x 0 (n + 1) ↔ (0 ≤ x ∧ x ≤ nI n) := by
  have := jn_outL (x := x) (lo := 0) (hi := n) (by decide) hn
  constructor
  · intro h
    exact ⟨Int32.not_lt.mp (fun z => this.mp (Or.inl z) h), Int32.not_lt.mp (fun z => this.mp (Or.inr z) h)⟩
  · intro h
    exact Classical.byContradiction (fun z => (this.mpr z).elim (Int32.not_lt.mpr h.1) (Int32.not_lt.mpr h.2))
/-- the least of 0 to 40, -1 if there is none -/
def jy_L (P : Nat → Prop) (v : Int32) : Prop := (v = -1 ∧ ∀ g, g ≤ 40 → ¬ P g) ∨ ∃ g, g ≤ 40 ∧ v = nI g ∧ P g ∧ ∀ h, h < g → ¬ P h
theorem jy_L.uniq {P : Nat → Prop} {v w : Int32} (h : jy_L P v) (h' : jy_L P w) : v = w := by
  rcases h with ⟨rfl, h⟩ | ⟨g, h1, rfl, h2, h3⟩ <;> rcases h' with ⟨rfl, h'⟩ | ⟨g', h1', rfl, h2', h3'⟩
  · rfl
  · exact absurd h2' (h g' h1')
  · exact absurd h2 (h' g h1)
  · rcases Nat.lt_trichotomy g g' with q | q | q
    · exact absurd h2 (h3' g q)
    · rw [q]
    · exact absurd h2' (h3 g' q)
noncomputable def jy_n (P : Nat → Prop) : Nat → Nat
  | 0 => 0
  | n + 1 => jy_n P n + @ite Nat (P n) (Classical.propDecidable _) 1 0
theorem jy_n1 {P : Nat → Prop} {n : Nat} (h : P n) : jy_n P (n + 1) = jy_n P n + 1 := by
  show jy_n P n + @ite Nat (P n) (Classical.propDecidable _) 1 0 = _
  rw [if_pos h]
theorem jy_n0 {P : Nat → Prop} {n : Nat} (h : ¬ P n) : jy_n P (n + 1) = jy_n P n := by
  show jy_n P n + @ite Nat (P n) (Classical.propDecidable _) 1 0 = _
  rw [if_neg h]
  rfl
theorem jy_n_le {P : Nat → Prop} : ∀ n, jy_n P n ≤ n
  | 0 => Nat.le_refl _
  | n + 1 => by
    have := jy_n_le (P := P) n
    by_cases h : P n
    · rw [jy_n1 h]; omega
    · rw [jy_n0 h]; omega
set_option maxRecDepth 100000 in
set_option maxHeartbeats 4000000 in
theorem l_gatherL_0 {sc : Nat × (Nat → Int32)} {s0 s1 s2 s3 s4 s6 s7 s8 s9 s10 s11 : List va_E} (Is nums : Nat → Int32) (zs : Nat) (h1s : Is 1 = nI zs) (hzs : zs ≤ 40) : ∀ (n i : Nat) (acc : List (Nat × Nat)) (Js : Nat → Int32) (Ws : Nat → Nat → Int32), zs ≤ i + 2 * n → i ≤ zs + 2 → Js 1 = nI acc.length ∧ jy_in acc ∧ (∀ j, j < acc.length → Ws 3 j = nI (acc.getD j (0, 0)).1 ∧ Ws 4 j = nI (acc.getD j (0, 0)).2) → jb_J sc RX10 cX10_gatherLines 2 (Option.none : Option Jvm.ClassFile.FieldType) false 1 0 0 7 [some (.ref 74), some (.int (nI i))] [] [s0, s1, s2, s3, s4, jb_sht74 Is nums Js Ws, s6, s7, s8, s9, s10, s11] (fun r h9 => r = none ∧ ∃ (J9 : Nat → Int32) (W9 : Nat → Nat → Int32), (J9 1 = nI (jy_ga nums zs n i acc).length ∧ jy_in (jy_ga nums zs n i acc) ∧ (∀ j, j < (jy_ga nums zs n i acc).length → W9 3 j = nI ((jy_ga nums zs n i acc).getD j (0, 0)).1 ∧ W9 4 j = nI ((jy_ga nums zs n i acc).getD j (0, 0)).2)) ∧ h9 = [s0, s1, s2, s3, s4, jb_sht74 Is nums J9 W9, s6, s7, s8, s9, s10, s11]) := by
  intro n
  induction n with
  | zero =>
    intro i acc Js Ws hi hi2 ⟨p1, p2, p3⟩
    show jb_J _ RX10 cX10_gatherLines 2 (Option.none : Option Jvm.ClassFile.FieldType) false 1 0 0 7 [some (.ref 74), some (.int (nI i))] [] [s0, s1, s2, s3, s4, jb_sht74 Is nums Js Ws, s6, s7, s8, s9, s10, s11] _
    refine jb_iload_n (pc' := 8) dX10_gatherLines_7 rfl rfl ?_
    refine jb_iconst (pc' := 9) 1 dX10_gatherLines_8 (by decide) rfl ?_
    refine jb_iadd (pc' := 10) dX10_gatherLines_9 rfl ?_
    refine jb_top (v := .int ((nI i) + 1)) (w := .int (nI (i + 1))) (jb_vI (nI_add _ 1)) ?_
    refine jb_aload_n (pc' := 11) dX10_gatherLines_10 rfl rfl ?_
    refine gf_X10_15 (pc' := 14) (v := .int (Is 1)) dX10_gatherLines_11 rfl rfl rfl ?_
    refine jb_top (v := .int (Is 1)) (w := .int (nI zs)) (jb_vI h1s) ?_
    refine jb_icmp_ge (tgt := 109) (pc' := 17) dX10_gatherLines_14 (by decide) rfl (fun _ => ?_) (fun z => absurd (nI_le (a := zs) (b := i + 1) (by omega) (by omega)) z)
    refine jb_vret dX10_gatherLines_109 ?_
    exact ⟨rfl, Js, Ws, ⟨p1, p2, p3⟩, rfl⟩
  | succ n ih =>
    intro i acc Js Ws hi hi2 ⟨p1, p2, p3⟩
    have plen := p2.1
    have eG : jy_ga nums zs (n + 1) i acc = (if i + 1 < zs ∧ acc.length < 12 then (if (0 ≤ nums i ∧ nums i ≤ 1) ∧ (0 ≤ nums (i + 1) ∧ nums (i + 1) ≤ 999) then jy_ga nums zs n (i + 2) (acc ++ [((nums i).toNatClampNeg, (nums (i + 1)).toNatClampNeg)]) else jy_ga nums zs n (i + 2) acc) else acc) := rfl
    by_cases hi1 : i + 1 < zs
    · by_cases hl : acc.length < 12
      · by_cases hv : (0 ≤ nums i ∧ nums i ≤ 1) ∧ (0 ≤ nums (i + 1) ∧ nums (i + 1) ≤ 999)
        · obtain ⟨u, hu1, hu2, eu⟩ := (jy_rng (n := 1) (by decide)).mpr hv.1
          obtain ⟨v, hv1, hv2, ev⟩ := (jy_rng (n := 999) (by decide)).mpr hv.2
          rw [if_pos ⟨hi1, hl⟩, if_pos hv, eu, ev, nI_clamp (by omega), nI_clamp (by omega)] at eG
          rw [eG]
          show jb_J _ RX10 cX10_gatherLines 2 (Option.none : Option Jvm.ClassFile.FieldType) false 1 0 0 7 [some (.ref 74), some (.int (nI i))] [] [s0, s1, s2, s3, s4, jb_sht74 Is nums Js Ws, s6, s7, s8, s9, s10, s11] _
          refine jb_iload_n (pc' := 8) dX10_gatherLines_7 rfl rfl ?_
          refine jb_iconst (pc' := 9) 1 dX10_gatherLines_8 (by decide) rfl ?_
          refine jb_iadd (pc' := 10) dX10_gatherLines_9 rfl ?_
          refine jb_top (v := .int ((nI i) + 1)) (w := .int (nI (i + 1))) (jb_vI (nI_add _ 1)) ?_
          refine jb_aload_n (pc' := 11) dX10_gatherLines_10 rfl rfl ?_
          refine gf_X10_15 (pc' := 14) (v := .int (Is 1)) dX10_gatherLines_11 rfl rfl rfl ?_
          refine jb_top (v := .int (Is 1)) (w := .int (nI zs)) (jb_vI h1s) ?_
          refine jb_icmp_ge (tgt := 109) (pc' := 17) dX10_gatherLines_14 (by decide) rfl (fun z => absurd z (nI_ge (a := i + 1) (b := zs) (by omega) (by omega))) (fun _ => ?_)
          refine jb_aload_n (pc' := 18) dX10_gatherLines_17 rfl rfl ?_
          refine gf_X10_34 (pc' := 21) (v := .int (Js 1)) dX10_gatherLines_18 rfl rfl rfl ?_
          refine jb_top (v := .int (Js 1)) (w := .int (nI acc.length)) (jb_vI p1) ?_
          refine jb_bipush (pc' := 23) 12 dX10_gatherLines_21 (by decide) rfl ?_
          refine jb_icmp_ge (tgt := 109) (pc' := 26) dX10_gatherLines_23 (by decide) rfl (fun z => absurd z (nI_ge (a := acc.length) (b := 12) (by omega) (by omega))) (fun _ => ?_)
          refine jb_aload_n (pc' := 27) dX10_gatherLines_26 rfl rfl ?_
          refine gf_X10_18 (pc' := 30) (v := .ref 75) dX10_gatherLines_27 rfl rfl rfl ?_
          refine jb_iload_n (pc' := 31) dX10_gatherLines_30 rfl rfl ?_
          refine jb_iaload (pc' := 32) (i9 := i) (f := nums) dX10_gatherLines_31 rfl (jb_ix_nI (by omega)) (by omega) rfl ?_
          refine jb_top (v := .int (nums i)) (w := .int (nI u)) (jb_vI eu) ?_
          refine jb_iconst (pc' := 33) 0 dX10_gatherLines_32 (by decide) rfl ?_
          refine jb_iconst (pc' := 34) 1 dX10_gatherLines_33 (by decide) rfl ?_
          refine jb_callSN (pc' := 37) (As := [.int (nI u), .int 0, .int 1]) (a2 := 0) (b2 := 0) wv_X10_56 dX10_gatherLines_34 (c_isOutLG u 0 1 (by omega) (by omega) (by omega)) rfl ⟨by decide, Nat.le_of_eq (Nat.zero_add _), Nat.le_of_eq (Nat.zero_add _)⟩ (Nat.le_of_ble_eq_true rfl) rfl (fun r h9 hq => ?_)
          obtain ⟨rfl, rfl⟩ := hq
          show jb_J _ RX10 cX10_gatherLines 2 (Option.none : Option Jvm.ClassFile.FieldType) false 1 0 0 37 [some (.ref 74), some (.int (nI i))] [.int 0] [s0, s1, s2, s3, s4, jb_sht74 Is nums Js Ws, s6, s7, s8, s9, s10, s11] _
          refine jb_if_ne (tgt := 103) (pc' := 40) dX10_gatherLines_37 (by decide) rfl (fun z => absurd (by decide) z) (fun _ => ?_)
          refine jb_aload_n (pc' := 41) dX10_gatherLines_40 rfl rfl ?_
          refine gf_X10_18 (pc' := 44) (v := .ref 75) dX10_gatherLines_41 rfl rfl rfl ?_
          refine jb_iload_n (pc' := 45) dX10_gatherLines_44 rfl rfl ?_
          refine jb_iconst (pc' := 46) 1 dX10_gatherLines_45 (by decide) rfl ?_
          refine jb_iadd (pc' := 47) dX10_gatherLines_46 rfl ?_
          refine jb_top (v := .int ((nI i) + 1)) (w := .int (nI (i + 1))) (jb_vI (nI_add _ 1)) ?_
          refine jb_iaload (pc' := 48) (i9 := (i + 1)) (f := nums) dX10_gatherLines_47 rfl (jb_ix_nI (by omega)) (by omega) rfl ?_
          refine jb_top (v := .int (nums (i + 1))) (w := .int (nI v)) (jb_vI ev) ?_
          refine jb_iconst (pc' := 49) 0 dX10_gatherLines_48 (by decide) rfl ?_
          refine jb_sipush (pc' := 52) 999 dX10_gatherLines_49 (by decide) rfl ?_
          refine jb_callSN (pc' := 55) (As := [.int (nI v), .int 0, .int 999]) (a2 := 0) (b2 := 0) wv_X10_56 dX10_gatherLines_52 (c_isOutLG v 0 999 (by omega) (by omega) (by omega)) rfl ⟨by decide, Nat.le_of_eq (Nat.zero_add _), Nat.le_of_eq (Nat.zero_add _)⟩ (Nat.le_of_ble_eq_true rfl) rfl (fun r h9 hq => ?_)
          obtain ⟨rfl, rfl⟩ := hq
          show jb_J _ RX10 cX10_gatherLines 2 (Option.none : Option Jvm.ClassFile.FieldType) false 1 0 0 55 [some (.ref 74), some (.int (nI i))] [.int 0] [s0, s1, s2, s3, s4, jb_sht74 Is nums Js Ws, s6, s7, s8, s9, s10, s11] _
          refine jb_if_eq (tgt := 61) (pc' := 58) dX10_gatherLines_55 (by decide) rfl (fun _ => ?_) (fun z => absurd (by decide) z)
          refine jb_aload_n (pc' := 62) dX10_gatherLines_61 rfl rfl ?_
          refine gf_X10_37 (pc' := 65) (v := .ref 79) dX10_gatherLines_62 rfl rfl rfl ?_
          refine jb_aload_n (pc' := 66) dX10_gatherLines_65 rfl rfl ?_
          refine gf_X10_34 (pc' := 69) (v := .int (Js 1)) dX10_gatherLines_66 rfl rfl rfl ?_
          refine jb_top (v := .int (Js 1)) (w := .int (nI acc.length)) (jb_vI p1) ?_
          refine jb_aload_n (pc' := 70) dX10_gatherLines_69 rfl rfl ?_
          refine gf_X10_18 (pc' := 73) (v := .ref 75) dX10_gatherLines_70 rfl rfl rfl ?_
          refine jb_iload_n (pc' := 74) dX10_gatherLines_73 rfl rfl ?_
          refine jb_iaload (pc' := 75) (i9 := i) (f := nums) dX10_gatherLines_74 rfl (jb_ix_nI (by omega)) (by omega) rfl ?_
          refine jb_top (v := .int (nums i)) (w := .int (nI u)) (jb_vI eu) ?_
          refine jb_iastore (pc' := 76) (i9 := acc.length) (f := (Ws 3)) (h' := [s0, s1, s2, s3, s4, jb_sht74 Is nums Js (va_up Ws 3 (upd (Ws 3) acc.length (nI u))), s6, s7, s8, s9, s10, s11]) dX10_gatherLines_75 rfl (jb_ix_nI (by omega)) (by omega) rfl rfl ?_
          refine jb_aload_n (pc' := 77) dX10_gatherLines_76 rfl rfl ?_
          refine gf_X10_40 (pc' := 80) (v := .ref 80) dX10_gatherLines_77 rfl rfl rfl ?_
          refine jb_aload_n (pc' := 81) dX10_gatherLines_80 rfl rfl ?_
          refine gf_X10_34 (pc' := 84) (v := .int (Js 1)) dX10_gatherLines_81 rfl rfl rfl ?_
          refine jb_top (v := .int (Js 1)) (w := .int (nI acc.length)) (jb_vI p1) ?_
          refine jb_aload_n (pc' := 85) dX10_gatherLines_84 rfl rfl ?_
          refine gf_X10_18 (pc' := 88) (v := .ref 75) dX10_gatherLines_85 rfl rfl rfl ?_
          refine jb_iload_n (pc' := 89) dX10_gatherLines_88 rfl rfl ?_
          refine jb_iconst (pc' := 90) 1 dX10_gatherLines_89 (by decide) rfl ?_
          refine jb_iadd (pc' := 91) dX10_gatherLines_90 rfl ?_
          refine jb_top (v := .int ((nI i) + 1)) (w := .int (nI (i + 1))) (jb_vI (nI_add _ 1)) ?_
          refine jb_iaload (pc' := 92) (i9 := (i + 1)) (f := nums) dX10_gatherLines_91 rfl (jb_ix_nI (by omega)) (by omega) rfl ?_
          refine jb_top (v := .int (nums (i + 1))) (w := .int (nI v)) (jb_vI ev) ?_
          refine jb_iastore (pc' := 93) (i9 := acc.length) (f := (Ws 4)) (h' := [s0, s1, s2, s3, s4, jb_sht74 Is nums Js (va_up (va_up Ws 3 (upd (Ws 3) acc.length (nI u))) 4 (upd (Ws 4) acc.length (nI v))), s6, s7, s8, s9, s10, s11]) dX10_gatherLines_92 rfl (jb_ix_nI (by omega)) (by omega) rfl rfl ?_
          refine jb_aload_n (pc' := 94) dX10_gatherLines_93 rfl rfl ?_
          refine jb_dup (pc' := 95) dX10_gatherLines_94 rfl rfl ?_
          refine gf_X10_34 (pc' := 98) (v := .int (Js 1)) dX10_gatherLines_95 rfl rfl rfl ?_
          refine jb_top (v := .int (Js 1)) (w := .int (nI acc.length)) (jb_vI p1) ?_
          refine jb_iconst (pc' := 99) 1 dX10_gatherLines_98 (by decide) rfl ?_
          refine jb_iadd (pc' := 100) dX10_gatherLines_99 rfl ?_
          refine jb_top (v := .int ((nI acc.length) + 1)) (w := .int (nI (acc.length + 1))) (jb_vI (nI_add _ 1)) ?_
          refine pf_X10_34 (pc' := 103) (h' := [s0, s1, s2, s3, s4, jb_sht74 Is nums (upd Js 1 (nI (acc.length + 1))) (va_up (va_up Ws 3 (upd (Ws 3) acc.length (nI u))) 4 (upd (Ws 4) acc.length (nI v))), s6, s7, s8, s9, s10, s11]) dX10_gatherLines_100 (fun _ => ⟨rfl, rfl⟩) rfl (Nat.le_of_ble_eq_true rfl) rfl rfl ?_
          refine jb_iinc_ (pc' := 106) (nI (i + 2)) dX10_gatherLines_103 (by decide) rfl (jb_inc i 2) (jb_at1 rfl) rfl ?_
          refine jb_goto (pc' := 7) dX10_gatherLines_106 (by decide) ?_
          refine ih (i + 2) (acc ++ [(u, v)]) (upd Js 1 (nI (acc.length + 1))) (va_up (va_up Ws 3 (upd (Ws 3) acc.length (nI u))) 4 (upd (Ws 4) acc.length (nI v))) (by omega) (by omega) ⟨?_, p2.app hl hu2 hv2, fun j hj => ?_⟩
          · rw [List.length_append]; rfl
          · rw [List.length_append] at hj
            have hj2 : j < acc.length + 1 := hj
            show upd (Ws 3) acc.length (nI u) j = _ ∧ upd (Ws 4) acc.length (nI v) j = _
            by_cases e : j = acc.length
            · rw [e, jy_gde]; exact ⟨jb_uee, jb_uee⟩
            · rw [jb_une e, jb_une e, jy_gda (by omega)]; exact p3 j (by omega)
        · rw [if_pos ⟨hi1, hl⟩, if_neg hv] at eG
          rw [eG]
          show jb_J _ RX10 cX10_gatherLines 2 (Option.none : Option Jvm.ClassFile.FieldType) false 1 0 0 7 [some (.ref 74), some (.int (nI i))] [] [s0, s1, s2, s3, s4, jb_sht74 Is nums Js Ws, s6, s7, s8, s9, s10, s11] _
          refine jb_iload_n (pc' := 8) dX10_gatherLines_7 rfl rfl ?_
          refine jb_iconst (pc' := 9) 1 dX10_gatherLines_8 (by decide) rfl ?_
          refine jb_iadd (pc' := 10) dX10_gatherLines_9 rfl ?_
          refine jb_top (v := .int ((nI i) + 1)) (w := .int (nI (i + 1))) (jb_vI (nI_add _ 1)) ?_
          refine jb_aload_n (pc' := 11) dX10_gatherLines_10 rfl rfl ?_
          refine gf_X10_15 (pc' := 14) (v := .int (Is 1)) dX10_gatherLines_11 rfl rfl rfl ?_
          refine jb_top (v := .int (Is 1)) (w := .int (nI zs)) (jb_vI h1s) ?_
          refine jb_icmp_ge (tgt := 109) (pc' := 17) dX10_gatherLines_14 (by decide) rfl (fun z => absurd z (nI_ge (a := i + 1) (b := zs) (by omega) (by omega))) (fun _ => ?_)
          refine jb_aload_n (pc' := 18) dX10_gatherLines_17 rfl rfl ?_
          refine gf_X10_34 (pc' := 21) (v := .int (Js 1)) dX10_gatherLines_18 rfl rfl rfl ?_
          refine jb_top (v := .int (Js 1)) (w := .int (nI acc.length)) (jb_vI p1) ?_
          refine jb_bipush (pc' := 23) 12 dX10_gatherLines_21 (by decide) rfl ?_
          refine jb_icmp_ge (tgt := 109) (pc' := 26) dX10_gatherLines_23 (by decide) rfl (fun z => absurd z (nI_ge (a := acc.length) (b := 12) (by omega) (by omega))) (fun _ => ?_)
          refine jb_aload_n (pc' := 27) dX10_gatherLines_26 rfl rfl ?_
          refine gf_X10_18 (pc' := 30) (v := .ref 75) dX10_gatherLines_27 rfl rfl rfl ?_
          refine jb_iload_n (pc' := 31) dX10_gatherLines_30 rfl rfl ?_
          refine jb_iaload (pc' := 32) (i9 := i) (f := nums) dX10_gatherLines_31 rfl (jb_ix_nI (by omega)) (by omega) rfl ?_
          refine jb_iconst (pc' := 33) 0 dX10_gatherLines_32 (by decide) rfl ?_
          refine jb_iconst (pc' := 34) 1 dX10_gatherLines_33 (by decide) rfl ?_
          refine jb_callSN (pc' := 37) (As := [.int (nums i), .int 0, .int 1]) (a2 := 0) (b2 := 0) wv_X10_56 dX10_gatherLines_34 (c_isOutL (nums i) 0 1 (by omega) (by omega)) rfl ⟨by decide, Nat.le_of_eq (Nat.zero_add _), Nat.le_of_eq (Nat.zero_add _)⟩ (Nat.le_of_ble_eq_true rfl) rfl (fun r h9 hq => ?_)
          rcases hq with ⟨rfl, ⟨o3, rfl⟩ | ⟨o3, rfl⟩⟩
          · show jb_J _ RX10 cX10_gatherLines 2 (Option.none : Option Jvm.ClassFile.FieldType) false 1 0 0 37 [some (.ref 74), some (.int (nI i))] [.int 1] [s0, s1, s2, s3, s4, jb_sht74 Is nums Js Ws, s6, s7, s8, s9, s10, s11] _
            refine jb_if_ne (tgt := 103) (pc' := 40) dX10_gatherLines_37 (by decide) rfl (fun _ => ?_) (fun z => absurd z (by decide))
            refine jb_iinc_ (pc' := 106) (nI (i + 2)) dX10_gatherLines_103 (by decide) rfl (jb_inc i 2) (jb_at1 rfl) rfl ?_
            refine jb_goto (pc' := 7) dX10_gatherLines_106 (by decide) ?_
            exact ih (i + 2) acc Js Ws (by omega) (by omega) ⟨p1, p2, p3⟩
          · show jb_J _ RX10 cX10_gatherLines 2 (Option.none : Option Jvm.ClassFile.FieldType) false 1 0 0 37 [some (.ref 74), some (.int (nI i))] [.int 0] [s0, s1, s2, s3, s4, jb_sht74 Is nums Js Ws, s6, s7, s8, s9, s10, s11] _
            refine jb_if_ne (tgt := 103) (pc' := 40) dX10_gatherLines_37 (by decide) rfl (fun z => absurd (by decide) z) (fun _ => ?_)
            refine jb_aload_n (pc' := 41) dX10_gatherLines_40 rfl rfl ?_
            refine gf_X10_18 (pc' := 44) (v := .ref 75) dX10_gatherLines_41 rfl rfl rfl ?_
            refine jb_iload_n (pc' := 45) dX10_gatherLines_44 rfl rfl ?_
            refine jb_iconst (pc' := 46) 1 dX10_gatherLines_45 (by decide) rfl ?_
            refine jb_iadd (pc' := 47) dX10_gatherLines_46 rfl ?_
            refine jb_top (v := .int ((nI i) + 1)) (w := .int (nI (i + 1))) (jb_vI (nI_add _ 1)) ?_
            refine jb_iaload (pc' := 48) (i9 := (i + 1)) (f := nums) dX10_gatherLines_47 rfl (jb_ix_nI (by omega)) (by omega) rfl ?_
            refine jb_iconst (pc' := 49) 0 dX10_gatherLines_48 (by decide) rfl ?_
            refine jb_sipush (pc' := 52) 999 dX10_gatherLines_49 (by decide) rfl ?_
            refine jb_callSN (pc' := 55) (As := [.int (nums (i + 1)), .int 0, .int 999]) (a2 := 0) (b2 := 0) wv_X10_56 dX10_gatherLines_52 (c_isOutL (nums (i + 1)) 0 999 (by omega) (by omega)) rfl ⟨by decide, Nat.le_of_eq (Nat.zero_add _), Nat.le_of_eq (Nat.zero_add _)⟩ (Nat.le_of_ble_eq_true rfl) rfl (fun r h9 hq => ?_)
            rcases hq with ⟨rfl, ⟨o7, rfl⟩ | ⟨o7, rfl⟩⟩
            · show jb_J _ RX10 cX10_gatherLines 2 (Option.none : Option Jvm.ClassFile.FieldType) false 1 0 0 55 [some (.ref 74), some (.int (nI i))] [.int 1] [s0, s1, s2, s3, s4, jb_sht74 Is nums Js Ws, s6, s7, s8, s9, s10, s11] _
              refine jb_if_eq (tgt := 61) (pc' := 58) dX10_gatherLines_55 (by decide) rfl (fun z => absurd z (by decide)) (fun _ => ?_)
              refine jb_goto (pc' := 103) dX10_gatherLines_58 (by decide) ?_
              refine jb_iinc_ (pc' := 106) (nI (i + 2)) dX10_gatherLines_103 (by decide) rfl (jb_inc i 2) (jb_at1 rfl) rfl ?_
              refine jb_goto (pc' := 7) dX10_gatherLines_106 (by decide) ?_
              exact ih (i + 2) acc Js Ws (by omega) (by omega) ⟨p1, p2, p3⟩
            · exact absurd ⟨(jy_rng (n := 1) (by decide)).mp (by assumption), (jy_rng (n := 999) (by decide)).mp (by assumption)⟩ hv
      · rw [if_neg (fun z => hl z.2)] at eG
        rw [eG]
        show jb_J _ RX10 cX10_gatherLines 2 (Option.none : Option Jvm.ClassFile.FieldType) false 1 0 0 7 [some (.ref 74), some (.int (nI i))] [] [s0, s1, s2, s3, s4, jb_sht74 Is nums Js Ws, s6, s7, s8, s9, s10, s11] _
        refine jb_iload_n (pc' := 8) dX10_gatherLines_7 rfl rfl ?_
        refine jb_iconst (pc' := 9) 1 dX10_gatherLines_8 (by decide) rfl ?_
        refine jb_iadd (pc' := 10) dX10_gatherLines_9 rfl ?_
        refine jb_top (v := .int ((nI i) + 1)) (w := .int (nI (i + 1))) (jb_vI (nI_add _ 1)) ?_
        refine jb_aload_n (pc' := 11) dX10_gatherLines_10 rfl rfl ?_
        refine gf_X10_15 (pc' := 14) (v := .int (Is 1)) dX10_gatherLines_11 rfl rfl rfl ?_
        refine jb_top (v := .int (Is 1)) (w := .int (nI zs)) (jb_vI h1s) ?_
        refine jb_icmp_ge (tgt := 109) (pc' := 17) dX10_gatherLines_14 (by decide) rfl (fun z => absurd z (nI_ge (a := i + 1) (b := zs) (by omega) (by omega))) (fun _ => ?_)
        refine jb_aload_n (pc' := 18) dX10_gatherLines_17 rfl rfl ?_
        refine gf_X10_34 (pc' := 21) (v := .int (Js 1)) dX10_gatherLines_18 rfl rfl rfl ?_
        refine jb_top (v := .int (Js 1)) (w := .int (nI acc.length)) (jb_vI p1) ?_
        refine jb_bipush (pc' := 23) 12 dX10_gatherLines_21 (by decide) rfl ?_
        refine jb_icmp_ge (tgt := 109) (pc' := 26) dX10_gatherLines_23 (by decide) rfl (fun _ => ?_) (fun z => absurd (nI_le (a := 12) (b := acc.length) (by omega) (by omega)) z)
        refine jb_vret dX10_gatherLines_109 ?_
        exact ⟨rfl, Js, Ws, ⟨p1, p2, p3⟩, rfl⟩
    · rw [if_neg (fun z => hi1 z.1)] at eG
      rw [eG]
      show jb_J _ RX10 cX10_gatherLines 2 (Option.none : Option Jvm.ClassFile.FieldType) false 1 0 0 7 [some (.ref 74), some (.int (nI i))] [] [s0, s1, s2, s3, s4, jb_sht74 Is nums Js Ws, s6, s7, s8, s9, s10, s11] _
      refine jb_iload_n (pc' := 8) dX10_gatherLines_7 rfl rfl ?_
      refine jb_iconst (pc' := 9) 1 dX10_gatherLines_8 (by decide) rfl ?_
      refine jb_iadd (pc' := 10) dX10_gatherLines_9 rfl ?_
      refine jb_top (v := .int ((nI i) + 1)) (w := .int (nI (i + 1))) (jb_vI (nI_add _ 1)) ?_
      refine jb_aload_n (pc' := 11) dX10_gatherLines_10 rfl rfl ?_
      refine gf_X10_15 (pc' := 14) (v := .int (Is 1)) dX10_gatherLines_11 rfl rfl rfl ?_
      refine jb_top (v := .int (Is 1)) (w := .int (nI zs)) (jb_vI h1s) ?_
      refine jb_icmp_ge (tgt := 109) (pc' := 17) dX10_gatherLines_14 (by decide) rfl (fun _ => ?_) (fun z => absurd (nI_le (a := zs) (b := i + 1) (by omega) (by omega)) z)
      refine jb_vret dX10_gatherLines_109 ?_
      exact ⟨rfl, Js, Ws, ⟨p1, p2, p3⟩, rfl⟩
set_option maxRecDepth 100000 in
set_option maxHeartbeats 4000000 in
theorem c_gatherL_0 {sc : Nat × (Nat → Int32)} {s0 s1 s2 s3 s4 s6 s7 s8 s9 s10 s11 : List va_E} (Is nums Js : Nat → Int32) (Ws : Nat → Nat → Int32) (zs : Nat) (h1s : Is 1 = nI zs) (hzs : zs ≤ 40) : jb_C sc yX10_gatherLines cX10_gatherLines 2 (Option.none : Option Jvm.ClassFile.FieldType) 1 0 0 [.ref 74] [s0, s1, s2, s3, s4, jb_sht74 Is nums Js Ws, s6, s7, s8, s9, s10, s11] (fun r h9 => r = none ∧ ∃ (J9 : Nat → Int32) (W9 : Nat → Nat → Int32), (J9 1 = nI (jy_ga nums zs zs 0 []).length ∧ jy_in (jy_ga nums zs zs 0 []) ∧ (∀ j, j < (jy_ga nums zs zs 0 []).length → W9 3 j = nI ((jy_ga nums zs zs 0 []).getD j (0, 0)).1 ∧ W9 4 j = nI ((jy_ga nums zs zs 0 []).getD j (0, 0)).2)) ∧ h9 = [s0, s1, s2, s3, s4, jb_sht74 Is nums J9 W9, s6, s7, s8, s9, s10, s11]) := by
  refine jb_CofJ (ini := false) (by decide +kernel) (fun h => by cases h) (Nat.le_of_ble_eq_true rfl) ?_
  show jb_J sc RX10 cX10_gatherLines 2 (Option.none : Option Jvm.ClassFile.FieldType) false 1 0 0 0 [some (.ref 74), none] [] [s0, s1, s2, s3, s4, jb_sht74 Is nums Js Ws, s6, s7, s8, s9, s10, s11] _
  refine jb_aload_n (pc' := 1) dX10_gatherLines_0 rfl rfl ?_
  refine jb_iconst (pc' := 2) 0 dX10_gatherLines_1 (by decide) rfl ?_
  refine pf_X10_34 (pc' := 5) (h' := [s0, s1, s2, s3, s4, jb_sht74 Is nums (upd Js 1 0) Ws, s6, s7, s8, s9, s10, s11]) dX10_gatherLines_2 (fun _ => ⟨rfl, rfl⟩) rfl (Nat.le_of_ble_eq_true rfl) rfl rfl ?_
  refine jb_iconst (pc' := 6) 0 dX10_gatherLines_5 (by decide) rfl ?_
  refine jb_istore_n_ (pc' := 7) dX10_gatherLines_6 (by decide) (jb_at1 rfl) rfl ?_
  exact l_gatherL_0 Is nums zs h1s hzs zs 0 [] (upd Js 1 0) Ws (by omega) (by omega) ⟨rfl, ⟨by decide, fun j hj => absurd hj (Nat.not_lt_zero _)⟩, fun j hj => absurd hj (Nat.not_lt_zero _)⟩
set_option maxRecDepth 100000 in
set_option maxHeartbeats 4000000 in
theorem c_secondOn0_0 {sc : Nat × (Nat → Int32)} {s0 s1 s2 s3 s4 s6 s7 s8 s9 s10 s11 : List va_E} (Is nums Js : Nat → Int32) (Ws : Nat → Nat → Int32) (ls : List (Nat × Nat)) (g : Nat) (hg : g ≤ 40) (hln : Js 1 = nI ls.length ∧ jy_in ls ∧ (∀ j, j < ls.length → Ws 3 j = nI (ls.getD j (0, 0)).1 ∧ Ws 4 j = nI (ls.getD j (0, 0)).2)) (a : Nat) (ha : a < ls.length) : jb_C sc yX10_secondOn cX10_secondOn 4 (Option.some .int) 0 0 0 [.ref 74, .int 0, .int (nI a), .int (nI g)] [s0, s1, s2, s3, s4, jb_sht74 Is nums Js Ws, s6, s7, s8, s9, s10, s11] (fun r h9 => r = some (.int (nI (jy_on 0 g (ls.getD a (0, 0))))) ∧ [s0, s1, s2, s3, s4, jb_sht74 Is nums Js Ws, s6, s7, s8, s9, s10, s11] = h9) := by
  refine jb_CofJ (ini := false) (by decide +kernel) (fun h => by cases h) (Nat.le_of_ble_eq_true rfl) ?_
  show jb_J sc RX10 cX10_secondOn 4 (Option.some .int) false 0 0 0 0 [some (.ref 74), some (.int 0), some (.int (nI a)), some (.int (nI g))] [] [s0, s1, s2, s3, s4, jb_sht74 Is nums Js Ws, s6, s7, s8, s9, s10, s11] _
  obtain ⟨p1, p2, p3⟩ := hln
  have b1 := p2.1
  have b2 := p2.2 a ha
  refine jb_aload_n (pc' := 1) dX10_secondOn_0 rfl rfl ?_
  refine gf_X10_37 (pc' := 4) (v := .ref 79) dX10_secondOn_1 rfl rfl rfl ?_
  refine jb_iload_n (pc' := 5) dX10_secondOn_4 rfl rfl ?_
  refine jb_iaload (pc' := 6) (i9 := a) (f := (Ws 3)) dX10_secondOn_5 rfl (jb_ix_nI (by omega)) (by omega) rfl ?_
  refine jb_top (v := .int ((Ws 3) a)) (w := .int (nI (ls.getD a (0, 0)).1)) (jb_vI (p3 a ha).1) ?_
  refine jb_iload_n (pc' := 7) dX10_secondOn_6 rfl rfl ?_
  refine jb_icmp_ne (tgt := 19) (pc' := 10) dX10_secondOn_7 (by decide) rfl (fun hcc => ?_) (fun hcc => ?_)
  · have hcc : ¬ (ls.getD a (0, 0)).1 = 0 := fun z => hcc (by rw [z]; rfl)
    refine jb_aload_n (pc' := 20) dX10_secondOn_19 rfl rfl ?_
    refine gf_X10_40 (pc' := 23) (v := .ref 80) dX10_secondOn_20 rfl rfl rfl ?_
    refine jb_iload_n (pc' := 24) dX10_secondOn_23 rfl rfl ?_
    refine jb_iaload (pc' := 25) (i9 := a) (f := (Ws 4)) dX10_secondOn_24 rfl (jb_ix_nI (by omega)) (by omega) rfl ?_
    refine jb_top (v := .int ((Ws 4) a)) (w := .int (nI (ls.getD a (0, 0)).2)) (jb_vI (p3 a ha).2) ?_
    refine jb_iload_n (pc' := 26) dX10_secondOn_25 rfl rfl ?_
    refine jb_iadd (pc' := 27) dX10_secondOn_26 rfl ?_
    refine jb_top (v := .int ((nI (ls.getD a (0, 0)).2) + (nI g))) (w := .int (nI ((ls.getD a (0, 0)).2 + g))) (jb_vI (nI_add _ _)) ?_
    refine jb_iret dX10_secondOn_27 rfl ?_
    refine ⟨congrArg (fun q => some (Value.int (nI q))) ?_, rfl⟩
    unfold jy_on
    first | exact (if_pos (by omega)).symm | exact (if_neg (by omega)).symm
  · have hcc : (ls.getD a (0, 0)).1 = 0 := (nI_eq (a := (ls.getD a (0, 0)).1) (b := 0) (by omega) (by omega)).mp hcc
    refine jb_aload_n (pc' := 11) dX10_secondOn_10 rfl rfl ?_
    refine gf_X10_40 (pc' := 14) (v := .ref 80) dX10_secondOn_11 rfl rfl rfl ?_
    refine jb_iload_n (pc' := 15) dX10_secondOn_14 rfl rfl ?_
    refine jb_iaload (pc' := 16) (i9 := a) (f := (Ws 4)) dX10_secondOn_15 rfl (jb_ix_nI (by omega)) (by omega) rfl ?_
    refine jb_top (v := .int ((Ws 4) a)) (w := .int (nI (ls.getD a (0, 0)).2)) (jb_vI (p3 a ha).2) ?_
    refine jb_goto (pc' := 27) dX10_secondOn_16 (by decide) ?_
    refine jb_iret dX10_secondOn_27 rfl ?_
    refine ⟨congrArg (fun q => some (Value.int (nI q))) ?_, rfl⟩
    unfold jy_on
    first | exact (if_pos (by omega)).symm | exact (if_neg (by omega)).symm
set_option maxRecDepth 100000 in
set_option maxHeartbeats 4000000 in
theorem c_secondOn1_0 {sc : Nat × (Nat → Int32)} {s0 s1 s2 s3 s4 s6 s7 s8 s9 s10 s11 : List va_E} (Is nums Js : Nat → Int32) (Ws : Nat → Nat → Int32) (ls : List (Nat × Nat)) (g : Nat) (hg : g ≤ 40) (hln : Js 1 = nI ls.length ∧ jy_in ls ∧ (∀ j, j < ls.length → Ws 3 j = nI (ls.getD j (0, 0)).1 ∧ Ws 4 j = nI (ls.getD j (0, 0)).2)) (a : Nat) (ha : a < ls.length) : jb_C sc yX10_secondOn cX10_secondOn 4 (Option.some .int) 0 0 0 [.ref 74, .int 1, .int (nI a), .int (nI g)] [s0, s1, s2, s3, s4, jb_sht74 Is nums Js Ws, s6, s7, s8, s9, s10, s11] (fun r h9 => r = some (.int (nI (jy_on 1 g (ls.getD a (0, 0))))) ∧ [s0, s1, s2, s3, s4, jb_sht74 Is nums Js Ws, s6, s7, s8, s9, s10, s11] = h9) := by
  refine jb_CofJ (ini := false) (by decide +kernel) (fun h => by cases h) (Nat.le_of_ble_eq_true rfl) ?_
  show jb_J sc RX10 cX10_secondOn 4 (Option.some .int) false 0 0 0 0 [some (.ref 74), some (.int 1), some (.int (nI a)), some (.int (nI g))] [] [s0, s1, s2, s3, s4, jb_sht74 Is nums Js Ws, s6, s7, s8, s9, s10, s11] _
  obtain ⟨p1, p2, p3⟩ := hln
  have b1 := p2.1
  have b2 := p2.2 a ha
  refine jb_aload_n (pc' := 1) dX10_secondOn_0 rfl rfl ?_
  refine gf_X10_37 (pc' := 4) (v := .ref 79) dX10_secondOn_1 rfl rfl rfl ?_
  refine jb_iload_n (pc' := 5) dX10_secondOn_4 rfl rfl ?_
  refine jb_iaload (pc' := 6) (i9 := a) (f := (Ws 3)) dX10_secondOn_5 rfl (jb_ix_nI (by omega)) (by omega) rfl ?_
  refine jb_top (v := .int ((Ws 3) a)) (w := .int (nI (ls.getD a (0, 0)).1)) (jb_vI (p3 a ha).1) ?_
  refine jb_iload_n (pc' := 7) dX10_secondOn_6 rfl rfl ?_
  refine jb_icmp_ne (tgt := 19) (pc' := 10) dX10_secondOn_7 (by decide) rfl (fun hcc => ?_) (fun hcc => ?_)
  · have hcc : ¬ (ls.getD a (0, 0)).1 = 1 := fun z => hcc (by rw [z]; rfl)
    refine jb_aload_n (pc' := 20) dX10_secondOn_19 rfl rfl ?_
    refine gf_X10_40 (pc' := 23) (v := .ref 80) dX10_secondOn_20 rfl rfl rfl ?_
    refine jb_iload_n (pc' := 24) dX10_secondOn_23 rfl rfl ?_
    refine jb_iaload (pc' := 25) (i9 := a) (f := (Ws 4)) dX10_secondOn_24 rfl (jb_ix_nI (by omega)) (by omega) rfl ?_
    refine jb_top (v := .int ((Ws 4) a)) (w := .int (nI (ls.getD a (0, 0)).2)) (jb_vI (p3 a ha).2) ?_
    refine jb_iload_n (pc' := 26) dX10_secondOn_25 rfl rfl ?_
    refine jb_iadd (pc' := 27) dX10_secondOn_26 rfl ?_
    refine jb_top (v := .int ((nI (ls.getD a (0, 0)).2) + (nI g))) (w := .int (nI ((ls.getD a (0, 0)).2 + g))) (jb_vI (nI_add _ _)) ?_
    refine jb_iret dX10_secondOn_27 rfl ?_
    refine ⟨congrArg (fun q => some (Value.int (nI q))) ?_, rfl⟩
    unfold jy_on
    first | exact (if_pos (by omega)).symm | exact (if_neg (by omega)).symm
  · have hcc : (ls.getD a (0, 0)).1 = 1 := (nI_eq (a := (ls.getD a (0, 0)).1) (b := 1) (by omega) (by omega)).mp hcc
    refine jb_aload_n (pc' := 11) dX10_secondOn_10 rfl rfl ?_
    refine gf_X10_40 (pc' := 14) (v := .ref 80) dX10_secondOn_11 rfl rfl rfl ?_
    refine jb_iload_n (pc' := 15) dX10_secondOn_14 rfl rfl ?_
    refine jb_iaload (pc' := 16) (i9 := a) (f := (Ws 4)) dX10_secondOn_15 rfl (jb_ix_nI (by omega)) (by omega) rfl ?_
    refine jb_top (v := .int ((Ws 4) a)) (w := .int (nI (ls.getD a (0, 0)).2)) (jb_vI (p3 a ha).2) ?_
    refine jb_goto (pc' := 27) dX10_secondOn_16 (by decide) ?_
    refine jb_iret dX10_secondOn_27 rfl ?_
    refine ⟨congrArg (fun q => some (Value.int (nI q))) ?_, rfl⟩
    unfold jy_on
    first | exact (if_pos (by omega)).symm | exact (if_neg (by omega)).symm
set_option maxRecDepth 100000 in
set_option maxHeartbeats 4000000 in
theorem l_fg1_0 {sc : Nat × (Nat → Int32)} {s0 s1 s2 s3 s4 s6 s7 s8 s9 s10 s11 : List va_E} (Is nums Js : Nat → Int32) (Ws : Nat → Nat → Int32) (ls : List (Nat × Nat)) (g : Nat) (hg : g ≤ 40) (hln : Js 1 = nI ls.length ∧ jy_in ls ∧ (∀ j, j < ls.length → Ws 3 j = nI (ls.getD j (0, 0)).1 ∧ Ws 4 j = nI (ls.getD j (0, 0)).2)) (Q : Option Value → jb_H → Prop) (a : Nat) (ha : a < ls.length) (hret : ∀ b, b < a → jy_k g (ls.getD a (0, 0)) (ls.getD b (0, 0)) → Q (some (.int 0)) [s0, s1, s2, s3, s4, jb_sht74 Is nums Js Ws, s6, s7, s8, s9, s10, s11]) (hgo : ∀ x3, (∀ b, b < a → ¬ jy_k g (ls.getD a (0, 0)) (ls.getD b (0, 0))) → jb_J sc RX10 cX10_fitsGap 4 (Option.some .boolean) false 1 0 0 59 [some (.ref 74), some (.int (nI g)), some (.int (nI a)), x3] [] [s0, s1, s2, s3, s4, jb_sht74 Is nums Js Ws, s6, s7, s8, s9, s10, s11] Q) : ∀ (n b : Nat), b + n = a → (∀ c, c < b → ¬ jy_k g (ls.getD a (0, 0)) (ls.getD c (0, 0))) → jb_J sc RX10 cX10_fitsGap 4 (Option.some .boolean) false 1 0 0 12 [some (.ref 74), some (.int (nI g)), some (.int (nI a)), some (.int (nI b))] [] [s0, s1, s2, s3, s4, jb_sht74 Is nums Js Ws, s6, s7, s8, s9, s10, s11] Q := by
  have b1 := hln.2.1.1
  intro n
  induction n with
  | zero =>
    intro b hb hno
    show jb_J _ RX10 cX10_fitsGap 4 (Option.some .boolean) false 1 0 0 12 [some (.ref 74), some (.int (nI g)), some (.int (nI a)), some (.int (nI b))] [] [s0, s1, s2, s3, s4, jb_sht74 Is nums Js Ws, s6, s7, s8, s9, s10, s11] _
    refine jb_iload_n (pc' := 13) dX10_fitsGap_12 rfl rfl ?_
    refine jb_iload_n (pc' := 14) dX10_fitsGap_13 rfl rfl ?_
    refine jb_icmp_ge (tgt := 59) (pc' := 17) dX10_fitsGap_14 (by decide) rfl (fun _ => ?_) (fun z => absurd (nI_le (a := a) (b := b) (by omega) (by omega)) z)
    exact hgo _ (fun c hc => hno c (by omega))
  | succ n ih =>
    intro b hb hno
    have xa := hln.2.1.2 a ha
    have xb := hln.2.1.2 b (by omega)
    have o0 := jy_on_le (c := 0) xa.2 hg
    have u0 := jy_on_le (c := 0) xb.2 hg
    have o1 := jy_on_le (c := 1) xa.2 hg
    have u1 := jy_on_le (c := 1) xb.2 hg
    show jb_J _ RX10 cX10_fitsGap 4 (Option.some .boolean) false 1 0 0 12 [some (.ref 74), some (.int (nI g)), some (.int (nI a)), some (.int (nI b))] [] [s0, s1, s2, s3, s4, jb_sht74 Is nums Js Ws, s6, s7, s8, s9, s10, s11] _
    refine jb_iload_n (pc' := 13) dX10_fitsGap_12 rfl rfl ?_
    refine jb_iload_n (pc' := 14) dX10_fitsGap_13 rfl rfl ?_
    refine jb_icmp_ge (tgt := 59) (pc' := 17) dX10_fitsGap_14 (by decide) rfl (fun z => absurd z (nI_ge (a := b) (b := a) (by omega) (by omega))) (fun _ => ?_)
    refine jb_aload_n (pc' := 18) dX10_fitsGap_17 rfl rfl ?_
    refine jb_iconst (pc' := 19) 0 dX10_fitsGap_18 (by decide) rfl ?_
    refine jb_iload_n (pc' := 20) dX10_fitsGap_19 rfl rfl ?_
    refine jb_iload_n (pc' := 21) dX10_fitsGap_20 rfl rfl ?_
    refine jb_callV (pc' := 24) (ci := 10) (q := 74) (As := [.int 0, .int (nI a), .int (nI g)]) (a2 := 0) (b2 := 0) wv_X10_69 rfl dX10_fitsGap_21 (c_secondOn0_0 Is nums Js Ws ls g hg hln a (by omega)) rfl rfl ⟨by decide, Nat.le_of_eq (Nat.zero_add _), Nat.le_of_eq (Nat.zero_add _)⟩ (Nat.le_of_ble_eq_true rfl) rfl (fun r h9 hq => ?_)
    obtain ⟨rfl, rfl⟩ := hq
    show jb_J _ RX10 cX10_fitsGap 4 (Option.some .boolean) false 1 0 0 24 [some (.ref 74), some (.int (nI g)), some (.int (nI a)), some (.int (nI b))] [.int (nI (jy_on 0 g (ls.getD a (0, 0))))] [s0, s1, s2, s3, s4, jb_sht74 Is nums Js Ws, s6, s7, s8, s9, s10, s11] _
    refine jb_aload_n (pc' := 25) dX10_fitsGap_24 rfl rfl ?_
    refine jb_iconst (pc' := 26) 0 dX10_fitsGap_25 (by decide) rfl ?_
    refine jb_iload_n (pc' := 27) dX10_fitsGap_26 rfl rfl ?_
    refine jb_iload_n (pc' := 28) dX10_fitsGap_27 rfl rfl ?_
    refine jb_callV (pc' := 31) (ci := 10) (q := 74) (As := [.int 0, .int (nI b), .int (nI g)]) (a2 := 0) (b2 := 0) wv_X10_69 rfl dX10_fitsGap_28 (c_secondOn0_0 Is nums Js Ws ls g hg hln b (by omega)) rfl rfl ⟨by decide, Nat.le_of_eq (Nat.zero_add _), Nat.le_of_eq (Nat.zero_add _)⟩ (Nat.le_of_ble_eq_true rfl) rfl (fun r h9 hq => ?_)
    obtain ⟨rfl, rfl⟩ := hq
    show jb_J _ RX10 cX10_fitsGap 4 (Option.some .boolean) false 1 0 0 31 [some (.ref 74), some (.int (nI g)), some (.int (nI a)), some (.int (nI b))] [.int (nI (jy_on 0 g (ls.getD b (0, 0)))), .int (nI (jy_on 0 g (ls.getD a (0, 0))))] [s0, s1, s2, s3, s4, jb_sht74 Is nums Js Ws, s6, s7, s8, s9, s10, s11] _
    refine jb_icmp_eq (tgt := 51) (pc' := 34) dX10_fitsGap_31 (by decide) rfl (fun c2 => ?_) (fun c2 => ?_)
    · have c2 : (jy_on 0 g (ls.getD a (0, 0))) = (jy_on 0 g (ls.getD b (0, 0))) := (nI_eq (a := (jy_on 0 g (ls.getD a (0, 0)))) (b := (jy_on 0 g (ls.getD b (0, 0)))) (by omega) (by omega)).mp c2
      refine jb_iconst (pc' := 52) 0 dX10_fitsGap_51 (by decide) rfl ?_
      refine jb_iret dX10_fitsGap_52 rfl ?_
      exact hret b (by omega) ((jy_cl xa.1 xb.1).mp (by first | exact Or.inl (by assumption) | exact Or.inr (by assumption)))
    · have c2 : ¬ (jy_on 0 g (ls.getD a (0, 0))) = (jy_on 0 g (ls.getD b (0, 0))) := fun z9 => c2 ((nI_eq (a := (jy_on 0 g (ls.getD a (0, 0)))) (b := (jy_on 0 g (ls.getD b (0, 0)))) (by omega) (by omega)).mpr z9)
      refine jb_aload_n (pc' := 35) dX10_fitsGap_34 rfl rfl ?_
      refine jb_iconst (pc' := 36) 1 dX10_fitsGap_35 (by decide) rfl ?_
      refine jb_iload_n (pc' := 37) dX10_fitsGap_36 rfl rfl ?_
      refine jb_iload_n (pc' := 38) dX10_fitsGap_37 rfl rfl ?_
      refine jb_callV (pc' := 41) (ci := 10) (q := 74) (As := [.int 1, .int (nI a), .int (nI g)]) (a2 := 0) (b2 := 0) wv_X10_69 rfl dX10_fitsGap_38 (c_secondOn1_0 Is nums Js Ws ls g hg hln a (by omega)) rfl rfl ⟨by decide, Nat.le_of_eq (Nat.zero_add _), Nat.le_of_eq (Nat.zero_add _)⟩ (Nat.le_of_ble_eq_true rfl) rfl (fun r h9 hq => ?_)
      obtain ⟨rfl, rfl⟩ := hq
      show jb_J _ RX10 cX10_fitsGap 4 (Option.some .boolean) false 1 0 0 41 [some (.ref 74), some (.int (nI g)), some (.int (nI a)), some (.int (nI b))] [.int (nI (jy_on 1 g (ls.getD a (0, 0))))] [s0, s1, s2, s3, s4, jb_sht74 Is nums Js Ws, s6, s7, s8, s9, s10, s11] _
      refine jb_aload_n (pc' := 42) dX10_fitsGap_41 rfl rfl ?_
      refine jb_iconst (pc' := 43) 1 dX10_fitsGap_42 (by decide) rfl ?_
      refine jb_iload_n (pc' := 44) dX10_fitsGap_43 rfl rfl ?_
      refine jb_iload_n (pc' := 45) dX10_fitsGap_44 rfl rfl ?_
      refine jb_callV (pc' := 48) (ci := 10) (q := 74) (As := [.int 1, .int (nI b), .int (nI g)]) (a2 := 0) (b2 := 0) wv_X10_69 rfl dX10_fitsGap_45 (c_secondOn1_0 Is nums Js Ws ls g hg hln b (by omega)) rfl rfl ⟨by decide, Nat.le_of_eq (Nat.zero_add _), Nat.le_of_eq (Nat.zero_add _)⟩ (Nat.le_of_ble_eq_true rfl) rfl (fun r h9 hq => ?_)
      obtain ⟨rfl, rfl⟩ := hq
      show jb_J _ RX10 cX10_fitsGap 4 (Option.some .boolean) false 1 0 0 48 [some (.ref 74), some (.int (nI g)), some (.int (nI a)), some (.int (nI b))] [.int (nI (jy_on 1 g (ls.getD b (0, 0)))), .int (nI (jy_on 1 g (ls.getD a (0, 0))))] [s0, s1, s2, s3, s4, jb_sht74 Is nums Js Ws, s6, s7, s8, s9, s10, s11] _
      refine jb_icmp_ne (tgt := 53) (pc' := 51) dX10_fitsGap_48 (by decide) rfl (fun c3 => ?_) (fun c3 => ?_)
      · have c3 : ¬ (jy_on 1 g (ls.getD a (0, 0))) = (jy_on 1 g (ls.getD b (0, 0))) := fun z9 => c3 ((nI_eq (a := (jy_on 1 g (ls.getD a (0, 0)))) (b := (jy_on 1 g (ls.getD b (0, 0)))) (by omega) (by omega)).mpr z9)
        refine jb_iinc_ (pc' := 56) (nI (b + 1)) dX10_fitsGap_53 (by decide) rfl (jb_inc b 1) (jb_at3 rfl) rfl ?_
        refine jb_goto (pc' := 12) dX10_fitsGap_56 (by decide) ?_
        exact ih (b + 1) (by omega) (fun c hc => by
          by_cases e : c = b
          · rw [e]; exact fun z => ((jy_cl xa.1 xb.1).mpr z).elim (by assumption) (by assumption)
          · exact hno c (by omega))
      · have c3 : (jy_on 1 g (ls.getD a (0, 0))) = (jy_on 1 g (ls.getD b (0, 0))) := (nI_eq (a := (jy_on 1 g (ls.getD a (0, 0)))) (b := (jy_on 1 g (ls.getD b (0, 0)))) (by omega) (by omega)).mp c3
        refine jb_iconst (pc' := 52) 0 dX10_fitsGap_51 (by decide) rfl ?_
        refine jb_iret dX10_fitsGap_52 rfl ?_
        exact hret b (by omega) ((jy_cl xa.1 xb.1).mp (by first | exact Or.inl (by assumption) | exact Or.inr (by assumption)))
set_option maxRecDepth 100000 in
set_option maxHeartbeats 4000000 in
theorem l_fg_0 {sc : Nat × (Nat → Int32)} {s0 s1 s2 s3 s4 s6 s7 s8 s9 s10 s11 : List va_E} (Is nums Js : Nat → Int32) (Ws : Nat → Nat → Int32) (ls : List (Nat × Nat)) (g : Nat) (hg : g ≤ 40) (hln : Js 1 = nI ls.length ∧ jy_in ls ∧ (∀ j, j < ls.length → Ws 3 j = nI (ls.getD j (0, 0)).1 ∧ Ws 4 j = nI (ls.getD j (0, 0)).2)) : ∀ (n a : Nat) (x3 : Option Value), a + n = ls.length → (∀ c b, b < c → c < a → ¬ jy_k g (ls.getD c (0, 0)) (ls.getD b (0, 0))) → jb_J sc RX10 cX10_fitsGap 4 (Option.some .boolean) false 1 0 0 2 [some (.ref 74), some (.int (nI g)), some (.int (nI a)), x3] [] [s0, s1, s2, s3, s4, jb_sht74 Is nums Js Ws, s6, s7, s8, s9, s10, s11] (fun r h9 => [s0, s1, s2, s3, s4, jb_sht74 Is nums Js Ws, s6, s7, s8, s9, s10, s11] = h9 ∧ ((jy_f ls g ∧ r = some (.int 1)) ∨ (¬ jy_f ls g ∧ r = some (.int 0)))) := by
  have b1 := hln.2.1.1
  intro n
  induction n with
  | zero =>
    intro a x3 ha hno
    show jb_J _ RX10 cX10_fitsGap 4 (Option.some .boolean) false 1 0 0 2 [some (.ref 74), some (.int (nI g)), some (.int (nI a)), x3] [] [s0, s1, s2, s3, s4, jb_sht74 Is nums Js Ws, s6, s7, s8, s9, s10, s11] _
    refine jb_iload_n (pc' := 3) dX10_fitsGap_2 rfl rfl ?_
    refine jb_aload_n (pc' := 4) dX10_fitsGap_3 rfl rfl ?_
    refine gf_X10_34 (pc' := 7) (v := .int (Js 1)) dX10_fitsGap_4 rfl rfl rfl ?_
    refine jb_top (v := .int (Js 1)) (w := .int (nI ls.length)) (jb_vI hln.1) ?_
    refine jb_icmp_ge (tgt := 65) (pc' := 10) dX10_fitsGap_7 (by decide) rfl (fun _ => ?_) (fun z => absurd (nI_le (a := ls.length) (b := a) (by omega) (by omega)) z)
    refine jb_iconst (pc' := 66) 1 dX10_fitsGap_65 (by decide) rfl ?_
    refine jb_iret dX10_fitsGap_66 rfl ?_
    exact ⟨rfl, Or.inl ⟨fun c b h1 h2 => hno c b h1 (by omega), rfl⟩⟩
  | succ n ih =>
    intro a x3 ha hno
    show jb_J _ RX10 cX10_fitsGap 4 (Option.some .boolean) false 1 0 0 2 [some (.ref 74), some (.int (nI g)), some (.int (nI a)), x3] [] [s0, s1, s2, s3, s4, jb_sht74 Is nums Js Ws, s6, s7, s8, s9, s10, s11] _
    refine jb_iload_n (pc' := 3) dX10_fitsGap_2 rfl rfl ?_
    refine jb_aload_n (pc' := 4) dX10_fitsGap_3 rfl rfl ?_
    refine gf_X10_34 (pc' := 7) (v := .int (Js 1)) dX10_fitsGap_4 rfl rfl rfl ?_
    refine jb_top (v := .int (Js 1)) (w := .int (nI ls.length)) (jb_vI hln.1) ?_
    refine jb_icmp_ge (tgt := 65) (pc' := 10) dX10_fitsGap_7 (by decide) rfl (fun z => absurd z (nI_ge (a := a) (b := ls.length) (by omega) (by omega))) (fun _ => ?_)
    refine jb_iconst (pc' := 11) 0 dX10_fitsGap_10 (by decide) rfl ?_
    refine jb_istore_n_ (pc' := 12) dX10_fitsGap_11 (by decide) (jb_at3 rfl) rfl ?_
    refine l_fg1_0 Is nums Js Ws ls g hg hln _ a (by omega) (fun b hb z => ⟨rfl, Or.inr ⟨fun q => q a b hb (by omega) z, rfl⟩⟩) (fun x3 hno2 => ?_) a 0 (by omega) (fun c hc => absurd hc (by omega))
    show jb_J _ RX10 cX10_fitsGap 4 (Option.some .boolean) false 1 0 0 59 [some (.ref 74), some (.int (nI g)), some (.int (nI a)), x3] [] [s0, s1, s2, s3, s4, jb_sht74 Is nums Js Ws, s6, s7, s8, s9, s10, s11] _
    refine jb_iinc_ (pc' := 62) (nI (a + 1)) dX10_fitsGap_59 (by decide) rfl (jb_inc a 1) (jb_at2 rfl) rfl ?_
    refine jb_goto (pc' := 2) dX10_fitsGap_62 (by decide) ?_
    exact ih (a + 1) _ (by omega) (fun c b h1 h2 => by
      by_cases e : c = a
      · subst e; exact hno2 b h1
      · exact hno c b h1 (by omega))
set_option maxRecDepth 100000 in
set_option maxHeartbeats 4000000 in
theorem c_fitsGap_0 {sc : Nat × (Nat → Int32)} {s0 s1 s2 s3 s4 s6 s7 s8 s9 s10 s11 : List va_E} (Is nums Js : Nat → Int32) (Ws : Nat → Nat → Int32) (ls : List (Nat × Nat)) (g : Nat) (hg : g ≤ 40) (hln : Js 1 = nI ls.length ∧ jy_in ls ∧ (∀ j, j < ls.length → Ws 3 j = nI (ls.getD j (0, 0)).1 ∧ Ws 4 j = nI (ls.getD j (0, 0)).2)) : jb_C sc yX10_fitsGap cX10_fitsGap 4 (Option.some .boolean) 1 0 0 [.ref 74, .int (nI g)] [s0, s1, s2, s3, s4, jb_sht74 Is nums Js Ws, s6, s7, s8, s9, s10, s11] (fun r h9 => [s0, s1, s2, s3, s4, jb_sht74 Is nums Js Ws, s6, s7, s8, s9, s10, s11] = h9 ∧ ((jy_f ls g ∧ r = some (.int 1)) ∨ (¬ jy_f ls g ∧ r = some (.int 0)))) := by
  refine jb_CofJ (ini := false) (by decide +kernel) (fun h => by cases h) (Nat.le_of_ble_eq_true rfl) ?_
  show jb_J sc RX10 cX10_fitsGap 4 (Option.some .boolean) false 1 0 0 0 [some (.ref 74), some (.int (nI g)), none, none] [] [s0, s1, s2, s3, s4, jb_sht74 Is nums Js Ws, s6, s7, s8, s9, s10, s11] _
  refine jb_iconst (pc' := 1) 0 dX10_fitsGap_0 (by decide) rfl ?_
  refine jb_istore_n_ (pc' := 2) dX10_fitsGap_1 (by decide) (jb_at2 rfl) rfl ?_
  exact l_fg_0 Is nums Js Ws ls g hg hln ls.length 0 _ (by omega) (fun c b h1 h2 => absurd h2 (by omega))
set_option maxRecDepth 100000 in
set_option maxHeartbeats 4000000 in
theorem l_least_0 {sc : Nat × (Nat → Int32)} {s0 s1 s2 s3 s4 s6 s7 s8 s9 s10 s11 : List va_E} (Is nums Js : Nat → Int32) (Ws : Nat → Nat → Int32) (ls : List (Nat × Nat)) (hln : Js 1 = nI ls.length ∧ jy_in ls ∧ (∀ j, j < ls.length → Ws 3 j = nI (ls.getD j (0, 0)).1 ∧ Ws 4 j = nI (ls.getD j (0, 0)).2)) : ∀ (n g : Nat), g + n = 41 → (∀ h, h < g → ¬ jy_f ls h) → jb_J sc RX10 cX10_leastFit 2 (Option.some .int) false 2 0 0 6 [some (.ref 74), some (.int (nI g))] [] [s0, s1, s2, s3, s4, jb_sht74 Is nums Js Ws, s6, s7, s8, s9, s10, s11] (fun r h9 => [s0, s1, s2, s3, s4, jb_sht74 Is nums Js Ws, s6, s7, s8, s9, s10, s11] = h9 ∧ ∃ v, jy_L (jy_f ls) v ∧ r = some (.int v)) := by
  intro n
  induction n with
  | zero =>
    intro g hg hno
    show jb_J _ RX10 cX10_leastFit 2 (Option.some .int) false 2 0 0 6 [some (.ref 74), some (.int (nI g))] [] [s0, s1, s2, s3, s4, jb_sht74 Is nums Js Ws, s6, s7, s8, s9, s10, s11] _
    refine jb_iload_n (pc' := 7) dX10_leastFit_6 rfl rfl ?_
    refine jb_bipush (pc' := 9) 40 dX10_leastFit_7 (by decide) rfl ?_
    refine jb_icmp_gt (tgt := 28) (pc' := 12) dX10_leastFit_9 (by decide) rfl (fun _ => ?_) (fun z => absurd (nI_lt (a := 40) (b := g) (by omega) (by omega)) z)
    refine jb_iconst (pc' := 29) (-1) dX10_leastFit_28 (by decide) rfl ?_
    refine jb_iret dX10_leastFit_29 rfl ?_
    exact ⟨rfl, -1, Or.inl ⟨rfl, fun h hh => hno h (by omega)⟩, rfl⟩
  | succ n ih =>
    intro g hg hno
    show jb_J _ RX10 cX10_leastFit 2 (Option.some .int) false 2 0 0 6 [some (.ref 74), some (.int (nI g))] [] [s0, s1, s2, s3, s4, jb_sht74 Is nums Js Ws, s6, s7, s8, s9, s10, s11] _
    refine jb_iload_n (pc' := 7) dX10_leastFit_6 rfl rfl ?_
    refine jb_bipush (pc' := 9) 40 dX10_leastFit_7 (by decide) rfl ?_
    refine jb_icmp_gt (tgt := 28) (pc' := 12) dX10_leastFit_9 (by decide) rfl (fun z => absurd z (nI_nlt (a := 40) (b := g) (by omega) (by omega))) (fun _ => ?_)
    refine jb_aload_n (pc' := 13) dX10_leastFit_12 rfl rfl ?_
    refine jb_iload_n (pc' := 14) dX10_leastFit_13 rfl rfl ?_
    refine jb_callV (pc' := 17) (ci := 10) (q := 74) (As := [.int (nI g)]) (a2 := 0) (b2 := 0) wv_X10_65 rfl dX10_leastFit_14 (c_fitsGap_0 Is nums Js Ws ls g (by omega) hln) rfl rfl ⟨by decide, Nat.le_of_eq (Nat.zero_add _), Nat.le_of_eq (Nat.zero_add _)⟩ (Nat.le_of_ble_eq_true rfl) rfl (fun r h9 hq => ?_)
    rcases hq with ⟨rfl, ⟨hfg, rfl⟩ | ⟨hfg, rfl⟩⟩
    · show jb_J _ RX10 cX10_leastFit 2 (Option.some .int) false 2 0 0 17 [some (.ref 74), some (.int (nI g))] [.int 1] [s0, s1, s2, s3, s4, jb_sht74 Is nums Js Ws, s6, s7, s8, s9, s10, s11] _
      refine jb_if_eq (tgt := 22) (pc' := 20) dX10_leastFit_17 (by decide) rfl (fun z => absurd z (by decide)) (fun _ => ?_)
      refine jb_iload_n (pc' := 21) dX10_leastFit_20 rfl rfl ?_
      refine jb_iret dX10_leastFit_21 rfl ?_
      exact ⟨rfl, nI g, Or.inr ⟨g, by omega, rfl, hfg, hno⟩, rfl⟩
    · show jb_J _ RX10 cX10_leastFit 2 (Option.some .int) false 2 0 0 17 [some (.ref 74), some (.int (nI g))] [.int 0] [s0, s1, s2, s3, s4, jb_sht74 Is nums Js Ws, s6, s7, s8, s9, s10, s11] _
      refine jb_if_eq (tgt := 22) (pc' := 20) dX10_leastFit_17 (by decide) rfl (fun _ => ?_) (fun z => absurd (by decide) z)
      refine jb_iinc_ (pc' := 25) (nI (g + 1)) dX10_leastFit_22 (by decide) rfl (jb_inc g 1) (jb_at1 rfl) rfl ?_
      refine jb_goto (pc' := 6) dX10_leastFit_25 (by decide) ?_
      exact ih (g + 1) (by omega) (fun h hh => by
        by_cases e : h = g
        · rw [e]; exact hfg
        · exact hno h (by omega))
set_option maxRecDepth 100000 in
set_option maxHeartbeats 4000000 in
theorem c_leastFit_0 {sc : Nat × (Nat → Int32)} {s0 s1 s2 s3 s4 s6 s7 s8 s9 s10 s11 : List va_E} (Is nums Js : Nat → Int32) (Ws : Nat → Nat → Int32) (zs : Nat) (h1s : Is 1 = nI zs) (hzs : zs ≤ 40) : jb_C sc yX10_leastFit cX10_leastFit 2 (Option.some .int) 2 0 0 [.ref 74] [s0, s1, s2, s3, s4, jb_sht74 Is nums Js Ws, s6, s7, s8, s9, s10, s11] (fun r h9 => ∃ J9 W9, h9 = [s0, s1, s2, s3, s4, jb_sht74 Is nums J9 W9, s6, s7, s8, s9, s10, s11] ∧ ∃ v, jy_L (jy_f (jy_ga nums zs zs 0 [])) v ∧ r = some (.int v)) := by
  refine jb_CofJ (ini := false) (by decide +kernel) (fun h => by cases h) (Nat.le_of_ble_eq_true rfl) ?_
  show jb_J sc RX10 cX10_leastFit 2 (Option.some .int) false 2 0 0 0 [some (.ref 74), none] [] [s0, s1, s2, s3, s4, jb_sht74 Is nums Js Ws, s6, s7, s8, s9, s10, s11] _
  refine jb_aload_n (pc' := 1) dX10_leastFit_0 rfl rfl ?_
  refine jb_callV (pc' := 4) (ci := 10) (q := 74) (As := []) (a2 := 0) (b2 := 0) wv_X10_62 rfl dX10_leastFit_1 (c_gatherL_0 Is nums Js Ws zs h1s hzs) rfl rfl ⟨by decide, Nat.le_of_eq (Nat.zero_add _), Nat.le_of_eq (Nat.zero_add _)⟩ (Nat.le_of_ble_eq_true rfl) rfl (fun r h9 hq => ?_)
  obtain ⟨rfl, J9, W9, hln, rfl⟩ := hq
  show jb_J _ RX10 cX10_leastFit 2 (Option.some .int) false 2 0 0 4 [some (.ref 74), none] [] [s0, s1, s2, s3, s4, jb_sht74 Is nums J9 W9, s6, s7, s8, s9, s10, s11] _
  refine jb_iconst (pc' := 5) 0 dX10_leastFit_4 (by decide) rfl ?_
  refine jb_istore_n_ (pc' := 6) dX10_leastFit_5 (by decide) (jb_at1 rfl) rfl ?_
  refine jb_J.mono (l_least_0 Is nums J9 W9 (jy_ga nums zs zs 0 []) hln 41 0 (by omega) (fun h hh => absurd hh (by omega))) (Nat.le_refl _) (Nat.le_refl _) (Nat.le_refl _) (fun r h9 hq => ?_)
  exact ⟨J9, W9, hq.1.symm, hq.2⟩
set_option maxRecDepth 100000 in
set_option maxHeartbeats 4000000 in
theorem l_all_0 {sc : Nat × (Nat → Int32)} {s0 s1 s2 s3 s4 s6 s7 s8 s9 s10 s11 : List va_E} (Is nums Js : Nat → Int32) (Ws : Nat → Nat → Int32) (ls : List (Nat × Nat)) (hln : Js 1 = nI ls.length ∧ jy_in ls ∧ (∀ j, j < ls.length → Ws 3 j = nI (ls.getD j (0, 0)).1 ∧ Ws 4 j = nI (ls.getD j (0, 0)).2)) : ∀ (n g k : Nat), g + n = 41 → jy_n (jy_f ls) g = k → jb_J sc RX10 cX10_allFits 3 (Option.some .int) false 2 0 0 8 [some (.ref 74), some (.int (nI k)), some (.int (nI g))] [] [s0, s1, s2, s3, s4, jb_sht74 Is nums Js Ws, s6, s7, s8, s9, s10, s11] (fun r h9 => [s0, s1, s2, s3, s4, jb_sht74 Is nums Js Ws, s6, s7, s8, s9, s10, s11] = h9 ∧ r = some (.int (nI (jy_n (jy_f ls) 41)))) := by
  intro n
  induction n with
  | zero =>
    intro g k hg hk
    obtain rfl : g = 41 := by omega
    show jb_J _ RX10 cX10_allFits 3 (Option.some .int) false 2 0 0 8 [some (.ref 74), some (.int (nI k)), some (.int (nI 41))] [] [s0, s1, s2, s3, s4, jb_sht74 Is nums Js Ws, s6, s7, s8, s9, s10, s11] _
    refine jb_iload_n (pc' := 9) dX10_allFits_8 rfl rfl ?_
    refine jb_bipush (pc' := 11) 40 dX10_allFits_9 (by decide) rfl ?_
    refine jb_icmp_gt (tgt := 31) (pc' := 14) dX10_allFits_11 (by decide) rfl (fun _ => ?_) (fun z => absurd (by decide) z)
    refine jb_iload_n (pc' := 32) dX10_allFits_31 rfl rfl ?_
    refine jb_iret dX10_allFits_32 rfl ?_
    exact ⟨rfl, by rw [hk]⟩
  | succ n ih =>
    intro g k hg hk
    show jb_J _ RX10 cX10_allFits 3 (Option.some .int) false 2 0 0 8 [some (.ref 74), some (.int (nI k)), some (.int (nI g))] [] [s0, s1, s2, s3, s4, jb_sht74 Is nums Js Ws, s6, s7, s8, s9, s10, s11] _
    refine jb_iload_n (pc' := 9) dX10_allFits_8 rfl rfl ?_
    refine jb_bipush (pc' := 11) 40 dX10_allFits_9 (by decide) rfl ?_
    refine jb_icmp_gt (tgt := 31) (pc' := 14) dX10_allFits_11 (by decide) rfl (fun z => absurd z (nI_nlt (a := 40) (b := g) (by omega) (by omega))) (fun _ => ?_)
    refine jb_aload_n (pc' := 15) dX10_allFits_14 rfl rfl ?_
    refine jb_iload_n (pc' := 16) dX10_allFits_15 rfl rfl ?_
    refine jb_callV (pc' := 19) (ci := 10) (q := 74) (As := [.int (nI g)]) (a2 := 0) (b2 := 0) wv_X10_65 rfl dX10_allFits_16 (c_fitsGap_0 Is nums Js Ws ls g (by omega) hln) rfl rfl ⟨by decide, Nat.le_of_eq (Nat.zero_add _), Nat.le_of_eq (Nat.zero_add _)⟩ (Nat.le_of_ble_eq_true rfl) rfl (fun r h9 hq => ?_)
    rcases hq with ⟨rfl, ⟨hfg, rfl⟩ | ⟨hfg, rfl⟩⟩
    · show jb_J _ RX10 cX10_allFits 3 (Option.some .int) false 2 0 0 19 [some (.ref 74), some (.int (nI k)), some (.int (nI g))] [.int 1] [s0, s1, s2, s3, s4, jb_sht74 Is nums Js Ws, s6, s7, s8, s9, s10, s11] _
      refine jb_if_eq (tgt := 25) (pc' := 22) dX10_allFits_19 (by decide) rfl (fun z => absurd z (by decide)) (fun _ => ?_)
      refine jb_iinc_ (pc' := 25) (nI (k + 1)) dX10_allFits_22 (by decide) rfl (jb_inc k 1) (jb_at1 rfl) rfl ?_
      refine jb_iinc_ (pc' := 28) (nI (g + 1)) dX10_allFits_25 (by decide) rfl (jb_inc g 1) (jb_at2 rfl) rfl ?_
      refine jb_goto (pc' := 8) dX10_allFits_28 (by decide) ?_
      exact ih (g + 1) (k + 1) (by omega) (by rw [jy_n1 hfg, hk])
    · show jb_J _ RX10 cX10_allFits 3 (Option.some .int) false 2 0 0 19 [some (.ref 74), some (.int (nI k)), some (.int (nI g))] [.int 0] [s0, s1, s2, s3, s4, jb_sht74 Is nums Js Ws, s6, s7, s8, s9, s10, s11] _
      refine jb_if_eq (tgt := 25) (pc' := 22) dX10_allFits_19 (by decide) rfl (fun _ => ?_) (fun z => absurd (by decide) z)
      refine jb_iinc_ (pc' := 28) (nI (g + 1)) dX10_allFits_25 (by decide) rfl (jb_inc g 1) (jb_at2 rfl) rfl ?_
      refine jb_goto (pc' := 8) dX10_allFits_28 (by decide) ?_
      exact ih (g + 1) k (by omega) (by rw [jy_n0 hfg, hk])
set_option maxRecDepth 100000 in
set_option maxHeartbeats 4000000 in
theorem c_allFits_0 {sc : Nat × (Nat → Int32)} {s0 s1 s2 s3 s4 s6 s7 s8 s9 s10 s11 : List va_E} (Is nums Js : Nat → Int32) (Ws : Nat → Nat → Int32) (zs : Nat) (h1s : Is 1 = nI zs) (hzs : zs ≤ 40) : jb_C sc yX10_allFits cX10_allFits 3 (Option.some .int) 2 0 0 [.ref 74] [s0, s1, s2, s3, s4, jb_sht74 Is nums Js Ws, s6, s7, s8, s9, s10, s11] (fun r h9 => ∃ J9 W9, h9 = [s0, s1, s2, s3, s4, jb_sht74 Is nums J9 W9, s6, s7, s8, s9, s10, s11] ∧ r = some (.int (nI (jy_n (jy_f (jy_ga nums zs zs 0 [])) 41)))) := by
  refine jb_CofJ (ini := false) (by decide +kernel) (fun h => by cases h) (Nat.le_of_ble_eq_true rfl) ?_
  show jb_J sc RX10 cX10_allFits 3 (Option.some .int) false 2 0 0 0 [some (.ref 74), none, none] [] [s0, s1, s2, s3, s4, jb_sht74 Is nums Js Ws, s6, s7, s8, s9, s10, s11] _
  refine jb_aload_n (pc' := 1) dX10_allFits_0 rfl rfl ?_
  refine jb_callV (pc' := 4) (ci := 10) (q := 74) (As := []) (a2 := 0) (b2 := 0) wv_X10_62 rfl dX10_allFits_1 (c_gatherL_0 Is nums Js Ws zs h1s hzs) rfl rfl ⟨by decide, Nat.le_of_eq (Nat.zero_add _), Nat.le_of_eq (Nat.zero_add _)⟩ (Nat.le_of_ble_eq_true rfl) rfl (fun r h9 hq => ?_)
  obtain ⟨rfl, J9, W9, hln, rfl⟩ := hq
  show jb_J _ RX10 cX10_allFits 3 (Option.some .int) false 2 0 0 4 [some (.ref 74), none, none] [] [s0, s1, s2, s3, s4, jb_sht74 Is nums J9 W9, s6, s7, s8, s9, s10, s11] _
  refine jb_iconst (pc' := 5) 0 dX10_allFits_4 (by decide) rfl ?_
  refine jb_istore_n_ (pc' := 6) dX10_allFits_5 (by decide) (jb_at1 rfl) rfl ?_
  refine jb_iconst (pc' := 7) 0 dX10_allFits_6 (by decide) rfl ?_
  refine jb_istore_n_ (pc' := 8) dX10_allFits_7 (by decide) (jb_at2 rfl) rfl ?_
  refine jb_J.mono (l_all_0 Is nums J9 W9 (jy_ga nums zs zs 0 []) hln 41 0 0 (by omega) rfl) (Nat.le_refl _) (Nat.le_refl _) (Nat.le_refl _) (fun r h9 hq => ?_)
  exact ⟨J9, W9, hq.1.symm, hq.2⟩
set_option maxRecDepth 100000 in
set_option maxHeartbeats 4000000 in
theorem kx_poem0_0 {sc : Nat × (Nat → Int32)} {s1 s2 s3 s6 s7 s8 s9 s10 s11 : List va_E} (imm : Int32) (Im rowm stkm tpm : Nat → Int32) (Tm : Nat → Value) (Is nums Js : Nat → Int32) (Ws : Nat → Nat → Int32) {bs zs : Nat} (h0s : Is 0 = nI bs) (h1s : Is 1 = nI zs) (hbs : bs ≤ 32) (hzs : zs ≤ 40) (hm : ¬ bs = 0) : jb_C sc yX11_poem cX11_poem 3 (Option.some .int) 3 0 0 [.ref 0, .int 0, .int 0] [jb_main imm Im Tm rowm stkm tpm, s1, s2, s3, jb_shs, jb_sht74 Is nums Js Ws, s6, s7, s8, s9, s10, s11] (fun r h9 => ∃ J9 W9, h9 = [jb_main imm Im Tm rowm stkm tpm, s1, s2, s3, jb_shs, jb_sht74 Is nums J9 W9, s6, s7, s8, s9, s10, s11] ∧ ∃ v, jy_L (jy_f (jy_ga nums zs zs 0 [])) v ∧ r = some (.int v)) := by
  refine jb_CofJ (ini := false) (by decide +kernel) (fun h => by cases h) (Nat.le_of_ble_eq_true rfl) ?_
  show jb_J sc RX11 cX11_poem 3 (Option.some .int) false 3 0 0 0 [some (.ref 0), some (.int 0), some (.int 0)] [] [jb_main imm Im Tm rowm stkm tpm, s1, s2, s3, jb_shs, jb_sht74 Is nums Js Ws, s6, s7, s8, s9, s10, s11] _
  refine jb_aload_n (pc' := 1) dX11_poem_0 rfl rfl ?_
  refine jb_iload_n (pc' := 2) dX11_poem_1 rfl rfl ?_
  refine jb_callV (pc' := 5) (ci := 11) (q := 0) (As := [.int 0]) (a2 := 0) (b2 := 0) wv_X11_165 rfl dX11_poem_2 (c_isNoSheetG _ 0 (by omega)) rfl rfl ⟨by decide, Nat.le_of_eq (Nat.zero_add _), Nat.le_of_eq (Nat.zero_add _)⟩ (Nat.le_of_ble_eq_true rfl) rfl (fun r h9 hq => ?_)
  obtain ⟨rfl, rfl⟩ := hq
  show jb_J _ RX11 cX11_poem 3 (Option.some .int) false 3 0 0 5 [some (.ref 0), some (.int 0), some (.int 0)] [.int 0] [jb_main imm Im Tm rowm stkm tpm, s1, s2, s3, jb_shs, jb_sht74 Is nums Js Ws, s6, s7, s8, s9, s10, s11] _
  refine jb_if_ne (tgt := 17) (pc' := 8) dX11_poem_5 (by decide) rfl (fun z => absurd (by decide) z) (fun _ => ?_)
  refine jb_iload_n (pc' := 9) dX11_poem_8 rfl rfl ?_
  refine jb_iconst (pc' := 10) 0 dX11_poem_9 (by decide) rfl ?_
  refine jb_iconst (pc' := 11) 1 dX11_poem_10 (by decide) rfl ?_
  refine jb_callS (pc' := 14) (As := [.int 0, .int 0, .int 1]) (a2 := 0) (b2 := 0) wv_X11_74 dX11_poem_11 (c_isOutLG 0 0 1 (by omega) (by omega) (by omega)) rfl ⟨by decide, Nat.le_of_eq (Nat.zero_add _), Nat.le_of_eq (Nat.zero_add _)⟩ (Nat.le_of_ble_eq_true rfl) rfl (fun r h9 hq => ?_)
  obtain ⟨rfl, rfl⟩ := hq
  show jb_J _ RX11 cX11_poem 3 (Option.some .int) false 3 0 0 14 [some (.ref 0), some (.int 0), some (.int 0)] [.int 0] [jb_main imm Im Tm rowm stkm tpm, s1, s2, s3, jb_shs, jb_sht74 Is nums Js Ws, s6, s7, s8, s9, s10, s11] _
  refine jb_if_eq (tgt := 23) (pc' := 17) dX11_poem_14 (by decide) rfl (fun _ => ?_) (fun z => absurd (by decide) z)
  refine jb_aload_n (pc' := 24) dX11_poem_23 rfl rfl ?_
  refine gf_X11_54 (pc' := 27) (v := .ref 73) dX11_poem_24 rfl rfl rfl ?_
  refine jb_iload_n (pc' := 28) dX11_poem_27 rfl rfl ?_
  refine jb_aaload (pc' := 29) (i9 := 0) (r := 74) (Or.inr (Or.inr rfl)) dX11_poem_28 rfl jb_x0 (by decide) rfl rfl ?_
  refine jb_callV (pc' := 32) (ci := 10) (q := 74) (As := []) (a2 := 0) (b2 := 0) wv_X11_168 rfl dX11_poem_29 (c_isMissing_0 Is nums Js Ws h0s h1s hbs hzs) rfl rfl ⟨by decide, Nat.le_of_eq (Nat.zero_add _), Nat.le_of_eq (Nat.zero_add _)⟩ (Nat.le_of_ble_eq_true rfl) rfl (fun r h9 hq => ?_)
  rcases hq with ⟨rfl, ⟨hms, rfl⟩ | ⟨hms, rfl⟩⟩
  · exact absurd hms hm
  · show jb_J _ RX11 cX11_poem 3 (Option.some .int) false 3 0 0 32 [some (.ref 0), some (.int 0), some (.int 0)] [.int 0] [jb_main imm Im Tm rowm stkm tpm, s1, s2, s3, jb_shs, jb_sht74 Is nums Js Ws, s6, s7, s8, s9, s10, s11] _
    refine jb_if_eq (tgt := 41) (pc' := 35) dX11_poem_32 (by decide) rfl (fun _ => ?_) (fun z => absurd (by decide) z)
    refine jb_iload_n (pc' := 42) dX11_poem_41 rfl rfl ?_
    refine jb_if_ne (tgt := 57) (pc' := 45) dX11_poem_42 (by decide) rfl (fun z => absurd (by decide) z) (fun _ => ?_)
    refine jb_aload_n (pc' := 46) dX11_poem_45 rfl rfl ?_
    refine gf_X11_54 (pc' := 49) (v := .ref 73) dX11_poem_46 rfl rfl rfl ?_
    refine jb_iload_n (pc' := 50) dX11_poem_49 rfl rfl ?_
    refine jb_aaload (pc' := 51) (i9 := 0) (r := 74) (Or.inr (Or.inr rfl)) dX11_poem_50 rfl jb_x0 (by decide) rfl rfl ?_
    refine jb_callV (pc' := 54) (ci := 10) (q := 74) (As := []) (a2 := 0) (b2 := 0) wv_X11_178 rfl dX11_poem_51 (c_leastFit_0 Is nums Js Ws zs h1s hzs) rfl rfl ⟨by decide, Nat.le_of_eq (Nat.zero_add _), Nat.le_of_eq (Nat.zero_add _)⟩ (Nat.le_of_ble_eq_true rfl) rfl (fun r h9 hq => ?_)
    obtain ⟨J9, W9, rfl, v, hv, rfl⟩ := hq
    show jb_J _ RX11 cX11_poem 3 (Option.some .int) false 3 0 0 54 [some (.ref 0), some (.int 0), some (.int 0)] [.int v] [jb_main imm Im Tm rowm stkm tpm, s1, s2, s3, jb_shs, jb_sht74 Is nums J9 W9, s6, s7, s8, s9, s10, s11] _
    refine jb_goto (pc' := 66) dX11_poem_54 (by decide) ?_
    refine jb_iret dX11_poem_66 rfl ?_
    exact ⟨J9, W9, rfl, v, hv, rfl⟩
set_option maxRecDepth 100000 in
set_option maxHeartbeats 4000000 in
theorem kx_poem1_0 {sc : Nat × (Nat → Int32)} {s1 s2 s3 s6 s7 s8 s9 s10 s11 : List va_E} (imm : Int32) (Im rowm stkm tpm : Nat → Int32) (Tm : Nat → Value) (Is nums Js : Nat → Int32) (Ws : Nat → Nat → Int32) {bs zs : Nat} (h0s : Is 0 = nI bs) (h1s : Is 1 = nI zs) (hbs : bs ≤ 32) (hzs : zs ≤ 40) (hm : ¬ bs = 0) : jb_C sc yX11_poem cX11_poem 3 (Option.some .int) 3 0 0 [.ref 0, .int 0, .int 1] [jb_main imm Im Tm rowm stkm tpm, s1, s2, s3, jb_shs, jb_sht74 Is nums Js Ws, s6, s7, s8, s9, s10, s11] (fun r h9 => ∃ J9 W9, h9 = [jb_main imm Im Tm rowm stkm tpm, s1, s2, s3, jb_shs, jb_sht74 Is nums J9 W9, s6, s7, s8, s9, s10, s11] ∧ r = some (.int (nI (jy_n (jy_f (jy_ga nums zs zs 0 [])) 41)))) := by
  refine jb_CofJ (ini := false) (by decide +kernel) (fun h => by cases h) (Nat.le_of_ble_eq_true rfl) ?_
  show jb_J sc RX11 cX11_poem 3 (Option.some .int) false 3 0 0 0 [some (.ref 0), some (.int 0), some (.int 1)] [] [jb_main imm Im Tm rowm stkm tpm, s1, s2, s3, jb_shs, jb_sht74 Is nums Js Ws, s6, s7, s8, s9, s10, s11] _
  refine jb_aload_n (pc' := 1) dX11_poem_0 rfl rfl ?_
  refine jb_iload_n (pc' := 2) dX11_poem_1 rfl rfl ?_
  refine jb_callV (pc' := 5) (ci := 11) (q := 0) (As := [.int 0]) (a2 := 0) (b2 := 0) wv_X11_165 rfl dX11_poem_2 (c_isNoSheetG _ 0 (by omega)) rfl rfl ⟨by decide, Nat.le_of_eq (Nat.zero_add _), Nat.le_of_eq (Nat.zero_add _)⟩ (Nat.le_of_ble_eq_true rfl) rfl (fun r h9 hq => ?_)
  obtain ⟨rfl, rfl⟩ := hq
  show jb_J _ RX11 cX11_poem 3 (Option.some .int) false 3 0 0 5 [some (.ref 0), some (.int 0), some (.int 1)] [.int 0] [jb_main imm Im Tm rowm stkm tpm, s1, s2, s3, jb_shs, jb_sht74 Is nums Js Ws, s6, s7, s8, s9, s10, s11] _
  refine jb_if_ne (tgt := 17) (pc' := 8) dX11_poem_5 (by decide) rfl (fun z => absurd (by decide) z) (fun _ => ?_)
  refine jb_iload_n (pc' := 9) dX11_poem_8 rfl rfl ?_
  refine jb_iconst (pc' := 10) 0 dX11_poem_9 (by decide) rfl ?_
  refine jb_iconst (pc' := 11) 1 dX11_poem_10 (by decide) rfl ?_
  refine jb_callS (pc' := 14) (As := [.int 1, .int 0, .int 1]) (a2 := 0) (b2 := 0) wv_X11_74 dX11_poem_11 (c_isOutLG 1 0 1 (by omega) (by omega) (by omega)) rfl ⟨by decide, Nat.le_of_eq (Nat.zero_add _), Nat.le_of_eq (Nat.zero_add _)⟩ (Nat.le_of_ble_eq_true rfl) rfl (fun r h9 hq => ?_)
  obtain ⟨rfl, rfl⟩ := hq
  show jb_J _ RX11 cX11_poem 3 (Option.some .int) false 3 0 0 14 [some (.ref 0), some (.int 0), some (.int 1)] [.int 0] [jb_main imm Im Tm rowm stkm tpm, s1, s2, s3, jb_shs, jb_sht74 Is nums Js Ws, s6, s7, s8, s9, s10, s11] _
  refine jb_if_eq (tgt := 23) (pc' := 17) dX11_poem_14 (by decide) rfl (fun _ => ?_) (fun z => absurd (by decide) z)
  refine jb_aload_n (pc' := 24) dX11_poem_23 rfl rfl ?_
  refine gf_X11_54 (pc' := 27) (v := .ref 73) dX11_poem_24 rfl rfl rfl ?_
  refine jb_iload_n (pc' := 28) dX11_poem_27 rfl rfl ?_
  refine jb_aaload (pc' := 29) (i9 := 0) (r := 74) (Or.inr (Or.inr rfl)) dX11_poem_28 rfl jb_x0 (by decide) rfl rfl ?_
  refine jb_callV (pc' := 32) (ci := 10) (q := 74) (As := []) (a2 := 0) (b2 := 0) wv_X11_168 rfl dX11_poem_29 (c_isMissing_0 Is nums Js Ws h0s h1s hbs hzs) rfl rfl ⟨by decide, Nat.le_of_eq (Nat.zero_add _), Nat.le_of_eq (Nat.zero_add _)⟩ (Nat.le_of_ble_eq_true rfl) rfl (fun r h9 hq => ?_)
  rcases hq with ⟨rfl, ⟨hms, rfl⟩ | ⟨hms, rfl⟩⟩
  · exact absurd hms hm
  · show jb_J _ RX11 cX11_poem 3 (Option.some .int) false 3 0 0 32 [some (.ref 0), some (.int 0), some (.int 1)] [.int 0] [jb_main imm Im Tm rowm stkm tpm, s1, s2, s3, jb_shs, jb_sht74 Is nums Js Ws, s6, s7, s8, s9, s10, s11] _
    refine jb_if_eq (tgt := 41) (pc' := 35) dX11_poem_32 (by decide) rfl (fun _ => ?_) (fun z => absurd (by decide) z)
    refine jb_iload_n (pc' := 42) dX11_poem_41 rfl rfl ?_
    refine jb_if_ne (tgt := 57) (pc' := 45) dX11_poem_42 (by decide) rfl (fun _ => ?_) (fun z => absurd z (by decide))
    refine jb_aload_n (pc' := 58) dX11_poem_57 rfl rfl ?_
    refine gf_X11_54 (pc' := 61) (v := .ref 73) dX11_poem_58 rfl rfl rfl ?_
    refine jb_iload_n (pc' := 62) dX11_poem_61 rfl rfl ?_
    refine jb_aaload (pc' := 63) (i9 := 0) (r := 74) (Or.inr (Or.inr rfl)) dX11_poem_62 rfl jb_x0 (by decide) rfl rfl ?_
    refine jb_callV (pc' := 66) (ci := 10) (q := 74) (As := []) (a2 := 0) (b2 := 0) wv_X11_181 rfl dX11_poem_63 (c_allFits_0 Is nums Js Ws zs h1s hzs) rfl rfl ⟨by decide, Nat.le_of_eq (Nat.zero_add _), Nat.le_of_eq (Nat.zero_add _)⟩ (Nat.le_of_ble_eq_true rfl) rfl (fun r h9 hq => ?_)
    obtain ⟨J9, W9, rfl, rfl⟩ := hq
    show jb_J _ RX11 cX11_poem 3 (Option.some .int) false 3 0 0 66 [some (.ref 0), some (.int 0), some (.int 1)] [.int (nI (jy_n (jy_f (jy_ga nums zs zs 0 [])) 41))] [jb_main imm Im Tm rowm stkm tpm, s1, s2, s3, jb_shs, jb_sht74 Is nums J9 W9, s6, s7, s8, s9, s10, s11] _
    refine jb_iret dX11_poem_66 rfl ?_
    exact ⟨J9, W9, rfl, rfl⟩
set_option maxRecDepth 100000 in
set_option maxHeartbeats 4000000 in
theorem l_gatherL_1 {sc : Nat × (Nat → Int32)} {s0 s1 s2 s3 s4 s5 s7 s8 s9 s10 s11 : List va_E} (Is nums : Nat → Int32) (zs : Nat) (h1s : Is 1 = nI zs) (hzs : zs ≤ 40) : ∀ (n i : Nat) (acc : List (Nat × Nat)) (Js : Nat → Int32) (Ws : Nat → Nat → Int32), zs ≤ i + 2 * n → i ≤ zs + 2 → Js 1 = nI acc.length ∧ jy_in acc ∧ (∀ j, j < acc.length → Ws 3 j = nI (acc.getD j (0, 0)).1 ∧ Ws 4 j = nI (acc.getD j (0, 0)).2) → jb_J sc RX10 cX10_gatherLines 2 (Option.none : Option Jvm.ClassFile.FieldType) false 1 0 0 7 [some (.ref 81), some (.int (nI i))] [] [s0, s1, s2, s3, s4, s5, jb_sht81 Is nums Js Ws, s7, s8, s9, s10, s11] (fun r h9 => r = none ∧ ∃ (J9 : Nat → Int32) (W9 : Nat → Nat → Int32), (J9 1 = nI (jy_ga nums zs n i acc).length ∧ jy_in (jy_ga nums zs n i acc) ∧ (∀ j, j < (jy_ga nums zs n i acc).length → W9 3 j = nI ((jy_ga nums zs n i acc).getD j (0, 0)).1 ∧ W9 4 j = nI ((jy_ga nums zs n i acc).getD j (0, 0)).2)) ∧ h9 = [s0, s1, s2, s3, s4, s5, jb_sht81 Is nums J9 W9, s7, s8, s9, s10, s11]) := by
  intro n
  induction n with
  | zero =>
    intro i acc Js Ws hi hi2 ⟨p1, p2, p3⟩
    show jb_J _ RX10 cX10_gatherLines 2 (Option.none : Option Jvm.ClassFile.FieldType) false 1 0 0 7 [some (.ref 81), some (.int (nI i))] [] [s0, s1, s2, s3, s4, s5, jb_sht81 Is nums Js Ws, s7, s8, s9, s10, s11] _
    refine jb_iload_n (pc' := 8) dX10_gatherLines_7 rfl rfl ?_
    refine jb_iconst (pc' := 9) 1 dX10_gatherLines_8 (by decide) rfl ?_
    refine jb_iadd (pc' := 10) dX10_gatherLines_9 rfl ?_
    refine jb_top (v := .int ((nI i) + 1)) (w := .int (nI (i + 1))) (jb_vI (nI_add _ 1)) ?_
    refine jb_aload_n (pc' := 11) dX10_gatherLines_10 rfl rfl ?_
    refine gf_X10_15 (pc' := 14) (v := .int (Is 1)) dX10_gatherLines_11 rfl rfl rfl ?_
    refine jb_top (v := .int (Is 1)) (w := .int (nI zs)) (jb_vI h1s) ?_
    refine jb_icmp_ge (tgt := 109) (pc' := 17) dX10_gatherLines_14 (by decide) rfl (fun _ => ?_) (fun z => absurd (nI_le (a := zs) (b := i + 1) (by omega) (by omega)) z)
    refine jb_vret dX10_gatherLines_109 ?_
    exact ⟨rfl, Js, Ws, ⟨p1, p2, p3⟩, rfl⟩
  | succ n ih =>
    intro i acc Js Ws hi hi2 ⟨p1, p2, p3⟩
    have plen := p2.1
    have eG : jy_ga nums zs (n + 1) i acc = (if i + 1 < zs ∧ acc.length < 12 then (if (0 ≤ nums i ∧ nums i ≤ 1) ∧ (0 ≤ nums (i + 1) ∧ nums (i + 1) ≤ 999) then jy_ga nums zs n (i + 2) (acc ++ [((nums i).toNatClampNeg, (nums (i + 1)).toNatClampNeg)]) else jy_ga nums zs n (i + 2) acc) else acc) := rfl
    by_cases hi1 : i + 1 < zs
    · by_cases hl : acc.length < 12
      · by_cases hv : (0 ≤ nums i ∧ nums i ≤ 1) ∧ (0 ≤ nums (i + 1) ∧ nums (i + 1) ≤ 999)
        · obtain ⟨u, hu1, hu2, eu⟩ := (jy_rng (n := 1) (by decide)).mpr hv.1
          obtain ⟨v, hv1, hv2, ev⟩ := (jy_rng (n := 999) (by decide)).mpr hv.2
          rw [if_pos ⟨hi1, hl⟩, if_pos hv, eu, ev, nI_clamp (by omega), nI_clamp (by omega)] at eG
          rw [eG]
          show jb_J _ RX10 cX10_gatherLines 2 (Option.none : Option Jvm.ClassFile.FieldType) false 1 0 0 7 [some (.ref 81), some (.int (nI i))] [] [s0, s1, s2, s3, s4, s5, jb_sht81 Is nums Js Ws, s7, s8, s9, s10, s11] _
          refine jb_iload_n (pc' := 8) dX10_gatherLines_7 rfl rfl ?_
          refine jb_iconst (pc' := 9) 1 dX10_gatherLines_8 (by decide) rfl ?_
          refine jb_iadd (pc' := 10) dX10_gatherLines_9 rfl ?_
          refine jb_top (v := .int ((nI i) + 1)) (w := .int (nI (i + 1))) (jb_vI (nI_add _ 1)) ?_
          refine jb_aload_n (pc' := 11) dX10_gatherLines_10 rfl rfl ?_
          refine gf_X10_15 (pc' := 14) (v := .int (Is 1)) dX10_gatherLines_11 rfl rfl rfl ?_
          refine jb_top (v := .int (Is 1)) (w := .int (nI zs)) (jb_vI h1s) ?_
          refine jb_icmp_ge (tgt := 109) (pc' := 17) dX10_gatherLines_14 (by decide) rfl (fun z => absurd z (nI_ge (a := i + 1) (b := zs) (by omega) (by omega))) (fun _ => ?_)
          refine jb_aload_n (pc' := 18) dX10_gatherLines_17 rfl rfl ?_
          refine gf_X10_34 (pc' := 21) (v := .int (Js 1)) dX10_gatherLines_18 rfl rfl rfl ?_
          refine jb_top (v := .int (Js 1)) (w := .int (nI acc.length)) (jb_vI p1) ?_
          refine jb_bipush (pc' := 23) 12 dX10_gatherLines_21 (by decide) rfl ?_
          refine jb_icmp_ge (tgt := 109) (pc' := 26) dX10_gatherLines_23 (by decide) rfl (fun z => absurd z (nI_ge (a := acc.length) (b := 12) (by omega) (by omega))) (fun _ => ?_)
          refine jb_aload_n (pc' := 27) dX10_gatherLines_26 rfl rfl ?_
          refine gf_X10_18 (pc' := 30) (v := .ref 82) dX10_gatherLines_27 rfl rfl rfl ?_
          refine jb_iload_n (pc' := 31) dX10_gatherLines_30 rfl rfl ?_
          refine jb_iaload (pc' := 32) (i9 := i) (f := nums) dX10_gatherLines_31 rfl (jb_ix_nI (by omega)) (by omega) rfl ?_
          refine jb_top (v := .int (nums i)) (w := .int (nI u)) (jb_vI eu) ?_
          refine jb_iconst (pc' := 33) 0 dX10_gatherLines_32 (by decide) rfl ?_
          refine jb_iconst (pc' := 34) 1 dX10_gatherLines_33 (by decide) rfl ?_
          refine jb_callSN (pc' := 37) (As := [.int (nI u), .int 0, .int 1]) (a2 := 0) (b2 := 0) wv_X10_56 dX10_gatherLines_34 (c_isOutLG u 0 1 (by omega) (by omega) (by omega)) rfl ⟨by decide, Nat.le_of_eq (Nat.zero_add _), Nat.le_of_eq (Nat.zero_add _)⟩ (Nat.le_of_ble_eq_true rfl) rfl (fun r h9 hq => ?_)
          obtain ⟨rfl, rfl⟩ := hq
          show jb_J _ RX10 cX10_gatherLines 2 (Option.none : Option Jvm.ClassFile.FieldType) false 1 0 0 37 [some (.ref 81), some (.int (nI i))] [.int 0] [s0, s1, s2, s3, s4, s5, jb_sht81 Is nums Js Ws, s7, s8, s9, s10, s11] _
          refine jb_if_ne (tgt := 103) (pc' := 40) dX10_gatherLines_37 (by decide) rfl (fun z => absurd (by decide) z) (fun _ => ?_)
          refine jb_aload_n (pc' := 41) dX10_gatherLines_40 rfl rfl ?_
          refine gf_X10_18 (pc' := 44) (v := .ref 82) dX10_gatherLines_41 rfl rfl rfl ?_
          refine jb_iload_n (pc' := 45) dX10_gatherLines_44 rfl rfl ?_
          refine jb_iconst (pc' := 46) 1 dX10_gatherLines_45 (by decide) rfl ?_
          refine jb_iadd (pc' := 47) dX10_gatherLines_46 rfl ?_
          refine jb_top (v := .int ((nI i) + 1)) (w := .int (nI (i + 1))) (jb_vI (nI_add _ 1)) ?_
          refine jb_iaload (pc' := 48) (i9 := (i + 1)) (f := nums) dX10_gatherLines_47 rfl (jb_ix_nI (by omega)) (by omega) rfl ?_
          refine jb_top (v := .int (nums (i + 1))) (w := .int (nI v)) (jb_vI ev) ?_
          refine jb_iconst (pc' := 49) 0 dX10_gatherLines_48 (by decide) rfl ?_
          refine jb_sipush (pc' := 52) 999 dX10_gatherLines_49 (by decide) rfl ?_
          refine jb_callSN (pc' := 55) (As := [.int (nI v), .int 0, .int 999]) (a2 := 0) (b2 := 0) wv_X10_56 dX10_gatherLines_52 (c_isOutLG v 0 999 (by omega) (by omega) (by omega)) rfl ⟨by decide, Nat.le_of_eq (Nat.zero_add _), Nat.le_of_eq (Nat.zero_add _)⟩ (Nat.le_of_ble_eq_true rfl) rfl (fun r h9 hq => ?_)
          obtain ⟨rfl, rfl⟩ := hq
          show jb_J _ RX10 cX10_gatherLines 2 (Option.none : Option Jvm.ClassFile.FieldType) false 1 0 0 55 [some (.ref 81), some (.int (nI i))] [.int 0] [s0, s1, s2, s3, s4, s5, jb_sht81 Is nums Js Ws, s7, s8, s9, s10, s11] _
          refine jb_if_eq (tgt := 61) (pc' := 58) dX10_gatherLines_55 (by decide) rfl (fun _ => ?_) (fun z => absurd (by decide) z)
          refine jb_aload_n (pc' := 62) dX10_gatherLines_61 rfl rfl ?_
          refine gf_X10_37 (pc' := 65) (v := .ref 86) dX10_gatherLines_62 rfl rfl rfl ?_
          refine jb_aload_n (pc' := 66) dX10_gatherLines_65 rfl rfl ?_
          refine gf_X10_34 (pc' := 69) (v := .int (Js 1)) dX10_gatherLines_66 rfl rfl rfl ?_
          refine jb_top (v := .int (Js 1)) (w := .int (nI acc.length)) (jb_vI p1) ?_
          refine jb_aload_n (pc' := 70) dX10_gatherLines_69 rfl rfl ?_
          refine gf_X10_18 (pc' := 73) (v := .ref 82) dX10_gatherLines_70 rfl rfl rfl ?_
          refine jb_iload_n (pc' := 74) dX10_gatherLines_73 rfl rfl ?_
          refine jb_iaload (pc' := 75) (i9 := i) (f := nums) dX10_gatherLines_74 rfl (jb_ix_nI (by omega)) (by omega) rfl ?_
          refine jb_top (v := .int (nums i)) (w := .int (nI u)) (jb_vI eu) ?_
          refine jb_iastore (pc' := 76) (i9 := acc.length) (f := (Ws 3)) (h' := [s0, s1, s2, s3, s4, s5, jb_sht81 Is nums Js (va_up Ws 3 (upd (Ws 3) acc.length (nI u))), s7, s8, s9, s10, s11]) dX10_gatherLines_75 rfl (jb_ix_nI (by omega)) (by omega) rfl rfl ?_
          refine jb_aload_n (pc' := 77) dX10_gatherLines_76 rfl rfl ?_
          refine gf_X10_40 (pc' := 80) (v := .ref 87) dX10_gatherLines_77 rfl rfl rfl ?_
          refine jb_aload_n (pc' := 81) dX10_gatherLines_80 rfl rfl ?_
          refine gf_X10_34 (pc' := 84) (v := .int (Js 1)) dX10_gatherLines_81 rfl rfl rfl ?_
          refine jb_top (v := .int (Js 1)) (w := .int (nI acc.length)) (jb_vI p1) ?_
          refine jb_aload_n (pc' := 85) dX10_gatherLines_84 rfl rfl ?_
          refine gf_X10_18 (pc' := 88) (v := .ref 82) dX10_gatherLines_85 rfl rfl rfl ?_
          refine jb_iload_n (pc' := 89) dX10_gatherLines_88 rfl rfl ?_
          refine jb_iconst (pc' := 90) 1 dX10_gatherLines_89 (by decide) rfl ?_
          refine jb_iadd (pc' := 91) dX10_gatherLines_90 rfl ?_
          refine jb_top (v := .int ((nI i) + 1)) (w := .int (nI (i + 1))) (jb_vI (nI_add _ 1)) ?_
          refine jb_iaload (pc' := 92) (i9 := (i + 1)) (f := nums) dX10_gatherLines_91 rfl (jb_ix_nI (by omega)) (by omega) rfl ?_
          refine jb_top (v := .int (nums (i + 1))) (w := .int (nI v)) (jb_vI ev) ?_
          refine jb_iastore (pc' := 93) (i9 := acc.length) (f := (Ws 4)) (h' := [s0, s1, s2, s3, s4, s5, jb_sht81 Is nums Js (va_up (va_up Ws 3 (upd (Ws 3) acc.length (nI u))) 4 (upd (Ws 4) acc.length (nI v))), s7, s8, s9, s10, s11]) dX10_gatherLines_92 rfl (jb_ix_nI (by omega)) (by omega) rfl rfl ?_
          refine jb_aload_n (pc' := 94) dX10_gatherLines_93 rfl rfl ?_
          refine jb_dup (pc' := 95) dX10_gatherLines_94 rfl rfl ?_
          refine gf_X10_34 (pc' := 98) (v := .int (Js 1)) dX10_gatherLines_95 rfl rfl rfl ?_
          refine jb_top (v := .int (Js 1)) (w := .int (nI acc.length)) (jb_vI p1) ?_
          refine jb_iconst (pc' := 99) 1 dX10_gatherLines_98 (by decide) rfl ?_
          refine jb_iadd (pc' := 100) dX10_gatherLines_99 rfl ?_
          refine jb_top (v := .int ((nI acc.length) + 1)) (w := .int (nI (acc.length + 1))) (jb_vI (nI_add _ 1)) ?_
          refine pf_X10_34 (pc' := 103) (h' := [s0, s1, s2, s3, s4, s5, jb_sht81 Is nums (upd Js 1 (nI (acc.length + 1))) (va_up (va_up Ws 3 (upd (Ws 3) acc.length (nI u))) 4 (upd (Ws 4) acc.length (nI v))), s7, s8, s9, s10, s11]) dX10_gatherLines_100 (fun _ => ⟨rfl, rfl⟩) rfl (Nat.le_of_ble_eq_true rfl) rfl rfl ?_
          refine jb_iinc_ (pc' := 106) (nI (i + 2)) dX10_gatherLines_103 (by decide) rfl (jb_inc i 2) (jb_at1 rfl) rfl ?_
          refine jb_goto (pc' := 7) dX10_gatherLines_106 (by decide) ?_
          refine ih (i + 2) (acc ++ [(u, v)]) (upd Js 1 (nI (acc.length + 1))) (va_up (va_up Ws 3 (upd (Ws 3) acc.length (nI u))) 4 (upd (Ws 4) acc.length (nI v))) (by omega) (by omega) ⟨?_, p2.app hl hu2 hv2, fun j hj => ?_⟩
          · rw [List.length_append]; rfl
          · rw [List.length_append] at hj
            have hj2 : j < acc.length + 1 := hj
            show upd (Ws 3) acc.length (nI u) j = _ ∧ upd (Ws 4) acc.length (nI v) j = _
            by_cases e : j = acc.length
            · rw [e, jy_gde]; exact ⟨jb_uee, jb_uee⟩
            · rw [jb_une e, jb_une e, jy_gda (by omega)]; exact p3 j (by omega)
        · rw [if_pos ⟨hi1, hl⟩, if_neg hv] at eG
          rw [eG]
          show jb_J _ RX10 cX10_gatherLines 2 (Option.none : Option Jvm.ClassFile.FieldType) false 1 0 0 7 [some (.ref 81), some (.int (nI i))] [] [s0, s1, s2, s3, s4, s5, jb_sht81 Is nums Js Ws, s7, s8, s9, s10, s11] _
          refine jb_iload_n (pc' := 8) dX10_gatherLines_7 rfl rfl ?_
          refine jb_iconst (pc' := 9) 1 dX10_gatherLines_8 (by decide) rfl ?_
          refine jb_iadd (pc' := 10) dX10_gatherLines_9 rfl ?_
          refine jb_top (v := .int ((nI i) + 1)) (w := .int (nI (i + 1))) (jb_vI (nI_add _ 1)) ?_
          refine jb_aload_n (pc' := 11) dX10_gatherLines_10 rfl rfl ?_
          refine gf_X10_15 (pc' := 14) (v := .int (Is 1)) dX10_gatherLines_11 rfl rfl rfl ?_
          refine jb_top (v := .int (Is 1)) (w := .int (nI zs)) (jb_vI h1s) ?_
          refine jb_icmp_ge (tgt := 109) (pc' := 17) dX10_gatherLines_14 (by decide) rfl (fun z => absurd z (nI_ge (a := i + 1) (b := zs) (by omega) (by omega))) (fun _ => ?_)
          refine jb_aload_n (pc' := 18) dX10_gatherLines_17 rfl rfl ?_
          refine gf_X10_34 (pc' := 21) (v := .int (Js 1)) dX10_gatherLines_18 rfl rfl rfl ?_
          refine jb_top (v := .int (Js 1)) (w := .int (nI acc.length)) (jb_vI p1) ?_
          refine jb_bipush (pc' := 23) 12 dX10_gatherLines_21 (by decide) rfl ?_
          refine jb_icmp_ge (tgt := 109) (pc' := 26) dX10_gatherLines_23 (by decide) rfl (fun z => absurd z (nI_ge (a := acc.length) (b := 12) (by omega) (by omega))) (fun _ => ?_)
          refine jb_aload_n (pc' := 27) dX10_gatherLines_26 rfl rfl ?_
          refine gf_X10_18 (pc' := 30) (v := .ref 82) dX10_gatherLines_27 rfl rfl rfl ?_
          refine jb_iload_n (pc' := 31) dX10_gatherLines_30 rfl rfl ?_
          refine jb_iaload (pc' := 32) (i9 := i) (f := nums) dX10_gatherLines_31 rfl (jb_ix_nI (by omega)) (by omega) rfl ?_
          refine jb_iconst (pc' := 33) 0 dX10_gatherLines_32 (by decide) rfl ?_
          refine jb_iconst (pc' := 34) 1 dX10_gatherLines_33 (by decide) rfl ?_
          refine jb_callSN (pc' := 37) (As := [.int (nums i), .int 0, .int 1]) (a2 := 0) (b2 := 0) wv_X10_56 dX10_gatherLines_34 (c_isOutL (nums i) 0 1 (by omega) (by omega)) rfl ⟨by decide, Nat.le_of_eq (Nat.zero_add _), Nat.le_of_eq (Nat.zero_add _)⟩ (Nat.le_of_ble_eq_true rfl) rfl (fun r h9 hq => ?_)
          rcases hq with ⟨rfl, ⟨o3, rfl⟩ | ⟨o3, rfl⟩⟩
          · show jb_J _ RX10 cX10_gatherLines 2 (Option.none : Option Jvm.ClassFile.FieldType) false 1 0 0 37 [some (.ref 81), some (.int (nI i))] [.int 1] [s0, s1, s2, s3, s4, s5, jb_sht81 Is nums Js Ws, s7, s8, s9, s10, s11] _
            refine jb_if_ne (tgt := 103) (pc' := 40) dX10_gatherLines_37 (by decide) rfl (fun _ => ?_) (fun z => absurd z (by decide))
            refine jb_iinc_ (pc' := 106) (nI (i + 2)) dX10_gatherLines_103 (by decide) rfl (jb_inc i 2) (jb_at1 rfl) rfl ?_
            refine jb_goto (pc' := 7) dX10_gatherLines_106 (by decide) ?_
            exact ih (i + 2) acc Js Ws (by omega) (by omega) ⟨p1, p2, p3⟩
          · show jb_J _ RX10 cX10_gatherLines 2 (Option.none : Option Jvm.ClassFile.FieldType) false 1 0 0 37 [some (.ref 81), some (.int (nI i))] [.int 0] [s0, s1, s2, s3, s4, s5, jb_sht81 Is nums Js Ws, s7, s8, s9, s10, s11] _
            refine jb_if_ne (tgt := 103) (pc' := 40) dX10_gatherLines_37 (by decide) rfl (fun z => absurd (by decide) z) (fun _ => ?_)
            refine jb_aload_n (pc' := 41) dX10_gatherLines_40 rfl rfl ?_
            refine gf_X10_18 (pc' := 44) (v := .ref 82) dX10_gatherLines_41 rfl rfl rfl ?_
            refine jb_iload_n (pc' := 45) dX10_gatherLines_44 rfl rfl ?_
            refine jb_iconst (pc' := 46) 1 dX10_gatherLines_45 (by decide) rfl ?_
            refine jb_iadd (pc' := 47) dX10_gatherLines_46 rfl ?_
            refine jb_top (v := .int ((nI i) + 1)) (w := .int (nI (i + 1))) (jb_vI (nI_add _ 1)) ?_
            refine jb_iaload (pc' := 48) (i9 := (i + 1)) (f := nums) dX10_gatherLines_47 rfl (jb_ix_nI (by omega)) (by omega) rfl ?_
            refine jb_iconst (pc' := 49) 0 dX10_gatherLines_48 (by decide) rfl ?_
            refine jb_sipush (pc' := 52) 999 dX10_gatherLines_49 (by decide) rfl ?_
            refine jb_callSN (pc' := 55) (As := [.int (nums (i + 1)), .int 0, .int 999]) (a2 := 0) (b2 := 0) wv_X10_56 dX10_gatherLines_52 (c_isOutL (nums (i + 1)) 0 999 (by omega) (by omega)) rfl ⟨by decide, Nat.le_of_eq (Nat.zero_add _), Nat.le_of_eq (Nat.zero_add _)⟩ (Nat.le_of_ble_eq_true rfl) rfl (fun r h9 hq => ?_)
            rcases hq with ⟨rfl, ⟨o7, rfl⟩ | ⟨o7, rfl⟩⟩
            · show jb_J _ RX10 cX10_gatherLines 2 (Option.none : Option Jvm.ClassFile.FieldType) false 1 0 0 55 [some (.ref 81), some (.int (nI i))] [.int 1] [s0, s1, s2, s3, s4, s5, jb_sht81 Is nums Js Ws, s7, s8, s9, s10, s11] _
              refine jb_if_eq (tgt := 61) (pc' := 58) dX10_gatherLines_55 (by decide) rfl (fun z => absurd z (by decide)) (fun _ => ?_)
              refine jb_goto (pc' := 103) dX10_gatherLines_58 (by decide) ?_
              refine jb_iinc_ (pc' := 106) (nI (i + 2)) dX10_gatherLines_103 (by decide) rfl (jb_inc i 2) (jb_at1 rfl) rfl ?_
              refine jb_goto (pc' := 7) dX10_gatherLines_106 (by decide) ?_
              exact ih (i + 2) acc Js Ws (by omega) (by omega) ⟨p1, p2, p3⟩
            · exact absurd ⟨(jy_rng (n := 1) (by decide)).mp (by assumption), (jy_rng (n := 999) (by decide)).mp (by assumption)⟩ hv
      · rw [if_neg (fun z => hl z.2)] at eG
        rw [eG]
        show jb_J _ RX10 cX10_gatherLines 2 (Option.none : Option Jvm.ClassFile.FieldType) false 1 0 0 7 [some (.ref 81), some (.int (nI i))] [] [s0, s1, s2, s3, s4, s5, jb_sht81 Is nums Js Ws, s7, s8, s9, s10, s11] _
        refine jb_iload_n (pc' := 8) dX10_gatherLines_7 rfl rfl ?_
        refine jb_iconst (pc' := 9) 1 dX10_gatherLines_8 (by decide) rfl ?_
        refine jb_iadd (pc' := 10) dX10_gatherLines_9 rfl ?_
        refine jb_top (v := .int ((nI i) + 1)) (w := .int (nI (i + 1))) (jb_vI (nI_add _ 1)) ?_
        refine jb_aload_n (pc' := 11) dX10_gatherLines_10 rfl rfl ?_
        refine gf_X10_15 (pc' := 14) (v := .int (Is 1)) dX10_gatherLines_11 rfl rfl rfl ?_
        refine jb_top (v := .int (Is 1)) (w := .int (nI zs)) (jb_vI h1s) ?_
        refine jb_icmp_ge (tgt := 109) (pc' := 17) dX10_gatherLines_14 (by decide) rfl (fun z => absurd z (nI_ge (a := i + 1) (b := zs) (by omega) (by omega))) (fun _ => ?_)
        refine jb_aload_n (pc' := 18) dX10_gatherLines_17 rfl rfl ?_
        refine gf_X10_34 (pc' := 21) (v := .int (Js 1)) dX10_gatherLines_18 rfl rfl rfl ?_
        refine jb_top (v := .int (Js 1)) (w := .int (nI acc.length)) (jb_vI p1) ?_
        refine jb_bipush (pc' := 23) 12 dX10_gatherLines_21 (by decide) rfl ?_
        refine jb_icmp_ge (tgt := 109) (pc' := 26) dX10_gatherLines_23 (by decide) rfl (fun _ => ?_) (fun z => absurd (nI_le (a := 12) (b := acc.length) (by omega) (by omega)) z)
        refine jb_vret dX10_gatherLines_109 ?_
        exact ⟨rfl, Js, Ws, ⟨p1, p2, p3⟩, rfl⟩
    · rw [if_neg (fun z => hi1 z.1)] at eG
      rw [eG]
      show jb_J _ RX10 cX10_gatherLines 2 (Option.none : Option Jvm.ClassFile.FieldType) false 1 0 0 7 [some (.ref 81), some (.int (nI i))] [] [s0, s1, s2, s3, s4, s5, jb_sht81 Is nums Js Ws, s7, s8, s9, s10, s11] _
      refine jb_iload_n (pc' := 8) dX10_gatherLines_7 rfl rfl ?_
      refine jb_iconst (pc' := 9) 1 dX10_gatherLines_8 (by decide) rfl ?_
      refine jb_iadd (pc' := 10) dX10_gatherLines_9 rfl ?_
      refine jb_top (v := .int ((nI i) + 1)) (w := .int (nI (i + 1))) (jb_vI (nI_add _ 1)) ?_
      refine jb_aload_n (pc' := 11) dX10_gatherLines_10 rfl rfl ?_
      refine gf_X10_15 (pc' := 14) (v := .int (Is 1)) dX10_gatherLines_11 rfl rfl rfl ?_
      refine jb_top (v := .int (Is 1)) (w := .int (nI zs)) (jb_vI h1s) ?_
      refine jb_icmp_ge (tgt := 109) (pc' := 17) dX10_gatherLines_14 (by decide) rfl (fun _ => ?_) (fun z => absurd (nI_le (a := zs) (b := i + 1) (by omega) (by omega)) z)
      refine jb_vret dX10_gatherLines_109 ?_
      exact ⟨rfl, Js, Ws, ⟨p1, p2, p3⟩, rfl⟩
set_option maxRecDepth 100000 in
set_option maxHeartbeats 4000000 in
theorem c_gatherL_1 {sc : Nat × (Nat → Int32)} {s0 s1 s2 s3 s4 s5 s7 s8 s9 s10 s11 : List va_E} (Is nums Js : Nat → Int32) (Ws : Nat → Nat → Int32) (zs : Nat) (h1s : Is 1 = nI zs) (hzs : zs ≤ 40) : jb_C sc yX10_gatherLines cX10_gatherLines 2 (Option.none : Option Jvm.ClassFile.FieldType) 1 0 0 [.ref 81] [s0, s1, s2, s3, s4, s5, jb_sht81 Is nums Js Ws, s7, s8, s9, s10, s11] (fun r h9 => r = none ∧ ∃ (J9 : Nat → Int32) (W9 : Nat → Nat → Int32), (J9 1 = nI (jy_ga nums zs zs 0 []).length ∧ jy_in (jy_ga nums zs zs 0 []) ∧ (∀ j, j < (jy_ga nums zs zs 0 []).length → W9 3 j = nI ((jy_ga nums zs zs 0 []).getD j (0, 0)).1 ∧ W9 4 j = nI ((jy_ga nums zs zs 0 []).getD j (0, 0)).2)) ∧ h9 = [s0, s1, s2, s3, s4, s5, jb_sht81 Is nums J9 W9, s7, s8, s9, s10, s11]) := by
  refine jb_CofJ (ini := false) (by decide +kernel) (fun h => by cases h) (Nat.le_of_ble_eq_true rfl) ?_
  show jb_J sc RX10 cX10_gatherLines 2 (Option.none : Option Jvm.ClassFile.FieldType) false 1 0 0 0 [some (.ref 81), none] [] [s0, s1, s2, s3, s4, s5, jb_sht81 Is nums Js Ws, s7, s8, s9, s10, s11] _
  refine jb_aload_n (pc' := 1) dX10_gatherLines_0 rfl rfl ?_
  refine jb_iconst (pc' := 2) 0 dX10_gatherLines_1 (by decide) rfl ?_
  refine pf_X10_34 (pc' := 5) (h' := [s0, s1, s2, s3, s4, s5, jb_sht81 Is nums (upd Js 1 0) Ws, s7, s8, s9, s10, s11]) dX10_gatherLines_2 (fun _ => ⟨rfl, rfl⟩) rfl (Nat.le_of_ble_eq_true rfl) rfl rfl ?_
  refine jb_iconst (pc' := 6) 0 dX10_gatherLines_5 (by decide) rfl ?_
  refine jb_istore_n_ (pc' := 7) dX10_gatherLines_6 (by decide) (jb_at1 rfl) rfl ?_
  exact l_gatherL_1 Is nums zs h1s hzs zs 0 [] (upd Js 1 0) Ws (by omega) (by omega) ⟨rfl, ⟨by decide, fun j hj => absurd hj (Nat.not_lt_zero _)⟩, fun j hj => absurd hj (Nat.not_lt_zero _)⟩
set_option maxRecDepth 100000 in
set_option maxHeartbeats 4000000 in
theorem c_secondOn0_1 {sc : Nat × (Nat → Int32)} {s0 s1 s2 s3 s4 s5 s7 s8 s9 s10 s11 : List va_E} (Is nums Js : Nat → Int32) (Ws : Nat → Nat → Int32) (ls : List (Nat × Nat)) (g : Nat) (hg : g ≤ 40) (hln : Js 1 = nI ls.length ∧ jy_in ls ∧ (∀ j, j < ls.length → Ws 3 j = nI (ls.getD j (0, 0)).1 ∧ Ws 4 j = nI (ls.getD j (0, 0)).2)) (a : Nat) (ha : a < ls.length) : jb_C sc yX10_secondOn cX10_secondOn 4 (Option.some .int) 0 0 0 [.ref 81, .int 0, .int (nI a), .int (nI g)] [s0, s1, s2, s3, s4, s5, jb_sht81 Is nums Js Ws, s7, s8, s9, s10, s11] (fun r h9 => r = some (.int (nI (jy_on 0 g (ls.getD a (0, 0))))) ∧ [s0, s1, s2, s3, s4, s5, jb_sht81 Is nums Js Ws, s7, s8, s9, s10, s11] = h9) := by
  refine jb_CofJ (ini := false) (by decide +kernel) (fun h => by cases h) (Nat.le_of_ble_eq_true rfl) ?_
  show jb_J sc RX10 cX10_secondOn 4 (Option.some .int) false 0 0 0 0 [some (.ref 81), some (.int 0), some (.int (nI a)), some (.int (nI g))] [] [s0, s1, s2, s3, s4, s5, jb_sht81 Is nums Js Ws, s7, s8, s9, s10, s11] _
  obtain ⟨p1, p2, p3⟩ := hln
  have b1 := p2.1
  have b2 := p2.2 a ha
  refine jb_aload_n (pc' := 1) dX10_secondOn_0 rfl rfl ?_
  refine gf_X10_37 (pc' := 4) (v := .ref 86) dX10_secondOn_1 rfl rfl rfl ?_
  refine jb_iload_n (pc' := 5) dX10_secondOn_4 rfl rfl ?_
  refine jb_iaload (pc' := 6) (i9 := a) (f := (Ws 3)) dX10_secondOn_5 rfl (jb_ix_nI (by omega)) (by omega) rfl ?_
  refine jb_top (v := .int ((Ws 3) a)) (w := .int (nI (ls.getD a (0, 0)).1)) (jb_vI (p3 a ha).1) ?_
  refine jb_iload_n (pc' := 7) dX10_secondOn_6 rfl rfl ?_
  refine jb_icmp_ne (tgt := 19) (pc' := 10) dX10_secondOn_7 (by decide) rfl (fun hcc => ?_) (fun hcc => ?_)
  · have hcc : ¬ (ls.getD a (0, 0)).1 = 0 := fun z => hcc (by rw [z]; rfl)
    refine jb_aload_n (pc' := 20) dX10_secondOn_19 rfl rfl ?_
    refine gf_X10_40 (pc' := 23) (v := .ref 87) dX10_secondOn_20 rfl rfl rfl ?_
    refine jb_iload_n (pc' := 24) dX10_secondOn_23 rfl rfl ?_
    refine jb_iaload (pc' := 25) (i9 := a) (f := (Ws 4)) dX10_secondOn_24 rfl (jb_ix_nI (by omega)) (by omega) rfl ?_
    refine jb_top (v := .int ((Ws 4) a)) (w := .int (nI (ls.getD a (0, 0)).2)) (jb_vI (p3 a ha).2) ?_
    refine jb_iload_n (pc' := 26) dX10_secondOn_25 rfl rfl ?_
    refine jb_iadd (pc' := 27) dX10_secondOn_26 rfl ?_
    refine jb_top (v := .int ((nI (ls.getD a (0, 0)).2) + (nI g))) (w := .int (nI ((ls.getD a (0, 0)).2 + g))) (jb_vI (nI_add _ _)) ?_
    refine jb_iret dX10_secondOn_27 rfl ?_
    refine ⟨congrArg (fun q => some (Value.int (nI q))) ?_, rfl⟩
    unfold jy_on
    first | exact (if_pos (by omega)).symm | exact (if_neg (by omega)).symm
  · have hcc : (ls.getD a (0, 0)).1 = 0 := (nI_eq (a := (ls.getD a (0, 0)).1) (b := 0) (by omega) (by omega)).mp hcc
    refine jb_aload_n (pc' := 11) dX10_secondOn_10 rfl rfl ?_
    refine gf_X10_40 (pc' := 14) (v := .ref 87) dX10_secondOn_11 rfl rfl rfl ?_
    refine jb_iload_n (pc' := 15) dX10_secondOn_14 rfl rfl ?_
    refine jb_iaload (pc' := 16) (i9 := a) (f := (Ws 4)) dX10_secondOn_15 rfl (jb_ix_nI (by omega)) (by omega) rfl ?_
    refine jb_top (v := .int ((Ws 4) a)) (w := .int (nI (ls.getD a (0, 0)).2)) (jb_vI (p3 a ha).2) ?_
    refine jb_goto (pc' := 27) dX10_secondOn_16 (by decide) ?_
    refine jb_iret dX10_secondOn_27 rfl ?_
    refine ⟨congrArg (fun q => some (Value.int (nI q))) ?_, rfl⟩
    unfold jy_on
    first | exact (if_pos (by omega)).symm | exact (if_neg (by omega)).symm
set_option maxRecDepth 100000 in
set_option maxHeartbeats 4000000 in
theorem c_secondOn1_1 {sc : Nat × (Nat → Int32)} {s0 s1 s2 s3 s4 s5 s7 s8 s9 s10 s11 : List va_E} (Is nums Js : Nat → Int32) (Ws : Nat → Nat → Int32) (ls : List (Nat × Nat)) (g : Nat) (hg : g ≤ 40) (hln : Js 1 = nI ls.length ∧ jy_in ls ∧ (∀ j, j < ls.length → Ws 3 j = nI (ls.getD j (0, 0)).1 ∧ Ws 4 j = nI (ls.getD j (0, 0)).2)) (a : Nat) (ha : a < ls.length) : jb_C sc yX10_secondOn cX10_secondOn 4 (Option.some .int) 0 0 0 [.ref 81, .int 1, .int (nI a), .int (nI g)] [s0, s1, s2, s3, s4, s5, jb_sht81 Is nums Js Ws, s7, s8, s9, s10, s11] (fun r h9 => r = some (.int (nI (jy_on 1 g (ls.getD a (0, 0))))) ∧ [s0, s1, s2, s3, s4, s5, jb_sht81 Is nums Js Ws, s7, s8, s9, s10, s11] = h9) := by
  refine jb_CofJ (ini := false) (by decide +kernel) (fun h => by cases h) (Nat.le_of_ble_eq_true rfl) ?_
  show jb_J sc RX10 cX10_secondOn 4 (Option.some .int) false 0 0 0 0 [some (.ref 81), some (.int 1), some (.int (nI a)), some (.int (nI g))] [] [s0, s1, s2, s3, s4, s5, jb_sht81 Is nums Js Ws, s7, s8, s9, s10, s11] _
  obtain ⟨p1, p2, p3⟩ := hln
  have b1 := p2.1
  have b2 := p2.2 a ha
  refine jb_aload_n (pc' := 1) dX10_secondOn_0 rfl rfl ?_
  refine gf_X10_37 (pc' := 4) (v := .ref 86) dX10_secondOn_1 rfl rfl rfl ?_
  refine jb_iload_n (pc' := 5) dX10_secondOn_4 rfl rfl ?_
  refine jb_iaload (pc' := 6) (i9 := a) (f := (Ws 3)) dX10_secondOn_5 rfl (jb_ix_nI (by omega)) (by omega) rfl ?_
  refine jb_top (v := .int ((Ws 3) a)) (w := .int (nI (ls.getD a (0, 0)).1)) (jb_vI (p3 a ha).1) ?_
  refine jb_iload_n (pc' := 7) dX10_secondOn_6 rfl rfl ?_
  refine jb_icmp_ne (tgt := 19) (pc' := 10) dX10_secondOn_7 (by decide) rfl (fun hcc => ?_) (fun hcc => ?_)
  · have hcc : ¬ (ls.getD a (0, 0)).1 = 1 := fun z => hcc (by rw [z]; rfl)
    refine jb_aload_n (pc' := 20) dX10_secondOn_19 rfl rfl ?_
    refine gf_X10_40 (pc' := 23) (v := .ref 87) dX10_secondOn_20 rfl rfl rfl ?_
    refine jb_iload_n (pc' := 24) dX10_secondOn_23 rfl rfl ?_
    refine jb_iaload (pc' := 25) (i9 := a) (f := (Ws 4)) dX10_secondOn_24 rfl (jb_ix_nI (by omega)) (by omega) rfl ?_
    refine jb_top (v := .int ((Ws 4) a)) (w := .int (nI (ls.getD a (0, 0)).2)) (jb_vI (p3 a ha).2) ?_
    refine jb_iload_n (pc' := 26) dX10_secondOn_25 rfl rfl ?_
    refine jb_iadd (pc' := 27) dX10_secondOn_26 rfl ?_
    refine jb_top (v := .int ((nI (ls.getD a (0, 0)).2) + (nI g))) (w := .int (nI ((ls.getD a (0, 0)).2 + g))) (jb_vI (nI_add _ _)) ?_
    refine jb_iret dX10_secondOn_27 rfl ?_
    refine ⟨congrArg (fun q => some (Value.int (nI q))) ?_, rfl⟩
    unfold jy_on
    first | exact (if_pos (by omega)).symm | exact (if_neg (by omega)).symm
  · have hcc : (ls.getD a (0, 0)).1 = 1 := (nI_eq (a := (ls.getD a (0, 0)).1) (b := 1) (by omega) (by omega)).mp hcc
    refine jb_aload_n (pc' := 11) dX10_secondOn_10 rfl rfl ?_
    refine gf_X10_40 (pc' := 14) (v := .ref 87) dX10_secondOn_11 rfl rfl rfl ?_
    refine jb_iload_n (pc' := 15) dX10_secondOn_14 rfl rfl ?_
    refine jb_iaload (pc' := 16) (i9 := a) (f := (Ws 4)) dX10_secondOn_15 rfl (jb_ix_nI (by omega)) (by omega) rfl ?_
    refine jb_top (v := .int ((Ws 4) a)) (w := .int (nI (ls.getD a (0, 0)).2)) (jb_vI (p3 a ha).2) ?_
    refine jb_goto (pc' := 27) dX10_secondOn_16 (by decide) ?_
    refine jb_iret dX10_secondOn_27 rfl ?_
    refine ⟨congrArg (fun q => some (Value.int (nI q))) ?_, rfl⟩
    unfold jy_on
    first | exact (if_pos (by omega)).symm | exact (if_neg (by omega)).symm
set_option maxRecDepth 100000 in
set_option maxHeartbeats 4000000 in
theorem l_fg1_1 {sc : Nat × (Nat → Int32)} {s0 s1 s2 s3 s4 s5 s7 s8 s9 s10 s11 : List va_E} (Is nums Js : Nat → Int32) (Ws : Nat → Nat → Int32) (ls : List (Nat × Nat)) (g : Nat) (hg : g ≤ 40) (hln : Js 1 = nI ls.length ∧ jy_in ls ∧ (∀ j, j < ls.length → Ws 3 j = nI (ls.getD j (0, 0)).1 ∧ Ws 4 j = nI (ls.getD j (0, 0)).2)) (Q : Option Value → jb_H → Prop) (a : Nat) (ha : a < ls.length) (hret : ∀ b, b < a → jy_k g (ls.getD a (0, 0)) (ls.getD b (0, 0)) → Q (some (.int 0)) [s0, s1, s2, s3, s4, s5, jb_sht81 Is nums Js Ws, s7, s8, s9, s10, s11]) (hgo : ∀ x3, (∀ b, b < a → ¬ jy_k g (ls.getD a (0, 0)) (ls.getD b (0, 0))) → jb_J sc RX10 cX10_fitsGap 4 (Option.some .boolean) false 1 0 0 59 [some (.ref 81), some (.int (nI g)), some (.int (nI a)), x3] [] [s0, s1, s2, s3, s4, s5, jb_sht81 Is nums Js Ws, s7, s8, s9, s10, s11] Q) : ∀ (n b : Nat), b + n = a → (∀ c, c < b → ¬ jy_k g (ls.getD a (0, 0)) (ls.getD c (0, 0))) → jb_J sc RX10 cX10_fitsGap 4 (Option.some .boolean) false 1 0 0 12 [some (.ref 81), some (.int (nI g)), some (.int (nI a)), some (.int (nI b))] [] [s0, s1, s2, s3, s4, s5, jb_sht81 Is nums Js Ws, s7, s8, s9, s10, s11] Q := by
  have b1 := hln.2.1.1
  intro n
  induction n with
  | zero =>
    intro b hb hno
    show jb_J _ RX10 cX10_fitsGap 4 (Option.some .boolean) false 1 0 0 12 [some (.ref 81), some (.int (nI g)), some (.int (nI a)), some (.int (nI b))] [] [s0, s1, s2, s3, s4, s5, jb_sht81 Is nums Js Ws, s7, s8, s9, s10, s11] _
    refine jb_iload_n (pc' := 13) dX10_fitsGap_12 rfl rfl ?_
    refine jb_iload_n (pc' := 14) dX10_fitsGap_13 rfl rfl ?_
    refine jb_icmp_ge (tgt := 59) (pc' := 17) dX10_fitsGap_14 (by decide) rfl (fun _ => ?_) (fun z => absurd (nI_le (a := a) (b := b) (by omega) (by omega)) z)
    exact hgo _ (fun c hc => hno c (by omega))
  | succ n ih =>
    intro b hb hno
    have xa := hln.2.1.2 a ha
    have xb := hln.2.1.2 b (by omega)
    have o0 := jy_on_le (c := 0) xa.2 hg
    have u0 := jy_on_le (c := 0) xb.2 hg
    have o1 := jy_on_le (c := 1) xa.2 hg
    have u1 := jy_on_le (c := 1) xb.2 hg
    show jb_J _ RX10 cX10_fitsGap 4 (Option.some .boolean) false 1 0 0 12 [some (.ref 81), some (.int (nI g)), some (.int (nI a)), some (.int (nI b))] [] [s0, s1, s2, s3, s4, s5, jb_sht81 Is nums Js Ws, s7, s8, s9, s10, s11] _
    refine jb_iload_n (pc' := 13) dX10_fitsGap_12 rfl rfl ?_
    refine jb_iload_n (pc' := 14) dX10_fitsGap_13 rfl rfl ?_
    refine jb_icmp_ge (tgt := 59) (pc' := 17) dX10_fitsGap_14 (by decide) rfl (fun z => absurd z (nI_ge (a := b) (b := a) (by omega) (by omega))) (fun _ => ?_)
    refine jb_aload_n (pc' := 18) dX10_fitsGap_17 rfl rfl ?_
    refine jb_iconst (pc' := 19) 0 dX10_fitsGap_18 (by decide) rfl ?_
    refine jb_iload_n (pc' := 20) dX10_fitsGap_19 rfl rfl ?_
    refine jb_iload_n (pc' := 21) dX10_fitsGap_20 rfl rfl ?_
    refine jb_callV (pc' := 24) (ci := 10) (q := 81) (As := [.int 0, .int (nI a), .int (nI g)]) (a2 := 0) (b2 := 0) wv_X10_69 rfl dX10_fitsGap_21 (c_secondOn0_1 Is nums Js Ws ls g hg hln a (by omega)) rfl rfl ⟨by decide, Nat.le_of_eq (Nat.zero_add _), Nat.le_of_eq (Nat.zero_add _)⟩ (Nat.le_of_ble_eq_true rfl) rfl (fun r h9 hq => ?_)
    obtain ⟨rfl, rfl⟩ := hq
    show jb_J _ RX10 cX10_fitsGap 4 (Option.some .boolean) false 1 0 0 24 [some (.ref 81), some (.int (nI g)), some (.int (nI a)), some (.int (nI b))] [.int (nI (jy_on 0 g (ls.getD a (0, 0))))] [s0, s1, s2, s3, s4, s5, jb_sht81 Is nums Js Ws, s7, s8, s9, s10, s11] _
    refine jb_aload_n (pc' := 25) dX10_fitsGap_24 rfl rfl ?_
    refine jb_iconst (pc' := 26) 0 dX10_fitsGap_25 (by decide) rfl ?_
    refine jb_iload_n (pc' := 27) dX10_fitsGap_26 rfl rfl ?_
    refine jb_iload_n (pc' := 28) dX10_fitsGap_27 rfl rfl ?_
    refine jb_callV (pc' := 31) (ci := 10) (q := 81) (As := [.int 0, .int (nI b), .int (nI g)]) (a2 := 0) (b2 := 0) wv_X10_69 rfl dX10_fitsGap_28 (c_secondOn0_1 Is nums Js Ws ls g hg hln b (by omega)) rfl rfl ⟨by decide, Nat.le_of_eq (Nat.zero_add _), Nat.le_of_eq (Nat.zero_add _)⟩ (Nat.le_of_ble_eq_true rfl) rfl (fun r h9 hq => ?_)
    obtain ⟨rfl, rfl⟩ := hq
    show jb_J _ RX10 cX10_fitsGap 4 (Option.some .boolean) false 1 0 0 31 [some (.ref 81), some (.int (nI g)), some (.int (nI a)), some (.int (nI b))] [.int (nI (jy_on 0 g (ls.getD b (0, 0)))), .int (nI (jy_on 0 g (ls.getD a (0, 0))))] [s0, s1, s2, s3, s4, s5, jb_sht81 Is nums Js Ws, s7, s8, s9, s10, s11] _
    refine jb_icmp_eq (tgt := 51) (pc' := 34) dX10_fitsGap_31 (by decide) rfl (fun c2 => ?_) (fun c2 => ?_)
    · have c2 : (jy_on 0 g (ls.getD a (0, 0))) = (jy_on 0 g (ls.getD b (0, 0))) := (nI_eq (a := (jy_on 0 g (ls.getD a (0, 0)))) (b := (jy_on 0 g (ls.getD b (0, 0)))) (by omega) (by omega)).mp c2
      refine jb_iconst (pc' := 52) 0 dX10_fitsGap_51 (by decide) rfl ?_
      refine jb_iret dX10_fitsGap_52 rfl ?_
      exact hret b (by omega) ((jy_cl xa.1 xb.1).mp (by first | exact Or.inl (by assumption) | exact Or.inr (by assumption)))
    · have c2 : ¬ (jy_on 0 g (ls.getD a (0, 0))) = (jy_on 0 g (ls.getD b (0, 0))) := fun z9 => c2 ((nI_eq (a := (jy_on 0 g (ls.getD a (0, 0)))) (b := (jy_on 0 g (ls.getD b (0, 0)))) (by omega) (by omega)).mpr z9)
      refine jb_aload_n (pc' := 35) dX10_fitsGap_34 rfl rfl ?_
      refine jb_iconst (pc' := 36) 1 dX10_fitsGap_35 (by decide) rfl ?_
      refine jb_iload_n (pc' := 37) dX10_fitsGap_36 rfl rfl ?_
      refine jb_iload_n (pc' := 38) dX10_fitsGap_37 rfl rfl ?_
      refine jb_callV (pc' := 41) (ci := 10) (q := 81) (As := [.int 1, .int (nI a), .int (nI g)]) (a2 := 0) (b2 := 0) wv_X10_69 rfl dX10_fitsGap_38 (c_secondOn1_1 Is nums Js Ws ls g hg hln a (by omega)) rfl rfl ⟨by decide, Nat.le_of_eq (Nat.zero_add _), Nat.le_of_eq (Nat.zero_add _)⟩ (Nat.le_of_ble_eq_true rfl) rfl (fun r h9 hq => ?_)
      obtain ⟨rfl, rfl⟩ := hq
      show jb_J _ RX10 cX10_fitsGap 4 (Option.some .boolean) false 1 0 0 41 [some (.ref 81), some (.int (nI g)), some (.int (nI a)), some (.int (nI b))] [.int (nI (jy_on 1 g (ls.getD a (0, 0))))] [s0, s1, s2, s3, s4, s5, jb_sht81 Is nums Js Ws, s7, s8, s9, s10, s11] _
      refine jb_aload_n (pc' := 42) dX10_fitsGap_41 rfl rfl ?_
      refine jb_iconst (pc' := 43) 1 dX10_fitsGap_42 (by decide) rfl ?_
      refine jb_iload_n (pc' := 44) dX10_fitsGap_43 rfl rfl ?_
      refine jb_iload_n (pc' := 45) dX10_fitsGap_44 rfl rfl ?_
      refine jb_callV (pc' := 48) (ci := 10) (q := 81) (As := [.int 1, .int (nI b), .int (nI g)]) (a2 := 0) (b2 := 0) wv_X10_69 rfl dX10_fitsGap_45 (c_secondOn1_1 Is nums Js Ws ls g hg hln b (by omega)) rfl rfl ⟨by decide, Nat.le_of_eq (Nat.zero_add _), Nat.le_of_eq (Nat.zero_add _)⟩ (Nat.le_of_ble_eq_true rfl) rfl (fun r h9 hq => ?_)
      obtain ⟨rfl, rfl⟩ := hq
      show jb_J _ RX10 cX10_fitsGap 4 (Option.some .boolean) false 1 0 0 48 [some (.ref 81), some (.int (nI g)), some (.int (nI a)), some (.int (nI b))] [.int (nI (jy_on 1 g (ls.getD b (0, 0)))), .int (nI (jy_on 1 g (ls.getD a (0, 0))))] [s0, s1, s2, s3, s4, s5, jb_sht81 Is nums Js Ws, s7, s8, s9, s10, s11] _
      refine jb_icmp_ne (tgt := 53) (pc' := 51) dX10_fitsGap_48 (by decide) rfl (fun c3 => ?_) (fun c3 => ?_)
      · have c3 : ¬ (jy_on 1 g (ls.getD a (0, 0))) = (jy_on 1 g (ls.getD b (0, 0))) := fun z9 => c3 ((nI_eq (a := (jy_on 1 g (ls.getD a (0, 0)))) (b := (jy_on 1 g (ls.getD b (0, 0)))) (by omega) (by omega)).mpr z9)
        refine jb_iinc_ (pc' := 56) (nI (b + 1)) dX10_fitsGap_53 (by decide) rfl (jb_inc b 1) (jb_at3 rfl) rfl ?_
        refine jb_goto (pc' := 12) dX10_fitsGap_56 (by decide) ?_
        exact ih (b + 1) (by omega) (fun c hc => by
          by_cases e : c = b
          · rw [e]; exact fun z => ((jy_cl xa.1 xb.1).mpr z).elim (by assumption) (by assumption)
          · exact hno c (by omega))
      · have c3 : (jy_on 1 g (ls.getD a (0, 0))) = (jy_on 1 g (ls.getD b (0, 0))) := (nI_eq (a := (jy_on 1 g (ls.getD a (0, 0)))) (b := (jy_on 1 g (ls.getD b (0, 0)))) (by omega) (by omega)).mp c3
        refine jb_iconst (pc' := 52) 0 dX10_fitsGap_51 (by decide) rfl ?_
        refine jb_iret dX10_fitsGap_52 rfl ?_
        exact hret b (by omega) ((jy_cl xa.1 xb.1).mp (by first | exact Or.inl (by assumption) | exact Or.inr (by assumption)))
set_option maxRecDepth 100000 in
set_option maxHeartbeats 4000000 in
theorem l_fg_1 {sc : Nat × (Nat → Int32)} {s0 s1 s2 s3 s4 s5 s7 s8 s9 s10 s11 : List va_E} (Is nums Js : Nat → Int32) (Ws : Nat → Nat → Int32) (ls : List (Nat × Nat)) (g : Nat) (hg : g ≤ 40) (hln : Js 1 = nI ls.length ∧ jy_in ls ∧ (∀ j, j < ls.length → Ws 3 j = nI (ls.getD j (0, 0)).1 ∧ Ws 4 j = nI (ls.getD j (0, 0)).2)) : ∀ (n a : Nat) (x3 : Option Value), a + n = ls.length → (∀ c b, b < c → c < a → ¬ jy_k g (ls.getD c (0, 0)) (ls.getD b (0, 0))) → jb_J sc RX10 cX10_fitsGap 4 (Option.some .boolean) false 1 0 0 2 [some (.ref 81), some (.int (nI g)), some (.int (nI a)), x3] [] [s0, s1, s2, s3, s4, s5, jb_sht81 Is nums Js Ws, s7, s8, s9, s10, s11] (fun r h9 => [s0, s1, s2, s3, s4, s5, jb_sht81 Is nums Js Ws, s7, s8, s9, s10, s11] = h9 ∧ ((jy_f ls g ∧ r = some (.int 1)) ∨ (¬ jy_f ls g ∧ r = some (.int 0)))) := by
  have b1 := hln.2.1.1
  intro n
  induction n with
  | zero =>
    intro a x3 ha hno
    show jb_J _ RX10 cX10_fitsGap 4 (Option.some .boolean) false 1 0 0 2 [some (.ref 81), some (.int (nI g)), some (.int (nI a)), x3] [] [s0, s1, s2, s3, s4, s5, jb_sht81 Is nums Js Ws, s7, s8, s9, s10, s11] _
    refine jb_iload_n (pc' := 3) dX10_fitsGap_2 rfl rfl ?_
    refine jb_aload_n (pc' := 4) dX10_fitsGap_3 rfl rfl ?_
    refine gf_X10_34 (pc' := 7) (v := .int (Js 1)) dX10_fitsGap_4 rfl rfl rfl ?_
    refine jb_top (v := .int (Js 1)) (w := .int (nI ls.length)) (jb_vI hln.1) ?_
    refine jb_icmp_ge (tgt := 65) (pc' := 10) dX10_fitsGap_7 (by decide) rfl (fun _ => ?_) (fun z => absurd (nI_le (a := ls.length) (b := a) (by omega) (by omega)) z)
    refine jb_iconst (pc' := 66) 1 dX10_fitsGap_65 (by decide) rfl ?_
    refine jb_iret dX10_fitsGap_66 rfl ?_
    exact ⟨rfl, Or.inl ⟨fun c b h1 h2 => hno c b h1 (by omega), rfl⟩⟩
  | succ n ih =>
    intro a x3 ha hno
    show jb_J _ RX10 cX10_fitsGap 4 (Option.some .boolean) false 1 0 0 2 [some (.ref 81), some (.int (nI g)), some (.int (nI a)), x3] [] [s0, s1, s2, s3, s4, s5, jb_sht81 Is nums Js Ws, s7, s8, s9, s10, s11] _
    refine jb_iload_n (pc' := 3) dX10_fitsGap_2 rfl rfl ?_
    refine jb_aload_n (pc' := 4) dX10_fitsGap_3 rfl rfl ?_
    refine gf_X10_34 (pc' := 7) (v := .int (Js 1)) dX10_fitsGap_4 rfl rfl rfl ?_
    refine jb_top (v := .int (Js 1)) (w := .int (nI ls.length)) (jb_vI hln.1) ?_
    refine jb_icmp_ge (tgt := 65) (pc' := 10) dX10_fitsGap_7 (by decide) rfl (fun z => absurd z (nI_ge (a := a) (b := ls.length) (by omega) (by omega))) (fun _ => ?_)
    refine jb_iconst (pc' := 11) 0 dX10_fitsGap_10 (by decide) rfl ?_
    refine jb_istore_n_ (pc' := 12) dX10_fitsGap_11 (by decide) (jb_at3 rfl) rfl ?_
    refine l_fg1_1 Is nums Js Ws ls g hg hln _ a (by omega) (fun b hb z => ⟨rfl, Or.inr ⟨fun q => q a b hb (by omega) z, rfl⟩⟩) (fun x3 hno2 => ?_) a 0 (by omega) (fun c hc => absurd hc (by omega))
    show jb_J _ RX10 cX10_fitsGap 4 (Option.some .boolean) false 1 0 0 59 [some (.ref 81), some (.int (nI g)), some (.int (nI a)), x3] [] [s0, s1, s2, s3, s4, s5, jb_sht81 Is nums Js Ws, s7, s8, s9, s10, s11] _
    refine jb_iinc_ (pc' := 62) (nI (a + 1)) dX10_fitsGap_59 (by decide) rfl (jb_inc a 1) (jb_at2 rfl) rfl ?_
    refine jb_goto (pc' := 2) dX10_fitsGap_62 (by decide) ?_
    exact ih (a + 1) _ (by omega) (fun c b h1 h2 => by
      by_cases e : c = a
      · subst e; exact hno2 b h1
      · exact hno c b h1 (by omega))
set_option maxRecDepth 100000 in
set_option maxHeartbeats 4000000 in
theorem c_fitsGap_1 {sc : Nat × (Nat → Int32)} {s0 s1 s2 s3 s4 s5 s7 s8 s9 s10 s11 : List va_E} (Is nums Js : Nat → Int32) (Ws : Nat → Nat → Int32) (ls : List (Nat × Nat)) (g : Nat) (hg : g ≤ 40) (hln : Js 1 = nI ls.length ∧ jy_in ls ∧ (∀ j, j < ls.length → Ws 3 j = nI (ls.getD j (0, 0)).1 ∧ Ws 4 j = nI (ls.getD j (0, 0)).2)) : jb_C sc yX10_fitsGap cX10_fitsGap 4 (Option.some .boolean) 1 0 0 [.ref 81, .int (nI g)] [s0, s1, s2, s3, s4, s5, jb_sht81 Is nums Js Ws, s7, s8, s9, s10, s11] (fun r h9 => [s0, s1, s2, s3, s4, s5, jb_sht81 Is nums Js Ws, s7, s8, s9, s10, s11] = h9 ∧ ((jy_f ls g ∧ r = some (.int 1)) ∨ (¬ jy_f ls g ∧ r = some (.int 0)))) := by
  refine jb_CofJ (ini := false) (by decide +kernel) (fun h => by cases h) (Nat.le_of_ble_eq_true rfl) ?_
  show jb_J sc RX10 cX10_fitsGap 4 (Option.some .boolean) false 1 0 0 0 [some (.ref 81), some (.int (nI g)), none, none] [] [s0, s1, s2, s3, s4, s5, jb_sht81 Is nums Js Ws, s7, s8, s9, s10, s11] _
  refine jb_iconst (pc' := 1) 0 dX10_fitsGap_0 (by decide) rfl ?_
  refine jb_istore_n_ (pc' := 2) dX10_fitsGap_1 (by decide) (jb_at2 rfl) rfl ?_
  exact l_fg_1 Is nums Js Ws ls g hg hln ls.length 0 _ (by omega) (fun c b h1 h2 => absurd h2 (by omega))
set_option maxRecDepth 100000 in
set_option maxHeartbeats 4000000 in
theorem l_least_1 {sc : Nat × (Nat → Int32)} {s0 s1 s2 s3 s4 s5 s7 s8 s9 s10 s11 : List va_E} (Is nums Js : Nat → Int32) (Ws : Nat → Nat → Int32) (ls : List (Nat × Nat)) (hln : Js 1 = nI ls.length ∧ jy_in ls ∧ (∀ j, j < ls.length → Ws 3 j = nI (ls.getD j (0, 0)).1 ∧ Ws 4 j = nI (ls.getD j (0, 0)).2)) : ∀ (n g : Nat), g + n = 41 → (∀ h, h < g → ¬ jy_f ls h) → jb_J sc RX10 cX10_leastFit 2 (Option.some .int) false 2 0 0 6 [some (.ref 81), some (.int (nI g))] [] [s0, s1, s2, s3, s4, s5, jb_sht81 Is nums Js Ws, s7, s8, s9, s10, s11] (fun r h9 => [s0, s1, s2, s3, s4, s5, jb_sht81 Is nums Js Ws, s7, s8, s9, s10, s11] = h9 ∧ ∃ v, jy_L (jy_f ls) v ∧ r = some (.int v)) := by
  intro n
  induction n with
  | zero =>
    intro g hg hno
    show jb_J _ RX10 cX10_leastFit 2 (Option.some .int) false 2 0 0 6 [some (.ref 81), some (.int (nI g))] [] [s0, s1, s2, s3, s4, s5, jb_sht81 Is nums Js Ws, s7, s8, s9, s10, s11] _
    refine jb_iload_n (pc' := 7) dX10_leastFit_6 rfl rfl ?_
    refine jb_bipush (pc' := 9) 40 dX10_leastFit_7 (by decide) rfl ?_
    refine jb_icmp_gt (tgt := 28) (pc' := 12) dX10_leastFit_9 (by decide) rfl (fun _ => ?_) (fun z => absurd (nI_lt (a := 40) (b := g) (by omega) (by omega)) z)
    refine jb_iconst (pc' := 29) (-1) dX10_leastFit_28 (by decide) rfl ?_
    refine jb_iret dX10_leastFit_29 rfl ?_
    exact ⟨rfl, -1, Or.inl ⟨rfl, fun h hh => hno h (by omega)⟩, rfl⟩
  | succ n ih =>
    intro g hg hno
    show jb_J _ RX10 cX10_leastFit 2 (Option.some .int) false 2 0 0 6 [some (.ref 81), some (.int (nI g))] [] [s0, s1, s2, s3, s4, s5, jb_sht81 Is nums Js Ws, s7, s8, s9, s10, s11] _
    refine jb_iload_n (pc' := 7) dX10_leastFit_6 rfl rfl ?_
    refine jb_bipush (pc' := 9) 40 dX10_leastFit_7 (by decide) rfl ?_
    refine jb_icmp_gt (tgt := 28) (pc' := 12) dX10_leastFit_9 (by decide) rfl (fun z => absurd z (nI_nlt (a := 40) (b := g) (by omega) (by omega))) (fun _ => ?_)
    refine jb_aload_n (pc' := 13) dX10_leastFit_12 rfl rfl ?_
    refine jb_iload_n (pc' := 14) dX10_leastFit_13 rfl rfl ?_
    refine jb_callV (pc' := 17) (ci := 10) (q := 81) (As := [.int (nI g)]) (a2 := 0) (b2 := 0) wv_X10_65 rfl dX10_leastFit_14 (c_fitsGap_1 Is nums Js Ws ls g (by omega) hln) rfl rfl ⟨by decide, Nat.le_of_eq (Nat.zero_add _), Nat.le_of_eq (Nat.zero_add _)⟩ (Nat.le_of_ble_eq_true rfl) rfl (fun r h9 hq => ?_)
    rcases hq with ⟨rfl, ⟨hfg, rfl⟩ | ⟨hfg, rfl⟩⟩
    · show jb_J _ RX10 cX10_leastFit 2 (Option.some .int) false 2 0 0 17 [some (.ref 81), some (.int (nI g))] [.int 1] [s0, s1, s2, s3, s4, s5, jb_sht81 Is nums Js Ws, s7, s8, s9, s10, s11] _
      refine jb_if_eq (tgt := 22) (pc' := 20) dX10_leastFit_17 (by decide) rfl (fun z => absurd z (by decide)) (fun _ => ?_)
      refine jb_iload_n (pc' := 21) dX10_leastFit_20 rfl rfl ?_
      refine jb_iret dX10_leastFit_21 rfl ?_
      exact ⟨rfl, nI g, Or.inr ⟨g, by omega, rfl, hfg, hno⟩, rfl⟩
    · show jb_J _ RX10 cX10_leastFit 2 (Option.some .int) false 2 0 0 17 [some (.ref 81), some (.int (nI g))] [.int 0] [s0, s1, s2, s3, s4, s5, jb_sht81 Is nums Js Ws, s7, s8, s9, s10, s11] _
      refine jb_if_eq (tgt := 22) (pc' := 20) dX10_leastFit_17 (by decide) rfl (fun _ => ?_) (fun z => absurd (by decide) z)
      refine jb_iinc_ (pc' := 25) (nI (g + 1)) dX10_leastFit_22 (by decide) rfl (jb_inc g 1) (jb_at1 rfl) rfl ?_
      refine jb_goto (pc' := 6) dX10_leastFit_25 (by decide) ?_
      exact ih (g + 1) (by omega) (fun h hh => by
        by_cases e : h = g
        · rw [e]; exact hfg
        · exact hno h (by omega))
set_option maxRecDepth 100000 in
set_option maxHeartbeats 4000000 in
theorem c_leastFit_1 {sc : Nat × (Nat → Int32)} {s0 s1 s2 s3 s4 s5 s7 s8 s9 s10 s11 : List va_E} (Is nums Js : Nat → Int32) (Ws : Nat → Nat → Int32) (zs : Nat) (h1s : Is 1 = nI zs) (hzs : zs ≤ 40) : jb_C sc yX10_leastFit cX10_leastFit 2 (Option.some .int) 2 0 0 [.ref 81] [s0, s1, s2, s3, s4, s5, jb_sht81 Is nums Js Ws, s7, s8, s9, s10, s11] (fun r h9 => ∃ J9 W9, h9 = [s0, s1, s2, s3, s4, s5, jb_sht81 Is nums J9 W9, s7, s8, s9, s10, s11] ∧ ∃ v, jy_L (jy_f (jy_ga nums zs zs 0 [])) v ∧ r = some (.int v)) := by
  refine jb_CofJ (ini := false) (by decide +kernel) (fun h => by cases h) (Nat.le_of_ble_eq_true rfl) ?_
  show jb_J sc RX10 cX10_leastFit 2 (Option.some .int) false 2 0 0 0 [some (.ref 81), none] [] [s0, s1, s2, s3, s4, s5, jb_sht81 Is nums Js Ws, s7, s8, s9, s10, s11] _
  refine jb_aload_n (pc' := 1) dX10_leastFit_0 rfl rfl ?_
  refine jb_callV (pc' := 4) (ci := 10) (q := 81) (As := []) (a2 := 0) (b2 := 0) wv_X10_62 rfl dX10_leastFit_1 (c_gatherL_1 Is nums Js Ws zs h1s hzs) rfl rfl ⟨by decide, Nat.le_of_eq (Nat.zero_add _), Nat.le_of_eq (Nat.zero_add _)⟩ (Nat.le_of_ble_eq_true rfl) rfl (fun r h9 hq => ?_)
  obtain ⟨rfl, J9, W9, hln, rfl⟩ := hq
  show jb_J _ RX10 cX10_leastFit 2 (Option.some .int) false 2 0 0 4 [some (.ref 81), none] [] [s0, s1, s2, s3, s4, s5, jb_sht81 Is nums J9 W9, s7, s8, s9, s10, s11] _
  refine jb_iconst (pc' := 5) 0 dX10_leastFit_4 (by decide) rfl ?_
  refine jb_istore_n_ (pc' := 6) dX10_leastFit_5 (by decide) (jb_at1 rfl) rfl ?_
  refine jb_J.mono (l_least_1 Is nums J9 W9 (jy_ga nums zs zs 0 []) hln 41 0 (by omega) (fun h hh => absurd hh (by omega))) (Nat.le_refl _) (Nat.le_refl _) (Nat.le_refl _) (fun r h9 hq => ?_)
  exact ⟨J9, W9, hq.1.symm, hq.2⟩
set_option maxRecDepth 100000 in
set_option maxHeartbeats 4000000 in
theorem l_all_1 {sc : Nat × (Nat → Int32)} {s0 s1 s2 s3 s4 s5 s7 s8 s9 s10 s11 : List va_E} (Is nums Js : Nat → Int32) (Ws : Nat → Nat → Int32) (ls : List (Nat × Nat)) (hln : Js 1 = nI ls.length ∧ jy_in ls ∧ (∀ j, j < ls.length → Ws 3 j = nI (ls.getD j (0, 0)).1 ∧ Ws 4 j = nI (ls.getD j (0, 0)).2)) : ∀ (n g k : Nat), g + n = 41 → jy_n (jy_f ls) g = k → jb_J sc RX10 cX10_allFits 3 (Option.some .int) false 2 0 0 8 [some (.ref 81), some (.int (nI k)), some (.int (nI g))] [] [s0, s1, s2, s3, s4, s5, jb_sht81 Is nums Js Ws, s7, s8, s9, s10, s11] (fun r h9 => [s0, s1, s2, s3, s4, s5, jb_sht81 Is nums Js Ws, s7, s8, s9, s10, s11] = h9 ∧ r = some (.int (nI (jy_n (jy_f ls) 41)))) := by
  intro n
  induction n with
  | zero =>
    intro g k hg hk
    obtain rfl : g = 41 := by omega
    show jb_J _ RX10 cX10_allFits 3 (Option.some .int) false 2 0 0 8 [some (.ref 81), some (.int (nI k)), some (.int (nI 41))] [] [s0, s1, s2, s3, s4, s5, jb_sht81 Is nums Js Ws, s7, s8, s9, s10, s11] _
    refine jb_iload_n (pc' := 9) dX10_allFits_8 rfl rfl ?_
    refine jb_bipush (pc' := 11) 40 dX10_allFits_9 (by decide) rfl ?_
    refine jb_icmp_gt (tgt := 31) (pc' := 14) dX10_allFits_11 (by decide) rfl (fun _ => ?_) (fun z => absurd (by decide) z)
    refine jb_iload_n (pc' := 32) dX10_allFits_31 rfl rfl ?_
    refine jb_iret dX10_allFits_32 rfl ?_
    exact ⟨rfl, by rw [hk]⟩
  | succ n ih =>
    intro g k hg hk
    show jb_J _ RX10 cX10_allFits 3 (Option.some .int) false 2 0 0 8 [some (.ref 81), some (.int (nI k)), some (.int (nI g))] [] [s0, s1, s2, s3, s4, s5, jb_sht81 Is nums Js Ws, s7, s8, s9, s10, s11] _
    refine jb_iload_n (pc' := 9) dX10_allFits_8 rfl rfl ?_
    refine jb_bipush (pc' := 11) 40 dX10_allFits_9 (by decide) rfl ?_
    refine jb_icmp_gt (tgt := 31) (pc' := 14) dX10_allFits_11 (by decide) rfl (fun z => absurd z (nI_nlt (a := 40) (b := g) (by omega) (by omega))) (fun _ => ?_)
    refine jb_aload_n (pc' := 15) dX10_allFits_14 rfl rfl ?_
    refine jb_iload_n (pc' := 16) dX10_allFits_15 rfl rfl ?_
    refine jb_callV (pc' := 19) (ci := 10) (q := 81) (As := [.int (nI g)]) (a2 := 0) (b2 := 0) wv_X10_65 rfl dX10_allFits_16 (c_fitsGap_1 Is nums Js Ws ls g (by omega) hln) rfl rfl ⟨by decide, Nat.le_of_eq (Nat.zero_add _), Nat.le_of_eq (Nat.zero_add _)⟩ (Nat.le_of_ble_eq_true rfl) rfl (fun r h9 hq => ?_)
    rcases hq with ⟨rfl, ⟨hfg, rfl⟩ | ⟨hfg, rfl⟩⟩
    · show jb_J _ RX10 cX10_allFits 3 (Option.some .int) false 2 0 0 19 [some (.ref 81), some (.int (nI k)), some (.int (nI g))] [.int 1] [s0, s1, s2, s3, s4, s5, jb_sht81 Is nums Js Ws, s7, s8, s9, s10, s11] _
      refine jb_if_eq (tgt := 25) (pc' := 22) dX10_allFits_19 (by decide) rfl (fun z => absurd z (by decide)) (fun _ => ?_)
      refine jb_iinc_ (pc' := 25) (nI (k + 1)) dX10_allFits_22 (by decide) rfl (jb_inc k 1) (jb_at1 rfl) rfl ?_
      refine jb_iinc_ (pc' := 28) (nI (g + 1)) dX10_allFits_25 (by decide) rfl (jb_inc g 1) (jb_at2 rfl) rfl ?_
      refine jb_goto (pc' := 8) dX10_allFits_28 (by decide) ?_
      exact ih (g + 1) (k + 1) (by omega) (by rw [jy_n1 hfg, hk])
    · show jb_J _ RX10 cX10_allFits 3 (Option.some .int) false 2 0 0 19 [some (.ref 81), some (.int (nI k)), some (.int (nI g))] [.int 0] [s0, s1, s2, s3, s4, s5, jb_sht81 Is nums Js Ws, s7, s8, s9, s10, s11] _
      refine jb_if_eq (tgt := 25) (pc' := 22) dX10_allFits_19 (by decide) rfl (fun _ => ?_) (fun z => absurd (by decide) z)
      refine jb_iinc_ (pc' := 28) (nI (g + 1)) dX10_allFits_25 (by decide) rfl (jb_inc g 1) (jb_at2 rfl) rfl ?_
      refine jb_goto (pc' := 8) dX10_allFits_28 (by decide) ?_
      exact ih (g + 1) k (by omega) (by rw [jy_n0 hfg, hk])
set_option maxRecDepth 100000 in
set_option maxHeartbeats 4000000 in
theorem c_allFits_1 {sc : Nat × (Nat → Int32)} {s0 s1 s2 s3 s4 s5 s7 s8 s9 s10 s11 : List va_E} (Is nums Js : Nat → Int32) (Ws : Nat → Nat → Int32) (zs : Nat) (h1s : Is 1 = nI zs) (hzs : zs ≤ 40) : jb_C sc yX10_allFits cX10_allFits 3 (Option.some .int) 2 0 0 [.ref 81] [s0, s1, s2, s3, s4, s5, jb_sht81 Is nums Js Ws, s7, s8, s9, s10, s11] (fun r h9 => ∃ J9 W9, h9 = [s0, s1, s2, s3, s4, s5, jb_sht81 Is nums J9 W9, s7, s8, s9, s10, s11] ∧ r = some (.int (nI (jy_n (jy_f (jy_ga nums zs zs 0 [])) 41)))) := by
  refine jb_CofJ (ini := false) (by decide +kernel) (fun h => by cases h) (Nat.le_of_ble_eq_true rfl) ?_
  show jb_J sc RX10 cX10_allFits 3 (Option.some .int) false 2 0 0 0 [some (.ref 81), none, none] [] [s0, s1, s2, s3, s4, s5, jb_sht81 Is nums Js Ws, s7, s8, s9, s10, s11] _
  refine jb_aload_n (pc' := 1) dX10_allFits_0 rfl rfl ?_
  refine jb_callV (pc' := 4) (ci := 10) (q := 81) (As := []) (a2 := 0) (b2 := 0) wv_X10_62 rfl dX10_allFits_1 (c_gatherL_1 Is nums Js Ws zs h1s hzs) rfl rfl ⟨by decide, Nat.le_of_eq (Nat.zero_add _), Nat.le_of_eq (Nat.zero_add _)⟩ (Nat.le_of_ble_eq_true rfl) rfl (fun r h9 hq => ?_)
  obtain ⟨rfl, J9, W9, hln, rfl⟩ := hq
  show jb_J _ RX10 cX10_allFits 3 (Option.some .int) false 2 0 0 4 [some (.ref 81), none, none] [] [s0, s1, s2, s3, s4, s5, jb_sht81 Is nums J9 W9, s7, s8, s9, s10, s11] _
  refine jb_iconst (pc' := 5) 0 dX10_allFits_4 (by decide) rfl ?_
  refine jb_istore_n_ (pc' := 6) dX10_allFits_5 (by decide) (jb_at1 rfl) rfl ?_
  refine jb_iconst (pc' := 7) 0 dX10_allFits_6 (by decide) rfl ?_
  refine jb_istore_n_ (pc' := 8) dX10_allFits_7 (by decide) (jb_at2 rfl) rfl ?_
  refine jb_J.mono (l_all_1 Is nums J9 W9 (jy_ga nums zs zs 0 []) hln 41 0 0 (by omega) rfl) (Nat.le_refl _) (Nat.le_refl _) (Nat.le_refl _) (fun r h9 hq => ?_)
  exact ⟨J9, W9, hq.1.symm, hq.2⟩
set_option maxRecDepth 100000 in
set_option maxHeartbeats 4000000 in
theorem kx_poem0_1 {sc : Nat × (Nat → Int32)} {s1 s2 s3 s5 s7 s8 s9 s10 s11 : List va_E} (imm : Int32) (Im rowm stkm tpm : Nat → Int32) (Tm : Nat → Value) (Is nums Js : Nat → Int32) (Ws : Nat → Nat → Int32) {bs zs : Nat} (h0s : Is 0 = nI bs) (h1s : Is 1 = nI zs) (hbs : bs ≤ 32) (hzs : zs ≤ 40) (hm : ¬ bs = 0) : jb_C sc yX11_poem cX11_poem 3 (Option.some .int) 3 0 0 [.ref 0, .int 1, .int 0] [jb_main imm Im Tm rowm stkm tpm, s1, s2, s3, jb_shs, s5, jb_sht81 Is nums Js Ws, s7, s8, s9, s10, s11] (fun r h9 => ∃ J9 W9, h9 = [jb_main imm Im Tm rowm stkm tpm, s1, s2, s3, jb_shs, s5, jb_sht81 Is nums J9 W9, s7, s8, s9, s10, s11] ∧ ∃ v, jy_L (jy_f (jy_ga nums zs zs 0 [])) v ∧ r = some (.int v)) := by
  refine jb_CofJ (ini := false) (by decide +kernel) (fun h => by cases h) (Nat.le_of_ble_eq_true rfl) ?_
  show jb_J sc RX11 cX11_poem 3 (Option.some .int) false 3 0 0 0 [some (.ref 0), some (.int 1), some (.int 0)] [] [jb_main imm Im Tm rowm stkm tpm, s1, s2, s3, jb_shs, s5, jb_sht81 Is nums Js Ws, s7, s8, s9, s10, s11] _
  refine jb_aload_n (pc' := 1) dX11_poem_0 rfl rfl ?_
  refine jb_iload_n (pc' := 2) dX11_poem_1 rfl rfl ?_
  refine jb_callV (pc' := 5) (ci := 11) (q := 0) (As := [.int 1]) (a2 := 0) (b2 := 0) wv_X11_165 rfl dX11_poem_2 (c_isNoSheetG _ 1 (by omega)) rfl rfl ⟨by decide, Nat.le_of_eq (Nat.zero_add _), Nat.le_of_eq (Nat.zero_add _)⟩ (Nat.le_of_ble_eq_true rfl) rfl (fun r h9 hq => ?_)
  obtain ⟨rfl, rfl⟩ := hq
  show jb_J _ RX11 cX11_poem 3 (Option.some .int) false 3 0 0 5 [some (.ref 0), some (.int 1), some (.int 0)] [.int 0] [jb_main imm Im Tm rowm stkm tpm, s1, s2, s3, jb_shs, s5, jb_sht81 Is nums Js Ws, s7, s8, s9, s10, s11] _
  refine jb_if_ne (tgt := 17) (pc' := 8) dX11_poem_5 (by decide) rfl (fun z => absurd (by decide) z) (fun _ => ?_)
  refine jb_iload_n (pc' := 9) dX11_poem_8 rfl rfl ?_
  refine jb_iconst (pc' := 10) 0 dX11_poem_9 (by decide) rfl ?_
  refine jb_iconst (pc' := 11) 1 dX11_poem_10 (by decide) rfl ?_
  refine jb_callS (pc' := 14) (As := [.int 0, .int 0, .int 1]) (a2 := 0) (b2 := 0) wv_X11_74 dX11_poem_11 (c_isOutLG 0 0 1 (by omega) (by omega) (by omega)) rfl ⟨by decide, Nat.le_of_eq (Nat.zero_add _), Nat.le_of_eq (Nat.zero_add _)⟩ (Nat.le_of_ble_eq_true rfl) rfl (fun r h9 hq => ?_)
  obtain ⟨rfl, rfl⟩ := hq
  show jb_J _ RX11 cX11_poem 3 (Option.some .int) false 3 0 0 14 [some (.ref 0), some (.int 1), some (.int 0)] [.int 0] [jb_main imm Im Tm rowm stkm tpm, s1, s2, s3, jb_shs, s5, jb_sht81 Is nums Js Ws, s7, s8, s9, s10, s11] _
  refine jb_if_eq (tgt := 23) (pc' := 17) dX11_poem_14 (by decide) rfl (fun _ => ?_) (fun z => absurd (by decide) z)
  refine jb_aload_n (pc' := 24) dX11_poem_23 rfl rfl ?_
  refine gf_X11_54 (pc' := 27) (v := .ref 73) dX11_poem_24 rfl rfl rfl ?_
  refine jb_iload_n (pc' := 28) dX11_poem_27 rfl rfl ?_
  refine jb_aaload (pc' := 29) (i9 := 1) (r := 81) (Or.inr (Or.inr rfl)) dX11_poem_28 rfl jb_x1 (by decide) rfl rfl ?_
  refine jb_callV (pc' := 32) (ci := 10) (q := 81) (As := []) (a2 := 0) (b2 := 0) wv_X11_168 rfl dX11_poem_29 (c_isMissing_1 Is nums Js Ws h0s h1s hbs hzs) rfl rfl ⟨by decide, Nat.le_of_eq (Nat.zero_add _), Nat.le_of_eq (Nat.zero_add _)⟩ (Nat.le_of_ble_eq_true rfl) rfl (fun r h9 hq => ?_)
  rcases hq with ⟨rfl, ⟨hms, rfl⟩ | ⟨hms, rfl⟩⟩
  · exact absurd hms hm
  · show jb_J _ RX11 cX11_poem 3 (Option.some .int) false 3 0 0 32 [some (.ref 0), some (.int 1), some (.int 0)] [.int 0] [jb_main imm Im Tm rowm stkm tpm, s1, s2, s3, jb_shs, s5, jb_sht81 Is nums Js Ws, s7, s8, s9, s10, s11] _
    refine jb_if_eq (tgt := 41) (pc' := 35) dX11_poem_32 (by decide) rfl (fun _ => ?_) (fun z => absurd (by decide) z)
    refine jb_iload_n (pc' := 42) dX11_poem_41 rfl rfl ?_
    refine jb_if_ne (tgt := 57) (pc' := 45) dX11_poem_42 (by decide) rfl (fun z => absurd (by decide) z) (fun _ => ?_)
    refine jb_aload_n (pc' := 46) dX11_poem_45 rfl rfl ?_
    refine gf_X11_54 (pc' := 49) (v := .ref 73) dX11_poem_46 rfl rfl rfl ?_
    refine jb_iload_n (pc' := 50) dX11_poem_49 rfl rfl ?_
    refine jb_aaload (pc' := 51) (i9 := 1) (r := 81) (Or.inr (Or.inr rfl)) dX11_poem_50 rfl jb_x1 (by decide) rfl rfl ?_
    refine jb_callV (pc' := 54) (ci := 10) (q := 81) (As := []) (a2 := 0) (b2 := 0) wv_X11_178 rfl dX11_poem_51 (c_leastFit_1 Is nums Js Ws zs h1s hzs) rfl rfl ⟨by decide, Nat.le_of_eq (Nat.zero_add _), Nat.le_of_eq (Nat.zero_add _)⟩ (Nat.le_of_ble_eq_true rfl) rfl (fun r h9 hq => ?_)
    obtain ⟨J9, W9, rfl, v, hv, rfl⟩ := hq
    show jb_J _ RX11 cX11_poem 3 (Option.some .int) false 3 0 0 54 [some (.ref 0), some (.int 1), some (.int 0)] [.int v] [jb_main imm Im Tm rowm stkm tpm, s1, s2, s3, jb_shs, s5, jb_sht81 Is nums J9 W9, s7, s8, s9, s10, s11] _
    refine jb_goto (pc' := 66) dX11_poem_54 (by decide) ?_
    refine jb_iret dX11_poem_66 rfl ?_
    exact ⟨J9, W9, rfl, v, hv, rfl⟩
set_option maxRecDepth 100000 in
set_option maxHeartbeats 4000000 in
theorem kx_poem1_1 {sc : Nat × (Nat → Int32)} {s1 s2 s3 s5 s7 s8 s9 s10 s11 : List va_E} (imm : Int32) (Im rowm stkm tpm : Nat → Int32) (Tm : Nat → Value) (Is nums Js : Nat → Int32) (Ws : Nat → Nat → Int32) {bs zs : Nat} (h0s : Is 0 = nI bs) (h1s : Is 1 = nI zs) (hbs : bs ≤ 32) (hzs : zs ≤ 40) (hm : ¬ bs = 0) : jb_C sc yX11_poem cX11_poem 3 (Option.some .int) 3 0 0 [.ref 0, .int 1, .int 1] [jb_main imm Im Tm rowm stkm tpm, s1, s2, s3, jb_shs, s5, jb_sht81 Is nums Js Ws, s7, s8, s9, s10, s11] (fun r h9 => ∃ J9 W9, h9 = [jb_main imm Im Tm rowm stkm tpm, s1, s2, s3, jb_shs, s5, jb_sht81 Is nums J9 W9, s7, s8, s9, s10, s11] ∧ r = some (.int (nI (jy_n (jy_f (jy_ga nums zs zs 0 [])) 41)))) := by
  refine jb_CofJ (ini := false) (by decide +kernel) (fun h => by cases h) (Nat.le_of_ble_eq_true rfl) ?_
  show jb_J sc RX11 cX11_poem 3 (Option.some .int) false 3 0 0 0 [some (.ref 0), some (.int 1), some (.int 1)] [] [jb_main imm Im Tm rowm stkm tpm, s1, s2, s3, jb_shs, s5, jb_sht81 Is nums Js Ws, s7, s8, s9, s10, s11] _
  refine jb_aload_n (pc' := 1) dX11_poem_0 rfl rfl ?_
  refine jb_iload_n (pc' := 2) dX11_poem_1 rfl rfl ?_
  refine jb_callV (pc' := 5) (ci := 11) (q := 0) (As := [.int 1]) (a2 := 0) (b2 := 0) wv_X11_165 rfl dX11_poem_2 (c_isNoSheetG _ 1 (by omega)) rfl rfl ⟨by decide, Nat.le_of_eq (Nat.zero_add _), Nat.le_of_eq (Nat.zero_add _)⟩ (Nat.le_of_ble_eq_true rfl) rfl (fun r h9 hq => ?_)
  obtain ⟨rfl, rfl⟩ := hq
  show jb_J _ RX11 cX11_poem 3 (Option.some .int) false 3 0 0 5 [some (.ref 0), some (.int 1), some (.int 1)] [.int 0] [jb_main imm Im Tm rowm stkm tpm, s1, s2, s3, jb_shs, s5, jb_sht81 Is nums Js Ws, s7, s8, s9, s10, s11] _
  refine jb_if_ne (tgt := 17) (pc' := 8) dX11_poem_5 (by decide) rfl (fun z => absurd (by decide) z) (fun _ => ?_)
  refine jb_iload_n (pc' := 9) dX11_poem_8 rfl rfl ?_
  refine jb_iconst (pc' := 10) 0 dX11_poem_9 (by decide) rfl ?_
  refine jb_iconst (pc' := 11) 1 dX11_poem_10 (by decide) rfl ?_
  refine jb_callS (pc' := 14) (As := [.int 1, .int 0, .int 1]) (a2 := 0) (b2 := 0) wv_X11_74 dX11_poem_11 (c_isOutLG 1 0 1 (by omega) (by omega) (by omega)) rfl ⟨by decide, Nat.le_of_eq (Nat.zero_add _), Nat.le_of_eq (Nat.zero_add _)⟩ (Nat.le_of_ble_eq_true rfl) rfl (fun r h9 hq => ?_)
  obtain ⟨rfl, rfl⟩ := hq
  show jb_J _ RX11 cX11_poem 3 (Option.some .int) false 3 0 0 14 [some (.ref 0), some (.int 1), some (.int 1)] [.int 0] [jb_main imm Im Tm rowm stkm tpm, s1, s2, s3, jb_shs, s5, jb_sht81 Is nums Js Ws, s7, s8, s9, s10, s11] _
  refine jb_if_eq (tgt := 23) (pc' := 17) dX11_poem_14 (by decide) rfl (fun _ => ?_) (fun z => absurd (by decide) z)
  refine jb_aload_n (pc' := 24) dX11_poem_23 rfl rfl ?_
  refine gf_X11_54 (pc' := 27) (v := .ref 73) dX11_poem_24 rfl rfl rfl ?_
  refine jb_iload_n (pc' := 28) dX11_poem_27 rfl rfl ?_
  refine jb_aaload (pc' := 29) (i9 := 1) (r := 81) (Or.inr (Or.inr rfl)) dX11_poem_28 rfl jb_x1 (by decide) rfl rfl ?_
  refine jb_callV (pc' := 32) (ci := 10) (q := 81) (As := []) (a2 := 0) (b2 := 0) wv_X11_168 rfl dX11_poem_29 (c_isMissing_1 Is nums Js Ws h0s h1s hbs hzs) rfl rfl ⟨by decide, Nat.le_of_eq (Nat.zero_add _), Nat.le_of_eq (Nat.zero_add _)⟩ (Nat.le_of_ble_eq_true rfl) rfl (fun r h9 hq => ?_)
  rcases hq with ⟨rfl, ⟨hms, rfl⟩ | ⟨hms, rfl⟩⟩
  · exact absurd hms hm
  · show jb_J _ RX11 cX11_poem 3 (Option.some .int) false 3 0 0 32 [some (.ref 0), some (.int 1), some (.int 1)] [.int 0] [jb_main imm Im Tm rowm stkm tpm, s1, s2, s3, jb_shs, s5, jb_sht81 Is nums Js Ws, s7, s8, s9, s10, s11] _
    refine jb_if_eq (tgt := 41) (pc' := 35) dX11_poem_32 (by decide) rfl (fun _ => ?_) (fun z => absurd (by decide) z)
    refine jb_iload_n (pc' := 42) dX11_poem_41 rfl rfl ?_
    refine jb_if_ne (tgt := 57) (pc' := 45) dX11_poem_42 (by decide) rfl (fun _ => ?_) (fun z => absurd z (by decide))
    refine jb_aload_n (pc' := 58) dX11_poem_57 rfl rfl ?_
    refine gf_X11_54 (pc' := 61) (v := .ref 73) dX11_poem_58 rfl rfl rfl ?_
    refine jb_iload_n (pc' := 62) dX11_poem_61 rfl rfl ?_
    refine jb_aaload (pc' := 63) (i9 := 1) (r := 81) (Or.inr (Or.inr rfl)) dX11_poem_62 rfl jb_x1 (by decide) rfl rfl ?_
    refine jb_callV (pc' := 66) (ci := 10) (q := 81) (As := []) (a2 := 0) (b2 := 0) wv_X11_181 rfl dX11_poem_63 (c_allFits_1 Is nums Js Ws zs h1s hzs) rfl rfl ⟨by decide, Nat.le_of_eq (Nat.zero_add _), Nat.le_of_eq (Nat.zero_add _)⟩ (Nat.le_of_ble_eq_true rfl) rfl (fun r h9 hq => ?_)
    obtain ⟨J9, W9, rfl, rfl⟩ := hq
    show jb_J _ RX11 cX11_poem 3 (Option.some .int) false 3 0 0 66 [some (.ref 0), some (.int 1), some (.int 1)] [.int (nI (jy_n (jy_f (jy_ga nums zs zs 0 [])) 41))] [jb_main imm Im Tm rowm stkm tpm, s1, s2, s3, jb_shs, s5, jb_sht81 Is nums J9 W9, s7, s8, s9, s10, s11] _
    refine jb_iret dX11_poem_66 rfl ?_
    exact ⟨J9, W9, rfl, rfl⟩
set_option maxRecDepth 100000 in
set_option maxHeartbeats 4000000 in
theorem l_gatherL_2 {sc : Nat × (Nat → Int32)} {s0 s1 s2 s3 s4 s5 s6 s8 s9 s10 s11 : List va_E} (Is nums : Nat → Int32) (zs : Nat) (h1s : Is 1 = nI zs) (hzs : zs ≤ 40) : ∀ (n i : Nat) (acc : List (Nat × Nat)) (Js : Nat → Int32) (Ws : Nat → Nat → Int32), zs ≤ i + 2 * n → i ≤ zs + 2 → Js 1 = nI acc.length ∧ jy_in acc ∧ (∀ j, j < acc.length → Ws 3 j = nI (acc.getD j (0, 0)).1 ∧ Ws 4 j = nI (acc.getD j (0, 0)).2) → jb_J sc RX10 cX10_gatherLines 2 (Option.none : Option Jvm.ClassFile.FieldType) false 1 0 0 7 [some (.ref 88), some (.int (nI i))] [] [s0, s1, s2, s3, s4, s5, s6, jb_sht88 Is nums Js Ws, s8, s9, s10, s11] (fun r h9 => r = none ∧ ∃ (J9 : Nat → Int32) (W9 : Nat → Nat → Int32), (J9 1 = nI (jy_ga nums zs n i acc).length ∧ jy_in (jy_ga nums zs n i acc) ∧ (∀ j, j < (jy_ga nums zs n i acc).length → W9 3 j = nI ((jy_ga nums zs n i acc).getD j (0, 0)).1 ∧ W9 4 j = nI ((jy_ga nums zs n i acc).getD j (0, 0)).2)) ∧ h9 = [s0, s1, s2, s3, s4, s5, s6, jb_sht88 Is nums J9 W9, s8, s9, s10, s11]) := by
  intro n
  induction n with
  | zero =>
    intro i acc Js Ws hi hi2 ⟨p1, p2, p3⟩
    show jb_J _ RX10 cX10_gatherLines 2 (Option.none : Option Jvm.ClassFile.FieldType) false 1 0 0 7 [some (.ref 88), some (.int (nI i))] [] [s0, s1, s2, s3, s4, s5, s6, jb_sht88 Is nums Js Ws, s8, s9, s10, s11] _
    refine jb_iload_n (pc' := 8) dX10_gatherLines_7 rfl rfl ?_
    refine jb_iconst (pc' := 9) 1 dX10_gatherLines_8 (by decide) rfl ?_
    refine jb_iadd (pc' := 10) dX10_gatherLines_9 rfl ?_
    refine jb_top (v := .int ((nI i) + 1)) (w := .int (nI (i + 1))) (jb_vI (nI_add _ 1)) ?_
    refine jb_aload_n (pc' := 11) dX10_gatherLines_10 rfl rfl ?_
    refine gf_X10_15 (pc' := 14) (v := .int (Is 1)) dX10_gatherLines_11 rfl rfl rfl ?_
    refine jb_top (v := .int (Is 1)) (w := .int (nI zs)) (jb_vI h1s) ?_
    refine jb_icmp_ge (tgt := 109) (pc' := 17) dX10_gatherLines_14 (by decide) rfl (fun _ => ?_) (fun z => absurd (nI_le (a := zs) (b := i + 1) (by omega) (by omega)) z)
    refine jb_vret dX10_gatherLines_109 ?_
    exact ⟨rfl, Js, Ws, ⟨p1, p2, p3⟩, rfl⟩
  | succ n ih =>
    intro i acc Js Ws hi hi2 ⟨p1, p2, p3⟩
    have plen := p2.1
    have eG : jy_ga nums zs (n + 1) i acc = (if i + 1 < zs ∧ acc.length < 12 then (if (0 ≤ nums i ∧ nums i ≤ 1) ∧ (0 ≤ nums (i + 1) ∧ nums (i + 1) ≤ 999) then jy_ga nums zs n (i + 2) (acc ++ [((nums i).toNatClampNeg, (nums (i + 1)).toNatClampNeg)]) else jy_ga nums zs n (i + 2) acc) else acc) := rfl
    by_cases hi1 : i + 1 < zs
    · by_cases hl : acc.length < 12
      · by_cases hv : (0 ≤ nums i ∧ nums i ≤ 1) ∧ (0 ≤ nums (i + 1) ∧ nums (i + 1) ≤ 999)
        · obtain ⟨u, hu1, hu2, eu⟩ := (jy_rng (n := 1) (by decide)).mpr hv.1
          obtain ⟨v, hv1, hv2, ev⟩ := (jy_rng (n := 999) (by decide)).mpr hv.2
          rw [if_pos ⟨hi1, hl⟩, if_pos hv, eu, ev, nI_clamp (by omega), nI_clamp (by omega)] at eG
          rw [eG]
          show jb_J _ RX10 cX10_gatherLines 2 (Option.none : Option Jvm.ClassFile.FieldType) false 1 0 0 7 [some (.ref 88), some (.int (nI i))] [] [s0, s1, s2, s3, s4, s5, s6, jb_sht88 Is nums Js Ws, s8, s9, s10, s11] _
          refine jb_iload_n (pc' := 8) dX10_gatherLines_7 rfl rfl ?_
          refine jb_iconst (pc' := 9) 1 dX10_gatherLines_8 (by decide) rfl ?_
          refine jb_iadd (pc' := 10) dX10_gatherLines_9 rfl ?_
          refine jb_top (v := .int ((nI i) + 1)) (w := .int (nI (i + 1))) (jb_vI (nI_add _ 1)) ?_
          refine jb_aload_n (pc' := 11) dX10_gatherLines_10 rfl rfl ?_
          refine gf_X10_15 (pc' := 14) (v := .int (Is 1)) dX10_gatherLines_11 rfl rfl rfl ?_
          refine jb_top (v := .int (Is 1)) (w := .int (nI zs)) (jb_vI h1s) ?_
          refine jb_icmp_ge (tgt := 109) (pc' := 17) dX10_gatherLines_14 (by decide) rfl (fun z => absurd z (nI_ge (a := i + 1) (b := zs) (by omega) (by omega))) (fun _ => ?_)
          refine jb_aload_n (pc' := 18) dX10_gatherLines_17 rfl rfl ?_
          refine gf_X10_34 (pc' := 21) (v := .int (Js 1)) dX10_gatherLines_18 rfl rfl rfl ?_
          refine jb_top (v := .int (Js 1)) (w := .int (nI acc.length)) (jb_vI p1) ?_
          refine jb_bipush (pc' := 23) 12 dX10_gatherLines_21 (by decide) rfl ?_
          refine jb_icmp_ge (tgt := 109) (pc' := 26) dX10_gatherLines_23 (by decide) rfl (fun z => absurd z (nI_ge (a := acc.length) (b := 12) (by omega) (by omega))) (fun _ => ?_)
          refine jb_aload_n (pc' := 27) dX10_gatherLines_26 rfl rfl ?_
          refine gf_X10_18 (pc' := 30) (v := .ref 89) dX10_gatherLines_27 rfl rfl rfl ?_
          refine jb_iload_n (pc' := 31) dX10_gatherLines_30 rfl rfl ?_
          refine jb_iaload (pc' := 32) (i9 := i) (f := nums) dX10_gatherLines_31 rfl (jb_ix_nI (by omega)) (by omega) rfl ?_
          refine jb_top (v := .int (nums i)) (w := .int (nI u)) (jb_vI eu) ?_
          refine jb_iconst (pc' := 33) 0 dX10_gatherLines_32 (by decide) rfl ?_
          refine jb_iconst (pc' := 34) 1 dX10_gatherLines_33 (by decide) rfl ?_
          refine jb_callSN (pc' := 37) (As := [.int (nI u), .int 0, .int 1]) (a2 := 0) (b2 := 0) wv_X10_56 dX10_gatherLines_34 (c_isOutLG u 0 1 (by omega) (by omega) (by omega)) rfl ⟨by decide, Nat.le_of_eq (Nat.zero_add _), Nat.le_of_eq (Nat.zero_add _)⟩ (Nat.le_of_ble_eq_true rfl) rfl (fun r h9 hq => ?_)
          obtain ⟨rfl, rfl⟩ := hq
          show jb_J _ RX10 cX10_gatherLines 2 (Option.none : Option Jvm.ClassFile.FieldType) false 1 0 0 37 [some (.ref 88), some (.int (nI i))] [.int 0] [s0, s1, s2, s3, s4, s5, s6, jb_sht88 Is nums Js Ws, s8, s9, s10, s11] _
          refine jb_if_ne (tgt := 103) (pc' := 40) dX10_gatherLines_37 (by decide) rfl (fun z => absurd (by decide) z) (fun _ => ?_)
          refine jb_aload_n (pc' := 41) dX10_gatherLines_40 rfl rfl ?_
          refine gf_X10_18 (pc' := 44) (v := .ref 89) dX10_gatherLines_41 rfl rfl rfl ?_
          refine jb_iload_n (pc' := 45) dX10_gatherLines_44 rfl rfl ?_
          refine jb_iconst (pc' := 46) 1 dX10_gatherLines_45 (by decide) rfl ?_
          refine jb_iadd (pc' := 47) dX10_gatherLines_46 rfl ?_
          refine jb_top (v := .int ((nI i) + 1)) (w := .int (nI (i + 1))) (jb_vI (nI_add _ 1)) ?_
          refine jb_iaload (pc' := 48) (i9 := (i + 1)) (f := nums) dX10_gatherLines_47 rfl (jb_ix_nI (by omega)) (by omega) rfl ?_
          refine jb_top (v := .int (nums (i + 1))) (w := .int (nI v)) (jb_vI ev) ?_
          refine jb_iconst (pc' := 49) 0 dX10_gatherLines_48 (by decide) rfl ?_
          refine jb_sipush (pc' := 52) 999 dX10_gatherLines_49 (by decide) rfl ?_
          refine jb_callSN (pc' := 55) (As := [.int (nI v), .int 0, .int 999]) (a2 := 0) (b2 := 0) wv_X10_56 dX10_gatherLines_52 (c_isOutLG v 0 999 (by omega) (by omega) (by omega)) rfl ⟨by decide, Nat.le_of_eq (Nat.zero_add _), Nat.le_of_eq (Nat.zero_add _)⟩ (Nat.le_of_ble_eq_true rfl) rfl (fun r h9 hq => ?_)
          obtain ⟨rfl, rfl⟩ := hq
          show jb_J _ RX10 cX10_gatherLines 2 (Option.none : Option Jvm.ClassFile.FieldType) false 1 0 0 55 [some (.ref 88), some (.int (nI i))] [.int 0] [s0, s1, s2, s3, s4, s5, s6, jb_sht88 Is nums Js Ws, s8, s9, s10, s11] _
          refine jb_if_eq (tgt := 61) (pc' := 58) dX10_gatherLines_55 (by decide) rfl (fun _ => ?_) (fun z => absurd (by decide) z)
          refine jb_aload_n (pc' := 62) dX10_gatherLines_61 rfl rfl ?_
          refine gf_X10_37 (pc' := 65) (v := .ref 93) dX10_gatherLines_62 rfl rfl rfl ?_
          refine jb_aload_n (pc' := 66) dX10_gatherLines_65 rfl rfl ?_
          refine gf_X10_34 (pc' := 69) (v := .int (Js 1)) dX10_gatherLines_66 rfl rfl rfl ?_
          refine jb_top (v := .int (Js 1)) (w := .int (nI acc.length)) (jb_vI p1) ?_
          refine jb_aload_n (pc' := 70) dX10_gatherLines_69 rfl rfl ?_
          refine gf_X10_18 (pc' := 73) (v := .ref 89) dX10_gatherLines_70 rfl rfl rfl ?_
          refine jb_iload_n (pc' := 74) dX10_gatherLines_73 rfl rfl ?_
          refine jb_iaload (pc' := 75) (i9 := i) (f := nums) dX10_gatherLines_74 rfl (jb_ix_nI (by omega)) (by omega) rfl ?_
          refine jb_top (v := .int (nums i)) (w := .int (nI u)) (jb_vI eu) ?_
          refine jb_iastore (pc' := 76) (i9 := acc.length) (f := (Ws 3)) (h' := [s0, s1, s2, s3, s4, s5, s6, jb_sht88 Is nums Js (va_up Ws 3 (upd (Ws 3) acc.length (nI u))), s8, s9, s10, s11]) dX10_gatherLines_75 rfl (jb_ix_nI (by omega)) (by omega) rfl rfl ?_
          refine jb_aload_n (pc' := 77) dX10_gatherLines_76 rfl rfl ?_
          refine gf_X10_40 (pc' := 80) (v := .ref 94) dX10_gatherLines_77 rfl rfl rfl ?_
          refine jb_aload_n (pc' := 81) dX10_gatherLines_80 rfl rfl ?_
          refine gf_X10_34 (pc' := 84) (v := .int (Js 1)) dX10_gatherLines_81 rfl rfl rfl ?_
          refine jb_top (v := .int (Js 1)) (w := .int (nI acc.length)) (jb_vI p1) ?_
          refine jb_aload_n (pc' := 85) dX10_gatherLines_84 rfl rfl ?_
          refine gf_X10_18 (pc' := 88) (v := .ref 89) dX10_gatherLines_85 rfl rfl rfl ?_
          refine jb_iload_n (pc' := 89) dX10_gatherLines_88 rfl rfl ?_
          refine jb_iconst (pc' := 90) 1 dX10_gatherLines_89 (by decide) rfl ?_
          refine jb_iadd (pc' := 91) dX10_gatherLines_90 rfl ?_
          refine jb_top (v := .int ((nI i) + 1)) (w := .int (nI (i + 1))) (jb_vI (nI_add _ 1)) ?_
          refine jb_iaload (pc' := 92) (i9 := (i + 1)) (f := nums) dX10_gatherLines_91 rfl (jb_ix_nI (by omega)) (by omega) rfl ?_
          refine jb_top (v := .int (nums (i + 1))) (w := .int (nI v)) (jb_vI ev) ?_
          refine jb_iastore (pc' := 93) (i9 := acc.length) (f := (Ws 4)) (h' := [s0, s1, s2, s3, s4, s5, s6, jb_sht88 Is nums Js (va_up (va_up Ws 3 (upd (Ws 3) acc.length (nI u))) 4 (upd (Ws 4) acc.length (nI v))), s8, s9, s10, s11]) dX10_gatherLines_92 rfl (jb_ix_nI (by omega)) (by omega) rfl rfl ?_
          refine jb_aload_n (pc' := 94) dX10_gatherLines_93 rfl rfl ?_
          refine jb_dup (pc' := 95) dX10_gatherLines_94 rfl rfl ?_
          refine gf_X10_34 (pc' := 98) (v := .int (Js 1)) dX10_gatherLines_95 rfl rfl rfl ?_
          refine jb_top (v := .int (Js 1)) (w := .int (nI acc.length)) (jb_vI p1) ?_
          refine jb_iconst (pc' := 99) 1 dX10_gatherLines_98 (by decide) rfl ?_
          refine jb_iadd (pc' := 100) dX10_gatherLines_99 rfl ?_
          refine jb_top (v := .int ((nI acc.length) + 1)) (w := .int (nI (acc.length + 1))) (jb_vI (nI_add _ 1)) ?_
          refine pf_X10_34 (pc' := 103) (h' := [s0, s1, s2, s3, s4, s5, s6, jb_sht88 Is nums (upd Js 1 (nI (acc.length + 1))) (va_up (va_up Ws 3 (upd (Ws 3) acc.length (nI u))) 4 (upd (Ws 4) acc.length (nI v))), s8, s9, s10, s11]) dX10_gatherLines_100 (fun _ => ⟨rfl, rfl⟩) rfl (Nat.le_of_ble_eq_true rfl) rfl rfl ?_
          refine jb_iinc_ (pc' := 106) (nI (i + 2)) dX10_gatherLines_103 (by decide) rfl (jb_inc i 2) (jb_at1 rfl) rfl ?_
          refine jb_goto (pc' := 7) dX10_gatherLines_106 (by decide) ?_
          refine ih (i + 2) (acc ++ [(u, v)]) (upd Js 1 (nI (acc.length + 1))) (va_up (va_up Ws 3 (upd (Ws 3) acc.length (nI u))) 4 (upd (Ws 4) acc.length (nI v))) (by omega) (by omega) ⟨?_, p2.app hl hu2 hv2, fun j hj => ?_⟩
          · rw [List.length_append]; rfl
          · rw [List.length_append] at hj
            have hj2 : j < acc.length + 1 := hj
            show upd (Ws 3) acc.length (nI u) j = _ ∧ upd (Ws 4) acc.length (nI v) j = _
            by_cases e : j = acc.length
            · rw [e, jy_gde]; exact ⟨jb_uee, jb_uee⟩
            · rw [jb_une e, jb_une e, jy_gda (by omega)]; exact p3 j (by omega)
        · rw [if_pos ⟨hi1, hl⟩, if_neg hv] at eG
          rw [eG]
          show jb_J _ RX10 cX10_gatherLines 2 (Option.none : Option Jvm.ClassFile.FieldType) false 1 0 0 7 [some (.ref 88), some (.int (nI i))] [] [s0, s1, s2, s3, s4, s5, s6, jb_sht88 Is nums Js Ws, s8, s9, s10, s11] _
          refine jb_iload_n (pc' := 8) dX10_gatherLines_7 rfl rfl ?_
          refine jb_iconst (pc' := 9) 1 dX10_gatherLines_8 (by decide) rfl ?_
          refine jb_iadd (pc' := 10) dX10_gatherLines_9 rfl ?_
          refine jb_top (v := .int ((nI i) + 1)) (w := .int (nI (i + 1))) (jb_vI (nI_add _ 1)) ?_
          refine jb_aload_n (pc' := 11) dX10_gatherLines_10 rfl rfl ?_
          refine gf_X10_15 (pc' := 14) (v := .int (Is 1)) dX10_gatherLines_11 rfl rfl rfl ?_
          refine jb_top (v := .int (Is 1)) (w := .int (nI zs)) (jb_vI h1s) ?_
          refine jb_icmp_ge (tgt := 109) (pc' := 17) dX10_gatherLines_14 (by decide) rfl (fun z => absurd z (nI_ge (a := i + 1) (b := zs) (by omega) (by omega))) (fun _ => ?_)
          refine jb_aload_n (pc' := 18) dX10_gatherLines_17 rfl rfl ?_
          refine gf_X10_34 (pc' := 21) (v := .int (Js 1)) dX10_gatherLines_18 rfl rfl rfl ?_
          refine jb_top (v := .int (Js 1)) (w := .int (nI acc.length)) (jb_vI p1) ?_
          refine jb_bipush (pc' := 23) 12 dX10_gatherLines_21 (by decide) rfl ?_
          refine jb_icmp_ge (tgt := 109) (pc' := 26) dX10_gatherLines_23 (by decide) rfl (fun z => absurd z (nI_ge (a := acc.length) (b := 12) (by omega) (by omega))) (fun _ => ?_)
          refine jb_aload_n (pc' := 27) dX10_gatherLines_26 rfl rfl ?_
          refine gf_X10_18 (pc' := 30) (v := .ref 89) dX10_gatherLines_27 rfl rfl rfl ?_
          refine jb_iload_n (pc' := 31) dX10_gatherLines_30 rfl rfl ?_
          refine jb_iaload (pc' := 32) (i9 := i) (f := nums) dX10_gatherLines_31 rfl (jb_ix_nI (by omega)) (by omega) rfl ?_
          refine jb_iconst (pc' := 33) 0 dX10_gatherLines_32 (by decide) rfl ?_
          refine jb_iconst (pc' := 34) 1 dX10_gatherLines_33 (by decide) rfl ?_
          refine jb_callSN (pc' := 37) (As := [.int (nums i), .int 0, .int 1]) (a2 := 0) (b2 := 0) wv_X10_56 dX10_gatherLines_34 (c_isOutL (nums i) 0 1 (by omega) (by omega)) rfl ⟨by decide, Nat.le_of_eq (Nat.zero_add _), Nat.le_of_eq (Nat.zero_add _)⟩ (Nat.le_of_ble_eq_true rfl) rfl (fun r h9 hq => ?_)
          rcases hq with ⟨rfl, ⟨o3, rfl⟩ | ⟨o3, rfl⟩⟩
          · show jb_J _ RX10 cX10_gatherLines 2 (Option.none : Option Jvm.ClassFile.FieldType) false 1 0 0 37 [some (.ref 88), some (.int (nI i))] [.int 1] [s0, s1, s2, s3, s4, s5, s6, jb_sht88 Is nums Js Ws, s8, s9, s10, s11] _
            refine jb_if_ne (tgt := 103) (pc' := 40) dX10_gatherLines_37 (by decide) rfl (fun _ => ?_) (fun z => absurd z (by decide))
            refine jb_iinc_ (pc' := 106) (nI (i + 2)) dX10_gatherLines_103 (by decide) rfl (jb_inc i 2) (jb_at1 rfl) rfl ?_
            refine jb_goto (pc' := 7) dX10_gatherLines_106 (by decide) ?_
            exact ih (i + 2) acc Js Ws (by omega) (by omega) ⟨p1, p2, p3⟩
          · show jb_J _ RX10 cX10_gatherLines 2 (Option.none : Option Jvm.ClassFile.FieldType) false 1 0 0 37 [some (.ref 88), some (.int (nI i))] [.int 0] [s0, s1, s2, s3, s4, s5, s6, jb_sht88 Is nums Js Ws, s8, s9, s10, s11] _
            refine jb_if_ne (tgt := 103) (pc' := 40) dX10_gatherLines_37 (by decide) rfl (fun z => absurd (by decide) z) (fun _ => ?_)
            refine jb_aload_n (pc' := 41) dX10_gatherLines_40 rfl rfl ?_
            refine gf_X10_18 (pc' := 44) (v := .ref 89) dX10_gatherLines_41 rfl rfl rfl ?_
            refine jb_iload_n (pc' := 45) dX10_gatherLines_44 rfl rfl ?_
            refine jb_iconst (pc' := 46) 1 dX10_gatherLines_45 (by decide) rfl ?_
            refine jb_iadd (pc' := 47) dX10_gatherLines_46 rfl ?_
            refine jb_top (v := .int ((nI i) + 1)) (w := .int (nI (i + 1))) (jb_vI (nI_add _ 1)) ?_
            refine jb_iaload (pc' := 48) (i9 := (i + 1)) (f := nums) dX10_gatherLines_47 rfl (jb_ix_nI (by omega)) (by omega) rfl ?_
            refine jb_iconst (pc' := 49) 0 dX10_gatherLines_48 (by decide) rfl ?_
            refine jb_sipush (pc' := 52) 999 dX10_gatherLines_49 (by decide) rfl ?_
            refine jb_callSN (pc' := 55) (As := [.int (nums (i + 1)), .int 0, .int 999]) (a2 := 0) (b2 := 0) wv_X10_56 dX10_gatherLines_52 (c_isOutL (nums (i + 1)) 0 999 (by omega) (by omega)) rfl ⟨by decide, Nat.le_of_eq (Nat.zero_add _), Nat.le_of_eq (Nat.zero_add _)⟩ (Nat.le_of_ble_eq_true rfl) rfl (fun r h9 hq => ?_)
            rcases hq with ⟨rfl, ⟨o7, rfl⟩ | ⟨o7, rfl⟩⟩
            · show jb_J _ RX10 cX10_gatherLines 2 (Option.none : Option Jvm.ClassFile.FieldType) false 1 0 0 55 [some (.ref 88), some (.int (nI i))] [.int 1] [s0, s1, s2, s3, s4, s5, s6, jb_sht88 Is nums Js Ws, s8, s9, s10, s11] _
              refine jb_if_eq (tgt := 61) (pc' := 58) dX10_gatherLines_55 (by decide) rfl (fun z => absurd z (by decide)) (fun _ => ?_)
              refine jb_goto (pc' := 103) dX10_gatherLines_58 (by decide) ?_
              refine jb_iinc_ (pc' := 106) (nI (i + 2)) dX10_gatherLines_103 (by decide) rfl (jb_inc i 2) (jb_at1 rfl) rfl ?_
              refine jb_goto (pc' := 7) dX10_gatherLines_106 (by decide) ?_
              exact ih (i + 2) acc Js Ws (by omega) (by omega) ⟨p1, p2, p3⟩
            · exact absurd ⟨(jy_rng (n := 1) (by decide)).mp (by assumption), (jy_rng (n := 999) (by decide)).mp (by assumption)⟩ hv
      · rw [if_neg (fun z => hl z.2)] at eG
        rw [eG]
        show jb_J _ RX10 cX10_gatherLines 2 (Option.none : Option Jvm.ClassFile.FieldType) false 1 0 0 7 [some (.ref 88), some (.int (nI i))] [] [s0, s1, s2, s3, s4, s5, s6, jb_sht88 Is nums Js Ws, s8, s9, s10, s11] _
        refine jb_iload_n (pc' := 8) dX10_gatherLines_7 rfl rfl ?_
        refine jb_iconst (pc' := 9) 1 dX10_gatherLines_8 (by decide) rfl ?_
        refine jb_iadd (pc' := 10) dX10_gatherLines_9 rfl ?_
        refine jb_top (v := .int ((nI i) + 1)) (w := .int (nI (i + 1))) (jb_vI (nI_add _ 1)) ?_
        refine jb_aload_n (pc' := 11) dX10_gatherLines_10 rfl rfl ?_
        refine gf_X10_15 (pc' := 14) (v := .int (Is 1)) dX10_gatherLines_11 rfl rfl rfl ?_
        refine jb_top (v := .int (Is 1)) (w := .int (nI zs)) (jb_vI h1s) ?_
        refine jb_icmp_ge (tgt := 109) (pc' := 17) dX10_gatherLines_14 (by decide) rfl (fun z => absurd z (nI_ge (a := i + 1) (b := zs) (by omega) (by omega))) (fun _ => ?_)
        refine jb_aload_n (pc' := 18) dX10_gatherLines_17 rfl rfl ?_
        refine gf_X10_34 (pc' := 21) (v := .int (Js 1)) dX10_gatherLines_18 rfl rfl rfl ?_
        refine jb_top (v := .int (Js 1)) (w := .int (nI acc.length)) (jb_vI p1) ?_
        refine jb_bipush (pc' := 23) 12 dX10_gatherLines_21 (by decide) rfl ?_
        refine jb_icmp_ge (tgt := 109) (pc' := 26) dX10_gatherLines_23 (by decide) rfl (fun _ => ?_) (fun z => absurd (nI_le (a := 12) (b := acc.length) (by omega) (by omega)) z)
        refine jb_vret dX10_gatherLines_109 ?_
        exact ⟨rfl, Js, Ws, ⟨p1, p2, p3⟩, rfl⟩
    · rw [if_neg (fun z => hi1 z.1)] at eG
      rw [eG]
      show jb_J _ RX10 cX10_gatherLines 2 (Option.none : Option Jvm.ClassFile.FieldType) false 1 0 0 7 [some (.ref 88), some (.int (nI i))] [] [s0, s1, s2, s3, s4, s5, s6, jb_sht88 Is nums Js Ws, s8, s9, s10, s11] _
      refine jb_iload_n (pc' := 8) dX10_gatherLines_7 rfl rfl ?_
      refine jb_iconst (pc' := 9) 1 dX10_gatherLines_8 (by decide) rfl ?_
      refine jb_iadd (pc' := 10) dX10_gatherLines_9 rfl ?_
      refine jb_top (v := .int ((nI i) + 1)) (w := .int (nI (i + 1))) (jb_vI (nI_add _ 1)) ?_
      refine jb_aload_n (pc' := 11) dX10_gatherLines_10 rfl rfl ?_
      refine gf_X10_15 (pc' := 14) (v := .int (Is 1)) dX10_gatherLines_11 rfl rfl rfl ?_
      refine jb_top (v := .int (Is 1)) (w := .int (nI zs)) (jb_vI h1s) ?_
      refine jb_icmp_ge (tgt := 109) (pc' := 17) dX10_gatherLines_14 (by decide) rfl (fun _ => ?_) (fun z => absurd (nI_le (a := zs) (b := i + 1) (by omega) (by omega)) z)
      refine jb_vret dX10_gatherLines_109 ?_
      exact ⟨rfl, Js, Ws, ⟨p1, p2, p3⟩, rfl⟩
set_option maxRecDepth 100000 in
set_option maxHeartbeats 4000000 in
theorem c_gatherL_2 {sc : Nat × (Nat → Int32)} {s0 s1 s2 s3 s4 s5 s6 s8 s9 s10 s11 : List va_E} (Is nums Js : Nat → Int32) (Ws : Nat → Nat → Int32) (zs : Nat) (h1s : Is 1 = nI zs) (hzs : zs ≤ 40) : jb_C sc yX10_gatherLines cX10_gatherLines 2 (Option.none : Option Jvm.ClassFile.FieldType) 1 0 0 [.ref 88] [s0, s1, s2, s3, s4, s5, s6, jb_sht88 Is nums Js Ws, s8, s9, s10, s11] (fun r h9 => r = none ∧ ∃ (J9 : Nat → Int32) (W9 : Nat → Nat → Int32), (J9 1 = nI (jy_ga nums zs zs 0 []).length ∧ jy_in (jy_ga nums zs zs 0 []) ∧ (∀ j, j < (jy_ga nums zs zs 0 []).length → W9 3 j = nI ((jy_ga nums zs zs 0 []).getD j (0, 0)).1 ∧ W9 4 j = nI ((jy_ga nums zs zs 0 []).getD j (0, 0)).2)) ∧ h9 = [s0, s1, s2, s3, s4, s5, s6, jb_sht88 Is nums J9 W9, s8, s9, s10, s11]) := by
  refine jb_CofJ (ini := false) (by decide +kernel) (fun h => by cases h) (Nat.le_of_ble_eq_true rfl) ?_
  show jb_J sc RX10 cX10_gatherLines 2 (Option.none : Option Jvm.ClassFile.FieldType) false 1 0 0 0 [some (.ref 88), none] [] [s0, s1, s2, s3, s4, s5, s6, jb_sht88 Is nums Js Ws, s8, s9, s10, s11] _
  refine jb_aload_n (pc' := 1) dX10_gatherLines_0 rfl rfl ?_
  refine jb_iconst (pc' := 2) 0 dX10_gatherLines_1 (by decide) rfl ?_
  refine pf_X10_34 (pc' := 5) (h' := [s0, s1, s2, s3, s4, s5, s6, jb_sht88 Is nums (upd Js 1 0) Ws, s8, s9, s10, s11]) dX10_gatherLines_2 (fun _ => ⟨rfl, rfl⟩) rfl (Nat.le_of_ble_eq_true rfl) rfl rfl ?_
  refine jb_iconst (pc' := 6) 0 dX10_gatherLines_5 (by decide) rfl ?_
  refine jb_istore_n_ (pc' := 7) dX10_gatherLines_6 (by decide) (jb_at1 rfl) rfl ?_
  exact l_gatherL_2 Is nums zs h1s hzs zs 0 [] (upd Js 1 0) Ws (by omega) (by omega) ⟨rfl, ⟨by decide, fun j hj => absurd hj (Nat.not_lt_zero _)⟩, fun j hj => absurd hj (Nat.not_lt_zero _)⟩
set_option maxRecDepth 100000 in
set_option maxHeartbeats 4000000 in
theorem c_secondOn0_2 {sc : Nat × (Nat → Int32)} {s0 s1 s2 s3 s4 s5 s6 s8 s9 s10 s11 : List va_E} (Is nums Js : Nat → Int32) (Ws : Nat → Nat → Int32) (ls : List (Nat × Nat)) (g : Nat) (hg : g ≤ 40) (hln : Js 1 = nI ls.length ∧ jy_in ls ∧ (∀ j, j < ls.length → Ws 3 j = nI (ls.getD j (0, 0)).1 ∧ Ws 4 j = nI (ls.getD j (0, 0)).2)) (a : Nat) (ha : a < ls.length) : jb_C sc yX10_secondOn cX10_secondOn 4 (Option.some .int) 0 0 0 [.ref 88, .int 0, .int (nI a), .int (nI g)] [s0, s1, s2, s3, s4, s5, s6, jb_sht88 Is nums Js Ws, s8, s9, s10, s11] (fun r h9 => r = some (.int (nI (jy_on 0 g (ls.getD a (0, 0))))) ∧ [s0, s1, s2, s3, s4, s5, s6, jb_sht88 Is nums Js Ws, s8, s9, s10, s11] = h9) := by
  refine jb_CofJ (ini := false) (by decide +kernel) (fun h => by cases h) (Nat.le_of_ble_eq_true rfl) ?_
  show jb_J sc RX10 cX10_secondOn 4 (Option.some .int) false 0 0 0 0 [some (.ref 88), some (.int 0), some (.int (nI a)), some (.int (nI g))] [] [s0, s1, s2, s3, s4, s5, s6, jb_sht88 Is nums Js Ws, s8, s9, s10, s11] _
  obtain ⟨p1, p2, p3⟩ := hln
  have b1 := p2.1
  have b2 := p2.2 a ha
  refine jb_aload_n (pc' := 1) dX10_secondOn_0 rfl rfl ?_
  refine gf_X10_37 (pc' := 4) (v := .ref 93) dX10_secondOn_1 rfl rfl rfl ?_
  refine jb_iload_n (pc' := 5) dX10_secondOn_4 rfl rfl ?_
  refine jb_iaload (pc' := 6) (i9 := a) (f := (Ws 3)) dX10_secondOn_5 rfl (jb_ix_nI (by omega)) (by omega) rfl ?_
  refine jb_top (v := .int ((Ws 3) a)) (w := .int (nI (ls.getD a (0, 0)).1)) (jb_vI (p3 a ha).1) ?_
  refine jb_iload_n (pc' := 7) dX10_secondOn_6 rfl rfl ?_
  refine jb_icmp_ne (tgt := 19) (pc' := 10) dX10_secondOn_7 (by decide) rfl (fun hcc => ?_) (fun hcc => ?_)
  · have hcc : ¬ (ls.getD a (0, 0)).1 = 0 := fun z => hcc (by rw [z]; rfl)
    refine jb_aload_n (pc' := 20) dX10_secondOn_19 rfl rfl ?_
    refine gf_X10_40 (pc' := 23) (v := .ref 94) dX10_secondOn_20 rfl rfl rfl ?_
    refine jb_iload_n (pc' := 24) dX10_secondOn_23 rfl rfl ?_
    refine jb_iaload (pc' := 25) (i9 := a) (f := (Ws 4)) dX10_secondOn_24 rfl (jb_ix_nI (by omega)) (by omega) rfl ?_
    refine jb_top (v := .int ((Ws 4) a)) (w := .int (nI (ls.getD a (0, 0)).2)) (jb_vI (p3 a ha).2) ?_
    refine jb_iload_n (pc' := 26) dX10_secondOn_25 rfl rfl ?_
    refine jb_iadd (pc' := 27) dX10_secondOn_26 rfl ?_
    refine jb_top (v := .int ((nI (ls.getD a (0, 0)).2) + (nI g))) (w := .int (nI ((ls.getD a (0, 0)).2 + g))) (jb_vI (nI_add _ _)) ?_
    refine jb_iret dX10_secondOn_27 rfl ?_
    refine ⟨congrArg (fun q => some (Value.int (nI q))) ?_, rfl⟩
    unfold jy_on
    first | exact (if_pos (by omega)).symm | exact (if_neg (by omega)).symm
  · have hcc : (ls.getD a (0, 0)).1 = 0 := (nI_eq (a := (ls.getD a (0, 0)).1) (b := 0) (by omega) (by omega)).mp hcc
    refine jb_aload_n (pc' := 11) dX10_secondOn_10 rfl rfl ?_
    refine gf_X10_40 (pc' := 14) (v := .ref 94) dX10_secondOn_11 rfl rfl rfl ?_
    refine jb_iload_n (pc' := 15) dX10_secondOn_14 rfl rfl ?_
    refine jb_iaload (pc' := 16) (i9 := a) (f := (Ws 4)) dX10_secondOn_15 rfl (jb_ix_nI (by omega)) (by omega) rfl ?_
    refine jb_top (v := .int ((Ws 4) a)) (w := .int (nI (ls.getD a (0, 0)).2)) (jb_vI (p3 a ha).2) ?_
    refine jb_goto (pc' := 27) dX10_secondOn_16 (by decide) ?_
    refine jb_iret dX10_secondOn_27 rfl ?_
    refine ⟨congrArg (fun q => some (Value.int (nI q))) ?_, rfl⟩
    unfold jy_on
    first | exact (if_pos (by omega)).symm | exact (if_neg (by omega)).symm
set_option maxRecDepth 100000 in
set_option maxHeartbeats 4000000 in
theorem c_secondOn1_2 {sc : Nat × (Nat → Int32)} {s0 s1 s2 s3 s4 s5 s6 s8 s9 s10 s11 : List va_E} (Is nums Js : Nat → Int32) (Ws : Nat → Nat → Int32) (ls : List (Nat × Nat)) (g : Nat) (hg : g ≤ 40) (hln : Js 1 = nI ls.length ∧ jy_in ls ∧ (∀ j, j < ls.length → Ws 3 j = nI (ls.getD j (0, 0)).1 ∧ Ws 4 j = nI (ls.getD j (0, 0)).2)) (a : Nat) (ha : a < ls.length) : jb_C sc yX10_secondOn cX10_secondOn 4 (Option.some .int) 0 0 0 [.ref 88, .int 1, .int (nI a), .int (nI g)] [s0, s1, s2, s3, s4, s5, s6, jb_sht88 Is nums Js Ws, s8, s9, s10, s11] (fun r h9 => r = some (.int (nI (jy_on 1 g (ls.getD a (0, 0))))) ∧ [s0, s1, s2, s3, s4, s5, s6, jb_sht88 Is nums Js Ws, s8, s9, s10, s11] = h9) := by
  refine jb_CofJ (ini := false) (by decide +kernel) (fun h => by cases h) (Nat.le_of_ble_eq_true rfl) ?_
  show jb_J sc RX10 cX10_secondOn 4 (Option.some .int) false 0 0 0 0 [some (.ref 88), some (.int 1), some (.int (nI a)), some (.int (nI g))] [] [s0, s1, s2, s3, s4, s5, s6, jb_sht88 Is nums Js Ws, s8, s9, s10, s11] _
  obtain ⟨p1, p2, p3⟩ := hln
  have b1 := p2.1
  have b2 := p2.2 a ha
  refine jb_aload_n (pc' := 1) dX10_secondOn_0 rfl rfl ?_
  refine gf_X10_37 (pc' := 4) (v := .ref 93) dX10_secondOn_1 rfl rfl rfl ?_
  refine jb_iload_n (pc' := 5) dX10_secondOn_4 rfl rfl ?_
  refine jb_iaload (pc' := 6) (i9 := a) (f := (Ws 3)) dX10_secondOn_5 rfl (jb_ix_nI (by omega)) (by omega) rfl ?_
  refine jb_top (v := .int ((Ws 3) a)) (w := .int (nI (ls.getD a (0, 0)).1)) (jb_vI (p3 a ha).1) ?_
  refine jb_iload_n (pc' := 7) dX10_secondOn_6 rfl rfl ?_
  refine jb_icmp_ne (tgt := 19) (pc' := 10) dX10_secondOn_7 (by decide) rfl (fun hcc => ?_) (fun hcc => ?_)
  · have hcc : ¬ (ls.getD a (0, 0)).1 = 1 := fun z => hcc (by rw [z]; rfl)
    refine jb_aload_n (pc' := 20) dX10_secondOn_19 rfl rfl ?_
    refine gf_X10_40 (pc' := 23) (v := .ref 94) dX10_secondOn_20 rfl rfl rfl ?_
    refine jb_iload_n (pc' := 24) dX10_secondOn_23 rfl rfl ?_
    refine jb_iaload (pc' := 25) (i9 := a) (f := (Ws 4)) dX10_secondOn_24 rfl (jb_ix_nI (by omega)) (by omega) rfl ?_
    refine jb_top (v := .int ((Ws 4) a)) (w := .int (nI (ls.getD a (0, 0)).2)) (jb_vI (p3 a ha).2) ?_
    refine jb_iload_n (pc' := 26) dX10_secondOn_25 rfl rfl ?_
    refine jb_iadd (pc' := 27) dX10_secondOn_26 rfl ?_
    refine jb_top (v := .int ((nI (ls.getD a (0, 0)).2) + (nI g))) (w := .int (nI ((ls.getD a (0, 0)).2 + g))) (jb_vI (nI_add _ _)) ?_
    refine jb_iret dX10_secondOn_27 rfl ?_
    refine ⟨congrArg (fun q => some (Value.int (nI q))) ?_, rfl⟩
    unfold jy_on
    first | exact (if_pos (by omega)).symm | exact (if_neg (by omega)).symm
  · have hcc : (ls.getD a (0, 0)).1 = 1 := (nI_eq (a := (ls.getD a (0, 0)).1) (b := 1) (by omega) (by omega)).mp hcc
    refine jb_aload_n (pc' := 11) dX10_secondOn_10 rfl rfl ?_
    refine gf_X10_40 (pc' := 14) (v := .ref 94) dX10_secondOn_11 rfl rfl rfl ?_
    refine jb_iload_n (pc' := 15) dX10_secondOn_14 rfl rfl ?_
    refine jb_iaload (pc' := 16) (i9 := a) (f := (Ws 4)) dX10_secondOn_15 rfl (jb_ix_nI (by omega)) (by omega) rfl ?_
    refine jb_top (v := .int ((Ws 4) a)) (w := .int (nI (ls.getD a (0, 0)).2)) (jb_vI (p3 a ha).2) ?_
    refine jb_goto (pc' := 27) dX10_secondOn_16 (by decide) ?_
    refine jb_iret dX10_secondOn_27 rfl ?_
    refine ⟨congrArg (fun q => some (Value.int (nI q))) ?_, rfl⟩
    unfold jy_on
    first | exact (if_pos (by omega)).symm | exact (if_neg (by omega)).symm
set_option maxRecDepth 100000 in
set_option maxHeartbeats 4000000 in
theorem l_fg1_2 {sc : Nat × (Nat → Int32)} {s0 s1 s2 s3 s4 s5 s6 s8 s9 s10 s11 : List va_E} (Is nums Js : Nat → Int32) (Ws : Nat → Nat → Int32) (ls : List (Nat × Nat)) (g : Nat) (hg : g ≤ 40) (hln : Js 1 = nI ls.length ∧ jy_in ls ∧ (∀ j, j < ls.length → Ws 3 j = nI (ls.getD j (0, 0)).1 ∧ Ws 4 j = nI (ls.getD j (0, 0)).2)) (Q : Option Value → jb_H → Prop) (a : Nat) (ha : a < ls.length) (hret : ∀ b, b < a → jy_k g (ls.getD a (0, 0)) (ls.getD b (0, 0)) → Q (some (.int 0)) [s0, s1, s2, s3, s4, s5, s6, jb_sht88 Is nums Js Ws, s8, s9, s10, s11]) (hgo : ∀ x3, (∀ b, b < a → ¬ jy_k g (ls.getD a (0, 0)) (ls.getD b (0, 0))) → jb_J sc RX10 cX10_fitsGap 4 (Option.some .boolean) false 1 0 0 59 [some (.ref 88), some (.int (nI g)), some (.int (nI a)), x3] [] [s0, s1, s2, s3, s4, s5, s6, jb_sht88 Is nums Js Ws, s8, s9, s10, s11] Q) : ∀ (n b : Nat), b + n = a → (∀ c, c < b → ¬ jy_k g (ls.getD a (0, 0)) (ls.getD c (0, 0))) → jb_J sc RX10 cX10_fitsGap 4 (Option.some .boolean) false 1 0 0 12 [some (.ref 88), some (.int (nI g)), some (.int (nI a)), some (.int (nI b))] [] [s0, s1, s2, s3, s4, s5, s6, jb_sht88 Is nums Js Ws, s8, s9, s10, s11] Q := by
  have b1 := hln.2.1.1
  intro n
  induction n with
  | zero =>
    intro b hb hno
    show jb_J _ RX10 cX10_fitsGap 4 (Option.some .boolean) false 1 0 0 12 [some (.ref 88), some (.int (nI g)), some (.int (nI a)), some (.int (nI b))] [] [s0, s1, s2, s3, s4, s5, s6, jb_sht88 Is nums Js Ws, s8, s9, s10, s11] _
    refine jb_iload_n (pc' := 13) dX10_fitsGap_12 rfl rfl ?_
    refine jb_iload_n (pc' := 14) dX10_fitsGap_13 rfl rfl ?_
    refine jb_icmp_ge (tgt := 59) (pc' := 17) dX10_fitsGap_14 (by decide) rfl (fun _ => ?_) (fun z => absurd (nI_le (a := a) (b := b) (by omega) (by omega)) z)
    exact hgo _ (fun c hc => hno c (by omega))
  | succ n ih =>
    intro b hb hno
    have xa := hln.2.1.2 a ha
    have xb := hln.2.1.2 b (by omega)
    have o0 := jy_on_le (c := 0) xa.2 hg
    have u0 := jy_on_le (c := 0) xb.2 hg
    have o1 := jy_on_le (c := 1) xa.2 hg
    have u1 := jy_on_le (c := 1) xb.2 hg
    show jb_J _ RX10 cX10_fitsGap 4 (Option.some .boolean) false 1 0 0 12 [some (.ref 88), some (.int (nI g)), some (.int (nI a)), some (.int (nI b))] [] [s0, s1, s2, s3, s4, s5, s6, jb_sht88 Is nums Js Ws, s8, s9, s10, s11] _
    refine jb_iload_n (pc' := 13) dX10_fitsGap_12 rfl rfl ?_
    refine jb_iload_n (pc' := 14) dX10_fitsGap_13 rfl rfl ?_
    refine jb_icmp_ge (tgt := 59) (pc' := 17) dX10_fitsGap_14 (by decide) rfl (fun z => absurd z (nI_ge (a := b) (b := a) (by omega) (by omega))) (fun _ => ?_)
    refine jb_aload_n (pc' := 18) dX10_fitsGap_17 rfl rfl ?_
    refine jb_iconst (pc' := 19) 0 dX10_fitsGap_18 (by decide) rfl ?_
    refine jb_iload_n (pc' := 20) dX10_fitsGap_19 rfl rfl ?_
    refine jb_iload_n (pc' := 21) dX10_fitsGap_20 rfl rfl ?_
    refine jb_callV (pc' := 24) (ci := 10) (q := 88) (As := [.int 0, .int (nI a), .int (nI g)]) (a2 := 0) (b2 := 0) wv_X10_69 rfl dX10_fitsGap_21 (c_secondOn0_2 Is nums Js Ws ls g hg hln a (by omega)) rfl rfl ⟨by decide, Nat.le_of_eq (Nat.zero_add _), Nat.le_of_eq (Nat.zero_add _)⟩ (Nat.le_of_ble_eq_true rfl) rfl (fun r h9 hq => ?_)
    obtain ⟨rfl, rfl⟩ := hq
    show jb_J _ RX10 cX10_fitsGap 4 (Option.some .boolean) false 1 0 0 24 [some (.ref 88), some (.int (nI g)), some (.int (nI a)), some (.int (nI b))] [.int (nI (jy_on 0 g (ls.getD a (0, 0))))] [s0, s1, s2, s3, s4, s5, s6, jb_sht88 Is nums Js Ws, s8, s9, s10, s11] _
    refine jb_aload_n (pc' := 25) dX10_fitsGap_24 rfl rfl ?_
    refine jb_iconst (pc' := 26) 0 dX10_fitsGap_25 (by decide) rfl ?_
    refine jb_iload_n (pc' := 27) dX10_fitsGap_26 rfl rfl ?_
    refine jb_iload_n (pc' := 28) dX10_fitsGap_27 rfl rfl ?_
    refine jb_callV (pc' := 31) (ci := 10) (q := 88) (As := [.int 0, .int (nI b), .int (nI g)]) (a2 := 0) (b2 := 0) wv_X10_69 rfl dX10_fitsGap_28 (c_secondOn0_2 Is nums Js Ws ls g hg hln b (by omega)) rfl rfl ⟨by decide, Nat.le_of_eq (Nat.zero_add _), Nat.le_of_eq (Nat.zero_add _)⟩ (Nat.le_of_ble_eq_true rfl) rfl (fun r h9 hq => ?_)
    obtain ⟨rfl, rfl⟩ := hq
    show jb_J _ RX10 cX10_fitsGap 4 (Option.some .boolean) false 1 0 0 31 [some (.ref 88), some (.int (nI g)), some (.int (nI a)), some (.int (nI b))] [.int (nI (jy_on 0 g (ls.getD b (0, 0)))), .int (nI (jy_on 0 g (ls.getD a (0, 0))))] [s0, s1, s2, s3, s4, s5, s6, jb_sht88 Is nums Js Ws, s8, s9, s10, s11] _
    refine jb_icmp_eq (tgt := 51) (pc' := 34) dX10_fitsGap_31 (by decide) rfl (fun c2 => ?_) (fun c2 => ?_)
    · have c2 : (jy_on 0 g (ls.getD a (0, 0))) = (jy_on 0 g (ls.getD b (0, 0))) := (nI_eq (a := (jy_on 0 g (ls.getD a (0, 0)))) (b := (jy_on 0 g (ls.getD b (0, 0)))) (by omega) (by omega)).mp c2
      refine jb_iconst (pc' := 52) 0 dX10_fitsGap_51 (by decide) rfl ?_
      refine jb_iret dX10_fitsGap_52 rfl ?_
      exact hret b (by omega) ((jy_cl xa.1 xb.1).mp (by first | exact Or.inl (by assumption) | exact Or.inr (by assumption)))
    · have c2 : ¬ (jy_on 0 g (ls.getD a (0, 0))) = (jy_on 0 g (ls.getD b (0, 0))) := fun z9 => c2 ((nI_eq (a := (jy_on 0 g (ls.getD a (0, 0)))) (b := (jy_on 0 g (ls.getD b (0, 0)))) (by omega) (by omega)).mpr z9)
      refine jb_aload_n (pc' := 35) dX10_fitsGap_34 rfl rfl ?_
      refine jb_iconst (pc' := 36) 1 dX10_fitsGap_35 (by decide) rfl ?_
      refine jb_iload_n (pc' := 37) dX10_fitsGap_36 rfl rfl ?_
      refine jb_iload_n (pc' := 38) dX10_fitsGap_37 rfl rfl ?_
      refine jb_callV (pc' := 41) (ci := 10) (q := 88) (As := [.int 1, .int (nI a), .int (nI g)]) (a2 := 0) (b2 := 0) wv_X10_69 rfl dX10_fitsGap_38 (c_secondOn1_2 Is nums Js Ws ls g hg hln a (by omega)) rfl rfl ⟨by decide, Nat.le_of_eq (Nat.zero_add _), Nat.le_of_eq (Nat.zero_add _)⟩ (Nat.le_of_ble_eq_true rfl) rfl (fun r h9 hq => ?_)
      obtain ⟨rfl, rfl⟩ := hq
      show jb_J _ RX10 cX10_fitsGap 4 (Option.some .boolean) false 1 0 0 41 [some (.ref 88), some (.int (nI g)), some (.int (nI a)), some (.int (nI b))] [.int (nI (jy_on 1 g (ls.getD a (0, 0))))] [s0, s1, s2, s3, s4, s5, s6, jb_sht88 Is nums Js Ws, s8, s9, s10, s11] _
      refine jb_aload_n (pc' := 42) dX10_fitsGap_41 rfl rfl ?_
      refine jb_iconst (pc' := 43) 1 dX10_fitsGap_42 (by decide) rfl ?_
      refine jb_iload_n (pc' := 44) dX10_fitsGap_43 rfl rfl ?_
      refine jb_iload_n (pc' := 45) dX10_fitsGap_44 rfl rfl ?_
      refine jb_callV (pc' := 48) (ci := 10) (q := 88) (As := [.int 1, .int (nI b), .int (nI g)]) (a2 := 0) (b2 := 0) wv_X10_69 rfl dX10_fitsGap_45 (c_secondOn1_2 Is nums Js Ws ls g hg hln b (by omega)) rfl rfl ⟨by decide, Nat.le_of_eq (Nat.zero_add _), Nat.le_of_eq (Nat.zero_add _)⟩ (Nat.le_of_ble_eq_true rfl) rfl (fun r h9 hq => ?_)
      obtain ⟨rfl, rfl⟩ := hq
      show jb_J _ RX10 cX10_fitsGap 4 (Option.some .boolean) false 1 0 0 48 [some (.ref 88), some (.int (nI g)), some (.int (nI a)), some (.int (nI b))] [.int (nI (jy_on 1 g (ls.getD b (0, 0)))), .int (nI (jy_on 1 g (ls.getD a (0, 0))))] [s0, s1, s2, s3, s4, s5, s6, jb_sht88 Is nums Js Ws, s8, s9, s10, s11] _
      refine jb_icmp_ne (tgt := 53) (pc' := 51) dX10_fitsGap_48 (by decide) rfl (fun c3 => ?_) (fun c3 => ?_)
      · have c3 : ¬ (jy_on 1 g (ls.getD a (0, 0))) = (jy_on 1 g (ls.getD b (0, 0))) := fun z9 => c3 ((nI_eq (a := (jy_on 1 g (ls.getD a (0, 0)))) (b := (jy_on 1 g (ls.getD b (0, 0)))) (by omega) (by omega)).mpr z9)
        refine jb_iinc_ (pc' := 56) (nI (b + 1)) dX10_fitsGap_53 (by decide) rfl (jb_inc b 1) (jb_at3 rfl) rfl ?_
        refine jb_goto (pc' := 12) dX10_fitsGap_56 (by decide) ?_
        exact ih (b + 1) (by omega) (fun c hc => by
          by_cases e : c = b
          · rw [e]; exact fun z => ((jy_cl xa.1 xb.1).mpr z).elim (by assumption) (by assumption)
          · exact hno c (by omega))
      · have c3 : (jy_on 1 g (ls.getD a (0, 0))) = (jy_on 1 g (ls.getD b (0, 0))) := (nI_eq (a := (jy_on 1 g (ls.getD a (0, 0)))) (b := (jy_on 1 g (ls.getD b (0, 0)))) (by omega) (by omega)).mp c3
        refine jb_iconst (pc' := 52) 0 dX10_fitsGap_51 (by decide) rfl ?_
        refine jb_iret dX10_fitsGap_52 rfl ?_
        exact hret b (by omega) ((jy_cl xa.1 xb.1).mp (by first | exact Or.inl (by assumption) | exact Or.inr (by assumption)))
set_option maxRecDepth 100000 in
set_option maxHeartbeats 4000000 in
theorem l_fg_2 {sc : Nat × (Nat → Int32)} {s0 s1 s2 s3 s4 s5 s6 s8 s9 s10 s11 : List va_E} (Is nums Js : Nat → Int32) (Ws : Nat → Nat → Int32) (ls : List (Nat × Nat)) (g : Nat) (hg : g ≤ 40) (hln : Js 1 = nI ls.length ∧ jy_in ls ∧ (∀ j, j < ls.length → Ws 3 j = nI (ls.getD j (0, 0)).1 ∧ Ws 4 j = nI (ls.getD j (0, 0)).2)) : ∀ (n a : Nat) (x3 : Option Value), a + n = ls.length → (∀ c b, b < c → c < a → ¬ jy_k g (ls.getD c (0, 0)) (ls.getD b (0, 0))) → jb_J sc RX10 cX10_fitsGap 4 (Option.some .boolean) false 1 0 0 2 [some (.ref 88), some (.int (nI g)), some (.int (nI a)), x3] [] [s0, s1, s2, s3, s4, s5, s6, jb_sht88 Is nums Js Ws, s8, s9, s10, s11] (fun r h9 => [s0, s1, s2, s3, s4, s5, s6, jb_sht88 Is nums Js Ws, s8, s9, s10, s11] = h9 ∧ ((jy_f ls g ∧ r = some (.int 1)) ∨ (¬ jy_f ls g ∧ r = some (.int 0)))) := by
  have b1 := hln.2.1.1
  intro n
  induction n with
  | zero =>
    intro a x3 ha hno
    show jb_J _ RX10 cX10_fitsGap 4 (Option.some .boolean) false 1 0 0 2 [some (.ref 88), some (.int (nI g)), some (.int (nI a)), x3] [] [s0, s1, s2, s3, s4, s5, s6, jb_sht88 Is nums Js Ws, s8, s9, s10, s11] _
    refine jb_iload_n (pc' := 3) dX10_fitsGap_2 rfl rfl ?_
    refine jb_aload_n (pc' := 4) dX10_fitsGap_3 rfl rfl ?_
    refine gf_X10_34 (pc' := 7) (v := .int (Js 1)) dX10_fitsGap_4 rfl rfl rfl ?_
    refine jb_top (v := .int (Js 1)) (w := .int (nI ls.length)) (jb_vI hln.1) ?_
    refine jb_icmp_ge (tgt := 65) (pc' := 10) dX10_fitsGap_7 (by decide) rfl (fun _ => ?_) (fun z => absurd (nI_le (a := ls.length) (b := a) (by omega) (by omega)) z)
    refine jb_iconst (pc' := 66) 1 dX10_fitsGap_65 (by decide) rfl ?_
    refine jb_iret dX10_fitsGap_66 rfl ?_
    exact ⟨rfl, Or.inl ⟨fun c b h1 h2 => hno c b h1 (by omega), rfl⟩⟩
  | succ n ih =>
    intro a x3 ha hno
    show jb_J _ RX10 cX10_fitsGap 4 (Option.some .boolean) false 1 0 0 2 [some (.ref 88), some (.int (nI g)), some (.int (nI a)), x3] [] [s0, s1, s2, s3, s4, s5, s6, jb_sht88 Is nums Js Ws, s8, s9, s10, s11] _
    refine jb_iload_n (pc' := 3) dX10_fitsGap_2 rfl rfl ?_
    refine jb_aload_n (pc' := 4) dX10_fitsGap_3 rfl rfl ?_
    refine gf_X10_34 (pc' := 7) (v := .int (Js 1)) dX10_fitsGap_4 rfl rfl rfl ?_
    refine jb_top (v := .int (Js 1)) (w := .int (nI ls.length)) (jb_vI hln.1) ?_
    refine jb_icmp_ge (tgt := 65) (pc' := 10) dX10_fitsGap_7 (by decide) rfl (fun z => absurd z (nI_ge (a := a) (b := ls.length) (by omega) (by omega))) (fun _ => ?_)
    refine jb_iconst (pc' := 11) 0 dX10_fitsGap_10 (by decide) rfl ?_
    refine jb_istore_n_ (pc' := 12) dX10_fitsGap_11 (by decide) (jb_at3 rfl) rfl ?_
    refine l_fg1_2 Is nums Js Ws ls g hg hln _ a (by omega) (fun b hb z => ⟨rfl, Or.inr ⟨fun q => q a b hb (by omega) z, rfl⟩⟩) (fun x3 hno2 => ?_) a 0 (by omega) (fun c hc => absurd hc (by omega))
    show jb_J _ RX10 cX10_fitsGap 4 (Option.some .boolean) false 1 0 0 59 [some (.ref 88), some (.int (nI g)), some (.int (nI a)), x3] [] [s0, s1, s2, s3, s4, s5, s6, jb_sht88 Is nums Js Ws, s8, s9, s10, s11] _
    refine jb_iinc_ (pc' := 62) (nI (a + 1)) dX10_fitsGap_59 (by decide) rfl (jb_inc a 1) (jb_at2 rfl) rfl ?_
    refine jb_goto (pc' := 2) dX10_fitsGap_62 (by decide) ?_
    exact ih (a + 1) _ (by omega) (fun c b h1 h2 => by
      by_cases e : c = a
      · subst e; exact hno2 b h1
      · exact hno c b h1 (by omega))
set_option maxRecDepth 100000 in
set_option maxHeartbeats 4000000 in
theorem c_fitsGap_2 {sc : Nat × (Nat → Int32)} {s0 s1 s2 s3 s4 s5 s6 s8 s9 s10 s11 : List va_E} (Is nums Js : Nat → Int32) (Ws : Nat → Nat → Int32) (ls : List (Nat × Nat)) (g : Nat) (hg : g ≤ 40) (hln : Js 1 = nI ls.length ∧ jy_in ls ∧ (∀ j, j < ls.length → Ws 3 j = nI (ls.getD j (0, 0)).1 ∧ Ws 4 j = nI (ls.getD j (0, 0)).2)) : jb_C sc yX10_fitsGap cX10_fitsGap 4 (Option.some .boolean) 1 0 0 [.ref 88, .int (nI g)] [s0, s1, s2, s3, s4, s5, s6, jb_sht88 Is nums Js Ws, s8, s9, s10, s11] (fun r h9 => [s0, s1, s2, s3, s4, s5, s6, jb_sht88 Is nums Js Ws, s8, s9, s10, s11] = h9 ∧ ((jy_f ls g ∧ r = some (.int 1)) ∨ (¬ jy_f ls g ∧ r = some (.int 0)))) := by
  refine jb_CofJ (ini := false) (by decide +kernel) (fun h => by cases h) (Nat.le_of_ble_eq_true rfl) ?_
  show jb_J sc RX10 cX10_fitsGap 4 (Option.some .boolean) false 1 0 0 0 [some (.ref 88), some (.int (nI g)), none, none] [] [s0, s1, s2, s3, s4, s5, s6, jb_sht88 Is nums Js Ws, s8, s9, s10, s11] _
  refine jb_iconst (pc' := 1) 0 dX10_fitsGap_0 (by decide) rfl ?_
  refine jb_istore_n_ (pc' := 2) dX10_fitsGap_1 (by decide) (jb_at2 rfl) rfl ?_
  exact l_fg_2 Is nums Js Ws ls g hg hln ls.length 0 _ (by omega) (fun c b h1 h2 => absurd h2 (by omega))
set_option maxRecDepth 100000 in
set_option maxHeartbeats 4000000 in
theorem l_least_2 {sc : Nat × (Nat → Int32)} {s0 s1 s2 s3 s4 s5 s6 s8 s9 s10 s11 : List va_E} (Is nums Js : Nat → Int32) (Ws : Nat → Nat → Int32) (ls : List (Nat × Nat)) (hln : Js 1 = nI ls.length ∧ jy_in ls ∧ (∀ j, j < ls.length → Ws 3 j = nI (ls.getD j (0, 0)).1 ∧ Ws 4 j = nI (ls.getD j (0, 0)).2)) : ∀ (n g : Nat), g + n = 41 → (∀ h, h < g → ¬ jy_f ls h) → jb_J sc RX10 cX10_leastFit 2 (Option.some .int) false 2 0 0 6 [some (.ref 88), some (.int (nI g))] [] [s0, s1, s2, s3, s4, s5, s6, jb_sht88 Is nums Js Ws, s8, s9, s10, s11] (fun r h9 => [s0, s1, s2, s3, s4, s5, s6, jb_sht88 Is nums Js Ws, s8, s9, s10, s11] = h9 ∧ ∃ v, jy_L (jy_f ls) v ∧ r = some (.int v)) := by
  intro n
  induction n with
  | zero =>
    intro g hg hno
    show jb_J _ RX10 cX10_leastFit 2 (Option.some .int) false 2 0 0 6 [some (.ref 88), some (.int (nI g))] [] [s0, s1, s2, s3, s4, s5, s6, jb_sht88 Is nums Js Ws, s8, s9, s10, s11] _
    refine jb_iload_n (pc' := 7) dX10_leastFit_6 rfl rfl ?_
    refine jb_bipush (pc' := 9) 40 dX10_leastFit_7 (by decide) rfl ?_
    refine jb_icmp_gt (tgt := 28) (pc' := 12) dX10_leastFit_9 (by decide) rfl (fun _ => ?_) (fun z => absurd (nI_lt (a := 40) (b := g) (by omega) (by omega)) z)
    refine jb_iconst (pc' := 29) (-1) dX10_leastFit_28 (by decide) rfl ?_
    refine jb_iret dX10_leastFit_29 rfl ?_
    exact ⟨rfl, -1, Or.inl ⟨rfl, fun h hh => hno h (by omega)⟩, rfl⟩
  | succ n ih =>
    intro g hg hno
    show jb_J _ RX10 cX10_leastFit 2 (Option.some .int) false 2 0 0 6 [some (.ref 88), some (.int (nI g))] [] [s0, s1, s2, s3, s4, s5, s6, jb_sht88 Is nums Js Ws, s8, s9, s10, s11] _
    refine jb_iload_n (pc' := 7) dX10_leastFit_6 rfl rfl ?_
    refine jb_bipush (pc' := 9) 40 dX10_leastFit_7 (by decide) rfl ?_
    refine jb_icmp_gt (tgt := 28) (pc' := 12) dX10_leastFit_9 (by decide) rfl (fun z => absurd z (nI_nlt (a := 40) (b := g) (by omega) (by omega))) (fun _ => ?_)
    refine jb_aload_n (pc' := 13) dX10_leastFit_12 rfl rfl ?_
    refine jb_iload_n (pc' := 14) dX10_leastFit_13 rfl rfl ?_
    refine jb_callV (pc' := 17) (ci := 10) (q := 88) (As := [.int (nI g)]) (a2 := 0) (b2 := 0) wv_X10_65 rfl dX10_leastFit_14 (c_fitsGap_2 Is nums Js Ws ls g (by omega) hln) rfl rfl ⟨by decide, Nat.le_of_eq (Nat.zero_add _), Nat.le_of_eq (Nat.zero_add _)⟩ (Nat.le_of_ble_eq_true rfl) rfl (fun r h9 hq => ?_)
    rcases hq with ⟨rfl, ⟨hfg, rfl⟩ | ⟨hfg, rfl⟩⟩
    · show jb_J _ RX10 cX10_leastFit 2 (Option.some .int) false 2 0 0 17 [some (.ref 88), some (.int (nI g))] [.int 1] [s0, s1, s2, s3, s4, s5, s6, jb_sht88 Is nums Js Ws, s8, s9, s10, s11] _
      refine jb_if_eq (tgt := 22) (pc' := 20) dX10_leastFit_17 (by decide) rfl (fun z => absurd z (by decide)) (fun _ => ?_)
      refine jb_iload_n (pc' := 21) dX10_leastFit_20 rfl rfl ?_
      refine jb_iret dX10_leastFit_21 rfl ?_
      exact ⟨rfl, nI g, Or.inr ⟨g, by omega, rfl, hfg, hno⟩, rfl⟩
    · show jb_J _ RX10 cX10_leastFit 2 (Option.some .int) false 2 0 0 17 [some (.ref 88), some (.int (nI g))] [.int 0] [s0, s1, s2, s3, s4, s5, s6, jb_sht88 Is nums Js Ws, s8, s9, s10, s11] _
      refine jb_if_eq (tgt := 22) (pc' := 20) dX10_leastFit_17 (by decide) rfl (fun _ => ?_) (fun z => absurd (by decide) z)
      refine jb_iinc_ (pc' := 25) (nI (g + 1)) dX10_leastFit_22 (by decide) rfl (jb_inc g 1) (jb_at1 rfl) rfl ?_
      refine jb_goto (pc' := 6) dX10_leastFit_25 (by decide) ?_
      exact ih (g + 1) (by omega) (fun h hh => by
        by_cases e : h = g
        · rw [e]; exact hfg
        · exact hno h (by omega))
set_option maxRecDepth 100000 in
set_option maxHeartbeats 4000000 in
theorem c_leastFit_2 {sc : Nat × (Nat → Int32)} {s0 s1 s2 s3 s4 s5 s6 s8 s9 s10 s11 : List va_E} (Is nums Js : Nat → Int32) (Ws : Nat → Nat → Int32) (zs : Nat) (h1s : Is 1 = nI zs) (hzs : zs ≤ 40) : jb_C sc yX10_leastFit cX10_leastFit 2 (Option.some .int) 2 0 0 [.ref 88] [s0, s1, s2, s3, s4, s5, s6, jb_sht88 Is nums Js Ws, s8, s9, s10, s11] (fun r h9 => ∃ J9 W9, h9 = [s0, s1, s2, s3, s4, s5, s6, jb_sht88 Is nums J9 W9, s8, s9, s10, s11] ∧ ∃ v, jy_L (jy_f (jy_ga nums zs zs 0 [])) v ∧ r = some (.int v)) := by
  refine jb_CofJ (ini := false) (by decide +kernel) (fun h => by cases h) (Nat.le_of_ble_eq_true rfl) ?_
  show jb_J sc RX10 cX10_leastFit 2 (Option.some .int) false 2 0 0 0 [some (.ref 88), none] [] [s0, s1, s2, s3, s4, s5, s6, jb_sht88 Is nums Js Ws, s8, s9, s10, s11] _
  refine jb_aload_n (pc' := 1) dX10_leastFit_0 rfl rfl ?_
  refine jb_callV (pc' := 4) (ci := 10) (q := 88) (As := []) (a2 := 0) (b2 := 0) wv_X10_62 rfl dX10_leastFit_1 (c_gatherL_2 Is nums Js Ws zs h1s hzs) rfl rfl ⟨by decide, Nat.le_of_eq (Nat.zero_add _), Nat.le_of_eq (Nat.zero_add _)⟩ (Nat.le_of_ble_eq_true rfl) rfl (fun r h9 hq => ?_)
  obtain ⟨rfl, J9, W9, hln, rfl⟩ := hq
  show jb_J _ RX10 cX10_leastFit 2 (Option.some .int) false 2 0 0 4 [some (.ref 88), none] [] [s0, s1, s2, s3, s4, s5, s6, jb_sht88 Is nums J9 W9, s8, s9, s10, s11] _
  refine jb_iconst (pc' := 5) 0 dX10_leastFit_4 (by decide) rfl ?_
  refine jb_istore_n_ (pc' := 6) dX10_leastFit_5 (by decide) (jb_at1 rfl) rfl ?_
  refine jb_J.mono (l_least_2 Is nums J9 W9 (jy_ga nums zs zs 0 []) hln 41 0 (by omega) (fun h hh => absurd hh (by omega))) (Nat.le_refl _) (Nat.le_refl _) (Nat.le_refl _) (fun r h9 hq => ?_)
  exact ⟨J9, W9, hq.1.symm, hq.2⟩
set_option maxRecDepth 100000 in
set_option maxHeartbeats 4000000 in
theorem l_all_2 {sc : Nat × (Nat → Int32)} {s0 s1 s2 s3 s4 s5 s6 s8 s9 s10 s11 : List va_E} (Is nums Js : Nat → Int32) (Ws : Nat → Nat → Int32) (ls : List (Nat × Nat)) (hln : Js 1 = nI ls.length ∧ jy_in ls ∧ (∀ j, j < ls.length → Ws 3 j = nI (ls.getD j (0, 0)).1 ∧ Ws 4 j = nI (ls.getD j (0, 0)).2)) : ∀ (n g k : Nat), g + n = 41 → jy_n (jy_f ls) g = k → jb_J sc RX10 cX10_allFits 3 (Option.some .int) false 2 0 0 8 [some (.ref 88), some (.int (nI k)), some (.int (nI g))] [] [s0, s1, s2, s3, s4, s5, s6, jb_sht88 Is nums Js Ws, s8, s9, s10, s11] (fun r h9 => [s0, s1, s2, s3, s4, s5, s6, jb_sht88 Is nums Js Ws, s8, s9, s10, s11] = h9 ∧ r = some (.int (nI (jy_n (jy_f ls) 41)))) := by
  intro n
  induction n with
  | zero =>
    intro g k hg hk
    obtain rfl : g = 41 := by omega
    show jb_J _ RX10 cX10_allFits 3 (Option.some .int) false 2 0 0 8 [some (.ref 88), some (.int (nI k)), some (.int (nI 41))] [] [s0, s1, s2, s3, s4, s5, s6, jb_sht88 Is nums Js Ws, s8, s9, s10, s11] _
    refine jb_iload_n (pc' := 9) dX10_allFits_8 rfl rfl ?_
    refine jb_bipush (pc' := 11) 40 dX10_allFits_9 (by decide) rfl ?_
    refine jb_icmp_gt (tgt := 31) (pc' := 14) dX10_allFits_11 (by decide) rfl (fun _ => ?_) (fun z => absurd (by decide) z)
    refine jb_iload_n (pc' := 32) dX10_allFits_31 rfl rfl ?_
    refine jb_iret dX10_allFits_32 rfl ?_
    exact ⟨rfl, by rw [hk]⟩
  | succ n ih =>
    intro g k hg hk
    show jb_J _ RX10 cX10_allFits 3 (Option.some .int) false 2 0 0 8 [some (.ref 88), some (.int (nI k)), some (.int (nI g))] [] [s0, s1, s2, s3, s4, s5, s6, jb_sht88 Is nums Js Ws, s8, s9, s10, s11] _
    refine jb_iload_n (pc' := 9) dX10_allFits_8 rfl rfl ?_
    refine jb_bipush (pc' := 11) 40 dX10_allFits_9 (by decide) rfl ?_
    refine jb_icmp_gt (tgt := 31) (pc' := 14) dX10_allFits_11 (by decide) rfl (fun z => absurd z (nI_nlt (a := 40) (b := g) (by omega) (by omega))) (fun _ => ?_)
    refine jb_aload_n (pc' := 15) dX10_allFits_14 rfl rfl ?_
    refine jb_iload_n (pc' := 16) dX10_allFits_15 rfl rfl ?_
    refine jb_callV (pc' := 19) (ci := 10) (q := 88) (As := [.int (nI g)]) (a2 := 0) (b2 := 0) wv_X10_65 rfl dX10_allFits_16 (c_fitsGap_2 Is nums Js Ws ls g (by omega) hln) rfl rfl ⟨by decide, Nat.le_of_eq (Nat.zero_add _), Nat.le_of_eq (Nat.zero_add _)⟩ (Nat.le_of_ble_eq_true rfl) rfl (fun r h9 hq => ?_)
    rcases hq with ⟨rfl, ⟨hfg, rfl⟩ | ⟨hfg, rfl⟩⟩
    · show jb_J _ RX10 cX10_allFits 3 (Option.some .int) false 2 0 0 19 [some (.ref 88), some (.int (nI k)), some (.int (nI g))] [.int 1] [s0, s1, s2, s3, s4, s5, s6, jb_sht88 Is nums Js Ws, s8, s9, s10, s11] _
      refine jb_if_eq (tgt := 25) (pc' := 22) dX10_allFits_19 (by decide) rfl (fun z => absurd z (by decide)) (fun _ => ?_)
      refine jb_iinc_ (pc' := 25) (nI (k + 1)) dX10_allFits_22 (by decide) rfl (jb_inc k 1) (jb_at1 rfl) rfl ?_
      refine jb_iinc_ (pc' := 28) (nI (g + 1)) dX10_allFits_25 (by decide) rfl (jb_inc g 1) (jb_at2 rfl) rfl ?_
      refine jb_goto (pc' := 8) dX10_allFits_28 (by decide) ?_
      exact ih (g + 1) (k + 1) (by omega) (by rw [jy_n1 hfg, hk])
    · show jb_J _ RX10 cX10_allFits 3 (Option.some .int) false 2 0 0 19 [some (.ref 88), some (.int (nI k)), some (.int (nI g))] [.int 0] [s0, s1, s2, s3, s4, s5, s6, jb_sht88 Is nums Js Ws, s8, s9, s10, s11] _
      refine jb_if_eq (tgt := 25) (pc' := 22) dX10_allFits_19 (by decide) rfl (fun _ => ?_) (fun z => absurd (by decide) z)
      refine jb_iinc_ (pc' := 28) (nI (g + 1)) dX10_allFits_25 (by decide) rfl (jb_inc g 1) (jb_at2 rfl) rfl ?_
      refine jb_goto (pc' := 8) dX10_allFits_28 (by decide) ?_
      exact ih (g + 1) k (by omega) (by rw [jy_n0 hfg, hk])
set_option maxRecDepth 100000 in
set_option maxHeartbeats 4000000 in
theorem c_allFits_2 {sc : Nat × (Nat → Int32)} {s0 s1 s2 s3 s4 s5 s6 s8 s9 s10 s11 : List va_E} (Is nums Js : Nat → Int32) (Ws : Nat → Nat → Int32) (zs : Nat) (h1s : Is 1 = nI zs) (hzs : zs ≤ 40) : jb_C sc yX10_allFits cX10_allFits 3 (Option.some .int) 2 0 0 [.ref 88] [s0, s1, s2, s3, s4, s5, s6, jb_sht88 Is nums Js Ws, s8, s9, s10, s11] (fun r h9 => ∃ J9 W9, h9 = [s0, s1, s2, s3, s4, s5, s6, jb_sht88 Is nums J9 W9, s8, s9, s10, s11] ∧ r = some (.int (nI (jy_n (jy_f (jy_ga nums zs zs 0 [])) 41)))) := by
  refine jb_CofJ (ini := false) (by decide +kernel) (fun h => by cases h) (Nat.le_of_ble_eq_true rfl) ?_
  show jb_J sc RX10 cX10_allFits 3 (Option.some .int) false 2 0 0 0 [some (.ref 88), none, none] [] [s0, s1, s2, s3, s4, s5, s6, jb_sht88 Is nums Js Ws, s8, s9, s10, s11] _
  refine jb_aload_n (pc' := 1) dX10_allFits_0 rfl rfl ?_
  refine jb_callV (pc' := 4) (ci := 10) (q := 88) (As := []) (a2 := 0) (b2 := 0) wv_X10_62 rfl dX10_allFits_1 (c_gatherL_2 Is nums Js Ws zs h1s hzs) rfl rfl ⟨by decide, Nat.le_of_eq (Nat.zero_add _), Nat.le_of_eq (Nat.zero_add _)⟩ (Nat.le_of_ble_eq_true rfl) rfl (fun r h9 hq => ?_)
  obtain ⟨rfl, J9, W9, hln, rfl⟩ := hq
  show jb_J _ RX10 cX10_allFits 3 (Option.some .int) false 2 0 0 4 [some (.ref 88), none, none] [] [s0, s1, s2, s3, s4, s5, s6, jb_sht88 Is nums J9 W9, s8, s9, s10, s11] _
  refine jb_iconst (pc' := 5) 0 dX10_allFits_4 (by decide) rfl ?_
  refine jb_istore_n_ (pc' := 6) dX10_allFits_5 (by decide) (jb_at1 rfl) rfl ?_
  refine jb_iconst (pc' := 7) 0 dX10_allFits_6 (by decide) rfl ?_
  refine jb_istore_n_ (pc' := 8) dX10_allFits_7 (by decide) (jb_at2 rfl) rfl ?_
  refine jb_J.mono (l_all_2 Is nums J9 W9 (jy_ga nums zs zs 0 []) hln 41 0 0 (by omega) rfl) (Nat.le_refl _) (Nat.le_refl _) (Nat.le_refl _) (fun r h9 hq => ?_)
  exact ⟨J9, W9, hq.1.symm, hq.2⟩
set_option maxRecDepth 100000 in
set_option maxHeartbeats 4000000 in
theorem kx_poem0_2 {sc : Nat × (Nat → Int32)} {s1 s2 s3 s5 s6 s8 s9 s10 s11 : List va_E} (imm : Int32) (Im rowm stkm tpm : Nat → Int32) (Tm : Nat → Value) (Is nums Js : Nat → Int32) (Ws : Nat → Nat → Int32) {bs zs : Nat} (h0s : Is 0 = nI bs) (h1s : Is 1 = nI zs) (hbs : bs ≤ 32) (hzs : zs ≤ 40) (hm : ¬ bs = 0) : jb_C sc yX11_poem cX11_poem 3 (Option.some .int) 3 0 0 [.ref 0, .int 2, .int 0] [jb_main imm Im Tm rowm stkm tpm, s1, s2, s3, jb_shs, s5, s6, jb_sht88 Is nums Js Ws, s8, s9, s10, s11] (fun r h9 => ∃ J9 W9, h9 = [jb_main imm Im Tm rowm stkm tpm, s1, s2, s3, jb_shs, s5, s6, jb_sht88 Is nums J9 W9, s8, s9, s10, s11] ∧ ∃ v, jy_L (jy_f (jy_ga nums zs zs 0 [])) v ∧ r = some (.int v)) := by
  refine jb_CofJ (ini := false) (by decide +kernel) (fun h => by cases h) (Nat.le_of_ble_eq_true rfl) ?_
  show jb_J sc RX11 cX11_poem 3 (Option.some .int) false 3 0 0 0 [some (.ref 0), some (.int 2), some (.int 0)] [] [jb_main imm Im Tm rowm stkm tpm, s1, s2, s3, jb_shs, s5, s6, jb_sht88 Is nums Js Ws, s8, s9, s10, s11] _
  refine jb_aload_n (pc' := 1) dX11_poem_0 rfl rfl ?_
  refine jb_iload_n (pc' := 2) dX11_poem_1 rfl rfl ?_
  refine jb_callV (pc' := 5) (ci := 11) (q := 0) (As := [.int 2]) (a2 := 0) (b2 := 0) wv_X11_165 rfl dX11_poem_2 (c_isNoSheetG _ 2 (by omega)) rfl rfl ⟨by decide, Nat.le_of_eq (Nat.zero_add _), Nat.le_of_eq (Nat.zero_add _)⟩ (Nat.le_of_ble_eq_true rfl) rfl (fun r h9 hq => ?_)
  obtain ⟨rfl, rfl⟩ := hq
  show jb_J _ RX11 cX11_poem 3 (Option.some .int) false 3 0 0 5 [some (.ref 0), some (.int 2), some (.int 0)] [.int 0] [jb_main imm Im Tm rowm stkm tpm, s1, s2, s3, jb_shs, s5, s6, jb_sht88 Is nums Js Ws, s8, s9, s10, s11] _
  refine jb_if_ne (tgt := 17) (pc' := 8) dX11_poem_5 (by decide) rfl (fun z => absurd (by decide) z) (fun _ => ?_)
  refine jb_iload_n (pc' := 9) dX11_poem_8 rfl rfl ?_
  refine jb_iconst (pc' := 10) 0 dX11_poem_9 (by decide) rfl ?_
  refine jb_iconst (pc' := 11) 1 dX11_poem_10 (by decide) rfl ?_
  refine jb_callS (pc' := 14) (As := [.int 0, .int 0, .int 1]) (a2 := 0) (b2 := 0) wv_X11_74 dX11_poem_11 (c_isOutLG 0 0 1 (by omega) (by omega) (by omega)) rfl ⟨by decide, Nat.le_of_eq (Nat.zero_add _), Nat.le_of_eq (Nat.zero_add _)⟩ (Nat.le_of_ble_eq_true rfl) rfl (fun r h9 hq => ?_)
  obtain ⟨rfl, rfl⟩ := hq
  show jb_J _ RX11 cX11_poem 3 (Option.some .int) false 3 0 0 14 [some (.ref 0), some (.int 2), some (.int 0)] [.int 0] [jb_main imm Im Tm rowm stkm tpm, s1, s2, s3, jb_shs, s5, s6, jb_sht88 Is nums Js Ws, s8, s9, s10, s11] _
  refine jb_if_eq (tgt := 23) (pc' := 17) dX11_poem_14 (by decide) rfl (fun _ => ?_) (fun z => absurd (by decide) z)
  refine jb_aload_n (pc' := 24) dX11_poem_23 rfl rfl ?_
  refine gf_X11_54 (pc' := 27) (v := .ref 73) dX11_poem_24 rfl rfl rfl ?_
  refine jb_iload_n (pc' := 28) dX11_poem_27 rfl rfl ?_
  refine jb_aaload (pc' := 29) (i9 := 2) (r := 88) (Or.inr (Or.inr rfl)) dX11_poem_28 rfl jb_x2 (by decide) rfl rfl ?_
  refine jb_callV (pc' := 32) (ci := 10) (q := 88) (As := []) (a2 := 0) (b2 := 0) wv_X11_168 rfl dX11_poem_29 (c_isMissing_2 Is nums Js Ws h0s h1s hbs hzs) rfl rfl ⟨by decide, Nat.le_of_eq (Nat.zero_add _), Nat.le_of_eq (Nat.zero_add _)⟩ (Nat.le_of_ble_eq_true rfl) rfl (fun r h9 hq => ?_)
  rcases hq with ⟨rfl, ⟨hms, rfl⟩ | ⟨hms, rfl⟩⟩
  · exact absurd hms hm
  · show jb_J _ RX11 cX11_poem 3 (Option.some .int) false 3 0 0 32 [some (.ref 0), some (.int 2), some (.int 0)] [.int 0] [jb_main imm Im Tm rowm stkm tpm, s1, s2, s3, jb_shs, s5, s6, jb_sht88 Is nums Js Ws, s8, s9, s10, s11] _
    refine jb_if_eq (tgt := 41) (pc' := 35) dX11_poem_32 (by decide) rfl (fun _ => ?_) (fun z => absurd (by decide) z)
    refine jb_iload_n (pc' := 42) dX11_poem_41 rfl rfl ?_
    refine jb_if_ne (tgt := 57) (pc' := 45) dX11_poem_42 (by decide) rfl (fun z => absurd (by decide) z) (fun _ => ?_)
    refine jb_aload_n (pc' := 46) dX11_poem_45 rfl rfl ?_
    refine gf_X11_54 (pc' := 49) (v := .ref 73) dX11_poem_46 rfl rfl rfl ?_
    refine jb_iload_n (pc' := 50) dX11_poem_49 rfl rfl ?_
    refine jb_aaload (pc' := 51) (i9 := 2) (r := 88) (Or.inr (Or.inr rfl)) dX11_poem_50 rfl jb_x2 (by decide) rfl rfl ?_
    refine jb_callV (pc' := 54) (ci := 10) (q := 88) (As := []) (a2 := 0) (b2 := 0) wv_X11_178 rfl dX11_poem_51 (c_leastFit_2 Is nums Js Ws zs h1s hzs) rfl rfl ⟨by decide, Nat.le_of_eq (Nat.zero_add _), Nat.le_of_eq (Nat.zero_add _)⟩ (Nat.le_of_ble_eq_true rfl) rfl (fun r h9 hq => ?_)
    obtain ⟨J9, W9, rfl, v, hv, rfl⟩ := hq
    show jb_J _ RX11 cX11_poem 3 (Option.some .int) false 3 0 0 54 [some (.ref 0), some (.int 2), some (.int 0)] [.int v] [jb_main imm Im Tm rowm stkm tpm, s1, s2, s3, jb_shs, s5, s6, jb_sht88 Is nums J9 W9, s8, s9, s10, s11] _
    refine jb_goto (pc' := 66) dX11_poem_54 (by decide) ?_
    refine jb_iret dX11_poem_66 rfl ?_
    exact ⟨J9, W9, rfl, v, hv, rfl⟩
set_option maxRecDepth 100000 in
set_option maxHeartbeats 4000000 in
theorem kx_poem1_2 {sc : Nat × (Nat → Int32)} {s1 s2 s3 s5 s6 s8 s9 s10 s11 : List va_E} (imm : Int32) (Im rowm stkm tpm : Nat → Int32) (Tm : Nat → Value) (Is nums Js : Nat → Int32) (Ws : Nat → Nat → Int32) {bs zs : Nat} (h0s : Is 0 = nI bs) (h1s : Is 1 = nI zs) (hbs : bs ≤ 32) (hzs : zs ≤ 40) (hm : ¬ bs = 0) : jb_C sc yX11_poem cX11_poem 3 (Option.some .int) 3 0 0 [.ref 0, .int 2, .int 1] [jb_main imm Im Tm rowm stkm tpm, s1, s2, s3, jb_shs, s5, s6, jb_sht88 Is nums Js Ws, s8, s9, s10, s11] (fun r h9 => ∃ J9 W9, h9 = [jb_main imm Im Tm rowm stkm tpm, s1, s2, s3, jb_shs, s5, s6, jb_sht88 Is nums J9 W9, s8, s9, s10, s11] ∧ r = some (.int (nI (jy_n (jy_f (jy_ga nums zs zs 0 [])) 41)))) := by
  refine jb_CofJ (ini := false) (by decide +kernel) (fun h => by cases h) (Nat.le_of_ble_eq_true rfl) ?_
  show jb_J sc RX11 cX11_poem 3 (Option.some .int) false 3 0 0 0 [some (.ref 0), some (.int 2), some (.int 1)] [] [jb_main imm Im Tm rowm stkm tpm, s1, s2, s3, jb_shs, s5, s6, jb_sht88 Is nums Js Ws, s8, s9, s10, s11] _
  refine jb_aload_n (pc' := 1) dX11_poem_0 rfl rfl ?_
  refine jb_iload_n (pc' := 2) dX11_poem_1 rfl rfl ?_
  refine jb_callV (pc' := 5) (ci := 11) (q := 0) (As := [.int 2]) (a2 := 0) (b2 := 0) wv_X11_165 rfl dX11_poem_2 (c_isNoSheetG _ 2 (by omega)) rfl rfl ⟨by decide, Nat.le_of_eq (Nat.zero_add _), Nat.le_of_eq (Nat.zero_add _)⟩ (Nat.le_of_ble_eq_true rfl) rfl (fun r h9 hq => ?_)
  obtain ⟨rfl, rfl⟩ := hq
  show jb_J _ RX11 cX11_poem 3 (Option.some .int) false 3 0 0 5 [some (.ref 0), some (.int 2), some (.int 1)] [.int 0] [jb_main imm Im Tm rowm stkm tpm, s1, s2, s3, jb_shs, s5, s6, jb_sht88 Is nums Js Ws, s8, s9, s10, s11] _
  refine jb_if_ne (tgt := 17) (pc' := 8) dX11_poem_5 (by decide) rfl (fun z => absurd (by decide) z) (fun _ => ?_)
  refine jb_iload_n (pc' := 9) dX11_poem_8 rfl rfl ?_
  refine jb_iconst (pc' := 10) 0 dX11_poem_9 (by decide) rfl ?_
  refine jb_iconst (pc' := 11) 1 dX11_poem_10 (by decide) rfl ?_
  refine jb_callS (pc' := 14) (As := [.int 1, .int 0, .int 1]) (a2 := 0) (b2 := 0) wv_X11_74 dX11_poem_11 (c_isOutLG 1 0 1 (by omega) (by omega) (by omega)) rfl ⟨by decide, Nat.le_of_eq (Nat.zero_add _), Nat.le_of_eq (Nat.zero_add _)⟩ (Nat.le_of_ble_eq_true rfl) rfl (fun r h9 hq => ?_)
  obtain ⟨rfl, rfl⟩ := hq
  show jb_J _ RX11 cX11_poem 3 (Option.some .int) false 3 0 0 14 [some (.ref 0), some (.int 2), some (.int 1)] [.int 0] [jb_main imm Im Tm rowm stkm tpm, s1, s2, s3, jb_shs, s5, s6, jb_sht88 Is nums Js Ws, s8, s9, s10, s11] _
  refine jb_if_eq (tgt := 23) (pc' := 17) dX11_poem_14 (by decide) rfl (fun _ => ?_) (fun z => absurd (by decide) z)
  refine jb_aload_n (pc' := 24) dX11_poem_23 rfl rfl ?_
  refine gf_X11_54 (pc' := 27) (v := .ref 73) dX11_poem_24 rfl rfl rfl ?_
  refine jb_iload_n (pc' := 28) dX11_poem_27 rfl rfl ?_
  refine jb_aaload (pc' := 29) (i9 := 2) (r := 88) (Or.inr (Or.inr rfl)) dX11_poem_28 rfl jb_x2 (by decide) rfl rfl ?_
  refine jb_callV (pc' := 32) (ci := 10) (q := 88) (As := []) (a2 := 0) (b2 := 0) wv_X11_168 rfl dX11_poem_29 (c_isMissing_2 Is nums Js Ws h0s h1s hbs hzs) rfl rfl ⟨by decide, Nat.le_of_eq (Nat.zero_add _), Nat.le_of_eq (Nat.zero_add _)⟩ (Nat.le_of_ble_eq_true rfl) rfl (fun r h9 hq => ?_)
  rcases hq with ⟨rfl, ⟨hms, rfl⟩ | ⟨hms, rfl⟩⟩
  · exact absurd hms hm
  · show jb_J _ RX11 cX11_poem 3 (Option.some .int) false 3 0 0 32 [some (.ref 0), some (.int 2), some (.int 1)] [.int 0] [jb_main imm Im Tm rowm stkm tpm, s1, s2, s3, jb_shs, s5, s6, jb_sht88 Is nums Js Ws, s8, s9, s10, s11] _
    refine jb_if_eq (tgt := 41) (pc' := 35) dX11_poem_32 (by decide) rfl (fun _ => ?_) (fun z => absurd (by decide) z)
    refine jb_iload_n (pc' := 42) dX11_poem_41 rfl rfl ?_
    refine jb_if_ne (tgt := 57) (pc' := 45) dX11_poem_42 (by decide) rfl (fun _ => ?_) (fun z => absurd z (by decide))
    refine jb_aload_n (pc' := 58) dX11_poem_57 rfl rfl ?_
    refine gf_X11_54 (pc' := 61) (v := .ref 73) dX11_poem_58 rfl rfl rfl ?_
    refine jb_iload_n (pc' := 62) dX11_poem_61 rfl rfl ?_
    refine jb_aaload (pc' := 63) (i9 := 2) (r := 88) (Or.inr (Or.inr rfl)) dX11_poem_62 rfl jb_x2 (by decide) rfl rfl ?_
    refine jb_callV (pc' := 66) (ci := 10) (q := 88) (As := []) (a2 := 0) (b2 := 0) wv_X11_181 rfl dX11_poem_63 (c_allFits_2 Is nums Js Ws zs h1s hzs) rfl rfl ⟨by decide, Nat.le_of_eq (Nat.zero_add _), Nat.le_of_eq (Nat.zero_add _)⟩ (Nat.le_of_ble_eq_true rfl) rfl (fun r h9 hq => ?_)
    obtain ⟨J9, W9, rfl, rfl⟩ := hq
    show jb_J _ RX11 cX11_poem 3 (Option.some .int) false 3 0 0 66 [some (.ref 0), some (.int 2), some (.int 1)] [.int (nI (jy_n (jy_f (jy_ga nums zs zs 0 [])) 41))] [jb_main imm Im Tm rowm stkm tpm, s1, s2, s3, jb_shs, s5, s6, jb_sht88 Is nums J9 W9, s8, s9, s10, s11] _
    refine jb_iret dX11_poem_66 rfl ?_
    exact ⟨J9, W9, rfl, rfl⟩
set_option maxRecDepth 100000 in
set_option maxHeartbeats 4000000 in
theorem l_gatherL_3 {sc : Nat × (Nat → Int32)} {s0 s1 s2 s3 s4 s5 s6 s7 s9 s10 s11 : List va_E} (Is nums : Nat → Int32) (zs : Nat) (h1s : Is 1 = nI zs) (hzs : zs ≤ 40) : ∀ (n i : Nat) (acc : List (Nat × Nat)) (Js : Nat → Int32) (Ws : Nat → Nat → Int32), zs ≤ i + 2 * n → i ≤ zs + 2 → Js 1 = nI acc.length ∧ jy_in acc ∧ (∀ j, j < acc.length → Ws 3 j = nI (acc.getD j (0, 0)).1 ∧ Ws 4 j = nI (acc.getD j (0, 0)).2) → jb_J sc RX10 cX10_gatherLines 2 (Option.none : Option Jvm.ClassFile.FieldType) false 1 0 0 7 [some (.ref 95), some (.int (nI i))] [] [s0, s1, s2, s3, s4, s5, s6, s7, jb_sht95 Is nums Js Ws, s9, s10, s11] (fun r h9 => r = none ∧ ∃ (J9 : Nat → Int32) (W9 : Nat → Nat → Int32), (J9 1 = nI (jy_ga nums zs n i acc).length ∧ jy_in (jy_ga nums zs n i acc) ∧ (∀ j, j < (jy_ga nums zs n i acc).length → W9 3 j = nI ((jy_ga nums zs n i acc).getD j (0, 0)).1 ∧ W9 4 j = nI ((jy_ga nums zs n i acc).getD j (0, 0)).2)) ∧ h9 = [s0, s1, s2, s3, s4, s5, s6, s7, jb_sht95 Is nums J9 W9, s9, s10, s11]) := by
  intro n
  induction n with
  | zero =>
    intro i acc Js Ws hi hi2 ⟨p1, p2, p3⟩
    show jb_J _ RX10 cX10_gatherLines 2 (Option.none : Option Jvm.ClassFile.FieldType) false 1 0 0 7 [some (.ref 95), some (.int (nI i))] [] [s0, s1, s2, s3, s4, s5, s6, s7, jb_sht95 Is nums Js Ws, s9, s10, s11] _
    refine jb_iload_n (pc' := 8) dX10_gatherLines_7 rfl rfl ?_
    refine jb_iconst (pc' := 9) 1 dX10_gatherLines_8 (by decide) rfl ?_
    refine jb_iadd (pc' := 10) dX10_gatherLines_9 rfl ?_
    refine jb_top (v := .int ((nI i) + 1)) (w := .int (nI (i + 1))) (jb_vI (nI_add _ 1)) ?_
    refine jb_aload_n (pc' := 11) dX10_gatherLines_10 rfl rfl ?_
    refine gf_X10_15 (pc' := 14) (v := .int (Is 1)) dX10_gatherLines_11 rfl rfl rfl ?_
    refine jb_top (v := .int (Is 1)) (w := .int (nI zs)) (jb_vI h1s) ?_
    refine jb_icmp_ge (tgt := 109) (pc' := 17) dX10_gatherLines_14 (by decide) rfl (fun _ => ?_) (fun z => absurd (nI_le (a := zs) (b := i + 1) (by omega) (by omega)) z)
    refine jb_vret dX10_gatherLines_109 ?_
    exact ⟨rfl, Js, Ws, ⟨p1, p2, p3⟩, rfl⟩
  | succ n ih =>
    intro i acc Js Ws hi hi2 ⟨p1, p2, p3⟩
    have plen := p2.1
    have eG : jy_ga nums zs (n + 1) i acc = (if i + 1 < zs ∧ acc.length < 12 then (if (0 ≤ nums i ∧ nums i ≤ 1) ∧ (0 ≤ nums (i + 1) ∧ nums (i + 1) ≤ 999) then jy_ga nums zs n (i + 2) (acc ++ [((nums i).toNatClampNeg, (nums (i + 1)).toNatClampNeg)]) else jy_ga nums zs n (i + 2) acc) else acc) := rfl
    by_cases hi1 : i + 1 < zs
    · by_cases hl : acc.length < 12
      · by_cases hv : (0 ≤ nums i ∧ nums i ≤ 1) ∧ (0 ≤ nums (i + 1) ∧ nums (i + 1) ≤ 999)
        · obtain ⟨u, hu1, hu2, eu⟩ := (jy_rng (n := 1) (by decide)).mpr hv.1
          obtain ⟨v, hv1, hv2, ev⟩ := (jy_rng (n := 999) (by decide)).mpr hv.2
          rw [if_pos ⟨hi1, hl⟩, if_pos hv, eu, ev, nI_clamp (by omega), nI_clamp (by omega)] at eG
          rw [eG]
          show jb_J _ RX10 cX10_gatherLines 2 (Option.none : Option Jvm.ClassFile.FieldType) false 1 0 0 7 [some (.ref 95), some (.int (nI i))] [] [s0, s1, s2, s3, s4, s5, s6, s7, jb_sht95 Is nums Js Ws, s9, s10, s11] _
          refine jb_iload_n (pc' := 8) dX10_gatherLines_7 rfl rfl ?_
          refine jb_iconst (pc' := 9) 1 dX10_gatherLines_8 (by decide) rfl ?_
          refine jb_iadd (pc' := 10) dX10_gatherLines_9 rfl ?_
          refine jb_top (v := .int ((nI i) + 1)) (w := .int (nI (i + 1))) (jb_vI (nI_add _ 1)) ?_
          refine jb_aload_n (pc' := 11) dX10_gatherLines_10 rfl rfl ?_
          refine gf_X10_15 (pc' := 14) (v := .int (Is 1)) dX10_gatherLines_11 rfl rfl rfl ?_
          refine jb_top (v := .int (Is 1)) (w := .int (nI zs)) (jb_vI h1s) ?_
          refine jb_icmp_ge (tgt := 109) (pc' := 17) dX10_gatherLines_14 (by decide) rfl (fun z => absurd z (nI_ge (a := i + 1) (b := zs) (by omega) (by omega))) (fun _ => ?_)
          refine jb_aload_n (pc' := 18) dX10_gatherLines_17 rfl rfl ?_
          refine gf_X10_34 (pc' := 21) (v := .int (Js 1)) dX10_gatherLines_18 rfl rfl rfl ?_
          refine jb_top (v := .int (Js 1)) (w := .int (nI acc.length)) (jb_vI p1) ?_
          refine jb_bipush (pc' := 23) 12 dX10_gatherLines_21 (by decide) rfl ?_
          refine jb_icmp_ge (tgt := 109) (pc' := 26) dX10_gatherLines_23 (by decide) rfl (fun z => absurd z (nI_ge (a := acc.length) (b := 12) (by omega) (by omega))) (fun _ => ?_)
          refine jb_aload_n (pc' := 27) dX10_gatherLines_26 rfl rfl ?_
          refine gf_X10_18 (pc' := 30) (v := .ref 96) dX10_gatherLines_27 rfl rfl rfl ?_
          refine jb_iload_n (pc' := 31) dX10_gatherLines_30 rfl rfl ?_
          refine jb_iaload (pc' := 32) (i9 := i) (f := nums) dX10_gatherLines_31 rfl (jb_ix_nI (by omega)) (by omega) rfl ?_
          refine jb_top (v := .int (nums i)) (w := .int (nI u)) (jb_vI eu) ?_
          refine jb_iconst (pc' := 33) 0 dX10_gatherLines_32 (by decide) rfl ?_
          refine jb_iconst (pc' := 34) 1 dX10_gatherLines_33 (by decide) rfl ?_
          refine jb_callSN (pc' := 37) (As := [.int (nI u), .int 0, .int 1]) (a2 := 0) (b2 := 0) wv_X10_56 dX10_gatherLines_34 (c_isOutLG u 0 1 (by omega) (by omega) (by omega)) rfl ⟨by decide, Nat.le_of_eq (Nat.zero_add _), Nat.le_of_eq (Nat.zero_add _)⟩ (Nat.le_of_ble_eq_true rfl) rfl (fun r h9 hq => ?_)
          obtain ⟨rfl, rfl⟩ := hq
          show jb_J _ RX10 cX10_gatherLines 2 (Option.none : Option Jvm.ClassFile.FieldType) false 1 0 0 37 [some (.ref 95), some (.int (nI i))] [.int 0] [s0, s1, s2, s3, s4, s5, s6, s7, jb_sht95 Is nums Js Ws, s9, s10, s11] _
          refine jb_if_ne (tgt := 103) (pc' := 40) dX10_gatherLines_37 (by decide) rfl (fun z => absurd (by decide) z) (fun _ => ?_)
          refine jb_aload_n (pc' := 41) dX10_gatherLines_40 rfl rfl ?_
          refine gf_X10_18 (pc' := 44) (v := .ref 96) dX10_gatherLines_41 rfl rfl rfl ?_
          refine jb_iload_n (pc' := 45) dX10_gatherLines_44 rfl rfl ?_
          refine jb_iconst (pc' := 46) 1 dX10_gatherLines_45 (by decide) rfl ?_
          refine jb_iadd (pc' := 47) dX10_gatherLines_46 rfl ?_
          refine jb_top (v := .int ((nI i) + 1)) (w := .int (nI (i + 1))) (jb_vI (nI_add _ 1)) ?_
          refine jb_iaload (pc' := 48) (i9 := (i + 1)) (f := nums) dX10_gatherLines_47 rfl (jb_ix_nI (by omega)) (by omega) rfl ?_
          refine jb_top (v := .int (nums (i + 1))) (w := .int (nI v)) (jb_vI ev) ?_
          refine jb_iconst (pc' := 49) 0 dX10_gatherLines_48 (by decide) rfl ?_
          refine jb_sipush (pc' := 52) 999 dX10_gatherLines_49 (by decide) rfl ?_
          refine jb_callSN (pc' := 55) (As := [.int (nI v), .int 0, .int 999]) (a2 := 0) (b2 := 0) wv_X10_56 dX10_gatherLines_52 (c_isOutLG v 0 999 (by omega) (by omega) (by omega)) rfl ⟨by decide, Nat.le_of_eq (Nat.zero_add _), Nat.le_of_eq (Nat.zero_add _)⟩ (Nat.le_of_ble_eq_true rfl) rfl (fun r h9 hq => ?_)
          obtain ⟨rfl, rfl⟩ := hq
          show jb_J _ RX10 cX10_gatherLines 2 (Option.none : Option Jvm.ClassFile.FieldType) false 1 0 0 55 [some (.ref 95), some (.int (nI i))] [.int 0] [s0, s1, s2, s3, s4, s5, s6, s7, jb_sht95 Is nums Js Ws, s9, s10, s11] _
          refine jb_if_eq (tgt := 61) (pc' := 58) dX10_gatherLines_55 (by decide) rfl (fun _ => ?_) (fun z => absurd (by decide) z)
          refine jb_aload_n (pc' := 62) dX10_gatherLines_61 rfl rfl ?_
          refine gf_X10_37 (pc' := 65) (v := .ref 100) dX10_gatherLines_62 rfl rfl rfl ?_
          refine jb_aload_n (pc' := 66) dX10_gatherLines_65 rfl rfl ?_
          refine gf_X10_34 (pc' := 69) (v := .int (Js 1)) dX10_gatherLines_66 rfl rfl rfl ?_
          refine jb_top (v := .int (Js 1)) (w := .int (nI acc.length)) (jb_vI p1) ?_
          refine jb_aload_n (pc' := 70) dX10_gatherLines_69 rfl rfl ?_
          refine gf_X10_18 (pc' := 73) (v := .ref 96) dX10_gatherLines_70 rfl rfl rfl ?_
          refine jb_iload_n (pc' := 74) dX10_gatherLines_73 rfl rfl ?_
          refine jb_iaload (pc' := 75) (i9 := i) (f := nums) dX10_gatherLines_74 rfl (jb_ix_nI (by omega)) (by omega) rfl ?_
          refine jb_top (v := .int (nums i)) (w := .int (nI u)) (jb_vI eu) ?_
          refine jb_iastore (pc' := 76) (i9 := acc.length) (f := (Ws 3)) (h' := [s0, s1, s2, s3, s4, s5, s6, s7, jb_sht95 Is nums Js (va_up Ws 3 (upd (Ws 3) acc.length (nI u))), s9, s10, s11]) dX10_gatherLines_75 rfl (jb_ix_nI (by omega)) (by omega) rfl rfl ?_
          refine jb_aload_n (pc' := 77) dX10_gatherLines_76 rfl rfl ?_
          refine gf_X10_40 (pc' := 80) (v := .ref 101) dX10_gatherLines_77 rfl rfl rfl ?_
          refine jb_aload_n (pc' := 81) dX10_gatherLines_80 rfl rfl ?_
          refine gf_X10_34 (pc' := 84) (v := .int (Js 1)) dX10_gatherLines_81 rfl rfl rfl ?_
          refine jb_top (v := .int (Js 1)) (w := .int (nI acc.length)) (jb_vI p1) ?_
          refine jb_aload_n (pc' := 85) dX10_gatherLines_84 rfl rfl ?_
          refine gf_X10_18 (pc' := 88) (v := .ref 96) dX10_gatherLines_85 rfl rfl rfl ?_
          refine jb_iload_n (pc' := 89) dX10_gatherLines_88 rfl rfl ?_
          refine jb_iconst (pc' := 90) 1 dX10_gatherLines_89 (by decide) rfl ?_
          refine jb_iadd (pc' := 91) dX10_gatherLines_90 rfl ?_
          refine jb_top (v := .int ((nI i) + 1)) (w := .int (nI (i + 1))) (jb_vI (nI_add _ 1)) ?_
          refine jb_iaload (pc' := 92) (i9 := (i + 1)) (f := nums) dX10_gatherLines_91 rfl (jb_ix_nI (by omega)) (by omega) rfl ?_
          refine jb_top (v := .int (nums (i + 1))) (w := .int (nI v)) (jb_vI ev) ?_
          refine jb_iastore (pc' := 93) (i9 := acc.length) (f := (Ws 4)) (h' := [s0, s1, s2, s3, s4, s5, s6, s7, jb_sht95 Is nums Js (va_up (va_up Ws 3 (upd (Ws 3) acc.length (nI u))) 4 (upd (Ws 4) acc.length (nI v))), s9, s10, s11]) dX10_gatherLines_92 rfl (jb_ix_nI (by omega)) (by omega) rfl rfl ?_
          refine jb_aload_n (pc' := 94) dX10_gatherLines_93 rfl rfl ?_
          refine jb_dup (pc' := 95) dX10_gatherLines_94 rfl rfl ?_
          refine gf_X10_34 (pc' := 98) (v := .int (Js 1)) dX10_gatherLines_95 rfl rfl rfl ?_
          refine jb_top (v := .int (Js 1)) (w := .int (nI acc.length)) (jb_vI p1) ?_
          refine jb_iconst (pc' := 99) 1 dX10_gatherLines_98 (by decide) rfl ?_
          refine jb_iadd (pc' := 100) dX10_gatherLines_99 rfl ?_
          refine jb_top (v := .int ((nI acc.length) + 1)) (w := .int (nI (acc.length + 1))) (jb_vI (nI_add _ 1)) ?_
          refine pf_X10_34 (pc' := 103) (h' := [s0, s1, s2, s3, s4, s5, s6, s7, jb_sht95 Is nums (upd Js 1 (nI (acc.length + 1))) (va_up (va_up Ws 3 (upd (Ws 3) acc.length (nI u))) 4 (upd (Ws 4) acc.length (nI v))), s9, s10, s11]) dX10_gatherLines_100 (fun _ => ⟨rfl, rfl⟩) rfl (Nat.le_of_ble_eq_true rfl) rfl rfl ?_
          refine jb_iinc_ (pc' := 106) (nI (i + 2)) dX10_gatherLines_103 (by decide) rfl (jb_inc i 2) (jb_at1 rfl) rfl ?_
          refine jb_goto (pc' := 7) dX10_gatherLines_106 (by decide) ?_
          refine ih (i + 2) (acc ++ [(u, v)]) (upd Js 1 (nI (acc.length + 1))) (va_up (va_up Ws 3 (upd (Ws 3) acc.length (nI u))) 4 (upd (Ws 4) acc.length (nI v))) (by omega) (by omega) ⟨?_, p2.app hl hu2 hv2, fun j hj => ?_⟩
          · rw [List.length_append]; rfl
          · rw [List.length_append] at hj
            have hj2 : j < acc.length + 1 := hj
            show upd (Ws 3) acc.length (nI u) j = _ ∧ upd (Ws 4) acc.length (nI v) j = _
            by_cases e : j = acc.length
            · rw [e, jy_gde]; exact ⟨jb_uee, jb_uee⟩
            · rw [jb_une e, jb_une e, jy_gda (by omega)]; exact p3 j (by omega)
        · rw [if_pos ⟨hi1, hl⟩, if_neg hv] at eG
          rw [eG]
          show jb_J _ RX10 cX10_gatherLines 2 (Option.none : Option Jvm.ClassFile.FieldType) false 1 0 0 7 [some (.ref 95), some (.int (nI i))] [] [s0, s1, s2, s3, s4, s5, s6, s7, jb_sht95 Is nums Js Ws, s9, s10, s11] _
          refine jb_iload_n (pc' := 8) dX10_gatherLines_7 rfl rfl ?_
          refine jb_iconst (pc' := 9) 1 dX10_gatherLines_8 (by decide) rfl ?_
          refine jb_iadd (pc' := 10) dX10_gatherLines_9 rfl ?_
          refine jb_top (v := .int ((nI i) + 1)) (w := .int (nI (i + 1))) (jb_vI (nI_add _ 1)) ?_
          refine jb_aload_n (pc' := 11) dX10_gatherLines_10 rfl rfl ?_
          refine gf_X10_15 (pc' := 14) (v := .int (Is 1)) dX10_gatherLines_11 rfl rfl rfl ?_
          refine jb_top (v := .int (Is 1)) (w := .int (nI zs)) (jb_vI h1s) ?_
          refine jb_icmp_ge (tgt := 109) (pc' := 17) dX10_gatherLines_14 (by decide) rfl (fun z => absurd z (nI_ge (a := i + 1) (b := zs) (by omega) (by omega))) (fun _ => ?_)
          refine jb_aload_n (pc' := 18) dX10_gatherLines_17 rfl rfl ?_
          refine gf_X10_34 (pc' := 21) (v := .int (Js 1)) dX10_gatherLines_18 rfl rfl rfl ?_
          refine jb_top (v := .int (Js 1)) (w := .int (nI acc.length)) (jb_vI p1) ?_
          refine jb_bipush (pc' := 23) 12 dX10_gatherLines_21 (by decide) rfl ?_
          refine jb_icmp_ge (tgt := 109) (pc' := 26) dX10_gatherLines_23 (by decide) rfl (fun z => absurd z (nI_ge (a := acc.length) (b := 12) (by omega) (by omega))) (fun _ => ?_)
          refine jb_aload_n (pc' := 27) dX10_gatherLines_26 rfl rfl ?_
          refine gf_X10_18 (pc' := 30) (v := .ref 96) dX10_gatherLines_27 rfl rfl rfl ?_
          refine jb_iload_n (pc' := 31) dX10_gatherLines_30 rfl rfl ?_
          refine jb_iaload (pc' := 32) (i9 := i) (f := nums) dX10_gatherLines_31 rfl (jb_ix_nI (by omega)) (by omega) rfl ?_
          refine jb_iconst (pc' := 33) 0 dX10_gatherLines_32 (by decide) rfl ?_
          refine jb_iconst (pc' := 34) 1 dX10_gatherLines_33 (by decide) rfl ?_
          refine jb_callSN (pc' := 37) (As := [.int (nums i), .int 0, .int 1]) (a2 := 0) (b2 := 0) wv_X10_56 dX10_gatherLines_34 (c_isOutL (nums i) 0 1 (by omega) (by omega)) rfl ⟨by decide, Nat.le_of_eq (Nat.zero_add _), Nat.le_of_eq (Nat.zero_add _)⟩ (Nat.le_of_ble_eq_true rfl) rfl (fun r h9 hq => ?_)
          rcases hq with ⟨rfl, ⟨o3, rfl⟩ | ⟨o3, rfl⟩⟩
          · show jb_J _ RX10 cX10_gatherLines 2 (Option.none : Option Jvm.ClassFile.FieldType) false 1 0 0 37 [some (.ref 95), some (.int (nI i))] [.int 1] [s0, s1, s2, s3, s4, s5, s6, s7, jb_sht95 Is nums Js Ws, s9, s10, s11] _
            refine jb_if_ne (tgt := 103) (pc' := 40) dX10_gatherLines_37 (by decide) rfl (fun _ => ?_) (fun z => absurd z (by decide))
            refine jb_iinc_ (pc' := 106) (nI (i + 2)) dX10_gatherLines_103 (by decide) rfl (jb_inc i 2) (jb_at1 rfl) rfl ?_
            refine jb_goto (pc' := 7) dX10_gatherLines_106 (by decide) ?_
            exact ih (i + 2) acc Js Ws (by omega) (by omega) ⟨p1, p2, p3⟩
          · show jb_J _ RX10 cX10_gatherLines 2 (Option.none : Option Jvm.ClassFile.FieldType) false 1 0 0 37 [some (.ref 95), some (.int (nI i))] [.int 0] [s0, s1, s2, s3, s4, s5, s6, s7, jb_sht95 Is nums Js Ws, s9, s10, s11] _
            refine jb_if_ne (tgt := 103) (pc' := 40) dX10_gatherLines_37 (by decide) rfl (fun z => absurd (by decide) z) (fun _ => ?_)
            refine jb_aload_n (pc' := 41) dX10_gatherLines_40 rfl rfl ?_
            refine gf_X10_18 (pc' := 44) (v := .ref 96) dX10_gatherLines_41 rfl rfl rfl ?_
            refine jb_iload_n (pc' := 45) dX10_gatherLines_44 rfl rfl ?_
            refine jb_iconst (pc' := 46) 1 dX10_gatherLines_45 (by decide) rfl ?_
            refine jb_iadd (pc' := 47) dX10_gatherLines_46 rfl ?_
            refine jb_top (v := .int ((nI i) + 1)) (w := .int (nI (i + 1))) (jb_vI (nI_add _ 1)) ?_
            refine jb_iaload (pc' := 48) (i9 := (i + 1)) (f := nums) dX10_gatherLines_47 rfl (jb_ix_nI (by omega)) (by omega) rfl ?_
            refine jb_iconst (pc' := 49) 0 dX10_gatherLines_48 (by decide) rfl ?_
            refine jb_sipush (pc' := 52) 999 dX10_gatherLines_49 (by decide) rfl ?_
            refine jb_callSN (pc' := 55) (As := [.int (nums (i + 1)), .int 0, .int 999]) (a2 := 0) (b2 := 0) wv_X10_56 dX10_gatherLines_52 (c_isOutL (nums (i + 1)) 0 999 (by omega) (by omega)) rfl ⟨by decide, Nat.le_of_eq (Nat.zero_add _), Nat.le_of_eq (Nat.zero_add _)⟩ (Nat.le_of_ble_eq_true rfl) rfl (fun r h9 hq => ?_)
            rcases hq with ⟨rfl, ⟨o7, rfl⟩ | ⟨o7, rfl⟩⟩
            · show jb_J _ RX10 cX10_gatherLines 2 (Option.none : Option Jvm.ClassFile.FieldType) false 1 0 0 55 [some (.ref 95), some (.int (nI i))] [.int 1] [s0, s1, s2, s3, s4, s5, s6, s7, jb_sht95 Is nums Js Ws, s9, s10, s11] _
              refine jb_if_eq (tgt := 61) (pc' := 58) dX10_gatherLines_55 (by decide) rfl (fun z => absurd z (by decide)) (fun _ => ?_)
              refine jb_goto (pc' := 103) dX10_gatherLines_58 (by decide) ?_
              refine jb_iinc_ (pc' := 106) (nI (i + 2)) dX10_gatherLines_103 (by decide) rfl (jb_inc i 2) (jb_at1 rfl) rfl ?_
              refine jb_goto (pc' := 7) dX10_gatherLines_106 (by decide) ?_
              exact ih (i + 2) acc Js Ws (by omega) (by omega) ⟨p1, p2, p3⟩
            · exact absurd ⟨(jy_rng (n := 1) (by decide)).mp (by assumption), (jy_rng (n := 999) (by decide)).mp (by assumption)⟩ hv
      · rw [if_neg (fun z => hl z.2)] at eG
        rw [eG]
        show jb_J _ RX10 cX10_gatherLines 2 (Option.none : Option Jvm.ClassFile.FieldType) false 1 0 0 7 [some (.ref 95), some (.int (nI i))] [] [s0, s1, s2, s3, s4, s5, s6, s7, jb_sht95 Is nums Js Ws, s9, s10, s11] _
        refine jb_iload_n (pc' := 8) dX10_gatherLines_7 rfl rfl ?_
        refine jb_iconst (pc' := 9) 1 dX10_gatherLines_8 (by decide) rfl ?_
        refine jb_iadd (pc' := 10) dX10_gatherLines_9 rfl ?_
        refine jb_top (v := .int ((nI i) + 1)) (w := .int (nI (i + 1))) (jb_vI (nI_add _ 1)) ?_
        refine jb_aload_n (pc' := 11) dX10_gatherLines_10 rfl rfl ?_
        refine gf_X10_15 (pc' := 14) (v := .int (Is 1)) dX10_gatherLines_11 rfl rfl rfl ?_
        refine jb_top (v := .int (Is 1)) (w := .int (nI zs)) (jb_vI h1s) ?_
        refine jb_icmp_ge (tgt := 109) (pc' := 17) dX10_gatherLines_14 (by decide) rfl (fun z => absurd z (nI_ge (a := i + 1) (b := zs) (by omega) (by omega))) (fun _ => ?_)
        refine jb_aload_n (pc' := 18) dX10_gatherLines_17 rfl rfl ?_
        refine gf_X10_34 (pc' := 21) (v := .int (Js 1)) dX10_gatherLines_18 rfl rfl rfl ?_
        refine jb_top (v := .int (Js 1)) (w := .int (nI acc.length)) (jb_vI p1) ?_
        refine jb_bipush (pc' := 23) 12 dX10_gatherLines_21 (by decide) rfl ?_
        refine jb_icmp_ge (tgt := 109) (pc' := 26) dX10_gatherLines_23 (by decide) rfl (fun _ => ?_) (fun z => absurd (nI_le (a := 12) (b := acc.length) (by omega) (by omega)) z)
        refine jb_vret dX10_gatherLines_109 ?_
        exact ⟨rfl, Js, Ws, ⟨p1, p2, p3⟩, rfl⟩
    · rw [if_neg (fun z => hi1 z.1)] at eG
      rw [eG]
      show jb_J _ RX10 cX10_gatherLines 2 (Option.none : Option Jvm.ClassFile.FieldType) false 1 0 0 7 [some (.ref 95), some (.int (nI i))] [] [s0, s1, s2, s3, s4, s5, s6, s7, jb_sht95 Is nums Js Ws, s9, s10, s11] _
      refine jb_iload_n (pc' := 8) dX10_gatherLines_7 rfl rfl ?_
      refine jb_iconst (pc' := 9) 1 dX10_gatherLines_8 (by decide) rfl ?_
      refine jb_iadd (pc' := 10) dX10_gatherLines_9 rfl ?_
      refine jb_top (v := .int ((nI i) + 1)) (w := .int (nI (i + 1))) (jb_vI (nI_add _ 1)) ?_
      refine jb_aload_n (pc' := 11) dX10_gatherLines_10 rfl rfl ?_
      refine gf_X10_15 (pc' := 14) (v := .int (Is 1)) dX10_gatherLines_11 rfl rfl rfl ?_
      refine jb_top (v := .int (Is 1)) (w := .int (nI zs)) (jb_vI h1s) ?_
      refine jb_icmp_ge (tgt := 109) (pc' := 17) dX10_gatherLines_14 (by decide) rfl (fun _ => ?_) (fun z => absurd (nI_le (a := zs) (b := i + 1) (by omega) (by omega)) z)
      refine jb_vret dX10_gatherLines_109 ?_
      exact ⟨rfl, Js, Ws, ⟨p1, p2, p3⟩, rfl⟩
set_option maxRecDepth 100000 in
set_option maxHeartbeats 4000000 in
theorem c_gatherL_3 {sc : Nat × (Nat → Int32)} {s0 s1 s2 s3 s4 s5 s6 s7 s9 s10 s11 : List va_E} (Is nums Js : Nat → Int32) (Ws : Nat → Nat → Int32) (zs : Nat) (h1s : Is 1 = nI zs) (hzs : zs ≤ 40) : jb_C sc yX10_gatherLines cX10_gatherLines 2 (Option.none : Option Jvm.ClassFile.FieldType) 1 0 0 [.ref 95] [s0, s1, s2, s3, s4, s5, s6, s7, jb_sht95 Is nums Js Ws, s9, s10, s11] (fun r h9 => r = none ∧ ∃ (J9 : Nat → Int32) (W9 : Nat → Nat → Int32), (J9 1 = nI (jy_ga nums zs zs 0 []).length ∧ jy_in (jy_ga nums zs zs 0 []) ∧ (∀ j, j < (jy_ga nums zs zs 0 []).length → W9 3 j = nI ((jy_ga nums zs zs 0 []).getD j (0, 0)).1 ∧ W9 4 j = nI ((jy_ga nums zs zs 0 []).getD j (0, 0)).2)) ∧ h9 = [s0, s1, s2, s3, s4, s5, s6, s7, jb_sht95 Is nums J9 W9, s9, s10, s11]) := by
  refine jb_CofJ (ini := false) (by decide +kernel) (fun h => by cases h) (Nat.le_of_ble_eq_true rfl) ?_
  show jb_J sc RX10 cX10_gatherLines 2 (Option.none : Option Jvm.ClassFile.FieldType) false 1 0 0 0 [some (.ref 95), none] [] [s0, s1, s2, s3, s4, s5, s6, s7, jb_sht95 Is nums Js Ws, s9, s10, s11] _
  refine jb_aload_n (pc' := 1) dX10_gatherLines_0 rfl rfl ?_
  refine jb_iconst (pc' := 2) 0 dX10_gatherLines_1 (by decide) rfl ?_
  refine pf_X10_34 (pc' := 5) (h' := [s0, s1, s2, s3, s4, s5, s6, s7, jb_sht95 Is nums (upd Js 1 0) Ws, s9, s10, s11]) dX10_gatherLines_2 (fun _ => ⟨rfl, rfl⟩) rfl (Nat.le_of_ble_eq_true rfl) rfl rfl ?_
  refine jb_iconst (pc' := 6) 0 dX10_gatherLines_5 (by decide) rfl ?_
  refine jb_istore_n_ (pc' := 7) dX10_gatherLines_6 (by decide) (jb_at1 rfl) rfl ?_
  exact l_gatherL_3 Is nums zs h1s hzs zs 0 [] (upd Js 1 0) Ws (by omega) (by omega) ⟨rfl, ⟨by decide, fun j hj => absurd hj (Nat.not_lt_zero _)⟩, fun j hj => absurd hj (Nat.not_lt_zero _)⟩
set_option maxRecDepth 100000 in
set_option maxHeartbeats 4000000 in
theorem c_secondOn0_3 {sc : Nat × (Nat → Int32)} {s0 s1 s2 s3 s4 s5 s6 s7 s9 s10 s11 : List va_E} (Is nums Js : Nat → Int32) (Ws : Nat → Nat → Int32) (ls : List (Nat × Nat)) (g : Nat) (hg : g ≤ 40) (hln : Js 1 = nI ls.length ∧ jy_in ls ∧ (∀ j, j < ls.length → Ws 3 j = nI (ls.getD j (0, 0)).1 ∧ Ws 4 j = nI (ls.getD j (0, 0)).2)) (a : Nat) (ha : a < ls.length) : jb_C sc yX10_secondOn cX10_secondOn 4 (Option.some .int) 0 0 0 [.ref 95, .int 0, .int (nI a), .int (nI g)] [s0, s1, s2, s3, s4, s5, s6, s7, jb_sht95 Is nums Js Ws, s9, s10, s11] (fun r h9 => r = some (.int (nI (jy_on 0 g (ls.getD a (0, 0))))) ∧ [s0, s1, s2, s3, s4, s5, s6, s7, jb_sht95 Is nums Js Ws, s9, s10, s11] = h9) := by
  refine jb_CofJ (ini := false) (by decide +kernel) (fun h => by cases h) (Nat.le_of_ble_eq_true rfl) ?_
  show jb_J sc RX10 cX10_secondOn 4 (Option.some .int) false 0 0 0 0 [some (.ref 95), some (.int 0), some (.int (nI a)), some (.int (nI g))] [] [s0, s1, s2, s3, s4, s5, s6, s7, jb_sht95 Is nums Js Ws, s9, s10, s11] _
  obtain ⟨p1, p2, p3⟩ := hln
  have b1 := p2.1
  have b2 := p2.2 a ha
  refine jb_aload_n (pc' := 1) dX10_secondOn_0 rfl rfl ?_
  refine gf_X10_37 (pc' := 4) (v := .ref 100) dX10_secondOn_1 rfl rfl rfl ?_
  refine jb_iload_n (pc' := 5) dX10_secondOn_4 rfl rfl ?_
  refine jb_iaload (pc' := 6) (i9 := a) (f := (Ws 3)) dX10_secondOn_5 rfl (jb_ix_nI (by omega)) (by omega) rfl ?_
  refine jb_top (v := .int ((Ws 3) a)) (w := .int (nI (ls.getD a (0, 0)).1)) (jb_vI (p3 a ha).1) ?_
  refine jb_iload_n (pc' := 7) dX10_secondOn_6 rfl rfl ?_
  refine jb_icmp_ne (tgt := 19) (pc' := 10) dX10_secondOn_7 (by decide) rfl (fun hcc => ?_) (fun hcc => ?_)
  · have hcc : ¬ (ls.getD a (0, 0)).1 = 0 := fun z => hcc (by rw [z]; rfl)
    refine jb_aload_n (pc' := 20) dX10_secondOn_19 rfl rfl ?_
    refine gf_X10_40 (pc' := 23) (v := .ref 101) dX10_secondOn_20 rfl rfl rfl ?_
    refine jb_iload_n (pc' := 24) dX10_secondOn_23 rfl rfl ?_
    refine jb_iaload (pc' := 25) (i9 := a) (f := (Ws 4)) dX10_secondOn_24 rfl (jb_ix_nI (by omega)) (by omega) rfl ?_
    refine jb_top (v := .int ((Ws 4) a)) (w := .int (nI (ls.getD a (0, 0)).2)) (jb_vI (p3 a ha).2) ?_
    refine jb_iload_n (pc' := 26) dX10_secondOn_25 rfl rfl ?_
    refine jb_iadd (pc' := 27) dX10_secondOn_26 rfl ?_
    refine jb_top (v := .int ((nI (ls.getD a (0, 0)).2) + (nI g))) (w := .int (nI ((ls.getD a (0, 0)).2 + g))) (jb_vI (nI_add _ _)) ?_
    refine jb_iret dX10_secondOn_27 rfl ?_
    refine ⟨congrArg (fun q => some (Value.int (nI q))) ?_, rfl⟩
    unfold jy_on
    first | exact (if_pos (by omega)).symm | exact (if_neg (by omega)).symm
  · have hcc : (ls.getD a (0, 0)).1 = 0 := (nI_eq (a := (ls.getD a (0, 0)).1) (b := 0) (by omega) (by omega)).mp hcc
    refine jb_aload_n (pc' := 11) dX10_secondOn_10 rfl rfl ?_
    refine gf_X10_40 (pc' := 14) (v := .ref 101) dX10_secondOn_11 rfl rfl rfl ?_
    refine jb_iload_n (pc' := 15) dX10_secondOn_14 rfl rfl ?_
    refine jb_iaload (pc' := 16) (i9 := a) (f := (Ws 4)) dX10_secondOn_15 rfl (jb_ix_nI (by omega)) (by omega) rfl ?_
    refine jb_top (v := .int ((Ws 4) a)) (w := .int (nI (ls.getD a (0, 0)).2)) (jb_vI (p3 a ha).2) ?_
    refine jb_goto (pc' := 27) dX10_secondOn_16 (by decide) ?_
    refine jb_iret dX10_secondOn_27 rfl ?_
    refine ⟨congrArg (fun q => some (Value.int (nI q))) ?_, rfl⟩
    unfold jy_on
    first | exact (if_pos (by omega)).symm | exact (if_neg (by omega)).symm
set_option maxRecDepth 100000 in
set_option maxHeartbeats 4000000 in
theorem c_secondOn1_3 {sc : Nat × (Nat → Int32)} {s0 s1 s2 s3 s4 s5 s6 s7 s9 s10 s11 : List va_E} (Is nums Js : Nat → Int32) (Ws : Nat → Nat → Int32) (ls : List (Nat × Nat)) (g : Nat) (hg : g ≤ 40) (hln : Js 1 = nI ls.length ∧ jy_in ls ∧ (∀ j, j < ls.length → Ws 3 j = nI (ls.getD j (0, 0)).1 ∧ Ws 4 j = nI (ls.getD j (0, 0)).2)) (a : Nat) (ha : a < ls.length) : jb_C sc yX10_secondOn cX10_secondOn 4 (Option.some .int) 0 0 0 [.ref 95, .int 1, .int (nI a), .int (nI g)] [s0, s1, s2, s3, s4, s5, s6, s7, jb_sht95 Is nums Js Ws, s9, s10, s11] (fun r h9 => r = some (.int (nI (jy_on 1 g (ls.getD a (0, 0))))) ∧ [s0, s1, s2, s3, s4, s5, s6, s7, jb_sht95 Is nums Js Ws, s9, s10, s11] = h9) := by
  refine jb_CofJ (ini := false) (by decide +kernel) (fun h => by cases h) (Nat.le_of_ble_eq_true rfl) ?_
  show jb_J sc RX10 cX10_secondOn 4 (Option.some .int) false 0 0 0 0 [some (.ref 95), some (.int 1), some (.int (nI a)), some (.int (nI g))] [] [s0, s1, s2, s3, s4, s5, s6, s7, jb_sht95 Is nums Js Ws, s9, s10, s11] _
  obtain ⟨p1, p2, p3⟩ := hln
  have b1 := p2.1
  have b2 := p2.2 a ha
  refine jb_aload_n (pc' := 1) dX10_secondOn_0 rfl rfl ?_
  refine gf_X10_37 (pc' := 4) (v := .ref 100) dX10_secondOn_1 rfl rfl rfl ?_
  refine jb_iload_n (pc' := 5) dX10_secondOn_4 rfl rfl ?_
  refine jb_iaload (pc' := 6) (i9 := a) (f := (Ws 3)) dX10_secondOn_5 rfl (jb_ix_nI (by omega)) (by omega) rfl ?_
  refine jb_top (v := .int ((Ws 3) a)) (w := .int (nI (ls.getD a (0, 0)).1)) (jb_vI (p3 a ha).1) ?_
  refine jb_iload_n (pc' := 7) dX10_secondOn_6 rfl rfl ?_
  refine jb_icmp_ne (tgt := 19) (pc' := 10) dX10_secondOn_7 (by decide) rfl (fun hcc => ?_) (fun hcc => ?_)
  · have hcc : ¬ (ls.getD a (0, 0)).1 = 1 := fun z => hcc (by rw [z]; rfl)
    refine jb_aload_n (pc' := 20) dX10_secondOn_19 rfl rfl ?_
    refine gf_X10_40 (pc' := 23) (v := .ref 101) dX10_secondOn_20 rfl rfl rfl ?_
    refine jb_iload_n (pc' := 24) dX10_secondOn_23 rfl rfl ?_
    refine jb_iaload (pc' := 25) (i9 := a) (f := (Ws 4)) dX10_secondOn_24 rfl (jb_ix_nI (by omega)) (by omega) rfl ?_
    refine jb_top (v := .int ((Ws 4) a)) (w := .int (nI (ls.getD a (0, 0)).2)) (jb_vI (p3 a ha).2) ?_
    refine jb_iload_n (pc' := 26) dX10_secondOn_25 rfl rfl ?_
    refine jb_iadd (pc' := 27) dX10_secondOn_26 rfl ?_
    refine jb_top (v := .int ((nI (ls.getD a (0, 0)).2) + (nI g))) (w := .int (nI ((ls.getD a (0, 0)).2 + g))) (jb_vI (nI_add _ _)) ?_
    refine jb_iret dX10_secondOn_27 rfl ?_
    refine ⟨congrArg (fun q => some (Value.int (nI q))) ?_, rfl⟩
    unfold jy_on
    first | exact (if_pos (by omega)).symm | exact (if_neg (by omega)).symm
  · have hcc : (ls.getD a (0, 0)).1 = 1 := (nI_eq (a := (ls.getD a (0, 0)).1) (b := 1) (by omega) (by omega)).mp hcc
    refine jb_aload_n (pc' := 11) dX10_secondOn_10 rfl rfl ?_
    refine gf_X10_40 (pc' := 14) (v := .ref 101) dX10_secondOn_11 rfl rfl rfl ?_
    refine jb_iload_n (pc' := 15) dX10_secondOn_14 rfl rfl ?_
    refine jb_iaload (pc' := 16) (i9 := a) (f := (Ws 4)) dX10_secondOn_15 rfl (jb_ix_nI (by omega)) (by omega) rfl ?_
    refine jb_top (v := .int ((Ws 4) a)) (w := .int (nI (ls.getD a (0, 0)).2)) (jb_vI (p3 a ha).2) ?_
    refine jb_goto (pc' := 27) dX10_secondOn_16 (by decide) ?_
    refine jb_iret dX10_secondOn_27 rfl ?_
    refine ⟨congrArg (fun q => some (Value.int (nI q))) ?_, rfl⟩
    unfold jy_on
    first | exact (if_pos (by omega)).symm | exact (if_neg (by omega)).symm
set_option maxRecDepth 100000 in
set_option maxHeartbeats 4000000 in
theorem l_fg1_3 {sc : Nat × (Nat → Int32)} {s0 s1 s2 s3 s4 s5 s6 s7 s9 s10 s11 : List va_E} (Is nums Js : Nat → Int32) (Ws : Nat → Nat → Int32) (ls : List (Nat × Nat)) (g : Nat) (hg : g ≤ 40) (hln : Js 1 = nI ls.length ∧ jy_in ls ∧ (∀ j, j < ls.length → Ws 3 j = nI (ls.getD j (0, 0)).1 ∧ Ws 4 j = nI (ls.getD j (0, 0)).2)) (Q : Option Value → jb_H → Prop) (a : Nat) (ha : a < ls.length) (hret : ∀ b, b < a → jy_k g (ls.getD a (0, 0)) (ls.getD b (0, 0)) → Q (some (.int 0)) [s0, s1, s2, s3, s4, s5, s6, s7, jb_sht95 Is nums Js Ws, s9, s10, s11]) (hgo : ∀ x3, (∀ b, b < a → ¬ jy_k g (ls.getD a (0, 0)) (ls.getD b (0, 0))) → jb_J sc RX10 cX10_fitsGap 4 (Option.some .boolean) false 1 0 0 59 [some (.ref 95), some (.int (nI g)), some (.int (nI a)), x3] [] [s0, s1, s2, s3, s4, s5, s6, s7, jb_sht95 Is nums Js Ws, s9, s10, s11] Q) : ∀ (n b : Nat), b + n = a → (∀ c, c < b → ¬ jy_k g (ls.getD a (0, 0)) (ls.getD c (0, 0))) → jb_J sc RX10 cX10_fitsGap 4 (Option.some .boolean) false 1 0 0 12 [some (.ref 95), some (.int (nI g)), some (.int (nI a)), some (.int (nI b))] [] [s0, s1, s2, s3, s4, s5, s6, s7, jb_sht95 Is nums Js Ws, s9, s10, s11] Q := by
  have b1 := hln.2.1.1
  intro n
  induction n with
  | zero =>
    intro b hb hno
    show jb_J _ RX10 cX10_fitsGap 4 (Option.some .boolean) false 1 0 0 12 [some (.ref 95), some (.int (nI g)), some (.int (nI a)), some (.int (nI b))] [] [s0, s1, s2, s3, s4, s5, s6, s7, jb_sht95 Is nums Js Ws, s9, s10, s11] _
    refine jb_iload_n (pc' := 13) dX10_fitsGap_12 rfl rfl ?_
    refine jb_iload_n (pc' := 14) dX10_fitsGap_13 rfl rfl ?_
    refine jb_icmp_ge (tgt := 59) (pc' := 17) dX10_fitsGap_14 (by decide) rfl (fun _ => ?_) (fun z => absurd (nI_le (a := a) (b := b) (by omega) (by omega)) z)
    exact hgo _ (fun c hc => hno c (by omega))
  | succ n ih =>
    intro b hb hno
    have xa := hln.2.1.2 a ha
    have xb := hln.2.1.2 b (by omega)
    have o0 := jy_on_le (c := 0) xa.2 hg
    have u0 := jy_on_le (c := 0) xb.2 hg
    have o1 := jy_on_le (c := 1) xa.2 hg
    have u1 := jy_on_le (c := 1) xb.2 hg
    show jb_J _ RX10 cX10_fitsGap 4 (Option.some .boolean) false 1 0 0 12 [some (.ref 95), some (.int (nI g)), some (.int (nI a)), some (.int (nI b))] [] [s0, s1, s2, s3, s4, s5, s6, s7, jb_sht95 Is nums Js Ws, s9, s10, s11] _
    refine jb_iload_n (pc' := 13) dX10_fitsGap_12 rfl rfl ?_
    refine jb_iload_n (pc' := 14) dX10_fitsGap_13 rfl rfl ?_
    refine jb_icmp_ge (tgt := 59) (pc' := 17) dX10_fitsGap_14 (by decide) rfl (fun z => absurd z (nI_ge (a := b) (b := a) (by omega) (by omega))) (fun _ => ?_)
    refine jb_aload_n (pc' := 18) dX10_fitsGap_17 rfl rfl ?_
    refine jb_iconst (pc' := 19) 0 dX10_fitsGap_18 (by decide) rfl ?_
    refine jb_iload_n (pc' := 20) dX10_fitsGap_19 rfl rfl ?_
    refine jb_iload_n (pc' := 21) dX10_fitsGap_20 rfl rfl ?_
    refine jb_callV (pc' := 24) (ci := 10) (q := 95) (As := [.int 0, .int (nI a), .int (nI g)]) (a2 := 0) (b2 := 0) wv_X10_69 rfl dX10_fitsGap_21 (c_secondOn0_3 Is nums Js Ws ls g hg hln a (by omega)) rfl rfl ⟨by decide, Nat.le_of_eq (Nat.zero_add _), Nat.le_of_eq (Nat.zero_add _)⟩ (Nat.le_of_ble_eq_true rfl) rfl (fun r h9 hq => ?_)
    obtain ⟨rfl, rfl⟩ := hq
    show jb_J _ RX10 cX10_fitsGap 4 (Option.some .boolean) false 1 0 0 24 [some (.ref 95), some (.int (nI g)), some (.int (nI a)), some (.int (nI b))] [.int (nI (jy_on 0 g (ls.getD a (0, 0))))] [s0, s1, s2, s3, s4, s5, s6, s7, jb_sht95 Is nums Js Ws, s9, s10, s11] _
    refine jb_aload_n (pc' := 25) dX10_fitsGap_24 rfl rfl ?_
    refine jb_iconst (pc' := 26) 0 dX10_fitsGap_25 (by decide) rfl ?_
    refine jb_iload_n (pc' := 27) dX10_fitsGap_26 rfl rfl ?_
    refine jb_iload_n (pc' := 28) dX10_fitsGap_27 rfl rfl ?_
    refine jb_callV (pc' := 31) (ci := 10) (q := 95) (As := [.int 0, .int (nI b), .int (nI g)]) (a2 := 0) (b2 := 0) wv_X10_69 rfl dX10_fitsGap_28 (c_secondOn0_3 Is nums Js Ws ls g hg hln b (by omega)) rfl rfl ⟨by decide, Nat.le_of_eq (Nat.zero_add _), Nat.le_of_eq (Nat.zero_add _)⟩ (Nat.le_of_ble_eq_true rfl) rfl (fun r h9 hq => ?_)
    obtain ⟨rfl, rfl⟩ := hq
    show jb_J _ RX10 cX10_fitsGap 4 (Option.some .boolean) false 1 0 0 31 [some (.ref 95), some (.int (nI g)), some (.int (nI a)), some (.int (nI b))] [.int (nI (jy_on 0 g (ls.getD b (0, 0)))), .int (nI (jy_on 0 g (ls.getD a (0, 0))))] [s0, s1, s2, s3, s4, s5, s6, s7, jb_sht95 Is nums Js Ws, s9, s10, s11] _
    refine jb_icmp_eq (tgt := 51) (pc' := 34) dX10_fitsGap_31 (by decide) rfl (fun c2 => ?_) (fun c2 => ?_)
    · have c2 : (jy_on 0 g (ls.getD a (0, 0))) = (jy_on 0 g (ls.getD b (0, 0))) := (nI_eq (a := (jy_on 0 g (ls.getD a (0, 0)))) (b := (jy_on 0 g (ls.getD b (0, 0)))) (by omega) (by omega)).mp c2
      refine jb_iconst (pc' := 52) 0 dX10_fitsGap_51 (by decide) rfl ?_
      refine jb_iret dX10_fitsGap_52 rfl ?_
      exact hret b (by omega) ((jy_cl xa.1 xb.1).mp (by first | exact Or.inl (by assumption) | exact Or.inr (by assumption)))
    · have c2 : ¬ (jy_on 0 g (ls.getD a (0, 0))) = (jy_on 0 g (ls.getD b (0, 0))) := fun z9 => c2 ((nI_eq (a := (jy_on 0 g (ls.getD a (0, 0)))) (b := (jy_on 0 g (ls.getD b (0, 0)))) (by omega) (by omega)).mpr z9)
      refine jb_aload_n (pc' := 35) dX10_fitsGap_34 rfl rfl ?_
      refine jb_iconst (pc' := 36) 1 dX10_fitsGap_35 (by decide) rfl ?_
      refine jb_iload_n (pc' := 37) dX10_fitsGap_36 rfl rfl ?_
      refine jb_iload_n (pc' := 38) dX10_fitsGap_37 rfl rfl ?_
      refine jb_callV (pc' := 41) (ci := 10) (q := 95) (As := [.int 1, .int (nI a), .int (nI g)]) (a2 := 0) (b2 := 0) wv_X10_69 rfl dX10_fitsGap_38 (c_secondOn1_3 Is nums Js Ws ls g hg hln a (by omega)) rfl rfl ⟨by decide, Nat.le_of_eq (Nat.zero_add _), Nat.le_of_eq (Nat.zero_add _)⟩ (Nat.le_of_ble_eq_true rfl) rfl (fun r h9 hq => ?_)
      obtain ⟨rfl, rfl⟩ := hq
      show jb_J _ RX10 cX10_fitsGap 4 (Option.some .boolean) false 1 0 0 41 [some (.ref 95), some (.int (nI g)), some (.int (nI a)), some (.int (nI b))] [.int (nI (jy_on 1 g (ls.getD a (0, 0))))] [s0, s1, s2, s3, s4, s5, s6, s7, jb_sht95 Is nums Js Ws, s9, s10, s11] _
      refine jb_aload_n (pc' := 42) dX10_fitsGap_41 rfl rfl ?_
      refine jb_iconst (pc' := 43) 1 dX10_fitsGap_42 (by decide) rfl ?_
      refine jb_iload_n (pc' := 44) dX10_fitsGap_43 rfl rfl ?_
      refine jb_iload_n (pc' := 45) dX10_fitsGap_44 rfl rfl ?_
      refine jb_callV (pc' := 48) (ci := 10) (q := 95) (As := [.int 1, .int (nI b), .int (nI g)]) (a2 := 0) (b2 := 0) wv_X10_69 rfl dX10_fitsGap_45 (c_secondOn1_3 Is nums Js Ws ls g hg hln b (by omega)) rfl rfl ⟨by decide, Nat.le_of_eq (Nat.zero_add _), Nat.le_of_eq (Nat.zero_add _)⟩ (Nat.le_of_ble_eq_true rfl) rfl (fun r h9 hq => ?_)
      obtain ⟨rfl, rfl⟩ := hq
      show jb_J _ RX10 cX10_fitsGap 4 (Option.some .boolean) false 1 0 0 48 [some (.ref 95), some (.int (nI g)), some (.int (nI a)), some (.int (nI b))] [.int (nI (jy_on 1 g (ls.getD b (0, 0)))), .int (nI (jy_on 1 g (ls.getD a (0, 0))))] [s0, s1, s2, s3, s4, s5, s6, s7, jb_sht95 Is nums Js Ws, s9, s10, s11] _
      refine jb_icmp_ne (tgt := 53) (pc' := 51) dX10_fitsGap_48 (by decide) rfl (fun c3 => ?_) (fun c3 => ?_)
      · have c3 : ¬ (jy_on 1 g (ls.getD a (0, 0))) = (jy_on 1 g (ls.getD b (0, 0))) := fun z9 => c3 ((nI_eq (a := (jy_on 1 g (ls.getD a (0, 0)))) (b := (jy_on 1 g (ls.getD b (0, 0)))) (by omega) (by omega)).mpr z9)
        refine jb_iinc_ (pc' := 56) (nI (b + 1)) dX10_fitsGap_53 (by decide) rfl (jb_inc b 1) (jb_at3 rfl) rfl ?_
        refine jb_goto (pc' := 12) dX10_fitsGap_56 (by decide) ?_
        exact ih (b + 1) (by omega) (fun c hc => by
          by_cases e : c = b
          · rw [e]; exact fun z => ((jy_cl xa.1 xb.1).mpr z).elim (by assumption) (by assumption)
          · exact hno c (by omega))
      · have c3 : (jy_on 1 g (ls.getD a (0, 0))) = (jy_on 1 g (ls.getD b (0, 0))) := (nI_eq (a := (jy_on 1 g (ls.getD a (0, 0)))) (b := (jy_on 1 g (ls.getD b (0, 0)))) (by omega) (by omega)).mp c3
        refine jb_iconst (pc' := 52) 0 dX10_fitsGap_51 (by decide) rfl ?_
        refine jb_iret dX10_fitsGap_52 rfl ?_
        exact hret b (by omega) ((jy_cl xa.1 xb.1).mp (by first | exact Or.inl (by assumption) | exact Or.inr (by assumption)))
set_option maxRecDepth 100000 in
set_option maxHeartbeats 4000000 in
theorem l_fg_3 {sc : Nat × (Nat → Int32)} {s0 s1 s2 s3 s4 s5 s6 s7 s9 s10 s11 : List va_E} (Is nums Js : Nat → Int32) (Ws : Nat → Nat → Int32) (ls : List (Nat × Nat)) (g : Nat) (hg : g ≤ 40) (hln : Js 1 = nI ls.length ∧ jy_in ls ∧ (∀ j, j < ls.length → Ws 3 j = nI (ls.getD j (0, 0)).1 ∧ Ws 4 j = nI (ls.getD j (0, 0)).2)) : ∀ (n a : Nat) (x3 : Option Value), a + n = ls.length → (∀ c b, b < c → c < a → ¬ jy_k g (ls.getD c (0, 0)) (ls.getD b (0, 0))) → jb_J sc RX10 cX10_fitsGap 4 (Option.some .boolean) false 1 0 0 2 [some (.ref 95), some (.int (nI g)), some (.int (nI a)), x3] [] [s0, s1, s2, s3, s4, s5, s6, s7, jb_sht95 Is nums Js Ws, s9, s10, s11] (fun r h9 => [s0, s1, s2, s3, s4, s5, s6, s7, jb_sht95 Is nums Js Ws, s9, s10, s11] = h9 ∧ ((jy_f ls g ∧ r = some (.int 1)) ∨ (¬ jy_f ls g ∧ r = some (.int 0)))) := by
  have b1 := hln.2.1.1
  intro n
  induction n with
  | zero =>
    intro a x3 ha hno
    show jb_J _ RX10 cX10_fitsGap 4 (Option.some .boolean) false 1 0 0 2 [some (.ref 95), some (.int (nI g)), some (.int (nI a)), x3] [] [s0, s1, s2, s3, s4, s5, s6, s7, jb_sht95 Is nums Js Ws, s9, s10, s11] _
    refine jb_iload_n (pc' := 3) dX10_fitsGap_2 rfl rfl ?_
    refine jb_aload_n (pc' := 4) dX10_fitsGap_3 rfl rfl ?_
    refine gf_X10_34 (pc' := 7) (v := .int (Js 1)) dX10_fitsGap_4 rfl rfl rfl ?_
    refine jb_top (v := .int (Js 1)) (w := .int (nI ls.length)) (jb_vI hln.1) ?_
    refine jb_icmp_ge (tgt := 65) (pc' := 10) dX10_fitsGap_7 (by decide) rfl (fun _ => ?_) (fun z => absurd (nI_le (a := ls.length) (b := a) (by omega) (by omega)) z)
    refine jb_iconst (pc' := 66) 1 dX10_fitsGap_65 (by decide) rfl ?_
    refine jb_iret dX10_fitsGap_66 rfl ?_
    exact ⟨rfl, Or.inl ⟨fun c b h1 h2 => hno c b h1 (by omega), rfl⟩⟩
  | succ n ih =>
    intro a x3 ha hno
    show jb_J _ RX10 cX10_fitsGap 4 (Option.some .boolean) false 1 0 0 2 [some (.ref 95), some (.int (nI g)), some (.int (nI a)), x3] [] [s0, s1, s2, s3, s4, s5, s6, s7, jb_sht95 Is nums Js Ws, s9, s10, s11] _
    refine jb_iload_n (pc' := 3) dX10_fitsGap_2 rfl rfl ?_
    refine jb_aload_n (pc' := 4) dX10_fitsGap_3 rfl rfl ?_
    refine gf_X10_34 (pc' := 7) (v := .int (Js 1)) dX10_fitsGap_4 rfl rfl rfl ?_
    refine jb_top (v := .int (Js 1)) (w := .int (nI ls.length)) (jb_vI hln.1) ?_
    refine jb_icmp_ge (tgt := 65) (pc' := 10) dX10_fitsGap_7 (by decide) rfl (fun z => absurd z (nI_ge (a := a) (b := ls.length) (by omega) (by omega))) (fun _ => ?_)
    refine jb_iconst (pc' := 11) 0 dX10_fitsGap_10 (by decide) rfl ?_
    refine jb_istore_n_ (pc' := 12) dX10_fitsGap_11 (by decide) (jb_at3 rfl) rfl ?_
    refine l_fg1_3 Is nums Js Ws ls g hg hln _ a (by omega) (fun b hb z => ⟨rfl, Or.inr ⟨fun q => q a b hb (by omega) z, rfl⟩⟩) (fun x3 hno2 => ?_) a 0 (by omega) (fun c hc => absurd hc (by omega))
    show jb_J _ RX10 cX10_fitsGap 4 (Option.some .boolean) false 1 0 0 59 [some (.ref 95), some (.int (nI g)), some (.int (nI a)), x3] [] [s0, s1, s2, s3, s4, s5, s6, s7, jb_sht95 Is nums Js Ws, s9, s10, s11] _
    refine jb_iinc_ (pc' := 62) (nI (a + 1)) dX10_fitsGap_59 (by decide) rfl (jb_inc a 1) (jb_at2 rfl) rfl ?_
    refine jb_goto (pc' := 2) dX10_fitsGap_62 (by decide) ?_
    exact ih (a + 1) _ (by omega) (fun c b h1 h2 => by
      by_cases e : c = a
      · subst e; exact hno2 b h1
      · exact hno c b h1 (by omega))
set_option maxRecDepth 100000 in
set_option maxHeartbeats 4000000 in
theorem c_fitsGap_3 {sc : Nat × (Nat → Int32)} {s0 s1 s2 s3 s4 s5 s6 s7 s9 s10 s11 : List va_E} (Is nums Js : Nat → Int32) (Ws : Nat → Nat → Int32) (ls : List (Nat × Nat)) (g : Nat) (hg : g ≤ 40) (hln : Js 1 = nI ls.length ∧ jy_in ls ∧ (∀ j, j < ls.length → Ws 3 j = nI (ls.getD j (0, 0)).1 ∧ Ws 4 j = nI (ls.getD j (0, 0)).2)) : jb_C sc yX10_fitsGap cX10_fitsGap 4 (Option.some .boolean) 1 0 0 [.ref 95, .int (nI g)] [s0, s1, s2, s3, s4, s5, s6, s7, jb_sht95 Is nums Js Ws, s9, s10, s11] (fun r h9 => [s0, s1, s2, s3, s4, s5, s6, s7, jb_sht95 Is nums Js Ws, s9, s10, s11] = h9 ∧ ((jy_f ls g ∧ r = some (.int 1)) ∨ (¬ jy_f ls g ∧ r = some (.int 0)))) := by
  refine jb_CofJ (ini := false) (by decide +kernel) (fun h => by cases h) (Nat.le_of_ble_eq_true rfl) ?_
  show jb_J sc RX10 cX10_fitsGap 4 (Option.some .boolean) false 1 0 0 0 [some (.ref 95), some (.int (nI g)), none, none] [] [s0, s1, s2, s3, s4, s5, s6, s7, jb_sht95 Is nums Js Ws, s9, s10, s11] _
  refine jb_iconst (pc' := 1) 0 dX10_fitsGap_0 (by decide) rfl ?_
  refine jb_istore_n_ (pc' := 2) dX10_fitsGap_1 (by decide) (jb_at2 rfl) rfl ?_
  exact l_fg_3 Is nums Js Ws ls g hg hln ls.length 0 _ (by omega) (fun c b h1 h2 => absurd h2 (by omega))
set_option maxRecDepth 100000 in
set_option maxHeartbeats 4000000 in
theorem l_least_3 {sc : Nat × (Nat → Int32)} {s0 s1 s2 s3 s4 s5 s6 s7 s9 s10 s11 : List va_E} (Is nums Js : Nat → Int32) (Ws : Nat → Nat → Int32) (ls : List (Nat × Nat)) (hln : Js 1 = nI ls.length ∧ jy_in ls ∧ (∀ j, j < ls.length → Ws 3 j = nI (ls.getD j (0, 0)).1 ∧ Ws 4 j = nI (ls.getD j (0, 0)).2)) : ∀ (n g : Nat), g + n = 41 → (∀ h, h < g → ¬ jy_f ls h) → jb_J sc RX10 cX10_leastFit 2 (Option.some .int) false 2 0 0 6 [some (.ref 95), some (.int (nI g))] [] [s0, s1, s2, s3, s4, s5, s6, s7, jb_sht95 Is nums Js Ws, s9, s10, s11] (fun r h9 => [s0, s1, s2, s3, s4, s5, s6, s7, jb_sht95 Is nums Js Ws, s9, s10, s11] = h9 ∧ ∃ v, jy_L (jy_f ls) v ∧ r = some (.int v)) := by
  intro n
  induction n with
  | zero =>
    intro g hg hno
    show jb_J _ RX10 cX10_leastFit 2 (Option.some .int) false 2 0 0 6 [some (.ref 95), some (.int (nI g))] [] [s0, s1, s2, s3, s4, s5, s6, s7, jb_sht95 Is nums Js Ws, s9, s10, s11] _
    refine jb_iload_n (pc' := 7) dX10_leastFit_6 rfl rfl ?_
    refine jb_bipush (pc' := 9) 40 dX10_leastFit_7 (by decide) rfl ?_
    refine jb_icmp_gt (tgt := 28) (pc' := 12) dX10_leastFit_9 (by decide) rfl (fun _ => ?_) (fun z => absurd (nI_lt (a := 40) (b := g) (by omega) (by omega)) z)
    refine jb_iconst (pc' := 29) (-1) dX10_leastFit_28 (by decide) rfl ?_
    refine jb_iret dX10_leastFit_29 rfl ?_
    exact ⟨rfl, -1, Or.inl ⟨rfl, fun h hh => hno h (by omega)⟩, rfl⟩
  | succ n ih =>
    intro g hg hno
    show jb_J _ RX10 cX10_leastFit 2 (Option.some .int) false 2 0 0 6 [some (.ref 95), some (.int (nI g))] [] [s0, s1, s2, s3, s4, s5, s6, s7, jb_sht95 Is nums Js Ws, s9, s10, s11] _
    refine jb_iload_n (pc' := 7) dX10_leastFit_6 rfl rfl ?_
    refine jb_bipush (pc' := 9) 40 dX10_leastFit_7 (by decide) rfl ?_
    refine jb_icmp_gt (tgt := 28) (pc' := 12) dX10_leastFit_9 (by decide) rfl (fun z => absurd z (nI_nlt (a := 40) (b := g) (by omega) (by omega))) (fun _ => ?_)
    refine jb_aload_n (pc' := 13) dX10_leastFit_12 rfl rfl ?_
    refine jb_iload_n (pc' := 14) dX10_leastFit_13 rfl rfl ?_
    refine jb_callV (pc' := 17) (ci := 10) (q := 95) (As := [.int (nI g)]) (a2 := 0) (b2 := 0) wv_X10_65 rfl dX10_leastFit_14 (c_fitsGap_3 Is nums Js Ws ls g (by omega) hln) rfl rfl ⟨by decide, Nat.le_of_eq (Nat.zero_add _), Nat.le_of_eq (Nat.zero_add _)⟩ (Nat.le_of_ble_eq_true rfl) rfl (fun r h9 hq => ?_)
    rcases hq with ⟨rfl, ⟨hfg, rfl⟩ | ⟨hfg, rfl⟩⟩
    · show jb_J _ RX10 cX10_leastFit 2 (Option.some .int) false 2 0 0 17 [some (.ref 95), some (.int (nI g))] [.int 1] [s0, s1, s2, s3, s4, s5, s6, s7, jb_sht95 Is nums Js Ws, s9, s10, s11] _
      refine jb_if_eq (tgt := 22) (pc' := 20) dX10_leastFit_17 (by decide) rfl (fun z => absurd z (by decide)) (fun _ => ?_)
      refine jb_iload_n (pc' := 21) dX10_leastFit_20 rfl rfl ?_
      refine jb_iret dX10_leastFit_21 rfl ?_
      exact ⟨rfl, nI g, Or.inr ⟨g, by omega, rfl, hfg, hno⟩, rfl⟩
    · show jb_J _ RX10 cX10_leastFit 2 (Option.some .int) false 2 0 0 17 [some (.ref 95), some (.int (nI g))] [.int 0] [s0, s1, s2, s3, s4, s5, s6, s7, jb_sht95 Is nums Js Ws, s9, s10, s11] _
      refine jb_if_eq (tgt := 22) (pc' := 20) dX10_leastFit_17 (by decide) rfl (fun _ => ?_) (fun z => absurd (by decide) z)
      refine jb_iinc_ (pc' := 25) (nI (g + 1)) dX10_leastFit_22 (by decide) rfl (jb_inc g 1) (jb_at1 rfl) rfl ?_
      refine jb_goto (pc' := 6) dX10_leastFit_25 (by decide) ?_
      exact ih (g + 1) (by omega) (fun h hh => by
        by_cases e : h = g
        · rw [e]; exact hfg
        · exact hno h (by omega))
set_option maxRecDepth 100000 in
set_option maxHeartbeats 4000000 in
theorem c_leastFit_3 {sc : Nat × (Nat → Int32)} {s0 s1 s2 s3 s4 s5 s6 s7 s9 s10 s11 : List va_E} (Is nums Js : Nat → Int32) (Ws : Nat → Nat → Int32) (zs : Nat) (h1s : Is 1 = nI zs) (hzs : zs ≤ 40) : jb_C sc yX10_leastFit cX10_leastFit 2 (Option.some .int) 2 0 0 [.ref 95] [s0, s1, s2, s3, s4, s5, s6, s7, jb_sht95 Is nums Js Ws, s9, s10, s11] (fun r h9 => ∃ J9 W9, h9 = [s0, s1, s2, s3, s4, s5, s6, s7, jb_sht95 Is nums J9 W9, s9, s10, s11] ∧ ∃ v, jy_L (jy_f (jy_ga nums zs zs 0 [])) v ∧ r = some (.int v)) := by
  refine jb_CofJ (ini := false) (by decide +kernel) (fun h => by cases h) (Nat.le_of_ble_eq_true rfl) ?_
  show jb_J sc RX10 cX10_leastFit 2 (Option.some .int) false 2 0 0 0 [some (.ref 95), none] [] [s0, s1, s2, s3, s4, s5, s6, s7, jb_sht95 Is nums Js Ws, s9, s10, s11] _
  refine jb_aload_n (pc' := 1) dX10_leastFit_0 rfl rfl ?_
  refine jb_callV (pc' := 4) (ci := 10) (q := 95) (As := []) (a2 := 0) (b2 := 0) wv_X10_62 rfl dX10_leastFit_1 (c_gatherL_3 Is nums Js Ws zs h1s hzs) rfl rfl ⟨by decide, Nat.le_of_eq (Nat.zero_add _), Nat.le_of_eq (Nat.zero_add _)⟩ (Nat.le_of_ble_eq_true rfl) rfl (fun r h9 hq => ?_)
  obtain ⟨rfl, J9, W9, hln, rfl⟩ := hq
  show jb_J _ RX10 cX10_leastFit 2 (Option.some .int) false 2 0 0 4 [some (.ref 95), none] [] [s0, s1, s2, s3, s4, s5, s6, s7, jb_sht95 Is nums J9 W9, s9, s10, s11] _
  refine jb_iconst (pc' := 5) 0 dX10_leastFit_4 (by decide) rfl ?_
  refine jb_istore_n_ (pc' := 6) dX10_leastFit_5 (by decide) (jb_at1 rfl) rfl ?_
  refine jb_J.mono (l_least_3 Is nums J9 W9 (jy_ga nums zs zs 0 []) hln 41 0 (by omega) (fun h hh => absurd hh (by omega))) (Nat.le_refl _) (Nat.le_refl _) (Nat.le_refl _) (fun r h9 hq => ?_)
  exact ⟨J9, W9, hq.1.symm, hq.2⟩
set_option maxRecDepth 100000 in
set_option maxHeartbeats 4000000 in
theorem l_all_3 {sc : Nat × (Nat → Int32)} {s0 s1 s2 s3 s4 s5 s6 s7 s9 s10 s11 : List va_E} (Is nums Js : Nat → Int32) (Ws : Nat → Nat → Int32) (ls : List (Nat × Nat)) (hln : Js 1 = nI ls.length ∧ jy_in ls ∧ (∀ j, j < ls.length → Ws 3 j = nI (ls.getD j (0, 0)).1 ∧ Ws 4 j = nI (ls.getD j (0, 0)).2)) : ∀ (n g k : Nat), g + n = 41 → jy_n (jy_f ls) g = k → jb_J sc RX10 cX10_allFits 3 (Option.some .int) false 2 0 0 8 [some (.ref 95), some (.int (nI k)), some (.int (nI g))] [] [s0, s1, s2, s3, s4, s5, s6, s7, jb_sht95 Is nums Js Ws, s9, s10, s11] (fun r h9 => [s0, s1, s2, s3, s4, s5, s6, s7, jb_sht95 Is nums Js Ws, s9, s10, s11] = h9 ∧ r = some (.int (nI (jy_n (jy_f ls) 41)))) := by
  intro n
  induction n with
  | zero =>
    intro g k hg hk
    obtain rfl : g = 41 := by omega
    show jb_J _ RX10 cX10_allFits 3 (Option.some .int) false 2 0 0 8 [some (.ref 95), some (.int (nI k)), some (.int (nI 41))] [] [s0, s1, s2, s3, s4, s5, s6, s7, jb_sht95 Is nums Js Ws, s9, s10, s11] _
    refine jb_iload_n (pc' := 9) dX10_allFits_8 rfl rfl ?_
    refine jb_bipush (pc' := 11) 40 dX10_allFits_9 (by decide) rfl ?_
    refine jb_icmp_gt (tgt := 31) (pc' := 14) dX10_allFits_11 (by decide) rfl (fun _ => ?_) (fun z => absurd (by decide) z)
    refine jb_iload_n (pc' := 32) dX10_allFits_31 rfl rfl ?_
    refine jb_iret dX10_allFits_32 rfl ?_
    exact ⟨rfl, by rw [hk]⟩
  | succ n ih =>
    intro g k hg hk
    show jb_J _ RX10 cX10_allFits 3 (Option.some .int) false 2 0 0 8 [some (.ref 95), some (.int (nI k)), some (.int (nI g))] [] [s0, s1, s2, s3, s4, s5, s6, s7, jb_sht95 Is nums Js Ws, s9, s10, s11] _
    refine jb_iload_n (pc' := 9) dX10_allFits_8 rfl rfl ?_
    refine jb_bipush (pc' := 11) 40 dX10_allFits_9 (by decide) rfl ?_
    refine jb_icmp_gt (tgt := 31) (pc' := 14) dX10_allFits_11 (by decide) rfl (fun z => absurd z (nI_nlt (a := 40) (b := g) (by omega) (by omega))) (fun _ => ?_)
    refine jb_aload_n (pc' := 15) dX10_allFits_14 rfl rfl ?_
    refine jb_iload_n (pc' := 16) dX10_allFits_15 rfl rfl ?_
    refine jb_callV (pc' := 19) (ci := 10) (q := 95) (As := [.int (nI g)]) (a2 := 0) (b2 := 0) wv_X10_65 rfl dX10_allFits_16 (c_fitsGap_3 Is nums Js Ws ls g (by omega) hln) rfl rfl ⟨by decide, Nat.le_of_eq (Nat.zero_add _), Nat.le_of_eq (Nat.zero_add _)⟩ (Nat.le_of_ble_eq_true rfl) rfl (fun r h9 hq => ?_)
    rcases hq with ⟨rfl, ⟨hfg, rfl⟩ | ⟨hfg, rfl⟩⟩
    · show jb_J _ RX10 cX10_allFits 3 (Option.some .int) false 2 0 0 19 [some (.ref 95), some (.int (nI k)), some (.int (nI g))] [.int 1] [s0, s1, s2, s3, s4, s5, s6, s7, jb_sht95 Is nums Js Ws, s9, s10, s11] _
      refine jb_if_eq (tgt := 25) (pc' := 22) dX10_allFits_19 (by decide) rfl (fun z => absurd z (by decide)) (fun _ => ?_)
      refine jb_iinc_ (pc' := 25) (nI (k + 1)) dX10_allFits_22 (by decide) rfl (jb_inc k 1) (jb_at1 rfl) rfl ?_
      refine jb_iinc_ (pc' := 28) (nI (g + 1)) dX10_allFits_25 (by decide) rfl (jb_inc g 1) (jb_at2 rfl) rfl ?_
      refine jb_goto (pc' := 8) dX10_allFits_28 (by decide) ?_
      exact ih (g + 1) (k + 1) (by omega) (by rw [jy_n1 hfg, hk])
    · show jb_J _ RX10 cX10_allFits 3 (Option.some .int) false 2 0 0 19 [some (.ref 95), some (.int (nI k)), some (.int (nI g))] [.int 0] [s0, s1, s2, s3, s4, s5, s6, s7, jb_sht95 Is nums Js Ws, s9, s10, s11] _
      refine jb_if_eq (tgt := 25) (pc' := 22) dX10_allFits_19 (by decide) rfl (fun _ => ?_) (fun z => absurd (by decide) z)
      refine jb_iinc_ (pc' := 28) (nI (g + 1)) dX10_allFits_25 (by decide) rfl (jb_inc g 1) (jb_at2 rfl) rfl ?_
      refine jb_goto (pc' := 8) dX10_allFits_28 (by decide) ?_
      exact ih (g + 1) k (by omega) (by rw [jy_n0 hfg, hk])
set_option maxRecDepth 100000 in
set_option maxHeartbeats 4000000 in
theorem c_allFits_3 {sc : Nat × (Nat → Int32)} {s0 s1 s2 s3 s4 s5 s6 s7 s9 s10 s11 : List va_E} (Is nums Js : Nat → Int32) (Ws : Nat → Nat → Int32) (zs : Nat) (h1s : Is 1 = nI zs) (hzs : zs ≤ 40) : jb_C sc yX10_allFits cX10_allFits 3 (Option.some .int) 2 0 0 [.ref 95] [s0, s1, s2, s3, s4, s5, s6, s7, jb_sht95 Is nums Js Ws, s9, s10, s11] (fun r h9 => ∃ J9 W9, h9 = [s0, s1, s2, s3, s4, s5, s6, s7, jb_sht95 Is nums J9 W9, s9, s10, s11] ∧ r = some (.int (nI (jy_n (jy_f (jy_ga nums zs zs 0 [])) 41)))) := by
  refine jb_CofJ (ini := false) (by decide +kernel) (fun h => by cases h) (Nat.le_of_ble_eq_true rfl) ?_
  show jb_J sc RX10 cX10_allFits 3 (Option.some .int) false 2 0 0 0 [some (.ref 95), none, none] [] [s0, s1, s2, s3, s4, s5, s6, s7, jb_sht95 Is nums Js Ws, s9, s10, s11] _
  refine jb_aload_n (pc' := 1) dX10_allFits_0 rfl rfl ?_
  refine jb_callV (pc' := 4) (ci := 10) (q := 95) (As := []) (a2 := 0) (b2 := 0) wv_X10_62 rfl dX10_allFits_1 (c_gatherL_3 Is nums Js Ws zs h1s hzs) rfl rfl ⟨by decide, Nat.le_of_eq (Nat.zero_add _), Nat.le_of_eq (Nat.zero_add _)⟩ (Nat.le_of_ble_eq_true rfl) rfl (fun r h9 hq => ?_)
  obtain ⟨rfl, J9, W9, hln, rfl⟩ := hq
  show jb_J _ RX10 cX10_allFits 3 (Option.some .int) false 2 0 0 4 [some (.ref 95), none, none] [] [s0, s1, s2, s3, s4, s5, s6, s7, jb_sht95 Is nums J9 W9, s9, s10, s11] _
  refine jb_iconst (pc' := 5) 0 dX10_allFits_4 (by decide) rfl ?_
  refine jb_istore_n_ (pc' := 6) dX10_allFits_5 (by decide) (jb_at1 rfl) rfl ?_
  refine jb_iconst (pc' := 7) 0 dX10_allFits_6 (by decide) rfl ?_
  refine jb_istore_n_ (pc' := 8) dX10_allFits_7 (by decide) (jb_at2 rfl) rfl ?_
  refine jb_J.mono (l_all_3 Is nums J9 W9 (jy_ga nums zs zs 0 []) hln 41 0 0 (by omega) rfl) (Nat.le_refl _) (Nat.le_refl _) (Nat.le_refl _) (fun r h9 hq => ?_)
  exact ⟨J9, W9, hq.1.symm, hq.2⟩
set_option maxRecDepth 100000 in
set_option maxHeartbeats 4000000 in
theorem kx_poem0_3 {sc : Nat × (Nat → Int32)} {s1 s2 s3 s5 s6 s7 s9 s10 s11 : List va_E} (imm : Int32) (Im rowm stkm tpm : Nat → Int32) (Tm : Nat → Value) (Is nums Js : Nat → Int32) (Ws : Nat → Nat → Int32) {bs zs : Nat} (h0s : Is 0 = nI bs) (h1s : Is 1 = nI zs) (hbs : bs ≤ 32) (hzs : zs ≤ 40) (hm : ¬ bs = 0) : jb_C sc yX11_poem cX11_poem 3 (Option.some .int) 3 0 0 [.ref 0, .int 3, .int 0] [jb_main imm Im Tm rowm stkm tpm, s1, s2, s3, jb_shs, s5, s6, s7, jb_sht95 Is nums Js Ws, s9, s10, s11] (fun r h9 => ∃ J9 W9, h9 = [jb_main imm Im Tm rowm stkm tpm, s1, s2, s3, jb_shs, s5, s6, s7, jb_sht95 Is nums J9 W9, s9, s10, s11] ∧ ∃ v, jy_L (jy_f (jy_ga nums zs zs 0 [])) v ∧ r = some (.int v)) := by
  refine jb_CofJ (ini := false) (by decide +kernel) (fun h => by cases h) (Nat.le_of_ble_eq_true rfl) ?_
  show jb_J sc RX11 cX11_poem 3 (Option.some .int) false 3 0 0 0 [some (.ref 0), some (.int 3), some (.int 0)] [] [jb_main imm Im Tm rowm stkm tpm, s1, s2, s3, jb_shs, s5, s6, s7, jb_sht95 Is nums Js Ws, s9, s10, s11] _
  refine jb_aload_n (pc' := 1) dX11_poem_0 rfl rfl ?_
  refine jb_iload_n (pc' := 2) dX11_poem_1 rfl rfl ?_
  refine jb_callV (pc' := 5) (ci := 11) (q := 0) (As := [.int 3]) (a2 := 0) (b2 := 0) wv_X11_165 rfl dX11_poem_2 (c_isNoSheetG _ 3 (by omega)) rfl rfl ⟨by decide, Nat.le_of_eq (Nat.zero_add _), Nat.le_of_eq (Nat.zero_add _)⟩ (Nat.le_of_ble_eq_true rfl) rfl (fun r h9 hq => ?_)
  obtain ⟨rfl, rfl⟩ := hq
  show jb_J _ RX11 cX11_poem 3 (Option.some .int) false 3 0 0 5 [some (.ref 0), some (.int 3), some (.int 0)] [.int 0] [jb_main imm Im Tm rowm stkm tpm, s1, s2, s3, jb_shs, s5, s6, s7, jb_sht95 Is nums Js Ws, s9, s10, s11] _
  refine jb_if_ne (tgt := 17) (pc' := 8) dX11_poem_5 (by decide) rfl (fun z => absurd (by decide) z) (fun _ => ?_)
  refine jb_iload_n (pc' := 9) dX11_poem_8 rfl rfl ?_
  refine jb_iconst (pc' := 10) 0 dX11_poem_9 (by decide) rfl ?_
  refine jb_iconst (pc' := 11) 1 dX11_poem_10 (by decide) rfl ?_
  refine jb_callS (pc' := 14) (As := [.int 0, .int 0, .int 1]) (a2 := 0) (b2 := 0) wv_X11_74 dX11_poem_11 (c_isOutLG 0 0 1 (by omega) (by omega) (by omega)) rfl ⟨by decide, Nat.le_of_eq (Nat.zero_add _), Nat.le_of_eq (Nat.zero_add _)⟩ (Nat.le_of_ble_eq_true rfl) rfl (fun r h9 hq => ?_)
  obtain ⟨rfl, rfl⟩ := hq
  show jb_J _ RX11 cX11_poem 3 (Option.some .int) false 3 0 0 14 [some (.ref 0), some (.int 3), some (.int 0)] [.int 0] [jb_main imm Im Tm rowm stkm tpm, s1, s2, s3, jb_shs, s5, s6, s7, jb_sht95 Is nums Js Ws, s9, s10, s11] _
  refine jb_if_eq (tgt := 23) (pc' := 17) dX11_poem_14 (by decide) rfl (fun _ => ?_) (fun z => absurd (by decide) z)
  refine jb_aload_n (pc' := 24) dX11_poem_23 rfl rfl ?_
  refine gf_X11_54 (pc' := 27) (v := .ref 73) dX11_poem_24 rfl rfl rfl ?_
  refine jb_iload_n (pc' := 28) dX11_poem_27 rfl rfl ?_
  refine jb_aaload (pc' := 29) (i9 := 3) (r := 95) (Or.inr (Or.inr rfl)) dX11_poem_28 rfl jb_x3 (by decide) rfl rfl ?_
  refine jb_callV (pc' := 32) (ci := 10) (q := 95) (As := []) (a2 := 0) (b2 := 0) wv_X11_168 rfl dX11_poem_29 (c_isMissing_3 Is nums Js Ws h0s h1s hbs hzs) rfl rfl ⟨by decide, Nat.le_of_eq (Nat.zero_add _), Nat.le_of_eq (Nat.zero_add _)⟩ (Nat.le_of_ble_eq_true rfl) rfl (fun r h9 hq => ?_)
  rcases hq with ⟨rfl, ⟨hms, rfl⟩ | ⟨hms, rfl⟩⟩
  · exact absurd hms hm
  · show jb_J _ RX11 cX11_poem 3 (Option.some .int) false 3 0 0 32 [some (.ref 0), some (.int 3), some (.int 0)] [.int 0] [jb_main imm Im Tm rowm stkm tpm, s1, s2, s3, jb_shs, s5, s6, s7, jb_sht95 Is nums Js Ws, s9, s10, s11] _
    refine jb_if_eq (tgt := 41) (pc' := 35) dX11_poem_32 (by decide) rfl (fun _ => ?_) (fun z => absurd (by decide) z)
    refine jb_iload_n (pc' := 42) dX11_poem_41 rfl rfl ?_
    refine jb_if_ne (tgt := 57) (pc' := 45) dX11_poem_42 (by decide) rfl (fun z => absurd (by decide) z) (fun _ => ?_)
    refine jb_aload_n (pc' := 46) dX11_poem_45 rfl rfl ?_
    refine gf_X11_54 (pc' := 49) (v := .ref 73) dX11_poem_46 rfl rfl rfl ?_
    refine jb_iload_n (pc' := 50) dX11_poem_49 rfl rfl ?_
    refine jb_aaload (pc' := 51) (i9 := 3) (r := 95) (Or.inr (Or.inr rfl)) dX11_poem_50 rfl jb_x3 (by decide) rfl rfl ?_
    refine jb_callV (pc' := 54) (ci := 10) (q := 95) (As := []) (a2 := 0) (b2 := 0) wv_X11_178 rfl dX11_poem_51 (c_leastFit_3 Is nums Js Ws zs h1s hzs) rfl rfl ⟨by decide, Nat.le_of_eq (Nat.zero_add _), Nat.le_of_eq (Nat.zero_add _)⟩ (Nat.le_of_ble_eq_true rfl) rfl (fun r h9 hq => ?_)
    obtain ⟨J9, W9, rfl, v, hv, rfl⟩ := hq
    show jb_J _ RX11 cX11_poem 3 (Option.some .int) false 3 0 0 54 [some (.ref 0), some (.int 3), some (.int 0)] [.int v] [jb_main imm Im Tm rowm stkm tpm, s1, s2, s3, jb_shs, s5, s6, s7, jb_sht95 Is nums J9 W9, s9, s10, s11] _
    refine jb_goto (pc' := 66) dX11_poem_54 (by decide) ?_
    refine jb_iret dX11_poem_66 rfl ?_
    exact ⟨J9, W9, rfl, v, hv, rfl⟩
set_option maxRecDepth 100000 in
set_option maxHeartbeats 4000000 in
theorem kx_poem1_3 {sc : Nat × (Nat → Int32)} {s1 s2 s3 s5 s6 s7 s9 s10 s11 : List va_E} (imm : Int32) (Im rowm stkm tpm : Nat → Int32) (Tm : Nat → Value) (Is nums Js : Nat → Int32) (Ws : Nat → Nat → Int32) {bs zs : Nat} (h0s : Is 0 = nI bs) (h1s : Is 1 = nI zs) (hbs : bs ≤ 32) (hzs : zs ≤ 40) (hm : ¬ bs = 0) : jb_C sc yX11_poem cX11_poem 3 (Option.some .int) 3 0 0 [.ref 0, .int 3, .int 1] [jb_main imm Im Tm rowm stkm tpm, s1, s2, s3, jb_shs, s5, s6, s7, jb_sht95 Is nums Js Ws, s9, s10, s11] (fun r h9 => ∃ J9 W9, h9 = [jb_main imm Im Tm rowm stkm tpm, s1, s2, s3, jb_shs, s5, s6, s7, jb_sht95 Is nums J9 W9, s9, s10, s11] ∧ r = some (.int (nI (jy_n (jy_f (jy_ga nums zs zs 0 [])) 41)))) := by
  refine jb_CofJ (ini := false) (by decide +kernel) (fun h => by cases h) (Nat.le_of_ble_eq_true rfl) ?_
  show jb_J sc RX11 cX11_poem 3 (Option.some .int) false 3 0 0 0 [some (.ref 0), some (.int 3), some (.int 1)] [] [jb_main imm Im Tm rowm stkm tpm, s1, s2, s3, jb_shs, s5, s6, s7, jb_sht95 Is nums Js Ws, s9, s10, s11] _
  refine jb_aload_n (pc' := 1) dX11_poem_0 rfl rfl ?_
  refine jb_iload_n (pc' := 2) dX11_poem_1 rfl rfl ?_
  refine jb_callV (pc' := 5) (ci := 11) (q := 0) (As := [.int 3]) (a2 := 0) (b2 := 0) wv_X11_165 rfl dX11_poem_2 (c_isNoSheetG _ 3 (by omega)) rfl rfl ⟨by decide, Nat.le_of_eq (Nat.zero_add _), Nat.le_of_eq (Nat.zero_add _)⟩ (Nat.le_of_ble_eq_true rfl) rfl (fun r h9 hq => ?_)
  obtain ⟨rfl, rfl⟩ := hq
  show jb_J _ RX11 cX11_poem 3 (Option.some .int) false 3 0 0 5 [some (.ref 0), some (.int 3), some (.int 1)] [.int 0] [jb_main imm Im Tm rowm stkm tpm, s1, s2, s3, jb_shs, s5, s6, s7, jb_sht95 Is nums Js Ws, s9, s10, s11] _
  refine jb_if_ne (tgt := 17) (pc' := 8) dX11_poem_5 (by decide) rfl (fun z => absurd (by decide) z) (fun _ => ?_)
  refine jb_iload_n (pc' := 9) dX11_poem_8 rfl rfl ?_
  refine jb_iconst (pc' := 10) 0 dX11_poem_9 (by decide) rfl ?_
  refine jb_iconst (pc' := 11) 1 dX11_poem_10 (by decide) rfl ?_
  refine jb_callS (pc' := 14) (As := [.int 1, .int 0, .int 1]) (a2 := 0) (b2 := 0) wv_X11_74 dX11_poem_11 (c_isOutLG 1 0 1 (by omega) (by omega) (by omega)) rfl ⟨by decide, Nat.le_of_eq (Nat.zero_add _), Nat.le_of_eq (Nat.zero_add _)⟩ (Nat.le_of_ble_eq_true rfl) rfl (fun r h9 hq => ?_)
  obtain ⟨rfl, rfl⟩ := hq
  show jb_J _ RX11 cX11_poem 3 (Option.some .int) false 3 0 0 14 [some (.ref 0), some (.int 3), some (.int 1)] [.int 0] [jb_main imm Im Tm rowm stkm tpm, s1, s2, s3, jb_shs, s5, s6, s7, jb_sht95 Is nums Js Ws, s9, s10, s11] _
  refine jb_if_eq (tgt := 23) (pc' := 17) dX11_poem_14 (by decide) rfl (fun _ => ?_) (fun z => absurd (by decide) z)
  refine jb_aload_n (pc' := 24) dX11_poem_23 rfl rfl ?_
  refine gf_X11_54 (pc' := 27) (v := .ref 73) dX11_poem_24 rfl rfl rfl ?_
  refine jb_iload_n (pc' := 28) dX11_poem_27 rfl rfl ?_
  refine jb_aaload (pc' := 29) (i9 := 3) (r := 95) (Or.inr (Or.inr rfl)) dX11_poem_28 rfl jb_x3 (by decide) rfl rfl ?_
  refine jb_callV (pc' := 32) (ci := 10) (q := 95) (As := []) (a2 := 0) (b2 := 0) wv_X11_168 rfl dX11_poem_29 (c_isMissing_3 Is nums Js Ws h0s h1s hbs hzs) rfl rfl ⟨by decide, Nat.le_of_eq (Nat.zero_add _), Nat.le_of_eq (Nat.zero_add _)⟩ (Nat.le_of_ble_eq_true rfl) rfl (fun r h9 hq => ?_)
  rcases hq with ⟨rfl, ⟨hms, rfl⟩ | ⟨hms, rfl⟩⟩
  · exact absurd hms hm
  · show jb_J _ RX11 cX11_poem 3 (Option.some .int) false 3 0 0 32 [some (.ref 0), some (.int 3), some (.int 1)] [.int 0] [jb_main imm Im Tm rowm stkm tpm, s1, s2, s3, jb_shs, s5, s6, s7, jb_sht95 Is nums Js Ws, s9, s10, s11] _
    refine jb_if_eq (tgt := 41) (pc' := 35) dX11_poem_32 (by decide) rfl (fun _ => ?_) (fun z => absurd (by decide) z)
    refine jb_iload_n (pc' := 42) dX11_poem_41 rfl rfl ?_
    refine jb_if_ne (tgt := 57) (pc' := 45) dX11_poem_42 (by decide) rfl (fun _ => ?_) (fun z => absurd z (by decide))
    refine jb_aload_n (pc' := 58) dX11_poem_57 rfl rfl ?_
    refine gf_X11_54 (pc' := 61) (v := .ref 73) dX11_poem_58 rfl rfl rfl ?_
    refine jb_iload_n (pc' := 62) dX11_poem_61 rfl rfl ?_
    refine jb_aaload (pc' := 63) (i9 := 3) (r := 95) (Or.inr (Or.inr rfl)) dX11_poem_62 rfl jb_x3 (by decide) rfl rfl ?_
    refine jb_callV (pc' := 66) (ci := 10) (q := 95) (As := []) (a2 := 0) (b2 := 0) wv_X11_181 rfl dX11_poem_63 (c_allFits_3 Is nums Js Ws zs h1s hzs) rfl rfl ⟨by decide, Nat.le_of_eq (Nat.zero_add _), Nat.le_of_eq (Nat.zero_add _)⟩ (Nat.le_of_ble_eq_true rfl) rfl (fun r h9 hq => ?_)
    obtain ⟨J9, W9, rfl, rfl⟩ := hq
    show jb_J _ RX11 cX11_poem 3 (Option.some .int) false 3 0 0 66 [some (.ref 0), some (.int 3), some (.int 1)] [.int (nI (jy_n (jy_f (jy_ga nums zs zs 0 [])) 41))] [jb_main imm Im Tm rowm stkm tpm, s1, s2, s3, jb_shs, s5, s6, s7, jb_sht95 Is nums J9 W9, s9, s10, s11] _
    refine jb_iret dX11_poem_66 rfl ?_
    exact ⟨J9, W9, rfl, rfl⟩
set_option maxRecDepth 100000 in
set_option maxHeartbeats 4000000 in
theorem l_fm1 {sc : Nat × (Nat → Int32)} {s0 s1 s2 s3 s4 s5 s6 s7 s8 s9 s11 : List va_E} (I J d e kp nm : Nat → Int32) (W : Nat → Nat → Int32) (ls : List (Nat × Nat)) (g : Nat) (hg : g ≤ 40) (hln : I 2 = nI ls.length ∧ jy_in ls ∧ (∀ j, j < ls.length → W 7 j = nI (ls.getD j (0, 0)).1 ∧ W 8 j = nI (ls.getD j (0, 0)).2)) (Q : Option Value → jb_H → Prop) (a : Nat) (ha : a < ls.length) (hret : ∀ b, b < a → jy_k g (ls.getD a (0, 0)) (ls.getD b (0, 0)) → Q (some (.int 0)) [s0, s1, s2, s3, s4, s5, s6, s7, s8, s9, jb_mdl I J d e kp nm W, s11]) (hgo : ∀ x3 x4 x5 x6, (∀ b, b < a → ¬ jy_k g (ls.getD a (0, 0)) (ls.getD b (0, 0))) → jb_J sc RX12 cX12_fits 7 (Option.some .boolean) false 0 0 0 101 [some (.ref 105), some (.int (nI g)), some (.int (nI a)), x3, x4, x5, x6] [] [s0, s1, s2, s3, s4, s5, s6, s7, s8, s9, jb_mdl I J d e kp nm W, s11] Q) : ∀ (n b : Nat) (x4 x5 x6 : Option Value), b + n = a → (∀ c, c < b → ¬ jy_k g (ls.getD a (0, 0)) (ls.getD c (0, 0))) → jb_J sc RX12 cX12_fits 7 (Option.some .boolean) false 0 0 0 12 [some (.ref 105), some (.int (nI g)), some (.int (nI a)), some (.int (nI b)), x4, x5, x6] [] [s0, s1, s2, s3, s4, s5, s6, s7, s8, s9, jb_mdl I J d e kp nm W, s11] Q := by
  have b1 := hln.2.1.1
  intro n
  induction n with
  | zero =>
    intro b x4 x5 x6 hb hno
    show jb_J _ RX12 cX12_fits 7 (Option.some .boolean) false 0 0 0 12 [some (.ref 105), some (.int (nI g)), some (.int (nI a)), some (.int (nI b)), x4, x5, x6] [] [s0, s1, s2, s3, s4, s5, s6, s7, s8, s9, jb_mdl I J d e kp nm W, s11] _
    refine jb_iload_n (pc' := 13) dX12_fits_12 rfl rfl ?_
    refine jb_iload_n (pc' := 14) dX12_fits_13 rfl rfl ?_
    refine jb_icmp_ge (tgt := 101) (pc' := 17) dX12_fits_14 (by decide) rfl (fun _ => ?_) (fun z => absurd (nI_le (a := a) (b := b) (by omega) (by omega)) z)
    exact hgo _ _ _ _ (fun c hc => hno c (by omega))
  | succ n ih =>
    intro b x4 x5 x6 hb hno
    have xa := hln.2.1.2 a ha
    have xb := hln.2.1.2 b (by omega)
    show jb_J _ RX12 cX12_fits 7 (Option.some .boolean) false 0 0 0 12 [some (.ref 105), some (.int (nI g)), some (.int (nI a)), some (.int (nI b)), x4, x5, x6] [] [s0, s1, s2, s3, s4, s5, s6, s7, s8, s9, jb_mdl I J d e kp nm W, s11] _
    refine jb_iload_n (pc' := 13) dX12_fits_12 rfl rfl ?_
    refine jb_iload_n (pc' := 14) dX12_fits_13 rfl rfl ?_
    refine jb_icmp_ge (tgt := 101) (pc' := 17) dX12_fits_14 (by decide) rfl (fun z => absurd z (nI_ge (a := b) (b := a) (by omega) (by omega))) (fun _ => ?_)
    refine jb_aload_n (pc' := 18) dX12_fits_17 rfl rfl ?_
    refine gf_X12_46 (pc' := 21) (v := .ref 118) dX12_fits_18 rfl rfl rfl ?_
    refine jb_iload_n (pc' := 22) dX12_fits_21 rfl rfl ?_
    refine jb_iaload (pc' := 23) (i9 := a) (f := (W 8)) dX12_fits_22 rfl (jb_ix_nI (by omega)) (by omega) rfl ?_
    refine jb_top (v := .int ((W 8) a)) (w := .int (nI (ls.getD a (0, 0)).2)) (jb_vI (hln.2.2 a (by omega)).2) ?_
    refine jb_istore_ (pc' := 25) dX12_fits_23 (by decide) (jb_at4 rfl) rfl ?_
    refine jb_aload_n (pc' := 26) dX12_fits_25 rfl rfl ?_
    refine gf_X12_46 (pc' := 29) (v := .ref 118) dX12_fits_26 rfl rfl rfl ?_
    refine jb_iload_n (pc' := 30) dX12_fits_29 rfl rfl ?_
    refine jb_iaload (pc' := 31) (i9 := b) (f := (W 8)) dX12_fits_30 rfl (jb_ix_nI (by omega)) (by omega) rfl ?_
    refine jb_top (v := .int ((W 8) b)) (w := .int (nI (ls.getD b (0, 0)).2)) (jb_vI (hln.2.2 b (by omega)).2) ?_
    refine jb_istore_ (pc' := 33) dX12_fits_31 (by decide) (jb_at5 rfl) rfl ?_
    refine jb_aload_n (pc' := 34) dX12_fits_33 rfl rfl ?_
    refine gf_X12_43 (pc' := 37) (v := .ref 117) dX12_fits_34 rfl rfl rfl ?_
    refine jb_iload_n (pc' := 38) dX12_fits_37 rfl rfl ?_
    refine jb_iaload (pc' := 39) (i9 := a) (f := (W 7)) dX12_fits_38 rfl (jb_ix_nI (by omega)) (by omega) rfl ?_
    refine jb_top (v := .int ((W 7) a)) (w := .int (nI (ls.getD a (0, 0)).1)) (jb_vI (hln.2.2 a (by omega)).1) ?_
    refine jb_aload_n (pc' := 40) dX12_fits_39 rfl rfl ?_
    refine gf_X12_43 (pc' := 43) (v := .ref 117) dX12_fits_40 rfl rfl rfl ?_
    refine jb_iload_n (pc' := 44) dX12_fits_43 rfl rfl ?_
    refine jb_iaload (pc' := 45) (i9 := b) (f := (W 7)) dX12_fits_44 rfl (jb_ix_nI (by omega)) (by omega) rfl ?_
    refine jb_top (v := .int ((W 7) b)) (w := .int (nI (ls.getD b (0, 0)).1)) (jb_vI (hln.2.2 b (by omega)).1) ?_
    refine jb_icmp_ne (tgt := 63) (pc' := 48) dX12_fits_45 (by decide) rfl (fun q45 => ?_) (fun q45 => ?_)
    · have q45 : ¬ (ls.getD a (0, 0)).1 = (ls.getD b (0, 0)).1 := fun z => q45 ((nI_eq (a := (ls.getD a (0, 0)).1) (b := (ls.getD b (0, 0)).1) (by omega) (by omega)).mpr z)
      refine jb_iload (pc' := 65) dX12_fits_63 rfl rfl ?_
      refine jb_iload (pc' := 67) dX12_fits_65 rfl rfl ?_
      refine jb_iload_n (pc' := 68) dX12_fits_67 rfl rfl ?_
      refine jb_iadd (pc' := 69) dX12_fits_68 rfl ?_
      refine jb_top (v := .int ((nI (ls.getD b (0, 0)).2) + (nI g))) (w := .int (nI ((ls.getD b (0, 0)).2 + g))) (jb_vI (nI_add _ _)) ?_
      refine jb_icmp_eq (tgt := 81) (pc' := 72) dX12_fits_69 (by decide) rfl (fun q69 => ?_) (fun q69 => ?_)
      · have q69 : (ls.getD a (0, 0)).2 = ((ls.getD b (0, 0)).2 + g) := (nI_eq (a := (ls.getD a (0, 0)).2) (b := ((ls.getD b (0, 0)).2 + g)) (by omega) (by omega)).mp q69
        refine jb_iconst (pc' := 82) 1 dX12_fits_81 (by decide) rfl ?_
        refine jb_goto (pc' := 86) dX12_fits_82 (by decide) ?_
        refine jb_istore_ (pc' := 88) dX12_fits_86 (by decide) (jb_at6 rfl) rfl ?_
        refine jb_iload (pc' := 90) dX12_fits_88 rfl rfl ?_
        refine jb_if_eq (tgt := 95) (pc' := 93) dX12_fits_90 (by decide) rfl (fun z => absurd z (by decide)) (fun _ => ?_)
        refine jb_iconst (pc' := 94) 0 dX12_fits_93 (by decide) rfl ?_
        refine jb_iret dX12_fits_94 rfl ?_
        exact hret b (by omega) (by unfold jy_k; omega)
      · have q69 : ¬ (ls.getD a (0, 0)).2 = ((ls.getD b (0, 0)).2 + g) := fun z => q69 ((nI_eq (a := (ls.getD a (0, 0)).2) (b := ((ls.getD b (0, 0)).2 + g)) (by omega) (by omega)).mpr z)
        refine jb_iload (pc' := 74) dX12_fits_72 rfl rfl ?_
        refine jb_iload (pc' := 76) dX12_fits_74 rfl rfl ?_
        refine jb_iload_n (pc' := 77) dX12_fits_76 rfl rfl ?_
        refine jb_iadd (pc' := 78) dX12_fits_77 rfl ?_
        refine jb_top (v := .int ((nI (ls.getD a (0, 0)).2) + (nI g))) (w := .int (nI ((ls.getD a (0, 0)).2 + g))) (jb_vI (nI_add _ _)) ?_
        refine jb_icmp_ne (tgt := 85) (pc' := 81) dX12_fits_78 (by decide) rfl (fun q78 => ?_) (fun q78 => ?_)
        · have q78 : ¬ (ls.getD b (0, 0)).2 = ((ls.getD a (0, 0)).2 + g) := fun z => q78 ((nI_eq (a := (ls.getD b (0, 0)).2) (b := ((ls.getD a (0, 0)).2 + g)) (by omega) (by omega)).mpr z)
          refine jb_iconst (pc' := 86) 0 dX12_fits_85 (by decide) rfl ?_
          refine jb_istore_ (pc' := 88) dX12_fits_86 (by decide) (jb_at6 rfl) rfl ?_
          refine jb_iload (pc' := 90) dX12_fits_88 rfl rfl ?_
          refine jb_if_eq (tgt := 95) (pc' := 93) dX12_fits_90 (by decide) rfl (fun _ => ?_) (fun z => absurd (by decide) z)
          refine jb_iinc_ (pc' := 98) (nI (b + 1)) dX12_fits_95 (by decide) rfl (jb_inc b 1) (jb_at3 rfl) rfl ?_
          refine jb_goto (pc' := 12) dX12_fits_98 (by decide) ?_
          exact ih (b + 1) _ _ _ (by omega) (fun c hc => by
            by_cases e : c = b
            · rw [e]; unfold jy_k; omega
            · exact hno c (by omega))
        · have q78 : (ls.getD b (0, 0)).2 = ((ls.getD a (0, 0)).2 + g) := (nI_eq (a := (ls.getD b (0, 0)).2) (b := ((ls.getD a (0, 0)).2 + g)) (by omega) (by omega)).mp q78
          refine jb_iconst (pc' := 82) 1 dX12_fits_81 (by decide) rfl ?_
          refine jb_goto (pc' := 86) dX12_fits_82 (by decide) ?_
          refine jb_istore_ (pc' := 88) dX12_fits_86 (by decide) (jb_at6 rfl) rfl ?_
          refine jb_iload (pc' := 90) dX12_fits_88 rfl rfl ?_
          refine jb_if_eq (tgt := 95) (pc' := 93) dX12_fits_90 (by decide) rfl (fun z => absurd z (by decide)) (fun _ => ?_)
          refine jb_iconst (pc' := 94) 0 dX12_fits_93 (by decide) rfl ?_
          refine jb_iret dX12_fits_94 rfl ?_
          exact hret b (by omega) (by unfold jy_k; omega)
    · have q45 : (ls.getD a (0, 0)).1 = (ls.getD b (0, 0)).1 := (nI_eq (a := (ls.getD a (0, 0)).1) (b := (ls.getD b (0, 0)).1) (by omega) (by omega)).mp q45
      refine jb_iload (pc' := 50) dX12_fits_48 rfl rfl ?_
      refine jb_iload (pc' := 52) dX12_fits_50 rfl rfl ?_
      refine jb_icmp_ne (tgt := 59) (pc' := 55) dX12_fits_52 (by decide) rfl (fun q52 => ?_) (fun q52 => ?_)
      · have q52 : ¬ (ls.getD a (0, 0)).2 = (ls.getD b (0, 0)).2 := fun z => q52 ((nI_eq (a := (ls.getD a (0, 0)).2) (b := (ls.getD b (0, 0)).2) (by omega) (by omega)).mpr z)
        refine jb_iconst (pc' := 60) 0 dX12_fits_59 (by decide) rfl ?_
        refine jb_goto (pc' := 86) dX12_fits_60 (by decide) ?_
        refine jb_istore_ (pc' := 88) dX12_fits_86 (by decide) (jb_at6 rfl) rfl ?_
        refine jb_iload (pc' := 90) dX12_fits_88 rfl rfl ?_
        refine jb_if_eq (tgt := 95) (pc' := 93) dX12_fits_90 (by decide) rfl (fun _ => ?_) (fun z => absurd (by decide) z)
        refine jb_iinc_ (pc' := 98) (nI (b + 1)) dX12_fits_95 (by decide) rfl (jb_inc b 1) (jb_at3 rfl) rfl ?_
        refine jb_goto (pc' := 12) dX12_fits_98 (by decide) ?_
        exact ih (b + 1) _ _ _ (by omega) (fun c hc => by
          by_cases e : c = b
          · rw [e]; unfold jy_k; omega
          · exact hno c (by omega))
      · have q52 : (ls.getD a (0, 0)).2 = (ls.getD b (0, 0)).2 := (nI_eq (a := (ls.getD a (0, 0)).2) (b := (ls.getD b (0, 0)).2) (by omega) (by omega)).mp q52
        refine jb_iconst (pc' := 56) 1 dX12_fits_55 (by decide) rfl ?_
        refine jb_goto (pc' := 86) dX12_fits_56 (by decide) ?_
        refine jb_istore_ (pc' := 88) dX12_fits_86 (by decide) (jb_at6 rfl) rfl ?_
        refine jb_iload (pc' := 90) dX12_fits_88 rfl rfl ?_
        refine jb_if_eq (tgt := 95) (pc' := 93) dX12_fits_90 (by decide) rfl (fun z => absurd z (by decide)) (fun _ => ?_)
        refine jb_iconst (pc' := 94) 0 dX12_fits_93 (by decide) rfl ?_
        refine jb_iret dX12_fits_94 rfl ?_
        exact hret b (by omega) (by unfold jy_k; omega)
set_option maxRecDepth 100000 in
set_option maxHeartbeats 4000000 in
theorem l_fm {sc : Nat × (Nat → Int32)} {s0 s1 s2 s3 s4 s5 s6 s7 s8 s9 s11 : List va_E} (I J d e kp nm : Nat → Int32) (W : Nat → Nat → Int32) (ls : List (Nat × Nat)) (g : Nat) (hg : g ≤ 40) (hln : I 2 = nI ls.length ∧ jy_in ls ∧ (∀ j, j < ls.length → W 7 j = nI (ls.getD j (0, 0)).1 ∧ W 8 j = nI (ls.getD j (0, 0)).2)) : ∀ (n a : Nat) (x3 x4 x5 x6 : Option Value), a + n = ls.length → (∀ c b, b < c → c < a → ¬ jy_k g (ls.getD c (0, 0)) (ls.getD b (0, 0))) → jb_J sc RX12 cX12_fits 7 (Option.some .boolean) false 0 0 0 2 [some (.ref 105), some (.int (nI g)), some (.int (nI a)), x3, x4, x5, x6] [] [s0, s1, s2, s3, s4, s5, s6, s7, s8, s9, jb_mdl I J d e kp nm W, s11] (fun r h9 => [s0, s1, s2, s3, s4, s5, s6, s7, s8, s9, jb_mdl I J d e kp nm W, s11] = h9 ∧ ((jy_f ls g ∧ r = some (.int 1)) ∨ (¬ jy_f ls g ∧ r = some (.int 0)))) := by
  have b1 := hln.2.1.1
  intro n
  induction n with
  | zero =>
    intro a x3 x4 x5 x6 ha hno
    show jb_J _ RX12 cX12_fits 7 (Option.some .boolean) false 0 0 0 2 [some (.ref 105), some (.int (nI g)), some (.int (nI a)), x3, x4, x5, x6] [] [s0, s1, s2, s3, s4, s5, s6, s7, s8, s9, jb_mdl I J d e kp nm W, s11] _
    refine jb_iload_n (pc' := 3) dX12_fits_2 rfl rfl ?_
    refine jb_aload_n (pc' := 4) dX12_fits_3 rfl rfl ?_
    refine gf_X12_242 (pc' := 7) (v := .int (I 2)) dX12_fits_4 rfl rfl rfl ?_
    refine jb_top (v := .int (I 2)) (w := .int (nI ls.length)) (jb_vI hln.1) ?_
    refine jb_icmp_ge (tgt := 107) (pc' := 10) dX12_fits_7 (by decide) rfl (fun _ => ?_) (fun z => absurd (nI_le (a := ls.length) (b := a) (by omega) (by omega)) z)
    refine jb_iconst (pc' := 108) 1 dX12_fits_107 (by decide) rfl ?_
    refine jb_iret dX12_fits_108 rfl ?_
    exact ⟨rfl, Or.inl ⟨fun c b h1 h2 => hno c b h1 (by omega), rfl⟩⟩
  | succ n ih =>
    intro a x3 x4 x5 x6 ha hno
    show jb_J _ RX12 cX12_fits 7 (Option.some .boolean) false 0 0 0 2 [some (.ref 105), some (.int (nI g)), some (.int (nI a)), x3, x4, x5, x6] [] [s0, s1, s2, s3, s4, s5, s6, s7, s8, s9, jb_mdl I J d e kp nm W, s11] _
    refine jb_iload_n (pc' := 3) dX12_fits_2 rfl rfl ?_
    refine jb_aload_n (pc' := 4) dX12_fits_3 rfl rfl ?_
    refine gf_X12_242 (pc' := 7) (v := .int (I 2)) dX12_fits_4 rfl rfl rfl ?_
    refine jb_top (v := .int (I 2)) (w := .int (nI ls.length)) (jb_vI hln.1) ?_
    refine jb_icmp_ge (tgt := 107) (pc' := 10) dX12_fits_7 (by decide) rfl (fun z => absurd z (nI_ge (a := a) (b := ls.length) (by omega) (by omega))) (fun _ => ?_)
    refine jb_iconst (pc' := 11) 0 dX12_fits_10 (by decide) rfl ?_
    refine jb_istore_n_ (pc' := 12) dX12_fits_11 (by decide) (jb_at3 rfl) rfl ?_
    refine l_fm1 I J d e kp nm W ls g hg hln _ a (by omega) (fun b hb z => ⟨rfl, Or.inr ⟨fun q => q a b hb (by omega) z, rfl⟩⟩) (fun x3 x4 x5 x6 hno2 => ?_) a 0 _ _ _ (by omega) (fun c hc => absurd hc (by omega))
    show jb_J _ RX12 cX12_fits 7 (Option.some .boolean) false 0 0 0 101 [some (.ref 105), some (.int (nI g)), some (.int (nI a)), x3, x4, x5, x6] [] [s0, s1, s2, s3, s4, s5, s6, s7, s8, s9, jb_mdl I J d e kp nm W, s11] _
    refine jb_iinc_ (pc' := 104) (nI (a + 1)) dX12_fits_101 (by decide) rfl (jb_inc a 1) (jb_at2 rfl) rfl ?_
    refine jb_goto (pc' := 2) dX12_fits_104 (by decide) ?_
    exact ih (a + 1) _ _ _ _ (by omega) (fun c b h1 h2 => by
      by_cases e : c = a
      · subst e; exact hno2 b h1
      · exact hno c b h1 (by omega))
set_option maxRecDepth 100000 in
set_option maxHeartbeats 4000000 in
theorem c_fits {sc : Nat × (Nat → Int32)} {s0 s1 s2 s3 s4 s5 s6 s7 s8 s9 s11 : List va_E} (I J d e kp nm : Nat → Int32) (W : Nat → Nat → Int32) (ls : List (Nat × Nat)) (g : Nat) (hg : g ≤ 40) (hln : I 2 = nI ls.length ∧ jy_in ls ∧ (∀ j, j < ls.length → W 7 j = nI (ls.getD j (0, 0)).1 ∧ W 8 j = nI (ls.getD j (0, 0)).2)) : jb_C sc yX12_fits cX12_fits 7 (Option.some .boolean) 0 0 0 [.ref 105, .int (nI g)] [s0, s1, s2, s3, s4, s5, s6, s7, s8, s9, jb_mdl I J d e kp nm W, s11] (fun r h9 => [s0, s1, s2, s3, s4, s5, s6, s7, s8, s9, jb_mdl I J d e kp nm W, s11] = h9 ∧ ((jy_f ls g ∧ r = some (.int 1)) ∨ (¬ jy_f ls g ∧ r = some (.int 0)))) := by
  refine jb_CofJ (ini := false) (by decide +kernel) (fun h => by cases h) (Nat.le_of_ble_eq_true rfl) ?_
  show jb_J sc RX12 cX12_fits 7 (Option.some .boolean) false 0 0 0 0 [some (.ref 105), some (.int (nI g)), none, none, none, none, none] [] [s0, s1, s2, s3, s4, s5, s6, s7, s8, s9, jb_mdl I J d e kp nm W, s11] _
  refine jb_iconst (pc' := 1) 0 dX12_fits_0 (by decide) rfl ?_
  refine jb_istore_n_ (pc' := 2) dX12_fits_1 (by decide) (jb_at2 rfl) rfl ?_
  exact l_fm I J d e kp nm W ls g hg hln ls.length 0 _ _ _ _ (by omega) (fun c b h1 h2 => absurd h2 (by omega))
set_option maxRecDepth 100000 in
set_option maxHeartbeats 4000000 in
theorem l_poem0 {sc : Nat × (Nat → Int32)} {s0 s1 s2 s3 s4 s5 s6 s7 s8 s9 s11 : List va_E} (I J d e kp nm : Nat → Int32) (W : Nat → Nat → Int32) (ls : List (Nat × Nat)) (hln : I 2 = nI ls.length ∧ jy_in ls ∧ (∀ j, j < ls.length → W 7 j = nI (ls.getD j (0, 0)).1 ∧ W 8 j = nI (ls.getD j (0, 0)).2)) (x1 : Option Value) : ∀ (g1 k : Nat) (le : Int32) (x7 : Option Value), g1 ≤ 41 → k + jy_n (jy_f ls) g1 = jy_n (jy_f ls) 41 → ((le = -1 ∧ ∀ h, g1 ≤ h → h ≤ 40 → ¬ jy_f ls h) ∨ ∃ h, g1 ≤ h ∧ h ≤ 40 ∧ le = nI h ∧ jy_f ls h ∧ ∀ j, g1 ≤ j → j < h → ¬ jy_f ls j) → jb_J sc RX12 cX12_poem 8 (Option.some .int) false 3 0 0 162 [some (.ref 105), x1, some (.int 0), some (.int 0), some (.int le), some (.int (nI k)), some (.int (nI g1 - 1)), x7] [] [s0, s1, s2, s3, s4, s5, s6, s7, s8, s9, jb_mdl I J d e kp nm W, s11] (fun r h9 => [s0, s1, s2, s3, s4, s5, s6, s7, s8, s9, jb_mdl I J d e kp nm W, s11] = h9 ∧ ∃ v, jy_L (jy_f ls) v ∧ r = some (.int v)) := by
  intro g1
  induction g1 with
  | zero =>
    intro k le x7 hg hk hle
    show jb_J _ RX12 cX12_poem 8 (Option.some .int) false 3 0 0 162 [some (.ref 105), x1, some (.int 0), some (.int 0), some (.int le), some (.int (nI k)), some (.int (nI 0 - 1)), x7] [] [s0, s1, s2, s3, s4, s5, s6, s7, s8, s9, jb_mdl I J d e kp nm W, s11] _
    refine jb_iload (pc' := 164) dX12_poem_162 rfl rfl ?_
    refine jb_if_lt (tgt := 210) (pc' := 167) dX12_poem_164 (by decide) rfl (fun _ => ?_) (fun z => absurd (by decide) z)
    refine jb_iload_n (pc' := 211) dX12_poem_210 rfl rfl ?_
    refine jb_if_ne (tgt := 219) (pc' := 214) dX12_poem_211 (by decide) rfl (fun z => absurd (by decide) z) (fun _ => ?_)
    refine jb_iload (pc' := 216) dX12_poem_214 rfl rfl ?_
    refine jb_goto (pc' := 221) dX12_poem_216 (by decide) ?_
    refine jb_iret dX12_poem_221 rfl ?_
    refine ⟨rfl, le, ?_, rfl⟩
    rcases hle with ⟨h1, h2⟩ | ⟨h, h1, h2, h3, h4, h5⟩
    · exact Or.inl ⟨h1, fun h hh => h2 h (Nat.zero_le _) hh⟩
    · exact Or.inr ⟨h, h2, h3, h4, fun j hj => h5 j (Nat.zero_le _) hj⟩
  | succ g ih =>
    intro k le x7 hg hk hle
    rw [nI_pred]
    show jb_J _ RX12 cX12_poem 8 (Option.some .int) false 3 0 0 162 [some (.ref 105), x1, some (.int 0), some (.int 0), some (.int le), some (.int (nI k)), some (.int (nI g)), x7] [] [s0, s1, s2, s3, s4, s5, s6, s7, s8, s9, jb_mdl I J d e kp nm W, s11] _
    refine jb_iload (pc' := 164) dX12_poem_162 rfl rfl ?_
    refine jb_if_lt (tgt := 210) (pc' := 167) dX12_poem_164 (by decide) rfl (fun z => absurd z (nI_pos (n := g) (by omega))) (fun _ => ?_)
    refine jb_aload_n (pc' := 168) dX12_poem_167 rfl rfl ?_
    refine jb_iload (pc' := 170) dX12_poem_168 rfl rfl ?_
    refine jb_callV (pc' := 173) (ci := 12) (q := 105) (As := [.int (nI g)]) (a2 := 0) (b2 := 0) wv_X12_247 rfl dX12_poem_170 (c_fits I J d e kp nm W ls g (by omega) hln) rfl rfl ⟨by decide, Nat.le_of_eq (Nat.zero_add _), Nat.le_of_eq (Nat.zero_add _)⟩ (Nat.le_of_ble_eq_true rfl) rfl (fun r h9 hq => ?_)
    rcases hq with ⟨rfl, ⟨hfg, rfl⟩ | ⟨hfg, rfl⟩⟩
    · show jb_J _ RX12 cX12_poem 8 (Option.some .int) false 3 0 0 173 [some (.ref 105), x1, some (.int 0), some (.int 0), some (.int le), some (.int (nI k)), some (.int (nI g)), x7] [.int 1] [s0, s1, s2, s3, s4, s5, s6, s7, s8, s9, jb_mdl I J d e kp nm W, s11] _
      refine jb_istore_ (pc' := 175) dX12_poem_173 (by decide) (jb_at7 rfl) rfl ?_
      refine jb_iload (pc' := 177) dX12_poem_175 rfl rfl ?_
      refine jb_if_eq (tgt := 185) (pc' := 180) dX12_poem_177 (by decide) rfl (fun z => absurd z (by decide)) (fun _ => ?_)
      refine jb_iload (pc' := 182) dX12_poem_180 rfl rfl ?_
      refine jb_goto (pc' := 187) dX12_poem_182 (by decide) ?_
      refine jb_istore_ (pc' := 189) dX12_poem_187 (by decide) (jb_at4 rfl) rfl ?_
      refine jb_iload (pc' := 191) dX12_poem_189 rfl rfl ?_
      refine jb_iload (pc' := 193) dX12_poem_191 rfl rfl ?_
      refine jb_if_eq (tgt := 200) (pc' := 196) dX12_poem_193 (by decide) rfl (fun z => absurd z (by decide)) (fun _ => ?_)
      refine jb_iconst (pc' := 197) 1 dX12_poem_196 (by decide) rfl ?_
      refine jb_goto (pc' := 201) dX12_poem_197 (by decide) ?_
      refine jb_iadd (pc' := 202) dX12_poem_201 rfl ?_
      refine jb_top (v := .int ((nI k) + 1)) (w := .int (nI (k + 1))) (jb_vI (nI_add _ 1)) ?_
      refine jb_istore_ (pc' := 204) dX12_poem_202 (by decide) (jb_at5 rfl) rfl ?_
      refine jb_iinc_ (pc' := 207) (nI g - 1) dX12_poem_204 (by decide) rfl (jl_dec1 g) (jb_at6 rfl) rfl ?_
      refine jb_goto (pc' := 162) dX12_poem_207 (by decide) ?_
      refine ih (k + 1) (nI g) _ (by omega) (by rw [jy_n1 hfg] at hk; omega) (Or.inr ⟨g, Nat.le_refl _, by omega, rfl, hfg, fun j h1 h2 => absurd h2 (by omega)⟩)
    · show jb_J _ RX12 cX12_poem 8 (Option.some .int) false 3 0 0 173 [some (.ref 105), x1, some (.int 0), some (.int 0), some (.int le), some (.int (nI k)), some (.int (nI g)), x7] [.int 0] [s0, s1, s2, s3, s4, s5, s6, s7, s8, s9, jb_mdl I J d e kp nm W, s11] _
      refine jb_istore_ (pc' := 175) dX12_poem_173 (by decide) (jb_at7 rfl) rfl ?_
      refine jb_iload (pc' := 177) dX12_poem_175 rfl rfl ?_
      refine jb_if_eq (tgt := 185) (pc' := 180) dX12_poem_177 (by decide) rfl (fun _ => ?_) (fun z => absurd (by decide) z)
      refine jb_iload (pc' := 187) dX12_poem_185 rfl rfl ?_
      refine jb_istore_ (pc' := 189) dX12_poem_187 (by decide) (jb_at4 rfl) rfl ?_
      refine jb_iload (pc' := 191) dX12_poem_189 rfl rfl ?_
      refine jb_iload (pc' := 193) dX12_poem_191 rfl rfl ?_
      refine jb_if_eq (tgt := 200) (pc' := 196) dX12_poem_193 (by decide) rfl (fun _ => ?_) (fun z => absurd (by decide) z)
      refine jb_iconst (pc' := 201) 0 dX12_poem_200 (by decide) rfl ?_
      refine jb_iadd (pc' := 202) dX12_poem_201 rfl ?_
      refine jb_top (v := .int ((nI k) + 0)) (w := .int (nI (k + 0))) (jb_vI (nI_add _ 0)) ?_
      refine jb_istore_ (pc' := 204) dX12_poem_202 (by decide) (jb_at5 rfl) rfl ?_
      refine jb_iinc_ (pc' := 207) (nI g - 1) dX12_poem_204 (by decide) rfl (jl_dec1 g) (jb_at6 rfl) rfl ?_
      refine jb_goto (pc' := 162) dX12_poem_207 (by decide) ?_
      refine ih (k + 0) le _ (by omega) (by rw [jy_n0 hfg] at hk; omega) ?_
      rcases hle with ⟨h1, h2⟩ | ⟨h, h1, h2, h3, h4, h5⟩
      · exact Or.inl ⟨h1, fun h a b => by by_cases e : h = g; (· rw [e]; exact hfg); (· exact h2 h (by omega) b)⟩
      · exact Or.inr ⟨h, by omega, h2, h3, h4, fun j a b => by by_cases e : j = g; (· rw [e]; exact hfg); (· exact h5 j (by omega) b)⟩
set_option maxRecDepth 100000 in
set_option maxHeartbeats 4000000 in
theorem l_poem1 {sc : Nat × (Nat → Int32)} {s0 s1 s2 s3 s4 s5 s6 s7 s8 s9 s11 : List va_E} (I J d e kp nm : Nat → Int32) (W : Nat → Nat → Int32) (ls : List (Nat × Nat)) (hln : I 2 = nI ls.length ∧ jy_in ls ∧ (∀ j, j < ls.length → W 7 j = nI (ls.getD j (0, 0)).1 ∧ W 8 j = nI (ls.getD j (0, 0)).2)) (x1 : Option Value) : ∀ (g1 k : Nat) (le : Int32) (x7 : Option Value), g1 ≤ 41 → k + jy_n (jy_f ls) g1 = jy_n (jy_f ls) 41 → ((le = -1 ∧ ∀ h, g1 ≤ h → h ≤ 40 → ¬ jy_f ls h) ∨ ∃ h, g1 ≤ h ∧ h ≤ 40 ∧ le = nI h ∧ jy_f ls h ∧ ∀ j, g1 ≤ j → j < h → ¬ jy_f ls j) → jb_J sc RX12 cX12_poem 8 (Option.some .int) false 3 0 0 162 [some (.ref 105), x1, some (.int 1), some (.int 0), some (.int le), some (.int (nI k)), some (.int (nI g1 - 1)), x7] [] [s0, s1, s2, s3, s4, s5, s6, s7, s8, s9, jb_mdl I J d e kp nm W, s11] (fun r h9 => [s0, s1, s2, s3, s4, s5, s6, s7, s8, s9, jb_mdl I J d e kp nm W, s11] = h9 ∧ r = some (.int (nI (jy_n (jy_f ls) 41)))) := by
  intro g1
  induction g1 with
  | zero =>
    intro k le x7 hg hk hle
    show jb_J _ RX12 cX12_poem 8 (Option.some .int) false 3 0 0 162 [some (.ref 105), x1, some (.int 1), some (.int 0), some (.int le), some (.int (nI k)), some (.int (nI 0 - 1)), x7] [] [s0, s1, s2, s3, s4, s5, s6, s7, s8, s9, jb_mdl I J d e kp nm W, s11] _
    refine jb_iload (pc' := 164) dX12_poem_162 rfl rfl ?_
    refine jb_if_lt (tgt := 210) (pc' := 167) dX12_poem_164 (by decide) rfl (fun _ => ?_) (fun z => absurd (by decide) z)
    refine jb_iload_n (pc' := 211) dX12_poem_210 rfl rfl ?_
    refine jb_if_ne (tgt := 219) (pc' := 214) dX12_poem_211 (by decide) rfl (fun _ => ?_) (fun z => absurd z (by decide))
    refine jb_iload (pc' := 221) dX12_poem_219 rfl rfl ?_
    refine jb_iret dX12_poem_221 rfl ?_
    exact ⟨rfl, by rw [← hk]; rfl⟩
  | succ g ih =>
    intro k le x7 hg hk hle
    rw [nI_pred]
    show jb_J _ RX12 cX12_poem 8 (Option.some .int) false 3 0 0 162 [some (.ref 105), x1, some (.int 1), some (.int 0), some (.int le), some (.int (nI k)), some (.int (nI g)), x7] [] [s0, s1, s2, s3, s4, s5, s6, s7, s8, s9, jb_mdl I J d e kp nm W, s11] _
    refine jb_iload (pc' := 164) dX12_poem_162 rfl rfl ?_
    refine jb_if_lt (tgt := 210) (pc' := 167) dX12_poem_164 (by decide) rfl (fun z => absurd z (nI_pos (n := g) (by omega))) (fun _ => ?_)
    refine jb_aload_n (pc' := 168) dX12_poem_167 rfl rfl ?_
    refine jb_iload (pc' := 170) dX12_poem_168 rfl rfl ?_
    refine jb_callV (pc' := 173) (ci := 12) (q := 105) (As := [.int (nI g)]) (a2 := 0) (b2 := 0) wv_X12_247 rfl dX12_poem_170 (c_fits I J d e kp nm W ls g (by omega) hln) rfl rfl ⟨by decide, Nat.le_of_eq (Nat.zero_add _), Nat.le_of_eq (Nat.zero_add _)⟩ (Nat.le_of_ble_eq_true rfl) rfl (fun r h9 hq => ?_)
    rcases hq with ⟨rfl, ⟨hfg, rfl⟩ | ⟨hfg, rfl⟩⟩
    · show jb_J _ RX12 cX12_poem 8 (Option.some .int) false 3 0 0 173 [some (.ref 105), x1, some (.int 1), some (.int 0), some (.int le), some (.int (nI k)), some (.int (nI g)), x7] [.int 1] [s0, s1, s2, s3, s4, s5, s6, s7, s8, s9, jb_mdl I J d e kp nm W, s11] _
      refine jb_istore_ (pc' := 175) dX12_poem_173 (by decide) (jb_at7 rfl) rfl ?_
      refine jb_iload (pc' := 177) dX12_poem_175 rfl rfl ?_
      refine jb_if_eq (tgt := 185) (pc' := 180) dX12_poem_177 (by decide) rfl (fun z => absurd z (by decide)) (fun _ => ?_)
      refine jb_iload (pc' := 182) dX12_poem_180 rfl rfl ?_
      refine jb_goto (pc' := 187) dX12_poem_182 (by decide) ?_
      refine jb_istore_ (pc' := 189) dX12_poem_187 (by decide) (jb_at4 rfl) rfl ?_
      refine jb_iload (pc' := 191) dX12_poem_189 rfl rfl ?_
      refine jb_iload (pc' := 193) dX12_poem_191 rfl rfl ?_
      refine jb_if_eq (tgt := 200) (pc' := 196) dX12_poem_193 (by decide) rfl (fun z => absurd z (by decide)) (fun _ => ?_)
      refine jb_iconst (pc' := 197) 1 dX12_poem_196 (by decide) rfl ?_
      refine jb_goto (pc' := 201) dX12_poem_197 (by decide) ?_
      refine jb_iadd (pc' := 202) dX12_poem_201 rfl ?_
      refine jb_top (v := .int ((nI k) + 1)) (w := .int (nI (k + 1))) (jb_vI (nI_add _ 1)) ?_
      refine jb_istore_ (pc' := 204) dX12_poem_202 (by decide) (jb_at5 rfl) rfl ?_
      refine jb_iinc_ (pc' := 207) (nI g - 1) dX12_poem_204 (by decide) rfl (jl_dec1 g) (jb_at6 rfl) rfl ?_
      refine jb_goto (pc' := 162) dX12_poem_207 (by decide) ?_
      refine ih (k + 1) (nI g) _ (by omega) (by rw [jy_n1 hfg] at hk; omega) (Or.inr ⟨g, Nat.le_refl _, by omega, rfl, hfg, fun j h1 h2 => absurd h2 (by omega)⟩)
    · show jb_J _ RX12 cX12_poem 8 (Option.some .int) false 3 0 0 173 [some (.ref 105), x1, some (.int 1), some (.int 0), some (.int le), some (.int (nI k)), some (.int (nI g)), x7] [.int 0] [s0, s1, s2, s3, s4, s5, s6, s7, s8, s9, jb_mdl I J d e kp nm W, s11] _
      refine jb_istore_ (pc' := 175) dX12_poem_173 (by decide) (jb_at7 rfl) rfl ?_
      refine jb_iload (pc' := 177) dX12_poem_175 rfl rfl ?_
      refine jb_if_eq (tgt := 185) (pc' := 180) dX12_poem_177 (by decide) rfl (fun _ => ?_) (fun z => absurd (by decide) z)
      refine jb_iload (pc' := 187) dX12_poem_185 rfl rfl ?_
      refine jb_istore_ (pc' := 189) dX12_poem_187 (by decide) (jb_at4 rfl) rfl ?_
      refine jb_iload (pc' := 191) dX12_poem_189 rfl rfl ?_
      refine jb_iload (pc' := 193) dX12_poem_191 rfl rfl ?_
      refine jb_if_eq (tgt := 200) (pc' := 196) dX12_poem_193 (by decide) rfl (fun _ => ?_) (fun z => absurd (by decide) z)
      refine jb_iconst (pc' := 201) 0 dX12_poem_200 (by decide) rfl ?_
      refine jb_iadd (pc' := 202) dX12_poem_201 rfl ?_
      refine jb_top (v := .int ((nI k) + 0)) (w := .int (nI (k + 0))) (jb_vI (nI_add _ 0)) ?_
      refine jb_istore_ (pc' := 204) dX12_poem_202 (by decide) (jb_at5 rfl) rfl ?_
      refine jb_iinc_ (pc' := 207) (nI g - 1) dX12_poem_204 (by decide) rfl (jl_dec1 g) (jb_at6 rfl) rfl ?_
      refine jb_goto (pc' := 162) dX12_poem_207 (by decide) ?_
      refine ih (k + 0) le _ (by omega) (by rw [jy_n0 hfg] at hk; omega) ?_
      rcases hle with ⟨h1, h2⟩ | ⟨h, h1, h2, h3, h4, h5⟩
      · exact Or.inl ⟨h1, fun h a b => by by_cases e : h = g; (· rw [e]; exact hfg); (· exact h2 h (by omega) b)⟩
      · exact Or.inr ⟨h, by omega, h2, h3, h4, fun j a b => by by_cases e : j = g; (· rw [e]; exact hfg); (· exact h5 j (by omega) b)⟩
set_option maxRecDepth 100000 in
set_option maxHeartbeats 4000000 in
theorem l_poemg0 {sc : Nat × (Nat → Int32)} {s0 s1 s2 s3 s4 s5 s6 s7 s8 s9 s11 : List va_E} (I J d e kp nm : Nat → Int32) (W : Nat → Nat → Int32) (s : Nat) (hs : s < 4) (zs : Nat) (h2s : W 2 s = nI zs) (hzs : zs ≤ 40) : ∀ (n i : Nat) (acc : List (Nat × Nat)) (Ic : Nat → Int32) (Wc : Nat → Nat → Int32) (x5 x6 : Option Value), zs ≤ i + 2 * n → i ≤ zs + 2 → (∀ j, ¬ j = 2 → Ic j = I j) ∧ (∀ r, ¬ r = 7 → ¬ r = 8 → Wc r = W r) → Ic 2 = nI acc.length ∧ jy_in acc ∧ (∀ j, j < acc.length → Wc 7 j = nI (acc.getD j (0, 0)).1 ∧ Wc 8 j = nI (acc.getD j (0, 0)).2) → jb_J sc RX12 cX12_poem 8 (Option.some .int) false 3 0 0 38 [some (.ref 105), some (.int (nI s)), some (.int 0), some (.int 0), some (.int (nI i)), x5, x6, none] [] [s0, s1, s2, s3, s4, s5, s6, s7, s8, s9, jb_mdl Ic J d e kp nm Wc, s11] (fun r h9 => ∃ I9 W9, (∀ j, ¬ j = 2 → I9 j = I j) ∧ (∀ r, ¬ r = 7 → ¬ r = 8 → W9 r = W r) ∧ (∃ v, jy_L (jy_f (jy_ga (fun k => W 3 (40 * s + k)) zs n i acc)) v ∧ r = some (.int v)) ∧ h9 = [s0, s1, s2, s3, s4, s5, s6, s7, s8, s9, jb_mdl I9 J d e kp nm W9, s11]) := by
  intro n
  induction n with
  | zero =>
    intro i acc Ic Wc x5 x6 hi hi2 ⟨g1, g2⟩ ⟨p1, p2, p3⟩
    show jb_J _ RX12 cX12_poem 8 (Option.some .int) false 3 0 0 38 [some (.ref 105), some (.int (nI s)), some (.int 0), some (.int 0), some (.int (nI i)), x5, x6, none] [] [s0, s1, s2, s3, s4, s5, s6, s7, s8, s9, jb_mdl Ic J d e kp nm Wc, s11] _
    refine jb_iload (pc' := 40) dX12_poem_38 rfl rfl ?_
    refine jb_iconst (pc' := 41) 1 dX12_poem_40 (by decide) rfl ?_
    refine jb_iadd (pc' := 42) dX12_poem_41 rfl ?_
    refine jb_top (v := .int ((nI i) + 1)) (w := .int (nI (i + 1))) (jb_vI (nI_add _ 1)) ?_
    refine jb_aload_n (pc' := 43) dX12_poem_42 rfl rfl ?_
    refine gf_X12_28 (pc' := 46) (v := .ref 112) dX12_poem_43 rfl rfl rfl ?_
    refine jb_iload_n (pc' := 47) dX12_poem_46 rfl rfl ?_
    refine jb_iaload (pc' := 48) (i9 := s) (f := (Wc 2)) dX12_poem_47 rfl (jb_ix_nI (by omega)) (by omega) rfl ?_
    refine jb_top (v := .int ((Wc 2) s)) (w := .int (nI zs)) (jb_vI (by rw [g2 2 (by decide) (by decide)]; exact h2s)) ?_
    refine jb_icmp_ge (tgt := 152) (pc' := 51) dX12_poem_48 (by decide) rfl (fun _ => ?_) (fun z => absurd (nI_le (a := zs) (b := i + 1) (by omega) (by omega)) z)
    refine jb_iconst (pc' := 153) (-1) dX12_poem_152 (by decide) rfl ?_
    refine jb_istore_ (pc' := 155) dX12_poem_153 (by decide) (jb_at4 rfl) rfl ?_
    refine jb_iconst (pc' := 156) 0 dX12_poem_155 (by decide) rfl ?_
    refine jb_istore_ (pc' := 158) dX12_poem_156 (by decide) (jb_at5 rfl) rfl ?_
    refine jb_bipush (pc' := 160) 40 dX12_poem_158 (by decide) rfl ?_
    refine jb_istore_ (pc' := 162) dX12_poem_160 (by decide) (jb_at6 rfl) rfl ?_
    refine jb_J.mono (l_poem0 Ic J d e kp nm Wc acc ⟨p1, p2, p3⟩ _ 41 0 (-1) _ (Nat.le_refl _) (Nat.zero_add _) (Or.inl ⟨rfl, fun h a b => absurd a (by omega)⟩)) (Nat.le_refl _) (Nat.le_refl _) (Nat.le_refl _) (fun r h9 hq => ?_)
    exact ⟨Ic, Wc, g1, g2, hq.2, hq.1.symm⟩
  | succ n ih =>
    intro i acc Ic Wc x5 x6 hi hi2 ⟨g1, g2⟩ ⟨p1, p2, p3⟩
    have plen := p2.1
    have eG : (jy_ga (fun k => W 3 (40 * s + k)) zs (n + 1) i acc) = (if i + 1 < zs ∧ acc.length < 12 then (if (0 ≤ W 3 (40 * s + i) ∧ W 3 (40 * s + i) ≤ 1) ∧ (0 ≤ W 3 (40 * s + (i + 1)) ∧ W 3 (40 * s + (i + 1)) ≤ 999) then jy_ga (fun k => W 3 (40 * s + k)) zs n (i + 2) (acc ++ [((W 3 (40 * s + i)).toNatClampNeg, (W 3 (40 * s + (i + 1))).toNatClampNeg)]) else jy_ga (fun k => W 3 (40 * s + k)) zs n (i + 2) acc) else acc) := rfl
    by_cases hi1 : i + 1 < zs
    · by_cases hl : acc.length < 12
      · by_cases hv : (0 ≤ W 3 (40 * s + i) ∧ W 3 (40 * s + i) ≤ 1) ∧ (0 ≤ W 3 (40 * s + (i + 1)) ∧ W 3 (40 * s + (i + 1)) ≤ 999)
        · obtain ⟨u, hu1, hu2, eu⟩ := (jy_rng (n := 1) (by decide)).mpr hv.1
          obtain ⟨v, hv1, hv2, ev⟩ := (jy_rng (n := 999) (by decide)).mpr hv.2
          rw [if_pos ⟨hi1, hl⟩, if_pos hv, eu, ev, nI_clamp (by omega), nI_clamp (by omega)] at eG
          rw [eG]
          show jb_J _ RX12 cX12_poem 8 (Option.some .int) false 3 0 0 38 [some (.ref 105), some (.int (nI s)), some (.int 0), some (.int 0), some (.int (nI i)), x5, x6, none] [] [s0, s1, s2, s3, s4, s5, s6, s7, s8, s9, jb_mdl Ic J d e kp nm Wc, s11] _
          refine jb_iload (pc' := 40) dX12_poem_38 rfl rfl ?_
          refine jb_iconst (pc' := 41) 1 dX12_poem_40 (by decide) rfl ?_
          refine jb_iadd (pc' := 42) dX12_poem_41 rfl ?_
          refine jb_top (v := .int ((nI i) + 1)) (w := .int (nI (i + 1))) (jb_vI (nI_add _ 1)) ?_
          refine jb_aload_n (pc' := 43) dX12_poem_42 rfl rfl ?_
          refine gf_X12_28 (pc' := 46) (v := .ref 112) dX12_poem_43 rfl rfl rfl ?_
          refine jb_iload_n (pc' := 47) dX12_poem_46 rfl rfl ?_
          refine jb_iaload (pc' := 48) (i9 := s) (f := (Wc 2)) dX12_poem_47 rfl (jb_ix_nI (by omega)) (by omega) rfl ?_
          refine jb_top (v := .int ((Wc 2) s)) (w := .int (nI zs)) (jb_vI (by rw [g2 2 (by decide) (by decide)]; exact h2s)) ?_
          refine jb_icmp_ge (tgt := 152) (pc' := 51) dX12_poem_48 (by decide) rfl (fun z => absurd z (nI_ge (a := i + 1) (b := zs) (by omega) (by omega))) (fun _ => ?_)
          refine jb_aload_n (pc' := 52) dX12_poem_51 rfl rfl ?_
          refine gf_X12_242 (pc' := 55) (v := .int (Ic 2)) dX12_poem_52 rfl rfl rfl ?_
          refine jb_top (v := .int (Ic 2)) (w := .int (nI acc.length)) (jb_vI p1) ?_
          refine jb_bipush (pc' := 57) 12 dX12_poem_55 (by decide) rfl ?_
          refine jb_icmp_ge (tgt := 152) (pc' := 60) dX12_poem_57 (by decide) rfl (fun z => absurd z (nI_ge (a := acc.length) (b := 12) (by omega) (by omega))) (fun _ => ?_)
          refine jb_aload_n (pc' := 61) dX12_poem_60 rfl rfl ?_
          refine gf_X12_31 (pc' := 64) (v := .ref 113) dX12_poem_61 rfl rfl rfl ?_
          refine jb_bipush (pc' := 66) 40 dX12_poem_64 (by decide) rfl ?_
          refine jb_iload_n (pc' := 67) dX12_poem_66 rfl rfl ?_
          refine jb_imul (pc' := 68) dX12_poem_67 rfl ?_
          refine jb_top (v := .int (40 * (nI s))) (w := .int (nI (40 * s))) (jb_vI (pk_mul 40 _)) ?_
          refine jb_iload (pc' := 70) dX12_poem_68 rfl rfl ?_
          refine jb_iadd (pc' := 71) dX12_poem_70 rfl ?_
          refine jb_top (v := .int ((nI (40 * s)) + (nI i))) (w := .int (nI (40 * s + i))) (jb_vI (nI_add _ _)) ?_
          refine jb_iaload (pc' := 72) (i9 := (40 * s + i)) (f := (Wc 3)) dX12_poem_71 rfl (jb_ix_nI (by omega)) (by omega) rfl ?_
          refine jb_top (v := .int ((Wc 3) (40 * s + i))) (w := .int (nI u)) (jb_vI ((congrFun (g2 3 (by decide) (by decide)) _).trans eu)) ?_
          refine jb_istore_ (pc' := 74) dX12_poem_72 (by decide) (jb_at5 rfl) rfl ?_
          refine jb_aload_n (pc' := 75) dX12_poem_74 rfl rfl ?_
          refine gf_X12_31 (pc' := 78) (v := .ref 113) dX12_poem_75 rfl rfl rfl ?_
          refine jb_bipush (pc' := 80) 40 dX12_poem_78 (by decide) rfl ?_
          refine jb_iload_n (pc' := 81) dX12_poem_80 rfl rfl ?_
          refine jb_imul (pc' := 82) dX12_poem_81 rfl ?_
          refine jb_top (v := .int (40 * (nI s))) (w := .int (nI (40 * s))) (jb_vI (pk_mul 40 _)) ?_
          refine jb_iload (pc' := 84) dX12_poem_82 rfl rfl ?_
          refine jb_iadd (pc' := 85) dX12_poem_84 rfl ?_
          refine jb_top (v := .int ((nI (40 * s)) + (nI i))) (w := .int (nI (40 * s + i))) (jb_vI (nI_add _ _)) ?_
          refine jb_iconst (pc' := 86) 1 dX12_poem_85 (by decide) rfl ?_
          refine jb_iadd (pc' := 87) dX12_poem_86 rfl ?_
          refine jb_top (v := .int ((nI (40 * s + i)) + 1)) (w := .int (nI (40 * s + i + 1))) (jb_vI (nI_add _ 1)) ?_
          refine jb_iaload (pc' := 88) (i9 := (40 * s + i + 1)) (f := (Wc 3)) dX12_poem_87 rfl (jb_ix_nI (by omega)) (by omega) rfl ?_
          refine jb_top (v := .int ((Wc 3) (40 * s + i + 1))) (w := .int (nI v)) (jb_vI ((congrFun (g2 3 (by decide) (by decide)) _).trans ev)) ?_
          refine jb_istore_ (pc' := 90) dX12_poem_88 (by decide) (jb_at6 rfl) rfl ?_
          refine jb_iload (pc' := 92) dX12_poem_90 rfl rfl ?_
          refine jb_i2l (pc' := 93) dX12_poem_92 rfl ?_
          refine jb_lconst (pc' := 94) 0 dX12_poem_93 (by decide) rfl ?_
          refine jb_lconst (pc' := 95) 1 dX12_poem_94 (by decide) rfl ?_
          refine jb_callS (pc' := 98) (As := [.long ((nI u).toInt64), .long 0, .long 1]) (a2 := 0) (b2 := 0) wv_X12_56 dX12_poem_95 (c_inLG _ u 0 1 (by omega) (by omega) (by omega)) rfl ⟨by decide, Nat.le_of_eq (Nat.zero_add _), Nat.le_of_eq (Nat.zero_add _)⟩ (Nat.le_of_ble_eq_true rfl) rfl (fun r h9 hq => ?_)
          obtain ⟨rfl, rfl⟩ := hq
          show jb_J _ RX12 cX12_poem 8 (Option.some .int) false 3 0 0 98 [some (.ref 105), some (.int (nI s)), some (.int 0), some (.int 0), some (.int (nI i)), some (.int (nI u)), some (.int (nI v)), none] [.int 1] [s0, s1, s2, s3, s4, s5, s6, s7, s8, s9, jb_mdl Ic J d e kp nm Wc, s11] _
          refine jb_if_eq (tgt := 146) (pc' := 101) dX12_poem_98 (by decide) rfl (fun z => absurd z (by decide)) (fun _ => ?_)
          refine jb_iload (pc' := 103) dX12_poem_101 rfl rfl ?_
          refine jb_i2l (pc' := 104) dX12_poem_103 rfl ?_
          refine jb_lconst (pc' := 105) 0 dX12_poem_104 (by decide) rfl ?_
          refine jb_ldc2 (pc' := 108) 999 dX12_poem_105 wk_X12_245 rfl ?_
          refine jb_callS (pc' := 111) (As := [.long ((nI v).toInt64), .long 0, .long 999]) (a2 := 0) (b2 := 0) wv_X12_56 dX12_poem_108 (c_inLG _ v 0 999 (by omega) (by omega) (by omega)) rfl ⟨by decide, Nat.le_of_eq (Nat.zero_add _), Nat.le_of_eq (Nat.zero_add _)⟩ (Nat.le_of_ble_eq_true rfl) rfl (fun r h9 hq => ?_)
          obtain ⟨rfl, rfl⟩ := hq
          show jb_J _ RX12 cX12_poem 8 (Option.some .int) false 3 0 0 111 [some (.ref 105), some (.int (nI s)), some (.int 0), some (.int 0), some (.int (nI i)), some (.int (nI u)), some (.int (nI v)), none] [.int 1] [s0, s1, s2, s3, s4, s5, s6, s7, s8, s9, jb_mdl Ic J d e kp nm Wc, s11] _
          refine jb_if_eq (tgt := 146) (pc' := 114) dX12_poem_111 (by decide) rfl (fun z => absurd z (by decide)) (fun _ => ?_)
          refine jb_aload_n (pc' := 115) dX12_poem_114 rfl rfl ?_
          refine gf_X12_43 (pc' := 118) (v := .ref 117) dX12_poem_115 rfl rfl rfl ?_
          refine jb_aload_n (pc' := 119) dX12_poem_118 rfl rfl ?_
          refine gf_X12_242 (pc' := 122) (v := .int (Ic 2)) dX12_poem_119 rfl rfl rfl ?_
          refine jb_top (v := .int (Ic 2)) (w := .int (nI acc.length)) (jb_vI p1) ?_
          refine jb_iload (pc' := 124) dX12_poem_122 rfl rfl ?_
          refine jb_iastore (pc' := 125) (i9 := acc.length) (f := (Wc 7)) (h' := [s0, s1, s2, s3, s4, s5, s6, s7, s8, s9, jb_mdl Ic J d e kp nm (va_up Wc 7 (upd (Wc 7) acc.length (nI u))), s11]) dX12_poem_124 rfl (jb_ix_nI (by omega)) (by omega) rfl rfl ?_
          refine jb_aload_n (pc' := 126) dX12_poem_125 rfl rfl ?_
          refine gf_X12_46 (pc' := 129) (v := .ref 118) dX12_poem_126 rfl rfl rfl ?_
          refine jb_aload_n (pc' := 130) dX12_poem_129 rfl rfl ?_
          refine gf_X12_242 (pc' := 133) (v := .int (Ic 2)) dX12_poem_130 rfl rfl rfl ?_
          refine jb_top (v := .int (Ic 2)) (w := .int (nI acc.length)) (jb_vI p1) ?_
          refine jb_iload (pc' := 135) dX12_poem_133 rfl rfl ?_
          refine jb_iastore (pc' := 136) (i9 := acc.length) (f := (Wc 8)) (h' := [s0, s1, s2, s3, s4, s5, s6, s7, s8, s9, jb_mdl Ic J d e kp nm (va_up (va_up Wc 7 (upd (Wc 7) acc.length (nI u))) 8 (upd (Wc 8) acc.length (nI v))), s11]) dX12_poem_135 rfl (jb_ix_nI (by omega)) (by omega) rfl rfl ?_
          refine jb_aload_n (pc' := 137) dX12_poem_136 rfl rfl ?_
          refine jb_dup (pc' := 138) dX12_poem_137 rfl rfl ?_
          refine gf_X12_242 (pc' := 141) (v := .int (Ic 2)) dX12_poem_138 rfl rfl rfl ?_
          refine jb_top (v := .int (Ic 2)) (w := .int (nI acc.length)) (jb_vI p1) ?_
          refine jb_iconst (pc' := 142) 1 dX12_poem_141 (by decide) rfl ?_
          refine jb_iadd (pc' := 143) dX12_poem_142 rfl ?_
          refine jb_top (v := .int ((nI acc.length) + 1)) (w := .int (nI (acc.length + 1))) (jb_vI (nI_add _ 1)) ?_
          refine pf_X12_242 (pc' := 146) (h' := [s0, s1, s2, s3, s4, s5, s6, s7, s8, s9, jb_mdl (upd Ic 2 (nI (acc.length + 1))) J d e kp nm (va_up (va_up Wc 7 (upd (Wc 7) acc.length (nI u))) 8 (upd (Wc 8) acc.length (nI v))), s11]) dX12_poem_143 (fun _ => ⟨rfl, rfl⟩) rfl (Nat.le_of_ble_eq_true rfl) rfl rfl ?_
          refine jb_iinc_ (pc' := 149) (nI (i + 2)) dX12_poem_146 (by decide) rfl (jb_inc i 2) (jb_at4 rfl) rfl ?_
          refine jb_goto (pc' := 38) dX12_poem_149 (by decide) ?_
          refine ih (i + 2) (acc ++ [(u, v)]) (upd Ic 2 (nI (acc.length + 1))) (va_up (va_up Wc 7 (upd (Wc 7) acc.length (nI u))) 8 (upd (Wc 8) acc.length (nI v))) _ _ (by omega) (by omega) ⟨fun j hj => (jb_une hj).trans (g1 j hj), fun r h6 h7 => ((va_ne h7).trans (va_ne h6)).trans (g2 r h6 h7)⟩ ⟨?_, p2.app hl hu2 hv2, fun j hj => ?_⟩
          · rw [List.length_append]; rfl
          · rw [List.length_append] at hj
            have hj2 : j < acc.length + 1 := hj
            show upd (Wc 7) acc.length (nI u) j = _ ∧ upd (Wc 8) acc.length (nI v) j = _
            by_cases e : j = acc.length
            · rw [e, jy_gde]; exact ⟨jb_uee, jb_uee⟩
            · rw [jb_une e, jb_une e, jy_gda (by omega)]; exact p3 j (by omega)
        · rw [if_pos ⟨hi1, hl⟩, if_neg hv] at eG
          rw [eG]
          show jb_J _ RX12 cX12_poem 8 (Option.some .int) false 3 0 0 38 [some (.ref 105), some (.int (nI s)), some (.int 0), some (.int 0), some (.int (nI i)), x5, x6, none] [] [s0, s1, s2, s3, s4, s5, s6, s7, s8, s9, jb_mdl Ic J d e kp nm Wc, s11] _
          refine jb_iload (pc' := 40) dX12_poem_38 rfl rfl ?_
          refine jb_iconst (pc' := 41) 1 dX12_poem_40 (by decide) rfl ?_
          refine jb_iadd (pc' := 42) dX12_poem_41 rfl ?_
          refine jb_top (v := .int ((nI i) + 1)) (w := .int (nI (i + 1))) (jb_vI (nI_add _ 1)) ?_
          refine jb_aload_n (pc' := 43) dX12_poem_42 rfl rfl ?_
          refine gf_X12_28 (pc' := 46) (v := .ref 112) dX12_poem_43 rfl rfl rfl ?_
          refine jb_iload_n (pc' := 47) dX12_poem_46 rfl rfl ?_
          refine jb_iaload (pc' := 48) (i9 := s) (f := (Wc 2)) dX12_poem_47 rfl (jb_ix_nI (by omega)) (by omega) rfl ?_
          refine jb_top (v := .int ((Wc 2) s)) (w := .int (nI zs)) (jb_vI (by rw [g2 2 (by decide) (by decide)]; exact h2s)) ?_
          refine jb_icmp_ge (tgt := 152) (pc' := 51) dX12_poem_48 (by decide) rfl (fun z => absurd z (nI_ge (a := i + 1) (b := zs) (by omega) (by omega))) (fun _ => ?_)
          refine jb_aload_n (pc' := 52) dX12_poem_51 rfl rfl ?_
          refine gf_X12_242 (pc' := 55) (v := .int (Ic 2)) dX12_poem_52 rfl rfl rfl ?_
          refine jb_top (v := .int (Ic 2)) (w := .int (nI acc.length)) (jb_vI p1) ?_
          refine jb_bipush (pc' := 57) 12 dX12_poem_55 (by decide) rfl ?_
          refine jb_icmp_ge (tgt := 152) (pc' := 60) dX12_poem_57 (by decide) rfl (fun z => absurd z (nI_ge (a := acc.length) (b := 12) (by omega) (by omega))) (fun _ => ?_)
          refine jb_aload_n (pc' := 61) dX12_poem_60 rfl rfl ?_
          refine gf_X12_31 (pc' := 64) (v := .ref 113) dX12_poem_61 rfl rfl rfl ?_
          refine jb_bipush (pc' := 66) 40 dX12_poem_64 (by decide) rfl ?_
          refine jb_iload_n (pc' := 67) dX12_poem_66 rfl rfl ?_
          refine jb_imul (pc' := 68) dX12_poem_67 rfl ?_
          refine jb_top (v := .int (40 * (nI s))) (w := .int (nI (40 * s))) (jb_vI (pk_mul 40 _)) ?_
          refine jb_iload (pc' := 70) dX12_poem_68 rfl rfl ?_
          refine jb_iadd (pc' := 71) dX12_poem_70 rfl ?_
          refine jb_top (v := .int ((nI (40 * s)) + (nI i))) (w := .int (nI (40 * s + i))) (jb_vI (nI_add _ _)) ?_
          refine jb_iaload (pc' := 72) (i9 := (40 * s + i)) (f := (Wc 3)) dX12_poem_71 rfl (jb_ix_nI (by omega)) (by omega) rfl ?_
          refine jb_top (v := .int ((Wc 3) (40 * s + i))) (w := .int (W 3 (40 * s + i))) (jb_vI (congrFun (g2 3 (by decide) (by decide)) _)) ?_
          refine jb_istore_ (pc' := 74) dX12_poem_72 (by decide) (jb_at5 rfl) rfl ?_
          refine jb_aload_n (pc' := 75) dX12_poem_74 rfl rfl ?_
          refine gf_X12_31 (pc' := 78) (v := .ref 113) dX12_poem_75 rfl rfl rfl ?_
          refine jb_bipush (pc' := 80) 40 dX12_poem_78 (by decide) rfl ?_
          refine jb_iload_n (pc' := 81) dX12_poem_80 rfl rfl ?_
          refine jb_imul (pc' := 82) dX12_poem_81 rfl ?_
          refine jb_top (v := .int (40 * (nI s))) (w := .int (nI (40 * s))) (jb_vI (pk_mul 40 _)) ?_
          refine jb_iload (pc' := 84) dX12_poem_82 rfl rfl ?_
          refine jb_iadd (pc' := 85) dX12_poem_84 rfl ?_
          refine jb_top (v := .int ((nI (40 * s)) + (nI i))) (w := .int (nI (40 * s + i))) (jb_vI (nI_add _ _)) ?_
          refine jb_iconst (pc' := 86) 1 dX12_poem_85 (by decide) rfl ?_
          refine jb_iadd (pc' := 87) dX12_poem_86 rfl ?_
          refine jb_top (v := .int ((nI (40 * s + i)) + 1)) (w := .int (nI (40 * s + i + 1))) (jb_vI (nI_add _ 1)) ?_
          refine jb_iaload (pc' := 88) (i9 := (40 * s + i + 1)) (f := (Wc 3)) dX12_poem_87 rfl (jb_ix_nI (by omega)) (by omega) rfl ?_
          refine jb_top (v := .int ((Wc 3) (40 * s + i + 1))) (w := .int (W 3 (40 * s + (i + 1)))) (jb_vI (congrFun (g2 3 (by decide) (by decide)) _)) ?_
          refine jb_istore_ (pc' := 90) dX12_poem_88 (by decide) (jb_at6 rfl) rfl ?_
          refine jb_iload (pc' := 92) dX12_poem_90 rfl rfl ?_
          refine jb_i2l (pc' := 93) dX12_poem_92 rfl ?_
          refine jb_lconst (pc' := 94) 0 dX12_poem_93 (by decide) rfl ?_
          refine jb_lconst (pc' := 95) 1 dX12_poem_94 (by decide) rfl ?_
          refine jb_callS (pc' := 98) (As := [.long ((W 3 (40 * s + i)).toInt64), .long 0, .long 1]) (a2 := 0) (b2 := 0) wv_X12_56 dX12_poem_95 (c_inL _ (W 3 (40 * s + i)) 0 1 (by omega) (by omega)) rfl ⟨by decide, Nat.le_of_eq (Nat.zero_add _), Nat.le_of_eq (Nat.zero_add _)⟩ (Nat.le_of_ble_eq_true rfl) rfl (fun r h9 hq => ?_)
          rcases hq with ⟨rfl, ⟨o3, rfl⟩ | ⟨o3, rfl⟩⟩
          · show jb_J _ RX12 cX12_poem 8 (Option.some .int) false 3 0 0 98 [some (.ref 105), some (.int (nI s)), some (.int 0), some (.int 0), some (.int (nI i)), some (.int (W 3 (40 * s + i))), some (.int (W 3 (40 * s + (i + 1)))), none] [.int 1] [s0, s1, s2, s3, s4, s5, s6, s7, s8, s9, jb_mdl Ic J d e kp nm Wc, s11] _
            refine jb_if_eq (tgt := 146) (pc' := 101) dX12_poem_98 (by decide) rfl (fun z => absurd z (by decide)) (fun _ => ?_)
            refine jb_iload (pc' := 103) dX12_poem_101 rfl rfl ?_
            refine jb_i2l (pc' := 104) dX12_poem_103 rfl ?_
            refine jb_lconst (pc' := 105) 0 dX12_poem_104 (by decide) rfl ?_
            refine jb_ldc2 (pc' := 108) 999 dX12_poem_105 wk_X12_245 rfl ?_
            refine jb_callS (pc' := 111) (As := [.long ((W 3 (40 * s + (i + 1))).toInt64), .long 0, .long 999]) (a2 := 0) (b2 := 0) wv_X12_56 dX12_poem_108 (c_inL _ (W 3 (40 * s + (i + 1))) 0 999 (by omega) (by omega)) rfl ⟨by decide, Nat.le_of_eq (Nat.zero_add _), Nat.le_of_eq (Nat.zero_add _)⟩ (Nat.le_of_ble_eq_true rfl) rfl (fun r h9 hq => ?_)
            rcases hq with ⟨rfl, ⟨o6, rfl⟩ | ⟨o6, rfl⟩⟩
            · exact absurd ⟨(jy_rng (n := 1) (by decide)).mp (by assumption), (jy_rng (n := 999) (by decide)).mp (by assumption)⟩ hv
            · show jb_J _ RX12 cX12_poem 8 (Option.some .int) false 3 0 0 111 [some (.ref 105), some (.int (nI s)), some (.int 0), some (.int 0), some (.int (nI i)), some (.int (W 3 (40 * s + i))), some (.int (W 3 (40 * s + (i + 1)))), none] [.int 0] [s0, s1, s2, s3, s4, s5, s6, s7, s8, s9, jb_mdl Ic J d e kp nm Wc, s11] _
              refine jb_if_eq (tgt := 146) (pc' := 114) dX12_poem_111 (by decide) rfl (fun _ => ?_) (fun z => absurd (by decide) z)
              refine jb_iinc_ (pc' := 149) (nI (i + 2)) dX12_poem_146 (by decide) rfl (jb_inc i 2) (jb_at4 rfl) rfl ?_
              refine jb_goto (pc' := 38) dX12_poem_149 (by decide) ?_
              exact ih (i + 2) acc Ic Wc _ _ (by omega) (by omega) ⟨g1, g2⟩ ⟨p1, p2, p3⟩
          · show jb_J _ RX12 cX12_poem 8 (Option.some .int) false 3 0 0 98 [some (.ref 105), some (.int (nI s)), some (.int 0), some (.int 0), some (.int (nI i)), some (.int (W 3 (40 * s + i))), some (.int (W 3 (40 * s + (i + 1)))), none] [.int 0] [s0, s1, s2, s3, s4, s5, s6, s7, s8, s9, jb_mdl Ic J d e kp nm Wc, s11] _
            refine jb_if_eq (tgt := 146) (pc' := 101) dX12_poem_98 (by decide) rfl (fun _ => ?_) (fun z => absurd (by decide) z)
            refine jb_iinc_ (pc' := 149) (nI (i + 2)) dX12_poem_146 (by decide) rfl (jb_inc i 2) (jb_at4 rfl) rfl ?_
            refine jb_goto (pc' := 38) dX12_poem_149 (by decide) ?_
            exact ih (i + 2) acc Ic Wc _ _ (by omega) (by omega) ⟨g1, g2⟩ ⟨p1, p2, p3⟩
      · rw [if_neg (fun z => hl z.2)] at eG
        show jb_J _ RX12 cX12_poem 8 (Option.some .int) false 3 0 0 38 [some (.ref 105), some (.int (nI s)), some (.int 0), some (.int 0), some (.int (nI i)), x5, x6, none] [] [s0, s1, s2, s3, s4, s5, s6, s7, s8, s9, jb_mdl Ic J d e kp nm Wc, s11] _
        refine jb_iload (pc' := 40) dX12_poem_38 rfl rfl ?_
        refine jb_iconst (pc' := 41) 1 dX12_poem_40 (by decide) rfl ?_
        refine jb_iadd (pc' := 42) dX12_poem_41 rfl ?_
        refine jb_top (v := .int ((nI i) + 1)) (w := .int (nI (i + 1))) (jb_vI (nI_add _ 1)) ?_
        refine jb_aload_n (pc' := 43) dX12_poem_42 rfl rfl ?_
        refine gf_X12_28 (pc' := 46) (v := .ref 112) dX12_poem_43 rfl rfl rfl ?_
        refine jb_iload_n (pc' := 47) dX12_poem_46 rfl rfl ?_
        refine jb_iaload (pc' := 48) (i9 := s) (f := (Wc 2)) dX12_poem_47 rfl (jb_ix_nI (by omega)) (by omega) rfl ?_
        refine jb_top (v := .int ((Wc 2) s)) (w := .int (nI zs)) (jb_vI (by rw [g2 2 (by decide) (by decide)]; exact h2s)) ?_
        refine jb_icmp_ge (tgt := 152) (pc' := 51) dX12_poem_48 (by decide) rfl (fun z => absurd z (nI_ge (a := i + 1) (b := zs) (by omega) (by omega))) (fun _ => ?_)
        refine jb_aload_n (pc' := 52) dX12_poem_51 rfl rfl ?_
        refine gf_X12_242 (pc' := 55) (v := .int (Ic 2)) dX12_poem_52 rfl rfl rfl ?_
        refine jb_top (v := .int (Ic 2)) (w := .int (nI acc.length)) (jb_vI p1) ?_
        refine jb_bipush (pc' := 57) 12 dX12_poem_55 (by decide) rfl ?_
        refine jb_icmp_ge (tgt := 152) (pc' := 60) dX12_poem_57 (by decide) rfl (fun _ => ?_) (fun z => absurd (nI_le (a := 12) (b := acc.length) (by omega) (by omega)) z)
        refine jb_iconst (pc' := 153) (-1) dX12_poem_152 (by decide) rfl ?_
        refine jb_istore_ (pc' := 155) dX12_poem_153 (by decide) (jb_at4 rfl) rfl ?_
        refine jb_iconst (pc' := 156) 0 dX12_poem_155 (by decide) rfl ?_
        refine jb_istore_ (pc' := 158) dX12_poem_156 (by decide) (jb_at5 rfl) rfl ?_
        refine jb_bipush (pc' := 160) 40 dX12_poem_158 (by decide) rfl ?_
        refine jb_istore_ (pc' := 162) dX12_poem_160 (by decide) (jb_at6 rfl) rfl ?_
        rw [eG]
        refine jb_J.mono (l_poem0 Ic J d e kp nm Wc acc ⟨p1, p2, p3⟩ _ 41 0 (-1) _ (Nat.le_refl _) (Nat.zero_add _) (Or.inl ⟨rfl, fun h a b => absurd a (by omega)⟩)) (Nat.le_refl _) (Nat.le_refl _) (Nat.le_refl _) (fun r h9 hq => ?_)
        exact ⟨Ic, Wc, g1, g2, hq.2, hq.1.symm⟩
    · rw [if_neg (fun z => hi1 z.1)] at eG
      show jb_J _ RX12 cX12_poem 8 (Option.some .int) false 3 0 0 38 [some (.ref 105), some (.int (nI s)), some (.int 0), some (.int 0), some (.int (nI i)), x5, x6, none] [] [s0, s1, s2, s3, s4, s5, s6, s7, s8, s9, jb_mdl Ic J d e kp nm Wc, s11] _
      refine jb_iload (pc' := 40) dX12_poem_38 rfl rfl ?_
      refine jb_iconst (pc' := 41) 1 dX12_poem_40 (by decide) rfl ?_
      refine jb_iadd (pc' := 42) dX12_poem_41 rfl ?_
      refine jb_top (v := .int ((nI i) + 1)) (w := .int (nI (i + 1))) (jb_vI (nI_add _ 1)) ?_
      refine jb_aload_n (pc' := 43) dX12_poem_42 rfl rfl ?_
      refine gf_X12_28 (pc' := 46) (v := .ref 112) dX12_poem_43 rfl rfl rfl ?_
      refine jb_iload_n (pc' := 47) dX12_poem_46 rfl rfl ?_
      refine jb_iaload (pc' := 48) (i9 := s) (f := (Wc 2)) dX12_poem_47 rfl (jb_ix_nI (by omega)) (by omega) rfl ?_
      refine jb_top (v := .int ((Wc 2) s)) (w := .int (nI zs)) (jb_vI (by rw [g2 2 (by decide) (by decide)]; exact h2s)) ?_
      refine jb_icmp_ge (tgt := 152) (pc' := 51) dX12_poem_48 (by decide) rfl (fun _ => ?_) (fun z => absurd (nI_le (a := zs) (b := i + 1) (by omega) (by omega)) z)
      refine jb_iconst (pc' := 153) (-1) dX12_poem_152 (by decide) rfl ?_
      refine jb_istore_ (pc' := 155) dX12_poem_153 (by decide) (jb_at4 rfl) rfl ?_
      refine jb_iconst (pc' := 156) 0 dX12_poem_155 (by decide) rfl ?_
      refine jb_istore_ (pc' := 158) dX12_poem_156 (by decide) (jb_at5 rfl) rfl ?_
      refine jb_bipush (pc' := 160) 40 dX12_poem_158 (by decide) rfl ?_
      refine jb_istore_ (pc' := 162) dX12_poem_160 (by decide) (jb_at6 rfl) rfl ?_
      rw [eG]
      refine jb_J.mono (l_poem0 Ic J d e kp nm Wc acc ⟨p1, p2, p3⟩ _ 41 0 (-1) _ (Nat.le_refl _) (Nat.zero_add _) (Or.inl ⟨rfl, fun h a b => absurd a (by omega)⟩)) (Nat.le_refl _) (Nat.le_refl _) (Nat.le_refl _) (fun r h9 hq => ?_)
      exact ⟨Ic, Wc, g1, g2, hq.2, hq.1.symm⟩
set_option maxRecDepth 100000 in
set_option maxHeartbeats 4000000 in
theorem mx_poem0 {sc : Nat × (Nat → Int32)} {s0 s1 s2 s3 s4 s5 s6 s7 s8 s9 s11 : List va_E} (I J d e kp nm : Nat → Int32) (W : Nat → Nat → Int32) (s : Nat) (hs : s < 4) {bs zs : Nat} (h1s : W 1 s = nI bs) (h2s : W 2 s = nI zs) (hbs : bs ≤ 32) (hzs : zs ≤ 40) (hm : ¬ bs = 0) : jb_C sc yX12_poem cX12_poem 8 (Option.some .int) 3 0 0 [.ref 105, .int (nI s), .int 0] [s0, s1, s2, s3, s4, s5, s6, s7, s8, s9, jb_mdl I J d e kp nm W, s11] (fun r h9 => ∃ I9 W9, (∀ j, ¬ j = 2 → I9 j = I j) ∧ (∀ r, ¬ r = 7 → ¬ r = 8 → W9 r = W r) ∧ (∃ v, jy_L (jy_f (jy_ga (fun k => W 3 (40 * s + k)) zs zs 0 [])) v ∧ r = some (.int v)) ∧ h9 = [s0, s1, s2, s3, s4, s5, s6, s7, s8, s9, jb_mdl I9 J d e kp nm W9, s11]) := by
  refine jb_CofJ (ini := false) (by decide +kernel) (fun h => by cases h) (Nat.le_of_ble_eq_true rfl) ?_
  show jb_J sc RX12 cX12_poem 8 (Option.some .int) false 3 0 0 0 [some (.ref 105), some (.int (nI s)), some (.int 0), none, none, none, none, none] [] [s0, s1, s2, s3, s4, s5, s6, s7, s8, s9, jb_mdl I J d e kp nm W, s11] _
  refine jb_iload_n (pc' := 1) dX12_poem_0 rfl rfl ?_
  refine jb_i2l (pc' := 2) dX12_poem_1 rfl ?_
  refine jb_lconst (pc' := 3) 0 dX12_poem_2 (by decide) rfl ?_
  refine jb_lconst (pc' := 4) 1 dX12_poem_3 (by decide) rfl ?_
  refine jb_callS (pc' := 7) (As := [.long ((0 : Int32).toInt64), .long 0, .long 1]) (a2 := 0) (b2 := 0) wv_X12_56 dX12_poem_4 (c_inLG _ 0 0 1 (by omega) (by omega) (by omega)) rfl ⟨by decide, Nat.le_of_eq (Nat.zero_add _), Nat.le_of_eq (Nat.zero_add _)⟩ (Nat.le_of_ble_eq_true rfl) rfl (fun r h9 hq => ?_)
  obtain ⟨rfl, rfl⟩ := hq
  show jb_J _ RX12 cX12_poem 8 (Option.some .int) false 3 0 0 7 [some (.ref 105), some (.int (nI s)), some (.int 0), none, none, none, none, none] [.int 1] [s0, s1, s2, s3, s4, s5, s6, s7, s8, s9, jb_mdl I J d e kp nm W, s11] _
  refine jb_if_ne (tgt := 14) (pc' := 10) dX12_poem_7 (by decide) rfl (fun _ => ?_) (fun z => absurd z (by decide))
  refine jb_aload_n (pc' := 15) dX12_poem_14 rfl rfl ?_
  refine jb_iload_n (pc' := 16) dX12_poem_15 rfl rfl ?_
  refine jb_callV (pc' := 19) (ci := 12) (q := 105) (As := [.int (nI s)]) (a2 := 0) (b2 := 0) wv_X12_236 rfl dX12_poem_16 (c_whyNot I J d e kp nm W s hs h1s h2s hbs hzs) rfl rfl ⟨by decide, Nat.le_of_eq (Nat.zero_add _), Nat.le_of_eq (Nat.zero_add _)⟩ (Nat.le_of_ble_eq_true rfl) rfl (fun r h9 hq => ?_)
  rcases hq with ⟨rfl, ⟨hms, rfl⟩ | ⟨hms, rfl⟩⟩
  · exact absurd hms hm
  · show jb_J _ RX12 cX12_poem 8 (Option.some .int) false 3 0 0 19 [some (.ref 105), some (.int (nI s)), some (.int 0), none, none, none, none, none] [.int 0] [s0, s1, s2, s3, s4, s5, s6, s7, s8, s9, jb_mdl I J d e kp nm W, s11] _
    refine jb_istore_n_ (pc' := 20) dX12_poem_19 (by decide) (jb_at3 rfl) rfl ?_
    refine jb_iload_n (pc' := 21) dX12_poem_20 rfl rfl ?_
    refine jb_if_eq (tgt := 30) (pc' := 24) dX12_poem_21 (by decide) rfl (fun _ => ?_) (fun z => absurd (by decide) z)
    refine jb_aload_n (pc' := 31) dX12_poem_30 rfl rfl ?_
    refine jb_iconst (pc' := 32) 0 dX12_poem_31 (by decide) rfl ?_
    refine pf_X12_242 (pc' := 35) (h' := [s0, s1, s2, s3, s4, s5, s6, s7, s8, s9, jb_mdl (upd I 2 0) J d e kp nm W, s11]) dX12_poem_32 (fun _ => ⟨rfl, rfl⟩) rfl (Nat.le_of_ble_eq_true rfl) rfl rfl ?_
    refine jb_iconst (pc' := 36) 0 dX12_poem_35 (by decide) rfl ?_
    refine jb_istore_ (pc' := 38) dX12_poem_36 (by decide) (jb_at4 rfl) rfl ?_
    exact l_poemg0 I J d e kp nm W s hs zs h2s hzs zs 0 [] (upd I 2 0) W _ _ (by omega) (by omega) ⟨fun j hj => jb_une hj, fun _ _ _ => rfl⟩ ⟨rfl, ⟨by decide, fun j hj => absurd hj (Nat.not_lt_zero _)⟩, fun j hj => absurd hj (Nat.not_lt_zero _)⟩
set_option maxRecDepth 100000 in
set_option maxHeartbeats 4000000 in
theorem l_poemg1 {sc : Nat × (Nat → Int32)} {s0 s1 s2 s3 s4 s5 s6 s7 s8 s9 s11 : List va_E} (I J d e kp nm : Nat → Int32) (W : Nat → Nat → Int32) (s : Nat) (hs : s < 4) (zs : Nat) (h2s : W 2 s = nI zs) (hzs : zs ≤ 40) : ∀ (n i : Nat) (acc : List (Nat × Nat)) (Ic : Nat → Int32) (Wc : Nat → Nat → Int32) (x5 x6 : Option Value), zs ≤ i + 2 * n → i ≤ zs + 2 → (∀ j, ¬ j = 2 → Ic j = I j) ∧ (∀ r, ¬ r = 7 → ¬ r = 8 → Wc r = W r) → Ic 2 = nI acc.length ∧ jy_in acc ∧ (∀ j, j < acc.length → Wc 7 j = nI (acc.getD j (0, 0)).1 ∧ Wc 8 j = nI (acc.getD j (0, 0)).2) → jb_J sc RX12 cX12_poem 8 (Option.some .int) false 3 0 0 38 [some (.ref 105), some (.int (nI s)), some (.int 1), some (.int 0), some (.int (nI i)), x5, x6, none] [] [s0, s1, s2, s3, s4, s5, s6, s7, s8, s9, jb_mdl Ic J d e kp nm Wc, s11] (fun r h9 => ∃ I9 W9, (∀ j, ¬ j = 2 → I9 j = I j) ∧ (∀ r, ¬ r = 7 → ¬ r = 8 → W9 r = W r) ∧ r = some (.int (nI (jy_n (jy_f (jy_ga (fun k => W 3 (40 * s + k)) zs n i acc)) 41))) ∧ h9 = [s0, s1, s2, s3, s4, s5, s6, s7, s8, s9, jb_mdl I9 J d e kp nm W9, s11]) := by
  intro n
  induction n with
  | zero =>
    intro i acc Ic Wc x5 x6 hi hi2 ⟨g1, g2⟩ ⟨p1, p2, p3⟩
    show jb_J _ RX12 cX12_poem 8 (Option.some .int) false 3 0 0 38 [some (.ref 105), some (.int (nI s)), some (.int 1), some (.int 0), some (.int (nI i)), x5, x6, none] [] [s0, s1, s2, s3, s4, s5, s6, s7, s8, s9, jb_mdl Ic J d e kp nm Wc, s11] _
    refine jb_iload (pc' := 40) dX12_poem_38 rfl rfl ?_
    refine jb_iconst (pc' := 41) 1 dX12_poem_40 (by decide) rfl ?_
    refine jb_iadd (pc' := 42) dX12_poem_41 rfl ?_
    refine jb_top (v := .int ((nI i) + 1)) (w := .int (nI (i + 1))) (jb_vI (nI_add _ 1)) ?_
    refine jb_aload_n (pc' := 43) dX12_poem_42 rfl rfl ?_
    refine gf_X12_28 (pc' := 46) (v := .ref 112) dX12_poem_43 rfl rfl rfl ?_
    refine jb_iload_n (pc' := 47) dX12_poem_46 rfl rfl ?_
    refine jb_iaload (pc' := 48) (i9 := s) (f := (Wc 2)) dX12_poem_47 rfl (jb_ix_nI (by omega)) (by omega) rfl ?_
    refine jb_top (v := .int ((Wc 2) s)) (w := .int (nI zs)) (jb_vI (by rw [g2 2 (by decide) (by decide)]; exact h2s)) ?_
    refine jb_icmp_ge (tgt := 152) (pc' := 51) dX12_poem_48 (by decide) rfl (fun _ => ?_) (fun z => absurd (nI_le (a := zs) (b := i + 1) (by omega) (by omega)) z)
    refine jb_iconst (pc' := 153) (-1) dX12_poem_152 (by decide) rfl ?_
    refine jb_istore_ (pc' := 155) dX12_poem_153 (by decide) (jb_at4 rfl) rfl ?_
    refine jb_iconst (pc' := 156) 0 dX12_poem_155 (by decide) rfl ?_
    refine jb_istore_ (pc' := 158) dX12_poem_156 (by decide) (jb_at5 rfl) rfl ?_
    refine jb_bipush (pc' := 160) 40 dX12_poem_158 (by decide) rfl ?_
    refine jb_istore_ (pc' := 162) dX12_poem_160 (by decide) (jb_at6 rfl) rfl ?_
    refine jb_J.mono (l_poem1 Ic J d e kp nm Wc acc ⟨p1, p2, p3⟩ _ 41 0 (-1) _ (Nat.le_refl _) (Nat.zero_add _) (Or.inl ⟨rfl, fun h a b => absurd a (by omega)⟩)) (Nat.le_refl _) (Nat.le_refl _) (Nat.le_refl _) (fun r h9 hq => ?_)
    exact ⟨Ic, Wc, g1, g2, hq.2, hq.1.symm⟩
  | succ n ih =>
    intro i acc Ic Wc x5 x6 hi hi2 ⟨g1, g2⟩ ⟨p1, p2, p3⟩
    have plen := p2.1
    have eG : (jy_ga (fun k => W 3 (40 * s + k)) zs (n + 1) i acc) = (if i + 1 < zs ∧ acc.length < 12 then (if (0 ≤ W 3 (40 * s + i) ∧ W 3 (40 * s + i) ≤ 1) ∧ (0 ≤ W 3 (40 * s + (i + 1)) ∧ W 3 (40 * s + (i + 1)) ≤ 999) then jy_ga (fun k => W 3 (40 * s + k)) zs n (i + 2) (acc ++ [((W 3 (40 * s + i)).toNatClampNeg, (W 3 (40 * s + (i + 1))).toNatClampNeg)]) else jy_ga (fun k => W 3 (40 * s + k)) zs n (i + 2) acc) else acc) := rfl
    by_cases hi1 : i + 1 < zs
    · by_cases hl : acc.length < 12
      · by_cases hv : (0 ≤ W 3 (40 * s + i) ∧ W 3 (40 * s + i) ≤ 1) ∧ (0 ≤ W 3 (40 * s + (i + 1)) ∧ W 3 (40 * s + (i + 1)) ≤ 999)
        · obtain ⟨u, hu1, hu2, eu⟩ := (jy_rng (n := 1) (by decide)).mpr hv.1
          obtain ⟨v, hv1, hv2, ev⟩ := (jy_rng (n := 999) (by decide)).mpr hv.2
          rw [if_pos ⟨hi1, hl⟩, if_pos hv, eu, ev, nI_clamp (by omega), nI_clamp (by omega)] at eG
          rw [eG]
          show jb_J _ RX12 cX12_poem 8 (Option.some .int) false 3 0 0 38 [some (.ref 105), some (.int (nI s)), some (.int 1), some (.int 0), some (.int (nI i)), x5, x6, none] [] [s0, s1, s2, s3, s4, s5, s6, s7, s8, s9, jb_mdl Ic J d e kp nm Wc, s11] _
          refine jb_iload (pc' := 40) dX12_poem_38 rfl rfl ?_
          refine jb_iconst (pc' := 41) 1 dX12_poem_40 (by decide) rfl ?_
          refine jb_iadd (pc' := 42) dX12_poem_41 rfl ?_
          refine jb_top (v := .int ((nI i) + 1)) (w := .int (nI (i + 1))) (jb_vI (nI_add _ 1)) ?_
          refine jb_aload_n (pc' := 43) dX12_poem_42 rfl rfl ?_
          refine gf_X12_28 (pc' := 46) (v := .ref 112) dX12_poem_43 rfl rfl rfl ?_
          refine jb_iload_n (pc' := 47) dX12_poem_46 rfl rfl ?_
          refine jb_iaload (pc' := 48) (i9 := s) (f := (Wc 2)) dX12_poem_47 rfl (jb_ix_nI (by omega)) (by omega) rfl ?_
          refine jb_top (v := .int ((Wc 2) s)) (w := .int (nI zs)) (jb_vI (by rw [g2 2 (by decide) (by decide)]; exact h2s)) ?_
          refine jb_icmp_ge (tgt := 152) (pc' := 51) dX12_poem_48 (by decide) rfl (fun z => absurd z (nI_ge (a := i + 1) (b := zs) (by omega) (by omega))) (fun _ => ?_)
          refine jb_aload_n (pc' := 52) dX12_poem_51 rfl rfl ?_
          refine gf_X12_242 (pc' := 55) (v := .int (Ic 2)) dX12_poem_52 rfl rfl rfl ?_
          refine jb_top (v := .int (Ic 2)) (w := .int (nI acc.length)) (jb_vI p1) ?_
          refine jb_bipush (pc' := 57) 12 dX12_poem_55 (by decide) rfl ?_
          refine jb_icmp_ge (tgt := 152) (pc' := 60) dX12_poem_57 (by decide) rfl (fun z => absurd z (nI_ge (a := acc.length) (b := 12) (by omega) (by omega))) (fun _ => ?_)
          refine jb_aload_n (pc' := 61) dX12_poem_60 rfl rfl ?_
          refine gf_X12_31 (pc' := 64) (v := .ref 113) dX12_poem_61 rfl rfl rfl ?_
          refine jb_bipush (pc' := 66) 40 dX12_poem_64 (by decide) rfl ?_
          refine jb_iload_n (pc' := 67) dX12_poem_66 rfl rfl ?_
          refine jb_imul (pc' := 68) dX12_poem_67 rfl ?_
          refine jb_top (v := .int (40 * (nI s))) (w := .int (nI (40 * s))) (jb_vI (pk_mul 40 _)) ?_
          refine jb_iload (pc' := 70) dX12_poem_68 rfl rfl ?_
          refine jb_iadd (pc' := 71) dX12_poem_70 rfl ?_
          refine jb_top (v := .int ((nI (40 * s)) + (nI i))) (w := .int (nI (40 * s + i))) (jb_vI (nI_add _ _)) ?_
          refine jb_iaload (pc' := 72) (i9 := (40 * s + i)) (f := (Wc 3)) dX12_poem_71 rfl (jb_ix_nI (by omega)) (by omega) rfl ?_
          refine jb_top (v := .int ((Wc 3) (40 * s + i))) (w := .int (nI u)) (jb_vI ((congrFun (g2 3 (by decide) (by decide)) _).trans eu)) ?_
          refine jb_istore_ (pc' := 74) dX12_poem_72 (by decide) (jb_at5 rfl) rfl ?_
          refine jb_aload_n (pc' := 75) dX12_poem_74 rfl rfl ?_
          refine gf_X12_31 (pc' := 78) (v := .ref 113) dX12_poem_75 rfl rfl rfl ?_
          refine jb_bipush (pc' := 80) 40 dX12_poem_78 (by decide) rfl ?_
          refine jb_iload_n (pc' := 81) dX12_poem_80 rfl rfl ?_
          refine jb_imul (pc' := 82) dX12_poem_81 rfl ?_
          refine jb_top (v := .int (40 * (nI s))) (w := .int (nI (40 * s))) (jb_vI (pk_mul 40 _)) ?_
          refine jb_iload (pc' := 84) dX12_poem_82 rfl rfl ?_
          refine jb_iadd (pc' := 85) dX12_poem_84 rfl ?_
          refine jb_top (v := .int ((nI (40 * s)) + (nI i))) (w := .int (nI (40 * s + i))) (jb_vI (nI_add _ _)) ?_
          refine jb_iconst (pc' := 86) 1 dX12_poem_85 (by decide) rfl ?_
          refine jb_iadd (pc' := 87) dX12_poem_86 rfl ?_
          refine jb_top (v := .int ((nI (40 * s + i)) + 1)) (w := .int (nI (40 * s + i + 1))) (jb_vI (nI_add _ 1)) ?_
          refine jb_iaload (pc' := 88) (i9 := (40 * s + i + 1)) (f := (Wc 3)) dX12_poem_87 rfl (jb_ix_nI (by omega)) (by omega) rfl ?_
          refine jb_top (v := .int ((Wc 3) (40 * s + i + 1))) (w := .int (nI v)) (jb_vI ((congrFun (g2 3 (by decide) (by decide)) _).trans ev)) ?_
          refine jb_istore_ (pc' := 90) dX12_poem_88 (by decide) (jb_at6 rfl) rfl ?_
          refine jb_iload (pc' := 92) dX12_poem_90 rfl rfl ?_
          refine jb_i2l (pc' := 93) dX12_poem_92 rfl ?_
          refine jb_lconst (pc' := 94) 0 dX12_poem_93 (by decide) rfl ?_
          refine jb_lconst (pc' := 95) 1 dX12_poem_94 (by decide) rfl ?_
          refine jb_callS (pc' := 98) (As := [.long ((nI u).toInt64), .long 0, .long 1]) (a2 := 0) (b2 := 0) wv_X12_56 dX12_poem_95 (c_inLG _ u 0 1 (by omega) (by omega) (by omega)) rfl ⟨by decide, Nat.le_of_eq (Nat.zero_add _), Nat.le_of_eq (Nat.zero_add _)⟩ (Nat.le_of_ble_eq_true rfl) rfl (fun r h9 hq => ?_)
          obtain ⟨rfl, rfl⟩ := hq
          show jb_J _ RX12 cX12_poem 8 (Option.some .int) false 3 0 0 98 [some (.ref 105), some (.int (nI s)), some (.int 1), some (.int 0), some (.int (nI i)), some (.int (nI u)), some (.int (nI v)), none] [.int 1] [s0, s1, s2, s3, s4, s5, s6, s7, s8, s9, jb_mdl Ic J d e kp nm Wc, s11] _
          refine jb_if_eq (tgt := 146) (pc' := 101) dX12_poem_98 (by decide) rfl (fun z => absurd z (by decide)) (fun _ => ?_)
          refine jb_iload (pc' := 103) dX12_poem_101 rfl rfl ?_
          refine jb_i2l (pc' := 104) dX12_poem_103 rfl ?_
          refine jb_lconst (pc' := 105) 0 dX12_poem_104 (by decide) rfl ?_
          refine jb_ldc2 (pc' := 108) 999 dX12_poem_105 wk_X12_245 rfl ?_
          refine jb_callS (pc' := 111) (As := [.long ((nI v).toInt64), .long 0, .long 999]) (a2 := 0) (b2 := 0) wv_X12_56 dX12_poem_108 (c_inLG _ v 0 999 (by omega) (by omega) (by omega)) rfl ⟨by decide, Nat.le_of_eq (Nat.zero_add _), Nat.le_of_eq (Nat.zero_add _)⟩ (Nat.le_of_ble_eq_true rfl) rfl (fun r h9 hq => ?_)
          obtain ⟨rfl, rfl⟩ := hq
          show jb_J _ RX12 cX12_poem 8 (Option.some .int) false 3 0 0 111 [some (.ref 105), some (.int (nI s)), some (.int 1), some (.int 0), some (.int (nI i)), some (.int (nI u)), some (.int (nI v)), none] [.int 1] [s0, s1, s2, s3, s4, s5, s6, s7, s8, s9, jb_mdl Ic J d e kp nm Wc, s11] _
          refine jb_if_eq (tgt := 146) (pc' := 114) dX12_poem_111 (by decide) rfl (fun z => absurd z (by decide)) (fun _ => ?_)
          refine jb_aload_n (pc' := 115) dX12_poem_114 rfl rfl ?_
          refine gf_X12_43 (pc' := 118) (v := .ref 117) dX12_poem_115 rfl rfl rfl ?_
          refine jb_aload_n (pc' := 119) dX12_poem_118 rfl rfl ?_
          refine gf_X12_242 (pc' := 122) (v := .int (Ic 2)) dX12_poem_119 rfl rfl rfl ?_
          refine jb_top (v := .int (Ic 2)) (w := .int (nI acc.length)) (jb_vI p1) ?_
          refine jb_iload (pc' := 124) dX12_poem_122 rfl rfl ?_
          refine jb_iastore (pc' := 125) (i9 := acc.length) (f := (Wc 7)) (h' := [s0, s1, s2, s3, s4, s5, s6, s7, s8, s9, jb_mdl Ic J d e kp nm (va_up Wc 7 (upd (Wc 7) acc.length (nI u))), s11]) dX12_poem_124 rfl (jb_ix_nI (by omega)) (by omega) rfl rfl ?_
          refine jb_aload_n (pc' := 126) dX12_poem_125 rfl rfl ?_
          refine gf_X12_46 (pc' := 129) (v := .ref 118) dX12_poem_126 rfl rfl rfl ?_
          refine jb_aload_n (pc' := 130) dX12_poem_129 rfl rfl ?_
          refine gf_X12_242 (pc' := 133) (v := .int (Ic 2)) dX12_poem_130 rfl rfl rfl ?_
          refine jb_top (v := .int (Ic 2)) (w := .int (nI acc.length)) (jb_vI p1) ?_
          refine jb_iload (pc' := 135) dX12_poem_133 rfl rfl ?_
          refine jb_iastore (pc' := 136) (i9 := acc.length) (f := (Wc 8)) (h' := [s0, s1, s2, s3, s4, s5, s6, s7, s8, s9, jb_mdl Ic J d e kp nm (va_up (va_up Wc 7 (upd (Wc 7) acc.length (nI u))) 8 (upd (Wc 8) acc.length (nI v))), s11]) dX12_poem_135 rfl (jb_ix_nI (by omega)) (by omega) rfl rfl ?_
          refine jb_aload_n (pc' := 137) dX12_poem_136 rfl rfl ?_
          refine jb_dup (pc' := 138) dX12_poem_137 rfl rfl ?_
          refine gf_X12_242 (pc' := 141) (v := .int (Ic 2)) dX12_poem_138 rfl rfl rfl ?_
          refine jb_top (v := .int (Ic 2)) (w := .int (nI acc.length)) (jb_vI p1) ?_
          refine jb_iconst (pc' := 142) 1 dX12_poem_141 (by decide) rfl ?_
          refine jb_iadd (pc' := 143) dX12_poem_142 rfl ?_
          refine jb_top (v := .int ((nI acc.length) + 1)) (w := .int (nI (acc.length + 1))) (jb_vI (nI_add _ 1)) ?_
          refine pf_X12_242 (pc' := 146) (h' := [s0, s1, s2, s3, s4, s5, s6, s7, s8, s9, jb_mdl (upd Ic 2 (nI (acc.length + 1))) J d e kp nm (va_up (va_up Wc 7 (upd (Wc 7) acc.length (nI u))) 8 (upd (Wc 8) acc.length (nI v))), s11]) dX12_poem_143 (fun _ => ⟨rfl, rfl⟩) rfl (Nat.le_of_ble_eq_true rfl) rfl rfl ?_
          refine jb_iinc_ (pc' := 149) (nI (i + 2)) dX12_poem_146 (by decide) rfl (jb_inc i 2) (jb_at4 rfl) rfl ?_
          refine jb_goto (pc' := 38) dX12_poem_149 (by decide) ?_
          refine ih (i + 2) (acc ++ [(u, v)]) (upd Ic 2 (nI (acc.length + 1))) (va_up (va_up Wc 7 (upd (Wc 7) acc.length (nI u))) 8 (upd (Wc 8) acc.length (nI v))) _ _ (by omega) (by omega) ⟨fun j hj => (jb_une hj).trans (g1 j hj), fun r h6 h7 => ((va_ne h7).trans (va_ne h6)).trans (g2 r h6 h7)⟩ ⟨?_, p2.app hl hu2 hv2, fun j hj => ?_⟩
          · rw [List.length_append]; rfl
          · rw [List.length_append] at hj
            have hj2 : j < acc.length + 1 := hj
            show upd (Wc 7) acc.length (nI u) j = _ ∧ upd (Wc 8) acc.length (nI v) j = _
            by_cases e : j = acc.length
            · rw [e, jy_gde]; exact ⟨jb_uee, jb_uee⟩
            · rw [jb_une e, jb_une e, jy_gda (by omega)]; exact p3 j (by omega)
        · rw [if_pos ⟨hi1, hl⟩, if_neg hv] at eG
          rw [eG]
          show jb_J _ RX12 cX12_poem 8 (Option.some .int) false 3 0 0 38 [some (.ref 105), some (.int (nI s)), some (.int 1), some (.int 0), some (.int (nI i)), x5, x6, none] [] [s0, s1, s2, s3, s4, s5, s6, s7, s8, s9, jb_mdl Ic J d e kp nm Wc, s11] _
          refine jb_iload (pc' := 40) dX12_poem_38 rfl rfl ?_
          refine jb_iconst (pc' := 41) 1 dX12_poem_40 (by decide) rfl ?_
          refine jb_iadd (pc' := 42) dX12_poem_41 rfl ?_
          refine jb_top (v := .int ((nI i) + 1)) (w := .int (nI (i + 1))) (jb_vI (nI_add _ 1)) ?_
          refine jb_aload_n (pc' := 43) dX12_poem_42 rfl rfl ?_
          refine gf_X12_28 (pc' := 46) (v := .ref 112) dX12_poem_43 rfl rfl rfl ?_
          refine jb_iload_n (pc' := 47) dX12_poem_46 rfl rfl ?_
          refine jb_iaload (pc' := 48) (i9 := s) (f := (Wc 2)) dX12_poem_47 rfl (jb_ix_nI (by omega)) (by omega) rfl ?_
          refine jb_top (v := .int ((Wc 2) s)) (w := .int (nI zs)) (jb_vI (by rw [g2 2 (by decide) (by decide)]; exact h2s)) ?_
          refine jb_icmp_ge (tgt := 152) (pc' := 51) dX12_poem_48 (by decide) rfl (fun z => absurd z (nI_ge (a := i + 1) (b := zs) (by omega) (by omega))) (fun _ => ?_)
          refine jb_aload_n (pc' := 52) dX12_poem_51 rfl rfl ?_
          refine gf_X12_242 (pc' := 55) (v := .int (Ic 2)) dX12_poem_52 rfl rfl rfl ?_
          refine jb_top (v := .int (Ic 2)) (w := .int (nI acc.length)) (jb_vI p1) ?_
          refine jb_bipush (pc' := 57) 12 dX12_poem_55 (by decide) rfl ?_
          refine jb_icmp_ge (tgt := 152) (pc' := 60) dX12_poem_57 (by decide) rfl (fun z => absurd z (nI_ge (a := acc.length) (b := 12) (by omega) (by omega))) (fun _ => ?_)
          refine jb_aload_n (pc' := 61) dX12_poem_60 rfl rfl ?_
          refine gf_X12_31 (pc' := 64) (v := .ref 113) dX12_poem_61 rfl rfl rfl ?_
          refine jb_bipush (pc' := 66) 40 dX12_poem_64 (by decide) rfl ?_
          refine jb_iload_n (pc' := 67) dX12_poem_66 rfl rfl ?_
          refine jb_imul (pc' := 68) dX12_poem_67 rfl ?_
          refine jb_top (v := .int (40 * (nI s))) (w := .int (nI (40 * s))) (jb_vI (pk_mul 40 _)) ?_
          refine jb_iload (pc' := 70) dX12_poem_68 rfl rfl ?_
          refine jb_iadd (pc' := 71) dX12_poem_70 rfl ?_
          refine jb_top (v := .int ((nI (40 * s)) + (nI i))) (w := .int (nI (40 * s + i))) (jb_vI (nI_add _ _)) ?_
          refine jb_iaload (pc' := 72) (i9 := (40 * s + i)) (f := (Wc 3)) dX12_poem_71 rfl (jb_ix_nI (by omega)) (by omega) rfl ?_
          refine jb_top (v := .int ((Wc 3) (40 * s + i))) (w := .int (W 3 (40 * s + i))) (jb_vI (congrFun (g2 3 (by decide) (by decide)) _)) ?_
          refine jb_istore_ (pc' := 74) dX12_poem_72 (by decide) (jb_at5 rfl) rfl ?_
          refine jb_aload_n (pc' := 75) dX12_poem_74 rfl rfl ?_
          refine gf_X12_31 (pc' := 78) (v := .ref 113) dX12_poem_75 rfl rfl rfl ?_
          refine jb_bipush (pc' := 80) 40 dX12_poem_78 (by decide) rfl ?_
          refine jb_iload_n (pc' := 81) dX12_poem_80 rfl rfl ?_
          refine jb_imul (pc' := 82) dX12_poem_81 rfl ?_
          refine jb_top (v := .int (40 * (nI s))) (w := .int (nI (40 * s))) (jb_vI (pk_mul 40 _)) ?_
          refine jb_iload (pc' := 84) dX12_poem_82 rfl rfl ?_
          refine jb_iadd (pc' := 85) dX12_poem_84 rfl ?_
          refine jb_top (v := .int ((nI (40 * s)) + (nI i))) (w := .int (nI (40 * s + i))) (jb_vI (nI_add _ _)) ?_
          refine jb_iconst (pc' := 86) 1 dX12_poem_85 (by decide) rfl ?_
          refine jb_iadd (pc' := 87) dX12_poem_86 rfl ?_
          refine jb_top (v := .int ((nI (40 * s + i)) + 1)) (w := .int (nI (40 * s + i + 1))) (jb_vI (nI_add _ 1)) ?_
          refine jb_iaload (pc' := 88) (i9 := (40 * s + i + 1)) (f := (Wc 3)) dX12_poem_87 rfl (jb_ix_nI (by omega)) (by omega) rfl ?_
          refine jb_top (v := .int ((Wc 3) (40 * s + i + 1))) (w := .int (W 3 (40 * s + (i + 1)))) (jb_vI (congrFun (g2 3 (by decide) (by decide)) _)) ?_
          refine jb_istore_ (pc' := 90) dX12_poem_88 (by decide) (jb_at6 rfl) rfl ?_
          refine jb_iload (pc' := 92) dX12_poem_90 rfl rfl ?_
          refine jb_i2l (pc' := 93) dX12_poem_92 rfl ?_
          refine jb_lconst (pc' := 94) 0 dX12_poem_93 (by decide) rfl ?_
          refine jb_lconst (pc' := 95) 1 dX12_poem_94 (by decide) rfl ?_
          refine jb_callS (pc' := 98) (As := [.long ((W 3 (40 * s + i)).toInt64), .long 0, .long 1]) (a2 := 0) (b2 := 0) wv_X12_56 dX12_poem_95 (c_inL _ (W 3 (40 * s + i)) 0 1 (by omega) (by omega)) rfl ⟨by decide, Nat.le_of_eq (Nat.zero_add _), Nat.le_of_eq (Nat.zero_add _)⟩ (Nat.le_of_ble_eq_true rfl) rfl (fun r h9 hq => ?_)
          rcases hq with ⟨rfl, ⟨o3, rfl⟩ | ⟨o3, rfl⟩⟩
          · show jb_J _ RX12 cX12_poem 8 (Option.some .int) false 3 0 0 98 [some (.ref 105), some (.int (nI s)), some (.int 1), some (.int 0), some (.int (nI i)), some (.int (W 3 (40 * s + i))), some (.int (W 3 (40 * s + (i + 1)))), none] [.int 1] [s0, s1, s2, s3, s4, s5, s6, s7, s8, s9, jb_mdl Ic J d e kp nm Wc, s11] _
            refine jb_if_eq (tgt := 146) (pc' := 101) dX12_poem_98 (by decide) rfl (fun z => absurd z (by decide)) (fun _ => ?_)
            refine jb_iload (pc' := 103) dX12_poem_101 rfl rfl ?_
            refine jb_i2l (pc' := 104) dX12_poem_103 rfl ?_
            refine jb_lconst (pc' := 105) 0 dX12_poem_104 (by decide) rfl ?_
            refine jb_ldc2 (pc' := 108) 999 dX12_poem_105 wk_X12_245 rfl ?_
            refine jb_callS (pc' := 111) (As := [.long ((W 3 (40 * s + (i + 1))).toInt64), .long 0, .long 999]) (a2 := 0) (b2 := 0) wv_X12_56 dX12_poem_108 (c_inL _ (W 3 (40 * s + (i + 1))) 0 999 (by omega) (by omega)) rfl ⟨by decide, Nat.le_of_eq (Nat.zero_add _), Nat.le_of_eq (Nat.zero_add _)⟩ (Nat.le_of_ble_eq_true rfl) rfl (fun r h9 hq => ?_)
            rcases hq with ⟨rfl, ⟨o6, rfl⟩ | ⟨o6, rfl⟩⟩
            · exact absurd ⟨(jy_rng (n := 1) (by decide)).mp (by assumption), (jy_rng (n := 999) (by decide)).mp (by assumption)⟩ hv
            · show jb_J _ RX12 cX12_poem 8 (Option.some .int) false 3 0 0 111 [some (.ref 105), some (.int (nI s)), some (.int 1), some (.int 0), some (.int (nI i)), some (.int (W 3 (40 * s + i))), some (.int (W 3 (40 * s + (i + 1)))), none] [.int 0] [s0, s1, s2, s3, s4, s5, s6, s7, s8, s9, jb_mdl Ic J d e kp nm Wc, s11] _
              refine jb_if_eq (tgt := 146) (pc' := 114) dX12_poem_111 (by decide) rfl (fun _ => ?_) (fun z => absurd (by decide) z)
              refine jb_iinc_ (pc' := 149) (nI (i + 2)) dX12_poem_146 (by decide) rfl (jb_inc i 2) (jb_at4 rfl) rfl ?_
              refine jb_goto (pc' := 38) dX12_poem_149 (by decide) ?_
              exact ih (i + 2) acc Ic Wc _ _ (by omega) (by omega) ⟨g1, g2⟩ ⟨p1, p2, p3⟩
          · show jb_J _ RX12 cX12_poem 8 (Option.some .int) false 3 0 0 98 [some (.ref 105), some (.int (nI s)), some (.int 1), some (.int 0), some (.int (nI i)), some (.int (W 3 (40 * s + i))), some (.int (W 3 (40 * s + (i + 1)))), none] [.int 0] [s0, s1, s2, s3, s4, s5, s6, s7, s8, s9, jb_mdl Ic J d e kp nm Wc, s11] _
            refine jb_if_eq (tgt := 146) (pc' := 101) dX12_poem_98 (by decide) rfl (fun _ => ?_) (fun z => absurd (by decide) z)
            refine jb_iinc_ (pc' := 149) (nI (i + 2)) dX12_poem_146 (by decide) rfl (jb_inc i 2) (jb_at4 rfl) rfl ?_
            refine jb_goto (pc' := 38) dX12_poem_149 (by decide) ?_
            exact ih (i + 2) acc Ic Wc _ _ (by omega) (by omega) ⟨g1, g2⟩ ⟨p1, p2, p3⟩
      · rw [if_neg (fun z => hl z.2)] at eG
        show jb_J _ RX12 cX12_poem 8 (Option.some .int) false 3 0 0 38 [some (.ref 105), some (.int (nI s)), some (.int 1), some (.int 0), some (.int (nI i)), x5, x6, none] [] [s0, s1, s2, s3, s4, s5, s6, s7, s8, s9, jb_mdl Ic J d e kp nm Wc, s11] _
        refine jb_iload (pc' := 40) dX12_poem_38 rfl rfl ?_
        refine jb_iconst (pc' := 41) 1 dX12_poem_40 (by decide) rfl ?_
        refine jb_iadd (pc' := 42) dX12_poem_41 rfl ?_
        refine jb_top (v := .int ((nI i) + 1)) (w := .int (nI (i + 1))) (jb_vI (nI_add _ 1)) ?_
        refine jb_aload_n (pc' := 43) dX12_poem_42 rfl rfl ?_
        refine gf_X12_28 (pc' := 46) (v := .ref 112) dX12_poem_43 rfl rfl rfl ?_
        refine jb_iload_n (pc' := 47) dX12_poem_46 rfl rfl ?_
        refine jb_iaload (pc' := 48) (i9 := s) (f := (Wc 2)) dX12_poem_47 rfl (jb_ix_nI (by omega)) (by omega) rfl ?_
        refine jb_top (v := .int ((Wc 2) s)) (w := .int (nI zs)) (jb_vI (by rw [g2 2 (by decide) (by decide)]; exact h2s)) ?_
        refine jb_icmp_ge (tgt := 152) (pc' := 51) dX12_poem_48 (by decide) rfl (fun z => absurd z (nI_ge (a := i + 1) (b := zs) (by omega) (by omega))) (fun _ => ?_)
        refine jb_aload_n (pc' := 52) dX12_poem_51 rfl rfl ?_
        refine gf_X12_242 (pc' := 55) (v := .int (Ic 2)) dX12_poem_52 rfl rfl rfl ?_
        refine jb_top (v := .int (Ic 2)) (w := .int (nI acc.length)) (jb_vI p1) ?_
        refine jb_bipush (pc' := 57) 12 dX12_poem_55 (by decide) rfl ?_
        refine jb_icmp_ge (tgt := 152) (pc' := 60) dX12_poem_57 (by decide) rfl (fun _ => ?_) (fun z => absurd (nI_le (a := 12) (b := acc.length) (by omega) (by omega)) z)
        refine jb_iconst (pc' := 153) (-1) dX12_poem_152 (by decide) rfl ?_
        refine jb_istore_ (pc' := 155) dX12_poem_153 (by decide) (jb_at4 rfl) rfl ?_
        refine jb_iconst (pc' := 156) 0 dX12_poem_155 (by decide) rfl ?_
        refine jb_istore_ (pc' := 158) dX12_poem_156 (by decide) (jb_at5 rfl) rfl ?_
        refine jb_bipush (pc' := 160) 40 dX12_poem_158 (by decide) rfl ?_
        refine jb_istore_ (pc' := 162) dX12_poem_160 (by decide) (jb_at6 rfl) rfl ?_
        rw [eG]
        refine jb_J.mono (l_poem1 Ic J d e kp nm Wc acc ⟨p1, p2, p3⟩ _ 41 0 (-1) _ (Nat.le_refl _) (Nat.zero_add _) (Or.inl ⟨rfl, fun h a b => absurd a (by omega)⟩)) (Nat.le_refl _) (Nat.le_refl _) (Nat.le_refl _) (fun r h9 hq => ?_)
        exact ⟨Ic, Wc, g1, g2, hq.2, hq.1.symm⟩
    · rw [if_neg (fun z => hi1 z.1)] at eG
      show jb_J _ RX12 cX12_poem 8 (Option.some .int) false 3 0 0 38 [some (.ref 105), some (.int (nI s)), some (.int 1), some (.int 0), some (.int (nI i)), x5, x6, none] [] [s0, s1, s2, s3, s4, s5, s6, s7, s8, s9, jb_mdl Ic J d e kp nm Wc, s11] _
      refine jb_iload (pc' := 40) dX12_poem_38 rfl rfl ?_
      refine jb_iconst (pc' := 41) 1 dX12_poem_40 (by decide) rfl ?_
      refine jb_iadd (pc' := 42) dX12_poem_41 rfl ?_
      refine jb_top (v := .int ((nI i) + 1)) (w := .int (nI (i + 1))) (jb_vI (nI_add _ 1)) ?_
      refine jb_aload_n (pc' := 43) dX12_poem_42 rfl rfl ?_
      refine gf_X12_28 (pc' := 46) (v := .ref 112) dX12_poem_43 rfl rfl rfl ?_
      refine jb_iload_n (pc' := 47) dX12_poem_46 rfl rfl ?_
      refine jb_iaload (pc' := 48) (i9 := s) (f := (Wc 2)) dX12_poem_47 rfl (jb_ix_nI (by omega)) (by omega) rfl ?_
      refine jb_top (v := .int ((Wc 2) s)) (w := .int (nI zs)) (jb_vI (by rw [g2 2 (by decide) (by decide)]; exact h2s)) ?_
      refine jb_icmp_ge (tgt := 152) (pc' := 51) dX12_poem_48 (by decide) rfl (fun _ => ?_) (fun z => absurd (nI_le (a := zs) (b := i + 1) (by omega) (by omega)) z)
      refine jb_iconst (pc' := 153) (-1) dX12_poem_152 (by decide) rfl ?_
      refine jb_istore_ (pc' := 155) dX12_poem_153 (by decide) (jb_at4 rfl) rfl ?_
      refine jb_iconst (pc' := 156) 0 dX12_poem_155 (by decide) rfl ?_
      refine jb_istore_ (pc' := 158) dX12_poem_156 (by decide) (jb_at5 rfl) rfl ?_
      refine jb_bipush (pc' := 160) 40 dX12_poem_158 (by decide) rfl ?_
      refine jb_istore_ (pc' := 162) dX12_poem_160 (by decide) (jb_at6 rfl) rfl ?_
      rw [eG]
      refine jb_J.mono (l_poem1 Ic J d e kp nm Wc acc ⟨p1, p2, p3⟩ _ 41 0 (-1) _ (Nat.le_refl _) (Nat.zero_add _) (Or.inl ⟨rfl, fun h a b => absurd a (by omega)⟩)) (Nat.le_refl _) (Nat.le_refl _) (Nat.le_refl _) (fun r h9 hq => ?_)
      exact ⟨Ic, Wc, g1, g2, hq.2, hq.1.symm⟩
set_option maxRecDepth 100000 in
set_option maxHeartbeats 4000000 in
theorem mx_poem1 {sc : Nat × (Nat → Int32)} {s0 s1 s2 s3 s4 s5 s6 s7 s8 s9 s11 : List va_E} (I J d e kp nm : Nat → Int32) (W : Nat → Nat → Int32) (s : Nat) (hs : s < 4) {bs zs : Nat} (h1s : W 1 s = nI bs) (h2s : W 2 s = nI zs) (hbs : bs ≤ 32) (hzs : zs ≤ 40) (hm : ¬ bs = 0) : jb_C sc yX12_poem cX12_poem 8 (Option.some .int) 3 0 0 [.ref 105, .int (nI s), .int 1] [s0, s1, s2, s3, s4, s5, s6, s7, s8, s9, jb_mdl I J d e kp nm W, s11] (fun r h9 => ∃ I9 W9, (∀ j, ¬ j = 2 → I9 j = I j) ∧ (∀ r, ¬ r = 7 → ¬ r = 8 → W9 r = W r) ∧ r = some (.int (nI (jy_n (jy_f (jy_ga (fun k => W 3 (40 * s + k)) zs zs 0 [])) 41))) ∧ h9 = [s0, s1, s2, s3, s4, s5, s6, s7, s8, s9, jb_mdl I9 J d e kp nm W9, s11]) := by
  refine jb_CofJ (ini := false) (by decide +kernel) (fun h => by cases h) (Nat.le_of_ble_eq_true rfl) ?_
  show jb_J sc RX12 cX12_poem 8 (Option.some .int) false 3 0 0 0 [some (.ref 105), some (.int (nI s)), some (.int 1), none, none, none, none, none] [] [s0, s1, s2, s3, s4, s5, s6, s7, s8, s9, jb_mdl I J d e kp nm W, s11] _
  refine jb_iload_n (pc' := 1) dX12_poem_0 rfl rfl ?_
  refine jb_i2l (pc' := 2) dX12_poem_1 rfl ?_
  refine jb_lconst (pc' := 3) 0 dX12_poem_2 (by decide) rfl ?_
  refine jb_lconst (pc' := 4) 1 dX12_poem_3 (by decide) rfl ?_
  refine jb_callS (pc' := 7) (As := [.long ((1 : Int32).toInt64), .long 0, .long 1]) (a2 := 0) (b2 := 0) wv_X12_56 dX12_poem_4 (c_inLG _ 1 0 1 (by omega) (by omega) (by omega)) rfl ⟨by decide, Nat.le_of_eq (Nat.zero_add _), Nat.le_of_eq (Nat.zero_add _)⟩ (Nat.le_of_ble_eq_true rfl) rfl (fun r h9 hq => ?_)
  obtain ⟨rfl, rfl⟩ := hq
  show jb_J _ RX12 cX12_poem 8 (Option.some .int) false 3 0 0 7 [some (.ref 105), some (.int (nI s)), some (.int 1), none, none, none, none, none] [.int 1] [s0, s1, s2, s3, s4, s5, s6, s7, s8, s9, jb_mdl I J d e kp nm W, s11] _
  refine jb_if_ne (tgt := 14) (pc' := 10) dX12_poem_7 (by decide) rfl (fun _ => ?_) (fun z => absurd z (by decide))
  refine jb_aload_n (pc' := 15) dX12_poem_14 rfl rfl ?_
  refine jb_iload_n (pc' := 16) dX12_poem_15 rfl rfl ?_
  refine jb_callV (pc' := 19) (ci := 12) (q := 105) (As := [.int (nI s)]) (a2 := 0) (b2 := 0) wv_X12_236 rfl dX12_poem_16 (c_whyNot I J d e kp nm W s hs h1s h2s hbs hzs) rfl rfl ⟨by decide, Nat.le_of_eq (Nat.zero_add _), Nat.le_of_eq (Nat.zero_add _)⟩ (Nat.le_of_ble_eq_true rfl) rfl (fun r h9 hq => ?_)
  rcases hq with ⟨rfl, ⟨hms, rfl⟩ | ⟨hms, rfl⟩⟩
  · exact absurd hms hm
  · show jb_J _ RX12 cX12_poem 8 (Option.some .int) false 3 0 0 19 [some (.ref 105), some (.int (nI s)), some (.int 1), none, none, none, none, none] [.int 0] [s0, s1, s2, s3, s4, s5, s6, s7, s8, s9, jb_mdl I J d e kp nm W, s11] _
    refine jb_istore_n_ (pc' := 20) dX12_poem_19 (by decide) (jb_at3 rfl) rfl ?_
    refine jb_iload_n (pc' := 21) dX12_poem_20 rfl rfl ?_
    refine jb_if_eq (tgt := 30) (pc' := 24) dX12_poem_21 (by decide) rfl (fun _ => ?_) (fun z => absurd (by decide) z)
    refine jb_aload_n (pc' := 31) dX12_poem_30 rfl rfl ?_
    refine jb_iconst (pc' := 32) 0 dX12_poem_31 (by decide) rfl ?_
    refine pf_X12_242 (pc' := 35) (h' := [s0, s1, s2, s3, s4, s5, s6, s7, s8, s9, jb_mdl (upd I 2 0) J d e kp nm W, s11]) dX12_poem_32 (fun _ => ⟨rfl, rfl⟩) rfl (Nat.le_of_ble_eq_true rfl) rfl rfl ?_
    refine jb_iconst (pc' := 36) 0 dX12_poem_35 (by decide) rfl ?_
    refine jb_istore_ (pc' := 38) dX12_poem_36 (by decide) (jb_at4 rfl) rfl ?_
    exact l_poemg1 I J d e kp nm W s hs zs h2s hzs zs 0 [] (upd I 2 0) W _ _ (by omega) (by omega) ⟨fun j hj => jb_une hj, fun _ _ _ => rfl⟩ ⟨rfl, ⟨by decide, fun j hj => absurd hj (Nat.not_lt_zero _)⟩, fun j hj => absurd hj (Nat.not_lt_zero _)⟩
