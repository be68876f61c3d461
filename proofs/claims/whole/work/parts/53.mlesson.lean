theorem jl_inc1 (y : Nat) : nI y - 1 + 1 = nI y := by
  cases y with
  | zero => decide
  | succ y => rw [nI_pred, nI_1]
theorem jl_dec1 (q : Nat) : nI q + Int32.ofInt (-1) = nI q - 1 := by
  cases q with
  | zero => decide
  | succ q => rw [nI_pred]; exact pk_m1 q
/-- an extension in which question q stands in second y or later -/
def jl_E (g last : Nat) (th : Nat → Nat) (k q : Nat) (A : Nat → Nat) (y : Nat) : Prop := ∃ x, y ≤ x ∧ x + g + th q ≤ last ∧ jl_fr g th q A x ∧ jl_X g last th k (q + 1) (jl_up A q x)
theorem jl_E0 {g last : Nat} {th : Nat → Nat} {k q : Nat} (hq : q < k) {A : Nat → Nat} : jl_E g last th k q A 0 ↔ jl_X g last th k q A := by
  rw [jl_X.step hq]
  constructor
  · rintro ⟨x, -, h⟩; exact ⟨x, h⟩
  · rintro ⟨x, h⟩; exact ⟨x, Nat.zero_le _, h⟩
/-- the largest of what is answered, 0 without questions -/
def jl_la (g : Nat) (acc : List Nat) (L : Nat) : Prop := (acc = [] ∧ L = 0) ∨ ∃ M, jl_mx M acc ∧ L = g + M
theorem jl_la.up {g : Nat} {acc : List Nat} {L v : Nat} (h : jl_la g acc L) (hv : L < g + v) : jl_la g (acc ++ [v]) (g + v) := by
  refine Or.inr ⟨v, ⟨by simp, fun t ht => ?_⟩, rfl⟩
  rcases List.mem_append.mp ht with e | e
  · rcases h with ⟨rfl, -⟩ | ⟨M, hM, rfl⟩
    · cases e
    · have := hM.2 t e; omega
  · rw [List.mem_singleton.mp e]
    exact Nat.le_refl _
theorem jl_la.st {g : Nat} (hg : 0 < g) {acc : List Nat} {L v : Nat} (h : jl_la g acc L) (hv : ¬ L < g + v) : jl_la g (acc ++ [v]) L := by
  rcases h with ⟨rfl, rfl⟩ | ⟨M, hM, rfl⟩
  · omega
  · refine Or.inr ⟨M, ⟨List.mem_append_left _ hM.1, fun t ht => ?_⟩, rfl⟩
    rcases List.mem_append.mp ht with e | e
    · exact hM.2 t e
    · rw [List.mem_singleton.mp e]; omega
theorem jl_gda {acc : List Nat} {v j : Nat} (h : j < acc.length) : (acc ++ [v]).getD j 0 = acc.getD j 0 := by simp only [List.getD, List.getElem?_append_left h]
theorem jl_gde {acc : List Nat} {v : Nat} : (acc ++ [v]).getD acc.length 0 = v := by simp [List.getD]
theorem jl_la.le {g : Nat} {acc : List Nat} {L : Nat} (h : jl_la g acc L) (h20 : ∀ t, t ∈ acc → t ≤ 20) : L ≤ g + 20 := by
  rcases h with ⟨-, rfl⟩ | ⟨M, hM, rfl⟩
  · omega
  · have := h20 M hM.1; omega
set_option maxRecDepth 100000 in
set_option maxHeartbeats 4000000 in
theorem l_fitsAt {sc : Nat × (Nat → Int32)} {s0 s1 s2 s3 s4 s5 s6 s7 s8 s9 s11 : List va_E} (I J d e kp nm : Nat → Int32) (W : Nat → Nat → Int32) {V : Nat → Nat → Nat} (hd : jd_ V d) (hk : jv_ok V) (g : Nat) (hgg : 2 * (V 0 4 + V 0 5) = g) (last k : Nat) (th : Nat → Nat) (hl : last ≤ 200) (hk5 : k ≤ 5) (hth : ∀ j, j < k → th j ≤ 20) (q : Nat) (hq : q < k) (A : Nat → Nat) (x : Nat) (hx : x ≤ 200) (hT : (∀ j, j < k → W 5 j = nI (th j))) (hA : (∀ j, j < q → W 6 j = nI (A j) ∧ A j ≤ 200)) : ∀ (n i : Nat) (x5 : Option Value), i + n = q → (∀ j, j < i → jl_c g (A j) (th j) x (th q)) → jb_J sc RX12 cX12_fitsAt 6 (Option.some .boolean) false 1 0 0 19 [some (.ref 105), some (.int (nI q)), some (.int (nI x)), some (.int (nI (x + g + th q))), some (.int (nI i)), x5] [] [s0, s1, s2, s3, s4, s5, s6, s7, s8, s9, jb_mdl I J d e kp nm W, s11] (fun r h9 => [s0, s1, s2, s3, s4, s5, s6, s7, s8, s9, jb_mdl I J d e kp nm W, s11] = h9 ∧ ((jl_fr g th q A x ∧ r = some (.int 1)) ∨ (¬ jl_fr g th q A x ∧ r = some (.int 0)))) := by
  have hd0 := hd
  have hk0 := hk
  have b4 := hk.2.2.2.2.2.1
  have b5 := hk.2.2.2.2.2.2.1
  have htq := hth q hq
  intro n
  induction n with
  | zero =>
    intro i x5 hi hc
    show jb_J _ RX12 cX12_fitsAt 6 (Option.some .boolean) false 1 0 0 19 [some (.ref 105), some (.int (nI q)), some (.int (nI x)), some (.int (nI (x + g + th q))), some (.int (nI i)), x5] [] [s0, s1, s2, s3, s4, s5, s6, s7, s8, s9, jb_mdl I J d e kp nm W, s11] _
    refine jb_iload (pc' := 21) dX12_fitsAt_19 rfl rfl ?_
    refine jb_iload_n (pc' := 22) dX12_fitsAt_21 rfl rfl ?_
    refine jb_icmp_ge (tgt := 91) (pc' := 25) dX12_fitsAt_22 (by decide) rfl (fun _ => ?_) (fun z => absurd (nI_le (a := q) (b := i) (by omega) (by omega)) z)
    refine jb_iconst (pc' := 92) 1 dX12_fitsAt_91 (by decide) rfl ?_
    refine jb_iret dX12_fitsAt_92 rfl ?_
    exact ⟨rfl, Or.inl ⟨fun j hj => hc j (by omega), rfl⟩⟩
  | succ n ih =>
    intro i x5 hi hc
    have a1 := hA i (by omega)
    have a2 := hth i (by omega)
    show jb_J _ RX12 cX12_fitsAt 6 (Option.some .boolean) false 1 0 0 19 [some (.ref 105), some (.int (nI q)), some (.int (nI x)), some (.int (nI (x + g + th q))), some (.int (nI i)), x5] [] [s0, s1, s2, s3, s4, s5, s6, s7, s8, s9, jb_mdl I J d e kp nm W, s11] _
    refine jb_iload (pc' := 21) dX12_fitsAt_19 rfl rfl ?_
    refine jb_iload_n (pc' := 22) dX12_fitsAt_21 rfl rfl ?_
    refine jb_icmp_ge (tgt := 91) (pc' := 25) dX12_fitsAt_22 (by decide) rfl (fun z => absurd z (nI_ge (a := i) (b := q) (by omega) (by omega))) (fun _ => ?_)
    refine jb_aload_n (pc' := 26) dX12_fitsAt_25 rfl rfl ?_
    refine gf_X12_40 (pc' := 29) (v := .ref 116) dX12_fitsAt_26 rfl rfl rfl ?_
    refine jb_iload (pc' := 31) dX12_fitsAt_29 rfl rfl ?_
    refine jb_iaload (pc' := 32) (i9 := i) (f := (W 6)) dX12_fitsAt_31 rfl (jb_ix_nI (by omega)) (by omega) rfl ?_
    refine jb_top (v := .int ((W 6) i)) (w := .int (nI (A i))) (jb_vI (hA i (by omega)).1) ?_
    refine jb_iconst (pc' := 33) 2 dX12_fitsAt_32 (by decide) rfl ?_
    refine jb_aload_n (pc' := 34) dX12_fitsAt_33 rfl rfl ?_
    refine jb_callV (pc' := 37) (ci := 12) (q := 105) (As := []) (a2 := 0) (b2 := 0) wv_X12_171 rfl dX12_fitsAt_34 (c_gapm I J d e kp nm W hd0 hk0) rfl rfl ⟨by decide, Nat.le_of_eq (Nat.zero_add _), Nat.le_of_eq (Nat.zero_add _)⟩ (Nat.le_of_ble_eq_true rfl) rfl (fun r h9 hq => ?_)
    obtain ⟨rfl, rfl⟩ := hq
    show jb_J _ RX12 cX12_fitsAt 6 (Option.some .boolean) false 1 0 0 37 [some (.ref 105), some (.int (nI q)), some (.int (nI x)), some (.int (nI (x + g + th q))), some (.int (nI i)), x5] [.int (nI (V 0 4 + V 0 5)), .int 2, .int (nI (A i))] [s0, s1, s2, s3, s4, s5, s6, s7, s8, s9, jb_mdl I J d e kp nm W, s11] _
    refine jb_imul (pc' := 38) dX12_fitsAt_37 rfl ?_
    refine jb_top (v := .int (2 * (nI (V 0 4 + V 0 5)))) (w := .int (nI g)) (jb_vI (by rw [← hgg]; exact pk_mul 2 _)) ?_
    refine jb_iadd (pc' := 39) dX12_fitsAt_38 rfl ?_
    refine jb_top (v := .int ((nI (A i)) + (nI g))) (w := .int (nI (A i + g))) (jb_vI (nI_add _ _)) ?_
    refine jb_aload_n (pc' := 40) dX12_fitsAt_39 rfl rfl ?_
    refine gf_X12_37 (pc' := 43) (v := .ref 115) dX12_fitsAt_40 rfl rfl rfl ?_
    refine jb_iload (pc' := 45) dX12_fitsAt_43 rfl rfl ?_
    refine jb_iaload (pc' := 46) (i9 := i) (f := (W 5)) dX12_fitsAt_45 rfl (jb_ix_nI (by omega)) (by omega) rfl ?_
    refine jb_top (v := .int ((W 5) i)) (w := .int (nI (th i))) (jb_vI (hT i (by omega))) ?_
    refine jb_iadd (pc' := 47) dX12_fitsAt_46 rfl ?_
    refine jb_top (v := .int ((nI (A i + g)) + (nI (th i)))) (w := .int (nI (A i + g + (th i)))) (jb_vI (nI_add _ _)) ?_
    refine jb_istore_ (pc' := 49) dX12_fitsAt_47 (by decide) (jb_at5 rfl) rfl ?_
    refine jb_aload_n (pc' := 50) dX12_fitsAt_49 rfl rfl ?_
    refine gf_X12_40 (pc' := 53) (v := .ref 116) dX12_fitsAt_50 rfl rfl rfl ?_
    refine jb_iload (pc' := 55) dX12_fitsAt_53 rfl rfl ?_
    refine jb_iaload (pc' := 56) (i9 := i) (f := (W 6)) dX12_fitsAt_55 rfl (jb_ix_nI (by omega)) (by omega) rfl ?_
    refine jb_top (v := .int ((W 6) i)) (w := .int (nI (A i))) (jb_vI (hA i (by omega)).1) ?_
    refine jb_iload_n (pc' := 57) dX12_fitsAt_56 rfl rfl ?_
    refine jb_icmp_eq (tgt := 83) (pc' := 60) dX12_fitsAt_57 (by decide) rfl (fun c2 => ?_) (fun c2 => ?_)
    · have c2 : (A i) = x := (nI_eq (a := (A i)) (b := x) (by omega) (by omega)).mp c2
      refine jb_iconst (pc' := 84) 0 dX12_fitsAt_83 (by decide) rfl ?_
      refine jb_iret dX12_fitsAt_84 rfl ?_
      exact ⟨rfl, Or.inr ⟨fun z => (by have z1 := z i (by omega); unfold jl_c at z1; omega), rfl⟩⟩
    · have c2 : ¬ (A i) = x := fun z9 => c2 ((nI_eq (a := (A i)) (b := x) (by omega) (by omega)).mpr z9)
      refine jb_iload (pc' := 62) dX12_fitsAt_60 rfl rfl ?_
      refine jb_iload_n (pc' := 63) dX12_fitsAt_62 rfl rfl ?_
      refine jb_icmp_eq (tgt := 83) (pc' := 66) dX12_fitsAt_63 (by decide) rfl (fun c3 => ?_) (fun c3 => ?_)
      · have c3 : (A i + g + (th i)) = (x + g + th q) := (nI_eq (a := (A i + g + (th i))) (b := (x + g + th q)) (by omega) (by omega)).mp c3
        refine jb_iconst (pc' := 84) 0 dX12_fitsAt_83 (by decide) rfl ?_
        refine jb_iret dX12_fitsAt_84 rfl ?_
        exact ⟨rfl, Or.inr ⟨fun z => (by have z1 := z i (by omega); unfold jl_c at z1; omega), rfl⟩⟩
      · have c3 : ¬ (A i + g + (th i)) = (x + g + th q) := fun z9 => c3 ((nI_eq (a := (A i + g + (th i))) (b := (x + g + th q)) (by omega) (by omega)).mpr z9)
        refine jb_iload (pc' := 68) dX12_fitsAt_66 rfl rfl ?_
        refine jb_iload_n (pc' := 69) dX12_fitsAt_68 rfl rfl ?_
        refine jb_icmp_eq (tgt := 83) (pc' := 72) dX12_fitsAt_69 (by decide) rfl (fun c4 => ?_) (fun c4 => ?_)
        · have c4 : (A i + g + (th i)) = x := (nI_eq (a := (A i + g + (th i))) (b := x) (by omega) (by omega)).mp c4
          refine jb_iconst (pc' := 84) 0 dX12_fitsAt_83 (by decide) rfl ?_
          refine jb_iret dX12_fitsAt_84 rfl ?_
          exact ⟨rfl, Or.inr ⟨fun z => (by have z1 := z i (by omega); unfold jl_c at z1; omega), rfl⟩⟩
        · have c4 : ¬ (A i + g + (th i)) = x := fun z9 => c4 ((nI_eq (a := (A i + g + (th i))) (b := x) (by omega) (by omega)).mpr z9)
          refine jb_aload_n (pc' := 73) dX12_fitsAt_72 rfl rfl ?_
          refine gf_X12_40 (pc' := 76) (v := .ref 116) dX12_fitsAt_73 rfl rfl rfl ?_
          refine jb_iload (pc' := 78) dX12_fitsAt_76 rfl rfl ?_
          refine jb_iaload (pc' := 79) (i9 := i) (f := (W 6)) dX12_fitsAt_78 rfl (jb_ix_nI (by omega)) (by omega) rfl ?_
          refine jb_top (v := .int ((W 6) i)) (w := .int (nI (A i))) (jb_vI (hA i (by omega)).1) ?_
          refine jb_iload_n (pc' := 80) dX12_fitsAt_79 rfl rfl ?_
          refine jb_icmp_ne (tgt := 85) (pc' := 83) dX12_fitsAt_80 (by decide) rfl (fun c5 => ?_) (fun c5 => ?_)
          · have c5 : ¬ (A i) = (x + g + th q) := fun z9 => c5 ((nI_eq (a := (A i)) (b := (x + g + th q)) (by omega) (by omega)).mpr z9)
            refine jb_iinc_ (pc' := 88) (nI (i + 1)) dX12_fitsAt_85 (by decide) rfl (jb_inc i 1) (jb_at4 rfl) rfl ?_
            refine jb_goto (pc' := 19) dX12_fitsAt_88 (by decide) ?_
            exact ih (i + 1) _ (by omega) (fun j hj => by
              by_cases e : j = i
              · rw [e]; unfold jl_c; omega
              · exact hc j (by omega))
          · have c5 : (A i) = (x + g + th q) := (nI_eq (a := (A i)) (b := (x + g + th q)) (by omega) (by omega)).mp c5
            refine jb_iconst (pc' := 84) 0 dX12_fitsAt_83 (by decide) rfl ?_
            refine jb_iret dX12_fitsAt_84 rfl ?_
            exact ⟨rfl, Or.inr ⟨fun z => (by have z1 := z i (by omega); unfold jl_c at z1; omega), rfl⟩⟩
set_option maxRecDepth 100000 in
set_option maxHeartbeats 4000000 in
theorem c_fitsAt {sc : Nat × (Nat → Int32)} {s0 s1 s2 s3 s4 s5 s6 s7 s8 s9 s11 : List va_E} (I J d e kp nm : Nat → Int32) (W : Nat → Nat → Int32) {V : Nat → Nat → Nat} (hd : jd_ V d) (hk : jv_ok V) (g : Nat) (hgg : 2 * (V 0 4 + V 0 5) = g) (last k : Nat) (th : Nat → Nat) (hl : last ≤ 200) (hk5 : k ≤ 5) (hth : ∀ j, j < k → th j ≤ 20) (q : Nat) (hq : q < k) (A : Nat → Nat) (x : Nat) (hx : x ≤ 200) (hT : (∀ j, j < k → W 5 j = nI (th j))) (hA : (∀ j, j < q → W 6 j = nI (A j) ∧ A j ≤ 200)) : jb_C sc yX12_fitsAt cX12_fitsAt 6 (Option.some .boolean) 1 0 0 [.ref 105, .int (nI q), .int (nI x)] [s0, s1, s2, s3, s4, s5, s6, s7, s8, s9, jb_mdl I J d e kp nm W, s11] (fun r h9 => [s0, s1, s2, s3, s4, s5, s6, s7, s8, s9, jb_mdl I J d e kp nm W, s11] = h9 ∧ ((jl_fr g th q A x ∧ r = some (.int 1)) ∨ (¬ jl_fr g th q A x ∧ r = some (.int 0)))) := by
  refine jb_CofJ (ini := false) (by decide +kernel) (fun h => by cases h) (Nat.le_of_ble_eq_true rfl) ?_
  show jb_J sc RX12 cX12_fitsAt 6 (Option.some .boolean) false 1 0 0 0 [some (.ref 105), some (.int (nI q)), some (.int (nI x)), none, none, none] [] [s0, s1, s2, s3, s4, s5, s6, s7, s8, s9, jb_mdl I J d e kp nm W, s11] _
  have hd0 := hd
  have hk0 := hk
  have b4 := hk.2.2.2.2.2.1
  have b5 := hk.2.2.2.2.2.2.1
  refine jb_iload_n (pc' := 1) dX12_fitsAt_0 rfl rfl ?_
  refine jb_iconst (pc' := 2) 2 dX12_fitsAt_1 (by decide) rfl ?_
  refine jb_aload_n (pc' := 3) dX12_fitsAt_2 rfl rfl ?_
  refine jb_callV (pc' := 6) (ci := 12) (q := 105) (As := []) (a2 := 0) (b2 := 0) wv_X12_171 rfl dX12_fitsAt_3 (c_gapm I J d e kp nm W hd0 hk0) rfl rfl ⟨by decide, Nat.le_of_eq (Nat.zero_add _), Nat.le_of_eq (Nat.zero_add _)⟩ (Nat.le_of_ble_eq_true rfl) rfl (fun r h9 hq => ?_)
  obtain ⟨rfl, rfl⟩ := hq
  show jb_J _ RX12 cX12_fitsAt 6 (Option.some .boolean) false 1 0 0 6 [some (.ref 105), some (.int (nI q)), some (.int (nI x)), none, none, none] [.int (nI (V 0 4 + V 0 5)), .int 2, .int (nI x)] [s0, s1, s2, s3, s4, s5, s6, s7, s8, s9, jb_mdl I J d e kp nm W, s11] _
  refine jb_imul (pc' := 7) dX12_fitsAt_6 rfl ?_
  refine jb_top (v := .int (2 * (nI (V 0 4 + V 0 5)))) (w := .int (nI g)) (jb_vI (by rw [← hgg]; exact pk_mul 2 _)) ?_
  refine jb_iadd (pc' := 8) dX12_fitsAt_7 rfl ?_
  refine jb_top (v := .int ((nI x) + (nI g))) (w := .int (nI (x + g))) (jb_vI (nI_add _ _)) ?_
  refine jb_aload_n (pc' := 9) dX12_fitsAt_8 rfl rfl ?_
  refine gf_X12_37 (pc' := 12) (v := .ref 115) dX12_fitsAt_9 rfl rfl rfl ?_
  refine jb_iload_n (pc' := 13) dX12_fitsAt_12 rfl rfl ?_
  refine jb_iaload (pc' := 14) (i9 := q) (f := (W 5)) dX12_fitsAt_13 rfl (jb_ix_nI (by omega)) (by omega) rfl ?_
  refine jb_top (v := .int ((W 5) q)) (w := .int (nI (th q))) (jb_vI (hT q (by omega))) ?_
  refine jb_iadd (pc' := 15) dX12_fitsAt_14 rfl ?_
  refine jb_top (v := .int ((nI (x + g)) + (nI (th q)))) (w := .int (nI (x + g + (th q)))) (jb_vI (nI_add _ _)) ?_
  refine jb_istore_n_ (pc' := 16) dX12_fitsAt_15 (by decide) (jb_at3 rfl) rfl ?_
  refine jb_iconst (pc' := 17) 0 dX12_fitsAt_16 (by decide) rfl ?_
  refine jb_istore_ (pc' := 19) dX12_fitsAt_17 (by decide) (jb_at4 rfl) rfl ?_
  exact l_fitsAt I J d e kp nm W hd0 hk0 g hgg last k th hl hk5 hth q hq A x hx hT hA q 0 _ (by omega) (fun j hj => absurd hj (by omega))
set_option maxRecDepth 100000 in
set_option maxHeartbeats 4000000 in
theorem l_nextFor {sc : Nat × (Nat → Int32)} {s0 s1 s2 s3 s4 s5 s6 s7 s8 s9 s11 : List va_E} (I J d e kp nm : Nat → Int32) (W : Nat → Nat → Int32) {V : Nat → Nat → Nat} (hd : jd_ V d) (hk : jv_ok V) (g : Nat) (hgg : 2 * (V 0 4 + V 0 5) = g) (last k : Nat) (th : Nat → Nat) (hl : last ≤ 200) (hk5 : k ≤ 5) (hth : ∀ j, j < k → th j ≤ 20) (q : Nat) (hq : q < k) (A : Nat → Nat) (y : Nat) (hT : (∀ j, j < k → W 5 j = nI (th j))) (hA : (∀ j, j < q → W 6 j = nI (A j) ∧ A j ≤ 200)) : ∀ (n x : Nat), x + n = last + 1 → y ≤ x → (∀ x9, y ≤ x9 → x9 < x → ¬ jl_fr g th q A x9) → jb_J sc RX12 cX12_nextFor 4 (Option.some .int) false 2 0 0 9 [some (.ref 105), some (.int (nI q)), some (.int (nI last)), some (.int (nI x))] [] [s0, s1, s2, s3, s4, s5, s6, s7, s8, s9, jb_mdl I J d e kp nm W, s11] (fun r h9 => [s0, s1, s2, s3, s4, s5, s6, s7, s8, s9, jb_mdl I J d e kp nm W, s11] = h9 ∧ ((∃ x, y ≤ x ∧ x + g + th q ≤ last ∧ jl_fr g th q A x ∧ (∀ x9, y ≤ x9 → x9 < x → ¬ jl_fr g th q A x9) ∧ r = some (.int (nI x))) ∨ ((∀ x, y ≤ x → x + g + th q ≤ last → ¬ jl_fr g th q A x) ∧ r = some (.int (-1))))) := by
  have hd0 := hd
  have hk0 := hk
  have b4 := hk.2.2.2.2.2.1
  have b5 := hk.2.2.2.2.2.2.1
  have htq := hth q hq
  intro n
  induction n with
  | zero =>
    intro x hx hyx hno
    show jb_J _ RX12 cX12_nextFor 4 (Option.some .int) false 2 0 0 9 [some (.ref 105), some (.int (nI q)), some (.int (nI last)), some (.int (nI x))] [] [s0, s1, s2, s3, s4, s5, s6, s7, s8, s9, jb_mdl I J d e kp nm W, s11] _
    refine jb_iload_n (pc' := 10) dX12_nextFor_9 rfl rfl ?_
    refine jb_iconst (pc' := 11) 2 dX12_nextFor_10 (by decide) rfl ?_
    refine jb_aload_n (pc' := 12) dX12_nextFor_11 rfl rfl ?_
    refine jb_callV (pc' := 15) (ci := 12) (q := 105) (As := []) (a2 := 0) (b2 := 0) wv_X12_171 rfl dX12_nextFor_12 (c_gapm I J d e kp nm W hd0 hk0) rfl rfl ⟨by decide, Nat.le_of_eq (Nat.zero_add _), Nat.le_of_eq (Nat.zero_add _)⟩ (Nat.le_of_ble_eq_true rfl) rfl (fun r h9 hq => ?_)
    obtain ⟨rfl, rfl⟩ := hq
    show jb_J _ RX12 cX12_nextFor 4 (Option.some .int) false 2 0 0 15 [some (.ref 105), some (.int (nI q)), some (.int (nI last)), some (.int (nI x))] [.int (nI (V 0 4 + V 0 5)), .int 2, .int (nI x)] [s0, s1, s2, s3, s4, s5, s6, s7, s8, s9, jb_mdl I J d e kp nm W, s11] _
    refine jb_imul (pc' := 16) dX12_nextFor_15 rfl ?_
    refine jb_top (v := .int (2 * (nI (V 0 4 + V 0 5)))) (w := .int (nI g)) (jb_vI (by rw [← hgg]; exact pk_mul 2 _)) ?_
    refine jb_iadd (pc' := 17) dX12_nextFor_16 rfl ?_
    refine jb_top (v := .int ((nI x) + (nI g))) (w := .int (nI (x + g))) (jb_vI (nI_add _ _)) ?_
    refine jb_aload_n (pc' := 18) dX12_nextFor_17 rfl rfl ?_
    refine gf_X12_37 (pc' := 21) (v := .ref 115) dX12_nextFor_18 rfl rfl rfl ?_
    refine jb_iload_n (pc' := 22) dX12_nextFor_21 rfl rfl ?_
    refine jb_iaload (pc' := 23) (i9 := q) (f := (W 5)) dX12_nextFor_22 rfl (jb_ix_nI (by omega)) (by omega) rfl ?_
    refine jb_top (v := .int ((W 5) q)) (w := .int (nI (th q))) (jb_vI (hT q (by omega))) ?_
    refine jb_iadd (pc' := 24) dX12_nextFor_23 rfl ?_
    refine jb_top (v := .int ((nI (x + g)) + (nI (th q)))) (w := .int (nI (x + g + (th q)))) (jb_vI (nI_add _ _)) ?_
    refine jb_iload_n (pc' := 25) dX12_nextFor_24 rfl rfl ?_
    refine jb_icmp_gt (tgt := 45) (pc' := 28) dX12_nextFor_25 (by decide) rfl (fun _ => ?_) (fun z => absurd (nI_lt (a := last) (b := x + g + th q) (by omega) (by omega)) z)
    refine jb_iconst (pc' := 46) (-1) dX12_nextFor_45 (by decide) rfl ?_
    refine jb_iret dX12_nextFor_46 rfl ?_
    exact ⟨rfl, Or.inr ⟨fun x9 h1 h2 => hno x9 h1 (by omega), rfl⟩⟩
  | succ n ih =>
    intro x hx hyx hno
    show jb_J _ RX12 cX12_nextFor 4 (Option.some .int) false 2 0 0 9 [some (.ref 105), some (.int (nI q)), some (.int (nI last)), some (.int (nI x))] [] [s0, s1, s2, s3, s4, s5, s6, s7, s8, s9, jb_mdl I J d e kp nm W, s11] _
    refine jb_iload_n (pc' := 10) dX12_nextFor_9 rfl rfl ?_
    refine jb_iconst (pc' := 11) 2 dX12_nextFor_10 (by decide) rfl ?_
    refine jb_aload_n (pc' := 12) dX12_nextFor_11 rfl rfl ?_
    refine jb_callV (pc' := 15) (ci := 12) (q := 105) (As := []) (a2 := 0) (b2 := 0) wv_X12_171 rfl dX12_nextFor_12 (c_gapm I J d e kp nm W hd0 hk0) rfl rfl ⟨by decide, Nat.le_of_eq (Nat.zero_add _), Nat.le_of_eq (Nat.zero_add _)⟩ (Nat.le_of_ble_eq_true rfl) rfl (fun r h9 hq => ?_)
    obtain ⟨rfl, rfl⟩ := hq
    show jb_J _ RX12 cX12_nextFor 4 (Option.some .int) false 2 0 0 15 [some (.ref 105), some (.int (nI q)), some (.int (nI last)), some (.int (nI x))] [.int (nI (V 0 4 + V 0 5)), .int 2, .int (nI x)] [s0, s1, s2, s3, s4, s5, s6, s7, s8, s9, jb_mdl I J d e kp nm W, s11] _
    refine jb_imul (pc' := 16) dX12_nextFor_15 rfl ?_
    refine jb_top (v := .int (2 * (nI (V 0 4 + V 0 5)))) (w := .int (nI g)) (jb_vI (by rw [← hgg]; exact pk_mul 2 _)) ?_
    refine jb_iadd (pc' := 17) dX12_nextFor_16 rfl ?_
    refine jb_top (v := .int ((nI x) + (nI g))) (w := .int (nI (x + g))) (jb_vI (nI_add _ _)) ?_
    refine jb_aload_n (pc' := 18) dX12_nextFor_17 rfl rfl ?_
    refine gf_X12_37 (pc' := 21) (v := .ref 115) dX12_nextFor_18 rfl rfl rfl ?_
    refine jb_iload_n (pc' := 22) dX12_nextFor_21 rfl rfl ?_
    refine jb_iaload (pc' := 23) (i9 := q) (f := (W 5)) dX12_nextFor_22 rfl (jb_ix_nI (by omega)) (by omega) rfl ?_
    refine jb_top (v := .int ((W 5) q)) (w := .int (nI (th q))) (jb_vI (hT q (by omega))) ?_
    refine jb_iadd (pc' := 24) dX12_nextFor_23 rfl ?_
    refine jb_top (v := .int ((nI (x + g)) + (nI (th q)))) (w := .int (nI (x + g + (th q)))) (jb_vI (nI_add _ _)) ?_
    refine jb_iload_n (pc' := 25) dX12_nextFor_24 rfl rfl ?_
    refine jb_icmp_gt (tgt := 45) (pc' := 28) dX12_nextFor_25 (by decide) rfl (fun c1 => ?_) (fun c1 => ?_)
    · have c1 : last < (x + g + (th q)) := (nI_ltI (a := last) (b := (x + g + (th q))) (by omega) (by omega)).mp c1
      refine jb_iconst (pc' := 46) (-1) dX12_nextFor_45 (by decide) rfl ?_
      refine jb_iret dX12_nextFor_46 rfl ?_
      exact ⟨rfl, Or.inr ⟨fun x9 h1 h2 => hno x9 h1 (by omega), rfl⟩⟩
    · have c1 : ¬ last < (x + g + (th q)) := fun z9 => c1 ((nI_ltI (a := last) (b := (x + g + (th q))) (by omega) (by omega)).mpr z9)
      refine jb_aload_n (pc' := 29) dX12_nextFor_28 rfl rfl ?_
      refine jb_iload_n (pc' := 30) dX12_nextFor_29 rfl rfl ?_
      refine jb_iload_n (pc' := 31) dX12_nextFor_30 rfl rfl ?_
      refine jb_callV (pc' := 34) (ci := 12) (q := 105) (As := [.int (nI q), .int (nI x)]) (a2 := 0) (b2 := 0) wv_X12_226 rfl dX12_nextFor_31 (c_fitsAt I J d e kp nm W hd0 hk0 g hgg last k th hl hk5 hth q hq A x (by omega) hT hA) rfl rfl ⟨by decide, Nat.le_of_eq (Nat.zero_add _), Nat.le_of_eq (Nat.zero_add _)⟩ (Nat.le_of_ble_eq_true rfl) rfl (fun r h9 hq => ?_)
      rcases hq with ⟨rfl, ⟨hfr, rfl⟩ | ⟨hfr, rfl⟩⟩
      · show jb_J _ RX12 cX12_nextFor 4 (Option.some .int) false 2 0 0 34 [some (.ref 105), some (.int (nI q)), some (.int (nI last)), some (.int (nI x))] [.int 1] [s0, s1, s2, s3, s4, s5, s6, s7, s8, s9, jb_mdl I J d e kp nm W, s11] _
        refine jb_if_eq (tgt := 39) (pc' := 37) dX12_nextFor_34 (by decide) rfl (fun z => absurd z (by decide)) (fun _ => ?_)
        refine jb_iload_n (pc' := 38) dX12_nextFor_37 rfl rfl ?_
        refine jb_iret dX12_nextFor_38 rfl ?_
        exact ⟨rfl, Or.inl ⟨x, hyx, by omega, hfr, hno, rfl⟩⟩
      · show jb_J _ RX12 cX12_nextFor 4 (Option.some .int) false 2 0 0 34 [some (.ref 105), some (.int (nI q)), some (.int (nI last)), some (.int (nI x))] [.int 0] [s0, s1, s2, s3, s4, s5, s6, s7, s8, s9, jb_mdl I J d e kp nm W, s11] _
        refine jb_if_eq (tgt := 39) (pc' := 37) dX12_nextFor_34 (by decide) rfl (fun _ => ?_) (fun z => absurd (by decide) z)
        refine jb_iinc_ (pc' := 42) (nI (x + 1)) dX12_nextFor_39 (by decide) rfl (jb_inc x 1) (jb_at3 rfl) rfl ?_
        refine jb_goto (pc' := 9) dX12_nextFor_42 (by decide) ?_
        exact ih (x + 1) (by omega) (by omega) (fun x9 h1 h2 => by
          by_cases e : x9 = x
          · rw [e]; exact hfr
          · exact hno x9 h1 (by omega))
set_option maxRecDepth 100000 in
set_option maxHeartbeats 4000000 in
theorem c_nextFor {sc : Nat × (Nat → Int32)} {s0 s1 s2 s3 s4 s5 s6 s7 s8 s9 s11 : List va_E} (I J d e kp nm : Nat → Int32) (W : Nat → Nat → Int32) {V : Nat → Nat → Nat} (hd : jd_ V d) (hk : jv_ok V) (g : Nat) (hgg : 2 * (V 0 4 + V 0 5) = g) (last k : Nat) (th : Nat → Nat) (hl : last ≤ 200) (hk5 : k ≤ 5) (hth : ∀ j, j < k → th j ≤ 20) (q : Nat) (hq : q < k) (A : Nat → Nat) (y : Nat) (hT : (∀ j, j < k → W 5 j = nI (th j))) (hA : (∀ j, j < q → W 6 j = nI (A j) ∧ A j ≤ 200)) (hy : W 6 q = nI y - 1) (hyl : y ≤ last + 1) : jb_C sc yX12_nextFor cX12_nextFor 4 (Option.some .int) 2 0 0 [.ref 105, .int (nI q), .int (nI last)] [s0, s1, s2, s3, s4, s5, s6, s7, s8, s9, jb_mdl I J d e kp nm W, s11] (fun r h9 => [s0, s1, s2, s3, s4, s5, s6, s7, s8, s9, jb_mdl I J d e kp nm W, s11] = h9 ∧ ((∃ x, y ≤ x ∧ x + g + th q ≤ last ∧ jl_fr g th q A x ∧ (∀ x9, y ≤ x9 → x9 < x → ¬ jl_fr g th q A x9) ∧ r = some (.int (nI x))) ∨ ((∀ x, y ≤ x → x + g + th q ≤ last → ¬ jl_fr g th q A x) ∧ r = some (.int (-1))))) := by
  refine jb_CofJ (ini := false) (by decide +kernel) (fun h => by cases h) (Nat.le_of_ble_eq_true rfl) ?_
  show jb_J sc RX12 cX12_nextFor 4 (Option.some .int) false 2 0 0 0 [some (.ref 105), some (.int (nI q)), some (.int (nI last)), none] [] [s0, s1, s2, s3, s4, s5, s6, s7, s8, s9, jb_mdl I J d e kp nm W, s11] _
  have hd0 := hd
  have hk0 := hk
  have b4 := hk.2.2.2.2.2.1
  have b5 := hk.2.2.2.2.2.2.1
  refine jb_aload_n (pc' := 1) dX12_nextFor_0 rfl rfl ?_
  refine gf_X12_40 (pc' := 4) (v := .ref 116) dX12_nextFor_1 rfl rfl rfl ?_
  refine jb_iload_n (pc' := 5) dX12_nextFor_4 rfl rfl ?_
  refine jb_iaload (pc' := 6) (i9 := q) (f := (W 6)) dX12_nextFor_5 rfl (jb_ix_nI (by omega)) (by omega) rfl ?_
  refine jb_top (v := .int ((W 6) q)) (w := .int (nI y - 1)) (jb_vI hy) ?_
  refine jb_iconst (pc' := 7) 1 dX12_nextFor_6 (by decide) rfl ?_
  refine jb_iadd (pc' := 8) dX12_nextFor_7 rfl ?_
  refine jb_top (v := .int ((nI y - 1) + 1)) (w := .int (nI y)) (jb_vI (jl_inc1 y)) ?_
  refine jb_istore_n_ (pc' := 9) dX12_nextFor_8 (by decide) (jb_at3 rfl) rfl ?_
  exact l_nextFor I J d e kp nm W hd0 hk0 g hgg last k th hl hk5 hth q hq A y hT hA (last + 1 - y) y (by omega) (Nat.le_refl _) (fun x9 h1 h2 => absurd h2 (by omega))
set_option maxRecDepth 100000 in
set_option maxHeartbeats 4000000 in
theorem l_fitsBy {sc : Nat × (Nat → Int32)} {s0 s1 s2 s3 s4 s5 s6 s7 s8 s9 s11 : List va_E} (I J d e kp nm : Nat → Int32) (W0 : Nat → Nat → Int32) {V : Nat → Nat → Nat} (hd : jd_ V d) (hk : jv_ok V) (g : Nat) (hgg : 2 * (V 0 4 + V 0 5) = g) (last k : Nat) (th : Nat → Nat) (hl : last ≤ 200) (hk5 : k ≤ 5) (hth : ∀ j, j < k → th j ≤ 20) (hT0 : (∀ j, j < k → W0 5 j = nI (th j))) (hI1 : I 1 = nI k) (Q : Option Value → jb_H → Prop) : ∀ (m : Nat), ∀ (q : Nat), q + (m + 1) = k → ∀ (n y : Nat), last + 1 ≤ y + n → y ≤ last + 1 → ∀ (A : Nat → Nat) (W : Nat → Nat → Int32) (x3 : Option Value), (∀ r, ¬ r = 6 → W r = W0 r) → (∀ j, j < q → W 6 j = nI (A j) ∧ A j ≤ 200) → W 6 q = nI y - 1 → (jl_E g last th k q A y → ∀ W9 : Nat → Nat → Int32, (∀ r, ¬ r = 6 → W9 r = W0 r) → Q (some (.int 1)) [s0, s1, s2, s3, s4, s5, s6, s7, s8, s9, jb_mdl I J d e kp nm W9, s11]) → (¬ jl_E g last th k q A y → ∀ (W9 : Nat → Nat → Int32) (x9 : Option Value), (∀ r, ¬ r = 6 → W9 r = W0 r) → (∀ j, j < q → W9 6 j = W 6 j) → jb_J sc RX12 cX12_fitsBy 4 (Option.some .boolean) false 3 0 0 9 [some (.ref 105), some (.int (nI last)), some (.int (nI q - 1)), x9] [] [s0, s1, s2, s3, s4, s5, s6, s7, s8, s9, jb_mdl I J d e kp nm W9, s11] Q) → jb_J sc RX12 cX12_fitsBy 4 (Option.some .boolean) false 3 0 0 9 [some (.ref 105), some (.int (nI last)), some (.int (nI q)), x3] [] [s0, s1, s2, s3, s4, s5, s6, s7, s8, s9, jb_mdl I J d e kp nm W, s11] Q := by
  have hd0 := hd
  have hk0 := hk
  have b4 := hk.2.2.2.2.2.1
  have b5 := hk.2.2.2.2.2.2.1
  intro m
  induction m with
  | zero =>
    intro q hqm n
    induction n with
    | zero =>
      intro y hn hyl A W x3 hf hA hy hret hback
      have hT : (∀ j, j < k → W 5 j = nI (th j)) := fun j hj => by rw [hf 5 (by decide)]; exact hT0 j hj
      show jb_J _ RX12 cX12_fitsBy 4 (Option.some .boolean) false 3 0 0 9 [some (.ref 105), some (.int (nI last)), some (.int (nI q)), x3] [] [s0, s1, s2, s3, s4, s5, s6, s7, s8, s9, jb_mdl I J d e kp nm W, s11] _
      refine jb_iload_n (pc' := 10) dX12_fitsBy_9 rfl rfl ?_
      refine jb_if_lt (tgt := 62) (pc' := 13) dX12_fitsBy_10 (by decide) rfl (fun z => absurd z (nI_pos (n := q) (by omega))) (fun _ => ?_)
      refine jb_aload_n (pc' := 14) dX12_fitsBy_13 rfl rfl ?_
      refine jb_iload_n (pc' := 15) dX12_fitsBy_14 rfl rfl ?_
      refine jb_iload_n (pc' := 16) dX12_fitsBy_15 rfl rfl ?_
      refine jb_callV (pc' := 19) (ci := 12) (q := 105) (As := [.int (nI q), .int (nI last)]) (a2 := 0) (b2 := 0) wv_X12_230 rfl dX12_fitsBy_16 (c_nextFor I J d e kp nm W hd0 hk0 g hgg last k th hl hk5 hth q (by omega) A y hT hA hy hyl) rfl rfl ⟨by decide, Nat.le_of_eq (Nat.zero_add _), Nat.le_of_eq (Nat.zero_add _)⟩ (Nat.le_of_ble_eq_true rfl) rfl (fun r h9 hq => ?_)
      rcases hq with ⟨rfl, ⟨x, g1, g2, g3, g4, rfl⟩ | ⟨g1, rfl⟩⟩
      · show jb_J _ RX12 cX12_fitsBy 4 (Option.some .boolean) false 3 0 0 19 [some (.ref 105), some (.int (nI last)), some (.int (nI q)), x3] [.int (nI x)] [s0, s1, s2, s3, s4, s5, s6, s7, s8, s9, jb_mdl I J d e kp nm W, s11] _
        refine jb_istore_n_ (pc' := 20) dX12_fitsBy_19 (by decide) (jb_at3 rfl) rfl ?_
        refine jb_aload_n (pc' := 21) dX12_fitsBy_20 rfl rfl ?_
        refine gf_X12_40 (pc' := 24) (v := .ref 116) dX12_fitsBy_21 rfl rfl rfl ?_
        refine jb_iload_n (pc' := 25) dX12_fitsBy_24 rfl rfl ?_
        refine jb_iload_n (pc' := 26) dX12_fitsBy_25 rfl rfl ?_
        refine jb_iastore (pc' := 27) (i9 := q) (f := (W 6)) (h' := [s0, s1, s2, s3, s4, s5, s6, s7, s8, s9, jb_mdl I J d e kp nm (va_up W 6 (upd (W 6) q (nI x))), s11]) dX12_fitsBy_26 rfl (jb_ix_nI (by omega)) (by omega) rfl rfl ?_
        refine jb_iload_n (pc' := 28) dX12_fitsBy_27 rfl rfl ?_
        refine jb_if_ge (tgt := 37) (pc' := 31) dX12_fitsBy_28 (by decide) rfl (fun _ => ?_) (fun z => absurd (nI_pos' (n := x) (by omega)) z)
        refine jb_iload_n (pc' := 38) dX12_fitsBy_37 rfl rfl ?_
        refine jb_aload_n (pc' := 39) dX12_fitsBy_38 rfl rfl ?_
        refine gf_X12_233 (pc' := 42) (v := .int (I 1)) dX12_fitsBy_39 rfl rfl rfl ?_
        refine jb_top (v := .int (I 1)) (w := .int (nI k)) (jb_vI hI1) ?_
        refine jb_iconst (pc' := 43) 1 dX12_fitsBy_42 (by decide) rfl ?_
        refine jb_isub (pc' := 44) dX12_fitsBy_43 rfl ?_
        refine jb_icmp_ne (tgt := 49) (pc' := 47) dX12_fitsBy_44 (by decide) rfl (fun z => absurd (show nI q = nI k - 1 by rw [show k = q + 1 by omega, nI_pred]) z) (fun _ => ?_)
        refine jb_iconst (pc' := 48) 1 dX12_fitsBy_47 (by decide) rfl ?_
        refine jb_iret dX12_fitsBy_48 rfl ?_
        exact hret ⟨x, g1, g2, g3, jl_X.end (by omega) _⟩ (va_up W 6 (upd (W 6) q (nI x))) (fun r hr => (va_ne hr).trans (hf r hr))
      · show jb_J _ RX12 cX12_fitsBy 4 (Option.some .boolean) false 3 0 0 19 [some (.ref 105), some (.int (nI last)), some (.int (nI q)), x3] [.int (-1)] [s0, s1, s2, s3, s4, s5, s6, s7, s8, s9, jb_mdl I J d e kp nm W, s11] _
        refine jb_istore_n_ (pc' := 20) dX12_fitsBy_19 (by decide) (jb_at3 rfl) rfl ?_
        refine jb_aload_n (pc' := 21) dX12_fitsBy_20 rfl rfl ?_
        refine gf_X12_40 (pc' := 24) (v := .ref 116) dX12_fitsBy_21 rfl rfl rfl ?_
        refine jb_iload_n (pc' := 25) dX12_fitsBy_24 rfl rfl ?_
        refine jb_iload_n (pc' := 26) dX12_fitsBy_25 rfl rfl ?_
        refine jb_iastore (pc' := 27) (i9 := q) (f := (W 6)) (h' := [s0, s1, s2, s3, s4, s5, s6, s7, s8, s9, jb_mdl I J d e kp nm (va_up W 6 (upd (W 6) q (-1))), s11]) dX12_fitsBy_26 rfl (jb_ix_nI (by omega)) (by omega) rfl rfl ?_
        refine jb_iload_n (pc' := 28) dX12_fitsBy_27 rfl rfl ?_
        refine jb_if_ge (tgt := 37) (pc' := 31) dX12_fitsBy_28 (by decide) rfl (fun z => absurd z (by decide)) (fun _ => ?_)
        refine jb_iinc_ (pc' := 34) (nI q - 1) dX12_fitsBy_31 (by decide) rfl (jl_dec1 q) (jb_at2 rfl) rfl ?_
        refine jb_goto (pc' := 59) dX12_fitsBy_34 (by decide) ?_
        refine jb_goto (pc' := 9) dX12_fitsBy_59 (by decide) ?_
        exact hback (fun ⟨x9, z1, z2, z3, _⟩ => g1 x9 z1 z2 z3) (va_up W 6 (upd (W 6) q (-1))) _ (fun r hr => (va_ne hr).trans (hf r hr)) (fun j hj => jb_une (by omega))
    | succ n ihn =>
      intro y hn hyl A W x3 hf hA hy hret hback
      have hT : (∀ j, j < k → W 5 j = nI (th j)) := fun j hj => by rw [hf 5 (by decide)]; exact hT0 j hj
      show jb_J _ RX12 cX12_fitsBy 4 (Option.some .boolean) false 3 0 0 9 [some (.ref 105), some (.int (nI last)), some (.int (nI q)), x3] [] [s0, s1, s2, s3, s4, s5, s6, s7, s8, s9, jb_mdl I J d e kp nm W, s11] _
      refine jb_iload_n (pc' := 10) dX12_fitsBy_9 rfl rfl ?_
      refine jb_if_lt (tgt := 62) (pc' := 13) dX12_fitsBy_10 (by decide) rfl (fun z => absurd z (nI_pos (n := q) (by omega))) (fun _ => ?_)
      refine jb_aload_n (pc' := 14) dX12_fitsBy_13 rfl rfl ?_
      refine jb_iload_n (pc' := 15) dX12_fitsBy_14 rfl rfl ?_
      refine jb_iload_n (pc' := 16) dX12_fitsBy_15 rfl rfl ?_
      refine jb_callV (pc' := 19) (ci := 12) (q := 105) (As := [.int (nI q), .int (nI last)]) (a2 := 0) (b2 := 0) wv_X12_230 rfl dX12_fitsBy_16 (c_nextFor I J d e kp nm W hd0 hk0 g hgg last k th hl hk5 hth q (by omega) A y hT hA hy hyl) rfl rfl ⟨by decide, Nat.le_of_eq (Nat.zero_add _), Nat.le_of_eq (Nat.zero_add _)⟩ (Nat.le_of_ble_eq_true rfl) rfl (fun r h9 hq => ?_)
      rcases hq with ⟨rfl, ⟨x, g1, g2, g3, g4, rfl⟩ | ⟨g1, rfl⟩⟩
      · show jb_J _ RX12 cX12_fitsBy 4 (Option.some .boolean) false 3 0 0 19 [some (.ref 105), some (.int (nI last)), some (.int (nI q)), x3] [.int (nI x)] [s0, s1, s2, s3, s4, s5, s6, s7, s8, s9, jb_mdl I J d e kp nm W, s11] _
        refine jb_istore_n_ (pc' := 20) dX12_fitsBy_19 (by decide) (jb_at3 rfl) rfl ?_
        refine jb_aload_n (pc' := 21) dX12_fitsBy_20 rfl rfl ?_
        refine gf_X12_40 (pc' := 24) (v := .ref 116) dX12_fitsBy_21 rfl rfl rfl ?_
        refine jb_iload_n (pc' := 25) dX12_fitsBy_24 rfl rfl ?_
        refine jb_iload_n (pc' := 26) dX12_fitsBy_25 rfl rfl ?_
        refine jb_iastore (pc' := 27) (i9 := q) (f := (W 6)) (h' := [s0, s1, s2, s3, s4, s5, s6, s7, s8, s9, jb_mdl I J d e kp nm (va_up W 6 (upd (W 6) q (nI x))), s11]) dX12_fitsBy_26 rfl (jb_ix_nI (by omega)) (by omega) rfl rfl ?_
        refine jb_iload_n (pc' := 28) dX12_fitsBy_27 rfl rfl ?_
        refine jb_if_ge (tgt := 37) (pc' := 31) dX12_fitsBy_28 (by decide) rfl (fun _ => ?_) (fun z => absurd (nI_pos' (n := x) (by omega)) z)
        refine jb_iload_n (pc' := 38) dX12_fitsBy_37 rfl rfl ?_
        refine jb_aload_n (pc' := 39) dX12_fitsBy_38 rfl rfl ?_
        refine gf_X12_233 (pc' := 42) (v := .int (I 1)) dX12_fitsBy_39 rfl rfl rfl ?_
        refine jb_top (v := .int (I 1)) (w := .int (nI k)) (jb_vI hI1) ?_
        refine jb_iconst (pc' := 43) 1 dX12_fitsBy_42 (by decide) rfl ?_
        refine jb_isub (pc' := 44) dX12_fitsBy_43 rfl ?_
        refine jb_icmp_ne (tgt := 49) (pc' := 47) dX12_fitsBy_44 (by decide) rfl (fun z => absurd (show nI q = nI k - 1 by rw [show k = q + 1 by omega, nI_pred]) z) (fun _ => ?_)
        refine jb_iconst (pc' := 48) 1 dX12_fitsBy_47 (by decide) rfl ?_
        refine jb_iret dX12_fitsBy_48 rfl ?_
        exact hret ⟨x, g1, g2, g3, jl_X.end (by omega) _⟩ (va_up W 6 (upd (W 6) q (nI x))) (fun r hr => (va_ne hr).trans (hf r hr))
      · show jb_J _ RX12 cX12_fitsBy 4 (Option.some .boolean) false 3 0 0 19 [some (.ref 105), some (.int (nI last)), some (.int (nI q)), x3] [.int (-1)] [s0, s1, s2, s3, s4, s5, s6, s7, s8, s9, jb_mdl I J d e kp nm W, s11] _
        refine jb_istore_n_ (pc' := 20) dX12_fitsBy_19 (by decide) (jb_at3 rfl) rfl ?_
        refine jb_aload_n (pc' := 21) dX12_fitsBy_20 rfl rfl ?_
        refine gf_X12_40 (pc' := 24) (v := .ref 116) dX12_fitsBy_21 rfl rfl rfl ?_
        refine jb_iload_n (pc' := 25) dX12_fitsBy_24 rfl rfl ?_
        refine jb_iload_n (pc' := 26) dX12_fitsBy_25 rfl rfl ?_
        refine jb_iastore (pc' := 27) (i9 := q) (f := (W 6)) (h' := [s0, s1, s2, s3, s4, s5, s6, s7, s8, s9, jb_mdl I J d e kp nm (va_up W 6 (upd (W 6) q (-1))), s11]) dX12_fitsBy_26 rfl (jb_ix_nI (by omega)) (by omega) rfl rfl ?_
        refine jb_iload_n (pc' := 28) dX12_fitsBy_27 rfl rfl ?_
        refine jb_if_ge (tgt := 37) (pc' := 31) dX12_fitsBy_28 (by decide) rfl (fun z => absurd z (by decide)) (fun _ => ?_)
        refine jb_iinc_ (pc' := 34) (nI q - 1) dX12_fitsBy_31 (by decide) rfl (jl_dec1 q) (jb_at2 rfl) rfl ?_
        refine jb_goto (pc' := 59) dX12_fitsBy_34 (by decide) ?_
        refine jb_goto (pc' := 9) dX12_fitsBy_59 (by decide) ?_
        exact hback (fun ⟨x9, z1, z2, z3, _⟩ => g1 x9 z1 z2 z3) (va_up W 6 (upd (W 6) q (-1))) _ (fun r hr => (va_ne hr).trans (hf r hr)) (fun j hj => jb_une (by omega))
  | succ m ihm =>
    intro q hqm n
    induction n with
    | zero =>
      intro y hn hyl A W x3 hf hA hy hret hback
      have hT : (∀ j, j < k → W 5 j = nI (th j)) := fun j hj => by rw [hf 5 (by decide)]; exact hT0 j hj
      show jb_J _ RX12 cX12_fitsBy 4 (Option.some .boolean) false 3 0 0 9 [some (.ref 105), some (.int (nI last)), some (.int (nI q)), x3] [] [s0, s1, s2, s3, s4, s5, s6, s7, s8, s9, jb_mdl I J d e kp nm W, s11] _
      refine jb_iload_n (pc' := 10) dX12_fitsBy_9 rfl rfl ?_
      refine jb_if_lt (tgt := 62) (pc' := 13) dX12_fitsBy_10 (by decide) rfl (fun z => absurd z (nI_pos (n := q) (by omega))) (fun _ => ?_)
      refine jb_aload_n (pc' := 14) dX12_fitsBy_13 rfl rfl ?_
      refine jb_iload_n (pc' := 15) dX12_fitsBy_14 rfl rfl ?_
      refine jb_iload_n (pc' := 16) dX12_fitsBy_15 rfl rfl ?_
      refine jb_callV (pc' := 19) (ci := 12) (q := 105) (As := [.int (nI q), .int (nI last)]) (a2 := 0) (b2 := 0) wv_X12_230 rfl dX12_fitsBy_16 (c_nextFor I J d e kp nm W hd0 hk0 g hgg last k th hl hk5 hth q (by omega) A y hT hA hy hyl) rfl rfl ⟨by decide, Nat.le_of_eq (Nat.zero_add _), Nat.le_of_eq (Nat.zero_add _)⟩ (Nat.le_of_ble_eq_true rfl) rfl (fun r h9 hq => ?_)
      rcases hq with ⟨rfl, ⟨x, g1, g2, g3, g4, rfl⟩ | ⟨g1, rfl⟩⟩
      · show jb_J _ RX12 cX12_fitsBy 4 (Option.some .boolean) false 3 0 0 19 [some (.ref 105), some (.int (nI last)), some (.int (nI q)), x3] [.int (nI x)] [s0, s1, s2, s3, s4, s5, s6, s7, s8, s9, jb_mdl I J d e kp nm W, s11] _
        refine jb_istore_n_ (pc' := 20) dX12_fitsBy_19 (by decide) (jb_at3 rfl) rfl ?_
        refine jb_aload_n (pc' := 21) dX12_fitsBy_20 rfl rfl ?_
        refine gf_X12_40 (pc' := 24) (v := .ref 116) dX12_fitsBy_21 rfl rfl rfl ?_
        refine jb_iload_n (pc' := 25) dX12_fitsBy_24 rfl rfl ?_
        refine jb_iload_n (pc' := 26) dX12_fitsBy_25 rfl rfl ?_
        refine jb_iastore (pc' := 27) (i9 := q) (f := (W 6)) (h' := [s0, s1, s2, s3, s4, s5, s6, s7, s8, s9, jb_mdl I J d e kp nm (va_up W 6 (upd (W 6) q (nI x))), s11]) dX12_fitsBy_26 rfl (jb_ix_nI (by omega)) (by omega) rfl rfl ?_
        refine jb_iload_n (pc' := 28) dX12_fitsBy_27 rfl rfl ?_
        refine jb_if_ge (tgt := 37) (pc' := 31) dX12_fitsBy_28 (by decide) rfl (fun _ => ?_) (fun z => absurd (nI_pos' (n := x) (by omega)) z)
        refine jb_iload_n (pc' := 38) dX12_fitsBy_37 rfl rfl ?_
        refine jb_aload_n (pc' := 39) dX12_fitsBy_38 rfl rfl ?_
        refine gf_X12_233 (pc' := 42) (v := .int (I 1)) dX12_fitsBy_39 rfl rfl rfl ?_
        refine jb_top (v := .int (I 1)) (w := .int (nI k)) (jb_vI hI1) ?_
        refine jb_iconst (pc' := 43) 1 dX12_fitsBy_42 (by decide) rfl ?_
        refine jb_isub (pc' := 44) dX12_fitsBy_43 rfl ?_
        refine jb_icmp_ne (tgt := 49) (pc' := 47) dX12_fitsBy_44 (by decide) rfl (fun _ => ?_) (fun z => absurd z (fun z => absurd ((nI_eq (a := q) (b := q + m + 1) (by omega) (by omega)).mp (z.trans (by rw [show k = q + m + 1 + 1 by omega, nI_pred]))) (by omega)))
        refine jb_iinc_ (pc' := 52) (nI (q + 1)) dX12_fitsBy_49 (by decide) rfl (jb_inc q 1) (jb_at2 rfl) rfl ?_
        refine jb_aload_n (pc' := 53) dX12_fitsBy_52 rfl rfl ?_
        refine gf_X12_40 (pc' := 56) (v := .ref 116) dX12_fitsBy_53 rfl rfl rfl ?_
        refine jb_iload_n (pc' := 57) dX12_fitsBy_56 rfl rfl ?_
        refine jb_iconst (pc' := 58) (-1) dX12_fitsBy_57 (by decide) rfl ?_
        refine jb_iastore (pc' := 59) (i9 := (q + 1)) (f := upd (W 6) q (nI x)) (h' := [s0, s1, s2, s3, s4, s5, s6, s7, s8, s9, jb_mdl I J d e kp nm (va_up (va_up W 6 (upd (W 6) q (nI x))) 6 (upd (upd (W 6) q (nI x)) (q + 1) (-1))), s11]) dX12_fitsBy_58 rfl (jb_ix_nI (by omega)) (by omega) rfl rfl ?_
        refine jb_goto (pc' := 9) dX12_fitsBy_59 (by decide) ?_
        omega
      · show jb_J _ RX12 cX12_fitsBy 4 (Option.some .boolean) false 3 0 0 19 [some (.ref 105), some (.int (nI last)), some (.int (nI q)), x3] [.int (-1)] [s0, s1, s2, s3, s4, s5, s6, s7, s8, s9, jb_mdl I J d e kp nm W, s11] _
        refine jb_istore_n_ (pc' := 20) dX12_fitsBy_19 (by decide) (jb_at3 rfl) rfl ?_
        refine jb_aload_n (pc' := 21) dX12_fitsBy_20 rfl rfl ?_
        refine gf_X12_40 (pc' := 24) (v := .ref 116) dX12_fitsBy_21 rfl rfl rfl ?_
        refine jb_iload_n (pc' := 25) dX12_fitsBy_24 rfl rfl ?_
        refine jb_iload_n (pc' := 26) dX12_fitsBy_25 rfl rfl ?_
        refine jb_iastore (pc' := 27) (i9 := q) (f := (W 6)) (h' := [s0, s1, s2, s3, s4, s5, s6, s7, s8, s9, jb_mdl I J d e kp nm (va_up W 6 (upd (W 6) q (-1))), s11]) dX12_fitsBy_26 rfl (jb_ix_nI (by omega)) (by omega) rfl rfl ?_
        refine jb_iload_n (pc' := 28) dX12_fitsBy_27 rfl rfl ?_
        refine jb_if_ge (tgt := 37) (pc' := 31) dX12_fitsBy_28 (by decide) rfl (fun z => absurd z (by decide)) (fun _ => ?_)
        refine jb_iinc_ (pc' := 34) (nI q - 1) dX12_fitsBy_31 (by decide) rfl (jl_dec1 q) (jb_at2 rfl) rfl ?_
        refine jb_goto (pc' := 59) dX12_fitsBy_34 (by decide) ?_
        refine jb_goto (pc' := 9) dX12_fitsBy_59 (by decide) ?_
        exact hback (fun ⟨x9, z1, z2, z3, _⟩ => g1 x9 z1 z2 z3) (va_up W 6 (upd (W 6) q (-1))) _ (fun r hr => (va_ne hr).trans (hf r hr)) (fun j hj => jb_une (by omega))
    | succ n ihn =>
      intro y hn hyl A W x3 hf hA hy hret hback
      have hT : (∀ j, j < k → W 5 j = nI (th j)) := fun j hj => by rw [hf 5 (by decide)]; exact hT0 j hj
      show jb_J _ RX12 cX12_fitsBy 4 (Option.some .boolean) false 3 0 0 9 [some (.ref 105), some (.int (nI last)), some (.int (nI q)), x3] [] [s0, s1, s2, s3, s4, s5, s6, s7, s8, s9, jb_mdl I J d e kp nm W, s11] _
      refine jb_iload_n (pc' := 10) dX12_fitsBy_9 rfl rfl ?_
      refine jb_if_lt (tgt := 62) (pc' := 13) dX12_fitsBy_10 (by decide) rfl (fun z => absurd z (nI_pos (n := q) (by omega))) (fun _ => ?_)
      refine jb_aload_n (pc' := 14) dX12_fitsBy_13 rfl rfl ?_
      refine jb_iload_n (pc' := 15) dX12_fitsBy_14 rfl rfl ?_
      refine jb_iload_n (pc' := 16) dX12_fitsBy_15 rfl rfl ?_
      refine jb_callV (pc' := 19) (ci := 12) (q := 105) (As := [.int (nI q), .int (nI last)]) (a2 := 0) (b2 := 0) wv_X12_230 rfl dX12_fitsBy_16 (c_nextFor I J d e kp nm W hd0 hk0 g hgg last k th hl hk5 hth q (by omega) A y hT hA hy hyl) rfl rfl ⟨by decide, Nat.le_of_eq (Nat.zero_add _), Nat.le_of_eq (Nat.zero_add _)⟩ (Nat.le_of_ble_eq_true rfl) rfl (fun r h9 hq => ?_)
      rcases hq with ⟨rfl, ⟨x, g1, g2, g3, g4, rfl⟩ | ⟨g1, rfl⟩⟩
      · show jb_J _ RX12 cX12_fitsBy 4 (Option.some .boolean) false 3 0 0 19 [some (.ref 105), some (.int (nI last)), some (.int (nI q)), x3] [.int (nI x)] [s0, s1, s2, s3, s4, s5, s6, s7, s8, s9, jb_mdl I J d e kp nm W, s11] _
        refine jb_istore_n_ (pc' := 20) dX12_fitsBy_19 (by decide) (jb_at3 rfl) rfl ?_
        refine jb_aload_n (pc' := 21) dX12_fitsBy_20 rfl rfl ?_
        refine gf_X12_40 (pc' := 24) (v := .ref 116) dX12_fitsBy_21 rfl rfl rfl ?_
        refine jb_iload_n (pc' := 25) dX12_fitsBy_24 rfl rfl ?_
        refine jb_iload_n (pc' := 26) dX12_fitsBy_25 rfl rfl ?_
        refine jb_iastore (pc' := 27) (i9 := q) (f := (W 6)) (h' := [s0, s1, s2, s3, s4, s5, s6, s7, s8, s9, jb_mdl I J d e kp nm (va_up W 6 (upd (W 6) q (nI x))), s11]) dX12_fitsBy_26 rfl (jb_ix_nI (by omega)) (by omega) rfl rfl ?_
        refine jb_iload_n (pc' := 28) dX12_fitsBy_27 rfl rfl ?_
        refine jb_if_ge (tgt := 37) (pc' := 31) dX12_fitsBy_28 (by decide) rfl (fun _ => ?_) (fun z => absurd (nI_pos' (n := x) (by omega)) z)
        refine jb_iload_n (pc' := 38) dX12_fitsBy_37 rfl rfl ?_
        refine jb_aload_n (pc' := 39) dX12_fitsBy_38 rfl rfl ?_
        refine gf_X12_233 (pc' := 42) (v := .int (I 1)) dX12_fitsBy_39 rfl rfl rfl ?_
        refine jb_top (v := .int (I 1)) (w := .int (nI k)) (jb_vI hI1) ?_
        refine jb_iconst (pc' := 43) 1 dX12_fitsBy_42 (by decide) rfl ?_
        refine jb_isub (pc' := 44) dX12_fitsBy_43 rfl ?_
        refine jb_icmp_ne (tgt := 49) (pc' := 47) dX12_fitsBy_44 (by decide) rfl (fun _ => ?_) (fun z => absurd z (fun z => absurd ((nI_eq (a := q) (b := q + m + 1) (by omega) (by omega)).mp (z.trans (by rw [show k = q + m + 1 + 1 by omega, nI_pred]))) (by omega)))
        refine jb_iinc_ (pc' := 52) (nI (q + 1)) dX12_fitsBy_49 (by decide) rfl (jb_inc q 1) (jb_at2 rfl) rfl ?_
        refine jb_aload_n (pc' := 53) dX12_fitsBy_52 rfl rfl ?_
        refine gf_X12_40 (pc' := 56) (v := .ref 116) dX12_fitsBy_53 rfl rfl rfl ?_
        refine jb_iload_n (pc' := 57) dX12_fitsBy_56 rfl rfl ?_
        refine jb_iconst (pc' := 58) (-1) dX12_fitsBy_57 (by decide) rfl ?_
        refine jb_iastore (pc' := 59) (i9 := (q + 1)) (f := upd (W 6) q (nI x)) (h' := [s0, s1, s2, s3, s4, s5, s6, s7, s8, s9, jb_mdl I J d e kp nm (va_up (va_up W 6 (upd (W 6) q (nI x))) 6 (upd (upd (W 6) q (nI x)) (q + 1) (-1))), s11]) dX12_fitsBy_58 rfl (jb_ix_nI (by omega)) (by omega) rfl rfl ?_
        refine jb_goto (pc' := 9) dX12_fitsBy_59 (by decide) ?_
        refine ihm (q + 1) (by omega) (last + 1) 0 (by omega) (by omega) (jl_up A q x) (va_up (va_up W 6 (upd (W 6) q (nI x))) 6 (upd (upd (W 6) q (nI x)) (q + 1) (-1))) _ (fun r hr => ((va_ne hr).trans (va_ne hr)).trans (hf r hr)) (fun j hj => ?_) (jb_uee.trans (by decide : (-1 : Int32) = nI 0 - 1)) (fun z W9 h9 => hret ⟨x, g1, g2, g3, (jl_E0 (by omega)).mp z⟩ W9 h9) (fun z W9 x9 h9 hp9 => ?_)
        · show upd (upd (W 6) q (nI x)) (q + 1) (-1) j = nI (if j = q then x else A j) ∧ (if j = q then x else A j) ≤ 200
          rw [jb_une (by omega)]
          by_cases e : j = q
          · rw [if_pos e, e]; exact ⟨jb_uee, by omega⟩
          · rw [if_neg e, jb_une e]; exact hA j (by omega)
        · have hpj : ∀ j, j < q → W9 6 j = W 6 j := fun j hj => (hp9 j (by omega)).trans ((jb_une (by omega)).trans (jb_une (by omega)))
          have hpq : W9 6 q = nI (x + 1) - 1 := (hp9 q (by omega)).trans (((jb_une (by omega)).trans jb_uee).trans (nI_pred x).symm)
          refine jb_locs (congrArg (fun y9 => ([some (.ref 105), some (.int (nI last)), some (.int y9), x9] : List (Option Value))) (nI_pred q)) ?_
          refine ihn (x + 1) (by omega) (by omega) A W9 x9 h9 (fun j hj => ⟨(hpj j hj).trans (hA j hj).1, (hA j hj).2⟩) hpq (fun z9 W7 h7 => ?_) (fun z9 W7 x7 h7 hp7 => ?_)
          · obtain ⟨x8, z1, z2⟩ := z9
            exact hret ⟨x8, by omega, z2⟩ W7 h7
          · refine hback (fun ⟨x8, z1, z2, z3, z4⟩ => ?_) W7 x7 h7 (fun j hj => (hp7 j hj).trans (hpj j hj))
            rcases Nat.lt_trichotomy x8 x with a | a | a
            · exact g4 x8 z1 a z3
            · subst a; exact z ((jl_E0 (by omega)).mpr z4)
            · exact z9 ⟨x8, a, z2, z3, z4⟩
      · show jb_J _ RX12 cX12_fitsBy 4 (Option.some .boolean) false 3 0 0 19 [some (.ref 105), some (.int (nI last)), some (.int (nI q)), x3] [.int (-1)] [s0, s1, s2, s3, s4, s5, s6, s7, s8, s9, jb_mdl I J d e kp nm W, s11] _
        refine jb_istore_n_ (pc' := 20) dX12_fitsBy_19 (by decide) (jb_at3 rfl) rfl ?_
        refine jb_aload_n (pc' := 21) dX12_fitsBy_20 rfl rfl ?_
        refine gf_X12_40 (pc' := 24) (v := .ref 116) dX12_fitsBy_21 rfl rfl rfl ?_
        refine jb_iload_n (pc' := 25) dX12_fitsBy_24 rfl rfl ?_
        refine jb_iload_n (pc' := 26) dX12_fitsBy_25 rfl rfl ?_
        refine jb_iastore (pc' := 27) (i9 := q) (f := (W 6)) (h' := [s0, s1, s2, s3, s4, s5, s6, s7, s8, s9, jb_mdl I J d e kp nm (va_up W 6 (upd (W 6) q (-1))), s11]) dX12_fitsBy_26 rfl (jb_ix_nI (by omega)) (by omega) rfl rfl ?_
        refine jb_iload_n (pc' := 28) dX12_fitsBy_27 rfl rfl ?_
        refine jb_if_ge (tgt := 37) (pc' := 31) dX12_fitsBy_28 (by decide) rfl (fun z => absurd z (by decide)) (fun _ => ?_)
        refine jb_iinc_ (pc' := 34) (nI q - 1) dX12_fitsBy_31 (by decide) rfl (jl_dec1 q) (jb_at2 rfl) rfl ?_
        refine jb_goto (pc' := 59) dX12_fitsBy_34 (by decide) ?_
        refine jb_goto (pc' := 9) dX12_fitsBy_59 (by decide) ?_
        exact hback (fun ⟨x9, z1, z2, z3, _⟩ => g1 x9 z1 z2 z3) (va_up W 6 (upd (W 6) q (-1))) _ (fun r hr => (va_ne hr).trans (hf r hr)) (fun j hj => jb_une (by omega))
set_option maxRecDepth 100000 in
set_option maxHeartbeats 4000000 in
theorem c_fitsBy {sc : Nat × (Nat → Int32)} {s0 s1 s2 s3 s4 s5 s6 s7 s8 s9 s11 : List va_E} (I J d e kp nm : Nat → Int32) (W : Nat → Nat → Int32) {V : Nat → Nat → Nat} (hd : jd_ V d) (hk : jv_ok V) (g : Nat) (hgg : 2 * (V 0 4 + V 0 5) = g) (last k : Nat) (th : Nat → Nat) (hl : last ≤ 200) (hk5 : k ≤ 5) (hth : ∀ j, j < k → th j ≤ 20) (hT : (∀ j, j < k → W 5 j = nI (th j))) (hI1 : I 1 = nI k) (hk1 : 1 ≤ k) : jb_C sc yX12_fitsBy cX12_fitsBy 4 (Option.some .boolean) 3 0 0 [.ref 105, .int (nI last)] [s0, s1, s2, s3, s4, s5, s6, s7, s8, s9, jb_mdl I J d e kp nm W, s11] (fun r h9 => ∃ W9, (∀ r, ¬ r = 6 → W9 r = W r) ∧ ((jl_X g last th k 0 (fun _ => 0) ∧ r = some (.int 1)) ∨ (¬ jl_X g last th k 0 (fun _ => 0) ∧ r = some (.int 0))) ∧ h9 = [s0, s1, s2, s3, s4, s5, s6, s7, s8, s9, jb_mdl I J d e kp nm W9, s11]) := by
  refine jb_CofJ (ini := false) (by decide +kernel) (fun h => by cases h) (Nat.le_of_ble_eq_true rfl) ?_
  show jb_J sc RX12 cX12_fitsBy 4 (Option.some .boolean) false 3 0 0 0 [some (.ref 105), some (.int (nI last)), none, none] [] [s0, s1, s2, s3, s4, s5, s6, s7, s8, s9, jb_mdl I J d e kp nm W, s11] _
  have hd0 := hd
  have hk0 := hk
  have b4 := hk.2.2.2.2.2.1
  have b5 := hk.2.2.2.2.2.2.1
  refine jb_iconst (pc' := 1) 0 dX12_fitsBy_0 (by decide) rfl ?_
  refine jb_istore_n_ (pc' := 2) dX12_fitsBy_1 (by decide) (jb_at2 rfl) rfl ?_
  refine jb_aload_n (pc' := 3) dX12_fitsBy_2 rfl rfl ?_
  refine gf_X12_40 (pc' := 6) (v := .ref 116) dX12_fitsBy_3 rfl rfl rfl ?_
  refine jb_iconst (pc' := 7) 0 dX12_fitsBy_6 (by decide) rfl ?_
  refine jb_iconst (pc' := 8) (-1) dX12_fitsBy_7 (by decide) rfl ?_
  refine jb_iastore (pc' := 9) (i9 := 0) (f := (W 6)) (h' := [s0, s1, s2, s3, s4, s5, s6, s7, s8, s9, jb_mdl I J d e kp nm (va_up W 6 (upd (W 6) 0 (-1))), s11]) dX12_fitsBy_8 rfl jb_x0 (by decide) rfl rfl ?_
  obtain ⟨m, rfl⟩ : ∃ m, k = m + 1 := ⟨k - 1, by omega⟩
  refine l_fitsBy I J d e kp nm W hd0 hk0 g hgg last (m + 1) th hl hk5 hth hT hI1 _ m 0 (by omega) (last + 1) 0 (by omega) (by omega) (fun _ => 0) (va_up W 6 (upd (W 6) 0 (-1))) _ (fun r hr => va_ne hr) (fun j hj => absurd hj (by omega)) (show upd (W 6) 0 (-1) 0 = nI 0 - 1 from jb_uee.trans (by decide)) (fun z W9 h9 => ⟨W9, h9, Or.inl ⟨(jl_E0 (by omega)).mp z, rfl⟩, rfl⟩) (fun z W9 x9 h9 _ => ?_)
  show jb_J _ RX12 cX12_fitsBy 4 (Option.some .boolean) false 3 0 0 9 [some (.ref 105), some (.int (nI last)), some (.int (nI 0 - 1)), x9] [] [s0, s1, s2, s3, s4, s5, s6, s7, s8, s9, jb_mdl I J d e kp nm W9, s11] _
  refine jb_iload_n (pc' := 10) dX12_fitsBy_9 rfl rfl ?_
  refine jb_if_lt (tgt := 62) (pc' := 13) dX12_fitsBy_10 (by decide) rfl (fun _ => ?_) (fun z => absurd (by decide) z)
  refine jb_iconst (pc' := 63) 0 dX12_fitsBy_62 (by decide) rfl ?_
  refine jb_iret dX12_fitsBy_63 rfl ?_
  exact ⟨W9, h9, Or.inr ⟨fun q => z ((jl_E0 (by omega)).mpr q), rfl⟩, rfl⟩
set_option maxRecDepth 100000 in
set_option maxHeartbeats 4000000 in
theorem l_lastm {sc : Nat × (Nat → Int32)} {s0 s1 s2 s3 s4 s5 s6 s7 s8 s9 s11 : List va_E} (I J d e kp nm : Nat → Int32) (W : Nat → Nat → Int32) {V : Nat → Nat → Nat} (hd : jd_ V d) (hk : jv_ok V) (g : Nat) (hgg : 2 * (V 0 4 + V 0 5) = g) (b0 : Nat) (l : List Nat) (hl5 : l.length ≤ 5) (hl1 : 1 ≤ l.length) (hl20 : ∀ t, t ∈ l → t ≤ 20) (hb0 : b0 ≤ 90) (hbt : ∀ t, t ∈ l → g + t ≤ b0) (hT0 : ∀ j, j < l.length → W 5 j = nI (l.getD j 0)) (hI1 : I 1 = nI l.length) (x1 x4 x5 : Option Value) : ∀ (n sp : Nat) (Wc : Nat → Nat → Int32), sp + n = 17 → (∀ r, ¬ r = 6 → Wc r = W r) → (∀ u, b0 ≤ u → u < b0 + sp → ¬ jl_P g u l) → jb_J sc RX12 cX12_lesson 6 (Option.some .int) false 4 0 0 135 [some (.ref 105), x1, some (.int 0), some (.int (nI (b0 + sp))), x4, x5] [] [s0, s1, s2, s3, s4, s5, s6, s7, s8, s9, jb_mdl I J d e kp nm Wc, s11] (fun r h9 => ∃ v W9, jl_L g b0 l v ∧ r = some (.int (nI v)) ∧ (∀ r, ¬ r = 6 → W9 r = W r) ∧ h9 = [s0, s1, s2, s3, s4, s5, s6, s7, s8, s9, jb_mdl I J d e kp nm W9, s11]) := by
  have hd0 := hd
  have hk0 := hk
  have b4 := hk.2.2.2.2.2.1
  have b5 := hk.2.2.2.2.2.2.1
  intro n
  induction n with
  | zero =>
    intro sp Wc hsp hf hno
    exact absurd (jl_free l hl5 hbt) (hno (b0 + 16) (by omega) (by omega))
  | succ n ih =>
    intro sp Wc hsp hf hno
    show jb_J _ RX12 cX12_lesson 6 (Option.some .int) false 4 0 0 135 [some (.ref 105), x1, some (.int 0), some (.int (nI (b0 + sp))), x4, x5] [] [s0, s1, s2, s3, s4, s5, s6, s7, s8, s9, jb_mdl I J d e kp nm Wc, s11] _
    refine jb_aload_n (pc' := 136) dX12_lesson_135 rfl rfl ?_
    refine jb_iload_n (pc' := 137) dX12_lesson_136 rfl rfl ?_
    refine jb_callV (pc' := 140) (ci := 12) (q := 105) (As := [.int (nI (b0 + sp))]) (a2 := 0) (b2 := 0) wv_X12_239 rfl dX12_lesson_137 (c_fitsBy I J d e kp nm Wc hd0 hk0 g hgg (b0 + sp) l.length (fun j => l.getD j 0) (by omega) hl5 (fun j hj => hl20 _ (jl_gd.mpr ⟨j, hj, rfl⟩)) (fun j hj => by rw [hf 5 (by decide)]; exact hT0 j hj) hI1 hl1) rfl rfl ⟨by decide, Nat.le_of_eq (Nat.zero_add _), Nat.le_of_eq (Nat.zero_add _)⟩ (Nat.le_of_ble_eq_true rfl) rfl (fun r h9 hq => ?_)
    rcases hq with ⟨W8, hf8, ⟨hX, rfl⟩ | ⟨hX, rfl⟩, rfl⟩
    · show jb_J _ RX12 cX12_lesson 6 (Option.some .int) false 4 0 0 140 [some (.ref 105), x1, some (.int 0), some (.int (nI (b0 + sp))), x4, x5] [.int 1] [s0, s1, s2, s3, s4, s5, s6, s7, s8, s9, jb_mdl I J d e kp nm W8, s11] _
      refine jb_if_ne (tgt := 149) (pc' := 143) dX12_lesson_140 (by decide) rfl (fun _ => ?_) (fun z => absurd z (by decide))
      refine jb_iload_n (pc' := 150) dX12_lesson_149 rfl rfl ?_
      refine jb_iret dX12_lesson_150 rfl ?_
      refine ⟨b0 + sp, W8, ⟨by omega, ?_, jl_XP.mp hX, hno⟩, rfl, fun r hr => (hf8 r hr).trans (hf r hr), rfl⟩
      exact Classical.byContradiction (fun z => absurd (jl_free l hl5 hbt) (hno (b0 + 16) (by omega) (by omega)))
    · show jb_J _ RX12 cX12_lesson 6 (Option.some .int) false 4 0 0 140 [some (.ref 105), x1, some (.int 0), some (.int (nI (b0 + sp))), x4, x5] [.int 0] [s0, s1, s2, s3, s4, s5, s6, s7, s8, s9, jb_mdl I J d e kp nm W8, s11] _
      refine jb_if_ne (tgt := 149) (pc' := 143) dX12_lesson_140 (by decide) rfl (fun z => absurd (by decide) z) (fun _ => ?_)
      refine jb_iinc_ (pc' := 146) (nI (b0 + (sp + 1))) dX12_lesson_143 (by decide) rfl (jb_inc (b0 + sp) 1) (jb_at3 rfl) rfl ?_
      refine jb_goto (pc' := 135) dX12_lesson_146 (by decide) ?_
      exact ih (sp + 1) W8 (by omega) (fun r hr => (hf8 r hr).trans (hf r hr)) (fun u h1 h2 => by
        by_cases e : u = b0 + sp
        · rw [e]; exact fun z => hX (jl_XP.mpr z)
        · exact hno u h1 (by omega))
set_option maxRecDepth 100000 in
set_option maxHeartbeats 4000000 in
theorem l_lesson9 {sc : Nat × (Nat → Int32)} {s0 s1 s2 s3 s4 s5 s6 s7 s8 s9 s11 : List va_E} (I J d e kp nm : Nat → Int32) (W : Nat → Nat → Int32) {V : Nat → Nat → Nat} (hd : jd_ V d) (hk : jv_ok V) (g : Nat) (hgg : 2 * (V 0 4 + V 0 5) = g) (acc : List Nat) (L : Nat) (Ic : Nat → Int32) (Wc : Nat → Nat → Int32) (v9 : Int32) (x4 x5 : Option Value) (hfr : (∀ j, ¬ j = 1 → Ic j = I j) ∧ (∀ r, ¬ r = 5 → ¬ r = 6 → Wc r = W r)) (hst : Ic 1 = nI acc.length ∧ acc.length ≤ 5 ∧ (∀ j, j < acc.length → Wc 5 j = nI (acc.getD j 0)) ∧ (∀ t, t ∈ acc → t ≤ 20) ∧ jl_la g acc L) : jb_J sc RX12 cX12_lesson 6 (Option.some .int) false 4 0 0 126 [some (.ref 105), some (.int v9), some (.int 0), some (.int (nI L)), x4, x5] [] [s0, s1, s2, s3, s4, s5, s6, s7, s8, s9, jb_mdl Ic J d e kp nm Wc, s11] (fun r h9 => ∃ I9 W9, (∀ j, ¬ j = 1 → I9 j = I j) ∧ (∀ r, ¬ r = 5 → ¬ r = 6 → W9 r = W r) ∧ ((acc = [] ∧ r = some (.int (-1))) ∨ (∃ M9 v, jl_mx M9 acc ∧ jl_L g (g + M9) acc v ∧ r = some (.int (nI v)))) ∧ h9 = [s0, s1, s2, s3, s4, s5, s6, s7, s8, s9, jb_mdl I9 J d e kp nm W9, s11]) := by
  have hd0 := hd
  have hk0 := hk
  have b4 := hk.2.2.2.2.2.1
  have b5 := hk.2.2.2.2.2.2.1
  obtain ⟨g1, g2⟩ := hfr
  obtain ⟨p1, p2, p3, p4, p5⟩ := hst
  show jb_J _ RX12 cX12_lesson 6 (Option.some .int) false 4 0 0 126 [some (.ref 105), some (.int v9), some (.int 0), some (.int (nI L)), x4, x5] [] [s0, s1, s2, s3, s4, s5, s6, s7, s8, s9, jb_mdl Ic J d e kp nm Wc, s11] _
  refine jb_aload_n (pc' := 127) dX12_lesson_126 rfl rfl ?_
  refine gf_X12_233 (pc' := 130) (v := .int (Ic 1)) dX12_lesson_127 rfl rfl rfl ?_
  refine jb_top (v := .int (Ic 1)) (w := .int (nI acc.length)) (jb_vI p1) ?_
  refine jb_if_ne (tgt := 135) (pc' := 133) dX12_lesson_130 (by decide) rfl (fun hz0 => ?_) (fun hz0 => ?_)
  · have hz0 : ¬ acc.length = 0 := fun z9 => hz0 ((nI_eq (a := acc.length) (b := 0) (by omega) (by omega)).mpr z9)
    rcases p5 with ⟨q1, q2⟩ | ⟨M9, hM, rfl⟩
    · rw [q1] at hz0; exact absurd rfl hz0
    have m20 := p4 M9 hM.1
    refine jb_J.mono (l_lastm Ic J d e kp nm Wc hd0 hk0 g hgg (g + M9) acc p2 (by omega) p4 (by omega) (fun t ht => by have := hM.2 t ht; omega) p3 p1 _ _ _ 17 0 Wc (by omega) (fun _ _ => rfl) (fun u h1 h2 => absurd h2 (by omega))) (Nat.le_refl _) (Nat.le_refl _) (Nat.le_refl _) (fun r h9 hq => ?_)
    obtain ⟨v, W9, hL, rfl, hf9, rfl⟩ := hq
    exact ⟨Ic, W9, g1, fun r h5 h6 => (hf9 r h6).trans (g2 r h5 h6), Or.inr ⟨M9, v, hM, hL, rfl⟩, rfl⟩
  · have hz0 : acc.length = 0 := (nI_eq (a := acc.length) (b := 0) (by omega) (by omega)).mp hz0
    refine jb_iconst (pc' := 134) (-1) dX12_lesson_133 (by decide) rfl ?_
    refine jb_iret dX12_lesson_134 rfl ?_
    exact ⟨Ic, Wc, g1, g2, Or.inl ⟨List.eq_nil_of_length_eq_zero (by omega), rfl⟩, rfl⟩
set_option maxRecDepth 100000 in
set_option maxHeartbeats 4000000 in
theorem l_lessonm {sc : Nat × (Nat → Int32)} {s0 s1 s2 s3 s4 s5 s6 s7 s8 s9 s11 : List va_E} (I J d e kp nm : Nat → Int32) (W : Nat → Nat → Int32) {V : Nat → Nat → Nat} (hd : jd_ V d) (hk : jv_ok V) (g : Nat) (hgg : 2 * (V 0 4 + V 0 5) = g) (s : Nat) (hs : s < 4) (zs : Nat) (h2s : W 2 s = nI zs) (hzs : zs ≤ 40) : ∀ (n i : Nat) (acc : List Nat) (L : Nat) (Ic : Nat → Int32) (Wc : Nat → Nat → Int32) (x5 : Option Value), i + n = zs → (∀ j, ¬ j = 1 → Ic j = I j) ∧ (∀ r, ¬ r = 5 → ¬ r = 6 → Wc r = W r) → Ic 1 = nI acc.length ∧ acc.length ≤ 5 ∧ (∀ j, j < acc.length → Wc 5 j = nI (acc.getD j 0)) ∧ (∀ t, t ∈ acc → t ≤ 20) ∧ jl_la g acc L → jb_J sc RX12 cX12_lesson 6 (Option.some .int) false 4 0 0 26 [some (.ref 105), some (.int (nI s)), some (.int 0), some (.int (nI L)), some (.int (nI i)), x5] [] [s0, s1, s2, s3, s4, s5, s6, s7, s8, s9, jb_mdl Ic J d e kp nm Wc, s11] (fun r h9 => ∃ I9 W9, (∀ j, ¬ j = 1 → I9 j = I j) ∧ (∀ r, ¬ r = 5 → ¬ r = 6 → W9 r = W r) ∧ (((jl_ga (fun k => W 3 (40 * s + k)) n i acc) = [] ∧ r = some (.int (-1))) ∨ (∃ M9 v, jl_mx M9 (jl_ga (fun k => W 3 (40 * s + k)) n i acc) ∧ jl_L g (g + M9) (jl_ga (fun k => W 3 (40 * s + k)) n i acc) v ∧ r = some (.int (nI v)))) ∧ h9 = [s0, s1, s2, s3, s4, s5, s6, s7, s8, s9, jb_mdl I9 J d e kp nm W9, s11]) := by
  have hd0 := hd
  have hk0 := hk
  have b4 := hk.2.2.2.2.2.1
  have b5 := hk.2.2.2.2.2.2.1
  have b1 := hk.2.2.2.2.1
  have gpos : 0 < g := by omega
  intro n
  induction n with
  | zero =>
    intro i acc L Ic Wc x5 hi ⟨g1, g2⟩ ⟨p1, p2, p3, p4, p5⟩
    show jb_J _ RX12 cX12_lesson 6 (Option.some .int) false 4 0 0 26 [some (.ref 105), some (.int (nI s)), some (.int 0), some (.int (nI L)), some (.int (nI i)), x5] [] [s0, s1, s2, s3, s4, s5, s6, s7, s8, s9, jb_mdl Ic J d e kp nm Wc, s11] _
    refine jb_iload (pc' := 28) dX12_lesson_26 rfl rfl ?_
    refine jb_aload_n (pc' := 29) dX12_lesson_28 rfl rfl ?_
    refine gf_X12_28 (pc' := 32) (v := .ref 112) dX12_lesson_29 rfl rfl rfl ?_
    refine jb_iload_n (pc' := 33) dX12_lesson_32 rfl rfl ?_
    refine jb_iaload (pc' := 34) (i9 := s) (f := (Wc 2)) dX12_lesson_33 rfl (jb_ix_nI (by omega)) (by omega) rfl ?_
    refine jb_top (v := .int ((Wc 2) s)) (w := .int (nI zs)) (jb_vI (by rw [g2 2 (by decide) (by decide)]; exact h2s)) ?_
    refine jb_icmp_ge (tgt := 126) (pc' := 37) dX12_lesson_34 (by decide) rfl (fun _ => ?_) (fun z => absurd (nI_le (a := zs) (b := i) (by omega) (by omega)) z)
    exact l_lesson9 I J d e kp nm W hd0 hk0 g hgg acc L Ic Wc (nI s) _ _ ⟨g1, g2⟩ ⟨p1, p2, p3, p4, p5⟩
  | succ n ih =>
    intro i acc L Ic Wc x5 hi ⟨g1, g2⟩ ⟨p1, p2, p3, p4, p5⟩
    have pL := p5.le p4
    have eG : (jl_ga (fun k => W 3 (40 * s + k)) (n + 1) i acc) = (if acc.length < 5 then (if 0 ≤ W 3 (40 * s + i) ∧ W 3 (40 * s + i) ≤ 20 then jl_ga (fun k => W 3 (40 * s + k)) n (i + 1) (acc ++ [(W 3 (40 * s + i)).toNatClampNeg]) else jl_ga (fun k => W 3 (40 * s + k)) n (i + 1) acc) else acc) := rfl
    by_cases h5 : acc.length < 5
    · by_cases hv : 0 ≤ W 3 (40 * s + i) ∧ W 3 (40 * s + i) ≤ 20
      · obtain ⟨v, hv1, hv2, ev⟩ := jl_20.mpr hv
        rw [if_pos h5, if_pos hv, ev, nI_clamp (by omega)] at eG
        rw [eG]
        show jb_J _ RX12 cX12_lesson 6 (Option.some .int) false 4 0 0 26 [some (.ref 105), some (.int (nI s)), some (.int 0), some (.int (nI L)), some (.int (nI i)), x5] [] [s0, s1, s2, s3, s4, s5, s6, s7, s8, s9, jb_mdl Ic J d e kp nm Wc, s11] _
        refine jb_iload (pc' := 28) dX12_lesson_26 rfl rfl ?_
        refine jb_aload_n (pc' := 29) dX12_lesson_28 rfl rfl ?_
        refine gf_X12_28 (pc' := 32) (v := .ref 112) dX12_lesson_29 rfl rfl rfl ?_
        refine jb_iload_n (pc' := 33) dX12_lesson_32 rfl rfl ?_
        refine jb_iaload (pc' := 34) (i9 := s) (f := (Wc 2)) dX12_lesson_33 rfl (jb_ix_nI (by omega)) (by omega) rfl ?_
        refine jb_top (v := .int ((Wc 2) s)) (w := .int (nI zs)) (jb_vI (by rw [g2 2 (by decide) (by decide)]; exact h2s)) ?_
        refine jb_icmp_ge (tgt := 126) (pc' := 37) dX12_lesson_34 (by decide) rfl (fun z => absurd z (nI_ge (a := i) (b := zs) (by omega) (by omega))) (fun _ => ?_)
        refine jb_aload_n (pc' := 38) dX12_lesson_37 rfl rfl ?_
        refine gf_X12_233 (pc' := 41) (v := .int (Ic 1)) dX12_lesson_38 rfl rfl rfl ?_
        refine jb_top (v := .int (Ic 1)) (w := .int (nI acc.length)) (jb_vI p1) ?_
        refine jb_iconst (pc' := 42) 5 dX12_lesson_41 (by decide) rfl ?_
        refine jb_icmp_ge (tgt := 126) (pc' := 45) dX12_lesson_42 (by decide) rfl (fun z => absurd z (nI_ge (a := acc.length) (b := 5) (by omega) (by omega))) (fun _ => ?_)
        refine jb_aload_n (pc' := 46) dX12_lesson_45 rfl rfl ?_
        refine gf_X12_31 (pc' := 49) (v := .ref 113) dX12_lesson_46 rfl rfl rfl ?_
        refine jb_bipush (pc' := 51) 40 dX12_lesson_49 (by decide) rfl ?_
        refine jb_iload_n (pc' := 52) dX12_lesson_51 rfl rfl ?_
        refine jb_imul (pc' := 53) dX12_lesson_52 rfl ?_
        refine jb_top (v := .int (40 * (nI s))) (w := .int (nI (40 * s))) (jb_vI (pk_mul 40 _)) ?_
        refine jb_iload (pc' := 55) dX12_lesson_53 rfl rfl ?_
        refine jb_iadd (pc' := 56) dX12_lesson_55 rfl ?_
        refine jb_top (v := .int ((nI (40 * s)) + (nI i))) (w := .int (nI (40 * s + i))) (jb_vI (nI_add _ _)) ?_
        refine jb_iaload (pc' := 57) (i9 := (40 * s + i)) (f := (Wc 3)) dX12_lesson_56 rfl (jb_ix_nI (by omega)) (by omega) rfl ?_
        refine jb_top (v := .int ((Wc 3) (40 * s + i))) (w := .int (nI v)) (jb_vI ((congrFun (g2 3 (by decide) (by decide)) _).trans ev)) ?_
        refine jb_istore_ (pc' := 59) dX12_lesson_57 (by decide) (jb_at5 rfl) rfl ?_
        refine jb_iload (pc' := 61) dX12_lesson_59 rfl rfl ?_
        refine jb_i2l (pc' := 62) dX12_lesson_61 rfl ?_
        refine jb_lconst (pc' := 63) 0 dX12_lesson_62 (by decide) rfl ?_
        refine jb_ldc2 (pc' := 66) 20 dX12_lesson_63 wk_X12_139 rfl ?_
        refine jb_callS (pc' := 69) (As := [.long ((nI v).toInt64), .long 0, .long 20]) (a2 := 0) (b2 := 0) wv_X12_56 dX12_lesson_66 (c_inLG _ v 0 20 (by omega) (by omega) (by omega)) rfl ⟨by decide, Nat.le_of_eq (Nat.zero_add _), Nat.le_of_eq (Nat.zero_add _)⟩ (Nat.le_of_ble_eq_true rfl) rfl (fun r h9 hq => ?_)
        obtain ⟨rfl, rfl⟩ := hq
        show jb_J _ RX12 cX12_lesson 6 (Option.some .int) false 4 0 0 69 [some (.ref 105), some (.int (nI s)), some (.int 0), some (.int (nI L)), some (.int (nI i)), some (.int (nI v))] [.int 1] [s0, s1, s2, s3, s4, s5, s6, s7, s8, s9, jb_mdl Ic J d e kp nm Wc, s11] _
        refine jb_if_eq (tgt := 120) (pc' := 72) dX12_lesson_69 (by decide) rfl (fun z => absurd z (by decide)) (fun _ => ?_)
        refine jb_aload_n (pc' := 73) dX12_lesson_72 rfl rfl ?_
        refine gf_X12_37 (pc' := 76) (v := .ref 115) dX12_lesson_73 rfl rfl rfl ?_
        refine jb_aload_n (pc' := 77) dX12_lesson_76 rfl rfl ?_
        refine gf_X12_233 (pc' := 80) (v := .int (Ic 1)) dX12_lesson_77 rfl rfl rfl ?_
        refine jb_top (v := .int (Ic 1)) (w := .int (nI acc.length)) (jb_vI p1) ?_
        refine jb_iload (pc' := 82) dX12_lesson_80 rfl rfl ?_
        refine jb_iastore (pc' := 83) (i9 := acc.length) (f := (Wc 5)) (h' := [s0, s1, s2, s3, s4, s5, s6, s7, s8, s9, jb_mdl Ic J d e kp nm (va_up Wc 5 (upd (Wc 5) acc.length (nI v))), s11]) dX12_lesson_82 rfl (jb_ix_nI (by omega)) (by omega) rfl rfl ?_
        refine jb_iconst (pc' := 84) 2 dX12_lesson_83 (by decide) rfl ?_
        refine jb_aload_n (pc' := 85) dX12_lesson_84 rfl rfl ?_
        refine jb_callV (pc' := 88) (ci := 12) (q := 105) (As := []) (a2 := 0) (b2 := 0) wv_X12_171 rfl dX12_lesson_85 (c_gapm Ic J d e kp nm (va_up Wc 5 (upd (Wc 5) acc.length (nI v))) hd0 hk0) rfl rfl ⟨by decide, Nat.le_of_eq (Nat.zero_add _), Nat.le_of_eq (Nat.zero_add _)⟩ (Nat.le_of_ble_eq_true rfl) rfl (fun r h9 hq => ?_)
        obtain ⟨rfl, rfl⟩ := hq
        show jb_J _ RX12 cX12_lesson 6 (Option.some .int) false 4 0 0 88 [some (.ref 105), some (.int (nI s)), some (.int 0), some (.int (nI L)), some (.int (nI i)), some (.int (nI v))] [.int (nI (V 0 4 + V 0 5)), .int 2] [s0, s1, s2, s3, s4, s5, s6, s7, s8, s9, jb_mdl Ic J d e kp nm (va_up Wc 5 (upd (Wc 5) acc.length (nI v))), s11] _
        refine jb_imul (pc' := 89) dX12_lesson_88 rfl ?_
        refine jb_top (v := .int (2 * (nI (V 0 4 + V 0 5)))) (w := .int (nI g)) (jb_vI (by rw [← hgg]; exact pk_mul 2 _)) ?_
        refine jb_iload (pc' := 91) dX12_lesson_89 rfl rfl ?_
        refine jb_iadd (pc' := 92) dX12_lesson_91 rfl ?_
        refine jb_top (v := .int ((nI g) + (nI v))) (w := .int (nI (g + v))) (jb_vI (nI_add _ _)) ?_
        refine jb_iload_n (pc' := 93) dX12_lesson_92 rfl rfl ?_
        refine jb_icmp_le (tgt := 108) (pc' := 96) dX12_lesson_93 (by decide) rfl (fun c6 => ?_) (fun c6 => ?_)
        · have c6 : (g + v) ≤ L := (nI_leI (a := (g + v)) (b := L) (by omega) (by omega)).mp c6
          refine jb_iload_n (pc' := 109) dX12_lesson_108 rfl rfl ?_
          refine jb_istore_n_ (pc' := 110) dX12_lesson_109 (by decide) (jb_at3 rfl) rfl ?_
          refine jb_aload_n (pc' := 111) dX12_lesson_110 rfl rfl ?_
          refine jb_dup (pc' := 112) dX12_lesson_111 rfl rfl ?_
          refine gf_X12_233 (pc' := 115) (v := .int (Ic 1)) dX12_lesson_112 rfl rfl rfl ?_
          refine jb_top (v := .int (Ic 1)) (w := .int (nI acc.length)) (jb_vI p1) ?_
          refine jb_iconst (pc' := 116) 1 dX12_lesson_115 (by decide) rfl ?_
          refine jb_iadd (pc' := 117) dX12_lesson_116 rfl ?_
          refine jb_top (v := .int ((nI acc.length) + 1)) (w := .int (nI (acc.length + 1))) (jb_vI (nI_add _ 1)) ?_
          refine pf_X12_233 (pc' := 120) (h' := [s0, s1, s2, s3, s4, s5, s6, s7, s8, s9, jb_mdl (upd Ic 1 (nI (acc.length + 1))) J d e kp nm (va_up Wc 5 (upd (Wc 5) acc.length (nI v))), s11]) dX12_lesson_117 (fun _ => ⟨rfl, rfl⟩) rfl (Nat.le_of_ble_eq_true rfl) rfl rfl ?_
          refine jb_iinc_ (pc' := 123) (nI (i + 1)) dX12_lesson_120 (by decide) rfl (jb_inc i 1) (jb_at4 rfl) rfl ?_
          refine jb_goto (pc' := 26) dX12_lesson_123 (by decide) ?_
          refine ih (i + 1) (acc ++ [v]) L (upd Ic 1 (nI (acc.length + 1))) (va_up Wc 5 (upd (Wc 5) acc.length (nI v))) _ (by omega) ⟨fun j hj => (jb_une hj).trans (g1 j hj), fun r h6 h7 => (va_ne h6).trans (g2 r h6 h7)⟩ ⟨?_, ?_, fun j hj => ?_, fun t ht => ?_, p5.st gpos (by omega)⟩
          · rw [List.length_append]; rfl
          · rw [List.length_append]; show acc.length + 1 ≤ 5; omega
          · rw [List.length_append] at hj
            have hj2 : j < acc.length + 1 := hj
            show upd (Wc 5) acc.length (nI v) j = _
            by_cases e : j = acc.length
            · rw [e, jl_gde]; exact jb_uee
            · rw [jb_une e, jl_gda (by omega)]; exact p3 j (by omega)
          · rcases List.mem_append.mp ht with e | e
            · exact p4 t e
            · rw [List.mem_singleton.mp e]; omega
        · have c6 : ¬ (g + v) ≤ L := fun z9 => c6 ((nI_leI (a := (g + v)) (b := L) (by omega) (by omega)).mpr z9)
          refine jb_iconst (pc' := 97) 2 dX12_lesson_96 (by decide) rfl ?_
          refine jb_aload_n (pc' := 98) dX12_lesson_97 rfl rfl ?_
          refine jb_callV (pc' := 101) (ci := 12) (q := 105) (As := []) (a2 := 0) (b2 := 0) wv_X12_171 rfl dX12_lesson_98 (c_gapm Ic J d e kp nm (va_up Wc 5 (upd (Wc 5) acc.length (nI v))) hd0 hk0) rfl rfl ⟨by decide, Nat.le_of_eq (Nat.zero_add _), Nat.le_of_eq (Nat.zero_add _)⟩ (Nat.le_of_ble_eq_true rfl) rfl (fun r h9 hq => ?_)
          obtain ⟨rfl, rfl⟩ := hq
          show jb_J _ RX12 cX12_lesson 6 (Option.some .int) false 4 0 0 101 [some (.ref 105), some (.int (nI s)), some (.int 0), some (.int (nI L)), some (.int (nI i)), some (.int (nI v))] [.int (nI (V 0 4 + V 0 5)), .int 2] [s0, s1, s2, s3, s4, s5, s6, s7, s8, s9, jb_mdl Ic J d e kp nm (va_up Wc 5 (upd (Wc 5) acc.length (nI v))), s11] _
          refine jb_imul (pc' := 102) dX12_lesson_101 rfl ?_
          refine jb_top (v := .int (2 * (nI (V 0 4 + V 0 5)))) (w := .int (nI g)) (jb_vI (by rw [← hgg]; exact pk_mul 2 _)) ?_
          refine jb_iload (pc' := 104) dX12_lesson_102 rfl rfl ?_
          refine jb_iadd (pc' := 105) dX12_lesson_104 rfl ?_
          refine jb_top (v := .int ((nI g) + (nI v))) (w := .int (nI (g + v))) (jb_vI (nI_add _ _)) ?_
          refine jb_goto (pc' := 109) dX12_lesson_105 (by decide) ?_
          refine jb_istore_n_ (pc' := 110) dX12_lesson_109 (by decide) (jb_at3 rfl) rfl ?_
          refine jb_aload_n (pc' := 111) dX12_lesson_110 rfl rfl ?_
          refine jb_dup (pc' := 112) dX12_lesson_111 rfl rfl ?_
          refine gf_X12_233 (pc' := 115) (v := .int (Ic 1)) dX12_lesson_112 rfl rfl rfl ?_
          refine jb_top (v := .int (Ic 1)) (w := .int (nI acc.length)) (jb_vI p1) ?_
          refine jb_iconst (pc' := 116) 1 dX12_lesson_115 (by decide) rfl ?_
          refine jb_iadd (pc' := 117) dX12_lesson_116 rfl ?_
          refine jb_top (v := .int ((nI acc.length) + 1)) (w := .int (nI (acc.length + 1))) (jb_vI (nI_add _ 1)) ?_
          refine pf_X12_233 (pc' := 120) (h' := [s0, s1, s2, s3, s4, s5, s6, s7, s8, s9, jb_mdl (upd Ic 1 (nI (acc.length + 1))) J d e kp nm (va_up Wc 5 (upd (Wc 5) acc.length (nI v))), s11]) dX12_lesson_117 (fun _ => ⟨rfl, rfl⟩) rfl (Nat.le_of_ble_eq_true rfl) rfl rfl ?_
          refine jb_iinc_ (pc' := 123) (nI (i + 1)) dX12_lesson_120 (by decide) rfl (jb_inc i 1) (jb_at4 rfl) rfl ?_
          refine jb_goto (pc' := 26) dX12_lesson_123 (by decide) ?_
          refine ih (i + 1) (acc ++ [v]) (g + v) (upd Ic 1 (nI (acc.length + 1))) (va_up Wc 5 (upd (Wc 5) acc.length (nI v))) _ (by omega) ⟨fun j hj => (jb_une hj).trans (g1 j hj), fun r h6 h7 => (va_ne h6).trans (g2 r h6 h7)⟩ ⟨?_, ?_, fun j hj => ?_, fun t ht => ?_, p5.up (by omega)⟩
          · rw [List.length_append]; rfl
          · rw [List.length_append]; show acc.length + 1 ≤ 5; omega
          · rw [List.length_append] at hj
            have hj2 : j < acc.length + 1 := hj
            show upd (Wc 5) acc.length (nI v) j = _
            by_cases e : j = acc.length
            · rw [e, jl_gde]; exact jb_uee
            · rw [jb_une e, jl_gda (by omega)]; exact p3 j (by omega)
          · rcases List.mem_append.mp ht with e | e
            · exact p4 t e
            · rw [List.mem_singleton.mp e]; omega
      · rw [if_pos h5, if_neg hv] at eG
        rw [eG]
        show jb_J _ RX12 cX12_lesson 6 (Option.some .int) false 4 0 0 26 [some (.ref 105), some (.int (nI s)), some (.int 0), some (.int (nI L)), some (.int (nI i)), x5] [] [s0, s1, s2, s3, s4, s5, s6, s7, s8, s9, jb_mdl Ic J d e kp nm Wc, s11] _
        refine jb_iload (pc' := 28) dX12_lesson_26 rfl rfl ?_
        refine jb_aload_n (pc' := 29) dX12_lesson_28 rfl rfl ?_
        refine gf_X12_28 (pc' := 32) (v := .ref 112) dX12_lesson_29 rfl rfl rfl ?_
        refine jb_iload_n (pc' := 33) dX12_lesson_32 rfl rfl ?_
        refine jb_iaload (pc' := 34) (i9 := s) (f := (Wc 2)) dX12_lesson_33 rfl (jb_ix_nI (by omega)) (by omega) rfl ?_
        refine jb_top (v := .int ((Wc 2) s)) (w := .int (nI zs)) (jb_vI (by rw [g2 2 (by decide) (by decide)]; exact h2s)) ?_
        refine jb_icmp_ge (tgt := 126) (pc' := 37) dX12_lesson_34 (by decide) rfl (fun z => absurd z (nI_ge (a := i) (b := zs) (by omega) (by omega))) (fun _ => ?_)
        refine jb_aload_n (pc' := 38) dX12_lesson_37 rfl rfl ?_
        refine gf_X12_233 (pc' := 41) (v := .int (Ic 1)) dX12_lesson_38 rfl rfl rfl ?_
        refine jb_top (v := .int (Ic 1)) (w := .int (nI acc.length)) (jb_vI p1) ?_
        refine jb_iconst (pc' := 42) 5 dX12_lesson_41 (by decide) rfl ?_
        refine jb_icmp_ge (tgt := 126) (pc' := 45) dX12_lesson_42 (by decide) rfl (fun z => absurd z (nI_ge (a := acc.length) (b := 5) (by omega) (by omega))) (fun _ => ?_)
        refine jb_aload_n (pc' := 46) dX12_lesson_45 rfl rfl ?_
        refine gf_X12_31 (pc' := 49) (v := .ref 113) dX12_lesson_46 rfl rfl rfl ?_
        refine jb_bipush (pc' := 51) 40 dX12_lesson_49 (by decide) rfl ?_
        refine jb_iload_n (pc' := 52) dX12_lesson_51 rfl rfl ?_
        refine jb_imul (pc' := 53) dX12_lesson_52 rfl ?_
        refine jb_top (v := .int (40 * (nI s))) (w := .int (nI (40 * s))) (jb_vI (pk_mul 40 _)) ?_
        refine jb_iload (pc' := 55) dX12_lesson_53 rfl rfl ?_
        refine jb_iadd (pc' := 56) dX12_lesson_55 rfl ?_
        refine jb_top (v := .int ((nI (40 * s)) + (nI i))) (w := .int (nI (40 * s + i))) (jb_vI (nI_add _ _)) ?_
        refine jb_iaload (pc' := 57) (i9 := (40 * s + i)) (f := (Wc 3)) dX12_lesson_56 rfl (jb_ix_nI (by omega)) (by omega) rfl ?_
        refine jb_top (v := .int ((Wc 3) (40 * s + i))) (w := .int (W 3 (40 * s + i))) (jb_vI (congrFun (g2 3 (by decide) (by decide)) _)) ?_
        refine jb_istore_ (pc' := 59) dX12_lesson_57 (by decide) (jb_at5 rfl) rfl ?_
        refine jb_iload (pc' := 61) dX12_lesson_59 rfl rfl ?_
        refine jb_i2l (pc' := 62) dX12_lesson_61 rfl ?_
        refine jb_lconst (pc' := 63) 0 dX12_lesson_62 (by decide) rfl ?_
        refine jb_ldc2 (pc' := 66) 20 dX12_lesson_63 wk_X12_139 rfl ?_
        refine jb_callS (pc' := 69) (As := [.long ((W 3 (40 * s + i)).toInt64), .long 0, .long 20]) (a2 := 0) (b2 := 0) wv_X12_56 dX12_lesson_66 (c_inL _ (W 3 (40 * s + i)) 0 20 (by omega) (by omega)) rfl ⟨by decide, Nat.le_of_eq (Nat.zero_add _), Nat.le_of_eq (Nat.zero_add _)⟩ (Nat.le_of_ble_eq_true rfl) rfl (fun r h9 hq => ?_)
        rcases hq with ⟨rfl, ⟨o3, rfl⟩ | ⟨o3, rfl⟩⟩
        · exact absurd (jl_20.mp (by assumption)) hv
        · show jb_J _ RX12 cX12_lesson 6 (Option.some .int) false 4 0 0 69 [some (.ref 105), some (.int (nI s)), some (.int 0), some (.int (nI L)), some (.int (nI i)), some (.int (W 3 (40 * s + i)))] [.int 0] [s0, s1, s2, s3, s4, s5, s6, s7, s8, s9, jb_mdl Ic J d e kp nm Wc, s11] _
          refine jb_if_eq (tgt := 120) (pc' := 72) dX12_lesson_69 (by decide) rfl (fun _ => ?_) (fun z => absurd (by decide) z)
          refine jb_iinc_ (pc' := 123) (nI (i + 1)) dX12_lesson_120 (by decide) rfl (jb_inc i 1) (jb_at4 rfl) rfl ?_
          refine jb_goto (pc' := 26) dX12_lesson_123 (by decide) ?_
          exact ih (i + 1) acc L Ic Wc _ (by omega) ⟨g1, g2⟩ ⟨p1, p2, p3, p4, p5⟩
    · rw [if_neg h5] at eG
      show jb_J _ RX12 cX12_lesson 6 (Option.some .int) false 4 0 0 26 [some (.ref 105), some (.int (nI s)), some (.int 0), some (.int (nI L)), some (.int (nI i)), x5] [] [s0, s1, s2, s3, s4, s5, s6, s7, s8, s9, jb_mdl Ic J d e kp nm Wc, s11] _
      refine jb_iload (pc' := 28) dX12_lesson_26 rfl rfl ?_
      refine jb_aload_n (pc' := 29) dX12_lesson_28 rfl rfl ?_
      refine gf_X12_28 (pc' := 32) (v := .ref 112) dX12_lesson_29 rfl rfl rfl ?_
      refine jb_iload_n (pc' := 33) dX12_lesson_32 rfl rfl ?_
      refine jb_iaload (pc' := 34) (i9 := s) (f := (Wc 2)) dX12_lesson_33 rfl (jb_ix_nI (by omega)) (by omega) rfl ?_
      refine jb_top (v := .int ((Wc 2) s)) (w := .int (nI zs)) (jb_vI (by rw [g2 2 (by decide) (by decide)]; exact h2s)) ?_
      refine jb_icmp_ge (tgt := 126) (pc' := 37) dX12_lesson_34 (by decide) rfl (fun z => absurd z (nI_ge (a := i) (b := zs) (by omega) (by omega))) (fun _ => ?_)
      refine jb_aload_n (pc' := 38) dX12_lesson_37 rfl rfl ?_
      refine gf_X12_233 (pc' := 41) (v := .int (Ic 1)) dX12_lesson_38 rfl rfl rfl ?_
      refine jb_top (v := .int (Ic 1)) (w := .int (nI acc.length)) (jb_vI p1) ?_
      refine jb_iconst (pc' := 42) 5 dX12_lesson_41 (by decide) rfl ?_
      refine jb_icmp_ge (tgt := 126) (pc' := 45) dX12_lesson_42 (by decide) rfl (fun _ => ?_) (fun z => absurd (nI_le (a := 5) (b := acc.length) (by omega) (by omega)) z)
      rw [eG]
      exact l_lesson9 I J d e kp nm W hd0 hk0 g hgg acc L Ic Wc (nI s) _ _ ⟨g1, g2⟩ ⟨p1, p2, p3, p4, p5⟩
set_option maxRecDepth 100000 in
set_option maxHeartbeats 4000000 in
theorem mx_lesson {sc : Nat × (Nat → Int32)} {s0 s1 s2 s3 s4 s5 s6 s7 s8 s9 s11 : List va_E} {V : Nat → Nat → Nat} (I J d e kp nm : Nat → Int32) (W : Nat → Nat → Int32) (hd : jd_ V d) (hk : jv_ok V) (s : Nat) (hs : s < 4) {bs zs : Nat} (h1s : W 1 s = nI bs) (h2s : W 2 s = nI zs) (hbs : bs ≤ 32) (hzs : zs ≤ 40) (hm : ¬ bs = 0) : jb_C sc yX12_lesson cX12_lesson 6 (Option.some .int) 4 0 0 [.ref 105, .int (nI s)] [s0, s1, s2, s3, s4, s5, s6, s7, s8, s9, jb_mdl I J d e kp nm W, s11] (fun r h9 => ∃ I9 W9, (∀ j, ¬ j = 1 → I9 j = I j) ∧ (∀ r, ¬ r = 5 → ¬ r = 6 → W9 r = W r) ∧ (((jl_ga (fun k => W 3 (40 * s + k)) zs 0 []) = [] ∧ r = some (.int (-1))) ∨ (∃ M9 v, jl_mx M9 (jl_ga (fun k => W 3 (40 * s + k)) zs 0 []) ∧ jl_L (2 * (V 0 4 + V 0 5)) (2 * (V 0 4 + V 0 5) + M9) (jl_ga (fun k => W 3 (40 * s + k)) zs 0 []) v ∧ r = some (.int (nI v)))) ∧ h9 = [s0, s1, s2, s3, s4, s5, s6, s7, s8, s9, jb_mdl I9 J d e kp nm W9, s11]) := by
  refine jb_CofJ (ini := false) (by decide +kernel) (fun h => by cases h) (Nat.le_of_ble_eq_true rfl) ?_
  show jb_J sc RX12 cX12_lesson 6 (Option.some .int) false 4 0 0 0 [some (.ref 105), some (.int (nI s)), none, none, none, none] [] [s0, s1, s2, s3, s4, s5, s6, s7, s8, s9, jb_mdl I J d e kp nm W, s11] _
  refine jb_aload_n (pc' := 1) dX12_lesson_0 rfl rfl ?_
  refine jb_iload_n (pc' := 2) dX12_lesson_1 rfl rfl ?_
  refine jb_callV (pc' := 5) (ci := 12) (q := 105) (As := [.int (nI s)]) (a2 := 0) (b2 := 0) wv_X12_236 rfl dX12_lesson_2 (c_whyNot I J d e kp nm W s hs h1s h2s hbs hzs) rfl rfl ⟨by decide, Nat.le_of_eq (Nat.zero_add _), Nat.le_of_eq (Nat.zero_add _)⟩ (Nat.le_of_ble_eq_true rfl) rfl (fun r h9 hq => ?_)
  rcases hq with ⟨rfl, ⟨hms, rfl⟩ | ⟨hms, rfl⟩⟩
  · exact absurd hms hm
  · show jb_J _ RX12 cX12_lesson 6 (Option.some .int) false 4 0 0 5 [some (.ref 105), some (.int (nI s)), none, none, none, none] [.int 0] [s0, s1, s2, s3, s4, s5, s6, s7, s8, s9, jb_mdl I J d e kp nm W, s11] _
    refine jb_istore_n_ (pc' := 6) dX12_lesson_5 (by decide) (jb_at2 rfl) rfl ?_
    refine jb_iload_n (pc' := 7) dX12_lesson_6 rfl rfl ?_
    refine jb_if_eq (tgt := 16) (pc' := 10) dX12_lesson_7 (by decide) rfl (fun _ => ?_) (fun z => absurd (by decide) z)
    refine jb_aload_n (pc' := 17) dX12_lesson_16 rfl rfl ?_
    refine jb_iconst (pc' := 18) 0 dX12_lesson_17 (by decide) rfl ?_
    refine pf_X12_233 (pc' := 21) (h' := [s0, s1, s2, s3, s4, s5, s6, s7, s8, s9, jb_mdl (upd I 1 0) J d e kp nm W, s11]) dX12_lesson_18 (fun _ => ⟨rfl, rfl⟩) rfl (Nat.le_of_ble_eq_true rfl) rfl rfl ?_
    refine jb_iconst (pc' := 22) 0 dX12_lesson_21 (by decide) rfl ?_
    refine jb_istore_n_ (pc' := 23) dX12_lesson_22 (by decide) (jb_at3 rfl) rfl ?_
    refine jb_iconst (pc' := 24) 0 dX12_lesson_23 (by decide) rfl ?_
    refine jb_istore_ (pc' := 26) dX12_lesson_24 (by decide) (jb_at4 rfl) rfl ?_
    exact l_lessonm I J d e kp nm W hd hk (2 * (V 0 4 + V 0 5)) rfl s hs zs h2s hzs zs 0 [] 0 (upd I 1 0) W _ (by omega) ⟨fun j hj => jb_une hj, fun _ _ _ => rfl⟩ ⟨rfl, by decide, fun j hj => absurd hj (Nat.not_lt_zero _), fun t ht => (by cases ht), Or.inl ⟨rfl, rfl⟩⟩
