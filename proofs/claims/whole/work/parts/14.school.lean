theorem jk_kinds {k : Nat} (h : k < 7) : (va_up (va_up (va_up (va_up (va_up (va_up (va_up (fun _ => none) 0 (some 6)) 1 (some 7)) 2 (some 8)) 3 (some 9)) 4 (some 10)) 5 (some 11)) 6 (some 12)) k = some (6 + k) := by
  match k, h with
  | 0, _ => rfl
  | 1, _ => rfl
  | 2, _ => rfl
  | 3, _ => rfl
  | 4, _ => rfl
  | 5, _ => rfl
  | 6, _ => rfl
theorem jn_in {a lo hi : Nat} (h1 : lo ≤ a) (h2 : a ≤ hi) (h3 : hi < 2 ^ 31) : ¬ (nI a < nI lo ∨ nI hi < nI a) := by
  intro h
  rcases h with h | h
  · have := (nI_ltI (by omega) (by omega)).mp h; omega
  · have := (nI_ltI (by omega) (by omega)).mp h; omega
theorem jn_of {x : Int32} {n : Nat} (h : ¬ (x < 0 ∨ nI n - 1 < x)) (hn : n < 2 ^ 30) : ∃ j, j < n ∧ x = nI j := by
  have h1 : ¬ x < 0 := fun q => h (Or.inl q)
  have h2 : ¬ nI n - 1 < x := fun q => h (Or.inr q)
  obtain ⟨j, hj, rfl⟩ := nI_of h1
  refine ⟨j, ?_, rfl⟩
  cases n with
  | zero =>
    exfalso
    apply h2
    rw [Int32.lt_iff_toInt_lt, nI_toInt hj]
    have : (nI 0 - 1).toInt = -1 := by decide
    omega
  | succ n =>
    rw [nI_pred] at h2
    have h9 : ¬ n < j := fun q => h2 ((nI_ltI (by omega) hj).mpr q)
    omega
theorem jn_no {j n : Nat} (h : j < n) (hn : n < 2 ^ 30) : ¬ (nI j < 0 ∨ nI n - 1 < nI j) := by
  cases n with
  | zero => omega
  | succ n =>
    rw [nI_pred]
    exact jn_in (lo := 0) (by omega) (by omega) (by omega)
theorem jn_ofc {x : Int32} {hi : Nat} (h : ¬ (x < 0 ∨ nI hi < x)) (hn : hi < 2 ^ 31) : ∃ j, j ≤ hi ∧ x = nI j := by
  have h1 : ¬ x < 0 := fun q => h (Or.inl q)
  have h2 : ¬ nI hi < x := fun q => h (Or.inr q)
  obtain ⟨j, hj, rfl⟩ := nI_of h1
  refine ⟨j, ?_, rfl⟩
  have h9 : ¬ hi < j := fun q => h2 ((nI_ltI hn hj).mpr q)
  omega
theorem jk_clamp (x : Int32) : (if (0 : Int32) < (if x < 10 then x else 10) then (if x < 10 then x else 10) else 0) = jm_cl 0 10 x := by
  unfold jm_cl
  by_cases h1 : x < 10
  · rw [if_pos h1]
    have h3 : ¬ (10 : Int32) < x := fun q => by
      rw [Int32.lt_iff_toInt_lt] at h1 q; omega
    by_cases h2 : 0 < x
    · rw [if_pos h2, if_neg (fun q => by rw [Int32.lt_iff_toInt_lt] at h2 q; omega), if_neg h3]
    · rw [if_neg h2]
      by_cases h4 : x < 0
      · rw [if_pos h4]
      · rw [if_neg h4, if_neg h3]
        rw [Int32.lt_iff_toInt_lt] at h2 h4
        exact Int32.toInt_inj.mp (by have : (0 : Int32).toInt = 0 := by decide
                                     omega)
  · rw [if_neg h1, if_pos (by decide)]
    have h4 : ¬ x < 0 := fun q => by
      rw [Int32.lt_iff_toInt_lt] at h1 q
      have e1 : (0 : Int32).toInt = 0 := by decide
      have e2 : (10 : Int32).toInt = 10 := by decide
      omega
    rw [if_neg h4]
    by_cases h5 : 10 < x
    · rw [if_pos h5]
    · rw [if_neg h5]
      rw [Int32.lt_iff_toInt_lt] at h1 h5
      exact Int32.toInt_inj.mp (by omega)
theorem jk_cl10 (x : Int32) : ∃ c, c ≤ 10 ∧ jm_cl 0 10 x = nI c := by
  unfold jm_cl
  by_cases h1 : x < 0
  · exact ⟨0, by omega, by rw [if_pos h1]; rfl⟩
  · rw [if_neg h1]
    by_cases h2 : 10 < x
    · exact ⟨10, by omega, by rw [if_pos h2]; rfl⟩
    · rw [if_neg h2]
      obtain ⟨j, hj, rfl⟩ := nI_of h1
      refine ⟨j, ?_, rfl⟩
      have h9 : ¬ 10 < j := fun q => h2 ((nI_ltI (a := 10) (by omega) hj).mpr q)
      omega
theorem jd_th {sc : Nat × (Nat → Int32)} {cc : ByteArray} {nL : Nat} {rt : Option FieldType} {ini : Bool} {d a b pc pc' : Nat} {ls : List (Option Value)} {st : List Value} {Q : Option Value → jb_H → Prop} {s1 s2 s3 s4 s5 s6 s7 s8 s9 s10 s11 : List va_E} {imm : Int32} {Im rowm stkm tpm : Nat → Int32} {Tm : Nat → Value} {m fg wd : Nat} {k : Nat} (hk : k < 7) (hm : m < 10) (hf : fg < 10) (hw : wd < 10) (hd : decode cc pc = .ok (.invokevirtual 86, 3)) (hd1 : 3 ≤ d) (hst : (st.map Value.category).sum ≤ 8) (hp : pc + 3 = pc') (kk : jb_J sc RX9 cc nL rt ini d a b pc' ls (.int (nI (jm_thk k m fg wd)) :: st) [jb_main imm Im Tm rowm stkm tpm, s1, s2, s3, s4, s5, s6, s7, s8, s9, s10, s11] Q) : jb_J sc RX9 cc nL rt ini d a b pc ls (.int (nI wd) :: .int (nI fg) :: .int (nI m) :: .ref (6 + k) :: st) [jb_main imm Im Tm rowm stkm tpm, s1, s2, s3, s4, s5, s6, s7, s8, s9, s10, s11] Q := by
  match k, hk with
  | 0, _ => exact jb_callU (ci := 7) (q := 6) (As := [.int (nI m), .int (nI fg), .int (nI wd)]) (a2 := a) (b2 := b) wv_X9_86_X7 rfl hd (c_th_X7_6 m fg wd hm hf hw _ _ _ _ _ _) rfl rfl ⟨by omega, Nat.le_of_eq (Nat.zero_add _), Nat.le_of_eq (Nat.zero_add _)⟩ hst hp (fun r h9 hq => by obtain ⟨rfl, rfl⟩ := hq; exact kk)
  | 1, _ => exact jb_callU (ci := 2) (q := 7) (As := [.int (nI m), .int (nI fg), .int (nI wd)]) (a2 := a) (b2 := b) wv_X9_86_X2 rfl hd (c_th_X2_7 m fg wd hm hf hw _ _ _ _ _ _) rfl rfl ⟨by omega, Nat.le_of_eq (Nat.zero_add _), Nat.le_of_eq (Nat.zero_add _)⟩ hst hp (fun r h9 hq => by obtain ⟨rfl, rfl⟩ := hq; exact kk)
  | 2, _ => exact jb_callU (ci := 5) (q := 8) (As := [.int (nI m), .int (nI fg), .int (nI wd)]) (a2 := a) (b2 := b) wv_X9_86_X5 rfl hd (c_th_X5_8 m fg wd hm hf hw _ _ _ _ _ _) rfl rfl ⟨by omega, Nat.le_of_eq (Nat.zero_add _), Nat.le_of_eq (Nat.zero_add _)⟩ hst hp (fun r h9 hq => by obtain ⟨rfl, rfl⟩ := hq; exact kk)
  | 3, _ => exact jb_callU (ci := 6) (q := 9) (As := [.int (nI m), .int (nI fg), .int (nI wd)]) (a2 := a) (b2 := b) wv_X9_86_X6 rfl hd (c_th_X6_9 m fg wd hm hf hw _ _ _ _ _ _) rfl rfl ⟨by omega, Nat.le_of_eq (Nat.zero_add _), Nat.le_of_eq (Nat.zero_add _)⟩ hst hp (fun r h9 hq => by obtain ⟨rfl, rfl⟩ := hq; exact kk)
  | 4, _ => exact jb_callU (ci := 3) (q := 10) (As := [.int (nI m), .int (nI fg), .int (nI wd)]) (a2 := a) (b2 := b) wv_X9_86_X3 rfl hd (c_th_X3_10 m fg wd hm hf hw _ _ _ _ _ _) rfl rfl ⟨by omega, Nat.le_of_eq (Nat.zero_add _), Nat.le_of_eq (Nat.zero_add _)⟩ hst hp (fun r h9 hq => by obtain ⟨rfl, rfl⟩ := hq; exact kk)
  | 5, _ => exact jb_callU (ci := 4) (q := 11) (As := [.int (nI m), .int (nI fg), .int (nI wd)]) (a2 := a) (b2 := b) wv_X9_86_X4 rfl hd (c_th_X4_11 m fg wd hm hf hw _ _ _ _ _ _) rfl rfl ⟨by omega, Nat.le_of_eq (Nat.zero_add _), Nat.le_of_eq (Nat.zero_add _)⟩ hst hp (fun r h9 hq => by obtain ⟨rfl, rfl⟩ := hq; exact kk)
  | 6, _ => exact jb_callU (ci := 1) (q := 12) (As := [.int (nI m), .int (nI fg), .int (nI wd)]) (a2 := a) (b2 := b) wv_X9_86_X1 rfl hd (c_th_X1_12 m fg wd hm hf hw _ _ _ _ _ _) rfl rfl ⟨by omega, Nat.le_of_eq (Nat.zero_add _), Nat.le_of_eq (Nat.zero_add _)⟩ hst hp (fun r h9 hq => by obtain ⟨rfl, rfl⟩ := hq; exact kk)
theorem jd_ca {sc : Nat × (Nat → Int32)} {cc : ByteArray} {nL : Nat} {rt : Option FieldType} {ini : Bool} {d a b pc pc' : Nat} {ls : List (Option Value)} {st : List Value} {Q : Option Value → jb_H → Prop} {s1 s2 s3 s4 s5 s6 s7 s8 s9 s10 s11 : List va_E} {imm : Int32} {Im rowm stkm tpm : Nat → Int32} {Tm : Nat → Value} {w m wd : Nat} {k : Nat} (hk : k < 7) (hw : w < 40) (hm : m < 10) (hd9 : wd < 10) (hd : decode cc pc = .ok (.invokevirtual 92, 3)) (hd1 : 3 ≤ d) (hst : (st.map Value.category).sum ≤ 8) (hp : pc + 3 = pc') (kk : jb_J sc RX9 cc nL rt ini d a b pc' ls (.int (jm_owk k m wd w) :: st) [jb_main imm Im Tm rowm stkm tpm, s1, s2, s3, s4, s5, s6, s7, s8, s9, s10, s11] Q) : jb_J sc RX9 cc nL rt ini d a b pc ls (.int (nI wd) :: .int (nI m) :: .int (nI w) :: .ref (6 + k) :: st) [jb_main imm Im Tm rowm stkm tpm, s1, s2, s3, s4, s5, s6, s7, s8, s9, s10, s11] Q := by
  match k, hk with
  | 0, _ => exact jb_callU (ci := 7) (q := 6) (As := [.int (nI w), .int (nI m), .int (nI wd)]) (a2 := a) (b2 := b) wv_X9_92_X7 rfl hd (c_ca_X7_6 w m wd hw hm hd9 _ _ _ _ _ _) rfl rfl ⟨by omega, Nat.le_of_eq (Nat.zero_add _), Nat.le_of_eq (Nat.zero_add _)⟩ hst hp (fun r h9 hq => by obtain ⟨rfl, rfl⟩ := hq; exact kk)
  | 1, _ => exact jb_callU (ci := 2) (q := 7) (As := [.int (nI w), .int (nI m), .int (nI wd)]) (a2 := a) (b2 := b) wv_X9_92_X2 rfl hd (c_ca_X7_7 w m wd hw hm hd9 _ _ _ _ _ _) rfl rfl ⟨by omega, Nat.le_of_eq (Nat.zero_add _), Nat.le_of_eq (Nat.zero_add _)⟩ hst hp (fun r h9 hq => by obtain ⟨rfl, rfl⟩ := hq; exact kk)
  | 2, _ => exact jb_callU (ci := 5) (q := 8) (As := [.int (nI w), .int (nI m), .int (nI wd)]) (a2 := a) (b2 := b) wv_X9_92_X5 rfl hd (c_ca_X7_8 w m wd hw hm hd9 _ _ _ _ _ _) rfl rfl ⟨by omega, Nat.le_of_eq (Nat.zero_add _), Nat.le_of_eq (Nat.zero_add _)⟩ hst hp (fun r h9 hq => by obtain ⟨rfl, rfl⟩ := hq; exact kk)
  | 3, _ => exact jb_callU (ci := 6) (q := 9) (As := [.int (nI w), .int (nI m), .int (nI wd)]) (a2 := a) (b2 := b) wv_X9_92_X6 rfl hd (c_ca_X6_9 w m wd hw hm hd9 _ _ _ _ _ _) rfl rfl ⟨by omega, Nat.le_of_eq (Nat.zero_add _), Nat.le_of_eq (Nat.zero_add _)⟩ hst hp (fun r h9 hq => by obtain ⟨rfl, rfl⟩ := hq; exact kk)
  | 4, _ => exact jb_callU (ci := 3) (q := 10) (As := [.int (nI w), .int (nI m), .int (nI wd)]) (a2 := a) (b2 := b) wv_X9_92_X3 rfl hd (c_ca_X3_10 w m wd hw hm hd9 _ _ _ _ _ _) rfl rfl ⟨by omega, Nat.le_of_eq (Nat.zero_add _), Nat.le_of_eq (Nat.zero_add _)⟩ hst hp (fun r h9 hq => by obtain ⟨rfl, rfl⟩ := hq; exact kk)
  | 5, _ => exact jb_callU (ci := 4) (q := 11) (As := [.int (nI w), .int (nI m), .int (nI wd)]) (a2 := a) (b2 := b) wv_X9_92_X4 rfl hd (c_ca_X4_11 w m wd hw hm hd9 _ _ _ _ _ _) rfl rfl ⟨by omega, Nat.le_of_eq (Nat.zero_add _), Nat.le_of_eq (Nat.zero_add _)⟩ hst hp (fun r h9 hq => by obtain ⟨rfl, rfl⟩ := hq; exact kk)
  | 6, _ => exact jb_callU (ci := 1) (q := 12) (As := [.int (nI w), .int (nI m), .int (nI wd)]) (a2 := a) (b2 := b) wv_X9_92_X1 rfl hd (c_ca_X1_12 w m wd hw hm hd9 _ _ _ _ _ _) rfl rfl ⟨by omega, Nat.le_of_eq (Nat.zero_add _), Nat.le_of_eq (Nat.zero_add _)⟩ hst hp (fun r h9 hq => by obtain ⟨rfl, rfl⟩ := hq; exact kk)
theorem jd_an {sc : Nat × (Nat → Int32)} {cc : ByteArray} {nL : Nat} {rt : Option FieldType} {ini : Bool} {d a b pc pc' : Nat} {ls : List (Option Value)} {st : List Value} {Q : Option Value → jb_H → Prop} {s1 s2 s3 s4 s5 s6 s7 s8 s9 s10 s11 : List va_E} {imm : Int32} {Im rowm stkm tpm : Nat → Int32} {Tm : Nat → Value} {w g m : Nat} {k : Nat} (hk : k < 7) (hw : w < 40) (hg : g < 40) (hm : m < 10) (hd : decode cc pc = .ok (.invokevirtual 108, 3)) (hd1 : 3 ≤ d) (hst : (st.map Value.category).sum ≤ 8) (hp : pc + 3 = pc') (kk : jb_J sc RX9 cc nL rt ini d a b pc' ls (.int (nI (jm_sak k m w g)) :: st) [jb_main imm Im Tm rowm stkm tpm, s1, s2, s3, s4, s5, s6, s7, s8, s9, s10, s11] Q) : jb_J sc RX9 cc nL rt ini d a b pc ls (.int (nI m) :: .int (nI g) :: .int (nI w) :: .ref (6 + k) :: st) [jb_main imm Im Tm rowm stkm tpm, s1, s2, s3, s4, s5, s6, s7, s8, s9, s10, s11] Q := by
  match k, hk with
  | 0, _ => exact jb_callU (ci := 7) (q := 6) (As := [.int (nI w), .int (nI g), .int (nI m)]) (a2 := a) (b2 := b) wv_X9_108_X7 rfl hd (c_an_X7_6 w g m hw hg hm _ _ _ _ _ _) rfl rfl ⟨by omega, Nat.le_of_eq (Nat.zero_add _), Nat.le_of_eq (Nat.zero_add _)⟩ hst hp (fun r h9 hq => by obtain ⟨rfl, rfl⟩ := hq; exact kk)
  | 1, _ => exact jb_callU (ci := 2) (q := 7) (As := [.int (nI w), .int (nI g), .int (nI m)]) (a2 := a) (b2 := b) wv_X9_108_X2 rfl hd (c_an_X7_7 w g m hw hg hm _ _ _ _ _ _) rfl rfl ⟨by omega, Nat.le_of_eq (Nat.zero_add _), Nat.le_of_eq (Nat.zero_add _)⟩ hst hp (fun r h9 hq => by obtain ⟨rfl, rfl⟩ := hq; exact kk)
  | 2, _ => exact jb_callU (ci := 5) (q := 8) (As := [.int (nI w), .int (nI g), .int (nI m)]) (a2 := a) (b2 := b) wv_X9_108_X5 rfl hd (c_an_X7_8 w g m hw hg hm _ _ _ _ _ _) rfl rfl ⟨by omega, Nat.le_of_eq (Nat.zero_add _), Nat.le_of_eq (Nat.zero_add _)⟩ hst hp (fun r h9 hq => by obtain ⟨rfl, rfl⟩ := hq; exact kk)
  | 3, _ => exact jb_callU (ci := 6) (q := 9) (As := [.int (nI w), .int (nI g), .int (nI m)]) (a2 := a) (b2 := b) wv_X9_108_X6 rfl hd (c_an_X7_9 w g m hw hg hm _ _ _ _ _ _) rfl rfl ⟨by omega, Nat.le_of_eq (Nat.zero_add _), Nat.le_of_eq (Nat.zero_add _)⟩ hst hp (fun r h9 hq => by obtain ⟨rfl, rfl⟩ := hq; exact kk)
  | 4, _ => exact jb_callU (ci := 3) (q := 10) (As := [.int (nI w), .int (nI g), .int (nI m)]) (a2 := a) (b2 := b) wv_X9_108_X3 rfl hd (c_an_X3_10 w g m hw hg hm _ _ _ _ _ _) rfl rfl ⟨by omega, Nat.le_of_eq (Nat.zero_add _), Nat.le_of_eq (Nat.zero_add _)⟩ hst hp (fun r h9 hq => by obtain ⟨rfl, rfl⟩ := hq; exact kk)
  | 5, _ => exact jb_callU (ci := 4) (q := 11) (As := [.int (nI w), .int (nI g), .int (nI m)]) (a2 := a) (b2 := b) wv_X9_108_X4 rfl hd (c_an_X7_11 w g m hw hg hm _ _ _ _ _ _) rfl rfl ⟨by omega, Nat.le_of_eq (Nat.zero_add _), Nat.le_of_eq (Nat.zero_add _)⟩ hst hp (fun r h9 hq => by obtain ⟨rfl, rfl⟩ := hq; exact kk)
  | 6, _ => exact jb_callU (ci := 1) (q := 12) (As := [.int (nI w), .int (nI g), .int (nI m)]) (a2 := a) (b2 := b) wv_X9_108_X1 rfl hd (c_an_X1_12 w g m hw hg hm _ _ _ _ _ _) rfl rfl ⟨by omega, Nat.le_of_eq (Nat.zero_add _), Nat.le_of_eq (Nat.zero_add _)⟩ hst hp (fun r h9 hq => by obtain ⟨rfl, rfl⟩ := hq; exact kk)
set_option maxRecDepth 100000 in
set_option maxHeartbeats 4000000 in
theorem c_gap_13 {sc : Nat × (Nat → Int32)} {s0 s2 s3 s4 s5 s6 s7 s8 s9 s10 s11 : List va_E} (I : Nat → Int32) (W : Nat → Nat → Int32) (T : Nat → Value) : jb_C sc yX9_gap cX9_gap 1 (Option.some .int) 0 0 0 [.ref 13] [s0, jb_sch13 I W T, s2, s3, s4, s5, s6, s7, s8, s9, s10, s11] (fun r h9 => r = some (.int (W 0 0 + W 0 1)) ∧ h9 = [s0, jb_sch13 I W T, s2, s3, s4, s5, s6, s7, s8, s9, s10, s11]) := by
  refine jb_CofJ (ini := false) (by decide +kernel) (fun h => by cases h) (Nat.le_of_ble_eq_true rfl) ?_
  show jb_J sc RX9 cX9_gap 1 (Option.some .int) false 0 0 0 0 [some (.ref 13)] [] [s0, jb_sch13 I W T, s2, s3, s4, s5, s6, s7, s8, s9, s10, s11] _
  refine jb_aload_n (pc' := 1) dX9_gap_0 rfl rfl ?_
  refine gf_X9_9 (pc' := 4) (v := .ref 14) dX9_gap_1 rfl rfl rfl ?_
  refine jb_iconst (pc' := 5) 0 dX9_gap_4 (by decide) rfl ?_
  refine jb_iaload (pc' := 6) (i9 := 0) (f := (W 0)) dX9_gap_5 rfl jb_x0 (by decide) rfl ?_
  refine jb_aload_n (pc' := 7) dX9_gap_6 rfl rfl ?_
  refine gf_X9_9 (pc' := 10) (v := .ref 14) dX9_gap_7 rfl rfl rfl ?_
  refine jb_iconst (pc' := 11) 1 dX9_gap_10 (by decide) rfl ?_
  refine jb_iaload (pc' := 12) (i9 := 1) (f := (W 0)) dX9_gap_11 rfl jb_x1 (by decide) rfl ?_
  refine jb_iadd (pc' := 13) dX9_gap_12 rfl ?_
  refine jb_iret dX9_gap_13 rfl ?_
  exact ⟨rfl, rfl⟩
set_option maxRecDepth 100000 in
set_option maxHeartbeats 4000000 in
theorem c_kindOf_13 {sc : Nat × (Nat → Int32)} {s2 s3 s4 s5 s6 s7 s8 s9 s10 s11 : List va_E} {V : Nat → Nat → Nat} (imm : Int32) (Im rowm stkm tpm : Nat → Int32) (Tm : Nat → Value) (I : Nat → Int32) (W : Nat → Nat → Int32) (T : Nat → Value) (hr : jr_ V I W) (hk : jv_ok V) (v : Nat) (hv : v < V 0 1) : jb_C sc yX9_kindOf cX9_kindOf 3 (Option.some (.object "DeafBell$Pupil")) 1 0 0 [.ref 13, .int (nI v)] [jb_main imm Im Tm rowm stkm tpm, jb_sch13 I W T, s2, s3, s4, s5, s6, s7, s8, s9, s10, s11] (fun r h9 => r = some (.ref (6 + V 1 v)) ∧ h9 = [jb_main imm Im Tm rowm stkm tpm, jb_sch13 I W T, s2, s3, s4, s5, s6, s7, s8, s9, s10, s11]) := by
  refine jb_CofJ (ini := false) (by decide +kernel) (fun h => by cases h) (Nat.le_of_ble_eq_true rfl) ?_
  show jb_J sc RX9 cX9_kindOf 3 (Option.some (.object "DeafBell$Pupil")) false 1 0 0 0 [some (.ref 13), some (.int (nI v)), none] [] [jb_main imm Im Tm rowm stkm tpm, jb_sch13 I W T, s2, s3, s4, s5, s6, s7, s8, s9, s10, s11] _
  obtain ⟨r0, r2, r3, r4, a0, a1, a2, rv, rs, rd⟩ := hr
  obtain ⟨k0, k1, k2, k3, k4, k5, k6, k7, kv, ks, kd⟩ := hk
  have q1 := kv v hv
  refine jb_aload_n (pc' := 1) dX9_kindOf_0 rfl rfl ?_
  refine gf_X9_27 (pc' := 4) (v := .ref 15) dX9_kindOf_1 rfl rfl rfl ?_
  refine jb_iconst (pc' := 5) 0 dX9_kindOf_4 (by decide) rfl ?_
  refine jb_aaload (pc' := 6) (i9 := 0) (r := 16) (Or.inl rfl) dX9_kindOf_5 rfl jb_x0 (by decide) rfl rfl ?_
  refine jb_iload_n (pc' := 7) dX9_kindOf_6 rfl rfl ?_
  refine jb_iaload (pc' := 8) (i9 := v) (f := (W 1)) dX9_kindOf_7 rfl (jb_ix_nI (by omega)) (by omega) rfl ?_
  refine jb_top (v := .int ((W 1) v)) (w := .int (nI (V 1 v))) (jb_vI (rv v (by omega)).1) ?_
  refine jb_istore_n_ (pc' := 9) dX9_kindOf_8 (by decide) (jb_at2 rfl) rfl ?_
  refine jb_aload_n (pc' := 10) dX9_kindOf_9 rfl rfl ?_
  refine gf_X9_60 (pc' := 13) (v := .ref 5) dX9_kindOf_10 rfl rfl rfl ?_
  refine jb_iload_n (pc' := 14) dX9_kindOf_13 rfl rfl ?_
  refine jb_iconst (pc' := 15) 0 dX9_kindOf_14 (by decide) rfl ?_
  refine jb_aload_n (pc' := 16) dX9_kindOf_15 rfl rfl ?_
  refine gf_X9_60 (pc' := 19) (v := .ref 5) dX9_kindOf_16 rfl rfl rfl ?_
  refine jb_alen (pc' := 20) 7 (by decide) dX9_kindOf_19 rfl (by decide) rfl ?_
  refine jb_iconst (pc' := 21) 1 dX9_kindOf_20 (by decide) rfl ?_
  refine jb_isub (pc' := 22) dX9_kindOf_21 rfl ?_
  refine jb_top (v := .int (7 - 1)) (w := .int 6) (jb_vI (by decide)) ?_
  refine jb_callSN (pc' := 25) (As := [.int (nI (V 1 v)), .int 0, .int 6]) (a2 := 0) (b2 := 0) wv_X9_78 dX9_kindOf_22 (c_isOutside (nI (V 1 v)) 0 6) rfl ⟨by decide, Nat.le_of_eq (Nat.zero_add _), Nat.le_of_eq (Nat.zero_add _)⟩ (Nat.le_of_ble_eq_true rfl) rfl (fun r h9 hq => ?_)
  rcases hq with ⟨rfl, ⟨o1, rfl⟩ | ⟨o1, rfl⟩⟩
  · exact absurd (by assumption) (jn_in (a := V 1 v) (lo := 0) (hi := 6) (by omega) (by omega) (by omega))
  · show jb_J _ RX9 cX9_kindOf 3 (Option.some (.object "DeafBell$Pupil")) false 1 0 0 25 [some (.ref 13), some (.int (nI v)), some (.int (nI (V 1 v)))] [.int 0, .ref 5] [jb_main imm Im Tm rowm stkm tpm, jb_sch13 I W T, s2, s3, s4, s5, s6, s7, s8, s9, s10, s11] _
    refine jb_if_eq (tgt := 32) (pc' := 28) dX9_kindOf_25 (by decide) rfl (fun _ => ?_) (fun z => absurd (by decide) z)
    refine jb_iload_n (pc' := 33) dX9_kindOf_32 rfl rfl ?_
    refine jb_aaload (pc' := 34) (i9 := V 1 v) (r := (6 + V 1 v)) (Or.inr (Or.inl rfl)) dX9_kindOf_33 rfl (jb_ix_nI (by omega)) (by omega) (jk_kinds (by omega)) rfl ?_
    refine jb_aret dX9_kindOf_34 (by first | exact Or.inl ⟨_, rfl⟩ | exact Or.inr ⟨_, rfl⟩) ?_
    exact ⟨rfl, rfl⟩
set_option maxRecDepth 100000 in
set_option maxHeartbeats 4000000 in
theorem c_thinking_13 {sc : Nat × (Nat → Int32)} {s2 s3 s4 s5 s6 s7 s8 s9 s10 s11 : List va_E} {V : Nat → Nat → Nat} (imm : Int32) (Im rowm stkm tpm : Nat → Int32) (Tm : Nat → Value) (I : Nat → Int32) (W : Nat → Nat → Int32) (T : Nat → Value) (hr : jr_ V I W) (hk : jv_ok V) (v : Nat) (hv : v < V 0 1) : jb_C sc yX9_thinking cX9_thinking 2 (Option.some .int) 3 0 0 [.ref 13, .int (nI v)] [jb_main imm Im Tm rowm stkm tpm, jb_sch13 I W T, s2, s3, s4, s5, s6, s7, s8, s9, s10, s11] (fun r h9 => r = some (.int (nI (jm_th V v))) ∧ h9 = [jb_main imm Im Tm rowm stkm tpm, jb_sch13 I W T, s2, s3, s4, s5, s6, s7, s8, s9, s10, s11]) := by
  refine jb_CofJ (ini := false) (by decide +kernel) (fun h => by cases h) (Nat.le_of_ble_eq_true rfl) ?_
  show jb_J sc RX9 cX9_thinking 2 (Option.some .int) false 3 0 0 0 [some (.ref 13), some (.int (nI v))] [] [jb_main imm Im Tm rowm stkm tpm, jb_sch13 I W T, s2, s3, s4, s5, s6, s7, s8, s9, s10, s11] _
  obtain ⟨r0, r2, r3, r4, a0, a1, a2, rv, rs, rd⟩ := hr
  obtain ⟨k0, k1, k2, k3, k4, k5, k6, k7, kv, ks, kd⟩ := hk
  have q1 := kv v hv
  refine jb_aload_n (pc' := 1) dX9_thinking_0 rfl rfl ?_
  refine jb_iload_n (pc' := 2) dX9_thinking_1 rfl rfl ?_
  refine jb_callV (pc' := 5) (ci := 9) (q := 13) (As := [.int (nI v)]) (a2 := 0) (b2 := 0) wv_X9_82 rfl dX9_thinking_2 (c_kindOf_13 _ _ _ _ _ _ I W T ⟨r0, r2, r3, r4, a0, a1, a2, rv, rs, rd⟩ ⟨k0, k1, k2, k3, k4, k5, k6, k7, kv, ks, kd⟩ v (by omega)) rfl rfl ⟨by decide, Nat.le_of_eq (Nat.zero_add _), Nat.le_of_eq (Nat.zero_add _)⟩ (Nat.le_of_ble_eq_true rfl) rfl (fun r h9 hq => ?_)
  obtain ⟨rfl, rfl⟩ := hq
  show jb_J _ RX9 cX9_thinking 2 (Option.some .int) false 3 0 0 5 [some (.ref 13), some (.int (nI v))] [.ref (6 + V 1 v)] [jb_main imm Im Tm rowm stkm tpm, jb_sch13 I W T, s2, s3, s4, s5, s6, s7, s8, s9, s10, s11] _
  refine jb_aload_n (pc' := 6) dX9_thinking_5 rfl rfl ?_
  refine gf_X9_27 (pc' := 9) (v := .ref 15) dX9_thinking_6 rfl rfl rfl ?_
  refine jb_iconst (pc' := 10) 1 dX9_thinking_9 (by decide) rfl ?_
  refine jb_aaload (pc' := 11) (i9 := 1) (r := 17) (Or.inl rfl) dX9_thinking_10 rfl jb_x1 (by decide) rfl rfl ?_
  refine jb_iload_n (pc' := 12) dX9_thinking_11 rfl rfl ?_
  refine jb_iaload (pc' := 13) (i9 := v) (f := (W 2)) dX9_thinking_12 rfl (jb_ix_nI (by omega)) (by omega) rfl ?_
  refine jb_top (v := .int ((W 2) v)) (w := .int (nI (V 2 v))) (jb_vI (rv v (by omega)).2.1) ?_
  refine jb_aload_n (pc' := 14) dX9_thinking_13 rfl rfl ?_
  refine gf_X9_9 (pc' := 17) (v := .ref 14) dX9_thinking_14 rfl rfl rfl ?_
  refine jb_iconst (pc' := 18) 1 dX9_thinking_17 (by decide) rfl ?_
  refine jb_iaload (pc' := 19) (i9 := 1) (f := (W 0)) dX9_thinking_18 rfl jb_x1 (by decide) rfl ?_
  refine jb_top (v := .int ((W 0) 1)) (w := .int (nI (V 0 5))) (jb_vI a1) ?_
  refine jb_aload_n (pc' := 20) dX9_thinking_19 rfl rfl ?_
  refine gf_X9_9 (pc' := 23) (v := .ref 14) dX9_thinking_20 rfl rfl rfl ?_
  refine jb_iconst (pc' := 24) 2 dX9_thinking_23 (by decide) rfl ?_
  refine jb_iaload (pc' := 25) (i9 := 2) (f := (W 0)) dX9_thinking_24 rfl jb_x2 (by decide) rfl ?_
  refine jb_top (v := .int ((W 0) 2)) (w := .int (nI (V 0 6))) (jb_vI a2) ?_
  refine jd_th (pc' := 28) (k := V 1 v) (by omega) (by omega) (by omega) (by omega) dX9_thinking_25 (by decide) (Nat.le_of_ble_eq_true rfl) rfl ?_
  refine jb_iret dX9_thinking_28 rfl ?_
  exact ⟨rfl, rfl⟩
def jG13 (sc : Nat × (Nat → Int32)) (T : Nat → Value) (s11 : List va_E) (G : jm_G) : Prop := ∀ (s2 s3 s4 s5 s6 s7 s8 s9 s10 : List va_E) (imm : Int32) (Im rowm stkm tpm : Nat → Int32) (Tm : Nat → Value) (I : Nat → Int32) (W : Nat → Nat → Int32) (u : Nat) (x y z w : Int32), u < 2 → jb_C sc yX9_gives cX9_gives 7 (Option.some .int) 4 0 0 [.ref 13, .int (nI u), .int x, .int y, .int z, .int w] [jb_main imm Im Tm rowm stkm tpm, jb_sch13 I W T, s2, s3, s4, s5, s6, s7, s8, s9, s10, s11] (fun r h9 => r = some (.int (G u x y z w)) ∧ ∃ stk9, h9 = [jb_main imm Im Tm rowm stk9 tpm, jb_sch13 I W T, s2, s3, s4, s5, s6, s7, s8, s9, s10, s11])
set_option maxRecDepth 100000 in
set_option maxHeartbeats 4000000 in
theorem c_carriage_13 {sc : Nat × (Nat → Int32)} {s2 s3 s4 s5 s6 s7 s8 s9 s10 s11 : List va_E} {V : Nat → Nat → Nat} (imm : Int32) (Im rowm stkm tpm : Nat → Int32) (Tm : Nat → Value) (I : Nat → Int32) (W : Nat → Nat → Int32) (T : Nat → Value) (hr : jr_ V I W) (hk : jv_ok V) {G : jm_G} (hG : jm_Gok G) (hg : jG13 sc T s11 G) (v w : Nat) (hv : v < V 0 1) (hw : w < 40) : jb_C sc yX9_carriage cX9_carriage 5 (Option.some .int) 5 0 0 [.ref 13, .int (nI v), .int (nI w)] [jb_main imm Im Tm rowm stkm tpm, jb_sch13 I W T, s2, s3, s4, s5, s6, s7, s8, s9, s10, s11] (fun r h9 => r = some (.int (jm_ca V G v w)) ∧ ∃ stk9, h9 = [jb_main imm Im Tm rowm stk9 tpm, jb_sch13 I W T, s2, s3, s4, s5, s6, s7, s8, s9, s10, s11]) := by
  refine jb_CofJ (ini := false) (by decide +kernel) (fun h => by cases h) (Nat.le_of_ble_eq_true rfl) ?_
  show jb_J sc RX9 cX9_carriage 5 (Option.some .int) false 5 0 0 0 [some (.ref 13), some (.int (nI v)), some (.int (nI w)), none, none] [] [jb_main imm Im Tm rowm stkm tpm, jb_sch13 I W T, s2, s3, s4, s5, s6, s7, s8, s9, s10, s11] _
  obtain ⟨r0, r2, r3, r4, a0, a1, a2, rv, rs, rd⟩ := hr
  obtain ⟨k0, k1, k2, k3, k4, k5, k6, k7, kv, ks, kd⟩ := hk
  have q1 := kv v hv
  refine jb_aload_n (pc' := 1) dX9_carriage_0 rfl rfl ?_
  refine jb_iload_n (pc' := 2) dX9_carriage_1 rfl rfl ?_
  refine jb_callV (pc' := 5) (ci := 9) (q := 13) (As := [.int (nI v)]) (a2 := 0) (b2 := 0) wv_X9_82 rfl dX9_carriage_2 (c_kindOf_13 _ _ _ _ _ _ I W T ⟨r0, r2, r3, r4, a0, a1, a2, rv, rs, rd⟩ ⟨k0, k1, k2, k3, k4, k5, k6, k7, kv, ks, kd⟩ v (by omega)) rfl rfl ⟨by decide, Nat.le_of_eq (Nat.zero_add _), Nat.le_of_eq (Nat.zero_add _)⟩ (Nat.le_of_ble_eq_true rfl) rfl (fun r h9 hq => ?_)
  obtain ⟨rfl, rfl⟩ := hq
  show jb_J _ RX9 cX9_carriage 5 (Option.some .int) false 5 0 0 5 [some (.ref 13), some (.int (nI v)), some (.int (nI w)), none, none] [.ref (6 + V 1 v)] [jb_main imm Im Tm rowm stkm tpm, jb_sch13 I W T, s2, s3, s4, s5, s6, s7, s8, s9, s10, s11] _
  refine jb_iload_n (pc' := 6) dX9_carriage_5 rfl rfl ?_
  refine jb_aload_n (pc' := 7) dX9_carriage_6 rfl rfl ?_
  refine gf_X9_27 (pc' := 10) (v := .ref 15) dX9_carriage_7 rfl rfl rfl ?_
  refine jb_iconst (pc' := 11) 1 dX9_carriage_10 (by decide) rfl ?_
  refine jb_aaload (pc' := 12) (i9 := 1) (r := 17) (Or.inl rfl) dX9_carriage_11 rfl jb_x1 (by decide) rfl rfl ?_
  refine jb_iload_n (pc' := 13) dX9_carriage_12 rfl rfl ?_
  refine jb_iaload (pc' := 14) (i9 := v) (f := (W 2)) dX9_carriage_13 rfl (jb_ix_nI (by omega)) (by omega) rfl ?_
  refine jb_top (v := .int ((W 2) v)) (w := .int (nI (V 2 v))) (jb_vI (rv v (by omega)).2.1) ?_
  refine jb_aload_n (pc' := 15) dX9_carriage_14 rfl rfl ?_
  refine gf_X9_9 (pc' := 18) (v := .ref 14) dX9_carriage_15 rfl rfl rfl ?_
  refine jb_iconst (pc' := 19) 2 dX9_carriage_18 (by decide) rfl ?_
  refine jb_iaload (pc' := 20) (i9 := 2) (f := (W 0)) dX9_carriage_19 rfl jb_x2 (by decide) rfl ?_
  refine jb_top (v := .int ((W 0) 2)) (w := .int (nI (V 0 6))) (jb_vI a2) ?_
  refine jd_ca (pc' := 23) (k := V 1 v) (by omega) (by omega) (by omega) (by omega) dX9_carriage_20 (by decide) (Nat.le_of_ble_eq_true rfl) rfl ?_
  refine jb_istore_n_ (pc' := 24) dX9_carriage_23 (by decide) (jb_at3 rfl) rfl ?_
  refine jb_aload_n (pc' := 25) dX9_carriage_24 rfl rfl ?_
  refine jb_iconst (pc' := 26) 0 dX9_carriage_25 (by decide) rfl ?_
  refine jb_iload_n (pc' := 27) dX9_carriage_26 rfl rfl ?_
  refine jb_aload_n (pc' := 28) dX9_carriage_27 rfl rfl ?_
  refine gf_X9_9 (pc' := 31) (v := .ref 14) dX9_carriage_28 rfl rfl rfl ?_
  refine jb_iconst (pc' := 32) 1 dX9_carriage_31 (by decide) rfl ?_
  refine jb_iaload (pc' := 33) (i9 := 1) (f := (W 0)) dX9_carriage_32 rfl jb_x1 (by decide) rfl ?_
  refine jb_top (v := .int ((W 0) 1)) (w := .int (nI (V 0 5))) (jb_vI a1) ?_
  refine jb_aload_n (pc' := 34) dX9_carriage_33 rfl rfl ?_
  refine gf_X9_9 (pc' := 37) (v := .ref 14) dX9_carriage_34 rfl rfl rfl ?_
  refine jb_iconst (pc' := 38) 2 dX9_carriage_37 (by decide) rfl ?_
  refine jb_iaload (pc' := 39) (i9 := 2) (f := (W 0)) dX9_carriage_38 rfl jb_x2 (by decide) rfl ?_
  refine jb_top (v := .int ((W 0) 2)) (w := .int (nI (V 0 6))) (jb_vI a2) ?_
  refine jb_aload_n (pc' := 40) dX9_carriage_39 rfl rfl ?_
  refine gf_X9_27 (pc' := 43) (v := .ref 15) dX9_carriage_40 rfl rfl rfl ?_
  refine jb_iconst (pc' := 44) 0 dX9_carriage_43 (by decide) rfl ?_
  refine jb_aaload (pc' := 45) (i9 := 0) (r := 16) (Or.inl rfl) dX9_carriage_44 rfl jb_x0 (by decide) rfl rfl ?_
  refine jb_iload_n (pc' := 46) dX9_carriage_45 rfl rfl ?_
  refine jb_iaload (pc' := 47) (i9 := v) (f := (W 1)) dX9_carriage_46 rfl (jb_ix_nI (by omega)) (by omega) rfl ?_
  refine jb_top (v := .int ((W 1) v)) (w := .int (nI (V 1 v))) (jb_vI (rv v (by omega)).1) ?_
  refine jb_callV (pc' := 50) (ci := 9) (q := 13) (As := [.int 0, .int (nI w), .int (nI (V 0 5)), .int (nI (V 0 6)), .int (nI (V 1 v))]) (a2 := 0) (b2 := 0) wv_X9_95 rfl dX9_carriage_47 (hg _ _ _ _ _ _ _ _ _ _ _ _ _ _ _ _ _ 0 (nI w) (nI (V 0 5)) (nI (V 0 6)) (nI (V 1 v)) (by decide)) rfl rfl ⟨by decide, Nat.le_of_eq (Nat.zero_add _), Nat.le_of_eq (Nat.zero_add _)⟩ (Nat.le_of_ble_eq_true rfl) rfl (fun r h9 hq => ?_)
  obtain ⟨rfl, stk9, rfl⟩ := hq
  show jb_J _ RX9 cX9_carriage 5 (Option.some .int) false 5 0 0 50 [some (.ref 13), some (.int (nI v)), some (.int (nI w)), some (.int (jm_owk (V 1 v) (V 2 v) (V 0 6) w)), none] [.int (G 0 (nI w) (nI (V 0 5)) (nI (V 0 6)) (nI (V 1 v)))] [jb_main imm Im Tm rowm stk9 tpm, jb_sch13 I W T, s2, s3, s4, s5, s6, s7, s8, s9, s10, s11] _
  refine jb_istore_ (pc' := 52) dX9_carriage_50 (by decide) (jb_at4 rfl) rfl ?_
  refine jb_iconst (pc' := 53) 0 dX9_carriage_52 (by decide) rfl ?_
  refine jb_bipush (pc' := 55) 10 dX9_carriage_53 (by decide) rfl ?_
  refine jb_iload_n (pc' := 56) dX9_carriage_55 rfl rfl ?_
  refine jb_iload (pc' := 58) dX9_carriage_56 rfl rfl ?_
  refine jb_iadd (pc' := 59) dX9_carriage_58 rfl ?_
  refine jb_mmin (pc' := 62) wv_X9_99 dX9_carriage_59 (by decide) (Nat.le_of_ble_eq_true rfl) rfl ?_
  refine jb_mmax (pc' := 65) wv_X9_105 dX9_carriage_62 (by decide) (Nat.le_of_ble_eq_true rfl) rfl ?_
  refine jb_top (v := .int (if 0 < (if ((jm_owk (V 1 v) (V 2 v) (V 0 6) w) + (G 0 (nI w) (nI (V 0 5)) (nI (V 0 6)) (nI (V 1 v)))) < 10 then ((jm_owk (V 1 v) (V 2 v) (V 0 6) w) + (G 0 (nI w) (nI (V 0 5)) (nI (V 0 6)) (nI (V 1 v)))) else 10) then (if ((jm_owk (V 1 v) (V 2 v) (V 0 6) w) + (G 0 (nI w) (nI (V 0 5)) (nI (V 0 6)) (nI (V 1 v)))) < 10 then ((jm_owk (V 1 v) (V 2 v) (V 0 6) w) + (G 0 (nI w) (nI (V 0 5)) (nI (V 0 6)) (nI (V 1 v)))) else 10) else 0)) (w := .int (jm_ca V G v w)) (jb_vI (jk_clamp _)) ?_
  refine jb_iret dX9_carriage_65 rfl ?_
  exact ⟨rfl, _, rfl⟩
set_option maxRecDepth 100000 in
set_option maxHeartbeats 4000000 in
theorem c_wordSaid_13 {sc : Nat × (Nat → Int32)} {s2 s3 s4 s5 s6 s7 s8 s9 s10 s11 : List va_E} {V : Nat → Nat → Nat} (imm : Int32) (Im rowm stkm tpm : Nat → Int32) (Tm : Nat → Value) (I : Nat → Int32) (W : Nat → Nat → Int32) (T : Nat → Value) (hr : jr_ V I W) (hk : jv_ok V) {G : jm_G} (hG : jm_Gok G) (hg : jG13 sc T s11 G) (v w : Nat) (hv : v < V 0 1) (hw : w < 40) : jb_C sc yX9_wordSaid cX9_wordSaid 5 (Option.some .int) 5 0 0 [.ref 13, .int (nI v), .int (nI w)] [jb_main imm Im Tm rowm stkm tpm, jb_sch13 I W T, s2, s3, s4, s5, s6, s7, s8, s9, s10, s11] (fun r h9 => r = some (.int (nI (jm_sa V G v w))) ∧ ∃ stk9, h9 = [jb_main imm Im Tm rowm stk9 tpm, jb_sch13 I W T, s2, s3, s4, s5, s6, s7, s8, s9, s10, s11]) := by
  refine jb_CofJ (ini := false) (by decide +kernel) (fun h => by cases h) (Nat.le_of_ble_eq_true rfl) ?_
  show jb_J sc RX9 cX9_wordSaid 5 (Option.some .int) false 5 0 0 0 [some (.ref 13), some (.int (nI v)), some (.int (nI w)), none, none] [] [jb_main imm Im Tm rowm stkm tpm, jb_sch13 I W T, s2, s3, s4, s5, s6, s7, s8, s9, s10, s11] _
  obtain ⟨r0, r2, r3, r4, a0, a1, a2, rv, rs, rd⟩ := hr
  obtain ⟨k0, k1, k2, k3, k4, k5, k6, k7, kv, ks, kd⟩ := hk
  have q1 := kv v hv
  obtain ⟨g, hg40, eg⟩ := hG (nI w) (nI (V 2 v)) (nI (V 3 v)) 0
  refine jb_aload_n (pc' := 1) dX9_wordSaid_0 rfl rfl ?_
  refine gf_X9_27 (pc' := 4) (v := .ref 15) dX9_wordSaid_1 rfl rfl rfl ?_
  refine jb_iconst (pc' := 5) 1 dX9_wordSaid_4 (by decide) rfl ?_
  refine jb_aaload (pc' := 6) (i9 := 1) (r := 17) (Or.inl rfl) dX9_wordSaid_5 rfl jb_x1 (by decide) rfl rfl ?_
  refine jb_iload_n (pc' := 7) dX9_wordSaid_6 rfl rfl ?_
  refine jb_iaload (pc' := 8) (i9 := v) (f := (W 2)) dX9_wordSaid_7 rfl (jb_ix_nI (by omega)) (by omega) rfl ?_
  refine jb_top (v := .int ((W 2) v)) (w := .int (nI (V 2 v))) (jb_vI (rv v (by omega)).2.1) ?_
  refine jb_istore_n_ (pc' := 9) dX9_wordSaid_8 (by decide) (jb_at3 rfl) rfl ?_
  refine jb_aload_n (pc' := 10) dX9_wordSaid_9 rfl rfl ?_
  refine jb_iconst (pc' := 11) 1 dX9_wordSaid_10 (by decide) rfl ?_
  refine jb_iload_n (pc' := 12) dX9_wordSaid_11 rfl rfl ?_
  refine jb_iload_n (pc' := 13) dX9_wordSaid_12 rfl rfl ?_
  refine jb_aload_n (pc' := 14) dX9_wordSaid_13 rfl rfl ?_
  refine gf_X9_27 (pc' := 17) (v := .ref 15) dX9_wordSaid_14 rfl rfl rfl ?_
  refine jb_iconst (pc' := 18) 2 dX9_wordSaid_17 (by decide) rfl ?_
  refine jb_aaload (pc' := 19) (i9 := 2) (r := 18) (Or.inl rfl) dX9_wordSaid_18 rfl jb_x2 (by decide) rfl rfl ?_
  refine jb_iload_n (pc' := 20) dX9_wordSaid_19 rfl rfl ?_
  refine jb_iaload (pc' := 21) (i9 := v) (f := (W 3)) dX9_wordSaid_20 rfl (jb_ix_nI (by omega)) (by omega) rfl ?_
  refine jb_top (v := .int ((W 3) v)) (w := .int (nI (V 3 v))) (jb_vI (rv v (by omega)).2.2) ?_
  refine jb_iconst (pc' := 22) 0 dX9_wordSaid_21 (by decide) rfl ?_
  refine jb_callV (pc' := 25) (ci := 9) (q := 13) (As := [.int 1, .int (nI w), .int (nI (V 2 v)), .int (nI (V 3 v)), .int 0]) (a2 := 0) (b2 := 0) wv_X9_95 rfl dX9_wordSaid_22 (hg _ _ _ _ _ _ _ _ _ _ _ _ _ _ _ _ _ 1 (nI w) (nI (V 2 v)) (nI (V 3 v)) 0 (by decide)) rfl rfl ⟨by decide, Nat.le_of_eq (Nat.zero_add _), Nat.le_of_eq (Nat.zero_add _)⟩ (Nat.le_of_ble_eq_true rfl) rfl (fun r h9 hq => ?_)
  obtain ⟨rfl, stk9, rfl⟩ := hq
  show jb_J _ RX9 cX9_wordSaid 5 (Option.some .int) false 5 0 0 25 [some (.ref 13), some (.int (nI v)), some (.int (nI w)), some (.int (nI (V 2 v))), none] [.int (G 1 (nI w) (nI (V 2 v)) (nI (V 3 v)) 0)] [jb_main imm Im Tm rowm stk9 tpm, jb_sch13 I W T, s2, s3, s4, s5, s6, s7, s8, s9, s10, s11] _
  refine jb_top (v := .int (G 1 (nI w) (nI (V 2 v)) (nI (V 3 v)) 0)) (w := .int (nI g)) (jb_vI eg) ?_
  refine jb_istore_ (pc' := 27) dX9_wordSaid_25 (by decide) (jb_at4 rfl) rfl ?_
  refine jb_aload_n (pc' := 28) dX9_wordSaid_27 rfl rfl ?_
  refine jb_iload_n (pc' := 29) dX9_wordSaid_28 rfl rfl ?_
  refine jb_callV (pc' := 32) (ci := 9) (q := 13) (As := [.int (nI v)]) (a2 := 0) (b2 := 0) wv_X9_82 rfl dX9_wordSaid_29 (c_kindOf_13 _ _ _ _ _ _ I W T ⟨r0, r2, r3, r4, a0, a1, a2, rv, rs, rd⟩ ⟨k0, k1, k2, k3, k4, k5, k6, k7, kv, ks, kd⟩ v (by omega)) rfl rfl ⟨by decide, Nat.le_of_eq (Nat.zero_add _), Nat.le_of_eq (Nat.zero_add _)⟩ (Nat.le_of_ble_eq_true rfl) rfl (fun r h9 hq => ?_)
  obtain ⟨rfl, rfl⟩ := hq
  show jb_J _ RX9 cX9_wordSaid 5 (Option.some .int) false 5 0 0 32 [some (.ref 13), some (.int (nI v)), some (.int (nI w)), some (.int (nI (V 2 v))), some (.int (nI g))] [.ref (6 + V 1 v)] [jb_main imm Im Tm rowm stk9 tpm, jb_sch13 I W T, s2, s3, s4, s5, s6, s7, s8, s9, s10, s11] _
  refine jb_iload_n (pc' := 33) dX9_wordSaid_32 rfl rfl ?_
  refine jb_iload (pc' := 35) dX9_wordSaid_33 rfl rfl ?_
  refine jb_iload_n (pc' := 36) dX9_wordSaid_35 rfl rfl ?_
  refine jd_an (pc' := 39) (k := V 1 v) (by omega) (by omega) (by omega) (by omega) dX9_wordSaid_36 (by decide) (Nat.le_of_ble_eq_true rfl) rfl ?_
  refine jb_iret dX9_wordSaid_39 rfl ?_
  exact ⟨by unfold jm_sa; rw [eg, nI_clamp (by omega)], _, rfl⟩
set_option maxRecDepth 100000 in
set_option maxHeartbeats 4000000 in
theorem c_draw_13 {sc : Nat × (Nat → Int32)} {s0 s2 s3 s4 s5 s6 s7 s8 s9 s10 s11 : List va_E} (I : Nat → Int32) (W : Nat → Nat → Int32) (T : Nat → Value) : jb_C sc yX9_draw cX9_draw 1 (Option.some .int) 0 0 0 [.ref 13] [s0, jb_sch13 I W T, s2, s3, s4, s5, s6, s7, s8, s9, s10, s11] (fun r h9 => r = some (.int (jm_us (jm_dr (I 1)))) ∧ h9 = [s0, jb_sch13 (upd I 1 (jm_dr (I 1))) W T, s2, s3, s4, s5, s6, s7, s8, s9, s10, s11]) := by
  refine jb_CofJ (ini := false) (by decide +kernel) (fun h => by cases h) (Nat.le_of_ble_eq_true rfl) ?_
  show jb_J sc RX9 cX9_draw 1 (Option.some .int) false 0 0 0 0 [some (.ref 13)] [] [s0, jb_sch13 I W T, s2, s3, s4, s5, s6, s7, s8, s9, s10, s11] _
  refine jb_aload_n (pc' := 1) dX9_draw_0 rfl rfl ?_
  refine jb_aload_n (pc' := 2) dX9_draw_1 rfl rfl ?_
  refine gf_X9_19 (pc' := 5) (v := .int (I 1)) dX9_draw_2 rfl rfl rfl ?_
  refine jb_ldc (pc' := 7) 1103515245 dX9_draw_5 wk_X9_144 rfl ?_
  refine jb_imul (pc' := 8) dX9_draw_7 rfl ?_
  refine jb_sipush (pc' := 11) 12345 dX9_draw_8 (by decide) rfl ?_
  refine jb_iadd (pc' := 12) dX9_draw_11 rfl ?_
  refine pf_X9_19 (pc' := 15) (h' := [s0, jb_sch13 (upd I 1 (((I 1) * 1103515245) + 12345)) W T, s2, s3, s4, s5, s6, s7, s8, s9, s10, s11]) dX9_draw_12 (fun _ => ⟨rfl, rfl⟩) rfl (Nat.le_of_ble_eq_true rfl) rfl rfl ?_
  refine jb_aload_n (pc' := 16) dX9_draw_15 rfl rfl ?_
  refine gf_X9_19 (pc' := 19) (v := .int (((I 1) * 1103515245) + 12345)) dX9_draw_16 rfl rfl rfl ?_
  refine jb_bipush (pc' := 21) 8 dX9_draw_19 (by decide) rfl ?_
  refine jb_iushr (pc' := 22) dX9_draw_21 rfl ?_
  refine jb_iret dX9_draw_22 rfl ?_
  exact ⟨rfl, rfl⟩
set_option maxRecDepth 100000 in
set_option maxHeartbeats 4000000 in
theorem c_gap_53 {sc : Nat × (Nat → Int32)} {s0 s1 s2 s4 s5 s6 s7 s8 s9 s10 s11 : List va_E} (I : Nat → Int32) (W : Nat → Nat → Int32) (T : Nat → Value) : jb_C sc yX9_gap cX9_gap 1 (Option.some .int) 0 0 0 [.ref 53] [s0, s1, s2, jb_sch53 I W T, s4, s5, s6, s7, s8, s9, s10, s11] (fun r h9 => r = some (.int (W 0 0 + W 0 1)) ∧ h9 = [s0, s1, s2, jb_sch53 I W T, s4, s5, s6, s7, s8, s9, s10, s11]) := by
  refine jb_CofJ (ini := false) (by decide +kernel) (fun h => by cases h) (Nat.le_of_ble_eq_true rfl) ?_
  show jb_J sc RX9 cX9_gap 1 (Option.some .int) false 0 0 0 0 [some (.ref 53)] [] [s0, s1, s2, jb_sch53 I W T, s4, s5, s6, s7, s8, s9, s10, s11] _
  refine jb_aload_n (pc' := 1) dX9_gap_0 rfl rfl ?_
  refine gf_X9_9 (pc' := 4) (v := .ref 54) dX9_gap_1 rfl rfl rfl ?_
  refine jb_iconst (pc' := 5) 0 dX9_gap_4 (by decide) rfl ?_
  refine jb_iaload (pc' := 6) (i9 := 0) (f := (W 0)) dX9_gap_5 rfl jb_x0 (by decide) rfl ?_
  refine jb_aload_n (pc' := 7) dX9_gap_6 rfl rfl ?_
  refine gf_X9_9 (pc' := 10) (v := .ref 54) dX9_gap_7 rfl rfl rfl ?_
  refine jb_iconst (pc' := 11) 1 dX9_gap_10 (by decide) rfl ?_
  refine jb_iaload (pc' := 12) (i9 := 1) (f := (W 0)) dX9_gap_11 rfl jb_x1 (by decide) rfl ?_
  refine jb_iadd (pc' := 13) dX9_gap_12 rfl ?_
  refine jb_iret dX9_gap_13 rfl ?_
  exact ⟨rfl, rfl⟩
set_option maxRecDepth 100000 in
set_option maxHeartbeats 4000000 in
theorem c_kindOf_53 {sc : Nat × (Nat → Int32)} {s1 s2 s4 s5 s6 s7 s8 s9 s10 s11 : List va_E} {V : Nat → Nat → Nat} (imm : Int32) (Im rowm stkm tpm : Nat → Int32) (Tm : Nat → Value) (I : Nat → Int32) (W : Nat → Nat → Int32) (T : Nat → Value) (hr : jr_ V I W) (hk : jv_ok V) (v : Nat) (hv : v < V 0 1) : jb_C sc yX9_kindOf cX9_kindOf 3 (Option.some (.object "DeafBell$Pupil")) 1 0 0 [.ref 53, .int (nI v)] [jb_main imm Im Tm rowm stkm tpm, s1, s2, jb_sch53 I W T, s4, s5, s6, s7, s8, s9, s10, s11] (fun r h9 => r = some (.ref (6 + V 1 v)) ∧ h9 = [jb_main imm Im Tm rowm stkm tpm, s1, s2, jb_sch53 I W T, s4, s5, s6, s7, s8, s9, s10, s11]) := by
  refine jb_CofJ (ini := false) (by decide +kernel) (fun h => by cases h) (Nat.le_of_ble_eq_true rfl) ?_
  show jb_J sc RX9 cX9_kindOf 3 (Option.some (.object "DeafBell$Pupil")) false 1 0 0 0 [some (.ref 53), some (.int (nI v)), none] [] [jb_main imm Im Tm rowm stkm tpm, s1, s2, jb_sch53 I W T, s4, s5, s6, s7, s8, s9, s10, s11] _
  obtain ⟨r0, r2, r3, r4, a0, a1, a2, rv, rs, rd⟩ := hr
  obtain ⟨k0, k1, k2, k3, k4, k5, k6, k7, kv, ks, kd⟩ := hk
  have q1 := kv v hv
  refine jb_aload_n (pc' := 1) dX9_kindOf_0 rfl rfl ?_
  refine gf_X9_27 (pc' := 4) (v := .ref 55) dX9_kindOf_1 rfl rfl rfl ?_
  refine jb_iconst (pc' := 5) 0 dX9_kindOf_4 (by decide) rfl ?_
  refine jb_aaload (pc' := 6) (i9 := 0) (r := 56) (Or.inl rfl) dX9_kindOf_5 rfl jb_x0 (by decide) rfl rfl ?_
  refine jb_iload_n (pc' := 7) dX9_kindOf_6 rfl rfl ?_
  refine jb_iaload (pc' := 8) (i9 := v) (f := (W 1)) dX9_kindOf_7 rfl (jb_ix_nI (by omega)) (by omega) rfl ?_
  refine jb_top (v := .int ((W 1) v)) (w := .int (nI (V 1 v))) (jb_vI (rv v (by omega)).1) ?_
  refine jb_istore_n_ (pc' := 9) dX9_kindOf_8 (by decide) (jb_at2 rfl) rfl ?_
  refine jb_aload_n (pc' := 10) dX9_kindOf_9 rfl rfl ?_
  refine gf_X9_60 (pc' := 13) (v := .ref 5) dX9_kindOf_10 rfl rfl rfl ?_
  refine jb_iload_n (pc' := 14) dX9_kindOf_13 rfl rfl ?_
  refine jb_iconst (pc' := 15) 0 dX9_kindOf_14 (by decide) rfl ?_
  refine jb_aload_n (pc' := 16) dX9_kindOf_15 rfl rfl ?_
  refine gf_X9_60 (pc' := 19) (v := .ref 5) dX9_kindOf_16 rfl rfl rfl ?_
  refine jb_alen (pc' := 20) 7 (by decide) dX9_kindOf_19 rfl (by decide) rfl ?_
  refine jb_iconst (pc' := 21) 1 dX9_kindOf_20 (by decide) rfl ?_
  refine jb_isub (pc' := 22) dX9_kindOf_21 rfl ?_
  refine jb_top (v := .int (7 - 1)) (w := .int 6) (jb_vI (by decide)) ?_
  refine jb_callSN (pc' := 25) (As := [.int (nI (V 1 v)), .int 0, .int 6]) (a2 := 0) (b2 := 0) wv_X9_78 dX9_kindOf_22 (c_isOutside (nI (V 1 v)) 0 6) rfl ⟨by decide, Nat.le_of_eq (Nat.zero_add _), Nat.le_of_eq (Nat.zero_add _)⟩ (Nat.le_of_ble_eq_true rfl) rfl (fun r h9 hq => ?_)
  rcases hq with ⟨rfl, ⟨o1, rfl⟩ | ⟨o1, rfl⟩⟩
  · exact absurd (by assumption) (jn_in (a := V 1 v) (lo := 0) (hi := 6) (by omega) (by omega) (by omega))
  · show jb_J _ RX9 cX9_kindOf 3 (Option.some (.object "DeafBell$Pupil")) false 1 0 0 25 [some (.ref 53), some (.int (nI v)), some (.int (nI (V 1 v)))] [.int 0, .ref 5] [jb_main imm Im Tm rowm stkm tpm, s1, s2, jb_sch53 I W T, s4, s5, s6, s7, s8, s9, s10, s11] _
    refine jb_if_eq (tgt := 32) (pc' := 28) dX9_kindOf_25 (by decide) rfl (fun _ => ?_) (fun z => absurd (by decide) z)
    refine jb_iload_n (pc' := 33) dX9_kindOf_32 rfl rfl ?_
    refine jb_aaload (pc' := 34) (i9 := V 1 v) (r := (6 + V 1 v)) (Or.inr (Or.inl rfl)) dX9_kindOf_33 rfl (jb_ix_nI (by omega)) (by omega) (jk_kinds (by omega)) rfl ?_
    refine jb_aret dX9_kindOf_34 (by first | exact Or.inl ⟨_, rfl⟩ | exact Or.inr ⟨_, rfl⟩) ?_
    exact ⟨rfl, rfl⟩
set_option maxRecDepth 100000 in
set_option maxHeartbeats 4000000 in
theorem c_thinking_53 {sc : Nat × (Nat → Int32)} {s1 s2 s4 s5 s6 s7 s8 s9 s10 s11 : List va_E} {V : Nat → Nat → Nat} (imm : Int32) (Im rowm stkm tpm : Nat → Int32) (Tm : Nat → Value) (I : Nat → Int32) (W : Nat → Nat → Int32) (T : Nat → Value) (hr : jr_ V I W) (hk : jv_ok V) (v : Nat) (hv : v < V 0 1) : jb_C sc yX9_thinking cX9_thinking 2 (Option.some .int) 3 0 0 [.ref 53, .int (nI v)] [jb_main imm Im Tm rowm stkm tpm, s1, s2, jb_sch53 I W T, s4, s5, s6, s7, s8, s9, s10, s11] (fun r h9 => r = some (.int (nI (jm_th V v))) ∧ h9 = [jb_main imm Im Tm rowm stkm tpm, s1, s2, jb_sch53 I W T, s4, s5, s6, s7, s8, s9, s10, s11]) := by
  refine jb_CofJ (ini := false) (by decide +kernel) (fun h => by cases h) (Nat.le_of_ble_eq_true rfl) ?_
  show jb_J sc RX9 cX9_thinking 2 (Option.some .int) false 3 0 0 0 [some (.ref 53), some (.int (nI v))] [] [jb_main imm Im Tm rowm stkm tpm, s1, s2, jb_sch53 I W T, s4, s5, s6, s7, s8, s9, s10, s11] _
  obtain ⟨r0, r2, r3, r4, a0, a1, a2, rv, rs, rd⟩ := hr
  obtain ⟨k0, k1, k2, k3, k4, k5, k6, k7, kv, ks, kd⟩ := hk
  have q1 := kv v hv
  refine jb_aload_n (pc' := 1) dX9_thinking_0 rfl rfl ?_
  refine jb_iload_n (pc' := 2) dX9_thinking_1 rfl rfl ?_
  refine jb_callV (pc' := 5) (ci := 9) (q := 53) (As := [.int (nI v)]) (a2 := 0) (b2 := 0) wv_X9_82 rfl dX9_thinking_2 (c_kindOf_53 _ _ _ _ _ _ I W T ⟨r0, r2, r3, r4, a0, a1, a2, rv, rs, rd⟩ ⟨k0, k1, k2, k3, k4, k5, k6, k7, kv, ks, kd⟩ v (by omega)) rfl rfl ⟨by decide, Nat.le_of_eq (Nat.zero_add _), Nat.le_of_eq (Nat.zero_add _)⟩ (Nat.le_of_ble_eq_true rfl) rfl (fun r h9 hq => ?_)
  obtain ⟨rfl, rfl⟩ := hq
  show jb_J _ RX9 cX9_thinking 2 (Option.some .int) false 3 0 0 5 [some (.ref 53), some (.int (nI v))] [.ref (6 + V 1 v)] [jb_main imm Im Tm rowm stkm tpm, s1, s2, jb_sch53 I W T, s4, s5, s6, s7, s8, s9, s10, s11] _
  refine jb_aload_n (pc' := 6) dX9_thinking_5 rfl rfl ?_
  refine gf_X9_27 (pc' := 9) (v := .ref 55) dX9_thinking_6 rfl rfl rfl ?_
  refine jb_iconst (pc' := 10) 1 dX9_thinking_9 (by decide) rfl ?_
  refine jb_aaload (pc' := 11) (i9 := 1) (r := 57) (Or.inl rfl) dX9_thinking_10 rfl jb_x1 (by decide) rfl rfl ?_
  refine jb_iload_n (pc' := 12) dX9_thinking_11 rfl rfl ?_
  refine jb_iaload (pc' := 13) (i9 := v) (f := (W 2)) dX9_thinking_12 rfl (jb_ix_nI (by omega)) (by omega) rfl ?_
  refine jb_top (v := .int ((W 2) v)) (w := .int (nI (V 2 v))) (jb_vI (rv v (by omega)).2.1) ?_
  refine jb_aload_n (pc' := 14) dX9_thinking_13 rfl rfl ?_
  refine gf_X9_9 (pc' := 17) (v := .ref 54) dX9_thinking_14 rfl rfl rfl ?_
  refine jb_iconst (pc' := 18) 1 dX9_thinking_17 (by decide) rfl ?_
  refine jb_iaload (pc' := 19) (i9 := 1) (f := (W 0)) dX9_thinking_18 rfl jb_x1 (by decide) rfl ?_
  refine jb_top (v := .int ((W 0) 1)) (w := .int (nI (V 0 5))) (jb_vI a1) ?_
  refine jb_aload_n (pc' := 20) dX9_thinking_19 rfl rfl ?_
  refine gf_X9_9 (pc' := 23) (v := .ref 54) dX9_thinking_20 rfl rfl rfl ?_
  refine jb_iconst (pc' := 24) 2 dX9_thinking_23 (by decide) rfl ?_
  refine jb_iaload (pc' := 25) (i9 := 2) (f := (W 0)) dX9_thinking_24 rfl jb_x2 (by decide) rfl ?_
  refine jb_top (v := .int ((W 0) 2)) (w := .int (nI (V 0 6))) (jb_vI a2) ?_
  refine jd_th (pc' := 28) (k := V 1 v) (by omega) (by omega) (by omega) (by omega) dX9_thinking_25 (by decide) (Nat.le_of_ble_eq_true rfl) rfl ?_
  refine jb_iret dX9_thinking_28 rfl ?_
  exact ⟨rfl, rfl⟩
def jG53 (sc : Nat × (Nat → Int32)) (T : Nat → Value) (s11 : List va_E) (G : jm_G) : Prop := ∀ (s1 s2 s4 s5 s6 s7 s8 s9 s10 : List va_E) (imm : Int32) (Im rowm stkm tpm : Nat → Int32) (Tm : Nat → Value) (I : Nat → Int32) (W : Nat → Nat → Int32) (u : Nat) (x y z w : Int32), u < 2 → jb_C sc yX9_gives cX9_gives 7 (Option.some .int) 4 0 0 [.ref 53, .int (nI u), .int x, .int y, .int z, .int w] [jb_main imm Im Tm rowm stkm tpm, s1, s2, jb_sch53 I W T, s4, s5, s6, s7, s8, s9, s10, s11] (fun r h9 => r = some (.int (G u x y z w)) ∧ ∃ stk9, h9 = [jb_main imm Im Tm rowm stk9 tpm, s1, s2, jb_sch53 I W T, s4, s5, s6, s7, s8, s9, s10, s11])
set_option maxRecDepth 100000 in
set_option maxHeartbeats 4000000 in
theorem c_carriage_53 {sc : Nat × (Nat → Int32)} {s1 s2 s4 s5 s6 s7 s8 s9 s10 s11 : List va_E} {V : Nat → Nat → Nat} (imm : Int32) (Im rowm stkm tpm : Nat → Int32) (Tm : Nat → Value) (I : Nat → Int32) (W : Nat → Nat → Int32) (T : Nat → Value) (hr : jr_ V I W) (hk : jv_ok V) {G : jm_G} (hG : jm_Gok G) (hg : jG53 sc T s11 G) (v w : Nat) (hv : v < V 0 1) (hw : w < 40) : jb_C sc yX9_carriage cX9_carriage 5 (Option.some .int) 5 0 0 [.ref 53, .int (nI v), .int (nI w)] [jb_main imm Im Tm rowm stkm tpm, s1, s2, jb_sch53 I W T, s4, s5, s6, s7, s8, s9, s10, s11] (fun r h9 => r = some (.int (jm_ca V G v w)) ∧ ∃ stk9, h9 = [jb_main imm Im Tm rowm stk9 tpm, s1, s2, jb_sch53 I W T, s4, s5, s6, s7, s8, s9, s10, s11]) := by
  refine jb_CofJ (ini := false) (by decide +kernel) (fun h => by cases h) (Nat.le_of_ble_eq_true rfl) ?_
  show jb_J sc RX9 cX9_carriage 5 (Option.some .int) false 5 0 0 0 [some (.ref 53), some (.int (nI v)), some (.int (nI w)), none, none] [] [jb_main imm Im Tm rowm stkm tpm, s1, s2, jb_sch53 I W T, s4, s5, s6, s7, s8, s9, s10, s11] _
  obtain ⟨r0, r2, r3, r4, a0, a1, a2, rv, rs, rd⟩ := hr
  obtain ⟨k0, k1, k2, k3, k4, k5, k6, k7, kv, ks, kd⟩ := hk
  have q1 := kv v hv
  refine jb_aload_n (pc' := 1) dX9_carriage_0 rfl rfl ?_
  refine jb_iload_n (pc' := 2) dX9_carriage_1 rfl rfl ?_
  refine jb_callV (pc' := 5) (ci := 9) (q := 53) (As := [.int (nI v)]) (a2 := 0) (b2 := 0) wv_X9_82 rfl dX9_carriage_2 (c_kindOf_53 _ _ _ _ _ _ I W T ⟨r0, r2, r3, r4, a0, a1, a2, rv, rs, rd⟩ ⟨k0, k1, k2, k3, k4, k5, k6, k7, kv, ks, kd⟩ v (by omega)) rfl rfl ⟨by decide, Nat.le_of_eq (Nat.zero_add _), Nat.le_of_eq (Nat.zero_add _)⟩ (Nat.le_of_ble_eq_true rfl) rfl (fun r h9 hq => ?_)
  obtain ⟨rfl, rfl⟩ := hq
  show jb_J _ RX9 cX9_carriage 5 (Option.some .int) false 5 0 0 5 [some (.ref 53), some (.int (nI v)), some (.int (nI w)), none, none] [.ref (6 + V 1 v)] [jb_main imm Im Tm rowm stkm tpm, s1, s2, jb_sch53 I W T, s4, s5, s6, s7, s8, s9, s10, s11] _
  refine jb_iload_n (pc' := 6) dX9_carriage_5 rfl rfl ?_
  refine jb_aload_n (pc' := 7) dX9_carriage_6 rfl rfl ?_
  refine gf_X9_27 (pc' := 10) (v := .ref 55) dX9_carriage_7 rfl rfl rfl ?_
  refine jb_iconst (pc' := 11) 1 dX9_carriage_10 (by decide) rfl ?_
  refine jb_aaload (pc' := 12) (i9 := 1) (r := 57) (Or.inl rfl) dX9_carriage_11 rfl jb_x1 (by decide) rfl rfl ?_
  refine jb_iload_n (pc' := 13) dX9_carriage_12 rfl rfl ?_
  refine jb_iaload (pc' := 14) (i9 := v) (f := (W 2)) dX9_carriage_13 rfl (jb_ix_nI (by omega)) (by omega) rfl ?_
  refine jb_top (v := .int ((W 2) v)) (w := .int (nI (V 2 v))) (jb_vI (rv v (by omega)).2.1) ?_
  refine jb_aload_n (pc' := 15) dX9_carriage_14 rfl rfl ?_
  refine gf_X9_9 (pc' := 18) (v := .ref 54) dX9_carriage_15 rfl rfl rfl ?_
  refine jb_iconst (pc' := 19) 2 dX9_carriage_18 (by decide) rfl ?_
  refine jb_iaload (pc' := 20) (i9 := 2) (f := (W 0)) dX9_carriage_19 rfl jb_x2 (by decide) rfl ?_
  refine jb_top (v := .int ((W 0) 2)) (w := .int (nI (V 0 6))) (jb_vI a2) ?_
  refine jd_ca (pc' := 23) (k := V 1 v) (by omega) (by omega) (by omega) (by omega) dX9_carriage_20 (by decide) (Nat.le_of_ble_eq_true rfl) rfl ?_
  refine jb_istore_n_ (pc' := 24) dX9_carriage_23 (by decide) (jb_at3 rfl) rfl ?_
  refine jb_aload_n (pc' := 25) dX9_carriage_24 rfl rfl ?_
  refine jb_iconst (pc' := 26) 0 dX9_carriage_25 (by decide) rfl ?_
  refine jb_iload_n (pc' := 27) dX9_carriage_26 rfl rfl ?_
  refine jb_aload_n (pc' := 28) dX9_carriage_27 rfl rfl ?_
  refine gf_X9_9 (pc' := 31) (v := .ref 54) dX9_carriage_28 rfl rfl rfl ?_
  refine jb_iconst (pc' := 32) 1 dX9_carriage_31 (by decide) rfl ?_
  refine jb_iaload (pc' := 33) (i9 := 1) (f := (W 0)) dX9_carriage_32 rfl jb_x1 (by decide) rfl ?_
  refine jb_top (v := .int ((W 0) 1)) (w := .int (nI (V 0 5))) (jb_vI a1) ?_
  refine jb_aload_n (pc' := 34) dX9_carriage_33 rfl rfl ?_
  refine gf_X9_9 (pc' := 37) (v := .ref 54) dX9_carriage_34 rfl rfl rfl ?_
  refine jb_iconst (pc' := 38) 2 dX9_carriage_37 (by decide) rfl ?_
  refine jb_iaload (pc' := 39) (i9 := 2) (f := (W 0)) dX9_carriage_38 rfl jb_x2 (by decide) rfl ?_
  refine jb_top (v := .int ((W 0) 2)) (w := .int (nI (V 0 6))) (jb_vI a2) ?_
  refine jb_aload_n (pc' := 40) dX9_carriage_39 rfl rfl ?_
  refine gf_X9_27 (pc' := 43) (v := .ref 55) dX9_carriage_40 rfl rfl rfl ?_
  refine jb_iconst (pc' := 44) 0 dX9_carriage_43 (by decide) rfl ?_
  refine jb_aaload (pc' := 45) (i9 := 0) (r := 56) (Or.inl rfl) dX9_carriage_44 rfl jb_x0 (by decide) rfl rfl ?_
  refine jb_iload_n (pc' := 46) dX9_carriage_45 rfl rfl ?_
  refine jb_iaload (pc' := 47) (i9 := v) (f := (W 1)) dX9_carriage_46 rfl (jb_ix_nI (by omega)) (by omega) rfl ?_
  refine jb_top (v := .int ((W 1) v)) (w := .int (nI (V 1 v))) (jb_vI (rv v (by omega)).1) ?_
  refine jb_callV (pc' := 50) (ci := 9) (q := 53) (As := [.int 0, .int (nI w), .int (nI (V 0 5)), .int (nI (V 0 6)), .int (nI (V 1 v))]) (a2 := 0) (b2 := 0) wv_X9_95 rfl dX9_carriage_47 (hg _ _ _ _ _ _ _ _ _ _ _ _ _ _ _ _ _ 0 (nI w) (nI (V 0 5)) (nI (V 0 6)) (nI (V 1 v)) (by decide)) rfl rfl ⟨by decide, Nat.le_of_eq (Nat.zero_add _), Nat.le_of_eq (Nat.zero_add _)⟩ (Nat.le_of_ble_eq_true rfl) rfl (fun r h9 hq => ?_)
  obtain ⟨rfl, stk9, rfl⟩ := hq
  show jb_J _ RX9 cX9_carriage 5 (Option.some .int) false 5 0 0 50 [some (.ref 53), some (.int (nI v)), some (.int (nI w)), some (.int (jm_owk (V 1 v) (V 2 v) (V 0 6) w)), none] [.int (G 0 (nI w) (nI (V 0 5)) (nI (V 0 6)) (nI (V 1 v)))] [jb_main imm Im Tm rowm stk9 tpm, s1, s2, jb_sch53 I W T, s4, s5, s6, s7, s8, s9, s10, s11] _
  refine jb_istore_ (pc' := 52) dX9_carriage_50 (by decide) (jb_at4 rfl) rfl ?_
  refine jb_iconst (pc' := 53) 0 dX9_carriage_52 (by decide) rfl ?_
  refine jb_bipush (pc' := 55) 10 dX9_carriage_53 (by decide) rfl ?_
  refine jb_iload_n (pc' := 56) dX9_carriage_55 rfl rfl ?_
  refine jb_iload (pc' := 58) dX9_carriage_56 rfl rfl ?_
  refine jb_iadd (pc' := 59) dX9_carriage_58 rfl ?_
  refine jb_mmin (pc' := 62) wv_X9_99 dX9_carriage_59 (by decide) (Nat.le_of_ble_eq_true rfl) rfl ?_
  refine jb_mmax (pc' := 65) wv_X9_105 dX9_carriage_62 (by decide) (Nat.le_of_ble_eq_true rfl) rfl ?_
  refine jb_top (v := .int (if 0 < (if ((jm_owk (V 1 v) (V 2 v) (V 0 6) w) + (G 0 (nI w) (nI (V 0 5)) (nI (V 0 6)) (nI (V 1 v)))) < 10 then ((jm_owk (V 1 v) (V 2 v) (V 0 6) w) + (G 0 (nI w) (nI (V 0 5)) (nI (V 0 6)) (nI (V 1 v)))) else 10) then (if ((jm_owk (V 1 v) (V 2 v) (V 0 6) w) + (G 0 (nI w) (nI (V 0 5)) (nI (V 0 6)) (nI (V 1 v)))) < 10 then ((jm_owk (V 1 v) (V 2 v) (V 0 6) w) + (G 0 (nI w) (nI (V 0 5)) (nI (V 0 6)) (nI (V 1 v)))) else 10) else 0)) (w := .int (jm_ca V G v w)) (jb_vI (jk_clamp _)) ?_
  refine jb_iret dX9_carriage_65 rfl ?_
  exact ⟨rfl, _, rfl⟩
set_option maxRecDepth 100000 in
set_option maxHeartbeats 4000000 in
theorem c_wordSaid_53 {sc : Nat × (Nat → Int32)} {s1 s2 s4 s5 s6 s7 s8 s9 s10 s11 : List va_E} {V : Nat → Nat → Nat} (imm : Int32) (Im rowm stkm tpm : Nat → Int32) (Tm : Nat → Value) (I : Nat → Int32) (W : Nat → Nat → Int32) (T : Nat → Value) (hr : jr_ V I W) (hk : jv_ok V) {G : jm_G} (hG : jm_Gok G) (hg : jG53 sc T s11 G) (v w : Nat) (hv : v < V 0 1) (hw : w < 40) : jb_C sc yX9_wordSaid cX9_wordSaid 5 (Option.some .int) 5 0 0 [.ref 53, .int (nI v), .int (nI w)] [jb_main imm Im Tm rowm stkm tpm, s1, s2, jb_sch53 I W T, s4, s5, s6, s7, s8, s9, s10, s11] (fun r h9 => r = some (.int (nI (jm_sa V G v w))) ∧ ∃ stk9, h9 = [jb_main imm Im Tm rowm stk9 tpm, s1, s2, jb_sch53 I W T, s4, s5, s6, s7, s8, s9, s10, s11]) := by
  refine jb_CofJ (ini := false) (by decide +kernel) (fun h => by cases h) (Nat.le_of_ble_eq_true rfl) ?_
  show jb_J sc RX9 cX9_wordSaid 5 (Option.some .int) false 5 0 0 0 [some (.ref 53), some (.int (nI v)), some (.int (nI w)), none, none] [] [jb_main imm Im Tm rowm stkm tpm, s1, s2, jb_sch53 I W T, s4, s5, s6, s7, s8, s9, s10, s11] _
  obtain ⟨r0, r2, r3, r4, a0, a1, a2, rv, rs, rd⟩ := hr
  obtain ⟨k0, k1, k2, k3, k4, k5, k6, k7, kv, ks, kd⟩ := hk
  have q1 := kv v hv
  obtain ⟨g, hg40, eg⟩ := hG (nI w) (nI (V 2 v)) (nI (V 3 v)) 0
  refine jb_aload_n (pc' := 1) dX9_wordSaid_0 rfl rfl ?_
  refine gf_X9_27 (pc' := 4) (v := .ref 55) dX9_wordSaid_1 rfl rfl rfl ?_
  refine jb_iconst (pc' := 5) 1 dX9_wordSaid_4 (by decide) rfl ?_
  refine jb_aaload (pc' := 6) (i9 := 1) (r := 57) (Or.inl rfl) dX9_wordSaid_5 rfl jb_x1 (by decide) rfl rfl ?_
  refine jb_iload_n (pc' := 7) dX9_wordSaid_6 rfl rfl ?_
  refine jb_iaload (pc' := 8) (i9 := v) (f := (W 2)) dX9_wordSaid_7 rfl (jb_ix_nI (by omega)) (by omega) rfl ?_
  refine jb_top (v := .int ((W 2) v)) (w := .int (nI (V 2 v))) (jb_vI (rv v (by omega)).2.1) ?_
  refine jb_istore_n_ (pc' := 9) dX9_wordSaid_8 (by decide) (jb_at3 rfl) rfl ?_
  refine jb_aload_n (pc' := 10) dX9_wordSaid_9 rfl rfl ?_
  refine jb_iconst (pc' := 11) 1 dX9_wordSaid_10 (by decide) rfl ?_
  refine jb_iload_n (pc' := 12) dX9_wordSaid_11 rfl rfl ?_
  refine jb_iload_n (pc' := 13) dX9_wordSaid_12 rfl rfl ?_
  refine jb_aload_n (pc' := 14) dX9_wordSaid_13 rfl rfl ?_
  refine gf_X9_27 (pc' := 17) (v := .ref 55) dX9_wordSaid_14 rfl rfl rfl ?_
  refine jb_iconst (pc' := 18) 2 dX9_wordSaid_17 (by decide) rfl ?_
  refine jb_aaload (pc' := 19) (i9 := 2) (r := 58) (Or.inl rfl) dX9_wordSaid_18 rfl jb_x2 (by decide) rfl rfl ?_
  refine jb_iload_n (pc' := 20) dX9_wordSaid_19 rfl rfl ?_
  refine jb_iaload (pc' := 21) (i9 := v) (f := (W 3)) dX9_wordSaid_20 rfl (jb_ix_nI (by omega)) (by omega) rfl ?_
  refine jb_top (v := .int ((W 3) v)) (w := .int (nI (V 3 v))) (jb_vI (rv v (by omega)).2.2) ?_
  refine jb_iconst (pc' := 22) 0 dX9_wordSaid_21 (by decide) rfl ?_
  refine jb_callV (pc' := 25) (ci := 9) (q := 53) (As := [.int 1, .int (nI w), .int (nI (V 2 v)), .int (nI (V 3 v)), .int 0]) (a2 := 0) (b2 := 0) wv_X9_95 rfl dX9_wordSaid_22 (hg _ _ _ _ _ _ _ _ _ _ _ _ _ _ _ _ _ 1 (nI w) (nI (V 2 v)) (nI (V 3 v)) 0 (by decide)) rfl rfl ⟨by decide, Nat.le_of_eq (Nat.zero_add _), Nat.le_of_eq (Nat.zero_add _)⟩ (Nat.le_of_ble_eq_true rfl) rfl (fun r h9 hq => ?_)
  obtain ⟨rfl, stk9, rfl⟩ := hq
  show jb_J _ RX9 cX9_wordSaid 5 (Option.some .int) false 5 0 0 25 [some (.ref 53), some (.int (nI v)), some (.int (nI w)), some (.int (nI (V 2 v))), none] [.int (G 1 (nI w) (nI (V 2 v)) (nI (V 3 v)) 0)] [jb_main imm Im Tm rowm stk9 tpm, s1, s2, jb_sch53 I W T, s4, s5, s6, s7, s8, s9, s10, s11] _
  refine jb_top (v := .int (G 1 (nI w) (nI (V 2 v)) (nI (V 3 v)) 0)) (w := .int (nI g)) (jb_vI eg) ?_
  refine jb_istore_ (pc' := 27) dX9_wordSaid_25 (by decide) (jb_at4 rfl) rfl ?_
  refine jb_aload_n (pc' := 28) dX9_wordSaid_27 rfl rfl ?_
  refine jb_iload_n (pc' := 29) dX9_wordSaid_28 rfl rfl ?_
  refine jb_callV (pc' := 32) (ci := 9) (q := 53) (As := [.int (nI v)]) (a2 := 0) (b2 := 0) wv_X9_82 rfl dX9_wordSaid_29 (c_kindOf_53 _ _ _ _ _ _ I W T ⟨r0, r2, r3, r4, a0, a1, a2, rv, rs, rd⟩ ⟨k0, k1, k2, k3, k4, k5, k6, k7, kv, ks, kd⟩ v (by omega)) rfl rfl ⟨by decide, Nat.le_of_eq (Nat.zero_add _), Nat.le_of_eq (Nat.zero_add _)⟩ (Nat.le_of_ble_eq_true rfl) rfl (fun r h9 hq => ?_)
  obtain ⟨rfl, rfl⟩ := hq
  show jb_J _ RX9 cX9_wordSaid 5 (Option.some .int) false 5 0 0 32 [some (.ref 53), some (.int (nI v)), some (.int (nI w)), some (.int (nI (V 2 v))), some (.int (nI g))] [.ref (6 + V 1 v)] [jb_main imm Im Tm rowm stk9 tpm, s1, s2, jb_sch53 I W T, s4, s5, s6, s7, s8, s9, s10, s11] _
  refine jb_iload_n (pc' := 33) dX9_wordSaid_32 rfl rfl ?_
  refine jb_iload (pc' := 35) dX9_wordSaid_33 rfl rfl ?_
  refine jb_iload_n (pc' := 36) dX9_wordSaid_35 rfl rfl ?_
  refine jd_an (pc' := 39) (k := V 1 v) (by omega) (by omega) (by omega) (by omega) dX9_wordSaid_36 (by decide) (Nat.le_of_ble_eq_true rfl) rfl ?_
  refine jb_iret dX9_wordSaid_39 rfl ?_
  exact ⟨by unfold jm_sa; rw [eg, nI_clamp (by omega)], _, rfl⟩
set_option maxRecDepth 100000 in
set_option maxHeartbeats 4000000 in
theorem c_draw_53 {sc : Nat × (Nat → Int32)} {s0 s1 s2 s4 s5 s6 s7 s8 s9 s10 s11 : List va_E} (I : Nat → Int32) (W : Nat → Nat → Int32) (T : Nat → Value) : jb_C sc yX9_draw cX9_draw 1 (Option.some .int) 0 0 0 [.ref 53] [s0, s1, s2, jb_sch53 I W T, s4, s5, s6, s7, s8, s9, s10, s11] (fun r h9 => r = some (.int (jm_us (jm_dr (I 1)))) ∧ h9 = [s0, s1, s2, jb_sch53 (upd I 1 (jm_dr (I 1))) W T, s4, s5, s6, s7, s8, s9, s10, s11]) := by
  refine jb_CofJ (ini := false) (by decide +kernel) (fun h => by cases h) (Nat.le_of_ble_eq_true rfl) ?_
  show jb_J sc RX9 cX9_draw 1 (Option.some .int) false 0 0 0 0 [some (.ref 53)] [] [s0, s1, s2, jb_sch53 I W T, s4, s5, s6, s7, s8, s9, s10, s11] _
  refine jb_aload_n (pc' := 1) dX9_draw_0 rfl rfl ?_
  refine jb_aload_n (pc' := 2) dX9_draw_1 rfl rfl ?_
  refine gf_X9_19 (pc' := 5) (v := .int (I 1)) dX9_draw_2 rfl rfl rfl ?_
  refine jb_ldc (pc' := 7) 1103515245 dX9_draw_5 wk_X9_144 rfl ?_
  refine jb_imul (pc' := 8) dX9_draw_7 rfl ?_
  refine jb_sipush (pc' := 11) 12345 dX9_draw_8 (by decide) rfl ?_
  refine jb_iadd (pc' := 12) dX9_draw_11 rfl ?_
  refine pf_X9_19 (pc' := 15) (h' := [s0, s1, s2, jb_sch53 (upd I 1 (((I 1) * 1103515245) + 12345)) W T, s4, s5, s6, s7, s8, s9, s10, s11]) dX9_draw_12 (fun _ => ⟨rfl, rfl⟩) rfl (Nat.le_of_ble_eq_true rfl) rfl rfl ?_
  refine jb_aload_n (pc' := 16) dX9_draw_15 rfl rfl ?_
  refine gf_X9_19 (pc' := 19) (v := .int (((I 1) * 1103515245) + 12345)) dX9_draw_16 rfl rfl rfl ?_
  refine jb_bipush (pc' := 21) 8 dX9_draw_19 (by decide) rfl ?_
  refine jb_iushr (pc' := 22) dX9_draw_21 rfl ?_
  refine jb_iret dX9_draw_22 rfl ?_
  exact ⟨rfl, rfl⟩
