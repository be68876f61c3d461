theorem jp_nu_st {s : Int32} {v : Nat} (h : jn_b s 48 58) : 10 * nI v + s - 48 = nI (v * 10 + jp_dv s) := by
  obtain ⟨d, hd, e1, e2⟩ := jp_dig ((jp_nob s).mp h)
  rw [e2, e1]
  exact jp_nu_step hd
theorem jp_nu_st' {s : Int32} {v : Nat} (h : 48 ≤ s ∧ s ≤ 57) : nI v * 10 + (s - 48) = nI (v * 10 + jp_dv s) := by
  obtain ⟨d, hd, e1, e2⟩ := jp_dig h
  rw [e2, e1]
  exact jp_nu_step' hd
theorem jp_na_dg {u : Nat} {s : Int32} (h : 48 ≤ s ∧ s ≤ 57) : jp_na u s = none := by
  obtain ⟨d, hd, e1, -⟩ := jp_dig h
  subst e1
  have key : ∀ d, d < 10 → jp_na 0 (nI (48 + d)) = none ∧ jp_na 1 (nI (48 + d)) = none := by decide +kernel
  by_cases hu : u = 0
  · rw [hu]; exact (key d hd).1
  · have : jp_na u (nI (48 + d)) = jp_na 1 (nI (48 + d)) := by unfold jp_na; rw [if_neg hu]; rfl
    rw [this]; exact (key d hd).2
theorem jp_op_dg {B : Nat → Int32} {n u a : Nat} (o : Nat) (h : 48 ≤ jp_lk B n a ∧ jp_lk B n a ≤ 57) : jp_op B n u o a = ((jp_nu B n 4 a 0).1, true, [nI (jp_nu B n 4 a 0).2]) := by
  cases o with
  | zero => unfold jp_op; exact if_pos h
  | succ o => unfold jp_op; exact if_pos h
theorem jp_op_nm {B : Nat → Int32} {n u a : Nat} (o : Nat) (h : ¬ (48 ≤ jp_lk B n a ∧ jp_lk B n a ≤ 57)) (h1 : ¬ jp_lk B n a = 33) (h2 : ¬ jp_lk B n a = 40) : jp_op B n u o a = jp_nm u a (jp_lk B n a) := by
  cases o with
  | zero => unfold jp_op; exact (if_neg h).trans (if_neg (fun z => z.elim h1 h2))
  | succ o => unfold jp_op; exact (if_neg h).trans ((if_neg h1).trans (if_neg h2))
theorem jp_op_0 {B : Nat → Int32} {n u a : Nat} {s : Int32} (h : jp_lk B n a = s) (h1 : s = 33 ∨ s = 40) : jp_op B n u 0 a = (a, false, []) := by
  subst h
  unfold jp_op
  exact (if_neg (fun z => by rcases h1 with e | e <;> (rw [e] at z; exact absurd z (by decide)))).trans (if_pos h1)
theorem jp_op_33 {B : Nat → Int32} {n u a : Nat} (o : Nat) (h : jp_lk B n a = 33) : jp_op B n u (o + 1) a = ((jp_op B n u o (a + 1)).1, (jp_op B n u o (a + 1)).2.1, (jp_op B n u o (a + 1)).2.2 ++ [-33]) := by
  rw [jp_op]
  exact (if_neg (fun z => by rw [h] at z; exact absurd z (by decide))).trans (if_pos h)
theorem jp_op_40 {B : Nat → Int32} {n u a : Nat} (o : Nat) (h : jp_lk B n a = 40) : jp_op B n u (o + 1) a = (if (jp_up B n (jp_op B n u o) 5 (a + 1)).2.1 = true ∧ jp_lk B n (jp_up B n (jp_op B n u o) 5 (a + 1)).1 = 41 then ((jp_up B n (jp_op B n u o) 5 (a + 1)).1 + 1, true, (jp_up B n (jp_op B n u o) 5 (a + 1)).2.2) else ((jp_up B n (jp_op B n u o) 5 (a + 1)).1, false, (jp_up B n (jp_op B n u o) 5 (a + 1)).2.2)) := by
  rw [jp_op]
  exact (if_neg (fun z => by rw [h] at z; exact absurd z (by decide))).trans ((if_neg (fun z => by rw [h] at z; exact absurd z (by decide))).trans (if_pos h))
theorem jw_v_num (N : Nat → Int32) {w : Nat} (h : w < 10000) : jw_v N (nI w) = nI w := by
  have ne : ∀ x : Int32, x < 0 → ¬ nI w = x := fun x hx e => by rw [← e] at hx; exact nI_pos (by omega) hx
  unfold jw_v
  rw [if_neg (ne _ (by decide)), if_neg (ne _ (by decide)), if_neg (ne _ (by decide)), if_neg (ne _ (by decide))]
theorem jv_num (N : Nat → Int32) {w : Nat} (h : w < 10000) : jv_ N [nI w] = nI w := (jv_1 (jp_p4 h) N).trans (jw_v_num N h)
theorem jv_nam (N : Nat → Int32) {i : Nat} (h : i < 4) : jv_ N [-1 - nI i] = N i := by
  rw [jv_1 (jp_n4 h) N]
  match i, h with
  | 0, _ => rfl
  | 1, _ => rfl
  | 2, _ => rfl
  | 3, _ => rfl
theorem c_nameOf {sc : Nat × (Nat → Int32)} {s0 s1 s2 s3 s4 s5 s6 s7 s8 s9 s11 : List va_E} (I e kp nm : Nat → Int32) (W : Nat → Nat → Int32) (J d : Nat → Int32) {base n u a : Nat} (hu : u < 2) {op fl : Int32} (hq : jq_ J base n u a op fl) (c : Int32) : jb_C sc yX12_nameOf cX12_nameOf 2 (Option.some .int) 0 0 0 [.ref 105, .int c] [s0, s1, s2, s3, s4, s5, s6, s7, s8, s9, jb_mdl I J d e kp nm W, s11] (fun r h9 => h9 = [s0, s1, s2, s3, s4, s5, s6, s7, s8, s9, jb_mdl I J d e kp nm W, s11] ∧ ((jp_na u c = none ∧ r = some (.int (-1))) ∨ ∃ i, i < 4 ∧ jp_na u c = some i ∧ r = some (.int (nI i)))) := by
  match u, hu, hq with
  | 0, _, hq => exact c_nameOf0 I e kp nm W J d hq c
  | 1, _, hq => exact c_nameOf1 I e kp nm W J d hq c
set_option maxRecDepth 100000 in
set_option maxHeartbeats 4000000 in
theorem l_numm {sc : Nat × (Nat → Int32)} {s0 s1 s2 s3 s4 s5 s6 s7 s8 s9 s11 : List va_E} (I e kp nm : Nat → Int32) (W : Nat → Nat → Int32) {B : Nat → Int32} {base n u : Nat} (d : Nat → Int32) (hB : ∀ k, k < n → d (base + k) = B k) (hn : n ≤ 50) (hb : base ≤ 438) (hu : u < 2) (D : Nat) (hD : 2 ≤ D) (op : Int32) (Q : Option Value → jb_H → Prop) (x1 : Option Value) : ∀ (k dg a v : Nat) (J : Nat → Int32), dg + k = 4 → a ≤ n → jq_ J base n u a op (-1) → (∀ (J9 : Nat → Int32) (dg9 b w : Nat), jp_nu B n k a v = (b, w) → dg ≤ dg9 → dg9 ≤ 4 → ((48 ≤ jp_lk B n a ∧ jp_lk B n a ≤ 57) ∧ 0 < k → dg < dg9) → jq_ J9 base n u b op (-1) → jb_J sc RX12 cX12_unit 5 (Option.some .int) false D 0 0 202 [some (.ref 105), x1, some (.int (-1)), some (.int (nI w)), some (.int (nI dg9))] [] [s0, s1, s2, s3, s4, s5, s6, s7, s8, s9, jb_mdl I J9 d e kp nm W, s11] Q) → jb_J sc RX12 cX12_unit 5 (Option.some .int) false D 0 0 150 [some (.ref 105), x1, some (.int (-1)), some (.int (nI v)), some (.int (nI dg))] [] [s0, s1, s2, s3, s4, s5, s6, s7, s8, s9, jb_mdl I J d e kp nm W, s11] Q := by
  intro k
  induction k with
  | zero =>
    intro dg a v J hk ha hq hQ
    show jb_J _ RX12 cX12_unit 5 (Option.some .int) false D 0 0 150 [some (.ref 105), x1, some (.int (-1)), some (.int (nI v)), some (.int (nI dg))] [] [s0, s1, s2, s3, s4, s5, s6, s7, s8, s9, jb_mdl I J d e kp nm W, s11] _
    refine jb_iload (pc' := 152) dX12_unit_150 rfl rfl ?_
    refine jb_iconst (pc' := 153) 4 dX12_unit_152 (by decide) rfl ?_
    refine jb_icmp_ge (tgt := 202) (pc' := 156) dX12_unit_153 (by decide) rfl (fun _ => ?_) (fun z => absurd (nI_le (a := 4) (b := dg) (by omega) (by omega)) z)
    exact hQ J dg a v rfl (Nat.le_refl _) (by omega) (fun z => absurd z.2 (by omega)) hq
  | succ k ih =>
    intro dg a v J hk ha hq hQ
    show jb_J _ RX12 cX12_unit 5 (Option.some .int) false D 0 0 150 [some (.ref 105), x1, some (.int (-1)), some (.int (nI v)), some (.int (nI dg))] [] [s0, s1, s2, s3, s4, s5, s6, s7, s8, s9, jb_mdl I J d e kp nm W, s11] _
    refine jb_iload (pc' := 152) dX12_unit_150 rfl rfl ?_
    refine jb_iconst (pc' := 153) 4 dX12_unit_152 (by decide) rfl ?_
    refine jb_icmp_ge (tgt := 202) (pc' := 156) dX12_unit_153 (by decide) rfl (fun z => absurd z (nI_ge (a := dg) (b := 4) (by omega) (by omega))) (fun _ => ?_)
    refine jb_aload_n (pc' := 157) dX12_unit_156 rfl rfl ?_
    refine jb_callV (pc' := 160) (ci := 12) (q := 105) (As := []) (a2 := 0) (b2 := 0) wv_X12_75 rfl dX12_unit_157 (c_here I e kp nm W d hB hn hb J hq) rfl rfl ⟨by omega, Nat.le_of_eq (Nat.zero_add _), Nat.le_of_eq (Nat.zero_add _)⟩ (Nat.le_of_ble_eq_true rfl) rfl (fun r h9 hq => ?_)
    obtain ⟨rfl, rfl⟩ := hq
    show jb_J _ RX12 cX12_unit 5 (Option.some .int) false D 0 0 160 [some (.ref 105), x1, some (.int (-1)), some (.int (nI v)), some (.int (nI dg))] [.int (jp_lk B n a)] [s0, s1, s2, s3, s4, s5, s6, s7, s8, s9, jb_mdl I J d e kp nm W, s11] _
    refine jb_i2l (pc' := 161) dX12_unit_160 rfl ?_
    refine jb_ldc2 (pc' := 164) 48 dX12_unit_161 wk_X12_115 rfl ?_
    refine jb_ldc2 (pc' := 167) 57 dX12_unit_164 wk_X12_117 rfl ?_
    refine jb_callS (pc' := 170) (As := [.long ((jp_lk B n a).toInt64), .long 48, .long 57]) (a2 := 0) (b2 := 0) wv_X12_56 dX12_unit_167 (c_inL _ (jp_lk B n a) 48 57 (by omega) (by omega)) rfl ⟨by omega, Nat.le_of_eq (Nat.zero_add _), Nat.le_of_eq (Nat.zero_add _)⟩ (Nat.le_of_ble_eq_true rfl) rfl (fun r h9 hq => ?_)
    rcases hq with ⟨rfl, ⟨o2, rfl⟩ | ⟨o2, rfl⟩⟩
    · show jb_J _ RX12 cX12_unit 5 (Option.some .int) false D 0 0 170 [some (.ref 105), x1, some (.int (-1)), some (.int (nI v)), some (.int (nI dg))] [.int 1] [s0, s1, s2, s3, s4, s5, s6, s7, s8, s9, jb_mdl I J d e kp nm W, s11] _
      refine jb_if_eq (tgt := 202) (pc' := 173) dX12_unit_170 (by decide) rfl (fun z => absurd z (by decide)) (fun _ => ?_)
      refine jb_bipush (pc' := 175) 10 dX12_unit_173 (by decide) rfl ?_
      refine jb_iload_n (pc' := 176) dX12_unit_175 rfl rfl ?_
      refine jb_imul (pc' := 177) dX12_unit_176 rfl ?_
      refine jb_aload_n (pc' := 178) dX12_unit_177 rfl rfl ?_
      refine jb_callV (pc' := 181) (ci := 12) (q := 105) (As := []) (a2 := 0) (b2 := 0) wv_X12_75 rfl dX12_unit_178 (c_here I e kp nm W d hB hn hb J hq) rfl rfl ⟨by omega, Nat.le_of_eq (Nat.zero_add _), Nat.le_of_eq (Nat.zero_add _)⟩ (Nat.le_of_ble_eq_true rfl) rfl (fun r h9 hq => ?_)
      obtain ⟨rfl, rfl⟩ := hq
      show jb_J _ RX12 cX12_unit 5 (Option.some .int) false D 0 0 181 [some (.ref 105), x1, some (.int (-1)), some (.int (nI v)), some (.int (nI dg))] [.int (jp_lk B n a), .int (10 * (nI v))] [s0, s1, s2, s3, s4, s5, s6, s7, s8, s9, jb_mdl I J d e kp nm W, s11] _
      refine jb_iadd (pc' := 182) dX12_unit_181 rfl ?_
      refine jb_bipush (pc' := 184) 48 dX12_unit_182 (by decide) rfl ?_
      refine jb_isub (pc' := 185) dX12_unit_184 rfl ?_
      refine jb_top (v := .int (((10 * (nI v)) + (jp_lk B n a)) - 48)) (w := .int (nI (v * 10 + jp_dv (jp_lk B n a)))) (jb_vI (jp_nu_st (by assumption))) ?_
      refine jb_istore_n_ (pc' := 186) dX12_unit_185 (by decide) (jb_at3 rfl) rfl ?_
      refine jb_aload_n (pc' := 187) dX12_unit_186 rfl rfl ?_
      refine jb_dup (pc' := 188) dX12_unit_187 rfl rfl ?_
      refine gf_X12_62 (pc' := 191) (v := .int (J 1)) dX12_unit_188 rfl rfl rfl ?_
      refine jb_top (v := .int (J 1)) (w := .int (nI a)) (jb_vI hq.2.1) ?_
      refine jb_iconst (pc' := 192) 1 dX12_unit_191 (by decide) rfl ?_
      refine jb_iadd (pc' := 193) dX12_unit_192 rfl ?_
      refine jb_top (v := .int ((nI a) + 1)) (w := .int (nI (a + 1))) (jb_vI (nI_add _ 1)) ?_
      refine pf_X12_62 (pc' := 196) (h' := [s0, s1, s2, s3, s4, s5, s6, s7, s8, s9, jb_mdl I (upd J 1 (nI (a + 1))) d e kp nm W, s11]) dX12_unit_193 (fun _ => ⟨rfl, rfl⟩) rfl (Nat.le_of_ble_eq_true rfl) rfl rfl ?_
      refine jb_iinc_ (pc' := 199) (nI (dg + 1)) dX12_unit_196 (by decide) rfl (jb_inc dg 1) (jb_at4 rfl) rfl ?_
      refine jb_goto (pc' := 150) dX12_unit_199 (by decide) ?_
      have dg1 : 48 ≤ jp_lk B n a ∧ jp_lk B n a ≤ 57 := (jp_nob _).mp (by assumption)
      have ha1 : a < n := jp_in (fun z => by rw [z] at dg1; exact absurd dg1.1 (by decide))
      refine ih (dg + 1) (a + 1) (v * 10 + jp_dv (jp_lk B n a)) (upd J 1 (nI (a + 1))) (by omega) ha1 (hq.at (b := (a + 1))) (fun J9 dg9 b w hw h1 h2 h3 hq9 => ?_)
      exact hQ J9 dg9 b w ((if_pos dg1).trans hw) (by omega) h2 (fun _ => by omega) hq9
    · show jb_J _ RX12 cX12_unit 5 (Option.some .int) false D 0 0 170 [some (.ref 105), x1, some (.int (-1)), some (.int (nI v)), some (.int (nI dg))] [.int 0] [s0, s1, s2, s3, s4, s5, s6, s7, s8, s9, jb_mdl I J d e kp nm W, s11] _
      refine jb_if_eq (tgt := 202) (pc' := 173) dX12_unit_170 (by decide) rfl (fun _ => ?_) (fun z => absurd (by decide) z)
      have dg0 : ¬ (48 ≤ jp_lk B n a ∧ jp_lk B n a ≤ 57) := fun z => (show ¬ jn_b (jp_lk B n a) 48 58 by assumption) ((jp_nob _).mpr z)
      exact hQ J dg a v (if_neg dg0) (Nat.le_refl _) (by omega) (fun z => absurd z.1 dg0) hq
set_option maxRecDepth 100000 in
set_option maxHeartbeats 4000000 in
theorem c_unit0m {sc : Nat × (Nat → Int32)} {s0 s1 s2 s3 s4 s5 s6 s7 s8 s9 s11 : List va_E} (I e kp nm : Nat → Int32) (W : Nat → Nat → Int32) {B : Nat → Int32} {base n u : Nat} (d : Nat → Int32) (hB : ∀ k, k < n → d (base + k) = B k) (hn : n ≤ 50) (hb : base ≤ 438) (hu : u < 2) (D : Nat) (hD : 2 ≤ D) : jq_F sc s0 s1 s2 s3 s4 s5 s6 s7 s8 s9 s11 I e kp nm W d base n u (nI 5) yX12_unit cX12_unit 5 D (jp_op B n u 0) := by
  intro J a ha hq
  have hu0 := hu
  refine jb_CofJ (ini := false) (by decide +kernel) (fun h => by cases h) (Nat.le_of_ble_eq_true rfl) ?_
  by_cases hdg : 48 ≤ jp_lk B n a ∧ jp_lk B n a ≤ 57
  · have n33 : ¬ jp_lk B n a = 33 := fun z => by rw [z] at hdg; exact absurd hdg.1 (by decide)
    have n40 : ¬ jp_lk B n a = 40 := fun z => by rw [z] at hdg; exact absurd hdg.1 (by decide)
    show jb_J _ RX12 cX12_unit 5 (Option.some .int) false D 0 0 0 [some (.ref 105), none, none, none, none] [] [s0, s1, s2, s3, s4, s5, s6, s7, s8, s9, jb_mdl I J d e kp nm W, s11] _
    refine jb_aload_n (pc' := 1) dX12_unit_0 rfl rfl ?_
    refine jb_callV (pc' := 4) (ci := 12) (q := 105) (As := []) (a2 := 0) (b2 := 0) wv_X12_75 rfl dX12_unit_1 (c_here I e kp nm W d hB hn hb J hq) rfl rfl ⟨by omega, Nat.le_of_eq (Nat.zero_add _), Nat.le_of_eq (Nat.zero_add _)⟩ (Nat.le_of_ble_eq_true rfl) rfl (fun r h9 hq => ?_)
    obtain ⟨rfl, rfl⟩ := hq
    show jb_J _ RX12 cX12_unit 5 (Option.some .int) false D 0 0 4 [some (.ref 105), none, none, none, none] [.int (jp_lk B n a)] [s0, s1, s2, s3, s4, s5, s6, s7, s8, s9, jb_mdl I J d e kp nm W, s11] _
    refine jb_istore_n_ (pc' := 5) dX12_unit_4 (by decide) (jb_at1 rfl) rfl ?_
    refine jb_iload_n (pc' := 6) dX12_unit_5 rfl rfl ?_
    refine jb_bipush (pc' := 8) 33 dX12_unit_6 (by decide) rfl ?_
    refine jb_icmp_eq (tgt := 17) (pc' := 11) dX12_unit_8 (by decide) rfl (fun z => absurd z n33) (fun _ => ?_)
    refine jb_iload_n (pc' := 12) dX12_unit_11 rfl rfl ?_
    refine jb_bipush (pc' := 14) 40 dX12_unit_12 (by decide) rfl ?_
    refine jb_icmp_ne (tgt := 118) (pc' := 17) dX12_unit_14 (by decide) rfl (fun _ => ?_) (fun z => absurd z n40)
    refine jb_aload_n (pc' := 119) dX12_unit_118 rfl rfl ?_
    refine jb_iload_n (pc' := 120) dX12_unit_119 rfl rfl ?_
    refine jb_callV (pc' := 123) (ci := 12) (q := 105) (As := [.int (jp_lk B n a)]) (a2 := 0) (b2 := 0) wv_X12_111 rfl dX12_unit_120 (c_nameOf I e kp nm W J d hu hq (jp_lk B n a)) rfl rfl ⟨by omega, Nat.le_of_eq (Nat.zero_add _), Nat.le_of_eq (Nat.zero_add _)⟩ (Nat.le_of_ble_eq_true rfl) rfl (fun r h9 hq => ?_)
    rcases hq with ⟨rfl, ⟨en, rfl⟩ | ⟨i, hi, en, rfl⟩⟩
    · show jb_J _ RX12 cX12_unit 5 (Option.some .int) false D 0 0 123 [some (.ref 105), some (.int (jp_lk B n a)), none, none, none] [.int (-1)] [s0, s1, s2, s3, s4, s5, s6, s7, s8, s9, jb_mdl I J d e kp nm W, s11] _
      refine jb_istore_n_ (pc' := 124) dX12_unit_123 (by decide) (jb_at2 rfl) rfl ?_
      refine jb_iload_n (pc' := 125) dX12_unit_124 rfl rfl ?_
      refine jb_if_lt (tgt := 145) (pc' := 128) dX12_unit_125 (by decide) rfl (fun _ => ?_) (fun z => absurd (by decide) z)
      refine jb_iconst (pc' := 146) 0 dX12_unit_145 (by decide) rfl ?_
      refine jb_istore_n_ (pc' := 147) dX12_unit_146 (by decide) (jb_at3 rfl) rfl ?_
      refine jb_iconst (pc' := 148) 0 dX12_unit_147 (by decide) rfl ?_
      refine jb_istore_ (pc' := 150) dX12_unit_148 (by decide) (jb_at4 rfl) rfl ?_
      refine l_numm I e kp nm W d hB hn hb hu0 D hD (nI 5) _ _ 4 0 a 0 J (by omega) ha hq (fun J9 dg9 b w hw h1 h2 h3 hq9 => ?_)
      have dg1 := h3 ⟨hdg, by decide⟩
      show jb_J _ RX12 cX12_unit 5 (Option.some .int) false D 0 0 202 [some (.ref 105), some (.int (jp_lk B n a)), some (.int (-1)), some (.int (nI w)), some (.int (nI dg9))] [] [s0, s1, s2, s3, s4, s5, s6, s7, s8, s9, jb_mdl I J9 d e kp nm W, s11] _
      refine jb_iload (pc' := 204) dX12_unit_202 rfl rfl ?_
      refine jb_if_ne (tgt := 214) (pc' := 207) dX12_unit_204 (by decide) rfl (fun _ => ?_) (fun z => absurd z (nI_ne0 (n := dg9) (by omega) (by omega)))
      refine jb_iload_n (pc' := 215) dX12_unit_214 rfl rfl ?_
      refine jb_iret dX12_unit_215 rfl ?_
      obtain ⟨g1, g2, g3⟩ := jp_nu_in hdg
      have eb : (jp_nu B n 4 a 0).1 = b := by rw [hw]
      have ew : (jp_nu B n 4 a 0).2 = w := by rw [hw]
      rw [jp_op_dg _ hdg, eb, ew]
      exact ⟨J9, ⟨b, rfl, Or.inl ⟨rfl, hq9, by rw [jv_num nm (by omega)]⟩⟩, rfl⟩
    · rw [jp_na_dg hdg] at en
      cases en
  by_cases hs : jp_lk B n a = 33
  · have ha1 : a < n := jp_in (fun z => by rw [hs] at z; exact absurd z (by decide))
    show jb_J _ RX12 cX12_unit 5 (Option.some .int) false D 0 0 0 [some (.ref 105), none, none, none, none] [] [s0, s1, s2, s3, s4, s5, s6, s7, s8, s9, jb_mdl I J d e kp nm W, s11] _
    refine jb_aload_n (pc' := 1) dX12_unit_0 rfl rfl ?_
    refine jb_callV (pc' := 4) (ci := 12) (q := 105) (As := []) (a2 := 0) (b2 := 0) wv_X12_75 rfl dX12_unit_1 (c_here I e kp nm W d hB hn hb J hq) rfl rfl ⟨by omega, Nat.le_of_eq (Nat.zero_add _), Nat.le_of_eq (Nat.zero_add _)⟩ (Nat.le_of_ble_eq_true rfl) rfl (fun r h9 hq => ?_)
    obtain ⟨rfl, rfl⟩ := hq
    rw [hs]
    show jb_J _ RX12 cX12_unit 5 (Option.some .int) false D 0 0 4 [some (.ref 105), none, none, none, none] [.int 33] [s0, s1, s2, s3, s4, s5, s6, s7, s8, s9, jb_mdl I J d e kp nm W, s11] _
    refine jb_istore_n_ (pc' := 5) dX12_unit_4 (by decide) (jb_at1 rfl) rfl ?_
    refine jb_iload_n (pc' := 6) dX12_unit_5 rfl rfl ?_
    refine jb_bipush (pc' := 8) 33 dX12_unit_6 (by decide) rfl ?_
    refine jb_icmp_eq (tgt := 17) (pc' := 11) dX12_unit_8 (by decide) rfl (fun _ => ?_) (fun z => absurd (by decide) z)
    refine jb_aload_n (pc' := 18) dX12_unit_17 rfl rfl ?_
    refine gf_X12_102 (pc' := 21) (v := .int (J 4)) dX12_unit_18 rfl rfl rfl ?_
    refine jb_top (v := .int (J 4)) (w := .int 5) (jb_vI hq.2.2.2.2.1) ?_
    refine jb_iconst (pc' := 22) 5 dX12_unit_21 (by decide) rfl ?_
    refine jb_icmp_ne (tgt := 30) (pc' := 25) dX12_unit_22 (by decide) rfl (fun z => absurd (by decide) z) (fun _ => ?_)
    refine jb_aload_n (pc' := 26) dX12_unit_25 rfl rfl ?_
    refine jb_callV (pc' := 29) (ci := 12) (q := 105) (As := []) (a2 := 0) (b2 := 0) wv_X12_105 rfl dX12_unit_26 (c_wrong I e kp nm W J d hq) rfl rfl ⟨by omega, Nat.le_of_eq (Nat.zero_add _), Nat.le_of_eq (Nat.zero_add _)⟩ (Nat.le_of_ble_eq_true rfl) rfl (fun r h9 hq => ?_)
    obtain ⟨rfl, rfl⟩ := hq
    show jb_J _ RX12 cX12_unit 5 (Option.some .int) false D 0 0 29 [some (.ref 105), some (.int 33), none, none, none] [.int 0] [s0, s1, s2, s3, s4, s5, s6, s7, s8, s9, jb_mdl I (upd J 3 (nI a)) d e kp nm W, s11] _
    refine jb_iret dX12_unit_29 rfl ?_
    rw [jp_op_0 hs (by decide)]
    exact ⟨(upd J 3 (nI a)), ⟨a, rfl, Or.inr ⟨rfl, _, _, (hq.flt (f2 := (nI a))), rfl⟩⟩, rfl⟩
  have n33 := hs
  clear hs
  by_cases hs : jp_lk B n a = 40
  · have ha1 : a < n := jp_in (fun z => by rw [hs] at z; exact absurd z (by decide))
    show jb_J _ RX12 cX12_unit 5 (Option.some .int) false D 0 0 0 [some (.ref 105), none, none, none, none] [] [s0, s1, s2, s3, s4, s5, s6, s7, s8, s9, jb_mdl I J d e kp nm W, s11] _
    refine jb_aload_n (pc' := 1) dX12_unit_0 rfl rfl ?_
    refine jb_callV (pc' := 4) (ci := 12) (q := 105) (As := []) (a2 := 0) (b2 := 0) wv_X12_75 rfl dX12_unit_1 (c_here I e kp nm W d hB hn hb J hq) rfl rfl ⟨by omega, Nat.le_of_eq (Nat.zero_add _), Nat.le_of_eq (Nat.zero_add _)⟩ (Nat.le_of_ble_eq_true rfl) rfl (fun r h9 hq => ?_)
    obtain ⟨rfl, rfl⟩ := hq
    rw [hs]
    show jb_J _ RX12 cX12_unit 5 (Option.some .int) false D 0 0 4 [some (.ref 105), none, none, none, none] [.int 40] [s0, s1, s2, s3, s4, s5, s6, s7, s8, s9, jb_mdl I J d e kp nm W, s11] _
    refine jb_istore_n_ (pc' := 5) dX12_unit_4 (by decide) (jb_at1 rfl) rfl ?_
    refine jb_iload_n (pc' := 6) dX12_unit_5 rfl rfl ?_
    refine jb_bipush (pc' := 8) 33 dX12_unit_6 (by decide) rfl ?_
    refine jb_icmp_eq (tgt := 17) (pc' := 11) dX12_unit_8 (by decide) rfl (fun z => absurd z (by decide)) (fun _ => ?_)
    refine jb_iload_n (pc' := 12) dX12_unit_11 rfl rfl ?_
    refine jb_bipush (pc' := 14) 40 dX12_unit_12 (by decide) rfl ?_
    refine jb_icmp_ne (tgt := 118) (pc' := 17) dX12_unit_14 (by decide) rfl (fun z => absurd (by decide) z) (fun _ => ?_)
    refine jb_aload_n (pc' := 18) dX12_unit_17 rfl rfl ?_
    refine gf_X12_102 (pc' := 21) (v := .int (J 4)) dX12_unit_18 rfl rfl rfl ?_
    refine jb_top (v := .int (J 4)) (w := .int 5) (jb_vI hq.2.2.2.2.1) ?_
    refine jb_iconst (pc' := 22) 5 dX12_unit_21 (by decide) rfl ?_
    refine jb_icmp_ne (tgt := 30) (pc' := 25) dX12_unit_22 (by decide) rfl (fun z => absurd (by decide) z) (fun _ => ?_)
    refine jb_aload_n (pc' := 26) dX12_unit_25 rfl rfl ?_
    refine jb_callV (pc' := 29) (ci := 12) (q := 105) (As := []) (a2 := 0) (b2 := 0) wv_X12_105 rfl dX12_unit_26 (c_wrong I e kp nm W J d hq) rfl rfl ⟨by omega, Nat.le_of_eq (Nat.zero_add _), Nat.le_of_eq (Nat.zero_add _)⟩ (Nat.le_of_ble_eq_true rfl) rfl (fun r h9 hq => ?_)
    obtain ⟨rfl, rfl⟩ := hq
    show jb_J _ RX12 cX12_unit 5 (Option.some .int) false D 0 0 29 [some (.ref 105), some (.int 40), none, none, none] [.int 0] [s0, s1, s2, s3, s4, s5, s6, s7, s8, s9, jb_mdl I (upd J 3 (nI a)) d e kp nm W, s11] _
    refine jb_iret dX12_unit_29 rfl ?_
    rw [jp_op_0 hs (by decide)]
    exact ⟨(upd J 3 (nI a)), ⟨a, rfl, Or.inr ⟨rfl, _, _, (hq.flt (f2 := (nI a))), rfl⟩⟩, rfl⟩
  have n40 := hs
  show jb_J _ RX12 cX12_unit 5 (Option.some .int) false D 0 0 0 [some (.ref 105), none, none, none, none] [] [s0, s1, s2, s3, s4, s5, s6, s7, s8, s9, jb_mdl I J d e kp nm W, s11] _
  refine jb_aload_n (pc' := 1) dX12_unit_0 rfl rfl ?_
  refine jb_callV (pc' := 4) (ci := 12) (q := 105) (As := []) (a2 := 0) (b2 := 0) wv_X12_75 rfl dX12_unit_1 (c_here I e kp nm W d hB hn hb J hq) rfl rfl ⟨by omega, Nat.le_of_eq (Nat.zero_add _), Nat.le_of_eq (Nat.zero_add _)⟩ (Nat.le_of_ble_eq_true rfl) rfl (fun r h9 hq => ?_)
  obtain ⟨rfl, rfl⟩ := hq
  show jb_J _ RX12 cX12_unit 5 (Option.some .int) false D 0 0 4 [some (.ref 105), none, none, none, none] [.int (jp_lk B n a)] [s0, s1, s2, s3, s4, s5, s6, s7, s8, s9, jb_mdl I J d e kp nm W, s11] _
  refine jb_istore_n_ (pc' := 5) dX12_unit_4 (by decide) (jb_at1 rfl) rfl ?_
  refine jb_iload_n (pc' := 6) dX12_unit_5 rfl rfl ?_
  refine jb_bipush (pc' := 8) 33 dX12_unit_6 (by decide) rfl ?_
  refine jb_icmp_eq (tgt := 17) (pc' := 11) dX12_unit_8 (by decide) rfl (fun z => absurd z n33) (fun _ => ?_)
  refine jb_iload_n (pc' := 12) dX12_unit_11 rfl rfl ?_
  refine jb_bipush (pc' := 14) 40 dX12_unit_12 (by decide) rfl ?_
  refine jb_icmp_ne (tgt := 118) (pc' := 17) dX12_unit_14 (by decide) rfl (fun _ => ?_) (fun z => absurd z n40)
  refine jb_aload_n (pc' := 119) dX12_unit_118 rfl rfl ?_
  refine jb_iload_n (pc' := 120) dX12_unit_119 rfl rfl ?_
  refine jb_callV (pc' := 123) (ci := 12) (q := 105) (As := [.int (jp_lk B n a)]) (a2 := 0) (b2 := 0) wv_X12_111 rfl dX12_unit_120 (c_nameOf I e kp nm W J d hu hq (jp_lk B n a)) rfl rfl ⟨by omega, Nat.le_of_eq (Nat.zero_add _), Nat.le_of_eq (Nat.zero_add _)⟩ (Nat.le_of_ble_eq_true rfl) rfl (fun r h9 hq => ?_)
  rcases hq with ⟨rfl, ⟨en, rfl⟩ | ⟨i, hi, en, rfl⟩⟩
  · show jb_J _ RX12 cX12_unit 5 (Option.some .int) false D 0 0 123 [some (.ref 105), some (.int (jp_lk B n a)), none, none, none] [.int (-1)] [s0, s1, s2, s3, s4, s5, s6, s7, s8, s9, jb_mdl I J d e kp nm W, s11] _
    refine jb_istore_n_ (pc' := 124) dX12_unit_123 (by decide) (jb_at2 rfl) rfl ?_
    refine jb_iload_n (pc' := 125) dX12_unit_124 rfl rfl ?_
    refine jb_if_lt (tgt := 145) (pc' := 128) dX12_unit_125 (by decide) rfl (fun _ => ?_) (fun z => absurd (by decide) z)
    refine jb_iconst (pc' := 146) 0 dX12_unit_145 (by decide) rfl ?_
    refine jb_istore_n_ (pc' := 147) dX12_unit_146 (by decide) (jb_at3 rfl) rfl ?_
    refine jb_iconst (pc' := 148) 0 dX12_unit_147 (by decide) rfl ?_
    refine jb_istore_ (pc' := 150) dX12_unit_148 (by decide) (jb_at4 rfl) rfl ?_
    refine jb_iload (pc' := 152) dX12_unit_150 rfl rfl ?_
    refine jb_iconst (pc' := 153) 4 dX12_unit_152 (by decide) rfl ?_
    refine jb_icmp_ge (tgt := 202) (pc' := 156) dX12_unit_153 (by decide) rfl (fun z => absurd z (by decide)) (fun _ => ?_)
    refine jb_aload_n (pc' := 157) dX12_unit_156 rfl rfl ?_
    refine jb_callV (pc' := 160) (ci := 12) (q := 105) (As := []) (a2 := 0) (b2 := 0) wv_X12_75 rfl dX12_unit_157 (c_here I e kp nm W d hB hn hb J hq) rfl rfl ⟨by omega, Nat.le_of_eq (Nat.zero_add _), Nat.le_of_eq (Nat.zero_add _)⟩ (Nat.le_of_ble_eq_true rfl) rfl (fun r h9 hq => ?_)
    obtain ⟨rfl, rfl⟩ := hq
    show jb_J _ RX12 cX12_unit 5 (Option.some .int) false D 0 0 160 [some (.ref 105), some (.int (jp_lk B n a)), some (.int (-1)), some (.int 0), some (.int 0)] [.int (jp_lk B n a)] [s0, s1, s2, s3, s4, s5, s6, s7, s8, s9, jb_mdl I J d e kp nm W, s11] _
    refine jb_i2l (pc' := 161) dX12_unit_160 rfl ?_
    refine jb_ldc2 (pc' := 164) 48 dX12_unit_161 wk_X12_115 rfl ?_
    refine jb_ldc2 (pc' := 167) 57 dX12_unit_164 wk_X12_117 rfl ?_
    refine jb_callS (pc' := 170) (As := [.long ((jp_lk B n a).toInt64), .long 48, .long 57]) (a2 := 0) (b2 := 0) wv_X12_56 dX12_unit_167 (c_inL _ (jp_lk B n a) 48 57 (by omega) (by omega)) rfl ⟨by omega, Nat.le_of_eq (Nat.zero_add _), Nat.le_of_eq (Nat.zero_add _)⟩ (Nat.le_of_ble_eq_true rfl) rfl (fun r h9 hq => ?_)
    rcases hq with ⟨rfl, ⟨o5, rfl⟩ | ⟨o5, rfl⟩⟩
    · exact absurd ((jp_nob _).mp (by assumption)) hdg
    · show jb_J _ RX12 cX12_unit 5 (Option.some .int) false D 0 0 170 [some (.ref 105), some (.int (jp_lk B n a)), some (.int (-1)), some (.int 0), some (.int 0)] [.int 0] [s0, s1, s2, s3, s4, s5, s6, s7, s8, s9, jb_mdl I J d e kp nm W, s11] _
      refine jb_if_eq (tgt := 202) (pc' := 173) dX12_unit_170 (by decide) rfl (fun _ => ?_) (fun z => absurd (by decide) z)
      refine jb_iload (pc' := 204) dX12_unit_202 rfl rfl ?_
      refine jb_if_ne (tgt := 214) (pc' := 207) dX12_unit_204 (by decide) rfl (fun z => absurd (by decide) z) (fun _ => ?_)
      refine jb_aload_n (pc' := 208) dX12_unit_207 rfl rfl ?_
      refine jb_callV (pc' := 211) (ci := 12) (q := 105) (As := []) (a2 := 0) (b2 := 0) wv_X12_105 rfl dX12_unit_208 (c_wrong I e kp nm W J d hq) rfl rfl ⟨by omega, Nat.le_of_eq (Nat.zero_add _), Nat.le_of_eq (Nat.zero_add _)⟩ (Nat.le_of_ble_eq_true rfl) rfl (fun r h9 hq => ?_)
      obtain ⟨rfl, rfl⟩ := hq
      show jb_J _ RX12 cX12_unit 5 (Option.some .int) false D 0 0 211 [some (.ref 105), some (.int (jp_lk B n a)), some (.int (-1)), some (.int 0), some (.int 0)] [.int 0] [s0, s1, s2, s3, s4, s5, s6, s7, s8, s9, jb_mdl I (upd J 3 (nI a)) d e kp nm W, s11] _
      refine jb_goto (pc' := 215) dX12_unit_211 (by decide) ?_
      refine jb_iret dX12_unit_215 rfl ?_
      have e8 : jp_op B n u 0 a = (a, false, []) := by
        rw [jp_op_nm _ hdg n33 n40]
        unfold jp_nm
        rw [en]
      rw [e8]
      exact ⟨(upd J 3 (nI a)), ⟨a, rfl, Or.inr ⟨rfl, _, _, (hq.flt (f2 := (nI a))), rfl⟩⟩, rfl⟩
  · show jb_J _ RX12 cX12_unit 5 (Option.some .int) false D 0 0 123 [some (.ref 105), some (.int (jp_lk B n a)), none, none, none] [.int (nI i)] [s0, s1, s2, s3, s4, s5, s6, s7, s8, s9, jb_mdl I J d e kp nm W, s11] _
    refine jb_istore_n_ (pc' := 124) dX12_unit_123 (by decide) (jb_at2 rfl) rfl ?_
    refine jb_iload_n (pc' := 125) dX12_unit_124 rfl rfl ?_
    refine jb_if_lt (tgt := 145) (pc' := 128) dX12_unit_125 (by decide) rfl (fun z => absurd z (nI_pos (n := i) (by omega))) (fun _ => ?_)
    refine jb_aload_n (pc' := 129) dX12_unit_128 rfl rfl ?_
    refine jb_dup (pc' := 130) dX12_unit_129 rfl rfl ?_
    refine gf_X12_62 (pc' := 133) (v := .int (J 1)) dX12_unit_130 rfl rfl rfl ?_
    refine jb_top (v := .int (J 1)) (w := .int (nI a)) (jb_vI hq.2.1) ?_
    refine jb_iconst (pc' := 134) 1 dX12_unit_133 (by decide) rfl ?_
    refine jb_iadd (pc' := 135) dX12_unit_134 rfl ?_
    refine jb_top (v := .int ((nI a) + 1)) (w := .int (nI (a + 1))) (jb_vI (nI_add _ 1)) ?_
    refine pf_X12_62 (pc' := 138) (h' := [s0, s1, s2, s3, s4, s5, s6, s7, s8, s9, jb_mdl I (upd J 1 (nI (a + 1))) d e kp nm W, s11]) dX12_unit_135 (fun _ => ⟨rfl, rfl⟩) rfl (Nat.le_of_ble_eq_true rfl) rfl rfl ?_
    refine jb_aload_n (pc' := 139) dX12_unit_138 rfl rfl ?_
    refine gf_X12_22 (pc' := 142) (v := .ref 110) dX12_unit_139 rfl rfl rfl ?_
    refine jb_iload_n (pc' := 143) dX12_unit_142 rfl rfl ?_
    refine jb_iaload (pc' := 144) (i9 := i) (f := nm) dX12_unit_143 rfl (jb_ix_nI (by omega)) (by omega) rfl ?_
    refine jb_iret dX12_unit_144 rfl ?_
    have e8 : jp_op B n u 0 a = (a + 1, true, [-1 - nI i]) := by
      rw [jp_op_nm _ hdg n33 n40]
      unfold jp_nm
      rw [en]
    rw [e8]
    exact ⟨(upd J 1 (nI (a + 1))), ⟨a + 1, rfl, Or.inl ⟨rfl, (hq.at (b := (a + 1))), by rw [jv_nam nm hi]⟩⟩, rfl⟩
set_option maxRecDepth 100000 in
set_option maxHeartbeats 4000000 in
theorem c_unit1m {sc : Nat × (Nat → Int32)} {s0 s1 s2 s3 s4 s5 s6 s7 s8 s9 s11 : List va_E} (I e kp nm : Nat → Int32) (W : Nat → Nat → Int32) {B : Nat → Int32} {base n u : Nat} (d : Nat → Int32) (hB : ∀ k, k < n → d (base + k) = B k) (hn : n ≤ 50) (hb : base ≤ 438) (hu : u < 2) (D : Nat) (hD : 2 ≤ D) (p o : Nat) (hp : p < 5) (DU DE : Nat) (hDU : DU + 1 ≤ D) (hDE : DE + 1 ≤ D) (hfU : jq_F sc s0 s1 s2 s3 s4 s5 s6 s7 s8 s9 s11 I e kp nm W d base n u (nI (p + 1)) yX12_unit cX12_unit 5 DU (jp_op B n u o)) (hfE : jq_F sc s0 s1 s2 s3 s4 s5 s6 s7 s8 s9 s11 I e kp nm W d base n u (nI (p + 1)) yX12_either cX12_either 3 DE (jp_up B n (jp_op B n u o) 5)) : jq_F sc s0 s1 s2 s3 s4 s5 s6 s7 s8 s9 s11 I e kp nm W d base n u (nI p) yX12_unit cX12_unit 5 D (jp_op B n u (o + 1)) := by
  intro J a ha hq
  have hu0 := hu
  refine jb_CofJ (ini := false) (by decide +kernel) (fun h => by cases h) (Nat.le_of_ble_eq_true rfl) ?_
  by_cases hdg : 48 ≤ jp_lk B n a ∧ jp_lk B n a ≤ 57
  · have n33 : ¬ jp_lk B n a = 33 := fun z => by rw [z] at hdg; exact absurd hdg.1 (by decide)
    have n40 : ¬ jp_lk B n a = 40 := fun z => by rw [z] at hdg; exact absurd hdg.1 (by decide)
    show jb_J _ RX12 cX12_unit 5 (Option.some .int) false D 0 0 0 [some (.ref 105), none, none, none, none] [] [s0, s1, s2, s3, s4, s5, s6, s7, s8, s9, jb_mdl I J d e kp nm W, s11] _
    refine jb_aload_n (pc' := 1) dX12_unit_0 rfl rfl ?_
    refine jb_callV (pc' := 4) (ci := 12) (q := 105) (As := []) (a2 := 0) (b2 := 0) wv_X12_75 rfl dX12_unit_1 (c_here I e kp nm W d hB hn hb J hq) rfl rfl ⟨by omega, Nat.le_of_eq (Nat.zero_add _), Nat.le_of_eq (Nat.zero_add _)⟩ (Nat.le_of_ble_eq_true rfl) rfl (fun r h9 hq => ?_)
    obtain ⟨rfl, rfl⟩ := hq
    show jb_J _ RX12 cX12_unit 5 (Option.some .int) false D 0 0 4 [some (.ref 105), none, none, none, none] [.int (jp_lk B n a)] [s0, s1, s2, s3, s4, s5, s6, s7, s8, s9, jb_mdl I J d e kp nm W, s11] _
    refine jb_istore_n_ (pc' := 5) dX12_unit_4 (by decide) (jb_at1 rfl) rfl ?_
    refine jb_iload_n (pc' := 6) dX12_unit_5 rfl rfl ?_
    refine jb_bipush (pc' := 8) 33 dX12_unit_6 (by decide) rfl ?_
    refine jb_icmp_eq (tgt := 17) (pc' := 11) dX12_unit_8 (by decide) rfl (fun z => absurd z n33) (fun _ => ?_)
    refine jb_iload_n (pc' := 12) dX12_unit_11 rfl rfl ?_
    refine jb_bipush (pc' := 14) 40 dX12_unit_12 (by decide) rfl ?_
    refine jb_icmp_ne (tgt := 118) (pc' := 17) dX12_unit_14 (by decide) rfl (fun _ => ?_) (fun z => absurd z n40)
    refine jb_aload_n (pc' := 119) dX12_unit_118 rfl rfl ?_
    refine jb_iload_n (pc' := 120) dX12_unit_119 rfl rfl ?_
    refine jb_callV (pc' := 123) (ci := 12) (q := 105) (As := [.int (jp_lk B n a)]) (a2 := 0) (b2 := 0) wv_X12_111 rfl dX12_unit_120 (c_nameOf I e kp nm W J d hu hq (jp_lk B n a)) rfl rfl ⟨by omega, Nat.le_of_eq (Nat.zero_add _), Nat.le_of_eq (Nat.zero_add _)⟩ (Nat.le_of_ble_eq_true rfl) rfl (fun r h9 hq => ?_)
    rcases hq with ⟨rfl, ⟨en, rfl⟩ | ⟨i, hi, en, rfl⟩⟩
    · show jb_J _ RX12 cX12_unit 5 (Option.some .int) false D 0 0 123 [some (.ref 105), some (.int (jp_lk B n a)), none, none, none] [.int (-1)] [s0, s1, s2, s3, s4, s5, s6, s7, s8, s9, jb_mdl I J d e kp nm W, s11] _
      refine jb_istore_n_ (pc' := 124) dX12_unit_123 (by decide) (jb_at2 rfl) rfl ?_
      refine jb_iload_n (pc' := 125) dX12_unit_124 rfl rfl ?_
      refine jb_if_lt (tgt := 145) (pc' := 128) dX12_unit_125 (by decide) rfl (fun _ => ?_) (fun z => absurd (by decide) z)
      refine jb_iconst (pc' := 146) 0 dX12_unit_145 (by decide) rfl ?_
      refine jb_istore_n_ (pc' := 147) dX12_unit_146 (by decide) (jb_at3 rfl) rfl ?_
      refine jb_iconst (pc' := 148) 0 dX12_unit_147 (by decide) rfl ?_
      refine jb_istore_ (pc' := 150) dX12_unit_148 (by decide) (jb_at4 rfl) rfl ?_
      refine l_numm I e kp nm W d hB hn hb hu0 D hD (nI p) _ _ 4 0 a 0 J (by omega) ha hq (fun J9 dg9 b w hw h1 h2 h3 hq9 => ?_)
      have dg1 := h3 ⟨hdg, by decide⟩
      show jb_J _ RX12 cX12_unit 5 (Option.some .int) false D 0 0 202 [some (.ref 105), some (.int (jp_lk B n a)), some (.int (-1)), some (.int (nI w)), some (.int (nI dg9))] [] [s0, s1, s2, s3, s4, s5, s6, s7, s8, s9, jb_mdl I J9 d e kp nm W, s11] _
      refine jb_iload (pc' := 204) dX12_unit_202 rfl rfl ?_
      refine jb_if_ne (tgt := 214) (pc' := 207) dX12_unit_204 (by decide) rfl (fun _ => ?_) (fun z => absurd z (nI_ne0 (n := dg9) (by omega) (by omega)))
      refine jb_iload_n (pc' := 215) dX12_unit_214 rfl rfl ?_
      refine jb_iret dX12_unit_215 rfl ?_
      obtain ⟨g1, g2, g3⟩ := jp_nu_in hdg
      have eb : (jp_nu B n 4 a 0).1 = b := by rw [hw]
      have ew : (jp_nu B n 4 a 0).2 = w := by rw [hw]
      rw [jp_op_dg _ hdg, eb, ew]
      exact ⟨J9, ⟨b, rfl, Or.inl ⟨rfl, hq9, by rw [jv_num nm (by omega)]⟩⟩, rfl⟩
    · rw [jp_na_dg hdg] at en
      cases en
  by_cases hs : jp_lk B n a = 33
  · have ha1 : a < n := jp_in (fun z => by rw [hs] at z; exact absurd z (by decide))
    obtain ⟨q1, q2, q3, q4⟩ := jp_op_ok (B := B) (u := u) o (a + 1) ha1
    show jb_J _ RX12 cX12_unit 5 (Option.some .int) false D 0 0 0 [some (.ref 105), none, none, none, none] [] [s0, s1, s2, s3, s4, s5, s6, s7, s8, s9, jb_mdl I J d e kp nm W, s11] _
    refine jb_aload_n (pc' := 1) dX12_unit_0 rfl rfl ?_
    refine jb_callV (pc' := 4) (ci := 12) (q := 105) (As := []) (a2 := 0) (b2 := 0) wv_X12_75 rfl dX12_unit_1 (c_here I e kp nm W d hB hn hb J hq) rfl rfl ⟨by omega, Nat.le_of_eq (Nat.zero_add _), Nat.le_of_eq (Nat.zero_add _)⟩ (Nat.le_of_ble_eq_true rfl) rfl (fun r h9 hq => ?_)
    obtain ⟨rfl, rfl⟩ := hq
    rw [hs]
    show jb_J _ RX12 cX12_unit 5 (Option.some .int) false D 0 0 4 [some (.ref 105), none, none, none, none] [.int 33] [s0, s1, s2, s3, s4, s5, s6, s7, s8, s9, jb_mdl I J d e kp nm W, s11] _
    refine jb_istore_n_ (pc' := 5) dX12_unit_4 (by decide) (jb_at1 rfl) rfl ?_
    refine jb_iload_n (pc' := 6) dX12_unit_5 rfl rfl ?_
    refine jb_bipush (pc' := 8) 33 dX12_unit_6 (by decide) rfl ?_
    refine jb_icmp_eq (tgt := 17) (pc' := 11) dX12_unit_8 (by decide) rfl (fun _ => ?_) (fun z => absurd (by decide) z)
    refine jb_aload_n (pc' := 18) dX12_unit_17 rfl rfl ?_
    refine gf_X12_102 (pc' := 21) (v := .int (J 4)) dX12_unit_18 rfl rfl rfl ?_
    refine jb_top (v := .int (J 4)) (w := .int (nI p)) (jb_vI hq.2.2.2.2.1) ?_
    refine jb_iconst (pc' := 22) 5 dX12_unit_21 (by decide) rfl ?_
    refine jb_icmp_ne (tgt := 30) (pc' := 25) dX12_unit_22 (by decide) rfl (fun _ => ?_) (fun z => absurd z (fun z => absurd ((nI_eq (a := p) (b := 5) (by omega) (by omega)).mp z) (by omega)))
    refine jb_aload_n (pc' := 31) dX12_unit_30 rfl rfl ?_
    refine jb_dup (pc' := 32) dX12_unit_31 rfl rfl ?_
    refine gf_X12_102 (pc' := 35) (v := .int (J 4)) dX12_unit_32 rfl rfl rfl ?_
    refine jb_top (v := .int (J 4)) (w := .int (nI p)) (jb_vI hq.2.2.2.2.1) ?_
    refine jb_iconst (pc' := 36) 1 dX12_unit_35 (by decide) rfl ?_
    refine jb_iadd (pc' := 37) dX12_unit_36 rfl ?_
    refine jb_top (v := .int ((nI p) + 1)) (w := .int (nI (p + 1))) (jb_vI (nI_add _ 1)) ?_
    refine pf_X12_102 (pc' := 40) (h' := [s0, s1, s2, s3, s4, s5, s6, s7, s8, s9, jb_mdl I (upd J 4 (nI (p + 1))) d e kp nm W, s11]) dX12_unit_37 (fun _ => ⟨rfl, rfl⟩) rfl (Nat.le_of_ble_eq_true rfl) rfl rfl ?_
    refine jb_aload_n (pc' := 41) dX12_unit_40 rfl rfl ?_
    refine jb_dup (pc' := 42) dX12_unit_41 rfl rfl ?_
    refine gf_X12_62 (pc' := 45) (v := .int (J 1)) dX12_unit_42 rfl rfl rfl ?_
    refine jb_top (v := .int (J 1)) (w := .int (nI a)) (jb_vI hq.2.1) ?_
    refine jb_iconst (pc' := 46) 1 dX12_unit_45 (by decide) rfl ?_
    refine jb_iadd (pc' := 47) dX12_unit_46 rfl ?_
    refine jb_top (v := .int ((nI a) + 1)) (w := .int (nI (a + 1))) (jb_vI (nI_add _ 1)) ?_
    refine pf_X12_62 (pc' := 50) (h' := [s0, s1, s2, s3, s4, s5, s6, s7, s8, s9, jb_mdl I (upd (upd J 4 (nI (p + 1))) 1 (nI (a + 1))) d e kp nm W, s11]) dX12_unit_47 (fun _ => ⟨rfl, rfl⟩) rfl (Nat.le_of_ble_eq_true rfl) rfl rfl ?_
    refine jb_iload_n (pc' := 51) dX12_unit_50 rfl rfl ?_
    refine jb_bipush (pc' := 53) 40 dX12_unit_51 (by decide) rfl ?_
    refine jb_icmp_ne (tgt := 63) (pc' := 56) dX12_unit_53 (by decide) rfl (fun _ => ?_) (fun z => absurd z (by decide))
    refine jb_aload_n (pc' := 64) dX12_unit_63 rfl rfl ?_
    refine jb_callV (pc' := 67) (ci := 12) (q := 105) (As := []) (a2 := 0) (b2 := 0) wv_X12_99 rfl dX12_unit_64 (hfU (upd (upd J 4 (nI (p + 1))) 1 (nI (a + 1))) (a + 1) (by omega) ((hq.opn (op2 := (nI (p + 1)))).at (b := (a + 1)))) rfl rfl ⟨by omega, Nat.le_of_eq (Nat.zero_add _), Nat.le_of_eq (Nat.zero_add _)⟩ (Nat.le_of_ble_eq_true rfl) rfl (fun r h9 hq => ?_)
    rcases hq with ⟨J19, ⟨b1, hb1, ⟨hy1, hq1, rfl⟩ | ⟨hy1, v1, op1, hq1, rfl⟩⟩, rfl⟩
    · show jb_J _ RX12 cX12_unit 5 (Option.some .int) false D 0 0 67 [some (.ref 105), some (.int 33), none, none, none] [.int (jv_ nm (jp_op B n u o (a + 1)).2.2)] [s0, s1, s2, s3, s4, s5, s6, s7, s8, s9, jb_mdl I J19 d e kp nm W, s11] _
      refine jb_istore_n_ (pc' := 68) dX12_unit_67 (by decide) (jb_at2 rfl) rfl ?_
      refine jb_iload_n (pc' := 69) dX12_unit_68 rfl rfl ?_
      refine jb_bipush (pc' := 71) 40 dX12_unit_69 (by decide) rfl ?_
      refine jb_icmp_ne (tgt := 88) (pc' := 74) dX12_unit_71 (by decide) rfl (fun _ => ?_) (fun z => absurd z (by decide))
      refine jb_aload_n (pc' := 89) dX12_unit_88 rfl rfl ?_
      refine jb_dup (pc' := 90) dX12_unit_89 rfl rfl ?_
      refine gf_X12_102 (pc' := 93) (v := .int (J19 4)) dX12_unit_90 rfl rfl rfl ?_
      refine jb_top (v := .int (J19 4)) (w := .int (nI (p + 1))) (jb_vI hq1.2.2.2.2.1) ?_
      refine jb_iconst (pc' := 94) 1 dX12_unit_93 (by decide) rfl ?_
      refine jb_isub (pc' := 95) dX12_unit_94 rfl ?_
      refine jb_top (v := .int ((nI (p + 1)) - 1)) (w := .int (nI p)) (jb_vI (nI_pred _)) ?_
      refine pf_X12_102 (pc' := 98) (h' := [s0, s1, s2, s3, s4, s5, s6, s7, s8, s9, jb_mdl I (upd J19 4 (nI p)) d e kp nm W, s11]) dX12_unit_95 (fun _ => ⟨rfl, rfl⟩) rfl (Nat.le_of_ble_eq_true rfl) rfl rfl ?_
      refine jb_iload_n (pc' := 99) dX12_unit_98 rfl rfl ?_
      refine jb_bipush (pc' := 101) 40 dX12_unit_99 (by decide) rfl ?_
      refine jb_icmp_ne (tgt := 108) (pc' := 104) dX12_unit_101 (by decide) rfl (fun _ => ?_) (fun z => absurd z (by decide))
      refine jb_iload_n (pc' := 109) dX12_unit_108 rfl rfl ?_
      refine jb_if_ne (tgt := 116) (pc' := 112) dX12_unit_109 (by decide) rfl (fun c6 => ?_) (fun c6 => ?_)
      · refine jb_iconst (pc' := 117) 0 dX12_unit_116 (by decide) rfl ?_
        refine jb_iret dX12_unit_117 rfl ?_
        rw [jp_op_33 o hs, hb1, hy1]
        exact ⟨(upd J19 4 (nI p)), ⟨b1, rfl, Or.inl ⟨rfl, (hq1.opn (op2 := (nI p))), congrArg (fun y9 => some (Value.int y9)) (by rw [jv_not (q4 hy1)]; first | exact (if_pos (by assumption)).symm | exact (if_neg (by assumption)).symm)⟩⟩, rfl⟩
      · refine jb_iconst (pc' := 113) 1 dX12_unit_112 (by decide) rfl ?_
        refine jb_goto (pc' := 117) dX12_unit_113 (by decide) ?_
        refine jb_iret dX12_unit_117 rfl ?_
        rw [jp_op_33 o hs, hb1, hy1]
        exact ⟨(upd J19 4 (nI p)), ⟨b1, rfl, Or.inl ⟨rfl, (hq1.opn (op2 := (nI p))), congrArg (fun y9 => some (Value.int y9)) (by rw [jv_not (q4 hy1)]; first | exact (if_pos (by assumption)).symm | exact (if_neg (by assumption)).symm)⟩⟩, rfl⟩
    · show jb_J _ RX12 cX12_unit 5 (Option.some .int) false D 0 0 67 [some (.ref 105), some (.int 33), none, none, none] [.int v1] [s0, s1, s2, s3, s4, s5, s6, s7, s8, s9, jb_mdl I J19 d e kp nm W, s11] _
      refine jb_istore_n_ (pc' := 68) dX12_unit_67 (by decide) (jb_at2 rfl) rfl ?_
      refine jb_iload_n (pc' := 69) dX12_unit_68 rfl rfl ?_
      refine jb_bipush (pc' := 71) 40 dX12_unit_69 (by decide) rfl ?_
      refine jb_icmp_ne (tgt := 88) (pc' := 74) dX12_unit_71 (by decide) rfl (fun _ => ?_) (fun z => absurd z (by decide))
      refine jb_aload_n (pc' := 89) dX12_unit_88 rfl rfl ?_
      refine jb_dup (pc' := 90) dX12_unit_89 rfl rfl ?_
      refine gf_X12_102 (pc' := 93) (v := .int (J19 4)) dX12_unit_90 rfl rfl rfl ?_
      refine jb_top (v := .int (J19 4)) (w := .int op1) (jb_vI hq1.2.2.2.2.1) ?_
      refine jb_iconst (pc' := 94) 1 dX12_unit_93 (by decide) rfl ?_
      refine jb_isub (pc' := 95) dX12_unit_94 rfl ?_
      refine pf_X12_102 (pc' := 98) (h' := [s0, s1, s2, s3, s4, s5, s6, s7, s8, s9, jb_mdl I (upd J19 4 (op1 - 1)) d e kp nm W, s11]) dX12_unit_95 (fun _ => ⟨rfl, rfl⟩) rfl (Nat.le_of_ble_eq_true rfl) rfl rfl ?_
      refine jb_iload_n (pc' := 99) dX12_unit_98 rfl rfl ?_
      refine jb_bipush (pc' := 101) 40 dX12_unit_99 (by decide) rfl ?_
      refine jb_icmp_ne (tgt := 108) (pc' := 104) dX12_unit_101 (by decide) rfl (fun _ => ?_) (fun z => absurd z (by decide))
      refine jb_iload_n (pc' := 109) dX12_unit_108 rfl rfl ?_
      refine jb_if_ne (tgt := 116) (pc' := 112) dX12_unit_109 (by decide) rfl (fun c9 => ?_) (fun c9 => ?_)
      · refine jb_iconst (pc' := 117) 0 dX12_unit_116 (by decide) rfl ?_
        refine jb_iret dX12_unit_117 rfl ?_
        rw [jp_op_33 o hs, hb1, hy1]
        exact ⟨(upd J19 4 (op1 - 1)), ⟨b1, rfl, Or.inr ⟨rfl, _, _, (hq1.opn (op2 := (op1 - 1))), rfl⟩⟩, rfl⟩
      · refine jb_iconst (pc' := 113) 1 dX12_unit_112 (by decide) rfl ?_
        refine jb_goto (pc' := 117) dX12_unit_113 (by decide) ?_
        refine jb_iret dX12_unit_117 rfl ?_
        rw [jp_op_33 o hs, hb1, hy1]
        exact ⟨(upd J19 4 (op1 - 1)), ⟨b1, rfl, Or.inr ⟨rfl, _, _, (hq1.opn (op2 := (op1 - 1))), rfl⟩⟩, rfl⟩
  have n33 := hs
  clear hs
  by_cases hs : jp_lk B n a = 40
  · have ha1 : a < n := jp_in (fun z => by rw [hs] at z; exact absurd z (by decide))
    obtain ⟨q1, q2, q3, q4⟩ := jp_up_ok (B := B) (fun a ha => jp_op_ok (B := B) (u := u) o a ha) 5 (a + 1) ha1
    show jb_J _ RX12 cX12_unit 5 (Option.some .int) false D 0 0 0 [some (.ref 105), none, none, none, none] [] [s0, s1, s2, s3, s4, s5, s6, s7, s8, s9, jb_mdl I J d e kp nm W, s11] _
    refine jb_aload_n (pc' := 1) dX12_unit_0 rfl rfl ?_
    refine jb_callV (pc' := 4) (ci := 12) (q := 105) (As := []) (a2 := 0) (b2 := 0) wv_X12_75 rfl dX12_unit_1 (c_here I e kp nm W d hB hn hb J hq) rfl rfl ⟨by omega, Nat.le_of_eq (Nat.zero_add _), Nat.le_of_eq (Nat.zero_add _)⟩ (Nat.le_of_ble_eq_true rfl) rfl (fun r h9 hq => ?_)
    obtain ⟨rfl, rfl⟩ := hq
    rw [hs]
    show jb_J _ RX12 cX12_unit 5 (Option.some .int) false D 0 0 4 [some (.ref 105), none, none, none, none] [.int 40] [s0, s1, s2, s3, s4, s5, s6, s7, s8, s9, jb_mdl I J d e kp nm W, s11] _
    refine jb_istore_n_ (pc' := 5) dX12_unit_4 (by decide) (jb_at1 rfl) rfl ?_
    refine jb_iload_n (pc' := 6) dX12_unit_5 rfl rfl ?_
    refine jb_bipush (pc' := 8) 33 dX12_unit_6 (by decide) rfl ?_
    refine jb_icmp_eq (tgt := 17) (pc' := 11) dX12_unit_8 (by decide) rfl (fun z => absurd z (by decide)) (fun _ => ?_)
    refine jb_iload_n (pc' := 12) dX12_unit_11 rfl rfl ?_
    refine jb_bipush (pc' := 14) 40 dX12_unit_12 (by decide) rfl ?_
    refine jb_icmp_ne (tgt := 118) (pc' := 17) dX12_unit_14 (by decide) rfl (fun z => absurd (by decide) z) (fun _ => ?_)
    refine jb_aload_n (pc' := 18) dX12_unit_17 rfl rfl ?_
    refine gf_X12_102 (pc' := 21) (v := .int (J 4)) dX12_unit_18 rfl rfl rfl ?_
    refine jb_top (v := .int (J 4)) (w := .int (nI p)) (jb_vI hq.2.2.2.2.1) ?_
    refine jb_iconst (pc' := 22) 5 dX12_unit_21 (by decide) rfl ?_
    refine jb_icmp_ne (tgt := 30) (pc' := 25) dX12_unit_22 (by decide) rfl (fun _ => ?_) (fun z => absurd z (fun z => absurd ((nI_eq (a := p) (b := 5) (by omega) (by omega)).mp z) (by omega)))
    refine jb_aload_n (pc' := 31) dX12_unit_30 rfl rfl ?_
    refine jb_dup (pc' := 32) dX12_unit_31 rfl rfl ?_
    refine gf_X12_102 (pc' := 35) (v := .int (J 4)) dX12_unit_32 rfl rfl rfl ?_
    refine jb_top (v := .int (J 4)) (w := .int (nI p)) (jb_vI hq.2.2.2.2.1) ?_
    refine jb_iconst (pc' := 36) 1 dX12_unit_35 (by decide) rfl ?_
    refine jb_iadd (pc' := 37) dX12_unit_36 rfl ?_
    refine jb_top (v := .int ((nI p) + 1)) (w := .int (nI (p + 1))) (jb_vI (nI_add _ 1)) ?_
    refine pf_X12_102 (pc' := 40) (h' := [s0, s1, s2, s3, s4, s5, s6, s7, s8, s9, jb_mdl I (upd J 4 (nI (p + 1))) d e kp nm W, s11]) dX12_unit_37 (fun _ => ⟨rfl, rfl⟩) rfl (Nat.le_of_ble_eq_true rfl) rfl rfl ?_
    refine jb_aload_n (pc' := 41) dX12_unit_40 rfl rfl ?_
    refine jb_dup (pc' := 42) dX12_unit_41 rfl rfl ?_
    refine gf_X12_62 (pc' := 45) (v := .int (J 1)) dX12_unit_42 rfl rfl rfl ?_
    refine jb_top (v := .int (J 1)) (w := .int (nI a)) (jb_vI hq.2.1) ?_
    refine jb_iconst (pc' := 46) 1 dX12_unit_45 (by decide) rfl ?_
    refine jb_iadd (pc' := 47) dX12_unit_46 rfl ?_
    refine jb_top (v := .int ((nI a) + 1)) (w := .int (nI (a + 1))) (jb_vI (nI_add _ 1)) ?_
    refine pf_X12_62 (pc' := 50) (h' := [s0, s1, s2, s3, s4, s5, s6, s7, s8, s9, jb_mdl I (upd (upd J 4 (nI (p + 1))) 1 (nI (a + 1))) d e kp nm W, s11]) dX12_unit_47 (fun _ => ⟨rfl, rfl⟩) rfl (Nat.le_of_ble_eq_true rfl) rfl rfl ?_
    refine jb_iload_n (pc' := 51) dX12_unit_50 rfl rfl ?_
    refine jb_bipush (pc' := 53) 40 dX12_unit_51 (by decide) rfl ?_
    refine jb_icmp_ne (tgt := 63) (pc' := 56) dX12_unit_53 (by decide) rfl (fun z => absurd (by decide) z) (fun _ => ?_)
    refine jb_aload_n (pc' := 57) dX12_unit_56 rfl rfl ?_
    refine jb_callV (pc' := 60) (ci := 12) (q := 105) (As := []) (a2 := 0) (b2 := 0) wv_X12_108 rfl dX12_unit_57 (hfE (upd (upd J 4 (nI (p + 1))) 1 (nI (a + 1))) (a + 1) (by omega) ((hq.opn (op2 := (nI (p + 1)))).at (b := (a + 1)))) rfl rfl ⟨by omega, Nat.le_of_eq (Nat.zero_add _), Nat.le_of_eq (Nat.zero_add _)⟩ (Nat.le_of_ble_eq_true rfl) rfl (fun r h9 hq => ?_)
    rcases hq with ⟨J19, ⟨b1, hb1, ⟨hy1, hq1, rfl⟩ | ⟨hy1, v1, op1, hq1, rfl⟩⟩, rfl⟩
    · show jb_J _ RX12 cX12_unit 5 (Option.some .int) false D 0 0 60 [some (.ref 105), some (.int 40), none, none, none] [.int (jv_ nm (jp_up B n (jp_op B n u o) 5 (a + 1)).2.2)] [s0, s1, s2, s3, s4, s5, s6, s7, s8, s9, jb_mdl I J19 d e kp nm W, s11] _
      refine jb_goto (pc' := 67) dX12_unit_60 (by decide) ?_
      refine jb_istore_n_ (pc' := 68) dX12_unit_67 (by decide) (jb_at2 rfl) rfl ?_
      refine jb_iload_n (pc' := 69) dX12_unit_68 rfl rfl ?_
      refine jb_bipush (pc' := 71) 40 dX12_unit_69 (by decide) rfl ?_
      refine jb_icmp_ne (tgt := 88) (pc' := 74) dX12_unit_71 (by decide) rfl (fun z => absurd (by decide) z) (fun _ => ?_)
      by_cases h41 : jp_lk B n b1 = 41
      · show jb_J _ RX12 cX12_unit 5 (Option.some .int) false D 0 0 74 [some (.ref 105), some (.int 40), some (.int (jv_ nm (jp_up B n (jp_op B n u o) 5 (a + 1)).2.2)), none, none] [] [s0, s1, s2, s3, s4, s5, s6, s7, s8, s9, jb_mdl I J19 d e kp nm W, s11] _
        refine jb_aload_n (pc' := 75) dX12_unit_74 rfl rfl ?_
        refine jb_bipush (pc' := 77) 41 dX12_unit_75 (by decide) rfl ?_
        refine jb_callV (pc' := 80) (ci := 12) (q := 105) (As := [.int 41]) (a2 := 0) (b2 := 0) wv_X12_86 rfl dX12_unit_77 (c_takes1 I e kp nm W d hB hn hb J19 hq1 (by omega) 41 h41) rfl rfl ⟨by omega, Nat.le_of_eq (Nat.zero_add _), Nat.le_of_eq (Nat.zero_add _)⟩ (Nat.le_of_ble_eq_true rfl) rfl (fun r h9 hq => ?_)
        obtain ⟨rfl, rfl⟩ := hq
        show jb_J _ RX12 cX12_unit 5 (Option.some .int) false D 0 0 80 [some (.ref 105), some (.int 40), some (.int (jv_ nm (jp_up B n (jp_op B n u o) 5 (a + 1)).2.2)), none, none] [.int 1] [s0, s1, s2, s3, s4, s5, s6, s7, s8, s9, jb_mdl I (upd J19 1 (nI (b1 + 1))) d e kp nm W, s11] _
        refine jb_if_ne (tgt := 88) (pc' := 83) dX12_unit_80 (by decide) rfl (fun _ => ?_) (fun z => absurd z (by decide))
        refine jb_aload_n (pc' := 89) dX12_unit_88 rfl rfl ?_
        refine jb_dup (pc' := 90) dX12_unit_89 rfl rfl ?_
        refine gf_X12_102 (pc' := 93) (v := .int (J19 4)) dX12_unit_90 rfl rfl rfl ?_
        refine jb_top (v := .int (J19 4)) (w := .int (nI (p + 1))) (jb_vI hq1.2.2.2.2.1) ?_
        refine jb_iconst (pc' := 94) 1 dX12_unit_93 (by decide) rfl ?_
        refine jb_isub (pc' := 95) dX12_unit_94 rfl ?_
        refine jb_top (v := .int ((nI (p + 1)) - 1)) (w := .int (nI p)) (jb_vI (nI_pred _)) ?_
        refine pf_X12_102 (pc' := 98) (h' := [s0, s1, s2, s3, s4, s5, s6, s7, s8, s9, jb_mdl I (upd (upd J19 1 (nI (b1 + 1))) 4 (nI p)) d e kp nm W, s11]) dX12_unit_95 (fun _ => ⟨rfl, rfl⟩) rfl (Nat.le_of_ble_eq_true rfl) rfl rfl ?_
        refine jb_iload_n (pc' := 99) dX12_unit_98 rfl rfl ?_
        refine jb_bipush (pc' := 101) 40 dX12_unit_99 (by decide) rfl ?_
        refine jb_icmp_ne (tgt := 108) (pc' := 104) dX12_unit_101 (by decide) rfl (fun z => absurd (by decide) z) (fun _ => ?_)
        refine jb_iload_n (pc' := 105) dX12_unit_104 rfl rfl ?_
        refine jb_goto (pc' := 117) dX12_unit_105 (by decide) ?_
        refine jb_iret dX12_unit_117 rfl ?_
        rw [jp_op_40 o hs, if_pos ⟨hy1, by rw [hb1]; exact h41⟩, hb1]
        exact ⟨(upd (upd J19 1 (nI (b1 + 1))) 4 (nI p)), ⟨b1 + 1, rfl, Or.inl ⟨rfl, ((hq1.at (b := (b1 + 1))).opn (op2 := (nI p))), rfl⟩⟩, rfl⟩
      · show jb_J _ RX12 cX12_unit 5 (Option.some .int) false D 0 0 74 [some (.ref 105), some (.int 40), some (.int (jv_ nm (jp_up B n (jp_op B n u o) 5 (a + 1)).2.2)), none, none] [] [s0, s1, s2, s3, s4, s5, s6, s7, s8, s9, jb_mdl I J19 d e kp nm W, s11] _
        refine jb_aload_n (pc' := 75) dX12_unit_74 rfl rfl ?_
        refine jb_bipush (pc' := 77) 41 dX12_unit_75 (by decide) rfl ?_
        refine jb_callV (pc' := 80) (ci := 12) (q := 105) (As := [.int 41]) (a2 := 0) (b2 := 0) wv_X12_86 rfl dX12_unit_77 (c_takes0 I e kp nm W d hB hn hb J19 hq1 (by omega) 41 h41) rfl rfl ⟨by omega, Nat.le_of_eq (Nat.zero_add _), Nat.le_of_eq (Nat.zero_add _)⟩ (Nat.le_of_ble_eq_true rfl) rfl (fun r h9 hq => ?_)
        obtain ⟨rfl, rfl⟩ := hq
        show jb_J _ RX12 cX12_unit 5 (Option.some .int) false D 0 0 80 [some (.ref 105), some (.int 40), some (.int (jv_ nm (jp_up B n (jp_op B n u o) 5 (a + 1)).2.2)), none, none] [.int 0] [s0, s1, s2, s3, s4, s5, s6, s7, s8, s9, jb_mdl I J19 d e kp nm W, s11] _
        refine jb_if_ne (tgt := 88) (pc' := 83) dX12_unit_80 (by decide) rfl (fun z => absurd (by decide) z) (fun _ => ?_)
        refine jb_aload_n (pc' := 84) dX12_unit_83 rfl rfl ?_
        refine jb_callV (pc' := 87) (ci := 12) (q := 105) (As := []) (a2 := 0) (b2 := 0) wv_X12_105 rfl dX12_unit_84 (c_wrong I e kp nm W J19 d hq1) rfl rfl ⟨by omega, Nat.le_of_eq (Nat.zero_add _), Nat.le_of_eq (Nat.zero_add _)⟩ (Nat.le_of_ble_eq_true rfl) rfl (fun r h9 hq => ?_)
        obtain ⟨rfl, rfl⟩ := hq
        show jb_J _ RX12 cX12_unit 5 (Option.some .int) false D 0 0 87 [some (.ref 105), some (.int 40), some (.int (jv_ nm (jp_up B n (jp_op B n u o) 5 (a + 1)).2.2)), none, none] [.int 0] [s0, s1, s2, s3, s4, s5, s6, s7, s8, s9, jb_mdl I (upd J19 3 (nI b1)) d e kp nm W, s11] _
        refine jb_iret dX12_unit_87 rfl ?_
        rw [jp_op_40 o hs, if_neg (fun z => by rw [hb1] at z; exact h41 z.2), hb1]
        exact ⟨(upd J19 3 (nI b1)), ⟨b1, rfl, Or.inr ⟨rfl, _, _, (hq1.flt (f2 := (nI b1))), rfl⟩⟩, rfl⟩
    · show jb_J _ RX12 cX12_unit 5 (Option.some .int) false D 0 0 60 [some (.ref 105), some (.int 40), none, none, none] [.int v1] [s0, s1, s2, s3, s4, s5, s6, s7, s8, s9, jb_mdl I J19 d e kp nm W, s11] _
      refine jb_goto (pc' := 67) dX12_unit_60 (by decide) ?_
      refine jb_istore_n_ (pc' := 68) dX12_unit_67 (by decide) (jb_at2 rfl) rfl ?_
      refine jb_iload_n (pc' := 69) dX12_unit_68 rfl rfl ?_
      refine jb_bipush (pc' := 71) 40 dX12_unit_69 (by decide) rfl ?_
      refine jb_icmp_ne (tgt := 88) (pc' := 74) dX12_unit_71 (by decide) rfl (fun z => absurd (by decide) z) (fun _ => ?_)
      refine jb_aload_n (pc' := 75) dX12_unit_74 rfl rfl ?_
      refine jb_bipush (pc' := 77) 41 dX12_unit_75 (by decide) rfl ?_
      refine jb_callV (pc' := 80) (ci := 12) (q := 105) (As := [.int 41]) (a2 := 0) (b2 := 0) wv_X12_86 rfl dX12_unit_77 (c_takesF I e kp nm W J19 d hq1 (by omega) 41 (by decide)) rfl rfl ⟨by omega, Nat.le_of_eq (Nat.zero_add _), Nat.le_of_eq (Nat.zero_add _)⟩ (Nat.le_of_ble_eq_true rfl) rfl (fun r h9 hq => ?_)
      obtain ⟨rfl, rfl⟩ := hq
      show jb_J _ RX12 cX12_unit 5 (Option.some .int) false D 0 0 80 [some (.ref 105), some (.int 40), some (.int v1), none, none] [.int 0] [s0, s1, s2, s3, s4, s5, s6, s7, s8, s9, jb_mdl I J19 d e kp nm W, s11] _
      refine jb_if_ne (tgt := 88) (pc' := 83) dX12_unit_80 (by decide) rfl (fun z => absurd (by decide) z) (fun _ => ?_)
      refine jb_aload_n (pc' := 84) dX12_unit_83 rfl rfl ?_
      refine jb_callV (pc' := 87) (ci := 12) (q := 105) (As := []) (a2 := 0) (b2 := 0) wv_X12_105 rfl dX12_unit_84 (c_wrongF I e kp nm W J19 d hq1 (by omega)) rfl rfl ⟨by omega, Nat.le_of_eq (Nat.zero_add _), Nat.le_of_eq (Nat.zero_add _)⟩ (Nat.le_of_ble_eq_true rfl) rfl (fun r h9 hq => ?_)
      obtain ⟨rfl, rfl⟩ := hq
      show jb_J _ RX12 cX12_unit 5 (Option.some .int) false D 0 0 87 [some (.ref 105), some (.int 40), some (.int v1), none, none] [.int 0] [s0, s1, s2, s3, s4, s5, s6, s7, s8, s9, jb_mdl I (upd J19 3 (nI b1)) d e kp nm W, s11] _
      refine jb_iret dX12_unit_87 rfl ?_
      rw [jp_op_40 o hs, if_neg (fun z => by rw [hy1] at z; exact absurd z.1 (by decide)), hb1]
      exact ⟨(upd J19 3 (nI b1)), ⟨b1, rfl, Or.inr ⟨rfl, _, _, (hq1.flt (f2 := (nI b1))), rfl⟩⟩, rfl⟩
  have n40 := hs
  show jb_J _ RX12 cX12_unit 5 (Option.some .int) false D 0 0 0 [some (.ref 105), none, none, none, none] [] [s0, s1, s2, s3, s4, s5, s6, s7, s8, s9, jb_mdl I J d e kp nm W, s11] _
  refine jb_aload_n (pc' := 1) dX12_unit_0 rfl rfl ?_
  refine jb_callV (pc' := 4) (ci := 12) (q := 105) (As := []) (a2 := 0) (b2 := 0) wv_X12_75 rfl dX12_unit_1 (c_here I e kp nm W d hB hn hb J hq) rfl rfl ⟨by omega, Nat.le_of_eq (Nat.zero_add _), Nat.le_of_eq (Nat.zero_add _)⟩ (Nat.le_of_ble_eq_true rfl) rfl (fun r h9 hq => ?_)
  obtain ⟨rfl, rfl⟩ := hq
  show jb_J _ RX12 cX12_unit 5 (Option.some .int) false D 0 0 4 [some (.ref 105), none, none, none, none] [.int (jp_lk B n a)] [s0, s1, s2, s3, s4, s5, s6, s7, s8, s9, jb_mdl I J d e kp nm W, s11] _
  refine jb_istore_n_ (pc' := 5) dX12_unit_4 (by decide) (jb_at1 rfl) rfl ?_
  refine jb_iload_n (pc' := 6) dX12_unit_5 rfl rfl ?_
  refine jb_bipush (pc' := 8) 33 dX12_unit_6 (by decide) rfl ?_
  refine jb_icmp_eq (tgt := 17) (pc' := 11) dX12_unit_8 (by decide) rfl (fun z => absurd z n33) (fun _ => ?_)
  refine jb_iload_n (pc' := 12) dX12_unit_11 rfl rfl ?_
  refine jb_bipush (pc' := 14) 40 dX12_unit_12 (by decide) rfl ?_
  refine jb_icmp_ne (tgt := 118) (pc' := 17) dX12_unit_14 (by decide) rfl (fun _ => ?_) (fun z => absurd z n40)
  refine jb_aload_n (pc' := 119) dX12_unit_118 rfl rfl ?_
  refine jb_iload_n (pc' := 120) dX12_unit_119 rfl rfl ?_
  refine jb_callV (pc' := 123) (ci := 12) (q := 105) (As := [.int (jp_lk B n a)]) (a2 := 0) (b2 := 0) wv_X12_111 rfl dX12_unit_120 (c_nameOf I e kp nm W J d hu hq (jp_lk B n a)) rfl rfl ⟨by omega, Nat.le_of_eq (Nat.zero_add _), Nat.le_of_eq (Nat.zero_add _)⟩ (Nat.le_of_ble_eq_true rfl) rfl (fun r h9 hq => ?_)
  rcases hq with ⟨rfl, ⟨en, rfl⟩ | ⟨i, hi, en, rfl⟩⟩
  · show jb_J _ RX12 cX12_unit 5 (Option.some .int) false D 0 0 123 [some (.ref 105), some (.int (jp_lk B n a)), none, none, none] [.int (-1)] [s0, s1, s2, s3, s4, s5, s6, s7, s8, s9, jb_mdl I J d e kp nm W, s11] _
    refine jb_istore_n_ (pc' := 124) dX12_unit_123 (by decide) (jb_at2 rfl) rfl ?_
    refine jb_iload_n (pc' := 125) dX12_unit_124 rfl rfl ?_
    refine jb_if_lt (tgt := 145) (pc' := 128) dX12_unit_125 (by decide) rfl (fun _ => ?_) (fun z => absurd (by decide) z)
    refine jb_iconst (pc' := 146) 0 dX12_unit_145 (by decide) rfl ?_
    refine jb_istore_n_ (pc' := 147) dX12_unit_146 (by decide) (jb_at3 rfl) rfl ?_
    refine jb_iconst (pc' := 148) 0 dX12_unit_147 (by decide) rfl ?_
    refine jb_istore_ (pc' := 150) dX12_unit_148 (by decide) (jb_at4 rfl) rfl ?_
    refine jb_iload (pc' := 152) dX12_unit_150 rfl rfl ?_
    refine jb_iconst (pc' := 153) 4 dX12_unit_152 (by decide) rfl ?_
    refine jb_icmp_ge (tgt := 202) (pc' := 156) dX12_unit_153 (by decide) rfl (fun z => absurd z (by decide)) (fun _ => ?_)
    refine jb_aload_n (pc' := 157) dX12_unit_156 rfl rfl ?_
    refine jb_callV (pc' := 160) (ci := 12) (q := 105) (As := []) (a2 := 0) (b2 := 0) wv_X12_75 rfl dX12_unit_157 (c_here I e kp nm W d hB hn hb J hq) rfl rfl ⟨by omega, Nat.le_of_eq (Nat.zero_add _), Nat.le_of_eq (Nat.zero_add _)⟩ (Nat.le_of_ble_eq_true rfl) rfl (fun r h9 hq => ?_)
    obtain ⟨rfl, rfl⟩ := hq
    show jb_J _ RX12 cX12_unit 5 (Option.some .int) false D 0 0 160 [some (.ref 105), some (.int (jp_lk B n a)), some (.int (-1)), some (.int 0), some (.int 0)] [.int (jp_lk B n a)] [s0, s1, s2, s3, s4, s5, s6, s7, s8, s9, jb_mdl I J d e kp nm W, s11] _
    refine jb_i2l (pc' := 161) dX12_unit_160 rfl ?_
    refine jb_ldc2 (pc' := 164) 48 dX12_unit_161 wk_X12_115 rfl ?_
    refine jb_ldc2 (pc' := 167) 57 dX12_unit_164 wk_X12_117 rfl ?_
    refine jb_callS (pc' := 170) (As := [.long ((jp_lk B n a).toInt64), .long 48, .long 57]) (a2 := 0) (b2 := 0) wv_X12_56 dX12_unit_167 (c_inL _ (jp_lk B n a) 48 57 (by omega) (by omega)) rfl ⟨by omega, Nat.le_of_eq (Nat.zero_add _), Nat.le_of_eq (Nat.zero_add _)⟩ (Nat.le_of_ble_eq_true rfl) rfl (fun r h9 hq => ?_)
    rcases hq with ⟨rfl, ⟨o5, rfl⟩ | ⟨o5, rfl⟩⟩
    · exact absurd ((jp_nob _).mp (by assumption)) hdg
    · show jb_J _ RX12 cX12_unit 5 (Option.some .int) false D 0 0 170 [some (.ref 105), some (.int (jp_lk B n a)), some (.int (-1)), some (.int 0), some (.int 0)] [.int 0] [s0, s1, s2, s3, s4, s5, s6, s7, s8, s9, jb_mdl I J d e kp nm W, s11] _
      refine jb_if_eq (tgt := 202) (pc' := 173) dX12_unit_170 (by decide) rfl (fun _ => ?_) (fun z => absurd (by decide) z)
      refine jb_iload (pc' := 204) dX12_unit_202 rfl rfl ?_
      refine jb_if_ne (tgt := 214) (pc' := 207) dX12_unit_204 (by decide) rfl (fun z => absurd (by decide) z) (fun _ => ?_)
      refine jb_aload_n (pc' := 208) dX12_unit_207 rfl rfl ?_
      refine jb_callV (pc' := 211) (ci := 12) (q := 105) (As := []) (a2 := 0) (b2 := 0) wv_X12_105 rfl dX12_unit_208 (c_wrong I e kp nm W J d hq) rfl rfl ⟨by omega, Nat.le_of_eq (Nat.zero_add _), Nat.le_of_eq (Nat.zero_add _)⟩ (Nat.le_of_ble_eq_true rfl) rfl (fun r h9 hq => ?_)
      obtain ⟨rfl, rfl⟩ := hq
      show jb_J _ RX12 cX12_unit 5 (Option.some .int) false D 0 0 211 [some (.ref 105), some (.int (jp_lk B n a)), some (.int (-1)), some (.int 0), some (.int 0)] [.int 0] [s0, s1, s2, s3, s4, s5, s6, s7, s8, s9, jb_mdl I (upd J 3 (nI a)) d e kp nm W, s11] _
      refine jb_goto (pc' := 215) dX12_unit_211 (by decide) ?_
      refine jb_iret dX12_unit_215 rfl ?_
      have e8 : jp_op B n u (o + 1) a = (a, false, []) := by
        rw [jp_op_nm _ hdg n33 n40]
        unfold jp_nm
        rw [en]
      rw [e8]
      exact ⟨(upd J 3 (nI a)), ⟨a, rfl, Or.inr ⟨rfl, _, _, (hq.flt (f2 := (nI a))), rfl⟩⟩, rfl⟩
  · show jb_J _ RX12 cX12_unit 5 (Option.some .int) false D 0 0 123 [some (.ref 105), some (.int (jp_lk B n a)), none, none, none] [.int (nI i)] [s0, s1, s2, s3, s4, s5, s6, s7, s8, s9, jb_mdl I J d e kp nm W, s11] _
    refine jb_istore_n_ (pc' := 124) dX12_unit_123 (by decide) (jb_at2 rfl) rfl ?_
    refine jb_iload_n (pc' := 125) dX12_unit_124 rfl rfl ?_
    refine jb_if_lt (tgt := 145) (pc' := 128) dX12_unit_125 (by decide) rfl (fun z => absurd z (nI_pos (n := i) (by omega))) (fun _ => ?_)
    refine jb_aload_n (pc' := 129) dX12_unit_128 rfl rfl ?_
    refine jb_dup (pc' := 130) dX12_unit_129 rfl rfl ?_
    refine gf_X12_62 (pc' := 133) (v := .int (J 1)) dX12_unit_130 rfl rfl rfl ?_
    refine jb_top (v := .int (J 1)) (w := .int (nI a)) (jb_vI hq.2.1) ?_
    refine jb_iconst (pc' := 134) 1 dX12_unit_133 (by decide) rfl ?_
    refine jb_iadd (pc' := 135) dX12_unit_134 rfl ?_
    refine jb_top (v := .int ((nI a) + 1)) (w := .int (nI (a + 1))) (jb_vI (nI_add _ 1)) ?_
    refine pf_X12_62 (pc' := 138) (h' := [s0, s1, s2, s3, s4, s5, s6, s7, s8, s9, jb_mdl I (upd J 1 (nI (a + 1))) d e kp nm W, s11]) dX12_unit_135 (fun _ => ⟨rfl, rfl⟩) rfl (Nat.le_of_ble_eq_true rfl) rfl rfl ?_
    refine jb_aload_n (pc' := 139) dX12_unit_138 rfl rfl ?_
    refine gf_X12_22 (pc' := 142) (v := .ref 110) dX12_unit_139 rfl rfl rfl ?_
    refine jb_iload_n (pc' := 143) dX12_unit_142 rfl rfl ?_
    refine jb_iaload (pc' := 144) (i9 := i) (f := nm) dX12_unit_143 rfl (jb_ix_nI (by omega)) (by omega) rfl ?_
    refine jb_iret dX12_unit_144 rfl ?_
    have e8 : jp_op B n u (o + 1) a = (a + 1, true, [-1 - nI i]) := by
      rw [jp_op_nm _ hdg n33 n40]
      unfold jp_nm
      rw [en]
    rw [e8]
    exact ⟨(upd J 1 (nI (a + 1))), ⟨a + 1, rfl, Or.inl ⟨rfl, (hq.at (b := (a + 1))), by rw [jv_nam nm hi]⟩⟩, rfl⟩
