theorem jp_up_s (B : Nat → Int32) (n : Nat) (f : Nat → jp_R) (k : Nat) : jp_up B n f (k + 1) = fun a => jp_lp B n (4 - k) (jp_up B n f k) (if k = 2 then 1 else 50) (jp_up B n f k a) := rfl
theorem c_chainm {sc : Nat × (Nat → Int32)} {s0 s1 s2 s3 s4 s5 s6 s7 s8 s9 s11 : List va_E} (I e kp nm : Nat → Int32) (W : Nat → Nat → Int32) {B : Nat → Int32} {base n u : Nat} (d : Nat → Int32) (hB : ∀ k, k < n → d (base + k) = B k) (hn : n ≤ 50) (hb : base ≤ 438) (hu : u < 2) (op : Int32) (f : Nat → jp_R) (hfo : ∀ a, a ≤ n → jp_ok n a (f a)) (D : Nat) (hD : 1 ≤ D) (hf : jq_F sc s0 s1 s2 s3 s4 s5 s6 s7 s8 s9 s11 I e kp nm W d base n u op yX12_unit cX12_unit 5 D (f)) : jq_F sc s0 s1 s2 s3 s4 s5 s6 s7 s8 s9 s11 I e kp nm W d base n u op yX12_either cX12_either 3 (D + 5) (jp_up B n f 5) := by
  have h1 : jq_F sc s0 s1 s2 s3 s4 s5 s6 s7 s8 s9 s11 I e kp nm W d base n u op yX12_product cX12_product 4 (D + 1) (jp_up B n f 1) := by
    rw [jp_up_s]
    exact c_productm I e kp nm W d hB hn hb op (jp_up B n f 0) (jp_up_ok hfo 0) (D + 0) (by omega) hf
  have h2 : jq_F sc s0 s1 s2 s3 s4 s5 s6 s7 s8 s9 s11 I e kp nm W d base n u op yX12_sum cX12_sum 4 (D + 2) (jp_up B n f 2) := by
    rw [jp_up_s]
    exact c_summ I e kp nm W d hB hn hb op (jp_up B n f 1) (jp_up_ok hfo 1) (D + 1) (by omega) h1
  have h3 : jq_F sc s0 s1 s2 s3 s4 s5 s6 s7 s8 s9 s11 I e kp nm W d base n u op yX12_compared cX12_compared 4 (D + 3) (jp_up B n f 3) := by
    rw [jp_up_s]
    exact c_comparedm I e kp nm W d hB hn hb op (jp_up B n f 2) (jp_up_ok hfo 2) (D + 2) (by omega) h2
  have h4 : jq_F sc s0 s1 s2 s3 s4 s5 s6 s7 s8 s9 s11 I e kp nm W d base n u op yX12_both cX12_both 3 (D + 4) (jp_up B n f 4) := by
    rw [jp_up_s]
    exact c_bothm I e kp nm W d hB hn hb op (jp_up B n f 3) (jp_up_ok hfo 3) (D + 3) (by omega) h3
  have h5 : jq_F sc s0 s1 s2 s3 s4 s5 s6 s7 s8 s9 s11 I e kp nm W d base n u op yX12_either cX12_either 3 (D + 5) (jp_up B n f 5) := by
    rw [jp_up_s]
    exact c_eitherm I e kp nm W d hB hn hb op (jp_up B n f 4) (jp_up_ok hfo 4) (D + 4) (by omega) h4
  exact h5
theorem c_allm {sc : Nat × (Nat → Int32)} {s0 s1 s2 s3 s4 s5 s6 s7 s8 s9 s11 : List va_E} (I e kp nm : Nat → Int32) (W : Nat → Nat → Int32) {B : Nat → Int32} {base n u : Nat} (d : Nat → Int32) (hB : ∀ k, k < n → d (base + k) = B k) (hn : n ≤ 50) (hb : base ≤ 438) (hu : u < 2) : ∀ (o p : Nat), p + o = 5 → jq_F sc s0 s1 s2 s3 s4 s5 s6 s7 s8 s9 s11 I e kp nm W d base n u (nI p) yX12_unit cX12_unit 5 (2 + 6 * o) (jp_op B n u o) := by
  intro o
  induction o with
  | zero =>
    intro p hp
    obtain rfl : p = 5 := by omega
    exact c_unit0m I e kp nm W d hB hn hb hu 2 (by omega)
  | succ o ih =>
    intro p hp
    have hU := ih (p + 1) (by omega)
    have hE := c_chainm I e kp nm W d hB hn hb hu (nI (p + 1)) (jp_op B n u o) (fun a ha => jp_op_ok o a ha) (2 + 6 * o) (by omega) hU
    exact c_unit1m I e kp nm W d hB hn hb hu (2 + 6 * (o + 1)) (by omega) p o (by omega) (2 + 6 * o) (2 + 6 * o + 5) (by omega) (by omega) hU hE
theorem c_topm {sc : Nat × (Nat → Int32)} {s0 s1 s2 s3 s4 s5 s6 s7 s8 s9 s11 : List va_E} (I e kp nm : Nat → Int32) (W : Nat → Nat → Int32) {B : Nat → Int32} {base n u : Nat} (d : Nat → Int32) (hB : ∀ k, k < n → d (base + k) = B k) (hn : n ≤ 50) (hb : base ≤ 438) (hu : u < 2) : jq_F sc s0 s1 s2 s3 s4 s5 s6 s7 s8 s9 s11 I e kp nm W d base n u (nI 0) yX12_either cX12_either 3 37 (jp_up B n (jp_op B n u 5) 5) := c_chainm I e kp nm W d hB hn hb hu (nI 0) (jp_op B n u 5) (fun a ha => jp_op_ok 5 a ha) 32 (by omega) (c_allm I e kp nm W d hB hn hb hu 5 0 rfl)
/-! what a use gives, its texts being X -/
def jx_N (x y z w : Int32) : Nat → Int32 := fun k => if k = 0 then x else if k = 1 then y else if k = 2 then z else w
def jx_v (N : Nat → Int32) (c : Option (List Int32)) (v : Int32) : Int32 := match c with
  | none => v
  | some c => jv_ N c
def jx_G (X : Nat → Option (List Int32)) : jm_G := fun u x y z w => if u = 0 then jm_cl (-10) 10 (jx_v (jx_N x y z w) (X 0) 0) else jm_cl 0 39 (jx_v (jx_N x y z w) (X 1) (x + 1) - jx_v (jx_N x y z w) (X 1) (x + 1) / 40 * 40)
theorem jx_Gok (X : Nat → Option (List Int32)) : jm_Gok (jx_G X) := by
  intro a b c d
  show ∃ k, k < 40 ∧ jm_cl 0 39 _ = nI k
  generalize jx_v (jx_N a b c d) (X 1) (a + 1) - jx_v (jx_N a b c d) (X 1) (a + 1) / 40 * 40 = v
  unfold jm_cl
  by_cases h1 : v < 0
  · exact ⟨0, by omega, by rw [if_pos h1]; rfl⟩
  · rw [if_neg h1]
    by_cases h2 : 39 < v
    · exact ⟨39, by omega, by rw [if_pos h2]; rfl⟩
    · rw [if_neg h2]
      obtain ⟨j, hj, rfl⟩ := nI_of h1
      exact ⟨j, by have : ¬ 39 < j := fun q => h2 ((nI_ltI (a := 39) (by omega) hj).mpr q)
                   omega, rfl⟩
theorem jw_s_ext {N M : Nat → Int32} (h : ∀ k, k < 4 → N k = M k) : jw_s N = jw_s M := by
  funext st p
  unfold jw_s jw_v
  rw [h 0 (by decide), h 1 (by decide), h 2 (by decide), h 3 (by decide)]
theorem jv_ext {N M : Nat → Int32} (h : ∀ k, k < 4 → N k = M k) (c : List Int32) : jv_ N c = jv_ M c := by
  unfold jv_ jw_
  rw [jw_s_ext h]
/-- the reference's texts -/
def jx_d (X : Nat → Option (List Int32)) (d : Nat → Int32) : Prop := ∀ u, u < 2 → (X u = none ∧ d (316 + u) = 0) ∨ ∃ c n, X u = some c ∧ 1 ≤ n ∧ n ≤ 50 ∧ d (316 + u) = nI n ∧ jp_al (fun k => d (338 + 50 * u + k)) n u = (n, true, c)
theorem jx_d.to {X : Nat → Option (List Int32)} {d d' : Nat → Int32} (h : jx_d X d) (e : ∀ k, 316 ≤ k → k < 438 → d' k = d k) : jx_d X d' := by
  intro u hu
  rcases h u hu with ⟨h1, h2⟩ | ⟨c, n, h1, h2, h3, h4, h5⟩
  · exact Or.inl ⟨h1, by rw [e _ (by omega) (by omega)]; exact h2⟩
  · refine Or.inr ⟨c, n, h1, h2, h3, by rw [e _ (by omega) (by omega)]; exact h4, ?_⟩
    rw [← h5]
    exact jp_al_eq (fun k hk => e _ (by omega) (by omega))
set_option maxRecDepth 100000 in
set_option maxHeartbeats 4000000 in
theorem c_worked0 {sc : Nat × (Nat → Int32)} {s0 s1 s2 s3 s4 s5 s6 s7 s8 s9 s11 : List va_E} (I e kp nm : Nat → Int32) (W : Nat → Nat → Int32) {B : Nat → Int32} {base n : Nat} (J d : Nat → Int32) (hB : ∀ k, k < n → d (base + k) = B k) (hn : n ≤ 50) (hb : base ≤ 438) : jb_C sc yX12_worked cX12_worked 5 (Option.some .int) 38 0 0 [.ref 105, .int (nI base), .int (nI n), .int 0] [s0, s1, s2, s3, s4, s5, s6, s7, s8, s9, jb_mdl I J d e kp nm W, s11] (fun r h9 => ∃ J9, h9 = [s0, s1, s2, s3, s4, s5, s6, s7, s8, s9, jb_mdl I J9 d e kp nm W, s11] ∧ (((jp_al B n 0).2.1 = true ∧ (jp_al B n 0).1 = n ∧ J9 3 = -1 ∧ r = some (.int (jv_ nm (jp_al B n 0).2.2))) ∨ (¬ ((jp_al B n 0).2.1 = true ∧ (jp_al B n 0).1 = n) ∧ J9 3 = nI (jp_al B n 0).1 ∧ ∃ v, r = some (.int v)))) := by
  refine jb_CofJ (ini := false) (by decide +kernel) (fun h => by cases h) (Nat.le_of_ble_eq_true rfl) ?_
  show jb_J sc RX12 cX12_worked 5 (Option.some .int) false 38 0 0 0 [some (.ref 105), some (.int (nI base)), some (.int (nI n)), some (.int 0), none] [] [s0, s1, s2, s3, s4, s5, s6, s7, s8, s9, jb_mdl I J d e kp nm W, s11] _
  have g0 := (jp_al_ok (B := B) (n := n) (u := 0) (Nat.zero_le _)).2.1
  refine jb_aload_n (pc' := 1) dX12_worked_0 rfl rfl ?_
  refine jb_iload_n (pc' := 2) dX12_worked_1 rfl rfl ?_
  refine pf_X12_72 (pc' := 5) (h' := [s0, s1, s2, s3, s4, s5, s6, s7, s8, s9, jb_mdl I (upd J 0 (nI base)) d e kp nm W, s11]) dX12_worked_2 (fun _ => ⟨rfl, rfl⟩) rfl (Nat.le_of_ble_eq_true rfl) rfl rfl ?_
  refine jb_aload_n (pc' := 6) dX12_worked_5 rfl rfl ?_
  refine jb_iconst (pc' := 7) 0 dX12_worked_6 (by decide) rfl ?_
  refine pf_X12_62 (pc' := 10) (h' := [s0, s1, s2, s3, s4, s5, s6, s7, s8, s9, jb_mdl I (upd (upd J 0 (nI base)) 1 0) d e kp nm W, s11]) dX12_worked_7 (fun _ => ⟨rfl, rfl⟩) rfl (Nat.le_of_ble_eq_true rfl) rfl rfl ?_
  refine jb_aload_n (pc' := 11) dX12_worked_10 rfl rfl ?_
  refine jb_iload_n (pc' := 12) dX12_worked_11 rfl rfl ?_
  refine pf_X12_66 (pc' := 15) (h' := [s0, s1, s2, s3, s4, s5, s6, s7, s8, s9, jb_mdl I (upd (upd (upd J 0 (nI base)) 1 0) 2 (nI n)) d e kp nm W, s11]) dX12_worked_12 (fun _ => ⟨rfl, rfl⟩) rfl (Nat.le_of_ble_eq_true rfl) rfl rfl ?_
  refine jb_aload_n (pc' := 16) dX12_worked_15 rfl rfl ?_
  refine jb_iconst (pc' := 17) (-1) dX12_worked_16 (by decide) rfl ?_
  refine pf_X12_69 (pc' := 20) (h' := [s0, s1, s2, s3, s4, s5, s6, s7, s8, s9, jb_mdl I (upd (upd (upd (upd J 0 (nI base)) 1 0) 2 (nI n)) 3 (-1)) d e kp nm W, s11]) dX12_worked_17 (fun _ => ⟨rfl, rfl⟩) rfl (Nat.le_of_ble_eq_true rfl) rfl rfl ?_
  refine jb_aload_n (pc' := 21) dX12_worked_20 rfl rfl ?_
  refine jb_iconst (pc' := 22) 0 dX12_worked_21 (by decide) rfl ?_
  refine pf_X12_102 (pc' := 25) (h' := [s0, s1, s2, s3, s4, s5, s6, s7, s8, s9, jb_mdl I (upd (upd (upd (upd (upd J 0 (nI base)) 1 0) 2 (nI n)) 3 (-1)) 4 0) d e kp nm W, s11]) dX12_worked_22 (fun _ => ⟨rfl, rfl⟩) rfl (Nat.le_of_ble_eq_true rfl) rfl rfl ?_
  refine jb_aload_n (pc' := 26) dX12_worked_25 rfl rfl ?_
  refine jb_iload_n (pc' := 27) dX12_worked_26 rfl rfl ?_
  refine jb_iconst (pc' := 28) 1 dX12_worked_27 (by decide) rfl ?_
  refine jb_icmp_ne (tgt := 35) (pc' := 31) dX12_worked_28 (by decide) rfl (fun _ => ?_) (fun z => absurd z (by decide))
  refine jb_iconst (pc' := 36) 0 dX12_worked_35 (by decide) rfl ?_
  refine pf_X12_79 (pc' := 39) (h' := [s0, s1, s2, s3, s4, s5, s6, s7, s8, s9, jb_mdl I (upd (upd (upd (upd (upd (upd J 0 (nI base)) 1 0) 2 (nI n)) 3 (-1)) 4 0) 5 0) d e kp nm W, s11]) dX12_worked_36 (fun _ => ⟨rfl, rfl⟩) rfl (Nat.le_of_ble_eq_true rfl) rfl rfl ?_
  refine jb_aload_n (pc' := 40) dX12_worked_39 rfl rfl ?_
  refine jb_callV (pc' := 43) (ci := 12) (q := 105) (As := []) (a2 := 0) (b2 := 0) wv_X12_108 rfl dX12_worked_40 (c_topm I e kp nm W d hB hn hb (u := 0) (by decide) (upd (upd (upd (upd (upd (upd J 0 (nI base)) 1 0) 2 (nI n)) 3 (-1)) 4 0) 5 0) 0 (by omega) ⟨rfl, rfl, rfl, rfl, rfl, rfl⟩) rfl rfl ⟨by omega, Nat.le_of_eq (Nat.zero_add _), Nat.le_of_eq (Nat.zero_add _)⟩ (Nat.le_of_ble_eq_true rfl) rfl (fun r h9 hq => ?_)
  rcases hq with ⟨J19, ⟨b1, hb1, ⟨hy1, hq1, rfl⟩ | ⟨hy1, v1, op1, hq1, rfl⟩⟩, rfl⟩
  · show jb_J _ RX12 cX12_worked 5 (Option.some .int) false 38 0 0 43 [some (.ref 105), some (.int (nI base)), some (.int (nI n)), some (.int 0), none] [.int (jv_ nm (jp_al B n 0).2.2)] [s0, s1, s2, s3, s4, s5, s6, s7, s8, s9, jb_mdl I J19 d e kp nm W, s11] _
    have g1 : b1 ≤ n := Nat.le_trans (Nat.le_of_eq hb1.symm) g0
    refine jb_istore_ (pc' := 45) dX12_worked_43 (by decide) (jb_at4 rfl) rfl ?_
    refine jb_aload_n (pc' := 46) dX12_worked_45 rfl rfl ?_
    refine gf_X12_69 (pc' := 49) (v := .int (J19 3)) dX12_worked_46 rfl rfl rfl ?_
    refine jb_top (v := .int (J19 3)) (w := .int (-1)) (jb_vI hq1.2.2.2.1) ?_
    refine jb_if_ge (tgt := 68) (pc' := 52) dX12_worked_49 (by decide) rfl (fun z => absurd z (by decide)) (fun _ => ?_)
    refine jb_aload_n (pc' := 53) dX12_worked_52 rfl rfl ?_
    refine gf_X12_62 (pc' := 56) (v := .int (J19 1)) dX12_worked_53 rfl rfl rfl ?_
    refine jb_top (v := .int (J19 1)) (w := .int (nI b1)) (jb_vI hq1.2.1) ?_
    refine jb_aload_n (pc' := 57) dX12_worked_56 rfl rfl ?_
    refine gf_X12_66 (pc' := 60) (v := .int (J19 2)) dX12_worked_57 rfl rfl rfl ?_
    refine jb_top (v := .int (J19 2)) (w := .int (nI n)) (jb_vI hq1.2.2.1) ?_
    refine jb_icmp_ge (tgt := 68) (pc' := 63) dX12_worked_60 (by decide) rfl (fun c3 => ?_) (fun c3 => ?_)
    · have c3 : n ≤ b1 := (nI_leI (a := n) (b := b1) (by omega) (by omega)).mp c3
      refine jb_iload (pc' := 70) dX12_worked_68 rfl rfl ?_
      refine jb_iret dX12_worked_70 rfl ?_
      obtain ⟨g1, g2, g3, g4⟩ := jp_al_ok (B := B) (n := n) (u := 0) (Nat.zero_le _)
      have z2 : (jp_al B n 0).1 = b1 := hb1
      exact ⟨_, rfl, Or.inl ⟨hy1, by omega, hq1.2.2.2.1, rfl⟩⟩
    · have c3 : ¬ n ≤ b1 := fun z9 => c3 ((nI_leI (a := n) (b := b1) (by omega) (by omega)).mpr z9)
      refine jb_aload_n (pc' := 64) dX12_worked_63 rfl rfl ?_
      refine jb_callV (pc' := 67) (ci := 12) (q := 105) (As := []) (a2 := 0) (b2 := 0) wv_X12_105 rfl dX12_worked_64 (c_wrong I e kp nm W J19 d hq1) rfl rfl ⟨by decide, Nat.le_of_eq (Nat.zero_add _), Nat.le_of_eq (Nat.zero_add _)⟩ (Nat.le_of_ble_eq_true rfl) rfl (fun r h9 hq => ?_)
      obtain ⟨rfl, rfl⟩ := hq
      show jb_J _ RX12 cX12_worked 5 (Option.some .int) false 38 0 0 67 [some (.ref 105), some (.int (nI base)), some (.int (nI n)), some (.int 0), some (.int (jv_ nm (jp_al B n 0).2.2))] [.int 0] [s0, s1, s2, s3, s4, s5, s6, s7, s8, s9, jb_mdl I (upd J19 3 (nI b1)) d e kp nm W, s11] _
      refine jb_iret dX12_worked_67 rfl ?_
      exact ⟨_, rfl, Or.inr ⟨fun z => (by have z2 : b1 = n := hb1.symm.trans z.2; omega), (jb_uee).trans (congrArg nI hb1.symm), _, rfl⟩⟩
  · show jb_J _ RX12 cX12_worked 5 (Option.some .int) false 38 0 0 43 [some (.ref 105), some (.int (nI base)), some (.int (nI n)), some (.int 0), none] [.int v1] [s0, s1, s2, s3, s4, s5, s6, s7, s8, s9, jb_mdl I J19 d e kp nm W, s11] _
    have g1 : b1 ≤ n := Nat.le_trans (Nat.le_of_eq hb1.symm) g0
    refine jb_istore_ (pc' := 45) dX12_worked_43 (by decide) (jb_at4 rfl) rfl ?_
    refine jb_aload_n (pc' := 46) dX12_worked_45 rfl rfl ?_
    refine gf_X12_69 (pc' := 49) (v := .int (J19 3)) dX12_worked_46 rfl rfl rfl ?_
    refine jb_top (v := .int (J19 3)) (w := .int (nI b1)) (jb_vI hq1.2.2.2.1) ?_
    refine jb_if_ge (tgt := 68) (pc' := 52) dX12_worked_49 (by decide) rfl (fun _ => ?_) (fun z => absurd (nI_pos' (n := b1) (by omega)) z)
    refine jb_iload (pc' := 70) dX12_worked_68 rfl rfl ?_
    refine jb_iret dX12_worked_70 rfl ?_
    exact ⟨_, rfl, Or.inr ⟨fun z => (by have z1 := z.1; rw [show (jp_al B n 0).2.1 = false from hy1] at z1; cases z1), hq1.2.2.2.1.trans (congrArg nI hb1.symm), _, rfl⟩⟩
set_option maxRecDepth 100000 in
set_option maxHeartbeats 4000000 in
theorem c_worked1 {sc : Nat × (Nat → Int32)} {s0 s1 s2 s3 s4 s5 s6 s7 s8 s9 s11 : List va_E} (I e kp nm : Nat → Int32) (W : Nat → Nat → Int32) {B : Nat → Int32} {base n : Nat} (J d : Nat → Int32) (hB : ∀ k, k < n → d (base + k) = B k) (hn : n ≤ 50) (hb : base ≤ 438) : jb_C sc yX12_worked cX12_worked 5 (Option.some .int) 38 0 0 [.ref 105, .int (nI base), .int (nI n), .int 1] [s0, s1, s2, s3, s4, s5, s6, s7, s8, s9, jb_mdl I J d e kp nm W, s11] (fun r h9 => ∃ J9, h9 = [s0, s1, s2, s3, s4, s5, s6, s7, s8, s9, jb_mdl I J9 d e kp nm W, s11] ∧ (((jp_al B n 1).2.1 = true ∧ (jp_al B n 1).1 = n ∧ J9 3 = -1 ∧ r = some (.int (jv_ nm (jp_al B n 1).2.2))) ∨ (¬ ((jp_al B n 1).2.1 = true ∧ (jp_al B n 1).1 = n) ∧ J9 3 = nI (jp_al B n 1).1 ∧ ∃ v, r = some (.int v)))) := by
  refine jb_CofJ (ini := false) (by decide +kernel) (fun h => by cases h) (Nat.le_of_ble_eq_true rfl) ?_
  show jb_J sc RX12 cX12_worked 5 (Option.some .int) false 38 0 0 0 [some (.ref 105), some (.int (nI base)), some (.int (nI n)), some (.int 1), none] [] [s0, s1, s2, s3, s4, s5, s6, s7, s8, s9, jb_mdl I J d e kp nm W, s11] _
  have g0 := (jp_al_ok (B := B) (n := n) (u := 1) (Nat.zero_le _)).2.1
  refine jb_aload_n (pc' := 1) dX12_worked_0 rfl rfl ?_
  refine jb_iload_n (pc' := 2) dX12_worked_1 rfl rfl ?_
  refine pf_X12_72 (pc' := 5) (h' := [s0, s1, s2, s3, s4, s5, s6, s7, s8, s9, jb_mdl I (upd J 0 (nI base)) d e kp nm W, s11]) dX12_worked_2 (fun _ => ⟨rfl, rfl⟩) rfl (Nat.le_of_ble_eq_true rfl) rfl rfl ?_
  refine jb_aload_n (pc' := 6) dX12_worked_5 rfl rfl ?_
  refine jb_iconst (pc' := 7) 0 dX12_worked_6 (by decide) rfl ?_
  refine pf_X12_62 (pc' := 10) (h' := [s0, s1, s2, s3, s4, s5, s6, s7, s8, s9, jb_mdl I (upd (upd J 0 (nI base)) 1 0) d e kp nm W, s11]) dX12_worked_7 (fun _ => ⟨rfl, rfl⟩) rfl (Nat.le_of_ble_eq_true rfl) rfl rfl ?_
  refine jb_aload_n (pc' := 11) dX12_worked_10 rfl rfl ?_
  refine jb_iload_n (pc' := 12) dX12_worked_11 rfl rfl ?_
  refine pf_X12_66 (pc' := 15) (h' := [s0, s1, s2, s3, s4, s5, s6, s7, s8, s9, jb_mdl I (upd (upd (upd J 0 (nI base)) 1 0) 2 (nI n)) d e kp nm W, s11]) dX12_worked_12 (fun _ => ⟨rfl, rfl⟩) rfl (Nat.le_of_ble_eq_true rfl) rfl rfl ?_
  refine jb_aload_n (pc' := 16) dX12_worked_15 rfl rfl ?_
  refine jb_iconst (pc' := 17) (-1) dX12_worked_16 (by decide) rfl ?_
  refine pf_X12_69 (pc' := 20) (h' := [s0, s1, s2, s3, s4, s5, s6, s7, s8, s9, jb_mdl I (upd (upd (upd (upd J 0 (nI base)) 1 0) 2 (nI n)) 3 (-1)) d e kp nm W, s11]) dX12_worked_17 (fun _ => ⟨rfl, rfl⟩) rfl (Nat.le_of_ble_eq_true rfl) rfl rfl ?_
  refine jb_aload_n (pc' := 21) dX12_worked_20 rfl rfl ?_
  refine jb_iconst (pc' := 22) 0 dX12_worked_21 (by decide) rfl ?_
  refine pf_X12_102 (pc' := 25) (h' := [s0, s1, s2, s3, s4, s5, s6, s7, s8, s9, jb_mdl I (upd (upd (upd (upd (upd J 0 (nI base)) 1 0) 2 (nI n)) 3 (-1)) 4 0) d e kp nm W, s11]) dX12_worked_22 (fun _ => ⟨rfl, rfl⟩) rfl (Nat.le_of_ble_eq_true rfl) rfl rfl ?_
  refine jb_aload_n (pc' := 26) dX12_worked_25 rfl rfl ?_
  refine jb_iload_n (pc' := 27) dX12_worked_26 rfl rfl ?_
  refine jb_iconst (pc' := 28) 1 dX12_worked_27 (by decide) rfl ?_
  refine jb_icmp_ne (tgt := 35) (pc' := 31) dX12_worked_28 (by decide) rfl (fun z => absurd (by decide) z) (fun _ => ?_)
  refine jb_iconst (pc' := 32) 1 dX12_worked_31 (by decide) rfl ?_
  refine jb_goto (pc' := 36) dX12_worked_32 (by decide) ?_
  refine pf_X12_79 (pc' := 39) (h' := [s0, s1, s2, s3, s4, s5, s6, s7, s8, s9, jb_mdl I (upd (upd (upd (upd (upd (upd J 0 (nI base)) 1 0) 2 (nI n)) 3 (-1)) 4 0) 5 1) d e kp nm W, s11]) dX12_worked_36 (fun _ => ⟨rfl, rfl⟩) rfl (Nat.le_of_ble_eq_true rfl) rfl rfl ?_
  refine jb_aload_n (pc' := 40) dX12_worked_39 rfl rfl ?_
  refine jb_callV (pc' := 43) (ci := 12) (q := 105) (As := []) (a2 := 0) (b2 := 0) wv_X12_108 rfl dX12_worked_40 (c_topm I e kp nm W d hB hn hb (u := 1) (by decide) (upd (upd (upd (upd (upd (upd J 0 (nI base)) 1 0) 2 (nI n)) 3 (-1)) 4 0) 5 1) 0 (by omega) ⟨rfl, rfl, rfl, rfl, rfl, rfl⟩) rfl rfl ⟨by omega, Nat.le_of_eq (Nat.zero_add _), Nat.le_of_eq (Nat.zero_add _)⟩ (Nat.le_of_ble_eq_true rfl) rfl (fun r h9 hq => ?_)
  rcases hq with ⟨J19, ⟨b1, hb1, ⟨hy1, hq1, rfl⟩ | ⟨hy1, v1, op1, hq1, rfl⟩⟩, rfl⟩
  · show jb_J _ RX12 cX12_worked 5 (Option.some .int) false 38 0 0 43 [some (.ref 105), some (.int (nI base)), some (.int (nI n)), some (.int 1), none] [.int (jv_ nm (jp_al B n 1).2.2)] [s0, s1, s2, s3, s4, s5, s6, s7, s8, s9, jb_mdl I J19 d e kp nm W, s11] _
    have g1 : b1 ≤ n := Nat.le_trans (Nat.le_of_eq hb1.symm) g0
    refine jb_istore_ (pc' := 45) dX12_worked_43 (by decide) (jb_at4 rfl) rfl ?_
    refine jb_aload_n (pc' := 46) dX12_worked_45 rfl rfl ?_
    refine gf_X12_69 (pc' := 49) (v := .int (J19 3)) dX12_worked_46 rfl rfl rfl ?_
    refine jb_top (v := .int (J19 3)) (w := .int (-1)) (jb_vI hq1.2.2.2.1) ?_
    refine jb_if_ge (tgt := 68) (pc' := 52) dX12_worked_49 (by decide) rfl (fun z => absurd z (by decide)) (fun _ => ?_)
    refine jb_aload_n (pc' := 53) dX12_worked_52 rfl rfl ?_
    refine gf_X12_62 (pc' := 56) (v := .int (J19 1)) dX12_worked_53 rfl rfl rfl ?_
    refine jb_top (v := .int (J19 1)) (w := .int (nI b1)) (jb_vI hq1.2.1) ?_
    refine jb_aload_n (pc' := 57) dX12_worked_56 rfl rfl ?_
    refine gf_X12_66 (pc' := 60) (v := .int (J19 2)) dX12_worked_57 rfl rfl rfl ?_
    refine jb_top (v := .int (J19 2)) (w := .int (nI n)) (jb_vI hq1.2.2.1) ?_
    refine jb_icmp_ge (tgt := 68) (pc' := 63) dX12_worked_60 (by decide) rfl (fun c3 => ?_) (fun c3 => ?_)
    · have c3 : n ≤ b1 := (nI_leI (a := n) (b := b1) (by omega) (by omega)).mp c3
      refine jb_iload (pc' := 70) dX12_worked_68 rfl rfl ?_
      refine jb_iret dX12_worked_70 rfl ?_
      obtain ⟨g1, g2, g3, g4⟩ := jp_al_ok (B := B) (n := n) (u := 1) (Nat.zero_le _)
      have z2 : (jp_al B n 1).1 = b1 := hb1
      exact ⟨_, rfl, Or.inl ⟨hy1, by omega, hq1.2.2.2.1, rfl⟩⟩
    · have c3 : ¬ n ≤ b1 := fun z9 => c3 ((nI_leI (a := n) (b := b1) (by omega) (by omega)).mpr z9)
      refine jb_aload_n (pc' := 64) dX12_worked_63 rfl rfl ?_
      refine jb_callV (pc' := 67) (ci := 12) (q := 105) (As := []) (a2 := 0) (b2 := 0) wv_X12_105 rfl dX12_worked_64 (c_wrong I e kp nm W J19 d hq1) rfl rfl ⟨by decide, Nat.le_of_eq (Nat.zero_add _), Nat.le_of_eq (Nat.zero_add _)⟩ (Nat.le_of_ble_eq_true rfl) rfl (fun r h9 hq => ?_)
      obtain ⟨rfl, rfl⟩ := hq
      show jb_J _ RX12 cX12_worked 5 (Option.some .int) false 38 0 0 67 [some (.ref 105), some (.int (nI base)), some (.int (nI n)), some (.int 1), some (.int (jv_ nm (jp_al B n 1).2.2))] [.int 0] [s0, s1, s2, s3, s4, s5, s6, s7, s8, s9, jb_mdl I (upd J19 3 (nI b1)) d e kp nm W, s11] _
      refine jb_iret dX12_worked_67 rfl ?_
      exact ⟨_, rfl, Or.inr ⟨fun z => (by have z2 : b1 = n := hb1.symm.trans z.2; omega), (jb_uee).trans (congrArg nI hb1.symm), _, rfl⟩⟩
  · show jb_J _ RX12 cX12_worked 5 (Option.some .int) false 38 0 0 43 [some (.ref 105), some (.int (nI base)), some (.int (nI n)), some (.int 1), none] [.int v1] [s0, s1, s2, s3, s4, s5, s6, s7, s8, s9, jb_mdl I J19 d e kp nm W, s11] _
    have g1 : b1 ≤ n := Nat.le_trans (Nat.le_of_eq hb1.symm) g0
    refine jb_istore_ (pc' := 45) dX12_worked_43 (by decide) (jb_at4 rfl) rfl ?_
    refine jb_aload_n (pc' := 46) dX12_worked_45 rfl rfl ?_
    refine gf_X12_69 (pc' := 49) (v := .int (J19 3)) dX12_worked_46 rfl rfl rfl ?_
    refine jb_top (v := .int (J19 3)) (w := .int (nI b1)) (jb_vI hq1.2.2.2.1) ?_
    refine jb_if_ge (tgt := 68) (pc' := 52) dX12_worked_49 (by decide) rfl (fun _ => ?_) (fun z => absurd (nI_pos' (n := b1) (by omega)) z)
    refine jb_iload (pc' := 70) dX12_worked_68 rfl rfl ?_
    refine jb_iret dX12_worked_70 rfl ?_
    exact ⟨_, rfl, Or.inr ⟨fun z => (by have z1 := z.1; rw [show (jp_al B n 1).2.1 = false from hy1] at z1; cases z1), hq1.2.2.2.1.trans (congrArg nI hb1.symm), _, rfl⟩⟩
set_option maxRecDepth 100000 in
set_option maxHeartbeats 4000000 in
theorem c_gives0n {sc : Nat × (Nat → Int32)} {s0 s1 s2 s3 s4 s5 s6 s7 s8 s9 s11 : List va_E} (I J d e kp nm : Nat → Int32) (W : Nat → Nat → Int32) (x y z w : Int32) (X : Nat → Option (List Int32)) (h1 : X 0 = none) (h0 : d 316 = 0) : jb_C sc yX12_gives cX12_gives 7 (Option.some .int) 45 0 0 [.ref 105, .int 0, .int x, .int y, .int z, .int w] [s0, s1, s2, s3, s4, s5, s6, s7, s8, s9, jb_mdl I J d e kp nm W, s11] (fun r h9 => r = some (.int (jx_G X 0 x y z w)) ∧ ∃ J9 nm9, h9 = [s0, s1, s2, s3, s4, s5, s6, s7, s8, s9, jb_mdl I J9 d e kp nm9 W, s11]) := by
  refine jb_CofJ (ini := false) (by decide +kernel) (fun h => by cases h) (Nat.le_of_ble_eq_true rfl) ?_
  show jb_J sc RX12 cX12_gives 7 (Option.some .int) false 45 0 0 0 [some (.ref 105), some (.int 0), some (.int x), some (.int y), some (.int z), some (.int w), none] [] [s0, s1, s2, s3, s4, s5, s6, s7, s8, s9, jb_mdl I J d e kp nm W, s11] _
  refine jb_iload_n (pc' := 1) dX12_gives_0 rfl rfl ?_
  refine jb_if_ne (tgt := 8) (pc' := 4) dX12_gives_1 (by decide) rfl (fun z => absurd (by decide) z) (fun _ => ?_)
  refine jb_iconst (pc' := 5) 0 dX12_gives_4 (by decide) rfl ?_
  refine jb_goto (pc' := 11) dX12_gives_5 (by decide) ?_
  refine jb_istore_ (pc' := 13) dX12_gives_11 (by decide) (jb_at6 rfl) rfl ?_
  refine jb_aload_n (pc' := 14) dX12_gives_13 rfl rfl ?_
  refine gf_X12_7 (pc' := 17) (v := .ref 106) dX12_gives_14 rfl rfl rfl ?_
  refine jb_sipush (pc' := 20) 316 dX12_gives_17 (by decide) rfl ?_
  refine jb_iload_n (pc' := 21) dX12_gives_20 rfl rfl ?_
  refine jb_iadd (pc' := 22) dX12_gives_21 rfl ?_
  refine jb_top (v := .int (316 + 0)) (w := .int 316) (jb_vI (by decide)) ?_
  refine jb_iaload (pc' := 23) (i9 := 316) (f := d) dX12_gives_22 rfl ⟨by decide, by decide⟩ (by decide) rfl ?_
  refine jb_top (v := .int (d 316)) (w := .int 0) (jb_vI h0) ?_
  refine jb_if_le (tgt := 81) (pc' := 26) dX12_gives_23 (by decide) rfl (fun _ => ?_) (fun z => absurd (by decide) z)
  refine jb_iload_n (pc' := 82) dX12_gives_81 rfl rfl ?_
  refine jb_if_ne (tgt := 97) (pc' := 85) dX12_gives_82 (by decide) rfl (fun z => absurd (by decide) z) (fun _ => ?_)
  refine jb_iload (pc' := 87) dX12_gives_85 rfl rfl ?_
  refine jb_bipush (pc' := 89) (-10) dX12_gives_87 (by decide) rfl ?_
  refine jb_bipush (pc' := 91) 10 dX12_gives_89 (by decide) rfl ?_
  refine jb_callS (pc' := 94) (As := [.int 0, .int (-10), .int 10]) (a2 := 0) (b2 := 0) wv_X12_130 dX12_gives_91 (c_held _ 0 (-10) 10) rfl ⟨by decide, Nat.le_of_eq (Nat.zero_add _), Nat.le_of_eq (Nat.zero_add _)⟩ (Nat.le_of_ble_eq_true rfl) rfl (fun r h9 hq => ?_)
  obtain ⟨rfl, rfl⟩ := hq
  show jb_J _ RX12 cX12_gives 7 (Option.some .int) false 45 0 0 94 [some (.ref 105), some (.int 0), some (.int x), some (.int y), some (.int z), some (.int w), some (.int 0)] [.int (jm_cl (-10) 10 0)] [s0, s1, s2, s3, s4, s5, s6, s7, s8, s9, jb_mdl I J d e kp nm W, s11] _
  refine jb_goto (pc' := 108) dX12_gives_94 (by decide) ?_
  refine jb_iret dX12_gives_108 rfl ?_
  refine ⟨congrArg (fun q => some (Value.int q)) ?_, _, _, rfl⟩
  show _ = jm_cl _ _ _
  rw [show X 0 = none from h1]
  rfl
set_option maxRecDepth 100000 in
set_option maxHeartbeats 4000000 in
theorem c_gives0s {sc : Nat × (Nat → Int32)} {s0 s1 s2 s3 s4 s5 s6 s7 s8 s9 s11 : List va_E} (I J d e kp nm : Nat → Int32) (W : Nat → Nat → Int32) (x y z w : Int32) (X : Nat → Option (List Int32)) (c : List Int32) (n : Nat) (h1 : X 0 = some c) (hn1 : 1 ≤ n) (hn : n ≤ 50) (h0 : d 316 = nI n) (hal : jp_al (fun k => d (338 + k)) n 0 = (n, true, c)) : jb_C sc yX12_gives cX12_gives 7 (Option.some .int) 45 0 0 [.ref 105, .int 0, .int x, .int y, .int z, .int w] [s0, s1, s2, s3, s4, s5, s6, s7, s8, s9, jb_mdl I J d e kp nm W, s11] (fun r h9 => r = some (.int (jx_G X 0 x y z w)) ∧ ∃ J9 nm9, h9 = [s0, s1, s2, s3, s4, s5, s6, s7, s8, s9, jb_mdl I J9 d e kp nm9 W, s11]) := by
  refine jb_CofJ (ini := false) (by decide +kernel) (fun h => by cases h) (Nat.le_of_ble_eq_true rfl) ?_
  show jb_J sc RX12 cX12_gives 7 (Option.some .int) false 45 0 0 0 [some (.ref 105), some (.int 0), some (.int x), some (.int y), some (.int z), some (.int w), none] [] [s0, s1, s2, s3, s4, s5, s6, s7, s8, s9, jb_mdl I J d e kp nm W, s11] _
  refine jb_iload_n (pc' := 1) dX12_gives_0 rfl rfl ?_
  refine jb_if_ne (tgt := 8) (pc' := 4) dX12_gives_1 (by decide) rfl (fun z => absurd (by decide) z) (fun _ => ?_)
  refine jb_iconst (pc' := 5) 0 dX12_gives_4 (by decide) rfl ?_
  refine jb_goto (pc' := 11) dX12_gives_5 (by decide) ?_
  refine jb_istore_ (pc' := 13) dX12_gives_11 (by decide) (jb_at6 rfl) rfl ?_
  refine jb_aload_n (pc' := 14) dX12_gives_13 rfl rfl ?_
  refine gf_X12_7 (pc' := 17) (v := .ref 106) dX12_gives_14 rfl rfl rfl ?_
  refine jb_sipush (pc' := 20) 316 dX12_gives_17 (by decide) rfl ?_
  refine jb_iload_n (pc' := 21) dX12_gives_20 rfl rfl ?_
  refine jb_iadd (pc' := 22) dX12_gives_21 rfl ?_
  refine jb_top (v := .int (316 + 0)) (w := .int 316) (jb_vI (by decide)) ?_
  refine jb_iaload (pc' := 23) (i9 := 316) (f := d) dX12_gives_22 rfl ⟨by decide, by decide⟩ (by decide) rfl ?_
  refine jb_top (v := .int (d 316)) (w := .int (nI n)) (jb_vI h0) ?_
  refine jb_if_le (tgt := 81) (pc' := 26) dX12_gives_23 (by decide) rfl (fun z => absurd z (nI_nle (n := n) (by omega) (by omega))) (fun _ => ?_)
  refine jb_aload_n (pc' := 27) dX12_gives_26 rfl rfl ?_
  refine gf_X12_22 (pc' := 30) (v := .ref 110) dX12_gives_27 rfl rfl rfl ?_
  refine jb_iconst (pc' := 31) 0 dX12_gives_30 (by decide) rfl ?_
  refine jb_iload_n (pc' := 32) dX12_gives_31 rfl rfl ?_
  refine jb_iastore (pc' := 33) (i9 := 0) (f := nm) (h' := [s0, s1, s2, s3, s4, s5, s6, s7, s8, s9, jb_mdl I J d e kp (upd nm 0 x) W, s11]) dX12_gives_32 rfl jb_x0 (by decide) rfl rfl ?_
  refine jb_aload_n (pc' := 34) dX12_gives_33 rfl rfl ?_
  refine gf_X12_22 (pc' := 37) (v := .ref 110) dX12_gives_34 rfl rfl rfl ?_
  refine jb_iconst (pc' := 38) 1 dX12_gives_37 (by decide) rfl ?_
  refine jb_iload_n (pc' := 39) dX12_gives_38 rfl rfl ?_
  refine jb_iastore (pc' := 40) (i9 := 1) (f := (upd nm 0 x)) (h' := [s0, s1, s2, s3, s4, s5, s6, s7, s8, s9, jb_mdl I J d e kp (upd (upd nm 0 x) 1 y) W, s11]) dX12_gives_39 rfl jb_x1 (by decide) rfl rfl ?_
  refine jb_aload_n (pc' := 41) dX12_gives_40 rfl rfl ?_
  refine gf_X12_22 (pc' := 44) (v := .ref 110) dX12_gives_41 rfl rfl rfl ?_
  refine jb_iconst (pc' := 45) 2 dX12_gives_44 (by decide) rfl ?_
  refine jb_iload (pc' := 47) dX12_gives_45 rfl rfl ?_
  refine jb_iastore (pc' := 48) (i9 := 2) (f := (upd (upd nm 0 x) 1 y)) (h' := [s0, s1, s2, s3, s4, s5, s6, s7, s8, s9, jb_mdl I J d e kp (upd (upd (upd nm 0 x) 1 y) 2 z) W, s11]) dX12_gives_47 rfl jb_x2 (by decide) rfl rfl ?_
  refine jb_aload_n (pc' := 49) dX12_gives_48 rfl rfl ?_
  refine gf_X12_22 (pc' := 52) (v := .ref 110) dX12_gives_49 rfl rfl rfl ?_
  refine jb_iconst (pc' := 53) 3 dX12_gives_52 (by decide) rfl ?_
  refine jb_iload (pc' := 55) dX12_gives_53 rfl rfl ?_
  refine jb_iastore (pc' := 56) (i9 := 3) (f := (upd (upd (upd nm 0 x) 1 y) 2 z)) (h' := [s0, s1, s2, s3, s4, s5, s6, s7, s8, s9, jb_mdl I J d e kp (upd (upd (upd (upd nm 0 x) 1 y) 2 z) 3 w) W, s11]) dX12_gives_55 rfl jb_x3 (by decide) rfl rfl ?_
  refine jb_aload_n (pc' := 57) dX12_gives_56 rfl rfl ?_
  refine jb_sipush (pc' := 60) 338 dX12_gives_57 (by decide) rfl ?_
  refine jb_bipush (pc' := 62) 50 dX12_gives_60 (by decide) rfl ?_
  refine jb_iload_n (pc' := 63) dX12_gives_62 rfl rfl ?_
  refine jb_imul (pc' := 64) dX12_gives_63 rfl ?_
  refine jb_top (v := .int (50 * 0)) (w := .int 0) (jb_vI (by decide)) ?_
  refine jb_iadd (pc' := 65) dX12_gives_64 rfl ?_
  refine jb_top (v := .int (338 + 0)) (w := .int 338) (jb_vI (by decide)) ?_
  refine jb_aload_n (pc' := 66) dX12_gives_65 rfl rfl ?_
  refine gf_X12_7 (pc' := 69) (v := .ref 106) dX12_gives_66 rfl rfl rfl ?_
  refine jb_sipush (pc' := 72) 316 dX12_gives_69 (by decide) rfl ?_
  refine jb_iload_n (pc' := 73) dX12_gives_72 rfl rfl ?_
  refine jb_iadd (pc' := 74) dX12_gives_73 rfl ?_
  refine jb_top (v := .int (316 + 0)) (w := .int 316) (jb_vI (by decide)) ?_
  refine jb_iaload (pc' := 75) (i9 := 316) (f := d) dX12_gives_74 rfl ⟨by decide, by decide⟩ (by decide) rfl ?_
  refine jb_top (v := .int (d 316)) (w := .int (nI n)) (jb_vI h0) ?_
  refine jb_iload_n (pc' := 76) dX12_gives_75 rfl rfl ?_
  refine jb_callV (pc' := 79) (ci := 12) (q := 105) (As := [.int 338, .int (nI n), .int 0]) (a2 := 0) (b2 := 0) wv_X12_126 rfl dX12_gives_76 (c_worked0 I e kp (upd (upd (upd (upd nm 0 x) 1 y) 2 z) 3 w) W (B := fun k => d (338 + k)) (base := 338) (n := n) J d (fun k hk => rfl) hn (by decide)) rfl rfl ⟨by decide, Nat.le_of_eq (Nat.zero_add _), Nat.le_of_eq (Nat.zero_add _)⟩ (Nat.le_of_ble_eq_true rfl) rfl (fun r h9 hq => ?_)
  rcases hq with ⟨J9, rfl, ⟨hy1, hb1, hj1, rfl⟩ | ⟨hz1, hj1, v1, rfl⟩⟩
  · show jb_J _ RX12 cX12_gives 7 (Option.some .int) false 45 0 0 79 [some (.ref 105), some (.int 0), some (.int x), some (.int y), some (.int z), some (.int w), some (.int 0)] [.int (jv_ (upd (upd (upd (upd nm 0 x) 1 y) 2 z) 3 w) (jp_al (fun k => d (338 + k)) n 0).2.2)] [s0, s1, s2, s3, s4, s5, s6, s7, s8, s9, jb_mdl I J9 d e kp (upd (upd (upd (upd nm 0 x) 1 y) 2 z) 3 w) W, s11] _
    refine jb_istore_ (pc' := 81) dX12_gives_79 (by decide) (jb_at6 rfl) rfl ?_
    refine jb_iload_n (pc' := 82) dX12_gives_81 rfl rfl ?_
    refine jb_if_ne (tgt := 97) (pc' := 85) dX12_gives_82 (by decide) rfl (fun z => absurd (by decide) z) (fun _ => ?_)
    refine jb_iload (pc' := 87) dX12_gives_85 rfl rfl ?_
    refine jb_bipush (pc' := 89) (-10) dX12_gives_87 (by decide) rfl ?_
    refine jb_bipush (pc' := 91) 10 dX12_gives_89 (by decide) rfl ?_
    refine jb_callS (pc' := 94) (As := [.int (jv_ (upd (upd (upd (upd nm 0 x) 1 y) 2 z) 3 w) (jp_al (fun k => d (338 + k)) n 0).2.2), .int (-10), .int 10]) (a2 := 0) (b2 := 0) wv_X12_130 dX12_gives_91 (c_held _ (jv_ (upd (upd (upd (upd nm 0 x) 1 y) 2 z) 3 w) (jp_al (fun k => d (338 + k)) n 0).2.2) (-10) 10) rfl ⟨by decide, Nat.le_of_eq (Nat.zero_add _), Nat.le_of_eq (Nat.zero_add _)⟩ (Nat.le_of_ble_eq_true rfl) rfl (fun r h9 hq => ?_)
    obtain ⟨rfl, rfl⟩ := hq
    show jb_J _ RX12 cX12_gives 7 (Option.some .int) false 45 0 0 94 [some (.ref 105), some (.int 0), some (.int x), some (.int y), some (.int z), some (.int w), some (.int (jv_ (upd (upd (upd (upd nm 0 x) 1 y) 2 z) 3 w) (jp_al (fun k => d (338 + k)) n 0).2.2))] [.int (jm_cl (-10) 10 (jv_ (upd (upd (upd (upd nm 0 x) 1 y) 2 z) 3 w) (jp_al (fun k => d (338 + k)) n 0).2.2))] [s0, s1, s2, s3, s4, s5, s6, s7, s8, s9, jb_mdl I J9 d e kp (upd (upd (upd (upd nm 0 x) 1 y) 2 z) 3 w) W, s11] _
    refine jb_goto (pc' := 108) dX12_gives_94 (by decide) ?_
    refine jb_iret dX12_gives_108 rfl ?_
    refine ⟨congrArg (fun q => some (Value.int q)) ?_, _, _, rfl⟩
    show _ = jm_cl _ _ _
    rw [show X 0 = some c from h1, hal]
    show _ = jm_cl _ _ (jv_ (jx_N x y z w) c)
    rw [jv_ext (N := jx_N x y z w) (M := (upd (upd (upd (upd nm 0 x) 1 y) 2 z) 3 w)) (fun k hk => by match k, hk with | 0, _ => rfl | 1, _ => rfl | 2, _ => rfl | 3, _ => rfl) c]
  · exact absurd ⟨by rw [hal], by rw [hal]⟩ hz1
set_option maxRecDepth 100000 in
set_option maxHeartbeats 4000000 in
theorem c_gives1n {sc : Nat × (Nat → Int32)} {s0 s1 s2 s3 s4 s5 s6 s7 s8 s9 s11 : List va_E} (I J d e kp nm : Nat → Int32) (W : Nat → Nat → Int32) (x y z w : Int32) (X : Nat → Option (List Int32)) (h1 : X 1 = none) (h0 : d 317 = 0) : jb_C sc yX12_gives cX12_gives 7 (Option.some .int) 45 0 0 [.ref 105, .int 1, .int x, .int y, .int z, .int w] [s0, s1, s2, s3, s4, s5, s6, s7, s8, s9, jb_mdl I J d e kp nm W, s11] (fun r h9 => r = some (.int (jx_G X 1 x y z w)) ∧ ∃ J9 nm9, h9 = [s0, s1, s2, s3, s4, s5, s6, s7, s8, s9, jb_mdl I J9 d e kp nm9 W, s11]) := by
  refine jb_CofJ (ini := false) (by decide +kernel) (fun h => by cases h) (Nat.le_of_ble_eq_true rfl) ?_
  show jb_J sc RX12 cX12_gives 7 (Option.some .int) false 45 0 0 0 [some (.ref 105), some (.int 1), some (.int x), some (.int y), some (.int z), some (.int w), none] [] [s0, s1, s2, s3, s4, s5, s6, s7, s8, s9, jb_mdl I J d e kp nm W, s11] _
  refine jb_iload_n (pc' := 1) dX12_gives_0 rfl rfl ?_
  refine jb_if_ne (tgt := 8) (pc' := 4) dX12_gives_1 (by decide) rfl (fun _ => ?_) (fun z => absurd z (by decide))
  refine jb_iload_n (pc' := 9) dX12_gives_8 rfl rfl ?_
  refine jb_iconst (pc' := 10) 1 dX12_gives_9 (by decide) rfl ?_
  refine jb_iadd (pc' := 11) dX12_gives_10 rfl ?_
  refine jb_istore_ (pc' := 13) dX12_gives_11 (by decide) (jb_at6 rfl) rfl ?_
  refine jb_aload_n (pc' := 14) dX12_gives_13 rfl rfl ?_
  refine gf_X12_7 (pc' := 17) (v := .ref 106) dX12_gives_14 rfl rfl rfl ?_
  refine jb_sipush (pc' := 20) 316 dX12_gives_17 (by decide) rfl ?_
  refine jb_iload_n (pc' := 21) dX12_gives_20 rfl rfl ?_
  refine jb_iadd (pc' := 22) dX12_gives_21 rfl ?_
  refine jb_top (v := .int (316 + 1)) (w := .int 317) (jb_vI (by decide)) ?_
  refine jb_iaload (pc' := 23) (i9 := 317) (f := d) dX12_gives_22 rfl ⟨by decide, by decide⟩ (by decide) rfl ?_
  refine jb_top (v := .int (d 317)) (w := .int 0) (jb_vI h0) ?_
  refine jb_if_le (tgt := 81) (pc' := 26) dX12_gives_23 (by decide) rfl (fun _ => ?_) (fun z => absurd (by decide) z)
  refine jb_iload_n (pc' := 82) dX12_gives_81 rfl rfl ?_
  refine jb_if_ne (tgt := 97) (pc' := 85) dX12_gives_82 (by decide) rfl (fun _ => ?_) (fun z => absurd z (by decide))
  refine jb_iload (pc' := 99) dX12_gives_97 rfl rfl ?_
  refine jb_bipush (pc' := 101) 40 dX12_gives_99 (by decide) rfl ?_
  refine jb_irem (pc' := 102) dX12_gives_101 (by decide) rfl ?_
  refine jb_iconst (pc' := 103) 0 dX12_gives_102 (by decide) rfl ?_
  refine jb_bipush (pc' := 105) 39 dX12_gives_103 (by decide) rfl ?_
  refine jb_callS (pc' := 108) (As := [.int ((x + 1) - (x + 1) / 40 * 40), .int 0, .int 39]) (a2 := 0) (b2 := 0) wv_X12_130 dX12_gives_105 (c_held _ ((x + 1) - (x + 1) / 40 * 40) 0 39) rfl ⟨by decide, Nat.le_of_eq (Nat.zero_add _), Nat.le_of_eq (Nat.zero_add _)⟩ (Nat.le_of_ble_eq_true rfl) rfl (fun r h9 hq => ?_)
  obtain ⟨rfl, rfl⟩ := hq
  show jb_J _ RX12 cX12_gives 7 (Option.some .int) false 45 0 0 108 [some (.ref 105), some (.int 1), some (.int x), some (.int y), some (.int z), some (.int w), some (.int (x + 1))] [.int (jm_cl 0 39 ((x + 1) - (x + 1) / 40 * 40))] [s0, s1, s2, s3, s4, s5, s6, s7, s8, s9, jb_mdl I J d e kp nm W, s11] _
  refine jb_iret dX12_gives_108 rfl ?_
  refine ⟨congrArg (fun q => some (Value.int q)) ?_, _, _, rfl⟩
  show _ = jm_cl _ _ _
  rw [show X 1 = none from h1]
  rfl
set_option maxRecDepth 100000 in
set_option maxHeartbeats 4000000 in
theorem c_gives1s {sc : Nat × (Nat → Int32)} {s0 s1 s2 s3 s4 s5 s6 s7 s8 s9 s11 : List va_E} (I J d e kp nm : Nat → Int32) (W : Nat → Nat → Int32) (x y z w : Int32) (X : Nat → Option (List Int32)) (c : List Int32) (n : Nat) (h1 : X 1 = some c) (hn1 : 1 ≤ n) (hn : n ≤ 50) (h0 : d 317 = nI n) (hal : jp_al (fun k => d (388 + k)) n 1 = (n, true, c)) : jb_C sc yX12_gives cX12_gives 7 (Option.some .int) 45 0 0 [.ref 105, .int 1, .int x, .int y, .int z, .int w] [s0, s1, s2, s3, s4, s5, s6, s7, s8, s9, jb_mdl I J d e kp nm W, s11] (fun r h9 => r = some (.int (jx_G X 1 x y z w)) ∧ ∃ J9 nm9, h9 = [s0, s1, s2, s3, s4, s5, s6, s7, s8, s9, jb_mdl I J9 d e kp nm9 W, s11]) := by
  refine jb_CofJ (ini := false) (by decide +kernel) (fun h => by cases h) (Nat.le_of_ble_eq_true rfl) ?_
  show jb_J sc RX12 cX12_gives 7 (Option.some .int) false 45 0 0 0 [some (.ref 105), some (.int 1), some (.int x), some (.int y), some (.int z), some (.int w), none] [] [s0, s1, s2, s3, s4, s5, s6, s7, s8, s9, jb_mdl I J d e kp nm W, s11] _
  refine jb_iload_n (pc' := 1) dX12_gives_0 rfl rfl ?_
  refine jb_if_ne (tgt := 8) (pc' := 4) dX12_gives_1 (by decide) rfl (fun _ => ?_) (fun z => absurd z (by decide))
  refine jb_iload_n (pc' := 9) dX12_gives_8 rfl rfl ?_
  refine jb_iconst (pc' := 10) 1 dX12_gives_9 (by decide) rfl ?_
  refine jb_iadd (pc' := 11) dX12_gives_10 rfl ?_
  refine jb_istore_ (pc' := 13) dX12_gives_11 (by decide) (jb_at6 rfl) rfl ?_
  refine jb_aload_n (pc' := 14) dX12_gives_13 rfl rfl ?_
  refine gf_X12_7 (pc' := 17) (v := .ref 106) dX12_gives_14 rfl rfl rfl ?_
  refine jb_sipush (pc' := 20) 316 dX12_gives_17 (by decide) rfl ?_
  refine jb_iload_n (pc' := 21) dX12_gives_20 rfl rfl ?_
  refine jb_iadd (pc' := 22) dX12_gives_21 rfl ?_
  refine jb_top (v := .int (316 + 1)) (w := .int 317) (jb_vI (by decide)) ?_
  refine jb_iaload (pc' := 23) (i9 := 317) (f := d) dX12_gives_22 rfl ⟨by decide, by decide⟩ (by decide) rfl ?_
  refine jb_top (v := .int (d 317)) (w := .int (nI n)) (jb_vI h0) ?_
  refine jb_if_le (tgt := 81) (pc' := 26) dX12_gives_23 (by decide) rfl (fun z => absurd z (nI_nle (n := n) (by omega) (by omega))) (fun _ => ?_)
  refine jb_aload_n (pc' := 27) dX12_gives_26 rfl rfl ?_
  refine gf_X12_22 (pc' := 30) (v := .ref 110) dX12_gives_27 rfl rfl rfl ?_
  refine jb_iconst (pc' := 31) 0 dX12_gives_30 (by decide) rfl ?_
  refine jb_iload_n (pc' := 32) dX12_gives_31 rfl rfl ?_
  refine jb_iastore (pc' := 33) (i9 := 0) (f := nm) (h' := [s0, s1, s2, s3, s4, s5, s6, s7, s8, s9, jb_mdl I J d e kp (upd nm 0 x) W, s11]) dX12_gives_32 rfl jb_x0 (by decide) rfl rfl ?_
  refine jb_aload_n (pc' := 34) dX12_gives_33 rfl rfl ?_
  refine gf_X12_22 (pc' := 37) (v := .ref 110) dX12_gives_34 rfl rfl rfl ?_
  refine jb_iconst (pc' := 38) 1 dX12_gives_37 (by decide) rfl ?_
  refine jb_iload_n (pc' := 39) dX12_gives_38 rfl rfl ?_
  refine jb_iastore (pc' := 40) (i9 := 1) (f := (upd nm 0 x)) (h' := [s0, s1, s2, s3, s4, s5, s6, s7, s8, s9, jb_mdl I J d e kp (upd (upd nm 0 x) 1 y) W, s11]) dX12_gives_39 rfl jb_x1 (by decide) rfl rfl ?_
  refine jb_aload_n (pc' := 41) dX12_gives_40 rfl rfl ?_
  refine gf_X12_22 (pc' := 44) (v := .ref 110) dX12_gives_41 rfl rfl rfl ?_
  refine jb_iconst (pc' := 45) 2 dX12_gives_44 (by decide) rfl ?_
  refine jb_iload (pc' := 47) dX12_gives_45 rfl rfl ?_
  refine jb_iastore (pc' := 48) (i9 := 2) (f := (upd (upd nm 0 x) 1 y)) (h' := [s0, s1, s2, s3, s4, s5, s6, s7, s8, s9, jb_mdl I J d e kp (upd (upd (upd nm 0 x) 1 y) 2 z) W, s11]) dX12_gives_47 rfl jb_x2 (by decide) rfl rfl ?_
  refine jb_aload_n (pc' := 49) dX12_gives_48 rfl rfl ?_
  refine gf_X12_22 (pc' := 52) (v := .ref 110) dX12_gives_49 rfl rfl rfl ?_
  refine jb_iconst (pc' := 53) 3 dX12_gives_52 (by decide) rfl ?_
  refine jb_iload (pc' := 55) dX12_gives_53 rfl rfl ?_
  refine jb_iastore (pc' := 56) (i9 := 3) (f := (upd (upd (upd nm 0 x) 1 y) 2 z)) (h' := [s0, s1, s2, s3, s4, s5, s6, s7, s8, s9, jb_mdl I J d e kp (upd (upd (upd (upd nm 0 x) 1 y) 2 z) 3 w) W, s11]) dX12_gives_55 rfl jb_x3 (by decide) rfl rfl ?_
  refine jb_aload_n (pc' := 57) dX12_gives_56 rfl rfl ?_
  refine jb_sipush (pc' := 60) 338 dX12_gives_57 (by decide) rfl ?_
  refine jb_bipush (pc' := 62) 50 dX12_gives_60 (by decide) rfl ?_
  refine jb_iload_n (pc' := 63) dX12_gives_62 rfl rfl ?_
  refine jb_imul (pc' := 64) dX12_gives_63 rfl ?_
  refine jb_top (v := .int (50 * 1)) (w := .int 50) (jb_vI (by decide)) ?_
  refine jb_iadd (pc' := 65) dX12_gives_64 rfl ?_
  refine jb_top (v := .int (338 + 50)) (w := .int 388) (jb_vI (by decide)) ?_
  refine jb_aload_n (pc' := 66) dX12_gives_65 rfl rfl ?_
  refine gf_X12_7 (pc' := 69) (v := .ref 106) dX12_gives_66 rfl rfl rfl ?_
  refine jb_sipush (pc' := 72) 316 dX12_gives_69 (by decide) rfl ?_
  refine jb_iload_n (pc' := 73) dX12_gives_72 rfl rfl ?_
  refine jb_iadd (pc' := 74) dX12_gives_73 rfl ?_
  refine jb_top (v := .int (316 + 1)) (w := .int 317) (jb_vI (by decide)) ?_
  refine jb_iaload (pc' := 75) (i9 := 317) (f := d) dX12_gives_74 rfl ⟨by decide, by decide⟩ (by decide) rfl ?_
  refine jb_top (v := .int (d 317)) (w := .int (nI n)) (jb_vI h0) ?_
  refine jb_iload_n (pc' := 76) dX12_gives_75 rfl rfl ?_
  refine jb_callV (pc' := 79) (ci := 12) (q := 105) (As := [.int 388, .int (nI n), .int 1]) (a2 := 0) (b2 := 0) wv_X12_126 rfl dX12_gives_76 (c_worked1 I e kp (upd (upd (upd (upd nm 0 x) 1 y) 2 z) 3 w) W (B := fun k => d (388 + k)) (base := 388) (n := n) J d (fun k hk => rfl) hn (by decide)) rfl rfl ⟨by decide, Nat.le_of_eq (Nat.zero_add _), Nat.le_of_eq (Nat.zero_add _)⟩ (Nat.le_of_ble_eq_true rfl) rfl (fun r h9 hq => ?_)
  rcases hq with ⟨J9, rfl, ⟨hy1, hb1, hj1, rfl⟩ | ⟨hz1, hj1, v1, rfl⟩⟩
  · show jb_J _ RX12 cX12_gives 7 (Option.some .int) false 45 0 0 79 [some (.ref 105), some (.int 1), some (.int x), some (.int y), some (.int z), some (.int w), some (.int (x + 1))] [.int (jv_ (upd (upd (upd (upd nm 0 x) 1 y) 2 z) 3 w) (jp_al (fun k => d (388 + k)) n 1).2.2)] [s0, s1, s2, s3, s4, s5, s6, s7, s8, s9, jb_mdl I J9 d e kp (upd (upd (upd (upd nm 0 x) 1 y) 2 z) 3 w) W, s11] _
    refine jb_istore_ (pc' := 81) dX12_gives_79 (by decide) (jb_at6 rfl) rfl ?_
    refine jb_iload_n (pc' := 82) dX12_gives_81 rfl rfl ?_
    refine jb_if_ne (tgt := 97) (pc' := 85) dX12_gives_82 (by decide) rfl (fun _ => ?_) (fun z => absurd z (by decide))
    refine jb_iload (pc' := 99) dX12_gives_97 rfl rfl ?_
    refine jb_bipush (pc' := 101) 40 dX12_gives_99 (by decide) rfl ?_
    refine jb_irem (pc' := 102) dX12_gives_101 (by decide) rfl ?_
    refine jb_iconst (pc' := 103) 0 dX12_gives_102 (by decide) rfl ?_
    refine jb_bipush (pc' := 105) 39 dX12_gives_103 (by decide) rfl ?_
    refine jb_callS (pc' := 108) (As := [.int ((jv_ (upd (upd (upd (upd nm 0 x) 1 y) 2 z) 3 w) (jp_al (fun k => d (388 + k)) n 1).2.2) - (jv_ (upd (upd (upd (upd nm 0 x) 1 y) 2 z) 3 w) (jp_al (fun k => d (388 + k)) n 1).2.2) / 40 * 40), .int 0, .int 39]) (a2 := 0) (b2 := 0) wv_X12_130 dX12_gives_105 (c_held _ ((jv_ (upd (upd (upd (upd nm 0 x) 1 y) 2 z) 3 w) (jp_al (fun k => d (388 + k)) n 1).2.2) - (jv_ (upd (upd (upd (upd nm 0 x) 1 y) 2 z) 3 w) (jp_al (fun k => d (388 + k)) n 1).2.2) / 40 * 40) 0 39) rfl ⟨by decide, Nat.le_of_eq (Nat.zero_add _), Nat.le_of_eq (Nat.zero_add _)⟩ (Nat.le_of_ble_eq_true rfl) rfl (fun r h9 hq => ?_)
    obtain ⟨rfl, rfl⟩ := hq
    show jb_J _ RX12 cX12_gives 7 (Option.some .int) false 45 0 0 108 [some (.ref 105), some (.int 1), some (.int x), some (.int y), some (.int z), some (.int w), some (.int (jv_ (upd (upd (upd (upd nm 0 x) 1 y) 2 z) 3 w) (jp_al (fun k => d (388 + k)) n 1).2.2))] [.int (jm_cl 0 39 ((jv_ (upd (upd (upd (upd nm 0 x) 1 y) 2 z) 3 w) (jp_al (fun k => d (388 + k)) n 1).2.2) - (jv_ (upd (upd (upd (upd nm 0 x) 1 y) 2 z) 3 w) (jp_al (fun k => d (388 + k)) n 1).2.2) / 40 * 40))] [s0, s1, s2, s3, s4, s5, s6, s7, s8, s9, jb_mdl I J9 d e kp (upd (upd (upd (upd nm 0 x) 1 y) 2 z) 3 w) W, s11] _
    refine jb_iret dX12_gives_108 rfl ?_
    refine ⟨congrArg (fun q => some (Value.int q)) ?_, _, _, rfl⟩
    show _ = jm_cl _ _ _
    rw [show X 1 = some c from h1, hal]
    show _ = jm_cl _ _ (jv_ (jx_N x y z w) c - jv_ (jx_N x y z w) c / 40 * 40)
    rw [jv_ext (N := jx_N x y z w) (M := (upd (upd (upd (upd nm 0 x) 1 y) 2 z) 3 w)) (fun k hk => by match k, hk with | 0, _ => rfl | 1, _ => rfl | 2, _ => rfl | 3, _ => rfl) c]
  · exact absurd ⟨by rw [hal], by rw [hal]⟩ hz1
theorem c_givesm {sc : Nat × (Nat → Int32)} {d0 : Nat → Int32} {X : Nat → Option (List Int32)} (hx : jx_d X d0) : jGm sc d0 (jx_G X) := by
  intro s0 s1 s2 s3 s4 s5 s6 s7 s8 s9 s11 I J d e kp nm W u x y z w hu hag
  have hx' : jx_d X d := hx.to (fun k h1 _ => hag k h1)
  match u, hu with
  | 0, _ =>
    rcases hx' 0 (by decide) with ⟨h1, h2⟩ | ⟨c, n, h1, h2, h3, h4, h5⟩
    · exact c_gives0n I J d e kp nm W x y z w X h1 h2
    · exact c_gives0s I J d e kp nm W x y z w X c n h1 h2 h3 h4 h5
  | 1, _ =>
    rcases hx' 1 (by decide) with ⟨h1, h2⟩ | ⟨c, n, h1, h2, h3, h4, h5⟩
    · exact c_gives1n I J d e kp nm W x y z w X h1 h2
    · exact c_gives1s I J d e kp nm W x y z w X c n h1 h2 h3 h4 h5
