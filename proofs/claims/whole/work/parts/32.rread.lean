/-! ===== the reference reads a text: its own row of numbers while it does ===== -/
def jq_ (J : Nat → Int32) (base n u a : Nat) (op fl : Int32) : Prop := J 0 = nI base ∧ J 1 = nI a ∧ J 2 = nI n ∧ J 3 = fl ∧ J 4 = op ∧ J 5 = nI u
theorem jq_.at {J : Nat → Int32} {base n u a b : Nat} {op fl : Int32} (h : jq_ J base n u a op fl) : jq_ (upd J 1 (nI b)) base n u b op fl :=
  ⟨(pk_un (by decide)).trans h.1, pk_us, (pk_un (by decide)).trans h.2.2.1, (pk_un (by decide)).trans h.2.2.2.1, (pk_un (by decide)).trans h.2.2.2.2.1, (pk_un (by decide)).trans h.2.2.2.2.2⟩
theorem jq_.opn {J : Nat → Int32} {base n u a : Nat} {op op2 fl : Int32} (h : jq_ J base n u a op fl) : jq_ (upd J 4 op2) base n u a op2 fl :=
  ⟨(pk_un (by decide)).trans h.1, (pk_un (by decide)).trans h.2.1, (pk_un (by decide)).trans h.2.2.1, (pk_un (by decide)).trans h.2.2.2.1, pk_us, (pk_un (by decide)).trans h.2.2.2.2.2⟩
theorem jq_.flt {J : Nat → Int32} {base n u a : Nat} {op fl f2 : Int32} (h : jq_ J base n u a op fl) : jq_ (upd J 3 f2) base n u a op f2 :=
  ⟨(pk_un (by decide)).trans h.1, (pk_un (by decide)).trans h.2.1, (pk_un (by decide)).trans h.2.2.1, pk_us, (pk_un (by decide)).trans h.2.2.2.2.1, (pk_un (by decide)).trans h.2.2.2.2.2⟩
/-- what a reading of the reference ends with -/
def jq_P (nm : Nat → Int32) (base n u : Nat) (op : Int32) (y : jp_R) (r : Option Value) (J9 : Nat → Int32) : Prop :=
  ∃ b, y.1 = b ∧ ((y.2.1 = true ∧ jq_ J9 base n u b op (-1) ∧ r = some (.int (jv_ nm y.2.2))) ∨ (y.2.1 = false ∧ ∃ v op9, jq_ J9 base n u b op9 (nI b) ∧ r = some (.int v)))
theorem jp_lk_in {B : Nat → Int32} {n a : Nat} (h : a < n) : jp_lk B n a = B a := if_pos h
theorem jp_lk_out {B : Nat → Int32} {n a : Nat} (h : ¬ a < n) : jp_lk B n a = -1 := if_neg h
theorem jp_lp_no {B : Nat → Int32} {n r k : Nat} {f : Nat → jp_R} {x : jp_R} (h : ¬ (x.2.1 = true ∧ jp_rk (jp_lk B n x.1) = r)) : jp_lp B n r f k x = x := by
  cases k with
  | zero => rfl
  | succ k => exact if_neg h
theorem jp_lp_go {B : Nat → Int32} {n r k : Nat} {f : Nat → jp_R} {x : jp_R} {s : Int32} (h : x.2.1 = true) (hs : jp_lk B n x.1 = s) (hr : jp_rk s = r) : jp_lp B n r f (k + 1) x = jp_lp B n r f k ((f (x.1 + 1)).1, (f (x.1 + 1)).2.1, x.2.2 ++ (f (x.1 + 1)).2.2 ++ [-s]) := by
  subst hs
  exact if_pos ⟨h, hr⟩
theorem jp_c0 (s : Int32) : s = 124 ∨ (¬ s = 124 ∧ ¬ jp_rk s = 0) := by
  by_cases h : s = 124
  · exact Or.inl h
  · exact Or.inr ⟨h, fun q => by unfold jp_rk at q; rw [if_neg h] at q; repeat (first | omega | split at q)⟩
theorem jp_c1 (s : Int32) : s = 38 ∨ (¬ s = 38 ∧ ¬ jp_rk s = 1) := by
  by_cases h : s = 38
  · exact Or.inl h
  · exact Or.inr ⟨h, fun q => by
      unfold jp_rk at q
      split at q
      · omega
      · repeat (first | omega | split at q)⟩
theorem jp_c2 (s : Int32) : s = 60 ∨ s = 61 ∨ s = 62 ∨ (¬ s = 60 ∧ ¬ s = 61 ∧ ¬ s = 62 ∧ ¬ jp_rk s = 2) := by
  by_cases h : s = 60
  · exact Or.inl h
  by_cases h' : s = 61
  · exact Or.inr (Or.inl h')
  by_cases h'' : s = 62
  · exact Or.inr (Or.inr (Or.inl h''))
  · refine Or.inr (Or.inr (Or.inr ⟨h, h', h'', fun q => ?_⟩))
    unfold jp_rk at q
    split at q
    · omega
    · split at q
      · omega
      · rw [if_neg (fun z => z.elim h (fun z => z.elim h' h''))] at q; repeat (first | omega | split at q)
theorem jp_c3 (s : Int32) : s = 43 ∨ s = 45 ∨ (¬ s = 43 ∧ ¬ s = 45 ∧ ¬ jp_rk s = 3) := by
  by_cases h : s = 43
  · exact Or.inl h
  by_cases h' : s = 45
  · exact Or.inr (Or.inl h')
  · refine Or.inr (Or.inr ⟨h, h', fun q => ?_⟩)
    unfold jp_rk at q
    split at q
    · omega
    · split at q
      · omega
      · split at q
        · omega
        · rw [if_neg (fun z => z.elim h h')] at q; repeat (first | omega | split at q)
theorem jp_c4 (s : Int32) : s = 42 ∨ s = 47 ∨ s = 37 ∨ (¬ s = 42 ∧ ¬ s = 47 ∧ ¬ s = 37 ∧ ¬ jp_rk s = 4) := by
  by_cases h : s = 42
  · exact Or.inl h
  by_cases h' : s = 47
  · exact Or.inr (Or.inl h')
  by_cases h'' : s = 37
  · exact Or.inr (Or.inr (Or.inl h''))
  · refine Or.inr (Or.inr (Or.inr ⟨h, h', h'', fun q => ?_⟩))
    unfold jp_rk at q
    split at q
    · omega
    · split at q
      · omega
      · split at q
        · omega
        · split at q
          · omega
          · rw [if_neg (fun z => z.elim h (fun z => z.elim h' h''))] at q; omega
theorem jp_nu_step {v d : Nat} (h : d < 10) : 10 * nI v + nI (48 + d) - 48 = nI (v * 10 + d) := by
  rw [show (10 : Int32) = nI 10 from rfl, show (48 : Int32) = nI 48 from rfl, pk_mul, nI_add, pk_sub (by omega), show 10 * v + (48 + d) - 48 = v * 10 + d by omega]
theorem jp_nu_step' {v d : Nat} (h : d < 10) : nI v * 10 + (nI (48 + d) - 48) = nI (v * 10 + d) := by
  rw [show (10 : Int32) = nI 10 from rfl, show (48 : Int32) = nI 48 from rfl, pk_mul, pk_sub (by omega), nI_add, show v * 10 + (48 + d - 48) = v * 10 + d by omega]
theorem jp_nob (s : Int32) : jn_b s 48 58 ↔ (48 ≤ s ∧ s ≤ 57) := by
  have := jn_outL (x := s) (lo := 48) (hi := 57) (by decide) (by decide)
  constructor
  · intro h
    exact ⟨Int32.not_lt.mp (fun z => this.mp (Or.inl z) h), Int32.not_lt.mp (fun z => this.mp (Or.inr z) h)⟩
  · intro h
    exact Classical.byContradiction (fun z => (this.mpr z).elim (Int32.not_lt.mpr h.1) (Int32.not_lt.mpr h.2))
theorem jw_j_124 (l r : Int32) : jw_j 124 l r = (if l = 0 ∧ r = 0 then 0 else 1) := by
  unfold jw_j
  rw [if_pos rfl]
theorem jw_j_38 (l r : Int32) : jw_j 38 l r = (if l = 0 ∨ r = 0 then 0 else 1) := by
  unfold jw_j
  rw [if_neg (by decide), if_pos rfl]
theorem jw_j_60 (l r : Int32) : jw_j 60 l r = (if l < r then 1 else 0) := by
  unfold jw_j
  rw [if_neg (by decide), if_neg (by decide), if_pos rfl]
theorem jw_j_61 (l r : Int32) : jw_j 61 l r = (if l = r then 1 else 0) := by
  unfold jw_j
  rw [if_neg (by decide), if_neg (by decide), if_neg (by decide), if_pos rfl]
theorem jw_j_62 (l r : Int32) : jw_j 62 l r = (if r < l then 1 else 0) := by
  unfold jw_j
  rw [if_neg (by decide), if_neg (by decide), if_neg (by decide), if_neg (by decide), if_pos rfl]
theorem jw_j_43 (l r : Int32) : jw_j 43 l r = (l + r) := by
  unfold jw_j
  rw [if_neg (by decide), if_neg (by decide), if_neg (by decide), if_neg (by decide), if_neg (by decide), if_pos rfl]
theorem jw_j_45 (l r : Int32) : jw_j 45 l r = (l - r) := by
  unfold jw_j
  rw [if_neg (by decide), if_neg (by decide), if_neg (by decide), if_neg (by decide), if_neg (by decide), if_neg (by decide), if_pos rfl]
theorem jw_j_42 (l r : Int32) : jw_j 42 l r = (l * r) := by
  unfold jw_j
  rw [if_neg (by decide), if_neg (by decide), if_neg (by decide), if_neg (by decide), if_neg (by decide), if_neg (by decide), if_neg (by decide), if_pos rfl]
theorem jw_j_47 (l r : Int32) : jw_j 47 l r = (if r = 0 then 0 else l / r) := by
  unfold jw_j
  rw [if_neg (by decide), if_neg (by decide), if_neg (by decide), if_neg (by decide), if_neg (by decide), if_neg (by decide), if_neg (by decide), if_neg (by decide), if_pos rfl]
theorem jw_j_37 (l r : Int32) : jw_j 37 l r = (if r = 0 then 0 else l - l / r * r) := by
  unfold jw_j
  rw [if_neg (by decide), if_neg (by decide), if_neg (by decide), if_neg (by decide), if_neg (by decide), if_neg (by decide), if_neg (by decide), if_neg (by decide), if_neg (by decide)]
set_option maxRecDepth 100000 in
set_option maxHeartbeats 4000000 in
theorem c_here {sc : Nat × (Nat → Int32)} {s0 s1 s2 s3 s4 s5 s6 s7 s8 s9 s11 : List va_E} (I e kp nm : Nat → Int32) (W : Nat → Nat → Int32) {B : Nat → Int32} {base n u : Nat} (d : Nat → Int32) (hB : ∀ k, k < n → d (base + k) = B k) (hn : n ≤ 50) (hb : base ≤ 438) (J : Nat → Int32) {a : Nat} {op : Int32} (hq : jq_ J base n u a op (-1)) (ha9 : a < 2 ^ 30 := by omega) : jb_C sc yX12_here cX12_here 1 (Option.some .int) 0 0 0 [.ref 105] [s0, s1, s2, s3, s4, s5, s6, s7, s8, s9, jb_mdl I J d e kp nm W, s11] (fun r h9 => r = some (.int (jp_lk B n a)) ∧ h9 = [s0, s1, s2, s3, s4, s5, s6, s7, s8, s9, jb_mdl I J d e kp nm W, s11]) := by
  refine jb_CofJ (ini := false) (by decide +kernel) (fun h => by cases h) (Nat.le_of_ble_eq_true rfl) ?_
  show jb_J sc RX12 cX12_here 1 (Option.some .int) false 0 0 0 0 [some (.ref 105)] [] [s0, s1, s2, s3, s4, s5, s6, s7, s8, s9, jb_mdl I J d e kp nm W, s11] _
  by_cases ha : a < n
  · show jb_J _ RX12 cX12_here 1 (Option.some .int) false 0 0 0 0 [some (.ref 105)] [] [s0, s1, s2, s3, s4, s5, s6, s7, s8, s9, jb_mdl I J d e kp nm W, s11] _
    refine jb_aload_n (pc' := 1) dX12_here_0 rfl rfl ?_
    refine gf_X12_62 (pc' := 4) (v := .int (J 1)) dX12_here_1 rfl rfl rfl ?_
    refine jb_top (v := .int (J 1)) (w := .int (nI a)) (jb_vI hq.2.1) ?_
    refine jb_aload_n (pc' := 5) dX12_here_4 rfl rfl ?_
    refine gf_X12_66 (pc' := 8) (v := .int (J 2)) dX12_here_5 rfl rfl rfl ?_
    refine jb_top (v := .int (J 2)) (w := .int (nI n)) (jb_vI hq.2.2.1) ?_
    refine jb_icmp_ge (tgt := 35) (pc' := 11) dX12_here_8 (by decide) rfl (fun z => absurd z (nI_ge (a := a) (b := n) (by omega) (by omega))) (fun _ => ?_)
    refine jb_aload_n (pc' := 12) dX12_here_11 rfl rfl ?_
    refine gf_X12_69 (pc' := 15) (v := .int (J 3)) dX12_here_12 rfl rfl rfl ?_
    refine jb_top (v := .int (J 3)) (w := .int (-1)) (jb_vI hq.2.2.2.1) ?_
    refine jb_if_ge (tgt := 35) (pc' := 18) dX12_here_15 (by decide) rfl (fun z => absurd z (by decide)) (fun _ => ?_)
    refine jb_aload_n (pc' := 19) dX12_here_18 rfl rfl ?_
    refine gf_X12_7 (pc' := 22) (v := .ref 106) dX12_here_19 rfl rfl rfl ?_
    refine jb_aload_n (pc' := 23) dX12_here_22 rfl rfl ?_
    refine gf_X12_72 (pc' := 26) (v := .int (J 0)) dX12_here_23 rfl rfl rfl ?_
    refine jb_top (v := .int (J 0)) (w := .int (nI base)) (jb_vI hq.1) ?_
    refine jb_aload_n (pc' := 27) dX12_here_26 rfl rfl ?_
    refine gf_X12_62 (pc' := 30) (v := .int (J 1)) dX12_here_27 rfl rfl rfl ?_
    refine jb_top (v := .int (J 1)) (w := .int (nI a)) (jb_vI hq.2.1) ?_
    refine jb_iadd (pc' := 31) dX12_here_30 rfl ?_
    refine jb_top (v := .int ((nI base) + (nI a))) (w := .int (nI (base + a))) (jb_vI (nI_add _ _)) ?_
    refine jb_iaload (pc' := 32) (i9 := (base + a)) (f := d) dX12_here_31 rfl (jb_ix_nI (by omega)) (by omega) rfl ?_
    refine jb_goto (pc' := 36) dX12_here_32 (by decide) ?_
    refine jb_iret dX12_here_36 rfl ?_
    exact ⟨congrArg (fun y => some (Value.int y)) ((hB a ha).trans (jp_lk_in ha).symm), rfl⟩
  · show jb_J _ RX12 cX12_here 1 (Option.some .int) false 0 0 0 0 [some (.ref 105)] [] [s0, s1, s2, s3, s4, s5, s6, s7, s8, s9, jb_mdl I J d e kp nm W, s11] _
    refine jb_aload_n (pc' := 1) dX12_here_0 rfl rfl ?_
    refine gf_X12_62 (pc' := 4) (v := .int (J 1)) dX12_here_1 rfl rfl rfl ?_
    refine jb_top (v := .int (J 1)) (w := .int (nI a)) (jb_vI hq.2.1) ?_
    refine jb_aload_n (pc' := 5) dX12_here_4 rfl rfl ?_
    refine gf_X12_66 (pc' := 8) (v := .int (J 2)) dX12_here_5 rfl rfl rfl ?_
    refine jb_top (v := .int (J 2)) (w := .int (nI n)) (jb_vI hq.2.2.1) ?_
    refine jb_icmp_ge (tgt := 35) (pc' := 11) dX12_here_8 (by decide) rfl (fun _ => ?_) (fun z => absurd (nI_le (a := n) (b := a) (by omega) (by omega)) z)
    refine jb_iconst (pc' := 36) (-1) dX12_here_35 (by decide) rfl ?_
    refine jb_iret dX12_here_36 rfl ?_
    exact ⟨congrArg (fun y => some (Value.int y)) (jp_lk_out ha).symm, rfl⟩
set_option maxRecDepth 100000 in
set_option maxHeartbeats 4000000 in
theorem c_hereF {sc : Nat × (Nat → Int32)} {s0 s1 s2 s3 s4 s5 s6 s7 s8 s9 s11 : List va_E} (I e kp nm : Nat → Int32) (W : Nat → Nat → Int32) (J d : Nat → Int32) {base n u a b : Nat} {op : Int32} (hq : jq_ J base n u a op (nI b)) (hb9 : b ≤ 50) : jb_C sc yX12_here cX12_here 1 (Option.some .int) 0 0 0 [.ref 105] [s0, s1, s2, s3, s4, s5, s6, s7, s8, s9, jb_mdl I J d e kp nm W, s11] (fun r h9 => r = some (.int (-1)) ∧ h9 = [s0, s1, s2, s3, s4, s5, s6, s7, s8, s9, jb_mdl I J d e kp nm W, s11]) := by
  refine jb_CofJ (ini := false) (by decide +kernel) (fun h => by cases h) (Nat.le_of_ble_eq_true rfl) ?_
  show jb_J sc RX12 cX12_here 1 (Option.some .int) false 0 0 0 0 [some (.ref 105)] [] [s0, s1, s2, s3, s4, s5, s6, s7, s8, s9, jb_mdl I J d e kp nm W, s11] _
  refine jb_aload_n (pc' := 1) dX12_here_0 rfl rfl ?_
  refine gf_X12_62 (pc' := 4) (v := .int (J 1)) dX12_here_1 rfl rfl rfl ?_
  refine jb_top (v := .int (J 1)) (w := .int (nI a)) (jb_vI hq.2.1) ?_
  refine jb_aload_n (pc' := 5) dX12_here_4 rfl rfl ?_
  refine gf_X12_66 (pc' := 8) (v := .int (J 2)) dX12_here_5 rfl rfl rfl ?_
  refine jb_top (v := .int (J 2)) (w := .int (nI n)) (jb_vI hq.2.2.1) ?_
  refine jb_icmp_ge (tgt := 35) (pc' := 11) dX12_here_8 (by decide) rfl (fun c1 => ?_) (fun c1 => ?_)
  · refine jb_iconst (pc' := 36) (-1) dX12_here_35 (by decide) rfl ?_
    refine jb_iret dX12_here_36 rfl ?_
    exact ⟨rfl, rfl⟩
  · refine jb_aload_n (pc' := 12) dX12_here_11 rfl rfl ?_
    refine gf_X12_69 (pc' := 15) (v := .int (J 3)) dX12_here_12 rfl rfl rfl ?_
    refine jb_top (v := .int (J 3)) (w := .int (nI b)) (jb_vI hq.2.2.2.1) ?_
    refine jb_if_ge (tgt := 35) (pc' := 18) dX12_here_15 (by decide) rfl (fun _ => ?_) (fun z => absurd (nI_pos' (n := b) (by omega)) z)
    refine jb_iconst (pc' := 36) (-1) dX12_here_35 (by decide) rfl ?_
    refine jb_iret dX12_here_36 rfl ?_
    exact ⟨rfl, rfl⟩
set_option maxRecDepth 100000 in
set_option maxHeartbeats 4000000 in
theorem c_wrong {sc : Nat × (Nat → Int32)} {s0 s1 s2 s3 s4 s5 s6 s7 s8 s9 s11 : List va_E} (I e kp nm : Nat → Int32) (W : Nat → Nat → Int32) (J d : Nat → Int32) {base n u a : Nat} {op : Int32} (hq : jq_ J base n u a op (-1)) : jb_C sc yX12_wrong cX12_wrong 1 (Option.some .int) 0 0 0 [.ref 105] [s0, s1, s2, s3, s4, s5, s6, s7, s8, s9, jb_mdl I J d e kp nm W, s11] (fun r h9 => r = some (.int 0) ∧ h9 = [s0, s1, s2, s3, s4, s5, s6, s7, s8, s9, jb_mdl I (upd J 3 (nI a)) d e kp nm W, s11]) := by
  refine jb_CofJ (ini := false) (by decide +kernel) (fun h => by cases h) (Nat.le_of_ble_eq_true rfl) ?_
  show jb_J sc RX12 cX12_wrong 1 (Option.some .int) false 0 0 0 0 [some (.ref 105)] [] [s0, s1, s2, s3, s4, s5, s6, s7, s8, s9, jb_mdl I J d e kp nm W, s11] _
  refine jb_aload_n (pc' := 1) dX12_wrong_0 rfl rfl ?_
  refine jb_aload_n (pc' := 2) dX12_wrong_1 rfl rfl ?_
  refine gf_X12_69 (pc' := 5) (v := .int (J 3)) dX12_wrong_2 rfl rfl rfl ?_
  refine jb_top (v := .int (J 3)) (w := .int (-1)) (jb_vI hq.2.2.2.1) ?_
  refine jb_if_ge (tgt := 15) (pc' := 8) dX12_wrong_5 (by decide) rfl (fun z => absurd z (by decide)) (fun _ => ?_)
  refine jb_aload_n (pc' := 9) dX12_wrong_8 rfl rfl ?_
  refine gf_X12_62 (pc' := 12) (v := .int (J 1)) dX12_wrong_9 rfl rfl rfl ?_
  refine jb_top (v := .int (J 1)) (w := .int (nI a)) (jb_vI hq.2.1) ?_
  refine jb_goto (pc' := 19) dX12_wrong_12 (by decide) ?_
  refine pf_X12_69 (pc' := 22) (h' := [s0, s1, s2, s3, s4, s5, s6, s7, s8, s9, jb_mdl I (upd J 3 (nI a)) d e kp nm W, s11]) dX12_wrong_19 (fun _ => ⟨rfl, rfl⟩) rfl (Nat.le_of_ble_eq_true rfl) rfl rfl ?_
  refine jb_iconst (pc' := 23) 0 dX12_wrong_22 (by decide) rfl ?_
  refine jb_iret dX12_wrong_23 rfl ?_
  exact ⟨rfl, rfl⟩
set_option maxRecDepth 100000 in
set_option maxHeartbeats 4000000 in
theorem c_wrongF {sc : Nat × (Nat → Int32)} {s0 s1 s2 s3 s4 s5 s6 s7 s8 s9 s11 : List va_E} (I e kp nm : Nat → Int32) (W : Nat → Nat → Int32) (J d : Nat → Int32) {base n u a b : Nat} {op : Int32} (hq : jq_ J base n u a op (nI b)) (hb9 : b ≤ 50) : jb_C sc yX12_wrong cX12_wrong 1 (Option.some .int) 0 0 0 [.ref 105] [s0, s1, s2, s3, s4, s5, s6, s7, s8, s9, jb_mdl I J d e kp nm W, s11] (fun r h9 => r = some (.int 0) ∧ h9 = [s0, s1, s2, s3, s4, s5, s6, s7, s8, s9, jb_mdl I (upd J 3 (nI b)) d e kp nm W, s11]) := by
  refine jb_CofJ (ini := false) (by decide +kernel) (fun h => by cases h) (Nat.le_of_ble_eq_true rfl) ?_
  show jb_J sc RX12 cX12_wrong 1 (Option.some .int) false 0 0 0 0 [some (.ref 105)] [] [s0, s1, s2, s3, s4, s5, s6, s7, s8, s9, jb_mdl I J d e kp nm W, s11] _
  refine jb_aload_n (pc' := 1) dX12_wrong_0 rfl rfl ?_
  refine jb_aload_n (pc' := 2) dX12_wrong_1 rfl rfl ?_
  refine gf_X12_69 (pc' := 5) (v := .int (J 3)) dX12_wrong_2 rfl rfl rfl ?_
  refine jb_top (v := .int (J 3)) (w := .int (nI b)) (jb_vI hq.2.2.2.1) ?_
  refine jb_if_ge (tgt := 15) (pc' := 8) dX12_wrong_5 (by decide) rfl (fun _ => ?_) (fun z => absurd (nI_pos' (n := b) (by omega)) z)
  refine jb_aload_n (pc' := 16) dX12_wrong_15 rfl rfl ?_
  refine gf_X12_69 (pc' := 19) (v := .int (J 3)) dX12_wrong_16 rfl rfl rfl ?_
  refine jb_top (v := .int (J 3)) (w := .int (nI b)) (jb_vI hq.2.2.2.1) ?_
  refine pf_X12_69 (pc' := 22) (h' := [s0, s1, s2, s3, s4, s5, s6, s7, s8, s9, jb_mdl I (upd J 3 (nI b)) d e kp nm W, s11]) dX12_wrong_19 (fun _ => ⟨rfl, rfl⟩) rfl (Nat.le_of_ble_eq_true rfl) rfl rfl ?_
  refine jb_iconst (pc' := 23) 0 dX12_wrong_22 (by decide) rfl ?_
  refine jb_iret dX12_wrong_23 rfl ?_
  exact ⟨rfl, rfl⟩
set_option maxRecDepth 100000 in
set_option maxHeartbeats 4000000 in
theorem c_takes1 {sc : Nat × (Nat → Int32)} {s0 s1 s2 s3 s4 s5 s6 s7 s8 s9 s11 : List va_E} (I e kp nm : Nat → Int32) (W : Nat → Nat → Int32) {B : Nat → Int32} {base n u : Nat} (d : Nat → Int32) (hB : ∀ k, k < n → d (base + k) = B k) (hn : n ≤ 50) (hb : base ≤ 438) (J : Nat → Int32) {a : Nat} {op : Int32} (hq : jq_ J base n u a op (-1)) (ha : a ≤ n) (c : Int32) (hc : jp_lk B n a = c) : jb_C sc yX12_takes cX12_takes 2 (Option.some .boolean) 1 0 0 [.ref 105, .int c] [s0, s1, s2, s3, s4, s5, s6, s7, s8, s9, jb_mdl I J d e kp nm W, s11] (fun r h9 => r = some (.int 1) ∧ h9 = [s0, s1, s2, s3, s4, s5, s6, s7, s8, s9, jb_mdl I (upd J 1 (nI (a + 1))) d e kp nm W, s11]) := by
  refine jb_CofJ (ini := false) (by decide +kernel) (fun h => by cases h) (Nat.le_of_ble_eq_true rfl) ?_
  show jb_J sc RX12 cX12_takes 2 (Option.some .boolean) false 1 0 0 0 [some (.ref 105), some (.int c)] [] [s0, s1, s2, s3, s4, s5, s6, s7, s8, s9, jb_mdl I J d e kp nm W, s11] _
  refine jb_aload_n (pc' := 1) dX12_takes_0 rfl rfl ?_
  refine jb_callV (pc' := 4) (ci := 12) (q := 105) (As := []) (a2 := 0) (b2 := 0) wv_X12_75 rfl dX12_takes_1 (c_here I e kp nm W d hB hn hb J hq) rfl rfl ⟨by decide, Nat.le_of_eq (Nat.zero_add _), Nat.le_of_eq (Nat.zero_add _)⟩ (Nat.le_of_ble_eq_true rfl) rfl (fun r h9 hq => ?_)
  obtain ⟨rfl, rfl⟩ := hq
  show jb_J _ RX12 cX12_takes 2 (Option.some .boolean) false 1 0 0 4 [some (.ref 105), some (.int c)] [.int (jp_lk B n a)] [s0, s1, s2, s3, s4, s5, s6, s7, s8, s9, jb_mdl I J d e kp nm W, s11] _
  refine jb_iload_n (pc' := 5) dX12_takes_4 rfl rfl ?_
  refine jb_icmp_eq (tgt := 10) (pc' := 8) dX12_takes_5 (by decide) rfl (fun _ => ?_) (fun z => absurd hc z)
  refine jb_aload_n (pc' := 11) dX12_takes_10 rfl rfl ?_
  refine jb_dup (pc' := 12) dX12_takes_11 rfl rfl ?_
  refine gf_X12_62 (pc' := 15) (v := .int (J 1)) dX12_takes_12 rfl rfl rfl ?_
  refine jb_top (v := .int (J 1)) (w := .int (nI a)) (jb_vI hq.2.1) ?_
  refine jb_iconst (pc' := 16) 1 dX12_takes_15 (by decide) rfl ?_
  refine jb_iadd (pc' := 17) dX12_takes_16 rfl ?_
  refine jb_top (v := .int ((nI a) + 1)) (w := .int (nI (a + 1))) (jb_vI (nI_add _ 1)) ?_
  refine pf_X12_62 (pc' := 20) (h' := [s0, s1, s2, s3, s4, s5, s6, s7, s8, s9, jb_mdl I (upd J 1 (nI (a + 1))) d e kp nm W, s11]) dX12_takes_17 (fun _ => ⟨rfl, rfl⟩) rfl (Nat.le_of_ble_eq_true rfl) rfl rfl ?_
  refine jb_iconst (pc' := 21) 1 dX12_takes_20 (by decide) rfl ?_
  refine jb_iret dX12_takes_21 rfl ?_
  exact ⟨rfl, rfl⟩
set_option maxRecDepth 100000 in
set_option maxHeartbeats 4000000 in
theorem c_takes0 {sc : Nat × (Nat → Int32)} {s0 s1 s2 s3 s4 s5 s6 s7 s8 s9 s11 : List va_E} (I e kp nm : Nat → Int32) (W : Nat → Nat → Int32) {B : Nat → Int32} {base n u : Nat} (d : Nat → Int32) (hB : ∀ k, k < n → d (base + k) = B k) (hn : n ≤ 50) (hb : base ≤ 438) (J : Nat → Int32) {a : Nat} {op : Int32} (hq : jq_ J base n u a op (-1)) (ha : a ≤ n) (c : Int32) (hc : ¬ jp_lk B n a = c) : jb_C sc yX12_takes cX12_takes 2 (Option.some .boolean) 1 0 0 [.ref 105, .int c] [s0, s1, s2, s3, s4, s5, s6, s7, s8, s9, jb_mdl I J d e kp nm W, s11] (fun r h9 => r = some (.int 0) ∧ h9 = [s0, s1, s2, s3, s4, s5, s6, s7, s8, s9, jb_mdl I J d e kp nm W, s11]) := by
  refine jb_CofJ (ini := false) (by decide +kernel) (fun h => by cases h) (Nat.le_of_ble_eq_true rfl) ?_
  show jb_J sc RX12 cX12_takes 2 (Option.some .boolean) false 1 0 0 0 [some (.ref 105), some (.int c)] [] [s0, s1, s2, s3, s4, s5, s6, s7, s8, s9, jb_mdl I J d e kp nm W, s11] _
  refine jb_aload_n (pc' := 1) dX12_takes_0 rfl rfl ?_
  refine jb_callV (pc' := 4) (ci := 12) (q := 105) (As := []) (a2 := 0) (b2 := 0) wv_X12_75 rfl dX12_takes_1 (c_here I e kp nm W d hB hn hb J hq) rfl rfl ⟨by decide, Nat.le_of_eq (Nat.zero_add _), Nat.le_of_eq (Nat.zero_add _)⟩ (Nat.le_of_ble_eq_true rfl) rfl (fun r h9 hq => ?_)
  obtain ⟨rfl, rfl⟩ := hq
  show jb_J _ RX12 cX12_takes 2 (Option.some .boolean) false 1 0 0 4 [some (.ref 105), some (.int c)] [.int (jp_lk B n a)] [s0, s1, s2, s3, s4, s5, s6, s7, s8, s9, jb_mdl I J d e kp nm W, s11] _
  refine jb_iload_n (pc' := 5) dX12_takes_4 rfl rfl ?_
  refine jb_icmp_eq (tgt := 10) (pc' := 8) dX12_takes_5 (by decide) rfl (fun z => absurd z hc) (fun _ => ?_)
  refine jb_iconst (pc' := 9) 0 dX12_takes_8 (by decide) rfl ?_
  refine jb_iret dX12_takes_9 rfl ?_
  exact ⟨rfl, rfl⟩
set_option maxRecDepth 100000 in
set_option maxHeartbeats 4000000 in
theorem c_takesF {sc : Nat × (Nat → Int32)} {s0 s1 s2 s3 s4 s5 s6 s7 s8 s9 s11 : List va_E} (I e kp nm : Nat → Int32) (W : Nat → Nat → Int32) (J d : Nat → Int32) {base n u a b : Nat} {op : Int32} (hq : jq_ J base n u a op (nI b)) (hb9 : b ≤ 50) (c : Int32) (hc : ¬ -1 = c) : jb_C sc yX12_takes cX12_takes 2 (Option.some .boolean) 1 0 0 [.ref 105, .int c] [s0, s1, s2, s3, s4, s5, s6, s7, s8, s9, jb_mdl I J d e kp nm W, s11] (fun r h9 => r = some (.int 0) ∧ h9 = [s0, s1, s2, s3, s4, s5, s6, s7, s8, s9, jb_mdl I J d e kp nm W, s11]) := by
  refine jb_CofJ (ini := false) (by decide +kernel) (fun h => by cases h) (Nat.le_of_ble_eq_true rfl) ?_
  show jb_J sc RX12 cX12_takes 2 (Option.some .boolean) false 1 0 0 0 [some (.ref 105), some (.int c)] [] [s0, s1, s2, s3, s4, s5, s6, s7, s8, s9, jb_mdl I J d e kp nm W, s11] _
  refine jb_aload_n (pc' := 1) dX12_takes_0 rfl rfl ?_
  refine jb_callV (pc' := 4) (ci := 12) (q := 105) (As := []) (a2 := 0) (b2 := 0) wv_X12_75 rfl dX12_takes_1 (c_hereF I e kp nm W J d hq (by omega)) rfl rfl ⟨by decide, Nat.le_of_eq (Nat.zero_add _), Nat.le_of_eq (Nat.zero_add _)⟩ (Nat.le_of_ble_eq_true rfl) rfl (fun r h9 hq => ?_)
  obtain ⟨rfl, rfl⟩ := hq
  show jb_J _ RX12 cX12_takes 2 (Option.some .boolean) false 1 0 0 4 [some (.ref 105), some (.int c)] [.int (-1)] [s0, s1, s2, s3, s4, s5, s6, s7, s8, s9, jb_mdl I J d e kp nm W, s11] _
  refine jb_iload_n (pc' := 5) dX12_takes_4 rfl rfl ?_
  refine jb_icmp_eq (tgt := 10) (pc' := 8) dX12_takes_5 (by decide) rfl (fun z => absurd z hc) (fun _ => ?_)
  refine jb_iconst (pc' := 9) 0 dX12_takes_8 (by decide) rfl ?_
  refine jb_iret dX12_takes_9 rfl ?_
  exact ⟨rfl, rfl⟩
set_option maxRecDepth 100000 in
set_option maxHeartbeats 4000000 in
theorem c_nameOf0 {sc : Nat × (Nat → Int32)} {s0 s1 s2 s3 s4 s5 s6 s7 s8 s9 s11 : List va_E} (I e kp nm : Nat → Int32) (W : Nat → Nat → Int32) (J d : Nat → Int32) {base n a : Nat} {op fl : Int32} (hq : jq_ J base n 0 a op fl) (c : Int32) : jb_C sc yX12_nameOf cX12_nameOf 2 (Option.some .int) 0 0 0 [.ref 105, .int c] [s0, s1, s2, s3, s4, s5, s6, s7, s8, s9, jb_mdl I J d e kp nm W, s11] (fun r h9 => h9 = [s0, s1, s2, s3, s4, s5, s6, s7, s8, s9, jb_mdl I J d e kp nm W, s11] ∧ ((jp_na 0 c = none ∧ r = some (.int (-1))) ∨ ∃ i, i < 4 ∧ jp_na 0 c = some i ∧ r = some (.int (nI i)))) := by
  refine jb_CofJ (ini := false) (by decide +kernel) (fun h => by cases h) (Nat.le_of_ble_eq_true rfl) ?_
  show jb_J sc RX12 cX12_nameOf 2 (Option.some .int) false 0 0 0 0 [some (.ref 105), some (.int c)] [] [s0, s1, s2, s3, s4, s5, s6, s7, s8, s9, jb_mdl I J d e kp nm W, s11] _
  refine jb_aload_n (pc' := 1) dX12_nameOf_0 rfl rfl ?_
  refine gf_X12_79 (pc' := 4) (v := .int (J 5)) dX12_nameOf_1 rfl rfl rfl ?_
  refine jb_top (v := .int (J 5)) (w := .int 0) (jb_vI hq.2.2.2.2.2) ?_
  refine jb_if_eq (tgt := 39) (pc' := 7) dX12_nameOf_4 (by decide) rfl (fun _ => ?_) (fun z => absurd (by decide) z)
  refine jb_iload_n (pc' := 40) dX12_nameOf_39 rfl rfl ?_
  refine jb_bipush (pc' := 42) 119 dX12_nameOf_40 (by decide) rfl ?_
  refine jb_icmp_ne (tgt := 49) (pc' := 45) dX12_nameOf_42 (by decide) rfl (fun c2 => ?_) (fun c2 => ?_)
  · refine jb_iload_n (pc' := 50) dX12_nameOf_49 rfl rfl ?_
    refine jb_bipush (pc' := 52) 102 dX12_nameOf_50 (by decide) rfl ?_
    refine jb_icmp_ne (tgt := 59) (pc' := 55) dX12_nameOf_52 (by decide) rfl (fun c3 => ?_) (fun c3 => ?_)
    · refine jb_iload_n (pc' := 60) dX12_nameOf_59 rfl rfl ?_
      refine jb_bipush (pc' := 62) 105 dX12_nameOf_60 (by decide) rfl ?_
      refine jb_icmp_ne (tgt := 69) (pc' := 65) dX12_nameOf_62 (by decide) rfl (fun c4 => ?_) (fun c4 => ?_)
      · refine jb_iload_n (pc' := 70) dX12_nameOf_69 rfl rfl ?_
        refine jb_bipush (pc' := 72) 107 dX12_nameOf_70 (by decide) rfl ?_
        refine jb_icmp_ne (tgt := 79) (pc' := 75) dX12_nameOf_72 (by decide) rfl (fun c5 => ?_) (fun c5 => ?_)
        · refine jb_iconst (pc' := 80) (-1) dX12_nameOf_79 (by decide) rfl ?_
          refine jb_iret dX12_nameOf_80 rfl ?_
          refine ⟨rfl, ?_⟩
          exact Or.inl ⟨by simp [jp_na, *], rfl⟩
        · refine jb_iconst (pc' := 76) 3 dX12_nameOf_75 (by decide) rfl ?_
          refine jb_goto (pc' := 80) dX12_nameOf_76 (by decide) ?_
          refine jb_iret dX12_nameOf_80 rfl ?_
          refine ⟨rfl, ?_⟩
          exact Or.inr ⟨3, by decide, by simp [jp_na, *], rfl⟩
      · refine jb_iconst (pc' := 66) 2 dX12_nameOf_65 (by decide) rfl ?_
        refine jb_goto (pc' := 80) dX12_nameOf_66 (by decide) ?_
        refine jb_iret dX12_nameOf_80 rfl ?_
        refine ⟨rfl, ?_⟩
        exact Or.inr ⟨2, by decide, by simp [jp_na, *], rfl⟩
    · refine jb_iconst (pc' := 56) 1 dX12_nameOf_55 (by decide) rfl ?_
      refine jb_goto (pc' := 80) dX12_nameOf_56 (by decide) ?_
      refine jb_iret dX12_nameOf_80 rfl ?_
      refine ⟨rfl, ?_⟩
      exact Or.inr ⟨1, by decide, by simp [jp_na, *], rfl⟩
  · refine jb_iconst (pc' := 46) 0 dX12_nameOf_45 (by decide) rfl ?_
    refine jb_goto (pc' := 80) dX12_nameOf_46 (by decide) ?_
    refine jb_iret dX12_nameOf_80 rfl ?_
    refine ⟨rfl, ?_⟩
    exact Or.inr ⟨0, by decide, by simp [jp_na, *], rfl⟩
set_option maxRecDepth 100000 in
set_option maxHeartbeats 4000000 in
theorem c_nameOf1 {sc : Nat × (Nat → Int32)} {s0 s1 s2 s3 s4 s5 s6 s7 s8 s9 s11 : List va_E} (I e kp nm : Nat → Int32) (W : Nat → Nat → Int32) (J d : Nat → Int32) {base n a : Nat} {op fl : Int32} (hq : jq_ J base n 1 a op fl) (c : Int32) : jb_C sc yX12_nameOf cX12_nameOf 2 (Option.some .int) 0 0 0 [.ref 105, .int c] [s0, s1, s2, s3, s4, s5, s6, s7, s8, s9, jb_mdl I J d e kp nm W, s11] (fun r h9 => h9 = [s0, s1, s2, s3, s4, s5, s6, s7, s8, s9, jb_mdl I J d e kp nm W, s11] ∧ ((jp_na 1 c = none ∧ r = some (.int (-1))) ∨ ∃ i, i < 4 ∧ jp_na 1 c = some i ∧ r = some (.int (nI i)))) := by
  refine jb_CofJ (ini := false) (by decide +kernel) (fun h => by cases h) (Nat.le_of_ble_eq_true rfl) ?_
  show jb_J sc RX12 cX12_nameOf 2 (Option.some .int) false 0 0 0 0 [some (.ref 105), some (.int c)] [] [s0, s1, s2, s3, s4, s5, s6, s7, s8, s9, jb_mdl I J d e kp nm W, s11] _
  refine jb_aload_n (pc' := 1) dX12_nameOf_0 rfl rfl ?_
  refine gf_X12_79 (pc' := 4) (v := .int (J 5)) dX12_nameOf_1 rfl rfl rfl ?_
  refine jb_top (v := .int (J 5)) (w := .int 1) (jb_vI hq.2.2.2.2.2) ?_
  refine jb_if_eq (tgt := 39) (pc' := 7) dX12_nameOf_4 (by decide) rfl (fun z => absurd z (by decide)) (fun _ => ?_)
  refine jb_iload_n (pc' := 8) dX12_nameOf_7 rfl rfl ?_
  refine jb_bipush (pc' := 10) 119 dX12_nameOf_8 (by decide) rfl ?_
  refine jb_icmp_ne (tgt := 17) (pc' := 13) dX12_nameOf_10 (by decide) rfl (fun c2 => ?_) (fun c2 => ?_)
  · refine jb_iload_n (pc' := 18) dX12_nameOf_17 rfl rfl ?_
    refine jb_bipush (pc' := 20) 109 dX12_nameOf_18 (by decide) rfl ?_
    refine jb_icmp_ne (tgt := 27) (pc' := 23) dX12_nameOf_20 (by decide) rfl (fun c3 => ?_) (fun c3 => ?_)
    · refine jb_iload_n (pc' := 28) dX12_nameOf_27 rfl rfl ?_
      refine jb_bipush (pc' := 30) 99 dX12_nameOf_28 (by decide) rfl ?_
      refine jb_icmp_ne (tgt := 37) (pc' := 33) dX12_nameOf_30 (by decide) rfl (fun c4 => ?_) (fun c4 => ?_)
      · refine jb_iconst (pc' := 38) (-1) dX12_nameOf_37 (by decide) rfl ?_
        refine jb_iret dX12_nameOf_38 rfl ?_
        refine ⟨rfl, ?_⟩
        exact Or.inl ⟨by simp [jp_na, *], rfl⟩
      · refine jb_iconst (pc' := 34) 2 dX12_nameOf_33 (by decide) rfl ?_
        refine jb_goto (pc' := 38) dX12_nameOf_34 (by decide) ?_
        refine jb_iret dX12_nameOf_38 rfl ?_
        refine ⟨rfl, ?_⟩
        exact Or.inr ⟨2, by decide, by simp [jp_na, *], rfl⟩
    · refine jb_iconst (pc' := 24) 1 dX12_nameOf_23 (by decide) rfl ?_
      refine jb_goto (pc' := 38) dX12_nameOf_24 (by decide) ?_
      refine jb_iret dX12_nameOf_38 rfl ?_
      refine ⟨rfl, ?_⟩
      exact Or.inr ⟨1, by decide, by simp [jp_na, *], rfl⟩
  · refine jb_iconst (pc' := 14) 0 dX12_nameOf_13 (by decide) rfl ?_
    refine jb_goto (pc' := 38) dX12_nameOf_14 (by decide) ?_
    refine jb_iret dX12_nameOf_38 rfl ?_
    refine ⟨rfl, ?_⟩
    exact Or.inr ⟨0, by decide, by simp [jp_na, *], rfl⟩
