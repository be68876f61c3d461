/-! ===== what was heard: twos and how they differ ===== -/
def jz_d (f : Nat → Int32) (i : Nat) : Nat := ((f i).toInt - (f (i + 1)).toInt).natAbs
def jz_n (f : Nat → Int32) (zs g : Nat) : Nat → Nat → Nat → Nat
  | 0, _, k => k
  | n + 1, i, k => if i + 1 < zs then jz_n f zs g n (i + 2) (if jz_d f i = g then k + 1 else k) else k
def jz_f (f : Nat → Int32) (zs g : Nat) : Nat → Nat → Nat → Nat
  | 0, _, k => k
  | n + 1, i, k => if i + 1 < zs then jz_f f zs g n (i + 2) (if (f (i + 1)).toInt - (f i).toInt = (g : Int) ∧ 0 < g then k + 1 else k) else k
theorem jz_n_eq {f h : Nat → Int32} {zs g : Nat} (e : ∀ k, k < zs → f k = h k) : ∀ (n i k : Nat), jz_n f zs g n i k = jz_n h zs g n i k
  | 0, i, k => rfl
  | n + 1, i, k => by
    unfold jz_n
    by_cases q : i + 1 < zs
    · rw [if_pos q, if_pos q, show jz_d f i = jz_d h i by unfold jz_d; rw [e i (by omega), e (i + 1) q], jz_n_eq e n]
    · rw [if_neg q, if_neg q]
theorem jz_f_eq {f h : Nat → Int32} {zs g : Nat} (e : ∀ k, k < zs → f k = h k) : ∀ (n i k : Nat), jz_f f zs g n i k = jz_f h zs g n i k
  | 0, i, k => rfl
  | n + 1, i, k => by
    unfold jz_f
    by_cases q : i + 1 < zs
    · rw [if_pos q, if_pos q, e i (by omega), e (i + 1) q, jz_f_eq e n]
    · rw [if_neg q, if_neg q]
theorem jz_n_le {f : Nat → Int32} {zs g : Nat} : ∀ (n i k : Nat), jz_n f zs g n i k ≤ k + n
  | 0, i, k => Nat.le_refl _
  | n + 1, i, k => by
    have h1 := jz_n_le (f := f) (zs := zs) (g := g) n (i + 2) (k + 1)
    have h2 := jz_n_le (f := f) (zs := zs) (g := g) n (i + 2) k
    unfold jz_n
    split
    · split <;> omega
    · omega
theorem jz_f_le {f : Nat → Int32} {zs g : Nat} : ∀ (n i k : Nat), jz_f f zs g n i k ≤ k + n
  | 0, i, k => Nat.le_refl _
  | n + 1, i, k => by
    have h1 := jz_f_le (f := f) (zs := zs) (g := g) n (i + 2) (k + 1)
    have h2 := jz_f_le (f := f) (zs := zs) (g := g) n (i + 2) k
    unfold jz_f
    split
    · split <;> omega
    · omega
/-- the g by which most differ, of several the least -/
def jz_B (c : Nat → Nat) (b : Nat) : Prop := b ≤ 40 ∧ (∀ g, g ≤ 40 → c g ≤ c b) ∧ ∀ g, g < b → c g < c b
theorem jz_B.uniq {c : Nat → Nat} {a b : Nat} (h : jz_B c a) (h' : jz_B c b) : a = b := by
  rcases Nat.lt_trichotomy a b with q | q | q
  · have := h'.2.2 a q; have := h.2.1 b h'.1; omega
  · exact q
  · have := h.2.2 b q; have := h'.2.1 a h.1; omega
theorem jl_eq {x y : Int64} : lg_cmp x y = 0 ↔ x = y := by
  unfold lg_cmp
  rcases lg_tri x y with h | h | h
  · rw [if_neg (lg_lt_not h), if_neg (lg_lt_ne h)]; exact ⟨fun z => absurd z (by decide), fun z => absurd z (lg_lt_ne h)⟩
  · subst h; rw [if_neg Int64.lt_irrefl, if_pos rfl]; exact ⟨fun _ => rfl, fun _ => rfl⟩
  · rw [if_pos h]; exact ⟨fun z => absurd z (by decide), fun z => by subst z; exact absurd h Int64.lt_irrefl⟩
theorem jl_rng (x : Int32) : -2147483648 ≤ x.toInt ∧ x.toInt < 2147483648 := ⟨Int32.le_toInt x, Int32.toInt_lt x⟩
theorem jl_sb (x y : Int32) : (x.toInt64 - y.toInt64).toInt = x.toInt - y.toInt := by
  have h1 := jl_rng x
  have h2 := jl_rng y
  rw [Int64.toInt_sub, jn_l64, jn_l64]
  exact Int.bmod_eq_of_le (by omega) (by omega)
theorem jl_ng {a : Int64} (h : -4294967296 ≤ a.toInt ∧ a.toInt ≤ 4294967296) : (-a).toInt = -a.toInt := by
  rw [Int64.toInt_neg]
  exact Int.bmod_eq_of_le (by omega) (by omega)
theorem jl_g64 {g : Nat} (h : g < 2 ^ 31) : (nI g).toInt64.toInt = (g : Int) := by rw [jn_l64, nI_toInt h]
theorem jz_abs (x y : Int32) {g : Nat} (h : g ≤ 40) : (if 0 < x.toInt64 - y.toInt64 then x.toInt64 - y.toInt64 else -(x.toInt64 - y.toInt64)) = (nI g).toInt64 ↔ (x.toInt - y.toInt).natAbs = g := by
  have h1 := jl_rng x
  have h2 := jl_rng y
  have e := jl_sb x y
  have z0 : (0 : Int64).toInt = 0 := by decide
  by_cases q : 0 < x.toInt64 - y.toInt64
  · rw [if_pos q, ← Int64.toInt_inj, e, jl_g64 (by omega)]
    rw [Int64.lt_iff_toInt_lt, e, z0] at q
    omega
  · rw [if_neg q, ← Int64.toInt_inj, jl_ng (by rw [e]; omega), e, jl_g64 (by omega)]
    rw [Int64.lt_iff_toInt_lt, e, z0] at q
    omega
theorem jz_lt (x y : Int32) {g : Nat} (h : g ≤ 40) : y.toInt64 - x.toInt64 = (nI g).toInt64 ↔ y.toInt - x.toInt = (g : Int) := by
  rw [← Int64.toInt_inj, jl_sb, jl_g64 (by omega)]
theorem jz_p0 (x y : Int32) : 0 < y.toInt64 - x.toInt64 ↔ 0 < y.toInt - x.toInt := by
  rw [Int64.lt_iff_toInt_lt, jl_sb, show (0 : Int64).toInt = 0 by decide]
theorem jz_lN {x y : Int32} (h : ¬ x.toInt < y.toInt) : x.toInt64 - y.toInt64 = lN (x.toInt - y.toInt).natAbs := by
  have h1 := jl_rng x
  have h2 := jl_rng y
  rw [← Int64.toInt_inj, jl_sb, pk_lT (by omega)]
  omega
theorem jz_lNn {x y : Int32} (h : x.toInt < y.toInt) : -(x.toInt64 - y.toInt64) = lN (x.toInt - y.toInt).natAbs := by
  have h1 := jl_rng x
  have h2 := jl_rng y
  rw [← Int64.toInt_inj, jl_ng (by rw [jl_sb]; omega), jl_sb, pk_lT (by omega)]
  omega
theorem jz_neg0 {x y : Int32} : x.toInt64 - y.toInt64 < 0 ↔ x.toInt < y.toInt := by
  rw [Int64.lt_iff_toInt_lt, jl_sb, show (0 : Int64).toInt = 0 by decide]
  omega
theorem jz_41 (m : Nat) (hm : m < 2 ^ 62) : lN m < 41 ↔ m < 41 := pk_lLT (a := m) (b := 41) (by omega) (by decide)
theorem jz_i {m : Nat} (h : m < 41) : (lN m).toInt32 = nI m := by
  have key : ∀ m, m < 41 → (lN m).toInt32 = nI m := by decide +kernel
  exact key m h
theorem jl_ge {x y : Int64} : 0 ≤ lg_cmp x y ↔ ¬ x < y := by
  rw [← jl_lt, Int32.not_lt]
set_option maxRecDepth 100000 in
set_option maxHeartbeats 4000000 in
theorem l_diff_0 {sc : Nat × (Nat → Int32)} {s0 s1 s2 s3 s4 s6 s7 s8 s9 s10 s11 : List va_E} (Is nums Js : Nat → Int32) (Ws : Nat → Nat → Int32) (zs : Nat) (h1s : Is 1 = nI zs) (hzs : zs ≤ 40) (g : Nat) (hg : g ≤ 40) : ∀ (n i k : Nat), zs ≤ i + 2 * n → i ≤ zs + 2 → k ≤ i → jb_J sc RX10 cX10_differing 4 (Option.some .int) false 1 0 0 4 [some (.ref 74), some (.int (nI g)), some (.int (nI k)), some (.int (nI i))] [] [s0, s1, s2, s3, s4, jb_sht74 Is nums Js Ws, s6, s7, s8, s9, s10, s11] (fun r h9 => r = some (.int (nI (jz_n nums zs g n i k))) ∧ [s0, s1, s2, s3, s4, jb_sht74 Is nums Js Ws, s6, s7, s8, s9, s10, s11] = h9) := by
  intro n
  induction n with
  | zero =>
    intro i k hi hi2 hk
    show jb_J _ RX10 cX10_differing 4 (Option.some .int) false 1 0 0 4 [some (.ref 74), some (.int (nI g)), some (.int (nI k)), some (.int (nI i))] [] [s0, s1, s2, s3, s4, jb_sht74 Is nums Js Ws, s6, s7, s8, s9, s10, s11] _
    refine jb_iload_n (pc' := 5) dX10_differing_4 rfl rfl ?_
    refine jb_iconst (pc' := 6) 1 dX10_differing_5 (by decide) rfl ?_
    refine jb_iadd (pc' := 7) dX10_differing_6 rfl ?_
    refine jb_top (v := .int ((nI i) + 1)) (w := .int (nI (i + 1))) (jb_vI (nI_add _ 1)) ?_
    refine jb_aload_n (pc' := 8) dX10_differing_7 rfl rfl ?_
    refine gf_X10_15 (pc' := 11) (v := .int (Is 1)) dX10_differing_8 rfl rfl rfl ?_
    refine jb_top (v := .int (Is 1)) (w := .int (nI zs)) (jb_vI h1s) ?_
    refine jb_icmp_ge (tgt := 49) (pc' := 14) dX10_differing_11 (by decide) rfl (fun _ => ?_) (fun z => absurd (nI_le (a := zs) (b := i + 1) (by omega) (by omega)) z)
    refine jb_iload_n (pc' := 50) dX10_differing_49 rfl rfl ?_
    refine jb_iret dX10_differing_50 rfl ?_
    exact ⟨rfl, rfl⟩
  | succ n ih =>
    intro i k hi hi2 hk
    by_cases hi1 : i + 1 < zs
    · have eG : jz_n nums zs g (n + 1) i k = jz_n nums zs g n (i + 2) (if jz_d nums i = g then k + 1 else k) := if_pos hi1
      by_cases hv : jz_d nums i = g
      · rw [if_pos hv] at eG
        rw [eG]
        show jb_J _ RX10 cX10_differing 4 (Option.some .int) false 1 0 0 4 [some (.ref 74), some (.int (nI g)), some (.int (nI k)), some (.int (nI i))] [] [s0, s1, s2, s3, s4, jb_sht74 Is nums Js Ws, s6, s7, s8, s9, s10, s11] _
        refine jb_iload_n (pc' := 5) dX10_differing_4 rfl rfl ?_
        refine jb_iconst (pc' := 6) 1 dX10_differing_5 (by decide) rfl ?_
        refine jb_iadd (pc' := 7) dX10_differing_6 rfl ?_
        refine jb_top (v := .int ((nI i) + 1)) (w := .int (nI (i + 1))) (jb_vI (nI_add _ 1)) ?_
        refine jb_aload_n (pc' := 8) dX10_differing_7 rfl rfl ?_
        refine gf_X10_15 (pc' := 11) (v := .int (Is 1)) dX10_differing_8 rfl rfl rfl ?_
        refine jb_top (v := .int (Is 1)) (w := .int (nI zs)) (jb_vI h1s) ?_
        refine jb_icmp_ge (tgt := 49) (pc' := 14) dX10_differing_11 (by decide) rfl (fun z => absurd z (nI_ge (a := i + 1) (b := zs) (by omega) (by omega))) (fun _ => ?_)
        refine jb_aload_n (pc' := 15) dX10_differing_14 rfl rfl ?_
        refine gf_X10_18 (pc' := 18) (v := .ref 75) dX10_differing_15 rfl rfl rfl ?_
        refine jb_iload_n (pc' := 19) dX10_differing_18 rfl rfl ?_
        refine jb_iaload (pc' := 20) (i9 := i) (f := nums) dX10_differing_19 rfl (jb_ix_nI (by omega)) (by omega) rfl ?_
        refine jb_i2l (pc' := 21) dX10_differing_20 rfl ?_
        refine jb_aload_n (pc' := 22) dX10_differing_21 rfl rfl ?_
        refine gf_X10_18 (pc' := 25) (v := .ref 75) dX10_differing_22 rfl rfl rfl ?_
        refine jb_iload_n (pc' := 26) dX10_differing_25 rfl rfl ?_
        refine jb_iconst (pc' := 27) 1 dX10_differing_26 (by decide) rfl ?_
        refine jb_iadd (pc' := 28) dX10_differing_27 rfl ?_
        refine jb_top (v := .int ((nI i) + 1)) (w := .int (nI (i + 1))) (jb_vI (nI_add _ 1)) ?_
        refine jb_iaload (pc' := 29) (i9 := (i + 1)) (f := nums) dX10_differing_28 rfl (jb_ix_nI (by omega)) (by omega) rfl ?_
        refine jb_i2l (pc' := 30) dX10_differing_29 rfl ?_
        refine jb_lsub (pc' := 31) dX10_differing_30 rfl ?_
        refine jb_mabsl (pc' := 34) wv_X10_77 dX10_differing_31 (by decide) (Nat.le_of_ble_eq_true rfl) rfl ?_
        refine jb_iload_n (pc' := 35) dX10_differing_34 rfl rfl ?_
        refine jb_i2l (pc' := 36) dX10_differing_35 rfl ?_
        refine jb_lcmp (pc' := 37) dX10_differing_36 rfl ?_
        refine jb_if_ne (tgt := 43) (pc' := 40) dX10_differing_37 (by decide) rfl (fun z => absurd (jl_eq.mpr ((jz_abs _ _ hg).mpr hv)) z) (fun _ => ?_)
        refine jb_iinc_ (pc' := 43) (nI (k + 1)) dX10_differing_40 (by decide) rfl (jb_inc k 1) (jb_at2 rfl) rfl ?_
        refine jb_iinc_ (pc' := 46) (nI (i + 2)) dX10_differing_43 (by decide) rfl (jb_inc i 2) (jb_at3 rfl) rfl ?_
        refine jb_goto (pc' := 4) dX10_differing_46 (by decide) ?_
        exact ih (i + 2) (k + 1) (by omega) (by omega) (by omega)
      · rw [if_neg hv] at eG
        rw [eG]
        show jb_J _ RX10 cX10_differing 4 (Option.some .int) false 1 0 0 4 [some (.ref 74), some (.int (nI g)), some (.int (nI k)), some (.int (nI i))] [] [s0, s1, s2, s3, s4, jb_sht74 Is nums Js Ws, s6, s7, s8, s9, s10, s11] _
        refine jb_iload_n (pc' := 5) dX10_differing_4 rfl rfl ?_
        refine jb_iconst (pc' := 6) 1 dX10_differing_5 (by decide) rfl ?_
        refine jb_iadd (pc' := 7) dX10_differing_6 rfl ?_
        refine jb_top (v := .int ((nI i) + 1)) (w := .int (nI (i + 1))) (jb_vI (nI_add _ 1)) ?_
        refine jb_aload_n (pc' := 8) dX10_differing_7 rfl rfl ?_
        refine gf_X10_15 (pc' := 11) (v := .int (Is 1)) dX10_differing_8 rfl rfl rfl ?_
        refine jb_top (v := .int (Is 1)) (w := .int (nI zs)) (jb_vI h1s) ?_
        refine jb_icmp_ge (tgt := 49) (pc' := 14) dX10_differing_11 (by decide) rfl (fun z => absurd z (nI_ge (a := i + 1) (b := zs) (by omega) (by omega))) (fun _ => ?_)
        refine jb_aload_n (pc' := 15) dX10_differing_14 rfl rfl ?_
        refine gf_X10_18 (pc' := 18) (v := .ref 75) dX10_differing_15 rfl rfl rfl ?_
        refine jb_iload_n (pc' := 19) dX10_differing_18 rfl rfl ?_
        refine jb_iaload (pc' := 20) (i9 := i) (f := nums) dX10_differing_19 rfl (jb_ix_nI (by omega)) (by omega) rfl ?_
        refine jb_i2l (pc' := 21) dX10_differing_20 rfl ?_
        refine jb_aload_n (pc' := 22) dX10_differing_21 rfl rfl ?_
        refine gf_X10_18 (pc' := 25) (v := .ref 75) dX10_differing_22 rfl rfl rfl ?_
        refine jb_iload_n (pc' := 26) dX10_differing_25 rfl rfl ?_
        refine jb_iconst (pc' := 27) 1 dX10_differing_26 (by decide) rfl ?_
        refine jb_iadd (pc' := 28) dX10_differing_27 rfl ?_
        refine jb_top (v := .int ((nI i) + 1)) (w := .int (nI (i + 1))) (jb_vI (nI_add _ 1)) ?_
        refine jb_iaload (pc' := 29) (i9 := (i + 1)) (f := nums) dX10_differing_28 rfl (jb_ix_nI (by omega)) (by omega) rfl ?_
        refine jb_i2l (pc' := 30) dX10_differing_29 rfl ?_
        refine jb_lsub (pc' := 31) dX10_differing_30 rfl ?_
        refine jb_mabsl (pc' := 34) wv_X10_77 dX10_differing_31 (by decide) (Nat.le_of_ble_eq_true rfl) rfl ?_
        refine jb_iload_n (pc' := 35) dX10_differing_34 rfl rfl ?_
        refine jb_i2l (pc' := 36) dX10_differing_35 rfl ?_
        refine jb_lcmp (pc' := 37) dX10_differing_36 rfl ?_
        refine jb_if_ne (tgt := 43) (pc' := 40) dX10_differing_37 (by decide) rfl (fun _ => ?_) (fun z => absurd z (fun z => hv ((jz_abs _ _ hg).mp (jl_eq.mp z))))
        refine jb_iinc_ (pc' := 46) (nI (i + 2)) dX10_differing_43 (by decide) rfl (jb_inc i 2) (jb_at3 rfl) rfl ?_
        refine jb_goto (pc' := 4) dX10_differing_46 (by decide) ?_
        exact ih (i + 2) (k) (by omega) (by omega) (by omega)
    · have eG : jz_n nums zs g (n + 1) i k = k := if_neg hi1
      rw [eG]
      show jb_J _ RX10 cX10_differing 4 (Option.some .int) false 1 0 0 4 [some (.ref 74), some (.int (nI g)), some (.int (nI k)), some (.int (nI i))] [] [s0, s1, s2, s3, s4, jb_sht74 Is nums Js Ws, s6, s7, s8, s9, s10, s11] _
      refine jb_iload_n (pc' := 5) dX10_differing_4 rfl rfl ?_
      refine jb_iconst (pc' := 6) 1 dX10_differing_5 (by decide) rfl ?_
      refine jb_iadd (pc' := 7) dX10_differing_6 rfl ?_
      refine jb_top (v := .int ((nI i) + 1)) (w := .int (nI (i + 1))) (jb_vI (nI_add _ 1)) ?_
      refine jb_aload_n (pc' := 8) dX10_differing_7 rfl rfl ?_
      refine gf_X10_15 (pc' := 11) (v := .int (Is 1)) dX10_differing_8 rfl rfl rfl ?_
      refine jb_top (v := .int (Is 1)) (w := .int (nI zs)) (jb_vI h1s) ?_
      refine jb_icmp_ge (tgt := 49) (pc' := 14) dX10_differing_11 (by decide) rfl (fun _ => ?_) (fun z => absurd (nI_le (a := zs) (b := i + 1) (by omega) (by omega)) z)
      refine jb_iload_n (pc' := 50) dX10_differing_49 rfl rfl ?_
      refine jb_iret dX10_differing_50 rfl ?_
      exact ⟨rfl, rfl⟩
set_option maxRecDepth 100000 in
set_option maxHeartbeats 4000000 in
theorem c_diff_0 {sc : Nat × (Nat → Int32)} {s0 s1 s2 s3 s4 s6 s7 s8 s9 s10 s11 : List va_E} (Is nums Js : Nat → Int32) (Ws : Nat → Nat → Int32) (zs : Nat) (h1s : Is 1 = nI zs) (hzs : zs ≤ 40) (g : Nat) (hg : g ≤ 40) : jb_C sc yX10_differing cX10_differing 4 (Option.some .int) 1 0 0 [.ref 74, .int (nI g)] [s0, s1, s2, s3, s4, jb_sht74 Is nums Js Ws, s6, s7, s8, s9, s10, s11] (fun r h9 => r = some (.int (nI (jz_n nums zs g zs 0 0))) ∧ [s0, s1, s2, s3, s4, jb_sht74 Is nums Js Ws, s6, s7, s8, s9, s10, s11] = h9) := by
  refine jb_CofJ (ini := false) (by decide +kernel) (fun h => by cases h) (Nat.le_of_ble_eq_true rfl) ?_
  show jb_J sc RX10 cX10_differing 4 (Option.some .int) false 1 0 0 0 [some (.ref 74), some (.int (nI g)), none, none] [] [s0, s1, s2, s3, s4, jb_sht74 Is nums Js Ws, s6, s7, s8, s9, s10, s11] _
  refine jb_iconst (pc' := 1) 0 dX10_differing_0 (by decide) rfl ?_
  refine jb_istore_n_ (pc' := 2) dX10_differing_1 (by decide) (jb_at2 rfl) rfl ?_
  refine jb_iconst (pc' := 3) 0 dX10_differing_2 (by decide) rfl ?_
  refine jb_istore_n_ (pc' := 4) dX10_differing_3 (by decide) (jb_at3 rfl) rfl ?_
  exact l_diff_0 Is nums Js Ws zs h1s hzs g hg zs 0 0 (by omega) (by omega) (by omega)
set_option maxRecDepth 100000 in
set_option maxHeartbeats 4000000 in
theorem l_first_0 {sc : Nat × (Nat → Int32)} {s0 s1 s2 s3 s4 s6 s7 s8 s9 s10 s11 : List va_E} (Is nums Js : Nat → Int32) (Ws : Nat → Nat → Int32) (zs : Nat) (h1s : Is 1 = nI zs) (hzs : zs ≤ 40) (g : Nat) (hg : g ≤ 40) : ∀ (n i k : Nat) (x4 x5 : Option Value), zs ≤ i + 2 * n → i ≤ zs + 2 → k ≤ i → jb_J sc RX10 cX10_fromFirstCliff 6 (Option.some .int) false 1 0 0 4 [some (.ref 74), some (.int (nI g)), some (.int (nI k)), some (.int (nI i)), x4, x5] [] [s0, s1, s2, s3, s4, jb_sht74 Is nums Js Ws, s6, s7, s8, s9, s10, s11] (fun r h9 => r = some (.int (nI (jz_f nums zs g n i k))) ∧ [s0, s1, s2, s3, s4, jb_sht74 Is nums Js Ws, s6, s7, s8, s9, s10, s11] = h9) := by
  intro n
  induction n with
  | zero =>
    intro i k x4 x5 hi hi2 hk
    show jb_J _ RX10 cX10_fromFirstCliff 6 (Option.some .int) false 1 0 0 4 [some (.ref 74), some (.int (nI g)), some (.int (nI k)), some (.int (nI i)), x4, x5] [] [s0, s1, s2, s3, s4, jb_sht74 Is nums Js Ws, s6, s7, s8, s9, s10, s11] _
    refine jb_iload_n (pc' := 5) dX10_fromFirstCliff_4 rfl rfl ?_
    refine jb_iconst (pc' := 6) 1 dX10_fromFirstCliff_5 (by decide) rfl ?_
    refine jb_iadd (pc' := 7) dX10_fromFirstCliff_6 rfl ?_
    refine jb_top (v := .int ((nI i) + 1)) (w := .int (nI (i + 1))) (jb_vI (nI_add _ 1)) ?_
    refine jb_aload_n (pc' := 8) dX10_fromFirstCliff_7 rfl rfl ?_
    refine gf_X10_15 (pc' := 11) (v := .int (Is 1)) dX10_fromFirstCliff_8 rfl rfl rfl ?_
    refine jb_top (v := .int (Is 1)) (w := .int (nI zs)) (jb_vI h1s) ?_
    refine jb_icmp_ge (tgt := 57) (pc' := 14) dX10_fromFirstCliff_11 (by decide) rfl (fun _ => ?_) (fun z => absurd (nI_le (a := zs) (b := i + 1) (by omega) (by omega)) z)
    refine jb_iload_n (pc' := 58) dX10_fromFirstCliff_57 rfl rfl ?_
    refine jb_iret dX10_fromFirstCliff_58 rfl ?_
    exact ⟨rfl, rfl⟩
  | succ n ih =>
    intro i k x4 x5 hi hi2 hk
    by_cases hi1 : i + 1 < zs
    · have eG : jz_f nums zs g (n + 1) i k = jz_f nums zs g n (i + 2) (if (nums (i + 1)).toInt - (nums i).toInt = (g : Int) ∧ 0 < g then k + 1 else k) := if_pos hi1
      by_cases hv : (nums (i + 1)).toInt - (nums i).toInt = (g : Int) ∧ 0 < g
      · rw [if_pos hv] at eG
        rw [eG]
        show jb_J _ RX10 cX10_fromFirstCliff 6 (Option.some .int) false 1 0 0 4 [some (.ref 74), some (.int (nI g)), some (.int (nI k)), some (.int (nI i)), x4, x5] [] [s0, s1, s2, s3, s4, jb_sht74 Is nums Js Ws, s6, s7, s8, s9, s10, s11] _
        refine jb_iload_n (pc' := 5) dX10_fromFirstCliff_4 rfl rfl ?_
        refine jb_iconst (pc' := 6) 1 dX10_fromFirstCliff_5 (by decide) rfl ?_
        refine jb_iadd (pc' := 7) dX10_fromFirstCliff_6 rfl ?_
        refine jb_top (v := .int ((nI i) + 1)) (w := .int (nI (i + 1))) (jb_vI (nI_add _ 1)) ?_
        refine jb_aload_n (pc' := 8) dX10_fromFirstCliff_7 rfl rfl ?_
        refine gf_X10_15 (pc' := 11) (v := .int (Is 1)) dX10_fromFirstCliff_8 rfl rfl rfl ?_
        refine jb_top (v := .int (Is 1)) (w := .int (nI zs)) (jb_vI h1s) ?_
        refine jb_icmp_ge (tgt := 57) (pc' := 14) dX10_fromFirstCliff_11 (by decide) rfl (fun z => absurd z (nI_ge (a := i + 1) (b := zs) (by omega) (by omega))) (fun _ => ?_)
        refine jb_aload_n (pc' := 15) dX10_fromFirstCliff_14 rfl rfl ?_
        refine gf_X10_18 (pc' := 18) (v := .ref 75) dX10_fromFirstCliff_15 rfl rfl rfl ?_
        refine jb_iload_n (pc' := 19) dX10_fromFirstCliff_18 rfl rfl ?_
        refine jb_iconst (pc' := 20) 1 dX10_fromFirstCliff_19 (by decide) rfl ?_
        refine jb_iadd (pc' := 21) dX10_fromFirstCliff_20 rfl ?_
        refine jb_top (v := .int ((nI i) + 1)) (w := .int (nI (i + 1))) (jb_vI (nI_add _ 1)) ?_
        refine jb_iaload (pc' := 22) (i9 := (i + 1)) (f := nums) dX10_fromFirstCliff_21 rfl (jb_ix_nI (by omega)) (by omega) rfl ?_
        refine jb_i2l (pc' := 23) dX10_fromFirstCliff_22 rfl ?_
        refine jb_aload_n (pc' := 24) dX10_fromFirstCliff_23 rfl rfl ?_
        refine gf_X10_18 (pc' := 27) (v := .ref 75) dX10_fromFirstCliff_24 rfl rfl rfl ?_
        refine jb_iload_n (pc' := 28) dX10_fromFirstCliff_27 rfl rfl ?_
        refine jb_iaload (pc' := 29) (i9 := i) (f := nums) dX10_fromFirstCliff_28 rfl (jb_ix_nI (by omega)) (by omega) rfl ?_
        refine jb_i2l (pc' := 30) dX10_fromFirstCliff_29 rfl ?_
        refine jb_lsub (pc' := 31) dX10_fromFirstCliff_30 rfl ?_
        refine jb_lstore_ (pc' := 33) dX10_fromFirstCliff_31 (by decide) (jb_lt4 rfl) rfl ?_
        refine jb_lload (pc' := 35) dX10_fromFirstCliff_33 rfl rfl ?_
        refine jb_lconst (pc' := 36) 0 dX10_fromFirstCliff_35 (by decide) rfl ?_
        refine jb_lcmp (pc' := 37) dX10_fromFirstCliff_36 rfl ?_
        refine jb_if_le (tgt := 51) (pc' := 40) dX10_fromFirstCliff_37 (by decide) rfl (fun z => absurd z (Int32.not_le.mpr (jl_gt.mpr ((jz_p0 _ _).mpr (by omega))))) (fun _ => ?_)
        refine jb_lload (pc' := 42) dX10_fromFirstCliff_40 rfl rfl ?_
        refine jb_iload_n (pc' := 43) dX10_fromFirstCliff_42 rfl rfl ?_
        refine jb_i2l (pc' := 44) dX10_fromFirstCliff_43 rfl ?_
        refine jb_lcmp (pc' := 45) dX10_fromFirstCliff_44 rfl ?_
        refine jb_if_ne (tgt := 51) (pc' := 48) dX10_fromFirstCliff_45 (by decide) rfl (fun z => absurd (jl_eq.mpr ((jz_lt _ _ hg).mpr hv.1)) z) (fun _ => ?_)
        refine jb_iinc_ (pc' := 51) (nI (k + 1)) dX10_fromFirstCliff_48 (by decide) rfl (jb_inc k 1) (jb_at2 rfl) rfl ?_
        refine jb_iinc_ (pc' := 54) (nI (i + 2)) dX10_fromFirstCliff_51 (by decide) rfl (jb_inc i 2) (jb_at3 rfl) rfl ?_
        refine jb_goto (pc' := 4) dX10_fromFirstCliff_54 (by decide) ?_
        exact ih (i + 2) (k + 1) _ _ (by omega) (by omega) (by omega)
      · rw [if_neg hv] at eG
        rw [eG]
        show jb_J _ RX10 cX10_fromFirstCliff 6 (Option.some .int) false 1 0 0 4 [some (.ref 74), some (.int (nI g)), some (.int (nI k)), some (.int (nI i)), x4, x5] [] [s0, s1, s2, s3, s4, jb_sht74 Is nums Js Ws, s6, s7, s8, s9, s10, s11] _
        refine jb_iload_n (pc' := 5) dX10_fromFirstCliff_4 rfl rfl ?_
        refine jb_iconst (pc' := 6) 1 dX10_fromFirstCliff_5 (by decide) rfl ?_
        refine jb_iadd (pc' := 7) dX10_fromFirstCliff_6 rfl ?_
        refine jb_top (v := .int ((nI i) + 1)) (w := .int (nI (i + 1))) (jb_vI (nI_add _ 1)) ?_
        refine jb_aload_n (pc' := 8) dX10_fromFirstCliff_7 rfl rfl ?_
        refine gf_X10_15 (pc' := 11) (v := .int (Is 1)) dX10_fromFirstCliff_8 rfl rfl rfl ?_
        refine jb_top (v := .int (Is 1)) (w := .int (nI zs)) (jb_vI h1s) ?_
        refine jb_icmp_ge (tgt := 57) (pc' := 14) dX10_fromFirstCliff_11 (by decide) rfl (fun z => absurd z (nI_ge (a := i + 1) (b := zs) (by omega) (by omega))) (fun _ => ?_)
        refine jb_aload_n (pc' := 15) dX10_fromFirstCliff_14 rfl rfl ?_
        refine gf_X10_18 (pc' := 18) (v := .ref 75) dX10_fromFirstCliff_15 rfl rfl rfl ?_
        refine jb_iload_n (pc' := 19) dX10_fromFirstCliff_18 rfl rfl ?_
        refine jb_iconst (pc' := 20) 1 dX10_fromFirstCliff_19 (by decide) rfl ?_
        refine jb_iadd (pc' := 21) dX10_fromFirstCliff_20 rfl ?_
        refine jb_top (v := .int ((nI i) + 1)) (w := .int (nI (i + 1))) (jb_vI (nI_add _ 1)) ?_
        refine jb_iaload (pc' := 22) (i9 := (i + 1)) (f := nums) dX10_fromFirstCliff_21 rfl (jb_ix_nI (by omega)) (by omega) rfl ?_
        refine jb_i2l (pc' := 23) dX10_fromFirstCliff_22 rfl ?_
        refine jb_aload_n (pc' := 24) dX10_fromFirstCliff_23 rfl rfl ?_
        refine gf_X10_18 (pc' := 27) (v := .ref 75) dX10_fromFirstCliff_24 rfl rfl rfl ?_
        refine jb_iload_n (pc' := 28) dX10_fromFirstCliff_27 rfl rfl ?_
        refine jb_iaload (pc' := 29) (i9 := i) (f := nums) dX10_fromFirstCliff_28 rfl (jb_ix_nI (by omega)) (by omega) rfl ?_
        refine jb_i2l (pc' := 30) dX10_fromFirstCliff_29 rfl ?_
        refine jb_lsub (pc' := 31) dX10_fromFirstCliff_30 rfl ?_
        refine jb_lstore_ (pc' := 33) dX10_fromFirstCliff_31 (by decide) (jb_lt4 rfl) rfl ?_
        refine jb_lload (pc' := 35) dX10_fromFirstCliff_33 rfl rfl ?_
        refine jb_lconst (pc' := 36) 0 dX10_fromFirstCliff_35 (by decide) rfl ?_
        refine jb_lcmp (pc' := 37) dX10_fromFirstCliff_36 rfl ?_
        refine jb_if_le (tgt := 51) (pc' := 40) dX10_fromFirstCliff_37 (by decide) rfl (fun q37 => ?_) (fun q37 => ?_)
        · refine jb_iinc_ (pc' := 54) (nI (i + 2)) dX10_fromFirstCliff_51 (by decide) rfl (jb_inc i 2) (jb_at3 rfl) rfl ?_
          refine jb_goto (pc' := 4) dX10_fromFirstCliff_54 (by decide) ?_
          exact ih (i + 2) (k) _ _ (by omega) (by omega) (by omega)
        · refine jb_lload (pc' := 42) dX10_fromFirstCliff_40 rfl rfl ?_
          refine jb_iload_n (pc' := 43) dX10_fromFirstCliff_42 rfl rfl ?_
          refine jb_i2l (pc' := 44) dX10_fromFirstCliff_43 rfl ?_
          refine jb_lcmp (pc' := 45) dX10_fromFirstCliff_44 rfl ?_
          refine jb_if_ne (tgt := 51) (pc' := 48) dX10_fromFirstCliff_45 (by decide) rfl (fun _ => ?_) (fun z => absurd z (fun z => hv ⟨(jz_lt _ _ hg).mp (jl_eq.mp z), by have z1 := (jz_p0 _ _).mp (jl_gt.mp (Int32.not_le.mp q37)); have z2 := (jz_lt _ _ hg).mp (jl_eq.mp z); omega⟩))
          refine jb_iinc_ (pc' := 54) (nI (i + 2)) dX10_fromFirstCliff_51 (by decide) rfl (jb_inc i 2) (jb_at3 rfl) rfl ?_
          refine jb_goto (pc' := 4) dX10_fromFirstCliff_54 (by decide) ?_
          exact ih (i + 2) (k) _ _ (by omega) (by omega) (by omega)
    · have eG : jz_f nums zs g (n + 1) i k = k := if_neg hi1
      rw [eG]
      show jb_J _ RX10 cX10_fromFirstCliff 6 (Option.some .int) false 1 0 0 4 [some (.ref 74), some (.int (nI g)), some (.int (nI k)), some (.int (nI i)), x4, x5] [] [s0, s1, s2, s3, s4, jb_sht74 Is nums Js Ws, s6, s7, s8, s9, s10, s11] _
      refine jb_iload_n (pc' := 5) dX10_fromFirstCliff_4 rfl rfl ?_
      refine jb_iconst (pc' := 6) 1 dX10_fromFirstCliff_5 (by decide) rfl ?_
      refine jb_iadd (pc' := 7) dX10_fromFirstCliff_6 rfl ?_
      refine jb_top (v := .int ((nI i) + 1)) (w := .int (nI (i + 1))) (jb_vI (nI_add _ 1)) ?_
      refine jb_aload_n (pc' := 8) dX10_fromFirstCliff_7 rfl rfl ?_
      refine gf_X10_15 (pc' := 11) (v := .int (Is 1)) dX10_fromFirstCliff_8 rfl rfl rfl ?_
      refine jb_top (v := .int (Is 1)) (w := .int (nI zs)) (jb_vI h1s) ?_
      refine jb_icmp_ge (tgt := 57) (pc' := 14) dX10_fromFirstCliff_11 (by decide) rfl (fun _ => ?_) (fun z => absurd (nI_le (a := zs) (b := i + 1) (by omega) (by omega)) z)
      refine jb_iload_n (pc' := 58) dX10_fromFirstCliff_57 rfl rfl ?_
      refine jb_iret dX10_fromFirstCliff_58 rfl ?_
      exact ⟨rfl, rfl⟩
set_option maxRecDepth 100000 in
set_option maxHeartbeats 4000000 in
theorem c_first_0 {sc : Nat × (Nat → Int32)} {s0 s1 s2 s3 s4 s6 s7 s8 s9 s10 s11 : List va_E} (Is nums Js : Nat → Int32) (Ws : Nat → Nat → Int32) (zs : Nat) (h1s : Is 1 = nI zs) (hzs : zs ≤ 40) (g : Nat) (hg : g ≤ 40) : jb_C sc yX10_fromFirstCliff cX10_fromFirstCliff 6 (Option.some .int) 1 0 0 [.ref 74, .int (nI g)] [s0, s1, s2, s3, s4, jb_sht74 Is nums Js Ws, s6, s7, s8, s9, s10, s11] (fun r h9 => r = some (.int (nI (jz_f nums zs g zs 0 0))) ∧ [s0, s1, s2, s3, s4, jb_sht74 Is nums Js Ws, s6, s7, s8, s9, s10, s11] = h9) := by
  refine jb_CofJ (ini := false) (by decide +kernel) (fun h => by cases h) (Nat.le_of_ble_eq_true rfl) ?_
  show jb_J sc RX10 cX10_fromFirstCliff 6 (Option.some .int) false 1 0 0 0 [some (.ref 74), some (.int (nI g)), none, none, none, none] [] [s0, s1, s2, s3, s4, jb_sht74 Is nums Js Ws, s6, s7, s8, s9, s10, s11] _
  refine jb_iconst (pc' := 1) 0 dX10_fromFirstCliff_0 (by decide) rfl ?_
  refine jb_istore_n_ (pc' := 2) dX10_fromFirstCliff_1 (by decide) (jb_at2 rfl) rfl ?_
  refine jb_iconst (pc' := 3) 0 dX10_fromFirstCliff_2 (by decide) rfl ?_
  refine jb_istore_n_ (pc' := 4) dX10_fromFirstCliff_3 (by decide) (jb_at3 rfl) rfl ?_
  exact l_first_0 Is nums Js Ws zs h1s hzs g hg zs 0 0 _ _ (by omega) (by omega) (by omega)
set_option maxRecDepth 100000 in
set_option maxHeartbeats 4000000 in
theorem l_best_0 {sc : Nat × (Nat → Int32)} {s0 s1 s2 s3 s4 s6 s7 s8 s9 s10 s11 : List va_E} (Is nums Js : Nat → Int32) (Ws : Nat → Nat → Int32) (zs : Nat) (h1s : Is 1 = nI zs) (hzs : zs ≤ 40) : ∀ (n g b m : Nat) (x4 : Option Value), g + n = 41 → b ≤ 40 → m ≤ 40 → (∀ h, h < g → (fun g => jz_n nums zs g zs 0 0) h ≤ m) → m ≤ (fun g => jz_n nums zs g zs 0 0) b → (∀ h, h < b → (fun g => jz_n nums zs g zs 0 0) h < m) → jb_J sc RX10 cX10_bestDifference 5 (Option.some .int) false 2 0 0 6 [some (.ref 74), some (.int (nI b)), some (.int (nI m)), some (.int (nI g)), x4] [] [s0, s1, s2, s3, s4, jb_sht74 Is nums Js Ws, s6, s7, s8, s9, s10, s11] (fun r h9 => ∃ b, jz_B (fun g => jz_n nums zs g zs 0 0) b ∧ r = some (.int (nI b)) ∧ [s0, s1, s2, s3, s4, jb_sht74 Is nums Js Ws, s6, s7, s8, s9, s10, s11] = h9) := by
  intro n
  induction n with
  | zero =>
    intro g b m x4 hg h1 h2 h3 h4 h5
    show jb_J _ RX10 cX10_bestDifference 5 (Option.some .int) false 2 0 0 6 [some (.ref 74), some (.int (nI b)), some (.int (nI m)), some (.int (nI g)), x4] [] [s0, s1, s2, s3, s4, jb_sht74 Is nums Js Ws, s6, s7, s8, s9, s10, s11] _
    refine jb_iload_n (pc' := 7) dX10_bestDifference_6 rfl rfl ?_
    refine jb_bipush (pc' := 9) 40 dX10_bestDifference_7 (by decide) rfl ?_
    refine jb_icmp_gt (tgt := 36) (pc' := 12) dX10_bestDifference_9 (by decide) rfl (fun _ => ?_) (fun z => absurd (nI_lt (a := 40) (b := g) (by omega) (by omega)) z)
    refine jb_iload_n (pc' := 37) dX10_bestDifference_36 rfl rfl ?_
    refine jb_iret dX10_bestDifference_37 rfl ?_
    exact ⟨b, ⟨h1, fun h hh => Nat.le_trans (h3 h (by omega)) h4, fun h hh => Nat.lt_of_lt_of_le (h5 h hh) h4⟩, rfl, rfl⟩
  | succ n ih =>
    intro g b m x4 hg h1 h2 h3 h4 h5
    have c40 := jz_n_le (f := nums) (zs := zs) (g := g) zs 0 0
    show jb_J _ RX10 cX10_bestDifference 5 (Option.some .int) false 2 0 0 6 [some (.ref 74), some (.int (nI b)), some (.int (nI m)), some (.int (nI g)), x4] [] [s0, s1, s2, s3, s4, jb_sht74 Is nums Js Ws, s6, s7, s8, s9, s10, s11] _
    refine jb_iload_n (pc' := 7) dX10_bestDifference_6 rfl rfl ?_
    refine jb_bipush (pc' := 9) 40 dX10_bestDifference_7 (by decide) rfl ?_
    refine jb_icmp_gt (tgt := 36) (pc' := 12) dX10_bestDifference_9 (by decide) rfl (fun z => absurd z (nI_nlt (a := 40) (b := g) (by omega) (by omega))) (fun _ => ?_)
    refine jb_aload_n (pc' := 13) dX10_bestDifference_12 rfl rfl ?_
    refine jb_iload_n (pc' := 14) dX10_bestDifference_13 rfl rfl ?_
    refine jb_callV (pc' := 17) (ci := 10) (q := 74) (As := [.int (nI g)]) (a2 := 0) (b2 := 0) wv_X10_73 rfl dX10_bestDifference_14 (c_diff_0 Is nums Js Ws zs h1s hzs g (by omega)) rfl rfl ⟨by decide, Nat.le_of_eq (Nat.zero_add _), Nat.le_of_eq (Nat.zero_add _)⟩ (Nat.le_of_ble_eq_true rfl) rfl (fun r h9 hq => ?_)
    obtain ⟨rfl, rfl⟩ := hq
    show jb_J _ RX10 cX10_bestDifference 5 (Option.some .int) false 2 0 0 17 [some (.ref 74), some (.int (nI b)), some (.int (nI m)), some (.int (nI g)), x4] [.int (nI (jz_n nums zs g zs 0 0))] [s0, s1, s2, s3, s4, jb_sht74 Is nums Js Ws, s6, s7, s8, s9, s10, s11] _
    refine jb_istore_ (pc' := 19) dX10_bestDifference_17 (by decide) (jb_at4 rfl) rfl ?_
    refine jb_iload (pc' := 21) dX10_bestDifference_19 rfl rfl ?_
    refine jb_iload_n (pc' := 22) dX10_bestDifference_21 rfl rfl ?_
    refine jb_icmp_le (tgt := 30) (pc' := 25) dX10_bestDifference_22 (by decide) rfl (fun c2 => ?_) (fun c2 => ?_)
    · have c2 : (jz_n nums zs g zs 0 0) ≤ m := (nI_leI (a := (jz_n nums zs g zs 0 0)) (b := m) (by omega) (by omega)).mp c2
      refine jb_iinc_ (pc' := 33) (nI (g + 1)) dX10_bestDifference_30 (by decide) rfl (jb_inc g 1) (jb_at3 rfl) rfl ?_
      refine jb_goto (pc' := 6) dX10_bestDifference_33 (by decide) ?_
      exact ih (g + 1) b m _ (by omega) h1 h2 (fun h hh => by by_cases e : h = g; (· rw [e]; show jz_n nums zs g zs 0 0 ≤ m; omega); (· exact h3 h (by omega))) h4 h5
    · have c2 : ¬ (jz_n nums zs g zs 0 0) ≤ m := fun z9 => c2 ((nI_leI (a := (jz_n nums zs g zs 0 0)) (b := m) (by omega) (by omega)).mpr z9)
      refine jb_iload (pc' := 27) dX10_bestDifference_25 rfl rfl ?_
      refine jb_istore_n_ (pc' := 28) dX10_bestDifference_27 (by decide) (jb_at2 rfl) rfl ?_
      refine jb_iload_n (pc' := 29) dX10_bestDifference_28 rfl rfl ?_
      refine jb_istore_n_ (pc' := 30) dX10_bestDifference_29 (by decide) (jb_at1 rfl) rfl ?_
      refine jb_iinc_ (pc' := 33) (nI (g + 1)) dX10_bestDifference_30 (by decide) rfl (jb_inc g 1) (jb_at3 rfl) rfl ?_
      refine jb_goto (pc' := 6) dX10_bestDifference_33 (by decide) ?_
      exact ih (g + 1) g (jz_n nums zs g zs 0 0) _ (by omega) (by omega) (by omega) (fun h hh => by by_cases e : h = g; (· rw [e]; exact Nat.le_refl _); (· exact Nat.le_of_lt (Nat.lt_of_le_of_lt (h3 h (by omega)) (by omega)))) (Nat.le_refl _) (fun h hh => Nat.lt_of_le_of_lt (h3 h hh) (by omega))
set_option maxRecDepth 100000 in
set_option maxHeartbeats 4000000 in
theorem c_best_0 {sc : Nat × (Nat → Int32)} {s0 s1 s2 s3 s4 s6 s7 s8 s9 s10 s11 : List va_E} (Is nums Js : Nat → Int32) (Ws : Nat → Nat → Int32) (zs : Nat) (h1s : Is 1 = nI zs) (hzs : zs ≤ 40) : jb_C sc yX10_bestDifference cX10_bestDifference 5 (Option.some .int) 2 0 0 [.ref 74] [s0, s1, s2, s3, s4, jb_sht74 Is nums Js Ws, s6, s7, s8, s9, s10, s11] (fun r h9 => ∃ b, jz_B (fun g => jz_n nums zs g zs 0 0) b ∧ r = some (.int (nI b)) ∧ [s0, s1, s2, s3, s4, jb_sht74 Is nums Js Ws, s6, s7, s8, s9, s10, s11] = h9) := by
  refine jb_CofJ (ini := false) (by decide +kernel) (fun h => by cases h) (Nat.le_of_ble_eq_true rfl) ?_
  show jb_J sc RX10 cX10_bestDifference 5 (Option.some .int) false 2 0 0 0 [some (.ref 74), none, none, none, none] [] [s0, s1, s2, s3, s4, jb_sht74 Is nums Js Ws, s6, s7, s8, s9, s10, s11] _
  refine jb_iconst (pc' := 1) 0 dX10_bestDifference_0 (by decide) rfl ?_
  refine jb_istore_n_ (pc' := 2) dX10_bestDifference_1 (by decide) (jb_at1 rfl) rfl ?_
  refine jb_iconst (pc' := 3) 0 dX10_bestDifference_2 (by decide) rfl ?_
  refine jb_istore_n_ (pc' := 4) dX10_bestDifference_3 (by decide) (jb_at2 rfl) rfl ?_
  refine jb_iconst (pc' := 5) 0 dX10_bestDifference_4 (by decide) rfl ?_
  refine jb_istore_n_ (pc' := 6) dX10_bestDifference_5 (by decide) (jb_at3 rfl) rfl ?_
  exact l_best_0 Is nums Js Ws zs h1s hzs 41 0 0 0 _ (by omega) (by omega) (by omega) (fun h hh => absurd hh (by omega)) (Nat.zero_le _) (fun h hh => absurd hh (by omega))
set_option maxRecDepth 100000 in
set_option maxHeartbeats 4000000 in
theorem kx_heard0_0 {sc : Nat × (Nat → Int32)} {s1 s2 s3 s6 s7 s8 s9 s10 s11 : List va_E} (imm : Int32) (Im rowm stkm tpm : Nat → Int32) (Tm : Nat → Value) (Is nums Js : Nat → Int32) (Ws : Nat → Nat → Int32) {bs zs : Nat} (h0s : Is 0 = nI bs) (h1s : Is 1 = nI zs) (hbs : bs ≤ 32) (hzs : zs ≤ 40) (hm : ¬ bs = 0) (h2 : 2 ≤ zs) : jb_C sc yX11_heard cX11_heard 5 (Option.some .int) 3 0 0 [.ref 0, .int 0, .int 0] [jb_main imm Im Tm rowm stkm tpm, s1, s2, s3, jb_shs, jb_sht74 Is nums Js Ws, s6, s7, s8, s9, s10, s11] (fun r h9 => ∃ b9, jz_B (fun g => jz_n nums zs g zs 0 0) b9 ∧ r = some (.int (nI b9)) ∧ [jb_main imm Im Tm rowm stkm tpm, s1, s2, s3, jb_shs, jb_sht74 Is nums Js Ws, s6, s7, s8, s9, s10, s11] = h9) := by
  refine jb_CofJ (ini := false) (by decide +kernel) (fun h => by cases h) (Nat.le_of_ble_eq_true rfl) ?_
  show jb_J sc RX11 cX11_heard 5 (Option.some .int) false 3 0 0 0 [some (.ref 0), some (.int 0), some (.int 0), none, none] [] [jb_main imm Im Tm rowm stkm tpm, s1, s2, s3, jb_shs, jb_sht74 Is nums Js Ws, s6, s7, s8, s9, s10, s11] _
  refine jb_aload_n (pc' := 1) dX11_heard_0 rfl rfl ?_
  refine jb_iload_n (pc' := 2) dX11_heard_1 rfl rfl ?_
  refine jb_callV (pc' := 5) (ci := 11) (q := 0) (As := [.int 0]) (a2 := 0) (b2 := 0) wv_X11_165 rfl dX11_heard_2 (c_isNoSheetG _ 0 (by omega)) rfl rfl ⟨by decide, Nat.le_of_eq (Nat.zero_add _), Nat.le_of_eq (Nat.zero_add _)⟩ (Nat.le_of_ble_eq_true rfl) rfl (fun r h9 hq => ?_)
  obtain ⟨rfl, rfl⟩ := hq
  show jb_J _ RX11 cX11_heard 5 (Option.some .int) false 3 0 0 5 [some (.ref 0), some (.int 0), some (.int 0), none, none] [.int 0] [jb_main imm Im Tm rowm stkm tpm, s1, s2, s3, jb_shs, jb_sht74 Is nums Js Ws, s6, s7, s8, s9, s10, s11] _
  refine jb_if_ne (tgt := 17) (pc' := 8) dX11_heard_5 (by decide) rfl (fun z => absurd (by decide) z) (fun _ => ?_)
  refine jb_iload_n (pc' := 9) dX11_heard_8 rfl rfl ?_
  refine jb_iconst (pc' := 10) 0 dX11_heard_9 (by decide) rfl ?_
  refine jb_iconst (pc' := 11) 2 dX11_heard_10 (by decide) rfl ?_
  refine jb_callS (pc' := 14) (As := [.int 0, .int 0, .int 2]) (a2 := 0) (b2 := 0) wv_X11_74 dX11_heard_11 (c_isOutLG 0 0 2 (by omega) (by omega) (by omega)) rfl ⟨by decide, Nat.le_of_eq (Nat.zero_add _), Nat.le_of_eq (Nat.zero_add _)⟩ (Nat.le_of_ble_eq_true rfl) rfl (fun r h9 hq => ?_)
  obtain ⟨rfl, rfl⟩ := hq
  show jb_J _ RX11 cX11_heard 5 (Option.some .int) false 3 0 0 14 [some (.ref 0), some (.int 0), some (.int 0), none, none] [.int 0] [jb_main imm Im Tm rowm stkm tpm, s1, s2, s3, jb_shs, jb_sht74 Is nums Js Ws, s6, s7, s8, s9, s10, s11] _
  refine jb_if_eq (tgt := 23) (pc' := 17) dX11_heard_14 (by decide) rfl (fun _ => ?_) (fun z => absurd (by decide) z)
  refine jb_aload_n (pc' := 24) dX11_heard_23 rfl rfl ?_
  refine gf_X11_54 (pc' := 27) (v := .ref 73) dX11_heard_24 rfl rfl rfl ?_
  refine jb_iload_n (pc' := 28) dX11_heard_27 rfl rfl ?_
  refine jb_aaload (pc' := 29) (i9 := 0) (r := 74) (Or.inr (Or.inr rfl)) dX11_heard_28 rfl jb_x0 (by decide) rfl rfl ?_
  refine jb_astore_n_ (pc' := 30) dX11_heard_29 (by decide) (jb_at3 rfl) rfl ?_
  refine jb_aload_n (pc' := 31) dX11_heard_30 rfl rfl ?_
  refine jb_callV (pc' := 34) (ci := 10) (q := 74) (As := []) (a2 := 0) (b2 := 0) wv_X11_168 rfl dX11_heard_31 (c_isMissing_0 Is nums Js Ws h0s h1s hbs hzs) rfl rfl ⟨by decide, Nat.le_of_eq (Nat.zero_add _), Nat.le_of_eq (Nat.zero_add _)⟩ (Nat.le_of_ble_eq_true rfl) rfl (fun r h9 hq => ?_)
  rcases hq with ⟨rfl, ⟨hms, rfl⟩ | ⟨hms, rfl⟩⟩
  · exact absurd hms hm
  · show jb_J _ RX11 cX11_heard 5 (Option.some .int) false 3 0 0 34 [some (.ref 0), some (.int 0), some (.int 0), some (.ref 74), none] [.int 0] [jb_main imm Im Tm rowm stkm tpm, s1, s2, s3, jb_shs, jb_sht74 Is nums Js Ws, s6, s7, s8, s9, s10, s11] _
    refine jb_if_ne (tgt := 45) (pc' := 37) dX11_heard_34 (by decide) rfl (fun z => absurd (by decide) z) (fun _ => ?_)
    refine jb_aload_n (pc' := 38) dX11_heard_37 rfl rfl ?_
    refine gf_X11_184 (pc' := 41) (v := .int (Is 1)) dX11_heard_38 rfl rfl rfl ?_
    refine jb_top (v := .int (Is 1)) (w := .int (nI zs)) (jb_vI h1s) ?_
    refine jb_iconst (pc' := 42) 2 dX11_heard_41 (by decide) rfl ?_
    refine jb_icmp_ge (tgt := 51) (pc' := 45) dX11_heard_42 (by decide) rfl (fun _ => ?_) (fun z => absurd (nI_le (a := 2) (b := zs) (by omega) (by omega)) z)
    refine jb_aload_n (pc' := 52) dX11_heard_51 rfl rfl ?_
    refine jb_callV (pc' := 55) (ci := 10) (q := 74) (As := []) (a2 := 0) (b2 := 0) wv_X11_187 rfl dX11_heard_52 (c_best_0 Is nums Js Ws zs h1s hzs) rfl rfl ⟨by decide, Nat.le_of_eq (Nat.zero_add _), Nat.le_of_eq (Nat.zero_add _)⟩ (Nat.le_of_ble_eq_true rfl) rfl (fun r h9 hq => ?_)
    obtain ⟨b9, hB, rfl, rfl⟩ := hq
    show jb_J _ RX11 cX11_heard 5 (Option.some .int) false 3 0 0 55 [some (.ref 0), some (.int 0), some (.int 0), some (.ref 74), none] [.int (nI b9)] [jb_main imm Im Tm rowm stkm tpm, s1, s2, s3, jb_shs, jb_sht74 Is nums Js Ws, s6, s7, s8, s9, s10, s11] _
    refine jb_istore_ (pc' := 57) dX11_heard_55 (by decide) (jb_at4 rfl) rfl ?_
    refine jb_iload_n (pc' := 58) dX11_heard_57 rfl rfl ?_
    refine jb_if_ne (tgt := 64) (pc' := 61) dX11_heard_58 (by decide) rfl (fun z => absurd (by decide) z) (fun _ => ?_)
    refine jb_iload (pc' := 63) dX11_heard_61 rfl rfl ?_
    refine jb_iret dX11_heard_63 rfl ?_
    exact ⟨b9, hB, rfl, rfl⟩
set_option maxRecDepth 100000 in
set_option maxHeartbeats 4000000 in
theorem kx_heard1_0 {sc : Nat × (Nat → Int32)} {s1 s2 s3 s6 s7 s8 s9 s10 s11 : List va_E} (imm : Int32) (Im rowm stkm tpm : Nat → Int32) (Tm : Nat → Value) (Is nums Js : Nat → Int32) (Ws : Nat → Nat → Int32) {bs zs : Nat} (h0s : Is 0 = nI bs) (h1s : Is 1 = nI zs) (hbs : bs ≤ 32) (hzs : zs ≤ 40) (hm : ¬ bs = 0) (h2 : 2 ≤ zs) : jb_C sc yX11_heard cX11_heard 5 (Option.some .int) 3 0 0 [.ref 0, .int 0, .int 1] [jb_main imm Im Tm rowm stkm tpm, s1, s2, s3, jb_shs, jb_sht74 Is nums Js Ws, s6, s7, s8, s9, s10, s11] (fun r h9 => ∃ b9, jz_B (fun g => jz_n nums zs g zs 0 0) b9 ∧ r = some (.int (nI (jz_n nums zs b9 zs 0 0))) ∧ [jb_main imm Im Tm rowm stkm tpm, s1, s2, s3, jb_shs, jb_sht74 Is nums Js Ws, s6, s7, s8, s9, s10, s11] = h9) := by
  refine jb_CofJ (ini := false) (by decide +kernel) (fun h => by cases h) (Nat.le_of_ble_eq_true rfl) ?_
  show jb_J sc RX11 cX11_heard 5 (Option.some .int) false 3 0 0 0 [some (.ref 0), some (.int 0), some (.int 1), none, none] [] [jb_main imm Im Tm rowm stkm tpm, s1, s2, s3, jb_shs, jb_sht74 Is nums Js Ws, s6, s7, s8, s9, s10, s11] _
  refine jb_aload_n (pc' := 1) dX11_heard_0 rfl rfl ?_
  refine jb_iload_n (pc' := 2) dX11_heard_1 rfl rfl ?_
  refine jb_callV (pc' := 5) (ci := 11) (q := 0) (As := [.int 0]) (a2 := 0) (b2 := 0) wv_X11_165 rfl dX11_heard_2 (c_isNoSheetG _ 0 (by omega)) rfl rfl ⟨by decide, Nat.le_of_eq (Nat.zero_add _), Nat.le_of_eq (Nat.zero_add _)⟩ (Nat.le_of_ble_eq_true rfl) rfl (fun r h9 hq => ?_)
  obtain ⟨rfl, rfl⟩ := hq
  show jb_J _ RX11 cX11_heard 5 (Option.some .int) false 3 0 0 5 [some (.ref 0), some (.int 0), some (.int 1), none, none] [.int 0] [jb_main imm Im Tm rowm stkm tpm, s1, s2, s3, jb_shs, jb_sht74 Is nums Js Ws, s6, s7, s8, s9, s10, s11] _
  refine jb_if_ne (tgt := 17) (pc' := 8) dX11_heard_5 (by decide) rfl (fun z => absurd (by decide) z) (fun _ => ?_)
  refine jb_iload_n (pc' := 9) dX11_heard_8 rfl rfl ?_
  refine jb_iconst (pc' := 10) 0 dX11_heard_9 (by decide) rfl ?_
  refine jb_iconst (pc' := 11) 2 dX11_heard_10 (by decide) rfl ?_
  refine jb_callS (pc' := 14) (As := [.int 1, .int 0, .int 2]) (a2 := 0) (b2 := 0) wv_X11_74 dX11_heard_11 (c_isOutLG 1 0 2 (by omega) (by omega) (by omega)) rfl ⟨by decide, Nat.le_of_eq (Nat.zero_add _), Nat.le_of_eq (Nat.zero_add _)⟩ (Nat.le_of_ble_eq_true rfl) rfl (fun r h9 hq => ?_)
  obtain ⟨rfl, rfl⟩ := hq
  show jb_J _ RX11 cX11_heard 5 (Option.some .int) false 3 0 0 14 [some (.ref 0), some (.int 0), some (.int 1), none, none] [.int 0] [jb_main imm Im Tm rowm stkm tpm, s1, s2, s3, jb_shs, jb_sht74 Is nums Js Ws, s6, s7, s8, s9, s10, s11] _
  refine jb_if_eq (tgt := 23) (pc' := 17) dX11_heard_14 (by decide) rfl (fun _ => ?_) (fun z => absurd (by decide) z)
  refine jb_aload_n (pc' := 24) dX11_heard_23 rfl rfl ?_
  refine gf_X11_54 (pc' := 27) (v := .ref 73) dX11_heard_24 rfl rfl rfl ?_
  refine jb_iload_n (pc' := 28) dX11_heard_27 rfl rfl ?_
  refine jb_aaload (pc' := 29) (i9 := 0) (r := 74) (Or.inr (Or.inr rfl)) dX11_heard_28 rfl jb_x0 (by decide) rfl rfl ?_
  refine jb_astore_n_ (pc' := 30) dX11_heard_29 (by decide) (jb_at3 rfl) rfl ?_
  refine jb_aload_n (pc' := 31) dX11_heard_30 rfl rfl ?_
  refine jb_callV (pc' := 34) (ci := 10) (q := 74) (As := []) (a2 := 0) (b2 := 0) wv_X11_168 rfl dX11_heard_31 (c_isMissing_0 Is nums Js Ws h0s h1s hbs hzs) rfl rfl ⟨by decide, Nat.le_of_eq (Nat.zero_add _), Nat.le_of_eq (Nat.zero_add _)⟩ (Nat.le_of_ble_eq_true rfl) rfl (fun r h9 hq => ?_)
  rcases hq with ⟨rfl, ⟨hms, rfl⟩ | ⟨hms, rfl⟩⟩
  · exact absurd hms hm
  · show jb_J _ RX11 cX11_heard 5 (Option.some .int) false 3 0 0 34 [some (.ref 0), some (.int 0), some (.int 1), some (.ref 74), none] [.int 0] [jb_main imm Im Tm rowm stkm tpm, s1, s2, s3, jb_shs, jb_sht74 Is nums Js Ws, s6, s7, s8, s9, s10, s11] _
    refine jb_if_ne (tgt := 45) (pc' := 37) dX11_heard_34 (by decide) rfl (fun z => absurd (by decide) z) (fun _ => ?_)
    refine jb_aload_n (pc' := 38) dX11_heard_37 rfl rfl ?_
    refine gf_X11_184 (pc' := 41) (v := .int (Is 1)) dX11_heard_38 rfl rfl rfl ?_
    refine jb_top (v := .int (Is 1)) (w := .int (nI zs)) (jb_vI h1s) ?_
    refine jb_iconst (pc' := 42) 2 dX11_heard_41 (by decide) rfl ?_
    refine jb_icmp_ge (tgt := 51) (pc' := 45) dX11_heard_42 (by decide) rfl (fun _ => ?_) (fun z => absurd (nI_le (a := 2) (b := zs) (by omega) (by omega)) z)
    refine jb_aload_n (pc' := 52) dX11_heard_51 rfl rfl ?_
    refine jb_callV (pc' := 55) (ci := 10) (q := 74) (As := []) (a2 := 0) (b2 := 0) wv_X11_187 rfl dX11_heard_52 (c_best_0 Is nums Js Ws zs h1s hzs) rfl rfl ⟨by decide, Nat.le_of_eq (Nat.zero_add _), Nat.le_of_eq (Nat.zero_add _)⟩ (Nat.le_of_ble_eq_true rfl) rfl (fun r h9 hq => ?_)
    obtain ⟨b9, hB, rfl, rfl⟩ := hq
    show jb_J _ RX11 cX11_heard 5 (Option.some .int) false 3 0 0 55 [some (.ref 0), some (.int 0), some (.int 1), some (.ref 74), none] [.int (nI b9)] [jb_main imm Im Tm rowm stkm tpm, s1, s2, s3, jb_shs, jb_sht74 Is nums Js Ws, s6, s7, s8, s9, s10, s11] _
    refine jb_istore_ (pc' := 57) dX11_heard_55 (by decide) (jb_at4 rfl) rfl ?_
    refine jb_iload_n (pc' := 58) dX11_heard_57 rfl rfl ?_
    refine jb_if_ne (tgt := 64) (pc' := 61) dX11_heard_58 (by decide) rfl (fun _ => ?_) (fun z => absurd z (by decide))
    refine jb_iload_n (pc' := 65) dX11_heard_64 rfl rfl ?_
    refine jb_iconst (pc' := 66) 1 dX11_heard_65 (by decide) rfl ?_
    refine jb_icmp_ne (tgt := 78) (pc' := 69) dX11_heard_66 (by decide) rfl (fun z => absurd (by decide) z) (fun _ => ?_)
    refine jb_aload_n (pc' := 70) dX11_heard_69 rfl rfl ?_
    refine jb_iload (pc' := 72) dX11_heard_70 rfl rfl ?_
    refine jb_callV (pc' := 75) (ci := 10) (q := 74) (As := [.int (nI b9)]) (a2 := 0) (b2 := 0) wv_X11_190 rfl dX11_heard_72 (c_diff_0 Is nums Js Ws zs h1s hzs b9 hB.1) rfl rfl ⟨by decide, Nat.le_of_eq (Nat.zero_add _), Nat.le_of_eq (Nat.zero_add _)⟩ (Nat.le_of_ble_eq_true rfl) rfl (fun r h9 hq => ?_)
    obtain ⟨rfl, rfl⟩ := hq
    show jb_J _ RX11 cX11_heard 5 (Option.some .int) false 3 0 0 75 [some (.ref 0), some (.int 0), some (.int 1), some (.ref 74), some (.int (nI b9))] [.int (nI (jz_n nums zs b9 zs 0 0))] [jb_main imm Im Tm rowm stkm tpm, s1, s2, s3, jb_shs, jb_sht74 Is nums Js Ws, s6, s7, s8, s9, s10, s11] _
    refine jb_goto (pc' := 84) dX11_heard_75 (by decide) ?_
    refine jb_iret dX11_heard_84 rfl ?_
    exact ⟨b9, hB, rfl, rfl⟩
set_option maxRecDepth 100000 in
set_option maxHeartbeats 4000000 in
theorem kx_heard2_0 {sc : Nat × (Nat → Int32)} {s1 s2 s3 s6 s7 s8 s9 s10 s11 : List va_E} (imm : Int32) (Im rowm stkm tpm : Nat → Int32) (Tm : Nat → Value) (Is nums Js : Nat → Int32) (Ws : Nat → Nat → Int32) {bs zs : Nat} (h0s : Is 0 = nI bs) (h1s : Is 1 = nI zs) (hbs : bs ≤ 32) (hzs : zs ≤ 40) (hm : ¬ bs = 0) (h2 : 2 ≤ zs) : jb_C sc yX11_heard cX11_heard 5 (Option.some .int) 3 0 0 [.ref 0, .int 0, .int 2] [jb_main imm Im Tm rowm stkm tpm, s1, s2, s3, jb_shs, jb_sht74 Is nums Js Ws, s6, s7, s8, s9, s10, s11] (fun r h9 => ∃ b9, jz_B (fun g => jz_n nums zs g zs 0 0) b9 ∧ r = some (.int (nI (jz_f nums zs b9 zs 0 0))) ∧ [jb_main imm Im Tm rowm stkm tpm, s1, s2, s3, jb_shs, jb_sht74 Is nums Js Ws, s6, s7, s8, s9, s10, s11] = h9) := by
  refine jb_CofJ (ini := false) (by decide +kernel) (fun h => by cases h) (Nat.le_of_ble_eq_true rfl) ?_
  show jb_J sc RX11 cX11_heard 5 (Option.some .int) false 3 0 0 0 [some (.ref 0), some (.int 0), some (.int 2), none, none] [] [jb_main imm Im Tm rowm stkm tpm, s1, s2, s3, jb_shs, jb_sht74 Is nums Js Ws, s6, s7, s8, s9, s10, s11] _
  refine jb_aload_n (pc' := 1) dX11_heard_0 rfl rfl ?_
  refine jb_iload_n (pc' := 2) dX11_heard_1 rfl rfl ?_
  refine jb_callV (pc' := 5) (ci := 11) (q := 0) (As := [.int 0]) (a2 := 0) (b2 := 0) wv_X11_165 rfl dX11_heard_2 (c_isNoSheetG _ 0 (by omega)) rfl rfl ⟨by decide, Nat.le_of_eq (Nat.zero_add _), Nat.le_of_eq (Nat.zero_add _)⟩ (Nat.le_of_ble_eq_true rfl) rfl (fun r h9 hq => ?_)
  obtain ⟨rfl, rfl⟩ := hq
  show jb_J _ RX11 cX11_heard 5 (Option.some .int) false 3 0 0 5 [some (.ref 0), some (.int 0), some (.int 2), none, none] [.int 0] [jb_main imm Im Tm rowm stkm tpm, s1, s2, s3, jb_shs, jb_sht74 Is nums Js Ws, s6, s7, s8, s9, s10, s11] _
  refine jb_if_ne (tgt := 17) (pc' := 8) dX11_heard_5 (by decide) rfl (fun z => absurd (by decide) z) (fun _ => ?_)
  refine jb_iload_n (pc' := 9) dX11_heard_8 rfl rfl ?_
  refine jb_iconst (pc' := 10) 0 dX11_heard_9 (by decide) rfl ?_
  refine jb_iconst (pc' := 11) 2 dX11_heard_10 (by decide) rfl ?_
  refine jb_callS (pc' := 14) (As := [.int 2, .int 0, .int 2]) (a2 := 0) (b2 := 0) wv_X11_74 dX11_heard_11 (c_isOutLG 2 0 2 (by omega) (by omega) (by omega)) rfl ⟨by decide, Nat.le_of_eq (Nat.zero_add _), Nat.le_of_eq (Nat.zero_add _)⟩ (Nat.le_of_ble_eq_true rfl) rfl (fun r h9 hq => ?_)
  obtain ⟨rfl, rfl⟩ := hq
  show jb_J _ RX11 cX11_heard 5 (Option.some .int) false 3 0 0 14 [some (.ref 0), some (.int 0), some (.int 2), none, none] [.int 0] [jb_main imm Im Tm rowm stkm tpm, s1, s2, s3, jb_shs, jb_sht74 Is nums Js Ws, s6, s7, s8, s9, s10, s11] _
  refine jb_if_eq (tgt := 23) (pc' := 17) dX11_heard_14 (by decide) rfl (fun _ => ?_) (fun z => absurd (by decide) z)
  refine jb_aload_n (pc' := 24) dX11_heard_23 rfl rfl ?_
  refine gf_X11_54 (pc' := 27) (v := .ref 73) dX11_heard_24 rfl rfl rfl ?_
  refine jb_iload_n (pc' := 28) dX11_heard_27 rfl rfl ?_
  refine jb_aaload (pc' := 29) (i9 := 0) (r := 74) (Or.inr (Or.inr rfl)) dX11_heard_28 rfl jb_x0 (by decide) rfl rfl ?_
  refine jb_astore_n_ (pc' := 30) dX11_heard_29 (by decide) (jb_at3 rfl) rfl ?_
  refine jb_aload_n (pc' := 31) dX11_heard_30 rfl rfl ?_
  refine jb_callV (pc' := 34) (ci := 10) (q := 74) (As := []) (a2 := 0) (b2 := 0) wv_X11_168 rfl dX11_heard_31 (c_isMissing_0 Is nums Js Ws h0s h1s hbs hzs) rfl rfl ⟨by decide, Nat.le_of_eq (Nat.zero_add _), Nat.le_of_eq (Nat.zero_add _)⟩ (Nat.le_of_ble_eq_true rfl) rfl (fun r h9 hq => ?_)
  rcases hq with ⟨rfl, ⟨hms, rfl⟩ | ⟨hms, rfl⟩⟩
  · exact absurd hms hm
  · show jb_J _ RX11 cX11_heard 5 (Option.some .int) false 3 0 0 34 [some (.ref 0), some (.int 0), some (.int 2), some (.ref 74), none] [.int 0] [jb_main imm Im Tm rowm stkm tpm, s1, s2, s3, jb_shs, jb_sht74 Is nums Js Ws, s6, s7, s8, s9, s10, s11] _
    refine jb_if_ne (tgt := 45) (pc' := 37) dX11_heard_34 (by decide) rfl (fun z => absurd (by decide) z) (fun _ => ?_)
    refine jb_aload_n (pc' := 38) dX11_heard_37 rfl rfl ?_
    refine gf_X11_184 (pc' := 41) (v := .int (Is 1)) dX11_heard_38 rfl rfl rfl ?_
    refine jb_top (v := .int (Is 1)) (w := .int (nI zs)) (jb_vI h1s) ?_
    refine jb_iconst (pc' := 42) 2 dX11_heard_41 (by decide) rfl ?_
    refine jb_icmp_ge (tgt := 51) (pc' := 45) dX11_heard_42 (by decide) rfl (fun _ => ?_) (fun z => absurd (nI_le (a := 2) (b := zs) (by omega) (by omega)) z)
    refine jb_aload_n (pc' := 52) dX11_heard_51 rfl rfl ?_
    refine jb_callV (pc' := 55) (ci := 10) (q := 74) (As := []) (a2 := 0) (b2 := 0) wv_X11_187 rfl dX11_heard_52 (c_best_0 Is nums Js Ws zs h1s hzs) rfl rfl ⟨by decide, Nat.le_of_eq (Nat.zero_add _), Nat.le_of_eq (Nat.zero_add _)⟩ (Nat.le_of_ble_eq_true rfl) rfl (fun r h9 hq => ?_)
    obtain ⟨b9, hB, rfl, rfl⟩ := hq
    show jb_J _ RX11 cX11_heard 5 (Option.some .int) false 3 0 0 55 [some (.ref 0), some (.int 0), some (.int 2), some (.ref 74), none] [.int (nI b9)] [jb_main imm Im Tm rowm stkm tpm, s1, s2, s3, jb_shs, jb_sht74 Is nums Js Ws, s6, s7, s8, s9, s10, s11] _
    refine jb_istore_ (pc' := 57) dX11_heard_55 (by decide) (jb_at4 rfl) rfl ?_
    refine jb_iload_n (pc' := 58) dX11_heard_57 rfl rfl ?_
    refine jb_if_ne (tgt := 64) (pc' := 61) dX11_heard_58 (by decide) rfl (fun _ => ?_) (fun z => absurd z (by decide))
    refine jb_iload_n (pc' := 65) dX11_heard_64 rfl rfl ?_
    refine jb_iconst (pc' := 66) 1 dX11_heard_65 (by decide) rfl ?_
    refine jb_icmp_ne (tgt := 78) (pc' := 69) dX11_heard_66 (by decide) rfl (fun _ => ?_) (fun z => absurd z (by decide))
    refine jb_aload_n (pc' := 79) dX11_heard_78 rfl rfl ?_
    refine jb_iload (pc' := 81) dX11_heard_79 rfl rfl ?_
    refine jb_callV (pc' := 84) (ci := 10) (q := 74) (As := [.int (nI b9)]) (a2 := 0) (b2 := 0) wv_X11_193 rfl dX11_heard_81 (c_first_0 Is nums Js Ws zs h1s hzs b9 hB.1) rfl rfl ⟨by decide, Nat.le_of_eq (Nat.zero_add _), Nat.le_of_eq (Nat.zero_add _)⟩ (Nat.le_of_ble_eq_true rfl) rfl (fun r h9 hq => ?_)
    obtain ⟨rfl, rfl⟩ := hq
    show jb_J _ RX11 cX11_heard 5 (Option.some .int) false 3 0 0 84 [some (.ref 0), some (.int 0), some (.int 2), some (.ref 74), some (.int (nI b9))] [.int (nI (jz_f nums zs b9 zs 0 0))] [jb_main imm Im Tm rowm stkm tpm, s1, s2, s3, jb_shs, jb_sht74 Is nums Js Ws, s6, s7, s8, s9, s10, s11] _
    refine jb_iret dX11_heard_84 rfl ?_
    exact ⟨b9, hB, rfl, rfl⟩
set_option maxRecDepth 100000 in
set_option maxHeartbeats 4000000 in
theorem l_diff_1 {sc : Nat × (Nat → Int32)} {s0 s1 s2 s3 s4 s5 s7 s8 s9 s10 s11 : List va_E} (Is nums Js : Nat → Int32) (Ws : Nat → Nat → Int32) (zs : Nat) (h1s : Is 1 = nI zs) (hzs : zs ≤ 40) (g : Nat) (hg : g ≤ 40) : ∀ (n i k : Nat), zs ≤ i + 2 * n → i ≤ zs + 2 → k ≤ i → jb_J sc RX10 cX10_differing 4 (Option.some .int) false 1 0 0 4 [some (.ref 81), some (.int (nI g)), some (.int (nI k)), some (.int (nI i))] [] [s0, s1, s2, s3, s4, s5, jb_sht81 Is nums Js Ws, s7, s8, s9, s10, s11] (fun r h9 => r = some (.int (nI (jz_n nums zs g n i k))) ∧ [s0, s1, s2, s3, s4, s5, jb_sht81 Is nums Js Ws, s7, s8, s9, s10, s11] = h9) := by
  intro n
  induction n with
  | zero =>
    intro i k hi hi2 hk
    show jb_J _ RX10 cX10_differing 4 (Option.some .int) false 1 0 0 4 [some (.ref 81), some (.int (nI g)), some (.int (nI k)), some (.int (nI i))] [] [s0, s1, s2, s3, s4, s5, jb_sht81 Is nums Js Ws, s7, s8, s9, s10, s11] _
    refine jb_iload_n (pc' := 5) dX10_differing_4 rfl rfl ?_
    refine jb_iconst (pc' := 6) 1 dX10_differing_5 (by decide) rfl ?_
    refine jb_iadd (pc' := 7) dX10_differing_6 rfl ?_
    refine jb_top (v := .int ((nI i) + 1)) (w := .int (nI (i + 1))) (jb_vI (nI_add _ 1)) ?_
    refine jb_aload_n (pc' := 8) dX10_differing_7 rfl rfl ?_
    refine gf_X10_15 (pc' := 11) (v := .int (Is 1)) dX10_differing_8 rfl rfl rfl ?_
    refine jb_top (v := .int (Is 1)) (w := .int (nI zs)) (jb_vI h1s) ?_
    refine jb_icmp_ge (tgt := 49) (pc' := 14) dX10_differing_11 (by decide) rfl (fun _ => ?_) (fun z => absurd (nI_le (a := zs) (b := i + 1) (by omega) (by omega)) z)
    refine jb_iload_n (pc' := 50) dX10_differing_49 rfl rfl ?_
    refine jb_iret dX10_differing_50 rfl ?_
    exact ⟨rfl, rfl⟩
  | succ n ih =>
    intro i k hi hi2 hk
    by_cases hi1 : i + 1 < zs
    · have eG : jz_n nums zs g (n + 1) i k = jz_n nums zs g n (i + 2) (if jz_d nums i = g then k + 1 else k) := if_pos hi1
      by_cases hv : jz_d nums i = g
      · rw [if_pos hv] at eG
        rw [eG]
        show jb_J _ RX10 cX10_differing 4 (Option.some .int) false 1 0 0 4 [some (.ref 81), some (.int (nI g)), some (.int (nI k)), some (.int (nI i))] [] [s0, s1, s2, s3, s4, s5, jb_sht81 Is nums Js Ws, s7, s8, s9, s10, s11] _
        refine jb_iload_n (pc' := 5) dX10_differing_4 rfl rfl ?_
        refine jb_iconst (pc' := 6) 1 dX10_differing_5 (by decide) rfl ?_
        refine jb_iadd (pc' := 7) dX10_differing_6 rfl ?_
        refine jb_top (v := .int ((nI i) + 1)) (w := .int (nI (i + 1))) (jb_vI (nI_add _ 1)) ?_
        refine jb_aload_n (pc' := 8) dX10_differing_7 rfl rfl ?_
        refine gf_X10_15 (pc' := 11) (v := .int (Is 1)) dX10_differing_8 rfl rfl rfl ?_
        refine jb_top (v := .int (Is 1)) (w := .int (nI zs)) (jb_vI h1s) ?_
        refine jb_icmp_ge (tgt := 49) (pc' := 14) dX10_differing_11 (by decide) rfl (fun z => absurd z (nI_ge (a := i + 1) (b := zs) (by omega) (by omega))) (fun _ => ?_)
        refine jb_aload_n (pc' := 15) dX10_differing_14 rfl rfl ?_
        refine gf_X10_18 (pc' := 18) (v := .ref 82) dX10_differing_15 rfl rfl rfl ?_
        refine jb_iload_n (pc' := 19) dX10_differing_18 rfl rfl ?_
        refine jb_iaload (pc' := 20) (i9 := i) (f := nums) dX10_differing_19 rfl (jb_ix_nI (by omega)) (by omega) rfl ?_
        refine jb_i2l (pc' := 21) dX10_differing_20 rfl ?_
        refine jb_aload_n (pc' := 22) dX10_differing_21 rfl rfl ?_
        refine gf_X10_18 (pc' := 25) (v := .ref 82) dX10_differing_22 rfl rfl rfl ?_
        refine jb_iload_n (pc' := 26) dX10_differing_25 rfl rfl ?_
        refine jb_iconst (pc' := 27) 1 dX10_differing_26 (by decide) rfl ?_
        refine jb_iadd (pc' := 28) dX10_differing_27 rfl ?_
        refine jb_top (v := .int ((nI i) + 1)) (w := .int (nI (i + 1))) (jb_vI (nI_add _ 1)) ?_
        refine jb_iaload (pc' := 29) (i9 := (i + 1)) (f := nums) dX10_differing_28 rfl (jb_ix_nI (by omega)) (by omega) rfl ?_
        refine jb_i2l (pc' := 30) dX10_differing_29 rfl ?_
        refine jb_lsub (pc' := 31) dX10_differing_30 rfl ?_
        refine jb_mabsl (pc' := 34) wv_X10_77 dX10_differing_31 (by decide) (Nat.le_of_ble_eq_true rfl) rfl ?_
        refine jb_iload_n (pc' := 35) dX10_differing_34 rfl rfl ?_
        refine jb_i2l (pc' := 36) dX10_differing_35 rfl ?_
        refine jb_lcmp (pc' := 37) dX10_differing_36 rfl ?_
        refine jb_if_ne (tgt := 43) (pc' := 40) dX10_differing_37 (by decide) rfl (fun z => absurd (jl_eq.mpr ((jz_abs _ _ hg).mpr hv)) z) (fun _ => ?_)
        refine jb_iinc_ (pc' := 43) (nI (k + 1)) dX10_differing_40 (by decide) rfl (jb_inc k 1) (jb_at2 rfl) rfl ?_
        refine jb_iinc_ (pc' := 46) (nI (i + 2)) dX10_differing_43 (by decide) rfl (jb_inc i 2) (jb_at3 rfl) rfl ?_
        refine jb_goto (pc' := 4) dX10_differing_46 (by decide) ?_
        exact ih (i + 2) (k + 1) (by omega) (by omega) (by omega)
      · rw [if_neg hv] at eG
        rw [eG]
        show jb_J _ RX10 cX10_differing 4 (Option.some .int) false 1 0 0 4 [some (.ref 81), some (.int (nI g)), some (.int (nI k)), some (.int (nI i))] [] [s0, s1, s2, s3, s4, s5, jb_sht81 Is nums Js Ws, s7, s8, s9, s10, s11] _
        refine jb_iload_n (pc' := 5) dX10_differing_4 rfl rfl ?_
        refine jb_iconst (pc' := 6) 1 dX10_differing_5 (by decide) rfl ?_
        refine jb_iadd (pc' := 7) dX10_differing_6 rfl ?_
        refine jb_top (v := .int ((nI i) + 1)) (w := .int (nI (i + 1))) (jb_vI (nI_add _ 1)) ?_
        refine jb_aload_n (pc' := 8) dX10_differing_7 rfl rfl ?_
        refine gf_X10_15 (pc' := 11) (v := .int (Is 1)) dX10_differing_8 rfl rfl rfl ?_
        refine jb_top (v := .int (Is 1)) (w := .int (nI zs)) (jb_vI h1s) ?_
        refine jb_icmp_ge (tgt := 49) (pc' := 14) dX10_differing_11 (by decide) rfl (fun z => absurd z (nI_ge (a := i + 1) (b := zs) (by omega) (by omega))) (fun _ => ?_)
        refine jb_aload_n (pc' := 15) dX10_differing_14 rfl rfl ?_
        refine gf_X10_18 (pc' := 18) (v := .ref 82) dX10_differing_15 rfl rfl rfl ?_
        refine jb_iload_n (pc' := 19) dX10_differing_18 rfl rfl ?_
        refine jb_iaload (pc' := 20) (i9 := i) (f := nums) dX10_differing_19 rfl (jb_ix_nI (by omega)) (by omega) rfl ?_
        refine jb_i2l (pc' := 21) dX10_differing_20 rfl ?_
        refine jb_aload_n (pc' := 22) dX10_differing_21 rfl rfl ?_
        refine gf_X10_18 (pc' := 25) (v := .ref 82) dX10_differing_22 rfl rfl rfl ?_
        refine jb_iload_n (pc' := 26) dX10_differing_25 rfl rfl ?_
        refine jb_iconst (pc' := 27) 1 dX10_differing_26 (by decide) rfl ?_
        refine jb_iadd (pc' := 28) dX10_differing_27 rfl ?_
        refine jb_top (v := .int ((nI i) + 1)) (w := .int (nI (i + 1))) (jb_vI (nI_add _ 1)) ?_
        refine jb_iaload (pc' := 29) (i9 := (i + 1)) (f := nums) dX10_differing_28 rfl (jb_ix_nI (by omega)) (by omega) rfl ?_
        refine jb_i2l (pc' := 30) dX10_differing_29 rfl ?_
        refine jb_lsub (pc' := 31) dX10_differing_30 rfl ?_
        refine jb_mabsl (pc' := 34) wv_X10_77 dX10_differing_31 (by decide) (Nat.le_of_ble_eq_true rfl) rfl ?_
        refine jb_iload_n (pc' := 35) dX10_differing_34 rfl rfl ?_
        refine jb_i2l (pc' := 36) dX10_differing_35 rfl ?_
        refine jb_lcmp (pc' := 37) dX10_differing_36 rfl ?_
        refine jb_if_ne (tgt := 43) (pc' := 40) dX10_differing_37 (by decide) rfl (fun _ => ?_) (fun z => absurd z (fun z => hv ((jz_abs _ _ hg).mp (jl_eq.mp z))))
        refine jb_iinc_ (pc' := 46) (nI (i + 2)) dX10_differing_43 (by decide) rfl (jb_inc i 2) (jb_at3 rfl) rfl ?_
        refine jb_goto (pc' := 4) dX10_differing_46 (by decide) ?_
        exact ih (i + 2) (k) (by omega) (by omega) (by omega)
    · have eG : jz_n nums zs g (n + 1) i k = k := if_neg hi1
      rw [eG]
      show jb_J _ RX10 cX10_differing 4 (Option.some .int) false 1 0 0 4 [some (.ref 81), some (.int (nI g)), some (.int (nI k)), some (.int (nI i))] [] [s0, s1, s2, s3, s4, s5, jb_sht81 Is nums Js Ws, s7, s8, s9, s10, s11] _
      refine jb_iload_n (pc' := 5) dX10_differing_4 rfl rfl ?_
      refine jb_iconst (pc' := 6) 1 dX10_differing_5 (by decide) rfl ?_
      refine jb_iadd (pc' := 7) dX10_differing_6 rfl ?_
      refine jb_top (v := .int ((nI i) + 1)) (w := .int (nI (i + 1))) (jb_vI (nI_add _ 1)) ?_
      refine jb_aload_n (pc' := 8) dX10_differing_7 rfl rfl ?_
      refine gf_X10_15 (pc' := 11) (v := .int (Is 1)) dX10_differing_8 rfl rfl rfl ?_
      refine jb_top (v := .int (Is 1)) (w := .int (nI zs)) (jb_vI h1s) ?_
      refine jb_icmp_ge (tgt := 49) (pc' := 14) dX10_differing_11 (by decide) rfl (fun _ => ?_) (fun z => absurd (nI_le (a := zs) (b := i + 1) (by omega) (by omega)) z)
      refine jb_iload_n (pc' := 50) dX10_differing_49 rfl rfl ?_
      refine jb_iret dX10_differing_50 rfl ?_
      exact ⟨rfl, rfl⟩
set_option maxRecDepth 100000 in
set_option maxHeartbeats 4000000 in
theorem c_diff_1 {sc : Nat × (Nat → Int32)} {s0 s1 s2 s3 s4 s5 s7 s8 s9 s10 s11 : List va_E} (Is nums Js : Nat → Int32) (Ws : Nat → Nat → Int32) (zs : Nat) (h1s : Is 1 = nI zs) (hzs : zs ≤ 40) (g : Nat) (hg : g ≤ 40) : jb_C sc yX10_differing cX10_differing 4 (Option.some .int) 1 0 0 [.ref 81, .int (nI g)] [s0, s1, s2, s3, s4, s5, jb_sht81 Is nums Js Ws, s7, s8, s9, s10, s11] (fun r h9 => r = some (.int (nI (jz_n nums zs g zs 0 0))) ∧ [s0, s1, s2, s3, s4, s5, jb_sht81 Is nums Js Ws, s7, s8, s9, s10, s11] = h9) := by
  refine jb_CofJ (ini := false) (by decide +kernel) (fun h => by cases h) (Nat.le_of_ble_eq_true rfl) ?_
  show jb_J sc RX10 cX10_differing 4 (Option.some .int) false 1 0 0 0 [some (.ref 81), some (.int (nI g)), none, none] [] [s0, s1, s2, s3, s4, s5, jb_sht81 Is nums Js Ws, s7, s8, s9, s10, s11] _
  refine jb_iconst (pc' := 1) 0 dX10_differing_0 (by decide) rfl ?_
  refine jb_istore_n_ (pc' := 2) dX10_differing_1 (by decide) (jb_at2 rfl) rfl ?_
  refine jb_iconst (pc' := 3) 0 dX10_differing_2 (by decide) rfl ?_
  refine jb_istore_n_ (pc' := 4) dX10_differing_3 (by decide) (jb_at3 rfl) rfl ?_
  exact l_diff_1 Is nums Js Ws zs h1s hzs g hg zs 0 0 (by omega) (by omega) (by omega)
set_option maxRecDepth 100000 in
set_option maxHeartbeats 4000000 in
theorem l_first_1 {sc : Nat × (Nat → Int32)} {s0 s1 s2 s3 s4 s5 s7 s8 s9 s10 s11 : List va_E} (Is nums Js : Nat → Int32) (Ws : Nat → Nat → Int32) (zs : Nat) (h1s : Is 1 = nI zs) (hzs : zs ≤ 40) (g : Nat) (hg : g ≤ 40) : ∀ (n i k : Nat) (x4 x5 : Option Value), zs ≤ i + 2 * n → i ≤ zs + 2 → k ≤ i → jb_J sc RX10 cX10_fromFirstCliff 6 (Option.some .int) false 1 0 0 4 [some (.ref 81), some (.int (nI g)), some (.int (nI k)), some (.int (nI i)), x4, x5] [] [s0, s1, s2, s3, s4, s5, jb_sht81 Is nums Js Ws, s7, s8, s9, s10, s11] (fun r h9 => r = some (.int (nI (jz_f nums zs g n i k))) ∧ [s0, s1, s2, s3, s4, s5, jb_sht81 Is nums Js Ws, s7, s8, s9, s10, s11] = h9) := by
  intro n
  induction n with
  | zero =>
    intro i k x4 x5 hi hi2 hk
    show jb_J _ RX10 cX10_fromFirstCliff 6 (Option.some .int) false 1 0 0 4 [some (.ref 81), some (.int (nI g)), some (.int (nI k)), some (.int (nI i)), x4, x5] [] [s0, s1, s2, s3, s4, s5, jb_sht81 Is nums Js Ws, s7, s8, s9, s10, s11] _
    refine jb_iload_n (pc' := 5) dX10_fromFirstCliff_4 rfl rfl ?_
    refine jb_iconst (pc' := 6) 1 dX10_fromFirstCliff_5 (by decide) rfl ?_
    refine jb_iadd (pc' := 7) dX10_fromFirstCliff_6 rfl ?_
    refine jb_top (v := .int ((nI i) + 1)) (w := .int (nI (i + 1))) (jb_vI (nI_add _ 1)) ?_
    refine jb_aload_n (pc' := 8) dX10_fromFirstCliff_7 rfl rfl ?_
    refine gf_X10_15 (pc' := 11) (v := .int (Is 1)) dX10_fromFirstCliff_8 rfl rfl rfl ?_
    refine jb_top (v := .int (Is 1)) (w := .int (nI zs)) (jb_vI h1s) ?_
    refine jb_icmp_ge (tgt := 57) (pc' := 14) dX10_fromFirstCliff_11 (by decide) rfl (fun _ => ?_) (fun z => absurd (nI_le (a := zs) (b := i + 1) (by omega) (by omega)) z)
    refine jb_iload_n (pc' := 58) dX10_fromFirstCliff_57 rfl rfl ?_
    refine jb_iret dX10_fromFirstCliff_58 rfl ?_
    exact ⟨rfl, rfl⟩
  | succ n ih =>
    intro i k x4 x5 hi hi2 hk
    by_cases hi1 : i + 1 < zs
    · have eG : jz_f nums zs g (n + 1) i k = jz_f nums zs g n (i + 2) (if (nums (i + 1)).toInt - (nums i).toInt = (g : Int) ∧ 0 < g then k + 1 else k) := if_pos hi1
      by_cases hv : (nums (i + 1)).toInt - (nums i).toInt = (g : Int) ∧ 0 < g
      · rw [if_pos hv] at eG
        rw [eG]
        show jb_J _ RX10 cX10_fromFirstCliff 6 (Option.some .int) false 1 0 0 4 [some (.ref 81), some (.int (nI g)), some (.int (nI k)), some (.int (nI i)), x4, x5] [] [s0, s1, s2, s3, s4, s5, jb_sht81 Is nums Js Ws, s7, s8, s9, s10, s11] _
        refine jb_iload_n (pc' := 5) dX10_fromFirstCliff_4 rfl rfl ?_
        refine jb_iconst (pc' := 6) 1 dX10_fromFirstCliff_5 (by decide) rfl ?_
        refine jb_iadd (pc' := 7) dX10_fromFirstCliff_6 rfl ?_
        refine jb_top (v := .int ((nI i) + 1)) (w := .int (nI (i + 1))) (jb_vI (nI_add _ 1)) ?_
        refine jb_aload_n (pc' := 8) dX10_fromFirstCliff_7 rfl rfl ?_
        refine gf_X10_15 (pc' := 11) (v := .int (Is 1)) dX10_fromFirstCliff_8 rfl rfl rfl ?_
        refine jb_top (v := .int (Is 1)) (w := .int (nI zs)) (jb_vI h1s) ?_
        refine jb_icmp_ge (tgt := 57) (pc' := 14) dX10_fromFirstCliff_11 (by decide) rfl (fun z => absurd z (nI_ge (a := i + 1) (b := zs) (by omega) (by omega))) (fun _ => ?_)
        refine jb_aload_n (pc' := 15) dX10_fromFirstCliff_14 rfl rfl ?_
        refine gf_X10_18 (pc' := 18) (v := .ref 82) dX10_fromFirstCliff_15 rfl rfl rfl ?_
        refine jb_iload_n (pc' := 19) dX10_fromFirstCliff_18 rfl rfl ?_
        refine jb_iconst (pc' := 20) 1 dX10_fromFirstCliff_19 (by decide) rfl ?_
        refine jb_iadd (pc' := 21) dX10_fromFirstCliff_20 rfl ?_
        refine jb_top (v := .int ((nI i) + 1)) (w := .int (nI (i + 1))) (jb_vI (nI_add _ 1)) ?_
        refine jb_iaload (pc' := 22) (i9 := (i + 1)) (f := nums) dX10_fromFirstCliff_21 rfl (jb_ix_nI (by omega)) (by omega) rfl ?_
        refine jb_i2l (pc' := 23) dX10_fromFirstCliff_22 rfl ?_
        refine jb_aload_n (pc' := 24) dX10_fromFirstCliff_23 rfl rfl ?_
        refine gf_X10_18 (pc' := 27) (v := .ref 82) dX10_fromFirstCliff_24 rfl rfl rfl ?_
        refine jb_iload_n (pc' := 28) dX10_fromFirstCliff_27 rfl rfl ?_
        refine jb_iaload (pc' := 29) (i9 := i) (f := nums) dX10_fromFirstCliff_28 rfl (jb_ix_nI (by omega)) (by omega) rfl ?_
        refine jb_i2l (pc' := 30) dX10_fromFirstCliff_29 rfl ?_
        refine jb_lsub (pc' := 31) dX10_fromFirstCliff_30 rfl ?_
        refine jb_lstore_ (pc' := 33) dX10_fromFirstCliff_31 (by decide) (jb_lt4 rfl) rfl ?_
        refine jb_lload (pc' := 35) dX10_fromFirstCliff_33 rfl rfl ?_
        refine jb_lconst (pc' := 36) 0 dX10_fromFirstCliff_35 (by decide) rfl ?_
        refine jb_lcmp (pc' := 37) dX10_fromFirstCliff_36 rfl ?_
        refine jb_if_le (tgt := 51) (pc' := 40) dX10_fromFirstCliff_37 (by decide) rfl (fun z => absurd z (Int32.not_le.mpr (jl_gt.mpr ((jz_p0 _ _).mpr (by omega))))) (fun _ => ?_)
        refine jb_lload (pc' := 42) dX10_fromFirstCliff_40 rfl rfl ?_
        refine jb_iload_n (pc' := 43) dX10_fromFirstCliff_42 rfl rfl ?_
        refine jb_i2l (pc' := 44) dX10_fromFirstCliff_43 rfl ?_
        refine jb_lcmp (pc' := 45) dX10_fromFirstCliff_44 rfl ?_
        refine jb_if_ne (tgt := 51) (pc' := 48) dX10_fromFirstCliff_45 (by decide) rfl (fun z => absurd (jl_eq.mpr ((jz_lt _ _ hg).mpr hv.1)) z) (fun _ => ?_)
        refine jb_iinc_ (pc' := 51) (nI (k + 1)) dX10_fromFirstCliff_48 (by decide) rfl (jb_inc k 1) (jb_at2 rfl) rfl ?_
        refine jb_iinc_ (pc' := 54) (nI (i + 2)) dX10_fromFirstCliff_51 (by decide) rfl (jb_inc i 2) (jb_at3 rfl) rfl ?_
        refine jb_goto (pc' := 4) dX10_fromFirstCliff_54 (by decide) ?_
        exact ih (i + 2) (k + 1) _ _ (by omega) (by omega) (by omega)
      · rw [if_neg hv] at eG
        rw [eG]
        show jb_J _ RX10 cX10_fromFirstCliff 6 (Option.some .int) false 1 0 0 4 [some (.ref 81), some (.int (nI g)), some (.int (nI k)), some (.int (nI i)), x4, x5] [] [s0, s1, s2, s3, s4, s5, jb_sht81 Is nums Js Ws, s7, s8, s9, s10, s11] _
        refine jb_iload_n (pc' := 5) dX10_fromFirstCliff_4 rfl rfl ?_
        refine jb_iconst (pc' := 6) 1 dX10_fromFirstCliff_5 (by decide) rfl ?_
        refine jb_iadd (pc' := 7) dX10_fromFirstCliff_6 rfl ?_
        refine jb_top (v := .int ((nI i) + 1)) (w := .int (nI (i + 1))) (jb_vI (nI_add _ 1)) ?_
        refine jb_aload_n (pc' := 8) dX10_fromFirstCliff_7 rfl rfl ?_
        refine gf_X10_15 (pc' := 11) (v := .int (Is 1)) dX10_fromFirstCliff_8 rfl rfl rfl ?_
        refine jb_top (v := .int (Is 1)) (w := .int (nI zs)) (jb_vI h1s) ?_
        refine jb_icmp_ge (tgt := 57) (pc' := 14) dX10_fromFirstCliff_11 (by decide) rfl (fun z => absurd z (nI_ge (a := i + 1) (b := zs) (by omega) (by omega))) (fun _ => ?_)
        refine jb_aload_n (pc' := 15) dX10_fromFirstCliff_14 rfl rfl ?_
        refine gf_X10_18 (pc' := 18) (v := .ref 82) dX10_fromFirstCliff_15 rfl rfl rfl ?_
        refine jb_iload_n (pc' := 19) dX10_fromFirstCliff_18 rfl rfl ?_
        refine jb_iconst (pc' := 20) 1 dX10_fromFirstCliff_19 (by decide) rfl ?_
        refine jb_iadd (pc' := 21) dX10_fromFirstCliff_20 rfl ?_
        refine jb_top (v := .int ((nI i) + 1)) (w := .int (nI (i + 1))) (jb_vI (nI_add _ 1)) ?_
        refine jb_iaload (pc' := 22) (i9 := (i + 1)) (f := nums) dX10_fromFirstCliff_21 rfl (jb_ix_nI (by omega)) (by omega) rfl ?_
        refine jb_i2l (pc' := 23) dX10_fromFirstCliff_22 rfl ?_
        refine jb_aload_n (pc' := 24) dX10_fromFirstCliff_23 rfl rfl ?_
        refine gf_X10_18 (pc' := 27) (v := .ref 82) dX10_fromFirstCliff_24 rfl rfl rfl ?_
        refine jb_iload_n (pc' := 28) dX10_fromFirstCliff_27 rfl rfl ?_
        refine jb_iaload (pc' := 29) (i9 := i) (f := nums) dX10_fromFirstCliff_28 rfl (jb_ix_nI (by omega)) (by omega) rfl ?_
        refine jb_i2l (pc' := 30) dX10_fromFirstCliff_29 rfl ?_
        refine jb_lsub (pc' := 31) dX10_fromFirstCliff_30 rfl ?_
        refine jb_lstore_ (pc' := 33) dX10_fromFirstCliff_31 (by decide) (jb_lt4 rfl) rfl ?_
        refine jb_lload (pc' := 35) dX10_fromFirstCliff_33 rfl rfl ?_
        refine jb_lconst (pc' := 36) 0 dX10_fromFirstCliff_35 (by decide) rfl ?_
        refine jb_lcmp (pc' := 37) dX10_fromFirstCliff_36 rfl ?_
        refine jb_if_le (tgt := 51) (pc' := 40) dX10_fromFirstCliff_37 (by decide) rfl (fun q37 => ?_) (fun q37 => ?_)
        · refine jb_iinc_ (pc' := 54) (nI (i + 2)) dX10_fromFirstCliff_51 (by decide) rfl (jb_inc i 2) (jb_at3 rfl) rfl ?_
          refine jb_goto (pc' := 4) dX10_fromFirstCliff_54 (by decide) ?_
          exact ih (i + 2) (k) _ _ (by omega) (by omega) (by omega)
        · refine jb_lload (pc' := 42) dX10_fromFirstCliff_40 rfl rfl ?_
          refine jb_iload_n (pc' := 43) dX10_fromFirstCliff_42 rfl rfl ?_
          refine jb_i2l (pc' := 44) dX10_fromFirstCliff_43 rfl ?_
          refine jb_lcmp (pc' := 45) dX10_fromFirstCliff_44 rfl ?_
          refine jb_if_ne (tgt := 51) (pc' := 48) dX10_fromFirstCliff_45 (by decide) rfl (fun _ => ?_) (fun z => absurd z (fun z => hv ⟨(jz_lt _ _ hg).mp (jl_eq.mp z), by have z1 := (jz_p0 _ _).mp (jl_gt.mp (Int32.not_le.mp q37)); have z2 := (jz_lt _ _ hg).mp (jl_eq.mp z); omega⟩))
          refine jb_iinc_ (pc' := 54) (nI (i + 2)) dX10_fromFirstCliff_51 (by decide) rfl (jb_inc i 2) (jb_at3 rfl) rfl ?_
          refine jb_goto (pc' := 4) dX10_fromFirstCliff_54 (by decide) ?_
          exact ih (i + 2) (k) _ _ (by omega) (by omega) (by omega)
    · have eG : jz_f nums zs g (n + 1) i k = k := if_neg hi1
      rw [eG]
      show jb_J _ RX10 cX10_fromFirstCliff 6 (Option.some .int) false 1 0 0 4 [some (.ref 81), some (.int (nI g)), some (.int (nI k)), some (.int (nI i)), x4, x5] [] [s0, s1, s2, s3, s4, s5, jb_sht81 Is nums Js Ws, s7, s8, s9, s10, s11] _
      refine jb_iload_n (pc' := 5) dX10_fromFirstCliff_4 rfl rfl ?_
      refine jb_iconst (pc' := 6) 1 dX10_fromFirstCliff_5 (by decide) rfl ?_
      refine jb_iadd (pc' := 7) dX10_fromFirstCliff_6 rfl ?_
      refine jb_top (v := .int ((nI i) + 1)) (w := .int (nI (i + 1))) (jb_vI (nI_add _ 1)) ?_
      refine jb_aload_n (pc' := 8) dX10_fromFirstCliff_7 rfl rfl ?_
      refine gf_X10_15 (pc' := 11) (v := .int (Is 1)) dX10_fromFirstCliff_8 rfl rfl rfl ?_
      refine jb_top (v := .int (Is 1)) (w := .int (nI zs)) (jb_vI h1s) ?_
      refine jb_icmp_ge (tgt := 57) (pc' := 14) dX10_fromFirstCliff_11 (by decide) rfl (fun _ => ?_) (fun z => absurd (nI_le (a := zs) (b := i + 1) (by omega) (by omega)) z)
      refine jb_iload_n (pc' := 58) dX10_fromFirstCliff_57 rfl rfl ?_
      refine jb_iret dX10_fromFirstCliff_58 rfl ?_
      exact ⟨rfl, rfl⟩
set_option maxRecDepth 100000 in
set_option maxHeartbeats 4000000 in
theorem c_first_1 {sc : Nat × (Nat → Int32)} {s0 s1 s2 s3 s4 s5 s7 s8 s9 s10 s11 : List va_E} (Is nums Js : Nat → Int32) (Ws : Nat → Nat → Int32) (zs : Nat) (h1s : Is 1 = nI zs) (hzs : zs ≤ 40) (g : Nat) (hg : g ≤ 40) : jb_C sc yX10_fromFirstCliff cX10_fromFirstCliff 6 (Option.some .int) 1 0 0 [.ref 81, .int (nI g)] [s0, s1, s2, s3, s4, s5, jb_sht81 Is nums Js Ws, s7, s8, s9, s10, s11] (fun r h9 => r = some (.int (nI (jz_f nums zs g zs 0 0))) ∧ [s0, s1, s2, s3, s4, s5, jb_sht81 Is nums Js Ws, s7, s8, s9, s10, s11] = h9) := by
  refine jb_CofJ (ini := false) (by decide +kernel) (fun h => by cases h) (Nat.le_of_ble_eq_true rfl) ?_
  show jb_J sc RX10 cX10_fromFirstCliff 6 (Option.some .int) false 1 0 0 0 [some (.ref 81), some (.int (nI g)), none, none, none, none] [] [s0, s1, s2, s3, s4, s5, jb_sht81 Is nums Js Ws, s7, s8, s9, s10, s11] _
  refine jb_iconst (pc' := 1) 0 dX10_fromFirstCliff_0 (by decide) rfl ?_
  refine jb_istore_n_ (pc' := 2) dX10_fromFirstCliff_1 (by decide) (jb_at2 rfl) rfl ?_
  refine jb_iconst (pc' := 3) 0 dX10_fromFirstCliff_2 (by decide) rfl ?_
  refine jb_istore_n_ (pc' := 4) dX10_fromFirstCliff_3 (by decide) (jb_at3 rfl) rfl ?_
  exact l_first_1 Is nums Js Ws zs h1s hzs g hg zs 0 0 _ _ (by omega) (by omega) (by omega)
set_option maxRecDepth 100000 in
set_option maxHeartbeats 4000000 in
theorem l_best_1 {sc : Nat × (Nat → Int32)} {s0 s1 s2 s3 s4 s5 s7 s8 s9 s10 s11 : List va_E} (Is nums Js : Nat → Int32) (Ws : Nat → Nat → Int32) (zs : Nat) (h1s : Is 1 = nI zs) (hzs : zs ≤ 40) : ∀ (n g b m : Nat) (x4 : Option Value), g + n = 41 → b ≤ 40 → m ≤ 40 → (∀ h, h < g → (fun g => jz_n nums zs g zs 0 0) h ≤ m) → m ≤ (fun g => jz_n nums zs g zs 0 0) b → (∀ h, h < b → (fun g => jz_n nums zs g zs 0 0) h < m) → jb_J sc RX10 cX10_bestDifference 5 (Option.some .int) false 2 0 0 6 [some (.ref 81), some (.int (nI b)), some (.int (nI m)), some (.int (nI g)), x4] [] [s0, s1, s2, s3, s4, s5, jb_sht81 Is nums Js Ws, s7, s8, s9, s10, s11] (fun r h9 => ∃ b, jz_B (fun g => jz_n nums zs g zs 0 0) b ∧ r = some (.int (nI b)) ∧ [s0, s1, s2, s3, s4, s5, jb_sht81 Is nums Js Ws, s7, s8, s9, s10, s11] = h9) := by
  intro n
  induction n with
  | zero =>
    intro g b m x4 hg h1 h2 h3 h4 h5
    show jb_J _ RX10 cX10_bestDifference 5 (Option.some .int) false 2 0 0 6 [some (.ref 81), some (.int (nI b)), some (.int (nI m)), some (.int (nI g)), x4] [] [s0, s1, s2, s3, s4, s5, jb_sht81 Is nums Js Ws, s7, s8, s9, s10, s11] _
    refine jb_iload_n (pc' := 7) dX10_bestDifference_6 rfl rfl ?_
    refine jb_bipush (pc' := 9) 40 dX10_bestDifference_7 (by decide) rfl ?_
    refine jb_icmp_gt (tgt := 36) (pc' := 12) dX10_bestDifference_9 (by decide) rfl (fun _ => ?_) (fun z => absurd (nI_lt (a := 40) (b := g) (by omega) (by omega)) z)
    refine jb_iload_n (pc' := 37) dX10_bestDifference_36 rfl rfl ?_
    refine jb_iret dX10_bestDifference_37 rfl ?_
    exact ⟨b, ⟨h1, fun h hh => Nat.le_trans (h3 h (by omega)) h4, fun h hh => Nat.lt_of_lt_of_le (h5 h hh) h4⟩, rfl, rfl⟩
  | succ n ih =>
    intro g b m x4 hg h1 h2 h3 h4 h5
    have c40 := jz_n_le (f := nums) (zs := zs) (g := g) zs 0 0
    show jb_J _ RX10 cX10_bestDifference 5 (Option.some .int) false 2 0 0 6 [some (.ref 81), some (.int (nI b)), some (.int (nI m)), some (.int (nI g)), x4] [] [s0, s1, s2, s3, s4, s5, jb_sht81 Is nums Js Ws, s7, s8, s9, s10, s11] _
    refine jb_iload_n (pc' := 7) dX10_bestDifference_6 rfl rfl ?_
    refine jb_bipush (pc' := 9) 40 dX10_bestDifference_7 (by decide) rfl ?_
    refine jb_icmp_gt (tgt := 36) (pc' := 12) dX10_bestDifference_9 (by decide) rfl (fun z => absurd z (nI_nlt (a := 40) (b := g) (by omega) (by omega))) (fun _ => ?_)
    refine jb_aload_n (pc' := 13) dX10_bestDifference_12 rfl rfl ?_
    refine jb_iload_n (pc' := 14) dX10_bestDifference_13 rfl rfl ?_
    refine jb_callV (pc' := 17) (ci := 10) (q := 81) (As := [.int (nI g)]) (a2 := 0) (b2 := 0) wv_X10_73 rfl dX10_bestDifference_14 (c_diff_1 Is nums Js Ws zs h1s hzs g (by omega)) rfl rfl ⟨by decide, Nat.le_of_eq (Nat.zero_add _), Nat.le_of_eq (Nat.zero_add _)⟩ (Nat.le_of_ble_eq_true rfl) rfl (fun r h9 hq => ?_)
    obtain ⟨rfl, rfl⟩ := hq
    show jb_J _ RX10 cX10_bestDifference 5 (Option.some .int) false 2 0 0 17 [some (.ref 81), some (.int (nI b)), some (.int (nI m)), some (.int (nI g)), x4] [.int (nI (jz_n nums zs g zs 0 0))] [s0, s1, s2, s3, s4, s5, jb_sht81 Is nums Js Ws, s7, s8, s9, s10, s11] _
    refine jb_istore_ (pc' := 19) dX10_bestDifference_17 (by decide) (jb_at4 rfl) rfl ?_
    refine jb_iload (pc' := 21) dX10_bestDifference_19 rfl rfl ?_
    refine jb_iload_n (pc' := 22) dX10_bestDifference_21 rfl rfl ?_
    refine jb_icmp_le (tgt := 30) (pc' := 25) dX10_bestDifference_22 (by decide) rfl (fun c2 => ?_) (fun c2 => ?_)
    · have c2 : (jz_n nums zs g zs 0 0) ≤ m := (nI_leI (a := (jz_n nums zs g zs 0 0)) (b := m) (by omega) (by omega)).mp c2
      refine jb_iinc_ (pc' := 33) (nI (g + 1)) dX10_bestDifference_30 (by decide) rfl (jb_inc g 1) (jb_at3 rfl) rfl ?_
      refine jb_goto (pc' := 6) dX10_bestDifference_33 (by decide) ?_
      exact ih (g + 1) b m _ (by omega) h1 h2 (fun h hh => by by_cases e : h = g; (· rw [e]; show jz_n nums zs g zs 0 0 ≤ m; omega); (· exact h3 h (by omega))) h4 h5
    · have c2 : ¬ (jz_n nums zs g zs 0 0) ≤ m := fun z9 => c2 ((nI_leI (a := (jz_n nums zs g zs 0 0)) (b := m) (by omega) (by omega)).mpr z9)
      refine jb_iload (pc' := 27) dX10_bestDifference_25 rfl rfl ?_
      refine jb_istore_n_ (pc' := 28) dX10_bestDifference_27 (by decide) (jb_at2 rfl) rfl ?_
      refine jb_iload_n (pc' := 29) dX10_bestDifference_28 rfl rfl ?_
      refine jb_istore_n_ (pc' := 30) dX10_bestDifference_29 (by decide) (jb_at1 rfl) rfl ?_
      refine jb_iinc_ (pc' := 33) (nI (g + 1)) dX10_bestDifference_30 (by decide) rfl (jb_inc g 1) (jb_at3 rfl) rfl ?_
      refine jb_goto (pc' := 6) dX10_bestDifference_33 (by decide) ?_
      exact ih (g + 1) g (jz_n nums zs g zs 0 0) _ (by omega) (by omega) (by omega) (fun h hh => by by_cases e : h = g; (· rw [e]; exact Nat.le_refl _); (· exact Nat.le_of_lt (Nat.lt_of_le_of_lt (h3 h (by omega)) (by omega)))) (Nat.le_refl _) (fun h hh => Nat.lt_of_le_of_lt (h3 h hh) (by omega))
set_option maxRecDepth 100000 in
set_option maxHeartbeats 4000000 in
theorem c_best_1 {sc : Nat × (Nat → Int32)} {s0 s1 s2 s3 s4 s5 s7 s8 s9 s10 s11 : List va_E} (Is nums Js : Nat → Int32) (Ws : Nat → Nat → Int32) (zs : Nat) (h1s : Is 1 = nI zs) (hzs : zs ≤ 40) : jb_C sc yX10_bestDifference cX10_bestDifference 5 (Option.some .int) 2 0 0 [.ref 81] [s0, s1, s2, s3, s4, s5, jb_sht81 Is nums Js Ws, s7, s8, s9, s10, s11] (fun r h9 => ∃ b, jz_B (fun g => jz_n nums zs g zs 0 0) b ∧ r = some (.int (nI b)) ∧ [s0, s1, s2, s3, s4, s5, jb_sht81 Is nums Js Ws, s7, s8, s9, s10, s11] = h9) := by
  refine jb_CofJ (ini := false) (by decide +kernel) (fun h => by cases h) (Nat.le_of_ble_eq_true rfl) ?_
  show jb_J sc RX10 cX10_bestDifference 5 (Option.some .int) false 2 0 0 0 [some (.ref 81), none, none, none, none] [] [s0, s1, s2, s3, s4, s5, jb_sht81 Is nums Js Ws, s7, s8, s9, s10, s11] _
  refine jb_iconst (pc' := 1) 0 dX10_bestDifference_0 (by decide) rfl ?_
  refine jb_istore_n_ (pc' := 2) dX10_bestDifference_1 (by decide) (jb_at1 rfl) rfl ?_
  refine jb_iconst (pc' := 3) 0 dX10_bestDifference_2 (by decide) rfl ?_
  refine jb_istore_n_ (pc' := 4) dX10_bestDifference_3 (by decide) (jb_at2 rfl) rfl ?_
  refine jb_iconst (pc' := 5) 0 dX10_bestDifference_4 (by decide) rfl ?_
  refine jb_istore_n_ (pc' := 6) dX10_bestDifference_5 (by decide) (jb_at3 rfl) rfl ?_
  exact l_best_1 Is nums Js Ws zs h1s hzs 41 0 0 0 _ (by omega) (by omega) (by omega) (fun h hh => absurd hh (by omega)) (Nat.zero_le _) (fun h hh => absurd hh (by omega))
set_option maxRecDepth 100000 in
set_option maxHeartbeats 4000000 in
theorem kx_heard0_1 {sc : Nat × (Nat → Int32)} {s1 s2 s3 s5 s7 s8 s9 s10 s11 : List va_E} (imm : Int32) (Im rowm stkm tpm : Nat → Int32) (Tm : Nat → Value) (Is nums Js : Nat → Int32) (Ws : Nat → Nat → Int32) {bs zs : Nat} (h0s : Is 0 = nI bs) (h1s : Is 1 = nI zs) (hbs : bs ≤ 32) (hzs : zs ≤ 40) (hm : ¬ bs = 0) (h2 : 2 ≤ zs) : jb_C sc yX11_heard cX11_heard 5 (Option.some .int) 3 0 0 [.ref 0, .int 1, .int 0] [jb_main imm Im Tm rowm stkm tpm, s1, s2, s3, jb_shs, s5, jb_sht81 Is nums Js Ws, s7, s8, s9, s10, s11] (fun r h9 => ∃ b9, jz_B (fun g => jz_n nums zs g zs 0 0) b9 ∧ r = some (.int (nI b9)) ∧ [jb_main imm Im Tm rowm stkm tpm, s1, s2, s3, jb_shs, s5, jb_sht81 Is nums Js Ws, s7, s8, s9, s10, s11] = h9) := by
  refine jb_CofJ (ini := false) (by decide +kernel) (fun h => by cases h) (Nat.le_of_ble_eq_true rfl) ?_
  show jb_J sc RX11 cX11_heard 5 (Option.some .int) false 3 0 0 0 [some (.ref 0), some (.int 1), some (.int 0), none, none] [] [jb_main imm Im Tm rowm stkm tpm, s1, s2, s3, jb_shs, s5, jb_sht81 Is nums Js Ws, s7, s8, s9, s10, s11] _
  refine jb_aload_n (pc' := 1) dX11_heard_0 rfl rfl ?_
  refine jb_iload_n (pc' := 2) dX11_heard_1 rfl rfl ?_
  refine jb_callV (pc' := 5) (ci := 11) (q := 0) (As := [.int 1]) (a2 := 0) (b2 := 0) wv_X11_165 rfl dX11_heard_2 (c_isNoSheetG _ 1 (by omega)) rfl rfl ⟨by decide, Nat.le_of_eq (Nat.zero_add _), Nat.le_of_eq (Nat.zero_add _)⟩ (Nat.le_of_ble_eq_true rfl) rfl (fun r h9 hq => ?_)
  obtain ⟨rfl, rfl⟩ := hq
  show jb_J _ RX11 cX11_heard 5 (Option.some .int) false 3 0 0 5 [some (.ref 0), some (.int 1), some (.int 0), none, none] [.int 0] [jb_main imm Im Tm rowm stkm tpm, s1, s2, s3, jb_shs, s5, jb_sht81 Is nums Js Ws, s7, s8, s9, s10, s11] _
  refine jb_if_ne (tgt := 17) (pc' := 8) dX11_heard_5 (by decide) rfl (fun z => absurd (by decide) z) (fun _ => ?_)
  refine jb_iload_n (pc' := 9) dX11_heard_8 rfl rfl ?_
  refine jb_iconst (pc' := 10) 0 dX11_heard_9 (by decide) rfl ?_
  refine jb_iconst (pc' := 11) 2 dX11_heard_10 (by decide) rfl ?_
  refine jb_callS (pc' := 14) (As := [.int 0, .int 0, .int 2]) (a2 := 0) (b2 := 0) wv_X11_74 dX11_heard_11 (c_isOutLG 0 0 2 (by omega) (by omega) (by omega)) rfl ⟨by decide, Nat.le_of_eq (Nat.zero_add _), Nat.le_of_eq (Nat.zero_add _)⟩ (Nat.le_of_ble_eq_true rfl) rfl (fun r h9 hq => ?_)
  obtain ⟨rfl, rfl⟩ := hq
  show jb_J _ RX11 cX11_heard 5 (Option.some .int) false 3 0 0 14 [some (.ref 0), some (.int 1), some (.int 0), none, none] [.int 0] [jb_main imm Im Tm rowm stkm tpm, s1, s2, s3, jb_shs, s5, jb_sht81 Is nums Js Ws, s7, s8, s9, s10, s11] _
  refine jb_if_eq (tgt := 23) (pc' := 17) dX11_heard_14 (by decide) rfl (fun _ => ?_) (fun z => absurd (by decide) z)
  refine jb_aload_n (pc' := 24) dX11_heard_23 rfl rfl ?_
  refine gf_X11_54 (pc' := 27) (v := .ref 73) dX11_heard_24 rfl rfl rfl ?_
  refine jb_iload_n (pc' := 28) dX11_heard_27 rfl rfl ?_
  refine jb_aaload (pc' := 29) (i9 := 1) (r := 81) (Or.inr (Or.inr rfl)) dX11_heard_28 rfl jb_x1 (by decide) rfl rfl ?_
  refine jb_astore_n_ (pc' := 30) dX11_heard_29 (by decide) (jb_at3 rfl) rfl ?_
  refine jb_aload_n (pc' := 31) dX11_heard_30 rfl rfl ?_
  refine jb_callV (pc' := 34) (ci := 10) (q := 81) (As := []) (a2 := 0) (b2 := 0) wv_X11_168 rfl dX11_heard_31 (c_isMissing_1 Is nums Js Ws h0s h1s hbs hzs) rfl rfl ⟨by decide, Nat.le_of_eq (Nat.zero_add _), Nat.le_of_eq (Nat.zero_add _)⟩ (Nat.le_of_ble_eq_true rfl) rfl (fun r h9 hq => ?_)
  rcases hq with ⟨rfl, ⟨hms, rfl⟩ | ⟨hms, rfl⟩⟩
  · exact absurd hms hm
  · show jb_J _ RX11 cX11_heard 5 (Option.some .int) false 3 0 0 34 [some (.ref 0), some (.int 1), some (.int 0), some (.ref 81), none] [.int 0] [jb_main imm Im Tm rowm stkm tpm, s1, s2, s3, jb_shs, s5, jb_sht81 Is nums Js Ws, s7, s8, s9, s10, s11] _
    refine jb_if_ne (tgt := 45) (pc' := 37) dX11_heard_34 (by decide) rfl (fun z => absurd (by decide) z) (fun _ => ?_)
    refine jb_aload_n (pc' := 38) dX11_heard_37 rfl rfl ?_
    refine gf_X11_184 (pc' := 41) (v := .int (Is 1)) dX11_heard_38 rfl rfl rfl ?_
    refine jb_top (v := .int (Is 1)) (w := .int (nI zs)) (jb_vI h1s) ?_
    refine jb_iconst (pc' := 42) 2 dX11_heard_41 (by decide) rfl ?_
    refine jb_icmp_ge (tgt := 51) (pc' := 45) dX11_heard_42 (by decide) rfl (fun _ => ?_) (fun z => absurd (nI_le (a := 2) (b := zs) (by omega) (by omega)) z)
    refine jb_aload_n (pc' := 52) dX11_heard_51 rfl rfl ?_
    refine jb_callV (pc' := 55) (ci := 10) (q := 81) (As := []) (a2 := 0) (b2 := 0) wv_X11_187 rfl dX11_heard_52 (c_best_1 Is nums Js Ws zs h1s hzs) rfl rfl ⟨by decide, Nat.le_of_eq (Nat.zero_add _), Nat.le_of_eq (Nat.zero_add _)⟩ (Nat.le_of_ble_eq_true rfl) rfl (fun r h9 hq => ?_)
    obtain ⟨b9, hB, rfl, rfl⟩ := hq
    show jb_J _ RX11 cX11_heard 5 (Option.some .int) false 3 0 0 55 [some (.ref 0), some (.int 1), some (.int 0), some (.ref 81), none] [.int (nI b9)] [jb_main imm Im Tm rowm stkm tpm, s1, s2, s3, jb_shs, s5, jb_sht81 Is nums Js Ws, s7, s8, s9, s10, s11] _
    refine jb_istore_ (pc' := 57) dX11_heard_55 (by decide) (jb_at4 rfl) rfl ?_
    refine jb_iload_n (pc' := 58) dX11_heard_57 rfl rfl ?_
    refine jb_if_ne (tgt := 64) (pc' := 61) dX11_heard_58 (by decide) rfl (fun z => absurd (by decide) z) (fun _ => ?_)
    refine jb_iload (pc' := 63) dX11_heard_61 rfl rfl ?_
    refine jb_iret dX11_heard_63 rfl ?_
    exact ⟨b9, hB, rfl, rfl⟩
set_option maxRecDepth 100000 in
set_option maxHeartbeats 4000000 in
theorem kx_heard1_1 {sc : Nat × (Nat → Int32)} {s1 s2 s3 s5 s7 s8 s9 s10 s11 : List va_E} (imm : Int32) (Im rowm stkm tpm : Nat → Int32) (Tm : Nat → Value) (Is nums Js : Nat → Int32) (Ws : Nat → Nat → Int32) {bs zs : Nat} (h0s : Is 0 = nI bs) (h1s : Is 1 = nI zs) (hbs : bs ≤ 32) (hzs : zs ≤ 40) (hm : ¬ bs = 0) (h2 : 2 ≤ zs) : jb_C sc yX11_heard cX11_heard 5 (Option.some .int) 3 0 0 [.ref 0, .int 1, .int 1] [jb_main imm Im Tm rowm stkm tpm, s1, s2, s3, jb_shs, s5, jb_sht81 Is nums Js Ws, s7, s8, s9, s10, s11] (fun r h9 => ∃ b9, jz_B (fun g => jz_n nums zs g zs 0 0) b9 ∧ r = some (.int (nI (jz_n nums zs b9 zs 0 0))) ∧ [jb_main imm Im Tm rowm stkm tpm, s1, s2, s3, jb_shs, s5, jb_sht81 Is nums Js Ws, s7, s8, s9, s10, s11] = h9) := by
  refine jb_CofJ (ini := false) (by decide +kernel) (fun h => by cases h) (Nat.le_of_ble_eq_true rfl) ?_
  show jb_J sc RX11 cX11_heard 5 (Option.some .int) false 3 0 0 0 [some (.ref 0), some (.int 1), some (.int 1), none, none] [] [jb_main imm Im Tm rowm stkm tpm, s1, s2, s3, jb_shs, s5, jb_sht81 Is nums Js Ws, s7, s8, s9, s10, s11] _
  refine jb_aload_n (pc' := 1) dX11_heard_0 rfl rfl ?_
  refine jb_iload_n (pc' := 2) dX11_heard_1 rfl rfl ?_
  refine jb_callV (pc' := 5) (ci := 11) (q := 0) (As := [.int 1]) (a2 := 0) (b2 := 0) wv_X11_165 rfl dX11_heard_2 (c_isNoSheetG _ 1 (by omega)) rfl rfl ⟨by decide, Nat.le_of_eq (Nat.zero_add _), Nat.le_of_eq (Nat.zero_add _)⟩ (Nat.le_of_ble_eq_true rfl) rfl (fun r h9 hq => ?_)
  obtain ⟨rfl, rfl⟩ := hq
  show jb_J _ RX11 cX11_heard 5 (Option.some .int) false 3 0 0 5 [some (.ref 0), some (.int 1), some (.int 1), none, none] [.int 0] [jb_main imm Im Tm rowm stkm tpm, s1, s2, s3, jb_shs, s5, jb_sht81 Is nums Js Ws, s7, s8, s9, s10, s11] _
  refine jb_if_ne (tgt := 17) (pc' := 8) dX11_heard_5 (by decide) rfl (fun z => absurd (by decide) z) (fun _ => ?_)
  refine jb_iload_n (pc' := 9) dX11_heard_8 rfl rfl ?_
  refine jb_iconst (pc' := 10) 0 dX11_heard_9 (by decide) rfl ?_
  refine jb_iconst (pc' := 11) 2 dX11_heard_10 (by decide) rfl ?_
  refine jb_callS (pc' := 14) (As := [.int 1, .int 0, .int 2]) (a2 := 0) (b2 := 0) wv_X11_74 dX11_heard_11 (c_isOutLG 1 0 2 (by omega) (by omega) (by omega)) rfl ⟨by decide, Nat.le_of_eq (Nat.zero_add _), Nat.le_of_eq (Nat.zero_add _)⟩ (Nat.le_of_ble_eq_true rfl) rfl (fun r h9 hq => ?_)
  obtain ⟨rfl, rfl⟩ := hq
  show jb_J _ RX11 cX11_heard 5 (Option.some .int) false 3 0 0 14 [some (.ref 0), some (.int 1), some (.int 1), none, none] [.int 0] [jb_main imm Im Tm rowm stkm tpm, s1, s2, s3, jb_shs, s5, jb_sht81 Is nums Js Ws, s7, s8, s9, s10, s11] _
  refine jb_if_eq (tgt := 23) (pc' := 17) dX11_heard_14 (by decide) rfl (fun _ => ?_) (fun z => absurd (by decide) z)
  refine jb_aload_n (pc' := 24) dX11_heard_23 rfl rfl ?_
  refine gf_X11_54 (pc' := 27) (v := .ref 73) dX11_heard_24 rfl rfl rfl ?_
  refine jb_iload_n (pc' := 28) dX11_heard_27 rfl rfl ?_
  refine jb_aaload (pc' := 29) (i9 := 1) (r := 81) (Or.inr (Or.inr rfl)) dX11_heard_28 rfl jb_x1 (by decide) rfl rfl ?_
  refine jb_astore_n_ (pc' := 30) dX11_heard_29 (by decide) (jb_at3 rfl) rfl ?_
  refine jb_aload_n (pc' := 31) dX11_heard_30 rfl rfl ?_
  refine jb_callV (pc' := 34) (ci := 10) (q := 81) (As := []) (a2 := 0) (b2 := 0) wv_X11_168 rfl dX11_heard_31 (c_isMissing_1 Is nums Js Ws h0s h1s hbs hzs) rfl rfl ⟨by decide, Nat.le_of_eq (Nat.zero_add _), Nat.le_of_eq (Nat.zero_add _)⟩ (Nat.le_of_ble_eq_true rfl) rfl (fun r h9 hq => ?_)
  rcases hq with ⟨rfl, ⟨hms, rfl⟩ | ⟨hms, rfl⟩⟩
  · exact absurd hms hm
  · show jb_J _ RX11 cX11_heard 5 (Option.some .int) false 3 0 0 34 [some (.ref 0), some (.int 1), some (.int 1), some (.ref 81), none] [.int 0] [jb_main imm Im Tm rowm stkm tpm, s1, s2, s3, jb_shs, s5, jb_sht81 Is nums Js Ws, s7, s8, s9, s10, s11] _
    refine jb_if_ne (tgt := 45) (pc' := 37) dX11_heard_34 (by decide) rfl (fun z => absurd (by decide) z) (fun _ => ?_)
    refine jb_aload_n (pc' := 38) dX11_heard_37 rfl rfl ?_
    refine gf_X11_184 (pc' := 41) (v := .int (Is 1)) dX11_heard_38 rfl rfl rfl ?_
    refine jb_top (v := .int (Is 1)) (w := .int (nI zs)) (jb_vI h1s) ?_
    refine jb_iconst (pc' := 42) 2 dX11_heard_41 (by decide) rfl ?_
    refine jb_icmp_ge (tgt := 51) (pc' := 45) dX11_heard_42 (by decide) rfl (fun _ => ?_) (fun z => absurd (nI_le (a := 2) (b := zs) (by omega) (by omega)) z)
    refine jb_aload_n (pc' := 52) dX11_heard_51 rfl rfl ?_
    refine jb_callV (pc' := 55) (ci := 10) (q := 81) (As := []) (a2 := 0) (b2 := 0) wv_X11_187 rfl dX11_heard_52 (c_best_1 Is nums Js Ws zs h1s hzs) rfl rfl ⟨by decide, Nat.le_of_eq (Nat.zero_add _), Nat.le_of_eq (Nat.zero_add _)⟩ (Nat.le_of_ble_eq_true rfl) rfl (fun r h9 hq => ?_)
    obtain ⟨b9, hB, rfl, rfl⟩ := hq
    show jb_J _ RX11 cX11_heard 5 (Option.some .int) false 3 0 0 55 [some (.ref 0), some (.int 1), some (.int 1), some (.ref 81), none] [.int (nI b9)] [jb_main imm Im Tm rowm stkm tpm, s1, s2, s3, jb_shs, s5, jb_sht81 Is nums Js Ws, s7, s8, s9, s10, s11] _
    refine jb_istore_ (pc' := 57) dX11_heard_55 (by decide) (jb_at4 rfl) rfl ?_
    refine jb_iload_n (pc' := 58) dX11_heard_57 rfl rfl ?_
    refine jb_if_ne (tgt := 64) (pc' := 61) dX11_heard_58 (by decide) rfl (fun _ => ?_) (fun z => absurd z (by decide))
    refine jb_iload_n (pc' := 65) dX11_heard_64 rfl rfl ?_
    refine jb_iconst (pc' := 66) 1 dX11_heard_65 (by decide) rfl ?_
    refine jb_icmp_ne (tgt := 78) (pc' := 69) dX11_heard_66 (by decide) rfl (fun z => absurd (by decide) z) (fun _ => ?_)
    refine jb_aload_n (pc' := 70) dX11_heard_69 rfl rfl ?_
    refine jb_iload (pc' := 72) dX11_heard_70 rfl rfl ?_
    refine jb_callV (pc' := 75) (ci := 10) (q := 81) (As := [.int (nI b9)]) (a2 := 0) (b2 := 0) wv_X11_190 rfl dX11_heard_72 (c_diff_1 Is nums Js Ws zs h1s hzs b9 hB.1) rfl rfl ⟨by decide, Nat.le_of_eq (Nat.zero_add _), Nat.le_of_eq (Nat.zero_add _)⟩ (Nat.le_of_ble_eq_true rfl) rfl (fun r h9 hq => ?_)
    obtain ⟨rfl, rfl⟩ := hq
    show jb_J _ RX11 cX11_heard 5 (Option.some .int) false 3 0 0 75 [some (.ref 0), some (.int 1), some (.int 1), some (.ref 81), some (.int (nI b9))] [.int (nI (jz_n nums zs b9 zs 0 0))] [jb_main imm Im Tm rowm stkm tpm, s1, s2, s3, jb_shs, s5, jb_sht81 Is nums Js Ws, s7, s8, s9, s10, s11] _
    refine jb_goto (pc' := 84) dX11_heard_75 (by decide) ?_
    refine jb_iret dX11_heard_84 rfl ?_
    exact ⟨b9, hB, rfl, rfl⟩
set_option maxRecDepth 100000 in
set_option maxHeartbeats 4000000 in
theorem kx_heard2_1 {sc : Nat × (Nat → Int32)} {s1 s2 s3 s5 s7 s8 s9 s10 s11 : List va_E} (imm : Int32) (Im rowm stkm tpm : Nat → Int32) (Tm : Nat → Value) (Is nums Js : Nat → Int32) (Ws : Nat → Nat → Int32) {bs zs : Nat} (h0s : Is 0 = nI bs) (h1s : Is 1 = nI zs) (hbs : bs ≤ 32) (hzs : zs ≤ 40) (hm : ¬ bs = 0) (h2 : 2 ≤ zs) : jb_C sc yX11_heard cX11_heard 5 (Option.some .int) 3 0 0 [.ref 0, .int 1, .int 2] [jb_main imm Im Tm rowm stkm tpm, s1, s2, s3, jb_shs, s5, jb_sht81 Is nums Js Ws, s7, s8, s9, s10, s11] (fun r h9 => ∃ b9, jz_B (fun g => jz_n nums zs g zs 0 0) b9 ∧ r = some (.int (nI (jz_f nums zs b9 zs 0 0))) ∧ [jb_main imm Im Tm rowm stkm tpm, s1, s2, s3, jb_shs, s5, jb_sht81 Is nums Js Ws, s7, s8, s9, s10, s11] = h9) := by
  refine jb_CofJ (ini := false) (by decide +kernel) (fun h => by cases h) (Nat.le_of_ble_eq_true rfl) ?_
  show jb_J sc RX11 cX11_heard 5 (Option.some .int) false 3 0 0 0 [some (.ref 0), some (.int 1), some (.int 2), none, none] [] [jb_main imm Im Tm rowm stkm tpm, s1, s2, s3, jb_shs, s5, jb_sht81 Is nums Js Ws, s7, s8, s9, s10, s11] _
  refine jb_aload_n (pc' := 1) dX11_heard_0 rfl rfl ?_
  refine jb_iload_n (pc' := 2) dX11_heard_1 rfl rfl ?_
  refine jb_callV (pc' := 5) (ci := 11) (q := 0) (As := [.int 1]) (a2 := 0) (b2 := 0) wv_X11_165 rfl dX11_heard_2 (c_isNoSheetG _ 1 (by omega)) rfl rfl ⟨by decide, Nat.le_of_eq (Nat.zero_add _), Nat.le_of_eq (Nat.zero_add _)⟩ (Nat.le_of_ble_eq_true rfl) rfl (fun r h9 hq => ?_)
  obtain ⟨rfl, rfl⟩ := hq
  show jb_J _ RX11 cX11_heard 5 (Option.some .int) false 3 0 0 5 [some (.ref 0), some (.int 1), some (.int 2), none, none] [.int 0] [jb_main imm Im Tm rowm stkm tpm, s1, s2, s3, jb_shs, s5, jb_sht81 Is nums Js Ws, s7, s8, s9, s10, s11] _
  refine jb_if_ne (tgt := 17) (pc' := 8) dX11_heard_5 (by decide) rfl (fun z => absurd (by decide) z) (fun _ => ?_)
  refine jb_iload_n (pc' := 9) dX11_heard_8 rfl rfl ?_
  refine jb_iconst (pc' := 10) 0 dX11_heard_9 (by decide) rfl ?_
  refine jb_iconst (pc' := 11) 2 dX11_heard_10 (by decide) rfl ?_
  refine jb_callS (pc' := 14) (As := [.int 2, .int 0, .int 2]) (a2 := 0) (b2 := 0) wv_X11_74 dX11_heard_11 (c_isOutLG 2 0 2 (by omega) (by omega) (by omega)) rfl ⟨by decide, Nat.le_of_eq (Nat.zero_add _), Nat.le_of_eq (Nat.zero_add _)⟩ (Nat.le_of_ble_eq_true rfl) rfl (fun r h9 hq => ?_)
  obtain ⟨rfl, rfl⟩ := hq
  show jb_J _ RX11 cX11_heard 5 (Option.some .int) false 3 0 0 14 [some (.ref 0), some (.int 1), some (.int 2), none, none] [.int 0] [jb_main imm Im Tm rowm stkm tpm, s1, s2, s3, jb_shs, s5, jb_sht81 Is nums Js Ws, s7, s8, s9, s10, s11] _
  refine jb_if_eq (tgt := 23) (pc' := 17) dX11_heard_14 (by decide) rfl (fun _ => ?_) (fun z => absurd (by decide) z)
  refine jb_aload_n (pc' := 24) dX11_heard_23 rfl rfl ?_
  refine gf_X11_54 (pc' := 27) (v := .ref 73) dX11_heard_24 rfl rfl rfl ?_
  refine jb_iload_n (pc' := 28) dX11_heard_27 rfl rfl ?_
  refine jb_aaload (pc' := 29) (i9 := 1) (r := 81) (Or.inr (Or.inr rfl)) dX11_heard_28 rfl jb_x1 (by decide) rfl rfl ?_
  refine jb_astore_n_ (pc' := 30) dX11_heard_29 (by decide) (jb_at3 rfl) rfl ?_
  refine jb_aload_n (pc' := 31) dX11_heard_30 rfl rfl ?_
  refine jb_callV (pc' := 34) (ci := 10) (q := 81) (As := []) (a2 := 0) (b2 := 0) wv_X11_168 rfl dX11_heard_31 (c_isMissing_1 Is nums Js Ws h0s h1s hbs hzs) rfl rfl ⟨by decide, Nat.le_of_eq (Nat.zero_add _), Nat.le_of_eq (Nat.zero_add _)⟩ (Nat.le_of_ble_eq_true rfl) rfl (fun r h9 hq => ?_)
  rcases hq with ⟨rfl, ⟨hms, rfl⟩ | ⟨hms, rfl⟩⟩
  · exact absurd hms hm
  · show jb_J _ RX11 cX11_heard 5 (Option.some .int) false 3 0 0 34 [some (.ref 0), some (.int 1), some (.int 2), some (.ref 81), none] [.int 0] [jb_main imm Im Tm rowm stkm tpm, s1, s2, s3, jb_shs, s5, jb_sht81 Is nums Js Ws, s7, s8, s9, s10, s11] _
    refine jb_if_ne (tgt := 45) (pc' := 37) dX11_heard_34 (by decide) rfl (fun z => absurd (by decide) z) (fun _ => ?_)
    refine jb_aload_n (pc' := 38) dX11_heard_37 rfl rfl ?_
    refine gf_X11_184 (pc' := 41) (v := .int (Is 1)) dX11_heard_38 rfl rfl rfl ?_
    refine jb_top (v := .int (Is 1)) (w := .int (nI zs)) (jb_vI h1s) ?_
    refine jb_iconst (pc' := 42) 2 dX11_heard_41 (by decide) rfl ?_
    refine jb_icmp_ge (tgt := 51) (pc' := 45) dX11_heard_42 (by decide) rfl (fun _ => ?_) (fun z => absurd (nI_le (a := 2) (b := zs) (by omega) (by omega)) z)
    refine jb_aload_n (pc' := 52) dX11_heard_51 rfl rfl ?_
    refine jb_callV (pc' := 55) (ci := 10) (q := 81) (As := []) (a2 := 0) (b2 := 0) wv_X11_187 rfl dX11_heard_52 (c_best_1 Is nums Js Ws zs h1s hzs) rfl rfl ⟨by decide, Nat.le_of_eq (Nat.zero_add _), Nat.le_of_eq (Nat.zero_add _)⟩ (Nat.le_of_ble_eq_true rfl) rfl (fun r h9 hq => ?_)
    obtain ⟨b9, hB, rfl, rfl⟩ := hq
    show jb_J _ RX11 cX11_heard 5 (Option.some .int) false 3 0 0 55 [some (.ref 0), some (.int 1), some (.int 2), some (.ref 81), none] [.int (nI b9)] [jb_main imm Im Tm rowm stkm tpm, s1, s2, s3, jb_shs, s5, jb_sht81 Is nums Js Ws, s7, s8, s9, s10, s11] _
    refine jb_istore_ (pc' := 57) dX11_heard_55 (by decide) (jb_at4 rfl) rfl ?_
    refine jb_iload_n (pc' := 58) dX11_heard_57 rfl rfl ?_
    refine jb_if_ne (tgt := 64) (pc' := 61) dX11_heard_58 (by decide) rfl (fun _ => ?_) (fun z => absurd z (by decide))
    refine jb_iload_n (pc' := 65) dX11_heard_64 rfl rfl ?_
    refine jb_iconst (pc' := 66) 1 dX11_heard_65 (by decide) rfl ?_
    refine jb_icmp_ne (tgt := 78) (pc' := 69) dX11_heard_66 (by decide) rfl (fun _ => ?_) (fun z => absurd z (by decide))
    refine jb_aload_n (pc' := 79) dX11_heard_78 rfl rfl ?_
    refine jb_iload (pc' := 81) dX11_heard_79 rfl rfl ?_
    refine jb_callV (pc' := 84) (ci := 10) (q := 81) (As := [.int (nI b9)]) (a2 := 0) (b2 := 0) wv_X11_193 rfl dX11_heard_81 (c_first_1 Is nums Js Ws zs h1s hzs b9 hB.1) rfl rfl ⟨by decide, Nat.le_of_eq (Nat.zero_add _), Nat.le_of_eq (Nat.zero_add _)⟩ (Nat.le_of_ble_eq_true rfl) rfl (fun r h9 hq => ?_)
    obtain ⟨rfl, rfl⟩ := hq
    show jb_J _ RX11 cX11_heard 5 (Option.some .int) false 3 0 0 84 [some (.ref 0), some (.int 1), some (.int 2), some (.ref 81), some (.int (nI b9))] [.int (nI (jz_f nums zs b9 zs 0 0))] [jb_main imm Im Tm rowm stkm tpm, s1, s2, s3, jb_shs, s5, jb_sht81 Is nums Js Ws, s7, s8, s9, s10, s11] _
    refine jb_iret dX11_heard_84 rfl ?_
    exact ⟨b9, hB, rfl, rfl⟩
set_option maxRecDepth 100000 in
set_option maxHeartbeats 4000000 in
theorem l_diff_2 {sc : Nat × (Nat → Int32)} {s0 s1 s2 s3 s4 s5 s6 s8 s9 s10 s11 : List va_E} (Is nums Js : Nat → Int32) (Ws : Nat → Nat → Int32) (zs : Nat) (h1s : Is 1 = nI zs) (hzs : zs ≤ 40) (g : Nat) (hg : g ≤ 40) : ∀ (n i k : Nat), zs ≤ i + 2 * n → i ≤ zs + 2 → k ≤ i → jb_J sc RX10 cX10_differing 4 (Option.some .int) false 1 0 0 4 [some (.ref 88), some (.int (nI g)), some (.int (nI k)), some (.int (nI i))] [] [s0, s1, s2, s3, s4, s5, s6, jb_sht88 Is nums Js Ws, s8, s9, s10, s11] (fun r h9 => r = some (.int (nI (jz_n nums zs g n i k))) ∧ [s0, s1, s2, s3, s4, s5, s6, jb_sht88 Is nums Js Ws, s8, s9, s10, s11] = h9) := by
  intro n
  induction n with
  | zero =>
    intro i k hi hi2 hk
    show jb_J _ RX10 cX10_differing 4 (Option.some .int) false 1 0 0 4 [some (.ref 88), some (.int (nI g)), some (.int (nI k)), some (.int (nI i))] [] [s0, s1, s2, s3, s4, s5, s6, jb_sht88 Is nums Js Ws, s8, s9, s10, s11] _
    refine jb_iload_n (pc' := 5) dX10_differing_4 rfl rfl ?_
    refine jb_iconst (pc' := 6) 1 dX10_differing_5 (by decide) rfl ?_
    refine jb_iadd (pc' := 7) dX10_differing_6 rfl ?_
    refine jb_top (v := .int ((nI i) + 1)) (w := .int (nI (i + 1))) (jb_vI (nI_add _ 1)) ?_
    refine jb_aload_n (pc' := 8) dX10_differing_7 rfl rfl ?_
    refine gf_X10_15 (pc' := 11) (v := .int (Is 1)) dX10_differing_8 rfl rfl rfl ?_
    refine jb_top (v := .int (Is 1)) (w := .int (nI zs)) (jb_vI h1s) ?_
    refine jb_icmp_ge (tgt := 49) (pc' := 14) dX10_differing_11 (by decide) rfl (fun _ => ?_) (fun z => absurd (nI_le (a := zs) (b := i + 1) (by omega) (by omega)) z)
    refine jb_iload_n (pc' := 50) dX10_differing_49 rfl rfl ?_
    refine jb_iret dX10_differing_50 rfl ?_
    exact ⟨rfl, rfl⟩
  | succ n ih =>
    intro i k hi hi2 hk
    by_cases hi1 : i + 1 < zs
    · have eG : jz_n nums zs g (n + 1) i k = jz_n nums zs g n (i + 2) (if jz_d nums i = g then k + 1 else k) := if_pos hi1
      by_cases hv : jz_d nums i = g
      · rw [if_pos hv] at eG
        rw [eG]
        show jb_J _ RX10 cX10_differing 4 (Option.some .int) false 1 0 0 4 [some (.ref 88), some (.int (nI g)), some (.int (nI k)), some (.int (nI i))] [] [s0, s1, s2, s3, s4, s5, s6, jb_sht88 Is nums Js Ws, s8, s9, s10, s11] _
        refine jb_iload_n (pc' := 5) dX10_differing_4 rfl rfl ?_
        refine jb_iconst (pc' := 6) 1 dX10_differing_5 (by decide) rfl ?_
        refine jb_iadd (pc' := 7) dX10_differing_6 rfl ?_
        refine jb_top (v := .int ((nI i) + 1)) (w := .int (nI (i + 1))) (jb_vI (nI_add _ 1)) ?_
        refine jb_aload_n (pc' := 8) dX10_differing_7 rfl rfl ?_
        refine gf_X10_15 (pc' := 11) (v := .int (Is 1)) dX10_differing_8 rfl rfl rfl ?_
        refine jb_top (v := .int (Is 1)) (w := .int (nI zs)) (jb_vI h1s) ?_
        refine jb_icmp_ge (tgt := 49) (pc' := 14) dX10_differing_11 (by decide) rfl (fun z => absurd z (nI_ge (a := i + 1) (b := zs) (by omega) (by omega))) (fun _ => ?_)
        refine jb_aload_n (pc' := 15) dX10_differing_14 rfl rfl ?_
        refine gf_X10_18 (pc' := 18) (v := .ref 89) dX10_differing_15 rfl rfl rfl ?_
        refine jb_iload_n (pc' := 19) dX10_differing_18 rfl rfl ?_
        refine jb_iaload (pc' := 20) (i9 := i) (f := nums) dX10_differing_19 rfl (jb_ix_nI (by omega)) (by omega) rfl ?_
        refine jb_i2l (pc' := 21) dX10_differing_20 rfl ?_
        refine jb_aload_n (pc' := 22) dX10_differing_21 rfl rfl ?_
        refine gf_X10_18 (pc' := 25) (v := .ref 89) dX10_differing_22 rfl rfl rfl ?_
        refine jb_iload_n (pc' := 26) dX10_differing_25 rfl rfl ?_
        refine jb_iconst (pc' := 27) 1 dX10_differing_26 (by decide) rfl ?_
        refine jb_iadd (pc' := 28) dX10_differing_27 rfl ?_
        refine jb_top (v := .int ((nI i) + 1)) (w := .int (nI (i + 1))) (jb_vI (nI_add _ 1)) ?_
        refine jb_iaload (pc' := 29) (i9 := (i + 1)) (f := nums) dX10_differing_28 rfl (jb_ix_nI (by omega)) (by omega) rfl ?_
        refine jb_i2l (pc' := 30) dX10_differing_29 rfl ?_
        refine jb_lsub (pc' := 31) dX10_differing_30 rfl ?_
        refine jb_mabsl (pc' := 34) wv_X10_77 dX10_differing_31 (by decide) (Nat.le_of_ble_eq_true rfl) rfl ?_
        refine jb_iload_n (pc' := 35) dX10_differing_34 rfl rfl ?_
        refine jb_i2l (pc' := 36) dX10_differing_35 rfl ?_
        refine jb_lcmp (pc' := 37) dX10_differing_36 rfl ?_
        refine jb_if_ne (tgt := 43) (pc' := 40) dX10_differing_37 (by decide) rfl (fun z => absurd (jl_eq.mpr ((jz_abs _ _ hg).mpr hv)) z) (fun _ => ?_)
        refine jb_iinc_ (pc' := 43) (nI (k + 1)) dX10_differing_40 (by decide) rfl (jb_inc k 1) (jb_at2 rfl) rfl ?_
        refine jb_iinc_ (pc' := 46) (nI (i + 2)) dX10_differing_43 (by decide) rfl (jb_inc i 2) (jb_at3 rfl) rfl ?_
        refine jb_goto (pc' := 4) dX10_differing_46 (by decide) ?_
        exact ih (i + 2) (k + 1) (by omega) (by omega) (by omega)
      · rw [if_neg hv] at eG
        rw [eG]
        show jb_J _ RX10 cX10_differing 4 (Option.some .int) false 1 0 0 4 [some (.ref 88), some (.int (nI g)), some (.int (nI k)), some (.int (nI i))] [] [s0, s1, s2, s3, s4, s5, s6, jb_sht88 Is nums Js Ws, s8, s9, s10, s11] _
        refine jb_iload_n (pc' := 5) dX10_differing_4 rfl rfl ?_
        refine jb_iconst (pc' := 6) 1 dX10_differing_5 (by decide) rfl ?_
        refine jb_iadd (pc' := 7) dX10_differing_6 rfl ?_
        refine jb_top (v := .int ((nI i) + 1)) (w := .int (nI (i + 1))) (jb_vI (nI_add _ 1)) ?_
        refine jb_aload_n (pc' := 8) dX10_differing_7 rfl rfl ?_
        refine gf_X10_15 (pc' := 11) (v := .int (Is 1)) dX10_differing_8 rfl rfl rfl ?_
        refine jb_top (v := .int (Is 1)) (w := .int (nI zs)) (jb_vI h1s) ?_
        refine jb_icmp_ge (tgt := 49) (pc' := 14) dX10_differing_11 (by decide) rfl (fun z => absurd z (nI_ge (a := i + 1) (b := zs) (by omega) (by omega))) (fun _ => ?_)
        refine jb_aload_n (pc' := 15) dX10_differing_14 rfl rfl ?_
        refine gf_X10_18 (pc' := 18) (v := .ref 89) dX10_differing_15 rfl rfl rfl ?_
        refine jb_iload_n (pc' := 19) dX10_differing_18 rfl rfl ?_
        refine jb_iaload (pc' := 20) (i9 := i) (f := nums) dX10_differing_19 rfl (jb_ix_nI (by omega)) (by omega) rfl ?_
        refine jb_i2l (pc' := 21) dX10_differing_20 rfl ?_
        refine jb_aload_n (pc' := 22) dX10_differing_21 rfl rfl ?_
        refine gf_X10_18 (pc' := 25) (v := .ref 89) dX10_differing_22 rfl rfl rfl ?_
        refine jb_iload_n (pc' := 26) dX10_differing_25 rfl rfl ?_
        refine jb_iconst (pc' := 27) 1 dX10_differing_26 (by decide) rfl ?_
        refine jb_iadd (pc' := 28) dX10_differing_27 rfl ?_
        refine jb_top (v := .int ((nI i) + 1)) (w := .int (nI (i + 1))) (jb_vI (nI_add _ 1)) ?_
        refine jb_iaload (pc' := 29) (i9 := (i + 1)) (f := nums) dX10_differing_28 rfl (jb_ix_nI (by omega)) (by omega) rfl ?_
        refine jb_i2l (pc' := 30) dX10_differing_29 rfl ?_
        refine jb_lsub (pc' := 31) dX10_differing_30 rfl ?_
        refine jb_mabsl (pc' := 34) wv_X10_77 dX10_differing_31 (by decide) (Nat.le_of_ble_eq_true rfl) rfl ?_
        refine jb_iload_n (pc' := 35) dX10_differing_34 rfl rfl ?_
        refine jb_i2l (pc' := 36) dX10_differing_35 rfl ?_
        refine jb_lcmp (pc' := 37) dX10_differing_36 rfl ?_
        refine jb_if_ne (tgt := 43) (pc' := 40) dX10_differing_37 (by decide) rfl (fun _ => ?_) (fun z => absurd z (fun z => hv ((jz_abs _ _ hg).mp (jl_eq.mp z))))
        refine jb_iinc_ (pc' := 46) (nI (i + 2)) dX10_differing_43 (by decide) rfl (jb_inc i 2) (jb_at3 rfl) rfl ?_
        refine jb_goto (pc' := 4) dX10_differing_46 (by decide) ?_
        exact ih (i + 2) (k) (by omega) (by omega) (by omega)
    · have eG : jz_n nums zs g (n + 1) i k = k := if_neg hi1
      rw [eG]
      show jb_J _ RX10 cX10_differing 4 (Option.some .int) false 1 0 0 4 [some (.ref 88), some (.int (nI g)), some (.int (nI k)), some (.int (nI i))] [] [s0, s1, s2, s3, s4, s5, s6, jb_sht88 Is nums Js Ws, s8, s9, s10, s11] _
      refine jb_iload_n (pc' := 5) dX10_differing_4 rfl rfl ?_
      refine jb_iconst (pc' := 6) 1 dX10_differing_5 (by decide) rfl ?_
      refine jb_iadd (pc' := 7) dX10_differing_6 rfl ?_
      refine jb_top (v := .int ((nI i) + 1)) (w := .int (nI (i + 1))) (jb_vI (nI_add _ 1)) ?_
      refine jb_aload_n (pc' := 8) dX10_differing_7 rfl rfl ?_
      refine gf_X10_15 (pc' := 11) (v := .int (Is 1)) dX10_differing_8 rfl rfl rfl ?_
      refine jb_top (v := .int (Is 1)) (w := .int (nI zs)) (jb_vI h1s) ?_
      refine jb_icmp_ge (tgt := 49) (pc' := 14) dX10_differing_11 (by decide) rfl (fun _ => ?_) (fun z => absurd (nI_le (a := zs) (b := i + 1) (by omega) (by omega)) z)
      refine jb_iload_n (pc' := 50) dX10_differing_49 rfl rfl ?_
      refine jb_iret dX10_differing_50 rfl ?_
      exact ⟨rfl, rfl⟩
set_option maxRecDepth 100000 in
set_option maxHeartbeats 4000000 in
theorem c_diff_2 {sc : Nat × (Nat → Int32)} {s0 s1 s2 s3 s4 s5 s6 s8 s9 s10 s11 : List va_E} (Is nums Js : Nat → Int32) (Ws : Nat → Nat → Int32) (zs : Nat) (h1s : Is 1 = nI zs) (hzs : zs ≤ 40) (g : Nat) (hg : g ≤ 40) : jb_C sc yX10_differing cX10_differing 4 (Option.some .int) 1 0 0 [.ref 88, .int (nI g)] [s0, s1, s2, s3, s4, s5, s6, jb_sht88 Is nums Js Ws, s8, s9, s10, s11] (fun r h9 => r = some (.int (nI (jz_n nums zs g zs 0 0))) ∧ [s0, s1, s2, s3, s4, s5, s6, jb_sht88 Is nums Js Ws, s8, s9, s10, s11] = h9) := by
  refine jb_CofJ (ini := false) (by decide +kernel) (fun h => by cases h) (Nat.le_of_ble_eq_true rfl) ?_
  show jb_J sc RX10 cX10_differing 4 (Option.some .int) false 1 0 0 0 [some (.ref 88), some (.int (nI g)), none, none] [] [s0, s1, s2, s3, s4, s5, s6, jb_sht88 Is nums Js Ws, s8, s9, s10, s11] _
  refine jb_iconst (pc' := 1) 0 dX10_differing_0 (by decide) rfl ?_
  refine jb_istore_n_ (pc' := 2) dX10_differing_1 (by decide) (jb_at2 rfl) rfl ?_
  refine jb_iconst (pc' := 3) 0 dX10_differing_2 (by decide) rfl ?_
  refine jb_istore_n_ (pc' := 4) dX10_differing_3 (by decide) (jb_at3 rfl) rfl ?_
  exact l_diff_2 Is nums Js Ws zs h1s hzs g hg zs 0 0 (by omega) (by omega) (by omega)
set_option maxRecDepth 100000 in
set_option maxHeartbeats 4000000 in
theorem l_first_2 {sc : Nat × (Nat → Int32)} {s0 s1 s2 s3 s4 s5 s6 s8 s9 s10 s11 : List va_E} (Is nums Js : Nat → Int32) (Ws : Nat → Nat → Int32) (zs : Nat) (h1s : Is 1 = nI zs) (hzs : zs ≤ 40) (g : Nat) (hg : g ≤ 40) : ∀ (n i k : Nat) (x4 x5 : Option Value), zs ≤ i + 2 * n → i ≤ zs + 2 → k ≤ i → jb_J sc RX10 cX10_fromFirstCliff 6 (Option.some .int) false 1 0 0 4 [some (.ref 88), some (.int (nI g)), some (.int (nI k)), some (.int (nI i)), x4, x5] [] [s0, s1, s2, s3, s4, s5, s6, jb_sht88 Is nums Js Ws, s8, s9, s10, s11] (fun r h9 => r = some (.int (nI (jz_f nums zs g n i k))) ∧ [s0, s1, s2, s3, s4, s5, s6, jb_sht88 Is nums Js Ws, s8, s9, s10, s11] = h9) := by
  intro n
  induction n with
  | zero =>
    intro i k x4 x5 hi hi2 hk
    show jb_J _ RX10 cX10_fromFirstCliff 6 (Option.some .int) false 1 0 0 4 [some (.ref 88), some (.int (nI g)), some (.int (nI k)), some (.int (nI i)), x4, x5] [] [s0, s1, s2, s3, s4, s5, s6, jb_sht88 Is nums Js Ws, s8, s9, s10, s11] _
    refine jb_iload_n (pc' := 5) dX10_fromFirstCliff_4 rfl rfl ?_
    refine jb_iconst (pc' := 6) 1 dX10_fromFirstCliff_5 (by decide) rfl ?_
    refine jb_iadd (pc' := 7) dX10_fromFirstCliff_6 rfl ?_
    refine jb_top (v := .int ((nI i) + 1)) (w := .int (nI (i + 1))) (jb_vI (nI_add _ 1)) ?_
    refine jb_aload_n (pc' := 8) dX10_fromFirstCliff_7 rfl rfl ?_
    refine gf_X10_15 (pc' := 11) (v := .int (Is 1)) dX10_fromFirstCliff_8 rfl rfl rfl ?_
    refine jb_top (v := .int (Is 1)) (w := .int (nI zs)) (jb_vI h1s) ?_
    refine jb_icmp_ge (tgt := 57) (pc' := 14) dX10_fromFirstCliff_11 (by decide) rfl (fun _ => ?_) (fun z => absurd (nI_le (a := zs) (b := i + 1) (by omega) (by omega)) z)
    refine jb_iload_n (pc' := 58) dX10_fromFirstCliff_57 rfl rfl ?_
    refine jb_iret dX10_fromFirstCliff_58 rfl ?_
    exact ⟨rfl, rfl⟩
  | succ n ih =>
    intro i k x4 x5 hi hi2 hk
    by_cases hi1 : i + 1 < zs
    · have eG : jz_f nums zs g (n + 1) i k = jz_f nums zs g n (i + 2) (if (nums (i + 1)).toInt - (nums i).toInt = (g : Int) ∧ 0 < g then k + 1 else k) := if_pos hi1
      by_cases hv : (nums (i + 1)).toInt - (nums i).toInt = (g : Int) ∧ 0 < g
      · rw [if_pos hv] at eG
        rw [eG]
        show jb_J _ RX10 cX10_fromFirstCliff 6 (Option.some .int) false 1 0 0 4 [some (.ref 88), some (.int (nI g)), some (.int (nI k)), some (.int (nI i)), x4, x5] [] [s0, s1, s2, s3, s4, s5, s6, jb_sht88 Is nums Js Ws, s8, s9, s10, s11] _
        refine jb_iload_n (pc' := 5) dX10_fromFirstCliff_4 rfl rfl ?_
        refine jb_iconst (pc' := 6) 1 dX10_fromFirstCliff_5 (by decide) rfl ?_
        refine jb_iadd (pc' := 7) dX10_fromFirstCliff_6 rfl ?_
        refine jb_top (v := .int ((nI i) + 1)) (w := .int (nI (i + 1))) (jb_vI (nI_add _ 1)) ?_
        refine jb_aload_n (pc' := 8) dX10_fromFirstCliff_7 rfl rfl ?_
        refine gf_X10_15 (pc' := 11) (v := .int (Is 1)) dX10_fromFirstCliff_8 rfl rfl rfl ?_
        refine jb_top (v := .int (Is 1)) (w := .int (nI zs)) (jb_vI h1s) ?_
        refine jb_icmp_ge (tgt := 57) (pc' := 14) dX10_fromFirstCliff_11 (by decide) rfl (fun z => absurd z (nI_ge (a := i + 1) (b := zs) (by omega) (by omega))) (fun _ => ?_)
        refine jb_aload_n (pc' := 15) dX10_fromFirstCliff_14 rfl rfl ?_
        refine gf_X10_18 (pc' := 18) (v := .ref 89) dX10_fromFirstCliff_15 rfl rfl rfl ?_
        refine jb_iload_n (pc' := 19) dX10_fromFirstCliff_18 rfl rfl ?_
        refine jb_iconst (pc' := 20) 1 dX10_fromFirstCliff_19 (by decide) rfl ?_
        refine jb_iadd (pc' := 21) dX10_fromFirstCliff_20 rfl ?_
        refine jb_top (v := .int ((nI i) + 1)) (w := .int (nI (i + 1))) (jb_vI (nI_add _ 1)) ?_
        refine jb_iaload (pc' := 22) (i9 := (i + 1)) (f := nums) dX10_fromFirstCliff_21 rfl (jb_ix_nI (by omega)) (by omega) rfl ?_
        refine jb_i2l (pc' := 23) dX10_fromFirstCliff_22 rfl ?_
        refine jb_aload_n (pc' := 24) dX10_fromFirstCliff_23 rfl rfl ?_
        refine gf_X10_18 (pc' := 27) (v := .ref 89) dX10_fromFirstCliff_24 rfl rfl rfl ?_
        refine jb_iload_n (pc' := 28) dX10_fromFirstCliff_27 rfl rfl ?_
        refine jb_iaload (pc' := 29) (i9 := i) (f := nums) dX10_fromFirstCliff_28 rfl (jb_ix_nI (by omega)) (by omega) rfl ?_
        refine jb_i2l (pc' := 30) dX10_fromFirstCliff_29 rfl ?_
        refine jb_lsub (pc' := 31) dX10_fromFirstCliff_30 rfl ?_
        refine jb_lstore_ (pc' := 33) dX10_fromFirstCliff_31 (by decide) (jb_lt4 rfl) rfl ?_
        refine jb_lload (pc' := 35) dX10_fromFirstCliff_33 rfl rfl ?_
        refine jb_lconst (pc' := 36) 0 dX10_fromFirstCliff_35 (by decide) rfl ?_
        refine jb_lcmp (pc' := 37) dX10_fromFirstCliff_36 rfl ?_
        refine jb_if_le (tgt := 51) (pc' := 40) dX10_fromFirstCliff_37 (by decide) rfl (fun z => absurd z (Int32.not_le.mpr (jl_gt.mpr ((jz_p0 _ _).mpr (by omega))))) (fun _ => ?_)
        refine jb_lload (pc' := 42) dX10_fromFirstCliff_40 rfl rfl ?_
        refine jb_iload_n (pc' := 43) dX10_fromFirstCliff_42 rfl rfl ?_
        refine jb_i2l (pc' := 44) dX10_fromFirstCliff_43 rfl ?_
        refine jb_lcmp (pc' := 45) dX10_fromFirstCliff_44 rfl ?_
        refine jb_if_ne (tgt := 51) (pc' := 48) dX10_fromFirstCliff_45 (by decide) rfl (fun z => absurd (jl_eq.mpr ((jz_lt _ _ hg).mpr hv.1)) z) (fun _ => ?_)
        refine jb_iinc_ (pc' := 51) (nI (k + 1)) dX10_fromFirstCliff_48 (by decide) rfl (jb_inc k 1) (jb_at2 rfl) rfl ?_
        refine jb_iinc_ (pc' := 54) (nI (i + 2)) dX10_fromFirstCliff_51 (by decide) rfl (jb_inc i 2) (jb_at3 rfl) rfl ?_
        refine jb_goto (pc' := 4) dX10_fromFirstCliff_54 (by decide) ?_
        exact ih (i + 2) (k + 1) _ _ (by omega) (by omega) (by omega)
      · rw [if_neg hv] at eG
        rw [eG]
        show jb_J _ RX10 cX10_fromFirstCliff 6 (Option.some .int) false 1 0 0 4 [some (.ref 88), some (.int (nI g)), some (.int (nI k)), some (.int (nI i)), x4, x5] [] [s0, s1, s2, s3, s4, s5, s6, jb_sht88 Is nums Js Ws, s8, s9, s10, s11] _
        refine jb_iload_n (pc' := 5) dX10_fromFirstCliff_4 rfl rfl ?_
        refine jb_iconst (pc' := 6) 1 dX10_fromFirstCliff_5 (by decide) rfl ?_
        refine jb_iadd (pc' := 7) dX10_fromFirstCliff_6 rfl ?_
        refine jb_top (v := .int ((nI i) + 1)) (w := .int (nI (i + 1))) (jb_vI (nI_add _ 1)) ?_
        refine jb_aload_n (pc' := 8) dX10_fromFirstCliff_7 rfl rfl ?_
        refine gf_X10_15 (pc' := 11) (v := .int (Is 1)) dX10_fromFirstCliff_8 rfl rfl rfl ?_
        refine jb_top (v := .int (Is 1)) (w := .int (nI zs)) (jb_vI h1s) ?_
        refine jb_icmp_ge (tgt := 57) (pc' := 14) dX10_fromFirstCliff_11 (by decide) rfl (fun z => absurd z (nI_ge (a := i + 1) (b := zs) (by omega) (by omega))) (fun _ => ?_)
        refine jb_aload_n (pc' := 15) dX10_fromFirstCliff_14 rfl rfl ?_
        refine gf_X10_18 (pc' := 18) (v := .ref 89) dX10_fromFirstCliff_15 rfl rfl rfl ?_
        refine jb_iload_n (pc' := 19) dX10_fromFirstCliff_18 rfl rfl ?_
        refine jb_iconst (pc' := 20) 1 dX10_fromFirstCliff_19 (by decide) rfl ?_
        refine jb_iadd (pc' := 21) dX10_fromFirstCliff_20 rfl ?_
        refine jb_top (v := .int ((nI i) + 1)) (w := .int (nI (i + 1))) (jb_vI (nI_add _ 1)) ?_
        refine jb_iaload (pc' := 22) (i9 := (i + 1)) (f := nums) dX10_fromFirstCliff_21 rfl (jb_ix_nI (by omega)) (by omega) rfl ?_
        refine jb_i2l (pc' := 23) dX10_fromFirstCliff_22 rfl ?_
        refine jb_aload_n (pc' := 24) dX10_fromFirstCliff_23 rfl rfl ?_
        refine gf_X10_18 (pc' := 27) (v := .ref 89) dX10_fromFirstCliff_24 rfl rfl rfl ?_
        refine jb_iload_n (pc' := 28) dX10_fromFirstCliff_27 rfl rfl ?_
        refine jb_iaload (pc' := 29) (i9 := i) (f := nums) dX10_fromFirstCliff_28 rfl (jb_ix_nI (by omega)) (by omega) rfl ?_
        refine jb_i2l (pc' := 30) dX10_fromFirstCliff_29 rfl ?_
        refine jb_lsub (pc' := 31) dX10_fromFirstCliff_30 rfl ?_
        refine jb_lstore_ (pc' := 33) dX10_fromFirstCliff_31 (by decide) (jb_lt4 rfl) rfl ?_
        refine jb_lload (pc' := 35) dX10_fromFirstCliff_33 rfl rfl ?_
        refine jb_lconst (pc' := 36) 0 dX10_fromFirstCliff_35 (by decide) rfl ?_
        refine jb_lcmp (pc' := 37) dX10_fromFirstCliff_36 rfl ?_
        refine jb_if_le (tgt := 51) (pc' := 40) dX10_fromFirstCliff_37 (by decide) rfl (fun q37 => ?_) (fun q37 => ?_)
        · refine jb_iinc_ (pc' := 54) (nI (i + 2)) dX10_fromFirstCliff_51 (by decide) rfl (jb_inc i 2) (jb_at3 rfl) rfl ?_
          refine jb_goto (pc' := 4) dX10_fromFirstCliff_54 (by decide) ?_
          exact ih (i + 2) (k) _ _ (by omega) (by omega) (by omega)
        · refine jb_lload (pc' := 42) dX10_fromFirstCliff_40 rfl rfl ?_
          refine jb_iload_n (pc' := 43) dX10_fromFirstCliff_42 rfl rfl ?_
          refine jb_i2l (pc' := 44) dX10_fromFirstCliff_43 rfl ?_
          refine jb_lcmp (pc' := 45) dX10_fromFirstCliff_44 rfl ?_
          refine jb_if_ne (tgt := 51) (pc' := 48) dX10_fromFirstCliff_45 (by decide) rfl (fun _ => ?_) (fun z => absurd z (fun z => hv ⟨(jz_lt _ _ hg).mp (jl_eq.mp z), by have z1 := (jz_p0 _ _).mp (jl_gt.mp (Int32.not_le.mp q37)); have z2 := (jz_lt _ _ hg).mp (jl_eq.mp z); omega⟩))
          refine jb_iinc_ (pc' := 54) (nI (i + 2)) dX10_fromFirstCliff_51 (by decide) rfl (jb_inc i 2) (jb_at3 rfl) rfl ?_
          refine jb_goto (pc' := 4) dX10_fromFirstCliff_54 (by decide) ?_
          exact ih (i + 2) (k) _ _ (by omega) (by omega) (by omega)
    · have eG : jz_f nums zs g (n + 1) i k = k := if_neg hi1
      rw [eG]
      show jb_J _ RX10 cX10_fromFirstCliff 6 (Option.some .int) false 1 0 0 4 [some (.ref 88), some (.int (nI g)), some (.int (nI k)), some (.int (nI i)), x4, x5] [] [s0, s1, s2, s3, s4, s5, s6, jb_sht88 Is nums Js Ws, s8, s9, s10, s11] _
      refine jb_iload_n (pc' := 5) dX10_fromFirstCliff_4 rfl rfl ?_
      refine jb_iconst (pc' := 6) 1 dX10_fromFirstCliff_5 (by decide) rfl ?_
      refine jb_iadd (pc' := 7) dX10_fromFirstCliff_6 rfl ?_
      refine jb_top (v := .int ((nI i) + 1)) (w := .int (nI (i + 1))) (jb_vI (nI_add _ 1)) ?_
      refine jb_aload_n (pc' := 8) dX10_fromFirstCliff_7 rfl rfl ?_
      refine gf_X10_15 (pc' := 11) (v := .int (Is 1)) dX10_fromFirstCliff_8 rfl rfl rfl ?_
      refine jb_top (v := .int (Is 1)) (w := .int (nI zs)) (jb_vI h1s) ?_
      refine jb_icmp_ge (tgt := 57) (pc' := 14) dX10_fromFirstCliff_11 (by decide) rfl (fun _ => ?_) (fun z => absurd (nI_le (a := zs) (b := i + 1) (by omega) (by omega)) z)
      refine jb_iload_n (pc' := 58) dX10_fromFirstCliff_57 rfl rfl ?_
      refine jb_iret dX10_fromFirstCliff_58 rfl ?_
      exact ⟨rfl, rfl⟩
set_option maxRecDepth 100000 in
set_option maxHeartbeats 4000000 in
theorem c_first_2 {sc : Nat × (Nat → Int32)} {s0 s1 s2 s3 s4 s5 s6 s8 s9 s10 s11 : List va_E} (Is nums Js : Nat → Int32) (Ws : Nat → Nat → Int32) (zs : Nat) (h1s : Is 1 = nI zs) (hzs : zs ≤ 40) (g : Nat) (hg : g ≤ 40) : jb_C sc yX10_fromFirstCliff cX10_fromFirstCliff 6 (Option.some .int) 1 0 0 [.ref 88, .int (nI g)] [s0, s1, s2, s3, s4, s5, s6, jb_sht88 Is nums Js Ws, s8, s9, s10, s11] (fun r h9 => r = some (.int (nI (jz_f nums zs g zs 0 0))) ∧ [s0, s1, s2, s3, s4, s5, s6, jb_sht88 Is nums Js Ws, s8, s9, s10, s11] = h9) := by
  refine jb_CofJ (ini := false) (by decide +kernel) (fun h => by cases h) (Nat.le_of_ble_eq_true rfl) ?_
  show jb_J sc RX10 cX10_fromFirstCliff 6 (Option.some .int) false 1 0 0 0 [some (.ref 88), some (.int (nI g)), none, none, none, none] [] [s0, s1, s2, s3, s4, s5, s6, jb_sht88 Is nums Js Ws, s8, s9, s10, s11] _
  refine jb_iconst (pc' := 1) 0 dX10_fromFirstCliff_0 (by decide) rfl ?_
  refine jb_istore_n_ (pc' := 2) dX10_fromFirstCliff_1 (by decide) (jb_at2 rfl) rfl ?_
  refine jb_iconst (pc' := 3) 0 dX10_fromFirstCliff_2 (by decide) rfl ?_
  refine jb_istore_n_ (pc' := 4) dX10_fromFirstCliff_3 (by decide) (jb_at3 rfl) rfl ?_
  exact l_first_2 Is nums Js Ws zs h1s hzs g hg zs 0 0 _ _ (by omega) (by omega) (by omega)
set_option maxRecDepth 100000 in
set_option maxHeartbeats 4000000 in
theorem l_best_2 {sc : Nat × (Nat → Int32)} {s0 s1 s2 s3 s4 s5 s6 s8 s9 s10 s11 : List va_E} (Is nums Js : Nat → Int32) (Ws : Nat → Nat → Int32) (zs : Nat) (h1s : Is 1 = nI zs) (hzs : zs ≤ 40) : ∀ (n g b m : Nat) (x4 : Option Value), g + n = 41 → b ≤ 40 → m ≤ 40 → (∀ h, h < g → (fun g => jz_n nums zs g zs 0 0) h ≤ m) → m ≤ (fun g => jz_n nums zs g zs 0 0) b → (∀ h, h < b → (fun g => jz_n nums zs g zs 0 0) h < m) → jb_J sc RX10 cX10_bestDifference 5 (Option.some .int) false 2 0 0 6 [some (.ref 88), some (.int (nI b)), some (.int (nI m)), some (.int (nI g)), x4] [] [s0, s1, s2, s3, s4, s5, s6, jb_sht88 Is nums Js Ws, s8, s9, s10, s11] (fun r h9 => ∃ b, jz_B (fun g => jz_n nums zs g zs 0 0) b ∧ r = some (.int (nI b)) ∧ [s0, s1, s2, s3, s4, s5, s6, jb_sht88 Is nums Js Ws, s8, s9, s10, s11] = h9) := by
  intro n
  induction n with
  | zero =>
    intro g b m x4 hg h1 h2 h3 h4 h5
    show jb_J _ RX10 cX10_bestDifference 5 (Option.some .int) false 2 0 0 6 [some (.ref 88), some (.int (nI b)), some (.int (nI m)), some (.int (nI g)), x4] [] [s0, s1, s2, s3, s4, s5, s6, jb_sht88 Is nums Js Ws, s8, s9, s10, s11] _
    refine jb_iload_n (pc' := 7) dX10_bestDifference_6 rfl rfl ?_
    refine jb_bipush (pc' := 9) 40 dX10_bestDifference_7 (by decide) rfl ?_
    refine jb_icmp_gt (tgt := 36) (pc' := 12) dX10_bestDifference_9 (by decide) rfl (fun _ => ?_) (fun z => absurd (nI_lt (a := 40) (b := g) (by omega) (by omega)) z)
    refine jb_iload_n (pc' := 37) dX10_bestDifference_36 rfl rfl ?_
    refine jb_iret dX10_bestDifference_37 rfl ?_
    exact ⟨b, ⟨h1, fun h hh => Nat.le_trans (h3 h (by omega)) h4, fun h hh => Nat.lt_of_lt_of_le (h5 h hh) h4⟩, rfl, rfl⟩
  | succ n ih =>
    intro g b m x4 hg h1 h2 h3 h4 h5
    have c40 := jz_n_le (f := nums) (zs := zs) (g := g) zs 0 0
    show jb_J _ RX10 cX10_bestDifference 5 (Option.some .int) false 2 0 0 6 [some (.ref 88), some (.int (nI b)), some (.int (nI m)), some (.int (nI g)), x4] [] [s0, s1, s2, s3, s4, s5, s6, jb_sht88 Is nums Js Ws, s8, s9, s10, s11] _
    refine jb_iload_n (pc' := 7) dX10_bestDifference_6 rfl rfl ?_
    refine jb_bipush (pc' := 9) 40 dX10_bestDifference_7 (by decide) rfl ?_
    refine jb_icmp_gt (tgt := 36) (pc' := 12) dX10_bestDifference_9 (by decide) rfl (fun z => absurd z (nI_nlt (a := 40) (b := g) (by omega) (by omega))) (fun _ => ?_)
    refine jb_aload_n (pc' := 13) dX10_bestDifference_12 rfl rfl ?_
    refine jb_iload_n (pc' := 14) dX10_bestDifference_13 rfl rfl ?_
    refine jb_callV (pc' := 17) (ci := 10) (q := 88) (As := [.int (nI g)]) (a2 := 0) (b2 := 0) wv_X10_73 rfl dX10_bestDifference_14 (c_diff_2 Is nums Js Ws zs h1s hzs g (by omega)) rfl rfl ⟨by decide, Nat.le_of_eq (Nat.zero_add _), Nat.le_of_eq (Nat.zero_add _)⟩ (Nat.le_of_ble_eq_true rfl) rfl (fun r h9 hq => ?_)
    obtain ⟨rfl, rfl⟩ := hq
    show jb_J _ RX10 cX10_bestDifference 5 (Option.some .int) false 2 0 0 17 [some (.ref 88), some (.int (nI b)), some (.int (nI m)), some (.int (nI g)), x4] [.int (nI (jz_n nums zs g zs 0 0))] [s0, s1, s2, s3, s4, s5, s6, jb_sht88 Is nums Js Ws, s8, s9, s10, s11] _
    refine jb_istore_ (pc' := 19) dX10_bestDifference_17 (by decide) (jb_at4 rfl) rfl ?_
    refine jb_iload (pc' := 21) dX10_bestDifference_19 rfl rfl ?_
    refine jb_iload_n (pc' := 22) dX10_bestDifference_21 rfl rfl ?_
    refine jb_icmp_le (tgt := 30) (pc' := 25) dX10_bestDifference_22 (by decide) rfl (fun c2 => ?_) (fun c2 => ?_)
    · have c2 : (jz_n nums zs g zs 0 0) ≤ m := (nI_leI (a := (jz_n nums zs g zs 0 0)) (b := m) (by omega) (by omega)).mp c2
      refine jb_iinc_ (pc' := 33) (nI (g + 1)) dX10_bestDifference_30 (by decide) rfl (jb_inc g 1) (jb_at3 rfl) rfl ?_
      refine jb_goto (pc' := 6) dX10_bestDifference_33 (by decide) ?_
      exact ih (g + 1) b m _ (by omega) h1 h2 (fun h hh => by by_cases e : h = g; (· rw [e]; show jz_n nums zs g zs 0 0 ≤ m; omega); (· exact h3 h (by omega))) h4 h5
    · have c2 : ¬ (jz_n nums zs g zs 0 0) ≤ m := fun z9 => c2 ((nI_leI (a := (jz_n nums zs g zs 0 0)) (b := m) (by omega) (by omega)).mpr z9)
      refine jb_iload (pc' := 27) dX10_bestDifference_25 rfl rfl ?_
      refine jb_istore_n_ (pc' := 28) dX10_bestDifference_27 (by decide) (jb_at2 rfl) rfl ?_
      refine jb_iload_n (pc' := 29) dX10_bestDifference_28 rfl rfl ?_
      refine jb_istore_n_ (pc' := 30) dX10_bestDifference_29 (by decide) (jb_at1 rfl) rfl ?_
      refine jb_iinc_ (pc' := 33) (nI (g + 1)) dX10_bestDifference_30 (by decide) rfl (jb_inc g 1) (jb_at3 rfl) rfl ?_
      refine jb_goto (pc' := 6) dX10_bestDifference_33 (by decide) ?_
      exact ih (g + 1) g (jz_n nums zs g zs 0 0) _ (by omega) (by omega) (by omega) (fun h hh => by by_cases e : h = g; (· rw [e]; exact Nat.le_refl _); (· exact Nat.le_of_lt (Nat.lt_of_le_of_lt (h3 h (by omega)) (by omega)))) (Nat.le_refl _) (fun h hh => Nat.lt_of_le_of_lt (h3 h hh) (by omega))
set_option maxRecDepth 100000 in
set_option maxHeartbeats 4000000 in
theorem c_best_2 {sc : Nat × (Nat → Int32)} {s0 s1 s2 s3 s4 s5 s6 s8 s9 s10 s11 : List va_E} (Is nums Js : Nat → Int32) (Ws : Nat → Nat → Int32) (zs : Nat) (h1s : Is 1 = nI zs) (hzs : zs ≤ 40) : jb_C sc yX10_bestDifference cX10_bestDifference 5 (Option.some .int) 2 0 0 [.ref 88] [s0, s1, s2, s3, s4, s5, s6, jb_sht88 Is nums Js Ws, s8, s9, s10, s11] (fun r h9 => ∃ b, jz_B (fun g => jz_n nums zs g zs 0 0) b ∧ r = some (.int (nI b)) ∧ [s0, s1, s2, s3, s4, s5, s6, jb_sht88 Is nums Js Ws, s8, s9, s10, s11] = h9) := by
  refine jb_CofJ (ini := false) (by decide +kernel) (fun h => by cases h) (Nat.le_of_ble_eq_true rfl) ?_
  show jb_J sc RX10 cX10_bestDifference 5 (Option.some .int) false 2 0 0 0 [some (.ref 88), none, none, none, none] [] [s0, s1, s2, s3, s4, s5, s6, jb_sht88 Is nums Js Ws, s8, s9, s10, s11] _
  refine jb_iconst (pc' := 1) 0 dX10_bestDifference_0 (by decide) rfl ?_
  refine jb_istore_n_ (pc' := 2) dX10_bestDifference_1 (by decide) (jb_at1 rfl) rfl ?_
  refine jb_iconst (pc' := 3) 0 dX10_bestDifference_2 (by decide) rfl ?_
  refine jb_istore_n_ (pc' := 4) dX10_bestDifference_3 (by decide) (jb_at2 rfl) rfl ?_
  refine jb_iconst (pc' := 5) 0 dX10_bestDifference_4 (by decide) rfl ?_
  refine jb_istore_n_ (pc' := 6) dX10_bestDifference_5 (by decide) (jb_at3 rfl) rfl ?_
  exact l_best_2 Is nums Js Ws zs h1s hzs 41 0 0 0 _ (by omega) (by omega) (by omega) (fun h hh => absurd hh (by omega)) (Nat.zero_le _) (fun h hh => absurd hh (by omega))
set_option maxRecDepth 100000 in
set_option maxHeartbeats 4000000 in
theorem kx_heard0_2 {sc : Nat × (Nat → Int32)} {s1 s2 s3 s5 s6 s8 s9 s10 s11 : List va_E} (imm : Int32) (Im rowm stkm tpm : Nat → Int32) (Tm : Nat → Value) (Is nums Js : Nat → Int32) (Ws : Nat → Nat → Int32) {bs zs : Nat} (h0s : Is 0 = nI bs) (h1s : Is 1 = nI zs) (hbs : bs ≤ 32) (hzs : zs ≤ 40) (hm : ¬ bs = 0) (h2 : 2 ≤ zs) : jb_C sc yX11_heard cX11_heard 5 (Option.some .int) 3 0 0 [.ref 0, .int 2, .int 0] [jb_main imm Im Tm rowm stkm tpm, s1, s2, s3, jb_shs, s5, s6, jb_sht88 Is nums Js Ws, s8, s9, s10, s11] (fun r h9 => ∃ b9, jz_B (fun g => jz_n nums zs g zs 0 0) b9 ∧ r = some (.int (nI b9)) ∧ [jb_main imm Im Tm rowm stkm tpm, s1, s2, s3, jb_shs, s5, s6, jb_sht88 Is nums Js Ws, s8, s9, s10, s11] = h9) := by
  refine jb_CofJ (ini := false) (by decide +kernel) (fun h => by cases h) (Nat.le_of_ble_eq_true rfl) ?_
  show jb_J sc RX11 cX11_heard 5 (Option.some .int) false 3 0 0 0 [some (.ref 0), some (.int 2), some (.int 0), none, none] [] [jb_main imm Im Tm rowm stkm tpm, s1, s2, s3, jb_shs, s5, s6, jb_sht88 Is nums Js Ws, s8, s9, s10, s11] _
  refine jb_aload_n (pc' := 1) dX11_heard_0 rfl rfl ?_
  refine jb_iload_n (pc' := 2) dX11_heard_1 rfl rfl ?_
  refine jb_callV (pc' := 5) (ci := 11) (q := 0) (As := [.int 2]) (a2 := 0) (b2 := 0) wv_X11_165 rfl dX11_heard_2 (c_isNoSheetG _ 2 (by omega)) rfl rfl ⟨by decide, Nat.le_of_eq (Nat.zero_add _), Nat.le_of_eq (Nat.zero_add _)⟩ (Nat.le_of_ble_eq_true rfl) rfl (fun r h9 hq => ?_)
  obtain ⟨rfl, rfl⟩ := hq
  show jb_J _ RX11 cX11_heard 5 (Option.some .int) false 3 0 0 5 [some (.ref 0), some (.int 2), some (.int 0), none, none] [.int 0] [jb_main imm Im Tm rowm stkm tpm, s1, s2, s3, jb_shs, s5, s6, jb_sht88 Is nums Js Ws, s8, s9, s10, s11] _
  refine jb_if_ne (tgt := 17) (pc' := 8) dX11_heard_5 (by decide) rfl (fun z => absurd (by decide) z) (fun _ => ?_)
  refine jb_iload_n (pc' := 9) dX11_heard_8 rfl rfl ?_
  refine jb_iconst (pc' := 10) 0 dX11_heard_9 (by decide) rfl ?_
  refine jb_iconst (pc' := 11) 2 dX11_heard_10 (by decide) rfl ?_
  refine jb_callS (pc' := 14) (As := [.int 0, .int 0, .int 2]) (a2 := 0) (b2 := 0) wv_X11_74 dX11_heard_11 (c_isOutLG 0 0 2 (by omega) (by omega) (by omega)) rfl ⟨by decide, Nat.le_of_eq (Nat.zero_add _), Nat.le_of_eq (Nat.zero_add _)⟩ (Nat.le_of_ble_eq_true rfl) rfl (fun r h9 hq => ?_)
  obtain ⟨rfl, rfl⟩ := hq
  show jb_J _ RX11 cX11_heard 5 (Option.some .int) false 3 0 0 14 [some (.ref 0), some (.int 2), some (.int 0), none, none] [.int 0] [jb_main imm Im Tm rowm stkm tpm, s1, s2, s3, jb_shs, s5, s6, jb_sht88 Is nums Js Ws, s8, s9, s10, s11] _
  refine jb_if_eq (tgt := 23) (pc' := 17) dX11_heard_14 (by decide) rfl (fun _ => ?_) (fun z => absurd (by decide) z)
  refine jb_aload_n (pc' := 24) dX11_heard_23 rfl rfl ?_
  refine gf_X11_54 (pc' := 27) (v := .ref 73) dX11_heard_24 rfl rfl rfl ?_
  refine jb_iload_n (pc' := 28) dX11_heard_27 rfl rfl ?_
  refine jb_aaload (pc' := 29) (i9 := 2) (r := 88) (Or.inr (Or.inr rfl)) dX11_heard_28 rfl jb_x2 (by decide) rfl rfl ?_
  refine jb_astore_n_ (pc' := 30) dX11_heard_29 (by decide) (jb_at3 rfl) rfl ?_
  refine jb_aload_n (pc' := 31) dX11_heard_30 rfl rfl ?_
  refine jb_callV (pc' := 34) (ci := 10) (q := 88) (As := []) (a2 := 0) (b2 := 0) wv_X11_168 rfl dX11_heard_31 (c_isMissing_2 Is nums Js Ws h0s h1s hbs hzs) rfl rfl ⟨by decide, Nat.le_of_eq (Nat.zero_add _), Nat.le_of_eq (Nat.zero_add _)⟩ (Nat.le_of_ble_eq_true rfl) rfl (fun r h9 hq => ?_)
  rcases hq with ⟨rfl, ⟨hms, rfl⟩ | ⟨hms, rfl⟩⟩
  · exact absurd hms hm
  · show jb_J _ RX11 cX11_heard 5 (Option.some .int) false 3 0 0 34 [some (.ref 0), some (.int 2), some (.int 0), some (.ref 88), none] [.int 0] [jb_main imm Im Tm rowm stkm tpm, s1, s2, s3, jb_shs, s5, s6, jb_sht88 Is nums Js Ws, s8, s9, s10, s11] _
    refine jb_if_ne (tgt := 45) (pc' := 37) dX11_heard_34 (by decide) rfl (fun z => absurd (by decide) z) (fun _ => ?_)
    refine jb_aload_n (pc' := 38) dX11_heard_37 rfl rfl ?_
    refine gf_X11_184 (pc' := 41) (v := .int (Is 1)) dX11_heard_38 rfl rfl rfl ?_
    refine jb_top (v := .int (Is 1)) (w := .int (nI zs)) (jb_vI h1s) ?_
    refine jb_iconst (pc' := 42) 2 dX11_heard_41 (by decide) rfl ?_
    refine jb_icmp_ge (tgt := 51) (pc' := 45) dX11_heard_42 (by decide) rfl (fun _ => ?_) (fun z => absurd (nI_le (a := 2) (b := zs) (by omega) (by omega)) z)
    refine jb_aload_n (pc' := 52) dX11_heard_51 rfl rfl ?_
    refine jb_callV (pc' := 55) (ci := 10) (q := 88) (As := []) (a2 := 0) (b2 := 0) wv_X11_187 rfl dX11_heard_52 (c_best_2 Is nums Js Ws zs h1s hzs) rfl rfl ⟨by decide, Nat.le_of_eq (Nat.zero_add _), Nat.le_of_eq (Nat.zero_add _)⟩ (Nat.le_of_ble_eq_true rfl) rfl (fun r h9 hq => ?_)
    obtain ⟨b9, hB, rfl, rfl⟩ := hq
    show jb_J _ RX11 cX11_heard 5 (Option.some .int) false 3 0 0 55 [some (.ref 0), some (.int 2), some (.int 0), some (.ref 88), none] [.int (nI b9)] [jb_main imm Im Tm rowm stkm tpm, s1, s2, s3, jb_shs, s5, s6, jb_sht88 Is nums Js Ws, s8, s9, s10, s11] _
    refine jb_istore_ (pc' := 57) dX11_heard_55 (by decide) (jb_at4 rfl) rfl ?_
    refine jb_iload_n (pc' := 58) dX11_heard_57 rfl rfl ?_
    refine jb_if_ne (tgt := 64) (pc' := 61) dX11_heard_58 (by decide) rfl (fun z => absurd (by decide) z) (fun _ => ?_)
    refine jb_iload (pc' := 63) dX11_heard_61 rfl rfl ?_
    refine jb_iret dX11_heard_63 rfl ?_
    exact ⟨b9, hB, rfl, rfl⟩
set_option maxRecDepth 100000 in
set_option maxHeartbeats 4000000 in
theorem kx_heard1_2 {sc : Nat × (Nat → Int32)} {s1 s2 s3 s5 s6 s8 s9 s10 s11 : List va_E} (imm : Int32) (Im rowm stkm tpm : Nat → Int32) (Tm : Nat → Value) (Is nums Js : Nat → Int32) (Ws : Nat → Nat → Int32) {bs zs : Nat} (h0s : Is 0 = nI bs) (h1s : Is 1 = nI zs) (hbs : bs ≤ 32) (hzs : zs ≤ 40) (hm : ¬ bs = 0) (h2 : 2 ≤ zs) : jb_C sc yX11_heard cX11_heard 5 (Option.some .int) 3 0 0 [.ref 0, .int 2, .int 1] [jb_main imm Im Tm rowm stkm tpm, s1, s2, s3, jb_shs, s5, s6, jb_sht88 Is nums Js Ws, s8, s9, s10, s11] (fun r h9 => ∃ b9, jz_B (fun g => jz_n nums zs g zs 0 0) b9 ∧ r = some (.int (nI (jz_n nums zs b9 zs 0 0))) ∧ [jb_main imm Im Tm rowm stkm tpm, s1, s2, s3, jb_shs, s5, s6, jb_sht88 Is nums Js Ws, s8, s9, s10, s11] = h9) := by
  refine jb_CofJ (ini := false) (by decide +kernel) (fun h => by cases h) (Nat.le_of_ble_eq_true rfl) ?_
  show jb_J sc RX11 cX11_heard 5 (Option.some .int) false 3 0 0 0 [some (.ref 0), some (.int 2), some (.int 1), none, none] [] [jb_main imm Im Tm rowm stkm tpm, s1, s2, s3, jb_shs, s5, s6, jb_sht88 Is nums Js Ws, s8, s9, s10, s11] _
  refine jb_aload_n (pc' := 1) dX11_heard_0 rfl rfl ?_
  refine jb_iload_n (pc' := 2) dX11_heard_1 rfl rfl ?_
  refine jb_callV (pc' := 5) (ci := 11) (q := 0) (As := [.int 2]) (a2 := 0) (b2 := 0) wv_X11_165 rfl dX11_heard_2 (c_isNoSheetG _ 2 (by omega)) rfl rfl ⟨by decide, Nat.le_of_eq (Nat.zero_add _), Nat.le_of_eq (Nat.zero_add _)⟩ (Nat.le_of_ble_eq_true rfl) rfl (fun r h9 hq => ?_)
  obtain ⟨rfl, rfl⟩ := hq
  show jb_J _ RX11 cX11_heard 5 (Option.some .int) false 3 0 0 5 [some (.ref 0), some (.int 2), some (.int 1), none, none] [.int 0] [jb_main imm Im Tm rowm stkm tpm, s1, s2, s3, jb_shs, s5, s6, jb_sht88 Is nums Js Ws, s8, s9, s10, s11] _
  refine jb_if_ne (tgt := 17) (pc' := 8) dX11_heard_5 (by decide) rfl (fun z => absurd (by decide) z) (fun _ => ?_)
  refine jb_iload_n (pc' := 9) dX11_heard_8 rfl rfl ?_
  refine jb_iconst (pc' := 10) 0 dX11_heard_9 (by decide) rfl ?_
  refine jb_iconst (pc' := 11) 2 dX11_heard_10 (by decide) rfl ?_
  refine jb_callS (pc' := 14) (As := [.int 1, .int 0, .int 2]) (a2 := 0) (b2 := 0) wv_X11_74 dX11_heard_11 (c_isOutLG 1 0 2 (by omega) (by omega) (by omega)) rfl ⟨by decide, Nat.le_of_eq (Nat.zero_add _), Nat.le_of_eq (Nat.zero_add _)⟩ (Nat.le_of_ble_eq_true rfl) rfl (fun r h9 hq => ?_)
  obtain ⟨rfl, rfl⟩ := hq
  show jb_J _ RX11 cX11_heard 5 (Option.some .int) false 3 0 0 14 [some (.ref 0), some (.int 2), some (.int 1), none, none] [.int 0] [jb_main imm Im Tm rowm stkm tpm, s1, s2, s3, jb_shs, s5, s6, jb_sht88 Is nums Js Ws, s8, s9, s10, s11] _
  refine jb_if_eq (tgt := 23) (pc' := 17) dX11_heard_14 (by decide) rfl (fun _ => ?_) (fun z => absurd (by decide) z)
  refine jb_aload_n (pc' := 24) dX11_heard_23 rfl rfl ?_
  refine gf_X11_54 (pc' := 27) (v := .ref 73) dX11_heard_24 rfl rfl rfl ?_
  refine jb_iload_n (pc' := 28) dX11_heard_27 rfl rfl ?_
  refine jb_aaload (pc' := 29) (i9 := 2) (r := 88) (Or.inr (Or.inr rfl)) dX11_heard_28 rfl jb_x2 (by decide) rfl rfl ?_
  refine jb_astore_n_ (pc' := 30) dX11_heard_29 (by decide) (jb_at3 rfl) rfl ?_
  refine jb_aload_n (pc' := 31) dX11_heard_30 rfl rfl ?_
  refine jb_callV (pc' := 34) (ci := 10) (q := 88) (As := []) (a2 := 0) (b2 := 0) wv_X11_168 rfl dX11_heard_31 (c_isMissing_2 Is nums Js Ws h0s h1s hbs hzs) rfl rfl ⟨by decide, Nat.le_of_eq (Nat.zero_add _), Nat.le_of_eq (Nat.zero_add _)⟩ (Nat.le_of_ble_eq_true rfl) rfl (fun r h9 hq => ?_)
  rcases hq with ⟨rfl, ⟨hms, rfl⟩ | ⟨hms, rfl⟩⟩
  · exact absurd hms hm
  · show jb_J _ RX11 cX11_heard 5 (Option.some .int) false 3 0 0 34 [some (.ref 0), some (.int 2), some (.int 1), some (.ref 88), none] [.int 0] [jb_main imm Im Tm rowm stkm tpm, s1, s2, s3, jb_shs, s5, s6, jb_sht88 Is nums Js Ws, s8, s9, s10, s11] _
    refine jb_if_ne (tgt := 45) (pc' := 37) dX11_heard_34 (by decide) rfl (fun z => absurd (by decide) z) (fun _ => ?_)
    refine jb_aload_n (pc' := 38) dX11_heard_37 rfl rfl ?_
    refine gf_X11_184 (pc' := 41) (v := .int (Is 1)) dX11_heard_38 rfl rfl rfl ?_
    refine jb_top (v := .int (Is 1)) (w := .int (nI zs)) (jb_vI h1s) ?_
    refine jb_iconst (pc' := 42) 2 dX11_heard_41 (by decide) rfl ?_
    refine jb_icmp_ge (tgt := 51) (pc' := 45) dX11_heard_42 (by decide) rfl (fun _ => ?_) (fun z => absurd (nI_le (a := 2) (b := zs) (by omega) (by omega)) z)
    refine jb_aload_n (pc' := 52) dX11_heard_51 rfl rfl ?_
    refine jb_callV (pc' := 55) (ci := 10) (q := 88) (As := []) (a2 := 0) (b2 := 0) wv_X11_187 rfl dX11_heard_52 (c_best_2 Is nums Js Ws zs h1s hzs) rfl rfl ⟨by decide, Nat.le_of_eq (Nat.zero_add _), Nat.le_of_eq (Nat.zero_add _)⟩ (Nat.le_of_ble_eq_true rfl) rfl (fun r h9 hq => ?_)
    obtain ⟨b9, hB, rfl, rfl⟩ := hq
    show jb_J _ RX11 cX11_heard 5 (Option.some .int) false 3 0 0 55 [some (.ref 0), some (.int 2), some (.int 1), some (.ref 88), none] [.int (nI b9)] [jb_main imm Im Tm rowm stkm tpm, s1, s2, s3, jb_shs, s5, s6, jb_sht88 Is nums Js Ws, s8, s9, s10, s11] _
    refine jb_istore_ (pc' := 57) dX11_heard_55 (by decide) (jb_at4 rfl) rfl ?_
    refine jb_iload_n (pc' := 58) dX11_heard_57 rfl rfl ?_
    refine jb_if_ne (tgt := 64) (pc' := 61) dX11_heard_58 (by decide) rfl (fun _ => ?_) (fun z => absurd z (by decide))
    refine jb_iload_n (pc' := 65) dX11_heard_64 rfl rfl ?_
    refine jb_iconst (pc' := 66) 1 dX11_heard_65 (by decide) rfl ?_
    refine jb_icmp_ne (tgt := 78) (pc' := 69) dX11_heard_66 (by decide) rfl (fun z => absurd (by decide) z) (fun _ => ?_)
    refine jb_aload_n (pc' := 70) dX11_heard_69 rfl rfl ?_
    refine jb_iload (pc' := 72) dX11_heard_70 rfl rfl ?_
    refine jb_callV (pc' := 75) (ci := 10) (q := 88) (As := [.int (nI b9)]) (a2 := 0) (b2 := 0) wv_X11_190 rfl dX11_heard_72 (c_diff_2 Is nums Js Ws zs h1s hzs b9 hB.1) rfl rfl ⟨by decide, Nat.le_of_eq (Nat.zero_add _), Nat.le_of_eq (Nat.zero_add _)⟩ (Nat.le_of_ble_eq_true rfl) rfl (fun r h9 hq => ?_)
    obtain ⟨rfl, rfl⟩ := hq
    show jb_J _ RX11 cX11_heard 5 (Option.some .int) false 3 0 0 75 [some (.ref 0), some (.int 2), some (.int 1), some (.ref 88), some (.int (nI b9))] [.int (nI (jz_n nums zs b9 zs 0 0))] [jb_main imm Im Tm rowm stkm tpm, s1, s2, s3, jb_shs, s5, s6, jb_sht88 Is nums Js Ws, s8, s9, s10, s11] _
    refine jb_goto (pc' := 84) dX11_heard_75 (by decide) ?_
    refine jb_iret dX11_heard_84 rfl ?_
    exact ⟨b9, hB, rfl, rfl⟩
set_option maxRecDepth 100000 in
set_option maxHeartbeats 4000000 in
theorem kx_heard2_2 {sc : Nat × (Nat → Int32)} {s1 s2 s3 s5 s6 s8 s9 s10 s11 : List va_E} (imm : Int32) (Im rowm stkm tpm : Nat → Int32) (Tm : Nat → Value) (Is nums Js : Nat → Int32) (Ws : Nat → Nat → Int32) {bs zs : Nat} (h0s : Is 0 = nI bs) (h1s : Is 1 = nI zs) (hbs : bs ≤ 32) (hzs : zs ≤ 40) (hm : ¬ bs = 0) (h2 : 2 ≤ zs) : jb_C sc yX11_heard cX11_heard 5 (Option.some .int) 3 0 0 [.ref 0, .int 2, .int 2] [jb_main imm Im Tm rowm stkm tpm, s1, s2, s3, jb_shs, s5, s6, jb_sht88 Is nums Js Ws, s8, s9, s10, s11] (fun r h9 => ∃ b9, jz_B (fun g => jz_n nums zs g zs 0 0) b9 ∧ r = some (.int (nI (jz_f nums zs b9 zs 0 0))) ∧ [jb_main imm Im Tm rowm stkm tpm, s1, s2, s3, jb_shs, s5, s6, jb_sht88 Is nums Js Ws, s8, s9, s10, s11] = h9) := by
  refine jb_CofJ (ini := false) (by decide +kernel) (fun h => by cases h) (Nat.le_of_ble_eq_true rfl) ?_
  show jb_J sc RX11 cX11_heard 5 (Option.some .int) false 3 0 0 0 [some (.ref 0), some (.int 2), some (.int 2), none, none] [] [jb_main imm Im Tm rowm stkm tpm, s1, s2, s3, jb_shs, s5, s6, jb_sht88 Is nums Js Ws, s8, s9, s10, s11] _
  refine jb_aload_n (pc' := 1) dX11_heard_0 rfl rfl ?_
  refine jb_iload_n (pc' := 2) dX11_heard_1 rfl rfl ?_
  refine jb_callV (pc' := 5) (ci := 11) (q := 0) (As := [.int 2]) (a2 := 0) (b2 := 0) wv_X11_165 rfl dX11_heard_2 (c_isNoSheetG _ 2 (by omega)) rfl rfl ⟨by decide, Nat.le_of_eq (Nat.zero_add _), Nat.le_of_eq (Nat.zero_add _)⟩ (Nat.le_of_ble_eq_true rfl) rfl (fun r h9 hq => ?_)
  obtain ⟨rfl, rfl⟩ := hq
  show jb_J _ RX11 cX11_heard 5 (Option.some .int) false 3 0 0 5 [some (.ref 0), some (.int 2), some (.int 2), none, none] [.int 0] [jb_main imm Im Tm rowm stkm tpm, s1, s2, s3, jb_shs, s5, s6, jb_sht88 Is nums Js Ws, s8, s9, s10, s11] _
  refine jb_if_ne (tgt := 17) (pc' := 8) dX11_heard_5 (by decide) rfl (fun z => absurd (by decide) z) (fun _ => ?_)
  refine jb_iload_n (pc' := 9) dX11_heard_8 rfl rfl ?_
  refine jb_iconst (pc' := 10) 0 dX11_heard_9 (by decide) rfl ?_
  refine jb_iconst (pc' := 11) 2 dX11_heard_10 (by decide) rfl ?_
  refine jb_callS (pc' := 14) (As := [.int 2, .int 0, .int 2]) (a2 := 0) (b2 := 0) wv_X11_74 dX11_heard_11 (c_isOutLG 2 0 2 (by omega) (by omega) (by omega)) rfl ⟨by decide, Nat.le_of_eq (Nat.zero_add _), Nat.le_of_eq (Nat.zero_add _)⟩ (Nat.le_of_ble_eq_true rfl) rfl (fun r h9 hq => ?_)
  obtain ⟨rfl, rfl⟩ := hq
  show jb_J _ RX11 cX11_heard 5 (Option.some .int) false 3 0 0 14 [some (.ref 0), some (.int 2), some (.int 2), none, none] [.int 0] [jb_main imm Im Tm rowm stkm tpm, s1, s2, s3, jb_shs, s5, s6, jb_sht88 Is nums Js Ws, s8, s9, s10, s11] _
  refine jb_if_eq (tgt := 23) (pc' := 17) dX11_heard_14 (by decide) rfl (fun _ => ?_) (fun z => absurd (by decide) z)
  refine jb_aload_n (pc' := 24) dX11_heard_23 rfl rfl ?_
  refine gf_X11_54 (pc' := 27) (v := .ref 73) dX11_heard_24 rfl rfl rfl ?_
  refine jb_iload_n (pc' := 28) dX11_heard_27 rfl rfl ?_
  refine jb_aaload (pc' := 29) (i9 := 2) (r := 88) (Or.inr (Or.inr rfl)) dX11_heard_28 rfl jb_x2 (by decide) rfl rfl ?_
  refine jb_astore_n_ (pc' := 30) dX11_heard_29 (by decide) (jb_at3 rfl) rfl ?_
  refine jb_aload_n (pc' := 31) dX11_heard_30 rfl rfl ?_
  refine jb_callV (pc' := 34) (ci := 10) (q := 88) (As := []) (a2 := 0) (b2 := 0) wv_X11_168 rfl dX11_heard_31 (c_isMissing_2 Is nums Js Ws h0s h1s hbs hzs) rfl rfl ⟨by decide, Nat.le_of_eq (Nat.zero_add _), Nat.le_of_eq (Nat.zero_add _)⟩ (Nat.le_of_ble_eq_true rfl) rfl (fun r h9 hq => ?_)
  rcases hq with ⟨rfl, ⟨hms, rfl⟩ | ⟨hms, rfl⟩⟩
  · exact absurd hms hm
  · show jb_J _ RX11 cX11_heard 5 (Option.some .int) false 3 0 0 34 [some (.ref 0), some (.int 2), some (.int 2), some (.ref 88), none] [.int 0] [jb_main imm Im Tm rowm stkm tpm, s1, s2, s3, jb_shs, s5, s6, jb_sht88 Is nums Js Ws, s8, s9, s10, s11] _
    refine jb_if_ne (tgt := 45) (pc' := 37) dX11_heard_34 (by decide) rfl (fun z => absurd (by decide) z) (fun _ => ?_)
    refine jb_aload_n (pc' := 38) dX11_heard_37 rfl rfl ?_
    refine gf_X11_184 (pc' := 41) (v := .int (Is 1)) dX11_heard_38 rfl rfl rfl ?_
    refine jb_top (v := .int (Is 1)) (w := .int (nI zs)) (jb_vI h1s) ?_
    refine jb_iconst (pc' := 42) 2 dX11_heard_41 (by decide) rfl ?_
    refine jb_icmp_ge (tgt := 51) (pc' := 45) dX11_heard_42 (by decide) rfl (fun _ => ?_) (fun z => absurd (nI_le (a := 2) (b := zs) (by omega) (by omega)) z)
    refine jb_aload_n (pc' := 52) dX11_heard_51 rfl rfl ?_
    refine jb_callV (pc' := 55) (ci := 10) (q := 88) (As := []) (a2 := 0) (b2 := 0) wv_X11_187 rfl dX11_heard_52 (c_best_2 Is nums Js Ws zs h1s hzs) rfl rfl ⟨by decide, Nat.le_of_eq (Nat.zero_add _), Nat.le_of_eq (Nat.zero_add _)⟩ (Nat.le_of_ble_eq_true rfl) rfl (fun r h9 hq => ?_)
    obtain ⟨b9, hB, rfl, rfl⟩ := hq
    show jb_J _ RX11 cX11_heard 5 (Option.some .int) false 3 0 0 55 [some (.ref 0), some (.int 2), some (.int 2), some (.ref 88), none] [.int (nI b9)] [jb_main imm Im Tm rowm stkm tpm, s1, s2, s3, jb_shs, s5, s6, jb_sht88 Is nums Js Ws, s8, s9, s10, s11] _
    refine jb_istore_ (pc' := 57) dX11_heard_55 (by decide) (jb_at4 rfl) rfl ?_
    refine jb_iload_n (pc' := 58) dX11_heard_57 rfl rfl ?_
    refine jb_if_ne (tgt := 64) (pc' := 61) dX11_heard_58 (by decide) rfl (fun _ => ?_) (fun z => absurd z (by decide))
    refine jb_iload_n (pc' := 65) dX11_heard_64 rfl rfl ?_
    refine jb_iconst (pc' := 66) 1 dX11_heard_65 (by decide) rfl ?_
    refine jb_icmp_ne (tgt := 78) (pc' := 69) dX11_heard_66 (by decide) rfl (fun _ => ?_) (fun z => absurd z (by decide))
    refine jb_aload_n (pc' := 79) dX11_heard_78 rfl rfl ?_
    refine jb_iload (pc' := 81) dX11_heard_79 rfl rfl ?_
    refine jb_callV (pc' := 84) (ci := 10) (q := 88) (As := [.int (nI b9)]) (a2 := 0) (b2 := 0) wv_X11_193 rfl dX11_heard_81 (c_first_2 Is nums Js Ws zs h1s hzs b9 hB.1) rfl rfl ⟨by decide, Nat.le_of_eq (Nat.zero_add _), Nat.le_of_eq (Nat.zero_add _)⟩ (Nat.le_of_ble_eq_true rfl) rfl (fun r h9 hq => ?_)
    obtain ⟨rfl, rfl⟩ := hq
    show jb_J _ RX11 cX11_heard 5 (Option.some .int) false 3 0 0 84 [some (.ref 0), some (.int 2), some (.int 2), some (.ref 88), some (.int (nI b9))] [.int (nI (jz_f nums zs b9 zs 0 0))] [jb_main imm Im Tm rowm stkm tpm, s1, s2, s3, jb_shs, s5, s6, jb_sht88 Is nums Js Ws, s8, s9, s10, s11] _
    refine jb_iret dX11_heard_84 rfl ?_
    exact ⟨b9, hB, rfl, rfl⟩
set_option maxRecDepth 100000 in
set_option maxHeartbeats 4000000 in
theorem l_diff_3 {sc : Nat × (Nat → Int32)} {s0 s1 s2 s3 s4 s5 s6 s7 s9 s10 s11 : List va_E} (Is nums Js : Nat → Int32) (Ws : Nat → Nat → Int32) (zs : Nat) (h1s : Is 1 = nI zs) (hzs : zs ≤ 40) (g : Nat) (hg : g ≤ 40) : ∀ (n i k : Nat), zs ≤ i + 2 * n → i ≤ zs + 2 → k ≤ i → jb_J sc RX10 cX10_differing 4 (Option.some .int) false 1 0 0 4 [some (.ref 95), some (.int (nI g)), some (.int (nI k)), some (.int (nI i))] [] [s0, s1, s2, s3, s4, s5, s6, s7, jb_sht95 Is nums Js Ws, s9, s10, s11] (fun r h9 => r = some (.int (nI (jz_n nums zs g n i k))) ∧ [s0, s1, s2, s3, s4, s5, s6, s7, jb_sht95 Is nums Js Ws, s9, s10, s11] = h9) := by
  intro n
  induction n with
  | zero =>
    intro i k hi hi2 hk
    show jb_J _ RX10 cX10_differing 4 (Option.some .int) false 1 0 0 4 [some (.ref 95), some (.int (nI g)), some (.int (nI k)), some (.int (nI i))] [] [s0, s1, s2, s3, s4, s5, s6, s7, jb_sht95 Is nums Js Ws, s9, s10, s11] _
    refine jb_iload_n (pc' := 5) dX10_differing_4 rfl rfl ?_
    refine jb_iconst (pc' := 6) 1 dX10_differing_5 (by decide) rfl ?_
    refine jb_iadd (pc' := 7) dX10_differing_6 rfl ?_
    refine jb_top (v := .int ((nI i) + 1)) (w := .int (nI (i + 1))) (jb_vI (nI_add _ 1)) ?_
    refine jb_aload_n (pc' := 8) dX10_differing_7 rfl rfl ?_
    refine gf_X10_15 (pc' := 11) (v := .int (Is 1)) dX10_differing_8 rfl rfl rfl ?_
    refine jb_top (v := .int (Is 1)) (w := .int (nI zs)) (jb_vI h1s) ?_
    refine jb_icmp_ge (tgt := 49) (pc' := 14) dX10_differing_11 (by decide) rfl (fun _ => ?_) (fun z => absurd (nI_le (a := zs) (b := i + 1) (by omega) (by omega)) z)
    refine jb_iload_n (pc' := 50) dX10_differing_49 rfl rfl ?_
    refine jb_iret dX10_differing_50 rfl ?_
    exact ⟨rfl, rfl⟩
  | succ n ih =>
    intro i k hi hi2 hk
    by_cases hi1 : i + 1 < zs
    · have eG : jz_n nums zs g (n + 1) i k = jz_n nums zs g n (i + 2) (if jz_d nums i = g then k + 1 else k) := if_pos hi1
      by_cases hv : jz_d nums i = g
      · rw [if_pos hv] at eG
        rw [eG]
        show jb_J _ RX10 cX10_differing 4 (Option.some .int) false 1 0 0 4 [some (.ref 95), some (.int (nI g)), some (.int (nI k)), some (.int (nI i))] [] [s0, s1, s2, s3, s4, s5, s6, s7, jb_sht95 Is nums Js Ws, s9, s10, s11] _
        refine jb_iload_n (pc' := 5) dX10_differing_4 rfl rfl ?_
        refine jb_iconst (pc' := 6) 1 dX10_differing_5 (by decide) rfl ?_
        refine jb_iadd (pc' := 7) dX10_differing_6 rfl ?_
        refine jb_top (v := .int ((nI i) + 1)) (w := .int (nI (i + 1))) (jb_vI (nI_add _ 1)) ?_
        refine jb_aload_n (pc' := 8) dX10_differing_7 rfl rfl ?_
        refine gf_X10_15 (pc' := 11) (v := .int (Is 1)) dX10_differing_8 rfl rfl rfl ?_
        refine jb_top (v := .int (Is 1)) (w := .int (nI zs)) (jb_vI h1s) ?_
        refine jb_icmp_ge (tgt := 49) (pc' := 14) dX10_differing_11 (by decide) rfl (fun z => absurd z (nI_ge (a := i + 1) (b := zs) (by omega) (by omega))) (fun _ => ?_)
        refine jb_aload_n (pc' := 15) dX10_differing_14 rfl rfl ?_
        refine gf_X10_18 (pc' := 18) (v := .ref 96) dX10_differing_15 rfl rfl rfl ?_
        refine jb_iload_n (pc' := 19) dX10_differing_18 rfl rfl ?_
        refine jb_iaload (pc' := 20) (i9 := i) (f := nums) dX10_differing_19 rfl (jb_ix_nI (by omega)) (by omega) rfl ?_
        refine jb_i2l (pc' := 21) dX10_differing_20 rfl ?_
        refine jb_aload_n (pc' := 22) dX10_differing_21 rfl rfl ?_
        refine gf_X10_18 (pc' := 25) (v := .ref 96) dX10_differing_22 rfl rfl rfl ?_
        refine jb_iload_n (pc' := 26) dX10_differing_25 rfl rfl ?_
        refine jb_iconst (pc' := 27) 1 dX10_differing_26 (by decide) rfl ?_
        refine jb_iadd (pc' := 28) dX10_differing_27 rfl ?_
        refine jb_top (v := .int ((nI i) + 1)) (w := .int (nI (i + 1))) (jb_vI (nI_add _ 1)) ?_
        refine jb_iaload (pc' := 29) (i9 := (i + 1)) (f := nums) dX10_differing_28 rfl (jb_ix_nI (by omega)) (by omega) rfl ?_
        refine jb_i2l (pc' := 30) dX10_differing_29 rfl ?_
        refine jb_lsub (pc' := 31) dX10_differing_30 rfl ?_
        refine jb_mabsl (pc' := 34) wv_X10_77 dX10_differing_31 (by decide) (Nat.le_of_ble_eq_true rfl) rfl ?_
        refine jb_iload_n (pc' := 35) dX10_differing_34 rfl rfl ?_
        refine jb_i2l (pc' := 36) dX10_differing_35 rfl ?_
        refine jb_lcmp (pc' := 37) dX10_differing_36 rfl ?_
        refine jb_if_ne (tgt := 43) (pc' := 40) dX10_differing_37 (by decide) rfl (fun z => absurd (jl_eq.mpr ((jz_abs _ _ hg).mpr hv)) z) (fun _ => ?_)
        refine jb_iinc_ (pc' := 43) (nI (k + 1)) dX10_differing_40 (by decide) rfl (jb_inc k 1) (jb_at2 rfl) rfl ?_
        refine jb_iinc_ (pc' := 46) (nI (i + 2)) dX10_differing_43 (by decide) rfl (jb_inc i 2) (jb_at3 rfl) rfl ?_
        refine jb_goto (pc' := 4) dX10_differing_46 (by decide) ?_
        exact ih (i + 2) (k + 1) (by omega) (by omega) (by omega)
      · rw [if_neg hv] at eG
        rw [eG]
        show jb_J _ RX10 cX10_differing 4 (Option.some .int) false 1 0 0 4 [some (.ref 95), some (.int (nI g)), some (.int (nI k)), some (.int (nI i))] [] [s0, s1, s2, s3, s4, s5, s6, s7, jb_sht95 Is nums Js Ws, s9, s10, s11] _
        refine jb_iload_n (pc' := 5) dX10_differing_4 rfl rfl ?_
        refine jb_iconst (pc' := 6) 1 dX10_differing_5 (by decide) rfl ?_
        refine jb_iadd (pc' := 7) dX10_differing_6 rfl ?_
        refine jb_top (v := .int ((nI i) + 1)) (w := .int (nI (i + 1))) (jb_vI (nI_add _ 1)) ?_
        refine jb_aload_n (pc' := 8) dX10_differing_7 rfl rfl ?_
        refine gf_X10_15 (pc' := 11) (v := .int (Is 1)) dX10_differing_8 rfl rfl rfl ?_
        refine jb_top (v := .int (Is 1)) (w := .int (nI zs)) (jb_vI h1s) ?_
        refine jb_icmp_ge (tgt := 49) (pc' := 14) dX10_differing_11 (by decide) rfl (fun z => absurd z (nI_ge (a := i + 1) (b := zs) (by omega) (by omega))) (fun _ => ?_)
        refine jb_aload_n (pc' := 15) dX10_differing_14 rfl rfl ?_
        refine gf_X10_18 (pc' := 18) (v := .ref 96) dX10_differing_15 rfl rfl rfl ?_
        refine jb_iload_n (pc' := 19) dX10_differing_18 rfl rfl ?_
        refine jb_iaload (pc' := 20) (i9 := i) (f := nums) dX10_differing_19 rfl (jb_ix_nI (by omega)) (by omega) rfl ?_
        refine jb_i2l (pc' := 21) dX10_differing_20 rfl ?_
        refine jb_aload_n (pc' := 22) dX10_differing_21 rfl rfl ?_
        refine gf_X10_18 (pc' := 25) (v := .ref 96) dX10_differing_22 rfl rfl rfl ?_
        refine jb_iload_n (pc' := 26) dX10_differing_25 rfl rfl ?_
        refine jb_iconst (pc' := 27) 1 dX10_differing_26 (by decide) rfl ?_
        refine jb_iadd (pc' := 28) dX10_differing_27 rfl ?_
        refine jb_top (v := .int ((nI i) + 1)) (w := .int (nI (i + 1))) (jb_vI (nI_add _ 1)) ?_
        refine jb_iaload (pc' := 29) (i9 := (i + 1)) (f := nums) dX10_differing_28 rfl (jb_ix_nI (by omega)) (by omega) rfl ?_
        refine jb_i2l (pc' := 30) dX10_differing_29 rfl ?_
        refine jb_lsub (pc' := 31) dX10_differing_30 rfl ?_
        refine jb_mabsl (pc' := 34) wv_X10_77 dX10_differing_31 (by decide) (Nat.le_of_ble_eq_true rfl) rfl ?_
        refine jb_iload_n (pc' := 35) dX10_differing_34 rfl rfl ?_
        refine jb_i2l (pc' := 36) dX10_differing_35 rfl ?_
        refine jb_lcmp (pc' := 37) dX10_differing_36 rfl ?_
        refine jb_if_ne (tgt := 43) (pc' := 40) dX10_differing_37 (by decide) rfl (fun _ => ?_) (fun z => absurd z (fun z => hv ((jz_abs _ _ hg).mp (jl_eq.mp z))))
        refine jb_iinc_ (pc' := 46) (nI (i + 2)) dX10_differing_43 (by decide) rfl (jb_inc i 2) (jb_at3 rfl) rfl ?_
        refine jb_goto (pc' := 4) dX10_differing_46 (by decide) ?_
        exact ih (i + 2) (k) (by omega) (by omega) (by omega)
    · have eG : jz_n nums zs g (n + 1) i k = k := if_neg hi1
      rw [eG]
      show jb_J _ RX10 cX10_differing 4 (Option.some .int) false 1 0 0 4 [some (.ref 95), some (.int (nI g)), some (.int (nI k)), some (.int (nI i))] [] [s0, s1, s2, s3, s4, s5, s6, s7, jb_sht95 Is nums Js Ws, s9, s10, s11] _
      refine jb_iload_n (pc' := 5) dX10_differing_4 rfl rfl ?_
      refine jb_iconst (pc' := 6) 1 dX10_differing_5 (by decide) rfl ?_
      refine jb_iadd (pc' := 7) dX10_differing_6 rfl ?_
      refine jb_top (v := .int ((nI i) + 1)) (w := .int (nI (i + 1))) (jb_vI (nI_add _ 1)) ?_
      refine jb_aload_n (pc' := 8) dX10_differing_7 rfl rfl ?_
      refine gf_X10_15 (pc' := 11) (v := .int (Is 1)) dX10_differing_8 rfl rfl rfl ?_
      refine jb_top (v := .int (Is 1)) (w := .int (nI zs)) (jb_vI h1s) ?_
      refine jb_icmp_ge (tgt := 49) (pc' := 14) dX10_differing_11 (by decide) rfl (fun _ => ?_) (fun z => absurd (nI_le (a := zs) (b := i + 1) (by omega) (by omega)) z)
      refine jb_iload_n (pc' := 50) dX10_differing_49 rfl rfl ?_
      refine jb_iret dX10_differing_50 rfl ?_
      exact ⟨rfl, rfl⟩
set_option maxRecDepth 100000 in
set_option maxHeartbeats 4000000 in
theorem c_diff_3 {sc : Nat × (Nat → Int32)} {s0 s1 s2 s3 s4 s5 s6 s7 s9 s10 s11 : List va_E} (Is nums Js : Nat → Int32) (Ws : Nat → Nat → Int32) (zs : Nat) (h1s : Is 1 = nI zs) (hzs : zs ≤ 40) (g : Nat) (hg : g ≤ 40) : jb_C sc yX10_differing cX10_differing 4 (Option.some .int) 1 0 0 [.ref 95, .int (nI g)] [s0, s1, s2, s3, s4, s5, s6, s7, jb_sht95 Is nums Js Ws, s9, s10, s11] (fun r h9 => r = some (.int (nI (jz_n nums zs g zs 0 0))) ∧ [s0, s1, s2, s3, s4, s5, s6, s7, jb_sht95 Is nums Js Ws, s9, s10, s11] = h9) := by
  refine jb_CofJ (ini := false) (by decide +kernel) (fun h => by cases h) (Nat.le_of_ble_eq_true rfl) ?_
  show jb_J sc RX10 cX10_differing 4 (Option.some .int) false 1 0 0 0 [some (.ref 95), some (.int (nI g)), none, none] [] [s0, s1, s2, s3, s4, s5, s6, s7, jb_sht95 Is nums Js Ws, s9, s10, s11] _
  refine jb_iconst (pc' := 1) 0 dX10_differing_0 (by decide) rfl ?_
  refine jb_istore_n_ (pc' := 2) dX10_differing_1 (by decide) (jb_at2 rfl) rfl ?_
  refine jb_iconst (pc' := 3) 0 dX10_differing_2 (by decide) rfl ?_
  refine jb_istore_n_ (pc' := 4) dX10_differing_3 (by decide) (jb_at3 rfl) rfl ?_
  exact l_diff_3 Is nums Js Ws zs h1s hzs g hg zs 0 0 (by omega) (by omega) (by omega)
set_option maxRecDepth 100000 in
set_option maxHeartbeats 4000000 in
theorem l_first_3 {sc : Nat × (Nat → Int32)} {s0 s1 s2 s3 s4 s5 s6 s7 s9 s10 s11 : List va_E} (Is nums Js : Nat → Int32) (Ws : Nat → Nat → Int32) (zs : Nat) (h1s : Is 1 = nI zs) (hzs : zs ≤ 40) (g : Nat) (hg : g ≤ 40) : ∀ (n i k : Nat) (x4 x5 : Option Value), zs ≤ i + 2 * n → i ≤ zs + 2 → k ≤ i → jb_J sc RX10 cX10_fromFirstCliff 6 (Option.some .int) false 1 0 0 4 [some (.ref 95), some (.int (nI g)), some (.int (nI k)), some (.int (nI i)), x4, x5] [] [s0, s1, s2, s3, s4, s5, s6, s7, jb_sht95 Is nums Js Ws, s9, s10, s11] (fun r h9 => r = some (.int (nI (jz_f nums zs g n i k))) ∧ [s0, s1, s2, s3, s4, s5, s6, s7, jb_sht95 Is nums Js Ws, s9, s10, s11] = h9) := by
  intro n
  induction n with
  | zero =>
    intro i k x4 x5 hi hi2 hk
    show jb_J _ RX10 cX10_fromFirstCliff 6 (Option.some .int) false 1 0 0 4 [some (.ref 95), some (.int (nI g)), some (.int (nI k)), some (.int (nI i)), x4, x5] [] [s0, s1, s2, s3, s4, s5, s6, s7, jb_sht95 Is nums Js Ws, s9, s10, s11] _
    refine jb_iload_n (pc' := 5) dX10_fromFirstCliff_4 rfl rfl ?_
    refine jb_iconst (pc' := 6) 1 dX10_fromFirstCliff_5 (by decide) rfl ?_
    refine jb_iadd (pc' := 7) dX10_fromFirstCliff_6 rfl ?_
    refine jb_top (v := .int ((nI i) + 1)) (w := .int (nI (i + 1))) (jb_vI (nI_add _ 1)) ?_
    refine jb_aload_n (pc' := 8) dX10_fromFirstCliff_7 rfl rfl ?_
    refine gf_X10_15 (pc' := 11) (v := .int (Is 1)) dX10_fromFirstCliff_8 rfl rfl rfl ?_
    refine jb_top (v := .int (Is 1)) (w := .int (nI zs)) (jb_vI h1s) ?_
    refine jb_icmp_ge (tgt := 57) (pc' := 14) dX10_fromFirstCliff_11 (by decide) rfl (fun _ => ?_) (fun z => absurd (nI_le (a := zs) (b := i + 1) (by omega) (by omega)) z)
    refine jb_iload_n (pc' := 58) dX10_fromFirstCliff_57 rfl rfl ?_
    refine jb_iret dX10_fromFirstCliff_58 rfl ?_
    exact ⟨rfl, rfl⟩
  | succ n ih =>
    intro i k x4 x5 hi hi2 hk
    by_cases hi1 : i + 1 < zs
    · have eG : jz_f nums zs g (n + 1) i k = jz_f nums zs g n (i + 2) (if (nums (i + 1)).toInt - (nums i).toInt = (g : Int) ∧ 0 < g then k + 1 else k) := if_pos hi1
      by_cases hv : (nums (i + 1)).toInt - (nums i).toInt = (g : Int) ∧ 0 < g
      · rw [if_pos hv] at eG
        rw [eG]
        show jb_J _ RX10 cX10_fromFirstCliff 6 (Option.some .int) false 1 0 0 4 [some (.ref 95), some (.int (nI g)), some (.int (nI k)), some (.int (nI i)), x4, x5] [] [s0, s1, s2, s3, s4, s5, s6, s7, jb_sht95 Is nums Js Ws, s9, s10, s11] _
        refine jb_iload_n (pc' := 5) dX10_fromFirstCliff_4 rfl rfl ?_
        refine jb_iconst (pc' := 6) 1 dX10_fromFirstCliff_5 (by decide) rfl ?_
        refine jb_iadd (pc' := 7) dX10_fromFirstCliff_6 rfl ?_
        refine jb_top (v := .int ((nI i) + 1)) (w := .int (nI (i + 1))) (jb_vI (nI_add _ 1)) ?_
        refine jb_aload_n (pc' := 8) dX10_fromFirstCliff_7 rfl rfl ?_
        refine gf_X10_15 (pc' := 11) (v := .int (Is 1)) dX10_fromFirstCliff_8 rfl rfl rfl ?_
        refine jb_top (v := .int (Is 1)) (w := .int (nI zs)) (jb_vI h1s) ?_
        refine jb_icmp_ge (tgt := 57) (pc' := 14) dX10_fromFirstCliff_11 (by decide) rfl (fun z => absurd z (nI_ge (a := i + 1) (b := zs) (by omega) (by omega))) (fun _ => ?_)
        refine jb_aload_n (pc' := 15) dX10_fromFirstCliff_14 rfl rfl ?_
        refine gf_X10_18 (pc' := 18) (v := .ref 96) dX10_fromFirstCliff_15 rfl rfl rfl ?_
        refine jb_iload_n (pc' := 19) dX10_fromFirstCliff_18 rfl rfl ?_
        refine jb_iconst (pc' := 20) 1 dX10_fromFirstCliff_19 (by decide) rfl ?_
        refine jb_iadd (pc' := 21) dX10_fromFirstCliff_20 rfl ?_
        refine jb_top (v := .int ((nI i) + 1)) (w := .int (nI (i + 1))) (jb_vI (nI_add _ 1)) ?_
        refine jb_iaload (pc' := 22) (i9 := (i + 1)) (f := nums) dX10_fromFirstCliff_21 rfl (jb_ix_nI (by omega)) (by omega) rfl ?_
        refine jb_i2l (pc' := 23) dX10_fromFirstCliff_22 rfl ?_
        refine jb_aload_n (pc' := 24) dX10_fromFirstCliff_23 rfl rfl ?_
        refine gf_X10_18 (pc' := 27) (v := .ref 96) dX10_fromFirstCliff_24 rfl rfl rfl ?_
        refine jb_iload_n (pc' := 28) dX10_fromFirstCliff_27 rfl rfl ?_
        refine jb_iaload (pc' := 29) (i9 := i) (f := nums) dX10_fromFirstCliff_28 rfl (jb_ix_nI (by omega)) (by omega) rfl ?_
        refine jb_i2l (pc' := 30) dX10_fromFirstCliff_29 rfl ?_
        refine jb_lsub (pc' := 31) dX10_fromFirstCliff_30 rfl ?_
        refine jb_lstore_ (pc' := 33) dX10_fromFirstCliff_31 (by decide) (jb_lt4 rfl) rfl ?_
        refine jb_lload (pc' := 35) dX10_fromFirstCliff_33 rfl rfl ?_
        refine jb_lconst (pc' := 36) 0 dX10_fromFirstCliff_35 (by decide) rfl ?_
        refine jb_lcmp (pc' := 37) dX10_fromFirstCliff_36 rfl ?_
        refine jb_if_le (tgt := 51) (pc' := 40) dX10_fromFirstCliff_37 (by decide) rfl (fun z => absurd z (Int32.not_le.mpr (jl_gt.mpr ((jz_p0 _ _).mpr (by omega))))) (fun _ => ?_)
        refine jb_lload (pc' := 42) dX10_fromFirstCliff_40 rfl rfl ?_
        refine jb_iload_n (pc' := 43) dX10_fromFirstCliff_42 rfl rfl ?_
        refine jb_i2l (pc' := 44) dX10_fromFirstCliff_43 rfl ?_
        refine jb_lcmp (pc' := 45) dX10_fromFirstCliff_44 rfl ?_
        refine jb_if_ne (tgt := 51) (pc' := 48) dX10_fromFirstCliff_45 (by decide) rfl (fun z => absurd (jl_eq.mpr ((jz_lt _ _ hg).mpr hv.1)) z) (fun _ => ?_)
        refine jb_iinc_ (pc' := 51) (nI (k + 1)) dX10_fromFirstCliff_48 (by decide) rfl (jb_inc k 1) (jb_at2 rfl) rfl ?_
        refine jb_iinc_ (pc' := 54) (nI (i + 2)) dX10_fromFirstCliff_51 (by decide) rfl (jb_inc i 2) (jb_at3 rfl) rfl ?_
        refine jb_goto (pc' := 4) dX10_fromFirstCliff_54 (by decide) ?_
        exact ih (i + 2) (k + 1) _ _ (by omega) (by omega) (by omega)
      · rw [if_neg hv] at eG
        rw [eG]
        show jb_J _ RX10 cX10_fromFirstCliff 6 (Option.some .int) false 1 0 0 4 [some (.ref 95), some (.int (nI g)), some (.int (nI k)), some (.int (nI i)), x4, x5] [] [s0, s1, s2, s3, s4, s5, s6, s7, jb_sht95 Is nums Js Ws, s9, s10, s11] _
        refine jb_iload_n (pc' := 5) dX10_fromFirstCliff_4 rfl rfl ?_
        refine jb_iconst (pc' := 6) 1 dX10_fromFirstCliff_5 (by decide) rfl ?_
        refine jb_iadd (pc' := 7) dX10_fromFirstCliff_6 rfl ?_
        refine jb_top (v := .int ((nI i) + 1)) (w := .int (nI (i + 1))) (jb_vI (nI_add _ 1)) ?_
        refine jb_aload_n (pc' := 8) dX10_fromFirstCliff_7 rfl rfl ?_
        refine gf_X10_15 (pc' := 11) (v := .int (Is 1)) dX10_fromFirstCliff_8 rfl rfl rfl ?_
        refine jb_top (v := .int (Is 1)) (w := .int (nI zs)) (jb_vI h1s) ?_
        refine jb_icmp_ge (tgt := 57) (pc' := 14) dX10_fromFirstCliff_11 (by decide) rfl (fun z => absurd z (nI_ge (a := i + 1) (b := zs) (by omega) (by omega))) (fun _ => ?_)
        refine jb_aload_n (pc' := 15) dX10_fromFirstCliff_14 rfl rfl ?_
        refine gf_X10_18 (pc' := 18) (v := .ref 96) dX10_fromFirstCliff_15 rfl rfl rfl ?_
        refine jb_iload_n (pc' := 19) dX10_fromFirstCliff_18 rfl rfl ?_
        refine jb_iconst (pc' := 20) 1 dX10_fromFirstCliff_19 (by decide) rfl ?_
        refine jb_iadd (pc' := 21) dX10_fromFirstCliff_20 rfl ?_
        refine jb_top (v := .int ((nI i) + 1)) (w := .int (nI (i + 1))) (jb_vI (nI_add _ 1)) ?_
        refine jb_iaload (pc' := 22) (i9 := (i + 1)) (f := nums) dX10_fromFirstCliff_21 rfl (jb_ix_nI (by omega)) (by omega) rfl ?_
        refine jb_i2l (pc' := 23) dX10_fromFirstCliff_22 rfl ?_
        refine jb_aload_n (pc' := 24) dX10_fromFirstCliff_23 rfl rfl ?_
        refine gf_X10_18 (pc' := 27) (v := .ref 96) dX10_fromFirstCliff_24 rfl rfl rfl ?_
        refine jb_iload_n (pc' := 28) dX10_fromFirstCliff_27 rfl rfl ?_
        refine jb_iaload (pc' := 29) (i9 := i) (f := nums) dX10_fromFirstCliff_28 rfl (jb_ix_nI (by omega)) (by omega) rfl ?_
        refine jb_i2l (pc' := 30) dX10_fromFirstCliff_29 rfl ?_
        refine jb_lsub (pc' := 31) dX10_fromFirstCliff_30 rfl ?_
        refine jb_lstore_ (pc' := 33) dX10_fromFirstCliff_31 (by decide) (jb_lt4 rfl) rfl ?_
        refine jb_lload (pc' := 35) dX10_fromFirstCliff_33 rfl rfl ?_
        refine jb_lconst (pc' := 36) 0 dX10_fromFirstCliff_35 (by decide) rfl ?_
        refine jb_lcmp (pc' := 37) dX10_fromFirstCliff_36 rfl ?_
        refine jb_if_le (tgt := 51) (pc' := 40) dX10_fromFirstCliff_37 (by decide) rfl (fun q37 => ?_) (fun q37 => ?_)
        · refine jb_iinc_ (pc' := 54) (nI (i + 2)) dX10_fromFirstCliff_51 (by decide) rfl (jb_inc i 2) (jb_at3 rfl) rfl ?_
          refine jb_goto (pc' := 4) dX10_fromFirstCliff_54 (by decide) ?_
          exact ih (i + 2) (k) _ _ (by omega) (by omega) (by omega)
        · refine jb_lload (pc' := 42) dX10_fromFirstCliff_40 rfl rfl ?_
          refine jb_iload_n (pc' := 43) dX10_fromFirstCliff_42 rfl rfl ?_
          refine jb_i2l (pc' := 44) dX10_fromFirstCliff_43 rfl ?_
          refine jb_lcmp (pc' := 45) dX10_fromFirstCliff_44 rfl ?_
          refine jb_if_ne (tgt := 51) (pc' := 48) dX10_fromFirstCliff_45 (by decide) rfl (fun _ => ?_) (fun z => absurd z (fun z => hv ⟨(jz_lt _ _ hg).mp (jl_eq.mp z), by have z1 := (jz_p0 _ _).mp (jl_gt.mp (Int32.not_le.mp q37)); have z2 := (jz_lt _ _ hg).mp (jl_eq.mp z); omega⟩))
          refine jb_iinc_ (pc' := 54) (nI (i + 2)) dX10_fromFirstCliff_51 (by decide) rfl (jb_inc i 2) (jb_at3 rfl) rfl ?_
          refine jb_goto (pc' := 4) dX10_fromFirstCliff_54 (by decide) ?_
          exact ih (i + 2) (k) _ _ (by omega) (by omega) (by omega)
    · have eG : jz_f nums zs g (n + 1) i k = k := if_neg hi1
      rw [eG]
      show jb_J _ RX10 cX10_fromFirstCliff 6 (Option.some .int) false 1 0 0 4 [some (.ref 95), some (.int (nI g)), some (.int (nI k)), some (.int (nI i)), x4, x5] [] [s0, s1, s2, s3, s4, s5, s6, s7, jb_sht95 Is nums Js Ws, s9, s10, s11] _
      refine jb_iload_n (pc' := 5) dX10_fromFirstCliff_4 rfl rfl ?_
      refine jb_iconst (pc' := 6) 1 dX10_fromFirstCliff_5 (by decide) rfl ?_
      refine jb_iadd (pc' := 7) dX10_fromFirstCliff_6 rfl ?_
      refine jb_top (v := .int ((nI i) + 1)) (w := .int (nI (i + 1))) (jb_vI (nI_add _ 1)) ?_
      refine jb_aload_n (pc' := 8) dX10_fromFirstCliff_7 rfl rfl ?_
      refine gf_X10_15 (pc' := 11) (v := .int (Is 1)) dX10_fromFirstCliff_8 rfl rfl rfl ?_
      refine jb_top (v := .int (Is 1)) (w := .int (nI zs)) (jb_vI h1s) ?_
      refine jb_icmp_ge (tgt := 57) (pc' := 14) dX10_fromFirstCliff_11 (by decide) rfl (fun _ => ?_) (fun z => absurd (nI_le (a := zs) (b := i + 1) (by omega) (by omega)) z)
      refine jb_iload_n (pc' := 58) dX10_fromFirstCliff_57 rfl rfl ?_
      refine jb_iret dX10_fromFirstCliff_58 rfl ?_
      exact ⟨rfl, rfl⟩
set_option maxRecDepth 100000 in
set_option maxHeartbeats 4000000 in
theorem c_first_3 {sc : Nat × (Nat → Int32)} {s0 s1 s2 s3 s4 s5 s6 s7 s9 s10 s11 : List va_E} (Is nums Js : Nat → Int32) (Ws : Nat → Nat → Int32) (zs : Nat) (h1s : Is 1 = nI zs) (hzs : zs ≤ 40) (g : Nat) (hg : g ≤ 40) : jb_C sc yX10_fromFirstCliff cX10_fromFirstCliff 6 (Option.some .int) 1 0 0 [.ref 95, .int (nI g)] [s0, s1, s2, s3, s4, s5, s6, s7, jb_sht95 Is nums Js Ws, s9, s10, s11] (fun r h9 => r = some (.int (nI (jz_f nums zs g zs 0 0))) ∧ [s0, s1, s2, s3, s4, s5, s6, s7, jb_sht95 Is nums Js Ws, s9, s10, s11] = h9) := by
  refine jb_CofJ (ini := false) (by decide +kernel) (fun h => by cases h) (Nat.le_of_ble_eq_true rfl) ?_
  show jb_J sc RX10 cX10_fromFirstCliff 6 (Option.some .int) false 1 0 0 0 [some (.ref 95), some (.int (nI g)), none, none, none, none] [] [s0, s1, s2, s3, s4, s5, s6, s7, jb_sht95 Is nums Js Ws, s9, s10, s11] _
  refine jb_iconst (pc' := 1) 0 dX10_fromFirstCliff_0 (by decide) rfl ?_
  refine jb_istore_n_ (pc' := 2) dX10_fromFirstCliff_1 (by decide) (jb_at2 rfl) rfl ?_
  refine jb_iconst (pc' := 3) 0 dX10_fromFirstCliff_2 (by decide) rfl ?_
  refine jb_istore_n_ (pc' := 4) dX10_fromFirstCliff_3 (by decide) (jb_at3 rfl) rfl ?_
  exact l_first_3 Is nums Js Ws zs h1s hzs g hg zs 0 0 _ _ (by omega) (by omega) (by omega)
set_option maxRecDepth 100000 in
set_option maxHeartbeats 4000000 in
theorem l_best_3 {sc : Nat × (Nat → Int32)} {s0 s1 s2 s3 s4 s5 s6 s7 s9 s10 s11 : List va_E} (Is nums Js : Nat → Int32) (Ws : Nat → Nat → Int32) (zs : Nat) (h1s : Is 1 = nI zs) (hzs : zs ≤ 40) : ∀ (n g b m : Nat) (x4 : Option Value), g + n = 41 → b ≤ 40 → m ≤ 40 → (∀ h, h < g → (fun g => jz_n nums zs g zs 0 0) h ≤ m) → m ≤ (fun g => jz_n nums zs g zs 0 0) b → (∀ h, h < b → (fun g => jz_n nums zs g zs 0 0) h < m) → jb_J sc RX10 cX10_bestDifference 5 (Option.some .int) false 2 0 0 6 [some (.ref 95), some (.int (nI b)), some (.int (nI m)), some (.int (nI g)), x4] [] [s0, s1, s2, s3, s4, s5, s6, s7, jb_sht95 Is nums Js Ws, s9, s10, s11] (fun r h9 => ∃ b, jz_B (fun g => jz_n nums zs g zs 0 0) b ∧ r = some (.int (nI b)) ∧ [s0, s1, s2, s3, s4, s5, s6, s7, jb_sht95 Is nums Js Ws, s9, s10, s11] = h9) := by
  intro n
  induction n with
  | zero =>
    intro g b m x4 hg h1 h2 h3 h4 h5
    show jb_J _ RX10 cX10_bestDifference 5 (Option.some .int) false 2 0 0 6 [some (.ref 95), some (.int (nI b)), some (.int (nI m)), some (.int (nI g)), x4] [] [s0, s1, s2, s3, s4, s5, s6, s7, jb_sht95 Is nums Js Ws, s9, s10, s11] _
    refine jb_iload_n (pc' := 7) dX10_bestDifference_6 rfl rfl ?_
    refine jb_bipush (pc' := 9) 40 dX10_bestDifference_7 (by decide) rfl ?_
    refine jb_icmp_gt (tgt := 36) (pc' := 12) dX10_bestDifference_9 (by decide) rfl (fun _ => ?_) (fun z => absurd (nI_lt (a := 40) (b := g) (by omega) (by omega)) z)
    refine jb_iload_n (pc' := 37) dX10_bestDifference_36 rfl rfl ?_
    refine jb_iret dX10_bestDifference_37 rfl ?_
    exact ⟨b, ⟨h1, fun h hh => Nat.le_trans (h3 h (by omega)) h4, fun h hh => Nat.lt_of_lt_of_le (h5 h hh) h4⟩, rfl, rfl⟩
  | succ n ih =>
    intro g b m x4 hg h1 h2 h3 h4 h5
    have c40 := jz_n_le (f := nums) (zs := zs) (g := g) zs 0 0
    show jb_J _ RX10 cX10_bestDifference 5 (Option.some .int) false 2 0 0 6 [some (.ref 95), some (.int (nI b)), some (.int (nI m)), some (.int (nI g)), x4] [] [s0, s1, s2, s3, s4, s5, s6, s7, jb_sht95 Is nums Js Ws, s9, s10, s11] _
    refine jb_iload_n (pc' := 7) dX10_bestDifference_6 rfl rfl ?_
    refine jb_bipush (pc' := 9) 40 dX10_bestDifference_7 (by decide) rfl ?_
    refine jb_icmp_gt (tgt := 36) (pc' := 12) dX10_bestDifference_9 (by decide) rfl (fun z => absurd z (nI_nlt (a := 40) (b := g) (by omega) (by omega))) (fun _ => ?_)
    refine jb_aload_n (pc' := 13) dX10_bestDifference_12 rfl rfl ?_
    refine jb_iload_n (pc' := 14) dX10_bestDifference_13 rfl rfl ?_
    refine jb_callV (pc' := 17) (ci := 10) (q := 95) (As := [.int (nI g)]) (a2 := 0) (b2 := 0) wv_X10_73 rfl dX10_bestDifference_14 (c_diff_3 Is nums Js Ws zs h1s hzs g (by omega)) rfl rfl ⟨by decide, Nat.le_of_eq (Nat.zero_add _), Nat.le_of_eq (Nat.zero_add _)⟩ (Nat.le_of_ble_eq_true rfl) rfl (fun r h9 hq => ?_)
    obtain ⟨rfl, rfl⟩ := hq
    show jb_J _ RX10 cX10_bestDifference 5 (Option.some .int) false 2 0 0 17 [some (.ref 95), some (.int (nI b)), some (.int (nI m)), some (.int (nI g)), x4] [.int (nI (jz_n nums zs g zs 0 0))] [s0, s1, s2, s3, s4, s5, s6, s7, jb_sht95 Is nums Js Ws, s9, s10, s11] _
    refine jb_istore_ (pc' := 19) dX10_bestDifference_17 (by decide) (jb_at4 rfl) rfl ?_
    refine jb_iload (pc' := 21) dX10_bestDifference_19 rfl rfl ?_
    refine jb_iload_n (pc' := 22) dX10_bestDifference_21 rfl rfl ?_
    refine jb_icmp_le (tgt := 30) (pc' := 25) dX10_bestDifference_22 (by decide) rfl (fun c2 => ?_) (fun c2 => ?_)
    · have c2 : (jz_n nums zs g zs 0 0) ≤ m := (nI_leI (a := (jz_n nums zs g zs 0 0)) (b := m) (by omega) (by omega)).mp c2
      refine jb_iinc_ (pc' := 33) (nI (g + 1)) dX10_bestDifference_30 (by decide) rfl (jb_inc g 1) (jb_at3 rfl) rfl ?_
      refine jb_goto (pc' := 6) dX10_bestDifference_33 (by decide) ?_
      exact ih (g + 1) b m _ (by omega) h1 h2 (fun h hh => by by_cases e : h = g; (· rw [e]; show jz_n nums zs g zs 0 0 ≤ m; omega); (· exact h3 h (by omega))) h4 h5
    · have c2 : ¬ (jz_n nums zs g zs 0 0) ≤ m := fun z9 => c2 ((nI_leI (a := (jz_n nums zs g zs 0 0)) (b := m) (by omega) (by omega)).mpr z9)
      refine jb_iload (pc' := 27) dX10_bestDifference_25 rfl rfl ?_
      refine jb_istore_n_ (pc' := 28) dX10_bestDifference_27 (by decide) (jb_at2 rfl) rfl ?_
      refine jb_iload_n (pc' := 29) dX10_bestDifference_28 rfl rfl ?_
      refine jb_istore_n_ (pc' := 30) dX10_bestDifference_29 (by decide) (jb_at1 rfl) rfl ?_
      refine jb_iinc_ (pc' := 33) (nI (g + 1)) dX10_bestDifference_30 (by decide) rfl (jb_inc g 1) (jb_at3 rfl) rfl ?_
      refine jb_goto (pc' := 6) dX10_bestDifference_33 (by decide) ?_
      exact ih (g + 1) g (jz_n nums zs g zs 0 0) _ (by omega) (by omega) (by omega) (fun h hh => by by_cases e : h = g; (· rw [e]; exact Nat.le_refl _); (· exact Nat.le_of_lt (Nat.lt_of_le_of_lt (h3 h (by omega)) (by omega)))) (Nat.le_refl _) (fun h hh => Nat.lt_of_le_of_lt (h3 h hh) (by omega))
set_option maxRecDepth 100000 in
set_option maxHeartbeats 4000000 in
theorem c_best_3 {sc : Nat × (Nat → Int32)} {s0 s1 s2 s3 s4 s5 s6 s7 s9 s10 s11 : List va_E} (Is nums Js : Nat → Int32) (Ws : Nat → Nat → Int32) (zs : Nat) (h1s : Is 1 = nI zs) (hzs : zs ≤ 40) : jb_C sc yX10_bestDifference cX10_bestDifference 5 (Option.some .int) 2 0 0 [.ref 95] [s0, s1, s2, s3, s4, s5, s6, s7, jb_sht95 Is nums Js Ws, s9, s10, s11] (fun r h9 => ∃ b, jz_B (fun g => jz_n nums zs g zs 0 0) b ∧ r = some (.int (nI b)) ∧ [s0, s1, s2, s3, s4, s5, s6, s7, jb_sht95 Is nums Js Ws, s9, s10, s11] = h9) := by
  refine jb_CofJ (ini := false) (by decide +kernel) (fun h => by cases h) (Nat.le_of_ble_eq_true rfl) ?_
  show jb_J sc RX10 cX10_bestDifference 5 (Option.some .int) false 2 0 0 0 [some (.ref 95), none, none, none, none] [] [s0, s1, s2, s3, s4, s5, s6, s7, jb_sht95 Is nums Js Ws, s9, s10, s11] _
  refine jb_iconst (pc' := 1) 0 dX10_bestDifference_0 (by decide) rfl ?_
  refine jb_istore_n_ (pc' := 2) dX10_bestDifference_1 (by decide) (jb_at1 rfl) rfl ?_
  refine jb_iconst (pc' := 3) 0 dX10_bestDifference_2 (by decide) rfl ?_
  refine jb_istore_n_ (pc' := 4) dX10_bestDifference_3 (by decide) (jb_at2 rfl) rfl ?_
  refine jb_iconst (pc' := 5) 0 dX10_bestDifference_4 (by decide) rfl ?_
  refine jb_istore_n_ (pc' := 6) dX10_bestDifference_5 (by decide) (jb_at3 rfl) rfl ?_
  exact l_best_3 Is nums Js Ws zs h1s hzs 41 0 0 0 _ (by omega) (by omega) (by omega) (fun h hh => absurd hh (by omega)) (Nat.zero_le _) (fun h hh => absurd hh (by omega))
set_option maxRecDepth 100000 in
set_option maxHeartbeats 4000000 in
theorem kx_heard0_3 {sc : Nat × (Nat → Int32)} {s1 s2 s3 s5 s6 s7 s9 s10 s11 : List va_E} (imm : Int32) (Im rowm stkm tpm : Nat → Int32) (Tm : Nat → Value) (Is nums Js : Nat → Int32) (Ws : Nat → Nat → Int32) {bs zs : Nat} (h0s : Is 0 = nI bs) (h1s : Is 1 = nI zs) (hbs : bs ≤ 32) (hzs : zs ≤ 40) (hm : ¬ bs = 0) (h2 : 2 ≤ zs) : jb_C sc yX11_heard cX11_heard 5 (Option.some .int) 3 0 0 [.ref 0, .int 3, .int 0] [jb_main imm Im Tm rowm stkm tpm, s1, s2, s3, jb_shs, s5, s6, s7, jb_sht95 Is nums Js Ws, s9, s10, s11] (fun r h9 => ∃ b9, jz_B (fun g => jz_n nums zs g zs 0 0) b9 ∧ r = some (.int (nI b9)) ∧ [jb_main imm Im Tm rowm stkm tpm, s1, s2, s3, jb_shs, s5, s6, s7, jb_sht95 Is nums Js Ws, s9, s10, s11] = h9) := by
  refine jb_CofJ (ini := false) (by decide +kernel) (fun h => by cases h) (Nat.le_of_ble_eq_true rfl) ?_
  show jb_J sc RX11 cX11_heard 5 (Option.some .int) false 3 0 0 0 [some (.ref 0), some (.int 3), some (.int 0), none, none] [] [jb_main imm Im Tm rowm stkm tpm, s1, s2, s3, jb_shs, s5, s6, s7, jb_sht95 Is nums Js Ws, s9, s10, s11] _
  refine jb_aload_n (pc' := 1) dX11_heard_0 rfl rfl ?_
  refine jb_iload_n (pc' := 2) dX11_heard_1 rfl rfl ?_
  refine jb_callV (pc' := 5) (ci := 11) (q := 0) (As := [.int 3]) (a2 := 0) (b2 := 0) wv_X11_165 rfl dX11_heard_2 (c_isNoSheetG _ 3 (by omega)) rfl rfl ⟨by decide, Nat.le_of_eq (Nat.zero_add _), Nat.le_of_eq (Nat.zero_add _)⟩ (Nat.le_of_ble_eq_true rfl) rfl (fun r h9 hq => ?_)
  obtain ⟨rfl, rfl⟩ := hq
  show jb_J _ RX11 cX11_heard 5 (Option.some .int) false 3 0 0 5 [some (.ref 0), some (.int 3), some (.int 0), none, none] [.int 0] [jb_main imm Im Tm rowm stkm tpm, s1, s2, s3, jb_shs, s5, s6, s7, jb_sht95 Is nums Js Ws, s9, s10, s11] _
  refine jb_if_ne (tgt := 17) (pc' := 8) dX11_heard_5 (by decide) rfl (fun z => absurd (by decide) z) (fun _ => ?_)
  refine jb_iload_n (pc' := 9) dX11_heard_8 rfl rfl ?_
  refine jb_iconst (pc' := 10) 0 dX11_heard_9 (by decide) rfl ?_
  refine jb_iconst (pc' := 11) 2 dX11_heard_10 (by decide) rfl ?_
  refine jb_callS (pc' := 14) (As := [.int 0, .int 0, .int 2]) (a2 := 0) (b2 := 0) wv_X11_74 dX11_heard_11 (c_isOutLG 0 0 2 (by omega) (by omega) (by omega)) rfl ⟨by decide, Nat.le_of_eq (Nat.zero_add _), Nat.le_of_eq (Nat.zero_add _)⟩ (Nat.le_of_ble_eq_true rfl) rfl (fun r h9 hq => ?_)
  obtain ⟨rfl, rfl⟩ := hq
  show jb_J _ RX11 cX11_heard 5 (Option.some .int) false 3 0 0 14 [some (.ref 0), some (.int 3), some (.int 0), none, none] [.int 0] [jb_main imm Im Tm rowm stkm tpm, s1, s2, s3, jb_shs, s5, s6, s7, jb_sht95 Is nums Js Ws, s9, s10, s11] _
  refine jb_if_eq (tgt := 23) (pc' := 17) dX11_heard_14 (by decide) rfl (fun _ => ?_) (fun z => absurd (by decide) z)
  refine jb_aload_n (pc' := 24) dX11_heard_23 rfl rfl ?_
  refine gf_X11_54 (pc' := 27) (v := .ref 73) dX11_heard_24 rfl rfl rfl ?_
  refine jb_iload_n (pc' := 28) dX11_heard_27 rfl rfl ?_
  refine jb_aaload (pc' := 29) (i9 := 3) (r := 95) (Or.inr (Or.inr rfl)) dX11_heard_28 rfl jb_x3 (by decide) rfl rfl ?_
  refine jb_astore_n_ (pc' := 30) dX11_heard_29 (by decide) (jb_at3 rfl) rfl ?_
  refine jb_aload_n (pc' := 31) dX11_heard_30 rfl rfl ?_
  refine jb_callV (pc' := 34) (ci := 10) (q := 95) (As := []) (a2 := 0) (b2 := 0) wv_X11_168 rfl dX11_heard_31 (c_isMissing_3 Is nums Js Ws h0s h1s hbs hzs) rfl rfl ⟨by decide, Nat.le_of_eq (Nat.zero_add _), Nat.le_of_eq (Nat.zero_add _)⟩ (Nat.le_of_ble_eq_true rfl) rfl (fun r h9 hq => ?_)
  rcases hq with ⟨rfl, ⟨hms, rfl⟩ | ⟨hms, rfl⟩⟩
  · exact absurd hms hm
  · show jb_J _ RX11 cX11_heard 5 (Option.some .int) false 3 0 0 34 [some (.ref 0), some (.int 3), some (.int 0), some (.ref 95), none] [.int 0] [jb_main imm Im Tm rowm stkm tpm, s1, s2, s3, jb_shs, s5, s6, s7, jb_sht95 Is nums Js Ws, s9, s10, s11] _
    refine jb_if_ne (tgt := 45) (pc' := 37) dX11_heard_34 (by decide) rfl (fun z => absurd (by decide) z) (fun _ => ?_)
    refine jb_aload_n (pc' := 38) dX11_heard_37 rfl rfl ?_
    refine gf_X11_184 (pc' := 41) (v := .int (Is 1)) dX11_heard_38 rfl rfl rfl ?_
    refine jb_top (v := .int (Is 1)) (w := .int (nI zs)) (jb_vI h1s) ?_
    refine jb_iconst (pc' := 42) 2 dX11_heard_41 (by decide) rfl ?_
    refine jb_icmp_ge (tgt := 51) (pc' := 45) dX11_heard_42 (by decide) rfl (fun _ => ?_) (fun z => absurd (nI_le (a := 2) (b := zs) (by omega) (by omega)) z)
    refine jb_aload_n (pc' := 52) dX11_heard_51 rfl rfl ?_
    refine jb_callV (pc' := 55) (ci := 10) (q := 95) (As := []) (a2 := 0) (b2 := 0) wv_X11_187 rfl dX11_heard_52 (c_best_3 Is nums Js Ws zs h1s hzs) rfl rfl ⟨by decide, Nat.le_of_eq (Nat.zero_add _), Nat.le_of_eq (Nat.zero_add _)⟩ (Nat.le_of_ble_eq_true rfl) rfl (fun r h9 hq => ?_)
    obtain ⟨b9, hB, rfl, rfl⟩ := hq
    show jb_J _ RX11 cX11_heard 5 (Option.some .int) false 3 0 0 55 [some (.ref 0), some (.int 3), some (.int 0), some (.ref 95), none] [.int (nI b9)] [jb_main imm Im Tm rowm stkm tpm, s1, s2, s3, jb_shs, s5, s6, s7, jb_sht95 Is nums Js Ws, s9, s10, s11] _
    refine jb_istore_ (pc' := 57) dX11_heard_55 (by decide) (jb_at4 rfl) rfl ?_
    refine jb_iload_n (pc' := 58) dX11_heard_57 rfl rfl ?_
    refine jb_if_ne (tgt := 64) (pc' := 61) dX11_heard_58 (by decide) rfl (fun z => absurd (by decide) z) (fun _ => ?_)
    refine jb_iload (pc' := 63) dX11_heard_61 rfl rfl ?_
    refine jb_iret dX11_heard_63 rfl ?_
    exact ⟨b9, hB, rfl, rfl⟩
set_option maxRecDepth 100000 in
set_option maxHeartbeats 4000000 in
theorem kx_heard1_3 {sc : Nat × (Nat → Int32)} {s1 s2 s3 s5 s6 s7 s9 s10 s11 : List va_E} (imm : Int32) (Im rowm stkm tpm : Nat → Int32) (Tm : Nat → Value) (Is nums Js : Nat → Int32) (Ws : Nat → Nat → Int32) {bs zs : Nat} (h0s : Is 0 = nI bs) (h1s : Is 1 = nI zs) (hbs : bs ≤ 32) (hzs : zs ≤ 40) (hm : ¬ bs = 0) (h2 : 2 ≤ zs) : jb_C sc yX11_heard cX11_heard 5 (Option.some .int) 3 0 0 [.ref 0, .int 3, .int 1] [jb_main imm Im Tm rowm stkm tpm, s1, s2, s3, jb_shs, s5, s6, s7, jb_sht95 Is nums Js Ws, s9, s10, s11] (fun r h9 => ∃ b9, jz_B (fun g => jz_n nums zs g zs 0 0) b9 ∧ r = some (.int (nI (jz_n nums zs b9 zs 0 0))) ∧ [jb_main imm Im Tm rowm stkm tpm, s1, s2, s3, jb_shs, s5, s6, s7, jb_sht95 Is nums Js Ws, s9, s10, s11] = h9) := by
  refine jb_CofJ (ini := false) (by decide +kernel) (fun h => by cases h) (Nat.le_of_ble_eq_true rfl) ?_
  show jb_J sc RX11 cX11_heard 5 (Option.some .int) false 3 0 0 0 [some (.ref 0), some (.int 3), some (.int 1), none, none] [] [jb_main imm Im Tm rowm stkm tpm, s1, s2, s3, jb_shs, s5, s6, s7, jb_sht95 Is nums Js Ws, s9, s10, s11] _
  refine jb_aload_n (pc' := 1) dX11_heard_0 rfl rfl ?_
  refine jb_iload_n (pc' := 2) dX11_heard_1 rfl rfl ?_
  refine jb_callV (pc' := 5) (ci := 11) (q := 0) (As := [.int 3]) (a2 := 0) (b2 := 0) wv_X11_165 rfl dX11_heard_2 (c_isNoSheetG _ 3 (by omega)) rfl rfl ⟨by decide, Nat.le_of_eq (Nat.zero_add _), Nat.le_of_eq (Nat.zero_add _)⟩ (Nat.le_of_ble_eq_true rfl) rfl (fun r h9 hq => ?_)
  obtain ⟨rfl, rfl⟩ := hq
  show jb_J _ RX11 cX11_heard 5 (Option.some .int) false 3 0 0 5 [some (.ref 0), some (.int 3), some (.int 1), none, none] [.int 0] [jb_main imm Im Tm rowm stkm tpm, s1, s2, s3, jb_shs, s5, s6, s7, jb_sht95 Is nums Js Ws, s9, s10, s11] _
  refine jb_if_ne (tgt := 17) (pc' := 8) dX11_heard_5 (by decide) rfl (fun z => absurd (by decide) z) (fun _ => ?_)
  refine jb_iload_n (pc' := 9) dX11_heard_8 rfl rfl ?_
  refine jb_iconst (pc' := 10) 0 dX11_heard_9 (by decide) rfl ?_
  refine jb_iconst (pc' := 11) 2 dX11_heard_10 (by decide) rfl ?_
  refine jb_callS (pc' := 14) (As := [.int 1, .int 0, .int 2]) (a2 := 0) (b2 := 0) wv_X11_74 dX11_heard_11 (c_isOutLG 1 0 2 (by omega) (by omega) (by omega)) rfl ⟨by decide, Nat.le_of_eq (Nat.zero_add _), Nat.le_of_eq (Nat.zero_add _)⟩ (Nat.le_of_ble_eq_true rfl) rfl (fun r h9 hq => ?_)
  obtain ⟨rfl, rfl⟩ := hq
  show jb_J _ RX11 cX11_heard 5 (Option.some .int) false 3 0 0 14 [some (.ref 0), some (.int 3), some (.int 1), none, none] [.int 0] [jb_main imm Im Tm rowm stkm tpm, s1, s2, s3, jb_shs, s5, s6, s7, jb_sht95 Is nums Js Ws, s9, s10, s11] _
  refine jb_if_eq (tgt := 23) (pc' := 17) dX11_heard_14 (by decide) rfl (fun _ => ?_) (fun z => absurd (by decide) z)
  refine jb_aload_n (pc' := 24) dX11_heard_23 rfl rfl ?_
  refine gf_X11_54 (pc' := 27) (v := .ref 73) dX11_heard_24 rfl rfl rfl ?_
  refine jb_iload_n (pc' := 28) dX11_heard_27 rfl rfl ?_
  refine jb_aaload (pc' := 29) (i9 := 3) (r := 95) (Or.inr (Or.inr rfl)) dX11_heard_28 rfl jb_x3 (by decide) rfl rfl ?_
  refine jb_astore_n_ (pc' := 30) dX11_heard_29 (by decide) (jb_at3 rfl) rfl ?_
  refine jb_aload_n (pc' := 31) dX11_heard_30 rfl rfl ?_
  refine jb_callV (pc' := 34) (ci := 10) (q := 95) (As := []) (a2 := 0) (b2 := 0) wv_X11_168 rfl dX11_heard_31 (c_isMissing_3 Is nums Js Ws h0s h1s hbs hzs) rfl rfl ⟨by decide, Nat.le_of_eq (Nat.zero_add _), Nat.le_of_eq (Nat.zero_add _)⟩ (Nat.le_of_ble_eq_true rfl) rfl (fun r h9 hq => ?_)
  rcases hq with ⟨rfl, ⟨hms, rfl⟩ | ⟨hms, rfl⟩⟩
  · exact absurd hms hm
  · show jb_J _ RX11 cX11_heard 5 (Option.some .int) false 3 0 0 34 [some (.ref 0), some (.int 3), some (.int 1), some (.ref 95), none] [.int 0] [jb_main imm Im Tm rowm stkm tpm, s1, s2, s3, jb_shs, s5, s6, s7, jb_sht95 Is nums Js Ws, s9, s10, s11] _
    refine jb_if_ne (tgt := 45) (pc' := 37) dX11_heard_34 (by decide) rfl (fun z => absurd (by decide) z) (fun _ => ?_)
    refine jb_aload_n (pc' := 38) dX11_heard_37 rfl rfl ?_
    refine gf_X11_184 (pc' := 41) (v := .int (Is 1)) dX11_heard_38 rfl rfl rfl ?_
    refine jb_top (v := .int (Is 1)) (w := .int (nI zs)) (jb_vI h1s) ?_
    refine jb_iconst (pc' := 42) 2 dX11_heard_41 (by decide) rfl ?_
    refine jb_icmp_ge (tgt := 51) (pc' := 45) dX11_heard_42 (by decide) rfl (fun _ => ?_) (fun z => absurd (nI_le (a := 2) (b := zs) (by omega) (by omega)) z)
    refine jb_aload_n (pc' := 52) dX11_heard_51 rfl rfl ?_
    refine jb_callV (pc' := 55) (ci := 10) (q := 95) (As := []) (a2 := 0) (b2 := 0) wv_X11_187 rfl dX11_heard_52 (c_best_3 Is nums Js Ws zs h1s hzs) rfl rfl ⟨by decide, Nat.le_of_eq (Nat.zero_add _), Nat.le_of_eq (Nat.zero_add _)⟩ (Nat.le_of_ble_eq_true rfl) rfl (fun r h9 hq => ?_)
    obtain ⟨b9, hB, rfl, rfl⟩ := hq
    show jb_J _ RX11 cX11_heard 5 (Option.some .int) false 3 0 0 55 [some (.ref 0), some (.int 3), some (.int 1), some (.ref 95), none] [.int (nI b9)] [jb_main imm Im Tm rowm stkm tpm, s1, s2, s3, jb_shs, s5, s6, s7, jb_sht95 Is nums Js Ws, s9, s10, s11] _
    refine jb_istore_ (pc' := 57) dX11_heard_55 (by decide) (jb_at4 rfl) rfl ?_
    refine jb_iload_n (pc' := 58) dX11_heard_57 rfl rfl ?_
    refine jb_if_ne (tgt := 64) (pc' := 61) dX11_heard_58 (by decide) rfl (fun _ => ?_) (fun z => absurd z (by decide))
    refine jb_iload_n (pc' := 65) dX11_heard_64 rfl rfl ?_
    refine jb_iconst (pc' := 66) 1 dX11_heard_65 (by decide) rfl ?_
    refine jb_icmp_ne (tgt := 78) (pc' := 69) dX11_heard_66 (by decide) rfl (fun z => absurd (by decide) z) (fun _ => ?_)
    refine jb_aload_n (pc' := 70) dX11_heard_69 rfl rfl ?_
    refine jb_iload (pc' := 72) dX11_heard_70 rfl rfl ?_
    refine jb_callV (pc' := 75) (ci := 10) (q := 95) (As := [.int (nI b9)]) (a2 := 0) (b2 := 0) wv_X11_190 rfl dX11_heard_72 (c_diff_3 Is nums Js Ws zs h1s hzs b9 hB.1) rfl rfl ⟨by decide, Nat.le_of_eq (Nat.zero_add _), Nat.le_of_eq (Nat.zero_add _)⟩ (Nat.le_of_ble_eq_true rfl) rfl (fun r h9 hq => ?_)
    obtain ⟨rfl, rfl⟩ := hq
    show jb_J _ RX11 cX11_heard 5 (Option.some .int) false 3 0 0 75 [some (.ref 0), some (.int 3), some (.int 1), some (.ref 95), some (.int (nI b9))] [.int (nI (jz_n nums zs b9 zs 0 0))] [jb_main imm Im Tm rowm stkm tpm, s1, s2, s3, jb_shs, s5, s6, s7, jb_sht95 Is nums Js Ws, s9, s10, s11] _
    refine jb_goto (pc' := 84) dX11_heard_75 (by decide) ?_
    refine jb_iret dX11_heard_84 rfl ?_
    exact ⟨b9, hB, rfl, rfl⟩
set_option maxRecDepth 100000 in
set_option maxHeartbeats 4000000 in
theorem kx_heard2_3 {sc : Nat × (Nat → Int32)} {s1 s2 s3 s5 s6 s7 s9 s10 s11 : List va_E} (imm : Int32) (Im rowm stkm tpm : Nat → Int32) (Tm : Nat → Value) (Is nums Js : Nat → Int32) (Ws : Nat → Nat → Int32) {bs zs : Nat} (h0s : Is 0 = nI bs) (h1s : Is 1 = nI zs) (hbs : bs ≤ 32) (hzs : zs ≤ 40) (hm : ¬ bs = 0) (h2 : 2 ≤ zs) : jb_C sc yX11_heard cX11_heard 5 (Option.some .int) 3 0 0 [.ref 0, .int 3, .int 2] [jb_main imm Im Tm rowm stkm tpm, s1, s2, s3, jb_shs, s5, s6, s7, jb_sht95 Is nums Js Ws, s9, s10, s11] (fun r h9 => ∃ b9, jz_B (fun g => jz_n nums zs g zs 0 0) b9 ∧ r = some (.int (nI (jz_f nums zs b9 zs 0 0))) ∧ [jb_main imm Im Tm rowm stkm tpm, s1, s2, s3, jb_shs, s5, s6, s7, jb_sht95 Is nums Js Ws, s9, s10, s11] = h9) := by
  refine jb_CofJ (ini := false) (by decide +kernel) (fun h => by cases h) (Nat.le_of_ble_eq_true rfl) ?_
  show jb_J sc RX11 cX11_heard 5 (Option.some .int) false 3 0 0 0 [some (.ref 0), some (.int 3), some (.int 2), none, none] [] [jb_main imm Im Tm rowm stkm tpm, s1, s2, s3, jb_shs, s5, s6, s7, jb_sht95 Is nums Js Ws, s9, s10, s11] _
  refine jb_aload_n (pc' := 1) dX11_heard_0 rfl rfl ?_
  refine jb_iload_n (pc' := 2) dX11_heard_1 rfl rfl ?_
  refine jb_callV (pc' := 5) (ci := 11) (q := 0) (As := [.int 3]) (a2 := 0) (b2 := 0) wv_X11_165 rfl dX11_heard_2 (c_isNoSheetG _ 3 (by omega)) rfl rfl ⟨by decide, Nat.le_of_eq (Nat.zero_add _), Nat.le_of_eq (Nat.zero_add _)⟩ (Nat.le_of_ble_eq_true rfl) rfl (fun r h9 hq => ?_)
  obtain ⟨rfl, rfl⟩ := hq
  show jb_J _ RX11 cX11_heard 5 (Option.some .int) false 3 0 0 5 [some (.ref 0), some (.int 3), some (.int 2), none, none] [.int 0] [jb_main imm Im Tm rowm stkm tpm, s1, s2, s3, jb_shs, s5, s6, s7, jb_sht95 Is nums Js Ws, s9, s10, s11] _
  refine jb_if_ne (tgt := 17) (pc' := 8) dX11_heard_5 (by decide) rfl (fun z => absurd (by decide) z) (fun _ => ?_)
  refine jb_iload_n (pc' := 9) dX11_heard_8 rfl rfl ?_
  refine jb_iconst (pc' := 10) 0 dX11_heard_9 (by decide) rfl ?_
  refine jb_iconst (pc' := 11) 2 dX11_heard_10 (by decide) rfl ?_
  refine jb_callS (pc' := 14) (As := [.int 2, .int 0, .int 2]) (a2 := 0) (b2 := 0) wv_X11_74 dX11_heard_11 (c_isOutLG 2 0 2 (by omega) (by omega) (by omega)) rfl ⟨by decide, Nat.le_of_eq (Nat.zero_add _), Nat.le_of_eq (Nat.zero_add _)⟩ (Nat.le_of_ble_eq_true rfl) rfl (fun r h9 hq => ?_)
  obtain ⟨rfl, rfl⟩ := hq
  show jb_J _ RX11 cX11_heard 5 (Option.some .int) false 3 0 0 14 [some (.ref 0), some (.int 3), some (.int 2), none, none] [.int 0] [jb_main imm Im Tm rowm stkm tpm, s1, s2, s3, jb_shs, s5, s6, s7, jb_sht95 Is nums Js Ws, s9, s10, s11] _
  refine jb_if_eq (tgt := 23) (pc' := 17) dX11_heard_14 (by decide) rfl (fun _ => ?_) (fun z => absurd (by decide) z)
  refine jb_aload_n (pc' := 24) dX11_heard_23 rfl rfl ?_
  refine gf_X11_54 (pc' := 27) (v := .ref 73) dX11_heard_24 rfl rfl rfl ?_
  refine jb_iload_n (pc' := 28) dX11_heard_27 rfl rfl ?_
  refine jb_aaload (pc' := 29) (i9 := 3) (r := 95) (Or.inr (Or.inr rfl)) dX11_heard_28 rfl jb_x3 (by decide) rfl rfl ?_
  refine jb_astore_n_ (pc' := 30) dX11_heard_29 (by decide) (jb_at3 rfl) rfl ?_
  refine jb_aload_n (pc' := 31) dX11_heard_30 rfl rfl ?_
  refine jb_callV (pc' := 34) (ci := 10) (q := 95) (As := []) (a2 := 0) (b2 := 0) wv_X11_168 rfl dX11_heard_31 (c_isMissing_3 Is nums Js Ws h0s h1s hbs hzs) rfl rfl ⟨by decide, Nat.le_of_eq (Nat.zero_add _), Nat.le_of_eq (Nat.zero_add _)⟩ (Nat.le_of_ble_eq_true rfl) rfl (fun r h9 hq => ?_)
  rcases hq with ⟨rfl, ⟨hms, rfl⟩ | ⟨hms, rfl⟩⟩
  · exact absurd hms hm
  · show jb_J _ RX11 cX11_heard 5 (Option.some .int) false 3 0 0 34 [some (.ref 0), some (.int 3), some (.int 2), some (.ref 95), none] [.int 0] [jb_main imm Im Tm rowm stkm tpm, s1, s2, s3, jb_shs, s5, s6, s7, jb_sht95 Is nums Js Ws, s9, s10, s11] _
    refine jb_if_ne (tgt := 45) (pc' := 37) dX11_heard_34 (by decide) rfl (fun z => absurd (by decide) z) (fun _ => ?_)
    refine jb_aload_n (pc' := 38) dX11_heard_37 rfl rfl ?_
    refine gf_X11_184 (pc' := 41) (v := .int (Is 1)) dX11_heard_38 rfl rfl rfl ?_
    refine jb_top (v := .int (Is 1)) (w := .int (nI zs)) (jb_vI h1s) ?_
    refine jb_iconst (pc' := 42) 2 dX11_heard_41 (by decide) rfl ?_
    refine jb_icmp_ge (tgt := 51) (pc' := 45) dX11_heard_42 (by decide) rfl (fun _ => ?_) (fun z => absurd (nI_le (a := 2) (b := zs) (by omega) (by omega)) z)
    refine jb_aload_n (pc' := 52) dX11_heard_51 rfl rfl ?_
    refine jb_callV (pc' := 55) (ci := 10) (q := 95) (As := []) (a2 := 0) (b2 := 0) wv_X11_187 rfl dX11_heard_52 (c_best_3 Is nums Js Ws zs h1s hzs) rfl rfl ⟨by decide, Nat.le_of_eq (Nat.zero_add _), Nat.le_of_eq (Nat.zero_add _)⟩ (Nat.le_of_ble_eq_true rfl) rfl (fun r h9 hq => ?_)
    obtain ⟨b9, hB, rfl, rfl⟩ := hq
    show jb_J _ RX11 cX11_heard 5 (Option.some .int) false 3 0 0 55 [some (.ref 0), some (.int 3), some (.int 2), some (.ref 95), none] [.int (nI b9)] [jb_main imm Im Tm rowm stkm tpm, s1, s2, s3, jb_shs, s5, s6, s7, jb_sht95 Is nums Js Ws, s9, s10, s11] _
    refine jb_istore_ (pc' := 57) dX11_heard_55 (by decide) (jb_at4 rfl) rfl ?_
    refine jb_iload_n (pc' := 58) dX11_heard_57 rfl rfl ?_
    refine jb_if_ne (tgt := 64) (pc' := 61) dX11_heard_58 (by decide) rfl (fun _ => ?_) (fun z => absurd z (by decide))
    refine jb_iload_n (pc' := 65) dX11_heard_64 rfl rfl ?_
    refine jb_iconst (pc' := 66) 1 dX11_heard_65 (by decide) rfl ?_
    refine jb_icmp_ne (tgt := 78) (pc' := 69) dX11_heard_66 (by decide) rfl (fun _ => ?_) (fun z => absurd z (by decide))
    refine jb_aload_n (pc' := 79) dX11_heard_78 rfl rfl ?_
    refine jb_iload (pc' := 81) dX11_heard_79 rfl rfl ?_
    refine jb_callV (pc' := 84) (ci := 10) (q := 95) (As := [.int (nI b9)]) (a2 := 0) (b2 := 0) wv_X11_193 rfl dX11_heard_81 (c_first_3 Is nums Js Ws zs h1s hzs b9 hB.1) rfl rfl ⟨by decide, Nat.le_of_eq (Nat.zero_add _), Nat.le_of_eq (Nat.zero_add _)⟩ (Nat.le_of_ble_eq_true rfl) rfl (fun r h9 hq => ?_)
    obtain ⟨rfl, rfl⟩ := hq
    show jb_J _ RX11 cX11_heard 5 (Option.some .int) false 3 0 0 84 [some (.ref 0), some (.int 3), some (.int 2), some (.ref 95), some (.int (nI b9))] [.int (nI (jz_f nums zs b9 zs 0 0))] [jb_main imm Im Tm rowm stkm tpm, s1, s2, s3, jb_shs, s5, s6, s7, jb_sht95 Is nums Js Ws, s9, s10, s11] _
    refine jb_iret dX11_heard_84 rfl ?_
    exact ⟨b9, hB, rfl, rfl⟩
set_option maxRecDepth 100000 in
set_option maxHeartbeats 4000000 in
theorem l_he4_0 {sc : Nat × (Nat → Int32)} {s0 s1 s2 s3 s4 s5 s6 s7 s8 s9 s11 : List va_E} (I J d e kp nm : Nat → Int32) (W : Nat → Nat → Int32) (s : Nat) (hs : s < 4) (zs : Nat) (h2s : W 2 s = nI zs) (hzs : zs ≤ 40) (Wc : Nat → Nat → Int32) (hf : (∀ r, ¬ r = 9 → Wc r = W r)) (hdf : (∀ g, g ≤ 40 → Wc 9 g = nI ((fun g => jz_n (fun k => W 3 (40 * s + k)) zs g zs 0 0) g))) (b9 : Nat) (hB : jz_B (fun g => jz_n (fun k => W 3 (40 * s + k)) zs g zs 0 0) b9) : ∀ (n i k : Nat), zs ≤ i + 2 * n → i ≤ zs + 2 → k ≤ i → jz_f (fun k => W 3 (40 * s + k)) zs b9 zs 0 0 = jz_f (fun k => W 3 (40 * s + k)) zs b9 n i k → jb_J sc RX12 cX12_heard 8 (Option.some .int) false 3 0 0 216 [some (.ref 105), some (.int (nI s)), some (.int 0), some (.int 0), some (.int (nI (40 * s))), some (.int (nI b9)), some (.int (nI k)), some (.int (nI i))] [] [s0, s1, s2, s3, s4, s5, s6, s7, s8, s9, jb_mdl I J d e kp nm Wc, s11] (fun r h9 => ∃ b9 W9, jz_B (fun g => jz_n (fun k => W 3 (40 * s + k)) zs g zs 0 0) b9 ∧ r = some (.int (nI b9)) ∧ (∀ r, ¬ r = 9 → W9 r = W r) ∧ h9 = [s0, s1, s2, s3, s4, s5, s6, s7, s8, s9, jb_mdl I J d e kp nm W9, s11]) := by
  have hb40 := hB.1
  intro n
  induction n with
  | zero =>
    intro i k hi hi2 hk he
    show jb_J _ RX12 cX12_heard 8 (Option.some .int) false 3 0 0 216 [some (.ref 105), some (.int (nI s)), some (.int 0), some (.int 0), some (.int (nI (40 * s))), some (.int (nI b9)), some (.int (nI k)), some (.int (nI i))] [] [s0, s1, s2, s3, s4, s5, s6, s7, s8, s9, jb_mdl I J d e kp nm Wc, s11] _
    refine jb_iload (pc' := 218) dX12_heard_216 rfl rfl ?_
    refine jb_iconst (pc' := 219) 1 dX12_heard_218 (by decide) rfl ?_
    refine jb_iadd (pc' := 220) dX12_heard_219 rfl ?_
    refine jb_top (v := .int ((nI i) + 1)) (w := .int (nI (i + 1))) (jb_vI (nI_add _ 1)) ?_
    refine jb_aload_n (pc' := 221) dX12_heard_220 rfl rfl ?_
    refine gf_X12_28 (pc' := 224) (v := .ref 112) dX12_heard_221 rfl rfl rfl ?_
    refine jb_iload_n (pc' := 225) dX12_heard_224 rfl rfl ?_
    refine jb_iaload (pc' := 226) (i9 := s) (f := (Wc 2)) dX12_heard_225 rfl (jb_ix_nI (by omega)) (by omega) rfl ?_
    refine jb_top (v := .int ((Wc 2) s)) (w := .int (nI zs)) (jb_vI (by rw [hf 2 (by decide)]; exact h2s)) ?_
    refine jb_icmp_ge (tgt := 282) (pc' := 229) dX12_heard_226 (by decide) rfl (fun _ => ?_) (fun z => absurd (nI_le (a := zs) (b := i + 1) (by omega) (by omega)) z)
    refine jb_iload_n (pc' := 283) dX12_heard_282 rfl rfl ?_
    refine jb_if_ne (tgt := 291) (pc' := 286) dX12_heard_283 (by decide) rfl (fun z => absurd (by decide) z) (fun _ => ?_)
    refine jb_iload (pc' := 288) dX12_heard_286 rfl rfl ?_
    refine jb_goto (pc' := 308) dX12_heard_288 (by decide) ?_
    refine jb_iret dX12_heard_308 rfl ?_
    exact ⟨b9, Wc, hB, rfl, hf, rfl⟩
  | succ n ih =>
    intro i k hi hi2 hk he
    by_cases hi1 : i + 1 < zs
    · have eG : jz_f (fun k => W 3 (40 * s + k)) zs b9 (n + 1) i k = jz_f (fun k => W 3 (40 * s + k)) zs b9 n (i + 2) (if (W 3 (40 * s + (i + 1))).toInt - (W 3 (40 * s + i)).toInt = (b9 : Int) ∧ 0 < b9 then k + 1 else k) := if_pos hi1
      by_cases hv : (W 3 (40 * s + (i + 1))).toInt - (W 3 (40 * s + i)).toInt = (b9 : Int) ∧ 0 < b9
      · rw [if_pos hv] at eG
        show jb_J _ RX12 cX12_heard 8 (Option.some .int) false 3 0 0 216 [some (.ref 105), some (.int (nI s)), some (.int 0), some (.int 0), some (.int (nI (40 * s))), some (.int (nI b9)), some (.int (nI k)), some (.int (nI i))] [] [s0, s1, s2, s3, s4, s5, s6, s7, s8, s9, jb_mdl I J d e kp nm Wc, s11] _
        refine jb_iload (pc' := 218) dX12_heard_216 rfl rfl ?_
        refine jb_iconst (pc' := 219) 1 dX12_heard_218 (by decide) rfl ?_
        refine jb_iadd (pc' := 220) dX12_heard_219 rfl ?_
        refine jb_top (v := .int ((nI i) + 1)) (w := .int (nI (i + 1))) (jb_vI (nI_add _ 1)) ?_
        refine jb_aload_n (pc' := 221) dX12_heard_220 rfl rfl ?_
        refine gf_X12_28 (pc' := 224) (v := .ref 112) dX12_heard_221 rfl rfl rfl ?_
        refine jb_iload_n (pc' := 225) dX12_heard_224 rfl rfl ?_
        refine jb_iaload (pc' := 226) (i9 := s) (f := (Wc 2)) dX12_heard_225 rfl (jb_ix_nI (by omega)) (by omega) rfl ?_
        refine jb_top (v := .int ((Wc 2) s)) (w := .int (nI zs)) (jb_vI (by rw [hf 2 (by decide)]; exact h2s)) ?_
        refine jb_icmp_ge (tgt := 282) (pc' := 229) dX12_heard_226 (by decide) rfl (fun z => absurd z (nI_ge (a := i + 1) (b := zs) (by omega) (by omega))) (fun _ => ?_)
        refine jb_iload (pc' := 231) dX12_heard_229 rfl rfl ?_
        refine jb_aload_n (pc' := 232) dX12_heard_231 rfl rfl ?_
        refine gf_X12_31 (pc' := 235) (v := .ref 113) dX12_heard_232 rfl rfl rfl ?_
        refine jb_iload (pc' := 237) dX12_heard_235 rfl rfl ?_
        refine jb_iload (pc' := 239) dX12_heard_237 rfl rfl ?_
        refine jb_iadd (pc' := 240) dX12_heard_239 rfl ?_
        refine jb_top (v := .int ((nI (40 * s)) + (nI i))) (w := .int (nI (40 * s + i))) (jb_vI (nI_add _ _)) ?_
        refine jb_iconst (pc' := 241) 1 dX12_heard_240 (by decide) rfl ?_
        refine jb_iadd (pc' := 242) dX12_heard_241 rfl ?_
        refine jb_top (v := .int ((nI (40 * s + i)) + 1)) (w := .int (nI (40 * s + i + 1))) (jb_vI (nI_add _ 1)) ?_
        refine jb_iaload (pc' := 243) (i9 := (40 * s + i + 1)) (f := (Wc 3)) dX12_heard_242 rfl (jb_ix_nI (by omega)) (by omega) rfl ?_
        refine jb_top (v := .int ((Wc 3) (40 * s + i + 1))) (w := .int (W 3 (40 * s + (i + 1)))) (jb_vI (congrFun (hf 3 (by decide)) _)) ?_
        refine jb_i2l (pc' := 244) dX12_heard_243 rfl ?_
        refine jb_aload_n (pc' := 245) dX12_heard_244 rfl rfl ?_
        refine gf_X12_31 (pc' := 248) (v := .ref 113) dX12_heard_245 rfl rfl rfl ?_
        refine jb_iload (pc' := 250) dX12_heard_248 rfl rfl ?_
        refine jb_iload (pc' := 252) dX12_heard_250 rfl rfl ?_
        refine jb_iadd (pc' := 253) dX12_heard_252 rfl ?_
        refine jb_top (v := .int ((nI (40 * s)) + (nI i))) (w := .int (nI (40 * s + i))) (jb_vI (nI_add _ _)) ?_
        refine jb_iaload (pc' := 254) (i9 := (40 * s + i)) (f := (Wc 3)) dX12_heard_253 rfl (jb_ix_nI (by omega)) (by omega) rfl ?_
        refine jb_top (v := .int ((Wc 3) (40 * s + i))) (w := .int (W 3 (40 * s + i))) (jb_vI (congrFun (hf 3 (by decide)) _)) ?_
        refine jb_i2l (pc' := 255) dX12_heard_254 rfl ?_
        refine jb_lsub (pc' := 256) dX12_heard_255 rfl ?_
        refine jb_iload (pc' := 258) dX12_heard_256 rfl rfl ?_
        refine jb_i2l (pc' := 259) dX12_heard_258 rfl ?_
        refine jb_lcmp (pc' := 260) dX12_heard_259 rfl ?_
        refine jb_if_ne (tgt := 272) (pc' := 263) dX12_heard_260 (by decide) rfl (fun z => absurd (jl_eq.mpr ((jz_lt _ _ hb40).mpr hv.1)) z) (fun _ => ?_)
        refine jb_iload (pc' := 265) dX12_heard_263 rfl rfl ?_
        refine jb_if_le (tgt := 272) (pc' := 268) dX12_heard_265 (by decide) rfl (fun z => absurd z (nI_nle (n := b9) hv.2 (by omega))) (fun _ => ?_)
        refine jb_iconst (pc' := 269) 1 dX12_heard_268 (by decide) rfl ?_
        refine jb_goto (pc' := 273) dX12_heard_269 (by decide) ?_
        refine jb_iadd (pc' := 274) dX12_heard_273 rfl ?_
        refine jb_top (v := .int ((nI k) + 1)) (w := .int (nI (k + 1))) (jb_vI (nI_add _ 1)) ?_
        refine jb_istore_ (pc' := 276) dX12_heard_274 (by decide) (jb_at6 rfl) rfl ?_
        refine jb_iinc_ (pc' := 279) (nI (i + 2)) dX12_heard_276 (by decide) rfl (jb_inc i 2) (jb_at7 rfl) rfl ?_
        refine jb_goto (pc' := 216) dX12_heard_279 (by decide) ?_
        exact ih (i + 2) (k + 1) (by omega) (by omega) (by omega) (he.trans eG)
      · rw [if_neg hv] at eG
        show jb_J _ RX12 cX12_heard 8 (Option.some .int) false 3 0 0 216 [some (.ref 105), some (.int (nI s)), some (.int 0), some (.int 0), some (.int (nI (40 * s))), some (.int (nI b9)), some (.int (nI k)), some (.int (nI i))] [] [s0, s1, s2, s3, s4, s5, s6, s7, s8, s9, jb_mdl I J d e kp nm Wc, s11] _
        refine jb_iload (pc' := 218) dX12_heard_216 rfl rfl ?_
        refine jb_iconst (pc' := 219) 1 dX12_heard_218 (by decide) rfl ?_
        refine jb_iadd (pc' := 220) dX12_heard_219 rfl ?_
        refine jb_top (v := .int ((nI i) + 1)) (w := .int (nI (i + 1))) (jb_vI (nI_add _ 1)) ?_
        refine jb_aload_n (pc' := 221) dX12_heard_220 rfl rfl ?_
        refine gf_X12_28 (pc' := 224) (v := .ref 112) dX12_heard_221 rfl rfl rfl ?_
        refine jb_iload_n (pc' := 225) dX12_heard_224 rfl rfl ?_
        refine jb_iaload (pc' := 226) (i9 := s) (f := (Wc 2)) dX12_heard_225 rfl (jb_ix_nI (by omega)) (by omega) rfl ?_
        refine jb_top (v := .int ((Wc 2) s)) (w := .int (nI zs)) (jb_vI (by rw [hf 2 (by decide)]; exact h2s)) ?_
        refine jb_icmp_ge (tgt := 282) (pc' := 229) dX12_heard_226 (by decide) rfl (fun z => absurd z (nI_ge (a := i + 1) (b := zs) (by omega) (by omega))) (fun _ => ?_)
        refine jb_iload (pc' := 231) dX12_heard_229 rfl rfl ?_
        refine jb_aload_n (pc' := 232) dX12_heard_231 rfl rfl ?_
        refine gf_X12_31 (pc' := 235) (v := .ref 113) dX12_heard_232 rfl rfl rfl ?_
        refine jb_iload (pc' := 237) dX12_heard_235 rfl rfl ?_
        refine jb_iload (pc' := 239) dX12_heard_237 rfl rfl ?_
        refine jb_iadd (pc' := 240) dX12_heard_239 rfl ?_
        refine jb_top (v := .int ((nI (40 * s)) + (nI i))) (w := .int (nI (40 * s + i))) (jb_vI (nI_add _ _)) ?_
        refine jb_iconst (pc' := 241) 1 dX12_heard_240 (by decide) rfl ?_
        refine jb_iadd (pc' := 242) dX12_heard_241 rfl ?_
        refine jb_top (v := .int ((nI (40 * s + i)) + 1)) (w := .int (nI (40 * s + i + 1))) (jb_vI (nI_add _ 1)) ?_
        refine jb_iaload (pc' := 243) (i9 := (40 * s + i + 1)) (f := (Wc 3)) dX12_heard_242 rfl (jb_ix_nI (by omega)) (by omega) rfl ?_
        refine jb_top (v := .int ((Wc 3) (40 * s + i + 1))) (w := .int (W 3 (40 * s + (i + 1)))) (jb_vI (congrFun (hf 3 (by decide)) _)) ?_
        refine jb_i2l (pc' := 244) dX12_heard_243 rfl ?_
        refine jb_aload_n (pc' := 245) dX12_heard_244 rfl rfl ?_
        refine gf_X12_31 (pc' := 248) (v := .ref 113) dX12_heard_245 rfl rfl rfl ?_
        refine jb_iload (pc' := 250) dX12_heard_248 rfl rfl ?_
        refine jb_iload (pc' := 252) dX12_heard_250 rfl rfl ?_
        refine jb_iadd (pc' := 253) dX12_heard_252 rfl ?_
        refine jb_top (v := .int ((nI (40 * s)) + (nI i))) (w := .int (nI (40 * s + i))) (jb_vI (nI_add _ _)) ?_
        refine jb_iaload (pc' := 254) (i9 := (40 * s + i)) (f := (Wc 3)) dX12_heard_253 rfl (jb_ix_nI (by omega)) (by omega) rfl ?_
        refine jb_top (v := .int ((Wc 3) (40 * s + i))) (w := .int (W 3 (40 * s + i))) (jb_vI (congrFun (hf 3 (by decide)) _)) ?_
        refine jb_i2l (pc' := 255) dX12_heard_254 rfl ?_
        refine jb_lsub (pc' := 256) dX12_heard_255 rfl ?_
        refine jb_iload (pc' := 258) dX12_heard_256 rfl rfl ?_
        refine jb_i2l (pc' := 259) dX12_heard_258 rfl ?_
        refine jb_lcmp (pc' := 260) dX12_heard_259 rfl ?_
        refine jb_if_ne (tgt := 272) (pc' := 263) dX12_heard_260 (by decide) rfl (fun q260 => ?_) (fun q260 => ?_)
        · refine jb_iconst (pc' := 273) 0 dX12_heard_272 (by decide) rfl ?_
          refine jb_iadd (pc' := 274) dX12_heard_273 rfl ?_
          refine jb_top (v := .int ((nI k) + 0)) (w := .int (nI (k + 0))) (jb_vI (nI_add _ 0)) ?_
          refine jb_istore_ (pc' := 276) dX12_heard_274 (by decide) (jb_at6 rfl) rfl ?_
          refine jb_iinc_ (pc' := 279) (nI (i + 2)) dX12_heard_276 (by decide) rfl (jb_inc i 2) (jb_at7 rfl) rfl ?_
          refine jb_goto (pc' := 216) dX12_heard_279 (by decide) ?_
          exact ih (i + 2) (k + 0) (by omega) (by omega) (by omega) (he.trans eG)
        · refine jb_iload (pc' := 265) dX12_heard_263 rfl rfl ?_
          refine jb_if_le (tgt := 272) (pc' := 268) dX12_heard_265 (by decide) rfl (fun _ => ?_) (fun z => absurd (by rw [show b9 = 0 by have z2 := (jz_lt _ _ hb40).mp (jl_eq.mp q260); omega]; decide) z)
          refine jb_iconst (pc' := 273) 0 dX12_heard_272 (by decide) rfl ?_
          refine jb_iadd (pc' := 274) dX12_heard_273 rfl ?_
          refine jb_top (v := .int ((nI k) + 0)) (w := .int (nI (k + 0))) (jb_vI (nI_add _ 0)) ?_
          refine jb_istore_ (pc' := 276) dX12_heard_274 (by decide) (jb_at6 rfl) rfl ?_
          refine jb_iinc_ (pc' := 279) (nI (i + 2)) dX12_heard_276 (by decide) rfl (jb_inc i 2) (jb_at7 rfl) rfl ?_
          refine jb_goto (pc' := 216) dX12_heard_279 (by decide) ?_
          exact ih (i + 2) (k + 0) (by omega) (by omega) (by omega) (he.trans eG)
    · have eG : jz_f (fun k => W 3 (40 * s + k)) zs b9 (n + 1) i k = k := if_neg hi1
      have he := he.trans eG
      show jb_J _ RX12 cX12_heard 8 (Option.some .int) false 3 0 0 216 [some (.ref 105), some (.int (nI s)), some (.int 0), some (.int 0), some (.int (nI (40 * s))), some (.int (nI b9)), some (.int (nI k)), some (.int (nI i))] [] [s0, s1, s2, s3, s4, s5, s6, s7, s8, s9, jb_mdl I J d e kp nm Wc, s11] _
      refine jb_iload (pc' := 218) dX12_heard_216 rfl rfl ?_
      refine jb_iconst (pc' := 219) 1 dX12_heard_218 (by decide) rfl ?_
      refine jb_iadd (pc' := 220) dX12_heard_219 rfl ?_
      refine jb_top (v := .int ((nI i) + 1)) (w := .int (nI (i + 1))) (jb_vI (nI_add _ 1)) ?_
      refine jb_aload_n (pc' := 221) dX12_heard_220 rfl rfl ?_
      refine gf_X12_28 (pc' := 224) (v := .ref 112) dX12_heard_221 rfl rfl rfl ?_
      refine jb_iload_n (pc' := 225) dX12_heard_224 rfl rfl ?_
      refine jb_iaload (pc' := 226) (i9 := s) (f := (Wc 2)) dX12_heard_225 rfl (jb_ix_nI (by omega)) (by omega) rfl ?_
      refine jb_top (v := .int ((Wc 2) s)) (w := .int (nI zs)) (jb_vI (by rw [hf 2 (by decide)]; exact h2s)) ?_
      refine jb_icmp_ge (tgt := 282) (pc' := 229) dX12_heard_226 (by decide) rfl (fun _ => ?_) (fun z => absurd (nI_le (a := zs) (b := i + 1) (by omega) (by omega)) z)
      refine jb_iload_n (pc' := 283) dX12_heard_282 rfl rfl ?_
      refine jb_if_ne (tgt := 291) (pc' := 286) dX12_heard_283 (by decide) rfl (fun z => absurd (by decide) z) (fun _ => ?_)
      refine jb_iload (pc' := 288) dX12_heard_286 rfl rfl ?_
      refine jb_goto (pc' := 308) dX12_heard_288 (by decide) ?_
      refine jb_iret dX12_heard_308 rfl ?_
      exact ⟨b9, Wc, hB, rfl, hf, rfl⟩
set_option maxRecDepth 100000 in
set_option maxHeartbeats 4000000 in
theorem l_he3_0 {sc : Nat × (Nat → Int32)} {s0 s1 s2 s3 s4 s5 s6 s7 s8 s9 s11 : List va_E} (I J d e kp nm : Nat → Int32) (W : Nat → Nat → Int32) (s : Nat) (hs : s < 4) (zs : Nat) (h2s : W 2 s = nI zs) (hzs : zs ≤ 40) (Wc : Nat → Nat → Int32) (hf : (∀ r, ¬ r = 9 → Wc r = W r)) (hdf : (∀ g, g ≤ 40 → Wc 9 g = nI ((fun g => jz_n (fun k => W 3 (40 * s + k)) zs g zs 0 0) g))) : ∀ (n g b : Nat) (x7 : Option Value), g + n = 41 → b < g → (∀ h, h < g → (fun g => jz_n (fun k => W 3 (40 * s + k)) zs g zs 0 0) h ≤ (fun g => jz_n (fun k => W 3 (40 * s + k)) zs g zs 0 0) b) → (∀ h, h < b → (fun g => jz_n (fun k => W 3 (40 * s + k)) zs g zs 0 0) h < (fun g => jz_n (fun k => W 3 (40 * s + k)) zs g zs 0 0) b) → jb_J sc RX12 cX12_heard 8 (Option.some .int) false 3 0 0 171 [some (.ref 105), some (.int (nI s)), some (.int 0), some (.int 0), some (.int (nI (40 * s))), some (.int (nI b)), some (.int (nI g)), x7] [] [s0, s1, s2, s3, s4, s5, s6, s7, s8, s9, jb_mdl I J d e kp nm Wc, s11] (fun r h9 => ∃ b9 W9, jz_B (fun g => jz_n (fun k => W 3 (40 * s + k)) zs g zs 0 0) b9 ∧ r = some (.int (nI b9)) ∧ (∀ r, ¬ r = 9 → W9 r = W r) ∧ h9 = [s0, s1, s2, s3, s4, s5, s6, s7, s8, s9, jb_mdl I J d e kp nm W9, s11]) := by
  intro n
  induction n with
  | zero =>
    intro g b x7 hg hb h1 h2
    show jb_J _ RX12 cX12_heard 8 (Option.some .int) false 3 0 0 171 [some (.ref 105), some (.int (nI s)), some (.int 0), some (.int 0), some (.int (nI (40 * s))), some (.int (nI b)), some (.int (nI g)), x7] [] [s0, s1, s2, s3, s4, s5, s6, s7, s8, s9, jb_mdl I J d e kp nm Wc, s11] _
    refine jb_iload (pc' := 173) dX12_heard_171 rfl rfl ?_
    refine jb_bipush (pc' := 175) 41 dX12_heard_173 (by decide) rfl ?_
    refine jb_icmp_ge (tgt := 210) (pc' := 178) dX12_heard_175 (by decide) rfl (fun _ => ?_) (fun z => absurd (nI_le (a := 41) (b := g) (by omega) (by omega)) z)
    refine jb_iconst (pc' := 211) 0 dX12_heard_210 (by decide) rfl ?_
    refine jb_istore_ (pc' := 213) dX12_heard_211 (by decide) (jb_at6 rfl) rfl ?_
    refine jb_iconst (pc' := 214) 0 dX12_heard_213 (by decide) rfl ?_
    refine jb_istore_ (pc' := 216) dX12_heard_214 (by decide) (jb_at7 rfl) rfl ?_
    exact l_he4_0 I J d e kp nm W s hs zs h2s hzs Wc hf hdf b ⟨by omega, fun h hh => h1 h (by omega), h2⟩ zs 0 0 (by omega) (by omega) (by omega) rfl
  | succ n ih =>
    intro g b x7 hg hb h1 h2
    have c1 := jz_n_le (f := (fun k => W 3 (40 * s + k))) (zs := zs) (g := g) zs 0 0
    have c2 := jz_n_le (f := (fun k => W 3 (40 * s + k))) (zs := zs) (g := b) zs 0 0
    show jb_J _ RX12 cX12_heard 8 (Option.some .int) false 3 0 0 171 [some (.ref 105), some (.int (nI s)), some (.int 0), some (.int 0), some (.int (nI (40 * s))), some (.int (nI b)), some (.int (nI g)), x7] [] [s0, s1, s2, s3, s4, s5, s6, s7, s8, s9, jb_mdl I J d e kp nm Wc, s11] _
    refine jb_iload (pc' := 173) dX12_heard_171 rfl rfl ?_
    refine jb_bipush (pc' := 175) 41 dX12_heard_173 (by decide) rfl ?_
    refine jb_icmp_ge (tgt := 210) (pc' := 178) dX12_heard_175 (by decide) rfl (fun z => absurd z (nI_ge (a := g) (b := 41) (by omega) (by omega))) (fun _ => ?_)
    refine jb_aload_n (pc' := 179) dX12_heard_178 rfl rfl ?_
    refine gf_X12_49 (pc' := 182) (v := .ref 119) dX12_heard_179 rfl rfl rfl ?_
    refine jb_iload (pc' := 184) dX12_heard_182 rfl rfl ?_
    refine jb_iaload (pc' := 185) (i9 := g) (f := (Wc 9)) dX12_heard_184 rfl (jb_ix_nI (by omega)) (by omega) rfl ?_
    refine jb_top (v := .int ((Wc 9) g)) (w := .int (nI (jz_n (fun k => W 3 (40 * s + k)) zs g zs 0 0))) (jb_vI (hdf g (by omega))) ?_
    refine jb_aload_n (pc' := 186) dX12_heard_185 rfl rfl ?_
    refine gf_X12_49 (pc' := 189) (v := .ref 119) dX12_heard_186 rfl rfl rfl ?_
    refine jb_iload (pc' := 191) dX12_heard_189 rfl rfl ?_
    refine jb_iaload (pc' := 192) (i9 := b) (f := (Wc 9)) dX12_heard_191 rfl (jb_ix_nI (by omega)) (by omega) rfl ?_
    refine jb_top (v := .int ((Wc 9) b)) (w := .int (nI (jz_n (fun k => W 3 (40 * s + k)) zs b zs 0 0))) (jb_vI (hdf b (by omega))) ?_
    refine jb_icmp_le (tgt := 200) (pc' := 195) dX12_heard_192 (by decide) rfl (fun c2 => ?_) (fun c2 => ?_)
    · have c2 : (jz_n (fun k => W 3 (40 * s + k)) zs g zs 0 0) ≤ (jz_n (fun k => W 3 (40 * s + k)) zs b zs 0 0) := (nI_leI (a := (jz_n (fun k => W 3 (40 * s + k)) zs g zs 0 0)) (b := (jz_n (fun k => W 3 (40 * s + k)) zs b zs 0 0)) (by omega) (by omega)).mp c2
      refine jb_iload (pc' := 202) dX12_heard_200 rfl rfl ?_
      refine jb_istore_ (pc' := 204) dX12_heard_202 (by decide) (jb_at5 rfl) rfl ?_
      refine jb_iinc_ (pc' := 207) (nI (g + 1)) dX12_heard_204 (by decide) rfl (jb_inc g 1) (jb_at6 rfl) rfl ?_
      refine jb_goto (pc' := 171) dX12_heard_207 (by decide) ?_
      exact ih (g + 1) b _ (by omega) (by omega) (fun h hh => by by_cases e : h = g; (· rw [e]; show jz_n (fun k => W 3 (40 * s + k)) zs g zs 0 0 ≤ jz_n (fun k => W 3 (40 * s + k)) zs b zs 0 0; omega); (· exact h1 h (by omega))) h2
    · have c2 : ¬ (jz_n (fun k => W 3 (40 * s + k)) zs g zs 0 0) ≤ (jz_n (fun k => W 3 (40 * s + k)) zs b zs 0 0) := fun z9 => c2 ((nI_leI (a := (jz_n (fun k => W 3 (40 * s + k)) zs g zs 0 0)) (b := (jz_n (fun k => W 3 (40 * s + k)) zs b zs 0 0)) (by omega) (by omega)).mpr z9)
      refine jb_iload (pc' := 197) dX12_heard_195 rfl rfl ?_
      refine jb_goto (pc' := 202) dX12_heard_197 (by decide) ?_
      refine jb_istore_ (pc' := 204) dX12_heard_202 (by decide) (jb_at5 rfl) rfl ?_
      refine jb_iinc_ (pc' := 207) (nI (g + 1)) dX12_heard_204 (by decide) rfl (jb_inc g 1) (jb_at6 rfl) rfl ?_
      refine jb_goto (pc' := 171) dX12_heard_207 (by decide) ?_
      have hlt : (fun g => jz_n (fun k => W 3 (40 * s + k)) zs g zs 0 0) b < (fun g => jz_n (fun k => W 3 (40 * s + k)) zs g zs 0 0) g := (show jz_n (fun k => W 3 (40 * s + k)) zs b zs 0 0 < jz_n (fun k => W 3 (40 * s + k)) zs g zs 0 0 by omega)
      exact ih (g + 1) g _ (by omega) (by omega) (fun h hh => by by_cases e : h = g; (· rw [e]; exact Nat.le_refl _); (· exact Nat.le_of_lt (Nat.lt_of_le_of_lt (h1 h (by omega)) hlt))) (fun h hh => Nat.lt_of_le_of_lt (h1 h hh) hlt)
set_option maxRecDepth 100000 in
set_option maxHeartbeats 4000000 in
theorem l_he2_0 {sc : Nat × (Nat → Int32)} {s0 s1 s2 s3 s4 s5 s6 s7 s8 s9 s11 : List va_E} (I J d e kp nm : Nat → Int32) (W : Nat → Nat → Int32) (s : Nat) (hs : s < 4) (zs : Nat) (h2s : W 2 s = nI zs) (hzs : zs ≤ 40) : ∀ (n i : Nat) (Wc : Nat → Nat → Int32) (x6 x7 : Option Value), zs ≤ i + 2 * n → i ≤ zs + 2 → (∀ r, ¬ r = 9 → Wc r = W r) → (∀ g, g ≤ 40 → ∃ k, Wc 9 g = nI k ∧ jz_n (fun k => W 3 (40 * s + k)) zs g zs 0 0 = jz_n (fun k => W 3 (40 * s + k)) zs g n i k) → jb_J sc RX12 cX12_heard 8 (Option.some .int) false 3 0 0 81 [some (.ref 105), some (.int (nI s)), some (.int 0), some (.int 0), some (.int (nI (40 * s))), some (.int (nI i)), x6, x7] [] [s0, s1, s2, s3, s4, s5, s6, s7, s8, s9, jb_mdl I J d e kp nm Wc, s11] (fun r h9 => ∃ b9 W9, jz_B (fun g => jz_n (fun k => W 3 (40 * s + k)) zs g zs 0 0) b9 ∧ r = some (.int (nI b9)) ∧ (∀ r, ¬ r = 9 → W9 r = W r) ∧ h9 = [s0, s1, s2, s3, s4, s5, s6, s7, s8, s9, jb_mdl I J d e kp nm W9, s11]) := by
  intro n
  induction n with
  | zero =>
    intro i Wc x6 x7 hi hi2 hf hc
    show jb_J _ RX12 cX12_heard 8 (Option.some .int) false 3 0 0 81 [some (.ref 105), some (.int (nI s)), some (.int 0), some (.int 0), some (.int (nI (40 * s))), some (.int (nI i)), x6, x7] [] [s0, s1, s2, s3, s4, s5, s6, s7, s8, s9, jb_mdl I J d e kp nm Wc, s11] _
    refine jb_iload (pc' := 83) dX12_heard_81 rfl rfl ?_
    refine jb_iconst (pc' := 84) 1 dX12_heard_83 (by decide) rfl ?_
    refine jb_iadd (pc' := 85) dX12_heard_84 rfl ?_
    refine jb_top (v := .int ((nI i) + 1)) (w := .int (nI (i + 1))) (jb_vI (nI_add _ 1)) ?_
    refine jb_aload_n (pc' := 86) dX12_heard_85 rfl rfl ?_
    refine gf_X12_28 (pc' := 89) (v := .ref 112) dX12_heard_86 rfl rfl rfl ?_
    refine jb_iload_n (pc' := 90) dX12_heard_89 rfl rfl ?_
    refine jb_iaload (pc' := 91) (i9 := s) (f := (Wc 2)) dX12_heard_90 rfl (jb_ix_nI (by omega)) (by omega) rfl ?_
    refine jb_top (v := .int ((Wc 2) s)) (w := .int (nI zs)) (jb_vI (by rw [hf 2 (by decide)]; exact h2s)) ?_
    refine jb_icmp_ge (tgt := 165) (pc' := 94) dX12_heard_91 (by decide) rfl (fun _ => ?_) (fun z => absurd (nI_le (a := zs) (b := i + 1) (by omega) (by omega)) z)
    refine jb_iconst (pc' := 166) 0 dX12_heard_165 (by decide) rfl ?_
    refine jb_istore_ (pc' := 168) dX12_heard_166 (by decide) (jb_at5 rfl) rfl ?_
    refine jb_iconst (pc' := 169) 1 dX12_heard_168 (by decide) rfl ?_
    refine jb_istore_ (pc' := 171) dX12_heard_169 (by decide) (jb_at6 rfl) rfl ?_
    exact l_he3_0 I J d e kp nm W s hs zs h2s hzs Wc hf (fun g hg => by obtain ⟨k, h1, h2⟩ := hc g hg; rw [h1]; exact congrArg nI (h2.symm)) 40 1 0 _ (by omega) (by omega) (fun h hh => by rw [show h = 0 by omega]; exact Nat.le_refl _) (fun h hh => absurd hh (by omega))
  | succ n ih =>
    intro i Wc x6 x7 hi hi2 hf hc
    by_cases hi1 : i + 1 < zs
    · have eG : ∀ g k, jz_n (fun k => W 3 (40 * s + k)) zs g (n + 1) i k = jz_n (fun k => W 3 (40 * s + k)) zs g n (i + 2) (if jz_d (fun k => W 3 (40 * s + k)) i = g then k + 1 else k) := fun g k => if_pos hi1
      obtain ⟨m, hm⟩ : ∃ m, ((W 3 (40 * s + i)).toInt - (W 3 (40 * s + (i + 1))).toInt).natAbs = m := ⟨_, rfl⟩
      have hd9 : jz_d (fun k => W 3 (40 * s + k)) i = m := hm
      have r1 := jl_rng (W 3 (40 * s + i))
      have r2 := jl_rng (W 3 (40 * s + (i + 1)))
      have hm62 : m < 2 ^ 62 := by omega
      by_cases hneg : (W 3 (40 * s + i)).toInt < (W 3 (40 * s + (i + 1))).toInt
      · by_cases h41 : m < 41
        · show jb_J _ RX12 cX12_heard 8 (Option.some .int) false 3 0 0 81 [some (.ref 105), some (.int (nI s)), some (.int 0), some (.int 0), some (.int (nI (40 * s))), some (.int (nI i)), x6, x7] [] [s0, s1, s2, s3, s4, s5, s6, s7, s8, s9, jb_mdl I J d e kp nm Wc, s11] _
          refine jb_iload (pc' := 83) dX12_heard_81 rfl rfl ?_
          refine jb_iconst (pc' := 84) 1 dX12_heard_83 (by decide) rfl ?_
          refine jb_iadd (pc' := 85) dX12_heard_84 rfl ?_
          refine jb_top (v := .int ((nI i) + 1)) (w := .int (nI (i + 1))) (jb_vI (nI_add _ 1)) ?_
          refine jb_aload_n (pc' := 86) dX12_heard_85 rfl rfl ?_
          refine gf_X12_28 (pc' := 89) (v := .ref 112) dX12_heard_86 rfl rfl rfl ?_
          refine jb_iload_n (pc' := 90) dX12_heard_89 rfl rfl ?_
          refine jb_iaload (pc' := 91) (i9 := s) (f := (Wc 2)) dX12_heard_90 rfl (jb_ix_nI (by omega)) (by omega) rfl ?_
          refine jb_top (v := .int ((Wc 2) s)) (w := .int (nI zs)) (jb_vI (by rw [hf 2 (by decide)]; exact h2s)) ?_
          refine jb_icmp_ge (tgt := 165) (pc' := 94) dX12_heard_91 (by decide) rfl (fun z => absurd z (nI_ge (a := i + 1) (b := zs) (by omega) (by omega))) (fun _ => ?_)
          refine jb_aload_n (pc' := 95) dX12_heard_94 rfl rfl ?_
          refine gf_X12_31 (pc' := 98) (v := .ref 113) dX12_heard_95 rfl rfl rfl ?_
          refine jb_iload (pc' := 100) dX12_heard_98 rfl rfl ?_
          refine jb_iload (pc' := 102) dX12_heard_100 rfl rfl ?_
          refine jb_iadd (pc' := 103) dX12_heard_102 rfl ?_
          refine jb_top (v := .int ((nI (40 * s)) + (nI i))) (w := .int (nI (40 * s + i))) (jb_vI (nI_add _ _)) ?_
          refine jb_iaload (pc' := 104) (i9 := (40 * s + i)) (f := (Wc 3)) dX12_heard_103 rfl (jb_ix_nI (by omega)) (by omega) rfl ?_
          refine jb_top (v := .int ((Wc 3) (40 * s + i))) (w := .int (W 3 (40 * s + i))) (jb_vI (congrFun (hf 3 (by decide)) _)) ?_
          refine jb_i2l (pc' := 105) dX12_heard_104 rfl ?_
          refine jb_aload_n (pc' := 106) dX12_heard_105 rfl rfl ?_
          refine gf_X12_31 (pc' := 109) (v := .ref 113) dX12_heard_106 rfl rfl rfl ?_
          refine jb_iload (pc' := 111) dX12_heard_109 rfl rfl ?_
          refine jb_iload (pc' := 113) dX12_heard_111 rfl rfl ?_
          refine jb_iadd (pc' := 114) dX12_heard_113 rfl ?_
          refine jb_top (v := .int ((nI (40 * s)) + (nI i))) (w := .int (nI (40 * s + i))) (jb_vI (nI_add _ _)) ?_
          refine jb_iconst (pc' := 115) 1 dX12_heard_114 (by decide) rfl ?_
          refine jb_iadd (pc' := 116) dX12_heard_115 rfl ?_
          refine jb_top (v := .int ((nI (40 * s + i)) + 1)) (w := .int (nI (40 * s + i + 1))) (jb_vI (nI_add _ 1)) ?_
          refine jb_iaload (pc' := 117) (i9 := (40 * s + i + 1)) (f := (Wc 3)) dX12_heard_116 rfl (jb_ix_nI (by omega)) (by omega) rfl ?_
          refine jb_top (v := .int ((Wc 3) (40 * s + i + 1))) (w := .int (W 3 (40 * s + (i + 1)))) (jb_vI (congrFun (hf 3 (by decide)) _)) ?_
          refine jb_i2l (pc' := 118) dX12_heard_117 rfl ?_
          refine jb_lsub (pc' := 119) dX12_heard_118 rfl ?_
          refine jb_lstore_ (pc' := 121) dX12_heard_119 (by decide) (jb_lt6 rfl) rfl ?_
          refine jb_lload (pc' := 123) dX12_heard_121 rfl rfl ?_
          refine jb_lconst (pc' := 124) 0 dX12_heard_123 (by decide) rfl ?_
          refine jb_lcmp (pc' := 125) dX12_heard_124 rfl ?_
          refine jb_if_ge (tgt := 134) (pc' := 128) dX12_heard_125 (by decide) rfl (fun z => absurd z (Int32.not_le.mpr (jl_lt.mpr (jz_neg0.mpr hneg)))) (fun _ => ?_)
          refine jb_lload (pc' := 130) dX12_heard_128 rfl rfl ?_
          refine jb_lneg (pc' := 131) dX12_heard_130 rfl ?_
          refine jb_top (v := .long (-(((W 3 (40 * s + i)).toInt64) - ((W 3 (40 * s + (i + 1))).toInt64)))) (w := .long (lN m)) (jb_vL (by rw [jz_lNn hneg, hm])) ?_
          refine jb_goto (pc' := 136) dX12_heard_131 (by decide) ?_
          refine jb_lstore_ (pc' := 138) dX12_heard_136 (by decide) (jb_lt6 rfl) rfl ?_
          refine jb_lload (pc' := 140) dX12_heard_138 rfl rfl ?_
          refine jb_ldc2 (pc' := 143) 41 dX12_heard_140 wk_X12_250 rfl ?_
          refine jb_lcmp (pc' := 144) dX12_heard_143 rfl ?_
          refine jb_if_ge (tgt := 159) (pc' := 147) dX12_heard_144 (by decide) rfl (fun z => absurd z (Int32.not_le.mpr (jl_lt.mpr ((jz_41 m hm62).mpr h41)))) (fun _ => ?_)
          refine jb_aload_n (pc' := 148) dX12_heard_147 rfl rfl ?_
          refine gf_X12_49 (pc' := 151) (v := .ref 119) dX12_heard_148 rfl rfl rfl ?_
          refine jb_lload (pc' := 153) dX12_heard_151 rfl rfl ?_
          refine jb_l2i (pc' := 154) dX12_heard_153 rfl ?_
          refine jb_top (v := .int ((lN m).toInt32)) (w := .int (nI m)) (jb_vI (jz_i h41)) ?_
          refine jb_dup2 (pc' := 155) dX12_heard_154 rfl rfl rfl ?_
          refine jb_iaload (pc' := 156) (i9 := m) (f := (Wc 9)) dX12_heard_155 rfl (jb_ix_nI (by omega)) (by omega) rfl ?_
          refine jb_iconst (pc' := 157) 1 dX12_heard_156 (by decide) rfl ?_
          refine jb_iadd (pc' := 158) dX12_heard_157 rfl ?_
          refine jb_iastore (pc' := 159) (i9 := m) (f := (Wc 9)) (h' := [s0, s1, s2, s3, s4, s5, s6, s7, s8, s9, jb_mdl I J d e kp nm (va_up Wc 9 (upd (Wc 9) m (((Wc 9) m) + 1))), s11]) dX12_heard_158 rfl (jb_ix_nI (by omega)) (by omega) rfl rfl ?_
          refine jb_iinc_ (pc' := 162) (nI (i + 2)) dX12_heard_159 (by decide) rfl (jb_inc i 2) (jb_at5 rfl) rfl ?_
          refine jb_goto (pc' := 81) dX12_heard_162 (by decide) ?_
          refine ih (i + 2) (va_up Wc 9 (upd (Wc 9) m (((Wc 9) m) + 1))) _ _ (by omega) (by omega) (fun r hr => (va_ne hr).trans (hf r hr)) (fun g hg => ?_)
          obtain ⟨k, h1, h2⟩ := hc g hg
          rw [eG] at h2
          by_cases e : g = m
          · rw [if_pos (by rw [hd9, e])] at h2
            refine ⟨k + 1, ?_, h2⟩
            show upd (Wc 9) m (Wc 9 m + 1) g = _
            rw [e, jb_uee, ← e, h1, nI_1]
          · rw [if_neg (by rw [hd9]; exact fun z => e z.symm)] at h2
            exact ⟨k, (jb_une e).trans h1, h2⟩
        · show jb_J _ RX12 cX12_heard 8 (Option.some .int) false 3 0 0 81 [some (.ref 105), some (.int (nI s)), some (.int 0), some (.int 0), some (.int (nI (40 * s))), some (.int (nI i)), x6, x7] [] [s0, s1, s2, s3, s4, s5, s6, s7, s8, s9, jb_mdl I J d e kp nm Wc, s11] _
          refine jb_iload (pc' := 83) dX12_heard_81 rfl rfl ?_
          refine jb_iconst (pc' := 84) 1 dX12_heard_83 (by decide) rfl ?_
          refine jb_iadd (pc' := 85) dX12_heard_84 rfl ?_
          refine jb_top (v := .int ((nI i) + 1)) (w := .int (nI (i + 1))) (jb_vI (nI_add _ 1)) ?_
          refine jb_aload_n (pc' := 86) dX12_heard_85 rfl rfl ?_
          refine gf_X12_28 (pc' := 89) (v := .ref 112) dX12_heard_86 rfl rfl rfl ?_
          refine jb_iload_n (pc' := 90) dX12_heard_89 rfl rfl ?_
          refine jb_iaload (pc' := 91) (i9 := s) (f := (Wc 2)) dX12_heard_90 rfl (jb_ix_nI (by omega)) (by omega) rfl ?_
          refine jb_top (v := .int ((Wc 2) s)) (w := .int (nI zs)) (jb_vI (by rw [hf 2 (by decide)]; exact h2s)) ?_
          refine jb_icmp_ge (tgt := 165) (pc' := 94) dX12_heard_91 (by decide) rfl (fun z => absurd z (nI_ge (a := i + 1) (b := zs) (by omega) (by omega))) (fun _ => ?_)
          refine jb_aload_n (pc' := 95) dX12_heard_94 rfl rfl ?_
          refine gf_X12_31 (pc' := 98) (v := .ref 113) dX12_heard_95 rfl rfl rfl ?_
          refine jb_iload (pc' := 100) dX12_heard_98 rfl rfl ?_
          refine jb_iload (pc' := 102) dX12_heard_100 rfl rfl ?_
          refine jb_iadd (pc' := 103) dX12_heard_102 rfl ?_
          refine jb_top (v := .int ((nI (40 * s)) + (nI i))) (w := .int (nI (40 * s + i))) (jb_vI (nI_add _ _)) ?_
          refine jb_iaload (pc' := 104) (i9 := (40 * s + i)) (f := (Wc 3)) dX12_heard_103 rfl (jb_ix_nI (by omega)) (by omega) rfl ?_
          refine jb_top (v := .int ((Wc 3) (40 * s + i))) (w := .int (W 3 (40 * s + i))) (jb_vI (congrFun (hf 3 (by decide)) _)) ?_
          refine jb_i2l (pc' := 105) dX12_heard_104 rfl ?_
          refine jb_aload_n (pc' := 106) dX12_heard_105 rfl rfl ?_
          refine gf_X12_31 (pc' := 109) (v := .ref 113) dX12_heard_106 rfl rfl rfl ?_
          refine jb_iload (pc' := 111) dX12_heard_109 rfl rfl ?_
          refine jb_iload (pc' := 113) dX12_heard_111 rfl rfl ?_
          refine jb_iadd (pc' := 114) dX12_heard_113 rfl ?_
          refine jb_top (v := .int ((nI (40 * s)) + (nI i))) (w := .int (nI (40 * s + i))) (jb_vI (nI_add _ _)) ?_
          refine jb_iconst (pc' := 115) 1 dX12_heard_114 (by decide) rfl ?_
          refine jb_iadd (pc' := 116) dX12_heard_115 rfl ?_
          refine jb_top (v := .int ((nI (40 * s + i)) + 1)) (w := .int (nI (40 * s + i + 1))) (jb_vI (nI_add _ 1)) ?_
          refine jb_iaload (pc' := 117) (i9 := (40 * s + i + 1)) (f := (Wc 3)) dX12_heard_116 rfl (jb_ix_nI (by omega)) (by omega) rfl ?_
          refine jb_top (v := .int ((Wc 3) (40 * s + i + 1))) (w := .int (W 3 (40 * s + (i + 1)))) (jb_vI (congrFun (hf 3 (by decide)) _)) ?_
          refine jb_i2l (pc' := 118) dX12_heard_117 rfl ?_
          refine jb_lsub (pc' := 119) dX12_heard_118 rfl ?_
          refine jb_lstore_ (pc' := 121) dX12_heard_119 (by decide) (jb_lt6 rfl) rfl ?_
          refine jb_lload (pc' := 123) dX12_heard_121 rfl rfl ?_
          refine jb_lconst (pc' := 124) 0 dX12_heard_123 (by decide) rfl ?_
          refine jb_lcmp (pc' := 125) dX12_heard_124 rfl ?_
          refine jb_if_ge (tgt := 134) (pc' := 128) dX12_heard_125 (by decide) rfl (fun z => absurd z (Int32.not_le.mpr (jl_lt.mpr (jz_neg0.mpr hneg)))) (fun _ => ?_)
          refine jb_lload (pc' := 130) dX12_heard_128 rfl rfl ?_
          refine jb_lneg (pc' := 131) dX12_heard_130 rfl ?_
          refine jb_top (v := .long (-(((W 3 (40 * s + i)).toInt64) - ((W 3 (40 * s + (i + 1))).toInt64)))) (w := .long (lN m)) (jb_vL (by rw [jz_lNn hneg, hm])) ?_
          refine jb_goto (pc' := 136) dX12_heard_131 (by decide) ?_
          refine jb_lstore_ (pc' := 138) dX12_heard_136 (by decide) (jb_lt6 rfl) rfl ?_
          refine jb_lload (pc' := 140) dX12_heard_138 rfl rfl ?_
          refine jb_ldc2 (pc' := 143) 41 dX12_heard_140 wk_X12_250 rfl ?_
          refine jb_lcmp (pc' := 144) dX12_heard_143 rfl ?_
          refine jb_if_ge (tgt := 159) (pc' := 147) dX12_heard_144 (by decide) rfl (fun _ => ?_) (fun z => absurd (jl_ge.mpr (fun z => h41 ((jz_41 m hm62).mp z))) z)
          refine jb_iinc_ (pc' := 162) (nI (i + 2)) dX12_heard_159 (by decide) rfl (jb_inc i 2) (jb_at5 rfl) rfl ?_
          refine jb_goto (pc' := 81) dX12_heard_162 (by decide) ?_
          refine ih (i + 2) Wc _ _ (by omega) (by omega) hf (fun g hg => ?_)
          obtain ⟨k, h1, h2⟩ := hc g hg
          rw [eG, if_neg (by rw [hd9]; omega)] at h2
          exact ⟨k, h1, h2⟩
      · by_cases h41 : m < 41
        · show jb_J _ RX12 cX12_heard 8 (Option.some .int) false 3 0 0 81 [some (.ref 105), some (.int (nI s)), some (.int 0), some (.int 0), some (.int (nI (40 * s))), some (.int (nI i)), x6, x7] [] [s0, s1, s2, s3, s4, s5, s6, s7, s8, s9, jb_mdl I J d e kp nm Wc, s11] _
          refine jb_iload (pc' := 83) dX12_heard_81 rfl rfl ?_
          refine jb_iconst (pc' := 84) 1 dX12_heard_83 (by decide) rfl ?_
          refine jb_iadd (pc' := 85) dX12_heard_84 rfl ?_
          refine jb_top (v := .int ((nI i) + 1)) (w := .int (nI (i + 1))) (jb_vI (nI_add _ 1)) ?_
          refine jb_aload_n (pc' := 86) dX12_heard_85 rfl rfl ?_
          refine gf_X12_28 (pc' := 89) (v := .ref 112) dX12_heard_86 rfl rfl rfl ?_
          refine jb_iload_n (pc' := 90) dX12_heard_89 rfl rfl ?_
          refine jb_iaload (pc' := 91) (i9 := s) (f := (Wc 2)) dX12_heard_90 rfl (jb_ix_nI (by omega)) (by omega) rfl ?_
          refine jb_top (v := .int ((Wc 2) s)) (w := .int (nI zs)) (jb_vI (by rw [hf 2 (by decide)]; exact h2s)) ?_
          refine jb_icmp_ge (tgt := 165) (pc' := 94) dX12_heard_91 (by decide) rfl (fun z => absurd z (nI_ge (a := i + 1) (b := zs) (by omega) (by omega))) (fun _ => ?_)
          refine jb_aload_n (pc' := 95) dX12_heard_94 rfl rfl ?_
          refine gf_X12_31 (pc' := 98) (v := .ref 113) dX12_heard_95 rfl rfl rfl ?_
          refine jb_iload (pc' := 100) dX12_heard_98 rfl rfl ?_
          refine jb_iload (pc' := 102) dX12_heard_100 rfl rfl ?_
          refine jb_iadd (pc' := 103) dX12_heard_102 rfl ?_
          refine jb_top (v := .int ((nI (40 * s)) + (nI i))) (w := .int (nI (40 * s + i))) (jb_vI (nI_add _ _)) ?_
          refine jb_iaload (pc' := 104) (i9 := (40 * s + i)) (f := (Wc 3)) dX12_heard_103 rfl (jb_ix_nI (by omega)) (by omega) rfl ?_
          refine jb_top (v := .int ((Wc 3) (40 * s + i))) (w := .int (W 3 (40 * s + i))) (jb_vI (congrFun (hf 3 (by decide)) _)) ?_
          refine jb_i2l (pc' := 105) dX12_heard_104 rfl ?_
          refine jb_aload_n (pc' := 106) dX12_heard_105 rfl rfl ?_
          refine gf_X12_31 (pc' := 109) (v := .ref 113) dX12_heard_106 rfl rfl rfl ?_
          refine jb_iload (pc' := 111) dX12_heard_109 rfl rfl ?_
          refine jb_iload (pc' := 113) dX12_heard_111 rfl rfl ?_
          refine jb_iadd (pc' := 114) dX12_heard_113 rfl ?_
          refine jb_top (v := .int ((nI (40 * s)) + (nI i))) (w := .int (nI (40 * s + i))) (jb_vI (nI_add _ _)) ?_
          refine jb_iconst (pc' := 115) 1 dX12_heard_114 (by decide) rfl ?_
          refine jb_iadd (pc' := 116) dX12_heard_115 rfl ?_
          refine jb_top (v := .int ((nI (40 * s + i)) + 1)) (w := .int (nI (40 * s + i + 1))) (jb_vI (nI_add _ 1)) ?_
          refine jb_iaload (pc' := 117) (i9 := (40 * s + i + 1)) (f := (Wc 3)) dX12_heard_116 rfl (jb_ix_nI (by omega)) (by omega) rfl ?_
          refine jb_top (v := .int ((Wc 3) (40 * s + i + 1))) (w := .int (W 3 (40 * s + (i + 1)))) (jb_vI (congrFun (hf 3 (by decide)) _)) ?_
          refine jb_i2l (pc' := 118) dX12_heard_117 rfl ?_
          refine jb_lsub (pc' := 119) dX12_heard_118 rfl ?_
          refine jb_top (v := .long (((W 3 (40 * s + i)).toInt64) - ((W 3 (40 * s + (i + 1))).toInt64))) (w := .long (lN m)) (jb_vL (by rw [jz_lN hneg, hm])) ?_
          refine jb_lstore_ (pc' := 121) dX12_heard_119 (by decide) (jb_lt6 rfl) rfl ?_
          refine jb_lload (pc' := 123) dX12_heard_121 rfl rfl ?_
          refine jb_lconst (pc' := 124) 0 dX12_heard_123 (by decide) rfl ?_
          refine jb_lcmp (pc' := 125) dX12_heard_124 rfl ?_
          refine jb_if_ge (tgt := 134) (pc' := 128) dX12_heard_125 (by decide) rfl (fun _ => ?_) (fun z => absurd (jl_ge.mpr (fun z => absurd ((pk_lLT (a := m) (b := 0) (by omega) (by decide)).mp z) (by omega))) z)
          refine jb_lload (pc' := 136) dX12_heard_134 rfl rfl ?_
          refine jb_lstore_ (pc' := 138) dX12_heard_136 (by decide) (jb_lt6 rfl) rfl ?_
          refine jb_lload (pc' := 140) dX12_heard_138 rfl rfl ?_
          refine jb_ldc2 (pc' := 143) 41 dX12_heard_140 wk_X12_250 rfl ?_
          refine jb_lcmp (pc' := 144) dX12_heard_143 rfl ?_
          refine jb_if_ge (tgt := 159) (pc' := 147) dX12_heard_144 (by decide) rfl (fun z => absurd z (Int32.not_le.mpr (jl_lt.mpr ((jz_41 m hm62).mpr h41)))) (fun _ => ?_)
          refine jb_aload_n (pc' := 148) dX12_heard_147 rfl rfl ?_
          refine gf_X12_49 (pc' := 151) (v := .ref 119) dX12_heard_148 rfl rfl rfl ?_
          refine jb_lload (pc' := 153) dX12_heard_151 rfl rfl ?_
          refine jb_l2i (pc' := 154) dX12_heard_153 rfl ?_
          refine jb_top (v := .int ((lN m).toInt32)) (w := .int (nI m)) (jb_vI (jz_i h41)) ?_
          refine jb_dup2 (pc' := 155) dX12_heard_154 rfl rfl rfl ?_
          refine jb_iaload (pc' := 156) (i9 := m) (f := (Wc 9)) dX12_heard_155 rfl (jb_ix_nI (by omega)) (by omega) rfl ?_
          refine jb_iconst (pc' := 157) 1 dX12_heard_156 (by decide) rfl ?_
          refine jb_iadd (pc' := 158) dX12_heard_157 rfl ?_
          refine jb_iastore (pc' := 159) (i9 := m) (f := (Wc 9)) (h' := [s0, s1, s2, s3, s4, s5, s6, s7, s8, s9, jb_mdl I J d e kp nm (va_up Wc 9 (upd (Wc 9) m (((Wc 9) m) + 1))), s11]) dX12_heard_158 rfl (jb_ix_nI (by omega)) (by omega) rfl rfl ?_
          refine jb_iinc_ (pc' := 162) (nI (i + 2)) dX12_heard_159 (by decide) rfl (jb_inc i 2) (jb_at5 rfl) rfl ?_
          refine jb_goto (pc' := 81) dX12_heard_162 (by decide) ?_
          refine ih (i + 2) (va_up Wc 9 (upd (Wc 9) m (((Wc 9) m) + 1))) _ _ (by omega) (by omega) (fun r hr => (va_ne hr).trans (hf r hr)) (fun g hg => ?_)
          obtain ⟨k, h1, h2⟩ := hc g hg
          rw [eG] at h2
          by_cases e : g = m
          · rw [if_pos (by rw [hd9, e])] at h2
            refine ⟨k + 1, ?_, h2⟩
            show upd (Wc 9) m (Wc 9 m + 1) g = _
            rw [e, jb_uee, ← e, h1, nI_1]
          · rw [if_neg (by rw [hd9]; exact fun z => e z.symm)] at h2
            exact ⟨k, (jb_une e).trans h1, h2⟩
        · show jb_J _ RX12 cX12_heard 8 (Option.some .int) false 3 0 0 81 [some (.ref 105), some (.int (nI s)), some (.int 0), some (.int 0), some (.int (nI (40 * s))), some (.int (nI i)), x6, x7] [] [s0, s1, s2, s3, s4, s5, s6, s7, s8, s9, jb_mdl I J d e kp nm Wc, s11] _
          refine jb_iload (pc' := 83) dX12_heard_81 rfl rfl ?_
          refine jb_iconst (pc' := 84) 1 dX12_heard_83 (by decide) rfl ?_
          refine jb_iadd (pc' := 85) dX12_heard_84 rfl ?_
          refine jb_top (v := .int ((nI i) + 1)) (w := .int (nI (i + 1))) (jb_vI (nI_add _ 1)) ?_
          refine jb_aload_n (pc' := 86) dX12_heard_85 rfl rfl ?_
          refine gf_X12_28 (pc' := 89) (v := .ref 112) dX12_heard_86 rfl rfl rfl ?_
          refine jb_iload_n (pc' := 90) dX12_heard_89 rfl rfl ?_
          refine jb_iaload (pc' := 91) (i9 := s) (f := (Wc 2)) dX12_heard_90 rfl (jb_ix_nI (by omega)) (by omega) rfl ?_
          refine jb_top (v := .int ((Wc 2) s)) (w := .int (nI zs)) (jb_vI (by rw [hf 2 (by decide)]; exact h2s)) ?_
          refine jb_icmp_ge (tgt := 165) (pc' := 94) dX12_heard_91 (by decide) rfl (fun z => absurd z (nI_ge (a := i + 1) (b := zs) (by omega) (by omega))) (fun _ => ?_)
          refine jb_aload_n (pc' := 95) dX12_heard_94 rfl rfl ?_
          refine gf_X12_31 (pc' := 98) (v := .ref 113) dX12_heard_95 rfl rfl rfl ?_
          refine jb_iload (pc' := 100) dX12_heard_98 rfl rfl ?_
          refine jb_iload (pc' := 102) dX12_heard_100 rfl rfl ?_
          refine jb_iadd (pc' := 103) dX12_heard_102 rfl ?_
          refine jb_top (v := .int ((nI (40 * s)) + (nI i))) (w := .int (nI (40 * s + i))) (jb_vI (nI_add _ _)) ?_
          refine jb_iaload (pc' := 104) (i9 := (40 * s + i)) (f := (Wc 3)) dX12_heard_103 rfl (jb_ix_nI (by omega)) (by omega) rfl ?_
          refine jb_top (v := .int ((Wc 3) (40 * s + i))) (w := .int (W 3 (40 * s + i))) (jb_vI (congrFun (hf 3 (by decide)) _)) ?_
          refine jb_i2l (pc' := 105) dX12_heard_104 rfl ?_
          refine jb_aload_n (pc' := 106) dX12_heard_105 rfl rfl ?_
          refine gf_X12_31 (pc' := 109) (v := .ref 113) dX12_heard_106 rfl rfl rfl ?_
          refine jb_iload (pc' := 111) dX12_heard_109 rfl rfl ?_
          refine jb_iload (pc' := 113) dX12_heard_111 rfl rfl ?_
          refine jb_iadd (pc' := 114) dX12_heard_113 rfl ?_
          refine jb_top (v := .int ((nI (40 * s)) + (nI i))) (w := .int (nI (40 * s + i))) (jb_vI (nI_add _ _)) ?_
          refine jb_iconst (pc' := 115) 1 dX12_heard_114 (by decide) rfl ?_
          refine jb_iadd (pc' := 116) dX12_heard_115 rfl ?_
          refine jb_top (v := .int ((nI (40 * s + i)) + 1)) (w := .int (nI (40 * s + i + 1))) (jb_vI (nI_add _ 1)) ?_
          refine jb_iaload (pc' := 117) (i9 := (40 * s + i + 1)) (f := (Wc 3)) dX12_heard_116 rfl (jb_ix_nI (by omega)) (by omega) rfl ?_
          refine jb_top (v := .int ((Wc 3) (40 * s + i + 1))) (w := .int (W 3 (40 * s + (i + 1)))) (jb_vI (congrFun (hf 3 (by decide)) _)) ?_
          refine jb_i2l (pc' := 118) dX12_heard_117 rfl ?_
          refine jb_lsub (pc' := 119) dX12_heard_118 rfl ?_
          refine jb_top (v := .long (((W 3 (40 * s + i)).toInt64) - ((W 3 (40 * s + (i + 1))).toInt64))) (w := .long (lN m)) (jb_vL (by rw [jz_lN hneg, hm])) ?_
          refine jb_lstore_ (pc' := 121) dX12_heard_119 (by decide) (jb_lt6 rfl) rfl ?_
          refine jb_lload (pc' := 123) dX12_heard_121 rfl rfl ?_
          refine jb_lconst (pc' := 124) 0 dX12_heard_123 (by decide) rfl ?_
          refine jb_lcmp (pc' := 125) dX12_heard_124 rfl ?_
          refine jb_if_ge (tgt := 134) (pc' := 128) dX12_heard_125 (by decide) rfl (fun _ => ?_) (fun z => absurd (jl_ge.mpr (fun z => absurd ((pk_lLT (a := m) (b := 0) (by omega) (by decide)).mp z) (by omega))) z)
          refine jb_lload (pc' := 136) dX12_heard_134 rfl rfl ?_
          refine jb_lstore_ (pc' := 138) dX12_heard_136 (by decide) (jb_lt6 rfl) rfl ?_
          refine jb_lload (pc' := 140) dX12_heard_138 rfl rfl ?_
          refine jb_ldc2 (pc' := 143) 41 dX12_heard_140 wk_X12_250 rfl ?_
          refine jb_lcmp (pc' := 144) dX12_heard_143 rfl ?_
          refine jb_if_ge (tgt := 159) (pc' := 147) dX12_heard_144 (by decide) rfl (fun _ => ?_) (fun z => absurd (jl_ge.mpr (fun z => h41 ((jz_41 m hm62).mp z))) z)
          refine jb_iinc_ (pc' := 162) (nI (i + 2)) dX12_heard_159 (by decide) rfl (jb_inc i 2) (jb_at5 rfl) rfl ?_
          refine jb_goto (pc' := 81) dX12_heard_162 (by decide) ?_
          refine ih (i + 2) Wc _ _ (by omega) (by omega) hf (fun g hg => ?_)
          obtain ⟨k, h1, h2⟩ := hc g hg
          rw [eG, if_neg (by rw [hd9]; omega)] at h2
          exact ⟨k, h1, h2⟩
    · have eG : ∀ g k, jz_n (fun k => W 3 (40 * s + k)) zs g (n + 1) i k = k := fun g k => if_neg hi1
      show jb_J _ RX12 cX12_heard 8 (Option.some .int) false 3 0 0 81 [some (.ref 105), some (.int (nI s)), some (.int 0), some (.int 0), some (.int (nI (40 * s))), some (.int (nI i)), x6, x7] [] [s0, s1, s2, s3, s4, s5, s6, s7, s8, s9, jb_mdl I J d e kp nm Wc, s11] _
      refine jb_iload (pc' := 83) dX12_heard_81 rfl rfl ?_
      refine jb_iconst (pc' := 84) 1 dX12_heard_83 (by decide) rfl ?_
      refine jb_iadd (pc' := 85) dX12_heard_84 rfl ?_
      refine jb_top (v := .int ((nI i) + 1)) (w := .int (nI (i + 1))) (jb_vI (nI_add _ 1)) ?_
      refine jb_aload_n (pc' := 86) dX12_heard_85 rfl rfl ?_
      refine gf_X12_28 (pc' := 89) (v := .ref 112) dX12_heard_86 rfl rfl rfl ?_
      refine jb_iload_n (pc' := 90) dX12_heard_89 rfl rfl ?_
      refine jb_iaload (pc' := 91) (i9 := s) (f := (Wc 2)) dX12_heard_90 rfl (jb_ix_nI (by omega)) (by omega) rfl ?_
      refine jb_top (v := .int ((Wc 2) s)) (w := .int (nI zs)) (jb_vI (by rw [hf 2 (by decide)]; exact h2s)) ?_
      refine jb_icmp_ge (tgt := 165) (pc' := 94) dX12_heard_91 (by decide) rfl (fun _ => ?_) (fun z => absurd (nI_le (a := zs) (b := i + 1) (by omega) (by omega)) z)
      refine jb_iconst (pc' := 166) 0 dX12_heard_165 (by decide) rfl ?_
      refine jb_istore_ (pc' := 168) dX12_heard_166 (by decide) (jb_at5 rfl) rfl ?_
      refine jb_iconst (pc' := 169) 1 dX12_heard_168 (by decide) rfl ?_
      refine jb_istore_ (pc' := 171) dX12_heard_169 (by decide) (jb_at6 rfl) rfl ?_
      exact l_he3_0 I J d e kp nm W s hs zs h2s hzs Wc hf (fun g hg => by obtain ⟨k, h1, h2⟩ := hc g hg; rw [h1]; exact congrArg nI ((h2.trans (eG g k)).symm)) 40 1 0 _ (by omega) (by omega) (fun h hh => by rw [show h = 0 by omega]; exact Nat.le_refl _) (fun h hh => absurd hh (by omega))
set_option maxRecDepth 100000 in
set_option maxHeartbeats 4000000 in
theorem l_he1_0 {sc : Nat × (Nat → Int32)} {s0 s1 s2 s3 s4 s5 s6 s7 s8 s9 s11 : List va_E} (I J d e kp nm : Nat → Int32) (W : Nat → Nat → Int32) (s : Nat) (hs : s < 4) (zs : Nat) (h2s : W 2 s = nI zs) (hzs : zs ≤ 40) : ∀ (n i : Nat) (Wc : Nat → Nat → Int32), i + n = 41 → (∀ r, ¬ r = 9 → Wc r = W r) → (∀ g, g < i → Wc 9 g = 0) → jb_J sc RX12 cX12_heard 8 (Option.some .int) false 3 0 0 51 [some (.ref 105), some (.int (nI s)), some (.int 0), some (.int 0), some (.int (nI i)), none, none, none] [] [s0, s1, s2, s3, s4, s5, s6, s7, s8, s9, jb_mdl I J d e kp nm Wc, s11] (fun r h9 => ∃ b9 W9, jz_B (fun g => jz_n (fun k => W 3 (40 * s + k)) zs g zs 0 0) b9 ∧ r = some (.int (nI b9)) ∧ (∀ r, ¬ r = 9 → W9 r = W r) ∧ h9 = [s0, s1, s2, s3, s4, s5, s6, s7, s8, s9, jb_mdl I J d e kp nm W9, s11]) := by
  intro n
  induction n with
  | zero =>
    intro i Wc hi hf hz
    show jb_J _ RX12 cX12_heard 8 (Option.some .int) false 3 0 0 51 [some (.ref 105), some (.int (nI s)), some (.int 0), some (.int 0), some (.int (nI i)), none, none, none] [] [s0, s1, s2, s3, s4, s5, s6, s7, s8, s9, jb_mdl I J d e kp nm Wc, s11] _
    refine jb_iload (pc' := 53) dX12_heard_51 rfl rfl ?_
    refine jb_bipush (pc' := 55) 41 dX12_heard_53 (by decide) rfl ?_
    refine jb_icmp_ge (tgt := 72) (pc' := 58) dX12_heard_55 (by decide) rfl (fun _ => ?_) (fun z => absurd (nI_le (a := 41) (b := i) (by omega) (by omega)) z)
    refine jb_bipush (pc' := 74) 40 dX12_heard_72 (by decide) rfl ?_
    refine jb_iload_n (pc' := 75) dX12_heard_74 rfl rfl ?_
    refine jb_imul (pc' := 76) dX12_heard_75 rfl ?_
    refine jb_top (v := .int (40 * (nI s))) (w := .int (nI (40 * s))) (jb_vI (pk_mul 40 _)) ?_
    refine jb_istore_ (pc' := 78) dX12_heard_76 (by decide) (jb_at4 rfl) rfl ?_
    refine jb_iconst (pc' := 79) 0 dX12_heard_78 (by decide) rfl ?_
    refine jb_istore_ (pc' := 81) dX12_heard_79 (by decide) (jb_at5 rfl) rfl ?_
    exact l_he2_0 I J d e kp nm W s hs zs h2s hzs zs 0 Wc _ _ (by omega) (by omega) hf (fun g hg => ⟨0, hz g (by omega), rfl⟩)
  | succ n ih =>
    intro i Wc hi hf hz
    show jb_J _ RX12 cX12_heard 8 (Option.some .int) false 3 0 0 51 [some (.ref 105), some (.int (nI s)), some (.int 0), some (.int 0), some (.int (nI i)), none, none, none] [] [s0, s1, s2, s3, s4, s5, s6, s7, s8, s9, jb_mdl I J d e kp nm Wc, s11] _
    refine jb_iload (pc' := 53) dX12_heard_51 rfl rfl ?_
    refine jb_bipush (pc' := 55) 41 dX12_heard_53 (by decide) rfl ?_
    refine jb_icmp_ge (tgt := 72) (pc' := 58) dX12_heard_55 (by decide) rfl (fun z => absurd z (nI_ge (a := i) (b := 41) (by omega) (by omega))) (fun _ => ?_)
    refine jb_aload_n (pc' := 59) dX12_heard_58 rfl rfl ?_
    refine gf_X12_49 (pc' := 62) (v := .ref 119) dX12_heard_59 rfl rfl rfl ?_
    refine jb_iload (pc' := 64) dX12_heard_62 rfl rfl ?_
    refine jb_iconst (pc' := 65) 0 dX12_heard_64 (by decide) rfl ?_
    refine jb_iastore (pc' := 66) (i9 := i) (f := (Wc 9)) (h' := [s0, s1, s2, s3, s4, s5, s6, s7, s8, s9, jb_mdl I J d e kp nm (va_up Wc 9 (upd (Wc 9) i 0)), s11]) dX12_heard_65 rfl (jb_ix_nI (by omega)) (by omega) rfl rfl ?_
    refine jb_iinc_ (pc' := 69) (nI (i + 1)) dX12_heard_66 (by decide) rfl (jb_inc i 1) (jb_at4 rfl) rfl ?_
    refine jb_goto (pc' := 51) dX12_heard_69 (by decide) ?_
    exact ih (i + 1) (va_up Wc 9 (upd (Wc 9) i 0)) (by omega) (fun r hr => (va_ne hr).trans (hf r hr)) (fun g hg => by show upd (Wc 9) i 0 g = 0; by_cases e : g = i; (· rw [e]; exact jb_uee); (· rw [jb_une e]; exact hz g (by omega)))
set_option maxRecDepth 100000 in
set_option maxHeartbeats 4000000 in
theorem mx_heard0 {sc : Nat × (Nat → Int32)} {s0 s1 s2 s3 s4 s5 s6 s7 s8 s9 s11 : List va_E} (I J d e kp nm : Nat → Int32) (W : Nat → Nat → Int32) (s : Nat) (hs : s < 4) {bs zs : Nat} (h1s : W 1 s = nI bs) (h2s : W 2 s = nI zs) (hbs : bs ≤ 32) (hzs : zs ≤ 40) (hm : ¬ bs = 0) (h2 : 2 ≤ zs) : jb_C sc yX12_heard cX12_heard 8 (Option.some .int) 3 0 0 [.ref 105, .int (nI s), .int 0] [s0, s1, s2, s3, s4, s5, s6, s7, s8, s9, jb_mdl I J d e kp nm W, s11] (fun r h9 => ∃ b9 W9, jz_B (fun g => jz_n (fun k => W 3 (40 * s + k)) zs g zs 0 0) b9 ∧ r = some (.int (nI b9)) ∧ (∀ r, ¬ r = 9 → W9 r = W r) ∧ h9 = [s0, s1, s2, s3, s4, s5, s6, s7, s8, s9, jb_mdl I J d e kp nm W9, s11]) := by
  refine jb_CofJ (ini := false) (by decide +kernel) (fun h => by cases h) (Nat.le_of_ble_eq_true rfl) ?_
  show jb_J sc RX12 cX12_heard 8 (Option.some .int) false 3 0 0 0 [some (.ref 105), some (.int (nI s)), some (.int 0), none, none, none, none, none] [] [s0, s1, s2, s3, s4, s5, s6, s7, s8, s9, jb_mdl I J d e kp nm W, s11] _
  refine jb_iload_n (pc' := 1) dX12_heard_0 rfl rfl ?_
  refine jb_i2l (pc' := 2) dX12_heard_1 rfl ?_
  refine jb_lconst (pc' := 3) 0 dX12_heard_2 (by decide) rfl ?_
  refine jb_ldc2 (pc' := 6) 2 dX12_heard_3 wk_X12_137 rfl ?_
  refine jb_callS (pc' := 9) (As := [.long ((0 : Int32).toInt64), .long 0, .long 2]) (a2 := 0) (b2 := 0) wv_X12_56 dX12_heard_6 (c_inLG _ 0 0 2 (by omega) (by omega) (by omega)) rfl ⟨by decide, Nat.le_of_eq (Nat.zero_add _), Nat.le_of_eq (Nat.zero_add _)⟩ (Nat.le_of_ble_eq_true rfl) rfl (fun r h9 hq => ?_)
  obtain ⟨rfl, rfl⟩ := hq
  show jb_J _ RX12 cX12_heard 8 (Option.some .int) false 3 0 0 9 [some (.ref 105), some (.int (nI s)), some (.int 0), none, none, none, none, none] [.int 1] [s0, s1, s2, s3, s4, s5, s6, s7, s8, s9, jb_mdl I J d e kp nm W, s11] _
  refine jb_if_ne (tgt := 16) (pc' := 12) dX12_heard_9 (by decide) rfl (fun _ => ?_) (fun z => absurd z (by decide))
  refine jb_aload_n (pc' := 17) dX12_heard_16 rfl rfl ?_
  refine jb_iload_n (pc' := 18) dX12_heard_17 rfl rfl ?_
  refine jb_callV (pc' := 21) (ci := 12) (q := 105) (As := [.int (nI s)]) (a2 := 0) (b2 := 0) wv_X12_236 rfl dX12_heard_18 (c_whyNot I J d e kp nm W s hs h1s h2s hbs hzs) rfl rfl ⟨by decide, Nat.le_of_eq (Nat.zero_add _), Nat.le_of_eq (Nat.zero_add _)⟩ (Nat.le_of_ble_eq_true rfl) rfl (fun r h9 hq => ?_)
  rcases hq with ⟨rfl, ⟨hms, rfl⟩ | ⟨hms, rfl⟩⟩
  · exact absurd hms hm
  · show jb_J _ RX12 cX12_heard 8 (Option.some .int) false 3 0 0 21 [some (.ref 105), some (.int (nI s)), some (.int 0), none, none, none, none, none] [.int 0] [s0, s1, s2, s3, s4, s5, s6, s7, s8, s9, jb_mdl I J d e kp nm W, s11] _
    refine jb_istore_n_ (pc' := 22) dX12_heard_21 (by decide) (jb_at3 rfl) rfl ?_
    refine jb_iload_n (pc' := 23) dX12_heard_22 rfl rfl ?_
    refine jb_if_ne (tgt := 38) (pc' := 26) dX12_heard_23 (by decide) rfl (fun z => absurd (by decide) z) (fun _ => ?_)
    refine jb_aload_n (pc' := 27) dX12_heard_26 rfl rfl ?_
    refine gf_X12_28 (pc' := 30) (v := .ref 112) dX12_heard_27 rfl rfl rfl ?_
    refine jb_iload_n (pc' := 31) dX12_heard_30 rfl rfl ?_
    refine jb_iaload (pc' := 32) (i9 := s) (f := (W 2)) dX12_heard_31 rfl (jb_ix_nI (by omega)) (by omega) rfl ?_
    refine jb_top (v := .int ((W 2) s)) (w := .int (nI zs)) (jb_vI h2s) ?_
    refine jb_iconst (pc' := 33) 2 dX12_heard_32 (by decide) rfl ?_
    refine jb_icmp_ge (tgt := 38) (pc' := 36) dX12_heard_33 (by decide) rfl (fun _ => ?_) (fun z => absurd (nI_le (a := 2) (b := zs) (by omega) (by omega)) z)
    refine jb_iload_n (pc' := 39) dX12_heard_38 rfl rfl ?_
    refine jb_if_eq (tgt := 48) (pc' := 42) dX12_heard_39 (by decide) rfl (fun _ => ?_) (fun z => absurd (by decide) z)
    refine jb_iconst (pc' := 49) 0 dX12_heard_48 (by decide) rfl ?_
    refine jb_istore_ (pc' := 51) dX12_heard_49 (by decide) (jb_at4 rfl) rfl ?_
    exact l_he1_0 I J d e kp nm W s hs zs h2s hzs 41 0 W (by omega) (fun _ _ => rfl) (fun g hg => absurd hg (by omega))
set_option maxRecDepth 100000 in
set_option maxHeartbeats 4000000 in
theorem l_he4_1 {sc : Nat × (Nat → Int32)} {s0 s1 s2 s3 s4 s5 s6 s7 s8 s9 s11 : List va_E} (I J d e kp nm : Nat → Int32) (W : Nat → Nat → Int32) (s : Nat) (hs : s < 4) (zs : Nat) (h2s : W 2 s = nI zs) (hzs : zs ≤ 40) (Wc : Nat → Nat → Int32) (hf : (∀ r, ¬ r = 9 → Wc r = W r)) (hdf : (∀ g, g ≤ 40 → Wc 9 g = nI ((fun g => jz_n (fun k => W 3 (40 * s + k)) zs g zs 0 0) g))) (b9 : Nat) (hB : jz_B (fun g => jz_n (fun k => W 3 (40 * s + k)) zs g zs 0 0) b9) : ∀ (n i k : Nat), zs ≤ i + 2 * n → i ≤ zs + 2 → k ≤ i → jz_f (fun k => W 3 (40 * s + k)) zs b9 zs 0 0 = jz_f (fun k => W 3 (40 * s + k)) zs b9 n i k → jb_J sc RX12 cX12_heard 8 (Option.some .int) false 3 0 0 216 [some (.ref 105), some (.int (nI s)), some (.int 1), some (.int 0), some (.int (nI (40 * s))), some (.int (nI b9)), some (.int (nI k)), some (.int (nI i))] [] [s0, s1, s2, s3, s4, s5, s6, s7, s8, s9, jb_mdl I J d e kp nm Wc, s11] (fun r h9 => ∃ b9 W9, jz_B (fun g => jz_n (fun k => W 3 (40 * s + k)) zs g zs 0 0) b9 ∧ r = some (.int (nI (jz_n (fun k => W 3 (40 * s + k)) zs b9 zs 0 0))) ∧ (∀ r, ¬ r = 9 → W9 r = W r) ∧ h9 = [s0, s1, s2, s3, s4, s5, s6, s7, s8, s9, jb_mdl I J d e kp nm W9, s11]) := by
  have hb40 := hB.1
  intro n
  induction n with
  | zero =>
    intro i k hi hi2 hk he
    show jb_J _ RX12 cX12_heard 8 (Option.some .int) false 3 0 0 216 [some (.ref 105), some (.int (nI s)), some (.int 1), some (.int 0), some (.int (nI (40 * s))), some (.int (nI b9)), some (.int (nI k)), some (.int (nI i))] [] [s0, s1, s2, s3, s4, s5, s6, s7, s8, s9, jb_mdl I J d e kp nm Wc, s11] _
    refine jb_iload (pc' := 218) dX12_heard_216 rfl rfl ?_
    refine jb_iconst (pc' := 219) 1 dX12_heard_218 (by decide) rfl ?_
    refine jb_iadd (pc' := 220) dX12_heard_219 rfl ?_
    refine jb_top (v := .int ((nI i) + 1)) (w := .int (nI (i + 1))) (jb_vI (nI_add _ 1)) ?_
    refine jb_aload_n (pc' := 221) dX12_heard_220 rfl rfl ?_
    refine gf_X12_28 (pc' := 224) (v := .ref 112) dX12_heard_221 rfl rfl rfl ?_
    refine jb_iload_n (pc' := 225) dX12_heard_224 rfl rfl ?_
    refine jb_iaload (pc' := 226) (i9 := s) (f := (Wc 2)) dX12_heard_225 rfl (jb_ix_nI (by omega)) (by omega) rfl ?_
    refine jb_top (v := .int ((Wc 2) s)) (w := .int (nI zs)) (jb_vI (by rw [hf 2 (by decide)]; exact h2s)) ?_
    refine jb_icmp_ge (tgt := 282) (pc' := 229) dX12_heard_226 (by decide) rfl (fun _ => ?_) (fun z => absurd (nI_le (a := zs) (b := i + 1) (by omega) (by omega)) z)
    refine jb_iload_n (pc' := 283) dX12_heard_282 rfl rfl ?_
    refine jb_if_ne (tgt := 291) (pc' := 286) dX12_heard_283 (by decide) rfl (fun _ => ?_) (fun z => absurd z (by decide))
    refine jb_iload_n (pc' := 292) dX12_heard_291 rfl rfl ?_
    refine jb_iconst (pc' := 293) 1 dX12_heard_292 (by decide) rfl ?_
    refine jb_icmp_ne (tgt := 306) (pc' := 296) dX12_heard_293 (by decide) rfl (fun z => absurd (by decide) z) (fun _ => ?_)
    refine jb_aload_n (pc' := 297) dX12_heard_296 rfl rfl ?_
    refine gf_X12_49 (pc' := 300) (v := .ref 119) dX12_heard_297 rfl rfl rfl ?_
    refine jb_iload (pc' := 302) dX12_heard_300 rfl rfl ?_
    refine jb_iaload (pc' := 303) (i9 := b9) (f := (Wc 9)) dX12_heard_302 rfl (jb_ix_nI (by omega)) (by omega) rfl ?_
    refine jb_top (v := .int ((Wc 9) b9)) (w := .int (nI (jz_n (fun k => W 3 (40 * s + k)) zs b9 zs 0 0))) (jb_vI (hdf b9 hb40)) ?_
    refine jb_goto (pc' := 308) dX12_heard_303 (by decide) ?_
    refine jb_iret dX12_heard_308 rfl ?_
    exact ⟨b9, Wc, hB, rfl, hf, rfl⟩
  | succ n ih =>
    intro i k hi hi2 hk he
    by_cases hi1 : i + 1 < zs
    · have eG : jz_f (fun k => W 3 (40 * s + k)) zs b9 (n + 1) i k = jz_f (fun k => W 3 (40 * s + k)) zs b9 n (i + 2) (if (W 3 (40 * s + (i + 1))).toInt - (W 3 (40 * s + i)).toInt = (b9 : Int) ∧ 0 < b9 then k + 1 else k) := if_pos hi1
      by_cases hv : (W 3 (40 * s + (i + 1))).toInt - (W 3 (40 * s + i)).toInt = (b9 : Int) ∧ 0 < b9
      · rw [if_pos hv] at eG
        show jb_J _ RX12 cX12_heard 8 (Option.some .int) false 3 0 0 216 [some (.ref 105), some (.int (nI s)), some (.int 1), some (.int 0), some (.int (nI (40 * s))), some (.int (nI b9)), some (.int (nI k)), some (.int (nI i))] [] [s0, s1, s2, s3, s4, s5, s6, s7, s8, s9, jb_mdl I J d e kp nm Wc, s11] _
        refine jb_iload (pc' := 218) dX12_heard_216 rfl rfl ?_
        refine jb_iconst (pc' := 219) 1 dX12_heard_218 (by decide) rfl ?_
        refine jb_iadd (pc' := 220) dX12_heard_219 rfl ?_
        refine jb_top (v := .int ((nI i) + 1)) (w := .int (nI (i + 1))) (jb_vI (nI_add _ 1)) ?_
        refine jb_aload_n (pc' := 221) dX12_heard_220 rfl rfl ?_
        refine gf_X12_28 (pc' := 224) (v := .ref 112) dX12_heard_221 rfl rfl rfl ?_
        refine jb_iload_n (pc' := 225) dX12_heard_224 rfl rfl ?_
        refine jb_iaload (pc' := 226) (i9 := s) (f := (Wc 2)) dX12_heard_225 rfl (jb_ix_nI (by omega)) (by omega) rfl ?_
        refine jb_top (v := .int ((Wc 2) s)) (w := .int (nI zs)) (jb_vI (by rw [hf 2 (by decide)]; exact h2s)) ?_
        refine jb_icmp_ge (tgt := 282) (pc' := 229) dX12_heard_226 (by decide) rfl (fun z => absurd z (nI_ge (a := i + 1) (b := zs) (by omega) (by omega))) (fun _ => ?_)
        refine jb_iload (pc' := 231) dX12_heard_229 rfl rfl ?_
        refine jb_aload_n (pc' := 232) dX12_heard_231 rfl rfl ?_
        refine gf_X12_31 (pc' := 235) (v := .ref 113) dX12_heard_232 rfl rfl rfl ?_
        refine jb_iload (pc' := 237) dX12_heard_235 rfl rfl ?_
        refine jb_iload (pc' := 239) dX12_heard_237 rfl rfl ?_
        refine jb_iadd (pc' := 240) dX12_heard_239 rfl ?_
        refine jb_top (v := .int ((nI (40 * s)) + (nI i))) (w := .int (nI (40 * s + i))) (jb_vI (nI_add _ _)) ?_
        refine jb_iconst (pc' := 241) 1 dX12_heard_240 (by decide) rfl ?_
        refine jb_iadd (pc' := 242) dX12_heard_241 rfl ?_
        refine jb_top (v := .int ((nI (40 * s + i)) + 1)) (w := .int (nI (40 * s + i + 1))) (jb_vI (nI_add _ 1)) ?_
        refine jb_iaload (pc' := 243) (i9 := (40 * s + i + 1)) (f := (Wc 3)) dX12_heard_242 rfl (jb_ix_nI (by omega)) (by omega) rfl ?_
        refine jb_top (v := .int ((Wc 3) (40 * s + i + 1))) (w := .int (W 3 (40 * s + (i + 1)))) (jb_vI (congrFun (hf 3 (by decide)) _)) ?_
        refine jb_i2l (pc' := 244) dX12_heard_243 rfl ?_
        refine jb_aload_n (pc' := 245) dX12_heard_244 rfl rfl ?_
        refine gf_X12_31 (pc' := 248) (v := .ref 113) dX12_heard_245 rfl rfl rfl ?_
        refine jb_iload (pc' := 250) dX12_heard_248 rfl rfl ?_
        refine jb_iload (pc' := 252) dX12_heard_250 rfl rfl ?_
        refine jb_iadd (pc' := 253) dX12_heard_252 rfl ?_
        refine jb_top (v := .int ((nI (40 * s)) + (nI i))) (w := .int (nI (40 * s + i))) (jb_vI (nI_add _ _)) ?_
        refine jb_iaload (pc' := 254) (i9 := (40 * s + i)) (f := (Wc 3)) dX12_heard_253 rfl (jb_ix_nI (by omega)) (by omega) rfl ?_
        refine jb_top (v := .int ((Wc 3) (40 * s + i))) (w := .int (W 3 (40 * s + i))) (jb_vI (congrFun (hf 3 (by decide)) _)) ?_
        refine jb_i2l (pc' := 255) dX12_heard_254 rfl ?_
        refine jb_lsub (pc' := 256) dX12_heard_255 rfl ?_
        refine jb_iload (pc' := 258) dX12_heard_256 rfl rfl ?_
        refine jb_i2l (pc' := 259) dX12_heard_258 rfl ?_
        refine jb_lcmp (pc' := 260) dX12_heard_259 rfl ?_
        refine jb_if_ne (tgt := 272) (pc' := 263) dX12_heard_260 (by decide) rfl (fun z => absurd (jl_eq.mpr ((jz_lt _ _ hb40).mpr hv.1)) z) (fun _ => ?_)
        refine jb_iload (pc' := 265) dX12_heard_263 rfl rfl ?_
        refine jb_if_le (tgt := 272) (pc' := 268) dX12_heard_265 (by decide) rfl (fun z => absurd z (nI_nle (n := b9) hv.2 (by omega))) (fun _ => ?_)
        refine jb_iconst (pc' := 269) 1 dX12_heard_268 (by decide) rfl ?_
        refine jb_goto (pc' := 273) dX12_heard_269 (by decide) ?_
        refine jb_iadd (pc' := 274) dX12_heard_273 rfl ?_
        refine jb_top (v := .int ((nI k) + 1)) (w := .int (nI (k + 1))) (jb_vI (nI_add _ 1)) ?_
        refine jb_istore_ (pc' := 276) dX12_heard_274 (by decide) (jb_at6 rfl) rfl ?_
        refine jb_iinc_ (pc' := 279) (nI (i + 2)) dX12_heard_276 (by decide) rfl (jb_inc i 2) (jb_at7 rfl) rfl ?_
        refine jb_goto (pc' := 216) dX12_heard_279 (by decide) ?_
        exact ih (i + 2) (k + 1) (by omega) (by omega) (by omega) (he.trans eG)
      · rw [if_neg hv] at eG
        show jb_J _ RX12 cX12_heard 8 (Option.some .int) false 3 0 0 216 [some (.ref 105), some (.int (nI s)), some (.int 1), some (.int 0), some (.int (nI (40 * s))), some (.int (nI b9)), some (.int (nI k)), some (.int (nI i))] [] [s0, s1, s2, s3, s4, s5, s6, s7, s8, s9, jb_mdl I J d e kp nm Wc, s11] _
        refine jb_iload (pc' := 218) dX12_heard_216 rfl rfl ?_
        refine jb_iconst (pc' := 219) 1 dX12_heard_218 (by decide) rfl ?_
        refine jb_iadd (pc' := 220) dX12_heard_219 rfl ?_
        refine jb_top (v := .int ((nI i) + 1)) (w := .int (nI (i + 1))) (jb_vI (nI_add _ 1)) ?_
        refine jb_aload_n (pc' := 221) dX12_heard_220 rfl rfl ?_
        refine gf_X12_28 (pc' := 224) (v := .ref 112) dX12_heard_221 rfl rfl rfl ?_
        refine jb_iload_n (pc' := 225) dX12_heard_224 rfl rfl ?_
        refine jb_iaload (pc' := 226) (i9 := s) (f := (Wc 2)) dX12_heard_225 rfl (jb_ix_nI (by omega)) (by omega) rfl ?_
        refine jb_top (v := .int ((Wc 2) s)) (w := .int (nI zs)) (jb_vI (by rw [hf 2 (by decide)]; exact h2s)) ?_
        refine jb_icmp_ge (tgt := 282) (pc' := 229) dX12_heard_226 (by decide) rfl (fun z => absurd z (nI_ge (a := i + 1) (b := zs) (by omega) (by omega))) (fun _ => ?_)
        refine jb_iload (pc' := 231) dX12_heard_229 rfl rfl ?_
        refine jb_aload_n (pc' := 232) dX12_heard_231 rfl rfl ?_
        refine gf_X12_31 (pc' := 235) (v := .ref 113) dX12_heard_232 rfl rfl rfl ?_
        refine jb_iload (pc' := 237) dX12_heard_235 rfl rfl ?_
        refine jb_iload (pc' := 239) dX12_heard_237 rfl rfl ?_
        refine jb_iadd (pc' := 240) dX12_heard_239 rfl ?_
        refine jb_top (v := .int ((nI (40 * s)) + (nI i))) (w := .int (nI (40 * s + i))) (jb_vI (nI_add _ _)) ?_
        refine jb_iconst (pc' := 241) 1 dX12_heard_240 (by decide) rfl ?_
        refine jb_iadd (pc' := 242) dX12_heard_241 rfl ?_
        refine jb_top (v := .int ((nI (40 * s + i)) + 1)) (w := .int (nI (40 * s + i + 1))) (jb_vI (nI_add _ 1)) ?_
        refine jb_iaload (pc' := 243) (i9 := (40 * s + i + 1)) (f := (Wc 3)) dX12_heard_242 rfl (jb_ix_nI (by omega)) (by omega) rfl ?_
        refine jb_top (v := .int ((Wc 3) (40 * s + i + 1))) (w := .int (W 3 (40 * s + (i + 1)))) (jb_vI (congrFun (hf 3 (by decide)) _)) ?_
        refine jb_i2l (pc' := 244) dX12_heard_243 rfl ?_
        refine jb_aload_n (pc' := 245) dX12_heard_244 rfl rfl ?_
        refine gf_X12_31 (pc' := 248) (v := .ref 113) dX12_heard_245 rfl rfl rfl ?_
        refine jb_iload (pc' := 250) dX12_heard_248 rfl rfl ?_
        refine jb_iload (pc' := 252) dX12_heard_250 rfl rfl ?_
        refine jb_iadd (pc' := 253) dX12_heard_252 rfl ?_
        refine jb_top (v := .int ((nI (40 * s)) + (nI i))) (w := .int (nI (40 * s + i))) (jb_vI (nI_add _ _)) ?_
        refine jb_iaload (pc' := 254) (i9 := (40 * s + i)) (f := (Wc 3)) dX12_heard_253 rfl (jb_ix_nI (by omega)) (by omega) rfl ?_
        refine jb_top (v := .int ((Wc 3) (40 * s + i))) (w := .int (W 3 (40 * s + i))) (jb_vI (congrFun (hf 3 (by decide)) _)) ?_
        refine jb_i2l (pc' := 255) dX12_heard_254 rfl ?_
        refine jb_lsub (pc' := 256) dX12_heard_255 rfl ?_
        refine jb_iload (pc' := 258) dX12_heard_256 rfl rfl ?_
        refine jb_i2l (pc' := 259) dX12_heard_258 rfl ?_
        refine jb_lcmp (pc' := 260) dX12_heard_259 rfl ?_
        refine jb_if_ne (tgt := 272) (pc' := 263) dX12_heard_260 (by decide) rfl (fun q260 => ?_) (fun q260 => ?_)
        · refine jb_iconst (pc' := 273) 0 dX12_heard_272 (by decide) rfl ?_
          refine jb_iadd (pc' := 274) dX12_heard_273 rfl ?_
          refine jb_top (v := .int ((nI k) + 0)) (w := .int (nI (k + 0))) (jb_vI (nI_add _ 0)) ?_
          refine jb_istore_ (pc' := 276) dX12_heard_274 (by decide) (jb_at6 rfl) rfl ?_
          refine jb_iinc_ (pc' := 279) (nI (i + 2)) dX12_heard_276 (by decide) rfl (jb_inc i 2) (jb_at7 rfl) rfl ?_
          refine jb_goto (pc' := 216) dX12_heard_279 (by decide) ?_
          exact ih (i + 2) (k + 0) (by omega) (by omega) (by omega) (he.trans eG)
        · refine jb_iload (pc' := 265) dX12_heard_263 rfl rfl ?_
          refine jb_if_le (tgt := 272) (pc' := 268) dX12_heard_265 (by decide) rfl (fun _ => ?_) (fun z => absurd (by rw [show b9 = 0 by have z2 := (jz_lt _ _ hb40).mp (jl_eq.mp q260); omega]; decide) z)
          refine jb_iconst (pc' := 273) 0 dX12_heard_272 (by decide) rfl ?_
          refine jb_iadd (pc' := 274) dX12_heard_273 rfl ?_
          refine jb_top (v := .int ((nI k) + 0)) (w := .int (nI (k + 0))) (jb_vI (nI_add _ 0)) ?_
          refine jb_istore_ (pc' := 276) dX12_heard_274 (by decide) (jb_at6 rfl) rfl ?_
          refine jb_iinc_ (pc' := 279) (nI (i + 2)) dX12_heard_276 (by decide) rfl (jb_inc i 2) (jb_at7 rfl) rfl ?_
          refine jb_goto (pc' := 216) dX12_heard_279 (by decide) ?_
          exact ih (i + 2) (k + 0) (by omega) (by omega) (by omega) (he.trans eG)
    · have eG : jz_f (fun k => W 3 (40 * s + k)) zs b9 (n + 1) i k = k := if_neg hi1
      have he := he.trans eG
      show jb_J _ RX12 cX12_heard 8 (Option.some .int) false 3 0 0 216 [some (.ref 105), some (.int (nI s)), some (.int 1), some (.int 0), some (.int (nI (40 * s))), some (.int (nI b9)), some (.int (nI k)), some (.int (nI i))] [] [s0, s1, s2, s3, s4, s5, s6, s7, s8, s9, jb_mdl I J d e kp nm Wc, s11] _
      refine jb_iload (pc' := 218) dX12_heard_216 rfl rfl ?_
      refine jb_iconst (pc' := 219) 1 dX12_heard_218 (by decide) rfl ?_
      refine jb_iadd (pc' := 220) dX12_heard_219 rfl ?_
      refine jb_top (v := .int ((nI i) + 1)) (w := .int (nI (i + 1))) (jb_vI (nI_add _ 1)) ?_
      refine jb_aload_n (pc' := 221) dX12_heard_220 rfl rfl ?_
      refine gf_X12_28 (pc' := 224) (v := .ref 112) dX12_heard_221 rfl rfl rfl ?_
      refine jb_iload_n (pc' := 225) dX12_heard_224 rfl rfl ?_
      refine jb_iaload (pc' := 226) (i9 := s) (f := (Wc 2)) dX12_heard_225 rfl (jb_ix_nI (by omega)) (by omega) rfl ?_
      refine jb_top (v := .int ((Wc 2) s)) (w := .int (nI zs)) (jb_vI (by rw [hf 2 (by decide)]; exact h2s)) ?_
      refine jb_icmp_ge (tgt := 282) (pc' := 229) dX12_heard_226 (by decide) rfl (fun _ => ?_) (fun z => absurd (nI_le (a := zs) (b := i + 1) (by omega) (by omega)) z)
      refine jb_iload_n (pc' := 283) dX12_heard_282 rfl rfl ?_
      refine jb_if_ne (tgt := 291) (pc' := 286) dX12_heard_283 (by decide) rfl (fun _ => ?_) (fun z => absurd z (by decide))
      refine jb_iload_n (pc' := 292) dX12_heard_291 rfl rfl ?_
      refine jb_iconst (pc' := 293) 1 dX12_heard_292 (by decide) rfl ?_
      refine jb_icmp_ne (tgt := 306) (pc' := 296) dX12_heard_293 (by decide) rfl (fun z => absurd (by decide) z) (fun _ => ?_)
      refine jb_aload_n (pc' := 297) dX12_heard_296 rfl rfl ?_
      refine gf_X12_49 (pc' := 300) (v := .ref 119) dX12_heard_297 rfl rfl rfl ?_
      refine jb_iload (pc' := 302) dX12_heard_300 rfl rfl ?_
      refine jb_iaload (pc' := 303) (i9 := b9) (f := (Wc 9)) dX12_heard_302 rfl (jb_ix_nI (by omega)) (by omega) rfl ?_
      refine jb_top (v := .int ((Wc 9) b9)) (w := .int (nI (jz_n (fun k => W 3 (40 * s + k)) zs b9 zs 0 0))) (jb_vI (hdf b9 hb40)) ?_
      refine jb_goto (pc' := 308) dX12_heard_303 (by decide) ?_
      refine jb_iret dX12_heard_308 rfl ?_
      exact ⟨b9, Wc, hB, rfl, hf, rfl⟩
set_option maxRecDepth 100000 in
set_option maxHeartbeats 4000000 in
theorem l_he3_1 {sc : Nat × (Nat → Int32)} {s0 s1 s2 s3 s4 s5 s6 s7 s8 s9 s11 : List va_E} (I J d e kp nm : Nat → Int32) (W : Nat → Nat → Int32) (s : Nat) (hs : s < 4) (zs : Nat) (h2s : W 2 s = nI zs) (hzs : zs ≤ 40) (Wc : Nat → Nat → Int32) (hf : (∀ r, ¬ r = 9 → Wc r = W r)) (hdf : (∀ g, g ≤ 40 → Wc 9 g = nI ((fun g => jz_n (fun k => W 3 (40 * s + k)) zs g zs 0 0) g))) : ∀ (n g b : Nat) (x7 : Option Value), g + n = 41 → b < g → (∀ h, h < g → (fun g => jz_n (fun k => W 3 (40 * s + k)) zs g zs 0 0) h ≤ (fun g => jz_n (fun k => W 3 (40 * s + k)) zs g zs 0 0) b) → (∀ h, h < b → (fun g => jz_n (fun k => W 3 (40 * s + k)) zs g zs 0 0) h < (fun g => jz_n (fun k => W 3 (40 * s + k)) zs g zs 0 0) b) → jb_J sc RX12 cX12_heard 8 (Option.some .int) false 3 0 0 171 [some (.ref 105), some (.int (nI s)), some (.int 1), some (.int 0), some (.int (nI (40 * s))), some (.int (nI b)), some (.int (nI g)), x7] [] [s0, s1, s2, s3, s4, s5, s6, s7, s8, s9, jb_mdl I J d e kp nm Wc, s11] (fun r h9 => ∃ b9 W9, jz_B (fun g => jz_n (fun k => W 3 (40 * s + k)) zs g zs 0 0) b9 ∧ r = some (.int (nI (jz_n (fun k => W 3 (40 * s + k)) zs b9 zs 0 0))) ∧ (∀ r, ¬ r = 9 → W9 r = W r) ∧ h9 = [s0, s1, s2, s3, s4, s5, s6, s7, s8, s9, jb_mdl I J d e kp nm W9, s11]) := by
  intro n
  induction n with
  | zero =>
    intro g b x7 hg hb h1 h2
    show jb_J _ RX12 cX12_heard 8 (Option.some .int) false 3 0 0 171 [some (.ref 105), some (.int (nI s)), some (.int 1), some (.int 0), some (.int (nI (40 * s))), some (.int (nI b)), some (.int (nI g)), x7] [] [s0, s1, s2, s3, s4, s5, s6, s7, s8, s9, jb_mdl I J d e kp nm Wc, s11] _
    refine jb_iload (pc' := 173) dX12_heard_171 rfl rfl ?_
    refine jb_bipush (pc' := 175) 41 dX12_heard_173 (by decide) rfl ?_
    refine jb_icmp_ge (tgt := 210) (pc' := 178) dX12_heard_175 (by decide) rfl (fun _ => ?_) (fun z => absurd (nI_le (a := 41) (b := g) (by omega) (by omega)) z)
    refine jb_iconst (pc' := 211) 0 dX12_heard_210 (by decide) rfl ?_
    refine jb_istore_ (pc' := 213) dX12_heard_211 (by decide) (jb_at6 rfl) rfl ?_
    refine jb_iconst (pc' := 214) 0 dX12_heard_213 (by decide) rfl ?_
    refine jb_istore_ (pc' := 216) dX12_heard_214 (by decide) (jb_at7 rfl) rfl ?_
    exact l_he4_1 I J d e kp nm W s hs zs h2s hzs Wc hf hdf b ⟨by omega, fun h hh => h1 h (by omega), h2⟩ zs 0 0 (by omega) (by omega) (by omega) rfl
  | succ n ih =>
    intro g b x7 hg hb h1 h2
    have c1 := jz_n_le (f := (fun k => W 3 (40 * s + k))) (zs := zs) (g := g) zs 0 0
    have c2 := jz_n_le (f := (fun k => W 3 (40 * s + k))) (zs := zs) (g := b) zs 0 0
    show jb_J _ RX12 cX12_heard 8 (Option.some .int) false 3 0 0 171 [some (.ref 105), some (.int (nI s)), some (.int 1), some (.int 0), some (.int (nI (40 * s))), some (.int (nI b)), some (.int (nI g)), x7] [] [s0, s1, s2, s3, s4, s5, s6, s7, s8, s9, jb_mdl I J d e kp nm Wc, s11] _
    refine jb_iload (pc' := 173) dX12_heard_171 rfl rfl ?_
    refine jb_bipush (pc' := 175) 41 dX12_heard_173 (by decide) rfl ?_
    refine jb_icmp_ge (tgt := 210) (pc' := 178) dX12_heard_175 (by decide) rfl (fun z => absurd z (nI_ge (a := g) (b := 41) (by omega) (by omega))) (fun _ => ?_)
    refine jb_aload_n (pc' := 179) dX12_heard_178 rfl rfl ?_
    refine gf_X12_49 (pc' := 182) (v := .ref 119) dX12_heard_179 rfl rfl rfl ?_
    refine jb_iload (pc' := 184) dX12_heard_182 rfl rfl ?_
    refine jb_iaload (pc' := 185) (i9 := g) (f := (Wc 9)) dX12_heard_184 rfl (jb_ix_nI (by omega)) (by omega) rfl ?_
    refine jb_top (v := .int ((Wc 9) g)) (w := .int (nI (jz_n (fun k => W 3 (40 * s + k)) zs g zs 0 0))) (jb_vI (hdf g (by omega))) ?_
    refine jb_aload_n (pc' := 186) dX12_heard_185 rfl rfl ?_
    refine gf_X12_49 (pc' := 189) (v := .ref 119) dX12_heard_186 rfl rfl rfl ?_
    refine jb_iload (pc' := 191) dX12_heard_189 rfl rfl ?_
    refine jb_iaload (pc' := 192) (i9 := b) (f := (Wc 9)) dX12_heard_191 rfl (jb_ix_nI (by omega)) (by omega) rfl ?_
    refine jb_top (v := .int ((Wc 9) b)) (w := .int (nI (jz_n (fun k => W 3 (40 * s + k)) zs b zs 0 0))) (jb_vI (hdf b (by omega))) ?_
    refine jb_icmp_le (tgt := 200) (pc' := 195) dX12_heard_192 (by decide) rfl (fun c2 => ?_) (fun c2 => ?_)
    · have c2 : (jz_n (fun k => W 3 (40 * s + k)) zs g zs 0 0) ≤ (jz_n (fun k => W 3 (40 * s + k)) zs b zs 0 0) := (nI_leI (a := (jz_n (fun k => W 3 (40 * s + k)) zs g zs 0 0)) (b := (jz_n (fun k => W 3 (40 * s + k)) zs b zs 0 0)) (by omega) (by omega)).mp c2
      refine jb_iload (pc' := 202) dX12_heard_200 rfl rfl ?_
      refine jb_istore_ (pc' := 204) dX12_heard_202 (by decide) (jb_at5 rfl) rfl ?_
      refine jb_iinc_ (pc' := 207) (nI (g + 1)) dX12_heard_204 (by decide) rfl (jb_inc g 1) (jb_at6 rfl) rfl ?_
      refine jb_goto (pc' := 171) dX12_heard_207 (by decide) ?_
      exact ih (g + 1) b _ (by omega) (by omega) (fun h hh => by by_cases e : h = g; (· rw [e]; show jz_n (fun k => W 3 (40 * s + k)) zs g zs 0 0 ≤ jz_n (fun k => W 3 (40 * s + k)) zs b zs 0 0; omega); (· exact h1 h (by omega))) h2
    · have c2 : ¬ (jz_n (fun k => W 3 (40 * s + k)) zs g zs 0 0) ≤ (jz_n (fun k => W 3 (40 * s + k)) zs b zs 0 0) := fun z9 => c2 ((nI_leI (a := (jz_n (fun k => W 3 (40 * s + k)) zs g zs 0 0)) (b := (jz_n (fun k => W 3 (40 * s + k)) zs b zs 0 0)) (by omega) (by omega)).mpr z9)
      refine jb_iload (pc' := 197) dX12_heard_195 rfl rfl ?_
      refine jb_goto (pc' := 202) dX12_heard_197 (by decide) ?_
      refine jb_istore_ (pc' := 204) dX12_heard_202 (by decide) (jb_at5 rfl) rfl ?_
      refine jb_iinc_ (pc' := 207) (nI (g + 1)) dX12_heard_204 (by decide) rfl (jb_inc g 1) (jb_at6 rfl) rfl ?_
      refine jb_goto (pc' := 171) dX12_heard_207 (by decide) ?_
      have hlt : (fun g => jz_n (fun k => W 3 (40 * s + k)) zs g zs 0 0) b < (fun g => jz_n (fun k => W 3 (40 * s + k)) zs g zs 0 0) g := (show jz_n (fun k => W 3 (40 * s + k)) zs b zs 0 0 < jz_n (fun k => W 3 (40 * s + k)) zs g zs 0 0 by omega)
      exact ih (g + 1) g _ (by omega) (by omega) (fun h hh => by by_cases e : h = g; (· rw [e]; exact Nat.le_refl _); (· exact Nat.le_of_lt (Nat.lt_of_le_of_lt (h1 h (by omega)) hlt))) (fun h hh => Nat.lt_of_le_of_lt (h1 h hh) hlt)
set_option maxRecDepth 100000 in
set_option maxHeartbeats 4000000 in
theorem l_he2_1 {sc : Nat × (Nat → Int32)} {s0 s1 s2 s3 s4 s5 s6 s7 s8 s9 s11 : List va_E} (I J d e kp nm : Nat → Int32) (W : Nat → Nat → Int32) (s : Nat) (hs : s < 4) (zs : Nat) (h2s : W 2 s = nI zs) (hzs : zs ≤ 40) : ∀ (n i : Nat) (Wc : Nat → Nat → Int32) (x6 x7 : Option Value), zs ≤ i + 2 * n → i ≤ zs + 2 → (∀ r, ¬ r = 9 → Wc r = W r) → (∀ g, g ≤ 40 → ∃ k, Wc 9 g = nI k ∧ jz_n (fun k => W 3 (40 * s + k)) zs g zs 0 0 = jz_n (fun k => W 3 (40 * s + k)) zs g n i k) → jb_J sc RX12 cX12_heard 8 (Option.some .int) false 3 0 0 81 [some (.ref 105), some (.int (nI s)), some (.int 1), some (.int 0), some (.int (nI (40 * s))), some (.int (nI i)), x6, x7] [] [s0, s1, s2, s3, s4, s5, s6, s7, s8, s9, jb_mdl I J d e kp nm Wc, s11] (fun r h9 => ∃ b9 W9, jz_B (fun g => jz_n (fun k => W 3 (40 * s + k)) zs g zs 0 0) b9 ∧ r = some (.int (nI (jz_n (fun k => W 3 (40 * s + k)) zs b9 zs 0 0))) ∧ (∀ r, ¬ r = 9 → W9 r = W r) ∧ h9 = [s0, s1, s2, s3, s4, s5, s6, s7, s8, s9, jb_mdl I J d e kp nm W9, s11]) := by
  intro n
  induction n with
  | zero =>
    intro i Wc x6 x7 hi hi2 hf hc
    show jb_J _ RX12 cX12_heard 8 (Option.some .int) false 3 0 0 81 [some (.ref 105), some (.int (nI s)), some (.int 1), some (.int 0), some (.int (nI (40 * s))), some (.int (nI i)), x6, x7] [] [s0, s1, s2, s3, s4, s5, s6, s7, s8, s9, jb_mdl I J d e kp nm Wc, s11] _
    refine jb_iload (pc' := 83) dX12_heard_81 rfl rfl ?_
    refine jb_iconst (pc' := 84) 1 dX12_heard_83 (by decide) rfl ?_
    refine jb_iadd (pc' := 85) dX12_heard_84 rfl ?_
    refine jb_top (v := .int ((nI i) + 1)) (w := .int (nI (i + 1))) (jb_vI (nI_add _ 1)) ?_
    refine jb_aload_n (pc' := 86) dX12_heard_85 rfl rfl ?_
    refine gf_X12_28 (pc' := 89) (v := .ref 112) dX12_heard_86 rfl rfl rfl ?_
    refine jb_iload_n (pc' := 90) dX12_heard_89 rfl rfl ?_
    refine jb_iaload (pc' := 91) (i9 := s) (f := (Wc 2)) dX12_heard_90 rfl (jb_ix_nI (by omega)) (by omega) rfl ?_
    refine jb_top (v := .int ((Wc 2) s)) (w := .int (nI zs)) (jb_vI (by rw [hf 2 (by decide)]; exact h2s)) ?_
    refine jb_icmp_ge (tgt := 165) (pc' := 94) dX12_heard_91 (by decide) rfl (fun _ => ?_) (fun z => absurd (nI_le (a := zs) (b := i + 1) (by omega) (by omega)) z)
    refine jb_iconst (pc' := 166) 0 dX12_heard_165 (by decide) rfl ?_
    refine jb_istore_ (pc' := 168) dX12_heard_166 (by decide) (jb_at5 rfl) rfl ?_
    refine jb_iconst (pc' := 169) 1 dX12_heard_168 (by decide) rfl ?_
    refine jb_istore_ (pc' := 171) dX12_heard_169 (by decide) (jb_at6 rfl) rfl ?_
    exact l_he3_1 I J d e kp nm W s hs zs h2s hzs Wc hf (fun g hg => by obtain ⟨k, h1, h2⟩ := hc g hg; rw [h1]; exact congrArg nI (h2.symm)) 40 1 0 _ (by omega) (by omega) (fun h hh => by rw [show h = 0 by omega]; exact Nat.le_refl _) (fun h hh => absurd hh (by omega))
  | succ n ih =>
    intro i Wc x6 x7 hi hi2 hf hc
    by_cases hi1 : i + 1 < zs
    · have eG : ∀ g k, jz_n (fun k => W 3 (40 * s + k)) zs g (n + 1) i k = jz_n (fun k => W 3 (40 * s + k)) zs g n (i + 2) (if jz_d (fun k => W 3 (40 * s + k)) i = g then k + 1 else k) := fun g k => if_pos hi1
      obtain ⟨m, hm⟩ : ∃ m, ((W 3 (40 * s + i)).toInt - (W 3 (40 * s + (i + 1))).toInt).natAbs = m := ⟨_, rfl⟩
      have hd9 : jz_d (fun k => W 3 (40 * s + k)) i = m := hm
      have r1 := jl_rng (W 3 (40 * s + i))
      have r2 := jl_rng (W 3 (40 * s + (i + 1)))
      have hm62 : m < 2 ^ 62 := by omega
      by_cases hneg : (W 3 (40 * s + i)).toInt < (W 3 (40 * s + (i + 1))).toInt
      · by_cases h41 : m < 41
        · show jb_J _ RX12 cX12_heard 8 (Option.some .int) false 3 0 0 81 [some (.ref 105), some (.int (nI s)), some (.int 1), some (.int 0), some (.int (nI (40 * s))), some (.int (nI i)), x6, x7] [] [s0, s1, s2, s3, s4, s5, s6, s7, s8, s9, jb_mdl I J d e kp nm Wc, s11] _
          refine jb_iload (pc' := 83) dX12_heard_81 rfl rfl ?_
          refine jb_iconst (pc' := 84) 1 dX12_heard_83 (by decide) rfl ?_
          refine jb_iadd (pc' := 85) dX12_heard_84 rfl ?_
          refine jb_top (v := .int ((nI i) + 1)) (w := .int (nI (i + 1))) (jb_vI (nI_add _ 1)) ?_
          refine jb_aload_n (pc' := 86) dX12_heard_85 rfl rfl ?_
          refine gf_X12_28 (pc' := 89) (v := .ref 112) dX12_heard_86 rfl rfl rfl ?_
          refine jb_iload_n (pc' := 90) dX12_heard_89 rfl rfl ?_
          refine jb_iaload (pc' := 91) (i9 := s) (f := (Wc 2)) dX12_heard_90 rfl (jb_ix_nI (by omega)) (by omega) rfl ?_
          refine jb_top (v := .int ((Wc 2) s)) (w := .int (nI zs)) (jb_vI (by rw [hf 2 (by decide)]; exact h2s)) ?_
          refine jb_icmp_ge (tgt := 165) (pc' := 94) dX12_heard_91 (by decide) rfl (fun z => absurd z (nI_ge (a := i + 1) (b := zs) (by omega) (by omega))) (fun _ => ?_)
          refine jb_aload_n (pc' := 95) dX12_heard_94 rfl rfl ?_
          refine gf_X12_31 (pc' := 98) (v := .ref 113) dX12_heard_95 rfl rfl rfl ?_
          refine jb_iload (pc' := 100) dX12_heard_98 rfl rfl ?_
          refine jb_iload (pc' := 102) dX12_heard_100 rfl rfl ?_
          refine jb_iadd (pc' := 103) dX12_heard_102 rfl ?_
          refine jb_top (v := .int ((nI (40 * s)) + (nI i))) (w := .int (nI (40 * s + i))) (jb_vI (nI_add _ _)) ?_
          refine jb_iaload (pc' := 104) (i9 := (40 * s + i)) (f := (Wc 3)) dX12_heard_103 rfl (jb_ix_nI (by omega)) (by omega) rfl ?_
          refine jb_top (v := .int ((Wc 3) (40 * s + i))) (w := .int (W 3 (40 * s + i))) (jb_vI (congrFun (hf 3 (by decide)) _)) ?_
          refine jb_i2l (pc' := 105) dX12_heard_104 rfl ?_
          refine jb_aload_n (pc' := 106) dX12_heard_105 rfl rfl ?_
          refine gf_X12_31 (pc' := 109) (v := .ref 113) dX12_heard_106 rfl rfl rfl ?_
          refine jb_iload (pc' := 111) dX12_heard_109 rfl rfl ?_
          refine jb_iload (pc' := 113) dX12_heard_111 rfl rfl ?_
          refine jb_iadd (pc' := 114) dX12_heard_113 rfl ?_
          refine jb_top (v := .int ((nI (40 * s)) + (nI i))) (w := .int (nI (40 * s + i))) (jb_vI (nI_add _ _)) ?_
          refine jb_iconst (pc' := 115) 1 dX12_heard_114 (by decide) rfl ?_
          refine jb_iadd (pc' := 116) dX12_heard_115 rfl ?_
          refine jb_top (v := .int ((nI (40 * s + i)) + 1)) (w := .int (nI (40 * s + i + 1))) (jb_vI (nI_add _ 1)) ?_
          refine jb_iaload (pc' := 117) (i9 := (40 * s + i + 1)) (f := (Wc 3)) dX12_heard_116 rfl (jb_ix_nI (by omega)) (by omega) rfl ?_
          refine jb_top (v := .int ((Wc 3) (40 * s + i + 1))) (w := .int (W 3 (40 * s + (i + 1)))) (jb_vI (congrFun (hf 3 (by decide)) _)) ?_
          refine jb_i2l (pc' := 118) dX12_heard_117 rfl ?_
          refine jb_lsub (pc' := 119) dX12_heard_118 rfl ?_
          refine jb_lstore_ (pc' := 121) dX12_heard_119 (by decide) (jb_lt6 rfl) rfl ?_
          refine jb_lload (pc' := 123) dX12_heard_121 rfl rfl ?_
          refine jb_lconst (pc' := 124) 0 dX12_heard_123 (by decide) rfl ?_
          refine jb_lcmp (pc' := 125) dX12_heard_124 rfl ?_
          refine jb_if_ge (tgt := 134) (pc' := 128) dX12_heard_125 (by decide) rfl (fun z => absurd z (Int32.not_le.mpr (jl_lt.mpr (jz_neg0.mpr hneg)))) (fun _ => ?_)
          refine jb_lload (pc' := 130) dX12_heard_128 rfl rfl ?_
          refine jb_lneg (pc' := 131) dX12_heard_130 rfl ?_
          refine jb_top (v := .long (-(((W 3 (40 * s + i)).toInt64) - ((W 3 (40 * s + (i + 1))).toInt64)))) (w := .long (lN m)) (jb_vL (by rw [jz_lNn hneg, hm])) ?_
          refine jb_goto (pc' := 136) dX12_heard_131 (by decide) ?_
          refine jb_lstore_ (pc' := 138) dX12_heard_136 (by decide) (jb_lt6 rfl) rfl ?_
          refine jb_lload (pc' := 140) dX12_heard_138 rfl rfl ?_
          refine jb_ldc2 (pc' := 143) 41 dX12_heard_140 wk_X12_250 rfl ?_
          refine jb_lcmp (pc' := 144) dX12_heard_143 rfl ?_
          refine jb_if_ge (tgt := 159) (pc' := 147) dX12_heard_144 (by decide) rfl (fun z => absurd z (Int32.not_le.mpr (jl_lt.mpr ((jz_41 m hm62).mpr h41)))) (fun _ => ?_)
          refine jb_aload_n (pc' := 148) dX12_heard_147 rfl rfl ?_
          refine gf_X12_49 (pc' := 151) (v := .ref 119) dX12_heard_148 rfl rfl rfl ?_
          refine jb_lload (pc' := 153) dX12_heard_151 rfl rfl ?_
          refine jb_l2i (pc' := 154) dX12_heard_153 rfl ?_
          refine jb_top (v := .int ((lN m).toInt32)) (w := .int (nI m)) (jb_vI (jz_i h41)) ?_
          refine jb_dup2 (pc' := 155) dX12_heard_154 rfl rfl rfl ?_
          refine jb_iaload (pc' := 156) (i9 := m) (f := (Wc 9)) dX12_heard_155 rfl (jb_ix_nI (by omega)) (by omega) rfl ?_
          refine jb_iconst (pc' := 157) 1 dX12_heard_156 (by decide) rfl ?_
          refine jb_iadd (pc' := 158) dX12_heard_157 rfl ?_
          refine jb_iastore (pc' := 159) (i9 := m) (f := (Wc 9)) (h' := [s0, s1, s2, s3, s4, s5, s6, s7, s8, s9, jb_mdl I J d e kp nm (va_up Wc 9 (upd (Wc 9) m (((Wc 9) m) + 1))), s11]) dX12_heard_158 rfl (jb_ix_nI (by omega)) (by omega) rfl rfl ?_
          refine jb_iinc_ (pc' := 162) (nI (i + 2)) dX12_heard_159 (by decide) rfl (jb_inc i 2) (jb_at5 rfl) rfl ?_
          refine jb_goto (pc' := 81) dX12_heard_162 (by decide) ?_
          refine ih (i + 2) (va_up Wc 9 (upd (Wc 9) m (((Wc 9) m) + 1))) _ _ (by omega) (by omega) (fun r hr => (va_ne hr).trans (hf r hr)) (fun g hg => ?_)
          obtain ⟨k, h1, h2⟩ := hc g hg
          rw [eG] at h2
          by_cases e : g = m
          · rw [if_pos (by rw [hd9, e])] at h2
            refine ⟨k + 1, ?_, h2⟩
            show upd (Wc 9) m (Wc 9 m + 1) g = _
            rw [e, jb_uee, ← e, h1, nI_1]
          · rw [if_neg (by rw [hd9]; exact fun z => e z.symm)] at h2
            exact ⟨k, (jb_une e).trans h1, h2⟩
        · show jb_J _ RX12 cX12_heard 8 (Option.some .int) false 3 0 0 81 [some (.ref 105), some (.int (nI s)), some (.int 1), some (.int 0), some (.int (nI (40 * s))), some (.int (nI i)), x6, x7] [] [s0, s1, s2, s3, s4, s5, s6, s7, s8, s9, jb_mdl I J d e kp nm Wc, s11] _
          refine jb_iload (pc' := 83) dX12_heard_81 rfl rfl ?_
          refine jb_iconst (pc' := 84) 1 dX12_heard_83 (by decide) rfl ?_
          refine jb_iadd (pc' := 85) dX12_heard_84 rfl ?_
          refine jb_top (v := .int ((nI i) + 1)) (w := .int (nI (i + 1))) (jb_vI (nI_add _ 1)) ?_
          refine jb_aload_n (pc' := 86) dX12_heard_85 rfl rfl ?_
          refine gf_X12_28 (pc' := 89) (v := .ref 112) dX12_heard_86 rfl rfl rfl ?_
          refine jb_iload_n (pc' := 90) dX12_heard_89 rfl rfl ?_
          refine jb_iaload (pc' := 91) (i9 := s) (f := (Wc 2)) dX12_heard_90 rfl (jb_ix_nI (by omega)) (by omega) rfl ?_
          refine jb_top (v := .int ((Wc 2) s)) (w := .int (nI zs)) (jb_vI (by rw [hf 2 (by decide)]; exact h2s)) ?_
          refine jb_icmp_ge (tgt := 165) (pc' := 94) dX12_heard_91 (by decide) rfl (fun z => absurd z (nI_ge (a := i + 1) (b := zs) (by omega) (by omega))) (fun _ => ?_)
          refine jb_aload_n (pc' := 95) dX12_heard_94 rfl rfl ?_
          refine gf_X12_31 (pc' := 98) (v := .ref 113) dX12_heard_95 rfl rfl rfl ?_
          refine jb_iload (pc' := 100) dX12_heard_98 rfl rfl ?_
          refine jb_iload (pc' := 102) dX12_heard_100 rfl rfl ?_
          refine jb_iadd (pc' := 103) dX12_heard_102 rfl ?_
          refine jb_top (v := .int ((nI (40 * s)) + (nI i))) (w := .int (nI (40 * s + i))) (jb_vI (nI_add _ _)) ?_
          refine jb_iaload (pc' := 104) (i9 := (40 * s + i)) (f := (Wc 3)) dX12_heard_103 rfl (jb_ix_nI (by omega)) (by omega) rfl ?_
          refine jb_top (v := .int ((Wc 3) (40 * s + i))) (w := .int (W 3 (40 * s + i))) (jb_vI (congrFun (hf 3 (by decide)) _)) ?_
          refine jb_i2l (pc' := 105) dX12_heard_104 rfl ?_
          refine jb_aload_n (pc' := 106) dX12_heard_105 rfl rfl ?_
          refine gf_X12_31 (pc' := 109) (v := .ref 113) dX12_heard_106 rfl rfl rfl ?_
          refine jb_iload (pc' := 111) dX12_heard_109 rfl rfl ?_
          refine jb_iload (pc' := 113) dX12_heard_111 rfl rfl ?_
          refine jb_iadd (pc' := 114) dX12_heard_113 rfl ?_
          refine jb_top (v := .int ((nI (40 * s)) + (nI i))) (w := .int (nI (40 * s + i))) (jb_vI (nI_add _ _)) ?_
          refine jb_iconst (pc' := 115) 1 dX12_heard_114 (by decide) rfl ?_
          refine jb_iadd (pc' := 116) dX12_heard_115 rfl ?_
          refine jb_top (v := .int ((nI (40 * s + i)) + 1)) (w := .int (nI (40 * s + i + 1))) (jb_vI (nI_add _ 1)) ?_
          refine jb_iaload (pc' := 117) (i9 := (40 * s + i + 1)) (f := (Wc 3)) dX12_heard_116 rfl (jb_ix_nI (by omega)) (by omega) rfl ?_
          refine jb_top (v := .int ((Wc 3) (40 * s + i + 1))) (w := .int (W 3 (40 * s + (i + 1)))) (jb_vI (congrFun (hf 3 (by decide)) _)) ?_
          refine jb_i2l (pc' := 118) dX12_heard_117 rfl ?_
          refine jb_lsub (pc' := 119) dX12_heard_118 rfl ?_
          refine jb_lstore_ (pc' := 121) dX12_heard_119 (by decide) (jb_lt6 rfl) rfl ?_
          refine jb_lload (pc' := 123) dX12_heard_121 rfl rfl ?_
          refine jb_lconst (pc' := 124) 0 dX12_heard_123 (by decide) rfl ?_
          refine jb_lcmp (pc' := 125) dX12_heard_124 rfl ?_
          refine jb_if_ge (tgt := 134) (pc' := 128) dX12_heard_125 (by decide) rfl (fun z => absurd z (Int32.not_le.mpr (jl_lt.mpr (jz_neg0.mpr hneg)))) (fun _ => ?_)
          refine jb_lload (pc' := 130) dX12_heard_128 rfl rfl ?_
          refine jb_lneg (pc' := 131) dX12_heard_130 rfl ?_
          refine jb_top (v := .long (-(((W 3 (40 * s + i)).toInt64) - ((W 3 (40 * s + (i + 1))).toInt64)))) (w := .long (lN m)) (jb_vL (by rw [jz_lNn hneg, hm])) ?_
          refine jb_goto (pc' := 136) dX12_heard_131 (by decide) ?_
          refine jb_lstore_ (pc' := 138) dX12_heard_136 (by decide) (jb_lt6 rfl) rfl ?_
          refine jb_lload (pc' := 140) dX12_heard_138 rfl rfl ?_
          refine jb_ldc2 (pc' := 143) 41 dX12_heard_140 wk_X12_250 rfl ?_
          refine jb_lcmp (pc' := 144) dX12_heard_143 rfl ?_
          refine jb_if_ge (tgt := 159) (pc' := 147) dX12_heard_144 (by decide) rfl (fun _ => ?_) (fun z => absurd (jl_ge.mpr (fun z => h41 ((jz_41 m hm62).mp z))) z)
          refine jb_iinc_ (pc' := 162) (nI (i + 2)) dX12_heard_159 (by decide) rfl (jb_inc i 2) (jb_at5 rfl) rfl ?_
          refine jb_goto (pc' := 81) dX12_heard_162 (by decide) ?_
          refine ih (i + 2) Wc _ _ (by omega) (by omega) hf (fun g hg => ?_)
          obtain ⟨k, h1, h2⟩ := hc g hg
          rw [eG, if_neg (by rw [hd9]; omega)] at h2
          exact ⟨k, h1, h2⟩
      · by_cases h41 : m < 41
        · show jb_J _ RX12 cX12_heard 8 (Option.some .int) false 3 0 0 81 [some (.ref 105), some (.int (nI s)), some (.int 1), some (.int 0), some (.int (nI (40 * s))), some (.int (nI i)), x6, x7] [] [s0, s1, s2, s3, s4, s5, s6, s7, s8, s9, jb_mdl I J d e kp nm Wc, s11] _
          refine jb_iload (pc' := 83) dX12_heard_81 rfl rfl ?_
          refine jb_iconst (pc' := 84) 1 dX12_heard_83 (by decide) rfl ?_
          refine jb_iadd (pc' := 85) dX12_heard_84 rfl ?_
          refine jb_top (v := .int ((nI i) + 1)) (w := .int (nI (i + 1))) (jb_vI (nI_add _ 1)) ?_
          refine jb_aload_n (pc' := 86) dX12_heard_85 rfl rfl ?_
          refine gf_X12_28 (pc' := 89) (v := .ref 112) dX12_heard_86 rfl rfl rfl ?_
          refine jb_iload_n (pc' := 90) dX12_heard_89 rfl rfl ?_
          refine jb_iaload (pc' := 91) (i9 := s) (f := (Wc 2)) dX12_heard_90 rfl (jb_ix_nI (by omega)) (by omega) rfl ?_
          refine jb_top (v := .int ((Wc 2) s)) (w := .int (nI zs)) (jb_vI (by rw [hf 2 (by decide)]; exact h2s)) ?_
          refine jb_icmp_ge (tgt := 165) (pc' := 94) dX12_heard_91 (by decide) rfl (fun z => absurd z (nI_ge (a := i + 1) (b := zs) (by omega) (by omega))) (fun _ => ?_)
          refine jb_aload_n (pc' := 95) dX12_heard_94 rfl rfl ?_
          refine gf_X12_31 (pc' := 98) (v := .ref 113) dX12_heard_95 rfl rfl rfl ?_
          refine jb_iload (pc' := 100) dX12_heard_98 rfl rfl ?_
          refine jb_iload (pc' := 102) dX12_heard_100 rfl rfl ?_
          refine jb_iadd (pc' := 103) dX12_heard_102 rfl ?_
          refine jb_top (v := .int ((nI (40 * s)) + (nI i))) (w := .int (nI (40 * s + i))) (jb_vI (nI_add _ _)) ?_
          refine jb_iaload (pc' := 104) (i9 := (40 * s + i)) (f := (Wc 3)) dX12_heard_103 rfl (jb_ix_nI (by omega)) (by omega) rfl ?_
          refine jb_top (v := .int ((Wc 3) (40 * s + i))) (w := .int (W 3 (40 * s + i))) (jb_vI (congrFun (hf 3 (by decide)) _)) ?_
          refine jb_i2l (pc' := 105) dX12_heard_104 rfl ?_
          refine jb_aload_n (pc' := 106) dX12_heard_105 rfl rfl ?_
          refine gf_X12_31 (pc' := 109) (v := .ref 113) dX12_heard_106 rfl rfl rfl ?_
          refine jb_iload (pc' := 111) dX12_heard_109 rfl rfl ?_
          refine jb_iload (pc' := 113) dX12_heard_111 rfl rfl ?_
          refine jb_iadd (pc' := 114) dX12_heard_113 rfl ?_
          refine jb_top (v := .int ((nI (40 * s)) + (nI i))) (w := .int (nI (40 * s + i))) (jb_vI (nI_add _ _)) ?_
          refine jb_iconst (pc' := 115) 1 dX12_heard_114 (by decide) rfl ?_
          refine jb_iadd (pc' := 116) dX12_heard_115 rfl ?_
          refine jb_top (v := .int ((nI (40 * s + i)) + 1)) (w := .int (nI (40 * s + i + 1))) (jb_vI (nI_add _ 1)) ?_
          refine jb_iaload (pc' := 117) (i9 := (40 * s + i + 1)) (f := (Wc 3)) dX12_heard_116 rfl (jb_ix_nI (by omega)) (by omega) rfl ?_
          refine jb_top (v := .int ((Wc 3) (40 * s + i + 1))) (w := .int (W 3 (40 * s + (i + 1)))) (jb_vI (congrFun (hf 3 (by decide)) _)) ?_
          refine jb_i2l (pc' := 118) dX12_heard_117 rfl ?_
          refine jb_lsub (pc' := 119) dX12_heard_118 rfl ?_
          refine jb_top (v := .long (((W 3 (40 * s + i)).toInt64) - ((W 3 (40 * s + (i + 1))).toInt64))) (w := .long (lN m)) (jb_vL (by rw [jz_lN hneg, hm])) ?_
          refine jb_lstore_ (pc' := 121) dX12_heard_119 (by decide) (jb_lt6 rfl) rfl ?_
          refine jb_lload (pc' := 123) dX12_heard_121 rfl rfl ?_
          refine jb_lconst (pc' := 124) 0 dX12_heard_123 (by decide) rfl ?_
          refine jb_lcmp (pc' := 125) dX12_heard_124 rfl ?_
          refine jb_if_ge (tgt := 134) (pc' := 128) dX12_heard_125 (by decide) rfl (fun _ => ?_) (fun z => absurd (jl_ge.mpr (fun z => absurd ((pk_lLT (a := m) (b := 0) (by omega) (by decide)).mp z) (by omega))) z)
          refine jb_lload (pc' := 136) dX12_heard_134 rfl rfl ?_
          refine jb_lstore_ (pc' := 138) dX12_heard_136 (by decide) (jb_lt6 rfl) rfl ?_
          refine jb_lload (pc' := 140) dX12_heard_138 rfl rfl ?_
          refine jb_ldc2 (pc' := 143) 41 dX12_heard_140 wk_X12_250 rfl ?_
          refine jb_lcmp (pc' := 144) dX12_heard_143 rfl ?_
          refine jb_if_ge (tgt := 159) (pc' := 147) dX12_heard_144 (by decide) rfl (fun z => absurd z (Int32.not_le.mpr (jl_lt.mpr ((jz_41 m hm62).mpr h41)))) (fun _ => ?_)
          refine jb_aload_n (pc' := 148) dX12_heard_147 rfl rfl ?_
          refine gf_X12_49 (pc' := 151) (v := .ref 119) dX12_heard_148 rfl rfl rfl ?_
          refine jb_lload (pc' := 153) dX12_heard_151 rfl rfl ?_
          refine jb_l2i (pc' := 154) dX12_heard_153 rfl ?_
          refine jb_top (v := .int ((lN m).toInt32)) (w := .int (nI m)) (jb_vI (jz_i h41)) ?_
          refine jb_dup2 (pc' := 155) dX12_heard_154 rfl rfl rfl ?_
          refine jb_iaload (pc' := 156) (i9 := m) (f := (Wc 9)) dX12_heard_155 rfl (jb_ix_nI (by omega)) (by omega) rfl ?_
          refine jb_iconst (pc' := 157) 1 dX12_heard_156 (by decide) rfl ?_
          refine jb_iadd (pc' := 158) dX12_heard_157 rfl ?_
          refine jb_iastore (pc' := 159) (i9 := m) (f := (Wc 9)) (h' := [s0, s1, s2, s3, s4, s5, s6, s7, s8, s9, jb_mdl I J d e kp nm (va_up Wc 9 (upd (Wc 9) m (((Wc 9) m) + 1))), s11]) dX12_heard_158 rfl (jb_ix_nI (by omega)) (by omega) rfl rfl ?_
          refine jb_iinc_ (pc' := 162) (nI (i + 2)) dX12_heard_159 (by decide) rfl (jb_inc i 2) (jb_at5 rfl) rfl ?_
          refine jb_goto (pc' := 81) dX12_heard_162 (by decide) ?_
          refine ih (i + 2) (va_up Wc 9 (upd (Wc 9) m (((Wc 9) m) + 1))) _ _ (by omega) (by omega) (fun r hr => (va_ne hr).trans (hf r hr)) (fun g hg => ?_)
          obtain ⟨k, h1, h2⟩ := hc g hg
          rw [eG] at h2
          by_cases e : g = m
          · rw [if_pos (by rw [hd9, e])] at h2
            refine ⟨k + 1, ?_, h2⟩
            show upd (Wc 9) m (Wc 9 m + 1) g = _
            rw [e, jb_uee, ← e, h1, nI_1]
          · rw [if_neg (by rw [hd9]; exact fun z => e z.symm)] at h2
            exact ⟨k, (jb_une e).trans h1, h2⟩
        · show jb_J _ RX12 cX12_heard 8 (Option.some .int) false 3 0 0 81 [some (.ref 105), some (.int (nI s)), some (.int 1), some (.int 0), some (.int (nI (40 * s))), some (.int (nI i)), x6, x7] [] [s0, s1, s2, s3, s4, s5, s6, s7, s8, s9, jb_mdl I J d e kp nm Wc, s11] _
          refine jb_iload (pc' := 83) dX12_heard_81 rfl rfl ?_
          refine jb_iconst (pc' := 84) 1 dX12_heard_83 (by decide) rfl ?_
          refine jb_iadd (pc' := 85) dX12_heard_84 rfl ?_
          refine jb_top (v := .int ((nI i) + 1)) (w := .int (nI (i + 1))) (jb_vI (nI_add _ 1)) ?_
          refine jb_aload_n (pc' := 86) dX12_heard_85 rfl rfl ?_
          refine gf_X12_28 (pc' := 89) (v := .ref 112) dX12_heard_86 rfl rfl rfl ?_
          refine jb_iload_n (pc' := 90) dX12_heard_89 rfl rfl ?_
          refine jb_iaload (pc' := 91) (i9 := s) (f := (Wc 2)) dX12_heard_90 rfl (jb_ix_nI (by omega)) (by omega) rfl ?_
          refine jb_top (v := .int ((Wc 2) s)) (w := .int (nI zs)) (jb_vI (by rw [hf 2 (by decide)]; exact h2s)) ?_
          refine jb_icmp_ge (tgt := 165) (pc' := 94) dX12_heard_91 (by decide) rfl (fun z => absurd z (nI_ge (a := i + 1) (b := zs) (by omega) (by omega))) (fun _ => ?_)
          refine jb_aload_n (pc' := 95) dX12_heard_94 rfl rfl ?_
          refine gf_X12_31 (pc' := 98) (v := .ref 113) dX12_heard_95 rfl rfl rfl ?_
          refine jb_iload (pc' := 100) dX12_heard_98 rfl rfl ?_
          refine jb_iload (pc' := 102) dX12_heard_100 rfl rfl ?_
          refine jb_iadd (pc' := 103) dX12_heard_102 rfl ?_
          refine jb_top (v := .int ((nI (40 * s)) + (nI i))) (w := .int (nI (40 * s + i))) (jb_vI (nI_add _ _)) ?_
          refine jb_iaload (pc' := 104) (i9 := (40 * s + i)) (f := (Wc 3)) dX12_heard_103 rfl (jb_ix_nI (by omega)) (by omega) rfl ?_
          refine jb_top (v := .int ((Wc 3) (40 * s + i))) (w := .int (W 3 (40 * s + i))) (jb_vI (congrFun (hf 3 (by decide)) _)) ?_
          refine jb_i2l (pc' := 105) dX12_heard_104 rfl ?_
          refine jb_aload_n (pc' := 106) dX12_heard_105 rfl rfl ?_
          refine gf_X12_31 (pc' := 109) (v := .ref 113) dX12_heard_106 rfl rfl rfl ?_
          refine jb_iload (pc' := 111) dX12_heard_109 rfl rfl ?_
          refine jb_iload (pc' := 113) dX12_heard_111 rfl rfl ?_
          refine jb_iadd (pc' := 114) dX12_heard_113 rfl ?_
          refine jb_top (v := .int ((nI (40 * s)) + (nI i))) (w := .int (nI (40 * s + i))) (jb_vI (nI_add _ _)) ?_
          refine jb_iconst (pc' := 115) 1 dX12_heard_114 (by decide) rfl ?_
          refine jb_iadd (pc' := 116) dX12_heard_115 rfl ?_
          refine jb_top (v := .int ((nI (40 * s + i)) + 1)) (w := .int (nI (40 * s + i + 1))) (jb_vI (nI_add _ 1)) ?_
          refine jb_iaload (pc' := 117) (i9 := (40 * s + i + 1)) (f := (Wc 3)) dX12_heard_116 rfl (jb_ix_nI (by omega)) (by omega) rfl ?_
          refine jb_top (v := .int ((Wc 3) (40 * s + i + 1))) (w := .int (W 3 (40 * s + (i + 1)))) (jb_vI (congrFun (hf 3 (by decide)) _)) ?_
          refine jb_i2l (pc' := 118) dX12_heard_117 rfl ?_
          refine jb_lsub (pc' := 119) dX12_heard_118 rfl ?_
          refine jb_top (v := .long (((W 3 (40 * s + i)).toInt64) - ((W 3 (40 * s + (i + 1))).toInt64))) (w := .long (lN m)) (jb_vL (by rw [jz_lN hneg, hm])) ?_
          refine jb_lstore_ (pc' := 121) dX12_heard_119 (by decide) (jb_lt6 rfl) rfl ?_
          refine jb_lload (pc' := 123) dX12_heard_121 rfl rfl ?_
          refine jb_lconst (pc' := 124) 0 dX12_heard_123 (by decide) rfl ?_
          refine jb_lcmp (pc' := 125) dX12_heard_124 rfl ?_
          refine jb_if_ge (tgt := 134) (pc' := 128) dX12_heard_125 (by decide) rfl (fun _ => ?_) (fun z => absurd (jl_ge.mpr (fun z => absurd ((pk_lLT (a := m) (b := 0) (by omega) (by decide)).mp z) (by omega))) z)
          refine jb_lload (pc' := 136) dX12_heard_134 rfl rfl ?_
          refine jb_lstore_ (pc' := 138) dX12_heard_136 (by decide) (jb_lt6 rfl) rfl ?_
          refine jb_lload (pc' := 140) dX12_heard_138 rfl rfl ?_
          refine jb_ldc2 (pc' := 143) 41 dX12_heard_140 wk_X12_250 rfl ?_
          refine jb_lcmp (pc' := 144) dX12_heard_143 rfl ?_
          refine jb_if_ge (tgt := 159) (pc' := 147) dX12_heard_144 (by decide) rfl (fun _ => ?_) (fun z => absurd (jl_ge.mpr (fun z => h41 ((jz_41 m hm62).mp z))) z)
          refine jb_iinc_ (pc' := 162) (nI (i + 2)) dX12_heard_159 (by decide) rfl (jb_inc i 2) (jb_at5 rfl) rfl ?_
          refine jb_goto (pc' := 81) dX12_heard_162 (by decide) ?_
          refine ih (i + 2) Wc _ _ (by omega) (by omega) hf (fun g hg => ?_)
          obtain ⟨k, h1, h2⟩ := hc g hg
          rw [eG, if_neg (by rw [hd9]; omega)] at h2
          exact ⟨k, h1, h2⟩
    · have eG : ∀ g k, jz_n (fun k => W 3 (40 * s + k)) zs g (n + 1) i k = k := fun g k => if_neg hi1
      show jb_J _ RX12 cX12_heard 8 (Option.some .int) false 3 0 0 81 [some (.ref 105), some (.int (nI s)), some (.int 1), some (.int 0), some (.int (nI (40 * s))), some (.int (nI i)), x6, x7] [] [s0, s1, s2, s3, s4, s5, s6, s7, s8, s9, jb_mdl I J d e kp nm Wc, s11] _
      refine jb_iload (pc' := 83) dX12_heard_81 rfl rfl ?_
      refine jb_iconst (pc' := 84) 1 dX12_heard_83 (by decide) rfl ?_
      refine jb_iadd (pc' := 85) dX12_heard_84 rfl ?_
      refine jb_top (v := .int ((nI i) + 1)) (w := .int (nI (i + 1))) (jb_vI (nI_add _ 1)) ?_
      refine jb_aload_n (pc' := 86) dX12_heard_85 rfl rfl ?_
      refine gf_X12_28 (pc' := 89) (v := .ref 112) dX12_heard_86 rfl rfl rfl ?_
      refine jb_iload_n (pc' := 90) dX12_heard_89 rfl rfl ?_
      refine jb_iaload (pc' := 91) (i9 := s) (f := (Wc 2)) dX12_heard_90 rfl (jb_ix_nI (by omega)) (by omega) rfl ?_
      refine jb_top (v := .int ((Wc 2) s)) (w := .int (nI zs)) (jb_vI (by rw [hf 2 (by decide)]; exact h2s)) ?_
      refine jb_icmp_ge (tgt := 165) (pc' := 94) dX12_heard_91 (by decide) rfl (fun _ => ?_) (fun z => absurd (nI_le (a := zs) (b := i + 1) (by omega) (by omega)) z)
      refine jb_iconst (pc' := 166) 0 dX12_heard_165 (by decide) rfl ?_
      refine jb_istore_ (pc' := 168) dX12_heard_166 (by decide) (jb_at5 rfl) rfl ?_
      refine jb_iconst (pc' := 169) 1 dX12_heard_168 (by decide) rfl ?_
      refine jb_istore_ (pc' := 171) dX12_heard_169 (by decide) (jb_at6 rfl) rfl ?_
      exact l_he3_1 I J d e kp nm W s hs zs h2s hzs Wc hf (fun g hg => by obtain ⟨k, h1, h2⟩ := hc g hg; rw [h1]; exact congrArg nI ((h2.trans (eG g k)).symm)) 40 1 0 _ (by omega) (by omega) (fun h hh => by rw [show h = 0 by omega]; exact Nat.le_refl _) (fun h hh => absurd hh (by omega))
set_option maxRecDepth 100000 in
set_option maxHeartbeats 4000000 in
theorem l_he1_1 {sc : Nat × (Nat → Int32)} {s0 s1 s2 s3 s4 s5 s6 s7 s8 s9 s11 : List va_E} (I J d e kp nm : Nat → Int32) (W : Nat → Nat → Int32) (s : Nat) (hs : s < 4) (zs : Nat) (h2s : W 2 s = nI zs) (hzs : zs ≤ 40) : ∀ (n i : Nat) (Wc : Nat → Nat → Int32), i + n = 41 → (∀ r, ¬ r = 9 → Wc r = W r) → (∀ g, g < i → Wc 9 g = 0) → jb_J sc RX12 cX12_heard 8 (Option.some .int) false 3 0 0 51 [some (.ref 105), some (.int (nI s)), some (.int 1), some (.int 0), some (.int (nI i)), none, none, none] [] [s0, s1, s2, s3, s4, s5, s6, s7, s8, s9, jb_mdl I J d e kp nm Wc, s11] (fun r h9 => ∃ b9 W9, jz_B (fun g => jz_n (fun k => W 3 (40 * s + k)) zs g zs 0 0) b9 ∧ r = some (.int (nI (jz_n (fun k => W 3 (40 * s + k)) zs b9 zs 0 0))) ∧ (∀ r, ¬ r = 9 → W9 r = W r) ∧ h9 = [s0, s1, s2, s3, s4, s5, s6, s7, s8, s9, jb_mdl I J d e kp nm W9, s11]) := by
  intro n
  induction n with
  | zero =>
    intro i Wc hi hf hz
    show jb_J _ RX12 cX12_heard 8 (Option.some .int) false 3 0 0 51 [some (.ref 105), some (.int (nI s)), some (.int 1), some (.int 0), some (.int (nI i)), none, none, none] [] [s0, s1, s2, s3, s4, s5, s6, s7, s8, s9, jb_mdl I J d e kp nm Wc, s11] _
    refine jb_iload (pc' := 53) dX12_heard_51 rfl rfl ?_
    refine jb_bipush (pc' := 55) 41 dX12_heard_53 (by decide) rfl ?_
    refine jb_icmp_ge (tgt := 72) (pc' := 58) dX12_heard_55 (by decide) rfl (fun _ => ?_) (fun z => absurd (nI_le (a := 41) (b := i) (by omega) (by omega)) z)
    refine jb_bipush (pc' := 74) 40 dX12_heard_72 (by decide) rfl ?_
    refine jb_iload_n (pc' := 75) dX12_heard_74 rfl rfl ?_
    refine jb_imul (pc' := 76) dX12_heard_75 rfl ?_
    refine jb_top (v := .int (40 * (nI s))) (w := .int (nI (40 * s))) (jb_vI (pk_mul 40 _)) ?_
    refine jb_istore_ (pc' := 78) dX12_heard_76 (by decide) (jb_at4 rfl) rfl ?_
    refine jb_iconst (pc' := 79) 0 dX12_heard_78 (by decide) rfl ?_
    refine jb_istore_ (pc' := 81) dX12_heard_79 (by decide) (jb_at5 rfl) rfl ?_
    exact l_he2_1 I J d e kp nm W s hs zs h2s hzs zs 0 Wc _ _ (by omega) (by omega) hf (fun g hg => ⟨0, hz g (by omega), rfl⟩)
  | succ n ih =>
    intro i Wc hi hf hz
    show jb_J _ RX12 cX12_heard 8 (Option.some .int) false 3 0 0 51 [some (.ref 105), some (.int (nI s)), some (.int 1), some (.int 0), some (.int (nI i)), none, none, none] [] [s0, s1, s2, s3, s4, s5, s6, s7, s8, s9, jb_mdl I J d e kp nm Wc, s11] _
    refine jb_iload (pc' := 53) dX12_heard_51 rfl rfl ?_
    refine jb_bipush (pc' := 55) 41 dX12_heard_53 (by decide) rfl ?_
    refine jb_icmp_ge (tgt := 72) (pc' := 58) dX12_heard_55 (by decide) rfl (fun z => absurd z (nI_ge (a := i) (b := 41) (by omega) (by omega))) (fun _ => ?_)
    refine jb_aload_n (pc' := 59) dX12_heard_58 rfl rfl ?_
    refine gf_X12_49 (pc' := 62) (v := .ref 119) dX12_heard_59 rfl rfl rfl ?_
    refine jb_iload (pc' := 64) dX12_heard_62 rfl rfl ?_
    refine jb_iconst (pc' := 65) 0 dX12_heard_64 (by decide) rfl ?_
    refine jb_iastore (pc' := 66) (i9 := i) (f := (Wc 9)) (h' := [s0, s1, s2, s3, s4, s5, s6, s7, s8, s9, jb_mdl I J d e kp nm (va_up Wc 9 (upd (Wc 9) i 0)), s11]) dX12_heard_65 rfl (jb_ix_nI (by omega)) (by omega) rfl rfl ?_
    refine jb_iinc_ (pc' := 69) (nI (i + 1)) dX12_heard_66 (by decide) rfl (jb_inc i 1) (jb_at4 rfl) rfl ?_
    refine jb_goto (pc' := 51) dX12_heard_69 (by decide) ?_
    exact ih (i + 1) (va_up Wc 9 (upd (Wc 9) i 0)) (by omega) (fun r hr => (va_ne hr).trans (hf r hr)) (fun g hg => by show upd (Wc 9) i 0 g = 0; by_cases e : g = i; (· rw [e]; exact jb_uee); (· rw [jb_une e]; exact hz g (by omega)))
set_option maxRecDepth 100000 in
set_option maxHeartbeats 4000000 in
theorem mx_heard1 {sc : Nat × (Nat → Int32)} {s0 s1 s2 s3 s4 s5 s6 s7 s8 s9 s11 : List va_E} (I J d e kp nm : Nat → Int32) (W : Nat → Nat → Int32) (s : Nat) (hs : s < 4) {bs zs : Nat} (h1s : W 1 s = nI bs) (h2s : W 2 s = nI zs) (hbs : bs ≤ 32) (hzs : zs ≤ 40) (hm : ¬ bs = 0) (h2 : 2 ≤ zs) : jb_C sc yX12_heard cX12_heard 8 (Option.some .int) 3 0 0 [.ref 105, .int (nI s), .int 1] [s0, s1, s2, s3, s4, s5, s6, s7, s8, s9, jb_mdl I J d e kp nm W, s11] (fun r h9 => ∃ b9 W9, jz_B (fun g => jz_n (fun k => W 3 (40 * s + k)) zs g zs 0 0) b9 ∧ r = some (.int (nI (jz_n (fun k => W 3 (40 * s + k)) zs b9 zs 0 0))) ∧ (∀ r, ¬ r = 9 → W9 r = W r) ∧ h9 = [s0, s1, s2, s3, s4, s5, s6, s7, s8, s9, jb_mdl I J d e kp nm W9, s11]) := by
  refine jb_CofJ (ini := false) (by decide +kernel) (fun h => by cases h) (Nat.le_of_ble_eq_true rfl) ?_
  show jb_J sc RX12 cX12_heard 8 (Option.some .int) false 3 0 0 0 [some (.ref 105), some (.int (nI s)), some (.int 1), none, none, none, none, none] [] [s0, s1, s2, s3, s4, s5, s6, s7, s8, s9, jb_mdl I J d e kp nm W, s11] _
  refine jb_iload_n (pc' := 1) dX12_heard_0 rfl rfl ?_
  refine jb_i2l (pc' := 2) dX12_heard_1 rfl ?_
  refine jb_lconst (pc' := 3) 0 dX12_heard_2 (by decide) rfl ?_
  refine jb_ldc2 (pc' := 6) 2 dX12_heard_3 wk_X12_137 rfl ?_
  refine jb_callS (pc' := 9) (As := [.long ((1 : Int32).toInt64), .long 0, .long 2]) (a2 := 0) (b2 := 0) wv_X12_56 dX12_heard_6 (c_inLG _ 1 0 2 (by omega) (by omega) (by omega)) rfl ⟨by decide, Nat.le_of_eq (Nat.zero_add _), Nat.le_of_eq (Nat.zero_add _)⟩ (Nat.le_of_ble_eq_true rfl) rfl (fun r h9 hq => ?_)
  obtain ⟨rfl, rfl⟩ := hq
  show jb_J _ RX12 cX12_heard 8 (Option.some .int) false 3 0 0 9 [some (.ref 105), some (.int (nI s)), some (.int 1), none, none, none, none, none] [.int 1] [s0, s1, s2, s3, s4, s5, s6, s7, s8, s9, jb_mdl I J d e kp nm W, s11] _
  refine jb_if_ne (tgt := 16) (pc' := 12) dX12_heard_9 (by decide) rfl (fun _ => ?_) (fun z => absurd z (by decide))
  refine jb_aload_n (pc' := 17) dX12_heard_16 rfl rfl ?_
  refine jb_iload_n (pc' := 18) dX12_heard_17 rfl rfl ?_
  refine jb_callV (pc' := 21) (ci := 12) (q := 105) (As := [.int (nI s)]) (a2 := 0) (b2 := 0) wv_X12_236 rfl dX12_heard_18 (c_whyNot I J d e kp nm W s hs h1s h2s hbs hzs) rfl rfl ⟨by decide, Nat.le_of_eq (Nat.zero_add _), Nat.le_of_eq (Nat.zero_add _)⟩ (Nat.le_of_ble_eq_true rfl) rfl (fun r h9 hq => ?_)
  rcases hq with ⟨rfl, ⟨hms, rfl⟩ | ⟨hms, rfl⟩⟩
  · exact absurd hms hm
  · show jb_J _ RX12 cX12_heard 8 (Option.some .int) false 3 0 0 21 [some (.ref 105), some (.int (nI s)), some (.int 1), none, none, none, none, none] [.int 0] [s0, s1, s2, s3, s4, s5, s6, s7, s8, s9, jb_mdl I J d e kp nm W, s11] _
    refine jb_istore_n_ (pc' := 22) dX12_heard_21 (by decide) (jb_at3 rfl) rfl ?_
    refine jb_iload_n (pc' := 23) dX12_heard_22 rfl rfl ?_
    refine jb_if_ne (tgt := 38) (pc' := 26) dX12_heard_23 (by decide) rfl (fun z => absurd (by decide) z) (fun _ => ?_)
    refine jb_aload_n (pc' := 27) dX12_heard_26 rfl rfl ?_
    refine gf_X12_28 (pc' := 30) (v := .ref 112) dX12_heard_27 rfl rfl rfl ?_
    refine jb_iload_n (pc' := 31) dX12_heard_30 rfl rfl ?_
    refine jb_iaload (pc' := 32) (i9 := s) (f := (W 2)) dX12_heard_31 rfl (jb_ix_nI (by omega)) (by omega) rfl ?_
    refine jb_top (v := .int ((W 2) s)) (w := .int (nI zs)) (jb_vI h2s) ?_
    refine jb_iconst (pc' := 33) 2 dX12_heard_32 (by decide) rfl ?_
    refine jb_icmp_ge (tgt := 38) (pc' := 36) dX12_heard_33 (by decide) rfl (fun _ => ?_) (fun z => absurd (nI_le (a := 2) (b := zs) (by omega) (by omega)) z)
    refine jb_iload_n (pc' := 39) dX12_heard_38 rfl rfl ?_
    refine jb_if_eq (tgt := 48) (pc' := 42) dX12_heard_39 (by decide) rfl (fun _ => ?_) (fun z => absurd (by decide) z)
    refine jb_iconst (pc' := 49) 0 dX12_heard_48 (by decide) rfl ?_
    refine jb_istore_ (pc' := 51) dX12_heard_49 (by decide) (jb_at4 rfl) rfl ?_
    exact l_he1_1 I J d e kp nm W s hs zs h2s hzs 41 0 W (by omega) (fun _ _ => rfl) (fun g hg => absurd hg (by omega))
set_option maxRecDepth 100000 in
set_option maxHeartbeats 4000000 in
theorem l_he4_2 {sc : Nat × (Nat → Int32)} {s0 s1 s2 s3 s4 s5 s6 s7 s8 s9 s11 : List va_E} (I J d e kp nm : Nat → Int32) (W : Nat → Nat → Int32) (s : Nat) (hs : s < 4) (zs : Nat) (h2s : W 2 s = nI zs) (hzs : zs ≤ 40) (Wc : Nat → Nat → Int32) (hf : (∀ r, ¬ r = 9 → Wc r = W r)) (hdf : (∀ g, g ≤ 40 → Wc 9 g = nI ((fun g => jz_n (fun k => W 3 (40 * s + k)) zs g zs 0 0) g))) (b9 : Nat) (hB : jz_B (fun g => jz_n (fun k => W 3 (40 * s + k)) zs g zs 0 0) b9) : ∀ (n i k : Nat), zs ≤ i + 2 * n → i ≤ zs + 2 → k ≤ i → jz_f (fun k => W 3 (40 * s + k)) zs b9 zs 0 0 = jz_f (fun k => W 3 (40 * s + k)) zs b9 n i k → jb_J sc RX12 cX12_heard 8 (Option.some .int) false 3 0 0 216 [some (.ref 105), some (.int (nI s)), some (.int 2), some (.int 0), some (.int (nI (40 * s))), some (.int (nI b9)), some (.int (nI k)), some (.int (nI i))] [] [s0, s1, s2, s3, s4, s5, s6, s7, s8, s9, jb_mdl I J d e kp nm Wc, s11] (fun r h9 => ∃ b9 W9, jz_B (fun g => jz_n (fun k => W 3 (40 * s + k)) zs g zs 0 0) b9 ∧ r = some (.int (nI (jz_f (fun k => W 3 (40 * s + k)) zs b9 zs 0 0))) ∧ (∀ r, ¬ r = 9 → W9 r = W r) ∧ h9 = [s0, s1, s2, s3, s4, s5, s6, s7, s8, s9, jb_mdl I J d e kp nm W9, s11]) := by
  have hb40 := hB.1
  intro n
  induction n with
  | zero =>
    intro i k hi hi2 hk he
    show jb_J _ RX12 cX12_heard 8 (Option.some .int) false 3 0 0 216 [some (.ref 105), some (.int (nI s)), some (.int 2), some (.int 0), some (.int (nI (40 * s))), some (.int (nI b9)), some (.int (nI k)), some (.int (nI i))] [] [s0, s1, s2, s3, s4, s5, s6, s7, s8, s9, jb_mdl I J d e kp nm Wc, s11] _
    refine jb_iload (pc' := 218) dX12_heard_216 rfl rfl ?_
    refine jb_iconst (pc' := 219) 1 dX12_heard_218 (by decide) rfl ?_
    refine jb_iadd (pc' := 220) dX12_heard_219 rfl ?_
    refine jb_top (v := .int ((nI i) + 1)) (w := .int (nI (i + 1))) (jb_vI (nI_add _ 1)) ?_
    refine jb_aload_n (pc' := 221) dX12_heard_220 rfl rfl ?_
    refine gf_X12_28 (pc' := 224) (v := .ref 112) dX12_heard_221 rfl rfl rfl ?_
    refine jb_iload_n (pc' := 225) dX12_heard_224 rfl rfl ?_
    refine jb_iaload (pc' := 226) (i9 := s) (f := (Wc 2)) dX12_heard_225 rfl (jb_ix_nI (by omega)) (by omega) rfl ?_
    refine jb_top (v := .int ((Wc 2) s)) (w := .int (nI zs)) (jb_vI (by rw [hf 2 (by decide)]; exact h2s)) ?_
    refine jb_icmp_ge (tgt := 282) (pc' := 229) dX12_heard_226 (by decide) rfl (fun _ => ?_) (fun z => absurd (nI_le (a := zs) (b := i + 1) (by omega) (by omega)) z)
    refine jb_iload_n (pc' := 283) dX12_heard_282 rfl rfl ?_
    refine jb_if_ne (tgt := 291) (pc' := 286) dX12_heard_283 (by decide) rfl (fun _ => ?_) (fun z => absurd z (by decide))
    refine jb_iload_n (pc' := 292) dX12_heard_291 rfl rfl ?_
    refine jb_iconst (pc' := 293) 1 dX12_heard_292 (by decide) rfl ?_
    refine jb_icmp_ne (tgt := 306) (pc' := 296) dX12_heard_293 (by decide) rfl (fun _ => ?_) (fun z => absurd z (by decide))
    refine jb_iload (pc' := 308) dX12_heard_306 rfl rfl ?_
    refine jb_iret dX12_heard_308 rfl ?_
    exact ⟨b9, Wc, hB, by rw [he]; rfl, hf, rfl⟩
  | succ n ih =>
    intro i k hi hi2 hk he
    by_cases hi1 : i + 1 < zs
    · have eG : jz_f (fun k => W 3 (40 * s + k)) zs b9 (n + 1) i k = jz_f (fun k => W 3 (40 * s + k)) zs b9 n (i + 2) (if (W 3 (40 * s + (i + 1))).toInt - (W 3 (40 * s + i)).toInt = (b9 : Int) ∧ 0 < b9 then k + 1 else k) := if_pos hi1
      by_cases hv : (W 3 (40 * s + (i + 1))).toInt - (W 3 (40 * s + i)).toInt = (b9 : Int) ∧ 0 < b9
      · rw [if_pos hv] at eG
        show jb_J _ RX12 cX12_heard 8 (Option.some .int) false 3 0 0 216 [some (.ref 105), some (.int (nI s)), some (.int 2), some (.int 0), some (.int (nI (40 * s))), some (.int (nI b9)), some (.int (nI k)), some (.int (nI i))] [] [s0, s1, s2, s3, s4, s5, s6, s7, s8, s9, jb_mdl I J d e kp nm Wc, s11] _
        refine jb_iload (pc' := 218) dX12_heard_216 rfl rfl ?_
        refine jb_iconst (pc' := 219) 1 dX12_heard_218 (by decide) rfl ?_
        refine jb_iadd (pc' := 220) dX12_heard_219 rfl ?_
        refine jb_top (v := .int ((nI i) + 1)) (w := .int (nI (i + 1))) (jb_vI (nI_add _ 1)) ?_
        refine jb_aload_n (pc' := 221) dX12_heard_220 rfl rfl ?_
        refine gf_X12_28 (pc' := 224) (v := .ref 112) dX12_heard_221 rfl rfl rfl ?_
        refine jb_iload_n (pc' := 225) dX12_heard_224 rfl rfl ?_
        refine jb_iaload (pc' := 226) (i9 := s) (f := (Wc 2)) dX12_heard_225 rfl (jb_ix_nI (by omega)) (by omega) rfl ?_
        refine jb_top (v := .int ((Wc 2) s)) (w := .int (nI zs)) (jb_vI (by rw [hf 2 (by decide)]; exact h2s)) ?_
        refine jb_icmp_ge (tgt := 282) (pc' := 229) dX12_heard_226 (by decide) rfl (fun z => absurd z (nI_ge (a := i + 1) (b := zs) (by omega) (by omega))) (fun _ => ?_)
        refine jb_iload (pc' := 231) dX12_heard_229 rfl rfl ?_
        refine jb_aload_n (pc' := 232) dX12_heard_231 rfl rfl ?_
        refine gf_X12_31 (pc' := 235) (v := .ref 113) dX12_heard_232 rfl rfl rfl ?_
        refine jb_iload (pc' := 237) dX12_heard_235 rfl rfl ?_
        refine jb_iload (pc' := 239) dX12_heard_237 rfl rfl ?_
        refine jb_iadd (pc' := 240) dX12_heard_239 rfl ?_
        refine jb_top (v := .int ((nI (40 * s)) + (nI i))) (w := .int (nI (40 * s + i))) (jb_vI (nI_add _ _)) ?_
        refine jb_iconst (pc' := 241) 1 dX12_heard_240 (by decide) rfl ?_
        refine jb_iadd (pc' := 242) dX12_heard_241 rfl ?_
        refine jb_top (v := .int ((nI (40 * s + i)) + 1)) (w := .int (nI (40 * s + i + 1))) (jb_vI (nI_add _ 1)) ?_
        refine jb_iaload (pc' := 243) (i9 := (40 * s + i + 1)) (f := (Wc 3)) dX12_heard_242 rfl (jb_ix_nI (by omega)) (by omega) rfl ?_
        refine jb_top (v := .int ((Wc 3) (40 * s + i + 1))) (w := .int (W 3 (40 * s + (i + 1)))) (jb_vI (congrFun (hf 3 (by decide)) _)) ?_
        refine jb_i2l (pc' := 244) dX12_heard_243 rfl ?_
        refine jb_aload_n (pc' := 245) dX12_heard_244 rfl rfl ?_
        refine gf_X12_31 (pc' := 248) (v := .ref 113) dX12_heard_245 rfl rfl rfl ?_
        refine jb_iload (pc' := 250) dX12_heard_248 rfl rfl ?_
        refine jb_iload (pc' := 252) dX12_heard_250 rfl rfl ?_
        refine jb_iadd (pc' := 253) dX12_heard_252 rfl ?_
        refine jb_top (v := .int ((nI (40 * s)) + (nI i))) (w := .int (nI (40 * s + i))) (jb_vI (nI_add _ _)) ?_
        refine jb_iaload (pc' := 254) (i9 := (40 * s + i)) (f := (Wc 3)) dX12_heard_253 rfl (jb_ix_nI (by omega)) (by omega) rfl ?_
        refine jb_top (v := .int ((Wc 3) (40 * s + i))) (w := .int (W 3 (40 * s + i))) (jb_vI (congrFun (hf 3 (by decide)) _)) ?_
        refine jb_i2l (pc' := 255) dX12_heard_254 rfl ?_
        refine jb_lsub (pc' := 256) dX12_heard_255 rfl ?_
        refine jb_iload (pc' := 258) dX12_heard_256 rfl rfl ?_
        refine jb_i2l (pc' := 259) dX12_heard_258 rfl ?_
        refine jb_lcmp (pc' := 260) dX12_heard_259 rfl ?_
        refine jb_if_ne (tgt := 272) (pc' := 263) dX12_heard_260 (by decide) rfl (fun z => absurd (jl_eq.mpr ((jz_lt _ _ hb40).mpr hv.1)) z) (fun _ => ?_)
        refine jb_iload (pc' := 265) dX12_heard_263 rfl rfl ?_
        refine jb_if_le (tgt := 272) (pc' := 268) dX12_heard_265 (by decide) rfl (fun z => absurd z (nI_nle (n := b9) hv.2 (by omega))) (fun _ => ?_)
        refine jb_iconst (pc' := 269) 1 dX12_heard_268 (by decide) rfl ?_
        refine jb_goto (pc' := 273) dX12_heard_269 (by decide) ?_
        refine jb_iadd (pc' := 274) dX12_heard_273 rfl ?_
        refine jb_top (v := .int ((nI k) + 1)) (w := .int (nI (k + 1))) (jb_vI (nI_add _ 1)) ?_
        refine jb_istore_ (pc' := 276) dX12_heard_274 (by decide) (jb_at6 rfl) rfl ?_
        refine jb_iinc_ (pc' := 279) (nI (i + 2)) dX12_heard_276 (by decide) rfl (jb_inc i 2) (jb_at7 rfl) rfl ?_
        refine jb_goto (pc' := 216) dX12_heard_279 (by decide) ?_
        exact ih (i + 2) (k + 1) (by omega) (by omega) (by omega) (he.trans eG)
      · rw [if_neg hv] at eG
        show jb_J _ RX12 cX12_heard 8 (Option.some .int) false 3 0 0 216 [some (.ref 105), some (.int (nI s)), some (.int 2), some (.int 0), some (.int (nI (40 * s))), some (.int (nI b9)), some (.int (nI k)), some (.int (nI i))] [] [s0, s1, s2, s3, s4, s5, s6, s7, s8, s9, jb_mdl I J d e kp nm Wc, s11] _
        refine jb_iload (pc' := 218) dX12_heard_216 rfl rfl ?_
        refine jb_iconst (pc' := 219) 1 dX12_heard_218 (by decide) rfl ?_
        refine jb_iadd (pc' := 220) dX12_heard_219 rfl ?_
        refine jb_top (v := .int ((nI i) + 1)) (w := .int (nI (i + 1))) (jb_vI (nI_add _ 1)) ?_
        refine jb_aload_n (pc' := 221) dX12_heard_220 rfl rfl ?_
        refine gf_X12_28 (pc' := 224) (v := .ref 112) dX12_heard_221 rfl rfl rfl ?_
        refine jb_iload_n (pc' := 225) dX12_heard_224 rfl rfl ?_
        refine jb_iaload (pc' := 226) (i9 := s) (f := (Wc 2)) dX12_heard_225 rfl (jb_ix_nI (by omega)) (by omega) rfl ?_
        refine jb_top (v := .int ((Wc 2) s)) (w := .int (nI zs)) (jb_vI (by rw [hf 2 (by decide)]; exact h2s)) ?_
        refine jb_icmp_ge (tgt := 282) (pc' := 229) dX12_heard_226 (by decide) rfl (fun z => absurd z (nI_ge (a := i + 1) (b := zs) (by omega) (by omega))) (fun _ => ?_)
        refine jb_iload (pc' := 231) dX12_heard_229 rfl rfl ?_
        refine jb_aload_n (pc' := 232) dX12_heard_231 rfl rfl ?_
        refine gf_X12_31 (pc' := 235) (v := .ref 113) dX12_heard_232 rfl rfl rfl ?_
        refine jb_iload (pc' := 237) dX12_heard_235 rfl rfl ?_
        refine jb_iload (pc' := 239) dX12_heard_237 rfl rfl ?_
        refine jb_iadd (pc' := 240) dX12_heard_239 rfl ?_
        refine jb_top (v := .int ((nI (40 * s)) + (nI i))) (w := .int (nI (40 * s + i))) (jb_vI (nI_add _ _)) ?_
        refine jb_iconst (pc' := 241) 1 dX12_heard_240 (by decide) rfl ?_
        refine jb_iadd (pc' := 242) dX12_heard_241 rfl ?_
        refine jb_top (v := .int ((nI (40 * s + i)) + 1)) (w := .int (nI (40 * s + i + 1))) (jb_vI (nI_add _ 1)) ?_
        refine jb_iaload (pc' := 243) (i9 := (40 * s + i + 1)) (f := (Wc 3)) dX12_heard_242 rfl (jb_ix_nI (by omega)) (by omega) rfl ?_
        refine jb_top (v := .int ((Wc 3) (40 * s + i + 1))) (w := .int (W 3 (40 * s + (i + 1)))) (jb_vI (congrFun (hf 3 (by decide)) _)) ?_
        refine jb_i2l (pc' := 244) dX12_heard_243 rfl ?_
        refine jb_aload_n (pc' := 245) dX12_heard_244 rfl rfl ?_
        refine gf_X12_31 (pc' := 248) (v := .ref 113) dX12_heard_245 rfl rfl rfl ?_
        refine jb_iload (pc' := 250) dX12_heard_248 rfl rfl ?_
        refine jb_iload (pc' := 252) dX12_heard_250 rfl rfl ?_
        refine jb_iadd (pc' := 253) dX12_heard_252 rfl ?_
        refine jb_top (v := .int ((nI (40 * s)) + (nI i))) (w := .int (nI (40 * s + i))) (jb_vI (nI_add _ _)) ?_
        refine jb_iaload (pc' := 254) (i9 := (40 * s + i)) (f := (Wc 3)) dX12_heard_253 rfl (jb_ix_nI (by omega)) (by omega) rfl ?_
        refine jb_top (v := .int ((Wc 3) (40 * s + i))) (w := .int (W 3 (40 * s + i))) (jb_vI (congrFun (hf 3 (by decide)) _)) ?_
        refine jb_i2l (pc' := 255) dX12_heard_254 rfl ?_
        refine jb_lsub (pc' := 256) dX12_heard_255 rfl ?_
        refine jb_iload (pc' := 258) dX12_heard_256 rfl rfl ?_
        refine jb_i2l (pc' := 259) dX12_heard_258 rfl ?_
        refine jb_lcmp (pc' := 260) dX12_heard_259 rfl ?_
        refine jb_if_ne (tgt := 272) (pc' := 263) dX12_heard_260 (by decide) rfl (fun q260 => ?_) (fun q260 => ?_)
        · refine jb_iconst (pc' := 273) 0 dX12_heard_272 (by decide) rfl ?_
          refine jb_iadd (pc' := 274) dX12_heard_273 rfl ?_
          refine jb_top (v := .int ((nI k) + 0)) (w := .int (nI (k + 0))) (jb_vI (nI_add _ 0)) ?_
          refine jb_istore_ (pc' := 276) dX12_heard_274 (by decide) (jb_at6 rfl) rfl ?_
          refine jb_iinc_ (pc' := 279) (nI (i + 2)) dX12_heard_276 (by decide) rfl (jb_inc i 2) (jb_at7 rfl) rfl ?_
          refine jb_goto (pc' := 216) dX12_heard_279 (by decide) ?_
          exact ih (i + 2) (k + 0) (by omega) (by omega) (by omega) (he.trans eG)
        · refine jb_iload (pc' := 265) dX12_heard_263 rfl rfl ?_
          refine jb_if_le (tgt := 272) (pc' := 268) dX12_heard_265 (by decide) rfl (fun _ => ?_) (fun z => absurd (by rw [show b9 = 0 by have z2 := (jz_lt _ _ hb40).mp (jl_eq.mp q260); omega]; decide) z)
          refine jb_iconst (pc' := 273) 0 dX12_heard_272 (by decide) rfl ?_
          refine jb_iadd (pc' := 274) dX12_heard_273 rfl ?_
          refine jb_top (v := .int ((nI k) + 0)) (w := .int (nI (k + 0))) (jb_vI (nI_add _ 0)) ?_
          refine jb_istore_ (pc' := 276) dX12_heard_274 (by decide) (jb_at6 rfl) rfl ?_
          refine jb_iinc_ (pc' := 279) (nI (i + 2)) dX12_heard_276 (by decide) rfl (jb_inc i 2) (jb_at7 rfl) rfl ?_
          refine jb_goto (pc' := 216) dX12_heard_279 (by decide) ?_
          exact ih (i + 2) (k + 0) (by omega) (by omega) (by omega) (he.trans eG)
    · have eG : jz_f (fun k => W 3 (40 * s + k)) zs b9 (n + 1) i k = k := if_neg hi1
      have he := he.trans eG
      show jb_J _ RX12 cX12_heard 8 (Option.some .int) false 3 0 0 216 [some (.ref 105), some (.int (nI s)), some (.int 2), some (.int 0), some (.int (nI (40 * s))), some (.int (nI b9)), some (.int (nI k)), some (.int (nI i))] [] [s0, s1, s2, s3, s4, s5, s6, s7, s8, s9, jb_mdl I J d e kp nm Wc, s11] _
      refine jb_iload (pc' := 218) dX12_heard_216 rfl rfl ?_
      refine jb_iconst (pc' := 219) 1 dX12_heard_218 (by decide) rfl ?_
      refine jb_iadd (pc' := 220) dX12_heard_219 rfl ?_
      refine jb_top (v := .int ((nI i) + 1)) (w := .int (nI (i + 1))) (jb_vI (nI_add _ 1)) ?_
      refine jb_aload_n (pc' := 221) dX12_heard_220 rfl rfl ?_
      refine gf_X12_28 (pc' := 224) (v := .ref 112) dX12_heard_221 rfl rfl rfl ?_
      refine jb_iload_n (pc' := 225) dX12_heard_224 rfl rfl ?_
      refine jb_iaload (pc' := 226) (i9 := s) (f := (Wc 2)) dX12_heard_225 rfl (jb_ix_nI (by omega)) (by omega) rfl ?_
      refine jb_top (v := .int ((Wc 2) s)) (w := .int (nI zs)) (jb_vI (by rw [hf 2 (by decide)]; exact h2s)) ?_
      refine jb_icmp_ge (tgt := 282) (pc' := 229) dX12_heard_226 (by decide) rfl (fun _ => ?_) (fun z => absurd (nI_le (a := zs) (b := i + 1) (by omega) (by omega)) z)
      refine jb_iload_n (pc' := 283) dX12_heard_282 rfl rfl ?_
      refine jb_if_ne (tgt := 291) (pc' := 286) dX12_heard_283 (by decide) rfl (fun _ => ?_) (fun z => absurd z (by decide))
      refine jb_iload_n (pc' := 292) dX12_heard_291 rfl rfl ?_
      refine jb_iconst (pc' := 293) 1 dX12_heard_292 (by decide) rfl ?_
      refine jb_icmp_ne (tgt := 306) (pc' := 296) dX12_heard_293 (by decide) rfl (fun _ => ?_) (fun z => absurd z (by decide))
      refine jb_iload (pc' := 308) dX12_heard_306 rfl rfl ?_
      refine jb_iret dX12_heard_308 rfl ?_
      exact ⟨b9, Wc, hB, by rw [he], hf, rfl⟩
set_option maxRecDepth 100000 in
set_option maxHeartbeats 4000000 in
theorem l_he3_2 {sc : Nat × (Nat → Int32)} {s0 s1 s2 s3 s4 s5 s6 s7 s8 s9 s11 : List va_E} (I J d e kp nm : Nat → Int32) (W : Nat → Nat → Int32) (s : Nat) (hs : s < 4) (zs : Nat) (h2s : W 2 s = nI zs) (hzs : zs ≤ 40) (Wc : Nat → Nat → Int32) (hf : (∀ r, ¬ r = 9 → Wc r = W r)) (hdf : (∀ g, g ≤ 40 → Wc 9 g = nI ((fun g => jz_n (fun k => W 3 (40 * s + k)) zs g zs 0 0) g))) : ∀ (n g b : Nat) (x7 : Option Value), g + n = 41 → b < g → (∀ h, h < g → (fun g => jz_n (fun k => W 3 (40 * s + k)) zs g zs 0 0) h ≤ (fun g => jz_n (fun k => W 3 (40 * s + k)) zs g zs 0 0) b) → (∀ h, h < b → (fun g => jz_n (fun k => W 3 (40 * s + k)) zs g zs 0 0) h < (fun g => jz_n (fun k => W 3 (40 * s + k)) zs g zs 0 0) b) → jb_J sc RX12 cX12_heard 8 (Option.some .int) false 3 0 0 171 [some (.ref 105), some (.int (nI s)), some (.int 2), some (.int 0), some (.int (nI (40 * s))), some (.int (nI b)), some (.int (nI g)), x7] [] [s0, s1, s2, s3, s4, s5, s6, s7, s8, s9, jb_mdl I J d e kp nm Wc, s11] (fun r h9 => ∃ b9 W9, jz_B (fun g => jz_n (fun k => W 3 (40 * s + k)) zs g zs 0 0) b9 ∧ r = some (.int (nI (jz_f (fun k => W 3 (40 * s + k)) zs b9 zs 0 0))) ∧ (∀ r, ¬ r = 9 → W9 r = W r) ∧ h9 = [s0, s1, s2, s3, s4, s5, s6, s7, s8, s9, jb_mdl I J d e kp nm W9, s11]) := by
  intro n
  induction n with
  | zero =>
    intro g b x7 hg hb h1 h2
    show jb_J _ RX12 cX12_heard 8 (Option.some .int) false 3 0 0 171 [some (.ref 105), some (.int (nI s)), some (.int 2), some (.int 0), some (.int (nI (40 * s))), some (.int (nI b)), some (.int (nI g)), x7] [] [s0, s1, s2, s3, s4, s5, s6, s7, s8, s9, jb_mdl I J d e kp nm Wc, s11] _
    refine jb_iload (pc' := 173) dX12_heard_171 rfl rfl ?_
    refine jb_bipush (pc' := 175) 41 dX12_heard_173 (by decide) rfl ?_
    refine jb_icmp_ge (tgt := 210) (pc' := 178) dX12_heard_175 (by decide) rfl (fun _ => ?_) (fun z => absurd (nI_le (a := 41) (b := g) (by omega) (by omega)) z)
    refine jb_iconst (pc' := 211) 0 dX12_heard_210 (by decide) rfl ?_
    refine jb_istore_ (pc' := 213) dX12_heard_211 (by decide) (jb_at6 rfl) rfl ?_
    refine jb_iconst (pc' := 214) 0 dX12_heard_213 (by decide) rfl ?_
    refine jb_istore_ (pc' := 216) dX12_heard_214 (by decide) (jb_at7 rfl) rfl ?_
    exact l_he4_2 I J d e kp nm W s hs zs h2s hzs Wc hf hdf b ⟨by omega, fun h hh => h1 h (by omega), h2⟩ zs 0 0 (by omega) (by omega) (by omega) rfl
  | succ n ih =>
    intro g b x7 hg hb h1 h2
    have c1 := jz_n_le (f := (fun k => W 3 (40 * s + k))) (zs := zs) (g := g) zs 0 0
    have c2 := jz_n_le (f := (fun k => W 3 (40 * s + k))) (zs := zs) (g := b) zs 0 0
    show jb_J _ RX12 cX12_heard 8 (Option.some .int) false 3 0 0 171 [some (.ref 105), some (.int (nI s)), some (.int 2), some (.int 0), some (.int (nI (40 * s))), some (.int (nI b)), some (.int (nI g)), x7] [] [s0, s1, s2, s3, s4, s5, s6, s7, s8, s9, jb_mdl I J d e kp nm Wc, s11] _
    refine jb_iload (pc' := 173) dX12_heard_171 rfl rfl ?_
    refine jb_bipush (pc' := 175) 41 dX12_heard_173 (by decide) rfl ?_
    refine jb_icmp_ge (tgt := 210) (pc' := 178) dX12_heard_175 (by decide) rfl (fun z => absurd z (nI_ge (a := g) (b := 41) (by omega) (by omega))) (fun _ => ?_)
    refine jb_aload_n (pc' := 179) dX12_heard_178 rfl rfl ?_
    refine gf_X12_49 (pc' := 182) (v := .ref 119) dX12_heard_179 rfl rfl rfl ?_
    refine jb_iload (pc' := 184) dX12_heard_182 rfl rfl ?_
    refine jb_iaload (pc' := 185) (i9 := g) (f := (Wc 9)) dX12_heard_184 rfl (jb_ix_nI (by omega)) (by omega) rfl ?_
    refine jb_top (v := .int ((Wc 9) g)) (w := .int (nI (jz_n (fun k => W 3 (40 * s + k)) zs g zs 0 0))) (jb_vI (hdf g (by omega))) ?_
    refine jb_aload_n (pc' := 186) dX12_heard_185 rfl rfl ?_
    refine gf_X12_49 (pc' := 189) (v := .ref 119) dX12_heard_186 rfl rfl rfl ?_
    refine jb_iload (pc' := 191) dX12_heard_189 rfl rfl ?_
    refine jb_iaload (pc' := 192) (i9 := b) (f := (Wc 9)) dX12_heard_191 rfl (jb_ix_nI (by omega)) (by omega) rfl ?_
    refine jb_top (v := .int ((Wc 9) b)) (w := .int (nI (jz_n (fun k => W 3 (40 * s + k)) zs b zs 0 0))) (jb_vI (hdf b (by omega))) ?_
    refine jb_icmp_le (tgt := 200) (pc' := 195) dX12_heard_192 (by decide) rfl (fun c2 => ?_) (fun c2 => ?_)
    · have c2 : (jz_n (fun k => W 3 (40 * s + k)) zs g zs 0 0) ≤ (jz_n (fun k => W 3 (40 * s + k)) zs b zs 0 0) := (nI_leI (a := (jz_n (fun k => W 3 (40 * s + k)) zs g zs 0 0)) (b := (jz_n (fun k => W 3 (40 * s + k)) zs b zs 0 0)) (by omega) (by omega)).mp c2
      refine jb_iload (pc' := 202) dX12_heard_200 rfl rfl ?_
      refine jb_istore_ (pc' := 204) dX12_heard_202 (by decide) (jb_at5 rfl) rfl ?_
      refine jb_iinc_ (pc' := 207) (nI (g + 1)) dX12_heard_204 (by decide) rfl (jb_inc g 1) (jb_at6 rfl) rfl ?_
      refine jb_goto (pc' := 171) dX12_heard_207 (by decide) ?_
      exact ih (g + 1) b _ (by omega) (by omega) (fun h hh => by by_cases e : h = g; (· rw [e]; show jz_n (fun k => W 3 (40 * s + k)) zs g zs 0 0 ≤ jz_n (fun k => W 3 (40 * s + k)) zs b zs 0 0; omega); (· exact h1 h (by omega))) h2
    · have c2 : ¬ (jz_n (fun k => W 3 (40 * s + k)) zs g zs 0 0) ≤ (jz_n (fun k => W 3 (40 * s + k)) zs b zs 0 0) := fun z9 => c2 ((nI_leI (a := (jz_n (fun k => W 3 (40 * s + k)) zs g zs 0 0)) (b := (jz_n (fun k => W 3 (40 * s + k)) zs b zs 0 0)) (by omega) (by omega)).mpr z9)
      refine jb_iload (pc' := 197) dX12_heard_195 rfl rfl ?_
      refine jb_goto (pc' := 202) dX12_heard_197 (by decide) ?_
      refine jb_istore_ (pc' := 204) dX12_heard_202 (by decide) (jb_at5 rfl) rfl ?_
      refine jb_iinc_ (pc' := 207) (nI (g + 1)) dX12_heard_204 (by decide) rfl (jb_inc g 1) (jb_at6 rfl) rfl ?_
      refine jb_goto (pc' := 171) dX12_heard_207 (by decide) ?_
      have hlt : (fun g => jz_n (fun k => W 3 (40 * s + k)) zs g zs 0 0) b < (fun g => jz_n (fun k => W 3 (40 * s + k)) zs g zs 0 0) g := (show jz_n (fun k => W 3 (40 * s + k)) zs b zs 0 0 < jz_n (fun k => W 3 (40 * s + k)) zs g zs 0 0 by omega)
      exact ih (g + 1) g _ (by omega) (by omega) (fun h hh => by by_cases e : h = g; (· rw [e]; exact Nat.le_refl _); (· exact Nat.le_of_lt (Nat.lt_of_le_of_lt (h1 h (by omega)) hlt))) (fun h hh => Nat.lt_of_le_of_lt (h1 h hh) hlt)
set_option maxRecDepth 100000 in
set_option maxHeartbeats 4000000 in
theorem l_he2_2 {sc : Nat × (Nat → Int32)} {s0 s1 s2 s3 s4 s5 s6 s7 s8 s9 s11 : List va_E} (I J d e kp nm : Nat → Int32) (W : Nat → Nat → Int32) (s : Nat) (hs : s < 4) (zs : Nat) (h2s : W 2 s = nI zs) (hzs : zs ≤ 40) : ∀ (n i : Nat) (Wc : Nat → Nat → Int32) (x6 x7 : Option Value), zs ≤ i + 2 * n → i ≤ zs + 2 → (∀ r, ¬ r = 9 → Wc r = W r) → (∀ g, g ≤ 40 → ∃ k, Wc 9 g = nI k ∧ jz_n (fun k => W 3 (40 * s + k)) zs g zs 0 0 = jz_n (fun k => W 3 (40 * s + k)) zs g n i k) → jb_J sc RX12 cX12_heard 8 (Option.some .int) false 3 0 0 81 [some (.ref 105), some (.int (nI s)), some (.int 2), some (.int 0), some (.int (nI (40 * s))), some (.int (nI i)), x6, x7] [] [s0, s1, s2, s3, s4, s5, s6, s7, s8, s9, jb_mdl I J d e kp nm Wc, s11] (fun r h9 => ∃ b9 W9, jz_B (fun g => jz_n (fun k => W 3 (40 * s + k)) zs g zs 0 0) b9 ∧ r = some (.int (nI (jz_f (fun k => W 3 (40 * s + k)) zs b9 zs 0 0))) ∧ (∀ r, ¬ r = 9 → W9 r = W r) ∧ h9 = [s0, s1, s2, s3, s4, s5, s6, s7, s8, s9, jb_mdl I J d e kp nm W9, s11]) := by
  intro n
  induction n with
  | zero =>
    intro i Wc x6 x7 hi hi2 hf hc
    show jb_J _ RX12 cX12_heard 8 (Option.some .int) false 3 0 0 81 [some (.ref 105), some (.int (nI s)), some (.int 2), some (.int 0), some (.int (nI (40 * s))), some (.int (nI i)), x6, x7] [] [s0, s1, s2, s3, s4, s5, s6, s7, s8, s9, jb_mdl I J d e kp nm Wc, s11] _
    refine jb_iload (pc' := 83) dX12_heard_81 rfl rfl ?_
    refine jb_iconst (pc' := 84) 1 dX12_heard_83 (by decide) rfl ?_
    refine jb_iadd (pc' := 85) dX12_heard_84 rfl ?_
    refine jb_top (v := .int ((nI i) + 1)) (w := .int (nI (i + 1))) (jb_vI (nI_add _ 1)) ?_
    refine jb_aload_n (pc' := 86) dX12_heard_85 rfl rfl ?_
    refine gf_X12_28 (pc' := 89) (v := .ref 112) dX12_heard_86 rfl rfl rfl ?_
    refine jb_iload_n (pc' := 90) dX12_heard_89 rfl rfl ?_
    refine jb_iaload (pc' := 91) (i9 := s) (f := (Wc 2)) dX12_heard_90 rfl (jb_ix_nI (by omega)) (by omega) rfl ?_
    refine jb_top (v := .int ((Wc 2) s)) (w := .int (nI zs)) (jb_vI (by rw [hf 2 (by decide)]; exact h2s)) ?_
    refine jb_icmp_ge (tgt := 165) (pc' := 94) dX12_heard_91 (by decide) rfl (fun _ => ?_) (fun z => absurd (nI_le (a := zs) (b := i + 1) (by omega) (by omega)) z)
    refine jb_iconst (pc' := 166) 0 dX12_heard_165 (by decide) rfl ?_
    refine jb_istore_ (pc' := 168) dX12_heard_166 (by decide) (jb_at5 rfl) rfl ?_
    refine jb_iconst (pc' := 169) 1 dX12_heard_168 (by decide) rfl ?_
    refine jb_istore_ (pc' := 171) dX12_heard_169 (by decide) (jb_at6 rfl) rfl ?_
    exact l_he3_2 I J d e kp nm W s hs zs h2s hzs Wc hf (fun g hg => by obtain ⟨k, h1, h2⟩ := hc g hg; rw [h1]; exact congrArg nI (h2.symm)) 40 1 0 _ (by omega) (by omega) (fun h hh => by rw [show h = 0 by omega]; exact Nat.le_refl _) (fun h hh => absurd hh (by omega))
  | succ n ih =>
    intro i Wc x6 x7 hi hi2 hf hc
    by_cases hi1 : i + 1 < zs
    · have eG : ∀ g k, jz_n (fun k => W 3 (40 * s + k)) zs g (n + 1) i k = jz_n (fun k => W 3 (40 * s + k)) zs g n (i + 2) (if jz_d (fun k => W 3 (40 * s + k)) i = g then k + 1 else k) := fun g k => if_pos hi1
      obtain ⟨m, hm⟩ : ∃ m, ((W 3 (40 * s + i)).toInt - (W 3 (40 * s + (i + 1))).toInt).natAbs = m := ⟨_, rfl⟩
      have hd9 : jz_d (fun k => W 3 (40 * s + k)) i = m := hm
      have r1 := jl_rng (W 3 (40 * s + i))
      have r2 := jl_rng (W 3 (40 * s + (i + 1)))
      have hm62 : m < 2 ^ 62 := by omega
      by_cases hneg : (W 3 (40 * s + i)).toInt < (W 3 (40 * s + (i + 1))).toInt
      · by_cases h41 : m < 41
        · show jb_J _ RX12 cX12_heard 8 (Option.some .int) false 3 0 0 81 [some (.ref 105), some (.int (nI s)), some (.int 2), some (.int 0), some (.int (nI (40 * s))), some (.int (nI i)), x6, x7] [] [s0, s1, s2, s3, s4, s5, s6, s7, s8, s9, jb_mdl I J d e kp nm Wc, s11] _
          refine jb_iload (pc' := 83) dX12_heard_81 rfl rfl ?_
          refine jb_iconst (pc' := 84) 1 dX12_heard_83 (by decide) rfl ?_
          refine jb_iadd (pc' := 85) dX12_heard_84 rfl ?_
          refine jb_top (v := .int ((nI i) + 1)) (w := .int (nI (i + 1))) (jb_vI (nI_add _ 1)) ?_
          refine jb_aload_n (pc' := 86) dX12_heard_85 rfl rfl ?_
          refine gf_X12_28 (pc' := 89) (v := .ref 112) dX12_heard_86 rfl rfl rfl ?_
          refine jb_iload_n (pc' := 90) dX12_heard_89 rfl rfl ?_
          refine jb_iaload (pc' := 91) (i9 := s) (f := (Wc 2)) dX12_heard_90 rfl (jb_ix_nI (by omega)) (by omega) rfl ?_
          refine jb_top (v := .int ((Wc 2) s)) (w := .int (nI zs)) (jb_vI (by rw [hf 2 (by decide)]; exact h2s)) ?_
          refine jb_icmp_ge (tgt := 165) (pc' := 94) dX12_heard_91 (by decide) rfl (fun z => absurd z (nI_ge (a := i + 1) (b := zs) (by omega) (by omega))) (fun _ => ?_)
          refine jb_aload_n (pc' := 95) dX12_heard_94 rfl rfl ?_
          refine gf_X12_31 (pc' := 98) (v := .ref 113) dX12_heard_95 rfl rfl rfl ?_
          refine jb_iload (pc' := 100) dX12_heard_98 rfl rfl ?_
          refine jb_iload (pc' := 102) dX12_heard_100 rfl rfl ?_
          refine jb_iadd (pc' := 103) dX12_heard_102 rfl ?_
          refine jb_top (v := .int ((nI (40 * s)) + (nI i))) (w := .int (nI (40 * s + i))) (jb_vI (nI_add _ _)) ?_
          refine jb_iaload (pc' := 104) (i9 := (40 * s + i)) (f := (Wc 3)) dX12_heard_103 rfl (jb_ix_nI (by omega)) (by omega) rfl ?_
          refine jb_top (v := .int ((Wc 3) (40 * s + i))) (w := .int (W 3 (40 * s + i))) (jb_vI (congrFun (hf 3 (by decide)) _)) ?_
          refine jb_i2l (pc' := 105) dX12_heard_104 rfl ?_
          refine jb_aload_n (pc' := 106) dX12_heard_105 rfl rfl ?_
          refine gf_X12_31 (pc' := 109) (v := .ref 113) dX12_heard_106 rfl rfl rfl ?_
          refine jb_iload (pc' := 111) dX12_heard_109 rfl rfl ?_
          refine jb_iload (pc' := 113) dX12_heard_111 rfl rfl ?_
          refine jb_iadd (pc' := 114) dX12_heard_113 rfl ?_
          refine jb_top (v := .int ((nI (40 * s)) + (nI i))) (w := .int (nI (40 * s + i))) (jb_vI (nI_add _ _)) ?_
          refine jb_iconst (pc' := 115) 1 dX12_heard_114 (by decide) rfl ?_
          refine jb_iadd (pc' := 116) dX12_heard_115 rfl ?_
          refine jb_top (v := .int ((nI (40 * s + i)) + 1)) (w := .int (nI (40 * s + i + 1))) (jb_vI (nI_add _ 1)) ?_
          refine jb_iaload (pc' := 117) (i9 := (40 * s + i + 1)) (f := (Wc 3)) dX12_heard_116 rfl (jb_ix_nI (by omega)) (by omega) rfl ?_
          refine jb_top (v := .int ((Wc 3) (40 * s + i + 1))) (w := .int (W 3 (40 * s + (i + 1)))) (jb_vI (congrFun (hf 3 (by decide)) _)) ?_
          refine jb_i2l (pc' := 118) dX12_heard_117 rfl ?_
          refine jb_lsub (pc' := 119) dX12_heard_118 rfl ?_
          refine jb_lstore_ (pc' := 121) dX12_heard_119 (by decide) (jb_lt6 rfl) rfl ?_
          refine jb_lload (pc' := 123) dX12_heard_121 rfl rfl ?_
          refine jb_lconst (pc' := 124) 0 dX12_heard_123 (by decide) rfl ?_
          refine jb_lcmp (pc' := 125) dX12_heard_124 rfl ?_
          refine jb_if_ge (tgt := 134) (pc' := 128) dX12_heard_125 (by decide) rfl (fun z => absurd z (Int32.not_le.mpr (jl_lt.mpr (jz_neg0.mpr hneg)))) (fun _ => ?_)
          refine jb_lload (pc' := 130) dX12_heard_128 rfl rfl ?_
          refine jb_lneg (pc' := 131) dX12_heard_130 rfl ?_
          refine jb_top (v := .long (-(((W 3 (40 * s + i)).toInt64) - ((W 3 (40 * s + (i + 1))).toInt64)))) (w := .long (lN m)) (jb_vL (by rw [jz_lNn hneg, hm])) ?_
          refine jb_goto (pc' := 136) dX12_heard_131 (by decide) ?_
          refine jb_lstore_ (pc' := 138) dX12_heard_136 (by decide) (jb_lt6 rfl) rfl ?_
          refine jb_lload (pc' := 140) dX12_heard_138 rfl rfl ?_
          refine jb_ldc2 (pc' := 143) 41 dX12_heard_140 wk_X12_250 rfl ?_
          refine jb_lcmp (pc' := 144) dX12_heard_143 rfl ?_
          refine jb_if_ge (tgt := 159) (pc' := 147) dX12_heard_144 (by decide) rfl (fun z => absurd z (Int32.not_le.mpr (jl_lt.mpr ((jz_41 m hm62).mpr h41)))) (fun _ => ?_)
          refine jb_aload_n (pc' := 148) dX12_heard_147 rfl rfl ?_
          refine gf_X12_49 (pc' := 151) (v := .ref 119) dX12_heard_148 rfl rfl rfl ?_
          refine jb_lload (pc' := 153) dX12_heard_151 rfl rfl ?_
          refine jb_l2i (pc' := 154) dX12_heard_153 rfl ?_
          refine jb_top (v := .int ((lN m).toInt32)) (w := .int (nI m)) (jb_vI (jz_i h41)) ?_
          refine jb_dup2 (pc' := 155) dX12_heard_154 rfl rfl rfl ?_
          refine jb_iaload (pc' := 156) (i9 := m) (f := (Wc 9)) dX12_heard_155 rfl (jb_ix_nI (by omega)) (by omega) rfl ?_
          refine jb_iconst (pc' := 157) 1 dX12_heard_156 (by decide) rfl ?_
          refine jb_iadd (pc' := 158) dX12_heard_157 rfl ?_
          refine jb_iastore (pc' := 159) (i9 := m) (f := (Wc 9)) (h' := [s0, s1, s2, s3, s4, s5, s6, s7, s8, s9, jb_mdl I J d e kp nm (va_up Wc 9 (upd (Wc 9) m (((Wc 9) m) + 1))), s11]) dX12_heard_158 rfl (jb_ix_nI (by omega)) (by omega) rfl rfl ?_
          refine jb_iinc_ (pc' := 162) (nI (i + 2)) dX12_heard_159 (by decide) rfl (jb_inc i 2) (jb_at5 rfl) rfl ?_
          refine jb_goto (pc' := 81) dX12_heard_162 (by decide) ?_
          refine ih (i + 2) (va_up Wc 9 (upd (Wc 9) m (((Wc 9) m) + 1))) _ _ (by omega) (by omega) (fun r hr => (va_ne hr).trans (hf r hr)) (fun g hg => ?_)
          obtain ⟨k, h1, h2⟩ := hc g hg
          rw [eG] at h2
          by_cases e : g = m
          · rw [if_pos (by rw [hd9, e])] at h2
            refine ⟨k + 1, ?_, h2⟩
            show upd (Wc 9) m (Wc 9 m + 1) g = _
            rw [e, jb_uee, ← e, h1, nI_1]
          · rw [if_neg (by rw [hd9]; exact fun z => e z.symm)] at h2
            exact ⟨k, (jb_une e).trans h1, h2⟩
        · show jb_J _ RX12 cX12_heard 8 (Option.some .int) false 3 0 0 81 [some (.ref 105), some (.int (nI s)), some (.int 2), some (.int 0), some (.int (nI (40 * s))), some (.int (nI i)), x6, x7] [] [s0, s1, s2, s3, s4, s5, s6, s7, s8, s9, jb_mdl I J d e kp nm Wc, s11] _
          refine jb_iload (pc' := 83) dX12_heard_81 rfl rfl ?_
          refine jb_iconst (pc' := 84) 1 dX12_heard_83 (by decide) rfl ?_
          refine jb_iadd (pc' := 85) dX12_heard_84 rfl ?_
          refine jb_top (v := .int ((nI i) + 1)) (w := .int (nI (i + 1))) (jb_vI (nI_add _ 1)) ?_
          refine jb_aload_n (pc' := 86) dX12_heard_85 rfl rfl ?_
          refine gf_X12_28 (pc' := 89) (v := .ref 112) dX12_heard_86 rfl rfl rfl ?_
          refine jb_iload_n (pc' := 90) dX12_heard_89 rfl rfl ?_
          refine jb_iaload (pc' := 91) (i9 := s) (f := (Wc 2)) dX12_heard_90 rfl (jb_ix_nI (by omega)) (by omega) rfl ?_
          refine jb_top (v := .int ((Wc 2) s)) (w := .int (nI zs)) (jb_vI (by rw [hf 2 (by decide)]; exact h2s)) ?_
          refine jb_icmp_ge (tgt := 165) (pc' := 94) dX12_heard_91 (by decide) rfl (fun z => absurd z (nI_ge (a := i + 1) (b := zs) (by omega) (by omega))) (fun _ => ?_)
          refine jb_aload_n (pc' := 95) dX12_heard_94 rfl rfl ?_
          refine gf_X12_31 (pc' := 98) (v := .ref 113) dX12_heard_95 rfl rfl rfl ?_
          refine jb_iload (pc' := 100) dX12_heard_98 rfl rfl ?_
          refine jb_iload (pc' := 102) dX12_heard_100 rfl rfl ?_
          refine jb_iadd (pc' := 103) dX12_heard_102 rfl ?_
          refine jb_top (v := .int ((nI (40 * s)) + (nI i))) (w := .int (nI (40 * s + i))) (jb_vI (nI_add _ _)) ?_
          refine jb_iaload (pc' := 104) (i9 := (40 * s + i)) (f := (Wc 3)) dX12_heard_103 rfl (jb_ix_nI (by omega)) (by omega) rfl ?_
          refine jb_top (v := .int ((Wc 3) (40 * s + i))) (w := .int (W 3 (40 * s + i))) (jb_vI (congrFun (hf 3 (by decide)) _)) ?_
          refine jb_i2l (pc' := 105) dX12_heard_104 rfl ?_
          refine jb_aload_n (pc' := 106) dX12_heard_105 rfl rfl ?_
          refine gf_X12_31 (pc' := 109) (v := .ref 113) dX12_heard_106 rfl rfl rfl ?_
          refine jb_iload (pc' := 111) dX12_heard_109 rfl rfl ?_
          refine jb_iload (pc' := 113) dX12_heard_111 rfl rfl ?_
          refine jb_iadd (pc' := 114) dX12_heard_113 rfl ?_
          refine jb_top (v := .int ((nI (40 * s)) + (nI i))) (w := .int (nI (40 * s + i))) (jb_vI (nI_add _ _)) ?_
          refine jb_iconst (pc' := 115) 1 dX12_heard_114 (by decide) rfl ?_
          refine jb_iadd (pc' := 116) dX12_heard_115 rfl ?_
          refine jb_top (v := .int ((nI (40 * s + i)) + 1)) (w := .int (nI (40 * s + i + 1))) (jb_vI (nI_add _ 1)) ?_
          refine jb_iaload (pc' := 117) (i9 := (40 * s + i + 1)) (f := (Wc 3)) dX12_heard_116 rfl (jb_ix_nI (by omega)) (by omega) rfl ?_
          refine jb_top (v := .int ((Wc 3) (40 * s + i + 1))) (w := .int (W 3 (40 * s + (i + 1)))) (jb_vI (congrFun (hf 3 (by decide)) _)) ?_
          refine jb_i2l (pc' := 118) dX12_heard_117 rfl ?_
          refine jb_lsub (pc' := 119) dX12_heard_118 rfl ?_
          refine jb_lstore_ (pc' := 121) dX12_heard_119 (by decide) (jb_lt6 rfl) rfl ?_
          refine jb_lload (pc' := 123) dX12_heard_121 rfl rfl ?_
          refine jb_lconst (pc' := 124) 0 dX12_heard_123 (by decide) rfl ?_
          refine jb_lcmp (pc' := 125) dX12_heard_124 rfl ?_
          refine jb_if_ge (tgt := 134) (pc' := 128) dX12_heard_125 (by decide) rfl (fun z => absurd z (Int32.not_le.mpr (jl_lt.mpr (jz_neg0.mpr hneg)))) (fun _ => ?_)
          refine jb_lload (pc' := 130) dX12_heard_128 rfl rfl ?_
          refine jb_lneg (pc' := 131) dX12_heard_130 rfl ?_
          refine jb_top (v := .long (-(((W 3 (40 * s + i)).toInt64) - ((W 3 (40 * s + (i + 1))).toInt64)))) (w := .long (lN m)) (jb_vL (by rw [jz_lNn hneg, hm])) ?_
          refine jb_goto (pc' := 136) dX12_heard_131 (by decide) ?_
          refine jb_lstore_ (pc' := 138) dX12_heard_136 (by decide) (jb_lt6 rfl) rfl ?_
          refine jb_lload (pc' := 140) dX12_heard_138 rfl rfl ?_
          refine jb_ldc2 (pc' := 143) 41 dX12_heard_140 wk_X12_250 rfl ?_
          refine jb_lcmp (pc' := 144) dX12_heard_143 rfl ?_
          refine jb_if_ge (tgt := 159) (pc' := 147) dX12_heard_144 (by decide) rfl (fun _ => ?_) (fun z => absurd (jl_ge.mpr (fun z => h41 ((jz_41 m hm62).mp z))) z)
          refine jb_iinc_ (pc' := 162) (nI (i + 2)) dX12_heard_159 (by decide) rfl (jb_inc i 2) (jb_at5 rfl) rfl ?_
          refine jb_goto (pc' := 81) dX12_heard_162 (by decide) ?_
          refine ih (i + 2) Wc _ _ (by omega) (by omega) hf (fun g hg => ?_)
          obtain ⟨k, h1, h2⟩ := hc g hg
          rw [eG, if_neg (by rw [hd9]; omega)] at h2
          exact ⟨k, h1, h2⟩
      · by_cases h41 : m < 41
        · show jb_J _ RX12 cX12_heard 8 (Option.some .int) false 3 0 0 81 [some (.ref 105), some (.int (nI s)), some (.int 2), some (.int 0), some (.int (nI (40 * s))), some (.int (nI i)), x6, x7] [] [s0, s1, s2, s3, s4, s5, s6, s7, s8, s9, jb_mdl I J d e kp nm Wc, s11] _
          refine jb_iload (pc' := 83) dX12_heard_81 rfl rfl ?_
          refine jb_iconst (pc' := 84) 1 dX12_heard_83 (by decide) rfl ?_
          refine jb_iadd (pc' := 85) dX12_heard_84 rfl ?_
          refine jb_top (v := .int ((nI i) + 1)) (w := .int (nI (i + 1))) (jb_vI (nI_add _ 1)) ?_
          refine jb_aload_n (pc' := 86) dX12_heard_85 rfl rfl ?_
          refine gf_X12_28 (pc' := 89) (v := .ref 112) dX12_heard_86 rfl rfl rfl ?_
          refine jb_iload_n (pc' := 90) dX12_heard_89 rfl rfl ?_
          refine jb_iaload (pc' := 91) (i9 := s) (f := (Wc 2)) dX12_heard_90 rfl (jb_ix_nI (by omega)) (by omega) rfl ?_
          refine jb_top (v := .int ((Wc 2) s)) (w := .int (nI zs)) (jb_vI (by rw [hf 2 (by decide)]; exact h2s)) ?_
          refine jb_icmp_ge (tgt := 165) (pc' := 94) dX12_heard_91 (by decide) rfl (fun z => absurd z (nI_ge (a := i + 1) (b := zs) (by omega) (by omega))) (fun _ => ?_)
          refine jb_aload_n (pc' := 95) dX12_heard_94 rfl rfl ?_
          refine gf_X12_31 (pc' := 98) (v := .ref 113) dX12_heard_95 rfl rfl rfl ?_
          refine jb_iload (pc' := 100) dX12_heard_98 rfl rfl ?_
          refine jb_iload (pc' := 102) dX12_heard_100 rfl rfl ?_
          refine jb_iadd (pc' := 103) dX12_heard_102 rfl ?_
          refine jb_top (v := .int ((nI (40 * s)) + (nI i))) (w := .int (nI (40 * s + i))) (jb_vI (nI_add _ _)) ?_
          refine jb_iaload (pc' := 104) (i9 := (40 * s + i)) (f := (Wc 3)) dX12_heard_103 rfl (jb_ix_nI (by omega)) (by omega) rfl ?_
          refine jb_top (v := .int ((Wc 3) (40 * s + i))) (w := .int (W 3 (40 * s + i))) (jb_vI (congrFun (hf 3 (by decide)) _)) ?_
          refine jb_i2l (pc' := 105) dX12_heard_104 rfl ?_
          refine jb_aload_n (pc' := 106) dX12_heard_105 rfl rfl ?_
          refine gf_X12_31 (pc' := 109) (v := .ref 113) dX12_heard_106 rfl rfl rfl ?_
          refine jb_iload (pc' := 111) dX12_heard_109 rfl rfl ?_
          refine jb_iload (pc' := 113) dX12_heard_111 rfl rfl ?_
          refine jb_iadd (pc' := 114) dX12_heard_113 rfl ?_
          refine jb_top (v := .int ((nI (40 * s)) + (nI i))) (w := .int (nI (40 * s + i))) (jb_vI (nI_add _ _)) ?_
          refine jb_iconst (pc' := 115) 1 dX12_heard_114 (by decide) rfl ?_
          refine jb_iadd (pc' := 116) dX12_heard_115 rfl ?_
          refine jb_top (v := .int ((nI (40 * s + i)) + 1)) (w := .int (nI (40 * s + i + 1))) (jb_vI (nI_add _ 1)) ?_
          refine jb_iaload (pc' := 117) (i9 := (40 * s + i + 1)) (f := (Wc 3)) dX12_heard_116 rfl (jb_ix_nI (by omega)) (by omega) rfl ?_
          refine jb_top (v := .int ((Wc 3) (40 * s + i + 1))) (w := .int (W 3 (40 * s + (i + 1)))) (jb_vI (congrFun (hf 3 (by decide)) _)) ?_
          refine jb_i2l (pc' := 118) dX12_heard_117 rfl ?_
          refine jb_lsub (pc' := 119) dX12_heard_118 rfl ?_
          refine jb_top (v := .long (((W 3 (40 * s + i)).toInt64) - ((W 3 (40 * s + (i + 1))).toInt64))) (w := .long (lN m)) (jb_vL (by rw [jz_lN hneg, hm])) ?_
          refine jb_lstore_ (pc' := 121) dX12_heard_119 (by decide) (jb_lt6 rfl) rfl ?_
          refine jb_lload (pc' := 123) dX12_heard_121 rfl rfl ?_
          refine jb_lconst (pc' := 124) 0 dX12_heard_123 (by decide) rfl ?_
          refine jb_lcmp (pc' := 125) dX12_heard_124 rfl ?_
          refine jb_if_ge (tgt := 134) (pc' := 128) dX12_heard_125 (by decide) rfl (fun _ => ?_) (fun z => absurd (jl_ge.mpr (fun z => absurd ((pk_lLT (a := m) (b := 0) (by omega) (by decide)).mp z) (by omega))) z)
          refine jb_lload (pc' := 136) dX12_heard_134 rfl rfl ?_
          refine jb_lstore_ (pc' := 138) dX12_heard_136 (by decide) (jb_lt6 rfl) rfl ?_
          refine jb_lload (pc' := 140) dX12_heard_138 rfl rfl ?_
          refine jb_ldc2 (pc' := 143) 41 dX12_heard_140 wk_X12_250 rfl ?_
          refine jb_lcmp (pc' := 144) dX12_heard_143 rfl ?_
          refine jb_if_ge (tgt := 159) (pc' := 147) dX12_heard_144 (by decide) rfl (fun z => absurd z (Int32.not_le.mpr (jl_lt.mpr ((jz_41 m hm62).mpr h41)))) (fun _ => ?_)
          refine jb_aload_n (pc' := 148) dX12_heard_147 rfl rfl ?_
          refine gf_X12_49 (pc' := 151) (v := .ref 119) dX12_heard_148 rfl rfl rfl ?_
          refine jb_lload (pc' := 153) dX12_heard_151 rfl rfl ?_
          refine jb_l2i (pc' := 154) dX12_heard_153 rfl ?_
          refine jb_top (v := .int ((lN m).toInt32)) (w := .int (nI m)) (jb_vI (jz_i h41)) ?_
          refine jb_dup2 (pc' := 155) dX12_heard_154 rfl rfl rfl ?_
          refine jb_iaload (pc' := 156) (i9 := m) (f := (Wc 9)) dX12_heard_155 rfl (jb_ix_nI (by omega)) (by omega) rfl ?_
          refine jb_iconst (pc' := 157) 1 dX12_heard_156 (by decide) rfl ?_
          refine jb_iadd (pc' := 158) dX12_heard_157 rfl ?_
          refine jb_iastore (pc' := 159) (i9 := m) (f := (Wc 9)) (h' := [s0, s1, s2, s3, s4, s5, s6, s7, s8, s9, jb_mdl I J d e kp nm (va_up Wc 9 (upd (Wc 9) m (((Wc 9) m) + 1))), s11]) dX12_heard_158 rfl (jb_ix_nI (by omega)) (by omega) rfl rfl ?_
          refine jb_iinc_ (pc' := 162) (nI (i + 2)) dX12_heard_159 (by decide) rfl (jb_inc i 2) (jb_at5 rfl) rfl ?_
          refine jb_goto (pc' := 81) dX12_heard_162 (by decide) ?_
          refine ih (i + 2) (va_up Wc 9 (upd (Wc 9) m (((Wc 9) m) + 1))) _ _ (by omega) (by omega) (fun r hr => (va_ne hr).trans (hf r hr)) (fun g hg => ?_)
          obtain ⟨k, h1, h2⟩ := hc g hg
          rw [eG] at h2
          by_cases e : g = m
          · rw [if_pos (by rw [hd9, e])] at h2
            refine ⟨k + 1, ?_, h2⟩
            show upd (Wc 9) m (Wc 9 m + 1) g = _
            rw [e, jb_uee, ← e, h1, nI_1]
          · rw [if_neg (by rw [hd9]; exact fun z => e z.symm)] at h2
            exact ⟨k, (jb_une e).trans h1, h2⟩
        · show jb_J _ RX12 cX12_heard 8 (Option.some .int) false 3 0 0 81 [some (.ref 105), some (.int (nI s)), some (.int 2), some (.int 0), some (.int (nI (40 * s))), some (.int (nI i)), x6, x7] [] [s0, s1, s2, s3, s4, s5, s6, s7, s8, s9, jb_mdl I J d e kp nm Wc, s11] _
          refine jb_iload (pc' := 83) dX12_heard_81 rfl rfl ?_
          refine jb_iconst (pc' := 84) 1 dX12_heard_83 (by decide) rfl ?_
          refine jb_iadd (pc' := 85) dX12_heard_84 rfl ?_
          refine jb_top (v := .int ((nI i) + 1)) (w := .int (nI (i + 1))) (jb_vI (nI_add _ 1)) ?_
          refine jb_aload_n (pc' := 86) dX12_heard_85 rfl rfl ?_
          refine gf_X12_28 (pc' := 89) (v := .ref 112) dX12_heard_86 rfl rfl rfl ?_
          refine jb_iload_n (pc' := 90) dX12_heard_89 rfl rfl ?_
          refine jb_iaload (pc' := 91) (i9 := s) (f := (Wc 2)) dX12_heard_90 rfl (jb_ix_nI (by omega)) (by omega) rfl ?_
          refine jb_top (v := .int ((Wc 2) s)) (w := .int (nI zs)) (jb_vI (by rw [hf 2 (by decide)]; exact h2s)) ?_
          refine jb_icmp_ge (tgt := 165) (pc' := 94) dX12_heard_91 (by decide) rfl (fun z => absurd z (nI_ge (a := i + 1) (b := zs) (by omega) (by omega))) (fun _ => ?_)
          refine jb_aload_n (pc' := 95) dX12_heard_94 rfl rfl ?_
          refine gf_X12_31 (pc' := 98) (v := .ref 113) dX12_heard_95 rfl rfl rfl ?_
          refine jb_iload (pc' := 100) dX12_heard_98 rfl rfl ?_
          refine jb_iload (pc' := 102) dX12_heard_100 rfl rfl ?_
          refine jb_iadd (pc' := 103) dX12_heard_102 rfl ?_
          refine jb_top (v := .int ((nI (40 * s)) + (nI i))) (w := .int (nI (40 * s + i))) (jb_vI (nI_add _ _)) ?_
          refine jb_iaload (pc' := 104) (i9 := (40 * s + i)) (f := (Wc 3)) dX12_heard_103 rfl (jb_ix_nI (by omega)) (by omega) rfl ?_
          refine jb_top (v := .int ((Wc 3) (40 * s + i))) (w := .int (W 3 (40 * s + i))) (jb_vI (congrFun (hf 3 (by decide)) _)) ?_
          refine jb_i2l (pc' := 105) dX12_heard_104 rfl ?_
          refine jb_aload_n (pc' := 106) dX12_heard_105 rfl rfl ?_
          refine gf_X12_31 (pc' := 109) (v := .ref 113) dX12_heard_106 rfl rfl rfl ?_
          refine jb_iload (pc' := 111) dX12_heard_109 rfl rfl ?_
          refine jb_iload (pc' := 113) dX12_heard_111 rfl rfl ?_
          refine jb_iadd (pc' := 114) dX12_heard_113 rfl ?_
          refine jb_top (v := .int ((nI (40 * s)) + (nI i))) (w := .int (nI (40 * s + i))) (jb_vI (nI_add _ _)) ?_
          refine jb_iconst (pc' := 115) 1 dX12_heard_114 (by decide) rfl ?_
          refine jb_iadd (pc' := 116) dX12_heard_115 rfl ?_
          refine jb_top (v := .int ((nI (40 * s + i)) + 1)) (w := .int (nI (40 * s + i + 1))) (jb_vI (nI_add _ 1)) ?_
          refine jb_iaload (pc' := 117) (i9 := (40 * s + i + 1)) (f := (Wc 3)) dX12_heard_116 rfl (jb_ix_nI (by omega)) (by omega) rfl ?_
          refine jb_top (v := .int ((Wc 3) (40 * s + i + 1))) (w := .int (W 3 (40 * s + (i + 1)))) (jb_vI (congrFun (hf 3 (by decide)) _)) ?_
          refine jb_i2l (pc' := 118) dX12_heard_117 rfl ?_
          refine jb_lsub (pc' := 119) dX12_heard_118 rfl ?_
          refine jb_top (v := .long (((W 3 (40 * s + i)).toInt64) - ((W 3 (40 * s + (i + 1))).toInt64))) (w := .long (lN m)) (jb_vL (by rw [jz_lN hneg, hm])) ?_
          refine jb_lstore_ (pc' := 121) dX12_heard_119 (by decide) (jb_lt6 rfl) rfl ?_
          refine jb_lload (pc' := 123) dX12_heard_121 rfl rfl ?_
          refine jb_lconst (pc' := 124) 0 dX12_heard_123 (by decide) rfl ?_
          refine jb_lcmp (pc' := 125) dX12_heard_124 rfl ?_
          refine jb_if_ge (tgt := 134) (pc' := 128) dX12_heard_125 (by decide) rfl (fun _ => ?_) (fun z => absurd (jl_ge.mpr (fun z => absurd ((pk_lLT (a := m) (b := 0) (by omega) (by decide)).mp z) (by omega))) z)
          refine jb_lload (pc' := 136) dX12_heard_134 rfl rfl ?_
          refine jb_lstore_ (pc' := 138) dX12_heard_136 (by decide) (jb_lt6 rfl) rfl ?_
          refine jb_lload (pc' := 140) dX12_heard_138 rfl rfl ?_
          refine jb_ldc2 (pc' := 143) 41 dX12_heard_140 wk_X12_250 rfl ?_
          refine jb_lcmp (pc' := 144) dX12_heard_143 rfl ?_
          refine jb_if_ge (tgt := 159) (pc' := 147) dX12_heard_144 (by decide) rfl (fun _ => ?_) (fun z => absurd (jl_ge.mpr (fun z => h41 ((jz_41 m hm62).mp z))) z)
          refine jb_iinc_ (pc' := 162) (nI (i + 2)) dX12_heard_159 (by decide) rfl (jb_inc i 2) (jb_at5 rfl) rfl ?_
          refine jb_goto (pc' := 81) dX12_heard_162 (by decide) ?_
          refine ih (i + 2) Wc _ _ (by omega) (by omega) hf (fun g hg => ?_)
          obtain ⟨k, h1, h2⟩ := hc g hg
          rw [eG, if_neg (by rw [hd9]; omega)] at h2
          exact ⟨k, h1, h2⟩
    · have eG : ∀ g k, jz_n (fun k => W 3 (40 * s + k)) zs g (n + 1) i k = k := fun g k => if_neg hi1
      show jb_J _ RX12 cX12_heard 8 (Option.some .int) false 3 0 0 81 [some (.ref 105), some (.int (nI s)), some (.int 2), some (.int 0), some (.int (nI (40 * s))), some (.int (nI i)), x6, x7] [] [s0, s1, s2, s3, s4, s5, s6, s7, s8, s9, jb_mdl I J d e kp nm Wc, s11] _
      refine jb_iload (pc' := 83) dX12_heard_81 rfl rfl ?_
      refine jb_iconst (pc' := 84) 1 dX12_heard_83 (by decide) rfl ?_
      refine jb_iadd (pc' := 85) dX12_heard_84 rfl ?_
      refine jb_top (v := .int ((nI i) + 1)) (w := .int (nI (i + 1))) (jb_vI (nI_add _ 1)) ?_
      refine jb_aload_n (pc' := 86) dX12_heard_85 rfl rfl ?_
      refine gf_X12_28 (pc' := 89) (v := .ref 112) dX12_heard_86 rfl rfl rfl ?_
      refine jb_iload_n (pc' := 90) dX12_heard_89 rfl rfl ?_
      refine jb_iaload (pc' := 91) (i9 := s) (f := (Wc 2)) dX12_heard_90 rfl (jb_ix_nI (by omega)) (by omega) rfl ?_
      refine jb_top (v := .int ((Wc 2) s)) (w := .int (nI zs)) (jb_vI (by rw [hf 2 (by decide)]; exact h2s)) ?_
      refine jb_icmp_ge (tgt := 165) (pc' := 94) dX12_heard_91 (by decide) rfl (fun _ => ?_) (fun z => absurd (nI_le (a := zs) (b := i + 1) (by omega) (by omega)) z)
      refine jb_iconst (pc' := 166) 0 dX12_heard_165 (by decide) rfl ?_
      refine jb_istore_ (pc' := 168) dX12_heard_166 (by decide) (jb_at5 rfl) rfl ?_
      refine jb_iconst (pc' := 169) 1 dX12_heard_168 (by decide) rfl ?_
      refine jb_istore_ (pc' := 171) dX12_heard_169 (by decide) (jb_at6 rfl) rfl ?_
      exact l_he3_2 I J d e kp nm W s hs zs h2s hzs Wc hf (fun g hg => by obtain ⟨k, h1, h2⟩ := hc g hg; rw [h1]; exact congrArg nI ((h2.trans (eG g k)).symm)) 40 1 0 _ (by omega) (by omega) (fun h hh => by rw [show h = 0 by omega]; exact Nat.le_refl _) (fun h hh => absurd hh (by omega))
set_option maxRecDepth 100000 in
set_option maxHeartbeats 4000000 in
theorem l_he1_2 {sc : Nat × (Nat → Int32)} {s0 s1 s2 s3 s4 s5 s6 s7 s8 s9 s11 : List va_E} (I J d e kp nm : Nat → Int32) (W : Nat → Nat → Int32) (s : Nat) (hs : s < 4) (zs : Nat) (h2s : W 2 s = nI zs) (hzs : zs ≤ 40) : ∀ (n i : Nat) (Wc : Nat → Nat → Int32), i + n = 41 → (∀ r, ¬ r = 9 → Wc r = W r) → (∀ g, g < i → Wc 9 g = 0) → jb_J sc RX12 cX12_heard 8 (Option.some .int) false 3 0 0 51 [some (.ref 105), some (.int (nI s)), some (.int 2), some (.int 0), some (.int (nI i)), none, none, none] [] [s0, s1, s2, s3, s4, s5, s6, s7, s8, s9, jb_mdl I J d e kp nm Wc, s11] (fun r h9 => ∃ b9 W9, jz_B (fun g => jz_n (fun k => W 3 (40 * s + k)) zs g zs 0 0) b9 ∧ r = some (.int (nI (jz_f (fun k => W 3 (40 * s + k)) zs b9 zs 0 0))) ∧ (∀ r, ¬ r = 9 → W9 r = W r) ∧ h9 = [s0, s1, s2, s3, s4, s5, s6, s7, s8, s9, jb_mdl I J d e kp nm W9, s11]) := by
  intro n
  induction n with
  | zero =>
    intro i Wc hi hf hz
    show jb_J _ RX12 cX12_heard 8 (Option.some .int) false 3 0 0 51 [some (.ref 105), some (.int (nI s)), some (.int 2), some (.int 0), some (.int (nI i)), none, none, none] [] [s0, s1, s2, s3, s4, s5, s6, s7, s8, s9, jb_mdl I J d e kp nm Wc, s11] _
    refine jb_iload (pc' := 53) dX12_heard_51 rfl rfl ?_
    refine jb_bipush (pc' := 55) 41 dX12_heard_53 (by decide) rfl ?_
    refine jb_icmp_ge (tgt := 72) (pc' := 58) dX12_heard_55 (by decide) rfl (fun _ => ?_) (fun z => absurd (nI_le (a := 41) (b := i) (by omega) (by omega)) z)
    refine jb_bipush (pc' := 74) 40 dX12_heard_72 (by decide) rfl ?_
    refine jb_iload_n (pc' := 75) dX12_heard_74 rfl rfl ?_
    refine jb_imul (pc' := 76) dX12_heard_75 rfl ?_
    refine jb_top (v := .int (40 * (nI s))) (w := .int (nI (40 * s))) (jb_vI (pk_mul 40 _)) ?_
    refine jb_istore_ (pc' := 78) dX12_heard_76 (by decide) (jb_at4 rfl) rfl ?_
    refine jb_iconst (pc' := 79) 0 dX12_heard_78 (by decide) rfl ?_
    refine jb_istore_ (pc' := 81) dX12_heard_79 (by decide) (jb_at5 rfl) rfl ?_
    exact l_he2_2 I J d e kp nm W s hs zs h2s hzs zs 0 Wc _ _ (by omega) (by omega) hf (fun g hg => ⟨0, hz g (by omega), rfl⟩)
  | succ n ih =>
    intro i Wc hi hf hz
    show jb_J _ RX12 cX12_heard 8 (Option.some .int) false 3 0 0 51 [some (.ref 105), some (.int (nI s)), some (.int 2), some (.int 0), some (.int (nI i)), none, none, none] [] [s0, s1, s2, s3, s4, s5, s6, s7, s8, s9, jb_mdl I J d e kp nm Wc, s11] _
    refine jb_iload (pc' := 53) dX12_heard_51 rfl rfl ?_
    refine jb_bipush (pc' := 55) 41 dX12_heard_53 (by decide) rfl ?_
    refine jb_icmp_ge (tgt := 72) (pc' := 58) dX12_heard_55 (by decide) rfl (fun z => absurd z (nI_ge (a := i) (b := 41) (by omega) (by omega))) (fun _ => ?_)
    refine jb_aload_n (pc' := 59) dX12_heard_58 rfl rfl ?_
    refine gf_X12_49 (pc' := 62) (v := .ref 119) dX12_heard_59 rfl rfl rfl ?_
    refine jb_iload (pc' := 64) dX12_heard_62 rfl rfl ?_
    refine jb_iconst (pc' := 65) 0 dX12_heard_64 (by decide) rfl ?_
    refine jb_iastore (pc' := 66) (i9 := i) (f := (Wc 9)) (h' := [s0, s1, s2, s3, s4, s5, s6, s7, s8, s9, jb_mdl I J d e kp nm (va_up Wc 9 (upd (Wc 9) i 0)), s11]) dX12_heard_65 rfl (jb_ix_nI (by omega)) (by omega) rfl rfl ?_
    refine jb_iinc_ (pc' := 69) (nI (i + 1)) dX12_heard_66 (by decide) rfl (jb_inc i 1) (jb_at4 rfl) rfl ?_
    refine jb_goto (pc' := 51) dX12_heard_69 (by decide) ?_
    exact ih (i + 1) (va_up Wc 9 (upd (Wc 9) i 0)) (by omega) (fun r hr => (va_ne hr).trans (hf r hr)) (fun g hg => by show upd (Wc 9) i 0 g = 0; by_cases e : g = i; (· rw [e]; exact jb_uee); (· rw [jb_une e]; exact hz g (by omega)))
set_option maxRecDepth 100000 in
set_option maxHeartbeats 4000000 in
theorem mx_heard2 {sc : Nat × (Nat → Int32)} {s0 s1 s2 s3 s4 s5 s6 s7 s8 s9 s11 : List va_E} (I J d e kp nm : Nat → Int32) (W : Nat → Nat → Int32) (s : Nat) (hs : s < 4) {bs zs : Nat} (h1s : W 1 s = nI bs) (h2s : W 2 s = nI zs) (hbs : bs ≤ 32) (hzs : zs ≤ 40) (hm : ¬ bs = 0) (h2 : 2 ≤ zs) : jb_C sc yX12_heard cX12_heard 8 (Option.some .int) 3 0 0 [.ref 105, .int (nI s), .int 2] [s0, s1, s2, s3, s4, s5, s6, s7, s8, s9, jb_mdl I J d e kp nm W, s11] (fun r h9 => ∃ b9 W9, jz_B (fun g => jz_n (fun k => W 3 (40 * s + k)) zs g zs 0 0) b9 ∧ r = some (.int (nI (jz_f (fun k => W 3 (40 * s + k)) zs b9 zs 0 0))) ∧ (∀ r, ¬ r = 9 → W9 r = W r) ∧ h9 = [s0, s1, s2, s3, s4, s5, s6, s7, s8, s9, jb_mdl I J d e kp nm W9, s11]) := by
  refine jb_CofJ (ini := false) (by decide +kernel) (fun h => by cases h) (Nat.le_of_ble_eq_true rfl) ?_
  show jb_J sc RX12 cX12_heard 8 (Option.some .int) false 3 0 0 0 [some (.ref 105), some (.int (nI s)), some (.int 2), none, none, none, none, none] [] [s0, s1, s2, s3, s4, s5, s6, s7, s8, s9, jb_mdl I J d e kp nm W, s11] _
  refine jb_iload_n (pc' := 1) dX12_heard_0 rfl rfl ?_
  refine jb_i2l (pc' := 2) dX12_heard_1 rfl ?_
  refine jb_lconst (pc' := 3) 0 dX12_heard_2 (by decide) rfl ?_
  refine jb_ldc2 (pc' := 6) 2 dX12_heard_3 wk_X12_137 rfl ?_
  refine jb_callS (pc' := 9) (As := [.long ((2 : Int32).toInt64), .long 0, .long 2]) (a2 := 0) (b2 := 0) wv_X12_56 dX12_heard_6 (c_inLG _ 2 0 2 (by omega) (by omega) (by omega)) rfl ⟨by decide, Nat.le_of_eq (Nat.zero_add _), Nat.le_of_eq (Nat.zero_add _)⟩ (Nat.le_of_ble_eq_true rfl) rfl (fun r h9 hq => ?_)
  obtain ⟨rfl, rfl⟩ := hq
  show jb_J _ RX12 cX12_heard 8 (Option.some .int) false 3 0 0 9 [some (.ref 105), some (.int (nI s)), some (.int 2), none, none, none, none, none] [.int 1] [s0, s1, s2, s3, s4, s5, s6, s7, s8, s9, jb_mdl I J d e kp nm W, s11] _
  refine jb_if_ne (tgt := 16) (pc' := 12) dX12_heard_9 (by decide) rfl (fun _ => ?_) (fun z => absurd z (by decide))
  refine jb_aload_n (pc' := 17) dX12_heard_16 rfl rfl ?_
  refine jb_iload_n (pc' := 18) dX12_heard_17 rfl rfl ?_
  refine jb_callV (pc' := 21) (ci := 12) (q := 105) (As := [.int (nI s)]) (a2 := 0) (b2 := 0) wv_X12_236 rfl dX12_heard_18 (c_whyNot I J d e kp nm W s hs h1s h2s hbs hzs) rfl rfl ⟨by decide, Nat.le_of_eq (Nat.zero_add _), Nat.le_of_eq (Nat.zero_add _)⟩ (Nat.le_of_ble_eq_true rfl) rfl (fun r h9 hq => ?_)
  rcases hq with ⟨rfl, ⟨hms, rfl⟩ | ⟨hms, rfl⟩⟩
  · exact absurd hms hm
  · show jb_J _ RX12 cX12_heard 8 (Option.some .int) false 3 0 0 21 [some (.ref 105), some (.int (nI s)), some (.int 2), none, none, none, none, none] [.int 0] [s0, s1, s2, s3, s4, s5, s6, s7, s8, s9, jb_mdl I J d e kp nm W, s11] _
    refine jb_istore_n_ (pc' := 22) dX12_heard_21 (by decide) (jb_at3 rfl) rfl ?_
    refine jb_iload_n (pc' := 23) dX12_heard_22 rfl rfl ?_
    refine jb_if_ne (tgt := 38) (pc' := 26) dX12_heard_23 (by decide) rfl (fun z => absurd (by decide) z) (fun _ => ?_)
    refine jb_aload_n (pc' := 27) dX12_heard_26 rfl rfl ?_
    refine gf_X12_28 (pc' := 30) (v := .ref 112) dX12_heard_27 rfl rfl rfl ?_
    refine jb_iload_n (pc' := 31) dX12_heard_30 rfl rfl ?_
    refine jb_iaload (pc' := 32) (i9 := s) (f := (W 2)) dX12_heard_31 rfl (jb_ix_nI (by omega)) (by omega) rfl ?_
    refine jb_top (v := .int ((W 2) s)) (w := .int (nI zs)) (jb_vI h2s) ?_
    refine jb_iconst (pc' := 33) 2 dX12_heard_32 (by decide) rfl ?_
    refine jb_icmp_ge (tgt := 38) (pc' := 36) dX12_heard_33 (by decide) rfl (fun _ => ?_) (fun z => absurd (nI_le (a := 2) (b := zs) (by omega) (by omega)) z)
    refine jb_iload_n (pc' := 39) dX12_heard_38 rfl rfl ?_
    refine jb_if_eq (tgt := 48) (pc' := 42) dX12_heard_39 (by decide) rfl (fun _ => ?_) (fun z => absurd (by decide) z)
    refine jb_iconst (pc' := 49) 0 dX12_heard_48 (by decide) rfl ?_
    refine jb_istore_ (pc' := 51) dX12_heard_49 (by decide) (jb_at4 rfl) rfl ?_
    exact l_he1_2 I J d e kp nm W s hs zs h2s hzs 41 0 W (by omega) (fun _ _ => rfl) (fun g hg => absurd hg (by omega))
