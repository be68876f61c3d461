theorem jn_to {a q : Nat} (ha : a < 2 ^ 30) (hq : q < 2 ^ 30) : nI a - 1 = nI q ↔ a = q + 1 := by
  cases a with
  | zero =>
    constructor
    · intro h
      exfalso
      have h1 := congrArg Int32.toInt h
      rw [nI_toInt (by omega), show (nI 0 - 1).toInt = -1 by decide] at h1
      omega
    · intro h; omega
  | succ a =>
    rw [nI_pred, nI_eq (by omega) (by omega)]
    omega
theorem jm_hd_tt {z z1 c : Int32} (e : jm_dr z = z1) (h : ¬ c ≤ jm_us z1 - jm_us z1 / 10 * 10) : jm_hd true (if true = true then jm_dr z else z) c = true := by
  rw [if_pos rfl, e]
  unfold jm_hd
  rw [if_pos rfl]
  exact decide_eq_true (Int32.not_le.mp h)
theorem jm_hd_tf {z z1 c : Int32} (e : jm_dr z = z1) (h : c ≤ jm_us z1 - jm_us z1 / 10 * 10) : ¬ jm_hd true (if true = true then jm_dr z else z) c = true := by
  rw [if_pos rfl, e]
  unfold jm_hd
  rw [if_pos rfl]
  intro q
  exact Int32.not_lt.mpr h (of_decide_eq_true q)
theorem jm_hd_ft {z c : Int32} (h : ¬ c < 5) : jm_hd false z c = true := by
  unfold jm_hd
  rw [if_neg (by decide)]
  exact decide_eq_true (Int32.not_lt.mp h)
theorem jm_hd_ff {z c : Int32} (h : c < 5) : ¬ jm_hd false z c = true := by
  unfold jm_hd
  rw [if_neg (by decide)]
  intro q
  exact Int32.not_le.mpr h (of_decide_eq_true q)
theorem jm_co_s (G : jm_G) (lo : Bool) (s : Nat) (V : Nat → Nat → Nat) (z : Int32) (q : Nat) (h : jm_hd lo (if lo then jm_dr z else z) (jm_ca V G (V 5 s) (V 7 s)) = true ∧ V 7 s % 2 = 0 ∧ V 0 3 < 12) (hq : jm_q V (1 - V 6 s) = some q) : (jm_co G lo s (V, z)).1 = jm_due V q (jm_sa V G q (V 7 s)) s := by
  show (if jm_hd lo (if lo then jm_dr z else z) (jm_ca V G (V 5 s) (V 7 s)) = true ∧ V 7 s % 2 = 0 ∧ V 0 3 < 12 then (match jm_q V (1 - V 6 s) with | none => V | some q => jm_due V q (jm_sa V G q (V 7 s)) s) else V) = _
  rw [if_pos h, hq]
theorem jm_co_n (G : jm_G) (lo : Bool) (s : Nat) (V : Nat → Nat → Nat) (z : Int32) (hq : jm_q V (1 - V 6 s) = none) : (jm_co G lo s (V, z)).1 = V := by
  show (if jm_hd lo (if lo then jm_dr z else z) (jm_ca V G (V 5 s) (V 7 s)) = true ∧ V 7 s % 2 = 0 ∧ V 0 3 < 12 then (match jm_q V (1 - V 6 s) with | none => V | some q => jm_due V q (jm_sa V G q (V 7 s)) s) else V) = _
  rw [hq]
  exact ite_self V
theorem jm_co_f (G : jm_G) (lo : Bool) (s : Nat) (V : Nat → Nat → Nat) (z : Int32) (h : ¬ (jm_hd lo (if lo then jm_dr z else z) (jm_ca V G (V 5 s) (V 7 s)) = true ∧ V 7 s % 2 = 0 ∧ V 0 3 < 12)) : (jm_co G lo s (V, z)).1 = V := if_neg h
theorem jb_uee {f : Nat → Int32} {i : Nat} {x : Int32} : upd f i x i = x := if_pos rfl
theorem jb_une {f : Nat → Int32} {i j : Nat} {x : Int32} (h : ¬ j = i) : upd f i x j = f j := if_neg h
theorem jm_co_z0 (G : jm_G) (s : Nat) (V : Nat → Nat → Nat) (z : Int32) : (jm_co G false s (V, z)).2 = z := rfl
theorem jm_co_z1 (G : jm_G) (s : Nat) (V : Nat → Nat → Nat) (z : Int32) : (jm_co G true s (V, z)).2 = jm_dr z := rfl
theorem jr_by {V : Nat → Nat → Nat} {I : Nat → Int32} {W W' : Nat → Nat → Int32} (h : jr_ V I W) (h1 : ∀ r, r < 10 → W' r = W r) (h2 : ∀ k, k < V 0 3 → W' 10 k = W 10 k ∧ W' 11 k = W 11 k ∧ W' 12 k = W 12 k ∧ W' 13 k = W 13 k) : jr_ V I W' := by
  obtain ⟨r0, r2, r3, r4, a0, a1, a2, rv, rs, rd⟩ := h
  refine ⟨r0, r2, r3, r4, by rw [h1 0 (by decide)]; exact a0, by rw [h1 0 (by decide)]; exact a1, by rw [h1 0 (by decide)]; exact a2, fun p hp => ?_, fun s hs => ?_, fun k hk => ?_⟩
  · rw [h1 1 (by decide), h1 2 (by decide), h1 3 (by decide)]; exact rv p hp
  · rw [h1 4 (by decide), h1 5 (by decide), h1 6 (by decide), h1 7 (by decide), h1 8 (by decide), h1 9 (by decide)]; exact rs s hs
  · obtain ⟨e1, e2, e3, e4⟩ := h2 k hk
    rw [e1, e2, e3, e4]; exact rd k hk
def jq_w : Option Nat → Int32
  | none => -1
  | some q => nI q
def jq_l (V : Nat → Nat → Nat) : Option Nat → Int32
  | none => 0
  | some q => nI (jm_th V q)
set_option maxRecDepth 100000 in
set_option maxHeartbeats 4000000 in
theorem l_quick_13 {sc : Nat × (Nat → Int32)} {s2 s3 s4 s5 s6 s7 s8 s9 s10 s11 : List va_E} {V : Nat → Nat → Nat} (imm : Int32) (Im rowm stkm tpm : Nat → Int32) (Tm : Nat → Value) (I : Nat → Int32) (W : Nat → Nat → Int32) (T : Nat → Value) (hr : jr_ V I W) (hk : jv_ok V) (c : Nat) (hc : c < 2) : ∀ (n p : Nat) (o : Option Nat) (x5 : Option Value), p + n = V 0 1 → (∀ q, o = some q → q < V 0 1) → jb_J sc RX9 cX9_quickest 6 (Option.some .int) false 3 0 0 7 [some (.ref 13), some (.int (nI c)), some (.int (jq_w o)), some (.int (jq_l V o)), some (.int (nI p)), x5] [] [jb_main imm Im Tm rowm stkm tpm, jb_sch13 I W T, s2, s3, s4, s5, s6, s7, s8, s9, s10, s11] (fun r h9 => r = some (.int (jq_w (jm_qk V c n p o))) ∧ h9 = [jb_main imm Im Tm rowm stkm tpm, jb_sch13 I W T, s2, s3, s4, s5, s6, s7, s8, s9, s10, s11]) := by
  obtain ⟨r0, r2, r3, r4, a0, a1, a2, rv, rs, rd⟩ := hr
  obtain ⟨k0, k1, k2, k3, k4, k5, k6, k7, kv, ks, kd⟩ := hk
  intro n
  induction n with
  | zero =>
    intro p o x5 hp ho
    show jb_J _ RX9 cX9_quickest 6 (Option.some .int) false 3 0 0 7 [some (.ref 13), some (.int (nI c)), some (.int (jq_w o)), some (.int (jq_l V o)), some (.int (nI p)), x5] [] [jb_main imm Im Tm rowm stkm tpm, jb_sch13 I W T, s2, s3, s4, s5, s6, s7, s8, s9, s10, s11] _
    refine jb_iload (pc' := 9) dX9_quickest_7 rfl rfl ?_
    refine jb_aload_n (pc' := 10) dX9_quickest_9 rfl rfl ?_
    refine gf_X9_22 (pc' := 13) (v := .int (I 2)) dX9_quickest_10 rfl rfl rfl ?_
    refine jb_top (v := .int (I 2)) (w := .int (nI (V 0 1))) (jb_vI r2) ?_
    refine jb_icmp_ge (tgt := 86) (pc' := 16) dX9_quickest_13 (by decide) rfl (fun _ => ?_) (fun z => absurd (nI_le (a := V 0 1) (b := p) (by omega) (by omega)) z)
    refine jb_iload_n (pc' := 87) dX9_quickest_86 rfl rfl ?_
    refine jb_iret dX9_quickest_87 rfl ?_
    exact ⟨rfl, rfl⟩
  | succ n ih =>
    intro p o x5 hp ho
    have q1 := kv p (by omega)
    have b1 := jm_th_le ⟨k0, k1, k2, k3, k4, k5, k6, k7, kv, ks, kd⟩ (p := p) (by omega)
    cases o with
    | none =>
      show jb_J _ RX9 cX9_quickest 6 (Option.some .int) false 3 0 0 7 [some (.ref 13), some (.int (nI c)), some (.int (-1)), some (.int 0), some (.int (nI p)), x5] [] [jb_main imm Im Tm rowm stkm tpm, jb_sch13 I W T, s2, s3, s4, s5, s6, s7, s8, s9, s10, s11] _
      refine jb_iload (pc' := 9) dX9_quickest_7 rfl rfl ?_
      refine jb_aload_n (pc' := 10) dX9_quickest_9 rfl rfl ?_
      refine gf_X9_22 (pc' := 13) (v := .int (I 2)) dX9_quickest_10 rfl rfl rfl ?_
      refine jb_top (v := .int (I 2)) (w := .int (nI (V 0 1))) (jb_vI r2) ?_
      refine jb_icmp_ge (tgt := 86) (pc' := 16) dX9_quickest_13 (by decide) rfl (fun z => absurd z (nI_ge (a := p) (b := V 0 1) (by omega) (by omega))) (fun _ => ?_)
      refine jb_aload_n (pc' := 17) dX9_quickest_16 rfl rfl ?_
      refine gf_X9_27 (pc' := 20) (v := .ref 15) dX9_quickest_17 rfl rfl rfl ?_
      refine jb_iconst (pc' := 21) 2 dX9_quickest_20 (by decide) rfl ?_
      refine jb_aaload (pc' := 22) (i9 := 2) (r := 18) (Or.inl rfl) dX9_quickest_21 rfl jb_x2 (by decide) rfl rfl ?_
      refine jb_iload (pc' := 24) dX9_quickest_22 rfl rfl ?_
      refine jb_iaload (pc' := 25) (i9 := p) (f := (W 3)) dX9_quickest_24 rfl (jb_ix_nI (by omega)) (by omega) rfl ?_
      refine jb_top (v := .int ((W 3) p)) (w := .int (nI (V 3 p))) (jb_vI (rv p (by omega)).2.2) ?_
      refine jb_iload_n (pc' := 26) dX9_quickest_25 rfl rfl ?_
      refine jb_icmp_eq (tgt := 32) (pc' := 29) dX9_quickest_26 (by decide) rfl (fun hcl => ?_) (fun hcl => ?_)
      · have hcl : (V 3 p) = c := (nI_eq (a := (V 3 p)) (b := c) (by omega) (by omega)).mp hcl
        refine jb_aload_n (pc' := 33) dX9_quickest_32 rfl rfl ?_
        refine jb_iload (pc' := 35) dX9_quickest_33 rfl rfl ?_
        refine jb_callV (pc' := 38) (ci := 9) (q := 13) (As := [.int (nI p)]) (a2 := 0) (b2 := 0) wv_X9_82 rfl dX9_quickest_35 (c_kindOf_13 _ _ _ _ _ _ I W T ⟨r0, r2, r3, r4, a0, a1, a2, rv, rs, rd⟩ ⟨k0, k1, k2, k3, k4, k5, k6, k7, kv, ks, kd⟩ p (by omega)) rfl rfl ⟨by decide, Nat.le_of_eq (Nat.zero_add _), Nat.le_of_eq (Nat.zero_add _)⟩ (Nat.le_of_ble_eq_true rfl) rfl (fun r h9 hq => ?_)
        obtain ⟨rfl, rfl⟩ := hq
        show jb_J _ RX9 cX9_quickest 6 (Option.some .int) false 3 0 0 38 [some (.ref 13), some (.int (nI c)), some (.int (-1)), some (.int 0), some (.int (nI p)), x5] [.ref (6 + V 1 p)] [jb_main imm Im Tm rowm stkm tpm, jb_sch13 I W T, s2, s3, s4, s5, s6, s7, s8, s9, s10, s11] _
        refine jb_aload_n (pc' := 39) dX9_quickest_38 rfl rfl ?_
        refine gf_X9_27 (pc' := 42) (v := .ref 15) dX9_quickest_39 rfl rfl rfl ?_
        refine jb_iconst (pc' := 43) 1 dX9_quickest_42 (by decide) rfl ?_
        refine jb_aaload (pc' := 44) (i9 := 1) (r := 17) (Or.inl rfl) dX9_quickest_43 rfl jb_x1 (by decide) rfl rfl ?_
        refine jb_iload (pc' := 46) dX9_quickest_44 rfl rfl ?_
        refine jb_iaload (pc' := 47) (i9 := p) (f := (W 2)) dX9_quickest_46 rfl (jb_ix_nI (by omega)) (by omega) rfl ?_
        refine jb_top (v := .int ((W 2) p)) (w := .int (nI (V 2 p))) (jb_vI (rv p (by omega)).2.1) ?_
        refine jb_aload_n (pc' := 48) dX9_quickest_47 rfl rfl ?_
        refine gf_X9_9 (pc' := 51) (v := .ref 14) dX9_quickest_48 rfl rfl rfl ?_
        refine jb_iconst (pc' := 52) 1 dX9_quickest_51 (by decide) rfl ?_
        refine jb_iaload (pc' := 53) (i9 := 1) (f := (W 0)) dX9_quickest_52 rfl jb_x1 (by decide) rfl ?_
        refine jb_top (v := .int ((W 0) 1)) (w := .int (nI (V 0 5))) (jb_vI a1) ?_
        refine jb_aload_n (pc' := 54) dX9_quickest_53 rfl rfl ?_
        refine gf_X9_9 (pc' := 57) (v := .ref 14) dX9_quickest_54 rfl rfl rfl ?_
        refine jb_iconst (pc' := 58) 2 dX9_quickest_57 (by decide) rfl ?_
        refine jb_iaload (pc' := 59) (i9 := 2) (f := (W 0)) dX9_quickest_58 rfl jb_x2 (by decide) rfl ?_
        refine jb_top (v := .int ((W 0) 2)) (w := .int (nI (V 0 6))) (jb_vI a2) ?_
        refine jd_th (pc' := 62) (k := V 1 p) (by omega) (by omega) (by omega) (by omega) dX9_quickest_59 (by decide) (Nat.le_of_ble_eq_true rfl) rfl ?_
        refine jb_istore_ (pc' := 64) dX9_quickest_62 (by decide) (jb_at5 rfl) rfl ?_
        refine jb_iload_n (pc' := 65) dX9_quickest_64 rfl rfl ?_
        refine jb_if_lt (tgt := 74) (pc' := 68) dX9_quickest_65 (by decide) rfl (fun _ => ?_) (fun z => absurd (by decide) z)
        refine jb_iload (pc' := 76) dX9_quickest_74 rfl rfl ?_
        refine jb_istore_n_ (pc' := 77) dX9_quickest_76 (by decide) (jb_at2 rfl) rfl ?_
        refine jb_iload (pc' := 79) dX9_quickest_77 rfl rfl ?_
        refine jb_istore_n_ (pc' := 80) dX9_quickest_79 (by decide) (jb_at3 rfl) rfl ?_
        refine jb_iinc_ (pc' := 83) (nI (p + 1)) dX9_quickest_80 (by decide) rfl (jb_inc p 1) (jb_at4 rfl) rfl ?_
        refine jb_goto (pc' := 7) dX9_quickest_83 (by decide) ?_
        have e9 : jm_qk V c (n + 1) p (none) = jm_qk V c n (p + 1) (some p) := congrArg (jm_qk V c n (p + 1)) (if_pos ⟨hcl, by simp [jm_qb]⟩)
        rw [e9]
        exact ih (p + 1) (some p) _ (by omega) (fun q hq => by cases hq; omega)
      · have hcl : ¬ (V 3 p) = c := fun z9 => hcl ((nI_eq (a := (V 3 p)) (b := c) (by omega) (by omega)).mpr z9)
        refine jb_goto (pc' := 80) dX9_quickest_29 (by decide) ?_
        refine jb_iinc_ (pc' := 83) (nI (p + 1)) dX9_quickest_80 (by decide) rfl (jb_inc p 1) (jb_at4 rfl) rfl ?_
        refine jb_goto (pc' := 7) dX9_quickest_83 (by decide) ?_
        have e9 : jm_qk V c (n + 1) p (none) = jm_qk V c n (p + 1) (none) := congrArg (jm_qk V c n (p + 1)) (if_neg (fun z => hcl z.1))
        rw [e9]
        exact ih (p + 1) (none) _ (by omega) (fun q hq => by cases hq)
    | some q =>
      have hq := ho q rfl
      have b2 := jm_th_le ⟨k0, k1, k2, k3, k4, k5, k6, k7, kv, ks, kd⟩ (p := q) hq
      show jb_J _ RX9 cX9_quickest 6 (Option.some .int) false 3 0 0 7 [some (.ref 13), some (.int (nI c)), some (.int (nI q)), some (.int (nI (jm_th V q))), some (.int (nI p)), x5] [] [jb_main imm Im Tm rowm stkm tpm, jb_sch13 I W T, s2, s3, s4, s5, s6, s7, s8, s9, s10, s11] _
      refine jb_iload (pc' := 9) dX9_quickest_7 rfl rfl ?_
      refine jb_aload_n (pc' := 10) dX9_quickest_9 rfl rfl ?_
      refine gf_X9_22 (pc' := 13) (v := .int (I 2)) dX9_quickest_10 rfl rfl rfl ?_
      refine jb_top (v := .int (I 2)) (w := .int (nI (V 0 1))) (jb_vI r2) ?_
      refine jb_icmp_ge (tgt := 86) (pc' := 16) dX9_quickest_13 (by decide) rfl (fun z => absurd z (nI_ge (a := p) (b := V 0 1) (by omega) (by omega))) (fun _ => ?_)
      refine jb_aload_n (pc' := 17) dX9_quickest_16 rfl rfl ?_
      refine gf_X9_27 (pc' := 20) (v := .ref 15) dX9_quickest_17 rfl rfl rfl ?_
      refine jb_iconst (pc' := 21) 2 dX9_quickest_20 (by decide) rfl ?_
      refine jb_aaload (pc' := 22) (i9 := 2) (r := 18) (Or.inl rfl) dX9_quickest_21 rfl jb_x2 (by decide) rfl rfl ?_
      refine jb_iload (pc' := 24) dX9_quickest_22 rfl rfl ?_
      refine jb_iaload (pc' := 25) (i9 := p) (f := (W 3)) dX9_quickest_24 rfl (jb_ix_nI (by omega)) (by omega) rfl ?_
      refine jb_top (v := .int ((W 3) p)) (w := .int (nI (V 3 p))) (jb_vI (rv p (by omega)).2.2) ?_
      refine jb_iload_n (pc' := 26) dX9_quickest_25 rfl rfl ?_
      refine jb_icmp_eq (tgt := 32) (pc' := 29) dX9_quickest_26 (by decide) rfl (fun hcl => ?_) (fun hcl => ?_)
      · have hcl : (V 3 p) = c := (nI_eq (a := (V 3 p)) (b := c) (by omega) (by omega)).mp hcl
        refine jb_aload_n (pc' := 33) dX9_quickest_32 rfl rfl ?_
        refine jb_iload (pc' := 35) dX9_quickest_33 rfl rfl ?_
        refine jb_callV (pc' := 38) (ci := 9) (q := 13) (As := [.int (nI p)]) (a2 := 0) (b2 := 0) wv_X9_82 rfl dX9_quickest_35 (c_kindOf_13 _ _ _ _ _ _ I W T ⟨r0, r2, r3, r4, a0, a1, a2, rv, rs, rd⟩ ⟨k0, k1, k2, k3, k4, k5, k6, k7, kv, ks, kd⟩ p (by omega)) rfl rfl ⟨by decide, Nat.le_of_eq (Nat.zero_add _), Nat.le_of_eq (Nat.zero_add _)⟩ (Nat.le_of_ble_eq_true rfl) rfl (fun r h9 hq => ?_)
        obtain ⟨rfl, rfl⟩ := hq
        show jb_J _ RX9 cX9_quickest 6 (Option.some .int) false 3 0 0 38 [some (.ref 13), some (.int (nI c)), some (.int (nI q)), some (.int (nI (jm_th V q))), some (.int (nI p)), x5] [.ref (6 + V 1 p)] [jb_main imm Im Tm rowm stkm tpm, jb_sch13 I W T, s2, s3, s4, s5, s6, s7, s8, s9, s10, s11] _
        refine jb_aload_n (pc' := 39) dX9_quickest_38 rfl rfl ?_
        refine gf_X9_27 (pc' := 42) (v := .ref 15) dX9_quickest_39 rfl rfl rfl ?_
        refine jb_iconst (pc' := 43) 1 dX9_quickest_42 (by decide) rfl ?_
        refine jb_aaload (pc' := 44) (i9 := 1) (r := 17) (Or.inl rfl) dX9_quickest_43 rfl jb_x1 (by decide) rfl rfl ?_
        refine jb_iload (pc' := 46) dX9_quickest_44 rfl rfl ?_
        refine jb_iaload (pc' := 47) (i9 := p) (f := (W 2)) dX9_quickest_46 rfl (jb_ix_nI (by omega)) (by omega) rfl ?_
        refine jb_top (v := .int ((W 2) p)) (w := .int (nI (V 2 p))) (jb_vI (rv p (by omega)).2.1) ?_
        refine jb_aload_n (pc' := 48) dX9_quickest_47 rfl rfl ?_
        refine gf_X9_9 (pc' := 51) (v := .ref 14) dX9_quickest_48 rfl rfl rfl ?_
        refine jb_iconst (pc' := 52) 1 dX9_quickest_51 (by decide) rfl ?_
        refine jb_iaload (pc' := 53) (i9 := 1) (f := (W 0)) dX9_quickest_52 rfl jb_x1 (by decide) rfl ?_
        refine jb_top (v := .int ((W 0) 1)) (w := .int (nI (V 0 5))) (jb_vI a1) ?_
        refine jb_aload_n (pc' := 54) dX9_quickest_53 rfl rfl ?_
        refine gf_X9_9 (pc' := 57) (v := .ref 14) dX9_quickest_54 rfl rfl rfl ?_
        refine jb_iconst (pc' := 58) 2 dX9_quickest_57 (by decide) rfl ?_
        refine jb_iaload (pc' := 59) (i9 := 2) (f := (W 0)) dX9_quickest_58 rfl jb_x2 (by decide) rfl ?_
        refine jb_top (v := .int ((W 0) 2)) (w := .int (nI (V 0 6))) (jb_vI a2) ?_
        refine jd_th (pc' := 62) (k := V 1 p) (by omega) (by omega) (by omega) (by omega) dX9_quickest_59 (by decide) (Nat.le_of_ble_eq_true rfl) rfl ?_
        refine jb_istore_ (pc' := 64) dX9_quickest_62 (by decide) (jb_at5 rfl) rfl ?_
        refine jb_iload_n (pc' := 65) dX9_quickest_64 rfl rfl ?_
        refine jb_if_lt (tgt := 74) (pc' := 68) dX9_quickest_65 (by decide) rfl (fun z => absurd z (nI_pos (n := q) (by omega))) (fun _ => ?_)
        refine jb_iload (pc' := 70) dX9_quickest_68 rfl rfl ?_
        refine jb_iload_n (pc' := 71) dX9_quickest_70 rfl rfl ?_
        refine jb_icmp_ge (tgt := 80) (pc' := 74) dX9_quickest_71 (by decide) rfl (fun hth => ?_) (fun hth => ?_)
        · have hth : (jm_th V q) ≤ (jm_th V p) := (nI_leI (a := (jm_th V q)) (b := (jm_th V p)) (by omega) (by omega)).mp hth
          refine jb_iinc_ (pc' := 83) (nI (p + 1)) dX9_quickest_80 (by decide) rfl (jb_inc p 1) (jb_at4 rfl) rfl ?_
          refine jb_goto (pc' := 7) dX9_quickest_83 (by decide) ?_
          have e9 : jm_qk V c (n + 1) p (some q) = jm_qk V c n (p + 1) (some q) := congrArg (jm_qk V c n (p + 1)) (if_neg (fun z => by have := z.2; simp [jm_qb] at this; omega))
          rw [e9]
          exact ih (p + 1) (some q) _ (by omega) ho
        · have hth : ¬ (jm_th V q) ≤ (jm_th V p) := fun z9 => hth ((nI_leI (a := (jm_th V q)) (b := (jm_th V p)) (by omega) (by omega)).mpr z9)
          refine jb_iload (pc' := 76) dX9_quickest_74 rfl rfl ?_
          refine jb_istore_n_ (pc' := 77) dX9_quickest_76 (by decide) (jb_at2 rfl) rfl ?_
          refine jb_iload (pc' := 79) dX9_quickest_77 rfl rfl ?_
          refine jb_istore_n_ (pc' := 80) dX9_quickest_79 (by decide) (jb_at3 rfl) rfl ?_
          refine jb_iinc_ (pc' := 83) (nI (p + 1)) dX9_quickest_80 (by decide) rfl (jb_inc p 1) (jb_at4 rfl) rfl ?_
          refine jb_goto (pc' := 7) dX9_quickest_83 (by decide) ?_
          have e9 : jm_qk V c (n + 1) p (some q) = jm_qk V c n (p + 1) (some p) := congrArg (jm_qk V c n (p + 1)) (if_pos ⟨hcl, by simp [jm_qb]; omega⟩)
          rw [e9]
          exact ih (p + 1) (some p) _ (by omega) (fun q hq => by cases hq; omega)
      · have hcl : ¬ (V 3 p) = c := fun z9 => hcl ((nI_eq (a := (V 3 p)) (b := c) (by omega) (by omega)).mpr z9)
        refine jb_goto (pc' := 80) dX9_quickest_29 (by decide) ?_
        refine jb_iinc_ (pc' := 83) (nI (p + 1)) dX9_quickest_80 (by decide) rfl (jb_inc p 1) (jb_at4 rfl) rfl ?_
        refine jb_goto (pc' := 7) dX9_quickest_83 (by decide) ?_
        have e9 : jm_qk V c (n + 1) p (some q) = jm_qk V c n (p + 1) (some q) := congrArg (jm_qk V c n (p + 1)) (if_neg (fun z => hcl z.1))
        rw [e9]
        exact ih (p + 1) (some q) _ (by omega) ho
set_option maxRecDepth 100000 in
set_option maxHeartbeats 4000000 in
theorem c_quickest_13 {sc : Nat × (Nat → Int32)} {s2 s3 s4 s5 s6 s7 s8 s9 s10 s11 : List va_E} {V : Nat → Nat → Nat} (imm : Int32) (Im rowm stkm tpm : Nat → Int32) (Tm : Nat → Value) (I : Nat → Int32) (W : Nat → Nat → Int32) (T : Nat → Value) (hr : jr_ V I W) (hk : jv_ok V) (c : Nat) (hc : c < 2) : jb_C sc yX9_quickest cX9_quickest 6 (Option.some .int) 3 0 0 [.ref 13, .int (nI c)] [jb_main imm Im Tm rowm stkm tpm, jb_sch13 I W T, s2, s3, s4, s5, s6, s7, s8, s9, s10, s11] (fun r h9 => h9 = [jb_main imm Im Tm rowm stkm tpm, jb_sch13 I W T, s2, s3, s4, s5, s6, s7, s8, s9, s10, s11] ∧ ((jm_q V c = none ∧ r = some (.int (-1))) ∨ (∃ q, q < V 0 1 ∧ jm_q V c = some q ∧ r = some (.int (nI q))))) := by
  refine jb_CofJ (ini := false) (by decide +kernel) (fun h => by cases h) (Nat.le_of_ble_eq_true rfl) ?_
  show jb_J sc RX9 cX9_quickest 6 (Option.some .int) false 3 0 0 0 [some (.ref 13), some (.int (nI c)), none, none, none, none] [] [jb_main imm Im Tm rowm stkm tpm, jb_sch13 I W T, s2, s3, s4, s5, s6, s7, s8, s9, s10, s11] _
  refine jb_iconst (pc' := 1) (-1) dX9_quickest_0 (by decide) rfl ?_
  refine jb_istore_n_ (pc' := 2) dX9_quickest_1 (by decide) (jb_at2 rfl) rfl ?_
  refine jb_iconst (pc' := 3) 0 dX9_quickest_2 (by decide) rfl ?_
  refine jb_istore_n_ (pc' := 4) dX9_quickest_3 (by decide) (jb_at3 rfl) rfl ?_
  refine jb_iconst (pc' := 5) 0 dX9_quickest_4 (by decide) rfl ?_
  refine jb_istore_ (pc' := 7) dX9_quickest_5 (by decide) (jb_at4 rfl) rfl ?_
  refine jb_J.mono (l_quick_13 _ _ _ _ _ _ I W T hr hk c hc (V 0 1) 0 none _ (by omega) (fun q h => by cases h)) (Nat.le_refl _) (Nat.le_refl _) (Nat.le_refl _) (fun r h9 hq => ?_)
  obtain ⟨rfl, rfl⟩ := hq
  refine ⟨rfl, ?_⟩
  cases e : jm_q V c with
  | none => exact Or.inl ⟨rfl, by rw [show jm_qk V c (V 0 1) 0 none = none from e]; rfl⟩
  | some q => exact Or.inr ⟨q, jm_q_lt e, rfl, by rw [show jm_qk V c (V 0 1) 0 none = some q from e]; rfl⟩
set_option maxRecDepth 100000 in
set_option maxHeartbeats 4000000 in
theorem l_taught_13 {sc : Nat × (Nat → Int32)} {s0 s2 s3 s4 s5 s6 s7 s8 s9 s10 s11 : List va_E} {V : Nat → Nat → Nat} (I : Nat → Int32) (W : Nat → Nat → Int32) (T : Nat → Value) (hr : jr_ V I W) (hk : jv_ok V) (q : Nat) (hq : q < V 0 2) : ∀ (n s : Nat), s + n = V 0 2 → jb_J sc RX9 cX9_isTaught 4 (Option.some .boolean) false 0 0 0 13 [some (.ref 13), some (.int (nI q)), some (.int (nI (V 7 q + 1))), some (.int (nI s))] [] [s0, jb_sch13 I W T, s2, s3, s4, s5, s6, s7, s8, s9, s10, s11] (fun r h9 => h9 = [s0, jb_sch13 I W T, s2, s3, s4, s5, s6, s7, s8, s9, s10, s11] ∧ ((jm_it V q n s = true ∧ r = some (.int 1)) ∨ (jm_it V q n s = false ∧ r = some (.int 0)))) := by
  obtain ⟨r0, r2, r3, r4, a0, a1, a2, rv, rs, rd⟩ := hr
  obtain ⟨k0, k1, k2, k3, k4, k5, k6, k7, kv, ks, kd⟩ := hk
  have q0 := ks q hq
  intro n
  induction n with
  | zero =>
    intro s hs
    show jb_J _ RX9 cX9_isTaught 4 (Option.some .boolean) false 0 0 0 13 [some (.ref 13), some (.int (nI q)), some (.int (nI (V 7 q + 1))), some (.int (nI s))] [] [s0, jb_sch13 I W T, s2, s3, s4, s5, s6, s7, s8, s9, s10, s11] _
    refine jb_iload_n (pc' := 14) dX9_isTaught_13 rfl rfl ?_
    refine jb_aload_n (pc' := 15) dX9_isTaught_14 rfl rfl ?_
    refine gf_X9_30 (pc' := 18) (v := .int (I 3)) dX9_isTaught_15 rfl rfl rfl ?_
    refine jb_top (v := .int (I 3)) (w := .int (nI (V 0 2))) (jb_vI r3) ?_
    refine jb_icmp_ge (tgt := 68) (pc' := 21) dX9_isTaught_18 (by decide) rfl (fun _ => ?_) (fun z => absurd (nI_le (a := V 0 2) (b := s) (by omega) (by omega)) z)
    refine jb_iconst (pc' := 69) 0 dX9_isTaught_68 (by decide) rfl ?_
    refine jb_iret dX9_isTaught_69 rfl ?_
    exact ⟨rfl, Or.inr ⟨rfl, rfl⟩⟩
  | succ n ih =>
    intro s hs
    have q1 := ks s (by omega)
    show jb_J _ RX9 cX9_isTaught 4 (Option.some .boolean) false 0 0 0 13 [some (.ref 13), some (.int (nI q)), some (.int (nI (V 7 q + 1))), some (.int (nI s))] [] [s0, jb_sch13 I W T, s2, s3, s4, s5, s6, s7, s8, s9, s10, s11] _
    refine jb_iload_n (pc' := 14) dX9_isTaught_13 rfl rfl ?_
    refine jb_aload_n (pc' := 15) dX9_isTaught_14 rfl rfl ?_
    refine gf_X9_30 (pc' := 18) (v := .int (I 3)) dX9_isTaught_15 rfl rfl rfl ?_
    refine jb_top (v := .int (I 3)) (w := .int (nI (V 0 2))) (jb_vI r3) ?_
    refine jb_icmp_ge (tgt := 68) (pc' := 21) dX9_isTaught_18 (by decide) rfl (fun z => absurd z (nI_ge (a := s) (b := V 0 2) (by omega) (by omega))) (fun _ => ?_)
    refine jb_aload_n (pc' := 22) dX9_isTaught_21 rfl rfl ?_
    refine gf_X9_33 (pc' := 25) (v := .ref 19) dX9_isTaught_22 rfl rfl rfl ?_
    refine jb_iconst (pc' := 26) 4 dX9_isTaught_25 (by decide) rfl ?_
    refine jb_aaload (pc' := 27) (i9 := 4) (r := 24) (Or.inl rfl) dX9_isTaught_26 rfl jb_x4 (by decide) rfl rfl ?_
    refine jb_iload_n (pc' := 28) dX9_isTaught_27 rfl rfl ?_
    refine jb_iaload (pc' := 29) (i9 := s) (f := (W 8)) dX9_isTaught_28 rfl (jb_ix_nI (by omega)) (by omega) rfl ?_
    refine jb_top (v := .int ((W 8) s)) (w := .int (nI (V 8 s) - 1)) (jb_vI (rs s (by omega)).2.2.2.2.1) ?_
    refine jb_iload_n (pc' := 30) dX9_isTaught_29 rfl rfl ?_
    refine jb_icmp_ne (tgt := 62) (pc' := 33) dX9_isTaught_30 (by decide) rfl (fun c2 => ?_) (fun c2 => ?_)
    · have c2 : ¬ (V 8 s) = q + 1 := fun z9 => c2 ((jn_to (a := (V 8 s)) (q := q) (by omega) (by omega)).mpr z9)
      refine jb_iinc_ (pc' := 65) (nI (s + 1)) dX9_isTaught_62 (by decide) rfl (jb_inc s 1) (jb_at3 rfl) rfl ?_
      refine jb_goto (pc' := 13) dX9_isTaught_65 (by decide) ?_
      have e9 : jm_it V q (n + 1) s = jm_it V q n (s + 1) := if_neg (fun z => by omega)
      rw [e9]
      exact ih (s + 1) (by omega)
    · have c2 : (V 8 s) = q + 1 := (jn_to (a := (V 8 s)) (q := q) (by omega) (by omega)).mp c2
      refine jb_aload_n (pc' := 34) dX9_isTaught_33 rfl rfl ?_
      refine gf_X9_33 (pc' := 37) (v := .ref 19) dX9_isTaught_34 rfl rfl rfl ?_
      refine jb_iconst (pc' := 38) 3 dX9_isTaught_37 (by decide) rfl ?_
      refine jb_aaload (pc' := 39) (i9 := 3) (r := 23) (Or.inl rfl) dX9_isTaught_38 rfl jb_x3 (by decide) rfl rfl ?_
      refine jb_iload_n (pc' := 40) dX9_isTaught_39 rfl rfl ?_
      refine jb_iaload (pc' := 41) (i9 := s) (f := (W 7)) dX9_isTaught_40 rfl (jb_ix_nI (by omega)) (by omega) rfl ?_
      refine jb_top (v := .int ((W 7) s)) (w := .int (nI (V 7 s))) (jb_vI (rs s (by omega)).2.2.2.1) ?_
      refine jb_iload_n (pc' := 42) dX9_isTaught_41 rfl rfl ?_
      refine jb_icmp_ne (tgt := 62) (pc' := 45) dX9_isTaught_42 (by decide) rfl (fun c3 => ?_) (fun c3 => ?_)
      · have c3 : ¬ (V 7 s) = (V 7 q + 1) := fun z9 => c3 ((nI_eq (a := (V 7 s)) (b := (V 7 q + 1)) (by omega) (by omega)).mpr z9)
        refine jb_iinc_ (pc' := 65) (nI (s + 1)) dX9_isTaught_62 (by decide) rfl (jb_inc s 1) (jb_at3 rfl) rfl ?_
        refine jb_goto (pc' := 13) dX9_isTaught_65 (by decide) ?_
        have e9 : jm_it V q (n + 1) s = jm_it V q n (s + 1) := if_neg (fun z => by omega)
        rw [e9]
        exact ih (s + 1) (by omega)
      · have c3 : (V 7 s) = (V 7 q + 1) := (nI_eq (a := (V 7 s)) (b := (V 7 q + 1)) (by omega) (by omega)).mp c3
        refine jb_aload_n (pc' := 46) dX9_isTaught_45 rfl rfl ?_
        refine gf_X9_33 (pc' := 49) (v := .ref 19) dX9_isTaught_46 rfl rfl rfl ?_
        refine jb_iconst (pc' := 50) 5 dX9_isTaught_49 (by decide) rfl ?_
        refine jb_aaload (pc' := 51) (i9 := 5) (r := 25) (Or.inl rfl) dX9_isTaught_50 rfl jb_x5 (by decide) rfl rfl ?_
        refine jb_iload_n (pc' := 52) dX9_isTaught_51 rfl rfl ?_
        refine jb_iaload (pc' := 53) (i9 := s) (f := (W 9)) dX9_isTaught_52 rfl (jb_ix_nI (by omega)) (by omega) rfl ?_
        refine jb_top (v := .int ((W 9) s)) (w := .int (nI (V 9 s))) (jb_vI (rs s (by omega)).2.2.2.2.2) ?_
        refine jb_aload_n (pc' := 54) dX9_isTaught_53 rfl rfl ?_
        refine gf_X9_15 (pc' := 57) (v := .int (I 0)) dX9_isTaught_54 rfl rfl rfl ?_
        refine jb_top (v := .int (I 0)) (w := .int (nI (V 0 0))) (jb_vI r0) ?_
        refine jb_icmp_ge (tgt := 62) (pc' := 60) dX9_isTaught_57 (by decide) rfl (fun c4 => ?_) (fun c4 => ?_)
        · have c4 : (V 0 0) ≤ (V 9 s) := (nI_leI (a := (V 0 0)) (b := (V 9 s)) (by omega) (by omega)).mp c4
          refine jb_iinc_ (pc' := 65) (nI (s + 1)) dX9_isTaught_62 (by decide) rfl (jb_inc s 1) (jb_at3 rfl) rfl ?_
          refine jb_goto (pc' := 13) dX9_isTaught_65 (by decide) ?_
          have e9 : jm_it V q (n + 1) s = jm_it V q n (s + 1) := if_neg (fun z => by omega)
          rw [e9]
          exact ih (s + 1) (by omega)
        · have c4 : ¬ (V 0 0) ≤ (V 9 s) := fun z9 => c4 ((nI_leI (a := (V 0 0)) (b := (V 9 s)) (by omega) (by omega)).mpr z9)
          refine jb_iconst (pc' := 61) 1 dX9_isTaught_60 (by decide) rfl ?_
          refine jb_iret dX9_isTaught_61 rfl ?_
          exact ⟨rfl, Or.inl ⟨if_pos (by omega), rfl⟩⟩
set_option maxRecDepth 100000 in
set_option maxHeartbeats 4000000 in
theorem c_isTaught_13 {sc : Nat × (Nat → Int32)} {s0 s2 s3 s4 s5 s6 s7 s8 s9 s10 s11 : List va_E} {V : Nat → Nat → Nat} (I : Nat → Int32) (W : Nat → Nat → Int32) (T : Nat → Value) (hr : jr_ V I W) (hk : jv_ok V) (q : Nat) (hq : q < V 0 2) : jb_C sc yX9_isTaught cX9_isTaught 4 (Option.some .boolean) 0 0 0 [.ref 13, .int (nI q)] [s0, jb_sch13 I W T, s2, s3, s4, s5, s6, s7, s8, s9, s10, s11] (fun r h9 => h9 = [s0, jb_sch13 I W T, s2, s3, s4, s5, s6, s7, s8, s9, s10, s11] ∧ ((jm_it V q (V 0 2) 0 = true ∧ r = some (.int 1)) ∨ (jm_it V q (V 0 2) 0 = false ∧ r = some (.int 0)))) := by
  refine jb_CofJ (ini := false) (by decide +kernel) (fun h => by cases h) (Nat.le_of_ble_eq_true rfl) ?_
  show jb_J sc RX9 cX9_isTaught 4 (Option.some .boolean) false 0 0 0 0 [some (.ref 13), some (.int (nI q)), none, none] [] [s0, jb_sch13 I W T, s2, s3, s4, s5, s6, s7, s8, s9, s10, s11] _
  obtain ⟨r0, r2, r3, r4, a0, a1, a2, rv, rs, rd⟩ := hr
  obtain ⟨k0, k1, k2, k3, k4, k5, k6, k7, kv, ks, kd⟩ := hk
  have q0 := ks q hq
  refine jb_aload_n (pc' := 1) dX9_isTaught_0 rfl rfl ?_
  refine gf_X9_33 (pc' := 4) (v := .ref 19) dX9_isTaught_1 rfl rfl rfl ?_
  refine jb_iconst (pc' := 5) 3 dX9_isTaught_4 (by decide) rfl ?_
  refine jb_aaload (pc' := 6) (i9 := 3) (r := 23) (Or.inl rfl) dX9_isTaught_5 rfl jb_x3 (by decide) rfl rfl ?_
  refine jb_iload_n (pc' := 7) dX9_isTaught_6 rfl rfl ?_
  refine jb_iaload (pc' := 8) (i9 := q) (f := (W 7)) dX9_isTaught_7 rfl (jb_ix_nI (by omega)) (by omega) rfl ?_
  refine jb_top (v := .int ((W 7) q)) (w := .int (nI (V 7 q))) (jb_vI (rs q (by omega)).2.2.2.1) ?_
  refine jb_iconst (pc' := 9) 1 dX9_isTaught_8 (by decide) rfl ?_
  refine jb_iadd (pc' := 10) dX9_isTaught_9 rfl ?_
  refine jb_top (v := .int ((nI (V 7 q)) + 1)) (w := .int (nI ((V 7 q) + 1))) (jb_vI (nI_add _ 1)) ?_
  refine jb_istore_n_ (pc' := 11) dX9_isTaught_10 (by decide) (jb_at2 rfl) rfl ?_
  refine jb_iconst (pc' := 12) 0 dX9_isTaught_11 (by decide) rfl ?_
  refine jb_istore_n_ (pc' := 13) dX9_isTaught_12 (by decide) (jb_at3 rfl) rfl ?_
  exact l_taught_13 _ _ _ ⟨r0, r2, r3, r4, a0, a1, a2, rv, rs, rd⟩ ⟨k0, k1, k2, k3, k4, k5, k6, k7, kv, ks, kd⟩ q hq (V 0 2) 0 (by omega)
set_option maxRecDepth 100000 in
set_option maxHeartbeats 4000000 in
theorem l_taughts_13 {sc : Nat × (Nat → Int32)} {s0 s2 s3 s4 s5 s6 s7 s8 s9 s10 s11 : List va_E} {V : Nat → Nat → Nat} (I : Nat → Int32) (W : Nat → Nat → Int32) (T : Nat → Value) (hr : jr_ V I W) (hk : jv_ok V) : ∀ (n q k : Nat), q + n = V 0 2 → k ≤ q → jb_J sc RX9 cX9_questionsTaught 3 (Option.some .int) false 1 0 0 4 [some (.ref 13), some (.int (nI k)), some (.int (nI q))] [] [s0, jb_sch13 I W T, s2, s3, s4, s5, s6, s7, s8, s9, s10, s11] (fun r h9 => r = some (.int (nI (jm_tk V n q k))) ∧ h9 = [s0, jb_sch13 I W T, s2, s3, s4, s5, s6, s7, s8, s9, s10, s11]) := by
  obtain ⟨r0, r2, r3, r4, a0, a1, a2, rv, rs, rd⟩ := hr
  obtain ⟨k0, k1, k2, k3, k4, k5, k6, k7, kv, ks, kd⟩ := hk
  intro n
  induction n with
  | zero =>
    intro q k hq hkq
    show jb_J _ RX9 cX9_questionsTaught 3 (Option.some .int) false 1 0 0 4 [some (.ref 13), some (.int (nI k)), some (.int (nI q))] [] [s0, jb_sch13 I W T, s2, s3, s4, s5, s6, s7, s8, s9, s10, s11] _
    refine jb_iload_n (pc' := 5) dX9_questionsTaught_4 rfl rfl ?_
    refine jb_aload_n (pc' := 6) dX9_questionsTaught_5 rfl rfl ?_
    refine gf_X9_30 (pc' := 9) (v := .int (I 3)) dX9_questionsTaught_6 rfl rfl rfl ?_
    refine jb_top (v := .int (I 3)) (w := .int (nI (V 0 2))) (jb_vI r3) ?_
    refine jb_icmp_ge (tgt := 42) (pc' := 12) dX9_questionsTaught_9 (by decide) rfl (fun _ => ?_) (fun z => absurd (nI_le (a := V 0 2) (b := q) (by omega) (by omega)) z)
    refine jb_iload_n (pc' := 43) dX9_questionsTaught_42 rfl rfl ?_
    refine jb_iret dX9_questionsTaught_43 rfl ?_
    exact ⟨rfl, rfl⟩
  | succ n ih =>
    intro q k hq hkq
    have q1 := ks q (by omega)
    show jb_J _ RX9 cX9_questionsTaught 3 (Option.some .int) false 1 0 0 4 [some (.ref 13), some (.int (nI k)), some (.int (nI q))] [] [s0, jb_sch13 I W T, s2, s3, s4, s5, s6, s7, s8, s9, s10, s11] _
    refine jb_iload_n (pc' := 5) dX9_questionsTaught_4 rfl rfl ?_
    refine jb_aload_n (pc' := 6) dX9_questionsTaught_5 rfl rfl ?_
    refine gf_X9_30 (pc' := 9) (v := .int (I 3)) dX9_questionsTaught_6 rfl rfl rfl ?_
    refine jb_top (v := .int (I 3)) (w := .int (nI (V 0 2))) (jb_vI r3) ?_
    refine jb_icmp_ge (tgt := 42) (pc' := 12) dX9_questionsTaught_9 (by decide) rfl (fun z => absurd z (nI_ge (a := q) (b := V 0 2) (by omega) (by omega))) (fun _ => ?_)
    refine jb_aload_n (pc' := 13) dX9_questionsTaught_12 rfl rfl ?_
    refine gf_X9_33 (pc' := 16) (v := .ref 19) dX9_questionsTaught_13 rfl rfl rfl ?_
    refine jb_iconst (pc' := 17) 3 dX9_questionsTaught_16 (by decide) rfl ?_
    refine jb_aaload (pc' := 18) (i9 := 3) (r := 23) (Or.inl rfl) dX9_questionsTaught_17 rfl jb_x3 (by decide) rfl rfl ?_
    refine jb_iload_n (pc' := 19) dX9_questionsTaught_18 rfl rfl ?_
    refine jb_iaload (pc' := 20) (i9 := q) (f := (W 7)) dX9_questionsTaught_19 rfl (jb_ix_nI (by omega)) (by omega) rfl ?_
    refine jb_top (v := .int ((W 7) q)) (w := .int (nI (V 7 q))) (jb_vI (rs q (by omega)).2.2.2.1) ?_
    refine jb_iconst (pc' := 21) 2 dX9_questionsTaught_20 (by decide) rfl ?_
    refine jb_irem (pc' := 22) dX9_questionsTaught_21 (by decide) rfl ?_
    refine jb_top (v := .int ((nI (V 7 q)) - (nI (V 7 q)) / 2 * 2)) (w := .int (nI ((V 7 q) % 2))) (jb_vI (pk_rem (a := (V 7 q)) (d := 2) (by omega) (by omega) (by omega))) ?_
    refine jb_if_ne (tgt := 36) (pc' := 25) dX9_questionsTaught_22 (by decide) rfl (fun c2 => ?_) (fun c2 => ?_)
    · have c2 : ¬ ((V 7 q) % 2) = 0 := fun z9 => c2 ((nI_eq (a := ((V 7 q) % 2)) (b := 0) (by omega) (by omega)).mpr z9)
      refine jb_iinc_ (pc' := 39) (nI (q + 1)) dX9_questionsTaught_36 (by decide) rfl (jb_inc q 1) (jb_at2 rfl) rfl ?_
      refine jb_goto (pc' := 4) dX9_questionsTaught_39 (by decide) ?_
      have e9 : jm_tk V (n + 1) q k = jm_tk V n (q + 1) k := congrArg (jm_tk V n (q + 1)) (if_neg (fun z => by first | omega | simp_all))
      rw [e9]
      exact ih (q + 1) (k) (by omega) (by omega)
    · have c2 : ((V 7 q) % 2) = 0 := (nI_eq (a := ((V 7 q) % 2)) (b := 0) (by omega) (by omega)).mp c2
      refine jb_aload_n (pc' := 26) dX9_questionsTaught_25 rfl rfl ?_
      refine jb_iload_n (pc' := 27) dX9_questionsTaught_26 rfl rfl ?_
      refine jb_callV (pc' := 30) (ci := 9) (q := 13) (As := [.int (nI q)]) (a2 := 0) (b2 := 0) wv_X9_149 rfl dX9_questionsTaught_27 (c_isTaught_13 I W T ⟨r0, r2, r3, r4, a0, a1, a2, rv, rs, rd⟩ ⟨k0, k1, k2, k3, k4, k5, k6, k7, kv, ks, kd⟩ q (by omega)) rfl rfl ⟨by decide, Nat.le_of_eq (Nat.zero_add _), Nat.le_of_eq (Nat.zero_add _)⟩ (Nat.le_of_ble_eq_true rfl) rfl (fun r h9 hq => ?_)
      rcases hq with ⟨rfl, ⟨ht9, rfl⟩ | ⟨ht9, rfl⟩⟩
      · show jb_J _ RX9 cX9_questionsTaught 3 (Option.some .int) false 1 0 0 30 [some (.ref 13), some (.int (nI k)), some (.int (nI q))] [.int 1] [s0, jb_sch13 I W T, s2, s3, s4, s5, s6, s7, s8, s9, s10, s11] _
        refine jb_if_eq (tgt := 36) (pc' := 33) dX9_questionsTaught_30 (by decide) rfl (fun z => absurd z (by decide)) (fun _ => ?_)
        refine jb_iinc_ (pc' := 36) (nI (k + 1)) dX9_questionsTaught_33 (by decide) rfl (jb_inc k 1) (jb_at1 rfl) rfl ?_
        refine jb_iinc_ (pc' := 39) (nI (q + 1)) dX9_questionsTaught_36 (by decide) rfl (jb_inc q 1) (jb_at2 rfl) rfl ?_
        refine jb_goto (pc' := 4) dX9_questionsTaught_39 (by decide) ?_
        have e9 : jm_tk V (n + 1) q k = jm_tk V n (q + 1) (k + 1) := congrArg (jm_tk V n (q + 1)) (if_pos ⟨by omega, by assumption⟩)
        rw [e9]
        exact ih (q + 1) (k + 1) (by omega) (by omega)
      · show jb_J _ RX9 cX9_questionsTaught 3 (Option.some .int) false 1 0 0 30 [some (.ref 13), some (.int (nI k)), some (.int (nI q))] [.int 0] [s0, jb_sch13 I W T, s2, s3, s4, s5, s6, s7, s8, s9, s10, s11] _
        refine jb_if_eq (tgt := 36) (pc' := 33) dX9_questionsTaught_30 (by decide) rfl (fun _ => ?_) (fun z => absurd (by decide) z)
        refine jb_iinc_ (pc' := 39) (nI (q + 1)) dX9_questionsTaught_36 (by decide) rfl (jb_inc q 1) (jb_at2 rfl) rfl ?_
        refine jb_goto (pc' := 4) dX9_questionsTaught_39 (by decide) ?_
        have e9 : jm_tk V (n + 1) q k = jm_tk V n (q + 1) k := congrArg (jm_tk V n (q + 1)) (if_neg (fun z => by first | omega | simp_all))
        rw [e9]
        exact ih (q + 1) (k) (by omega) (by omega)
set_option maxRecDepth 100000 in
set_option maxHeartbeats 4000000 in
theorem c_taught_13 {sc : Nat × (Nat → Int32)} {s0 s2 s3 s4 s5 s6 s7 s8 s9 s10 s11 : List va_E} {V : Nat → Nat → Nat} (I : Nat → Int32) (W : Nat → Nat → Int32) (T : Nat → Value) (hr : jr_ V I W) (hk : jv_ok V) : jb_C sc yX9_questionsTaught cX9_questionsTaught 3 (Option.some .int) 1 0 0 [.ref 13] [s0, jb_sch13 I W T, s2, s3, s4, s5, s6, s7, s8, s9, s10, s11] (fun r h9 => r = some (.int (nI (jm_ta V))) ∧ h9 = [s0, jb_sch13 I W T, s2, s3, s4, s5, s6, s7, s8, s9, s10, s11]) := by
  refine jb_CofJ (ini := false) (by decide +kernel) (fun h => by cases h) (Nat.le_of_ble_eq_true rfl) ?_
  show jb_J sc RX9 cX9_questionsTaught 3 (Option.some .int) false 1 0 0 0 [some (.ref 13), none, none] [] [s0, jb_sch13 I W T, s2, s3, s4, s5, s6, s7, s8, s9, s10, s11] _
  refine jb_iconst (pc' := 1) 0 dX9_questionsTaught_0 (by decide) rfl ?_
  refine jb_istore_n_ (pc' := 2) dX9_questionsTaught_1 (by decide) (jb_at1 rfl) rfl ?_
  refine jb_iconst (pc' := 3) 0 dX9_questionsTaught_2 (by decide) rfl ?_
  refine jb_istore_n_ (pc' := 4) dX9_questionsTaught_3 (by decide) (jb_at2 rfl) rfl ?_
  exact l_taughts_13 _ _ _ hr hk (V 0 2) 0 0 (by omega) (by omega)
set_option maxRecDepth 100000 in
set_option maxHeartbeats 4000000 in
theorem c_addShout_13 {sc : Nat × (Nat → Int32)} {s0 s2 s3 s4 s5 s6 s7 s8 s9 s10 s11 : List va_E} {V : Nat → Nat → Nat} (I : Nat → Int32) (W : Nat → Nat → Int32) (T : Nat → Value) (hr : jr_ V I W) (hk : jv_ok V) (x w t : Nat) (hx : x < V 0 1) (hw : w < 40) (ht : t ≤ V 0 2) : jb_C sc yX9_addShout cX9_addShout 4 (Option.none : Option Jvm.ClassFile.FieldType) 1 0 0 [.ref 13, .int (nI x), .int (nI w), .int (nI t - 1)] [s0, jb_sch13 I W T, s2, s3, s4, s5, s6, s7, s8, s9, s10, s11] (fun r h9 => r = none ∧ ∃ I9 W9, jr_ (jm_as V x w t) I9 W9 ∧ I9 1 = I 1 ∧ jr_f I W I9 W9 ∧ h9 = [s0, jb_sch13 I9 W9 T, s2, s3, s4, s5, s6, s7, s8, s9, s10, s11]) := by
  refine jb_CofJ (ini := false) (by decide +kernel) (fun h => by cases h) (Nat.le_of_ble_eq_true rfl) ?_
  show jb_J sc RX9 cX9_addShout 4 (Option.none : Option Jvm.ClassFile.FieldType) false 1 0 0 0 [some (.ref 13), some (.int (nI x)), some (.int (nI w)), some (.int (nI t - 1))] [] [s0, jb_sch13 I W T, s2, s3, s4, s5, s6, s7, s8, s9, s10, s11] _
  obtain ⟨r0, r2, r3, r4, a0, a1, a2, rv, rs, rd⟩ := hr
  obtain ⟨k0, k1, k2, k3, k4, k5, k6, k7, kv, ks, kd⟩ := hk
  have q0 := kv x hx
  refine jb_aload_n (pc' := 1) dX9_addShout_0 rfl rfl ?_
  refine gf_X9_30 (pc' := 4) (v := .int (I 3)) dX9_addShout_1 rfl rfl rfl ?_
  refine jb_top (v := .int (I 3)) (w := .int (nI (V 0 2))) (jb_vI r3) ?_
  refine jb_bipush (pc' := 6) 40 dX9_addShout_4 (by decide) rfl ?_
  refine jb_icmp_lt (tgt := 10) (pc' := 9) dX9_addShout_6 (by decide) rfl (fun c1 => ?_) (fun c1 => ?_)
  · have c1 : (V 0 2) < 40 := (nI_ltI (a := (V 0 2)) (b := 40) (by omega) (by omega)).mp c1
    refine jb_aload_n (pc' := 11) dX9_addShout_10 rfl rfl ?_
    refine gf_X9_33 (pc' := 14) (v := .ref 19) dX9_addShout_11 rfl rfl rfl ?_
    refine jb_iconst (pc' := 15) 0 dX9_addShout_14 (by decide) rfl ?_
    refine jb_aaload (pc' := 16) (i9 := 0) (r := 20) (Or.inl rfl) dX9_addShout_15 rfl jb_x0 (by decide) rfl rfl ?_
    refine jb_aload_n (pc' := 17) dX9_addShout_16 rfl rfl ?_
    refine gf_X9_30 (pc' := 20) (v := .int (I 3)) dX9_addShout_17 rfl rfl rfl ?_
    refine jb_top (v := .int (I 3)) (w := .int (nI (V 0 2))) (jb_vI r3) ?_
    refine jb_aload_n (pc' := 21) dX9_addShout_20 rfl rfl ?_
    refine gf_X9_15 (pc' := 24) (v := .int (I 0)) dX9_addShout_21 rfl rfl rfl ?_
    refine jb_top (v := .int (I 0)) (w := .int (nI (V 0 0))) (jb_vI r0) ?_
    refine jb_iastore (pc' := 25) (i9 := (V 0 2)) (f := (W 4)) (h' := [s0, jb_sch13 I (va_up W 4 (upd (W 4) (V 0 2) (nI (V 0 0)))) T, s2, s3, s4, s5, s6, s7, s8, s9, s10, s11]) dX9_addShout_24 rfl (jb_ix_nI (by omega)) (by omega) rfl rfl ?_
    refine jb_aload_n (pc' := 26) dX9_addShout_25 rfl rfl ?_
    refine gf_X9_33 (pc' := 29) (v := .ref 19) dX9_addShout_26 rfl rfl rfl ?_
    refine jb_iconst (pc' := 30) 1 dX9_addShout_29 (by decide) rfl ?_
    refine jb_aaload (pc' := 31) (i9 := 1) (r := 21) (Or.inl rfl) dX9_addShout_30 rfl jb_x1 (by decide) rfl rfl ?_
    refine jb_aload_n (pc' := 32) dX9_addShout_31 rfl rfl ?_
    refine gf_X9_30 (pc' := 35) (v := .int (I 3)) dX9_addShout_32 rfl rfl rfl ?_
    refine jb_top (v := .int (I 3)) (w := .int (nI (V 0 2))) (jb_vI r3) ?_
    refine jb_iload_n (pc' := 36) dX9_addShout_35 rfl rfl ?_
    refine jb_iastore (pc' := 37) (i9 := (V 0 2)) (f := (W 5)) (h' := [s0, jb_sch13 I (va_up (va_up W 4 (upd (W 4) (V 0 2) (nI (V 0 0)))) 5 (upd (W 5) (V 0 2) (nI x))) T, s2, s3, s4, s5, s6, s7, s8, s9, s10, s11]) dX9_addShout_36 rfl (jb_ix_nI (by omega)) (by omega) rfl rfl ?_
    refine jb_aload_n (pc' := 38) dX9_addShout_37 rfl rfl ?_
    refine gf_X9_33 (pc' := 41) (v := .ref 19) dX9_addShout_38 rfl rfl rfl ?_
    refine jb_iconst (pc' := 42) 2 dX9_addShout_41 (by decide) rfl ?_
    refine jb_aaload (pc' := 43) (i9 := 2) (r := 22) (Or.inl rfl) dX9_addShout_42 rfl jb_x2 (by decide) rfl rfl ?_
    refine jb_aload_n (pc' := 44) dX9_addShout_43 rfl rfl ?_
    refine gf_X9_30 (pc' := 47) (v := .int (I 3)) dX9_addShout_44 rfl rfl rfl ?_
    refine jb_top (v := .int (I 3)) (w := .int (nI (V 0 2))) (jb_vI r3) ?_
    refine jb_aload_n (pc' := 48) dX9_addShout_47 rfl rfl ?_
    refine gf_X9_27 (pc' := 51) (v := .ref 15) dX9_addShout_48 rfl rfl rfl ?_
    refine jb_iconst (pc' := 52) 2 dX9_addShout_51 (by decide) rfl ?_
    refine jb_aaload (pc' := 53) (i9 := 2) (r := 18) (Or.inl rfl) dX9_addShout_52 rfl jb_x2 (by decide) rfl rfl ?_
    refine jb_iload_n (pc' := 54) dX9_addShout_53 rfl rfl ?_
    refine jb_iaload (pc' := 55) (i9 := x) (f := (W 3)) dX9_addShout_54 rfl (jb_ix_nI (by omega)) (by omega) rfl ?_
    refine jb_top (v := .int ((W 3) x)) (w := .int (nI (V 3 x))) (jb_vI (rv x (by omega)).2.2) ?_
    refine jb_iastore (pc' := 56) (i9 := (V 0 2)) (f := (W 6)) (h' := [s0, jb_sch13 I (va_up (va_up (va_up W 4 (upd (W 4) (V 0 2) (nI (V 0 0)))) 5 (upd (W 5) (V 0 2) (nI x))) 6 (upd (W 6) (V 0 2) (nI (V 3 x)))) T, s2, s3, s4, s5, s6, s7, s8, s9, s10, s11]) dX9_addShout_55 rfl (jb_ix_nI (by omega)) (by omega) rfl rfl ?_
    refine jb_aload_n (pc' := 57) dX9_addShout_56 rfl rfl ?_
    refine gf_X9_33 (pc' := 60) (v := .ref 19) dX9_addShout_57 rfl rfl rfl ?_
    refine jb_iconst (pc' := 61) 3 dX9_addShout_60 (by decide) rfl ?_
    refine jb_aaload (pc' := 62) (i9 := 3) (r := 23) (Or.inl rfl) dX9_addShout_61 rfl jb_x3 (by decide) rfl rfl ?_
    refine jb_aload_n (pc' := 63) dX9_addShout_62 rfl rfl ?_
    refine gf_X9_30 (pc' := 66) (v := .int (I 3)) dX9_addShout_63 rfl rfl rfl ?_
    refine jb_top (v := .int (I 3)) (w := .int (nI (V 0 2))) (jb_vI r3) ?_
    refine jb_iload_n (pc' := 67) dX9_addShout_66 rfl rfl ?_
    refine jb_iastore (pc' := 68) (i9 := (V 0 2)) (f := (W 7)) (h' := [s0, jb_sch13 I (va_up (va_up (va_up (va_up W 4 (upd (W 4) (V 0 2) (nI (V 0 0)))) 5 (upd (W 5) (V 0 2) (nI x))) 6 (upd (W 6) (V 0 2) (nI (V 3 x)))) 7 (upd (W 7) (V 0 2) (nI w))) T, s2, s3, s4, s5, s6, s7, s8, s9, s10, s11]) dX9_addShout_67 rfl (jb_ix_nI (by omega)) (by omega) rfl rfl ?_
    refine jb_aload_n (pc' := 69) dX9_addShout_68 rfl rfl ?_
    refine gf_X9_33 (pc' := 72) (v := .ref 19) dX9_addShout_69 rfl rfl rfl ?_
    refine jb_iconst (pc' := 73) 4 dX9_addShout_72 (by decide) rfl ?_
    refine jb_aaload (pc' := 74) (i9 := 4) (r := 24) (Or.inl rfl) dX9_addShout_73 rfl jb_x4 (by decide) rfl rfl ?_
    refine jb_aload_n (pc' := 75) dX9_addShout_74 rfl rfl ?_
    refine gf_X9_30 (pc' := 78) (v := .int (I 3)) dX9_addShout_75 rfl rfl rfl ?_
    refine jb_top (v := .int (I 3)) (w := .int (nI (V 0 2))) (jb_vI r3) ?_
    refine jb_iload_n (pc' := 79) dX9_addShout_78 rfl rfl ?_
    refine jb_iastore (pc' := 80) (i9 := (V 0 2)) (f := (W 8)) (h' := [s0, jb_sch13 I (va_up (va_up (va_up (va_up (va_up W 4 (upd (W 4) (V 0 2) (nI (V 0 0)))) 5 (upd (W 5) (V 0 2) (nI x))) 6 (upd (W 6) (V 0 2) (nI (V 3 x)))) 7 (upd (W 7) (V 0 2) (nI w))) 8 (upd (W 8) (V 0 2) (nI t - 1))) T, s2, s3, s4, s5, s6, s7, s8, s9, s10, s11]) dX9_addShout_79 rfl (jb_ix_nI (by omega)) (by omega) rfl rfl ?_
    refine jb_aload_n (pc' := 81) dX9_addShout_80 rfl rfl ?_
    refine gf_X9_33 (pc' := 84) (v := .ref 19) dX9_addShout_81 rfl rfl rfl ?_
    refine jb_iconst (pc' := 85) 5 dX9_addShout_84 (by decide) rfl ?_
    refine jb_aaload (pc' := 86) (i9 := 5) (r := 25) (Or.inl rfl) dX9_addShout_85 rfl jb_x5 (by decide) rfl rfl ?_
    refine jb_aload_n (pc' := 87) dX9_addShout_86 rfl rfl ?_
    refine gf_X9_30 (pc' := 90) (v := .int (I 3)) dX9_addShout_87 rfl rfl rfl ?_
    refine jb_top (v := .int (I 3)) (w := .int (nI (V 0 2))) (jb_vI r3) ?_
    refine jb_aload_n (pc' := 91) dX9_addShout_90 rfl rfl ?_
    refine gf_X9_15 (pc' := 94) (v := .int (I 0)) dX9_addShout_91 rfl rfl rfl ?_
    refine jb_top (v := .int (I 0)) (w := .int (nI (V 0 0))) (jb_vI r0) ?_
    refine jb_aload_n (pc' := 95) dX9_addShout_94 rfl rfl ?_
    refine jb_callV (pc' := 98) (ci := 9) (q := 13) (As := []) (a2 := 0) (b2 := 0) wv_X9_117 rfl dX9_addShout_95 (c_gap_13 _ _ _) rfl rfl ⟨by decide, Nat.le_of_eq (Nat.zero_add _), Nat.le_of_eq (Nat.zero_add _)⟩ (Nat.le_of_ble_eq_true rfl) rfl (fun r h9 hq => ?_)
    obtain ⟨rfl, rfl⟩ := hq
    show jb_J _ RX9 cX9_addShout 4 (Option.none : Option Jvm.ClassFile.FieldType) false 1 0 0 98 [some (.ref 13), some (.int (nI x)), some (.int (nI w)), some (.int (nI t - 1))] [.int (W 0 0 + W 0 1), .int (nI (V 0 0)), .int (nI (V 0 2)), .ref 25] [s0, jb_sch13 I (va_up (va_up (va_up (va_up (va_up W 4 (upd (W 4) (V 0 2) (nI (V 0 0)))) 5 (upd (W 5) (V 0 2) (nI x))) 6 (upd (W 6) (V 0 2) (nI (V 3 x)))) 7 (upd (W 7) (V 0 2) (nI w))) 8 (upd (W 8) (V 0 2) (nI t - 1))) T, s2, s3, s4, s5, s6, s7, s8, s9, s10, s11] _
    refine jb_top (v := .int (W 0 0 + W 0 1)) (w := .int (nI (V 0 4 + V 0 5))) (jb_vI (by rw [a0, a1, nI_add])) ?_
    refine jb_iadd (pc' := 99) dX9_addShout_98 rfl ?_
    refine jb_top (v := .int ((nI (V 0 0)) + (nI (V 0 4 + V 0 5)))) (w := .int (nI ((V 0 0) + (V 0 4 + V 0 5)))) (jb_vI (nI_add _ _)) ?_
    refine jb_iastore (pc' := 100) (i9 := (V 0 2)) (f := (W 9)) (h' := [s0, jb_sch13 I (va_up (va_up (va_up (va_up (va_up (va_up W 4 (upd (W 4) (V 0 2) (nI (V 0 0)))) 5 (upd (W 5) (V 0 2) (nI x))) 6 (upd (W 6) (V 0 2) (nI (V 3 x)))) 7 (upd (W 7) (V 0 2) (nI w))) 8 (upd (W 8) (V 0 2) (nI t - 1))) 9 (upd (W 9) (V 0 2) (nI ((V 0 0) + (V 0 4 + V 0 5))))) T, s2, s3, s4, s5, s6, s7, s8, s9, s10, s11]) dX9_addShout_99 rfl (jb_ix_nI (by omega)) (by omega) rfl rfl ?_
    refine jb_aload_n (pc' := 101) dX9_addShout_100 rfl rfl ?_
    refine jb_dup (pc' := 102) dX9_addShout_101 rfl rfl ?_
    refine gf_X9_30 (pc' := 105) (v := .int (I 3)) dX9_addShout_102 rfl rfl rfl ?_
    refine jb_top (v := .int (I 3)) (w := .int (nI (V 0 2))) (jb_vI r3) ?_
    refine jb_iconst (pc' := 106) 1 dX9_addShout_105 (by decide) rfl ?_
    refine jb_iadd (pc' := 107) dX9_addShout_106 rfl ?_
    refine jb_top (v := .int ((nI (V 0 2)) + 1)) (w := .int (nI ((V 0 2) + 1))) (jb_vI (nI_add _ 1)) ?_
    refine pf_X9_30 (pc' := 110) (h' := [s0, jb_sch13 (upd I 3 (nI ((V 0 2) + 1))) (va_up (va_up (va_up (va_up (va_up (va_up W 4 (upd (W 4) (V 0 2) (nI (V 0 0)))) 5 (upd (W 5) (V 0 2) (nI x))) 6 (upd (W 6) (V 0 2) (nI (V 3 x)))) 7 (upd (W 7) (V 0 2) (nI w))) 8 (upd (W 8) (V 0 2) (nI t - 1))) 9 (upd (W 9) (V 0 2) (nI ((V 0 0) + (V 0 4 + V 0 5))))) T, s2, s3, s4, s5, s6, s7, s8, s9, s10, s11]) dX9_addShout_107 (fun _ => ⟨rfl, rfl⟩) rfl (Nat.le_of_ble_eq_true rfl) rfl rfl ?_
    refine jb_vret dX9_addShout_110 ?_
    exact ⟨rfl, (upd I 3 (nI ((V 0 2) + 1))), (va_up (va_up (va_up (va_up (va_up (va_up W 4 (upd (W 4) (V 0 2) (nI (V 0 0)))) 5 (upd (W 5) (V 0 2) (nI x))) 6 (upd (W 6) (V 0 2) (nI (V 3 x)))) 7 (upd (W 7) (V 0 2) (nI w))) 8 (upd (W 8) (V 0 2) (nI t - 1))) 9 (upd (W 9) (V 0 2) (nI ((V 0 0) + (V 0 4 + V 0 5))))), by rw [jm_as, if_pos (by omega)]; exact jr_sh ⟨r0, r2, r3, r4, a0, a1, a2, rv, rs, rd⟩ x w t, rfl, ⟨rfl, rfl, rfl, rfl⟩, rfl⟩
  · have c1 : ¬ (V 0 2) < 40 := fun z9 => c1 ((nI_ltI (a := (V 0 2)) (b := 40) (by omega) (by omega)).mpr z9)
    refine jb_vret dX9_addShout_9 ?_
    exact ⟨rfl, I, W, by rw [jm_as, if_neg (by omega)]; exact ⟨r0, r2, r3, r4, a0, a1, a2, rv, rs, rd⟩, rfl, ⟨rfl, rfl, rfl, rfl⟩, rfl⟩
set_option maxRecDepth 100000 in
set_option maxHeartbeats 4000000 in
theorem c_comeOver1_13 {sc : Nat × (Nat → Int32)} {s2 s3 s4 s5 s6 s7 s8 s9 s10 s11 : List va_E} {V : Nat → Nat → Nat} (imm : Int32) (Im rowm stkm tpm : Nat → Int32) (Tm : Nat → Value) (I : Nat → Int32) (W : Nat → Nat → Int32) (T : Nat → Value) (hr : jr_ V I W) (hk : jv_ok V) {G : jm_G} (hG : jm_Gok G) (hg : jG13 sc T s11 G) (s : Nat) (hs : s < V 0 2) : jb_C sc yX9_comeOver cX9_comeOver 7 (Option.none : Option Jvm.ClassFile.FieldType) 6 0 0 [.ref 13, .int (nI s), .int 1] [jb_main imm Im Tm rowm stkm tpm, jb_sch13 I W T, s2, s3, s4, s5, s6, s7, s8, s9, s10, s11] (fun r h9 => r = none ∧ ∃ I9 W9 stk9, jr_ ((jm_co G true s (V, I 1)).1) I9 W9 ∧ I9 1 = (jm_co G true s (V, I 1)).2 ∧ jr_f I W I9 W9 ∧ h9 = [jb_main imm Im Tm rowm stk9 tpm, jb_sch13 I9 W9 T, s2, s3, s4, s5, s6, s7, s8, s9, s10, s11]) := by
  refine jb_CofJ (ini := false) (by decide +kernel) (fun h => by cases h) (Nat.le_of_ble_eq_true rfl) ?_
  show jb_J sc RX9 cX9_comeOver 7 (Option.none : Option Jvm.ClassFile.FieldType) false 6 0 0 0 [some (.ref 13), some (.int (nI s)), some (.int 1), none, none, none, none] [] [jb_main imm Im Tm rowm stkm tpm, jb_sch13 I W T, s2, s3, s4, s5, s6, s7, s8, s9, s10, s11] _
  obtain ⟨r0, r2, r3, r4, a0, a1, a2, rv, rs, rd⟩ := hr
  obtain ⟨k0, k1, k2, k3, k4, k5, k6, k7, kv, ks, kd⟩ := hk
  have q0 := ks s hs
  have q2 := kv (V 5 s) (by omega)
  refine jb_aload_n (pc' := 1) dX9_comeOver_0 rfl rfl ?_
  refine gf_X9_33 (pc' := 4) (v := .ref 19) dX9_comeOver_1 rfl rfl rfl ?_
  refine jb_iconst (pc' := 5) 3 dX9_comeOver_4 (by decide) rfl ?_
  refine jb_aaload (pc' := 6) (i9 := 3) (r := 23) (Or.inl rfl) dX9_comeOver_5 rfl jb_x3 (by decide) rfl rfl ?_
  refine jb_iload_n (pc' := 7) dX9_comeOver_6 rfl rfl ?_
  refine jb_iaload (pc' := 8) (i9 := s) (f := (W 7)) dX9_comeOver_7 rfl (jb_ix_nI (by omega)) (by omega) rfl ?_
  refine jb_top (v := .int ((W 7) s)) (w := .int (nI (V 7 s))) (jb_vI (rs s (by omega)).2.2.2.1) ?_
  refine jb_istore_n_ (pc' := 9) dX9_comeOver_8 (by decide) (jb_at3 rfl) rfl ?_
  refine jb_aload_n (pc' := 10) dX9_comeOver_9 rfl rfl ?_
  refine jb_aload_n (pc' := 11) dX9_comeOver_10 rfl rfl ?_
  refine gf_X9_33 (pc' := 14) (v := .ref 19) dX9_comeOver_11 rfl rfl rfl ?_
  refine jb_iconst (pc' := 15) 1 dX9_comeOver_14 (by decide) rfl ?_
  refine jb_aaload (pc' := 16) (i9 := 1) (r := 21) (Or.inl rfl) dX9_comeOver_15 rfl jb_x1 (by decide) rfl rfl ?_
  refine jb_iload_n (pc' := 17) dX9_comeOver_16 rfl rfl ?_
  refine jb_iaload (pc' := 18) (i9 := s) (f := (W 5)) dX9_comeOver_17 rfl (jb_ix_nI (by omega)) (by omega) rfl ?_
  refine jb_top (v := .int ((W 5) s)) (w := .int (nI (V 5 s))) (jb_vI (rs s (by omega)).2.1) ?_
  refine jb_iload_n (pc' := 19) dX9_comeOver_18 rfl rfl ?_
  refine jb_callV (pc' := 22) (ci := 9) (q := 13) (As := [.int (nI (V 5 s)), .int (nI (V 7 s))]) (a2 := 0) (b2 := 0) wv_X9_128 rfl dX9_comeOver_19 (c_carriage_13 _ _ _ _ _ _ I W T ⟨r0, r2, r3, r4, a0, a1, a2, rv, rs, rd⟩ ⟨k0, k1, k2, k3, k4, k5, k6, k7, kv, ks, kd⟩ hG hg (V 5 s) (V 7 s) (by omega) (by omega)) rfl rfl ⟨by decide, Nat.le_of_eq (Nat.zero_add _), Nat.le_of_eq (Nat.zero_add _)⟩ (Nat.le_of_ble_eq_true rfl) rfl (fun r h9 hq => ?_)
  obtain ⟨rfl, stk9, rfl⟩ := hq
  show jb_J _ RX9 cX9_comeOver 7 (Option.none : Option Jvm.ClassFile.FieldType) false 6 0 0 22 [some (.ref 13), some (.int (nI s)), some (.int 1), some (.int (nI (V 7 s))), none, none, none] [.int (jm_ca V G (V 5 s) (V 7 s))] [jb_main imm Im Tm rowm stk9 tpm, jb_sch13 I W T, s2, s3, s4, s5, s6, s7, s8, s9, s10, s11] _
  refine jb_istore_ (pc' := 24) dX9_comeOver_22 (by decide) (jb_at4 rfl) rfl ?_
  refine jb_iload_n (pc' := 25) dX9_comeOver_24 rfl rfl ?_
  refine jb_if_eq (tgt := 48) (pc' := 28) dX9_comeOver_25 (by decide) rfl (fun z => absurd z (by decide)) (fun _ => ?_)
  refine jb_aload_n (pc' := 29) dX9_comeOver_28 rfl rfl ?_
  refine jb_callV (pc' := 32) (ci := 9) (q := 13) (As := []) (a2 := 0) (b2 := 0) wv_X9_131 rfl dX9_comeOver_29 (c_draw_13 _ _ _) rfl rfl ⟨by decide, Nat.le_of_eq (Nat.zero_add _), Nat.le_of_eq (Nat.zero_add _)⟩ (Nat.le_of_ble_eq_true rfl) rfl (fun r h9 hq => ?_)
  obtain ⟨rfl, rfl⟩ := hq
  obtain ⟨z9, hz9⟩ : ∃ z, jm_dr (I 1) = z := ⟨_, rfl⟩
  rw [hz9]
  have hr8 : jr_ V (upd I 1 z9) W := ⟨r0, r2, r3, r4, a0, a1, a2, rv, rs, rd⟩
  have hz8 : (upd I 1 z9) 1 = z9 := jb_uee
  have hf8 : jr_f I W (upd I 1 z9) W := ⟨rfl, rfl, rfl, rfl⟩
  obtain ⟨I8, hI8⟩ : ∃ f, upd I 1 z9 = f := ⟨_, rfl⟩
  rw [hI8] at hr8 hz8 hf8 ⊢
  obtain ⟨r0, r2, r3, r4, a0, a1, a2, rv, rs, rd⟩ := hr8
  show jb_J _ RX9 cX9_comeOver 7 (Option.none : Option Jvm.ClassFile.FieldType) false 6 0 0 32 [some (.ref 13), some (.int (nI s)), some (.int 1), some (.int (nI (V 7 s))), some (.int (jm_ca V G (V 5 s) (V 7 s))), none, none] [.int (jm_us z9)] [jb_main imm Im Tm rowm stk9 tpm, jb_sch13 I8 W T, s2, s3, s4, s5, s6, s7, s8, s9, s10, s11] _
  refine jb_bipush (pc' := 34) 10 dX9_comeOver_32 (by decide) rfl ?_
  refine jb_irem (pc' := 35) dX9_comeOver_34 (by decide) rfl ?_
  refine jb_iload (pc' := 37) dX9_comeOver_35 rfl rfl ?_
  refine jb_icmp_ge (tgt := 44) (pc' := 40) dX9_comeOver_37 (by decide) rfl (fun hh => ?_) (fun hh => ?_)
  · have hh9 : ¬ jm_hd true (if true = true then jm_dr (I 1) else I 1) (jm_ca V G (V 5 s) (V 7 s)) = true := jm_hd_tf hz9 hh
    refine jb_iconst (pc' := 45) 0 dX9_comeOver_44 (by decide) rfl ?_
    refine jb_goto (pc' := 59) dX9_comeOver_45 (by decide) ?_
    refine jb_istore_ (pc' := 61) dX9_comeOver_59 (by decide) (jb_at5 rfl) rfl ?_
    refine jb_iload (pc' := 63) dX9_comeOver_61 rfl rfl ?_
    refine jb_if_eq (tgt := 81) (pc' := 66) dX9_comeOver_63 (by decide) rfl (fun _ => ?_) (fun z => absurd (by decide) z)
    refine jb_vret dX9_comeOver_81 ?_
    exact ⟨rfl, I8, W, stk9, by rw [jm_co_f G true s V (I 1) (fun z => by first | exact hh9 z.1 | omega)]; exact ⟨r0, r2, r3, r4, a0, a1, a2, rv, rs, rd⟩, Eq.trans (b := jm_dr (I 1)) (hz8.trans hz9.symm) (jm_co_z1 G s V (I 1)).symm, ⟨hf8.1, hf8.2.1, rfl, rfl⟩, rfl⟩
  · have hh9 : jm_hd true (if true = true then jm_dr (I 1) else I 1) (jm_ca V G (V 5 s) (V 7 s)) = true := jm_hd_tt hz9 hh
    refine jb_iconst (pc' := 41) 1 dX9_comeOver_40 (by decide) rfl ?_
    refine jb_goto (pc' := 59) dX9_comeOver_41 (by decide) ?_
    refine jb_istore_ (pc' := 61) dX9_comeOver_59 (by decide) (jb_at5 rfl) rfl ?_
    refine jb_iload (pc' := 63) dX9_comeOver_61 rfl rfl ?_
    refine jb_if_eq (tgt := 81) (pc' := 66) dX9_comeOver_63 (by decide) rfl (fun z => absurd z (by decide)) (fun _ => ?_)
    refine jb_iload_n (pc' := 67) dX9_comeOver_66 rfl rfl ?_
    refine jb_iconst (pc' := 68) 2 dX9_comeOver_67 (by decide) rfl ?_
    refine jb_irem (pc' := 69) dX9_comeOver_68 (by decide) rfl ?_
    refine jb_top (v := .int ((nI (V 7 s)) - (nI (V 7 s)) / 2 * 2)) (w := .int (nI ((V 7 s) % 2))) (jb_vI (pk_rem (a := (V 7 s)) (d := 2) (by omega) (by omega) (by omega))) ?_
    refine jb_if_ne (tgt := 81) (pc' := 72) dX9_comeOver_69 (by decide) rfl (fun c5 => ?_) (fun c5 => ?_)
    · have c5 : ¬ ((V 7 s) % 2) = 0 := fun z9 => c5 ((nI_eq (a := ((V 7 s) % 2)) (b := 0) (by omega) (by omega)).mpr z9)
      refine jb_vret dX9_comeOver_81 ?_
      exact ⟨rfl, I8, W, stk9, by rw [jm_co_f G true s V (I 1) (fun z => by first | exact hh9 z.1 | omega)]; exact ⟨r0, r2, r3, r4, a0, a1, a2, rv, rs, rd⟩, Eq.trans (b := jm_dr (I 1)) (hz8.trans hz9.symm) (jm_co_z1 G s V (I 1)).symm, ⟨hf8.1, hf8.2.1, rfl, rfl⟩, rfl⟩
    · have c5 : ((V 7 s) % 2) = 0 := (nI_eq (a := ((V 7 s) % 2)) (b := 0) (by omega) (by omega)).mp c5
      refine jb_aload_n (pc' := 73) dX9_comeOver_72 rfl rfl ?_
      refine gf_X9_36 (pc' := 76) (v := .int (I8 4)) dX9_comeOver_73 rfl rfl rfl ?_
      refine jb_top (v := .int (I8 4)) (w := .int (nI (V 0 3))) (jb_vI r4) ?_
      refine jb_bipush (pc' := 78) 12 dX9_comeOver_76 (by decide) rfl ?_
      refine jb_icmp_lt (tgt := 82) (pc' := 81) dX9_comeOver_78 (by decide) rfl (fun c6 => ?_) (fun c6 => ?_)
      · have c6 : (V 0 3) < 12 := (nI_ltI (a := (V 0 3)) (b := 12) (by omega) (by omega)).mp c6
        refine jb_aload_n (pc' := 83) dX9_comeOver_82 rfl rfl ?_
        refine jb_iconst (pc' := 84) 1 dX9_comeOver_83 (by decide) rfl ?_
        refine jb_aload_n (pc' := 85) dX9_comeOver_84 rfl rfl ?_
        refine gf_X9_33 (pc' := 88) (v := .ref 19) dX9_comeOver_85 rfl rfl rfl ?_
        refine jb_iconst (pc' := 89) 2 dX9_comeOver_88 (by decide) rfl ?_
        refine jb_aaload (pc' := 90) (i9 := 2) (r := 22) (Or.inl rfl) dX9_comeOver_89 rfl jb_x2 (by decide) rfl rfl ?_
        refine jb_iload_n (pc' := 91) dX9_comeOver_90 rfl rfl ?_
        refine jb_iaload (pc' := 92) (i9 := s) (f := (W 6)) dX9_comeOver_91 rfl (jb_ix_nI (by omega)) (by omega) rfl ?_
        refine jb_top (v := .int ((W 6) s)) (w := .int (nI (V 6 s))) (jb_vI (rs s (by omega)).2.2.1) ?_
        refine jb_isub (pc' := 93) dX9_comeOver_92 rfl ?_
        refine jb_top (v := .int (1 - (nI (V 6 s)))) (w := .int (nI (1 - (V 6 s)))) (jb_vI (pk_sub (a := 1) (by omega))) ?_
        refine jb_callV (pc' := 96) (ci := 9) (q := 13) (As := [.int (nI (1 - (V 6 s)))]) (a2 := 0) (b2 := 0) wv_X9_134 rfl dX9_comeOver_93 (c_quickest_13 _ _ _ _ _ _ I8 W T ⟨r0, r2, r3, r4, a0, a1, a2, rv, rs, rd⟩ ⟨k0, k1, k2, k3, k4, k5, k6, k7, kv, ks, kd⟩ (1 - (V 6 s)) (by omega)) rfl rfl ⟨by decide, Nat.le_of_eq (Nat.zero_add _), Nat.le_of_eq (Nat.zero_add _)⟩ (Nat.le_of_ble_eq_true rfl) rfl (fun r h9 hq => ?_)
        rcases hq with ⟨rfl, ⟨eq9, rfl⟩ | ⟨q, hq9, eq9, rfl⟩⟩
        · show jb_J _ RX9 cX9_comeOver 7 (Option.none : Option Jvm.ClassFile.FieldType) false 6 0 0 96 [some (.ref 13), some (.int (nI s)), some (.int 1), some (.int (nI (V 7 s))), some (.int (jm_ca V G (V 5 s) (V 7 s))), some (.int 1), none] [.int (-1)] [jb_main imm Im Tm rowm stk9 tpm, jb_sch13 I8 W T, s2, s3, s4, s5, s6, s7, s8, s9, s10, s11] _
          refine jb_istore_ (pc' := 98) dX9_comeOver_96 (by decide) (jb_at6 rfl) rfl ?_
          refine jb_iload (pc' := 100) dX9_comeOver_98 rfl rfl ?_
          refine jb_if_ge (tgt := 104) (pc' := 103) dX9_comeOver_100 (by decide) rfl (fun z => absurd z (by decide)) (fun _ => ?_)
          refine jb_vret dX9_comeOver_103 ?_
          exact ⟨rfl, I8, W, stk9, by rw [jm_co_n G true s V (I 1) eq9]; exact ⟨r0, r2, r3, r4, a0, a1, a2, rv, rs, rd⟩, Eq.trans (b := jm_dr (I 1)) (hz8.trans hz9.symm) (jm_co_z1 G s V (I 1)).symm, ⟨hf8.1, hf8.2.1, rfl, rfl⟩, rfl⟩
        · show jb_J _ RX9 cX9_comeOver 7 (Option.none : Option Jvm.ClassFile.FieldType) false 6 0 0 96 [some (.ref 13), some (.int (nI s)), some (.int 1), some (.int (nI (V 7 s))), some (.int (jm_ca V G (V 5 s) (V 7 s))), some (.int 1), none] [.int (nI q)] [jb_main imm Im Tm rowm stk9 tpm, jb_sch13 I8 W T, s2, s3, s4, s5, s6, s7, s8, s9, s10, s11] _
          refine jb_istore_ (pc' := 98) dX9_comeOver_96 (by decide) (jb_at6 rfl) rfl ?_
          refine jb_iload (pc' := 100) dX9_comeOver_98 rfl rfl ?_
          refine jb_if_ge (tgt := 104) (pc' := 103) dX9_comeOver_100 (by decide) rfl (fun _ => ?_) (fun z => absurd (nI_pos' (n := q) (by omega)) z)
          refine jb_aload_n (pc' := 105) dX9_comeOver_104 rfl rfl ?_
          refine gf_X9_39 (pc' := 108) (v := .ref 26) dX9_comeOver_105 rfl rfl rfl ?_
          refine jb_iconst (pc' := 109) 0 dX9_comeOver_108 (by decide) rfl ?_
          refine jb_aaload (pc' := 110) (i9 := 0) (r := 27) (Or.inl rfl) dX9_comeOver_109 rfl jb_x0 (by decide) rfl rfl ?_
          refine jb_aload_n (pc' := 111) dX9_comeOver_110 rfl rfl ?_
          refine gf_X9_36 (pc' := 114) (v := .int (I8 4)) dX9_comeOver_111 rfl rfl rfl ?_
          refine jb_top (v := .int (I8 4)) (w := .int (nI (V 0 3))) (jb_vI r4) ?_
          refine jb_iload (pc' := 116) dX9_comeOver_114 rfl rfl ?_
          refine jb_iastore (pc' := 117) (i9 := (V 0 3)) (f := (W 10)) (h' := [jb_main imm Im Tm rowm stk9 tpm, jb_sch13 I8 (va_up W 10 (upd (W 10) (V 0 3) (nI q))) T, s2, s3, s4, s5, s6, s7, s8, s9, s10, s11]) dX9_comeOver_116 rfl (jb_ix_nI (by omega)) (by omega) rfl rfl ?_
          refine jb_aload_n (pc' := 118) dX9_comeOver_117 rfl rfl ?_
          refine gf_X9_39 (pc' := 121) (v := .ref 26) dX9_comeOver_118 rfl rfl rfl ?_
          refine jb_iconst (pc' := 122) 1 dX9_comeOver_121 (by decide) rfl ?_
          refine jb_aaload (pc' := 123) (i9 := 1) (r := 28) (Or.inl rfl) dX9_comeOver_122 rfl jb_x1 (by decide) rfl rfl ?_
          refine jb_aload_n (pc' := 124) dX9_comeOver_123 rfl rfl ?_
          refine gf_X9_36 (pc' := 127) (v := .int (I8 4)) dX9_comeOver_124 rfl rfl rfl ?_
          refine jb_top (v := .int (I8 4)) (w := .int (nI (V 0 3))) (jb_vI r4) ?_
          refine jb_aload_n (pc' := 128) dX9_comeOver_127 rfl rfl ?_
          refine jb_iload (pc' := 130) dX9_comeOver_128 rfl rfl ?_
          refine jb_iload_n (pc' := 131) dX9_comeOver_130 rfl rfl ?_
          refine jb_callV (pc' := 134) (ci := 9) (q := 13) (As := [.int (nI q), .int (nI (V 7 s))]) (a2 := 0) (b2 := 0) wv_X9_138 rfl dX9_comeOver_131 (c_wordSaid_13 _ _ _ _ _ _ I8 (va_up W 10 (upd (W 10) (V 0 3) (nI q))) T (jr_by ⟨r0, r2, r3, r4, a0, a1, a2, rv, rs, rd⟩ (fun r hr9 => by simp only [va_up]; rw [if_neg (by omega)]) (fun k hk9 => ⟨by simp [va_up, upd, Nat.ne_of_lt hk9], by simp [va_up, upd, Nat.ne_of_lt hk9], by simp [va_up, upd, Nat.ne_of_lt hk9], by simp [va_up, upd, Nat.ne_of_lt hk9]⟩)) ⟨k0, k1, k2, k3, k4, k5, k6, k7, kv, ks, kd⟩ hG hg q (V 7 s) (by omega) (by omega)) rfl rfl ⟨by decide, Nat.le_of_eq (Nat.zero_add _), Nat.le_of_eq (Nat.zero_add _)⟩ (Nat.le_of_ble_eq_true rfl) rfl (fun r h9 hq => ?_)
          obtain ⟨rfl, stk9, rfl⟩ := hq
          show jb_J _ RX9 cX9_comeOver 7 (Option.none : Option Jvm.ClassFile.FieldType) false 6 0 0 134 [some (.ref 13), some (.int (nI s)), some (.int 1), some (.int (nI (V 7 s))), some (.int (jm_ca V G (V 5 s) (V 7 s))), some (.int 1), some (.int (nI q))] [.int (nI (jm_sa V G q (V 7 s))), .int (nI (V 0 3)), .ref 28] [jb_main imm Im Tm rowm stk9 tpm, jb_sch13 I8 (va_up W 10 (upd (W 10) (V 0 3) (nI q))) T, s2, s3, s4, s5, s6, s7, s8, s9, s10, s11] _
          refine jb_iastore (pc' := 135) (i9 := (V 0 3)) (f := (W 11)) (h' := [jb_main imm Im Tm rowm stk9 tpm, jb_sch13 I8 (va_up (va_up W 10 (upd (W 10) (V 0 3) (nI q))) 11 (upd (W 11) (V 0 3) (nI (jm_sa V G q (V 7 s))))) T, s2, s3, s4, s5, s6, s7, s8, s9, s10, s11]) dX9_comeOver_134 rfl (jb_ix_nI (by omega)) (by omega) rfl rfl ?_
          refine jb_aload_n (pc' := 136) dX9_comeOver_135 rfl rfl ?_
          refine gf_X9_39 (pc' := 139) (v := .ref 26) dX9_comeOver_136 rfl rfl rfl ?_
          refine jb_iconst (pc' := 140) 2 dX9_comeOver_139 (by decide) rfl ?_
          refine jb_aaload (pc' := 141) (i9 := 2) (r := 29) (Or.inl rfl) dX9_comeOver_140 rfl jb_x2 (by decide) rfl rfl ?_
          refine jb_aload_n (pc' := 142) dX9_comeOver_141 rfl rfl ?_
          refine gf_X9_36 (pc' := 145) (v := .int (I8 4)) dX9_comeOver_142 rfl rfl rfl ?_
          refine jb_top (v := .int (I8 4)) (w := .int (nI (V 0 3))) (jb_vI r4) ?_
          refine jb_iload_n (pc' := 146) dX9_comeOver_145 rfl rfl ?_
          refine jb_iastore (pc' := 147) (i9 := (V 0 3)) (f := (W 12)) (h' := [jb_main imm Im Tm rowm stk9 tpm, jb_sch13 I8 (va_up (va_up (va_up W 10 (upd (W 10) (V 0 3) (nI q))) 11 (upd (W 11) (V 0 3) (nI (jm_sa V G q (V 7 s))))) 12 (upd (W 12) (V 0 3) (nI s))) T, s2, s3, s4, s5, s6, s7, s8, s9, s10, s11]) dX9_comeOver_146 rfl (jb_ix_nI (by omega)) (by omega) rfl rfl ?_
          refine jb_aload_n (pc' := 148) dX9_comeOver_147 rfl rfl ?_
          refine gf_X9_39 (pc' := 151) (v := .ref 26) dX9_comeOver_148 rfl rfl rfl ?_
          refine jb_iconst (pc' := 152) 3 dX9_comeOver_151 (by decide) rfl ?_
          refine jb_aaload (pc' := 153) (i9 := 3) (r := 30) (Or.inl rfl) dX9_comeOver_152 rfl jb_x3 (by decide) rfl rfl ?_
          refine jb_aload_n (pc' := 154) dX9_comeOver_153 rfl rfl ?_
          refine gf_X9_36 (pc' := 157) (v := .int (I8 4)) dX9_comeOver_154 rfl rfl rfl ?_
          refine jb_top (v := .int (I8 4)) (w := .int (nI (V 0 3))) (jb_vI r4) ?_
          refine jb_aload_n (pc' := 158) dX9_comeOver_157 rfl rfl ?_
          refine gf_X9_15 (pc' := 161) (v := .int (I8 0)) dX9_comeOver_158 rfl rfl rfl ?_
          refine jb_top (v := .int (I8 0)) (w := .int (nI (V 0 0))) (jb_vI r0) ?_
          refine jb_aload_n (pc' := 162) dX9_comeOver_161 rfl rfl ?_
          refine jb_iload (pc' := 164) dX9_comeOver_162 rfl rfl ?_
          refine jb_callV (pc' := 167) (ci := 9) (q := 13) (As := [.int (nI q)]) (a2 := 0) (b2 := 0) wv_X9_141 rfl dX9_comeOver_164 (c_thinking_13 _ _ _ _ _ _ I8 (va_up (va_up (va_up W 10 (upd (W 10) (V 0 3) (nI q))) 11 (upd (W 11) (V 0 3) (nI (jm_sa V G q (V 7 s))))) 12 (upd (W 12) (V 0 3) (nI s))) T (jr_by ⟨r0, r2, r3, r4, a0, a1, a2, rv, rs, rd⟩ (fun r hr9 => by simp only [va_up]; rw [if_neg (by omega)]; rw [if_neg (by omega)]; rw [if_neg (by omega)]) (fun k hk9 => ⟨by simp [va_up, upd, Nat.ne_of_lt hk9], by simp [va_up, upd, Nat.ne_of_lt hk9], by simp [va_up, upd, Nat.ne_of_lt hk9], by simp [va_up, upd, Nat.ne_of_lt hk9]⟩)) ⟨k0, k1, k2, k3, k4, k5, k6, k7, kv, ks, kd⟩ q (by omega)) rfl rfl ⟨by decide, Nat.le_of_eq (Nat.zero_add _), Nat.le_of_eq (Nat.zero_add _)⟩ (Nat.le_of_ble_eq_true rfl) rfl (fun r h9 hq => ?_)
          obtain ⟨rfl, rfl⟩ := hq
          show jb_J _ RX9 cX9_comeOver 7 (Option.none : Option Jvm.ClassFile.FieldType) false 6 0 0 167 [some (.ref 13), some (.int (nI s)), some (.int 1), some (.int (nI (V 7 s))), some (.int (jm_ca V G (V 5 s) (V 7 s))), some (.int 1), some (.int (nI q))] [.int (nI (jm_th V q)), .int (nI (V 0 0)), .int (nI (V 0 3)), .ref 30] [jb_main imm Im Tm rowm stk9 tpm, jb_sch13 I8 (va_up (va_up (va_up W 10 (upd (W 10) (V 0 3) (nI q))) 11 (upd (W 11) (V 0 3) (nI (jm_sa V G q (V 7 s))))) 12 (upd (W 12) (V 0 3) (nI s))) T, s2, s3, s4, s5, s6, s7, s8, s9, s10, s11] _
          refine jb_iadd (pc' := 168) dX9_comeOver_167 rfl ?_
          refine jb_top (v := .int ((nI (V 0 0)) + (nI (jm_th V q)))) (w := .int (nI ((V 0 0) + (jm_th V q)))) (jb_vI (nI_add _ _)) ?_
          refine jb_iastore (pc' := 169) (i9 := (V 0 3)) (f := (W 13)) (h' := [jb_main imm Im Tm rowm stk9 tpm, jb_sch13 I8 (va_up (va_up (va_up (va_up W 10 (upd (W 10) (V 0 3) (nI q))) 11 (upd (W 11) (V 0 3) (nI (jm_sa V G q (V 7 s))))) 12 (upd (W 12) (V 0 3) (nI s))) 13 (upd (W 13) (V 0 3) (nI ((V 0 0) + (jm_th V q))))) T, s2, s3, s4, s5, s6, s7, s8, s9, s10, s11]) dX9_comeOver_168 rfl (jb_ix_nI (by omega)) (by omega) rfl rfl ?_
          refine jb_aload_n (pc' := 170) dX9_comeOver_169 rfl rfl ?_
          refine jb_dup (pc' := 171) dX9_comeOver_170 rfl rfl ?_
          refine gf_X9_36 (pc' := 174) (v := .int (I8 4)) dX9_comeOver_171 rfl rfl rfl ?_
          refine jb_top (v := .int (I8 4)) (w := .int (nI (V 0 3))) (jb_vI r4) ?_
          refine jb_iconst (pc' := 175) 1 dX9_comeOver_174 (by decide) rfl ?_
          refine jb_iadd (pc' := 176) dX9_comeOver_175 rfl ?_
          refine jb_top (v := .int ((nI (V 0 3)) + 1)) (w := .int (nI ((V 0 3) + 1))) (jb_vI (nI_add _ 1)) ?_
          refine pf_X9_36 (pc' := 179) (h' := [jb_main imm Im Tm rowm stk9 tpm, jb_sch13 (upd I8 4 (nI ((V 0 3) + 1))) (va_up (va_up (va_up (va_up W 10 (upd (W 10) (V 0 3) (nI q))) 11 (upd (W 11) (V 0 3) (nI (jm_sa V G q (V 7 s))))) 12 (upd (W 12) (V 0 3) (nI s))) 13 (upd (W 13) (V 0 3) (nI ((V 0 0) + (jm_th V q))))) T, s2, s3, s4, s5, s6, s7, s8, s9, s10, s11]) dX9_comeOver_176 (fun _ => ⟨rfl, rfl⟩) rfl (Nat.le_of_ble_eq_true rfl) rfl rfl ?_
          refine jb_vret dX9_comeOver_179 ?_
          exact ⟨rfl, (upd I8 4 (nI ((V 0 3) + 1))), (va_up (va_up (va_up (va_up W 10 (upd (W 10) (V 0 3) (nI q))) 11 (upd (W 11) (V 0 3) (nI (jm_sa V G q (V 7 s))))) 12 (upd (W 12) (V 0 3) (nI s))) 13 (upd (W 13) (V 0 3) (nI ((V 0 0) + (jm_th V q))))), stk9, by rw [jm_co_s G true s V (I 1) q ⟨hh9, by omega, by omega⟩ eq9]; exact jr_due ⟨r0, r2, r3, r4, a0, a1, a2, rv, rs, rd⟩ q (jm_sa V G q (V 7 s)) s _ rfl, Eq.trans (b := jm_dr (I 1)) ((jb_une (by decide)).trans (hz8.trans hz9.symm)) (jm_co_z1 G s V (I 1)).symm, ⟨hf8.1, hf8.2.1, rfl, rfl⟩, rfl⟩
      · have c6 : ¬ (V 0 3) < 12 := fun z9 => c6 ((nI_ltI (a := (V 0 3)) (b := 12) (by omega) (by omega)).mpr z9)
        refine jb_vret dX9_comeOver_81 ?_
        exact ⟨rfl, I8, W, stk9, by rw [jm_co_f G true s V (I 1) (fun z => by first | exact hh9 z.1 | omega)]; exact ⟨r0, r2, r3, r4, a0, a1, a2, rv, rs, rd⟩, Eq.trans (b := jm_dr (I 1)) (hz8.trans hz9.symm) (jm_co_z1 G s V (I 1)).symm, ⟨hf8.1, hf8.2.1, rfl, rfl⟩, rfl⟩
set_option maxRecDepth 100000 in
set_option maxHeartbeats 4000000 in
theorem c_comeOver0_13 {sc : Nat × (Nat → Int32)} {s2 s3 s4 s5 s6 s7 s8 s9 s10 s11 : List va_E} {V : Nat → Nat → Nat} (imm : Int32) (Im rowm stkm tpm : Nat → Int32) (Tm : Nat → Value) (I : Nat → Int32) (W : Nat → Nat → Int32) (T : Nat → Value) (hr : jr_ V I W) (hk : jv_ok V) {G : jm_G} (hG : jm_Gok G) (hg : jG13 sc T s11 G) (s : Nat) (hs : s < V 0 2) : jb_C sc yX9_comeOver cX9_comeOver 7 (Option.none : Option Jvm.ClassFile.FieldType) 6 0 0 [.ref 13, .int (nI s), .int 0] [jb_main imm Im Tm rowm stkm tpm, jb_sch13 I W T, s2, s3, s4, s5, s6, s7, s8, s9, s10, s11] (fun r h9 => r = none ∧ ∃ I9 W9 stk9, jr_ ((jm_co G false s (V, I 1)).1) I9 W9 ∧ I9 1 = (jm_co G false s (V, I 1)).2 ∧ jr_f I W I9 W9 ∧ h9 = [jb_main imm Im Tm rowm stk9 tpm, jb_sch13 I9 W9 T, s2, s3, s4, s5, s6, s7, s8, s9, s10, s11]) := by
  refine jb_CofJ (ini := false) (by decide +kernel) (fun h => by cases h) (Nat.le_of_ble_eq_true rfl) ?_
  show jb_J sc RX9 cX9_comeOver 7 (Option.none : Option Jvm.ClassFile.FieldType) false 6 0 0 0 [some (.ref 13), some (.int (nI s)), some (.int 0), none, none, none, none] [] [jb_main imm Im Tm rowm stkm tpm, jb_sch13 I W T, s2, s3, s4, s5, s6, s7, s8, s9, s10, s11] _
  obtain ⟨r0, r2, r3, r4, a0, a1, a2, rv, rs, rd⟩ := hr
  obtain ⟨k0, k1, k2, k3, k4, k5, k6, k7, kv, ks, kd⟩ := hk
  have q0 := ks s hs
  have q2 := kv (V 5 s) (by omega)
  refine jb_aload_n (pc' := 1) dX9_comeOver_0 rfl rfl ?_
  refine gf_X9_33 (pc' := 4) (v := .ref 19) dX9_comeOver_1 rfl rfl rfl ?_
  refine jb_iconst (pc' := 5) 3 dX9_comeOver_4 (by decide) rfl ?_
  refine jb_aaload (pc' := 6) (i9 := 3) (r := 23) (Or.inl rfl) dX9_comeOver_5 rfl jb_x3 (by decide) rfl rfl ?_
  refine jb_iload_n (pc' := 7) dX9_comeOver_6 rfl rfl ?_
  refine jb_iaload (pc' := 8) (i9 := s) (f := (W 7)) dX9_comeOver_7 rfl (jb_ix_nI (by omega)) (by omega) rfl ?_
  refine jb_top (v := .int ((W 7) s)) (w := .int (nI (V 7 s))) (jb_vI (rs s (by omega)).2.2.2.1) ?_
  refine jb_istore_n_ (pc' := 9) dX9_comeOver_8 (by decide) (jb_at3 rfl) rfl ?_
  refine jb_aload_n (pc' := 10) dX9_comeOver_9 rfl rfl ?_
  refine jb_aload_n (pc' := 11) dX9_comeOver_10 rfl rfl ?_
  refine gf_X9_33 (pc' := 14) (v := .ref 19) dX9_comeOver_11 rfl rfl rfl ?_
  refine jb_iconst (pc' := 15) 1 dX9_comeOver_14 (by decide) rfl ?_
  refine jb_aaload (pc' := 16) (i9 := 1) (r := 21) (Or.inl rfl) dX9_comeOver_15 rfl jb_x1 (by decide) rfl rfl ?_
  refine jb_iload_n (pc' := 17) dX9_comeOver_16 rfl rfl ?_
  refine jb_iaload (pc' := 18) (i9 := s) (f := (W 5)) dX9_comeOver_17 rfl (jb_ix_nI (by omega)) (by omega) rfl ?_
  refine jb_top (v := .int ((W 5) s)) (w := .int (nI (V 5 s))) (jb_vI (rs s (by omega)).2.1) ?_
  refine jb_iload_n (pc' := 19) dX9_comeOver_18 rfl rfl ?_
  refine jb_callV (pc' := 22) (ci := 9) (q := 13) (As := [.int (nI (V 5 s)), .int (nI (V 7 s))]) (a2 := 0) (b2 := 0) wv_X9_128 rfl dX9_comeOver_19 (c_carriage_13 _ _ _ _ _ _ I W T ⟨r0, r2, r3, r4, a0, a1, a2, rv, rs, rd⟩ ⟨k0, k1, k2, k3, k4, k5, k6, k7, kv, ks, kd⟩ hG hg (V 5 s) (V 7 s) (by omega) (by omega)) rfl rfl ⟨by decide, Nat.le_of_eq (Nat.zero_add _), Nat.le_of_eq (Nat.zero_add _)⟩ (Nat.le_of_ble_eq_true rfl) rfl (fun r h9 hq => ?_)
  obtain ⟨rfl, stk9, rfl⟩ := hq
  show jb_J _ RX9 cX9_comeOver 7 (Option.none : Option Jvm.ClassFile.FieldType) false 6 0 0 22 [some (.ref 13), some (.int (nI s)), some (.int 0), some (.int (nI (V 7 s))), none, none, none] [.int (jm_ca V G (V 5 s) (V 7 s))] [jb_main imm Im Tm rowm stk9 tpm, jb_sch13 I W T, s2, s3, s4, s5, s6, s7, s8, s9, s10, s11] _
  refine jb_istore_ (pc' := 24) dX9_comeOver_22 (by decide) (jb_at4 rfl) rfl ?_
  refine jb_iload_n (pc' := 25) dX9_comeOver_24 rfl rfl ?_
  refine jb_if_eq (tgt := 48) (pc' := 28) dX9_comeOver_25 (by decide) rfl (fun _ => ?_) (fun z => absurd (by decide) z)
  refine jb_iload (pc' := 50) dX9_comeOver_48 rfl rfl ?_
  refine jb_iconst (pc' := 51) 5 dX9_comeOver_50 (by decide) rfl ?_
  refine jb_icmp_lt (tgt := 58) (pc' := 54) dX9_comeOver_51 (by decide) rfl (fun hh => ?_) (fun hh => ?_)
  · have hh9 : ¬ jm_hd false (I 1) (jm_ca V G (V 5 s) (V 7 s)) = true := jm_hd_ff hh
    refine jb_iconst (pc' := 59) 0 dX9_comeOver_58 (by decide) rfl ?_
    refine jb_istore_ (pc' := 61) dX9_comeOver_59 (by decide) (jb_at5 rfl) rfl ?_
    refine jb_iload (pc' := 63) dX9_comeOver_61 rfl rfl ?_
    refine jb_if_eq (tgt := 81) (pc' := 66) dX9_comeOver_63 (by decide) rfl (fun _ => ?_) (fun z => absurd (by decide) z)
    refine jb_vret dX9_comeOver_81 ?_
    exact ⟨rfl, I, W, stk9, by rw [jm_co_f G false s V (I 1) (fun z => by first | exact hh9 z.1 | omega)]; exact ⟨r0, r2, r3, r4, a0, a1, a2, rv, rs, rd⟩, Eq.trans (b := I 1) rfl (jm_co_z0 G s V (I 1)).symm, ⟨rfl, rfl, rfl, rfl⟩, rfl⟩
  · have hh9 : jm_hd false (I 1) (jm_ca V G (V 5 s) (V 7 s)) = true := jm_hd_ft hh
    refine jb_iconst (pc' := 55) 1 dX9_comeOver_54 (by decide) rfl ?_
    refine jb_goto (pc' := 59) dX9_comeOver_55 (by decide) ?_
    refine jb_istore_ (pc' := 61) dX9_comeOver_59 (by decide) (jb_at5 rfl) rfl ?_
    refine jb_iload (pc' := 63) dX9_comeOver_61 rfl rfl ?_
    refine jb_if_eq (tgt := 81) (pc' := 66) dX9_comeOver_63 (by decide) rfl (fun z => absurd z (by decide)) (fun _ => ?_)
    refine jb_iload_n (pc' := 67) dX9_comeOver_66 rfl rfl ?_
    refine jb_iconst (pc' := 68) 2 dX9_comeOver_67 (by decide) rfl ?_
    refine jb_irem (pc' := 69) dX9_comeOver_68 (by decide) rfl ?_
    refine jb_top (v := .int ((nI (V 7 s)) - (nI (V 7 s)) / 2 * 2)) (w := .int (nI ((V 7 s) % 2))) (jb_vI (pk_rem (a := (V 7 s)) (d := 2) (by omega) (by omega) (by omega))) ?_
    refine jb_if_ne (tgt := 81) (pc' := 72) dX9_comeOver_69 (by decide) rfl (fun c5 => ?_) (fun c5 => ?_)
    · have c5 : ¬ ((V 7 s) % 2) = 0 := fun z9 => c5 ((nI_eq (a := ((V 7 s) % 2)) (b := 0) (by omega) (by omega)).mpr z9)
      refine jb_vret dX9_comeOver_81 ?_
      exact ⟨rfl, I, W, stk9, by rw [jm_co_f G false s V (I 1) (fun z => by first | exact hh9 z.1 | omega)]; exact ⟨r0, r2, r3, r4, a0, a1, a2, rv, rs, rd⟩, Eq.trans (b := I 1) rfl (jm_co_z0 G s V (I 1)).symm, ⟨rfl, rfl, rfl, rfl⟩, rfl⟩
    · have c5 : ((V 7 s) % 2) = 0 := (nI_eq (a := ((V 7 s) % 2)) (b := 0) (by omega) (by omega)).mp c5
      refine jb_aload_n (pc' := 73) dX9_comeOver_72 rfl rfl ?_
      refine gf_X9_36 (pc' := 76) (v := .int (I 4)) dX9_comeOver_73 rfl rfl rfl ?_
      refine jb_top (v := .int (I 4)) (w := .int (nI (V 0 3))) (jb_vI r4) ?_
      refine jb_bipush (pc' := 78) 12 dX9_comeOver_76 (by decide) rfl ?_
      refine jb_icmp_lt (tgt := 82) (pc' := 81) dX9_comeOver_78 (by decide) rfl (fun c6 => ?_) (fun c6 => ?_)
      · have c6 : (V 0 3) < 12 := (nI_ltI (a := (V 0 3)) (b := 12) (by omega) (by omega)).mp c6
        refine jb_aload_n (pc' := 83) dX9_comeOver_82 rfl rfl ?_
        refine jb_iconst (pc' := 84) 1 dX9_comeOver_83 (by decide) rfl ?_
        refine jb_aload_n (pc' := 85) dX9_comeOver_84 rfl rfl ?_
        refine gf_X9_33 (pc' := 88) (v := .ref 19) dX9_comeOver_85 rfl rfl rfl ?_
        refine jb_iconst (pc' := 89) 2 dX9_comeOver_88 (by decide) rfl ?_
        refine jb_aaload (pc' := 90) (i9 := 2) (r := 22) (Or.inl rfl) dX9_comeOver_89 rfl jb_x2 (by decide) rfl rfl ?_
        refine jb_iload_n (pc' := 91) dX9_comeOver_90 rfl rfl ?_
        refine jb_iaload (pc' := 92) (i9 := s) (f := (W 6)) dX9_comeOver_91 rfl (jb_ix_nI (by omega)) (by omega) rfl ?_
        refine jb_top (v := .int ((W 6) s)) (w := .int (nI (V 6 s))) (jb_vI (rs s (by omega)).2.2.1) ?_
        refine jb_isub (pc' := 93) dX9_comeOver_92 rfl ?_
        refine jb_top (v := .int (1 - (nI (V 6 s)))) (w := .int (nI (1 - (V 6 s)))) (jb_vI (pk_sub (a := 1) (by omega))) ?_
        refine jb_callV (pc' := 96) (ci := 9) (q := 13) (As := [.int (nI (1 - (V 6 s)))]) (a2 := 0) (b2 := 0) wv_X9_134 rfl dX9_comeOver_93 (c_quickest_13 _ _ _ _ _ _ I W T ⟨r0, r2, r3, r4, a0, a1, a2, rv, rs, rd⟩ ⟨k0, k1, k2, k3, k4, k5, k6, k7, kv, ks, kd⟩ (1 - (V 6 s)) (by omega)) rfl rfl ⟨by decide, Nat.le_of_eq (Nat.zero_add _), Nat.le_of_eq (Nat.zero_add _)⟩ (Nat.le_of_ble_eq_true rfl) rfl (fun r h9 hq => ?_)
        rcases hq with ⟨rfl, ⟨eq9, rfl⟩ | ⟨q, hq9, eq9, rfl⟩⟩
        · show jb_J _ RX9 cX9_comeOver 7 (Option.none : Option Jvm.ClassFile.FieldType) false 6 0 0 96 [some (.ref 13), some (.int (nI s)), some (.int 0), some (.int (nI (V 7 s))), some (.int (jm_ca V G (V 5 s) (V 7 s))), some (.int 1), none] [.int (-1)] [jb_main imm Im Tm rowm stk9 tpm, jb_sch13 I W T, s2, s3, s4, s5, s6, s7, s8, s9, s10, s11] _
          refine jb_istore_ (pc' := 98) dX9_comeOver_96 (by decide) (jb_at6 rfl) rfl ?_
          refine jb_iload (pc' := 100) dX9_comeOver_98 rfl rfl ?_
          refine jb_if_ge (tgt := 104) (pc' := 103) dX9_comeOver_100 (by decide) rfl (fun z => absurd z (by decide)) (fun _ => ?_)
          refine jb_vret dX9_comeOver_103 ?_
          exact ⟨rfl, I, W, stk9, by rw [jm_co_n G false s V (I 1) eq9]; exact ⟨r0, r2, r3, r4, a0, a1, a2, rv, rs, rd⟩, Eq.trans (b := I 1) rfl (jm_co_z0 G s V (I 1)).symm, ⟨rfl, rfl, rfl, rfl⟩, rfl⟩
        · show jb_J _ RX9 cX9_comeOver 7 (Option.none : Option Jvm.ClassFile.FieldType) false 6 0 0 96 [some (.ref 13), some (.int (nI s)), some (.int 0), some (.int (nI (V 7 s))), some (.int (jm_ca V G (V 5 s) (V 7 s))), some (.int 1), none] [.int (nI q)] [jb_main imm Im Tm rowm stk9 tpm, jb_sch13 I W T, s2, s3, s4, s5, s6, s7, s8, s9, s10, s11] _
          refine jb_istore_ (pc' := 98) dX9_comeOver_96 (by decide) (jb_at6 rfl) rfl ?_
          refine jb_iload (pc' := 100) dX9_comeOver_98 rfl rfl ?_
          refine jb_if_ge (tgt := 104) (pc' := 103) dX9_comeOver_100 (by decide) rfl (fun _ => ?_) (fun z => absurd (nI_pos' (n := q) (by omega)) z)
          refine jb_aload_n (pc' := 105) dX9_comeOver_104 rfl rfl ?_
          refine gf_X9_39 (pc' := 108) (v := .ref 26) dX9_comeOver_105 rfl rfl rfl ?_
          refine jb_iconst (pc' := 109) 0 dX9_comeOver_108 (by decide) rfl ?_
          refine jb_aaload (pc' := 110) (i9 := 0) (r := 27) (Or.inl rfl) dX9_comeOver_109 rfl jb_x0 (by decide) rfl rfl ?_
          refine jb_aload_n (pc' := 111) dX9_comeOver_110 rfl rfl ?_
          refine gf_X9_36 (pc' := 114) (v := .int (I 4)) dX9_comeOver_111 rfl rfl rfl ?_
          refine jb_top (v := .int (I 4)) (w := .int (nI (V 0 3))) (jb_vI r4) ?_
          refine jb_iload (pc' := 116) dX9_comeOver_114 rfl rfl ?_
          refine jb_iastore (pc' := 117) (i9 := (V 0 3)) (f := (W 10)) (h' := [jb_main imm Im Tm rowm stk9 tpm, jb_sch13 I (va_up W 10 (upd (W 10) (V 0 3) (nI q))) T, s2, s3, s4, s5, s6, s7, s8, s9, s10, s11]) dX9_comeOver_116 rfl (jb_ix_nI (by omega)) (by omega) rfl rfl ?_
          refine jb_aload_n (pc' := 118) dX9_comeOver_117 rfl rfl ?_
          refine gf_X9_39 (pc' := 121) (v := .ref 26) dX9_comeOver_118 rfl rfl rfl ?_
          refine jb_iconst (pc' := 122) 1 dX9_comeOver_121 (by decide) rfl ?_
          refine jb_aaload (pc' := 123) (i9 := 1) (r := 28) (Or.inl rfl) dX9_comeOver_122 rfl jb_x1 (by decide) rfl rfl ?_
          refine jb_aload_n (pc' := 124) dX9_comeOver_123 rfl rfl ?_
          refine gf_X9_36 (pc' := 127) (v := .int (I 4)) dX9_comeOver_124 rfl rfl rfl ?_
          refine jb_top (v := .int (I 4)) (w := .int (nI (V 0 3))) (jb_vI r4) ?_
          refine jb_aload_n (pc' := 128) dX9_comeOver_127 rfl rfl ?_
          refine jb_iload (pc' := 130) dX9_comeOver_128 rfl rfl ?_
          refine jb_iload_n (pc' := 131) dX9_comeOver_130 rfl rfl ?_
          refine jb_callV (pc' := 134) (ci := 9) (q := 13) (As := [.int (nI q), .int (nI (V 7 s))]) (a2 := 0) (b2 := 0) wv_X9_138 rfl dX9_comeOver_131 (c_wordSaid_13 _ _ _ _ _ _ I (va_up W 10 (upd (W 10) (V 0 3) (nI q))) T (jr_by ⟨r0, r2, r3, r4, a0, a1, a2, rv, rs, rd⟩ (fun r hr9 => by simp only [va_up]; rw [if_neg (by omega)]) (fun k hk9 => ⟨by simp [va_up, upd, Nat.ne_of_lt hk9], by simp [va_up, upd, Nat.ne_of_lt hk9], by simp [va_up, upd, Nat.ne_of_lt hk9], by simp [va_up, upd, Nat.ne_of_lt hk9]⟩)) ⟨k0, k1, k2, k3, k4, k5, k6, k7, kv, ks, kd⟩ hG hg q (V 7 s) (by omega) (by omega)) rfl rfl ⟨by decide, Nat.le_of_eq (Nat.zero_add _), Nat.le_of_eq (Nat.zero_add _)⟩ (Nat.le_of_ble_eq_true rfl) rfl (fun r h9 hq => ?_)
          obtain ⟨rfl, stk9, rfl⟩ := hq
          show jb_J _ RX9 cX9_comeOver 7 (Option.none : Option Jvm.ClassFile.FieldType) false 6 0 0 134 [some (.ref 13), some (.int (nI s)), some (.int 0), some (.int (nI (V 7 s))), some (.int (jm_ca V G (V 5 s) (V 7 s))), some (.int 1), some (.int (nI q))] [.int (nI (jm_sa V G q (V 7 s))), .int (nI (V 0 3)), .ref 28] [jb_main imm Im Tm rowm stk9 tpm, jb_sch13 I (va_up W 10 (upd (W 10) (V 0 3) (nI q))) T, s2, s3, s4, s5, s6, s7, s8, s9, s10, s11] _
          refine jb_iastore (pc' := 135) (i9 := (V 0 3)) (f := (W 11)) (h' := [jb_main imm Im Tm rowm stk9 tpm, jb_sch13 I (va_up (va_up W 10 (upd (W 10) (V 0 3) (nI q))) 11 (upd (W 11) (V 0 3) (nI (jm_sa V G q (V 7 s))))) T, s2, s3, s4, s5, s6, s7, s8, s9, s10, s11]) dX9_comeOver_134 rfl (jb_ix_nI (by omega)) (by omega) rfl rfl ?_
          refine jb_aload_n (pc' := 136) dX9_comeOver_135 rfl rfl ?_
          refine gf_X9_39 (pc' := 139) (v := .ref 26) dX9_comeOver_136 rfl rfl rfl ?_
          refine jb_iconst (pc' := 140) 2 dX9_comeOver_139 (by decide) rfl ?_
          refine jb_aaload (pc' := 141) (i9 := 2) (r := 29) (Or.inl rfl) dX9_comeOver_140 rfl jb_x2 (by decide) rfl rfl ?_
          refine jb_aload_n (pc' := 142) dX9_comeOver_141 rfl rfl ?_
          refine gf_X9_36 (pc' := 145) (v := .int (I 4)) dX9_comeOver_142 rfl rfl rfl ?_
          refine jb_top (v := .int (I 4)) (w := .int (nI (V 0 3))) (jb_vI r4) ?_
          refine jb_iload_n (pc' := 146) dX9_comeOver_145 rfl rfl ?_
          refine jb_iastore (pc' := 147) (i9 := (V 0 3)) (f := (W 12)) (h' := [jb_main imm Im Tm rowm stk9 tpm, jb_sch13 I (va_up (va_up (va_up W 10 (upd (W 10) (V 0 3) (nI q))) 11 (upd (W 11) (V 0 3) (nI (jm_sa V G q (V 7 s))))) 12 (upd (W 12) (V 0 3) (nI s))) T, s2, s3, s4, s5, s6, s7, s8, s9, s10, s11]) dX9_comeOver_146 rfl (jb_ix_nI (by omega)) (by omega) rfl rfl ?_
          refine jb_aload_n (pc' := 148) dX9_comeOver_147 rfl rfl ?_
          refine gf_X9_39 (pc' := 151) (v := .ref 26) dX9_comeOver_148 rfl rfl rfl ?_
          refine jb_iconst (pc' := 152) 3 dX9_comeOver_151 (by decide) rfl ?_
          refine jb_aaload (pc' := 153) (i9 := 3) (r := 30) (Or.inl rfl) dX9_comeOver_152 rfl jb_x3 (by decide) rfl rfl ?_
          refine jb_aload_n (pc' := 154) dX9_comeOver_153 rfl rfl ?_
          refine gf_X9_36 (pc' := 157) (v := .int (I 4)) dX9_comeOver_154 rfl rfl rfl ?_
          refine jb_top (v := .int (I 4)) (w := .int (nI (V 0 3))) (jb_vI r4) ?_
          refine jb_aload_n (pc' := 158) dX9_comeOver_157 rfl rfl ?_
          refine gf_X9_15 (pc' := 161) (v := .int (I 0)) dX9_comeOver_158 rfl rfl rfl ?_
          refine jb_top (v := .int (I 0)) (w := .int (nI (V 0 0))) (jb_vI r0) ?_
          refine jb_aload_n (pc' := 162) dX9_comeOver_161 rfl rfl ?_
          refine jb_iload (pc' := 164) dX9_comeOver_162 rfl rfl ?_
          refine jb_callV (pc' := 167) (ci := 9) (q := 13) (As := [.int (nI q)]) (a2 := 0) (b2 := 0) wv_X9_141 rfl dX9_comeOver_164 (c_thinking_13 _ _ _ _ _ _ I (va_up (va_up (va_up W 10 (upd (W 10) (V 0 3) (nI q))) 11 (upd (W 11) (V 0 3) (nI (jm_sa V G q (V 7 s))))) 12 (upd (W 12) (V 0 3) (nI s))) T (jr_by ⟨r0, r2, r3, r4, a0, a1, a2, rv, rs, rd⟩ (fun r hr9 => by simp only [va_up]; rw [if_neg (by omega)]; rw [if_neg (by omega)]; rw [if_neg (by omega)]) (fun k hk9 => ⟨by simp [va_up, upd, Nat.ne_of_lt hk9], by simp [va_up, upd, Nat.ne_of_lt hk9], by simp [va_up, upd, Nat.ne_of_lt hk9], by simp [va_up, upd, Nat.ne_of_lt hk9]⟩)) ⟨k0, k1, k2, k3, k4, k5, k6, k7, kv, ks, kd⟩ q (by omega)) rfl rfl ⟨by decide, Nat.le_of_eq (Nat.zero_add _), Nat.le_of_eq (Nat.zero_add _)⟩ (Nat.le_of_ble_eq_true rfl) rfl (fun r h9 hq => ?_)
          obtain ⟨rfl, rfl⟩ := hq
          show jb_J _ RX9 cX9_comeOver 7 (Option.none : Option Jvm.ClassFile.FieldType) false 6 0 0 167 [some (.ref 13), some (.int (nI s)), some (.int 0), some (.int (nI (V 7 s))), some (.int (jm_ca V G (V 5 s) (V 7 s))), some (.int 1), some (.int (nI q))] [.int (nI (jm_th V q)), .int (nI (V 0 0)), .int (nI (V 0 3)), .ref 30] [jb_main imm Im Tm rowm stk9 tpm, jb_sch13 I (va_up (va_up (va_up W 10 (upd (W 10) (V 0 3) (nI q))) 11 (upd (W 11) (V 0 3) (nI (jm_sa V G q (V 7 s))))) 12 (upd (W 12) (V 0 3) (nI s))) T, s2, s3, s4, s5, s6, s7, s8, s9, s10, s11] _
          refine jb_iadd (pc' := 168) dX9_comeOver_167 rfl ?_
          refine jb_top (v := .int ((nI (V 0 0)) + (nI (jm_th V q)))) (w := .int (nI ((V 0 0) + (jm_th V q)))) (jb_vI (nI_add _ _)) ?_
          refine jb_iastore (pc' := 169) (i9 := (V 0 3)) (f := (W 13)) (h' := [jb_main imm Im Tm rowm stk9 tpm, jb_sch13 I (va_up (va_up (va_up (va_up W 10 (upd (W 10) (V 0 3) (nI q))) 11 (upd (W 11) (V 0 3) (nI (jm_sa V G q (V 7 s))))) 12 (upd (W 12) (V 0 3) (nI s))) 13 (upd (W 13) (V 0 3) (nI ((V 0 0) + (jm_th V q))))) T, s2, s3, s4, s5, s6, s7, s8, s9, s10, s11]) dX9_comeOver_168 rfl (jb_ix_nI (by omega)) (by omega) rfl rfl ?_
          refine jb_aload_n (pc' := 170) dX9_comeOver_169 rfl rfl ?_
          refine jb_dup (pc' := 171) dX9_comeOver_170 rfl rfl ?_
          refine gf_X9_36 (pc' := 174) (v := .int (I 4)) dX9_comeOver_171 rfl rfl rfl ?_
          refine jb_top (v := .int (I 4)) (w := .int (nI (V 0 3))) (jb_vI r4) ?_
          refine jb_iconst (pc' := 175) 1 dX9_comeOver_174 (by decide) rfl ?_
          refine jb_iadd (pc' := 176) dX9_comeOver_175 rfl ?_
          refine jb_top (v := .int ((nI (V 0 3)) + 1)) (w := .int (nI ((V 0 3) + 1))) (jb_vI (nI_add _ 1)) ?_
          refine pf_X9_36 (pc' := 179) (h' := [jb_main imm Im Tm rowm stk9 tpm, jb_sch13 (upd I 4 (nI ((V 0 3) + 1))) (va_up (va_up (va_up (va_up W 10 (upd (W 10) (V 0 3) (nI q))) 11 (upd (W 11) (V 0 3) (nI (jm_sa V G q (V 7 s))))) 12 (upd (W 12) (V 0 3) (nI s))) 13 (upd (W 13) (V 0 3) (nI ((V 0 0) + (jm_th V q))))) T, s2, s3, s4, s5, s6, s7, s8, s9, s10, s11]) dX9_comeOver_176 (fun _ => ⟨rfl, rfl⟩) rfl (Nat.le_of_ble_eq_true rfl) rfl rfl ?_
          refine jb_vret dX9_comeOver_179 ?_
          exact ⟨rfl, (upd I 4 (nI ((V 0 3) + 1))), (va_up (va_up (va_up (va_up W 10 (upd (W 10) (V 0 3) (nI q))) 11 (upd (W 11) (V 0 3) (nI (jm_sa V G q (V 7 s))))) 12 (upd (W 12) (V 0 3) (nI s))) 13 (upd (W 13) (V 0 3) (nI ((V 0 0) + (jm_th V q))))), stk9, by rw [jm_co_s G false s V (I 1) q ⟨hh9, by omega, by omega⟩ eq9]; exact jr_due ⟨r0, r2, r3, r4, a0, a1, a2, rv, rs, rd⟩ q (jm_sa V G q (V 7 s)) s _ rfl, Eq.trans (b := I 1) rfl (jm_co_z0 G s V (I 1)).symm, ⟨rfl, rfl, rfl, rfl⟩, rfl⟩
      · have c6 : ¬ (V 0 3) < 12 := fun z9 => c6 ((nI_ltI (a := (V 0 3)) (b := 12) (by omega) (by omega)).mpr z9)
        refine jb_vret dX9_comeOver_81 ?_
        exact ⟨rfl, I, W, stk9, by rw [jm_co_f G false s V (I 1) (fun z => by first | exact hh9 z.1 | omega)]; exact ⟨r0, r2, r3, r4, a0, a1, a2, rv, rs, rd⟩, Eq.trans (b := I 1) rfl (jm_co_z0 G s V (I 1)).symm, ⟨rfl, rfl, rfl, rfl⟩, rfl⟩
set_option maxRecDepth 100000 in
set_option maxHeartbeats 4000000 in
theorem l_quick_53 {sc : Nat × (Nat → Int32)} {s1 s2 s4 s5 s6 s7 s8 s9 s10 s11 : List va_E} {V : Nat → Nat → Nat} (imm : Int32) (Im rowm stkm tpm : Nat → Int32) (Tm : Nat → Value) (I : Nat → Int32) (W : Nat → Nat → Int32) (T : Nat → Value) (hr : jr_ V I W) (hk : jv_ok V) (c : Nat) (hc : c < 2) : ∀ (n p : Nat) (o : Option Nat) (x5 : Option Value), p + n = V 0 1 → (∀ q, o = some q → q < V 0 1) → jb_J sc RX9 cX9_quickest 6 (Option.some .int) false 3 0 0 7 [some (.ref 53), some (.int (nI c)), some (.int (jq_w o)), some (.int (jq_l V o)), some (.int (nI p)), x5] [] [jb_main imm Im Tm rowm stkm tpm, s1, s2, jb_sch53 I W T, s4, s5, s6, s7, s8, s9, s10, s11] (fun r h9 => r = some (.int (jq_w (jm_qk V c n p o))) ∧ h9 = [jb_main imm Im Tm rowm stkm tpm, s1, s2, jb_sch53 I W T, s4, s5, s6, s7, s8, s9, s10, s11]) := by
  obtain ⟨r0, r2, r3, r4, a0, a1, a2, rv, rs, rd⟩ := hr
  obtain ⟨k0, k1, k2, k3, k4, k5, k6, k7, kv, ks, kd⟩ := hk
  intro n
  induction n with
  | zero =>
    intro p o x5 hp ho
    show jb_J _ RX9 cX9_quickest 6 (Option.some .int) false 3 0 0 7 [some (.ref 53), some (.int (nI c)), some (.int (jq_w o)), some (.int (jq_l V o)), some (.int (nI p)), x5] [] [jb_main imm Im Tm rowm stkm tpm, s1, s2, jb_sch53 I W T, s4, s5, s6, s7, s8, s9, s10, s11] _
    refine jb_iload (pc' := 9) dX9_quickest_7 rfl rfl ?_
    refine jb_aload_n (pc' := 10) dX9_quickest_9 rfl rfl ?_
    refine gf_X9_22 (pc' := 13) (v := .int (I 2)) dX9_quickest_10 rfl rfl rfl ?_
    refine jb_top (v := .int (I 2)) (w := .int (nI (V 0 1))) (jb_vI r2) ?_
    refine jb_icmp_ge (tgt := 86) (pc' := 16) dX9_quickest_13 (by decide) rfl (fun _ => ?_) (fun z => absurd (nI_le (a := V 0 1) (b := p) (by omega) (by omega)) z)
    refine jb_iload_n (pc' := 87) dX9_quickest_86 rfl rfl ?_
    refine jb_iret dX9_quickest_87 rfl ?_
    exact ⟨rfl, rfl⟩
  | succ n ih =>
    intro p o x5 hp ho
    have q1 := kv p (by omega)
    have b1 := jm_th_le ⟨k0, k1, k2, k3, k4, k5, k6, k7, kv, ks, kd⟩ (p := p) (by omega)
    cases o with
    | none =>
      show jb_J _ RX9 cX9_quickest 6 (Option.some .int) false 3 0 0 7 [some (.ref 53), some (.int (nI c)), some (.int (-1)), some (.int 0), some (.int (nI p)), x5] [] [jb_main imm Im Tm rowm stkm tpm, s1, s2, jb_sch53 I W T, s4, s5, s6, s7, s8, s9, s10, s11] _
      refine jb_iload (pc' := 9) dX9_quickest_7 rfl rfl ?_
      refine jb_aload_n (pc' := 10) dX9_quickest_9 rfl rfl ?_
      refine gf_X9_22 (pc' := 13) (v := .int (I 2)) dX9_quickest_10 rfl rfl rfl ?_
      refine jb_top (v := .int (I 2)) (w := .int (nI (V 0 1))) (jb_vI r2) ?_
      refine jb_icmp_ge (tgt := 86) (pc' := 16) dX9_quickest_13 (by decide) rfl (fun z => absurd z (nI_ge (a := p) (b := V 0 1) (by omega) (by omega))) (fun _ => ?_)
      refine jb_aload_n (pc' := 17) dX9_quickest_16 rfl rfl ?_
      refine gf_X9_27 (pc' := 20) (v := .ref 55) dX9_quickest_17 rfl rfl rfl ?_
      refine jb_iconst (pc' := 21) 2 dX9_quickest_20 (by decide) rfl ?_
      refine jb_aaload (pc' := 22) (i9 := 2) (r := 58) (Or.inl rfl) dX9_quickest_21 rfl jb_x2 (by decide) rfl rfl ?_
      refine jb_iload (pc' := 24) dX9_quickest_22 rfl rfl ?_
      refine jb_iaload (pc' := 25) (i9 := p) (f := (W 3)) dX9_quickest_24 rfl (jb_ix_nI (by omega)) (by omega) rfl ?_
      refine jb_top (v := .int ((W 3) p)) (w := .int (nI (V 3 p))) (jb_vI (rv p (by omega)).2.2) ?_
      refine jb_iload_n (pc' := 26) dX9_quickest_25 rfl rfl ?_
      refine jb_icmp_eq (tgt := 32) (pc' := 29) dX9_quickest_26 (by decide) rfl (fun hcl => ?_) (fun hcl => ?_)
      · have hcl : (V 3 p) = c := (nI_eq (a := (V 3 p)) (b := c) (by omega) (by omega)).mp hcl
        refine jb_aload_n (pc' := 33) dX9_quickest_32 rfl rfl ?_
        refine jb_iload (pc' := 35) dX9_quickest_33 rfl rfl ?_
        refine jb_callV (pc' := 38) (ci := 9) (q := 53) (As := [.int (nI p)]) (a2 := 0) (b2 := 0) wv_X9_82 rfl dX9_quickest_35 (c_kindOf_53 _ _ _ _ _ _ I W T ⟨r0, r2, r3, r4, a0, a1, a2, rv, rs, rd⟩ ⟨k0, k1, k2, k3, k4, k5, k6, k7, kv, ks, kd⟩ p (by omega)) rfl rfl ⟨by decide, Nat.le_of_eq (Nat.zero_add _), Nat.le_of_eq (Nat.zero_add _)⟩ (Nat.le_of_ble_eq_true rfl) rfl (fun r h9 hq => ?_)
        obtain ⟨rfl, rfl⟩ := hq
        show jb_J _ RX9 cX9_quickest 6 (Option.some .int) false 3 0 0 38 [some (.ref 53), some (.int (nI c)), some (.int (-1)), some (.int 0), some (.int (nI p)), x5] [.ref (6 + V 1 p)] [jb_main imm Im Tm rowm stkm tpm, s1, s2, jb_sch53 I W T, s4, s5, s6, s7, s8, s9, s10, s11] _
        refine jb_aload_n (pc' := 39) dX9_quickest_38 rfl rfl ?_
        refine gf_X9_27 (pc' := 42) (v := .ref 55) dX9_quickest_39 rfl rfl rfl ?_
        refine jb_iconst (pc' := 43) 1 dX9_quickest_42 (by decide) rfl ?_
        refine jb_aaload (pc' := 44) (i9 := 1) (r := 57) (Or.inl rfl) dX9_quickest_43 rfl jb_x1 (by decide) rfl rfl ?_
        refine jb_iload (pc' := 46) dX9_quickest_44 rfl rfl ?_
        refine jb_iaload (pc' := 47) (i9 := p) (f := (W 2)) dX9_quickest_46 rfl (jb_ix_nI (by omega)) (by omega) rfl ?_
        refine jb_top (v := .int ((W 2) p)) (w := .int (nI (V 2 p))) (jb_vI (rv p (by omega)).2.1) ?_
        refine jb_aload_n (pc' := 48) dX9_quickest_47 rfl rfl ?_
        refine gf_X9_9 (pc' := 51) (v := .ref 54) dX9_quickest_48 rfl rfl rfl ?_
        refine jb_iconst (pc' := 52) 1 dX9_quickest_51 (by decide) rfl ?_
        refine jb_iaload (pc' := 53) (i9 := 1) (f := (W 0)) dX9_quickest_52 rfl jb_x1 (by decide) rfl ?_
        refine jb_top (v := .int ((W 0) 1)) (w := .int (nI (V 0 5))) (jb_vI a1) ?_
        refine jb_aload_n (pc' := 54) dX9_quickest_53 rfl rfl ?_
        refine gf_X9_9 (pc' := 57) (v := .ref 54) dX9_quickest_54 rfl rfl rfl ?_
        refine jb_iconst (pc' := 58) 2 dX9_quickest_57 (by decide) rfl ?_
        refine jb_iaload (pc' := 59) (i9 := 2) (f := (W 0)) dX9_quickest_58 rfl jb_x2 (by decide) rfl ?_
        refine jb_top (v := .int ((W 0) 2)) (w := .int (nI (V 0 6))) (jb_vI a2) ?_
        refine jd_th (pc' := 62) (k := V 1 p) (by omega) (by omega) (by omega) (by omega) dX9_quickest_59 (by decide) (Nat.le_of_ble_eq_true rfl) rfl ?_
        refine jb_istore_ (pc' := 64) dX9_quickest_62 (by decide) (jb_at5 rfl) rfl ?_
        refine jb_iload_n (pc' := 65) dX9_quickest_64 rfl rfl ?_
        refine jb_if_lt (tgt := 74) (pc' := 68) dX9_quickest_65 (by decide) rfl (fun _ => ?_) (fun z => absurd (by decide) z)
        refine jb_iload (pc' := 76) dX9_quickest_74 rfl rfl ?_
        refine jb_istore_n_ (pc' := 77) dX9_quickest_76 (by decide) (jb_at2 rfl) rfl ?_
        refine jb_iload (pc' := 79) dX9_quickest_77 rfl rfl ?_
        refine jb_istore_n_ (pc' := 80) dX9_quickest_79 (by decide) (jb_at3 rfl) rfl ?_
        refine jb_iinc_ (pc' := 83) (nI (p + 1)) dX9_quickest_80 (by decide) rfl (jb_inc p 1) (jb_at4 rfl) rfl ?_
        refine jb_goto (pc' := 7) dX9_quickest_83 (by decide) ?_
        have e9 : jm_qk V c (n + 1) p (none) = jm_qk V c n (p + 1) (some p) := congrArg (jm_qk V c n (p + 1)) (if_pos ⟨hcl, by simp [jm_qb]⟩)
        rw [e9]
        exact ih (p + 1) (some p) _ (by omega) (fun q hq => by cases hq; omega)
      · have hcl : ¬ (V 3 p) = c := fun z9 => hcl ((nI_eq (a := (V 3 p)) (b := c) (by omega) (by omega)).mpr z9)
        refine jb_goto (pc' := 80) dX9_quickest_29 (by decide) ?_
        refine jb_iinc_ (pc' := 83) (nI (p + 1)) dX9_quickest_80 (by decide) rfl (jb_inc p 1) (jb_at4 rfl) rfl ?_
        refine jb_goto (pc' := 7) dX9_quickest_83 (by decide) ?_
        have e9 : jm_qk V c (n + 1) p (none) = jm_qk V c n (p + 1) (none) := congrArg (jm_qk V c n (p + 1)) (if_neg (fun z => hcl z.1))
        rw [e9]
        exact ih (p + 1) (none) _ (by omega) (fun q hq => by cases hq)
    | some q =>
      have hq := ho q rfl
      have b2 := jm_th_le ⟨k0, k1, k2, k3, k4, k5, k6, k7, kv, ks, kd⟩ (p := q) hq
      show jb_J _ RX9 cX9_quickest 6 (Option.some .int) false 3 0 0 7 [some (.ref 53), some (.int (nI c)), some (.int (nI q)), some (.int (nI (jm_th V q))), some (.int (nI p)), x5] [] [jb_main imm Im Tm rowm stkm tpm, s1, s2, jb_sch53 I W T, s4, s5, s6, s7, s8, s9, s10, s11] _
      refine jb_iload (pc' := 9) dX9_quickest_7 rfl rfl ?_
      refine jb_aload_n (pc' := 10) dX9_quickest_9 rfl rfl ?_
      refine gf_X9_22 (pc' := 13) (v := .int (I 2)) dX9_quickest_10 rfl rfl rfl ?_
      refine jb_top (v := .int (I 2)) (w := .int (nI (V 0 1))) (jb_vI r2) ?_
      refine jb_icmp_ge (tgt := 86) (pc' := 16) dX9_quickest_13 (by decide) rfl (fun z => absurd z (nI_ge (a := p) (b := V 0 1) (by omega) (by omega))) (fun _ => ?_)
      refine jb_aload_n (pc' := 17) dX9_quickest_16 rfl rfl ?_
      refine gf_X9_27 (pc' := 20) (v := .ref 55) dX9_quickest_17 rfl rfl rfl ?_
      refine jb_iconst (pc' := 21) 2 dX9_quickest_20 (by decide) rfl ?_
      refine jb_aaload (pc' := 22) (i9 := 2) (r := 58) (Or.inl rfl) dX9_quickest_21 rfl jb_x2 (by decide) rfl rfl ?_
      refine jb_iload (pc' := 24) dX9_quickest_22 rfl rfl ?_
      refine jb_iaload (pc' := 25) (i9 := p) (f := (W 3)) dX9_quickest_24 rfl (jb_ix_nI (by omega)) (by omega) rfl ?_
      refine jb_top (v := .int ((W 3) p)) (w := .int (nI (V 3 p))) (jb_vI (rv p (by omega)).2.2) ?_
      refine jb_iload_n (pc' := 26) dX9_quickest_25 rfl rfl ?_
      refine jb_icmp_eq (tgt := 32) (pc' := 29) dX9_quickest_26 (by decide) rfl (fun hcl => ?_) (fun hcl => ?_)
      · have hcl : (V 3 p) = c := (nI_eq (a := (V 3 p)) (b := c) (by omega) (by omega)).mp hcl
        refine jb_aload_n (pc' := 33) dX9_quickest_32 rfl rfl ?_
        refine jb_iload (pc' := 35) dX9_quickest_33 rfl rfl ?_
        refine jb_callV (pc' := 38) (ci := 9) (q := 53) (As := [.int (nI p)]) (a2 := 0) (b2 := 0) wv_X9_82 rfl dX9_quickest_35 (c_kindOf_53 _ _ _ _ _ _ I W T ⟨r0, r2, r3, r4, a0, a1, a2, rv, rs, rd⟩ ⟨k0, k1, k2, k3, k4, k5, k6, k7, kv, ks, kd⟩ p (by omega)) rfl rfl ⟨by decide, Nat.le_of_eq (Nat.zero_add _), Nat.le_of_eq (Nat.zero_add _)⟩ (Nat.le_of_ble_eq_true rfl) rfl (fun r h9 hq => ?_)
        obtain ⟨rfl, rfl⟩ := hq
        show jb_J _ RX9 cX9_quickest 6 (Option.some .int) false 3 0 0 38 [some (.ref 53), some (.int (nI c)), some (.int (nI q)), some (.int (nI (jm_th V q))), some (.int (nI p)), x5] [.ref (6 + V 1 p)] [jb_main imm Im Tm rowm stkm tpm, s1, s2, jb_sch53 I W T, s4, s5, s6, s7, s8, s9, s10, s11] _
        refine jb_aload_n (pc' := 39) dX9_quickest_38 rfl rfl ?_
        refine gf_X9_27 (pc' := 42) (v := .ref 55) dX9_quickest_39 rfl rfl rfl ?_
        refine jb_iconst (pc' := 43) 1 dX9_quickest_42 (by decide) rfl ?_
        refine jb_aaload (pc' := 44) (i9 := 1) (r := 57) (Or.inl rfl) dX9_quickest_43 rfl jb_x1 (by decide) rfl rfl ?_
        refine jb_iload (pc' := 46) dX9_quickest_44 rfl rfl ?_
        refine jb_iaload (pc' := 47) (i9 := p) (f := (W 2)) dX9_quickest_46 rfl (jb_ix_nI (by omega)) (by omega) rfl ?_
        refine jb_top (v := .int ((W 2) p)) (w := .int (nI (V 2 p))) (jb_vI (rv p (by omega)).2.1) ?_
        refine jb_aload_n (pc' := 48) dX9_quickest_47 rfl rfl ?_
        refine gf_X9_9 (pc' := 51) (v := .ref 54) dX9_quickest_48 rfl rfl rfl ?_
        refine jb_iconst (pc' := 52) 1 dX9_quickest_51 (by decide) rfl ?_
        refine jb_iaload (pc' := 53) (i9 := 1) (f := (W 0)) dX9_quickest_52 rfl jb_x1 (by decide) rfl ?_
        refine jb_top (v := .int ((W 0) 1)) (w := .int (nI (V 0 5))) (jb_vI a1) ?_
        refine jb_aload_n (pc' := 54) dX9_quickest_53 rfl rfl ?_
        refine gf_X9_9 (pc' := 57) (v := .ref 54) dX9_quickest_54 rfl rfl rfl ?_
        refine jb_iconst (pc' := 58) 2 dX9_quickest_57 (by decide) rfl ?_
        refine jb_iaload (pc' := 59) (i9 := 2) (f := (W 0)) dX9_quickest_58 rfl jb_x2 (by decide) rfl ?_
        refine jb_top (v := .int ((W 0) 2)) (w := .int (nI (V 0 6))) (jb_vI a2) ?_
        refine jd_th (pc' := 62) (k := V 1 p) (by omega) (by omega) (by omega) (by omega) dX9_quickest_59 (by decide) (Nat.le_of_ble_eq_true rfl) rfl ?_
        refine jb_istore_ (pc' := 64) dX9_quickest_62 (by decide) (jb_at5 rfl) rfl ?_
        refine jb_iload_n (pc' := 65) dX9_quickest_64 rfl rfl ?_
        refine jb_if_lt (tgt := 74) (pc' := 68) dX9_quickest_65 (by decide) rfl (fun z => absurd z (nI_pos (n := q) (by omega))) (fun _ => ?_)
        refine jb_iload (pc' := 70) dX9_quickest_68 rfl rfl ?_
        refine jb_iload_n (pc' := 71) dX9_quickest_70 rfl rfl ?_
        refine jb_icmp_ge (tgt := 80) (pc' := 74) dX9_quickest_71 (by decide) rfl (fun hth => ?_) (fun hth => ?_)
        · have hth : (jm_th V q) ≤ (jm_th V p) := (nI_leI (a := (jm_th V q)) (b := (jm_th V p)) (by omega) (by omega)).mp hth
          refine jb_iinc_ (pc' := 83) (nI (p + 1)) dX9_quickest_80 (by decide) rfl (jb_inc p 1) (jb_at4 rfl) rfl ?_
          refine jb_goto (pc' := 7) dX9_quickest_83 (by decide) ?_
          have e9 : jm_qk V c (n + 1) p (some q) = jm_qk V c n (p + 1) (some q) := congrArg (jm_qk V c n (p + 1)) (if_neg (fun z => by have := z.2; simp [jm_qb] at this; omega))
          rw [e9]
          exact ih (p + 1) (some q) _ (by omega) ho
        · have hth : ¬ (jm_th V q) ≤ (jm_th V p) := fun z9 => hth ((nI_leI (a := (jm_th V q)) (b := (jm_th V p)) (by omega) (by omega)).mpr z9)
          refine jb_iload (pc' := 76) dX9_quickest_74 rfl rfl ?_
          refine jb_istore_n_ (pc' := 77) dX9_quickest_76 (by decide) (jb_at2 rfl) rfl ?_
          refine jb_iload (pc' := 79) dX9_quickest_77 rfl rfl ?_
          refine jb_istore_n_ (pc' := 80) dX9_quickest_79 (by decide) (jb_at3 rfl) rfl ?_
          refine jb_iinc_ (pc' := 83) (nI (p + 1)) dX9_quickest_80 (by decide) rfl (jb_inc p 1) (jb_at4 rfl) rfl ?_
          refine jb_goto (pc' := 7) dX9_quickest_83 (by decide) ?_
          have e9 : jm_qk V c (n + 1) p (some q) = jm_qk V c n (p + 1) (some p) := congrArg (jm_qk V c n (p + 1)) (if_pos ⟨hcl, by simp [jm_qb]; omega⟩)
          rw [e9]
          exact ih (p + 1) (some p) _ (by omega) (fun q hq => by cases hq; omega)
      · have hcl : ¬ (V 3 p) = c := fun z9 => hcl ((nI_eq (a := (V 3 p)) (b := c) (by omega) (by omega)).mpr z9)
        refine jb_goto (pc' := 80) dX9_quickest_29 (by decide) ?_
        refine jb_iinc_ (pc' := 83) (nI (p + 1)) dX9_quickest_80 (by decide) rfl (jb_inc p 1) (jb_at4 rfl) rfl ?_
        refine jb_goto (pc' := 7) dX9_quickest_83 (by decide) ?_
        have e9 : jm_qk V c (n + 1) p (some q) = jm_qk V c n (p + 1) (some q) := congrArg (jm_qk V c n (p + 1)) (if_neg (fun z => hcl z.1))
        rw [e9]
        exact ih (p + 1) (some q) _ (by omega) ho
set_option maxRecDepth 100000 in
set_option maxHeartbeats 4000000 in
theorem c_quickest_53 {sc : Nat × (Nat → Int32)} {s1 s2 s4 s5 s6 s7 s8 s9 s10 s11 : List va_E} {V : Nat → Nat → Nat} (imm : Int32) (Im rowm stkm tpm : Nat → Int32) (Tm : Nat → Value) (I : Nat → Int32) (W : Nat → Nat → Int32) (T : Nat → Value) (hr : jr_ V I W) (hk : jv_ok V) (c : Nat) (hc : c < 2) : jb_C sc yX9_quickest cX9_quickest 6 (Option.some .int) 3 0 0 [.ref 53, .int (nI c)] [jb_main imm Im Tm rowm stkm tpm, s1, s2, jb_sch53 I W T, s4, s5, s6, s7, s8, s9, s10, s11] (fun r h9 => h9 = [jb_main imm Im Tm rowm stkm tpm, s1, s2, jb_sch53 I W T, s4, s5, s6, s7, s8, s9, s10, s11] ∧ ((jm_q V c = none ∧ r = some (.int (-1))) ∨ (∃ q, q < V 0 1 ∧ jm_q V c = some q ∧ r = some (.int (nI q))))) := by
  refine jb_CofJ (ini := false) (by decide +kernel) (fun h => by cases h) (Nat.le_of_ble_eq_true rfl) ?_
  show jb_J sc RX9 cX9_quickest 6 (Option.some .int) false 3 0 0 0 [some (.ref 53), some (.int (nI c)), none, none, none, none] [] [jb_main imm Im Tm rowm stkm tpm, s1, s2, jb_sch53 I W T, s4, s5, s6, s7, s8, s9, s10, s11] _
  refine jb_iconst (pc' := 1) (-1) dX9_quickest_0 (by decide) rfl ?_
  refine jb_istore_n_ (pc' := 2) dX9_quickest_1 (by decide) (jb_at2 rfl) rfl ?_
  refine jb_iconst (pc' := 3) 0 dX9_quickest_2 (by decide) rfl ?_
  refine jb_istore_n_ (pc' := 4) dX9_quickest_3 (by decide) (jb_at3 rfl) rfl ?_
  refine jb_iconst (pc' := 5) 0 dX9_quickest_4 (by decide) rfl ?_
  refine jb_istore_ (pc' := 7) dX9_quickest_5 (by decide) (jb_at4 rfl) rfl ?_
  refine jb_J.mono (l_quick_53 _ _ _ _ _ _ I W T hr hk c hc (V 0 1) 0 none _ (by omega) (fun q h => by cases h)) (Nat.le_refl _) (Nat.le_refl _) (Nat.le_refl _) (fun r h9 hq => ?_)
  obtain ⟨rfl, rfl⟩ := hq
  refine ⟨rfl, ?_⟩
  cases e : jm_q V c with
  | none => exact Or.inl ⟨rfl, by rw [show jm_qk V c (V 0 1) 0 none = none from e]; rfl⟩
  | some q => exact Or.inr ⟨q, jm_q_lt e, rfl, by rw [show jm_qk V c (V 0 1) 0 none = some q from e]; rfl⟩
set_option maxRecDepth 100000 in
set_option maxHeartbeats 4000000 in
theorem l_taught_53 {sc : Nat × (Nat → Int32)} {s0 s1 s2 s4 s5 s6 s7 s8 s9 s10 s11 : List va_E} {V : Nat → Nat → Nat} (I : Nat → Int32) (W : Nat → Nat → Int32) (T : Nat → Value) (hr : jr_ V I W) (hk : jv_ok V) (q : Nat) (hq : q < V 0 2) : ∀ (n s : Nat), s + n = V 0 2 → jb_J sc RX9 cX9_isTaught 4 (Option.some .boolean) false 0 0 0 13 [some (.ref 53), some (.int (nI q)), some (.int (nI (V 7 q + 1))), some (.int (nI s))] [] [s0, s1, s2, jb_sch53 I W T, s4, s5, s6, s7, s8, s9, s10, s11] (fun r h9 => h9 = [s0, s1, s2, jb_sch53 I W T, s4, s5, s6, s7, s8, s9, s10, s11] ∧ ((jm_it V q n s = true ∧ r = some (.int 1)) ∨ (jm_it V q n s = false ∧ r = some (.int 0)))) := by
  obtain ⟨r0, r2, r3, r4, a0, a1, a2, rv, rs, rd⟩ := hr
  obtain ⟨k0, k1, k2, k3, k4, k5, k6, k7, kv, ks, kd⟩ := hk
  have q0 := ks q hq
  intro n
  induction n with
  | zero =>
    intro s hs
    show jb_J _ RX9 cX9_isTaught 4 (Option.some .boolean) false 0 0 0 13 [some (.ref 53), some (.int (nI q)), some (.int (nI (V 7 q + 1))), some (.int (nI s))] [] [s0, s1, s2, jb_sch53 I W T, s4, s5, s6, s7, s8, s9, s10, s11] _
    refine jb_iload_n (pc' := 14) dX9_isTaught_13 rfl rfl ?_
    refine jb_aload_n (pc' := 15) dX9_isTaught_14 rfl rfl ?_
    refine gf_X9_30 (pc' := 18) (v := .int (I 3)) dX9_isTaught_15 rfl rfl rfl ?_
    refine jb_top (v := .int (I 3)) (w := .int (nI (V 0 2))) (jb_vI r3) ?_
    refine jb_icmp_ge (tgt := 68) (pc' := 21) dX9_isTaught_18 (by decide) rfl (fun _ => ?_) (fun z => absurd (nI_le (a := V 0 2) (b := s) (by omega) (by omega)) z)
    refine jb_iconst (pc' := 69) 0 dX9_isTaught_68 (by decide) rfl ?_
    refine jb_iret dX9_isTaught_69 rfl ?_
    exact ⟨rfl, Or.inr ⟨rfl, rfl⟩⟩
  | succ n ih =>
    intro s hs
    have q1 := ks s (by omega)
    show jb_J _ RX9 cX9_isTaught 4 (Option.some .boolean) false 0 0 0 13 [some (.ref 53), some (.int (nI q)), some (.int (nI (V 7 q + 1))), some (.int (nI s))] [] [s0, s1, s2, jb_sch53 I W T, s4, s5, s6, s7, s8, s9, s10, s11] _
    refine jb_iload_n (pc' := 14) dX9_isTaught_13 rfl rfl ?_
    refine jb_aload_n (pc' := 15) dX9_isTaught_14 rfl rfl ?_
    refine gf_X9_30 (pc' := 18) (v := .int (I 3)) dX9_isTaught_15 rfl rfl rfl ?_
    refine jb_top (v := .int (I 3)) (w := .int (nI (V 0 2))) (jb_vI r3) ?_
    refine jb_icmp_ge (tgt := 68) (pc' := 21) dX9_isTaught_18 (by decide) rfl (fun z => absurd z (nI_ge (a := s) (b := V 0 2) (by omega) (by omega))) (fun _ => ?_)
    refine jb_aload_n (pc' := 22) dX9_isTaught_21 rfl rfl ?_
    refine gf_X9_33 (pc' := 25) (v := .ref 59) dX9_isTaught_22 rfl rfl rfl ?_
    refine jb_iconst (pc' := 26) 4 dX9_isTaught_25 (by decide) rfl ?_
    refine jb_aaload (pc' := 27) (i9 := 4) (r := 64) (Or.inl rfl) dX9_isTaught_26 rfl jb_x4 (by decide) rfl rfl ?_
    refine jb_iload_n (pc' := 28) dX9_isTaught_27 rfl rfl ?_
    refine jb_iaload (pc' := 29) (i9 := s) (f := (W 8)) dX9_isTaught_28 rfl (jb_ix_nI (by omega)) (by omega) rfl ?_
    refine jb_top (v := .int ((W 8) s)) (w := .int (nI (V 8 s) - 1)) (jb_vI (rs s (by omega)).2.2.2.2.1) ?_
    refine jb_iload_n (pc' := 30) dX9_isTaught_29 rfl rfl ?_
    refine jb_icmp_ne (tgt := 62) (pc' := 33) dX9_isTaught_30 (by decide) rfl (fun c2 => ?_) (fun c2 => ?_)
    · have c2 : ¬ (V 8 s) = q + 1 := fun z9 => c2 ((jn_to (a := (V 8 s)) (q := q) (by omega) (by omega)).mpr z9)
      refine jb_iinc_ (pc' := 65) (nI (s + 1)) dX9_isTaught_62 (by decide) rfl (jb_inc s 1) (jb_at3 rfl) rfl ?_
      refine jb_goto (pc' := 13) dX9_isTaught_65 (by decide) ?_
      have e9 : jm_it V q (n + 1) s = jm_it V q n (s + 1) := if_neg (fun z => by omega)
      rw [e9]
      exact ih (s + 1) (by omega)
    · have c2 : (V 8 s) = q + 1 := (jn_to (a := (V 8 s)) (q := q) (by omega) (by omega)).mp c2
      refine jb_aload_n (pc' := 34) dX9_isTaught_33 rfl rfl ?_
      refine gf_X9_33 (pc' := 37) (v := .ref 59) dX9_isTaught_34 rfl rfl rfl ?_
      refine jb_iconst (pc' := 38) 3 dX9_isTaught_37 (by decide) rfl ?_
      refine jb_aaload (pc' := 39) (i9 := 3) (r := 63) (Or.inl rfl) dX9_isTaught_38 rfl jb_x3 (by decide) rfl rfl ?_
      refine jb_iload_n (pc' := 40) dX9_isTaught_39 rfl rfl ?_
      refine jb_iaload (pc' := 41) (i9 := s) (f := (W 7)) dX9_isTaught_40 rfl (jb_ix_nI (by omega)) (by omega) rfl ?_
      refine jb_top (v := .int ((W 7) s)) (w := .int (nI (V 7 s))) (jb_vI (rs s (by omega)).2.2.2.1) ?_
      refine jb_iload_n (pc' := 42) dX9_isTaught_41 rfl rfl ?_
      refine jb_icmp_ne (tgt := 62) (pc' := 45) dX9_isTaught_42 (by decide) rfl (fun c3 => ?_) (fun c3 => ?_)
      · have c3 : ¬ (V 7 s) = (V 7 q + 1) := fun z9 => c3 ((nI_eq (a := (V 7 s)) (b := (V 7 q + 1)) (by omega) (by omega)).mpr z9)
        refine jb_iinc_ (pc' := 65) (nI (s + 1)) dX9_isTaught_62 (by decide) rfl (jb_inc s 1) (jb_at3 rfl) rfl ?_
        refine jb_goto (pc' := 13) dX9_isTaught_65 (by decide) ?_
        have e9 : jm_it V q (n + 1) s = jm_it V q n (s + 1) := if_neg (fun z => by omega)
        rw [e9]
        exact ih (s + 1) (by omega)
      · have c3 : (V 7 s) = (V 7 q + 1) := (nI_eq (a := (V 7 s)) (b := (V 7 q + 1)) (by omega) (by omega)).mp c3
        refine jb_aload_n (pc' := 46) dX9_isTaught_45 rfl rfl ?_
        refine gf_X9_33 (pc' := 49) (v := .ref 59) dX9_isTaught_46 rfl rfl rfl ?_
        refine jb_iconst (pc' := 50) 5 dX9_isTaught_49 (by decide) rfl ?_
        refine jb_aaload (pc' := 51) (i9 := 5) (r := 65) (Or.inl rfl) dX9_isTaught_50 rfl jb_x5 (by decide) rfl rfl ?_
        refine jb_iload_n (pc' := 52) dX9_isTaught_51 rfl rfl ?_
        refine jb_iaload (pc' := 53) (i9 := s) (f := (W 9)) dX9_isTaught_52 rfl (jb_ix_nI (by omega)) (by omega) rfl ?_
        refine jb_top (v := .int ((W 9) s)) (w := .int (nI (V 9 s))) (jb_vI (rs s (by omega)).2.2.2.2.2) ?_
        refine jb_aload_n (pc' := 54) dX9_isTaught_53 rfl rfl ?_
        refine gf_X9_15 (pc' := 57) (v := .int (I 0)) dX9_isTaught_54 rfl rfl rfl ?_
        refine jb_top (v := .int (I 0)) (w := .int (nI (V 0 0))) (jb_vI r0) ?_
        refine jb_icmp_ge (tgt := 62) (pc' := 60) dX9_isTaught_57 (by decide) rfl (fun c4 => ?_) (fun c4 => ?_)
        · have c4 : (V 0 0) ≤ (V 9 s) := (nI_leI (a := (V 0 0)) (b := (V 9 s)) (by omega) (by omega)).mp c4
          refine jb_iinc_ (pc' := 65) (nI (s + 1)) dX9_isTaught_62 (by decide) rfl (jb_inc s 1) (jb_at3 rfl) rfl ?_
          refine jb_goto (pc' := 13) dX9_isTaught_65 (by decide) ?_
          have e9 : jm_it V q (n + 1) s = jm_it V q n (s + 1) := if_neg (fun z => by omega)
          rw [e9]
          exact ih (s + 1) (by omega)
        · have c4 : ¬ (V 0 0) ≤ (V 9 s) := fun z9 => c4 ((nI_leI (a := (V 0 0)) (b := (V 9 s)) (by omega) (by omega)).mpr z9)
          refine jb_iconst (pc' := 61) 1 dX9_isTaught_60 (by decide) rfl ?_
          refine jb_iret dX9_isTaught_61 rfl ?_
          exact ⟨rfl, Or.inl ⟨if_pos (by omega), rfl⟩⟩
set_option maxRecDepth 100000 in
set_option maxHeartbeats 4000000 in
theorem c_isTaught_53 {sc : Nat × (Nat → Int32)} {s0 s1 s2 s4 s5 s6 s7 s8 s9 s10 s11 : List va_E} {V : Nat → Nat → Nat} (I : Nat → Int32) (W : Nat → Nat → Int32) (T : Nat → Value) (hr : jr_ V I W) (hk : jv_ok V) (q : Nat) (hq : q < V 0 2) : jb_C sc yX9_isTaught cX9_isTaught 4 (Option.some .boolean) 0 0 0 [.ref 53, .int (nI q)] [s0, s1, s2, jb_sch53 I W T, s4, s5, s6, s7, s8, s9, s10, s11] (fun r h9 => h9 = [s0, s1, s2, jb_sch53 I W T, s4, s5, s6, s7, s8, s9, s10, s11] ∧ ((jm_it V q (V 0 2) 0 = true ∧ r = some (.int 1)) ∨ (jm_it V q (V 0 2) 0 = false ∧ r = some (.int 0)))) := by
  refine jb_CofJ (ini := false) (by decide +kernel) (fun h => by cases h) (Nat.le_of_ble_eq_true rfl) ?_
  show jb_J sc RX9 cX9_isTaught 4 (Option.some .boolean) false 0 0 0 0 [some (.ref 53), some (.int (nI q)), none, none] [] [s0, s1, s2, jb_sch53 I W T, s4, s5, s6, s7, s8, s9, s10, s11] _
  obtain ⟨r0, r2, r3, r4, a0, a1, a2, rv, rs, rd⟩ := hr
  obtain ⟨k0, k1, k2, k3, k4, k5, k6, k7, kv, ks, kd⟩ := hk
  have q0 := ks q hq
  refine jb_aload_n (pc' := 1) dX9_isTaught_0 rfl rfl ?_
  refine gf_X9_33 (pc' := 4) (v := .ref 59) dX9_isTaught_1 rfl rfl rfl ?_
  refine jb_iconst (pc' := 5) 3 dX9_isTaught_4 (by decide) rfl ?_
  refine jb_aaload (pc' := 6) (i9 := 3) (r := 63) (Or.inl rfl) dX9_isTaught_5 rfl jb_x3 (by decide) rfl rfl ?_
  refine jb_iload_n (pc' := 7) dX9_isTaught_6 rfl rfl ?_
  refine jb_iaload (pc' := 8) (i9 := q) (f := (W 7)) dX9_isTaught_7 rfl (jb_ix_nI (by omega)) (by omega) rfl ?_
  refine jb_top (v := .int ((W 7) q)) (w := .int (nI (V 7 q))) (jb_vI (rs q (by omega)).2.2.2.1) ?_
  refine jb_iconst (pc' := 9) 1 dX9_isTaught_8 (by decide) rfl ?_
  refine jb_iadd (pc' := 10) dX9_isTaught_9 rfl ?_
  refine jb_top (v := .int ((nI (V 7 q)) + 1)) (w := .int (nI ((V 7 q) + 1))) (jb_vI (nI_add _ 1)) ?_
  refine jb_istore_n_ (pc' := 11) dX9_isTaught_10 (by decide) (jb_at2 rfl) rfl ?_
  refine jb_iconst (pc' := 12) 0 dX9_isTaught_11 (by decide) rfl ?_
  refine jb_istore_n_ (pc' := 13) dX9_isTaught_12 (by decide) (jb_at3 rfl) rfl ?_
  exact l_taught_53 _ _ _ ⟨r0, r2, r3, r4, a0, a1, a2, rv, rs, rd⟩ ⟨k0, k1, k2, k3, k4, k5, k6, k7, kv, ks, kd⟩ q hq (V 0 2) 0 (by omega)
set_option maxRecDepth 100000 in
set_option maxHeartbeats 4000000 in
theorem l_taughts_53 {sc : Nat × (Nat → Int32)} {s0 s1 s2 s4 s5 s6 s7 s8 s9 s10 s11 : List va_E} {V : Nat → Nat → Nat} (I : Nat → Int32) (W : Nat → Nat → Int32) (T : Nat → Value) (hr : jr_ V I W) (hk : jv_ok V) : ∀ (n q k : Nat), q + n = V 0 2 → k ≤ q → jb_J sc RX9 cX9_questionsTaught 3 (Option.some .int) false 1 0 0 4 [some (.ref 53), some (.int (nI k)), some (.int (nI q))] [] [s0, s1, s2, jb_sch53 I W T, s4, s5, s6, s7, s8, s9, s10, s11] (fun r h9 => r = some (.int (nI (jm_tk V n q k))) ∧ h9 = [s0, s1, s2, jb_sch53 I W T, s4, s5, s6, s7, s8, s9, s10, s11]) := by
  obtain ⟨r0, r2, r3, r4, a0, a1, a2, rv, rs, rd⟩ := hr
  obtain ⟨k0, k1, k2, k3, k4, k5, k6, k7, kv, ks, kd⟩ := hk
  intro n
  induction n with
  | zero =>
    intro q k hq hkq
    show jb_J _ RX9 cX9_questionsTaught 3 (Option.some .int) false 1 0 0 4 [some (.ref 53), some (.int (nI k)), some (.int (nI q))] [] [s0, s1, s2, jb_sch53 I W T, s4, s5, s6, s7, s8, s9, s10, s11] _
    refine jb_iload_n (pc' := 5) dX9_questionsTaught_4 rfl rfl ?_
    refine jb_aload_n (pc' := 6) dX9_questionsTaught_5 rfl rfl ?_
    refine gf_X9_30 (pc' := 9) (v := .int (I 3)) dX9_questionsTaught_6 rfl rfl rfl ?_
    refine jb_top (v := .int (I 3)) (w := .int (nI (V 0 2))) (jb_vI r3) ?_
    refine jb_icmp_ge (tgt := 42) (pc' := 12) dX9_questionsTaught_9 (by decide) rfl (fun _ => ?_) (fun z => absurd (nI_le (a := V 0 2) (b := q) (by omega) (by omega)) z)
    refine jb_iload_n (pc' := 43) dX9_questionsTaught_42 rfl rfl ?_
    refine jb_iret dX9_questionsTaught_43 rfl ?_
    exact ⟨rfl, rfl⟩
  | succ n ih =>
    intro q k hq hkq
    have q1 := ks q (by omega)
    show jb_J _ RX9 cX9_questionsTaught 3 (Option.some .int) false 1 0 0 4 [some (.ref 53), some (.int (nI k)), some (.int (nI q))] [] [s0, s1, s2, jb_sch53 I W T, s4, s5, s6, s7, s8, s9, s10, s11] _
    refine jb_iload_n (pc' := 5) dX9_questionsTaught_4 rfl rfl ?_
    refine jb_aload_n (pc' := 6) dX9_questionsTaught_5 rfl rfl ?_
    refine gf_X9_30 (pc' := 9) (v := .int (I 3)) dX9_questionsTaught_6 rfl rfl rfl ?_
    refine jb_top (v := .int (I 3)) (w := .int (nI (V 0 2))) (jb_vI r3) ?_
    refine jb_icmp_ge (tgt := 42) (pc' := 12) dX9_questionsTaught_9 (by decide) rfl (fun z => absurd z (nI_ge (a := q) (b := V 0 2) (by omega) (by omega))) (fun _ => ?_)
    refine jb_aload_n (pc' := 13) dX9_questionsTaught_12 rfl rfl ?_
    refine gf_X9_33 (pc' := 16) (v := .ref 59) dX9_questionsTaught_13 rfl rfl rfl ?_
    refine jb_iconst (pc' := 17) 3 dX9_questionsTaught_16 (by decide) rfl ?_
    refine jb_aaload (pc' := 18) (i9 := 3) (r := 63) (Or.inl rfl) dX9_questionsTaught_17 rfl jb_x3 (by decide) rfl rfl ?_
    refine jb_iload_n (pc' := 19) dX9_questionsTaught_18 rfl rfl ?_
    refine jb_iaload (pc' := 20) (i9 := q) (f := (W 7)) dX9_questionsTaught_19 rfl (jb_ix_nI (by omega)) (by omega) rfl ?_
    refine jb_top (v := .int ((W 7) q)) (w := .int (nI (V 7 q))) (jb_vI (rs q (by omega)).2.2.2.1) ?_
    refine jb_iconst (pc' := 21) 2 dX9_questionsTaught_20 (by decide) rfl ?_
    refine jb_irem (pc' := 22) dX9_questionsTaught_21 (by decide) rfl ?_
    refine jb_top (v := .int ((nI (V 7 q)) - (nI (V 7 q)) / 2 * 2)) (w := .int (nI ((V 7 q) % 2))) (jb_vI (pk_rem (a := (V 7 q)) (d := 2) (by omega) (by omega) (by omega))) ?_
    refine jb_if_ne (tgt := 36) (pc' := 25) dX9_questionsTaught_22 (by decide) rfl (fun c2 => ?_) (fun c2 => ?_)
    · have c2 : ¬ ((V 7 q) % 2) = 0 := fun z9 => c2 ((nI_eq (a := ((V 7 q) % 2)) (b := 0) (by omega) (by omega)).mpr z9)
      refine jb_iinc_ (pc' := 39) (nI (q + 1)) dX9_questionsTaught_36 (by decide) rfl (jb_inc q 1) (jb_at2 rfl) rfl ?_
      refine jb_goto (pc' := 4) dX9_questionsTaught_39 (by decide) ?_
      have e9 : jm_tk V (n + 1) q k = jm_tk V n (q + 1) k := congrArg (jm_tk V n (q + 1)) (if_neg (fun z => by first | omega | simp_all))
      rw [e9]
      exact ih (q + 1) (k) (by omega) (by omega)
    · have c2 : ((V 7 q) % 2) = 0 := (nI_eq (a := ((V 7 q) % 2)) (b := 0) (by omega) (by omega)).mp c2
      refine jb_aload_n (pc' := 26) dX9_questionsTaught_25 rfl rfl ?_
      refine jb_iload_n (pc' := 27) dX9_questionsTaught_26 rfl rfl ?_
      refine jb_callV (pc' := 30) (ci := 9) (q := 53) (As := [.int (nI q)]) (a2 := 0) (b2 := 0) wv_X9_149 rfl dX9_questionsTaught_27 (c_isTaught_53 I W T ⟨r0, r2, r3, r4, a0, a1, a2, rv, rs, rd⟩ ⟨k0, k1, k2, k3, k4, k5, k6, k7, kv, ks, kd⟩ q (by omega)) rfl rfl ⟨by decide, Nat.le_of_eq (Nat.zero_add _), Nat.le_of_eq (Nat.zero_add _)⟩ (Nat.le_of_ble_eq_true rfl) rfl (fun r h9 hq => ?_)
      rcases hq with ⟨rfl, ⟨ht9, rfl⟩ | ⟨ht9, rfl⟩⟩
      · show jb_J _ RX9 cX9_questionsTaught 3 (Option.some .int) false 1 0 0 30 [some (.ref 53), some (.int (nI k)), some (.int (nI q))] [.int 1] [s0, s1, s2, jb_sch53 I W T, s4, s5, s6, s7, s8, s9, s10, s11] _
        refine jb_if_eq (tgt := 36) (pc' := 33) dX9_questionsTaught_30 (by decide) rfl (fun z => absurd z (by decide)) (fun _ => ?_)
        refine jb_iinc_ (pc' := 36) (nI (k + 1)) dX9_questionsTaught_33 (by decide) rfl (jb_inc k 1) (jb_at1 rfl) rfl ?_
        refine jb_iinc_ (pc' := 39) (nI (q + 1)) dX9_questionsTaught_36 (by decide) rfl (jb_inc q 1) (jb_at2 rfl) rfl ?_
        refine jb_goto (pc' := 4) dX9_questionsTaught_39 (by decide) ?_
        have e9 : jm_tk V (n + 1) q k = jm_tk V n (q + 1) (k + 1) := congrArg (jm_tk V n (q + 1)) (if_pos ⟨by omega, by assumption⟩)
        rw [e9]
        exact ih (q + 1) (k + 1) (by omega) (by omega)
      · show jb_J _ RX9 cX9_questionsTaught 3 (Option.some .int) false 1 0 0 30 [some (.ref 53), some (.int (nI k)), some (.int (nI q))] [.int 0] [s0, s1, s2, jb_sch53 I W T, s4, s5, s6, s7, s8, s9, s10, s11] _
        refine jb_if_eq (tgt := 36) (pc' := 33) dX9_questionsTaught_30 (by decide) rfl (fun _ => ?_) (fun z => absurd (by decide) z)
        refine jb_iinc_ (pc' := 39) (nI (q + 1)) dX9_questionsTaught_36 (by decide) rfl (jb_inc q 1) (jb_at2 rfl) rfl ?_
        refine jb_goto (pc' := 4) dX9_questionsTaught_39 (by decide) ?_
        have e9 : jm_tk V (n + 1) q k = jm_tk V n (q + 1) k := congrArg (jm_tk V n (q + 1)) (if_neg (fun z => by first | omega | simp_all))
        rw [e9]
        exact ih (q + 1) (k) (by omega) (by omega)
set_option maxRecDepth 100000 in
set_option maxHeartbeats 4000000 in
theorem c_taught_53 {sc : Nat × (Nat → Int32)} {s0 s1 s2 s4 s5 s6 s7 s8 s9 s10 s11 : List va_E} {V : Nat → Nat → Nat} (I : Nat → Int32) (W : Nat → Nat → Int32) (T : Nat → Value) (hr : jr_ V I W) (hk : jv_ok V) : jb_C sc yX9_questionsTaught cX9_questionsTaught 3 (Option.some .int) 1 0 0 [.ref 53] [s0, s1, s2, jb_sch53 I W T, s4, s5, s6, s7, s8, s9, s10, s11] (fun r h9 => r = some (.int (nI (jm_ta V))) ∧ h9 = [s0, s1, s2, jb_sch53 I W T, s4, s5, s6, s7, s8, s9, s10, s11]) := by
  refine jb_CofJ (ini := false) (by decide +kernel) (fun h => by cases h) (Nat.le_of_ble_eq_true rfl) ?_
  show jb_J sc RX9 cX9_questionsTaught 3 (Option.some .int) false 1 0 0 0 [some (.ref 53), none, none] [] [s0, s1, s2, jb_sch53 I W T, s4, s5, s6, s7, s8, s9, s10, s11] _
  refine jb_iconst (pc' := 1) 0 dX9_questionsTaught_0 (by decide) rfl ?_
  refine jb_istore_n_ (pc' := 2) dX9_questionsTaught_1 (by decide) (jb_at1 rfl) rfl ?_
  refine jb_iconst (pc' := 3) 0 dX9_questionsTaught_2 (by decide) rfl ?_
  refine jb_istore_n_ (pc' := 4) dX9_questionsTaught_3 (by decide) (jb_at2 rfl) rfl ?_
  exact l_taughts_53 _ _ _ hr hk (V 0 2) 0 0 (by omega) (by omega)
set_option maxRecDepth 100000 in
set_option maxHeartbeats 4000000 in
theorem c_addShout_53 {sc : Nat × (Nat → Int32)} {s0 s1 s2 s4 s5 s6 s7 s8 s9 s10 s11 : List va_E} {V : Nat → Nat → Nat} (I : Nat → Int32) (W : Nat → Nat → Int32) (T : Nat → Value) (hr : jr_ V I W) (hk : jv_ok V) (x w t : Nat) (hx : x < V 0 1) (hw : w < 40) (ht : t ≤ V 0 2) : jb_C sc yX9_addShout cX9_addShout 4 (Option.none : Option Jvm.ClassFile.FieldType) 1 0 0 [.ref 53, .int (nI x), .int (nI w), .int (nI t - 1)] [s0, s1, s2, jb_sch53 I W T, s4, s5, s6, s7, s8, s9, s10, s11] (fun r h9 => r = none ∧ ∃ I9 W9, jr_ (jm_as V x w t) I9 W9 ∧ I9 1 = I 1 ∧ jr_f I W I9 W9 ∧ h9 = [s0, s1, s2, jb_sch53 I9 W9 T, s4, s5, s6, s7, s8, s9, s10, s11]) := by
  refine jb_CofJ (ini := false) (by decide +kernel) (fun h => by cases h) (Nat.le_of_ble_eq_true rfl) ?_
  show jb_J sc RX9 cX9_addShout 4 (Option.none : Option Jvm.ClassFile.FieldType) false 1 0 0 0 [some (.ref 53), some (.int (nI x)), some (.int (nI w)), some (.int (nI t - 1))] [] [s0, s1, s2, jb_sch53 I W T, s4, s5, s6, s7, s8, s9, s10, s11] _
  obtain ⟨r0, r2, r3, r4, a0, a1, a2, rv, rs, rd⟩ := hr
  obtain ⟨k0, k1, k2, k3, k4, k5, k6, k7, kv, ks, kd⟩ := hk
  have q0 := kv x hx
  refine jb_aload_n (pc' := 1) dX9_addShout_0 rfl rfl ?_
  refine gf_X9_30 (pc' := 4) (v := .int (I 3)) dX9_addShout_1 rfl rfl rfl ?_
  refine jb_top (v := .int (I 3)) (w := .int (nI (V 0 2))) (jb_vI r3) ?_
  refine jb_bipush (pc' := 6) 40 dX9_addShout_4 (by decide) rfl ?_
  refine jb_icmp_lt (tgt := 10) (pc' := 9) dX9_addShout_6 (by decide) rfl (fun c1 => ?_) (fun c1 => ?_)
  · have c1 : (V 0 2) < 40 := (nI_ltI (a := (V 0 2)) (b := 40) (by omega) (by omega)).mp c1
    refine jb_aload_n (pc' := 11) dX9_addShout_10 rfl rfl ?_
    refine gf_X9_33 (pc' := 14) (v := .ref 59) dX9_addShout_11 rfl rfl rfl ?_
    refine jb_iconst (pc' := 15) 0 dX9_addShout_14 (by decide) rfl ?_
    refine jb_aaload (pc' := 16) (i9 := 0) (r := 60) (Or.inl rfl) dX9_addShout_15 rfl jb_x0 (by decide) rfl rfl ?_
    refine jb_aload_n (pc' := 17) dX9_addShout_16 rfl rfl ?_
    refine gf_X9_30 (pc' := 20) (v := .int (I 3)) dX9_addShout_17 rfl rfl rfl ?_
    refine jb_top (v := .int (I 3)) (w := .int (nI (V 0 2))) (jb_vI r3) ?_
    refine jb_aload_n (pc' := 21) dX9_addShout_20 rfl rfl ?_
    refine gf_X9_15 (pc' := 24) (v := .int (I 0)) dX9_addShout_21 rfl rfl rfl ?_
    refine jb_top (v := .int (I 0)) (w := .int (nI (V 0 0))) (jb_vI r0) ?_
    refine jb_iastore (pc' := 25) (i9 := (V 0 2)) (f := (W 4)) (h' := [s0, s1, s2, jb_sch53 I (va_up W 4 (upd (W 4) (V 0 2) (nI (V 0 0)))) T, s4, s5, s6, s7, s8, s9, s10, s11]) dX9_addShout_24 rfl (jb_ix_nI (by omega)) (by omega) rfl rfl ?_
    refine jb_aload_n (pc' := 26) dX9_addShout_25 rfl rfl ?_
    refine gf_X9_33 (pc' := 29) (v := .ref 59) dX9_addShout_26 rfl rfl rfl ?_
    refine jb_iconst (pc' := 30) 1 dX9_addShout_29 (by decide) rfl ?_
    refine jb_aaload (pc' := 31) (i9 := 1) (r := 61) (Or.inl rfl) dX9_addShout_30 rfl jb_x1 (by decide) rfl rfl ?_
    refine jb_aload_n (pc' := 32) dX9_addShout_31 rfl rfl ?_
    refine gf_X9_30 (pc' := 35) (v := .int (I 3)) dX9_addShout_32 rfl rfl rfl ?_
    refine jb_top (v := .int (I 3)) (w := .int (nI (V 0 2))) (jb_vI r3) ?_
    refine jb_iload_n (pc' := 36) dX9_addShout_35 rfl rfl ?_
    refine jb_iastore (pc' := 37) (i9 := (V 0 2)) (f := (W 5)) (h' := [s0, s1, s2, jb_sch53 I (va_up (va_up W 4 (upd (W 4) (V 0 2) (nI (V 0 0)))) 5 (upd (W 5) (V 0 2) (nI x))) T, s4, s5, s6, s7, s8, s9, s10, s11]) dX9_addShout_36 rfl (jb_ix_nI (by omega)) (by omega) rfl rfl ?_
    refine jb_aload_n (pc' := 38) dX9_addShout_37 rfl rfl ?_
    refine gf_X9_33 (pc' := 41) (v := .ref 59) dX9_addShout_38 rfl rfl rfl ?_
    refine jb_iconst (pc' := 42) 2 dX9_addShout_41 (by decide) rfl ?_
    refine jb_aaload (pc' := 43) (i9 := 2) (r := 62) (Or.inl rfl) dX9_addShout_42 rfl jb_x2 (by decide) rfl rfl ?_
    refine jb_aload_n (pc' := 44) dX9_addShout_43 rfl rfl ?_
    refine gf_X9_30 (pc' := 47) (v := .int (I 3)) dX9_addShout_44 rfl rfl rfl ?_
    refine jb_top (v := .int (I 3)) (w := .int (nI (V 0 2))) (jb_vI r3) ?_
    refine jb_aload_n (pc' := 48) dX9_addShout_47 rfl rfl ?_
    refine gf_X9_27 (pc' := 51) (v := .ref 55) dX9_addShout_48 rfl rfl rfl ?_
    refine jb_iconst (pc' := 52) 2 dX9_addShout_51 (by decide) rfl ?_
    refine jb_aaload (pc' := 53) (i9 := 2) (r := 58) (Or.inl rfl) dX9_addShout_52 rfl jb_x2 (by decide) rfl rfl ?_
    refine jb_iload_n (pc' := 54) dX9_addShout_53 rfl rfl ?_
    refine jb_iaload (pc' := 55) (i9 := x) (f := (W 3)) dX9_addShout_54 rfl (jb_ix_nI (by omega)) (by omega) rfl ?_
    refine jb_top (v := .int ((W 3) x)) (w := .int (nI (V 3 x))) (jb_vI (rv x (by omega)).2.2) ?_
    refine jb_iastore (pc' := 56) (i9 := (V 0 2)) (f := (W 6)) (h' := [s0, s1, s2, jb_sch53 I (va_up (va_up (va_up W 4 (upd (W 4) (V 0 2) (nI (V 0 0)))) 5 (upd (W 5) (V 0 2) (nI x))) 6 (upd (W 6) (V 0 2) (nI (V 3 x)))) T, s4, s5, s6, s7, s8, s9, s10, s11]) dX9_addShout_55 rfl (jb_ix_nI (by omega)) (by omega) rfl rfl ?_
    refine jb_aload_n (pc' := 57) dX9_addShout_56 rfl rfl ?_
    refine gf_X9_33 (pc' := 60) (v := .ref 59) dX9_addShout_57 rfl rfl rfl ?_
    refine jb_iconst (pc' := 61) 3 dX9_addShout_60 (by decide) rfl ?_
    refine jb_aaload (pc' := 62) (i9 := 3) (r := 63) (Or.inl rfl) dX9_addShout_61 rfl jb_x3 (by decide) rfl rfl ?_
    refine jb_aload_n (pc' := 63) dX9_addShout_62 rfl rfl ?_
    refine gf_X9_30 (pc' := 66) (v := .int (I 3)) dX9_addShout_63 rfl rfl rfl ?_
    refine jb_top (v := .int (I 3)) (w := .int (nI (V 0 2))) (jb_vI r3) ?_
    refine jb_iload_n (pc' := 67) dX9_addShout_66 rfl rfl ?_
    refine jb_iastore (pc' := 68) (i9 := (V 0 2)) (f := (W 7)) (h' := [s0, s1, s2, jb_sch53 I (va_up (va_up (va_up (va_up W 4 (upd (W 4) (V 0 2) (nI (V 0 0)))) 5 (upd (W 5) (V 0 2) (nI x))) 6 (upd (W 6) (V 0 2) (nI (V 3 x)))) 7 (upd (W 7) (V 0 2) (nI w))) T, s4, s5, s6, s7, s8, s9, s10, s11]) dX9_addShout_67 rfl (jb_ix_nI (by omega)) (by omega) rfl rfl ?_
    refine jb_aload_n (pc' := 69) dX9_addShout_68 rfl rfl ?_
    refine gf_X9_33 (pc' := 72) (v := .ref 59) dX9_addShout_69 rfl rfl rfl ?_
    refine jb_iconst (pc' := 73) 4 dX9_addShout_72 (by decide) rfl ?_
    refine jb_aaload (pc' := 74) (i9 := 4) (r := 64) (Or.inl rfl) dX9_addShout_73 rfl jb_x4 (by decide) rfl rfl ?_
    refine jb_aload_n (pc' := 75) dX9_addShout_74 rfl rfl ?_
    refine gf_X9_30 (pc' := 78) (v := .int (I 3)) dX9_addShout_75 rfl rfl rfl ?_
    refine jb_top (v := .int (I 3)) (w := .int (nI (V 0 2))) (jb_vI r3) ?_
    refine jb_iload_n (pc' := 79) dX9_addShout_78 rfl rfl ?_
    refine jb_iastore (pc' := 80) (i9 := (V 0 2)) (f := (W 8)) (h' := [s0, s1, s2, jb_sch53 I (va_up (va_up (va_up (va_up (va_up W 4 (upd (W 4) (V 0 2) (nI (V 0 0)))) 5 (upd (W 5) (V 0 2) (nI x))) 6 (upd (W 6) (V 0 2) (nI (V 3 x)))) 7 (upd (W 7) (V 0 2) (nI w))) 8 (upd (W 8) (V 0 2) (nI t - 1))) T, s4, s5, s6, s7, s8, s9, s10, s11]) dX9_addShout_79 rfl (jb_ix_nI (by omega)) (by omega) rfl rfl ?_
    refine jb_aload_n (pc' := 81) dX9_addShout_80 rfl rfl ?_
    refine gf_X9_33 (pc' := 84) (v := .ref 59) dX9_addShout_81 rfl rfl rfl ?_
    refine jb_iconst (pc' := 85) 5 dX9_addShout_84 (by decide) rfl ?_
    refine jb_aaload (pc' := 86) (i9 := 5) (r := 65) (Or.inl rfl) dX9_addShout_85 rfl jb_x5 (by decide) rfl rfl ?_
    refine jb_aload_n (pc' := 87) dX9_addShout_86 rfl rfl ?_
    refine gf_X9_30 (pc' := 90) (v := .int (I 3)) dX9_addShout_87 rfl rfl rfl ?_
    refine jb_top (v := .int (I 3)) (w := .int (nI (V 0 2))) (jb_vI r3) ?_
    refine jb_aload_n (pc' := 91) dX9_addShout_90 rfl rfl ?_
    refine gf_X9_15 (pc' := 94) (v := .int (I 0)) dX9_addShout_91 rfl rfl rfl ?_
    refine jb_top (v := .int (I 0)) (w := .int (nI (V 0 0))) (jb_vI r0) ?_
    refine jb_aload_n (pc' := 95) dX9_addShout_94 rfl rfl ?_
    refine jb_callV (pc' := 98) (ci := 9) (q := 53) (As := []) (a2 := 0) (b2 := 0) wv_X9_117 rfl dX9_addShout_95 (c_gap_53 _ _ _) rfl rfl ⟨by decide, Nat.le_of_eq (Nat.zero_add _), Nat.le_of_eq (Nat.zero_add _)⟩ (Nat.le_of_ble_eq_true rfl) rfl (fun r h9 hq => ?_)
    obtain ⟨rfl, rfl⟩ := hq
    show jb_J _ RX9 cX9_addShout 4 (Option.none : Option Jvm.ClassFile.FieldType) false 1 0 0 98 [some (.ref 53), some (.int (nI x)), some (.int (nI w)), some (.int (nI t - 1))] [.int (W 0 0 + W 0 1), .int (nI (V 0 0)), .int (nI (V 0 2)), .ref 65] [s0, s1, s2, jb_sch53 I (va_up (va_up (va_up (va_up (va_up W 4 (upd (W 4) (V 0 2) (nI (V 0 0)))) 5 (upd (W 5) (V 0 2) (nI x))) 6 (upd (W 6) (V 0 2) (nI (V 3 x)))) 7 (upd (W 7) (V 0 2) (nI w))) 8 (upd (W 8) (V 0 2) (nI t - 1))) T, s4, s5, s6, s7, s8, s9, s10, s11] _
    refine jb_top (v := .int (W 0 0 + W 0 1)) (w := .int (nI (V 0 4 + V 0 5))) (jb_vI (by rw [a0, a1, nI_add])) ?_
    refine jb_iadd (pc' := 99) dX9_addShout_98 rfl ?_
    refine jb_top (v := .int ((nI (V 0 0)) + (nI (V 0 4 + V 0 5)))) (w := .int (nI ((V 0 0) + (V 0 4 + V 0 5)))) (jb_vI (nI_add _ _)) ?_
    refine jb_iastore (pc' := 100) (i9 := (V 0 2)) (f := (W 9)) (h' := [s0, s1, s2, jb_sch53 I (va_up (va_up (va_up (va_up (va_up (va_up W 4 (upd (W 4) (V 0 2) (nI (V 0 0)))) 5 (upd (W 5) (V 0 2) (nI x))) 6 (upd (W 6) (V 0 2) (nI (V 3 x)))) 7 (upd (W 7) (V 0 2) (nI w))) 8 (upd (W 8) (V 0 2) (nI t - 1))) 9 (upd (W 9) (V 0 2) (nI ((V 0 0) + (V 0 4 + V 0 5))))) T, s4, s5, s6, s7, s8, s9, s10, s11]) dX9_addShout_99 rfl (jb_ix_nI (by omega)) (by omega) rfl rfl ?_
    refine jb_aload_n (pc' := 101) dX9_addShout_100 rfl rfl ?_
    refine jb_dup (pc' := 102) dX9_addShout_101 rfl rfl ?_
    refine gf_X9_30 (pc' := 105) (v := .int (I 3)) dX9_addShout_102 rfl rfl rfl ?_
    refine jb_top (v := .int (I 3)) (w := .int (nI (V 0 2))) (jb_vI r3) ?_
    refine jb_iconst (pc' := 106) 1 dX9_addShout_105 (by decide) rfl ?_
    refine jb_iadd (pc' := 107) dX9_addShout_106 rfl ?_
    refine jb_top (v := .int ((nI (V 0 2)) + 1)) (w := .int (nI ((V 0 2) + 1))) (jb_vI (nI_add _ 1)) ?_
    refine pf_X9_30 (pc' := 110) (h' := [s0, s1, s2, jb_sch53 (upd I 3 (nI ((V 0 2) + 1))) (va_up (va_up (va_up (va_up (va_up (va_up W 4 (upd (W 4) (V 0 2) (nI (V 0 0)))) 5 (upd (W 5) (V 0 2) (nI x))) 6 (upd (W 6) (V 0 2) (nI (V 3 x)))) 7 (upd (W 7) (V 0 2) (nI w))) 8 (upd (W 8) (V 0 2) (nI t - 1))) 9 (upd (W 9) (V 0 2) (nI ((V 0 0) + (V 0 4 + V 0 5))))) T, s4, s5, s6, s7, s8, s9, s10, s11]) dX9_addShout_107 (fun _ => ⟨rfl, rfl⟩) rfl (Nat.le_of_ble_eq_true rfl) rfl rfl ?_
    refine jb_vret dX9_addShout_110 ?_
    exact ⟨rfl, (upd I 3 (nI ((V 0 2) + 1))), (va_up (va_up (va_up (va_up (va_up (va_up W 4 (upd (W 4) (V 0 2) (nI (V 0 0)))) 5 (upd (W 5) (V 0 2) (nI x))) 6 (upd (W 6) (V 0 2) (nI (V 3 x)))) 7 (upd (W 7) (V 0 2) (nI w))) 8 (upd (W 8) (V 0 2) (nI t - 1))) 9 (upd (W 9) (V 0 2) (nI ((V 0 0) + (V 0 4 + V 0 5))))), by rw [jm_as, if_pos (by omega)]; exact jr_sh ⟨r0, r2, r3, r4, a0, a1, a2, rv, rs, rd⟩ x w t, rfl, ⟨rfl, rfl, rfl, rfl⟩, rfl⟩
  · have c1 : ¬ (V 0 2) < 40 := fun z9 => c1 ((nI_ltI (a := (V 0 2)) (b := 40) (by omega) (by omega)).mpr z9)
    refine jb_vret dX9_addShout_9 ?_
    exact ⟨rfl, I, W, by rw [jm_as, if_neg (by omega)]; exact ⟨r0, r2, r3, r4, a0, a1, a2, rv, rs, rd⟩, rfl, ⟨rfl, rfl, rfl, rfl⟩, rfl⟩
set_option maxRecDepth 100000 in
set_option maxHeartbeats 4000000 in
theorem c_comeOver1_53 {sc : Nat × (Nat → Int32)} {s1 s2 s4 s5 s6 s7 s8 s9 s10 s11 : List va_E} {V : Nat → Nat → Nat} (imm : Int32) (Im rowm stkm tpm : Nat → Int32) (Tm : Nat → Value) (I : Nat → Int32) (W : Nat → Nat → Int32) (T : Nat → Value) (hr : jr_ V I W) (hk : jv_ok V) {G : jm_G} (hG : jm_Gok G) (hg : jG53 sc T s11 G) (s : Nat) (hs : s < V 0 2) : jb_C sc yX9_comeOver cX9_comeOver 7 (Option.none : Option Jvm.ClassFile.FieldType) 6 0 0 [.ref 53, .int (nI s), .int 1] [jb_main imm Im Tm rowm stkm tpm, s1, s2, jb_sch53 I W T, s4, s5, s6, s7, s8, s9, s10, s11] (fun r h9 => r = none ∧ ∃ I9 W9 stk9, jr_ ((jm_co G true s (V, I 1)).1) I9 W9 ∧ I9 1 = (jm_co G true s (V, I 1)).2 ∧ jr_f I W I9 W9 ∧ h9 = [jb_main imm Im Tm rowm stk9 tpm, s1, s2, jb_sch53 I9 W9 T, s4, s5, s6, s7, s8, s9, s10, s11]) := by
  refine jb_CofJ (ini := false) (by decide +kernel) (fun h => by cases h) (Nat.le_of_ble_eq_true rfl) ?_
  show jb_J sc RX9 cX9_comeOver 7 (Option.none : Option Jvm.ClassFile.FieldType) false 6 0 0 0 [some (.ref 53), some (.int (nI s)), some (.int 1), none, none, none, none] [] [jb_main imm Im Tm rowm stkm tpm, s1, s2, jb_sch53 I W T, s4, s5, s6, s7, s8, s9, s10, s11] _
  obtain ⟨r0, r2, r3, r4, a0, a1, a2, rv, rs, rd⟩ := hr
  obtain ⟨k0, k1, k2, k3, k4, k5, k6, k7, kv, ks, kd⟩ := hk
  have q0 := ks s hs
  have q2 := kv (V 5 s) (by omega)
  refine jb_aload_n (pc' := 1) dX9_comeOver_0 rfl rfl ?_
  refine gf_X9_33 (pc' := 4) (v := .ref 59) dX9_comeOver_1 rfl rfl rfl ?_
  refine jb_iconst (pc' := 5) 3 dX9_comeOver_4 (by decide) rfl ?_
  refine jb_aaload (pc' := 6) (i9 := 3) (r := 63) (Or.inl rfl) dX9_comeOver_5 rfl jb_x3 (by decide) rfl rfl ?_
  refine jb_iload_n (pc' := 7) dX9_comeOver_6 rfl rfl ?_
  refine jb_iaload (pc' := 8) (i9 := s) (f := (W 7)) dX9_comeOver_7 rfl (jb_ix_nI (by omega)) (by omega) rfl ?_
  refine jb_top (v := .int ((W 7) s)) (w := .int (nI (V 7 s))) (jb_vI (rs s (by omega)).2.2.2.1) ?_
  refine jb_istore_n_ (pc' := 9) dX9_comeOver_8 (by decide) (jb_at3 rfl) rfl ?_
  refine jb_aload_n (pc' := 10) dX9_comeOver_9 rfl rfl ?_
  refine jb_aload_n (pc' := 11) dX9_comeOver_10 rfl rfl ?_
  refine gf_X9_33 (pc' := 14) (v := .ref 59) dX9_comeOver_11 rfl rfl rfl ?_
  refine jb_iconst (pc' := 15) 1 dX9_comeOver_14 (by decide) rfl ?_
  refine jb_aaload (pc' := 16) (i9 := 1) (r := 61) (Or.inl rfl) dX9_comeOver_15 rfl jb_x1 (by decide) rfl rfl ?_
  refine jb_iload_n (pc' := 17) dX9_comeOver_16 rfl rfl ?_
  refine jb_iaload (pc' := 18) (i9 := s) (f := (W 5)) dX9_comeOver_17 rfl (jb_ix_nI (by omega)) (by omega) rfl ?_
  refine jb_top (v := .int ((W 5) s)) (w := .int (nI (V 5 s))) (jb_vI (rs s (by omega)).2.1) ?_
  refine jb_iload_n (pc' := 19) dX9_comeOver_18 rfl rfl ?_
  refine jb_callV (pc' := 22) (ci := 9) (q := 53) (As := [.int (nI (V 5 s)), .int (nI (V 7 s))]) (a2 := 0) (b2 := 0) wv_X9_128 rfl dX9_comeOver_19 (c_carriage_53 _ _ _ _ _ _ I W T ⟨r0, r2, r3, r4, a0, a1, a2, rv, rs, rd⟩ ⟨k0, k1, k2, k3, k4, k5, k6, k7, kv, ks, kd⟩ hG hg (V 5 s) (V 7 s) (by omega) (by omega)) rfl rfl ⟨by decide, Nat.le_of_eq (Nat.zero_add _), Nat.le_of_eq (Nat.zero_add _)⟩ (Nat.le_of_ble_eq_true rfl) rfl (fun r h9 hq => ?_)
  obtain ⟨rfl, stk9, rfl⟩ := hq
  show jb_J _ RX9 cX9_comeOver 7 (Option.none : Option Jvm.ClassFile.FieldType) false 6 0 0 22 [some (.ref 53), some (.int (nI s)), some (.int 1), some (.int (nI (V 7 s))), none, none, none] [.int (jm_ca V G (V 5 s) (V 7 s))] [jb_main imm Im Tm rowm stk9 tpm, s1, s2, jb_sch53 I W T, s4, s5, s6, s7, s8, s9, s10, s11] _
  refine jb_istore_ (pc' := 24) dX9_comeOver_22 (by decide) (jb_at4 rfl) rfl ?_
  refine jb_iload_n (pc' := 25) dX9_comeOver_24 rfl rfl ?_
  refine jb_if_eq (tgt := 48) (pc' := 28) dX9_comeOver_25 (by decide) rfl (fun z => absurd z (by decide)) (fun _ => ?_)
  refine jb_aload_n (pc' := 29) dX9_comeOver_28 rfl rfl ?_
  refine jb_callV (pc' := 32) (ci := 9) (q := 53) (As := []) (a2 := 0) (b2 := 0) wv_X9_131 rfl dX9_comeOver_29 (c_draw_53 _ _ _) rfl rfl ⟨by decide, Nat.le_of_eq (Nat.zero_add _), Nat.le_of_eq (Nat.zero_add _)⟩ (Nat.le_of_ble_eq_true rfl) rfl (fun r h9 hq => ?_)
  obtain ⟨rfl, rfl⟩ := hq
  obtain ⟨z9, hz9⟩ : ∃ z, jm_dr (I 1) = z := ⟨_, rfl⟩
  rw [hz9]
  have hr8 : jr_ V (upd I 1 z9) W := ⟨r0, r2, r3, r4, a0, a1, a2, rv, rs, rd⟩
  have hz8 : (upd I 1 z9) 1 = z9 := jb_uee
  have hf8 : jr_f I W (upd I 1 z9) W := ⟨rfl, rfl, rfl, rfl⟩
  obtain ⟨I8, hI8⟩ : ∃ f, upd I 1 z9 = f := ⟨_, rfl⟩
  rw [hI8] at hr8 hz8 hf8 ⊢
  obtain ⟨r0, r2, r3, r4, a0, a1, a2, rv, rs, rd⟩ := hr8
  show jb_J _ RX9 cX9_comeOver 7 (Option.none : Option Jvm.ClassFile.FieldType) false 6 0 0 32 [some (.ref 53), some (.int (nI s)), some (.int 1), some (.int (nI (V 7 s))), some (.int (jm_ca V G (V 5 s) (V 7 s))), none, none] [.int (jm_us z9)] [jb_main imm Im Tm rowm stk9 tpm, s1, s2, jb_sch53 I8 W T, s4, s5, s6, s7, s8, s9, s10, s11] _
  refine jb_bipush (pc' := 34) 10 dX9_comeOver_32 (by decide) rfl ?_
  refine jb_irem (pc' := 35) dX9_comeOver_34 (by decide) rfl ?_
  refine jb_iload (pc' := 37) dX9_comeOver_35 rfl rfl ?_
  refine jb_icmp_ge (tgt := 44) (pc' := 40) dX9_comeOver_37 (by decide) rfl (fun hh => ?_) (fun hh => ?_)
  · have hh9 : ¬ jm_hd true (if true = true then jm_dr (I 1) else I 1) (jm_ca V G (V 5 s) (V 7 s)) = true := jm_hd_tf hz9 hh
    refine jb_iconst (pc' := 45) 0 dX9_comeOver_44 (by decide) rfl ?_
    refine jb_goto (pc' := 59) dX9_comeOver_45 (by decide) ?_
    refine jb_istore_ (pc' := 61) dX9_comeOver_59 (by decide) (jb_at5 rfl) rfl ?_
    refine jb_iload (pc' := 63) dX9_comeOver_61 rfl rfl ?_
    refine jb_if_eq (tgt := 81) (pc' := 66) dX9_comeOver_63 (by decide) rfl (fun _ => ?_) (fun z => absurd (by decide) z)
    refine jb_vret dX9_comeOver_81 ?_
    exact ⟨rfl, I8, W, stk9, by rw [jm_co_f G true s V (I 1) (fun z => by first | exact hh9 z.1 | omega)]; exact ⟨r0, r2, r3, r4, a0, a1, a2, rv, rs, rd⟩, Eq.trans (b := jm_dr (I 1)) (hz8.trans hz9.symm) (jm_co_z1 G s V (I 1)).symm, ⟨hf8.1, hf8.2.1, rfl, rfl⟩, rfl⟩
  · have hh9 : jm_hd true (if true = true then jm_dr (I 1) else I 1) (jm_ca V G (V 5 s) (V 7 s)) = true := jm_hd_tt hz9 hh
    refine jb_iconst (pc' := 41) 1 dX9_comeOver_40 (by decide) rfl ?_
    refine jb_goto (pc' := 59) dX9_comeOver_41 (by decide) ?_
    refine jb_istore_ (pc' := 61) dX9_comeOver_59 (by decide) (jb_at5 rfl) rfl ?_
    refine jb_iload (pc' := 63) dX9_comeOver_61 rfl rfl ?_
    refine jb_if_eq (tgt := 81) (pc' := 66) dX9_comeOver_63 (by decide) rfl (fun z => absurd z (by decide)) (fun _ => ?_)
    refine jb_iload_n (pc' := 67) dX9_comeOver_66 rfl rfl ?_
    refine jb_iconst (pc' := 68) 2 dX9_comeOver_67 (by decide) rfl ?_
    refine jb_irem (pc' := 69) dX9_comeOver_68 (by decide) rfl ?_
    refine jb_top (v := .int ((nI (V 7 s)) - (nI (V 7 s)) / 2 * 2)) (w := .int (nI ((V 7 s) % 2))) (jb_vI (pk_rem (a := (V 7 s)) (d := 2) (by omega) (by omega) (by omega))) ?_
    refine jb_if_ne (tgt := 81) (pc' := 72) dX9_comeOver_69 (by decide) rfl (fun c5 => ?_) (fun c5 => ?_)
    · have c5 : ¬ ((V 7 s) % 2) = 0 := fun z9 => c5 ((nI_eq (a := ((V 7 s) % 2)) (b := 0) (by omega) (by omega)).mpr z9)
      refine jb_vret dX9_comeOver_81 ?_
      exact ⟨rfl, I8, W, stk9, by rw [jm_co_f G true s V (I 1) (fun z => by first | exact hh9 z.1 | omega)]; exact ⟨r0, r2, r3, r4, a0, a1, a2, rv, rs, rd⟩, Eq.trans (b := jm_dr (I 1)) (hz8.trans hz9.symm) (jm_co_z1 G s V (I 1)).symm, ⟨hf8.1, hf8.2.1, rfl, rfl⟩, rfl⟩
    · have c5 : ((V 7 s) % 2) = 0 := (nI_eq (a := ((V 7 s) % 2)) (b := 0) (by omega) (by omega)).mp c5
      refine jb_aload_n (pc' := 73) dX9_comeOver_72 rfl rfl ?_
      refine gf_X9_36 (pc' := 76) (v := .int (I8 4)) dX9_comeOver_73 rfl rfl rfl ?_
      refine jb_top (v := .int (I8 4)) (w := .int (nI (V 0 3))) (jb_vI r4) ?_
      refine jb_bipush (pc' := 78) 12 dX9_comeOver_76 (by decide) rfl ?_
      refine jb_icmp_lt (tgt := 82) (pc' := 81) dX9_comeOver_78 (by decide) rfl (fun c6 => ?_) (fun c6 => ?_)
      · have c6 : (V 0 3) < 12 := (nI_ltI (a := (V 0 3)) (b := 12) (by omega) (by omega)).mp c6
        refine jb_aload_n (pc' := 83) dX9_comeOver_82 rfl rfl ?_
        refine jb_iconst (pc' := 84) 1 dX9_comeOver_83 (by decide) rfl ?_
        refine jb_aload_n (pc' := 85) dX9_comeOver_84 rfl rfl ?_
        refine gf_X9_33 (pc' := 88) (v := .ref 59) dX9_comeOver_85 rfl rfl rfl ?_
        refine jb_iconst (pc' := 89) 2 dX9_comeOver_88 (by decide) rfl ?_
        refine jb_aaload (pc' := 90) (i9 := 2) (r := 62) (Or.inl rfl) dX9_comeOver_89 rfl jb_x2 (by decide) rfl rfl ?_
        refine jb_iload_n (pc' := 91) dX9_comeOver_90 rfl rfl ?_
        refine jb_iaload (pc' := 92) (i9 := s) (f := (W 6)) dX9_comeOver_91 rfl (jb_ix_nI (by omega)) (by omega) rfl ?_
        refine jb_top (v := .int ((W 6) s)) (w := .int (nI (V 6 s))) (jb_vI (rs s (by omega)).2.2.1) ?_
        refine jb_isub (pc' := 93) dX9_comeOver_92 rfl ?_
        refine jb_top (v := .int (1 - (nI (V 6 s)))) (w := .int (nI (1 - (V 6 s)))) (jb_vI (pk_sub (a := 1) (by omega))) ?_
        refine jb_callV (pc' := 96) (ci := 9) (q := 53) (As := [.int (nI (1 - (V 6 s)))]) (a2 := 0) (b2 := 0) wv_X9_134 rfl dX9_comeOver_93 (c_quickest_53 _ _ _ _ _ _ I8 W T ⟨r0, r2, r3, r4, a0, a1, a2, rv, rs, rd⟩ ⟨k0, k1, k2, k3, k4, k5, k6, k7, kv, ks, kd⟩ (1 - (V 6 s)) (by omega)) rfl rfl ⟨by decide, Nat.le_of_eq (Nat.zero_add _), Nat.le_of_eq (Nat.zero_add _)⟩ (Nat.le_of_ble_eq_true rfl) rfl (fun r h9 hq => ?_)
        rcases hq with ⟨rfl, ⟨eq9, rfl⟩ | ⟨q, hq9, eq9, rfl⟩⟩
        · show jb_J _ RX9 cX9_comeOver 7 (Option.none : Option Jvm.ClassFile.FieldType) false 6 0 0 96 [some (.ref 53), some (.int (nI s)), some (.int 1), some (.int (nI (V 7 s))), some (.int (jm_ca V G (V 5 s) (V 7 s))), some (.int 1), none] [.int (-1)] [jb_main imm Im Tm rowm stk9 tpm, s1, s2, jb_sch53 I8 W T, s4, s5, s6, s7, s8, s9, s10, s11] _
          refine jb_istore_ (pc' := 98) dX9_comeOver_96 (by decide) (jb_at6 rfl) rfl ?_
          refine jb_iload (pc' := 100) dX9_comeOver_98 rfl rfl ?_
          refine jb_if_ge (tgt := 104) (pc' := 103) dX9_comeOver_100 (by decide) rfl (fun z => absurd z (by decide)) (fun _ => ?_)
          refine jb_vret dX9_comeOver_103 ?_
          exact ⟨rfl, I8, W, stk9, by rw [jm_co_n G true s V (I 1) eq9]; exact ⟨r0, r2, r3, r4, a0, a1, a2, rv, rs, rd⟩, Eq.trans (b := jm_dr (I 1)) (hz8.trans hz9.symm) (jm_co_z1 G s V (I 1)).symm, ⟨hf8.1, hf8.2.1, rfl, rfl⟩, rfl⟩
        · show jb_J _ RX9 cX9_comeOver 7 (Option.none : Option Jvm.ClassFile.FieldType) false 6 0 0 96 [some (.ref 53), some (.int (nI s)), some (.int 1), some (.int (nI (V 7 s))), some (.int (jm_ca V G (V 5 s) (V 7 s))), some (.int 1), none] [.int (nI q)] [jb_main imm Im Tm rowm stk9 tpm, s1, s2, jb_sch53 I8 W T, s4, s5, s6, s7, s8, s9, s10, s11] _
          refine jb_istore_ (pc' := 98) dX9_comeOver_96 (by decide) (jb_at6 rfl) rfl ?_
          refine jb_iload (pc' := 100) dX9_comeOver_98 rfl rfl ?_
          refine jb_if_ge (tgt := 104) (pc' := 103) dX9_comeOver_100 (by decide) rfl (fun _ => ?_) (fun z => absurd (nI_pos' (n := q) (by omega)) z)
          refine jb_aload_n (pc' := 105) dX9_comeOver_104 rfl rfl ?_
          refine gf_X9_39 (pc' := 108) (v := .ref 66) dX9_comeOver_105 rfl rfl rfl ?_
          refine jb_iconst (pc' := 109) 0 dX9_comeOver_108 (by decide) rfl ?_
          refine jb_aaload (pc' := 110) (i9 := 0) (r := 67) (Or.inl rfl) dX9_comeOver_109 rfl jb_x0 (by decide) rfl rfl ?_
          refine jb_aload_n (pc' := 111) dX9_comeOver_110 rfl rfl ?_
          refine gf_X9_36 (pc' := 114) (v := .int (I8 4)) dX9_comeOver_111 rfl rfl rfl ?_
          refine jb_top (v := .int (I8 4)) (w := .int (nI (V 0 3))) (jb_vI r4) ?_
          refine jb_iload (pc' := 116) dX9_comeOver_114 rfl rfl ?_
          refine jb_iastore (pc' := 117) (i9 := (V 0 3)) (f := (W 10)) (h' := [jb_main imm Im Tm rowm stk9 tpm, s1, s2, jb_sch53 I8 (va_up W 10 (upd (W 10) (V 0 3) (nI q))) T, s4, s5, s6, s7, s8, s9, s10, s11]) dX9_comeOver_116 rfl (jb_ix_nI (by omega)) (by omega) rfl rfl ?_
          refine jb_aload_n (pc' := 118) dX9_comeOver_117 rfl rfl ?_
          refine gf_X9_39 (pc' := 121) (v := .ref 66) dX9_comeOver_118 rfl rfl rfl ?_
          refine jb_iconst (pc' := 122) 1 dX9_comeOver_121 (by decide) rfl ?_
          refine jb_aaload (pc' := 123) (i9 := 1) (r := 68) (Or.inl rfl) dX9_comeOver_122 rfl jb_x1 (by decide) rfl rfl ?_
          refine jb_aload_n (pc' := 124) dX9_comeOver_123 rfl rfl ?_
          refine gf_X9_36 (pc' := 127) (v := .int (I8 4)) dX9_comeOver_124 rfl rfl rfl ?_
          refine jb_top (v := .int (I8 4)) (w := .int (nI (V 0 3))) (jb_vI r4) ?_
          refine jb_aload_n (pc' := 128) dX9_comeOver_127 rfl rfl ?_
          refine jb_iload (pc' := 130) dX9_comeOver_128 rfl rfl ?_
          refine jb_iload_n (pc' := 131) dX9_comeOver_130 rfl rfl ?_
          refine jb_callV (pc' := 134) (ci := 9) (q := 53) (As := [.int (nI q), .int (nI (V 7 s))]) (a2 := 0) (b2 := 0) wv_X9_138 rfl dX9_comeOver_131 (c_wordSaid_53 _ _ _ _ _ _ I8 (va_up W 10 (upd (W 10) (V 0 3) (nI q))) T (jr_by ⟨r0, r2, r3, r4, a0, a1, a2, rv, rs, rd⟩ (fun r hr9 => by simp only [va_up]; rw [if_neg (by omega)]) (fun k hk9 => ⟨by simp [va_up, upd, Nat.ne_of_lt hk9], by simp [va_up, upd, Nat.ne_of_lt hk9], by simp [va_up, upd, Nat.ne_of_lt hk9], by simp [va_up, upd, Nat.ne_of_lt hk9]⟩)) ⟨k0, k1, k2, k3, k4, k5, k6, k7, kv, ks, kd⟩ hG hg q (V 7 s) (by omega) (by omega)) rfl rfl ⟨by decide, Nat.le_of_eq (Nat.zero_add _), Nat.le_of_eq (Nat.zero_add _)⟩ (Nat.le_of_ble_eq_true rfl) rfl (fun r h9 hq => ?_)
          obtain ⟨rfl, stk9, rfl⟩ := hq
          show jb_J _ RX9 cX9_comeOver 7 (Option.none : Option Jvm.ClassFile.FieldType) false 6 0 0 134 [some (.ref 53), some (.int (nI s)), some (.int 1), some (.int (nI (V 7 s))), some (.int (jm_ca V G (V 5 s) (V 7 s))), some (.int 1), some (.int (nI q))] [.int (nI (jm_sa V G q (V 7 s))), .int (nI (V 0 3)), .ref 68] [jb_main imm Im Tm rowm stk9 tpm, s1, s2, jb_sch53 I8 (va_up W 10 (upd (W 10) (V 0 3) (nI q))) T, s4, s5, s6, s7, s8, s9, s10, s11] _
          refine jb_iastore (pc' := 135) (i9 := (V 0 3)) (f := (W 11)) (h' := [jb_main imm Im Tm rowm stk9 tpm, s1, s2, jb_sch53 I8 (va_up (va_up W 10 (upd (W 10) (V 0 3) (nI q))) 11 (upd (W 11) (V 0 3) (nI (jm_sa V G q (V 7 s))))) T, s4, s5, s6, s7, s8, s9, s10, s11]) dX9_comeOver_134 rfl (jb_ix_nI (by omega)) (by omega) rfl rfl ?_
          refine jb_aload_n (pc' := 136) dX9_comeOver_135 rfl rfl ?_
          refine gf_X9_39 (pc' := 139) (v := .ref 66) dX9_comeOver_136 rfl rfl rfl ?_
          refine jb_iconst (pc' := 140) 2 dX9_comeOver_139 (by decide) rfl ?_
          refine jb_aaload (pc' := 141) (i9 := 2) (r := 69) (Or.inl rfl) dX9_comeOver_140 rfl jb_x2 (by decide) rfl rfl ?_
          refine jb_aload_n (pc' := 142) dX9_comeOver_141 rfl rfl ?_
          refine gf_X9_36 (pc' := 145) (v := .int (I8 4)) dX9_comeOver_142 rfl rfl rfl ?_
          refine jb_top (v := .int (I8 4)) (w := .int (nI (V 0 3))) (jb_vI r4) ?_
          refine jb_iload_n (pc' := 146) dX9_comeOver_145 rfl rfl ?_
          refine jb_iastore (pc' := 147) (i9 := (V 0 3)) (f := (W 12)) (h' := [jb_main imm Im Tm rowm stk9 tpm, s1, s2, jb_sch53 I8 (va_up (va_up (va_up W 10 (upd (W 10) (V 0 3) (nI q))) 11 (upd (W 11) (V 0 3) (nI (jm_sa V G q (V 7 s))))) 12 (upd (W 12) (V 0 3) (nI s))) T, s4, s5, s6, s7, s8, s9, s10, s11]) dX9_comeOver_146 rfl (jb_ix_nI (by omega)) (by omega) rfl rfl ?_
          refine jb_aload_n (pc' := 148) dX9_comeOver_147 rfl rfl ?_
          refine gf_X9_39 (pc' := 151) (v := .ref 66) dX9_comeOver_148 rfl rfl rfl ?_
          refine jb_iconst (pc' := 152) 3 dX9_comeOver_151 (by decide) rfl ?_
          refine jb_aaload (pc' := 153) (i9 := 3) (r := 70) (Or.inl rfl) dX9_comeOver_152 rfl jb_x3 (by decide) rfl rfl ?_
          refine jb_aload_n (pc' := 154) dX9_comeOver_153 rfl rfl ?_
          refine gf_X9_36 (pc' := 157) (v := .int (I8 4)) dX9_comeOver_154 rfl rfl rfl ?_
          refine jb_top (v := .int (I8 4)) (w := .int (nI (V 0 3))) (jb_vI r4) ?_
          refine jb_aload_n (pc' := 158) dX9_comeOver_157 rfl rfl ?_
          refine gf_X9_15 (pc' := 161) (v := .int (I8 0)) dX9_comeOver_158 rfl rfl rfl ?_
          refine jb_top (v := .int (I8 0)) (w := .int (nI (V 0 0))) (jb_vI r0) ?_
          refine jb_aload_n (pc' := 162) dX9_comeOver_161 rfl rfl ?_
          refine jb_iload (pc' := 164) dX9_comeOver_162 rfl rfl ?_
          refine jb_callV (pc' := 167) (ci := 9) (q := 53) (As := [.int (nI q)]) (a2 := 0) (b2 := 0) wv_X9_141 rfl dX9_comeOver_164 (c_thinking_53 _ _ _ _ _ _ I8 (va_up (va_up (va_up W 10 (upd (W 10) (V 0 3) (nI q))) 11 (upd (W 11) (V 0 3) (nI (jm_sa V G q (V 7 s))))) 12 (upd (W 12) (V 0 3) (nI s))) T (jr_by ⟨r0, r2, r3, r4, a0, a1, a2, rv, rs, rd⟩ (fun r hr9 => by simp only [va_up]; rw [if_neg (by omega)]; rw [if_neg (by omega)]; rw [if_neg (by omega)]) (fun k hk9 => ⟨by simp [va_up, upd, Nat.ne_of_lt hk9], by simp [va_up, upd, Nat.ne_of_lt hk9], by simp [va_up, upd, Nat.ne_of_lt hk9], by simp [va_up, upd, Nat.ne_of_lt hk9]⟩)) ⟨k0, k1, k2, k3, k4, k5, k6, k7, kv, ks, kd⟩ q (by omega)) rfl rfl ⟨by decide, Nat.le_of_eq (Nat.zero_add _), Nat.le_of_eq (Nat.zero_add _)⟩ (Nat.le_of_ble_eq_true rfl) rfl (fun r h9 hq => ?_)
          obtain ⟨rfl, rfl⟩ := hq
          show jb_J _ RX9 cX9_comeOver 7 (Option.none : Option Jvm.ClassFile.FieldType) false 6 0 0 167 [some (.ref 53), some (.int (nI s)), some (.int 1), some (.int (nI (V 7 s))), some (.int (jm_ca V G (V 5 s) (V 7 s))), some (.int 1), some (.int (nI q))] [.int (nI (jm_th V q)), .int (nI (V 0 0)), .int (nI (V 0 3)), .ref 70] [jb_main imm Im Tm rowm stk9 tpm, s1, s2, jb_sch53 I8 (va_up (va_up (va_up W 10 (upd (W 10) (V 0 3) (nI q))) 11 (upd (W 11) (V 0 3) (nI (jm_sa V G q (V 7 s))))) 12 (upd (W 12) (V 0 3) (nI s))) T, s4, s5, s6, s7, s8, s9, s10, s11] _
          refine jb_iadd (pc' := 168) dX9_comeOver_167 rfl ?_
          refine jb_top (v := .int ((nI (V 0 0)) + (nI (jm_th V q)))) (w := .int (nI ((V 0 0) + (jm_th V q)))) (jb_vI (nI_add _ _)) ?_
          refine jb_iastore (pc' := 169) (i9 := (V 0 3)) (f := (W 13)) (h' := [jb_main imm Im Tm rowm stk9 tpm, s1, s2, jb_sch53 I8 (va_up (va_up (va_up (va_up W 10 (upd (W 10) (V 0 3) (nI q))) 11 (upd (W 11) (V 0 3) (nI (jm_sa V G q (V 7 s))))) 12 (upd (W 12) (V 0 3) (nI s))) 13 (upd (W 13) (V 0 3) (nI ((V 0 0) + (jm_th V q))))) T, s4, s5, s6, s7, s8, s9, s10, s11]) dX9_comeOver_168 rfl (jb_ix_nI (by omega)) (by omega) rfl rfl ?_
          refine jb_aload_n (pc' := 170) dX9_comeOver_169 rfl rfl ?_
          refine jb_dup (pc' := 171) dX9_comeOver_170 rfl rfl ?_
          refine gf_X9_36 (pc' := 174) (v := .int (I8 4)) dX9_comeOver_171 rfl rfl rfl ?_
          refine jb_top (v := .int (I8 4)) (w := .int (nI (V 0 3))) (jb_vI r4) ?_
          refine jb_iconst (pc' := 175) 1 dX9_comeOver_174 (by decide) rfl ?_
          refine jb_iadd (pc' := 176) dX9_comeOver_175 rfl ?_
          refine jb_top (v := .int ((nI (V 0 3)) + 1)) (w := .int (nI ((V 0 3) + 1))) (jb_vI (nI_add _ 1)) ?_
          refine pf_X9_36 (pc' := 179) (h' := [jb_main imm Im Tm rowm stk9 tpm, s1, s2, jb_sch53 (upd I8 4 (nI ((V 0 3) + 1))) (va_up (va_up (va_up (va_up W 10 (upd (W 10) (V 0 3) (nI q))) 11 (upd (W 11) (V 0 3) (nI (jm_sa V G q (V 7 s))))) 12 (upd (W 12) (V 0 3) (nI s))) 13 (upd (W 13) (V 0 3) (nI ((V 0 0) + (jm_th V q))))) T, s4, s5, s6, s7, s8, s9, s10, s11]) dX9_comeOver_176 (fun _ => ⟨rfl, rfl⟩) rfl (Nat.le_of_ble_eq_true rfl) rfl rfl ?_
          refine jb_vret dX9_comeOver_179 ?_
          exact ⟨rfl, (upd I8 4 (nI ((V 0 3) + 1))), (va_up (va_up (va_up (va_up W 10 (upd (W 10) (V 0 3) (nI q))) 11 (upd (W 11) (V 0 3) (nI (jm_sa V G q (V 7 s))))) 12 (upd (W 12) (V 0 3) (nI s))) 13 (upd (W 13) (V 0 3) (nI ((V 0 0) + (jm_th V q))))), stk9, by rw [jm_co_s G true s V (I 1) q ⟨hh9, by omega, by omega⟩ eq9]; exact jr_due ⟨r0, r2, r3, r4, a0, a1, a2, rv, rs, rd⟩ q (jm_sa V G q (V 7 s)) s _ rfl, Eq.trans (b := jm_dr (I 1)) ((jb_une (by decide)).trans (hz8.trans hz9.symm)) (jm_co_z1 G s V (I 1)).symm, ⟨hf8.1, hf8.2.1, rfl, rfl⟩, rfl⟩
      · have c6 : ¬ (V 0 3) < 12 := fun z9 => c6 ((nI_ltI (a := (V 0 3)) (b := 12) (by omega) (by omega)).mpr z9)
        refine jb_vret dX9_comeOver_81 ?_
        exact ⟨rfl, I8, W, stk9, by rw [jm_co_f G true s V (I 1) (fun z => by first | exact hh9 z.1 | omega)]; exact ⟨r0, r2, r3, r4, a0, a1, a2, rv, rs, rd⟩, Eq.trans (b := jm_dr (I 1)) (hz8.trans hz9.symm) (jm_co_z1 G s V (I 1)).symm, ⟨hf8.1, hf8.2.1, rfl, rfl⟩, rfl⟩
set_option maxRecDepth 100000 in
set_option maxHeartbeats 4000000 in
theorem c_comeOver0_53 {sc : Nat × (Nat → Int32)} {s1 s2 s4 s5 s6 s7 s8 s9 s10 s11 : List va_E} {V : Nat → Nat → Nat} (imm : Int32) (Im rowm stkm tpm : Nat → Int32) (Tm : Nat → Value) (I : Nat → Int32) (W : Nat → Nat → Int32) (T : Nat → Value) (hr : jr_ V I W) (hk : jv_ok V) {G : jm_G} (hG : jm_Gok G) (hg : jG53 sc T s11 G) (s : Nat) (hs : s < V 0 2) : jb_C sc yX9_comeOver cX9_comeOver 7 (Option.none : Option Jvm.ClassFile.FieldType) 6 0 0 [.ref 53, .int (nI s), .int 0] [jb_main imm Im Tm rowm stkm tpm, s1, s2, jb_sch53 I W T, s4, s5, s6, s7, s8, s9, s10, s11] (fun r h9 => r = none ∧ ∃ I9 W9 stk9, jr_ ((jm_co G false s (V, I 1)).1) I9 W9 ∧ I9 1 = (jm_co G false s (V, I 1)).2 ∧ jr_f I W I9 W9 ∧ h9 = [jb_main imm Im Tm rowm stk9 tpm, s1, s2, jb_sch53 I9 W9 T, s4, s5, s6, s7, s8, s9, s10, s11]) := by
  refine jb_CofJ (ini := false) (by decide +kernel) (fun h => by cases h) (Nat.le_of_ble_eq_true rfl) ?_
  show jb_J sc RX9 cX9_comeOver 7 (Option.none : Option Jvm.ClassFile.FieldType) false 6 0 0 0 [some (.ref 53), some (.int (nI s)), some (.int 0), none, none, none, none] [] [jb_main imm Im Tm rowm stkm tpm, s1, s2, jb_sch53 I W T, s4, s5, s6, s7, s8, s9, s10, s11] _
  obtain ⟨r0, r2, r3, r4, a0, a1, a2, rv, rs, rd⟩ := hr
  obtain ⟨k0, k1, k2, k3, k4, k5, k6, k7, kv, ks, kd⟩ := hk
  have q0 := ks s hs
  have q2 := kv (V 5 s) (by omega)
  refine jb_aload_n (pc' := 1) dX9_comeOver_0 rfl rfl ?_
  refine gf_X9_33 (pc' := 4) (v := .ref 59) dX9_comeOver_1 rfl rfl rfl ?_
  refine jb_iconst (pc' := 5) 3 dX9_comeOver_4 (by decide) rfl ?_
  refine jb_aaload (pc' := 6) (i9 := 3) (r := 63) (Or.inl rfl) dX9_comeOver_5 rfl jb_x3 (by decide) rfl rfl ?_
  refine jb_iload_n (pc' := 7) dX9_comeOver_6 rfl rfl ?_
  refine jb_iaload (pc' := 8) (i9 := s) (f := (W 7)) dX9_comeOver_7 rfl (jb_ix_nI (by omega)) (by omega) rfl ?_
  refine jb_top (v := .int ((W 7) s)) (w := .int (nI (V 7 s))) (jb_vI (rs s (by omega)).2.2.2.1) ?_
  refine jb_istore_n_ (pc' := 9) dX9_comeOver_8 (by decide) (jb_at3 rfl) rfl ?_
  refine jb_aload_n (pc' := 10) dX9_comeOver_9 rfl rfl ?_
  refine jb_aload_n (pc' := 11) dX9_comeOver_10 rfl rfl ?_
  refine gf_X9_33 (pc' := 14) (v := .ref 59) dX9_comeOver_11 rfl rfl rfl ?_
  refine jb_iconst (pc' := 15) 1 dX9_comeOver_14 (by decide) rfl ?_
  refine jb_aaload (pc' := 16) (i9 := 1) (r := 61) (Or.inl rfl) dX9_comeOver_15 rfl jb_x1 (by decide) rfl rfl ?_
  refine jb_iload_n (pc' := 17) dX9_comeOver_16 rfl rfl ?_
  refine jb_iaload (pc' := 18) (i9 := s) (f := (W 5)) dX9_comeOver_17 rfl (jb_ix_nI (by omega)) (by omega) rfl ?_
  refine jb_top (v := .int ((W 5) s)) (w := .int (nI (V 5 s))) (jb_vI (rs s (by omega)).2.1) ?_
  refine jb_iload_n (pc' := 19) dX9_comeOver_18 rfl rfl ?_
  refine jb_callV (pc' := 22) (ci := 9) (q := 53) (As := [.int (nI (V 5 s)), .int (nI (V 7 s))]) (a2 := 0) (b2 := 0) wv_X9_128 rfl dX9_comeOver_19 (c_carriage_53 _ _ _ _ _ _ I W T ⟨r0, r2, r3, r4, a0, a1, a2, rv, rs, rd⟩ ⟨k0, k1, k2, k3, k4, k5, k6, k7, kv, ks, kd⟩ hG hg (V 5 s) (V 7 s) (by omega) (by omega)) rfl rfl ⟨by decide, Nat.le_of_eq (Nat.zero_add _), Nat.le_of_eq (Nat.zero_add _)⟩ (Nat.le_of_ble_eq_true rfl) rfl (fun r h9 hq => ?_)
  obtain ⟨rfl, stk9, rfl⟩ := hq
  show jb_J _ RX9 cX9_comeOver 7 (Option.none : Option Jvm.ClassFile.FieldType) false 6 0 0 22 [some (.ref 53), some (.int (nI s)), some (.int 0), some (.int (nI (V 7 s))), none, none, none] [.int (jm_ca V G (V 5 s) (V 7 s))] [jb_main imm Im Tm rowm stk9 tpm, s1, s2, jb_sch53 I W T, s4, s5, s6, s7, s8, s9, s10, s11] _
  refine jb_istore_ (pc' := 24) dX9_comeOver_22 (by decide) (jb_at4 rfl) rfl ?_
  refine jb_iload_n (pc' := 25) dX9_comeOver_24 rfl rfl ?_
  refine jb_if_eq (tgt := 48) (pc' := 28) dX9_comeOver_25 (by decide) rfl (fun _ => ?_) (fun z => absurd (by decide) z)
  refine jb_iload (pc' := 50) dX9_comeOver_48 rfl rfl ?_
  refine jb_iconst (pc' := 51) 5 dX9_comeOver_50 (by decide) rfl ?_
  refine jb_icmp_lt (tgt := 58) (pc' := 54) dX9_comeOver_51 (by decide) rfl (fun hh => ?_) (fun hh => ?_)
  · have hh9 : ¬ jm_hd false (I 1) (jm_ca V G (V 5 s) (V 7 s)) = true := jm_hd_ff hh
    refine jb_iconst (pc' := 59) 0 dX9_comeOver_58 (by decide) rfl ?_
    refine jb_istore_ (pc' := 61) dX9_comeOver_59 (by decide) (jb_at5 rfl) rfl ?_
    refine jb_iload (pc' := 63) dX9_comeOver_61 rfl rfl ?_
    refine jb_if_eq (tgt := 81) (pc' := 66) dX9_comeOver_63 (by decide) rfl (fun _ => ?_) (fun z => absurd (by decide) z)
    refine jb_vret dX9_comeOver_81 ?_
    exact ⟨rfl, I, W, stk9, by rw [jm_co_f G false s V (I 1) (fun z => by first | exact hh9 z.1 | omega)]; exact ⟨r0, r2, r3, r4, a0, a1, a2, rv, rs, rd⟩, Eq.trans (b := I 1) rfl (jm_co_z0 G s V (I 1)).symm, ⟨rfl, rfl, rfl, rfl⟩, rfl⟩
  · have hh9 : jm_hd false (I 1) (jm_ca V G (V 5 s) (V 7 s)) = true := jm_hd_ft hh
    refine jb_iconst (pc' := 55) 1 dX9_comeOver_54 (by decide) rfl ?_
    refine jb_goto (pc' := 59) dX9_comeOver_55 (by decide) ?_
    refine jb_istore_ (pc' := 61) dX9_comeOver_59 (by decide) (jb_at5 rfl) rfl ?_
    refine jb_iload (pc' := 63) dX9_comeOver_61 rfl rfl ?_
    refine jb_if_eq (tgt := 81) (pc' := 66) dX9_comeOver_63 (by decide) rfl (fun z => absurd z (by decide)) (fun _ => ?_)
    refine jb_iload_n (pc' := 67) dX9_comeOver_66 rfl rfl ?_
    refine jb_iconst (pc' := 68) 2 dX9_comeOver_67 (by decide) rfl ?_
    refine jb_irem (pc' := 69) dX9_comeOver_68 (by decide) rfl ?_
    refine jb_top (v := .int ((nI (V 7 s)) - (nI (V 7 s)) / 2 * 2)) (w := .int (nI ((V 7 s) % 2))) (jb_vI (pk_rem (a := (V 7 s)) (d := 2) (by omega) (by omega) (by omega))) ?_
    refine jb_if_ne (tgt := 81) (pc' := 72) dX9_comeOver_69 (by decide) rfl (fun c5 => ?_) (fun c5 => ?_)
    · have c5 : ¬ ((V 7 s) % 2) = 0 := fun z9 => c5 ((nI_eq (a := ((V 7 s) % 2)) (b := 0) (by omega) (by omega)).mpr z9)
      refine jb_vret dX9_comeOver_81 ?_
      exact ⟨rfl, I, W, stk9, by rw [jm_co_f G false s V (I 1) (fun z => by first | exact hh9 z.1 | omega)]; exact ⟨r0, r2, r3, r4, a0, a1, a2, rv, rs, rd⟩, Eq.trans (b := I 1) rfl (jm_co_z0 G s V (I 1)).symm, ⟨rfl, rfl, rfl, rfl⟩, rfl⟩
    · have c5 : ((V 7 s) % 2) = 0 := (nI_eq (a := ((V 7 s) % 2)) (b := 0) (by omega) (by omega)).mp c5
      refine jb_aload_n (pc' := 73) dX9_comeOver_72 rfl rfl ?_
      refine gf_X9_36 (pc' := 76) (v := .int (I 4)) dX9_comeOver_73 rfl rfl rfl ?_
      refine jb_top (v := .int (I 4)) (w := .int (nI (V 0 3))) (jb_vI r4) ?_
      refine jb_bipush (pc' := 78) 12 dX9_comeOver_76 (by decide) rfl ?_
      refine jb_icmp_lt (tgt := 82) (pc' := 81) dX9_comeOver_78 (by decide) rfl (fun c6 => ?_) (fun c6 => ?_)
      · have c6 : (V 0 3) < 12 := (nI_ltI (a := (V 0 3)) (b := 12) (by omega) (by omega)).mp c6
        refine jb_aload_n (pc' := 83) dX9_comeOver_82 rfl rfl ?_
        refine jb_iconst (pc' := 84) 1 dX9_comeOver_83 (by decide) rfl ?_
        refine jb_aload_n (pc' := 85) dX9_comeOver_84 rfl rfl ?_
        refine gf_X9_33 (pc' := 88) (v := .ref 59) dX9_comeOver_85 rfl rfl rfl ?_
        refine jb_iconst (pc' := 89) 2 dX9_comeOver_88 (by decide) rfl ?_
        refine jb_aaload (pc' := 90) (i9 := 2) (r := 62) (Or.inl rfl) dX9_comeOver_89 rfl jb_x2 (by decide) rfl rfl ?_
        refine jb_iload_n (pc' := 91) dX9_comeOver_90 rfl rfl ?_
        refine jb_iaload (pc' := 92) (i9 := s) (f := (W 6)) dX9_comeOver_91 rfl (jb_ix_nI (by omega)) (by omega) rfl ?_
        refine jb_top (v := .int ((W 6) s)) (w := .int (nI (V 6 s))) (jb_vI (rs s (by omega)).2.2.1) ?_
        refine jb_isub (pc' := 93) dX9_comeOver_92 rfl ?_
        refine jb_top (v := .int (1 - (nI (V 6 s)))) (w := .int (nI (1 - (V 6 s)))) (jb_vI (pk_sub (a := 1) (by omega))) ?_
        refine jb_callV (pc' := 96) (ci := 9) (q := 53) (As := [.int (nI (1 - (V 6 s)))]) (a2 := 0) (b2 := 0) wv_X9_134 rfl dX9_comeOver_93 (c_quickest_53 _ _ _ _ _ _ I W T ⟨r0, r2, r3, r4, a0, a1, a2, rv, rs, rd⟩ ⟨k0, k1, k2, k3, k4, k5, k6, k7, kv, ks, kd⟩ (1 - (V 6 s)) (by omega)) rfl rfl ⟨by decide, Nat.le_of_eq (Nat.zero_add _), Nat.le_of_eq (Nat.zero_add _)⟩ (Nat.le_of_ble_eq_true rfl) rfl (fun r h9 hq => ?_)
        rcases hq with ⟨rfl, ⟨eq9, rfl⟩ | ⟨q, hq9, eq9, rfl⟩⟩
        · show jb_J _ RX9 cX9_comeOver 7 (Option.none : Option Jvm.ClassFile.FieldType) false 6 0 0 96 [some (.ref 53), some (.int (nI s)), some (.int 0), some (.int (nI (V 7 s))), some (.int (jm_ca V G (V 5 s) (V 7 s))), some (.int 1), none] [.int (-1)] [jb_main imm Im Tm rowm stk9 tpm, s1, s2, jb_sch53 I W T, s4, s5, s6, s7, s8, s9, s10, s11] _
          refine jb_istore_ (pc' := 98) dX9_comeOver_96 (by decide) (jb_at6 rfl) rfl ?_
          refine jb_iload (pc' := 100) dX9_comeOver_98 rfl rfl ?_
          refine jb_if_ge (tgt := 104) (pc' := 103) dX9_comeOver_100 (by decide) rfl (fun z => absurd z (by decide)) (fun _ => ?_)
          refine jb_vret dX9_comeOver_103 ?_
          exact ⟨rfl, I, W, stk9, by rw [jm_co_n G false s V (I 1) eq9]; exact ⟨r0, r2, r3, r4, a0, a1, a2, rv, rs, rd⟩, Eq.trans (b := I 1) rfl (jm_co_z0 G s V (I 1)).symm, ⟨rfl, rfl, rfl, rfl⟩, rfl⟩
        · show jb_J _ RX9 cX9_comeOver 7 (Option.none : Option Jvm.ClassFile.FieldType) false 6 0 0 96 [some (.ref 53), some (.int (nI s)), some (.int 0), some (.int (nI (V 7 s))), some (.int (jm_ca V G (V 5 s) (V 7 s))), some (.int 1), none] [.int (nI q)] [jb_main imm Im Tm rowm stk9 tpm, s1, s2, jb_sch53 I W T, s4, s5, s6, s7, s8, s9, s10, s11] _
          refine jb_istore_ (pc' := 98) dX9_comeOver_96 (by decide) (jb_at6 rfl) rfl ?_
          refine jb_iload (pc' := 100) dX9_comeOver_98 rfl rfl ?_
          refine jb_if_ge (tgt := 104) (pc' := 103) dX9_comeOver_100 (by decide) rfl (fun _ => ?_) (fun z => absurd (nI_pos' (n := q) (by omega)) z)
          refine jb_aload_n (pc' := 105) dX9_comeOver_104 rfl rfl ?_
          refine gf_X9_39 (pc' := 108) (v := .ref 66) dX9_comeOver_105 rfl rfl rfl ?_
          refine jb_iconst (pc' := 109) 0 dX9_comeOver_108 (by decide) rfl ?_
          refine jb_aaload (pc' := 110) (i9 := 0) (r := 67) (Or.inl rfl) dX9_comeOver_109 rfl jb_x0 (by decide) rfl rfl ?_
          refine jb_aload_n (pc' := 111) dX9_comeOver_110 rfl rfl ?_
          refine gf_X9_36 (pc' := 114) (v := .int (I 4)) dX9_comeOver_111 rfl rfl rfl ?_
          refine jb_top (v := .int (I 4)) (w := .int (nI (V 0 3))) (jb_vI r4) ?_
          refine jb_iload (pc' := 116) dX9_comeOver_114 rfl rfl ?_
          refine jb_iastore (pc' := 117) (i9 := (V 0 3)) (f := (W 10)) (h' := [jb_main imm Im Tm rowm stk9 tpm, s1, s2, jb_sch53 I (va_up W 10 (upd (W 10) (V 0 3) (nI q))) T, s4, s5, s6, s7, s8, s9, s10, s11]) dX9_comeOver_116 rfl (jb_ix_nI (by omega)) (by omega) rfl rfl ?_
          refine jb_aload_n (pc' := 118) dX9_comeOver_117 rfl rfl ?_
          refine gf_X9_39 (pc' := 121) (v := .ref 66) dX9_comeOver_118 rfl rfl rfl ?_
          refine jb_iconst (pc' := 122) 1 dX9_comeOver_121 (by decide) rfl ?_
          refine jb_aaload (pc' := 123) (i9 := 1) (r := 68) (Or.inl rfl) dX9_comeOver_122 rfl jb_x1 (by decide) rfl rfl ?_
          refine jb_aload_n (pc' := 124) dX9_comeOver_123 rfl rfl ?_
          refine gf_X9_36 (pc' := 127) (v := .int (I 4)) dX9_comeOver_124 rfl rfl rfl ?_
          refine jb_top (v := .int (I 4)) (w := .int (nI (V 0 3))) (jb_vI r4) ?_
          refine jb_aload_n (pc' := 128) dX9_comeOver_127 rfl rfl ?_
          refine jb_iload (pc' := 130) dX9_comeOver_128 rfl rfl ?_
          refine jb_iload_n (pc' := 131) dX9_comeOver_130 rfl rfl ?_
          refine jb_callV (pc' := 134) (ci := 9) (q := 53) (As := [.int (nI q), .int (nI (V 7 s))]) (a2 := 0) (b2 := 0) wv_X9_138 rfl dX9_comeOver_131 (c_wordSaid_53 _ _ _ _ _ _ I (va_up W 10 (upd (W 10) (V 0 3) (nI q))) T (jr_by ⟨r0, r2, r3, r4, a0, a1, a2, rv, rs, rd⟩ (fun r hr9 => by simp only [va_up]; rw [if_neg (by omega)]) (fun k hk9 => ⟨by simp [va_up, upd, Nat.ne_of_lt hk9], by simp [va_up, upd, Nat.ne_of_lt hk9], by simp [va_up, upd, Nat.ne_of_lt hk9], by simp [va_up, upd, Nat.ne_of_lt hk9]⟩)) ⟨k0, k1, k2, k3, k4, k5, k6, k7, kv, ks, kd⟩ hG hg q (V 7 s) (by omega) (by omega)) rfl rfl ⟨by decide, Nat.le_of_eq (Nat.zero_add _), Nat.le_of_eq (Nat.zero_add _)⟩ (Nat.le_of_ble_eq_true rfl) rfl (fun r h9 hq => ?_)
          obtain ⟨rfl, stk9, rfl⟩ := hq
          show jb_J _ RX9 cX9_comeOver 7 (Option.none : Option Jvm.ClassFile.FieldType) false 6 0 0 134 [some (.ref 53), some (.int (nI s)), some (.int 0), some (.int (nI (V 7 s))), some (.int (jm_ca V G (V 5 s) (V 7 s))), some (.int 1), some (.int (nI q))] [.int (nI (jm_sa V G q (V 7 s))), .int (nI (V 0 3)), .ref 68] [jb_main imm Im Tm rowm stk9 tpm, s1, s2, jb_sch53 I (va_up W 10 (upd (W 10) (V 0 3) (nI q))) T, s4, s5, s6, s7, s8, s9, s10, s11] _
          refine jb_iastore (pc' := 135) (i9 := (V 0 3)) (f := (W 11)) (h' := [jb_main imm Im Tm rowm stk9 tpm, s1, s2, jb_sch53 I (va_up (va_up W 10 (upd (W 10) (V 0 3) (nI q))) 11 (upd (W 11) (V 0 3) (nI (jm_sa V G q (V 7 s))))) T, s4, s5, s6, s7, s8, s9, s10, s11]) dX9_comeOver_134 rfl (jb_ix_nI (by omega)) (by omega) rfl rfl ?_
          refine jb_aload_n (pc' := 136) dX9_comeOver_135 rfl rfl ?_
          refine gf_X9_39 (pc' := 139) (v := .ref 66) dX9_comeOver_136 rfl rfl rfl ?_
          refine jb_iconst (pc' := 140) 2 dX9_comeOver_139 (by decide) rfl ?_
          refine jb_aaload (pc' := 141) (i9 := 2) (r := 69) (Or.inl rfl) dX9_comeOver_140 rfl jb_x2 (by decide) rfl rfl ?_
          refine jb_aload_n (pc' := 142) dX9_comeOver_141 rfl rfl ?_
          refine gf_X9_36 (pc' := 145) (v := .int (I 4)) dX9_comeOver_142 rfl rfl rfl ?_
          refine jb_top (v := .int (I 4)) (w := .int (nI (V 0 3))) (jb_vI r4) ?_
          refine jb_iload_n (pc' := 146) dX9_comeOver_145 rfl rfl ?_
          refine jb_iastore (pc' := 147) (i9 := (V 0 3)) (f := (W 12)) (h' := [jb_main imm Im Tm rowm stk9 tpm, s1, s2, jb_sch53 I (va_up (va_up (va_up W 10 (upd (W 10) (V 0 3) (nI q))) 11 (upd (W 11) (V 0 3) (nI (jm_sa V G q (V 7 s))))) 12 (upd (W 12) (V 0 3) (nI s))) T, s4, s5, s6, s7, s8, s9, s10, s11]) dX9_comeOver_146 rfl (jb_ix_nI (by omega)) (by omega) rfl rfl ?_
          refine jb_aload_n (pc' := 148) dX9_comeOver_147 rfl rfl ?_
          refine gf_X9_39 (pc' := 151) (v := .ref 66) dX9_comeOver_148 rfl rfl rfl ?_
          refine jb_iconst (pc' := 152) 3 dX9_comeOver_151 (by decide) rfl ?_
          refine jb_aaload (pc' := 153) (i9 := 3) (r := 70) (Or.inl rfl) dX9_comeOver_152 rfl jb_x3 (by decide) rfl rfl ?_
          refine jb_aload_n (pc' := 154) dX9_comeOver_153 rfl rfl ?_
          refine gf_X9_36 (pc' := 157) (v := .int (I 4)) dX9_comeOver_154 rfl rfl rfl ?_
          refine jb_top (v := .int (I 4)) (w := .int (nI (V 0 3))) (jb_vI r4) ?_
          refine jb_aload_n (pc' := 158) dX9_comeOver_157 rfl rfl ?_
          refine gf_X9_15 (pc' := 161) (v := .int (I 0)) dX9_comeOver_158 rfl rfl rfl ?_
          refine jb_top (v := .int (I 0)) (w := .int (nI (V 0 0))) (jb_vI r0) ?_
          refine jb_aload_n (pc' := 162) dX9_comeOver_161 rfl rfl ?_
          refine jb_iload (pc' := 164) dX9_comeOver_162 rfl rfl ?_
          refine jb_callV (pc' := 167) (ci := 9) (q := 53) (As := [.int (nI q)]) (a2 := 0) (b2 := 0) wv_X9_141 rfl dX9_comeOver_164 (c_thinking_53 _ _ _ _ _ _ I (va_up (va_up (va_up W 10 (upd (W 10) (V 0 3) (nI q))) 11 (upd (W 11) (V 0 3) (nI (jm_sa V G q (V 7 s))))) 12 (upd (W 12) (V 0 3) (nI s))) T (jr_by ⟨r0, r2, r3, r4, a0, a1, a2, rv, rs, rd⟩ (fun r hr9 => by simp only [va_up]; rw [if_neg (by omega)]; rw [if_neg (by omega)]; rw [if_neg (by omega)]) (fun k hk9 => ⟨by simp [va_up, upd, Nat.ne_of_lt hk9], by simp [va_up, upd, Nat.ne_of_lt hk9], by simp [va_up, upd, Nat.ne_of_lt hk9], by simp [va_up, upd, Nat.ne_of_lt hk9]⟩)) ⟨k0, k1, k2, k3, k4, k5, k6, k7, kv, ks, kd⟩ q (by omega)) rfl rfl ⟨by decide, Nat.le_of_eq (Nat.zero_add _), Nat.le_of_eq (Nat.zero_add _)⟩ (Nat.le_of_ble_eq_true rfl) rfl (fun r h9 hq => ?_)
          obtain ⟨rfl, rfl⟩ := hq
          show jb_J _ RX9 cX9_comeOver 7 (Option.none : Option Jvm.ClassFile.FieldType) false 6 0 0 167 [some (.ref 53), some (.int (nI s)), some (.int 0), some (.int (nI (V 7 s))), some (.int (jm_ca V G (V 5 s) (V 7 s))), some (.int 1), some (.int (nI q))] [.int (nI (jm_th V q)), .int (nI (V 0 0)), .int (nI (V 0 3)), .ref 70] [jb_main imm Im Tm rowm stk9 tpm, s1, s2, jb_sch53 I (va_up (va_up (va_up W 10 (upd (W 10) (V 0 3) (nI q))) 11 (upd (W 11) (V 0 3) (nI (jm_sa V G q (V 7 s))))) 12 (upd (W 12) (V 0 3) (nI s))) T, s4, s5, s6, s7, s8, s9, s10, s11] _
          refine jb_iadd (pc' := 168) dX9_comeOver_167 rfl ?_
          refine jb_top (v := .int ((nI (V 0 0)) + (nI (jm_th V q)))) (w := .int (nI ((V 0 0) + (jm_th V q)))) (jb_vI (nI_add _ _)) ?_
          refine jb_iastore (pc' := 169) (i9 := (V 0 3)) (f := (W 13)) (h' := [jb_main imm Im Tm rowm stk9 tpm, s1, s2, jb_sch53 I (va_up (va_up (va_up (va_up W 10 (upd (W 10) (V 0 3) (nI q))) 11 (upd (W 11) (V 0 3) (nI (jm_sa V G q (V 7 s))))) 12 (upd (W 12) (V 0 3) (nI s))) 13 (upd (W 13) (V 0 3) (nI ((V 0 0) + (jm_th V q))))) T, s4, s5, s6, s7, s8, s9, s10, s11]) dX9_comeOver_168 rfl (jb_ix_nI (by omega)) (by omega) rfl rfl ?_
          refine jb_aload_n (pc' := 170) dX9_comeOver_169 rfl rfl ?_
          refine jb_dup (pc' := 171) dX9_comeOver_170 rfl rfl ?_
          refine gf_X9_36 (pc' := 174) (v := .int (I 4)) dX9_comeOver_171 rfl rfl rfl ?_
          refine jb_top (v := .int (I 4)) (w := .int (nI (V 0 3))) (jb_vI r4) ?_
          refine jb_iconst (pc' := 175) 1 dX9_comeOver_174 (by decide) rfl ?_
          refine jb_iadd (pc' := 176) dX9_comeOver_175 rfl ?_
          refine jb_top (v := .int ((nI (V 0 3)) + 1)) (w := .int (nI ((V 0 3) + 1))) (jb_vI (nI_add _ 1)) ?_
          refine pf_X9_36 (pc' := 179) (h' := [jb_main imm Im Tm rowm stk9 tpm, s1, s2, jb_sch53 (upd I 4 (nI ((V 0 3) + 1))) (va_up (va_up (va_up (va_up W 10 (upd (W 10) (V 0 3) (nI q))) 11 (upd (W 11) (V 0 3) (nI (jm_sa V G q (V 7 s))))) 12 (upd (W 12) (V 0 3) (nI s))) 13 (upd (W 13) (V 0 3) (nI ((V 0 0) + (jm_th V q))))) T, s4, s5, s6, s7, s8, s9, s10, s11]) dX9_comeOver_176 (fun _ => ⟨rfl, rfl⟩) rfl (Nat.le_of_ble_eq_true rfl) rfl rfl ?_
          refine jb_vret dX9_comeOver_179 ?_
          exact ⟨rfl, (upd I 4 (nI ((V 0 3) + 1))), (va_up (va_up (va_up (va_up W 10 (upd (W 10) (V 0 3) (nI q))) 11 (upd (W 11) (V 0 3) (nI (jm_sa V G q (V 7 s))))) 12 (upd (W 12) (V 0 3) (nI s))) 13 (upd (W 13) (V 0 3) (nI ((V 0 0) + (jm_th V q))))), stk9, by rw [jm_co_s G false s V (I 1) q ⟨hh9, by omega, by omega⟩ eq9]; exact jr_due ⟨r0, r2, r3, r4, a0, a1, a2, rv, rs, rd⟩ q (jm_sa V G q (V 7 s)) s _ rfl, Eq.trans (b := I 1) rfl (jm_co_z0 G s V (I 1)).symm, ⟨rfl, rfl, rfl, rfl⟩, rfl⟩
      · have c6 : ¬ (V 0 3) < 12 := fun z9 => c6 ((nI_ltI (a := (V 0 3)) (b := 12) (by omega) (by omega)).mpr z9)
        refine jb_vret dX9_comeOver_81 ?_
        exact ⟨rfl, I, W, stk9, by rw [jm_co_f G false s V (I 1) (fun z => by first | exact hh9 z.1 | omega)]; exact ⟨r0, r2, r3, r4, a0, a1, a2, rv, rs, rd⟩, Eq.trans (b := I 1) rfl (jm_co_z0 G s V (I 1)).symm, ⟨rfl, rfl, rfl, rfl⟩, rfl⟩
