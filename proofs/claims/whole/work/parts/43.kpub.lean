theorem jv_pa {G : jm_G} (hG : jm_Gok G) (lo : Bool) : ∀ (n : Nat) (V : Nat → Nat → Nat) (z : Int32), jv_ok V → V 0 0 + n ≤ 20000 → jv_ok (jm_pa G lo n (V, z)).1 ∧ (jm_pa G lo n (V, z)).1 0 0 = V 0 0 + n
  | 0, V, z, h, _ => ⟨h, rfl⟩
  | n + 1, V, z, h, h2 => by
    obtain ⟨g1, g2, -⟩ := jv_se h hG lo z (by omega)
    obtain ⟨i1, i2⟩ := jv_pa hG lo n (jm_se G lo (V, z)).1 (jm_se G lo (V, z)).2 g1 (by omega)
    exact ⟨i1, i2.trans (by omega)⟩
/-- who should go over -/
def jm_ov (f : Nat → Nat) : Nat → Nat → Nat → Option Nat → Option Nat
  | 0, _, _, b => b
  | n + 1, v, most, b => if most < f v then jm_ov f n (v + 1) (f v) (some v) else jm_ov f n (v + 1) most b
def jm_tb (G : jm_G) (n : Nat) (V : Nat → Nat → Nat) (z : Int32) (v : Nat) : Nat := jm_ta (jm_pa G false n (jv_up V 3 v (1 - V 3 v), z)).1
theorem jm_ov_lt {f : Nat → Nat} {N : Nat} : ∀ (n v most : Nat) (b : Option Nat), v + n ≤ N → (∀ q, b = some q → q < N) → ∀ q, jm_ov f n v most b = some q → q < N
  | 0, v, most, b, _, hb, q, h => hb q h
  | n + 1, v, most, b, hv, hb, q, h => by
    unfold jm_ov at h
    split at h
    · exact jm_ov_lt n (v + 1) (f v) (some v) (by omega) (fun q e => by cases e; omega) q h
    · exact jm_ov_lt n (v + 1) most b (by omega) hb q h
theorem jm_tk_le {V : Nat → Nat → Nat} : ∀ (n q k : Nat), jm_tk V n q k ≤ k + n
  | 0, q, k => Nat.le_refl _
  | n + 1, q, k => by
    have h1 := jm_tk_le (V := V) n (q + 1) (k + 1)
    have h2 := jm_tk_le (V := V) n (q + 1) k
    show jm_tk V n (q + 1) (if V 7 q % 2 = 0 ∧ jm_it V q (V 0 2) 0 = true then k + 1 else k) ≤ k + (n + 1)
    split <;> omega
theorem jm_ta_le {V : Nat → Nat → Nat} (h : jv_ok V) : jm_ta V ≤ 40 := by
  have := jm_tk_le (V := V) (V 0 2) 0 0
  have h2 := h.2.2.1
  unfold jm_ta
  omega
theorem jm_tb_le {G : jm_G} (hG : jm_Gok G) {n : Nat} {V : Nat → Nat → Nat} (h : jv_ok V) (hn : V 0 0 + n ≤ 20000) (z : Int32) (v : Nat) (hv : V 3 v < 2) : jm_tb G n V z v ≤ 40 :=
  jm_ta_le (jv_pa hG false n (jv_up V 3 v (1 - V 3 v)) z (jv_go h (by omega)) hn).1
/-- what a check of numbers that wait answers -/
def jm_ck (G : jm_G) (w : Nat → Int32) : Nat → Nat → (Nat → Nat → Nat) × Int32 → Int32
  | 0, _, _ => 0
  | n + 1, i, x => if nI ((jm_pa G false 1 x).1 0 2) = w i then jm_ck G w n (i + 1) (jm_pa G false 1 x) else nI (1 + i)
/-- how often one should say it -/
def jm_of (f dd : Int64) : Nat → Nat → Int64 → Int64 → Option Nat
  | 0, _, _, _ => none
  | n + 1, k, lost, all => if all * 10 < lost * f * dd then jm_of f dd n (k + 1) (lost * f) (all * 10) else some k
def jq_v : Option Nat → Int32
  | none => -1
  | some q => nI q
set_option maxRecDepth 100000 in
set_option maxHeartbeats 4000000 in
theorem c_goAhead {sc : Nat × (Nat → Int32)} {s2 s4 s5 s6 s7 s8 s9 s10 s11 : List va_E} {V : Nat → Nat → Nat} (imm : Int32) (Im rowm stkm tpm : Nat → Int32) (Tm : Nat → Value) (I : Nat → Int32) (W : Nat → Nat → Int32) (T : Nat → Value) (Ix : Nat → Int32) (Wx : Nat → Nat → Int32) (Tx : Nat → Value) (hr : jr_ V I W) (hk : jv_ok V) {X : Nat → Option (List Int32)} (hx : jx_c X T s11) {tp wt : Nat} (h5 : I 5 = nI tp) (h6 : I 6 = nI wt) (htp : tp ≤ 50) (hwt : wt ≤ 20) (n : Nat) (hn : n ≤ 200) (h0 : V 0 0 ≤ 9999) : jb_C sc yX11_goAhead cX11_goAhead 2 (Option.none : Option Jvm.ClassFile.FieldType) 8 0 0 [.ref 0, .int (nI n)] [jb_main imm Im Tm rowm stkm tpm, jb_sch13 I W T, s2, jb_sch53 Ix Wx Tx, s4, s5, s6, s7, s8, s9, s10, s11] (fun r h9 => r = none ∧ ∃ I9 W9 T9 stk9, jr_ (jm_pa (jx_G X) false n (V, I 1)).1 I9 W9 ∧ h9 = [jb_main imm Im Tm rowm stk9 tpm, jb_sch13 I W T, s2, jb_sch53 I9 W9 T9, s4, s5, s6, s7, s8, s9, s10, s11]) := by
  refine jb_CofJ (ini := false) (by decide +kernel) (fun h => by cases h) (Nat.le_of_ble_eq_true rfl) ?_
  show jb_J sc RX11 cX11_goAhead 2 (Option.none : Option Jvm.ClassFile.FieldType) false 8 0 0 0 [some (.ref 0), some (.int (nI n))] [] [jb_main imm Im Tm rowm stkm tpm, jb_sch13 I W T, s2, jb_sch53 Ix Wx Tx, s4, s5, s6, s7, s8, s9, s10, s11] _
  have hr0 := hr
  have hk0 := hk
  obtain ⟨r0, r2, r3, r4, a0, a1, a2, rv, rs, rd⟩ := hr
  obtain ⟨k0, k1, k2, k3, k4, k5, k6, k7, kv, ks, kd⟩ := hk
  refine jb_aload_n (pc' := 1) dX11_goAhead_0 rfl rfl ?_
  refine gf_X11_49 (pc' := 4) (v := .ref 53) dX11_goAhead_1 rfl rfl rfl ?_
  refine jb_aload_n (pc' := 5) dX11_goAhead_4 rfl rfl ?_
  refine gf_X11_42 (pc' := 8) (v := .ref 13) dX11_goAhead_5 rfl rfl rfl ?_
  refine jb_callV (pc' := 11) (ci := 9) (q := 53) (As := [.ref 13]) (a2 := 0) (b2 := 0) wv_X11_253 rfl dX11_goAhead_8 (c_take_53_13 Ix Wx Tx I W T hr0 hk0 tp wt h5 h6 htp hwt (hx.r (by decide)) (hx.r (by decide))) rfl rfl ⟨by decide, Nat.le_of_eq (Nat.zero_add _), Nat.le_of_eq (Nat.zero_add _)⟩ (Nat.le_of_ble_eq_true rfl) rfl (fun r h9 hq => ?_)
  obtain ⟨rfl, I8, W8, T8, hr8, hz8, -, -, ht0, ht1, -, -, rfl⟩ := hq
  have hx8 := hx.to ht0 ht1
  show jb_J _ RX11 cX11_goAhead 2 (Option.none : Option Jvm.ClassFile.FieldType) false 8 0 0 11 [some (.ref 0), some (.int (nI n))] [] [jb_main imm Im Tm rowm stkm tpm, jb_sch13 I W T, s2, jb_sch53 I8 W8 T8, s4, s5, s6, s7, s8, s9, s10, s11] _
  refine jb_aload_n (pc' := 12) dX11_goAhead_11 rfl rfl ?_
  refine gf_X11_49 (pc' := 15) (v := .ref 53) dX11_goAhead_12 rfl rfl rfl ?_
  refine jb_iload_n (pc' := 16) dX11_goAhead_15 rfl rfl ?_
  refine jb_iconst (pc' := 17) 0 dX11_goAhead_16 (by decide) rfl ?_
  refine jb_callV (pc' := 20) (ci := 9) (q := 53) (As := [.int (nI n), .int 0]) (a2 := 0) (b2 := 0) wv_X11_265 rfl dX11_goAhead_17 (c_pass0_53 imm Im rowm stkm tpm Tm I8 W8 T8 hr8 hk0 (jx_Gok X) (c_gives_53 hx8) n (by omega) (by omega)) rfl rfl ⟨by decide, Nat.le_of_eq (Nat.zero_add _), Nat.le_of_eq (Nat.zero_add _)⟩ (Nat.le_of_ble_eq_true rfl) rfl (fun r h9 hq => ?_)
  obtain ⟨rfl, I9, W9, stk9, hr9, hz9, hf9, rfl⟩ := hq
  rw [hz8] at hr9
  show jb_J _ RX11 cX11_goAhead 2 (Option.none : Option Jvm.ClassFile.FieldType) false 8 0 0 20 [some (.ref 0), some (.int (nI n))] [] [jb_main imm Im Tm rowm stk9 tpm, jb_sch13 I W T, s2, jb_sch53 I9 W9 T8, s4, s5, s6, s7, s8, s9, s10, s11] _
  refine jb_vret dX11_goAhead_20 ?_
  exact ⟨rfl, I9, W9, T8, stk9, hr9, rfl⟩
set_option maxRecDepth 100000 in
set_option maxHeartbeats 4000000 in
theorem kx_then0 {sc : Nat × (Nat → Int32)} {s2 s4 s5 s6 s7 s8 s9 s10 s11 : List va_E} {V : Nat → Nat → Nat} (imm : Int32) (Im rowm stkm tpm : Nat → Int32) (Tm : Nat → Value) (I : Nat → Int32) (W : Nat → Nat → Int32) (T : Nat → Value) (Ix : Nat → Int32) (Wx : Nat → Nat → Int32) (Tx : Nat → Value) (hr : jr_ V I W) (hk : jv_ok V) {X : Nat → Option (List Int32)} (hx : jx_c X T s11) {tp wt : Nat} (h5 : I 5 = nI tp) (h6 : I 6 = nI wt) (htp : tp ≤ 50) (hwt : wt ≤ 20) (n : Nat) (hn : n ≤ 200) (h0 : V 0 0 ≤ 9999) : jb_C sc yX11_then cX11_then 3 (Option.some .int) 9 0 0 [.ref 0, .int (nI n), .int 0] [jb_main imm Im Tm rowm stkm tpm, jb_sch13 I W T, s2, jb_sch53 Ix Wx Tx, s4, s5, s6, s7, s8, s9, s10, s11] (fun r h9 => r = some (.int (nI ((jm_pa (jx_G X) false n (V, I 1)).1 0 2))) ∧ ∃ I9 W9 T9 stk9, h9 = [jb_main imm Im Tm rowm stk9 tpm, jb_sch13 I W T, s2, jb_sch53 I9 W9 T9, s4, s5, s6, s7, s8, s9, s10, s11]) := by
  refine jb_CofJ (ini := false) (by decide +kernel) (fun h => by cases h) (Nat.le_of_ble_eq_true rfl) ?_
  show jb_J sc RX11 cX11_then 3 (Option.some .int) false 9 0 0 0 [some (.ref 0), some (.int (nI n)), some (.int 0)] [] [jb_main imm Im Tm rowm stkm tpm, jb_sch13 I W T, s2, jb_sch53 Ix Wx Tx, s4, s5, s6, s7, s8, s9, s10, s11] _
  have hr0 := hr
  have hk0 := hk
  obtain ⟨r0, r2, r3, r4, a0, a1, a2, rv, rs, rd⟩ := hr
  obtain ⟨k0, k1, k2, k3, k4, k5, k6, k7, kv, ks, kd⟩ := hk
  refine jb_iload_n (pc' := 1) dX11_then_0 rfl rfl ?_
  refine jb_iconst (pc' := 2) 0 dX11_then_1 (by decide) rfl ?_
  refine jb_sipush (pc' := 5) 200 dX11_then_2 (by decide) rfl ?_
  refine jb_callS (pc' := 8) (As := [.int (nI n), .int 0, .int 200]) (a2 := 0) (b2 := 0) wv_X11_74 dX11_then_5 (c_isOutLG n 0 200 (by omega) (by omega) (by omega)) rfl ⟨by decide, Nat.le_of_eq (Nat.zero_add _), Nat.le_of_eq (Nat.zero_add _)⟩ (Nat.le_of_ble_eq_true rfl) rfl (fun r h9 hq => ?_)
  obtain ⟨rfl, rfl⟩ := hq
  show jb_J _ RX11 cX11_then 3 (Option.some .int) false 9 0 0 8 [some (.ref 0), some (.int (nI n)), some (.int 0)] [.int 0] [jb_main imm Im Tm rowm stkm tpm, jb_sch13 I W T, s2, jb_sch53 Ix Wx Tx, s4, s5, s6, s7, s8, s9, s10, s11] _
  refine jb_if_ne (tgt := 20) (pc' := 11) dX11_then_8 (by decide) rfl (fun z => absurd (by decide) z) (fun _ => ?_)
  refine jb_iload_n (pc' := 12) dX11_then_11 rfl rfl ?_
  refine jb_iconst (pc' := 13) 0 dX11_then_12 (by decide) rfl ?_
  refine jb_iconst (pc' := 14) 2 dX11_then_13 (by decide) rfl ?_
  refine jb_callS (pc' := 17) (As := [.int 0, .int 0, .int 2]) (a2 := 0) (b2 := 0) wv_X11_74 dX11_then_14 (c_isOutLG 0 0 2 (by omega) (by omega) (by omega)) rfl ⟨by decide, Nat.le_of_eq (Nat.zero_add _), Nat.le_of_eq (Nat.zero_add _)⟩ (Nat.le_of_ble_eq_true rfl) rfl (fun r h9 hq => ?_)
  obtain ⟨rfl, rfl⟩ := hq
  show jb_J _ RX11 cX11_then 3 (Option.some .int) false 9 0 0 17 [some (.ref 0), some (.int (nI n)), some (.int 0)] [.int 0] [jb_main imm Im Tm rowm stkm tpm, jb_sch13 I W T, s2, jb_sch53 Ix Wx Tx, s4, s5, s6, s7, s8, s9, s10, s11] _
  refine jb_if_eq (tgt := 26) (pc' := 20) dX11_then_17 (by decide) rfl (fun _ => ?_) (fun z => absurd (by decide) z)
  refine jb_aload_n (pc' := 27) dX11_then_26 rfl rfl ?_
  refine jb_iload_n (pc' := 28) dX11_then_27 rfl rfl ?_
  refine jb_callV (pc' := 31) (ci := 11) (q := 0) (As := [.int (nI n)]) (a2 := 0) (b2 := 0) wv_X11_161 rfl dX11_then_28 (c_goAhead imm Im rowm stkm tpm Tm I W T Ix Wx Tx hr0 hk0 hx h5 h6 htp hwt n hn h0) rfl rfl ⟨by decide, Nat.le_of_eq (Nat.zero_add _), Nat.le_of_eq (Nat.zero_add _)⟩ (Nat.le_of_ble_eq_true rfl) rfl (fun r h9 hq => ?_)
  obtain ⟨rfl, I9, W9, T9, stk9, hr9, rfl⟩ := hq
  obtain ⟨hk9, hs9⟩ := jv_pa (jx_Gok X) false n V (I 1) hk0 (by omega)
  obtain ⟨V9, hV9⟩ : ∃ X9, (jm_pa (jx_G X) false n (V, I 1)).1 = X9 := ⟨_, rfl⟩
  rw [hV9] at hr9 hk9 hs9
  show jb_J _ RX11 cX11_then 3 (Option.some .int) false 9 0 0 31 [some (.ref 0), some (.int (nI n)), some (.int 0)] [] [jb_main imm Im Tm rowm stk9 tpm, jb_sch13 I W T, s2, jb_sch53 I9 W9 T9, s4, s5, s6, s7, s8, s9, s10, s11] _
  refine jb_iload_n (pc' := 32) dX11_then_31 rfl rfl ?_
  refine jb_if_ne (tgt := 43) (pc' := 35) dX11_then_32 (by decide) rfl (fun z => absurd (by decide) z) (fun _ => ?_)
  refine jb_aload_n (pc' := 36) dX11_then_35 rfl rfl ?_
  refine gf_X11_49 (pc' := 39) (v := .ref 53) dX11_then_36 rfl rfl rfl ?_
  refine gf_X11_113 (pc' := 42) (v := .int (I9 3)) dX11_then_39 rfl rfl rfl ?_
  refine jb_top (v := .int (I9 3)) (w := .int (nI (V9 0 2))) (jb_vI hr9.2.2.1) ?_
  refine jb_iret dX11_then_42 rfl ?_
  exact ⟨by rw [hV9], I9, W9, T9, stk9, rfl⟩
set_option maxRecDepth 100000 in
set_option maxHeartbeats 4000000 in
theorem kx_then1 {sc : Nat × (Nat → Int32)} {s2 s4 s5 s6 s7 s8 s9 s10 s11 : List va_E} {V : Nat → Nat → Nat} (imm : Int32) (Im rowm stkm tpm : Nat → Int32) (Tm : Nat → Value) (I : Nat → Int32) (W : Nat → Nat → Int32) (T : Nat → Value) (Ix : Nat → Int32) (Wx : Nat → Nat → Int32) (Tx : Nat → Value) (hr : jr_ V I W) (hk : jv_ok V) {X : Nat → Option (List Int32)} (hx : jx_c X T s11) {tp wt : Nat} (h5 : I 5 = nI tp) (h6 : I 6 = nI wt) (htp : tp ≤ 50) (hwt : wt ≤ 20) (n : Nat) (hn : n ≤ 200) (h0 : V 0 0 ≤ 9999) : jb_C sc yX11_then cX11_then 3 (Option.some .int) 9 0 0 [.ref 0, .int (nI n), .int 1] [jb_main imm Im Tm rowm stkm tpm, jb_sch13 I W T, s2, jb_sch53 Ix Wx Tx, s4, s5, s6, s7, s8, s9, s10, s11] (fun r h9 => r = some (.int (nI ((jm_pa (jx_G X) false n (V, I 1)).1 0 3))) ∧ ∃ I9 W9 T9 stk9, h9 = [jb_main imm Im Tm rowm stk9 tpm, jb_sch13 I W T, s2, jb_sch53 I9 W9 T9, s4, s5, s6, s7, s8, s9, s10, s11]) := by
  refine jb_CofJ (ini := false) (by decide +kernel) (fun h => by cases h) (Nat.le_of_ble_eq_true rfl) ?_
  show jb_J sc RX11 cX11_then 3 (Option.some .int) false 9 0 0 0 [some (.ref 0), some (.int (nI n)), some (.int 1)] [] [jb_main imm Im Tm rowm stkm tpm, jb_sch13 I W T, s2, jb_sch53 Ix Wx Tx, s4, s5, s6, s7, s8, s9, s10, s11] _
  have hr0 := hr
  have hk0 := hk
  obtain ⟨r0, r2, r3, r4, a0, a1, a2, rv, rs, rd⟩ := hr
  obtain ⟨k0, k1, k2, k3, k4, k5, k6, k7, kv, ks, kd⟩ := hk
  refine jb_iload_n (pc' := 1) dX11_then_0 rfl rfl ?_
  refine jb_iconst (pc' := 2) 0 dX11_then_1 (by decide) rfl ?_
  refine jb_sipush (pc' := 5) 200 dX11_then_2 (by decide) rfl ?_
  refine jb_callS (pc' := 8) (As := [.int (nI n), .int 0, .int 200]) (a2 := 0) (b2 := 0) wv_X11_74 dX11_then_5 (c_isOutLG n 0 200 (by omega) (by omega) (by omega)) rfl ⟨by decide, Nat.le_of_eq (Nat.zero_add _), Nat.le_of_eq (Nat.zero_add _)⟩ (Nat.le_of_ble_eq_true rfl) rfl (fun r h9 hq => ?_)
  obtain ⟨rfl, rfl⟩ := hq
  show jb_J _ RX11 cX11_then 3 (Option.some .int) false 9 0 0 8 [some (.ref 0), some (.int (nI n)), some (.int 1)] [.int 0] [jb_main imm Im Tm rowm stkm tpm, jb_sch13 I W T, s2, jb_sch53 Ix Wx Tx, s4, s5, s6, s7, s8, s9, s10, s11] _
  refine jb_if_ne (tgt := 20) (pc' := 11) dX11_then_8 (by decide) rfl (fun z => absurd (by decide) z) (fun _ => ?_)
  refine jb_iload_n (pc' := 12) dX11_then_11 rfl rfl ?_
  refine jb_iconst (pc' := 13) 0 dX11_then_12 (by decide) rfl ?_
  refine jb_iconst (pc' := 14) 2 dX11_then_13 (by decide) rfl ?_
  refine jb_callS (pc' := 17) (As := [.int 1, .int 0, .int 2]) (a2 := 0) (b2 := 0) wv_X11_74 dX11_then_14 (c_isOutLG 1 0 2 (by omega) (by omega) (by omega)) rfl ⟨by decide, Nat.le_of_eq (Nat.zero_add _), Nat.le_of_eq (Nat.zero_add _)⟩ (Nat.le_of_ble_eq_true rfl) rfl (fun r h9 hq => ?_)
  obtain ⟨rfl, rfl⟩ := hq
  show jb_J _ RX11 cX11_then 3 (Option.some .int) false 9 0 0 17 [some (.ref 0), some (.int (nI n)), some (.int 1)] [.int 0] [jb_main imm Im Tm rowm stkm tpm, jb_sch13 I W T, s2, jb_sch53 Ix Wx Tx, s4, s5, s6, s7, s8, s9, s10, s11] _
  refine jb_if_eq (tgt := 26) (pc' := 20) dX11_then_17 (by decide) rfl (fun _ => ?_) (fun z => absurd (by decide) z)
  refine jb_aload_n (pc' := 27) dX11_then_26 rfl rfl ?_
  refine jb_iload_n (pc' := 28) dX11_then_27 rfl rfl ?_
  refine jb_callV (pc' := 31) (ci := 11) (q := 0) (As := [.int (nI n)]) (a2 := 0) (b2 := 0) wv_X11_161 rfl dX11_then_28 (c_goAhead imm Im rowm stkm tpm Tm I W T Ix Wx Tx hr0 hk0 hx h5 h6 htp hwt n hn h0) rfl rfl ⟨by decide, Nat.le_of_eq (Nat.zero_add _), Nat.le_of_eq (Nat.zero_add _)⟩ (Nat.le_of_ble_eq_true rfl) rfl (fun r h9 hq => ?_)
  obtain ⟨rfl, I9, W9, T9, stk9, hr9, rfl⟩ := hq
  obtain ⟨hk9, hs9⟩ := jv_pa (jx_Gok X) false n V (I 1) hk0 (by omega)
  obtain ⟨V9, hV9⟩ : ∃ X9, (jm_pa (jx_G X) false n (V, I 1)).1 = X9 := ⟨_, rfl⟩
  rw [hV9] at hr9 hk9 hs9
  show jb_J _ RX11 cX11_then 3 (Option.some .int) false 9 0 0 31 [some (.ref 0), some (.int (nI n)), some (.int 1)] [] [jb_main imm Im Tm rowm stk9 tpm, jb_sch13 I W T, s2, jb_sch53 I9 W9 T9, s4, s5, s6, s7, s8, s9, s10, s11] _
  refine jb_iload_n (pc' := 32) dX11_then_31 rfl rfl ?_
  refine jb_if_ne (tgt := 43) (pc' := 35) dX11_then_32 (by decide) rfl (fun _ => ?_) (fun z => absurd z (by decide))
  refine jb_iload_n (pc' := 44) dX11_then_43 rfl rfl ?_
  refine jb_iconst (pc' := 45) 1 dX11_then_44 (by decide) rfl ?_
  refine jb_icmp_ne (tgt := 58) (pc' := 48) dX11_then_45 (by decide) rfl (fun z => absurd (by decide) z) (fun _ => ?_)
  refine jb_aload_n (pc' := 49) dX11_then_48 rfl rfl ?_
  refine gf_X11_49 (pc' := 52) (v := .ref 53) dX11_then_49 rfl rfl rfl ?_
  refine gf_X11_127 (pc' := 55) (v := .int (I9 4)) dX11_then_52 rfl rfl rfl ?_
  refine jb_top (v := .int (I9 4)) (w := .int (nI (V9 0 3))) (jb_vI hr9.2.2.2.1) ?_
  refine jb_goto (pc' := 65) dX11_then_55 (by decide) ?_
  refine jb_iret dX11_then_65 rfl ?_
  exact ⟨by rw [hV9], I9, W9, T9, stk9, rfl⟩
set_option maxRecDepth 100000 in
set_option maxHeartbeats 4000000 in
theorem kx_then2 {sc : Nat × (Nat → Int32)} {s2 s4 s5 s6 s7 s8 s9 s10 s11 : List va_E} {V : Nat → Nat → Nat} (imm : Int32) (Im rowm stkm tpm : Nat → Int32) (Tm : Nat → Value) (I : Nat → Int32) (W : Nat → Nat → Int32) (T : Nat → Value) (Ix : Nat → Int32) (Wx : Nat → Nat → Int32) (Tx : Nat → Value) (hr : jr_ V I W) (hk : jv_ok V) {X : Nat → Option (List Int32)} (hx : jx_c X T s11) {tp wt : Nat} (h5 : I 5 = nI tp) (h6 : I 6 = nI wt) (htp : tp ≤ 50) (hwt : wt ≤ 20) (n : Nat) (hn : n ≤ 200) (h0 : V 0 0 ≤ 9999) : jb_C sc yX11_then cX11_then 3 (Option.some .int) 9 0 0 [.ref 0, .int (nI n), .int 2] [jb_main imm Im Tm rowm stkm tpm, jb_sch13 I W T, s2, jb_sch53 Ix Wx Tx, s4, s5, s6, s7, s8, s9, s10, s11] (fun r h9 => r = some (.int (nI (jm_ta (jm_pa (jx_G X) false n (V, I 1)).1))) ∧ ∃ I9 W9 T9 stk9, h9 = [jb_main imm Im Tm rowm stk9 tpm, jb_sch13 I W T, s2, jb_sch53 I9 W9 T9, s4, s5, s6, s7, s8, s9, s10, s11]) := by
  refine jb_CofJ (ini := false) (by decide +kernel) (fun h => by cases h) (Nat.le_of_ble_eq_true rfl) ?_
  show jb_J sc RX11 cX11_then 3 (Option.some .int) false 9 0 0 0 [some (.ref 0), some (.int (nI n)), some (.int 2)] [] [jb_main imm Im Tm rowm stkm tpm, jb_sch13 I W T, s2, jb_sch53 Ix Wx Tx, s4, s5, s6, s7, s8, s9, s10, s11] _
  have hr0 := hr
  have hk0 := hk
  obtain ⟨r0, r2, r3, r4, a0, a1, a2, rv, rs, rd⟩ := hr
  obtain ⟨k0, k1, k2, k3, k4, k5, k6, k7, kv, ks, kd⟩ := hk
  refine jb_iload_n (pc' := 1) dX11_then_0 rfl rfl ?_
  refine jb_iconst (pc' := 2) 0 dX11_then_1 (by decide) rfl ?_
  refine jb_sipush (pc' := 5) 200 dX11_then_2 (by decide) rfl ?_
  refine jb_callS (pc' := 8) (As := [.int (nI n), .int 0, .int 200]) (a2 := 0) (b2 := 0) wv_X11_74 dX11_then_5 (c_isOutLG n 0 200 (by omega) (by omega) (by omega)) rfl ⟨by decide, Nat.le_of_eq (Nat.zero_add _), Nat.le_of_eq (Nat.zero_add _)⟩ (Nat.le_of_ble_eq_true rfl) rfl (fun r h9 hq => ?_)
  obtain ⟨rfl, rfl⟩ := hq
  show jb_J _ RX11 cX11_then 3 (Option.some .int) false 9 0 0 8 [some (.ref 0), some (.int (nI n)), some (.int 2)] [.int 0] [jb_main imm Im Tm rowm stkm tpm, jb_sch13 I W T, s2, jb_sch53 Ix Wx Tx, s4, s5, s6, s7, s8, s9, s10, s11] _
  refine jb_if_ne (tgt := 20) (pc' := 11) dX11_then_8 (by decide) rfl (fun z => absurd (by decide) z) (fun _ => ?_)
  refine jb_iload_n (pc' := 12) dX11_then_11 rfl rfl ?_
  refine jb_iconst (pc' := 13) 0 dX11_then_12 (by decide) rfl ?_
  refine jb_iconst (pc' := 14) 2 dX11_then_13 (by decide) rfl ?_
  refine jb_callS (pc' := 17) (As := [.int 2, .int 0, .int 2]) (a2 := 0) (b2 := 0) wv_X11_74 dX11_then_14 (c_isOutLG 2 0 2 (by omega) (by omega) (by omega)) rfl ⟨by decide, Nat.le_of_eq (Nat.zero_add _), Nat.le_of_eq (Nat.zero_add _)⟩ (Nat.le_of_ble_eq_true rfl) rfl (fun r h9 hq => ?_)
  obtain ⟨rfl, rfl⟩ := hq
  show jb_J _ RX11 cX11_then 3 (Option.some .int) false 9 0 0 17 [some (.ref 0), some (.int (nI n)), some (.int 2)] [.int 0] [jb_main imm Im Tm rowm stkm tpm, jb_sch13 I W T, s2, jb_sch53 Ix Wx Tx, s4, s5, s6, s7, s8, s9, s10, s11] _
  refine jb_if_eq (tgt := 26) (pc' := 20) dX11_then_17 (by decide) rfl (fun _ => ?_) (fun z => absurd (by decide) z)
  refine jb_aload_n (pc' := 27) dX11_then_26 rfl rfl ?_
  refine jb_iload_n (pc' := 28) dX11_then_27 rfl rfl ?_
  refine jb_callV (pc' := 31) (ci := 11) (q := 0) (As := [.int (nI n)]) (a2 := 0) (b2 := 0) wv_X11_161 rfl dX11_then_28 (c_goAhead imm Im rowm stkm tpm Tm I W T Ix Wx Tx hr0 hk0 hx h5 h6 htp hwt n hn h0) rfl rfl ⟨by decide, Nat.le_of_eq (Nat.zero_add _), Nat.le_of_eq (Nat.zero_add _)⟩ (Nat.le_of_ble_eq_true rfl) rfl (fun r h9 hq => ?_)
  obtain ⟨rfl, I9, W9, T9, stk9, hr9, rfl⟩ := hq
  obtain ⟨hk9, hs9⟩ := jv_pa (jx_Gok X) false n V (I 1) hk0 (by omega)
  obtain ⟨V9, hV9⟩ : ∃ X9, (jm_pa (jx_G X) false n (V, I 1)).1 = X9 := ⟨_, rfl⟩
  rw [hV9] at hr9 hk9 hs9
  show jb_J _ RX11 cX11_then 3 (Option.some .int) false 9 0 0 31 [some (.ref 0), some (.int (nI n)), some (.int 2)] [] [jb_main imm Im Tm rowm stk9 tpm, jb_sch13 I W T, s2, jb_sch53 I9 W9 T9, s4, s5, s6, s7, s8, s9, s10, s11] _
  refine jb_iload_n (pc' := 32) dX11_then_31 rfl rfl ?_
  refine jb_if_ne (tgt := 43) (pc' := 35) dX11_then_32 (by decide) rfl (fun _ => ?_) (fun z => absurd z (by decide))
  refine jb_iload_n (pc' := 44) dX11_then_43 rfl rfl ?_
  refine jb_iconst (pc' := 45) 1 dX11_then_44 (by decide) rfl ?_
  refine jb_icmp_ne (tgt := 58) (pc' := 48) dX11_then_45 (by decide) rfl (fun _ => ?_) (fun z => absurd z (by decide))
  refine jb_aload_n (pc' := 59) dX11_then_58 rfl rfl ?_
  refine gf_X11_49 (pc' := 62) (v := .ref 53) dX11_then_59 rfl rfl rfl ?_
  refine jb_callV (pc' := 65) (ci := 9) (q := 53) (As := []) (a2 := 0) (b2 := 0) wv_X11_123 rfl dX11_then_62 (c_taught_53 I9 W9 T9 hr9 hk9) rfl rfl ⟨by decide, Nat.le_of_eq (Nat.zero_add _), Nat.le_of_eq (Nat.zero_add _)⟩ (Nat.le_of_ble_eq_true rfl) rfl (fun r h9 hq => ?_)
  obtain ⟨rfl, rfl⟩ := hq
  show jb_J _ RX11 cX11_then 3 (Option.some .int) false 9 0 0 65 [some (.ref 0), some (.int (nI n)), some (.int 2)] [.int (nI (jm_ta V9))] [jb_main imm Im Tm rowm stk9 tpm, jb_sch13 I W T, s2, jb_sch53 I9 W9 T9, s4, s5, s6, s7, s8, s9, s10, s11] _
  refine jb_iret dX11_then_65 rfl ?_
  exact ⟨by rw [hV9], I9, W9, T9, stk9, rfl⟩
set_option maxRecDepth 100000 in
set_option maxHeartbeats 4000000 in
theorem ke_then {sc : Nat × (Nat → Int32)} {s2 s3 s4 s5 s6 s7 s8 s10 s11 : List va_E} {V : Nat → Nat → Nat} (imm : Int32) (Im rowm stkm tpm : Nat → Int32) (Tm : Nat → Value) (I : Nat → Int32) (W : Nat → Nat → Int32) (T : Nat → Value) (Ia boa era : Nat → Int32) (hr : jr_ V I W) (hk : jv_ok V) (n w : Int32) (hb : ¬ (jn_b n 0 201 ∧ jn_b w 0 3)) : jb_C sc yX11_then cX11_then 3 (Option.some .int) 1 0 0 [.ref 0, .int n, .int w] [jb_main imm Im Tm rowm stkm tpm, jb_sch13 I W T, s2, s3, s4, s5, s6, s7, s8, jb_act Ia boa era, s10, s11] (fun r h9 => r = some (.int (jm_er 1)) ∧ h9 = [jb_main imm Im Tm rowm stkm tpm, jb_sch13 I W T, s2, s3, s4, s5, s6, s7, s8, jb_act Ia boa (jm_ef era 1), s10, s11]) := by
  refine jb_CofJ (ini := false) (by decide +kernel) (fun h => by cases h) (Nat.le_of_ble_eq_true rfl) ?_
  show jb_J sc RX11 cX11_then 3 (Option.some .int) false 1 0 0 0 [some (.ref 0), some (.int n), some (.int w)] [] [jb_main imm Im Tm rowm stkm tpm, jb_sch13 I W T, s2, s3, s4, s5, s6, s7, s8, jb_act Ia boa era, s10, s11] _
  have hr0 := hr
  have hk0 := hk
  obtain ⟨r0, r2, r3, r4, a0, a1, a2, rv, rs, rd⟩ := hr
  obtain ⟨k0, k1, k2, k3, k4, k5, k6, k7, kv, ks, kd⟩ := hk
  refine jb_iload_n (pc' := 1) dX11_then_0 rfl rfl ?_
  refine jb_iconst (pc' := 2) 0 dX11_then_1 (by decide) rfl ?_
  refine jb_sipush (pc' := 5) 200 dX11_then_2 (by decide) rfl ?_
  refine jb_callS (pc' := 8) (As := [.int n, .int 0, .int 200]) (a2 := 0) (b2 := 0) wv_X11_74 dX11_then_5 (c_isOutL n 0 200 (by omega) (by omega)) rfl ⟨by decide, Nat.le_of_eq (Nat.zero_add _), Nat.le_of_eq (Nat.zero_add _)⟩ (Nat.le_of_ble_eq_true rfl) rfl (fun r h9 hq => ?_)
  rcases hq with ⟨rfl, ⟨o1, rfl⟩ | ⟨o1, rfl⟩⟩
  · show jb_J _ RX11 cX11_then 3 (Option.some .int) false 1 0 0 8 [some (.ref 0), some (.int n), some (.int w)] [.int 1] [jb_main imm Im Tm rowm stkm tpm, jb_sch13 I W T, s2, s3, s4, s5, s6, s7, s8, jb_act Ia boa era, s10, s11] _
    refine jb_if_ne (tgt := 20) (pc' := 11) dX11_then_8 (by decide) rfl (fun _ => ?_) (fun z => absurd z (by decide))
    refine jb_aload_n (pc' := 21) dX11_then_20 rfl rfl ?_
    refine jb_iconst (pc' := 22) 1 dX11_then_21 (by decide) rfl ?_
    refine jb_callV (pc' := 25) (ci := 11) (q := 0) (As := [.int 1]) (a2 := 0) (b2 := 0) wv_X11_78 rfl dX11_then_22 (c_error imm Im rowm stkm tpm Tm Ia boa era 1 (by decide)) rfl rfl ⟨by decide, Nat.le_of_eq (Nat.zero_add _), Nat.le_of_eq (Nat.zero_add _)⟩ (Nat.le_of_ble_eq_true rfl) rfl (fun r h9 hq => ?_)
    obtain ⟨rfl, rfl⟩ := hq
    show jb_J _ RX11 cX11_then 3 (Option.some .int) false 1 0 0 25 [some (.ref 0), some (.int n), some (.int w)] [.int (jm_er 1)] [jb_main imm Im Tm rowm stkm tpm, jb_sch13 I W T, s2, s3, s4, s5, s6, s7, s8, jb_act Ia boa (jm_ef era 1), s10, s11] _
    refine jb_iret dX11_then_25 rfl ?_
    exact ⟨rfl, rfl⟩
  · show jb_J _ RX11 cX11_then 3 (Option.some .int) false 1 0 0 8 [some (.ref 0), some (.int n), some (.int w)] [.int 0] [jb_main imm Im Tm rowm stkm tpm, jb_sch13 I W T, s2, s3, s4, s5, s6, s7, s8, jb_act Ia boa era, s10, s11] _
    refine jb_if_ne (tgt := 20) (pc' := 11) dX11_then_8 (by decide) rfl (fun z => absurd (by decide) z) (fun _ => ?_)
    refine jb_iload_n (pc' := 12) dX11_then_11 rfl rfl ?_
    refine jb_iconst (pc' := 13) 0 dX11_then_12 (by decide) rfl ?_
    refine jb_iconst (pc' := 14) 2 dX11_then_13 (by decide) rfl ?_
    refine jb_callS (pc' := 17) (As := [.int w, .int 0, .int 2]) (a2 := 0) (b2 := 0) wv_X11_74 dX11_then_14 (c_isOutL w 0 2 (by omega) (by omega)) rfl ⟨by decide, Nat.le_of_eq (Nat.zero_add _), Nat.le_of_eq (Nat.zero_add _)⟩ (Nat.le_of_ble_eq_true rfl) rfl (fun r h9 hq => ?_)
    rcases hq with ⟨rfl, ⟨o5, rfl⟩ | ⟨o5, rfl⟩⟩
    · show jb_J _ RX11 cX11_then 3 (Option.some .int) false 1 0 0 17 [some (.ref 0), some (.int n), some (.int w)] [.int 1] [jb_main imm Im Tm rowm stkm tpm, jb_sch13 I W T, s2, s3, s4, s5, s6, s7, s8, jb_act Ia boa era, s10, s11] _
      refine jb_if_eq (tgt := 26) (pc' := 20) dX11_then_17 (by decide) rfl (fun z => absurd z (by decide)) (fun _ => ?_)
      refine jb_aload_n (pc' := 21) dX11_then_20 rfl rfl ?_
      refine jb_iconst (pc' := 22) 1 dX11_then_21 (by decide) rfl ?_
      refine jb_callV (pc' := 25) (ci := 11) (q := 0) (As := [.int 1]) (a2 := 0) (b2 := 0) wv_X11_78 rfl dX11_then_22 (c_error imm Im rowm stkm tpm Tm Ia boa era 1 (by decide)) rfl rfl ⟨by decide, Nat.le_of_eq (Nat.zero_add _), Nat.le_of_eq (Nat.zero_add _)⟩ (Nat.le_of_ble_eq_true rfl) rfl (fun r h9 hq => ?_)
      obtain ⟨rfl, rfl⟩ := hq
      show jb_J _ RX11 cX11_then 3 (Option.some .int) false 1 0 0 25 [some (.ref 0), some (.int n), some (.int w)] [.int (jm_er 1)] [jb_main imm Im Tm rowm stkm tpm, jb_sch13 I W T, s2, s3, s4, s5, s6, s7, s8, jb_act Ia boa (jm_ef era 1), s10, s11] _
      refine jb_iret dX11_then_25 rfl ?_
      exact ⟨rfl, rfl⟩
    · show jb_J _ RX11 cX11_then 3 (Option.some .int) false 1 0 0 17 [some (.ref 0), some (.int n), some (.int w)] [.int 0] [jb_main imm Im Tm rowm stkm tpm, jb_sch13 I W T, s2, s3, s4, s5, s6, s7, s8, jb_act Ia boa era, s10, s11] _
      exact absurd ⟨by assumption, by assumption⟩ hb
set_option maxRecDepth 100000 in
set_option maxHeartbeats 4000000 in
theorem kx_thenShout0 {sc : Nat × (Nat → Int32)} {s2 s4 s5 s6 s7 s8 s9 s10 s11 : List va_E} {V : Nat → Nat → Nat} (imm : Int32) (Im rowm stkm tpm : Nat → Int32) (Tm : Nat → Value) (I : Nat → Int32) (W : Nat → Nat → Int32) (T : Nat → Value) (Ix : Nat → Int32) (Wx : Nat → Nat → Int32) (Tx : Nat → Value) (hr : jr_ V I W) (hk : jv_ok V) {X : Nat → Option (List Int32)} (hx : jx_c X T s11) {tp wt : Nat} (h5 : I 5 = nI tp) (h6 : I 6 = nI wt) (htp : tp ≤ 50) (hwt : wt ≤ 20) (n : Nat) (hn : n ≤ 200) (h0 : V 0 0 ≤ 9999) (s : Nat) (hs : s < 40) (hs2 : s < (jm_pa (jx_G X) false n (V, I 1)).1 0 2) : jb_C sc yX11_thenShout cX11_thenShout 4 (Option.some .int) 9 0 0 [.ref 0, .int (nI n), .int (nI s), .int 0] [jb_main imm Im Tm rowm stkm tpm, jb_sch13 I W T, s2, jb_sch53 Ix Wx Tx, s4, s5, s6, s7, s8, s9, s10, s11] (fun r h9 => r = some (.int (nI ((jm_pa (jx_G X) false n (V, I 1)).1 4 s))) ∧ ∃ I9 W9 T9 stk9, h9 = [jb_main imm Im Tm rowm stk9 tpm, jb_sch13 I W T, s2, jb_sch53 I9 W9 T9, s4, s5, s6, s7, s8, s9, s10, s11]) := by
  refine jb_CofJ (ini := false) (by decide +kernel) (fun h => by cases h) (Nat.le_of_ble_eq_true rfl) ?_
  show jb_J sc RX11 cX11_thenShout 4 (Option.some .int) false 9 0 0 0 [some (.ref 0), some (.int (nI n)), some (.int (nI s)), some (.int 0)] [] [jb_main imm Im Tm rowm stkm tpm, jb_sch13 I W T, s2, jb_sch53 Ix Wx Tx, s4, s5, s6, s7, s8, s9, s10, s11] _
  have hr0 := hr
  have hk0 := hk
  obtain ⟨r0, r2, r3, r4, a0, a1, a2, rv, rs, rd⟩ := hr
  obtain ⟨k0, k1, k2, k3, k4, k5, k6, k7, kv, ks, kd⟩ := hk
  refine jb_iload_n (pc' := 1) dX11_thenShout_0 rfl rfl ?_
  refine jb_iconst (pc' := 2) 0 dX11_thenShout_1 (by decide) rfl ?_
  refine jb_sipush (pc' := 5) 200 dX11_thenShout_2 (by decide) rfl ?_
  refine jb_callS (pc' := 8) (As := [.int (nI n), .int 0, .int 200]) (a2 := 0) (b2 := 0) wv_X11_74 dX11_thenShout_5 (c_isOutLG n 0 200 (by omega) (by omega) (by omega)) rfl ⟨by decide, Nat.le_of_eq (Nat.zero_add _), Nat.le_of_eq (Nat.zero_add _)⟩ (Nat.le_of_ble_eq_true rfl) rfl (fun r h9 hq => ?_)
  obtain ⟨rfl, rfl⟩ := hq
  show jb_J _ RX11 cX11_thenShout 4 (Option.some .int) false 9 0 0 8 [some (.ref 0), some (.int (nI n)), some (.int (nI s)), some (.int 0)] [.int 0] [jb_main imm Im Tm rowm stkm tpm, jb_sch13 I W T, s2, jb_sch53 Ix Wx Tx, s4, s5, s6, s7, s8, s9, s10, s11] _
  refine jb_if_ne (tgt := 30) (pc' := 11) dX11_thenShout_8 (by decide) rfl (fun z => absurd (by decide) z) (fun _ => ?_)
  refine jb_iload_n (pc' := 12) dX11_thenShout_11 rfl rfl ?_
  refine jb_iconst (pc' := 13) 0 dX11_thenShout_12 (by decide) rfl ?_
  refine jb_bipush (pc' := 15) 39 dX11_thenShout_13 (by decide) rfl ?_
  refine jb_callS (pc' := 18) (As := [.int (nI s), .int 0, .int 39]) (a2 := 0) (b2 := 0) wv_X11_74 dX11_thenShout_15 (c_isOutLG s 0 39 (by omega) (by omega) (by omega)) rfl ⟨by decide, Nat.le_of_eq (Nat.zero_add _), Nat.le_of_eq (Nat.zero_add _)⟩ (Nat.le_of_ble_eq_true rfl) rfl (fun r h9 hq => ?_)
  obtain ⟨rfl, rfl⟩ := hq
  show jb_J _ RX11 cX11_thenShout 4 (Option.some .int) false 9 0 0 18 [some (.ref 0), some (.int (nI n)), some (.int (nI s)), some (.int 0)] [.int 0] [jb_main imm Im Tm rowm stkm tpm, jb_sch13 I W T, s2, jb_sch53 Ix Wx Tx, s4, s5, s6, s7, s8, s9, s10, s11] _
  refine jb_if_ne (tgt := 30) (pc' := 21) dX11_thenShout_18 (by decide) rfl (fun z => absurd (by decide) z) (fun _ => ?_)
  refine jb_iload_n (pc' := 22) dX11_thenShout_21 rfl rfl ?_
  refine jb_iconst (pc' := 23) 0 dX11_thenShout_22 (by decide) rfl ?_
  refine jb_iconst (pc' := 24) 5 dX11_thenShout_23 (by decide) rfl ?_
  refine jb_callS (pc' := 27) (As := [.int 0, .int 0, .int 5]) (a2 := 0) (b2 := 0) wv_X11_74 dX11_thenShout_24 (c_isOutLG 0 0 5 (by omega) (by omega) (by omega)) rfl ⟨by decide, Nat.le_of_eq (Nat.zero_add _), Nat.le_of_eq (Nat.zero_add _)⟩ (Nat.le_of_ble_eq_true rfl) rfl (fun r h9 hq => ?_)
  obtain ⟨rfl, rfl⟩ := hq
  show jb_J _ RX11 cX11_thenShout 4 (Option.some .int) false 9 0 0 27 [some (.ref 0), some (.int (nI n)), some (.int (nI s)), some (.int 0)] [.int 0] [jb_main imm Im Tm rowm stkm tpm, jb_sch13 I W T, s2, jb_sch53 Ix Wx Tx, s4, s5, s6, s7, s8, s9, s10, s11] _
  refine jb_if_eq (tgt := 36) (pc' := 30) dX11_thenShout_27 (by decide) rfl (fun _ => ?_) (fun z => absurd (by decide) z)
  refine jb_aload_n (pc' := 37) dX11_thenShout_36 rfl rfl ?_
  refine jb_iload_n (pc' := 38) dX11_thenShout_37 rfl rfl ?_
  refine jb_callV (pc' := 41) (ci := 11) (q := 0) (As := [.int (nI n)]) (a2 := 0) (b2 := 0) wv_X11_161 rfl dX11_thenShout_38 (c_goAhead imm Im rowm stkm tpm Tm I W T Ix Wx Tx hr0 hk0 hx h5 h6 htp hwt n hn h0) rfl rfl ⟨by decide, Nat.le_of_eq (Nat.zero_add _), Nat.le_of_eq (Nat.zero_add _)⟩ (Nat.le_of_ble_eq_true rfl) rfl (fun r h9 hq => ?_)
  obtain ⟨rfl, I9, W9, T9, stk9, hr9, rfl⟩ := hq
  obtain ⟨hk9, hs9⟩ := jv_pa (jx_Gok X) false n V (I 1) hk0 (by omega)
  obtain ⟨V9, hV9⟩ : ∃ X9, (jm_pa (jx_G X) false n (V, I 1)).1 = X9 := ⟨_, rfl⟩
  rw [hV9] at hr9 hk9 hs9
  rw [hV9] at hs2
  have q9 := hk9.2.2.1
  show jb_J _ RX11 cX11_thenShout 4 (Option.some .int) false 9 0 0 41 [some (.ref 0), some (.int (nI n)), some (.int (nI s)), some (.int 0)] [] [jb_main imm Im Tm rowm stk9 tpm, jb_sch13 I W T, s2, jb_sch53 I9 W9 T9, s4, s5, s6, s7, s8, s9, s10, s11] _
  refine jb_iload_n (pc' := 42) dX11_thenShout_41 rfl rfl ?_
  refine jb_aload_n (pc' := 43) dX11_thenShout_42 rfl rfl ?_
  refine gf_X11_49 (pc' := 46) (v := .ref 53) dX11_thenShout_43 rfl rfl rfl ?_
  refine gf_X11_113 (pc' := 49) (v := .int (I9 3)) dX11_thenShout_46 rfl rfl rfl ?_
  refine jb_top (v := .int (I9 3)) (w := .int (nI (V9 0 2))) (jb_vI hr9.2.2.1) ?_
  refine jb_icmp_lt (tgt := 58) (pc' := 52) dX11_thenShout_49 (by decide) rfl (fun _ => ?_) (fun z => absurd (nI_lt (a := s) (b := V9 0 2) (by omega) (by omega)) z)
  refine jb_aload_n (pc' := 59) dX11_thenShout_58 rfl rfl ?_
  refine gf_X11_49 (pc' := 62) (v := .ref 53) dX11_thenShout_59 rfl rfl rfl ?_
  refine gf_X11_120 (pc' := 65) (v := .ref 59) dX11_thenShout_62 rfl rfl rfl ?_
  refine jb_iload_n (pc' := 66) dX11_thenShout_65 rfl rfl ?_
  refine jb_aaload (pc' := 67) (i9 := 0) (r := 60) (Or.inl rfl) dX11_thenShout_66 rfl jb_x0 (by decide) rfl rfl ?_
  refine jb_iload_n (pc' := 68) dX11_thenShout_67 rfl rfl ?_
  refine jb_iaload (pc' := 69) (i9 := s) (f := (W9 4)) dX11_thenShout_68 rfl (jb_ix_nI (by omega)) (by omega) rfl ?_
  refine jb_top (v := .int ((W9 4) s)) (w := .int (nI (V9 4 s))) (jb_vI (hr9.2.2.2.2.2.2.2.2.1 s (by omega)).1) ?_
  refine jb_iret dX11_thenShout_69 rfl ?_
  exact ⟨by rw [hV9], I9, W9, T9, stk9, rfl⟩
set_option maxRecDepth 100000 in
set_option maxHeartbeats 4000000 in
theorem kx_thenShout1 {sc : Nat × (Nat → Int32)} {s2 s4 s5 s6 s7 s8 s9 s10 s11 : List va_E} {V : Nat → Nat → Nat} (imm : Int32) (Im rowm stkm tpm : Nat → Int32) (Tm : Nat → Value) (I : Nat → Int32) (W : Nat → Nat → Int32) (T : Nat → Value) (Ix : Nat → Int32) (Wx : Nat → Nat → Int32) (Tx : Nat → Value) (hr : jr_ V I W) (hk : jv_ok V) {X : Nat → Option (List Int32)} (hx : jx_c X T s11) {tp wt : Nat} (h5 : I 5 = nI tp) (h6 : I 6 = nI wt) (htp : tp ≤ 50) (hwt : wt ≤ 20) (n : Nat) (hn : n ≤ 200) (h0 : V 0 0 ≤ 9999) (s : Nat) (hs : s < 40) (hs2 : s < (jm_pa (jx_G X) false n (V, I 1)).1 0 2) : jb_C sc yX11_thenShout cX11_thenShout 4 (Option.some .int) 9 0 0 [.ref 0, .int (nI n), .int (nI s), .int 1] [jb_main imm Im Tm rowm stkm tpm, jb_sch13 I W T, s2, jb_sch53 Ix Wx Tx, s4, s5, s6, s7, s8, s9, s10, s11] (fun r h9 => r = some (.int (nI ((jm_pa (jx_G X) false n (V, I 1)).1 5 s))) ∧ ∃ I9 W9 T9 stk9, h9 = [jb_main imm Im Tm rowm stk9 tpm, jb_sch13 I W T, s2, jb_sch53 I9 W9 T9, s4, s5, s6, s7, s8, s9, s10, s11]) := by
  refine jb_CofJ (ini := false) (by decide +kernel) (fun h => by cases h) (Nat.le_of_ble_eq_true rfl) ?_
  show jb_J sc RX11 cX11_thenShout 4 (Option.some .int) false 9 0 0 0 [some (.ref 0), some (.int (nI n)), some (.int (nI s)), some (.int 1)] [] [jb_main imm Im Tm rowm stkm tpm, jb_sch13 I W T, s2, jb_sch53 Ix Wx Tx, s4, s5, s6, s7, s8, s9, s10, s11] _
  have hr0 := hr
  have hk0 := hk
  obtain ⟨r0, r2, r3, r4, a0, a1, a2, rv, rs, rd⟩ := hr
  obtain ⟨k0, k1, k2, k3, k4, k5, k6, k7, kv, ks, kd⟩ := hk
  refine jb_iload_n (pc' := 1) dX11_thenShout_0 rfl rfl ?_
  refine jb_iconst (pc' := 2) 0 dX11_thenShout_1 (by decide) rfl ?_
  refine jb_sipush (pc' := 5) 200 dX11_thenShout_2 (by decide) rfl ?_
  refine jb_callS (pc' := 8) (As := [.int (nI n), .int 0, .int 200]) (a2 := 0) (b2 := 0) wv_X11_74 dX11_thenShout_5 (c_isOutLG n 0 200 (by omega) (by omega) (by omega)) rfl ⟨by decide, Nat.le_of_eq (Nat.zero_add _), Nat.le_of_eq (Nat.zero_add _)⟩ (Nat.le_of_ble_eq_true rfl) rfl (fun r h9 hq => ?_)
  obtain ⟨rfl, rfl⟩ := hq
  show jb_J _ RX11 cX11_thenShout 4 (Option.some .int) false 9 0 0 8 [some (.ref 0), some (.int (nI n)), some (.int (nI s)), some (.int 1)] [.int 0] [jb_main imm Im Tm rowm stkm tpm, jb_sch13 I W T, s2, jb_sch53 Ix Wx Tx, s4, s5, s6, s7, s8, s9, s10, s11] _
  refine jb_if_ne (tgt := 30) (pc' := 11) dX11_thenShout_8 (by decide) rfl (fun z => absurd (by decide) z) (fun _ => ?_)
  refine jb_iload_n (pc' := 12) dX11_thenShout_11 rfl rfl ?_
  refine jb_iconst (pc' := 13) 0 dX11_thenShout_12 (by decide) rfl ?_
  refine jb_bipush (pc' := 15) 39 dX11_thenShout_13 (by decide) rfl ?_
  refine jb_callS (pc' := 18) (As := [.int (nI s), .int 0, .int 39]) (a2 := 0) (b2 := 0) wv_X11_74 dX11_thenShout_15 (c_isOutLG s 0 39 (by omega) (by omega) (by omega)) rfl ⟨by decide, Nat.le_of_eq (Nat.zero_add _), Nat.le_of_eq (Nat.zero_add _)⟩ (Nat.le_of_ble_eq_true rfl) rfl (fun r h9 hq => ?_)
  obtain ⟨rfl, rfl⟩ := hq
  show jb_J _ RX11 cX11_thenShout 4 (Option.some .int) false 9 0 0 18 [some (.ref 0), some (.int (nI n)), some (.int (nI s)), some (.int 1)] [.int 0] [jb_main imm Im Tm rowm stkm tpm, jb_sch13 I W T, s2, jb_sch53 Ix Wx Tx, s4, s5, s6, s7, s8, s9, s10, s11] _
  refine jb_if_ne (tgt := 30) (pc' := 21) dX11_thenShout_18 (by decide) rfl (fun z => absurd (by decide) z) (fun _ => ?_)
  refine jb_iload_n (pc' := 22) dX11_thenShout_21 rfl rfl ?_
  refine jb_iconst (pc' := 23) 0 dX11_thenShout_22 (by decide) rfl ?_
  refine jb_iconst (pc' := 24) 5 dX11_thenShout_23 (by decide) rfl ?_
  refine jb_callS (pc' := 27) (As := [.int 1, .int 0, .int 5]) (a2 := 0) (b2 := 0) wv_X11_74 dX11_thenShout_24 (c_isOutLG 1 0 5 (by omega) (by omega) (by omega)) rfl ⟨by decide, Nat.le_of_eq (Nat.zero_add _), Nat.le_of_eq (Nat.zero_add _)⟩ (Nat.le_of_ble_eq_true rfl) rfl (fun r h9 hq => ?_)
  obtain ⟨rfl, rfl⟩ := hq
  show jb_J _ RX11 cX11_thenShout 4 (Option.some .int) false 9 0 0 27 [some (.ref 0), some (.int (nI n)), some (.int (nI s)), some (.int 1)] [.int 0] [jb_main imm Im Tm rowm stkm tpm, jb_sch13 I W T, s2, jb_sch53 Ix Wx Tx, s4, s5, s6, s7, s8, s9, s10, s11] _
  refine jb_if_eq (tgt := 36) (pc' := 30) dX11_thenShout_27 (by decide) rfl (fun _ => ?_) (fun z => absurd (by decide) z)
  refine jb_aload_n (pc' := 37) dX11_thenShout_36 rfl rfl ?_
  refine jb_iload_n (pc' := 38) dX11_thenShout_37 rfl rfl ?_
  refine jb_callV (pc' := 41) (ci := 11) (q := 0) (As := [.int (nI n)]) (a2 := 0) (b2 := 0) wv_X11_161 rfl dX11_thenShout_38 (c_goAhead imm Im rowm stkm tpm Tm I W T Ix Wx Tx hr0 hk0 hx h5 h6 htp hwt n hn h0) rfl rfl ⟨by decide, Nat.le_of_eq (Nat.zero_add _), Nat.le_of_eq (Nat.zero_add _)⟩ (Nat.le_of_ble_eq_true rfl) rfl (fun r h9 hq => ?_)
  obtain ⟨rfl, I9, W9, T9, stk9, hr9, rfl⟩ := hq
  obtain ⟨hk9, hs9⟩ := jv_pa (jx_Gok X) false n V (I 1) hk0 (by omega)
  obtain ⟨V9, hV9⟩ : ∃ X9, (jm_pa (jx_G X) false n (V, I 1)).1 = X9 := ⟨_, rfl⟩
  rw [hV9] at hr9 hk9 hs9
  rw [hV9] at hs2
  have q9 := hk9.2.2.1
  show jb_J _ RX11 cX11_thenShout 4 (Option.some .int) false 9 0 0 41 [some (.ref 0), some (.int (nI n)), some (.int (nI s)), some (.int 1)] [] [jb_main imm Im Tm rowm stk9 tpm, jb_sch13 I W T, s2, jb_sch53 I9 W9 T9, s4, s5, s6, s7, s8, s9, s10, s11] _
  refine jb_iload_n (pc' := 42) dX11_thenShout_41 rfl rfl ?_
  refine jb_aload_n (pc' := 43) dX11_thenShout_42 rfl rfl ?_
  refine gf_X11_49 (pc' := 46) (v := .ref 53) dX11_thenShout_43 rfl rfl rfl ?_
  refine gf_X11_113 (pc' := 49) (v := .int (I9 3)) dX11_thenShout_46 rfl rfl rfl ?_
  refine jb_top (v := .int (I9 3)) (w := .int (nI (V9 0 2))) (jb_vI hr9.2.2.1) ?_
  refine jb_icmp_lt (tgt := 58) (pc' := 52) dX11_thenShout_49 (by decide) rfl (fun _ => ?_) (fun z => absurd (nI_lt (a := s) (b := V9 0 2) (by omega) (by omega)) z)
  refine jb_aload_n (pc' := 59) dX11_thenShout_58 rfl rfl ?_
  refine gf_X11_49 (pc' := 62) (v := .ref 53) dX11_thenShout_59 rfl rfl rfl ?_
  refine gf_X11_120 (pc' := 65) (v := .ref 59) dX11_thenShout_62 rfl rfl rfl ?_
  refine jb_iload_n (pc' := 66) dX11_thenShout_65 rfl rfl ?_
  refine jb_aaload (pc' := 67) (i9 := 1) (r := 61) (Or.inl rfl) dX11_thenShout_66 rfl jb_x1 (by decide) rfl rfl ?_
  refine jb_iload_n (pc' := 68) dX11_thenShout_67 rfl rfl ?_
  refine jb_iaload (pc' := 69) (i9 := s) (f := (W9 5)) dX11_thenShout_68 rfl (jb_ix_nI (by omega)) (by omega) rfl ?_
  refine jb_top (v := .int ((W9 5) s)) (w := .int (nI (V9 5 s))) (jb_vI (hr9.2.2.2.2.2.2.2.2.1 s (by omega)).2.1) ?_
  refine jb_iret dX11_thenShout_69 rfl ?_
  exact ⟨by rw [hV9], I9, W9, T9, stk9, rfl⟩
set_option maxRecDepth 100000 in
set_option maxHeartbeats 4000000 in
theorem kx_thenShout2 {sc : Nat × (Nat → Int32)} {s2 s4 s5 s6 s7 s8 s9 s10 s11 : List va_E} {V : Nat → Nat → Nat} (imm : Int32) (Im rowm stkm tpm : Nat → Int32) (Tm : Nat → Value) (I : Nat → Int32) (W : Nat → Nat → Int32) (T : Nat → Value) (Ix : Nat → Int32) (Wx : Nat → Nat → Int32) (Tx : Nat → Value) (hr : jr_ V I W) (hk : jv_ok V) {X : Nat → Option (List Int32)} (hx : jx_c X T s11) {tp wt : Nat} (h5 : I 5 = nI tp) (h6 : I 6 = nI wt) (htp : tp ≤ 50) (hwt : wt ≤ 20) (n : Nat) (hn : n ≤ 200) (h0 : V 0 0 ≤ 9999) (s : Nat) (hs : s < 40) (hs2 : s < (jm_pa (jx_G X) false n (V, I 1)).1 0 2) : jb_C sc yX11_thenShout cX11_thenShout 4 (Option.some .int) 9 0 0 [.ref 0, .int (nI n), .int (nI s), .int 2] [jb_main imm Im Tm rowm stkm tpm, jb_sch13 I W T, s2, jb_sch53 Ix Wx Tx, s4, s5, s6, s7, s8, s9, s10, s11] (fun r h9 => r = some (.int (nI ((jm_pa (jx_G X) false n (V, I 1)).1 6 s))) ∧ ∃ I9 W9 T9 stk9, h9 = [jb_main imm Im Tm rowm stk9 tpm, jb_sch13 I W T, s2, jb_sch53 I9 W9 T9, s4, s5, s6, s7, s8, s9, s10, s11]) := by
  refine jb_CofJ (ini := false) (by decide +kernel) (fun h => by cases h) (Nat.le_of_ble_eq_true rfl) ?_
  show jb_J sc RX11 cX11_thenShout 4 (Option.some .int) false 9 0 0 0 [some (.ref 0), some (.int (nI n)), some (.int (nI s)), some (.int 2)] [] [jb_main imm Im Tm rowm stkm tpm, jb_sch13 I W T, s2, jb_sch53 Ix Wx Tx, s4, s5, s6, s7, s8, s9, s10, s11] _
  have hr0 := hr
  have hk0 := hk
  obtain ⟨r0, r2, r3, r4, a0, a1, a2, rv, rs, rd⟩ := hr
  obtain ⟨k0, k1, k2, k3, k4, k5, k6, k7, kv, ks, kd⟩ := hk
  refine jb_iload_n (pc' := 1) dX11_thenShout_0 rfl rfl ?_
  refine jb_iconst (pc' := 2) 0 dX11_thenShout_1 (by decide) rfl ?_
  refine jb_sipush (pc' := 5) 200 dX11_thenShout_2 (by decide) rfl ?_
  refine jb_callS (pc' := 8) (As := [.int (nI n), .int 0, .int 200]) (a2 := 0) (b2 := 0) wv_X11_74 dX11_thenShout_5 (c_isOutLG n 0 200 (by omega) (by omega) (by omega)) rfl ⟨by decide, Nat.le_of_eq (Nat.zero_add _), Nat.le_of_eq (Nat.zero_add _)⟩ (Nat.le_of_ble_eq_true rfl) rfl (fun r h9 hq => ?_)
  obtain ⟨rfl, rfl⟩ := hq
  show jb_J _ RX11 cX11_thenShout 4 (Option.some .int) false 9 0 0 8 [some (.ref 0), some (.int (nI n)), some (.int (nI s)), some (.int 2)] [.int 0] [jb_main imm Im Tm rowm stkm tpm, jb_sch13 I W T, s2, jb_sch53 Ix Wx Tx, s4, s5, s6, s7, s8, s9, s10, s11] _
  refine jb_if_ne (tgt := 30) (pc' := 11) dX11_thenShout_8 (by decide) rfl (fun z => absurd (by decide) z) (fun _ => ?_)
  refine jb_iload_n (pc' := 12) dX11_thenShout_11 rfl rfl ?_
  refine jb_iconst (pc' := 13) 0 dX11_thenShout_12 (by decide) rfl ?_
  refine jb_bipush (pc' := 15) 39 dX11_thenShout_13 (by decide) rfl ?_
  refine jb_callS (pc' := 18) (As := [.int (nI s), .int 0, .int 39]) (a2 := 0) (b2 := 0) wv_X11_74 dX11_thenShout_15 (c_isOutLG s 0 39 (by omega) (by omega) (by omega)) rfl ⟨by decide, Nat.le_of_eq (Nat.zero_add _), Nat.le_of_eq (Nat.zero_add _)⟩ (Nat.le_of_ble_eq_true rfl) rfl (fun r h9 hq => ?_)
  obtain ⟨rfl, rfl⟩ := hq
  show jb_J _ RX11 cX11_thenShout 4 (Option.some .int) false 9 0 0 18 [some (.ref 0), some (.int (nI n)), some (.int (nI s)), some (.int 2)] [.int 0] [jb_main imm Im Tm rowm stkm tpm, jb_sch13 I W T, s2, jb_sch53 Ix Wx Tx, s4, s5, s6, s7, s8, s9, s10, s11] _
  refine jb_if_ne (tgt := 30) (pc' := 21) dX11_thenShout_18 (by decide) rfl (fun z => absurd (by decide) z) (fun _ => ?_)
  refine jb_iload_n (pc' := 22) dX11_thenShout_21 rfl rfl ?_
  refine jb_iconst (pc' := 23) 0 dX11_thenShout_22 (by decide) rfl ?_
  refine jb_iconst (pc' := 24) 5 dX11_thenShout_23 (by decide) rfl ?_
  refine jb_callS (pc' := 27) (As := [.int 2, .int 0, .int 5]) (a2 := 0) (b2 := 0) wv_X11_74 dX11_thenShout_24 (c_isOutLG 2 0 5 (by omega) (by omega) (by omega)) rfl ⟨by decide, Nat.le_of_eq (Nat.zero_add _), Nat.le_of_eq (Nat.zero_add _)⟩ (Nat.le_of_ble_eq_true rfl) rfl (fun r h9 hq => ?_)
  obtain ⟨rfl, rfl⟩ := hq
  show jb_J _ RX11 cX11_thenShout 4 (Option.some .int) false 9 0 0 27 [some (.ref 0), some (.int (nI n)), some (.int (nI s)), some (.int 2)] [.int 0] [jb_main imm Im Tm rowm stkm tpm, jb_sch13 I W T, s2, jb_sch53 Ix Wx Tx, s4, s5, s6, s7, s8, s9, s10, s11] _
  refine jb_if_eq (tgt := 36) (pc' := 30) dX11_thenShout_27 (by decide) rfl (fun _ => ?_) (fun z => absurd (by decide) z)
  refine jb_aload_n (pc' := 37) dX11_thenShout_36 rfl rfl ?_
  refine jb_iload_n (pc' := 38) dX11_thenShout_37 rfl rfl ?_
  refine jb_callV (pc' := 41) (ci := 11) (q := 0) (As := [.int (nI n)]) (a2 := 0) (b2 := 0) wv_X11_161 rfl dX11_thenShout_38 (c_goAhead imm Im rowm stkm tpm Tm I W T Ix Wx Tx hr0 hk0 hx h5 h6 htp hwt n hn h0) rfl rfl ⟨by decide, Nat.le_of_eq (Nat.zero_add _), Nat.le_of_eq (Nat.zero_add _)⟩ (Nat.le_of_ble_eq_true rfl) rfl (fun r h9 hq => ?_)
  obtain ⟨rfl, I9, W9, T9, stk9, hr9, rfl⟩ := hq
  obtain ⟨hk9, hs9⟩ := jv_pa (jx_Gok X) false n V (I 1) hk0 (by omega)
  obtain ⟨V9, hV9⟩ : ∃ X9, (jm_pa (jx_G X) false n (V, I 1)).1 = X9 := ⟨_, rfl⟩
  rw [hV9] at hr9 hk9 hs9
  rw [hV9] at hs2
  have q9 := hk9.2.2.1
  show jb_J _ RX11 cX11_thenShout 4 (Option.some .int) false 9 0 0 41 [some (.ref 0), some (.int (nI n)), some (.int (nI s)), some (.int 2)] [] [jb_main imm Im Tm rowm stk9 tpm, jb_sch13 I W T, s2, jb_sch53 I9 W9 T9, s4, s5, s6, s7, s8, s9, s10, s11] _
  refine jb_iload_n (pc' := 42) dX11_thenShout_41 rfl rfl ?_
  refine jb_aload_n (pc' := 43) dX11_thenShout_42 rfl rfl ?_
  refine gf_X11_49 (pc' := 46) (v := .ref 53) dX11_thenShout_43 rfl rfl rfl ?_
  refine gf_X11_113 (pc' := 49) (v := .int (I9 3)) dX11_thenShout_46 rfl rfl rfl ?_
  refine jb_top (v := .int (I9 3)) (w := .int (nI (V9 0 2))) (jb_vI hr9.2.2.1) ?_
  refine jb_icmp_lt (tgt := 58) (pc' := 52) dX11_thenShout_49 (by decide) rfl (fun _ => ?_) (fun z => absurd (nI_lt (a := s) (b := V9 0 2) (by omega) (by omega)) z)
  refine jb_aload_n (pc' := 59) dX11_thenShout_58 rfl rfl ?_
  refine gf_X11_49 (pc' := 62) (v := .ref 53) dX11_thenShout_59 rfl rfl rfl ?_
  refine gf_X11_120 (pc' := 65) (v := .ref 59) dX11_thenShout_62 rfl rfl rfl ?_
  refine jb_iload_n (pc' := 66) dX11_thenShout_65 rfl rfl ?_
  refine jb_aaload (pc' := 67) (i9 := 2) (r := 62) (Or.inl rfl) dX11_thenShout_66 rfl jb_x2 (by decide) rfl rfl ?_
  refine jb_iload_n (pc' := 68) dX11_thenShout_67 rfl rfl ?_
  refine jb_iaload (pc' := 69) (i9 := s) (f := (W9 6)) dX11_thenShout_68 rfl (jb_ix_nI (by omega)) (by omega) rfl ?_
  refine jb_top (v := .int ((W9 6) s)) (w := .int (nI (V9 6 s))) (jb_vI (hr9.2.2.2.2.2.2.2.2.1 s (by omega)).2.2.1) ?_
  refine jb_iret dX11_thenShout_69 rfl ?_
  exact ⟨by rw [hV9], I9, W9, T9, stk9, rfl⟩
set_option maxRecDepth 100000 in
set_option maxHeartbeats 4000000 in
theorem kx_thenShout3 {sc : Nat × (Nat → Int32)} {s2 s4 s5 s6 s7 s8 s9 s10 s11 : List va_E} {V : Nat → Nat → Nat} (imm : Int32) (Im rowm stkm tpm : Nat → Int32) (Tm : Nat → Value) (I : Nat → Int32) (W : Nat → Nat → Int32) (T : Nat → Value) (Ix : Nat → Int32) (Wx : Nat → Nat → Int32) (Tx : Nat → Value) (hr : jr_ V I W) (hk : jv_ok V) {X : Nat → Option (List Int32)} (hx : jx_c X T s11) {tp wt : Nat} (h5 : I 5 = nI tp) (h6 : I 6 = nI wt) (htp : tp ≤ 50) (hwt : wt ≤ 20) (n : Nat) (hn : n ≤ 200) (h0 : V 0 0 ≤ 9999) (s : Nat) (hs : s < 40) (hs2 : s < (jm_pa (jx_G X) false n (V, I 1)).1 0 2) : jb_C sc yX11_thenShout cX11_thenShout 4 (Option.some .int) 9 0 0 [.ref 0, .int (nI n), .int (nI s), .int 3] [jb_main imm Im Tm rowm stkm tpm, jb_sch13 I W T, s2, jb_sch53 Ix Wx Tx, s4, s5, s6, s7, s8, s9, s10, s11] (fun r h9 => r = some (.int (nI ((jm_pa (jx_G X) false n (V, I 1)).1 7 s))) ∧ ∃ I9 W9 T9 stk9, h9 = [jb_main imm Im Tm rowm stk9 tpm, jb_sch13 I W T, s2, jb_sch53 I9 W9 T9, s4, s5, s6, s7, s8, s9, s10, s11]) := by
  refine jb_CofJ (ini := false) (by decide +kernel) (fun h => by cases h) (Nat.le_of_ble_eq_true rfl) ?_
  show jb_J sc RX11 cX11_thenShout 4 (Option.some .int) false 9 0 0 0 [some (.ref 0), some (.int (nI n)), some (.int (nI s)), some (.int 3)] [] [jb_main imm Im Tm rowm stkm tpm, jb_sch13 I W T, s2, jb_sch53 Ix Wx Tx, s4, s5, s6, s7, s8, s9, s10, s11] _
  have hr0 := hr
  have hk0 := hk
  obtain ⟨r0, r2, r3, r4, a0, a1, a2, rv, rs, rd⟩ := hr
  obtain ⟨k0, k1, k2, k3, k4, k5, k6, k7, kv, ks, kd⟩ := hk
  refine jb_iload_n (pc' := 1) dX11_thenShout_0 rfl rfl ?_
  refine jb_iconst (pc' := 2) 0 dX11_thenShout_1 (by decide) rfl ?_
  refine jb_sipush (pc' := 5) 200 dX11_thenShout_2 (by decide) rfl ?_
  refine jb_callS (pc' := 8) (As := [.int (nI n), .int 0, .int 200]) (a2 := 0) (b2 := 0) wv_X11_74 dX11_thenShout_5 (c_isOutLG n 0 200 (by omega) (by omega) (by omega)) rfl ⟨by decide, Nat.le_of_eq (Nat.zero_add _), Nat.le_of_eq (Nat.zero_add _)⟩ (Nat.le_of_ble_eq_true rfl) rfl (fun r h9 hq => ?_)
  obtain ⟨rfl, rfl⟩ := hq
  show jb_J _ RX11 cX11_thenShout 4 (Option.some .int) false 9 0 0 8 [some (.ref 0), some (.int (nI n)), some (.int (nI s)), some (.int 3)] [.int 0] [jb_main imm Im Tm rowm stkm tpm, jb_sch13 I W T, s2, jb_sch53 Ix Wx Tx, s4, s5, s6, s7, s8, s9, s10, s11] _
  refine jb_if_ne (tgt := 30) (pc' := 11) dX11_thenShout_8 (by decide) rfl (fun z => absurd (by decide) z) (fun _ => ?_)
  refine jb_iload_n (pc' := 12) dX11_thenShout_11 rfl rfl ?_
  refine jb_iconst (pc' := 13) 0 dX11_thenShout_12 (by decide) rfl ?_
  refine jb_bipush (pc' := 15) 39 dX11_thenShout_13 (by decide) rfl ?_
  refine jb_callS (pc' := 18) (As := [.int (nI s), .int 0, .int 39]) (a2 := 0) (b2 := 0) wv_X11_74 dX11_thenShout_15 (c_isOutLG s 0 39 (by omega) (by omega) (by omega)) rfl ⟨by decide, Nat.le_of_eq (Nat.zero_add _), Nat.le_of_eq (Nat.zero_add _)⟩ (Nat.le_of_ble_eq_true rfl) rfl (fun r h9 hq => ?_)
  obtain ⟨rfl, rfl⟩ := hq
  show jb_J _ RX11 cX11_thenShout 4 (Option.some .int) false 9 0 0 18 [some (.ref 0), some (.int (nI n)), some (.int (nI s)), some (.int 3)] [.int 0] [jb_main imm Im Tm rowm stkm tpm, jb_sch13 I W T, s2, jb_sch53 Ix Wx Tx, s4, s5, s6, s7, s8, s9, s10, s11] _
  refine jb_if_ne (tgt := 30) (pc' := 21) dX11_thenShout_18 (by decide) rfl (fun z => absurd (by decide) z) (fun _ => ?_)
  refine jb_iload_n (pc' := 22) dX11_thenShout_21 rfl rfl ?_
  refine jb_iconst (pc' := 23) 0 dX11_thenShout_22 (by decide) rfl ?_
  refine jb_iconst (pc' := 24) 5 dX11_thenShout_23 (by decide) rfl ?_
  refine jb_callS (pc' := 27) (As := [.int 3, .int 0, .int 5]) (a2 := 0) (b2 := 0) wv_X11_74 dX11_thenShout_24 (c_isOutLG 3 0 5 (by omega) (by omega) (by omega)) rfl ⟨by decide, Nat.le_of_eq (Nat.zero_add _), Nat.le_of_eq (Nat.zero_add _)⟩ (Nat.le_of_ble_eq_true rfl) rfl (fun r h9 hq => ?_)
  obtain ⟨rfl, rfl⟩ := hq
  show jb_J _ RX11 cX11_thenShout 4 (Option.some .int) false 9 0 0 27 [some (.ref 0), some (.int (nI n)), some (.int (nI s)), some (.int 3)] [.int 0] [jb_main imm Im Tm rowm stkm tpm, jb_sch13 I W T, s2, jb_sch53 Ix Wx Tx, s4, s5, s6, s7, s8, s9, s10, s11] _
  refine jb_if_eq (tgt := 36) (pc' := 30) dX11_thenShout_27 (by decide) rfl (fun _ => ?_) (fun z => absurd (by decide) z)
  refine jb_aload_n (pc' := 37) dX11_thenShout_36 rfl rfl ?_
  refine jb_iload_n (pc' := 38) dX11_thenShout_37 rfl rfl ?_
  refine jb_callV (pc' := 41) (ci := 11) (q := 0) (As := [.int (nI n)]) (a2 := 0) (b2 := 0) wv_X11_161 rfl dX11_thenShout_38 (c_goAhead imm Im rowm stkm tpm Tm I W T Ix Wx Tx hr0 hk0 hx h5 h6 htp hwt n hn h0) rfl rfl ⟨by decide, Nat.le_of_eq (Nat.zero_add _), Nat.le_of_eq (Nat.zero_add _)⟩ (Nat.le_of_ble_eq_true rfl) rfl (fun r h9 hq => ?_)
  obtain ⟨rfl, I9, W9, T9, stk9, hr9, rfl⟩ := hq
  obtain ⟨hk9, hs9⟩ := jv_pa (jx_Gok X) false n V (I 1) hk0 (by omega)
  obtain ⟨V9, hV9⟩ : ∃ X9, (jm_pa (jx_G X) false n (V, I 1)).1 = X9 := ⟨_, rfl⟩
  rw [hV9] at hr9 hk9 hs9
  rw [hV9] at hs2
  have q9 := hk9.2.2.1
  show jb_J _ RX11 cX11_thenShout 4 (Option.some .int) false 9 0 0 41 [some (.ref 0), some (.int (nI n)), some (.int (nI s)), some (.int 3)] [] [jb_main imm Im Tm rowm stk9 tpm, jb_sch13 I W T, s2, jb_sch53 I9 W9 T9, s4, s5, s6, s7, s8, s9, s10, s11] _
  refine jb_iload_n (pc' := 42) dX11_thenShout_41 rfl rfl ?_
  refine jb_aload_n (pc' := 43) dX11_thenShout_42 rfl rfl ?_
  refine gf_X11_49 (pc' := 46) (v := .ref 53) dX11_thenShout_43 rfl rfl rfl ?_
  refine gf_X11_113 (pc' := 49) (v := .int (I9 3)) dX11_thenShout_46 rfl rfl rfl ?_
  refine jb_top (v := .int (I9 3)) (w := .int (nI (V9 0 2))) (jb_vI hr9.2.2.1) ?_
  refine jb_icmp_lt (tgt := 58) (pc' := 52) dX11_thenShout_49 (by decide) rfl (fun _ => ?_) (fun z => absurd (nI_lt (a := s) (b := V9 0 2) (by omega) (by omega)) z)
  refine jb_aload_n (pc' := 59) dX11_thenShout_58 rfl rfl ?_
  refine gf_X11_49 (pc' := 62) (v := .ref 53) dX11_thenShout_59 rfl rfl rfl ?_
  refine gf_X11_120 (pc' := 65) (v := .ref 59) dX11_thenShout_62 rfl rfl rfl ?_
  refine jb_iload_n (pc' := 66) dX11_thenShout_65 rfl rfl ?_
  refine jb_aaload (pc' := 67) (i9 := 3) (r := 63) (Or.inl rfl) dX11_thenShout_66 rfl jb_x3 (by decide) rfl rfl ?_
  refine jb_iload_n (pc' := 68) dX11_thenShout_67 rfl rfl ?_
  refine jb_iaload (pc' := 69) (i9 := s) (f := (W9 7)) dX11_thenShout_68 rfl (jb_ix_nI (by omega)) (by omega) rfl ?_
  refine jb_top (v := .int ((W9 7) s)) (w := .int (nI (V9 7 s))) (jb_vI (hr9.2.2.2.2.2.2.2.2.1 s (by omega)).2.2.2.1) ?_
  refine jb_iret dX11_thenShout_69 rfl ?_
  exact ⟨by rw [hV9], I9, W9, T9, stk9, rfl⟩
set_option maxRecDepth 100000 in
set_option maxHeartbeats 4000000 in
theorem kx_thenShout4 {sc : Nat × (Nat → Int32)} {s2 s4 s5 s6 s7 s8 s9 s10 s11 : List va_E} {V : Nat → Nat → Nat} (imm : Int32) (Im rowm stkm tpm : Nat → Int32) (Tm : Nat → Value) (I : Nat → Int32) (W : Nat → Nat → Int32) (T : Nat → Value) (Ix : Nat → Int32) (Wx : Nat → Nat → Int32) (Tx : Nat → Value) (hr : jr_ V I W) (hk : jv_ok V) {X : Nat → Option (List Int32)} (hx : jx_c X T s11) {tp wt : Nat} (h5 : I 5 = nI tp) (h6 : I 6 = nI wt) (htp : tp ≤ 50) (hwt : wt ≤ 20) (n : Nat) (hn : n ≤ 200) (h0 : V 0 0 ≤ 9999) (s : Nat) (hs : s < 40) (hs2 : s < (jm_pa (jx_G X) false n (V, I 1)).1 0 2) : jb_C sc yX11_thenShout cX11_thenShout 4 (Option.some .int) 9 0 0 [.ref 0, .int (nI n), .int (nI s), .int 4] [jb_main imm Im Tm rowm stkm tpm, jb_sch13 I W T, s2, jb_sch53 Ix Wx Tx, s4, s5, s6, s7, s8, s9, s10, s11] (fun r h9 => r = some (.int (nI ((jm_pa (jx_G X) false n (V, I 1)).1 8 s) - 1)) ∧ ∃ I9 W9 T9 stk9, h9 = [jb_main imm Im Tm rowm stk9 tpm, jb_sch13 I W T, s2, jb_sch53 I9 W9 T9, s4, s5, s6, s7, s8, s9, s10, s11]) := by
  refine jb_CofJ (ini := false) (by decide +kernel) (fun h => by cases h) (Nat.le_of_ble_eq_true rfl) ?_
  show jb_J sc RX11 cX11_thenShout 4 (Option.some .int) false 9 0 0 0 [some (.ref 0), some (.int (nI n)), some (.int (nI s)), some (.int 4)] [] [jb_main imm Im Tm rowm stkm tpm, jb_sch13 I W T, s2, jb_sch53 Ix Wx Tx, s4, s5, s6, s7, s8, s9, s10, s11] _
  have hr0 := hr
  have hk0 := hk
  obtain ⟨r0, r2, r3, r4, a0, a1, a2, rv, rs, rd⟩ := hr
  obtain ⟨k0, k1, k2, k3, k4, k5, k6, k7, kv, ks, kd⟩ := hk
  refine jb_iload_n (pc' := 1) dX11_thenShout_0 rfl rfl ?_
  refine jb_iconst (pc' := 2) 0 dX11_thenShout_1 (by decide) rfl ?_
  refine jb_sipush (pc' := 5) 200 dX11_thenShout_2 (by decide) rfl ?_
  refine jb_callS (pc' := 8) (As := [.int (nI n), .int 0, .int 200]) (a2 := 0) (b2 := 0) wv_X11_74 dX11_thenShout_5 (c_isOutLG n 0 200 (by omega) (by omega) (by omega)) rfl ⟨by decide, Nat.le_of_eq (Nat.zero_add _), Nat.le_of_eq (Nat.zero_add _)⟩ (Nat.le_of_ble_eq_true rfl) rfl (fun r h9 hq => ?_)
  obtain ⟨rfl, rfl⟩ := hq
  show jb_J _ RX11 cX11_thenShout 4 (Option.some .int) false 9 0 0 8 [some (.ref 0), some (.int (nI n)), some (.int (nI s)), some (.int 4)] [.int 0] [jb_main imm Im Tm rowm stkm tpm, jb_sch13 I W T, s2, jb_sch53 Ix Wx Tx, s4, s5, s6, s7, s8, s9, s10, s11] _
  refine jb_if_ne (tgt := 30) (pc' := 11) dX11_thenShout_8 (by decide) rfl (fun z => absurd (by decide) z) (fun _ => ?_)
  refine jb_iload_n (pc' := 12) dX11_thenShout_11 rfl rfl ?_
  refine jb_iconst (pc' := 13) 0 dX11_thenShout_12 (by decide) rfl ?_
  refine jb_bipush (pc' := 15) 39 dX11_thenShout_13 (by decide) rfl ?_
  refine jb_callS (pc' := 18) (As := [.int (nI s), .int 0, .int 39]) (a2 := 0) (b2 := 0) wv_X11_74 dX11_thenShout_15 (c_isOutLG s 0 39 (by omega) (by omega) (by omega)) rfl ⟨by decide, Nat.le_of_eq (Nat.zero_add _), Nat.le_of_eq (Nat.zero_add _)⟩ (Nat.le_of_ble_eq_true rfl) rfl (fun r h9 hq => ?_)
  obtain ⟨rfl, rfl⟩ := hq
  show jb_J _ RX11 cX11_thenShout 4 (Option.some .int) false 9 0 0 18 [some (.ref 0), some (.int (nI n)), some (.int (nI s)), some (.int 4)] [.int 0] [jb_main imm Im Tm rowm stkm tpm, jb_sch13 I W T, s2, jb_sch53 Ix Wx Tx, s4, s5, s6, s7, s8, s9, s10, s11] _
  refine jb_if_ne (tgt := 30) (pc' := 21) dX11_thenShout_18 (by decide) rfl (fun z => absurd (by decide) z) (fun _ => ?_)
  refine jb_iload_n (pc' := 22) dX11_thenShout_21 rfl rfl ?_
  refine jb_iconst (pc' := 23) 0 dX11_thenShout_22 (by decide) rfl ?_
  refine jb_iconst (pc' := 24) 5 dX11_thenShout_23 (by decide) rfl ?_
  refine jb_callS (pc' := 27) (As := [.int 4, .int 0, .int 5]) (a2 := 0) (b2 := 0) wv_X11_74 dX11_thenShout_24 (c_isOutLG 4 0 5 (by omega) (by omega) (by omega)) rfl ⟨by decide, Nat.le_of_eq (Nat.zero_add _), Nat.le_of_eq (Nat.zero_add _)⟩ (Nat.le_of_ble_eq_true rfl) rfl (fun r h9 hq => ?_)
  obtain ⟨rfl, rfl⟩ := hq
  show jb_J _ RX11 cX11_thenShout 4 (Option.some .int) false 9 0 0 27 [some (.ref 0), some (.int (nI n)), some (.int (nI s)), some (.int 4)] [.int 0] [jb_main imm Im Tm rowm stkm tpm, jb_sch13 I W T, s2, jb_sch53 Ix Wx Tx, s4, s5, s6, s7, s8, s9, s10, s11] _
  refine jb_if_eq (tgt := 36) (pc' := 30) dX11_thenShout_27 (by decide) rfl (fun _ => ?_) (fun z => absurd (by decide) z)
  refine jb_aload_n (pc' := 37) dX11_thenShout_36 rfl rfl ?_
  refine jb_iload_n (pc' := 38) dX11_thenShout_37 rfl rfl ?_
  refine jb_callV (pc' := 41) (ci := 11) (q := 0) (As := [.int (nI n)]) (a2 := 0) (b2 := 0) wv_X11_161 rfl dX11_thenShout_38 (c_goAhead imm Im rowm stkm tpm Tm I W T Ix Wx Tx hr0 hk0 hx h5 h6 htp hwt n hn h0) rfl rfl ⟨by decide, Nat.le_of_eq (Nat.zero_add _), Nat.le_of_eq (Nat.zero_add _)⟩ (Nat.le_of_ble_eq_true rfl) rfl (fun r h9 hq => ?_)
  obtain ⟨rfl, I9, W9, T9, stk9, hr9, rfl⟩ := hq
  obtain ⟨hk9, hs9⟩ := jv_pa (jx_Gok X) false n V (I 1) hk0 (by omega)
  obtain ⟨V9, hV9⟩ : ∃ X9, (jm_pa (jx_G X) false n (V, I 1)).1 = X9 := ⟨_, rfl⟩
  rw [hV9] at hr9 hk9 hs9
  rw [hV9] at hs2
  have q9 := hk9.2.2.1
  show jb_J _ RX11 cX11_thenShout 4 (Option.some .int) false 9 0 0 41 [some (.ref 0), some (.int (nI n)), some (.int (nI s)), some (.int 4)] [] [jb_main imm Im Tm rowm stk9 tpm, jb_sch13 I W T, s2, jb_sch53 I9 W9 T9, s4, s5, s6, s7, s8, s9, s10, s11] _
  refine jb_iload_n (pc' := 42) dX11_thenShout_41 rfl rfl ?_
  refine jb_aload_n (pc' := 43) dX11_thenShout_42 rfl rfl ?_
  refine gf_X11_49 (pc' := 46) (v := .ref 53) dX11_thenShout_43 rfl rfl rfl ?_
  refine gf_X11_113 (pc' := 49) (v := .int (I9 3)) dX11_thenShout_46 rfl rfl rfl ?_
  refine jb_top (v := .int (I9 3)) (w := .int (nI (V9 0 2))) (jb_vI hr9.2.2.1) ?_
  refine jb_icmp_lt (tgt := 58) (pc' := 52) dX11_thenShout_49 (by decide) rfl (fun _ => ?_) (fun z => absurd (nI_lt (a := s) (b := V9 0 2) (by omega) (by omega)) z)
  refine jb_aload_n (pc' := 59) dX11_thenShout_58 rfl rfl ?_
  refine gf_X11_49 (pc' := 62) (v := .ref 53) dX11_thenShout_59 rfl rfl rfl ?_
  refine gf_X11_120 (pc' := 65) (v := .ref 59) dX11_thenShout_62 rfl rfl rfl ?_
  refine jb_iload_n (pc' := 66) dX11_thenShout_65 rfl rfl ?_
  refine jb_aaload (pc' := 67) (i9 := 4) (r := 64) (Or.inl rfl) dX11_thenShout_66 rfl jb_x4 (by decide) rfl rfl ?_
  refine jb_iload_n (pc' := 68) dX11_thenShout_67 rfl rfl ?_
  refine jb_iaload (pc' := 69) (i9 := s) (f := (W9 8)) dX11_thenShout_68 rfl (jb_ix_nI (by omega)) (by omega) rfl ?_
  refine jb_top (v := .int ((W9 8) s)) (w := .int (nI (V9 8 s) - 1)) (jb_vI (hr9.2.2.2.2.2.2.2.2.1 s (by omega)).2.2.2.2.1) ?_
  refine jb_iret dX11_thenShout_69 rfl ?_
  exact ⟨by rw [hV9], I9, W9, T9, stk9, rfl⟩
set_option maxRecDepth 100000 in
set_option maxHeartbeats 4000000 in
theorem kx_thenShout5 {sc : Nat × (Nat → Int32)} {s2 s4 s5 s6 s7 s8 s9 s10 s11 : List va_E} {V : Nat → Nat → Nat} (imm : Int32) (Im rowm stkm tpm : Nat → Int32) (Tm : Nat → Value) (I : Nat → Int32) (W : Nat → Nat → Int32) (T : Nat → Value) (Ix : Nat → Int32) (Wx : Nat → Nat → Int32) (Tx : Nat → Value) (hr : jr_ V I W) (hk : jv_ok V) {X : Nat → Option (List Int32)} (hx : jx_c X T s11) {tp wt : Nat} (h5 : I 5 = nI tp) (h6 : I 6 = nI wt) (htp : tp ≤ 50) (hwt : wt ≤ 20) (n : Nat) (hn : n ≤ 200) (h0 : V 0 0 ≤ 9999) (s : Nat) (hs : s < 40) (hs2 : s < (jm_pa (jx_G X) false n (V, I 1)).1 0 2) : jb_C sc yX11_thenShout cX11_thenShout 4 (Option.some .int) 9 0 0 [.ref 0, .int (nI n), .int (nI s), .int 5] [jb_main imm Im Tm rowm stkm tpm, jb_sch13 I W T, s2, jb_sch53 Ix Wx Tx, s4, s5, s6, s7, s8, s9, s10, s11] (fun r h9 => r = some (.int (nI ((jm_pa (jx_G X) false n (V, I 1)).1 9 s))) ∧ ∃ I9 W9 T9 stk9, h9 = [jb_main imm Im Tm rowm stk9 tpm, jb_sch13 I W T, s2, jb_sch53 I9 W9 T9, s4, s5, s6, s7, s8, s9, s10, s11]) := by
  refine jb_CofJ (ini := false) (by decide +kernel) (fun h => by cases h) (Nat.le_of_ble_eq_true rfl) ?_
  show jb_J sc RX11 cX11_thenShout 4 (Option.some .int) false 9 0 0 0 [some (.ref 0), some (.int (nI n)), some (.int (nI s)), some (.int 5)] [] [jb_main imm Im Tm rowm stkm tpm, jb_sch13 I W T, s2, jb_sch53 Ix Wx Tx, s4, s5, s6, s7, s8, s9, s10, s11] _
  have hr0 := hr
  have hk0 := hk
  obtain ⟨r0, r2, r3, r4, a0, a1, a2, rv, rs, rd⟩ := hr
  obtain ⟨k0, k1, k2, k3, k4, k5, k6, k7, kv, ks, kd⟩ := hk
  refine jb_iload_n (pc' := 1) dX11_thenShout_0 rfl rfl ?_
  refine jb_iconst (pc' := 2) 0 dX11_thenShout_1 (by decide) rfl ?_
  refine jb_sipush (pc' := 5) 200 dX11_thenShout_2 (by decide) rfl ?_
  refine jb_callS (pc' := 8) (As := [.int (nI n), .int 0, .int 200]) (a2 := 0) (b2 := 0) wv_X11_74 dX11_thenShout_5 (c_isOutLG n 0 200 (by omega) (by omega) (by omega)) rfl ⟨by decide, Nat.le_of_eq (Nat.zero_add _), Nat.le_of_eq (Nat.zero_add _)⟩ (Nat.le_of_ble_eq_true rfl) rfl (fun r h9 hq => ?_)
  obtain ⟨rfl, rfl⟩ := hq
  show jb_J _ RX11 cX11_thenShout 4 (Option.some .int) false 9 0 0 8 [some (.ref 0), some (.int (nI n)), some (.int (nI s)), some (.int 5)] [.int 0] [jb_main imm Im Tm rowm stkm tpm, jb_sch13 I W T, s2, jb_sch53 Ix Wx Tx, s4, s5, s6, s7, s8, s9, s10, s11] _
  refine jb_if_ne (tgt := 30) (pc' := 11) dX11_thenShout_8 (by decide) rfl (fun z => absurd (by decide) z) (fun _ => ?_)
  refine jb_iload_n (pc' := 12) dX11_thenShout_11 rfl rfl ?_
  refine jb_iconst (pc' := 13) 0 dX11_thenShout_12 (by decide) rfl ?_
  refine jb_bipush (pc' := 15) 39 dX11_thenShout_13 (by decide) rfl ?_
  refine jb_callS (pc' := 18) (As := [.int (nI s), .int 0, .int 39]) (a2 := 0) (b2 := 0) wv_X11_74 dX11_thenShout_15 (c_isOutLG s 0 39 (by omega) (by omega) (by omega)) rfl ⟨by decide, Nat.le_of_eq (Nat.zero_add _), Nat.le_of_eq (Nat.zero_add _)⟩ (Nat.le_of_ble_eq_true rfl) rfl (fun r h9 hq => ?_)
  obtain ⟨rfl, rfl⟩ := hq
  show jb_J _ RX11 cX11_thenShout 4 (Option.some .int) false 9 0 0 18 [some (.ref 0), some (.int (nI n)), some (.int (nI s)), some (.int 5)] [.int 0] [jb_main imm Im Tm rowm stkm tpm, jb_sch13 I W T, s2, jb_sch53 Ix Wx Tx, s4, s5, s6, s7, s8, s9, s10, s11] _
  refine jb_if_ne (tgt := 30) (pc' := 21) dX11_thenShout_18 (by decide) rfl (fun z => absurd (by decide) z) (fun _ => ?_)
  refine jb_iload_n (pc' := 22) dX11_thenShout_21 rfl rfl ?_
  refine jb_iconst (pc' := 23) 0 dX11_thenShout_22 (by decide) rfl ?_
  refine jb_iconst (pc' := 24) 5 dX11_thenShout_23 (by decide) rfl ?_
  refine jb_callS (pc' := 27) (As := [.int 5, .int 0, .int 5]) (a2 := 0) (b2 := 0) wv_X11_74 dX11_thenShout_24 (c_isOutLG 5 0 5 (by omega) (by omega) (by omega)) rfl ⟨by decide, Nat.le_of_eq (Nat.zero_add _), Nat.le_of_eq (Nat.zero_add _)⟩ (Nat.le_of_ble_eq_true rfl) rfl (fun r h9 hq => ?_)
  obtain ⟨rfl, rfl⟩ := hq
  show jb_J _ RX11 cX11_thenShout 4 (Option.some .int) false 9 0 0 27 [some (.ref 0), some (.int (nI n)), some (.int (nI s)), some (.int 5)] [.int 0] [jb_main imm Im Tm rowm stkm tpm, jb_sch13 I W T, s2, jb_sch53 Ix Wx Tx, s4, s5, s6, s7, s8, s9, s10, s11] _
  refine jb_if_eq (tgt := 36) (pc' := 30) dX11_thenShout_27 (by decide) rfl (fun _ => ?_) (fun z => absurd (by decide) z)
  refine jb_aload_n (pc' := 37) dX11_thenShout_36 rfl rfl ?_
  refine jb_iload_n (pc' := 38) dX11_thenShout_37 rfl rfl ?_
  refine jb_callV (pc' := 41) (ci := 11) (q := 0) (As := [.int (nI n)]) (a2 := 0) (b2 := 0) wv_X11_161 rfl dX11_thenShout_38 (c_goAhead imm Im rowm stkm tpm Tm I W T Ix Wx Tx hr0 hk0 hx h5 h6 htp hwt n hn h0) rfl rfl ⟨by decide, Nat.le_of_eq (Nat.zero_add _), Nat.le_of_eq (Nat.zero_add _)⟩ (Nat.le_of_ble_eq_true rfl) rfl (fun r h9 hq => ?_)
  obtain ⟨rfl, I9, W9, T9, stk9, hr9, rfl⟩ := hq
  obtain ⟨hk9, hs9⟩ := jv_pa (jx_Gok X) false n V (I 1) hk0 (by omega)
  obtain ⟨V9, hV9⟩ : ∃ X9, (jm_pa (jx_G X) false n (V, I 1)).1 = X9 := ⟨_, rfl⟩
  rw [hV9] at hr9 hk9 hs9
  rw [hV9] at hs2
  have q9 := hk9.2.2.1
  show jb_J _ RX11 cX11_thenShout 4 (Option.some .int) false 9 0 0 41 [some (.ref 0), some (.int (nI n)), some (.int (nI s)), some (.int 5)] [] [jb_main imm Im Tm rowm stk9 tpm, jb_sch13 I W T, s2, jb_sch53 I9 W9 T9, s4, s5, s6, s7, s8, s9, s10, s11] _
  refine jb_iload_n (pc' := 42) dX11_thenShout_41 rfl rfl ?_
  refine jb_aload_n (pc' := 43) dX11_thenShout_42 rfl rfl ?_
  refine gf_X11_49 (pc' := 46) (v := .ref 53) dX11_thenShout_43 rfl rfl rfl ?_
  refine gf_X11_113 (pc' := 49) (v := .int (I9 3)) dX11_thenShout_46 rfl rfl rfl ?_
  refine jb_top (v := .int (I9 3)) (w := .int (nI (V9 0 2))) (jb_vI hr9.2.2.1) ?_
  refine jb_icmp_lt (tgt := 58) (pc' := 52) dX11_thenShout_49 (by decide) rfl (fun _ => ?_) (fun z => absurd (nI_lt (a := s) (b := V9 0 2) (by omega) (by omega)) z)
  refine jb_aload_n (pc' := 59) dX11_thenShout_58 rfl rfl ?_
  refine gf_X11_49 (pc' := 62) (v := .ref 53) dX11_thenShout_59 rfl rfl rfl ?_
  refine gf_X11_120 (pc' := 65) (v := .ref 59) dX11_thenShout_62 rfl rfl rfl ?_
  refine jb_iload_n (pc' := 66) dX11_thenShout_65 rfl rfl ?_
  refine jb_aaload (pc' := 67) (i9 := 5) (r := 65) (Or.inl rfl) dX11_thenShout_66 rfl jb_x5 (by decide) rfl rfl ?_
  refine jb_iload_n (pc' := 68) dX11_thenShout_67 rfl rfl ?_
  refine jb_iaload (pc' := 69) (i9 := s) (f := (W9 9)) dX11_thenShout_68 rfl (jb_ix_nI (by omega)) (by omega) rfl ?_
  refine jb_top (v := .int ((W9 9) s)) (w := .int (nI (V9 9 s))) (jb_vI (hr9.2.2.2.2.2.2.2.2.1 s (by omega)).2.2.2.2.2) ?_
  refine jb_iret dX11_thenShout_69 rfl ?_
  exact ⟨by rw [hV9], I9, W9, T9, stk9, rfl⟩
set_option maxRecDepth 100000 in
set_option maxHeartbeats 4000000 in
theorem ke_thenShoutN {sc : Nat × (Nat → Int32)} {s2 s4 s5 s6 s7 s8 s10 s11 : List va_E} {V : Nat → Nat → Nat} (imm : Int32) (Im rowm stkm tpm : Nat → Int32) (Tm : Nat → Value) (I : Nat → Int32) (W : Nat → Nat → Int32) (T : Nat → Value) (Ix : Nat → Int32) (Wx : Nat → Nat → Int32) (Tx : Nat → Value) (Ia boa era : Nat → Int32) (hr : jr_ V I W) (hk : jv_ok V) {X : Nat → Option (List Int32)} (hx : jx_c X T s11) {tp wt : Nat} (h5 : I 5 = nI tp) (h6 : I 6 = nI wt) (htp : tp ≤ 50) (hwt : wt ≤ 20) (n : Nat) (hn : n ≤ 200) (h0 : V 0 0 ≤ 9999) (s : Nat) (hs : s < 40) (hs2 : ¬ s < (jm_pa (jx_G X) false n (V, I 1)).1 0 2) (w : Nat) (hw : w < 6) : jb_C sc yX11_thenShout cX11_thenShout 4 (Option.some .int) 9 0 0 [.ref 0, .int (nI n), .int (nI s), .int (nI w)] [jb_main imm Im Tm rowm stkm tpm, jb_sch13 I W T, s2, jb_sch53 Ix Wx Tx, s4, s5, s6, s7, s8, jb_act Ia boa era, s10, s11] (fun r h9 => r = some (.int (jm_er 2)) ∧ ∃ I9 W9 T9 stk9, h9 = [jb_main imm Im Tm rowm stk9 tpm, jb_sch13 I W T, s2, jb_sch53 I9 W9 T9, s4, s5, s6, s7, s8, jb_act Ia boa (jm_ef era 2), s10, s11]) := by
  refine jb_CofJ (ini := false) (by decide +kernel) (fun h => by cases h) (Nat.le_of_ble_eq_true rfl) ?_
  show jb_J sc RX11 cX11_thenShout 4 (Option.some .int) false 9 0 0 0 [some (.ref 0), some (.int (nI n)), some (.int (nI s)), some (.int (nI w))] [] [jb_main imm Im Tm rowm stkm tpm, jb_sch13 I W T, s2, jb_sch53 Ix Wx Tx, s4, s5, s6, s7, s8, jb_act Ia boa era, s10, s11] _
  have hr0 := hr
  have hk0 := hk
  obtain ⟨r0, r2, r3, r4, a0, a1, a2, rv, rs, rd⟩ := hr
  obtain ⟨k0, k1, k2, k3, k4, k5, k6, k7, kv, ks, kd⟩ := hk
  refine jb_iload_n (pc' := 1) dX11_thenShout_0 rfl rfl ?_
  refine jb_iconst (pc' := 2) 0 dX11_thenShout_1 (by decide) rfl ?_
  refine jb_sipush (pc' := 5) 200 dX11_thenShout_2 (by decide) rfl ?_
  refine jb_callS (pc' := 8) (As := [.int (nI n), .int 0, .int 200]) (a2 := 0) (b2 := 0) wv_X11_74 dX11_thenShout_5 (c_isOutLG n 0 200 (by omega) (by omega) (by omega)) rfl ⟨by decide, Nat.le_of_eq (Nat.zero_add _), Nat.le_of_eq (Nat.zero_add _)⟩ (Nat.le_of_ble_eq_true rfl) rfl (fun r h9 hq => ?_)
  obtain ⟨rfl, rfl⟩ := hq
  show jb_J _ RX11 cX11_thenShout 4 (Option.some .int) false 9 0 0 8 [some (.ref 0), some (.int (nI n)), some (.int (nI s)), some (.int (nI w))] [.int 0] [jb_main imm Im Tm rowm stkm tpm, jb_sch13 I W T, s2, jb_sch53 Ix Wx Tx, s4, s5, s6, s7, s8, jb_act Ia boa era, s10, s11] _
  refine jb_if_ne (tgt := 30) (pc' := 11) dX11_thenShout_8 (by decide) rfl (fun z => absurd (by decide) z) (fun _ => ?_)
  refine jb_iload_n (pc' := 12) dX11_thenShout_11 rfl rfl ?_
  refine jb_iconst (pc' := 13) 0 dX11_thenShout_12 (by decide) rfl ?_
  refine jb_bipush (pc' := 15) 39 dX11_thenShout_13 (by decide) rfl ?_
  refine jb_callS (pc' := 18) (As := [.int (nI s), .int 0, .int 39]) (a2 := 0) (b2 := 0) wv_X11_74 dX11_thenShout_15 (c_isOutLG s 0 39 (by omega) (by omega) (by omega)) rfl ⟨by decide, Nat.le_of_eq (Nat.zero_add _), Nat.le_of_eq (Nat.zero_add _)⟩ (Nat.le_of_ble_eq_true rfl) rfl (fun r h9 hq => ?_)
  obtain ⟨rfl, rfl⟩ := hq
  show jb_J _ RX11 cX11_thenShout 4 (Option.some .int) false 9 0 0 18 [some (.ref 0), some (.int (nI n)), some (.int (nI s)), some (.int (nI w))] [.int 0] [jb_main imm Im Tm rowm stkm tpm, jb_sch13 I W T, s2, jb_sch53 Ix Wx Tx, s4, s5, s6, s7, s8, jb_act Ia boa era, s10, s11] _
  refine jb_if_ne (tgt := 30) (pc' := 21) dX11_thenShout_18 (by decide) rfl (fun z => absurd (by decide) z) (fun _ => ?_)
  refine jb_iload_n (pc' := 22) dX11_thenShout_21 rfl rfl ?_
  refine jb_iconst (pc' := 23) 0 dX11_thenShout_22 (by decide) rfl ?_
  refine jb_iconst (pc' := 24) 5 dX11_thenShout_23 (by decide) rfl ?_
  refine jb_callS (pc' := 27) (As := [.int (nI w), .int 0, .int 5]) (a2 := 0) (b2 := 0) wv_X11_74 dX11_thenShout_24 (c_isOutLG w 0 5 (by omega) (by omega) (by omega)) rfl ⟨by decide, Nat.le_of_eq (Nat.zero_add _), Nat.le_of_eq (Nat.zero_add _)⟩ (Nat.le_of_ble_eq_true rfl) rfl (fun r h9 hq => ?_)
  obtain ⟨rfl, rfl⟩ := hq
  show jb_J _ RX11 cX11_thenShout 4 (Option.some .int) false 9 0 0 27 [some (.ref 0), some (.int (nI n)), some (.int (nI s)), some (.int (nI w))] [.int 0] [jb_main imm Im Tm rowm stkm tpm, jb_sch13 I W T, s2, jb_sch53 Ix Wx Tx, s4, s5, s6, s7, s8, jb_act Ia boa era, s10, s11] _
  refine jb_if_eq (tgt := 36) (pc' := 30) dX11_thenShout_27 (by decide) rfl (fun _ => ?_) (fun z => absurd (by decide) z)
  refine jb_aload_n (pc' := 37) dX11_thenShout_36 rfl rfl ?_
  refine jb_iload_n (pc' := 38) dX11_thenShout_37 rfl rfl ?_
  refine jb_callV (pc' := 41) (ci := 11) (q := 0) (As := [.int (nI n)]) (a2 := 0) (b2 := 0) wv_X11_161 rfl dX11_thenShout_38 (c_goAhead imm Im rowm stkm tpm Tm I W T Ix Wx Tx hr0 hk0 hx h5 h6 htp hwt n hn h0) rfl rfl ⟨by decide, Nat.le_of_eq (Nat.zero_add _), Nat.le_of_eq (Nat.zero_add _)⟩ (Nat.le_of_ble_eq_true rfl) rfl (fun r h9 hq => ?_)
  obtain ⟨rfl, I9, W9, T9, stk9, hr9, rfl⟩ := hq
  obtain ⟨hk9, hs9⟩ := jv_pa (jx_Gok X) false n V (I 1) hk0 (by omega)
  obtain ⟨V9, hV9⟩ : ∃ X9, (jm_pa (jx_G X) false n (V, I 1)).1 = X9 := ⟨_, rfl⟩
  rw [hV9] at hr9 hk9 hs9
  rw [hV9] at hs2
  have q9 := hk9.2.2.1
  show jb_J _ RX11 cX11_thenShout 4 (Option.some .int) false 9 0 0 41 [some (.ref 0), some (.int (nI n)), some (.int (nI s)), some (.int (nI w))] [] [jb_main imm Im Tm rowm stk9 tpm, jb_sch13 I W T, s2, jb_sch53 I9 W9 T9, s4, s5, s6, s7, s8, jb_act Ia boa era, s10, s11] _
  refine jb_iload_n (pc' := 42) dX11_thenShout_41 rfl rfl ?_
  refine jb_aload_n (pc' := 43) dX11_thenShout_42 rfl rfl ?_
  refine gf_X11_49 (pc' := 46) (v := .ref 53) dX11_thenShout_43 rfl rfl rfl ?_
  refine gf_X11_113 (pc' := 49) (v := .int (I9 3)) dX11_thenShout_46 rfl rfl rfl ?_
  refine jb_top (v := .int (I9 3)) (w := .int (nI (V9 0 2))) (jb_vI hr9.2.2.1) ?_
  refine jb_icmp_lt (tgt := 58) (pc' := 52) dX11_thenShout_49 (by decide) rfl (fun z => absurd z (nI_nlt (a := s) (b := V9 0 2) (by omega) (by omega))) (fun _ => ?_)
  refine jb_aload_n (pc' := 53) dX11_thenShout_52 rfl rfl ?_
  refine jb_iconst (pc' := 54) 2 dX11_thenShout_53 (by decide) rfl ?_
  refine jb_callV (pc' := 57) (ci := 11) (q := 0) (As := [.int 2]) (a2 := 0) (b2 := 0) wv_X11_78 rfl dX11_thenShout_54 (c_error imm Im rowm stk9 tpm Tm Ia boa era 2 (by decide)) rfl rfl ⟨by decide, Nat.le_of_eq (Nat.zero_add _), Nat.le_of_eq (Nat.zero_add _)⟩ (Nat.le_of_ble_eq_true rfl) rfl (fun r h9 hq => ?_)
  obtain ⟨rfl, rfl⟩ := hq
  show jb_J _ RX11 cX11_thenShout 4 (Option.some .int) false 9 0 0 57 [some (.ref 0), some (.int (nI n)), some (.int (nI s)), some (.int (nI w))] [.int (jm_er 2)] [jb_main imm Im Tm rowm stk9 tpm, jb_sch13 I W T, s2, jb_sch53 I9 W9 T9, s4, s5, s6, s7, s8, jb_act Ia boa (jm_ef era 2), s10, s11] _
  refine jb_iret dX11_thenShout_57 rfl ?_
  exact ⟨rfl, I9, W9, T9, stk9, rfl⟩
set_option maxRecDepth 100000 in
set_option maxHeartbeats 4000000 in
theorem ke_thenShout {sc : Nat × (Nat → Int32)} {s2 s3 s4 s5 s6 s7 s8 s10 s11 : List va_E} {V : Nat → Nat → Nat} (imm : Int32) (Im rowm stkm tpm : Nat → Int32) (Tm : Nat → Value) (I : Nat → Int32) (W : Nat → Nat → Int32) (T : Nat → Value) (Ia boa era : Nat → Int32) (hr : jr_ V I W) (hk : jv_ok V) (n s w : Int32) (hb : ¬ (jn_b n 0 201 ∧ jn_b s 0 40 ∧ jn_b w 0 6)) : jb_C sc yX11_thenShout cX11_thenShout 4 (Option.some .int) 1 0 0 [.ref 0, .int n, .int s, .int w] [jb_main imm Im Tm rowm stkm tpm, jb_sch13 I W T, s2, s3, s4, s5, s6, s7, s8, jb_act Ia boa era, s10, s11] (fun r h9 => r = some (.int (jm_er 1)) ∧ h9 = [jb_main imm Im Tm rowm stkm tpm, jb_sch13 I W T, s2, s3, s4, s5, s6, s7, s8, jb_act Ia boa (jm_ef era 1), s10, s11]) := by
  refine jb_CofJ (ini := false) (by decide +kernel) (fun h => by cases h) (Nat.le_of_ble_eq_true rfl) ?_
  show jb_J sc RX11 cX11_thenShout 4 (Option.some .int) false 1 0 0 0 [some (.ref 0), some (.int n), some (.int s), some (.int w)] [] [jb_main imm Im Tm rowm stkm tpm, jb_sch13 I W T, s2, s3, s4, s5, s6, s7, s8, jb_act Ia boa era, s10, s11] _
  have hr0 := hr
  have hk0 := hk
  obtain ⟨r0, r2, r3, r4, a0, a1, a2, rv, rs, rd⟩ := hr
  obtain ⟨k0, k1, k2, k3, k4, k5, k6, k7, kv, ks, kd⟩ := hk
  refine jb_iload_n (pc' := 1) dX11_thenShout_0 rfl rfl ?_
  refine jb_iconst (pc' := 2) 0 dX11_thenShout_1 (by decide) rfl ?_
  refine jb_sipush (pc' := 5) 200 dX11_thenShout_2 (by decide) rfl ?_
  refine jb_callS (pc' := 8) (As := [.int n, .int 0, .int 200]) (a2 := 0) (b2 := 0) wv_X11_74 dX11_thenShout_5 (c_isOutL n 0 200 (by omega) (by omega)) rfl ⟨by decide, Nat.le_of_eq (Nat.zero_add _), Nat.le_of_eq (Nat.zero_add _)⟩ (Nat.le_of_ble_eq_true rfl) rfl (fun r h9 hq => ?_)
  rcases hq with ⟨rfl, ⟨o1, rfl⟩ | ⟨o1, rfl⟩⟩
  · show jb_J _ RX11 cX11_thenShout 4 (Option.some .int) false 1 0 0 8 [some (.ref 0), some (.int n), some (.int s), some (.int w)] [.int 1] [jb_main imm Im Tm rowm stkm tpm, jb_sch13 I W T, s2, s3, s4, s5, s6, s7, s8, jb_act Ia boa era, s10, s11] _
    refine jb_if_ne (tgt := 30) (pc' := 11) dX11_thenShout_8 (by decide) rfl (fun _ => ?_) (fun z => absurd z (by decide))
    refine jb_aload_n (pc' := 31) dX11_thenShout_30 rfl rfl ?_
    refine jb_iconst (pc' := 32) 1 dX11_thenShout_31 (by decide) rfl ?_
    refine jb_callV (pc' := 35) (ci := 11) (q := 0) (As := [.int 1]) (a2 := 0) (b2 := 0) wv_X11_78 rfl dX11_thenShout_32 (c_error imm Im rowm stkm tpm Tm Ia boa era 1 (by decide)) rfl rfl ⟨by decide, Nat.le_of_eq (Nat.zero_add _), Nat.le_of_eq (Nat.zero_add _)⟩ (Nat.le_of_ble_eq_true rfl) rfl (fun r h9 hq => ?_)
    obtain ⟨rfl, rfl⟩ := hq
    show jb_J _ RX11 cX11_thenShout 4 (Option.some .int) false 1 0 0 35 [some (.ref 0), some (.int n), some (.int s), some (.int w)] [.int (jm_er 1)] [jb_main imm Im Tm rowm stkm tpm, jb_sch13 I W T, s2, s3, s4, s5, s6, s7, s8, jb_act Ia boa (jm_ef era 1), s10, s11] _
    refine jb_iret dX11_thenShout_35 rfl ?_
    exact ⟨rfl, rfl⟩
  · show jb_J _ RX11 cX11_thenShout 4 (Option.some .int) false 1 0 0 8 [some (.ref 0), some (.int n), some (.int s), some (.int w)] [.int 0] [jb_main imm Im Tm rowm stkm tpm, jb_sch13 I W T, s2, s3, s4, s5, s6, s7, s8, jb_act Ia boa era, s10, s11] _
    refine jb_if_ne (tgt := 30) (pc' := 11) dX11_thenShout_8 (by decide) rfl (fun z => absurd (by decide) z) (fun _ => ?_)
    refine jb_iload_n (pc' := 12) dX11_thenShout_11 rfl rfl ?_
    refine jb_iconst (pc' := 13) 0 dX11_thenShout_12 (by decide) rfl ?_
    refine jb_bipush (pc' := 15) 39 dX11_thenShout_13 (by decide) rfl ?_
    refine jb_callS (pc' := 18) (As := [.int s, .int 0, .int 39]) (a2 := 0) (b2 := 0) wv_X11_74 dX11_thenShout_15 (c_isOutL s 0 39 (by omega) (by omega)) rfl ⟨by decide, Nat.le_of_eq (Nat.zero_add _), Nat.le_of_eq (Nat.zero_add _)⟩ (Nat.le_of_ble_eq_true rfl) rfl (fun r h9 hq => ?_)
    rcases hq with ⟨rfl, ⟨o5, rfl⟩ | ⟨o5, rfl⟩⟩
    · show jb_J _ RX11 cX11_thenShout 4 (Option.some .int) false 1 0 0 18 [some (.ref 0), some (.int n), some (.int s), some (.int w)] [.int 1] [jb_main imm Im Tm rowm stkm tpm, jb_sch13 I W T, s2, s3, s4, s5, s6, s7, s8, jb_act Ia boa era, s10, s11] _
      refine jb_if_ne (tgt := 30) (pc' := 21) dX11_thenShout_18 (by decide) rfl (fun _ => ?_) (fun z => absurd z (by decide))
      refine jb_aload_n (pc' := 31) dX11_thenShout_30 rfl rfl ?_
      refine jb_iconst (pc' := 32) 1 dX11_thenShout_31 (by decide) rfl ?_
      refine jb_callV (pc' := 35) (ci := 11) (q := 0) (As := [.int 1]) (a2 := 0) (b2 := 0) wv_X11_78 rfl dX11_thenShout_32 (c_error imm Im rowm stkm tpm Tm Ia boa era 1 (by decide)) rfl rfl ⟨by decide, Nat.le_of_eq (Nat.zero_add _), Nat.le_of_eq (Nat.zero_add _)⟩ (Nat.le_of_ble_eq_true rfl) rfl (fun r h9 hq => ?_)
      obtain ⟨rfl, rfl⟩ := hq
      show jb_J _ RX11 cX11_thenShout 4 (Option.some .int) false 1 0 0 35 [some (.ref 0), some (.int n), some (.int s), some (.int w)] [.int (jm_er 1)] [jb_main imm Im Tm rowm stkm tpm, jb_sch13 I W T, s2, s3, s4, s5, s6, s7, s8, jb_act Ia boa (jm_ef era 1), s10, s11] _
      refine jb_iret dX11_thenShout_35 rfl ?_
      exact ⟨rfl, rfl⟩
    · show jb_J _ RX11 cX11_thenShout 4 (Option.some .int) false 1 0 0 18 [some (.ref 0), some (.int n), some (.int s), some (.int w)] [.int 0] [jb_main imm Im Tm rowm stkm tpm, jb_sch13 I W T, s2, s3, s4, s5, s6, s7, s8, jb_act Ia boa era, s10, s11] _
      refine jb_if_ne (tgt := 30) (pc' := 21) dX11_thenShout_18 (by decide) rfl (fun z => absurd (by decide) z) (fun _ => ?_)
      refine jb_iload_n (pc' := 22) dX11_thenShout_21 rfl rfl ?_
      refine jb_iconst (pc' := 23) 0 dX11_thenShout_22 (by decide) rfl ?_
      refine jb_iconst (pc' := 24) 5 dX11_thenShout_23 (by decide) rfl ?_
      refine jb_callS (pc' := 27) (As := [.int w, .int 0, .int 5]) (a2 := 0) (b2 := 0) wv_X11_74 dX11_thenShout_24 (c_isOutL w 0 5 (by omega) (by omega)) rfl ⟨by decide, Nat.le_of_eq (Nat.zero_add _), Nat.le_of_eq (Nat.zero_add _)⟩ (Nat.le_of_ble_eq_true rfl) rfl (fun r h9 hq => ?_)
      rcases hq with ⟨rfl, ⟨o9, rfl⟩ | ⟨o9, rfl⟩⟩
      · show jb_J _ RX11 cX11_thenShout 4 (Option.some .int) false 1 0 0 27 [some (.ref 0), some (.int n), some (.int s), some (.int w)] [.int 1] [jb_main imm Im Tm rowm stkm tpm, jb_sch13 I W T, s2, s3, s4, s5, s6, s7, s8, jb_act Ia boa era, s10, s11] _
        refine jb_if_eq (tgt := 36) (pc' := 30) dX11_thenShout_27 (by decide) rfl (fun z => absurd z (by decide)) (fun _ => ?_)
        refine jb_aload_n (pc' := 31) dX11_thenShout_30 rfl rfl ?_
        refine jb_iconst (pc' := 32) 1 dX11_thenShout_31 (by decide) rfl ?_
        refine jb_callV (pc' := 35) (ci := 11) (q := 0) (As := [.int 1]) (a2 := 0) (b2 := 0) wv_X11_78 rfl dX11_thenShout_32 (c_error imm Im rowm stkm tpm Tm Ia boa era 1 (by decide)) rfl rfl ⟨by decide, Nat.le_of_eq (Nat.zero_add _), Nat.le_of_eq (Nat.zero_add _)⟩ (Nat.le_of_ble_eq_true rfl) rfl (fun r h9 hq => ?_)
        obtain ⟨rfl, rfl⟩ := hq
        show jb_J _ RX11 cX11_thenShout 4 (Option.some .int) false 1 0 0 35 [some (.ref 0), some (.int n), some (.int s), some (.int w)] [.int (jm_er 1)] [jb_main imm Im Tm rowm stkm tpm, jb_sch13 I W T, s2, s3, s4, s5, s6, s7, s8, jb_act Ia boa (jm_ef era 1), s10, s11] _
        refine jb_iret dX11_thenShout_35 rfl ?_
        exact ⟨rfl, rfl⟩
      · show jb_J _ RX11 cX11_thenShout 4 (Option.some .int) false 1 0 0 27 [some (.ref 0), some (.int n), some (.int s), some (.int w)] [.int 0] [jb_main imm Im Tm rowm stkm tpm, jb_sch13 I W T, s2, s3, s4, s5, s6, s7, s8, jb_act Ia boa era, s10, s11] _
        exact absurd ⟨by assumption, by assumption, by assumption⟩ hb
set_option maxRecDepth 100000 in
set_option maxHeartbeats 4000000 in
theorem c_tAhead0 {sc : Nat × (Nat → Int32)} {s2 s4 s5 s6 s7 s8 s9 s10 s11 : List va_E} {V : Nat → Nat → Nat} (imm : Int32) (Im rowm stkm tpm : Nat → Int32) (Tm : Nat → Value) (I : Nat → Int32) (W : Nat → Nat → Int32) (T : Nat → Value) (Ix : Nat → Int32) (Wx : Nat → Nat → Int32) (Tx : Nat → Value) (hr : jr_ V I W) (hk : jv_ok V) {X : Nat → Option (List Int32)} (hx : jx_c X T s11) {tp wt : Nat} (h5 : I 5 = nI tp) (h6 : I 6 = nI wt) (htp : tp ≤ 50) (hwt : wt ≤ 20) (n : Nat) (hn : n ≤ 200) (h0 : V 0 0 ≤ 9999) : jb_C sc yX11_taughtAhead cX11_taughtAhead 3 (Option.some .int) 8 0 0 [.ref 0, .int (nI n), .int (-1)] [jb_main imm Im Tm rowm stkm tpm, jb_sch13 I W T, s2, jb_sch53 Ix Wx Tx, s4, s5, s6, s7, s8, s9, s10, s11] (fun r h9 => r = some (.int (nI (jm_ta (jm_pa (jx_G X) false n (V, I 1)).1))) ∧ ∃ I9 W9 T9 stk9, h9 = [jb_main imm Im Tm rowm stk9 tpm, jb_sch13 I W T, s2, jb_sch53 I9 W9 T9, s4, s5, s6, s7, s8, s9, s10, s11]) := by
  refine jb_CofJ (ini := false) (by decide +kernel) (fun h => by cases h) (Nat.le_of_ble_eq_true rfl) ?_
  show jb_J sc RX11 cX11_taughtAhead 3 (Option.some .int) false 8 0 0 0 [some (.ref 0), some (.int (nI n)), some (.int (-1))] [] [jb_main imm Im Tm rowm stkm tpm, jb_sch13 I W T, s2, jb_sch53 Ix Wx Tx, s4, s5, s6, s7, s8, s9, s10, s11] _
  have hr0 := hr
  have hk0 := hk
  obtain ⟨r0, r2, r3, r4, a0, a1, a2, rv, rs, rd⟩ := hr
  obtain ⟨k0, k1, k2, k3, k4, k5, k6, k7, kv, ks, kd⟩ := hk
  have hk7 := hk0
  refine jb_aload_n (pc' := 1) dX11_taughtAhead_0 rfl rfl ?_
  refine gf_X11_49 (pc' := 4) (v := .ref 53) dX11_taughtAhead_1 rfl rfl rfl ?_
  refine jb_aload_n (pc' := 5) dX11_taughtAhead_4 rfl rfl ?_
  refine gf_X11_42 (pc' := 8) (v := .ref 13) dX11_taughtAhead_5 rfl rfl rfl ?_
  refine jb_callV (pc' := 11) (ci := 9) (q := 53) (As := [.ref 13]) (a2 := 0) (b2 := 0) wv_X11_253 rfl dX11_taughtAhead_8 (c_take_53_13 Ix Wx Tx I W T hr0 hk0 tp wt h5 h6 htp hwt (hx.r (by decide)) (hx.r (by decide))) rfl rfl ⟨by decide, Nat.le_of_eq (Nat.zero_add _), Nat.le_of_eq (Nat.zero_add _)⟩ (Nat.le_of_ble_eq_true rfl) rfl (fun r h9 hq => ?_)
  obtain ⟨rfl, I8, W8, T8, hr8, hz8, -, -, ht0, ht1, -, -, rfl⟩ := hq
  have hx8 := hx.to ht0 ht1
  show jb_J _ RX11 cX11_taughtAhead 3 (Option.some .int) false 8 0 0 11 [some (.ref 0), some (.int (nI n)), some (.int (-1))] [] [jb_main imm Im Tm rowm stkm tpm, jb_sch13 I W T, s2, jb_sch53 I8 W8 T8, s4, s5, s6, s7, s8, s9, s10, s11] _
  have hr7 := hr8
  refine jb_iload_n (pc' := 12) dX11_taughtAhead_11 rfl rfl ?_
  refine jb_iconst (pc' := 13) 0 dX11_taughtAhead_12 (by decide) rfl ?_
  refine jb_aload_n (pc' := 14) dX11_taughtAhead_13 rfl rfl ?_
  refine gf_X11_49 (pc' := 17) (v := .ref 53) dX11_taughtAhead_14 rfl rfl rfl ?_
  refine gf_X11_85 (pc' := 20) (v := .int (I8 2)) dX11_taughtAhead_17 rfl rfl rfl ?_
  refine jb_top (v := .int (I8 2)) (w := .int (nI (V 0 1))) (jb_vI hr8.2.1) ?_
  refine jb_iconst (pc' := 21) 1 dX11_taughtAhead_20 (by decide) rfl ?_
  refine jb_isub (pc' := 22) dX11_taughtAhead_21 rfl ?_
  refine jb_callS (pc' := 25) (As := [.int (-1), .int 0, .int ((nI (V 0 1)) - 1)]) (a2 := 0) (b2 := 0) wv_X11_74 dX11_taughtAhead_22 (c_isOutN (-1) (V 0 1) (by omega)) rfl ⟨by decide, Nat.le_of_eq (Nat.zero_add _), Nat.le_of_eq (Nat.zero_add _)⟩ (Nat.le_of_ble_eq_true rfl) rfl (fun r h9 hq => ?_)
  rcases hq with ⟨rfl, ⟨oo, rfl⟩ | ⟨oo, rfl⟩⟩
  · show jb_J _ RX11 cX11_taughtAhead 3 (Option.some .int) false 8 0 0 25 [some (.ref 0), some (.int (nI n)), some (.int (-1))] [.int 1] [jb_main imm Im Tm rowm stkm tpm, jb_sch13 I W T, s2, jb_sch53 I8 W8 T8, s4, s5, s6, s7, s8, s9, s10, s11] _
    refine jb_if_ne (tgt := 52) (pc' := 28) dX11_taughtAhead_25 (by decide) rfl (fun _ => ?_) (fun z => absurd z (by decide))
    refine jb_aload_n (pc' := 53) dX11_taughtAhead_52 rfl rfl ?_
    refine gf_X11_49 (pc' := 56) (v := .ref 53) dX11_taughtAhead_53 rfl rfl rfl ?_
    refine jb_iload_n (pc' := 57) dX11_taughtAhead_56 rfl rfl ?_
    refine jb_iconst (pc' := 58) 0 dX11_taughtAhead_57 (by decide) rfl ?_
    refine jb_callV (pc' := 61) (ci := 9) (q := 53) (As := [.int (nI n), .int 0]) (a2 := 0) (b2 := 0) wv_X11_265 rfl dX11_taughtAhead_58 (c_pass0_53 imm Im rowm stkm tpm Tm I8 W8 T8 hr7 hk7 (jx_Gok X) (c_gives_53 hx8) n (by omega) (by first | omega | exact h2n)) rfl rfl ⟨by decide, Nat.le_of_eq (Nat.zero_add _), Nat.le_of_eq (Nat.zero_add _)⟩ (Nat.le_of_ble_eq_true rfl) rfl (fun r h9 hq => ?_)
    obtain ⟨rfl, I9, W9, stk9, hr9, hz9, hf9, rfl⟩ := hq
    rw [hz8] at hr9
    have hk9 := (jv_pa (jx_Gok X) false n (V) (I 1) hk7 (by first | omega | exact h2n)).1
    show jb_J _ RX11 cX11_taughtAhead 3 (Option.some .int) false 8 0 0 61 [some (.ref 0), some (.int (nI n)), some (.int (-1))] [] [jb_main imm Im Tm rowm stk9 tpm, jb_sch13 I W T, s2, jb_sch53 I9 W9 T8, s4, s5, s6, s7, s8, s9, s10, s11] _
    refine jb_aload_n (pc' := 62) dX11_taughtAhead_61 rfl rfl ?_
    refine gf_X11_49 (pc' := 65) (v := .ref 53) dX11_taughtAhead_62 rfl rfl rfl ?_
    refine jb_callV (pc' := 68) (ci := 9) (q := 53) (As := []) (a2 := 0) (b2 := 0) wv_X11_123 rfl dX11_taughtAhead_65 (c_taught_53 I9 W9 T8 hr9 hk9) rfl rfl ⟨by decide, Nat.le_of_eq (Nat.zero_add _), Nat.le_of_eq (Nat.zero_add _)⟩ (Nat.le_of_ble_eq_true rfl) rfl (fun r h9 hq => ?_)
    obtain ⟨rfl, rfl⟩ := hq
    show jb_J _ RX11 cX11_taughtAhead 3 (Option.some .int) false 8 0 0 68 [some (.ref 0), some (.int (nI n)), some (.int (-1))] [.int (nI (jm_ta (jm_pa (jx_G X) false n (V, I 1)).1))] [jb_main imm Im Tm rowm stk9 tpm, jb_sch13 I W T, s2, jb_sch53 I9 W9 T8, s4, s5, s6, s7, s8, s9, s10, s11] _
    refine jb_iret dX11_taughtAhead_68 rfl ?_
    exact ⟨rfl, I9, W9, T8, stk9, rfl⟩
  · obtain ⟨j, hj1, hj2, hj3⟩ := oo
    exact absurd hj3 (jn_m1 (by omega))
set_option maxRecDepth 100000 in
set_option maxHeartbeats 4000000 in
theorem c_tAhead1 {sc : Nat × (Nat → Int32)} {s2 s4 s5 s6 s7 s8 s9 s10 s11 : List va_E} {V : Nat → Nat → Nat} (imm : Int32) (Im rowm stkm tpm : Nat → Int32) (Tm : Nat → Value) (I : Nat → Int32) (W : Nat → Nat → Int32) (T : Nat → Value) (Ix : Nat → Int32) (Wx : Nat → Nat → Int32) (Tx : Nat → Value) (hr : jr_ V I W) (hk : jv_ok V) {X : Nat → Option (List Int32)} (hx : jx_c X T s11) {tp wt : Nat} (h5 : I 5 = nI tp) (h6 : I 6 = nI wt) (htp : tp ≤ 50) (hwt : wt ≤ 20) (n : Nat) (hn : n ≤ 200) (h0 : V 0 0 ≤ 9999) (v : Nat) (hv : v < V 0 1) : jb_C sc yX11_taughtAhead cX11_taughtAhead 3 (Option.some .int) 8 0 0 [.ref 0, .int (nI n), .int (nI v)] [jb_main imm Im Tm rowm stkm tpm, jb_sch13 I W T, s2, jb_sch53 Ix Wx Tx, s4, s5, s6, s7, s8, s9, s10, s11] (fun r h9 => r = some (.int (nI (jm_tb (jx_G X) n V (I 1) v))) ∧ ∃ I9 W9 T9 stk9, h9 = [jb_main imm Im Tm rowm stk9 tpm, jb_sch13 I W T, s2, jb_sch53 I9 W9 T9, s4, s5, s6, s7, s8, s9, s10, s11]) := by
  refine jb_CofJ (ini := false) (by decide +kernel) (fun h => by cases h) (Nat.le_of_ble_eq_true rfl) ?_
  show jb_J sc RX11 cX11_taughtAhead 3 (Option.some .int) false 8 0 0 0 [some (.ref 0), some (.int (nI n)), some (.int (nI v))] [] [jb_main imm Im Tm rowm stkm tpm, jb_sch13 I W T, s2, jb_sch53 Ix Wx Tx, s4, s5, s6, s7, s8, s9, s10, s11] _
  have hr0 := hr
  have hk0 := hk
  obtain ⟨r0, r2, r3, r4, a0, a1, a2, rv, rs, rd⟩ := hr
  obtain ⟨k0, k1, k2, k3, k4, k5, k6, k7, kv, ks, kd⟩ := hk
  have q0 := kv v hv
  have hk7 : jv_ok (jv_up V 3 v (1 - V 3 v)) := jv_go hk0 (by omega)
  have h2n : (jv_up V 3 v (1 - V 3 v)) 0 0 + n ≤ 20000 := (show V 0 0 + n ≤ 20000 by omega)
  refine jb_aload_n (pc' := 1) dX11_taughtAhead_0 rfl rfl ?_
  refine gf_X11_49 (pc' := 4) (v := .ref 53) dX11_taughtAhead_1 rfl rfl rfl ?_
  refine jb_aload_n (pc' := 5) dX11_taughtAhead_4 rfl rfl ?_
  refine gf_X11_42 (pc' := 8) (v := .ref 13) dX11_taughtAhead_5 rfl rfl rfl ?_
  refine jb_callV (pc' := 11) (ci := 9) (q := 53) (As := [.ref 13]) (a2 := 0) (b2 := 0) wv_X11_253 rfl dX11_taughtAhead_8 (c_take_53_13 Ix Wx Tx I W T hr0 hk0 tp wt h5 h6 htp hwt (hx.r (by decide)) (hx.r (by decide))) rfl rfl ⟨by decide, Nat.le_of_eq (Nat.zero_add _), Nat.le_of_eq (Nat.zero_add _)⟩ (Nat.le_of_ble_eq_true rfl) rfl (fun r h9 hq => ?_)
  obtain ⟨rfl, I8, W8, T8, hr8, hz8, -, -, ht0, ht1, -, -, rfl⟩ := hq
  have hx8 := hx.to ht0 ht1
  show jb_J _ RX11 cX11_taughtAhead 3 (Option.some .int) false 8 0 0 11 [some (.ref 0), some (.int (nI n)), some (.int (nI v))] [] [jb_main imm Im Tm rowm stkm tpm, jb_sch13 I W T, s2, jb_sch53 I8 W8 T8, s4, s5, s6, s7, s8, s9, s10, s11] _
  refine jb_iload_n (pc' := 12) dX11_taughtAhead_11 rfl rfl ?_
  refine jb_iconst (pc' := 13) 0 dX11_taughtAhead_12 (by decide) rfl ?_
  refine jb_aload_n (pc' := 14) dX11_taughtAhead_13 rfl rfl ?_
  refine gf_X11_49 (pc' := 17) (v := .ref 53) dX11_taughtAhead_14 rfl rfl rfl ?_
  refine gf_X11_85 (pc' := 20) (v := .int (I8 2)) dX11_taughtAhead_17 rfl rfl rfl ?_
  refine jb_top (v := .int (I8 2)) (w := .int (nI (V 0 1))) (jb_vI hr8.2.1) ?_
  refine jb_iconst (pc' := 21) 1 dX11_taughtAhead_20 (by decide) rfl ?_
  refine jb_isub (pc' := 22) dX11_taughtAhead_21 rfl ?_
  refine jb_callS (pc' := 25) (As := [.int (nI v), .int 0, .int ((nI (V 0 1)) - 1)]) (a2 := 0) (b2 := 0) wv_X11_74 dX11_taughtAhead_22 (c_isOutNG v (V 0 1) (by omega) (by omega)) rfl ⟨by decide, Nat.le_of_eq (Nat.zero_add _), Nat.le_of_eq (Nat.zero_add _)⟩ (Nat.le_of_ble_eq_true rfl) rfl (fun r h9 hq => ?_)
  obtain ⟨rfl, rfl⟩ := hq
  show jb_J _ RX11 cX11_taughtAhead 3 (Option.some .int) false 8 0 0 25 [some (.ref 0), some (.int (nI n)), some (.int (nI v))] [.int 0] [jb_main imm Im Tm rowm stkm tpm, jb_sch13 I W T, s2, jb_sch53 I8 W8 T8, s4, s5, s6, s7, s8, s9, s10, s11] _
  refine jb_if_ne (tgt := 52) (pc' := 28) dX11_taughtAhead_25 (by decide) rfl (fun z => absurd (by decide) z) (fun _ => ?_)
  refine jb_aload_n (pc' := 29) dX11_taughtAhead_28 rfl rfl ?_
  refine gf_X11_49 (pc' := 32) (v := .ref 53) dX11_taughtAhead_29 rfl rfl rfl ?_
  refine gf_X11_99 (pc' := 35) (v := .ref 55) dX11_taughtAhead_32 rfl rfl rfl ?_
  refine jb_iconst (pc' := 36) 2 dX11_taughtAhead_35 (by decide) rfl ?_
  refine jb_aaload (pc' := 37) (i9 := 2) (r := 58) (Or.inl rfl) dX11_taughtAhead_36 rfl jb_x2 (by decide) rfl rfl ?_
  refine jb_iload_n (pc' := 38) dX11_taughtAhead_37 rfl rfl ?_
  refine jb_iconst (pc' := 39) 1 dX11_taughtAhead_38 (by decide) rfl ?_
  refine jb_aload_n (pc' := 40) dX11_taughtAhead_39 rfl rfl ?_
  refine gf_X11_49 (pc' := 43) (v := .ref 53) dX11_taughtAhead_40 rfl rfl rfl ?_
  refine gf_X11_99 (pc' := 46) (v := .ref 55) dX11_taughtAhead_43 rfl rfl rfl ?_
  refine jb_iconst (pc' := 47) 2 dX11_taughtAhead_46 (by decide) rfl ?_
  refine jb_aaload (pc' := 48) (i9 := 2) (r := 58) (Or.inl rfl) dX11_taughtAhead_47 rfl jb_x2 (by decide) rfl rfl ?_
  refine jb_iload_n (pc' := 49) dX11_taughtAhead_48 rfl rfl ?_
  refine jb_iaload (pc' := 50) (i9 := v) (f := (W8 3)) dX11_taughtAhead_49 rfl (jb_ix_nI (by omega)) (by omega) rfl ?_
  refine jb_top (v := .int ((W8 3) v)) (w := .int (nI (V 3 v))) (jb_vI (hr8.2.2.2.2.2.2.2.1 v (by omega)).2.2) ?_
  refine jb_isub (pc' := 51) dX11_taughtAhead_50 rfl ?_
  refine jb_top (v := .int (1 - (nI (V 3 v)))) (w := .int (nI (1 - (V 3 v)))) (jb_vI (pk_sub (a := 1) (by omega))) ?_
  refine jb_iastore (pc' := 52) (i9 := v) (f := (W8 3)) (h' := [jb_main imm Im Tm rowm stkm tpm, jb_sch13 I W T, s2, jb_sch53 I8 (va_up W8 3 (upd (W8 3) v (nI (1 - (V 3 v))))) T8, s4, s5, s6, s7, s8, s9, s10, s11]) dX11_taughtAhead_51 rfl (jb_ix_nI (by omega)) (by omega) rfl rfl ?_
  have hr7 : jr_ (jv_up V 3 v (1 - V 3 v)) I8 (va_up W8 3 (upd (W8 3) v (nI (1 - V 3 v)))) := jr_go hr8 v (1 - V 3 v)
  refine jb_aload_n (pc' := 53) dX11_taughtAhead_52 rfl rfl ?_
  refine gf_X11_49 (pc' := 56) (v := .ref 53) dX11_taughtAhead_53 rfl rfl rfl ?_
  refine jb_iload_n (pc' := 57) dX11_taughtAhead_56 rfl rfl ?_
  refine jb_iconst (pc' := 58) 0 dX11_taughtAhead_57 (by decide) rfl ?_
  refine jb_callV (pc' := 61) (ci := 9) (q := 53) (As := [.int (nI n), .int 0]) (a2 := 0) (b2 := 0) wv_X11_265 rfl dX11_taughtAhead_58 (c_pass0_53 imm Im rowm stkm tpm Tm I8 (va_up W8 3 (upd (W8 3) v (nI (1 - (V 3 v))))) T8 hr7 hk7 (jx_Gok X) (c_gives_53 hx8) n (by omega) (by first | omega | exact h2n)) rfl rfl ⟨by decide, Nat.le_of_eq (Nat.zero_add _), Nat.le_of_eq (Nat.zero_add _)⟩ (Nat.le_of_ble_eq_true rfl) rfl (fun r h9 hq => ?_)
  obtain ⟨rfl, I9, W9, stk9, hr9, hz9, hf9, rfl⟩ := hq
  rw [hz8] at hr9
  have hk9 := (jv_pa (jx_Gok X) false n (jv_up V 3 v (1 - V 3 v)) (I 1) hk7 (by first | omega | exact h2n)).1
  show jb_J _ RX11 cX11_taughtAhead 3 (Option.some .int) false 8 0 0 61 [some (.ref 0), some (.int (nI n)), some (.int (nI v))] [] [jb_main imm Im Tm rowm stk9 tpm, jb_sch13 I W T, s2, jb_sch53 I9 W9 T8, s4, s5, s6, s7, s8, s9, s10, s11] _
  refine jb_aload_n (pc' := 62) dX11_taughtAhead_61 rfl rfl ?_
  refine gf_X11_49 (pc' := 65) (v := .ref 53) dX11_taughtAhead_62 rfl rfl rfl ?_
  refine jb_callV (pc' := 68) (ci := 9) (q := 53) (As := []) (a2 := 0) (b2 := 0) wv_X11_123 rfl dX11_taughtAhead_65 (c_taught_53 I9 W9 T8 hr9 hk9) rfl rfl ⟨by decide, Nat.le_of_eq (Nat.zero_add _), Nat.le_of_eq (Nat.zero_add _)⟩ (Nat.le_of_ble_eq_true rfl) rfl (fun r h9 hq => ?_)
  obtain ⟨rfl, rfl⟩ := hq
  show jb_J _ RX11 cX11_taughtAhead 3 (Option.some .int) false 8 0 0 68 [some (.ref 0), some (.int (nI n)), some (.int (nI v))] [.int (nI (jm_tb (jx_G X) n V (I 1) v))] [jb_main imm Im Tm rowm stk9 tpm, jb_sch13 I W T, s2, jb_sch53 I9 W9 T8, s4, s5, s6, s7, s8, s9, s10, s11] _
  refine jb_iret dX11_taughtAhead_68 rfl ?_
  exact ⟨rfl, I9, W9, T8, stk9, rfl⟩
set_option maxRecDepth 100000 in
set_option maxHeartbeats 4000000 in
theorem l_over {sc : Nat × (Nat → Int32)} {s2 s4 s5 s6 s7 s8 s10 s11 : List va_E} {V : Nat → Nat → Nat} (imm : Int32) (Im rowm tpm : Nat → Int32) (Tm : Nat → Value) (I : Nat → Int32) (W : Nat → Nat → Int32) (T : Nat → Value) (Ia boa era : Nat → Int32) (hr : jr_ V I W) (hk : jv_ok V) {X : Nat → Option (List Int32)} (hx : jx_c X T s11) {tp wt : Nat} (h5 : I 5 = nI tp) (h6 : I 6 = nI wt) (htp : tp ≤ 50) (hwt : wt ≤ 20) (n : Nat) (hn : n ≤ 200) (h0 : V 0 0 ≤ 9999) : ∀ (k v most : Nat) (b : Option Nat) (stkm Ix : Nat → Int32) (Wx : Nat → Nat → Int32) (Tx : Nat → Value) (x5 : Option Value), v + k = V 0 1 → most ≤ 40 → (∀ q, b = some q → q < V 0 1) → jb_J sc RX11 cX11_over 6 (Option.some .int) false 9 0 0 29 [some (.ref 0), some (.int (nI n)), some (.int (nI most)), some (.int (jq_v b)), some (.int (nI v)), x5] [] [jb_main imm Im Tm rowm stkm tpm, jb_sch13 I W T, s2, jb_sch53 Ix Wx Tx, s4, s5, s6, s7, s8, jb_act Ia boa era, s10, s11] (fun r h9 => ∃ I9 W9 T9 stk9 er9, ((jm_ov (jm_tb (jx_G X) n V (I 1)) k v most b = none ∧ r = some (.int (jm_er 2)) ∧ er9 = jm_ef era 2) ∨ (∃ q, jm_ov (jm_tb (jx_G X) n V (I 1)) k v most b = some q ∧ r = some (.int (nI q)) ∧ er9 = era)) ∧ h9 = [jb_main imm Im Tm rowm stk9 tpm, jb_sch13 I W T, s2, jb_sch53 I9 W9 T9, s4, s5, s6, s7, s8, jb_act Ia boa er9, s10, s11]) := by
  have hr0 := hr
  have hk0 := hk
  obtain ⟨r0, r2, r3, r4, a0, a1, a2, rv, rs, rd⟩ := hr
  obtain ⟨k0, k1, k2, k3, k4, k5, k6, k7, kv, ks, kd⟩ := hk
  intro k
  induction k with
  | zero =>
    intro v most b stkm Ix Wx Tx x5 hk9 hm hb9
    cases b with
    | none =>
      show jb_J _ RX11 cX11_over 6 (Option.some .int) false 9 0 0 29 [some (.ref 0), some (.int (nI n)), some (.int (nI most)), some (.int (-1)), some (.int (nI v)), x5] [] [jb_main imm Im Tm rowm stkm tpm, jb_sch13 I W T, s2, jb_sch53 Ix Wx Tx, s4, s5, s6, s7, s8, jb_act Ia boa era, s10, s11] _
      refine jb_iload (pc' := 31) dX11_over_29 rfl rfl ?_
      refine jb_aload_n (pc' := 32) dX11_over_31 rfl rfl ?_
      refine gf_X11_42 (pc' := 35) (v := .ref 13) dX11_over_32 rfl rfl rfl ?_
      refine gf_X11_85 (pc' := 38) (v := .int (I 2)) dX11_over_35 rfl rfl rfl ?_
      refine jb_top (v := .int (I 2)) (w := .int (nI (V 0 1))) (jb_vI r2) ?_
      refine jb_icmp_ge (tgt := 68) (pc' := 41) dX11_over_38 (by decide) rfl (fun _ => ?_) (fun z => absurd (nI_le (a := V 0 1) (b := v) (by omega) (by omega)) z)
      refine jb_iload_n (pc' := 69) dX11_over_68 rfl rfl ?_
      refine jb_if_ge (tgt := 80) (pc' := 72) dX11_over_69 (by decide) rfl (fun z => absurd z (by decide)) (fun _ => ?_)
      refine jb_aload_n (pc' := 73) dX11_over_72 rfl rfl ?_
      refine jb_iconst (pc' := 74) 2 dX11_over_73 (by decide) rfl ?_
      refine jb_callV (pc' := 77) (ci := 11) (q := 0) (As := [.int 2]) (a2 := 0) (b2 := 0) wv_X11_78 rfl dX11_over_74 (c_error imm Im rowm stkm tpm Tm Ia boa era 2 (by decide)) rfl rfl ⟨by decide, Nat.le_of_eq (Nat.zero_add _), Nat.le_of_eq (Nat.zero_add _)⟩ (Nat.le_of_ble_eq_true rfl) rfl (fun r h9 hq => ?_)
      obtain ⟨rfl, rfl⟩ := hq
      show jb_J _ RX11 cX11_over 6 (Option.some .int) false 9 0 0 77 [some (.ref 0), some (.int (nI n)), some (.int (nI most)), some (.int (-1)), some (.int (nI v)), x5] [.int (jm_er 2)] [jb_main imm Im Tm rowm stkm tpm, jb_sch13 I W T, s2, jb_sch53 Ix Wx Tx, s4, s5, s6, s7, s8, jb_act Ia boa (jm_ef era 2), s10, s11] _
      refine jb_goto (pc' := 81) dX11_over_77 (by decide) ?_
      refine jb_iret dX11_over_81 rfl ?_
      exact ⟨Ix, Wx, Tx, stkm, _, Or.inl ⟨rfl, rfl, rfl⟩, rfl⟩
    | some q =>
      have hq9 := hb9 q rfl
      show jb_J _ RX11 cX11_over 6 (Option.some .int) false 9 0 0 29 [some (.ref 0), some (.int (nI n)), some (.int (nI most)), some (.int (nI q)), some (.int (nI v)), x5] [] [jb_main imm Im Tm rowm stkm tpm, jb_sch13 I W T, s2, jb_sch53 Ix Wx Tx, s4, s5, s6, s7, s8, jb_act Ia boa era, s10, s11] _
      refine jb_iload (pc' := 31) dX11_over_29 rfl rfl ?_
      refine jb_aload_n (pc' := 32) dX11_over_31 rfl rfl ?_
      refine gf_X11_42 (pc' := 35) (v := .ref 13) dX11_over_32 rfl rfl rfl ?_
      refine gf_X11_85 (pc' := 38) (v := .int (I 2)) dX11_over_35 rfl rfl rfl ?_
      refine jb_top (v := .int (I 2)) (w := .int (nI (V 0 1))) (jb_vI r2) ?_
      refine jb_icmp_ge (tgt := 68) (pc' := 41) dX11_over_38 (by decide) rfl (fun _ => ?_) (fun z => absurd (nI_le (a := V 0 1) (b := v) (by omega) (by omega)) z)
      refine jb_iload_n (pc' := 69) dX11_over_68 rfl rfl ?_
      refine jb_if_ge (tgt := 80) (pc' := 72) dX11_over_69 (by decide) rfl (fun _ => ?_) (fun z => absurd (nI_pos' (n := q) (by omega)) z)
      refine jb_iload_n (pc' := 81) dX11_over_80 rfl rfl ?_
      refine jb_iret dX11_over_81 rfl ?_
      exact ⟨Ix, Wx, Tx, stkm, _, Or.inr ⟨q, rfl, rfl, rfl⟩, rfl⟩
  | succ k ih =>
    intro v most b stkm Ix Wx Tx x5 hk9 hm hb9
    have q0 := kv v (by omega)
    have t40 := jm_tb_le (n := n) (jx_Gok X) hk0 (by omega) (I 1) v q0.2.2
    show jb_J _ RX11 cX11_over 6 (Option.some .int) false 9 0 0 29 [some (.ref 0), some (.int (nI n)), some (.int (nI most)), some (.int (jq_v b)), some (.int (nI v)), x5] [] [jb_main imm Im Tm rowm stkm tpm, jb_sch13 I W T, s2, jb_sch53 Ix Wx Tx, s4, s5, s6, s7, s8, jb_act Ia boa era, s10, s11] _
    refine jb_iload (pc' := 31) dX11_over_29 rfl rfl ?_
    refine jb_aload_n (pc' := 32) dX11_over_31 rfl rfl ?_
    refine gf_X11_42 (pc' := 35) (v := .ref 13) dX11_over_32 rfl rfl rfl ?_
    refine gf_X11_85 (pc' := 38) (v := .int (I 2)) dX11_over_35 rfl rfl rfl ?_
    refine jb_top (v := .int (I 2)) (w := .int (nI (V 0 1))) (jb_vI r2) ?_
    refine jb_icmp_ge (tgt := 68) (pc' := 41) dX11_over_38 (by decide) rfl (fun z => absurd z (nI_ge (a := v) (b := V 0 1) (by omega) (by omega))) (fun _ => ?_)
    refine jb_aload_n (pc' := 42) dX11_over_41 rfl rfl ?_
    refine jb_iload_n (pc' := 43) dX11_over_42 rfl rfl ?_
    refine jb_iload (pc' := 45) dX11_over_43 rfl rfl ?_
    refine jb_callV (pc' := 48) (ci := 11) (q := 0) (As := [.int (nI n), .int (nI v)]) (a2 := 0) (b2 := 0) wv_X11_199 rfl dX11_over_45 (c_tAhead1 imm Im rowm stkm tpm Tm I W T Ix Wx Tx hr0 hk0 hx h5 h6 htp hwt n hn h0 v (by omega)) rfl rfl ⟨by decide, Nat.le_of_eq (Nat.zero_add _), Nat.le_of_eq (Nat.zero_add _)⟩ (Nat.le_of_ble_eq_true rfl) rfl (fun r h9 hq => ?_)
    obtain ⟨rfl, I9, W9, T9, stk9, rfl⟩ := hq
    show jb_J _ RX11 cX11_over 6 (Option.some .int) false 9 0 0 48 [some (.ref 0), some (.int (nI n)), some (.int (nI most)), some (.int (jq_v b)), some (.int (nI v)), x5] [.int (nI ((jm_tb (jx_G X) n V (I 1)) v))] [jb_main imm Im Tm rowm stk9 tpm, jb_sch13 I W T, s2, jb_sch53 I9 W9 T9, s4, s5, s6, s7, s8, jb_act Ia boa era, s10, s11] _
    refine jb_istore_ (pc' := 50) dX11_over_48 (by decide) (jb_at5 rfl) rfl ?_
    refine jb_iload (pc' := 52) dX11_over_50 rfl rfl ?_
    refine jb_iload_n (pc' := 53) dX11_over_52 rfl rfl ?_
    refine jb_icmp_le (tgt := 62) (pc' := 56) dX11_over_53 (by decide) rfl (fun c2 => ?_) (fun c2 => ?_)
    · have c2 : ((jm_tb (jx_G X) n V (I 1)) v) ≤ most := (nI_leI (a := ((jm_tb (jx_G X) n V (I 1)) v)) (b := most) (by omega) (by omega)).mp c2
      refine jb_iinc_ (pc' := 65) (nI (v + 1)) dX11_over_62 (by decide) rfl (jb_inc v 1) (jb_at4 rfl) rfl ?_
      refine jb_goto (pc' := 29) dX11_over_65 (by decide) ?_
      have e9 : jm_ov (jm_tb (jx_G X) n V (I 1)) (k + 1) v most b = jm_ov (jm_tb (jx_G X) n V (I 1)) k (v + 1) most b := if_neg (by omega)
      rw [e9]
      exact ih (v + 1) most b stk9 I9 W9 T9 _ (by omega) (by omega) hb9
    · have c2 : ¬ ((jm_tb (jx_G X) n V (I 1)) v) ≤ most := fun z9 => c2 ((nI_leI (a := ((jm_tb (jx_G X) n V (I 1)) v)) (b := most) (by omega) (by omega)).mpr z9)
      refine jb_iload (pc' := 58) dX11_over_56 rfl rfl ?_
      refine jb_istore_n_ (pc' := 59) dX11_over_58 (by decide) (jb_at2 rfl) rfl ?_
      refine jb_iload (pc' := 61) dX11_over_59 rfl rfl ?_
      refine jb_istore_n_ (pc' := 62) dX11_over_61 (by decide) (jb_at3 rfl) rfl ?_
      refine jb_iinc_ (pc' := 65) (nI (v + 1)) dX11_over_62 (by decide) rfl (jb_inc v 1) (jb_at4 rfl) rfl ?_
      refine jb_goto (pc' := 29) dX11_over_65 (by decide) ?_
      have e9 : jm_ov (jm_tb (jx_G X) n V (I 1)) (k + 1) v most b = jm_ov (jm_tb (jx_G X) n V (I 1)) k (v + 1) ((jm_tb (jx_G X) n V (I 1)) v) (some v) := if_pos (by omega)
      rw [e9]
      exact ih (v + 1) ((jm_tb (jx_G X) n V (I 1)) v) (some v) stk9 I9 W9 T9 _ (by omega) (by omega) (fun q hq => by cases hq; omega)
set_option maxRecDepth 100000 in
set_option maxHeartbeats 4000000 in
theorem kx_over {sc : Nat × (Nat → Int32)} {s2 s4 s5 s6 s7 s8 s10 s11 : List va_E} {V : Nat → Nat → Nat} (imm : Int32) (Im rowm stkm tpm : Nat → Int32) (Tm : Nat → Value) (I : Nat → Int32) (W : Nat → Nat → Int32) (T : Nat → Value) (Ix : Nat → Int32) (Wx : Nat → Nat → Int32) (Tx : Nat → Value) (Ia boa era : Nat → Int32) (hr : jr_ V I W) (hk : jv_ok V) {X : Nat → Option (List Int32)} (hx : jx_c X T s11) {tp wt : Nat} (h5 : I 5 = nI tp) (h6 : I 6 = nI wt) (htp : tp ≤ 50) (hwt : wt ≤ 20) (n : Nat) (hn : n ≤ 200) (h0 : V 0 0 ≤ 9999) : jb_C sc yX11_over cX11_over 6 (Option.some .int) 9 0 0 [.ref 0, .int (nI n)] [jb_main imm Im Tm rowm stkm tpm, jb_sch13 I W T, s2, jb_sch53 Ix Wx Tx, s4, s5, s6, s7, s8, jb_act Ia boa era, s10, s11] (fun r h9 => ∃ I9 W9 T9 stk9 er9, ((jm_ov (jm_tb (jx_G X) n V (I 1)) (V 0 1) 0 (jm_ta (jm_pa (jx_G X) false n (V, I 1)).1) none = none ∧ r = some (.int (jm_er 2)) ∧ er9 = jm_ef era 2) ∨ (∃ q, jm_ov (jm_tb (jx_G X) n V (I 1)) (V 0 1) 0 (jm_ta (jm_pa (jx_G X) false n (V, I 1)).1) none = some q ∧ r = some (.int (nI q)) ∧ er9 = era)) ∧ h9 = [jb_main imm Im Tm rowm stk9 tpm, jb_sch13 I W T, s2, jb_sch53 I9 W9 T9, s4, s5, s6, s7, s8, jb_act Ia boa er9, s10, s11]) := by
  refine jb_CofJ (ini := false) (by decide +kernel) (fun h => by cases h) (Nat.le_of_ble_eq_true rfl) ?_
  show jb_J sc RX11 cX11_over 6 (Option.some .int) false 9 0 0 0 [some (.ref 0), some (.int (nI n)), none, none, none, none] [] [jb_main imm Im Tm rowm stkm tpm, jb_sch13 I W T, s2, jb_sch53 Ix Wx Tx, s4, s5, s6, s7, s8, jb_act Ia boa era, s10, s11] _
  have hr0 := hr
  have hk0 := hk
  obtain ⟨r0, r2, r3, r4, a0, a1, a2, rv, rs, rd⟩ := hr
  obtain ⟨k0, k1, k2, k3, k4, k5, k6, k7, kv, ks, kd⟩ := hk
  refine jb_iload_n (pc' := 1) dX11_over_0 rfl rfl ?_
  refine jb_iconst (pc' := 2) 0 dX11_over_1 (by decide) rfl ?_
  refine jb_sipush (pc' := 5) 200 dX11_over_2 (by decide) rfl ?_
  refine jb_callS (pc' := 8) (As := [.int (nI n), .int 0, .int 200]) (a2 := 0) (b2 := 0) wv_X11_74 dX11_over_5 (c_isOutLG n 0 200 (by omega) (by omega) (by omega)) rfl ⟨by decide, Nat.le_of_eq (Nat.zero_add _), Nat.le_of_eq (Nat.zero_add _)⟩ (Nat.le_of_ble_eq_true rfl) rfl (fun r h9 hq => ?_)
  obtain ⟨rfl, rfl⟩ := hq
  show jb_J _ RX11 cX11_over 6 (Option.some .int) false 9 0 0 8 [some (.ref 0), some (.int (nI n)), none, none, none, none] [.int 0] [jb_main imm Im Tm rowm stkm tpm, jb_sch13 I W T, s2, jb_sch53 Ix Wx Tx, s4, s5, s6, s7, s8, jb_act Ia boa era, s10, s11] _
  refine jb_if_eq (tgt := 17) (pc' := 11) dX11_over_8 (by decide) rfl (fun _ => ?_) (fun z => absurd (by decide) z)
  refine jb_aload_n (pc' := 18) dX11_over_17 rfl rfl ?_
  refine jb_iload_n (pc' := 19) dX11_over_18 rfl rfl ?_
  refine jb_iconst (pc' := 20) (-1) dX11_over_19 (by decide) rfl ?_
  refine jb_callV (pc' := 23) (ci := 11) (q := 0) (As := [.int (nI n), .int (-1)]) (a2 := 0) (b2 := 0) wv_X11_199 rfl dX11_over_20 (c_tAhead0 imm Im rowm stkm tpm Tm I W T Ix Wx Tx hr0 hk0 hx h5 h6 htp hwt n hn h0) rfl rfl ⟨by decide, Nat.le_of_eq (Nat.zero_add _), Nat.le_of_eq (Nat.zero_add _)⟩ (Nat.le_of_ble_eq_true rfl) rfl (fun r h9 hq => ?_)
  obtain ⟨rfl, I9, W9, T9, stk9, rfl⟩ := hq
  show jb_J _ RX11 cX11_over 6 (Option.some .int) false 9 0 0 23 [some (.ref 0), some (.int (nI n)), none, none, none, none] [.int (nI (jm_ta (jm_pa (jx_G X) false n (V, I 1)).1))] [jb_main imm Im Tm rowm stk9 tpm, jb_sch13 I W T, s2, jb_sch53 I9 W9 T9, s4, s5, s6, s7, s8, jb_act Ia boa era, s10, s11] _
  refine jb_istore_n_ (pc' := 24) dX11_over_23 (by decide) (jb_at2 rfl) rfl ?_
  refine jb_iconst (pc' := 25) (-1) dX11_over_24 (by decide) rfl ?_
  refine jb_istore_n_ (pc' := 26) dX11_over_25 (by decide) (jb_at3 rfl) rfl ?_
  refine jb_iconst (pc' := 27) 0 dX11_over_26 (by decide) rfl ?_
  refine jb_istore_ (pc' := 29) dX11_over_27 (by decide) (jb_at4 rfl) rfl ?_
  have t40 := jm_ta_le (jv_pa (jx_Gok X) false n V (I 1) hk0 (by omega)).1
  exact l_over imm Im rowm tpm Tm I W T Ia boa era hr0 hk0 hx h5 h6 htp hwt n hn h0 (V 0 1) 0 (jm_ta (jm_pa (jx_G X) false n (V, I 1)).1) none stk9 I9 W9 T9 _ (by omega) t40 (fun q hq => by cases hq)
set_option maxRecDepth 100000 in
set_option maxHeartbeats 4000000 in
theorem ke_over {sc : Nat × (Nat → Int32)} {s2 s3 s4 s5 s6 s7 s8 s10 s11 : List va_E} {V : Nat → Nat → Nat} (imm : Int32) (Im rowm stkm tpm : Nat → Int32) (Tm : Nat → Value) (I : Nat → Int32) (W : Nat → Nat → Int32) (T : Nat → Value) (Ia boa era : Nat → Int32) (hr : jr_ V I W) (hk : jv_ok V) (n : Int32) (hb : ¬ jn_b n 0 201) : jb_C sc yX11_over cX11_over 6 (Option.some .int) 1 0 0 [.ref 0, .int n] [jb_main imm Im Tm rowm stkm tpm, jb_sch13 I W T, s2, s3, s4, s5, s6, s7, s8, jb_act Ia boa era, s10, s11] (fun r h9 => r = some (.int (jm_er 1)) ∧ h9 = [jb_main imm Im Tm rowm stkm tpm, jb_sch13 I W T, s2, s3, s4, s5, s6, s7, s8, jb_act Ia boa (jm_ef era 1), s10, s11]) := by
  refine jb_CofJ (ini := false) (by decide +kernel) (fun h => by cases h) (Nat.le_of_ble_eq_true rfl) ?_
  show jb_J sc RX11 cX11_over 6 (Option.some .int) false 1 0 0 0 [some (.ref 0), some (.int n), none, none, none, none] [] [jb_main imm Im Tm rowm stkm tpm, jb_sch13 I W T, s2, s3, s4, s5, s6, s7, s8, jb_act Ia boa era, s10, s11] _
  have hr0 := hr
  have hk0 := hk
  obtain ⟨r0, r2, r3, r4, a0, a1, a2, rv, rs, rd⟩ := hr
  obtain ⟨k0, k1, k2, k3, k4, k5, k6, k7, kv, ks, kd⟩ := hk
  refine jb_iload_n (pc' := 1) dX11_over_0 rfl rfl ?_
  refine jb_iconst (pc' := 2) 0 dX11_over_1 (by decide) rfl ?_
  refine jb_sipush (pc' := 5) 200 dX11_over_2 (by decide) rfl ?_
  refine jb_callS (pc' := 8) (As := [.int n, .int 0, .int 200]) (a2 := 0) (b2 := 0) wv_X11_74 dX11_over_5 (c_isOutL n 0 200 (by omega) (by omega)) rfl ⟨by decide, Nat.le_of_eq (Nat.zero_add _), Nat.le_of_eq (Nat.zero_add _)⟩ (Nat.le_of_ble_eq_true rfl) rfl (fun r h9 hq => ?_)
  rcases hq with ⟨rfl, ⟨o1, rfl⟩ | ⟨o1, rfl⟩⟩
  · show jb_J _ RX11 cX11_over 6 (Option.some .int) false 1 0 0 8 [some (.ref 0), some (.int n), none, none, none, none] [.int 1] [jb_main imm Im Tm rowm stkm tpm, jb_sch13 I W T, s2, s3, s4, s5, s6, s7, s8, jb_act Ia boa era, s10, s11] _
    refine jb_if_eq (tgt := 17) (pc' := 11) dX11_over_8 (by decide) rfl (fun z => absurd z (by decide)) (fun _ => ?_)
    refine jb_aload_n (pc' := 12) dX11_over_11 rfl rfl ?_
    refine jb_iconst (pc' := 13) 1 dX11_over_12 (by decide) rfl ?_
    refine jb_callV (pc' := 16) (ci := 11) (q := 0) (As := [.int 1]) (a2 := 0) (b2 := 0) wv_X11_78 rfl dX11_over_13 (c_error imm Im rowm stkm tpm Tm Ia boa era 1 (by decide)) rfl rfl ⟨by decide, Nat.le_of_eq (Nat.zero_add _), Nat.le_of_eq (Nat.zero_add _)⟩ (Nat.le_of_ble_eq_true rfl) rfl (fun r h9 hq => ?_)
    obtain ⟨rfl, rfl⟩ := hq
    show jb_J _ RX11 cX11_over 6 (Option.some .int) false 1 0 0 16 [some (.ref 0), some (.int n), none, none, none, none] [.int (jm_er 1)] [jb_main imm Im Tm rowm stkm tpm, jb_sch13 I W T, s2, s3, s4, s5, s6, s7, s8, jb_act Ia boa (jm_ef era 1), s10, s11] _
    refine jb_iret dX11_over_16 rfl ?_
    exact ⟨rfl, rfl⟩
  · exact absurd (by assumption) hb
set_option maxRecDepth 100000 in
set_option maxHeartbeats 4000000 in
theorem l_check {sc : Nat × (Nat → Int32)} {s2 s4 s5 s6 s7 s8 s9 s10 s11 : List va_E} (imm : Int32) (Im rowm tpm : Nat → Int32) (Tm : Nat → Value) (Iw : Nat → Int32) (W : Nat → Nat → Int32) (T : Nat → Value) {X : Nat → Option (List Int32)} (wt : Nat) (hwt : wt ≤ 20) : ∀ (k i : Nat) (V : Nat → Nat → Nat) (stkm Ix : Nat → Int32) (Wx : Nat → Nat → Int32) (Tx : Nat → Value), i + k = wt → jr_ V Ix Wx → jv_ok V → V 0 0 + k ≤ 20000 → jx_c X Tx s11 → jb_J sc RX11 cX11_check 3 (Option.some .int) false 8 0 0 29 [some (.ref 0), some (.int (nI wt)), some (.int (nI i))] [] [jb_main imm Im Tm rowm stkm tpm, jb_sch13 Iw W T, s2, jb_sch53 Ix Wx Tx, s4, s5, s6, s7, s8, s9, s10, s11] (fun r h9 => r = some (.int (jm_ck (jx_G X) (W 15) k i (V, Ix 1))) ∧ ∃ I9 W9 T9 stk9, h9 = [jb_main imm Im Tm rowm stk9 tpm, jb_sch13 Iw W T, s2, jb_sch53 I9 W9 T9, s4, s5, s6, s7, s8, s9, s10, s11]) := by
  intro k
  induction k with
  | zero =>
    intro i V stkm Ix Wx Tx hi hr hk h2 hx
    show jb_J _ RX11 cX11_check 3 (Option.some .int) false 8 0 0 29 [some (.ref 0), some (.int (nI wt)), some (.int (nI i))] [] [jb_main imm Im Tm rowm stkm tpm, jb_sch13 Iw W T, s2, jb_sch53 Ix Wx Tx, s4, s5, s6, s7, s8, s9, s10, s11] _
    refine jb_iload_n (pc' := 30) dX11_check_29 rfl rfl ?_
    refine jb_iload_n (pc' := 31) dX11_check_30 rfl rfl ?_
    refine jb_icmp_ge (tgt := 72) (pc' := 34) dX11_check_31 (by decide) rfl (fun _ => ?_) (fun z => absurd (nI_le (a := wt) (b := i) (by omega) (by omega)) z)
    refine jb_iconst (pc' := 73) 0 dX11_check_72 (by decide) rfl ?_
    refine jb_iret dX11_check_73 rfl ?_
    exact ⟨rfl, Ix, Wx, Tx, stkm, rfl⟩
  | succ k ih =>
    intro i V stkm Ix Wx Tx hi hr hk h2 hx
    show jb_J _ RX11 cX11_check 3 (Option.some .int) false 8 0 0 29 [some (.ref 0), some (.int (nI wt)), some (.int (nI i))] [] [jb_main imm Im Tm rowm stkm tpm, jb_sch13 Iw W T, s2, jb_sch53 Ix Wx Tx, s4, s5, s6, s7, s8, s9, s10, s11] _
    refine jb_iload_n (pc' := 30) dX11_check_29 rfl rfl ?_
    refine jb_iload_n (pc' := 31) dX11_check_30 rfl rfl ?_
    refine jb_icmp_ge (tgt := 72) (pc' := 34) dX11_check_31 (by decide) rfl (fun z => absurd z (nI_ge (a := i) (b := wt) (by omega) (by omega))) (fun _ => ?_)
    refine jb_aload_n (pc' := 35) dX11_check_34 rfl rfl ?_
    refine gf_X11_49 (pc' := 38) (v := .ref 53) dX11_check_35 rfl rfl rfl ?_
    refine jb_iconst (pc' := 39) 1 dX11_check_38 (by decide) rfl ?_
    refine jb_iconst (pc' := 40) 0 dX11_check_39 (by decide) rfl ?_
    refine jb_callV (pc' := 43) (ci := 9) (q := 53) (As := [.int 1, .int 0]) (a2 := 0) (b2 := 0) wv_X11_265 rfl dX11_check_40 (c_pass0_53 imm Im rowm stkm tpm Tm Ix Wx Tx hr hk (jx_Gok X) (c_gives_53 hx) 1 (by omega) (by omega)) rfl rfl ⟨by decide, Nat.le_of_eq (Nat.zero_add _), Nat.le_of_eq (Nat.zero_add _)⟩ (Nat.le_of_ble_eq_true rfl) rfl (fun r h9 hq => ?_)
    obtain ⟨rfl, I9, W9, stk9, hr9, hz9, hf9, rfl⟩ := hq
    show jb_J _ RX11 cX11_check 3 (Option.some .int) false 8 0 0 43 [some (.ref 0), some (.int (nI wt)), some (.int (nI i))] [] [jb_main imm Im Tm rowm stk9 tpm, jb_sch13 Iw W T, s2, jb_sch53 I9 W9 Tx, s4, s5, s6, s7, s8, s9, s10, s11] _
    refine jb_aload_n (pc' := 44) dX11_check_43 rfl rfl ?_
    refine gf_X11_49 (pc' := 47) (v := .ref 53) dX11_check_44 rfl rfl rfl ?_
    refine gf_X11_113 (pc' := 50) (v := .int (I9 3)) dX11_check_47 rfl rfl rfl ?_
    refine jb_top (v := .int (I9 3)) (w := .int (nI ((jm_pa (jx_G X) false 1 (V, Ix 1)).1 0 2))) (jb_vI hr9.2.2.1) ?_
    refine jb_aload_n (pc' := 51) dX11_check_50 rfl rfl ?_
    refine gf_X11_42 (pc' := 54) (v := .ref 13) dX11_check_51 rfl rfl rfl ?_
    refine gf_X11_263 (pc' := 57) (v := .ref 32) dX11_check_54 rfl rfl rfl ?_
    refine jb_iload_n (pc' := 58) dX11_check_57 rfl rfl ?_
    refine jb_iaload (pc' := 59) (i9 := i) (f := (W 15)) dX11_check_58 rfl (jb_ix_nI (by omega)) (by omega) rfl ?_
    refine jb_icmp_eq (tgt := 66) (pc' := 62) dX11_check_59 (by decide) rfl (fun hcc => ?_) (fun hcc => ?_)
    · refine jb_iinc_ (pc' := 69) (nI (i + 1)) dX11_check_66 (by decide) rfl (jb_inc i 1) (jb_at2 rfl) rfl ?_
      refine jb_goto (pc' := 29) dX11_check_69 (by decide) ?_
      obtain ⟨hk9, hs9⟩ := jv_pa (jx_Gok X) false 1 V (Ix 1) hk (by omega)
      have e9 : jm_ck (jx_G X) (W 15) (k + 1) i (V, Ix 1) = jm_ck (jx_G X) (W 15) k (i + 1) ((jm_pa (jx_G X) false 1 (V, Ix 1)).1, I9 1) := by
        rw [hz9]
        exact if_pos hcc
      rw [e9]
      exact ih (i + 1) (jm_pa (jx_G X) false 1 (V, Ix 1)).1 stk9 I9 W9 Tx (by omega) hr9 hk9 (by omega) hx
    · refine jb_iconst (pc' := 63) 1 dX11_check_62 (by decide) rfl ?_
      refine jb_iload_n (pc' := 64) dX11_check_63 rfl rfl ?_
      refine jb_iadd (pc' := 65) dX11_check_64 rfl ?_
      refine jb_top (v := .int (1 + (nI i))) (w := .int (nI (1 + i))) (jb_vI (nI_add 1 i)) ?_
      refine jb_iret dX11_check_65 rfl ?_
      have e9 : jm_ck (jx_G X) (W 15) (k + 1) i (V, Ix 1) = nI (1 + i) := if_neg hcc
      exact ⟨by rw [e9], I9, W9, Tx, stk9, rfl⟩
set_option maxRecDepth 100000 in
set_option maxHeartbeats 4000000 in
theorem kx_check {sc : Nat × (Nat → Int32)} {s2 s4 s5 s6 s7 s8 s9 s10 s11 : List va_E} {V : Nat → Nat → Nat} (imm : Int32) (Im rowm stkm tpm : Nat → Int32) (Tm : Nat → Value) (I : Nat → Int32) (W : Nat → Nat → Int32) (T : Nat → Value) (Ix : Nat → Int32) (Wx : Nat → Nat → Int32) (Tx : Nat → Value) (hr : jr_ V I W) (hk : jv_ok V) {X : Nat → Option (List Int32)} (hx : jx_c X T s11) {tp wt : Nat} (h5 : I 5 = nI tp) (h6 : I 6 = nI wt) (htp : tp ≤ 50) (hwt : wt ≤ 20) (h0 : V 0 0 ≤ 9999) : jb_C sc yX11_check cX11_check 3 (Option.some .int) 8 0 0 [.ref 0] [jb_main imm Im Tm rowm stkm tpm, jb_sch13 I W T, s2, jb_sch53 Ix Wx Tx, s4, s5, s6, s7, s8, s9, s10, s11] (fun r h9 => r = some (.int (jm_ck (jx_G X) (W 15) wt 0 (V, I 1))) ∧ ∃ I9 W9 T9 stk9, h9 = [jb_main imm Im Tm rowm stk9 tpm, jb_sch13 (upd I 6 0) W T, s2, jb_sch53 I9 W9 T9, s4, s5, s6, s7, s8, s9, s10, s11]) := by
  refine jb_CofJ (ini := false) (by decide +kernel) (fun h => by cases h) (Nat.le_of_ble_eq_true rfl) ?_
  show jb_J sc RX11 cX11_check 3 (Option.some .int) false 8 0 0 0 [some (.ref 0), none, none] [] [jb_main imm Im Tm rowm stkm tpm, jb_sch13 I W T, s2, jb_sch53 Ix Wx Tx, s4, s5, s6, s7, s8, s9, s10, s11] _
  have hr0 := hr
  have hk0 := hk
  obtain ⟨r0, r2, r3, r4, a0, a1, a2, rv, rs, rd⟩ := hr
  obtain ⟨k0, k1, k2, k3, k4, k5, k6, k7, kv, ks, kd⟩ := hk
  have hr7 : jr_ V (upd I 6 0) W := hr0
  refine jb_aload_n (pc' := 1) dX11_check_0 rfl rfl ?_
  refine gf_X11_42 (pc' := 4) (v := .ref 13) dX11_check_1 rfl rfl rfl ?_
  refine gf_X11_260 (pc' := 7) (v := .int (I 6)) dX11_check_4 rfl rfl rfl ?_
  refine jb_top (v := .int (I 6)) (w := .int (nI wt)) (jb_vI h6) ?_
  refine jb_istore_n_ (pc' := 8) dX11_check_7 (by decide) (jb_at1 rfl) rfl ?_
  refine jb_aload_n (pc' := 9) dX11_check_8 rfl rfl ?_
  refine gf_X11_42 (pc' := 12) (v := .ref 13) dX11_check_9 rfl rfl rfl ?_
  refine jb_iconst (pc' := 13) 0 dX11_check_12 (by decide) rfl ?_
  refine pf_X11_260 (pc' := 16) (h' := [jb_main imm Im Tm rowm stkm tpm, jb_sch13 (upd I 6 0) W T, s2, jb_sch53 Ix Wx Tx, s4, s5, s6, s7, s8, s9, s10, s11]) dX11_check_13 (fun _ => ⟨rfl, rfl⟩) rfl (Nat.le_of_ble_eq_true rfl) rfl rfl ?_
  refine jb_aload_n (pc' := 17) dX11_check_16 rfl rfl ?_
  refine gf_X11_49 (pc' := 20) (v := .ref 53) dX11_check_17 rfl rfl rfl ?_
  refine jb_aload_n (pc' := 21) dX11_check_20 rfl rfl ?_
  refine gf_X11_42 (pc' := 24) (v := .ref 13) dX11_check_21 rfl rfl rfl ?_
  refine jb_callV (pc' := 27) (ci := 9) (q := 53) (As := [.ref 13]) (a2 := 0) (b2 := 0) wv_X11_253 rfl dX11_check_24 (c_take_53_13 Ix Wx Tx (upd I 6 0) W T (V := V) hr7 hk0 tp 0 h5 rfl htp (by omega) (hx.r (by decide)) (hx.r (by decide))) rfl rfl ⟨by decide, Nat.le_of_eq (Nat.zero_add _), Nat.le_of_eq (Nat.zero_add _)⟩ (Nat.le_of_ble_eq_true rfl) rfl (fun r h9 hq => ?_)
  obtain ⟨rfl, I8, W8, T8, hr8, hz8, -, -, ht0, ht1, -, -, rfl⟩ := hq
  have hx8 := hx.to ht0 ht1
  show jb_J _ RX11 cX11_check 3 (Option.some .int) false 8 0 0 27 [some (.ref 0), some (.int (nI wt)), none] [] [jb_main imm Im Tm rowm stkm tpm, jb_sch13 (upd I 6 0) W T, s2, jb_sch53 I8 W8 T8, s4, s5, s6, s7, s8, s9, s10, s11] _
  refine jb_iconst (pc' := 28) 0 dX11_check_27 (by decide) rfl ?_
  refine jb_istore_n_ (pc' := 29) dX11_check_28 (by decide) (jb_at2 rfl) rfl ?_
  have hz7 : I8 1 = I 1 := hz8
  rw [← hz7]
  exact l_check imm Im rowm tpm Tm (upd I 6 0) W T wt hwt wt 0 V stkm I8 W8 T8 (by omega) hr8 hk0 (by omega) hx8
set_option maxRecDepth 100000 in
set_option maxHeartbeats 4000000 in
theorem kx_image {sc : Nat × (Nat → Int32)} {s3 s4 s5 s6 s7 s8 s9 s10 s11 : List va_E} {V : Nat → Nat → Nat} (imm : Int32) (Im rowm stkm tpm : Nat → Int32) (Tm : Nat → Value) (I : Nat → Int32) (W : Nat → Nat → Int32) (T : Nat → Value) (Ik : Nat → Int32) (Wk : Nat → Nat → Int32) (Tk : Nat → Value) (hr : jr_ V I W) (hk : jv_ok V) {X : Nat → Option (List Int32)} {tp wt : Nat} (hx : jx_c X T s11) (h5 : I 5 = nI tp) (h6 : I 6 = nI wt) (htp : tp ≤ 50) (hwt : wt ≤ 20) : jb_C sc yX11_image cX11_image 1 (Option.some .int) 3 0 0 [.ref 0] [jb_main imm Im Tm rowm stkm tpm, jb_sch13 I W T, jb_sch33 Ik Wk Tk, s3, s4, s5, s6, s7, s8, s9, s10, s11] (fun r h9 => r = some (.int (imm + 1)) ∧ ∃ I9 W9 T9, jr_ V I9 W9 ∧ I9 1 = I 1 ∧ I9 5 = I 5 ∧ I9 6 = I 6 ∧ T9 0 = T 0 ∧ T9 1 = T 1 ∧ (∀ k, k < tp → W9 14 k = W 14 k) ∧ (∀ k, k < wt → W9 15 k = W 15 k) ∧ h9 = [jb_main (imm + 1) Im Tm rowm stkm tpm, jb_sch13 I W T, jb_sch33 I9 W9 T9, s3, s4, s5, s6, s7, s8, s9, s10, s11]) := by
  refine jb_CofJ (ini := false) (by decide +kernel) (fun h => by cases h) (Nat.le_of_ble_eq_true rfl) ?_
  show jb_J sc RX11 cX11_image 1 (Option.some .int) false 3 0 0 0 [some (.ref 0)] [] [jb_main imm Im Tm rowm stkm tpm, jb_sch13 I W T, jb_sch33 Ik Wk Tk, s3, s4, s5, s6, s7, s8, s9, s10, s11] _
  have hr0 := hr
  have hk0 := hk
  obtain ⟨r0, r2, r3, r4, a0, a1, a2, rv, rs, rd⟩ := hr
  obtain ⟨k0, k1, k2, k3, k4, k5, k6, k7, kv, ks, kd⟩ := hk
  refine jb_aload_n (pc' := 1) dX11_image_0 rfl rfl ?_
  refine gf_X11_46 (pc' := 4) (v := .ref 33) dX11_image_1 rfl rfl rfl ?_
  refine jb_aload_n (pc' := 5) dX11_image_4 rfl rfl ?_
  refine gf_X11_42 (pc' := 8) (v := .ref 13) dX11_image_5 rfl rfl rfl ?_
  refine jb_callV (pc' := 11) (ci := 9) (q := 33) (As := [.ref 13]) (a2 := 0) (b2 := 0) wv_X11_253 rfl dX11_image_8 (c_take_33_13 Ik Wk Tk I W T hr0 hk0 tp wt h5 h6 htp hwt (hx.r (by decide)) (hx.r (by decide))) rfl rfl ⟨by decide, Nat.le_of_eq (Nat.zero_add _), Nat.le_of_eq (Nat.zero_add _)⟩ (Nat.le_of_ble_eq_true rfl) rfl (fun r h9 hq => ?_)
  obtain ⟨rfl, I9, W9, T9, hr9, hz9, g5, g6, ht0, ht1, htt, htw, rfl⟩ := hq
  show jb_J _ RX11 cX11_image 1 (Option.some .int) false 3 0 0 11 [some (.ref 0)] [] [jb_main imm Im Tm rowm stkm tpm, jb_sch13 I W T, jb_sch33 I9 W9 T9, s3, s4, s5, s6, s7, s8, s9, s10, s11] _
  refine jb_aload_n (pc' := 12) dX11_image_11 rfl rfl ?_
  refine jb_dup (pc' := 13) dX11_image_12 rfl rfl ?_
  refine gf_X11_70 (pc' := 16) (v := .int imm) dX11_image_13 rfl rfl rfl ?_
  refine jb_iconst (pc' := 17) 1 dX11_image_16 (by decide) rfl ?_
  refine jb_iadd (pc' := 18) dX11_image_17 rfl ?_
  refine pf_X11_70 (pc' := 21) (h' := [jb_main (imm + 1) Im Tm rowm stkm tpm, jb_sch13 I W T, jb_sch33 I9 W9 T9, s3, s4, s5, s6, s7, s8, s9, s10, s11]) dX11_image_18 (fun _ => ⟨rfl, rfl⟩) rfl (Nat.le_of_ble_eq_true rfl) rfl rfl ?_
  refine jb_aload_n (pc' := 22) dX11_image_21 rfl rfl ?_
  refine gf_X11_70 (pc' := 25) (v := .int (imm + 1)) dX11_image_22 rfl rfl rfl ?_
  refine jb_iret dX11_image_25 rfl ?_
  exact ⟨rfl, I9, W9, T9, hr9, hz9, g5, g6, ht0, ht1, htt, htw, rfl⟩
set_option maxRecDepth 100000 in
set_option maxHeartbeats 4000000 in
theorem kx_restore {sc : Nat × (Nat → Int32)} {s3 s4 s5 s6 s7 s8 s9 s10 s11 : List va_E} {V : Nat → Nat → Nat} (imm : Int32) (Im rowm stkm tpm : Nat → Int32) (Tm : Nat → Value) (I : Nat → Int32) (W : Nat → Nat → Int32) (T : Nat → Value) (Ik : Nat → Int32) (Wk : Nat → Nat → Int32) (Tk : Nat → Value) (hr : jr_ V Ik Wk) (hk : jv_ok V) {X : Nat → Option (List Int32)} {tp wt : Nat} (hx : jx_c X Tk s11) (h5 : Ik 5 = nI tp) (h6 : Ik 6 = nI wt) (htp : tp ≤ 50) (hwt : wt ≤ 20) (him : ¬ imm = 0) : jb_C sc yX11_restore cX11_restore 1 (Option.some .int) 3 0 0 [.ref 0] [jb_main imm Im Tm rowm stkm tpm, jb_sch13 I W T, jb_sch33 Ik Wk Tk, s3, s4, s5, s6, s7, s8, s9, s10, s11] (fun r h9 => r = some (.int (nI (V 0 0))) ∧ ∃ I9 W9 T9, jr_ V I9 W9 ∧ I9 1 = Ik 1 ∧ I9 5 = Ik 5 ∧ I9 6 = Ik 6 ∧ T9 0 = Tk 0 ∧ T9 1 = Tk 1 ∧ (∀ k, k < tp → W9 14 k = Wk 14 k) ∧ (∀ k, k < wt → W9 15 k = Wk 15 k) ∧ h9 = [jb_main imm Im Tm rowm stkm tpm, jb_sch13 I9 W9 T9, jb_sch33 Ik Wk Tk, s3, s4, s5, s6, s7, s8, s9, s10, s11]) := by
  refine jb_CofJ (ini := false) (by decide +kernel) (fun h => by cases h) (Nat.le_of_ble_eq_true rfl) ?_
  show jb_J sc RX11 cX11_restore 1 (Option.some .int) false 3 0 0 0 [some (.ref 0)] [] [jb_main imm Im Tm rowm stkm tpm, jb_sch13 I W T, jb_sch33 Ik Wk Tk, s3, s4, s5, s6, s7, s8, s9, s10, s11] _
  refine jb_aload_n (pc' := 1) dX11_restore_0 rfl rfl ?_
  refine gf_X11_70 (pc' := 4) (v := .int imm) dX11_restore_1 rfl rfl rfl ?_
  refine jb_if_ne (tgt := 13) (pc' := 7) dX11_restore_4 (by decide) rfl (fun _ => ?_) (fun z => absurd z him)
  refine jb_aload_n (pc' := 14) dX11_restore_13 rfl rfl ?_
  refine gf_X11_42 (pc' := 17) (v := .ref 13) dX11_restore_14 rfl rfl rfl ?_
  refine jb_aload_n (pc' := 18) dX11_restore_17 rfl rfl ?_
  refine gf_X11_46 (pc' := 21) (v := .ref 33) dX11_restore_18 rfl rfl rfl ?_
  refine jb_callV (pc' := 24) (ci := 9) (q := 13) (As := [.ref 33]) (a2 := 0) (b2 := 0) wv_X11_253 rfl dX11_restore_21 (c_take_13_33 I W T Ik Wk Tk hr hk tp wt h5 h6 htp hwt (hx.r (by decide)) (hx.r (by decide))) rfl rfl ⟨by decide, Nat.le_of_eq (Nat.zero_add _), Nat.le_of_eq (Nat.zero_add _)⟩ (Nat.le_of_ble_eq_true rfl) rfl (fun r h9 hq => ?_)
  obtain ⟨rfl, I9, W9, T9, hr9, hz9, g5, g6, ht0, ht1, htt, htw, rfl⟩ := hq
  show jb_J _ RX11 cX11_restore 1 (Option.some .int) false 3 0 0 24 [some (.ref 0)] [] [jb_main imm Im Tm rowm stkm tpm, jb_sch13 I9 W9 T9, jb_sch33 Ik Wk Tk, s3, s4, s5, s6, s7, s8, s9, s10, s11] _
  refine jb_aload_n (pc' := 25) dX11_restore_24 rfl rfl ?_
  refine gf_X11_42 (pc' := 28) (v := .ref 13) dX11_restore_25 rfl rfl rfl ?_
  refine gf_X11_257 (pc' := 31) (v := .int (I9 0)) dX11_restore_28 rfl rfl rfl ?_
  refine jb_top (v := .int (I9 0)) (w := .int (nI (V 0 0))) (jb_vI hr9.1) ?_
  refine jb_iret dX11_restore_31 rfl ?_
  exact ⟨rfl, I9, W9, T9, hr9, hz9, g5, g6, ht0, ht1, htt, htw, rfl⟩
set_option maxRecDepth 100000 in
set_option maxHeartbeats 4000000 in
theorem ke_restore {sc : Nat × (Nat → Int32)} {s2 s3 s4 s5 s6 s7 s8 s10 s11 : List va_E} {V : Nat → Nat → Nat} (imm : Int32) (Im rowm stkm tpm : Nat → Int32) (Tm : Nat → Value) (I : Nat → Int32) (W : Nat → Nat → Int32) (T : Nat → Value) (Ia boa era : Nat → Int32) (hr : jr_ V I W) (hk : jv_ok V) (him : imm = 0) : jb_C sc yX11_restore cX11_restore 1 (Option.some .int) 1 0 0 [.ref 0] [jb_main imm Im Tm rowm stkm tpm, jb_sch13 I W T, s2, s3, s4, s5, s6, s7, s8, jb_act Ia boa era, s10, s11] (fun r h9 => r = some (.int (jm_er 2)) ∧ h9 = [jb_main imm Im Tm rowm stkm tpm, jb_sch13 I W T, s2, s3, s4, s5, s6, s7, s8, jb_act Ia boa (jm_ef era 2), s10, s11]) := by
  refine jb_CofJ (ini := false) (by decide +kernel) (fun h => by cases h) (Nat.le_of_ble_eq_true rfl) ?_
  show jb_J sc RX11 cX11_restore 1 (Option.some .int) false 1 0 0 0 [some (.ref 0)] [] [jb_main imm Im Tm rowm stkm tpm, jb_sch13 I W T, s2, s3, s4, s5, s6, s7, s8, jb_act Ia boa era, s10, s11] _
  have hr0 := hr
  have hk0 := hk
  obtain ⟨r0, r2, r3, r4, a0, a1, a2, rv, rs, rd⟩ := hr
  obtain ⟨k0, k1, k2, k3, k4, k5, k6, k7, kv, ks, kd⟩ := hk
  refine jb_aload_n (pc' := 1) dX11_restore_0 rfl rfl ?_
  refine gf_X11_70 (pc' := 4) (v := .int imm) dX11_restore_1 rfl rfl rfl ?_
  refine jb_if_ne (tgt := 13) (pc' := 7) dX11_restore_4 (by decide) rfl (fun z => absurd him z) (fun _ => ?_)
  refine jb_aload_n (pc' := 8) dX11_restore_7 rfl rfl ?_
  refine jb_iconst (pc' := 9) 2 dX11_restore_8 (by decide) rfl ?_
  refine jb_callV (pc' := 12) (ci := 11) (q := 0) (As := [.int 2]) (a2 := 0) (b2 := 0) wv_X11_78 rfl dX11_restore_9 (c_error imm Im rowm stkm tpm Tm Ia boa era 2 (by decide)) rfl rfl ⟨by decide, Nat.le_of_eq (Nat.zero_add _), Nat.le_of_eq (Nat.zero_add _)⟩ (Nat.le_of_ble_eq_true rfl) rfl (fun r h9 hq => ?_)
  obtain ⟨rfl, rfl⟩ := hq
  show jb_J _ RX11 cX11_restore 1 (Option.some .int) false 1 0 0 12 [some (.ref 0)] [.int (jm_er 2)] [jb_main imm Im Tm rowm stkm tpm, jb_sch13 I W T, s2, s3, s4, s5, s6, s7, s8, jb_act Ia boa (jm_ef era 2), s10, s11] _
  refine jb_iret dX11_restore_12 rfl ?_
  exact ⟨rfl, rfl⟩
