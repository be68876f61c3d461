/-- a reader of the reference, called with these numbers, does as f says -/
def jq_F (sc : Nat × (Nat → Int32)) (s0 s1 s2 s3 s4 s5 s6 s7 s8 s9 s11 : List va_E) (I e kp nm : Nat → Int32) (W : Nat → Nat → Int32) (d : Nat → Int32) (base n u : Nat) (op : Int32) (y : MethodName) (cc : ByteArray) (nL D : Nat) (f : Nat → jp_R) : Prop :=
  ∀ (J : Nat → Int32) (a : Nat), a ≤ n → jq_ J base n u a op (-1) → jb_C sc y cc nL (Option.some .int) D 0 0 [.ref 105] [s0, s1, s2, s3, s4, s5, s6, s7, s8, s9, jb_mdl I J d e kp nm W, s11] (fun r h9 => ∃ J9, jq_P nm base n u op (f a) r J9 ∧ h9 = [s0, s1, s2, s3, s4, s5, s6, s7, s8, s9, jb_mdl I J9 d e kp nm W, s11])
theorem jp_eta {x : jp_R} {b : Nat} {k : Bool} (h1 : x.1 = b) (h2 : x.2.1 = k) : x = (b, k, x.2.2) := Prod.ext h1 (Prod.ext h2 rfl)
set_option maxRecDepth 100000 in
set_option maxHeartbeats 4000000 in
theorem l_productm {sc : Nat × (Nat → Int32)} {s0 s1 s2 s3 s4 s5 s6 s7 s8 s9 s11 : List va_E} (I e kp nm : Nat → Int32) (W : Nat → Nat → Int32) {B : Nat → Int32} {base n u : Nat} (d : Nat → Int32) (hB : ∀ k, k < n → d (base + k) = B k) (hn : n ≤ 50) (hb : base ≤ 438) (op : Int32) (f : Nat → jp_R) (hfo : ∀ a, a ≤ n → jp_ok n a (f a)) (D : Nat) (hD : 1 ≤ D) (hf : jq_F sc s0 s1 s2 s3 s4 s5 s6 s7 s8 s9 s11 I e kp nm W d base n u op yX12_unit cX12_unit 5 D f) : ∀ (k a : Nat) (c : List Int32) (J : Nat → Int32) (x2 x3 : Option Value), a ≤ n → n ≤ a + k → jw_f c → jq_ J base n u a op (-1) → jb_J sc RX12 cX12_product 4 (Option.some .int) false (D + 1) 0 0 5 [some (.ref 105), some (.int (jv_ nm c)), x2, x3] [] [s0, s1, s2, s3, s4, s5, s6, s7, s8, s9, jb_mdl I J d e kp nm W, s11] (fun r h9 => ∃ J9, jq_P nm base n u op (jp_lp B n 4 f k (a, true, c)) r J9 ∧ h9 = [s0, s1, s2, s3, s4, s5, s6, s7, s8, s9, jb_mdl I J9 d e kp nm W, s11]) := by
  intro k
  induction k with
  | zero =>
    intro a c J x2 x3 ha hk hc hq
    have hs : jp_lk B n a = -1 := jp_lk_out (by omega)
    show jb_J _ RX12 cX12_product 4 (Option.some .int) false (D + 1) 0 0 5 [some (.ref 105), some (.int (jv_ nm c)), x2, x3] [] [s0, s1, s2, s3, s4, s5, s6, s7, s8, s9, jb_mdl I J d e kp nm W, s11] _
    refine jb_aload_n (pc' := 6) dX12_product_5 rfl rfl ?_
    refine jb_callV (pc' := 9) (ci := 12) (q := 105) (As := []) (a2 := 0) (b2 := 0) wv_X12_75 rfl dX12_product_6 (c_here I e kp nm W d hB hn hb J hq) rfl rfl ⟨by omega, Nat.le_of_eq (Nat.zero_add _), Nat.le_of_eq (Nat.zero_add _)⟩ (Nat.le_of_ble_eq_true rfl) rfl (fun r h9 hq => ?_)
    obtain ⟨rfl, rfl⟩ := hq
    rw [hs]
    show jb_J _ RX12 cX12_product 4 (Option.some .int) false (D + 1) 0 0 9 [some (.ref 105), some (.int (jv_ nm c)), x2, x3] [.int (-1)] [s0, s1, s2, s3, s4, s5, s6, s7, s8, s9, jb_mdl I J d e kp nm W, s11] _
    refine jb_bipush (pc' := 11) 42 dX12_product_9 (by decide) rfl ?_
    refine jb_icmp_eq (tgt := 32) (pc' := 14) dX12_product_11 (by decide) rfl (fun z => absurd z (by decide)) (fun _ => ?_)
    refine jb_aload_n (pc' := 15) dX12_product_14 rfl rfl ?_
    refine jb_callV (pc' := 18) (ci := 12) (q := 105) (As := []) (a2 := 0) (b2 := 0) wv_X12_75 rfl dX12_product_15 (c_here I e kp nm W d hB hn hb J hq) rfl rfl ⟨by omega, Nat.le_of_eq (Nat.zero_add _), Nat.le_of_eq (Nat.zero_add _)⟩ (Nat.le_of_ble_eq_true rfl) rfl (fun r h9 hq => ?_)
    obtain ⟨rfl, rfl⟩ := hq
    rw [hs]
    show jb_J _ RX12 cX12_product 4 (Option.some .int) false (D + 1) 0 0 18 [some (.ref 105), some (.int (jv_ nm c)), x2, x3] [.int (-1)] [s0, s1, s2, s3, s4, s5, s6, s7, s8, s9, jb_mdl I J d e kp nm W, s11] _
    refine jb_bipush (pc' := 20) 47 dX12_product_18 (by decide) rfl ?_
    refine jb_icmp_eq (tgt := 32) (pc' := 23) dX12_product_20 (by decide) rfl (fun z => absurd z (by decide)) (fun _ => ?_)
    refine jb_aload_n (pc' := 24) dX12_product_23 rfl rfl ?_
    refine jb_callV (pc' := 27) (ci := 12) (q := 105) (As := []) (a2 := 0) (b2 := 0) wv_X12_75 rfl dX12_product_24 (c_here I e kp nm W d hB hn hb J hq) rfl rfl ⟨by omega, Nat.le_of_eq (Nat.zero_add _), Nat.le_of_eq (Nat.zero_add _)⟩ (Nat.le_of_ble_eq_true rfl) rfl (fun r h9 hq => ?_)
    obtain ⟨rfl, rfl⟩ := hq
    rw [hs]
    show jb_J _ RX12 cX12_product 4 (Option.some .int) false (D + 1) 0 0 27 [some (.ref 105), some (.int (jv_ nm c)), x2, x3] [.int (-1)] [s0, s1, s2, s3, s4, s5, s6, s7, s8, s9, jb_mdl I J d e kp nm W, s11] _
    refine jb_bipush (pc' := 29) 37 dX12_product_27 (by decide) rfl ?_
    refine jb_icmp_ne (tgt := 91) (pc' := 32) dX12_product_29 (by decide) rfl (fun _ => ?_) (fun z => absurd z (by decide))
    refine jb_iload_n (pc' := 92) dX12_product_91 rfl rfl ?_
    refine jb_iret dX12_product_92 rfl ?_
    have e8 : jp_lp B n 4 f 0 (a, true, c) = (a, true, c) := jp_lp_no (fun z => absurd (hs ▸ z.2 : jp_rk (-1) = 4) (by decide))
    rw [e8]
    exact ⟨J, ⟨a, rfl, Or.inl ⟨rfl, hq, rfl⟩⟩, rfl⟩
  | succ k ih =>
    intro a c J x2 x3 ha hk hc hq
    rcases jp_c4 (jp_lk B n a) with hs | hs | hs | ⟨n0, n1, n2, hr⟩
    · have ha1 : a < n := jp_in (fun z => by rw [hs] at z; exact absurd z (by decide))
      obtain ⟨q1, q2, q3, q4⟩ := hfo (a + 1) ha1
      show jb_J _ RX12 cX12_product 4 (Option.some .int) false (D + 1) 0 0 5 [some (.ref 105), some (.int (jv_ nm c)), x2, x3] [] [s0, s1, s2, s3, s4, s5, s6, s7, s8, s9, jb_mdl I J d e kp nm W, s11] _
      refine jb_aload_n (pc' := 6) dX12_product_5 rfl rfl ?_
      refine jb_callV (pc' := 9) (ci := 12) (q := 105) (As := []) (a2 := 0) (b2 := 0) wv_X12_75 rfl dX12_product_6 (c_here I e kp nm W d hB hn hb J hq) rfl rfl ⟨by omega, Nat.le_of_eq (Nat.zero_add _), Nat.le_of_eq (Nat.zero_add _)⟩ (Nat.le_of_ble_eq_true rfl) rfl (fun r h9 hq => ?_)
      obtain ⟨rfl, rfl⟩ := hq
      rw [hs]
      show jb_J _ RX12 cX12_product 4 (Option.some .int) false (D + 1) 0 0 9 [some (.ref 105), some (.int (jv_ nm c)), x2, x3] [.int 42] [s0, s1, s2, s3, s4, s5, s6, s7, s8, s9, jb_mdl I J d e kp nm W, s11] _
      refine jb_bipush (pc' := 11) 42 dX12_product_9 (by decide) rfl ?_
      refine jb_icmp_eq (tgt := 32) (pc' := 14) dX12_product_11 (by decide) rfl (fun _ => ?_) (fun z => absurd (by decide) z)
      refine jb_aload_n (pc' := 33) dX12_product_32 rfl rfl ?_
      refine jb_callV (pc' := 36) (ci := 12) (q := 105) (As := []) (a2 := 0) (b2 := 0) wv_X12_75 rfl dX12_product_33 (c_here I e kp nm W d hB hn hb J hq) rfl rfl ⟨by omega, Nat.le_of_eq (Nat.zero_add _), Nat.le_of_eq (Nat.zero_add _)⟩ (Nat.le_of_ble_eq_true rfl) rfl (fun r h9 hq => ?_)
      obtain ⟨rfl, rfl⟩ := hq
      rw [hs]
      show jb_J _ RX12 cX12_product 4 (Option.some .int) false (D + 1) 0 0 36 [some (.ref 105), some (.int (jv_ nm c)), x2, x3] [.int 42] [s0, s1, s2, s3, s4, s5, s6, s7, s8, s9, jb_mdl I J d e kp nm W, s11] _
      refine jb_istore_n_ (pc' := 37) dX12_product_36 (by decide) (jb_at2 rfl) rfl ?_
      refine jb_aload_n (pc' := 38) dX12_product_37 rfl rfl ?_
      refine jb_dup (pc' := 39) dX12_product_38 rfl rfl ?_
      refine gf_X12_62 (pc' := 42) (v := .int (J 1)) dX12_product_39 rfl rfl rfl ?_
      refine jb_top (v := .int (J 1)) (w := .int (nI a)) (jb_vI hq.2.1) ?_
      refine jb_iconst (pc' := 43) 1 dX12_product_42 (by decide) rfl ?_
      refine jb_iadd (pc' := 44) dX12_product_43 rfl ?_
      refine jb_top (v := .int ((nI a) + 1)) (w := .int (nI (a + 1))) (jb_vI (nI_add _ 1)) ?_
      refine pf_X12_62 (pc' := 47) (h' := [s0, s1, s2, s3, s4, s5, s6, s7, s8, s9, jb_mdl I (upd J 1 (nI (a + 1))) d e kp nm W, s11]) dX12_product_44 (fun _ => ⟨rfl, rfl⟩) rfl (Nat.le_of_ble_eq_true rfl) rfl rfl ?_
      refine jb_aload_n (pc' := 48) dX12_product_47 rfl rfl ?_
      refine jb_callV (pc' := 51) (ci := 12) (q := 105) (As := []) (a2 := 0) (b2 := 0) wv_X12_99 rfl dX12_product_48 (hf (upd J 1 (nI (a + 1))) (a + 1) (by omega) (hq.at (b := (a + 1)))) rfl rfl ⟨by omega, Nat.le_of_eq (Nat.zero_add _), Nat.le_of_eq (Nat.zero_add _)⟩ (Nat.le_of_ble_eq_true rfl) rfl (fun r h9 hq => ?_)
      rcases hq with ⟨J19, ⟨b1, hb1, ⟨hy1, hq1, rfl⟩ | ⟨hy1, v1, op1, hq1, rfl⟩⟩, rfl⟩
      · show jb_J _ RX12 cX12_product 4 (Option.some .int) false (D + 1) 0 0 51 [some (.ref 105), some (.int (jv_ nm c)), some (.int 42), x3] [.int (jv_ nm (f (a + 1)).2.2)] [s0, s1, s2, s3, s4, s5, s6, s7, s8, s9, jb_mdl I J19 d e kp nm W, s11] _
        refine jb_istore_n_ (pc' := 52) dX12_product_51 (by decide) (jb_at3 rfl) rfl ?_
        refine jb_iload_n (pc' := 53) dX12_product_52 rfl rfl ?_
        refine jb_bipush (pc' := 55) 42 dX12_product_53 (by decide) rfl ?_
        refine jb_icmp_ne (tgt := 64) (pc' := 58) dX12_product_55 (by decide) rfl (fun z => absurd (by decide) z) (fun _ => ?_)
        refine jb_iload_n (pc' := 59) dX12_product_58 rfl rfl ?_
        refine jb_iload_n (pc' := 60) dX12_product_59 rfl rfl ?_
        refine jb_imul (pc' := 61) dX12_product_60 rfl ?_
        refine jb_goto (pc' := 87) dX12_product_61 (by decide) ?_
        refine jb_istore_n_ (pc' := 88) dX12_product_87 (by decide) (jb_at1 rfl) rfl ?_
        refine jb_goto (pc' := 5) dX12_product_88 (by decide) ?_
        have e9 : jp_lp B n 4 f (k + 1) (a, true, c) = jp_lp B n 4 f k (b1, true, (c ++ (f (a + 1)).2.2 ++ [-42])) := by
          refine (jp_lp_go (x := (a, true, c)) rfl hs (by decide)).trans ?_
          show jp_lp B n 4 f k ((f (a + 1)).1, (f (a + 1)).2.1, c ++ (f (a + 1)).2.2 ++ [-42]) = _
          rw [hb1, hy1]
        have v9 : (jv_ nm c) * (jv_ nm (f (a + 1)).2.2) = jv_ nm (c ++ (f (a + 1)).2.2 ++ [-42]) := by
          rw [jv_bin (s := 42) (r := 4) hc (q4 hy1) (by decide) (by decide) nm, jw_j_42]
        refine jb_locs (congrArg (fun y9 => ([some (.ref 105), some (.int y9), some (.int 42), some (.int (jv_ nm (f (a + 1)).2.2))] : List (Option Value))) v9) ?_
        rw [e9]
        exact ih b1 (c ++ (f (a + 1)).2.2 ++ [-42]) J19 _ _ (by omega) (by omega) (jw_fbin hc (q4 hy1) (r := 4) (by decide) (by decide)) hq1
      · show jb_J _ RX12 cX12_product 4 (Option.some .int) false (D + 1) 0 0 51 [some (.ref 105), some (.int (jv_ nm c)), some (.int 42), x3] [.int v1] [s0, s1, s2, s3, s4, s5, s6, s7, s8, s9, jb_mdl I J19 d e kp nm W, s11] _
        refine jb_istore_n_ (pc' := 52) dX12_product_51 (by decide) (jb_at3 rfl) rfl ?_
        refine jb_iload_n (pc' := 53) dX12_product_52 rfl rfl ?_
        refine jb_bipush (pc' := 55) 42 dX12_product_53 (by decide) rfl ?_
        refine jb_icmp_ne (tgt := 64) (pc' := 58) dX12_product_55 (by decide) rfl (fun z => absurd (by decide) z) (fun _ => ?_)
        refine jb_iload_n (pc' := 59) dX12_product_58 rfl rfl ?_
        refine jb_iload_n (pc' := 60) dX12_product_59 rfl rfl ?_
        refine jb_imul (pc' := 61) dX12_product_60 rfl ?_
        refine jb_goto (pc' := 87) dX12_product_61 (by decide) ?_
        refine jb_istore_n_ (pc' := 88) dX12_product_87 (by decide) (jb_at1 rfl) rfl ?_
        refine jb_goto (pc' := 5) dX12_product_88 (by decide) ?_
        refine jb_aload_n (pc' := 6) dX12_product_5 rfl rfl ?_
        refine jb_callV (pc' := 9) (ci := 12) (q := 105) (As := []) (a2 := 0) (b2 := 0) wv_X12_75 rfl dX12_product_6 (c_hereF I e kp nm W J19 d hq1 (by omega)) rfl rfl ⟨by omega, Nat.le_of_eq (Nat.zero_add _), Nat.le_of_eq (Nat.zero_add _)⟩ (Nat.le_of_ble_eq_true rfl) rfl (fun r h9 hq => ?_)
        obtain ⟨rfl, rfl⟩ := hq
        show jb_J _ RX12 cX12_product 4 (Option.some .int) false (D + 1) 0 0 9 [some (.ref 105), some (.int ((jv_ nm c) * v1)), some (.int 42), some (.int v1)] [.int (-1)] [s0, s1, s2, s3, s4, s5, s6, s7, s8, s9, jb_mdl I J19 d e kp nm W, s11] _
        refine jb_bipush (pc' := 11) 42 dX12_product_9 (by decide) rfl ?_
        refine jb_icmp_eq (tgt := 32) (pc' := 14) dX12_product_11 (by decide) rfl (fun z => absurd z (by decide)) (fun _ => ?_)
        refine jb_aload_n (pc' := 15) dX12_product_14 rfl rfl ?_
        refine jb_callV (pc' := 18) (ci := 12) (q := 105) (As := []) (a2 := 0) (b2 := 0) wv_X12_75 rfl dX12_product_15 (c_hereF I e kp nm W J19 d hq1 (by omega)) rfl rfl ⟨by omega, Nat.le_of_eq (Nat.zero_add _), Nat.le_of_eq (Nat.zero_add _)⟩ (Nat.le_of_ble_eq_true rfl) rfl (fun r h9 hq => ?_)
        obtain ⟨rfl, rfl⟩ := hq
        show jb_J _ RX12 cX12_product 4 (Option.some .int) false (D + 1) 0 0 18 [some (.ref 105), some (.int ((jv_ nm c) * v1)), some (.int 42), some (.int v1)] [.int (-1)] [s0, s1, s2, s3, s4, s5, s6, s7, s8, s9, jb_mdl I J19 d e kp nm W, s11] _
        refine jb_bipush (pc' := 20) 47 dX12_product_18 (by decide) rfl ?_
        refine jb_icmp_eq (tgt := 32) (pc' := 23) dX12_product_20 (by decide) rfl (fun z => absurd z (by decide)) (fun _ => ?_)
        refine jb_aload_n (pc' := 24) dX12_product_23 rfl rfl ?_
        refine jb_callV (pc' := 27) (ci := 12) (q := 105) (As := []) (a2 := 0) (b2 := 0) wv_X12_75 rfl dX12_product_24 (c_hereF I e kp nm W J19 d hq1 (by omega)) rfl rfl ⟨by omega, Nat.le_of_eq (Nat.zero_add _), Nat.le_of_eq (Nat.zero_add _)⟩ (Nat.le_of_ble_eq_true rfl) rfl (fun r h9 hq => ?_)
        obtain ⟨rfl, rfl⟩ := hq
        show jb_J _ RX12 cX12_product 4 (Option.some .int) false (D + 1) 0 0 27 [some (.ref 105), some (.int ((jv_ nm c) * v1)), some (.int 42), some (.int v1)] [.int (-1)] [s0, s1, s2, s3, s4, s5, s6, s7, s8, s9, jb_mdl I J19 d e kp nm W, s11] _
        refine jb_bipush (pc' := 29) 37 dX12_product_27 (by decide) rfl ?_
        refine jb_icmp_ne (tgt := 91) (pc' := 32) dX12_product_29 (by decide) rfl (fun _ => ?_) (fun z => absurd z (by decide))
        refine jb_iload_n (pc' := 92) dX12_product_91 rfl rfl ?_
        refine jb_iret dX12_product_92 rfl ?_
        have e8 : jp_lp B n 4 f (k + 1) (a, true, c) = (b1, false, c ++ (f (a + 1)).2.2 ++ [-42]) := by
          refine (jp_lp_go (x := (a, true, c)) rfl hs (by decide)).trans ?_
          refine (jp_lp_no (fun z => ?_)).trans ?_
          · have z1 : (f (a + 1)).2.1 = true := z.1
            rw [hy1] at z1; cases z1
          · show ((f (a + 1)).1, (f (a + 1)).2.1, c ++ (f (a + 1)).2.2 ++ [-42]) = _
            rw [hb1, hy1]
        rw [e8]
        exact ⟨J19, ⟨b1, rfl, Or.inr ⟨rfl, _, _, hq1, rfl⟩⟩, rfl⟩
    · have ha1 : a < n := jp_in (fun z => by rw [hs] at z; exact absurd z (by decide))
      obtain ⟨q1, q2, q3, q4⟩ := hfo (a + 1) ha1
      show jb_J _ RX12 cX12_product 4 (Option.some .int) false (D + 1) 0 0 5 [some (.ref 105), some (.int (jv_ nm c)), x2, x3] [] [s0, s1, s2, s3, s4, s5, s6, s7, s8, s9, jb_mdl I J d e kp nm W, s11] _
      refine jb_aload_n (pc' := 6) dX12_product_5 rfl rfl ?_
      refine jb_callV (pc' := 9) (ci := 12) (q := 105) (As := []) (a2 := 0) (b2 := 0) wv_X12_75 rfl dX12_product_6 (c_here I e kp nm W d hB hn hb J hq) rfl rfl ⟨by omega, Nat.le_of_eq (Nat.zero_add _), Nat.le_of_eq (Nat.zero_add _)⟩ (Nat.le_of_ble_eq_true rfl) rfl (fun r h9 hq => ?_)
      obtain ⟨rfl, rfl⟩ := hq
      rw [hs]
      show jb_J _ RX12 cX12_product 4 (Option.some .int) false (D + 1) 0 0 9 [some (.ref 105), some (.int (jv_ nm c)), x2, x3] [.int 47] [s0, s1, s2, s3, s4, s5, s6, s7, s8, s9, jb_mdl I J d e kp nm W, s11] _
      refine jb_bipush (pc' := 11) 42 dX12_product_9 (by decide) rfl ?_
      refine jb_icmp_eq (tgt := 32) (pc' := 14) dX12_product_11 (by decide) rfl (fun z => absurd z (by decide)) (fun _ => ?_)
      refine jb_aload_n (pc' := 15) dX12_product_14 rfl rfl ?_
      refine jb_callV (pc' := 18) (ci := 12) (q := 105) (As := []) (a2 := 0) (b2 := 0) wv_X12_75 rfl dX12_product_15 (c_here I e kp nm W d hB hn hb J hq) rfl rfl ⟨by omega, Nat.le_of_eq (Nat.zero_add _), Nat.le_of_eq (Nat.zero_add _)⟩ (Nat.le_of_ble_eq_true rfl) rfl (fun r h9 hq => ?_)
      obtain ⟨rfl, rfl⟩ := hq
      rw [hs]
      show jb_J _ RX12 cX12_product 4 (Option.some .int) false (D + 1) 0 0 18 [some (.ref 105), some (.int (jv_ nm c)), x2, x3] [.int 47] [s0, s1, s2, s3, s4, s5, s6, s7, s8, s9, jb_mdl I J d e kp nm W, s11] _
      refine jb_bipush (pc' := 20) 47 dX12_product_18 (by decide) rfl ?_
      refine jb_icmp_eq (tgt := 32) (pc' := 23) dX12_product_20 (by decide) rfl (fun _ => ?_) (fun z => absurd (by decide) z)
      refine jb_aload_n (pc' := 33) dX12_product_32 rfl rfl ?_
      refine jb_callV (pc' := 36) (ci := 12) (q := 105) (As := []) (a2 := 0) (b2 := 0) wv_X12_75 rfl dX12_product_33 (c_here I e kp nm W d hB hn hb J hq) rfl rfl ⟨by omega, Nat.le_of_eq (Nat.zero_add _), Nat.le_of_eq (Nat.zero_add _)⟩ (Nat.le_of_ble_eq_true rfl) rfl (fun r h9 hq => ?_)
      obtain ⟨rfl, rfl⟩ := hq
      rw [hs]
      show jb_J _ RX12 cX12_product 4 (Option.some .int) false (D + 1) 0 0 36 [some (.ref 105), some (.int (jv_ nm c)), x2, x3] [.int 47] [s0, s1, s2, s3, s4, s5, s6, s7, s8, s9, jb_mdl I J d e kp nm W, s11] _
      refine jb_istore_n_ (pc' := 37) dX12_product_36 (by decide) (jb_at2 rfl) rfl ?_
      refine jb_aload_n (pc' := 38) dX12_product_37 rfl rfl ?_
      refine jb_dup (pc' := 39) dX12_product_38 rfl rfl ?_
      refine gf_X12_62 (pc' := 42) (v := .int (J 1)) dX12_product_39 rfl rfl rfl ?_
      refine jb_top (v := .int (J 1)) (w := .int (nI a)) (jb_vI hq.2.1) ?_
      refine jb_iconst (pc' := 43) 1 dX12_product_42 (by decide) rfl ?_
      refine jb_iadd (pc' := 44) dX12_product_43 rfl ?_
      refine jb_top (v := .int ((nI a) + 1)) (w := .int (nI (a + 1))) (jb_vI (nI_add _ 1)) ?_
      refine pf_X12_62 (pc' := 47) (h' := [s0, s1, s2, s3, s4, s5, s6, s7, s8, s9, jb_mdl I (upd J 1 (nI (a + 1))) d e kp nm W, s11]) dX12_product_44 (fun _ => ⟨rfl, rfl⟩) rfl (Nat.le_of_ble_eq_true rfl) rfl rfl ?_
      refine jb_aload_n (pc' := 48) dX12_product_47 rfl rfl ?_
      refine jb_callV (pc' := 51) (ci := 12) (q := 105) (As := []) (a2 := 0) (b2 := 0) wv_X12_99 rfl dX12_product_48 (hf (upd J 1 (nI (a + 1))) (a + 1) (by omega) (hq.at (b := (a + 1)))) rfl rfl ⟨by omega, Nat.le_of_eq (Nat.zero_add _), Nat.le_of_eq (Nat.zero_add _)⟩ (Nat.le_of_ble_eq_true rfl) rfl (fun r h9 hq => ?_)
      rcases hq with ⟨J19, ⟨b1, hb1, ⟨hy1, hq1, rfl⟩ | ⟨hy1, v1, op1, hq1, rfl⟩⟩, rfl⟩
      · show jb_J _ RX12 cX12_product 4 (Option.some .int) false (D + 1) 0 0 51 [some (.ref 105), some (.int (jv_ nm c)), some (.int 47), x3] [.int (jv_ nm (f (a + 1)).2.2)] [s0, s1, s2, s3, s4, s5, s6, s7, s8, s9, jb_mdl I J19 d e kp nm W, s11] _
        refine jb_istore_n_ (pc' := 52) dX12_product_51 (by decide) (jb_at3 rfl) rfl ?_
        refine jb_iload_n (pc' := 53) dX12_product_52 rfl rfl ?_
        refine jb_bipush (pc' := 55) 42 dX12_product_53 (by decide) rfl ?_
        refine jb_icmp_ne (tgt := 64) (pc' := 58) dX12_product_55 (by decide) rfl (fun _ => ?_) (fun z => absurd z (by decide))
        refine jb_iload_n (pc' := 65) dX12_product_64 rfl rfl ?_
        refine jb_if_ne (tgt := 72) (pc' := 68) dX12_product_65 (by decide) rfl (fun c4 => ?_) (fun c4 => ?_)
        · refine jb_iload_n (pc' := 73) dX12_product_72 rfl rfl ?_
          refine jb_bipush (pc' := 75) 47 dX12_product_73 (by decide) rfl ?_
          refine jb_icmp_ne (tgt := 84) (pc' := 78) dX12_product_75 (by decide) rfl (fun z => absurd (by decide) z) (fun _ => ?_)
          refine jb_iload_n (pc' := 79) dX12_product_78 rfl rfl ?_
          refine jb_iload_n (pc' := 80) dX12_product_79 rfl rfl ?_
          refine jb_idiv (pc' := 81) dX12_product_80 (by assumption) rfl ?_
          refine jb_goto (pc' := 87) dX12_product_81 (by decide) ?_
          refine jb_istore_n_ (pc' := 88) dX12_product_87 (by decide) (jb_at1 rfl) rfl ?_
          refine jb_goto (pc' := 5) dX12_product_88 (by decide) ?_
          have e9 : jp_lp B n 4 f (k + 1) (a, true, c) = jp_lp B n 4 f k (b1, true, (c ++ (f (a + 1)).2.2 ++ [-47])) := by
            refine (jp_lp_go (x := (a, true, c)) rfl hs (by decide)).trans ?_
            show jp_lp B n 4 f k ((f (a + 1)).1, (f (a + 1)).2.1, c ++ (f (a + 1)).2.2 ++ [-47]) = _
            rw [hb1, hy1]
          have v9 : (jv_ nm c) / (jv_ nm (f (a + 1)).2.2) = jv_ nm (c ++ (f (a + 1)).2.2 ++ [-47]) := by
            rw [jv_bin (s := 47) (r := 4) hc (q4 hy1) (by decide) (by decide) nm, jw_j_47]
            first | exact (if_pos (by assumption)).symm | exact (if_neg (by assumption)).symm
          refine jb_locs (congrArg (fun y9 => ([some (.ref 105), some (.int y9), some (.int 47), some (.int (jv_ nm (f (a + 1)).2.2))] : List (Option Value))) v9) ?_
          rw [e9]
          exact ih b1 (c ++ (f (a + 1)).2.2 ++ [-47]) J19 _ _ (by omega) (by omega) (jw_fbin hc (q4 hy1) (r := 4) (by decide) (by decide)) hq1
        · refine jb_iconst (pc' := 69) 0 dX12_product_68 (by decide) rfl ?_
          refine jb_goto (pc' := 87) dX12_product_69 (by decide) ?_
          refine jb_istore_n_ (pc' := 88) dX12_product_87 (by decide) (jb_at1 rfl) rfl ?_
          refine jb_goto (pc' := 5) dX12_product_88 (by decide) ?_
          have e9 : jp_lp B n 4 f (k + 1) (a, true, c) = jp_lp B n 4 f k (b1, true, (c ++ (f (a + 1)).2.2 ++ [-47])) := by
            refine (jp_lp_go (x := (a, true, c)) rfl hs (by decide)).trans ?_
            show jp_lp B n 4 f k ((f (a + 1)).1, (f (a + 1)).2.1, c ++ (f (a + 1)).2.2 ++ [-47]) = _
            rw [hb1, hy1]
          have v9 : 0 = jv_ nm (c ++ (f (a + 1)).2.2 ++ [-47]) := by
            rw [jv_bin (s := 47) (r := 4) hc (q4 hy1) (by decide) (by decide) nm, jw_j_47]
            first | exact (if_pos (by assumption)).symm | exact (if_neg (by assumption)).symm
          refine jb_locs (congrArg (fun y9 => ([some (.ref 105), some (.int y9), some (.int 47), some (.int (jv_ nm (f (a + 1)).2.2))] : List (Option Value))) v9) ?_
          rw [e9]
          exact ih b1 (c ++ (f (a + 1)).2.2 ++ [-47]) J19 _ _ (by omega) (by omega) (jw_fbin hc (q4 hy1) (r := 4) (by decide) (by decide)) hq1
      · show jb_J _ RX12 cX12_product 4 (Option.some .int) false (D + 1) 0 0 51 [some (.ref 105), some (.int (jv_ nm c)), some (.int 47), x3] [.int v1] [s0, s1, s2, s3, s4, s5, s6, s7, s8, s9, jb_mdl I J19 d e kp nm W, s11] _
        refine jb_istore_n_ (pc' := 52) dX12_product_51 (by decide) (jb_at3 rfl) rfl ?_
        refine jb_iload_n (pc' := 53) dX12_product_52 rfl rfl ?_
        refine jb_bipush (pc' := 55) 42 dX12_product_53 (by decide) rfl ?_
        refine jb_icmp_ne (tgt := 64) (pc' := 58) dX12_product_55 (by decide) rfl (fun _ => ?_) (fun z => absurd z (by decide))
        refine jb_iload_n (pc' := 65) dX12_product_64 rfl rfl ?_
        refine jb_if_ne (tgt := 72) (pc' := 68) dX12_product_65 (by decide) rfl (fun c7 => ?_) (fun c7 => ?_)
        · refine jb_iload_n (pc' := 73) dX12_product_72 rfl rfl ?_
          refine jb_bipush (pc' := 75) 47 dX12_product_73 (by decide) rfl ?_
          refine jb_icmp_ne (tgt := 84) (pc' := 78) dX12_product_75 (by decide) rfl (fun z => absurd (by decide) z) (fun _ => ?_)
          refine jb_iload_n (pc' := 79) dX12_product_78 rfl rfl ?_
          refine jb_iload_n (pc' := 80) dX12_product_79 rfl rfl ?_
          refine jb_idiv (pc' := 81) dX12_product_80 (by assumption) rfl ?_
          refine jb_goto (pc' := 87) dX12_product_81 (by decide) ?_
          refine jb_istore_n_ (pc' := 88) dX12_product_87 (by decide) (jb_at1 rfl) rfl ?_
          refine jb_goto (pc' := 5) dX12_product_88 (by decide) ?_
          refine jb_aload_n (pc' := 6) dX12_product_5 rfl rfl ?_
          refine jb_callV (pc' := 9) (ci := 12) (q := 105) (As := []) (a2 := 0) (b2 := 0) wv_X12_75 rfl dX12_product_6 (c_hereF I e kp nm W J19 d hq1 (by omega)) rfl rfl ⟨by omega, Nat.le_of_eq (Nat.zero_add _), Nat.le_of_eq (Nat.zero_add _)⟩ (Nat.le_of_ble_eq_true rfl) rfl (fun r h9 hq => ?_)
          obtain ⟨rfl, rfl⟩ := hq
          show jb_J _ RX12 cX12_product 4 (Option.some .int) false (D + 1) 0 0 9 [some (.ref 105), some (.int ((jv_ nm c) / v1)), some (.int 47), some (.int v1)] [.int (-1)] [s0, s1, s2, s3, s4, s5, s6, s7, s8, s9, jb_mdl I J19 d e kp nm W, s11] _
          refine jb_bipush (pc' := 11) 42 dX12_product_9 (by decide) rfl ?_
          refine jb_icmp_eq (tgt := 32) (pc' := 14) dX12_product_11 (by decide) rfl (fun z => absurd z (by decide)) (fun _ => ?_)
          refine jb_aload_n (pc' := 15) dX12_product_14 rfl rfl ?_
          refine jb_callV (pc' := 18) (ci := 12) (q := 105) (As := []) (a2 := 0) (b2 := 0) wv_X12_75 rfl dX12_product_15 (c_hereF I e kp nm W J19 d hq1 (by omega)) rfl rfl ⟨by omega, Nat.le_of_eq (Nat.zero_add _), Nat.le_of_eq (Nat.zero_add _)⟩ (Nat.le_of_ble_eq_true rfl) rfl (fun r h9 hq => ?_)
          obtain ⟨rfl, rfl⟩ := hq
          show jb_J _ RX12 cX12_product 4 (Option.some .int) false (D + 1) 0 0 18 [some (.ref 105), some (.int ((jv_ nm c) / v1)), some (.int 47), some (.int v1)] [.int (-1)] [s0, s1, s2, s3, s4, s5, s6, s7, s8, s9, jb_mdl I J19 d e kp nm W, s11] _
          refine jb_bipush (pc' := 20) 47 dX12_product_18 (by decide) rfl ?_
          refine jb_icmp_eq (tgt := 32) (pc' := 23) dX12_product_20 (by decide) rfl (fun z => absurd z (by decide)) (fun _ => ?_)
          refine jb_aload_n (pc' := 24) dX12_product_23 rfl rfl ?_
          refine jb_callV (pc' := 27) (ci := 12) (q := 105) (As := []) (a2 := 0) (b2 := 0) wv_X12_75 rfl dX12_product_24 (c_hereF I e kp nm W J19 d hq1 (by omega)) rfl rfl ⟨by omega, Nat.le_of_eq (Nat.zero_add _), Nat.le_of_eq (Nat.zero_add _)⟩ (Nat.le_of_ble_eq_true rfl) rfl (fun r h9 hq => ?_)
          obtain ⟨rfl, rfl⟩ := hq
          show jb_J _ RX12 cX12_product 4 (Option.some .int) false (D + 1) 0 0 27 [some (.ref 105), some (.int ((jv_ nm c) / v1)), some (.int 47), some (.int v1)] [.int (-1)] [s0, s1, s2, s3, s4, s5, s6, s7, s8, s9, jb_mdl I J19 d e kp nm W, s11] _
          refine jb_bipush (pc' := 29) 37 dX12_product_27 (by decide) rfl ?_
          refine jb_icmp_ne (tgt := 91) (pc' := 32) dX12_product_29 (by decide) rfl (fun _ => ?_) (fun z => absurd z (by decide))
          refine jb_iload_n (pc' := 92) dX12_product_91 rfl rfl ?_
          refine jb_iret dX12_product_92 rfl ?_
          have e8 : jp_lp B n 4 f (k + 1) (a, true, c) = (b1, false, c ++ (f (a + 1)).2.2 ++ [-47]) := by
            refine (jp_lp_go (x := (a, true, c)) rfl hs (by decide)).trans ?_
            refine (jp_lp_no (fun z => ?_)).trans ?_
            · have z1 : (f (a + 1)).2.1 = true := z.1
              rw [hy1] at z1; cases z1
            · show ((f (a + 1)).1, (f (a + 1)).2.1, c ++ (f (a + 1)).2.2 ++ [-47]) = _
              rw [hb1, hy1]
          rw [e8]
          exact ⟨J19, ⟨b1, rfl, Or.inr ⟨rfl, _, _, hq1, rfl⟩⟩, rfl⟩
        · refine jb_iconst (pc' := 69) 0 dX12_product_68 (by decide) rfl ?_
          refine jb_goto (pc' := 87) dX12_product_69 (by decide) ?_
          refine jb_istore_n_ (pc' := 88) dX12_product_87 (by decide) (jb_at1 rfl) rfl ?_
          refine jb_goto (pc' := 5) dX12_product_88 (by decide) ?_
          refine jb_aload_n (pc' := 6) dX12_product_5 rfl rfl ?_
          refine jb_callV (pc' := 9) (ci := 12) (q := 105) (As := []) (a2 := 0) (b2 := 0) wv_X12_75 rfl dX12_product_6 (c_hereF I e kp nm W J19 d hq1 (by omega)) rfl rfl ⟨by omega, Nat.le_of_eq (Nat.zero_add _), Nat.le_of_eq (Nat.zero_add _)⟩ (Nat.le_of_ble_eq_true rfl) rfl (fun r h9 hq => ?_)
          obtain ⟨rfl, rfl⟩ := hq
          show jb_J _ RX12 cX12_product 4 (Option.some .int) false (D + 1) 0 0 9 [some (.ref 105), some (.int 0), some (.int 47), some (.int v1)] [.int (-1)] [s0, s1, s2, s3, s4, s5, s6, s7, s8, s9, jb_mdl I J19 d e kp nm W, s11] _
          refine jb_bipush (pc' := 11) 42 dX12_product_9 (by decide) rfl ?_
          refine jb_icmp_eq (tgt := 32) (pc' := 14) dX12_product_11 (by decide) rfl (fun z => absurd z (by decide)) (fun _ => ?_)
          refine jb_aload_n (pc' := 15) dX12_product_14 rfl rfl ?_
          refine jb_callV (pc' := 18) (ci := 12) (q := 105) (As := []) (a2 := 0) (b2 := 0) wv_X12_75 rfl dX12_product_15 (c_hereF I e kp nm W J19 d hq1 (by omega)) rfl rfl ⟨by omega, Nat.le_of_eq (Nat.zero_add _), Nat.le_of_eq (Nat.zero_add _)⟩ (Nat.le_of_ble_eq_true rfl) rfl (fun r h9 hq => ?_)
          obtain ⟨rfl, rfl⟩ := hq
          show jb_J _ RX12 cX12_product 4 (Option.some .int) false (D + 1) 0 0 18 [some (.ref 105), some (.int 0), some (.int 47), some (.int v1)] [.int (-1)] [s0, s1, s2, s3, s4, s5, s6, s7, s8, s9, jb_mdl I J19 d e kp nm W, s11] _
          refine jb_bipush (pc' := 20) 47 dX12_product_18 (by decide) rfl ?_
          refine jb_icmp_eq (tgt := 32) (pc' := 23) dX12_product_20 (by decide) rfl (fun z => absurd z (by decide)) (fun _ => ?_)
          refine jb_aload_n (pc' := 24) dX12_product_23 rfl rfl ?_
          refine jb_callV (pc' := 27) (ci := 12) (q := 105) (As := []) (a2 := 0) (b2 := 0) wv_X12_75 rfl dX12_product_24 (c_hereF I e kp nm W J19 d hq1 (by omega)) rfl rfl ⟨by omega, Nat.le_of_eq (Nat.zero_add _), Nat.le_of_eq (Nat.zero_add _)⟩ (Nat.le_of_ble_eq_true rfl) rfl (fun r h9 hq => ?_)
          obtain ⟨rfl, rfl⟩ := hq
          show jb_J _ RX12 cX12_product 4 (Option.some .int) false (D + 1) 0 0 27 [some (.ref 105), some (.int 0), some (.int 47), some (.int v1)] [.int (-1)] [s0, s1, s2, s3, s4, s5, s6, s7, s8, s9, jb_mdl I J19 d e kp nm W, s11] _
          refine jb_bipush (pc' := 29) 37 dX12_product_27 (by decide) rfl ?_
          refine jb_icmp_ne (tgt := 91) (pc' := 32) dX12_product_29 (by decide) rfl (fun _ => ?_) (fun z => absurd z (by decide))
          refine jb_iload_n (pc' := 92) dX12_product_91 rfl rfl ?_
          refine jb_iret dX12_product_92 rfl ?_
          have e8 : jp_lp B n 4 f (k + 1) (a, true, c) = (b1, false, c ++ (f (a + 1)).2.2 ++ [-47]) := by
            refine (jp_lp_go (x := (a, true, c)) rfl hs (by decide)).trans ?_
            refine (jp_lp_no (fun z => ?_)).trans ?_
            · have z1 : (f (a + 1)).2.1 = true := z.1
              rw [hy1] at z1; cases z1
            · show ((f (a + 1)).1, (f (a + 1)).2.1, c ++ (f (a + 1)).2.2 ++ [-47]) = _
              rw [hb1, hy1]
          rw [e8]
          exact ⟨J19, ⟨b1, rfl, Or.inr ⟨rfl, _, _, hq1, rfl⟩⟩, rfl⟩
    · have ha1 : a < n := jp_in (fun z => by rw [hs] at z; exact absurd z (by decide))
      obtain ⟨q1, q2, q3, q4⟩ := hfo (a + 1) ha1
      show jb_J _ RX12 cX12_product 4 (Option.some .int) false (D + 1) 0 0 5 [some (.ref 105), some (.int (jv_ nm c)), x2, x3] [] [s0, s1, s2, s3, s4, s5, s6, s7, s8, s9, jb_mdl I J d e kp nm W, s11] _
      refine jb_aload_n (pc' := 6) dX12_product_5 rfl rfl ?_
      refine jb_callV (pc' := 9) (ci := 12) (q := 105) (As := []) (a2 := 0) (b2 := 0) wv_X12_75 rfl dX12_product_6 (c_here I e kp nm W d hB hn hb J hq) rfl rfl ⟨by omega, Nat.le_of_eq (Nat.zero_add _), Nat.le_of_eq (Nat.zero_add _)⟩ (Nat.le_of_ble_eq_true rfl) rfl (fun r h9 hq => ?_)
      obtain ⟨rfl, rfl⟩ := hq
      rw [hs]
      show jb_J _ RX12 cX12_product 4 (Option.some .int) false (D + 1) 0 0 9 [some (.ref 105), some (.int (jv_ nm c)), x2, x3] [.int 37] [s0, s1, s2, s3, s4, s5, s6, s7, s8, s9, jb_mdl I J d e kp nm W, s11] _
      refine jb_bipush (pc' := 11) 42 dX12_product_9 (by decide) rfl ?_
      refine jb_icmp_eq (tgt := 32) (pc' := 14) dX12_product_11 (by decide) rfl (fun z => absurd z (by decide)) (fun _ => ?_)
      refine jb_aload_n (pc' := 15) dX12_product_14 rfl rfl ?_
      refine jb_callV (pc' := 18) (ci := 12) (q := 105) (As := []) (a2 := 0) (b2 := 0) wv_X12_75 rfl dX12_product_15 (c_here I e kp nm W d hB hn hb J hq) rfl rfl ⟨by omega, Nat.le_of_eq (Nat.zero_add _), Nat.le_of_eq (Nat.zero_add _)⟩ (Nat.le_of_ble_eq_true rfl) rfl (fun r h9 hq => ?_)
      obtain ⟨rfl, rfl⟩ := hq
      rw [hs]
      show jb_J _ RX12 cX12_product 4 (Option.some .int) false (D + 1) 0 0 18 [some (.ref 105), some (.int (jv_ nm c)), x2, x3] [.int 37] [s0, s1, s2, s3, s4, s5, s6, s7, s8, s9, jb_mdl I J d e kp nm W, s11] _
      refine jb_bipush (pc' := 20) 47 dX12_product_18 (by decide) rfl ?_
      refine jb_icmp_eq (tgt := 32) (pc' := 23) dX12_product_20 (by decide) rfl (fun z => absurd z (by decide)) (fun _ => ?_)
      refine jb_aload_n (pc' := 24) dX12_product_23 rfl rfl ?_
      refine jb_callV (pc' := 27) (ci := 12) (q := 105) (As := []) (a2 := 0) (b2 := 0) wv_X12_75 rfl dX12_product_24 (c_here I e kp nm W d hB hn hb J hq) rfl rfl ⟨by omega, Nat.le_of_eq (Nat.zero_add _), Nat.le_of_eq (Nat.zero_add _)⟩ (Nat.le_of_ble_eq_true rfl) rfl (fun r h9 hq => ?_)
      obtain ⟨rfl, rfl⟩ := hq
      rw [hs]
      show jb_J _ RX12 cX12_product 4 (Option.some .int) false (D + 1) 0 0 27 [some (.ref 105), some (.int (jv_ nm c)), x2, x3] [.int 37] [s0, s1, s2, s3, s4, s5, s6, s7, s8, s9, jb_mdl I J d e kp nm W, s11] _
      refine jb_bipush (pc' := 29) 37 dX12_product_27 (by decide) rfl ?_
      refine jb_icmp_ne (tgt := 91) (pc' := 32) dX12_product_29 (by decide) rfl (fun z => absurd (by decide) z) (fun _ => ?_)
      refine jb_aload_n (pc' := 33) dX12_product_32 rfl rfl ?_
      refine jb_callV (pc' := 36) (ci := 12) (q := 105) (As := []) (a2 := 0) (b2 := 0) wv_X12_75 rfl dX12_product_33 (c_here I e kp nm W d hB hn hb J hq) rfl rfl ⟨by omega, Nat.le_of_eq (Nat.zero_add _), Nat.le_of_eq (Nat.zero_add _)⟩ (Nat.le_of_ble_eq_true rfl) rfl (fun r h9 hq => ?_)
      obtain ⟨rfl, rfl⟩ := hq
      rw [hs]
      show jb_J _ RX12 cX12_product 4 (Option.some .int) false (D + 1) 0 0 36 [some (.ref 105), some (.int (jv_ nm c)), x2, x3] [.int 37] [s0, s1, s2, s3, s4, s5, s6, s7, s8, s9, jb_mdl I J d e kp nm W, s11] _
      refine jb_istore_n_ (pc' := 37) dX12_product_36 (by decide) (jb_at2 rfl) rfl ?_
      refine jb_aload_n (pc' := 38) dX12_product_37 rfl rfl ?_
      refine jb_dup (pc' := 39) dX12_product_38 rfl rfl ?_
      refine gf_X12_62 (pc' := 42) (v := .int (J 1)) dX12_product_39 rfl rfl rfl ?_
      refine jb_top (v := .int (J 1)) (w := .int (nI a)) (jb_vI hq.2.1) ?_
      refine jb_iconst (pc' := 43) 1 dX12_product_42 (by decide) rfl ?_
      refine jb_iadd (pc' := 44) dX12_product_43 rfl ?_
      refine jb_top (v := .int ((nI a) + 1)) (w := .int (nI (a + 1))) (jb_vI (nI_add _ 1)) ?_
      refine pf_X12_62 (pc' := 47) (h' := [s0, s1, s2, s3, s4, s5, s6, s7, s8, s9, jb_mdl I (upd J 1 (nI (a + 1))) d e kp nm W, s11]) dX12_product_44 (fun _ => ⟨rfl, rfl⟩) rfl (Nat.le_of_ble_eq_true rfl) rfl rfl ?_
      refine jb_aload_n (pc' := 48) dX12_product_47 rfl rfl ?_
      refine jb_callV (pc' := 51) (ci := 12) (q := 105) (As := []) (a2 := 0) (b2 := 0) wv_X12_99 rfl dX12_product_48 (hf (upd J 1 (nI (a + 1))) (a + 1) (by omega) (hq.at (b := (a + 1)))) rfl rfl ⟨by omega, Nat.le_of_eq (Nat.zero_add _), Nat.le_of_eq (Nat.zero_add _)⟩ (Nat.le_of_ble_eq_true rfl) rfl (fun r h9 hq => ?_)
      rcases hq with ⟨J19, ⟨b1, hb1, ⟨hy1, hq1, rfl⟩ | ⟨hy1, v1, op1, hq1, rfl⟩⟩, rfl⟩
      · show jb_J _ RX12 cX12_product 4 (Option.some .int) false (D + 1) 0 0 51 [some (.ref 105), some (.int (jv_ nm c)), some (.int 37), x3] [.int (jv_ nm (f (a + 1)).2.2)] [s0, s1, s2, s3, s4, s5, s6, s7, s8, s9, jb_mdl I J19 d e kp nm W, s11] _
        refine jb_istore_n_ (pc' := 52) dX12_product_51 (by decide) (jb_at3 rfl) rfl ?_
        refine jb_iload_n (pc' := 53) dX12_product_52 rfl rfl ?_
        refine jb_bipush (pc' := 55) 42 dX12_product_53 (by decide) rfl ?_
        refine jb_icmp_ne (tgt := 64) (pc' := 58) dX12_product_55 (by decide) rfl (fun _ => ?_) (fun z => absurd z (by decide))
        refine jb_iload_n (pc' := 65) dX12_product_64 rfl rfl ?_
        refine jb_if_ne (tgt := 72) (pc' := 68) dX12_product_65 (by decide) rfl (fun c5 => ?_) (fun c5 => ?_)
        · refine jb_iload_n (pc' := 73) dX12_product_72 rfl rfl ?_
          refine jb_bipush (pc' := 75) 47 dX12_product_73 (by decide) rfl ?_
          refine jb_icmp_ne (tgt := 84) (pc' := 78) dX12_product_75 (by decide) rfl (fun _ => ?_) (fun z => absurd z (by decide))
          refine jb_iload_n (pc' := 85) dX12_product_84 rfl rfl ?_
          refine jb_iload_n (pc' := 86) dX12_product_85 rfl rfl ?_
          refine jb_irem (pc' := 87) dX12_product_86 (by assumption) rfl ?_
          refine jb_istore_n_ (pc' := 88) dX12_product_87 (by decide) (jb_at1 rfl) rfl ?_
          refine jb_goto (pc' := 5) dX12_product_88 (by decide) ?_
          have e9 : jp_lp B n 4 f (k + 1) (a, true, c) = jp_lp B n 4 f k (b1, true, (c ++ (f (a + 1)).2.2 ++ [-37])) := by
            refine (jp_lp_go (x := (a, true, c)) rfl hs (by decide)).trans ?_
            show jp_lp B n 4 f k ((f (a + 1)).1, (f (a + 1)).2.1, c ++ (f (a + 1)).2.2 ++ [-37]) = _
            rw [hb1, hy1]
          have v9 : (jv_ nm c) - (jv_ nm c) / (jv_ nm (f (a + 1)).2.2) * (jv_ nm (f (a + 1)).2.2) = jv_ nm (c ++ (f (a + 1)).2.2 ++ [-37]) := by
            rw [jv_bin (s := 37) (r := 4) hc (q4 hy1) (by decide) (by decide) nm, jw_j_37]
            first | exact (if_pos (by assumption)).symm | exact (if_neg (by assumption)).symm
          refine jb_locs (congrArg (fun y9 => ([some (.ref 105), some (.int y9), some (.int 37), some (.int (jv_ nm (f (a + 1)).2.2))] : List (Option Value))) v9) ?_
          rw [e9]
          exact ih b1 (c ++ (f (a + 1)).2.2 ++ [-37]) J19 _ _ (by omega) (by omega) (jw_fbin hc (q4 hy1) (r := 4) (by decide) (by decide)) hq1
        · refine jb_iconst (pc' := 69) 0 dX12_product_68 (by decide) rfl ?_
          refine jb_goto (pc' := 87) dX12_product_69 (by decide) ?_
          refine jb_istore_n_ (pc' := 88) dX12_product_87 (by decide) (jb_at1 rfl) rfl ?_
          refine jb_goto (pc' := 5) dX12_product_88 (by decide) ?_
          have e9 : jp_lp B n 4 f (k + 1) (a, true, c) = jp_lp B n 4 f k (b1, true, (c ++ (f (a + 1)).2.2 ++ [-37])) := by
            refine (jp_lp_go (x := (a, true, c)) rfl hs (by decide)).trans ?_
            show jp_lp B n 4 f k ((f (a + 1)).1, (f (a + 1)).2.1, c ++ (f (a + 1)).2.2 ++ [-37]) = _
            rw [hb1, hy1]
          have v9 : 0 = jv_ nm (c ++ (f (a + 1)).2.2 ++ [-37]) := by
            rw [jv_bin (s := 37) (r := 4) hc (q4 hy1) (by decide) (by decide) nm, jw_j_37]
            first | exact (if_pos (by assumption)).symm | exact (if_neg (by assumption)).symm
          refine jb_locs (congrArg (fun y9 => ([some (.ref 105), some (.int y9), some (.int 37), some (.int (jv_ nm (f (a + 1)).2.2))] : List (Option Value))) v9) ?_
          rw [e9]
          exact ih b1 (c ++ (f (a + 1)).2.2 ++ [-37]) J19 _ _ (by omega) (by omega) (jw_fbin hc (q4 hy1) (r := 4) (by decide) (by decide)) hq1
      · show jb_J _ RX12 cX12_product 4 (Option.some .int) false (D + 1) 0 0 51 [some (.ref 105), some (.int (jv_ nm c)), some (.int 37), x3] [.int v1] [s0, s1, s2, s3, s4, s5, s6, s7, s8, s9, jb_mdl I J19 d e kp nm W, s11] _
        refine jb_istore_n_ (pc' := 52) dX12_product_51 (by decide) (jb_at3 rfl) rfl ?_
        refine jb_iload_n (pc' := 53) dX12_product_52 rfl rfl ?_
        refine jb_bipush (pc' := 55) 42 dX12_product_53 (by decide) rfl ?_
        refine jb_icmp_ne (tgt := 64) (pc' := 58) dX12_product_55 (by decide) rfl (fun _ => ?_) (fun z => absurd z (by decide))
        refine jb_iload_n (pc' := 65) dX12_product_64 rfl rfl ?_
        refine jb_if_ne (tgt := 72) (pc' := 68) dX12_product_65 (by decide) rfl (fun c8 => ?_) (fun c8 => ?_)
        · refine jb_iload_n (pc' := 73) dX12_product_72 rfl rfl ?_
          refine jb_bipush (pc' := 75) 47 dX12_product_73 (by decide) rfl ?_
          refine jb_icmp_ne (tgt := 84) (pc' := 78) dX12_product_75 (by decide) rfl (fun _ => ?_) (fun z => absurd z (by decide))
          refine jb_iload_n (pc' := 85) dX12_product_84 rfl rfl ?_
          refine jb_iload_n (pc' := 86) dX12_product_85 rfl rfl ?_
          refine jb_irem (pc' := 87) dX12_product_86 (by assumption) rfl ?_
          refine jb_istore_n_ (pc' := 88) dX12_product_87 (by decide) (jb_at1 rfl) rfl ?_
          refine jb_goto (pc' := 5) dX12_product_88 (by decide) ?_
          refine jb_aload_n (pc' := 6) dX12_product_5 rfl rfl ?_
          refine jb_callV (pc' := 9) (ci := 12) (q := 105) (As := []) (a2 := 0) (b2 := 0) wv_X12_75 rfl dX12_product_6 (c_hereF I e kp nm W J19 d hq1 (by omega)) rfl rfl ⟨by omega, Nat.le_of_eq (Nat.zero_add _), Nat.le_of_eq (Nat.zero_add _)⟩ (Nat.le_of_ble_eq_true rfl) rfl (fun r h9 hq => ?_)
          obtain ⟨rfl, rfl⟩ := hq
          show jb_J _ RX12 cX12_product 4 (Option.some .int) false (D + 1) 0 0 9 [some (.ref 105), some (.int ((jv_ nm c) - (jv_ nm c) / v1 * v1)), some (.int 37), some (.int v1)] [.int (-1)] [s0, s1, s2, s3, s4, s5, s6, s7, s8, s9, jb_mdl I J19 d e kp nm W, s11] _
          refine jb_bipush (pc' := 11) 42 dX12_product_9 (by decide) rfl ?_
          refine jb_icmp_eq (tgt := 32) (pc' := 14) dX12_product_11 (by decide) rfl (fun z => absurd z (by decide)) (fun _ => ?_)
          refine jb_aload_n (pc' := 15) dX12_product_14 rfl rfl ?_
          refine jb_callV (pc' := 18) (ci := 12) (q := 105) (As := []) (a2 := 0) (b2 := 0) wv_X12_75 rfl dX12_product_15 (c_hereF I e kp nm W J19 d hq1 (by omega)) rfl rfl ⟨by omega, Nat.le_of_eq (Nat.zero_add _), Nat.le_of_eq (Nat.zero_add _)⟩ (Nat.le_of_ble_eq_true rfl) rfl (fun r h9 hq => ?_)
          obtain ⟨rfl, rfl⟩ := hq
          show jb_J _ RX12 cX12_product 4 (Option.some .int) false (D + 1) 0 0 18 [some (.ref 105), some (.int ((jv_ nm c) - (jv_ nm c) / v1 * v1)), some (.int 37), some (.int v1)] [.int (-1)] [s0, s1, s2, s3, s4, s5, s6, s7, s8, s9, jb_mdl I J19 d e kp nm W, s11] _
          refine jb_bipush (pc' := 20) 47 dX12_product_18 (by decide) rfl ?_
          refine jb_icmp_eq (tgt := 32) (pc' := 23) dX12_product_20 (by decide) rfl (fun z => absurd z (by decide)) (fun _ => ?_)
          refine jb_aload_n (pc' := 24) dX12_product_23 rfl rfl ?_
          refine jb_callV (pc' := 27) (ci := 12) (q := 105) (As := []) (a2 := 0) (b2 := 0) wv_X12_75 rfl dX12_product_24 (c_hereF I e kp nm W J19 d hq1 (by omega)) rfl rfl ⟨by omega, Nat.le_of_eq (Nat.zero_add _), Nat.le_of_eq (Nat.zero_add _)⟩ (Nat.le_of_ble_eq_true rfl) rfl (fun r h9 hq => ?_)
          obtain ⟨rfl, rfl⟩ := hq
          show jb_J _ RX12 cX12_product 4 (Option.some .int) false (D + 1) 0 0 27 [some (.ref 105), some (.int ((jv_ nm c) - (jv_ nm c) / v1 * v1)), some (.int 37), some (.int v1)] [.int (-1)] [s0, s1, s2, s3, s4, s5, s6, s7, s8, s9, jb_mdl I J19 d e kp nm W, s11] _
          refine jb_bipush (pc' := 29) 37 dX12_product_27 (by decide) rfl ?_
          refine jb_icmp_ne (tgt := 91) (pc' := 32) dX12_product_29 (by decide) rfl (fun _ => ?_) (fun z => absurd z (by decide))
          refine jb_iload_n (pc' := 92) dX12_product_91 rfl rfl ?_
          refine jb_iret dX12_product_92 rfl ?_
          have e8 : jp_lp B n 4 f (k + 1) (a, true, c) = (b1, false, c ++ (f (a + 1)).2.2 ++ [-37]) := by
            refine (jp_lp_go (x := (a, true, c)) rfl hs (by decide)).trans ?_
            refine (jp_lp_no (fun z => ?_)).trans ?_
            · have z1 : (f (a + 1)).2.1 = true := z.1
              rw [hy1] at z1; cases z1
            · show ((f (a + 1)).1, (f (a + 1)).2.1, c ++ (f (a + 1)).2.2 ++ [-37]) = _
              rw [hb1, hy1]
          rw [e8]
          exact ⟨J19, ⟨b1, rfl, Or.inr ⟨rfl, _, _, hq1, rfl⟩⟩, rfl⟩
        · refine jb_iconst (pc' := 69) 0 dX12_product_68 (by decide) rfl ?_
          refine jb_goto (pc' := 87) dX12_product_69 (by decide) ?_
          refine jb_istore_n_ (pc' := 88) dX12_product_87 (by decide) (jb_at1 rfl) rfl ?_
          refine jb_goto (pc' := 5) dX12_product_88 (by decide) ?_
          refine jb_aload_n (pc' := 6) dX12_product_5 rfl rfl ?_
          refine jb_callV (pc' := 9) (ci := 12) (q := 105) (As := []) (a2 := 0) (b2 := 0) wv_X12_75 rfl dX12_product_6 (c_hereF I e kp nm W J19 d hq1 (by omega)) rfl rfl ⟨by omega, Nat.le_of_eq (Nat.zero_add _), Nat.le_of_eq (Nat.zero_add _)⟩ (Nat.le_of_ble_eq_true rfl) rfl (fun r h9 hq => ?_)
          obtain ⟨rfl, rfl⟩ := hq
          show jb_J _ RX12 cX12_product 4 (Option.some .int) false (D + 1) 0 0 9 [some (.ref 105), some (.int 0), some (.int 37), some (.int v1)] [.int (-1)] [s0, s1, s2, s3, s4, s5, s6, s7, s8, s9, jb_mdl I J19 d e kp nm W, s11] _
          refine jb_bipush (pc' := 11) 42 dX12_product_9 (by decide) rfl ?_
          refine jb_icmp_eq (tgt := 32) (pc' := 14) dX12_product_11 (by decide) rfl (fun z => absurd z (by decide)) (fun _ => ?_)
          refine jb_aload_n (pc' := 15) dX12_product_14 rfl rfl ?_
          refine jb_callV (pc' := 18) (ci := 12) (q := 105) (As := []) (a2 := 0) (b2 := 0) wv_X12_75 rfl dX12_product_15 (c_hereF I e kp nm W J19 d hq1 (by omega)) rfl rfl ⟨by omega, Nat.le_of_eq (Nat.zero_add _), Nat.le_of_eq (Nat.zero_add _)⟩ (Nat.le_of_ble_eq_true rfl) rfl (fun r h9 hq => ?_)
          obtain ⟨rfl, rfl⟩ := hq
          show jb_J _ RX12 cX12_product 4 (Option.some .int) false (D + 1) 0 0 18 [some (.ref 105), some (.int 0), some (.int 37), some (.int v1)] [.int (-1)] [s0, s1, s2, s3, s4, s5, s6, s7, s8, s9, jb_mdl I J19 d e kp nm W, s11] _
          refine jb_bipush (pc' := 20) 47 dX12_product_18 (by decide) rfl ?_
          refine jb_icmp_eq (tgt := 32) (pc' := 23) dX12_product_20 (by decide) rfl (fun z => absurd z (by decide)) (fun _ => ?_)
          refine jb_aload_n (pc' := 24) dX12_product_23 rfl rfl ?_
          refine jb_callV (pc' := 27) (ci := 12) (q := 105) (As := []) (a2 := 0) (b2 := 0) wv_X12_75 rfl dX12_product_24 (c_hereF I e kp nm W J19 d hq1 (by omega)) rfl rfl ⟨by omega, Nat.le_of_eq (Nat.zero_add _), Nat.le_of_eq (Nat.zero_add _)⟩ (Nat.le_of_ble_eq_true rfl) rfl (fun r h9 hq => ?_)
          obtain ⟨rfl, rfl⟩ := hq
          show jb_J _ RX12 cX12_product 4 (Option.some .int) false (D + 1) 0 0 27 [some (.ref 105), some (.int 0), some (.int 37), some (.int v1)] [.int (-1)] [s0, s1, s2, s3, s4, s5, s6, s7, s8, s9, jb_mdl I J19 d e kp nm W, s11] _
          refine jb_bipush (pc' := 29) 37 dX12_product_27 (by decide) rfl ?_
          refine jb_icmp_ne (tgt := 91) (pc' := 32) dX12_product_29 (by decide) rfl (fun _ => ?_) (fun z => absurd z (by decide))
          refine jb_iload_n (pc' := 92) dX12_product_91 rfl rfl ?_
          refine jb_iret dX12_product_92 rfl ?_
          have e8 : jp_lp B n 4 f (k + 1) (a, true, c) = (b1, false, c ++ (f (a + 1)).2.2 ++ [-37]) := by
            refine (jp_lp_go (x := (a, true, c)) rfl hs (by decide)).trans ?_
            refine (jp_lp_no (fun z => ?_)).trans ?_
            · have z1 : (f (a + 1)).2.1 = true := z.1
              rw [hy1] at z1; cases z1
            · show ((f (a + 1)).1, (f (a + 1)).2.1, c ++ (f (a + 1)).2.2 ++ [-37]) = _
              rw [hb1, hy1]
          rw [e8]
          exact ⟨J19, ⟨b1, rfl, Or.inr ⟨rfl, _, _, hq1, rfl⟩⟩, rfl⟩
    · show jb_J _ RX12 cX12_product 4 (Option.some .int) false (D + 1) 0 0 5 [some (.ref 105), some (.int (jv_ nm c)), x2, x3] [] [s0, s1, s2, s3, s4, s5, s6, s7, s8, s9, jb_mdl I J d e kp nm W, s11] _
      refine jb_aload_n (pc' := 6) dX12_product_5 rfl rfl ?_
      refine jb_callV (pc' := 9) (ci := 12) (q := 105) (As := []) (a2 := 0) (b2 := 0) wv_X12_75 rfl dX12_product_6 (c_here I e kp nm W d hB hn hb J hq) rfl rfl ⟨by omega, Nat.le_of_eq (Nat.zero_add _), Nat.le_of_eq (Nat.zero_add _)⟩ (Nat.le_of_ble_eq_true rfl) rfl (fun r h9 hq => ?_)
      obtain ⟨rfl, rfl⟩ := hq
      show jb_J _ RX12 cX12_product 4 (Option.some .int) false (D + 1) 0 0 9 [some (.ref 105), some (.int (jv_ nm c)), x2, x3] [.int (jp_lk B n a)] [s0, s1, s2, s3, s4, s5, s6, s7, s8, s9, jb_mdl I J d e kp nm W, s11] _
      refine jb_bipush (pc' := 11) 42 dX12_product_9 (by decide) rfl ?_
      refine jb_icmp_eq (tgt := 32) (pc' := 14) dX12_product_11 (by decide) rfl (fun z => absurd z n0) (fun _ => ?_)
      refine jb_aload_n (pc' := 15) dX12_product_14 rfl rfl ?_
      refine jb_callV (pc' := 18) (ci := 12) (q := 105) (As := []) (a2 := 0) (b2 := 0) wv_X12_75 rfl dX12_product_15 (c_here I e kp nm W d hB hn hb J hq) rfl rfl ⟨by omega, Nat.le_of_eq (Nat.zero_add _), Nat.le_of_eq (Nat.zero_add _)⟩ (Nat.le_of_ble_eq_true rfl) rfl (fun r h9 hq => ?_)
      obtain ⟨rfl, rfl⟩ := hq
      show jb_J _ RX12 cX12_product 4 (Option.some .int) false (D + 1) 0 0 18 [some (.ref 105), some (.int (jv_ nm c)), x2, x3] [.int (jp_lk B n a)] [s0, s1, s2, s3, s4, s5, s6, s7, s8, s9, jb_mdl I J d e kp nm W, s11] _
      refine jb_bipush (pc' := 20) 47 dX12_product_18 (by decide) rfl ?_
      refine jb_icmp_eq (tgt := 32) (pc' := 23) dX12_product_20 (by decide) rfl (fun z => absurd z n1) (fun _ => ?_)
      refine jb_aload_n (pc' := 24) dX12_product_23 rfl rfl ?_
      refine jb_callV (pc' := 27) (ci := 12) (q := 105) (As := []) (a2 := 0) (b2 := 0) wv_X12_75 rfl dX12_product_24 (c_here I e kp nm W d hB hn hb J hq) rfl rfl ⟨by omega, Nat.le_of_eq (Nat.zero_add _), Nat.le_of_eq (Nat.zero_add _)⟩ (Nat.le_of_ble_eq_true rfl) rfl (fun r h9 hq => ?_)
      obtain ⟨rfl, rfl⟩ := hq
      show jb_J _ RX12 cX12_product 4 (Option.some .int) false (D + 1) 0 0 27 [some (.ref 105), some (.int (jv_ nm c)), x2, x3] [.int (jp_lk B n a)] [s0, s1, s2, s3, s4, s5, s6, s7, s8, s9, jb_mdl I J d e kp nm W, s11] _
      refine jb_bipush (pc' := 29) 37 dX12_product_27 (by decide) rfl ?_
      refine jb_icmp_ne (tgt := 91) (pc' := 32) dX12_product_29 (by decide) rfl (fun _ => ?_) (fun z => absurd z n2)
      refine jb_iload_n (pc' := 92) dX12_product_91 rfl rfl ?_
      refine jb_iret dX12_product_92 rfl ?_
      have e8 : jp_lp B n 4 f (k + 1) (a, true, c) = (a, true, c) := jp_lp_no (fun z => hr z.2)
      rw [e8]
      exact ⟨J, ⟨a, rfl, Or.inl ⟨rfl, hq, rfl⟩⟩, rfl⟩
set_option maxRecDepth 100000 in
set_option maxHeartbeats 4000000 in
theorem c_productm {sc : Nat × (Nat → Int32)} {s0 s1 s2 s3 s4 s5 s6 s7 s8 s9 s11 : List va_E} (I e kp nm : Nat → Int32) (W : Nat → Nat → Int32) {B : Nat → Int32} {base n u : Nat} (d : Nat → Int32) (hB : ∀ k, k < n → d (base + k) = B k) (hn : n ≤ 50) (hb : base ≤ 438) (op : Int32) (f : Nat → jp_R) (hfo : ∀ a, a ≤ n → jp_ok n a (f a)) (D : Nat) (hD : 1 ≤ D) (hf : jq_F sc s0 s1 s2 s3 s4 s5 s6 s7 s8 s9 s11 I e kp nm W d base n u op yX12_unit cX12_unit 5 D f) : jq_F sc s0 s1 s2 s3 s4 s5 s6 s7 s8 s9 s11 I e kp nm W d base n u op yX12_product cX12_product 4 (D + 1) (fun a => jp_lp B n 4 f 50 (f a)) := by
  intro J a ha hq
  show jb_C sc yX12_product cX12_product 4 (Option.some .int) (D + 1) 0 0 [.ref 105] [s0, s1, s2, s3, s4, s5, s6, s7, s8, s9, jb_mdl I J d e kp nm W, s11] (fun r h9 => ∃ J9, jq_P nm base n u op (jp_lp B n 4 f 50 (f a)) r J9 ∧ h9 = [s0, s1, s2, s3, s4, s5, s6, s7, s8, s9, jb_mdl I J9 d e kp nm W, s11])
  refine jb_CofJ (ini := false) (by decide +kernel) (fun h => by cases h) (Nat.le_of_ble_eq_true rfl) ?_
  obtain ⟨q1, q2, q3, q4⟩ := hfo a ha
  show jb_J _ RX12 cX12_product 4 (Option.some .int) false (D + 1) 0 0 0 [some (.ref 105), none, none, none] [] [s0, s1, s2, s3, s4, s5, s6, s7, s8, s9, jb_mdl I J d e kp nm W, s11] _
  refine jb_aload_n (pc' := 1) dX12_product_0 rfl rfl ?_
  refine jb_callV (pc' := 4) (ci := 12) (q := 105) (As := []) (a2 := 0) (b2 := 0) wv_X12_99 rfl dX12_product_1 (hf J a (by omega) hq) rfl rfl ⟨by omega, Nat.le_of_eq (Nat.zero_add _), Nat.le_of_eq (Nat.zero_add _)⟩ (Nat.le_of_ble_eq_true rfl) rfl (fun r h9 hq => ?_)
  rcases hq with ⟨J19, ⟨b1, hb1, ⟨hy1, hq1, rfl⟩ | ⟨hy1, v1, op1, hq1, rfl⟩⟩, rfl⟩
  · show jb_J _ RX12 cX12_product 4 (Option.some .int) false (D + 1) 0 0 4 [some (.ref 105), none, none, none] [.int (jv_ nm (f a).2.2)] [s0, s1, s2, s3, s4, s5, s6, s7, s8, s9, jb_mdl I J19 d e kp nm W, s11] _
    refine jb_istore_n_ (pc' := 5) dX12_product_4 (by decide) (jb_at1 rfl) rfl ?_
    have ef : f a = (b1, true, (f a).2.2) := jp_eta hb1 hy1
    have eF : jp_lp B n 4 f 50 (f a) = jp_lp B n 4 f 50 (b1, true, (f a).2.2) := congrArg (jp_lp B n 4 f 50) ef
    rw [eF]
    exact l_productm I e kp nm W d hB hn hb op f hfo D hD hf 50 b1 (f a).2.2 J19 _ _ (by omega) (by omega) (q4 hy1) hq1
  · show jb_J _ RX12 cX12_product 4 (Option.some .int) false (D + 1) 0 0 4 [some (.ref 105), none, none, none] [.int v1] [s0, s1, s2, s3, s4, s5, s6, s7, s8, s9, jb_mdl I J19 d e kp nm W, s11] _
    refine jb_istore_n_ (pc' := 5) dX12_product_4 (by decide) (jb_at1 rfl) rfl ?_
    refine jb_aload_n (pc' := 6) dX12_product_5 rfl rfl ?_
    refine jb_callV (pc' := 9) (ci := 12) (q := 105) (As := []) (a2 := 0) (b2 := 0) wv_X12_75 rfl dX12_product_6 (c_hereF I e kp nm W J19 d hq1 (by omega)) rfl rfl ⟨by omega, Nat.le_of_eq (Nat.zero_add _), Nat.le_of_eq (Nat.zero_add _)⟩ (Nat.le_of_ble_eq_true rfl) rfl (fun r h9 hq => ?_)
    obtain ⟨rfl, rfl⟩ := hq
    show jb_J _ RX12 cX12_product 4 (Option.some .int) false (D + 1) 0 0 9 [some (.ref 105), some (.int v1), none, none] [.int (-1)] [s0, s1, s2, s3, s4, s5, s6, s7, s8, s9, jb_mdl I J19 d e kp nm W, s11] _
    refine jb_bipush (pc' := 11) 42 dX12_product_9 (by decide) rfl ?_
    refine jb_icmp_eq (tgt := 32) (pc' := 14) dX12_product_11 (by decide) rfl (fun z => absurd z (by decide)) (fun _ => ?_)
    refine jb_aload_n (pc' := 15) dX12_product_14 rfl rfl ?_
    refine jb_callV (pc' := 18) (ci := 12) (q := 105) (As := []) (a2 := 0) (b2 := 0) wv_X12_75 rfl dX12_product_15 (c_hereF I e kp nm W J19 d hq1 (by omega)) rfl rfl ⟨by omega, Nat.le_of_eq (Nat.zero_add _), Nat.le_of_eq (Nat.zero_add _)⟩ (Nat.le_of_ble_eq_true rfl) rfl (fun r h9 hq => ?_)
    obtain ⟨rfl, rfl⟩ := hq
    show jb_J _ RX12 cX12_product 4 (Option.some .int) false (D + 1) 0 0 18 [some (.ref 105), some (.int v1), none, none] [.int (-1)] [s0, s1, s2, s3, s4, s5, s6, s7, s8, s9, jb_mdl I J19 d e kp nm W, s11] _
    refine jb_bipush (pc' := 20) 47 dX12_product_18 (by decide) rfl ?_
    refine jb_icmp_eq (tgt := 32) (pc' := 23) dX12_product_20 (by decide) rfl (fun z => absurd z (by decide)) (fun _ => ?_)
    refine jb_aload_n (pc' := 24) dX12_product_23 rfl rfl ?_
    refine jb_callV (pc' := 27) (ci := 12) (q := 105) (As := []) (a2 := 0) (b2 := 0) wv_X12_75 rfl dX12_product_24 (c_hereF I e kp nm W J19 d hq1 (by omega)) rfl rfl ⟨by omega, Nat.le_of_eq (Nat.zero_add _), Nat.le_of_eq (Nat.zero_add _)⟩ (Nat.le_of_ble_eq_true rfl) rfl (fun r h9 hq => ?_)
    obtain ⟨rfl, rfl⟩ := hq
    show jb_J _ RX12 cX12_product 4 (Option.some .int) false (D + 1) 0 0 27 [some (.ref 105), some (.int v1), none, none] [.int (-1)] [s0, s1, s2, s3, s4, s5, s6, s7, s8, s9, jb_mdl I J19 d e kp nm W, s11] _
    refine jb_bipush (pc' := 29) 37 dX12_product_27 (by decide) rfl ?_
    refine jb_icmp_ne (tgt := 91) (pc' := 32) dX12_product_29 (by decide) rfl (fun _ => ?_) (fun z => absurd z (by decide))
    refine jb_iload_n (pc' := 92) dX12_product_91 rfl rfl ?_
    refine jb_iret dX12_product_92 rfl ?_
    have e8 : jp_lp B n 4 f 50 (f a) = f a := jp_lp_no (fun z => by have z1 := z.1; rw [hy1] at z1; cases z1)
    rw [e8]
    exact ⟨J19, ⟨b1, hb1, Or.inr ⟨hy1, _, _, hq1, rfl⟩⟩, rfl⟩
set_option maxRecDepth 100000 in
set_option maxHeartbeats 4000000 in
theorem l_summ {sc : Nat × (Nat → Int32)} {s0 s1 s2 s3 s4 s5 s6 s7 s8 s9 s11 : List va_E} (I e kp nm : Nat → Int32) (W : Nat → Nat → Int32) {B : Nat → Int32} {base n u : Nat} (d : Nat → Int32) (hB : ∀ k, k < n → d (base + k) = B k) (hn : n ≤ 50) (hb : base ≤ 438) (op : Int32) (f : Nat → jp_R) (hfo : ∀ a, a ≤ n → jp_ok n a (f a)) (D : Nat) (hD : 1 ≤ D) (hf : jq_F sc s0 s1 s2 s3 s4 s5 s6 s7 s8 s9 s11 I e kp nm W d base n u op yX12_product cX12_product 4 D f) : ∀ (k a : Nat) (c : List Int32) (J : Nat → Int32) (x2 x3 : Option Value), a ≤ n → n ≤ a + k → jw_f c → jq_ J base n u a op (-1) → jb_J sc RX12 cX12_sum 4 (Option.some .int) false (D + 1) 0 0 5 [some (.ref 105), some (.int (jv_ nm c)), x2, x3] [] [s0, s1, s2, s3, s4, s5, s6, s7, s8, s9, jb_mdl I J d e kp nm W, s11] (fun r h9 => ∃ J9, jq_P nm base n u op (jp_lp B n 3 f k (a, true, c)) r J9 ∧ h9 = [s0, s1, s2, s3, s4, s5, s6, s7, s8, s9, jb_mdl I J9 d e kp nm W, s11]) := by
  intro k
  induction k with
  | zero =>
    intro a c J x2 x3 ha hk hc hq
    have hs : jp_lk B n a = -1 := jp_lk_out (by omega)
    show jb_J _ RX12 cX12_sum 4 (Option.some .int) false (D + 1) 0 0 5 [some (.ref 105), some (.int (jv_ nm c)), x2, x3] [] [s0, s1, s2, s3, s4, s5, s6, s7, s8, s9, jb_mdl I J d e kp nm W, s11] _
    refine jb_aload_n (pc' := 6) dX12_sum_5 rfl rfl ?_
    refine jb_callV (pc' := 9) (ci := 12) (q := 105) (As := []) (a2 := 0) (b2 := 0) wv_X12_75 rfl dX12_sum_6 (c_here I e kp nm W d hB hn hb J hq) rfl rfl ⟨by omega, Nat.le_of_eq (Nat.zero_add _), Nat.le_of_eq (Nat.zero_add _)⟩ (Nat.le_of_ble_eq_true rfl) rfl (fun r h9 hq => ?_)
    obtain ⟨rfl, rfl⟩ := hq
    rw [hs]
    show jb_J _ RX12 cX12_sum 4 (Option.some .int) false (D + 1) 0 0 9 [some (.ref 105), some (.int (jv_ nm c)), x2, x3] [.int (-1)] [s0, s1, s2, s3, s4, s5, s6, s7, s8, s9, jb_mdl I J d e kp nm W, s11] _
    refine jb_bipush (pc' := 11) 43 dX12_sum_9 (by decide) rfl ?_
    refine jb_icmp_eq (tgt := 23) (pc' := 14) dX12_sum_11 (by decide) rfl (fun z => absurd z (by decide)) (fun _ => ?_)
    refine jb_aload_n (pc' := 15) dX12_sum_14 rfl rfl ?_
    refine jb_callV (pc' := 18) (ci := 12) (q := 105) (As := []) (a2 := 0) (b2 := 0) wv_X12_75 rfl dX12_sum_15 (c_here I e kp nm W d hB hn hb J hq) rfl rfl ⟨by omega, Nat.le_of_eq (Nat.zero_add _), Nat.le_of_eq (Nat.zero_add _)⟩ (Nat.le_of_ble_eq_true rfl) rfl (fun r h9 hq => ?_)
    obtain ⟨rfl, rfl⟩ := hq
    rw [hs]
    show jb_J _ RX12 cX12_sum 4 (Option.some .int) false (D + 1) 0 0 18 [some (.ref 105), some (.int (jv_ nm c)), x2, x3] [.int (-1)] [s0, s1, s2, s3, s4, s5, s6, s7, s8, s9, jb_mdl I J d e kp nm W, s11] _
    refine jb_bipush (pc' := 20) 45 dX12_sum_18 (by decide) rfl ?_
    refine jb_icmp_ne (tgt := 62) (pc' := 23) dX12_sum_20 (by decide) rfl (fun _ => ?_) (fun z => absurd z (by decide))
    refine jb_iload_n (pc' := 63) dX12_sum_62 rfl rfl ?_
    refine jb_iret dX12_sum_63 rfl ?_
    have e8 : jp_lp B n 3 f 0 (a, true, c) = (a, true, c) := jp_lp_no (fun z => absurd (hs ▸ z.2 : jp_rk (-1) = 3) (by decide))
    rw [e8]
    exact ⟨J, ⟨a, rfl, Or.inl ⟨rfl, hq, rfl⟩⟩, rfl⟩
  | succ k ih =>
    intro a c J x2 x3 ha hk hc hq
    rcases jp_c3 (jp_lk B n a) with hs | hs | ⟨n0, n1, hr⟩
    · have ha1 : a < n := jp_in (fun z => by rw [hs] at z; exact absurd z (by decide))
      obtain ⟨q1, q2, q3, q4⟩ := hfo (a + 1) ha1
      show jb_J _ RX12 cX12_sum 4 (Option.some .int) false (D + 1) 0 0 5 [some (.ref 105), some (.int (jv_ nm c)), x2, x3] [] [s0, s1, s2, s3, s4, s5, s6, s7, s8, s9, jb_mdl I J d e kp nm W, s11] _
      refine jb_aload_n (pc' := 6) dX12_sum_5 rfl rfl ?_
      refine jb_callV (pc' := 9) (ci := 12) (q := 105) (As := []) (a2 := 0) (b2 := 0) wv_X12_75 rfl dX12_sum_6 (c_here I e kp nm W d hB hn hb J hq) rfl rfl ⟨by omega, Nat.le_of_eq (Nat.zero_add _), Nat.le_of_eq (Nat.zero_add _)⟩ (Nat.le_of_ble_eq_true rfl) rfl (fun r h9 hq => ?_)
      obtain ⟨rfl, rfl⟩ := hq
      rw [hs]
      show jb_J _ RX12 cX12_sum 4 (Option.some .int) false (D + 1) 0 0 9 [some (.ref 105), some (.int (jv_ nm c)), x2, x3] [.int 43] [s0, s1, s2, s3, s4, s5, s6, s7, s8, s9, jb_mdl I J d e kp nm W, s11] _
      refine jb_bipush (pc' := 11) 43 dX12_sum_9 (by decide) rfl ?_
      refine jb_icmp_eq (tgt := 23) (pc' := 14) dX12_sum_11 (by decide) rfl (fun _ => ?_) (fun z => absurd (by decide) z)
      refine jb_aload_n (pc' := 24) dX12_sum_23 rfl rfl ?_
      refine jb_callV (pc' := 27) (ci := 12) (q := 105) (As := []) (a2 := 0) (b2 := 0) wv_X12_75 rfl dX12_sum_24 (c_here I e kp nm W d hB hn hb J hq) rfl rfl ⟨by omega, Nat.le_of_eq (Nat.zero_add _), Nat.le_of_eq (Nat.zero_add _)⟩ (Nat.le_of_ble_eq_true rfl) rfl (fun r h9 hq => ?_)
      obtain ⟨rfl, rfl⟩ := hq
      rw [hs]
      show jb_J _ RX12 cX12_sum 4 (Option.some .int) false (D + 1) 0 0 27 [some (.ref 105), some (.int (jv_ nm c)), x2, x3] [.int 43] [s0, s1, s2, s3, s4, s5, s6, s7, s8, s9, jb_mdl I J d e kp nm W, s11] _
      refine jb_istore_n_ (pc' := 28) dX12_sum_27 (by decide) (jb_at2 rfl) rfl ?_
      refine jb_aload_n (pc' := 29) dX12_sum_28 rfl rfl ?_
      refine jb_dup (pc' := 30) dX12_sum_29 rfl rfl ?_
      refine gf_X12_62 (pc' := 33) (v := .int (J 1)) dX12_sum_30 rfl rfl rfl ?_
      refine jb_top (v := .int (J 1)) (w := .int (nI a)) (jb_vI hq.2.1) ?_
      refine jb_iconst (pc' := 34) 1 dX12_sum_33 (by decide) rfl ?_
      refine jb_iadd (pc' := 35) dX12_sum_34 rfl ?_
      refine jb_top (v := .int ((nI a) + 1)) (w := .int (nI (a + 1))) (jb_vI (nI_add _ 1)) ?_
      refine pf_X12_62 (pc' := 38) (h' := [s0, s1, s2, s3, s4, s5, s6, s7, s8, s9, jb_mdl I (upd J 1 (nI (a + 1))) d e kp nm W, s11]) dX12_sum_35 (fun _ => ⟨rfl, rfl⟩) rfl (Nat.le_of_ble_eq_true rfl) rfl rfl ?_
      refine jb_aload_n (pc' := 39) dX12_sum_38 rfl rfl ?_
      refine jb_callV (pc' := 42) (ci := 12) (q := 105) (As := []) (a2 := 0) (b2 := 0) wv_X12_96 rfl dX12_sum_39 (hf (upd J 1 (nI (a + 1))) (a + 1) (by omega) (hq.at (b := (a + 1)))) rfl rfl ⟨by omega, Nat.le_of_eq (Nat.zero_add _), Nat.le_of_eq (Nat.zero_add _)⟩ (Nat.le_of_ble_eq_true rfl) rfl (fun r h9 hq => ?_)
      rcases hq with ⟨J19, ⟨b1, hb1, ⟨hy1, hq1, rfl⟩ | ⟨hy1, v1, op1, hq1, rfl⟩⟩, rfl⟩
      · show jb_J _ RX12 cX12_sum 4 (Option.some .int) false (D + 1) 0 0 42 [some (.ref 105), some (.int (jv_ nm c)), some (.int 43), x3] [.int (jv_ nm (f (a + 1)).2.2)] [s0, s1, s2, s3, s4, s5, s6, s7, s8, s9, jb_mdl I J19 d e kp nm W, s11] _
        refine jb_istore_n_ (pc' := 43) dX12_sum_42 (by decide) (jb_at3 rfl) rfl ?_
        refine jb_iload_n (pc' := 44) dX12_sum_43 rfl rfl ?_
        refine jb_bipush (pc' := 46) 43 dX12_sum_44 (by decide) rfl ?_
        refine jb_icmp_ne (tgt := 55) (pc' := 49) dX12_sum_46 (by decide) rfl (fun z => absurd (by decide) z) (fun _ => ?_)
        refine jb_iload_n (pc' := 50) dX12_sum_49 rfl rfl ?_
        refine jb_iload_n (pc' := 51) dX12_sum_50 rfl rfl ?_
        refine jb_iadd (pc' := 52) dX12_sum_51 rfl ?_
        refine jb_goto (pc' := 58) dX12_sum_52 (by decide) ?_
        refine jb_istore_n_ (pc' := 59) dX12_sum_58 (by decide) (jb_at1 rfl) rfl ?_
        refine jb_goto (pc' := 5) dX12_sum_59 (by decide) ?_
        have e9 : jp_lp B n 3 f (k + 1) (a, true, c) = jp_lp B n 3 f k (b1, true, (c ++ (f (a + 1)).2.2 ++ [-43])) := by
          refine (jp_lp_go (x := (a, true, c)) rfl hs (by decide)).trans ?_
          show jp_lp B n 3 f k ((f (a + 1)).1, (f (a + 1)).2.1, c ++ (f (a + 1)).2.2 ++ [-43]) = _
          rw [hb1, hy1]
        have v9 : (jv_ nm c) + (jv_ nm (f (a + 1)).2.2) = jv_ nm (c ++ (f (a + 1)).2.2 ++ [-43]) := by
          rw [jv_bin (s := 43) (r := 3) hc (q4 hy1) (by decide) (by decide) nm, jw_j_43]
        refine jb_locs (congrArg (fun y9 => ([some (.ref 105), some (.int y9), some (.int 43), some (.int (jv_ nm (f (a + 1)).2.2))] : List (Option Value))) v9) ?_
        rw [e9]
        exact ih b1 (c ++ (f (a + 1)).2.2 ++ [-43]) J19 _ _ (by omega) (by omega) (jw_fbin hc (q4 hy1) (r := 3) (by decide) (by decide)) hq1
      · show jb_J _ RX12 cX12_sum 4 (Option.some .int) false (D + 1) 0 0 42 [some (.ref 105), some (.int (jv_ nm c)), some (.int 43), x3] [.int v1] [s0, s1, s2, s3, s4, s5, s6, s7, s8, s9, jb_mdl I J19 d e kp nm W, s11] _
        refine jb_istore_n_ (pc' := 43) dX12_sum_42 (by decide) (jb_at3 rfl) rfl ?_
        refine jb_iload_n (pc' := 44) dX12_sum_43 rfl rfl ?_
        refine jb_bipush (pc' := 46) 43 dX12_sum_44 (by decide) rfl ?_
        refine jb_icmp_ne (tgt := 55) (pc' := 49) dX12_sum_46 (by decide) rfl (fun z => absurd (by decide) z) (fun _ => ?_)
        refine jb_iload_n (pc' := 50) dX12_sum_49 rfl rfl ?_
        refine jb_iload_n (pc' := 51) dX12_sum_50 rfl rfl ?_
        refine jb_iadd (pc' := 52) dX12_sum_51 rfl ?_
        refine jb_goto (pc' := 58) dX12_sum_52 (by decide) ?_
        refine jb_istore_n_ (pc' := 59) dX12_sum_58 (by decide) (jb_at1 rfl) rfl ?_
        refine jb_goto (pc' := 5) dX12_sum_59 (by decide) ?_
        refine jb_aload_n (pc' := 6) dX12_sum_5 rfl rfl ?_
        refine jb_callV (pc' := 9) (ci := 12) (q := 105) (As := []) (a2 := 0) (b2 := 0) wv_X12_75 rfl dX12_sum_6 (c_hereF I e kp nm W J19 d hq1 (by omega)) rfl rfl ⟨by omega, Nat.le_of_eq (Nat.zero_add _), Nat.le_of_eq (Nat.zero_add _)⟩ (Nat.le_of_ble_eq_true rfl) rfl (fun r h9 hq => ?_)
        obtain ⟨rfl, rfl⟩ := hq
        show jb_J _ RX12 cX12_sum 4 (Option.some .int) false (D + 1) 0 0 9 [some (.ref 105), some (.int ((jv_ nm c) + v1)), some (.int 43), some (.int v1)] [.int (-1)] [s0, s1, s2, s3, s4, s5, s6, s7, s8, s9, jb_mdl I J19 d e kp nm W, s11] _
        refine jb_bipush (pc' := 11) 43 dX12_sum_9 (by decide) rfl ?_
        refine jb_icmp_eq (tgt := 23) (pc' := 14) dX12_sum_11 (by decide) rfl (fun z => absurd z (by decide)) (fun _ => ?_)
        refine jb_aload_n (pc' := 15) dX12_sum_14 rfl rfl ?_
        refine jb_callV (pc' := 18) (ci := 12) (q := 105) (As := []) (a2 := 0) (b2 := 0) wv_X12_75 rfl dX12_sum_15 (c_hereF I e kp nm W J19 d hq1 (by omega)) rfl rfl ⟨by omega, Nat.le_of_eq (Nat.zero_add _), Nat.le_of_eq (Nat.zero_add _)⟩ (Nat.le_of_ble_eq_true rfl) rfl (fun r h9 hq => ?_)
        obtain ⟨rfl, rfl⟩ := hq
        show jb_J _ RX12 cX12_sum 4 (Option.some .int) false (D + 1) 0 0 18 [some (.ref 105), some (.int ((jv_ nm c) + v1)), some (.int 43), some (.int v1)] [.int (-1)] [s0, s1, s2, s3, s4, s5, s6, s7, s8, s9, jb_mdl I J19 d e kp nm W, s11] _
        refine jb_bipush (pc' := 20) 45 dX12_sum_18 (by decide) rfl ?_
        refine jb_icmp_ne (tgt := 62) (pc' := 23) dX12_sum_20 (by decide) rfl (fun _ => ?_) (fun z => absurd z (by decide))
        refine jb_iload_n (pc' := 63) dX12_sum_62 rfl rfl ?_
        refine jb_iret dX12_sum_63 rfl ?_
        have e8 : jp_lp B n 3 f (k + 1) (a, true, c) = (b1, false, c ++ (f (a + 1)).2.2 ++ [-43]) := by
          refine (jp_lp_go (x := (a, true, c)) rfl hs (by decide)).trans ?_
          refine (jp_lp_no (fun z => ?_)).trans ?_
          · have z1 : (f (a + 1)).2.1 = true := z.1
            rw [hy1] at z1; cases z1
          · show ((f (a + 1)).1, (f (a + 1)).2.1, c ++ (f (a + 1)).2.2 ++ [-43]) = _
            rw [hb1, hy1]
        rw [e8]
        exact ⟨J19, ⟨b1, rfl, Or.inr ⟨rfl, _, _, hq1, rfl⟩⟩, rfl⟩
    · have ha1 : a < n := jp_in (fun z => by rw [hs] at z; exact absurd z (by decide))
      obtain ⟨q1, q2, q3, q4⟩ := hfo (a + 1) ha1
      show jb_J _ RX12 cX12_sum 4 (Option.some .int) false (D + 1) 0 0 5 [some (.ref 105), some (.int (jv_ nm c)), x2, x3] [] [s0, s1, s2, s3, s4, s5, s6, s7, s8, s9, jb_mdl I J d e kp nm W, s11] _
      refine jb_aload_n (pc' := 6) dX12_sum_5 rfl rfl ?_
      refine jb_callV (pc' := 9) (ci := 12) (q := 105) (As := []) (a2 := 0) (b2 := 0) wv_X12_75 rfl dX12_sum_6 (c_here I e kp nm W d hB hn hb J hq) rfl rfl ⟨by omega, Nat.le_of_eq (Nat.zero_add _), Nat.le_of_eq (Nat.zero_add _)⟩ (Nat.le_of_ble_eq_true rfl) rfl (fun r h9 hq => ?_)
      obtain ⟨rfl, rfl⟩ := hq
      rw [hs]
      show jb_J _ RX12 cX12_sum 4 (Option.some .int) false (D + 1) 0 0 9 [some (.ref 105), some (.int (jv_ nm c)), x2, x3] [.int 45] [s0, s1, s2, s3, s4, s5, s6, s7, s8, s9, jb_mdl I J d e kp nm W, s11] _
      refine jb_bipush (pc' := 11) 43 dX12_sum_9 (by decide) rfl ?_
      refine jb_icmp_eq (tgt := 23) (pc' := 14) dX12_sum_11 (by decide) rfl (fun z => absurd z (by decide)) (fun _ => ?_)
      refine jb_aload_n (pc' := 15) dX12_sum_14 rfl rfl ?_
      refine jb_callV (pc' := 18) (ci := 12) (q := 105) (As := []) (a2 := 0) (b2 := 0) wv_X12_75 rfl dX12_sum_15 (c_here I e kp nm W d hB hn hb J hq) rfl rfl ⟨by omega, Nat.le_of_eq (Nat.zero_add _), Nat.le_of_eq (Nat.zero_add _)⟩ (Nat.le_of_ble_eq_true rfl) rfl (fun r h9 hq => ?_)
      obtain ⟨rfl, rfl⟩ := hq
      rw [hs]
      show jb_J _ RX12 cX12_sum 4 (Option.some .int) false (D + 1) 0 0 18 [some (.ref 105), some (.int (jv_ nm c)), x2, x3] [.int 45] [s0, s1, s2, s3, s4, s5, s6, s7, s8, s9, jb_mdl I J d e kp nm W, s11] _
      refine jb_bipush (pc' := 20) 45 dX12_sum_18 (by decide) rfl ?_
      refine jb_icmp_ne (tgt := 62) (pc' := 23) dX12_sum_20 (by decide) rfl (fun z => absurd (by decide) z) (fun _ => ?_)
      refine jb_aload_n (pc' := 24) dX12_sum_23 rfl rfl ?_
      refine jb_callV (pc' := 27) (ci := 12) (q := 105) (As := []) (a2 := 0) (b2 := 0) wv_X12_75 rfl dX12_sum_24 (c_here I e kp nm W d hB hn hb J hq) rfl rfl ⟨by omega, Nat.le_of_eq (Nat.zero_add _), Nat.le_of_eq (Nat.zero_add _)⟩ (Nat.le_of_ble_eq_true rfl) rfl (fun r h9 hq => ?_)
      obtain ⟨rfl, rfl⟩ := hq
      rw [hs]
      show jb_J _ RX12 cX12_sum 4 (Option.some .int) false (D + 1) 0 0 27 [some (.ref 105), some (.int (jv_ nm c)), x2, x3] [.int 45] [s0, s1, s2, s3, s4, s5, s6, s7, s8, s9, jb_mdl I J d e kp nm W, s11] _
      refine jb_istore_n_ (pc' := 28) dX12_sum_27 (by decide) (jb_at2 rfl) rfl ?_
      refine jb_aload_n (pc' := 29) dX12_sum_28 rfl rfl ?_
      refine jb_dup (pc' := 30) dX12_sum_29 rfl rfl ?_
      refine gf_X12_62 (pc' := 33) (v := .int (J 1)) dX12_sum_30 rfl rfl rfl ?_
      refine jb_top (v := .int (J 1)) (w := .int (nI a)) (jb_vI hq.2.1) ?_
      refine jb_iconst (pc' := 34) 1 dX12_sum_33 (by decide) rfl ?_
      refine jb_iadd (pc' := 35) dX12_sum_34 rfl ?_
      refine jb_top (v := .int ((nI a) + 1)) (w := .int (nI (a + 1))) (jb_vI (nI_add _ 1)) ?_
      refine pf_X12_62 (pc' := 38) (h' := [s0, s1, s2, s3, s4, s5, s6, s7, s8, s9, jb_mdl I (upd J 1 (nI (a + 1))) d e kp nm W, s11]) dX12_sum_35 (fun _ => ⟨rfl, rfl⟩) rfl (Nat.le_of_ble_eq_true rfl) rfl rfl ?_
      refine jb_aload_n (pc' := 39) dX12_sum_38 rfl rfl ?_
      refine jb_callV (pc' := 42) (ci := 12) (q := 105) (As := []) (a2 := 0) (b2 := 0) wv_X12_96 rfl dX12_sum_39 (hf (upd J 1 (nI (a + 1))) (a + 1) (by omega) (hq.at (b := (a + 1)))) rfl rfl ⟨by omega, Nat.le_of_eq (Nat.zero_add _), Nat.le_of_eq (Nat.zero_add _)⟩ (Nat.le_of_ble_eq_true rfl) rfl (fun r h9 hq => ?_)
      rcases hq with ⟨J19, ⟨b1, hb1, ⟨hy1, hq1, rfl⟩ | ⟨hy1, v1, op1, hq1, rfl⟩⟩, rfl⟩
      · show jb_J _ RX12 cX12_sum 4 (Option.some .int) false (D + 1) 0 0 42 [some (.ref 105), some (.int (jv_ nm c)), some (.int 45), x3] [.int (jv_ nm (f (a + 1)).2.2)] [s0, s1, s2, s3, s4, s5, s6, s7, s8, s9, jb_mdl I J19 d e kp nm W, s11] _
        refine jb_istore_n_ (pc' := 43) dX12_sum_42 (by decide) (jb_at3 rfl) rfl ?_
        refine jb_iload_n (pc' := 44) dX12_sum_43 rfl rfl ?_
        refine jb_bipush (pc' := 46) 43 dX12_sum_44 (by decide) rfl ?_
        refine jb_icmp_ne (tgt := 55) (pc' := 49) dX12_sum_46 (by decide) rfl (fun _ => ?_) (fun z => absurd z (by decide))
        refine jb_iload_n (pc' := 56) dX12_sum_55 rfl rfl ?_
        refine jb_iload_n (pc' := 57) dX12_sum_56 rfl rfl ?_
        refine jb_isub (pc' := 58) dX12_sum_57 rfl ?_
        refine jb_istore_n_ (pc' := 59) dX12_sum_58 (by decide) (jb_at1 rfl) rfl ?_
        refine jb_goto (pc' := 5) dX12_sum_59 (by decide) ?_
        have e9 : jp_lp B n 3 f (k + 1) (a, true, c) = jp_lp B n 3 f k (b1, true, (c ++ (f (a + 1)).2.2 ++ [-45])) := by
          refine (jp_lp_go (x := (a, true, c)) rfl hs (by decide)).trans ?_
          show jp_lp B n 3 f k ((f (a + 1)).1, (f (a + 1)).2.1, c ++ (f (a + 1)).2.2 ++ [-45]) = _
          rw [hb1, hy1]
        have v9 : (jv_ nm c) - (jv_ nm (f (a + 1)).2.2) = jv_ nm (c ++ (f (a + 1)).2.2 ++ [-45]) := by
          rw [jv_bin (s := 45) (r := 3) hc (q4 hy1) (by decide) (by decide) nm, jw_j_45]
        refine jb_locs (congrArg (fun y9 => ([some (.ref 105), some (.int y9), some (.int 45), some (.int (jv_ nm (f (a + 1)).2.2))] : List (Option Value))) v9) ?_
        rw [e9]
        exact ih b1 (c ++ (f (a + 1)).2.2 ++ [-45]) J19 _ _ (by omega) (by omega) (jw_fbin hc (q4 hy1) (r := 3) (by decide) (by decide)) hq1
      · show jb_J _ RX12 cX12_sum 4 (Option.some .int) false (D + 1) 0 0 42 [some (.ref 105), some (.int (jv_ nm c)), some (.int 45), x3] [.int v1] [s0, s1, s2, s3, s4, s5, s6, s7, s8, s9, jb_mdl I J19 d e kp nm W, s11] _
        refine jb_istore_n_ (pc' := 43) dX12_sum_42 (by decide) (jb_at3 rfl) rfl ?_
        refine jb_iload_n (pc' := 44) dX12_sum_43 rfl rfl ?_
        refine jb_bipush (pc' := 46) 43 dX12_sum_44 (by decide) rfl ?_
        refine jb_icmp_ne (tgt := 55) (pc' := 49) dX12_sum_46 (by decide) rfl (fun _ => ?_) (fun z => absurd z (by decide))
        refine jb_iload_n (pc' := 56) dX12_sum_55 rfl rfl ?_
        refine jb_iload_n (pc' := 57) dX12_sum_56 rfl rfl ?_
        refine jb_isub (pc' := 58) dX12_sum_57 rfl ?_
        refine jb_istore_n_ (pc' := 59) dX12_sum_58 (by decide) (jb_at1 rfl) rfl ?_
        refine jb_goto (pc' := 5) dX12_sum_59 (by decide) ?_
        refine jb_aload_n (pc' := 6) dX12_sum_5 rfl rfl ?_
        refine jb_callV (pc' := 9) (ci := 12) (q := 105) (As := []) (a2 := 0) (b2 := 0) wv_X12_75 rfl dX12_sum_6 (c_hereF I e kp nm W J19 d hq1 (by omega)) rfl rfl ⟨by omega, Nat.le_of_eq (Nat.zero_add _), Nat.le_of_eq (Nat.zero_add _)⟩ (Nat.le_of_ble_eq_true rfl) rfl (fun r h9 hq => ?_)
        obtain ⟨rfl, rfl⟩ := hq
        show jb_J _ RX12 cX12_sum 4 (Option.some .int) false (D + 1) 0 0 9 [some (.ref 105), some (.int ((jv_ nm c) - v1)), some (.int 45), some (.int v1)] [.int (-1)] [s0, s1, s2, s3, s4, s5, s6, s7, s8, s9, jb_mdl I J19 d e kp nm W, s11] _
        refine jb_bipush (pc' := 11) 43 dX12_sum_9 (by decide) rfl ?_
        refine jb_icmp_eq (tgt := 23) (pc' := 14) dX12_sum_11 (by decide) rfl (fun z => absurd z (by decide)) (fun _ => ?_)
        refine jb_aload_n (pc' := 15) dX12_sum_14 rfl rfl ?_
        refine jb_callV (pc' := 18) (ci := 12) (q := 105) (As := []) (a2 := 0) (b2 := 0) wv_X12_75 rfl dX12_sum_15 (c_hereF I e kp nm W J19 d hq1 (by omega)) rfl rfl ⟨by omega, Nat.le_of_eq (Nat.zero_add _), Nat.le_of_eq (Nat.zero_add _)⟩ (Nat.le_of_ble_eq_true rfl) rfl (fun r h9 hq => ?_)
        obtain ⟨rfl, rfl⟩ := hq
        show jb_J _ RX12 cX12_sum 4 (Option.some .int) false (D + 1) 0 0 18 [some (.ref 105), some (.int ((jv_ nm c) - v1)), some (.int 45), some (.int v1)] [.int (-1)] [s0, s1, s2, s3, s4, s5, s6, s7, s8, s9, jb_mdl I J19 d e kp nm W, s11] _
        refine jb_bipush (pc' := 20) 45 dX12_sum_18 (by decide) rfl ?_
        refine jb_icmp_ne (tgt := 62) (pc' := 23) dX12_sum_20 (by decide) rfl (fun _ => ?_) (fun z => absurd z (by decide))
        refine jb_iload_n (pc' := 63) dX12_sum_62 rfl rfl ?_
        refine jb_iret dX12_sum_63 rfl ?_
        have e8 : jp_lp B n 3 f (k + 1) (a, true, c) = (b1, false, c ++ (f (a + 1)).2.2 ++ [-45]) := by
          refine (jp_lp_go (x := (a, true, c)) rfl hs (by decide)).trans ?_
          refine (jp_lp_no (fun z => ?_)).trans ?_
          · have z1 : (f (a + 1)).2.1 = true := z.1
            rw [hy1] at z1; cases z1
          · show ((f (a + 1)).1, (f (a + 1)).2.1, c ++ (f (a + 1)).2.2 ++ [-45]) = _
            rw [hb1, hy1]
        rw [e8]
        exact ⟨J19, ⟨b1, rfl, Or.inr ⟨rfl, _, _, hq1, rfl⟩⟩, rfl⟩
    · show jb_J _ RX12 cX12_sum 4 (Option.some .int) false (D + 1) 0 0 5 [some (.ref 105), some (.int (jv_ nm c)), x2, x3] [] [s0, s1, s2, s3, s4, s5, s6, s7, s8, s9, jb_mdl I J d e kp nm W, s11] _
      refine jb_aload_n (pc' := 6) dX12_sum_5 rfl rfl ?_
      refine jb_callV (pc' := 9) (ci := 12) (q := 105) (As := []) (a2 := 0) (b2 := 0) wv_X12_75 rfl dX12_sum_6 (c_here I e kp nm W d hB hn hb J hq) rfl rfl ⟨by omega, Nat.le_of_eq (Nat.zero_add _), Nat.le_of_eq (Nat.zero_add _)⟩ (Nat.le_of_ble_eq_true rfl) rfl (fun r h9 hq => ?_)
      obtain ⟨rfl, rfl⟩ := hq
      show jb_J _ RX12 cX12_sum 4 (Option.some .int) false (D + 1) 0 0 9 [some (.ref 105), some (.int (jv_ nm c)), x2, x3] [.int (jp_lk B n a)] [s0, s1, s2, s3, s4, s5, s6, s7, s8, s9, jb_mdl I J d e kp nm W, s11] _
      refine jb_bipush (pc' := 11) 43 dX12_sum_9 (by decide) rfl ?_
      refine jb_icmp_eq (tgt := 23) (pc' := 14) dX12_sum_11 (by decide) rfl (fun z => absurd z n0) (fun _ => ?_)
      refine jb_aload_n (pc' := 15) dX12_sum_14 rfl rfl ?_
      refine jb_callV (pc' := 18) (ci := 12) (q := 105) (As := []) (a2 := 0) (b2 := 0) wv_X12_75 rfl dX12_sum_15 (c_here I e kp nm W d hB hn hb J hq) rfl rfl ⟨by omega, Nat.le_of_eq (Nat.zero_add _), Nat.le_of_eq (Nat.zero_add _)⟩ (Nat.le_of_ble_eq_true rfl) rfl (fun r h9 hq => ?_)
      obtain ⟨rfl, rfl⟩ := hq
      show jb_J _ RX12 cX12_sum 4 (Option.some .int) false (D + 1) 0 0 18 [some (.ref 105), some (.int (jv_ nm c)), x2, x3] [.int (jp_lk B n a)] [s0, s1, s2, s3, s4, s5, s6, s7, s8, s9, jb_mdl I J d e kp nm W, s11] _
      refine jb_bipush (pc' := 20) 45 dX12_sum_18 (by decide) rfl ?_
      refine jb_icmp_ne (tgt := 62) (pc' := 23) dX12_sum_20 (by decide) rfl (fun _ => ?_) (fun z => absurd z n1)
      refine jb_iload_n (pc' := 63) dX12_sum_62 rfl rfl ?_
      refine jb_iret dX12_sum_63 rfl ?_
      have e8 : jp_lp B n 3 f (k + 1) (a, true, c) = (a, true, c) := jp_lp_no (fun z => hr z.2)
      rw [e8]
      exact ⟨J, ⟨a, rfl, Or.inl ⟨rfl, hq, rfl⟩⟩, rfl⟩
set_option maxRecDepth 100000 in
set_option maxHeartbeats 4000000 in
theorem c_summ {sc : Nat × (Nat → Int32)} {s0 s1 s2 s3 s4 s5 s6 s7 s8 s9 s11 : List va_E} (I e kp nm : Nat → Int32) (W : Nat → Nat → Int32) {B : Nat → Int32} {base n u : Nat} (d : Nat → Int32) (hB : ∀ k, k < n → d (base + k) = B k) (hn : n ≤ 50) (hb : base ≤ 438) (op : Int32) (f : Nat → jp_R) (hfo : ∀ a, a ≤ n → jp_ok n a (f a)) (D : Nat) (hD : 1 ≤ D) (hf : jq_F sc s0 s1 s2 s3 s4 s5 s6 s7 s8 s9 s11 I e kp nm W d base n u op yX12_product cX12_product 4 D f) : jq_F sc s0 s1 s2 s3 s4 s5 s6 s7 s8 s9 s11 I e kp nm W d base n u op yX12_sum cX12_sum 4 (D + 1) (fun a => jp_lp B n 3 f 50 (f a)) := by
  intro J a ha hq
  show jb_C sc yX12_sum cX12_sum 4 (Option.some .int) (D + 1) 0 0 [.ref 105] [s0, s1, s2, s3, s4, s5, s6, s7, s8, s9, jb_mdl I J d e kp nm W, s11] (fun r h9 => ∃ J9, jq_P nm base n u op (jp_lp B n 3 f 50 (f a)) r J9 ∧ h9 = [s0, s1, s2, s3, s4, s5, s6, s7, s8, s9, jb_mdl I J9 d e kp nm W, s11])
  refine jb_CofJ (ini := false) (by decide +kernel) (fun h => by cases h) (Nat.le_of_ble_eq_true rfl) ?_
  obtain ⟨q1, q2, q3, q4⟩ := hfo a ha
  show jb_J _ RX12 cX12_sum 4 (Option.some .int) false (D + 1) 0 0 0 [some (.ref 105), none, none, none] [] [s0, s1, s2, s3, s4, s5, s6, s7, s8, s9, jb_mdl I J d e kp nm W, s11] _
  refine jb_aload_n (pc' := 1) dX12_sum_0 rfl rfl ?_
  refine jb_callV (pc' := 4) (ci := 12) (q := 105) (As := []) (a2 := 0) (b2 := 0) wv_X12_96 rfl dX12_sum_1 (hf J a (by omega) hq) rfl rfl ⟨by omega, Nat.le_of_eq (Nat.zero_add _), Nat.le_of_eq (Nat.zero_add _)⟩ (Nat.le_of_ble_eq_true rfl) rfl (fun r h9 hq => ?_)
  rcases hq with ⟨J19, ⟨b1, hb1, ⟨hy1, hq1, rfl⟩ | ⟨hy1, v1, op1, hq1, rfl⟩⟩, rfl⟩
  · show jb_J _ RX12 cX12_sum 4 (Option.some .int) false (D + 1) 0 0 4 [some (.ref 105), none, none, none] [.int (jv_ nm (f a).2.2)] [s0, s1, s2, s3, s4, s5, s6, s7, s8, s9, jb_mdl I J19 d e kp nm W, s11] _
    refine jb_istore_n_ (pc' := 5) dX12_sum_4 (by decide) (jb_at1 rfl) rfl ?_
    have ef : f a = (b1, true, (f a).2.2) := jp_eta hb1 hy1
    have eF : jp_lp B n 3 f 50 (f a) = jp_lp B n 3 f 50 (b1, true, (f a).2.2) := congrArg (jp_lp B n 3 f 50) ef
    rw [eF]
    exact l_summ I e kp nm W d hB hn hb op f hfo D hD hf 50 b1 (f a).2.2 J19 _ _ (by omega) (by omega) (q4 hy1) hq1
  · show jb_J _ RX12 cX12_sum 4 (Option.some .int) false (D + 1) 0 0 4 [some (.ref 105), none, none, none] [.int v1] [s0, s1, s2, s3, s4, s5, s6, s7, s8, s9, jb_mdl I J19 d e kp nm W, s11] _
    refine jb_istore_n_ (pc' := 5) dX12_sum_4 (by decide) (jb_at1 rfl) rfl ?_
    refine jb_aload_n (pc' := 6) dX12_sum_5 rfl rfl ?_
    refine jb_callV (pc' := 9) (ci := 12) (q := 105) (As := []) (a2 := 0) (b2 := 0) wv_X12_75 rfl dX12_sum_6 (c_hereF I e kp nm W J19 d hq1 (by omega)) rfl rfl ⟨by omega, Nat.le_of_eq (Nat.zero_add _), Nat.le_of_eq (Nat.zero_add _)⟩ (Nat.le_of_ble_eq_true rfl) rfl (fun r h9 hq => ?_)
    obtain ⟨rfl, rfl⟩ := hq
    show jb_J _ RX12 cX12_sum 4 (Option.some .int) false (D + 1) 0 0 9 [some (.ref 105), some (.int v1), none, none] [.int (-1)] [s0, s1, s2, s3, s4, s5, s6, s7, s8, s9, jb_mdl I J19 d e kp nm W, s11] _
    refine jb_bipush (pc' := 11) 43 dX12_sum_9 (by decide) rfl ?_
    refine jb_icmp_eq (tgt := 23) (pc' := 14) dX12_sum_11 (by decide) rfl (fun z => absurd z (by decide)) (fun _ => ?_)
    refine jb_aload_n (pc' := 15) dX12_sum_14 rfl rfl ?_
    refine jb_callV (pc' := 18) (ci := 12) (q := 105) (As := []) (a2 := 0) (b2 := 0) wv_X12_75 rfl dX12_sum_15 (c_hereF I e kp nm W J19 d hq1 (by omega)) rfl rfl ⟨by omega, Nat.le_of_eq (Nat.zero_add _), Nat.le_of_eq (Nat.zero_add _)⟩ (Nat.le_of_ble_eq_true rfl) rfl (fun r h9 hq => ?_)
    obtain ⟨rfl, rfl⟩ := hq
    show jb_J _ RX12 cX12_sum 4 (Option.some .int) false (D + 1) 0 0 18 [some (.ref 105), some (.int v1), none, none] [.int (-1)] [s0, s1, s2, s3, s4, s5, s6, s7, s8, s9, jb_mdl I J19 d e kp nm W, s11] _
    refine jb_bipush (pc' := 20) 45 dX12_sum_18 (by decide) rfl ?_
    refine jb_icmp_ne (tgt := 62) (pc' := 23) dX12_sum_20 (by decide) rfl (fun _ => ?_) (fun z => absurd z (by decide))
    refine jb_iload_n (pc' := 63) dX12_sum_62 rfl rfl ?_
    refine jb_iret dX12_sum_63 rfl ?_
    have e8 : jp_lp B n 3 f 50 (f a) = f a := jp_lp_no (fun z => by have z1 := z.1; rw [hy1] at z1; cases z1)
    rw [e8]
    exact ⟨J19, ⟨b1, hb1, Or.inr ⟨hy1, _, _, hq1, rfl⟩⟩, rfl⟩
set_option maxRecDepth 100000 in
set_option maxHeartbeats 4000000 in
theorem l_comparedm {sc : Nat × (Nat → Int32)} {s0 s1 s2 s3 s4 s5 s6 s7 s8 s9 s11 : List va_E} (I e kp nm : Nat → Int32) (W : Nat → Nat → Int32) {B : Nat → Int32} {base n u : Nat} (d : Nat → Int32) (hB : ∀ k, k < n → d (base + k) = B k) (hn : n ≤ 50) (hb : base ≤ 438) (op : Int32) (f : Nat → jp_R) (hfo : ∀ a, a ≤ n → jp_ok n a (f a)) (D : Nat) (hD : 1 ≤ D) (hf : jq_F sc s0 s1 s2 s3 s4 s5 s6 s7 s8 s9 s11 I e kp nm W d base n u op yX12_sum cX12_sum 4 D f) : ∀ (a : Nat) (c : List Int32) (J : Nat → Int32) (x2 x3 : Option Value), a ≤ n → jw_f c → jq_ J base n u a op (-1) → jb_J sc RX12 cX12_compared 4 (Option.some .int) false (D + 1) 0 0 5 [some (.ref 105), some (.int (jv_ nm c)), x2, x3] [] [s0, s1, s2, s3, s4, s5, s6, s7, s8, s9, jb_mdl I J d e kp nm W, s11] (fun r h9 => ∃ J9, jq_P nm base n u op (jp_lp B n 2 f 1 (a, true, c)) r J9 ∧ h9 = [s0, s1, s2, s3, s4, s5, s6, s7, s8, s9, jb_mdl I J9 d e kp nm W, s11]) := by
    intro a c J x2 x3 ha hc hq
    rcases jp_c2 (jp_lk B n a) with hs | hs | hs | ⟨n0, n1, n2, hr⟩
    · have ha1 : a < n := jp_in (fun z => by rw [hs] at z; exact absurd z (by decide))
      obtain ⟨q1, q2, q3, q4⟩ := hfo (a + 1) ha1
      show jb_J _ RX12 cX12_compared 4 (Option.some .int) false (D + 1) 0 0 5 [some (.ref 105), some (.int (jv_ nm c)), x2, x3] [] [s0, s1, s2, s3, s4, s5, s6, s7, s8, s9, jb_mdl I J d e kp nm W, s11] _
      refine jb_aload_n (pc' := 6) dX12_compared_5 rfl rfl ?_
      refine jb_callV (pc' := 9) (ci := 12) (q := 105) (As := []) (a2 := 0) (b2 := 0) wv_X12_75 rfl dX12_compared_6 (c_here I e kp nm W d hB hn hb J hq) rfl rfl ⟨by omega, Nat.le_of_eq (Nat.zero_add _), Nat.le_of_eq (Nat.zero_add _)⟩ (Nat.le_of_ble_eq_true rfl) rfl (fun r h9 hq => ?_)
      obtain ⟨rfl, rfl⟩ := hq
      rw [hs]
      show jb_J _ RX12 cX12_compared 4 (Option.some .int) false (D + 1) 0 0 9 [some (.ref 105), some (.int (jv_ nm c)), x2, x3] [.int 60] [s0, s1, s2, s3, s4, s5, s6, s7, s8, s9, jb_mdl I J d e kp nm W, s11] _
      refine jb_istore_n_ (pc' := 10) dX12_compared_9 (by decide) (jb_at2 rfl) rfl ?_
      refine jb_iload_n (pc' := 11) dX12_compared_10 rfl rfl ?_
      refine jb_bipush (pc' := 13) 60 dX12_compared_11 (by decide) rfl ?_
      refine jb_icmp_eq (tgt := 30) (pc' := 16) dX12_compared_13 (by decide) rfl (fun _ => ?_) (fun z => absurd (by decide) z)
      refine jb_aload_n (pc' := 31) dX12_compared_30 rfl rfl ?_
      refine jb_dup (pc' := 32) dX12_compared_31 rfl rfl ?_
      refine gf_X12_62 (pc' := 35) (v := .int (J 1)) dX12_compared_32 rfl rfl rfl ?_
      refine jb_top (v := .int (J 1)) (w := .int (nI a)) (jb_vI hq.2.1) ?_
      refine jb_iconst (pc' := 36) 1 dX12_compared_35 (by decide) rfl ?_
      refine jb_iadd (pc' := 37) dX12_compared_36 rfl ?_
      refine jb_top (v := .int ((nI a) + 1)) (w := .int (nI (a + 1))) (jb_vI (nI_add _ 1)) ?_
      refine pf_X12_62 (pc' := 40) (h' := [s0, s1, s2, s3, s4, s5, s6, s7, s8, s9, jb_mdl I (upd J 1 (nI (a + 1))) d e kp nm W, s11]) dX12_compared_37 (fun _ => ⟨rfl, rfl⟩) rfl (Nat.le_of_ble_eq_true rfl) rfl rfl ?_
      refine jb_aload_n (pc' := 41) dX12_compared_40 rfl rfl ?_
      refine jb_callV (pc' := 44) (ci := 12) (q := 105) (As := []) (a2 := 0) (b2 := 0) wv_X12_93 rfl dX12_compared_41 (hf (upd J 1 (nI (a + 1))) (a + 1) (by omega) (hq.at (b := (a + 1)))) rfl rfl ⟨by omega, Nat.le_of_eq (Nat.zero_add _), Nat.le_of_eq (Nat.zero_add _)⟩ (Nat.le_of_ble_eq_true rfl) rfl (fun r h9 hq => ?_)
      rcases hq with ⟨J19, ⟨b1, hb1, ⟨hy1, hq1, rfl⟩ | ⟨hy1, v1, op1, hq1, rfl⟩⟩, rfl⟩
      · show jb_J _ RX12 cX12_compared 4 (Option.some .int) false (D + 1) 0 0 44 [some (.ref 105), some (.int (jv_ nm c)), some (.int 60), x3] [.int (jv_ nm (f (a + 1)).2.2)] [s0, s1, s2, s3, s4, s5, s6, s7, s8, s9, jb_mdl I J19 d e kp nm W, s11] _
        refine jb_istore_n_ (pc' := 45) dX12_compared_44 (by decide) (jb_at3 rfl) rfl ?_
        refine jb_iload_n (pc' := 46) dX12_compared_45 rfl rfl ?_
        refine jb_bipush (pc' := 48) 60 dX12_compared_46 (by decide) rfl ?_
        refine jb_icmp_ne (tgt := 59) (pc' := 51) dX12_compared_48 (by decide) rfl (fun z => absurd (by decide) z) (fun _ => ?_)
        refine jb_iload_n (pc' := 52) dX12_compared_51 rfl rfl ?_
        refine jb_iload_n (pc' := 53) dX12_compared_52 rfl rfl ?_
        refine jb_icmp_ge (tgt := 82) (pc' := 56) dX12_compared_53 (by decide) rfl (fun c3 => ?_) (fun c3 => ?_)
        · refine jb_iconst (pc' := 83) 0 dX12_compared_82 (by decide) rfl ?_
          refine jb_iret dX12_compared_83 rfl ?_
          have e8 : jp_lp B n 2 f 1 (a, true, c) = (b1, true, (c ++ (f (a + 1)).2.2 ++ [-60])) := by
            refine (jp_lp_go (x := (a, true, c)) rfl hs (by decide)).trans ?_
            show ((f (a + 1)).1, (f (a + 1)).2.1, c ++ (f (a + 1)).2.2 ++ [-60]) = _
            rw [hb1, hy1]
          have v9 : 0 = jv_ nm (c ++ (f (a + 1)).2.2 ++ [-60]) := by
            rw [jv_bin (s := 60) (r := 2) hc (q4 hy1) (by decide) (by decide) nm, jw_j_60]
            first | exact (if_neg (Int32.not_lt.mpr (by assumption))).symm | exact (if_pos (Int32.not_le.mp (by assumption))).symm
          rw [e8]
          exact ⟨J19, ⟨b1, rfl, Or.inl ⟨rfl, hq1, congrArg (fun y9 => some (Value.int y9)) v9⟩⟩, rfl⟩
        · refine jb_goto (pc' := 78) dX12_compared_56 (by decide) ?_
          refine jb_iconst (pc' := 79) 1 dX12_compared_78 (by decide) rfl ?_
          refine jb_goto (pc' := 83) dX12_compared_79 (by decide) ?_
          refine jb_iret dX12_compared_83 rfl ?_
          have e8 : jp_lp B n 2 f 1 (a, true, c) = (b1, true, (c ++ (f (a + 1)).2.2 ++ [-60])) := by
            refine (jp_lp_go (x := (a, true, c)) rfl hs (by decide)).trans ?_
            show ((f (a + 1)).1, (f (a + 1)).2.1, c ++ (f (a + 1)).2.2 ++ [-60]) = _
            rw [hb1, hy1]
          have v9 : 1 = jv_ nm (c ++ (f (a + 1)).2.2 ++ [-60]) := by
            rw [jv_bin (s := 60) (r := 2) hc (q4 hy1) (by decide) (by decide) nm, jw_j_60]
            first | exact (if_neg (Int32.not_lt.mpr (by assumption))).symm | exact (if_pos (Int32.not_le.mp (by assumption))).symm
          rw [e8]
          exact ⟨J19, ⟨b1, rfl, Or.inl ⟨rfl, hq1, congrArg (fun y9 => some (Value.int y9)) v9⟩⟩, rfl⟩
      · show jb_J _ RX12 cX12_compared 4 (Option.some .int) false (D + 1) 0 0 44 [some (.ref 105), some (.int (jv_ nm c)), some (.int 60), x3] [.int v1] [s0, s1, s2, s3, s4, s5, s6, s7, s8, s9, jb_mdl I J19 d e kp nm W, s11] _
        refine jb_istore_n_ (pc' := 45) dX12_compared_44 (by decide) (jb_at3 rfl) rfl ?_
        refine jb_iload_n (pc' := 46) dX12_compared_45 rfl rfl ?_
        refine jb_bipush (pc' := 48) 60 dX12_compared_46 (by decide) rfl ?_
        refine jb_icmp_ne (tgt := 59) (pc' := 51) dX12_compared_48 (by decide) rfl (fun z => absurd (by decide) z) (fun _ => ?_)
        refine jb_iload_n (pc' := 52) dX12_compared_51 rfl rfl ?_
        refine jb_iload_n (pc' := 53) dX12_compared_52 rfl rfl ?_
        refine jb_icmp_ge (tgt := 82) (pc' := 56) dX12_compared_53 (by decide) rfl (fun c5 => ?_) (fun c5 => ?_)
        · refine jb_iconst (pc' := 83) 0 dX12_compared_82 (by decide) rfl ?_
          refine jb_iret dX12_compared_83 rfl ?_
          have e8 : jp_lp B n 2 f 1 (a, true, c) = (b1, false, c ++ (f (a + 1)).2.2 ++ [-60]) := by
            refine (jp_lp_go (x := (a, true, c)) rfl hs (by decide)).trans ?_
            refine (jp_lp_no (fun z => ?_)).trans ?_
            · have z1 : (f (a + 1)).2.1 = true := z.1
              rw [hy1] at z1; cases z1
            · show ((f (a + 1)).1, (f (a + 1)).2.1, c ++ (f (a + 1)).2.2 ++ [-60]) = _
              rw [hb1, hy1]
          rw [e8]
          exact ⟨J19, ⟨b1, rfl, Or.inr ⟨rfl, _, _, hq1, rfl⟩⟩, rfl⟩
        · refine jb_goto (pc' := 78) dX12_compared_56 (by decide) ?_
          refine jb_iconst (pc' := 79) 1 dX12_compared_78 (by decide) rfl ?_
          refine jb_goto (pc' := 83) dX12_compared_79 (by decide) ?_
          refine jb_iret dX12_compared_83 rfl ?_
          have e8 : jp_lp B n 2 f 1 (a, true, c) = (b1, false, c ++ (f (a + 1)).2.2 ++ [-60]) := by
            refine (jp_lp_go (x := (a, true, c)) rfl hs (by decide)).trans ?_
            refine (jp_lp_no (fun z => ?_)).trans ?_
            · have z1 : (f (a + 1)).2.1 = true := z.1
              rw [hy1] at z1; cases z1
            · show ((f (a + 1)).1, (f (a + 1)).2.1, c ++ (f (a + 1)).2.2 ++ [-60]) = _
              rw [hb1, hy1]
          rw [e8]
          exact ⟨J19, ⟨b1, rfl, Or.inr ⟨rfl, _, _, hq1, rfl⟩⟩, rfl⟩
    · have ha1 : a < n := jp_in (fun z => by rw [hs] at z; exact absurd z (by decide))
      obtain ⟨q1, q2, q3, q4⟩ := hfo (a + 1) ha1
      show jb_J _ RX12 cX12_compared 4 (Option.some .int) false (D + 1) 0 0 5 [some (.ref 105), some (.int (jv_ nm c)), x2, x3] [] [s0, s1, s2, s3, s4, s5, s6, s7, s8, s9, jb_mdl I J d e kp nm W, s11] _
      refine jb_aload_n (pc' := 6) dX12_compared_5 rfl rfl ?_
      refine jb_callV (pc' := 9) (ci := 12) (q := 105) (As := []) (a2 := 0) (b2 := 0) wv_X12_75 rfl dX12_compared_6 (c_here I e kp nm W d hB hn hb J hq) rfl rfl ⟨by omega, Nat.le_of_eq (Nat.zero_add _), Nat.le_of_eq (Nat.zero_add _)⟩ (Nat.le_of_ble_eq_true rfl) rfl (fun r h9 hq => ?_)
      obtain ⟨rfl, rfl⟩ := hq
      rw [hs]
      show jb_J _ RX12 cX12_compared 4 (Option.some .int) false (D + 1) 0 0 9 [some (.ref 105), some (.int (jv_ nm c)), x2, x3] [.int 61] [s0, s1, s2, s3, s4, s5, s6, s7, s8, s9, jb_mdl I J d e kp nm W, s11] _
      refine jb_istore_n_ (pc' := 10) dX12_compared_9 (by decide) (jb_at2 rfl) rfl ?_
      refine jb_iload_n (pc' := 11) dX12_compared_10 rfl rfl ?_
      refine jb_bipush (pc' := 13) 60 dX12_compared_11 (by decide) rfl ?_
      refine jb_icmp_eq (tgt := 30) (pc' := 16) dX12_compared_13 (by decide) rfl (fun z => absurd z (by decide)) (fun _ => ?_)
      refine jb_iload_n (pc' := 17) dX12_compared_16 rfl rfl ?_
      refine jb_bipush (pc' := 19) 61 dX12_compared_17 (by decide) rfl ?_
      refine jb_icmp_eq (tgt := 30) (pc' := 22) dX12_compared_19 (by decide) rfl (fun _ => ?_) (fun z => absurd (by decide) z)
      refine jb_aload_n (pc' := 31) dX12_compared_30 rfl rfl ?_
      refine jb_dup (pc' := 32) dX12_compared_31 rfl rfl ?_
      refine gf_X12_62 (pc' := 35) (v := .int (J 1)) dX12_compared_32 rfl rfl rfl ?_
      refine jb_top (v := .int (J 1)) (w := .int (nI a)) (jb_vI hq.2.1) ?_
      refine jb_iconst (pc' := 36) 1 dX12_compared_35 (by decide) rfl ?_
      refine jb_iadd (pc' := 37) dX12_compared_36 rfl ?_
      refine jb_top (v := .int ((nI a) + 1)) (w := .int (nI (a + 1))) (jb_vI (nI_add _ 1)) ?_
      refine pf_X12_62 (pc' := 40) (h' := [s0, s1, s2, s3, s4, s5, s6, s7, s8, s9, jb_mdl I (upd J 1 (nI (a + 1))) d e kp nm W, s11]) dX12_compared_37 (fun _ => ⟨rfl, rfl⟩) rfl (Nat.le_of_ble_eq_true rfl) rfl rfl ?_
      refine jb_aload_n (pc' := 41) dX12_compared_40 rfl rfl ?_
      refine jb_callV (pc' := 44) (ci := 12) (q := 105) (As := []) (a2 := 0) (b2 := 0) wv_X12_93 rfl dX12_compared_41 (hf (upd J 1 (nI (a + 1))) (a + 1) (by omega) (hq.at (b := (a + 1)))) rfl rfl ⟨by omega, Nat.le_of_eq (Nat.zero_add _), Nat.le_of_eq (Nat.zero_add _)⟩ (Nat.le_of_ble_eq_true rfl) rfl (fun r h9 hq => ?_)
      rcases hq with ⟨J19, ⟨b1, hb1, ⟨hy1, hq1, rfl⟩ | ⟨hy1, v1, op1, hq1, rfl⟩⟩, rfl⟩
      · show jb_J _ RX12 cX12_compared 4 (Option.some .int) false (D + 1) 0 0 44 [some (.ref 105), some (.int (jv_ nm c)), some (.int 61), x3] [.int (jv_ nm (f (a + 1)).2.2)] [s0, s1, s2, s3, s4, s5, s6, s7, s8, s9, jb_mdl I J19 d e kp nm W, s11] _
        refine jb_istore_n_ (pc' := 45) dX12_compared_44 (by decide) (jb_at3 rfl) rfl ?_
        refine jb_iload_n (pc' := 46) dX12_compared_45 rfl rfl ?_
        refine jb_bipush (pc' := 48) 60 dX12_compared_46 (by decide) rfl ?_
        refine jb_icmp_ne (tgt := 59) (pc' := 51) dX12_compared_48 (by decide) rfl (fun _ => ?_) (fun z => absurd z (by decide))
        refine jb_iload_n (pc' := 60) dX12_compared_59 rfl rfl ?_
        refine jb_bipush (pc' := 62) 61 dX12_compared_60 (by decide) rfl ?_
        refine jb_icmp_ne (tgt := 73) (pc' := 65) dX12_compared_62 (by decide) rfl (fun z => absurd (by decide) z) (fun _ => ?_)
        refine jb_iload_n (pc' := 66) dX12_compared_65 rfl rfl ?_
        refine jb_iload_n (pc' := 67) dX12_compared_66 rfl rfl ?_
        refine jb_icmp_ne (tgt := 82) (pc' := 70) dX12_compared_67 (by decide) rfl (fun c5 => ?_) (fun c5 => ?_)
        · refine jb_iconst (pc' := 83) 0 dX12_compared_82 (by decide) rfl ?_
          refine jb_iret dX12_compared_83 rfl ?_
          have e8 : jp_lp B n 2 f 1 (a, true, c) = (b1, true, (c ++ (f (a + 1)).2.2 ++ [-61])) := by
            refine (jp_lp_go (x := (a, true, c)) rfl hs (by decide)).trans ?_
            show ((f (a + 1)).1, (f (a + 1)).2.1, c ++ (f (a + 1)).2.2 ++ [-61]) = _
            rw [hb1, hy1]
          have v9 : 0 = jv_ nm (c ++ (f (a + 1)).2.2 ++ [-61]) := by
            rw [jv_bin (s := 61) (r := 2) hc (q4 hy1) (by decide) (by decide) nm, jw_j_61]
            first | exact (if_pos (by assumption)).symm | exact (if_neg (by assumption)).symm
          rw [e8]
          exact ⟨J19, ⟨b1, rfl, Or.inl ⟨rfl, hq1, congrArg (fun y9 => some (Value.int y9)) v9⟩⟩, rfl⟩
        · refine jb_goto (pc' := 78) dX12_compared_70 (by decide) ?_
          refine jb_iconst (pc' := 79) 1 dX12_compared_78 (by decide) rfl ?_
          refine jb_goto (pc' := 83) dX12_compared_79 (by decide) ?_
          refine jb_iret dX12_compared_83 rfl ?_
          have e8 : jp_lp B n 2 f 1 (a, true, c) = (b1, true, (c ++ (f (a + 1)).2.2 ++ [-61])) := by
            refine (jp_lp_go (x := (a, true, c)) rfl hs (by decide)).trans ?_
            show ((f (a + 1)).1, (f (a + 1)).2.1, c ++ (f (a + 1)).2.2 ++ [-61]) = _
            rw [hb1, hy1]
          have v9 : 1 = jv_ nm (c ++ (f (a + 1)).2.2 ++ [-61]) := by
            rw [jv_bin (s := 61) (r := 2) hc (q4 hy1) (by decide) (by decide) nm, jw_j_61]
            first | exact (if_pos (by assumption)).symm | exact (if_neg (by assumption)).symm
          rw [e8]
          exact ⟨J19, ⟨b1, rfl, Or.inl ⟨rfl, hq1, congrArg (fun y9 => some (Value.int y9)) v9⟩⟩, rfl⟩
      · show jb_J _ RX12 cX12_compared 4 (Option.some .int) false (D + 1) 0 0 44 [some (.ref 105), some (.int (jv_ nm c)), some (.int 61), x3] [.int v1] [s0, s1, s2, s3, s4, s5, s6, s7, s8, s9, jb_mdl I J19 d e kp nm W, s11] _
        refine jb_istore_n_ (pc' := 45) dX12_compared_44 (by decide) (jb_at3 rfl) rfl ?_
        refine jb_iload_n (pc' := 46) dX12_compared_45 rfl rfl ?_
        refine jb_bipush (pc' := 48) 60 dX12_compared_46 (by decide) rfl ?_
        refine jb_icmp_ne (tgt := 59) (pc' := 51) dX12_compared_48 (by decide) rfl (fun _ => ?_) (fun z => absurd z (by decide))
        refine jb_iload_n (pc' := 60) dX12_compared_59 rfl rfl ?_
        refine jb_bipush (pc' := 62) 61 dX12_compared_60 (by decide) rfl ?_
        refine jb_icmp_ne (tgt := 73) (pc' := 65) dX12_compared_62 (by decide) rfl (fun z => absurd (by decide) z) (fun _ => ?_)
        refine jb_iload_n (pc' := 66) dX12_compared_65 rfl rfl ?_
        refine jb_iload_n (pc' := 67) dX12_compared_66 rfl rfl ?_
        refine jb_icmp_ne (tgt := 82) (pc' := 70) dX12_compared_67 (by decide) rfl (fun c8 => ?_) (fun c8 => ?_)
        · refine jb_iconst (pc' := 83) 0 dX12_compared_82 (by decide) rfl ?_
          refine jb_iret dX12_compared_83 rfl ?_
          have e8 : jp_lp B n 2 f 1 (a, true, c) = (b1, false, c ++ (f (a + 1)).2.2 ++ [-61]) := by
            refine (jp_lp_go (x := (a, true, c)) rfl hs (by decide)).trans ?_
            refine (jp_lp_no (fun z => ?_)).trans ?_
            · have z1 : (f (a + 1)).2.1 = true := z.1
              rw [hy1] at z1; cases z1
            · show ((f (a + 1)).1, (f (a + 1)).2.1, c ++ (f (a + 1)).2.2 ++ [-61]) = _
              rw [hb1, hy1]
          rw [e8]
          exact ⟨J19, ⟨b1, rfl, Or.inr ⟨rfl, _, _, hq1, rfl⟩⟩, rfl⟩
        · refine jb_goto (pc' := 78) dX12_compared_70 (by decide) ?_
          refine jb_iconst (pc' := 79) 1 dX12_compared_78 (by decide) rfl ?_
          refine jb_goto (pc' := 83) dX12_compared_79 (by decide) ?_
          refine jb_iret dX12_compared_83 rfl ?_
          have e8 : jp_lp B n 2 f 1 (a, true, c) = (b1, false, c ++ (f (a + 1)).2.2 ++ [-61]) := by
            refine (jp_lp_go (x := (a, true, c)) rfl hs (by decide)).trans ?_
            refine (jp_lp_no (fun z => ?_)).trans ?_
            · have z1 : (f (a + 1)).2.1 = true := z.1
              rw [hy1] at z1; cases z1
            · show ((f (a + 1)).1, (f (a + 1)).2.1, c ++ (f (a + 1)).2.2 ++ [-61]) = _
              rw [hb1, hy1]
          rw [e8]
          exact ⟨J19, ⟨b1, rfl, Or.inr ⟨rfl, _, _, hq1, rfl⟩⟩, rfl⟩
    · have ha1 : a < n := jp_in (fun z => by rw [hs] at z; exact absurd z (by decide))
      obtain ⟨q1, q2, q3, q4⟩ := hfo (a + 1) ha1
      show jb_J _ RX12 cX12_compared 4 (Option.some .int) false (D + 1) 0 0 5 [some (.ref 105), some (.int (jv_ nm c)), x2, x3] [] [s0, s1, s2, s3, s4, s5, s6, s7, s8, s9, jb_mdl I J d e kp nm W, s11] _
      refine jb_aload_n (pc' := 6) dX12_compared_5 rfl rfl ?_
      refine jb_callV (pc' := 9) (ci := 12) (q := 105) (As := []) (a2 := 0) (b2 := 0) wv_X12_75 rfl dX12_compared_6 (c_here I e kp nm W d hB hn hb J hq) rfl rfl ⟨by omega, Nat.le_of_eq (Nat.zero_add _), Nat.le_of_eq (Nat.zero_add _)⟩ (Nat.le_of_ble_eq_true rfl) rfl (fun r h9 hq => ?_)
      obtain ⟨rfl, rfl⟩ := hq
      rw [hs]
      show jb_J _ RX12 cX12_compared 4 (Option.some .int) false (D + 1) 0 0 9 [some (.ref 105), some (.int (jv_ nm c)), x2, x3] [.int 62] [s0, s1, s2, s3, s4, s5, s6, s7, s8, s9, jb_mdl I J d e kp nm W, s11] _
      refine jb_istore_n_ (pc' := 10) dX12_compared_9 (by decide) (jb_at2 rfl) rfl ?_
      refine jb_iload_n (pc' := 11) dX12_compared_10 rfl rfl ?_
      refine jb_bipush (pc' := 13) 60 dX12_compared_11 (by decide) rfl ?_
      refine jb_icmp_eq (tgt := 30) (pc' := 16) dX12_compared_13 (by decide) rfl (fun z => absurd z (by decide)) (fun _ => ?_)
      refine jb_iload_n (pc' := 17) dX12_compared_16 rfl rfl ?_
      refine jb_bipush (pc' := 19) 61 dX12_compared_17 (by decide) rfl ?_
      refine jb_icmp_eq (tgt := 30) (pc' := 22) dX12_compared_19 (by decide) rfl (fun z => absurd z (by decide)) (fun _ => ?_)
      refine jb_iload_n (pc' := 23) dX12_compared_22 rfl rfl ?_
      refine jb_bipush (pc' := 25) 62 dX12_compared_23 (by decide) rfl ?_
      refine jb_icmp_eq (tgt := 30) (pc' := 28) dX12_compared_25 (by decide) rfl (fun _ => ?_) (fun z => absurd (by decide) z)
      refine jb_aload_n (pc' := 31) dX12_compared_30 rfl rfl ?_
      refine jb_dup (pc' := 32) dX12_compared_31 rfl rfl ?_
      refine gf_X12_62 (pc' := 35) (v := .int (J 1)) dX12_compared_32 rfl rfl rfl ?_
      refine jb_top (v := .int (J 1)) (w := .int (nI a)) (jb_vI hq.2.1) ?_
      refine jb_iconst (pc' := 36) 1 dX12_compared_35 (by decide) rfl ?_
      refine jb_iadd (pc' := 37) dX12_compared_36 rfl ?_
      refine jb_top (v := .int ((nI a) + 1)) (w := .int (nI (a + 1))) (jb_vI (nI_add _ 1)) ?_
      refine pf_X12_62 (pc' := 40) (h' := [s0, s1, s2, s3, s4, s5, s6, s7, s8, s9, jb_mdl I (upd J 1 (nI (a + 1))) d e kp nm W, s11]) dX12_compared_37 (fun _ => ⟨rfl, rfl⟩) rfl (Nat.le_of_ble_eq_true rfl) rfl rfl ?_
      refine jb_aload_n (pc' := 41) dX12_compared_40 rfl rfl ?_
      refine jb_callV (pc' := 44) (ci := 12) (q := 105) (As := []) (a2 := 0) (b2 := 0) wv_X12_93 rfl dX12_compared_41 (hf (upd J 1 (nI (a + 1))) (a + 1) (by omega) (hq.at (b := (a + 1)))) rfl rfl ⟨by omega, Nat.le_of_eq (Nat.zero_add _), Nat.le_of_eq (Nat.zero_add _)⟩ (Nat.le_of_ble_eq_true rfl) rfl (fun r h9 hq => ?_)
      rcases hq with ⟨J19, ⟨b1, hb1, ⟨hy1, hq1, rfl⟩ | ⟨hy1, v1, op1, hq1, rfl⟩⟩, rfl⟩
      · show jb_J _ RX12 cX12_compared 4 (Option.some .int) false (D + 1) 0 0 44 [some (.ref 105), some (.int (jv_ nm c)), some (.int 62), x3] [.int (jv_ nm (f (a + 1)).2.2)] [s0, s1, s2, s3, s4, s5, s6, s7, s8, s9, jb_mdl I J19 d e kp nm W, s11] _
        refine jb_istore_n_ (pc' := 45) dX12_compared_44 (by decide) (jb_at3 rfl) rfl ?_
        refine jb_iload_n (pc' := 46) dX12_compared_45 rfl rfl ?_
        refine jb_bipush (pc' := 48) 60 dX12_compared_46 (by decide) rfl ?_
        refine jb_icmp_ne (tgt := 59) (pc' := 51) dX12_compared_48 (by decide) rfl (fun _ => ?_) (fun z => absurd z (by decide))
        refine jb_iload_n (pc' := 60) dX12_compared_59 rfl rfl ?_
        refine jb_bipush (pc' := 62) 61 dX12_compared_60 (by decide) rfl ?_
        refine jb_icmp_ne (tgt := 73) (pc' := 65) dX12_compared_62 (by decide) rfl (fun _ => ?_) (fun z => absurd z (by decide))
        refine jb_iload_n (pc' := 74) dX12_compared_73 rfl rfl ?_
        refine jb_iload_n (pc' := 75) dX12_compared_74 rfl rfl ?_
        refine jb_icmp_le (tgt := 82) (pc' := 78) dX12_compared_75 (by decide) rfl (fun c6 => ?_) (fun c6 => ?_)
        · refine jb_iconst (pc' := 83) 0 dX12_compared_82 (by decide) rfl ?_
          refine jb_iret dX12_compared_83 rfl ?_
          have e8 : jp_lp B n 2 f 1 (a, true, c) = (b1, true, (c ++ (f (a + 1)).2.2 ++ [-62])) := by
            refine (jp_lp_go (x := (a, true, c)) rfl hs (by decide)).trans ?_
            show ((f (a + 1)).1, (f (a + 1)).2.1, c ++ (f (a + 1)).2.2 ++ [-62]) = _
            rw [hb1, hy1]
          have v9 : 0 = jv_ nm (c ++ (f (a + 1)).2.2 ++ [-62]) := by
            rw [jv_bin (s := 62) (r := 2) hc (q4 hy1) (by decide) (by decide) nm, jw_j_62]
            first | exact (if_neg (Int32.not_lt.mpr (by assumption))).symm | exact (if_pos (Int32.not_le.mp (by assumption))).symm
          rw [e8]
          exact ⟨J19, ⟨b1, rfl, Or.inl ⟨rfl, hq1, congrArg (fun y9 => some (Value.int y9)) v9⟩⟩, rfl⟩
        · refine jb_iconst (pc' := 79) 1 dX12_compared_78 (by decide) rfl ?_
          refine jb_goto (pc' := 83) dX12_compared_79 (by decide) ?_
          refine jb_iret dX12_compared_83 rfl ?_
          have e8 : jp_lp B n 2 f 1 (a, true, c) = (b1, true, (c ++ (f (a + 1)).2.2 ++ [-62])) := by
            refine (jp_lp_go (x := (a, true, c)) rfl hs (by decide)).trans ?_
            show ((f (a + 1)).1, (f (a + 1)).2.1, c ++ (f (a + 1)).2.2 ++ [-62]) = _
            rw [hb1, hy1]
          have v9 : 1 = jv_ nm (c ++ (f (a + 1)).2.2 ++ [-62]) := by
            rw [jv_bin (s := 62) (r := 2) hc (q4 hy1) (by decide) (by decide) nm, jw_j_62]
            first | exact (if_neg (Int32.not_lt.mpr (by assumption))).symm | exact (if_pos (Int32.not_le.mp (by assumption))).symm
          rw [e8]
          exact ⟨J19, ⟨b1, rfl, Or.inl ⟨rfl, hq1, congrArg (fun y9 => some (Value.int y9)) v9⟩⟩, rfl⟩
      · show jb_J _ RX12 cX12_compared 4 (Option.some .int) false (D + 1) 0 0 44 [some (.ref 105), some (.int (jv_ nm c)), some (.int 62), x3] [.int v1] [s0, s1, s2, s3, s4, s5, s6, s7, s8, s9, jb_mdl I J19 d e kp nm W, s11] _
        refine jb_istore_n_ (pc' := 45) dX12_compared_44 (by decide) (jb_at3 rfl) rfl ?_
        refine jb_iload_n (pc' := 46) dX12_compared_45 rfl rfl ?_
        refine jb_bipush (pc' := 48) 60 dX12_compared_46 (by decide) rfl ?_
        refine jb_icmp_ne (tgt := 59) (pc' := 51) dX12_compared_48 (by decide) rfl (fun _ => ?_) (fun z => absurd z (by decide))
        refine jb_iload_n (pc' := 60) dX12_compared_59 rfl rfl ?_
        refine jb_bipush (pc' := 62) 61 dX12_compared_60 (by decide) rfl ?_
        refine jb_icmp_ne (tgt := 73) (pc' := 65) dX12_compared_62 (by decide) rfl (fun _ => ?_) (fun z => absurd z (by decide))
        refine jb_iload_n (pc' := 74) dX12_compared_73 rfl rfl ?_
        refine jb_iload_n (pc' := 75) dX12_compared_74 rfl rfl ?_
        refine jb_icmp_le (tgt := 82) (pc' := 78) dX12_compared_75 (by decide) rfl (fun c9 => ?_) (fun c9 => ?_)
        · refine jb_iconst (pc' := 83) 0 dX12_compared_82 (by decide) rfl ?_
          refine jb_iret dX12_compared_83 rfl ?_
          have e8 : jp_lp B n 2 f 1 (a, true, c) = (b1, false, c ++ (f (a + 1)).2.2 ++ [-62]) := by
            refine (jp_lp_go (x := (a, true, c)) rfl hs (by decide)).trans ?_
            refine (jp_lp_no (fun z => ?_)).trans ?_
            · have z1 : (f (a + 1)).2.1 = true := z.1
              rw [hy1] at z1; cases z1
            · show ((f (a + 1)).1, (f (a + 1)).2.1, c ++ (f (a + 1)).2.2 ++ [-62]) = _
              rw [hb1, hy1]
          rw [e8]
          exact ⟨J19, ⟨b1, rfl, Or.inr ⟨rfl, _, _, hq1, rfl⟩⟩, rfl⟩
        · refine jb_iconst (pc' := 79) 1 dX12_compared_78 (by decide) rfl ?_
          refine jb_goto (pc' := 83) dX12_compared_79 (by decide) ?_
          refine jb_iret dX12_compared_83 rfl ?_
          have e8 : jp_lp B n 2 f 1 (a, true, c) = (b1, false, c ++ (f (a + 1)).2.2 ++ [-62]) := by
            refine (jp_lp_go (x := (a, true, c)) rfl hs (by decide)).trans ?_
            refine (jp_lp_no (fun z => ?_)).trans ?_
            · have z1 : (f (a + 1)).2.1 = true := z.1
              rw [hy1] at z1; cases z1
            · show ((f (a + 1)).1, (f (a + 1)).2.1, c ++ (f (a + 1)).2.2 ++ [-62]) = _
              rw [hb1, hy1]
          rw [e8]
          exact ⟨J19, ⟨b1, rfl, Or.inr ⟨rfl, _, _, hq1, rfl⟩⟩, rfl⟩
    · show jb_J _ RX12 cX12_compared 4 (Option.some .int) false (D + 1) 0 0 5 [some (.ref 105), some (.int (jv_ nm c)), x2, x3] [] [s0, s1, s2, s3, s4, s5, s6, s7, s8, s9, jb_mdl I J d e kp nm W, s11] _
      refine jb_aload_n (pc' := 6) dX12_compared_5 rfl rfl ?_
      refine jb_callV (pc' := 9) (ci := 12) (q := 105) (As := []) (a2 := 0) (b2 := 0) wv_X12_75 rfl dX12_compared_6 (c_here I e kp nm W d hB hn hb J hq) rfl rfl ⟨by omega, Nat.le_of_eq (Nat.zero_add _), Nat.le_of_eq (Nat.zero_add _)⟩ (Nat.le_of_ble_eq_true rfl) rfl (fun r h9 hq => ?_)
      obtain ⟨rfl, rfl⟩ := hq
      show jb_J _ RX12 cX12_compared 4 (Option.some .int) false (D + 1) 0 0 9 [some (.ref 105), some (.int (jv_ nm c)), x2, x3] [.int (jp_lk B n a)] [s0, s1, s2, s3, s4, s5, s6, s7, s8, s9, jb_mdl I J d e kp nm W, s11] _
      refine jb_istore_n_ (pc' := 10) dX12_compared_9 (by decide) (jb_at2 rfl) rfl ?_
      refine jb_iload_n (pc' := 11) dX12_compared_10 rfl rfl ?_
      refine jb_bipush (pc' := 13) 60 dX12_compared_11 (by decide) rfl ?_
      refine jb_icmp_eq (tgt := 30) (pc' := 16) dX12_compared_13 (by decide) rfl (fun z => absurd z n0) (fun _ => ?_)
      refine jb_iload_n (pc' := 17) dX12_compared_16 rfl rfl ?_
      refine jb_bipush (pc' := 19) 61 dX12_compared_17 (by decide) rfl ?_
      refine jb_icmp_eq (tgt := 30) (pc' := 22) dX12_compared_19 (by decide) rfl (fun z => absurd z n1) (fun _ => ?_)
      refine jb_iload_n (pc' := 23) dX12_compared_22 rfl rfl ?_
      refine jb_bipush (pc' := 25) 62 dX12_compared_23 (by decide) rfl ?_
      refine jb_icmp_eq (tgt := 30) (pc' := 28) dX12_compared_25 (by decide) rfl (fun z => absurd z n2) (fun _ => ?_)
      refine jb_iload_n (pc' := 29) dX12_compared_28 rfl rfl ?_
      refine jb_iret dX12_compared_29 rfl ?_
      have e8 : jp_lp B n 2 f 1 (a, true, c) = (a, true, c) := jp_lp_no (fun z => hr z.2)
      rw [e8]
      exact ⟨J, ⟨a, rfl, Or.inl ⟨rfl, hq, rfl⟩⟩, rfl⟩
set_option maxRecDepth 100000 in
set_option maxHeartbeats 4000000 in
theorem c_comparedm {sc : Nat × (Nat → Int32)} {s0 s1 s2 s3 s4 s5 s6 s7 s8 s9 s11 : List va_E} (I e kp nm : Nat → Int32) (W : Nat → Nat → Int32) {B : Nat → Int32} {base n u : Nat} (d : Nat → Int32) (hB : ∀ k, k < n → d (base + k) = B k) (hn : n ≤ 50) (hb : base ≤ 438) (op : Int32) (f : Nat → jp_R) (hfo : ∀ a, a ≤ n → jp_ok n a (f a)) (D : Nat) (hD : 1 ≤ D) (hf : jq_F sc s0 s1 s2 s3 s4 s5 s6 s7 s8 s9 s11 I e kp nm W d base n u op yX12_sum cX12_sum 4 D f) : jq_F sc s0 s1 s2 s3 s4 s5 s6 s7 s8 s9 s11 I e kp nm W d base n u op yX12_compared cX12_compared 4 (D + 1) (fun a => jp_lp B n 2 f 1 (f a)) := by
  intro J a ha hq
  show jb_C sc yX12_compared cX12_compared 4 (Option.some .int) (D + 1) 0 0 [.ref 105] [s0, s1, s2, s3, s4, s5, s6, s7, s8, s9, jb_mdl I J d e kp nm W, s11] (fun r h9 => ∃ J9, jq_P nm base n u op (jp_lp B n 2 f 1 (f a)) r J9 ∧ h9 = [s0, s1, s2, s3, s4, s5, s6, s7, s8, s9, jb_mdl I J9 d e kp nm W, s11])
  refine jb_CofJ (ini := false) (by decide +kernel) (fun h => by cases h) (Nat.le_of_ble_eq_true rfl) ?_
  obtain ⟨q1, q2, q3, q4⟩ := hfo a ha
  show jb_J _ RX12 cX12_compared 4 (Option.some .int) false (D + 1) 0 0 0 [some (.ref 105), none, none, none] [] [s0, s1, s2, s3, s4, s5, s6, s7, s8, s9, jb_mdl I J d e kp nm W, s11] _
  refine jb_aload_n (pc' := 1) dX12_compared_0 rfl rfl ?_
  refine jb_callV (pc' := 4) (ci := 12) (q := 105) (As := []) (a2 := 0) (b2 := 0) wv_X12_93 rfl dX12_compared_1 (hf J a (by omega) hq) rfl rfl ⟨by omega, Nat.le_of_eq (Nat.zero_add _), Nat.le_of_eq (Nat.zero_add _)⟩ (Nat.le_of_ble_eq_true rfl) rfl (fun r h9 hq => ?_)
  rcases hq with ⟨J19, ⟨b1, hb1, ⟨hy1, hq1, rfl⟩ | ⟨hy1, v1, op1, hq1, rfl⟩⟩, rfl⟩
  · show jb_J _ RX12 cX12_compared 4 (Option.some .int) false (D + 1) 0 0 4 [some (.ref 105), none, none, none] [.int (jv_ nm (f a).2.2)] [s0, s1, s2, s3, s4, s5, s6, s7, s8, s9, jb_mdl I J19 d e kp nm W, s11] _
    refine jb_istore_n_ (pc' := 5) dX12_compared_4 (by decide) (jb_at1 rfl) rfl ?_
    have ef : f a = (b1, true, (f a).2.2) := jp_eta hb1 hy1
    have eF : jp_lp B n 2 f 1 (f a) = jp_lp B n 2 f 1 (b1, true, (f a).2.2) := congrArg (jp_lp B n 2 f 1) ef
    rw [eF]
    exact l_comparedm I e kp nm W d hB hn hb op f hfo D hD hf b1 (f a).2.2 J19 _ _ (by omega) (q4 hy1) hq1
  · show jb_J _ RX12 cX12_compared 4 (Option.some .int) false (D + 1) 0 0 4 [some (.ref 105), none, none, none] [.int v1] [s0, s1, s2, s3, s4, s5, s6, s7, s8, s9, jb_mdl I J19 d e kp nm W, s11] _
    refine jb_istore_n_ (pc' := 5) dX12_compared_4 (by decide) (jb_at1 rfl) rfl ?_
    refine jb_aload_n (pc' := 6) dX12_compared_5 rfl rfl ?_
    refine jb_callV (pc' := 9) (ci := 12) (q := 105) (As := []) (a2 := 0) (b2 := 0) wv_X12_75 rfl dX12_compared_6 (c_hereF I e kp nm W J19 d hq1 (by omega)) rfl rfl ⟨by omega, Nat.le_of_eq (Nat.zero_add _), Nat.le_of_eq (Nat.zero_add _)⟩ (Nat.le_of_ble_eq_true rfl) rfl (fun r h9 hq => ?_)
    obtain ⟨rfl, rfl⟩ := hq
    show jb_J _ RX12 cX12_compared 4 (Option.some .int) false (D + 1) 0 0 9 [some (.ref 105), some (.int v1), none, none] [.int (-1)] [s0, s1, s2, s3, s4, s5, s6, s7, s8, s9, jb_mdl I J19 d e kp nm W, s11] _
    refine jb_istore_n_ (pc' := 10) dX12_compared_9 (by decide) (jb_at2 rfl) rfl ?_
    refine jb_iload_n (pc' := 11) dX12_compared_10 rfl rfl ?_
    refine jb_bipush (pc' := 13) 60 dX12_compared_11 (by decide) rfl ?_
    refine jb_icmp_eq (tgt := 30) (pc' := 16) dX12_compared_13 (by decide) rfl (fun z => absurd z (by decide)) (fun _ => ?_)
    refine jb_iload_n (pc' := 17) dX12_compared_16 rfl rfl ?_
    refine jb_bipush (pc' := 19) 61 dX12_compared_17 (by decide) rfl ?_
    refine jb_icmp_eq (tgt := 30) (pc' := 22) dX12_compared_19 (by decide) rfl (fun z => absurd z (by decide)) (fun _ => ?_)
    refine jb_iload_n (pc' := 23) dX12_compared_22 rfl rfl ?_
    refine jb_bipush (pc' := 25) 62 dX12_compared_23 (by decide) rfl ?_
    refine jb_icmp_eq (tgt := 30) (pc' := 28) dX12_compared_25 (by decide) rfl (fun z => absurd z (by decide)) (fun _ => ?_)
    refine jb_iload_n (pc' := 29) dX12_compared_28 rfl rfl ?_
    refine jb_iret dX12_compared_29 rfl ?_
    have e8 : jp_lp B n 2 f 1 (f a) = f a := jp_lp_no (fun z => by have z1 := z.1; rw [hy1] at z1; cases z1)
    rw [e8]
    exact ⟨J19, ⟨b1, hb1, Or.inr ⟨hy1, _, _, hq1, rfl⟩⟩, rfl⟩
set_option maxRecDepth 100000 in
set_option maxHeartbeats 4000000 in
theorem l_bothm {sc : Nat × (Nat → Int32)} {s0 s1 s2 s3 s4 s5 s6 s7 s8 s9 s11 : List va_E} (I e kp nm : Nat → Int32) (W : Nat → Nat → Int32) {B : Nat → Int32} {base n u : Nat} (d : Nat → Int32) (hB : ∀ k, k < n → d (base + k) = B k) (hn : n ≤ 50) (hb : base ≤ 438) (op : Int32) (f : Nat → jp_R) (hfo : ∀ a, a ≤ n → jp_ok n a (f a)) (D : Nat) (hD : 1 ≤ D) (hf : jq_F sc s0 s1 s2 s3 s4 s5 s6 s7 s8 s9 s11 I e kp nm W d base n u op yX12_compared cX12_compared 4 D f) : ∀ (k a : Nat) (c : List Int32) (J : Nat → Int32) (x2 : Option Value), a ≤ n → n ≤ a + k → jw_f c → jq_ J base n u a op (-1) → jb_J sc RX12 cX12_both 3 (Option.some .int) false (D + 1) 0 0 5 [some (.ref 105), some (.int (jv_ nm c)), x2] [] [s0, s1, s2, s3, s4, s5, s6, s7, s8, s9, jb_mdl I J d e kp nm W, s11] (fun r h9 => ∃ J9, jq_P nm base n u op (jp_lp B n 1 f k (a, true, c)) r J9 ∧ h9 = [s0, s1, s2, s3, s4, s5, s6, s7, s8, s9, jb_mdl I J9 d e kp nm W, s11]) := by
  intro k
  induction k with
  | zero =>
    intro a c J x2 ha hk hc hq
    have hs : jp_lk B n a = -1 := jp_lk_out (by omega)
    show jb_J _ RX12 cX12_both 3 (Option.some .int) false (D + 1) 0 0 5 [some (.ref 105), some (.int (jv_ nm c)), x2] [] [s0, s1, s2, s3, s4, s5, s6, s7, s8, s9, jb_mdl I J d e kp nm W, s11] _
    refine jb_aload_n (pc' := 6) dX12_both_5 rfl rfl ?_
    refine jb_bipush (pc' := 8) 38 dX12_both_6 (by decide) rfl ?_
    refine jb_callV (pc' := 11) (ci := 12) (q := 105) (As := [.int 38]) (a2 := 0) (b2 := 0) wv_X12_86 rfl dX12_both_8 (c_takes0 I e kp nm W d hB hn hb J hq (by omega) 38 (by rw [hs]; decide)) rfl rfl ⟨by omega, Nat.le_of_eq (Nat.zero_add _), Nat.le_of_eq (Nat.zero_add _)⟩ (Nat.le_of_ble_eq_true rfl) rfl (fun r h9 hq => ?_)
    obtain ⟨rfl, rfl⟩ := hq
    show jb_J _ RX12 cX12_both 3 (Option.some .int) false (D + 1) 0 0 11 [some (.ref 105), some (.int (jv_ nm c)), x2] [.int 0] [s0, s1, s2, s3, s4, s5, s6, s7, s8, s9, jb_mdl I J d e kp nm W, s11] _
    refine jb_if_eq (tgt := 36) (pc' := 14) dX12_both_11 (by decide) rfl (fun _ => ?_) (fun z => absurd (by decide) z)
    refine jb_iload_n (pc' := 37) dX12_both_36 rfl rfl ?_
    refine jb_iret dX12_both_37 rfl ?_
    have e8 : jp_lp B n 1 f 0 (a, true, c) = (a, true, c) := jp_lp_no (fun z => absurd (hs ▸ z.2 : jp_rk (-1) = 1) (by decide))
    rw [e8]
    exact ⟨J, ⟨a, rfl, Or.inl ⟨rfl, hq, rfl⟩⟩, rfl⟩
  | succ k ih =>
    intro a c J x2 ha hk hc hq
    rcases jp_c1 (jp_lk B n a) with hs | ⟨n0, hr⟩
    · have ha1 : a < n := jp_in (fun z => by rw [hs] at z; exact absurd z (by decide))
      obtain ⟨q1, q2, q3, q4⟩ := hfo (a + 1) ha1
      show jb_J _ RX12 cX12_both 3 (Option.some .int) false (D + 1) 0 0 5 [some (.ref 105), some (.int (jv_ nm c)), x2] [] [s0, s1, s2, s3, s4, s5, s6, s7, s8, s9, jb_mdl I J d e kp nm W, s11] _
      refine jb_aload_n (pc' := 6) dX12_both_5 rfl rfl ?_
      refine jb_bipush (pc' := 8) 38 dX12_both_6 (by decide) rfl ?_
      refine jb_callV (pc' := 11) (ci := 12) (q := 105) (As := [.int 38]) (a2 := 0) (b2 := 0) wv_X12_86 rfl dX12_both_8 (c_takes1 I e kp nm W d hB hn hb J hq (by omega) 38 hs) rfl rfl ⟨by omega, Nat.le_of_eq (Nat.zero_add _), Nat.le_of_eq (Nat.zero_add _)⟩ (Nat.le_of_ble_eq_true rfl) rfl (fun r h9 hq => ?_)
      obtain ⟨rfl, rfl⟩ := hq
      show jb_J _ RX12 cX12_both 3 (Option.some .int) false (D + 1) 0 0 11 [some (.ref 105), some (.int (jv_ nm c)), x2] [.int 1] [s0, s1, s2, s3, s4, s5, s6, s7, s8, s9, jb_mdl I (upd J 1 (nI (a + 1))) d e kp nm W, s11] _
      refine jb_if_eq (tgt := 36) (pc' := 14) dX12_both_11 (by decide) rfl (fun z => absurd z (by decide)) (fun _ => ?_)
      refine jb_aload_n (pc' := 15) dX12_both_14 rfl rfl ?_
      refine jb_callV (pc' := 18) (ci := 12) (q := 105) (As := []) (a2 := 0) (b2 := 0) wv_X12_90 rfl dX12_both_15 (hf (upd J 1 (nI (a + 1))) (a + 1) (by omega) (hq.at (b := (a + 1)))) rfl rfl ⟨by omega, Nat.le_of_eq (Nat.zero_add _), Nat.le_of_eq (Nat.zero_add _)⟩ (Nat.le_of_ble_eq_true rfl) rfl (fun r h9 hq => ?_)
      rcases hq with ⟨J19, ⟨b1, hb1, ⟨hy1, hq1, rfl⟩ | ⟨hy1, v1, op1, hq1, rfl⟩⟩, rfl⟩
      · show jb_J _ RX12 cX12_both 3 (Option.some .int) false (D + 1) 0 0 18 [some (.ref 105), some (.int (jv_ nm c)), x2] [.int (jv_ nm (f (a + 1)).2.2)] [s0, s1, s2, s3, s4, s5, s6, s7, s8, s9, jb_mdl I J19 d e kp nm W, s11] _
        refine jb_istore_n_ (pc' := 19) dX12_both_18 (by decide) (jb_at2 rfl) rfl ?_
        refine jb_iload_n (pc' := 20) dX12_both_19 rfl rfl ?_
        refine jb_if_eq (tgt := 31) (pc' := 23) dX12_both_20 (by decide) rfl (fun c2 => ?_) (fun c2 => ?_)
        · refine jb_iconst (pc' := 32) 0 dX12_both_31 (by decide) rfl ?_
          refine jb_istore_n_ (pc' := 33) dX12_both_32 (by decide) (jb_at1 rfl) rfl ?_
          refine jb_goto (pc' := 5) dX12_both_33 (by decide) ?_
          have e9 : jp_lp B n 1 f (k + 1) (a, true, c) = jp_lp B n 1 f k (b1, true, (c ++ (f (a + 1)).2.2 ++ [-38])) := by
            refine (jp_lp_go (x := (a, true, c)) rfl hs (by decide)).trans ?_
            show jp_lp B n 1 f k ((f (a + 1)).1, (f (a + 1)).2.1, c ++ (f (a + 1)).2.2 ++ [-38]) = _
            rw [hb1, hy1]
          have v9 : 0 = jv_ nm (c ++ (f (a + 1)).2.2 ++ [-38]) := by
            rw [jv_bin (s := 38) (r := 1) hc (q4 hy1) (by decide) (by decide) nm, jw_j_38]
            first | exact (if_pos (Or.inl (by assumption))).symm | exact (if_pos (Or.inr (by assumption))).symm | exact (if_neg (fun z => z.elim (by assumption) (by assumption))).symm
          refine jb_locs (congrArg (fun y9 => ([some (.ref 105), some (.int y9), some (.int (jv_ nm (f (a + 1)).2.2))] : List (Option Value))) v9) ?_
          rw [e9]
          exact ih b1 (c ++ (f (a + 1)).2.2 ++ [-38]) J19 _ (by omega) (by omega) (jw_fbin hc (q4 hy1) (r := 1) (by decide) (by decide)) hq1
        · refine jb_iload_n (pc' := 24) dX12_both_23 rfl rfl ?_
          refine jb_if_eq (tgt := 31) (pc' := 27) dX12_both_24 (by decide) rfl (fun c3 => ?_) (fun c3 => ?_)
          · refine jb_iconst (pc' := 32) 0 dX12_both_31 (by decide) rfl ?_
            refine jb_istore_n_ (pc' := 33) dX12_both_32 (by decide) (jb_at1 rfl) rfl ?_
            refine jb_goto (pc' := 5) dX12_both_33 (by decide) ?_
            have e9 : jp_lp B n 1 f (k + 1) (a, true, c) = jp_lp B n 1 f k (b1, true, (c ++ (f (a + 1)).2.2 ++ [-38])) := by
              refine (jp_lp_go (x := (a, true, c)) rfl hs (by decide)).trans ?_
              show jp_lp B n 1 f k ((f (a + 1)).1, (f (a + 1)).2.1, c ++ (f (a + 1)).2.2 ++ [-38]) = _
              rw [hb1, hy1]
            have v9 : 0 = jv_ nm (c ++ (f (a + 1)).2.2 ++ [-38]) := by
              rw [jv_bin (s := 38) (r := 1) hc (q4 hy1) (by decide) (by decide) nm, jw_j_38]
              first | exact (if_pos (Or.inl (by assumption))).symm | exact (if_pos (Or.inr (by assumption))).symm | exact (if_neg (fun z => z.elim (by assumption) (by assumption))).symm
            refine jb_locs (congrArg (fun y9 => ([some (.ref 105), some (.int y9), some (.int (jv_ nm (f (a + 1)).2.2))] : List (Option Value))) v9) ?_
            rw [e9]
            exact ih b1 (c ++ (f (a + 1)).2.2 ++ [-38]) J19 _ (by omega) (by omega) (jw_fbin hc (q4 hy1) (r := 1) (by decide) (by decide)) hq1
          · refine jb_iconst (pc' := 28) 1 dX12_both_27 (by decide) rfl ?_
            refine jb_goto (pc' := 32) dX12_both_28 (by decide) ?_
            refine jb_istore_n_ (pc' := 33) dX12_both_32 (by decide) (jb_at1 rfl) rfl ?_
            refine jb_goto (pc' := 5) dX12_both_33 (by decide) ?_
            have e9 : jp_lp B n 1 f (k + 1) (a, true, c) = jp_lp B n 1 f k (b1, true, (c ++ (f (a + 1)).2.2 ++ [-38])) := by
              refine (jp_lp_go (x := (a, true, c)) rfl hs (by decide)).trans ?_
              show jp_lp B n 1 f k ((f (a + 1)).1, (f (a + 1)).2.1, c ++ (f (a + 1)).2.2 ++ [-38]) = _
              rw [hb1, hy1]
            have v9 : 1 = jv_ nm (c ++ (f (a + 1)).2.2 ++ [-38]) := by
              rw [jv_bin (s := 38) (r := 1) hc (q4 hy1) (by decide) (by decide) nm, jw_j_38]
              first | exact (if_pos (Or.inl (by assumption))).symm | exact (if_pos (Or.inr (by assumption))).symm | exact (if_neg (fun z => z.elim (by assumption) (by assumption))).symm
            refine jb_locs (congrArg (fun y9 => ([some (.ref 105), some (.int y9), some (.int (jv_ nm (f (a + 1)).2.2))] : List (Option Value))) v9) ?_
            rw [e9]
            exact ih b1 (c ++ (f (a + 1)).2.2 ++ [-38]) J19 _ (by omega) (by omega) (jw_fbin hc (q4 hy1) (r := 1) (by decide) (by decide)) hq1
      · show jb_J _ RX12 cX12_both 3 (Option.some .int) false (D + 1) 0 0 18 [some (.ref 105), some (.int (jv_ nm c)), x2] [.int v1] [s0, s1, s2, s3, s4, s5, s6, s7, s8, s9, jb_mdl I J19 d e kp nm W, s11] _
        refine jb_istore_n_ (pc' := 19) dX12_both_18 (by decide) (jb_at2 rfl) rfl ?_
        refine jb_iload_n (pc' := 20) dX12_both_19 rfl rfl ?_
        refine jb_if_eq (tgt := 31) (pc' := 23) dX12_both_20 (by decide) rfl (fun c4 => ?_) (fun c4 => ?_)
        · refine jb_iconst (pc' := 32) 0 dX12_both_31 (by decide) rfl ?_
          refine jb_istore_n_ (pc' := 33) dX12_both_32 (by decide) (jb_at1 rfl) rfl ?_
          refine jb_goto (pc' := 5) dX12_both_33 (by decide) ?_
          refine jb_aload_n (pc' := 6) dX12_both_5 rfl rfl ?_
          refine jb_bipush (pc' := 8) 38 dX12_both_6 (by decide) rfl ?_
          refine jb_callV (pc' := 11) (ci := 12) (q := 105) (As := [.int 38]) (a2 := 0) (b2 := 0) wv_X12_86 rfl dX12_both_8 (c_takesF I e kp nm W J19 d hq1 (by omega) 38 (by decide)) rfl rfl ⟨by omega, Nat.le_of_eq (Nat.zero_add _), Nat.le_of_eq (Nat.zero_add _)⟩ (Nat.le_of_ble_eq_true rfl) rfl (fun r h9 hq => ?_)
          obtain ⟨rfl, rfl⟩ := hq
          show jb_J _ RX12 cX12_both 3 (Option.some .int) false (D + 1) 0 0 11 [some (.ref 105), some (.int 0), some (.int v1)] [.int 0] [s0, s1, s2, s3, s4, s5, s6, s7, s8, s9, jb_mdl I J19 d e kp nm W, s11] _
          refine jb_if_eq (tgt := 36) (pc' := 14) dX12_both_11 (by decide) rfl (fun _ => ?_) (fun z => absurd (by decide) z)
          refine jb_iload_n (pc' := 37) dX12_both_36 rfl rfl ?_
          refine jb_iret dX12_both_37 rfl ?_
          have e8 : jp_lp B n 1 f (k + 1) (a, true, c) = (b1, false, c ++ (f (a + 1)).2.2 ++ [-38]) := by
            refine (jp_lp_go (x := (a, true, c)) rfl hs (by decide)).trans ?_
            refine (jp_lp_no (fun z => ?_)).trans ?_
            · have z1 : (f (a + 1)).2.1 = true := z.1
              rw [hy1] at z1; cases z1
            · show ((f (a + 1)).1, (f (a + 1)).2.1, c ++ (f (a + 1)).2.2 ++ [-38]) = _
              rw [hb1, hy1]
          rw [e8]
          exact ⟨J19, ⟨b1, rfl, Or.inr ⟨rfl, _, _, hq1, rfl⟩⟩, rfl⟩
        · refine jb_iload_n (pc' := 24) dX12_both_23 rfl rfl ?_
          refine jb_if_eq (tgt := 31) (pc' := 27) dX12_both_24 (by decide) rfl (fun c6 => ?_) (fun c6 => ?_)
          · refine jb_iconst (pc' := 32) 0 dX12_both_31 (by decide) rfl ?_
            refine jb_istore_n_ (pc' := 33) dX12_both_32 (by decide) (jb_at1 rfl) rfl ?_
            refine jb_goto (pc' := 5) dX12_both_33 (by decide) ?_
            refine jb_aload_n (pc' := 6) dX12_both_5 rfl rfl ?_
            refine jb_bipush (pc' := 8) 38 dX12_both_6 (by decide) rfl ?_
            refine jb_callV (pc' := 11) (ci := 12) (q := 105) (As := [.int 38]) (a2 := 0) (b2 := 0) wv_X12_86 rfl dX12_both_8 (c_takesF I e kp nm W J19 d hq1 (by omega) 38 (by decide)) rfl rfl ⟨by omega, Nat.le_of_eq (Nat.zero_add _), Nat.le_of_eq (Nat.zero_add _)⟩ (Nat.le_of_ble_eq_true rfl) rfl (fun r h9 hq => ?_)
            obtain ⟨rfl, rfl⟩ := hq
            show jb_J _ RX12 cX12_both 3 (Option.some .int) false (D + 1) 0 0 11 [some (.ref 105), some (.int 0), some (.int v1)] [.int 0] [s0, s1, s2, s3, s4, s5, s6, s7, s8, s9, jb_mdl I J19 d e kp nm W, s11] _
            refine jb_if_eq (tgt := 36) (pc' := 14) dX12_both_11 (by decide) rfl (fun _ => ?_) (fun z => absurd (by decide) z)
            refine jb_iload_n (pc' := 37) dX12_both_36 rfl rfl ?_
            refine jb_iret dX12_both_37 rfl ?_
            have e8 : jp_lp B n 1 f (k + 1) (a, true, c) = (b1, false, c ++ (f (a + 1)).2.2 ++ [-38]) := by
              refine (jp_lp_go (x := (a, true, c)) rfl hs (by decide)).trans ?_
              refine (jp_lp_no (fun z => ?_)).trans ?_
              · have z1 : (f (a + 1)).2.1 = true := z.1
                rw [hy1] at z1; cases z1
              · show ((f (a + 1)).1, (f (a + 1)).2.1, c ++ (f (a + 1)).2.2 ++ [-38]) = _
                rw [hb1, hy1]
            rw [e8]
            exact ⟨J19, ⟨b1, rfl, Or.inr ⟨rfl, _, _, hq1, rfl⟩⟩, rfl⟩
          · refine jb_iconst (pc' := 28) 1 dX12_both_27 (by decide) rfl ?_
            refine jb_goto (pc' := 32) dX12_both_28 (by decide) ?_
            refine jb_istore_n_ (pc' := 33) dX12_both_32 (by decide) (jb_at1 rfl) rfl ?_
            refine jb_goto (pc' := 5) dX12_both_33 (by decide) ?_
            refine jb_aload_n (pc' := 6) dX12_both_5 rfl rfl ?_
            refine jb_bipush (pc' := 8) 38 dX12_both_6 (by decide) rfl ?_
            refine jb_callV (pc' := 11) (ci := 12) (q := 105) (As := [.int 38]) (a2 := 0) (b2 := 0) wv_X12_86 rfl dX12_both_8 (c_takesF I e kp nm W J19 d hq1 (by omega) 38 (by decide)) rfl rfl ⟨by omega, Nat.le_of_eq (Nat.zero_add _), Nat.le_of_eq (Nat.zero_add _)⟩ (Nat.le_of_ble_eq_true rfl) rfl (fun r h9 hq => ?_)
            obtain ⟨rfl, rfl⟩ := hq
            show jb_J _ RX12 cX12_both 3 (Option.some .int) false (D + 1) 0 0 11 [some (.ref 105), some (.int 1), some (.int v1)] [.int 0] [s0, s1, s2, s3, s4, s5, s6, s7, s8, s9, jb_mdl I J19 d e kp nm W, s11] _
            refine jb_if_eq (tgt := 36) (pc' := 14) dX12_both_11 (by decide) rfl (fun _ => ?_) (fun z => absurd (by decide) z)
            refine jb_iload_n (pc' := 37) dX12_both_36 rfl rfl ?_
            refine jb_iret dX12_both_37 rfl ?_
            have e8 : jp_lp B n 1 f (k + 1) (a, true, c) = (b1, false, c ++ (f (a + 1)).2.2 ++ [-38]) := by
              refine (jp_lp_go (x := (a, true, c)) rfl hs (by decide)).trans ?_
              refine (jp_lp_no (fun z => ?_)).trans ?_
              · have z1 : (f (a + 1)).2.1 = true := z.1
                rw [hy1] at z1; cases z1
              · show ((f (a + 1)).1, (f (a + 1)).2.1, c ++ (f (a + 1)).2.2 ++ [-38]) = _
                rw [hb1, hy1]
            rw [e8]
            exact ⟨J19, ⟨b1, rfl, Or.inr ⟨rfl, _, _, hq1, rfl⟩⟩, rfl⟩
    · show jb_J _ RX12 cX12_both 3 (Option.some .int) false (D + 1) 0 0 5 [some (.ref 105), some (.int (jv_ nm c)), x2] [] [s0, s1, s2, s3, s4, s5, s6, s7, s8, s9, jb_mdl I J d e kp nm W, s11] _
      refine jb_aload_n (pc' := 6) dX12_both_5 rfl rfl ?_
      refine jb_bipush (pc' := 8) 38 dX12_both_6 (by decide) rfl ?_
      refine jb_callV (pc' := 11) (ci := 12) (q := 105) (As := [.int 38]) (a2 := 0) (b2 := 0) wv_X12_86 rfl dX12_both_8 (c_takes0 I e kp nm W d hB hn hb J hq (by omega) 38 n0) rfl rfl ⟨by omega, Nat.le_of_eq (Nat.zero_add _), Nat.le_of_eq (Nat.zero_add _)⟩ (Nat.le_of_ble_eq_true rfl) rfl (fun r h9 hq => ?_)
      obtain ⟨rfl, rfl⟩ := hq
      show jb_J _ RX12 cX12_both 3 (Option.some .int) false (D + 1) 0 0 11 [some (.ref 105), some (.int (jv_ nm c)), x2] [.int 0] [s0, s1, s2, s3, s4, s5, s6, s7, s8, s9, jb_mdl I J d e kp nm W, s11] _
      refine jb_if_eq (tgt := 36) (pc' := 14) dX12_both_11 (by decide) rfl (fun _ => ?_) (fun z => absurd (by decide) z)
      refine jb_iload_n (pc' := 37) dX12_both_36 rfl rfl ?_
      refine jb_iret dX12_both_37 rfl ?_
      have e8 : jp_lp B n 1 f (k + 1) (a, true, c) = (a, true, c) := jp_lp_no (fun z => hr z.2)
      rw [e8]
      exact ⟨J, ⟨a, rfl, Or.inl ⟨rfl, hq, rfl⟩⟩, rfl⟩
set_option maxRecDepth 100000 in
set_option maxHeartbeats 4000000 in
theorem c_bothm {sc : Nat × (Nat → Int32)} {s0 s1 s2 s3 s4 s5 s6 s7 s8 s9 s11 : List va_E} (I e kp nm : Nat → Int32) (W : Nat → Nat → Int32) {B : Nat → Int32} {base n u : Nat} (d : Nat → Int32) (hB : ∀ k, k < n → d (base + k) = B k) (hn : n ≤ 50) (hb : base ≤ 438) (op : Int32) (f : Nat → jp_R) (hfo : ∀ a, a ≤ n → jp_ok n a (f a)) (D : Nat) (hD : 1 ≤ D) (hf : jq_F sc s0 s1 s2 s3 s4 s5 s6 s7 s8 s9 s11 I e kp nm W d base n u op yX12_compared cX12_compared 4 D f) : jq_F sc s0 s1 s2 s3 s4 s5 s6 s7 s8 s9 s11 I e kp nm W d base n u op yX12_both cX12_both 3 (D + 1) (fun a => jp_lp B n 1 f 50 (f a)) := by
  intro J a ha hq
  show jb_C sc yX12_both cX12_both 3 (Option.some .int) (D + 1) 0 0 [.ref 105] [s0, s1, s2, s3, s4, s5, s6, s7, s8, s9, jb_mdl I J d e kp nm W, s11] (fun r h9 => ∃ J9, jq_P nm base n u op (jp_lp B n 1 f 50 (f a)) r J9 ∧ h9 = [s0, s1, s2, s3, s4, s5, s6, s7, s8, s9, jb_mdl I J9 d e kp nm W, s11])
  refine jb_CofJ (ini := false) (by decide +kernel) (fun h => by cases h) (Nat.le_of_ble_eq_true rfl) ?_
  obtain ⟨q1, q2, q3, q4⟩ := hfo a ha
  show jb_J _ RX12 cX12_both 3 (Option.some .int) false (D + 1) 0 0 0 [some (.ref 105), none, none] [] [s0, s1, s2, s3, s4, s5, s6, s7, s8, s9, jb_mdl I J d e kp nm W, s11] _
  refine jb_aload_n (pc' := 1) dX12_both_0 rfl rfl ?_
  refine jb_callV (pc' := 4) (ci := 12) (q := 105) (As := []) (a2 := 0) (b2 := 0) wv_X12_90 rfl dX12_both_1 (hf J a (by omega) hq) rfl rfl ⟨by omega, Nat.le_of_eq (Nat.zero_add _), Nat.le_of_eq (Nat.zero_add _)⟩ (Nat.le_of_ble_eq_true rfl) rfl (fun r h9 hq => ?_)
  rcases hq with ⟨J19, ⟨b1, hb1, ⟨hy1, hq1, rfl⟩ | ⟨hy1, v1, op1, hq1, rfl⟩⟩, rfl⟩
  · show jb_J _ RX12 cX12_both 3 (Option.some .int) false (D + 1) 0 0 4 [some (.ref 105), none, none] [.int (jv_ nm (f a).2.2)] [s0, s1, s2, s3, s4, s5, s6, s7, s8, s9, jb_mdl I J19 d e kp nm W, s11] _
    refine jb_istore_n_ (pc' := 5) dX12_both_4 (by decide) (jb_at1 rfl) rfl ?_
    have ef : f a = (b1, true, (f a).2.2) := jp_eta hb1 hy1
    have eF : jp_lp B n 1 f 50 (f a) = jp_lp B n 1 f 50 (b1, true, (f a).2.2) := congrArg (jp_lp B n 1 f 50) ef
    rw [eF]
    exact l_bothm I e kp nm W d hB hn hb op f hfo D hD hf 50 b1 (f a).2.2 J19 _ (by omega) (by omega) (q4 hy1) hq1
  · show jb_J _ RX12 cX12_both 3 (Option.some .int) false (D + 1) 0 0 4 [some (.ref 105), none, none] [.int v1] [s0, s1, s2, s3, s4, s5, s6, s7, s8, s9, jb_mdl I J19 d e kp nm W, s11] _
    refine jb_istore_n_ (pc' := 5) dX12_both_4 (by decide) (jb_at1 rfl) rfl ?_
    refine jb_aload_n (pc' := 6) dX12_both_5 rfl rfl ?_
    refine jb_bipush (pc' := 8) 38 dX12_both_6 (by decide) rfl ?_
    refine jb_callV (pc' := 11) (ci := 12) (q := 105) (As := [.int 38]) (a2 := 0) (b2 := 0) wv_X12_86 rfl dX12_both_8 (c_takesF I e kp nm W J19 d hq1 (by omega) 38 (by decide)) rfl rfl ⟨by omega, Nat.le_of_eq (Nat.zero_add _), Nat.le_of_eq (Nat.zero_add _)⟩ (Nat.le_of_ble_eq_true rfl) rfl (fun r h9 hq => ?_)
    obtain ⟨rfl, rfl⟩ := hq
    show jb_J _ RX12 cX12_both 3 (Option.some .int) false (D + 1) 0 0 11 [some (.ref 105), some (.int v1), none] [.int 0] [s0, s1, s2, s3, s4, s5, s6, s7, s8, s9, jb_mdl I J19 d e kp nm W, s11] _
    refine jb_if_eq (tgt := 36) (pc' := 14) dX12_both_11 (by decide) rfl (fun _ => ?_) (fun z => absurd (by decide) z)
    refine jb_iload_n (pc' := 37) dX12_both_36 rfl rfl ?_
    refine jb_iret dX12_both_37 rfl ?_
    have e8 : jp_lp B n 1 f 50 (f a) = f a := jp_lp_no (fun z => by have z1 := z.1; rw [hy1] at z1; cases z1)
    rw [e8]
    exact ⟨J19, ⟨b1, hb1, Or.inr ⟨hy1, _, _, hq1, rfl⟩⟩, rfl⟩
set_option maxRecDepth 100000 in
set_option maxHeartbeats 4000000 in
theorem l_eitherm {sc : Nat × (Nat → Int32)} {s0 s1 s2 s3 s4 s5 s6 s7 s8 s9 s11 : List va_E} (I e kp nm : Nat → Int32) (W : Nat → Nat → Int32) {B : Nat → Int32} {base n u : Nat} (d : Nat → Int32) (hB : ∀ k, k < n → d (base + k) = B k) (hn : n ≤ 50) (hb : base ≤ 438) (op : Int32) (f : Nat → jp_R) (hfo : ∀ a, a ≤ n → jp_ok n a (f a)) (D : Nat) (hD : 1 ≤ D) (hf : jq_F sc s0 s1 s2 s3 s4 s5 s6 s7 s8 s9 s11 I e kp nm W d base n u op yX12_both cX12_both 3 D f) : ∀ (k a : Nat) (c : List Int32) (J : Nat → Int32) (x2 : Option Value), a ≤ n → n ≤ a + k → jw_f c → jq_ J base n u a op (-1) → jb_J sc RX12 cX12_either 3 (Option.some .int) false (D + 1) 0 0 5 [some (.ref 105), some (.int (jv_ nm c)), x2] [] [s0, s1, s2, s3, s4, s5, s6, s7, s8, s9, jb_mdl I J d e kp nm W, s11] (fun r h9 => ∃ J9, jq_P nm base n u op (jp_lp B n 0 f k (a, true, c)) r J9 ∧ h9 = [s0, s1, s2, s3, s4, s5, s6, s7, s8, s9, jb_mdl I J9 d e kp nm W, s11]) := by
  intro k
  induction k with
  | zero =>
    intro a c J x2 ha hk hc hq
    have hs : jp_lk B n a = -1 := jp_lk_out (by omega)
    show jb_J _ RX12 cX12_either 3 (Option.some .int) false (D + 1) 0 0 5 [some (.ref 105), some (.int (jv_ nm c)), x2] [] [s0, s1, s2, s3, s4, s5, s6, s7, s8, s9, jb_mdl I J d e kp nm W, s11] _
    refine jb_aload_n (pc' := 6) dX12_either_5 rfl rfl ?_
    refine jb_bipush (pc' := 8) 124 dX12_either_6 (by decide) rfl ?_
    refine jb_callV (pc' := 11) (ci := 12) (q := 105) (As := [.int 124]) (a2 := 0) (b2 := 0) wv_X12_86 rfl dX12_either_8 (c_takes0 I e kp nm W d hB hn hb J hq (by omega) 124 (by rw [hs]; decide)) rfl rfl ⟨by omega, Nat.le_of_eq (Nat.zero_add _), Nat.le_of_eq (Nat.zero_add _)⟩ (Nat.le_of_ble_eq_true rfl) rfl (fun r h9 hq => ?_)
    obtain ⟨rfl, rfl⟩ := hq
    show jb_J _ RX12 cX12_either 3 (Option.some .int) false (D + 1) 0 0 11 [some (.ref 105), some (.int (jv_ nm c)), x2] [.int 0] [s0, s1, s2, s3, s4, s5, s6, s7, s8, s9, jb_mdl I J d e kp nm W, s11] _
    refine jb_if_eq (tgt := 36) (pc' := 14) dX12_either_11 (by decide) rfl (fun _ => ?_) (fun z => absurd (by decide) z)
    refine jb_iload_n (pc' := 37) dX12_either_36 rfl rfl ?_
    refine jb_iret dX12_either_37 rfl ?_
    have e8 : jp_lp B n 0 f 0 (a, true, c) = (a, true, c) := jp_lp_no (fun z => absurd (hs ▸ z.2 : jp_rk (-1) = 0) (by decide))
    rw [e8]
    exact ⟨J, ⟨a, rfl, Or.inl ⟨rfl, hq, rfl⟩⟩, rfl⟩
  | succ k ih =>
    intro a c J x2 ha hk hc hq
    rcases jp_c0 (jp_lk B n a) with hs | ⟨n0, hr⟩
    · have ha1 : a < n := jp_in (fun z => by rw [hs] at z; exact absurd z (by decide))
      obtain ⟨q1, q2, q3, q4⟩ := hfo (a + 1) ha1
      show jb_J _ RX12 cX12_either 3 (Option.some .int) false (D + 1) 0 0 5 [some (.ref 105), some (.int (jv_ nm c)), x2] [] [s0, s1, s2, s3, s4, s5, s6, s7, s8, s9, jb_mdl I J d e kp nm W, s11] _
      refine jb_aload_n (pc' := 6) dX12_either_5 rfl rfl ?_
      refine jb_bipush (pc' := 8) 124 dX12_either_6 (by decide) rfl ?_
      refine jb_callV (pc' := 11) (ci := 12) (q := 105) (As := [.int 124]) (a2 := 0) (b2 := 0) wv_X12_86 rfl dX12_either_8 (c_takes1 I e kp nm W d hB hn hb J hq (by omega) 124 hs) rfl rfl ⟨by omega, Nat.le_of_eq (Nat.zero_add _), Nat.le_of_eq (Nat.zero_add _)⟩ (Nat.le_of_ble_eq_true rfl) rfl (fun r h9 hq => ?_)
      obtain ⟨rfl, rfl⟩ := hq
      show jb_J _ RX12 cX12_either 3 (Option.some .int) false (D + 1) 0 0 11 [some (.ref 105), some (.int (jv_ nm c)), x2] [.int 1] [s0, s1, s2, s3, s4, s5, s6, s7, s8, s9, jb_mdl I (upd J 1 (nI (a + 1))) d e kp nm W, s11] _
      refine jb_if_eq (tgt := 36) (pc' := 14) dX12_either_11 (by decide) rfl (fun z => absurd z (by decide)) (fun _ => ?_)
      refine jb_aload_n (pc' := 15) dX12_either_14 rfl rfl ?_
      refine jb_callV (pc' := 18) (ci := 12) (q := 105) (As := []) (a2 := 0) (b2 := 0) wv_X12_83 rfl dX12_either_15 (hf (upd J 1 (nI (a + 1))) (a + 1) (by omega) (hq.at (b := (a + 1)))) rfl rfl ⟨by omega, Nat.le_of_eq (Nat.zero_add _), Nat.le_of_eq (Nat.zero_add _)⟩ (Nat.le_of_ble_eq_true rfl) rfl (fun r h9 hq => ?_)
      rcases hq with ⟨J19, ⟨b1, hb1, ⟨hy1, hq1, rfl⟩ | ⟨hy1, v1, op1, hq1, rfl⟩⟩, rfl⟩
      · show jb_J _ RX12 cX12_either 3 (Option.some .int) false (D + 1) 0 0 18 [some (.ref 105), some (.int (jv_ nm c)), x2] [.int (jv_ nm (f (a + 1)).2.2)] [s0, s1, s2, s3, s4, s5, s6, s7, s8, s9, jb_mdl I J19 d e kp nm W, s11] _
        refine jb_istore_n_ (pc' := 19) dX12_either_18 (by decide) (jb_at2 rfl) rfl ?_
        refine jb_iload_n (pc' := 20) dX12_either_19 rfl rfl ?_
        refine jb_if_ne (tgt := 27) (pc' := 23) dX12_either_20 (by decide) rfl (fun c2 => ?_) (fun c2 => ?_)
        · refine jb_iconst (pc' := 28) 1 dX12_either_27 (by decide) rfl ?_
          refine jb_goto (pc' := 32) dX12_either_28 (by decide) ?_
          refine jb_istore_n_ (pc' := 33) dX12_either_32 (by decide) (jb_at1 rfl) rfl ?_
          refine jb_goto (pc' := 5) dX12_either_33 (by decide) ?_
          have e9 : jp_lp B n 0 f (k + 1) (a, true, c) = jp_lp B n 0 f k (b1, true, (c ++ (f (a + 1)).2.2 ++ [-124])) := by
            refine (jp_lp_go (x := (a, true, c)) rfl hs (by decide)).trans ?_
            show jp_lp B n 0 f k ((f (a + 1)).1, (f (a + 1)).2.1, c ++ (f (a + 1)).2.2 ++ [-124]) = _
            rw [hb1, hy1]
          have v9 : 1 = jv_ nm (c ++ (f (a + 1)).2.2 ++ [-124]) := by
            rw [jv_bin (s := 124) (r := 0) hc (q4 hy1) (by decide) (by decide) nm, jw_j_124]
            first | exact (if_pos ⟨by assumption, by assumption⟩).symm | exact (if_neg (fun z => absurd z.1 (by assumption))).symm | exact (if_neg (fun z => absurd z.2 (by assumption))).symm
          refine jb_locs (congrArg (fun y9 => ([some (.ref 105), some (.int y9), some (.int (jv_ nm (f (a + 1)).2.2))] : List (Option Value))) v9) ?_
          rw [e9]
          exact ih b1 (c ++ (f (a + 1)).2.2 ++ [-124]) J19 _ (by omega) (by omega) (jw_fbin hc (q4 hy1) (r := 0) (by decide) (by decide)) hq1
        · refine jb_iload_n (pc' := 24) dX12_either_23 rfl rfl ?_
          refine jb_if_eq (tgt := 31) (pc' := 27) dX12_either_24 (by decide) rfl (fun c3 => ?_) (fun c3 => ?_)
          · refine jb_iconst (pc' := 32) 0 dX12_either_31 (by decide) rfl ?_
            refine jb_istore_n_ (pc' := 33) dX12_either_32 (by decide) (jb_at1 rfl) rfl ?_
            refine jb_goto (pc' := 5) dX12_either_33 (by decide) ?_
            have e9 : jp_lp B n 0 f (k + 1) (a, true, c) = jp_lp B n 0 f k (b1, true, (c ++ (f (a + 1)).2.2 ++ [-124])) := by
              refine (jp_lp_go (x := (a, true, c)) rfl hs (by decide)).trans ?_
              show jp_lp B n 0 f k ((f (a + 1)).1, (f (a + 1)).2.1, c ++ (f (a + 1)).2.2 ++ [-124]) = _
              rw [hb1, hy1]
            have v9 : 0 = jv_ nm (c ++ (f (a + 1)).2.2 ++ [-124]) := by
              rw [jv_bin (s := 124) (r := 0) hc (q4 hy1) (by decide) (by decide) nm, jw_j_124]
              first | exact (if_pos ⟨by assumption, by assumption⟩).symm | exact (if_neg (fun z => absurd z.1 (by assumption))).symm | exact (if_neg (fun z => absurd z.2 (by assumption))).symm
            refine jb_locs (congrArg (fun y9 => ([some (.ref 105), some (.int y9), some (.int (jv_ nm (f (a + 1)).2.2))] : List (Option Value))) v9) ?_
            rw [e9]
            exact ih b1 (c ++ (f (a + 1)).2.2 ++ [-124]) J19 _ (by omega) (by omega) (jw_fbin hc (q4 hy1) (r := 0) (by decide) (by decide)) hq1
          · refine jb_iconst (pc' := 28) 1 dX12_either_27 (by decide) rfl ?_
            refine jb_goto (pc' := 32) dX12_either_28 (by decide) ?_
            refine jb_istore_n_ (pc' := 33) dX12_either_32 (by decide) (jb_at1 rfl) rfl ?_
            refine jb_goto (pc' := 5) dX12_either_33 (by decide) ?_
            have e9 : jp_lp B n 0 f (k + 1) (a, true, c) = jp_lp B n 0 f k (b1, true, (c ++ (f (a + 1)).2.2 ++ [-124])) := by
              refine (jp_lp_go (x := (a, true, c)) rfl hs (by decide)).trans ?_
              show jp_lp B n 0 f k ((f (a + 1)).1, (f (a + 1)).2.1, c ++ (f (a + 1)).2.2 ++ [-124]) = _
              rw [hb1, hy1]
            have v9 : 1 = jv_ nm (c ++ (f (a + 1)).2.2 ++ [-124]) := by
              rw [jv_bin (s := 124) (r := 0) hc (q4 hy1) (by decide) (by decide) nm, jw_j_124]
              first | exact (if_pos ⟨by assumption, by assumption⟩).symm | exact (if_neg (fun z => absurd z.1 (by assumption))).symm | exact (if_neg (fun z => absurd z.2 (by assumption))).symm
            refine jb_locs (congrArg (fun y9 => ([some (.ref 105), some (.int y9), some (.int (jv_ nm (f (a + 1)).2.2))] : List (Option Value))) v9) ?_
            rw [e9]
            exact ih b1 (c ++ (f (a + 1)).2.2 ++ [-124]) J19 _ (by omega) (by omega) (jw_fbin hc (q4 hy1) (r := 0) (by decide) (by decide)) hq1
      · show jb_J _ RX12 cX12_either 3 (Option.some .int) false (D + 1) 0 0 18 [some (.ref 105), some (.int (jv_ nm c)), x2] [.int v1] [s0, s1, s2, s3, s4, s5, s6, s7, s8, s9, jb_mdl I J19 d e kp nm W, s11] _
        refine jb_istore_n_ (pc' := 19) dX12_either_18 (by decide) (jb_at2 rfl) rfl ?_
        refine jb_iload_n (pc' := 20) dX12_either_19 rfl rfl ?_
        refine jb_if_ne (tgt := 27) (pc' := 23) dX12_either_20 (by decide) rfl (fun c4 => ?_) (fun c4 => ?_)
        · refine jb_iconst (pc' := 28) 1 dX12_either_27 (by decide) rfl ?_
          refine jb_goto (pc' := 32) dX12_either_28 (by decide) ?_
          refine jb_istore_n_ (pc' := 33) dX12_either_32 (by decide) (jb_at1 rfl) rfl ?_
          refine jb_goto (pc' := 5) dX12_either_33 (by decide) ?_
          refine jb_aload_n (pc' := 6) dX12_either_5 rfl rfl ?_
          refine jb_bipush (pc' := 8) 124 dX12_either_6 (by decide) rfl ?_
          refine jb_callV (pc' := 11) (ci := 12) (q := 105) (As := [.int 124]) (a2 := 0) (b2 := 0) wv_X12_86 rfl dX12_either_8 (c_takesF I e kp nm W J19 d hq1 (by omega) 124 (by decide)) rfl rfl ⟨by omega, Nat.le_of_eq (Nat.zero_add _), Nat.le_of_eq (Nat.zero_add _)⟩ (Nat.le_of_ble_eq_true rfl) rfl (fun r h9 hq => ?_)
          obtain ⟨rfl, rfl⟩ := hq
          show jb_J _ RX12 cX12_either 3 (Option.some .int) false (D + 1) 0 0 11 [some (.ref 105), some (.int 1), some (.int v1)] [.int 0] [s0, s1, s2, s3, s4, s5, s6, s7, s8, s9, jb_mdl I J19 d e kp nm W, s11] _
          refine jb_if_eq (tgt := 36) (pc' := 14) dX12_either_11 (by decide) rfl (fun _ => ?_) (fun z => absurd (by decide) z)
          refine jb_iload_n (pc' := 37) dX12_either_36 rfl rfl ?_
          refine jb_iret dX12_either_37 rfl ?_
          have e8 : jp_lp B n 0 f (k + 1) (a, true, c) = (b1, false, c ++ (f (a + 1)).2.2 ++ [-124]) := by
            refine (jp_lp_go (x := (a, true, c)) rfl hs (by decide)).trans ?_
            refine (jp_lp_no (fun z => ?_)).trans ?_
            · have z1 : (f (a + 1)).2.1 = true := z.1
              rw [hy1] at z1; cases z1
            · show ((f (a + 1)).1, (f (a + 1)).2.1, c ++ (f (a + 1)).2.2 ++ [-124]) = _
              rw [hb1, hy1]
          rw [e8]
          exact ⟨J19, ⟨b1, rfl, Or.inr ⟨rfl, _, _, hq1, rfl⟩⟩, rfl⟩
        · refine jb_iload_n (pc' := 24) dX12_either_23 rfl rfl ?_
          refine jb_if_eq (tgt := 31) (pc' := 27) dX12_either_24 (by decide) rfl (fun c6 => ?_) (fun c6 => ?_)
          · refine jb_iconst (pc' := 32) 0 dX12_either_31 (by decide) rfl ?_
            refine jb_istore_n_ (pc' := 33) dX12_either_32 (by decide) (jb_at1 rfl) rfl ?_
            refine jb_goto (pc' := 5) dX12_either_33 (by decide) ?_
            refine jb_aload_n (pc' := 6) dX12_either_5 rfl rfl ?_
            refine jb_bipush (pc' := 8) 124 dX12_either_6 (by decide) rfl ?_
            refine jb_callV (pc' := 11) (ci := 12) (q := 105) (As := [.int 124]) (a2 := 0) (b2 := 0) wv_X12_86 rfl dX12_either_8 (c_takesF I e kp nm W J19 d hq1 (by omega) 124 (by decide)) rfl rfl ⟨by omega, Nat.le_of_eq (Nat.zero_add _), Nat.le_of_eq (Nat.zero_add _)⟩ (Nat.le_of_ble_eq_true rfl) rfl (fun r h9 hq => ?_)
            obtain ⟨rfl, rfl⟩ := hq
            show jb_J _ RX12 cX12_either 3 (Option.some .int) false (D + 1) 0 0 11 [some (.ref 105), some (.int 0), some (.int v1)] [.int 0] [s0, s1, s2, s3, s4, s5, s6, s7, s8, s9, jb_mdl I J19 d e kp nm W, s11] _
            refine jb_if_eq (tgt := 36) (pc' := 14) dX12_either_11 (by decide) rfl (fun _ => ?_) (fun z => absurd (by decide) z)
            refine jb_iload_n (pc' := 37) dX12_either_36 rfl rfl ?_
            refine jb_iret dX12_either_37 rfl ?_
            have e8 : jp_lp B n 0 f (k + 1) (a, true, c) = (b1, false, c ++ (f (a + 1)).2.2 ++ [-124]) := by
              refine (jp_lp_go (x := (a, true, c)) rfl hs (by decide)).trans ?_
              refine (jp_lp_no (fun z => ?_)).trans ?_
              · have z1 : (f (a + 1)).2.1 = true := z.1
                rw [hy1] at z1; cases z1
              · show ((f (a + 1)).1, (f (a + 1)).2.1, c ++ (f (a + 1)).2.2 ++ [-124]) = _
                rw [hb1, hy1]
            rw [e8]
            exact ⟨J19, ⟨b1, rfl, Or.inr ⟨rfl, _, _, hq1, rfl⟩⟩, rfl⟩
          · refine jb_iconst (pc' := 28) 1 dX12_either_27 (by decide) rfl ?_
            refine jb_goto (pc' := 32) dX12_either_28 (by decide) ?_
            refine jb_istore_n_ (pc' := 33) dX12_either_32 (by decide) (jb_at1 rfl) rfl ?_
            refine jb_goto (pc' := 5) dX12_either_33 (by decide) ?_
            refine jb_aload_n (pc' := 6) dX12_either_5 rfl rfl ?_
            refine jb_bipush (pc' := 8) 124 dX12_either_6 (by decide) rfl ?_
            refine jb_callV (pc' := 11) (ci := 12) (q := 105) (As := [.int 124]) (a2 := 0) (b2 := 0) wv_X12_86 rfl dX12_either_8 (c_takesF I e kp nm W J19 d hq1 (by omega) 124 (by decide)) rfl rfl ⟨by omega, Nat.le_of_eq (Nat.zero_add _), Nat.le_of_eq (Nat.zero_add _)⟩ (Nat.le_of_ble_eq_true rfl) rfl (fun r h9 hq => ?_)
            obtain ⟨rfl, rfl⟩ := hq
            show jb_J _ RX12 cX12_either 3 (Option.some .int) false (D + 1) 0 0 11 [some (.ref 105), some (.int 1), some (.int v1)] [.int 0] [s0, s1, s2, s3, s4, s5, s6, s7, s8, s9, jb_mdl I J19 d e kp nm W, s11] _
            refine jb_if_eq (tgt := 36) (pc' := 14) dX12_either_11 (by decide) rfl (fun _ => ?_) (fun z => absurd (by decide) z)
            refine jb_iload_n (pc' := 37) dX12_either_36 rfl rfl ?_
            refine jb_iret dX12_either_37 rfl ?_
            have e8 : jp_lp B n 0 f (k + 1) (a, true, c) = (b1, false, c ++ (f (a + 1)).2.2 ++ [-124]) := by
              refine (jp_lp_go (x := (a, true, c)) rfl hs (by decide)).trans ?_
              refine (jp_lp_no (fun z => ?_)).trans ?_
              · have z1 : (f (a + 1)).2.1 = true := z.1
                rw [hy1] at z1; cases z1
              · show ((f (a + 1)).1, (f (a + 1)).2.1, c ++ (f (a + 1)).2.2 ++ [-124]) = _
                rw [hb1, hy1]
            rw [e8]
            exact ⟨J19, ⟨b1, rfl, Or.inr ⟨rfl, _, _, hq1, rfl⟩⟩, rfl⟩
    · show jb_J _ RX12 cX12_either 3 (Option.some .int) false (D + 1) 0 0 5 [some (.ref 105), some (.int (jv_ nm c)), x2] [] [s0, s1, s2, s3, s4, s5, s6, s7, s8, s9, jb_mdl I J d e kp nm W, s11] _
      refine jb_aload_n (pc' := 6) dX12_either_5 rfl rfl ?_
      refine jb_bipush (pc' := 8) 124 dX12_either_6 (by decide) rfl ?_
      refine jb_callV (pc' := 11) (ci := 12) (q := 105) (As := [.int 124]) (a2 := 0) (b2 := 0) wv_X12_86 rfl dX12_either_8 (c_takes0 I e kp nm W d hB hn hb J hq (by omega) 124 n0) rfl rfl ⟨by omega, Nat.le_of_eq (Nat.zero_add _), Nat.le_of_eq (Nat.zero_add _)⟩ (Nat.le_of_ble_eq_true rfl) rfl (fun r h9 hq => ?_)
      obtain ⟨rfl, rfl⟩ := hq
      show jb_J _ RX12 cX12_either 3 (Option.some .int) false (D + 1) 0 0 11 [some (.ref 105), some (.int (jv_ nm c)), x2] [.int 0] [s0, s1, s2, s3, s4, s5, s6, s7, s8, s9, jb_mdl I J d e kp nm W, s11] _
      refine jb_if_eq (tgt := 36) (pc' := 14) dX12_either_11 (by decide) rfl (fun _ => ?_) (fun z => absurd (by decide) z)
      refine jb_iload_n (pc' := 37) dX12_either_36 rfl rfl ?_
      refine jb_iret dX12_either_37 rfl ?_
      have e8 : jp_lp B n 0 f (k + 1) (a, true, c) = (a, true, c) := jp_lp_no (fun z => hr z.2)
      rw [e8]
      exact ⟨J, ⟨a, rfl, Or.inl ⟨rfl, hq, rfl⟩⟩, rfl⟩
set_option maxRecDepth 100000 in
set_option maxHeartbeats 4000000 in
theorem c_eitherm {sc : Nat × (Nat → Int32)} {s0 s1 s2 s3 s4 s5 s6 s7 s8 s9 s11 : List va_E} (I e kp nm : Nat → Int32) (W : Nat → Nat → Int32) {B : Nat → Int32} {base n u : Nat} (d : Nat → Int32) (hB : ∀ k, k < n → d (base + k) = B k) (hn : n ≤ 50) (hb : base ≤ 438) (op : Int32) (f : Nat → jp_R) (hfo : ∀ a, a ≤ n → jp_ok n a (f a)) (D : Nat) (hD : 1 ≤ D) (hf : jq_F sc s0 s1 s2 s3 s4 s5 s6 s7 s8 s9 s11 I e kp nm W d base n u op yX12_both cX12_both 3 D f) : jq_F sc s0 s1 s2 s3 s4 s5 s6 s7 s8 s9 s11 I e kp nm W d base n u op yX12_either cX12_either 3 (D + 1) (fun a => jp_lp B n 0 f 50 (f a)) := by
  intro J a ha hq
  show jb_C sc yX12_either cX12_either 3 (Option.some .int) (D + 1) 0 0 [.ref 105] [s0, s1, s2, s3, s4, s5, s6, s7, s8, s9, jb_mdl I J d e kp nm W, s11] (fun r h9 => ∃ J9, jq_P nm base n u op (jp_lp B n 0 f 50 (f a)) r J9 ∧ h9 = [s0, s1, s2, s3, s4, s5, s6, s7, s8, s9, jb_mdl I J9 d e kp nm W, s11])
  refine jb_CofJ (ini := false) (by decide +kernel) (fun h => by cases h) (Nat.le_of_ble_eq_true rfl) ?_
  obtain ⟨q1, q2, q3, q4⟩ := hfo a ha
  show jb_J _ RX12 cX12_either 3 (Option.some .int) false (D + 1) 0 0 0 [some (.ref 105), none, none] [] [s0, s1, s2, s3, s4, s5, s6, s7, s8, s9, jb_mdl I J d e kp nm W, s11] _
  refine jb_aload_n (pc' := 1) dX12_either_0 rfl rfl ?_
  refine jb_callV (pc' := 4) (ci := 12) (q := 105) (As := []) (a2 := 0) (b2 := 0) wv_X12_83 rfl dX12_either_1 (hf J a (by omega) hq) rfl rfl ⟨by omega, Nat.le_of_eq (Nat.zero_add _), Nat.le_of_eq (Nat.zero_add _)⟩ (Nat.le_of_ble_eq_true rfl) rfl (fun r h9 hq => ?_)
  rcases hq with ⟨J19, ⟨b1, hb1, ⟨hy1, hq1, rfl⟩ | ⟨hy1, v1, op1, hq1, rfl⟩⟩, rfl⟩
  · show jb_J _ RX12 cX12_either 3 (Option.some .int) false (D + 1) 0 0 4 [some (.ref 105), none, none] [.int (jv_ nm (f a).2.2)] [s0, s1, s2, s3, s4, s5, s6, s7, s8, s9, jb_mdl I J19 d e kp nm W, s11] _
    refine jb_istore_n_ (pc' := 5) dX12_either_4 (by decide) (jb_at1 rfl) rfl ?_
    have ef : f a = (b1, true, (f a).2.2) := jp_eta hb1 hy1
    have eF : jp_lp B n 0 f 50 (f a) = jp_lp B n 0 f 50 (b1, true, (f a).2.2) := congrArg (jp_lp B n 0 f 50) ef
    rw [eF]
    exact l_eitherm I e kp nm W d hB hn hb op f hfo D hD hf 50 b1 (f a).2.2 J19 _ (by omega) (by omega) (q4 hy1) hq1
  · show jb_J _ RX12 cX12_either 3 (Option.some .int) false (D + 1) 0 0 4 [some (.ref 105), none, none] [.int v1] [s0, s1, s2, s3, s4, s5, s6, s7, s8, s9, jb_mdl I J19 d e kp nm W, s11] _
    refine jb_istore_n_ (pc' := 5) dX12_either_4 (by decide) (jb_at1 rfl) rfl ?_
    refine jb_aload_n (pc' := 6) dX12_either_5 rfl rfl ?_
    refine jb_bipush (pc' := 8) 124 dX12_either_6 (by decide) rfl ?_
    refine jb_callV (pc' := 11) (ci := 12) (q := 105) (As := [.int 124]) (a2 := 0) (b2 := 0) wv_X12_86 rfl dX12_either_8 (c_takesF I e kp nm W J19 d hq1 (by omega) 124 (by decide)) rfl rfl ⟨by omega, Nat.le_of_eq (Nat.zero_add _), Nat.le_of_eq (Nat.zero_add _)⟩ (Nat.le_of_ble_eq_true rfl) rfl (fun r h9 hq => ?_)
    obtain ⟨rfl, rfl⟩ := hq
    show jb_J _ RX12 cX12_either 3 (Option.some .int) false (D + 1) 0 0 11 [some (.ref 105), some (.int v1), none] [.int 0] [s0, s1, s2, s3, s4, s5, s6, s7, s8, s9, jb_mdl I J19 d e kp nm W, s11] _
    refine jb_if_eq (tgt := 36) (pc' := 14) dX12_either_11 (by decide) rfl (fun _ => ?_) (fun z => absurd (by decide) z)
    refine jb_iload_n (pc' := 37) dX12_either_36 rfl rfl ?_
    refine jb_iret dX12_either_37 rfl ?_
    have e8 : jp_lp B n 0 f 50 (f a) = f a := jp_lp_no (fun z => by have z1 := z.1; rw [hy1] at z1; cases z1)
    rw [e8]
    exact ⟨J19, ⟨b1, hb1, Or.inr ⟨hy1, _, _, hq1, rfl⟩⟩, rfl⟩
