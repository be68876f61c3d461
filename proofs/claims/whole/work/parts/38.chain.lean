set_option maxRecDepth 100000 in
set_option maxHeartbeats 4000000 in
theorem l_chain4 {sc : Nat × (Nat → Int32)} {s1 s2 s3 s4 s5 s6 s7 s8 s9 s10 s11 : List va_E} (imm : Int32) (Tm : Nat → Value) (stkm tpm : Nat → Int32) {B : Nat → Int32} {n u : Nat} (hB : ∀ k, k < n → tpm k = B k) (hy8 : jp_by B n) (hn : n ≤ 50) (hu : u < 2) (q : Nat) (hq5 : q ≤ 5) (f : Nat → jp_R) (hfo : ∀ a, a ≤ n → jp_ok n a (f a)) (D : Nat) (hf : jc_F sc s1 s2 s3 s4 s5 s6 s7 s8 s9 s10 s11 imm Tm stkm tpm n u yX8_chain cX8_chain 6 D [.int 5, .int (nI q)] f) (rowm : Nat → Int32) (w : Nat) : ∀ (k i a : Nat) (c : List Int32) (Im : Nat → Int32) (x5 : Option Value), i + k = 50 → a ≤ n → w + c.length ≤ a → jc_ Im n a (w + c.length) 0 → jb_J sc RX8 cX8_chain 6 (Option.none : Option Jvm.ClassFile.FieldType) false (D + 1) 0 0 34 [some (.ref 1), some (.int 4), some (.int (nI q)), some (.int 50), some (.int (nI i)), x5] [] [jb_main imm Im (va_up Tm 0 (.ref (1000000 + (2 + u)))) (jp_wr rowm w c) stkm tpm, s1, s2, s3, s4, s5, s6, s7, s8, s9, s10, s11] (fun r h9 => r = none ∧ ∃ I9 b9 k9, (jp_lp B n 4 f k (a, true, c)).1 = b9 ∧ (jp_lp B n 4 f k (a, true, c)).2.2.length = k9 ∧ (((jp_lp B n 4 f k (a, true, c)).2.1 = true ∧ jc_ I9 n b9 (w + k9) 0) ∨ ((jp_lp B n 4 f k (a, true, c)).2.1 = false ∧ jc_ I9 n b9 (w + k9) 1)) ∧ h9 = [jb_main imm I9 (va_up Tm 0 (.ref (1000000 + (2 + u)))) (jp_wr rowm w (jp_lp B n 4 f k (a, true, c)).2.2) stkm tpm, s1, s2, s3, s4, s5, s6, s7, s8, s9, s10, s11]) := by
  intro k
  induction k with
  | zero =>
    intro i a c Im x5 hk ha hwa hc
    show jb_J _ RX8 cX8_chain 6 (Option.none : Option Jvm.ClassFile.FieldType) false (D + 1) 0 0 34 [some (.ref 1), some (.int 4), some (.int (nI q)), some (.int 50), some (.int (nI i)), x5] [] [jb_main imm Im (va_up Tm 0 (.ref (1000000 + (2 + u)))) (jp_wr rowm w c) stkm tpm, s1, s2, s3, s4, s5, s6, s7, s8, s9, s10, s11] _
    refine jb_iload (pc' := 36) dX8_chain_34 rfl rfl ?_
    refine jb_iload_n (pc' := 37) dX8_chain_36 rfl rfl ?_
    refine jb_icmp_ge (tgt := 95) (pc' := 40) dX8_chain_37 (by decide) rfl (fun _ => ?_) (fun z => absurd (nI_le (a := 50) (b := i) (by omega) (by omega)) z)
    refine jb_vret dX8_chain_95 ?_
    have e8 : jp_lp B n 4 f 0 (a, true, c) = (a, true, c) := rfl
    rw [e8]
    exact ⟨rfl, Im, a, c.length, rfl, rfl, Or.inl ⟨rfl, hc⟩, rfl⟩
  | succ k ih =>
    intro i a c Im x5 hk ha hwa hc
    rcases jp_c4 (jp_lk B n a) with hs | hs | hs | ⟨-, -, -, hr⟩
    · have ha1 : a < n := jp_in (fun z => by rw [hs] at z; exact absurd z (by decide))
      obtain ⟨q1, q2, q3, q4⟩ := hfo (a + 1) ha1
      show jb_J _ RX8 cX8_chain 6 (Option.none : Option Jvm.ClassFile.FieldType) false (D + 1) 0 0 34 [some (.ref 1), some (.int 4), some (.int (nI q)), some (.int 50), some (.int (nI i)), x5] [] [jb_main imm Im (va_up Tm 0 (.ref (1000000 + (2 + u)))) (jp_wr rowm w c) stkm tpm, s1, s2, s3, s4, s5, s6, s7, s8, s9, s10, s11] _
      refine jb_iload (pc' := 36) dX8_chain_34 rfl rfl ?_
      refine jb_iload_n (pc' := 37) dX8_chain_36 rfl rfl ?_
      refine jb_icmp_ge (tgt := 95) (pc' := 40) dX8_chain_37 (by decide) rfl (fun z => absurd z (nI_ge (a := i) (b := 50) (by omega) (by omega))) (fun _ => ?_)
      refine jb_aload_n (pc' := 41) dX8_chain_40 rfl rfl ?_
      refine gf_X8_31 (pc' := 44) (v := .int (Im 3)) dX8_chain_41 rfl rfl rfl ?_
      refine jb_top (v := .int (Im 3)) (w := .int 0) (jb_vI hc.2.2.2) ?_
      refine jb_if_ne (tgt := 95) (pc' := 47) dX8_chain_44 (by decide) rfl (fun z => absurd (by decide) z) (fun _ => ?_)
      refine jb_aload_n (pc' := 48) dX8_chain_47 rfl rfl ?_
      refine jb_callV (pc' := 51) (ci := 8) (q := 1) (As := []) (a2 := 0) (b2 := 0) wv_X8_67 rfl dX8_chain_48 (c_look imm Tm stkm tpm Im (jp_wr rowm w c) hB hy8 hn hu hc (by omega)) rfl rfl ⟨by omega, Nat.le_of_eq (Nat.zero_add _), Nat.le_of_eq (Nat.zero_add _)⟩ (Nat.le_of_ble_eq_true rfl) rfl (fun r h9 hq => ?_)
      obtain ⟨rfl, rfl⟩ := hq
      rw [hs]
      show jb_J _ RX8 cX8_chain 6 (Option.none : Option Jvm.ClassFile.FieldType) false (D + 1) 0 0 51 [some (.ref 1), some (.int 4), some (.int (nI q)), some (.int 50), some (.int (nI i)), x5] [.int 42] [jb_main imm Im (va_up Tm 0 (.ref (1000000 + (2 + u)))) (jp_wr rowm w c) stkm tpm, s1, s2, s3, s4, s5, s6, s7, s8, s9, s10, s11] _
      refine jb_callS (pc' := 54) (As := [.int 42]) (a2 := 0) (b2 := 0) wv_X8_71 dX8_chain_51 c_rank42 rfl ⟨by omega, Nat.le_of_eq (Nat.zero_add _), Nat.le_of_eq (Nat.zero_add _)⟩ (Nat.le_of_ble_eq_true rfl) rfl (fun r h9 hq => ?_)
      obtain ⟨rfl, rfl⟩ := hq
      show jb_J _ RX8 cX8_chain 6 (Option.none : Option Jvm.ClassFile.FieldType) false (D + 1) 0 0 54 [some (.ref 1), some (.int 4), some (.int (nI q)), some (.int 50), some (.int (nI i)), x5] [.int 4] [jb_main imm Im (va_up Tm 0 (.ref (1000000 + (2 + u)))) (jp_wr rowm w c) stkm tpm, s1, s2, s3, s4, s5, s6, s7, s8, s9, s10, s11] _
      refine jb_iload_n (pc' := 55) dX8_chain_54 rfl rfl ?_
      refine jb_icmp_ne (tgt := 95) (pc' := 58) dX8_chain_55 (by decide) rfl (fun z => absurd (by decide) z) (fun _ => ?_)
      refine jb_aload_n (pc' := 59) dX8_chain_58 rfl rfl ?_
      refine jb_callV (pc' := 62) (ci := 8) (q := 1) (As := []) (a2 := 0) (b2 := 0) wv_X8_67 rfl dX8_chain_59 (c_look imm Tm stkm tpm Im (jp_wr rowm w c) hB hy8 hn hu hc (by omega)) rfl rfl ⟨by omega, Nat.le_of_eq (Nat.zero_add _), Nat.le_of_eq (Nat.zero_add _)⟩ (Nat.le_of_ble_eq_true rfl) rfl (fun r h9 hq => ?_)
      obtain ⟨rfl, rfl⟩ := hq
      rw [hs]
      show jb_J _ RX8 cX8_chain 6 (Option.none : Option Jvm.ClassFile.FieldType) false (D + 1) 0 0 62 [some (.ref 1), some (.int 4), some (.int (nI q)), some (.int 50), some (.int (nI i)), x5] [.int 42] [jb_main imm Im (va_up Tm 0 (.ref (1000000 + (2 + u)))) (jp_wr rowm w c) stkm tpm, s1, s2, s3, s4, s5, s6, s7, s8, s9, s10, s11] _
      refine jb_istore_ (pc' := 64) dX8_chain_62 (by decide) (jb_at5 rfl) rfl ?_
      refine jb_aload_n (pc' := 65) dX8_chain_64 rfl rfl ?_
      refine jb_dup (pc' := 66) dX8_chain_65 rfl rfl ?_
      refine gf_X8_25 (pc' := 69) (v := .int (Im 1)) dX8_chain_66 rfl rfl rfl ?_
      refine jb_top (v := .int (Im 1)) (w := .int (nI a)) (jb_vI hc.2.1) ?_
      refine jb_iconst (pc' := 70) 1 dX8_chain_69 (by decide) rfl ?_
      refine jb_iadd (pc' := 71) dX8_chain_70 rfl ?_
      refine jb_top (v := .int ((nI a) + 1)) (w := .int (nI (a + 1))) (jb_vI (nI_add _ 1)) ?_
      refine pf_X8_25 (pc' := 74) (h' := [jb_main imm (upd Im 1 (nI (a + 1))) (va_up Tm 0 (.ref (1000000 + (2 + u)))) (jp_wr rowm w c) stkm tpm, s1, s2, s3, s4, s5, s6, s7, s8, s9, s10, s11]) dX8_chain_71 (fun _ => ⟨rfl, rfl⟩) rfl (Nat.le_of_ble_eq_true rfl) rfl rfl ?_
      refine jb_aload_n (pc' := 75) dX8_chain_74 rfl rfl ?_
      refine jb_iload_n (pc' := 76) dX8_chain_75 rfl rfl ?_
      refine jb_iconst (pc' := 77) 1 dX8_chain_76 (by decide) rfl ?_
      refine jb_iadd (pc' := 78) dX8_chain_77 rfl ?_
      refine jb_top (v := .int (4 + 1)) (w := .int 5) (jb_vI (by decide)) ?_
      refine jb_iload_n (pc' := 79) dX8_chain_78 rfl rfl ?_
      refine jb_callV (pc' := 82) (ci := 8) (q := 1) (As := [.int 5, .int (nI q)]) (a2 := 0) (b2 := 0) wv_X8_53 rfl dX8_chain_79 (hf (upd Im 1 (nI (a + 1))) (jp_wr rowm w c) (a + 1) (w + c.length) (by omega) (by omega) (hc.at (b := (a + 1)))) rfl rfl ⟨by omega, Nat.le_of_eq (Nat.zero_add _), Nat.le_of_eq (Nat.zero_add _)⟩ (Nat.le_of_ble_eq_true rfl) rfl (fun r h9 hq => ?_)
      rcases hq with ⟨rfl, I19, b1, k1, hb1, hk1, ⟨hy1, hq1⟩ | ⟨hy1, hq1⟩, rfl⟩
      · show jb_J _ RX8 cX8_chain 6 (Option.none : Option Jvm.ClassFile.FieldType) false (D + 1) 0 0 82 [some (.ref 1), some (.int 4), some (.int (nI q)), some (.int 50), some (.int (nI i)), some (.int 42)] [] [jb_main imm I19 (va_up Tm 0 (.ref (1000000 + (2 + u)))) (jp_wr (jp_wr rowm w c) (w + c.length) (f (a + 1)).2.2) stkm tpm, s1, s2, s3, s4, s5, s6, s7, s8, s9, s10, s11] _
        refine jb_aload_n (pc' := 83) dX8_chain_82 rfl rfl ?_
        refine jb_iload (pc' := 85) dX8_chain_83 rfl rfl ?_
        refine jb_ineg (pc' := 86) dX8_chain_85 rfl ?_
        refine jb_callV (pc' := 89) (ci := 8) (q := 1) (As := [.int (-42)]) (a2 := 0) (b2 := 0) wv_X8_75 rfl dX8_chain_86 (c_write imm Tm stkm tpm I19 (jp_wr (jp_wr rowm w c) (w + c.length) (f (a + 1)).2.2) hq1 (by omega) (-42)) rfl rfl ⟨by omega, Nat.le_of_eq (Nat.zero_add _), Nat.le_of_eq (Nat.zero_add _)⟩ (Nat.le_of_ble_eq_true rfl) rfl (fun r h9 hq => ?_)
        obtain ⟨rfl, rfl⟩ := hq
        show jb_J _ RX8 cX8_chain 6 (Option.none : Option Jvm.ClassFile.FieldType) false (D + 1) 0 0 89 [some (.ref 1), some (.int 4), some (.int (nI q)), some (.int 50), some (.int (nI i)), some (.int 42)] [] [jb_main imm (upd I19 2 (nI (((w + c.length) + k1) + 1))) (va_up Tm 0 (.ref (1000000 + (2 + u)))) (upd (jp_wr (jp_wr rowm w c) (w + c.length) (f (a + 1)).2.2) ((w + c.length) + k1) (-42)) stkm tpm, s1, s2, s3, s4, s5, s6, s7, s8, s9, s10, s11] _
        refine jb_iinc_ (pc' := 92) (nI (i + 1)) dX8_chain_89 (by decide) rfl (jb_inc i 1) (jb_at4 rfl) rfl ?_
        refine jb_goto (pc' := 34) dX8_chain_92 (by decide) ?_
        refine jb_heap (h' := [jb_main imm (upd I19 2 (nI (((w + c.length) + k1) + 1))) (va_up Tm 0 (.ref (1000000 + (2 + u)))) (jp_wr rowm w (c ++ (f (a + 1)).2.2 ++ [-42])) stkm tpm, s1, s2, s3, s4, s5, s6, s7, s8, s9, s10, s11]) (by rw [← jp_wr_bin rowm w c (f (a + 1)).2.2 (-42) (v := w + c.length + k1) (by rw [hk1])]) ?_
        have e9 : jp_lp B n 4 f (k + 1) (a, true, c) = jp_lp B n 4 f k (b1, true, (c ++ (f (a + 1)).2.2 ++ [-42])) := by
          refine (jp_lp_go (x := (a, true, c)) rfl hs (by decide)).trans ?_
          show jp_lp B n 4 f k ((f (a + 1)).1, (f (a + 1)).2.1, c ++ (f (a + 1)).2.2 ++ [-42]) = _
          rw [hb1, hy1]
        rw [e9]
        have lc := (show (c ++ (f (a + 1)).2.2 ++ [-42]).length = c.length + k1 + 1 by rw [List.length_append, List.length_append, hk1]; rfl)
        exact ih (i + 1) b1 (c ++ (f (a + 1)).2.2 ++ [-42]) (upd I19 2 (nI (((w + c.length) + k1) + 1))) _ (by omega) (by omega) (by omega) (by rw [lc, show w + (c.length + k1 + 1) = w + c.length + k1 + 1 by omega]; exact (hq1.wr (b := (((w + c.length) + k1) + 1))))
      · show jb_J _ RX8 cX8_chain 6 (Option.none : Option Jvm.ClassFile.FieldType) false (D + 1) 0 0 82 [some (.ref 1), some (.int 4), some (.int (nI q)), some (.int 50), some (.int (nI i)), some (.int 42)] [] [jb_main imm I19 (va_up Tm 0 (.ref (1000000 + (2 + u)))) (jp_wr (jp_wr rowm w c) (w + c.length) (f (a + 1)).2.2) stkm tpm, s1, s2, s3, s4, s5, s6, s7, s8, s9, s10, s11] _
        refine jb_aload_n (pc' := 83) dX8_chain_82 rfl rfl ?_
        refine jb_iload (pc' := 85) dX8_chain_83 rfl rfl ?_
        refine jb_ineg (pc' := 86) dX8_chain_85 rfl ?_
        refine jb_callV (pc' := 89) (ci := 8) (q := 1) (As := [.int (-42)]) (a2 := 0) (b2 := 0) wv_X8_75 rfl dX8_chain_86 (c_write imm Tm stkm tpm I19 (jp_wr (jp_wr rowm w c) (w + c.length) (f (a + 1)).2.2) hq1 (by omega) (-42)) rfl rfl ⟨by omega, Nat.le_of_eq (Nat.zero_add _), Nat.le_of_eq (Nat.zero_add _)⟩ (Nat.le_of_ble_eq_true rfl) rfl (fun r h9 hq => ?_)
        obtain ⟨rfl, rfl⟩ := hq
        show jb_J _ RX8 cX8_chain 6 (Option.none : Option Jvm.ClassFile.FieldType) false (D + 1) 0 0 89 [some (.ref 1), some (.int 4), some (.int (nI q)), some (.int 50), some (.int (nI i)), some (.int 42)] [] [jb_main imm (upd I19 2 (nI (((w + c.length) + k1) + 1))) (va_up Tm 0 (.ref (1000000 + (2 + u)))) (upd (jp_wr (jp_wr rowm w c) (w + c.length) (f (a + 1)).2.2) ((w + c.length) + k1) (-42)) stkm tpm, s1, s2, s3, s4, s5, s6, s7, s8, s9, s10, s11] _
        refine jb_iinc_ (pc' := 92) (nI (i + 1)) dX8_chain_89 (by decide) rfl (jb_inc i 1) (jb_at4 rfl) rfl ?_
        refine jb_goto (pc' := 34) dX8_chain_92 (by decide) ?_
        refine jb_heap (h' := [jb_main imm (upd I19 2 (nI (((w + c.length) + k1) + 1))) (va_up Tm 0 (.ref (1000000 + (2 + u)))) (jp_wr rowm w (c ++ (f (a + 1)).2.2 ++ [-42])) stkm tpm, s1, s2, s3, s4, s5, s6, s7, s8, s9, s10, s11]) (by rw [← jp_wr_bin rowm w c (f (a + 1)).2.2 (-42) (v := w + c.length + k1) (by rw [hk1])]) ?_
        refine jb_iload (pc' := 36) dX8_chain_34 rfl rfl ?_
        refine jb_iload_n (pc' := 37) dX8_chain_36 rfl rfl ?_
        refine jb_icmp_ge (tgt := 95) (pc' := 40) dX8_chain_37 (by decide) rfl (fun c4 => ?_) (fun c4 => ?_)
        · refine jb_vret dX8_chain_95 ?_
          have e8 : jp_lp B n 4 f (k + 1) (a, true, c) = (b1, false, (c ++ (f (a + 1)).2.2 ++ [-42])) := by
            refine (jp_lp_go (x := (a, true, c)) rfl hs (by decide)).trans ?_
            refine (jp_lp_no (fun z => ?_)).trans ?_
            · have z1 : (f (a + 1)).2.1 = true := z.1
              rw [hy1] at z1; cases z1
            · show ((f (a + 1)).1, (f (a + 1)).2.1, c ++ (f (a + 1)).2.2 ++ [-42]) = _
              rw [hb1, hy1]
          rw [e8]
          exact ⟨rfl, (upd I19 2 (nI (((w + c.length) + k1) + 1))), b1, c.length + k1 + 1, rfl, (show (c ++ (f (a + 1)).2.2 ++ [-42]).length = c.length + k1 + 1 by rw [List.length_append, List.length_append, hk1]; rfl), Or.inr ⟨rfl, by rw [show w + (c.length + k1 + 1) = w + c.length + k1 + 1 by omega]; exact (hq1.wr (b := (((w + c.length) + k1) + 1)))⟩, rfl⟩
        · refine jb_aload_n (pc' := 41) dX8_chain_40 rfl rfl ?_
          refine gf_X8_31 (pc' := 44) (v := .int ((upd I19 2 (nI (((w + c.length) + k1) + 1))) 3)) dX8_chain_41 rfl rfl rfl ?_
          refine jb_top (v := .int ((upd I19 2 (nI (((w + c.length) + k1) + 1))) 3)) (w := .int 1) (jb_vI (hq1.wr (b := (((w + c.length) + k1) + 1))).2.2.2) ?_
          refine jb_if_ne (tgt := 95) (pc' := 47) dX8_chain_44 (by decide) rfl (fun _ => ?_) (fun z => absurd z (by decide))
          refine jb_vret dX8_chain_95 ?_
          have e8 : jp_lp B n 4 f (k + 1) (a, true, c) = (b1, false, (c ++ (f (a + 1)).2.2 ++ [-42])) := by
            refine (jp_lp_go (x := (a, true, c)) rfl hs (by decide)).trans ?_
            refine (jp_lp_no (fun z => ?_)).trans ?_
            · have z1 : (f (a + 1)).2.1 = true := z.1
              rw [hy1] at z1; cases z1
            · show ((f (a + 1)).1, (f (a + 1)).2.1, c ++ (f (a + 1)).2.2 ++ [-42]) = _
              rw [hb1, hy1]
          rw [e8]
          exact ⟨rfl, (upd I19 2 (nI (((w + c.length) + k1) + 1))), b1, c.length + k1 + 1, rfl, (show (c ++ (f (a + 1)).2.2 ++ [-42]).length = c.length + k1 + 1 by rw [List.length_append, List.length_append, hk1]; rfl), Or.inr ⟨rfl, by rw [show w + (c.length + k1 + 1) = w + c.length + k1 + 1 by omega]; exact (hq1.wr (b := (((w + c.length) + k1) + 1)))⟩, rfl⟩
    · have ha1 : a < n := jp_in (fun z => by rw [hs] at z; exact absurd z (by decide))
      obtain ⟨q1, q2, q3, q4⟩ := hfo (a + 1) ha1
      show jb_J _ RX8 cX8_chain 6 (Option.none : Option Jvm.ClassFile.FieldType) false (D + 1) 0 0 34 [some (.ref 1), some (.int 4), some (.int (nI q)), some (.int 50), some (.int (nI i)), x5] [] [jb_main imm Im (va_up Tm 0 (.ref (1000000 + (2 + u)))) (jp_wr rowm w c) stkm tpm, s1, s2, s3, s4, s5, s6, s7, s8, s9, s10, s11] _
      refine jb_iload (pc' := 36) dX8_chain_34 rfl rfl ?_
      refine jb_iload_n (pc' := 37) dX8_chain_36 rfl rfl ?_
      refine jb_icmp_ge (tgt := 95) (pc' := 40) dX8_chain_37 (by decide) rfl (fun z => absurd z (nI_ge (a := i) (b := 50) (by omega) (by omega))) (fun _ => ?_)
      refine jb_aload_n (pc' := 41) dX8_chain_40 rfl rfl ?_
      refine gf_X8_31 (pc' := 44) (v := .int (Im 3)) dX8_chain_41 rfl rfl rfl ?_
      refine jb_top (v := .int (Im 3)) (w := .int 0) (jb_vI hc.2.2.2) ?_
      refine jb_if_ne (tgt := 95) (pc' := 47) dX8_chain_44 (by decide) rfl (fun z => absurd (by decide) z) (fun _ => ?_)
      refine jb_aload_n (pc' := 48) dX8_chain_47 rfl rfl ?_
      refine jb_callV (pc' := 51) (ci := 8) (q := 1) (As := []) (a2 := 0) (b2 := 0) wv_X8_67 rfl dX8_chain_48 (c_look imm Tm stkm tpm Im (jp_wr rowm w c) hB hy8 hn hu hc (by omega)) rfl rfl ⟨by omega, Nat.le_of_eq (Nat.zero_add _), Nat.le_of_eq (Nat.zero_add _)⟩ (Nat.le_of_ble_eq_true rfl) rfl (fun r h9 hq => ?_)
      obtain ⟨rfl, rfl⟩ := hq
      rw [hs]
      show jb_J _ RX8 cX8_chain 6 (Option.none : Option Jvm.ClassFile.FieldType) false (D + 1) 0 0 51 [some (.ref 1), some (.int 4), some (.int (nI q)), some (.int 50), some (.int (nI i)), x5] [.int 47] [jb_main imm Im (va_up Tm 0 (.ref (1000000 + (2 + u)))) (jp_wr rowm w c) stkm tpm, s1, s2, s3, s4, s5, s6, s7, s8, s9, s10, s11] _
      refine jb_callS (pc' := 54) (As := [.int 47]) (a2 := 0) (b2 := 0) wv_X8_71 dX8_chain_51 c_rank47 rfl ⟨by omega, Nat.le_of_eq (Nat.zero_add _), Nat.le_of_eq (Nat.zero_add _)⟩ (Nat.le_of_ble_eq_true rfl) rfl (fun r h9 hq => ?_)
      obtain ⟨rfl, rfl⟩ := hq
      show jb_J _ RX8 cX8_chain 6 (Option.none : Option Jvm.ClassFile.FieldType) false (D + 1) 0 0 54 [some (.ref 1), some (.int 4), some (.int (nI q)), some (.int 50), some (.int (nI i)), x5] [.int 4] [jb_main imm Im (va_up Tm 0 (.ref (1000000 + (2 + u)))) (jp_wr rowm w c) stkm tpm, s1, s2, s3, s4, s5, s6, s7, s8, s9, s10, s11] _
      refine jb_iload_n (pc' := 55) dX8_chain_54 rfl rfl ?_
      refine jb_icmp_ne (tgt := 95) (pc' := 58) dX8_chain_55 (by decide) rfl (fun z => absurd (by decide) z) (fun _ => ?_)
      refine jb_aload_n (pc' := 59) dX8_chain_58 rfl rfl ?_
      refine jb_callV (pc' := 62) (ci := 8) (q := 1) (As := []) (a2 := 0) (b2 := 0) wv_X8_67 rfl dX8_chain_59 (c_look imm Tm stkm tpm Im (jp_wr rowm w c) hB hy8 hn hu hc (by omega)) rfl rfl ⟨by omega, Nat.le_of_eq (Nat.zero_add _), Nat.le_of_eq (Nat.zero_add _)⟩ (Nat.le_of_ble_eq_true rfl) rfl (fun r h9 hq => ?_)
      obtain ⟨rfl, rfl⟩ := hq
      rw [hs]
      show jb_J _ RX8 cX8_chain 6 (Option.none : Option Jvm.ClassFile.FieldType) false (D + 1) 0 0 62 [some (.ref 1), some (.int 4), some (.int (nI q)), some (.int 50), some (.int (nI i)), x5] [.int 47] [jb_main imm Im (va_up Tm 0 (.ref (1000000 + (2 + u)))) (jp_wr rowm w c) stkm tpm, s1, s2, s3, s4, s5, s6, s7, s8, s9, s10, s11] _
      refine jb_istore_ (pc' := 64) dX8_chain_62 (by decide) (jb_at5 rfl) rfl ?_
      refine jb_aload_n (pc' := 65) dX8_chain_64 rfl rfl ?_
      refine jb_dup (pc' := 66) dX8_chain_65 rfl rfl ?_
      refine gf_X8_25 (pc' := 69) (v := .int (Im 1)) dX8_chain_66 rfl rfl rfl ?_
      refine jb_top (v := .int (Im 1)) (w := .int (nI a)) (jb_vI hc.2.1) ?_
      refine jb_iconst (pc' := 70) 1 dX8_chain_69 (by decide) rfl ?_
      refine jb_iadd (pc' := 71) dX8_chain_70 rfl ?_
      refine jb_top (v := .int ((nI a) + 1)) (w := .int (nI (a + 1))) (jb_vI (nI_add _ 1)) ?_
      refine pf_X8_25 (pc' := 74) (h' := [jb_main imm (upd Im 1 (nI (a + 1))) (va_up Tm 0 (.ref (1000000 + (2 + u)))) (jp_wr rowm w c) stkm tpm, s1, s2, s3, s4, s5, s6, s7, s8, s9, s10, s11]) dX8_chain_71 (fun _ => ⟨rfl, rfl⟩) rfl (Nat.le_of_ble_eq_true rfl) rfl rfl ?_
      refine jb_aload_n (pc' := 75) dX8_chain_74 rfl rfl ?_
      refine jb_iload_n (pc' := 76) dX8_chain_75 rfl rfl ?_
      refine jb_iconst (pc' := 77) 1 dX8_chain_76 (by decide) rfl ?_
      refine jb_iadd (pc' := 78) dX8_chain_77 rfl ?_
      refine jb_top (v := .int (4 + 1)) (w := .int 5) (jb_vI (by decide)) ?_
      refine jb_iload_n (pc' := 79) dX8_chain_78 rfl rfl ?_
      refine jb_callV (pc' := 82) (ci := 8) (q := 1) (As := [.int 5, .int (nI q)]) (a2 := 0) (b2 := 0) wv_X8_53 rfl dX8_chain_79 (hf (upd Im 1 (nI (a + 1))) (jp_wr rowm w c) (a + 1) (w + c.length) (by omega) (by omega) (hc.at (b := (a + 1)))) rfl rfl ⟨by omega, Nat.le_of_eq (Nat.zero_add _), Nat.le_of_eq (Nat.zero_add _)⟩ (Nat.le_of_ble_eq_true rfl) rfl (fun r h9 hq => ?_)
      rcases hq with ⟨rfl, I19, b1, k1, hb1, hk1, ⟨hy1, hq1⟩ | ⟨hy1, hq1⟩, rfl⟩
      · show jb_J _ RX8 cX8_chain 6 (Option.none : Option Jvm.ClassFile.FieldType) false (D + 1) 0 0 82 [some (.ref 1), some (.int 4), some (.int (nI q)), some (.int 50), some (.int (nI i)), some (.int 47)] [] [jb_main imm I19 (va_up Tm 0 (.ref (1000000 + (2 + u)))) (jp_wr (jp_wr rowm w c) (w + c.length) (f (a + 1)).2.2) stkm tpm, s1, s2, s3, s4, s5, s6, s7, s8, s9, s10, s11] _
        refine jb_aload_n (pc' := 83) dX8_chain_82 rfl rfl ?_
        refine jb_iload (pc' := 85) dX8_chain_83 rfl rfl ?_
        refine jb_ineg (pc' := 86) dX8_chain_85 rfl ?_
        refine jb_callV (pc' := 89) (ci := 8) (q := 1) (As := [.int (-47)]) (a2 := 0) (b2 := 0) wv_X8_75 rfl dX8_chain_86 (c_write imm Tm stkm tpm I19 (jp_wr (jp_wr rowm w c) (w + c.length) (f (a + 1)).2.2) hq1 (by omega) (-47)) rfl rfl ⟨by omega, Nat.le_of_eq (Nat.zero_add _), Nat.le_of_eq (Nat.zero_add _)⟩ (Nat.le_of_ble_eq_true rfl) rfl (fun r h9 hq => ?_)
        obtain ⟨rfl, rfl⟩ := hq
        show jb_J _ RX8 cX8_chain 6 (Option.none : Option Jvm.ClassFile.FieldType) false (D + 1) 0 0 89 [some (.ref 1), some (.int 4), some (.int (nI q)), some (.int 50), some (.int (nI i)), some (.int 47)] [] [jb_main imm (upd I19 2 (nI (((w + c.length) + k1) + 1))) (va_up Tm 0 (.ref (1000000 + (2 + u)))) (upd (jp_wr (jp_wr rowm w c) (w + c.length) (f (a + 1)).2.2) ((w + c.length) + k1) (-47)) stkm tpm, s1, s2, s3, s4, s5, s6, s7, s8, s9, s10, s11] _
        refine jb_iinc_ (pc' := 92) (nI (i + 1)) dX8_chain_89 (by decide) rfl (jb_inc i 1) (jb_at4 rfl) rfl ?_
        refine jb_goto (pc' := 34) dX8_chain_92 (by decide) ?_
        refine jb_heap (h' := [jb_main imm (upd I19 2 (nI (((w + c.length) + k1) + 1))) (va_up Tm 0 (.ref (1000000 + (2 + u)))) (jp_wr rowm w (c ++ (f (a + 1)).2.2 ++ [-47])) stkm tpm, s1, s2, s3, s4, s5, s6, s7, s8, s9, s10, s11]) (by rw [← jp_wr_bin rowm w c (f (a + 1)).2.2 (-47) (v := w + c.length + k1) (by rw [hk1])]) ?_
        have e9 : jp_lp B n 4 f (k + 1) (a, true, c) = jp_lp B n 4 f k (b1, true, (c ++ (f (a + 1)).2.2 ++ [-47])) := by
          refine (jp_lp_go (x := (a, true, c)) rfl hs (by decide)).trans ?_
          show jp_lp B n 4 f k ((f (a + 1)).1, (f (a + 1)).2.1, c ++ (f (a + 1)).2.2 ++ [-47]) = _
          rw [hb1, hy1]
        rw [e9]
        have lc := (show (c ++ (f (a + 1)).2.2 ++ [-47]).length = c.length + k1 + 1 by rw [List.length_append, List.length_append, hk1]; rfl)
        exact ih (i + 1) b1 (c ++ (f (a + 1)).2.2 ++ [-47]) (upd I19 2 (nI (((w + c.length) + k1) + 1))) _ (by omega) (by omega) (by omega) (by rw [lc, show w + (c.length + k1 + 1) = w + c.length + k1 + 1 by omega]; exact (hq1.wr (b := (((w + c.length) + k1) + 1))))
      · show jb_J _ RX8 cX8_chain 6 (Option.none : Option Jvm.ClassFile.FieldType) false (D + 1) 0 0 82 [some (.ref 1), some (.int 4), some (.int (nI q)), some (.int 50), some (.int (nI i)), some (.int 47)] [] [jb_main imm I19 (va_up Tm 0 (.ref (1000000 + (2 + u)))) (jp_wr (jp_wr rowm w c) (w + c.length) (f (a + 1)).2.2) stkm tpm, s1, s2, s3, s4, s5, s6, s7, s8, s9, s10, s11] _
        refine jb_aload_n (pc' := 83) dX8_chain_82 rfl rfl ?_
        refine jb_iload (pc' := 85) dX8_chain_83 rfl rfl ?_
        refine jb_ineg (pc' := 86) dX8_chain_85 rfl ?_
        refine jb_callV (pc' := 89) (ci := 8) (q := 1) (As := [.int (-47)]) (a2 := 0) (b2 := 0) wv_X8_75 rfl dX8_chain_86 (c_write imm Tm stkm tpm I19 (jp_wr (jp_wr rowm w c) (w + c.length) (f (a + 1)).2.2) hq1 (by omega) (-47)) rfl rfl ⟨by omega, Nat.le_of_eq (Nat.zero_add _), Nat.le_of_eq (Nat.zero_add _)⟩ (Nat.le_of_ble_eq_true rfl) rfl (fun r h9 hq => ?_)
        obtain ⟨rfl, rfl⟩ := hq
        show jb_J _ RX8 cX8_chain 6 (Option.none : Option Jvm.ClassFile.FieldType) false (D + 1) 0 0 89 [some (.ref 1), some (.int 4), some (.int (nI q)), some (.int 50), some (.int (nI i)), some (.int 47)] [] [jb_main imm (upd I19 2 (nI (((w + c.length) + k1) + 1))) (va_up Tm 0 (.ref (1000000 + (2 + u)))) (upd (jp_wr (jp_wr rowm w c) (w + c.length) (f (a + 1)).2.2) ((w + c.length) + k1) (-47)) stkm tpm, s1, s2, s3, s4, s5, s6, s7, s8, s9, s10, s11] _
        refine jb_iinc_ (pc' := 92) (nI (i + 1)) dX8_chain_89 (by decide) rfl (jb_inc i 1) (jb_at4 rfl) rfl ?_
        refine jb_goto (pc' := 34) dX8_chain_92 (by decide) ?_
        refine jb_heap (h' := [jb_main imm (upd I19 2 (nI (((w + c.length) + k1) + 1))) (va_up Tm 0 (.ref (1000000 + (2 + u)))) (jp_wr rowm w (c ++ (f (a + 1)).2.2 ++ [-47])) stkm tpm, s1, s2, s3, s4, s5, s6, s7, s8, s9, s10, s11]) (by rw [← jp_wr_bin rowm w c (f (a + 1)).2.2 (-47) (v := w + c.length + k1) (by rw [hk1])]) ?_
        refine jb_iload (pc' := 36) dX8_chain_34 rfl rfl ?_
        refine jb_iload_n (pc' := 37) dX8_chain_36 rfl rfl ?_
        refine jb_icmp_ge (tgt := 95) (pc' := 40) dX8_chain_37 (by decide) rfl (fun c4 => ?_) (fun c4 => ?_)
        · refine jb_vret dX8_chain_95 ?_
          have e8 : jp_lp B n 4 f (k + 1) (a, true, c) = (b1, false, (c ++ (f (a + 1)).2.2 ++ [-47])) := by
            refine (jp_lp_go (x := (a, true, c)) rfl hs (by decide)).trans ?_
            refine (jp_lp_no (fun z => ?_)).trans ?_
            · have z1 : (f (a + 1)).2.1 = true := z.1
              rw [hy1] at z1; cases z1
            · show ((f (a + 1)).1, (f (a + 1)).2.1, c ++ (f (a + 1)).2.2 ++ [-47]) = _
              rw [hb1, hy1]
          rw [e8]
          exact ⟨rfl, (upd I19 2 (nI (((w + c.length) + k1) + 1))), b1, c.length + k1 + 1, rfl, (show (c ++ (f (a + 1)).2.2 ++ [-47]).length = c.length + k1 + 1 by rw [List.length_append, List.length_append, hk1]; rfl), Or.inr ⟨rfl, by rw [show w + (c.length + k1 + 1) = w + c.length + k1 + 1 by omega]; exact (hq1.wr (b := (((w + c.length) + k1) + 1)))⟩, rfl⟩
        · refine jb_aload_n (pc' := 41) dX8_chain_40 rfl rfl ?_
          refine gf_X8_31 (pc' := 44) (v := .int ((upd I19 2 (nI (((w + c.length) + k1) + 1))) 3)) dX8_chain_41 rfl rfl rfl ?_
          refine jb_top (v := .int ((upd I19 2 (nI (((w + c.length) + k1) + 1))) 3)) (w := .int 1) (jb_vI (hq1.wr (b := (((w + c.length) + k1) + 1))).2.2.2) ?_
          refine jb_if_ne (tgt := 95) (pc' := 47) dX8_chain_44 (by decide) rfl (fun _ => ?_) (fun z => absurd z (by decide))
          refine jb_vret dX8_chain_95 ?_
          have e8 : jp_lp B n 4 f (k + 1) (a, true, c) = (b1, false, (c ++ (f (a + 1)).2.2 ++ [-47])) := by
            refine (jp_lp_go (x := (a, true, c)) rfl hs (by decide)).trans ?_
            refine (jp_lp_no (fun z => ?_)).trans ?_
            · have z1 : (f (a + 1)).2.1 = true := z.1
              rw [hy1] at z1; cases z1
            · show ((f (a + 1)).1, (f (a + 1)).2.1, c ++ (f (a + 1)).2.2 ++ [-47]) = _
              rw [hb1, hy1]
          rw [e8]
          exact ⟨rfl, (upd I19 2 (nI (((w + c.length) + k1) + 1))), b1, c.length + k1 + 1, rfl, (show (c ++ (f (a + 1)).2.2 ++ [-47]).length = c.length + k1 + 1 by rw [List.length_append, List.length_append, hk1]; rfl), Or.inr ⟨rfl, by rw [show w + (c.length + k1 + 1) = w + c.length + k1 + 1 by omega]; exact (hq1.wr (b := (((w + c.length) + k1) + 1)))⟩, rfl⟩
    · have ha1 : a < n := jp_in (fun z => by rw [hs] at z; exact absurd z (by decide))
      obtain ⟨q1, q2, q3, q4⟩ := hfo (a + 1) ha1
      show jb_J _ RX8 cX8_chain 6 (Option.none : Option Jvm.ClassFile.FieldType) false (D + 1) 0 0 34 [some (.ref 1), some (.int 4), some (.int (nI q)), some (.int 50), some (.int (nI i)), x5] [] [jb_main imm Im (va_up Tm 0 (.ref (1000000 + (2 + u)))) (jp_wr rowm w c) stkm tpm, s1, s2, s3, s4, s5, s6, s7, s8, s9, s10, s11] _
      refine jb_iload (pc' := 36) dX8_chain_34 rfl rfl ?_
      refine jb_iload_n (pc' := 37) dX8_chain_36 rfl rfl ?_
      refine jb_icmp_ge (tgt := 95) (pc' := 40) dX8_chain_37 (by decide) rfl (fun z => absurd z (nI_ge (a := i) (b := 50) (by omega) (by omega))) (fun _ => ?_)
      refine jb_aload_n (pc' := 41) dX8_chain_40 rfl rfl ?_
      refine gf_X8_31 (pc' := 44) (v := .int (Im 3)) dX8_chain_41 rfl rfl rfl ?_
      refine jb_top (v := .int (Im 3)) (w := .int 0) (jb_vI hc.2.2.2) ?_
      refine jb_if_ne (tgt := 95) (pc' := 47) dX8_chain_44 (by decide) rfl (fun z => absurd (by decide) z) (fun _ => ?_)
      refine jb_aload_n (pc' := 48) dX8_chain_47 rfl rfl ?_
      refine jb_callV (pc' := 51) (ci := 8) (q := 1) (As := []) (a2 := 0) (b2 := 0) wv_X8_67 rfl dX8_chain_48 (c_look imm Tm stkm tpm Im (jp_wr rowm w c) hB hy8 hn hu hc (by omega)) rfl rfl ⟨by omega, Nat.le_of_eq (Nat.zero_add _), Nat.le_of_eq (Nat.zero_add _)⟩ (Nat.le_of_ble_eq_true rfl) rfl (fun r h9 hq => ?_)
      obtain ⟨rfl, rfl⟩ := hq
      rw [hs]
      show jb_J _ RX8 cX8_chain 6 (Option.none : Option Jvm.ClassFile.FieldType) false (D + 1) 0 0 51 [some (.ref 1), some (.int 4), some (.int (nI q)), some (.int 50), some (.int (nI i)), x5] [.int 37] [jb_main imm Im (va_up Tm 0 (.ref (1000000 + (2 + u)))) (jp_wr rowm w c) stkm tpm, s1, s2, s3, s4, s5, s6, s7, s8, s9, s10, s11] _
      refine jb_callS (pc' := 54) (As := [.int 37]) (a2 := 0) (b2 := 0) wv_X8_71 dX8_chain_51 c_rank37 rfl ⟨by omega, Nat.le_of_eq (Nat.zero_add _), Nat.le_of_eq (Nat.zero_add _)⟩ (Nat.le_of_ble_eq_true rfl) rfl (fun r h9 hq => ?_)
      obtain ⟨rfl, rfl⟩ := hq
      show jb_J _ RX8 cX8_chain 6 (Option.none : Option Jvm.ClassFile.FieldType) false (D + 1) 0 0 54 [some (.ref 1), some (.int 4), some (.int (nI q)), some (.int 50), some (.int (nI i)), x5] [.int 4] [jb_main imm Im (va_up Tm 0 (.ref (1000000 + (2 + u)))) (jp_wr rowm w c) stkm tpm, s1, s2, s3, s4, s5, s6, s7, s8, s9, s10, s11] _
      refine jb_iload_n (pc' := 55) dX8_chain_54 rfl rfl ?_
      refine jb_icmp_ne (tgt := 95) (pc' := 58) dX8_chain_55 (by decide) rfl (fun z => absurd (by decide) z) (fun _ => ?_)
      refine jb_aload_n (pc' := 59) dX8_chain_58 rfl rfl ?_
      refine jb_callV (pc' := 62) (ci := 8) (q := 1) (As := []) (a2 := 0) (b2 := 0) wv_X8_67 rfl dX8_chain_59 (c_look imm Tm stkm tpm Im (jp_wr rowm w c) hB hy8 hn hu hc (by omega)) rfl rfl ⟨by omega, Nat.le_of_eq (Nat.zero_add _), Nat.le_of_eq (Nat.zero_add _)⟩ (Nat.le_of_ble_eq_true rfl) rfl (fun r h9 hq => ?_)
      obtain ⟨rfl, rfl⟩ := hq
      rw [hs]
      show jb_J _ RX8 cX8_chain 6 (Option.none : Option Jvm.ClassFile.FieldType) false (D + 1) 0 0 62 [some (.ref 1), some (.int 4), some (.int (nI q)), some (.int 50), some (.int (nI i)), x5] [.int 37] [jb_main imm Im (va_up Tm 0 (.ref (1000000 + (2 + u)))) (jp_wr rowm w c) stkm tpm, s1, s2, s3, s4, s5, s6, s7, s8, s9, s10, s11] _
      refine jb_istore_ (pc' := 64) dX8_chain_62 (by decide) (jb_at5 rfl) rfl ?_
      refine jb_aload_n (pc' := 65) dX8_chain_64 rfl rfl ?_
      refine jb_dup (pc' := 66) dX8_chain_65 rfl rfl ?_
      refine gf_X8_25 (pc' := 69) (v := .int (Im 1)) dX8_chain_66 rfl rfl rfl ?_
      refine jb_top (v := .int (Im 1)) (w := .int (nI a)) (jb_vI hc.2.1) ?_
      refine jb_iconst (pc' := 70) 1 dX8_chain_69 (by decide) rfl ?_
      refine jb_iadd (pc' := 71) dX8_chain_70 rfl ?_
      refine jb_top (v := .int ((nI a) + 1)) (w := .int (nI (a + 1))) (jb_vI (nI_add _ 1)) ?_
      refine pf_X8_25 (pc' := 74) (h' := [jb_main imm (upd Im 1 (nI (a + 1))) (va_up Tm 0 (.ref (1000000 + (2 + u)))) (jp_wr rowm w c) stkm tpm, s1, s2, s3, s4, s5, s6, s7, s8, s9, s10, s11]) dX8_chain_71 (fun _ => ⟨rfl, rfl⟩) rfl (Nat.le_of_ble_eq_true rfl) rfl rfl ?_
      refine jb_aload_n (pc' := 75) dX8_chain_74 rfl rfl ?_
      refine jb_iload_n (pc' := 76) dX8_chain_75 rfl rfl ?_
      refine jb_iconst (pc' := 77) 1 dX8_chain_76 (by decide) rfl ?_
      refine jb_iadd (pc' := 78) dX8_chain_77 rfl ?_
      refine jb_top (v := .int (4 + 1)) (w := .int 5) (jb_vI (by decide)) ?_
      refine jb_iload_n (pc' := 79) dX8_chain_78 rfl rfl ?_
      refine jb_callV (pc' := 82) (ci := 8) (q := 1) (As := [.int 5, .int (nI q)]) (a2 := 0) (b2 := 0) wv_X8_53 rfl dX8_chain_79 (hf (upd Im 1 (nI (a + 1))) (jp_wr rowm w c) (a + 1) (w + c.length) (by omega) (by omega) (hc.at (b := (a + 1)))) rfl rfl ⟨by omega, Nat.le_of_eq (Nat.zero_add _), Nat.le_of_eq (Nat.zero_add _)⟩ (Nat.le_of_ble_eq_true rfl) rfl (fun r h9 hq => ?_)
      rcases hq with ⟨rfl, I19, b1, k1, hb1, hk1, ⟨hy1, hq1⟩ | ⟨hy1, hq1⟩, rfl⟩
      · show jb_J _ RX8 cX8_chain 6 (Option.none : Option Jvm.ClassFile.FieldType) false (D + 1) 0 0 82 [some (.ref 1), some (.int 4), some (.int (nI q)), some (.int 50), some (.int (nI i)), some (.int 37)] [] [jb_main imm I19 (va_up Tm 0 (.ref (1000000 + (2 + u)))) (jp_wr (jp_wr rowm w c) (w + c.length) (f (a + 1)).2.2) stkm tpm, s1, s2, s3, s4, s5, s6, s7, s8, s9, s10, s11] _
        refine jb_aload_n (pc' := 83) dX8_chain_82 rfl rfl ?_
        refine jb_iload (pc' := 85) dX8_chain_83 rfl rfl ?_
        refine jb_ineg (pc' := 86) dX8_chain_85 rfl ?_
        refine jb_callV (pc' := 89) (ci := 8) (q := 1) (As := [.int (-37)]) (a2 := 0) (b2 := 0) wv_X8_75 rfl dX8_chain_86 (c_write imm Tm stkm tpm I19 (jp_wr (jp_wr rowm w c) (w + c.length) (f (a + 1)).2.2) hq1 (by omega) (-37)) rfl rfl ⟨by omega, Nat.le_of_eq (Nat.zero_add _), Nat.le_of_eq (Nat.zero_add _)⟩ (Nat.le_of_ble_eq_true rfl) rfl (fun r h9 hq => ?_)
        obtain ⟨rfl, rfl⟩ := hq
        show jb_J _ RX8 cX8_chain 6 (Option.none : Option Jvm.ClassFile.FieldType) false (D + 1) 0 0 89 [some (.ref 1), some (.int 4), some (.int (nI q)), some (.int 50), some (.int (nI i)), some (.int 37)] [] [jb_main imm (upd I19 2 (nI (((w + c.length) + k1) + 1))) (va_up Tm 0 (.ref (1000000 + (2 + u)))) (upd (jp_wr (jp_wr rowm w c) (w + c.length) (f (a + 1)).2.2) ((w + c.length) + k1) (-37)) stkm tpm, s1, s2, s3, s4, s5, s6, s7, s8, s9, s10, s11] _
        refine jb_iinc_ (pc' := 92) (nI (i + 1)) dX8_chain_89 (by decide) rfl (jb_inc i 1) (jb_at4 rfl) rfl ?_
        refine jb_goto (pc' := 34) dX8_chain_92 (by decide) ?_
        refine jb_heap (h' := [jb_main imm (upd I19 2 (nI (((w + c.length) + k1) + 1))) (va_up Tm 0 (.ref (1000000 + (2 + u)))) (jp_wr rowm w (c ++ (f (a + 1)).2.2 ++ [-37])) stkm tpm, s1, s2, s3, s4, s5, s6, s7, s8, s9, s10, s11]) (by rw [← jp_wr_bin rowm w c (f (a + 1)).2.2 (-37) (v := w + c.length + k1) (by rw [hk1])]) ?_
        have e9 : jp_lp B n 4 f (k + 1) (a, true, c) = jp_lp B n 4 f k (b1, true, (c ++ (f (a + 1)).2.2 ++ [-37])) := by
          refine (jp_lp_go (x := (a, true, c)) rfl hs (by decide)).trans ?_
          show jp_lp B n 4 f k ((f (a + 1)).1, (f (a + 1)).2.1, c ++ (f (a + 1)).2.2 ++ [-37]) = _
          rw [hb1, hy1]
        rw [e9]
        have lc := (show (c ++ (f (a + 1)).2.2 ++ [-37]).length = c.length + k1 + 1 by rw [List.length_append, List.length_append, hk1]; rfl)
        exact ih (i + 1) b1 (c ++ (f (a + 1)).2.2 ++ [-37]) (upd I19 2 (nI (((w + c.length) + k1) + 1))) _ (by omega) (by omega) (by omega) (by rw [lc, show w + (c.length + k1 + 1) = w + c.length + k1 + 1 by omega]; exact (hq1.wr (b := (((w + c.length) + k1) + 1))))
      · show jb_J _ RX8 cX8_chain 6 (Option.none : Option Jvm.ClassFile.FieldType) false (D + 1) 0 0 82 [some (.ref 1), some (.int 4), some (.int (nI q)), some (.int 50), some (.int (nI i)), some (.int 37)] [] [jb_main imm I19 (va_up Tm 0 (.ref (1000000 + (2 + u)))) (jp_wr (jp_wr rowm w c) (w + c.length) (f (a + 1)).2.2) stkm tpm, s1, s2, s3, s4, s5, s6, s7, s8, s9, s10, s11] _
        refine jb_aload_n (pc' := 83) dX8_chain_82 rfl rfl ?_
        refine jb_iload (pc' := 85) dX8_chain_83 rfl rfl ?_
        refine jb_ineg (pc' := 86) dX8_chain_85 rfl ?_
        refine jb_callV (pc' := 89) (ci := 8) (q := 1) (As := [.int (-37)]) (a2 := 0) (b2 := 0) wv_X8_75 rfl dX8_chain_86 (c_write imm Tm stkm tpm I19 (jp_wr (jp_wr rowm w c) (w + c.length) (f (a + 1)).2.2) hq1 (by omega) (-37)) rfl rfl ⟨by omega, Nat.le_of_eq (Nat.zero_add _), Nat.le_of_eq (Nat.zero_add _)⟩ (Nat.le_of_ble_eq_true rfl) rfl (fun r h9 hq => ?_)
        obtain ⟨rfl, rfl⟩ := hq
        show jb_J _ RX8 cX8_chain 6 (Option.none : Option Jvm.ClassFile.FieldType) false (D + 1) 0 0 89 [some (.ref 1), some (.int 4), some (.int (nI q)), some (.int 50), some (.int (nI i)), some (.int 37)] [] [jb_main imm (upd I19 2 (nI (((w + c.length) + k1) + 1))) (va_up Tm 0 (.ref (1000000 + (2 + u)))) (upd (jp_wr (jp_wr rowm w c) (w + c.length) (f (a + 1)).2.2) ((w + c.length) + k1) (-37)) stkm tpm, s1, s2, s3, s4, s5, s6, s7, s8, s9, s10, s11] _
        refine jb_iinc_ (pc' := 92) (nI (i + 1)) dX8_chain_89 (by decide) rfl (jb_inc i 1) (jb_at4 rfl) rfl ?_
        refine jb_goto (pc' := 34) dX8_chain_92 (by decide) ?_
        refine jb_heap (h' := [jb_main imm (upd I19 2 (nI (((w + c.length) + k1) + 1))) (va_up Tm 0 (.ref (1000000 + (2 + u)))) (jp_wr rowm w (c ++ (f (a + 1)).2.2 ++ [-37])) stkm tpm, s1, s2, s3, s4, s5, s6, s7, s8, s9, s10, s11]) (by rw [← jp_wr_bin rowm w c (f (a + 1)).2.2 (-37) (v := w + c.length + k1) (by rw [hk1])]) ?_
        refine jb_iload (pc' := 36) dX8_chain_34 rfl rfl ?_
        refine jb_iload_n (pc' := 37) dX8_chain_36 rfl rfl ?_
        refine jb_icmp_ge (tgt := 95) (pc' := 40) dX8_chain_37 (by decide) rfl (fun c4 => ?_) (fun c4 => ?_)
        · refine jb_vret dX8_chain_95 ?_
          have e8 : jp_lp B n 4 f (k + 1) (a, true, c) = (b1, false, (c ++ (f (a + 1)).2.2 ++ [-37])) := by
            refine (jp_lp_go (x := (a, true, c)) rfl hs (by decide)).trans ?_
            refine (jp_lp_no (fun z => ?_)).trans ?_
            · have z1 : (f (a + 1)).2.1 = true := z.1
              rw [hy1] at z1; cases z1
            · show ((f (a + 1)).1, (f (a + 1)).2.1, c ++ (f (a + 1)).2.2 ++ [-37]) = _
              rw [hb1, hy1]
          rw [e8]
          exact ⟨rfl, (upd I19 2 (nI (((w + c.length) + k1) + 1))), b1, c.length + k1 + 1, rfl, (show (c ++ (f (a + 1)).2.2 ++ [-37]).length = c.length + k1 + 1 by rw [List.length_append, List.length_append, hk1]; rfl), Or.inr ⟨rfl, by rw [show w + (c.length + k1 + 1) = w + c.length + k1 + 1 by omega]; exact (hq1.wr (b := (((w + c.length) + k1) + 1)))⟩, rfl⟩
        · refine jb_aload_n (pc' := 41) dX8_chain_40 rfl rfl ?_
          refine gf_X8_31 (pc' := 44) (v := .int ((upd I19 2 (nI (((w + c.length) + k1) + 1))) 3)) dX8_chain_41 rfl rfl rfl ?_
          refine jb_top (v := .int ((upd I19 2 (nI (((w + c.length) + k1) + 1))) 3)) (w := .int 1) (jb_vI (hq1.wr (b := (((w + c.length) + k1) + 1))).2.2.2) ?_
          refine jb_if_ne (tgt := 95) (pc' := 47) dX8_chain_44 (by decide) rfl (fun _ => ?_) (fun z => absurd z (by decide))
          refine jb_vret dX8_chain_95 ?_
          have e8 : jp_lp B n 4 f (k + 1) (a, true, c) = (b1, false, (c ++ (f (a + 1)).2.2 ++ [-37])) := by
            refine (jp_lp_go (x := (a, true, c)) rfl hs (by decide)).trans ?_
            refine (jp_lp_no (fun z => ?_)).trans ?_
            · have z1 : (f (a + 1)).2.1 = true := z.1
              rw [hy1] at z1; cases z1
            · show ((f (a + 1)).1, (f (a + 1)).2.1, c ++ (f (a + 1)).2.2 ++ [-37]) = _
              rw [hb1, hy1]
          rw [e8]
          exact ⟨rfl, (upd I19 2 (nI (((w + c.length) + k1) + 1))), b1, c.length + k1 + 1, rfl, (show (c ++ (f (a + 1)).2.2 ++ [-37]).length = c.length + k1 + 1 by rw [List.length_append, List.length_append, hk1]; rfl), Or.inr ⟨rfl, by rw [show w + (c.length + k1 + 1) = w + c.length + k1 + 1 by omega]; exact (hq1.wr (b := (((w + c.length) + k1) + 1)))⟩, rfl⟩
    · show jb_J _ RX8 cX8_chain 6 (Option.none : Option Jvm.ClassFile.FieldType) false (D + 1) 0 0 34 [some (.ref 1), some (.int 4), some (.int (nI q)), some (.int 50), some (.int (nI i)), x5] [] [jb_main imm Im (va_up Tm 0 (.ref (1000000 + (2 + u)))) (jp_wr rowm w c) stkm tpm, s1, s2, s3, s4, s5, s6, s7, s8, s9, s10, s11] _
      refine jb_iload (pc' := 36) dX8_chain_34 rfl rfl ?_
      refine jb_iload_n (pc' := 37) dX8_chain_36 rfl rfl ?_
      refine jb_icmp_ge (tgt := 95) (pc' := 40) dX8_chain_37 (by decide) rfl (fun z => absurd z (nI_ge (a := i) (b := 50) (by omega) (by omega))) (fun _ => ?_)
      refine jb_aload_n (pc' := 41) dX8_chain_40 rfl rfl ?_
      refine gf_X8_31 (pc' := 44) (v := .int (Im 3)) dX8_chain_41 rfl rfl rfl ?_
      refine jb_top (v := .int (Im 3)) (w := .int 0) (jb_vI hc.2.2.2) ?_
      refine jb_if_ne (tgt := 95) (pc' := 47) dX8_chain_44 (by decide) rfl (fun z => absurd (by decide) z) (fun _ => ?_)
      refine jb_aload_n (pc' := 48) dX8_chain_47 rfl rfl ?_
      refine jb_callV (pc' := 51) (ci := 8) (q := 1) (As := []) (a2 := 0) (b2 := 0) wv_X8_67 rfl dX8_chain_48 (c_look imm Tm stkm tpm Im (jp_wr rowm w c) hB hy8 hn hu hc (by omega)) rfl rfl ⟨by omega, Nat.le_of_eq (Nat.zero_add _), Nat.le_of_eq (Nat.zero_add _)⟩ (Nat.le_of_ble_eq_true rfl) rfl (fun r h9 hq => ?_)
      obtain ⟨rfl, rfl⟩ := hq
      show jb_J _ RX8 cX8_chain 6 (Option.none : Option Jvm.ClassFile.FieldType) false (D + 1) 0 0 51 [some (.ref 1), some (.int 4), some (.int (nI q)), some (.int 50), some (.int (nI i)), x5] [.int (jp_lk B n a)] [jb_main imm Im (va_up Tm 0 (.ref (1000000 + (2 + u)))) (jp_wr rowm w c) stkm tpm, s1, s2, s3, s4, s5, s6, s7, s8, s9, s10, s11] _
      refine jb_callS (pc' := 54) (As := [.int (jp_lk B n a)]) (a2 := 0) (b2 := 0) wv_X8_71 dX8_chain_51 (c_rankX _ (jp_lk B n a) (hy8.lk a) 4 (by decide) hr) rfl ⟨by omega, Nat.le_of_eq (Nat.zero_add _), Nat.le_of_eq (Nat.zero_add _)⟩ (Nat.le_of_ble_eq_true rfl) rfl (fun r h9 hq => ?_)
      obtain ⟨rfl, x9, n9, rfl⟩ := hq
      show jb_J _ RX8 cX8_chain 6 (Option.none : Option Jvm.ClassFile.FieldType) false (D + 1) 0 0 54 [some (.ref 1), some (.int 4), some (.int (nI q)), some (.int 50), some (.int (nI i)), x5] [.int x9] [jb_main imm Im (va_up Tm 0 (.ref (1000000 + (2 + u)))) (jp_wr rowm w c) stkm tpm, s1, s2, s3, s4, s5, s6, s7, s8, s9, s10, s11] _
      refine jb_iload_n (pc' := 55) dX8_chain_54 rfl rfl ?_
      refine jb_icmp_ne (tgt := 95) (pc' := 58) dX8_chain_55 (by decide) rfl (fun _ => ?_) (fun z => absurd z n9)
      refine jb_vret dX8_chain_95 ?_
      have e8 : jp_lp B n 4 f (k + 1) (a, true, c) = (a, true, c) := jp_lp_no (fun z => hr z.2)
      rw [e8]
      exact ⟨rfl, Im, a, c.length, rfl, rfl, Or.inl ⟨rfl, hc⟩, rfl⟩
set_option maxRecDepth 100000 in
set_option maxHeartbeats 4000000 in
theorem c_chain4 {sc : Nat × (Nat → Int32)} {s1 s2 s3 s4 s5 s6 s7 s8 s9 s10 s11 : List va_E} (imm : Int32) (Tm : Nat → Value) (stkm tpm : Nat → Int32) {B : Nat → Int32} {n u : Nat} (hB : ∀ k, k < n → tpm k = B k) (hy8 : jp_by B n) (hn : n ≤ 50) (hu : u < 2) (q : Nat) (hq5 : q ≤ 5) (f : Nat → jp_R) (hfo : ∀ a, a ≤ n → jp_ok n a (f a)) (D : Nat) (hf : jc_F sc s1 s2 s3 s4 s5 s6 s7 s8 s9 s10 s11 imm Tm stkm tpm n u yX8_chain cX8_chain 6 D [.int 5, .int (nI q)] f) : jc_F sc s1 s2 s3 s4 s5 s6 s7 s8 s9 s10 s11 imm Tm stkm tpm n u yX8_chain cX8_chain 6 (D + 1) [.int 4, .int (nI q)] (fun a => jp_lp B n 4 f 50 (f a)) := by
  intro Im rowm a w ha hwa hc
  show jb_C sc yX8_chain cX8_chain 6 none (D + 1) 0 0 [.ref 1, .int 4, .int (nI q)] [jb_main imm Im (va_up Tm 0 (.ref (1000000 + (2 + u)))) rowm stkm tpm, s1, s2, s3, s4, s5, s6, s7, s8, s9, s10, s11] (fun r h9 => r = none ∧ ∃ I9 b9 k9, (jp_lp B n 4 f 50 (f a)).1 = b9 ∧ (jp_lp B n 4 f 50 (f a)).2.2.length = k9 ∧ (((jp_lp B n 4 f 50 (f a)).2.1 = true ∧ jc_ I9 n b9 (w + k9) 0) ∨ ((jp_lp B n 4 f 50 (f a)).2.1 = false ∧ jc_ I9 n b9 (w + k9) 1)) ∧ h9 = [jb_main imm I9 (va_up Tm 0 (.ref (1000000 + (2 + u)))) (jp_wr rowm w (jp_lp B n 4 f 50 (f a)).2.2) stkm tpm, s1, s2, s3, s4, s5, s6, s7, s8, s9, s10, s11])
  refine jb_CofJ (ini := false) (by decide +kernel) (fun h => by cases h) (Nat.le_of_ble_eq_true rfl) ?_
  obtain ⟨q1, q2, q3, q4⟩ := hfo a ha
  show jb_J _ RX8 cX8_chain 6 (Option.none : Option Jvm.ClassFile.FieldType) false (D + 1) 0 0 0 [some (.ref 1), some (.int 4), some (.int (nI q)), none, none, none] [] [jb_main imm Im (va_up Tm 0 (.ref (1000000 + (2 + u)))) rowm stkm tpm, s1, s2, s3, s4, s5, s6, s7, s8, s9, s10, s11] _
  refine jb_iload_n (pc' := 1) dX8_chain_0 rfl rfl ?_
  refine jb_iconst (pc' := 2) 5 dX8_chain_1 (by decide) rfl ?_
  refine jb_icmp_lt (tgt := 11) (pc' := 5) dX8_chain_2 (by decide) rfl (fun _ => ?_) (fun z => absurd (by decide) z)
  refine jb_aload_n (pc' := 12) dX8_chain_11 rfl rfl ?_
  refine jb_iload_n (pc' := 13) dX8_chain_12 rfl rfl ?_
  refine jb_iconst (pc' := 14) 1 dX8_chain_13 (by decide) rfl ?_
  refine jb_iadd (pc' := 15) dX8_chain_14 rfl ?_
  refine jb_top (v := .int (4 + 1)) (w := .int 5) (jb_vI (by decide)) ?_
  refine jb_iload_n (pc' := 16) dX8_chain_15 rfl rfl ?_
  refine jb_callV (pc' := 19) (ci := 8) (q := 1) (As := [.int 5, .int (nI q)]) (a2 := 0) (b2 := 0) wv_X8_53 rfl dX8_chain_16 (hf Im rowm a w (by omega) (by omega) hc) rfl rfl ⟨by omega, Nat.le_of_eq (Nat.zero_add _), Nat.le_of_eq (Nat.zero_add _)⟩ (Nat.le_of_ble_eq_true rfl) rfl (fun r h9 hq => ?_)
  rcases hq with ⟨rfl, I19, b1, k1, hb1, hk1, ⟨hy1, hq1⟩ | ⟨hy1, hq1⟩, rfl⟩
  · show jb_J _ RX8 cX8_chain 6 (Option.none : Option Jvm.ClassFile.FieldType) false (D + 1) 0 0 19 [some (.ref 1), some (.int 4), some (.int (nI q)), none, none, none] [] [jb_main imm I19 (va_up Tm 0 (.ref (1000000 + (2 + u)))) (jp_wr rowm w (f a).2.2) stkm tpm, s1, s2, s3, s4, s5, s6, s7, s8, s9, s10, s11] _
    refine jb_iload_n (pc' := 20) dX8_chain_19 rfl rfl ?_
    refine jb_iconst (pc' := 21) 2 dX8_chain_20 (by decide) rfl ?_
    refine jb_icmp_ne (tgt := 28) (pc' := 24) dX8_chain_21 (by decide) rfl (fun _ => ?_) (fun z => absurd z (by decide))
    refine jb_bipush (pc' := 30) 50 dX8_chain_28 (by decide) rfl ?_
    refine jb_istore_n_ (pc' := 31) dX8_chain_30 (by decide) (jb_at3 rfl) rfl ?_
    refine jb_iconst (pc' := 32) 0 dX8_chain_31 (by decide) rfl ?_
    refine jb_istore_ (pc' := 34) dX8_chain_32 (by decide) (jb_at4 rfl) rfl ?_
    have ef : f a = (b1, true, (f a).2.2) := jp_eta hb1 hy1
    have eF : jp_lp B n 4 f 50 (f a) = jp_lp B n 4 f 50 (b1, true, (f a).2.2) := congrArg (jp_lp B n 4 f 50) ef
    rw [eF]
    exact l_chain4 imm Tm stkm tpm hB hy8 hn hu q hq5 f hfo D hf rowm w 50 0 b1 (f a).2.2 I19 _ (by omega) (by omega) (by omega) (by rw [hk1]; exact hq1)
  · show jb_J _ RX8 cX8_chain 6 (Option.none : Option Jvm.ClassFile.FieldType) false (D + 1) 0 0 19 [some (.ref 1), some (.int 4), some (.int (nI q)), none, none, none] [] [jb_main imm I19 (va_up Tm 0 (.ref (1000000 + (2 + u)))) (jp_wr rowm w (f a).2.2) stkm tpm, s1, s2, s3, s4, s5, s6, s7, s8, s9, s10, s11] _
    refine jb_iload_n (pc' := 20) dX8_chain_19 rfl rfl ?_
    refine jb_iconst (pc' := 21) 2 dX8_chain_20 (by decide) rfl ?_
    refine jb_icmp_ne (tgt := 28) (pc' := 24) dX8_chain_21 (by decide) rfl (fun _ => ?_) (fun z => absurd z (by decide))
    refine jb_bipush (pc' := 30) 50 dX8_chain_28 (by decide) rfl ?_
    refine jb_istore_n_ (pc' := 31) dX8_chain_30 (by decide) (jb_at3 rfl) rfl ?_
    refine jb_iconst (pc' := 32) 0 dX8_chain_31 (by decide) rfl ?_
    refine jb_istore_ (pc' := 34) dX8_chain_32 (by decide) (jb_at4 rfl) rfl ?_
    refine jb_iload (pc' := 36) dX8_chain_34 rfl rfl ?_
    refine jb_iload_n (pc' := 37) dX8_chain_36 rfl rfl ?_
    refine jb_icmp_ge (tgt := 95) (pc' := 40) dX8_chain_37 (by decide) rfl (fun z => absurd z (by decide)) (fun _ => ?_)
    refine jb_aload_n (pc' := 41) dX8_chain_40 rfl rfl ?_
    refine gf_X8_31 (pc' := 44) (v := .int (I19 3)) dX8_chain_41 rfl rfl rfl ?_
    refine jb_top (v := .int (I19 3)) (w := .int 1) (jb_vI hq1.2.2.2) ?_
    refine jb_if_ne (tgt := 95) (pc' := 47) dX8_chain_44 (by decide) rfl (fun _ => ?_) (fun z => absurd z (by decide))
    refine jb_vret dX8_chain_95 ?_
    have e8 : jp_lp B n 4 f 50 (f a) = f a := jp_lp_no (fun z => by have z1 := z.1; rw [hy1] at z1; cases z1)
    rw [e8]
    exact ⟨rfl, I19, b1, k1, hb1, hk1, Or.inr ⟨hy1, hq1⟩, rfl⟩
set_option maxRecDepth 100000 in
set_option maxHeartbeats 4000000 in
theorem l_chain3 {sc : Nat × (Nat → Int32)} {s1 s2 s3 s4 s5 s6 s7 s8 s9 s10 s11 : List va_E} (imm : Int32) (Tm : Nat → Value) (stkm tpm : Nat → Int32) {B : Nat → Int32} {n u : Nat} (hB : ∀ k, k < n → tpm k = B k) (hy8 : jp_by B n) (hn : n ≤ 50) (hu : u < 2) (q : Nat) (hq5 : q ≤ 5) (f : Nat → jp_R) (hfo : ∀ a, a ≤ n → jp_ok n a (f a)) (D : Nat) (hf : jc_F sc s1 s2 s3 s4 s5 s6 s7 s8 s9 s10 s11 imm Tm stkm tpm n u yX8_chain cX8_chain 6 D [.int 4, .int (nI q)] f) (rowm : Nat → Int32) (w : Nat) : ∀ (k i a : Nat) (c : List Int32) (Im : Nat → Int32) (x5 : Option Value), i + k = 50 → a ≤ n → w + c.length ≤ a → jc_ Im n a (w + c.length) 0 → jb_J sc RX8 cX8_chain 6 (Option.none : Option Jvm.ClassFile.FieldType) false (D + 1) 0 0 34 [some (.ref 1), some (.int 3), some (.int (nI q)), some (.int 50), some (.int (nI i)), x5] [] [jb_main imm Im (va_up Tm 0 (.ref (1000000 + (2 + u)))) (jp_wr rowm w c) stkm tpm, s1, s2, s3, s4, s5, s6, s7, s8, s9, s10, s11] (fun r h9 => r = none ∧ ∃ I9 b9 k9, (jp_lp B n 3 f k (a, true, c)).1 = b9 ∧ (jp_lp B n 3 f k (a, true, c)).2.2.length = k9 ∧ (((jp_lp B n 3 f k (a, true, c)).2.1 = true ∧ jc_ I9 n b9 (w + k9) 0) ∨ ((jp_lp B n 3 f k (a, true, c)).2.1 = false ∧ jc_ I9 n b9 (w + k9) 1)) ∧ h9 = [jb_main imm I9 (va_up Tm 0 (.ref (1000000 + (2 + u)))) (jp_wr rowm w (jp_lp B n 3 f k (a, true, c)).2.2) stkm tpm, s1, s2, s3, s4, s5, s6, s7, s8, s9, s10, s11]) := by
  intro k
  induction k with
  | zero =>
    intro i a c Im x5 hk ha hwa hc
    show jb_J _ RX8 cX8_chain 6 (Option.none : Option Jvm.ClassFile.FieldType) false (D + 1) 0 0 34 [some (.ref 1), some (.int 3), some (.int (nI q)), some (.int 50), some (.int (nI i)), x5] [] [jb_main imm Im (va_up Tm 0 (.ref (1000000 + (2 + u)))) (jp_wr rowm w c) stkm tpm, s1, s2, s3, s4, s5, s6, s7, s8, s9, s10, s11] _
    refine jb_iload (pc' := 36) dX8_chain_34 rfl rfl ?_
    refine jb_iload_n (pc' := 37) dX8_chain_36 rfl rfl ?_
    refine jb_icmp_ge (tgt := 95) (pc' := 40) dX8_chain_37 (by decide) rfl (fun _ => ?_) (fun z => absurd (nI_le (a := 50) (b := i) (by omega) (by omega)) z)
    refine jb_vret dX8_chain_95 ?_
    have e8 : jp_lp B n 3 f 0 (a, true, c) = (a, true, c) := rfl
    rw [e8]
    exact ⟨rfl, Im, a, c.length, rfl, rfl, Or.inl ⟨rfl, hc⟩, rfl⟩
  | succ k ih =>
    intro i a c Im x5 hk ha hwa hc
    rcases jp_c3 (jp_lk B n a) with hs | hs | ⟨-, -, hr⟩
    · have ha1 : a < n := jp_in (fun z => by rw [hs] at z; exact absurd z (by decide))
      obtain ⟨q1, q2, q3, q4⟩ := hfo (a + 1) ha1
      show jb_J _ RX8 cX8_chain 6 (Option.none : Option Jvm.ClassFile.FieldType) false (D + 1) 0 0 34 [some (.ref 1), some (.int 3), some (.int (nI q)), some (.int 50), some (.int (nI i)), x5] [] [jb_main imm Im (va_up Tm 0 (.ref (1000000 + (2 + u)))) (jp_wr rowm w c) stkm tpm, s1, s2, s3, s4, s5, s6, s7, s8, s9, s10, s11] _
      refine jb_iload (pc' := 36) dX8_chain_34 rfl rfl ?_
      refine jb_iload_n (pc' := 37) dX8_chain_36 rfl rfl ?_
      refine jb_icmp_ge (tgt := 95) (pc' := 40) dX8_chain_37 (by decide) rfl (fun z => absurd z (nI_ge (a := i) (b := 50) (by omega) (by omega))) (fun _ => ?_)
      refine jb_aload_n (pc' := 41) dX8_chain_40 rfl rfl ?_
      refine gf_X8_31 (pc' := 44) (v := .int (Im 3)) dX8_chain_41 rfl rfl rfl ?_
      refine jb_top (v := .int (Im 3)) (w := .int 0) (jb_vI hc.2.2.2) ?_
      refine jb_if_ne (tgt := 95) (pc' := 47) dX8_chain_44 (by decide) rfl (fun z => absurd (by decide) z) (fun _ => ?_)
      refine jb_aload_n (pc' := 48) dX8_chain_47 rfl rfl ?_
      refine jb_callV (pc' := 51) (ci := 8) (q := 1) (As := []) (a2 := 0) (b2 := 0) wv_X8_67 rfl dX8_chain_48 (c_look imm Tm stkm tpm Im (jp_wr rowm w c) hB hy8 hn hu hc (by omega)) rfl rfl ⟨by omega, Nat.le_of_eq (Nat.zero_add _), Nat.le_of_eq (Nat.zero_add _)⟩ (Nat.le_of_ble_eq_true rfl) rfl (fun r h9 hq => ?_)
      obtain ⟨rfl, rfl⟩ := hq
      rw [hs]
      show jb_J _ RX8 cX8_chain 6 (Option.none : Option Jvm.ClassFile.FieldType) false (D + 1) 0 0 51 [some (.ref 1), some (.int 3), some (.int (nI q)), some (.int 50), some (.int (nI i)), x5] [.int 43] [jb_main imm Im (va_up Tm 0 (.ref (1000000 + (2 + u)))) (jp_wr rowm w c) stkm tpm, s1, s2, s3, s4, s5, s6, s7, s8, s9, s10, s11] _
      refine jb_callS (pc' := 54) (As := [.int 43]) (a2 := 0) (b2 := 0) wv_X8_71 dX8_chain_51 c_rank43 rfl ⟨by omega, Nat.le_of_eq (Nat.zero_add _), Nat.le_of_eq (Nat.zero_add _)⟩ (Nat.le_of_ble_eq_true rfl) rfl (fun r h9 hq => ?_)
      obtain ⟨rfl, rfl⟩ := hq
      show jb_J _ RX8 cX8_chain 6 (Option.none : Option Jvm.ClassFile.FieldType) false (D + 1) 0 0 54 [some (.ref 1), some (.int 3), some (.int (nI q)), some (.int 50), some (.int (nI i)), x5] [.int 3] [jb_main imm Im (va_up Tm 0 (.ref (1000000 + (2 + u)))) (jp_wr rowm w c) stkm tpm, s1, s2, s3, s4, s5, s6, s7, s8, s9, s10, s11] _
      refine jb_iload_n (pc' := 55) dX8_chain_54 rfl rfl ?_
      refine jb_icmp_ne (tgt := 95) (pc' := 58) dX8_chain_55 (by decide) rfl (fun z => absurd (by decide) z) (fun _ => ?_)
      refine jb_aload_n (pc' := 59) dX8_chain_58 rfl rfl ?_
      refine jb_callV (pc' := 62) (ci := 8) (q := 1) (As := []) (a2 := 0) (b2 := 0) wv_X8_67 rfl dX8_chain_59 (c_look imm Tm stkm tpm Im (jp_wr rowm w c) hB hy8 hn hu hc (by omega)) rfl rfl ⟨by omega, Nat.le_of_eq (Nat.zero_add _), Nat.le_of_eq (Nat.zero_add _)⟩ (Nat.le_of_ble_eq_true rfl) rfl (fun r h9 hq => ?_)
      obtain ⟨rfl, rfl⟩ := hq
      rw [hs]
      show jb_J _ RX8 cX8_chain 6 (Option.none : Option Jvm.ClassFile.FieldType) false (D + 1) 0 0 62 [some (.ref 1), some (.int 3), some (.int (nI q)), some (.int 50), some (.int (nI i)), x5] [.int 43] [jb_main imm Im (va_up Tm 0 (.ref (1000000 + (2 + u)))) (jp_wr rowm w c) stkm tpm, s1, s2, s3, s4, s5, s6, s7, s8, s9, s10, s11] _
      refine jb_istore_ (pc' := 64) dX8_chain_62 (by decide) (jb_at5 rfl) rfl ?_
      refine jb_aload_n (pc' := 65) dX8_chain_64 rfl rfl ?_
      refine jb_dup (pc' := 66) dX8_chain_65 rfl rfl ?_
      refine gf_X8_25 (pc' := 69) (v := .int (Im 1)) dX8_chain_66 rfl rfl rfl ?_
      refine jb_top (v := .int (Im 1)) (w := .int (nI a)) (jb_vI hc.2.1) ?_
      refine jb_iconst (pc' := 70) 1 dX8_chain_69 (by decide) rfl ?_
      refine jb_iadd (pc' := 71) dX8_chain_70 rfl ?_
      refine jb_top (v := .int ((nI a) + 1)) (w := .int (nI (a + 1))) (jb_vI (nI_add _ 1)) ?_
      refine pf_X8_25 (pc' := 74) (h' := [jb_main imm (upd Im 1 (nI (a + 1))) (va_up Tm 0 (.ref (1000000 + (2 + u)))) (jp_wr rowm w c) stkm tpm, s1, s2, s3, s4, s5, s6, s7, s8, s9, s10, s11]) dX8_chain_71 (fun _ => ⟨rfl, rfl⟩) rfl (Nat.le_of_ble_eq_true rfl) rfl rfl ?_
      refine jb_aload_n (pc' := 75) dX8_chain_74 rfl rfl ?_
      refine jb_iload_n (pc' := 76) dX8_chain_75 rfl rfl ?_
      refine jb_iconst (pc' := 77) 1 dX8_chain_76 (by decide) rfl ?_
      refine jb_iadd (pc' := 78) dX8_chain_77 rfl ?_
      refine jb_top (v := .int (3 + 1)) (w := .int 4) (jb_vI (by decide)) ?_
      refine jb_iload_n (pc' := 79) dX8_chain_78 rfl rfl ?_
      refine jb_callV (pc' := 82) (ci := 8) (q := 1) (As := [.int 4, .int (nI q)]) (a2 := 0) (b2 := 0) wv_X8_53 rfl dX8_chain_79 (hf (upd Im 1 (nI (a + 1))) (jp_wr rowm w c) (a + 1) (w + c.length) (by omega) (by omega) (hc.at (b := (a + 1)))) rfl rfl ⟨by omega, Nat.le_of_eq (Nat.zero_add _), Nat.le_of_eq (Nat.zero_add _)⟩ (Nat.le_of_ble_eq_true rfl) rfl (fun r h9 hq => ?_)
      rcases hq with ⟨rfl, I19, b1, k1, hb1, hk1, ⟨hy1, hq1⟩ | ⟨hy1, hq1⟩, rfl⟩
      · show jb_J _ RX8 cX8_chain 6 (Option.none : Option Jvm.ClassFile.FieldType) false (D + 1) 0 0 82 [some (.ref 1), some (.int 3), some (.int (nI q)), some (.int 50), some (.int (nI i)), some (.int 43)] [] [jb_main imm I19 (va_up Tm 0 (.ref (1000000 + (2 + u)))) (jp_wr (jp_wr rowm w c) (w + c.length) (f (a + 1)).2.2) stkm tpm, s1, s2, s3, s4, s5, s6, s7, s8, s9, s10, s11] _
        refine jb_aload_n (pc' := 83) dX8_chain_82 rfl rfl ?_
        refine jb_iload (pc' := 85) dX8_chain_83 rfl rfl ?_
        refine jb_ineg (pc' := 86) dX8_chain_85 rfl ?_
        refine jb_callV (pc' := 89) (ci := 8) (q := 1) (As := [.int (-43)]) (a2 := 0) (b2 := 0) wv_X8_75 rfl dX8_chain_86 (c_write imm Tm stkm tpm I19 (jp_wr (jp_wr rowm w c) (w + c.length) (f (a + 1)).2.2) hq1 (by omega) (-43)) rfl rfl ⟨by omega, Nat.le_of_eq (Nat.zero_add _), Nat.le_of_eq (Nat.zero_add _)⟩ (Nat.le_of_ble_eq_true rfl) rfl (fun r h9 hq => ?_)
        obtain ⟨rfl, rfl⟩ := hq
        show jb_J _ RX8 cX8_chain 6 (Option.none : Option Jvm.ClassFile.FieldType) false (D + 1) 0 0 89 [some (.ref 1), some (.int 3), some (.int (nI q)), some (.int 50), some (.int (nI i)), some (.int 43)] [] [jb_main imm (upd I19 2 (nI (((w + c.length) + k1) + 1))) (va_up Tm 0 (.ref (1000000 + (2 + u)))) (upd (jp_wr (jp_wr rowm w c) (w + c.length) (f (a + 1)).2.2) ((w + c.length) + k1) (-43)) stkm tpm, s1, s2, s3, s4, s5, s6, s7, s8, s9, s10, s11] _
        refine jb_iinc_ (pc' := 92) (nI (i + 1)) dX8_chain_89 (by decide) rfl (jb_inc i 1) (jb_at4 rfl) rfl ?_
        refine jb_goto (pc' := 34) dX8_chain_92 (by decide) ?_
        refine jb_heap (h' := [jb_main imm (upd I19 2 (nI (((w + c.length) + k1) + 1))) (va_up Tm 0 (.ref (1000000 + (2 + u)))) (jp_wr rowm w (c ++ (f (a + 1)).2.2 ++ [-43])) stkm tpm, s1, s2, s3, s4, s5, s6, s7, s8, s9, s10, s11]) (by rw [← jp_wr_bin rowm w c (f (a + 1)).2.2 (-43) (v := w + c.length + k1) (by rw [hk1])]) ?_
        have e9 : jp_lp B n 3 f (k + 1) (a, true, c) = jp_lp B n 3 f k (b1, true, (c ++ (f (a + 1)).2.2 ++ [-43])) := by
          refine (jp_lp_go (x := (a, true, c)) rfl hs (by decide)).trans ?_
          show jp_lp B n 3 f k ((f (a + 1)).1, (f (a + 1)).2.1, c ++ (f (a + 1)).2.2 ++ [-43]) = _
          rw [hb1, hy1]
        rw [e9]
        have lc := (show (c ++ (f (a + 1)).2.2 ++ [-43]).length = c.length + k1 + 1 by rw [List.length_append, List.length_append, hk1]; rfl)
        exact ih (i + 1) b1 (c ++ (f (a + 1)).2.2 ++ [-43]) (upd I19 2 (nI (((w + c.length) + k1) + 1))) _ (by omega) (by omega) (by omega) (by rw [lc, show w + (c.length + k1 + 1) = w + c.length + k1 + 1 by omega]; exact (hq1.wr (b := (((w + c.length) + k1) + 1))))
      · show jb_J _ RX8 cX8_chain 6 (Option.none : Option Jvm.ClassFile.FieldType) false (D + 1) 0 0 82 [some (.ref 1), some (.int 3), some (.int (nI q)), some (.int 50), some (.int (nI i)), some (.int 43)] [] [jb_main imm I19 (va_up Tm 0 (.ref (1000000 + (2 + u)))) (jp_wr (jp_wr rowm w c) (w + c.length) (f (a + 1)).2.2) stkm tpm, s1, s2, s3, s4, s5, s6, s7, s8, s9, s10, s11] _
        refine jb_aload_n (pc' := 83) dX8_chain_82 rfl rfl ?_
        refine jb_iload (pc' := 85) dX8_chain_83 rfl rfl ?_
        refine jb_ineg (pc' := 86) dX8_chain_85 rfl ?_
        refine jb_callV (pc' := 89) (ci := 8) (q := 1) (As := [.int (-43)]) (a2 := 0) (b2 := 0) wv_X8_75 rfl dX8_chain_86 (c_write imm Tm stkm tpm I19 (jp_wr (jp_wr rowm w c) (w + c.length) (f (a + 1)).2.2) hq1 (by omega) (-43)) rfl rfl ⟨by omega, Nat.le_of_eq (Nat.zero_add _), Nat.le_of_eq (Nat.zero_add _)⟩ (Nat.le_of_ble_eq_true rfl) rfl (fun r h9 hq => ?_)
        obtain ⟨rfl, rfl⟩ := hq
        show jb_J _ RX8 cX8_chain 6 (Option.none : Option Jvm.ClassFile.FieldType) false (D + 1) 0 0 89 [some (.ref 1), some (.int 3), some (.int (nI q)), some (.int 50), some (.int (nI i)), some (.int 43)] [] [jb_main imm (upd I19 2 (nI (((w + c.length) + k1) + 1))) (va_up Tm 0 (.ref (1000000 + (2 + u)))) (upd (jp_wr (jp_wr rowm w c) (w + c.length) (f (a + 1)).2.2) ((w + c.length) + k1) (-43)) stkm tpm, s1, s2, s3, s4, s5, s6, s7, s8, s9, s10, s11] _
        refine jb_iinc_ (pc' := 92) (nI (i + 1)) dX8_chain_89 (by decide) rfl (jb_inc i 1) (jb_at4 rfl) rfl ?_
        refine jb_goto (pc' := 34) dX8_chain_92 (by decide) ?_
        refine jb_heap (h' := [jb_main imm (upd I19 2 (nI (((w + c.length) + k1) + 1))) (va_up Tm 0 (.ref (1000000 + (2 + u)))) (jp_wr rowm w (c ++ (f (a + 1)).2.2 ++ [-43])) stkm tpm, s1, s2, s3, s4, s5, s6, s7, s8, s9, s10, s11]) (by rw [← jp_wr_bin rowm w c (f (a + 1)).2.2 (-43) (v := w + c.length + k1) (by rw [hk1])]) ?_
        refine jb_iload (pc' := 36) dX8_chain_34 rfl rfl ?_
        refine jb_iload_n (pc' := 37) dX8_chain_36 rfl rfl ?_
        refine jb_icmp_ge (tgt := 95) (pc' := 40) dX8_chain_37 (by decide) rfl (fun c4 => ?_) (fun c4 => ?_)
        · refine jb_vret dX8_chain_95 ?_
          have e8 : jp_lp B n 3 f (k + 1) (a, true, c) = (b1, false, (c ++ (f (a + 1)).2.2 ++ [-43])) := by
            refine (jp_lp_go (x := (a, true, c)) rfl hs (by decide)).trans ?_
            refine (jp_lp_no (fun z => ?_)).trans ?_
            · have z1 : (f (a + 1)).2.1 = true := z.1
              rw [hy1] at z1; cases z1
            · show ((f (a + 1)).1, (f (a + 1)).2.1, c ++ (f (a + 1)).2.2 ++ [-43]) = _
              rw [hb1, hy1]
          rw [e8]
          exact ⟨rfl, (upd I19 2 (nI (((w + c.length) + k1) + 1))), b1, c.length + k1 + 1, rfl, (show (c ++ (f (a + 1)).2.2 ++ [-43]).length = c.length + k1 + 1 by rw [List.length_append, List.length_append, hk1]; rfl), Or.inr ⟨rfl, by rw [show w + (c.length + k1 + 1) = w + c.length + k1 + 1 by omega]; exact (hq1.wr (b := (((w + c.length) + k1) + 1)))⟩, rfl⟩
        · refine jb_aload_n (pc' := 41) dX8_chain_40 rfl rfl ?_
          refine gf_X8_31 (pc' := 44) (v := .int ((upd I19 2 (nI (((w + c.length) + k1) + 1))) 3)) dX8_chain_41 rfl rfl rfl ?_
          refine jb_top (v := .int ((upd I19 2 (nI (((w + c.length) + k1) + 1))) 3)) (w := .int 1) (jb_vI (hq1.wr (b := (((w + c.length) + k1) + 1))).2.2.2) ?_
          refine jb_if_ne (tgt := 95) (pc' := 47) dX8_chain_44 (by decide) rfl (fun _ => ?_) (fun z => absurd z (by decide))
          refine jb_vret dX8_chain_95 ?_
          have e8 : jp_lp B n 3 f (k + 1) (a, true, c) = (b1, false, (c ++ (f (a + 1)).2.2 ++ [-43])) := by
            refine (jp_lp_go (x := (a, true, c)) rfl hs (by decide)).trans ?_
            refine (jp_lp_no (fun z => ?_)).trans ?_
            · have z1 : (f (a + 1)).2.1 = true := z.1
              rw [hy1] at z1; cases z1
            · show ((f (a + 1)).1, (f (a + 1)).2.1, c ++ (f (a + 1)).2.2 ++ [-43]) = _
              rw [hb1, hy1]
          rw [e8]
          exact ⟨rfl, (upd I19 2 (nI (((w + c.length) + k1) + 1))), b1, c.length + k1 + 1, rfl, (show (c ++ (f (a + 1)).2.2 ++ [-43]).length = c.length + k1 + 1 by rw [List.length_append, List.length_append, hk1]; rfl), Or.inr ⟨rfl, by rw [show w + (c.length + k1 + 1) = w + c.length + k1 + 1 by omega]; exact (hq1.wr (b := (((w + c.length) + k1) + 1)))⟩, rfl⟩
    · have ha1 : a < n := jp_in (fun z => by rw [hs] at z; exact absurd z (by decide))
      obtain ⟨q1, q2, q3, q4⟩ := hfo (a + 1) ha1
      show jb_J _ RX8 cX8_chain 6 (Option.none : Option Jvm.ClassFile.FieldType) false (D + 1) 0 0 34 [some (.ref 1), some (.int 3), some (.int (nI q)), some (.int 50), some (.int (nI i)), x5] [] [jb_main imm Im (va_up Tm 0 (.ref (1000000 + (2 + u)))) (jp_wr rowm w c) stkm tpm, s1, s2, s3, s4, s5, s6, s7, s8, s9, s10, s11] _
      refine jb_iload (pc' := 36) dX8_chain_34 rfl rfl ?_
      refine jb_iload_n (pc' := 37) dX8_chain_36 rfl rfl ?_
      refine jb_icmp_ge (tgt := 95) (pc' := 40) dX8_chain_37 (by decide) rfl (fun z => absurd z (nI_ge (a := i) (b := 50) (by omega) (by omega))) (fun _ => ?_)
      refine jb_aload_n (pc' := 41) dX8_chain_40 rfl rfl ?_
      refine gf_X8_31 (pc' := 44) (v := .int (Im 3)) dX8_chain_41 rfl rfl rfl ?_
      refine jb_top (v := .int (Im 3)) (w := .int 0) (jb_vI hc.2.2.2) ?_
      refine jb_if_ne (tgt := 95) (pc' := 47) dX8_chain_44 (by decide) rfl (fun z => absurd (by decide) z) (fun _ => ?_)
      refine jb_aload_n (pc' := 48) dX8_chain_47 rfl rfl ?_
      refine jb_callV (pc' := 51) (ci := 8) (q := 1) (As := []) (a2 := 0) (b2 := 0) wv_X8_67 rfl dX8_chain_48 (c_look imm Tm stkm tpm Im (jp_wr rowm w c) hB hy8 hn hu hc (by omega)) rfl rfl ⟨by omega, Nat.le_of_eq (Nat.zero_add _), Nat.le_of_eq (Nat.zero_add _)⟩ (Nat.le_of_ble_eq_true rfl) rfl (fun r h9 hq => ?_)
      obtain ⟨rfl, rfl⟩ := hq
      rw [hs]
      show jb_J _ RX8 cX8_chain 6 (Option.none : Option Jvm.ClassFile.FieldType) false (D + 1) 0 0 51 [some (.ref 1), some (.int 3), some (.int (nI q)), some (.int 50), some (.int (nI i)), x5] [.int 45] [jb_main imm Im (va_up Tm 0 (.ref (1000000 + (2 + u)))) (jp_wr rowm w c) stkm tpm, s1, s2, s3, s4, s5, s6, s7, s8, s9, s10, s11] _
      refine jb_callS (pc' := 54) (As := [.int 45]) (a2 := 0) (b2 := 0) wv_X8_71 dX8_chain_51 c_rank45 rfl ⟨by omega, Nat.le_of_eq (Nat.zero_add _), Nat.le_of_eq (Nat.zero_add _)⟩ (Nat.le_of_ble_eq_true rfl) rfl (fun r h9 hq => ?_)
      obtain ⟨rfl, rfl⟩ := hq
      show jb_J _ RX8 cX8_chain 6 (Option.none : Option Jvm.ClassFile.FieldType) false (D + 1) 0 0 54 [some (.ref 1), some (.int 3), some (.int (nI q)), some (.int 50), some (.int (nI i)), x5] [.int 3] [jb_main imm Im (va_up Tm 0 (.ref (1000000 + (2 + u)))) (jp_wr rowm w c) stkm tpm, s1, s2, s3, s4, s5, s6, s7, s8, s9, s10, s11] _
      refine jb_iload_n (pc' := 55) dX8_chain_54 rfl rfl ?_
      refine jb_icmp_ne (tgt := 95) (pc' := 58) dX8_chain_55 (by decide) rfl (fun z => absurd (by decide) z) (fun _ => ?_)
      refine jb_aload_n (pc' := 59) dX8_chain_58 rfl rfl ?_
      refine jb_callV (pc' := 62) (ci := 8) (q := 1) (As := []) (a2 := 0) (b2 := 0) wv_X8_67 rfl dX8_chain_59 (c_look imm Tm stkm tpm Im (jp_wr rowm w c) hB hy8 hn hu hc (by omega)) rfl rfl ⟨by omega, Nat.le_of_eq (Nat.zero_add _), Nat.le_of_eq (Nat.zero_add _)⟩ (Nat.le_of_ble_eq_true rfl) rfl (fun r h9 hq => ?_)
      obtain ⟨rfl, rfl⟩ := hq
      rw [hs]
      show jb_J _ RX8 cX8_chain 6 (Option.none : Option Jvm.ClassFile.FieldType) false (D + 1) 0 0 62 [some (.ref 1), some (.int 3), some (.int (nI q)), some (.int 50), some (.int (nI i)), x5] [.int 45] [jb_main imm Im (va_up Tm 0 (.ref (1000000 + (2 + u)))) (jp_wr rowm w c) stkm tpm, s1, s2, s3, s4, s5, s6, s7, s8, s9, s10, s11] _
      refine jb_istore_ (pc' := 64) dX8_chain_62 (by decide) (jb_at5 rfl) rfl ?_
      refine jb_aload_n (pc' := 65) dX8_chain_64 rfl rfl ?_
      refine jb_dup (pc' := 66) dX8_chain_65 rfl rfl ?_
      refine gf_X8_25 (pc' := 69) (v := .int (Im 1)) dX8_chain_66 rfl rfl rfl ?_
      refine jb_top (v := .int (Im 1)) (w := .int (nI a)) (jb_vI hc.2.1) ?_
      refine jb_iconst (pc' := 70) 1 dX8_chain_69 (by decide) rfl ?_
      refine jb_iadd (pc' := 71) dX8_chain_70 rfl ?_
      refine jb_top (v := .int ((nI a) + 1)) (w := .int (nI (a + 1))) (jb_vI (nI_add _ 1)) ?_
      refine pf_X8_25 (pc' := 74) (h' := [jb_main imm (upd Im 1 (nI (a + 1))) (va_up Tm 0 (.ref (1000000 + (2 + u)))) (jp_wr rowm w c) stkm tpm, s1, s2, s3, s4, s5, s6, s7, s8, s9, s10, s11]) dX8_chain_71 (fun _ => ⟨rfl, rfl⟩) rfl (Nat.le_of_ble_eq_true rfl) rfl rfl ?_
      refine jb_aload_n (pc' := 75) dX8_chain_74 rfl rfl ?_
      refine jb_iload_n (pc' := 76) dX8_chain_75 rfl rfl ?_
      refine jb_iconst (pc' := 77) 1 dX8_chain_76 (by decide) rfl ?_
      refine jb_iadd (pc' := 78) dX8_chain_77 rfl ?_
      refine jb_top (v := .int (3 + 1)) (w := .int 4) (jb_vI (by decide)) ?_
      refine jb_iload_n (pc' := 79) dX8_chain_78 rfl rfl ?_
      refine jb_callV (pc' := 82) (ci := 8) (q := 1) (As := [.int 4, .int (nI q)]) (a2 := 0) (b2 := 0) wv_X8_53 rfl dX8_chain_79 (hf (upd Im 1 (nI (a + 1))) (jp_wr rowm w c) (a + 1) (w + c.length) (by omega) (by omega) (hc.at (b := (a + 1)))) rfl rfl ⟨by omega, Nat.le_of_eq (Nat.zero_add _), Nat.le_of_eq (Nat.zero_add _)⟩ (Nat.le_of_ble_eq_true rfl) rfl (fun r h9 hq => ?_)
      rcases hq with ⟨rfl, I19, b1, k1, hb1, hk1, ⟨hy1, hq1⟩ | ⟨hy1, hq1⟩, rfl⟩
      · show jb_J _ RX8 cX8_chain 6 (Option.none : Option Jvm.ClassFile.FieldType) false (D + 1) 0 0 82 [some (.ref 1), some (.int 3), some (.int (nI q)), some (.int 50), some (.int (nI i)), some (.int 45)] [] [jb_main imm I19 (va_up Tm 0 (.ref (1000000 + (2 + u)))) (jp_wr (jp_wr rowm w c) (w + c.length) (f (a + 1)).2.2) stkm tpm, s1, s2, s3, s4, s5, s6, s7, s8, s9, s10, s11] _
        refine jb_aload_n (pc' := 83) dX8_chain_82 rfl rfl ?_
        refine jb_iload (pc' := 85) dX8_chain_83 rfl rfl ?_
        refine jb_ineg (pc' := 86) dX8_chain_85 rfl ?_
        refine jb_callV (pc' := 89) (ci := 8) (q := 1) (As := [.int (-45)]) (a2 := 0) (b2 := 0) wv_X8_75 rfl dX8_chain_86 (c_write imm Tm stkm tpm I19 (jp_wr (jp_wr rowm w c) (w + c.length) (f (a + 1)).2.2) hq1 (by omega) (-45)) rfl rfl ⟨by omega, Nat.le_of_eq (Nat.zero_add _), Nat.le_of_eq (Nat.zero_add _)⟩ (Nat.le_of_ble_eq_true rfl) rfl (fun r h9 hq => ?_)
        obtain ⟨rfl, rfl⟩ := hq
        show jb_J _ RX8 cX8_chain 6 (Option.none : Option Jvm.ClassFile.FieldType) false (D + 1) 0 0 89 [some (.ref 1), some (.int 3), some (.int (nI q)), some (.int 50), some (.int (nI i)), some (.int 45)] [] [jb_main imm (upd I19 2 (nI (((w + c.length) + k1) + 1))) (va_up Tm 0 (.ref (1000000 + (2 + u)))) (upd (jp_wr (jp_wr rowm w c) (w + c.length) (f (a + 1)).2.2) ((w + c.length) + k1) (-45)) stkm tpm, s1, s2, s3, s4, s5, s6, s7, s8, s9, s10, s11] _
        refine jb_iinc_ (pc' := 92) (nI (i + 1)) dX8_chain_89 (by decide) rfl (jb_inc i 1) (jb_at4 rfl) rfl ?_
        refine jb_goto (pc' := 34) dX8_chain_92 (by decide) ?_
        refine jb_heap (h' := [jb_main imm (upd I19 2 (nI (((w + c.length) + k1) + 1))) (va_up Tm 0 (.ref (1000000 + (2 + u)))) (jp_wr rowm w (c ++ (f (a + 1)).2.2 ++ [-45])) stkm tpm, s1, s2, s3, s4, s5, s6, s7, s8, s9, s10, s11]) (by rw [← jp_wr_bin rowm w c (f (a + 1)).2.2 (-45) (v := w + c.length + k1) (by rw [hk1])]) ?_
        have e9 : jp_lp B n 3 f (k + 1) (a, true, c) = jp_lp B n 3 f k (b1, true, (c ++ (f (a + 1)).2.2 ++ [-45])) := by
          refine (jp_lp_go (x := (a, true, c)) rfl hs (by decide)).trans ?_
          show jp_lp B n 3 f k ((f (a + 1)).1, (f (a + 1)).2.1, c ++ (f (a + 1)).2.2 ++ [-45]) = _
          rw [hb1, hy1]
        rw [e9]
        have lc := (show (c ++ (f (a + 1)).2.2 ++ [-45]).length = c.length + k1 + 1 by rw [List.length_append, List.length_append, hk1]; rfl)
        exact ih (i + 1) b1 (c ++ (f (a + 1)).2.2 ++ [-45]) (upd I19 2 (nI (((w + c.length) + k1) + 1))) _ (by omega) (by omega) (by omega) (by rw [lc, show w + (c.length + k1 + 1) = w + c.length + k1 + 1 by omega]; exact (hq1.wr (b := (((w + c.length) + k1) + 1))))
      · show jb_J _ RX8 cX8_chain 6 (Option.none : Option Jvm.ClassFile.FieldType) false (D + 1) 0 0 82 [some (.ref 1), some (.int 3), some (.int (nI q)), some (.int 50), some (.int (nI i)), some (.int 45)] [] [jb_main imm I19 (va_up Tm 0 (.ref (1000000 + (2 + u)))) (jp_wr (jp_wr rowm w c) (w + c.length) (f (a + 1)).2.2) stkm tpm, s1, s2, s3, s4, s5, s6, s7, s8, s9, s10, s11] _
        refine jb_aload_n (pc' := 83) dX8_chain_82 rfl rfl ?_
        refine jb_iload (pc' := 85) dX8_chain_83 rfl rfl ?_
        refine jb_ineg (pc' := 86) dX8_chain_85 rfl ?_
        refine jb_callV (pc' := 89) (ci := 8) (q := 1) (As := [.int (-45)]) (a2 := 0) (b2 := 0) wv_X8_75 rfl dX8_chain_86 (c_write imm Tm stkm tpm I19 (jp_wr (jp_wr rowm w c) (w + c.length) (f (a + 1)).2.2) hq1 (by omega) (-45)) rfl rfl ⟨by omega, Nat.le_of_eq (Nat.zero_add _), Nat.le_of_eq (Nat.zero_add _)⟩ (Nat.le_of_ble_eq_true rfl) rfl (fun r h9 hq => ?_)
        obtain ⟨rfl, rfl⟩ := hq
        show jb_J _ RX8 cX8_chain 6 (Option.none : Option Jvm.ClassFile.FieldType) false (D + 1) 0 0 89 [some (.ref 1), some (.int 3), some (.int (nI q)), some (.int 50), some (.int (nI i)), some (.int 45)] [] [jb_main imm (upd I19 2 (nI (((w + c.length) + k1) + 1))) (va_up Tm 0 (.ref (1000000 + (2 + u)))) (upd (jp_wr (jp_wr rowm w c) (w + c.length) (f (a + 1)).2.2) ((w + c.length) + k1) (-45)) stkm tpm, s1, s2, s3, s4, s5, s6, s7, s8, s9, s10, s11] _
        refine jb_iinc_ (pc' := 92) (nI (i + 1)) dX8_chain_89 (by decide) rfl (jb_inc i 1) (jb_at4 rfl) rfl ?_
        refine jb_goto (pc' := 34) dX8_chain_92 (by decide) ?_
        refine jb_heap (h' := [jb_main imm (upd I19 2 (nI (((w + c.length) + k1) + 1))) (va_up Tm 0 (.ref (1000000 + (2 + u)))) (jp_wr rowm w (c ++ (f (a + 1)).2.2 ++ [-45])) stkm tpm, s1, s2, s3, s4, s5, s6, s7, s8, s9, s10, s11]) (by rw [← jp_wr_bin rowm w c (f (a + 1)).2.2 (-45) (v := w + c.length + k1) (by rw [hk1])]) ?_
        refine jb_iload (pc' := 36) dX8_chain_34 rfl rfl ?_
        refine jb_iload_n (pc' := 37) dX8_chain_36 rfl rfl ?_
        refine jb_icmp_ge (tgt := 95) (pc' := 40) dX8_chain_37 (by decide) rfl (fun c4 => ?_) (fun c4 => ?_)
        · refine jb_vret dX8_chain_95 ?_
          have e8 : jp_lp B n 3 f (k + 1) (a, true, c) = (b1, false, (c ++ (f (a + 1)).2.2 ++ [-45])) := by
            refine (jp_lp_go (x := (a, true, c)) rfl hs (by decide)).trans ?_
            refine (jp_lp_no (fun z => ?_)).trans ?_
            · have z1 : (f (a + 1)).2.1 = true := z.1
              rw [hy1] at z1; cases z1
            · show ((f (a + 1)).1, (f (a + 1)).2.1, c ++ (f (a + 1)).2.2 ++ [-45]) = _
              rw [hb1, hy1]
          rw [e8]
          exact ⟨rfl, (upd I19 2 (nI (((w + c.length) + k1) + 1))), b1, c.length + k1 + 1, rfl, (show (c ++ (f (a + 1)).2.2 ++ [-45]).length = c.length + k1 + 1 by rw [List.length_append, List.length_append, hk1]; rfl), Or.inr ⟨rfl, by rw [show w + (c.length + k1 + 1) = w + c.length + k1 + 1 by omega]; exact (hq1.wr (b := (((w + c.length) + k1) + 1)))⟩, rfl⟩
        · refine jb_aload_n (pc' := 41) dX8_chain_40 rfl rfl ?_
          refine gf_X8_31 (pc' := 44) (v := .int ((upd I19 2 (nI (((w + c.length) + k1) + 1))) 3)) dX8_chain_41 rfl rfl rfl ?_
          refine jb_top (v := .int ((upd I19 2 (nI (((w + c.length) + k1) + 1))) 3)) (w := .int 1) (jb_vI (hq1.wr (b := (((w + c.length) + k1) + 1))).2.2.2) ?_
          refine jb_if_ne (tgt := 95) (pc' := 47) dX8_chain_44 (by decide) rfl (fun _ => ?_) (fun z => absurd z (by decide))
          refine jb_vret dX8_chain_95 ?_
          have e8 : jp_lp B n 3 f (k + 1) (a, true, c) = (b1, false, (c ++ (f (a + 1)).2.2 ++ [-45])) := by
            refine (jp_lp_go (x := (a, true, c)) rfl hs (by decide)).trans ?_
            refine (jp_lp_no (fun z => ?_)).trans ?_
            · have z1 : (f (a + 1)).2.1 = true := z.1
              rw [hy1] at z1; cases z1
            · show ((f (a + 1)).1, (f (a + 1)).2.1, c ++ (f (a + 1)).2.2 ++ [-45]) = _
              rw [hb1, hy1]
          rw [e8]
          exact ⟨rfl, (upd I19 2 (nI (((w + c.length) + k1) + 1))), b1, c.length + k1 + 1, rfl, (show (c ++ (f (a + 1)).2.2 ++ [-45]).length = c.length + k1 + 1 by rw [List.length_append, List.length_append, hk1]; rfl), Or.inr ⟨rfl, by rw [show w + (c.length + k1 + 1) = w + c.length + k1 + 1 by omega]; exact (hq1.wr (b := (((w + c.length) + k1) + 1)))⟩, rfl⟩
    · show jb_J _ RX8 cX8_chain 6 (Option.none : Option Jvm.ClassFile.FieldType) false (D + 1) 0 0 34 [some (.ref 1), some (.int 3), some (.int (nI q)), some (.int 50), some (.int (nI i)), x5] [] [jb_main imm Im (va_up Tm 0 (.ref (1000000 + (2 + u)))) (jp_wr rowm w c) stkm tpm, s1, s2, s3, s4, s5, s6, s7, s8, s9, s10, s11] _
      refine jb_iload (pc' := 36) dX8_chain_34 rfl rfl ?_
      refine jb_iload_n (pc' := 37) dX8_chain_36 rfl rfl ?_
      refine jb_icmp_ge (tgt := 95) (pc' := 40) dX8_chain_37 (by decide) rfl (fun z => absurd z (nI_ge (a := i) (b := 50) (by omega) (by omega))) (fun _ => ?_)
      refine jb_aload_n (pc' := 41) dX8_chain_40 rfl rfl ?_
      refine gf_X8_31 (pc' := 44) (v := .int (Im 3)) dX8_chain_41 rfl rfl rfl ?_
      refine jb_top (v := .int (Im 3)) (w := .int 0) (jb_vI hc.2.2.2) ?_
      refine jb_if_ne (tgt := 95) (pc' := 47) dX8_chain_44 (by decide) rfl (fun z => absurd (by decide) z) (fun _ => ?_)
      refine jb_aload_n (pc' := 48) dX8_chain_47 rfl rfl ?_
      refine jb_callV (pc' := 51) (ci := 8) (q := 1) (As := []) (a2 := 0) (b2 := 0) wv_X8_67 rfl dX8_chain_48 (c_look imm Tm stkm tpm Im (jp_wr rowm w c) hB hy8 hn hu hc (by omega)) rfl rfl ⟨by omega, Nat.le_of_eq (Nat.zero_add _), Nat.le_of_eq (Nat.zero_add _)⟩ (Nat.le_of_ble_eq_true rfl) rfl (fun r h9 hq => ?_)
      obtain ⟨rfl, rfl⟩ := hq
      show jb_J _ RX8 cX8_chain 6 (Option.none : Option Jvm.ClassFile.FieldType) false (D + 1) 0 0 51 [some (.ref 1), some (.int 3), some (.int (nI q)), some (.int 50), some (.int (nI i)), x5] [.int (jp_lk B n a)] [jb_main imm Im (va_up Tm 0 (.ref (1000000 + (2 + u)))) (jp_wr rowm w c) stkm tpm, s1, s2, s3, s4, s5, s6, s7, s8, s9, s10, s11] _
      refine jb_callS (pc' := 54) (As := [.int (jp_lk B n a)]) (a2 := 0) (b2 := 0) wv_X8_71 dX8_chain_51 (c_rankX _ (jp_lk B n a) (hy8.lk a) 3 (by decide) hr) rfl ⟨by omega, Nat.le_of_eq (Nat.zero_add _), Nat.le_of_eq (Nat.zero_add _)⟩ (Nat.le_of_ble_eq_true rfl) rfl (fun r h9 hq => ?_)
      obtain ⟨rfl, x9, n9, rfl⟩ := hq
      show jb_J _ RX8 cX8_chain 6 (Option.none : Option Jvm.ClassFile.FieldType) false (D + 1) 0 0 54 [some (.ref 1), some (.int 3), some (.int (nI q)), some (.int 50), some (.int (nI i)), x5] [.int x9] [jb_main imm Im (va_up Tm 0 (.ref (1000000 + (2 + u)))) (jp_wr rowm w c) stkm tpm, s1, s2, s3, s4, s5, s6, s7, s8, s9, s10, s11] _
      refine jb_iload_n (pc' := 55) dX8_chain_54 rfl rfl ?_
      refine jb_icmp_ne (tgt := 95) (pc' := 58) dX8_chain_55 (by decide) rfl (fun _ => ?_) (fun z => absurd z n9)
      refine jb_vret dX8_chain_95 ?_
      have e8 : jp_lp B n 3 f (k + 1) (a, true, c) = (a, true, c) := jp_lp_no (fun z => hr z.2)
      rw [e8]
      exact ⟨rfl, Im, a, c.length, rfl, rfl, Or.inl ⟨rfl, hc⟩, rfl⟩
set_option maxRecDepth 100000 in
set_option maxHeartbeats 4000000 in
theorem c_chain3 {sc : Nat × (Nat → Int32)} {s1 s2 s3 s4 s5 s6 s7 s8 s9 s10 s11 : List va_E} (imm : Int32) (Tm : Nat → Value) (stkm tpm : Nat → Int32) {B : Nat → Int32} {n u : Nat} (hB : ∀ k, k < n → tpm k = B k) (hy8 : jp_by B n) (hn : n ≤ 50) (hu : u < 2) (q : Nat) (hq5 : q ≤ 5) (f : Nat → jp_R) (hfo : ∀ a, a ≤ n → jp_ok n a (f a)) (D : Nat) (hf : jc_F sc s1 s2 s3 s4 s5 s6 s7 s8 s9 s10 s11 imm Tm stkm tpm n u yX8_chain cX8_chain 6 D [.int 4, .int (nI q)] f) : jc_F sc s1 s2 s3 s4 s5 s6 s7 s8 s9 s10 s11 imm Tm stkm tpm n u yX8_chain cX8_chain 6 (D + 1) [.int 3, .int (nI q)] (fun a => jp_lp B n 3 f 50 (f a)) := by
  intro Im rowm a w ha hwa hc
  show jb_C sc yX8_chain cX8_chain 6 none (D + 1) 0 0 [.ref 1, .int 3, .int (nI q)] [jb_main imm Im (va_up Tm 0 (.ref (1000000 + (2 + u)))) rowm stkm tpm, s1, s2, s3, s4, s5, s6, s7, s8, s9, s10, s11] (fun r h9 => r = none ∧ ∃ I9 b9 k9, (jp_lp B n 3 f 50 (f a)).1 = b9 ∧ (jp_lp B n 3 f 50 (f a)).2.2.length = k9 ∧ (((jp_lp B n 3 f 50 (f a)).2.1 = true ∧ jc_ I9 n b9 (w + k9) 0) ∨ ((jp_lp B n 3 f 50 (f a)).2.1 = false ∧ jc_ I9 n b9 (w + k9) 1)) ∧ h9 = [jb_main imm I9 (va_up Tm 0 (.ref (1000000 + (2 + u)))) (jp_wr rowm w (jp_lp B n 3 f 50 (f a)).2.2) stkm tpm, s1, s2, s3, s4, s5, s6, s7, s8, s9, s10, s11])
  refine jb_CofJ (ini := false) (by decide +kernel) (fun h => by cases h) (Nat.le_of_ble_eq_true rfl) ?_
  obtain ⟨q1, q2, q3, q4⟩ := hfo a ha
  show jb_J _ RX8 cX8_chain 6 (Option.none : Option Jvm.ClassFile.FieldType) false (D + 1) 0 0 0 [some (.ref 1), some (.int 3), some (.int (nI q)), none, none, none] [] [jb_main imm Im (va_up Tm 0 (.ref (1000000 + (2 + u)))) rowm stkm tpm, s1, s2, s3, s4, s5, s6, s7, s8, s9, s10, s11] _
  refine jb_iload_n (pc' := 1) dX8_chain_0 rfl rfl ?_
  refine jb_iconst (pc' := 2) 5 dX8_chain_1 (by decide) rfl ?_
  refine jb_icmp_lt (tgt := 11) (pc' := 5) dX8_chain_2 (by decide) rfl (fun _ => ?_) (fun z => absurd (by decide) z)
  refine jb_aload_n (pc' := 12) dX8_chain_11 rfl rfl ?_
  refine jb_iload_n (pc' := 13) dX8_chain_12 rfl rfl ?_
  refine jb_iconst (pc' := 14) 1 dX8_chain_13 (by decide) rfl ?_
  refine jb_iadd (pc' := 15) dX8_chain_14 rfl ?_
  refine jb_top (v := .int (3 + 1)) (w := .int 4) (jb_vI (by decide)) ?_
  refine jb_iload_n (pc' := 16) dX8_chain_15 rfl rfl ?_
  refine jb_callV (pc' := 19) (ci := 8) (q := 1) (As := [.int 4, .int (nI q)]) (a2 := 0) (b2 := 0) wv_X8_53 rfl dX8_chain_16 (hf Im rowm a w (by omega) (by omega) hc) rfl rfl ⟨by omega, Nat.le_of_eq (Nat.zero_add _), Nat.le_of_eq (Nat.zero_add _)⟩ (Nat.le_of_ble_eq_true rfl) rfl (fun r h9 hq => ?_)
  rcases hq with ⟨rfl, I19, b1, k1, hb1, hk1, ⟨hy1, hq1⟩ | ⟨hy1, hq1⟩, rfl⟩
  · show jb_J _ RX8 cX8_chain 6 (Option.none : Option Jvm.ClassFile.FieldType) false (D + 1) 0 0 19 [some (.ref 1), some (.int 3), some (.int (nI q)), none, none, none] [] [jb_main imm I19 (va_up Tm 0 (.ref (1000000 + (2 + u)))) (jp_wr rowm w (f a).2.2) stkm tpm, s1, s2, s3, s4, s5, s6, s7, s8, s9, s10, s11] _
    refine jb_iload_n (pc' := 20) dX8_chain_19 rfl rfl ?_
    refine jb_iconst (pc' := 21) 2 dX8_chain_20 (by decide) rfl ?_
    refine jb_icmp_ne (tgt := 28) (pc' := 24) dX8_chain_21 (by decide) rfl (fun _ => ?_) (fun z => absurd z (by decide))
    refine jb_bipush (pc' := 30) 50 dX8_chain_28 (by decide) rfl ?_
    refine jb_istore_n_ (pc' := 31) dX8_chain_30 (by decide) (jb_at3 rfl) rfl ?_
    refine jb_iconst (pc' := 32) 0 dX8_chain_31 (by decide) rfl ?_
    refine jb_istore_ (pc' := 34) dX8_chain_32 (by decide) (jb_at4 rfl) rfl ?_
    have ef : f a = (b1, true, (f a).2.2) := jp_eta hb1 hy1
    have eF : jp_lp B n 3 f 50 (f a) = jp_lp B n 3 f 50 (b1, true, (f a).2.2) := congrArg (jp_lp B n 3 f 50) ef
    rw [eF]
    exact l_chain3 imm Tm stkm tpm hB hy8 hn hu q hq5 f hfo D hf rowm w 50 0 b1 (f a).2.2 I19 _ (by omega) (by omega) (by omega) (by rw [hk1]; exact hq1)
  · show jb_J _ RX8 cX8_chain 6 (Option.none : Option Jvm.ClassFile.FieldType) false (D + 1) 0 0 19 [some (.ref 1), some (.int 3), some (.int (nI q)), none, none, none] [] [jb_main imm I19 (va_up Tm 0 (.ref (1000000 + (2 + u)))) (jp_wr rowm w (f a).2.2) stkm tpm, s1, s2, s3, s4, s5, s6, s7, s8, s9, s10, s11] _
    refine jb_iload_n (pc' := 20) dX8_chain_19 rfl rfl ?_
    refine jb_iconst (pc' := 21) 2 dX8_chain_20 (by decide) rfl ?_
    refine jb_icmp_ne (tgt := 28) (pc' := 24) dX8_chain_21 (by decide) rfl (fun _ => ?_) (fun z => absurd z (by decide))
    refine jb_bipush (pc' := 30) 50 dX8_chain_28 (by decide) rfl ?_
    refine jb_istore_n_ (pc' := 31) dX8_chain_30 (by decide) (jb_at3 rfl) rfl ?_
    refine jb_iconst (pc' := 32) 0 dX8_chain_31 (by decide) rfl ?_
    refine jb_istore_ (pc' := 34) dX8_chain_32 (by decide) (jb_at4 rfl) rfl ?_
    refine jb_iload (pc' := 36) dX8_chain_34 rfl rfl ?_
    refine jb_iload_n (pc' := 37) dX8_chain_36 rfl rfl ?_
    refine jb_icmp_ge (tgt := 95) (pc' := 40) dX8_chain_37 (by decide) rfl (fun z => absurd z (by decide)) (fun _ => ?_)
    refine jb_aload_n (pc' := 41) dX8_chain_40 rfl rfl ?_
    refine gf_X8_31 (pc' := 44) (v := .int (I19 3)) dX8_chain_41 rfl rfl rfl ?_
    refine jb_top (v := .int (I19 3)) (w := .int 1) (jb_vI hq1.2.2.2) ?_
    refine jb_if_ne (tgt := 95) (pc' := 47) dX8_chain_44 (by decide) rfl (fun _ => ?_) (fun z => absurd z (by decide))
    refine jb_vret dX8_chain_95 ?_
    have e8 : jp_lp B n 3 f 50 (f a) = f a := jp_lp_no (fun z => by have z1 := z.1; rw [hy1] at z1; cases z1)
    rw [e8]
    exact ⟨rfl, I19, b1, k1, hb1, hk1, Or.inr ⟨hy1, hq1⟩, rfl⟩
set_option maxRecDepth 100000 in
set_option maxHeartbeats 4000000 in
theorem l_chain2 {sc : Nat × (Nat → Int32)} {s1 s2 s3 s4 s5 s6 s7 s8 s9 s10 s11 : List va_E} (imm : Int32) (Tm : Nat → Value) (stkm tpm : Nat → Int32) {B : Nat → Int32} {n u : Nat} (hB : ∀ k, k < n → tpm k = B k) (hy8 : jp_by B n) (hn : n ≤ 50) (hu : u < 2) (q : Nat) (hq5 : q ≤ 5) (f : Nat → jp_R) (hfo : ∀ a, a ≤ n → jp_ok n a (f a)) (D : Nat) (hf : jc_F sc s1 s2 s3 s4 s5 s6 s7 s8 s9 s10 s11 imm Tm stkm tpm n u yX8_chain cX8_chain 6 D [.int 3, .int (nI q)] f) (rowm : Nat → Int32) (w : Nat) : ∀ (k i a : Nat) (c : List Int32) (Im : Nat → Int32) (x5 : Option Value), i + k = 1 → a ≤ n → w + c.length ≤ a → jc_ Im n a (w + c.length) 0 → jb_J sc RX8 cX8_chain 6 (Option.none : Option Jvm.ClassFile.FieldType) false (D + 1) 0 0 34 [some (.ref 1), some (.int 2), some (.int (nI q)), some (.int 1), some (.int (nI i)), x5] [] [jb_main imm Im (va_up Tm 0 (.ref (1000000 + (2 + u)))) (jp_wr rowm w c) stkm tpm, s1, s2, s3, s4, s5, s6, s7, s8, s9, s10, s11] (fun r h9 => r = none ∧ ∃ I9 b9 k9, (jp_lp B n 2 f k (a, true, c)).1 = b9 ∧ (jp_lp B n 2 f k (a, true, c)).2.2.length = k9 ∧ (((jp_lp B n 2 f k (a, true, c)).2.1 = true ∧ jc_ I9 n b9 (w + k9) 0) ∨ ((jp_lp B n 2 f k (a, true, c)).2.1 = false ∧ jc_ I9 n b9 (w + k9) 1)) ∧ h9 = [jb_main imm I9 (va_up Tm 0 (.ref (1000000 + (2 + u)))) (jp_wr rowm w (jp_lp B n 2 f k (a, true, c)).2.2) stkm tpm, s1, s2, s3, s4, s5, s6, s7, s8, s9, s10, s11]) := by
  intro k
  induction k with
  | zero =>
    intro i a c Im x5 hk ha hwa hc
    show jb_J _ RX8 cX8_chain 6 (Option.none : Option Jvm.ClassFile.FieldType) false (D + 1) 0 0 34 [some (.ref 1), some (.int 2), some (.int (nI q)), some (.int 1), some (.int (nI i)), x5] [] [jb_main imm Im (va_up Tm 0 (.ref (1000000 + (2 + u)))) (jp_wr rowm w c) stkm tpm, s1, s2, s3, s4, s5, s6, s7, s8, s9, s10, s11] _
    refine jb_iload (pc' := 36) dX8_chain_34 rfl rfl ?_
    refine jb_iload_n (pc' := 37) dX8_chain_36 rfl rfl ?_
    refine jb_icmp_ge (tgt := 95) (pc' := 40) dX8_chain_37 (by decide) rfl (fun _ => ?_) (fun z => absurd (nI_le (a := 1) (b := i) (by omega) (by omega)) z)
    refine jb_vret dX8_chain_95 ?_
    have e8 : jp_lp B n 2 f 0 (a, true, c) = (a, true, c) := rfl
    rw [e8]
    exact ⟨rfl, Im, a, c.length, rfl, rfl, Or.inl ⟨rfl, hc⟩, rfl⟩
  | succ k ih =>
    intro i a c Im x5 hk ha hwa hc
    rcases jp_c2 (jp_lk B n a) with hs | hs | hs | ⟨-, -, -, hr⟩
    · have ha1 : a < n := jp_in (fun z => by rw [hs] at z; exact absurd z (by decide))
      obtain ⟨q1, q2, q3, q4⟩ := hfo (a + 1) ha1
      show jb_J _ RX8 cX8_chain 6 (Option.none : Option Jvm.ClassFile.FieldType) false (D + 1) 0 0 34 [some (.ref 1), some (.int 2), some (.int (nI q)), some (.int 1), some (.int (nI i)), x5] [] [jb_main imm Im (va_up Tm 0 (.ref (1000000 + (2 + u)))) (jp_wr rowm w c) stkm tpm, s1, s2, s3, s4, s5, s6, s7, s8, s9, s10, s11] _
      refine jb_iload (pc' := 36) dX8_chain_34 rfl rfl ?_
      refine jb_iload_n (pc' := 37) dX8_chain_36 rfl rfl ?_
      refine jb_icmp_ge (tgt := 95) (pc' := 40) dX8_chain_37 (by decide) rfl (fun z => absurd z (nI_ge (a := i) (b := 1) (by omega) (by omega))) (fun _ => ?_)
      refine jb_aload_n (pc' := 41) dX8_chain_40 rfl rfl ?_
      refine gf_X8_31 (pc' := 44) (v := .int (Im 3)) dX8_chain_41 rfl rfl rfl ?_
      refine jb_top (v := .int (Im 3)) (w := .int 0) (jb_vI hc.2.2.2) ?_
      refine jb_if_ne (tgt := 95) (pc' := 47) dX8_chain_44 (by decide) rfl (fun z => absurd (by decide) z) (fun _ => ?_)
      refine jb_aload_n (pc' := 48) dX8_chain_47 rfl rfl ?_
      refine jb_callV (pc' := 51) (ci := 8) (q := 1) (As := []) (a2 := 0) (b2 := 0) wv_X8_67 rfl dX8_chain_48 (c_look imm Tm stkm tpm Im (jp_wr rowm w c) hB hy8 hn hu hc (by omega)) rfl rfl ⟨by omega, Nat.le_of_eq (Nat.zero_add _), Nat.le_of_eq (Nat.zero_add _)⟩ (Nat.le_of_ble_eq_true rfl) rfl (fun r h9 hq => ?_)
      obtain ⟨rfl, rfl⟩ := hq
      rw [hs]
      show jb_J _ RX8 cX8_chain 6 (Option.none : Option Jvm.ClassFile.FieldType) false (D + 1) 0 0 51 [some (.ref 1), some (.int 2), some (.int (nI q)), some (.int 1), some (.int (nI i)), x5] [.int 60] [jb_main imm Im (va_up Tm 0 (.ref (1000000 + (2 + u)))) (jp_wr rowm w c) stkm tpm, s1, s2, s3, s4, s5, s6, s7, s8, s9, s10, s11] _
      refine jb_callS (pc' := 54) (As := [.int 60]) (a2 := 0) (b2 := 0) wv_X8_71 dX8_chain_51 c_rank60 rfl ⟨by omega, Nat.le_of_eq (Nat.zero_add _), Nat.le_of_eq (Nat.zero_add _)⟩ (Nat.le_of_ble_eq_true rfl) rfl (fun r h9 hq => ?_)
      obtain ⟨rfl, rfl⟩ := hq
      show jb_J _ RX8 cX8_chain 6 (Option.none : Option Jvm.ClassFile.FieldType) false (D + 1) 0 0 54 [some (.ref 1), some (.int 2), some (.int (nI q)), some (.int 1), some (.int (nI i)), x5] [.int 2] [jb_main imm Im (va_up Tm 0 (.ref (1000000 + (2 + u)))) (jp_wr rowm w c) stkm tpm, s1, s2, s3, s4, s5, s6, s7, s8, s9, s10, s11] _
      refine jb_iload_n (pc' := 55) dX8_chain_54 rfl rfl ?_
      refine jb_icmp_ne (tgt := 95) (pc' := 58) dX8_chain_55 (by decide) rfl (fun z => absurd (by decide) z) (fun _ => ?_)
      refine jb_aload_n (pc' := 59) dX8_chain_58 rfl rfl ?_
      refine jb_callV (pc' := 62) (ci := 8) (q := 1) (As := []) (a2 := 0) (b2 := 0) wv_X8_67 rfl dX8_chain_59 (c_look imm Tm stkm tpm Im (jp_wr rowm w c) hB hy8 hn hu hc (by omega)) rfl rfl ⟨by omega, Nat.le_of_eq (Nat.zero_add _), Nat.le_of_eq (Nat.zero_add _)⟩ (Nat.le_of_ble_eq_true rfl) rfl (fun r h9 hq => ?_)
      obtain ⟨rfl, rfl⟩ := hq
      rw [hs]
      show jb_J _ RX8 cX8_chain 6 (Option.none : Option Jvm.ClassFile.FieldType) false (D + 1) 0 0 62 [some (.ref 1), some (.int 2), some (.int (nI q)), some (.int 1), some (.int (nI i)), x5] [.int 60] [jb_main imm Im (va_up Tm 0 (.ref (1000000 + (2 + u)))) (jp_wr rowm w c) stkm tpm, s1, s2, s3, s4, s5, s6, s7, s8, s9, s10, s11] _
      refine jb_istore_ (pc' := 64) dX8_chain_62 (by decide) (jb_at5 rfl) rfl ?_
      refine jb_aload_n (pc' := 65) dX8_chain_64 rfl rfl ?_
      refine jb_dup (pc' := 66) dX8_chain_65 rfl rfl ?_
      refine gf_X8_25 (pc' := 69) (v := .int (Im 1)) dX8_chain_66 rfl rfl rfl ?_
      refine jb_top (v := .int (Im 1)) (w := .int (nI a)) (jb_vI hc.2.1) ?_
      refine jb_iconst (pc' := 70) 1 dX8_chain_69 (by decide) rfl ?_
      refine jb_iadd (pc' := 71) dX8_chain_70 rfl ?_
      refine jb_top (v := .int ((nI a) + 1)) (w := .int (nI (a + 1))) (jb_vI (nI_add _ 1)) ?_
      refine pf_X8_25 (pc' := 74) (h' := [jb_main imm (upd Im 1 (nI (a + 1))) (va_up Tm 0 (.ref (1000000 + (2 + u)))) (jp_wr rowm w c) stkm tpm, s1, s2, s3, s4, s5, s6, s7, s8, s9, s10, s11]) dX8_chain_71 (fun _ => ⟨rfl, rfl⟩) rfl (Nat.le_of_ble_eq_true rfl) rfl rfl ?_
      refine jb_aload_n (pc' := 75) dX8_chain_74 rfl rfl ?_
      refine jb_iload_n (pc' := 76) dX8_chain_75 rfl rfl ?_
      refine jb_iconst (pc' := 77) 1 dX8_chain_76 (by decide) rfl ?_
      refine jb_iadd (pc' := 78) dX8_chain_77 rfl ?_
      refine jb_top (v := .int (2 + 1)) (w := .int 3) (jb_vI (by decide)) ?_
      refine jb_iload_n (pc' := 79) dX8_chain_78 rfl rfl ?_
      refine jb_callV (pc' := 82) (ci := 8) (q := 1) (As := [.int 3, .int (nI q)]) (a2 := 0) (b2 := 0) wv_X8_53 rfl dX8_chain_79 (hf (upd Im 1 (nI (a + 1))) (jp_wr rowm w c) (a + 1) (w + c.length) (by omega) (by omega) (hc.at (b := (a + 1)))) rfl rfl ⟨by omega, Nat.le_of_eq (Nat.zero_add _), Nat.le_of_eq (Nat.zero_add _)⟩ (Nat.le_of_ble_eq_true rfl) rfl (fun r h9 hq => ?_)
      rcases hq with ⟨rfl, I19, b1, k1, hb1, hk1, ⟨hy1, hq1⟩ | ⟨hy1, hq1⟩, rfl⟩
      · show jb_J _ RX8 cX8_chain 6 (Option.none : Option Jvm.ClassFile.FieldType) false (D + 1) 0 0 82 [some (.ref 1), some (.int 2), some (.int (nI q)), some (.int 1), some (.int (nI i)), some (.int 60)] [] [jb_main imm I19 (va_up Tm 0 (.ref (1000000 + (2 + u)))) (jp_wr (jp_wr rowm w c) (w + c.length) (f (a + 1)).2.2) stkm tpm, s1, s2, s3, s4, s5, s6, s7, s8, s9, s10, s11] _
        refine jb_aload_n (pc' := 83) dX8_chain_82 rfl rfl ?_
        refine jb_iload (pc' := 85) dX8_chain_83 rfl rfl ?_
        refine jb_ineg (pc' := 86) dX8_chain_85 rfl ?_
        refine jb_callV (pc' := 89) (ci := 8) (q := 1) (As := [.int (-60)]) (a2 := 0) (b2 := 0) wv_X8_75 rfl dX8_chain_86 (c_write imm Tm stkm tpm I19 (jp_wr (jp_wr rowm w c) (w + c.length) (f (a + 1)).2.2) hq1 (by omega) (-60)) rfl rfl ⟨by omega, Nat.le_of_eq (Nat.zero_add _), Nat.le_of_eq (Nat.zero_add _)⟩ (Nat.le_of_ble_eq_true rfl) rfl (fun r h9 hq => ?_)
        obtain ⟨rfl, rfl⟩ := hq
        show jb_J _ RX8 cX8_chain 6 (Option.none : Option Jvm.ClassFile.FieldType) false (D + 1) 0 0 89 [some (.ref 1), some (.int 2), some (.int (nI q)), some (.int 1), some (.int (nI i)), some (.int 60)] [] [jb_main imm (upd I19 2 (nI (((w + c.length) + k1) + 1))) (va_up Tm 0 (.ref (1000000 + (2 + u)))) (upd (jp_wr (jp_wr rowm w c) (w + c.length) (f (a + 1)).2.2) ((w + c.length) + k1) (-60)) stkm tpm, s1, s2, s3, s4, s5, s6, s7, s8, s9, s10, s11] _
        refine jb_iinc_ (pc' := 92) (nI (i + 1)) dX8_chain_89 (by decide) rfl (jb_inc i 1) (jb_at4 rfl) rfl ?_
        refine jb_goto (pc' := 34) dX8_chain_92 (by decide) ?_
        refine jb_heap (h' := [jb_main imm (upd I19 2 (nI (((w + c.length) + k1) + 1))) (va_up Tm 0 (.ref (1000000 + (2 + u)))) (jp_wr rowm w (c ++ (f (a + 1)).2.2 ++ [-60])) stkm tpm, s1, s2, s3, s4, s5, s6, s7, s8, s9, s10, s11]) (by rw [← jp_wr_bin rowm w c (f (a + 1)).2.2 (-60) (v := w + c.length + k1) (by rw [hk1])]) ?_
        have e9 : jp_lp B n 2 f (k + 1) (a, true, c) = jp_lp B n 2 f k (b1, true, (c ++ (f (a + 1)).2.2 ++ [-60])) := by
          refine (jp_lp_go (x := (a, true, c)) rfl hs (by decide)).trans ?_
          show jp_lp B n 2 f k ((f (a + 1)).1, (f (a + 1)).2.1, c ++ (f (a + 1)).2.2 ++ [-60]) = _
          rw [hb1, hy1]
        rw [e9]
        have lc := (show (c ++ (f (a + 1)).2.2 ++ [-60]).length = c.length + k1 + 1 by rw [List.length_append, List.length_append, hk1]; rfl)
        exact ih (i + 1) b1 (c ++ (f (a + 1)).2.2 ++ [-60]) (upd I19 2 (nI (((w + c.length) + k1) + 1))) _ (by omega) (by omega) (by omega) (by rw [lc, show w + (c.length + k1 + 1) = w + c.length + k1 + 1 by omega]; exact (hq1.wr (b := (((w + c.length) + k1) + 1))))
      · show jb_J _ RX8 cX8_chain 6 (Option.none : Option Jvm.ClassFile.FieldType) false (D + 1) 0 0 82 [some (.ref 1), some (.int 2), some (.int (nI q)), some (.int 1), some (.int (nI i)), some (.int 60)] [] [jb_main imm I19 (va_up Tm 0 (.ref (1000000 + (2 + u)))) (jp_wr (jp_wr rowm w c) (w + c.length) (f (a + 1)).2.2) stkm tpm, s1, s2, s3, s4, s5, s6, s7, s8, s9, s10, s11] _
        refine jb_aload_n (pc' := 83) dX8_chain_82 rfl rfl ?_
        refine jb_iload (pc' := 85) dX8_chain_83 rfl rfl ?_
        refine jb_ineg (pc' := 86) dX8_chain_85 rfl ?_
        refine jb_callV (pc' := 89) (ci := 8) (q := 1) (As := [.int (-60)]) (a2 := 0) (b2 := 0) wv_X8_75 rfl dX8_chain_86 (c_write imm Tm stkm tpm I19 (jp_wr (jp_wr rowm w c) (w + c.length) (f (a + 1)).2.2) hq1 (by omega) (-60)) rfl rfl ⟨by omega, Nat.le_of_eq (Nat.zero_add _), Nat.le_of_eq (Nat.zero_add _)⟩ (Nat.le_of_ble_eq_true rfl) rfl (fun r h9 hq => ?_)
        obtain ⟨rfl, rfl⟩ := hq
        show jb_J _ RX8 cX8_chain 6 (Option.none : Option Jvm.ClassFile.FieldType) false (D + 1) 0 0 89 [some (.ref 1), some (.int 2), some (.int (nI q)), some (.int 1), some (.int (nI i)), some (.int 60)] [] [jb_main imm (upd I19 2 (nI (((w + c.length) + k1) + 1))) (va_up Tm 0 (.ref (1000000 + (2 + u)))) (upd (jp_wr (jp_wr rowm w c) (w + c.length) (f (a + 1)).2.2) ((w + c.length) + k1) (-60)) stkm tpm, s1, s2, s3, s4, s5, s6, s7, s8, s9, s10, s11] _
        refine jb_iinc_ (pc' := 92) (nI (i + 1)) dX8_chain_89 (by decide) rfl (jb_inc i 1) (jb_at4 rfl) rfl ?_
        refine jb_goto (pc' := 34) dX8_chain_92 (by decide) ?_
        refine jb_heap (h' := [jb_main imm (upd I19 2 (nI (((w + c.length) + k1) + 1))) (va_up Tm 0 (.ref (1000000 + (2 + u)))) (jp_wr rowm w (c ++ (f (a + 1)).2.2 ++ [-60])) stkm tpm, s1, s2, s3, s4, s5, s6, s7, s8, s9, s10, s11]) (by rw [← jp_wr_bin rowm w c (f (a + 1)).2.2 (-60) (v := w + c.length + k1) (by rw [hk1])]) ?_
        refine jb_iload (pc' := 36) dX8_chain_34 rfl rfl ?_
        refine jb_iload_n (pc' := 37) dX8_chain_36 rfl rfl ?_
        refine jb_icmp_ge (tgt := 95) (pc' := 40) dX8_chain_37 (by decide) rfl (fun c4 => ?_) (fun c4 => ?_)
        · refine jb_vret dX8_chain_95 ?_
          have e8 : jp_lp B n 2 f (k + 1) (a, true, c) = (b1, false, (c ++ (f (a + 1)).2.2 ++ [-60])) := by
            refine (jp_lp_go (x := (a, true, c)) rfl hs (by decide)).trans ?_
            refine (jp_lp_no (fun z => ?_)).trans ?_
            · have z1 : (f (a + 1)).2.1 = true := z.1
              rw [hy1] at z1; cases z1
            · show ((f (a + 1)).1, (f (a + 1)).2.1, c ++ (f (a + 1)).2.2 ++ [-60]) = _
              rw [hb1, hy1]
          rw [e8]
          exact ⟨rfl, (upd I19 2 (nI (((w + c.length) + k1) + 1))), b1, c.length + k1 + 1, rfl, (show (c ++ (f (a + 1)).2.2 ++ [-60]).length = c.length + k1 + 1 by rw [List.length_append, List.length_append, hk1]; rfl), Or.inr ⟨rfl, by rw [show w + (c.length + k1 + 1) = w + c.length + k1 + 1 by omega]; exact (hq1.wr (b := (((w + c.length) + k1) + 1)))⟩, rfl⟩
        · refine jb_aload_n (pc' := 41) dX8_chain_40 rfl rfl ?_
          refine gf_X8_31 (pc' := 44) (v := .int ((upd I19 2 (nI (((w + c.length) + k1) + 1))) 3)) dX8_chain_41 rfl rfl rfl ?_
          refine jb_top (v := .int ((upd I19 2 (nI (((w + c.length) + k1) + 1))) 3)) (w := .int 1) (jb_vI (hq1.wr (b := (((w + c.length) + k1) + 1))).2.2.2) ?_
          refine jb_if_ne (tgt := 95) (pc' := 47) dX8_chain_44 (by decide) rfl (fun _ => ?_) (fun z => absurd z (by decide))
          refine jb_vret dX8_chain_95 ?_
          have e8 : jp_lp B n 2 f (k + 1) (a, true, c) = (b1, false, (c ++ (f (a + 1)).2.2 ++ [-60])) := by
            refine (jp_lp_go (x := (a, true, c)) rfl hs (by decide)).trans ?_
            refine (jp_lp_no (fun z => ?_)).trans ?_
            · have z1 : (f (a + 1)).2.1 = true := z.1
              rw [hy1] at z1; cases z1
            · show ((f (a + 1)).1, (f (a + 1)).2.1, c ++ (f (a + 1)).2.2 ++ [-60]) = _
              rw [hb1, hy1]
          rw [e8]
          exact ⟨rfl, (upd I19 2 (nI (((w + c.length) + k1) + 1))), b1, c.length + k1 + 1, rfl, (show (c ++ (f (a + 1)).2.2 ++ [-60]).length = c.length + k1 + 1 by rw [List.length_append, List.length_append, hk1]; rfl), Or.inr ⟨rfl, by rw [show w + (c.length + k1 + 1) = w + c.length + k1 + 1 by omega]; exact (hq1.wr (b := (((w + c.length) + k1) + 1)))⟩, rfl⟩
    · have ha1 : a < n := jp_in (fun z => by rw [hs] at z; exact absurd z (by decide))
      obtain ⟨q1, q2, q3, q4⟩ := hfo (a + 1) ha1
      show jb_J _ RX8 cX8_chain 6 (Option.none : Option Jvm.ClassFile.FieldType) false (D + 1) 0 0 34 [some (.ref 1), some (.int 2), some (.int (nI q)), some (.int 1), some (.int (nI i)), x5] [] [jb_main imm Im (va_up Tm 0 (.ref (1000000 + (2 + u)))) (jp_wr rowm w c) stkm tpm, s1, s2, s3, s4, s5, s6, s7, s8, s9, s10, s11] _
      refine jb_iload (pc' := 36) dX8_chain_34 rfl rfl ?_
      refine jb_iload_n (pc' := 37) dX8_chain_36 rfl rfl ?_
      refine jb_icmp_ge (tgt := 95) (pc' := 40) dX8_chain_37 (by decide) rfl (fun z => absurd z (nI_ge (a := i) (b := 1) (by omega) (by omega))) (fun _ => ?_)
      refine jb_aload_n (pc' := 41) dX8_chain_40 rfl rfl ?_
      refine gf_X8_31 (pc' := 44) (v := .int (Im 3)) dX8_chain_41 rfl rfl rfl ?_
      refine jb_top (v := .int (Im 3)) (w := .int 0) (jb_vI hc.2.2.2) ?_
      refine jb_if_ne (tgt := 95) (pc' := 47) dX8_chain_44 (by decide) rfl (fun z => absurd (by decide) z) (fun _ => ?_)
      refine jb_aload_n (pc' := 48) dX8_chain_47 rfl rfl ?_
      refine jb_callV (pc' := 51) (ci := 8) (q := 1) (As := []) (a2 := 0) (b2 := 0) wv_X8_67 rfl dX8_chain_48 (c_look imm Tm stkm tpm Im (jp_wr rowm w c) hB hy8 hn hu hc (by omega)) rfl rfl ⟨by omega, Nat.le_of_eq (Nat.zero_add _), Nat.le_of_eq (Nat.zero_add _)⟩ (Nat.le_of_ble_eq_true rfl) rfl (fun r h9 hq => ?_)
      obtain ⟨rfl, rfl⟩ := hq
      rw [hs]
      show jb_J _ RX8 cX8_chain 6 (Option.none : Option Jvm.ClassFile.FieldType) false (D + 1) 0 0 51 [some (.ref 1), some (.int 2), some (.int (nI q)), some (.int 1), some (.int (nI i)), x5] [.int 61] [jb_main imm Im (va_up Tm 0 (.ref (1000000 + (2 + u)))) (jp_wr rowm w c) stkm tpm, s1, s2, s3, s4, s5, s6, s7, s8, s9, s10, s11] _
      refine jb_callS (pc' := 54) (As := [.int 61]) (a2 := 0) (b2 := 0) wv_X8_71 dX8_chain_51 c_rank61 rfl ⟨by omega, Nat.le_of_eq (Nat.zero_add _), Nat.le_of_eq (Nat.zero_add _)⟩ (Nat.le_of_ble_eq_true rfl) rfl (fun r h9 hq => ?_)
      obtain ⟨rfl, rfl⟩ := hq
      show jb_J _ RX8 cX8_chain 6 (Option.none : Option Jvm.ClassFile.FieldType) false (D + 1) 0 0 54 [some (.ref 1), some (.int 2), some (.int (nI q)), some (.int 1), some (.int (nI i)), x5] [.int 2] [jb_main imm Im (va_up Tm 0 (.ref (1000000 + (2 + u)))) (jp_wr rowm w c) stkm tpm, s1, s2, s3, s4, s5, s6, s7, s8, s9, s10, s11] _
      refine jb_iload_n (pc' := 55) dX8_chain_54 rfl rfl ?_
      refine jb_icmp_ne (tgt := 95) (pc' := 58) dX8_chain_55 (by decide) rfl (fun z => absurd (by decide) z) (fun _ => ?_)
      refine jb_aload_n (pc' := 59) dX8_chain_58 rfl rfl ?_
      refine jb_callV (pc' := 62) (ci := 8) (q := 1) (As := []) (a2 := 0) (b2 := 0) wv_X8_67 rfl dX8_chain_59 (c_look imm Tm stkm tpm Im (jp_wr rowm w c) hB hy8 hn hu hc (by omega)) rfl rfl ⟨by omega, Nat.le_of_eq (Nat.zero_add _), Nat.le_of_eq (Nat.zero_add _)⟩ (Nat.le_of_ble_eq_true rfl) rfl (fun r h9 hq => ?_)
      obtain ⟨rfl, rfl⟩ := hq
      rw [hs]
      show jb_J _ RX8 cX8_chain 6 (Option.none : Option Jvm.ClassFile.FieldType) false (D + 1) 0 0 62 [some (.ref 1), some (.int 2), some (.int (nI q)), some (.int 1), some (.int (nI i)), x5] [.int 61] [jb_main imm Im (va_up Tm 0 (.ref (1000000 + (2 + u)))) (jp_wr rowm w c) stkm tpm, s1, s2, s3, s4, s5, s6, s7, s8, s9, s10, s11] _
      refine jb_istore_ (pc' := 64) dX8_chain_62 (by decide) (jb_at5 rfl) rfl ?_
      refine jb_aload_n (pc' := 65) dX8_chain_64 rfl rfl ?_
      refine jb_dup (pc' := 66) dX8_chain_65 rfl rfl ?_
      refine gf_X8_25 (pc' := 69) (v := .int (Im 1)) dX8_chain_66 rfl rfl rfl ?_
      refine jb_top (v := .int (Im 1)) (w := .int (nI a)) (jb_vI hc.2.1) ?_
      refine jb_iconst (pc' := 70) 1 dX8_chain_69 (by decide) rfl ?_
      refine jb_iadd (pc' := 71) dX8_chain_70 rfl ?_
      refine jb_top (v := .int ((nI a) + 1)) (w := .int (nI (a + 1))) (jb_vI (nI_add _ 1)) ?_
      refine pf_X8_25 (pc' := 74) (h' := [jb_main imm (upd Im 1 (nI (a + 1))) (va_up Tm 0 (.ref (1000000 + (2 + u)))) (jp_wr rowm w c) stkm tpm, s1, s2, s3, s4, s5, s6, s7, s8, s9, s10, s11]) dX8_chain_71 (fun _ => ⟨rfl, rfl⟩) rfl (Nat.le_of_ble_eq_true rfl) rfl rfl ?_
      refine jb_aload_n (pc' := 75) dX8_chain_74 rfl rfl ?_
      refine jb_iload_n (pc' := 76) dX8_chain_75 rfl rfl ?_
      refine jb_iconst (pc' := 77) 1 dX8_chain_76 (by decide) rfl ?_
      refine jb_iadd (pc' := 78) dX8_chain_77 rfl ?_
      refine jb_top (v := .int (2 + 1)) (w := .int 3) (jb_vI (by decide)) ?_
      refine jb_iload_n (pc' := 79) dX8_chain_78 rfl rfl ?_
      refine jb_callV (pc' := 82) (ci := 8) (q := 1) (As := [.int 3, .int (nI q)]) (a2 := 0) (b2 := 0) wv_X8_53 rfl dX8_chain_79 (hf (upd Im 1 (nI (a + 1))) (jp_wr rowm w c) (a + 1) (w + c.length) (by omega) (by omega) (hc.at (b := (a + 1)))) rfl rfl ⟨by omega, Nat.le_of_eq (Nat.zero_add _), Nat.le_of_eq (Nat.zero_add _)⟩ (Nat.le_of_ble_eq_true rfl) rfl (fun r h9 hq => ?_)
      rcases hq with ⟨rfl, I19, b1, k1, hb1, hk1, ⟨hy1, hq1⟩ | ⟨hy1, hq1⟩, rfl⟩
      · show jb_J _ RX8 cX8_chain 6 (Option.none : Option Jvm.ClassFile.FieldType) false (D + 1) 0 0 82 [some (.ref 1), some (.int 2), some (.int (nI q)), some (.int 1), some (.int (nI i)), some (.int 61)] [] [jb_main imm I19 (va_up Tm 0 (.ref (1000000 + (2 + u)))) (jp_wr (jp_wr rowm w c) (w + c.length) (f (a + 1)).2.2) stkm tpm, s1, s2, s3, s4, s5, s6, s7, s8, s9, s10, s11] _
        refine jb_aload_n (pc' := 83) dX8_chain_82 rfl rfl ?_
        refine jb_iload (pc' := 85) dX8_chain_83 rfl rfl ?_
        refine jb_ineg (pc' := 86) dX8_chain_85 rfl ?_
        refine jb_callV (pc' := 89) (ci := 8) (q := 1) (As := [.int (-61)]) (a2 := 0) (b2 := 0) wv_X8_75 rfl dX8_chain_86 (c_write imm Tm stkm tpm I19 (jp_wr (jp_wr rowm w c) (w + c.length) (f (a + 1)).2.2) hq1 (by omega) (-61)) rfl rfl ⟨by omega, Nat.le_of_eq (Nat.zero_add _), Nat.le_of_eq (Nat.zero_add _)⟩ (Nat.le_of_ble_eq_true rfl) rfl (fun r h9 hq => ?_)
        obtain ⟨rfl, rfl⟩ := hq
        show jb_J _ RX8 cX8_chain 6 (Option.none : Option Jvm.ClassFile.FieldType) false (D + 1) 0 0 89 [some (.ref 1), some (.int 2), some (.int (nI q)), some (.int 1), some (.int (nI i)), some (.int 61)] [] [jb_main imm (upd I19 2 (nI (((w + c.length) + k1) + 1))) (va_up Tm 0 (.ref (1000000 + (2 + u)))) (upd (jp_wr (jp_wr rowm w c) (w + c.length) (f (a + 1)).2.2) ((w + c.length) + k1) (-61)) stkm tpm, s1, s2, s3, s4, s5, s6, s7, s8, s9, s10, s11] _
        refine jb_iinc_ (pc' := 92) (nI (i + 1)) dX8_chain_89 (by decide) rfl (jb_inc i 1) (jb_at4 rfl) rfl ?_
        refine jb_goto (pc' := 34) dX8_chain_92 (by decide) ?_
        refine jb_heap (h' := [jb_main imm (upd I19 2 (nI (((w + c.length) + k1) + 1))) (va_up Tm 0 (.ref (1000000 + (2 + u)))) (jp_wr rowm w (c ++ (f (a + 1)).2.2 ++ [-61])) stkm tpm, s1, s2, s3, s4, s5, s6, s7, s8, s9, s10, s11]) (by rw [← jp_wr_bin rowm w c (f (a + 1)).2.2 (-61) (v := w + c.length + k1) (by rw [hk1])]) ?_
        have e9 : jp_lp B n 2 f (k + 1) (a, true, c) = jp_lp B n 2 f k (b1, true, (c ++ (f (a + 1)).2.2 ++ [-61])) := by
          refine (jp_lp_go (x := (a, true, c)) rfl hs (by decide)).trans ?_
          show jp_lp B n 2 f k ((f (a + 1)).1, (f (a + 1)).2.1, c ++ (f (a + 1)).2.2 ++ [-61]) = _
          rw [hb1, hy1]
        rw [e9]
        have lc := (show (c ++ (f (a + 1)).2.2 ++ [-61]).length = c.length + k1 + 1 by rw [List.length_append, List.length_append, hk1]; rfl)
        exact ih (i + 1) b1 (c ++ (f (a + 1)).2.2 ++ [-61]) (upd I19 2 (nI (((w + c.length) + k1) + 1))) _ (by omega) (by omega) (by omega) (by rw [lc, show w + (c.length + k1 + 1) = w + c.length + k1 + 1 by omega]; exact (hq1.wr (b := (((w + c.length) + k1) + 1))))
      · show jb_J _ RX8 cX8_chain 6 (Option.none : Option Jvm.ClassFile.FieldType) false (D + 1) 0 0 82 [some (.ref 1), some (.int 2), some (.int (nI q)), some (.int 1), some (.int (nI i)), some (.int 61)] [] [jb_main imm I19 (va_up Tm 0 (.ref (1000000 + (2 + u)))) (jp_wr (jp_wr rowm w c) (w + c.length) (f (a + 1)).2.2) stkm tpm, s1, s2, s3, s4, s5, s6, s7, s8, s9, s10, s11] _
        refine jb_aload_n (pc' := 83) dX8_chain_82 rfl rfl ?_
        refine jb_iload (pc' := 85) dX8_chain_83 rfl rfl ?_
        refine jb_ineg (pc' := 86) dX8_chain_85 rfl ?_
        refine jb_callV (pc' := 89) (ci := 8) (q := 1) (As := [.int (-61)]) (a2 := 0) (b2 := 0) wv_X8_75 rfl dX8_chain_86 (c_write imm Tm stkm tpm I19 (jp_wr (jp_wr rowm w c) (w + c.length) (f (a + 1)).2.2) hq1 (by omega) (-61)) rfl rfl ⟨by omega, Nat.le_of_eq (Nat.zero_add _), Nat.le_of_eq (Nat.zero_add _)⟩ (Nat.le_of_ble_eq_true rfl) rfl (fun r h9 hq => ?_)
        obtain ⟨rfl, rfl⟩ := hq
        show jb_J _ RX8 cX8_chain 6 (Option.none : Option Jvm.ClassFile.FieldType) false (D + 1) 0 0 89 [some (.ref 1), some (.int 2), some (.int (nI q)), some (.int 1), some (.int (nI i)), some (.int 61)] [] [jb_main imm (upd I19 2 (nI (((w + c.length) + k1) + 1))) (va_up Tm 0 (.ref (1000000 + (2 + u)))) (upd (jp_wr (jp_wr rowm w c) (w + c.length) (f (a + 1)).2.2) ((w + c.length) + k1) (-61)) stkm tpm, s1, s2, s3, s4, s5, s6, s7, s8, s9, s10, s11] _
        refine jb_iinc_ (pc' := 92) (nI (i + 1)) dX8_chain_89 (by decide) rfl (jb_inc i 1) (jb_at4 rfl) rfl ?_
        refine jb_goto (pc' := 34) dX8_chain_92 (by decide) ?_
        refine jb_heap (h' := [jb_main imm (upd I19 2 (nI (((w + c.length) + k1) + 1))) (va_up Tm 0 (.ref (1000000 + (2 + u)))) (jp_wr rowm w (c ++ (f (a + 1)).2.2 ++ [-61])) stkm tpm, s1, s2, s3, s4, s5, s6, s7, s8, s9, s10, s11]) (by rw [← jp_wr_bin rowm w c (f (a + 1)).2.2 (-61) (v := w + c.length + k1) (by rw [hk1])]) ?_
        refine jb_iload (pc' := 36) dX8_chain_34 rfl rfl ?_
        refine jb_iload_n (pc' := 37) dX8_chain_36 rfl rfl ?_
        refine jb_icmp_ge (tgt := 95) (pc' := 40) dX8_chain_37 (by decide) rfl (fun c4 => ?_) (fun c4 => ?_)
        · refine jb_vret dX8_chain_95 ?_
          have e8 : jp_lp B n 2 f (k + 1) (a, true, c) = (b1, false, (c ++ (f (a + 1)).2.2 ++ [-61])) := by
            refine (jp_lp_go (x := (a, true, c)) rfl hs (by decide)).trans ?_
            refine (jp_lp_no (fun z => ?_)).trans ?_
            · have z1 : (f (a + 1)).2.1 = true := z.1
              rw [hy1] at z1; cases z1
            · show ((f (a + 1)).1, (f (a + 1)).2.1, c ++ (f (a + 1)).2.2 ++ [-61]) = _
              rw [hb1, hy1]
          rw [e8]
          exact ⟨rfl, (upd I19 2 (nI (((w + c.length) + k1) + 1))), b1, c.length + k1 + 1, rfl, (show (c ++ (f (a + 1)).2.2 ++ [-61]).length = c.length + k1 + 1 by rw [List.length_append, List.length_append, hk1]; rfl), Or.inr ⟨rfl, by rw [show w + (c.length + k1 + 1) = w + c.length + k1 + 1 by omega]; exact (hq1.wr (b := (((w + c.length) + k1) + 1)))⟩, rfl⟩
        · refine jb_aload_n (pc' := 41) dX8_chain_40 rfl rfl ?_
          refine gf_X8_31 (pc' := 44) (v := .int ((upd I19 2 (nI (((w + c.length) + k1) + 1))) 3)) dX8_chain_41 rfl rfl rfl ?_
          refine jb_top (v := .int ((upd I19 2 (nI (((w + c.length) + k1) + 1))) 3)) (w := .int 1) (jb_vI (hq1.wr (b := (((w + c.length) + k1) + 1))).2.2.2) ?_
          refine jb_if_ne (tgt := 95) (pc' := 47) dX8_chain_44 (by decide) rfl (fun _ => ?_) (fun z => absurd z (by decide))
          refine jb_vret dX8_chain_95 ?_
          have e8 : jp_lp B n 2 f (k + 1) (a, true, c) = (b1, false, (c ++ (f (a + 1)).2.2 ++ [-61])) := by
            refine (jp_lp_go (x := (a, true, c)) rfl hs (by decide)).trans ?_
            refine (jp_lp_no (fun z => ?_)).trans ?_
            · have z1 : (f (a + 1)).2.1 = true := z.1
              rw [hy1] at z1; cases z1
            · show ((f (a + 1)).1, (f (a + 1)).2.1, c ++ (f (a + 1)).2.2 ++ [-61]) = _
              rw [hb1, hy1]
          rw [e8]
          exact ⟨rfl, (upd I19 2 (nI (((w + c.length) + k1) + 1))), b1, c.length + k1 + 1, rfl, (show (c ++ (f (a + 1)).2.2 ++ [-61]).length = c.length + k1 + 1 by rw [List.length_append, List.length_append, hk1]; rfl), Or.inr ⟨rfl, by rw [show w + (c.length + k1 + 1) = w + c.length + k1 + 1 by omega]; exact (hq1.wr (b := (((w + c.length) + k1) + 1)))⟩, rfl⟩
    · have ha1 : a < n := jp_in (fun z => by rw [hs] at z; exact absurd z (by decide))
      obtain ⟨q1, q2, q3, q4⟩ := hfo (a + 1) ha1
      show jb_J _ RX8 cX8_chain 6 (Option.none : Option Jvm.ClassFile.FieldType) false (D + 1) 0 0 34 [some (.ref 1), some (.int 2), some (.int (nI q)), some (.int 1), some (.int (nI i)), x5] [] [jb_main imm Im (va_up Tm 0 (.ref (1000000 + (2 + u)))) (jp_wr rowm w c) stkm tpm, s1, s2, s3, s4, s5, s6, s7, s8, s9, s10, s11] _
      refine jb_iload (pc' := 36) dX8_chain_34 rfl rfl ?_
      refine jb_iload_n (pc' := 37) dX8_chain_36 rfl rfl ?_
      refine jb_icmp_ge (tgt := 95) (pc' := 40) dX8_chain_37 (by decide) rfl (fun z => absurd z (nI_ge (a := i) (b := 1) (by omega) (by omega))) (fun _ => ?_)
      refine jb_aload_n (pc' := 41) dX8_chain_40 rfl rfl ?_
      refine gf_X8_31 (pc' := 44) (v := .int (Im 3)) dX8_chain_41 rfl rfl rfl ?_
      refine jb_top (v := .int (Im 3)) (w := .int 0) (jb_vI hc.2.2.2) ?_
      refine jb_if_ne (tgt := 95) (pc' := 47) dX8_chain_44 (by decide) rfl (fun z => absurd (by decide) z) (fun _ => ?_)
      refine jb_aload_n (pc' := 48) dX8_chain_47 rfl rfl ?_
      refine jb_callV (pc' := 51) (ci := 8) (q := 1) (As := []) (a2 := 0) (b2 := 0) wv_X8_67 rfl dX8_chain_48 (c_look imm Tm stkm tpm Im (jp_wr rowm w c) hB hy8 hn hu hc (by omega)) rfl rfl ⟨by omega, Nat.le_of_eq (Nat.zero_add _), Nat.le_of_eq (Nat.zero_add _)⟩ (Nat.le_of_ble_eq_true rfl) rfl (fun r h9 hq => ?_)
      obtain ⟨rfl, rfl⟩ := hq
      rw [hs]
      show jb_J _ RX8 cX8_chain 6 (Option.none : Option Jvm.ClassFile.FieldType) false (D + 1) 0 0 51 [some (.ref 1), some (.int 2), some (.int (nI q)), some (.int 1), some (.int (nI i)), x5] [.int 62] [jb_main imm Im (va_up Tm 0 (.ref (1000000 + (2 + u)))) (jp_wr rowm w c) stkm tpm, s1, s2, s3, s4, s5, s6, s7, s8, s9, s10, s11] _
      refine jb_callS (pc' := 54) (As := [.int 62]) (a2 := 0) (b2 := 0) wv_X8_71 dX8_chain_51 c_rank62 rfl ⟨by omega, Nat.le_of_eq (Nat.zero_add _), Nat.le_of_eq (Nat.zero_add _)⟩ (Nat.le_of_ble_eq_true rfl) rfl (fun r h9 hq => ?_)
      obtain ⟨rfl, rfl⟩ := hq
      show jb_J _ RX8 cX8_chain 6 (Option.none : Option Jvm.ClassFile.FieldType) false (D + 1) 0 0 54 [some (.ref 1), some (.int 2), some (.int (nI q)), some (.int 1), some (.int (nI i)), x5] [.int 2] [jb_main imm Im (va_up Tm 0 (.ref (1000000 + (2 + u)))) (jp_wr rowm w c) stkm tpm, s1, s2, s3, s4, s5, s6, s7, s8, s9, s10, s11] _
      refine jb_iload_n (pc' := 55) dX8_chain_54 rfl rfl ?_
      refine jb_icmp_ne (tgt := 95) (pc' := 58) dX8_chain_55 (by decide) rfl (fun z => absurd (by decide) z) (fun _ => ?_)
      refine jb_aload_n (pc' := 59) dX8_chain_58 rfl rfl ?_
      refine jb_callV (pc' := 62) (ci := 8) (q := 1) (As := []) (a2 := 0) (b2 := 0) wv_X8_67 rfl dX8_chain_59 (c_look imm Tm stkm tpm Im (jp_wr rowm w c) hB hy8 hn hu hc (by omega)) rfl rfl ⟨by omega, Nat.le_of_eq (Nat.zero_add _), Nat.le_of_eq (Nat.zero_add _)⟩ (Nat.le_of_ble_eq_true rfl) rfl (fun r h9 hq => ?_)
      obtain ⟨rfl, rfl⟩ := hq
      rw [hs]
      show jb_J _ RX8 cX8_chain 6 (Option.none : Option Jvm.ClassFile.FieldType) false (D + 1) 0 0 62 [some (.ref 1), some (.int 2), some (.int (nI q)), some (.int 1), some (.int (nI i)), x5] [.int 62] [jb_main imm Im (va_up Tm 0 (.ref (1000000 + (2 + u)))) (jp_wr rowm w c) stkm tpm, s1, s2, s3, s4, s5, s6, s7, s8, s9, s10, s11] _
      refine jb_istore_ (pc' := 64) dX8_chain_62 (by decide) (jb_at5 rfl) rfl ?_
      refine jb_aload_n (pc' := 65) dX8_chain_64 rfl rfl ?_
      refine jb_dup (pc' := 66) dX8_chain_65 rfl rfl ?_
      refine gf_X8_25 (pc' := 69) (v := .int (Im 1)) dX8_chain_66 rfl rfl rfl ?_
      refine jb_top (v := .int (Im 1)) (w := .int (nI a)) (jb_vI hc.2.1) ?_
      refine jb_iconst (pc' := 70) 1 dX8_chain_69 (by decide) rfl ?_
      refine jb_iadd (pc' := 71) dX8_chain_70 rfl ?_
      refine jb_top (v := .int ((nI a) + 1)) (w := .int (nI (a + 1))) (jb_vI (nI_add _ 1)) ?_
      refine pf_X8_25 (pc' := 74) (h' := [jb_main imm (upd Im 1 (nI (a + 1))) (va_up Tm 0 (.ref (1000000 + (2 + u)))) (jp_wr rowm w c) stkm tpm, s1, s2, s3, s4, s5, s6, s7, s8, s9, s10, s11]) dX8_chain_71 (fun _ => ⟨rfl, rfl⟩) rfl (Nat.le_of_ble_eq_true rfl) rfl rfl ?_
      refine jb_aload_n (pc' := 75) dX8_chain_74 rfl rfl ?_
      refine jb_iload_n (pc' := 76) dX8_chain_75 rfl rfl ?_
      refine jb_iconst (pc' := 77) 1 dX8_chain_76 (by decide) rfl ?_
      refine jb_iadd (pc' := 78) dX8_chain_77 rfl ?_
      refine jb_top (v := .int (2 + 1)) (w := .int 3) (jb_vI (by decide)) ?_
      refine jb_iload_n (pc' := 79) dX8_chain_78 rfl rfl ?_
      refine jb_callV (pc' := 82) (ci := 8) (q := 1) (As := [.int 3, .int (nI q)]) (a2 := 0) (b2 := 0) wv_X8_53 rfl dX8_chain_79 (hf (upd Im 1 (nI (a + 1))) (jp_wr rowm w c) (a + 1) (w + c.length) (by omega) (by omega) (hc.at (b := (a + 1)))) rfl rfl ⟨by omega, Nat.le_of_eq (Nat.zero_add _), Nat.le_of_eq (Nat.zero_add _)⟩ (Nat.le_of_ble_eq_true rfl) rfl (fun r h9 hq => ?_)
      rcases hq with ⟨rfl, I19, b1, k1, hb1, hk1, ⟨hy1, hq1⟩ | ⟨hy1, hq1⟩, rfl⟩
      · show jb_J _ RX8 cX8_chain 6 (Option.none : Option Jvm.ClassFile.FieldType) false (D + 1) 0 0 82 [some (.ref 1), some (.int 2), some (.int (nI q)), some (.int 1), some (.int (nI i)), some (.int 62)] [] [jb_main imm I19 (va_up Tm 0 (.ref (1000000 + (2 + u)))) (jp_wr (jp_wr rowm w c) (w + c.length) (f (a + 1)).2.2) stkm tpm, s1, s2, s3, s4, s5, s6, s7, s8, s9, s10, s11] _
        refine jb_aload_n (pc' := 83) dX8_chain_82 rfl rfl ?_
        refine jb_iload (pc' := 85) dX8_chain_83 rfl rfl ?_
        refine jb_ineg (pc' := 86) dX8_chain_85 rfl ?_
        refine jb_callV (pc' := 89) (ci := 8) (q := 1) (As := [.int (-62)]) (a2 := 0) (b2 := 0) wv_X8_75 rfl dX8_chain_86 (c_write imm Tm stkm tpm I19 (jp_wr (jp_wr rowm w c) (w + c.length) (f (a + 1)).2.2) hq1 (by omega) (-62)) rfl rfl ⟨by omega, Nat.le_of_eq (Nat.zero_add _), Nat.le_of_eq (Nat.zero_add _)⟩ (Nat.le_of_ble_eq_true rfl) rfl (fun r h9 hq => ?_)
        obtain ⟨rfl, rfl⟩ := hq
        show jb_J _ RX8 cX8_chain 6 (Option.none : Option Jvm.ClassFile.FieldType) false (D + 1) 0 0 89 [some (.ref 1), some (.int 2), some (.int (nI q)), some (.int 1), some (.int (nI i)), some (.int 62)] [] [jb_main imm (upd I19 2 (nI (((w + c.length) + k1) + 1))) (va_up Tm 0 (.ref (1000000 + (2 + u)))) (upd (jp_wr (jp_wr rowm w c) (w + c.length) (f (a + 1)).2.2) ((w + c.length) + k1) (-62)) stkm tpm, s1, s2, s3, s4, s5, s6, s7, s8, s9, s10, s11] _
        refine jb_iinc_ (pc' := 92) (nI (i + 1)) dX8_chain_89 (by decide) rfl (jb_inc i 1) (jb_at4 rfl) rfl ?_
        refine jb_goto (pc' := 34) dX8_chain_92 (by decide) ?_
        refine jb_heap (h' := [jb_main imm (upd I19 2 (nI (((w + c.length) + k1) + 1))) (va_up Tm 0 (.ref (1000000 + (2 + u)))) (jp_wr rowm w (c ++ (f (a + 1)).2.2 ++ [-62])) stkm tpm, s1, s2, s3, s4, s5, s6, s7, s8, s9, s10, s11]) (by rw [← jp_wr_bin rowm w c (f (a + 1)).2.2 (-62) (v := w + c.length + k1) (by rw [hk1])]) ?_
        have e9 : jp_lp B n 2 f (k + 1) (a, true, c) = jp_lp B n 2 f k (b1, true, (c ++ (f (a + 1)).2.2 ++ [-62])) := by
          refine (jp_lp_go (x := (a, true, c)) rfl hs (by decide)).trans ?_
          show jp_lp B n 2 f k ((f (a + 1)).1, (f (a + 1)).2.1, c ++ (f (a + 1)).2.2 ++ [-62]) = _
          rw [hb1, hy1]
        rw [e9]
        have lc := (show (c ++ (f (a + 1)).2.2 ++ [-62]).length = c.length + k1 + 1 by rw [List.length_append, List.length_append, hk1]; rfl)
        exact ih (i + 1) b1 (c ++ (f (a + 1)).2.2 ++ [-62]) (upd I19 2 (nI (((w + c.length) + k1) + 1))) _ (by omega) (by omega) (by omega) (by rw [lc, show w + (c.length + k1 + 1) = w + c.length + k1 + 1 by omega]; exact (hq1.wr (b := (((w + c.length) + k1) + 1))))
      · show jb_J _ RX8 cX8_chain 6 (Option.none : Option Jvm.ClassFile.FieldType) false (D + 1) 0 0 82 [some (.ref 1), some (.int 2), some (.int (nI q)), some (.int 1), some (.int (nI i)), some (.int 62)] [] [jb_main imm I19 (va_up Tm 0 (.ref (1000000 + (2 + u)))) (jp_wr (jp_wr rowm w c) (w + c.length) (f (a + 1)).2.2) stkm tpm, s1, s2, s3, s4, s5, s6, s7, s8, s9, s10, s11] _
        refine jb_aload_n (pc' := 83) dX8_chain_82 rfl rfl ?_
        refine jb_iload (pc' := 85) dX8_chain_83 rfl rfl ?_
        refine jb_ineg (pc' := 86) dX8_chain_85 rfl ?_
        refine jb_callV (pc' := 89) (ci := 8) (q := 1) (As := [.int (-62)]) (a2 := 0) (b2 := 0) wv_X8_75 rfl dX8_chain_86 (c_write imm Tm stkm tpm I19 (jp_wr (jp_wr rowm w c) (w + c.length) (f (a + 1)).2.2) hq1 (by omega) (-62)) rfl rfl ⟨by omega, Nat.le_of_eq (Nat.zero_add _), Nat.le_of_eq (Nat.zero_add _)⟩ (Nat.le_of_ble_eq_true rfl) rfl (fun r h9 hq => ?_)
        obtain ⟨rfl, rfl⟩ := hq
        show jb_J _ RX8 cX8_chain 6 (Option.none : Option Jvm.ClassFile.FieldType) false (D + 1) 0 0 89 [some (.ref 1), some (.int 2), some (.int (nI q)), some (.int 1), some (.int (nI i)), some (.int 62)] [] [jb_main imm (upd I19 2 (nI (((w + c.length) + k1) + 1))) (va_up Tm 0 (.ref (1000000 + (2 + u)))) (upd (jp_wr (jp_wr rowm w c) (w + c.length) (f (a + 1)).2.2) ((w + c.length) + k1) (-62)) stkm tpm, s1, s2, s3, s4, s5, s6, s7, s8, s9, s10, s11] _
        refine jb_iinc_ (pc' := 92) (nI (i + 1)) dX8_chain_89 (by decide) rfl (jb_inc i 1) (jb_at4 rfl) rfl ?_
        refine jb_goto (pc' := 34) dX8_chain_92 (by decide) ?_
        refine jb_heap (h' := [jb_main imm (upd I19 2 (nI (((w + c.length) + k1) + 1))) (va_up Tm 0 (.ref (1000000 + (2 + u)))) (jp_wr rowm w (c ++ (f (a + 1)).2.2 ++ [-62])) stkm tpm, s1, s2, s3, s4, s5, s6, s7, s8, s9, s10, s11]) (by rw [← jp_wr_bin rowm w c (f (a + 1)).2.2 (-62) (v := w + c.length + k1) (by rw [hk1])]) ?_
        refine jb_iload (pc' := 36) dX8_chain_34 rfl rfl ?_
        refine jb_iload_n (pc' := 37) dX8_chain_36 rfl rfl ?_
        refine jb_icmp_ge (tgt := 95) (pc' := 40) dX8_chain_37 (by decide) rfl (fun c4 => ?_) (fun c4 => ?_)
        · refine jb_vret dX8_chain_95 ?_
          have e8 : jp_lp B n 2 f (k + 1) (a, true, c) = (b1, false, (c ++ (f (a + 1)).2.2 ++ [-62])) := by
            refine (jp_lp_go (x := (a, true, c)) rfl hs (by decide)).trans ?_
            refine (jp_lp_no (fun z => ?_)).trans ?_
            · have z1 : (f (a + 1)).2.1 = true := z.1
              rw [hy1] at z1; cases z1
            · show ((f (a + 1)).1, (f (a + 1)).2.1, c ++ (f (a + 1)).2.2 ++ [-62]) = _
              rw [hb1, hy1]
          rw [e8]
          exact ⟨rfl, (upd I19 2 (nI (((w + c.length) + k1) + 1))), b1, c.length + k1 + 1, rfl, (show (c ++ (f (a + 1)).2.2 ++ [-62]).length = c.length + k1 + 1 by rw [List.length_append, List.length_append, hk1]; rfl), Or.inr ⟨rfl, by rw [show w + (c.length + k1 + 1) = w + c.length + k1 + 1 by omega]; exact (hq1.wr (b := (((w + c.length) + k1) + 1)))⟩, rfl⟩
        · refine jb_aload_n (pc' := 41) dX8_chain_40 rfl rfl ?_
          refine gf_X8_31 (pc' := 44) (v := .int ((upd I19 2 (nI (((w + c.length) + k1) + 1))) 3)) dX8_chain_41 rfl rfl rfl ?_
          refine jb_top (v := .int ((upd I19 2 (nI (((w + c.length) + k1) + 1))) 3)) (w := .int 1) (jb_vI (hq1.wr (b := (((w + c.length) + k1) + 1))).2.2.2) ?_
          refine jb_if_ne (tgt := 95) (pc' := 47) dX8_chain_44 (by decide) rfl (fun _ => ?_) (fun z => absurd z (by decide))
          refine jb_vret dX8_chain_95 ?_
          have e8 : jp_lp B n 2 f (k + 1) (a, true, c) = (b1, false, (c ++ (f (a + 1)).2.2 ++ [-62])) := by
            refine (jp_lp_go (x := (a, true, c)) rfl hs (by decide)).trans ?_
            refine (jp_lp_no (fun z => ?_)).trans ?_
            · have z1 : (f (a + 1)).2.1 = true := z.1
              rw [hy1] at z1; cases z1
            · show ((f (a + 1)).1, (f (a + 1)).2.1, c ++ (f (a + 1)).2.2 ++ [-62]) = _
              rw [hb1, hy1]
          rw [e8]
          exact ⟨rfl, (upd I19 2 (nI (((w + c.length) + k1) + 1))), b1, c.length + k1 + 1, rfl, (show (c ++ (f (a + 1)).2.2 ++ [-62]).length = c.length + k1 + 1 by rw [List.length_append, List.length_append, hk1]; rfl), Or.inr ⟨rfl, by rw [show w + (c.length + k1 + 1) = w + c.length + k1 + 1 by omega]; exact (hq1.wr (b := (((w + c.length) + k1) + 1)))⟩, rfl⟩
    · show jb_J _ RX8 cX8_chain 6 (Option.none : Option Jvm.ClassFile.FieldType) false (D + 1) 0 0 34 [some (.ref 1), some (.int 2), some (.int (nI q)), some (.int 1), some (.int (nI i)), x5] [] [jb_main imm Im (va_up Tm 0 (.ref (1000000 + (2 + u)))) (jp_wr rowm w c) stkm tpm, s1, s2, s3, s4, s5, s6, s7, s8, s9, s10, s11] _
      refine jb_iload (pc' := 36) dX8_chain_34 rfl rfl ?_
      refine jb_iload_n (pc' := 37) dX8_chain_36 rfl rfl ?_
      refine jb_icmp_ge (tgt := 95) (pc' := 40) dX8_chain_37 (by decide) rfl (fun z => absurd z (nI_ge (a := i) (b := 1) (by omega) (by omega))) (fun _ => ?_)
      refine jb_aload_n (pc' := 41) dX8_chain_40 rfl rfl ?_
      refine gf_X8_31 (pc' := 44) (v := .int (Im 3)) dX8_chain_41 rfl rfl rfl ?_
      refine jb_top (v := .int (Im 3)) (w := .int 0) (jb_vI hc.2.2.2) ?_
      refine jb_if_ne (tgt := 95) (pc' := 47) dX8_chain_44 (by decide) rfl (fun z => absurd (by decide) z) (fun _ => ?_)
      refine jb_aload_n (pc' := 48) dX8_chain_47 rfl rfl ?_
      refine jb_callV (pc' := 51) (ci := 8) (q := 1) (As := []) (a2 := 0) (b2 := 0) wv_X8_67 rfl dX8_chain_48 (c_look imm Tm stkm tpm Im (jp_wr rowm w c) hB hy8 hn hu hc (by omega)) rfl rfl ⟨by omega, Nat.le_of_eq (Nat.zero_add _), Nat.le_of_eq (Nat.zero_add _)⟩ (Nat.le_of_ble_eq_true rfl) rfl (fun r h9 hq => ?_)
      obtain ⟨rfl, rfl⟩ := hq
      show jb_J _ RX8 cX8_chain 6 (Option.none : Option Jvm.ClassFile.FieldType) false (D + 1) 0 0 51 [some (.ref 1), some (.int 2), some (.int (nI q)), some (.int 1), some (.int (nI i)), x5] [.int (jp_lk B n a)] [jb_main imm Im (va_up Tm 0 (.ref (1000000 + (2 + u)))) (jp_wr rowm w c) stkm tpm, s1, s2, s3, s4, s5, s6, s7, s8, s9, s10, s11] _
      refine jb_callS (pc' := 54) (As := [.int (jp_lk B n a)]) (a2 := 0) (b2 := 0) wv_X8_71 dX8_chain_51 (c_rankX _ (jp_lk B n a) (hy8.lk a) 2 (by decide) hr) rfl ⟨by omega, Nat.le_of_eq (Nat.zero_add _), Nat.le_of_eq (Nat.zero_add _)⟩ (Nat.le_of_ble_eq_true rfl) rfl (fun r h9 hq => ?_)
      obtain ⟨rfl, x9, n9, rfl⟩ := hq
      show jb_J _ RX8 cX8_chain 6 (Option.none : Option Jvm.ClassFile.FieldType) false (D + 1) 0 0 54 [some (.ref 1), some (.int 2), some (.int (nI q)), some (.int 1), some (.int (nI i)), x5] [.int x9] [jb_main imm Im (va_up Tm 0 (.ref (1000000 + (2 + u)))) (jp_wr rowm w c) stkm tpm, s1, s2, s3, s4, s5, s6, s7, s8, s9, s10, s11] _
      refine jb_iload_n (pc' := 55) dX8_chain_54 rfl rfl ?_
      refine jb_icmp_ne (tgt := 95) (pc' := 58) dX8_chain_55 (by decide) rfl (fun _ => ?_) (fun z => absurd z n9)
      refine jb_vret dX8_chain_95 ?_
      have e8 : jp_lp B n 2 f (k + 1) (a, true, c) = (a, true, c) := jp_lp_no (fun z => hr z.2)
      rw [e8]
      exact ⟨rfl, Im, a, c.length, rfl, rfl, Or.inl ⟨rfl, hc⟩, rfl⟩
set_option maxRecDepth 100000 in
set_option maxHeartbeats 4000000 in
theorem c_chain2 {sc : Nat × (Nat → Int32)} {s1 s2 s3 s4 s5 s6 s7 s8 s9 s10 s11 : List va_E} (imm : Int32) (Tm : Nat → Value) (stkm tpm : Nat → Int32) {B : Nat → Int32} {n u : Nat} (hB : ∀ k, k < n → tpm k = B k) (hy8 : jp_by B n) (hn : n ≤ 50) (hu : u < 2) (q : Nat) (hq5 : q ≤ 5) (f : Nat → jp_R) (hfo : ∀ a, a ≤ n → jp_ok n a (f a)) (D : Nat) (hf : jc_F sc s1 s2 s3 s4 s5 s6 s7 s8 s9 s10 s11 imm Tm stkm tpm n u yX8_chain cX8_chain 6 D [.int 3, .int (nI q)] f) : jc_F sc s1 s2 s3 s4 s5 s6 s7 s8 s9 s10 s11 imm Tm stkm tpm n u yX8_chain cX8_chain 6 (D + 1) [.int 2, .int (nI q)] (fun a => jp_lp B n 2 f 1 (f a)) := by
  intro Im rowm a w ha hwa hc
  show jb_C sc yX8_chain cX8_chain 6 none (D + 1) 0 0 [.ref 1, .int 2, .int (nI q)] [jb_main imm Im (va_up Tm 0 (.ref (1000000 + (2 + u)))) rowm stkm tpm, s1, s2, s3, s4, s5, s6, s7, s8, s9, s10, s11] (fun r h9 => r = none ∧ ∃ I9 b9 k9, (jp_lp B n 2 f 1 (f a)).1 = b9 ∧ (jp_lp B n 2 f 1 (f a)).2.2.length = k9 ∧ (((jp_lp B n 2 f 1 (f a)).2.1 = true ∧ jc_ I9 n b9 (w + k9) 0) ∨ ((jp_lp B n 2 f 1 (f a)).2.1 = false ∧ jc_ I9 n b9 (w + k9) 1)) ∧ h9 = [jb_main imm I9 (va_up Tm 0 (.ref (1000000 + (2 + u)))) (jp_wr rowm w (jp_lp B n 2 f 1 (f a)).2.2) stkm tpm, s1, s2, s3, s4, s5, s6, s7, s8, s9, s10, s11])
  refine jb_CofJ (ini := false) (by decide +kernel) (fun h => by cases h) (Nat.le_of_ble_eq_true rfl) ?_
  obtain ⟨q1, q2, q3, q4⟩ := hfo a ha
  show jb_J _ RX8 cX8_chain 6 (Option.none : Option Jvm.ClassFile.FieldType) false (D + 1) 0 0 0 [some (.ref 1), some (.int 2), some (.int (nI q)), none, none, none] [] [jb_main imm Im (va_up Tm 0 (.ref (1000000 + (2 + u)))) rowm stkm tpm, s1, s2, s3, s4, s5, s6, s7, s8, s9, s10, s11] _
  refine jb_iload_n (pc' := 1) dX8_chain_0 rfl rfl ?_
  refine jb_iconst (pc' := 2) 5 dX8_chain_1 (by decide) rfl ?_
  refine jb_icmp_lt (tgt := 11) (pc' := 5) dX8_chain_2 (by decide) rfl (fun _ => ?_) (fun z => absurd (by decide) z)
  refine jb_aload_n (pc' := 12) dX8_chain_11 rfl rfl ?_
  refine jb_iload_n (pc' := 13) dX8_chain_12 rfl rfl ?_
  refine jb_iconst (pc' := 14) 1 dX8_chain_13 (by decide) rfl ?_
  refine jb_iadd (pc' := 15) dX8_chain_14 rfl ?_
  refine jb_top (v := .int (2 + 1)) (w := .int 3) (jb_vI (by decide)) ?_
  refine jb_iload_n (pc' := 16) dX8_chain_15 rfl rfl ?_
  refine jb_callV (pc' := 19) (ci := 8) (q := 1) (As := [.int 3, .int (nI q)]) (a2 := 0) (b2 := 0) wv_X8_53 rfl dX8_chain_16 (hf Im rowm a w (by omega) (by omega) hc) rfl rfl ⟨by omega, Nat.le_of_eq (Nat.zero_add _), Nat.le_of_eq (Nat.zero_add _)⟩ (Nat.le_of_ble_eq_true rfl) rfl (fun r h9 hq => ?_)
  rcases hq with ⟨rfl, I19, b1, k1, hb1, hk1, ⟨hy1, hq1⟩ | ⟨hy1, hq1⟩, rfl⟩
  · show jb_J _ RX8 cX8_chain 6 (Option.none : Option Jvm.ClassFile.FieldType) false (D + 1) 0 0 19 [some (.ref 1), some (.int 2), some (.int (nI q)), none, none, none] [] [jb_main imm I19 (va_up Tm 0 (.ref (1000000 + (2 + u)))) (jp_wr rowm w (f a).2.2) stkm tpm, s1, s2, s3, s4, s5, s6, s7, s8, s9, s10, s11] _
    refine jb_iload_n (pc' := 20) dX8_chain_19 rfl rfl ?_
    refine jb_iconst (pc' := 21) 2 dX8_chain_20 (by decide) rfl ?_
    refine jb_icmp_ne (tgt := 28) (pc' := 24) dX8_chain_21 (by decide) rfl (fun z => absurd (by decide) z) (fun _ => ?_)
    refine jb_iconst (pc' := 25) 1 dX8_chain_24 (by decide) rfl ?_
    refine jb_goto (pc' := 30) dX8_chain_25 (by decide) ?_
    refine jb_istore_n_ (pc' := 31) dX8_chain_30 (by decide) (jb_at3 rfl) rfl ?_
    refine jb_iconst (pc' := 32) 0 dX8_chain_31 (by decide) rfl ?_
    refine jb_istore_ (pc' := 34) dX8_chain_32 (by decide) (jb_at4 rfl) rfl ?_
    have ef : f a = (b1, true, (f a).2.2) := jp_eta hb1 hy1
    have eF : jp_lp B n 2 f 1 (f a) = jp_lp B n 2 f 1 (b1, true, (f a).2.2) := congrArg (jp_lp B n 2 f 1) ef
    rw [eF]
    exact l_chain2 imm Tm stkm tpm hB hy8 hn hu q hq5 f hfo D hf rowm w 1 0 b1 (f a).2.2 I19 _ (by omega) (by omega) (by omega) (by rw [hk1]; exact hq1)
  · show jb_J _ RX8 cX8_chain 6 (Option.none : Option Jvm.ClassFile.FieldType) false (D + 1) 0 0 19 [some (.ref 1), some (.int 2), some (.int (nI q)), none, none, none] [] [jb_main imm I19 (va_up Tm 0 (.ref (1000000 + (2 + u)))) (jp_wr rowm w (f a).2.2) stkm tpm, s1, s2, s3, s4, s5, s6, s7, s8, s9, s10, s11] _
    refine jb_iload_n (pc' := 20) dX8_chain_19 rfl rfl ?_
    refine jb_iconst (pc' := 21) 2 dX8_chain_20 (by decide) rfl ?_
    refine jb_icmp_ne (tgt := 28) (pc' := 24) dX8_chain_21 (by decide) rfl (fun z => absurd (by decide) z) (fun _ => ?_)
    refine jb_iconst (pc' := 25) 1 dX8_chain_24 (by decide) rfl ?_
    refine jb_goto (pc' := 30) dX8_chain_25 (by decide) ?_
    refine jb_istore_n_ (pc' := 31) dX8_chain_30 (by decide) (jb_at3 rfl) rfl ?_
    refine jb_iconst (pc' := 32) 0 dX8_chain_31 (by decide) rfl ?_
    refine jb_istore_ (pc' := 34) dX8_chain_32 (by decide) (jb_at4 rfl) rfl ?_
    refine jb_iload (pc' := 36) dX8_chain_34 rfl rfl ?_
    refine jb_iload_n (pc' := 37) dX8_chain_36 rfl rfl ?_
    refine jb_icmp_ge (tgt := 95) (pc' := 40) dX8_chain_37 (by decide) rfl (fun z => absurd z (by decide)) (fun _ => ?_)
    refine jb_aload_n (pc' := 41) dX8_chain_40 rfl rfl ?_
    refine gf_X8_31 (pc' := 44) (v := .int (I19 3)) dX8_chain_41 rfl rfl rfl ?_
    refine jb_top (v := .int (I19 3)) (w := .int 1) (jb_vI hq1.2.2.2) ?_
    refine jb_if_ne (tgt := 95) (pc' := 47) dX8_chain_44 (by decide) rfl (fun _ => ?_) (fun z => absurd z (by decide))
    refine jb_vret dX8_chain_95 ?_
    have e8 : jp_lp B n 2 f 1 (f a) = f a := jp_lp_no (fun z => by have z1 := z.1; rw [hy1] at z1; cases z1)
    rw [e8]
    exact ⟨rfl, I19, b1, k1, hb1, hk1, Or.inr ⟨hy1, hq1⟩, rfl⟩
set_option maxRecDepth 100000 in
set_option maxHeartbeats 4000000 in
theorem l_chain1 {sc : Nat × (Nat → Int32)} {s1 s2 s3 s4 s5 s6 s7 s8 s9 s10 s11 : List va_E} (imm : Int32) (Tm : Nat → Value) (stkm tpm : Nat → Int32) {B : Nat → Int32} {n u : Nat} (hB : ∀ k, k < n → tpm k = B k) (hy8 : jp_by B n) (hn : n ≤ 50) (hu : u < 2) (q : Nat) (hq5 : q ≤ 5) (f : Nat → jp_R) (hfo : ∀ a, a ≤ n → jp_ok n a (f a)) (D : Nat) (hf : jc_F sc s1 s2 s3 s4 s5 s6 s7 s8 s9 s10 s11 imm Tm stkm tpm n u yX8_chain cX8_chain 6 D [.int 2, .int (nI q)] f) (rowm : Nat → Int32) (w : Nat) : ∀ (k i a : Nat) (c : List Int32) (Im : Nat → Int32) (x5 : Option Value), i + k = 50 → a ≤ n → w + c.length ≤ a → jc_ Im n a (w + c.length) 0 → jb_J sc RX8 cX8_chain 6 (Option.none : Option Jvm.ClassFile.FieldType) false (D + 1) 0 0 34 [some (.ref 1), some (.int 1), some (.int (nI q)), some (.int 50), some (.int (nI i)), x5] [] [jb_main imm Im (va_up Tm 0 (.ref (1000000 + (2 + u)))) (jp_wr rowm w c) stkm tpm, s1, s2, s3, s4, s5, s6, s7, s8, s9, s10, s11] (fun r h9 => r = none ∧ ∃ I9 b9 k9, (jp_lp B n 1 f k (a, true, c)).1 = b9 ∧ (jp_lp B n 1 f k (a, true, c)).2.2.length = k9 ∧ (((jp_lp B n 1 f k (a, true, c)).2.1 = true ∧ jc_ I9 n b9 (w + k9) 0) ∨ ((jp_lp B n 1 f k (a, true, c)).2.1 = false ∧ jc_ I9 n b9 (w + k9) 1)) ∧ h9 = [jb_main imm I9 (va_up Tm 0 (.ref (1000000 + (2 + u)))) (jp_wr rowm w (jp_lp B n 1 f k (a, true, c)).2.2) stkm tpm, s1, s2, s3, s4, s5, s6, s7, s8, s9, s10, s11]) := by
  intro k
  induction k with
  | zero =>
    intro i a c Im x5 hk ha hwa hc
    show jb_J _ RX8 cX8_chain 6 (Option.none : Option Jvm.ClassFile.FieldType) false (D + 1) 0 0 34 [some (.ref 1), some (.int 1), some (.int (nI q)), some (.int 50), some (.int (nI i)), x5] [] [jb_main imm Im (va_up Tm 0 (.ref (1000000 + (2 + u)))) (jp_wr rowm w c) stkm tpm, s1, s2, s3, s4, s5, s6, s7, s8, s9, s10, s11] _
    refine jb_iload (pc' := 36) dX8_chain_34 rfl rfl ?_
    refine jb_iload_n (pc' := 37) dX8_chain_36 rfl rfl ?_
    refine jb_icmp_ge (tgt := 95) (pc' := 40) dX8_chain_37 (by decide) rfl (fun _ => ?_) (fun z => absurd (nI_le (a := 50) (b := i) (by omega) (by omega)) z)
    refine jb_vret dX8_chain_95 ?_
    have e8 : jp_lp B n 1 f 0 (a, true, c) = (a, true, c) := rfl
    rw [e8]
    exact ⟨rfl, Im, a, c.length, rfl, rfl, Or.inl ⟨rfl, hc⟩, rfl⟩
  | succ k ih =>
    intro i a c Im x5 hk ha hwa hc
    rcases jp_c1 (jp_lk B n a) with hs | ⟨-, hr⟩
    · have ha1 : a < n := jp_in (fun z => by rw [hs] at z; exact absurd z (by decide))
      obtain ⟨q1, q2, q3, q4⟩ := hfo (a + 1) ha1
      show jb_J _ RX8 cX8_chain 6 (Option.none : Option Jvm.ClassFile.FieldType) false (D + 1) 0 0 34 [some (.ref 1), some (.int 1), some (.int (nI q)), some (.int 50), some (.int (nI i)), x5] [] [jb_main imm Im (va_up Tm 0 (.ref (1000000 + (2 + u)))) (jp_wr rowm w c) stkm tpm, s1, s2, s3, s4, s5, s6, s7, s8, s9, s10, s11] _
      refine jb_iload (pc' := 36) dX8_chain_34 rfl rfl ?_
      refine jb_iload_n (pc' := 37) dX8_chain_36 rfl rfl ?_
      refine jb_icmp_ge (tgt := 95) (pc' := 40) dX8_chain_37 (by decide) rfl (fun z => absurd z (nI_ge (a := i) (b := 50) (by omega) (by omega))) (fun _ => ?_)
      refine jb_aload_n (pc' := 41) dX8_chain_40 rfl rfl ?_
      refine gf_X8_31 (pc' := 44) (v := .int (Im 3)) dX8_chain_41 rfl rfl rfl ?_
      refine jb_top (v := .int (Im 3)) (w := .int 0) (jb_vI hc.2.2.2) ?_
      refine jb_if_ne (tgt := 95) (pc' := 47) dX8_chain_44 (by decide) rfl (fun z => absurd (by decide) z) (fun _ => ?_)
      refine jb_aload_n (pc' := 48) dX8_chain_47 rfl rfl ?_
      refine jb_callV (pc' := 51) (ci := 8) (q := 1) (As := []) (a2 := 0) (b2 := 0) wv_X8_67 rfl dX8_chain_48 (c_look imm Tm stkm tpm Im (jp_wr rowm w c) hB hy8 hn hu hc (by omega)) rfl rfl ⟨by omega, Nat.le_of_eq (Nat.zero_add _), Nat.le_of_eq (Nat.zero_add _)⟩ (Nat.le_of_ble_eq_true rfl) rfl (fun r h9 hq => ?_)
      obtain ⟨rfl, rfl⟩ := hq
      rw [hs]
      show jb_J _ RX8 cX8_chain 6 (Option.none : Option Jvm.ClassFile.FieldType) false (D + 1) 0 0 51 [some (.ref 1), some (.int 1), some (.int (nI q)), some (.int 50), some (.int (nI i)), x5] [.int 38] [jb_main imm Im (va_up Tm 0 (.ref (1000000 + (2 + u)))) (jp_wr rowm w c) stkm tpm, s1, s2, s3, s4, s5, s6, s7, s8, s9, s10, s11] _
      refine jb_callS (pc' := 54) (As := [.int 38]) (a2 := 0) (b2 := 0) wv_X8_71 dX8_chain_51 c_rank38 rfl ⟨by omega, Nat.le_of_eq (Nat.zero_add _), Nat.le_of_eq (Nat.zero_add _)⟩ (Nat.le_of_ble_eq_true rfl) rfl (fun r h9 hq => ?_)
      obtain ⟨rfl, rfl⟩ := hq
      show jb_J _ RX8 cX8_chain 6 (Option.none : Option Jvm.ClassFile.FieldType) false (D + 1) 0 0 54 [some (.ref 1), some (.int 1), some (.int (nI q)), some (.int 50), some (.int (nI i)), x5] [.int 1] [jb_main imm Im (va_up Tm 0 (.ref (1000000 + (2 + u)))) (jp_wr rowm w c) stkm tpm, s1, s2, s3, s4, s5, s6, s7, s8, s9, s10, s11] _
      refine jb_iload_n (pc' := 55) dX8_chain_54 rfl rfl ?_
      refine jb_icmp_ne (tgt := 95) (pc' := 58) dX8_chain_55 (by decide) rfl (fun z => absurd (by decide) z) (fun _ => ?_)
      refine jb_aload_n (pc' := 59) dX8_chain_58 rfl rfl ?_
      refine jb_callV (pc' := 62) (ci := 8) (q := 1) (As := []) (a2 := 0) (b2 := 0) wv_X8_67 rfl dX8_chain_59 (c_look imm Tm stkm tpm Im (jp_wr rowm w c) hB hy8 hn hu hc (by omega)) rfl rfl ⟨by omega, Nat.le_of_eq (Nat.zero_add _), Nat.le_of_eq (Nat.zero_add _)⟩ (Nat.le_of_ble_eq_true rfl) rfl (fun r h9 hq => ?_)
      obtain ⟨rfl, rfl⟩ := hq
      rw [hs]
      show jb_J _ RX8 cX8_chain 6 (Option.none : Option Jvm.ClassFile.FieldType) false (D + 1) 0 0 62 [some (.ref 1), some (.int 1), some (.int (nI q)), some (.int 50), some (.int (nI i)), x5] [.int 38] [jb_main imm Im (va_up Tm 0 (.ref (1000000 + (2 + u)))) (jp_wr rowm w c) stkm tpm, s1, s2, s3, s4, s5, s6, s7, s8, s9, s10, s11] _
      refine jb_istore_ (pc' := 64) dX8_chain_62 (by decide) (jb_at5 rfl) rfl ?_
      refine jb_aload_n (pc' := 65) dX8_chain_64 rfl rfl ?_
      refine jb_dup (pc' := 66) dX8_chain_65 rfl rfl ?_
      refine gf_X8_25 (pc' := 69) (v := .int (Im 1)) dX8_chain_66 rfl rfl rfl ?_
      refine jb_top (v := .int (Im 1)) (w := .int (nI a)) (jb_vI hc.2.1) ?_
      refine jb_iconst (pc' := 70) 1 dX8_chain_69 (by decide) rfl ?_
      refine jb_iadd (pc' := 71) dX8_chain_70 rfl ?_
      refine jb_top (v := .int ((nI a) + 1)) (w := .int (nI (a + 1))) (jb_vI (nI_add _ 1)) ?_
      refine pf_X8_25 (pc' := 74) (h' := [jb_main imm (upd Im 1 (nI (a + 1))) (va_up Tm 0 (.ref (1000000 + (2 + u)))) (jp_wr rowm w c) stkm tpm, s1, s2, s3, s4, s5, s6, s7, s8, s9, s10, s11]) dX8_chain_71 (fun _ => ⟨rfl, rfl⟩) rfl (Nat.le_of_ble_eq_true rfl) rfl rfl ?_
      refine jb_aload_n (pc' := 75) dX8_chain_74 rfl rfl ?_
      refine jb_iload_n (pc' := 76) dX8_chain_75 rfl rfl ?_
      refine jb_iconst (pc' := 77) 1 dX8_chain_76 (by decide) rfl ?_
      refine jb_iadd (pc' := 78) dX8_chain_77 rfl ?_
      refine jb_top (v := .int (1 + 1)) (w := .int 2) (jb_vI (by decide)) ?_
      refine jb_iload_n (pc' := 79) dX8_chain_78 rfl rfl ?_
      refine jb_callV (pc' := 82) (ci := 8) (q := 1) (As := [.int 2, .int (nI q)]) (a2 := 0) (b2 := 0) wv_X8_53 rfl dX8_chain_79 (hf (upd Im 1 (nI (a + 1))) (jp_wr rowm w c) (a + 1) (w + c.length) (by omega) (by omega) (hc.at (b := (a + 1)))) rfl rfl ⟨by omega, Nat.le_of_eq (Nat.zero_add _), Nat.le_of_eq (Nat.zero_add _)⟩ (Nat.le_of_ble_eq_true rfl) rfl (fun r h9 hq => ?_)
      rcases hq with ⟨rfl, I19, b1, k1, hb1, hk1, ⟨hy1, hq1⟩ | ⟨hy1, hq1⟩, rfl⟩
      · show jb_J _ RX8 cX8_chain 6 (Option.none : Option Jvm.ClassFile.FieldType) false (D + 1) 0 0 82 [some (.ref 1), some (.int 1), some (.int (nI q)), some (.int 50), some (.int (nI i)), some (.int 38)] [] [jb_main imm I19 (va_up Tm 0 (.ref (1000000 + (2 + u)))) (jp_wr (jp_wr rowm w c) (w + c.length) (f (a + 1)).2.2) stkm tpm, s1, s2, s3, s4, s5, s6, s7, s8, s9, s10, s11] _
        refine jb_aload_n (pc' := 83) dX8_chain_82 rfl rfl ?_
        refine jb_iload (pc' := 85) dX8_chain_83 rfl rfl ?_
        refine jb_ineg (pc' := 86) dX8_chain_85 rfl ?_
        refine jb_callV (pc' := 89) (ci := 8) (q := 1) (As := [.int (-38)]) (a2 := 0) (b2 := 0) wv_X8_75 rfl dX8_chain_86 (c_write imm Tm stkm tpm I19 (jp_wr (jp_wr rowm w c) (w + c.length) (f (a + 1)).2.2) hq1 (by omega) (-38)) rfl rfl ⟨by omega, Nat.le_of_eq (Nat.zero_add _), Nat.le_of_eq (Nat.zero_add _)⟩ (Nat.le_of_ble_eq_true rfl) rfl (fun r h9 hq => ?_)
        obtain ⟨rfl, rfl⟩ := hq
        show jb_J _ RX8 cX8_chain 6 (Option.none : Option Jvm.ClassFile.FieldType) false (D + 1) 0 0 89 [some (.ref 1), some (.int 1), some (.int (nI q)), some (.int 50), some (.int (nI i)), some (.int 38)] [] [jb_main imm (upd I19 2 (nI (((w + c.length) + k1) + 1))) (va_up Tm 0 (.ref (1000000 + (2 + u)))) (upd (jp_wr (jp_wr rowm w c) (w + c.length) (f (a + 1)).2.2) ((w + c.length) + k1) (-38)) stkm tpm, s1, s2, s3, s4, s5, s6, s7, s8, s9, s10, s11] _
        refine jb_iinc_ (pc' := 92) (nI (i + 1)) dX8_chain_89 (by decide) rfl (jb_inc i 1) (jb_at4 rfl) rfl ?_
        refine jb_goto (pc' := 34) dX8_chain_92 (by decide) ?_
        refine jb_heap (h' := [jb_main imm (upd I19 2 (nI (((w + c.length) + k1) + 1))) (va_up Tm 0 (.ref (1000000 + (2 + u)))) (jp_wr rowm w (c ++ (f (a + 1)).2.2 ++ [-38])) stkm tpm, s1, s2, s3, s4, s5, s6, s7, s8, s9, s10, s11]) (by rw [← jp_wr_bin rowm w c (f (a + 1)).2.2 (-38) (v := w + c.length + k1) (by rw [hk1])]) ?_
        have e9 : jp_lp B n 1 f (k + 1) (a, true, c) = jp_lp B n 1 f k (b1, true, (c ++ (f (a + 1)).2.2 ++ [-38])) := by
          refine (jp_lp_go (x := (a, true, c)) rfl hs (by decide)).trans ?_
          show jp_lp B n 1 f k ((f (a + 1)).1, (f (a + 1)).2.1, c ++ (f (a + 1)).2.2 ++ [-38]) = _
          rw [hb1, hy1]
        rw [e9]
        have lc := (show (c ++ (f (a + 1)).2.2 ++ [-38]).length = c.length + k1 + 1 by rw [List.length_append, List.length_append, hk1]; rfl)
        exact ih (i + 1) b1 (c ++ (f (a + 1)).2.2 ++ [-38]) (upd I19 2 (nI (((w + c.length) + k1) + 1))) _ (by omega) (by omega) (by omega) (by rw [lc, show w + (c.length + k1 + 1) = w + c.length + k1 + 1 by omega]; exact (hq1.wr (b := (((w + c.length) + k1) + 1))))
      · show jb_J _ RX8 cX8_chain 6 (Option.none : Option Jvm.ClassFile.FieldType) false (D + 1) 0 0 82 [some (.ref 1), some (.int 1), some (.int (nI q)), some (.int 50), some (.int (nI i)), some (.int 38)] [] [jb_main imm I19 (va_up Tm 0 (.ref (1000000 + (2 + u)))) (jp_wr (jp_wr rowm w c) (w + c.length) (f (a + 1)).2.2) stkm tpm, s1, s2, s3, s4, s5, s6, s7, s8, s9, s10, s11] _
        refine jb_aload_n (pc' := 83) dX8_chain_82 rfl rfl ?_
        refine jb_iload (pc' := 85) dX8_chain_83 rfl rfl ?_
        refine jb_ineg (pc' := 86) dX8_chain_85 rfl ?_
        refine jb_callV (pc' := 89) (ci := 8) (q := 1) (As := [.int (-38)]) (a2 := 0) (b2 := 0) wv_X8_75 rfl dX8_chain_86 (c_write imm Tm stkm tpm I19 (jp_wr (jp_wr rowm w c) (w + c.length) (f (a + 1)).2.2) hq1 (by omega) (-38)) rfl rfl ⟨by omega, Nat.le_of_eq (Nat.zero_add _), Nat.le_of_eq (Nat.zero_add _)⟩ (Nat.le_of_ble_eq_true rfl) rfl (fun r h9 hq => ?_)
        obtain ⟨rfl, rfl⟩ := hq
        show jb_J _ RX8 cX8_chain 6 (Option.none : Option Jvm.ClassFile.FieldType) false (D + 1) 0 0 89 [some (.ref 1), some (.int 1), some (.int (nI q)), some (.int 50), some (.int (nI i)), some (.int 38)] [] [jb_main imm (upd I19 2 (nI (((w + c.length) + k1) + 1))) (va_up Tm 0 (.ref (1000000 + (2 + u)))) (upd (jp_wr (jp_wr rowm w c) (w + c.length) (f (a + 1)).2.2) ((w + c.length) + k1) (-38)) stkm tpm, s1, s2, s3, s4, s5, s6, s7, s8, s9, s10, s11] _
        refine jb_iinc_ (pc' := 92) (nI (i + 1)) dX8_chain_89 (by decide) rfl (jb_inc i 1) (jb_at4 rfl) rfl ?_
        refine jb_goto (pc' := 34) dX8_chain_92 (by decide) ?_
        refine jb_heap (h' := [jb_main imm (upd I19 2 (nI (((w + c.length) + k1) + 1))) (va_up Tm 0 (.ref (1000000 + (2 + u)))) (jp_wr rowm w (c ++ (f (a + 1)).2.2 ++ [-38])) stkm tpm, s1, s2, s3, s4, s5, s6, s7, s8, s9, s10, s11]) (by rw [← jp_wr_bin rowm w c (f (a + 1)).2.2 (-38) (v := w + c.length + k1) (by rw [hk1])]) ?_
        refine jb_iload (pc' := 36) dX8_chain_34 rfl rfl ?_
        refine jb_iload_n (pc' := 37) dX8_chain_36 rfl rfl ?_
        refine jb_icmp_ge (tgt := 95) (pc' := 40) dX8_chain_37 (by decide) rfl (fun c4 => ?_) (fun c4 => ?_)
        · refine jb_vret dX8_chain_95 ?_
          have e8 : jp_lp B n 1 f (k + 1) (a, true, c) = (b1, false, (c ++ (f (a + 1)).2.2 ++ [-38])) := by
            refine (jp_lp_go (x := (a, true, c)) rfl hs (by decide)).trans ?_
            refine (jp_lp_no (fun z => ?_)).trans ?_
            · have z1 : (f (a + 1)).2.1 = true := z.1
              rw [hy1] at z1; cases z1
            · show ((f (a + 1)).1, (f (a + 1)).2.1, c ++ (f (a + 1)).2.2 ++ [-38]) = _
              rw [hb1, hy1]
          rw [e8]
          exact ⟨rfl, (upd I19 2 (nI (((w + c.length) + k1) + 1))), b1, c.length + k1 + 1, rfl, (show (c ++ (f (a + 1)).2.2 ++ [-38]).length = c.length + k1 + 1 by rw [List.length_append, List.length_append, hk1]; rfl), Or.inr ⟨rfl, by rw [show w + (c.length + k1 + 1) = w + c.length + k1 + 1 by omega]; exact (hq1.wr (b := (((w + c.length) + k1) + 1)))⟩, rfl⟩
        · refine jb_aload_n (pc' := 41) dX8_chain_40 rfl rfl ?_
          refine gf_X8_31 (pc' := 44) (v := .int ((upd I19 2 (nI (((w + c.length) + k1) + 1))) 3)) dX8_chain_41 rfl rfl rfl ?_
          refine jb_top (v := .int ((upd I19 2 (nI (((w + c.length) + k1) + 1))) 3)) (w := .int 1) (jb_vI (hq1.wr (b := (((w + c.length) + k1) + 1))).2.2.2) ?_
          refine jb_if_ne (tgt := 95) (pc' := 47) dX8_chain_44 (by decide) rfl (fun _ => ?_) (fun z => absurd z (by decide))
          refine jb_vret dX8_chain_95 ?_
          have e8 : jp_lp B n 1 f (k + 1) (a, true, c) = (b1, false, (c ++ (f (a + 1)).2.2 ++ [-38])) := by
            refine (jp_lp_go (x := (a, true, c)) rfl hs (by decide)).trans ?_
            refine (jp_lp_no (fun z => ?_)).trans ?_
            · have z1 : (f (a + 1)).2.1 = true := z.1
              rw [hy1] at z1; cases z1
            · show ((f (a + 1)).1, (f (a + 1)).2.1, c ++ (f (a + 1)).2.2 ++ [-38]) = _
              rw [hb1, hy1]
          rw [e8]
          exact ⟨rfl, (upd I19 2 (nI (((w + c.length) + k1) + 1))), b1, c.length + k1 + 1, rfl, (show (c ++ (f (a + 1)).2.2 ++ [-38]).length = c.length + k1 + 1 by rw [List.length_append, List.length_append, hk1]; rfl), Or.inr ⟨rfl, by rw [show w + (c.length + k1 + 1) = w + c.length + k1 + 1 by omega]; exact (hq1.wr (b := (((w + c.length) + k1) + 1)))⟩, rfl⟩
    · show jb_J _ RX8 cX8_chain 6 (Option.none : Option Jvm.ClassFile.FieldType) false (D + 1) 0 0 34 [some (.ref 1), some (.int 1), some (.int (nI q)), some (.int 50), some (.int (nI i)), x5] [] [jb_main imm Im (va_up Tm 0 (.ref (1000000 + (2 + u)))) (jp_wr rowm w c) stkm tpm, s1, s2, s3, s4, s5, s6, s7, s8, s9, s10, s11] _
      refine jb_iload (pc' := 36) dX8_chain_34 rfl rfl ?_
      refine jb_iload_n (pc' := 37) dX8_chain_36 rfl rfl ?_
      refine jb_icmp_ge (tgt := 95) (pc' := 40) dX8_chain_37 (by decide) rfl (fun z => absurd z (nI_ge (a := i) (b := 50) (by omega) (by omega))) (fun _ => ?_)
      refine jb_aload_n (pc' := 41) dX8_chain_40 rfl rfl ?_
      refine gf_X8_31 (pc' := 44) (v := .int (Im 3)) dX8_chain_41 rfl rfl rfl ?_
      refine jb_top (v := .int (Im 3)) (w := .int 0) (jb_vI hc.2.2.2) ?_
      refine jb_if_ne (tgt := 95) (pc' := 47) dX8_chain_44 (by decide) rfl (fun z => absurd (by decide) z) (fun _ => ?_)
      refine jb_aload_n (pc' := 48) dX8_chain_47 rfl rfl ?_
      refine jb_callV (pc' := 51) (ci := 8) (q := 1) (As := []) (a2 := 0) (b2 := 0) wv_X8_67 rfl dX8_chain_48 (c_look imm Tm stkm tpm Im (jp_wr rowm w c) hB hy8 hn hu hc (by omega)) rfl rfl ⟨by omega, Nat.le_of_eq (Nat.zero_add _), Nat.le_of_eq (Nat.zero_add _)⟩ (Nat.le_of_ble_eq_true rfl) rfl (fun r h9 hq => ?_)
      obtain ⟨rfl, rfl⟩ := hq
      show jb_J _ RX8 cX8_chain 6 (Option.none : Option Jvm.ClassFile.FieldType) false (D + 1) 0 0 51 [some (.ref 1), some (.int 1), some (.int (nI q)), some (.int 50), some (.int (nI i)), x5] [.int (jp_lk B n a)] [jb_main imm Im (va_up Tm 0 (.ref (1000000 + (2 + u)))) (jp_wr rowm w c) stkm tpm, s1, s2, s3, s4, s5, s6, s7, s8, s9, s10, s11] _
      refine jb_callS (pc' := 54) (As := [.int (jp_lk B n a)]) (a2 := 0) (b2 := 0) wv_X8_71 dX8_chain_51 (c_rankX _ (jp_lk B n a) (hy8.lk a) 1 (by decide) hr) rfl ⟨by omega, Nat.le_of_eq (Nat.zero_add _), Nat.le_of_eq (Nat.zero_add _)⟩ (Nat.le_of_ble_eq_true rfl) rfl (fun r h9 hq => ?_)
      obtain ⟨rfl, x9, n9, rfl⟩ := hq
      show jb_J _ RX8 cX8_chain 6 (Option.none : Option Jvm.ClassFile.FieldType) false (D + 1) 0 0 54 [some (.ref 1), some (.int 1), some (.int (nI q)), some (.int 50), some (.int (nI i)), x5] [.int x9] [jb_main imm Im (va_up Tm 0 (.ref (1000000 + (2 + u)))) (jp_wr rowm w c) stkm tpm, s1, s2, s3, s4, s5, s6, s7, s8, s9, s10, s11] _
      refine jb_iload_n (pc' := 55) dX8_chain_54 rfl rfl ?_
      refine jb_icmp_ne (tgt := 95) (pc' := 58) dX8_chain_55 (by decide) rfl (fun _ => ?_) (fun z => absurd z n9)
      refine jb_vret dX8_chain_95 ?_
      have e8 : jp_lp B n 1 f (k + 1) (a, true, c) = (a, true, c) := jp_lp_no (fun z => hr z.2)
      rw [e8]
      exact ⟨rfl, Im, a, c.length, rfl, rfl, Or.inl ⟨rfl, hc⟩, rfl⟩
set_option maxRecDepth 100000 in
set_option maxHeartbeats 4000000 in
theorem c_chain1 {sc : Nat × (Nat → Int32)} {s1 s2 s3 s4 s5 s6 s7 s8 s9 s10 s11 : List va_E} (imm : Int32) (Tm : Nat → Value) (stkm tpm : Nat → Int32) {B : Nat → Int32} {n u : Nat} (hB : ∀ k, k < n → tpm k = B k) (hy8 : jp_by B n) (hn : n ≤ 50) (hu : u < 2) (q : Nat) (hq5 : q ≤ 5) (f : Nat → jp_R) (hfo : ∀ a, a ≤ n → jp_ok n a (f a)) (D : Nat) (hf : jc_F sc s1 s2 s3 s4 s5 s6 s7 s8 s9 s10 s11 imm Tm stkm tpm n u yX8_chain cX8_chain 6 D [.int 2, .int (nI q)] f) : jc_F sc s1 s2 s3 s4 s5 s6 s7 s8 s9 s10 s11 imm Tm stkm tpm n u yX8_chain cX8_chain 6 (D + 1) [.int 1, .int (nI q)] (fun a => jp_lp B n 1 f 50 (f a)) := by
  intro Im rowm a w ha hwa hc
  show jb_C sc yX8_chain cX8_chain 6 none (D + 1) 0 0 [.ref 1, .int 1, .int (nI q)] [jb_main imm Im (va_up Tm 0 (.ref (1000000 + (2 + u)))) rowm stkm tpm, s1, s2, s3, s4, s5, s6, s7, s8, s9, s10, s11] (fun r h9 => r = none ∧ ∃ I9 b9 k9, (jp_lp B n 1 f 50 (f a)).1 = b9 ∧ (jp_lp B n 1 f 50 (f a)).2.2.length = k9 ∧ (((jp_lp B n 1 f 50 (f a)).2.1 = true ∧ jc_ I9 n b9 (w + k9) 0) ∨ ((jp_lp B n 1 f 50 (f a)).2.1 = false ∧ jc_ I9 n b9 (w + k9) 1)) ∧ h9 = [jb_main imm I9 (va_up Tm 0 (.ref (1000000 + (2 + u)))) (jp_wr rowm w (jp_lp B n 1 f 50 (f a)).2.2) stkm tpm, s1, s2, s3, s4, s5, s6, s7, s8, s9, s10, s11])
  refine jb_CofJ (ini := false) (by decide +kernel) (fun h => by cases h) (Nat.le_of_ble_eq_true rfl) ?_
  obtain ⟨q1, q2, q3, q4⟩ := hfo a ha
  show jb_J _ RX8 cX8_chain 6 (Option.none : Option Jvm.ClassFile.FieldType) false (D + 1) 0 0 0 [some (.ref 1), some (.int 1), some (.int (nI q)), none, none, none] [] [jb_main imm Im (va_up Tm 0 (.ref (1000000 + (2 + u)))) rowm stkm tpm, s1, s2, s3, s4, s5, s6, s7, s8, s9, s10, s11] _
  refine jb_iload_n (pc' := 1) dX8_chain_0 rfl rfl ?_
  refine jb_iconst (pc' := 2) 5 dX8_chain_1 (by decide) rfl ?_
  refine jb_icmp_lt (tgt := 11) (pc' := 5) dX8_chain_2 (by decide) rfl (fun _ => ?_) (fun z => absurd (by decide) z)
  refine jb_aload_n (pc' := 12) dX8_chain_11 rfl rfl ?_
  refine jb_iload_n (pc' := 13) dX8_chain_12 rfl rfl ?_
  refine jb_iconst (pc' := 14) 1 dX8_chain_13 (by decide) rfl ?_
  refine jb_iadd (pc' := 15) dX8_chain_14 rfl ?_
  refine jb_top (v := .int (1 + 1)) (w := .int 2) (jb_vI (by decide)) ?_
  refine jb_iload_n (pc' := 16) dX8_chain_15 rfl rfl ?_
  refine jb_callV (pc' := 19) (ci := 8) (q := 1) (As := [.int 2, .int (nI q)]) (a2 := 0) (b2 := 0) wv_X8_53 rfl dX8_chain_16 (hf Im rowm a w (by omega) (by omega) hc) rfl rfl ⟨by omega, Nat.le_of_eq (Nat.zero_add _), Nat.le_of_eq (Nat.zero_add _)⟩ (Nat.le_of_ble_eq_true rfl) rfl (fun r h9 hq => ?_)
  rcases hq with ⟨rfl, I19, b1, k1, hb1, hk1, ⟨hy1, hq1⟩ | ⟨hy1, hq1⟩, rfl⟩
  · show jb_J _ RX8 cX8_chain 6 (Option.none : Option Jvm.ClassFile.FieldType) false (D + 1) 0 0 19 [some (.ref 1), some (.int 1), some (.int (nI q)), none, none, none] [] [jb_main imm I19 (va_up Tm 0 (.ref (1000000 + (2 + u)))) (jp_wr rowm w (f a).2.2) stkm tpm, s1, s2, s3, s4, s5, s6, s7, s8, s9, s10, s11] _
    refine jb_iload_n (pc' := 20) dX8_chain_19 rfl rfl ?_
    refine jb_iconst (pc' := 21) 2 dX8_chain_20 (by decide) rfl ?_
    refine jb_icmp_ne (tgt := 28) (pc' := 24) dX8_chain_21 (by decide) rfl (fun _ => ?_) (fun z => absurd z (by decide))
    refine jb_bipush (pc' := 30) 50 dX8_chain_28 (by decide) rfl ?_
    refine jb_istore_n_ (pc' := 31) dX8_chain_30 (by decide) (jb_at3 rfl) rfl ?_
    refine jb_iconst (pc' := 32) 0 dX8_chain_31 (by decide) rfl ?_
    refine jb_istore_ (pc' := 34) dX8_chain_32 (by decide) (jb_at4 rfl) rfl ?_
    have ef : f a = (b1, true, (f a).2.2) := jp_eta hb1 hy1
    have eF : jp_lp B n 1 f 50 (f a) = jp_lp B n 1 f 50 (b1, true, (f a).2.2) := congrArg (jp_lp B n 1 f 50) ef
    rw [eF]
    exact l_chain1 imm Tm stkm tpm hB hy8 hn hu q hq5 f hfo D hf rowm w 50 0 b1 (f a).2.2 I19 _ (by omega) (by omega) (by omega) (by rw [hk1]; exact hq1)
  · show jb_J _ RX8 cX8_chain 6 (Option.none : Option Jvm.ClassFile.FieldType) false (D + 1) 0 0 19 [some (.ref 1), some (.int 1), some (.int (nI q)), none, none, none] [] [jb_main imm I19 (va_up Tm 0 (.ref (1000000 + (2 + u)))) (jp_wr rowm w (f a).2.2) stkm tpm, s1, s2, s3, s4, s5, s6, s7, s8, s9, s10, s11] _
    refine jb_iload_n (pc' := 20) dX8_chain_19 rfl rfl ?_
    refine jb_iconst (pc' := 21) 2 dX8_chain_20 (by decide) rfl ?_
    refine jb_icmp_ne (tgt := 28) (pc' := 24) dX8_chain_21 (by decide) rfl (fun _ => ?_) (fun z => absurd z (by decide))
    refine jb_bipush (pc' := 30) 50 dX8_chain_28 (by decide) rfl ?_
    refine jb_istore_n_ (pc' := 31) dX8_chain_30 (by decide) (jb_at3 rfl) rfl ?_
    refine jb_iconst (pc' := 32) 0 dX8_chain_31 (by decide) rfl ?_
    refine jb_istore_ (pc' := 34) dX8_chain_32 (by decide) (jb_at4 rfl) rfl ?_
    refine jb_iload (pc' := 36) dX8_chain_34 rfl rfl ?_
    refine jb_iload_n (pc' := 37) dX8_chain_36 rfl rfl ?_
    refine jb_icmp_ge (tgt := 95) (pc' := 40) dX8_chain_37 (by decide) rfl (fun z => absurd z (by decide)) (fun _ => ?_)
    refine jb_aload_n (pc' := 41) dX8_chain_40 rfl rfl ?_
    refine gf_X8_31 (pc' := 44) (v := .int (I19 3)) dX8_chain_41 rfl rfl rfl ?_
    refine jb_top (v := .int (I19 3)) (w := .int 1) (jb_vI hq1.2.2.2) ?_
    refine jb_if_ne (tgt := 95) (pc' := 47) dX8_chain_44 (by decide) rfl (fun _ => ?_) (fun z => absurd z (by decide))
    refine jb_vret dX8_chain_95 ?_
    have e8 : jp_lp B n 1 f 50 (f a) = f a := jp_lp_no (fun z => by have z1 := z.1; rw [hy1] at z1; cases z1)
    rw [e8]
    exact ⟨rfl, I19, b1, k1, hb1, hk1, Or.inr ⟨hy1, hq1⟩, rfl⟩
set_option maxRecDepth 100000 in
set_option maxHeartbeats 4000000 in
theorem l_chain0 {sc : Nat × (Nat → Int32)} {s1 s2 s3 s4 s5 s6 s7 s8 s9 s10 s11 : List va_E} (imm : Int32) (Tm : Nat → Value) (stkm tpm : Nat → Int32) {B : Nat → Int32} {n u : Nat} (hB : ∀ k, k < n → tpm k = B k) (hy8 : jp_by B n) (hn : n ≤ 50) (hu : u < 2) (q : Nat) (hq5 : q ≤ 5) (f : Nat → jp_R) (hfo : ∀ a, a ≤ n → jp_ok n a (f a)) (D : Nat) (hf : jc_F sc s1 s2 s3 s4 s5 s6 s7 s8 s9 s10 s11 imm Tm stkm tpm n u yX8_chain cX8_chain 6 D [.int 1, .int (nI q)] f) (rowm : Nat → Int32) (w : Nat) : ∀ (k i a : Nat) (c : List Int32) (Im : Nat → Int32) (x5 : Option Value), i + k = 50 → a ≤ n → w + c.length ≤ a → jc_ Im n a (w + c.length) 0 → jb_J sc RX8 cX8_chain 6 (Option.none : Option Jvm.ClassFile.FieldType) false (D + 1) 0 0 34 [some (.ref 1), some (.int 0), some (.int (nI q)), some (.int 50), some (.int (nI i)), x5] [] [jb_main imm Im (va_up Tm 0 (.ref (1000000 + (2 + u)))) (jp_wr rowm w c) stkm tpm, s1, s2, s3, s4, s5, s6, s7, s8, s9, s10, s11] (fun r h9 => r = none ∧ ∃ I9 b9 k9, (jp_lp B n 0 f k (a, true, c)).1 = b9 ∧ (jp_lp B n 0 f k (a, true, c)).2.2.length = k9 ∧ (((jp_lp B n 0 f k (a, true, c)).2.1 = true ∧ jc_ I9 n b9 (w + k9) 0) ∨ ((jp_lp B n 0 f k (a, true, c)).2.1 = false ∧ jc_ I9 n b9 (w + k9) 1)) ∧ h9 = [jb_main imm I9 (va_up Tm 0 (.ref (1000000 + (2 + u)))) (jp_wr rowm w (jp_lp B n 0 f k (a, true, c)).2.2) stkm tpm, s1, s2, s3, s4, s5, s6, s7, s8, s9, s10, s11]) := by
  intro k
  induction k with
  | zero =>
    intro i a c Im x5 hk ha hwa hc
    show jb_J _ RX8 cX8_chain 6 (Option.none : Option Jvm.ClassFile.FieldType) false (D + 1) 0 0 34 [some (.ref 1), some (.int 0), some (.int (nI q)), some (.int 50), some (.int (nI i)), x5] [] [jb_main imm Im (va_up Tm 0 (.ref (1000000 + (2 + u)))) (jp_wr rowm w c) stkm tpm, s1, s2, s3, s4, s5, s6, s7, s8, s9, s10, s11] _
    refine jb_iload (pc' := 36) dX8_chain_34 rfl rfl ?_
    refine jb_iload_n (pc' := 37) dX8_chain_36 rfl rfl ?_
    refine jb_icmp_ge (tgt := 95) (pc' := 40) dX8_chain_37 (by decide) rfl (fun _ => ?_) (fun z => absurd (nI_le (a := 50) (b := i) (by omega) (by omega)) z)
    refine jb_vret dX8_chain_95 ?_
    have e8 : jp_lp B n 0 f 0 (a, true, c) = (a, true, c) := rfl
    rw [e8]
    exact ⟨rfl, Im, a, c.length, rfl, rfl, Or.inl ⟨rfl, hc⟩, rfl⟩
  | succ k ih =>
    intro i a c Im x5 hk ha hwa hc
    rcases jp_c0 (jp_lk B n a) with hs | ⟨-, hr⟩
    · have ha1 : a < n := jp_in (fun z => by rw [hs] at z; exact absurd z (by decide))
      obtain ⟨q1, q2, q3, q4⟩ := hfo (a + 1) ha1
      show jb_J _ RX8 cX8_chain 6 (Option.none : Option Jvm.ClassFile.FieldType) false (D + 1) 0 0 34 [some (.ref 1), some (.int 0), some (.int (nI q)), some (.int 50), some (.int (nI i)), x5] [] [jb_main imm Im (va_up Tm 0 (.ref (1000000 + (2 + u)))) (jp_wr rowm w c) stkm tpm, s1, s2, s3, s4, s5, s6, s7, s8, s9, s10, s11] _
      refine jb_iload (pc' := 36) dX8_chain_34 rfl rfl ?_
      refine jb_iload_n (pc' := 37) dX8_chain_36 rfl rfl ?_
      refine jb_icmp_ge (tgt := 95) (pc' := 40) dX8_chain_37 (by decide) rfl (fun z => absurd z (nI_ge (a := i) (b := 50) (by omega) (by omega))) (fun _ => ?_)
      refine jb_aload_n (pc' := 41) dX8_chain_40 rfl rfl ?_
      refine gf_X8_31 (pc' := 44) (v := .int (Im 3)) dX8_chain_41 rfl rfl rfl ?_
      refine jb_top (v := .int (Im 3)) (w := .int 0) (jb_vI hc.2.2.2) ?_
      refine jb_if_ne (tgt := 95) (pc' := 47) dX8_chain_44 (by decide) rfl (fun z => absurd (by decide) z) (fun _ => ?_)
      refine jb_aload_n (pc' := 48) dX8_chain_47 rfl rfl ?_
      refine jb_callV (pc' := 51) (ci := 8) (q := 1) (As := []) (a2 := 0) (b2 := 0) wv_X8_67 rfl dX8_chain_48 (c_look imm Tm stkm tpm Im (jp_wr rowm w c) hB hy8 hn hu hc (by omega)) rfl rfl ⟨by omega, Nat.le_of_eq (Nat.zero_add _), Nat.le_of_eq (Nat.zero_add _)⟩ (Nat.le_of_ble_eq_true rfl) rfl (fun r h9 hq => ?_)
      obtain ⟨rfl, rfl⟩ := hq
      rw [hs]
      show jb_J _ RX8 cX8_chain 6 (Option.none : Option Jvm.ClassFile.FieldType) false (D + 1) 0 0 51 [some (.ref 1), some (.int 0), some (.int (nI q)), some (.int 50), some (.int (nI i)), x5] [.int 124] [jb_main imm Im (va_up Tm 0 (.ref (1000000 + (2 + u)))) (jp_wr rowm w c) stkm tpm, s1, s2, s3, s4, s5, s6, s7, s8, s9, s10, s11] _
      refine jb_callS (pc' := 54) (As := [.int 124]) (a2 := 0) (b2 := 0) wv_X8_71 dX8_chain_51 c_rank124 rfl ⟨by omega, Nat.le_of_eq (Nat.zero_add _), Nat.le_of_eq (Nat.zero_add _)⟩ (Nat.le_of_ble_eq_true rfl) rfl (fun r h9 hq => ?_)
      obtain ⟨rfl, rfl⟩ := hq
      show jb_J _ RX8 cX8_chain 6 (Option.none : Option Jvm.ClassFile.FieldType) false (D + 1) 0 0 54 [some (.ref 1), some (.int 0), some (.int (nI q)), some (.int 50), some (.int (nI i)), x5] [.int 0] [jb_main imm Im (va_up Tm 0 (.ref (1000000 + (2 + u)))) (jp_wr rowm w c) stkm tpm, s1, s2, s3, s4, s5, s6, s7, s8, s9, s10, s11] _
      refine jb_iload_n (pc' := 55) dX8_chain_54 rfl rfl ?_
      refine jb_icmp_ne (tgt := 95) (pc' := 58) dX8_chain_55 (by decide) rfl (fun z => absurd (by decide) z) (fun _ => ?_)
      refine jb_aload_n (pc' := 59) dX8_chain_58 rfl rfl ?_
      refine jb_callV (pc' := 62) (ci := 8) (q := 1) (As := []) (a2 := 0) (b2 := 0) wv_X8_67 rfl dX8_chain_59 (c_look imm Tm stkm tpm Im (jp_wr rowm w c) hB hy8 hn hu hc (by omega)) rfl rfl ⟨by omega, Nat.le_of_eq (Nat.zero_add _), Nat.le_of_eq (Nat.zero_add _)⟩ (Nat.le_of_ble_eq_true rfl) rfl (fun r h9 hq => ?_)
      obtain ⟨rfl, rfl⟩ := hq
      rw [hs]
      show jb_J _ RX8 cX8_chain 6 (Option.none : Option Jvm.ClassFile.FieldType) false (D + 1) 0 0 62 [some (.ref 1), some (.int 0), some (.int (nI q)), some (.int 50), some (.int (nI i)), x5] [.int 124] [jb_main imm Im (va_up Tm 0 (.ref (1000000 + (2 + u)))) (jp_wr rowm w c) stkm tpm, s1, s2, s3, s4, s5, s6, s7, s8, s9, s10, s11] _
      refine jb_istore_ (pc' := 64) dX8_chain_62 (by decide) (jb_at5 rfl) rfl ?_
      refine jb_aload_n (pc' := 65) dX8_chain_64 rfl rfl ?_
      refine jb_dup (pc' := 66) dX8_chain_65 rfl rfl ?_
      refine gf_X8_25 (pc' := 69) (v := .int (Im 1)) dX8_chain_66 rfl rfl rfl ?_
      refine jb_top (v := .int (Im 1)) (w := .int (nI a)) (jb_vI hc.2.1) ?_
      refine jb_iconst (pc' := 70) 1 dX8_chain_69 (by decide) rfl ?_
      refine jb_iadd (pc' := 71) dX8_chain_70 rfl ?_
      refine jb_top (v := .int ((nI a) + 1)) (w := .int (nI (a + 1))) (jb_vI (nI_add _ 1)) ?_
      refine pf_X8_25 (pc' := 74) (h' := [jb_main imm (upd Im 1 (nI (a + 1))) (va_up Tm 0 (.ref (1000000 + (2 + u)))) (jp_wr rowm w c) stkm tpm, s1, s2, s3, s4, s5, s6, s7, s8, s9, s10, s11]) dX8_chain_71 (fun _ => ⟨rfl, rfl⟩) rfl (Nat.le_of_ble_eq_true rfl) rfl rfl ?_
      refine jb_aload_n (pc' := 75) dX8_chain_74 rfl rfl ?_
      refine jb_iload_n (pc' := 76) dX8_chain_75 rfl rfl ?_
      refine jb_iconst (pc' := 77) 1 dX8_chain_76 (by decide) rfl ?_
      refine jb_iadd (pc' := 78) dX8_chain_77 rfl ?_
      refine jb_top (v := .int (0 + 1)) (w := .int 1) (jb_vI (by decide)) ?_
      refine jb_iload_n (pc' := 79) dX8_chain_78 rfl rfl ?_
      refine jb_callV (pc' := 82) (ci := 8) (q := 1) (As := [.int 1, .int (nI q)]) (a2 := 0) (b2 := 0) wv_X8_53 rfl dX8_chain_79 (hf (upd Im 1 (nI (a + 1))) (jp_wr rowm w c) (a + 1) (w + c.length) (by omega) (by omega) (hc.at (b := (a + 1)))) rfl rfl ⟨by omega, Nat.le_of_eq (Nat.zero_add _), Nat.le_of_eq (Nat.zero_add _)⟩ (Nat.le_of_ble_eq_true rfl) rfl (fun r h9 hq => ?_)
      rcases hq with ⟨rfl, I19, b1, k1, hb1, hk1, ⟨hy1, hq1⟩ | ⟨hy1, hq1⟩, rfl⟩
      · show jb_J _ RX8 cX8_chain 6 (Option.none : Option Jvm.ClassFile.FieldType) false (D + 1) 0 0 82 [some (.ref 1), some (.int 0), some (.int (nI q)), some (.int 50), some (.int (nI i)), some (.int 124)] [] [jb_main imm I19 (va_up Tm 0 (.ref (1000000 + (2 + u)))) (jp_wr (jp_wr rowm w c) (w + c.length) (f (a + 1)).2.2) stkm tpm, s1, s2, s3, s4, s5, s6, s7, s8, s9, s10, s11] _
        refine jb_aload_n (pc' := 83) dX8_chain_82 rfl rfl ?_
        refine jb_iload (pc' := 85) dX8_chain_83 rfl rfl ?_
        refine jb_ineg (pc' := 86) dX8_chain_85 rfl ?_
        refine jb_callV (pc' := 89) (ci := 8) (q := 1) (As := [.int (-124)]) (a2 := 0) (b2 := 0) wv_X8_75 rfl dX8_chain_86 (c_write imm Tm stkm tpm I19 (jp_wr (jp_wr rowm w c) (w + c.length) (f (a + 1)).2.2) hq1 (by omega) (-124)) rfl rfl ⟨by omega, Nat.le_of_eq (Nat.zero_add _), Nat.le_of_eq (Nat.zero_add _)⟩ (Nat.le_of_ble_eq_true rfl) rfl (fun r h9 hq => ?_)
        obtain ⟨rfl, rfl⟩ := hq
        show jb_J _ RX8 cX8_chain 6 (Option.none : Option Jvm.ClassFile.FieldType) false (D + 1) 0 0 89 [some (.ref 1), some (.int 0), some (.int (nI q)), some (.int 50), some (.int (nI i)), some (.int 124)] [] [jb_main imm (upd I19 2 (nI (((w + c.length) + k1) + 1))) (va_up Tm 0 (.ref (1000000 + (2 + u)))) (upd (jp_wr (jp_wr rowm w c) (w + c.length) (f (a + 1)).2.2) ((w + c.length) + k1) (-124)) stkm tpm, s1, s2, s3, s4, s5, s6, s7, s8, s9, s10, s11] _
        refine jb_iinc_ (pc' := 92) (nI (i + 1)) dX8_chain_89 (by decide) rfl (jb_inc i 1) (jb_at4 rfl) rfl ?_
        refine jb_goto (pc' := 34) dX8_chain_92 (by decide) ?_
        refine jb_heap (h' := [jb_main imm (upd I19 2 (nI (((w + c.length) + k1) + 1))) (va_up Tm 0 (.ref (1000000 + (2 + u)))) (jp_wr rowm w (c ++ (f (a + 1)).2.2 ++ [-124])) stkm tpm, s1, s2, s3, s4, s5, s6, s7, s8, s9, s10, s11]) (by rw [← jp_wr_bin rowm w c (f (a + 1)).2.2 (-124) (v := w + c.length + k1) (by rw [hk1])]) ?_
        have e9 : jp_lp B n 0 f (k + 1) (a, true, c) = jp_lp B n 0 f k (b1, true, (c ++ (f (a + 1)).2.2 ++ [-124])) := by
          refine (jp_lp_go (x := (a, true, c)) rfl hs (by decide)).trans ?_
          show jp_lp B n 0 f k ((f (a + 1)).1, (f (a + 1)).2.1, c ++ (f (a + 1)).2.2 ++ [-124]) = _
          rw [hb1, hy1]
        rw [e9]
        have lc := (show (c ++ (f (a + 1)).2.2 ++ [-124]).length = c.length + k1 + 1 by rw [List.length_append, List.length_append, hk1]; rfl)
        exact ih (i + 1) b1 (c ++ (f (a + 1)).2.2 ++ [-124]) (upd I19 2 (nI (((w + c.length) + k1) + 1))) _ (by omega) (by omega) (by omega) (by rw [lc, show w + (c.length + k1 + 1) = w + c.length + k1 + 1 by omega]; exact (hq1.wr (b := (((w + c.length) + k1) + 1))))
      · show jb_J _ RX8 cX8_chain 6 (Option.none : Option Jvm.ClassFile.FieldType) false (D + 1) 0 0 82 [some (.ref 1), some (.int 0), some (.int (nI q)), some (.int 50), some (.int (nI i)), some (.int 124)] [] [jb_main imm I19 (va_up Tm 0 (.ref (1000000 + (2 + u)))) (jp_wr (jp_wr rowm w c) (w + c.length) (f (a + 1)).2.2) stkm tpm, s1, s2, s3, s4, s5, s6, s7, s8, s9, s10, s11] _
        refine jb_aload_n (pc' := 83) dX8_chain_82 rfl rfl ?_
        refine jb_iload (pc' := 85) dX8_chain_83 rfl rfl ?_
        refine jb_ineg (pc' := 86) dX8_chain_85 rfl ?_
        refine jb_callV (pc' := 89) (ci := 8) (q := 1) (As := [.int (-124)]) (a2 := 0) (b2 := 0) wv_X8_75 rfl dX8_chain_86 (c_write imm Tm stkm tpm I19 (jp_wr (jp_wr rowm w c) (w + c.length) (f (a + 1)).2.2) hq1 (by omega) (-124)) rfl rfl ⟨by omega, Nat.le_of_eq (Nat.zero_add _), Nat.le_of_eq (Nat.zero_add _)⟩ (Nat.le_of_ble_eq_true rfl) rfl (fun r h9 hq => ?_)
        obtain ⟨rfl, rfl⟩ := hq
        show jb_J _ RX8 cX8_chain 6 (Option.none : Option Jvm.ClassFile.FieldType) false (D + 1) 0 0 89 [some (.ref 1), some (.int 0), some (.int (nI q)), some (.int 50), some (.int (nI i)), some (.int 124)] [] [jb_main imm (upd I19 2 (nI (((w + c.length) + k1) + 1))) (va_up Tm 0 (.ref (1000000 + (2 + u)))) (upd (jp_wr (jp_wr rowm w c) (w + c.length) (f (a + 1)).2.2) ((w + c.length) + k1) (-124)) stkm tpm, s1, s2, s3, s4, s5, s6, s7, s8, s9, s10, s11] _
        refine jb_iinc_ (pc' := 92) (nI (i + 1)) dX8_chain_89 (by decide) rfl (jb_inc i 1) (jb_at4 rfl) rfl ?_
        refine jb_goto (pc' := 34) dX8_chain_92 (by decide) ?_
        refine jb_heap (h' := [jb_main imm (upd I19 2 (nI (((w + c.length) + k1) + 1))) (va_up Tm 0 (.ref (1000000 + (2 + u)))) (jp_wr rowm w (c ++ (f (a + 1)).2.2 ++ [-124])) stkm tpm, s1, s2, s3, s4, s5, s6, s7, s8, s9, s10, s11]) (by rw [← jp_wr_bin rowm w c (f (a + 1)).2.2 (-124) (v := w + c.length + k1) (by rw [hk1])]) ?_
        refine jb_iload (pc' := 36) dX8_chain_34 rfl rfl ?_
        refine jb_iload_n (pc' := 37) dX8_chain_36 rfl rfl ?_
        refine jb_icmp_ge (tgt := 95) (pc' := 40) dX8_chain_37 (by decide) rfl (fun c4 => ?_) (fun c4 => ?_)
        · refine jb_vret dX8_chain_95 ?_
          have e8 : jp_lp B n 0 f (k + 1) (a, true, c) = (b1, false, (c ++ (f (a + 1)).2.2 ++ [-124])) := by
            refine (jp_lp_go (x := (a, true, c)) rfl hs (by decide)).trans ?_
            refine (jp_lp_no (fun z => ?_)).trans ?_
            · have z1 : (f (a + 1)).2.1 = true := z.1
              rw [hy1] at z1; cases z1
            · show ((f (a + 1)).1, (f (a + 1)).2.1, c ++ (f (a + 1)).2.2 ++ [-124]) = _
              rw [hb1, hy1]
          rw [e8]
          exact ⟨rfl, (upd I19 2 (nI (((w + c.length) + k1) + 1))), b1, c.length + k1 + 1, rfl, (show (c ++ (f (a + 1)).2.2 ++ [-124]).length = c.length + k1 + 1 by rw [List.length_append, List.length_append, hk1]; rfl), Or.inr ⟨rfl, by rw [show w + (c.length + k1 + 1) = w + c.length + k1 + 1 by omega]; exact (hq1.wr (b := (((w + c.length) + k1) + 1)))⟩, rfl⟩
        · refine jb_aload_n (pc' := 41) dX8_chain_40 rfl rfl ?_
          refine gf_X8_31 (pc' := 44) (v := .int ((upd I19 2 (nI (((w + c.length) + k1) + 1))) 3)) dX8_chain_41 rfl rfl rfl ?_
          refine jb_top (v := .int ((upd I19 2 (nI (((w + c.length) + k1) + 1))) 3)) (w := .int 1) (jb_vI (hq1.wr (b := (((w + c.length) + k1) + 1))).2.2.2) ?_
          refine jb_if_ne (tgt := 95) (pc' := 47) dX8_chain_44 (by decide) rfl (fun _ => ?_) (fun z => absurd z (by decide))
          refine jb_vret dX8_chain_95 ?_
          have e8 : jp_lp B n 0 f (k + 1) (a, true, c) = (b1, false, (c ++ (f (a + 1)).2.2 ++ [-124])) := by
            refine (jp_lp_go (x := (a, true, c)) rfl hs (by decide)).trans ?_
            refine (jp_lp_no (fun z => ?_)).trans ?_
            · have z1 : (f (a + 1)).2.1 = true := z.1
              rw [hy1] at z1; cases z1
            · show ((f (a + 1)).1, (f (a + 1)).2.1, c ++ (f (a + 1)).2.2 ++ [-124]) = _
              rw [hb1, hy1]
          rw [e8]
          exact ⟨rfl, (upd I19 2 (nI (((w + c.length) + k1) + 1))), b1, c.length + k1 + 1, rfl, (show (c ++ (f (a + 1)).2.2 ++ [-124]).length = c.length + k1 + 1 by rw [List.length_append, List.length_append, hk1]; rfl), Or.inr ⟨rfl, by rw [show w + (c.length + k1 + 1) = w + c.length + k1 + 1 by omega]; exact (hq1.wr (b := (((w + c.length) + k1) + 1)))⟩, rfl⟩
    · show jb_J _ RX8 cX8_chain 6 (Option.none : Option Jvm.ClassFile.FieldType) false (D + 1) 0 0 34 [some (.ref 1), some (.int 0), some (.int (nI q)), some (.int 50), some (.int (nI i)), x5] [] [jb_main imm Im (va_up Tm 0 (.ref (1000000 + (2 + u)))) (jp_wr rowm w c) stkm tpm, s1, s2, s3, s4, s5, s6, s7, s8, s9, s10, s11] _
      refine jb_iload (pc' := 36) dX8_chain_34 rfl rfl ?_
      refine jb_iload_n (pc' := 37) dX8_chain_36 rfl rfl ?_
      refine jb_icmp_ge (tgt := 95) (pc' := 40) dX8_chain_37 (by decide) rfl (fun z => absurd z (nI_ge (a := i) (b := 50) (by omega) (by omega))) (fun _ => ?_)
      refine jb_aload_n (pc' := 41) dX8_chain_40 rfl rfl ?_
      refine gf_X8_31 (pc' := 44) (v := .int (Im 3)) dX8_chain_41 rfl rfl rfl ?_
      refine jb_top (v := .int (Im 3)) (w := .int 0) (jb_vI hc.2.2.2) ?_
      refine jb_if_ne (tgt := 95) (pc' := 47) dX8_chain_44 (by decide) rfl (fun z => absurd (by decide) z) (fun _ => ?_)
      refine jb_aload_n (pc' := 48) dX8_chain_47 rfl rfl ?_
      refine jb_callV (pc' := 51) (ci := 8) (q := 1) (As := []) (a2 := 0) (b2 := 0) wv_X8_67 rfl dX8_chain_48 (c_look imm Tm stkm tpm Im (jp_wr rowm w c) hB hy8 hn hu hc (by omega)) rfl rfl ⟨by omega, Nat.le_of_eq (Nat.zero_add _), Nat.le_of_eq (Nat.zero_add _)⟩ (Nat.le_of_ble_eq_true rfl) rfl (fun r h9 hq => ?_)
      obtain ⟨rfl, rfl⟩ := hq
      show jb_J _ RX8 cX8_chain 6 (Option.none : Option Jvm.ClassFile.FieldType) false (D + 1) 0 0 51 [some (.ref 1), some (.int 0), some (.int (nI q)), some (.int 50), some (.int (nI i)), x5] [.int (jp_lk B n a)] [jb_main imm Im (va_up Tm 0 (.ref (1000000 + (2 + u)))) (jp_wr rowm w c) stkm tpm, s1, s2, s3, s4, s5, s6, s7, s8, s9, s10, s11] _
      refine jb_callS (pc' := 54) (As := [.int (jp_lk B n a)]) (a2 := 0) (b2 := 0) wv_X8_71 dX8_chain_51 (c_rankX _ (jp_lk B n a) (hy8.lk a) 0 (by decide) hr) rfl ⟨by omega, Nat.le_of_eq (Nat.zero_add _), Nat.le_of_eq (Nat.zero_add _)⟩ (Nat.le_of_ble_eq_true rfl) rfl (fun r h9 hq => ?_)
      obtain ⟨rfl, x9, n9, rfl⟩ := hq
      show jb_J _ RX8 cX8_chain 6 (Option.none : Option Jvm.ClassFile.FieldType) false (D + 1) 0 0 54 [some (.ref 1), some (.int 0), some (.int (nI q)), some (.int 50), some (.int (nI i)), x5] [.int x9] [jb_main imm Im (va_up Tm 0 (.ref (1000000 + (2 + u)))) (jp_wr rowm w c) stkm tpm, s1, s2, s3, s4, s5, s6, s7, s8, s9, s10, s11] _
      refine jb_iload_n (pc' := 55) dX8_chain_54 rfl rfl ?_
      refine jb_icmp_ne (tgt := 95) (pc' := 58) dX8_chain_55 (by decide) rfl (fun _ => ?_) (fun z => absurd z n9)
      refine jb_vret dX8_chain_95 ?_
      have e8 : jp_lp B n 0 f (k + 1) (a, true, c) = (a, true, c) := jp_lp_no (fun z => hr z.2)
      rw [e8]
      exact ⟨rfl, Im, a, c.length, rfl, rfl, Or.inl ⟨rfl, hc⟩, rfl⟩
set_option maxRecDepth 100000 in
set_option maxHeartbeats 4000000 in
theorem c_chain0 {sc : Nat × (Nat → Int32)} {s1 s2 s3 s4 s5 s6 s7 s8 s9 s10 s11 : List va_E} (imm : Int32) (Tm : Nat → Value) (stkm tpm : Nat → Int32) {B : Nat → Int32} {n u : Nat} (hB : ∀ k, k < n → tpm k = B k) (hy8 : jp_by B n) (hn : n ≤ 50) (hu : u < 2) (q : Nat) (hq5 : q ≤ 5) (f : Nat → jp_R) (hfo : ∀ a, a ≤ n → jp_ok n a (f a)) (D : Nat) (hf : jc_F sc s1 s2 s3 s4 s5 s6 s7 s8 s9 s10 s11 imm Tm stkm tpm n u yX8_chain cX8_chain 6 D [.int 1, .int (nI q)] f) : jc_F sc s1 s2 s3 s4 s5 s6 s7 s8 s9 s10 s11 imm Tm stkm tpm n u yX8_chain cX8_chain 6 (D + 1) [.int 0, .int (nI q)] (fun a => jp_lp B n 0 f 50 (f a)) := by
  intro Im rowm a w ha hwa hc
  show jb_C sc yX8_chain cX8_chain 6 none (D + 1) 0 0 [.ref 1, .int 0, .int (nI q)] [jb_main imm Im (va_up Tm 0 (.ref (1000000 + (2 + u)))) rowm stkm tpm, s1, s2, s3, s4, s5, s6, s7, s8, s9, s10, s11] (fun r h9 => r = none ∧ ∃ I9 b9 k9, (jp_lp B n 0 f 50 (f a)).1 = b9 ∧ (jp_lp B n 0 f 50 (f a)).2.2.length = k9 ∧ (((jp_lp B n 0 f 50 (f a)).2.1 = true ∧ jc_ I9 n b9 (w + k9) 0) ∨ ((jp_lp B n 0 f 50 (f a)).2.1 = false ∧ jc_ I9 n b9 (w + k9) 1)) ∧ h9 = [jb_main imm I9 (va_up Tm 0 (.ref (1000000 + (2 + u)))) (jp_wr rowm w (jp_lp B n 0 f 50 (f a)).2.2) stkm tpm, s1, s2, s3, s4, s5, s6, s7, s8, s9, s10, s11])
  refine jb_CofJ (ini := false) (by decide +kernel) (fun h => by cases h) (Nat.le_of_ble_eq_true rfl) ?_
  obtain ⟨q1, q2, q3, q4⟩ := hfo a ha
  show jb_J _ RX8 cX8_chain 6 (Option.none : Option Jvm.ClassFile.FieldType) false (D + 1) 0 0 0 [some (.ref 1), some (.int 0), some (.int (nI q)), none, none, none] [] [jb_main imm Im (va_up Tm 0 (.ref (1000000 + (2 + u)))) rowm stkm tpm, s1, s2, s3, s4, s5, s6, s7, s8, s9, s10, s11] _
  refine jb_iload_n (pc' := 1) dX8_chain_0 rfl rfl ?_
  refine jb_iconst (pc' := 2) 5 dX8_chain_1 (by decide) rfl ?_
  refine jb_icmp_lt (tgt := 11) (pc' := 5) dX8_chain_2 (by decide) rfl (fun _ => ?_) (fun z => absurd (by decide) z)
  refine jb_aload_n (pc' := 12) dX8_chain_11 rfl rfl ?_
  refine jb_iload_n (pc' := 13) dX8_chain_12 rfl rfl ?_
  refine jb_iconst (pc' := 14) 1 dX8_chain_13 (by decide) rfl ?_
  refine jb_iadd (pc' := 15) dX8_chain_14 rfl ?_
  refine jb_top (v := .int (0 + 1)) (w := .int 1) (jb_vI (by decide)) ?_
  refine jb_iload_n (pc' := 16) dX8_chain_15 rfl rfl ?_
  refine jb_callV (pc' := 19) (ci := 8) (q := 1) (As := [.int 1, .int (nI q)]) (a2 := 0) (b2 := 0) wv_X8_53 rfl dX8_chain_16 (hf Im rowm a w (by omega) (by omega) hc) rfl rfl ⟨by omega, Nat.le_of_eq (Nat.zero_add _), Nat.le_of_eq (Nat.zero_add _)⟩ (Nat.le_of_ble_eq_true rfl) rfl (fun r h9 hq => ?_)
  rcases hq with ⟨rfl, I19, b1, k1, hb1, hk1, ⟨hy1, hq1⟩ | ⟨hy1, hq1⟩, rfl⟩
  · show jb_J _ RX8 cX8_chain 6 (Option.none : Option Jvm.ClassFile.FieldType) false (D + 1) 0 0 19 [some (.ref 1), some (.int 0), some (.int (nI q)), none, none, none] [] [jb_main imm I19 (va_up Tm 0 (.ref (1000000 + (2 + u)))) (jp_wr rowm w (f a).2.2) stkm tpm, s1, s2, s3, s4, s5, s6, s7, s8, s9, s10, s11] _
    refine jb_iload_n (pc' := 20) dX8_chain_19 rfl rfl ?_
    refine jb_iconst (pc' := 21) 2 dX8_chain_20 (by decide) rfl ?_
    refine jb_icmp_ne (tgt := 28) (pc' := 24) dX8_chain_21 (by decide) rfl (fun _ => ?_) (fun z => absurd z (by decide))
    refine jb_bipush (pc' := 30) 50 dX8_chain_28 (by decide) rfl ?_
    refine jb_istore_n_ (pc' := 31) dX8_chain_30 (by decide) (jb_at3 rfl) rfl ?_
    refine jb_iconst (pc' := 32) 0 dX8_chain_31 (by decide) rfl ?_
    refine jb_istore_ (pc' := 34) dX8_chain_32 (by decide) (jb_at4 rfl) rfl ?_
    have ef : f a = (b1, true, (f a).2.2) := jp_eta hb1 hy1
    have eF : jp_lp B n 0 f 50 (f a) = jp_lp B n 0 f 50 (b1, true, (f a).2.2) := congrArg (jp_lp B n 0 f 50) ef
    rw [eF]
    exact l_chain0 imm Tm stkm tpm hB hy8 hn hu q hq5 f hfo D hf rowm w 50 0 b1 (f a).2.2 I19 _ (by omega) (by omega) (by omega) (by rw [hk1]; exact hq1)
  · show jb_J _ RX8 cX8_chain 6 (Option.none : Option Jvm.ClassFile.FieldType) false (D + 1) 0 0 19 [some (.ref 1), some (.int 0), some (.int (nI q)), none, none, none] [] [jb_main imm I19 (va_up Tm 0 (.ref (1000000 + (2 + u)))) (jp_wr rowm w (f a).2.2) stkm tpm, s1, s2, s3, s4, s5, s6, s7, s8, s9, s10, s11] _
    refine jb_iload_n (pc' := 20) dX8_chain_19 rfl rfl ?_
    refine jb_iconst (pc' := 21) 2 dX8_chain_20 (by decide) rfl ?_
    refine jb_icmp_ne (tgt := 28) (pc' := 24) dX8_chain_21 (by decide) rfl (fun _ => ?_) (fun z => absurd z (by decide))
    refine jb_bipush (pc' := 30) 50 dX8_chain_28 (by decide) rfl ?_
    refine jb_istore_n_ (pc' := 31) dX8_chain_30 (by decide) (jb_at3 rfl) rfl ?_
    refine jb_iconst (pc' := 32) 0 dX8_chain_31 (by decide) rfl ?_
    refine jb_istore_ (pc' := 34) dX8_chain_32 (by decide) (jb_at4 rfl) rfl ?_
    refine jb_iload (pc' := 36) dX8_chain_34 rfl rfl ?_
    refine jb_iload_n (pc' := 37) dX8_chain_36 rfl rfl ?_
    refine jb_icmp_ge (tgt := 95) (pc' := 40) dX8_chain_37 (by decide) rfl (fun z => absurd z (by decide)) (fun _ => ?_)
    refine jb_aload_n (pc' := 41) dX8_chain_40 rfl rfl ?_
    refine gf_X8_31 (pc' := 44) (v := .int (I19 3)) dX8_chain_41 rfl rfl rfl ?_
    refine jb_top (v := .int (I19 3)) (w := .int 1) (jb_vI hq1.2.2.2) ?_
    refine jb_if_ne (tgt := 95) (pc' := 47) dX8_chain_44 (by decide) rfl (fun _ => ?_) (fun z => absurd z (by decide))
    refine jb_vret dX8_chain_95 ?_
    have e8 : jp_lp B n 0 f 50 (f a) = f a := jp_lp_no (fun z => by have z1 := z.1; rw [hy1] at z1; cases z1)
    rw [e8]
    exact ⟨rfl, I19, b1, k1, hb1, hk1, Or.inr ⟨hy1, hq1⟩, rfl⟩
set_option maxRecDepth 100000 in
set_option maxHeartbeats 4000000 in
theorem c_chain5 {sc : Nat × (Nat → Int32)} {s1 s2 s3 s4 s5 s6 s7 s8 s9 s10 s11 : List va_E} (imm : Int32) (Tm : Nat → Value) (stkm tpm : Nat → Int32) {B : Nat → Int32} {n u : Nat} (hB : ∀ k, k < n → tpm k = B k) (hy8 : jp_by B n) (hn : n ≤ 50) (hu : u < 2) (q : Nat) (f : Nat → jp_R) (hfo : ∀ a, a ≤ n → jp_ok n a (f a)) (D : Nat) (hf : jc_F sc s1 s2 s3 s4 s5 s6 s7 s8 s9 s10 s11 imm Tm stkm tpm n u yX8_operand cX8_operand 3 D [.int (nI q)] f) : jc_F sc s1 s2 s3 s4 s5 s6 s7 s8 s9 s10 s11 imm Tm stkm tpm n u yX8_chain cX8_chain 6 (D + 1) [.int 5, .int (nI q)] f := by
  intro Im rowm a w ha hwa hc
  refine jb_CofJ (ini := false) (by decide +kernel) (fun h => by cases h) (Nat.le_of_ble_eq_true rfl) ?_
  obtain ⟨q1, q2, q3, q4⟩ := hfo a ha
  show jb_J _ RX8 cX8_chain 6 (Option.none : Option Jvm.ClassFile.FieldType) false (D + 1) 0 0 0 [some (.ref 1), some (.int 5), some (.int (nI q)), none, none, none] [] [jb_main imm Im (va_up Tm 0 (.ref (1000000 + (2 + u)))) rowm stkm tpm, s1, s2, s3, s4, s5, s6, s7, s8, s9, s10, s11] _
  refine jb_iload_n (pc' := 1) dX8_chain_0 rfl rfl ?_
  refine jb_iconst (pc' := 2) 5 dX8_chain_1 (by decide) rfl ?_
  refine jb_icmp_lt (tgt := 11) (pc' := 5) dX8_chain_2 (by decide) rfl (fun z => absurd z (by decide)) (fun _ => ?_)
  refine jb_aload_n (pc' := 6) dX8_chain_5 rfl rfl ?_
  refine jb_iload_n (pc' := 7) dX8_chain_6 rfl rfl ?_
  refine jb_callV (pc' := 10) (ci := 8) (q := 1) (As := [.int (nI q)]) (a2 := 0) (b2 := 0) wv_X8_63 rfl dX8_chain_7 (hf Im rowm a w (by omega) (by omega) hc) rfl rfl ⟨by omega, Nat.le_of_eq (Nat.zero_add _), Nat.le_of_eq (Nat.zero_add _)⟩ (Nat.le_of_ble_eq_true rfl) rfl (fun r h9 hq => ?_)
  rcases hq with ⟨rfl, I19, b1, k1, hb1, hk1, ⟨hy1, hq1⟩ | ⟨hy1, hq1⟩, rfl⟩
  · show jb_J _ RX8 cX8_chain 6 (Option.none : Option Jvm.ClassFile.FieldType) false (D + 1) 0 0 10 [some (.ref 1), some (.int 5), some (.int (nI q)), none, none, none] [] [jb_main imm I19 (va_up Tm 0 (.ref (1000000 + (2 + u)))) (jp_wr rowm w (f a).2.2) stkm tpm, s1, s2, s3, s4, s5, s6, s7, s8, s9, s10, s11] _
    refine jb_vret dX8_chain_10 ?_
    exact ⟨rfl, I19, b1, k1, hb1, hk1, Or.inl ⟨hy1, hq1⟩, rfl⟩
  · show jb_J _ RX8 cX8_chain 6 (Option.none : Option Jvm.ClassFile.FieldType) false (D + 1) 0 0 10 [some (.ref 1), some (.int 5), some (.int (nI q)), none, none, none] [] [jb_main imm I19 (va_up Tm 0 (.ref (1000000 + (2 + u)))) (jp_wr rowm w (f a).2.2) stkm tpm, s1, s2, s3, s4, s5, s6, s7, s8, s9, s10, s11] _
    refine jb_vret dX8_chain_10 ?_
    exact ⟨rfl, I19, b1, k1, hb1, hk1, Or.inr ⟨hy1, hq1⟩, rfl⟩
theorem c_chains {sc : Nat × (Nat → Int32)} {s1 s2 s3 s4 s5 s6 s7 s8 s9 s10 s11 : List va_E} (imm : Int32) (Tm : Nat → Value) (stkm tpm : Nat → Int32) {B : Nat → Int32} {n u : Nat} (hB : ∀ k, k < n → tpm k = B k) (hy8 : jp_by B n) (hn : n ≤ 50) (hu : u < 2) (q : Nat) (hq5 : q ≤ 5) (f : Nat → jp_R) (hfo : ∀ a, a ≤ n → jp_ok n a (f a)) (D : Nat) (hf : jc_F sc s1 s2 s3 s4 s5 s6 s7 s8 s9 s10 s11 imm Tm stkm tpm n u yX8_operand cX8_operand 3 D [.int (nI q)] (f)) : jc_F sc s1 s2 s3 s4 s5 s6 s7 s8 s9 s10 s11 imm Tm stkm tpm n u yX8_chain cX8_chain 6 (D + 6) [.int 0, .int (nI q)] (jp_up B n f 5) := by
  have h0 : jc_F sc s1 s2 s3 s4 s5 s6 s7 s8 s9 s10 s11 imm Tm stkm tpm n u yX8_chain cX8_chain 6 (D + 1) [.int 5, .int (nI q)] (jp_up B n f 0) := c_chain5 imm Tm stkm tpm hB hy8 hn hu q f hfo D hf
  have h1 : jc_F sc s1 s2 s3 s4 s5 s6 s7 s8 s9 s10 s11 imm Tm stkm tpm n u yX8_chain cX8_chain 6 (D + 2) [.int 4, .int (nI q)] (jp_up B n f 1) := by
    rw [jp_up_s]
    exact c_chain4 imm Tm stkm tpm hB hy8 hn hu q hq5 (jp_up B n f 0) (jp_up_ok hfo 0) (D + 1) h0
  have h2 : jc_F sc s1 s2 s3 s4 s5 s6 s7 s8 s9 s10 s11 imm Tm stkm tpm n u yX8_chain cX8_chain 6 (D + 3) [.int 3, .int (nI q)] (jp_up B n f 2) := by
    rw [jp_up_s]
    exact c_chain3 imm Tm stkm tpm hB hy8 hn hu q hq5 (jp_up B n f 1) (jp_up_ok hfo 1) (D + 2) h1
  have h3 : jc_F sc s1 s2 s3 s4 s5 s6 s7 s8 s9 s10 s11 imm Tm stkm tpm n u yX8_chain cX8_chain 6 (D + 4) [.int 2, .int (nI q)] (jp_up B n f 3) := by
    rw [jp_up_s]
    exact c_chain2 imm Tm stkm tpm hB hy8 hn hu q hq5 (jp_up B n f 2) (jp_up_ok hfo 2) (D + 3) h2
  have h4 : jc_F sc s1 s2 s3 s4 s5 s6 s7 s8 s9 s10 s11 imm Tm stkm tpm n u yX8_chain cX8_chain 6 (D + 5) [.int 1, .int (nI q)] (jp_up B n f 4) := by
    rw [jp_up_s]
    exact c_chain1 imm Tm stkm tpm hB hy8 hn hu q hq5 (jp_up B n f 3) (jp_up_ok hfo 3) (D + 4) h3
  have h5 : jc_F sc s1 s2 s3 s4 s5 s6 s7 s8 s9 s10 s11 imm Tm stkm tpm n u yX8_chain cX8_chain 6 (D + 6) [.int 0, .int (nI q)] (jp_up B n f 5) := by
    rw [jp_up_s]
    exact c_chain0 imm Tm stkm tpm hB hy8 hn hu q hq5 (jp_up B n f 4) (jp_up_ok hfo 4) (D + 5) h4
  exact h5
theorem c_ops {sc : Nat × (Nat → Int32)} {s1 s2 s3 s4 s5 s6 s7 s8 s9 s10 s11 : List va_E} (imm : Int32) (Tm : Nat → Value) (stkm tpm : Nat → Int32) {B : Nat → Int32} {n u : Nat} (hB : ∀ k, k < n → tpm k = B k) (hy8 : jp_by B n) (hn : n ≤ 50) (hu : u < 2) : ∀ (o q : Nat), q + o = 5 → jc_F sc s1 s2 s3 s4 s5 s6 s7 s8 s9 s10 s11 imm Tm stkm tpm n u yX8_operand cX8_operand 3 (5 + 8 * o) [.int (nI q)] (jp_op B n u o) := by
  intro o
  induction o with
  | zero =>
    intro q hq
    obtain rfl : q = 5 := by omega
    exact c_operand0 imm Tm stkm tpm hB hy8 hn hu 5 (by omega)
  | succ o ih =>
    intro q hq
    have hU := ih (q + 1) (by omega)
    have hE := c_chains imm Tm stkm tpm hB hy8 hn hu (q + 1) (by omega) (jp_op B n u o) (fun a ha => jp_op_ok o a ha) (5 + 8 * o) hU
    exact c_operand1 imm Tm stkm tpm hB hy8 hn hu (5 + 8 * (o + 1)) (by omega) q o (by omega) (5 + 8 * o) (5 + 8 * o + 6) (by omega) (by omega) hU hE
theorem c_top {sc : Nat × (Nat → Int32)} {s1 s2 s3 s4 s5 s6 s7 s8 s9 s10 s11 : List va_E} (imm : Int32) (Tm : Nat → Value) (stkm tpm : Nat → Int32) {B : Nat → Int32} {n u : Nat} (hB : ∀ k, k < n → tpm k = B k) (hy8 : jp_by B n) (hn : n ≤ 50) (hu : u < 2) : jc_F sc s1 s2 s3 s4 s5 s6 s7 s8 s9 s10 s11 imm Tm stkm tpm n u yX8_chain cX8_chain 6 51 [.int 0, .int (nI 0)] (jp_up B n (jp_op B n u 5) 5) := c_chains imm Tm stkm tpm hB hy8 hn hu 0 (by omega) (jp_op B n u 5) (fun a ha => jp_op_ok 5 a ha) 45 (c_ops imm Tm stkm tpm hB hy8 hn hu 5 0 rfl)
