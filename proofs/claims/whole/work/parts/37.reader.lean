/-- a reader of the class, called with these arguments, does as f says -/
def jc_F (sc : Nat × (Nat → Int32)) (s1 s2 s3 s4 s5 s6 s7 s8 s9 s10 s11 : List va_E) (imm : Int32) (Tm : Nat → Value) (stkm tpm : Nat → Int32) (n u : Nat) (y : MethodName) (cc : ByteArray) (nL D : Nat) (As : List Value) (f : Nat → jp_R) : Prop :=
  ∀ (Im rowm : Nat → Int32) (a w : Nat), a ≤ n → w ≤ a → jc_ Im n a w 0 → jb_C sc y cc nL none D 0 0 (.ref 1 :: As) [jb_main imm Im (va_up Tm 0 (.ref (1000000 + (2 + u)))) rowm stkm tpm, s1, s2, s3, s4, s5, s6, s7, s8, s9, s10, s11] (fun r h9 => r = none ∧ ∃ I9 b9 k9, (f a).1 = b9 ∧ (f a).2.2.length = k9 ∧ (((f a).2.1 = true ∧ jc_ I9 n b9 (w + k9) 0) ∨ ((f a).2.1 = false ∧ jc_ I9 n b9 (w + k9) 1)) ∧ h9 = [jb_main imm I9 (va_up Tm 0 (.ref (1000000 + (2 + u)))) (jp_wr rowm w (f a).2.2) stkm tpm, s1, s2, s3, s4, s5, s6, s7, s8, s9, s10, s11])
set_option maxRecDepth 100000 in
set_option maxHeartbeats 4000000 in
theorem l_num {sc : Nat × (Nat → Int32)} {s1 s2 s3 s4 s5 s6 s7 s8 s9 s10 s11 : List va_E} (imm : Int32) (Tm : Nat → Value) (stkm tpm : Nat → Int32) {B : Nat → Int32} {n u : Nat} (hB : ∀ k, k < n → tpm k = B k) (hy8 : jp_by B n) (hn : n ≤ 50) (hu : u < 2) (D : Nat) (hD : 1 ≤ D) (rowm : Nat → Int32) (w : Nat) (Q : Option Value → jb_H → Prop) : ∀ (k dg a v : Nat) (Im : Nat → Int32), dg + k = 4 → a ≤ n → jc_ Im n a w 0 → (∀ (I9 : Nat → Int32) (dg9 b v9 : Nat), jp_nu B n k a v = (b, v9) → jc_ I9 n b w 0 → jb_J sc RX8 cX8_number 3 (Option.none : Option Jvm.ClassFile.FieldType) false D 0 0 48 [some (.ref 1), some (.int (nI v9)), some (.int (nI dg9))] [] [jb_main imm I9 (va_up Tm 0 (.ref (1000000 + (2 + u)))) rowm stkm tpm, s1, s2, s3, s4, s5, s6, s7, s8, s9, s10, s11] Q) → jb_J sc RX8 cX8_number 3 (Option.none : Option Jvm.ClassFile.FieldType) false D 0 0 4 [some (.ref 1), some (.int (nI v)), some (.int (nI dg))] [] [jb_main imm Im (va_up Tm 0 (.ref (1000000 + (2 + u)))) rowm stkm tpm, s1, s2, s3, s4, s5, s6, s7, s8, s9, s10, s11] Q := by
  intro k
  induction k with
  | zero =>
    intro dg a v Im hk ha hc hQ
    show jb_J _ RX8 cX8_number 3 (Option.none : Option Jvm.ClassFile.FieldType) false D 0 0 4 [some (.ref 1), some (.int (nI v)), some (.int (nI dg))] [] [jb_main imm Im (va_up Tm 0 (.ref (1000000 + (2 + u)))) rowm stkm tpm, s1, s2, s3, s4, s5, s6, s7, s8, s9, s10, s11] _
    refine jb_iload_n (pc' := 5) dX8_number_4 rfl rfl ?_
    refine jb_iconst (pc' := 6) 4 dX8_number_5 (by decide) rfl ?_
    refine jb_icmp_ge (tgt := 48) (pc' := 9) dX8_number_6 (by decide) rfl (fun _ => ?_) (fun z => absurd (nI_le (a := 4) (b := dg) (by omega) (by omega)) z)
    exact hQ Im dg a v rfl hc
  | succ k ih =>
    intro dg a v Im hk ha hc hQ
    show jb_J _ RX8 cX8_number 3 (Option.none : Option Jvm.ClassFile.FieldType) false D 0 0 4 [some (.ref 1), some (.int (nI v)), some (.int (nI dg))] [] [jb_main imm Im (va_up Tm 0 (.ref (1000000 + (2 + u)))) rowm stkm tpm, s1, s2, s3, s4, s5, s6, s7, s8, s9, s10, s11] _
    refine jb_iload_n (pc' := 5) dX8_number_4 rfl rfl ?_
    refine jb_iconst (pc' := 6) 4 dX8_number_5 (by decide) rfl ?_
    refine jb_icmp_ge (tgt := 48) (pc' := 9) dX8_number_6 (by decide) rfl (fun z => absurd z (nI_ge (a := dg) (b := 4) (by omega) (by omega))) (fun _ => ?_)
    refine jb_aload_n (pc' := 10) dX8_number_9 rfl rfl ?_
    refine jb_callV (pc' := 13) (ci := 8) (q := 1) (As := []) (a2 := 0) (b2 := 0) wv_X8_67 rfl dX8_number_10 (c_look imm Tm stkm tpm Im rowm hB hy8 hn hu hc (by omega)) rfl rfl ⟨by omega, Nat.le_of_eq (Nat.zero_add _), Nat.le_of_eq (Nat.zero_add _)⟩ (Nat.le_of_ble_eq_true rfl) rfl (fun r h9 hq => ?_)
    obtain ⟨rfl, rfl⟩ := hq
    show jb_J _ RX8 cX8_number 3 (Option.none : Option Jvm.ClassFile.FieldType) false D 0 0 13 [some (.ref 1), some (.int (nI v)), some (.int (nI dg))] [.int (jp_lk B n a)] [jb_main imm Im (va_up Tm 0 (.ref (1000000 + (2 + u)))) rowm stkm tpm, s1, s2, s3, s4, s5, s6, s7, s8, s9, s10, s11] _
    refine jb_callS (pc' := 16) (As := [.int (jp_lk B n a)]) (a2 := 0) (b2 := 0) wv_X8_78 dX8_number_13 (c_isDigit (jp_lk B n a)) rfl ⟨by omega, Nat.le_of_eq (Nat.zero_add _), Nat.le_of_eq (Nat.zero_add _)⟩ (Nat.le_of_ble_eq_true rfl) rfl (fun r h9 hq => ?_)
    rcases hq with ⟨rfl, ⟨dg1, rfl⟩ | ⟨dg0, rfl⟩⟩
    · show jb_J _ RX8 cX8_number 3 (Option.none : Option Jvm.ClassFile.FieldType) false D 0 0 16 [some (.ref 1), some (.int (nI v)), some (.int (nI dg))] [.int 1] [jb_main imm Im (va_up Tm 0 (.ref (1000000 + (2 + u)))) rowm stkm tpm, s1, s2, s3, s4, s5, s6, s7, s8, s9, s10, s11] _
      refine jb_if_eq (tgt := 48) (pc' := 19) dX8_number_16 (by decide) rfl (fun z => absurd z (by decide)) (fun _ => ?_)
      refine jb_iload_n (pc' := 20) dX8_number_19 rfl rfl ?_
      refine jb_bipush (pc' := 22) 10 dX8_number_20 (by decide) rfl ?_
      refine jb_imul (pc' := 23) dX8_number_22 rfl ?_
      refine jb_aload_n (pc' := 24) dX8_number_23 rfl rfl ?_
      refine jb_callV (pc' := 27) (ci := 8) (q := 1) (As := []) (a2 := 0) (b2 := 0) wv_X8_67 rfl dX8_number_24 (c_look imm Tm stkm tpm Im rowm hB hy8 hn hu hc (by omega)) rfl rfl ⟨by omega, Nat.le_of_eq (Nat.zero_add _), Nat.le_of_eq (Nat.zero_add _)⟩ (Nat.le_of_ble_eq_true rfl) rfl (fun r h9 hq => ?_)
      obtain ⟨rfl, rfl⟩ := hq
      show jb_J _ RX8 cX8_number 3 (Option.none : Option Jvm.ClassFile.FieldType) false D 0 0 27 [some (.ref 1), some (.int (nI v)), some (.int (nI dg))] [.int (jp_lk B n a), .int ((nI v) * 10)] [jb_main imm Im (va_up Tm 0 (.ref (1000000 + (2 + u)))) rowm stkm tpm, s1, s2, s3, s4, s5, s6, s7, s8, s9, s10, s11] _
      refine jb_bipush (pc' := 29) 48 dX8_number_27 (by decide) rfl ?_
      refine jb_isub (pc' := 30) dX8_number_29 rfl ?_
      refine jb_iadd (pc' := 31) dX8_number_30 rfl ?_
      refine jb_top (v := .int (((nI v) * 10) + ((jp_lk B n a) - 48))) (w := .int (nI (v * 10 + jp_dv (jp_lk B n a)))) (jb_vI (jp_nu_st' dg1)) ?_
      refine jb_istore_n_ (pc' := 32) dX8_number_31 (by decide) (jb_at1 rfl) rfl ?_
      refine jb_aload_n (pc' := 33) dX8_number_32 rfl rfl ?_
      refine jb_dup (pc' := 34) dX8_number_33 rfl rfl ?_
      refine gf_X8_25 (pc' := 37) (v := .int (Im 1)) dX8_number_34 rfl rfl rfl ?_
      refine jb_top (v := .int (Im 1)) (w := .int (nI a)) (jb_vI hc.2.1) ?_
      refine jb_iconst (pc' := 38) 1 dX8_number_37 (by decide) rfl ?_
      refine jb_iadd (pc' := 39) dX8_number_38 rfl ?_
      refine jb_top (v := .int ((nI a) + 1)) (w := .int (nI (a + 1))) (jb_vI (nI_add _ 1)) ?_
      refine pf_X8_25 (pc' := 42) (h' := [jb_main imm (upd Im 1 (nI (a + 1))) (va_up Tm 0 (.ref (1000000 + (2 + u)))) rowm stkm tpm, s1, s2, s3, s4, s5, s6, s7, s8, s9, s10, s11]) dX8_number_39 (fun _ => ⟨rfl, rfl⟩) rfl (Nat.le_of_ble_eq_true rfl) rfl rfl ?_
      refine jb_iinc_ (pc' := 45) (nI (dg + 1)) dX8_number_42 (by decide) rfl (jb_inc dg 1) (jb_at2 rfl) rfl ?_
      refine jb_goto (pc' := 4) dX8_number_45 (by decide) ?_
      have ha1 : a < n := jp_in (fun z => by rw [z] at dg1; exact absurd dg1.1 (by decide))
      refine ih (dg + 1) (a + 1) (v * 10 + jp_dv (jp_lk B n a)) (upd Im 1 (nI (a + 1))) (by omega) ha1 (hc.at (b := (a + 1))) (fun I9 dg9 b v9 hw hq9 => ?_)
      exact hQ I9 dg9 b v9 ((if_pos dg1).trans hw) hq9
    · show jb_J _ RX8 cX8_number 3 (Option.none : Option Jvm.ClassFile.FieldType) false D 0 0 16 [some (.ref 1), some (.int (nI v)), some (.int (nI dg))] [.int 0] [jb_main imm Im (va_up Tm 0 (.ref (1000000 + (2 + u)))) rowm stkm tpm, s1, s2, s3, s4, s5, s6, s7, s8, s9, s10, s11] _
      refine jb_if_eq (tgt := 48) (pc' := 19) dX8_number_16 (by decide) rfl (fun _ => ?_) (fun z => absurd (by decide) z)
      exact hQ Im dg a v (if_neg dg0) hc
set_option maxRecDepth 100000 in
set_option maxHeartbeats 4000000 in
theorem c_number {sc : Nat × (Nat → Int32)} {s1 s2 s3 s4 s5 s6 s7 s8 s9 s10 s11 : List va_E} (imm : Int32) (Tm : Nat → Value) (stkm tpm : Nat → Int32) {B : Nat → Int32} {n u : Nat} (hB : ∀ k, k < n → tpm k = B k) (hy8 : jp_by B n) (hn : n ≤ 50) (hu : u < 2) (D : Nat) (hD : 1 ≤ D) (Im rowm : Nat → Int32) (a w : Nat) (ha : a ≤ n) (hwa : w ≤ a) (hc : jc_ Im n a w 0) (hdg : 48 ≤ jp_lk B n a ∧ jp_lk B n a ≤ 57) : jb_C sc yX8_number cX8_number 3 none D 0 0 [.ref 1] [jb_main imm Im (va_up Tm 0 (.ref (1000000 + (2 + u)))) rowm stkm tpm, s1, s2, s3, s4, s5, s6, s7, s8, s9, s10, s11] (fun r h9 => r = none ∧ ∃ I9 b v, jp_nu B n 4 a 0 = (b, v) ∧ jc_ I9 n b (w + 1) 0 ∧ h9 = [jb_main imm I9 (va_up Tm 0 (.ref (1000000 + (2 + u)))) (upd rowm w (nI v)) stkm tpm, s1, s2, s3, s4, s5, s6, s7, s8, s9, s10, s11]) := by
  refine jb_CofJ (ini := false) (by decide +kernel) (fun h => by cases h) (Nat.le_of_ble_eq_true rfl) ?_
  have ha1 : a < n := jp_in (fun z => by rw [z] at hdg; exact absurd hdg.1 (by decide))
  show jb_J _ RX8 cX8_number 3 (Option.none : Option Jvm.ClassFile.FieldType) false D 0 0 0 [some (.ref 1), none, none] [] [jb_main imm Im (va_up Tm 0 (.ref (1000000 + (2 + u)))) rowm stkm tpm, s1, s2, s3, s4, s5, s6, s7, s8, s9, s10, s11] _
  refine jb_iconst (pc' := 1) 0 dX8_number_0 (by decide) rfl ?_
  refine jb_istore_n_ (pc' := 2) dX8_number_1 (by decide) (jb_at1 rfl) rfl ?_
  refine jb_iconst (pc' := 3) 0 dX8_number_2 (by decide) rfl ?_
  refine jb_istore_n_ (pc' := 4) dX8_number_3 (by decide) (jb_at2 rfl) rfl ?_
  refine l_num imm Tm stkm tpm hB hy8 hn hu D hD rowm w _ 4 0 a 0 Im (by omega) ha hc (fun I9 dg9 b v9 hw hq9 => ?_)
  show jb_J _ RX8 cX8_number 3 (Option.none : Option Jvm.ClassFile.FieldType) false D 0 0 48 [some (.ref 1), some (.int (nI v9)), some (.int (nI dg9))] [] [jb_main imm I9 (va_up Tm 0 (.ref (1000000 + (2 + u)))) rowm stkm tpm, s1, s2, s3, s4, s5, s6, s7, s8, s9, s10, s11] _
  refine jb_aload_n (pc' := 49) dX8_number_48 rfl rfl ?_
  refine jb_iload_n (pc' := 50) dX8_number_49 rfl rfl ?_
  refine jb_callV (pc' := 53) (ci := 8) (q := 1) (As := [.int (nI v9)]) (a2 := 0) (b2 := 0) wv_X8_75 rfl dX8_number_50 (c_write imm Tm stkm tpm I9 rowm hq9 (by omega) (nI v9)) rfl rfl ⟨by omega, Nat.le_of_eq (Nat.zero_add _), Nat.le_of_eq (Nat.zero_add _)⟩ (Nat.le_of_ble_eq_true rfl) rfl (fun r h9 hq => ?_)
  obtain ⟨rfl, rfl⟩ := hq
  show jb_J _ RX8 cX8_number 3 (Option.none : Option Jvm.ClassFile.FieldType) false D 0 0 53 [some (.ref 1), some (.int (nI v9)), some (.int (nI dg9))] [] [jb_main imm (upd I9 2 (nI (w + 1))) (va_up Tm 0 (.ref (1000000 + (2 + u)))) (upd rowm w (nI v9)) stkm tpm, s1, s2, s3, s4, s5, s6, s7, s8, s9, s10, s11] _
  refine jb_vret dX8_number_53 ?_
  exact ⟨rfl, _, b, v9, hw, hq9.wr, rfl⟩
set_option maxRecDepth 100000 in
set_option maxHeartbeats 4000000 in
theorem c_name {sc : Nat × (Nat → Int32)} {s1 s2 s3 s4 s5 s6 s7 s8 s9 s10 s11 : List va_E} (imm : Int32) (Tm : Nat → Value) (stkm tpm : Nat → Int32) {B : Nat → Int32} {n u : Nat} (hB : ∀ k, k < n → tpm k = B k) (hy8 : jp_by B n) (hn : n ≤ 50) (hu : u < 2) (D : Nat) (hD : 4 ≤ D) (Im rowm : Nat → Int32) (a w : Nat) (ha : a ≤ n) (hwa : w ≤ a) (hc : jc_ Im n a w 0) : jb_C sc yX8_name cX8_name 3 none D 0 0 [.ref 1, .int (jp_lk B n a)] [jb_main imm Im (va_up Tm 0 (.ref (1000000 + (2 + u)))) rowm stkm tpm, s1, s2, s3, s4, s5, s6, s7, s8, s9, s10, s11] (fun r h9 => r = none ∧ ∃ I9 b9 k9, (jp_nm u a (jp_lk B n a)).1 = b9 ∧ (jp_nm u a (jp_lk B n a)).2.2.length = k9 ∧ (((jp_nm u a (jp_lk B n a)).2.1 = true ∧ jc_ I9 n b9 (w + k9) 0) ∨ ((jp_nm u a (jp_lk B n a)).2.1 = false ∧ jc_ I9 n b9 (w + k9) 1)) ∧ h9 = [jb_main imm I9 (va_up Tm 0 (.ref (1000000 + (2 + u)))) (jp_wr rowm w (jp_nm u a (jp_lk B n a)).2.2) stkm tpm, s1, s2, s3, s4, s5, s6, s7, s8, s9, s10, s11]) := by
  refine jb_CofJ (ini := false) (by decide +kernel) (fun h => by cases h) (Nat.le_of_ble_eq_true rfl) ?_
  rcases hy8.lk a with hs | ⟨s, hs8, hs⟩
  · rw [hs]
    show jb_J _ RX8 cX8_name 3 (Option.none : Option Jvm.ClassFile.FieldType) false D 0 0 0 [some (.ref 1), some (.int (-1)), none] [] [jb_main imm Im (va_up Tm 0 (.ref (1000000 + (2 + u)))) rowm stkm tpm, s1, s2, s3, s4, s5, s6, s7, s8, s9, s10, s11] _
    refine jb_iload_n (pc' := 1) dX8_name_0 rfl rfl ?_
    refine jb_if_ge (tgt := 8) (pc' := 4) dX8_name_1 (by decide) rfl (fun z => absurd z (by decide)) (fun _ => ?_)
    refine jb_iconst (pc' := 5) (-1) dX8_name_4 (by decide) rfl ?_
    refine jb_goto (pc' := 17) dX8_name_5 (by decide) ?_
    refine jb_istore_n_ (pc' := 18) dX8_name_17 (by decide) (jb_at2 rfl) rfl ?_
    refine jb_iload_n (pc' := 19) dX8_name_18 rfl rfl ?_
    refine jb_if_ge (tgt := 28) (pc' := 22) dX8_name_19 (by decide) rfl (fun z => absurd z (by decide)) (fun _ => ?_)
    refine jb_aload_n (pc' := 23) dX8_name_22 rfl rfl ?_
    refine jb_iconst (pc' := 24) 1 dX8_name_23 (by decide) rfl ?_
    refine pf_X8_31 (pc' := 27) (h' := [jb_main imm (upd Im 3 1) (va_up Tm 0 (.ref (1000000 + (2 + u)))) rowm stkm tpm, s1, s2, s3, s4, s5, s6, s7, s8, s9, s10, s11]) dX8_name_24 (fun _ => ⟨rfl, rfl⟩) rfl (Nat.le_of_ble_eq_true rfl) rfl rfl ?_
    refine jb_vret dX8_name_27 ?_
    have en : jp_na u (-1) = none := by unfold jp_na; split <;> rfl
    have e8 : jp_nm u a (-1) = (a, false, []) := by unfold jp_nm; rw [en]
    rw [e8]
    exact ⟨rfl, _, a, 0, rfl, rfl, Or.inr ⟨rfl, (hc.flt (f2 := 1))⟩, rfl⟩
  · rw [hs]
    show jb_J _ RX8 cX8_name 3 (Option.none : Option Jvm.ClassFile.FieldType) false D 0 0 0 [some (.ref 1), some (.int (nI s)), none] [] [jb_main imm Im (va_up Tm 0 (.ref (1000000 + (2 + u)))) rowm stkm tpm, s1, s2, s3, s4, s5, s6, s7, s8, s9, s10, s11] _
    refine jb_iload_n (pc' := 1) dX8_name_0 rfl rfl ?_
    refine jb_if_ge (tgt := 8) (pc' := 4) dX8_name_1 (by decide) rfl (fun _ => ?_) (fun z => absurd (nI_pos' (n := s) (by omega)) z)
    refine jb_aload_n (pc' := 9) dX8_name_8 rfl rfl ?_
    refine gf_X8_37 (pc' := 12) (v := .ref (1000000 + (2 + u))) dX8_name_9 rfl rfl rfl ?_
    refine jb_iload_n (pc' := 13) dX8_name_12 rfl rfl ?_
    refine jb_i2c (pc' := 14) dX8_name_13 rfl ?_
    refine jb_top (v := .int (((nI s).toUInt32 % 65536).toInt32)) (w := .int (nI s)) (jb_vI (jp_c16 s hs8)) ?_
    refine jb_callR (pc' := 17) (As := [.int (nI s)]) (a2 := 0) (b2 := 0) hu wv_X8_91 dX8_name_14 (c_idx _ hu s hs8) rfl ⟨by omega, Nat.le_of_eq (Nat.zero_add _), Nat.le_of_eq (Nat.zero_add _)⟩ (Nat.le_of_ble_eq_true rfl) rfl (fun r h9 hq => ?_)
    rcases hq with ⟨rfl, ⟨en, rfl⟩ | ⟨i, hi, en, rfl⟩⟩
    · show jb_J _ RX8 cX8_name 3 (Option.none : Option Jvm.ClassFile.FieldType) false D 0 0 17 [some (.ref 1), some (.int (nI s)), none] [.int (-1)] [jb_main imm Im (va_up Tm 0 (.ref (1000000 + (2 + u)))) rowm stkm tpm, s1, s2, s3, s4, s5, s6, s7, s8, s9, s10, s11] _
      refine jb_istore_n_ (pc' := 18) dX8_name_17 (by decide) (jb_at2 rfl) rfl ?_
      refine jb_iload_n (pc' := 19) dX8_name_18 rfl rfl ?_
      refine jb_if_ge (tgt := 28) (pc' := 22) dX8_name_19 (by decide) rfl (fun z => absurd z (by decide)) (fun _ => ?_)
      refine jb_aload_n (pc' := 23) dX8_name_22 rfl rfl ?_
      refine jb_iconst (pc' := 24) 1 dX8_name_23 (by decide) rfl ?_
      refine pf_X8_31 (pc' := 27) (h' := [jb_main imm (upd Im 3 1) (va_up Tm 0 (.ref (1000000 + (2 + u)))) rowm stkm tpm, s1, s2, s3, s4, s5, s6, s7, s8, s9, s10, s11]) dX8_name_24 (fun _ => ⟨rfl, rfl⟩) rfl (Nat.le_of_ble_eq_true rfl) rfl rfl ?_
      refine jb_vret dX8_name_27 ?_
      have e8 : jp_nm u a (nI s) = (a, false, []) := by unfold jp_nm; rw [en]
      rw [e8]
      exact ⟨rfl, _, a, 0, rfl, rfl, Or.inr ⟨rfl, (hc.flt (f2 := 1))⟩, rfl⟩
    · show jb_J _ RX8 cX8_name 3 (Option.none : Option Jvm.ClassFile.FieldType) false D 0 0 17 [some (.ref 1), some (.int (nI s)), none] [.int (nI i)] [jb_main imm Im (va_up Tm 0 (.ref (1000000 + (2 + u)))) rowm stkm tpm, s1, s2, s3, s4, s5, s6, s7, s8, s9, s10, s11] _
      refine jb_istore_n_ (pc' := 18) dX8_name_17 (by decide) (jb_at2 rfl) rfl ?_
      refine jb_iload_n (pc' := 19) dX8_name_18 rfl rfl ?_
      refine jb_if_ge (tgt := 28) (pc' := 22) dX8_name_19 (by decide) rfl (fun _ => ?_) (fun z => absurd (nI_pos' (n := i) (by omega)) z)
      have ha1 : a < n := jp_in (fun z => jn_m1 (r := s) (by omega) (z.symm.trans hs))
      refine jb_aload_n (pc' := 29) dX8_name_28 rfl rfl ?_
      refine jb_dup (pc' := 30) dX8_name_29 rfl rfl ?_
      refine gf_X8_25 (pc' := 33) (v := .int (Im 1)) dX8_name_30 rfl rfl rfl ?_
      refine jb_top (v := .int (Im 1)) (w := .int (nI a)) (jb_vI hc.2.1) ?_
      refine jb_iconst (pc' := 34) 1 dX8_name_33 (by decide) rfl ?_
      refine jb_iadd (pc' := 35) dX8_name_34 rfl ?_
      refine jb_top (v := .int ((nI a) + 1)) (w := .int (nI (a + 1))) (jb_vI (nI_add _ 1)) ?_
      refine pf_X8_25 (pc' := 38) (h' := [jb_main imm (upd Im 1 (nI (a + 1))) (va_up Tm 0 (.ref (1000000 + (2 + u)))) rowm stkm tpm, s1, s2, s3, s4, s5, s6, s7, s8, s9, s10, s11]) dX8_name_35 (fun _ => ⟨rfl, rfl⟩) rfl (Nat.le_of_ble_eq_true rfl) rfl rfl ?_
      refine jb_aload_n (pc' := 39) dX8_name_38 rfl rfl ?_
      refine jb_iconst (pc' := 40) (-1) dX8_name_39 (by decide) rfl ?_
      refine jb_iload_n (pc' := 41) dX8_name_40 rfl rfl ?_
      refine jb_isub (pc' := 42) dX8_name_41 rfl ?_
      refine jb_callV (pc' := 45) (ci := 8) (q := 1) (As := [.int ((-1) - (nI i))]) (a2 := 0) (b2 := 0) wv_X8_75 rfl dX8_name_42 (c_write imm Tm stkm tpm (upd Im 1 (nI (a + 1))) rowm (hc.at (b := (a + 1))) (by omega) ((-1) - (nI i))) rfl rfl ⟨by omega, Nat.le_of_eq (Nat.zero_add _), Nat.le_of_eq (Nat.zero_add _)⟩ (Nat.le_of_ble_eq_true rfl) rfl (fun r h9 hq => ?_)
      obtain ⟨rfl, rfl⟩ := hq
      show jb_J _ RX8 cX8_name 3 (Option.none : Option Jvm.ClassFile.FieldType) false D 0 0 45 [some (.ref 1), some (.int (nI s)), some (.int (nI i))] [] [jb_main imm (upd (upd Im 1 (nI (a + 1))) 2 (nI (w + 1))) (va_up Tm 0 (.ref (1000000 + (2 + u)))) (upd rowm w ((-1) - (nI i))) stkm tpm, s1, s2, s3, s4, s5, s6, s7, s8, s9, s10, s11] _
      refine jb_vret dX8_name_45 ?_
      have e8 : jp_nm u a (nI s) = (a + 1, true, [-1 - nI i]) := by unfold jp_nm; rw [en]
      rw [e8]
      exact ⟨rfl, _, a + 1, 1, rfl, rfl, Or.inl ⟨rfl, ((hc.at (b := (a + 1))).wr (b := (w + 1)))⟩, rfl⟩
set_option maxRecDepth 100000 in
set_option maxHeartbeats 4000000 in
theorem c_open6_33 {sc : Nat × (Nat → Int32)} {s1 s2 s3 s4 s5 s6 s7 s8 s9 s10 s11 : List va_E} (imm : Int32) (Tm : Nat → Value) (stkm tpm : Nat → Int32) {B : Nat → Int32} {n u : Nat} (hB : ∀ k, k < n → tpm k = B k) (hy8 : jp_by B n) (hn : n ≤ 50) (hu : u < 2) (D : Nat) (Im rowm : Nat → Int32) (a w : Nat) (ha : a < n) (hwa : w ≤ a) (hc : jc_ Im n a w 0) : jb_C sc yX8_opened cX8_opened 3 none D 0 0 [.ref 1, .int 33, .int (nI 6)] [jb_main imm Im (va_up Tm 0 (.ref (1000000 + (2 + u)))) rowm stkm tpm, s1, s2, s3, s4, s5, s6, s7, s8, s9, s10, s11] (fun r h9 => r = none ∧ ∃ I9 b9 k9, (((a, false, []) : jp_R)).1 = b9 ∧ (((a, false, []) : jp_R)).2.2.length = k9 ∧ (((((a, false, []) : jp_R)).2.1 = true ∧ jc_ I9 n b9 (w + k9) 0) ∨ ((((a, false, []) : jp_R)).2.1 = false ∧ jc_ I9 n b9 (w + k9) 1)) ∧ h9 = [jb_main imm I9 (va_up Tm 0 (.ref (1000000 + (2 + u)))) (jp_wr rowm w (((a, false, []) : jp_R)).2.2) stkm tpm, s1, s2, s3, s4, s5, s6, s7, s8, s9, s10, s11]) := by
  refine jb_CofJ (ini := false) (by decide +kernel) (fun h => by cases h) (Nat.le_of_ble_eq_true rfl) ?_
  show jb_J _ RX8 cX8_opened 3 (Option.none : Option Jvm.ClassFile.FieldType) false D 0 0 0 [some (.ref 1), some (.int 33), some (.int (nI 6))] [] [jb_main imm Im (va_up Tm 0 (.ref (1000000 + (2 + u)))) rowm stkm tpm, s1, s2, s3, s4, s5, s6, s7, s8, s9, s10, s11] _
  refine jb_iload_n (pc' := 1) dX8_opened_0 rfl rfl ?_
  refine jb_iconst (pc' := 2) 5 dX8_opened_1 (by decide) rfl ?_
  refine jb_icmp_le (tgt := 11) (pc' := 5) dX8_opened_2 (by decide) rfl (fun z => absurd z (by decide)) (fun _ => ?_)
  refine jb_aload_n (pc' := 6) dX8_opened_5 rfl rfl ?_
  refine jb_iconst (pc' := 7) 1 dX8_opened_6 (by decide) rfl ?_
  refine pf_X8_31 (pc' := 10) (h' := [jb_main imm (upd Im 3 1) (va_up Tm 0 (.ref (1000000 + (2 + u)))) rowm stkm tpm, s1, s2, s3, s4, s5, s6, s7, s8, s9, s10, s11]) dX8_opened_7 (fun _ => ⟨rfl, rfl⟩) rfl (Nat.le_of_ble_eq_true rfl) rfl rfl ?_
  refine jb_vret dX8_opened_10 ?_
  exact ⟨rfl, _, a, 0, rfl, rfl, Or.inr ⟨rfl, (hc.flt (f2 := 1))⟩, rfl⟩
set_option maxRecDepth 100000 in
set_option maxHeartbeats 4000000 in
theorem c_open6_40 {sc : Nat × (Nat → Int32)} {s1 s2 s3 s4 s5 s6 s7 s8 s9 s10 s11 : List va_E} (imm : Int32) (Tm : Nat → Value) (stkm tpm : Nat → Int32) {B : Nat → Int32} {n u : Nat} (hB : ∀ k, k < n → tpm k = B k) (hy8 : jp_by B n) (hn : n ≤ 50) (hu : u < 2) (D : Nat) (Im rowm : Nat → Int32) (a w : Nat) (ha : a < n) (hwa : w ≤ a) (hc : jc_ Im n a w 0) : jb_C sc yX8_opened cX8_opened 3 none D 0 0 [.ref 1, .int 40, .int (nI 6)] [jb_main imm Im (va_up Tm 0 (.ref (1000000 + (2 + u)))) rowm stkm tpm, s1, s2, s3, s4, s5, s6, s7, s8, s9, s10, s11] (fun r h9 => r = none ∧ ∃ I9 b9 k9, (((a, false, []) : jp_R)).1 = b9 ∧ (((a, false, []) : jp_R)).2.2.length = k9 ∧ (((((a, false, []) : jp_R)).2.1 = true ∧ jc_ I9 n b9 (w + k9) 0) ∨ ((((a, false, []) : jp_R)).2.1 = false ∧ jc_ I9 n b9 (w + k9) 1)) ∧ h9 = [jb_main imm I9 (va_up Tm 0 (.ref (1000000 + (2 + u)))) (jp_wr rowm w (((a, false, []) : jp_R)).2.2) stkm tpm, s1, s2, s3, s4, s5, s6, s7, s8, s9, s10, s11]) := by
  refine jb_CofJ (ini := false) (by decide +kernel) (fun h => by cases h) (Nat.le_of_ble_eq_true rfl) ?_
  show jb_J _ RX8 cX8_opened 3 (Option.none : Option Jvm.ClassFile.FieldType) false D 0 0 0 [some (.ref 1), some (.int 40), some (.int (nI 6))] [] [jb_main imm Im (va_up Tm 0 (.ref (1000000 + (2 + u)))) rowm stkm tpm, s1, s2, s3, s4, s5, s6, s7, s8, s9, s10, s11] _
  refine jb_iload_n (pc' := 1) dX8_opened_0 rfl rfl ?_
  refine jb_iconst (pc' := 2) 5 dX8_opened_1 (by decide) rfl ?_
  refine jb_icmp_le (tgt := 11) (pc' := 5) dX8_opened_2 (by decide) rfl (fun z => absurd z (by decide)) (fun _ => ?_)
  refine jb_aload_n (pc' := 6) dX8_opened_5 rfl rfl ?_
  refine jb_iconst (pc' := 7) 1 dX8_opened_6 (by decide) rfl ?_
  refine pf_X8_31 (pc' := 10) (h' := [jb_main imm (upd Im 3 1) (va_up Tm 0 (.ref (1000000 + (2 + u)))) rowm stkm tpm, s1, s2, s3, s4, s5, s6, s7, s8, s9, s10, s11]) dX8_opened_7 (fun _ => ⟨rfl, rfl⟩) rfl (Nat.le_of_ble_eq_true rfl) rfl rfl ?_
  refine jb_vret dX8_opened_10 ?_
  exact ⟨rfl, _, a, 0, rfl, rfl, Or.inr ⟨rfl, (hc.flt (f2 := 1))⟩, rfl⟩
set_option maxRecDepth 100000 in
set_option maxHeartbeats 4000000 in
theorem c_open_33 {sc : Nat × (Nat → Int32)} {s1 s2 s3 s4 s5 s6 s7 s8 s9 s10 s11 : List va_E} (imm : Int32) (Tm : Nat → Value) (stkm tpm : Nat → Int32) {B : Nat → Int32} {n u : Nat} (hB : ∀ k, k < n → tpm k = B k) (hy8 : jp_by B n) (hn : n ≤ 50) (hu : u < 2) (D : Nat) (q o : Nat) (hq5 : q ≤ 5) (DO : Nat) (hDO : DO + 1 ≤ D) (hf : jc_F sc s1 s2 s3 s4 s5 s6 s7 s8 s9 s10 s11 imm Tm stkm tpm n u yX8_operand cX8_operand 3 DO [.int (nI q)] (jp_op B n u o)) (Im rowm : Nat → Int32) (a w : Nat) (ha : a < n) (hwa : w ≤ a) (hc : jc_ Im n a w 0) : jb_C sc yX8_opened cX8_opened 3 none D 0 0 [.ref 1, .int 33, .int (nI q)] [jb_main imm Im (va_up Tm 0 (.ref (1000000 + (2 + u)))) rowm stkm tpm, s1, s2, s3, s4, s5, s6, s7, s8, s9, s10, s11] (fun r h9 => r = none ∧ ∃ I9 b9 k9, (((jp_op B n u o (a + 1)).1, (jp_op B n u o (a + 1)).2.1, (jp_op B n u o (a + 1)).2.2 ++ [-33])).1 = b9 ∧ (((jp_op B n u o (a + 1)).1, (jp_op B n u o (a + 1)).2.1, (jp_op B n u o (a + 1)).2.2 ++ [-33])).2.2.length = k9 ∧ (((((jp_op B n u o (a + 1)).1, (jp_op B n u o (a + 1)).2.1, (jp_op B n u o (a + 1)).2.2 ++ [-33])).2.1 = true ∧ jc_ I9 n b9 (w + k9) 0) ∨ ((((jp_op B n u o (a + 1)).1, (jp_op B n u o (a + 1)).2.1, (jp_op B n u o (a + 1)).2.2 ++ [-33])).2.1 = false ∧ jc_ I9 n b9 (w + k9) 1)) ∧ h9 = [jb_main imm I9 (va_up Tm 0 (.ref (1000000 + (2 + u)))) (jp_wr rowm w (((jp_op B n u o (a + 1)).1, (jp_op B n u o (a + 1)).2.1, (jp_op B n u o (a + 1)).2.2 ++ [-33])).2.2) stkm tpm, s1, s2, s3, s4, s5, s6, s7, s8, s9, s10, s11]) := by
  refine jb_CofJ (ini := false) (by decide +kernel) (fun h => by cases h) (Nat.le_of_ble_eq_true rfl) ?_
  obtain ⟨q1, q2, q3, q4⟩ := jp_op_ok (B := B) (u := u) o (a + 1) ha
  show jb_J _ RX8 cX8_opened 3 (Option.none : Option Jvm.ClassFile.FieldType) false D 0 0 0 [some (.ref 1), some (.int 33), some (.int (nI q))] [] [jb_main imm Im (va_up Tm 0 (.ref (1000000 + (2 + u)))) rowm stkm tpm, s1, s2, s3, s4, s5, s6, s7, s8, s9, s10, s11] _
  refine jb_iload_n (pc' := 1) dX8_opened_0 rfl rfl ?_
  refine jb_iconst (pc' := 2) 5 dX8_opened_1 (by decide) rfl ?_
  refine jb_icmp_le (tgt := 11) (pc' := 5) dX8_opened_2 (by decide) rfl (fun _ => ?_) (fun z => absurd (nI_le (a := q) (b := 5) (by omega) (by omega)) z)
  refine jb_aload_n (pc' := 12) dX8_opened_11 rfl rfl ?_
  refine jb_dup (pc' := 13) dX8_opened_12 rfl rfl ?_
  refine gf_X8_25 (pc' := 16) (v := .int (Im 1)) dX8_opened_13 rfl rfl rfl ?_
  refine jb_top (v := .int (Im 1)) (w := .int (nI a)) (jb_vI hc.2.1) ?_
  refine jb_iconst (pc' := 17) 1 dX8_opened_16 (by decide) rfl ?_
  refine jb_iadd (pc' := 18) dX8_opened_17 rfl ?_
  refine jb_top (v := .int ((nI a) + 1)) (w := .int (nI (a + 1))) (jb_vI (nI_add _ 1)) ?_
  refine pf_X8_25 (pc' := 21) (h' := [jb_main imm (upd Im 1 (nI (a + 1))) (va_up Tm 0 (.ref (1000000 + (2 + u)))) rowm stkm tpm, s1, s2, s3, s4, s5, s6, s7, s8, s9, s10, s11]) dX8_opened_18 (fun _ => ⟨rfl, rfl⟩) rfl (Nat.le_of_ble_eq_true rfl) rfl rfl ?_
  refine jb_iload_n (pc' := 22) dX8_opened_21 rfl rfl ?_
  refine jb_bipush (pc' := 24) 33 dX8_opened_22 (by decide) rfl ?_
  refine jb_icmp_ne (tgt := 39) (pc' := 27) dX8_opened_24 (by decide) rfl (fun z => absurd (by decide) z) (fun _ => ?_)
  refine jb_aload_n (pc' := 28) dX8_opened_27 rfl rfl ?_
  refine jb_iload_n (pc' := 29) dX8_opened_28 rfl rfl ?_
  refine jb_callV (pc' := 32) (ci := 8) (q := 1) (As := [.int (nI q)]) (a2 := 0) (b2 := 0) wv_X8_63 rfl dX8_opened_29 (hf (upd Im 1 (nI (a + 1))) rowm (a + 1) w (by omega) (by omega) (hc.at (b := (a + 1)))) rfl rfl ⟨by omega, Nat.le_of_eq (Nat.zero_add _), Nat.le_of_eq (Nat.zero_add _)⟩ (Nat.le_of_ble_eq_true rfl) rfl (fun r h9 hq => ?_)
  rcases hq with ⟨rfl, I19, b1, k1, hb1, hk1, ⟨hy1, hq1⟩ | ⟨hy1, hq1⟩, rfl⟩
  · show jb_J _ RX8 cX8_opened 3 (Option.none : Option Jvm.ClassFile.FieldType) false D 0 0 32 [some (.ref 1), some (.int 33), some (.int (nI q))] [] [jb_main imm I19 (va_up Tm 0 (.ref (1000000 + (2 + u)))) (jp_wr rowm w (jp_op B n u o (a + 1)).2.2) stkm tpm, s1, s2, s3, s4, s5, s6, s7, s8, s9, s10, s11] _
    refine jb_aload_n (pc' := 33) dX8_opened_32 rfl rfl ?_
    refine jb_iload_n (pc' := 34) dX8_opened_33 rfl rfl ?_
    refine jb_ineg (pc' := 35) dX8_opened_34 rfl ?_
    refine jb_top (v := .int (-33)) (w := .int (-33)) (jb_vI (by decide)) ?_
    refine jb_callV (pc' := 38) (ci := 8) (q := 1) (As := [.int (-33)]) (a2 := 0) (b2 := 0) wv_X8_75 rfl dX8_opened_35 (c_write imm Tm stkm tpm I19 (jp_wr rowm w (jp_op B n u o (a + 1)).2.2) hq1 (by omega) (-33)) rfl rfl ⟨by omega, Nat.le_of_eq (Nat.zero_add _), Nat.le_of_eq (Nat.zero_add _)⟩ (Nat.le_of_ble_eq_true rfl) rfl (fun r h9 hq => ?_)
    obtain ⟨rfl, rfl⟩ := hq
    show jb_J _ RX8 cX8_opened 3 (Option.none : Option Jvm.ClassFile.FieldType) false D 0 0 38 [some (.ref 1), some (.int 33), some (.int (nI q))] [] [jb_main imm (upd I19 2 (nI ((w + k1) + 1))) (va_up Tm 0 (.ref (1000000 + (2 + u)))) (upd (jp_wr rowm w (jp_op B n u o (a + 1)).2.2) (w + k1) (-33)) stkm tpm, s1, s2, s3, s4, s5, s6, s7, s8, s9, s10, s11] _
    refine jb_vret dX8_opened_38 ?_
    refine ⟨rfl, _, b1, k1 + 1, hb1, (by rw [List.length_append, hk1]; rfl), Or.inl ⟨hy1, (hq1.wr (b := ((w + k1) + 1)))⟩, ?_⟩
    rw [← jp_wr_one rowm w (jp_op B n u o (a + 1)).2.2 (-33) (v := w + k1) (by rw [hk1])]
  · show jb_J _ RX8 cX8_opened 3 (Option.none : Option Jvm.ClassFile.FieldType) false D 0 0 32 [some (.ref 1), some (.int 33), some (.int (nI q))] [] [jb_main imm I19 (va_up Tm 0 (.ref (1000000 + (2 + u)))) (jp_wr rowm w (jp_op B n u o (a + 1)).2.2) stkm tpm, s1, s2, s3, s4, s5, s6, s7, s8, s9, s10, s11] _
    refine jb_aload_n (pc' := 33) dX8_opened_32 rfl rfl ?_
    refine jb_iload_n (pc' := 34) dX8_opened_33 rfl rfl ?_
    refine jb_ineg (pc' := 35) dX8_opened_34 rfl ?_
    refine jb_top (v := .int (-33)) (w := .int (-33)) (jb_vI (by decide)) ?_
    refine jb_callV (pc' := 38) (ci := 8) (q := 1) (As := [.int (-33)]) (a2 := 0) (b2 := 0) wv_X8_75 rfl dX8_opened_35 (c_write imm Tm stkm tpm I19 (jp_wr rowm w (jp_op B n u o (a + 1)).2.2) hq1 (by omega) (-33)) rfl rfl ⟨by omega, Nat.le_of_eq (Nat.zero_add _), Nat.le_of_eq (Nat.zero_add _)⟩ (Nat.le_of_ble_eq_true rfl) rfl (fun r h9 hq => ?_)
    obtain ⟨rfl, rfl⟩ := hq
    show jb_J _ RX8 cX8_opened 3 (Option.none : Option Jvm.ClassFile.FieldType) false D 0 0 38 [some (.ref 1), some (.int 33), some (.int (nI q))] [] [jb_main imm (upd I19 2 (nI ((w + k1) + 1))) (va_up Tm 0 (.ref (1000000 + (2 + u)))) (upd (jp_wr rowm w (jp_op B n u o (a + 1)).2.2) (w + k1) (-33)) stkm tpm, s1, s2, s3, s4, s5, s6, s7, s8, s9, s10, s11] _
    refine jb_vret dX8_opened_38 ?_
    refine ⟨rfl, _, b1, k1 + 1, hb1, (by rw [List.length_append, hk1]; rfl), Or.inr ⟨hy1, (hq1.wr (b := ((w + k1) + 1)))⟩, ?_⟩
    rw [← jp_wr_one rowm w (jp_op B n u o (a + 1)).2.2 (-33) (v := w + k1) (by rw [hk1])]
set_option maxRecDepth 100000 in
set_option maxHeartbeats 4000000 in
theorem c_open_40 {sc : Nat × (Nat → Int32)} {s1 s2 s3 s4 s5 s6 s7 s8 s9 s10 s11 : List va_E} (imm : Int32) (Tm : Nat → Value) (stkm tpm : Nat → Int32) {B : Nat → Int32} {n u : Nat} (hB : ∀ k, k < n → tpm k = B k) (hy8 : jp_by B n) (hn : n ≤ 50) (hu : u < 2) (D : Nat) (q o : Nat) (hq5 : q ≤ 5) (DC : Nat) (hDC : DC + 1 ≤ D) (hf : jc_F sc s1 s2 s3 s4 s5 s6 s7 s8 s9 s10 s11 imm Tm stkm tpm n u yX8_chain cX8_chain 6 DC [.int 0, .int (nI q)] (jp_up B n (jp_op B n u o) 5)) (Im rowm : Nat → Int32) (a w : Nat) (ha : a < n) (hwa : w ≤ a) (hc : jc_ Im n a w 0) : jb_C sc yX8_opened cX8_opened 3 none D 0 0 [.ref 1, .int 40, .int (nI q)] [jb_main imm Im (va_up Tm 0 (.ref (1000000 + (2 + u)))) rowm stkm tpm, s1, s2, s3, s4, s5, s6, s7, s8, s9, s10, s11] (fun r h9 => r = none ∧ ∃ I9 b9 k9, ((if (jp_up B n (jp_op B n u o) 5 (a + 1)).2.1 = true ∧ jp_lk B n (jp_up B n (jp_op B n u o) 5 (a + 1)).1 = 41 then ((jp_up B n (jp_op B n u o) 5 (a + 1)).1 + 1, true, (jp_up B n (jp_op B n u o) 5 (a + 1)).2.2) else ((jp_up B n (jp_op B n u o) 5 (a + 1)).1, false, (jp_up B n (jp_op B n u o) 5 (a + 1)).2.2) : jp_R)).1 = b9 ∧ ((if (jp_up B n (jp_op B n u o) 5 (a + 1)).2.1 = true ∧ jp_lk B n (jp_up B n (jp_op B n u o) 5 (a + 1)).1 = 41 then ((jp_up B n (jp_op B n u o) 5 (a + 1)).1 + 1, true, (jp_up B n (jp_op B n u o) 5 (a + 1)).2.2) else ((jp_up B n (jp_op B n u o) 5 (a + 1)).1, false, (jp_up B n (jp_op B n u o) 5 (a + 1)).2.2) : jp_R)).2.2.length = k9 ∧ ((((if (jp_up B n (jp_op B n u o) 5 (a + 1)).2.1 = true ∧ jp_lk B n (jp_up B n (jp_op B n u o) 5 (a + 1)).1 = 41 then ((jp_up B n (jp_op B n u o) 5 (a + 1)).1 + 1, true, (jp_up B n (jp_op B n u o) 5 (a + 1)).2.2) else ((jp_up B n (jp_op B n u o) 5 (a + 1)).1, false, (jp_up B n (jp_op B n u o) 5 (a + 1)).2.2) : jp_R)).2.1 = true ∧ jc_ I9 n b9 (w + k9) 0) ∨ (((if (jp_up B n (jp_op B n u o) 5 (a + 1)).2.1 = true ∧ jp_lk B n (jp_up B n (jp_op B n u o) 5 (a + 1)).1 = 41 then ((jp_up B n (jp_op B n u o) 5 (a + 1)).1 + 1, true, (jp_up B n (jp_op B n u o) 5 (a + 1)).2.2) else ((jp_up B n (jp_op B n u o) 5 (a + 1)).1, false, (jp_up B n (jp_op B n u o) 5 (a + 1)).2.2) : jp_R)).2.1 = false ∧ jc_ I9 n b9 (w + k9) 1)) ∧ h9 = [jb_main imm I9 (va_up Tm 0 (.ref (1000000 + (2 + u)))) (jp_wr rowm w ((if (jp_up B n (jp_op B n u o) 5 (a + 1)).2.1 = true ∧ jp_lk B n (jp_up B n (jp_op B n u o) 5 (a + 1)).1 = 41 then ((jp_up B n (jp_op B n u o) 5 (a + 1)).1 + 1, true, (jp_up B n (jp_op B n u o) 5 (a + 1)).2.2) else ((jp_up B n (jp_op B n u o) 5 (a + 1)).1, false, (jp_up B n (jp_op B n u o) 5 (a + 1)).2.2) : jp_R)).2.2) stkm tpm, s1, s2, s3, s4, s5, s6, s7, s8, s9, s10, s11]) := by
  refine jb_CofJ (ini := false) (by decide +kernel) (fun h => by cases h) (Nat.le_of_ble_eq_true rfl) ?_
  obtain ⟨q1, q2, q3, q4⟩ := jp_up_ok (B := B) (fun a ha => jp_op_ok (B := B) (u := u) o a ha) 5 (a + 1) ha
  show jb_J _ RX8 cX8_opened 3 (Option.none : Option Jvm.ClassFile.FieldType) false D 0 0 0 [some (.ref 1), some (.int 40), some (.int (nI q))] [] [jb_main imm Im (va_up Tm 0 (.ref (1000000 + (2 + u)))) rowm stkm tpm, s1, s2, s3, s4, s5, s6, s7, s8, s9, s10, s11] _
  refine jb_iload_n (pc' := 1) dX8_opened_0 rfl rfl ?_
  refine jb_iconst (pc' := 2) 5 dX8_opened_1 (by decide) rfl ?_
  refine jb_icmp_le (tgt := 11) (pc' := 5) dX8_opened_2 (by decide) rfl (fun _ => ?_) (fun z => absurd (nI_le (a := q) (b := 5) (by omega) (by omega)) z)
  refine jb_aload_n (pc' := 12) dX8_opened_11 rfl rfl ?_
  refine jb_dup (pc' := 13) dX8_opened_12 rfl rfl ?_
  refine gf_X8_25 (pc' := 16) (v := .int (Im 1)) dX8_opened_13 rfl rfl rfl ?_
  refine jb_top (v := .int (Im 1)) (w := .int (nI a)) (jb_vI hc.2.1) ?_
  refine jb_iconst (pc' := 17) 1 dX8_opened_16 (by decide) rfl ?_
  refine jb_iadd (pc' := 18) dX8_opened_17 rfl ?_
  refine jb_top (v := .int ((nI a) + 1)) (w := .int (nI (a + 1))) (jb_vI (nI_add _ 1)) ?_
  refine pf_X8_25 (pc' := 21) (h' := [jb_main imm (upd Im 1 (nI (a + 1))) (va_up Tm 0 (.ref (1000000 + (2 + u)))) rowm stkm tpm, s1, s2, s3, s4, s5, s6, s7, s8, s9, s10, s11]) dX8_opened_18 (fun _ => ⟨rfl, rfl⟩) rfl (Nat.le_of_ble_eq_true rfl) rfl rfl ?_
  refine jb_iload_n (pc' := 22) dX8_opened_21 rfl rfl ?_
  refine jb_bipush (pc' := 24) 33 dX8_opened_22 (by decide) rfl ?_
  refine jb_icmp_ne (tgt := 39) (pc' := 27) dX8_opened_24 (by decide) rfl (fun _ => ?_) (fun z => absurd z (by decide))
  refine jb_aload_n (pc' := 40) dX8_opened_39 rfl rfl ?_
  refine jb_iconst (pc' := 41) 0 dX8_opened_40 (by decide) rfl ?_
  refine jb_iload_n (pc' := 42) dX8_opened_41 rfl rfl ?_
  refine jb_callV (pc' := 45) (ci := 8) (q := 1) (As := [.int 0, .int (nI q)]) (a2 := 0) (b2 := 0) wv_X8_53 rfl dX8_opened_42 (hf (upd Im 1 (nI (a + 1))) rowm (a + 1) w (by omega) (by omega) (hc.at (b := (a + 1)))) rfl rfl ⟨by omega, Nat.le_of_eq (Nat.zero_add _), Nat.le_of_eq (Nat.zero_add _)⟩ (Nat.le_of_ble_eq_true rfl) rfl (fun r h9 hq => ?_)
  rcases hq with ⟨rfl, I19, b1, k1, hb1, hk1, ⟨hy1, hq1⟩ | ⟨hy1, hq1⟩, rfl⟩
  · show jb_J _ RX8 cX8_opened 3 (Option.none : Option Jvm.ClassFile.FieldType) false D 0 0 45 [some (.ref 1), some (.int 40), some (.int (nI q))] [] [jb_main imm I19 (va_up Tm 0 (.ref (1000000 + (2 + u)))) (jp_wr rowm w (jp_up B n (jp_op B n u o) 5 (a + 1)).2.2) stkm tpm, s1, s2, s3, s4, s5, s6, s7, s8, s9, s10, s11] _
    refine jb_aload_n (pc' := 46) dX8_opened_45 rfl rfl ?_
    refine gf_X8_31 (pc' := 49) (v := .int (I19 3)) dX8_opened_46 rfl rfl rfl ?_
    refine jb_top (v := .int (I19 3)) (w := .int 0) (jb_vI hq1.2.2.2) ?_
    refine jb_if_ne (tgt := 61) (pc' := 52) dX8_opened_49 (by decide) rfl (fun z => absurd (by decide) z) (fun _ => ?_)
    refine jb_aload_n (pc' := 53) dX8_opened_52 rfl rfl ?_
    refine jb_callV (pc' := 56) (ci := 8) (q := 1) (As := []) (a2 := 0) (b2 := 0) wv_X8_67 rfl dX8_opened_53 (c_look imm Tm stkm tpm I19 (jp_wr rowm w (jp_up B n (jp_op B n u o) 5 (a + 1)).2.2) hB hy8 hn hu hq1 (by omega)) rfl rfl ⟨by omega, Nat.le_of_eq (Nat.zero_add _), Nat.le_of_eq (Nat.zero_add _)⟩ (Nat.le_of_ble_eq_true rfl) rfl (fun r h9 hq => ?_)
    obtain ⟨rfl, rfl⟩ := hq
    show jb_J _ RX8 cX8_opened 3 (Option.none : Option Jvm.ClassFile.FieldType) false D 0 0 56 [some (.ref 1), some (.int 40), some (.int (nI q))] [.int (jp_lk B n b1)] [jb_main imm I19 (va_up Tm 0 (.ref (1000000 + (2 + u)))) (jp_wr rowm w (jp_up B n (jp_op B n u o) 5 (a + 1)).2.2) stkm tpm, s1, s2, s3, s4, s5, s6, s7, s8, s9, s10, s11] _
    refine jb_bipush (pc' := 58) 41 dX8_opened_56 (by decide) rfl ?_
    refine jb_icmp_eq (tgt := 67) (pc' := 61) dX8_opened_58 (by decide) rfl (fun h41 => ?_) (fun h41 => ?_)
    · refine jb_aload_n (pc' := 68) dX8_opened_67 rfl rfl ?_
      refine jb_dup (pc' := 69) dX8_opened_68 rfl rfl ?_
      refine gf_X8_25 (pc' := 72) (v := .int (I19 1)) dX8_opened_69 rfl rfl rfl ?_
      refine jb_top (v := .int (I19 1)) (w := .int (nI b1)) (jb_vI hq1.2.1) ?_
      refine jb_iconst (pc' := 73) 1 dX8_opened_72 (by decide) rfl ?_
      refine jb_iadd (pc' := 74) dX8_opened_73 rfl ?_
      refine jb_top (v := .int ((nI b1) + 1)) (w := .int (nI (b1 + 1))) (jb_vI (nI_add _ 1)) ?_
      refine pf_X8_25 (pc' := 77) (h' := [jb_main imm (upd I19 1 (nI (b1 + 1))) (va_up Tm 0 (.ref (1000000 + (2 + u)))) (jp_wr rowm w (jp_up B n (jp_op B n u o) 5 (a + 1)).2.2) stkm tpm, s1, s2, s3, s4, s5, s6, s7, s8, s9, s10, s11]) dX8_opened_74 (fun _ => ⟨rfl, rfl⟩) rfl (Nat.le_of_ble_eq_true rfl) rfl rfl ?_
      refine jb_vret dX8_opened_77 ?_
      rw [if_pos ⟨hy1, by rw [hb1]; exact h41⟩]
      exact ⟨rfl, _, b1 + 1, k1, by rw [hb1], hk1, Or.inl ⟨rfl, (hq1.at (b := (b1 + 1)))⟩, rfl⟩
    · refine jb_aload_n (pc' := 62) dX8_opened_61 rfl rfl ?_
      refine jb_iconst (pc' := 63) 1 dX8_opened_62 (by decide) rfl ?_
      refine pf_X8_31 (pc' := 66) (h' := [jb_main imm (upd I19 3 1) (va_up Tm 0 (.ref (1000000 + (2 + u)))) (jp_wr rowm w (jp_up B n (jp_op B n u o) 5 (a + 1)).2.2) stkm tpm, s1, s2, s3, s4, s5, s6, s7, s8, s9, s10, s11]) dX8_opened_63 (fun _ => ⟨rfl, rfl⟩) rfl (Nat.le_of_ble_eq_true rfl) rfl rfl ?_
      refine jb_vret dX8_opened_66 ?_
      rw [if_neg (fun z => by rw [hb1] at z; exact h41 z.2)]
      exact ⟨rfl, _, b1, k1, hb1, hk1, Or.inr ⟨rfl, (hq1.flt (f2 := 1))⟩, rfl⟩
  · show jb_J _ RX8 cX8_opened 3 (Option.none : Option Jvm.ClassFile.FieldType) false D 0 0 45 [some (.ref 1), some (.int 40), some (.int (nI q))] [] [jb_main imm I19 (va_up Tm 0 (.ref (1000000 + (2 + u)))) (jp_wr rowm w (jp_up B n (jp_op B n u o) 5 (a + 1)).2.2) stkm tpm, s1, s2, s3, s4, s5, s6, s7, s8, s9, s10, s11] _
    refine jb_aload_n (pc' := 46) dX8_opened_45 rfl rfl ?_
    refine gf_X8_31 (pc' := 49) (v := .int (I19 3)) dX8_opened_46 rfl rfl rfl ?_
    refine jb_top (v := .int (I19 3)) (w := .int 1) (jb_vI hq1.2.2.2) ?_
    refine jb_if_ne (tgt := 61) (pc' := 52) dX8_opened_49 (by decide) rfl (fun _ => ?_) (fun z => absurd z (by decide))
    refine jb_aload_n (pc' := 62) dX8_opened_61 rfl rfl ?_
    refine jb_iconst (pc' := 63) 1 dX8_opened_62 (by decide) rfl ?_
    refine pf_X8_31 (pc' := 66) (h' := [jb_main imm (upd I19 3 1) (va_up Tm 0 (.ref (1000000 + (2 + u)))) (jp_wr rowm w (jp_up B n (jp_op B n u o) 5 (a + 1)).2.2) stkm tpm, s1, s2, s3, s4, s5, s6, s7, s8, s9, s10, s11]) dX8_opened_63 (fun _ => ⟨rfl, rfl⟩) rfl (Nat.le_of_ble_eq_true rfl) rfl rfl ?_
    refine jb_vret dX8_opened_66 ?_
    rw [if_neg (fun z => by rw [hy1] at z; exact absurd z.1 (by decide))]
    exact ⟨rfl, _, b1, k1, hb1, hk1, Or.inr ⟨rfl, (hq1.flt (f2 := 1))⟩, rfl⟩
set_option maxRecDepth 100000 in
set_option maxHeartbeats 4000000 in
theorem c_operand0 {sc : Nat × (Nat → Int32)} {s1 s2 s3 s4 s5 s6 s7 s8 s9 s10 s11 : List va_E} (imm : Int32) (Tm : Nat → Value) (stkm tpm : Nat → Int32) {B : Nat → Int32} {n u : Nat} (hB : ∀ k, k < n → tpm k = B k) (hy8 : jp_by B n) (hn : n ≤ 50) (hu : u < 2) (D : Nat) (hD : 5 ≤ D) : jc_F sc s1 s2 s3 s4 s5 s6 s7 s8 s9 s10 s11 imm Tm stkm tpm n u yX8_operand cX8_operand 3 D [.int (nI 5)] (jp_op B n u 0) := by
  intro Im rowm a w ha hwa hc
  refine jb_CofJ (ini := false) (by decide +kernel) (fun h => by cases h) (Nat.le_of_ble_eq_true rfl) ?_
  by_cases hdg : 48 ≤ jp_lk B n a ∧ jp_lk B n a ≤ 57
  · have n33 : ¬ jp_lk B n a = 33 := fun z => by rw [z] at hdg; exact absurd hdg.1 (by decide)
    have n40 : ¬ jp_lk B n a = 40 := fun z => by rw [z] at hdg; exact absurd hdg.1 (by decide)
    show jb_J _ RX8 cX8_operand 3 (Option.none : Option Jvm.ClassFile.FieldType) false D 0 0 0 [some (.ref 1), some (.int (nI 5)), none] [] [jb_main imm Im (va_up Tm 0 (.ref (1000000 + (2 + u)))) rowm stkm tpm, s1, s2, s3, s4, s5, s6, s7, s8, s9, s10, s11] _
    refine jb_aload_n (pc' := 1) dX8_operand_0 rfl rfl ?_
    refine jb_callV (pc' := 4) (ci := 8) (q := 1) (As := []) (a2 := 0) (b2 := 0) wv_X8_67 rfl dX8_operand_1 (c_look imm Tm stkm tpm Im rowm hB hy8 hn hu hc (by omega)) rfl rfl ⟨by omega, Nat.le_of_eq (Nat.zero_add _), Nat.le_of_eq (Nat.zero_add _)⟩ (Nat.le_of_ble_eq_true rfl) rfl (fun r h9 hq => ?_)
    obtain ⟨rfl, rfl⟩ := hq
    show jb_J _ RX8 cX8_operand 3 (Option.none : Option Jvm.ClassFile.FieldType) false D 0 0 4 [some (.ref 1), some (.int (nI 5)), none] [.int (jp_lk B n a)] [jb_main imm Im (va_up Tm 0 (.ref (1000000 + (2 + u)))) rowm stkm tpm, s1, s2, s3, s4, s5, s6, s7, s8, s9, s10, s11] _
    refine jb_istore_n_ (pc' := 5) dX8_operand_4 (by decide) (jb_at2 rfl) rfl ?_
    refine jb_iload_n (pc' := 6) dX8_operand_5 rfl rfl ?_
    refine jb_callS (pc' := 9) (As := [.int (jp_lk B n a)]) (a2 := 0) (b2 := 0) wv_X8_78 dX8_operand_6 (c_isDigit (jp_lk B n a)) rfl ⟨by omega, Nat.le_of_eq (Nat.zero_add _), Nat.le_of_eq (Nat.zero_add _)⟩ (Nat.le_of_ble_eq_true rfl) rfl (fun r h9 hq => ?_)
    rcases hq with ⟨rfl, ⟨dg1, rfl⟩ | ⟨dg0, rfl⟩⟩
    · show jb_J _ RX8 cX8_operand 3 (Option.none : Option Jvm.ClassFile.FieldType) false D 0 0 9 [some (.ref 1), some (.int (nI 5)), some (.int (jp_lk B n a))] [.int 1] [jb_main imm Im (va_up Tm 0 (.ref (1000000 + (2 + u)))) rowm stkm tpm, s1, s2, s3, s4, s5, s6, s7, s8, s9, s10, s11] _
      refine jb_if_eq (tgt := 19) (pc' := 12) dX8_operand_9 (by decide) rfl (fun z => absurd z (by decide)) (fun _ => ?_)
      refine jb_aload_n (pc' := 13) dX8_operand_12 rfl rfl ?_
      refine jb_callV (pc' := 16) (ci := 8) (q := 1) (As := []) (a2 := 0) (b2 := 0) wv_X8_82 rfl dX8_operand_13 (c_number imm Tm stkm tpm hB hy8 hn hu (D - 1) (by omega) Im rowm a w ha hwa hc hdg) rfl rfl ⟨by omega, Nat.le_of_eq (Nat.zero_add _), Nat.le_of_eq (Nat.zero_add _)⟩ (Nat.le_of_ble_eq_true rfl) rfl (fun r h9 hq => ?_)
      obtain ⟨rfl, I19, b1, v1, hw, hq1, rfl⟩ := hq
      show jb_J _ RX8 cX8_operand 3 (Option.none : Option Jvm.ClassFile.FieldType) false D 0 0 16 [some (.ref 1), some (.int (nI 5)), some (.int (jp_lk B n a))] [] [jb_main imm I19 (va_up Tm 0 (.ref (1000000 + (2 + u)))) (upd rowm w (nI v1)) stkm tpm, s1, s2, s3, s4, s5, s6, s7, s8, s9, s10, s11] _
      refine jb_goto (pc' := 47) dX8_operand_16 (by decide) ?_
      refine jb_vret dX8_operand_47 ?_
      have eb : (jp_nu B n 4 a 0).1 = b1 := by rw [hw]
      have ew : (jp_nu B n 4 a 0).2 = v1 := by rw [hw]
      rw [jp_op_dg _ hdg, eb, ew]
      exact ⟨rfl, I19, b1, 1, rfl, rfl, Or.inl ⟨rfl, hq1⟩, rfl⟩
    · exact absurd hdg dg0
  by_cases hs : jp_lk B n a = 33
  · have ha1 : a < n := jp_in (fun z => by rw [hs] at z; exact absurd z (by decide))
    show jb_J _ RX8 cX8_operand 3 (Option.none : Option Jvm.ClassFile.FieldType) false D 0 0 0 [some (.ref 1), some (.int (nI 5)), none] [] [jb_main imm Im (va_up Tm 0 (.ref (1000000 + (2 + u)))) rowm stkm tpm, s1, s2, s3, s4, s5, s6, s7, s8, s9, s10, s11] _
    refine jb_aload_n (pc' := 1) dX8_operand_0 rfl rfl ?_
    refine jb_callV (pc' := 4) (ci := 8) (q := 1) (As := []) (a2 := 0) (b2 := 0) wv_X8_67 rfl dX8_operand_1 (c_look imm Tm stkm tpm Im rowm hB hy8 hn hu hc (by omega)) rfl rfl ⟨by omega, Nat.le_of_eq (Nat.zero_add _), Nat.le_of_eq (Nat.zero_add _)⟩ (Nat.le_of_ble_eq_true rfl) rfl (fun r h9 hq => ?_)
    obtain ⟨rfl, rfl⟩ := hq
    rw [hs]
    show jb_J _ RX8 cX8_operand 3 (Option.none : Option Jvm.ClassFile.FieldType) false D 0 0 4 [some (.ref 1), some (.int (nI 5)), none] [.int 33] [jb_main imm Im (va_up Tm 0 (.ref (1000000 + (2 + u)))) rowm stkm tpm, s1, s2, s3, s4, s5, s6, s7, s8, s9, s10, s11] _
    refine jb_istore_n_ (pc' := 5) dX8_operand_4 (by decide) (jb_at2 rfl) rfl ?_
    refine jb_iload_n (pc' := 6) dX8_operand_5 rfl rfl ?_
    refine jb_callS (pc' := 9) (As := [.int 33]) (a2 := 0) (b2 := 0) wv_X8_78 dX8_operand_6 (c_isDigit 33) rfl ⟨by omega, Nat.le_of_eq (Nat.zero_add _), Nat.le_of_eq (Nat.zero_add _)⟩ (Nat.le_of_ble_eq_true rfl) rfl (fun r h9 hq => ?_)
    rcases hq with ⟨rfl, ⟨dg1, rfl⟩ | ⟨dg0, rfl⟩⟩
    · exact absurd dg1 (by decide)
    · show jb_J _ RX8 cX8_operand 3 (Option.none : Option Jvm.ClassFile.FieldType) false D 0 0 9 [some (.ref 1), some (.int (nI 5)), some (.int 33)] [.int 0] [jb_main imm Im (va_up Tm 0 (.ref (1000000 + (2 + u)))) rowm stkm tpm, s1, s2, s3, s4, s5, s6, s7, s8, s9, s10, s11] _
      refine jb_if_eq (tgt := 19) (pc' := 12) dX8_operand_9 (by decide) rfl (fun _ => ?_) (fun z => absurd (by decide) z)
      refine jb_iload_n (pc' := 20) dX8_operand_19 rfl rfl ?_
      refine jb_bipush (pc' := 22) 33 dX8_operand_20 (by decide) rfl ?_
      refine jb_icmp_eq (tgt := 31) (pc' := 25) dX8_operand_22 (by decide) rfl (fun _ => ?_) (fun z => absurd (by decide) z)
      refine jb_aload_n (pc' := 32) dX8_operand_31 rfl rfl ?_
      refine jb_iload_n (pc' := 33) dX8_operand_32 rfl rfl ?_
      refine jb_iload_n (pc' := 34) dX8_operand_33 rfl rfl ?_
      refine jb_iconst (pc' := 35) 1 dX8_operand_34 (by decide) rfl ?_
      refine jb_iadd (pc' := 36) dX8_operand_35 rfl ?_
      refine jb_top (v := .int ((nI 5) + 1)) (w := .int (nI 6)) (jb_vI (by decide)) ?_
      refine jb_callV (pc' := 39) (ci := 8) (q := 1) (As := [.int 33, .int (nI 6)]) (a2 := 0) (b2 := 0) wv_X8_85 rfl dX8_operand_36 (c_open6_33 imm Tm stkm tpm hB hy8 hn hu (D - 1) Im rowm a w ha1 hwa hc) rfl rfl ⟨by omega, Nat.le_of_eq (Nat.zero_add _), Nat.le_of_eq (Nat.zero_add _)⟩ (Nat.le_of_ble_eq_true rfl) rfl (fun r h9 hq => ?_)
      obtain ⟨rfl, I9, b, k, hb, hk, hab, rfl⟩ := hq
      refine jb_goto (pc' := 47) dX8_operand_39 (by decide) ?_
      refine jb_vret dX8_operand_47 ?_
      rw [jp_op_0 hs (by decide)]
      exact ⟨rfl, I9, b, k, hb, hk, hab, rfl⟩
  have n33 := hs
  clear hs
  by_cases hs : jp_lk B n a = 40
  · have ha1 : a < n := jp_in (fun z => by rw [hs] at z; exact absurd z (by decide))
    show jb_J _ RX8 cX8_operand 3 (Option.none : Option Jvm.ClassFile.FieldType) false D 0 0 0 [some (.ref 1), some (.int (nI 5)), none] [] [jb_main imm Im (va_up Tm 0 (.ref (1000000 + (2 + u)))) rowm stkm tpm, s1, s2, s3, s4, s5, s6, s7, s8, s9, s10, s11] _
    refine jb_aload_n (pc' := 1) dX8_operand_0 rfl rfl ?_
    refine jb_callV (pc' := 4) (ci := 8) (q := 1) (As := []) (a2 := 0) (b2 := 0) wv_X8_67 rfl dX8_operand_1 (c_look imm Tm stkm tpm Im rowm hB hy8 hn hu hc (by omega)) rfl rfl ⟨by omega, Nat.le_of_eq (Nat.zero_add _), Nat.le_of_eq (Nat.zero_add _)⟩ (Nat.le_of_ble_eq_true rfl) rfl (fun r h9 hq => ?_)
    obtain ⟨rfl, rfl⟩ := hq
    rw [hs]
    show jb_J _ RX8 cX8_operand 3 (Option.none : Option Jvm.ClassFile.FieldType) false D 0 0 4 [some (.ref 1), some (.int (nI 5)), none] [.int 40] [jb_main imm Im (va_up Tm 0 (.ref (1000000 + (2 + u)))) rowm stkm tpm, s1, s2, s3, s4, s5, s6, s7, s8, s9, s10, s11] _
    refine jb_istore_n_ (pc' := 5) dX8_operand_4 (by decide) (jb_at2 rfl) rfl ?_
    refine jb_iload_n (pc' := 6) dX8_operand_5 rfl rfl ?_
    refine jb_callS (pc' := 9) (As := [.int 40]) (a2 := 0) (b2 := 0) wv_X8_78 dX8_operand_6 (c_isDigit 40) rfl ⟨by omega, Nat.le_of_eq (Nat.zero_add _), Nat.le_of_eq (Nat.zero_add _)⟩ (Nat.le_of_ble_eq_true rfl) rfl (fun r h9 hq => ?_)
    rcases hq with ⟨rfl, ⟨dg1, rfl⟩ | ⟨dg0, rfl⟩⟩
    · exact absurd dg1 (by decide)
    · show jb_J _ RX8 cX8_operand 3 (Option.none : Option Jvm.ClassFile.FieldType) false D 0 0 9 [some (.ref 1), some (.int (nI 5)), some (.int 40)] [.int 0] [jb_main imm Im (va_up Tm 0 (.ref (1000000 + (2 + u)))) rowm stkm tpm, s1, s2, s3, s4, s5, s6, s7, s8, s9, s10, s11] _
      refine jb_if_eq (tgt := 19) (pc' := 12) dX8_operand_9 (by decide) rfl (fun _ => ?_) (fun z => absurd (by decide) z)
      refine jb_iload_n (pc' := 20) dX8_operand_19 rfl rfl ?_
      refine jb_bipush (pc' := 22) 33 dX8_operand_20 (by decide) rfl ?_
      refine jb_icmp_eq (tgt := 31) (pc' := 25) dX8_operand_22 (by decide) rfl (fun z => absurd z (by decide)) (fun _ => ?_)
      refine jb_iload_n (pc' := 26) dX8_operand_25 rfl rfl ?_
      refine jb_bipush (pc' := 28) 40 dX8_operand_26 (by decide) rfl ?_
      refine jb_icmp_ne (tgt := 42) (pc' := 31) dX8_operand_28 (by decide) rfl (fun z => absurd (by decide) z) (fun _ => ?_)
      refine jb_aload_n (pc' := 32) dX8_operand_31 rfl rfl ?_
      refine jb_iload_n (pc' := 33) dX8_operand_32 rfl rfl ?_
      refine jb_iload_n (pc' := 34) dX8_operand_33 rfl rfl ?_
      refine jb_iconst (pc' := 35) 1 dX8_operand_34 (by decide) rfl ?_
      refine jb_iadd (pc' := 36) dX8_operand_35 rfl ?_
      refine jb_top (v := .int ((nI 5) + 1)) (w := .int (nI 6)) (jb_vI (by decide)) ?_
      refine jb_callV (pc' := 39) (ci := 8) (q := 1) (As := [.int 40, .int (nI 6)]) (a2 := 0) (b2 := 0) wv_X8_85 rfl dX8_operand_36 (c_open6_40 imm Tm stkm tpm hB hy8 hn hu (D - 1) Im rowm a w ha1 hwa hc) rfl rfl ⟨by omega, Nat.le_of_eq (Nat.zero_add _), Nat.le_of_eq (Nat.zero_add _)⟩ (Nat.le_of_ble_eq_true rfl) rfl (fun r h9 hq => ?_)
      obtain ⟨rfl, I9, b, k, hb, hk, hab, rfl⟩ := hq
      refine jb_goto (pc' := 47) dX8_operand_39 (by decide) ?_
      refine jb_vret dX8_operand_47 ?_
      rw [jp_op_0 hs (by decide)]
      exact ⟨rfl, I9, b, k, hb, hk, hab, rfl⟩
  have n40 := hs
  clear hs
  show jb_J _ RX8 cX8_operand 3 (Option.none : Option Jvm.ClassFile.FieldType) false D 0 0 0 [some (.ref 1), some (.int (nI 5)), none] [] [jb_main imm Im (va_up Tm 0 (.ref (1000000 + (2 + u)))) rowm stkm tpm, s1, s2, s3, s4, s5, s6, s7, s8, s9, s10, s11] _
  refine jb_aload_n (pc' := 1) dX8_operand_0 rfl rfl ?_
  refine jb_callV (pc' := 4) (ci := 8) (q := 1) (As := []) (a2 := 0) (b2 := 0) wv_X8_67 rfl dX8_operand_1 (c_look imm Tm stkm tpm Im rowm hB hy8 hn hu hc (by omega)) rfl rfl ⟨by omega, Nat.le_of_eq (Nat.zero_add _), Nat.le_of_eq (Nat.zero_add _)⟩ (Nat.le_of_ble_eq_true rfl) rfl (fun r h9 hq => ?_)
  obtain ⟨rfl, rfl⟩ := hq
  show jb_J _ RX8 cX8_operand 3 (Option.none : Option Jvm.ClassFile.FieldType) false D 0 0 4 [some (.ref 1), some (.int (nI 5)), none] [.int (jp_lk B n a)] [jb_main imm Im (va_up Tm 0 (.ref (1000000 + (2 + u)))) rowm stkm tpm, s1, s2, s3, s4, s5, s6, s7, s8, s9, s10, s11] _
  refine jb_istore_n_ (pc' := 5) dX8_operand_4 (by decide) (jb_at2 rfl) rfl ?_
  refine jb_iload_n (pc' := 6) dX8_operand_5 rfl rfl ?_
  refine jb_callS (pc' := 9) (As := [.int (jp_lk B n a)]) (a2 := 0) (b2 := 0) wv_X8_78 dX8_operand_6 (c_isDigit (jp_lk B n a)) rfl ⟨by omega, Nat.le_of_eq (Nat.zero_add _), Nat.le_of_eq (Nat.zero_add _)⟩ (Nat.le_of_ble_eq_true rfl) rfl (fun r h9 hq => ?_)
  rcases hq with ⟨rfl, ⟨dg1, rfl⟩ | ⟨dg0, rfl⟩⟩
  · exact absurd dg1 hdg
  · show jb_J _ RX8 cX8_operand 3 (Option.none : Option Jvm.ClassFile.FieldType) false D 0 0 9 [some (.ref 1), some (.int (nI 5)), some (.int (jp_lk B n a))] [.int 0] [jb_main imm Im (va_up Tm 0 (.ref (1000000 + (2 + u)))) rowm stkm tpm, s1, s2, s3, s4, s5, s6, s7, s8, s9, s10, s11] _
    refine jb_if_eq (tgt := 19) (pc' := 12) dX8_operand_9 (by decide) rfl (fun _ => ?_) (fun z => absurd (by decide) z)
    refine jb_iload_n (pc' := 20) dX8_operand_19 rfl rfl ?_
    refine jb_bipush (pc' := 22) 33 dX8_operand_20 (by decide) rfl ?_
    refine jb_icmp_eq (tgt := 31) (pc' := 25) dX8_operand_22 (by decide) rfl (fun z => absurd z n33) (fun _ => ?_)
    refine jb_iload_n (pc' := 26) dX8_operand_25 rfl rfl ?_
    refine jb_bipush (pc' := 28) 40 dX8_operand_26 (by decide) rfl ?_
    refine jb_icmp_ne (tgt := 42) (pc' := 31) dX8_operand_28 (by decide) rfl (fun _ => ?_) (fun z => absurd z n40)
    refine jb_aload_n (pc' := 43) dX8_operand_42 rfl rfl ?_
    refine jb_iload_n (pc' := 44) dX8_operand_43 rfl rfl ?_
    refine jb_callV (pc' := 47) (ci := 8) (q := 1) (As := [.int (jp_lk B n a)]) (a2 := 0) (b2 := 0) wv_X8_88 rfl dX8_operand_44 (c_name imm Tm stkm tpm hB hy8 hn hu (D - 1) (by omega) Im rowm a w ha hwa hc) rfl rfl ⟨by omega, Nat.le_of_eq (Nat.zero_add _), Nat.le_of_eq (Nat.zero_add _)⟩ (Nat.le_of_ble_eq_true rfl) rfl (fun r h9 hq => ?_)
    obtain ⟨rfl, I9, b, k, hb, hk, hab, rfl⟩ := hq
    refine jb_vret dX8_operand_47 ?_
    rw [jp_op_nm _ hdg n33 n40]
    exact ⟨rfl, I9, b, k, hb, hk, hab, rfl⟩
set_option maxRecDepth 100000 in
set_option maxHeartbeats 4000000 in
theorem c_operand1 {sc : Nat × (Nat → Int32)} {s1 s2 s3 s4 s5 s6 s7 s8 s9 s10 s11 : List va_E} (imm : Int32) (Tm : Nat → Value) (stkm tpm : Nat → Int32) {B : Nat → Int32} {n u : Nat} (hB : ∀ k, k < n → tpm k = B k) (hy8 : jp_by B n) (hn : n ≤ 50) (hu : u < 2) (D : Nat) (hD : 5 ≤ D) (q o : Nat) (hq5 : q + 1 ≤ 5) (DU DE : Nat) (hDU : DU + 2 ≤ D) (hDE : DE + 2 ≤ D) (hfU : jc_F sc s1 s2 s3 s4 s5 s6 s7 s8 s9 s10 s11 imm Tm stkm tpm n u yX8_operand cX8_operand 3 DU [.int (nI (q + 1))] (jp_op B n u o)) (hfE : jc_F sc s1 s2 s3 s4 s5 s6 s7 s8 s9 s10 s11 imm Tm stkm tpm n u yX8_chain cX8_chain 6 DE [.int 0, .int (nI (q + 1))] (jp_up B n (jp_op B n u o) 5)) : jc_F sc s1 s2 s3 s4 s5 s6 s7 s8 s9 s10 s11 imm Tm stkm tpm n u yX8_operand cX8_operand 3 D [.int (nI q)] (jp_op B n u (o + 1)) := by
  intro Im rowm a w ha hwa hc
  refine jb_CofJ (ini := false) (by decide +kernel) (fun h => by cases h) (Nat.le_of_ble_eq_true rfl) ?_
  by_cases hdg : 48 ≤ jp_lk B n a ∧ jp_lk B n a ≤ 57
  · have n33 : ¬ jp_lk B n a = 33 := fun z => by rw [z] at hdg; exact absurd hdg.1 (by decide)
    have n40 : ¬ jp_lk B n a = 40 := fun z => by rw [z] at hdg; exact absurd hdg.1 (by decide)
    show jb_J _ RX8 cX8_operand 3 (Option.none : Option Jvm.ClassFile.FieldType) false D 0 0 0 [some (.ref 1), some (.int (nI q)), none] [] [jb_main imm Im (va_up Tm 0 (.ref (1000000 + (2 + u)))) rowm stkm tpm, s1, s2, s3, s4, s5, s6, s7, s8, s9, s10, s11] _
    refine jb_aload_n (pc' := 1) dX8_operand_0 rfl rfl ?_
    refine jb_callV (pc' := 4) (ci := 8) (q := 1) (As := []) (a2 := 0) (b2 := 0) wv_X8_67 rfl dX8_operand_1 (c_look imm Tm stkm tpm Im rowm hB hy8 hn hu hc (by omega)) rfl rfl ⟨by omega, Nat.le_of_eq (Nat.zero_add _), Nat.le_of_eq (Nat.zero_add _)⟩ (Nat.le_of_ble_eq_true rfl) rfl (fun r h9 hq => ?_)
    obtain ⟨rfl, rfl⟩ := hq
    show jb_J _ RX8 cX8_operand 3 (Option.none : Option Jvm.ClassFile.FieldType) false D 0 0 4 [some (.ref 1), some (.int (nI q)), none] [.int (jp_lk B n a)] [jb_main imm Im (va_up Tm 0 (.ref (1000000 + (2 + u)))) rowm stkm tpm, s1, s2, s3, s4, s5, s6, s7, s8, s9, s10, s11] _
    refine jb_istore_n_ (pc' := 5) dX8_operand_4 (by decide) (jb_at2 rfl) rfl ?_
    refine jb_iload_n (pc' := 6) dX8_operand_5 rfl rfl ?_
    refine jb_callS (pc' := 9) (As := [.int (jp_lk B n a)]) (a2 := 0) (b2 := 0) wv_X8_78 dX8_operand_6 (c_isDigit (jp_lk B n a)) rfl ⟨by omega, Nat.le_of_eq (Nat.zero_add _), Nat.le_of_eq (Nat.zero_add _)⟩ (Nat.le_of_ble_eq_true rfl) rfl (fun r h9 hq => ?_)
    rcases hq with ⟨rfl, ⟨dg1, rfl⟩ | ⟨dg0, rfl⟩⟩
    · show jb_J _ RX8 cX8_operand 3 (Option.none : Option Jvm.ClassFile.FieldType) false D 0 0 9 [some (.ref 1), some (.int (nI q)), some (.int (jp_lk B n a))] [.int 1] [jb_main imm Im (va_up Tm 0 (.ref (1000000 + (2 + u)))) rowm stkm tpm, s1, s2, s3, s4, s5, s6, s7, s8, s9, s10, s11] _
      refine jb_if_eq (tgt := 19) (pc' := 12) dX8_operand_9 (by decide) rfl (fun z => absurd z (by decide)) (fun _ => ?_)
      refine jb_aload_n (pc' := 13) dX8_operand_12 rfl rfl ?_
      refine jb_callV (pc' := 16) (ci := 8) (q := 1) (As := []) (a2 := 0) (b2 := 0) wv_X8_82 rfl dX8_operand_13 (c_number imm Tm stkm tpm hB hy8 hn hu (D - 1) (by omega) Im rowm a w ha hwa hc hdg) rfl rfl ⟨by omega, Nat.le_of_eq (Nat.zero_add _), Nat.le_of_eq (Nat.zero_add _)⟩ (Nat.le_of_ble_eq_true rfl) rfl (fun r h9 hq => ?_)
      obtain ⟨rfl, I19, b1, v1, hw, hq1, rfl⟩ := hq
      show jb_J _ RX8 cX8_operand 3 (Option.none : Option Jvm.ClassFile.FieldType) false D 0 0 16 [some (.ref 1), some (.int (nI q)), some (.int (jp_lk B n a))] [] [jb_main imm I19 (va_up Tm 0 (.ref (1000000 + (2 + u)))) (upd rowm w (nI v1)) stkm tpm, s1, s2, s3, s4, s5, s6, s7, s8, s9, s10, s11] _
      refine jb_goto (pc' := 47) dX8_operand_16 (by decide) ?_
      refine jb_vret dX8_operand_47 ?_
      have eb : (jp_nu B n 4 a 0).1 = b1 := by rw [hw]
      have ew : (jp_nu B n 4 a 0).2 = v1 := by rw [hw]
      rw [jp_op_dg _ hdg, eb, ew]
      exact ⟨rfl, I19, b1, 1, rfl, rfl, Or.inl ⟨rfl, hq1⟩, rfl⟩
    · exact absurd hdg dg0
  by_cases hs : jp_lk B n a = 33
  · have ha1 : a < n := jp_in (fun z => by rw [hs] at z; exact absurd z (by decide))
    show jb_J _ RX8 cX8_operand 3 (Option.none : Option Jvm.ClassFile.FieldType) false D 0 0 0 [some (.ref 1), some (.int (nI q)), none] [] [jb_main imm Im (va_up Tm 0 (.ref (1000000 + (2 + u)))) rowm stkm tpm, s1, s2, s3, s4, s5, s6, s7, s8, s9, s10, s11] _
    refine jb_aload_n (pc' := 1) dX8_operand_0 rfl rfl ?_
    refine jb_callV (pc' := 4) (ci := 8) (q := 1) (As := []) (a2 := 0) (b2 := 0) wv_X8_67 rfl dX8_operand_1 (c_look imm Tm stkm tpm Im rowm hB hy8 hn hu hc (by omega)) rfl rfl ⟨by omega, Nat.le_of_eq (Nat.zero_add _), Nat.le_of_eq (Nat.zero_add _)⟩ (Nat.le_of_ble_eq_true rfl) rfl (fun r h9 hq => ?_)
    obtain ⟨rfl, rfl⟩ := hq
    rw [hs]
    show jb_J _ RX8 cX8_operand 3 (Option.none : Option Jvm.ClassFile.FieldType) false D 0 0 4 [some (.ref 1), some (.int (nI q)), none] [.int 33] [jb_main imm Im (va_up Tm 0 (.ref (1000000 + (2 + u)))) rowm stkm tpm, s1, s2, s3, s4, s5, s6, s7, s8, s9, s10, s11] _
    refine jb_istore_n_ (pc' := 5) dX8_operand_4 (by decide) (jb_at2 rfl) rfl ?_
    refine jb_iload_n (pc' := 6) dX8_operand_5 rfl rfl ?_
    refine jb_callS (pc' := 9) (As := [.int 33]) (a2 := 0) (b2 := 0) wv_X8_78 dX8_operand_6 (c_isDigit 33) rfl ⟨by omega, Nat.le_of_eq (Nat.zero_add _), Nat.le_of_eq (Nat.zero_add _)⟩ (Nat.le_of_ble_eq_true rfl) rfl (fun r h9 hq => ?_)
    rcases hq with ⟨rfl, ⟨dg1, rfl⟩ | ⟨dg0, rfl⟩⟩
    · exact absurd dg1 (by decide)
    · show jb_J _ RX8 cX8_operand 3 (Option.none : Option Jvm.ClassFile.FieldType) false D 0 0 9 [some (.ref 1), some (.int (nI q)), some (.int 33)] [.int 0] [jb_main imm Im (va_up Tm 0 (.ref (1000000 + (2 + u)))) rowm stkm tpm, s1, s2, s3, s4, s5, s6, s7, s8, s9, s10, s11] _
      refine jb_if_eq (tgt := 19) (pc' := 12) dX8_operand_9 (by decide) rfl (fun _ => ?_) (fun z => absurd (by decide) z)
      refine jb_iload_n (pc' := 20) dX8_operand_19 rfl rfl ?_
      refine jb_bipush (pc' := 22) 33 dX8_operand_20 (by decide) rfl ?_
      refine jb_icmp_eq (tgt := 31) (pc' := 25) dX8_operand_22 (by decide) rfl (fun _ => ?_) (fun z => absurd (by decide) z)
      refine jb_aload_n (pc' := 32) dX8_operand_31 rfl rfl ?_
      refine jb_iload_n (pc' := 33) dX8_operand_32 rfl rfl ?_
      refine jb_iload_n (pc' := 34) dX8_operand_33 rfl rfl ?_
      refine jb_iconst (pc' := 35) 1 dX8_operand_34 (by decide) rfl ?_
      refine jb_iadd (pc' := 36) dX8_operand_35 rfl ?_
      refine jb_top (v := .int ((nI q) + 1)) (w := .int (nI (q + 1))) (jb_vI (nI_add _ 1)) ?_
      refine jb_callV (pc' := 39) (ci := 8) (q := 1) (As := [.int 33, .int (nI (q + 1))]) (a2 := 0) (b2 := 0) wv_X8_85 rfl dX8_operand_36 (c_open_33 imm Tm stkm tpm hB hy8 hn hu (D - 1) (q + 1) o hq5 DU (by omega) hfU Im rowm a w ha1 hwa hc) rfl rfl ⟨by omega, Nat.le_of_eq (Nat.zero_add _), Nat.le_of_eq (Nat.zero_add _)⟩ (Nat.le_of_ble_eq_true rfl) rfl (fun r h9 hq => ?_)
      obtain ⟨rfl, I9, b, k, hb, hk, hab, rfl⟩ := hq
      refine jb_goto (pc' := 47) dX8_operand_39 (by decide) ?_
      refine jb_vret dX8_operand_47 ?_
      rw [jp_op_33 o hs]
      exact ⟨rfl, I9, b, k, hb, hk, hab, rfl⟩
  have n33 := hs
  clear hs
  by_cases hs : jp_lk B n a = 40
  · have ha1 : a < n := jp_in (fun z => by rw [hs] at z; exact absurd z (by decide))
    show jb_J _ RX8 cX8_operand 3 (Option.none : Option Jvm.ClassFile.FieldType) false D 0 0 0 [some (.ref 1), some (.int (nI q)), none] [] [jb_main imm Im (va_up Tm 0 (.ref (1000000 + (2 + u)))) rowm stkm tpm, s1, s2, s3, s4, s5, s6, s7, s8, s9, s10, s11] _
    refine jb_aload_n (pc' := 1) dX8_operand_0 rfl rfl ?_
    refine jb_callV (pc' := 4) (ci := 8) (q := 1) (As := []) (a2 := 0) (b2 := 0) wv_X8_67 rfl dX8_operand_1 (c_look imm Tm stkm tpm Im rowm hB hy8 hn hu hc (by omega)) rfl rfl ⟨by omega, Nat.le_of_eq (Nat.zero_add _), Nat.le_of_eq (Nat.zero_add _)⟩ (Nat.le_of_ble_eq_true rfl) rfl (fun r h9 hq => ?_)
    obtain ⟨rfl, rfl⟩ := hq
    rw [hs]
    show jb_J _ RX8 cX8_operand 3 (Option.none : Option Jvm.ClassFile.FieldType) false D 0 0 4 [some (.ref 1), some (.int (nI q)), none] [.int 40] [jb_main imm Im (va_up Tm 0 (.ref (1000000 + (2 + u)))) rowm stkm tpm, s1, s2, s3, s4, s5, s6, s7, s8, s9, s10, s11] _
    refine jb_istore_n_ (pc' := 5) dX8_operand_4 (by decide) (jb_at2 rfl) rfl ?_
    refine jb_iload_n (pc' := 6) dX8_operand_5 rfl rfl ?_
    refine jb_callS (pc' := 9) (As := [.int 40]) (a2 := 0) (b2 := 0) wv_X8_78 dX8_operand_6 (c_isDigit 40) rfl ⟨by omega, Nat.le_of_eq (Nat.zero_add _), Nat.le_of_eq (Nat.zero_add _)⟩ (Nat.le_of_ble_eq_true rfl) rfl (fun r h9 hq => ?_)
    rcases hq with ⟨rfl, ⟨dg1, rfl⟩ | ⟨dg0, rfl⟩⟩
    · exact absurd dg1 (by decide)
    · show jb_J _ RX8 cX8_operand 3 (Option.none : Option Jvm.ClassFile.FieldType) false D 0 0 9 [some (.ref 1), some (.int (nI q)), some (.int 40)] [.int 0] [jb_main imm Im (va_up Tm 0 (.ref (1000000 + (2 + u)))) rowm stkm tpm, s1, s2, s3, s4, s5, s6, s7, s8, s9, s10, s11] _
      refine jb_if_eq (tgt := 19) (pc' := 12) dX8_operand_9 (by decide) rfl (fun _ => ?_) (fun z => absurd (by decide) z)
      refine jb_iload_n (pc' := 20) dX8_operand_19 rfl rfl ?_
      refine jb_bipush (pc' := 22) 33 dX8_operand_20 (by decide) rfl ?_
      refine jb_icmp_eq (tgt := 31) (pc' := 25) dX8_operand_22 (by decide) rfl (fun z => absurd z (by decide)) (fun _ => ?_)
      refine jb_iload_n (pc' := 26) dX8_operand_25 rfl rfl ?_
      refine jb_bipush (pc' := 28) 40 dX8_operand_26 (by decide) rfl ?_
      refine jb_icmp_ne (tgt := 42) (pc' := 31) dX8_operand_28 (by decide) rfl (fun z => absurd (by decide) z) (fun _ => ?_)
      refine jb_aload_n (pc' := 32) dX8_operand_31 rfl rfl ?_
      refine jb_iload_n (pc' := 33) dX8_operand_32 rfl rfl ?_
      refine jb_iload_n (pc' := 34) dX8_operand_33 rfl rfl ?_
      refine jb_iconst (pc' := 35) 1 dX8_operand_34 (by decide) rfl ?_
      refine jb_iadd (pc' := 36) dX8_operand_35 rfl ?_
      refine jb_top (v := .int ((nI q) + 1)) (w := .int (nI (q + 1))) (jb_vI (nI_add _ 1)) ?_
      refine jb_callV (pc' := 39) (ci := 8) (q := 1) (As := [.int 40, .int (nI (q + 1))]) (a2 := 0) (b2 := 0) wv_X8_85 rfl dX8_operand_36 (c_open_40 imm Tm stkm tpm hB hy8 hn hu (D - 1) (q + 1) o hq5 DE (by omega) hfE Im rowm a w ha1 hwa hc) rfl rfl ⟨by omega, Nat.le_of_eq (Nat.zero_add _), Nat.le_of_eq (Nat.zero_add _)⟩ (Nat.le_of_ble_eq_true rfl) rfl (fun r h9 hq => ?_)
      obtain ⟨rfl, I9, b, k, hb, hk, hab, rfl⟩ := hq
      refine jb_goto (pc' := 47) dX8_operand_39 (by decide) ?_
      refine jb_vret dX8_operand_47 ?_
      rw [jp_op_40 o hs]
      exact ⟨rfl, I9, b, k, hb, hk, hab, rfl⟩
  have n40 := hs
  clear hs
  show jb_J _ RX8 cX8_operand 3 (Option.none : Option Jvm.ClassFile.FieldType) false D 0 0 0 [some (.ref 1), some (.int (nI q)), none] [] [jb_main imm Im (va_up Tm 0 (.ref (1000000 + (2 + u)))) rowm stkm tpm, s1, s2, s3, s4, s5, s6, s7, s8, s9, s10, s11] _
  refine jb_aload_n (pc' := 1) dX8_operand_0 rfl rfl ?_
  refine jb_callV (pc' := 4) (ci := 8) (q := 1) (As := []) (a2 := 0) (b2 := 0) wv_X8_67 rfl dX8_operand_1 (c_look imm Tm stkm tpm Im rowm hB hy8 hn hu hc (by omega)) rfl rfl ⟨by omega, Nat.le_of_eq (Nat.zero_add _), Nat.le_of_eq (Nat.zero_add _)⟩ (Nat.le_of_ble_eq_true rfl) rfl (fun r h9 hq => ?_)
  obtain ⟨rfl, rfl⟩ := hq
  show jb_J _ RX8 cX8_operand 3 (Option.none : Option Jvm.ClassFile.FieldType) false D 0 0 4 [some (.ref 1), some (.int (nI q)), none] [.int (jp_lk B n a)] [jb_main imm Im (va_up Tm 0 (.ref (1000000 + (2 + u)))) rowm stkm tpm, s1, s2, s3, s4, s5, s6, s7, s8, s9, s10, s11] _
  refine jb_istore_n_ (pc' := 5) dX8_operand_4 (by decide) (jb_at2 rfl) rfl ?_
  refine jb_iload_n (pc' := 6) dX8_operand_5 rfl rfl ?_
  refine jb_callS (pc' := 9) (As := [.int (jp_lk B n a)]) (a2 := 0) (b2 := 0) wv_X8_78 dX8_operand_6 (c_isDigit (jp_lk B n a)) rfl ⟨by omega, Nat.le_of_eq (Nat.zero_add _), Nat.le_of_eq (Nat.zero_add _)⟩ (Nat.le_of_ble_eq_true rfl) rfl (fun r h9 hq => ?_)
  rcases hq with ⟨rfl, ⟨dg1, rfl⟩ | ⟨dg0, rfl⟩⟩
  · exact absurd dg1 hdg
  · show jb_J _ RX8 cX8_operand 3 (Option.none : Option Jvm.ClassFile.FieldType) false D 0 0 9 [some (.ref 1), some (.int (nI q)), some (.int (jp_lk B n a))] [.int 0] [jb_main imm Im (va_up Tm 0 (.ref (1000000 + (2 + u)))) rowm stkm tpm, s1, s2, s3, s4, s5, s6, s7, s8, s9, s10, s11] _
    refine jb_if_eq (tgt := 19) (pc' := 12) dX8_operand_9 (by decide) rfl (fun _ => ?_) (fun z => absurd (by decide) z)
    refine jb_iload_n (pc' := 20) dX8_operand_19 rfl rfl ?_
    refine jb_bipush (pc' := 22) 33 dX8_operand_20 (by decide) rfl ?_
    refine jb_icmp_eq (tgt := 31) (pc' := 25) dX8_operand_22 (by decide) rfl (fun z => absurd z n33) (fun _ => ?_)
    refine jb_iload_n (pc' := 26) dX8_operand_25 rfl rfl ?_
    refine jb_bipush (pc' := 28) 40 dX8_operand_26 (by decide) rfl ?_
    refine jb_icmp_ne (tgt := 42) (pc' := 31) dX8_operand_28 (by decide) rfl (fun _ => ?_) (fun z => absurd z n40)
    refine jb_aload_n (pc' := 43) dX8_operand_42 rfl rfl ?_
    refine jb_iload_n (pc' := 44) dX8_operand_43 rfl rfl ?_
    refine jb_callV (pc' := 47) (ci := 8) (q := 1) (As := [.int (jp_lk B n a)]) (a2 := 0) (b2 := 0) wv_X8_88 rfl dX8_operand_44 (c_name imm Tm stkm tpm hB hy8 hn hu (D - 1) (by omega) Im rowm a w ha hwa hc) rfl rfl ⟨by omega, Nat.le_of_eq (Nat.zero_add _), Nat.le_of_eq (Nat.zero_add _)⟩ (Nat.le_of_ble_eq_true rfl) rfl (fun r h9 hq => ?_)
    obtain ⟨rfl, I9, b, k, hb, hk, hab, rfl⟩ := hq
    refine jb_vret dX8_operand_47 ?_
    rw [jp_op_nm _ hdg n33 n40]
    exact ⟨rfl, I9, b, k, hb, hk, hab, rfl⟩
