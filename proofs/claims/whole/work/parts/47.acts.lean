set_option maxRecDepth 100000 in
set_option maxHeartbeats 4000000 in
theorem c_began {sc : Nat × (Nat → Int32)} {s1 s2 s3 s4 s5 s6 s7 s8 s10 s11 : List va_E} (imm : Int32) (Im rowm stkm tpm : Nat → Int32) (Tm : Nat → Value) (Ia boa era : Nat → Int32) (n9 m9 : Int32) (t9 : Nat) (h0 : Ia 0 = n9) (h1 : Ia 1 = m9) (h2 : Ia 2 = nI t9) (ht : t9 < 40) (s : Int32) : jb_C sc yX0_began cX0_began 2 (Option.none : Option Jvm.ClassFile.FieldType) 0 0 0 [.ref 102, .int s] [jb_main imm Im Tm rowm stkm tpm, s1, s2, s3, s4, s5, s6, s7, s8, jb_act Ia boa era, s10, s11] (fun r h9 => r = none ∧ ∃ A9, A9 0 = n9 ∧ A9 1 = m9 ∧ A9 2 = nI (t9 + 1) ∧ h9 = [jb_main imm Im Tm rowm stkm tpm, s1, s2, s3, s4, s5, s6, s7, s8, jb_act A9 (jp_wr boa t9 [s]) era, s10, s11]) := by
  refine jb_CofJ (ini := false) (by decide +kernel) (fun h => by cases h) (Nat.le_of_ble_eq_true rfl) ?_
  show jb_J sc RX0 cX0_began 2 (Option.none : Option Jvm.ClassFile.FieldType) false 0 0 0 0 [some (.ref 102), some (.int s)] [] [jb_main imm Im Tm rowm stkm tpm, s1, s2, s3, s4, s5, s6, s7, s8, jb_act Ia boa era, s10, s11] _
  refine jb_aload_n (pc' := 1) dX0_began_0 rfl rfl ?_
  refine gf_X0_18 (pc' := 4) (v := .int (Ia 2)) dX0_began_1 rfl rfl rfl ?_
  refine jb_top (v := .int (Ia 2)) (w := .int (nI t9)) (jb_vI h2) ?_
  refine jb_aload_n (pc' := 5) dX0_began_4 rfl rfl ?_
  refine gf_X0_21 (pc' := 8) (v := .ref 103) dX0_began_5 rfl rfl rfl ?_
  refine jb_alen (pc' := 9) 40 (by decide) dX0_began_8 rfl rfl rfl ?_
  refine jb_icmp_ge (tgt := 32) (pc' := 12) dX0_began_9 (by decide) rfl (fun z => absurd z (nI_ge (a := t9) (b := 40) (by omega) (by omega))) (fun _ => ?_)
  refine jb_aload_n (pc' := 13) dX0_began_12 rfl rfl ?_
  refine gf_X0_21 (pc' := 16) (v := .ref 103) dX0_began_13 rfl rfl rfl ?_
  refine jb_aload_n (pc' := 17) dX0_began_16 rfl rfl ?_
  refine gf_X0_18 (pc' := 20) (v := .int (Ia 2)) dX0_began_17 rfl rfl rfl ?_
  refine jb_top (v := .int (Ia 2)) (w := .int (nI t9)) (jb_vI h2) ?_
  refine jb_iload_n (pc' := 21) dX0_began_20 rfl rfl ?_
  refine jb_iastore (pc' := 22) (i9 := t9) (f := boa) (h' := [jb_main imm Im Tm rowm stkm tpm, s1, s2, s3, s4, s5, s6, s7, s8, jb_act Ia (upd boa t9 s) era, s10, s11]) dX0_began_21 rfl (jb_ix_nI (by omega)) (by omega) rfl rfl ?_
  refine jb_aload_n (pc' := 23) dX0_began_22 rfl rfl ?_
  refine jb_dup (pc' := 24) dX0_began_23 rfl rfl ?_
  refine gf_X0_18 (pc' := 27) (v := .int (Ia 2)) dX0_began_24 rfl rfl rfl ?_
  refine jb_top (v := .int (Ia 2)) (w := .int (nI t9)) (jb_vI h2) ?_
  refine jb_iconst (pc' := 28) 1 dX0_began_27 (by decide) rfl ?_
  refine jb_iadd (pc' := 29) dX0_began_28 rfl ?_
  refine jb_top (v := .int ((nI t9) + 1)) (w := .int (nI (t9 + 1))) (jb_vI (nI_add _ 1)) ?_
  refine pf_X0_18 (pc' := 32) (h' := [jb_main imm Im Tm rowm stkm tpm, s1, s2, s3, s4, s5, s6, s7, s8, jb_act (upd Ia 2 (nI (t9 + 1))) (upd boa t9 s) era, s10, s11]) dX0_began_29 (fun _ => ⟨rfl, rfl⟩) rfl (Nat.le_of_ble_eq_true rfl) rfl rfl ?_
  refine jb_vret dX0_began_32 ?_
  exact ⟨rfl, (upd Ia 2 (nI (t9 + 1))), h0, h1, rfl, rfl⟩
set_option maxRecDepth 100000 in
set_option maxHeartbeats 4000000 in
theorem ca_X7_calls_6 {sc : Nat × (Nat → Int32)} {s1 s2 s3 s4 s5 s6 s7 s8 s10 s11 : List va_E} (imm : Int32) (Im rowm stkm tpm : Nat → Int32) (Tm : Nat → Value) (Ia boa era : Nat → Int32) (n9 m9 : Int32) (t9 : Nat) (h0 : Ia 0 = n9) (h1 : Ia 1 = m9) (h2 : Ia 2 = nI t9) (ht : t9 + 1 ≤ 40) (x : Int32) : jb_C sc yX7_calls cX7_calls 3 (Option.some .int) 1 0 0 [.ref 6, .ref 102, .int x] [jb_main imm Im Tm rowm stkm tpm, s1, s2, s3, s4, s5, s6, s7, s8, jb_act Ia boa era, s10, s11] (fun r h9 => r = some (.int ((x) + n9)) ∧ ∃ A9, A9 0 = n9 ∧ A9 1 = m9 ∧ A9 2 = nI (t9 + 1) ∧ h9 = [jb_main imm Im Tm rowm stkm tpm, s1, s2, s3, s4, s5, s6, s7, s8, jb_act A9 (jp_wr boa t9 [10]) era, s10, s11]) := by
  refine jb_CofJ (ini := false) (by decide +kernel) (fun h => by cases h) (Nat.le_of_ble_eq_true rfl) ?_
  show jb_J sc RX7 cX7_calls 3 (Option.some .int) false 1 0 0 0 [some (.ref 6), some (.ref 102), some (.int x)] [] [jb_main imm Im Tm rowm stkm tpm, s1, s2, s3, s4, s5, s6, s7, s8, jb_act Ia boa era, s10, s11] _
  refine jb_aload_n (pc' := 1) dX7_calls_0 rfl rfl ?_
  refine jb_bipush (pc' := 3) 10 dX7_calls_1 (by decide) rfl ?_
  refine jb_callV (pc' := 6) (ci := 0) (q := 102) (As := [.int 10]) (a2 := 0) (b2 := 0) wv_X7_7 rfl dX7_calls_3 (c_began imm Im rowm stkm tpm Tm Ia boa era n9 m9 t9 h0 h1 h2 (by omega) 10) rfl rfl ⟨by decide, Nat.le_of_eq (Nat.zero_add _), Nat.le_of_eq (Nat.zero_add _)⟩ (Nat.le_of_ble_eq_true rfl) rfl (fun r h9 hq => ?_)
  obtain ⟨rfl, A1, ha1, hb1, hc1, rfl⟩ := hq
  show jb_J _ RX7 cX7_calls 3 (Option.some .int) false 1 0 0 6 [some (.ref 6), some (.ref 102), some (.int x)] [] [jb_main imm Im Tm rowm stkm tpm, s1, s2, s3, s4, s5, s6, s7, s8, jb_act A1 (jp_wr boa t9 [10]) era, s10, s11] _
  refine jb_iload_n (pc' := 7) dX7_calls_6 rfl rfl ?_
  refine jb_aload_n (pc' := 8) dX7_calls_7 rfl rfl ?_
  refine gf_X7_13 (pc' := 11) (v := .int (A1 0)) dX7_calls_8 rfl rfl rfl ?_
  refine jb_top (v := .int (A1 0)) (w := .int n9) (jb_vI ha1) ?_
  refine jb_iadd (pc' := 12) dX7_calls_11 rfl ?_
  refine jb_iret dX7_calls_12 rfl ?_
  exact ⟨rfl, A1, ha1, hb1, hc1, rfl⟩
set_option maxRecDepth 100000 in
set_option maxHeartbeats 4000000 in
theorem ca_X7_waits_6 {sc : Nat × (Nat → Int32)} {s1 s2 s3 s4 s5 s6 s7 s8 s10 s11 : List va_E} (imm : Int32) (Im rowm stkm tpm : Nat → Int32) (Tm : Nat → Value) (Ia boa era : Nat → Int32) (n9 m9 : Int32) (t9 : Nat) (h0 : Ia 0 = n9) (h1 : Ia 1 = m9) (h2 : Ia 2 = nI t9) (ht : t9 + 1 ≤ 40) (x : Int32) : jb_C sc yX7_waits cX7_waits 3 (Option.some .int) 1 0 0 [.ref 6, .ref 102, .int x] [jb_main imm Im Tm rowm stkm tpm, s1, s2, s3, s4, s5, s6, s7, s8, jb_act Ia boa era, s10, s11] (fun r h9 => r = some (.int ((x) - m9)) ∧ ∃ A9, A9 0 = n9 ∧ A9 1 = m9 ∧ A9 2 = nI (t9 + 1) ∧ h9 = [jb_main imm Im Tm rowm stkm tpm, s1, s2, s3, s4, s5, s6, s7, s8, jb_act A9 (jp_wr boa t9 [12]) era, s10, s11]) := by
  refine jb_CofJ (ini := false) (by decide +kernel) (fun h => by cases h) (Nat.le_of_ble_eq_true rfl) ?_
  show jb_J sc RX7 cX7_waits 3 (Option.some .int) false 1 0 0 0 [some (.ref 6), some (.ref 102), some (.int x)] [] [jb_main imm Im Tm rowm stkm tpm, s1, s2, s3, s4, s5, s6, s7, s8, jb_act Ia boa era, s10, s11] _
  refine jb_aload_n (pc' := 1) dX7_waits_0 rfl rfl ?_
  refine jb_bipush (pc' := 3) 12 dX7_waits_1 (by decide) rfl ?_
  refine jb_callV (pc' := 6) (ci := 0) (q := 102) (As := [.int 12]) (a2 := 0) (b2 := 0) wv_X7_7 rfl dX7_waits_3 (c_began imm Im rowm stkm tpm Tm Ia boa era n9 m9 t9 h0 h1 h2 (by omega) 12) rfl rfl ⟨by decide, Nat.le_of_eq (Nat.zero_add _), Nat.le_of_eq (Nat.zero_add _)⟩ (Nat.le_of_ble_eq_true rfl) rfl (fun r h9 hq => ?_)
  obtain ⟨rfl, A1, ha1, hb1, hc1, rfl⟩ := hq
  show jb_J _ RX7 cX7_waits 3 (Option.some .int) false 1 0 0 6 [some (.ref 6), some (.ref 102), some (.int x)] [] [jb_main imm Im Tm rowm stkm tpm, s1, s2, s3, s4, s5, s6, s7, s8, jb_act A1 (jp_wr boa t9 [12]) era, s10, s11] _
  refine jb_iload_n (pc' := 7) dX7_waits_6 rfl rfl ?_
  refine jb_aload_n (pc' := 8) dX7_waits_7 rfl rfl ?_
  refine gf_X7_23 (pc' := 11) (v := .int (A1 1)) dX7_waits_8 rfl rfl rfl ?_
  refine jb_top (v := .int (A1 1)) (w := .int m9) (jb_vI hb1) ?_
  refine jb_isub (pc' := 12) dX7_waits_11 rfl ?_
  refine jb_iret dX7_waits_12 rfl ?_
  exact ⟨rfl, A1, ha1, hb1, hc1, rfl⟩
set_option maxRecDepth 100000 in
set_option maxHeartbeats 4000000 in
theorem ca_X7_hears_6 {sc : Nat × (Nat → Int32)} {s1 s2 s3 s4 s5 s6 s7 s8 s10 s11 : List va_E} (imm : Int32) (Im rowm stkm tpm : Nat → Int32) (Tm : Nat → Value) (Ia boa era : Nat → Int32) (n9 m9 : Int32) (t9 : Nat) (h0 : Ia 0 = n9) (h1 : Ia 1 = m9) (h2 : Ia 2 = nI t9) (ht : t9 + 2 ≤ 40) (x : Int32) : jb_C sc yX7_hears cX7_hears 3 (Option.some .int) 2 0 0 [.ref 6, .ref 102, .int x] [jb_main imm Im Tm rowm stkm tpm, s1, s2, s3, s4, s5, s6, s7, s8, jb_act Ia boa era, s10, s11] (fun r h9 => r = some (.int (((x) + n9) * 2)) ∧ ∃ A9, A9 0 = n9 ∧ A9 1 = m9 ∧ A9 2 = nI (t9 + 2) ∧ h9 = [jb_main imm Im Tm rowm stkm tpm, s1, s2, s3, s4, s5, s6, s7, s8, jb_act A9 (jp_wr boa t9 [11, 10]) era, s10, s11]) := by
  refine jb_CofJ (ini := false) (by decide +kernel) (fun h => by cases h) (Nat.le_of_ble_eq_true rfl) ?_
  show jb_J sc RX7 cX7_hears 3 (Option.some .int) false 2 0 0 0 [some (.ref 6), some (.ref 102), some (.int x)] [] [jb_main imm Im Tm rowm stkm tpm, s1, s2, s3, s4, s5, s6, s7, s8, jb_act Ia boa era, s10, s11] _
  refine jb_aload_n (pc' := 1) dX7_hears_0 rfl rfl ?_
  refine jb_bipush (pc' := 3) 11 dX7_hears_1 (by decide) rfl ?_
  refine jb_callV (pc' := 6) (ci := 0) (q := 102) (As := [.int 11]) (a2 := 0) (b2 := 0) wv_X7_7 rfl dX7_hears_3 (c_began imm Im rowm stkm tpm Tm Ia boa era n9 m9 t9 h0 h1 h2 (by omega) 11) rfl rfl ⟨by decide, Nat.le_of_eq (Nat.zero_add _), Nat.le_of_eq (Nat.zero_add _)⟩ (Nat.le_of_ble_eq_true rfl) rfl (fun r h9 hq => ?_)
  obtain ⟨rfl, A1, ha1, hb1, hc1, rfl⟩ := hq
  show jb_J _ RX7 cX7_hears 3 (Option.some .int) false 2 0 0 6 [some (.ref 6), some (.ref 102), some (.int x)] [] [jb_main imm Im Tm rowm stkm tpm, s1, s2, s3, s4, s5, s6, s7, s8, jb_act A1 (jp_wr boa t9 [11]) era, s10, s11] _
  refine jb_aload_n (pc' := 7) dX7_hears_6 rfl rfl ?_
  refine jb_aload_n (pc' := 8) dX7_hears_7 rfl rfl ?_
  refine jb_iload_n (pc' := 9) dX7_hears_8 rfl rfl ?_
  refine jb_callU (pc' := 12) (ci := 7) (q := 6) (As := [.ref 102, .int x]) (a2 := 0) (b2 := 0) wv_X7_17_X7 rfl dX7_hears_9 (ca_X7_calls_6 imm Im rowm stkm tpm Tm A1 (jp_wr boa t9 [11]) era n9 m9 (t9 + 1) ha1 hb1 hc1 (by omega) x) rfl rfl ⟨by decide, Nat.le_of_eq (Nat.zero_add _), Nat.le_of_eq (Nat.zero_add _)⟩ (Nat.le_of_ble_eq_true rfl) rfl (fun r h9 hq => ?_)
  obtain ⟨rfl, A2, ha2, hb2, hc2, rfl⟩ := hq
  show jb_J _ RX7 cX7_hears 3 (Option.some .int) false 2 0 0 12 [some (.ref 6), some (.ref 102), some (.int x)] [.int ((x) + n9)] [jb_main imm Im Tm rowm stkm tpm, s1, s2, s3, s4, s5, s6, s7, s8, jb_act A2 (jp_wr (jp_wr boa t9 [11]) (t9 + 1) [10]) era, s10, s11] _
  refine jb_iconst (pc' := 13) 2 dX7_hears_12 (by decide) rfl ?_
  refine jb_imul (pc' := 14) dX7_hears_13 rfl ?_
  refine jb_iret dX7_hears_14 rfl ?_
  exact ⟨rfl, A2, ha2, hb2, hc2, rfl⟩
set_option maxRecDepth 100000 in
set_option maxHeartbeats 4000000 in
theorem ca_X7_tells_6 {sc : Nat × (Nat → Int32)} {s1 s2 s3 s4 s5 s6 s7 s8 s10 s11 : List va_E} (imm : Int32) (Im rowm stkm tpm : Nat → Int32) (Tm : Nat → Value) (Ia boa era : Nat → Int32) (n9 m9 : Int32) (t9 : Nat) (h0 : Ia 0 = n9) (h1 : Ia 1 = m9) (h2 : Ia 2 = nI t9) (ht : t9 + 4 ≤ 40) (x : Int32) : jb_C sc yX7_tells cX7_tells 3 (Option.some .int) 3 0 0 [.ref 6, .ref 102, .int x] [jb_main imm Im Tm rowm stkm tpm, s1, s2, s3, s4, s5, s6, s7, s8, jb_act Ia boa era, s10, s11] (fun r h9 => r = some (.int ((((x) + n9) * 2) ^^^ ((x) - m9))) ∧ ∃ A9, A9 0 = n9 ∧ A9 1 = m9 ∧ A9 2 = nI (t9 + 4) ∧ h9 = [jb_main imm Im Tm rowm stkm tpm, s1, s2, s3, s4, s5, s6, s7, s8, jb_act A9 (jp_wr boa t9 [13, 11, 10, 12]) era, s10, s11]) := by
  refine jb_CofJ (ini := false) (by decide +kernel) (fun h => by cases h) (Nat.le_of_ble_eq_true rfl) ?_
  show jb_J sc RX7 cX7_tells 3 (Option.some .int) false 3 0 0 0 [some (.ref 6), some (.ref 102), some (.int x)] [] [jb_main imm Im Tm rowm stkm tpm, s1, s2, s3, s4, s5, s6, s7, s8, jb_act Ia boa era, s10, s11] _
  refine jb_aload_n (pc' := 1) dX7_tells_0 rfl rfl ?_
  refine jb_bipush (pc' := 3) 13 dX7_tells_1 (by decide) rfl ?_
  refine jb_callV (pc' := 6) (ci := 0) (q := 102) (As := [.int 13]) (a2 := 0) (b2 := 0) wv_X7_7 rfl dX7_tells_3 (c_began imm Im rowm stkm tpm Tm Ia boa era n9 m9 t9 h0 h1 h2 (by omega) 13) rfl rfl ⟨by decide, Nat.le_of_eq (Nat.zero_add _), Nat.le_of_eq (Nat.zero_add _)⟩ (Nat.le_of_ble_eq_true rfl) rfl (fun r h9 hq => ?_)
  obtain ⟨rfl, A1, ha1, hb1, hc1, rfl⟩ := hq
  show jb_J _ RX7 cX7_tells 3 (Option.some .int) false 3 0 0 6 [some (.ref 6), some (.ref 102), some (.int x)] [] [jb_main imm Im Tm rowm stkm tpm, s1, s2, s3, s4, s5, s6, s7, s8, jb_act A1 (jp_wr boa t9 [13]) era, s10, s11] _
  refine jb_aload_n (pc' := 7) dX7_tells_6 rfl rfl ?_
  refine jb_aload_n (pc' := 8) dX7_tells_7 rfl rfl ?_
  refine jb_iload_n (pc' := 9) dX7_tells_8 rfl rfl ?_
  refine jb_callU (pc' := 12) (ci := 7) (q := 6) (As := [.ref 102, .int x]) (a2 := 0) (b2 := 0) wv_X7_26_X7 rfl dX7_tells_9 (ca_X7_hears_6 imm Im rowm stkm tpm Tm A1 (jp_wr boa t9 [13]) era n9 m9 (t9 + 1) ha1 hb1 hc1 (by omega) x) rfl rfl ⟨by decide, Nat.le_of_eq (Nat.zero_add _), Nat.le_of_eq (Nat.zero_add _)⟩ (Nat.le_of_ble_eq_true rfl) rfl (fun r h9 hq => ?_)
  obtain ⟨rfl, A2, ha2, hb2, hc2, rfl⟩ := hq
  show jb_J _ RX7 cX7_tells 3 (Option.some .int) false 3 0 0 12 [some (.ref 6), some (.ref 102), some (.int x)] [.int (((x) + n9) * 2)] [jb_main imm Im Tm rowm stkm tpm, s1, s2, s3, s4, s5, s6, s7, s8, jb_act A2 (jp_wr (jp_wr boa t9 [13]) (t9 + 1) [11, 10]) era, s10, s11] _
  refine jb_aload_n (pc' := 13) dX7_tells_12 rfl rfl ?_
  refine jb_aload_n (pc' := 14) dX7_tells_13 rfl rfl ?_
  refine jb_iload_n (pc' := 15) dX7_tells_14 rfl rfl ?_
  refine jb_callU (pc' := 18) (ci := 7) (q := 6) (As := [.ref 102, .int x]) (a2 := 0) (b2 := 0) wv_X7_29_X7 rfl dX7_tells_15 (ca_X7_waits_6 imm Im rowm stkm tpm Tm A2 (jp_wr (jp_wr boa t9 [13]) (t9 + 1) [11, 10]) era n9 m9 ((t9 + 1) + 2) ha2 hb2 hc2 (by omega) x) rfl rfl ⟨by decide, Nat.le_of_eq (Nat.zero_add _), Nat.le_of_eq (Nat.zero_add _)⟩ (Nat.le_of_ble_eq_true rfl) rfl (fun r h9 hq => ?_)
  obtain ⟨rfl, A3, ha3, hb3, hc3, rfl⟩ := hq
  show jb_J _ RX7 cX7_tells 3 (Option.some .int) false 3 0 0 18 [some (.ref 6), some (.ref 102), some (.int x)] [.int ((x) - m9), .int (((x) + n9) * 2)] [jb_main imm Im Tm rowm stkm tpm, s1, s2, s3, s4, s5, s6, s7, s8, jb_act A3 (jp_wr (jp_wr (jp_wr boa t9 [13]) (t9 + 1) [11, 10]) ((t9 + 1) + 2) [12]) era, s10, s11] _
  refine jb_ixor (pc' := 19) dX7_tells_18 rfl ?_
  refine jb_iret dX7_tells_19 rfl ?_
  exact ⟨rfl, A3, ha3, hb3, hc3, rfl⟩
set_option maxRecDepth 100000 in
set_option maxHeartbeats 4000000 in
theorem ca_X7_calls_7 {sc : Nat × (Nat → Int32)} {s1 s2 s3 s4 s5 s6 s7 s8 s10 s11 : List va_E} (imm : Int32) (Im rowm stkm tpm : Nat → Int32) (Tm : Nat → Value) (Ia boa era : Nat → Int32) (n9 m9 : Int32) (t9 : Nat) (h0 : Ia 0 = n9) (h1 : Ia 1 = m9) (h2 : Ia 2 = nI t9) (ht : t9 + 1 ≤ 40) (x : Int32) : jb_C sc yX7_calls cX7_calls 3 (Option.some .int) 1 0 0 [.ref 7, .ref 102, .int x] [jb_main imm Im Tm rowm stkm tpm, s1, s2, s3, s4, s5, s6, s7, s8, jb_act Ia boa era, s10, s11] (fun r h9 => r = some (.int ((x) + n9)) ∧ ∃ A9, A9 0 = n9 ∧ A9 1 = m9 ∧ A9 2 = nI (t9 + 1) ∧ h9 = [jb_main imm Im Tm rowm stkm tpm, s1, s2, s3, s4, s5, s6, s7, s8, jb_act A9 (jp_wr boa t9 [10]) era, s10, s11]) := by
  refine jb_CofJ (ini := false) (by decide +kernel) (fun h => by cases h) (Nat.le_of_ble_eq_true rfl) ?_
  show jb_J sc RX7 cX7_calls 3 (Option.some .int) false 1 0 0 0 [some (.ref 7), some (.ref 102), some (.int x)] [] [jb_main imm Im Tm rowm stkm tpm, s1, s2, s3, s4, s5, s6, s7, s8, jb_act Ia boa era, s10, s11] _
  refine jb_aload_n (pc' := 1) dX7_calls_0 rfl rfl ?_
  refine jb_bipush (pc' := 3) 10 dX7_calls_1 (by decide) rfl ?_
  refine jb_callV (pc' := 6) (ci := 0) (q := 102) (As := [.int 10]) (a2 := 0) (b2 := 0) wv_X7_7 rfl dX7_calls_3 (c_began imm Im rowm stkm tpm Tm Ia boa era n9 m9 t9 h0 h1 h2 (by omega) 10) rfl rfl ⟨by decide, Nat.le_of_eq (Nat.zero_add _), Nat.le_of_eq (Nat.zero_add _)⟩ (Nat.le_of_ble_eq_true rfl) rfl (fun r h9 hq => ?_)
  obtain ⟨rfl, A1, ha1, hb1, hc1, rfl⟩ := hq
  show jb_J _ RX7 cX7_calls 3 (Option.some .int) false 1 0 0 6 [some (.ref 7), some (.ref 102), some (.int x)] [] [jb_main imm Im Tm rowm stkm tpm, s1, s2, s3, s4, s5, s6, s7, s8, jb_act A1 (jp_wr boa t9 [10]) era, s10, s11] _
  refine jb_iload_n (pc' := 7) dX7_calls_6 rfl rfl ?_
  refine jb_aload_n (pc' := 8) dX7_calls_7 rfl rfl ?_
  refine gf_X7_13 (pc' := 11) (v := .int (A1 0)) dX7_calls_8 rfl rfl rfl ?_
  refine jb_top (v := .int (A1 0)) (w := .int n9) (jb_vI ha1) ?_
  refine jb_iadd (pc' := 12) dX7_calls_11 rfl ?_
  refine jb_iret dX7_calls_12 rfl ?_
  exact ⟨rfl, A1, ha1, hb1, hc1, rfl⟩
set_option maxRecDepth 100000 in
set_option maxHeartbeats 4000000 in
theorem ca_X7_waits_7 {sc : Nat × (Nat → Int32)} {s1 s2 s3 s4 s5 s6 s7 s8 s10 s11 : List va_E} (imm : Int32) (Im rowm stkm tpm : Nat → Int32) (Tm : Nat → Value) (Ia boa era : Nat → Int32) (n9 m9 : Int32) (t9 : Nat) (h0 : Ia 0 = n9) (h1 : Ia 1 = m9) (h2 : Ia 2 = nI t9) (ht : t9 + 1 ≤ 40) (x : Int32) : jb_C sc yX7_waits cX7_waits 3 (Option.some .int) 1 0 0 [.ref 7, .ref 102, .int x] [jb_main imm Im Tm rowm stkm tpm, s1, s2, s3, s4, s5, s6, s7, s8, jb_act Ia boa era, s10, s11] (fun r h9 => r = some (.int ((x) - m9)) ∧ ∃ A9, A9 0 = n9 ∧ A9 1 = m9 ∧ A9 2 = nI (t9 + 1) ∧ h9 = [jb_main imm Im Tm rowm stkm tpm, s1, s2, s3, s4, s5, s6, s7, s8, jb_act A9 (jp_wr boa t9 [12]) era, s10, s11]) := by
  refine jb_CofJ (ini := false) (by decide +kernel) (fun h => by cases h) (Nat.le_of_ble_eq_true rfl) ?_
  show jb_J sc RX7 cX7_waits 3 (Option.some .int) false 1 0 0 0 [some (.ref 7), some (.ref 102), some (.int x)] [] [jb_main imm Im Tm rowm stkm tpm, s1, s2, s3, s4, s5, s6, s7, s8, jb_act Ia boa era, s10, s11] _
  refine jb_aload_n (pc' := 1) dX7_waits_0 rfl rfl ?_
  refine jb_bipush (pc' := 3) 12 dX7_waits_1 (by decide) rfl ?_
  refine jb_callV (pc' := 6) (ci := 0) (q := 102) (As := [.int 12]) (a2 := 0) (b2 := 0) wv_X7_7 rfl dX7_waits_3 (c_began imm Im rowm stkm tpm Tm Ia boa era n9 m9 t9 h0 h1 h2 (by omega) 12) rfl rfl ⟨by decide, Nat.le_of_eq (Nat.zero_add _), Nat.le_of_eq (Nat.zero_add _)⟩ (Nat.le_of_ble_eq_true rfl) rfl (fun r h9 hq => ?_)
  obtain ⟨rfl, A1, ha1, hb1, hc1, rfl⟩ := hq
  show jb_J _ RX7 cX7_waits 3 (Option.some .int) false 1 0 0 6 [some (.ref 7), some (.ref 102), some (.int x)] [] [jb_main imm Im Tm rowm stkm tpm, s1, s2, s3, s4, s5, s6, s7, s8, jb_act A1 (jp_wr boa t9 [12]) era, s10, s11] _
  refine jb_iload_n (pc' := 7) dX7_waits_6 rfl rfl ?_
  refine jb_aload_n (pc' := 8) dX7_waits_7 rfl rfl ?_
  refine gf_X7_23 (pc' := 11) (v := .int (A1 1)) dX7_waits_8 rfl rfl rfl ?_
  refine jb_top (v := .int (A1 1)) (w := .int m9) (jb_vI hb1) ?_
  refine jb_isub (pc' := 12) dX7_waits_11 rfl ?_
  refine jb_iret dX7_waits_12 rfl ?_
  exact ⟨rfl, A1, ha1, hb1, hc1, rfl⟩
set_option maxRecDepth 100000 in
set_option maxHeartbeats 4000000 in
theorem ca_X7_hears_7 {sc : Nat × (Nat → Int32)} {s1 s2 s3 s4 s5 s6 s7 s8 s10 s11 : List va_E} (imm : Int32) (Im rowm stkm tpm : Nat → Int32) (Tm : Nat → Value) (Ia boa era : Nat → Int32) (n9 m9 : Int32) (t9 : Nat) (h0 : Ia 0 = n9) (h1 : Ia 1 = m9) (h2 : Ia 2 = nI t9) (ht : t9 + 2 ≤ 40) (x : Int32) : jb_C sc yX7_hears cX7_hears 3 (Option.some .int) 2 0 0 [.ref 7, .ref 102, .int x] [jb_main imm Im Tm rowm stkm tpm, s1, s2, s3, s4, s5, s6, s7, s8, jb_act Ia boa era, s10, s11] (fun r h9 => r = some (.int (((x) + n9) * 2)) ∧ ∃ A9, A9 0 = n9 ∧ A9 1 = m9 ∧ A9 2 = nI (t9 + 2) ∧ h9 = [jb_main imm Im Tm rowm stkm tpm, s1, s2, s3, s4, s5, s6, s7, s8, jb_act A9 (jp_wr boa t9 [11, 10]) era, s10, s11]) := by
  refine jb_CofJ (ini := false) (by decide +kernel) (fun h => by cases h) (Nat.le_of_ble_eq_true rfl) ?_
  show jb_J sc RX7 cX7_hears 3 (Option.some .int) false 2 0 0 0 [some (.ref 7), some (.ref 102), some (.int x)] [] [jb_main imm Im Tm rowm stkm tpm, s1, s2, s3, s4, s5, s6, s7, s8, jb_act Ia boa era, s10, s11] _
  refine jb_aload_n (pc' := 1) dX7_hears_0 rfl rfl ?_
  refine jb_bipush (pc' := 3) 11 dX7_hears_1 (by decide) rfl ?_
  refine jb_callV (pc' := 6) (ci := 0) (q := 102) (As := [.int 11]) (a2 := 0) (b2 := 0) wv_X7_7 rfl dX7_hears_3 (c_began imm Im rowm stkm tpm Tm Ia boa era n9 m9 t9 h0 h1 h2 (by omega) 11) rfl rfl ⟨by decide, Nat.le_of_eq (Nat.zero_add _), Nat.le_of_eq (Nat.zero_add _)⟩ (Nat.le_of_ble_eq_true rfl) rfl (fun r h9 hq => ?_)
  obtain ⟨rfl, A1, ha1, hb1, hc1, rfl⟩ := hq
  show jb_J _ RX7 cX7_hears 3 (Option.some .int) false 2 0 0 6 [some (.ref 7), some (.ref 102), some (.int x)] [] [jb_main imm Im Tm rowm stkm tpm, s1, s2, s3, s4, s5, s6, s7, s8, jb_act A1 (jp_wr boa t9 [11]) era, s10, s11] _
  refine jb_aload_n (pc' := 7) dX7_hears_6 rfl rfl ?_
  refine jb_aload_n (pc' := 8) dX7_hears_7 rfl rfl ?_
  refine jb_iload_n (pc' := 9) dX7_hears_8 rfl rfl ?_
  refine jb_callU (pc' := 12) (ci := 2) (q := 7) (As := [.ref 102, .int x]) (a2 := 0) (b2 := 0) wv_X7_17_X2 rfl dX7_hears_9 (ca_X7_calls_7 imm Im rowm stkm tpm Tm A1 (jp_wr boa t9 [11]) era n9 m9 (t9 + 1) ha1 hb1 hc1 (by omega) x) rfl rfl ⟨by decide, Nat.le_of_eq (Nat.zero_add _), Nat.le_of_eq (Nat.zero_add _)⟩ (Nat.le_of_ble_eq_true rfl) rfl (fun r h9 hq => ?_)
  obtain ⟨rfl, A2, ha2, hb2, hc2, rfl⟩ := hq
  show jb_J _ RX7 cX7_hears 3 (Option.some .int) false 2 0 0 12 [some (.ref 7), some (.ref 102), some (.int x)] [.int ((x) + n9)] [jb_main imm Im Tm rowm stkm tpm, s1, s2, s3, s4, s5, s6, s7, s8, jb_act A2 (jp_wr (jp_wr boa t9 [11]) (t9 + 1) [10]) era, s10, s11] _
  refine jb_iconst (pc' := 13) 2 dX7_hears_12 (by decide) rfl ?_
  refine jb_imul (pc' := 14) dX7_hears_13 rfl ?_
  refine jb_iret dX7_hears_14 rfl ?_
  exact ⟨rfl, A2, ha2, hb2, hc2, rfl⟩
set_option maxRecDepth 100000 in
set_option maxHeartbeats 4000000 in
theorem ca_X2_hears_7 {sc : Nat × (Nat → Int32)} {s1 s2 s3 s4 s5 s6 s7 s8 s10 s11 : List va_E} (imm : Int32) (Im rowm stkm tpm : Nat → Int32) (Tm : Nat → Value) (Ia boa era : Nat → Int32) (n9 m9 : Int32) (t9 : Nat) (h0 : Ia 0 = n9) (h1 : Ia 1 = m9) (h2 : Ia 2 = nI t9) (ht : t9 + 4 ≤ 40) (x : Int32) : jb_C sc yX2_hears cX2_hears 3 (Option.some .int) 3 0 0 [.ref 7, .ref 102, .int x] [jb_main imm Im Tm rowm stkm tpm, s1, s2, s3, s4, s5, s6, s7, s8, jb_act Ia boa era, s10, s11] (fun r h9 => r = some (.int ((((x) + n9) * 2) - ((1) - m9))) ∧ ∃ A9, A9 0 = n9 ∧ A9 1 = m9 ∧ A9 2 = nI (t9 + 4) ∧ h9 = [jb_main imm Im Tm rowm stkm tpm, s1, s2, s3, s4, s5, s6, s7, s8, jb_act A9 (jp_wr boa t9 [20, 11, 10, 12]) era, s10, s11]) := by
  refine jb_CofJ (ini := false) (by decide +kernel) (fun h => by cases h) (Nat.le_of_ble_eq_true rfl) ?_
  show jb_J sc RX2 cX2_hears 3 (Option.some .int) false 3 0 0 0 [some (.ref 7), some (.ref 102), some (.int x)] [] [jb_main imm Im Tm rowm stkm tpm, s1, s2, s3, s4, s5, s6, s7, s8, jb_act Ia boa era, s10, s11] _
  refine jb_aload_n (pc' := 1) dX2_hears_0 rfl rfl ?_
  refine jb_bipush (pc' := 3) 20 dX2_hears_1 (by decide) rfl ?_
  refine jb_callV (pc' := 6) (ci := 0) (q := 102) (As := [.int 20]) (a2 := 0) (b2 := 0) wv_X2_17 rfl dX2_hears_3 (c_began imm Im rowm stkm tpm Tm Ia boa era n9 m9 t9 h0 h1 h2 (by omega) 20) rfl rfl ⟨by decide, Nat.le_of_eq (Nat.zero_add _), Nat.le_of_eq (Nat.zero_add _)⟩ (Nat.le_of_ble_eq_true rfl) rfl (fun r h9 hq => ?_)
  obtain ⟨rfl, A1, ha1, hb1, hc1, rfl⟩ := hq
  show jb_J _ RX2 cX2_hears 3 (Option.some .int) false 3 0 0 6 [some (.ref 7), some (.ref 102), some (.int x)] [] [jb_main imm Im Tm rowm stkm tpm, s1, s2, s3, s4, s5, s6, s7, s8, jb_act A1 (jp_wr boa t9 [20]) era, s10, s11] _
  refine jb_aload_n (pc' := 7) dX2_hears_6 rfl rfl ?_
  refine jb_aload_n (pc' := 8) dX2_hears_7 rfl rfl ?_
  refine jb_iload_n (pc' := 9) dX2_hears_8 rfl rfl ?_
  refine jb_callP (pc' := 12) (ci := 2) (q := 7) (As := [.ref 102, .int x]) (a2 := 0) (b2 := 0) wv_X2_23 rfl dX2_hears_9 (ca_X7_hears_7 imm Im rowm stkm tpm Tm A1 (jp_wr boa t9 [20]) era n9 m9 (t9 + 1) ha1 hb1 hc1 (by omega) x) rfl rfl ⟨by decide, Nat.le_of_eq (Nat.zero_add _), Nat.le_of_eq (Nat.zero_add _)⟩ (Nat.le_of_ble_eq_true rfl) rfl (fun r h9 hq => ?_)
  obtain ⟨rfl, A2, ha2, hb2, hc2, rfl⟩ := hq
  show jb_J _ RX2 cX2_hears 3 (Option.some .int) false 3 0 0 12 [some (.ref 7), some (.ref 102), some (.int x)] [.int (((x) + n9) * 2)] [jb_main imm Im Tm rowm stkm tpm, s1, s2, s3, s4, s5, s6, s7, s8, jb_act A2 (jp_wr (jp_wr boa t9 [20]) (t9 + 1) [11, 10]) era, s10, s11] _
  refine jb_aload_n (pc' := 13) dX2_hears_12 rfl rfl ?_
  refine jb_aload_n (pc' := 14) dX2_hears_13 rfl rfl ?_
  refine jb_iconst (pc' := 15) 1 dX2_hears_14 (by decide) rfl ?_
  refine jb_callU (pc' := 18) (ci := 2) (q := 7) (As := [.ref 102, .int 1]) (a2 := 0) (b2 := 0) wv_X2_27_X2 rfl dX2_hears_15 (ca_X7_waits_7 imm Im rowm stkm tpm Tm A2 (jp_wr (jp_wr boa t9 [20]) (t9 + 1) [11, 10]) era n9 m9 ((t9 + 1) + 2) ha2 hb2 hc2 (by omega) 1) rfl rfl ⟨by decide, Nat.le_of_eq (Nat.zero_add _), Nat.le_of_eq (Nat.zero_add _)⟩ (Nat.le_of_ble_eq_true rfl) rfl (fun r h9 hq => ?_)
  obtain ⟨rfl, A3, ha3, hb3, hc3, rfl⟩ := hq
  show jb_J _ RX2 cX2_hears 3 (Option.some .int) false 3 0 0 18 [some (.ref 7), some (.ref 102), some (.int x)] [.int ((1) - m9), .int (((x) + n9) * 2)] [jb_main imm Im Tm rowm stkm tpm, s1, s2, s3, s4, s5, s6, s7, s8, jb_act A3 (jp_wr (jp_wr (jp_wr boa t9 [20]) (t9 + 1) [11, 10]) ((t9 + 1) + 2) [12]) era, s10, s11] _
  refine jb_isub (pc' := 19) dX2_hears_18 rfl ?_
  refine jb_iret dX2_hears_19 rfl ?_
  exact ⟨rfl, A3, ha3, hb3, hc3, rfl⟩
set_option maxRecDepth 100000 in
set_option maxHeartbeats 4000000 in
theorem ca_X7_tells_7 {sc : Nat × (Nat → Int32)} {s1 s2 s3 s4 s5 s6 s7 s8 s10 s11 : List va_E} (imm : Int32) (Im rowm stkm tpm : Nat → Int32) (Tm : Nat → Value) (Ia boa era : Nat → Int32) (n9 m9 : Int32) (t9 : Nat) (h0 : Ia 0 = n9) (h1 : Ia 1 = m9) (h2 : Ia 2 = nI t9) (ht : t9 + 6 ≤ 40) (x : Int32) : jb_C sc yX7_tells cX7_tells 3 (Option.some .int) 4 0 0 [.ref 7, .ref 102, .int x] [jb_main imm Im Tm rowm stkm tpm, s1, s2, s3, s4, s5, s6, s7, s8, jb_act Ia boa era, s10, s11] (fun r h9 => r = some (.int (((((x) + n9) * 2) - ((1) - m9)) ^^^ ((x) - m9))) ∧ ∃ A9, A9 0 = n9 ∧ A9 1 = m9 ∧ A9 2 = nI (t9 + 6) ∧ h9 = [jb_main imm Im Tm rowm stkm tpm, s1, s2, s3, s4, s5, s6, s7, s8, jb_act A9 (jp_wr boa t9 [13, 20, 11, 10, 12, 12]) era, s10, s11]) := by
  refine jb_CofJ (ini := false) (by decide +kernel) (fun h => by cases h) (Nat.le_of_ble_eq_true rfl) ?_
  show jb_J sc RX7 cX7_tells 3 (Option.some .int) false 4 0 0 0 [some (.ref 7), some (.ref 102), some (.int x)] [] [jb_main imm Im Tm rowm stkm tpm, s1, s2, s3, s4, s5, s6, s7, s8, jb_act Ia boa era, s10, s11] _
  refine jb_aload_n (pc' := 1) dX7_tells_0 rfl rfl ?_
  refine jb_bipush (pc' := 3) 13 dX7_tells_1 (by decide) rfl ?_
  refine jb_callV (pc' := 6) (ci := 0) (q := 102) (As := [.int 13]) (a2 := 0) (b2 := 0) wv_X7_7 rfl dX7_tells_3 (c_began imm Im rowm stkm tpm Tm Ia boa era n9 m9 t9 h0 h1 h2 (by omega) 13) rfl rfl ⟨by decide, Nat.le_of_eq (Nat.zero_add _), Nat.le_of_eq (Nat.zero_add _)⟩ (Nat.le_of_ble_eq_true rfl) rfl (fun r h9 hq => ?_)
  obtain ⟨rfl, A1, ha1, hb1, hc1, rfl⟩ := hq
  show jb_J _ RX7 cX7_tells 3 (Option.some .int) false 4 0 0 6 [some (.ref 7), some (.ref 102), some (.int x)] [] [jb_main imm Im Tm rowm stkm tpm, s1, s2, s3, s4, s5, s6, s7, s8, jb_act A1 (jp_wr boa t9 [13]) era, s10, s11] _
  refine jb_aload_n (pc' := 7) dX7_tells_6 rfl rfl ?_
  refine jb_aload_n (pc' := 8) dX7_tells_7 rfl rfl ?_
  refine jb_iload_n (pc' := 9) dX7_tells_8 rfl rfl ?_
  refine jb_callU (pc' := 12) (ci := 2) (q := 7) (As := [.ref 102, .int x]) (a2 := 0) (b2 := 0) wv_X7_26_X2 rfl dX7_tells_9 (ca_X2_hears_7 imm Im rowm stkm tpm Tm A1 (jp_wr boa t9 [13]) era n9 m9 (t9 + 1) ha1 hb1 hc1 (by omega) x) rfl rfl ⟨by decide, Nat.le_of_eq (Nat.zero_add _), Nat.le_of_eq (Nat.zero_add _)⟩ (Nat.le_of_ble_eq_true rfl) rfl (fun r h9 hq => ?_)
  obtain ⟨rfl, A2, ha2, hb2, hc2, rfl⟩ := hq
  show jb_J _ RX7 cX7_tells 3 (Option.some .int) false 4 0 0 12 [some (.ref 7), some (.ref 102), some (.int x)] [.int ((((x) + n9) * 2) - ((1) - m9))] [jb_main imm Im Tm rowm stkm tpm, s1, s2, s3, s4, s5, s6, s7, s8, jb_act A2 (jp_wr (jp_wr boa t9 [13]) (t9 + 1) [20, 11, 10, 12]) era, s10, s11] _
  refine jb_aload_n (pc' := 13) dX7_tells_12 rfl rfl ?_
  refine jb_aload_n (pc' := 14) dX7_tells_13 rfl rfl ?_
  refine jb_iload_n (pc' := 15) dX7_tells_14 rfl rfl ?_
  refine jb_callU (pc' := 18) (ci := 2) (q := 7) (As := [.ref 102, .int x]) (a2 := 0) (b2 := 0) wv_X7_29_X2 rfl dX7_tells_15 (ca_X7_waits_7 imm Im rowm stkm tpm Tm A2 (jp_wr (jp_wr boa t9 [13]) (t9 + 1) [20, 11, 10, 12]) era n9 m9 ((t9 + 1) + 4) ha2 hb2 hc2 (by omega) x) rfl rfl ⟨by decide, Nat.le_of_eq (Nat.zero_add _), Nat.le_of_eq (Nat.zero_add _)⟩ (Nat.le_of_ble_eq_true rfl) rfl (fun r h9 hq => ?_)
  obtain ⟨rfl, A3, ha3, hb3, hc3, rfl⟩ := hq
  show jb_J _ RX7 cX7_tells 3 (Option.some .int) false 4 0 0 18 [some (.ref 7), some (.ref 102), some (.int x)] [.int ((x) - m9), .int ((((x) + n9) * 2) - ((1) - m9))] [jb_main imm Im Tm rowm stkm tpm, s1, s2, s3, s4, s5, s6, s7, s8, jb_act A3 (jp_wr (jp_wr (jp_wr boa t9 [13]) (t9 + 1) [20, 11, 10, 12]) ((t9 + 1) + 4) [12]) era, s10, s11] _
  refine jb_ixor (pc' := 19) dX7_tells_18 rfl ?_
  refine jb_iret dX7_tells_19 rfl ?_
  exact ⟨rfl, A3, ha3, hb3, hc3, rfl⟩
set_option maxRecDepth 100000 in
set_option maxHeartbeats 4000000 in
theorem ca_X7_calls_8 {sc : Nat × (Nat → Int32)} {s1 s2 s3 s4 s5 s6 s7 s8 s10 s11 : List va_E} (imm : Int32) (Im rowm stkm tpm : Nat → Int32) (Tm : Nat → Value) (Ia boa era : Nat → Int32) (n9 m9 : Int32) (t9 : Nat) (h0 : Ia 0 = n9) (h1 : Ia 1 = m9) (h2 : Ia 2 = nI t9) (ht : t9 + 1 ≤ 40) (x : Int32) : jb_C sc yX7_calls cX7_calls 3 (Option.some .int) 1 0 0 [.ref 8, .ref 102, .int x] [jb_main imm Im Tm rowm stkm tpm, s1, s2, s3, s4, s5, s6, s7, s8, jb_act Ia boa era, s10, s11] (fun r h9 => r = some (.int ((x) + n9)) ∧ ∃ A9, A9 0 = n9 ∧ A9 1 = m9 ∧ A9 2 = nI (t9 + 1) ∧ h9 = [jb_main imm Im Tm rowm stkm tpm, s1, s2, s3, s4, s5, s6, s7, s8, jb_act A9 (jp_wr boa t9 [10]) era, s10, s11]) := by
  refine jb_CofJ (ini := false) (by decide +kernel) (fun h => by cases h) (Nat.le_of_ble_eq_true rfl) ?_
  show jb_J sc RX7 cX7_calls 3 (Option.some .int) false 1 0 0 0 [some (.ref 8), some (.ref 102), some (.int x)] [] [jb_main imm Im Tm rowm stkm tpm, s1, s2, s3, s4, s5, s6, s7, s8, jb_act Ia boa era, s10, s11] _
  refine jb_aload_n (pc' := 1) dX7_calls_0 rfl rfl ?_
  refine jb_bipush (pc' := 3) 10 dX7_calls_1 (by decide) rfl ?_
  refine jb_callV (pc' := 6) (ci := 0) (q := 102) (As := [.int 10]) (a2 := 0) (b2 := 0) wv_X7_7 rfl dX7_calls_3 (c_began imm Im rowm stkm tpm Tm Ia boa era n9 m9 t9 h0 h1 h2 (by omega) 10) rfl rfl ⟨by decide, Nat.le_of_eq (Nat.zero_add _), Nat.le_of_eq (Nat.zero_add _)⟩ (Nat.le_of_ble_eq_true rfl) rfl (fun r h9 hq => ?_)
  obtain ⟨rfl, A1, ha1, hb1, hc1, rfl⟩ := hq
  show jb_J _ RX7 cX7_calls 3 (Option.some .int) false 1 0 0 6 [some (.ref 8), some (.ref 102), some (.int x)] [] [jb_main imm Im Tm rowm stkm tpm, s1, s2, s3, s4, s5, s6, s7, s8, jb_act A1 (jp_wr boa t9 [10]) era, s10, s11] _
  refine jb_iload_n (pc' := 7) dX7_calls_6 rfl rfl ?_
  refine jb_aload_n (pc' := 8) dX7_calls_7 rfl rfl ?_
  refine gf_X7_13 (pc' := 11) (v := .int (A1 0)) dX7_calls_8 rfl rfl rfl ?_
  refine jb_top (v := .int (A1 0)) (w := .int n9) (jb_vI ha1) ?_
  refine jb_iadd (pc' := 12) dX7_calls_11 rfl ?_
  refine jb_iret dX7_calls_12 rfl ?_
  exact ⟨rfl, A1, ha1, hb1, hc1, rfl⟩
set_option maxRecDepth 100000 in
set_option maxHeartbeats 4000000 in
theorem ca_X5_calls_8 {sc : Nat × (Nat → Int32)} {s1 s2 s3 s4 s5 s6 s7 s8 s10 s11 : List va_E} (imm : Int32) (Im rowm stkm tpm : Nat → Int32) (Tm : Nat → Value) (Ia boa era : Nat → Int32) (n9 m9 : Int32) (t9 : Nat) (h0 : Ia 0 = n9) (h1 : Ia 1 = m9) (h2 : Ia 2 = nI t9) (ht : t9 + 2 ≤ 40) (x : Int32) : jb_C sc yX5_calls cX5_calls 3 (Option.some .int) 2 0 0 [.ref 8, .ref 102, .int x] [jb_main imm Im Tm rowm stkm tpm, s1, s2, s3, s4, s5, s6, s7, s8, jb_act Ia boa era, s10, s11] (fun r h9 => r = some (.int (((x) + n9) * 3)) ∧ ∃ A9, A9 0 = n9 ∧ A9 1 = m9 ∧ A9 2 = nI (t9 + 2) ∧ h9 = [jb_main imm Im Tm rowm stkm tpm, s1, s2, s3, s4, s5, s6, s7, s8, jb_act A9 (jp_wr boa t9 [30, 10]) era, s10, s11]) := by
  refine jb_CofJ (ini := false) (by decide +kernel) (fun h => by cases h) (Nat.le_of_ble_eq_true rfl) ?_
  show jb_J sc RX5 cX5_calls 3 (Option.some .int) false 2 0 0 0 [some (.ref 8), some (.ref 102), some (.int x)] [] [jb_main imm Im Tm rowm stkm tpm, s1, s2, s3, s4, s5, s6, s7, s8, jb_act Ia boa era, s10, s11] _
  refine jb_aload_n (pc' := 1) dX5_calls_0 rfl rfl ?_
  refine jb_bipush (pc' := 3) 30 dX5_calls_1 (by decide) rfl ?_
  refine jb_callV (pc' := 6) (ci := 0) (q := 102) (As := [.int 30]) (a2 := 0) (b2 := 0) wv_X5_11 rfl dX5_calls_3 (c_began imm Im rowm stkm tpm Tm Ia boa era n9 m9 t9 h0 h1 h2 (by omega) 30) rfl rfl ⟨by decide, Nat.le_of_eq (Nat.zero_add _), Nat.le_of_eq (Nat.zero_add _)⟩ (Nat.le_of_ble_eq_true rfl) rfl (fun r h9 hq => ?_)
  obtain ⟨rfl, A1, ha1, hb1, hc1, rfl⟩ := hq
  show jb_J _ RX5 cX5_calls 3 (Option.some .int) false 2 0 0 6 [some (.ref 8), some (.ref 102), some (.int x)] [] [jb_main imm Im Tm rowm stkm tpm, s1, s2, s3, s4, s5, s6, s7, s8, jb_act A1 (jp_wr boa t9 [30]) era, s10, s11] _
  refine jb_aload_n (pc' := 7) dX5_calls_6 rfl rfl ?_
  refine jb_aload_n (pc' := 8) dX5_calls_7 rfl rfl ?_
  refine jb_iload_n (pc' := 9) dX5_calls_8 rfl rfl ?_
  refine jb_callP (pc' := 12) (ci := 5) (q := 8) (As := [.ref 102, .int x]) (a2 := 0) (b2 := 0) wv_X5_17 rfl dX5_calls_9 (ca_X7_calls_8 imm Im rowm stkm tpm Tm A1 (jp_wr boa t9 [30]) era n9 m9 (t9 + 1) ha1 hb1 hc1 (by omega) x) rfl rfl ⟨by decide, Nat.le_of_eq (Nat.zero_add _), Nat.le_of_eq (Nat.zero_add _)⟩ (Nat.le_of_ble_eq_true rfl) rfl (fun r h9 hq => ?_)
  obtain ⟨rfl, A2, ha2, hb2, hc2, rfl⟩ := hq
  show jb_J _ RX5 cX5_calls 3 (Option.some .int) false 2 0 0 12 [some (.ref 8), some (.ref 102), some (.int x)] [.int ((x) + n9)] [jb_main imm Im Tm rowm stkm tpm, s1, s2, s3, s4, s5, s6, s7, s8, jb_act A2 (jp_wr (jp_wr boa t9 [30]) (t9 + 1) [10]) era, s10, s11] _
  refine jb_iconst (pc' := 13) 3 dX5_calls_12 (by decide) rfl ?_
  refine jb_imul (pc' := 14) dX5_calls_13 rfl ?_
  refine jb_iret dX5_calls_14 rfl ?_
  exact ⟨rfl, A2, ha2, hb2, hc2, rfl⟩
set_option maxRecDepth 100000 in
set_option maxHeartbeats 4000000 in
theorem ca_X7_waits_8 {sc : Nat × (Nat → Int32)} {s1 s2 s3 s4 s5 s6 s7 s8 s10 s11 : List va_E} (imm : Int32) (Im rowm stkm tpm : Nat → Int32) (Tm : Nat → Value) (Ia boa era : Nat → Int32) (n9 m9 : Int32) (t9 : Nat) (h0 : Ia 0 = n9) (h1 : Ia 1 = m9) (h2 : Ia 2 = nI t9) (ht : t9 + 1 ≤ 40) (x : Int32) : jb_C sc yX7_waits cX7_waits 3 (Option.some .int) 1 0 0 [.ref 8, .ref 102, .int x] [jb_main imm Im Tm rowm stkm tpm, s1, s2, s3, s4, s5, s6, s7, s8, jb_act Ia boa era, s10, s11] (fun r h9 => r = some (.int ((x) - m9)) ∧ ∃ A9, A9 0 = n9 ∧ A9 1 = m9 ∧ A9 2 = nI (t9 + 1) ∧ h9 = [jb_main imm Im Tm rowm stkm tpm, s1, s2, s3, s4, s5, s6, s7, s8, jb_act A9 (jp_wr boa t9 [12]) era, s10, s11]) := by
  refine jb_CofJ (ini := false) (by decide +kernel) (fun h => by cases h) (Nat.le_of_ble_eq_true rfl) ?_
  show jb_J sc RX7 cX7_waits 3 (Option.some .int) false 1 0 0 0 [some (.ref 8), some (.ref 102), some (.int x)] [] [jb_main imm Im Tm rowm stkm tpm, s1, s2, s3, s4, s5, s6, s7, s8, jb_act Ia boa era, s10, s11] _
  refine jb_aload_n (pc' := 1) dX7_waits_0 rfl rfl ?_
  refine jb_bipush (pc' := 3) 12 dX7_waits_1 (by decide) rfl ?_
  refine jb_callV (pc' := 6) (ci := 0) (q := 102) (As := [.int 12]) (a2 := 0) (b2 := 0) wv_X7_7 rfl dX7_waits_3 (c_began imm Im rowm stkm tpm Tm Ia boa era n9 m9 t9 h0 h1 h2 (by omega) 12) rfl rfl ⟨by decide, Nat.le_of_eq (Nat.zero_add _), Nat.le_of_eq (Nat.zero_add _)⟩ (Nat.le_of_ble_eq_true rfl) rfl (fun r h9 hq => ?_)
  obtain ⟨rfl, A1, ha1, hb1, hc1, rfl⟩ := hq
  show jb_J _ RX7 cX7_waits 3 (Option.some .int) false 1 0 0 6 [some (.ref 8), some (.ref 102), some (.int x)] [] [jb_main imm Im Tm rowm stkm tpm, s1, s2, s3, s4, s5, s6, s7, s8, jb_act A1 (jp_wr boa t9 [12]) era, s10, s11] _
  refine jb_iload_n (pc' := 7) dX7_waits_6 rfl rfl ?_
  refine jb_aload_n (pc' := 8) dX7_waits_7 rfl rfl ?_
  refine gf_X7_23 (pc' := 11) (v := .int (A1 1)) dX7_waits_8 rfl rfl rfl ?_
  refine jb_top (v := .int (A1 1)) (w := .int m9) (jb_vI hb1) ?_
  refine jb_isub (pc' := 12) dX7_waits_11 rfl ?_
  refine jb_iret dX7_waits_12 rfl ?_
  exact ⟨rfl, A1, ha1, hb1, hc1, rfl⟩
set_option maxRecDepth 100000 in
set_option maxHeartbeats 4000000 in
theorem ca_X7_hears_8 {sc : Nat × (Nat → Int32)} {s1 s2 s3 s4 s5 s6 s7 s8 s10 s11 : List va_E} (imm : Int32) (Im rowm stkm tpm : Nat → Int32) (Tm : Nat → Value) (Ia boa era : Nat → Int32) (n9 m9 : Int32) (t9 : Nat) (h0 : Ia 0 = n9) (h1 : Ia 1 = m9) (h2 : Ia 2 = nI t9) (ht : t9 + 3 ≤ 40) (x : Int32) : jb_C sc yX7_hears cX7_hears 3 (Option.some .int) 3 0 0 [.ref 8, .ref 102, .int x] [jb_main imm Im Tm rowm stkm tpm, s1, s2, s3, s4, s5, s6, s7, s8, jb_act Ia boa era, s10, s11] (fun r h9 => r = some (.int ((((x) + n9) * 3) * 2)) ∧ ∃ A9, A9 0 = n9 ∧ A9 1 = m9 ∧ A9 2 = nI (t9 + 3) ∧ h9 = [jb_main imm Im Tm rowm stkm tpm, s1, s2, s3, s4, s5, s6, s7, s8, jb_act A9 (jp_wr boa t9 [11, 30, 10]) era, s10, s11]) := by
  refine jb_CofJ (ini := false) (by decide +kernel) (fun h => by cases h) (Nat.le_of_ble_eq_true rfl) ?_
  show jb_J sc RX7 cX7_hears 3 (Option.some .int) false 3 0 0 0 [some (.ref 8), some (.ref 102), some (.int x)] [] [jb_main imm Im Tm rowm stkm tpm, s1, s2, s3, s4, s5, s6, s7, s8, jb_act Ia boa era, s10, s11] _
  refine jb_aload_n (pc' := 1) dX7_hears_0 rfl rfl ?_
  refine jb_bipush (pc' := 3) 11 dX7_hears_1 (by decide) rfl ?_
  refine jb_callV (pc' := 6) (ci := 0) (q := 102) (As := [.int 11]) (a2 := 0) (b2 := 0) wv_X7_7 rfl dX7_hears_3 (c_began imm Im rowm stkm tpm Tm Ia boa era n9 m9 t9 h0 h1 h2 (by omega) 11) rfl rfl ⟨by decide, Nat.le_of_eq (Nat.zero_add _), Nat.le_of_eq (Nat.zero_add _)⟩ (Nat.le_of_ble_eq_true rfl) rfl (fun r h9 hq => ?_)
  obtain ⟨rfl, A1, ha1, hb1, hc1, rfl⟩ := hq
  show jb_J _ RX7 cX7_hears 3 (Option.some .int) false 3 0 0 6 [some (.ref 8), some (.ref 102), some (.int x)] [] [jb_main imm Im Tm rowm stkm tpm, s1, s2, s3, s4, s5, s6, s7, s8, jb_act A1 (jp_wr boa t9 [11]) era, s10, s11] _
  refine jb_aload_n (pc' := 7) dX7_hears_6 rfl rfl ?_
  refine jb_aload_n (pc' := 8) dX7_hears_7 rfl rfl ?_
  refine jb_iload_n (pc' := 9) dX7_hears_8 rfl rfl ?_
  refine jb_callU (pc' := 12) (ci := 5) (q := 8) (As := [.ref 102, .int x]) (a2 := 0) (b2 := 0) wv_X7_17_X5 rfl dX7_hears_9 (ca_X5_calls_8 imm Im rowm stkm tpm Tm A1 (jp_wr boa t9 [11]) era n9 m9 (t9 + 1) ha1 hb1 hc1 (by omega) x) rfl rfl ⟨by decide, Nat.le_of_eq (Nat.zero_add _), Nat.le_of_eq (Nat.zero_add _)⟩ (Nat.le_of_ble_eq_true rfl) rfl (fun r h9 hq => ?_)
  obtain ⟨rfl, A2, ha2, hb2, hc2, rfl⟩ := hq
  show jb_J _ RX7 cX7_hears 3 (Option.some .int) false 3 0 0 12 [some (.ref 8), some (.ref 102), some (.int x)] [.int (((x) + n9) * 3)] [jb_main imm Im Tm rowm stkm tpm, s1, s2, s3, s4, s5, s6, s7, s8, jb_act A2 (jp_wr (jp_wr boa t9 [11]) (t9 + 1) [30, 10]) era, s10, s11] _
  refine jb_iconst (pc' := 13) 2 dX7_hears_12 (by decide) rfl ?_
  refine jb_imul (pc' := 14) dX7_hears_13 rfl ?_
  refine jb_iret dX7_hears_14 rfl ?_
  exact ⟨rfl, A2, ha2, hb2, hc2, rfl⟩
set_option maxRecDepth 100000 in
set_option maxHeartbeats 4000000 in
theorem ca_X7_tells_8 {sc : Nat × (Nat → Int32)} {s1 s2 s3 s4 s5 s6 s7 s8 s10 s11 : List va_E} (imm : Int32) (Im rowm stkm tpm : Nat → Int32) (Tm : Nat → Value) (Ia boa era : Nat → Int32) (n9 m9 : Int32) (t9 : Nat) (h0 : Ia 0 = n9) (h1 : Ia 1 = m9) (h2 : Ia 2 = nI t9) (ht : t9 + 5 ≤ 40) (x : Int32) : jb_C sc yX7_tells cX7_tells 3 (Option.some .int) 4 0 0 [.ref 8, .ref 102, .int x] [jb_main imm Im Tm rowm stkm tpm, s1, s2, s3, s4, s5, s6, s7, s8, jb_act Ia boa era, s10, s11] (fun r h9 => r = some (.int (((((x) + n9) * 3) * 2) ^^^ ((x) - m9))) ∧ ∃ A9, A9 0 = n9 ∧ A9 1 = m9 ∧ A9 2 = nI (t9 + 5) ∧ h9 = [jb_main imm Im Tm rowm stkm tpm, s1, s2, s3, s4, s5, s6, s7, s8, jb_act A9 (jp_wr boa t9 [13, 11, 30, 10, 12]) era, s10, s11]) := by
  refine jb_CofJ (ini := false) (by decide +kernel) (fun h => by cases h) (Nat.le_of_ble_eq_true rfl) ?_
  show jb_J sc RX7 cX7_tells 3 (Option.some .int) false 4 0 0 0 [some (.ref 8), some (.ref 102), some (.int x)] [] [jb_main imm Im Tm rowm stkm tpm, s1, s2, s3, s4, s5, s6, s7, s8, jb_act Ia boa era, s10, s11] _
  refine jb_aload_n (pc' := 1) dX7_tells_0 rfl rfl ?_
  refine jb_bipush (pc' := 3) 13 dX7_tells_1 (by decide) rfl ?_
  refine jb_callV (pc' := 6) (ci := 0) (q := 102) (As := [.int 13]) (a2 := 0) (b2 := 0) wv_X7_7 rfl dX7_tells_3 (c_began imm Im rowm stkm tpm Tm Ia boa era n9 m9 t9 h0 h1 h2 (by omega) 13) rfl rfl ⟨by decide, Nat.le_of_eq (Nat.zero_add _), Nat.le_of_eq (Nat.zero_add _)⟩ (Nat.le_of_ble_eq_true rfl) rfl (fun r h9 hq => ?_)
  obtain ⟨rfl, A1, ha1, hb1, hc1, rfl⟩ := hq
  show jb_J _ RX7 cX7_tells 3 (Option.some .int) false 4 0 0 6 [some (.ref 8), some (.ref 102), some (.int x)] [] [jb_main imm Im Tm rowm stkm tpm, s1, s2, s3, s4, s5, s6, s7, s8, jb_act A1 (jp_wr boa t9 [13]) era, s10, s11] _
  refine jb_aload_n (pc' := 7) dX7_tells_6 rfl rfl ?_
  refine jb_aload_n (pc' := 8) dX7_tells_7 rfl rfl ?_
  refine jb_iload_n (pc' := 9) dX7_tells_8 rfl rfl ?_
  refine jb_callU (pc' := 12) (ci := 5) (q := 8) (As := [.ref 102, .int x]) (a2 := 0) (b2 := 0) wv_X7_26_X5 rfl dX7_tells_9 (ca_X7_hears_8 imm Im rowm stkm tpm Tm A1 (jp_wr boa t9 [13]) era n9 m9 (t9 + 1) ha1 hb1 hc1 (by omega) x) rfl rfl ⟨by decide, Nat.le_of_eq (Nat.zero_add _), Nat.le_of_eq (Nat.zero_add _)⟩ (Nat.le_of_ble_eq_true rfl) rfl (fun r h9 hq => ?_)
  obtain ⟨rfl, A2, ha2, hb2, hc2, rfl⟩ := hq
  show jb_J _ RX7 cX7_tells 3 (Option.some .int) false 4 0 0 12 [some (.ref 8), some (.ref 102), some (.int x)] [.int ((((x) + n9) * 3) * 2)] [jb_main imm Im Tm rowm stkm tpm, s1, s2, s3, s4, s5, s6, s7, s8, jb_act A2 (jp_wr (jp_wr boa t9 [13]) (t9 + 1) [11, 30, 10]) era, s10, s11] _
  refine jb_aload_n (pc' := 13) dX7_tells_12 rfl rfl ?_
  refine jb_aload_n (pc' := 14) dX7_tells_13 rfl rfl ?_
  refine jb_iload_n (pc' := 15) dX7_tells_14 rfl rfl ?_
  refine jb_callU (pc' := 18) (ci := 5) (q := 8) (As := [.ref 102, .int x]) (a2 := 0) (b2 := 0) wv_X7_29_X5 rfl dX7_tells_15 (ca_X7_waits_8 imm Im rowm stkm tpm Tm A2 (jp_wr (jp_wr boa t9 [13]) (t9 + 1) [11, 30, 10]) era n9 m9 ((t9 + 1) + 3) ha2 hb2 hc2 (by omega) x) rfl rfl ⟨by decide, Nat.le_of_eq (Nat.zero_add _), Nat.le_of_eq (Nat.zero_add _)⟩ (Nat.le_of_ble_eq_true rfl) rfl (fun r h9 hq => ?_)
  obtain ⟨rfl, A3, ha3, hb3, hc3, rfl⟩ := hq
  show jb_J _ RX7 cX7_tells 3 (Option.some .int) false 4 0 0 18 [some (.ref 8), some (.ref 102), some (.int x)] [.int ((x) - m9), .int ((((x) + n9) * 3) * 2)] [jb_main imm Im Tm rowm stkm tpm, s1, s2, s3, s4, s5, s6, s7, s8, jb_act A3 (jp_wr (jp_wr (jp_wr boa t9 [13]) (t9 + 1) [11, 30, 10]) ((t9 + 1) + 3) [12]) era, s10, s11] _
  refine jb_ixor (pc' := 19) dX7_tells_18 rfl ?_
  refine jb_iret dX7_tells_19 rfl ?_
  exact ⟨rfl, A3, ha3, hb3, hc3, rfl⟩
set_option maxRecDepth 100000 in
set_option maxHeartbeats 4000000 in
theorem ca_X7_calls_9 {sc : Nat × (Nat → Int32)} {s1 s2 s3 s4 s5 s6 s7 s8 s10 s11 : List va_E} (imm : Int32) (Im rowm stkm tpm : Nat → Int32) (Tm : Nat → Value) (Ia boa era : Nat → Int32) (n9 m9 : Int32) (t9 : Nat) (h0 : Ia 0 = n9) (h1 : Ia 1 = m9) (h2 : Ia 2 = nI t9) (ht : t9 + 1 ≤ 40) (x : Int32) : jb_C sc yX7_calls cX7_calls 3 (Option.some .int) 1 0 0 [.ref 9, .ref 102, .int x] [jb_main imm Im Tm rowm stkm tpm, s1, s2, s3, s4, s5, s6, s7, s8, jb_act Ia boa era, s10, s11] (fun r h9 => r = some (.int ((x) + n9)) ∧ ∃ A9, A9 0 = n9 ∧ A9 1 = m9 ∧ A9 2 = nI (t9 + 1) ∧ h9 = [jb_main imm Im Tm rowm stkm tpm, s1, s2, s3, s4, s5, s6, s7, s8, jb_act A9 (jp_wr boa t9 [10]) era, s10, s11]) := by
  refine jb_CofJ (ini := false) (by decide +kernel) (fun h => by cases h) (Nat.le_of_ble_eq_true rfl) ?_
  show jb_J sc RX7 cX7_calls 3 (Option.some .int) false 1 0 0 0 [some (.ref 9), some (.ref 102), some (.int x)] [] [jb_main imm Im Tm rowm stkm tpm, s1, s2, s3, s4, s5, s6, s7, s8, jb_act Ia boa era, s10, s11] _
  refine jb_aload_n (pc' := 1) dX7_calls_0 rfl rfl ?_
  refine jb_bipush (pc' := 3) 10 dX7_calls_1 (by decide) rfl ?_
  refine jb_callV (pc' := 6) (ci := 0) (q := 102) (As := [.int 10]) (a2 := 0) (b2 := 0) wv_X7_7 rfl dX7_calls_3 (c_began imm Im rowm stkm tpm Tm Ia boa era n9 m9 t9 h0 h1 h2 (by omega) 10) rfl rfl ⟨by decide, Nat.le_of_eq (Nat.zero_add _), Nat.le_of_eq (Nat.zero_add _)⟩ (Nat.le_of_ble_eq_true rfl) rfl (fun r h9 hq => ?_)
  obtain ⟨rfl, A1, ha1, hb1, hc1, rfl⟩ := hq
  show jb_J _ RX7 cX7_calls 3 (Option.some .int) false 1 0 0 6 [some (.ref 9), some (.ref 102), some (.int x)] [] [jb_main imm Im Tm rowm stkm tpm, s1, s2, s3, s4, s5, s6, s7, s8, jb_act A1 (jp_wr boa t9 [10]) era, s10, s11] _
  refine jb_iload_n (pc' := 7) dX7_calls_6 rfl rfl ?_
  refine jb_aload_n (pc' := 8) dX7_calls_7 rfl rfl ?_
  refine gf_X7_13 (pc' := 11) (v := .int (A1 0)) dX7_calls_8 rfl rfl rfl ?_
  refine jb_top (v := .int (A1 0)) (w := .int n9) (jb_vI ha1) ?_
  refine jb_iadd (pc' := 12) dX7_calls_11 rfl ?_
  refine jb_iret dX7_calls_12 rfl ?_
  exact ⟨rfl, A1, ha1, hb1, hc1, rfl⟩
set_option maxRecDepth 100000 in
set_option maxHeartbeats 4000000 in
theorem ca_X7_waits_9 {sc : Nat × (Nat → Int32)} {s1 s2 s3 s4 s5 s6 s7 s8 s10 s11 : List va_E} (imm : Int32) (Im rowm stkm tpm : Nat → Int32) (Tm : Nat → Value) (Ia boa era : Nat → Int32) (n9 m9 : Int32) (t9 : Nat) (h0 : Ia 0 = n9) (h1 : Ia 1 = m9) (h2 : Ia 2 = nI t9) (ht : t9 + 1 ≤ 40) (x : Int32) : jb_C sc yX7_waits cX7_waits 3 (Option.some .int) 1 0 0 [.ref 9, .ref 102, .int x] [jb_main imm Im Tm rowm stkm tpm, s1, s2, s3, s4, s5, s6, s7, s8, jb_act Ia boa era, s10, s11] (fun r h9 => r = some (.int ((x) - m9)) ∧ ∃ A9, A9 0 = n9 ∧ A9 1 = m9 ∧ A9 2 = nI (t9 + 1) ∧ h9 = [jb_main imm Im Tm rowm stkm tpm, s1, s2, s3, s4, s5, s6, s7, s8, jb_act A9 (jp_wr boa t9 [12]) era, s10, s11]) := by
  refine jb_CofJ (ini := false) (by decide +kernel) (fun h => by cases h) (Nat.le_of_ble_eq_true rfl) ?_
  show jb_J sc RX7 cX7_waits 3 (Option.some .int) false 1 0 0 0 [some (.ref 9), some (.ref 102), some (.int x)] [] [jb_main imm Im Tm rowm stkm tpm, s1, s2, s3, s4, s5, s6, s7, s8, jb_act Ia boa era, s10, s11] _
  refine jb_aload_n (pc' := 1) dX7_waits_0 rfl rfl ?_
  refine jb_bipush (pc' := 3) 12 dX7_waits_1 (by decide) rfl ?_
  refine jb_callV (pc' := 6) (ci := 0) (q := 102) (As := [.int 12]) (a2 := 0) (b2 := 0) wv_X7_7 rfl dX7_waits_3 (c_began imm Im rowm stkm tpm Tm Ia boa era n9 m9 t9 h0 h1 h2 (by omega) 12) rfl rfl ⟨by decide, Nat.le_of_eq (Nat.zero_add _), Nat.le_of_eq (Nat.zero_add _)⟩ (Nat.le_of_ble_eq_true rfl) rfl (fun r h9 hq => ?_)
  obtain ⟨rfl, A1, ha1, hb1, hc1, rfl⟩ := hq
  show jb_J _ RX7 cX7_waits 3 (Option.some .int) false 1 0 0 6 [some (.ref 9), some (.ref 102), some (.int x)] [] [jb_main imm Im Tm rowm stkm tpm, s1, s2, s3, s4, s5, s6, s7, s8, jb_act A1 (jp_wr boa t9 [12]) era, s10, s11] _
  refine jb_iload_n (pc' := 7) dX7_waits_6 rfl rfl ?_
  refine jb_aload_n (pc' := 8) dX7_waits_7 rfl rfl ?_
  refine gf_X7_23 (pc' := 11) (v := .int (A1 1)) dX7_waits_8 rfl rfl rfl ?_
  refine jb_top (v := .int (A1 1)) (w := .int m9) (jb_vI hb1) ?_
  refine jb_isub (pc' := 12) dX7_waits_11 rfl ?_
  refine jb_iret dX7_waits_12 rfl ?_
  exact ⟨rfl, A1, ha1, hb1, hc1, rfl⟩
set_option maxRecDepth 100000 in
set_option maxHeartbeats 4000000 in
theorem ca_X6_waits_9 {sc : Nat × (Nat → Int32)} {s1 s2 s3 s4 s5 s6 s7 s8 s10 s11 : List va_E} (imm : Int32) (Im rowm stkm tpm : Nat → Int32) (Tm : Nat → Value) (Ia boa era : Nat → Int32) (n9 m9 : Int32) (t9 : Nat) (h0 : Ia 0 = n9) (h1 : Ia 1 = m9) (h2 : Ia 2 = nI t9) (ht : t9 + 2 ≤ 40) (x : Int32) : jb_C sc yX6_waits cX6_waits 3 (Option.some .int) 2 0 0 [.ref 9, .ref 102, .int x] [jb_main imm Im Tm rowm stkm tpm, s1, s2, s3, s4, s5, s6, s7, s8, jb_act Ia boa era, s10, s11] (fun r h9 => r = some (.int (-((x) - m9))) ∧ ∃ A9, A9 0 = n9 ∧ A9 1 = m9 ∧ A9 2 = nI (t9 + 2) ∧ h9 = [jb_main imm Im Tm rowm stkm tpm, s1, s2, s3, s4, s5, s6, s7, s8, jb_act A9 (jp_wr boa t9 [40, 12]) era, s10, s11]) := by
  refine jb_CofJ (ini := false) (by decide +kernel) (fun h => by cases h) (Nat.le_of_ble_eq_true rfl) ?_
  show jb_J sc RX6 cX6_waits 3 (Option.some .int) false 2 0 0 0 [some (.ref 9), some (.ref 102), some (.int x)] [] [jb_main imm Im Tm rowm stkm tpm, s1, s2, s3, s4, s5, s6, s7, s8, jb_act Ia boa era, s10, s11] _
  refine jb_aload_n (pc' := 1) dX6_waits_0 rfl rfl ?_
  refine jb_bipush (pc' := 3) 40 dX6_waits_1 (by decide) rfl ?_
  refine jb_callV (pc' := 6) (ci := 0) (q := 102) (As := [.int 40]) (a2 := 0) (b2 := 0) wv_X6_7 rfl dX6_waits_3 (c_began imm Im rowm stkm tpm Tm Ia boa era n9 m9 t9 h0 h1 h2 (by omega) 40) rfl rfl ⟨by decide, Nat.le_of_eq (Nat.zero_add _), Nat.le_of_eq (Nat.zero_add _)⟩ (Nat.le_of_ble_eq_true rfl) rfl (fun r h9 hq => ?_)
  obtain ⟨rfl, A1, ha1, hb1, hc1, rfl⟩ := hq
  show jb_J _ RX6 cX6_waits 3 (Option.some .int) false 2 0 0 6 [some (.ref 9), some (.ref 102), some (.int x)] [] [jb_main imm Im Tm rowm stkm tpm, s1, s2, s3, s4, s5, s6, s7, s8, jb_act A1 (jp_wr boa t9 [40]) era, s10, s11] _
  refine jb_aload_n (pc' := 7) dX6_waits_6 rfl rfl ?_
  refine jb_aload_n (pc' := 8) dX6_waits_7 rfl rfl ?_
  refine jb_iload_n (pc' := 9) dX6_waits_8 rfl rfl ?_
  refine jb_callP (pc' := 12) (ci := 6) (q := 9) (As := [.ref 102, .int x]) (a2 := 0) (b2 := 0) wv_X6_13 rfl dX6_waits_9 (ca_X7_waits_9 imm Im rowm stkm tpm Tm A1 (jp_wr boa t9 [40]) era n9 m9 (t9 + 1) ha1 hb1 hc1 (by omega) x) rfl rfl ⟨by decide, Nat.le_of_eq (Nat.zero_add _), Nat.le_of_eq (Nat.zero_add _)⟩ (Nat.le_of_ble_eq_true rfl) rfl (fun r h9 hq => ?_)
  obtain ⟨rfl, A2, ha2, hb2, hc2, rfl⟩ := hq
  show jb_J _ RX6 cX6_waits 3 (Option.some .int) false 2 0 0 12 [some (.ref 9), some (.ref 102), some (.int x)] [.int ((x) - m9)] [jb_main imm Im Tm rowm stkm tpm, s1, s2, s3, s4, s5, s6, s7, s8, jb_act A2 (jp_wr (jp_wr boa t9 [40]) (t9 + 1) [12]) era, s10, s11] _
  refine jb_ineg (pc' := 13) dX6_waits_12 rfl ?_
  refine jb_iret dX6_waits_13 rfl ?_
  exact ⟨rfl, A2, ha2, hb2, hc2, rfl⟩
set_option maxRecDepth 100000 in
set_option maxHeartbeats 4000000 in
theorem ca_X7_hears_9 {sc : Nat × (Nat → Int32)} {s1 s2 s3 s4 s5 s6 s7 s8 s10 s11 : List va_E} (imm : Int32) (Im rowm stkm tpm : Nat → Int32) (Tm : Nat → Value) (Ia boa era : Nat → Int32) (n9 m9 : Int32) (t9 : Nat) (h0 : Ia 0 = n9) (h1 : Ia 1 = m9) (h2 : Ia 2 = nI t9) (ht : t9 + 2 ≤ 40) (x : Int32) : jb_C sc yX7_hears cX7_hears 3 (Option.some .int) 2 0 0 [.ref 9, .ref 102, .int x] [jb_main imm Im Tm rowm stkm tpm, s1, s2, s3, s4, s5, s6, s7, s8, jb_act Ia boa era, s10, s11] (fun r h9 => r = some (.int (((x) + n9) * 2)) ∧ ∃ A9, A9 0 = n9 ∧ A9 1 = m9 ∧ A9 2 = nI (t9 + 2) ∧ h9 = [jb_main imm Im Tm rowm stkm tpm, s1, s2, s3, s4, s5, s6, s7, s8, jb_act A9 (jp_wr boa t9 [11, 10]) era, s10, s11]) := by
  refine jb_CofJ (ini := false) (by decide +kernel) (fun h => by cases h) (Nat.le_of_ble_eq_true rfl) ?_
  show jb_J sc RX7 cX7_hears 3 (Option.some .int) false 2 0 0 0 [some (.ref 9), some (.ref 102), some (.int x)] [] [jb_main imm Im Tm rowm stkm tpm, s1, s2, s3, s4, s5, s6, s7, s8, jb_act Ia boa era, s10, s11] _
  refine jb_aload_n (pc' := 1) dX7_hears_0 rfl rfl ?_
  refine jb_bipush (pc' := 3) 11 dX7_hears_1 (by decide) rfl ?_
  refine jb_callV (pc' := 6) (ci := 0) (q := 102) (As := [.int 11]) (a2 := 0) (b2 := 0) wv_X7_7 rfl dX7_hears_3 (c_began imm Im rowm stkm tpm Tm Ia boa era n9 m9 t9 h0 h1 h2 (by omega) 11) rfl rfl ⟨by decide, Nat.le_of_eq (Nat.zero_add _), Nat.le_of_eq (Nat.zero_add _)⟩ (Nat.le_of_ble_eq_true rfl) rfl (fun r h9 hq => ?_)
  obtain ⟨rfl, A1, ha1, hb1, hc1, rfl⟩ := hq
  show jb_J _ RX7 cX7_hears 3 (Option.some .int) false 2 0 0 6 [some (.ref 9), some (.ref 102), some (.int x)] [] [jb_main imm Im Tm rowm stkm tpm, s1, s2, s3, s4, s5, s6, s7, s8, jb_act A1 (jp_wr boa t9 [11]) era, s10, s11] _
  refine jb_aload_n (pc' := 7) dX7_hears_6 rfl rfl ?_
  refine jb_aload_n (pc' := 8) dX7_hears_7 rfl rfl ?_
  refine jb_iload_n (pc' := 9) dX7_hears_8 rfl rfl ?_
  refine jb_callU (pc' := 12) (ci := 6) (q := 9) (As := [.ref 102, .int x]) (a2 := 0) (b2 := 0) wv_X7_17_X6 rfl dX7_hears_9 (ca_X7_calls_9 imm Im rowm stkm tpm Tm A1 (jp_wr boa t9 [11]) era n9 m9 (t9 + 1) ha1 hb1 hc1 (by omega) x) rfl rfl ⟨by decide, Nat.le_of_eq (Nat.zero_add _), Nat.le_of_eq (Nat.zero_add _)⟩ (Nat.le_of_ble_eq_true rfl) rfl (fun r h9 hq => ?_)
  obtain ⟨rfl, A2, ha2, hb2, hc2, rfl⟩ := hq
  show jb_J _ RX7 cX7_hears 3 (Option.some .int) false 2 0 0 12 [some (.ref 9), some (.ref 102), some (.int x)] [.int ((x) + n9)] [jb_main imm Im Tm rowm stkm tpm, s1, s2, s3, s4, s5, s6, s7, s8, jb_act A2 (jp_wr (jp_wr boa t9 [11]) (t9 + 1) [10]) era, s10, s11] _
  refine jb_iconst (pc' := 13) 2 dX7_hears_12 (by decide) rfl ?_
  refine jb_imul (pc' := 14) dX7_hears_13 rfl ?_
  refine jb_iret dX7_hears_14 rfl ?_
  exact ⟨rfl, A2, ha2, hb2, hc2, rfl⟩
set_option maxRecDepth 100000 in
set_option maxHeartbeats 4000000 in
theorem ca_X7_tells_9 {sc : Nat × (Nat → Int32)} {s1 s2 s3 s4 s5 s6 s7 s8 s10 s11 : List va_E} (imm : Int32) (Im rowm stkm tpm : Nat → Int32) (Tm : Nat → Value) (Ia boa era : Nat → Int32) (n9 m9 : Int32) (t9 : Nat) (h0 : Ia 0 = n9) (h1 : Ia 1 = m9) (h2 : Ia 2 = nI t9) (ht : t9 + 5 ≤ 40) (x : Int32) : jb_C sc yX7_tells cX7_tells 3 (Option.some .int) 3 0 0 [.ref 9, .ref 102, .int x] [jb_main imm Im Tm rowm stkm tpm, s1, s2, s3, s4, s5, s6, s7, s8, jb_act Ia boa era, s10, s11] (fun r h9 => r = some (.int ((((x) + n9) * 2) ^^^ (-((x) - m9)))) ∧ ∃ A9, A9 0 = n9 ∧ A9 1 = m9 ∧ A9 2 = nI (t9 + 5) ∧ h9 = [jb_main imm Im Tm rowm stkm tpm, s1, s2, s3, s4, s5, s6, s7, s8, jb_act A9 (jp_wr boa t9 [13, 11, 10, 40, 12]) era, s10, s11]) := by
  refine jb_CofJ (ini := false) (by decide +kernel) (fun h => by cases h) (Nat.le_of_ble_eq_true rfl) ?_
  show jb_J sc RX7 cX7_tells 3 (Option.some .int) false 3 0 0 0 [some (.ref 9), some (.ref 102), some (.int x)] [] [jb_main imm Im Tm rowm stkm tpm, s1, s2, s3, s4, s5, s6, s7, s8, jb_act Ia boa era, s10, s11] _
  refine jb_aload_n (pc' := 1) dX7_tells_0 rfl rfl ?_
  refine jb_bipush (pc' := 3) 13 dX7_tells_1 (by decide) rfl ?_
  refine jb_callV (pc' := 6) (ci := 0) (q := 102) (As := [.int 13]) (a2 := 0) (b2 := 0) wv_X7_7 rfl dX7_tells_3 (c_began imm Im rowm stkm tpm Tm Ia boa era n9 m9 t9 h0 h1 h2 (by omega) 13) rfl rfl ⟨by decide, Nat.le_of_eq (Nat.zero_add _), Nat.le_of_eq (Nat.zero_add _)⟩ (Nat.le_of_ble_eq_true rfl) rfl (fun r h9 hq => ?_)
  obtain ⟨rfl, A1, ha1, hb1, hc1, rfl⟩ := hq
  show jb_J _ RX7 cX7_tells 3 (Option.some .int) false 3 0 0 6 [some (.ref 9), some (.ref 102), some (.int x)] [] [jb_main imm Im Tm rowm stkm tpm, s1, s2, s3, s4, s5, s6, s7, s8, jb_act A1 (jp_wr boa t9 [13]) era, s10, s11] _
  refine jb_aload_n (pc' := 7) dX7_tells_6 rfl rfl ?_
  refine jb_aload_n (pc' := 8) dX7_tells_7 rfl rfl ?_
  refine jb_iload_n (pc' := 9) dX7_tells_8 rfl rfl ?_
  refine jb_callU (pc' := 12) (ci := 6) (q := 9) (As := [.ref 102, .int x]) (a2 := 0) (b2 := 0) wv_X7_26_X6 rfl dX7_tells_9 (ca_X7_hears_9 imm Im rowm stkm tpm Tm A1 (jp_wr boa t9 [13]) era n9 m9 (t9 + 1) ha1 hb1 hc1 (by omega) x) rfl rfl ⟨by decide, Nat.le_of_eq (Nat.zero_add _), Nat.le_of_eq (Nat.zero_add _)⟩ (Nat.le_of_ble_eq_true rfl) rfl (fun r h9 hq => ?_)
  obtain ⟨rfl, A2, ha2, hb2, hc2, rfl⟩ := hq
  show jb_J _ RX7 cX7_tells 3 (Option.some .int) false 3 0 0 12 [some (.ref 9), some (.ref 102), some (.int x)] [.int (((x) + n9) * 2)] [jb_main imm Im Tm rowm stkm tpm, s1, s2, s3, s4, s5, s6, s7, s8, jb_act A2 (jp_wr (jp_wr boa t9 [13]) (t9 + 1) [11, 10]) era, s10, s11] _
  refine jb_aload_n (pc' := 13) dX7_tells_12 rfl rfl ?_
  refine jb_aload_n (pc' := 14) dX7_tells_13 rfl rfl ?_
  refine jb_iload_n (pc' := 15) dX7_tells_14 rfl rfl ?_
  refine jb_callU (pc' := 18) (ci := 6) (q := 9) (As := [.ref 102, .int x]) (a2 := 0) (b2 := 0) wv_X7_29_X6 rfl dX7_tells_15 (ca_X6_waits_9 imm Im rowm stkm tpm Tm A2 (jp_wr (jp_wr boa t9 [13]) (t9 + 1) [11, 10]) era n9 m9 ((t9 + 1) + 2) ha2 hb2 hc2 (by omega) x) rfl rfl ⟨by decide, Nat.le_of_eq (Nat.zero_add _), Nat.le_of_eq (Nat.zero_add _)⟩ (Nat.le_of_ble_eq_true rfl) rfl (fun r h9 hq => ?_)
  obtain ⟨rfl, A3, ha3, hb3, hc3, rfl⟩ := hq
  show jb_J _ RX7 cX7_tells 3 (Option.some .int) false 3 0 0 18 [some (.ref 9), some (.ref 102), some (.int x)] [.int (-((x) - m9)), .int (((x) + n9) * 2)] [jb_main imm Im Tm rowm stkm tpm, s1, s2, s3, s4, s5, s6, s7, s8, jb_act A3 (jp_wr (jp_wr (jp_wr boa t9 [13]) (t9 + 1) [11, 10]) ((t9 + 1) + 2) [40, 12]) era, s10, s11] _
  refine jb_ixor (pc' := 19) dX7_tells_18 rfl ?_
  refine jb_iret dX7_tells_19 rfl ?_
  exact ⟨rfl, A3, ha3, hb3, hc3, rfl⟩
set_option maxRecDepth 100000 in
set_option maxHeartbeats 4000000 in
theorem ca_X7_calls_10 {sc : Nat × (Nat → Int32)} {s1 s2 s3 s4 s5 s6 s7 s8 s10 s11 : List va_E} (imm : Int32) (Im rowm stkm tpm : Nat → Int32) (Tm : Nat → Value) (Ia boa era : Nat → Int32) (n9 m9 : Int32) (t9 : Nat) (h0 : Ia 0 = n9) (h1 : Ia 1 = m9) (h2 : Ia 2 = nI t9) (ht : t9 + 1 ≤ 40) (x : Int32) : jb_C sc yX7_calls cX7_calls 3 (Option.some .int) 1 0 0 [.ref 10, .ref 102, .int x] [jb_main imm Im Tm rowm stkm tpm, s1, s2, s3, s4, s5, s6, s7, s8, jb_act Ia boa era, s10, s11] (fun r h9 => r = some (.int ((x) + n9)) ∧ ∃ A9, A9 0 = n9 ∧ A9 1 = m9 ∧ A9 2 = nI (t9 + 1) ∧ h9 = [jb_main imm Im Tm rowm stkm tpm, s1, s2, s3, s4, s5, s6, s7, s8, jb_act A9 (jp_wr boa t9 [10]) era, s10, s11]) := by
  refine jb_CofJ (ini := false) (by decide +kernel) (fun h => by cases h) (Nat.le_of_ble_eq_true rfl) ?_
  show jb_J sc RX7 cX7_calls 3 (Option.some .int) false 1 0 0 0 [some (.ref 10), some (.ref 102), some (.int x)] [] [jb_main imm Im Tm rowm stkm tpm, s1, s2, s3, s4, s5, s6, s7, s8, jb_act Ia boa era, s10, s11] _
  refine jb_aload_n (pc' := 1) dX7_calls_0 rfl rfl ?_
  refine jb_bipush (pc' := 3) 10 dX7_calls_1 (by decide) rfl ?_
  refine jb_callV (pc' := 6) (ci := 0) (q := 102) (As := [.int 10]) (a2 := 0) (b2 := 0) wv_X7_7 rfl dX7_calls_3 (c_began imm Im rowm stkm tpm Tm Ia boa era n9 m9 t9 h0 h1 h2 (by omega) 10) rfl rfl ⟨by decide, Nat.le_of_eq (Nat.zero_add _), Nat.le_of_eq (Nat.zero_add _)⟩ (Nat.le_of_ble_eq_true rfl) rfl (fun r h9 hq => ?_)
  obtain ⟨rfl, A1, ha1, hb1, hc1, rfl⟩ := hq
  show jb_J _ RX7 cX7_calls 3 (Option.some .int) false 1 0 0 6 [some (.ref 10), some (.ref 102), some (.int x)] [] [jb_main imm Im Tm rowm stkm tpm, s1, s2, s3, s4, s5, s6, s7, s8, jb_act A1 (jp_wr boa t9 [10]) era, s10, s11] _
  refine jb_iload_n (pc' := 7) dX7_calls_6 rfl rfl ?_
  refine jb_aload_n (pc' := 8) dX7_calls_7 rfl rfl ?_
  refine gf_X7_13 (pc' := 11) (v := .int (A1 0)) dX7_calls_8 rfl rfl rfl ?_
  refine jb_top (v := .int (A1 0)) (w := .int n9) (jb_vI ha1) ?_
  refine jb_iadd (pc' := 12) dX7_calls_11 rfl ?_
  refine jb_iret dX7_calls_12 rfl ?_
  exact ⟨rfl, A1, ha1, hb1, hc1, rfl⟩
set_option maxRecDepth 100000 in
set_option maxHeartbeats 4000000 in
theorem ca_X7_waits_10 {sc : Nat × (Nat → Int32)} {s1 s2 s3 s4 s5 s6 s7 s8 s10 s11 : List va_E} (imm : Int32) (Im rowm stkm tpm : Nat → Int32) (Tm : Nat → Value) (Ia boa era : Nat → Int32) (n9 m9 : Int32) (t9 : Nat) (h0 : Ia 0 = n9) (h1 : Ia 1 = m9) (h2 : Ia 2 = nI t9) (ht : t9 + 1 ≤ 40) (x : Int32) : jb_C sc yX7_waits cX7_waits 3 (Option.some .int) 1 0 0 [.ref 10, .ref 102, .int x] [jb_main imm Im Tm rowm stkm tpm, s1, s2, s3, s4, s5, s6, s7, s8, jb_act Ia boa era, s10, s11] (fun r h9 => r = some (.int ((x) - m9)) ∧ ∃ A9, A9 0 = n9 ∧ A9 1 = m9 ∧ A9 2 = nI (t9 + 1) ∧ h9 = [jb_main imm Im Tm rowm stkm tpm, s1, s2, s3, s4, s5, s6, s7, s8, jb_act A9 (jp_wr boa t9 [12]) era, s10, s11]) := by
  refine jb_CofJ (ini := false) (by decide +kernel) (fun h => by cases h) (Nat.le_of_ble_eq_true rfl) ?_
  show jb_J sc RX7 cX7_waits 3 (Option.some .int) false 1 0 0 0 [some (.ref 10), some (.ref 102), some (.int x)] [] [jb_main imm Im Tm rowm stkm tpm, s1, s2, s3, s4, s5, s6, s7, s8, jb_act Ia boa era, s10, s11] _
  refine jb_aload_n (pc' := 1) dX7_waits_0 rfl rfl ?_
  refine jb_bipush (pc' := 3) 12 dX7_waits_1 (by decide) rfl ?_
  refine jb_callV (pc' := 6) (ci := 0) (q := 102) (As := [.int 12]) (a2 := 0) (b2 := 0) wv_X7_7 rfl dX7_waits_3 (c_began imm Im rowm stkm tpm Tm Ia boa era n9 m9 t9 h0 h1 h2 (by omega) 12) rfl rfl ⟨by decide, Nat.le_of_eq (Nat.zero_add _), Nat.le_of_eq (Nat.zero_add _)⟩ (Nat.le_of_ble_eq_true rfl) rfl (fun r h9 hq => ?_)
  obtain ⟨rfl, A1, ha1, hb1, hc1, rfl⟩ := hq
  show jb_J _ RX7 cX7_waits 3 (Option.some .int) false 1 0 0 6 [some (.ref 10), some (.ref 102), some (.int x)] [] [jb_main imm Im Tm rowm stkm tpm, s1, s2, s3, s4, s5, s6, s7, s8, jb_act A1 (jp_wr boa t9 [12]) era, s10, s11] _
  refine jb_iload_n (pc' := 7) dX7_waits_6 rfl rfl ?_
  refine jb_aload_n (pc' := 8) dX7_waits_7 rfl rfl ?_
  refine gf_X7_23 (pc' := 11) (v := .int (A1 1)) dX7_waits_8 rfl rfl rfl ?_
  refine jb_top (v := .int (A1 1)) (w := .int m9) (jb_vI hb1) ?_
  refine jb_isub (pc' := 12) dX7_waits_11 rfl ?_
  refine jb_iret dX7_waits_12 rfl ?_
  exact ⟨rfl, A1, ha1, hb1, hc1, rfl⟩
set_option maxRecDepth 100000 in
set_option maxHeartbeats 4000000 in
theorem ca_X7_hears_10 {sc : Nat × (Nat → Int32)} {s1 s2 s3 s4 s5 s6 s7 s8 s10 s11 : List va_E} (imm : Int32) (Im rowm stkm tpm : Nat → Int32) (Tm : Nat → Value) (Ia boa era : Nat → Int32) (n9 m9 : Int32) (t9 : Nat) (h0 : Ia 0 = n9) (h1 : Ia 1 = m9) (h2 : Ia 2 = nI t9) (ht : t9 + 2 ≤ 40) (x : Int32) : jb_C sc yX7_hears cX7_hears 3 (Option.some .int) 2 0 0 [.ref 10, .ref 102, .int x] [jb_main imm Im Tm rowm stkm tpm, s1, s2, s3, s4, s5, s6, s7, s8, jb_act Ia boa era, s10, s11] (fun r h9 => r = some (.int (((x) + n9) * 2)) ∧ ∃ A9, A9 0 = n9 ∧ A9 1 = m9 ∧ A9 2 = nI (t9 + 2) ∧ h9 = [jb_main imm Im Tm rowm stkm tpm, s1, s2, s3, s4, s5, s6, s7, s8, jb_act A9 (jp_wr boa t9 [11, 10]) era, s10, s11]) := by
  refine jb_CofJ (ini := false) (by decide +kernel) (fun h => by cases h) (Nat.le_of_ble_eq_true rfl) ?_
  show jb_J sc RX7 cX7_hears 3 (Option.some .int) false 2 0 0 0 [some (.ref 10), some (.ref 102), some (.int x)] [] [jb_main imm Im Tm rowm stkm tpm, s1, s2, s3, s4, s5, s6, s7, s8, jb_act Ia boa era, s10, s11] _
  refine jb_aload_n (pc' := 1) dX7_hears_0 rfl rfl ?_
  refine jb_bipush (pc' := 3) 11 dX7_hears_1 (by decide) rfl ?_
  refine jb_callV (pc' := 6) (ci := 0) (q := 102) (As := [.int 11]) (a2 := 0) (b2 := 0) wv_X7_7 rfl dX7_hears_3 (c_began imm Im rowm stkm tpm Tm Ia boa era n9 m9 t9 h0 h1 h2 (by omega) 11) rfl rfl ⟨by decide, Nat.le_of_eq (Nat.zero_add _), Nat.le_of_eq (Nat.zero_add _)⟩ (Nat.le_of_ble_eq_true rfl) rfl (fun r h9 hq => ?_)
  obtain ⟨rfl, A1, ha1, hb1, hc1, rfl⟩ := hq
  show jb_J _ RX7 cX7_hears 3 (Option.some .int) false 2 0 0 6 [some (.ref 10), some (.ref 102), some (.int x)] [] [jb_main imm Im Tm rowm stkm tpm, s1, s2, s3, s4, s5, s6, s7, s8, jb_act A1 (jp_wr boa t9 [11]) era, s10, s11] _
  refine jb_aload_n (pc' := 7) dX7_hears_6 rfl rfl ?_
  refine jb_aload_n (pc' := 8) dX7_hears_7 rfl rfl ?_
  refine jb_iload_n (pc' := 9) dX7_hears_8 rfl rfl ?_
  refine jb_callU (pc' := 12) (ci := 3) (q := 10) (As := [.ref 102, .int x]) (a2 := 0) (b2 := 0) wv_X7_17_X3 rfl dX7_hears_9 (ca_X7_calls_10 imm Im rowm stkm tpm Tm A1 (jp_wr boa t9 [11]) era n9 m9 (t9 + 1) ha1 hb1 hc1 (by omega) x) rfl rfl ⟨by decide, Nat.le_of_eq (Nat.zero_add _), Nat.le_of_eq (Nat.zero_add _)⟩ (Nat.le_of_ble_eq_true rfl) rfl (fun r h9 hq => ?_)
  obtain ⟨rfl, A2, ha2, hb2, hc2, rfl⟩ := hq
  show jb_J _ RX7 cX7_hears 3 (Option.some .int) false 2 0 0 12 [some (.ref 10), some (.ref 102), some (.int x)] [.int ((x) + n9)] [jb_main imm Im Tm rowm stkm tpm, s1, s2, s3, s4, s5, s6, s7, s8, jb_act A2 (jp_wr (jp_wr boa t9 [11]) (t9 + 1) [10]) era, s10, s11] _
  refine jb_iconst (pc' := 13) 2 dX7_hears_12 (by decide) rfl ?_
  refine jb_imul (pc' := 14) dX7_hears_13 rfl ?_
  refine jb_iret dX7_hears_14 rfl ?_
  exact ⟨rfl, A2, ha2, hb2, hc2, rfl⟩
set_option maxRecDepth 100000 in
set_option maxHeartbeats 4000000 in
theorem ca_X2_hears_10 {sc : Nat × (Nat → Int32)} {s1 s2 s3 s4 s5 s6 s7 s8 s10 s11 : List va_E} (imm : Int32) (Im rowm stkm tpm : Nat → Int32) (Tm : Nat → Value) (Ia boa era : Nat → Int32) (n9 m9 : Int32) (t9 : Nat) (h0 : Ia 0 = n9) (h1 : Ia 1 = m9) (h2 : Ia 2 = nI t9) (ht : t9 + 4 ≤ 40) (x : Int32) : jb_C sc yX2_hears cX2_hears 3 (Option.some .int) 3 0 0 [.ref 10, .ref 102, .int x] [jb_main imm Im Tm rowm stkm tpm, s1, s2, s3, s4, s5, s6, s7, s8, jb_act Ia boa era, s10, s11] (fun r h9 => r = some (.int ((((x) + n9) * 2) - ((1) - m9))) ∧ ∃ A9, A9 0 = n9 ∧ A9 1 = m9 ∧ A9 2 = nI (t9 + 4) ∧ h9 = [jb_main imm Im Tm rowm stkm tpm, s1, s2, s3, s4, s5, s6, s7, s8, jb_act A9 (jp_wr boa t9 [20, 11, 10, 12]) era, s10, s11]) := by
  refine jb_CofJ (ini := false) (by decide +kernel) (fun h => by cases h) (Nat.le_of_ble_eq_true rfl) ?_
  show jb_J sc RX2 cX2_hears 3 (Option.some .int) false 3 0 0 0 [some (.ref 10), some (.ref 102), some (.int x)] [] [jb_main imm Im Tm rowm stkm tpm, s1, s2, s3, s4, s5, s6, s7, s8, jb_act Ia boa era, s10, s11] _
  refine jb_aload_n (pc' := 1) dX2_hears_0 rfl rfl ?_
  refine jb_bipush (pc' := 3) 20 dX2_hears_1 (by decide) rfl ?_
  refine jb_callV (pc' := 6) (ci := 0) (q := 102) (As := [.int 20]) (a2 := 0) (b2 := 0) wv_X2_17 rfl dX2_hears_3 (c_began imm Im rowm stkm tpm Tm Ia boa era n9 m9 t9 h0 h1 h2 (by omega) 20) rfl rfl ⟨by decide, Nat.le_of_eq (Nat.zero_add _), Nat.le_of_eq (Nat.zero_add _)⟩ (Nat.le_of_ble_eq_true rfl) rfl (fun r h9 hq => ?_)
  obtain ⟨rfl, A1, ha1, hb1, hc1, rfl⟩ := hq
  show jb_J _ RX2 cX2_hears 3 (Option.some .int) false 3 0 0 6 [some (.ref 10), some (.ref 102), some (.int x)] [] [jb_main imm Im Tm rowm stkm tpm, s1, s2, s3, s4, s5, s6, s7, s8, jb_act A1 (jp_wr boa t9 [20]) era, s10, s11] _
  refine jb_aload_n (pc' := 7) dX2_hears_6 rfl rfl ?_
  refine jb_aload_n (pc' := 8) dX2_hears_7 rfl rfl ?_
  refine jb_iload_n (pc' := 9) dX2_hears_8 rfl rfl ?_
  refine jb_callP (pc' := 12) (ci := 3) (q := 10) (As := [.ref 102, .int x]) (a2 := 0) (b2 := 0) wv_X2_23 rfl dX2_hears_9 (ca_X7_hears_10 imm Im rowm stkm tpm Tm A1 (jp_wr boa t9 [20]) era n9 m9 (t9 + 1) ha1 hb1 hc1 (by omega) x) rfl rfl ⟨by decide, Nat.le_of_eq (Nat.zero_add _), Nat.le_of_eq (Nat.zero_add _)⟩ (Nat.le_of_ble_eq_true rfl) rfl (fun r h9 hq => ?_)
  obtain ⟨rfl, A2, ha2, hb2, hc2, rfl⟩ := hq
  show jb_J _ RX2 cX2_hears 3 (Option.some .int) false 3 0 0 12 [some (.ref 10), some (.ref 102), some (.int x)] [.int (((x) + n9) * 2)] [jb_main imm Im Tm rowm stkm tpm, s1, s2, s3, s4, s5, s6, s7, s8, jb_act A2 (jp_wr (jp_wr boa t9 [20]) (t9 + 1) [11, 10]) era, s10, s11] _
  refine jb_aload_n (pc' := 13) dX2_hears_12 rfl rfl ?_
  refine jb_aload_n (pc' := 14) dX2_hears_13 rfl rfl ?_
  refine jb_iconst (pc' := 15) 1 dX2_hears_14 (by decide) rfl ?_
  refine jb_callU (pc' := 18) (ci := 3) (q := 10) (As := [.ref 102, .int 1]) (a2 := 0) (b2 := 0) wv_X2_27_X3 rfl dX2_hears_15 (ca_X7_waits_10 imm Im rowm stkm tpm Tm A2 (jp_wr (jp_wr boa t9 [20]) (t9 + 1) [11, 10]) era n9 m9 ((t9 + 1) + 2) ha2 hb2 hc2 (by omega) 1) rfl rfl ⟨by decide, Nat.le_of_eq (Nat.zero_add _), Nat.le_of_eq (Nat.zero_add _)⟩ (Nat.le_of_ble_eq_true rfl) rfl (fun r h9 hq => ?_)
  obtain ⟨rfl, A3, ha3, hb3, hc3, rfl⟩ := hq
  show jb_J _ RX2 cX2_hears 3 (Option.some .int) false 3 0 0 18 [some (.ref 10), some (.ref 102), some (.int x)] [.int ((1) - m9), .int (((x) + n9) * 2)] [jb_main imm Im Tm rowm stkm tpm, s1, s2, s3, s4, s5, s6, s7, s8, jb_act A3 (jp_wr (jp_wr (jp_wr boa t9 [20]) (t9 + 1) [11, 10]) ((t9 + 1) + 2) [12]) era, s10, s11] _
  refine jb_isub (pc' := 19) dX2_hears_18 rfl ?_
  refine jb_iret dX2_hears_19 rfl ?_
  exact ⟨rfl, A3, ha3, hb3, hc3, rfl⟩
set_option maxRecDepth 100000 in
set_option maxHeartbeats 4000000 in
theorem ca_X3_hears_10 {sc : Nat × (Nat → Int32)} {s1 s2 s3 s4 s5 s6 s7 s8 s10 s11 : List va_E} (imm : Int32) (Im rowm stkm tpm : Nat → Int32) (Tm : Nat → Value) (Ia boa era : Nat → Int32) (n9 m9 : Int32) (t9 : Nat) (h0 : Ia 0 = n9) (h1 : Ia 1 = m9) (h2 : Ia 2 = nI t9) (ht : t9 + 5 ≤ 40) (x : Int32) : jb_C sc yX3_hears cX3_hears 3 (Option.some .int) 4 0 0 [.ref 10, .ref 102, .int x] [jb_main imm Im Tm rowm stkm tpm, s1, s2, s3, s4, s5, s6, s7, s8, jb_act Ia boa era, s10, s11] (fun r h9 => r = some (.int (((((x) + 1) + n9) * 2) - ((1) - m9))) ∧ ∃ A9, A9 0 = n9 ∧ A9 1 = m9 ∧ A9 2 = nI (t9 + 5) ∧ h9 = [jb_main imm Im Tm rowm stkm tpm, s1, s2, s3, s4, s5, s6, s7, s8, jb_act A9 (jp_wr boa t9 [50, 20, 11, 10, 12]) era, s10, s11]) := by
  refine jb_CofJ (ini := false) (by decide +kernel) (fun h => by cases h) (Nat.le_of_ble_eq_true rfl) ?_
  show jb_J sc RX3 cX3_hears 3 (Option.some .int) false 4 0 0 0 [some (.ref 10), some (.ref 102), some (.int x)] [] [jb_main imm Im Tm rowm stkm tpm, s1, s2, s3, s4, s5, s6, s7, s8, jb_act Ia boa era, s10, s11] _
  refine jb_aload_n (pc' := 1) dX3_hears_0 rfl rfl ?_
  refine jb_bipush (pc' := 3) 50 dX3_hears_1 (by decide) rfl ?_
  refine jb_callV (pc' := 6) (ci := 0) (q := 102) (As := [.int 50]) (a2 := 0) (b2 := 0) wv_X3_19 rfl dX3_hears_3 (c_began imm Im rowm stkm tpm Tm Ia boa era n9 m9 t9 h0 h1 h2 (by omega) 50) rfl rfl ⟨by decide, Nat.le_of_eq (Nat.zero_add _), Nat.le_of_eq (Nat.zero_add _)⟩ (Nat.le_of_ble_eq_true rfl) rfl (fun r h9 hq => ?_)
  obtain ⟨rfl, A1, ha1, hb1, hc1, rfl⟩ := hq
  show jb_J _ RX3 cX3_hears 3 (Option.some .int) false 4 0 0 6 [some (.ref 10), some (.ref 102), some (.int x)] [] [jb_main imm Im Tm rowm stkm tpm, s1, s2, s3, s4, s5, s6, s7, s8, jb_act A1 (jp_wr boa t9 [50]) era, s10, s11] _
  refine jb_aload_n (pc' := 7) dX3_hears_6 rfl rfl ?_
  refine jb_aload_n (pc' := 8) dX3_hears_7 rfl rfl ?_
  refine jb_iload_n (pc' := 9) dX3_hears_8 rfl rfl ?_
  refine jb_iconst (pc' := 10) 1 dX3_hears_9 (by decide) rfl ?_
  refine jb_iadd (pc' := 11) dX3_hears_10 rfl ?_
  refine jb_callP (pc' := 14) (ci := 3) (q := 10) (As := [.ref 102, .int (x + 1)]) (a2 := 0) (b2 := 0) wv_X3_25 rfl dX3_hears_11 (ca_X2_hears_10 imm Im rowm stkm tpm Tm A1 (jp_wr boa t9 [50]) era n9 m9 (t9 + 1) ha1 hb1 hc1 (by omega) (x + 1)) rfl rfl ⟨by decide, Nat.le_of_eq (Nat.zero_add _), Nat.le_of_eq (Nat.zero_add _)⟩ (Nat.le_of_ble_eq_true rfl) rfl (fun r h9 hq => ?_)
  obtain ⟨rfl, A2, ha2, hb2, hc2, rfl⟩ := hq
  show jb_J _ RX3 cX3_hears 3 (Option.some .int) false 4 0 0 14 [some (.ref 10), some (.ref 102), some (.int x)] [.int ((((x + 1) + n9) * 2) - ((1) - m9))] [jb_main imm Im Tm rowm stkm tpm, s1, s2, s3, s4, s5, s6, s7, s8, jb_act A2 (jp_wr (jp_wr boa t9 [50]) (t9 + 1) [20, 11, 10, 12]) era, s10, s11] _
  refine jb_iret dX3_hears_14 rfl ?_
  exact ⟨rfl, A2, ha2, hb2, hc2, rfl⟩
set_option maxRecDepth 100000 in
set_option maxHeartbeats 4000000 in
theorem ca_X7_tells_10 {sc : Nat × (Nat → Int32)} {s1 s2 s3 s4 s5 s6 s7 s8 s10 s11 : List va_E} (imm : Int32) (Im rowm stkm tpm : Nat → Int32) (Tm : Nat → Value) (Ia boa era : Nat → Int32) (n9 m9 : Int32) (t9 : Nat) (h0 : Ia 0 = n9) (h1 : Ia 1 = m9) (h2 : Ia 2 = nI t9) (ht : t9 + 7 ≤ 40) (x : Int32) : jb_C sc yX7_tells cX7_tells 3 (Option.some .int) 5 0 0 [.ref 10, .ref 102, .int x] [jb_main imm Im Tm rowm stkm tpm, s1, s2, s3, s4, s5, s6, s7, s8, jb_act Ia boa era, s10, s11] (fun r h9 => r = some (.int ((((((x) + 1) + n9) * 2) - ((1) - m9)) ^^^ ((x) - m9))) ∧ ∃ A9, A9 0 = n9 ∧ A9 1 = m9 ∧ A9 2 = nI (t9 + 7) ∧ h9 = [jb_main imm Im Tm rowm stkm tpm, s1, s2, s3, s4, s5, s6, s7, s8, jb_act A9 (jp_wr boa t9 [13, 50, 20, 11, 10, 12, 12]) era, s10, s11]) := by
  refine jb_CofJ (ini := false) (by decide +kernel) (fun h => by cases h) (Nat.le_of_ble_eq_true rfl) ?_
  show jb_J sc RX7 cX7_tells 3 (Option.some .int) false 5 0 0 0 [some (.ref 10), some (.ref 102), some (.int x)] [] [jb_main imm Im Tm rowm stkm tpm, s1, s2, s3, s4, s5, s6, s7, s8, jb_act Ia boa era, s10, s11] _
  refine jb_aload_n (pc' := 1) dX7_tells_0 rfl rfl ?_
  refine jb_bipush (pc' := 3) 13 dX7_tells_1 (by decide) rfl ?_
  refine jb_callV (pc' := 6) (ci := 0) (q := 102) (As := [.int 13]) (a2 := 0) (b2 := 0) wv_X7_7 rfl dX7_tells_3 (c_began imm Im rowm stkm tpm Tm Ia boa era n9 m9 t9 h0 h1 h2 (by omega) 13) rfl rfl ⟨by decide, Nat.le_of_eq (Nat.zero_add _), Nat.le_of_eq (Nat.zero_add _)⟩ (Nat.le_of_ble_eq_true rfl) rfl (fun r h9 hq => ?_)
  obtain ⟨rfl, A1, ha1, hb1, hc1, rfl⟩ := hq
  show jb_J _ RX7 cX7_tells 3 (Option.some .int) false 5 0 0 6 [some (.ref 10), some (.ref 102), some (.int x)] [] [jb_main imm Im Tm rowm stkm tpm, s1, s2, s3, s4, s5, s6, s7, s8, jb_act A1 (jp_wr boa t9 [13]) era, s10, s11] _
  refine jb_aload_n (pc' := 7) dX7_tells_6 rfl rfl ?_
  refine jb_aload_n (pc' := 8) dX7_tells_7 rfl rfl ?_
  refine jb_iload_n (pc' := 9) dX7_tells_8 rfl rfl ?_
  refine jb_callU (pc' := 12) (ci := 3) (q := 10) (As := [.ref 102, .int x]) (a2 := 0) (b2 := 0) wv_X7_26_X3 rfl dX7_tells_9 (ca_X3_hears_10 imm Im rowm stkm tpm Tm A1 (jp_wr boa t9 [13]) era n9 m9 (t9 + 1) ha1 hb1 hc1 (by omega) x) rfl rfl ⟨by decide, Nat.le_of_eq (Nat.zero_add _), Nat.le_of_eq (Nat.zero_add _)⟩ (Nat.le_of_ble_eq_true rfl) rfl (fun r h9 hq => ?_)
  obtain ⟨rfl, A2, ha2, hb2, hc2, rfl⟩ := hq
  show jb_J _ RX7 cX7_tells 3 (Option.some .int) false 5 0 0 12 [some (.ref 10), some (.ref 102), some (.int x)] [.int (((((x) + 1) + n9) * 2) - ((1) - m9))] [jb_main imm Im Tm rowm stkm tpm, s1, s2, s3, s4, s5, s6, s7, s8, jb_act A2 (jp_wr (jp_wr boa t9 [13]) (t9 + 1) [50, 20, 11, 10, 12]) era, s10, s11] _
  refine jb_aload_n (pc' := 13) dX7_tells_12 rfl rfl ?_
  refine jb_aload_n (pc' := 14) dX7_tells_13 rfl rfl ?_
  refine jb_iload_n (pc' := 15) dX7_tells_14 rfl rfl ?_
  refine jb_callU (pc' := 18) (ci := 3) (q := 10) (As := [.ref 102, .int x]) (a2 := 0) (b2 := 0) wv_X7_29_X3 rfl dX7_tells_15 (ca_X7_waits_10 imm Im rowm stkm tpm Tm A2 (jp_wr (jp_wr boa t9 [13]) (t9 + 1) [50, 20, 11, 10, 12]) era n9 m9 ((t9 + 1) + 5) ha2 hb2 hc2 (by omega) x) rfl rfl ⟨by decide, Nat.le_of_eq (Nat.zero_add _), Nat.le_of_eq (Nat.zero_add _)⟩ (Nat.le_of_ble_eq_true rfl) rfl (fun r h9 hq => ?_)
  obtain ⟨rfl, A3, ha3, hb3, hc3, rfl⟩ := hq
  show jb_J _ RX7 cX7_tells 3 (Option.some .int) false 5 0 0 18 [some (.ref 10), some (.ref 102), some (.int x)] [.int ((x) - m9), .int (((((x) + 1) + n9) * 2) - ((1) - m9))] [jb_main imm Im Tm rowm stkm tpm, s1, s2, s3, s4, s5, s6, s7, s8, jb_act A3 (jp_wr (jp_wr (jp_wr boa t9 [13]) (t9 + 1) [50, 20, 11, 10, 12]) ((t9 + 1) + 5) [12]) era, s10, s11] _
  refine jb_ixor (pc' := 19) dX7_tells_18 rfl ?_
  refine jb_iret dX7_tells_19 rfl ?_
  exact ⟨rfl, A3, ha3, hb3, hc3, rfl⟩
set_option maxRecDepth 100000 in
set_option maxHeartbeats 4000000 in
theorem ca_X7_calls_11 {sc : Nat × (Nat → Int32)} {s1 s2 s3 s4 s5 s6 s7 s8 s10 s11 : List va_E} (imm : Int32) (Im rowm stkm tpm : Nat → Int32) (Tm : Nat → Value) (Ia boa era : Nat → Int32) (n9 m9 : Int32) (t9 : Nat) (h0 : Ia 0 = n9) (h1 : Ia 1 = m9) (h2 : Ia 2 = nI t9) (ht : t9 + 1 ≤ 40) (x : Int32) : jb_C sc yX7_calls cX7_calls 3 (Option.some .int) 1 0 0 [.ref 11, .ref 102, .int x] [jb_main imm Im Tm rowm stkm tpm, s1, s2, s3, s4, s5, s6, s7, s8, jb_act Ia boa era, s10, s11] (fun r h9 => r = some (.int ((x) + n9)) ∧ ∃ A9, A9 0 = n9 ∧ A9 1 = m9 ∧ A9 2 = nI (t9 + 1) ∧ h9 = [jb_main imm Im Tm rowm stkm tpm, s1, s2, s3, s4, s5, s6, s7, s8, jb_act A9 (jp_wr boa t9 [10]) era, s10, s11]) := by
  refine jb_CofJ (ini := false) (by decide +kernel) (fun h => by cases h) (Nat.le_of_ble_eq_true rfl) ?_
  show jb_J sc RX7 cX7_calls 3 (Option.some .int) false 1 0 0 0 [some (.ref 11), some (.ref 102), some (.int x)] [] [jb_main imm Im Tm rowm stkm tpm, s1, s2, s3, s4, s5, s6, s7, s8, jb_act Ia boa era, s10, s11] _
  refine jb_aload_n (pc' := 1) dX7_calls_0 rfl rfl ?_
  refine jb_bipush (pc' := 3) 10 dX7_calls_1 (by decide) rfl ?_
  refine jb_callV (pc' := 6) (ci := 0) (q := 102) (As := [.int 10]) (a2 := 0) (b2 := 0) wv_X7_7 rfl dX7_calls_3 (c_began imm Im rowm stkm tpm Tm Ia boa era n9 m9 t9 h0 h1 h2 (by omega) 10) rfl rfl ⟨by decide, Nat.le_of_eq (Nat.zero_add _), Nat.le_of_eq (Nat.zero_add _)⟩ (Nat.le_of_ble_eq_true rfl) rfl (fun r h9 hq => ?_)
  obtain ⟨rfl, A1, ha1, hb1, hc1, rfl⟩ := hq
  show jb_J _ RX7 cX7_calls 3 (Option.some .int) false 1 0 0 6 [some (.ref 11), some (.ref 102), some (.int x)] [] [jb_main imm Im Tm rowm stkm tpm, s1, s2, s3, s4, s5, s6, s7, s8, jb_act A1 (jp_wr boa t9 [10]) era, s10, s11] _
  refine jb_iload_n (pc' := 7) dX7_calls_6 rfl rfl ?_
  refine jb_aload_n (pc' := 8) dX7_calls_7 rfl rfl ?_
  refine gf_X7_13 (pc' := 11) (v := .int (A1 0)) dX7_calls_8 rfl rfl rfl ?_
  refine jb_top (v := .int (A1 0)) (w := .int n9) (jb_vI ha1) ?_
  refine jb_iadd (pc' := 12) dX7_calls_11 rfl ?_
  refine jb_iret dX7_calls_12 rfl ?_
  exact ⟨rfl, A1, ha1, hb1, hc1, rfl⟩
set_option maxRecDepth 100000 in
set_option maxHeartbeats 4000000 in
theorem ca_X5_calls_11 {sc : Nat × (Nat → Int32)} {s1 s2 s3 s4 s5 s6 s7 s8 s10 s11 : List va_E} (imm : Int32) (Im rowm stkm tpm : Nat → Int32) (Tm : Nat → Value) (Ia boa era : Nat → Int32) (n9 m9 : Int32) (t9 : Nat) (h0 : Ia 0 = n9) (h1 : Ia 1 = m9) (h2 : Ia 2 = nI t9) (ht : t9 + 2 ≤ 40) (x : Int32) : jb_C sc yX5_calls cX5_calls 3 (Option.some .int) 2 0 0 [.ref 11, .ref 102, .int x] [jb_main imm Im Tm rowm stkm tpm, s1, s2, s3, s4, s5, s6, s7, s8, jb_act Ia boa era, s10, s11] (fun r h9 => r = some (.int (((x) + n9) * 3)) ∧ ∃ A9, A9 0 = n9 ∧ A9 1 = m9 ∧ A9 2 = nI (t9 + 2) ∧ h9 = [jb_main imm Im Tm rowm stkm tpm, s1, s2, s3, s4, s5, s6, s7, s8, jb_act A9 (jp_wr boa t9 [30, 10]) era, s10, s11]) := by
  refine jb_CofJ (ini := false) (by decide +kernel) (fun h => by cases h) (Nat.le_of_ble_eq_true rfl) ?_
  show jb_J sc RX5 cX5_calls 3 (Option.some .int) false 2 0 0 0 [some (.ref 11), some (.ref 102), some (.int x)] [] [jb_main imm Im Tm rowm stkm tpm, s1, s2, s3, s4, s5, s6, s7, s8, jb_act Ia boa era, s10, s11] _
  refine jb_aload_n (pc' := 1) dX5_calls_0 rfl rfl ?_
  refine jb_bipush (pc' := 3) 30 dX5_calls_1 (by decide) rfl ?_
  refine jb_callV (pc' := 6) (ci := 0) (q := 102) (As := [.int 30]) (a2 := 0) (b2 := 0) wv_X5_11 rfl dX5_calls_3 (c_began imm Im rowm stkm tpm Tm Ia boa era n9 m9 t9 h0 h1 h2 (by omega) 30) rfl rfl ⟨by decide, Nat.le_of_eq (Nat.zero_add _), Nat.le_of_eq (Nat.zero_add _)⟩ (Nat.le_of_ble_eq_true rfl) rfl (fun r h9 hq => ?_)
  obtain ⟨rfl, A1, ha1, hb1, hc1, rfl⟩ := hq
  show jb_J _ RX5 cX5_calls 3 (Option.some .int) false 2 0 0 6 [some (.ref 11), some (.ref 102), some (.int x)] [] [jb_main imm Im Tm rowm stkm tpm, s1, s2, s3, s4, s5, s6, s7, s8, jb_act A1 (jp_wr boa t9 [30]) era, s10, s11] _
  refine jb_aload_n (pc' := 7) dX5_calls_6 rfl rfl ?_
  refine jb_aload_n (pc' := 8) dX5_calls_7 rfl rfl ?_
  refine jb_iload_n (pc' := 9) dX5_calls_8 rfl rfl ?_
  refine jb_callP (pc' := 12) (ci := 4) (q := 11) (As := [.ref 102, .int x]) (a2 := 0) (b2 := 0) wv_X5_17 rfl dX5_calls_9 (ca_X7_calls_11 imm Im rowm stkm tpm Tm A1 (jp_wr boa t9 [30]) era n9 m9 (t9 + 1) ha1 hb1 hc1 (by omega) x) rfl rfl ⟨by decide, Nat.le_of_eq (Nat.zero_add _), Nat.le_of_eq (Nat.zero_add _)⟩ (Nat.le_of_ble_eq_true rfl) rfl (fun r h9 hq => ?_)
  obtain ⟨rfl, A2, ha2, hb2, hc2, rfl⟩ := hq
  show jb_J _ RX5 cX5_calls 3 (Option.some .int) false 2 0 0 12 [some (.ref 11), some (.ref 102), some (.int x)] [.int ((x) + n9)] [jb_main imm Im Tm rowm stkm tpm, s1, s2, s3, s4, s5, s6, s7, s8, jb_act A2 (jp_wr (jp_wr boa t9 [30]) (t9 + 1) [10]) era, s10, s11] _
  refine jb_iconst (pc' := 13) 3 dX5_calls_12 (by decide) rfl ?_
  refine jb_imul (pc' := 14) dX5_calls_13 rfl ?_
  refine jb_iret dX5_calls_14 rfl ?_
  exact ⟨rfl, A2, ha2, hb2, hc2, rfl⟩
set_option maxRecDepth 100000 in
set_option maxHeartbeats 4000000 in
theorem ca_X7_waits_11 {sc : Nat × (Nat → Int32)} {s1 s2 s3 s4 s5 s6 s7 s8 s10 s11 : List va_E} (imm : Int32) (Im rowm stkm tpm : Nat → Int32) (Tm : Nat → Value) (Ia boa era : Nat → Int32) (n9 m9 : Int32) (t9 : Nat) (h0 : Ia 0 = n9) (h1 : Ia 1 = m9) (h2 : Ia 2 = nI t9) (ht : t9 + 1 ≤ 40) (x : Int32) : jb_C sc yX7_waits cX7_waits 3 (Option.some .int) 1 0 0 [.ref 11, .ref 102, .int x] [jb_main imm Im Tm rowm stkm tpm, s1, s2, s3, s4, s5, s6, s7, s8, jb_act Ia boa era, s10, s11] (fun r h9 => r = some (.int ((x) - m9)) ∧ ∃ A9, A9 0 = n9 ∧ A9 1 = m9 ∧ A9 2 = nI (t9 + 1) ∧ h9 = [jb_main imm Im Tm rowm stkm tpm, s1, s2, s3, s4, s5, s6, s7, s8, jb_act A9 (jp_wr boa t9 [12]) era, s10, s11]) := by
  refine jb_CofJ (ini := false) (by decide +kernel) (fun h => by cases h) (Nat.le_of_ble_eq_true rfl) ?_
  show jb_J sc RX7 cX7_waits 3 (Option.some .int) false 1 0 0 0 [some (.ref 11), some (.ref 102), some (.int x)] [] [jb_main imm Im Tm rowm stkm tpm, s1, s2, s3, s4, s5, s6, s7, s8, jb_act Ia boa era, s10, s11] _
  refine jb_aload_n (pc' := 1) dX7_waits_0 rfl rfl ?_
  refine jb_bipush (pc' := 3) 12 dX7_waits_1 (by decide) rfl ?_
  refine jb_callV (pc' := 6) (ci := 0) (q := 102) (As := [.int 12]) (a2 := 0) (b2 := 0) wv_X7_7 rfl dX7_waits_3 (c_began imm Im rowm stkm tpm Tm Ia boa era n9 m9 t9 h0 h1 h2 (by omega) 12) rfl rfl ⟨by decide, Nat.le_of_eq (Nat.zero_add _), Nat.le_of_eq (Nat.zero_add _)⟩ (Nat.le_of_ble_eq_true rfl) rfl (fun r h9 hq => ?_)
  obtain ⟨rfl, A1, ha1, hb1, hc1, rfl⟩ := hq
  show jb_J _ RX7 cX7_waits 3 (Option.some .int) false 1 0 0 6 [some (.ref 11), some (.ref 102), some (.int x)] [] [jb_main imm Im Tm rowm stkm tpm, s1, s2, s3, s4, s5, s6, s7, s8, jb_act A1 (jp_wr boa t9 [12]) era, s10, s11] _
  refine jb_iload_n (pc' := 7) dX7_waits_6 rfl rfl ?_
  refine jb_aload_n (pc' := 8) dX7_waits_7 rfl rfl ?_
  refine gf_X7_23 (pc' := 11) (v := .int (A1 1)) dX7_waits_8 rfl rfl rfl ?_
  refine jb_top (v := .int (A1 1)) (w := .int m9) (jb_vI hb1) ?_
  refine jb_isub (pc' := 12) dX7_waits_11 rfl ?_
  refine jb_iret dX7_waits_12 rfl ?_
  exact ⟨rfl, A1, ha1, hb1, hc1, rfl⟩
set_option maxRecDepth 100000 in
set_option maxHeartbeats 4000000 in
theorem ca_X7_hears_11 {sc : Nat × (Nat → Int32)} {s1 s2 s3 s4 s5 s6 s7 s8 s10 s11 : List va_E} (imm : Int32) (Im rowm stkm tpm : Nat → Int32) (Tm : Nat → Value) (Ia boa era : Nat → Int32) (n9 m9 : Int32) (t9 : Nat) (h0 : Ia 0 = n9) (h1 : Ia 1 = m9) (h2 : Ia 2 = nI t9) (ht : t9 + 3 ≤ 40) (x : Int32) : jb_C sc yX7_hears cX7_hears 3 (Option.some .int) 3 0 0 [.ref 11, .ref 102, .int x] [jb_main imm Im Tm rowm stkm tpm, s1, s2, s3, s4, s5, s6, s7, s8, jb_act Ia boa era, s10, s11] (fun r h9 => r = some (.int ((((x) + n9) * 3) * 2)) ∧ ∃ A9, A9 0 = n9 ∧ A9 1 = m9 ∧ A9 2 = nI (t9 + 3) ∧ h9 = [jb_main imm Im Tm rowm stkm tpm, s1, s2, s3, s4, s5, s6, s7, s8, jb_act A9 (jp_wr boa t9 [11, 30, 10]) era, s10, s11]) := by
  refine jb_CofJ (ini := false) (by decide +kernel) (fun h => by cases h) (Nat.le_of_ble_eq_true rfl) ?_
  show jb_J sc RX7 cX7_hears 3 (Option.some .int) false 3 0 0 0 [some (.ref 11), some (.ref 102), some (.int x)] [] [jb_main imm Im Tm rowm stkm tpm, s1, s2, s3, s4, s5, s6, s7, s8, jb_act Ia boa era, s10, s11] _
  refine jb_aload_n (pc' := 1) dX7_hears_0 rfl rfl ?_
  refine jb_bipush (pc' := 3) 11 dX7_hears_1 (by decide) rfl ?_
  refine jb_callV (pc' := 6) (ci := 0) (q := 102) (As := [.int 11]) (a2 := 0) (b2 := 0) wv_X7_7 rfl dX7_hears_3 (c_began imm Im rowm stkm tpm Tm Ia boa era n9 m9 t9 h0 h1 h2 (by omega) 11) rfl rfl ⟨by decide, Nat.le_of_eq (Nat.zero_add _), Nat.le_of_eq (Nat.zero_add _)⟩ (Nat.le_of_ble_eq_true rfl) rfl (fun r h9 hq => ?_)
  obtain ⟨rfl, A1, ha1, hb1, hc1, rfl⟩ := hq
  show jb_J _ RX7 cX7_hears 3 (Option.some .int) false 3 0 0 6 [some (.ref 11), some (.ref 102), some (.int x)] [] [jb_main imm Im Tm rowm stkm tpm, s1, s2, s3, s4, s5, s6, s7, s8, jb_act A1 (jp_wr boa t9 [11]) era, s10, s11] _
  refine jb_aload_n (pc' := 7) dX7_hears_6 rfl rfl ?_
  refine jb_aload_n (pc' := 8) dX7_hears_7 rfl rfl ?_
  refine jb_iload_n (pc' := 9) dX7_hears_8 rfl rfl ?_
  refine jb_callU (pc' := 12) (ci := 4) (q := 11) (As := [.ref 102, .int x]) (a2 := 0) (b2 := 0) wv_X7_17_X4 rfl dX7_hears_9 (ca_X5_calls_11 imm Im rowm stkm tpm Tm A1 (jp_wr boa t9 [11]) era n9 m9 (t9 + 1) ha1 hb1 hc1 (by omega) x) rfl rfl ⟨by decide, Nat.le_of_eq (Nat.zero_add _), Nat.le_of_eq (Nat.zero_add _)⟩ (Nat.le_of_ble_eq_true rfl) rfl (fun r h9 hq => ?_)
  obtain ⟨rfl, A2, ha2, hb2, hc2, rfl⟩ := hq
  show jb_J _ RX7 cX7_hears 3 (Option.some .int) false 3 0 0 12 [some (.ref 11), some (.ref 102), some (.int x)] [.int (((x) + n9) * 3)] [jb_main imm Im Tm rowm stkm tpm, s1, s2, s3, s4, s5, s6, s7, s8, jb_act A2 (jp_wr (jp_wr boa t9 [11]) (t9 + 1) [30, 10]) era, s10, s11] _
  refine jb_iconst (pc' := 13) 2 dX7_hears_12 (by decide) rfl ?_
  refine jb_imul (pc' := 14) dX7_hears_13 rfl ?_
  refine jb_iret dX7_hears_14 rfl ?_
  exact ⟨rfl, A2, ha2, hb2, hc2, rfl⟩
set_option maxRecDepth 100000 in
set_option maxHeartbeats 4000000 in
theorem ca_X7_tells_11 {sc : Nat × (Nat → Int32)} {s1 s2 s3 s4 s5 s6 s7 s8 s10 s11 : List va_E} (imm : Int32) (Im rowm stkm tpm : Nat → Int32) (Tm : Nat → Value) (Ia boa era : Nat → Int32) (n9 m9 : Int32) (t9 : Nat) (h0 : Ia 0 = n9) (h1 : Ia 1 = m9) (h2 : Ia 2 = nI t9) (ht : t9 + 5 ≤ 40) (x : Int32) : jb_C sc yX7_tells cX7_tells 3 (Option.some .int) 4 0 0 [.ref 11, .ref 102, .int x] [jb_main imm Im Tm rowm stkm tpm, s1, s2, s3, s4, s5, s6, s7, s8, jb_act Ia boa era, s10, s11] (fun r h9 => r = some (.int (((((x) + n9) * 3) * 2) ^^^ ((x) - m9))) ∧ ∃ A9, A9 0 = n9 ∧ A9 1 = m9 ∧ A9 2 = nI (t9 + 5) ∧ h9 = [jb_main imm Im Tm rowm stkm tpm, s1, s2, s3, s4, s5, s6, s7, s8, jb_act A9 (jp_wr boa t9 [13, 11, 30, 10, 12]) era, s10, s11]) := by
  refine jb_CofJ (ini := false) (by decide +kernel) (fun h => by cases h) (Nat.le_of_ble_eq_true rfl) ?_
  show jb_J sc RX7 cX7_tells 3 (Option.some .int) false 4 0 0 0 [some (.ref 11), some (.ref 102), some (.int x)] [] [jb_main imm Im Tm rowm stkm tpm, s1, s2, s3, s4, s5, s6, s7, s8, jb_act Ia boa era, s10, s11] _
  refine jb_aload_n (pc' := 1) dX7_tells_0 rfl rfl ?_
  refine jb_bipush (pc' := 3) 13 dX7_tells_1 (by decide) rfl ?_
  refine jb_callV (pc' := 6) (ci := 0) (q := 102) (As := [.int 13]) (a2 := 0) (b2 := 0) wv_X7_7 rfl dX7_tells_3 (c_began imm Im rowm stkm tpm Tm Ia boa era n9 m9 t9 h0 h1 h2 (by omega) 13) rfl rfl ⟨by decide, Nat.le_of_eq (Nat.zero_add _), Nat.le_of_eq (Nat.zero_add _)⟩ (Nat.le_of_ble_eq_true rfl) rfl (fun r h9 hq => ?_)
  obtain ⟨rfl, A1, ha1, hb1, hc1, rfl⟩ := hq
  show jb_J _ RX7 cX7_tells 3 (Option.some .int) false 4 0 0 6 [some (.ref 11), some (.ref 102), some (.int x)] [] [jb_main imm Im Tm rowm stkm tpm, s1, s2, s3, s4, s5, s6, s7, s8, jb_act A1 (jp_wr boa t9 [13]) era, s10, s11] _
  refine jb_aload_n (pc' := 7) dX7_tells_6 rfl rfl ?_
  refine jb_aload_n (pc' := 8) dX7_tells_7 rfl rfl ?_
  refine jb_iload_n (pc' := 9) dX7_tells_8 rfl rfl ?_
  refine jb_callU (pc' := 12) (ci := 4) (q := 11) (As := [.ref 102, .int x]) (a2 := 0) (b2 := 0) wv_X7_26_X4 rfl dX7_tells_9 (ca_X7_hears_11 imm Im rowm stkm tpm Tm A1 (jp_wr boa t9 [13]) era n9 m9 (t9 + 1) ha1 hb1 hc1 (by omega) x) rfl rfl ⟨by decide, Nat.le_of_eq (Nat.zero_add _), Nat.le_of_eq (Nat.zero_add _)⟩ (Nat.le_of_ble_eq_true rfl) rfl (fun r h9 hq => ?_)
  obtain ⟨rfl, A2, ha2, hb2, hc2, rfl⟩ := hq
  show jb_J _ RX7 cX7_tells 3 (Option.some .int) false 4 0 0 12 [some (.ref 11), some (.ref 102), some (.int x)] [.int ((((x) + n9) * 3) * 2)] [jb_main imm Im Tm rowm stkm tpm, s1, s2, s3, s4, s5, s6, s7, s8, jb_act A2 (jp_wr (jp_wr boa t9 [13]) (t9 + 1) [11, 30, 10]) era, s10, s11] _
  refine jb_aload_n (pc' := 13) dX7_tells_12 rfl rfl ?_
  refine jb_aload_n (pc' := 14) dX7_tells_13 rfl rfl ?_
  refine jb_iload_n (pc' := 15) dX7_tells_14 rfl rfl ?_
  refine jb_callU (pc' := 18) (ci := 4) (q := 11) (As := [.ref 102, .int x]) (a2 := 0) (b2 := 0) wv_X7_29_X4 rfl dX7_tells_15 (ca_X7_waits_11 imm Im rowm stkm tpm Tm A2 (jp_wr (jp_wr boa t9 [13]) (t9 + 1) [11, 30, 10]) era n9 m9 ((t9 + 1) + 3) ha2 hb2 hc2 (by omega) x) rfl rfl ⟨by decide, Nat.le_of_eq (Nat.zero_add _), Nat.le_of_eq (Nat.zero_add _)⟩ (Nat.le_of_ble_eq_true rfl) rfl (fun r h9 hq => ?_)
  obtain ⟨rfl, A3, ha3, hb3, hc3, rfl⟩ := hq
  show jb_J _ RX7 cX7_tells 3 (Option.some .int) false 4 0 0 18 [some (.ref 11), some (.ref 102), some (.int x)] [.int ((x) - m9), .int ((((x) + n9) * 3) * 2)] [jb_main imm Im Tm rowm stkm tpm, s1, s2, s3, s4, s5, s6, s7, s8, jb_act A3 (jp_wr (jp_wr (jp_wr boa t9 [13]) (t9 + 1) [11, 30, 10]) ((t9 + 1) + 3) [12]) era, s10, s11] _
  refine jb_ixor (pc' := 19) dX7_tells_18 rfl ?_
  refine jb_iret dX7_tells_19 rfl ?_
  exact ⟨rfl, A3, ha3, hb3, hc3, rfl⟩
set_option maxRecDepth 100000 in
set_option maxHeartbeats 4000000 in
theorem ca_X4_tells_11 {sc : Nat × (Nat → Int32)} {s1 s2 s3 s4 s5 s6 s7 s8 s10 s11 : List va_E} (imm : Int32) (Im rowm stkm tpm : Nat → Int32) (Tm : Nat → Value) (Ia boa era : Nat → Int32) (n9 m9 : Int32) (t9 : Nat) (h0 : Ia 0 = n9) (h1 : Ia 1 = m9) (h2 : Ia 2 = nI t9) (ht : t9 + 8 ≤ 40) (x : Int32) : jb_C sc yX4_tells cX4_tells 3 (Option.some .int) 5 0 0 [.ref 11, .ref 102, .int x] [jb_main imm Im Tm rowm stkm tpm, s1, s2, s3, s4, s5, s6, s7, s8, jb_act Ia boa era, s10, s11] (fun r h9 => r = some (.int ((((((x) + n9) * 3) * 2) ^^^ ((x) - m9)) - (((2) + n9) * 3))) ∧ ∃ A9, A9 0 = n9 ∧ A9 1 = m9 ∧ A9 2 = nI (t9 + 8) ∧ h9 = [jb_main imm Im Tm rowm stkm tpm, s1, s2, s3, s4, s5, s6, s7, s8, jb_act A9 (jp_wr boa t9 [60, 13, 11, 30, 10, 12, 30, 10]) era, s10, s11]) := by
  refine jb_CofJ (ini := false) (by decide +kernel) (fun h => by cases h) (Nat.le_of_ble_eq_true rfl) ?_
  show jb_J sc RX4 cX4_tells 3 (Option.some .int) false 5 0 0 0 [some (.ref 11), some (.ref 102), some (.int x)] [] [jb_main imm Im Tm rowm stkm tpm, s1, s2, s3, s4, s5, s6, s7, s8, jb_act Ia boa era, s10, s11] _
  refine jb_aload_n (pc' := 1) dX4_tells_0 rfl rfl ?_
  refine jb_bipush (pc' := 3) 60 dX4_tells_1 (by decide) rfl ?_
  refine jb_callV (pc' := 6) (ci := 0) (q := 102) (As := [.int 60]) (a2 := 0) (b2 := 0) wv_X4_14 rfl dX4_tells_3 (c_began imm Im rowm stkm tpm Tm Ia boa era n9 m9 t9 h0 h1 h2 (by omega) 60) rfl rfl ⟨by decide, Nat.le_of_eq (Nat.zero_add _), Nat.le_of_eq (Nat.zero_add _)⟩ (Nat.le_of_ble_eq_true rfl) rfl (fun r h9 hq => ?_)
  obtain ⟨rfl, A1, ha1, hb1, hc1, rfl⟩ := hq
  show jb_J _ RX4 cX4_tells 3 (Option.some .int) false 5 0 0 6 [some (.ref 11), some (.ref 102), some (.int x)] [] [jb_main imm Im Tm rowm stkm tpm, s1, s2, s3, s4, s5, s6, s7, s8, jb_act A1 (jp_wr boa t9 [60]) era, s10, s11] _
  refine jb_aload_n (pc' := 7) dX4_tells_6 rfl rfl ?_
  refine jb_aload_n (pc' := 8) dX4_tells_7 rfl rfl ?_
  refine jb_iload_n (pc' := 9) dX4_tells_8 rfl rfl ?_
  refine jb_callP2 (pc' := 12) (ci := 4) (q := 11) (As := [.ref 102, .int x]) (a2 := 0) (b2 := 0) wv_X4_20 rfl dX4_tells_9 (ca_X7_tells_11 imm Im rowm stkm tpm Tm A1 (jp_wr boa t9 [60]) era n9 m9 (t9 + 1) ha1 hb1 hc1 (by omega) x) rfl rfl ⟨by decide, Nat.le_of_eq (Nat.zero_add _), Nat.le_of_eq (Nat.zero_add _)⟩ (Nat.le_of_ble_eq_true rfl) rfl (fun r h9 hq => ?_)
  obtain ⟨rfl, A2, ha2, hb2, hc2, rfl⟩ := hq
  show jb_J _ RX4 cX4_tells 3 (Option.some .int) false 5 0 0 12 [some (.ref 11), some (.ref 102), some (.int x)] [.int (((((x) + n9) * 3) * 2) ^^^ ((x) - m9))] [jb_main imm Im Tm rowm stkm tpm, s1, s2, s3, s4, s5, s6, s7, s8, jb_act A2 (jp_wr (jp_wr boa t9 [60]) (t9 + 1) [13, 11, 30, 10, 12]) era, s10, s11] _
  refine jb_aload_n (pc' := 13) dX4_tells_12 rfl rfl ?_
  refine jb_aload_n (pc' := 14) dX4_tells_13 rfl rfl ?_
  refine jb_iconst (pc' := 15) 2 dX4_tells_14 (by decide) rfl ?_
  refine jb_callU (pc' := 18) (ci := 4) (q := 11) (As := [.ref 102, .int 2]) (a2 := 0) (b2 := 0) wv_X4_24_X4 rfl dX4_tells_15 (ca_X5_calls_11 imm Im rowm stkm tpm Tm A2 (jp_wr (jp_wr boa t9 [60]) (t9 + 1) [13, 11, 30, 10, 12]) era n9 m9 ((t9 + 1) + 5) ha2 hb2 hc2 (by omega) 2) rfl rfl ⟨by decide, Nat.le_of_eq (Nat.zero_add _), Nat.le_of_eq (Nat.zero_add _)⟩ (Nat.le_of_ble_eq_true rfl) rfl (fun r h9 hq => ?_)
  obtain ⟨rfl, A3, ha3, hb3, hc3, rfl⟩ := hq
  show jb_J _ RX4 cX4_tells 3 (Option.some .int) false 5 0 0 18 [some (.ref 11), some (.ref 102), some (.int x)] [.int (((2) + n9) * 3), .int (((((x) + n9) * 3) * 2) ^^^ ((x) - m9))] [jb_main imm Im Tm rowm stkm tpm, s1, s2, s3, s4, s5, s6, s7, s8, jb_act A3 (jp_wr (jp_wr (jp_wr boa t9 [60]) (t9 + 1) [13, 11, 30, 10, 12]) ((t9 + 1) + 5) [30, 10]) era, s10, s11] _
  refine jb_isub (pc' := 19) dX4_tells_18 rfl ?_
  refine jb_iret dX4_tells_19 rfl ?_
  exact ⟨rfl, A3, ha3, hb3, hc3, rfl⟩
set_option maxRecDepth 100000 in
set_option maxHeartbeats 4000000 in
theorem ca_X7_calls_12 {sc : Nat × (Nat → Int32)} {s1 s2 s3 s4 s5 s6 s7 s8 s10 s11 : List va_E} (imm : Int32) (Im rowm stkm tpm : Nat → Int32) (Tm : Nat → Value) (Ia boa era : Nat → Int32) (n9 m9 : Int32) (t9 : Nat) (h0 : Ia 0 = n9) (h1 : Ia 1 = m9) (h2 : Ia 2 = nI t9) (ht : t9 + 1 ≤ 40) (x : Int32) : jb_C sc yX7_calls cX7_calls 3 (Option.some .int) 1 0 0 [.ref 12, .ref 102, .int x] [jb_main imm Im Tm rowm stkm tpm, s1, s2, s3, s4, s5, s6, s7, s8, jb_act Ia boa era, s10, s11] (fun r h9 => r = some (.int ((x) + n9)) ∧ ∃ A9, A9 0 = n9 ∧ A9 1 = m9 ∧ A9 2 = nI (t9 + 1) ∧ h9 = [jb_main imm Im Tm rowm stkm tpm, s1, s2, s3, s4, s5, s6, s7, s8, jb_act A9 (jp_wr boa t9 [10]) era, s10, s11]) := by
  refine jb_CofJ (ini := false) (by decide +kernel) (fun h => by cases h) (Nat.le_of_ble_eq_true rfl) ?_
  show jb_J sc RX7 cX7_calls 3 (Option.some .int) false 1 0 0 0 [some (.ref 12), some (.ref 102), some (.int x)] [] [jb_main imm Im Tm rowm stkm tpm, s1, s2, s3, s4, s5, s6, s7, s8, jb_act Ia boa era, s10, s11] _
  refine jb_aload_n (pc' := 1) dX7_calls_0 rfl rfl ?_
  refine jb_bipush (pc' := 3) 10 dX7_calls_1 (by decide) rfl ?_
  refine jb_callV (pc' := 6) (ci := 0) (q := 102) (As := [.int 10]) (a2 := 0) (b2 := 0) wv_X7_7 rfl dX7_calls_3 (c_began imm Im rowm stkm tpm Tm Ia boa era n9 m9 t9 h0 h1 h2 (by omega) 10) rfl rfl ⟨by decide, Nat.le_of_eq (Nat.zero_add _), Nat.le_of_eq (Nat.zero_add _)⟩ (Nat.le_of_ble_eq_true rfl) rfl (fun r h9 hq => ?_)
  obtain ⟨rfl, A1, ha1, hb1, hc1, rfl⟩ := hq
  show jb_J _ RX7 cX7_calls 3 (Option.some .int) false 1 0 0 6 [some (.ref 12), some (.ref 102), some (.int x)] [] [jb_main imm Im Tm rowm stkm tpm, s1, s2, s3, s4, s5, s6, s7, s8, jb_act A1 (jp_wr boa t9 [10]) era, s10, s11] _
  refine jb_iload_n (pc' := 7) dX7_calls_6 rfl rfl ?_
  refine jb_aload_n (pc' := 8) dX7_calls_7 rfl rfl ?_
  refine gf_X7_13 (pc' := 11) (v := .int (A1 0)) dX7_calls_8 rfl rfl rfl ?_
  refine jb_top (v := .int (A1 0)) (w := .int n9) (jb_vI ha1) ?_
  refine jb_iadd (pc' := 12) dX7_calls_11 rfl ?_
  refine jb_iret dX7_calls_12 rfl ?_
  exact ⟨rfl, A1, ha1, hb1, hc1, rfl⟩
set_option maxRecDepth 100000 in
set_option maxHeartbeats 4000000 in
theorem ca_X7_waits_12 {sc : Nat × (Nat → Int32)} {s1 s2 s3 s4 s5 s6 s7 s8 s10 s11 : List va_E} (imm : Int32) (Im rowm stkm tpm : Nat → Int32) (Tm : Nat → Value) (Ia boa era : Nat → Int32) (n9 m9 : Int32) (t9 : Nat) (h0 : Ia 0 = n9) (h1 : Ia 1 = m9) (h2 : Ia 2 = nI t9) (ht : t9 + 1 ≤ 40) (x : Int32) : jb_C sc yX7_waits cX7_waits 3 (Option.some .int) 1 0 0 [.ref 12, .ref 102, .int x] [jb_main imm Im Tm rowm stkm tpm, s1, s2, s3, s4, s5, s6, s7, s8, jb_act Ia boa era, s10, s11] (fun r h9 => r = some (.int ((x) - m9)) ∧ ∃ A9, A9 0 = n9 ∧ A9 1 = m9 ∧ A9 2 = nI (t9 + 1) ∧ h9 = [jb_main imm Im Tm rowm stkm tpm, s1, s2, s3, s4, s5, s6, s7, s8, jb_act A9 (jp_wr boa t9 [12]) era, s10, s11]) := by
  refine jb_CofJ (ini := false) (by decide +kernel) (fun h => by cases h) (Nat.le_of_ble_eq_true rfl) ?_
  show jb_J sc RX7 cX7_waits 3 (Option.some .int) false 1 0 0 0 [some (.ref 12), some (.ref 102), some (.int x)] [] [jb_main imm Im Tm rowm stkm tpm, s1, s2, s3, s4, s5, s6, s7, s8, jb_act Ia boa era, s10, s11] _
  refine jb_aload_n (pc' := 1) dX7_waits_0 rfl rfl ?_
  refine jb_bipush (pc' := 3) 12 dX7_waits_1 (by decide) rfl ?_
  refine jb_callV (pc' := 6) (ci := 0) (q := 102) (As := [.int 12]) (a2 := 0) (b2 := 0) wv_X7_7 rfl dX7_waits_3 (c_began imm Im rowm stkm tpm Tm Ia boa era n9 m9 t9 h0 h1 h2 (by omega) 12) rfl rfl ⟨by decide, Nat.le_of_eq (Nat.zero_add _), Nat.le_of_eq (Nat.zero_add _)⟩ (Nat.le_of_ble_eq_true rfl) rfl (fun r h9 hq => ?_)
  obtain ⟨rfl, A1, ha1, hb1, hc1, rfl⟩ := hq
  show jb_J _ RX7 cX7_waits 3 (Option.some .int) false 1 0 0 6 [some (.ref 12), some (.ref 102), some (.int x)] [] [jb_main imm Im Tm rowm stkm tpm, s1, s2, s3, s4, s5, s6, s7, s8, jb_act A1 (jp_wr boa t9 [12]) era, s10, s11] _
  refine jb_iload_n (pc' := 7) dX7_waits_6 rfl rfl ?_
  refine jb_aload_n (pc' := 8) dX7_waits_7 rfl rfl ?_
  refine gf_X7_23 (pc' := 11) (v := .int (A1 1)) dX7_waits_8 rfl rfl rfl ?_
  refine jb_top (v := .int (A1 1)) (w := .int m9) (jb_vI hb1) ?_
  refine jb_isub (pc' := 12) dX7_waits_11 rfl ?_
  refine jb_iret dX7_waits_12 rfl ?_
  exact ⟨rfl, A1, ha1, hb1, hc1, rfl⟩
set_option maxRecDepth 100000 in
set_option maxHeartbeats 4000000 in
theorem ca_X6_waits_12 {sc : Nat × (Nat → Int32)} {s1 s2 s3 s4 s5 s6 s7 s8 s10 s11 : List va_E} (imm : Int32) (Im rowm stkm tpm : Nat → Int32) (Tm : Nat → Value) (Ia boa era : Nat → Int32) (n9 m9 : Int32) (t9 : Nat) (h0 : Ia 0 = n9) (h1 : Ia 1 = m9) (h2 : Ia 2 = nI t9) (ht : t9 + 2 ≤ 40) (x : Int32) : jb_C sc yX6_waits cX6_waits 3 (Option.some .int) 2 0 0 [.ref 12, .ref 102, .int x] [jb_main imm Im Tm rowm stkm tpm, s1, s2, s3, s4, s5, s6, s7, s8, jb_act Ia boa era, s10, s11] (fun r h9 => r = some (.int (-((x) - m9))) ∧ ∃ A9, A9 0 = n9 ∧ A9 1 = m9 ∧ A9 2 = nI (t9 + 2) ∧ h9 = [jb_main imm Im Tm rowm stkm tpm, s1, s2, s3, s4, s5, s6, s7, s8, jb_act A9 (jp_wr boa t9 [40, 12]) era, s10, s11]) := by
  refine jb_CofJ (ini := false) (by decide +kernel) (fun h => by cases h) (Nat.le_of_ble_eq_true rfl) ?_
  show jb_J sc RX6 cX6_waits 3 (Option.some .int) false 2 0 0 0 [some (.ref 12), some (.ref 102), some (.int x)] [] [jb_main imm Im Tm rowm stkm tpm, s1, s2, s3, s4, s5, s6, s7, s8, jb_act Ia boa era, s10, s11] _
  refine jb_aload_n (pc' := 1) dX6_waits_0 rfl rfl ?_
  refine jb_bipush (pc' := 3) 40 dX6_waits_1 (by decide) rfl ?_
  refine jb_callV (pc' := 6) (ci := 0) (q := 102) (As := [.int 40]) (a2 := 0) (b2 := 0) wv_X6_7 rfl dX6_waits_3 (c_began imm Im rowm stkm tpm Tm Ia boa era n9 m9 t9 h0 h1 h2 (by omega) 40) rfl rfl ⟨by decide, Nat.le_of_eq (Nat.zero_add _), Nat.le_of_eq (Nat.zero_add _)⟩ (Nat.le_of_ble_eq_true rfl) rfl (fun r h9 hq => ?_)
  obtain ⟨rfl, A1, ha1, hb1, hc1, rfl⟩ := hq
  show jb_J _ RX6 cX6_waits 3 (Option.some .int) false 2 0 0 6 [some (.ref 12), some (.ref 102), some (.int x)] [] [jb_main imm Im Tm rowm stkm tpm, s1, s2, s3, s4, s5, s6, s7, s8, jb_act A1 (jp_wr boa t9 [40]) era, s10, s11] _
  refine jb_aload_n (pc' := 7) dX6_waits_6 rfl rfl ?_
  refine jb_aload_n (pc' := 8) dX6_waits_7 rfl rfl ?_
  refine jb_iload_n (pc' := 9) dX6_waits_8 rfl rfl ?_
  refine jb_callP (pc' := 12) (ci := 1) (q := 12) (As := [.ref 102, .int x]) (a2 := 0) (b2 := 0) wv_X6_13 rfl dX6_waits_9 (ca_X7_waits_12 imm Im rowm stkm tpm Tm A1 (jp_wr boa t9 [40]) era n9 m9 (t9 + 1) ha1 hb1 hc1 (by omega) x) rfl rfl ⟨by decide, Nat.le_of_eq (Nat.zero_add _), Nat.le_of_eq (Nat.zero_add _)⟩ (Nat.le_of_ble_eq_true rfl) rfl (fun r h9 hq => ?_)
  obtain ⟨rfl, A2, ha2, hb2, hc2, rfl⟩ := hq
  show jb_J _ RX6 cX6_waits 3 (Option.some .int) false 2 0 0 12 [some (.ref 12), some (.ref 102), some (.int x)] [.int ((x) - m9)] [jb_main imm Im Tm rowm stkm tpm, s1, s2, s3, s4, s5, s6, s7, s8, jb_act A2 (jp_wr (jp_wr boa t9 [40]) (t9 + 1) [12]) era, s10, s11] _
  refine jb_ineg (pc' := 13) dX6_waits_12 rfl ?_
  refine jb_iret dX6_waits_13 rfl ?_
  exact ⟨rfl, A2, ha2, hb2, hc2, rfl⟩
set_option maxRecDepth 100000 in
set_option maxHeartbeats 4000000 in
theorem ca_X1_waits_12 {sc : Nat × (Nat → Int32)} {s1 s2 s3 s4 s5 s6 s7 s8 s10 s11 : List va_E} (imm : Int32) (Im rowm stkm tpm : Nat → Int32) (Tm : Nat → Value) (Ia boa era : Nat → Int32) (n9 m9 : Int32) (t9 : Nat) (h0 : Ia 0 = n9) (h1 : Ia 1 = m9) (h2 : Ia 2 = nI t9) (ht : t9 + 3 ≤ 40) (x : Int32) : jb_C sc yX1_waits cX1_waits 3 (Option.some .int) 3 0 0 [.ref 12, .ref 102, .int x] [jb_main imm Im Tm rowm stkm tpm, s1, s2, s3, s4, s5, s6, s7, s8, jb_act Ia boa era, s10, s11] (fun r h9 => r = some (.int ((-((x) - m9)) ^^^ n9)) ∧ ∃ A9, A9 0 = n9 ∧ A9 1 = m9 ∧ A9 2 = nI (t9 + 3) ∧ h9 = [jb_main imm Im Tm rowm stkm tpm, s1, s2, s3, s4, s5, s6, s7, s8, jb_act A9 (jp_wr boa t9 [70, 40, 12]) era, s10, s11]) := by
  refine jb_CofJ (ini := false) (by decide +kernel) (fun h => by cases h) (Nat.le_of_ble_eq_true rfl) ?_
  show jb_J sc RX1 cX1_waits 3 (Option.some .int) false 3 0 0 0 [some (.ref 12), some (.ref 102), some (.int x)] [] [jb_main imm Im Tm rowm stkm tpm, s1, s2, s3, s4, s5, s6, s7, s8, jb_act Ia boa era, s10, s11] _
  refine jb_aload_n (pc' := 1) dX1_waits_0 rfl rfl ?_
  refine jb_bipush (pc' := 3) 70 dX1_waits_1 (by decide) rfl ?_
  refine jb_callV (pc' := 6) (ci := 0) (q := 102) (As := [.int 70]) (a2 := 0) (b2 := 0) wv_X1_14 rfl dX1_waits_3 (c_began imm Im rowm stkm tpm Tm Ia boa era n9 m9 t9 h0 h1 h2 (by omega) 70) rfl rfl ⟨by decide, Nat.le_of_eq (Nat.zero_add _), Nat.le_of_eq (Nat.zero_add _)⟩ (Nat.le_of_ble_eq_true rfl) rfl (fun r h9 hq => ?_)
  obtain ⟨rfl, A1, ha1, hb1, hc1, rfl⟩ := hq
  show jb_J _ RX1 cX1_waits 3 (Option.some .int) false 3 0 0 6 [some (.ref 12), some (.ref 102), some (.int x)] [] [jb_main imm Im Tm rowm stkm tpm, s1, s2, s3, s4, s5, s6, s7, s8, jb_act A1 (jp_wr boa t9 [70]) era, s10, s11] _
  refine jb_aload_n (pc' := 7) dX1_waits_6 rfl rfl ?_
  refine jb_aload_n (pc' := 8) dX1_waits_7 rfl rfl ?_
  refine jb_iload_n (pc' := 9) dX1_waits_8 rfl rfl ?_
  refine jb_callP (pc' := 12) (ci := 1) (q := 12) (As := [.ref 102, .int x]) (a2 := 0) (b2 := 0) wv_X1_20 rfl dX1_waits_9 (ca_X6_waits_12 imm Im rowm stkm tpm Tm A1 (jp_wr boa t9 [70]) era n9 m9 (t9 + 1) ha1 hb1 hc1 (by omega) x) rfl rfl ⟨by decide, Nat.le_of_eq (Nat.zero_add _), Nat.le_of_eq (Nat.zero_add _)⟩ (Nat.le_of_ble_eq_true rfl) rfl (fun r h9 hq => ?_)
  obtain ⟨rfl, A2, ha2, hb2, hc2, rfl⟩ := hq
  show jb_J _ RX1 cX1_waits 3 (Option.some .int) false 3 0 0 12 [some (.ref 12), some (.ref 102), some (.int x)] [.int (-((x) - m9))] [jb_main imm Im Tm rowm stkm tpm, s1, s2, s3, s4, s5, s6, s7, s8, jb_act A2 (jp_wr (jp_wr boa t9 [70]) (t9 + 1) [40, 12]) era, s10, s11] _
  refine jb_aload_n (pc' := 13) dX1_waits_12 rfl rfl ?_
  refine gf_X1_24 (pc' := 16) (v := .int (A2 0)) dX1_waits_13 rfl rfl rfl ?_
  refine jb_top (v := .int (A2 0)) (w := .int n9) (jb_vI ha2) ?_
  refine jb_ixor (pc' := 17) dX1_waits_16 rfl ?_
  refine jb_iret dX1_waits_17 rfl ?_
  exact ⟨rfl, A2, ha2, hb2, hc2, rfl⟩
set_option maxRecDepth 100000 in
set_option maxHeartbeats 4000000 in
theorem ca_X7_hears_12 {sc : Nat × (Nat → Int32)} {s1 s2 s3 s4 s5 s6 s7 s8 s10 s11 : List va_E} (imm : Int32) (Im rowm stkm tpm : Nat → Int32) (Tm : Nat → Value) (Ia boa era : Nat → Int32) (n9 m9 : Int32) (t9 : Nat) (h0 : Ia 0 = n9) (h1 : Ia 1 = m9) (h2 : Ia 2 = nI t9) (ht : t9 + 2 ≤ 40) (x : Int32) : jb_C sc yX7_hears cX7_hears 3 (Option.some .int) 2 0 0 [.ref 12, .ref 102, .int x] [jb_main imm Im Tm rowm stkm tpm, s1, s2, s3, s4, s5, s6, s7, s8, jb_act Ia boa era, s10, s11] (fun r h9 => r = some (.int (((x) + n9) * 2)) ∧ ∃ A9, A9 0 = n9 ∧ A9 1 = m9 ∧ A9 2 = nI (t9 + 2) ∧ h9 = [jb_main imm Im Tm rowm stkm tpm, s1, s2, s3, s4, s5, s6, s7, s8, jb_act A9 (jp_wr boa t9 [11, 10]) era, s10, s11]) := by
  refine jb_CofJ (ini := false) (by decide +kernel) (fun h => by cases h) (Nat.le_of_ble_eq_true rfl) ?_
  show jb_J sc RX7 cX7_hears 3 (Option.some .int) false 2 0 0 0 [some (.ref 12), some (.ref 102), some (.int x)] [] [jb_main imm Im Tm rowm stkm tpm, s1, s2, s3, s4, s5, s6, s7, s8, jb_act Ia boa era, s10, s11] _
  refine jb_aload_n (pc' := 1) dX7_hears_0 rfl rfl ?_
  refine jb_bipush (pc' := 3) 11 dX7_hears_1 (by decide) rfl ?_
  refine jb_callV (pc' := 6) (ci := 0) (q := 102) (As := [.int 11]) (a2 := 0) (b2 := 0) wv_X7_7 rfl dX7_hears_3 (c_began imm Im rowm stkm tpm Tm Ia boa era n9 m9 t9 h0 h1 h2 (by omega) 11) rfl rfl ⟨by decide, Nat.le_of_eq (Nat.zero_add _), Nat.le_of_eq (Nat.zero_add _)⟩ (Nat.le_of_ble_eq_true rfl) rfl (fun r h9 hq => ?_)
  obtain ⟨rfl, A1, ha1, hb1, hc1, rfl⟩ := hq
  show jb_J _ RX7 cX7_hears 3 (Option.some .int) false 2 0 0 6 [some (.ref 12), some (.ref 102), some (.int x)] [] [jb_main imm Im Tm rowm stkm tpm, s1, s2, s3, s4, s5, s6, s7, s8, jb_act A1 (jp_wr boa t9 [11]) era, s10, s11] _
  refine jb_aload_n (pc' := 7) dX7_hears_6 rfl rfl ?_
  refine jb_aload_n (pc' := 8) dX7_hears_7 rfl rfl ?_
  refine jb_iload_n (pc' := 9) dX7_hears_8 rfl rfl ?_
  refine jb_callU (pc' := 12) (ci := 1) (q := 12) (As := [.ref 102, .int x]) (a2 := 0) (b2 := 0) wv_X7_17_X1 rfl dX7_hears_9 (ca_X7_calls_12 imm Im rowm stkm tpm Tm A1 (jp_wr boa t9 [11]) era n9 m9 (t9 + 1) ha1 hb1 hc1 (by omega) x) rfl rfl ⟨by decide, Nat.le_of_eq (Nat.zero_add _), Nat.le_of_eq (Nat.zero_add _)⟩ (Nat.le_of_ble_eq_true rfl) rfl (fun r h9 hq => ?_)
  obtain ⟨rfl, A2, ha2, hb2, hc2, rfl⟩ := hq
  show jb_J _ RX7 cX7_hears 3 (Option.some .int) false 2 0 0 12 [some (.ref 12), some (.ref 102), some (.int x)] [.int ((x) + n9)] [jb_main imm Im Tm rowm stkm tpm, s1, s2, s3, s4, s5, s6, s7, s8, jb_act A2 (jp_wr (jp_wr boa t9 [11]) (t9 + 1) [10]) era, s10, s11] _
  refine jb_iconst (pc' := 13) 2 dX7_hears_12 (by decide) rfl ?_
  refine jb_imul (pc' := 14) dX7_hears_13 rfl ?_
  refine jb_iret dX7_hears_14 rfl ?_
  exact ⟨rfl, A2, ha2, hb2, hc2, rfl⟩
set_option maxRecDepth 100000 in
set_option maxHeartbeats 4000000 in
theorem ca_X7_tells_12 {sc : Nat × (Nat → Int32)} {s1 s2 s3 s4 s5 s6 s7 s8 s10 s11 : List va_E} (imm : Int32) (Im rowm stkm tpm : Nat → Int32) (Tm : Nat → Value) (Ia boa era : Nat → Int32) (n9 m9 : Int32) (t9 : Nat) (h0 : Ia 0 = n9) (h1 : Ia 1 = m9) (h2 : Ia 2 = nI t9) (ht : t9 + 6 ≤ 40) (x : Int32) : jb_C sc yX7_tells cX7_tells 3 (Option.some .int) 4 0 0 [.ref 12, .ref 102, .int x] [jb_main imm Im Tm rowm stkm tpm, s1, s2, s3, s4, s5, s6, s7, s8, jb_act Ia boa era, s10, s11] (fun r h9 => r = some (.int ((((x) + n9) * 2) ^^^ ((-((x) - m9)) ^^^ n9))) ∧ ∃ A9, A9 0 = n9 ∧ A9 1 = m9 ∧ A9 2 = nI (t9 + 6) ∧ h9 = [jb_main imm Im Tm rowm stkm tpm, s1, s2, s3, s4, s5, s6, s7, s8, jb_act A9 (jp_wr boa t9 [13, 11, 10, 70, 40, 12]) era, s10, s11]) := by
  refine jb_CofJ (ini := false) (by decide +kernel) (fun h => by cases h) (Nat.le_of_ble_eq_true rfl) ?_
  show jb_J sc RX7 cX7_tells 3 (Option.some .int) false 4 0 0 0 [some (.ref 12), some (.ref 102), some (.int x)] [] [jb_main imm Im Tm rowm stkm tpm, s1, s2, s3, s4, s5, s6, s7, s8, jb_act Ia boa era, s10, s11] _
  refine jb_aload_n (pc' := 1) dX7_tells_0 rfl rfl ?_
  refine jb_bipush (pc' := 3) 13 dX7_tells_1 (by decide) rfl ?_
  refine jb_callV (pc' := 6) (ci := 0) (q := 102) (As := [.int 13]) (a2 := 0) (b2 := 0) wv_X7_7 rfl dX7_tells_3 (c_began imm Im rowm stkm tpm Tm Ia boa era n9 m9 t9 h0 h1 h2 (by omega) 13) rfl rfl ⟨by decide, Nat.le_of_eq (Nat.zero_add _), Nat.le_of_eq (Nat.zero_add _)⟩ (Nat.le_of_ble_eq_true rfl) rfl (fun r h9 hq => ?_)
  obtain ⟨rfl, A1, ha1, hb1, hc1, rfl⟩ := hq
  show jb_J _ RX7 cX7_tells 3 (Option.some .int) false 4 0 0 6 [some (.ref 12), some (.ref 102), some (.int x)] [] [jb_main imm Im Tm rowm stkm tpm, s1, s2, s3, s4, s5, s6, s7, s8, jb_act A1 (jp_wr boa t9 [13]) era, s10, s11] _
  refine jb_aload_n (pc' := 7) dX7_tells_6 rfl rfl ?_
  refine jb_aload_n (pc' := 8) dX7_tells_7 rfl rfl ?_
  refine jb_iload_n (pc' := 9) dX7_tells_8 rfl rfl ?_
  refine jb_callU (pc' := 12) (ci := 1) (q := 12) (As := [.ref 102, .int x]) (a2 := 0) (b2 := 0) wv_X7_26_X1 rfl dX7_tells_9 (ca_X7_hears_12 imm Im rowm stkm tpm Tm A1 (jp_wr boa t9 [13]) era n9 m9 (t9 + 1) ha1 hb1 hc1 (by omega) x) rfl rfl ⟨by decide, Nat.le_of_eq (Nat.zero_add _), Nat.le_of_eq (Nat.zero_add _)⟩ (Nat.le_of_ble_eq_true rfl) rfl (fun r h9 hq => ?_)
  obtain ⟨rfl, A2, ha2, hb2, hc2, rfl⟩ := hq
  show jb_J _ RX7 cX7_tells 3 (Option.some .int) false 4 0 0 12 [some (.ref 12), some (.ref 102), some (.int x)] [.int (((x) + n9) * 2)] [jb_main imm Im Tm rowm stkm tpm, s1, s2, s3, s4, s5, s6, s7, s8, jb_act A2 (jp_wr (jp_wr boa t9 [13]) (t9 + 1) [11, 10]) era, s10, s11] _
  refine jb_aload_n (pc' := 13) dX7_tells_12 rfl rfl ?_
  refine jb_aload_n (pc' := 14) dX7_tells_13 rfl rfl ?_
  refine jb_iload_n (pc' := 15) dX7_tells_14 rfl rfl ?_
  refine jb_callU (pc' := 18) (ci := 1) (q := 12) (As := [.ref 102, .int x]) (a2 := 0) (b2 := 0) wv_X7_29_X1 rfl dX7_tells_15 (ca_X1_waits_12 imm Im rowm stkm tpm Tm A2 (jp_wr (jp_wr boa t9 [13]) (t9 + 1) [11, 10]) era n9 m9 ((t9 + 1) + 2) ha2 hb2 hc2 (by omega) x) rfl rfl ⟨by decide, Nat.le_of_eq (Nat.zero_add _), Nat.le_of_eq (Nat.zero_add _)⟩ (Nat.le_of_ble_eq_true rfl) rfl (fun r h9 hq => ?_)
  obtain ⟨rfl, A3, ha3, hb3, hc3, rfl⟩ := hq
  show jb_J _ RX7 cX7_tells 3 (Option.some .int) false 4 0 0 18 [some (.ref 12), some (.ref 102), some (.int x)] [.int ((-((x) - m9)) ^^^ n9), .int (((x) + n9) * 2)] [jb_main imm Im Tm rowm stkm tpm, s1, s2, s3, s4, s5, s6, s7, s8, jb_act A3 (jp_wr (jp_wr (jp_wr boa t9 [13]) (t9 + 1) [11, 10]) ((t9 + 1) + 2) [70, 40, 12]) era, s10, s11] _
  refine jb_ixor (pc' := 19) dX7_tells_18 rfl ?_
  refine jb_iret dX7_tells_19 rfl ?_
  exact ⟨rfl, A3, ha3, hb3, hc3, rfl⟩
set_option maxRecDepth 100000 in
set_option maxHeartbeats 4000000 in
theorem ca_X1_tells_12 {sc : Nat × (Nat → Int32)} {s1 s2 s3 s4 s5 s6 s7 s8 s10 s11 : List va_E} (imm : Int32) (Im rowm stkm tpm : Nat → Int32) (Tm : Nat → Value) (Ia boa era : Nat → Int32) (n9 m9 : Int32) (t9 : Nat) (h0 : Ia 0 = n9) (h1 : Ia 1 = m9) (h2 : Ia 2 = nI t9) (ht : t9 + 9 ≤ 40) (x : Int32) : jb_C sc yX1_tells cX1_tells 3 (Option.some .int) 5 0 0 [.ref 12, .ref 102, .int x] [jb_main imm Im Tm rowm stkm tpm, s1, s2, s3, s4, s5, s6, s7, s8, jb_act Ia boa era, s10, s11] (fun r h9 => r = some (.int ((((x) + n9) * 2) - ((((x) + n9) * 2) ^^^ ((-((x) - m9)) ^^^ n9)))) ∧ ∃ A9, A9 0 = n9 ∧ A9 1 = m9 ∧ A9 2 = nI (t9 + 9) ∧ h9 = [jb_main imm Im Tm rowm stkm tpm, s1, s2, s3, s4, s5, s6, s7, s8, jb_act A9 (jp_wr boa t9 [71, 11, 10, 13, 11, 10, 70, 40, 12]) era, s10, s11]) := by
  refine jb_CofJ (ini := false) (by decide +kernel) (fun h => by cases h) (Nat.le_of_ble_eq_true rfl) ?_
  show jb_J sc RX1 cX1_tells 3 (Option.some .int) false 5 0 0 0 [some (.ref 12), some (.ref 102), some (.int x)] [] [jb_main imm Im Tm rowm stkm tpm, s1, s2, s3, s4, s5, s6, s7, s8, jb_act Ia boa era, s10, s11] _
  refine jb_aload_n (pc' := 1) dX1_tells_0 rfl rfl ?_
  refine jb_bipush (pc' := 3) 71 dX1_tells_1 (by decide) rfl ?_
  refine jb_callV (pc' := 6) (ci := 0) (q := 102) (As := [.int 71]) (a2 := 0) (b2 := 0) wv_X1_14 rfl dX1_tells_3 (c_began imm Im rowm stkm tpm Tm Ia boa era n9 m9 t9 h0 h1 h2 (by omega) 71) rfl rfl ⟨by decide, Nat.le_of_eq (Nat.zero_add _), Nat.le_of_eq (Nat.zero_add _)⟩ (Nat.le_of_ble_eq_true rfl) rfl (fun r h9 hq => ?_)
  obtain ⟨rfl, A1, ha1, hb1, hc1, rfl⟩ := hq
  show jb_J _ RX1 cX1_tells 3 (Option.some .int) false 5 0 0 6 [some (.ref 12), some (.ref 102), some (.int x)] [] [jb_main imm Im Tm rowm stkm tpm, s1, s2, s3, s4, s5, s6, s7, s8, jb_act A1 (jp_wr boa t9 [71]) era, s10, s11] _
  refine jb_aload_n (pc' := 7) dX1_tells_6 rfl rfl ?_
  refine jb_aload_n (pc' := 8) dX1_tells_7 rfl rfl ?_
  refine jb_iload_n (pc' := 9) dX1_tells_8 rfl rfl ?_
  refine jb_callU (pc' := 12) (ci := 1) (q := 12) (As := [.ref 102, .int x]) (a2 := 0) (b2 := 0) wv_X1_28_X1 rfl dX1_tells_9 (ca_X7_hears_12 imm Im rowm stkm tpm Tm A1 (jp_wr boa t9 [71]) era n9 m9 (t9 + 1) ha1 hb1 hc1 (by omega) x) rfl rfl ⟨by decide, Nat.le_of_eq (Nat.zero_add _), Nat.le_of_eq (Nat.zero_add _)⟩ (Nat.le_of_ble_eq_true rfl) rfl (fun r h9 hq => ?_)
  obtain ⟨rfl, A2, ha2, hb2, hc2, rfl⟩ := hq
  show jb_J _ RX1 cX1_tells 3 (Option.some .int) false 5 0 0 12 [some (.ref 12), some (.ref 102), some (.int x)] [.int (((x) + n9) * 2)] [jb_main imm Im Tm rowm stkm tpm, s1, s2, s3, s4, s5, s6, s7, s8, jb_act A2 (jp_wr (jp_wr boa t9 [71]) (t9 + 1) [11, 10]) era, s10, s11] _
  refine jb_aload_n (pc' := 13) dX1_tells_12 rfl rfl ?_
  refine jb_aload_n (pc' := 14) dX1_tells_13 rfl rfl ?_
  refine jb_iload_n (pc' := 15) dX1_tells_14 rfl rfl ?_
  refine jb_callP2 (pc' := 18) (ci := 1) (q := 12) (As := [.ref 102, .int x]) (a2 := 0) (b2 := 0) wv_X1_33 rfl dX1_tells_15 (ca_X7_tells_12 imm Im rowm stkm tpm Tm A2 (jp_wr (jp_wr boa t9 [71]) (t9 + 1) [11, 10]) era n9 m9 ((t9 + 1) + 2) ha2 hb2 hc2 (by omega) x) rfl rfl ⟨by decide, Nat.le_of_eq (Nat.zero_add _), Nat.le_of_eq (Nat.zero_add _)⟩ (Nat.le_of_ble_eq_true rfl) rfl (fun r h9 hq => ?_)
  obtain ⟨rfl, A3, ha3, hb3, hc3, rfl⟩ := hq
  show jb_J _ RX1 cX1_tells 3 (Option.some .int) false 5 0 0 18 [some (.ref 12), some (.ref 102), some (.int x)] [.int ((((x) + n9) * 2) ^^^ ((-((x) - m9)) ^^^ n9)), .int (((x) + n9) * 2)] [jb_main imm Im Tm rowm stkm tpm, s1, s2, s3, s4, s5, s6, s7, s8, jb_act A3 (jp_wr (jp_wr (jp_wr boa t9 [71]) (t9 + 1) [11, 10]) ((t9 + 1) + 2) [13, 11, 10, 70, 40, 12]) era, s10, s11] _
  refine jb_isub (pc' := 19) dX1_tells_18 rfl ?_
  refine jb_iret dX1_tells_19 rfl ?_
  exact ⟨rfl, A3, ha3, hb3, hc3, rfl⟩
set_option maxRecDepth 100000 in
set_option maxHeartbeats 4000000 in
theorem c_begin {sc : Nat × (Nat → Int32)} {s1 s2 s3 s4 s5 s6 s7 s8 s10 s11 : List va_E} (imm : Int32) (Im rowm stkm tpm : Nat → Int32) (Tm : Nat → Value) (Ia boa era : Nat → Int32) (n9 m9 : Int32) : jb_C sc yX0_begin cX0_begin 3 (Option.none : Option Jvm.ClassFile.FieldType) 0 0 0 [.ref 102, .int n9, .int m9] [jb_main imm Im Tm rowm stkm tpm, s1, s2, s3, s4, s5, s6, s7, s8, jb_act Ia boa era, s10, s11] (fun r h9 => r = none ∧ ∃ A9, A9 0 = n9 ∧ A9 1 = m9 ∧ A9 2 = nI 0 ∧ h9 = [jb_main imm Im Tm rowm stkm tpm, s1, s2, s3, s4, s5, s6, s7, s8, jb_act A9 boa era, s10, s11]) := by
  refine jb_CofJ (ini := false) (by decide +kernel) (fun h => by cases h) (Nat.le_of_ble_eq_true rfl) ?_
  show jb_J sc RX0 cX0_begin 3 (Option.none : Option Jvm.ClassFile.FieldType) false 0 0 0 0 [some (.ref 102), some (.int n9), some (.int m9)] [] [jb_main imm Im Tm rowm stkm tpm, s1, s2, s3, s4, s5, s6, s7, s8, jb_act Ia boa era, s10, s11] _
  refine jb_aload_n (pc' := 1) dX0_begin_0 rfl rfl ?_
  refine jb_iload_n (pc' := 2) dX0_begin_1 rfl rfl ?_
  refine pf_X0_9 (pc' := 5) (h' := [jb_main imm Im Tm rowm stkm tpm, s1, s2, s3, s4, s5, s6, s7, s8, jb_act (upd Ia 0 n9) boa era, s10, s11]) dX0_begin_2 (fun _ => ⟨rfl, rfl⟩) rfl (Nat.le_of_ble_eq_true rfl) rfl rfl ?_
  refine jb_aload_n (pc' := 6) dX0_begin_5 rfl rfl ?_
  refine jb_iload_n (pc' := 7) dX0_begin_6 rfl rfl ?_
  refine pf_X0_15 (pc' := 10) (h' := [jb_main imm Im Tm rowm stkm tpm, s1, s2, s3, s4, s5, s6, s7, s8, jb_act (upd (upd Ia 0 n9) 1 m9) boa era, s10, s11]) dX0_begin_7 (fun _ => ⟨rfl, rfl⟩) rfl (Nat.le_of_ble_eq_true rfl) rfl rfl ?_
  refine jb_aload_n (pc' := 11) dX0_begin_10 rfl rfl ?_
  refine jb_iconst (pc' := 12) 0 dX0_begin_11 (by decide) rfl ?_
  refine pf_X0_18 (pc' := 15) (h' := [jb_main imm Im Tm rowm stkm tpm, s1, s2, s3, s4, s5, s6, s7, s8, jb_act (upd (upd (upd Ia 0 n9) 1 m9) 2 0) boa era, s10, s11]) dX0_begin_12 (fun _ => ⟨rfl, rfl⟩) rfl (Nat.le_of_ble_eq_true rfl) rfl rfl ?_
  refine jb_vret dX0_begin_15 ?_
  exact ⟨rfl, (upd (upd (upd Ia 0 n9) 1 m9) 2 0), rfl, rfl, rfl, rfl⟩
set_option maxRecDepth 100000 in
set_option maxHeartbeats 4000000 in
theorem kx_voice0_0 {sc : Nat × (Nat → Int32)} {s2 s3 s4 s5 s6 s7 s8 s10 s11 : List va_E} {V : Nat → Nat → Nat} (imm : Int32) (Im rowm stkm tpm : Nat → Int32) (Tm : Nat → Value) (I : Nat → Int32) (W : Nat → Nat → Int32) (T : Nat → Value) (Ia boa era : Nat → Int32) (hr : jr_ V I W) (hk : jv_ok V) (p : Nat) (hp : p < V 0 1) (hkd : V 1 p = 0) (x : Int32) : jb_C sc yX11_voice cX11_voice 5 (Option.some .int) 2 0 0 [.ref 0, .int (nI p), .int 0, .int x] [jb_main imm Im Tm rowm stkm tpm, jb_sch13 I W T, s2, s3, s4, s5, s6, s7, s8, jb_act Ia boa era, s10, s11] (fun r h9 => r = some (.int ((x) + (nI p))) ∧ ∃ A9, A9 2 = nI 1 ∧ h9 = [jb_main imm Im Tm rowm stkm tpm, jb_sch13 I W T, s2, s3, s4, s5, s6, s7, s8, jb_act A9 (jp_wr boa 0 [10]) era, s10, s11]) := by
  refine jb_CofJ (ini := false) (by decide +kernel) (fun h => by cases h) (Nat.le_of_ble_eq_true rfl) ?_
  show jb_J sc RX11 cX11_voice 5 (Option.some .int) false 2 0 0 0 [some (.ref 0), some (.int (nI p)), some (.int 0), some (.int x), none] [] [jb_main imm Im Tm rowm stkm tpm, jb_sch13 I W T, s2, s3, s4, s5, s6, s7, s8, jb_act Ia boa era, s10, s11] _
  have hr0 := hr
  have hk0 := hk
  obtain ⟨r0, r2, r3, r4, a0, a1, a2, rv, rs, rd⟩ := hr
  obtain ⟨k0, k1, k2, k3, k4, k5, k6, k7, kv, ks, kd⟩ := hk
  have q0 := kv p hp
  refine jb_aload_n (pc' := 1) dX11_voice_0 rfl rfl ?_
  refine jb_iload_n (pc' := 2) dX11_voice_1 rfl rfl ?_
  refine jb_callV (pc' := 5) (ci := 11) (q := 0) (As := [.int (nI p)]) (a2 := 0) (b2 := 0) wv_X11_92 rfl dX11_voice_2 (c_isNoVoiceG imm Im rowm stkm tpm Tm I W T hr0 hk0 p (by omega)) rfl rfl ⟨by decide, Nat.le_of_eq (Nat.zero_add _), Nat.le_of_eq (Nat.zero_add _)⟩ (Nat.le_of_ble_eq_true rfl) rfl (fun r h9 hq => ?_)
  obtain ⟨rfl, rfl⟩ := hq
  show jb_J _ RX11 cX11_voice 5 (Option.some .int) false 2 0 0 5 [some (.ref 0), some (.int (nI p)), some (.int 0), some (.int x), none] [.int 0] [jb_main imm Im Tm rowm stkm tpm, jb_sch13 I W T, s2, s3, s4, s5, s6, s7, s8, jb_act Ia boa era, s10, s11] _
  refine jb_if_ne (tgt := 17) (pc' := 8) dX11_voice_5 (by decide) rfl (fun z => absurd (by decide) z) (fun _ => ?_)
  refine jb_iload_n (pc' := 9) dX11_voice_8 rfl rfl ?_
  refine jb_iconst (pc' := 10) 0 dX11_voice_9 (by decide) rfl ?_
  refine jb_iconst (pc' := 11) 3 dX11_voice_10 (by decide) rfl ?_
  refine jb_callS (pc' := 14) (As := [.int 0, .int 0, .int 3]) (a2 := 0) (b2 := 0) wv_X11_74 dX11_voice_11 (c_isOutLG 0 0 3 (by omega) (by omega) (by omega)) rfl ⟨by decide, Nat.le_of_eq (Nat.zero_add _), Nat.le_of_eq (Nat.zero_add _)⟩ (Nat.le_of_ble_eq_true rfl) rfl (fun r h9 hq => ?_)
  obtain ⟨rfl, rfl⟩ := hq
  show jb_J _ RX11 cX11_voice 5 (Option.some .int) false 2 0 0 14 [some (.ref 0), some (.int (nI p)), some (.int 0), some (.int x), none] [.int 0] [jb_main imm Im Tm rowm stkm tpm, jb_sch13 I W T, s2, s3, s4, s5, s6, s7, s8, jb_act Ia boa era, s10, s11] _
  refine jb_if_eq (tgt := 23) (pc' := 17) dX11_voice_14 (by decide) rfl (fun _ => ?_) (fun z => absurd (by decide) z)
  refine jb_aload_n (pc' := 24) dX11_voice_23 rfl rfl ?_
  refine gf_X11_62 (pc' := 27) (v := .ref 102) dX11_voice_24 rfl rfl rfl ?_
  refine jb_iload_n (pc' := 28) dX11_voice_27 rfl rfl ?_
  refine jb_aload_n (pc' := 29) dX11_voice_28 rfl rfl ?_
  refine gf_X11_42 (pc' := 32) (v := .ref 13) dX11_voice_29 rfl rfl rfl ?_
  refine gf_X11_99 (pc' := 35) (v := .ref 15) dX11_voice_32 rfl rfl rfl ?_
  refine jb_iconst (pc' := 36) 1 dX11_voice_35 (by decide) rfl ?_
  refine jb_aaload (pc' := 37) (i9 := 1) (r := 17) (Or.inl rfl) dX11_voice_36 rfl jb_x1 (by decide) rfl rfl ?_
  refine jb_iload_n (pc' := 38) dX11_voice_37 rfl rfl ?_
  refine jb_iaload (pc' := 39) (i9 := p) (f := (W 2)) dX11_voice_38 rfl (jb_ix_nI (by omega)) (by omega) rfl ?_
  refine jb_top (v := .int ((W 2) p)) (w := .int (nI (V 2 p))) (jb_vI (rv p (by omega)).2.1) ?_
  refine jb_callV (pc' := 42) (ci := 0) (q := 102) (As := [.int (nI p), .int (nI (V 2 p))]) (a2 := 0) (b2 := 0) wv_X11_205 rfl dX11_voice_39 (c_begin imm Im rowm stkm tpm Tm Ia boa era (nI p) (nI (V 2 p))) rfl rfl ⟨by decide, Nat.le_of_eq (Nat.zero_add _), Nat.le_of_eq (Nat.zero_add _)⟩ (Nat.le_of_ble_eq_true rfl) rfl (fun r h9 hq => ?_)
  obtain ⟨rfl, A9, ha, hb, hc, rfl⟩ := hq
  show jb_J _ RX11 cX11_voice 5 (Option.some .int) false 2 0 0 42 [some (.ref 0), some (.int (nI p)), some (.int 0), some (.int x), none] [] [jb_main imm Im Tm rowm stkm tpm, jb_sch13 I W T, s2, s3, s4, s5, s6, s7, s8, jb_act A9 boa era, s10, s11] _
  refine jb_aload_n (pc' := 43) dX11_voice_42 rfl rfl ?_
  refine gf_X11_42 (pc' := 46) (v := .ref 13) dX11_voice_43 rfl rfl rfl ?_
  refine jb_iload_n (pc' := 47) dX11_voice_46 rfl rfl ?_
  refine jb_callV (pc' := 50) (ci := 9) (q := 13) (As := [.int (nI p)]) (a2 := 0) (b2 := 0) wv_X11_209 rfl dX11_voice_47 (c_kindOf_13 imm Im rowm stkm tpm Tm I W T hr0 hk0 p hp) rfl rfl ⟨by decide, Nat.le_of_eq (Nat.zero_add _), Nat.le_of_eq (Nat.zero_add _)⟩ (Nat.le_of_ble_eq_true rfl) rfl (fun r h9 hq => ?_)
  obtain ⟨rfl, rfl⟩ := hq
  rw [hkd]
  show jb_J _ RX11 cX11_voice 5 (Option.some .int) false 2 0 0 50 [some (.ref 0), some (.int (nI p)), some (.int 0), some (.int x), none] [.ref 6] [jb_main imm Im Tm rowm stkm tpm, jb_sch13 I W T, s2, s3, s4, s5, s6, s7, s8, jb_act A9 boa era, s10, s11] _
  refine jb_astore_ (pc' := 52) dX11_voice_50 (by decide) (jb_at4 rfl) rfl ?_
  refine jb_iload_n (pc' := 53) dX11_voice_52 rfl rfl ?_
  refine jb_tableIn (pc' := 80) (off := 27) dX11_voice_53 (by decide) (by decide) (by decide +kernel) (by decide) ?_
  refine jb_aload (pc' := 82) dX11_voice_80 rfl rfl ?_
  refine jb_aload_n (pc' := 83) dX11_voice_82 rfl rfl ?_
  refine gf_X11_62 (pc' := 86) (v := .ref 102) dX11_voice_83 rfl rfl rfl ?_
  refine jb_iload_n (pc' := 87) dX11_voice_86 rfl rfl ?_
  refine jb_callU (pc' := 90) (ci := 7) (q := 6) (As := [.ref 102, .int x]) (a2 := 0) (b2 := 0) wv_X11_213_X7 rfl dX11_voice_87 (ca_X7_calls_6 imm Im rowm stkm tpm Tm A9 boa era (nI p) (nI (V 2 p)) 0 ha hb hc (by omega) x) rfl rfl ⟨by decide, Nat.le_of_eq (Nat.zero_add _), Nat.le_of_eq (Nat.zero_add _)⟩ (Nat.le_of_ble_eq_true rfl) rfl (fun r h9 hq => ?_)
  obtain ⟨rfl, A8, ha8, hb8, hc8, rfl⟩ := hq
  show jb_J _ RX11 cX11_voice 5 (Option.some .int) false 2 0 0 90 [some (.ref 0), some (.int (nI p)), some (.int 0), some (.int x), some (.ref 6)] [.int ((x) + (nI p))] [jb_main imm Im Tm rowm stkm tpm, jb_sch13 I W T, s2, s3, s4, s5, s6, s7, s8, jb_act A8 (jp_wr boa 0 [10]) era, s10, s11] _
  refine jb_iret dX11_voice_90 rfl ?_
  exact ⟨rfl, A8, by rw [hc8], rfl⟩
set_option maxRecDepth 100000 in
set_option maxHeartbeats 4000000 in
theorem kx_voice1_0 {sc : Nat × (Nat → Int32)} {s2 s3 s4 s5 s6 s7 s8 s10 s11 : List va_E} {V : Nat → Nat → Nat} (imm : Int32) (Im rowm stkm tpm : Nat → Int32) (Tm : Nat → Value) (I : Nat → Int32) (W : Nat → Nat → Int32) (T : Nat → Value) (Ia boa era : Nat → Int32) (hr : jr_ V I W) (hk : jv_ok V) (p : Nat) (hp : p < V 0 1) (hkd : V 1 p = 0) (x : Int32) : jb_C sc yX11_voice cX11_voice 5 (Option.some .int) 3 0 0 [.ref 0, .int (nI p), .int 1, .int x] [jb_main imm Im Tm rowm stkm tpm, jb_sch13 I W T, s2, s3, s4, s5, s6, s7, s8, jb_act Ia boa era, s10, s11] (fun r h9 => r = some (.int (((x) + (nI p)) * 2)) ∧ ∃ A9, A9 2 = nI 2 ∧ h9 = [jb_main imm Im Tm rowm stkm tpm, jb_sch13 I W T, s2, s3, s4, s5, s6, s7, s8, jb_act A9 (jp_wr boa 0 [11, 10]) era, s10, s11]) := by
  refine jb_CofJ (ini := false) (by decide +kernel) (fun h => by cases h) (Nat.le_of_ble_eq_true rfl) ?_
  show jb_J sc RX11 cX11_voice 5 (Option.some .int) false 3 0 0 0 [some (.ref 0), some (.int (nI p)), some (.int 1), some (.int x), none] [] [jb_main imm Im Tm rowm stkm tpm, jb_sch13 I W T, s2, s3, s4, s5, s6, s7, s8, jb_act Ia boa era, s10, s11] _
  have hr0 := hr
  have hk0 := hk
  obtain ⟨r0, r2, r3, r4, a0, a1, a2, rv, rs, rd⟩ := hr
  obtain ⟨k0, k1, k2, k3, k4, k5, k6, k7, kv, ks, kd⟩ := hk
  have q0 := kv p hp
  refine jb_aload_n (pc' := 1) dX11_voice_0 rfl rfl ?_
  refine jb_iload_n (pc' := 2) dX11_voice_1 rfl rfl ?_
  refine jb_callV (pc' := 5) (ci := 11) (q := 0) (As := [.int (nI p)]) (a2 := 0) (b2 := 0) wv_X11_92 rfl dX11_voice_2 (c_isNoVoiceG imm Im rowm stkm tpm Tm I W T hr0 hk0 p (by omega)) rfl rfl ⟨by decide, Nat.le_of_eq (Nat.zero_add _), Nat.le_of_eq (Nat.zero_add _)⟩ (Nat.le_of_ble_eq_true rfl) rfl (fun r h9 hq => ?_)
  obtain ⟨rfl, rfl⟩ := hq
  show jb_J _ RX11 cX11_voice 5 (Option.some .int) false 3 0 0 5 [some (.ref 0), some (.int (nI p)), some (.int 1), some (.int x), none] [.int 0] [jb_main imm Im Tm rowm stkm tpm, jb_sch13 I W T, s2, s3, s4, s5, s6, s7, s8, jb_act Ia boa era, s10, s11] _
  refine jb_if_ne (tgt := 17) (pc' := 8) dX11_voice_5 (by decide) rfl (fun z => absurd (by decide) z) (fun _ => ?_)
  refine jb_iload_n (pc' := 9) dX11_voice_8 rfl rfl ?_
  refine jb_iconst (pc' := 10) 0 dX11_voice_9 (by decide) rfl ?_
  refine jb_iconst (pc' := 11) 3 dX11_voice_10 (by decide) rfl ?_
  refine jb_callS (pc' := 14) (As := [.int 1, .int 0, .int 3]) (a2 := 0) (b2 := 0) wv_X11_74 dX11_voice_11 (c_isOutLG 1 0 3 (by omega) (by omega) (by omega)) rfl ⟨by decide, Nat.le_of_eq (Nat.zero_add _), Nat.le_of_eq (Nat.zero_add _)⟩ (Nat.le_of_ble_eq_true rfl) rfl (fun r h9 hq => ?_)
  obtain ⟨rfl, rfl⟩ := hq
  show jb_J _ RX11 cX11_voice 5 (Option.some .int) false 3 0 0 14 [some (.ref 0), some (.int (nI p)), some (.int 1), some (.int x), none] [.int 0] [jb_main imm Im Tm rowm stkm tpm, jb_sch13 I W T, s2, s3, s4, s5, s6, s7, s8, jb_act Ia boa era, s10, s11] _
  refine jb_if_eq (tgt := 23) (pc' := 17) dX11_voice_14 (by decide) rfl (fun _ => ?_) (fun z => absurd (by decide) z)
  refine jb_aload_n (pc' := 24) dX11_voice_23 rfl rfl ?_
  refine gf_X11_62 (pc' := 27) (v := .ref 102) dX11_voice_24 rfl rfl rfl ?_
  refine jb_iload_n (pc' := 28) dX11_voice_27 rfl rfl ?_
  refine jb_aload_n (pc' := 29) dX11_voice_28 rfl rfl ?_
  refine gf_X11_42 (pc' := 32) (v := .ref 13) dX11_voice_29 rfl rfl rfl ?_
  refine gf_X11_99 (pc' := 35) (v := .ref 15) dX11_voice_32 rfl rfl rfl ?_
  refine jb_iconst (pc' := 36) 1 dX11_voice_35 (by decide) rfl ?_
  refine jb_aaload (pc' := 37) (i9 := 1) (r := 17) (Or.inl rfl) dX11_voice_36 rfl jb_x1 (by decide) rfl rfl ?_
  refine jb_iload_n (pc' := 38) dX11_voice_37 rfl rfl ?_
  refine jb_iaload (pc' := 39) (i9 := p) (f := (W 2)) dX11_voice_38 rfl (jb_ix_nI (by omega)) (by omega) rfl ?_
  refine jb_top (v := .int ((W 2) p)) (w := .int (nI (V 2 p))) (jb_vI (rv p (by omega)).2.1) ?_
  refine jb_callV (pc' := 42) (ci := 0) (q := 102) (As := [.int (nI p), .int (nI (V 2 p))]) (a2 := 0) (b2 := 0) wv_X11_205 rfl dX11_voice_39 (c_begin imm Im rowm stkm tpm Tm Ia boa era (nI p) (nI (V 2 p))) rfl rfl ⟨by decide, Nat.le_of_eq (Nat.zero_add _), Nat.le_of_eq (Nat.zero_add _)⟩ (Nat.le_of_ble_eq_true rfl) rfl (fun r h9 hq => ?_)
  obtain ⟨rfl, A9, ha, hb, hc, rfl⟩ := hq
  show jb_J _ RX11 cX11_voice 5 (Option.some .int) false 3 0 0 42 [some (.ref 0), some (.int (nI p)), some (.int 1), some (.int x), none] [] [jb_main imm Im Tm rowm stkm tpm, jb_sch13 I W T, s2, s3, s4, s5, s6, s7, s8, jb_act A9 boa era, s10, s11] _
  refine jb_aload_n (pc' := 43) dX11_voice_42 rfl rfl ?_
  refine gf_X11_42 (pc' := 46) (v := .ref 13) dX11_voice_43 rfl rfl rfl ?_
  refine jb_iload_n (pc' := 47) dX11_voice_46 rfl rfl ?_
  refine jb_callV (pc' := 50) (ci := 9) (q := 13) (As := [.int (nI p)]) (a2 := 0) (b2 := 0) wv_X11_209 rfl dX11_voice_47 (c_kindOf_13 imm Im rowm stkm tpm Tm I W T hr0 hk0 p hp) rfl rfl ⟨by decide, Nat.le_of_eq (Nat.zero_add _), Nat.le_of_eq (Nat.zero_add _)⟩ (Nat.le_of_ble_eq_true rfl) rfl (fun r h9 hq => ?_)
  obtain ⟨rfl, rfl⟩ := hq
  rw [hkd]
  show jb_J _ RX11 cX11_voice 5 (Option.some .int) false 3 0 0 50 [some (.ref 0), some (.int (nI p)), some (.int 1), some (.int x), none] [.ref 6] [jb_main imm Im Tm rowm stkm tpm, jb_sch13 I W T, s2, s3, s4, s5, s6, s7, s8, jb_act A9 boa era, s10, s11] _
  refine jb_astore_ (pc' := 52) dX11_voice_50 (by decide) (jb_at4 rfl) rfl ?_
  refine jb_iload_n (pc' := 53) dX11_voice_52 rfl rfl ?_
  refine jb_tableIn (pc' := 91) (off := 38) dX11_voice_53 (by decide) (by decide) (by decide +kernel) (by decide) ?_
  refine jb_aload (pc' := 93) dX11_voice_91 rfl rfl ?_
  refine jb_aload_n (pc' := 94) dX11_voice_93 rfl rfl ?_
  refine gf_X11_62 (pc' := 97) (v := .ref 102) dX11_voice_94 rfl rfl rfl ?_
  refine jb_iload_n (pc' := 98) dX11_voice_97 rfl rfl ?_
  refine jb_callU (pc' := 101) (ci := 7) (q := 6) (As := [.ref 102, .int x]) (a2 := 0) (b2 := 0) wv_X11_217_X7 rfl dX11_voice_98 (ca_X7_hears_6 imm Im rowm stkm tpm Tm A9 boa era (nI p) (nI (V 2 p)) 0 ha hb hc (by omega) x) rfl rfl ⟨by decide, Nat.le_of_eq (Nat.zero_add _), Nat.le_of_eq (Nat.zero_add _)⟩ (Nat.le_of_ble_eq_true rfl) rfl (fun r h9 hq => ?_)
  obtain ⟨rfl, A8, ha8, hb8, hc8, rfl⟩ := hq
  show jb_J _ RX11 cX11_voice 5 (Option.some .int) false 3 0 0 101 [some (.ref 0), some (.int (nI p)), some (.int 1), some (.int x), some (.ref 6)] [.int (((x) + (nI p)) * 2)] [jb_main imm Im Tm rowm stkm tpm, jb_sch13 I W T, s2, s3, s4, s5, s6, s7, s8, jb_act A8 (jp_wr boa 0 [11, 10]) era, s10, s11] _
  refine jb_iret dX11_voice_101 rfl ?_
  exact ⟨rfl, A8, by rw [hc8], rfl⟩
set_option maxRecDepth 100000 in
set_option maxHeartbeats 4000000 in
theorem kx_voice2_0 {sc : Nat × (Nat → Int32)} {s2 s3 s4 s5 s6 s7 s8 s10 s11 : List va_E} {V : Nat → Nat → Nat} (imm : Int32) (Im rowm stkm tpm : Nat → Int32) (Tm : Nat → Value) (I : Nat → Int32) (W : Nat → Nat → Int32) (T : Nat → Value) (Ia boa era : Nat → Int32) (hr : jr_ V I W) (hk : jv_ok V) (p : Nat) (hp : p < V 0 1) (hkd : V 1 p = 0) (x : Int32) : jb_C sc yX11_voice cX11_voice 5 (Option.some .int) 2 0 0 [.ref 0, .int (nI p), .int 2, .int x] [jb_main imm Im Tm rowm stkm tpm, jb_sch13 I W T, s2, s3, s4, s5, s6, s7, s8, jb_act Ia boa era, s10, s11] (fun r h9 => r = some (.int ((x) - (nI (V 2 p)))) ∧ ∃ A9, A9 2 = nI 1 ∧ h9 = [jb_main imm Im Tm rowm stkm tpm, jb_sch13 I W T, s2, s3, s4, s5, s6, s7, s8, jb_act A9 (jp_wr boa 0 [12]) era, s10, s11]) := by
  refine jb_CofJ (ini := false) (by decide +kernel) (fun h => by cases h) (Nat.le_of_ble_eq_true rfl) ?_
  show jb_J sc RX11 cX11_voice 5 (Option.some .int) false 2 0 0 0 [some (.ref 0), some (.int (nI p)), some (.int 2), some (.int x), none] [] [jb_main imm Im Tm rowm stkm tpm, jb_sch13 I W T, s2, s3, s4, s5, s6, s7, s8, jb_act Ia boa era, s10, s11] _
  have hr0 := hr
  have hk0 := hk
  obtain ⟨r0, r2, r3, r4, a0, a1, a2, rv, rs, rd⟩ := hr
  obtain ⟨k0, k1, k2, k3, k4, k5, k6, k7, kv, ks, kd⟩ := hk
  have q0 := kv p hp
  refine jb_aload_n (pc' := 1) dX11_voice_0 rfl rfl ?_
  refine jb_iload_n (pc' := 2) dX11_voice_1 rfl rfl ?_
  refine jb_callV (pc' := 5) (ci := 11) (q := 0) (As := [.int (nI p)]) (a2 := 0) (b2 := 0) wv_X11_92 rfl dX11_voice_2 (c_isNoVoiceG imm Im rowm stkm tpm Tm I W T hr0 hk0 p (by omega)) rfl rfl ⟨by decide, Nat.le_of_eq (Nat.zero_add _), Nat.le_of_eq (Nat.zero_add _)⟩ (Nat.le_of_ble_eq_true rfl) rfl (fun r h9 hq => ?_)
  obtain ⟨rfl, rfl⟩ := hq
  show jb_J _ RX11 cX11_voice 5 (Option.some .int) false 2 0 0 5 [some (.ref 0), some (.int (nI p)), some (.int 2), some (.int x), none] [.int 0] [jb_main imm Im Tm rowm stkm tpm, jb_sch13 I W T, s2, s3, s4, s5, s6, s7, s8, jb_act Ia boa era, s10, s11] _
  refine jb_if_ne (tgt := 17) (pc' := 8) dX11_voice_5 (by decide) rfl (fun z => absurd (by decide) z) (fun _ => ?_)
  refine jb_iload_n (pc' := 9) dX11_voice_8 rfl rfl ?_
  refine jb_iconst (pc' := 10) 0 dX11_voice_9 (by decide) rfl ?_
  refine jb_iconst (pc' := 11) 3 dX11_voice_10 (by decide) rfl ?_
  refine jb_callS (pc' := 14) (As := [.int 2, .int 0, .int 3]) (a2 := 0) (b2 := 0) wv_X11_74 dX11_voice_11 (c_isOutLG 2 0 3 (by omega) (by omega) (by omega)) rfl ⟨by decide, Nat.le_of_eq (Nat.zero_add _), Nat.le_of_eq (Nat.zero_add _)⟩ (Nat.le_of_ble_eq_true rfl) rfl (fun r h9 hq => ?_)
  obtain ⟨rfl, rfl⟩ := hq
  show jb_J _ RX11 cX11_voice 5 (Option.some .int) false 2 0 0 14 [some (.ref 0), some (.int (nI p)), some (.int 2), some (.int x), none] [.int 0] [jb_main imm Im Tm rowm stkm tpm, jb_sch13 I W T, s2, s3, s4, s5, s6, s7, s8, jb_act Ia boa era, s10, s11] _
  refine jb_if_eq (tgt := 23) (pc' := 17) dX11_voice_14 (by decide) rfl (fun _ => ?_) (fun z => absurd (by decide) z)
  refine jb_aload_n (pc' := 24) dX11_voice_23 rfl rfl ?_
  refine gf_X11_62 (pc' := 27) (v := .ref 102) dX11_voice_24 rfl rfl rfl ?_
  refine jb_iload_n (pc' := 28) dX11_voice_27 rfl rfl ?_
  refine jb_aload_n (pc' := 29) dX11_voice_28 rfl rfl ?_
  refine gf_X11_42 (pc' := 32) (v := .ref 13) dX11_voice_29 rfl rfl rfl ?_
  refine gf_X11_99 (pc' := 35) (v := .ref 15) dX11_voice_32 rfl rfl rfl ?_
  refine jb_iconst (pc' := 36) 1 dX11_voice_35 (by decide) rfl ?_
  refine jb_aaload (pc' := 37) (i9 := 1) (r := 17) (Or.inl rfl) dX11_voice_36 rfl jb_x1 (by decide) rfl rfl ?_
  refine jb_iload_n (pc' := 38) dX11_voice_37 rfl rfl ?_
  refine jb_iaload (pc' := 39) (i9 := p) (f := (W 2)) dX11_voice_38 rfl (jb_ix_nI (by omega)) (by omega) rfl ?_
  refine jb_top (v := .int ((W 2) p)) (w := .int (nI (V 2 p))) (jb_vI (rv p (by omega)).2.1) ?_
  refine jb_callV (pc' := 42) (ci := 0) (q := 102) (As := [.int (nI p), .int (nI (V 2 p))]) (a2 := 0) (b2 := 0) wv_X11_205 rfl dX11_voice_39 (c_begin imm Im rowm stkm tpm Tm Ia boa era (nI p) (nI (V 2 p))) rfl rfl ⟨by decide, Nat.le_of_eq (Nat.zero_add _), Nat.le_of_eq (Nat.zero_add _)⟩ (Nat.le_of_ble_eq_true rfl) rfl (fun r h9 hq => ?_)
  obtain ⟨rfl, A9, ha, hb, hc, rfl⟩ := hq
  show jb_J _ RX11 cX11_voice 5 (Option.some .int) false 2 0 0 42 [some (.ref 0), some (.int (nI p)), some (.int 2), some (.int x), none] [] [jb_main imm Im Tm rowm stkm tpm, jb_sch13 I W T, s2, s3, s4, s5, s6, s7, s8, jb_act A9 boa era, s10, s11] _
  refine jb_aload_n (pc' := 43) dX11_voice_42 rfl rfl ?_
  refine gf_X11_42 (pc' := 46) (v := .ref 13) dX11_voice_43 rfl rfl rfl ?_
  refine jb_iload_n (pc' := 47) dX11_voice_46 rfl rfl ?_
  refine jb_callV (pc' := 50) (ci := 9) (q := 13) (As := [.int (nI p)]) (a2 := 0) (b2 := 0) wv_X11_209 rfl dX11_voice_47 (c_kindOf_13 imm Im rowm stkm tpm Tm I W T hr0 hk0 p hp) rfl rfl ⟨by decide, Nat.le_of_eq (Nat.zero_add _), Nat.le_of_eq (Nat.zero_add _)⟩ (Nat.le_of_ble_eq_true rfl) rfl (fun r h9 hq => ?_)
  obtain ⟨rfl, rfl⟩ := hq
  rw [hkd]
  show jb_J _ RX11 cX11_voice 5 (Option.some .int) false 2 0 0 50 [some (.ref 0), some (.int (nI p)), some (.int 2), some (.int x), none] [.ref 6] [jb_main imm Im Tm rowm stkm tpm, jb_sch13 I W T, s2, s3, s4, s5, s6, s7, s8, jb_act A9 boa era, s10, s11] _
  refine jb_astore_ (pc' := 52) dX11_voice_50 (by decide) (jb_at4 rfl) rfl ?_
  refine jb_iload_n (pc' := 53) dX11_voice_52 rfl rfl ?_
  refine jb_tableIn (pc' := 102) (off := 49) dX11_voice_53 (by decide) (by decide) (by decide +kernel) (by decide) ?_
  refine jb_aload (pc' := 104) dX11_voice_102 rfl rfl ?_
  refine jb_aload_n (pc' := 105) dX11_voice_104 rfl rfl ?_
  refine gf_X11_62 (pc' := 108) (v := .ref 102) dX11_voice_105 rfl rfl rfl ?_
  refine jb_iload_n (pc' := 109) dX11_voice_108 rfl rfl ?_
  refine jb_callU (pc' := 112) (ci := 7) (q := 6) (As := [.ref 102, .int x]) (a2 := 0) (b2 := 0) wv_X11_220_X7 rfl dX11_voice_109 (ca_X7_waits_6 imm Im rowm stkm tpm Tm A9 boa era (nI p) (nI (V 2 p)) 0 ha hb hc (by omega) x) rfl rfl ⟨by decide, Nat.le_of_eq (Nat.zero_add _), Nat.le_of_eq (Nat.zero_add _)⟩ (Nat.le_of_ble_eq_true rfl) rfl (fun r h9 hq => ?_)
  obtain ⟨rfl, A8, ha8, hb8, hc8, rfl⟩ := hq
  show jb_J _ RX11 cX11_voice 5 (Option.some .int) false 2 0 0 112 [some (.ref 0), some (.int (nI p)), some (.int 2), some (.int x), some (.ref 6)] [.int ((x) - (nI (V 2 p)))] [jb_main imm Im Tm rowm stkm tpm, jb_sch13 I W T, s2, s3, s4, s5, s6, s7, s8, jb_act A8 (jp_wr boa 0 [12]) era, s10, s11] _
  refine jb_iret dX11_voice_112 rfl ?_
  exact ⟨rfl, A8, by rw [hc8], rfl⟩
set_option maxRecDepth 100000 in
set_option maxHeartbeats 4000000 in
theorem kx_voice3_0 {sc : Nat × (Nat → Int32)} {s2 s3 s4 s5 s6 s7 s8 s10 s11 : List va_E} {V : Nat → Nat → Nat} (imm : Int32) (Im rowm stkm tpm : Nat → Int32) (Tm : Nat → Value) (I : Nat → Int32) (W : Nat → Nat → Int32) (T : Nat → Value) (Ia boa era : Nat → Int32) (hr : jr_ V I W) (hk : jv_ok V) (p : Nat) (hp : p < V 0 1) (hkd : V 1 p = 0) (x : Int32) : jb_C sc yX11_voice cX11_voice 5 (Option.some .int) 4 0 0 [.ref 0, .int (nI p), .int 3, .int x] [jb_main imm Im Tm rowm stkm tpm, jb_sch13 I W T, s2, s3, s4, s5, s6, s7, s8, jb_act Ia boa era, s10, s11] (fun r h9 => r = some (.int ((((x) + (nI p)) * 2) ^^^ ((x) - (nI (V 2 p))))) ∧ ∃ A9, A9 2 = nI 4 ∧ h9 = [jb_main imm Im Tm rowm stkm tpm, jb_sch13 I W T, s2, s3, s4, s5, s6, s7, s8, jb_act A9 (jp_wr boa 0 [13, 11, 10, 12]) era, s10, s11]) := by
  refine jb_CofJ (ini := false) (by decide +kernel) (fun h => by cases h) (Nat.le_of_ble_eq_true rfl) ?_
  show jb_J sc RX11 cX11_voice 5 (Option.some .int) false 4 0 0 0 [some (.ref 0), some (.int (nI p)), some (.int 3), some (.int x), none] [] [jb_main imm Im Tm rowm stkm tpm, jb_sch13 I W T, s2, s3, s4, s5, s6, s7, s8, jb_act Ia boa era, s10, s11] _
  have hr0 := hr
  have hk0 := hk
  obtain ⟨r0, r2, r3, r4, a0, a1, a2, rv, rs, rd⟩ := hr
  obtain ⟨k0, k1, k2, k3, k4, k5, k6, k7, kv, ks, kd⟩ := hk
  have q0 := kv p hp
  refine jb_aload_n (pc' := 1) dX11_voice_0 rfl rfl ?_
  refine jb_iload_n (pc' := 2) dX11_voice_1 rfl rfl ?_
  refine jb_callV (pc' := 5) (ci := 11) (q := 0) (As := [.int (nI p)]) (a2 := 0) (b2 := 0) wv_X11_92 rfl dX11_voice_2 (c_isNoVoiceG imm Im rowm stkm tpm Tm I W T hr0 hk0 p (by omega)) rfl rfl ⟨by decide, Nat.le_of_eq (Nat.zero_add _), Nat.le_of_eq (Nat.zero_add _)⟩ (Nat.le_of_ble_eq_true rfl) rfl (fun r h9 hq => ?_)
  obtain ⟨rfl, rfl⟩ := hq
  show jb_J _ RX11 cX11_voice 5 (Option.some .int) false 4 0 0 5 [some (.ref 0), some (.int (nI p)), some (.int 3), some (.int x), none] [.int 0] [jb_main imm Im Tm rowm stkm tpm, jb_sch13 I W T, s2, s3, s4, s5, s6, s7, s8, jb_act Ia boa era, s10, s11] _
  refine jb_if_ne (tgt := 17) (pc' := 8) dX11_voice_5 (by decide) rfl (fun z => absurd (by decide) z) (fun _ => ?_)
  refine jb_iload_n (pc' := 9) dX11_voice_8 rfl rfl ?_
  refine jb_iconst (pc' := 10) 0 dX11_voice_9 (by decide) rfl ?_
  refine jb_iconst (pc' := 11) 3 dX11_voice_10 (by decide) rfl ?_
  refine jb_callS (pc' := 14) (As := [.int 3, .int 0, .int 3]) (a2 := 0) (b2 := 0) wv_X11_74 dX11_voice_11 (c_isOutLG 3 0 3 (by omega) (by omega) (by omega)) rfl ⟨by decide, Nat.le_of_eq (Nat.zero_add _), Nat.le_of_eq (Nat.zero_add _)⟩ (Nat.le_of_ble_eq_true rfl) rfl (fun r h9 hq => ?_)
  obtain ⟨rfl, rfl⟩ := hq
  show jb_J _ RX11 cX11_voice 5 (Option.some .int) false 4 0 0 14 [some (.ref 0), some (.int (nI p)), some (.int 3), some (.int x), none] [.int 0] [jb_main imm Im Tm rowm stkm tpm, jb_sch13 I W T, s2, s3, s4, s5, s6, s7, s8, jb_act Ia boa era, s10, s11] _
  refine jb_if_eq (tgt := 23) (pc' := 17) dX11_voice_14 (by decide) rfl (fun _ => ?_) (fun z => absurd (by decide) z)
  refine jb_aload_n (pc' := 24) dX11_voice_23 rfl rfl ?_
  refine gf_X11_62 (pc' := 27) (v := .ref 102) dX11_voice_24 rfl rfl rfl ?_
  refine jb_iload_n (pc' := 28) dX11_voice_27 rfl rfl ?_
  refine jb_aload_n (pc' := 29) dX11_voice_28 rfl rfl ?_
  refine gf_X11_42 (pc' := 32) (v := .ref 13) dX11_voice_29 rfl rfl rfl ?_
  refine gf_X11_99 (pc' := 35) (v := .ref 15) dX11_voice_32 rfl rfl rfl ?_
  refine jb_iconst (pc' := 36) 1 dX11_voice_35 (by decide) rfl ?_
  refine jb_aaload (pc' := 37) (i9 := 1) (r := 17) (Or.inl rfl) dX11_voice_36 rfl jb_x1 (by decide) rfl rfl ?_
  refine jb_iload_n (pc' := 38) dX11_voice_37 rfl rfl ?_
  refine jb_iaload (pc' := 39) (i9 := p) (f := (W 2)) dX11_voice_38 rfl (jb_ix_nI (by omega)) (by omega) rfl ?_
  refine jb_top (v := .int ((W 2) p)) (w := .int (nI (V 2 p))) (jb_vI (rv p (by omega)).2.1) ?_
  refine jb_callV (pc' := 42) (ci := 0) (q := 102) (As := [.int (nI p), .int (nI (V 2 p))]) (a2 := 0) (b2 := 0) wv_X11_205 rfl dX11_voice_39 (c_begin imm Im rowm stkm tpm Tm Ia boa era (nI p) (nI (V 2 p))) rfl rfl ⟨by decide, Nat.le_of_eq (Nat.zero_add _), Nat.le_of_eq (Nat.zero_add _)⟩ (Nat.le_of_ble_eq_true rfl) rfl (fun r h9 hq => ?_)
  obtain ⟨rfl, A9, ha, hb, hc, rfl⟩ := hq
  show jb_J _ RX11 cX11_voice 5 (Option.some .int) false 4 0 0 42 [some (.ref 0), some (.int (nI p)), some (.int 3), some (.int x), none] [] [jb_main imm Im Tm rowm stkm tpm, jb_sch13 I W T, s2, s3, s4, s5, s6, s7, s8, jb_act A9 boa era, s10, s11] _
  refine jb_aload_n (pc' := 43) dX11_voice_42 rfl rfl ?_
  refine gf_X11_42 (pc' := 46) (v := .ref 13) dX11_voice_43 rfl rfl rfl ?_
  refine jb_iload_n (pc' := 47) dX11_voice_46 rfl rfl ?_
  refine jb_callV (pc' := 50) (ci := 9) (q := 13) (As := [.int (nI p)]) (a2 := 0) (b2 := 0) wv_X11_209 rfl dX11_voice_47 (c_kindOf_13 imm Im rowm stkm tpm Tm I W T hr0 hk0 p hp) rfl rfl ⟨by decide, Nat.le_of_eq (Nat.zero_add _), Nat.le_of_eq (Nat.zero_add _)⟩ (Nat.le_of_ble_eq_true rfl) rfl (fun r h9 hq => ?_)
  obtain ⟨rfl, rfl⟩ := hq
  rw [hkd]
  show jb_J _ RX11 cX11_voice 5 (Option.some .int) false 4 0 0 50 [some (.ref 0), some (.int (nI p)), some (.int 3), some (.int x), none] [.ref 6] [jb_main imm Im Tm rowm stkm tpm, jb_sch13 I W T, s2, s3, s4, s5, s6, s7, s8, jb_act A9 boa era, s10, s11] _
  refine jb_astore_ (pc' := 52) dX11_voice_50 (by decide) (jb_at4 rfl) rfl ?_
  refine jb_iload_n (pc' := 53) dX11_voice_52 rfl rfl ?_
  refine jb_tableOut (pc' := 113) dX11_voice_53 (by decide) (by decide) ?_
  refine jb_aload (pc' := 115) dX11_voice_113 rfl rfl ?_
  refine jb_aload_n (pc' := 116) dX11_voice_115 rfl rfl ?_
  refine gf_X11_62 (pc' := 119) (v := .ref 102) dX11_voice_116 rfl rfl rfl ?_
  refine jb_iload_n (pc' := 120) dX11_voice_119 rfl rfl ?_
  refine jb_callU (pc' := 123) (ci := 7) (q := 6) (As := [.ref 102, .int x]) (a2 := 0) (b2 := 0) wv_X11_223_X7 rfl dX11_voice_120 (ca_X7_tells_6 imm Im rowm stkm tpm Tm A9 boa era (nI p) (nI (V 2 p)) 0 ha hb hc (by omega) x) rfl rfl ⟨by decide, Nat.le_of_eq (Nat.zero_add _), Nat.le_of_eq (Nat.zero_add _)⟩ (Nat.le_of_ble_eq_true rfl) rfl (fun r h9 hq => ?_)
  obtain ⟨rfl, A8, ha8, hb8, hc8, rfl⟩ := hq
  show jb_J _ RX11 cX11_voice 5 (Option.some .int) false 4 0 0 123 [some (.ref 0), some (.int (nI p)), some (.int 3), some (.int x), some (.ref 6)] [.int ((((x) + (nI p)) * 2) ^^^ ((x) - (nI (V 2 p))))] [jb_main imm Im Tm rowm stkm tpm, jb_sch13 I W T, s2, s3, s4, s5, s6, s7, s8, jb_act A8 (jp_wr boa 0 [13, 11, 10, 12]) era, s10, s11] _
  refine jb_iret dX11_voice_123 rfl ?_
  exact ⟨rfl, A8, by rw [hc8], rfl⟩
set_option maxRecDepth 100000 in
set_option maxHeartbeats 4000000 in
theorem kx_voice0_1 {sc : Nat × (Nat → Int32)} {s2 s3 s4 s5 s6 s7 s8 s10 s11 : List va_E} {V : Nat → Nat → Nat} (imm : Int32) (Im rowm stkm tpm : Nat → Int32) (Tm : Nat → Value) (I : Nat → Int32) (W : Nat → Nat → Int32) (T : Nat → Value) (Ia boa era : Nat → Int32) (hr : jr_ V I W) (hk : jv_ok V) (p : Nat) (hp : p < V 0 1) (hkd : V 1 p = 1) (x : Int32) : jb_C sc yX11_voice cX11_voice 5 (Option.some .int) 2 0 0 [.ref 0, .int (nI p), .int 0, .int x] [jb_main imm Im Tm rowm stkm tpm, jb_sch13 I W T, s2, s3, s4, s5, s6, s7, s8, jb_act Ia boa era, s10, s11] (fun r h9 => r = some (.int ((x) + (nI p))) ∧ ∃ A9, A9 2 = nI 1 ∧ h9 = [jb_main imm Im Tm rowm stkm tpm, jb_sch13 I W T, s2, s3, s4, s5, s6, s7, s8, jb_act A9 (jp_wr boa 0 [10]) era, s10, s11]) := by
  refine jb_CofJ (ini := false) (by decide +kernel) (fun h => by cases h) (Nat.le_of_ble_eq_true rfl) ?_
  show jb_J sc RX11 cX11_voice 5 (Option.some .int) false 2 0 0 0 [some (.ref 0), some (.int (nI p)), some (.int 0), some (.int x), none] [] [jb_main imm Im Tm rowm stkm tpm, jb_sch13 I W T, s2, s3, s4, s5, s6, s7, s8, jb_act Ia boa era, s10, s11] _
  have hr0 := hr
  have hk0 := hk
  obtain ⟨r0, r2, r3, r4, a0, a1, a2, rv, rs, rd⟩ := hr
  obtain ⟨k0, k1, k2, k3, k4, k5, k6, k7, kv, ks, kd⟩ := hk
  have q0 := kv p hp
  refine jb_aload_n (pc' := 1) dX11_voice_0 rfl rfl ?_
  refine jb_iload_n (pc' := 2) dX11_voice_1 rfl rfl ?_
  refine jb_callV (pc' := 5) (ci := 11) (q := 0) (As := [.int (nI p)]) (a2 := 0) (b2 := 0) wv_X11_92 rfl dX11_voice_2 (c_isNoVoiceG imm Im rowm stkm tpm Tm I W T hr0 hk0 p (by omega)) rfl rfl ⟨by decide, Nat.le_of_eq (Nat.zero_add _), Nat.le_of_eq (Nat.zero_add _)⟩ (Nat.le_of_ble_eq_true rfl) rfl (fun r h9 hq => ?_)
  obtain ⟨rfl, rfl⟩ := hq
  show jb_J _ RX11 cX11_voice 5 (Option.some .int) false 2 0 0 5 [some (.ref 0), some (.int (nI p)), some (.int 0), some (.int x), none] [.int 0] [jb_main imm Im Tm rowm stkm tpm, jb_sch13 I W T, s2, s3, s4, s5, s6, s7, s8, jb_act Ia boa era, s10, s11] _
  refine jb_if_ne (tgt := 17) (pc' := 8) dX11_voice_5 (by decide) rfl (fun z => absurd (by decide) z) (fun _ => ?_)
  refine jb_iload_n (pc' := 9) dX11_voice_8 rfl rfl ?_
  refine jb_iconst (pc' := 10) 0 dX11_voice_9 (by decide) rfl ?_
  refine jb_iconst (pc' := 11) 3 dX11_voice_10 (by decide) rfl ?_
  refine jb_callS (pc' := 14) (As := [.int 0, .int 0, .int 3]) (a2 := 0) (b2 := 0) wv_X11_74 dX11_voice_11 (c_isOutLG 0 0 3 (by omega) (by omega) (by omega)) rfl ⟨by decide, Nat.le_of_eq (Nat.zero_add _), Nat.le_of_eq (Nat.zero_add _)⟩ (Nat.le_of_ble_eq_true rfl) rfl (fun r h9 hq => ?_)
  obtain ⟨rfl, rfl⟩ := hq
  show jb_J _ RX11 cX11_voice 5 (Option.some .int) false 2 0 0 14 [some (.ref 0), some (.int (nI p)), some (.int 0), some (.int x), none] [.int 0] [jb_main imm Im Tm rowm stkm tpm, jb_sch13 I W T, s2, s3, s4, s5, s6, s7, s8, jb_act Ia boa era, s10, s11] _
  refine jb_if_eq (tgt := 23) (pc' := 17) dX11_voice_14 (by decide) rfl (fun _ => ?_) (fun z => absurd (by decide) z)
  refine jb_aload_n (pc' := 24) dX11_voice_23 rfl rfl ?_
  refine gf_X11_62 (pc' := 27) (v := .ref 102) dX11_voice_24 rfl rfl rfl ?_
  refine jb_iload_n (pc' := 28) dX11_voice_27 rfl rfl ?_
  refine jb_aload_n (pc' := 29) dX11_voice_28 rfl rfl ?_
  refine gf_X11_42 (pc' := 32) (v := .ref 13) dX11_voice_29 rfl rfl rfl ?_
  refine gf_X11_99 (pc' := 35) (v := .ref 15) dX11_voice_32 rfl rfl rfl ?_
  refine jb_iconst (pc' := 36) 1 dX11_voice_35 (by decide) rfl ?_
  refine jb_aaload (pc' := 37) (i9 := 1) (r := 17) (Or.inl rfl) dX11_voice_36 rfl jb_x1 (by decide) rfl rfl ?_
  refine jb_iload_n (pc' := 38) dX11_voice_37 rfl rfl ?_
  refine jb_iaload (pc' := 39) (i9 := p) (f := (W 2)) dX11_voice_38 rfl (jb_ix_nI (by omega)) (by omega) rfl ?_
  refine jb_top (v := .int ((W 2) p)) (w := .int (nI (V 2 p))) (jb_vI (rv p (by omega)).2.1) ?_
  refine jb_callV (pc' := 42) (ci := 0) (q := 102) (As := [.int (nI p), .int (nI (V 2 p))]) (a2 := 0) (b2 := 0) wv_X11_205 rfl dX11_voice_39 (c_begin imm Im rowm stkm tpm Tm Ia boa era (nI p) (nI (V 2 p))) rfl rfl ⟨by decide, Nat.le_of_eq (Nat.zero_add _), Nat.le_of_eq (Nat.zero_add _)⟩ (Nat.le_of_ble_eq_true rfl) rfl (fun r h9 hq => ?_)
  obtain ⟨rfl, A9, ha, hb, hc, rfl⟩ := hq
  show jb_J _ RX11 cX11_voice 5 (Option.some .int) false 2 0 0 42 [some (.ref 0), some (.int (nI p)), some (.int 0), some (.int x), none] [] [jb_main imm Im Tm rowm stkm tpm, jb_sch13 I W T, s2, s3, s4, s5, s6, s7, s8, jb_act A9 boa era, s10, s11] _
  refine jb_aload_n (pc' := 43) dX11_voice_42 rfl rfl ?_
  refine gf_X11_42 (pc' := 46) (v := .ref 13) dX11_voice_43 rfl rfl rfl ?_
  refine jb_iload_n (pc' := 47) dX11_voice_46 rfl rfl ?_
  refine jb_callV (pc' := 50) (ci := 9) (q := 13) (As := [.int (nI p)]) (a2 := 0) (b2 := 0) wv_X11_209 rfl dX11_voice_47 (c_kindOf_13 imm Im rowm stkm tpm Tm I W T hr0 hk0 p hp) rfl rfl ⟨by decide, Nat.le_of_eq (Nat.zero_add _), Nat.le_of_eq (Nat.zero_add _)⟩ (Nat.le_of_ble_eq_true rfl) rfl (fun r h9 hq => ?_)
  obtain ⟨rfl, rfl⟩ := hq
  rw [hkd]
  show jb_J _ RX11 cX11_voice 5 (Option.some .int) false 2 0 0 50 [some (.ref 0), some (.int (nI p)), some (.int 0), some (.int x), none] [.ref 7] [jb_main imm Im Tm rowm stkm tpm, jb_sch13 I W T, s2, s3, s4, s5, s6, s7, s8, jb_act A9 boa era, s10, s11] _
  refine jb_astore_ (pc' := 52) dX11_voice_50 (by decide) (jb_at4 rfl) rfl ?_
  refine jb_iload_n (pc' := 53) dX11_voice_52 rfl rfl ?_
  refine jb_tableIn (pc' := 80) (off := 27) dX11_voice_53 (by decide) (by decide) (by decide +kernel) (by decide) ?_
  refine jb_aload (pc' := 82) dX11_voice_80 rfl rfl ?_
  refine jb_aload_n (pc' := 83) dX11_voice_82 rfl rfl ?_
  refine gf_X11_62 (pc' := 86) (v := .ref 102) dX11_voice_83 rfl rfl rfl ?_
  refine jb_iload_n (pc' := 87) dX11_voice_86 rfl rfl ?_
  refine jb_callU (pc' := 90) (ci := 2) (q := 7) (As := [.ref 102, .int x]) (a2 := 0) (b2 := 0) wv_X11_213_X2 rfl dX11_voice_87 (ca_X7_calls_7 imm Im rowm stkm tpm Tm A9 boa era (nI p) (nI (V 2 p)) 0 ha hb hc (by omega) x) rfl rfl ⟨by decide, Nat.le_of_eq (Nat.zero_add _), Nat.le_of_eq (Nat.zero_add _)⟩ (Nat.le_of_ble_eq_true rfl) rfl (fun r h9 hq => ?_)
  obtain ⟨rfl, A8, ha8, hb8, hc8, rfl⟩ := hq
  show jb_J _ RX11 cX11_voice 5 (Option.some .int) false 2 0 0 90 [some (.ref 0), some (.int (nI p)), some (.int 0), some (.int x), some (.ref 7)] [.int ((x) + (nI p))] [jb_main imm Im Tm rowm stkm tpm, jb_sch13 I W T, s2, s3, s4, s5, s6, s7, s8, jb_act A8 (jp_wr boa 0 [10]) era, s10, s11] _
  refine jb_iret dX11_voice_90 rfl ?_
  exact ⟨rfl, A8, by rw [hc8], rfl⟩
set_option maxRecDepth 100000 in
set_option maxHeartbeats 4000000 in
theorem kx_voice1_1 {sc : Nat × (Nat → Int32)} {s2 s3 s4 s5 s6 s7 s8 s10 s11 : List va_E} {V : Nat → Nat → Nat} (imm : Int32) (Im rowm stkm tpm : Nat → Int32) (Tm : Nat → Value) (I : Nat → Int32) (W : Nat → Nat → Int32) (T : Nat → Value) (Ia boa era : Nat → Int32) (hr : jr_ V I W) (hk : jv_ok V) (p : Nat) (hp : p < V 0 1) (hkd : V 1 p = 1) (x : Int32) : jb_C sc yX11_voice cX11_voice 5 (Option.some .int) 4 0 0 [.ref 0, .int (nI p), .int 1, .int x] [jb_main imm Im Tm rowm stkm tpm, jb_sch13 I W T, s2, s3, s4, s5, s6, s7, s8, jb_act Ia boa era, s10, s11] (fun r h9 => r = some (.int ((((x) + (nI p)) * 2) - ((1) - (nI (V 2 p))))) ∧ ∃ A9, A9 2 = nI 4 ∧ h9 = [jb_main imm Im Tm rowm stkm tpm, jb_sch13 I W T, s2, s3, s4, s5, s6, s7, s8, jb_act A9 (jp_wr boa 0 [20, 11, 10, 12]) era, s10, s11]) := by
  refine jb_CofJ (ini := false) (by decide +kernel) (fun h => by cases h) (Nat.le_of_ble_eq_true rfl) ?_
  show jb_J sc RX11 cX11_voice 5 (Option.some .int) false 4 0 0 0 [some (.ref 0), some (.int (nI p)), some (.int 1), some (.int x), none] [] [jb_main imm Im Tm rowm stkm tpm, jb_sch13 I W T, s2, s3, s4, s5, s6, s7, s8, jb_act Ia boa era, s10, s11] _
  have hr0 := hr
  have hk0 := hk
  obtain ⟨r0, r2, r3, r4, a0, a1, a2, rv, rs, rd⟩ := hr
  obtain ⟨k0, k1, k2, k3, k4, k5, k6, k7, kv, ks, kd⟩ := hk
  have q0 := kv p hp
  refine jb_aload_n (pc' := 1) dX11_voice_0 rfl rfl ?_
  refine jb_iload_n (pc' := 2) dX11_voice_1 rfl rfl ?_
  refine jb_callV (pc' := 5) (ci := 11) (q := 0) (As := [.int (nI p)]) (a2 := 0) (b2 := 0) wv_X11_92 rfl dX11_voice_2 (c_isNoVoiceG imm Im rowm stkm tpm Tm I W T hr0 hk0 p (by omega)) rfl rfl ⟨by decide, Nat.le_of_eq (Nat.zero_add _), Nat.le_of_eq (Nat.zero_add _)⟩ (Nat.le_of_ble_eq_true rfl) rfl (fun r h9 hq => ?_)
  obtain ⟨rfl, rfl⟩ := hq
  show jb_J _ RX11 cX11_voice 5 (Option.some .int) false 4 0 0 5 [some (.ref 0), some (.int (nI p)), some (.int 1), some (.int x), none] [.int 0] [jb_main imm Im Tm rowm stkm tpm, jb_sch13 I W T, s2, s3, s4, s5, s6, s7, s8, jb_act Ia boa era, s10, s11] _
  refine jb_if_ne (tgt := 17) (pc' := 8) dX11_voice_5 (by decide) rfl (fun z => absurd (by decide) z) (fun _ => ?_)
  refine jb_iload_n (pc' := 9) dX11_voice_8 rfl rfl ?_
  refine jb_iconst (pc' := 10) 0 dX11_voice_9 (by decide) rfl ?_
  refine jb_iconst (pc' := 11) 3 dX11_voice_10 (by decide) rfl ?_
  refine jb_callS (pc' := 14) (As := [.int 1, .int 0, .int 3]) (a2 := 0) (b2 := 0) wv_X11_74 dX11_voice_11 (c_isOutLG 1 0 3 (by omega) (by omega) (by omega)) rfl ⟨by decide, Nat.le_of_eq (Nat.zero_add _), Nat.le_of_eq (Nat.zero_add _)⟩ (Nat.le_of_ble_eq_true rfl) rfl (fun r h9 hq => ?_)
  obtain ⟨rfl, rfl⟩ := hq
  show jb_J _ RX11 cX11_voice 5 (Option.some .int) false 4 0 0 14 [some (.ref 0), some (.int (nI p)), some (.int 1), some (.int x), none] [.int 0] [jb_main imm Im Tm rowm stkm tpm, jb_sch13 I W T, s2, s3, s4, s5, s6, s7, s8, jb_act Ia boa era, s10, s11] _
  refine jb_if_eq (tgt := 23) (pc' := 17) dX11_voice_14 (by decide) rfl (fun _ => ?_) (fun z => absurd (by decide) z)
  refine jb_aload_n (pc' := 24) dX11_voice_23 rfl rfl ?_
  refine gf_X11_62 (pc' := 27) (v := .ref 102) dX11_voice_24 rfl rfl rfl ?_
  refine jb_iload_n (pc' := 28) dX11_voice_27 rfl rfl ?_
  refine jb_aload_n (pc' := 29) dX11_voice_28 rfl rfl ?_
  refine gf_X11_42 (pc' := 32) (v := .ref 13) dX11_voice_29 rfl rfl rfl ?_
  refine gf_X11_99 (pc' := 35) (v := .ref 15) dX11_voice_32 rfl rfl rfl ?_
  refine jb_iconst (pc' := 36) 1 dX11_voice_35 (by decide) rfl ?_
  refine jb_aaload (pc' := 37) (i9 := 1) (r := 17) (Or.inl rfl) dX11_voice_36 rfl jb_x1 (by decide) rfl rfl ?_
  refine jb_iload_n (pc' := 38) dX11_voice_37 rfl rfl ?_
  refine jb_iaload (pc' := 39) (i9 := p) (f := (W 2)) dX11_voice_38 rfl (jb_ix_nI (by omega)) (by omega) rfl ?_
  refine jb_top (v := .int ((W 2) p)) (w := .int (nI (V 2 p))) (jb_vI (rv p (by omega)).2.1) ?_
  refine jb_callV (pc' := 42) (ci := 0) (q := 102) (As := [.int (nI p), .int (nI (V 2 p))]) (a2 := 0) (b2 := 0) wv_X11_205 rfl dX11_voice_39 (c_begin imm Im rowm stkm tpm Tm Ia boa era (nI p) (nI (V 2 p))) rfl rfl ⟨by decide, Nat.le_of_eq (Nat.zero_add _), Nat.le_of_eq (Nat.zero_add _)⟩ (Nat.le_of_ble_eq_true rfl) rfl (fun r h9 hq => ?_)
  obtain ⟨rfl, A9, ha, hb, hc, rfl⟩ := hq
  show jb_J _ RX11 cX11_voice 5 (Option.some .int) false 4 0 0 42 [some (.ref 0), some (.int (nI p)), some (.int 1), some (.int x), none] [] [jb_main imm Im Tm rowm stkm tpm, jb_sch13 I W T, s2, s3, s4, s5, s6, s7, s8, jb_act A9 boa era, s10, s11] _
  refine jb_aload_n (pc' := 43) dX11_voice_42 rfl rfl ?_
  refine gf_X11_42 (pc' := 46) (v := .ref 13) dX11_voice_43 rfl rfl rfl ?_
  refine jb_iload_n (pc' := 47) dX11_voice_46 rfl rfl ?_
  refine jb_callV (pc' := 50) (ci := 9) (q := 13) (As := [.int (nI p)]) (a2 := 0) (b2 := 0) wv_X11_209 rfl dX11_voice_47 (c_kindOf_13 imm Im rowm stkm tpm Tm I W T hr0 hk0 p hp) rfl rfl ⟨by decide, Nat.le_of_eq (Nat.zero_add _), Nat.le_of_eq (Nat.zero_add _)⟩ (Nat.le_of_ble_eq_true rfl) rfl (fun r h9 hq => ?_)
  obtain ⟨rfl, rfl⟩ := hq
  rw [hkd]
  show jb_J _ RX11 cX11_voice 5 (Option.some .int) false 4 0 0 50 [some (.ref 0), some (.int (nI p)), some (.int 1), some (.int x), none] [.ref 7] [jb_main imm Im Tm rowm stkm tpm, jb_sch13 I W T, s2, s3, s4, s5, s6, s7, s8, jb_act A9 boa era, s10, s11] _
  refine jb_astore_ (pc' := 52) dX11_voice_50 (by decide) (jb_at4 rfl) rfl ?_
  refine jb_iload_n (pc' := 53) dX11_voice_52 rfl rfl ?_
  refine jb_tableIn (pc' := 91) (off := 38) dX11_voice_53 (by decide) (by decide) (by decide +kernel) (by decide) ?_
  refine jb_aload (pc' := 93) dX11_voice_91 rfl rfl ?_
  refine jb_aload_n (pc' := 94) dX11_voice_93 rfl rfl ?_
  refine gf_X11_62 (pc' := 97) (v := .ref 102) dX11_voice_94 rfl rfl rfl ?_
  refine jb_iload_n (pc' := 98) dX11_voice_97 rfl rfl ?_
  refine jb_callU (pc' := 101) (ci := 2) (q := 7) (As := [.ref 102, .int x]) (a2 := 0) (b2 := 0) wv_X11_217_X2 rfl dX11_voice_98 (ca_X2_hears_7 imm Im rowm stkm tpm Tm A9 boa era (nI p) (nI (V 2 p)) 0 ha hb hc (by omega) x) rfl rfl ⟨by decide, Nat.le_of_eq (Nat.zero_add _), Nat.le_of_eq (Nat.zero_add _)⟩ (Nat.le_of_ble_eq_true rfl) rfl (fun r h9 hq => ?_)
  obtain ⟨rfl, A8, ha8, hb8, hc8, rfl⟩ := hq
  show jb_J _ RX11 cX11_voice 5 (Option.some .int) false 4 0 0 101 [some (.ref 0), some (.int (nI p)), some (.int 1), some (.int x), some (.ref 7)] [.int ((((x) + (nI p)) * 2) - ((1) - (nI (V 2 p))))] [jb_main imm Im Tm rowm stkm tpm, jb_sch13 I W T, s2, s3, s4, s5, s6, s7, s8, jb_act A8 (jp_wr boa 0 [20, 11, 10, 12]) era, s10, s11] _
  refine jb_iret dX11_voice_101 rfl ?_
  exact ⟨rfl, A8, by rw [hc8], rfl⟩
set_option maxRecDepth 100000 in
set_option maxHeartbeats 4000000 in
theorem kx_voice2_1 {sc : Nat × (Nat → Int32)} {s2 s3 s4 s5 s6 s7 s8 s10 s11 : List va_E} {V : Nat → Nat → Nat} (imm : Int32) (Im rowm stkm tpm : Nat → Int32) (Tm : Nat → Value) (I : Nat → Int32) (W : Nat → Nat → Int32) (T : Nat → Value) (Ia boa era : Nat → Int32) (hr : jr_ V I W) (hk : jv_ok V) (p : Nat) (hp : p < V 0 1) (hkd : V 1 p = 1) (x : Int32) : jb_C sc yX11_voice cX11_voice 5 (Option.some .int) 2 0 0 [.ref 0, .int (nI p), .int 2, .int x] [jb_main imm Im Tm rowm stkm tpm, jb_sch13 I W T, s2, s3, s4, s5, s6, s7, s8, jb_act Ia boa era, s10, s11] (fun r h9 => r = some (.int ((x) - (nI (V 2 p)))) ∧ ∃ A9, A9 2 = nI 1 ∧ h9 = [jb_main imm Im Tm rowm stkm tpm, jb_sch13 I W T, s2, s3, s4, s5, s6, s7, s8, jb_act A9 (jp_wr boa 0 [12]) era, s10, s11]) := by
  refine jb_CofJ (ini := false) (by decide +kernel) (fun h => by cases h) (Nat.le_of_ble_eq_true rfl) ?_
  show jb_J sc RX11 cX11_voice 5 (Option.some .int) false 2 0 0 0 [some (.ref 0), some (.int (nI p)), some (.int 2), some (.int x), none] [] [jb_main imm Im Tm rowm stkm tpm, jb_sch13 I W T, s2, s3, s4, s5, s6, s7, s8, jb_act Ia boa era, s10, s11] _
  have hr0 := hr
  have hk0 := hk
  obtain ⟨r0, r2, r3, r4, a0, a1, a2, rv, rs, rd⟩ := hr
  obtain ⟨k0, k1, k2, k3, k4, k5, k6, k7, kv, ks, kd⟩ := hk
  have q0 := kv p hp
  refine jb_aload_n (pc' := 1) dX11_voice_0 rfl rfl ?_
  refine jb_iload_n (pc' := 2) dX11_voice_1 rfl rfl ?_
  refine jb_callV (pc' := 5) (ci := 11) (q := 0) (As := [.int (nI p)]) (a2 := 0) (b2 := 0) wv_X11_92 rfl dX11_voice_2 (c_isNoVoiceG imm Im rowm stkm tpm Tm I W T hr0 hk0 p (by omega)) rfl rfl ⟨by decide, Nat.le_of_eq (Nat.zero_add _), Nat.le_of_eq (Nat.zero_add _)⟩ (Nat.le_of_ble_eq_true rfl) rfl (fun r h9 hq => ?_)
  obtain ⟨rfl, rfl⟩ := hq
  show jb_J _ RX11 cX11_voice 5 (Option.some .int) false 2 0 0 5 [some (.ref 0), some (.int (nI p)), some (.int 2), some (.int x), none] [.int 0] [jb_main imm Im Tm rowm stkm tpm, jb_sch13 I W T, s2, s3, s4, s5, s6, s7, s8, jb_act Ia boa era, s10, s11] _
  refine jb_if_ne (tgt := 17) (pc' := 8) dX11_voice_5 (by decide) rfl (fun z => absurd (by decide) z) (fun _ => ?_)
  refine jb_iload_n (pc' := 9) dX11_voice_8 rfl rfl ?_
  refine jb_iconst (pc' := 10) 0 dX11_voice_9 (by decide) rfl ?_
  refine jb_iconst (pc' := 11) 3 dX11_voice_10 (by decide) rfl ?_
  refine jb_callS (pc' := 14) (As := [.int 2, .int 0, .int 3]) (a2 := 0) (b2 := 0) wv_X11_74 dX11_voice_11 (c_isOutLG 2 0 3 (by omega) (by omega) (by omega)) rfl ⟨by decide, Nat.le_of_eq (Nat.zero_add _), Nat.le_of_eq (Nat.zero_add _)⟩ (Nat.le_of_ble_eq_true rfl) rfl (fun r h9 hq => ?_)
  obtain ⟨rfl, rfl⟩ := hq
  show jb_J _ RX11 cX11_voice 5 (Option.some .int) false 2 0 0 14 [some (.ref 0), some (.int (nI p)), some (.int 2), some (.int x), none] [.int 0] [jb_main imm Im Tm rowm stkm tpm, jb_sch13 I W T, s2, s3, s4, s5, s6, s7, s8, jb_act Ia boa era, s10, s11] _
  refine jb_if_eq (tgt := 23) (pc' := 17) dX11_voice_14 (by decide) rfl (fun _ => ?_) (fun z => absurd (by decide) z)
  refine jb_aload_n (pc' := 24) dX11_voice_23 rfl rfl ?_
  refine gf_X11_62 (pc' := 27) (v := .ref 102) dX11_voice_24 rfl rfl rfl ?_
  refine jb_iload_n (pc' := 28) dX11_voice_27 rfl rfl ?_
  refine jb_aload_n (pc' := 29) dX11_voice_28 rfl rfl ?_
  refine gf_X11_42 (pc' := 32) (v := .ref 13) dX11_voice_29 rfl rfl rfl ?_
  refine gf_X11_99 (pc' := 35) (v := .ref 15) dX11_voice_32 rfl rfl rfl ?_
  refine jb_iconst (pc' := 36) 1 dX11_voice_35 (by decide) rfl ?_
  refine jb_aaload (pc' := 37) (i9 := 1) (r := 17) (Or.inl rfl) dX11_voice_36 rfl jb_x1 (by decide) rfl rfl ?_
  refine jb_iload_n (pc' := 38) dX11_voice_37 rfl rfl ?_
  refine jb_iaload (pc' := 39) (i9 := p) (f := (W 2)) dX11_voice_38 rfl (jb_ix_nI (by omega)) (by omega) rfl ?_
  refine jb_top (v := .int ((W 2) p)) (w := .int (nI (V 2 p))) (jb_vI (rv p (by omega)).2.1) ?_
  refine jb_callV (pc' := 42) (ci := 0) (q := 102) (As := [.int (nI p), .int (nI (V 2 p))]) (a2 := 0) (b2 := 0) wv_X11_205 rfl dX11_voice_39 (c_begin imm Im rowm stkm tpm Tm Ia boa era (nI p) (nI (V 2 p))) rfl rfl ⟨by decide, Nat.le_of_eq (Nat.zero_add _), Nat.le_of_eq (Nat.zero_add _)⟩ (Nat.le_of_ble_eq_true rfl) rfl (fun r h9 hq => ?_)
  obtain ⟨rfl, A9, ha, hb, hc, rfl⟩ := hq
  show jb_J _ RX11 cX11_voice 5 (Option.some .int) false 2 0 0 42 [some (.ref 0), some (.int (nI p)), some (.int 2), some (.int x), none] [] [jb_main imm Im Tm rowm stkm tpm, jb_sch13 I W T, s2, s3, s4, s5, s6, s7, s8, jb_act A9 boa era, s10, s11] _
  refine jb_aload_n (pc' := 43) dX11_voice_42 rfl rfl ?_
  refine gf_X11_42 (pc' := 46) (v := .ref 13) dX11_voice_43 rfl rfl rfl ?_
  refine jb_iload_n (pc' := 47) dX11_voice_46 rfl rfl ?_
  refine jb_callV (pc' := 50) (ci := 9) (q := 13) (As := [.int (nI p)]) (a2 := 0) (b2 := 0) wv_X11_209 rfl dX11_voice_47 (c_kindOf_13 imm Im rowm stkm tpm Tm I W T hr0 hk0 p hp) rfl rfl ⟨by decide, Nat.le_of_eq (Nat.zero_add _), Nat.le_of_eq (Nat.zero_add _)⟩ (Nat.le_of_ble_eq_true rfl) rfl (fun r h9 hq => ?_)
  obtain ⟨rfl, rfl⟩ := hq
  rw [hkd]
  show jb_J _ RX11 cX11_voice 5 (Option.some .int) false 2 0 0 50 [some (.ref 0), some (.int (nI p)), some (.int 2), some (.int x), none] [.ref 7] [jb_main imm Im Tm rowm stkm tpm, jb_sch13 I W T, s2, s3, s4, s5, s6, s7, s8, jb_act A9 boa era, s10, s11] _
  refine jb_astore_ (pc' := 52) dX11_voice_50 (by decide) (jb_at4 rfl) rfl ?_
  refine jb_iload_n (pc' := 53) dX11_voice_52 rfl rfl ?_
  refine jb_tableIn (pc' := 102) (off := 49) dX11_voice_53 (by decide) (by decide) (by decide +kernel) (by decide) ?_
  refine jb_aload (pc' := 104) dX11_voice_102 rfl rfl ?_
  refine jb_aload_n (pc' := 105) dX11_voice_104 rfl rfl ?_
  refine gf_X11_62 (pc' := 108) (v := .ref 102) dX11_voice_105 rfl rfl rfl ?_
  refine jb_iload_n (pc' := 109) dX11_voice_108 rfl rfl ?_
  refine jb_callU (pc' := 112) (ci := 2) (q := 7) (As := [.ref 102, .int x]) (a2 := 0) (b2 := 0) wv_X11_220_X2 rfl dX11_voice_109 (ca_X7_waits_7 imm Im rowm stkm tpm Tm A9 boa era (nI p) (nI (V 2 p)) 0 ha hb hc (by omega) x) rfl rfl ⟨by decide, Nat.le_of_eq (Nat.zero_add _), Nat.le_of_eq (Nat.zero_add _)⟩ (Nat.le_of_ble_eq_true rfl) rfl (fun r h9 hq => ?_)
  obtain ⟨rfl, A8, ha8, hb8, hc8, rfl⟩ := hq
  show jb_J _ RX11 cX11_voice 5 (Option.some .int) false 2 0 0 112 [some (.ref 0), some (.int (nI p)), some (.int 2), some (.int x), some (.ref 7)] [.int ((x) - (nI (V 2 p)))] [jb_main imm Im Tm rowm stkm tpm, jb_sch13 I W T, s2, s3, s4, s5, s6, s7, s8, jb_act A8 (jp_wr boa 0 [12]) era, s10, s11] _
  refine jb_iret dX11_voice_112 rfl ?_
  exact ⟨rfl, A8, by rw [hc8], rfl⟩
set_option maxRecDepth 100000 in
set_option maxHeartbeats 4000000 in
theorem kx_voice3_1 {sc : Nat × (Nat → Int32)} {s2 s3 s4 s5 s6 s7 s8 s10 s11 : List va_E} {V : Nat → Nat → Nat} (imm : Int32) (Im rowm stkm tpm : Nat → Int32) (Tm : Nat → Value) (I : Nat → Int32) (W : Nat → Nat → Int32) (T : Nat → Value) (Ia boa era : Nat → Int32) (hr : jr_ V I W) (hk : jv_ok V) (p : Nat) (hp : p < V 0 1) (hkd : V 1 p = 1) (x : Int32) : jb_C sc yX11_voice cX11_voice 5 (Option.some .int) 5 0 0 [.ref 0, .int (nI p), .int 3, .int x] [jb_main imm Im Tm rowm stkm tpm, jb_sch13 I W T, s2, s3, s4, s5, s6, s7, s8, jb_act Ia boa era, s10, s11] (fun r h9 => r = some (.int (((((x) + (nI p)) * 2) - ((1) - (nI (V 2 p)))) ^^^ ((x) - (nI (V 2 p))))) ∧ ∃ A9, A9 2 = nI 6 ∧ h9 = [jb_main imm Im Tm rowm stkm tpm, jb_sch13 I W T, s2, s3, s4, s5, s6, s7, s8, jb_act A9 (jp_wr boa 0 [13, 20, 11, 10, 12, 12]) era, s10, s11]) := by
  refine jb_CofJ (ini := false) (by decide +kernel) (fun h => by cases h) (Nat.le_of_ble_eq_true rfl) ?_
  show jb_J sc RX11 cX11_voice 5 (Option.some .int) false 5 0 0 0 [some (.ref 0), some (.int (nI p)), some (.int 3), some (.int x), none] [] [jb_main imm Im Tm rowm stkm tpm, jb_sch13 I W T, s2, s3, s4, s5, s6, s7, s8, jb_act Ia boa era, s10, s11] _
  have hr0 := hr
  have hk0 := hk
  obtain ⟨r0, r2, r3, r4, a0, a1, a2, rv, rs, rd⟩ := hr
  obtain ⟨k0, k1, k2, k3, k4, k5, k6, k7, kv, ks, kd⟩ := hk
  have q0 := kv p hp
  refine jb_aload_n (pc' := 1) dX11_voice_0 rfl rfl ?_
  refine jb_iload_n (pc' := 2) dX11_voice_1 rfl rfl ?_
  refine jb_callV (pc' := 5) (ci := 11) (q := 0) (As := [.int (nI p)]) (a2 := 0) (b2 := 0) wv_X11_92 rfl dX11_voice_2 (c_isNoVoiceG imm Im rowm stkm tpm Tm I W T hr0 hk0 p (by omega)) rfl rfl ⟨by decide, Nat.le_of_eq (Nat.zero_add _), Nat.le_of_eq (Nat.zero_add _)⟩ (Nat.le_of_ble_eq_true rfl) rfl (fun r h9 hq => ?_)
  obtain ⟨rfl, rfl⟩ := hq
  show jb_J _ RX11 cX11_voice 5 (Option.some .int) false 5 0 0 5 [some (.ref 0), some (.int (nI p)), some (.int 3), some (.int x), none] [.int 0] [jb_main imm Im Tm rowm stkm tpm, jb_sch13 I W T, s2, s3, s4, s5, s6, s7, s8, jb_act Ia boa era, s10, s11] _
  refine jb_if_ne (tgt := 17) (pc' := 8) dX11_voice_5 (by decide) rfl (fun z => absurd (by decide) z) (fun _ => ?_)
  refine jb_iload_n (pc' := 9) dX11_voice_8 rfl rfl ?_
  refine jb_iconst (pc' := 10) 0 dX11_voice_9 (by decide) rfl ?_
  refine jb_iconst (pc' := 11) 3 dX11_voice_10 (by decide) rfl ?_
  refine jb_callS (pc' := 14) (As := [.int 3, .int 0, .int 3]) (a2 := 0) (b2 := 0) wv_X11_74 dX11_voice_11 (c_isOutLG 3 0 3 (by omega) (by omega) (by omega)) rfl ⟨by decide, Nat.le_of_eq (Nat.zero_add _), Nat.le_of_eq (Nat.zero_add _)⟩ (Nat.le_of_ble_eq_true rfl) rfl (fun r h9 hq => ?_)
  obtain ⟨rfl, rfl⟩ := hq
  show jb_J _ RX11 cX11_voice 5 (Option.some .int) false 5 0 0 14 [some (.ref 0), some (.int (nI p)), some (.int 3), some (.int x), none] [.int 0] [jb_main imm Im Tm rowm stkm tpm, jb_sch13 I W T, s2, s3, s4, s5, s6, s7, s8, jb_act Ia boa era, s10, s11] _
  refine jb_if_eq (tgt := 23) (pc' := 17) dX11_voice_14 (by decide) rfl (fun _ => ?_) (fun z => absurd (by decide) z)
  refine jb_aload_n (pc' := 24) dX11_voice_23 rfl rfl ?_
  refine gf_X11_62 (pc' := 27) (v := .ref 102) dX11_voice_24 rfl rfl rfl ?_
  refine jb_iload_n (pc' := 28) dX11_voice_27 rfl rfl ?_
  refine jb_aload_n (pc' := 29) dX11_voice_28 rfl rfl ?_
  refine gf_X11_42 (pc' := 32) (v := .ref 13) dX11_voice_29 rfl rfl rfl ?_
  refine gf_X11_99 (pc' := 35) (v := .ref 15) dX11_voice_32 rfl rfl rfl ?_
  refine jb_iconst (pc' := 36) 1 dX11_voice_35 (by decide) rfl ?_
  refine jb_aaload (pc' := 37) (i9 := 1) (r := 17) (Or.inl rfl) dX11_voice_36 rfl jb_x1 (by decide) rfl rfl ?_
  refine jb_iload_n (pc' := 38) dX11_voice_37 rfl rfl ?_
  refine jb_iaload (pc' := 39) (i9 := p) (f := (W 2)) dX11_voice_38 rfl (jb_ix_nI (by omega)) (by omega) rfl ?_
  refine jb_top (v := .int ((W 2) p)) (w := .int (nI (V 2 p))) (jb_vI (rv p (by omega)).2.1) ?_
  refine jb_callV (pc' := 42) (ci := 0) (q := 102) (As := [.int (nI p), .int (nI (V 2 p))]) (a2 := 0) (b2 := 0) wv_X11_205 rfl dX11_voice_39 (c_begin imm Im rowm stkm tpm Tm Ia boa era (nI p) (nI (V 2 p))) rfl rfl ⟨by decide, Nat.le_of_eq (Nat.zero_add _), Nat.le_of_eq (Nat.zero_add _)⟩ (Nat.le_of_ble_eq_true rfl) rfl (fun r h9 hq => ?_)
  obtain ⟨rfl, A9, ha, hb, hc, rfl⟩ := hq
  show jb_J _ RX11 cX11_voice 5 (Option.some .int) false 5 0 0 42 [some (.ref 0), some (.int (nI p)), some (.int 3), some (.int x), none] [] [jb_main imm Im Tm rowm stkm tpm, jb_sch13 I W T, s2, s3, s4, s5, s6, s7, s8, jb_act A9 boa era, s10, s11] _
  refine jb_aload_n (pc' := 43) dX11_voice_42 rfl rfl ?_
  refine gf_X11_42 (pc' := 46) (v := .ref 13) dX11_voice_43 rfl rfl rfl ?_
  refine jb_iload_n (pc' := 47) dX11_voice_46 rfl rfl ?_
  refine jb_callV (pc' := 50) (ci := 9) (q := 13) (As := [.int (nI p)]) (a2 := 0) (b2 := 0) wv_X11_209 rfl dX11_voice_47 (c_kindOf_13 imm Im rowm stkm tpm Tm I W T hr0 hk0 p hp) rfl rfl ⟨by decide, Nat.le_of_eq (Nat.zero_add _), Nat.le_of_eq (Nat.zero_add _)⟩ (Nat.le_of_ble_eq_true rfl) rfl (fun r h9 hq => ?_)
  obtain ⟨rfl, rfl⟩ := hq
  rw [hkd]
  show jb_J _ RX11 cX11_voice 5 (Option.some .int) false 5 0 0 50 [some (.ref 0), some (.int (nI p)), some (.int 3), some (.int x), none] [.ref 7] [jb_main imm Im Tm rowm stkm tpm, jb_sch13 I W T, s2, s3, s4, s5, s6, s7, s8, jb_act A9 boa era, s10, s11] _
  refine jb_astore_ (pc' := 52) dX11_voice_50 (by decide) (jb_at4 rfl) rfl ?_
  refine jb_iload_n (pc' := 53) dX11_voice_52 rfl rfl ?_
  refine jb_tableOut (pc' := 113) dX11_voice_53 (by decide) (by decide) ?_
  refine jb_aload (pc' := 115) dX11_voice_113 rfl rfl ?_
  refine jb_aload_n (pc' := 116) dX11_voice_115 rfl rfl ?_
  refine gf_X11_62 (pc' := 119) (v := .ref 102) dX11_voice_116 rfl rfl rfl ?_
  refine jb_iload_n (pc' := 120) dX11_voice_119 rfl rfl ?_
  refine jb_callU (pc' := 123) (ci := 2) (q := 7) (As := [.ref 102, .int x]) (a2 := 0) (b2 := 0) wv_X11_223_X2 rfl dX11_voice_120 (ca_X7_tells_7 imm Im rowm stkm tpm Tm A9 boa era (nI p) (nI (V 2 p)) 0 ha hb hc (by omega) x) rfl rfl ⟨by decide, Nat.le_of_eq (Nat.zero_add _), Nat.le_of_eq (Nat.zero_add _)⟩ (Nat.le_of_ble_eq_true rfl) rfl (fun r h9 hq => ?_)
  obtain ⟨rfl, A8, ha8, hb8, hc8, rfl⟩ := hq
  show jb_J _ RX11 cX11_voice 5 (Option.some .int) false 5 0 0 123 [some (.ref 0), some (.int (nI p)), some (.int 3), some (.int x), some (.ref 7)] [.int (((((x) + (nI p)) * 2) - ((1) - (nI (V 2 p)))) ^^^ ((x) - (nI (V 2 p))))] [jb_main imm Im Tm rowm stkm tpm, jb_sch13 I W T, s2, s3, s4, s5, s6, s7, s8, jb_act A8 (jp_wr boa 0 [13, 20, 11, 10, 12, 12]) era, s10, s11] _
  refine jb_iret dX11_voice_123 rfl ?_
  exact ⟨rfl, A8, by rw [hc8], rfl⟩
set_option maxRecDepth 100000 in
set_option maxHeartbeats 4000000 in
theorem kx_voice0_2 {sc : Nat × (Nat → Int32)} {s2 s3 s4 s5 s6 s7 s8 s10 s11 : List va_E} {V : Nat → Nat → Nat} (imm : Int32) (Im rowm stkm tpm : Nat → Int32) (Tm : Nat → Value) (I : Nat → Int32) (W : Nat → Nat → Int32) (T : Nat → Value) (Ia boa era : Nat → Int32) (hr : jr_ V I W) (hk : jv_ok V) (p : Nat) (hp : p < V 0 1) (hkd : V 1 p = 2) (x : Int32) : jb_C sc yX11_voice cX11_voice 5 (Option.some .int) 3 0 0 [.ref 0, .int (nI p), .int 0, .int x] [jb_main imm Im Tm rowm stkm tpm, jb_sch13 I W T, s2, s3, s4, s5, s6, s7, s8, jb_act Ia boa era, s10, s11] (fun r h9 => r = some (.int (((x) + (nI p)) * 3)) ∧ ∃ A9, A9 2 = nI 2 ∧ h9 = [jb_main imm Im Tm rowm stkm tpm, jb_sch13 I W T, s2, s3, s4, s5, s6, s7, s8, jb_act A9 (jp_wr boa 0 [30, 10]) era, s10, s11]) := by
  refine jb_CofJ (ini := false) (by decide +kernel) (fun h => by cases h) (Nat.le_of_ble_eq_true rfl) ?_
  show jb_J sc RX11 cX11_voice 5 (Option.some .int) false 3 0 0 0 [some (.ref 0), some (.int (nI p)), some (.int 0), some (.int x), none] [] [jb_main imm Im Tm rowm stkm tpm, jb_sch13 I W T, s2, s3, s4, s5, s6, s7, s8, jb_act Ia boa era, s10, s11] _
  have hr0 := hr
  have hk0 := hk
  obtain ⟨r0, r2, r3, r4, a0, a1, a2, rv, rs, rd⟩ := hr
  obtain ⟨k0, k1, k2, k3, k4, k5, k6, k7, kv, ks, kd⟩ := hk
  have q0 := kv p hp
  refine jb_aload_n (pc' := 1) dX11_voice_0 rfl rfl ?_
  refine jb_iload_n (pc' := 2) dX11_voice_1 rfl rfl ?_
  refine jb_callV (pc' := 5) (ci := 11) (q := 0) (As := [.int (nI p)]) (a2 := 0) (b2 := 0) wv_X11_92 rfl dX11_voice_2 (c_isNoVoiceG imm Im rowm stkm tpm Tm I W T hr0 hk0 p (by omega)) rfl rfl ⟨by decide, Nat.le_of_eq (Nat.zero_add _), Nat.le_of_eq (Nat.zero_add _)⟩ (Nat.le_of_ble_eq_true rfl) rfl (fun r h9 hq => ?_)
  obtain ⟨rfl, rfl⟩ := hq
  show jb_J _ RX11 cX11_voice 5 (Option.some .int) false 3 0 0 5 [some (.ref 0), some (.int (nI p)), some (.int 0), some (.int x), none] [.int 0] [jb_main imm Im Tm rowm stkm tpm, jb_sch13 I W T, s2, s3, s4, s5, s6, s7, s8, jb_act Ia boa era, s10, s11] _
  refine jb_if_ne (tgt := 17) (pc' := 8) dX11_voice_5 (by decide) rfl (fun z => absurd (by decide) z) (fun _ => ?_)
  refine jb_iload_n (pc' := 9) dX11_voice_8 rfl rfl ?_
  refine jb_iconst (pc' := 10) 0 dX11_voice_9 (by decide) rfl ?_
  refine jb_iconst (pc' := 11) 3 dX11_voice_10 (by decide) rfl ?_
  refine jb_callS (pc' := 14) (As := [.int 0, .int 0, .int 3]) (a2 := 0) (b2 := 0) wv_X11_74 dX11_voice_11 (c_isOutLG 0 0 3 (by omega) (by omega) (by omega)) rfl ⟨by decide, Nat.le_of_eq (Nat.zero_add _), Nat.le_of_eq (Nat.zero_add _)⟩ (Nat.le_of_ble_eq_true rfl) rfl (fun r h9 hq => ?_)
  obtain ⟨rfl, rfl⟩ := hq
  show jb_J _ RX11 cX11_voice 5 (Option.some .int) false 3 0 0 14 [some (.ref 0), some (.int (nI p)), some (.int 0), some (.int x), none] [.int 0] [jb_main imm Im Tm rowm stkm tpm, jb_sch13 I W T, s2, s3, s4, s5, s6, s7, s8, jb_act Ia boa era, s10, s11] _
  refine jb_if_eq (tgt := 23) (pc' := 17) dX11_voice_14 (by decide) rfl (fun _ => ?_) (fun z => absurd (by decide) z)
  refine jb_aload_n (pc' := 24) dX11_voice_23 rfl rfl ?_
  refine gf_X11_62 (pc' := 27) (v := .ref 102) dX11_voice_24 rfl rfl rfl ?_
  refine jb_iload_n (pc' := 28) dX11_voice_27 rfl rfl ?_
  refine jb_aload_n (pc' := 29) dX11_voice_28 rfl rfl ?_
  refine gf_X11_42 (pc' := 32) (v := .ref 13) dX11_voice_29 rfl rfl rfl ?_
  refine gf_X11_99 (pc' := 35) (v := .ref 15) dX11_voice_32 rfl rfl rfl ?_
  refine jb_iconst (pc' := 36) 1 dX11_voice_35 (by decide) rfl ?_
  refine jb_aaload (pc' := 37) (i9 := 1) (r := 17) (Or.inl rfl) dX11_voice_36 rfl jb_x1 (by decide) rfl rfl ?_
  refine jb_iload_n (pc' := 38) dX11_voice_37 rfl rfl ?_
  refine jb_iaload (pc' := 39) (i9 := p) (f := (W 2)) dX11_voice_38 rfl (jb_ix_nI (by omega)) (by omega) rfl ?_
  refine jb_top (v := .int ((W 2) p)) (w := .int (nI (V 2 p))) (jb_vI (rv p (by omega)).2.1) ?_
  refine jb_callV (pc' := 42) (ci := 0) (q := 102) (As := [.int (nI p), .int (nI (V 2 p))]) (a2 := 0) (b2 := 0) wv_X11_205 rfl dX11_voice_39 (c_begin imm Im rowm stkm tpm Tm Ia boa era (nI p) (nI (V 2 p))) rfl rfl ⟨by decide, Nat.le_of_eq (Nat.zero_add _), Nat.le_of_eq (Nat.zero_add _)⟩ (Nat.le_of_ble_eq_true rfl) rfl (fun r h9 hq => ?_)
  obtain ⟨rfl, A9, ha, hb, hc, rfl⟩ := hq
  show jb_J _ RX11 cX11_voice 5 (Option.some .int) false 3 0 0 42 [some (.ref 0), some (.int (nI p)), some (.int 0), some (.int x), none] [] [jb_main imm Im Tm rowm stkm tpm, jb_sch13 I W T, s2, s3, s4, s5, s6, s7, s8, jb_act A9 boa era, s10, s11] _
  refine jb_aload_n (pc' := 43) dX11_voice_42 rfl rfl ?_
  refine gf_X11_42 (pc' := 46) (v := .ref 13) dX11_voice_43 rfl rfl rfl ?_
  refine jb_iload_n (pc' := 47) dX11_voice_46 rfl rfl ?_
  refine jb_callV (pc' := 50) (ci := 9) (q := 13) (As := [.int (nI p)]) (a2 := 0) (b2 := 0) wv_X11_209 rfl dX11_voice_47 (c_kindOf_13 imm Im rowm stkm tpm Tm I W T hr0 hk0 p hp) rfl rfl ⟨by decide, Nat.le_of_eq (Nat.zero_add _), Nat.le_of_eq (Nat.zero_add _)⟩ (Nat.le_of_ble_eq_true rfl) rfl (fun r h9 hq => ?_)
  obtain ⟨rfl, rfl⟩ := hq
  rw [hkd]
  show jb_J _ RX11 cX11_voice 5 (Option.some .int) false 3 0 0 50 [some (.ref 0), some (.int (nI p)), some (.int 0), some (.int x), none] [.ref 8] [jb_main imm Im Tm rowm stkm tpm, jb_sch13 I W T, s2, s3, s4, s5, s6, s7, s8, jb_act A9 boa era, s10, s11] _
  refine jb_astore_ (pc' := 52) dX11_voice_50 (by decide) (jb_at4 rfl) rfl ?_
  refine jb_iload_n (pc' := 53) dX11_voice_52 rfl rfl ?_
  refine jb_tableIn (pc' := 80) (off := 27) dX11_voice_53 (by decide) (by decide) (by decide +kernel) (by decide) ?_
  refine jb_aload (pc' := 82) dX11_voice_80 rfl rfl ?_
  refine jb_aload_n (pc' := 83) dX11_voice_82 rfl rfl ?_
  refine gf_X11_62 (pc' := 86) (v := .ref 102) dX11_voice_83 rfl rfl rfl ?_
  refine jb_iload_n (pc' := 87) dX11_voice_86 rfl rfl ?_
  refine jb_callU (pc' := 90) (ci := 5) (q := 8) (As := [.ref 102, .int x]) (a2 := 0) (b2 := 0) wv_X11_213_X5 rfl dX11_voice_87 (ca_X5_calls_8 imm Im rowm stkm tpm Tm A9 boa era (nI p) (nI (V 2 p)) 0 ha hb hc (by omega) x) rfl rfl ⟨by decide, Nat.le_of_eq (Nat.zero_add _), Nat.le_of_eq (Nat.zero_add _)⟩ (Nat.le_of_ble_eq_true rfl) rfl (fun r h9 hq => ?_)
  obtain ⟨rfl, A8, ha8, hb8, hc8, rfl⟩ := hq
  show jb_J _ RX11 cX11_voice 5 (Option.some .int) false 3 0 0 90 [some (.ref 0), some (.int (nI p)), some (.int 0), some (.int x), some (.ref 8)] [.int (((x) + (nI p)) * 3)] [jb_main imm Im Tm rowm stkm tpm, jb_sch13 I W T, s2, s3, s4, s5, s6, s7, s8, jb_act A8 (jp_wr boa 0 [30, 10]) era, s10, s11] _
  refine jb_iret dX11_voice_90 rfl ?_
  exact ⟨rfl, A8, by rw [hc8], rfl⟩
set_option maxRecDepth 100000 in
set_option maxHeartbeats 4000000 in
theorem kx_voice1_2 {sc : Nat × (Nat → Int32)} {s2 s3 s4 s5 s6 s7 s8 s10 s11 : List va_E} {V : Nat → Nat → Nat} (imm : Int32) (Im rowm stkm tpm : Nat → Int32) (Tm : Nat → Value) (I : Nat → Int32) (W : Nat → Nat → Int32) (T : Nat → Value) (Ia boa era : Nat → Int32) (hr : jr_ V I W) (hk : jv_ok V) (p : Nat) (hp : p < V 0 1) (hkd : V 1 p = 2) (x : Int32) : jb_C sc yX11_voice cX11_voice 5 (Option.some .int) 4 0 0 [.ref 0, .int (nI p), .int 1, .int x] [jb_main imm Im Tm rowm stkm tpm, jb_sch13 I W T, s2, s3, s4, s5, s6, s7, s8, jb_act Ia boa era, s10, s11] (fun r h9 => r = some (.int ((((x) + (nI p)) * 3) * 2)) ∧ ∃ A9, A9 2 = nI 3 ∧ h9 = [jb_main imm Im Tm rowm stkm tpm, jb_sch13 I W T, s2, s3, s4, s5, s6, s7, s8, jb_act A9 (jp_wr boa 0 [11, 30, 10]) era, s10, s11]) := by
  refine jb_CofJ (ini := false) (by decide +kernel) (fun h => by cases h) (Nat.le_of_ble_eq_true rfl) ?_
  show jb_J sc RX11 cX11_voice 5 (Option.some .int) false 4 0 0 0 [some (.ref 0), some (.int (nI p)), some (.int 1), some (.int x), none] [] [jb_main imm Im Tm rowm stkm tpm, jb_sch13 I W T, s2, s3, s4, s5, s6, s7, s8, jb_act Ia boa era, s10, s11] _
  have hr0 := hr
  have hk0 := hk
  obtain ⟨r0, r2, r3, r4, a0, a1, a2, rv, rs, rd⟩ := hr
  obtain ⟨k0, k1, k2, k3, k4, k5, k6, k7, kv, ks, kd⟩ := hk
  have q0 := kv p hp
  refine jb_aload_n (pc' := 1) dX11_voice_0 rfl rfl ?_
  refine jb_iload_n (pc' := 2) dX11_voice_1 rfl rfl ?_
  refine jb_callV (pc' := 5) (ci := 11) (q := 0) (As := [.int (nI p)]) (a2 := 0) (b2 := 0) wv_X11_92 rfl dX11_voice_2 (c_isNoVoiceG imm Im rowm stkm tpm Tm I W T hr0 hk0 p (by omega)) rfl rfl ⟨by decide, Nat.le_of_eq (Nat.zero_add _), Nat.le_of_eq (Nat.zero_add _)⟩ (Nat.le_of_ble_eq_true rfl) rfl (fun r h9 hq => ?_)
  obtain ⟨rfl, rfl⟩ := hq
  show jb_J _ RX11 cX11_voice 5 (Option.some .int) false 4 0 0 5 [some (.ref 0), some (.int (nI p)), some (.int 1), some (.int x), none] [.int 0] [jb_main imm Im Tm rowm stkm tpm, jb_sch13 I W T, s2, s3, s4, s5, s6, s7, s8, jb_act Ia boa era, s10, s11] _
  refine jb_if_ne (tgt := 17) (pc' := 8) dX11_voice_5 (by decide) rfl (fun z => absurd (by decide) z) (fun _ => ?_)
  refine jb_iload_n (pc' := 9) dX11_voice_8 rfl rfl ?_
  refine jb_iconst (pc' := 10) 0 dX11_voice_9 (by decide) rfl ?_
  refine jb_iconst (pc' := 11) 3 dX11_voice_10 (by decide) rfl ?_
  refine jb_callS (pc' := 14) (As := [.int 1, .int 0, .int 3]) (a2 := 0) (b2 := 0) wv_X11_74 dX11_voice_11 (c_isOutLG 1 0 3 (by omega) (by omega) (by omega)) rfl ⟨by decide, Nat.le_of_eq (Nat.zero_add _), Nat.le_of_eq (Nat.zero_add _)⟩ (Nat.le_of_ble_eq_true rfl) rfl (fun r h9 hq => ?_)
  obtain ⟨rfl, rfl⟩ := hq
  show jb_J _ RX11 cX11_voice 5 (Option.some .int) false 4 0 0 14 [some (.ref 0), some (.int (nI p)), some (.int 1), some (.int x), none] [.int 0] [jb_main imm Im Tm rowm stkm tpm, jb_sch13 I W T, s2, s3, s4, s5, s6, s7, s8, jb_act Ia boa era, s10, s11] _
  refine jb_if_eq (tgt := 23) (pc' := 17) dX11_voice_14 (by decide) rfl (fun _ => ?_) (fun z => absurd (by decide) z)
  refine jb_aload_n (pc' := 24) dX11_voice_23 rfl rfl ?_
  refine gf_X11_62 (pc' := 27) (v := .ref 102) dX11_voice_24 rfl rfl rfl ?_
  refine jb_iload_n (pc' := 28) dX11_voice_27 rfl rfl ?_
  refine jb_aload_n (pc' := 29) dX11_voice_28 rfl rfl ?_
  refine gf_X11_42 (pc' := 32) (v := .ref 13) dX11_voice_29 rfl rfl rfl ?_
  refine gf_X11_99 (pc' := 35) (v := .ref 15) dX11_voice_32 rfl rfl rfl ?_
  refine jb_iconst (pc' := 36) 1 dX11_voice_35 (by decide) rfl ?_
  refine jb_aaload (pc' := 37) (i9 := 1) (r := 17) (Or.inl rfl) dX11_voice_36 rfl jb_x1 (by decide) rfl rfl ?_
  refine jb_iload_n (pc' := 38) dX11_voice_37 rfl rfl ?_
  refine jb_iaload (pc' := 39) (i9 := p) (f := (W 2)) dX11_voice_38 rfl (jb_ix_nI (by omega)) (by omega) rfl ?_
  refine jb_top (v := .int ((W 2) p)) (w := .int (nI (V 2 p))) (jb_vI (rv p (by omega)).2.1) ?_
  refine jb_callV (pc' := 42) (ci := 0) (q := 102) (As := [.int (nI p), .int (nI (V 2 p))]) (a2 := 0) (b2 := 0) wv_X11_205 rfl dX11_voice_39 (c_begin imm Im rowm stkm tpm Tm Ia boa era (nI p) (nI (V 2 p))) rfl rfl ⟨by decide, Nat.le_of_eq (Nat.zero_add _), Nat.le_of_eq (Nat.zero_add _)⟩ (Nat.le_of_ble_eq_true rfl) rfl (fun r h9 hq => ?_)
  obtain ⟨rfl, A9, ha, hb, hc, rfl⟩ := hq
  show jb_J _ RX11 cX11_voice 5 (Option.some .int) false 4 0 0 42 [some (.ref 0), some (.int (nI p)), some (.int 1), some (.int x), none] [] [jb_main imm Im Tm rowm stkm tpm, jb_sch13 I W T, s2, s3, s4, s5, s6, s7, s8, jb_act A9 boa era, s10, s11] _
  refine jb_aload_n (pc' := 43) dX11_voice_42 rfl rfl ?_
  refine gf_X11_42 (pc' := 46) (v := .ref 13) dX11_voice_43 rfl rfl rfl ?_
  refine jb_iload_n (pc' := 47) dX11_voice_46 rfl rfl ?_
  refine jb_callV (pc' := 50) (ci := 9) (q := 13) (As := [.int (nI p)]) (a2 := 0) (b2 := 0) wv_X11_209 rfl dX11_voice_47 (c_kindOf_13 imm Im rowm stkm tpm Tm I W T hr0 hk0 p hp) rfl rfl ⟨by decide, Nat.le_of_eq (Nat.zero_add _), Nat.le_of_eq (Nat.zero_add _)⟩ (Nat.le_of_ble_eq_true rfl) rfl (fun r h9 hq => ?_)
  obtain ⟨rfl, rfl⟩ := hq
  rw [hkd]
  show jb_J _ RX11 cX11_voice 5 (Option.some .int) false 4 0 0 50 [some (.ref 0), some (.int (nI p)), some (.int 1), some (.int x), none] [.ref 8] [jb_main imm Im Tm rowm stkm tpm, jb_sch13 I W T, s2, s3, s4, s5, s6, s7, s8, jb_act A9 boa era, s10, s11] _
  refine jb_astore_ (pc' := 52) dX11_voice_50 (by decide) (jb_at4 rfl) rfl ?_
  refine jb_iload_n (pc' := 53) dX11_voice_52 rfl rfl ?_
  refine jb_tableIn (pc' := 91) (off := 38) dX11_voice_53 (by decide) (by decide) (by decide +kernel) (by decide) ?_
  refine jb_aload (pc' := 93) dX11_voice_91 rfl rfl ?_
  refine jb_aload_n (pc' := 94) dX11_voice_93 rfl rfl ?_
  refine gf_X11_62 (pc' := 97) (v := .ref 102) dX11_voice_94 rfl rfl rfl ?_
  refine jb_iload_n (pc' := 98) dX11_voice_97 rfl rfl ?_
  refine jb_callU (pc' := 101) (ci := 5) (q := 8) (As := [.ref 102, .int x]) (a2 := 0) (b2 := 0) wv_X11_217_X5 rfl dX11_voice_98 (ca_X7_hears_8 imm Im rowm stkm tpm Tm A9 boa era (nI p) (nI (V 2 p)) 0 ha hb hc (by omega) x) rfl rfl ⟨by decide, Nat.le_of_eq (Nat.zero_add _), Nat.le_of_eq (Nat.zero_add _)⟩ (Nat.le_of_ble_eq_true rfl) rfl (fun r h9 hq => ?_)
  obtain ⟨rfl, A8, ha8, hb8, hc8, rfl⟩ := hq
  show jb_J _ RX11 cX11_voice 5 (Option.some .int) false 4 0 0 101 [some (.ref 0), some (.int (nI p)), some (.int 1), some (.int x), some (.ref 8)] [.int ((((x) + (nI p)) * 3) * 2)] [jb_main imm Im Tm rowm stkm tpm, jb_sch13 I W T, s2, s3, s4, s5, s6, s7, s8, jb_act A8 (jp_wr boa 0 [11, 30, 10]) era, s10, s11] _
  refine jb_iret dX11_voice_101 rfl ?_
  exact ⟨rfl, A8, by rw [hc8], rfl⟩
set_option maxRecDepth 100000 in
set_option maxHeartbeats 4000000 in
theorem kx_voice2_2 {sc : Nat × (Nat → Int32)} {s2 s3 s4 s5 s6 s7 s8 s10 s11 : List va_E} {V : Nat → Nat → Nat} (imm : Int32) (Im rowm stkm tpm : Nat → Int32) (Tm : Nat → Value) (I : Nat → Int32) (W : Nat → Nat → Int32) (T : Nat → Value) (Ia boa era : Nat → Int32) (hr : jr_ V I W) (hk : jv_ok V) (p : Nat) (hp : p < V 0 1) (hkd : V 1 p = 2) (x : Int32) : jb_C sc yX11_voice cX11_voice 5 (Option.some .int) 2 0 0 [.ref 0, .int (nI p), .int 2, .int x] [jb_main imm Im Tm rowm stkm tpm, jb_sch13 I W T, s2, s3, s4, s5, s6, s7, s8, jb_act Ia boa era, s10, s11] (fun r h9 => r = some (.int ((x) - (nI (V 2 p)))) ∧ ∃ A9, A9 2 = nI 1 ∧ h9 = [jb_main imm Im Tm rowm stkm tpm, jb_sch13 I W T, s2, s3, s4, s5, s6, s7, s8, jb_act A9 (jp_wr boa 0 [12]) era, s10, s11]) := by
  refine jb_CofJ (ini := false) (by decide +kernel) (fun h => by cases h) (Nat.le_of_ble_eq_true rfl) ?_
  show jb_J sc RX11 cX11_voice 5 (Option.some .int) false 2 0 0 0 [some (.ref 0), some (.int (nI p)), some (.int 2), some (.int x), none] [] [jb_main imm Im Tm rowm stkm tpm, jb_sch13 I W T, s2, s3, s4, s5, s6, s7, s8, jb_act Ia boa era, s10, s11] _
  have hr0 := hr
  have hk0 := hk
  obtain ⟨r0, r2, r3, r4, a0, a1, a2, rv, rs, rd⟩ := hr
  obtain ⟨k0, k1, k2, k3, k4, k5, k6, k7, kv, ks, kd⟩ := hk
  have q0 := kv p hp
  refine jb_aload_n (pc' := 1) dX11_voice_0 rfl rfl ?_
  refine jb_iload_n (pc' := 2) dX11_voice_1 rfl rfl ?_
  refine jb_callV (pc' := 5) (ci := 11) (q := 0) (As := [.int (nI p)]) (a2 := 0) (b2 := 0) wv_X11_92 rfl dX11_voice_2 (c_isNoVoiceG imm Im rowm stkm tpm Tm I W T hr0 hk0 p (by omega)) rfl rfl ⟨by decide, Nat.le_of_eq (Nat.zero_add _), Nat.le_of_eq (Nat.zero_add _)⟩ (Nat.le_of_ble_eq_true rfl) rfl (fun r h9 hq => ?_)
  obtain ⟨rfl, rfl⟩ := hq
  show jb_J _ RX11 cX11_voice 5 (Option.some .int) false 2 0 0 5 [some (.ref 0), some (.int (nI p)), some (.int 2), some (.int x), none] [.int 0] [jb_main imm Im Tm rowm stkm tpm, jb_sch13 I W T, s2, s3, s4, s5, s6, s7, s8, jb_act Ia boa era, s10, s11] _
  refine jb_if_ne (tgt := 17) (pc' := 8) dX11_voice_5 (by decide) rfl (fun z => absurd (by decide) z) (fun _ => ?_)
  refine jb_iload_n (pc' := 9) dX11_voice_8 rfl rfl ?_
  refine jb_iconst (pc' := 10) 0 dX11_voice_9 (by decide) rfl ?_
  refine jb_iconst (pc' := 11) 3 dX11_voice_10 (by decide) rfl ?_
  refine jb_callS (pc' := 14) (As := [.int 2, .int 0, .int 3]) (a2 := 0) (b2 := 0) wv_X11_74 dX11_voice_11 (c_isOutLG 2 0 3 (by omega) (by omega) (by omega)) rfl ⟨by decide, Nat.le_of_eq (Nat.zero_add _), Nat.le_of_eq (Nat.zero_add _)⟩ (Nat.le_of_ble_eq_true rfl) rfl (fun r h9 hq => ?_)
  obtain ⟨rfl, rfl⟩ := hq
  show jb_J _ RX11 cX11_voice 5 (Option.some .int) false 2 0 0 14 [some (.ref 0), some (.int (nI p)), some (.int 2), some (.int x), none] [.int 0] [jb_main imm Im Tm rowm stkm tpm, jb_sch13 I W T, s2, s3, s4, s5, s6, s7, s8, jb_act Ia boa era, s10, s11] _
  refine jb_if_eq (tgt := 23) (pc' := 17) dX11_voice_14 (by decide) rfl (fun _ => ?_) (fun z => absurd (by decide) z)
  refine jb_aload_n (pc' := 24) dX11_voice_23 rfl rfl ?_
  refine gf_X11_62 (pc' := 27) (v := .ref 102) dX11_voice_24 rfl rfl rfl ?_
  refine jb_iload_n (pc' := 28) dX11_voice_27 rfl rfl ?_
  refine jb_aload_n (pc' := 29) dX11_voice_28 rfl rfl ?_
  refine gf_X11_42 (pc' := 32) (v := .ref 13) dX11_voice_29 rfl rfl rfl ?_
  refine gf_X11_99 (pc' := 35) (v := .ref 15) dX11_voice_32 rfl rfl rfl ?_
  refine jb_iconst (pc' := 36) 1 dX11_voice_35 (by decide) rfl ?_
  refine jb_aaload (pc' := 37) (i9 := 1) (r := 17) (Or.inl rfl) dX11_voice_36 rfl jb_x1 (by decide) rfl rfl ?_
  refine jb_iload_n (pc' := 38) dX11_voice_37 rfl rfl ?_
  refine jb_iaload (pc' := 39) (i9 := p) (f := (W 2)) dX11_voice_38 rfl (jb_ix_nI (by omega)) (by omega) rfl ?_
  refine jb_top (v := .int ((W 2) p)) (w := .int (nI (V 2 p))) (jb_vI (rv p (by omega)).2.1) ?_
  refine jb_callV (pc' := 42) (ci := 0) (q := 102) (As := [.int (nI p), .int (nI (V 2 p))]) (a2 := 0) (b2 := 0) wv_X11_205 rfl dX11_voice_39 (c_begin imm Im rowm stkm tpm Tm Ia boa era (nI p) (nI (V 2 p))) rfl rfl ⟨by decide, Nat.le_of_eq (Nat.zero_add _), Nat.le_of_eq (Nat.zero_add _)⟩ (Nat.le_of_ble_eq_true rfl) rfl (fun r h9 hq => ?_)
  obtain ⟨rfl, A9, ha, hb, hc, rfl⟩ := hq
  show jb_J _ RX11 cX11_voice 5 (Option.some .int) false 2 0 0 42 [some (.ref 0), some (.int (nI p)), some (.int 2), some (.int x), none] [] [jb_main imm Im Tm rowm stkm tpm, jb_sch13 I W T, s2, s3, s4, s5, s6, s7, s8, jb_act A9 boa era, s10, s11] _
  refine jb_aload_n (pc' := 43) dX11_voice_42 rfl rfl ?_
  refine gf_X11_42 (pc' := 46) (v := .ref 13) dX11_voice_43 rfl rfl rfl ?_
  refine jb_iload_n (pc' := 47) dX11_voice_46 rfl rfl ?_
  refine jb_callV (pc' := 50) (ci := 9) (q := 13) (As := [.int (nI p)]) (a2 := 0) (b2 := 0) wv_X11_209 rfl dX11_voice_47 (c_kindOf_13 imm Im rowm stkm tpm Tm I W T hr0 hk0 p hp) rfl rfl ⟨by decide, Nat.le_of_eq (Nat.zero_add _), Nat.le_of_eq (Nat.zero_add _)⟩ (Nat.le_of_ble_eq_true rfl) rfl (fun r h9 hq => ?_)
  obtain ⟨rfl, rfl⟩ := hq
  rw [hkd]
  show jb_J _ RX11 cX11_voice 5 (Option.some .int) false 2 0 0 50 [some (.ref 0), some (.int (nI p)), some (.int 2), some (.int x), none] [.ref 8] [jb_main imm Im Tm rowm stkm tpm, jb_sch13 I W T, s2, s3, s4, s5, s6, s7, s8, jb_act A9 boa era, s10, s11] _
  refine jb_astore_ (pc' := 52) dX11_voice_50 (by decide) (jb_at4 rfl) rfl ?_
  refine jb_iload_n (pc' := 53) dX11_voice_52 rfl rfl ?_
  refine jb_tableIn (pc' := 102) (off := 49) dX11_voice_53 (by decide) (by decide) (by decide +kernel) (by decide) ?_
  refine jb_aload (pc' := 104) dX11_voice_102 rfl rfl ?_
  refine jb_aload_n (pc' := 105) dX11_voice_104 rfl rfl ?_
  refine gf_X11_62 (pc' := 108) (v := .ref 102) dX11_voice_105 rfl rfl rfl ?_
  refine jb_iload_n (pc' := 109) dX11_voice_108 rfl rfl ?_
  refine jb_callU (pc' := 112) (ci := 5) (q := 8) (As := [.ref 102, .int x]) (a2 := 0) (b2 := 0) wv_X11_220_X5 rfl dX11_voice_109 (ca_X7_waits_8 imm Im rowm stkm tpm Tm A9 boa era (nI p) (nI (V 2 p)) 0 ha hb hc (by omega) x) rfl rfl ⟨by decide, Nat.le_of_eq (Nat.zero_add _), Nat.le_of_eq (Nat.zero_add _)⟩ (Nat.le_of_ble_eq_true rfl) rfl (fun r h9 hq => ?_)
  obtain ⟨rfl, A8, ha8, hb8, hc8, rfl⟩ := hq
  show jb_J _ RX11 cX11_voice 5 (Option.some .int) false 2 0 0 112 [some (.ref 0), some (.int (nI p)), some (.int 2), some (.int x), some (.ref 8)] [.int ((x) - (nI (V 2 p)))] [jb_main imm Im Tm rowm stkm tpm, jb_sch13 I W T, s2, s3, s4, s5, s6, s7, s8, jb_act A8 (jp_wr boa 0 [12]) era, s10, s11] _
  refine jb_iret dX11_voice_112 rfl ?_
  exact ⟨rfl, A8, by rw [hc8], rfl⟩
set_option maxRecDepth 100000 in
set_option maxHeartbeats 4000000 in
theorem kx_voice3_2 {sc : Nat × (Nat → Int32)} {s2 s3 s4 s5 s6 s7 s8 s10 s11 : List va_E} {V : Nat → Nat → Nat} (imm : Int32) (Im rowm stkm tpm : Nat → Int32) (Tm : Nat → Value) (I : Nat → Int32) (W : Nat → Nat → Int32) (T : Nat → Value) (Ia boa era : Nat → Int32) (hr : jr_ V I W) (hk : jv_ok V) (p : Nat) (hp : p < V 0 1) (hkd : V 1 p = 2) (x : Int32) : jb_C sc yX11_voice cX11_voice 5 (Option.some .int) 5 0 0 [.ref 0, .int (nI p), .int 3, .int x] [jb_main imm Im Tm rowm stkm tpm, jb_sch13 I W T, s2, s3, s4, s5, s6, s7, s8, jb_act Ia boa era, s10, s11] (fun r h9 => r = some (.int (((((x) + (nI p)) * 3) * 2) ^^^ ((x) - (nI (V 2 p))))) ∧ ∃ A9, A9 2 = nI 5 ∧ h9 = [jb_main imm Im Tm rowm stkm tpm, jb_sch13 I W T, s2, s3, s4, s5, s6, s7, s8, jb_act A9 (jp_wr boa 0 [13, 11, 30, 10, 12]) era, s10, s11]) := by
  refine jb_CofJ (ini := false) (by decide +kernel) (fun h => by cases h) (Nat.le_of_ble_eq_true rfl) ?_
  show jb_J sc RX11 cX11_voice 5 (Option.some .int) false 5 0 0 0 [some (.ref 0), some (.int (nI p)), some (.int 3), some (.int x), none] [] [jb_main imm Im Tm rowm stkm tpm, jb_sch13 I W T, s2, s3, s4, s5, s6, s7, s8, jb_act Ia boa era, s10, s11] _
  have hr0 := hr
  have hk0 := hk
  obtain ⟨r0, r2, r3, r4, a0, a1, a2, rv, rs, rd⟩ := hr
  obtain ⟨k0, k1, k2, k3, k4, k5, k6, k7, kv, ks, kd⟩ := hk
  have q0 := kv p hp
  refine jb_aload_n (pc' := 1) dX11_voice_0 rfl rfl ?_
  refine jb_iload_n (pc' := 2) dX11_voice_1 rfl rfl ?_
  refine jb_callV (pc' := 5) (ci := 11) (q := 0) (As := [.int (nI p)]) (a2 := 0) (b2 := 0) wv_X11_92 rfl dX11_voice_2 (c_isNoVoiceG imm Im rowm stkm tpm Tm I W T hr0 hk0 p (by omega)) rfl rfl ⟨by decide, Nat.le_of_eq (Nat.zero_add _), Nat.le_of_eq (Nat.zero_add _)⟩ (Nat.le_of_ble_eq_true rfl) rfl (fun r h9 hq => ?_)
  obtain ⟨rfl, rfl⟩ := hq
  show jb_J _ RX11 cX11_voice 5 (Option.some .int) false 5 0 0 5 [some (.ref 0), some (.int (nI p)), some (.int 3), some (.int x), none] [.int 0] [jb_main imm Im Tm rowm stkm tpm, jb_sch13 I W T, s2, s3, s4, s5, s6, s7, s8, jb_act Ia boa era, s10, s11] _
  refine jb_if_ne (tgt := 17) (pc' := 8) dX11_voice_5 (by decide) rfl (fun z => absurd (by decide) z) (fun _ => ?_)
  refine jb_iload_n (pc' := 9) dX11_voice_8 rfl rfl ?_
  refine jb_iconst (pc' := 10) 0 dX11_voice_9 (by decide) rfl ?_
  refine jb_iconst (pc' := 11) 3 dX11_voice_10 (by decide) rfl ?_
  refine jb_callS (pc' := 14) (As := [.int 3, .int 0, .int 3]) (a2 := 0) (b2 := 0) wv_X11_74 dX11_voice_11 (c_isOutLG 3 0 3 (by omega) (by omega) (by omega)) rfl ⟨by decide, Nat.le_of_eq (Nat.zero_add _), Nat.le_of_eq (Nat.zero_add _)⟩ (Nat.le_of_ble_eq_true rfl) rfl (fun r h9 hq => ?_)
  obtain ⟨rfl, rfl⟩ := hq
  show jb_J _ RX11 cX11_voice 5 (Option.some .int) false 5 0 0 14 [some (.ref 0), some (.int (nI p)), some (.int 3), some (.int x), none] [.int 0] [jb_main imm Im Tm rowm stkm tpm, jb_sch13 I W T, s2, s3, s4, s5, s6, s7, s8, jb_act Ia boa era, s10, s11] _
  refine jb_if_eq (tgt := 23) (pc' := 17) dX11_voice_14 (by decide) rfl (fun _ => ?_) (fun z => absurd (by decide) z)
  refine jb_aload_n (pc' := 24) dX11_voice_23 rfl rfl ?_
  refine gf_X11_62 (pc' := 27) (v := .ref 102) dX11_voice_24 rfl rfl rfl ?_
  refine jb_iload_n (pc' := 28) dX11_voice_27 rfl rfl ?_
  refine jb_aload_n (pc' := 29) dX11_voice_28 rfl rfl ?_
  refine gf_X11_42 (pc' := 32) (v := .ref 13) dX11_voice_29 rfl rfl rfl ?_
  refine gf_X11_99 (pc' := 35) (v := .ref 15) dX11_voice_32 rfl rfl rfl ?_
  refine jb_iconst (pc' := 36) 1 dX11_voice_35 (by decide) rfl ?_
  refine jb_aaload (pc' := 37) (i9 := 1) (r := 17) (Or.inl rfl) dX11_voice_36 rfl jb_x1 (by decide) rfl rfl ?_
  refine jb_iload_n (pc' := 38) dX11_voice_37 rfl rfl ?_
  refine jb_iaload (pc' := 39) (i9 := p) (f := (W 2)) dX11_voice_38 rfl (jb_ix_nI (by omega)) (by omega) rfl ?_
  refine jb_top (v := .int ((W 2) p)) (w := .int (nI (V 2 p))) (jb_vI (rv p (by omega)).2.1) ?_
  refine jb_callV (pc' := 42) (ci := 0) (q := 102) (As := [.int (nI p), .int (nI (V 2 p))]) (a2 := 0) (b2 := 0) wv_X11_205 rfl dX11_voice_39 (c_begin imm Im rowm stkm tpm Tm Ia boa era (nI p) (nI (V 2 p))) rfl rfl ⟨by decide, Nat.le_of_eq (Nat.zero_add _), Nat.le_of_eq (Nat.zero_add _)⟩ (Nat.le_of_ble_eq_true rfl) rfl (fun r h9 hq => ?_)
  obtain ⟨rfl, A9, ha, hb, hc, rfl⟩ := hq
  show jb_J _ RX11 cX11_voice 5 (Option.some .int) false 5 0 0 42 [some (.ref 0), some (.int (nI p)), some (.int 3), some (.int x), none] [] [jb_main imm Im Tm rowm stkm tpm, jb_sch13 I W T, s2, s3, s4, s5, s6, s7, s8, jb_act A9 boa era, s10, s11] _
  refine jb_aload_n (pc' := 43) dX11_voice_42 rfl rfl ?_
  refine gf_X11_42 (pc' := 46) (v := .ref 13) dX11_voice_43 rfl rfl rfl ?_
  refine jb_iload_n (pc' := 47) dX11_voice_46 rfl rfl ?_
  refine jb_callV (pc' := 50) (ci := 9) (q := 13) (As := [.int (nI p)]) (a2 := 0) (b2 := 0) wv_X11_209 rfl dX11_voice_47 (c_kindOf_13 imm Im rowm stkm tpm Tm I W T hr0 hk0 p hp) rfl rfl ⟨by decide, Nat.le_of_eq (Nat.zero_add _), Nat.le_of_eq (Nat.zero_add _)⟩ (Nat.le_of_ble_eq_true rfl) rfl (fun r h9 hq => ?_)
  obtain ⟨rfl, rfl⟩ := hq
  rw [hkd]
  show jb_J _ RX11 cX11_voice 5 (Option.some .int) false 5 0 0 50 [some (.ref 0), some (.int (nI p)), some (.int 3), some (.int x), none] [.ref 8] [jb_main imm Im Tm rowm stkm tpm, jb_sch13 I W T, s2, s3, s4, s5, s6, s7, s8, jb_act A9 boa era, s10, s11] _
  refine jb_astore_ (pc' := 52) dX11_voice_50 (by decide) (jb_at4 rfl) rfl ?_
  refine jb_iload_n (pc' := 53) dX11_voice_52 rfl rfl ?_
  refine jb_tableOut (pc' := 113) dX11_voice_53 (by decide) (by decide) ?_
  refine jb_aload (pc' := 115) dX11_voice_113 rfl rfl ?_
  refine jb_aload_n (pc' := 116) dX11_voice_115 rfl rfl ?_
  refine gf_X11_62 (pc' := 119) (v := .ref 102) dX11_voice_116 rfl rfl rfl ?_
  refine jb_iload_n (pc' := 120) dX11_voice_119 rfl rfl ?_
  refine jb_callU (pc' := 123) (ci := 5) (q := 8) (As := [.ref 102, .int x]) (a2 := 0) (b2 := 0) wv_X11_223_X5 rfl dX11_voice_120 (ca_X7_tells_8 imm Im rowm stkm tpm Tm A9 boa era (nI p) (nI (V 2 p)) 0 ha hb hc (by omega) x) rfl rfl ⟨by decide, Nat.le_of_eq (Nat.zero_add _), Nat.le_of_eq (Nat.zero_add _)⟩ (Nat.le_of_ble_eq_true rfl) rfl (fun r h9 hq => ?_)
  obtain ⟨rfl, A8, ha8, hb8, hc8, rfl⟩ := hq
  show jb_J _ RX11 cX11_voice 5 (Option.some .int) false 5 0 0 123 [some (.ref 0), some (.int (nI p)), some (.int 3), some (.int x), some (.ref 8)] [.int (((((x) + (nI p)) * 3) * 2) ^^^ ((x) - (nI (V 2 p))))] [jb_main imm Im Tm rowm stkm tpm, jb_sch13 I W T, s2, s3, s4, s5, s6, s7, s8, jb_act A8 (jp_wr boa 0 [13, 11, 30, 10, 12]) era, s10, s11] _
  refine jb_iret dX11_voice_123 rfl ?_
  exact ⟨rfl, A8, by rw [hc8], rfl⟩
set_option maxRecDepth 100000 in
set_option maxHeartbeats 4000000 in
theorem kx_voice0_3 {sc : Nat × (Nat → Int32)} {s2 s3 s4 s5 s6 s7 s8 s10 s11 : List va_E} {V : Nat → Nat → Nat} (imm : Int32) (Im rowm stkm tpm : Nat → Int32) (Tm : Nat → Value) (I : Nat → Int32) (W : Nat → Nat → Int32) (T : Nat → Value) (Ia boa era : Nat → Int32) (hr : jr_ V I W) (hk : jv_ok V) (p : Nat) (hp : p < V 0 1) (hkd : V 1 p = 3) (x : Int32) : jb_C sc yX11_voice cX11_voice 5 (Option.some .int) 2 0 0 [.ref 0, .int (nI p), .int 0, .int x] [jb_main imm Im Tm rowm stkm tpm, jb_sch13 I W T, s2, s3, s4, s5, s6, s7, s8, jb_act Ia boa era, s10, s11] (fun r h9 => r = some (.int ((x) + (nI p))) ∧ ∃ A9, A9 2 = nI 1 ∧ h9 = [jb_main imm Im Tm rowm stkm tpm, jb_sch13 I W T, s2, s3, s4, s5, s6, s7, s8, jb_act A9 (jp_wr boa 0 [10]) era, s10, s11]) := by
  refine jb_CofJ (ini := false) (by decide +kernel) (fun h => by cases h) (Nat.le_of_ble_eq_true rfl) ?_
  show jb_J sc RX11 cX11_voice 5 (Option.some .int) false 2 0 0 0 [some (.ref 0), some (.int (nI p)), some (.int 0), some (.int x), none] [] [jb_main imm Im Tm rowm stkm tpm, jb_sch13 I W T, s2, s3, s4, s5, s6, s7, s8, jb_act Ia boa era, s10, s11] _
  have hr0 := hr
  have hk0 := hk
  obtain ⟨r0, r2, r3, r4, a0, a1, a2, rv, rs, rd⟩ := hr
  obtain ⟨k0, k1, k2, k3, k4, k5, k6, k7, kv, ks, kd⟩ := hk
  have q0 := kv p hp
  refine jb_aload_n (pc' := 1) dX11_voice_0 rfl rfl ?_
  refine jb_iload_n (pc' := 2) dX11_voice_1 rfl rfl ?_
  refine jb_callV (pc' := 5) (ci := 11) (q := 0) (As := [.int (nI p)]) (a2 := 0) (b2 := 0) wv_X11_92 rfl dX11_voice_2 (c_isNoVoiceG imm Im rowm stkm tpm Tm I W T hr0 hk0 p (by omega)) rfl rfl ⟨by decide, Nat.le_of_eq (Nat.zero_add _), Nat.le_of_eq (Nat.zero_add _)⟩ (Nat.le_of_ble_eq_true rfl) rfl (fun r h9 hq => ?_)
  obtain ⟨rfl, rfl⟩ := hq
  show jb_J _ RX11 cX11_voice 5 (Option.some .int) false 2 0 0 5 [some (.ref 0), some (.int (nI p)), some (.int 0), some (.int x), none] [.int 0] [jb_main imm Im Tm rowm stkm tpm, jb_sch13 I W T, s2, s3, s4, s5, s6, s7, s8, jb_act Ia boa era, s10, s11] _
  refine jb_if_ne (tgt := 17) (pc' := 8) dX11_voice_5 (by decide) rfl (fun z => absurd (by decide) z) (fun _ => ?_)
  refine jb_iload_n (pc' := 9) dX11_voice_8 rfl rfl ?_
  refine jb_iconst (pc' := 10) 0 dX11_voice_9 (by decide) rfl ?_
  refine jb_iconst (pc' := 11) 3 dX11_voice_10 (by decide) rfl ?_
  refine jb_callS (pc' := 14) (As := [.int 0, .int 0, .int 3]) (a2 := 0) (b2 := 0) wv_X11_74 dX11_voice_11 (c_isOutLG 0 0 3 (by omega) (by omega) (by omega)) rfl ⟨by decide, Nat.le_of_eq (Nat.zero_add _), Nat.le_of_eq (Nat.zero_add _)⟩ (Nat.le_of_ble_eq_true rfl) rfl (fun r h9 hq => ?_)
  obtain ⟨rfl, rfl⟩ := hq
  show jb_J _ RX11 cX11_voice 5 (Option.some .int) false 2 0 0 14 [some (.ref 0), some (.int (nI p)), some (.int 0), some (.int x), none] [.int 0] [jb_main imm Im Tm rowm stkm tpm, jb_sch13 I W T, s2, s3, s4, s5, s6, s7, s8, jb_act Ia boa era, s10, s11] _
  refine jb_if_eq (tgt := 23) (pc' := 17) dX11_voice_14 (by decide) rfl (fun _ => ?_) (fun z => absurd (by decide) z)
  refine jb_aload_n (pc' := 24) dX11_voice_23 rfl rfl ?_
  refine gf_X11_62 (pc' := 27) (v := .ref 102) dX11_voice_24 rfl rfl rfl ?_
  refine jb_iload_n (pc' := 28) dX11_voice_27 rfl rfl ?_
  refine jb_aload_n (pc' := 29) dX11_voice_28 rfl rfl ?_
  refine gf_X11_42 (pc' := 32) (v := .ref 13) dX11_voice_29 rfl rfl rfl ?_
  refine gf_X11_99 (pc' := 35) (v := .ref 15) dX11_voice_32 rfl rfl rfl ?_
  refine jb_iconst (pc' := 36) 1 dX11_voice_35 (by decide) rfl ?_
  refine jb_aaload (pc' := 37) (i9 := 1) (r := 17) (Or.inl rfl) dX11_voice_36 rfl jb_x1 (by decide) rfl rfl ?_
  refine jb_iload_n (pc' := 38) dX11_voice_37 rfl rfl ?_
  refine jb_iaload (pc' := 39) (i9 := p) (f := (W 2)) dX11_voice_38 rfl (jb_ix_nI (by omega)) (by omega) rfl ?_
  refine jb_top (v := .int ((W 2) p)) (w := .int (nI (V 2 p))) (jb_vI (rv p (by omega)).2.1) ?_
  refine jb_callV (pc' := 42) (ci := 0) (q := 102) (As := [.int (nI p), .int (nI (V 2 p))]) (a2 := 0) (b2 := 0) wv_X11_205 rfl dX11_voice_39 (c_begin imm Im rowm stkm tpm Tm Ia boa era (nI p) (nI (V 2 p))) rfl rfl ⟨by decide, Nat.le_of_eq (Nat.zero_add _), Nat.le_of_eq (Nat.zero_add _)⟩ (Nat.le_of_ble_eq_true rfl) rfl (fun r h9 hq => ?_)
  obtain ⟨rfl, A9, ha, hb, hc, rfl⟩ := hq
  show jb_J _ RX11 cX11_voice 5 (Option.some .int) false 2 0 0 42 [some (.ref 0), some (.int (nI p)), some (.int 0), some (.int x), none] [] [jb_main imm Im Tm rowm stkm tpm, jb_sch13 I W T, s2, s3, s4, s5, s6, s7, s8, jb_act A9 boa era, s10, s11] _
  refine jb_aload_n (pc' := 43) dX11_voice_42 rfl rfl ?_
  refine gf_X11_42 (pc' := 46) (v := .ref 13) dX11_voice_43 rfl rfl rfl ?_
  refine jb_iload_n (pc' := 47) dX11_voice_46 rfl rfl ?_
  refine jb_callV (pc' := 50) (ci := 9) (q := 13) (As := [.int (nI p)]) (a2 := 0) (b2 := 0) wv_X11_209 rfl dX11_voice_47 (c_kindOf_13 imm Im rowm stkm tpm Tm I W T hr0 hk0 p hp) rfl rfl ⟨by decide, Nat.le_of_eq (Nat.zero_add _), Nat.le_of_eq (Nat.zero_add _)⟩ (Nat.le_of_ble_eq_true rfl) rfl (fun r h9 hq => ?_)
  obtain ⟨rfl, rfl⟩ := hq
  rw [hkd]
  show jb_J _ RX11 cX11_voice 5 (Option.some .int) false 2 0 0 50 [some (.ref 0), some (.int (nI p)), some (.int 0), some (.int x), none] [.ref 9] [jb_main imm Im Tm rowm stkm tpm, jb_sch13 I W T, s2, s3, s4, s5, s6, s7, s8, jb_act A9 boa era, s10, s11] _
  refine jb_astore_ (pc' := 52) dX11_voice_50 (by decide) (jb_at4 rfl) rfl ?_
  refine jb_iload_n (pc' := 53) dX11_voice_52 rfl rfl ?_
  refine jb_tableIn (pc' := 80) (off := 27) dX11_voice_53 (by decide) (by decide) (by decide +kernel) (by decide) ?_
  refine jb_aload (pc' := 82) dX11_voice_80 rfl rfl ?_
  refine jb_aload_n (pc' := 83) dX11_voice_82 rfl rfl ?_
  refine gf_X11_62 (pc' := 86) (v := .ref 102) dX11_voice_83 rfl rfl rfl ?_
  refine jb_iload_n (pc' := 87) dX11_voice_86 rfl rfl ?_
  refine jb_callU (pc' := 90) (ci := 6) (q := 9) (As := [.ref 102, .int x]) (a2 := 0) (b2 := 0) wv_X11_213_X6 rfl dX11_voice_87 (ca_X7_calls_9 imm Im rowm stkm tpm Tm A9 boa era (nI p) (nI (V 2 p)) 0 ha hb hc (by omega) x) rfl rfl ⟨by decide, Nat.le_of_eq (Nat.zero_add _), Nat.le_of_eq (Nat.zero_add _)⟩ (Nat.le_of_ble_eq_true rfl) rfl (fun r h9 hq => ?_)
  obtain ⟨rfl, A8, ha8, hb8, hc8, rfl⟩ := hq
  show jb_J _ RX11 cX11_voice 5 (Option.some .int) false 2 0 0 90 [some (.ref 0), some (.int (nI p)), some (.int 0), some (.int x), some (.ref 9)] [.int ((x) + (nI p))] [jb_main imm Im Tm rowm stkm tpm, jb_sch13 I W T, s2, s3, s4, s5, s6, s7, s8, jb_act A8 (jp_wr boa 0 [10]) era, s10, s11] _
  refine jb_iret dX11_voice_90 rfl ?_
  exact ⟨rfl, A8, by rw [hc8], rfl⟩
set_option maxRecDepth 100000 in
set_option maxHeartbeats 4000000 in
theorem kx_voice1_3 {sc : Nat × (Nat → Int32)} {s2 s3 s4 s5 s6 s7 s8 s10 s11 : List va_E} {V : Nat → Nat → Nat} (imm : Int32) (Im rowm stkm tpm : Nat → Int32) (Tm : Nat → Value) (I : Nat → Int32) (W : Nat → Nat → Int32) (T : Nat → Value) (Ia boa era : Nat → Int32) (hr : jr_ V I W) (hk : jv_ok V) (p : Nat) (hp : p < V 0 1) (hkd : V 1 p = 3) (x : Int32) : jb_C sc yX11_voice cX11_voice 5 (Option.some .int) 3 0 0 [.ref 0, .int (nI p), .int 1, .int x] [jb_main imm Im Tm rowm stkm tpm, jb_sch13 I W T, s2, s3, s4, s5, s6, s7, s8, jb_act Ia boa era, s10, s11] (fun r h9 => r = some (.int (((x) + (nI p)) * 2)) ∧ ∃ A9, A9 2 = nI 2 ∧ h9 = [jb_main imm Im Tm rowm stkm tpm, jb_sch13 I W T, s2, s3, s4, s5, s6, s7, s8, jb_act A9 (jp_wr boa 0 [11, 10]) era, s10, s11]) := by
  refine jb_CofJ (ini := false) (by decide +kernel) (fun h => by cases h) (Nat.le_of_ble_eq_true rfl) ?_
  show jb_J sc RX11 cX11_voice 5 (Option.some .int) false 3 0 0 0 [some (.ref 0), some (.int (nI p)), some (.int 1), some (.int x), none] [] [jb_main imm Im Tm rowm stkm tpm, jb_sch13 I W T, s2, s3, s4, s5, s6, s7, s8, jb_act Ia boa era, s10, s11] _
  have hr0 := hr
  have hk0 := hk
  obtain ⟨r0, r2, r3, r4, a0, a1, a2, rv, rs, rd⟩ := hr
  obtain ⟨k0, k1, k2, k3, k4, k5, k6, k7, kv, ks, kd⟩ := hk
  have q0 := kv p hp
  refine jb_aload_n (pc' := 1) dX11_voice_0 rfl rfl ?_
  refine jb_iload_n (pc' := 2) dX11_voice_1 rfl rfl ?_
  refine jb_callV (pc' := 5) (ci := 11) (q := 0) (As := [.int (nI p)]) (a2 := 0) (b2 := 0) wv_X11_92 rfl dX11_voice_2 (c_isNoVoiceG imm Im rowm stkm tpm Tm I W T hr0 hk0 p (by omega)) rfl rfl ⟨by decide, Nat.le_of_eq (Nat.zero_add _), Nat.le_of_eq (Nat.zero_add _)⟩ (Nat.le_of_ble_eq_true rfl) rfl (fun r h9 hq => ?_)
  obtain ⟨rfl, rfl⟩ := hq
  show jb_J _ RX11 cX11_voice 5 (Option.some .int) false 3 0 0 5 [some (.ref 0), some (.int (nI p)), some (.int 1), some (.int x), none] [.int 0] [jb_main imm Im Tm rowm stkm tpm, jb_sch13 I W T, s2, s3, s4, s5, s6, s7, s8, jb_act Ia boa era, s10, s11] _
  refine jb_if_ne (tgt := 17) (pc' := 8) dX11_voice_5 (by decide) rfl (fun z => absurd (by decide) z) (fun _ => ?_)
  refine jb_iload_n (pc' := 9) dX11_voice_8 rfl rfl ?_
  refine jb_iconst (pc' := 10) 0 dX11_voice_9 (by decide) rfl ?_
  refine jb_iconst (pc' := 11) 3 dX11_voice_10 (by decide) rfl ?_
  refine jb_callS (pc' := 14) (As := [.int 1, .int 0, .int 3]) (a2 := 0) (b2 := 0) wv_X11_74 dX11_voice_11 (c_isOutLG 1 0 3 (by omega) (by omega) (by omega)) rfl ⟨by decide, Nat.le_of_eq (Nat.zero_add _), Nat.le_of_eq (Nat.zero_add _)⟩ (Nat.le_of_ble_eq_true rfl) rfl (fun r h9 hq => ?_)
  obtain ⟨rfl, rfl⟩ := hq
  show jb_J _ RX11 cX11_voice 5 (Option.some .int) false 3 0 0 14 [some (.ref 0), some (.int (nI p)), some (.int 1), some (.int x), none] [.int 0] [jb_main imm Im Tm rowm stkm tpm, jb_sch13 I W T, s2, s3, s4, s5, s6, s7, s8, jb_act Ia boa era, s10, s11] _
  refine jb_if_eq (tgt := 23) (pc' := 17) dX11_voice_14 (by decide) rfl (fun _ => ?_) (fun z => absurd (by decide) z)
  refine jb_aload_n (pc' := 24) dX11_voice_23 rfl rfl ?_
  refine gf_X11_62 (pc' := 27) (v := .ref 102) dX11_voice_24 rfl rfl rfl ?_
  refine jb_iload_n (pc' := 28) dX11_voice_27 rfl rfl ?_
  refine jb_aload_n (pc' := 29) dX11_voice_28 rfl rfl ?_
  refine gf_X11_42 (pc' := 32) (v := .ref 13) dX11_voice_29 rfl rfl rfl ?_
  refine gf_X11_99 (pc' := 35) (v := .ref 15) dX11_voice_32 rfl rfl rfl ?_
  refine jb_iconst (pc' := 36) 1 dX11_voice_35 (by decide) rfl ?_
  refine jb_aaload (pc' := 37) (i9 := 1) (r := 17) (Or.inl rfl) dX11_voice_36 rfl jb_x1 (by decide) rfl rfl ?_
  refine jb_iload_n (pc' := 38) dX11_voice_37 rfl rfl ?_
  refine jb_iaload (pc' := 39) (i9 := p) (f := (W 2)) dX11_voice_38 rfl (jb_ix_nI (by omega)) (by omega) rfl ?_
  refine jb_top (v := .int ((W 2) p)) (w := .int (nI (V 2 p))) (jb_vI (rv p (by omega)).2.1) ?_
  refine jb_callV (pc' := 42) (ci := 0) (q := 102) (As := [.int (nI p), .int (nI (V 2 p))]) (a2 := 0) (b2 := 0) wv_X11_205 rfl dX11_voice_39 (c_begin imm Im rowm stkm tpm Tm Ia boa era (nI p) (nI (V 2 p))) rfl rfl ⟨by decide, Nat.le_of_eq (Nat.zero_add _), Nat.le_of_eq (Nat.zero_add _)⟩ (Nat.le_of_ble_eq_true rfl) rfl (fun r h9 hq => ?_)
  obtain ⟨rfl, A9, ha, hb, hc, rfl⟩ := hq
  show jb_J _ RX11 cX11_voice 5 (Option.some .int) false 3 0 0 42 [some (.ref 0), some (.int (nI p)), some (.int 1), some (.int x), none] [] [jb_main imm Im Tm rowm stkm tpm, jb_sch13 I W T, s2, s3, s4, s5, s6, s7, s8, jb_act A9 boa era, s10, s11] _
  refine jb_aload_n (pc' := 43) dX11_voice_42 rfl rfl ?_
  refine gf_X11_42 (pc' := 46) (v := .ref 13) dX11_voice_43 rfl rfl rfl ?_
  refine jb_iload_n (pc' := 47) dX11_voice_46 rfl rfl ?_
  refine jb_callV (pc' := 50) (ci := 9) (q := 13) (As := [.int (nI p)]) (a2 := 0) (b2 := 0) wv_X11_209 rfl dX11_voice_47 (c_kindOf_13 imm Im rowm stkm tpm Tm I W T hr0 hk0 p hp) rfl rfl ⟨by decide, Nat.le_of_eq (Nat.zero_add _), Nat.le_of_eq (Nat.zero_add _)⟩ (Nat.le_of_ble_eq_true rfl) rfl (fun r h9 hq => ?_)
  obtain ⟨rfl, rfl⟩ := hq
  rw [hkd]
  show jb_J _ RX11 cX11_voice 5 (Option.some .int) false 3 0 0 50 [some (.ref 0), some (.int (nI p)), some (.int 1), some (.int x), none] [.ref 9] [jb_main imm Im Tm rowm stkm tpm, jb_sch13 I W T, s2, s3, s4, s5, s6, s7, s8, jb_act A9 boa era, s10, s11] _
  refine jb_astore_ (pc' := 52) dX11_voice_50 (by decide) (jb_at4 rfl) rfl ?_
  refine jb_iload_n (pc' := 53) dX11_voice_52 rfl rfl ?_
  refine jb_tableIn (pc' := 91) (off := 38) dX11_voice_53 (by decide) (by decide) (by decide +kernel) (by decide) ?_
  refine jb_aload (pc' := 93) dX11_voice_91 rfl rfl ?_
  refine jb_aload_n (pc' := 94) dX11_voice_93 rfl rfl ?_
  refine gf_X11_62 (pc' := 97) (v := .ref 102) dX11_voice_94 rfl rfl rfl ?_
  refine jb_iload_n (pc' := 98) dX11_voice_97 rfl rfl ?_
  refine jb_callU (pc' := 101) (ci := 6) (q := 9) (As := [.ref 102, .int x]) (a2 := 0) (b2 := 0) wv_X11_217_X6 rfl dX11_voice_98 (ca_X7_hears_9 imm Im rowm stkm tpm Tm A9 boa era (nI p) (nI (V 2 p)) 0 ha hb hc (by omega) x) rfl rfl ⟨by decide, Nat.le_of_eq (Nat.zero_add _), Nat.le_of_eq (Nat.zero_add _)⟩ (Nat.le_of_ble_eq_true rfl) rfl (fun r h9 hq => ?_)
  obtain ⟨rfl, A8, ha8, hb8, hc8, rfl⟩ := hq
  show jb_J _ RX11 cX11_voice 5 (Option.some .int) false 3 0 0 101 [some (.ref 0), some (.int (nI p)), some (.int 1), some (.int x), some (.ref 9)] [.int (((x) + (nI p)) * 2)] [jb_main imm Im Tm rowm stkm tpm, jb_sch13 I W T, s2, s3, s4, s5, s6, s7, s8, jb_act A8 (jp_wr boa 0 [11, 10]) era, s10, s11] _
  refine jb_iret dX11_voice_101 rfl ?_
  exact ⟨rfl, A8, by rw [hc8], rfl⟩
set_option maxRecDepth 100000 in
set_option maxHeartbeats 4000000 in
theorem kx_voice2_3 {sc : Nat × (Nat → Int32)} {s2 s3 s4 s5 s6 s7 s8 s10 s11 : List va_E} {V : Nat → Nat → Nat} (imm : Int32) (Im rowm stkm tpm : Nat → Int32) (Tm : Nat → Value) (I : Nat → Int32) (W : Nat → Nat → Int32) (T : Nat → Value) (Ia boa era : Nat → Int32) (hr : jr_ V I W) (hk : jv_ok V) (p : Nat) (hp : p < V 0 1) (hkd : V 1 p = 3) (x : Int32) : jb_C sc yX11_voice cX11_voice 5 (Option.some .int) 3 0 0 [.ref 0, .int (nI p), .int 2, .int x] [jb_main imm Im Tm rowm stkm tpm, jb_sch13 I W T, s2, s3, s4, s5, s6, s7, s8, jb_act Ia boa era, s10, s11] (fun r h9 => r = some (.int (-((x) - (nI (V 2 p))))) ∧ ∃ A9, A9 2 = nI 2 ∧ h9 = [jb_main imm Im Tm rowm stkm tpm, jb_sch13 I W T, s2, s3, s4, s5, s6, s7, s8, jb_act A9 (jp_wr boa 0 [40, 12]) era, s10, s11]) := by
  refine jb_CofJ (ini := false) (by decide +kernel) (fun h => by cases h) (Nat.le_of_ble_eq_true rfl) ?_
  show jb_J sc RX11 cX11_voice 5 (Option.some .int) false 3 0 0 0 [some (.ref 0), some (.int (nI p)), some (.int 2), some (.int x), none] [] [jb_main imm Im Tm rowm stkm tpm, jb_sch13 I W T, s2, s3, s4, s5, s6, s7, s8, jb_act Ia boa era, s10, s11] _
  have hr0 := hr
  have hk0 := hk
  obtain ⟨r0, r2, r3, r4, a0, a1, a2, rv, rs, rd⟩ := hr
  obtain ⟨k0, k1, k2, k3, k4, k5, k6, k7, kv, ks, kd⟩ := hk
  have q0 := kv p hp
  refine jb_aload_n (pc' := 1) dX11_voice_0 rfl rfl ?_
  refine jb_iload_n (pc' := 2) dX11_voice_1 rfl rfl ?_
  refine jb_callV (pc' := 5) (ci := 11) (q := 0) (As := [.int (nI p)]) (a2 := 0) (b2 := 0) wv_X11_92 rfl dX11_voice_2 (c_isNoVoiceG imm Im rowm stkm tpm Tm I W T hr0 hk0 p (by omega)) rfl rfl ⟨by decide, Nat.le_of_eq (Nat.zero_add _), Nat.le_of_eq (Nat.zero_add _)⟩ (Nat.le_of_ble_eq_true rfl) rfl (fun r h9 hq => ?_)
  obtain ⟨rfl, rfl⟩ := hq
  show jb_J _ RX11 cX11_voice 5 (Option.some .int) false 3 0 0 5 [some (.ref 0), some (.int (nI p)), some (.int 2), some (.int x), none] [.int 0] [jb_main imm Im Tm rowm stkm tpm, jb_sch13 I W T, s2, s3, s4, s5, s6, s7, s8, jb_act Ia boa era, s10, s11] _
  refine jb_if_ne (tgt := 17) (pc' := 8) dX11_voice_5 (by decide) rfl (fun z => absurd (by decide) z) (fun _ => ?_)
  refine jb_iload_n (pc' := 9) dX11_voice_8 rfl rfl ?_
  refine jb_iconst (pc' := 10) 0 dX11_voice_9 (by decide) rfl ?_
  refine jb_iconst (pc' := 11) 3 dX11_voice_10 (by decide) rfl ?_
  refine jb_callS (pc' := 14) (As := [.int 2, .int 0, .int 3]) (a2 := 0) (b2 := 0) wv_X11_74 dX11_voice_11 (c_isOutLG 2 0 3 (by omega) (by omega) (by omega)) rfl ⟨by decide, Nat.le_of_eq (Nat.zero_add _), Nat.le_of_eq (Nat.zero_add _)⟩ (Nat.le_of_ble_eq_true rfl) rfl (fun r h9 hq => ?_)
  obtain ⟨rfl, rfl⟩ := hq
  show jb_J _ RX11 cX11_voice 5 (Option.some .int) false 3 0 0 14 [some (.ref 0), some (.int (nI p)), some (.int 2), some (.int x), none] [.int 0] [jb_main imm Im Tm rowm stkm tpm, jb_sch13 I W T, s2, s3, s4, s5, s6, s7, s8, jb_act Ia boa era, s10, s11] _
  refine jb_if_eq (tgt := 23) (pc' := 17) dX11_voice_14 (by decide) rfl (fun _ => ?_) (fun z => absurd (by decide) z)
  refine jb_aload_n (pc' := 24) dX11_voice_23 rfl rfl ?_
  refine gf_X11_62 (pc' := 27) (v := .ref 102) dX11_voice_24 rfl rfl rfl ?_
  refine jb_iload_n (pc' := 28) dX11_voice_27 rfl rfl ?_
  refine jb_aload_n (pc' := 29) dX11_voice_28 rfl rfl ?_
  refine gf_X11_42 (pc' := 32) (v := .ref 13) dX11_voice_29 rfl rfl rfl ?_
  refine gf_X11_99 (pc' := 35) (v := .ref 15) dX11_voice_32 rfl rfl rfl ?_
  refine jb_iconst (pc' := 36) 1 dX11_voice_35 (by decide) rfl ?_
  refine jb_aaload (pc' := 37) (i9 := 1) (r := 17) (Or.inl rfl) dX11_voice_36 rfl jb_x1 (by decide) rfl rfl ?_
  refine jb_iload_n (pc' := 38) dX11_voice_37 rfl rfl ?_
  refine jb_iaload (pc' := 39) (i9 := p) (f := (W 2)) dX11_voice_38 rfl (jb_ix_nI (by omega)) (by omega) rfl ?_
  refine jb_top (v := .int ((W 2) p)) (w := .int (nI (V 2 p))) (jb_vI (rv p (by omega)).2.1) ?_
  refine jb_callV (pc' := 42) (ci := 0) (q := 102) (As := [.int (nI p), .int (nI (V 2 p))]) (a2 := 0) (b2 := 0) wv_X11_205 rfl dX11_voice_39 (c_begin imm Im rowm stkm tpm Tm Ia boa era (nI p) (nI (V 2 p))) rfl rfl ⟨by decide, Nat.le_of_eq (Nat.zero_add _), Nat.le_of_eq (Nat.zero_add _)⟩ (Nat.le_of_ble_eq_true rfl) rfl (fun r h9 hq => ?_)
  obtain ⟨rfl, A9, ha, hb, hc, rfl⟩ := hq
  show jb_J _ RX11 cX11_voice 5 (Option.some .int) false 3 0 0 42 [some (.ref 0), some (.int (nI p)), some (.int 2), some (.int x), none] [] [jb_main imm Im Tm rowm stkm tpm, jb_sch13 I W T, s2, s3, s4, s5, s6, s7, s8, jb_act A9 boa era, s10, s11] _
  refine jb_aload_n (pc' := 43) dX11_voice_42 rfl rfl ?_
  refine gf_X11_42 (pc' := 46) (v := .ref 13) dX11_voice_43 rfl rfl rfl ?_
  refine jb_iload_n (pc' := 47) dX11_voice_46 rfl rfl ?_
  refine jb_callV (pc' := 50) (ci := 9) (q := 13) (As := [.int (nI p)]) (a2 := 0) (b2 := 0) wv_X11_209 rfl dX11_voice_47 (c_kindOf_13 imm Im rowm stkm tpm Tm I W T hr0 hk0 p hp) rfl rfl ⟨by decide, Nat.le_of_eq (Nat.zero_add _), Nat.le_of_eq (Nat.zero_add _)⟩ (Nat.le_of_ble_eq_true rfl) rfl (fun r h9 hq => ?_)
  obtain ⟨rfl, rfl⟩ := hq
  rw [hkd]
  show jb_J _ RX11 cX11_voice 5 (Option.some .int) false 3 0 0 50 [some (.ref 0), some (.int (nI p)), some (.int 2), some (.int x), none] [.ref 9] [jb_main imm Im Tm rowm stkm tpm, jb_sch13 I W T, s2, s3, s4, s5, s6, s7, s8, jb_act A9 boa era, s10, s11] _
  refine jb_astore_ (pc' := 52) dX11_voice_50 (by decide) (jb_at4 rfl) rfl ?_
  refine jb_iload_n (pc' := 53) dX11_voice_52 rfl rfl ?_
  refine jb_tableIn (pc' := 102) (off := 49) dX11_voice_53 (by decide) (by decide) (by decide +kernel) (by decide) ?_
  refine jb_aload (pc' := 104) dX11_voice_102 rfl rfl ?_
  refine jb_aload_n (pc' := 105) dX11_voice_104 rfl rfl ?_
  refine gf_X11_62 (pc' := 108) (v := .ref 102) dX11_voice_105 rfl rfl rfl ?_
  refine jb_iload_n (pc' := 109) dX11_voice_108 rfl rfl ?_
  refine jb_callU (pc' := 112) (ci := 6) (q := 9) (As := [.ref 102, .int x]) (a2 := 0) (b2 := 0) wv_X11_220_X6 rfl dX11_voice_109 (ca_X6_waits_9 imm Im rowm stkm tpm Tm A9 boa era (nI p) (nI (V 2 p)) 0 ha hb hc (by omega) x) rfl rfl ⟨by decide, Nat.le_of_eq (Nat.zero_add _), Nat.le_of_eq (Nat.zero_add _)⟩ (Nat.le_of_ble_eq_true rfl) rfl (fun r h9 hq => ?_)
  obtain ⟨rfl, A8, ha8, hb8, hc8, rfl⟩ := hq
  show jb_J _ RX11 cX11_voice 5 (Option.some .int) false 3 0 0 112 [some (.ref 0), some (.int (nI p)), some (.int 2), some (.int x), some (.ref 9)] [.int (-((x) - (nI (V 2 p))))] [jb_main imm Im Tm rowm stkm tpm, jb_sch13 I W T, s2, s3, s4, s5, s6, s7, s8, jb_act A8 (jp_wr boa 0 [40, 12]) era, s10, s11] _
  refine jb_iret dX11_voice_112 rfl ?_
  exact ⟨rfl, A8, by rw [hc8], rfl⟩
set_option maxRecDepth 100000 in
set_option maxHeartbeats 4000000 in
theorem kx_voice3_3 {sc : Nat × (Nat → Int32)} {s2 s3 s4 s5 s6 s7 s8 s10 s11 : List va_E} {V : Nat → Nat → Nat} (imm : Int32) (Im rowm stkm tpm : Nat → Int32) (Tm : Nat → Value) (I : Nat → Int32) (W : Nat → Nat → Int32) (T : Nat → Value) (Ia boa era : Nat → Int32) (hr : jr_ V I W) (hk : jv_ok V) (p : Nat) (hp : p < V 0 1) (hkd : V 1 p = 3) (x : Int32) : jb_C sc yX11_voice cX11_voice 5 (Option.some .int) 4 0 0 [.ref 0, .int (nI p), .int 3, .int x] [jb_main imm Im Tm rowm stkm tpm, jb_sch13 I W T, s2, s3, s4, s5, s6, s7, s8, jb_act Ia boa era, s10, s11] (fun r h9 => r = some (.int ((((x) + (nI p)) * 2) ^^^ (-((x) - (nI (V 2 p)))))) ∧ ∃ A9, A9 2 = nI 5 ∧ h9 = [jb_main imm Im Tm rowm stkm tpm, jb_sch13 I W T, s2, s3, s4, s5, s6, s7, s8, jb_act A9 (jp_wr boa 0 [13, 11, 10, 40, 12]) era, s10, s11]) := by
  refine jb_CofJ (ini := false) (by decide +kernel) (fun h => by cases h) (Nat.le_of_ble_eq_true rfl) ?_
  show jb_J sc RX11 cX11_voice 5 (Option.some .int) false 4 0 0 0 [some (.ref 0), some (.int (nI p)), some (.int 3), some (.int x), none] [] [jb_main imm Im Tm rowm stkm tpm, jb_sch13 I W T, s2, s3, s4, s5, s6, s7, s8, jb_act Ia boa era, s10, s11] _
  have hr0 := hr
  have hk0 := hk
  obtain ⟨r0, r2, r3, r4, a0, a1, a2, rv, rs, rd⟩ := hr
  obtain ⟨k0, k1, k2, k3, k4, k5, k6, k7, kv, ks, kd⟩ := hk
  have q0 := kv p hp
  refine jb_aload_n (pc' := 1) dX11_voice_0 rfl rfl ?_
  refine jb_iload_n (pc' := 2) dX11_voice_1 rfl rfl ?_
  refine jb_callV (pc' := 5) (ci := 11) (q := 0) (As := [.int (nI p)]) (a2 := 0) (b2 := 0) wv_X11_92 rfl dX11_voice_2 (c_isNoVoiceG imm Im rowm stkm tpm Tm I W T hr0 hk0 p (by omega)) rfl rfl ⟨by decide, Nat.le_of_eq (Nat.zero_add _), Nat.le_of_eq (Nat.zero_add _)⟩ (Nat.le_of_ble_eq_true rfl) rfl (fun r h9 hq => ?_)
  obtain ⟨rfl, rfl⟩ := hq
  show jb_J _ RX11 cX11_voice 5 (Option.some .int) false 4 0 0 5 [some (.ref 0), some (.int (nI p)), some (.int 3), some (.int x), none] [.int 0] [jb_main imm Im Tm rowm stkm tpm, jb_sch13 I W T, s2, s3, s4, s5, s6, s7, s8, jb_act Ia boa era, s10, s11] _
  refine jb_if_ne (tgt := 17) (pc' := 8) dX11_voice_5 (by decide) rfl (fun z => absurd (by decide) z) (fun _ => ?_)
  refine jb_iload_n (pc' := 9) dX11_voice_8 rfl rfl ?_
  refine jb_iconst (pc' := 10) 0 dX11_voice_9 (by decide) rfl ?_
  refine jb_iconst (pc' := 11) 3 dX11_voice_10 (by decide) rfl ?_
  refine jb_callS (pc' := 14) (As := [.int 3, .int 0, .int 3]) (a2 := 0) (b2 := 0) wv_X11_74 dX11_voice_11 (c_isOutLG 3 0 3 (by omega) (by omega) (by omega)) rfl ⟨by decide, Nat.le_of_eq (Nat.zero_add _), Nat.le_of_eq (Nat.zero_add _)⟩ (Nat.le_of_ble_eq_true rfl) rfl (fun r h9 hq => ?_)
  obtain ⟨rfl, rfl⟩ := hq
  show jb_J _ RX11 cX11_voice 5 (Option.some .int) false 4 0 0 14 [some (.ref 0), some (.int (nI p)), some (.int 3), some (.int x), none] [.int 0] [jb_main imm Im Tm rowm stkm tpm, jb_sch13 I W T, s2, s3, s4, s5, s6, s7, s8, jb_act Ia boa era, s10, s11] _
  refine jb_if_eq (tgt := 23) (pc' := 17) dX11_voice_14 (by decide) rfl (fun _ => ?_) (fun z => absurd (by decide) z)
  refine jb_aload_n (pc' := 24) dX11_voice_23 rfl rfl ?_
  refine gf_X11_62 (pc' := 27) (v := .ref 102) dX11_voice_24 rfl rfl rfl ?_
  refine jb_iload_n (pc' := 28) dX11_voice_27 rfl rfl ?_
  refine jb_aload_n (pc' := 29) dX11_voice_28 rfl rfl ?_
  refine gf_X11_42 (pc' := 32) (v := .ref 13) dX11_voice_29 rfl rfl rfl ?_
  refine gf_X11_99 (pc' := 35) (v := .ref 15) dX11_voice_32 rfl rfl rfl ?_
  refine jb_iconst (pc' := 36) 1 dX11_voice_35 (by decide) rfl ?_
  refine jb_aaload (pc' := 37) (i9 := 1) (r := 17) (Or.inl rfl) dX11_voice_36 rfl jb_x1 (by decide) rfl rfl ?_
  refine jb_iload_n (pc' := 38) dX11_voice_37 rfl rfl ?_
  refine jb_iaload (pc' := 39) (i9 := p) (f := (W 2)) dX11_voice_38 rfl (jb_ix_nI (by omega)) (by omega) rfl ?_
  refine jb_top (v := .int ((W 2) p)) (w := .int (nI (V 2 p))) (jb_vI (rv p (by omega)).2.1) ?_
  refine jb_callV (pc' := 42) (ci := 0) (q := 102) (As := [.int (nI p), .int (nI (V 2 p))]) (a2 := 0) (b2 := 0) wv_X11_205 rfl dX11_voice_39 (c_begin imm Im rowm stkm tpm Tm Ia boa era (nI p) (nI (V 2 p))) rfl rfl ⟨by decide, Nat.le_of_eq (Nat.zero_add _), Nat.le_of_eq (Nat.zero_add _)⟩ (Nat.le_of_ble_eq_true rfl) rfl (fun r h9 hq => ?_)
  obtain ⟨rfl, A9, ha, hb, hc, rfl⟩ := hq
  show jb_J _ RX11 cX11_voice 5 (Option.some .int) false 4 0 0 42 [some (.ref 0), some (.int (nI p)), some (.int 3), some (.int x), none] [] [jb_main imm Im Tm rowm stkm tpm, jb_sch13 I W T, s2, s3, s4, s5, s6, s7, s8, jb_act A9 boa era, s10, s11] _
  refine jb_aload_n (pc' := 43) dX11_voice_42 rfl rfl ?_
  refine gf_X11_42 (pc' := 46) (v := .ref 13) dX11_voice_43 rfl rfl rfl ?_
  refine jb_iload_n (pc' := 47) dX11_voice_46 rfl rfl ?_
  refine jb_callV (pc' := 50) (ci := 9) (q := 13) (As := [.int (nI p)]) (a2 := 0) (b2 := 0) wv_X11_209 rfl dX11_voice_47 (c_kindOf_13 imm Im rowm stkm tpm Tm I W T hr0 hk0 p hp) rfl rfl ⟨by decide, Nat.le_of_eq (Nat.zero_add _), Nat.le_of_eq (Nat.zero_add _)⟩ (Nat.le_of_ble_eq_true rfl) rfl (fun r h9 hq => ?_)
  obtain ⟨rfl, rfl⟩ := hq
  rw [hkd]
  show jb_J _ RX11 cX11_voice 5 (Option.some .int) false 4 0 0 50 [some (.ref 0), some (.int (nI p)), some (.int 3), some (.int x), none] [.ref 9] [jb_main imm Im Tm rowm stkm tpm, jb_sch13 I W T, s2, s3, s4, s5, s6, s7, s8, jb_act A9 boa era, s10, s11] _
  refine jb_astore_ (pc' := 52) dX11_voice_50 (by decide) (jb_at4 rfl) rfl ?_
  refine jb_iload_n (pc' := 53) dX11_voice_52 rfl rfl ?_
  refine jb_tableOut (pc' := 113) dX11_voice_53 (by decide) (by decide) ?_
  refine jb_aload (pc' := 115) dX11_voice_113 rfl rfl ?_
  refine jb_aload_n (pc' := 116) dX11_voice_115 rfl rfl ?_
  refine gf_X11_62 (pc' := 119) (v := .ref 102) dX11_voice_116 rfl rfl rfl ?_
  refine jb_iload_n (pc' := 120) dX11_voice_119 rfl rfl ?_
  refine jb_callU (pc' := 123) (ci := 6) (q := 9) (As := [.ref 102, .int x]) (a2 := 0) (b2 := 0) wv_X11_223_X6 rfl dX11_voice_120 (ca_X7_tells_9 imm Im rowm stkm tpm Tm A9 boa era (nI p) (nI (V 2 p)) 0 ha hb hc (by omega) x) rfl rfl ⟨by decide, Nat.le_of_eq (Nat.zero_add _), Nat.le_of_eq (Nat.zero_add _)⟩ (Nat.le_of_ble_eq_true rfl) rfl (fun r h9 hq => ?_)
  obtain ⟨rfl, A8, ha8, hb8, hc8, rfl⟩ := hq
  show jb_J _ RX11 cX11_voice 5 (Option.some .int) false 4 0 0 123 [some (.ref 0), some (.int (nI p)), some (.int 3), some (.int x), some (.ref 9)] [.int ((((x) + (nI p)) * 2) ^^^ (-((x) - (nI (V 2 p)))))] [jb_main imm Im Tm rowm stkm tpm, jb_sch13 I W T, s2, s3, s4, s5, s6, s7, s8, jb_act A8 (jp_wr boa 0 [13, 11, 10, 40, 12]) era, s10, s11] _
  refine jb_iret dX11_voice_123 rfl ?_
  exact ⟨rfl, A8, by rw [hc8], rfl⟩
set_option maxRecDepth 100000 in
set_option maxHeartbeats 4000000 in
theorem kx_voice0_4 {sc : Nat × (Nat → Int32)} {s2 s3 s4 s5 s6 s7 s8 s10 s11 : List va_E} {V : Nat → Nat → Nat} (imm : Int32) (Im rowm stkm tpm : Nat → Int32) (Tm : Nat → Value) (I : Nat → Int32) (W : Nat → Nat → Int32) (T : Nat → Value) (Ia boa era : Nat → Int32) (hr : jr_ V I W) (hk : jv_ok V) (p : Nat) (hp : p < V 0 1) (hkd : V 1 p = 4) (x : Int32) : jb_C sc yX11_voice cX11_voice 5 (Option.some .int) 2 0 0 [.ref 0, .int (nI p), .int 0, .int x] [jb_main imm Im Tm rowm stkm tpm, jb_sch13 I W T, s2, s3, s4, s5, s6, s7, s8, jb_act Ia boa era, s10, s11] (fun r h9 => r = some (.int ((x) + (nI p))) ∧ ∃ A9, A9 2 = nI 1 ∧ h9 = [jb_main imm Im Tm rowm stkm tpm, jb_sch13 I W T, s2, s3, s4, s5, s6, s7, s8, jb_act A9 (jp_wr boa 0 [10]) era, s10, s11]) := by
  refine jb_CofJ (ini := false) (by decide +kernel) (fun h => by cases h) (Nat.le_of_ble_eq_true rfl) ?_
  show jb_J sc RX11 cX11_voice 5 (Option.some .int) false 2 0 0 0 [some (.ref 0), some (.int (nI p)), some (.int 0), some (.int x), none] [] [jb_main imm Im Tm rowm stkm tpm, jb_sch13 I W T, s2, s3, s4, s5, s6, s7, s8, jb_act Ia boa era, s10, s11] _
  have hr0 := hr
  have hk0 := hk
  obtain ⟨r0, r2, r3, r4, a0, a1, a2, rv, rs, rd⟩ := hr
  obtain ⟨k0, k1, k2, k3, k4, k5, k6, k7, kv, ks, kd⟩ := hk
  have q0 := kv p hp
  refine jb_aload_n (pc' := 1) dX11_voice_0 rfl rfl ?_
  refine jb_iload_n (pc' := 2) dX11_voice_1 rfl rfl ?_
  refine jb_callV (pc' := 5) (ci := 11) (q := 0) (As := [.int (nI p)]) (a2 := 0) (b2 := 0) wv_X11_92 rfl dX11_voice_2 (c_isNoVoiceG imm Im rowm stkm tpm Tm I W T hr0 hk0 p (by omega)) rfl rfl ⟨by decide, Nat.le_of_eq (Nat.zero_add _), Nat.le_of_eq (Nat.zero_add _)⟩ (Nat.le_of_ble_eq_true rfl) rfl (fun r h9 hq => ?_)
  obtain ⟨rfl, rfl⟩ := hq
  show jb_J _ RX11 cX11_voice 5 (Option.some .int) false 2 0 0 5 [some (.ref 0), some (.int (nI p)), some (.int 0), some (.int x), none] [.int 0] [jb_main imm Im Tm rowm stkm tpm, jb_sch13 I W T, s2, s3, s4, s5, s6, s7, s8, jb_act Ia boa era, s10, s11] _
  refine jb_if_ne (tgt := 17) (pc' := 8) dX11_voice_5 (by decide) rfl (fun z => absurd (by decide) z) (fun _ => ?_)
  refine jb_iload_n (pc' := 9) dX11_voice_8 rfl rfl ?_
  refine jb_iconst (pc' := 10) 0 dX11_voice_9 (by decide) rfl ?_
  refine jb_iconst (pc' := 11) 3 dX11_voice_10 (by decide) rfl ?_
  refine jb_callS (pc' := 14) (As := [.int 0, .int 0, .int 3]) (a2 := 0) (b2 := 0) wv_X11_74 dX11_voice_11 (c_isOutLG 0 0 3 (by omega) (by omega) (by omega)) rfl ⟨by decide, Nat.le_of_eq (Nat.zero_add _), Nat.le_of_eq (Nat.zero_add _)⟩ (Nat.le_of_ble_eq_true rfl) rfl (fun r h9 hq => ?_)
  obtain ⟨rfl, rfl⟩ := hq
  show jb_J _ RX11 cX11_voice 5 (Option.some .int) false 2 0 0 14 [some (.ref 0), some (.int (nI p)), some (.int 0), some (.int x), none] [.int 0] [jb_main imm Im Tm rowm stkm tpm, jb_sch13 I W T, s2, s3, s4, s5, s6, s7, s8, jb_act Ia boa era, s10, s11] _
  refine jb_if_eq (tgt := 23) (pc' := 17) dX11_voice_14 (by decide) rfl (fun _ => ?_) (fun z => absurd (by decide) z)
  refine jb_aload_n (pc' := 24) dX11_voice_23 rfl rfl ?_
  refine gf_X11_62 (pc' := 27) (v := .ref 102) dX11_voice_24 rfl rfl rfl ?_
  refine jb_iload_n (pc' := 28) dX11_voice_27 rfl rfl ?_
  refine jb_aload_n (pc' := 29) dX11_voice_28 rfl rfl ?_
  refine gf_X11_42 (pc' := 32) (v := .ref 13) dX11_voice_29 rfl rfl rfl ?_
  refine gf_X11_99 (pc' := 35) (v := .ref 15) dX11_voice_32 rfl rfl rfl ?_
  refine jb_iconst (pc' := 36) 1 dX11_voice_35 (by decide) rfl ?_
  refine jb_aaload (pc' := 37) (i9 := 1) (r := 17) (Or.inl rfl) dX11_voice_36 rfl jb_x1 (by decide) rfl rfl ?_
  refine jb_iload_n (pc' := 38) dX11_voice_37 rfl rfl ?_
  refine jb_iaload (pc' := 39) (i9 := p) (f := (W 2)) dX11_voice_38 rfl (jb_ix_nI (by omega)) (by omega) rfl ?_
  refine jb_top (v := .int ((W 2) p)) (w := .int (nI (V 2 p))) (jb_vI (rv p (by omega)).2.1) ?_
  refine jb_callV (pc' := 42) (ci := 0) (q := 102) (As := [.int (nI p), .int (nI (V 2 p))]) (a2 := 0) (b2 := 0) wv_X11_205 rfl dX11_voice_39 (c_begin imm Im rowm stkm tpm Tm Ia boa era (nI p) (nI (V 2 p))) rfl rfl ⟨by decide, Nat.le_of_eq (Nat.zero_add _), Nat.le_of_eq (Nat.zero_add _)⟩ (Nat.le_of_ble_eq_true rfl) rfl (fun r h9 hq => ?_)
  obtain ⟨rfl, A9, ha, hb, hc, rfl⟩ := hq
  show jb_J _ RX11 cX11_voice 5 (Option.some .int) false 2 0 0 42 [some (.ref 0), some (.int (nI p)), some (.int 0), some (.int x), none] [] [jb_main imm Im Tm rowm stkm tpm, jb_sch13 I W T, s2, s3, s4, s5, s6, s7, s8, jb_act A9 boa era, s10, s11] _
  refine jb_aload_n (pc' := 43) dX11_voice_42 rfl rfl ?_
  refine gf_X11_42 (pc' := 46) (v := .ref 13) dX11_voice_43 rfl rfl rfl ?_
  refine jb_iload_n (pc' := 47) dX11_voice_46 rfl rfl ?_
  refine jb_callV (pc' := 50) (ci := 9) (q := 13) (As := [.int (nI p)]) (a2 := 0) (b2 := 0) wv_X11_209 rfl dX11_voice_47 (c_kindOf_13 imm Im rowm stkm tpm Tm I W T hr0 hk0 p hp) rfl rfl ⟨by decide, Nat.le_of_eq (Nat.zero_add _), Nat.le_of_eq (Nat.zero_add _)⟩ (Nat.le_of_ble_eq_true rfl) rfl (fun r h9 hq => ?_)
  obtain ⟨rfl, rfl⟩ := hq
  rw [hkd]
  show jb_J _ RX11 cX11_voice 5 (Option.some .int) false 2 0 0 50 [some (.ref 0), some (.int (nI p)), some (.int 0), some (.int x), none] [.ref 10] [jb_main imm Im Tm rowm stkm tpm, jb_sch13 I W T, s2, s3, s4, s5, s6, s7, s8, jb_act A9 boa era, s10, s11] _
  refine jb_astore_ (pc' := 52) dX11_voice_50 (by decide) (jb_at4 rfl) rfl ?_
  refine jb_iload_n (pc' := 53) dX11_voice_52 rfl rfl ?_
  refine jb_tableIn (pc' := 80) (off := 27) dX11_voice_53 (by decide) (by decide) (by decide +kernel) (by decide) ?_
  refine jb_aload (pc' := 82) dX11_voice_80 rfl rfl ?_
  refine jb_aload_n (pc' := 83) dX11_voice_82 rfl rfl ?_
  refine gf_X11_62 (pc' := 86) (v := .ref 102) dX11_voice_83 rfl rfl rfl ?_
  refine jb_iload_n (pc' := 87) dX11_voice_86 rfl rfl ?_
  refine jb_callU (pc' := 90) (ci := 3) (q := 10) (As := [.ref 102, .int x]) (a2 := 0) (b2 := 0) wv_X11_213_X3 rfl dX11_voice_87 (ca_X7_calls_10 imm Im rowm stkm tpm Tm A9 boa era (nI p) (nI (V 2 p)) 0 ha hb hc (by omega) x) rfl rfl ⟨by decide, Nat.le_of_eq (Nat.zero_add _), Nat.le_of_eq (Nat.zero_add _)⟩ (Nat.le_of_ble_eq_true rfl) rfl (fun r h9 hq => ?_)
  obtain ⟨rfl, A8, ha8, hb8, hc8, rfl⟩ := hq
  show jb_J _ RX11 cX11_voice 5 (Option.some .int) false 2 0 0 90 [some (.ref 0), some (.int (nI p)), some (.int 0), some (.int x), some (.ref 10)] [.int ((x) + (nI p))] [jb_main imm Im Tm rowm stkm tpm, jb_sch13 I W T, s2, s3, s4, s5, s6, s7, s8, jb_act A8 (jp_wr boa 0 [10]) era, s10, s11] _
  refine jb_iret dX11_voice_90 rfl ?_
  exact ⟨rfl, A8, by rw [hc8], rfl⟩
set_option maxRecDepth 100000 in
set_option maxHeartbeats 4000000 in
theorem kx_voice1_4 {sc : Nat × (Nat → Int32)} {s2 s3 s4 s5 s6 s7 s8 s10 s11 : List va_E} {V : Nat → Nat → Nat} (imm : Int32) (Im rowm stkm tpm : Nat → Int32) (Tm : Nat → Value) (I : Nat → Int32) (W : Nat → Nat → Int32) (T : Nat → Value) (Ia boa era : Nat → Int32) (hr : jr_ V I W) (hk : jv_ok V) (p : Nat) (hp : p < V 0 1) (hkd : V 1 p = 4) (x : Int32) : jb_C sc yX11_voice cX11_voice 5 (Option.some .int) 5 0 0 [.ref 0, .int (nI p), .int 1, .int x] [jb_main imm Im Tm rowm stkm tpm, jb_sch13 I W T, s2, s3, s4, s5, s6, s7, s8, jb_act Ia boa era, s10, s11] (fun r h9 => r = some (.int (((((x) + 1) + (nI p)) * 2) - ((1) - (nI (V 2 p))))) ∧ ∃ A9, A9 2 = nI 5 ∧ h9 = [jb_main imm Im Tm rowm stkm tpm, jb_sch13 I W T, s2, s3, s4, s5, s6, s7, s8, jb_act A9 (jp_wr boa 0 [50, 20, 11, 10, 12]) era, s10, s11]) := by
  refine jb_CofJ (ini := false) (by decide +kernel) (fun h => by cases h) (Nat.le_of_ble_eq_true rfl) ?_
  show jb_J sc RX11 cX11_voice 5 (Option.some .int) false 5 0 0 0 [some (.ref 0), some (.int (nI p)), some (.int 1), some (.int x), none] [] [jb_main imm Im Tm rowm stkm tpm, jb_sch13 I W T, s2, s3, s4, s5, s6, s7, s8, jb_act Ia boa era, s10, s11] _
  have hr0 := hr
  have hk0 := hk
  obtain ⟨r0, r2, r3, r4, a0, a1, a2, rv, rs, rd⟩ := hr
  obtain ⟨k0, k1, k2, k3, k4, k5, k6, k7, kv, ks, kd⟩ := hk
  have q0 := kv p hp
  refine jb_aload_n (pc' := 1) dX11_voice_0 rfl rfl ?_
  refine jb_iload_n (pc' := 2) dX11_voice_1 rfl rfl ?_
  refine jb_callV (pc' := 5) (ci := 11) (q := 0) (As := [.int (nI p)]) (a2 := 0) (b2 := 0) wv_X11_92 rfl dX11_voice_2 (c_isNoVoiceG imm Im rowm stkm tpm Tm I W T hr0 hk0 p (by omega)) rfl rfl ⟨by decide, Nat.le_of_eq (Nat.zero_add _), Nat.le_of_eq (Nat.zero_add _)⟩ (Nat.le_of_ble_eq_true rfl) rfl (fun r h9 hq => ?_)
  obtain ⟨rfl, rfl⟩ := hq
  show jb_J _ RX11 cX11_voice 5 (Option.some .int) false 5 0 0 5 [some (.ref 0), some (.int (nI p)), some (.int 1), some (.int x), none] [.int 0] [jb_main imm Im Tm rowm stkm tpm, jb_sch13 I W T, s2, s3, s4, s5, s6, s7, s8, jb_act Ia boa era, s10, s11] _
  refine jb_if_ne (tgt := 17) (pc' := 8) dX11_voice_5 (by decide) rfl (fun z => absurd (by decide) z) (fun _ => ?_)
  refine jb_iload_n (pc' := 9) dX11_voice_8 rfl rfl ?_
  refine jb_iconst (pc' := 10) 0 dX11_voice_9 (by decide) rfl ?_
  refine jb_iconst (pc' := 11) 3 dX11_voice_10 (by decide) rfl ?_
  refine jb_callS (pc' := 14) (As := [.int 1, .int 0, .int 3]) (a2 := 0) (b2 := 0) wv_X11_74 dX11_voice_11 (c_isOutLG 1 0 3 (by omega) (by omega) (by omega)) rfl ⟨by decide, Nat.le_of_eq (Nat.zero_add _), Nat.le_of_eq (Nat.zero_add _)⟩ (Nat.le_of_ble_eq_true rfl) rfl (fun r h9 hq => ?_)
  obtain ⟨rfl, rfl⟩ := hq
  show jb_J _ RX11 cX11_voice 5 (Option.some .int) false 5 0 0 14 [some (.ref 0), some (.int (nI p)), some (.int 1), some (.int x), none] [.int 0] [jb_main imm Im Tm rowm stkm tpm, jb_sch13 I W T, s2, s3, s4, s5, s6, s7, s8, jb_act Ia boa era, s10, s11] _
  refine jb_if_eq (tgt := 23) (pc' := 17) dX11_voice_14 (by decide) rfl (fun _ => ?_) (fun z => absurd (by decide) z)
  refine jb_aload_n (pc' := 24) dX11_voice_23 rfl rfl ?_
  refine gf_X11_62 (pc' := 27) (v := .ref 102) dX11_voice_24 rfl rfl rfl ?_
  refine jb_iload_n (pc' := 28) dX11_voice_27 rfl rfl ?_
  refine jb_aload_n (pc' := 29) dX11_voice_28 rfl rfl ?_
  refine gf_X11_42 (pc' := 32) (v := .ref 13) dX11_voice_29 rfl rfl rfl ?_
  refine gf_X11_99 (pc' := 35) (v := .ref 15) dX11_voice_32 rfl rfl rfl ?_
  refine jb_iconst (pc' := 36) 1 dX11_voice_35 (by decide) rfl ?_
  refine jb_aaload (pc' := 37) (i9 := 1) (r := 17) (Or.inl rfl) dX11_voice_36 rfl jb_x1 (by decide) rfl rfl ?_
  refine jb_iload_n (pc' := 38) dX11_voice_37 rfl rfl ?_
  refine jb_iaload (pc' := 39) (i9 := p) (f := (W 2)) dX11_voice_38 rfl (jb_ix_nI (by omega)) (by omega) rfl ?_
  refine jb_top (v := .int ((W 2) p)) (w := .int (nI (V 2 p))) (jb_vI (rv p (by omega)).2.1) ?_
  refine jb_callV (pc' := 42) (ci := 0) (q := 102) (As := [.int (nI p), .int (nI (V 2 p))]) (a2 := 0) (b2 := 0) wv_X11_205 rfl dX11_voice_39 (c_begin imm Im rowm stkm tpm Tm Ia boa era (nI p) (nI (V 2 p))) rfl rfl ⟨by decide, Nat.le_of_eq (Nat.zero_add _), Nat.le_of_eq (Nat.zero_add _)⟩ (Nat.le_of_ble_eq_true rfl) rfl (fun r h9 hq => ?_)
  obtain ⟨rfl, A9, ha, hb, hc, rfl⟩ := hq
  show jb_J _ RX11 cX11_voice 5 (Option.some .int) false 5 0 0 42 [some (.ref 0), some (.int (nI p)), some (.int 1), some (.int x), none] [] [jb_main imm Im Tm rowm stkm tpm, jb_sch13 I W T, s2, s3, s4, s5, s6, s7, s8, jb_act A9 boa era, s10, s11] _
  refine jb_aload_n (pc' := 43) dX11_voice_42 rfl rfl ?_
  refine gf_X11_42 (pc' := 46) (v := .ref 13) dX11_voice_43 rfl rfl rfl ?_
  refine jb_iload_n (pc' := 47) dX11_voice_46 rfl rfl ?_
  refine jb_callV (pc' := 50) (ci := 9) (q := 13) (As := [.int (nI p)]) (a2 := 0) (b2 := 0) wv_X11_209 rfl dX11_voice_47 (c_kindOf_13 imm Im rowm stkm tpm Tm I W T hr0 hk0 p hp) rfl rfl ⟨by decide, Nat.le_of_eq (Nat.zero_add _), Nat.le_of_eq (Nat.zero_add _)⟩ (Nat.le_of_ble_eq_true rfl) rfl (fun r h9 hq => ?_)
  obtain ⟨rfl, rfl⟩ := hq
  rw [hkd]
  show jb_J _ RX11 cX11_voice 5 (Option.some .int) false 5 0 0 50 [some (.ref 0), some (.int (nI p)), some (.int 1), some (.int x), none] [.ref 10] [jb_main imm Im Tm rowm stkm tpm, jb_sch13 I W T, s2, s3, s4, s5, s6, s7, s8, jb_act A9 boa era, s10, s11] _
  refine jb_astore_ (pc' := 52) dX11_voice_50 (by decide) (jb_at4 rfl) rfl ?_
  refine jb_iload_n (pc' := 53) dX11_voice_52 rfl rfl ?_
  refine jb_tableIn (pc' := 91) (off := 38) dX11_voice_53 (by decide) (by decide) (by decide +kernel) (by decide) ?_
  refine jb_aload (pc' := 93) dX11_voice_91 rfl rfl ?_
  refine jb_aload_n (pc' := 94) dX11_voice_93 rfl rfl ?_
  refine gf_X11_62 (pc' := 97) (v := .ref 102) dX11_voice_94 rfl rfl rfl ?_
  refine jb_iload_n (pc' := 98) dX11_voice_97 rfl rfl ?_
  refine jb_callU (pc' := 101) (ci := 3) (q := 10) (As := [.ref 102, .int x]) (a2 := 0) (b2 := 0) wv_X11_217_X3 rfl dX11_voice_98 (ca_X3_hears_10 imm Im rowm stkm tpm Tm A9 boa era (nI p) (nI (V 2 p)) 0 ha hb hc (by omega) x) rfl rfl ⟨by decide, Nat.le_of_eq (Nat.zero_add _), Nat.le_of_eq (Nat.zero_add _)⟩ (Nat.le_of_ble_eq_true rfl) rfl (fun r h9 hq => ?_)
  obtain ⟨rfl, A8, ha8, hb8, hc8, rfl⟩ := hq
  show jb_J _ RX11 cX11_voice 5 (Option.some .int) false 5 0 0 101 [some (.ref 0), some (.int (nI p)), some (.int 1), some (.int x), some (.ref 10)] [.int (((((x) + 1) + (nI p)) * 2) - ((1) - (nI (V 2 p))))] [jb_main imm Im Tm rowm stkm tpm, jb_sch13 I W T, s2, s3, s4, s5, s6, s7, s8, jb_act A8 (jp_wr boa 0 [50, 20, 11, 10, 12]) era, s10, s11] _
  refine jb_iret dX11_voice_101 rfl ?_
  exact ⟨rfl, A8, by rw [hc8], rfl⟩
set_option maxRecDepth 100000 in
set_option maxHeartbeats 4000000 in
theorem kx_voice2_4 {sc : Nat × (Nat → Int32)} {s2 s3 s4 s5 s6 s7 s8 s10 s11 : List va_E} {V : Nat → Nat → Nat} (imm : Int32) (Im rowm stkm tpm : Nat → Int32) (Tm : Nat → Value) (I : Nat → Int32) (W : Nat → Nat → Int32) (T : Nat → Value) (Ia boa era : Nat → Int32) (hr : jr_ V I W) (hk : jv_ok V) (p : Nat) (hp : p < V 0 1) (hkd : V 1 p = 4) (x : Int32) : jb_C sc yX11_voice cX11_voice 5 (Option.some .int) 2 0 0 [.ref 0, .int (nI p), .int 2, .int x] [jb_main imm Im Tm rowm stkm tpm, jb_sch13 I W T, s2, s3, s4, s5, s6, s7, s8, jb_act Ia boa era, s10, s11] (fun r h9 => r = some (.int ((x) - (nI (V 2 p)))) ∧ ∃ A9, A9 2 = nI 1 ∧ h9 = [jb_main imm Im Tm rowm stkm tpm, jb_sch13 I W T, s2, s3, s4, s5, s6, s7, s8, jb_act A9 (jp_wr boa 0 [12]) era, s10, s11]) := by
  refine jb_CofJ (ini := false) (by decide +kernel) (fun h => by cases h) (Nat.le_of_ble_eq_true rfl) ?_
  show jb_J sc RX11 cX11_voice 5 (Option.some .int) false 2 0 0 0 [some (.ref 0), some (.int (nI p)), some (.int 2), some (.int x), none] [] [jb_main imm Im Tm rowm stkm tpm, jb_sch13 I W T, s2, s3, s4, s5, s6, s7, s8, jb_act Ia boa era, s10, s11] _
  have hr0 := hr
  have hk0 := hk
  obtain ⟨r0, r2, r3, r4, a0, a1, a2, rv, rs, rd⟩ := hr
  obtain ⟨k0, k1, k2, k3, k4, k5, k6, k7, kv, ks, kd⟩ := hk
  have q0 := kv p hp
  refine jb_aload_n (pc' := 1) dX11_voice_0 rfl rfl ?_
  refine jb_iload_n (pc' := 2) dX11_voice_1 rfl rfl ?_
  refine jb_callV (pc' := 5) (ci := 11) (q := 0) (As := [.int (nI p)]) (a2 := 0) (b2 := 0) wv_X11_92 rfl dX11_voice_2 (c_isNoVoiceG imm Im rowm stkm tpm Tm I W T hr0 hk0 p (by omega)) rfl rfl ⟨by decide, Nat.le_of_eq (Nat.zero_add _), Nat.le_of_eq (Nat.zero_add _)⟩ (Nat.le_of_ble_eq_true rfl) rfl (fun r h9 hq => ?_)
  obtain ⟨rfl, rfl⟩ := hq
  show jb_J _ RX11 cX11_voice 5 (Option.some .int) false 2 0 0 5 [some (.ref 0), some (.int (nI p)), some (.int 2), some (.int x), none] [.int 0] [jb_main imm Im Tm rowm stkm tpm, jb_sch13 I W T, s2, s3, s4, s5, s6, s7, s8, jb_act Ia boa era, s10, s11] _
  refine jb_if_ne (tgt := 17) (pc' := 8) dX11_voice_5 (by decide) rfl (fun z => absurd (by decide) z) (fun _ => ?_)
  refine jb_iload_n (pc' := 9) dX11_voice_8 rfl rfl ?_
  refine jb_iconst (pc' := 10) 0 dX11_voice_9 (by decide) rfl ?_
  refine jb_iconst (pc' := 11) 3 dX11_voice_10 (by decide) rfl ?_
  refine jb_callS (pc' := 14) (As := [.int 2, .int 0, .int 3]) (a2 := 0) (b2 := 0) wv_X11_74 dX11_voice_11 (c_isOutLG 2 0 3 (by omega) (by omega) (by omega)) rfl ⟨by decide, Nat.le_of_eq (Nat.zero_add _), Nat.le_of_eq (Nat.zero_add _)⟩ (Nat.le_of_ble_eq_true rfl) rfl (fun r h9 hq => ?_)
  obtain ⟨rfl, rfl⟩ := hq
  show jb_J _ RX11 cX11_voice 5 (Option.some .int) false 2 0 0 14 [some (.ref 0), some (.int (nI p)), some (.int 2), some (.int x), none] [.int 0] [jb_main imm Im Tm rowm stkm tpm, jb_sch13 I W T, s2, s3, s4, s5, s6, s7, s8, jb_act Ia boa era, s10, s11] _
  refine jb_if_eq (tgt := 23) (pc' := 17) dX11_voice_14 (by decide) rfl (fun _ => ?_) (fun z => absurd (by decide) z)
  refine jb_aload_n (pc' := 24) dX11_voice_23 rfl rfl ?_
  refine gf_X11_62 (pc' := 27) (v := .ref 102) dX11_voice_24 rfl rfl rfl ?_
  refine jb_iload_n (pc' := 28) dX11_voice_27 rfl rfl ?_
  refine jb_aload_n (pc' := 29) dX11_voice_28 rfl rfl ?_
  refine gf_X11_42 (pc' := 32) (v := .ref 13) dX11_voice_29 rfl rfl rfl ?_
  refine gf_X11_99 (pc' := 35) (v := .ref 15) dX11_voice_32 rfl rfl rfl ?_
  refine jb_iconst (pc' := 36) 1 dX11_voice_35 (by decide) rfl ?_
  refine jb_aaload (pc' := 37) (i9 := 1) (r := 17) (Or.inl rfl) dX11_voice_36 rfl jb_x1 (by decide) rfl rfl ?_
  refine jb_iload_n (pc' := 38) dX11_voice_37 rfl rfl ?_
  refine jb_iaload (pc' := 39) (i9 := p) (f := (W 2)) dX11_voice_38 rfl (jb_ix_nI (by omega)) (by omega) rfl ?_
  refine jb_top (v := .int ((W 2) p)) (w := .int (nI (V 2 p))) (jb_vI (rv p (by omega)).2.1) ?_
  refine jb_callV (pc' := 42) (ci := 0) (q := 102) (As := [.int (nI p), .int (nI (V 2 p))]) (a2 := 0) (b2 := 0) wv_X11_205 rfl dX11_voice_39 (c_begin imm Im rowm stkm tpm Tm Ia boa era (nI p) (nI (V 2 p))) rfl rfl ⟨by decide, Nat.le_of_eq (Nat.zero_add _), Nat.le_of_eq (Nat.zero_add _)⟩ (Nat.le_of_ble_eq_true rfl) rfl (fun r h9 hq => ?_)
  obtain ⟨rfl, A9, ha, hb, hc, rfl⟩ := hq
  show jb_J _ RX11 cX11_voice 5 (Option.some .int) false 2 0 0 42 [some (.ref 0), some (.int (nI p)), some (.int 2), some (.int x), none] [] [jb_main imm Im Tm rowm stkm tpm, jb_sch13 I W T, s2, s3, s4, s5, s6, s7, s8, jb_act A9 boa era, s10, s11] _
  refine jb_aload_n (pc' := 43) dX11_voice_42 rfl rfl ?_
  refine gf_X11_42 (pc' := 46) (v := .ref 13) dX11_voice_43 rfl rfl rfl ?_
  refine jb_iload_n (pc' := 47) dX11_voice_46 rfl rfl ?_
  refine jb_callV (pc' := 50) (ci := 9) (q := 13) (As := [.int (nI p)]) (a2 := 0) (b2 := 0) wv_X11_209 rfl dX11_voice_47 (c_kindOf_13 imm Im rowm stkm tpm Tm I W T hr0 hk0 p hp) rfl rfl ⟨by decide, Nat.le_of_eq (Nat.zero_add _), Nat.le_of_eq (Nat.zero_add _)⟩ (Nat.le_of_ble_eq_true rfl) rfl (fun r h9 hq => ?_)
  obtain ⟨rfl, rfl⟩ := hq
  rw [hkd]
  show jb_J _ RX11 cX11_voice 5 (Option.some .int) false 2 0 0 50 [some (.ref 0), some (.int (nI p)), some (.int 2), some (.int x), none] [.ref 10] [jb_main imm Im Tm rowm stkm tpm, jb_sch13 I W T, s2, s3, s4, s5, s6, s7, s8, jb_act A9 boa era, s10, s11] _
  refine jb_astore_ (pc' := 52) dX11_voice_50 (by decide) (jb_at4 rfl) rfl ?_
  refine jb_iload_n (pc' := 53) dX11_voice_52 rfl rfl ?_
  refine jb_tableIn (pc' := 102) (off := 49) dX11_voice_53 (by decide) (by decide) (by decide +kernel) (by decide) ?_
  refine jb_aload (pc' := 104) dX11_voice_102 rfl rfl ?_
  refine jb_aload_n (pc' := 105) dX11_voice_104 rfl rfl ?_
  refine gf_X11_62 (pc' := 108) (v := .ref 102) dX11_voice_105 rfl rfl rfl ?_
  refine jb_iload_n (pc' := 109) dX11_voice_108 rfl rfl ?_
  refine jb_callU (pc' := 112) (ci := 3) (q := 10) (As := [.ref 102, .int x]) (a2 := 0) (b2 := 0) wv_X11_220_X3 rfl dX11_voice_109 (ca_X7_waits_10 imm Im rowm stkm tpm Tm A9 boa era (nI p) (nI (V 2 p)) 0 ha hb hc (by omega) x) rfl rfl ⟨by decide, Nat.le_of_eq (Nat.zero_add _), Nat.le_of_eq (Nat.zero_add _)⟩ (Nat.le_of_ble_eq_true rfl) rfl (fun r h9 hq => ?_)
  obtain ⟨rfl, A8, ha8, hb8, hc8, rfl⟩ := hq
  show jb_J _ RX11 cX11_voice 5 (Option.some .int) false 2 0 0 112 [some (.ref 0), some (.int (nI p)), some (.int 2), some (.int x), some (.ref 10)] [.int ((x) - (nI (V 2 p)))] [jb_main imm Im Tm rowm stkm tpm, jb_sch13 I W T, s2, s3, s4, s5, s6, s7, s8, jb_act A8 (jp_wr boa 0 [12]) era, s10, s11] _
  refine jb_iret dX11_voice_112 rfl ?_
  exact ⟨rfl, A8, by rw [hc8], rfl⟩
set_option maxRecDepth 100000 in
set_option maxHeartbeats 4000000 in
theorem kx_voice3_4 {sc : Nat × (Nat → Int32)} {s2 s3 s4 s5 s6 s7 s8 s10 s11 : List va_E} {V : Nat → Nat → Nat} (imm : Int32) (Im rowm stkm tpm : Nat → Int32) (Tm : Nat → Value) (I : Nat → Int32) (W : Nat → Nat → Int32) (T : Nat → Value) (Ia boa era : Nat → Int32) (hr : jr_ V I W) (hk : jv_ok V) (p : Nat) (hp : p < V 0 1) (hkd : V 1 p = 4) (x : Int32) : jb_C sc yX11_voice cX11_voice 5 (Option.some .int) 6 0 0 [.ref 0, .int (nI p), .int 3, .int x] [jb_main imm Im Tm rowm stkm tpm, jb_sch13 I W T, s2, s3, s4, s5, s6, s7, s8, jb_act Ia boa era, s10, s11] (fun r h9 => r = some (.int ((((((x) + 1) + (nI p)) * 2) - ((1) - (nI (V 2 p)))) ^^^ ((x) - (nI (V 2 p))))) ∧ ∃ A9, A9 2 = nI 7 ∧ h9 = [jb_main imm Im Tm rowm stkm tpm, jb_sch13 I W T, s2, s3, s4, s5, s6, s7, s8, jb_act A9 (jp_wr boa 0 [13, 50, 20, 11, 10, 12, 12]) era, s10, s11]) := by
  refine jb_CofJ (ini := false) (by decide +kernel) (fun h => by cases h) (Nat.le_of_ble_eq_true rfl) ?_
  show jb_J sc RX11 cX11_voice 5 (Option.some .int) false 6 0 0 0 [some (.ref 0), some (.int (nI p)), some (.int 3), some (.int x), none] [] [jb_main imm Im Tm rowm stkm tpm, jb_sch13 I W T, s2, s3, s4, s5, s6, s7, s8, jb_act Ia boa era, s10, s11] _
  have hr0 := hr
  have hk0 := hk
  obtain ⟨r0, r2, r3, r4, a0, a1, a2, rv, rs, rd⟩ := hr
  obtain ⟨k0, k1, k2, k3, k4, k5, k6, k7, kv, ks, kd⟩ := hk
  have q0 := kv p hp
  refine jb_aload_n (pc' := 1) dX11_voice_0 rfl rfl ?_
  refine jb_iload_n (pc' := 2) dX11_voice_1 rfl rfl ?_
  refine jb_callV (pc' := 5) (ci := 11) (q := 0) (As := [.int (nI p)]) (a2 := 0) (b2 := 0) wv_X11_92 rfl dX11_voice_2 (c_isNoVoiceG imm Im rowm stkm tpm Tm I W T hr0 hk0 p (by omega)) rfl rfl ⟨by decide, Nat.le_of_eq (Nat.zero_add _), Nat.le_of_eq (Nat.zero_add _)⟩ (Nat.le_of_ble_eq_true rfl) rfl (fun r h9 hq => ?_)
  obtain ⟨rfl, rfl⟩ := hq
  show jb_J _ RX11 cX11_voice 5 (Option.some .int) false 6 0 0 5 [some (.ref 0), some (.int (nI p)), some (.int 3), some (.int x), none] [.int 0] [jb_main imm Im Tm rowm stkm tpm, jb_sch13 I W T, s2, s3, s4, s5, s6, s7, s8, jb_act Ia boa era, s10, s11] _
  refine jb_if_ne (tgt := 17) (pc' := 8) dX11_voice_5 (by decide) rfl (fun z => absurd (by decide) z) (fun _ => ?_)
  refine jb_iload_n (pc' := 9) dX11_voice_8 rfl rfl ?_
  refine jb_iconst (pc' := 10) 0 dX11_voice_9 (by decide) rfl ?_
  refine jb_iconst (pc' := 11) 3 dX11_voice_10 (by decide) rfl ?_
  refine jb_callS (pc' := 14) (As := [.int 3, .int 0, .int 3]) (a2 := 0) (b2 := 0) wv_X11_74 dX11_voice_11 (c_isOutLG 3 0 3 (by omega) (by omega) (by omega)) rfl ⟨by decide, Nat.le_of_eq (Nat.zero_add _), Nat.le_of_eq (Nat.zero_add _)⟩ (Nat.le_of_ble_eq_true rfl) rfl (fun r h9 hq => ?_)
  obtain ⟨rfl, rfl⟩ := hq
  show jb_J _ RX11 cX11_voice 5 (Option.some .int) false 6 0 0 14 [some (.ref 0), some (.int (nI p)), some (.int 3), some (.int x), none] [.int 0] [jb_main imm Im Tm rowm stkm tpm, jb_sch13 I W T, s2, s3, s4, s5, s6, s7, s8, jb_act Ia boa era, s10, s11] _
  refine jb_if_eq (tgt := 23) (pc' := 17) dX11_voice_14 (by decide) rfl (fun _ => ?_) (fun z => absurd (by decide) z)
  refine jb_aload_n (pc' := 24) dX11_voice_23 rfl rfl ?_
  refine gf_X11_62 (pc' := 27) (v := .ref 102) dX11_voice_24 rfl rfl rfl ?_
  refine jb_iload_n (pc' := 28) dX11_voice_27 rfl rfl ?_
  refine jb_aload_n (pc' := 29) dX11_voice_28 rfl rfl ?_
  refine gf_X11_42 (pc' := 32) (v := .ref 13) dX11_voice_29 rfl rfl rfl ?_
  refine gf_X11_99 (pc' := 35) (v := .ref 15) dX11_voice_32 rfl rfl rfl ?_
  refine jb_iconst (pc' := 36) 1 dX11_voice_35 (by decide) rfl ?_
  refine jb_aaload (pc' := 37) (i9 := 1) (r := 17) (Or.inl rfl) dX11_voice_36 rfl jb_x1 (by decide) rfl rfl ?_
  refine jb_iload_n (pc' := 38) dX11_voice_37 rfl rfl ?_
  refine jb_iaload (pc' := 39) (i9 := p) (f := (W 2)) dX11_voice_38 rfl (jb_ix_nI (by omega)) (by omega) rfl ?_
  refine jb_top (v := .int ((W 2) p)) (w := .int (nI (V 2 p))) (jb_vI (rv p (by omega)).2.1) ?_
  refine jb_callV (pc' := 42) (ci := 0) (q := 102) (As := [.int (nI p), .int (nI (V 2 p))]) (a2 := 0) (b2 := 0) wv_X11_205 rfl dX11_voice_39 (c_begin imm Im rowm stkm tpm Tm Ia boa era (nI p) (nI (V 2 p))) rfl rfl ⟨by decide, Nat.le_of_eq (Nat.zero_add _), Nat.le_of_eq (Nat.zero_add _)⟩ (Nat.le_of_ble_eq_true rfl) rfl (fun r h9 hq => ?_)
  obtain ⟨rfl, A9, ha, hb, hc, rfl⟩ := hq
  show jb_J _ RX11 cX11_voice 5 (Option.some .int) false 6 0 0 42 [some (.ref 0), some (.int (nI p)), some (.int 3), some (.int x), none] [] [jb_main imm Im Tm rowm stkm tpm, jb_sch13 I W T, s2, s3, s4, s5, s6, s7, s8, jb_act A9 boa era, s10, s11] _
  refine jb_aload_n (pc' := 43) dX11_voice_42 rfl rfl ?_
  refine gf_X11_42 (pc' := 46) (v := .ref 13) dX11_voice_43 rfl rfl rfl ?_
  refine jb_iload_n (pc' := 47) dX11_voice_46 rfl rfl ?_
  refine jb_callV (pc' := 50) (ci := 9) (q := 13) (As := [.int (nI p)]) (a2 := 0) (b2 := 0) wv_X11_209 rfl dX11_voice_47 (c_kindOf_13 imm Im rowm stkm tpm Tm I W T hr0 hk0 p hp) rfl rfl ⟨by decide, Nat.le_of_eq (Nat.zero_add _), Nat.le_of_eq (Nat.zero_add _)⟩ (Nat.le_of_ble_eq_true rfl) rfl (fun r h9 hq => ?_)
  obtain ⟨rfl, rfl⟩ := hq
  rw [hkd]
  show jb_J _ RX11 cX11_voice 5 (Option.some .int) false 6 0 0 50 [some (.ref 0), some (.int (nI p)), some (.int 3), some (.int x), none] [.ref 10] [jb_main imm Im Tm rowm stkm tpm, jb_sch13 I W T, s2, s3, s4, s5, s6, s7, s8, jb_act A9 boa era, s10, s11] _
  refine jb_astore_ (pc' := 52) dX11_voice_50 (by decide) (jb_at4 rfl) rfl ?_
  refine jb_iload_n (pc' := 53) dX11_voice_52 rfl rfl ?_
  refine jb_tableOut (pc' := 113) dX11_voice_53 (by decide) (by decide) ?_
  refine jb_aload (pc' := 115) dX11_voice_113 rfl rfl ?_
  refine jb_aload_n (pc' := 116) dX11_voice_115 rfl rfl ?_
  refine gf_X11_62 (pc' := 119) (v := .ref 102) dX11_voice_116 rfl rfl rfl ?_
  refine jb_iload_n (pc' := 120) dX11_voice_119 rfl rfl ?_
  refine jb_callU (pc' := 123) (ci := 3) (q := 10) (As := [.ref 102, .int x]) (a2 := 0) (b2 := 0) wv_X11_223_X3 rfl dX11_voice_120 (ca_X7_tells_10 imm Im rowm stkm tpm Tm A9 boa era (nI p) (nI (V 2 p)) 0 ha hb hc (by omega) x) rfl rfl ⟨by decide, Nat.le_of_eq (Nat.zero_add _), Nat.le_of_eq (Nat.zero_add _)⟩ (Nat.le_of_ble_eq_true rfl) rfl (fun r h9 hq => ?_)
  obtain ⟨rfl, A8, ha8, hb8, hc8, rfl⟩ := hq
  show jb_J _ RX11 cX11_voice 5 (Option.some .int) false 6 0 0 123 [some (.ref 0), some (.int (nI p)), some (.int 3), some (.int x), some (.ref 10)] [.int ((((((x) + 1) + (nI p)) * 2) - ((1) - (nI (V 2 p)))) ^^^ ((x) - (nI (V 2 p))))] [jb_main imm Im Tm rowm stkm tpm, jb_sch13 I W T, s2, s3, s4, s5, s6, s7, s8, jb_act A8 (jp_wr boa 0 [13, 50, 20, 11, 10, 12, 12]) era, s10, s11] _
  refine jb_iret dX11_voice_123 rfl ?_
  exact ⟨rfl, A8, by rw [hc8], rfl⟩
set_option maxRecDepth 100000 in
set_option maxHeartbeats 4000000 in
theorem kx_voice0_5 {sc : Nat × (Nat → Int32)} {s2 s3 s4 s5 s6 s7 s8 s10 s11 : List va_E} {V : Nat → Nat → Nat} (imm : Int32) (Im rowm stkm tpm : Nat → Int32) (Tm : Nat → Value) (I : Nat → Int32) (W : Nat → Nat → Int32) (T : Nat → Value) (Ia boa era : Nat → Int32) (hr : jr_ V I W) (hk : jv_ok V) (p : Nat) (hp : p < V 0 1) (hkd : V 1 p = 5) (x : Int32) : jb_C sc yX11_voice cX11_voice 5 (Option.some .int) 3 0 0 [.ref 0, .int (nI p), .int 0, .int x] [jb_main imm Im Tm rowm stkm tpm, jb_sch13 I W T, s2, s3, s4, s5, s6, s7, s8, jb_act Ia boa era, s10, s11] (fun r h9 => r = some (.int (((x) + (nI p)) * 3)) ∧ ∃ A9, A9 2 = nI 2 ∧ h9 = [jb_main imm Im Tm rowm stkm tpm, jb_sch13 I W T, s2, s3, s4, s5, s6, s7, s8, jb_act A9 (jp_wr boa 0 [30, 10]) era, s10, s11]) := by
  refine jb_CofJ (ini := false) (by decide +kernel) (fun h => by cases h) (Nat.le_of_ble_eq_true rfl) ?_
  show jb_J sc RX11 cX11_voice 5 (Option.some .int) false 3 0 0 0 [some (.ref 0), some (.int (nI p)), some (.int 0), some (.int x), none] [] [jb_main imm Im Tm rowm stkm tpm, jb_sch13 I W T, s2, s3, s4, s5, s6, s7, s8, jb_act Ia boa era, s10, s11] _
  have hr0 := hr
  have hk0 := hk
  obtain ⟨r0, r2, r3, r4, a0, a1, a2, rv, rs, rd⟩ := hr
  obtain ⟨k0, k1, k2, k3, k4, k5, k6, k7, kv, ks, kd⟩ := hk
  have q0 := kv p hp
  refine jb_aload_n (pc' := 1) dX11_voice_0 rfl rfl ?_
  refine jb_iload_n (pc' := 2) dX11_voice_1 rfl rfl ?_
  refine jb_callV (pc' := 5) (ci := 11) (q := 0) (As := [.int (nI p)]) (a2 := 0) (b2 := 0) wv_X11_92 rfl dX11_voice_2 (c_isNoVoiceG imm Im rowm stkm tpm Tm I W T hr0 hk0 p (by omega)) rfl rfl ⟨by decide, Nat.le_of_eq (Nat.zero_add _), Nat.le_of_eq (Nat.zero_add _)⟩ (Nat.le_of_ble_eq_true rfl) rfl (fun r h9 hq => ?_)
  obtain ⟨rfl, rfl⟩ := hq
  show jb_J _ RX11 cX11_voice 5 (Option.some .int) false 3 0 0 5 [some (.ref 0), some (.int (nI p)), some (.int 0), some (.int x), none] [.int 0] [jb_main imm Im Tm rowm stkm tpm, jb_sch13 I W T, s2, s3, s4, s5, s6, s7, s8, jb_act Ia boa era, s10, s11] _
  refine jb_if_ne (tgt := 17) (pc' := 8) dX11_voice_5 (by decide) rfl (fun z => absurd (by decide) z) (fun _ => ?_)
  refine jb_iload_n (pc' := 9) dX11_voice_8 rfl rfl ?_
  refine jb_iconst (pc' := 10) 0 dX11_voice_9 (by decide) rfl ?_
  refine jb_iconst (pc' := 11) 3 dX11_voice_10 (by decide) rfl ?_
  refine jb_callS (pc' := 14) (As := [.int 0, .int 0, .int 3]) (a2 := 0) (b2 := 0) wv_X11_74 dX11_voice_11 (c_isOutLG 0 0 3 (by omega) (by omega) (by omega)) rfl ⟨by decide, Nat.le_of_eq (Nat.zero_add _), Nat.le_of_eq (Nat.zero_add _)⟩ (Nat.le_of_ble_eq_true rfl) rfl (fun r h9 hq => ?_)
  obtain ⟨rfl, rfl⟩ := hq
  show jb_J _ RX11 cX11_voice 5 (Option.some .int) false 3 0 0 14 [some (.ref 0), some (.int (nI p)), some (.int 0), some (.int x), none] [.int 0] [jb_main imm Im Tm rowm stkm tpm, jb_sch13 I W T, s2, s3, s4, s5, s6, s7, s8, jb_act Ia boa era, s10, s11] _
  refine jb_if_eq (tgt := 23) (pc' := 17) dX11_voice_14 (by decide) rfl (fun _ => ?_) (fun z => absurd (by decide) z)
  refine jb_aload_n (pc' := 24) dX11_voice_23 rfl rfl ?_
  refine gf_X11_62 (pc' := 27) (v := .ref 102) dX11_voice_24 rfl rfl rfl ?_
  refine jb_iload_n (pc' := 28) dX11_voice_27 rfl rfl ?_
  refine jb_aload_n (pc' := 29) dX11_voice_28 rfl rfl ?_
  refine gf_X11_42 (pc' := 32) (v := .ref 13) dX11_voice_29 rfl rfl rfl ?_
  refine gf_X11_99 (pc' := 35) (v := .ref 15) dX11_voice_32 rfl rfl rfl ?_
  refine jb_iconst (pc' := 36) 1 dX11_voice_35 (by decide) rfl ?_
  refine jb_aaload (pc' := 37) (i9 := 1) (r := 17) (Or.inl rfl) dX11_voice_36 rfl jb_x1 (by decide) rfl rfl ?_
  refine jb_iload_n (pc' := 38) dX11_voice_37 rfl rfl ?_
  refine jb_iaload (pc' := 39) (i9 := p) (f := (W 2)) dX11_voice_38 rfl (jb_ix_nI (by omega)) (by omega) rfl ?_
  refine jb_top (v := .int ((W 2) p)) (w := .int (nI (V 2 p))) (jb_vI (rv p (by omega)).2.1) ?_
  refine jb_callV (pc' := 42) (ci := 0) (q := 102) (As := [.int (nI p), .int (nI (V 2 p))]) (a2 := 0) (b2 := 0) wv_X11_205 rfl dX11_voice_39 (c_begin imm Im rowm stkm tpm Tm Ia boa era (nI p) (nI (V 2 p))) rfl rfl ⟨by decide, Nat.le_of_eq (Nat.zero_add _), Nat.le_of_eq (Nat.zero_add _)⟩ (Nat.le_of_ble_eq_true rfl) rfl (fun r h9 hq => ?_)
  obtain ⟨rfl, A9, ha, hb, hc, rfl⟩ := hq
  show jb_J _ RX11 cX11_voice 5 (Option.some .int) false 3 0 0 42 [some (.ref 0), some (.int (nI p)), some (.int 0), some (.int x), none] [] [jb_main imm Im Tm rowm stkm tpm, jb_sch13 I W T, s2, s3, s4, s5, s6, s7, s8, jb_act A9 boa era, s10, s11] _
  refine jb_aload_n (pc' := 43) dX11_voice_42 rfl rfl ?_
  refine gf_X11_42 (pc' := 46) (v := .ref 13) dX11_voice_43 rfl rfl rfl ?_
  refine jb_iload_n (pc' := 47) dX11_voice_46 rfl rfl ?_
  refine jb_callV (pc' := 50) (ci := 9) (q := 13) (As := [.int (nI p)]) (a2 := 0) (b2 := 0) wv_X11_209 rfl dX11_voice_47 (c_kindOf_13 imm Im rowm stkm tpm Tm I W T hr0 hk0 p hp) rfl rfl ⟨by decide, Nat.le_of_eq (Nat.zero_add _), Nat.le_of_eq (Nat.zero_add _)⟩ (Nat.le_of_ble_eq_true rfl) rfl (fun r h9 hq => ?_)
  obtain ⟨rfl, rfl⟩ := hq
  rw [hkd]
  show jb_J _ RX11 cX11_voice 5 (Option.some .int) false 3 0 0 50 [some (.ref 0), some (.int (nI p)), some (.int 0), some (.int x), none] [.ref 11] [jb_main imm Im Tm rowm stkm tpm, jb_sch13 I W T, s2, s3, s4, s5, s6, s7, s8, jb_act A9 boa era, s10, s11] _
  refine jb_astore_ (pc' := 52) dX11_voice_50 (by decide) (jb_at4 rfl) rfl ?_
  refine jb_iload_n (pc' := 53) dX11_voice_52 rfl rfl ?_
  refine jb_tableIn (pc' := 80) (off := 27) dX11_voice_53 (by decide) (by decide) (by decide +kernel) (by decide) ?_
  refine jb_aload (pc' := 82) dX11_voice_80 rfl rfl ?_
  refine jb_aload_n (pc' := 83) dX11_voice_82 rfl rfl ?_
  refine gf_X11_62 (pc' := 86) (v := .ref 102) dX11_voice_83 rfl rfl rfl ?_
  refine jb_iload_n (pc' := 87) dX11_voice_86 rfl rfl ?_
  refine jb_callU (pc' := 90) (ci := 4) (q := 11) (As := [.ref 102, .int x]) (a2 := 0) (b2 := 0) wv_X11_213_X4 rfl dX11_voice_87 (ca_X5_calls_11 imm Im rowm stkm tpm Tm A9 boa era (nI p) (nI (V 2 p)) 0 ha hb hc (by omega) x) rfl rfl ⟨by decide, Nat.le_of_eq (Nat.zero_add _), Nat.le_of_eq (Nat.zero_add _)⟩ (Nat.le_of_ble_eq_true rfl) rfl (fun r h9 hq => ?_)
  obtain ⟨rfl, A8, ha8, hb8, hc8, rfl⟩ := hq
  show jb_J _ RX11 cX11_voice 5 (Option.some .int) false 3 0 0 90 [some (.ref 0), some (.int (nI p)), some (.int 0), some (.int x), some (.ref 11)] [.int (((x) + (nI p)) * 3)] [jb_main imm Im Tm rowm stkm tpm, jb_sch13 I W T, s2, s3, s4, s5, s6, s7, s8, jb_act A8 (jp_wr boa 0 [30, 10]) era, s10, s11] _
  refine jb_iret dX11_voice_90 rfl ?_
  exact ⟨rfl, A8, by rw [hc8], rfl⟩
set_option maxRecDepth 100000 in
set_option maxHeartbeats 4000000 in
theorem kx_voice1_5 {sc : Nat × (Nat → Int32)} {s2 s3 s4 s5 s6 s7 s8 s10 s11 : List va_E} {V : Nat → Nat → Nat} (imm : Int32) (Im rowm stkm tpm : Nat → Int32) (Tm : Nat → Value) (I : Nat → Int32) (W : Nat → Nat → Int32) (T : Nat → Value) (Ia boa era : Nat → Int32) (hr : jr_ V I W) (hk : jv_ok V) (p : Nat) (hp : p < V 0 1) (hkd : V 1 p = 5) (x : Int32) : jb_C sc yX11_voice cX11_voice 5 (Option.some .int) 4 0 0 [.ref 0, .int (nI p), .int 1, .int x] [jb_main imm Im Tm rowm stkm tpm, jb_sch13 I W T, s2, s3, s4, s5, s6, s7, s8, jb_act Ia boa era, s10, s11] (fun r h9 => r = some (.int ((((x) + (nI p)) * 3) * 2)) ∧ ∃ A9, A9 2 = nI 3 ∧ h9 = [jb_main imm Im Tm rowm stkm tpm, jb_sch13 I W T, s2, s3, s4, s5, s6, s7, s8, jb_act A9 (jp_wr boa 0 [11, 30, 10]) era, s10, s11]) := by
  refine jb_CofJ (ini := false) (by decide +kernel) (fun h => by cases h) (Nat.le_of_ble_eq_true rfl) ?_
  show jb_J sc RX11 cX11_voice 5 (Option.some .int) false 4 0 0 0 [some (.ref 0), some (.int (nI p)), some (.int 1), some (.int x), none] [] [jb_main imm Im Tm rowm stkm tpm, jb_sch13 I W T, s2, s3, s4, s5, s6, s7, s8, jb_act Ia boa era, s10, s11] _
  have hr0 := hr
  have hk0 := hk
  obtain ⟨r0, r2, r3, r4, a0, a1, a2, rv, rs, rd⟩ := hr
  obtain ⟨k0, k1, k2, k3, k4, k5, k6, k7, kv, ks, kd⟩ := hk
  have q0 := kv p hp
  refine jb_aload_n (pc' := 1) dX11_voice_0 rfl rfl ?_
  refine jb_iload_n (pc' := 2) dX11_voice_1 rfl rfl ?_
  refine jb_callV (pc' := 5) (ci := 11) (q := 0) (As := [.int (nI p)]) (a2 := 0) (b2 := 0) wv_X11_92 rfl dX11_voice_2 (c_isNoVoiceG imm Im rowm stkm tpm Tm I W T hr0 hk0 p (by omega)) rfl rfl ⟨by decide, Nat.le_of_eq (Nat.zero_add _), Nat.le_of_eq (Nat.zero_add _)⟩ (Nat.le_of_ble_eq_true rfl) rfl (fun r h9 hq => ?_)
  obtain ⟨rfl, rfl⟩ := hq
  show jb_J _ RX11 cX11_voice 5 (Option.some .int) false 4 0 0 5 [some (.ref 0), some (.int (nI p)), some (.int 1), some (.int x), none] [.int 0] [jb_main imm Im Tm rowm stkm tpm, jb_sch13 I W T, s2, s3, s4, s5, s6, s7, s8, jb_act Ia boa era, s10, s11] _
  refine jb_if_ne (tgt := 17) (pc' := 8) dX11_voice_5 (by decide) rfl (fun z => absurd (by decide) z) (fun _ => ?_)
  refine jb_iload_n (pc' := 9) dX11_voice_8 rfl rfl ?_
  refine jb_iconst (pc' := 10) 0 dX11_voice_9 (by decide) rfl ?_
  refine jb_iconst (pc' := 11) 3 dX11_voice_10 (by decide) rfl ?_
  refine jb_callS (pc' := 14) (As := [.int 1, .int 0, .int 3]) (a2 := 0) (b2 := 0) wv_X11_74 dX11_voice_11 (c_isOutLG 1 0 3 (by omega) (by omega) (by omega)) rfl ⟨by decide, Nat.le_of_eq (Nat.zero_add _), Nat.le_of_eq (Nat.zero_add _)⟩ (Nat.le_of_ble_eq_true rfl) rfl (fun r h9 hq => ?_)
  obtain ⟨rfl, rfl⟩ := hq
  show jb_J _ RX11 cX11_voice 5 (Option.some .int) false 4 0 0 14 [some (.ref 0), some (.int (nI p)), some (.int 1), some (.int x), none] [.int 0] [jb_main imm Im Tm rowm stkm tpm, jb_sch13 I W T, s2, s3, s4, s5, s6, s7, s8, jb_act Ia boa era, s10, s11] _
  refine jb_if_eq (tgt := 23) (pc' := 17) dX11_voice_14 (by decide) rfl (fun _ => ?_) (fun z => absurd (by decide) z)
  refine jb_aload_n (pc' := 24) dX11_voice_23 rfl rfl ?_
  refine gf_X11_62 (pc' := 27) (v := .ref 102) dX11_voice_24 rfl rfl rfl ?_
  refine jb_iload_n (pc' := 28) dX11_voice_27 rfl rfl ?_
  refine jb_aload_n (pc' := 29) dX11_voice_28 rfl rfl ?_
  refine gf_X11_42 (pc' := 32) (v := .ref 13) dX11_voice_29 rfl rfl rfl ?_
  refine gf_X11_99 (pc' := 35) (v := .ref 15) dX11_voice_32 rfl rfl rfl ?_
  refine jb_iconst (pc' := 36) 1 dX11_voice_35 (by decide) rfl ?_
  refine jb_aaload (pc' := 37) (i9 := 1) (r := 17) (Or.inl rfl) dX11_voice_36 rfl jb_x1 (by decide) rfl rfl ?_
  refine jb_iload_n (pc' := 38) dX11_voice_37 rfl rfl ?_
  refine jb_iaload (pc' := 39) (i9 := p) (f := (W 2)) dX11_voice_38 rfl (jb_ix_nI (by omega)) (by omega) rfl ?_
  refine jb_top (v := .int ((W 2) p)) (w := .int (nI (V 2 p))) (jb_vI (rv p (by omega)).2.1) ?_
  refine jb_callV (pc' := 42) (ci := 0) (q := 102) (As := [.int (nI p), .int (nI (V 2 p))]) (a2 := 0) (b2 := 0) wv_X11_205 rfl dX11_voice_39 (c_begin imm Im rowm stkm tpm Tm Ia boa era (nI p) (nI (V 2 p))) rfl rfl ⟨by decide, Nat.le_of_eq (Nat.zero_add _), Nat.le_of_eq (Nat.zero_add _)⟩ (Nat.le_of_ble_eq_true rfl) rfl (fun r h9 hq => ?_)
  obtain ⟨rfl, A9, ha, hb, hc, rfl⟩ := hq
  show jb_J _ RX11 cX11_voice 5 (Option.some .int) false 4 0 0 42 [some (.ref 0), some (.int (nI p)), some (.int 1), some (.int x), none] [] [jb_main imm Im Tm rowm stkm tpm, jb_sch13 I W T, s2, s3, s4, s5, s6, s7, s8, jb_act A9 boa era, s10, s11] _
  refine jb_aload_n (pc' := 43) dX11_voice_42 rfl rfl ?_
  refine gf_X11_42 (pc' := 46) (v := .ref 13) dX11_voice_43 rfl rfl rfl ?_
  refine jb_iload_n (pc' := 47) dX11_voice_46 rfl rfl ?_
  refine jb_callV (pc' := 50) (ci := 9) (q := 13) (As := [.int (nI p)]) (a2 := 0) (b2 := 0) wv_X11_209 rfl dX11_voice_47 (c_kindOf_13 imm Im rowm stkm tpm Tm I W T hr0 hk0 p hp) rfl rfl ⟨by decide, Nat.le_of_eq (Nat.zero_add _), Nat.le_of_eq (Nat.zero_add _)⟩ (Nat.le_of_ble_eq_true rfl) rfl (fun r h9 hq => ?_)
  obtain ⟨rfl, rfl⟩ := hq
  rw [hkd]
  show jb_J _ RX11 cX11_voice 5 (Option.some .int) false 4 0 0 50 [some (.ref 0), some (.int (nI p)), some (.int 1), some (.int x), none] [.ref 11] [jb_main imm Im Tm rowm stkm tpm, jb_sch13 I W T, s2, s3, s4, s5, s6, s7, s8, jb_act A9 boa era, s10, s11] _
  refine jb_astore_ (pc' := 52) dX11_voice_50 (by decide) (jb_at4 rfl) rfl ?_
  refine jb_iload_n (pc' := 53) dX11_voice_52 rfl rfl ?_
  refine jb_tableIn (pc' := 91) (off := 38) dX11_voice_53 (by decide) (by decide) (by decide +kernel) (by decide) ?_
  refine jb_aload (pc' := 93) dX11_voice_91 rfl rfl ?_
  refine jb_aload_n (pc' := 94) dX11_voice_93 rfl rfl ?_
  refine gf_X11_62 (pc' := 97) (v := .ref 102) dX11_voice_94 rfl rfl rfl ?_
  refine jb_iload_n (pc' := 98) dX11_voice_97 rfl rfl ?_
  refine jb_callU (pc' := 101) (ci := 4) (q := 11) (As := [.ref 102, .int x]) (a2 := 0) (b2 := 0) wv_X11_217_X4 rfl dX11_voice_98 (ca_X7_hears_11 imm Im rowm stkm tpm Tm A9 boa era (nI p) (nI (V 2 p)) 0 ha hb hc (by omega) x) rfl rfl ⟨by decide, Nat.le_of_eq (Nat.zero_add _), Nat.le_of_eq (Nat.zero_add _)⟩ (Nat.le_of_ble_eq_true rfl) rfl (fun r h9 hq => ?_)
  obtain ⟨rfl, A8, ha8, hb8, hc8, rfl⟩ := hq
  show jb_J _ RX11 cX11_voice 5 (Option.some .int) false 4 0 0 101 [some (.ref 0), some (.int (nI p)), some (.int 1), some (.int x), some (.ref 11)] [.int ((((x) + (nI p)) * 3) * 2)] [jb_main imm Im Tm rowm stkm tpm, jb_sch13 I W T, s2, s3, s4, s5, s6, s7, s8, jb_act A8 (jp_wr boa 0 [11, 30, 10]) era, s10, s11] _
  refine jb_iret dX11_voice_101 rfl ?_
  exact ⟨rfl, A8, by rw [hc8], rfl⟩
set_option maxRecDepth 100000 in
set_option maxHeartbeats 4000000 in
theorem kx_voice2_5 {sc : Nat × (Nat → Int32)} {s2 s3 s4 s5 s6 s7 s8 s10 s11 : List va_E} {V : Nat → Nat → Nat} (imm : Int32) (Im rowm stkm tpm : Nat → Int32) (Tm : Nat → Value) (I : Nat → Int32) (W : Nat → Nat → Int32) (T : Nat → Value) (Ia boa era : Nat → Int32) (hr : jr_ V I W) (hk : jv_ok V) (p : Nat) (hp : p < V 0 1) (hkd : V 1 p = 5) (x : Int32) : jb_C sc yX11_voice cX11_voice 5 (Option.some .int) 2 0 0 [.ref 0, .int (nI p), .int 2, .int x] [jb_main imm Im Tm rowm stkm tpm, jb_sch13 I W T, s2, s3, s4, s5, s6, s7, s8, jb_act Ia boa era, s10, s11] (fun r h9 => r = some (.int ((x) - (nI (V 2 p)))) ∧ ∃ A9, A9 2 = nI 1 ∧ h9 = [jb_main imm Im Tm rowm stkm tpm, jb_sch13 I W T, s2, s3, s4, s5, s6, s7, s8, jb_act A9 (jp_wr boa 0 [12]) era, s10, s11]) := by
  refine jb_CofJ (ini := false) (by decide +kernel) (fun h => by cases h) (Nat.le_of_ble_eq_true rfl) ?_
  show jb_J sc RX11 cX11_voice 5 (Option.some .int) false 2 0 0 0 [some (.ref 0), some (.int (nI p)), some (.int 2), some (.int x), none] [] [jb_main imm Im Tm rowm stkm tpm, jb_sch13 I W T, s2, s3, s4, s5, s6, s7, s8, jb_act Ia boa era, s10, s11] _
  have hr0 := hr
  have hk0 := hk
  obtain ⟨r0, r2, r3, r4, a0, a1, a2, rv, rs, rd⟩ := hr
  obtain ⟨k0, k1, k2, k3, k4, k5, k6, k7, kv, ks, kd⟩ := hk
  have q0 := kv p hp
  refine jb_aload_n (pc' := 1) dX11_voice_0 rfl rfl ?_
  refine jb_iload_n (pc' := 2) dX11_voice_1 rfl rfl ?_
  refine jb_callV (pc' := 5) (ci := 11) (q := 0) (As := [.int (nI p)]) (a2 := 0) (b2 := 0) wv_X11_92 rfl dX11_voice_2 (c_isNoVoiceG imm Im rowm stkm tpm Tm I W T hr0 hk0 p (by omega)) rfl rfl ⟨by decide, Nat.le_of_eq (Nat.zero_add _), Nat.le_of_eq (Nat.zero_add _)⟩ (Nat.le_of_ble_eq_true rfl) rfl (fun r h9 hq => ?_)
  obtain ⟨rfl, rfl⟩ := hq
  show jb_J _ RX11 cX11_voice 5 (Option.some .int) false 2 0 0 5 [some (.ref 0), some (.int (nI p)), some (.int 2), some (.int x), none] [.int 0] [jb_main imm Im Tm rowm stkm tpm, jb_sch13 I W T, s2, s3, s4, s5, s6, s7, s8, jb_act Ia boa era, s10, s11] _
  refine jb_if_ne (tgt := 17) (pc' := 8) dX11_voice_5 (by decide) rfl (fun z => absurd (by decide) z) (fun _ => ?_)
  refine jb_iload_n (pc' := 9) dX11_voice_8 rfl rfl ?_
  refine jb_iconst (pc' := 10) 0 dX11_voice_9 (by decide) rfl ?_
  refine jb_iconst (pc' := 11) 3 dX11_voice_10 (by decide) rfl ?_
  refine jb_callS (pc' := 14) (As := [.int 2, .int 0, .int 3]) (a2 := 0) (b2 := 0) wv_X11_74 dX11_voice_11 (c_isOutLG 2 0 3 (by omega) (by omega) (by omega)) rfl ⟨by decide, Nat.le_of_eq (Nat.zero_add _), Nat.le_of_eq (Nat.zero_add _)⟩ (Nat.le_of_ble_eq_true rfl) rfl (fun r h9 hq => ?_)
  obtain ⟨rfl, rfl⟩ := hq
  show jb_J _ RX11 cX11_voice 5 (Option.some .int) false 2 0 0 14 [some (.ref 0), some (.int (nI p)), some (.int 2), some (.int x), none] [.int 0] [jb_main imm Im Tm rowm stkm tpm, jb_sch13 I W T, s2, s3, s4, s5, s6, s7, s8, jb_act Ia boa era, s10, s11] _
  refine jb_if_eq (tgt := 23) (pc' := 17) dX11_voice_14 (by decide) rfl (fun _ => ?_) (fun z => absurd (by decide) z)
  refine jb_aload_n (pc' := 24) dX11_voice_23 rfl rfl ?_
  refine gf_X11_62 (pc' := 27) (v := .ref 102) dX11_voice_24 rfl rfl rfl ?_
  refine jb_iload_n (pc' := 28) dX11_voice_27 rfl rfl ?_
  refine jb_aload_n (pc' := 29) dX11_voice_28 rfl rfl ?_
  refine gf_X11_42 (pc' := 32) (v := .ref 13) dX11_voice_29 rfl rfl rfl ?_
  refine gf_X11_99 (pc' := 35) (v := .ref 15) dX11_voice_32 rfl rfl rfl ?_
  refine jb_iconst (pc' := 36) 1 dX11_voice_35 (by decide) rfl ?_
  refine jb_aaload (pc' := 37) (i9 := 1) (r := 17) (Or.inl rfl) dX11_voice_36 rfl jb_x1 (by decide) rfl rfl ?_
  refine jb_iload_n (pc' := 38) dX11_voice_37 rfl rfl ?_
  refine jb_iaload (pc' := 39) (i9 := p) (f := (W 2)) dX11_voice_38 rfl (jb_ix_nI (by omega)) (by omega) rfl ?_
  refine jb_top (v := .int ((W 2) p)) (w := .int (nI (V 2 p))) (jb_vI (rv p (by omega)).2.1) ?_
  refine jb_callV (pc' := 42) (ci := 0) (q := 102) (As := [.int (nI p), .int (nI (V 2 p))]) (a2 := 0) (b2 := 0) wv_X11_205 rfl dX11_voice_39 (c_begin imm Im rowm stkm tpm Tm Ia boa era (nI p) (nI (V 2 p))) rfl rfl ⟨by decide, Nat.le_of_eq (Nat.zero_add _), Nat.le_of_eq (Nat.zero_add _)⟩ (Nat.le_of_ble_eq_true rfl) rfl (fun r h9 hq => ?_)
  obtain ⟨rfl, A9, ha, hb, hc, rfl⟩ := hq
  show jb_J _ RX11 cX11_voice 5 (Option.some .int) false 2 0 0 42 [some (.ref 0), some (.int (nI p)), some (.int 2), some (.int x), none] [] [jb_main imm Im Tm rowm stkm tpm, jb_sch13 I W T, s2, s3, s4, s5, s6, s7, s8, jb_act A9 boa era, s10, s11] _
  refine jb_aload_n (pc' := 43) dX11_voice_42 rfl rfl ?_
  refine gf_X11_42 (pc' := 46) (v := .ref 13) dX11_voice_43 rfl rfl rfl ?_
  refine jb_iload_n (pc' := 47) dX11_voice_46 rfl rfl ?_
  refine jb_callV (pc' := 50) (ci := 9) (q := 13) (As := [.int (nI p)]) (a2 := 0) (b2 := 0) wv_X11_209 rfl dX11_voice_47 (c_kindOf_13 imm Im rowm stkm tpm Tm I W T hr0 hk0 p hp) rfl rfl ⟨by decide, Nat.le_of_eq (Nat.zero_add _), Nat.le_of_eq (Nat.zero_add _)⟩ (Nat.le_of_ble_eq_true rfl) rfl (fun r h9 hq => ?_)
  obtain ⟨rfl, rfl⟩ := hq
  rw [hkd]
  show jb_J _ RX11 cX11_voice 5 (Option.some .int) false 2 0 0 50 [some (.ref 0), some (.int (nI p)), some (.int 2), some (.int x), none] [.ref 11] [jb_main imm Im Tm rowm stkm tpm, jb_sch13 I W T, s2, s3, s4, s5, s6, s7, s8, jb_act A9 boa era, s10, s11] _
  refine jb_astore_ (pc' := 52) dX11_voice_50 (by decide) (jb_at4 rfl) rfl ?_
  refine jb_iload_n (pc' := 53) dX11_voice_52 rfl rfl ?_
  refine jb_tableIn (pc' := 102) (off := 49) dX11_voice_53 (by decide) (by decide) (by decide +kernel) (by decide) ?_
  refine jb_aload (pc' := 104) dX11_voice_102 rfl rfl ?_
  refine jb_aload_n (pc' := 105) dX11_voice_104 rfl rfl ?_
  refine gf_X11_62 (pc' := 108) (v := .ref 102) dX11_voice_105 rfl rfl rfl ?_
  refine jb_iload_n (pc' := 109) dX11_voice_108 rfl rfl ?_
  refine jb_callU (pc' := 112) (ci := 4) (q := 11) (As := [.ref 102, .int x]) (a2 := 0) (b2 := 0) wv_X11_220_X4 rfl dX11_voice_109 (ca_X7_waits_11 imm Im rowm stkm tpm Tm A9 boa era (nI p) (nI (V 2 p)) 0 ha hb hc (by omega) x) rfl rfl ⟨by decide, Nat.le_of_eq (Nat.zero_add _), Nat.le_of_eq (Nat.zero_add _)⟩ (Nat.le_of_ble_eq_true rfl) rfl (fun r h9 hq => ?_)
  obtain ⟨rfl, A8, ha8, hb8, hc8, rfl⟩ := hq
  show jb_J _ RX11 cX11_voice 5 (Option.some .int) false 2 0 0 112 [some (.ref 0), some (.int (nI p)), some (.int 2), some (.int x), some (.ref 11)] [.int ((x) - (nI (V 2 p)))] [jb_main imm Im Tm rowm stkm tpm, jb_sch13 I W T, s2, s3, s4, s5, s6, s7, s8, jb_act A8 (jp_wr boa 0 [12]) era, s10, s11] _
  refine jb_iret dX11_voice_112 rfl ?_
  exact ⟨rfl, A8, by rw [hc8], rfl⟩
set_option maxRecDepth 100000 in
set_option maxHeartbeats 4000000 in
theorem kx_voice3_5 {sc : Nat × (Nat → Int32)} {s2 s3 s4 s5 s6 s7 s8 s10 s11 : List va_E} {V : Nat → Nat → Nat} (imm : Int32) (Im rowm stkm tpm : Nat → Int32) (Tm : Nat → Value) (I : Nat → Int32) (W : Nat → Nat → Int32) (T : Nat → Value) (Ia boa era : Nat → Int32) (hr : jr_ V I W) (hk : jv_ok V) (p : Nat) (hp : p < V 0 1) (hkd : V 1 p = 5) (x : Int32) : jb_C sc yX11_voice cX11_voice 5 (Option.some .int) 6 0 0 [.ref 0, .int (nI p), .int 3, .int x] [jb_main imm Im Tm rowm stkm tpm, jb_sch13 I W T, s2, s3, s4, s5, s6, s7, s8, jb_act Ia boa era, s10, s11] (fun r h9 => r = some (.int ((((((x) + (nI p)) * 3) * 2) ^^^ ((x) - (nI (V 2 p)))) - (((2) + (nI p)) * 3))) ∧ ∃ A9, A9 2 = nI 8 ∧ h9 = [jb_main imm Im Tm rowm stkm tpm, jb_sch13 I W T, s2, s3, s4, s5, s6, s7, s8, jb_act A9 (jp_wr boa 0 [60, 13, 11, 30, 10, 12, 30, 10]) era, s10, s11]) := by
  refine jb_CofJ (ini := false) (by decide +kernel) (fun h => by cases h) (Nat.le_of_ble_eq_true rfl) ?_
  show jb_J sc RX11 cX11_voice 5 (Option.some .int) false 6 0 0 0 [some (.ref 0), some (.int (nI p)), some (.int 3), some (.int x), none] [] [jb_main imm Im Tm rowm stkm tpm, jb_sch13 I W T, s2, s3, s4, s5, s6, s7, s8, jb_act Ia boa era, s10, s11] _
  have hr0 := hr
  have hk0 := hk
  obtain ⟨r0, r2, r3, r4, a0, a1, a2, rv, rs, rd⟩ := hr
  obtain ⟨k0, k1, k2, k3, k4, k5, k6, k7, kv, ks, kd⟩ := hk
  have q0 := kv p hp
  refine jb_aload_n (pc' := 1) dX11_voice_0 rfl rfl ?_
  refine jb_iload_n (pc' := 2) dX11_voice_1 rfl rfl ?_
  refine jb_callV (pc' := 5) (ci := 11) (q := 0) (As := [.int (nI p)]) (a2 := 0) (b2 := 0) wv_X11_92 rfl dX11_voice_2 (c_isNoVoiceG imm Im rowm stkm tpm Tm I W T hr0 hk0 p (by omega)) rfl rfl ⟨by decide, Nat.le_of_eq (Nat.zero_add _), Nat.le_of_eq (Nat.zero_add _)⟩ (Nat.le_of_ble_eq_true rfl) rfl (fun r h9 hq => ?_)
  obtain ⟨rfl, rfl⟩ := hq
  show jb_J _ RX11 cX11_voice 5 (Option.some .int) false 6 0 0 5 [some (.ref 0), some (.int (nI p)), some (.int 3), some (.int x), none] [.int 0] [jb_main imm Im Tm rowm stkm tpm, jb_sch13 I W T, s2, s3, s4, s5, s6, s7, s8, jb_act Ia boa era, s10, s11] _
  refine jb_if_ne (tgt := 17) (pc' := 8) dX11_voice_5 (by decide) rfl (fun z => absurd (by decide) z) (fun _ => ?_)
  refine jb_iload_n (pc' := 9) dX11_voice_8 rfl rfl ?_
  refine jb_iconst (pc' := 10) 0 dX11_voice_9 (by decide) rfl ?_
  refine jb_iconst (pc' := 11) 3 dX11_voice_10 (by decide) rfl ?_
  refine jb_callS (pc' := 14) (As := [.int 3, .int 0, .int 3]) (a2 := 0) (b2 := 0) wv_X11_74 dX11_voice_11 (c_isOutLG 3 0 3 (by omega) (by omega) (by omega)) rfl ⟨by decide, Nat.le_of_eq (Nat.zero_add _), Nat.le_of_eq (Nat.zero_add _)⟩ (Nat.le_of_ble_eq_true rfl) rfl (fun r h9 hq => ?_)
  obtain ⟨rfl, rfl⟩ := hq
  show jb_J _ RX11 cX11_voice 5 (Option.some .int) false 6 0 0 14 [some (.ref 0), some (.int (nI p)), some (.int 3), some (.int x), none] [.int 0] [jb_main imm Im Tm rowm stkm tpm, jb_sch13 I W T, s2, s3, s4, s5, s6, s7, s8, jb_act Ia boa era, s10, s11] _
  refine jb_if_eq (tgt := 23) (pc' := 17) dX11_voice_14 (by decide) rfl (fun _ => ?_) (fun z => absurd (by decide) z)
  refine jb_aload_n (pc' := 24) dX11_voice_23 rfl rfl ?_
  refine gf_X11_62 (pc' := 27) (v := .ref 102) dX11_voice_24 rfl rfl rfl ?_
  refine jb_iload_n (pc' := 28) dX11_voice_27 rfl rfl ?_
  refine jb_aload_n (pc' := 29) dX11_voice_28 rfl rfl ?_
  refine gf_X11_42 (pc' := 32) (v := .ref 13) dX11_voice_29 rfl rfl rfl ?_
  refine gf_X11_99 (pc' := 35) (v := .ref 15) dX11_voice_32 rfl rfl rfl ?_
  refine jb_iconst (pc' := 36) 1 dX11_voice_35 (by decide) rfl ?_
  refine jb_aaload (pc' := 37) (i9 := 1) (r := 17) (Or.inl rfl) dX11_voice_36 rfl jb_x1 (by decide) rfl rfl ?_
  refine jb_iload_n (pc' := 38) dX11_voice_37 rfl rfl ?_
  refine jb_iaload (pc' := 39) (i9 := p) (f := (W 2)) dX11_voice_38 rfl (jb_ix_nI (by omega)) (by omega) rfl ?_
  refine jb_top (v := .int ((W 2) p)) (w := .int (nI (V 2 p))) (jb_vI (rv p (by omega)).2.1) ?_
  refine jb_callV (pc' := 42) (ci := 0) (q := 102) (As := [.int (nI p), .int (nI (V 2 p))]) (a2 := 0) (b2 := 0) wv_X11_205 rfl dX11_voice_39 (c_begin imm Im rowm stkm tpm Tm Ia boa era (nI p) (nI (V 2 p))) rfl rfl ⟨by decide, Nat.le_of_eq (Nat.zero_add _), Nat.le_of_eq (Nat.zero_add _)⟩ (Nat.le_of_ble_eq_true rfl) rfl (fun r h9 hq => ?_)
  obtain ⟨rfl, A9, ha, hb, hc, rfl⟩ := hq
  show jb_J _ RX11 cX11_voice 5 (Option.some .int) false 6 0 0 42 [some (.ref 0), some (.int (nI p)), some (.int 3), some (.int x), none] [] [jb_main imm Im Tm rowm stkm tpm, jb_sch13 I W T, s2, s3, s4, s5, s6, s7, s8, jb_act A9 boa era, s10, s11] _
  refine jb_aload_n (pc' := 43) dX11_voice_42 rfl rfl ?_
  refine gf_X11_42 (pc' := 46) (v := .ref 13) dX11_voice_43 rfl rfl rfl ?_
  refine jb_iload_n (pc' := 47) dX11_voice_46 rfl rfl ?_
  refine jb_callV (pc' := 50) (ci := 9) (q := 13) (As := [.int (nI p)]) (a2 := 0) (b2 := 0) wv_X11_209 rfl dX11_voice_47 (c_kindOf_13 imm Im rowm stkm tpm Tm I W T hr0 hk0 p hp) rfl rfl ⟨by decide, Nat.le_of_eq (Nat.zero_add _), Nat.le_of_eq (Nat.zero_add _)⟩ (Nat.le_of_ble_eq_true rfl) rfl (fun r h9 hq => ?_)
  obtain ⟨rfl, rfl⟩ := hq
  rw [hkd]
  show jb_J _ RX11 cX11_voice 5 (Option.some .int) false 6 0 0 50 [some (.ref 0), some (.int (nI p)), some (.int 3), some (.int x), none] [.ref 11] [jb_main imm Im Tm rowm stkm tpm, jb_sch13 I W T, s2, s3, s4, s5, s6, s7, s8, jb_act A9 boa era, s10, s11] _
  refine jb_astore_ (pc' := 52) dX11_voice_50 (by decide) (jb_at4 rfl) rfl ?_
  refine jb_iload_n (pc' := 53) dX11_voice_52 rfl rfl ?_
  refine jb_tableOut (pc' := 113) dX11_voice_53 (by decide) (by decide) ?_
  refine jb_aload (pc' := 115) dX11_voice_113 rfl rfl ?_
  refine jb_aload_n (pc' := 116) dX11_voice_115 rfl rfl ?_
  refine gf_X11_62 (pc' := 119) (v := .ref 102) dX11_voice_116 rfl rfl rfl ?_
  refine jb_iload_n (pc' := 120) dX11_voice_119 rfl rfl ?_
  refine jb_callU (pc' := 123) (ci := 4) (q := 11) (As := [.ref 102, .int x]) (a2 := 0) (b2 := 0) wv_X11_223_X4 rfl dX11_voice_120 (ca_X4_tells_11 imm Im rowm stkm tpm Tm A9 boa era (nI p) (nI (V 2 p)) 0 ha hb hc (by omega) x) rfl rfl ⟨by decide, Nat.le_of_eq (Nat.zero_add _), Nat.le_of_eq (Nat.zero_add _)⟩ (Nat.le_of_ble_eq_true rfl) rfl (fun r h9 hq => ?_)
  obtain ⟨rfl, A8, ha8, hb8, hc8, rfl⟩ := hq
  show jb_J _ RX11 cX11_voice 5 (Option.some .int) false 6 0 0 123 [some (.ref 0), some (.int (nI p)), some (.int 3), some (.int x), some (.ref 11)] [.int ((((((x) + (nI p)) * 3) * 2) ^^^ ((x) - (nI (V 2 p)))) - (((2) + (nI p)) * 3))] [jb_main imm Im Tm rowm stkm tpm, jb_sch13 I W T, s2, s3, s4, s5, s6, s7, s8, jb_act A8 (jp_wr boa 0 [60, 13, 11, 30, 10, 12, 30, 10]) era, s10, s11] _
  refine jb_iret dX11_voice_123 rfl ?_
  exact ⟨rfl, A8, by rw [hc8], rfl⟩
set_option maxRecDepth 100000 in
set_option maxHeartbeats 4000000 in
theorem kx_voice0_6 {sc : Nat × (Nat → Int32)} {s2 s3 s4 s5 s6 s7 s8 s10 s11 : List va_E} {V : Nat → Nat → Nat} (imm : Int32) (Im rowm stkm tpm : Nat → Int32) (Tm : Nat → Value) (I : Nat → Int32) (W : Nat → Nat → Int32) (T : Nat → Value) (Ia boa era : Nat → Int32) (hr : jr_ V I W) (hk : jv_ok V) (p : Nat) (hp : p < V 0 1) (hkd : V 1 p = 6) (x : Int32) : jb_C sc yX11_voice cX11_voice 5 (Option.some .int) 2 0 0 [.ref 0, .int (nI p), .int 0, .int x] [jb_main imm Im Tm rowm stkm tpm, jb_sch13 I W T, s2, s3, s4, s5, s6, s7, s8, jb_act Ia boa era, s10, s11] (fun r h9 => r = some (.int ((x) + (nI p))) ∧ ∃ A9, A9 2 = nI 1 ∧ h9 = [jb_main imm Im Tm rowm stkm tpm, jb_sch13 I W T, s2, s3, s4, s5, s6, s7, s8, jb_act A9 (jp_wr boa 0 [10]) era, s10, s11]) := by
  refine jb_CofJ (ini := false) (by decide +kernel) (fun h => by cases h) (Nat.le_of_ble_eq_true rfl) ?_
  show jb_J sc RX11 cX11_voice 5 (Option.some .int) false 2 0 0 0 [some (.ref 0), some (.int (nI p)), some (.int 0), some (.int x), none] [] [jb_main imm Im Tm rowm stkm tpm, jb_sch13 I W T, s2, s3, s4, s5, s6, s7, s8, jb_act Ia boa era, s10, s11] _
  have hr0 := hr
  have hk0 := hk
  obtain ⟨r0, r2, r3, r4, a0, a1, a2, rv, rs, rd⟩ := hr
  obtain ⟨k0, k1, k2, k3, k4, k5, k6, k7, kv, ks, kd⟩ := hk
  have q0 := kv p hp
  refine jb_aload_n (pc' := 1) dX11_voice_0 rfl rfl ?_
  refine jb_iload_n (pc' := 2) dX11_voice_1 rfl rfl ?_
  refine jb_callV (pc' := 5) (ci := 11) (q := 0) (As := [.int (nI p)]) (a2 := 0) (b2 := 0) wv_X11_92 rfl dX11_voice_2 (c_isNoVoiceG imm Im rowm stkm tpm Tm I W T hr0 hk0 p (by omega)) rfl rfl ⟨by decide, Nat.le_of_eq (Nat.zero_add _), Nat.le_of_eq (Nat.zero_add _)⟩ (Nat.le_of_ble_eq_true rfl) rfl (fun r h9 hq => ?_)
  obtain ⟨rfl, rfl⟩ := hq
  show jb_J _ RX11 cX11_voice 5 (Option.some .int) false 2 0 0 5 [some (.ref 0), some (.int (nI p)), some (.int 0), some (.int x), none] [.int 0] [jb_main imm Im Tm rowm stkm tpm, jb_sch13 I W T, s2, s3, s4, s5, s6, s7, s8, jb_act Ia boa era, s10, s11] _
  refine jb_if_ne (tgt := 17) (pc' := 8) dX11_voice_5 (by decide) rfl (fun z => absurd (by decide) z) (fun _ => ?_)
  refine jb_iload_n (pc' := 9) dX11_voice_8 rfl rfl ?_
  refine jb_iconst (pc' := 10) 0 dX11_voice_9 (by decide) rfl ?_
  refine jb_iconst (pc' := 11) 3 dX11_voice_10 (by decide) rfl ?_
  refine jb_callS (pc' := 14) (As := [.int 0, .int 0, .int 3]) (a2 := 0) (b2 := 0) wv_X11_74 dX11_voice_11 (c_isOutLG 0 0 3 (by omega) (by omega) (by omega)) rfl ⟨by decide, Nat.le_of_eq (Nat.zero_add _), Nat.le_of_eq (Nat.zero_add _)⟩ (Nat.le_of_ble_eq_true rfl) rfl (fun r h9 hq => ?_)
  obtain ⟨rfl, rfl⟩ := hq
  show jb_J _ RX11 cX11_voice 5 (Option.some .int) false 2 0 0 14 [some (.ref 0), some (.int (nI p)), some (.int 0), some (.int x), none] [.int 0] [jb_main imm Im Tm rowm stkm tpm, jb_sch13 I W T, s2, s3, s4, s5, s6, s7, s8, jb_act Ia boa era, s10, s11] _
  refine jb_if_eq (tgt := 23) (pc' := 17) dX11_voice_14 (by decide) rfl (fun _ => ?_) (fun z => absurd (by decide) z)
  refine jb_aload_n (pc' := 24) dX11_voice_23 rfl rfl ?_
  refine gf_X11_62 (pc' := 27) (v := .ref 102) dX11_voice_24 rfl rfl rfl ?_
  refine jb_iload_n (pc' := 28) dX11_voice_27 rfl rfl ?_
  refine jb_aload_n (pc' := 29) dX11_voice_28 rfl rfl ?_
  refine gf_X11_42 (pc' := 32) (v := .ref 13) dX11_voice_29 rfl rfl rfl ?_
  refine gf_X11_99 (pc' := 35) (v := .ref 15) dX11_voice_32 rfl rfl rfl ?_
  refine jb_iconst (pc' := 36) 1 dX11_voice_35 (by decide) rfl ?_
  refine jb_aaload (pc' := 37) (i9 := 1) (r := 17) (Or.inl rfl) dX11_voice_36 rfl jb_x1 (by decide) rfl rfl ?_
  refine jb_iload_n (pc' := 38) dX11_voice_37 rfl rfl ?_
  refine jb_iaload (pc' := 39) (i9 := p) (f := (W 2)) dX11_voice_38 rfl (jb_ix_nI (by omega)) (by omega) rfl ?_
  refine jb_top (v := .int ((W 2) p)) (w := .int (nI (V 2 p))) (jb_vI (rv p (by omega)).2.1) ?_
  refine jb_callV (pc' := 42) (ci := 0) (q := 102) (As := [.int (nI p), .int (nI (V 2 p))]) (a2 := 0) (b2 := 0) wv_X11_205 rfl dX11_voice_39 (c_begin imm Im rowm stkm tpm Tm Ia boa era (nI p) (nI (V 2 p))) rfl rfl ⟨by decide, Nat.le_of_eq (Nat.zero_add _), Nat.le_of_eq (Nat.zero_add _)⟩ (Nat.le_of_ble_eq_true rfl) rfl (fun r h9 hq => ?_)
  obtain ⟨rfl, A9, ha, hb, hc, rfl⟩ := hq
  show jb_J _ RX11 cX11_voice 5 (Option.some .int) false 2 0 0 42 [some (.ref 0), some (.int (nI p)), some (.int 0), some (.int x), none] [] [jb_main imm Im Tm rowm stkm tpm, jb_sch13 I W T, s2, s3, s4, s5, s6, s7, s8, jb_act A9 boa era, s10, s11] _
  refine jb_aload_n (pc' := 43) dX11_voice_42 rfl rfl ?_
  refine gf_X11_42 (pc' := 46) (v := .ref 13) dX11_voice_43 rfl rfl rfl ?_
  refine jb_iload_n (pc' := 47) dX11_voice_46 rfl rfl ?_
  refine jb_callV (pc' := 50) (ci := 9) (q := 13) (As := [.int (nI p)]) (a2 := 0) (b2 := 0) wv_X11_209 rfl dX11_voice_47 (c_kindOf_13 imm Im rowm stkm tpm Tm I W T hr0 hk0 p hp) rfl rfl ⟨by decide, Nat.le_of_eq (Nat.zero_add _), Nat.le_of_eq (Nat.zero_add _)⟩ (Nat.le_of_ble_eq_true rfl) rfl (fun r h9 hq => ?_)
  obtain ⟨rfl, rfl⟩ := hq
  rw [hkd]
  show jb_J _ RX11 cX11_voice 5 (Option.some .int) false 2 0 0 50 [some (.ref 0), some (.int (nI p)), some (.int 0), some (.int x), none] [.ref 12] [jb_main imm Im Tm rowm stkm tpm, jb_sch13 I W T, s2, s3, s4, s5, s6, s7, s8, jb_act A9 boa era, s10, s11] _
  refine jb_astore_ (pc' := 52) dX11_voice_50 (by decide) (jb_at4 rfl) rfl ?_
  refine jb_iload_n (pc' := 53) dX11_voice_52 rfl rfl ?_
  refine jb_tableIn (pc' := 80) (off := 27) dX11_voice_53 (by decide) (by decide) (by decide +kernel) (by decide) ?_
  refine jb_aload (pc' := 82) dX11_voice_80 rfl rfl ?_
  refine jb_aload_n (pc' := 83) dX11_voice_82 rfl rfl ?_
  refine gf_X11_62 (pc' := 86) (v := .ref 102) dX11_voice_83 rfl rfl rfl ?_
  refine jb_iload_n (pc' := 87) dX11_voice_86 rfl rfl ?_
  refine jb_callU (pc' := 90) (ci := 1) (q := 12) (As := [.ref 102, .int x]) (a2 := 0) (b2 := 0) wv_X11_213_X1 rfl dX11_voice_87 (ca_X7_calls_12 imm Im rowm stkm tpm Tm A9 boa era (nI p) (nI (V 2 p)) 0 ha hb hc (by omega) x) rfl rfl ⟨by decide, Nat.le_of_eq (Nat.zero_add _), Nat.le_of_eq (Nat.zero_add _)⟩ (Nat.le_of_ble_eq_true rfl) rfl (fun r h9 hq => ?_)
  obtain ⟨rfl, A8, ha8, hb8, hc8, rfl⟩ := hq
  show jb_J _ RX11 cX11_voice 5 (Option.some .int) false 2 0 0 90 [some (.ref 0), some (.int (nI p)), some (.int 0), some (.int x), some (.ref 12)] [.int ((x) + (nI p))] [jb_main imm Im Tm rowm stkm tpm, jb_sch13 I W T, s2, s3, s4, s5, s6, s7, s8, jb_act A8 (jp_wr boa 0 [10]) era, s10, s11] _
  refine jb_iret dX11_voice_90 rfl ?_
  exact ⟨rfl, A8, by rw [hc8], rfl⟩
set_option maxRecDepth 100000 in
set_option maxHeartbeats 4000000 in
theorem kx_voice1_6 {sc : Nat × (Nat → Int32)} {s2 s3 s4 s5 s6 s7 s8 s10 s11 : List va_E} {V : Nat → Nat → Nat} (imm : Int32) (Im rowm stkm tpm : Nat → Int32) (Tm : Nat → Value) (I : Nat → Int32) (W : Nat → Nat → Int32) (T : Nat → Value) (Ia boa era : Nat → Int32) (hr : jr_ V I W) (hk : jv_ok V) (p : Nat) (hp : p < V 0 1) (hkd : V 1 p = 6) (x : Int32) : jb_C sc yX11_voice cX11_voice 5 (Option.some .int) 3 0 0 [.ref 0, .int (nI p), .int 1, .int x] [jb_main imm Im Tm rowm stkm tpm, jb_sch13 I W T, s2, s3, s4, s5, s6, s7, s8, jb_act Ia boa era, s10, s11] (fun r h9 => r = some (.int (((x) + (nI p)) * 2)) ∧ ∃ A9, A9 2 = nI 2 ∧ h9 = [jb_main imm Im Tm rowm stkm tpm, jb_sch13 I W T, s2, s3, s4, s5, s6, s7, s8, jb_act A9 (jp_wr boa 0 [11, 10]) era, s10, s11]) := by
  refine jb_CofJ (ini := false) (by decide +kernel) (fun h => by cases h) (Nat.le_of_ble_eq_true rfl) ?_
  show jb_J sc RX11 cX11_voice 5 (Option.some .int) false 3 0 0 0 [some (.ref 0), some (.int (nI p)), some (.int 1), some (.int x), none] [] [jb_main imm Im Tm rowm stkm tpm, jb_sch13 I W T, s2, s3, s4, s5, s6, s7, s8, jb_act Ia boa era, s10, s11] _
  have hr0 := hr
  have hk0 := hk
  obtain ⟨r0, r2, r3, r4, a0, a1, a2, rv, rs, rd⟩ := hr
  obtain ⟨k0, k1, k2, k3, k4, k5, k6, k7, kv, ks, kd⟩ := hk
  have q0 := kv p hp
  refine jb_aload_n (pc' := 1) dX11_voice_0 rfl rfl ?_
  refine jb_iload_n (pc' := 2) dX11_voice_1 rfl rfl ?_
  refine jb_callV (pc' := 5) (ci := 11) (q := 0) (As := [.int (nI p)]) (a2 := 0) (b2 := 0) wv_X11_92 rfl dX11_voice_2 (c_isNoVoiceG imm Im rowm stkm tpm Tm I W T hr0 hk0 p (by omega)) rfl rfl ⟨by decide, Nat.le_of_eq (Nat.zero_add _), Nat.le_of_eq (Nat.zero_add _)⟩ (Nat.le_of_ble_eq_true rfl) rfl (fun r h9 hq => ?_)
  obtain ⟨rfl, rfl⟩ := hq
  show jb_J _ RX11 cX11_voice 5 (Option.some .int) false 3 0 0 5 [some (.ref 0), some (.int (nI p)), some (.int 1), some (.int x), none] [.int 0] [jb_main imm Im Tm rowm stkm tpm, jb_sch13 I W T, s2, s3, s4, s5, s6, s7, s8, jb_act Ia boa era, s10, s11] _
  refine jb_if_ne (tgt := 17) (pc' := 8) dX11_voice_5 (by decide) rfl (fun z => absurd (by decide) z) (fun _ => ?_)
  refine jb_iload_n (pc' := 9) dX11_voice_8 rfl rfl ?_
  refine jb_iconst (pc' := 10) 0 dX11_voice_9 (by decide) rfl ?_
  refine jb_iconst (pc' := 11) 3 dX11_voice_10 (by decide) rfl ?_
  refine jb_callS (pc' := 14) (As := [.int 1, .int 0, .int 3]) (a2 := 0) (b2 := 0) wv_X11_74 dX11_voice_11 (c_isOutLG 1 0 3 (by omega) (by omega) (by omega)) rfl ⟨by decide, Nat.le_of_eq (Nat.zero_add _), Nat.le_of_eq (Nat.zero_add _)⟩ (Nat.le_of_ble_eq_true rfl) rfl (fun r h9 hq => ?_)
  obtain ⟨rfl, rfl⟩ := hq
  show jb_J _ RX11 cX11_voice 5 (Option.some .int) false 3 0 0 14 [some (.ref 0), some (.int (nI p)), some (.int 1), some (.int x), none] [.int 0] [jb_main imm Im Tm rowm stkm tpm, jb_sch13 I W T, s2, s3, s4, s5, s6, s7, s8, jb_act Ia boa era, s10, s11] _
  refine jb_if_eq (tgt := 23) (pc' := 17) dX11_voice_14 (by decide) rfl (fun _ => ?_) (fun z => absurd (by decide) z)
  refine jb_aload_n (pc' := 24) dX11_voice_23 rfl rfl ?_
  refine gf_X11_62 (pc' := 27) (v := .ref 102) dX11_voice_24 rfl rfl rfl ?_
  refine jb_iload_n (pc' := 28) dX11_voice_27 rfl rfl ?_
  refine jb_aload_n (pc' := 29) dX11_voice_28 rfl rfl ?_
  refine gf_X11_42 (pc' := 32) (v := .ref 13) dX11_voice_29 rfl rfl rfl ?_
  refine gf_X11_99 (pc' := 35) (v := .ref 15) dX11_voice_32 rfl rfl rfl ?_
  refine jb_iconst (pc' := 36) 1 dX11_voice_35 (by decide) rfl ?_
  refine jb_aaload (pc' := 37) (i9 := 1) (r := 17) (Or.inl rfl) dX11_voice_36 rfl jb_x1 (by decide) rfl rfl ?_
  refine jb_iload_n (pc' := 38) dX11_voice_37 rfl rfl ?_
  refine jb_iaload (pc' := 39) (i9 := p) (f := (W 2)) dX11_voice_38 rfl (jb_ix_nI (by omega)) (by omega) rfl ?_
  refine jb_top (v := .int ((W 2) p)) (w := .int (nI (V 2 p))) (jb_vI (rv p (by omega)).2.1) ?_
  refine jb_callV (pc' := 42) (ci := 0) (q := 102) (As := [.int (nI p), .int (nI (V 2 p))]) (a2 := 0) (b2 := 0) wv_X11_205 rfl dX11_voice_39 (c_begin imm Im rowm stkm tpm Tm Ia boa era (nI p) (nI (V 2 p))) rfl rfl ⟨by decide, Nat.le_of_eq (Nat.zero_add _), Nat.le_of_eq (Nat.zero_add _)⟩ (Nat.le_of_ble_eq_true rfl) rfl (fun r h9 hq => ?_)
  obtain ⟨rfl, A9, ha, hb, hc, rfl⟩ := hq
  show jb_J _ RX11 cX11_voice 5 (Option.some .int) false 3 0 0 42 [some (.ref 0), some (.int (nI p)), some (.int 1), some (.int x), none] [] [jb_main imm Im Tm rowm stkm tpm, jb_sch13 I W T, s2, s3, s4, s5, s6, s7, s8, jb_act A9 boa era, s10, s11] _
  refine jb_aload_n (pc' := 43) dX11_voice_42 rfl rfl ?_
  refine gf_X11_42 (pc' := 46) (v := .ref 13) dX11_voice_43 rfl rfl rfl ?_
  refine jb_iload_n (pc' := 47) dX11_voice_46 rfl rfl ?_
  refine jb_callV (pc' := 50) (ci := 9) (q := 13) (As := [.int (nI p)]) (a2 := 0) (b2 := 0) wv_X11_209 rfl dX11_voice_47 (c_kindOf_13 imm Im rowm stkm tpm Tm I W T hr0 hk0 p hp) rfl rfl ⟨by decide, Nat.le_of_eq (Nat.zero_add _), Nat.le_of_eq (Nat.zero_add _)⟩ (Nat.le_of_ble_eq_true rfl) rfl (fun r h9 hq => ?_)
  obtain ⟨rfl, rfl⟩ := hq
  rw [hkd]
  show jb_J _ RX11 cX11_voice 5 (Option.some .int) false 3 0 0 50 [some (.ref 0), some (.int (nI p)), some (.int 1), some (.int x), none] [.ref 12] [jb_main imm Im Tm rowm stkm tpm, jb_sch13 I W T, s2, s3, s4, s5, s6, s7, s8, jb_act A9 boa era, s10, s11] _
  refine jb_astore_ (pc' := 52) dX11_voice_50 (by decide) (jb_at4 rfl) rfl ?_
  refine jb_iload_n (pc' := 53) dX11_voice_52 rfl rfl ?_
  refine jb_tableIn (pc' := 91) (off := 38) dX11_voice_53 (by decide) (by decide) (by decide +kernel) (by decide) ?_
  refine jb_aload (pc' := 93) dX11_voice_91 rfl rfl ?_
  refine jb_aload_n (pc' := 94) dX11_voice_93 rfl rfl ?_
  refine gf_X11_62 (pc' := 97) (v := .ref 102) dX11_voice_94 rfl rfl rfl ?_
  refine jb_iload_n (pc' := 98) dX11_voice_97 rfl rfl ?_
  refine jb_callU (pc' := 101) (ci := 1) (q := 12) (As := [.ref 102, .int x]) (a2 := 0) (b2 := 0) wv_X11_217_X1 rfl dX11_voice_98 (ca_X7_hears_12 imm Im rowm stkm tpm Tm A9 boa era (nI p) (nI (V 2 p)) 0 ha hb hc (by omega) x) rfl rfl ⟨by decide, Nat.le_of_eq (Nat.zero_add _), Nat.le_of_eq (Nat.zero_add _)⟩ (Nat.le_of_ble_eq_true rfl) rfl (fun r h9 hq => ?_)
  obtain ⟨rfl, A8, ha8, hb8, hc8, rfl⟩ := hq
  show jb_J _ RX11 cX11_voice 5 (Option.some .int) false 3 0 0 101 [some (.ref 0), some (.int (nI p)), some (.int 1), some (.int x), some (.ref 12)] [.int (((x) + (nI p)) * 2)] [jb_main imm Im Tm rowm stkm tpm, jb_sch13 I W T, s2, s3, s4, s5, s6, s7, s8, jb_act A8 (jp_wr boa 0 [11, 10]) era, s10, s11] _
  refine jb_iret dX11_voice_101 rfl ?_
  exact ⟨rfl, A8, by rw [hc8], rfl⟩
set_option maxRecDepth 100000 in
set_option maxHeartbeats 4000000 in
theorem kx_voice2_6 {sc : Nat × (Nat → Int32)} {s2 s3 s4 s5 s6 s7 s8 s10 s11 : List va_E} {V : Nat → Nat → Nat} (imm : Int32) (Im rowm stkm tpm : Nat → Int32) (Tm : Nat → Value) (I : Nat → Int32) (W : Nat → Nat → Int32) (T : Nat → Value) (Ia boa era : Nat → Int32) (hr : jr_ V I W) (hk : jv_ok V) (p : Nat) (hp : p < V 0 1) (hkd : V 1 p = 6) (x : Int32) : jb_C sc yX11_voice cX11_voice 5 (Option.some .int) 4 0 0 [.ref 0, .int (nI p), .int 2, .int x] [jb_main imm Im Tm rowm stkm tpm, jb_sch13 I W T, s2, s3, s4, s5, s6, s7, s8, jb_act Ia boa era, s10, s11] (fun r h9 => r = some (.int ((-((x) - (nI (V 2 p)))) ^^^ (nI p))) ∧ ∃ A9, A9 2 = nI 3 ∧ h9 = [jb_main imm Im Tm rowm stkm tpm, jb_sch13 I W T, s2, s3, s4, s5, s6, s7, s8, jb_act A9 (jp_wr boa 0 [70, 40, 12]) era, s10, s11]) := by
  refine jb_CofJ (ini := false) (by decide +kernel) (fun h => by cases h) (Nat.le_of_ble_eq_true rfl) ?_
  show jb_J sc RX11 cX11_voice 5 (Option.some .int) false 4 0 0 0 [some (.ref 0), some (.int (nI p)), some (.int 2), some (.int x), none] [] [jb_main imm Im Tm rowm stkm tpm, jb_sch13 I W T, s2, s3, s4, s5, s6, s7, s8, jb_act Ia boa era, s10, s11] _
  have hr0 := hr
  have hk0 := hk
  obtain ⟨r0, r2, r3, r4, a0, a1, a2, rv, rs, rd⟩ := hr
  obtain ⟨k0, k1, k2, k3, k4, k5, k6, k7, kv, ks, kd⟩ := hk
  have q0 := kv p hp
  refine jb_aload_n (pc' := 1) dX11_voice_0 rfl rfl ?_
  refine jb_iload_n (pc' := 2) dX11_voice_1 rfl rfl ?_
  refine jb_callV (pc' := 5) (ci := 11) (q := 0) (As := [.int (nI p)]) (a2 := 0) (b2 := 0) wv_X11_92 rfl dX11_voice_2 (c_isNoVoiceG imm Im rowm stkm tpm Tm I W T hr0 hk0 p (by omega)) rfl rfl ⟨by decide, Nat.le_of_eq (Nat.zero_add _), Nat.le_of_eq (Nat.zero_add _)⟩ (Nat.le_of_ble_eq_true rfl) rfl (fun r h9 hq => ?_)
  obtain ⟨rfl, rfl⟩ := hq
  show jb_J _ RX11 cX11_voice 5 (Option.some .int) false 4 0 0 5 [some (.ref 0), some (.int (nI p)), some (.int 2), some (.int x), none] [.int 0] [jb_main imm Im Tm rowm stkm tpm, jb_sch13 I W T, s2, s3, s4, s5, s6, s7, s8, jb_act Ia boa era, s10, s11] _
  refine jb_if_ne (tgt := 17) (pc' := 8) dX11_voice_5 (by decide) rfl (fun z => absurd (by decide) z) (fun _ => ?_)
  refine jb_iload_n (pc' := 9) dX11_voice_8 rfl rfl ?_
  refine jb_iconst (pc' := 10) 0 dX11_voice_9 (by decide) rfl ?_
  refine jb_iconst (pc' := 11) 3 dX11_voice_10 (by decide) rfl ?_
  refine jb_callS (pc' := 14) (As := [.int 2, .int 0, .int 3]) (a2 := 0) (b2 := 0) wv_X11_74 dX11_voice_11 (c_isOutLG 2 0 3 (by omega) (by omega) (by omega)) rfl ⟨by decide, Nat.le_of_eq (Nat.zero_add _), Nat.le_of_eq (Nat.zero_add _)⟩ (Nat.le_of_ble_eq_true rfl) rfl (fun r h9 hq => ?_)
  obtain ⟨rfl, rfl⟩ := hq
  show jb_J _ RX11 cX11_voice 5 (Option.some .int) false 4 0 0 14 [some (.ref 0), some (.int (nI p)), some (.int 2), some (.int x), none] [.int 0] [jb_main imm Im Tm rowm stkm tpm, jb_sch13 I W T, s2, s3, s4, s5, s6, s7, s8, jb_act Ia boa era, s10, s11] _
  refine jb_if_eq (tgt := 23) (pc' := 17) dX11_voice_14 (by decide) rfl (fun _ => ?_) (fun z => absurd (by decide) z)
  refine jb_aload_n (pc' := 24) dX11_voice_23 rfl rfl ?_
  refine gf_X11_62 (pc' := 27) (v := .ref 102) dX11_voice_24 rfl rfl rfl ?_
  refine jb_iload_n (pc' := 28) dX11_voice_27 rfl rfl ?_
  refine jb_aload_n (pc' := 29) dX11_voice_28 rfl rfl ?_
  refine gf_X11_42 (pc' := 32) (v := .ref 13) dX11_voice_29 rfl rfl rfl ?_
  refine gf_X11_99 (pc' := 35) (v := .ref 15) dX11_voice_32 rfl rfl rfl ?_
  refine jb_iconst (pc' := 36) 1 dX11_voice_35 (by decide) rfl ?_
  refine jb_aaload (pc' := 37) (i9 := 1) (r := 17) (Or.inl rfl) dX11_voice_36 rfl jb_x1 (by decide) rfl rfl ?_
  refine jb_iload_n (pc' := 38) dX11_voice_37 rfl rfl ?_
  refine jb_iaload (pc' := 39) (i9 := p) (f := (W 2)) dX11_voice_38 rfl (jb_ix_nI (by omega)) (by omega) rfl ?_
  refine jb_top (v := .int ((W 2) p)) (w := .int (nI (V 2 p))) (jb_vI (rv p (by omega)).2.1) ?_
  refine jb_callV (pc' := 42) (ci := 0) (q := 102) (As := [.int (nI p), .int (nI (V 2 p))]) (a2 := 0) (b2 := 0) wv_X11_205 rfl dX11_voice_39 (c_begin imm Im rowm stkm tpm Tm Ia boa era (nI p) (nI (V 2 p))) rfl rfl ⟨by decide, Nat.le_of_eq (Nat.zero_add _), Nat.le_of_eq (Nat.zero_add _)⟩ (Nat.le_of_ble_eq_true rfl) rfl (fun r h9 hq => ?_)
  obtain ⟨rfl, A9, ha, hb, hc, rfl⟩ := hq
  show jb_J _ RX11 cX11_voice 5 (Option.some .int) false 4 0 0 42 [some (.ref 0), some (.int (nI p)), some (.int 2), some (.int x), none] [] [jb_main imm Im Tm rowm stkm tpm, jb_sch13 I W T, s2, s3, s4, s5, s6, s7, s8, jb_act A9 boa era, s10, s11] _
  refine jb_aload_n (pc' := 43) dX11_voice_42 rfl rfl ?_
  refine gf_X11_42 (pc' := 46) (v := .ref 13) dX11_voice_43 rfl rfl rfl ?_
  refine jb_iload_n (pc' := 47) dX11_voice_46 rfl rfl ?_
  refine jb_callV (pc' := 50) (ci := 9) (q := 13) (As := [.int (nI p)]) (a2 := 0) (b2 := 0) wv_X11_209 rfl dX11_voice_47 (c_kindOf_13 imm Im rowm stkm tpm Tm I W T hr0 hk0 p hp) rfl rfl ⟨by decide, Nat.le_of_eq (Nat.zero_add _), Nat.le_of_eq (Nat.zero_add _)⟩ (Nat.le_of_ble_eq_true rfl) rfl (fun r h9 hq => ?_)
  obtain ⟨rfl, rfl⟩ := hq
  rw [hkd]
  show jb_J _ RX11 cX11_voice 5 (Option.some .int) false 4 0 0 50 [some (.ref 0), some (.int (nI p)), some (.int 2), some (.int x), none] [.ref 12] [jb_main imm Im Tm rowm stkm tpm, jb_sch13 I W T, s2, s3, s4, s5, s6, s7, s8, jb_act A9 boa era, s10, s11] _
  refine jb_astore_ (pc' := 52) dX11_voice_50 (by decide) (jb_at4 rfl) rfl ?_
  refine jb_iload_n (pc' := 53) dX11_voice_52 rfl rfl ?_
  refine jb_tableIn (pc' := 102) (off := 49) dX11_voice_53 (by decide) (by decide) (by decide +kernel) (by decide) ?_
  refine jb_aload (pc' := 104) dX11_voice_102 rfl rfl ?_
  refine jb_aload_n (pc' := 105) dX11_voice_104 rfl rfl ?_
  refine gf_X11_62 (pc' := 108) (v := .ref 102) dX11_voice_105 rfl rfl rfl ?_
  refine jb_iload_n (pc' := 109) dX11_voice_108 rfl rfl ?_
  refine jb_callU (pc' := 112) (ci := 1) (q := 12) (As := [.ref 102, .int x]) (a2 := 0) (b2 := 0) wv_X11_220_X1 rfl dX11_voice_109 (ca_X1_waits_12 imm Im rowm stkm tpm Tm A9 boa era (nI p) (nI (V 2 p)) 0 ha hb hc (by omega) x) rfl rfl ⟨by decide, Nat.le_of_eq (Nat.zero_add _), Nat.le_of_eq (Nat.zero_add _)⟩ (Nat.le_of_ble_eq_true rfl) rfl (fun r h9 hq => ?_)
  obtain ⟨rfl, A8, ha8, hb8, hc8, rfl⟩ := hq
  show jb_J _ RX11 cX11_voice 5 (Option.some .int) false 4 0 0 112 [some (.ref 0), some (.int (nI p)), some (.int 2), some (.int x), some (.ref 12)] [.int ((-((x) - (nI (V 2 p)))) ^^^ (nI p))] [jb_main imm Im Tm rowm stkm tpm, jb_sch13 I W T, s2, s3, s4, s5, s6, s7, s8, jb_act A8 (jp_wr boa 0 [70, 40, 12]) era, s10, s11] _
  refine jb_iret dX11_voice_112 rfl ?_
  exact ⟨rfl, A8, by rw [hc8], rfl⟩
set_option maxRecDepth 100000 in
set_option maxHeartbeats 4000000 in
theorem kx_voice3_6 {sc : Nat × (Nat → Int32)} {s2 s3 s4 s5 s6 s7 s8 s10 s11 : List va_E} {V : Nat → Nat → Nat} (imm : Int32) (Im rowm stkm tpm : Nat → Int32) (Tm : Nat → Value) (I : Nat → Int32) (W : Nat → Nat → Int32) (T : Nat → Value) (Ia boa era : Nat → Int32) (hr : jr_ V I W) (hk : jv_ok V) (p : Nat) (hp : p < V 0 1) (hkd : V 1 p = 6) (x : Int32) : jb_C sc yX11_voice cX11_voice 5 (Option.some .int) 6 0 0 [.ref 0, .int (nI p), .int 3, .int x] [jb_main imm Im Tm rowm stkm tpm, jb_sch13 I W T, s2, s3, s4, s5, s6, s7, s8, jb_act Ia boa era, s10, s11] (fun r h9 => r = some (.int ((((x) + (nI p)) * 2) - ((((x) + (nI p)) * 2) ^^^ ((-((x) - (nI (V 2 p)))) ^^^ (nI p))))) ∧ ∃ A9, A9 2 = nI 9 ∧ h9 = [jb_main imm Im Tm rowm stkm tpm, jb_sch13 I W T, s2, s3, s4, s5, s6, s7, s8, jb_act A9 (jp_wr boa 0 [71, 11, 10, 13, 11, 10, 70, 40, 12]) era, s10, s11]) := by
  refine jb_CofJ (ini := false) (by decide +kernel) (fun h => by cases h) (Nat.le_of_ble_eq_true rfl) ?_
  show jb_J sc RX11 cX11_voice 5 (Option.some .int) false 6 0 0 0 [some (.ref 0), some (.int (nI p)), some (.int 3), some (.int x), none] [] [jb_main imm Im Tm rowm stkm tpm, jb_sch13 I W T, s2, s3, s4, s5, s6, s7, s8, jb_act Ia boa era, s10, s11] _
  have hr0 := hr
  have hk0 := hk
  obtain ⟨r0, r2, r3, r4, a0, a1, a2, rv, rs, rd⟩ := hr
  obtain ⟨k0, k1, k2, k3, k4, k5, k6, k7, kv, ks, kd⟩ := hk
  have q0 := kv p hp
  refine jb_aload_n (pc' := 1) dX11_voice_0 rfl rfl ?_
  refine jb_iload_n (pc' := 2) dX11_voice_1 rfl rfl ?_
  refine jb_callV (pc' := 5) (ci := 11) (q := 0) (As := [.int (nI p)]) (a2 := 0) (b2 := 0) wv_X11_92 rfl dX11_voice_2 (c_isNoVoiceG imm Im rowm stkm tpm Tm I W T hr0 hk0 p (by omega)) rfl rfl ⟨by decide, Nat.le_of_eq (Nat.zero_add _), Nat.le_of_eq (Nat.zero_add _)⟩ (Nat.le_of_ble_eq_true rfl) rfl (fun r h9 hq => ?_)
  obtain ⟨rfl, rfl⟩ := hq
  show jb_J _ RX11 cX11_voice 5 (Option.some .int) false 6 0 0 5 [some (.ref 0), some (.int (nI p)), some (.int 3), some (.int x), none] [.int 0] [jb_main imm Im Tm rowm stkm tpm, jb_sch13 I W T, s2, s3, s4, s5, s6, s7, s8, jb_act Ia boa era, s10, s11] _
  refine jb_if_ne (tgt := 17) (pc' := 8) dX11_voice_5 (by decide) rfl (fun z => absurd (by decide) z) (fun _ => ?_)
  refine jb_iload_n (pc' := 9) dX11_voice_8 rfl rfl ?_
  refine jb_iconst (pc' := 10) 0 dX11_voice_9 (by decide) rfl ?_
  refine jb_iconst (pc' := 11) 3 dX11_voice_10 (by decide) rfl ?_
  refine jb_callS (pc' := 14) (As := [.int 3, .int 0, .int 3]) (a2 := 0) (b2 := 0) wv_X11_74 dX11_voice_11 (c_isOutLG 3 0 3 (by omega) (by omega) (by omega)) rfl ⟨by decide, Nat.le_of_eq (Nat.zero_add _), Nat.le_of_eq (Nat.zero_add _)⟩ (Nat.le_of_ble_eq_true rfl) rfl (fun r h9 hq => ?_)
  obtain ⟨rfl, rfl⟩ := hq
  show jb_J _ RX11 cX11_voice 5 (Option.some .int) false 6 0 0 14 [some (.ref 0), some (.int (nI p)), some (.int 3), some (.int x), none] [.int 0] [jb_main imm Im Tm rowm stkm tpm, jb_sch13 I W T, s2, s3, s4, s5, s6, s7, s8, jb_act Ia boa era, s10, s11] _
  refine jb_if_eq (tgt := 23) (pc' := 17) dX11_voice_14 (by decide) rfl (fun _ => ?_) (fun z => absurd (by decide) z)
  refine jb_aload_n (pc' := 24) dX11_voice_23 rfl rfl ?_
  refine gf_X11_62 (pc' := 27) (v := .ref 102) dX11_voice_24 rfl rfl rfl ?_
  refine jb_iload_n (pc' := 28) dX11_voice_27 rfl rfl ?_
  refine jb_aload_n (pc' := 29) dX11_voice_28 rfl rfl ?_
  refine gf_X11_42 (pc' := 32) (v := .ref 13) dX11_voice_29 rfl rfl rfl ?_
  refine gf_X11_99 (pc' := 35) (v := .ref 15) dX11_voice_32 rfl rfl rfl ?_
  refine jb_iconst (pc' := 36) 1 dX11_voice_35 (by decide) rfl ?_
  refine jb_aaload (pc' := 37) (i9 := 1) (r := 17) (Or.inl rfl) dX11_voice_36 rfl jb_x1 (by decide) rfl rfl ?_
  refine jb_iload_n (pc' := 38) dX11_voice_37 rfl rfl ?_
  refine jb_iaload (pc' := 39) (i9 := p) (f := (W 2)) dX11_voice_38 rfl (jb_ix_nI (by omega)) (by omega) rfl ?_
  refine jb_top (v := .int ((W 2) p)) (w := .int (nI (V 2 p))) (jb_vI (rv p (by omega)).2.1) ?_
  refine jb_callV (pc' := 42) (ci := 0) (q := 102) (As := [.int (nI p), .int (nI (V 2 p))]) (a2 := 0) (b2 := 0) wv_X11_205 rfl dX11_voice_39 (c_begin imm Im rowm stkm tpm Tm Ia boa era (nI p) (nI (V 2 p))) rfl rfl ⟨by decide, Nat.le_of_eq (Nat.zero_add _), Nat.le_of_eq (Nat.zero_add _)⟩ (Nat.le_of_ble_eq_true rfl) rfl (fun r h9 hq => ?_)
  obtain ⟨rfl, A9, ha, hb, hc, rfl⟩ := hq
  show jb_J _ RX11 cX11_voice 5 (Option.some .int) false 6 0 0 42 [some (.ref 0), some (.int (nI p)), some (.int 3), some (.int x), none] [] [jb_main imm Im Tm rowm stkm tpm, jb_sch13 I W T, s2, s3, s4, s5, s6, s7, s8, jb_act A9 boa era, s10, s11] _
  refine jb_aload_n (pc' := 43) dX11_voice_42 rfl rfl ?_
  refine gf_X11_42 (pc' := 46) (v := .ref 13) dX11_voice_43 rfl rfl rfl ?_
  refine jb_iload_n (pc' := 47) dX11_voice_46 rfl rfl ?_
  refine jb_callV (pc' := 50) (ci := 9) (q := 13) (As := [.int (nI p)]) (a2 := 0) (b2 := 0) wv_X11_209 rfl dX11_voice_47 (c_kindOf_13 imm Im rowm stkm tpm Tm I W T hr0 hk0 p hp) rfl rfl ⟨by decide, Nat.le_of_eq (Nat.zero_add _), Nat.le_of_eq (Nat.zero_add _)⟩ (Nat.le_of_ble_eq_true rfl) rfl (fun r h9 hq => ?_)
  obtain ⟨rfl, rfl⟩ := hq
  rw [hkd]
  show jb_J _ RX11 cX11_voice 5 (Option.some .int) false 6 0 0 50 [some (.ref 0), some (.int (nI p)), some (.int 3), some (.int x), none] [.ref 12] [jb_main imm Im Tm rowm stkm tpm, jb_sch13 I W T, s2, s3, s4, s5, s6, s7, s8, jb_act A9 boa era, s10, s11] _
  refine jb_astore_ (pc' := 52) dX11_voice_50 (by decide) (jb_at4 rfl) rfl ?_
  refine jb_iload_n (pc' := 53) dX11_voice_52 rfl rfl ?_
  refine jb_tableOut (pc' := 113) dX11_voice_53 (by decide) (by decide) ?_
  refine jb_aload (pc' := 115) dX11_voice_113 rfl rfl ?_
  refine jb_aload_n (pc' := 116) dX11_voice_115 rfl rfl ?_
  refine gf_X11_62 (pc' := 119) (v := .ref 102) dX11_voice_116 rfl rfl rfl ?_
  refine jb_iload_n (pc' := 120) dX11_voice_119 rfl rfl ?_
  refine jb_callU (pc' := 123) (ci := 1) (q := 12) (As := [.ref 102, .int x]) (a2 := 0) (b2 := 0) wv_X11_223_X1 rfl dX11_voice_120 (ca_X1_tells_12 imm Im rowm stkm tpm Tm A9 boa era (nI p) (nI (V 2 p)) 0 ha hb hc (by omega) x) rfl rfl ⟨by decide, Nat.le_of_eq (Nat.zero_add _), Nat.le_of_eq (Nat.zero_add _)⟩ (Nat.le_of_ble_eq_true rfl) rfl (fun r h9 hq => ?_)
  obtain ⟨rfl, A8, ha8, hb8, hc8, rfl⟩ := hq
  show jb_J _ RX11 cX11_voice 5 (Option.some .int) false 6 0 0 123 [some (.ref 0), some (.int (nI p)), some (.int 3), some (.int x), some (.ref 12)] [.int ((((x) + (nI p)) * 2) - ((((x) + (nI p)) * 2) ^^^ ((-((x) - (nI (V 2 p)))) ^^^ (nI p))))] [jb_main imm Im Tm rowm stkm tpm, jb_sch13 I W T, s2, s3, s4, s5, s6, s7, s8, jb_act A8 (jp_wr boa 0 [71, 11, 10, 13, 11, 10, 70, 40, 12]) era, s10, s11] _
  refine jb_iret dX11_voice_123 rfl ?_
  exact ⟨rfl, A8, by rw [hc8], rfl⟩
set_option maxRecDepth 100000 in
set_option maxHeartbeats 4000000 in
theorem ke_voice {sc : Nat × (Nat → Int32)} {s2 s3 s4 s5 s6 s7 s8 s10 s11 : List va_E} {V : Nat → Nat → Nat} (imm : Int32) (Im rowm stkm tpm : Nat → Int32) (Tm : Nat → Value) (I : Nat → Int32) (W : Nat → Nat → Int32) (T : Nat → Value) (Ia boa era : Nat → Int32) (hr : jr_ V I W) (hk : jv_ok V) (p a x : Int32) (hb : ¬ (jn_b p 0 (V 0 1) ∧ jn_b a 0 4)) : jb_C sc yX11_voice cX11_voice 5 (Option.some .int) 2 0 0 [.ref 0, .int p, .int a, .int x] [jb_main imm Im Tm rowm stkm tpm, jb_sch13 I W T, s2, s3, s4, s5, s6, s7, s8, jb_act Ia boa era, s10, s11] (fun r h9 => r = some (.int (jm_er 1)) ∧ h9 = [jb_main imm Im Tm rowm stkm tpm, jb_sch13 I W T, s2, s3, s4, s5, s6, s7, s8, jb_act Ia boa (jm_ef era 1), s10, s11]) := by
  refine jb_CofJ (ini := false) (by decide +kernel) (fun h => by cases h) (Nat.le_of_ble_eq_true rfl) ?_
  show jb_J sc RX11 cX11_voice 5 (Option.some .int) false 2 0 0 0 [some (.ref 0), some (.int p), some (.int a), some (.int x), none] [] [jb_main imm Im Tm rowm stkm tpm, jb_sch13 I W T, s2, s3, s4, s5, s6, s7, s8, jb_act Ia boa era, s10, s11] _
  have hr0 := hr
  have hk0 := hk
  obtain ⟨r0, r2, r3, r4, a0, a1, a2, rv, rs, rd⟩ := hr
  obtain ⟨k0, k1, k2, k3, k4, k5, k6, k7, kv, ks, kd⟩ := hk
  refine jb_aload_n (pc' := 1) dX11_voice_0 rfl rfl ?_
  refine jb_iload_n (pc' := 2) dX11_voice_1 rfl rfl ?_
  refine jb_callV (pc' := 5) (ci := 11) (q := 0) (As := [.int p]) (a2 := 0) (b2 := 0) wv_X11_92 rfl dX11_voice_2 (c_isNoVoice imm Im rowm stkm tpm Tm I W T hr0 hk0 p) rfl rfl ⟨by decide, Nat.le_of_eq (Nat.zero_add _), Nat.le_of_eq (Nat.zero_add _)⟩ (Nat.le_of_ble_eq_true rfl) rfl (fun r h9 hq => ?_)
  rcases hq with ⟨rfl, ⟨o1, rfl⟩ | ⟨o1, rfl⟩⟩
  · show jb_J _ RX11 cX11_voice 5 (Option.some .int) false 2 0 0 5 [some (.ref 0), some (.int p), some (.int a), some (.int x), none] [.int 0] [jb_main imm Im Tm rowm stkm tpm, jb_sch13 I W T, s2, s3, s4, s5, s6, s7, s8, jb_act Ia boa era, s10, s11] _
    refine jb_if_ne (tgt := 17) (pc' := 8) dX11_voice_5 (by decide) rfl (fun z => absurd (by decide) z) (fun _ => ?_)
    refine jb_iload_n (pc' := 9) dX11_voice_8 rfl rfl ?_
    refine jb_iconst (pc' := 10) 0 dX11_voice_9 (by decide) rfl ?_
    refine jb_iconst (pc' := 11) 3 dX11_voice_10 (by decide) rfl ?_
    refine jb_callS (pc' := 14) (As := [.int a, .int 0, .int 3]) (a2 := 0) (b2 := 0) wv_X11_74 dX11_voice_11 (c_isOutL a 0 3 (by omega) (by omega)) rfl ⟨by decide, Nat.le_of_eq (Nat.zero_add _), Nat.le_of_eq (Nat.zero_add _)⟩ (Nat.le_of_ble_eq_true rfl) rfl (fun r h9 hq => ?_)
    rcases hq with ⟨rfl, ⟨o4, rfl⟩ | ⟨o4, rfl⟩⟩
    · show jb_J _ RX11 cX11_voice 5 (Option.some .int) false 2 0 0 14 [some (.ref 0), some (.int p), some (.int a), some (.int x), none] [.int 1] [jb_main imm Im Tm rowm stkm tpm, jb_sch13 I W T, s2, s3, s4, s5, s6, s7, s8, jb_act Ia boa era, s10, s11] _
      refine jb_if_eq (tgt := 23) (pc' := 17) dX11_voice_14 (by decide) rfl (fun z => absurd z (by decide)) (fun _ => ?_)
      refine jb_aload_n (pc' := 18) dX11_voice_17 rfl rfl ?_
      refine jb_iconst (pc' := 19) 1 dX11_voice_18 (by decide) rfl ?_
      refine jb_callV (pc' := 22) (ci := 11) (q := 0) (As := [.int 1]) (a2 := 0) (b2 := 0) wv_X11_78 rfl dX11_voice_19 (c_error imm Im rowm stkm tpm Tm Ia boa era 1 (by decide)) rfl rfl ⟨by decide, Nat.le_of_eq (Nat.zero_add _), Nat.le_of_eq (Nat.zero_add _)⟩ (Nat.le_of_ble_eq_true rfl) rfl (fun r h9 hq => ?_)
      obtain ⟨rfl, rfl⟩ := hq
      show jb_J _ RX11 cX11_voice 5 (Option.some .int) false 2 0 0 22 [some (.ref 0), some (.int p), some (.int a), some (.int x), none] [.int (jm_er 1)] [jb_main imm Im Tm rowm stkm tpm, jb_sch13 I W T, s2, s3, s4, s5, s6, s7, s8, jb_act Ia boa (jm_ef era 1), s10, s11] _
      refine jb_iret dX11_voice_22 rfl ?_
      exact ⟨rfl, rfl⟩
    · show jb_J _ RX11 cX11_voice 5 (Option.some .int) false 2 0 0 14 [some (.ref 0), some (.int p), some (.int a), some (.int x), none] [.int 0] [jb_main imm Im Tm rowm stkm tpm, jb_sch13 I W T, s2, s3, s4, s5, s6, s7, s8, jb_act Ia boa era, s10, s11] _
      exact absurd ⟨by assumption, by assumption⟩ hb
  · show jb_J _ RX11 cX11_voice 5 (Option.some .int) false 2 0 0 5 [some (.ref 0), some (.int p), some (.int a), some (.int x), none] [.int 1] [jb_main imm Im Tm rowm stkm tpm, jb_sch13 I W T, s2, s3, s4, s5, s6, s7, s8, jb_act Ia boa era, s10, s11] _
    refine jb_if_ne (tgt := 17) (pc' := 8) dX11_voice_5 (by decide) rfl (fun _ => ?_) (fun z => absurd z (by decide))
    refine jb_aload_n (pc' := 18) dX11_voice_17 rfl rfl ?_
    refine jb_iconst (pc' := 19) 1 dX11_voice_18 (by decide) rfl ?_
    refine jb_callV (pc' := 22) (ci := 11) (q := 0) (As := [.int 1]) (a2 := 0) (b2 := 0) wv_X11_78 rfl dX11_voice_19 (c_error imm Im rowm stkm tpm Tm Ia boa era 1 (by decide)) rfl rfl ⟨by decide, Nat.le_of_eq (Nat.zero_add _), Nat.le_of_eq (Nat.zero_add _)⟩ (Nat.le_of_ble_eq_true rfl) rfl (fun r h9 hq => ?_)
    obtain ⟨rfl, rfl⟩ := hq
    show jb_J _ RX11 cX11_voice 5 (Option.some .int) false 2 0 0 22 [some (.ref 0), some (.int p), some (.int a), some (.int x), none] [.int (jm_er 1)] [jb_main imm Im Tm rowm stkm tpm, jb_sch13 I W T, s2, s3, s4, s5, s6, s7, s8, jb_act Ia boa (jm_ef era 1), s10, s11] _
    refine jb_iret dX11_voice_22 rfl ?_
    exact ⟨rfl, rfl⟩
