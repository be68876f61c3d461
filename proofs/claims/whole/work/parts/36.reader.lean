/-! ===== the class's Reader ===== -/
def jc_ (I : Nat → Int32) (n a w : Nat) (fl : Int32) : Prop := I 0 = nI n ∧ I 1 = nI a ∧ I 2 = nI w ∧ I 3 = fl
theorem jc_.at {I : Nat → Int32} {n a b w : Nat} {fl : Int32} (h : jc_ I n a w fl) : jc_ (upd I 1 (nI b)) n b w fl := ⟨(pk_un (by decide)).trans h.1, pk_us, (pk_un (by decide)).trans h.2.2.1, (pk_un (by decide)).trans h.2.2.2⟩
theorem jc_.wr {I : Nat → Int32} {n a b w : Nat} {fl : Int32} (h : jc_ I n a w fl) : jc_ (upd I 2 (nI b)) n a b fl := ⟨(pk_un (by decide)).trans h.1, (pk_un (by decide)).trans h.2.1, pk_us, (pk_un (by decide)).trans h.2.2.2⟩
theorem jc_.flt {I : Nat → Int32} {n a w : Nat} {fl f2 : Int32} (h : jc_ I n a w fl) : jc_ (upd I 3 f2) n a w f2 := ⟨(pk_un (by decide)).trans h.1, (pk_un (by decide)).trans h.2.1, (pk_un (by decide)).trans h.2.2.1, pk_us⟩
/-- bytes -/
def jp_by (B : Nat → Int32) (n : Nat) : Prop := ∀ k, k < n → ∃ b, b < 256 ∧ B k = nI b
theorem jp_by.lk {B : Nat → Int32} {n : Nat} (h : jp_by B n) (a : Nat) : jp_lk B n a = -1 ∨ ∃ b, b < 256 ∧ jp_lk B n a = nI b := by
  by_cases q : a < n
  · obtain ⟨b, hb, e⟩ := h a q
    exact Or.inr ⟨b, hb, by rw [jp_lk_in q, e]⟩
  · exact Or.inl (jp_lk_out q)
theorem jp_off9 : ∀ b, b < 256 → jp_rk (nI b) = 9 → Op.lookupswitch.offset [(37, 99), (38, 93), (42, 99), (43, 97), (45, 97), (47, 99), (60, 95), (61, 95), (62, 95), (124, 91)] 101 (nI b).toInt = 101 := by decide +kernel
theorem jp_off {s : Int32} (h : s = -1 ∨ ∃ b, b < 256 ∧ s = nI b) (h9 : jp_rk s = 9) : Op.lookupswitch.offset [(37, 99), (38, 93), (42, 99), (43, 97), (45, 97), (47, 99), (60, 95), (61, 95), (62, 95), (124, 91)] 101 s.toInt = 101 := by
  rcases h with rfl | ⟨b, hb, rfl⟩
  · decide +kernel
  · exact jp_off9 b hb h9
theorem jp_b8 : ∀ b, b < 256 → ((119 = (nI b).toInt8.toInt32 ↔ nI b = 119) ∧ (102 = (nI b).toInt8.toInt32 ↔ nI b = 102) ∧ (105 = (nI b).toInt8.toInt32 ↔ nI b = 105) ∧ (107 = (nI b).toInt8.toInt32 ↔ nI b = 107) ∧ (109 = (nI b).toInt8.toInt32 ↔ nI b = 109) ∧ (99 = (nI b).toInt8.toInt32 ↔ nI b = 99)) := by decide +kernel
theorem jp_c16 : ∀ b, b < 256 → ((nI b).toUInt32 % 65536).toInt32 = nI b := by decide +kernel
theorem jp_rk_le (s : Int32) : jp_rk s ≤ 9 := by
  unfold jp_rk
  repeat (first | omega | split)
theorem jn_m1 {r : Nat} (h : r < 2 ^ 31) : ¬ (-1 : Int32) = nI r := by
  intro z
  have h1 := congrArg Int32.toInt z
  rw [nI_toInt h] at h1
  have h2 : (-1 : Int32).toInt = -1 := by decide
  omega
theorem jp_wr_bin (f : Nat → Int32) (w : Nat) (c e : List Int32) (s : Int32) {v : Nat} (hv : w + c.length + e.length = v) : upd (jp_wr (jp_wr f w c) (w + c.length) e) v s = jp_wr f w (c ++ e ++ [s]) := by
  subst hv
  rw [jp_wr_app, jp_wr_app, List.length_append, ← Nat.add_assoc]
  rfl
theorem jp_wr_one (f : Nat → Int32) (w : Nat) (e : List Int32) (s : Int32) {v : Nat} (hv : w + e.length = v) : upd (jp_wr f w e) v s = jp_wr f w (e ++ [s]) := by
  subst hv
  rw [jp_wr_app]
  rfl
set_option maxRecDepth 100000 in
set_option maxHeartbeats 4000000 in
theorem c_coder0 {sc : Nat × (Nat → Int32)} {h : jb_H} : jb_C sc yJ0_coder_7d493 cJ0_coder_7d493 1 (Option.some .byte) 0 0 0 [.ref 1000002] h (fun r h9 => r = some (.int 0) ∧ h = h9) := by
  refine jb_CofJ (ini := false) (by decide +kernel) (fun h => by cases h) (Nat.le_of_ble_eq_true rfl) ?_
  show jb_J sc RJ0 cJ0_coder_7d493 1 (Option.some .byte) false 0 0 0 0 [some (.ref 1000002)] [] h _
  refine jb_compact (pc' := 3) jb_fl_J0_38 dJ0_coder_7d493_0 rfl ?_
  refine jb_if_eq (tgt := 13) (pc' := 6) dJ0_coder_7d493_3 (by decide) rfl (fun z => absurd z (by decide)) (fun _ => ?_)
  refine jb_aload_n (pc' := 7) dJ0_coder_7d493_6 rfl rfl ?_
  refine jb_coder (pc' := 10) (show 0 < 2 by decide) jb_fl_J0_15 dJ0_coder_7d493_7 rfl ?_
  refine jb_goto (pc' := 14) dJ0_coder_7d493_10 (by decide) ?_
  refine jb_iret dJ0_coder_7d493_14 rfl ?_
  exact ⟨rfl, rfl⟩
set_option maxRecDepth 100000 in
set_option maxHeartbeats 4000000 in
theorem c_isLatin0 {sc : Nat × (Nat → Int32)} {h : jb_H} : jb_C sc yJ0_isLatin1_aae02 cJ0_isLatin1_aae02 1 (Option.some .boolean) 0 0 0 [.ref 1000002] h (fun r h9 => r = some (.int 1) ∧ h = h9) := by
  refine jb_CofJ (ini := false) (by decide +kernel) (fun h => by cases h) (Nat.le_of_ble_eq_true rfl) ?_
  show jb_J sc RJ0 cJ0_isLatin1_aae02 1 (Option.some .boolean) false 0 0 0 0 [some (.ref 1000002)] [] h _
  refine jb_compact (pc' := 3) jb_fl_J0_38 dJ0_isLatin1_aae02_0 rfl ?_
  refine jb_if_eq (tgt := 17) (pc' := 6) dJ0_isLatin1_aae02_3 (by decide) rfl (fun z => absurd z (by decide)) (fun _ => ?_)
  refine jb_aload_n (pc' := 7) dJ0_isLatin1_aae02_6 rfl rfl ?_
  refine jb_coder (pc' := 10) (show 0 < 2 by decide) jb_fl_J0_15 dJ0_isLatin1_aae02_7 rfl ?_
  refine jb_if_ne (tgt := 17) (pc' := 13) dJ0_isLatin1_aae02_10 (by decide) rfl (fun z => absurd (by decide) z) (fun _ => ?_)
  refine jb_iconst (pc' := 14) 1 dJ0_isLatin1_aae02_13 (by decide) rfl ?_
  refine jb_goto (pc' := 18) dJ0_isLatin1_aae02_14 (by decide) ?_
  refine jb_iret dJ0_isLatin1_aae02_18 rfl ?_
  exact ⟨rfl, rfl⟩
set_option maxRecDepth 100000 in
set_option maxHeartbeats 4000000 in
theorem c_slen0 {sc : Nat × (Nat → Int32)} {h : jb_H} : jb_C sc yJ0_length_8abf5 cJ0_length_8abf5 1 (Option.some .int) 1 0 0 [.ref 1000002] h (fun r h9 => r = some (.int 4) ∧ h = h9) := by
  refine jb_CofJ (ini := false) (by decide +kernel) (fun h => by cases h) (Nat.le_of_ble_eq_true rfl) ?_
  show jb_J sc RJ0 cJ0_length_8abf5 1 (Option.some .int) false 1 0 0 0 [some (.ref 1000002)] [] h _
  refine jb_aload_n (pc' := 1) dJ0_length_8abf5_0 rfl rfl ?_
  refine jb_value (pc' := 4) (show 0 < 2 by decide) jb_fl_J0_9 dJ0_length_8abf5_1 rfl ?_
  refine jb_blen (pc' := 5) (show 0 < 2 by decide) dJ0_length_8abf5_4 rfl ?_
  refine jb_top (v := .int (nI (jb_sl 0))) (w := .int 4) (jb_vI (by decide)) ?_
  refine jb_aload_n (pc' := 6) dJ0_length_8abf5_5 rfl rfl ?_
  refine jb_callR (pc' := 9) (As := []) (a2 := 0) (b2 := 0) (show 0 < 2 by decide) wv_J0_335 dJ0_length_8abf5_6 c_coder0 rfl ⟨by decide, Nat.le_of_eq (Nat.zero_add _), Nat.le_of_eq (Nat.zero_add _)⟩ (Nat.le_of_ble_eq_true rfl) rfl (fun r h9 hq => ?_)
  obtain ⟨rfl, rfl⟩ := hq
  show jb_J _ RJ0 cJ0_length_8abf5 1 (Option.some .int) false 1 0 0 9 [some (.ref 1000002)] [.int 0, .int 4] h _
  refine jb_ishr (pc' := 10) dJ0_length_8abf5_9 rfl ?_
  refine jb_top (v := .int ((4 : Int32) >>> ((0 : Int32) &&& 31))) (w := .int 4) (jb_vI (by decide)) ?_
  refine jb_iret dJ0_length_8abf5_10 rfl ?_
  exact ⟨rfl, rfl⟩
set_option maxRecDepth 100000 in
set_option maxHeartbeats 4000000 in
theorem c_canEnc0 {sc : Nat × (Nat → Int32)} {h : jb_H} (b : Nat) (hb : b < 256) : jb_C sc yJ1_canEncode_9a6ad cJ1_canEncode_9a6ad 1 (Option.some .boolean) 0 0 0 [.int (nI b)] h (fun r h9 => r = some (.int 1) ∧ h = h9) := by
  refine jb_CofJ (ini := false) (by decide +kernel) (fun h => by cases h) (Nat.le_of_ble_eq_true rfl) ?_
  show jb_J sc RJ1 cJ1_canEncode_9a6ad 1 (Option.some .boolean) false 0 0 0 0 [some (.int (nI b))] [] h _
  refine jb_iload_n (pc' := 1) dJ1_canEncode_9a6ad_0 rfl rfl ?_
  refine jb_if_lt (tgt := 15) (pc' := 4) dJ1_canEncode_9a6ad_1 (by decide) rfl (fun z => absurd z (nI_pos (n := b) (by omega))) (fun _ => ?_)
  refine jb_iload_n (pc' := 5) dJ1_canEncode_9a6ad_4 rfl rfl ?_
  refine jb_sipush (pc' := 8) 255 dJ1_canEncode_9a6ad_5 (by decide) rfl ?_
  refine jb_icmp_gt (tgt := 15) (pc' := 11) dJ1_canEncode_9a6ad_8 (by decide) rfl (fun z => absurd z (nI_nlt (a := 255) (b := b) (by omega) (by omega))) (fun _ => ?_)
  refine jb_iconst (pc' := 12) 1 dJ1_canEncode_9a6ad_11 (by decide) rfl ?_
  refine jb_goto (pc' := 16) dJ1_canEncode_9a6ad_12 (by decide) ?_
  refine jb_iret dJ1_canEncode_9a6ad_16 rfl ?_
  exact ⟨rfl, rfl⟩
set_option maxRecDepth 100000 in
set_option maxHeartbeats 4000000 in
theorem c_idxChar0 {sc : Nat × (Nat → Int32)} {h : jb_H} (b : Nat) (hb : b < 256) : jb_C sc yJ1_indexOfChar_4cfef cJ1_indexOfChar_4cfef 6 (Option.some .int) 0 0 0 [.ref 1000004, .int (nI b), .int 0, .int 4] h (fun r h9 => h = h9 ∧ ((jp_na 0 (nI b) = none ∧ r = some (.int (-1))) ∨ ∃ i9, i9 < 4 ∧ jp_na 0 (nI b) = some i9 ∧ r = some (.int (nI i9)))) := by
  refine jb_CofJ (ini := false) (by decide +kernel) (fun h => by cases h) (Nat.le_of_ble_eq_true rfl) ?_
  show jb_J sc RJ1 cJ1_indexOfChar_4cfef 6 (Option.some .int) false 0 0 0 0 [some (.ref 1000004), some (.int (nI b)), some (.int 0), some (.int 4), none, none] [] h _
  refine jb_iload_n (pc' := 1) dJ1_indexOfChar_4cfef_0 rfl rfl ?_
  refine jb_i2b (pc' := 2) dJ1_indexOfChar_4cfef_1 rfl ?_
  refine jb_istore_ (pc' := 4) dJ1_indexOfChar_4cfef_2 (by decide) (jb_at4 rfl) rfl ?_
  refine jb_iload_n (pc' := 5) dJ1_indexOfChar_4cfef_4 rfl rfl ?_
  refine jb_istore_ (pc' := 7) dJ1_indexOfChar_4cfef_5 (by decide) (jb_at5 rfl) rfl ?_
  refine jb_iload (pc' := 9) dJ1_indexOfChar_4cfef_7 rfl rfl ?_
  refine jb_iload_n (pc' := 10) dJ1_indexOfChar_4cfef_9 rfl rfl ?_
  refine jb_icmp_ge (tgt := 31) (pc' := 13) dJ1_indexOfChar_4cfef_10 (by decide) rfl (fun z => absurd z (by decide)) (fun _ => ?_)
  refine jb_aload_n (pc' := 14) dJ1_indexOfChar_4cfef_13 rfl rfl ?_
  refine jb_iload (pc' := 16) dJ1_indexOfChar_4cfef_14 rfl rfl ?_
  refine jb_bload (pc' := 17) (j9 := 0) (show 0 < 2 by decide) dJ1_indexOfChar_4cfef_16 jb_x0 (by decide) rfl ?_
  refine jb_top (v := .int (jb_sb 0 0)) (w := .int 119) (jb_vI (by decide)) ?_
  refine jb_iload (pc' := 19) dJ1_indexOfChar_4cfef_17 rfl rfl ?_
  refine jb_icmp_ne (tgt := 25) (pc' := 22) dJ1_indexOfChar_4cfef_19 (by decide) rfl (fun c2 => ?_) (fun c2 => ?_)
  · refine jb_iinc_ (pc' := 28) 1 dJ1_indexOfChar_4cfef_25 (by decide) rfl (by decide) (jb_at5 rfl) rfl ?_
    refine jb_goto (pc' := 7) dJ1_indexOfChar_4cfef_28 (by decide) ?_
    refine jb_iload (pc' := 9) dJ1_indexOfChar_4cfef_7 rfl rfl ?_
    refine jb_iload_n (pc' := 10) dJ1_indexOfChar_4cfef_9 rfl rfl ?_
    refine jb_icmp_ge (tgt := 31) (pc' := 13) dJ1_indexOfChar_4cfef_10 (by decide) rfl (fun z => absurd z (by decide)) (fun _ => ?_)
    refine jb_aload_n (pc' := 14) dJ1_indexOfChar_4cfef_13 rfl rfl ?_
    refine jb_iload (pc' := 16) dJ1_indexOfChar_4cfef_14 rfl rfl ?_
    refine jb_bload (pc' := 17) (j9 := 1) (show 0 < 2 by decide) dJ1_indexOfChar_4cfef_16 jb_x1 (by decide) rfl ?_
    refine jb_top (v := .int (jb_sb 0 1)) (w := .int 102) (jb_vI (by decide)) ?_
    refine jb_iload (pc' := 19) dJ1_indexOfChar_4cfef_17 rfl rfl ?_
    refine jb_icmp_ne (tgt := 25) (pc' := 22) dJ1_indexOfChar_4cfef_19 (by decide) rfl (fun c4 => ?_) (fun c4 => ?_)
    · refine jb_iinc_ (pc' := 28) 2 dJ1_indexOfChar_4cfef_25 (by decide) rfl (by decide) (jb_at5 rfl) rfl ?_
      refine jb_goto (pc' := 7) dJ1_indexOfChar_4cfef_28 (by decide) ?_
      refine jb_iload (pc' := 9) dJ1_indexOfChar_4cfef_7 rfl rfl ?_
      refine jb_iload_n (pc' := 10) dJ1_indexOfChar_4cfef_9 rfl rfl ?_
      refine jb_icmp_ge (tgt := 31) (pc' := 13) dJ1_indexOfChar_4cfef_10 (by decide) rfl (fun z => absurd z (by decide)) (fun _ => ?_)
      refine jb_aload_n (pc' := 14) dJ1_indexOfChar_4cfef_13 rfl rfl ?_
      refine jb_iload (pc' := 16) dJ1_indexOfChar_4cfef_14 rfl rfl ?_
      refine jb_bload (pc' := 17) (j9 := 2) (show 0 < 2 by decide) dJ1_indexOfChar_4cfef_16 jb_x2 (by decide) rfl ?_
      refine jb_top (v := .int (jb_sb 0 2)) (w := .int 105) (jb_vI (by decide)) ?_
      refine jb_iload (pc' := 19) dJ1_indexOfChar_4cfef_17 rfl rfl ?_
      refine jb_icmp_ne (tgt := 25) (pc' := 22) dJ1_indexOfChar_4cfef_19 (by decide) rfl (fun c6 => ?_) (fun c6 => ?_)
      · refine jb_iinc_ (pc' := 28) 3 dJ1_indexOfChar_4cfef_25 (by decide) rfl (by decide) (jb_at5 rfl) rfl ?_
        refine jb_goto (pc' := 7) dJ1_indexOfChar_4cfef_28 (by decide) ?_
        refine jb_iload (pc' := 9) dJ1_indexOfChar_4cfef_7 rfl rfl ?_
        refine jb_iload_n (pc' := 10) dJ1_indexOfChar_4cfef_9 rfl rfl ?_
        refine jb_icmp_ge (tgt := 31) (pc' := 13) dJ1_indexOfChar_4cfef_10 (by decide) rfl (fun z => absurd z (by decide)) (fun _ => ?_)
        refine jb_aload_n (pc' := 14) dJ1_indexOfChar_4cfef_13 rfl rfl ?_
        refine jb_iload (pc' := 16) dJ1_indexOfChar_4cfef_14 rfl rfl ?_
        refine jb_bload (pc' := 17) (j9 := 3) (show 0 < 2 by decide) dJ1_indexOfChar_4cfef_16 jb_x3 (by decide) rfl ?_
        refine jb_top (v := .int (jb_sb 0 3)) (w := .int 107) (jb_vI (by decide)) ?_
        refine jb_iload (pc' := 19) dJ1_indexOfChar_4cfef_17 rfl rfl ?_
        refine jb_icmp_ne (tgt := 25) (pc' := 22) dJ1_indexOfChar_4cfef_19 (by decide) rfl (fun c8 => ?_) (fun c8 => ?_)
        · refine jb_iinc_ (pc' := 28) 4 dJ1_indexOfChar_4cfef_25 (by decide) rfl (by decide) (jb_at5 rfl) rfl ?_
          refine jb_goto (pc' := 7) dJ1_indexOfChar_4cfef_28 (by decide) ?_
          refine jb_iload (pc' := 9) dJ1_indexOfChar_4cfef_7 rfl rfl ?_
          refine jb_iload_n (pc' := 10) dJ1_indexOfChar_4cfef_9 rfl rfl ?_
          refine jb_icmp_ge (tgt := 31) (pc' := 13) dJ1_indexOfChar_4cfef_10 (by decide) rfl (fun _ => ?_) (fun z => absurd (by decide) z)
          refine jb_iconst (pc' := 32) (-1) dJ1_indexOfChar_4cfef_31 (by decide) rfl ?_
          refine jb_iret dJ1_indexOfChar_4cfef_32 rfl ?_
          refine ⟨rfl, Or.inl ⟨?_, rfl⟩⟩
          obtain ⟨g0, g1, g2, g3, g4, g5⟩ := jp_b8 b hb
          simp only [g0, g1, g2, g3, g4, g5] at *
          simp [jp_na, *]
        · refine jb_iload (pc' := 24) dJ1_indexOfChar_4cfef_22 rfl rfl ?_
          refine jb_iret dJ1_indexOfChar_4cfef_24 rfl ?_
          refine ⟨rfl, Or.inr ⟨3, by decide, ?_, rfl⟩⟩
          obtain ⟨g0, g1, g2, g3, g4, g5⟩ := jp_b8 b hb
          simp only [g0, g1, g2, g3, g4, g5] at *
          simp [jp_na, *]
      · refine jb_iload (pc' := 24) dJ1_indexOfChar_4cfef_22 rfl rfl ?_
        refine jb_iret dJ1_indexOfChar_4cfef_24 rfl ?_
        refine ⟨rfl, Or.inr ⟨2, by decide, ?_, rfl⟩⟩
        obtain ⟨g0, g1, g2, g3, g4, g5⟩ := jp_b8 b hb
        simp only [g0, g1, g2, g3, g4, g5] at *
        simp [jp_na, *]
    · refine jb_iload (pc' := 24) dJ1_indexOfChar_4cfef_22 rfl rfl ?_
      refine jb_iret dJ1_indexOfChar_4cfef_24 rfl ?_
      refine ⟨rfl, Or.inr ⟨1, by decide, ?_, rfl⟩⟩
      obtain ⟨g0, g1, g2, g3, g4, g5⟩ := jp_b8 b hb
      simp only [g0, g1, g2, g3, g4, g5] at *
      simp [jp_na, *]
  · refine jb_iload (pc' := 24) dJ1_indexOfChar_4cfef_22 rfl rfl ?_
    refine jb_iret dJ1_indexOfChar_4cfef_24 rfl ?_
    refine ⟨rfl, Or.inr ⟨0, by decide, ?_, rfl⟩⟩
    obtain ⟨g0, g1, g2, g3, g4, g5⟩ := jp_b8 b hb
    simp only [g0, g1, g2, g3, g4, g5] at *
    simp [jp_na, *]
set_option maxRecDepth 100000 in
set_option maxHeartbeats 4000000 in
theorem c_idxLatin0 {sc : Nat × (Nat → Int32)} {h : jb_H} (b : Nat) (hb : b < 256) : jb_C sc yJ1_indexOf_4cfef cJ1_indexOf_4cfef 4 (Option.some .int) 1 0 0 [.ref 1000004, .int (nI b), .int 0, .int 4] h (fun r h9 => h = h9 ∧ ((jp_na 0 (nI b) = none ∧ r = some (.int (-1))) ∨ ∃ i9, i9 < 4 ∧ jp_na 0 (nI b) = some i9 ∧ r = some (.int (nI i9)))) := by
  refine jb_CofJ (ini := false) (by decide +kernel) (fun h => by cases h) (Nat.le_of_ble_eq_true rfl) ?_
  show jb_J sc RJ1 cJ1_indexOf_4cfef 4 (Option.some .int) false 1 0 0 0 [some (.ref 1000004), some (.int (nI b)), some (.int 0), some (.int 4)] [] h _
  refine jb_iload_n (pc' := 1) dJ1_indexOf_4cfef_0 rfl rfl ?_
  refine jb_callS (pc' := 4) (As := [.int (nI b)]) (a2 := 0) (b2 := 0) wv_J1_88 dJ1_indexOf_4cfef_1 (c_canEnc0 b hb) rfl ⟨by decide, Nat.le_of_eq (Nat.zero_add _), Nat.le_of_eq (Nat.zero_add _)⟩ (Nat.le_of_ble_eq_true rfl) rfl (fun r h9 hq => ?_)
  obtain ⟨rfl, rfl⟩ := hq
  show jb_J _ RJ1 cJ1_indexOf_4cfef 4 (Option.some .int) false 1 0 0 4 [some (.ref 1000004), some (.int (nI b)), some (.int 0), some (.int 4)] [.int 1] h _
  refine jb_if_ne (tgt := 9) (pc' := 7) dJ1_indexOf_4cfef_4 (by decide) rfl (fun _ => ?_) (fun z => absurd z (by decide))
  refine jb_iload_n (pc' := 10) dJ1_indexOf_4cfef_9 rfl rfl ?_
  refine jb_iconst (pc' := 11) 0 dJ1_indexOf_4cfef_10 (by decide) rfl ?_
  refine jb_mmax (pc' := 14) wv_J1_92 dJ1_indexOf_4cfef_11 (by decide) (Nat.le_of_ble_eq_true rfl) rfl ?_
  refine jb_top (v := .int (if 0 < 0 then 0 else 0)) (w := .int 0) (jb_vI (by decide)) ?_
  refine jb_istore_n_ (pc' := 15) dJ1_indexOf_4cfef_14 (by decide) (jb_at2 rfl) rfl ?_
  refine jb_iload_n (pc' := 16) dJ1_indexOf_4cfef_15 rfl rfl ?_
  refine jb_aload_n (pc' := 17) dJ1_indexOf_4cfef_16 rfl rfl ?_
  refine jb_blen (pc' := 18) (show 0 < 2 by decide) dJ1_indexOf_4cfef_17 rfl ?_
  refine jb_top (v := .int (nI (jb_sl 0))) (w := .int 4) (jb_vI (by decide)) ?_
  refine jb_mmin (pc' := 21) wv_J1_38 dJ1_indexOf_4cfef_18 (by decide) (Nat.le_of_ble_eq_true rfl) rfl ?_
  refine jb_top (v := .int (if 4 < 4 then 4 else 4)) (w := .int 4) (jb_vI (by decide)) ?_
  refine jb_istore_n_ (pc' := 22) dJ1_indexOf_4cfef_21 (by decide) (jb_at3 rfl) rfl ?_
  refine jb_iload_n (pc' := 23) dJ1_indexOf_4cfef_22 rfl rfl ?_
  refine jb_iload_n (pc' := 24) dJ1_indexOf_4cfef_23 rfl rfl ?_
  refine jb_icmp_lt (tgt := 29) (pc' := 27) dJ1_indexOf_4cfef_24 (by decide) rfl (fun _ => ?_) (fun z => absurd (by decide) z)
  refine jb_aload_n (pc' := 30) dJ1_indexOf_4cfef_29 rfl rfl ?_
  refine jb_iload_n (pc' := 31) dJ1_indexOf_4cfef_30 rfl rfl ?_
  refine jb_iload_n (pc' := 32) dJ1_indexOf_4cfef_31 rfl rfl ?_
  refine jb_iload_n (pc' := 33) dJ1_indexOf_4cfef_32 rfl rfl ?_
  refine jb_callS (pc' := 36) (As := [.ref 1000004, .int (nI b), .int 0, .int 4]) (a2 := 0) (b2 := 0) wv_J1_95 dJ1_indexOf_4cfef_33 (c_idxChar0 b hb) rfl ⟨by decide, Nat.le_of_eq (Nat.zero_add _), Nat.le_of_eq (Nat.zero_add _)⟩ (Nat.le_of_ble_eq_true rfl) rfl (fun r h9 hq => ?_)
  rcases hq with ⟨rfl, ⟨en, rfl⟩ | ⟨i9, hi9, en, rfl⟩⟩
  · show jb_J _ RJ1 cJ1_indexOf_4cfef 4 (Option.some .int) false 1 0 0 36 [some (.ref 1000004), some (.int (nI b)), some (.int 0), some (.int 4)] [.int (-1)] h _
    refine jb_iret dJ1_indexOf_4cfef_36 rfl ?_
    exact ⟨rfl, Or.inl ⟨en, rfl⟩⟩
  · show jb_J _ RJ1 cJ1_indexOf_4cfef 4 (Option.some .int) false 1 0 0 36 [some (.ref 1000004), some (.int (nI b)), some (.int 0), some (.int 4)] [.int (nI i9)] h _
    refine jb_iret dJ1_indexOf_4cfef_36 rfl ?_
    exact ⟨rfl, Or.inr ⟨i9, hi9, en, rfl⟩⟩
set_option maxRecDepth 100000 in
set_option maxHeartbeats 4000000 in
theorem c_idxII0 {sc : Nat × (Nat → Int32)} {h : jb_H} (b : Nat) (hb : b < 256) : jb_C sc yJ0_indexOf_7cf53 cJ0_indexOf_7cf53 3 (Option.some .int) 2 0 0 [.ref 1000002, .int (nI b), .int 0] h (fun r h9 => h = h9 ∧ ((jp_na 0 (nI b) = none ∧ r = some (.int (-1))) ∨ ∃ i9, i9 < 4 ∧ jp_na 0 (nI b) = some i9 ∧ r = some (.int (nI i9)))) := by
  refine jb_CofJ (ini := false) (by decide +kernel) (fun h => by cases h) (Nat.le_of_ble_eq_true rfl) ?_
  show jb_J sc RJ0 cJ0_indexOf_7cf53 3 (Option.some .int) false 2 0 0 0 [some (.ref 1000002), some (.int (nI b)), some (.int 0)] [] h _
  refine jb_aload_n (pc' := 1) dJ0_indexOf_7cf53_0 rfl rfl ?_
  refine jb_callR (pc' := 4) (As := []) (a2 := 0) (b2 := 0) (show 0 < 2 by decide) wv_J0_492 dJ0_indexOf_7cf53_1 c_isLatin0 rfl ⟨by decide, Nat.le_of_eq (Nat.zero_add _), Nat.le_of_eq (Nat.zero_add _)⟩ (Nat.le_of_ble_eq_true rfl) rfl (fun r h9 hq => ?_)
  obtain ⟨rfl, rfl⟩ := hq
  show jb_J _ RJ0 cJ0_indexOf_7cf53 3 (Option.some .int) false 2 0 0 4 [some (.ref 1000002), some (.int (nI b)), some (.int 0)] [.int 1] h _
  refine jb_if_eq (tgt := 23) (pc' := 7) dJ0_indexOf_7cf53_4 (by decide) rfl (fun z => absurd z (by decide)) (fun _ => ?_)
  refine jb_aload_n (pc' := 8) dJ0_indexOf_7cf53_7 rfl rfl ?_
  refine jb_value (pc' := 11) (show 0 < 2 by decide) jb_fl_J0_9 dJ0_indexOf_7cf53_8 rfl ?_
  refine jb_iload_n (pc' := 12) dJ0_indexOf_7cf53_11 rfl rfl ?_
  refine jb_iload_n (pc' := 13) dJ0_indexOf_7cf53_12 rfl rfl ?_
  refine jb_aload_n (pc' := 14) dJ0_indexOf_7cf53_13 rfl rfl ?_
  refine jb_callR (pc' := 17) (As := []) (a2 := 0) (b2 := 0) (show 0 < 2 by decide) wv_J0_505 dJ0_indexOf_7cf53_14 c_slen0 rfl ⟨by decide, Nat.le_of_eq (Nat.zero_add _), Nat.le_of_eq (Nat.zero_add _)⟩ (Nat.le_of_ble_eq_true rfl) rfl (fun r h9 hq => ?_)
  obtain ⟨rfl, rfl⟩ := hq
  show jb_J _ RJ0 cJ0_indexOf_7cf53 3 (Option.some .int) false 2 0 0 17 [some (.ref 1000002), some (.int (nI b)), some (.int 0)] [.int 4, .int 0, .int (nI b), .ref 1000004] h _
  refine jb_callS (pc' := 20) (As := [.ref 1000004, .int (nI b), .int 0, .int 4]) (a2 := 0) (b2 := 0) wv_J0_637 dJ0_indexOf_7cf53_17 (c_idxLatin0 b hb) rfl ⟨by decide, Nat.le_of_eq (Nat.zero_add _), Nat.le_of_eq (Nat.zero_add _)⟩ (Nat.le_of_ble_eq_true rfl) rfl (fun r h9 hq => ?_)
  rcases hq with ⟨rfl, ⟨en, rfl⟩ | ⟨i9, hi9, en, rfl⟩⟩
  · show jb_J _ RJ0 cJ0_indexOf_7cf53 3 (Option.some .int) false 2 0 0 20 [some (.ref 1000002), some (.int (nI b)), some (.int 0)] [.int (-1)] h _
    refine jb_goto (pc' := 36) dJ0_indexOf_7cf53_20 (by decide) ?_
    refine jb_iret dJ0_indexOf_7cf53_36 rfl ?_
    exact ⟨rfl, Or.inl ⟨en, rfl⟩⟩
  · show jb_J _ RJ0 cJ0_indexOf_7cf53 3 (Option.some .int) false 2 0 0 20 [some (.ref 1000002), some (.int (nI b)), some (.int 0)] [.int (nI i9)] h _
    refine jb_goto (pc' := 36) dJ0_indexOf_7cf53_20 (by decide) ?_
    refine jb_iret dJ0_indexOf_7cf53_36 rfl ?_
    exact ⟨rfl, Or.inr ⟨i9, hi9, en, rfl⟩⟩
set_option maxRecDepth 100000 in
set_option maxHeartbeats 4000000 in
theorem c_idxI0 {sc : Nat × (Nat → Int32)} {h : jb_H} (b : Nat) (hb : b < 256) : jb_C sc yJ0_indexOf_0f7a4 cJ0_indexOf_0f7a4 2 (Option.some .int) 3 0 0 [.ref 1000002, .int (nI b)] h (fun r h9 => h = h9 ∧ ((jp_na 0 (nI b) = none ∧ r = some (.int (-1))) ∨ ∃ i9, i9 < 4 ∧ jp_na 0 (nI b) = some i9 ∧ r = some (.int (nI i9)))) := by
  refine jb_CofJ (ini := false) (by decide +kernel) (fun h => by cases h) (Nat.le_of_ble_eq_true rfl) ?_
  show jb_J sc RJ0 cJ0_indexOf_0f7a4 2 (Option.some .int) false 3 0 0 0 [some (.ref 1000002), some (.int (nI b))] [] h _
  refine jb_aload_n (pc' := 1) dJ0_indexOf_0f7a4_0 rfl rfl ?_
  refine jb_iload_n (pc' := 2) dJ0_indexOf_0f7a4_1 rfl rfl ?_
  refine jb_iconst (pc' := 3) 0 dJ0_indexOf_0f7a4_2 (by decide) rfl ?_
  refine jb_callR (pc' := 6) (As := [.int (nI b), .int 0]) (a2 := 0) (b2 := 0) (show 0 < 2 by decide) wv_J0_633 dJ0_indexOf_0f7a4_3 (c_idxII0 b hb) rfl ⟨by decide, Nat.le_of_eq (Nat.zero_add _), Nat.le_of_eq (Nat.zero_add _)⟩ (Nat.le_of_ble_eq_true rfl) rfl (fun r h9 hq => ?_)
  rcases hq with ⟨rfl, ⟨en, rfl⟩ | ⟨i9, hi9, en, rfl⟩⟩
  · show jb_J _ RJ0 cJ0_indexOf_0f7a4 2 (Option.some .int) false 3 0 0 6 [some (.ref 1000002), some (.int (nI b))] [.int (-1)] h _
    refine jb_iret dJ0_indexOf_0f7a4_6 rfl ?_
    exact ⟨rfl, Or.inl ⟨en, rfl⟩⟩
  · show jb_J _ RJ0 cJ0_indexOf_0f7a4 2 (Option.some .int) false 3 0 0 6 [some (.ref 1000002), some (.int (nI b))] [.int (nI i9)] h _
    refine jb_iret dJ0_indexOf_0f7a4_6 rfl ?_
    exact ⟨rfl, Or.inr ⟨i9, hi9, en, rfl⟩⟩
set_option maxRecDepth 100000 in
set_option maxHeartbeats 4000000 in
theorem c_coder1 {sc : Nat × (Nat → Int32)} {h : jb_H} : jb_C sc yJ0_coder_7d493 cJ0_coder_7d493 1 (Option.some .byte) 0 0 0 [.ref 1000003] h (fun r h9 => r = some (.int 0) ∧ h = h9) := by
  refine jb_CofJ (ini := false) (by decide +kernel) (fun h => by cases h) (Nat.le_of_ble_eq_true rfl) ?_
  show jb_J sc RJ0 cJ0_coder_7d493 1 (Option.some .byte) false 0 0 0 0 [some (.ref 1000003)] [] h _
  refine jb_compact (pc' := 3) jb_fl_J0_38 dJ0_coder_7d493_0 rfl ?_
  refine jb_if_eq (tgt := 13) (pc' := 6) dJ0_coder_7d493_3 (by decide) rfl (fun z => absurd z (by decide)) (fun _ => ?_)
  refine jb_aload_n (pc' := 7) dJ0_coder_7d493_6 rfl rfl ?_
  refine jb_coder (pc' := 10) (show 1 < 2 by decide) jb_fl_J0_15 dJ0_coder_7d493_7 rfl ?_
  refine jb_goto (pc' := 14) dJ0_coder_7d493_10 (by decide) ?_
  refine jb_iret dJ0_coder_7d493_14 rfl ?_
  exact ⟨rfl, rfl⟩
set_option maxRecDepth 100000 in
set_option maxHeartbeats 4000000 in
theorem c_isLatin1 {sc : Nat × (Nat → Int32)} {h : jb_H} : jb_C sc yJ0_isLatin1_aae02 cJ0_isLatin1_aae02 1 (Option.some .boolean) 0 0 0 [.ref 1000003] h (fun r h9 => r = some (.int 1) ∧ h = h9) := by
  refine jb_CofJ (ini := false) (by decide +kernel) (fun h => by cases h) (Nat.le_of_ble_eq_true rfl) ?_
  show jb_J sc RJ0 cJ0_isLatin1_aae02 1 (Option.some .boolean) false 0 0 0 0 [some (.ref 1000003)] [] h _
  refine jb_compact (pc' := 3) jb_fl_J0_38 dJ0_isLatin1_aae02_0 rfl ?_
  refine jb_if_eq (tgt := 17) (pc' := 6) dJ0_isLatin1_aae02_3 (by decide) rfl (fun z => absurd z (by decide)) (fun _ => ?_)
  refine jb_aload_n (pc' := 7) dJ0_isLatin1_aae02_6 rfl rfl ?_
  refine jb_coder (pc' := 10) (show 1 < 2 by decide) jb_fl_J0_15 dJ0_isLatin1_aae02_7 rfl ?_
  refine jb_if_ne (tgt := 17) (pc' := 13) dJ0_isLatin1_aae02_10 (by decide) rfl (fun z => absurd (by decide) z) (fun _ => ?_)
  refine jb_iconst (pc' := 14) 1 dJ0_isLatin1_aae02_13 (by decide) rfl ?_
  refine jb_goto (pc' := 18) dJ0_isLatin1_aae02_14 (by decide) ?_
  refine jb_iret dJ0_isLatin1_aae02_18 rfl ?_
  exact ⟨rfl, rfl⟩
set_option maxRecDepth 100000 in
set_option maxHeartbeats 4000000 in
theorem c_slen1 {sc : Nat × (Nat → Int32)} {h : jb_H} : jb_C sc yJ0_length_8abf5 cJ0_length_8abf5 1 (Option.some .int) 1 0 0 [.ref 1000003] h (fun r h9 => r = some (.int 3) ∧ h = h9) := by
  refine jb_CofJ (ini := false) (by decide +kernel) (fun h => by cases h) (Nat.le_of_ble_eq_true rfl) ?_
  show jb_J sc RJ0 cJ0_length_8abf5 1 (Option.some .int) false 1 0 0 0 [some (.ref 1000003)] [] h _
  refine jb_aload_n (pc' := 1) dJ0_length_8abf5_0 rfl rfl ?_
  refine jb_value (pc' := 4) (show 1 < 2 by decide) jb_fl_J0_9 dJ0_length_8abf5_1 rfl ?_
  refine jb_blen (pc' := 5) (show 1 < 2 by decide) dJ0_length_8abf5_4 rfl ?_
  refine jb_top (v := .int (nI (jb_sl 1))) (w := .int 3) (jb_vI (by decide)) ?_
  refine jb_aload_n (pc' := 6) dJ0_length_8abf5_5 rfl rfl ?_
  refine jb_callR (pc' := 9) (As := []) (a2 := 0) (b2 := 0) (show 1 < 2 by decide) wv_J0_335 dJ0_length_8abf5_6 c_coder1 rfl ⟨by decide, Nat.le_of_eq (Nat.zero_add _), Nat.le_of_eq (Nat.zero_add _)⟩ (Nat.le_of_ble_eq_true rfl) rfl (fun r h9 hq => ?_)
  obtain ⟨rfl, rfl⟩ := hq
  show jb_J _ RJ0 cJ0_length_8abf5 1 (Option.some .int) false 1 0 0 9 [some (.ref 1000003)] [.int 0, .int 3] h _
  refine jb_ishr (pc' := 10) dJ0_length_8abf5_9 rfl ?_
  refine jb_top (v := .int ((3 : Int32) >>> ((0 : Int32) &&& 31))) (w := .int 3) (jb_vI (by decide)) ?_
  refine jb_iret dJ0_length_8abf5_10 rfl ?_
  exact ⟨rfl, rfl⟩
set_option maxRecDepth 100000 in
set_option maxHeartbeats 4000000 in
theorem c_idxChar1 {sc : Nat × (Nat → Int32)} {h : jb_H} (b : Nat) (hb : b < 256) : jb_C sc yJ1_indexOfChar_4cfef cJ1_indexOfChar_4cfef 6 (Option.some .int) 0 0 0 [.ref 1000005, .int (nI b), .int 0, .int 3] h (fun r h9 => h = h9 ∧ ((jp_na 1 (nI b) = none ∧ r = some (.int (-1))) ∨ ∃ i9, i9 < 4 ∧ jp_na 1 (nI b) = some i9 ∧ r = some (.int (nI i9)))) := by
  refine jb_CofJ (ini := false) (by decide +kernel) (fun h => by cases h) (Nat.le_of_ble_eq_true rfl) ?_
  show jb_J sc RJ1 cJ1_indexOfChar_4cfef 6 (Option.some .int) false 0 0 0 0 [some (.ref 1000005), some (.int (nI b)), some (.int 0), some (.int 3), none, none] [] h _
  refine jb_iload_n (pc' := 1) dJ1_indexOfChar_4cfef_0 rfl rfl ?_
  refine jb_i2b (pc' := 2) dJ1_indexOfChar_4cfef_1 rfl ?_
  refine jb_istore_ (pc' := 4) dJ1_indexOfChar_4cfef_2 (by decide) (jb_at4 rfl) rfl ?_
  refine jb_iload_n (pc' := 5) dJ1_indexOfChar_4cfef_4 rfl rfl ?_
  refine jb_istore_ (pc' := 7) dJ1_indexOfChar_4cfef_5 (by decide) (jb_at5 rfl) rfl ?_
  refine jb_iload (pc' := 9) dJ1_indexOfChar_4cfef_7 rfl rfl ?_
  refine jb_iload_n (pc' := 10) dJ1_indexOfChar_4cfef_9 rfl rfl ?_
  refine jb_icmp_ge (tgt := 31) (pc' := 13) dJ1_indexOfChar_4cfef_10 (by decide) rfl (fun z => absurd z (by decide)) (fun _ => ?_)
  refine jb_aload_n (pc' := 14) dJ1_indexOfChar_4cfef_13 rfl rfl ?_
  refine jb_iload (pc' := 16) dJ1_indexOfChar_4cfef_14 rfl rfl ?_
  refine jb_bload (pc' := 17) (j9 := 0) (show 1 < 2 by decide) dJ1_indexOfChar_4cfef_16 jb_x0 (by decide) rfl ?_
  refine jb_top (v := .int (jb_sb 1 0)) (w := .int 119) (jb_vI (by decide)) ?_
  refine jb_iload (pc' := 19) dJ1_indexOfChar_4cfef_17 rfl rfl ?_
  refine jb_icmp_ne (tgt := 25) (pc' := 22) dJ1_indexOfChar_4cfef_19 (by decide) rfl (fun c2 => ?_) (fun c2 => ?_)
  · refine jb_iinc_ (pc' := 28) 1 dJ1_indexOfChar_4cfef_25 (by decide) rfl (by decide) (jb_at5 rfl) rfl ?_
    refine jb_goto (pc' := 7) dJ1_indexOfChar_4cfef_28 (by decide) ?_
    refine jb_iload (pc' := 9) dJ1_indexOfChar_4cfef_7 rfl rfl ?_
    refine jb_iload_n (pc' := 10) dJ1_indexOfChar_4cfef_9 rfl rfl ?_
    refine jb_icmp_ge (tgt := 31) (pc' := 13) dJ1_indexOfChar_4cfef_10 (by decide) rfl (fun z => absurd z (by decide)) (fun _ => ?_)
    refine jb_aload_n (pc' := 14) dJ1_indexOfChar_4cfef_13 rfl rfl ?_
    refine jb_iload (pc' := 16) dJ1_indexOfChar_4cfef_14 rfl rfl ?_
    refine jb_bload (pc' := 17) (j9 := 1) (show 1 < 2 by decide) dJ1_indexOfChar_4cfef_16 jb_x1 (by decide) rfl ?_
    refine jb_top (v := .int (jb_sb 1 1)) (w := .int 109) (jb_vI (by decide)) ?_
    refine jb_iload (pc' := 19) dJ1_indexOfChar_4cfef_17 rfl rfl ?_
    refine jb_icmp_ne (tgt := 25) (pc' := 22) dJ1_indexOfChar_4cfef_19 (by decide) rfl (fun c4 => ?_) (fun c4 => ?_)
    · refine jb_iinc_ (pc' := 28) 2 dJ1_indexOfChar_4cfef_25 (by decide) rfl (by decide) (jb_at5 rfl) rfl ?_
      refine jb_goto (pc' := 7) dJ1_indexOfChar_4cfef_28 (by decide) ?_
      refine jb_iload (pc' := 9) dJ1_indexOfChar_4cfef_7 rfl rfl ?_
      refine jb_iload_n (pc' := 10) dJ1_indexOfChar_4cfef_9 rfl rfl ?_
      refine jb_icmp_ge (tgt := 31) (pc' := 13) dJ1_indexOfChar_4cfef_10 (by decide) rfl (fun z => absurd z (by decide)) (fun _ => ?_)
      refine jb_aload_n (pc' := 14) dJ1_indexOfChar_4cfef_13 rfl rfl ?_
      refine jb_iload (pc' := 16) dJ1_indexOfChar_4cfef_14 rfl rfl ?_
      refine jb_bload (pc' := 17) (j9 := 2) (show 1 < 2 by decide) dJ1_indexOfChar_4cfef_16 jb_x2 (by decide) rfl ?_
      refine jb_top (v := .int (jb_sb 1 2)) (w := .int 99) (jb_vI (by decide)) ?_
      refine jb_iload (pc' := 19) dJ1_indexOfChar_4cfef_17 rfl rfl ?_
      refine jb_icmp_ne (tgt := 25) (pc' := 22) dJ1_indexOfChar_4cfef_19 (by decide) rfl (fun c6 => ?_) (fun c6 => ?_)
      · refine jb_iinc_ (pc' := 28) 3 dJ1_indexOfChar_4cfef_25 (by decide) rfl (by decide) (jb_at5 rfl) rfl ?_
        refine jb_goto (pc' := 7) dJ1_indexOfChar_4cfef_28 (by decide) ?_
        refine jb_iload (pc' := 9) dJ1_indexOfChar_4cfef_7 rfl rfl ?_
        refine jb_iload_n (pc' := 10) dJ1_indexOfChar_4cfef_9 rfl rfl ?_
        refine jb_icmp_ge (tgt := 31) (pc' := 13) dJ1_indexOfChar_4cfef_10 (by decide) rfl (fun _ => ?_) (fun z => absurd (by decide) z)
        refine jb_iconst (pc' := 32) (-1) dJ1_indexOfChar_4cfef_31 (by decide) rfl ?_
        refine jb_iret dJ1_indexOfChar_4cfef_32 rfl ?_
        refine ⟨rfl, Or.inl ⟨?_, rfl⟩⟩
        obtain ⟨g0, g1, g2, g3, g4, g5⟩ := jp_b8 b hb
        simp only [g0, g1, g2, g3, g4, g5] at *
        simp [jp_na, *]
      · refine jb_iload (pc' := 24) dJ1_indexOfChar_4cfef_22 rfl rfl ?_
        refine jb_iret dJ1_indexOfChar_4cfef_24 rfl ?_
        refine ⟨rfl, Or.inr ⟨2, by decide, ?_, rfl⟩⟩
        obtain ⟨g0, g1, g2, g3, g4, g5⟩ := jp_b8 b hb
        simp only [g0, g1, g2, g3, g4, g5] at *
        simp [jp_na, *]
    · refine jb_iload (pc' := 24) dJ1_indexOfChar_4cfef_22 rfl rfl ?_
      refine jb_iret dJ1_indexOfChar_4cfef_24 rfl ?_
      refine ⟨rfl, Or.inr ⟨1, by decide, ?_, rfl⟩⟩
      obtain ⟨g0, g1, g2, g3, g4, g5⟩ := jp_b8 b hb
      simp only [g0, g1, g2, g3, g4, g5] at *
      simp [jp_na, *]
  · refine jb_iload (pc' := 24) dJ1_indexOfChar_4cfef_22 rfl rfl ?_
    refine jb_iret dJ1_indexOfChar_4cfef_24 rfl ?_
    refine ⟨rfl, Or.inr ⟨0, by decide, ?_, rfl⟩⟩
    obtain ⟨g0, g1, g2, g3, g4, g5⟩ := jp_b8 b hb
    simp only [g0, g1, g2, g3, g4, g5] at *
    simp [jp_na, *]
set_option maxRecDepth 100000 in
set_option maxHeartbeats 4000000 in
theorem c_idxLatin1 {sc : Nat × (Nat → Int32)} {h : jb_H} (b : Nat) (hb : b < 256) : jb_C sc yJ1_indexOf_4cfef cJ1_indexOf_4cfef 4 (Option.some .int) 1 0 0 [.ref 1000005, .int (nI b), .int 0, .int 3] h (fun r h9 => h = h9 ∧ ((jp_na 1 (nI b) = none ∧ r = some (.int (-1))) ∨ ∃ i9, i9 < 4 ∧ jp_na 1 (nI b) = some i9 ∧ r = some (.int (nI i9)))) := by
  refine jb_CofJ (ini := false) (by decide +kernel) (fun h => by cases h) (Nat.le_of_ble_eq_true rfl) ?_
  show jb_J sc RJ1 cJ1_indexOf_4cfef 4 (Option.some .int) false 1 0 0 0 [some (.ref 1000005), some (.int (nI b)), some (.int 0), some (.int 3)] [] h _
  refine jb_iload_n (pc' := 1) dJ1_indexOf_4cfef_0 rfl rfl ?_
  refine jb_callS (pc' := 4) (As := [.int (nI b)]) (a2 := 0) (b2 := 0) wv_J1_88 dJ1_indexOf_4cfef_1 (c_canEnc0 b hb) rfl ⟨by decide, Nat.le_of_eq (Nat.zero_add _), Nat.le_of_eq (Nat.zero_add _)⟩ (Nat.le_of_ble_eq_true rfl) rfl (fun r h9 hq => ?_)
  obtain ⟨rfl, rfl⟩ := hq
  show jb_J _ RJ1 cJ1_indexOf_4cfef 4 (Option.some .int) false 1 0 0 4 [some (.ref 1000005), some (.int (nI b)), some (.int 0), some (.int 3)] [.int 1] h _
  refine jb_if_ne (tgt := 9) (pc' := 7) dJ1_indexOf_4cfef_4 (by decide) rfl (fun _ => ?_) (fun z => absurd z (by decide))
  refine jb_iload_n (pc' := 10) dJ1_indexOf_4cfef_9 rfl rfl ?_
  refine jb_iconst (pc' := 11) 0 dJ1_indexOf_4cfef_10 (by decide) rfl ?_
  refine jb_mmax (pc' := 14) wv_J1_92 dJ1_indexOf_4cfef_11 (by decide) (Nat.le_of_ble_eq_true rfl) rfl ?_
  refine jb_top (v := .int (if 0 < 0 then 0 else 0)) (w := .int 0) (jb_vI (by decide)) ?_
  refine jb_istore_n_ (pc' := 15) dJ1_indexOf_4cfef_14 (by decide) (jb_at2 rfl) rfl ?_
  refine jb_iload_n (pc' := 16) dJ1_indexOf_4cfef_15 rfl rfl ?_
  refine jb_aload_n (pc' := 17) dJ1_indexOf_4cfef_16 rfl rfl ?_
  refine jb_blen (pc' := 18) (show 1 < 2 by decide) dJ1_indexOf_4cfef_17 rfl ?_
  refine jb_top (v := .int (nI (jb_sl 1))) (w := .int 3) (jb_vI (by decide)) ?_
  refine jb_mmin (pc' := 21) wv_J1_38 dJ1_indexOf_4cfef_18 (by decide) (Nat.le_of_ble_eq_true rfl) rfl ?_
  refine jb_top (v := .int (if 3 < 3 then 3 else 3)) (w := .int 3) (jb_vI (by decide)) ?_
  refine jb_istore_n_ (pc' := 22) dJ1_indexOf_4cfef_21 (by decide) (jb_at3 rfl) rfl ?_
  refine jb_iload_n (pc' := 23) dJ1_indexOf_4cfef_22 rfl rfl ?_
  refine jb_iload_n (pc' := 24) dJ1_indexOf_4cfef_23 rfl rfl ?_
  refine jb_icmp_lt (tgt := 29) (pc' := 27) dJ1_indexOf_4cfef_24 (by decide) rfl (fun _ => ?_) (fun z => absurd (by decide) z)
  refine jb_aload_n (pc' := 30) dJ1_indexOf_4cfef_29 rfl rfl ?_
  refine jb_iload_n (pc' := 31) dJ1_indexOf_4cfef_30 rfl rfl ?_
  refine jb_iload_n (pc' := 32) dJ1_indexOf_4cfef_31 rfl rfl ?_
  refine jb_iload_n (pc' := 33) dJ1_indexOf_4cfef_32 rfl rfl ?_
  refine jb_callS (pc' := 36) (As := [.ref 1000005, .int (nI b), .int 0, .int 3]) (a2 := 0) (b2 := 0) wv_J1_95 dJ1_indexOf_4cfef_33 (c_idxChar1 b hb) rfl ⟨by decide, Nat.le_of_eq (Nat.zero_add _), Nat.le_of_eq (Nat.zero_add _)⟩ (Nat.le_of_ble_eq_true rfl) rfl (fun r h9 hq => ?_)
  rcases hq with ⟨rfl, ⟨en, rfl⟩ | ⟨i9, hi9, en, rfl⟩⟩
  · show jb_J _ RJ1 cJ1_indexOf_4cfef 4 (Option.some .int) false 1 0 0 36 [some (.ref 1000005), some (.int (nI b)), some (.int 0), some (.int 3)] [.int (-1)] h _
    refine jb_iret dJ1_indexOf_4cfef_36 rfl ?_
    exact ⟨rfl, Or.inl ⟨en, rfl⟩⟩
  · show jb_J _ RJ1 cJ1_indexOf_4cfef 4 (Option.some .int) false 1 0 0 36 [some (.ref 1000005), some (.int (nI b)), some (.int 0), some (.int 3)] [.int (nI i9)] h _
    refine jb_iret dJ1_indexOf_4cfef_36 rfl ?_
    exact ⟨rfl, Or.inr ⟨i9, hi9, en, rfl⟩⟩
set_option maxRecDepth 100000 in
set_option maxHeartbeats 4000000 in
theorem c_idxII1 {sc : Nat × (Nat → Int32)} {h : jb_H} (b : Nat) (hb : b < 256) : jb_C sc yJ0_indexOf_7cf53 cJ0_indexOf_7cf53 3 (Option.some .int) 2 0 0 [.ref 1000003, .int (nI b), .int 0] h (fun r h9 => h = h9 ∧ ((jp_na 1 (nI b) = none ∧ r = some (.int (-1))) ∨ ∃ i9, i9 < 4 ∧ jp_na 1 (nI b) = some i9 ∧ r = some (.int (nI i9)))) := by
  refine jb_CofJ (ini := false) (by decide +kernel) (fun h => by cases h) (Nat.le_of_ble_eq_true rfl) ?_
  show jb_J sc RJ0 cJ0_indexOf_7cf53 3 (Option.some .int) false 2 0 0 0 [some (.ref 1000003), some (.int (nI b)), some (.int 0)] [] h _
  refine jb_aload_n (pc' := 1) dJ0_indexOf_7cf53_0 rfl rfl ?_
  refine jb_callR (pc' := 4) (As := []) (a2 := 0) (b2 := 0) (show 1 < 2 by decide) wv_J0_492 dJ0_indexOf_7cf53_1 c_isLatin1 rfl ⟨by decide, Nat.le_of_eq (Nat.zero_add _), Nat.le_of_eq (Nat.zero_add _)⟩ (Nat.le_of_ble_eq_true rfl) rfl (fun r h9 hq => ?_)
  obtain ⟨rfl, rfl⟩ := hq
  show jb_J _ RJ0 cJ0_indexOf_7cf53 3 (Option.some .int) false 2 0 0 4 [some (.ref 1000003), some (.int (nI b)), some (.int 0)] [.int 1] h _
  refine jb_if_eq (tgt := 23) (pc' := 7) dJ0_indexOf_7cf53_4 (by decide) rfl (fun z => absurd z (by decide)) (fun _ => ?_)
  refine jb_aload_n (pc' := 8) dJ0_indexOf_7cf53_7 rfl rfl ?_
  refine jb_value (pc' := 11) (show 1 < 2 by decide) jb_fl_J0_9 dJ0_indexOf_7cf53_8 rfl ?_
  refine jb_iload_n (pc' := 12) dJ0_indexOf_7cf53_11 rfl rfl ?_
  refine jb_iload_n (pc' := 13) dJ0_indexOf_7cf53_12 rfl rfl ?_
  refine jb_aload_n (pc' := 14) dJ0_indexOf_7cf53_13 rfl rfl ?_
  refine jb_callR (pc' := 17) (As := []) (a2 := 0) (b2 := 0) (show 1 < 2 by decide) wv_J0_505 dJ0_indexOf_7cf53_14 c_slen1 rfl ⟨by decide, Nat.le_of_eq (Nat.zero_add _), Nat.le_of_eq (Nat.zero_add _)⟩ (Nat.le_of_ble_eq_true rfl) rfl (fun r h9 hq => ?_)
  obtain ⟨rfl, rfl⟩ := hq
  show jb_J _ RJ0 cJ0_indexOf_7cf53 3 (Option.some .int) false 2 0 0 17 [some (.ref 1000003), some (.int (nI b)), some (.int 0)] [.int 3, .int 0, .int (nI b), .ref 1000005] h _
  refine jb_callS (pc' := 20) (As := [.ref 1000005, .int (nI b), .int 0, .int 3]) (a2 := 0) (b2 := 0) wv_J0_637 dJ0_indexOf_7cf53_17 (c_idxLatin1 b hb) rfl ⟨by decide, Nat.le_of_eq (Nat.zero_add _), Nat.le_of_eq (Nat.zero_add _)⟩ (Nat.le_of_ble_eq_true rfl) rfl (fun r h9 hq => ?_)
  rcases hq with ⟨rfl, ⟨en, rfl⟩ | ⟨i9, hi9, en, rfl⟩⟩
  · show jb_J _ RJ0 cJ0_indexOf_7cf53 3 (Option.some .int) false 2 0 0 20 [some (.ref 1000003), some (.int (nI b)), some (.int 0)] [.int (-1)] h _
    refine jb_goto (pc' := 36) dJ0_indexOf_7cf53_20 (by decide) ?_
    refine jb_iret dJ0_indexOf_7cf53_36 rfl ?_
    exact ⟨rfl, Or.inl ⟨en, rfl⟩⟩
  · show jb_J _ RJ0 cJ0_indexOf_7cf53 3 (Option.some .int) false 2 0 0 20 [some (.ref 1000003), some (.int (nI b)), some (.int 0)] [.int (nI i9)] h _
    refine jb_goto (pc' := 36) dJ0_indexOf_7cf53_20 (by decide) ?_
    refine jb_iret dJ0_indexOf_7cf53_36 rfl ?_
    exact ⟨rfl, Or.inr ⟨i9, hi9, en, rfl⟩⟩
set_option maxRecDepth 100000 in
set_option maxHeartbeats 4000000 in
theorem c_idxI1 {sc : Nat × (Nat → Int32)} {h : jb_H} (b : Nat) (hb : b < 256) : jb_C sc yJ0_indexOf_0f7a4 cJ0_indexOf_0f7a4 2 (Option.some .int) 3 0 0 [.ref 1000003, .int (nI b)] h (fun r h9 => h = h9 ∧ ((jp_na 1 (nI b) = none ∧ r = some (.int (-1))) ∨ ∃ i9, i9 < 4 ∧ jp_na 1 (nI b) = some i9 ∧ r = some (.int (nI i9)))) := by
  refine jb_CofJ (ini := false) (by decide +kernel) (fun h => by cases h) (Nat.le_of_ble_eq_true rfl) ?_
  show jb_J sc RJ0 cJ0_indexOf_0f7a4 2 (Option.some .int) false 3 0 0 0 [some (.ref 1000003), some (.int (nI b))] [] h _
  refine jb_aload_n (pc' := 1) dJ0_indexOf_0f7a4_0 rfl rfl ?_
  refine jb_iload_n (pc' := 2) dJ0_indexOf_0f7a4_1 rfl rfl ?_
  refine jb_iconst (pc' := 3) 0 dJ0_indexOf_0f7a4_2 (by decide) rfl ?_
  refine jb_callR (pc' := 6) (As := [.int (nI b), .int 0]) (a2 := 0) (b2 := 0) (show 1 < 2 by decide) wv_J0_633 dJ0_indexOf_0f7a4_3 (c_idxII1 b hb) rfl ⟨by decide, Nat.le_of_eq (Nat.zero_add _), Nat.le_of_eq (Nat.zero_add _)⟩ (Nat.le_of_ble_eq_true rfl) rfl (fun r h9 hq => ?_)
  rcases hq with ⟨rfl, ⟨en, rfl⟩ | ⟨i9, hi9, en, rfl⟩⟩
  · show jb_J _ RJ0 cJ0_indexOf_0f7a4 2 (Option.some .int) false 3 0 0 6 [some (.ref 1000003), some (.int (nI b))] [.int (-1)] h _
    refine jb_iret dJ0_indexOf_0f7a4_6 rfl ?_
    exact ⟨rfl, Or.inl ⟨en, rfl⟩⟩
  · show jb_J _ RJ0 cJ0_indexOf_0f7a4 2 (Option.some .int) false 3 0 0 6 [some (.ref 1000003), some (.int (nI b))] [.int (nI i9)] h _
    refine jb_iret dJ0_indexOf_0f7a4_6 rfl ?_
    exact ⟨rfl, Or.inr ⟨i9, hi9, en, rfl⟩⟩
theorem c_idx {sc : Nat × (Nat → Int32)} (h : jb_H) {u : Nat} (hu : u < 2) (b : Nat) (hb : b < 256) : jb_C sc yJ0_indexOf_0f7a4 cJ0_indexOf_0f7a4 2 (Option.some .int) 3 0 0 [.ref (1000000 + (2 + u)), .int (nI b)] h (fun r h9 => h = h9 ∧ ((jp_na u (nI b) = none ∧ r = some (.int (-1))) ∨ ∃ i9, i9 < 4 ∧ jp_na u (nI b) = some i9 ∧ r = some (.int (nI i9)))) := by
  match u, hu with
  | 0, _ => exact c_idxI0 b hb
  | 1, _ => exact c_idxI1 b hb
set_option maxRecDepth 100000 in
set_option maxHeartbeats 4000000 in
theorem c_look {sc : Nat × (Nat → Int32)} {s1 s2 s3 s4 s5 s6 s7 s8 s9 s10 s11 : List va_E} (imm : Int32) (Tm : Nat → Value) (stkm tpm : Nat → Int32) (Im rowm : Nat → Int32) {B : Nat → Int32} {n u : Nat} (hB : ∀ k, k < n → tpm k = B k) (hy8 : jp_by B n) (hn : n ≤ 50) (hu : u < 2) {a w : Nat} {fl : Int32} (hc : jc_ Im n a w fl) (ha : a ≤ n) : jb_C sc yX8_look cX8_look 1 (Option.some .int) 0 0 0 [.ref 1] [jb_main imm Im (va_up Tm 0 (.ref (1000000 + (2 + u)))) rowm stkm tpm, s1, s2, s3, s4, s5, s6, s7, s8, s9, s10, s11] (fun r h9 => r = some (.int (jp_lk B n a)) ∧ h9 = [jb_main imm Im (va_up Tm 0 (.ref (1000000 + (2 + u)))) rowm stkm tpm, s1, s2, s3, s4, s5, s6, s7, s8, s9, s10, s11]) := by
  refine jb_CofJ (ini := false) (by decide +kernel) (fun h => by cases h) (Nat.le_of_ble_eq_true rfl) ?_
  by_cases ha2 : a < n
  · show jb_J _ RX8 cX8_look 1 (Option.some .int) false 0 0 0 0 [some (.ref 1)] [] [jb_main imm Im (va_up Tm 0 (.ref (1000000 + (2 + u)))) rowm stkm tpm, s1, s2, s3, s4, s5, s6, s7, s8, s9, s10, s11] _
    refine jb_aload_n (pc' := 1) dX8_look_0 rfl rfl ?_
    refine gf_X8_25 (pc' := 4) (v := .int (Im 1)) dX8_look_1 rfl rfl rfl ?_
    refine jb_top (v := .int (Im 1)) (w := .int (nI a)) (jb_vI hc.2.1) ?_
    refine jb_aload_n (pc' := 5) dX8_look_4 rfl rfl ?_
    refine gf_X8_21 (pc' := 8) (v := .int (Im 0)) dX8_look_5 rfl rfl rfl ?_
    refine jb_top (v := .int (Im 0)) (w := .int (nI n)) (jb_vI hc.1) ?_
    refine jb_icmp_ge (tgt := 23) (pc' := 11) dX8_look_8 (by decide) rfl (fun z => absurd z (nI_ge (a := a) (b := n) (by omega) (by omega))) (fun _ => ?_)
    refine jb_aload_n (pc' := 12) dX8_look_11 rfl rfl ?_
    refine gf_X8_18 (pc' := 15) (v := .ref 4) dX8_look_12 rfl rfl rfl ?_
    refine jb_aload_n (pc' := 16) dX8_look_15 rfl rfl ?_
    refine gf_X8_25 (pc' := 19) (v := .int (Im 1)) dX8_look_16 rfl rfl rfl ?_
    refine jb_top (v := .int (Im 1)) (w := .int (nI a)) (jb_vI hc.2.1) ?_
    refine jb_iaload (pc' := 20) (i9 := a) (f := tpm) dX8_look_19 rfl (jb_ix_nI (by omega)) (by omega) rfl ?_
    refine jb_goto (pc' := 24) dX8_look_20 (by decide) ?_
    refine jb_iret dX8_look_24 rfl ?_
    exact ⟨congrArg (fun y => some (Value.int y)) ((hB a ha2).trans (jp_lk_in ha2).symm), rfl⟩
  · show jb_J _ RX8 cX8_look 1 (Option.some .int) false 0 0 0 0 [some (.ref 1)] [] [jb_main imm Im (va_up Tm 0 (.ref (1000000 + (2 + u)))) rowm stkm tpm, s1, s2, s3, s4, s5, s6, s7, s8, s9, s10, s11] _
    refine jb_aload_n (pc' := 1) dX8_look_0 rfl rfl ?_
    refine gf_X8_25 (pc' := 4) (v := .int (Im 1)) dX8_look_1 rfl rfl rfl ?_
    refine jb_top (v := .int (Im 1)) (w := .int (nI a)) (jb_vI hc.2.1) ?_
    refine jb_aload_n (pc' := 5) dX8_look_4 rfl rfl ?_
    refine gf_X8_21 (pc' := 8) (v := .int (Im 0)) dX8_look_5 rfl rfl rfl ?_
    refine jb_top (v := .int (Im 0)) (w := .int (nI n)) (jb_vI hc.1) ?_
    refine jb_icmp_ge (tgt := 23) (pc' := 11) dX8_look_8 (by decide) rfl (fun _ => ?_) (fun z => absurd (nI_le (a := n) (b := a) (by omega) (by omega)) z)
    refine jb_iconst (pc' := 24) (-1) dX8_look_23 (by decide) rfl ?_
    refine jb_iret dX8_look_24 rfl ?_
    exact ⟨congrArg (fun y => some (Value.int y)) (jp_lk_out ha2).symm, rfl⟩
set_option maxRecDepth 100000 in
set_option maxHeartbeats 4000000 in
theorem c_isDigit {sc : Nat × (Nat → Int32)} {h : jb_H} (s : Int32) : jb_C sc yX8_isDigit cX8_isDigit 1 (Option.some .boolean) 0 0 0 [.int s] h (fun r h9 => h = h9 ∧ (((48 ≤ s ∧ s ≤ 57) ∧ r = some (.int 1)) ∨ (¬ (48 ≤ s ∧ s ≤ 57) ∧ r = some (.int 0)))) := by
  refine jb_CofJ (ini := false) (by decide +kernel) (fun h => by cases h) (Nat.le_of_ble_eq_true rfl) ?_
  show jb_J sc RX8 cX8_isDigit 1 (Option.some .boolean) false 0 0 0 0 [some (.int s)] [] h _
  refine jb_iload_n (pc' := 1) dX8_isDigit_0 rfl rfl ?_
  refine jb_bipush (pc' := 3) 48 dX8_isDigit_1 (by decide) rfl ?_
  refine jb_icmp_lt (tgt := 16) (pc' := 6) dX8_isDigit_3 (by decide) rfl (fun c1 => ?_) (fun c1 => ?_)
  · refine jb_iconst (pc' := 17) 0 dX8_isDigit_16 (by decide) rfl ?_
    refine jb_iret dX8_isDigit_17 rfl ?_
    first | exact ⟨rfl, Or.inl ⟨⟨Int32.not_lt.mp c1, Int32.not_lt.mp c2⟩, rfl⟩⟩ | exact ⟨rfl, Or.inr ⟨fun z => Int32.not_le.mpr c1 z.1, rfl⟩⟩ | exact ⟨rfl, Or.inr ⟨fun z => Int32.not_le.mpr c2 z.2, rfl⟩⟩
  · refine jb_iload_n (pc' := 7) dX8_isDigit_6 rfl rfl ?_
    refine jb_bipush (pc' := 9) 57 dX8_isDigit_7 (by decide) rfl ?_
    refine jb_icmp_gt (tgt := 16) (pc' := 12) dX8_isDigit_9 (by decide) rfl (fun c2 => ?_) (fun c2 => ?_)
    · refine jb_iconst (pc' := 17) 0 dX8_isDigit_16 (by decide) rfl ?_
      refine jb_iret dX8_isDigit_17 rfl ?_
      first | exact ⟨rfl, Or.inl ⟨⟨Int32.not_lt.mp c1, Int32.not_lt.mp c2⟩, rfl⟩⟩ | exact ⟨rfl, Or.inr ⟨fun z => Int32.not_le.mpr c1 z.1, rfl⟩⟩ | exact ⟨rfl, Or.inr ⟨fun z => Int32.not_le.mpr c2 z.2, rfl⟩⟩
    · refine jb_iconst (pc' := 13) 1 dX8_isDigit_12 (by decide) rfl ?_
      refine jb_goto (pc' := 17) dX8_isDigit_13 (by decide) ?_
      refine jb_iret dX8_isDigit_17 rfl ?_
      first | exact ⟨rfl, Or.inl ⟨⟨Int32.not_lt.mp c1, Int32.not_lt.mp c2⟩, rfl⟩⟩ | exact ⟨rfl, Or.inr ⟨fun z => Int32.not_le.mpr c1 z.1, rfl⟩⟩ | exact ⟨rfl, Or.inr ⟨fun z => Int32.not_le.mpr c2 z.2, rfl⟩⟩
set_option maxRecDepth 100000 in
set_option maxHeartbeats 4000000 in
theorem c_write {sc : Nat × (Nat → Int32)} {s1 s2 s3 s4 s5 s6 s7 s8 s9 s10 s11 : List va_E} (imm : Int32) (Tm : Nat → Value) (stkm tpm : Nat → Int32) (Im rowm : Nat → Int32) {n u a w : Nat} {fl : Int32} (hc : jc_ Im n a w fl) (hw : w < 50) (s : Int32) : jb_C sc yX8_write cX8_write 2 (Option.none : Option Jvm.ClassFile.FieldType) 0 0 0 [.ref 1, .int s] [jb_main imm Im (va_up Tm 0 (.ref (1000000 + (2 + u)))) rowm stkm tpm, s1, s2, s3, s4, s5, s6, s7, s8, s9, s10, s11] (fun r h9 => r = none ∧ h9 = [jb_main imm (upd Im 2 (nI (w + 1))) (va_up Tm 0 (.ref (1000000 + (2 + u)))) (upd rowm w s) stkm tpm, s1, s2, s3, s4, s5, s6, s7, s8, s9, s10, s11]) := by
  refine jb_CofJ (ini := false) (by decide +kernel) (fun h => by cases h) (Nat.le_of_ble_eq_true rfl) ?_
  show jb_J sc RX8 cX8_write 2 (Option.none : Option Jvm.ClassFile.FieldType) false 0 0 0 0 [some (.ref 1), some (.int s)] [] [jb_main imm Im (va_up Tm 0 (.ref (1000000 + (2 + u)))) rowm stkm tpm, s1, s2, s3, s4, s5, s6, s7, s8, s9, s10, s11] _
  refine jb_aload_n (pc' := 1) dX8_write_0 rfl rfl ?_
  refine gf_X8_28 (pc' := 4) (v := .int (Im 2)) dX8_write_1 rfl rfl rfl ?_
  refine jb_top (v := .int (Im 2)) (w := .int (nI w)) (jb_vI hc.2.2.1) ?_
  refine jb_aload_n (pc' := 5) dX8_write_4 rfl rfl ?_
  refine gf_X8_9 (pc' := 8) (v := .ref 2) dX8_write_5 rfl rfl rfl ?_
  refine jb_alen (pc' := 9) 50 (by decide) dX8_write_8 rfl rfl rfl ?_
  refine jb_icmp_ge (tgt := 32) (pc' := 12) dX8_write_9 (by decide) rfl (fun z => absurd z (nI_ge (a := w) (b := 50) (by omega) (by omega))) (fun _ => ?_)
  refine jb_aload_n (pc' := 13) dX8_write_12 rfl rfl ?_
  refine gf_X8_9 (pc' := 16) (v := .ref 2) dX8_write_13 rfl rfl rfl ?_
  refine jb_aload_n (pc' := 17) dX8_write_16 rfl rfl ?_
  refine gf_X8_28 (pc' := 20) (v := .int (Im 2)) dX8_write_17 rfl rfl rfl ?_
  refine jb_top (v := .int (Im 2)) (w := .int (nI w)) (jb_vI hc.2.2.1) ?_
  refine jb_iload_n (pc' := 21) dX8_write_20 rfl rfl ?_
  refine jb_iastore (pc' := 22) (i9 := w) (f := rowm) (h' := [jb_main imm Im (va_up Tm 0 (.ref (1000000 + (2 + u)))) (upd rowm w s) stkm tpm, s1, s2, s3, s4, s5, s6, s7, s8, s9, s10, s11]) dX8_write_21 rfl (jb_ix_nI (by omega)) (by omega) rfl rfl ?_
  refine jb_aload_n (pc' := 23) dX8_write_22 rfl rfl ?_
  refine jb_dup (pc' := 24) dX8_write_23 rfl rfl ?_
  refine gf_X8_28 (pc' := 27) (v := .int (Im 2)) dX8_write_24 rfl rfl rfl ?_
  refine jb_top (v := .int (Im 2)) (w := .int (nI w)) (jb_vI hc.2.2.1) ?_
  refine jb_iconst (pc' := 28) 1 dX8_write_27 (by decide) rfl ?_
  refine jb_iadd (pc' := 29) dX8_write_28 rfl ?_
  refine jb_top (v := .int ((nI w) + 1)) (w := .int (nI (w + 1))) (jb_vI (nI_add _ 1)) ?_
  refine pf_X8_28 (pc' := 32) (h' := [jb_main imm (upd Im 2 (nI (w + 1))) (va_up Tm 0 (.ref (1000000 + (2 + u)))) (upd rowm w s) stkm tpm, s1, s2, s3, s4, s5, s6, s7, s8, s9, s10, s11]) dX8_write_29 (fun _ => ⟨rfl, rfl⟩) rfl (Nat.le_of_ble_eq_true rfl) rfl rfl ?_
  refine jb_vret dX8_write_32 ?_
  exact ⟨rfl, rfl⟩
set_option maxRecDepth 100000 in
set_option maxHeartbeats 4000000 in
theorem c_rankX {sc : Nat × (Nat → Int32)} (h : jb_H) (s : Int32) (hs : s = -1 ∨ ∃ b, b < 256 ∧ s = nI b) (r : Nat) (hr : r < 5) (hne : ¬ jp_rk s = r) : jb_C sc yX8_rankOf cX8_rankOf 1 (Option.some .int) 0 0 0 [.int s] h (fun r9 h9 => h = h9 ∧ ∃ x, ¬ x = nI r ∧ r9 = some (.int x)) := by
  refine jb_CofJ (ini := false) (by decide +kernel) (fun h => by cases h) (Nat.le_of_ble_eq_true rfl) ?_
  by_cases h9 : jp_rk s = 9
  · show jb_J _ RX8 cX8_rankOf 1 (Option.some .int) false 0 0 0 0 [some (.int s)] [] h _
    refine jb_iload_n (pc' := 1) dX8_rankOf_0 rfl rfl ?_
    refine jb_lookup (pc' := 102) (off := 101) dX8_rankOf_1 (by decide +kernel) (jp_off hs h9) (by decide) ?_
    refine jb_iconst (pc' := 103) (-1) dX8_rankOf_102 (by decide) rfl ?_
    refine jb_iret dX8_rankOf_103 rfl ?_
    exact ⟨rfl, -1, jn_m1 (by omega), rfl⟩
  have h8 : jp_rk s < 9 := by have := jp_rk_le s; omega
  rcases jp_signs rfl h8 with rfl | rfl | rfl | rfl | rfl | rfl | rfl | rfl | rfl | rfl
  · show jb_J _ RX8 cX8_rankOf 1 (Option.some .int) false 0 0 0 0 [some (.int 124)] [] h _
    refine jb_iload_n (pc' := 1) dX8_rankOf_0 rfl rfl ?_
    refine jb_lookup (pc' := 92) (off := 91) dX8_rankOf_1 (by decide +kernel) (by decide +kernel) (by decide) ?_
    refine jb_iconst (pc' := 93) 0 dX8_rankOf_92 (by decide) rfl ?_
    refine jb_iret dX8_rankOf_93 rfl ?_
    exact ⟨rfl, 0, fun z => hne ((show jp_rk 124 = 0 by decide).trans ((nI_eq (a := 0) (b := r) (by decide) (by omega)).mp z)), rfl⟩
  · show jb_J _ RX8 cX8_rankOf 1 (Option.some .int) false 0 0 0 0 [some (.int 38)] [] h _
    refine jb_iload_n (pc' := 1) dX8_rankOf_0 rfl rfl ?_
    refine jb_lookup (pc' := 94) (off := 93) dX8_rankOf_1 (by decide +kernel) (by decide +kernel) (by decide) ?_
    refine jb_iconst (pc' := 95) 1 dX8_rankOf_94 (by decide) rfl ?_
    refine jb_iret dX8_rankOf_95 rfl ?_
    exact ⟨rfl, 1, fun z => hne ((show jp_rk 38 = 1 by decide).trans ((nI_eq (a := 1) (b := r) (by decide) (by omega)).mp z)), rfl⟩
  · show jb_J _ RX8 cX8_rankOf 1 (Option.some .int) false 0 0 0 0 [some (.int 60)] [] h _
    refine jb_iload_n (pc' := 1) dX8_rankOf_0 rfl rfl ?_
    refine jb_lookup (pc' := 96) (off := 95) dX8_rankOf_1 (by decide +kernel) (by decide +kernel) (by decide) ?_
    refine jb_iconst (pc' := 97) 2 dX8_rankOf_96 (by decide) rfl ?_
    refine jb_iret dX8_rankOf_97 rfl ?_
    exact ⟨rfl, 2, fun z => hne ((show jp_rk 60 = 2 by decide).trans ((nI_eq (a := 2) (b := r) (by decide) (by omega)).mp z)), rfl⟩
  · show jb_J _ RX8 cX8_rankOf 1 (Option.some .int) false 0 0 0 0 [some (.int 61)] [] h _
    refine jb_iload_n (pc' := 1) dX8_rankOf_0 rfl rfl ?_
    refine jb_lookup (pc' := 96) (off := 95) dX8_rankOf_1 (by decide +kernel) (by decide +kernel) (by decide) ?_
    refine jb_iconst (pc' := 97) 2 dX8_rankOf_96 (by decide) rfl ?_
    refine jb_iret dX8_rankOf_97 rfl ?_
    exact ⟨rfl, 2, fun z => hne ((show jp_rk 61 = 2 by decide).trans ((nI_eq (a := 2) (b := r) (by decide) (by omega)).mp z)), rfl⟩
  · show jb_J _ RX8 cX8_rankOf 1 (Option.some .int) false 0 0 0 0 [some (.int 62)] [] h _
    refine jb_iload_n (pc' := 1) dX8_rankOf_0 rfl rfl ?_
    refine jb_lookup (pc' := 96) (off := 95) dX8_rankOf_1 (by decide +kernel) (by decide +kernel) (by decide) ?_
    refine jb_iconst (pc' := 97) 2 dX8_rankOf_96 (by decide) rfl ?_
    refine jb_iret dX8_rankOf_97 rfl ?_
    exact ⟨rfl, 2, fun z => hne ((show jp_rk 62 = 2 by decide).trans ((nI_eq (a := 2) (b := r) (by decide) (by omega)).mp z)), rfl⟩
  · show jb_J _ RX8 cX8_rankOf 1 (Option.some .int) false 0 0 0 0 [some (.int 43)] [] h _
    refine jb_iload_n (pc' := 1) dX8_rankOf_0 rfl rfl ?_
    refine jb_lookup (pc' := 98) (off := 97) dX8_rankOf_1 (by decide +kernel) (by decide +kernel) (by decide) ?_
    refine jb_iconst (pc' := 99) 3 dX8_rankOf_98 (by decide) rfl ?_
    refine jb_iret dX8_rankOf_99 rfl ?_
    exact ⟨rfl, 3, fun z => hne ((show jp_rk 43 = 3 by decide).trans ((nI_eq (a := 3) (b := r) (by decide) (by omega)).mp z)), rfl⟩
  · show jb_J _ RX8 cX8_rankOf 1 (Option.some .int) false 0 0 0 0 [some (.int 45)] [] h _
    refine jb_iload_n (pc' := 1) dX8_rankOf_0 rfl rfl ?_
    refine jb_lookup (pc' := 98) (off := 97) dX8_rankOf_1 (by decide +kernel) (by decide +kernel) (by decide) ?_
    refine jb_iconst (pc' := 99) 3 dX8_rankOf_98 (by decide) rfl ?_
    refine jb_iret dX8_rankOf_99 rfl ?_
    exact ⟨rfl, 3, fun z => hne ((show jp_rk 45 = 3 by decide).trans ((nI_eq (a := 3) (b := r) (by decide) (by omega)).mp z)), rfl⟩
  · show jb_J _ RX8 cX8_rankOf 1 (Option.some .int) false 0 0 0 0 [some (.int 42)] [] h _
    refine jb_iload_n (pc' := 1) dX8_rankOf_0 rfl rfl ?_
    refine jb_lookup (pc' := 100) (off := 99) dX8_rankOf_1 (by decide +kernel) (by decide +kernel) (by decide) ?_
    refine jb_iconst (pc' := 101) 4 dX8_rankOf_100 (by decide) rfl ?_
    refine jb_iret dX8_rankOf_101 rfl ?_
    exact ⟨rfl, 4, fun z => hne ((show jp_rk 42 = 4 by decide).trans ((nI_eq (a := 4) (b := r) (by decide) (by omega)).mp z)), rfl⟩
  · show jb_J _ RX8 cX8_rankOf 1 (Option.some .int) false 0 0 0 0 [some (.int 47)] [] h _
    refine jb_iload_n (pc' := 1) dX8_rankOf_0 rfl rfl ?_
    refine jb_lookup (pc' := 100) (off := 99) dX8_rankOf_1 (by decide +kernel) (by decide +kernel) (by decide) ?_
    refine jb_iconst (pc' := 101) 4 dX8_rankOf_100 (by decide) rfl ?_
    refine jb_iret dX8_rankOf_101 rfl ?_
    exact ⟨rfl, 4, fun z => hne ((show jp_rk 47 = 4 by decide).trans ((nI_eq (a := 4) (b := r) (by decide) (by omega)).mp z)), rfl⟩
  · show jb_J _ RX8 cX8_rankOf 1 (Option.some .int) false 0 0 0 0 [some (.int 37)] [] h _
    refine jb_iload_n (pc' := 1) dX8_rankOf_0 rfl rfl ?_
    refine jb_lookup (pc' := 100) (off := 99) dX8_rankOf_1 (by decide +kernel) (by decide +kernel) (by decide) ?_
    refine jb_iconst (pc' := 101) 4 dX8_rankOf_100 (by decide) rfl ?_
    refine jb_iret dX8_rankOf_101 rfl ?_
    exact ⟨rfl, 4, fun z => hne ((show jp_rk 37 = 4 by decide).trans ((nI_eq (a := 4) (b := r) (by decide) (by omega)).mp z)), rfl⟩
set_option maxRecDepth 100000 in
set_option maxHeartbeats 4000000 in
theorem c_rank124 {sc : Nat × (Nat → Int32)} {h : jb_H} : jb_C sc yX8_rankOf cX8_rankOf 1 (Option.some .int) 0 0 0 [.int 124] h (fun r h9 => r = some (.int 0) ∧ h = h9) := by
  refine jb_CofJ (ini := false) (by decide +kernel) (fun h => by cases h) (Nat.le_of_ble_eq_true rfl) ?_
  show jb_J sc RX8 cX8_rankOf 1 (Option.some .int) false 0 0 0 0 [some (.int 124)] [] h _
  refine jb_iload_n (pc' := 1) dX8_rankOf_0 rfl rfl ?_
  refine jb_lookup (pc' := 92) (off := 91) dX8_rankOf_1 (by decide +kernel) (by decide +kernel) (by decide) ?_
  refine jb_iconst (pc' := 93) 0 dX8_rankOf_92 (by decide) rfl ?_
  refine jb_iret dX8_rankOf_93 rfl ?_
  exact ⟨rfl, rfl⟩
set_option maxRecDepth 100000 in
set_option maxHeartbeats 4000000 in
theorem c_rank38 {sc : Nat × (Nat → Int32)} {h : jb_H} : jb_C sc yX8_rankOf cX8_rankOf 1 (Option.some .int) 0 0 0 [.int 38] h (fun r h9 => r = some (.int 1) ∧ h = h9) := by
  refine jb_CofJ (ini := false) (by decide +kernel) (fun h => by cases h) (Nat.le_of_ble_eq_true rfl) ?_
  show jb_J sc RX8 cX8_rankOf 1 (Option.some .int) false 0 0 0 0 [some (.int 38)] [] h _
  refine jb_iload_n (pc' := 1) dX8_rankOf_0 rfl rfl ?_
  refine jb_lookup (pc' := 94) (off := 93) dX8_rankOf_1 (by decide +kernel) (by decide +kernel) (by decide) ?_
  refine jb_iconst (pc' := 95) 1 dX8_rankOf_94 (by decide) rfl ?_
  refine jb_iret dX8_rankOf_95 rfl ?_
  exact ⟨rfl, rfl⟩
set_option maxRecDepth 100000 in
set_option maxHeartbeats 4000000 in
theorem c_rank60 {sc : Nat × (Nat → Int32)} {h : jb_H} : jb_C sc yX8_rankOf cX8_rankOf 1 (Option.some .int) 0 0 0 [.int 60] h (fun r h9 => r = some (.int 2) ∧ h = h9) := by
  refine jb_CofJ (ini := false) (by decide +kernel) (fun h => by cases h) (Nat.le_of_ble_eq_true rfl) ?_
  show jb_J sc RX8 cX8_rankOf 1 (Option.some .int) false 0 0 0 0 [some (.int 60)] [] h _
  refine jb_iload_n (pc' := 1) dX8_rankOf_0 rfl rfl ?_
  refine jb_lookup (pc' := 96) (off := 95) dX8_rankOf_1 (by decide +kernel) (by decide +kernel) (by decide) ?_
  refine jb_iconst (pc' := 97) 2 dX8_rankOf_96 (by decide) rfl ?_
  refine jb_iret dX8_rankOf_97 rfl ?_
  exact ⟨rfl, rfl⟩
set_option maxRecDepth 100000 in
set_option maxHeartbeats 4000000 in
theorem c_rank61 {sc : Nat × (Nat → Int32)} {h : jb_H} : jb_C sc yX8_rankOf cX8_rankOf 1 (Option.some .int) 0 0 0 [.int 61] h (fun r h9 => r = some (.int 2) ∧ h = h9) := by
  refine jb_CofJ (ini := false) (by decide +kernel) (fun h => by cases h) (Nat.le_of_ble_eq_true rfl) ?_
  show jb_J sc RX8 cX8_rankOf 1 (Option.some .int) false 0 0 0 0 [some (.int 61)] [] h _
  refine jb_iload_n (pc' := 1) dX8_rankOf_0 rfl rfl ?_
  refine jb_lookup (pc' := 96) (off := 95) dX8_rankOf_1 (by decide +kernel) (by decide +kernel) (by decide) ?_
  refine jb_iconst (pc' := 97) 2 dX8_rankOf_96 (by decide) rfl ?_
  refine jb_iret dX8_rankOf_97 rfl ?_
  exact ⟨rfl, rfl⟩
set_option maxRecDepth 100000 in
set_option maxHeartbeats 4000000 in
theorem c_rank62 {sc : Nat × (Nat → Int32)} {h : jb_H} : jb_C sc yX8_rankOf cX8_rankOf 1 (Option.some .int) 0 0 0 [.int 62] h (fun r h9 => r = some (.int 2) ∧ h = h9) := by
  refine jb_CofJ (ini := false) (by decide +kernel) (fun h => by cases h) (Nat.le_of_ble_eq_true rfl) ?_
  show jb_J sc RX8 cX8_rankOf 1 (Option.some .int) false 0 0 0 0 [some (.int 62)] [] h _
  refine jb_iload_n (pc' := 1) dX8_rankOf_0 rfl rfl ?_
  refine jb_lookup (pc' := 96) (off := 95) dX8_rankOf_1 (by decide +kernel) (by decide +kernel) (by decide) ?_
  refine jb_iconst (pc' := 97) 2 dX8_rankOf_96 (by decide) rfl ?_
  refine jb_iret dX8_rankOf_97 rfl ?_
  exact ⟨rfl, rfl⟩
set_option maxRecDepth 100000 in
set_option maxHeartbeats 4000000 in
theorem c_rank43 {sc : Nat × (Nat → Int32)} {h : jb_H} : jb_C sc yX8_rankOf cX8_rankOf 1 (Option.some .int) 0 0 0 [.int 43] h (fun r h9 => r = some (.int 3) ∧ h = h9) := by
  refine jb_CofJ (ini := false) (by decide +kernel) (fun h => by cases h) (Nat.le_of_ble_eq_true rfl) ?_
  show jb_J sc RX8 cX8_rankOf 1 (Option.some .int) false 0 0 0 0 [some (.int 43)] [] h _
  refine jb_iload_n (pc' := 1) dX8_rankOf_0 rfl rfl ?_
  refine jb_lookup (pc' := 98) (off := 97) dX8_rankOf_1 (by decide +kernel) (by decide +kernel) (by decide) ?_
  refine jb_iconst (pc' := 99) 3 dX8_rankOf_98 (by decide) rfl ?_
  refine jb_iret dX8_rankOf_99 rfl ?_
  exact ⟨rfl, rfl⟩
set_option maxRecDepth 100000 in
set_option maxHeartbeats 4000000 in
theorem c_rank45 {sc : Nat × (Nat → Int32)} {h : jb_H} : jb_C sc yX8_rankOf cX8_rankOf 1 (Option.some .int) 0 0 0 [.int 45] h (fun r h9 => r = some (.int 3) ∧ h = h9) := by
  refine jb_CofJ (ini := false) (by decide +kernel) (fun h => by cases h) (Nat.le_of_ble_eq_true rfl) ?_
  show jb_J sc RX8 cX8_rankOf 1 (Option.some .int) false 0 0 0 0 [some (.int 45)] [] h _
  refine jb_iload_n (pc' := 1) dX8_rankOf_0 rfl rfl ?_
  refine jb_lookup (pc' := 98) (off := 97) dX8_rankOf_1 (by decide +kernel) (by decide +kernel) (by decide) ?_
  refine jb_iconst (pc' := 99) 3 dX8_rankOf_98 (by decide) rfl ?_
  refine jb_iret dX8_rankOf_99 rfl ?_
  exact ⟨rfl, rfl⟩
set_option maxRecDepth 100000 in
set_option maxHeartbeats 4000000 in
theorem c_rank42 {sc : Nat × (Nat → Int32)} {h : jb_H} : jb_C sc yX8_rankOf cX8_rankOf 1 (Option.some .int) 0 0 0 [.int 42] h (fun r h9 => r = some (.int 4) ∧ h = h9) := by
  refine jb_CofJ (ini := false) (by decide +kernel) (fun h => by cases h) (Nat.le_of_ble_eq_true rfl) ?_
  show jb_J sc RX8 cX8_rankOf 1 (Option.some .int) false 0 0 0 0 [some (.int 42)] [] h _
  refine jb_iload_n (pc' := 1) dX8_rankOf_0 rfl rfl ?_
  refine jb_lookup (pc' := 100) (off := 99) dX8_rankOf_1 (by decide +kernel) (by decide +kernel) (by decide) ?_
  refine jb_iconst (pc' := 101) 4 dX8_rankOf_100 (by decide) rfl ?_
  refine jb_iret dX8_rankOf_101 rfl ?_
  exact ⟨rfl, rfl⟩
set_option maxRecDepth 100000 in
set_option maxHeartbeats 4000000 in
theorem c_rank47 {sc : Nat × (Nat → Int32)} {h : jb_H} : jb_C sc yX8_rankOf cX8_rankOf 1 (Option.some .int) 0 0 0 [.int 47] h (fun r h9 => r = some (.int 4) ∧ h = h9) := by
  refine jb_CofJ (ini := false) (by decide +kernel) (fun h => by cases h) (Nat.le_of_ble_eq_true rfl) ?_
  show jb_J sc RX8 cX8_rankOf 1 (Option.some .int) false 0 0 0 0 [some (.int 47)] [] h _
  refine jb_iload_n (pc' := 1) dX8_rankOf_0 rfl rfl ?_
  refine jb_lookup (pc' := 100) (off := 99) dX8_rankOf_1 (by decide +kernel) (by decide +kernel) (by decide) ?_
  refine jb_iconst (pc' := 101) 4 dX8_rankOf_100 (by decide) rfl ?_
  refine jb_iret dX8_rankOf_101 rfl ?_
  exact ⟨rfl, rfl⟩
set_option maxRecDepth 100000 in
set_option maxHeartbeats 4000000 in
theorem c_rank37 {sc : Nat × (Nat → Int32)} {h : jb_H} : jb_C sc yX8_rankOf cX8_rankOf 1 (Option.some .int) 0 0 0 [.int 37] h (fun r h9 => r = some (.int 4) ∧ h = h9) := by
  refine jb_CofJ (ini := false) (by decide +kernel) (fun h => by cases h) (Nat.le_of_ble_eq_true rfl) ?_
  show jb_J sc RX8 cX8_rankOf 1 (Option.some .int) false 0 0 0 0 [some (.int 37)] [] h _
  refine jb_iload_n (pc' := 1) dX8_rankOf_0 rfl rfl ?_
  refine jb_lookup (pc' := 100) (off := 99) dX8_rankOf_1 (by decide +kernel) (by decide +kernel) (by decide) ?_
  refine jb_iconst (pc' := 101) 4 dX8_rankOf_100 (by decide) rfl ?_
  refine jb_iret dX8_rankOf_101 rfl ?_
  exact ⟨rfl, rfl⟩
