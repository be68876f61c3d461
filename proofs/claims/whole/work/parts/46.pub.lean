def jf_b (w : Int64) (i : Nat) : Int32 := (w.toUInt64 >>> ((nI (8 * i)).toInt64.toUInt64 &&& Int64.toUInt64 63)).toInt64.toInt32 &&& 255
theorem jf_by (w : Int64) (i : Nat) : ∃ b, b < 256 ∧ jf_b w i = nI b := pk_andE _ 8 (by decide)
theorem jr_.w14 {V : Nat → Nat → Nat} {I : Nat → Int32} {W W' : Nat → Nat → Int32} (h : jr_ V I W) (e : ∀ r, ¬ r = 14 → W' r = W r) : jr_ V I W' :=
  jr_by h (fun r hr => e r (by omega)) (fun k _ => ⟨by rw [e 10 (by decide)], by rw [e 11 (by decide)], by rw [e 12 (by decide)], by rw [e 13 (by decide)]⟩)
theorem jp_al_pos {B : Nat → Int32} {n u : Nat} (h : (jp_al B n u).2.1 = true) : 1 ≤ (jp_al B n u).1 := by
  obtain ⟨g1, g2, g3, g4⟩ := jp_al_ok (B := B) (n := n) (u := u) (Nat.zero_le _)
  have hw := g4 h
  cases hc : (jp_al B n u).2.2 with
  | nil =>
    rw [hc] at hw
    have := hw (fun _ => 0) []
    exact absurd this (by intro q; cases q)
  | cons a l => rw [hc] at g3; simp at g3; omega
set_option maxRecDepth 100000 in
set_option maxHeartbeats 4000000 in
theorem l_feed {sc : Nat × (Nat → Int32)} {s2 s3 s4 s5 s6 s7 s8 s9 s10 s11 : List va_E} (imm : Int32) (Im rowm stkm tpm : Nat → Int32) (Tm : Nat → Value) (I : Nat → Int32) (W : Nat → Nat → Int32) (T : Nat → Value) (word : Int64) (n tp : Nat) (hn : n ≤ 8) (h5 : I 5 = nI tp) (h50 : tp + n ≤ 50) : ∀ (k i : Nat) (Wc : Nat → Nat → Int32), i + k = n → (∀ r, ¬ r = 14 → Wc r = W r) ∧ (∀ k, k < tp → Wc 14 k = W 14 k) ∧ (∀ j, j < i → Wc 14 (tp + j) = jf_b word j) → jb_J sc RX11 cX11_feed 5 (Option.some .int) false 1 0 0 39 [some (.ref 0), some (.long word), none, some (.int (nI n)), some (.int (nI i))] [] [jb_main imm Im Tm rowm stkm tpm, jb_sch13 I Wc T, s2, s3, s4, s5, s6, s7, s8, s9, s10, s11] (fun r h9 => r = some (.int (nI (tp + n))) ∧ ∃ W9, (∀ r, ¬ r = 14 → W9 r = W r) ∧ (∀ k, k < tp → W9 14 k = W 14 k) ∧ (∀ j, j < n → W9 14 (tp + j) = jf_b word j) ∧ h9 = [jb_main imm Im Tm rowm stkm tpm, jb_sch13 (upd I 5 (nI (tp + n))) W9 T, s2, s3, s4, s5, s6, s7, s8, s9, s10, s11]) := by
  intro k
  induction k with
  | zero =>
    intro i Wc hi ⟨g1, g2, g3⟩
    show jb_J _ RX11 cX11_feed 5 (Option.some .int) false 1 0 0 39 [some (.ref 0), some (.long word), none, some (.int (nI n)), some (.int (nI i))] [] [jb_main imm Im Tm rowm stkm tpm, jb_sch13 I Wc T, s2, s3, s4, s5, s6, s7, s8, s9, s10, s11] _
    refine jb_iload (pc' := 41) dX11_feed_39 rfl rfl ?_
    refine jb_iload_n (pc' := 42) dX11_feed_41 rfl rfl ?_
    refine jb_icmp_ge (tgt := 81) (pc' := 45) dX11_feed_42 (by decide) rfl (fun _ => ?_) (fun z => absurd (nI_le (a := n) (b := i) (by omega) (by omega)) z)
    refine jb_aload_n (pc' := 82) dX11_feed_81 rfl rfl ?_
    refine gf_X11_42 (pc' := 85) (v := .ref 13) dX11_feed_82 rfl rfl rfl ?_
    refine jb_dup (pc' := 86) dX11_feed_85 rfl rfl ?_
    refine gf_X11_130 (pc' := 89) (v := .int (I 5)) dX11_feed_86 rfl rfl rfl ?_
    refine jb_top (v := .int (I 5)) (w := .int (nI tp)) (jb_vI h5) ?_
    refine jb_iload_n (pc' := 90) dX11_feed_89 rfl rfl ?_
    refine jb_iadd (pc' := 91) dX11_feed_90 rfl ?_
    refine jb_top (v := .int ((nI tp) + (nI n))) (w := .int (nI (tp + n))) (jb_vI (nI_add _ _)) ?_
    refine pf_X11_130 (pc' := 94) (h' := [jb_main imm Im Tm rowm stkm tpm, jb_sch13 (upd I 5 (nI (tp + n))) Wc T, s2, s3, s4, s5, s6, s7, s8, s9, s10, s11]) dX11_feed_91 (fun _ => ⟨rfl, rfl⟩) rfl (Nat.le_of_ble_eq_true rfl) rfl rfl ?_
    refine jb_aload_n (pc' := 95) dX11_feed_94 rfl rfl ?_
    refine gf_X11_42 (pc' := 98) (v := .ref 13) dX11_feed_95 rfl rfl rfl ?_
    refine gf_X11_130 (pc' := 101) (v := .int (nI (tp + n))) dX11_feed_98 rfl rfl rfl ?_
    refine jb_iret dX11_feed_101 rfl ?_
    exact ⟨rfl, Wc, g1, g2, fun j hj => g3 j (by omega), rfl⟩
  | succ k ih =>
    intro i Wc hi ⟨g1, g2, g3⟩
    show jb_J _ RX11 cX11_feed 5 (Option.some .int) false 1 0 0 39 [some (.ref 0), some (.long word), none, some (.int (nI n)), some (.int (nI i))] [] [jb_main imm Im Tm rowm stkm tpm, jb_sch13 I Wc T, s2, s3, s4, s5, s6, s7, s8, s9, s10, s11] _
    refine jb_iload (pc' := 41) dX11_feed_39 rfl rfl ?_
    refine jb_iload_n (pc' := 42) dX11_feed_41 rfl rfl ?_
    refine jb_icmp_ge (tgt := 81) (pc' := 45) dX11_feed_42 (by decide) rfl (fun z => absurd z (nI_ge (a := i) (b := n) (by omega) (by omega))) (fun _ => ?_)
    refine jb_aload_n (pc' := 46) dX11_feed_45 rfl rfl ?_
    refine gf_X11_42 (pc' := 49) (v := .ref 13) dX11_feed_46 rfl rfl rfl ?_
    refine gf_X11_133 (pc' := 52) (v := .ref 31) dX11_feed_49 rfl rfl rfl ?_
    refine jb_aload_n (pc' := 53) dX11_feed_52 rfl rfl ?_
    refine gf_X11_42 (pc' := 56) (v := .ref 13) dX11_feed_53 rfl rfl rfl ?_
    refine gf_X11_130 (pc' := 59) (v := .int (I 5)) dX11_feed_56 rfl rfl rfl ?_
    refine jb_top (v := .int (I 5)) (w := .int (nI tp)) (jb_vI h5) ?_
    refine jb_iload (pc' := 61) dX11_feed_59 rfl rfl ?_
    refine jb_iadd (pc' := 62) dX11_feed_61 rfl ?_
    refine jb_top (v := .int ((nI tp) + (nI i))) (w := .int (nI (tp + i))) (jb_vI (nI_add _ _)) ?_
    refine jb_lload_n (pc' := 63) dX11_feed_62 rfl rfl ?_
    refine jb_bipush (pc' := 65) 8 dX11_feed_63 (by decide) rfl ?_
    refine jb_iload (pc' := 67) dX11_feed_65 rfl rfl ?_
    refine jb_imul (pc' := 68) dX11_feed_67 rfl ?_
    refine jb_top (v := .int (8 * (nI i))) (w := .int (nI (8 * i))) (jb_vI (pk_mul 8 _)) ?_
    refine jb_lushr (pc' := 69) dX11_feed_68 rfl ?_
    refine jb_l2i (pc' := 70) dX11_feed_69 rfl ?_
    refine jb_sipush (pc' := 73) 255 dX11_feed_70 (by decide) rfl ?_
    refine jb_iand (pc' := 74) dX11_feed_73 rfl ?_
    refine jb_iastore (pc' := 75) (i9 := (tp + i)) (f := (Wc 14)) (h' := [jb_main imm Im Tm rowm stkm tpm, jb_sch13 I (va_up Wc 14 (upd (Wc 14) (tp + i) ((((word.toUInt64 >>> ((nI (8 * i)).toInt64.toUInt64 &&& Int64.toUInt64 63)).toInt64).toInt32) &&& 255))) T, s2, s3, s4, s5, s6, s7, s8, s9, s10, s11]) dX11_feed_74 rfl (jb_ix_nI (by omega)) (by omega) rfl rfl ?_
    refine jb_iinc_ (pc' := 78) (nI (i + 1)) dX11_feed_75 (by decide) rfl (jb_inc i 1) (jb_at4 rfl) rfl ?_
    refine jb_goto (pc' := 39) dX11_feed_78 (by decide) ?_
    refine ih (i + 1) (va_up Wc 14 (upd (Wc 14) (tp + i) ((((word.toUInt64 >>> ((nI (8 * i)).toInt64.toUInt64 &&& Int64.toUInt64 63)).toInt64).toInt32) &&& 255))) (by omega) ⟨fun r hr => ?_, fun k hk => ?_, fun j hj => ?_⟩
    · show (if r = 14 then _ else Wc r) = W r
      rw [if_neg hr]; exact g1 r hr
    · show (if k = tp + i then _ else Wc 14 k) = W 14 k
      rw [if_neg (by omega)]; exact g2 k hk
    · show (if tp + j = tp + i then _ else Wc 14 (tp + j)) = _
      by_cases ej : j = i
      · rw [if_pos (by omega), ej]; rfl
      · rw [if_neg (by omega)]; exact g3 j (by omega)
set_option maxRecDepth 100000 in
set_option maxHeartbeats 4000000 in
theorem kx_feed {sc : Nat × (Nat → Int32)} {s2 s3 s4 s5 s6 s7 s8 s9 s10 s11 : List va_E} (imm : Int32) (Im rowm stkm tpm : Nat → Int32) (Tm : Nat → Value) (I : Nat → Int32) (W : Nat → Nat → Int32) (T : Nat → Value) (word : Int64) (n tp : Nat) (hn1 : 1 ≤ n) (hn : n ≤ 8) (h5 : I 5 = nI tp) (h50 : tp + n ≤ 50) : jb_C sc yX11_feed cX11_feed 5 (Option.some .int) 1 0 0 [.ref 0, .long word, .int (nI n)] [jb_main imm Im Tm rowm stkm tpm, jb_sch13 I W T, s2, s3, s4, s5, s6, s7, s8, s9, s10, s11] (fun r h9 => r = some (.int (nI (tp + n))) ∧ ∃ W9, (∀ r, ¬ r = 14 → W9 r = W r) ∧ (∀ k, k < tp → W9 14 k = W 14 k) ∧ (∀ j, j < n → W9 14 (tp + j) = jf_b word j) ∧ h9 = [jb_main imm Im Tm rowm stkm tpm, jb_sch13 (upd I 5 (nI (tp + n))) W9 T, s2, s3, s4, s5, s6, s7, s8, s9, s10, s11]) := by
  refine jb_CofJ (ini := false) (by decide +kernel) (fun h => by cases h) (Nat.le_of_ble_eq_true rfl) ?_
  show jb_J sc RX11 cX11_feed 5 (Option.some .int) false 1 0 0 0 [some (.ref 0), some (.long word), none, some (.int (nI n)), none] [] [jb_main imm Im Tm rowm stkm tpm, jb_sch13 I W T, s2, s3, s4, s5, s6, s7, s8, s9, s10, s11] _
  refine jb_iload_n (pc' := 1) dX11_feed_0 rfl rfl ?_
  refine jb_iconst (pc' := 2) 1 dX11_feed_1 (by decide) rfl ?_
  refine jb_bipush (pc' := 4) 8 dX11_feed_2 (by decide) rfl ?_
  refine jb_callS (pc' := 7) (As := [.int (nI n), .int 1, .int 8]) (a2 := 0) (b2 := 0) wv_X11_74 dX11_feed_4 (c_isOutLG n 1 8 (by omega) (by omega) (by omega)) rfl ⟨by decide, Nat.le_of_eq (Nat.zero_add _), Nat.le_of_eq (Nat.zero_add _)⟩ (Nat.le_of_ble_eq_true rfl) rfl (fun r h9 hq => ?_)
  obtain ⟨rfl, rfl⟩ := hq
  show jb_J _ RX11 cX11_feed 5 (Option.some .int) false 1 0 0 7 [some (.ref 0), some (.long word), none, some (.int (nI n)), none] [.int 0] [jb_main imm Im Tm rowm stkm tpm, jb_sch13 I W T, s2, s3, s4, s5, s6, s7, s8, s9, s10, s11] _
  refine jb_if_eq (tgt := 16) (pc' := 10) dX11_feed_7 (by decide) rfl (fun _ => ?_) (fun z => absurd (by decide) z)
  refine jb_aload_n (pc' := 17) dX11_feed_16 rfl rfl ?_
  refine gf_X11_42 (pc' := 20) (v := .ref 13) dX11_feed_17 rfl rfl rfl ?_
  refine gf_X11_130 (pc' := 23) (v := .int (I 5)) dX11_feed_20 rfl rfl rfl ?_
  refine jb_top (v := .int (I 5)) (w := .int (nI tp)) (jb_vI h5) ?_
  refine jb_iload_n (pc' := 24) dX11_feed_23 rfl rfl ?_
  refine jb_iadd (pc' := 25) dX11_feed_24 rfl ?_
  refine jb_top (v := .int ((nI tp) + (nI n))) (w := .int (nI (tp + n))) (jb_vI (nI_add _ _)) ?_
  refine jb_bipush (pc' := 27) 50 dX11_feed_25 (by decide) rfl ?_
  refine jb_icmp_le (tgt := 36) (pc' := 30) dX11_feed_27 (by decide) rfl (fun _ => ?_) (fun z => absurd (nI_le (a := tp + n) (b := 50) (by omega) (by omega)) z)
  refine jb_iconst (pc' := 37) 0 dX11_feed_36 (by decide) rfl ?_
  refine jb_istore_ (pc' := 39) dX11_feed_37 (by decide) (jb_at4 rfl) rfl ?_
  exact l_feed imm Im rowm stkm tpm Tm I W T word n tp hn h5 h50 n 0 W (by omega) ⟨fun _ _ => rfl, fun _ _ => rfl, fun j hj => absurd hj (by omega)⟩
set_option maxRecDepth 100000 in
set_option maxHeartbeats 4000000 in
theorem ke_feed {sc : Nat × (Nat → Int32)} {s2 s3 s4 s5 s6 s7 s8 s10 s11 : List va_E} {V : Nat → Nat → Nat} (imm : Int32) (Im rowm stkm tpm : Nat → Int32) (Tm : Nat → Value) (I : Nat → Int32) (W : Nat → Nat → Int32) (T : Nat → Value) (Ia boa era : Nat → Int32) (hr : jr_ V I W) (hk : jv_ok V) (word : Int64) (n : Int32) (hb : ¬ jn_b n 1 9) : jb_C sc yX11_feed cX11_feed 5 (Option.some .int) 1 0 0 [.ref 0, .long word, .int n] [jb_main imm Im Tm rowm stkm tpm, jb_sch13 I W T, s2, s3, s4, s5, s6, s7, s8, jb_act Ia boa era, s10, s11] (fun r h9 => r = some (.int (jm_er 1)) ∧ h9 = [jb_main imm Im Tm rowm stkm tpm, jb_sch13 I W T, s2, s3, s4, s5, s6, s7, s8, jb_act Ia boa (jm_ef era 1), s10, s11]) := by
  refine jb_CofJ (ini := false) (by decide +kernel) (fun h => by cases h) (Nat.le_of_ble_eq_true rfl) ?_
  show jb_J sc RX11 cX11_feed 5 (Option.some .int) false 1 0 0 0 [some (.ref 0), some (.long word), none, some (.int n), none] [] [jb_main imm Im Tm rowm stkm tpm, jb_sch13 I W T, s2, s3, s4, s5, s6, s7, s8, jb_act Ia boa era, s10, s11] _
  have hr0 := hr
  have hk0 := hk
  obtain ⟨r0, r2, r3, r4, a0, a1, a2, rv, rs, rd⟩ := hr
  obtain ⟨k0, k1, k2, k3, k4, k5, k6, k7, kv, ks, kd⟩ := hk
  refine jb_iload_n (pc' := 1) dX11_feed_0 rfl rfl ?_
  refine jb_iconst (pc' := 2) 1 dX11_feed_1 (by decide) rfl ?_
  refine jb_bipush (pc' := 4) 8 dX11_feed_2 (by decide) rfl ?_
  refine jb_callS (pc' := 7) (As := [.int n, .int 1, .int 8]) (a2 := 0) (b2 := 0) wv_X11_74 dX11_feed_4 (c_isOutL n 1 8 (by omega) (by omega)) rfl ⟨by decide, Nat.le_of_eq (Nat.zero_add _), Nat.le_of_eq (Nat.zero_add _)⟩ (Nat.le_of_ble_eq_true rfl) rfl (fun r h9 hq => ?_)
  rcases hq with ⟨rfl, ⟨o1, rfl⟩ | ⟨o1, rfl⟩⟩
  · show jb_J _ RX11 cX11_feed 5 (Option.some .int) false 1 0 0 7 [some (.ref 0), some (.long word), none, some (.int n), none] [.int 1] [jb_main imm Im Tm rowm stkm tpm, jb_sch13 I W T, s2, s3, s4, s5, s6, s7, s8, jb_act Ia boa era, s10, s11] _
    refine jb_if_eq (tgt := 16) (pc' := 10) dX11_feed_7 (by decide) rfl (fun z => absurd z (by decide)) (fun _ => ?_)
    refine jb_aload_n (pc' := 11) dX11_feed_10 rfl rfl ?_
    refine jb_iconst (pc' := 12) 1 dX11_feed_11 (by decide) rfl ?_
    refine jb_callV (pc' := 15) (ci := 11) (q := 0) (As := [.int 1]) (a2 := 0) (b2 := 0) wv_X11_78 rfl dX11_feed_12 (c_error imm Im rowm stkm tpm Tm Ia boa era 1 (by decide)) rfl rfl ⟨by decide, Nat.le_of_eq (Nat.zero_add _), Nat.le_of_eq (Nat.zero_add _)⟩ (Nat.le_of_ble_eq_true rfl) rfl (fun r h9 hq => ?_)
    obtain ⟨rfl, rfl⟩ := hq
    show jb_J _ RX11 cX11_feed 5 (Option.some .int) false 1 0 0 15 [some (.ref 0), some (.long word), none, some (.int n), none] [.int (jm_er 1)] [jb_main imm Im Tm rowm stkm tpm, jb_sch13 I W T, s2, s3, s4, s5, s6, s7, s8, jb_act Ia boa (jm_ef era 1), s10, s11] _
    refine jb_iret dX11_feed_15 rfl ?_
    exact ⟨rfl, rfl⟩
  · exact absurd (by assumption) hb
set_option maxRecDepth 100000 in
set_option maxHeartbeats 4000000 in
theorem ke_feedF {sc : Nat × (Nat → Int32)} {s2 s3 s4 s5 s6 s7 s8 s10 s11 : List va_E} {V : Nat → Nat → Nat} (imm : Int32) (Im rowm stkm tpm : Nat → Int32) (Tm : Nat → Value) (I : Nat → Int32) (W : Nat → Nat → Int32) (T : Nat → Value) (Ia boa era : Nat → Int32) (hr : jr_ V I W) (hk : jv_ok V) (word : Int64) (n tp : Nat) (hn1 : 1 ≤ n) (hn : n ≤ 8) (h5 : I 5 = nI tp) (htp : tp ≤ 50) (h50 : ¬ tp + n ≤ 50) : jb_C sc yX11_feed cX11_feed 5 (Option.some .int) 1 0 0 [.ref 0, .long word, .int (nI n)] [jb_main imm Im Tm rowm stkm tpm, jb_sch13 I W T, s2, s3, s4, s5, s6, s7, s8, jb_act Ia boa era, s10, s11] (fun r h9 => r = some (.int (jm_er 4)) ∧ h9 = [jb_main imm Im Tm rowm stkm tpm, jb_sch13 I W T, s2, s3, s4, s5, s6, s7, s8, jb_act Ia boa (jm_ef era 4), s10, s11]) := by
  refine jb_CofJ (ini := false) (by decide +kernel) (fun h => by cases h) (Nat.le_of_ble_eq_true rfl) ?_
  show jb_J sc RX11 cX11_feed 5 (Option.some .int) false 1 0 0 0 [some (.ref 0), some (.long word), none, some (.int (nI n)), none] [] [jb_main imm Im Tm rowm stkm tpm, jb_sch13 I W T, s2, s3, s4, s5, s6, s7, s8, jb_act Ia boa era, s10, s11] _
  have hr0 := hr
  have hk0 := hk
  obtain ⟨r0, r2, r3, r4, a0, a1, a2, rv, rs, rd⟩ := hr
  obtain ⟨k0, k1, k2, k3, k4, k5, k6, k7, kv, ks, kd⟩ := hk
  refine jb_iload_n (pc' := 1) dX11_feed_0 rfl rfl ?_
  refine jb_iconst (pc' := 2) 1 dX11_feed_1 (by decide) rfl ?_
  refine jb_bipush (pc' := 4) 8 dX11_feed_2 (by decide) rfl ?_
  refine jb_callS (pc' := 7) (As := [.int (nI n), .int 1, .int 8]) (a2 := 0) (b2 := 0) wv_X11_74 dX11_feed_4 (c_isOutLG n 1 8 (by omega) (by omega) (by omega)) rfl ⟨by decide, Nat.le_of_eq (Nat.zero_add _), Nat.le_of_eq (Nat.zero_add _)⟩ (Nat.le_of_ble_eq_true rfl) rfl (fun r h9 hq => ?_)
  obtain ⟨rfl, rfl⟩ := hq
  show jb_J _ RX11 cX11_feed 5 (Option.some .int) false 1 0 0 7 [some (.ref 0), some (.long word), none, some (.int (nI n)), none] [.int 0] [jb_main imm Im Tm rowm stkm tpm, jb_sch13 I W T, s2, s3, s4, s5, s6, s7, s8, jb_act Ia boa era, s10, s11] _
  refine jb_if_eq (tgt := 16) (pc' := 10) dX11_feed_7 (by decide) rfl (fun _ => ?_) (fun z => absurd (by decide) z)
  refine jb_aload_n (pc' := 17) dX11_feed_16 rfl rfl ?_
  refine gf_X11_42 (pc' := 20) (v := .ref 13) dX11_feed_17 rfl rfl rfl ?_
  refine gf_X11_130 (pc' := 23) (v := .int (I 5)) dX11_feed_20 rfl rfl rfl ?_
  refine jb_top (v := .int (I 5)) (w := .int (nI tp)) (jb_vI h5) ?_
  refine jb_iload_n (pc' := 24) dX11_feed_23 rfl rfl ?_
  refine jb_iadd (pc' := 25) dX11_feed_24 rfl ?_
  refine jb_top (v := .int ((nI tp) + (nI n))) (w := .int (nI (tp + n))) (jb_vI (nI_add _ _)) ?_
  refine jb_bipush (pc' := 27) 50 dX11_feed_25 (by decide) rfl ?_
  refine jb_icmp_le (tgt := 36) (pc' := 30) dX11_feed_27 (by decide) rfl (fun z => absurd z (nI_ge (a := 50) (b := tp + n) (by omega) (by omega))) (fun _ => ?_)
  refine jb_aload_n (pc' := 31) dX11_feed_30 rfl rfl ?_
  refine jb_iconst (pc' := 32) 4 dX11_feed_31 (by decide) rfl ?_
  refine jb_callV (pc' := 35) (ci := 11) (q := 0) (As := [.int 4]) (a2 := 0) (b2 := 0) wv_X11_78 rfl dX11_feed_32 (c_error imm Im rowm stkm tpm Tm Ia boa era 4 (by decide)) rfl rfl ⟨by decide, Nat.le_of_eq (Nat.zero_add _), Nat.le_of_eq (Nat.zero_add _)⟩ (Nat.le_of_ble_eq_true rfl) rfl (fun r h9 hq => ?_)
  obtain ⟨rfl, rfl⟩ := hq
  show jb_J _ RX11 cX11_feed 5 (Option.some .int) false 1 0 0 35 [some (.ref 0), some (.long word), none, some (.int (nI n)), none] [.int (jm_er 4)] [jb_main imm Im Tm rowm stkm tpm, jb_sch13 I W T, s2, s3, s4, s5, s6, s7, s8, jb_act Ia boa (jm_ef era 4), s10, s11] _
  refine jb_iret dX11_feed_35 rfl ?_
  exact ⟨rfl, rfl⟩
set_option maxRecDepth 100000 in
set_option maxHeartbeats 4000000 in
theorem l_feedm {sc : Nat × (Nat → Int32)} {s0 s1 s2 s3 s4 s5 s6 s7 s8 s9 s11 : List va_E} (I J d e kp nm : Nat → Int32) (W : Nat → Nat → Int32) (word : Int64) (n tp : Nat) (hn : n ≤ 8) (h50 : tp + n ≤ 50) : ∀ (k i : Nat) (dc : Nat → Int32), i + k = n → (∀ k, ¬ k = 8 → (k < 438 + tp ∨ 438 + tp + i ≤ k) → dc k = d k) ∧ dc 8 = nI (tp + i) ∧ (∀ j, j < i → dc (438 + tp + j) = jf_b word j) → jb_J sc RX12 cX12_feed 5 (Option.some .int) false 1 0 0 41 [some (.ref 105), some (.long word), none, some (.int (nI n)), some (.int (nI i))] [] [s0, s1, s2, s3, s4, s5, s6, s7, s8, s9, jb_mdl I J dc e kp nm W, s11] (fun r h9 => r = some (.int (nI (tp + n))) ∧ ∃ d9, (∀ k, ¬ k = 8 → (k < 438 + tp ∨ 438 + tp + n ≤ k) → d9 k = d k) ∧ d9 8 = nI (tp + n) ∧ (∀ j, j < n → d9 (438 + tp + j) = jf_b word j) ∧ h9 = [s0, s1, s2, s3, s4, s5, s6, s7, s8, s9, jb_mdl I J d9 e kp nm W, s11]) := by
  intro k
  induction k with
  | zero =>
    intro i dc hi ⟨g1, g8, g3⟩
    obtain rfl : i = n := by omega
    show jb_J _ RX12 cX12_feed 5 (Option.some .int) false 1 0 0 41 [some (.ref 105), some (.long word), none, some (.int (nI i)), some (.int (nI i))] [] [s0, s1, s2, s3, s4, s5, s6, s7, s8, s9, jb_mdl I J dc e kp nm W, s11] _
    refine jb_iload (pc' := 43) dX12_feed_41 rfl rfl ?_
    refine jb_iload_n (pc' := 44) dX12_feed_43 rfl rfl ?_
    refine jb_icmp_ge (tgt := 92) (pc' := 47) dX12_feed_44 (by decide) rfl (fun _ => ?_) (fun z => absurd (nI_le (a := i) (b := i) (by omega) (by omega)) z)
    refine jb_aload_n (pc' := 93) dX12_feed_92 rfl rfl ?_
    refine gf_X12_7 (pc' := 96) (v := .ref 106) dX12_feed_93 rfl rfl rfl ?_
    refine jb_bipush (pc' := 98) 8 dX12_feed_96 (by decide) rfl ?_
    refine jb_iaload (pc' := 99) (i9 := 8) (f := dc) dX12_feed_98 rfl jb_x8 (by decide) rfl ?_
    refine jb_top (v := .int (dc 8)) (w := .int (nI (tp + i))) (jb_vI g8) ?_
    refine jb_iret dX12_feed_99 rfl ?_
    exact ⟨rfl, dc, g1, g8, g3, rfl⟩
  | succ k ih =>
    intro i dc hi ⟨g1, g8, g3⟩
    show jb_J _ RX12 cX12_feed 5 (Option.some .int) false 1 0 0 41 [some (.ref 105), some (.long word), none, some (.int (nI n)), some (.int (nI i))] [] [s0, s1, s2, s3, s4, s5, s6, s7, s8, s9, jb_mdl I J dc e kp nm W, s11] _
    refine jb_iload (pc' := 43) dX12_feed_41 rfl rfl ?_
    refine jb_iload_n (pc' := 44) dX12_feed_43 rfl rfl ?_
    refine jb_icmp_ge (tgt := 92) (pc' := 47) dX12_feed_44 (by decide) rfl (fun z => absurd z (nI_ge (a := i) (b := n) (by omega) (by omega))) (fun _ => ?_)
    refine jb_aload_n (pc' := 48) dX12_feed_47 rfl rfl ?_
    refine gf_X12_7 (pc' := 51) (v := .ref 106) dX12_feed_48 rfl rfl rfl ?_
    refine jb_sipush (pc' := 54) 438 dX12_feed_51 (by decide) rfl ?_
    refine jb_aload_n (pc' := 55) dX12_feed_54 rfl rfl ?_
    refine gf_X12_7 (pc' := 58) (v := .ref 106) dX12_feed_55 rfl rfl rfl ?_
    refine jb_bipush (pc' := 60) 8 dX12_feed_58 (by decide) rfl ?_
    refine jb_iaload (pc' := 61) (i9 := 8) (f := dc) dX12_feed_60 rfl jb_x8 (by decide) rfl ?_
    refine jb_top (v := .int (dc 8)) (w := .int (nI (tp + i))) (jb_vI g8) ?_
    refine jb_iadd (pc' := 62) dX12_feed_61 rfl ?_
    refine jb_top (v := .int (438 + (nI (tp + i)))) (w := .int (nI (438 + (tp + i)))) (jb_vI (nI_add 438 _)) ?_
    refine jb_lload_n (pc' := 63) dX12_feed_62 rfl rfl ?_
    refine jb_bipush (pc' := 65) 8 dX12_feed_63 (by decide) rfl ?_
    refine jb_iload (pc' := 67) dX12_feed_65 rfl rfl ?_
    refine jb_imul (pc' := 68) dX12_feed_67 rfl ?_
    refine jb_top (v := .int (8 * (nI i))) (w := .int (nI (8 * i))) (jb_vI (pk_mul 8 _)) ?_
    refine jb_lshr (pc' := 69) dX12_feed_68 rfl ?_
    refine jb_ldc2 (pc' := 72) 255 dX12_feed_69 wk_X12_124 rfl ?_
    refine jb_land (pc' := 73) dX12_feed_72 rfl ?_
    refine jb_l2i (pc' := 74) dX12_feed_73 rfl ?_
    refine jb_iastore (pc' := 75) (i9 := (438 + (tp + i))) (f := dc) (h' := [s0, s1, s2, s3, s4, s5, s6, s7, s8, s9, jb_mdl I J (upd dc (438 + (tp + i)) (((word >>> ((nI (8 * i)).toInt64 &&& 63)) &&& 255).toInt32)) e kp nm W, s11]) dX12_feed_74 rfl (jb_ix_nI (by omega)) (by omega) rfl rfl ?_
    refine jb_aload_n (pc' := 76) dX12_feed_75 rfl rfl ?_
    refine gf_X12_7 (pc' := 79) (v := .ref 106) dX12_feed_76 rfl rfl rfl ?_
    refine jb_bipush (pc' := 81) 8 dX12_feed_79 (by decide) rfl ?_
    refine jb_dup2 (pc' := 82) dX12_feed_81 rfl rfl rfl ?_
    refine jb_iaload (pc' := 83) (i9 := 8) (f := (upd dc (438 + (tp + i)) (((word >>> ((nI (8 * i)).toInt64 &&& 63)) &&& 255).toInt32))) dX12_feed_82 rfl jb_x8 (by decide) rfl ?_
    refine jb_top (v := .int ((upd dc (438 + (tp + i)) (((word >>> ((nI (8 * i)).toInt64 &&& 63)) &&& 255).toInt32)) 8)) (w := .int (nI (tp + i))) (jb_vI ((jb_une (by omega)).trans g8)) ?_
    refine jb_iconst (pc' := 84) 1 dX12_feed_83 (by decide) rfl ?_
    refine jb_iadd (pc' := 85) dX12_feed_84 rfl ?_
    refine jb_top (v := .int ((nI (tp + i)) + 1)) (w := .int (nI ((tp + i) + 1))) (jb_vI (nI_add _ 1)) ?_
    refine jb_iastore (pc' := 86) (i9 := 8) (f := (upd dc (438 + (tp + i)) (((word >>> ((nI (8 * i)).toInt64 &&& 63)) &&& 255).toInt32))) (h' := [s0, s1, s2, s3, s4, s5, s6, s7, s8, s9, jb_mdl I J (upd (upd dc (438 + (tp + i)) (((word >>> ((nI (8 * i)).toInt64 &&& 63)) &&& 255).toInt32)) 8 (nI ((tp + i) + 1))) e kp nm W, s11]) dX12_feed_85 rfl jb_x8 (by decide) rfl rfl ?_
    refine jb_iinc_ (pc' := 89) (nI (i + 1)) dX12_feed_86 (by decide) rfl (jb_inc i 1) (jb_at4 rfl) rfl ?_
    refine jb_goto (pc' := 41) dX12_feed_89 (by decide) ?_
    refine ih (i + 1) (upd (upd dc (438 + (tp + i)) (((word >>> ((nI (8 * i)).toInt64 &&& 63)) &&& 255).toInt32)) 8 (nI ((tp + i) + 1))) (by omega) ⟨fun k h1 h2 => ?_, ?_, fun j hj => ?_⟩
    · rw [jb_une h1, jb_une (by omega)]; exact g1 k h1 (by omega)
    · exact jb_uee
    · rw [jb_une (by omega)]
      by_cases ej : j = i
      · rw [ej, show 438 + tp + i = 438 + (tp + i) by omega]; exact jb_uee.trans (jf_eq word (by omega))
      · rw [jb_une (by omega)]; exact g3 j (by omega)
set_option maxRecDepth 100000 in
set_option maxHeartbeats 4000000 in
theorem mx_feed {sc : Nat × (Nat → Int32)} {s0 s1 s2 s3 s4 s5 s6 s7 s8 s9 s11 : List va_E} (I J d e kp nm : Nat → Int32) (W : Nat → Nat → Int32) (word : Int64) (n tp : Nat) (hn1 : 1 ≤ n) (hn : n ≤ 8) (h8 : d 8 = nI tp) (h50 : tp + n ≤ 50) : jb_C sc yX12_feed cX12_feed 5 (Option.some .int) 1 0 0 [.ref 105, .long word, .int (nI n)] [s0, s1, s2, s3, s4, s5, s6, s7, s8, s9, jb_mdl I J d e kp nm W, s11] (fun r h9 => r = some (.int (nI (tp + n))) ∧ ∃ d9, (∀ k, ¬ k = 8 → (k < 438 + tp ∨ 438 + tp + n ≤ k) → d9 k = d k) ∧ d9 8 = nI (tp + n) ∧ (∀ j, j < n → d9 (438 + tp + j) = jf_b word j) ∧ h9 = [s0, s1, s2, s3, s4, s5, s6, s7, s8, s9, jb_mdl I J d9 e kp nm W, s11]) := by
  refine jb_CofJ (ini := false) (by decide +kernel) (fun h => by cases h) (Nat.le_of_ble_eq_true rfl) ?_
  show jb_J sc RX12 cX12_feed 5 (Option.some .int) false 1 0 0 0 [some (.ref 105), some (.long word), none, some (.int (nI n)), none] [] [s0, s1, s2, s3, s4, s5, s6, s7, s8, s9, jb_mdl I J d e kp nm W, s11] _
  refine jb_iload_n (pc' := 1) dX12_feed_0 rfl rfl ?_
  refine jb_i2l (pc' := 2) dX12_feed_1 rfl ?_
  refine jb_lconst (pc' := 3) 1 dX12_feed_2 (by decide) rfl ?_
  refine jb_ldc2 (pc' := 6) 8 dX12_feed_3 wk_X12_119 rfl ?_
  refine jb_callS (pc' := 9) (As := [.long ((nI n).toInt64), .long 1, .long 8]) (a2 := 0) (b2 := 0) wv_X12_56 dX12_feed_6 (c_inLG _ n 1 8 (by omega) (by omega) (by omega)) rfl ⟨by decide, Nat.le_of_eq (Nat.zero_add _), Nat.le_of_eq (Nat.zero_add _)⟩ (Nat.le_of_ble_eq_true rfl) rfl (fun r h9 hq => ?_)
  obtain ⟨rfl, rfl⟩ := hq
  show jb_J _ RX12 cX12_feed 5 (Option.some .int) false 1 0 0 9 [some (.ref 105), some (.long word), none, some (.int (nI n)), none] [.int 1] [s0, s1, s2, s3, s4, s5, s6, s7, s8, s9, jb_mdl I J d e kp nm W, s11] _
  refine jb_if_ne (tgt := 18) (pc' := 12) dX12_feed_9 (by decide) rfl (fun _ => ?_) (fun z => absurd z (by decide))
  refine jb_aload_n (pc' := 19) dX12_feed_18 rfl rfl ?_
  refine gf_X12_7 (pc' := 22) (v := .ref 106) dX12_feed_19 rfl rfl rfl ?_
  refine jb_bipush (pc' := 24) 8 dX12_feed_22 (by decide) rfl ?_
  refine jb_iaload (pc' := 25) (i9 := 8) (f := d) dX12_feed_24 rfl jb_x8 (by decide) rfl ?_
  refine jb_top (v := .int (d 8)) (w := .int (nI tp)) (jb_vI h8) ?_
  refine jb_iload_n (pc' := 26) dX12_feed_25 rfl rfl ?_
  refine jb_iadd (pc' := 27) dX12_feed_26 rfl ?_
  refine jb_top (v := .int ((nI tp) + (nI n))) (w := .int (nI (tp + n))) (jb_vI (nI_add _ _)) ?_
  refine jb_bipush (pc' := 29) 50 dX12_feed_27 (by decide) rfl ?_
  refine jb_icmp_le (tgt := 38) (pc' := 32) dX12_feed_29 (by decide) rfl (fun _ => ?_) (fun z => absurd (nI_le (a := tp + n) (b := 50) (by omega) (by omega)) z)
  refine jb_iconst (pc' := 39) 0 dX12_feed_38 (by decide) rfl ?_
  refine jb_istore_ (pc' := 41) dX12_feed_39 (by decide) (jb_at4 rfl) rfl ?_
  exact l_feedm I J d e kp nm W word n tp hn h50 n 0 d (by omega) ⟨fun _ _ _ => rfl, h8, fun j hj => absurd hj (by omega)⟩
set_option maxRecDepth 100000 in
set_option maxHeartbeats 4000000 in
theorem me_feed {sc : Nat × (Nat → Int32)} {s0 s1 s2 s3 s4 s5 s6 s7 s8 s9 s11 : List va_E} {V : Nat → Nat → Nat} (I J d e kp nm : Nat → Int32) (W : Nat → Nat → Int32) (hd : jd_ V d) (hk : jv_ok V) (word : Int64) (n : Int32) (hb : ¬ jn_b n 1 9) : jb_C sc yX12_feed cX12_feed 5 (Option.some .int) 1 0 0 [.ref 105, .long word, .int n] [s0, s1, s2, s3, s4, s5, s6, s7, s8, s9, jb_mdl I J d e kp nm W, s11] (fun r h9 => r = some (.int (jm_er 1)) ∧ h9 = [s0, s1, s2, s3, s4, s5, s6, s7, s8, s9, jb_mdl I J d e kp nm (va_up W 0 (jm_ef (W 0) 1)), s11]) := by
  refine jb_CofJ (ini := false) (by decide +kernel) (fun h => by cases h) (Nat.le_of_ble_eq_true rfl) ?_
  show jb_J sc RX12 cX12_feed 5 (Option.some .int) false 1 0 0 0 [some (.ref 105), some (.long word), none, some (.int n), none] [] [s0, s1, s2, s3, s4, s5, s6, s7, s8, s9, jb_mdl I J d e kp nm W, s11] _
  have hd0 := hd
  have hk0 := hk
  obtain ⟨e0, e1, e2, e3, e4, e5, e6, dv, ds, dd⟩ := hd
  obtain ⟨k0, k1, k2, k3, k4, k5, k6, k7, kv, ks, kd⟩ := hk
  refine jb_iload_n (pc' := 1) dX12_feed_0 rfl rfl ?_
  refine jb_i2l (pc' := 2) dX12_feed_1 rfl ?_
  refine jb_lconst (pc' := 3) 1 dX12_feed_2 (by decide) rfl ?_
  refine jb_ldc2 (pc' := 6) 8 dX12_feed_3 wk_X12_119 rfl ?_
  refine jb_callS (pc' := 9) (As := [.long n.toInt64, .long 1, .long 8]) (a2 := 0) (b2 := 0) wv_X12_56 dX12_feed_6 (c_inL _ n 1 8 (by omega) (by omega)) rfl ⟨by decide, Nat.le_of_eq (Nat.zero_add _), Nat.le_of_eq (Nat.zero_add _)⟩ (Nat.le_of_ble_eq_true rfl) rfl (fun r h9 hq => ?_)
  rcases hq with ⟨rfl, ⟨o1, rfl⟩ | ⟨o1, rfl⟩⟩
  · exact absurd (by assumption) hb
  · show jb_J _ RX12 cX12_feed 5 (Option.some .int) false 1 0 0 9 [some (.ref 105), some (.long word), none, some (.int n), none] [.int 0] [s0, s1, s2, s3, s4, s5, s6, s7, s8, s9, jb_mdl I J d e kp nm W, s11] _
    refine jb_if_ne (tgt := 18) (pc' := 12) dX12_feed_9 (by decide) rfl (fun z => absurd (by decide) z) (fun _ => ?_)
    refine jb_aload_n (pc' := 13) dX12_feed_12 rfl rfl ?_
    refine jb_iconst (pc' := 14) 1 dX12_feed_13 (by decide) rfl ?_
    refine jb_callV (pc' := 17) (ci := 12) (q := 105) (As := [.int 1]) (a2 := 0) (b2 := 0) wv_X12_121 rfl dX12_feed_14 (c_finds I J d e kp nm W 1 (by decide)) rfl rfl ⟨by decide, Nat.le_of_eq (Nat.zero_add _), Nat.le_of_eq (Nat.zero_add _)⟩ (Nat.le_of_ble_eq_true rfl) rfl (fun r h9 hq => ?_)
    obtain ⟨rfl, rfl⟩ := hq
    show jb_J _ RX12 cX12_feed 5 (Option.some .int) false 1 0 0 17 [some (.ref 105), some (.long word), none, some (.int n), none] [.int (jm_er 1)] [s0, s1, s2, s3, s4, s5, s6, s7, s8, s9, jb_mdl I J d e kp nm (va_up W 0 (jm_ef (W 0) 1)), s11] _
    refine jb_iret dX12_feed_17 rfl ?_
    exact ⟨rfl, rfl⟩
set_option maxRecDepth 100000 in
set_option maxHeartbeats 4000000 in
theorem me_feedF {sc : Nat × (Nat → Int32)} {s0 s1 s2 s3 s4 s5 s6 s7 s8 s9 s11 : List va_E} {V : Nat → Nat → Nat} (I J d e kp nm : Nat → Int32) (W : Nat → Nat → Int32) (hd : jd_ V d) (hk : jv_ok V) (word : Int64) (n tp : Nat) (hn1 : 1 ≤ n) (hn : n ≤ 8) (h8 : d 8 = nI tp) (htp : tp ≤ 50) (h50 : ¬ tp + n ≤ 50) : jb_C sc yX12_feed cX12_feed 5 (Option.some .int) 1 0 0 [.ref 105, .long word, .int (nI n)] [s0, s1, s2, s3, s4, s5, s6, s7, s8, s9, jb_mdl I J d e kp nm W, s11] (fun r h9 => r = some (.int (jm_er 4)) ∧ h9 = [s0, s1, s2, s3, s4, s5, s6, s7, s8, s9, jb_mdl I J d e kp nm (va_up W 0 (jm_ef (W 0) 4)), s11]) := by
  refine jb_CofJ (ini := false) (by decide +kernel) (fun h => by cases h) (Nat.le_of_ble_eq_true rfl) ?_
  show jb_J sc RX12 cX12_feed 5 (Option.some .int) false 1 0 0 0 [some (.ref 105), some (.long word), none, some (.int (nI n)), none] [] [s0, s1, s2, s3, s4, s5, s6, s7, s8, s9, jb_mdl I J d e kp nm W, s11] _
  have hd0 := hd
  have hk0 := hk
  obtain ⟨e0, e1, e2, e3, e4, e5, e6, dv, ds, dd⟩ := hd
  obtain ⟨k0, k1, k2, k3, k4, k5, k6, k7, kv, ks, kd⟩ := hk
  refine jb_iload_n (pc' := 1) dX12_feed_0 rfl rfl ?_
  refine jb_i2l (pc' := 2) dX12_feed_1 rfl ?_
  refine jb_lconst (pc' := 3) 1 dX12_feed_2 (by decide) rfl ?_
  refine jb_ldc2 (pc' := 6) 8 dX12_feed_3 wk_X12_119 rfl ?_
  refine jb_callS (pc' := 9) (As := [.long ((nI n).toInt64), .long 1, .long 8]) (a2 := 0) (b2 := 0) wv_X12_56 dX12_feed_6 (c_inLG _ n 1 8 (by omega) (by omega) (by omega)) rfl ⟨by decide, Nat.le_of_eq (Nat.zero_add _), Nat.le_of_eq (Nat.zero_add _)⟩ (Nat.le_of_ble_eq_true rfl) rfl (fun r h9 hq => ?_)
  obtain ⟨rfl, rfl⟩ := hq
  show jb_J _ RX12 cX12_feed 5 (Option.some .int) false 1 0 0 9 [some (.ref 105), some (.long word), none, some (.int (nI n)), none] [.int 1] [s0, s1, s2, s3, s4, s5, s6, s7, s8, s9, jb_mdl I J d e kp nm W, s11] _
  refine jb_if_ne (tgt := 18) (pc' := 12) dX12_feed_9 (by decide) rfl (fun _ => ?_) (fun z => absurd z (by decide))
  refine jb_aload_n (pc' := 19) dX12_feed_18 rfl rfl ?_
  refine gf_X12_7 (pc' := 22) (v := .ref 106) dX12_feed_19 rfl rfl rfl ?_
  refine jb_bipush (pc' := 24) 8 dX12_feed_22 (by decide) rfl ?_
  refine jb_iaload (pc' := 25) (i9 := 8) (f := d) dX12_feed_24 rfl jb_x8 (by decide) rfl ?_
  refine jb_top (v := .int (d 8)) (w := .int (nI tp)) (jb_vI h8) ?_
  refine jb_iload_n (pc' := 26) dX12_feed_25 rfl rfl ?_
  refine jb_iadd (pc' := 27) dX12_feed_26 rfl ?_
  refine jb_top (v := .int ((nI tp) + (nI n))) (w := .int (nI (tp + n))) (jb_vI (nI_add _ _)) ?_
  refine jb_bipush (pc' := 29) 50 dX12_feed_27 (by decide) rfl ?_
  refine jb_icmp_le (tgt := 38) (pc' := 32) dX12_feed_29 (by decide) rfl (fun z => absurd z (nI_ge (a := 50) (b := tp + n) (by omega) (by omega))) (fun _ => ?_)
  refine jb_aload_n (pc' := 33) dX12_feed_32 rfl rfl ?_
  refine jb_iconst (pc' := 34) 4 dX12_feed_33 (by decide) rfl ?_
  refine jb_callV (pc' := 37) (ci := 12) (q := 105) (As := [.int 4]) (a2 := 0) (b2 := 0) wv_X12_121 rfl dX12_feed_34 (c_finds I J d e kp nm W 4 (by decide)) rfl rfl ⟨by decide, Nat.le_of_eq (Nat.zero_add _), Nat.le_of_eq (Nat.zero_add _)⟩ (Nat.le_of_ble_eq_true rfl) rfl (fun r h9 hq => ?_)
  obtain ⟨rfl, rfl⟩ := hq
  show jb_J _ RX12 cX12_feed 5 (Option.some .int) false 1 0 0 37 [some (.ref 105), some (.long word), none, some (.int (nI n)), none] [.int (jm_er 4)] [s0, s1, s2, s3, s4, s5, s6, s7, s8, s9, jb_mdl I J d e kp nm (va_up W 0 (jm_ef (W 0) 4)), s11] _
  refine jb_iret dX12_feed_37 rfl ?_
  exact ⟨rfl, rfl⟩
set_option maxRecDepth 100000 in
set_option maxHeartbeats 4000000 in
theorem kx_text0 {sc : Nat × (Nat → Int32)} {s2 s3 s4 s5 s6 s7 s8 s9 s10 s11 : List va_E} (imm : Int32) (Im rowm stkm tpm : Nat → Int32) (Tm : Nat → Value) (I : Nat → Int32) (W : Nat → Nat → Int32) (T : Nat → Value) {e0 : va_E} (h15 : s10[15]? = some e0) (hl : s11.length < 1000) {tp : Nat} (h5 : I 5 = nI tp) (htp : tp ≤ 50) (hy8 : jp_by (W 14) tp) : jb_C sc yX11_text cX11_text 3 (Option.some .int) 53 1 50 [.ref 0, .int 0] [jb_main imm Im Tm rowm stkm tpm, jb_sch13 I W T, s2, s3, s4, s5, s6, s7, s8, s9, s10, s11] (fun r h9 => ∃ I9 T9 row9 tp9, (((jp_al (W 14) tp 0).2.1 = true ∧ (jp_al (W 14) tp 0).1 = tp) ∧ r = some (.int 1) ∧ ∃ f, (∀ j, j < (jp_al (W 14) tp 0).2.2.length → f j = (jp_al (W 14) tp 0).2.2.getD j 0) ∧ h9 = [jb_main imm I9 T9 row9 stkm tp9, jb_sch13 (upd I 5 0) W (va_up T 0 (.ref (121 + s11.length))), s2, s3, s4, s5, s6, s7, s8, s9, s10, (s11 ++ [.inl (0, (jp_al (W 14) tp 0).2.2.length, .inl f)])]) ∨ (¬ ((jp_al (W 14) tp 0).2.1 = true ∧ (jp_al (W 14) tp 0).1 = tp) ∧ r = some (.int (-10 - nI (jp_al (W 14) tp 0).1)) ∧ h9 = [jb_main imm I9 T9 row9 stkm tp9, jb_sch13 (upd I 5 0) W T, s2, s3, s4, s5, s6, s7, s8, s9, s10, s11])) := by
  refine jb_CofJ (ini := false) (by decide +kernel) (fun h => by cases h) (Nat.le_of_ble_eq_true rfl) ?_
  show jb_J sc RX11 cX11_text 3 (Option.some .int) false 53 1 50 0 [some (.ref 0), some (.int 0), none] [] [jb_main imm Im Tm rowm stkm tpm, jb_sch13 I W T, s2, s3, s4, s5, s6, s7, s8, s9, s10, s11] _
  refine jb_iload_n (pc' := 1) dX11_text_0 rfl rfl ?_
  refine jb_iconst (pc' := 2) 0 dX11_text_1 (by decide) rfl ?_
  refine jb_iconst (pc' := 3) 1 dX11_text_2 (by decide) rfl ?_
  refine jb_callS (pc' := 6) (As := [.int 0, .int 0, .int 1]) (a2 := 1) (b2 := 50) wv_X11_74 dX11_text_3 (c_isOutLG 0 0 1 (by omega) (by omega) (by omega)) rfl ⟨by decide, Nat.le_of_eq (Nat.zero_add _), Nat.le_of_eq (Nat.zero_add _)⟩ (Nat.le_of_ble_eq_true rfl) rfl (fun r h9 hq => ?_)
  obtain ⟨rfl, rfl⟩ := hq
  show jb_J _ RX11 cX11_text 3 (Option.some .int) false 53 1 50 6 [some (.ref 0), some (.int 0), none] [.int 0] [jb_main imm Im Tm rowm stkm tpm, jb_sch13 I W T, s2, s3, s4, s5, s6, s7, s8, s9, s10, s11] _
  refine jb_if_eq (tgt := 15) (pc' := 9) dX11_text_6 (by decide) rfl (fun _ => ?_) (fun z => absurd (by decide) z)
  refine jb_aload_n (pc' := 16) dX11_text_15 rfl rfl ?_
  refine gf_X11_10 (pc' := 19) (v := .ref 1) dX11_text_16 rfl rfl rfl ?_
  refine jb_aload_n (pc' := 20) dX11_text_19 rfl rfl ?_
  refine gf_X11_42 (pc' := 23) (v := .ref 13) dX11_text_20 rfl rfl rfl ?_
  refine gf_X11_133 (pc' := 26) (v := .ref 31) dX11_text_23 rfl rfl rfl ?_
  refine jb_aload_n (pc' := 27) dX11_text_26 rfl rfl ?_
  refine gf_X11_42 (pc' := 30) (v := .ref 13) dX11_text_27 rfl rfl rfl ?_
  refine gf_X11_130 (pc' := 33) (v := .int (I 5)) dX11_text_30 rfl rfl rfl ?_
  refine jb_top (v := .int (I 5)) (w := .int (nI tp)) (jb_vI h5) ?_
  refine jb_iload_n (pc' := 34) dX11_text_33 rfl rfl ?_
  refine jb_if_ne (tgt := 42) (pc' := 37) dX11_text_34 (by decide) rfl (fun z => absurd (by decide) z) (fun _ => ?_)
  refine jb_ldcS (pc' := 39) (k := 1000002) (Or.inr (Or.inl ⟨rfl, rfl, rfl⟩)) dX11_text_37 rfl ?_
  refine jb_goto (pc' := 44) dX11_text_39 (by decide) ?_
  refine jb_callV (pc' := 47) (ci := 8) (q := 1) (As := [.ref 31, .int (nI tp), .ref 1000002]) (a2 := 0) (b2 := 0) wv_X11_140 rfl dX11_text_44 (c_read imm Im rowm stkm tpm Tm I W T h15 hl (n := tp) (u := 0) htp (by decide) hy8) rfl rfl ⟨by decide, by decide, by decide⟩ (Nat.le_of_ble_eq_true rfl) rfl (fun r h9 hq => ?_)
  rcases hq with ⟨I9, T9, row9, tp9, ⟨hok, rfl, f9, hf9, rfl⟩ | ⟨hno, rfl, ha9, rfl⟩⟩
  · show jb_J _ RX11 cX11_text 3 (Option.some .int) false 53 0 0 47 [some (.ref 0), some (.int 0), none] [.ref (121 + s11.length)] [jb_main imm I9 T9 row9 stkm tp9, jb_sch13 I W T, s2, s3, s4, s5, s6, s7, s8, s9, s10, (s11 ++ [.inl (0, (jp_al (W 14) tp 0).2.2.length, .inl f9)])] _
    refine jb_astore_n_ (pc' := 48) dX11_text_47 (by decide) (jb_at2 rfl) rfl ?_
    refine jb_aload_n (pc' := 49) dX11_text_48 rfl rfl ?_
    refine gf_X11_42 (pc' := 52) (v := .ref 13) dX11_text_49 rfl rfl rfl ?_
    refine jb_iconst (pc' := 53) 0 dX11_text_52 (by decide) rfl ?_
    refine pf_X11_130 (pc' := 56) (h' := [jb_main imm I9 T9 row9 stkm tp9, jb_sch13 (upd I 5 0) W T, s2, s3, s4, s5, s6, s7, s8, s9, s10, (s11 ++ [.inl (0, (jp_al (W 14) tp 0).2.2.length, .inl f9)])]) dX11_text_53 (fun _ => ⟨rfl, rfl⟩) rfl (Nat.le_of_ble_eq_true rfl) rfl rfl ?_
    refine jb_aload_n (pc' := 57) dX11_text_56 rfl rfl ?_
    refine jb_nonnull (pc' := 71) dX11_text_57 (by decide) ?_
    refine jb_iload_n (pc' := 72) dX11_text_71 rfl rfl ?_
    refine jb_if_ne (tgt := 86) (pc' := 75) dX11_text_72 (by decide) rfl (fun z => absurd (by decide) z) (fun _ => ?_)
    refine jb_aload_n (pc' := 76) dX11_text_75 rfl rfl ?_
    refine gf_X11_42 (pc' := 79) (v := .ref 13) dX11_text_76 rfl rfl rfl ?_
    refine jb_aload_n (pc' := 80) dX11_text_79 rfl rfl ?_
    refine pf_X11_147 (pc' := 83) (h' := [jb_main imm I9 T9 row9 stkm tp9, jb_sch13 (upd I 5 0) W (va_up T 0 (.ref (121 + s11.length))), s2, s3, s4, s5, s6, s7, s8, s9, s10, (s11 ++ [.inl (0, (jp_al (W 14) tp 0).2.2.length, .inl f9)])]) dX11_text_80 (fun _ => ⟨rfl, rfl⟩) rfl (Nat.le_of_ble_eq_true rfl) rfl rfl ?_
    refine jb_goto (pc' := 94) dX11_text_83 (by decide) ?_
    refine jb_iconst (pc' := 95) 1 dX11_text_94 (by decide) rfl ?_
    refine jb_iret dX11_text_95 rfl ?_
    exact ⟨I9, T9, row9, tp9, Or.inl ⟨hok, rfl, f9, hf9, rfl⟩⟩
  · show jb_J _ RX11 cX11_text 3 (Option.some .int) false 53 0 0 47 [some (.ref 0), some (.int 0), none] [.null] [jb_main imm I9 T9 row9 stkm tp9, jb_sch13 I W T, s2, s3, s4, s5, s6, s7, s8, s9, s10, s11] _
    refine jb_astore0_n_ (pc' := 48) dX11_text_47 (by decide) (jb_at2 rfl) rfl ?_
    refine jb_aload_n (pc' := 49) dX11_text_48 rfl rfl ?_
    refine gf_X11_42 (pc' := 52) (v := .ref 13) dX11_text_49 rfl rfl rfl ?_
    refine jb_iconst (pc' := 53) 0 dX11_text_52 (by decide) rfl ?_
    refine pf_X11_130 (pc' := 56) (h' := [jb_main imm I9 T9 row9 stkm tp9, jb_sch13 (upd I 5 0) W T, s2, s3, s4, s5, s6, s7, s8, s9, s10, s11]) dX11_text_53 (fun _ => ⟨rfl, rfl⟩) rfl (Nat.le_of_ble_eq_true rfl) rfl rfl ?_
    refine jb_aload0_n (pc' := 57) dX11_text_56 rfl rfl ?_
    refine jb_nonnull_f (pc' := 60) dX11_text_57 rfl ?_
    refine jb_bipush (pc' := 62) (-10) dX11_text_60 (by decide) rfl ?_
    refine jb_aload_n (pc' := 63) dX11_text_62 rfl rfl ?_
    refine gf_X11_10 (pc' := 66) (v := .ref 1) dX11_text_63 rfl rfl rfl ?_
    refine gf_X11_144 (pc' := 69) (v := .int (I9 1)) dX11_text_66 rfl rfl rfl ?_
    refine jb_top (v := .int (I9 1)) (w := .int (nI (jp_al (W 14) tp 0).1)) (jb_vI ha9) ?_
    refine jb_isub (pc' := 70) dX11_text_69 rfl ?_
    refine jb_iret dX11_text_70 rfl ?_
    exact ⟨I9, T9, row9, tp9, Or.inr ⟨hno, rfl, rfl⟩⟩
set_option maxRecDepth 100000 in
set_option maxHeartbeats 4000000 in
theorem kx_text1 {sc : Nat × (Nat → Int32)} {s2 s3 s4 s5 s6 s7 s8 s9 s10 s11 : List va_E} (imm : Int32) (Im rowm stkm tpm : Nat → Int32) (Tm : Nat → Value) (I : Nat → Int32) (W : Nat → Nat → Int32) (T : Nat → Value) {e0 : va_E} (h15 : s10[15]? = some e0) (hl : s11.length < 1000) {tp : Nat} (h5 : I 5 = nI tp) (htp : tp ≤ 50) (hy8 : jp_by (W 14) tp) : jb_C sc yX11_text cX11_text 3 (Option.some .int) 53 1 50 [.ref 0, .int 1] [jb_main imm Im Tm rowm stkm tpm, jb_sch13 I W T, s2, s3, s4, s5, s6, s7, s8, s9, s10, s11] (fun r h9 => ∃ I9 T9 row9 tp9, (((jp_al (W 14) tp 1).2.1 = true ∧ (jp_al (W 14) tp 1).1 = tp) ∧ r = some (.int 1) ∧ ∃ f, (∀ j, j < (jp_al (W 14) tp 1).2.2.length → f j = (jp_al (W 14) tp 1).2.2.getD j 0) ∧ h9 = [jb_main imm I9 T9 row9 stkm tp9, jb_sch13 (upd I 5 0) W (va_up T 1 (.ref (121 + s11.length))), s2, s3, s4, s5, s6, s7, s8, s9, s10, (s11 ++ [.inl (0, (jp_al (W 14) tp 1).2.2.length, .inl f)])]) ∨ (¬ ((jp_al (W 14) tp 1).2.1 = true ∧ (jp_al (W 14) tp 1).1 = tp) ∧ r = some (.int (-10 - nI (jp_al (W 14) tp 1).1)) ∧ h9 = [jb_main imm I9 T9 row9 stkm tp9, jb_sch13 (upd I 5 0) W T, s2, s3, s4, s5, s6, s7, s8, s9, s10, s11])) := by
  refine jb_CofJ (ini := false) (by decide +kernel) (fun h => by cases h) (Nat.le_of_ble_eq_true rfl) ?_
  show jb_J sc RX11 cX11_text 3 (Option.some .int) false 53 1 50 0 [some (.ref 0), some (.int 1), none] [] [jb_main imm Im Tm rowm stkm tpm, jb_sch13 I W T, s2, s3, s4, s5, s6, s7, s8, s9, s10, s11] _
  refine jb_iload_n (pc' := 1) dX11_text_0 rfl rfl ?_
  refine jb_iconst (pc' := 2) 0 dX11_text_1 (by decide) rfl ?_
  refine jb_iconst (pc' := 3) 1 dX11_text_2 (by decide) rfl ?_
  refine jb_callS (pc' := 6) (As := [.int 1, .int 0, .int 1]) (a2 := 1) (b2 := 50) wv_X11_74 dX11_text_3 (c_isOutLG 1 0 1 (by omega) (by omega) (by omega)) rfl ⟨by decide, Nat.le_of_eq (Nat.zero_add _), Nat.le_of_eq (Nat.zero_add _)⟩ (Nat.le_of_ble_eq_true rfl) rfl (fun r h9 hq => ?_)
  obtain ⟨rfl, rfl⟩ := hq
  show jb_J _ RX11 cX11_text 3 (Option.some .int) false 53 1 50 6 [some (.ref 0), some (.int 1), none] [.int 0] [jb_main imm Im Tm rowm stkm tpm, jb_sch13 I W T, s2, s3, s4, s5, s6, s7, s8, s9, s10, s11] _
  refine jb_if_eq (tgt := 15) (pc' := 9) dX11_text_6 (by decide) rfl (fun _ => ?_) (fun z => absurd (by decide) z)
  refine jb_aload_n (pc' := 16) dX11_text_15 rfl rfl ?_
  refine gf_X11_10 (pc' := 19) (v := .ref 1) dX11_text_16 rfl rfl rfl ?_
  refine jb_aload_n (pc' := 20) dX11_text_19 rfl rfl ?_
  refine gf_X11_42 (pc' := 23) (v := .ref 13) dX11_text_20 rfl rfl rfl ?_
  refine gf_X11_133 (pc' := 26) (v := .ref 31) dX11_text_23 rfl rfl rfl ?_
  refine jb_aload_n (pc' := 27) dX11_text_26 rfl rfl ?_
  refine gf_X11_42 (pc' := 30) (v := .ref 13) dX11_text_27 rfl rfl rfl ?_
  refine gf_X11_130 (pc' := 33) (v := .int (I 5)) dX11_text_30 rfl rfl rfl ?_
  refine jb_top (v := .int (I 5)) (w := .int (nI tp)) (jb_vI h5) ?_
  refine jb_iload_n (pc' := 34) dX11_text_33 rfl rfl ?_
  refine jb_if_ne (tgt := 42) (pc' := 37) dX11_text_34 (by decide) rfl (fun _ => ?_) (fun z => absurd z (by decide))
  refine jb_ldcS (pc' := 44) (k := 1000003) (Or.inr (Or.inr ⟨rfl, rfl, rfl⟩)) dX11_text_42 rfl ?_
  refine jb_callV (pc' := 47) (ci := 8) (q := 1) (As := [.ref 31, .int (nI tp), .ref 1000003]) (a2 := 0) (b2 := 0) wv_X11_140 rfl dX11_text_44 (c_read imm Im rowm stkm tpm Tm I W T h15 hl (n := tp) (u := 1) htp (by decide) hy8) rfl rfl ⟨by decide, by decide, by decide⟩ (Nat.le_of_ble_eq_true rfl) rfl (fun r h9 hq => ?_)
  rcases hq with ⟨I9, T9, row9, tp9, ⟨hok, rfl, f9, hf9, rfl⟩ | ⟨hno, rfl, ha9, rfl⟩⟩
  · show jb_J _ RX11 cX11_text 3 (Option.some .int) false 53 0 0 47 [some (.ref 0), some (.int 1), none] [.ref (121 + s11.length)] [jb_main imm I9 T9 row9 stkm tp9, jb_sch13 I W T, s2, s3, s4, s5, s6, s7, s8, s9, s10, (s11 ++ [.inl (0, (jp_al (W 14) tp 1).2.2.length, .inl f9)])] _
    refine jb_astore_n_ (pc' := 48) dX11_text_47 (by decide) (jb_at2 rfl) rfl ?_
    refine jb_aload_n (pc' := 49) dX11_text_48 rfl rfl ?_
    refine gf_X11_42 (pc' := 52) (v := .ref 13) dX11_text_49 rfl rfl rfl ?_
    refine jb_iconst (pc' := 53) 0 dX11_text_52 (by decide) rfl ?_
    refine pf_X11_130 (pc' := 56) (h' := [jb_main imm I9 T9 row9 stkm tp9, jb_sch13 (upd I 5 0) W T, s2, s3, s4, s5, s6, s7, s8, s9, s10, (s11 ++ [.inl (0, (jp_al (W 14) tp 1).2.2.length, .inl f9)])]) dX11_text_53 (fun _ => ⟨rfl, rfl⟩) rfl (Nat.le_of_ble_eq_true rfl) rfl rfl ?_
    refine jb_aload_n (pc' := 57) dX11_text_56 rfl rfl ?_
    refine jb_nonnull (pc' := 71) dX11_text_57 (by decide) ?_
    refine jb_iload_n (pc' := 72) dX11_text_71 rfl rfl ?_
    refine jb_if_ne (tgt := 86) (pc' := 75) dX11_text_72 (by decide) rfl (fun _ => ?_) (fun z => absurd z (by decide))
    refine jb_aload_n (pc' := 87) dX11_text_86 rfl rfl ?_
    refine gf_X11_42 (pc' := 90) (v := .ref 13) dX11_text_87 rfl rfl rfl ?_
    refine jb_aload_n (pc' := 91) dX11_text_90 rfl rfl ?_
    refine pf_X11_150 (pc' := 94) (h' := [jb_main imm I9 T9 row9 stkm tp9, jb_sch13 (upd I 5 0) W (va_up T 1 (.ref (121 + s11.length))), s2, s3, s4, s5, s6, s7, s8, s9, s10, (s11 ++ [.inl (0, (jp_al (W 14) tp 1).2.2.length, .inl f9)])]) dX11_text_91 (fun _ => ⟨rfl, rfl⟩) rfl (Nat.le_of_ble_eq_true rfl) rfl rfl ?_
    refine jb_iconst (pc' := 95) 1 dX11_text_94 (by decide) rfl ?_
    refine jb_iret dX11_text_95 rfl ?_
    exact ⟨I9, T9, row9, tp9, Or.inl ⟨hok, rfl, f9, hf9, rfl⟩⟩
  · show jb_J _ RX11 cX11_text 3 (Option.some .int) false 53 0 0 47 [some (.ref 0), some (.int 1), none] [.null] [jb_main imm I9 T9 row9 stkm tp9, jb_sch13 I W T, s2, s3, s4, s5, s6, s7, s8, s9, s10, s11] _
    refine jb_astore0_n_ (pc' := 48) dX11_text_47 (by decide) (jb_at2 rfl) rfl ?_
    refine jb_aload_n (pc' := 49) dX11_text_48 rfl rfl ?_
    refine gf_X11_42 (pc' := 52) (v := .ref 13) dX11_text_49 rfl rfl rfl ?_
    refine jb_iconst (pc' := 53) 0 dX11_text_52 (by decide) rfl ?_
    refine pf_X11_130 (pc' := 56) (h' := [jb_main imm I9 T9 row9 stkm tp9, jb_sch13 (upd I 5 0) W T, s2, s3, s4, s5, s6, s7, s8, s9, s10, s11]) dX11_text_53 (fun _ => ⟨rfl, rfl⟩) rfl (Nat.le_of_ble_eq_true rfl) rfl rfl ?_
    refine jb_aload0_n (pc' := 57) dX11_text_56 rfl rfl ?_
    refine jb_nonnull_f (pc' := 60) dX11_text_57 rfl ?_
    refine jb_bipush (pc' := 62) (-10) dX11_text_60 (by decide) rfl ?_
    refine jb_aload_n (pc' := 63) dX11_text_62 rfl rfl ?_
    refine gf_X11_10 (pc' := 66) (v := .ref 1) dX11_text_63 rfl rfl rfl ?_
    refine gf_X11_144 (pc' := 69) (v := .int (I9 1)) dX11_text_66 rfl rfl rfl ?_
    refine jb_top (v := .int (I9 1)) (w := .int (nI (jp_al (W 14) tp 1).1)) (jb_vI ha9) ?_
    refine jb_isub (pc' := 70) dX11_text_69 rfl ?_
    refine jb_iret dX11_text_70 rfl ?_
    exact ⟨I9, T9, row9, tp9, Or.inr ⟨hno, rfl, rfl⟩⟩
set_option maxRecDepth 100000 in
set_option maxHeartbeats 4000000 in
theorem ke_text {sc : Nat × (Nat → Int32)} {s2 s3 s4 s5 s6 s7 s8 s10 s11 : List va_E} {V : Nat → Nat → Nat} (imm : Int32) (Im rowm stkm tpm : Nat → Int32) (Tm : Nat → Value) (I : Nat → Int32) (W : Nat → Nat → Int32) (T : Nat → Value) (Ia boa era : Nat → Int32) (hr : jr_ V I W) (hk : jv_ok V) (u : Int32) (hb : ¬ jn_b u 0 2) : jb_C sc yX11_text cX11_text 3 (Option.some .int) 1 0 0 [.ref 0, .int u] [jb_main imm Im Tm rowm stkm tpm, jb_sch13 I W T, s2, s3, s4, s5, s6, s7, s8, jb_act Ia boa era, s10, s11] (fun r h9 => r = some (.int (jm_er 1)) ∧ h9 = [jb_main imm Im Tm rowm stkm tpm, jb_sch13 I W T, s2, s3, s4, s5, s6, s7, s8, jb_act Ia boa (jm_ef era 1), s10, s11]) := by
  refine jb_CofJ (ini := false) (by decide +kernel) (fun h => by cases h) (Nat.le_of_ble_eq_true rfl) ?_
  show jb_J sc RX11 cX11_text 3 (Option.some .int) false 1 0 0 0 [some (.ref 0), some (.int u), none] [] [jb_main imm Im Tm rowm stkm tpm, jb_sch13 I W T, s2, s3, s4, s5, s6, s7, s8, jb_act Ia boa era, s10, s11] _
  have hr0 := hr
  have hk0 := hk
  obtain ⟨r0, r2, r3, r4, a0, a1, a2, rv, rs, rd⟩ := hr
  obtain ⟨k0, k1, k2, k3, k4, k5, k6, k7, kv, ks, kd⟩ := hk
  refine jb_iload_n (pc' := 1) dX11_text_0 rfl rfl ?_
  refine jb_iconst (pc' := 2) 0 dX11_text_1 (by decide) rfl ?_
  refine jb_iconst (pc' := 3) 1 dX11_text_2 (by decide) rfl ?_
  refine jb_callS (pc' := 6) (As := [.int u, .int 0, .int 1]) (a2 := 0) (b2 := 0) wv_X11_74 dX11_text_3 (c_isOutL u 0 1 (by omega) (by omega)) rfl ⟨by decide, Nat.le_of_eq (Nat.zero_add _), Nat.le_of_eq (Nat.zero_add _)⟩ (Nat.le_of_ble_eq_true rfl) rfl (fun r h9 hq => ?_)
  rcases hq with ⟨rfl, ⟨o1, rfl⟩ | ⟨o1, rfl⟩⟩
  · show jb_J _ RX11 cX11_text 3 (Option.some .int) false 1 0 0 6 [some (.ref 0), some (.int u), none] [.int 1] [jb_main imm Im Tm rowm stkm tpm, jb_sch13 I W T, s2, s3, s4, s5, s6, s7, s8, jb_act Ia boa era, s10, s11] _
    refine jb_if_eq (tgt := 15) (pc' := 9) dX11_text_6 (by decide) rfl (fun z => absurd z (by decide)) (fun _ => ?_)
    refine jb_aload_n (pc' := 10) dX11_text_9 rfl rfl ?_
    refine jb_iconst (pc' := 11) 1 dX11_text_10 (by decide) rfl ?_
    refine jb_callV (pc' := 14) (ci := 11) (q := 0) (As := [.int 1]) (a2 := 0) (b2 := 0) wv_X11_78 rfl dX11_text_11 (c_error imm Im rowm stkm tpm Tm Ia boa era 1 (by decide)) rfl rfl ⟨by decide, Nat.le_of_eq (Nat.zero_add _), Nat.le_of_eq (Nat.zero_add _)⟩ (Nat.le_of_ble_eq_true rfl) rfl (fun r h9 hq => ?_)
    obtain ⟨rfl, rfl⟩ := hq
    show jb_J _ RX11 cX11_text 3 (Option.some .int) false 1 0 0 14 [some (.ref 0), some (.int u), none] [.int (jm_er 1)] [jb_main imm Im Tm rowm stkm tpm, jb_sch13 I W T, s2, s3, s4, s5, s6, s7, s8, jb_act Ia boa (jm_ef era 1), s10, s11] _
    refine jb_iret dX11_text_14 rfl ?_
    exact ⟨rfl, rfl⟩
  · exact absurd (by assumption) hb
set_option maxRecDepth 100000 in
set_option maxHeartbeats 4000000 in
theorem l_textm0 {sc : Nat × (Nat → Int32)} {s0 s1 s2 s3 s4 s5 s6 s7 s8 s9 s11 : List va_E} (I J d e kp nm : Nat → Int32) (W : Nat → Nat → Int32) (tp : Nat) (htp : tp ≤ 50) (v3 : Int32) : ∀ (k i : Nat) (dc : Nat → Int32), i + k = tp → (∀ k, ¬ k = 8 → ¬ k = 316 → (k < 338 ∨ 338 + i ≤ k) → dc k = d k) ∧ dc 8 = 0 ∧ dc 316 = nI tp ∧ (∀ j, j < i → dc (338 + j) = d (438 + j)) → jb_J sc RX12 cX12_text 5 (Option.some .int) false 39 0 0 71 [some (.ref 105), some (.int 0), some (.int (nI tp)), some (.int v3), some (.int (nI i))] [] [s0, s1, s2, s3, s4, s5, s6, s7, s8, s9, jb_mdl I J dc e kp nm W, s11] (fun r h9 => r = some (.int 1) ∧ ∃ d9, (∀ k, ¬ k = 8 → ¬ k = 316 → (k < 338 ∨ 338 + tp ≤ k) → d9 k = d k) ∧ d9 8 = 0 ∧ d9 316 = nI tp ∧ (∀ j, j < tp → d9 (338 + j) = d (438 + j)) ∧ h9 = [s0, s1, s2, s3, s4, s5, s6, s7, s8, s9, jb_mdl I J d9 e kp nm W, s11]) := by
  intro k
  induction k with
  | zero =>
    intro i dc hi ⟨g1, g8, g2, g3⟩
    obtain rfl : i = tp := by omega
    show jb_J _ RX12 cX12_text 5 (Option.some .int) false 39 0 0 71 [some (.ref 105), some (.int 0), some (.int (nI i)), some (.int v3), some (.int (nI i))] [] [s0, s1, s2, s3, s4, s5, s6, s7, s8, s9, jb_mdl I J dc e kp nm W, s11] _
    refine jb_iload (pc' := 73) dX12_text_71 rfl rfl ?_
    refine jb_iload_n (pc' := 74) dX12_text_73 rfl rfl ?_
    refine jb_icmp_ge (tgt := 110) (pc' := 77) dX12_text_74 (by decide) rfl (fun _ => ?_) (fun z => absurd (nI_le (a := i) (b := i) (by omega) (by omega)) z)
    refine jb_iconst (pc' := 111) 1 dX12_text_110 (by decide) rfl ?_
    refine jb_iret dX12_text_111 rfl ?_
    exact ⟨rfl, dc, g1, g8, g2, g3, rfl⟩
  | succ k ih =>
    intro i dc hi ⟨g1, g8, g2, g3⟩
    show jb_J _ RX12 cX12_text 5 (Option.some .int) false 39 0 0 71 [some (.ref 105), some (.int 0), some (.int (nI tp)), some (.int v3), some (.int (nI i))] [] [s0, s1, s2, s3, s4, s5, s6, s7, s8, s9, jb_mdl I J dc e kp nm W, s11] _
    refine jb_iload (pc' := 73) dX12_text_71 rfl rfl ?_
    refine jb_iload_n (pc' := 74) dX12_text_73 rfl rfl ?_
    refine jb_icmp_ge (tgt := 110) (pc' := 77) dX12_text_74 (by decide) rfl (fun z => absurd z (nI_ge (a := i) (b := tp) (by omega) (by omega))) (fun _ => ?_)
    refine jb_aload_n (pc' := 78) dX12_text_77 rfl rfl ?_
    refine gf_X12_7 (pc' := 81) (v := .ref 106) dX12_text_78 rfl rfl rfl ?_
    refine jb_sipush (pc' := 84) 338 dX12_text_81 (by decide) rfl ?_
    refine jb_bipush (pc' := 86) 50 dX12_text_84 (by decide) rfl ?_
    refine jb_iload_n (pc' := 87) dX12_text_86 rfl rfl ?_
    refine jb_imul (pc' := 88) dX12_text_87 rfl ?_
    refine jb_top (v := .int (50 * 0)) (w := .int 0) (jb_vI (by decide)) ?_
    refine jb_iadd (pc' := 89) dX12_text_88 rfl ?_
    refine jb_top (v := .int (338 + 0)) (w := .int 338) (jb_vI (by decide)) ?_
    refine jb_iload (pc' := 91) dX12_text_89 rfl rfl ?_
    refine jb_iadd (pc' := 92) dX12_text_91 rfl ?_
    refine jb_top (v := .int (338 + (nI i))) (w := .int (nI (338 + i))) (jb_vI (nI_add 338 i)) ?_
    refine jb_aload_n (pc' := 93) dX12_text_92 rfl rfl ?_
    refine gf_X12_7 (pc' := 96) (v := .ref 106) dX12_text_93 rfl rfl rfl ?_
    refine jb_sipush (pc' := 99) 438 dX12_text_96 (by decide) rfl ?_
    refine jb_iload (pc' := 101) dX12_text_99 rfl rfl ?_
    refine jb_iadd (pc' := 102) dX12_text_101 rfl ?_
    refine jb_top (v := .int (438 + (nI i))) (w := .int (nI (438 + i))) (jb_vI (nI_add 438 i)) ?_
    refine jb_iaload (pc' := 103) (i9 := (438 + i)) (f := dc) dX12_text_102 rfl (jb_ix_nI (by omega)) (by omega) rfl ?_
    refine jb_top (v := .int (dc (438 + i))) (w := .int (d (438 + i))) (jb_vI (g1 _ (by omega) (by omega) (by omega))) ?_
    refine jb_iastore (pc' := 104) (i9 := (338 + i)) (f := dc) (h' := [s0, s1, s2, s3, s4, s5, s6, s7, s8, s9, jb_mdl I J (upd dc (338 + i) (d (438 + i))) e kp nm W, s11]) dX12_text_103 rfl (jb_ix_nI (by omega)) (by omega) rfl rfl ?_
    refine jb_iinc_ (pc' := 107) (nI (i + 1)) dX12_text_104 (by decide) rfl (jb_inc i 1) (jb_at4 rfl) rfl ?_
    refine jb_goto (pc' := 71) dX12_text_107 (by decide) ?_
    refine ih (i + 1) (upd dc (338 + i) (d (438 + i))) (by omega) ⟨fun k h1 h2 h3 => ?_, ?_, ?_, fun j hj => ?_⟩
    · rw [jb_une (by omega)]; exact g1 k h1 h2 (by omega)
    · rw [jb_une (by omega)]; exact g8
    · rw [jb_une (by omega)]; exact g2
    · by_cases ej : j = i
      · rw [ej]; exact jb_uee
      · rw [jb_une (by omega)]; exact g3 j (by omega)
set_option maxRecDepth 100000 in
set_option maxHeartbeats 4000000 in
theorem mx_text0 {sc : Nat × (Nat → Int32)} {s0 s1 s2 s3 s4 s5 s6 s7 s8 s9 s11 : List va_E} (I J d e kp nm : Nat → Int32) (W : Nat → Nat → Int32) {tp : Nat} (h8 : d 8 = nI tp) (htp : tp ≤ 50) : jb_C sc yX12_text cX12_text 5 (Option.some .int) 39 0 0 [.ref 105, .int 0] [s0, s1, s2, s3, s4, s5, s6, s7, s8, s9, jb_mdl I J d e kp nm W, s11] (fun r h9 => ∃ J9 d9, (((jp_al (fun k => d (438 + k)) tp 0).2.1 = true ∧ (jp_al (fun k => d (438 + k)) tp 0).1 = tp) ∧ r = some (.int 1) ∧ (∀ k, ¬ k = 8 → ¬ k = 316 → (k < 338 ∨ 338 + tp ≤ k) → d9 k = d k) ∧ d9 8 = 0 ∧ d9 316 = nI tp ∧ (∀ j, j < tp → d9 (338 + j) = d (438 + j)) ∧ h9 = [s0, s1, s2, s3, s4, s5, s6, s7, s8, s9, jb_mdl I J9 d9 e kp nm W, s11]) ∨ (¬ ((jp_al (fun k => d (438 + k)) tp 0).2.1 = true ∧ (jp_al (fun k => d (438 + k)) tp 0).1 = tp) ∧ r = some (.int (-10 - nI (jp_al (fun k => d (438 + k)) tp 0).1)) ∧ d9 = upd d 8 0 ∧ h9 = [s0, s1, s2, s3, s4, s5, s6, s7, s8, s9, jb_mdl I J9 d9 e kp nm W, s11])) := by
  refine jb_CofJ (ini := false) (by decide +kernel) (fun h => by cases h) (Nat.le_of_ble_eq_true rfl) ?_
  show jb_J sc RX12 cX12_text 5 (Option.some .int) false 39 0 0 0 [some (.ref 105), some (.int 0), none, none, none] [] [s0, s1, s2, s3, s4, s5, s6, s7, s8, s9, jb_mdl I J d e kp nm W, s11] _
  have g0 := (jp_al_ok (B := (fun k => d (438 + k))) (n := tp) (u := 0) (Nat.zero_le _)).2.1
  refine jb_iload_n (pc' := 1) dX12_text_0 rfl rfl ?_
  refine jb_i2l (pc' := 2) dX12_text_1 rfl ?_
  refine jb_lconst (pc' := 3) 0 dX12_text_2 (by decide) rfl ?_
  refine jb_lconst (pc' := 4) 1 dX12_text_3 (by decide) rfl ?_
  refine jb_callS (pc' := 7) (As := [.long ((0 : Int32).toInt64), .long 0, .long 1]) (a2 := 0) (b2 := 0) wv_X12_56 dX12_text_4 (c_inLG _ 0 0 1 (by omega) (by omega) (by omega)) rfl ⟨by decide, Nat.le_of_eq (Nat.zero_add _), Nat.le_of_eq (Nat.zero_add _)⟩ (Nat.le_of_ble_eq_true rfl) rfl (fun r h9 hq => ?_)
  obtain ⟨rfl, rfl⟩ := hq
  show jb_J _ RX12 cX12_text 5 (Option.some .int) false 39 0 0 7 [some (.ref 105), some (.int 0), none, none, none] [.int 1] [s0, s1, s2, s3, s4, s5, s6, s7, s8, s9, jb_mdl I J d e kp nm W, s11] _
  refine jb_if_ne (tgt := 16) (pc' := 10) dX12_text_7 (by decide) rfl (fun _ => ?_) (fun z => absurd z (by decide))
  refine jb_aload_n (pc' := 17) dX12_text_16 rfl rfl ?_
  refine gf_X12_7 (pc' := 20) (v := .ref 106) dX12_text_17 rfl rfl rfl ?_
  refine jb_bipush (pc' := 22) 8 dX12_text_20 (by decide) rfl ?_
  refine jb_iaload (pc' := 23) (i9 := 8) (f := d) dX12_text_22 rfl jb_x8 (by decide) rfl ?_
  refine jb_top (v := .int (d 8)) (w := .int (nI tp)) (jb_vI h8) ?_
  refine jb_istore_n_ (pc' := 24) dX12_text_23 (by decide) (jb_at2 rfl) rfl ?_
  refine jb_aload_n (pc' := 25) dX12_text_24 rfl rfl ?_
  refine gf_X12_7 (pc' := 28) (v := .ref 106) dX12_text_25 rfl rfl rfl ?_
  refine jb_bipush (pc' := 30) 8 dX12_text_28 (by decide) rfl ?_
  refine jb_iconst (pc' := 31) 0 dX12_text_30 (by decide) rfl ?_
  refine jb_iastore (pc' := 32) (i9 := 8) (f := d) (h' := [s0, s1, s2, s3, s4, s5, s6, s7, s8, s9, jb_mdl I J (upd d 8 0) e kp nm W, s11]) dX12_text_31 rfl jb_x8 (by decide) rfl rfl ?_
  refine jb_aload_n (pc' := 33) dX12_text_32 rfl rfl ?_
  refine jb_sipush (pc' := 36) 438 dX12_text_33 (by decide) rfl ?_
  refine jb_iload_n (pc' := 37) dX12_text_36 rfl rfl ?_
  refine jb_iload_n (pc' := 38) dX12_text_37 rfl rfl ?_
  refine jb_callV (pc' := 41) (ci := 12) (q := 105) (As := [.int 438, .int (nI tp), .int 0]) (a2 := 0) (b2 := 0) wv_X12_126 rfl dX12_text_38 (c_worked0 I e kp nm W (B := (fun k => d (438 + k))) (base := 438) (n := tp) J (upd d 8 0) (fun k hk => jb_une (by omega)) htp (by decide)) rfl rfl ⟨by decide, Nat.le_of_eq (Nat.zero_add _), Nat.le_of_eq (Nat.zero_add _)⟩ (Nat.le_of_ble_eq_true rfl) rfl (fun r h9 hq => ?_)
  rcases hq with ⟨J9, rfl, ⟨hy1, hb1, hj1, rfl⟩ | ⟨hz1, hj1, v1, rfl⟩⟩
  · show jb_J _ RX12 cX12_text 5 (Option.some .int) false 39 0 0 41 [some (.ref 105), some (.int 0), some (.int (nI tp)), none, none] [.int (jv_ nm (jp_al (fun k => d (438 + k)) tp 0).2.2)] [s0, s1, s2, s3, s4, s5, s6, s7, s8, s9, jb_mdl I J9 (upd d 8 0) e kp nm W, s11] _
    refine jb_istore_n_ (pc' := 42) dX12_text_41 (by decide) (jb_at3 rfl) rfl ?_
    refine jb_aload_n (pc' := 43) dX12_text_42 rfl rfl ?_
    refine gf_X12_69 (pc' := 46) (v := .int (J9 3)) dX12_text_43 rfl rfl rfl ?_
    refine jb_top (v := .int (J9 3)) (w := .int (J9 3)) rfl ?_
    refine jb_if_lt (tgt := 57) (pc' := 49) dX12_text_46 (by decide) rfl (fun _ => ?_) (fun z => absurd (by rw [hj1]; decide) z)
    refine jb_aload_n (pc' := 58) dX12_text_57 rfl rfl ?_
    refine gf_X12_7 (pc' := 61) (v := .ref 106) dX12_text_58 rfl rfl rfl ?_
    refine jb_sipush (pc' := 64) 316 dX12_text_61 (by decide) rfl ?_
    refine jb_iload_n (pc' := 65) dX12_text_64 rfl rfl ?_
    refine jb_iadd (pc' := 66) dX12_text_65 rfl ?_
    refine jb_top (v := .int (316 + 0)) (w := .int 316) (jb_vI (by decide)) ?_
    refine jb_iload_n (pc' := 67) dX12_text_66 rfl rfl ?_
    refine jb_iastore (pc' := 68) (i9 := 316) (f := (upd d 8 0)) (h' := [s0, s1, s2, s3, s4, s5, s6, s7, s8, s9, jb_mdl I J9 (upd (upd d 8 0) 316 (nI tp)) e kp nm W, s11]) dX12_text_67 rfl ⟨by decide, by decide⟩ (by decide) rfl rfl ?_
    refine jb_iconst (pc' := 69) 0 dX12_text_68 (by decide) rfl ?_
    refine jb_istore_ (pc' := 71) dX12_text_69 (by decide) (jb_at4 rfl) rfl ?_
    refine jb_J.mono (l_textm0 I J9 d e kp nm W tp htp _ tp 0 (upd (upd d 8 0) 316 (nI tp)) (by omega) ⟨fun k h1 h2 _ => by rw [jb_une h2, jb_une h1], (jb_une (by decide)).trans jb_uee, jb_uee, fun j hj => absurd hj (by omega)⟩) (Nat.le_refl _) (Nat.le_refl _) (Nat.le_refl _) (fun r h9 hq => ?_)
    obtain ⟨rfl, d7, p1, p8, p2, p3, rfl⟩ := hq
    exact ⟨J9, d7, Or.inl ⟨⟨hy1, hb1⟩, rfl, p1, p8, p2, p3, rfl⟩⟩
  · show jb_J _ RX12 cX12_text 5 (Option.some .int) false 39 0 0 41 [some (.ref 105), some (.int 0), some (.int (nI tp)), none, none] [.int v1] [s0, s1, s2, s3, s4, s5, s6, s7, s8, s9, jb_mdl I J9 (upd d 8 0) e kp nm W, s11] _
    refine jb_istore_n_ (pc' := 42) dX12_text_41 (by decide) (jb_at3 rfl) rfl ?_
    refine jb_aload_n (pc' := 43) dX12_text_42 rfl rfl ?_
    refine gf_X12_69 (pc' := 46) (v := .int (J9 3)) dX12_text_43 rfl rfl rfl ?_
    refine jb_top (v := .int (J9 3)) (w := .int (J9 3)) rfl ?_
    refine jb_if_lt (tgt := 57) (pc' := 49) dX12_text_46 (by decide) rfl (fun z => absurd z (by rw [hj1]; exact nI_pos (n := (jp_al (fun k => d (438 + k)) tp 0).1) (by omega))) (fun _ => ?_)
    refine jb_bipush (pc' := 51) (-10) dX12_text_49 (by decide) rfl ?_
    refine jb_aload_n (pc' := 52) dX12_text_51 rfl rfl ?_
    refine gf_X12_69 (pc' := 55) (v := .int (J9 3)) dX12_text_52 rfl rfl rfl ?_
    refine jb_top (v := .int (J9 3)) (w := .int (J9 3)) rfl ?_
    refine jb_isub (pc' := 56) dX12_text_55 rfl ?_
    refine jb_top (v := .int ((-10) - (J9 3))) (w := .int ((-10) - nI (jp_al (fun k => d (438 + k)) tp 0).1)) (jb_vI (by rw [hj1])) ?_
    refine jb_iret dX12_text_56 rfl ?_
    exact ⟨J9, upd d 8 0, Or.inr ⟨hz1, rfl, rfl, rfl⟩⟩
set_option maxRecDepth 100000 in
set_option maxHeartbeats 4000000 in
theorem l_textm1 {sc : Nat × (Nat → Int32)} {s0 s1 s2 s3 s4 s5 s6 s7 s8 s9 s11 : List va_E} (I J d e kp nm : Nat → Int32) (W : Nat → Nat → Int32) (tp : Nat) (htp : tp ≤ 50) (v3 : Int32) : ∀ (k i : Nat) (dc : Nat → Int32), i + k = tp → (∀ k, ¬ k = 8 → ¬ k = 317 → (k < 388 ∨ 388 + i ≤ k) → dc k = d k) ∧ dc 8 = 0 ∧ dc 317 = nI tp ∧ (∀ j, j < i → dc (388 + j) = d (438 + j)) → jb_J sc RX12 cX12_text 5 (Option.some .int) false 39 0 0 71 [some (.ref 105), some (.int 1), some (.int (nI tp)), some (.int v3), some (.int (nI i))] [] [s0, s1, s2, s3, s4, s5, s6, s7, s8, s9, jb_mdl I J dc e kp nm W, s11] (fun r h9 => r = some (.int 1) ∧ ∃ d9, (∀ k, ¬ k = 8 → ¬ k = 317 → (k < 388 ∨ 388 + tp ≤ k) → d9 k = d k) ∧ d9 8 = 0 ∧ d9 317 = nI tp ∧ (∀ j, j < tp → d9 (388 + j) = d (438 + j)) ∧ h9 = [s0, s1, s2, s3, s4, s5, s6, s7, s8, s9, jb_mdl I J d9 e kp nm W, s11]) := by
  intro k
  induction k with
  | zero =>
    intro i dc hi ⟨g1, g8, g2, g3⟩
    obtain rfl : i = tp := by omega
    show jb_J _ RX12 cX12_text 5 (Option.some .int) false 39 0 0 71 [some (.ref 105), some (.int 1), some (.int (nI i)), some (.int v3), some (.int (nI i))] [] [s0, s1, s2, s3, s4, s5, s6, s7, s8, s9, jb_mdl I J dc e kp nm W, s11] _
    refine jb_iload (pc' := 73) dX12_text_71 rfl rfl ?_
    refine jb_iload_n (pc' := 74) dX12_text_73 rfl rfl ?_
    refine jb_icmp_ge (tgt := 110) (pc' := 77) dX12_text_74 (by decide) rfl (fun _ => ?_) (fun z => absurd (nI_le (a := i) (b := i) (by omega) (by omega)) z)
    refine jb_iconst (pc' := 111) 1 dX12_text_110 (by decide) rfl ?_
    refine jb_iret dX12_text_111 rfl ?_
    exact ⟨rfl, dc, g1, g8, g2, g3, rfl⟩
  | succ k ih =>
    intro i dc hi ⟨g1, g8, g2, g3⟩
    show jb_J _ RX12 cX12_text 5 (Option.some .int) false 39 0 0 71 [some (.ref 105), some (.int 1), some (.int (nI tp)), some (.int v3), some (.int (nI i))] [] [s0, s1, s2, s3, s4, s5, s6, s7, s8, s9, jb_mdl I J dc e kp nm W, s11] _
    refine jb_iload (pc' := 73) dX12_text_71 rfl rfl ?_
    refine jb_iload_n (pc' := 74) dX12_text_73 rfl rfl ?_
    refine jb_icmp_ge (tgt := 110) (pc' := 77) dX12_text_74 (by decide) rfl (fun z => absurd z (nI_ge (a := i) (b := tp) (by omega) (by omega))) (fun _ => ?_)
    refine jb_aload_n (pc' := 78) dX12_text_77 rfl rfl ?_
    refine gf_X12_7 (pc' := 81) (v := .ref 106) dX12_text_78 rfl rfl rfl ?_
    refine jb_sipush (pc' := 84) 338 dX12_text_81 (by decide) rfl ?_
    refine jb_bipush (pc' := 86) 50 dX12_text_84 (by decide) rfl ?_
    refine jb_iload_n (pc' := 87) dX12_text_86 rfl rfl ?_
    refine jb_imul (pc' := 88) dX12_text_87 rfl ?_
    refine jb_top (v := .int (50 * 1)) (w := .int 50) (jb_vI (by decide)) ?_
    refine jb_iadd (pc' := 89) dX12_text_88 rfl ?_
    refine jb_top (v := .int (338 + 50)) (w := .int 388) (jb_vI (by decide)) ?_
    refine jb_iload (pc' := 91) dX12_text_89 rfl rfl ?_
    refine jb_iadd (pc' := 92) dX12_text_91 rfl ?_
    refine jb_top (v := .int (388 + (nI i))) (w := .int (nI (388 + i))) (jb_vI (nI_add 388 i)) ?_
    refine jb_aload_n (pc' := 93) dX12_text_92 rfl rfl ?_
    refine gf_X12_7 (pc' := 96) (v := .ref 106) dX12_text_93 rfl rfl rfl ?_
    refine jb_sipush (pc' := 99) 438 dX12_text_96 (by decide) rfl ?_
    refine jb_iload (pc' := 101) dX12_text_99 rfl rfl ?_
    refine jb_iadd (pc' := 102) dX12_text_101 rfl ?_
    refine jb_top (v := .int (438 + (nI i))) (w := .int (nI (438 + i))) (jb_vI (nI_add 438 i)) ?_
    refine jb_iaload (pc' := 103) (i9 := (438 + i)) (f := dc) dX12_text_102 rfl (jb_ix_nI (by omega)) (by omega) rfl ?_
    refine jb_top (v := .int (dc (438 + i))) (w := .int (d (438 + i))) (jb_vI (g1 _ (by omega) (by omega) (by omega))) ?_
    refine jb_iastore (pc' := 104) (i9 := (388 + i)) (f := dc) (h' := [s0, s1, s2, s3, s4, s5, s6, s7, s8, s9, jb_mdl I J (upd dc (388 + i) (d (438 + i))) e kp nm W, s11]) dX12_text_103 rfl (jb_ix_nI (by omega)) (by omega) rfl rfl ?_
    refine jb_iinc_ (pc' := 107) (nI (i + 1)) dX12_text_104 (by decide) rfl (jb_inc i 1) (jb_at4 rfl) rfl ?_
    refine jb_goto (pc' := 71) dX12_text_107 (by decide) ?_
    refine ih (i + 1) (upd dc (388 + i) (d (438 + i))) (by omega) ⟨fun k h1 h2 h3 => ?_, ?_, ?_, fun j hj => ?_⟩
    · rw [jb_une (by omega)]; exact g1 k h1 h2 (by omega)
    · rw [jb_une (by omega)]; exact g8
    · rw [jb_une (by omega)]; exact g2
    · by_cases ej : j = i
      · rw [ej]; exact jb_uee
      · rw [jb_une (by omega)]; exact g3 j (by omega)
set_option maxRecDepth 100000 in
set_option maxHeartbeats 4000000 in
theorem mx_text1 {sc : Nat × (Nat → Int32)} {s0 s1 s2 s3 s4 s5 s6 s7 s8 s9 s11 : List va_E} (I J d e kp nm : Nat → Int32) (W : Nat → Nat → Int32) {tp : Nat} (h8 : d 8 = nI tp) (htp : tp ≤ 50) : jb_C sc yX12_text cX12_text 5 (Option.some .int) 39 0 0 [.ref 105, .int 1] [s0, s1, s2, s3, s4, s5, s6, s7, s8, s9, jb_mdl I J d e kp nm W, s11] (fun r h9 => ∃ J9 d9, (((jp_al (fun k => d (438 + k)) tp 1).2.1 = true ∧ (jp_al (fun k => d (438 + k)) tp 1).1 = tp) ∧ r = some (.int 1) ∧ (∀ k, ¬ k = 8 → ¬ k = 317 → (k < 388 ∨ 388 + tp ≤ k) → d9 k = d k) ∧ d9 8 = 0 ∧ d9 317 = nI tp ∧ (∀ j, j < tp → d9 (388 + j) = d (438 + j)) ∧ h9 = [s0, s1, s2, s3, s4, s5, s6, s7, s8, s9, jb_mdl I J9 d9 e kp nm W, s11]) ∨ (¬ ((jp_al (fun k => d (438 + k)) tp 1).2.1 = true ∧ (jp_al (fun k => d (438 + k)) tp 1).1 = tp) ∧ r = some (.int (-10 - nI (jp_al (fun k => d (438 + k)) tp 1).1)) ∧ d9 = upd d 8 0 ∧ h9 = [s0, s1, s2, s3, s4, s5, s6, s7, s8, s9, jb_mdl I J9 d9 e kp nm W, s11])) := by
  refine jb_CofJ (ini := false) (by decide +kernel) (fun h => by cases h) (Nat.le_of_ble_eq_true rfl) ?_
  show jb_J sc RX12 cX12_text 5 (Option.some .int) false 39 0 0 0 [some (.ref 105), some (.int 1), none, none, none] [] [s0, s1, s2, s3, s4, s5, s6, s7, s8, s9, jb_mdl I J d e kp nm W, s11] _
  have g0 := (jp_al_ok (B := (fun k => d (438 + k))) (n := tp) (u := 1) (Nat.zero_le _)).2.1
  refine jb_iload_n (pc' := 1) dX12_text_0 rfl rfl ?_
  refine jb_i2l (pc' := 2) dX12_text_1 rfl ?_
  refine jb_lconst (pc' := 3) 0 dX12_text_2 (by decide) rfl ?_
  refine jb_lconst (pc' := 4) 1 dX12_text_3 (by decide) rfl ?_
  refine jb_callS (pc' := 7) (As := [.long ((1 : Int32).toInt64), .long 0, .long 1]) (a2 := 0) (b2 := 0) wv_X12_56 dX12_text_4 (c_inLG _ 1 0 1 (by omega) (by omega) (by omega)) rfl ⟨by decide, Nat.le_of_eq (Nat.zero_add _), Nat.le_of_eq (Nat.zero_add _)⟩ (Nat.le_of_ble_eq_true rfl) rfl (fun r h9 hq => ?_)
  obtain ⟨rfl, rfl⟩ := hq
  show jb_J _ RX12 cX12_text 5 (Option.some .int) false 39 0 0 7 [some (.ref 105), some (.int 1), none, none, none] [.int 1] [s0, s1, s2, s3, s4, s5, s6, s7, s8, s9, jb_mdl I J d e kp nm W, s11] _
  refine jb_if_ne (tgt := 16) (pc' := 10) dX12_text_7 (by decide) rfl (fun _ => ?_) (fun z => absurd z (by decide))
  refine jb_aload_n (pc' := 17) dX12_text_16 rfl rfl ?_
  refine gf_X12_7 (pc' := 20) (v := .ref 106) dX12_text_17 rfl rfl rfl ?_
  refine jb_bipush (pc' := 22) 8 dX12_text_20 (by decide) rfl ?_
  refine jb_iaload (pc' := 23) (i9 := 8) (f := d) dX12_text_22 rfl jb_x8 (by decide) rfl ?_
  refine jb_top (v := .int (d 8)) (w := .int (nI tp)) (jb_vI h8) ?_
  refine jb_istore_n_ (pc' := 24) dX12_text_23 (by decide) (jb_at2 rfl) rfl ?_
  refine jb_aload_n (pc' := 25) dX12_text_24 rfl rfl ?_
  refine gf_X12_7 (pc' := 28) (v := .ref 106) dX12_text_25 rfl rfl rfl ?_
  refine jb_bipush (pc' := 30) 8 dX12_text_28 (by decide) rfl ?_
  refine jb_iconst (pc' := 31) 0 dX12_text_30 (by decide) rfl ?_
  refine jb_iastore (pc' := 32) (i9 := 8) (f := d) (h' := [s0, s1, s2, s3, s4, s5, s6, s7, s8, s9, jb_mdl I J (upd d 8 0) e kp nm W, s11]) dX12_text_31 rfl jb_x8 (by decide) rfl rfl ?_
  refine jb_aload_n (pc' := 33) dX12_text_32 rfl rfl ?_
  refine jb_sipush (pc' := 36) 438 dX12_text_33 (by decide) rfl ?_
  refine jb_iload_n (pc' := 37) dX12_text_36 rfl rfl ?_
  refine jb_iload_n (pc' := 38) dX12_text_37 rfl rfl ?_
  refine jb_callV (pc' := 41) (ci := 12) (q := 105) (As := [.int 438, .int (nI tp), .int 1]) (a2 := 0) (b2 := 0) wv_X12_126 rfl dX12_text_38 (c_worked1 I e kp nm W (B := (fun k => d (438 + k))) (base := 438) (n := tp) J (upd d 8 0) (fun k hk => jb_une (by omega)) htp (by decide)) rfl rfl ⟨by decide, Nat.le_of_eq (Nat.zero_add _), Nat.le_of_eq (Nat.zero_add _)⟩ (Nat.le_of_ble_eq_true rfl) rfl (fun r h9 hq => ?_)
  rcases hq with ⟨J9, rfl, ⟨hy1, hb1, hj1, rfl⟩ | ⟨hz1, hj1, v1, rfl⟩⟩
  · show jb_J _ RX12 cX12_text 5 (Option.some .int) false 39 0 0 41 [some (.ref 105), some (.int 1), some (.int (nI tp)), none, none] [.int (jv_ nm (jp_al (fun k => d (438 + k)) tp 1).2.2)] [s0, s1, s2, s3, s4, s5, s6, s7, s8, s9, jb_mdl I J9 (upd d 8 0) e kp nm W, s11] _
    refine jb_istore_n_ (pc' := 42) dX12_text_41 (by decide) (jb_at3 rfl) rfl ?_
    refine jb_aload_n (pc' := 43) dX12_text_42 rfl rfl ?_
    refine gf_X12_69 (pc' := 46) (v := .int (J9 3)) dX12_text_43 rfl rfl rfl ?_
    refine jb_top (v := .int (J9 3)) (w := .int (J9 3)) rfl ?_
    refine jb_if_lt (tgt := 57) (pc' := 49) dX12_text_46 (by decide) rfl (fun _ => ?_) (fun z => absurd (by rw [hj1]; decide) z)
    refine jb_aload_n (pc' := 58) dX12_text_57 rfl rfl ?_
    refine gf_X12_7 (pc' := 61) (v := .ref 106) dX12_text_58 rfl rfl rfl ?_
    refine jb_sipush (pc' := 64) 316 dX12_text_61 (by decide) rfl ?_
    refine jb_iload_n (pc' := 65) dX12_text_64 rfl rfl ?_
    refine jb_iadd (pc' := 66) dX12_text_65 rfl ?_
    refine jb_top (v := .int (316 + 1)) (w := .int 317) (jb_vI (by decide)) ?_
    refine jb_iload_n (pc' := 67) dX12_text_66 rfl rfl ?_
    refine jb_iastore (pc' := 68) (i9 := 317) (f := (upd d 8 0)) (h' := [s0, s1, s2, s3, s4, s5, s6, s7, s8, s9, jb_mdl I J9 (upd (upd d 8 0) 317 (nI tp)) e kp nm W, s11]) dX12_text_67 rfl ⟨by decide, by decide⟩ (by decide) rfl rfl ?_
    refine jb_iconst (pc' := 69) 0 dX12_text_68 (by decide) rfl ?_
    refine jb_istore_ (pc' := 71) dX12_text_69 (by decide) (jb_at4 rfl) rfl ?_
    refine jb_J.mono (l_textm1 I J9 d e kp nm W tp htp _ tp 0 (upd (upd d 8 0) 317 (nI tp)) (by omega) ⟨fun k h1 h2 _ => by rw [jb_une h2, jb_une h1], (jb_une (by decide)).trans jb_uee, jb_uee, fun j hj => absurd hj (by omega)⟩) (Nat.le_refl _) (Nat.le_refl _) (Nat.le_refl _) (fun r h9 hq => ?_)
    obtain ⟨rfl, d7, p1, p8, p2, p3, rfl⟩ := hq
    exact ⟨J9, d7, Or.inl ⟨⟨hy1, hb1⟩, rfl, p1, p8, p2, p3, rfl⟩⟩
  · show jb_J _ RX12 cX12_text 5 (Option.some .int) false 39 0 0 41 [some (.ref 105), some (.int 1), some (.int (nI tp)), none, none] [.int v1] [s0, s1, s2, s3, s4, s5, s6, s7, s8, s9, jb_mdl I J9 (upd d 8 0) e kp nm W, s11] _
    refine jb_istore_n_ (pc' := 42) dX12_text_41 (by decide) (jb_at3 rfl) rfl ?_
    refine jb_aload_n (pc' := 43) dX12_text_42 rfl rfl ?_
    refine gf_X12_69 (pc' := 46) (v := .int (J9 3)) dX12_text_43 rfl rfl rfl ?_
    refine jb_top (v := .int (J9 3)) (w := .int (J9 3)) rfl ?_
    refine jb_if_lt (tgt := 57) (pc' := 49) dX12_text_46 (by decide) rfl (fun z => absurd z (by rw [hj1]; exact nI_pos (n := (jp_al (fun k => d (438 + k)) tp 1).1) (by omega))) (fun _ => ?_)
    refine jb_bipush (pc' := 51) (-10) dX12_text_49 (by decide) rfl ?_
    refine jb_aload_n (pc' := 52) dX12_text_51 rfl rfl ?_
    refine gf_X12_69 (pc' := 55) (v := .int (J9 3)) dX12_text_52 rfl rfl rfl ?_
    refine jb_top (v := .int (J9 3)) (w := .int (J9 3)) rfl ?_
    refine jb_isub (pc' := 56) dX12_text_55 rfl ?_
    refine jb_top (v := .int ((-10) - (J9 3))) (w := .int ((-10) - nI (jp_al (fun k => d (438 + k)) tp 1).1)) (jb_vI (by rw [hj1])) ?_
    refine jb_iret dX12_text_56 rfl ?_
    exact ⟨J9, upd d 8 0, Or.inr ⟨hz1, rfl, rfl, rfl⟩⟩
set_option maxRecDepth 100000 in
set_option maxHeartbeats 4000000 in
theorem me_text {sc : Nat × (Nat → Int32)} {s0 s1 s2 s3 s4 s5 s6 s7 s8 s9 s11 : List va_E} {V : Nat → Nat → Nat} (I J d e kp nm : Nat → Int32) (W : Nat → Nat → Int32) (hd : jd_ V d) (hk : jv_ok V) (u : Int32) (hb : ¬ jn_b u 0 2) : jb_C sc yX12_text cX12_text 5 (Option.some .int) 1 0 0 [.ref 105, .int u] [s0, s1, s2, s3, s4, s5, s6, s7, s8, s9, jb_mdl I J d e kp nm W, s11] (fun r h9 => r = some (.int (jm_er 1)) ∧ h9 = [s0, s1, s2, s3, s4, s5, s6, s7, s8, s9, jb_mdl I J d e kp nm (va_up W 0 (jm_ef (W 0) 1)), s11]) := by
  refine jb_CofJ (ini := false) (by decide +kernel) (fun h => by cases h) (Nat.le_of_ble_eq_true rfl) ?_
  show jb_J sc RX12 cX12_text 5 (Option.some .int) false 1 0 0 0 [some (.ref 105), some (.int u), none, none, none] [] [s0, s1, s2, s3, s4, s5, s6, s7, s8, s9, jb_mdl I J d e kp nm W, s11] _
  have hd0 := hd
  have hk0 := hk
  obtain ⟨e0, e1, e2, e3, e4, e5, e6, dv, ds, dd⟩ := hd
  obtain ⟨k0, k1, k2, k3, k4, k5, k6, k7, kv, ks, kd⟩ := hk
  refine jb_iload_n (pc' := 1) dX12_text_0 rfl rfl ?_
  refine jb_i2l (pc' := 2) dX12_text_1 rfl ?_
  refine jb_lconst (pc' := 3) 0 dX12_text_2 (by decide) rfl ?_
  refine jb_lconst (pc' := 4) 1 dX12_text_3 (by decide) rfl ?_
  refine jb_callS (pc' := 7) (As := [.long u.toInt64, .long 0, .long 1]) (a2 := 0) (b2 := 0) wv_X12_56 dX12_text_4 (c_inL _ u 0 1 (by omega) (by omega)) rfl ⟨by decide, Nat.le_of_eq (Nat.zero_add _), Nat.le_of_eq (Nat.zero_add _)⟩ (Nat.le_of_ble_eq_true rfl) rfl (fun r h9 hq => ?_)
  rcases hq with ⟨rfl, ⟨o1, rfl⟩ | ⟨o1, rfl⟩⟩
  · exact absurd (by assumption) hb
  · show jb_J _ RX12 cX12_text 5 (Option.some .int) false 1 0 0 7 [some (.ref 105), some (.int u), none, none, none] [.int 0] [s0, s1, s2, s3, s4, s5, s6, s7, s8, s9, jb_mdl I J d e kp nm W, s11] _
    refine jb_if_ne (tgt := 16) (pc' := 10) dX12_text_7 (by decide) rfl (fun z => absurd (by decide) z) (fun _ => ?_)
    refine jb_aload_n (pc' := 11) dX12_text_10 rfl rfl ?_
    refine jb_iconst (pc' := 12) 1 dX12_text_11 (by decide) rfl ?_
    refine jb_callV (pc' := 15) (ci := 12) (q := 105) (As := [.int 1]) (a2 := 0) (b2 := 0) wv_X12_121 rfl dX12_text_12 (c_finds I J d e kp nm W 1 (by decide)) rfl rfl ⟨by decide, Nat.le_of_eq (Nat.zero_add _), Nat.le_of_eq (Nat.zero_add _)⟩ (Nat.le_of_ble_eq_true rfl) rfl (fun r h9 hq => ?_)
    obtain ⟨rfl, rfl⟩ := hq
    show jb_J _ RX12 cX12_text 5 (Option.some .int) false 1 0 0 15 [some (.ref 105), some (.int u), none, none, none] [.int (jm_er 1)] [s0, s1, s2, s3, s4, s5, s6, s7, s8, s9, jb_mdl I J d e kp nm (va_up W 0 (jm_ef (W 0) 1)), s11] _
    refine jb_iret dX12_text_15 rfl ?_
    exact ⟨rfl, rfl⟩
set_option maxRecDepth 100000 in
set_option maxHeartbeats 4000000 in
theorem l_often {sc : Nat × (Nat → Int32)} {s1 s2 s3 s4 s5 s6 s7 s8 s10 s11 : List va_E} (imm : Int32) (Im rowm stkm tpm : Nat → Int32) (Tm : Nat → Value) (Ia boa era : Nat → Int32) (nn : Nat) (hnn : nn < 100000) (c9 : Int32) (x1 x2 : Option Value) : ∀ (k t9 : Nat) (l9 a9 : Int64), t9 + k = 13 → jb_J sc RX11 cX11_often 10 (Option.some .int) false 6 0 0 57 [some (.ref 0), x1, x2, some (.int (nI nn)), some (.int c9), some (.long l9), none, some (.long a9), none, some (.int (nI t9))] [] [jb_main imm Im Tm rowm stkm tpm, s1, s2, s3, s4, s5, s6, s7, s8, jb_act Ia boa era, s10, s11] (fun r h9 => (jm_of c9.toInt64 (nI nn).toInt64 k t9 l9 a9 = none ∧ r = some (.int (jm_er 2)) ∧ h9 = [jb_main imm Im Tm rowm stkm tpm, s1, s2, s3, s4, s5, s6, s7, s8, jb_act Ia boa (jm_ef era 2), s10, s11]) ∨ (∃ q, jm_of c9.toInt64 (nI nn).toInt64 k t9 l9 a9 = some q ∧ r = some (.int (nI q)) ∧ h9 = [jb_main imm Im Tm rowm stkm tpm, s1, s2, s3, s4, s5, s6, s7, s8, jb_act Ia boa era, s10, s11])) := by
  intro k
  induction k with
  | zero =>
    intro t9 l9 a9 hk
    show jb_J _ RX11 cX11_often 10 (Option.some .int) false 6 0 0 57 [some (.ref 0), x1, x2, some (.int (nI nn)), some (.int c9), some (.long l9), none, some (.long a9), none, some (.int (nI t9))] [] [jb_main imm Im Tm rowm stkm tpm, s1, s2, s3, s4, s5, s6, s7, s8, jb_act Ia boa era, s10, s11] _
    refine jb_iload (pc' := 59) dX11_often_57 rfl rfl ?_
    refine jb_bipush (pc' := 61) 12 dX11_often_59 (by decide) rfl ?_
    refine jb_icmp_gt (tgt := 100) (pc' := 64) dX11_often_61 (by decide) rfl (fun _ => ?_) (fun z => absurd (nI_lt (a := 12) (b := t9) (by omega) (by omega)) z)
    refine jb_aload_n (pc' := 101) dX11_often_100 rfl rfl ?_
    refine jb_iconst (pc' := 102) 2 dX11_often_101 (by decide) rfl ?_
    refine jb_callV (pc' := 105) (ci := 11) (q := 0) (As := [.int 2]) (a2 := 0) (b2 := 0) wv_X11_78 rfl dX11_often_102 (c_error imm Im rowm stkm tpm Tm Ia boa era 2 (by decide)) rfl rfl ⟨by decide, Nat.le_of_eq (Nat.zero_add _), Nat.le_of_eq (Nat.zero_add _)⟩ (Nat.le_of_ble_eq_true rfl) rfl (fun r h9 hq => ?_)
    obtain ⟨rfl, rfl⟩ := hq
    show jb_J _ RX11 cX11_often 10 (Option.some .int) false 6 0 0 105 [some (.ref 0), x1, x2, some (.int (nI nn)), some (.int c9), some (.long l9), none, some (.long a9), none, some (.int (nI t9))] [.int (jm_er 2)] [jb_main imm Im Tm rowm stkm tpm, s1, s2, s3, s4, s5, s6, s7, s8, jb_act Ia boa (jm_ef era 2), s10, s11] _
    refine jb_iret dX11_often_105 rfl ?_
    exact Or.inl ⟨rfl, rfl, rfl⟩
  | succ k ih =>
    intro t9 l9 a9 hk
    show jb_J _ RX11 cX11_often 10 (Option.some .int) false 6 0 0 57 [some (.ref 0), x1, x2, some (.int (nI nn)), some (.int c9), some (.long l9), none, some (.long a9), none, some (.int (nI t9))] [] [jb_main imm Im Tm rowm stkm tpm, s1, s2, s3, s4, s5, s6, s7, s8, jb_act Ia boa era, s10, s11] _
    refine jb_iload (pc' := 59) dX11_often_57 rfl rfl ?_
    refine jb_bipush (pc' := 61) 12 dX11_often_59 (by decide) rfl ?_
    refine jb_icmp_gt (tgt := 100) (pc' := 64) dX11_often_61 (by decide) rfl (fun z => absurd z (nI_nlt (a := 12) (b := t9) (by omega) (by omega))) (fun _ => ?_)
    refine jb_lload (pc' := 66) dX11_often_64 rfl rfl ?_
    refine jb_iload (pc' := 68) dX11_often_66 rfl rfl ?_
    refine jb_i2l (pc' := 69) dX11_often_68 rfl ?_
    refine jb_lmul (pc' := 70) dX11_often_69 rfl ?_
    refine jb_lstore_ (pc' := 72) dX11_often_70 (by decide) (jb_lt5 rfl) rfl ?_
    refine jb_lload (pc' := 74) dX11_often_72 rfl rfl ?_
    refine jb_ldc2 (pc' := 77) 10 dX11_often_74 wk_X11_197 rfl ?_
    refine jb_lmul (pc' := 78) dX11_often_77 rfl ?_
    refine jb_lstore_ (pc' := 80) dX11_often_78 (by decide) (jb_lt7 rfl) rfl ?_
    refine jb_lload (pc' := 82) dX11_often_80 rfl rfl ?_
    refine jb_iload_n (pc' := 83) dX11_often_82 rfl rfl ?_
    refine jb_i2l (pc' := 84) dX11_often_83 rfl ?_
    refine jb_lmul (pc' := 85) dX11_often_84 rfl ?_
    refine jb_lload (pc' := 87) dX11_often_85 rfl rfl ?_
    refine jb_lcmp (pc' := 88) dX11_often_87 rfl ?_
    refine jb_if_gt (tgt := 94) (pc' := 91) dX11_often_88 (by decide) rfl (fun hcc => ?_) (fun hcc => ?_)
    · refine jb_iinc_ (pc' := 97) (nI (t9 + 1)) dX11_often_94 (by decide) rfl (jb_inc t9 1) (jb_at9 rfl) rfl ?_
      refine jb_goto (pc' := 57) dX11_often_97 (by decide) ?_
      have e9 : jm_of c9.toInt64 (nI nn).toInt64 (k + 1) t9 l9 a9 = jm_of c9.toInt64 (nI nn).toInt64 k (t9 + 1) (l9 * c9.toInt64) (a9 * 10) := if_pos (jl_gt.mp hcc)
      rw [e9]
      exact ih (t9 + 1) (l9 * c9.toInt64) (a9 * 10) (by omega)
    · refine jb_iload (pc' := 93) dX11_often_91 rfl rfl ?_
      refine jb_iret dX11_often_93 rfl ?_
      have e9 : jm_of c9.toInt64 (nI nn).toInt64 (k + 1) t9 l9 a9 = some t9 := if_neg (fun z => hcc (jl_gt.mpr z))
      exact Or.inr ⟨t9, e9, rfl, rfl⟩
set_option maxRecDepth 100000 in
set_option maxHeartbeats 4000000 in
theorem kx_often {sc : Nat × (Nat → Int32)} {s2 s3 s4 s5 s6 s7 s8 s10 s11 : List va_E} {V : Nat → Nat → Nat} (imm : Int32) (Im rowm stkm tpm : Nat → Int32) (Tm : Nat → Value) (I : Nat → Int32) (W : Nat → Nat → Int32) (T : Nat → Value) (Ia boa era : Nat → Int32) (hr : jr_ V I W) (hk : jv_ok V) (p : Nat) (hp : p < V 0 1) (w : Nat) (hw : w < 40) (nn : Nat) (h2 : 2 ≤ nn) (h9 : nn ≤ 99999) {G : jm_G} (hG : jm_Gok G) (hg : jG13 sc T s11 G) : jb_C sc yX11_often cX11_often 10 (Option.some .int) 6 0 0 [.ref 0, .int (nI p), .int (nI w), .int (nI nn)] [jb_main imm Im Tm rowm stkm tpm, jb_sch13 I W T, s2, s3, s4, s5, s6, s7, s8, jb_act Ia boa era, s10, s11] (fun r h9 => ∃ stk9, (jm_of (10 - jm_ca V G p w).toInt64 (nI nn).toInt64 12 1 1 1 = none ∧ r = some (.int (jm_er 2)) ∧ h9 = [jb_main imm Im Tm rowm stk9 tpm, jb_sch13 I W T, s2, s3, s4, s5, s6, s7, s8, jb_act Ia boa (jm_ef era 2), s10, s11]) ∨ (∃ q, jm_of (10 - jm_ca V G p w).toInt64 (nI nn).toInt64 12 1 1 1 = some q ∧ r = some (.int (nI q)) ∧ h9 = [jb_main imm Im Tm rowm stk9 tpm, jb_sch13 I W T, s2, s3, s4, s5, s6, s7, s8, jb_act Ia boa era, s10, s11])) := by
  refine jb_CofJ (ini := false) (by decide +kernel) (fun h => by cases h) (Nat.le_of_ble_eq_true rfl) ?_
  show jb_J sc RX11 cX11_often 10 (Option.some .int) false 6 0 0 0 [some (.ref 0), some (.int (nI p)), some (.int (nI w)), some (.int (nI nn)), none, none, none, none, none, none] [] [jb_main imm Im Tm rowm stkm tpm, jb_sch13 I W T, s2, s3, s4, s5, s6, s7, s8, jb_act Ia boa era, s10, s11] _
  have hr0 := hr
  have hk0 := hk
  obtain ⟨r0, r2, r3, r4, a0, a1, a2, rv, rs, rd⟩ := hr
  obtain ⟨k0, k1, k2, k3, k4, k5, k6, k7, kv, ks, kd⟩ := hk
  refine jb_aload_n (pc' := 1) dX11_often_0 rfl rfl ?_
  refine jb_iload_n (pc' := 2) dX11_often_1 rfl rfl ?_
  refine jb_callV (pc' := 5) (ci := 11) (q := 0) (As := [.int (nI p)]) (a2 := 0) (b2 := 0) wv_X11_92 rfl dX11_often_2 (c_isNoVoiceG imm Im rowm stkm tpm Tm I W T hr0 hk0 p (by omega)) rfl rfl ⟨by decide, Nat.le_of_eq (Nat.zero_add _), Nat.le_of_eq (Nat.zero_add _)⟩ (Nat.le_of_ble_eq_true rfl) rfl (fun r h9 hq => ?_)
  obtain ⟨rfl, rfl⟩ := hq
  show jb_J _ RX11 cX11_often 10 (Option.some .int) false 6 0 0 5 [some (.ref 0), some (.int (nI p)), some (.int (nI w)), some (.int (nI nn)), none, none, none, none, none, none] [.int 0] [jb_main imm Im Tm rowm stkm tpm, jb_sch13 I W T, s2, s3, s4, s5, s6, s7, s8, jb_act Ia boa era, s10, s11] _
  refine jb_if_ne (tgt := 28) (pc' := 8) dX11_often_5 (by decide) rfl (fun z => absurd (by decide) z) (fun _ => ?_)
  refine jb_iload_n (pc' := 9) dX11_often_8 rfl rfl ?_
  refine jb_iconst (pc' := 10) 0 dX11_often_9 (by decide) rfl ?_
  refine jb_bipush (pc' := 12) 39 dX11_often_10 (by decide) rfl ?_
  refine jb_callS (pc' := 15) (As := [.int (nI w), .int 0, .int 39]) (a2 := 0) (b2 := 0) wv_X11_74 dX11_often_12 (c_isOutLG w 0 39 (by omega) (by omega) (by omega)) rfl ⟨by decide, Nat.le_of_eq (Nat.zero_add _), Nat.le_of_eq (Nat.zero_add _)⟩ (Nat.le_of_ble_eq_true rfl) rfl (fun r h9 hq => ?_)
  obtain ⟨rfl, rfl⟩ := hq
  show jb_J _ RX11 cX11_often 10 (Option.some .int) false 6 0 0 15 [some (.ref 0), some (.int (nI p)), some (.int (nI w)), some (.int (nI nn)), none, none, none, none, none, none] [.int 0] [jb_main imm Im Tm rowm stkm tpm, jb_sch13 I W T, s2, s3, s4, s5, s6, s7, s8, jb_act Ia boa era, s10, s11] _
  refine jb_if_ne (tgt := 28) (pc' := 18) dX11_often_15 (by decide) rfl (fun z => absurd (by decide) z) (fun _ => ?_)
  refine jb_iload_n (pc' := 19) dX11_often_18 rfl rfl ?_
  refine jb_iconst (pc' := 20) 2 dX11_often_19 (by decide) rfl ?_
  refine jb_ldc (pc' := 22) 99999 dX11_often_20 wk_X11_196 rfl ?_
  refine jb_callS (pc' := 25) (As := [.int (nI nn), .int 2, .int 99999]) (a2 := 0) (b2 := 0) wv_X11_74 dX11_often_22 (c_isOutLG nn 2 99999 (by omega) (by omega) (by omega)) rfl ⟨by decide, Nat.le_of_eq (Nat.zero_add _), Nat.le_of_eq (Nat.zero_add _)⟩ (Nat.le_of_ble_eq_true rfl) rfl (fun r h9 hq => ?_)
  obtain ⟨rfl, rfl⟩ := hq
  show jb_J _ RX11 cX11_often 10 (Option.some .int) false 6 0 0 25 [some (.ref 0), some (.int (nI p)), some (.int (nI w)), some (.int (nI nn)), none, none, none, none, none, none] [.int 0] [jb_main imm Im Tm rowm stkm tpm, jb_sch13 I W T, s2, s3, s4, s5, s6, s7, s8, jb_act Ia boa era, s10, s11] _
  refine jb_if_eq (tgt := 34) (pc' := 28) dX11_often_25 (by decide) rfl (fun _ => ?_) (fun z => absurd (by decide) z)
  refine jb_bipush (pc' := 36) 10 dX11_often_34 (by decide) rfl ?_
  refine jb_aload_n (pc' := 37) dX11_often_36 rfl rfl ?_
  refine gf_X11_42 (pc' := 40) (v := .ref 13) dX11_often_37 rfl rfl rfl ?_
  refine jb_iload_n (pc' := 41) dX11_often_40 rfl rfl ?_
  refine jb_iload_n (pc' := 42) dX11_often_41 rfl rfl ?_
  refine jb_callV (pc' := 45) (ci := 9) (q := 13) (As := [.int (nI p), .int (nI w)]) (a2 := 0) (b2 := 0) wv_X11_103 rfl dX11_often_42 (c_carriage_13 _ _ _ _ _ _ I W T ⟨r0, r2, r3, r4, a0, a1, a2, rv, rs, rd⟩ ⟨k0, k1, k2, k3, k4, k5, k6, k7, kv, ks, kd⟩ hG hg p w (by omega) (by omega)) rfl rfl ⟨by decide, Nat.le_of_eq (Nat.zero_add _), Nat.le_of_eq (Nat.zero_add _)⟩ (Nat.le_of_ble_eq_true rfl) rfl (fun r h9 hq => ?_)
  obtain ⟨rfl, stk9, rfl⟩ := hq
  show jb_J _ RX11 cX11_often 10 (Option.some .int) false 6 0 0 45 [some (.ref 0), some (.int (nI p)), some (.int (nI w)), some (.int (nI nn)), none, none, none, none, none, none] [.int (jm_ca V G p w), .int 10] [jb_main imm Im Tm rowm stk9 tpm, jb_sch13 I W T, s2, s3, s4, s5, s6, s7, s8, jb_act Ia boa era, s10, s11] _
  refine jb_isub (pc' := 46) dX11_often_45 rfl ?_
  refine jb_istore_ (pc' := 48) dX11_often_46 (by decide) (jb_at4 rfl) rfl ?_
  refine jb_lconst (pc' := 49) 1 dX11_often_48 (by decide) rfl ?_
  refine jb_lstore_ (pc' := 51) dX11_often_49 (by decide) (jb_lt5 rfl) rfl ?_
  refine jb_lconst (pc' := 52) 1 dX11_often_51 (by decide) rfl ?_
  refine jb_lstore_ (pc' := 54) dX11_often_52 (by decide) (jb_lt7 rfl) rfl ?_
  refine jb_iconst (pc' := 55) 1 dX11_often_54 (by decide) rfl ?_
  refine jb_istore_ (pc' := 57) dX11_often_55 (by decide) (jb_at9 rfl) rfl ?_
  refine jb_J.mono (l_often imm Im rowm stk9 tpm Tm Ia boa era nn (by omega) (10 - jm_ca V G p w) _ _ 12 1 1 1 rfl) (Nat.le_refl _) (Nat.le_refl _) (Nat.le_refl _) (fun r h9 hq => ⟨stk9, hq⟩)
set_option maxRecDepth 100000 in
set_option maxHeartbeats 4000000 in
theorem ke_often {sc : Nat × (Nat → Int32)} {s2 s3 s4 s5 s6 s7 s8 s10 s11 : List va_E} {V : Nat → Nat → Nat} (imm : Int32) (Im rowm stkm tpm : Nat → Int32) (Tm : Nat → Value) (I : Nat → Int32) (W : Nat → Nat → Int32) (T : Nat → Value) (Ia boa era : Nat → Int32) (hr : jr_ V I W) (hk : jv_ok V) (p w d : Int32) (hb : ¬ (jn_b p 0 (V 0 1) ∧ jn_b w 0 40 ∧ jn_b d 2 100000)) : jb_C sc yX11_often cX11_often 10 (Option.some .int) 2 0 0 [.ref 0, .int p, .int w, .int d] [jb_main imm Im Tm rowm stkm tpm, jb_sch13 I W T, s2, s3, s4, s5, s6, s7, s8, jb_act Ia boa era, s10, s11] (fun r h9 => r = some (.int (jm_er 1)) ∧ h9 = [jb_main imm Im Tm rowm stkm tpm, jb_sch13 I W T, s2, s3, s4, s5, s6, s7, s8, jb_act Ia boa (jm_ef era 1), s10, s11]) := by
  refine jb_CofJ (ini := false) (by decide +kernel) (fun h => by cases h) (Nat.le_of_ble_eq_true rfl) ?_
  show jb_J sc RX11 cX11_often 10 (Option.some .int) false 2 0 0 0 [some (.ref 0), some (.int p), some (.int w), some (.int d), none, none, none, none, none, none] [] [jb_main imm Im Tm rowm stkm tpm, jb_sch13 I W T, s2, s3, s4, s5, s6, s7, s8, jb_act Ia boa era, s10, s11] _
  have hr0 := hr
  have hk0 := hk
  obtain ⟨r0, r2, r3, r4, a0, a1, a2, rv, rs, rd⟩ := hr
  obtain ⟨k0, k1, k2, k3, k4, k5, k6, k7, kv, ks, kd⟩ := hk
  refine jb_aload_n (pc' := 1) dX11_often_0 rfl rfl ?_
  refine jb_iload_n (pc' := 2) dX11_often_1 rfl rfl ?_
  refine jb_callV (pc' := 5) (ci := 11) (q := 0) (As := [.int p]) (a2 := 0) (b2 := 0) wv_X11_92 rfl dX11_often_2 (c_isNoVoice imm Im rowm stkm tpm Tm I W T hr0 hk0 p) rfl rfl ⟨by decide, Nat.le_of_eq (Nat.zero_add _), Nat.le_of_eq (Nat.zero_add _)⟩ (Nat.le_of_ble_eq_true rfl) rfl (fun r h9 hq => ?_)
  rcases hq with ⟨rfl, ⟨o1, rfl⟩ | ⟨o1, rfl⟩⟩
  · show jb_J _ RX11 cX11_often 10 (Option.some .int) false 2 0 0 5 [some (.ref 0), some (.int p), some (.int w), some (.int d), none, none, none, none, none, none] [.int 0] [jb_main imm Im Tm rowm stkm tpm, jb_sch13 I W T, s2, s3, s4, s5, s6, s7, s8, jb_act Ia boa era, s10, s11] _
    refine jb_if_ne (tgt := 28) (pc' := 8) dX11_often_5 (by decide) rfl (fun z => absurd (by decide) z) (fun _ => ?_)
    refine jb_iload_n (pc' := 9) dX11_often_8 rfl rfl ?_
    refine jb_iconst (pc' := 10) 0 dX11_often_9 (by decide) rfl ?_
    refine jb_bipush (pc' := 12) 39 dX11_often_10 (by decide) rfl ?_
    refine jb_callS (pc' := 15) (As := [.int w, .int 0, .int 39]) (a2 := 0) (b2 := 0) wv_X11_74 dX11_often_12 (c_isOutL w 0 39 (by omega) (by omega)) rfl ⟨by decide, Nat.le_of_eq (Nat.zero_add _), Nat.le_of_eq (Nat.zero_add _)⟩ (Nat.le_of_ble_eq_true rfl) rfl (fun r h9 hq => ?_)
    rcases hq with ⟨rfl, ⟨o4, rfl⟩ | ⟨o4, rfl⟩⟩
    · show jb_J _ RX11 cX11_often 10 (Option.some .int) false 2 0 0 15 [some (.ref 0), some (.int p), some (.int w), some (.int d), none, none, none, none, none, none] [.int 1] [jb_main imm Im Tm rowm stkm tpm, jb_sch13 I W T, s2, s3, s4, s5, s6, s7, s8, jb_act Ia boa era, s10, s11] _
      refine jb_if_ne (tgt := 28) (pc' := 18) dX11_often_15 (by decide) rfl (fun _ => ?_) (fun z => absurd z (by decide))
      refine jb_aload_n (pc' := 29) dX11_often_28 rfl rfl ?_
      refine jb_iconst (pc' := 30) 1 dX11_often_29 (by decide) rfl ?_
      refine jb_callV (pc' := 33) (ci := 11) (q := 0) (As := [.int 1]) (a2 := 0) (b2 := 0) wv_X11_78 rfl dX11_often_30 (c_error imm Im rowm stkm tpm Tm Ia boa era 1 (by decide)) rfl rfl ⟨by decide, Nat.le_of_eq (Nat.zero_add _), Nat.le_of_eq (Nat.zero_add _)⟩ (Nat.le_of_ble_eq_true rfl) rfl (fun r h9 hq => ?_)
      obtain ⟨rfl, rfl⟩ := hq
      show jb_J _ RX11 cX11_often 10 (Option.some .int) false 2 0 0 33 [some (.ref 0), some (.int p), some (.int w), some (.int d), none, none, none, none, none, none] [.int (jm_er 1)] [jb_main imm Im Tm rowm stkm tpm, jb_sch13 I W T, s2, s3, s4, s5, s6, s7, s8, jb_act Ia boa (jm_ef era 1), s10, s11] _
      refine jb_iret dX11_often_33 rfl ?_
      exact ⟨rfl, rfl⟩
    · show jb_J _ RX11 cX11_often 10 (Option.some .int) false 2 0 0 15 [some (.ref 0), some (.int p), some (.int w), some (.int d), none, none, none, none, none, none] [.int 0] [jb_main imm Im Tm rowm stkm tpm, jb_sch13 I W T, s2, s3, s4, s5, s6, s7, s8, jb_act Ia boa era, s10, s11] _
      refine jb_if_ne (tgt := 28) (pc' := 18) dX11_often_15 (by decide) rfl (fun z => absurd (by decide) z) (fun _ => ?_)
      refine jb_iload_n (pc' := 19) dX11_often_18 rfl rfl ?_
      refine jb_iconst (pc' := 20) 2 dX11_often_19 (by decide) rfl ?_
      refine jb_ldc (pc' := 22) 99999 dX11_often_20 wk_X11_196 rfl ?_
      refine jb_callS (pc' := 25) (As := [.int d, .int 2, .int 99999]) (a2 := 0) (b2 := 0) wv_X11_74 dX11_often_22 (c_isOutL d 2 99999 (by omega) (by omega)) rfl ⟨by decide, Nat.le_of_eq (Nat.zero_add _), Nat.le_of_eq (Nat.zero_add _)⟩ (Nat.le_of_ble_eq_true rfl) rfl (fun r h9 hq => ?_)
      rcases hq with ⟨rfl, ⟨o8, rfl⟩ | ⟨o8, rfl⟩⟩
      · show jb_J _ RX11 cX11_often 10 (Option.some .int) false 2 0 0 25 [some (.ref 0), some (.int p), some (.int w), some (.int d), none, none, none, none, none, none] [.int 1] [jb_main imm Im Tm rowm stkm tpm, jb_sch13 I W T, s2, s3, s4, s5, s6, s7, s8, jb_act Ia boa era, s10, s11] _
        refine jb_if_eq (tgt := 34) (pc' := 28) dX11_often_25 (by decide) rfl (fun z => absurd z (by decide)) (fun _ => ?_)
        refine jb_aload_n (pc' := 29) dX11_often_28 rfl rfl ?_
        refine jb_iconst (pc' := 30) 1 dX11_often_29 (by decide) rfl ?_
        refine jb_callV (pc' := 33) (ci := 11) (q := 0) (As := [.int 1]) (a2 := 0) (b2 := 0) wv_X11_78 rfl dX11_often_30 (c_error imm Im rowm stkm tpm Tm Ia boa era 1 (by decide)) rfl rfl ⟨by decide, Nat.le_of_eq (Nat.zero_add _), Nat.le_of_eq (Nat.zero_add _)⟩ (Nat.le_of_ble_eq_true rfl) rfl (fun r h9 hq => ?_)
        obtain ⟨rfl, rfl⟩ := hq
        show jb_J _ RX11 cX11_often 10 (Option.some .int) false 2 0 0 33 [some (.ref 0), some (.int p), some (.int w), some (.int d), none, none, none, none, none, none] [.int (jm_er 1)] [jb_main imm Im Tm rowm stkm tpm, jb_sch13 I W T, s2, s3, s4, s5, s6, s7, s8, jb_act Ia boa (jm_ef era 1), s10, s11] _
        refine jb_iret dX11_often_33 rfl ?_
        exact ⟨rfl, rfl⟩
      · show jb_J _ RX11 cX11_often 10 (Option.some .int) false 2 0 0 25 [some (.ref 0), some (.int p), some (.int w), some (.int d), none, none, none, none, none, none] [.int 0] [jb_main imm Im Tm rowm stkm tpm, jb_sch13 I W T, s2, s3, s4, s5, s6, s7, s8, jb_act Ia boa era, s10, s11] _
        exact absurd ⟨by assumption, by assumption, by assumption⟩ hb
  · show jb_J _ RX11 cX11_often 10 (Option.some .int) false 2 0 0 5 [some (.ref 0), some (.int p), some (.int w), some (.int d), none, none, none, none, none, none] [.int 1] [jb_main imm Im Tm rowm stkm tpm, jb_sch13 I W T, s2, s3, s4, s5, s6, s7, s8, jb_act Ia boa era, s10, s11] _
    refine jb_if_ne (tgt := 28) (pc' := 8) dX11_often_5 (by decide) rfl (fun _ => ?_) (fun z => absurd z (by decide))
    refine jb_aload_n (pc' := 29) dX11_often_28 rfl rfl ?_
    refine jb_iconst (pc' := 30) 1 dX11_often_29 (by decide) rfl ?_
    refine jb_callV (pc' := 33) (ci := 11) (q := 0) (As := [.int 1]) (a2 := 0) (b2 := 0) wv_X11_78 rfl dX11_often_30 (c_error imm Im rowm stkm tpm Tm Ia boa era 1 (by decide)) rfl rfl ⟨by decide, Nat.le_of_eq (Nat.zero_add _), Nat.le_of_eq (Nat.zero_add _)⟩ (Nat.le_of_ble_eq_true rfl) rfl (fun r h9 hq => ?_)
    obtain ⟨rfl, rfl⟩ := hq
    show jb_J _ RX11 cX11_often 10 (Option.some .int) false 2 0 0 33 [some (.ref 0), some (.int p), some (.int w), some (.int d), none, none, none, none, none, none] [.int (jm_er 1)] [jb_main imm Im Tm rowm stkm tpm, jb_sch13 I W T, s2, s3, s4, s5, s6, s7, s8, jb_act Ia boa (jm_ef era 1), s10, s11] _
    refine jb_iret dX11_often_33 rfl ?_
    exact ⟨rfl, rfl⟩
set_option maxRecDepth 100000 in
set_option maxHeartbeats 4000000 in
theorem l_oftenm {sc : Nat × (Nat → Int32)} {s0 s1 s2 s3 s4 s5 s6 s7 s8 s9 s11 : List va_E} (I J d e kp nm : Nat → Int32) (W : Nat → Nat → Int32) (nn : Nat) (hnn : nn < 100000) (y9 : Int32) (x1 x2 : Option Value) : ∀ (k t9 : Nat) (l9 a9 : Int64), t9 + k = 13 → jb_J sc RX12 cX12_often 10 (Option.some .int) false 47 0 0 52 [some (.ref 105), x1, x2, some (.int (nI nn)), some (.long l9), none, some (.long a9), none, some (.int y9), some (.int (nI t9))] [] [s0, s1, s2, s3, s4, s5, s6, s7, s8, s9, jb_mdl I J d e kp nm W, s11] (fun r h9 => (jm_of (10 - y9).toInt64 (nI nn).toInt64 k t9 l9 a9 = none ∧ r = some (.int (jm_er 2)) ∧ h9 = [s0, s1, s2, s3, s4, s5, s6, s7, s8, s9, jb_mdl I J d e kp nm (va_up W 0 (jm_ef (W 0) 2)), s11]) ∨ (∃ q, jm_of (10 - y9).toInt64 (nI nn).toInt64 k t9 l9 a9 = some q ∧ r = some (.int (nI q)) ∧ h9 = [s0, s1, s2, s3, s4, s5, s6, s7, s8, s9, jb_mdl I J d e kp nm W, s11])) := by
  intro k
  induction k with
  | zero =>
    intro t9 l9 a9 hk
    show jb_J _ RX12 cX12_often 10 (Option.some .int) false 47 0 0 52 [some (.ref 105), x1, x2, some (.int (nI nn)), some (.long l9), none, some (.long a9), none, some (.int y9), some (.int (nI t9))] [] [s0, s1, s2, s3, s4, s5, s6, s7, s8, s9, jb_mdl I J d e kp nm W, s11] _
    refine jb_iload (pc' := 54) dX12_often_52 rfl rfl ?_
    refine jb_bipush (pc' := 56) 12 dX12_often_54 (by decide) rfl ?_
    refine jb_icmp_gt (tgt := 98) (pc' := 59) dX12_often_56 (by decide) rfl (fun _ => ?_) (fun z => absurd (nI_lt (a := 12) (b := t9) (by omega) (by omega)) z)
    refine jb_aload_n (pc' := 99) dX12_often_98 rfl rfl ?_
    refine jb_iconst (pc' := 100) 2 dX12_often_99 (by decide) rfl ?_
    refine jb_callV (pc' := 103) (ci := 12) (q := 105) (As := [.int 2]) (a2 := 0) (b2 := 0) wv_X12_121 rfl dX12_often_100 (c_finds I J d e kp nm W 2 (by decide)) rfl rfl ⟨by decide, Nat.le_of_eq (Nat.zero_add _), Nat.le_of_eq (Nat.zero_add _)⟩ (Nat.le_of_ble_eq_true rfl) rfl (fun r h9 hq => ?_)
    obtain ⟨rfl, rfl⟩ := hq
    show jb_J _ RX12 cX12_often 10 (Option.some .int) false 47 0 0 103 [some (.ref 105), x1, x2, some (.int (nI nn)), some (.long l9), none, some (.long a9), none, some (.int y9), some (.int (nI t9))] [.int (jm_er 2)] [s0, s1, s2, s3, s4, s5, s6, s7, s8, s9, jb_mdl I J d e kp nm (va_up W 0 (jm_ef (W 0) 2)), s11] _
    refine jb_iret dX12_often_103 rfl ?_
    exact Or.inl ⟨rfl, rfl, rfl⟩
  | succ k ih =>
    intro t9 l9 a9 hk
    show jb_J _ RX12 cX12_often 10 (Option.some .int) false 47 0 0 52 [some (.ref 105), x1, x2, some (.int (nI nn)), some (.long l9), none, some (.long a9), none, some (.int y9), some (.int (nI t9))] [] [s0, s1, s2, s3, s4, s5, s6, s7, s8, s9, jb_mdl I J d e kp nm W, s11] _
    refine jb_iload (pc' := 54) dX12_often_52 rfl rfl ?_
    refine jb_bipush (pc' := 56) 12 dX12_often_54 (by decide) rfl ?_
    refine jb_icmp_gt (tgt := 98) (pc' := 59) dX12_often_56 (by decide) rfl (fun z => absurd z (nI_nlt (a := 12) (b := t9) (by omega) (by omega))) (fun _ => ?_)
    refine jb_lload (pc' := 61) dX12_often_59 rfl rfl ?_
    refine jb_bipush (pc' := 63) 10 dX12_often_61 (by decide) rfl ?_
    refine jb_iload (pc' := 65) dX12_often_63 rfl rfl ?_
    refine jb_isub (pc' := 66) dX12_often_65 rfl ?_
    refine jb_i2l (pc' := 67) dX12_often_66 rfl ?_
    refine jb_lmul (pc' := 68) dX12_often_67 rfl ?_
    refine jb_lstore_ (pc' := 70) dX12_often_68 (by decide) (jb_lt4 rfl) rfl ?_
    refine jb_lload (pc' := 72) dX12_often_70 rfl rfl ?_
    refine jb_ldc2 (pc' := 75) 10 dX12_often_72 wk_X12_254 rfl ?_
    refine jb_lmul (pc' := 76) dX12_often_75 rfl ?_
    refine jb_lstore_ (pc' := 78) dX12_often_76 (by decide) (jb_lt6 rfl) rfl ?_
    refine jb_lload (pc' := 80) dX12_often_78 rfl rfl ?_
    refine jb_iload_n (pc' := 81) dX12_often_80 rfl rfl ?_
    refine jb_i2l (pc' := 82) dX12_often_81 rfl ?_
    refine jb_lmul (pc' := 83) dX12_often_82 rfl ?_
    refine jb_lload (pc' := 85) dX12_often_83 rfl rfl ?_
    refine jb_lcmp (pc' := 86) dX12_often_85 rfl ?_
    refine jb_if_gt (tgt := 92) (pc' := 89) dX12_often_86 (by decide) rfl (fun hcc => ?_) (fun hcc => ?_)
    · refine jb_iinc_ (pc' := 95) (nI (t9 + 1)) dX12_often_92 (by decide) rfl (jb_inc t9 1) (jb_at9 rfl) rfl ?_
      refine jb_goto (pc' := 52) dX12_often_95 (by decide) ?_
      have e9 : jm_of (10 - y9).toInt64 (nI nn).toInt64 (k + 1) t9 l9 a9 = jm_of (10 - y9).toInt64 (nI nn).toInt64 k (t9 + 1) (l9 * (10 - y9).toInt64) (a9 * 10) := if_pos (jl_gt.mp hcc)
      rw [e9]
      exact ih (t9 + 1) (l9 * (10 - y9).toInt64) (a9 * 10) (by omega)
    · refine jb_iload (pc' := 91) dX12_often_89 rfl rfl ?_
      refine jb_iret dX12_often_91 rfl ?_
      have e9 : jm_of (10 - y9).toInt64 (nI nn).toInt64 (k + 1) t9 l9 a9 = some t9 := if_neg (fun z => hcc (jl_gt.mpr z))
      exact Or.inr ⟨t9, e9, rfl, rfl⟩
set_option maxRecDepth 100000 in
set_option maxHeartbeats 4000000 in
theorem mx_often {sc : Nat × (Nat → Int32)} {s0 s1 s2 s3 s4 s5 s6 s7 s8 s9 s11 : List va_E} {V : Nat → Nat → Nat} (I J d e kp nm : Nat → Int32) (W : Nat → Nat → Int32) (hd : jd_ V d) (hk : jv_ok V) (p : Nat) (hp : p < V 0 1) (w : Nat) (hw : w < 40) (nn : Nat) (h2 : 2 ≤ nn) (h9 : nn ≤ 99999) {G : jm_G} (hG : jm_Gok G) {d0 : Nat → Int32} (hg : jGm sc d0 G) (hag : ∀ k, 316 ≤ k → d k = d0 k) : jb_C sc yX12_often cX12_often 10 (Option.some .int) 47 0 0 [.ref 105, .int (nI p), .int (nI w), .int (nI nn)] [s0, s1, s2, s3, s4, s5, s6, s7, s8, s9, jb_mdl I J d e kp nm W, s11] (fun r h9 => ∃ J9 nm9, (jm_of (10 - jm_ca V G p w).toInt64 (nI nn).toInt64 12 1 1 1 = none ∧ r = some (.int (jm_er 2)) ∧ h9 = [s0, s1, s2, s3, s4, s5, s6, s7, s8, s9, jb_mdl I J9 d e kp nm9 (va_up W 0 (jm_ef (W 0) 2)), s11]) ∨ (∃ q, jm_of (10 - jm_ca V G p w).toInt64 (nI nn).toInt64 12 1 1 1 = some q ∧ r = some (.int (nI q)) ∧ h9 = [s0, s1, s2, s3, s4, s5, s6, s7, s8, s9, jb_mdl I J9 d e kp nm9 W, s11])) := by
  refine jb_CofJ (ini := false) (by decide +kernel) (fun h => by cases h) (Nat.le_of_ble_eq_true rfl) ?_
  show jb_J sc RX12 cX12_often 10 (Option.some .int) false 47 0 0 0 [some (.ref 105), some (.int (nI p)), some (.int (nI w)), some (.int (nI nn)), none, none, none, none, none, none] [] [s0, s1, s2, s3, s4, s5, s6, s7, s8, s9, jb_mdl I J d e kp nm W, s11] _
  have hd0 := hd
  have hk0 := hk
  obtain ⟨e0, e1, e2, e3, e4, e5, e6, dv, ds, dd⟩ := hd
  obtain ⟨k0, k1, k2, k3, k4, k5, k6, k7, kv, ks, kd⟩ := hk
  refine jb_aload_n (pc' := 1) dX12_often_0 rfl rfl ?_
  refine jb_iload_n (pc' := 2) dX12_often_1 rfl rfl ?_
  refine jb_callV (pc' := 5) (ci := 12) (q := 105) (As := [.int (nI p)]) (a2 := 0) (b2 := 0) wv_X12_149 rfl dX12_often_2 (c_isVoiceG I J d e kp nm W hd0 hk0 p (by omega)) rfl rfl ⟨by decide, Nat.le_of_eq (Nat.zero_add _), Nat.le_of_eq (Nat.zero_add _)⟩ (Nat.le_of_ble_eq_true rfl) rfl (fun r h9 hq => ?_)
  obtain ⟨rfl, rfl⟩ := hq
  show jb_J _ RX12 cX12_often 10 (Option.some .int) false 47 0 0 5 [some (.ref 105), some (.int (nI p)), some (.int (nI w)), some (.int (nI nn)), none, none, none, none, none, none] [.int 1] [s0, s1, s2, s3, s4, s5, s6, s7, s8, s9, jb_mdl I J d e kp nm W, s11] _
  refine jb_if_eq (tgt := 29) (pc' := 8) dX12_often_5 (by decide) rfl (fun z => absurd z (by decide)) (fun _ => ?_)
  refine jb_iload_n (pc' := 9) dX12_often_8 rfl rfl ?_
  refine jb_callS (pc' := 12) (As := [.int (nI w)]) (a2 := 0) (b2 := 0) wv_X12_157 dX12_often_9 (c_isWordG _ w (by omega)) rfl ⟨by decide, Nat.le_of_eq (Nat.zero_add _), Nat.le_of_eq (Nat.zero_add _)⟩ (Nat.le_of_ble_eq_true rfl) rfl (fun r h9 hq => ?_)
  obtain ⟨rfl, rfl⟩ := hq
  show jb_J _ RX12 cX12_often 10 (Option.some .int) false 47 0 0 12 [some (.ref 105), some (.int (nI p)), some (.int (nI w)), some (.int (nI nn)), none, none, none, none, none, none] [.int 1] [s0, s1, s2, s3, s4, s5, s6, s7, s8, s9, jb_mdl I J d e kp nm W, s11] _
  refine jb_if_eq (tgt := 29) (pc' := 15) dX12_often_12 (by decide) rfl (fun z => absurd z (by decide)) (fun _ => ?_)
  refine jb_iload_n (pc' := 16) dX12_often_15 rfl rfl ?_
  refine jb_i2l (pc' := 17) dX12_often_16 rfl ?_
  refine jb_ldc2 (pc' := 20) 2 dX12_often_17 wk_X12_137 rfl ?_
  refine jb_ldc2 (pc' := 23) 99999 dX12_often_20 wk_X12_252 rfl ?_
  refine jb_callS (pc' := 26) (As := [.long ((nI nn).toInt64), .long 2, .long 99999]) (a2 := 0) (b2 := 0) wv_X12_56 dX12_often_23 (c_inLG _ nn 2 99999 (by omega) (by omega) (by omega)) rfl ⟨by decide, Nat.le_of_eq (Nat.zero_add _), Nat.le_of_eq (Nat.zero_add _)⟩ (Nat.le_of_ble_eq_true rfl) rfl (fun r h9 hq => ?_)
  obtain ⟨rfl, rfl⟩ := hq
  show jb_J _ RX12 cX12_often 10 (Option.some .int) false 47 0 0 26 [some (.ref 105), some (.int (nI p)), some (.int (nI w)), some (.int (nI nn)), none, none, none, none, none, none] [.int 1] [s0, s1, s2, s3, s4, s5, s6, s7, s8, s9, jb_mdl I J d e kp nm W, s11] _
  refine jb_if_ne (tgt := 35) (pc' := 29) dX12_often_26 (by decide) rfl (fun _ => ?_) (fun z => absurd z (by decide))
  refine jb_lconst (pc' := 36) 1 dX12_often_35 (by decide) rfl ?_
  refine jb_lstore_ (pc' := 38) dX12_often_36 (by decide) (jb_lt4 rfl) rfl ?_
  refine jb_lconst (pc' := 39) 1 dX12_often_38 (by decide) rfl ?_
  refine jb_lstore_ (pc' := 41) dX12_often_39 (by decide) (jb_lt6 rfl) rfl ?_
  refine jb_aload_n (pc' := 42) dX12_often_41 rfl rfl ?_
  refine jb_iload_n (pc' := 43) dX12_often_42 rfl rfl ?_
  refine jb_iload_n (pc' := 44) dX12_often_43 rfl rfl ?_
  refine jb_callV (pc' := 47) (ci := 12) (q := 105) (As := [.int (nI p), .int (nI w)]) (a2 := 0) (b2 := 0) wv_X12_160 rfl dX12_often_44 (c_carriesOf I J d e kp nm W hd0 hk0 hG hg hag p w hp hw) rfl rfl ⟨by decide, Nat.le_of_eq (Nat.zero_add _), Nat.le_of_eq (Nat.zero_add _)⟩ (Nat.le_of_ble_eq_true rfl) rfl (fun r h9 hq => ?_)
  obtain ⟨rfl, J9, nm9, rfl⟩ := hq
  show jb_J _ RX12 cX12_often 10 (Option.some .int) false 47 0 0 47 [some (.ref 105), some (.int (nI p)), some (.int (nI w)), some (.int (nI nn)), some (.long 1), none, some (.long 1), none, none, none] [.int (jm_ca V G p w)] [s0, s1, s2, s3, s4, s5, s6, s7, s8, s9, jb_mdl I J9 d e kp nm9 W, s11] _
  refine jb_istore_ (pc' := 49) dX12_often_47 (by decide) (jb_at8 rfl) rfl ?_
  refine jb_iconst (pc' := 50) 1 dX12_often_49 (by decide) rfl ?_
  refine jb_istore_ (pc' := 52) dX12_often_50 (by decide) (jb_at9 rfl) rfl ?_
  refine jb_J.mono (l_oftenm I J9 d e kp nm9 W nn (by omega) (jm_ca V G p w) _ _ 12 1 1 1 rfl) (Nat.le_refl _) (Nat.le_refl _) (Nat.le_refl _) (fun r h9 hq => ⟨J9, nm9, hq⟩)
set_option maxRecDepth 100000 in
set_option maxHeartbeats 4000000 in
theorem me_often {sc : Nat × (Nat → Int32)} {s0 s1 s2 s3 s4 s5 s6 s7 s8 s9 s11 : List va_E} {V : Nat → Nat → Nat} (I J d e kp nm : Nat → Int32) (W : Nat → Nat → Int32) (hd : jd_ V d) (hk : jv_ok V) (p w d0 : Int32) (hb : ¬ (jn_b p 0 (V 0 1) ∧ jn_b w 0 40 ∧ jn_b d0 2 100000)) : jb_C sc yX12_often cX12_often 10 (Option.some .int) 2 0 0 [.ref 105, .int p, .int w, .int d0] [s0, s1, s2, s3, s4, s5, s6, s7, s8, s9, jb_mdl I J d e kp nm W, s11] (fun r h9 => r = some (.int (jm_er 1)) ∧ h9 = [s0, s1, s2, s3, s4, s5, s6, s7, s8, s9, jb_mdl I J d e kp nm (va_up W 0 (jm_ef (W 0) 1)), s11]) := by
  refine jb_CofJ (ini := false) (by decide +kernel) (fun h => by cases h) (Nat.le_of_ble_eq_true rfl) ?_
  show jb_J sc RX12 cX12_often 10 (Option.some .int) false 2 0 0 0 [some (.ref 105), some (.int p), some (.int w), some (.int d0), none, none, none, none, none, none] [] [s0, s1, s2, s3, s4, s5, s6, s7, s8, s9, jb_mdl I J d e kp nm W, s11] _
  have hd0 := hd
  have hk0 := hk
  obtain ⟨e0, e1, e2, e3, e4, e5, e6, dv, ds, dd⟩ := hd
  obtain ⟨k0, k1, k2, k3, k4, k5, k6, k7, kv, ks, kd⟩ := hk
  refine jb_aload_n (pc' := 1) dX12_often_0 rfl rfl ?_
  refine jb_iload_n (pc' := 2) dX12_often_1 rfl rfl ?_
  refine jb_callV (pc' := 5) (ci := 12) (q := 105) (As := [.int p]) (a2 := 0) (b2 := 0) wv_X12_149 rfl dX12_often_2 (c_isVoice I J d e kp nm W hd0 hk0 p) rfl rfl ⟨by decide, Nat.le_of_eq (Nat.zero_add _), Nat.le_of_eq (Nat.zero_add _)⟩ (Nat.le_of_ble_eq_true rfl) rfl (fun r h9 hq => ?_)
  rcases hq with ⟨rfl, ⟨o1, rfl⟩ | ⟨o1, rfl⟩⟩
  · show jb_J _ RX12 cX12_often 10 (Option.some .int) false 2 0 0 5 [some (.ref 105), some (.int p), some (.int w), some (.int d0), none, none, none, none, none, none] [.int 1] [s0, s1, s2, s3, s4, s5, s6, s7, s8, s9, jb_mdl I J d e kp nm W, s11] _
    refine jb_if_eq (tgt := 29) (pc' := 8) dX12_often_5 (by decide) rfl (fun z => absurd z (by decide)) (fun _ => ?_)
    refine jb_iload_n (pc' := 9) dX12_often_8 rfl rfl ?_
    refine jb_callS (pc' := 12) (As := [.int w]) (a2 := 0) (b2 := 0) wv_X12_157 dX12_often_9 (c_isWord _ w) rfl ⟨by decide, Nat.le_of_eq (Nat.zero_add _), Nat.le_of_eq (Nat.zero_add _)⟩ (Nat.le_of_ble_eq_true rfl) rfl (fun r h9 hq => ?_)
    rcases hq with ⟨rfl, ⟨o4, rfl⟩ | ⟨o4, rfl⟩⟩
    · show jb_J _ RX12 cX12_often 10 (Option.some .int) false 2 0 0 12 [some (.ref 105), some (.int p), some (.int w), some (.int d0), none, none, none, none, none, none] [.int 1] [s0, s1, s2, s3, s4, s5, s6, s7, s8, s9, jb_mdl I J d e kp nm W, s11] _
      refine jb_if_eq (tgt := 29) (pc' := 15) dX12_often_12 (by decide) rfl (fun z => absurd z (by decide)) (fun _ => ?_)
      refine jb_iload_n (pc' := 16) dX12_often_15 rfl rfl ?_
      refine jb_i2l (pc' := 17) dX12_often_16 rfl ?_
      refine jb_ldc2 (pc' := 20) 2 dX12_often_17 wk_X12_137 rfl ?_
      refine jb_ldc2 (pc' := 23) 99999 dX12_often_20 wk_X12_252 rfl ?_
      refine jb_callS (pc' := 26) (As := [.long d0.toInt64, .long 2, .long 99999]) (a2 := 0) (b2 := 0) wv_X12_56 dX12_often_23 (c_inL _ d0 2 99999 (by omega) (by omega)) rfl ⟨by decide, Nat.le_of_eq (Nat.zero_add _), Nat.le_of_eq (Nat.zero_add _)⟩ (Nat.le_of_ble_eq_true rfl) rfl (fun r h9 hq => ?_)
      rcases hq with ⟨rfl, ⟨o7, rfl⟩ | ⟨o7, rfl⟩⟩
      · show jb_J _ RX12 cX12_often 10 (Option.some .int) false 2 0 0 26 [some (.ref 105), some (.int p), some (.int w), some (.int d0), none, none, none, none, none, none] [.int 1] [s0, s1, s2, s3, s4, s5, s6, s7, s8, s9, jb_mdl I J d e kp nm W, s11] _
        exact absurd ⟨by assumption, by assumption, by assumption⟩ hb
      · show jb_J _ RX12 cX12_often 10 (Option.some .int) false 2 0 0 26 [some (.ref 105), some (.int p), some (.int w), some (.int d0), none, none, none, none, none, none] [.int 0] [s0, s1, s2, s3, s4, s5, s6, s7, s8, s9, jb_mdl I J d e kp nm W, s11] _
        refine jb_if_ne (tgt := 35) (pc' := 29) dX12_often_26 (by decide) rfl (fun z => absurd (by decide) z) (fun _ => ?_)
        refine jb_aload_n (pc' := 30) dX12_often_29 rfl rfl ?_
        refine jb_iconst (pc' := 31) 1 dX12_often_30 (by decide) rfl ?_
        refine jb_callV (pc' := 34) (ci := 12) (q := 105) (As := [.int 1]) (a2 := 0) (b2 := 0) wv_X12_121 rfl dX12_often_31 (c_finds I J d e kp nm W 1 (by decide)) rfl rfl ⟨by decide, Nat.le_of_eq (Nat.zero_add _), Nat.le_of_eq (Nat.zero_add _)⟩ (Nat.le_of_ble_eq_true rfl) rfl (fun r h9 hq => ?_)
        obtain ⟨rfl, rfl⟩ := hq
        show jb_J _ RX12 cX12_often 10 (Option.some .int) false 2 0 0 34 [some (.ref 105), some (.int p), some (.int w), some (.int d0), none, none, none, none, none, none] [.int (jm_er 1)] [s0, s1, s2, s3, s4, s5, s6, s7, s8, s9, jb_mdl I J d e kp nm (va_up W 0 (jm_ef (W 0) 1)), s11] _
        refine jb_iret dX12_often_34 rfl ?_
        exact ⟨rfl, rfl⟩
    · show jb_J _ RX12 cX12_often 10 (Option.some .int) false 2 0 0 12 [some (.ref 105), some (.int p), some (.int w), some (.int d0), none, none, none, none, none, none] [.int 0] [s0, s1, s2, s3, s4, s5, s6, s7, s8, s9, jb_mdl I J d e kp nm W, s11] _
      refine jb_if_eq (tgt := 29) (pc' := 15) dX12_often_12 (by decide) rfl (fun _ => ?_) (fun z => absurd (by decide) z)
      refine jb_aload_n (pc' := 30) dX12_often_29 rfl rfl ?_
      refine jb_iconst (pc' := 31) 1 dX12_often_30 (by decide) rfl ?_
      refine jb_callV (pc' := 34) (ci := 12) (q := 105) (As := [.int 1]) (a2 := 0) (b2 := 0) wv_X12_121 rfl dX12_often_31 (c_finds I J d e kp nm W 1 (by decide)) rfl rfl ⟨by decide, Nat.le_of_eq (Nat.zero_add _), Nat.le_of_eq (Nat.zero_add _)⟩ (Nat.le_of_ble_eq_true rfl) rfl (fun r h9 hq => ?_)
      obtain ⟨rfl, rfl⟩ := hq
      show jb_J _ RX12 cX12_often 10 (Option.some .int) false 2 0 0 34 [some (.ref 105), some (.int p), some (.int w), some (.int d0), none, none, none, none, none, none] [.int (jm_er 1)] [s0, s1, s2, s3, s4, s5, s6, s7, s8, s9, jb_mdl I J d e kp nm (va_up W 0 (jm_ef (W 0) 1)), s11] _
      refine jb_iret dX12_often_34 rfl ?_
      exact ⟨rfl, rfl⟩
  · show jb_J _ RX12 cX12_often 10 (Option.some .int) false 2 0 0 5 [some (.ref 105), some (.int p), some (.int w), some (.int d0), none, none, none, none, none, none] [.int 0] [s0, s1, s2, s3, s4, s5, s6, s7, s8, s9, jb_mdl I J d e kp nm W, s11] _
    refine jb_if_eq (tgt := 29) (pc' := 8) dX12_often_5 (by decide) rfl (fun _ => ?_) (fun z => absurd (by decide) z)
    refine jb_aload_n (pc' := 30) dX12_often_29 rfl rfl ?_
    refine jb_iconst (pc' := 31) 1 dX12_often_30 (by decide) rfl ?_
    refine jb_callV (pc' := 34) (ci := 12) (q := 105) (As := [.int 1]) (a2 := 0) (b2 := 0) wv_X12_121 rfl dX12_often_31 (c_finds I J d e kp nm W 1 (by decide)) rfl rfl ⟨by decide, Nat.le_of_eq (Nat.zero_add _), Nat.le_of_eq (Nat.zero_add _)⟩ (Nat.le_of_ble_eq_true rfl) rfl (fun r h9 hq => ?_)
    obtain ⟨rfl, rfl⟩ := hq
    show jb_J _ RX12 cX12_often 10 (Option.some .int) false 2 0 0 34 [some (.ref 105), some (.int p), some (.int w), some (.int d0), none, none, none, none, none, none] [.int (jm_er 1)] [s0, s1, s2, s3, s4, s5, s6, s7, s8, s9, jb_mdl I J d e kp nm (va_up W 0 (jm_ef (W 0) 1)), s11] _
    refine jb_iret dX12_often_34 rfl ?_
    exact ⟨rfl, rfl⟩
