/-- one voice more -/
def jm_av (V : Nat → Nat → Nat) (k m c : Nat) : Nat → Nat → Nat := jv_up (jv_up (jv_up (jv_up V 1 (V 0 1) k) 2 (V 0 1) m) 3 (V 0 1) c) 0 1 (V 0 1 + 1)
theorem jv_ok_av {V : Nat → Nat → Nat} (h : jv_ok V) {k m c : Nat} (h1 : V 0 1 < 6) (hk : k < 7) (hm : m < 10) (hc : c < 2) : jv_ok (jm_av V k m c) := by
  obtain ⟨k0, k1, k2, k3, k4, k5, k6, k7, kv, ks, kd⟩ := h
  refine ⟨k0, (show V 0 1 + 1 ≤ 6 by omega), k2, k3, k4, k5, k6, k7, fun p hp => ?_, fun s hs => ?_, fun d hd => ?_⟩
  · have hp' : p < V 0 1 + 1 := hp
    show (if p = V 0 1 then k else V 1 p) < 7 ∧ (if p = V 0 1 then m else V 2 p) < 10 ∧ (if p = V 0 1 then c else V 3 p) < 2
    by_cases e : p = V 0 1
    · simp only [if_pos e]; exact ⟨hk, hm, hc⟩
    · simp only [if_neg e]; exact kv p (by omega)
  · have := ks s hs
    exact ⟨this.1, (show V 5 s < V 0 1 + 1 by omega), this.2.2⟩
  · have := kd d hd
    exact ⟨(show V 10 d < V 0 1 + 1 by omega), this.2⟩
theorem jr_av {V : Nat → Nat → Nat} {I : Nat → Int32} {W : Nat → Nat → Int32} (hr : jr_ V I W) (k m c : Nat) :
    jr_ (jm_av V k m c) (upd I 2 (nI (V 0 1 + 1))) (va_up (va_up (va_up W 1 (upd (W 1) (V 0 1) (nI k))) 2 (upd (W 2) (V 0 1) (nI m))) 3 (upd (W 3) (V 0 1) (nI c))) := by
  obtain ⟨r0, r2, r3, r4, a0, a1, a2, rv, rs, rd⟩ := hr
  refine ⟨r0, rfl, r3, r4, a0, a1, a2, fun p hp => ?_, rs, rd⟩
  have hp' : p < V 0 1 + 1 := hp
  show (if p = V 0 1 then nI k else W 1 p) = nI (if p = V 0 1 then k else V 1 p) ∧ (if p = V 0 1 then nI m else W 2 p) = nI (if p = V 0 1 then m else V 2 p) ∧ (if p = V 0 1 then nI c else W 3 p) = nI (if p = V 0 1 then c else V 3 p)
  by_cases e : p = V 0 1
  · simp only [if_pos e]; exact ⟨trivial, trivial, trivial⟩
  · simp only [if_neg e]; exact rv p (by omega)
def jt_r (v : Value) : Prop := v = .null ∨ ∃ q, v = .ref q
theorem jt_fits {v : Value} (h : jt_r v) : ∀ σ, narrow (.array .int) (jb_cv σ v) = jb_cv σ v ∧ fits (.array .int) (jb_cv σ v) = true := by
  intro σ
  rcases h with rfl | ⟨q, rfl⟩
  · exact ⟨rfl, rfl⟩
  · exact ⟨rfl, rfl⟩
theorem jc_in {f g : Nat → Int32} {n k : Nat} (h : k < n) : va_cpy f g 0 0 n k = f k := by
  rw [pk_cpy_in (by omega) (by omega)]
  exact congrArg f (by omega)
theorem jr_tk {V : Nat → Nat → Nat} {I I9 : Nat → Int32} {W X W9 : Nat → Nat → Int32} (hr : jr_ V I W) (e0 : I9 0 = nI (V 0 0)) (e2 : I9 2 = nI (V 0 1)) (e3 : I9 3 = nI (V 0 2)) (e4 : I9 4 = nI (V 0 3))
    (hA : W9 0 = va_cpy (W 0) (X 0) 0 0 3)
    (h1 : W9 1 = va_cpy (W 1) (X 1) 0 0 (V 0 1)) (h2 : W9 2 = va_cpy (W 2) (X 2) 0 0 (V 0 1)) (h3 : W9 3 = va_cpy (W 3) (X 3) 0 0 (V 0 1))
    (h4 : W9 4 = va_cpy (W 4) (X 4) 0 0 (V 0 2)) (h5 : W9 5 = va_cpy (W 5) (X 5) 0 0 (V 0 2)) (h6 : W9 6 = va_cpy (W 6) (X 6) 0 0 (V 0 2)) (h7 : W9 7 = va_cpy (W 7) (X 7) 0 0 (V 0 2)) (h8 : W9 8 = va_cpy (W 8) (X 8) 0 0 (V 0 2)) (h9 : W9 9 = va_cpy (W 9) (X 9) 0 0 (V 0 2))
    (h10 : W9 10 = va_cpy (W 10) (X 10) 0 0 (V 0 3)) (h11 : W9 11 = va_cpy (W 11) (X 11) 0 0 (V 0 3)) (h12 : W9 12 = va_cpy (W 12) (X 12) 0 0 (V 0 3)) (h13 : W9 13 = va_cpy (W 13) (X 13) 0 0 (V 0 3)) : jr_ V I9 W9 := by
  obtain ⟨r0, r2, r3, r4, a0, a1, a2, rv, rs, rd⟩ := hr
  refine ⟨e0, e2, e3, e4, by rw [hA, jc_in (by decide)]; exact a0, by rw [hA, jc_in (by decide)]; exact a1, by rw [hA, jc_in (by decide)]; exact a2, fun p hp => ?_, fun s hs => ?_, fun k hk => ?_⟩
  · rw [h1, h2, h3, jc_in hp, jc_in hp, jc_in hp]; exact rv p hp
  · rw [h4, h5, h6, h7, h8, h9, jc_in hs, jc_in hs, jc_in hs, jc_in hs, jc_in hs, jc_in hs]; exact rs s hs
  · rw [h10, h11, h12, h13, jc_in hk, jc_in hk, jc_in hk, jc_in hk]; exact rd k hk
set_option maxRecDepth 100000 in
set_option maxHeartbeats 4000000 in
theorem c_addVoice_13 {sc : Nat × (Nat → Int32)} {s0 s2 s3 s4 s5 s6 s7 s8 s9 s10 s11 : List va_E} {V : Nat → Nat → Nat} (I : Nat → Int32) (W : Nat → Nat → Int32) (T : Nat → Value) (hr : jr_ V I W) (hk : jv_ok V) (km c : Nat) (hkm : km < 70) (hc : c < 2) (h1 : V 0 1 < 6) : jb_C sc yX9_addVoice cX9_addVoice 3 (Option.some .int) 0 0 0 [.ref 13, .int (nI km), .int (nI c)] [s0, jb_sch13 I W T, s2, s3, s4, s5, s6, s7, s8, s9, s10, s11] (fun r h9 => r = some (.int (nI (V 0 1))) ∧ ∃ I9 W9, jr_ (jm_av V (km / 10) (km % 10) c) I9 W9 ∧ I9 1 = I 1 ∧ jr_f I W I9 W9 ∧ h9 = [s0, jb_sch13 I9 W9 T, s2, s3, s4, s5, s6, s7, s8, s9, s10, s11]) := by
  refine jb_CofJ (ini := false) (by decide +kernel) (fun h => by cases h) (Nat.le_of_ble_eq_true rfl) ?_
  show jb_J sc RX9 cX9_addVoice 3 (Option.some .int) false 0 0 0 0 [some (.ref 13), some (.int (nI km)), some (.int (nI c))] [] [s0, jb_sch13 I W T, s2, s3, s4, s5, s6, s7, s8, s9, s10, s11] _
  have hr0 := hr
  obtain ⟨r0, r2, r3, r4, a0, a1, a2, rv, rs, rd⟩ := hr
  obtain ⟨k0, k1, k2, k3, k4, k5, k6, k7, kv, ks, kd⟩ := hk
  refine jb_aload_n (pc' := 1) dX9_addVoice_0 rfl rfl ?_
  refine gf_X9_27 (pc' := 4) (v := .ref 15) dX9_addVoice_1 rfl rfl rfl ?_
  refine jb_iconst (pc' := 5) 0 dX9_addVoice_4 (by decide) rfl ?_
  refine jb_aaload (pc' := 6) (i9 := 0) (r := 16) (Or.inl rfl) dX9_addVoice_5 rfl jb_x0 (by decide) rfl rfl ?_
  refine jb_aload_n (pc' := 7) dX9_addVoice_6 rfl rfl ?_
  refine gf_X9_22 (pc' := 10) (v := .int (I 2)) dX9_addVoice_7 rfl rfl rfl ?_
  refine jb_top (v := .int (I 2)) (w := .int (nI (V 0 1))) (jb_vI r2) ?_
  refine jb_iload_n (pc' := 11) dX9_addVoice_10 rfl rfl ?_
  refine jb_bipush (pc' := 13) 10 dX9_addVoice_11 (by decide) rfl ?_
  refine jb_idiv (pc' := 14) dX9_addVoice_13 (by decide) rfl ?_
  refine jb_top (v := .int ((nI km) / 10)) (w := .int (nI (km / 10))) (jb_vI (pk_div (a := km) (d := 10) (by omega) (by omega) (by omega))) ?_
  refine jb_iastore (pc' := 15) (i9 := (V 0 1)) (f := (W 1)) (h' := [s0, jb_sch13 I (va_up W 1 (upd (W 1) (V 0 1) (nI (km / 10)))) T, s2, s3, s4, s5, s6, s7, s8, s9, s10, s11]) dX9_addVoice_14 rfl (jb_ix_nI (by omega)) (by omega) rfl rfl ?_
  refine jb_aload_n (pc' := 16) dX9_addVoice_15 rfl rfl ?_
  refine gf_X9_27 (pc' := 19) (v := .ref 15) dX9_addVoice_16 rfl rfl rfl ?_
  refine jb_iconst (pc' := 20) 1 dX9_addVoice_19 (by decide) rfl ?_
  refine jb_aaload (pc' := 21) (i9 := 1) (r := 17) (Or.inl rfl) dX9_addVoice_20 rfl jb_x1 (by decide) rfl rfl ?_
  refine jb_aload_n (pc' := 22) dX9_addVoice_21 rfl rfl ?_
  refine gf_X9_22 (pc' := 25) (v := .int (I 2)) dX9_addVoice_22 rfl rfl rfl ?_
  refine jb_top (v := .int (I 2)) (w := .int (nI (V 0 1))) (jb_vI r2) ?_
  refine jb_iload_n (pc' := 26) dX9_addVoice_25 rfl rfl ?_
  refine jb_bipush (pc' := 28) 10 dX9_addVoice_26 (by decide) rfl ?_
  refine jb_irem (pc' := 29) dX9_addVoice_28 (by decide) rfl ?_
  refine jb_top (v := .int ((nI km) - (nI km) / 10 * 10)) (w := .int (nI (km % 10))) (jb_vI (pk_rem (a := km) (d := 10) (by omega) (by omega) (by omega))) ?_
  refine jb_iastore (pc' := 30) (i9 := (V 0 1)) (f := (W 2)) (h' := [s0, jb_sch13 I (va_up (va_up W 1 (upd (W 1) (V 0 1) (nI (km / 10)))) 2 (upd (W 2) (V 0 1) (nI (km % 10)))) T, s2, s3, s4, s5, s6, s7, s8, s9, s10, s11]) dX9_addVoice_29 rfl (jb_ix_nI (by omega)) (by omega) rfl rfl ?_
  refine jb_aload_n (pc' := 31) dX9_addVoice_30 rfl rfl ?_
  refine gf_X9_27 (pc' := 34) (v := .ref 15) dX9_addVoice_31 rfl rfl rfl ?_
  refine jb_iconst (pc' := 35) 2 dX9_addVoice_34 (by decide) rfl ?_
  refine jb_aaload (pc' := 36) (i9 := 2) (r := 18) (Or.inl rfl) dX9_addVoice_35 rfl jb_x2 (by decide) rfl rfl ?_
  refine jb_aload_n (pc' := 37) dX9_addVoice_36 rfl rfl ?_
  refine gf_X9_22 (pc' := 40) (v := .int (I 2)) dX9_addVoice_37 rfl rfl rfl ?_
  refine jb_top (v := .int (I 2)) (w := .int (nI (V 0 1))) (jb_vI r2) ?_
  refine jb_iload_n (pc' := 41) dX9_addVoice_40 rfl rfl ?_
  refine jb_iastore (pc' := 42) (i9 := (V 0 1)) (f := (W 3)) (h' := [s0, jb_sch13 I (va_up (va_up (va_up W 1 (upd (W 1) (V 0 1) (nI (km / 10)))) 2 (upd (W 2) (V 0 1) (nI (km % 10)))) 3 (upd (W 3) (V 0 1) (nI c))) T, s2, s3, s4, s5, s6, s7, s8, s9, s10, s11]) dX9_addVoice_41 rfl (jb_ix_nI (by omega)) (by omega) rfl rfl ?_
  refine jb_aload_n (pc' := 43) dX9_addVoice_42 rfl rfl ?_
  refine jb_dup (pc' := 44) dX9_addVoice_43 rfl rfl ?_
  refine gf_X9_22 (pc' := 47) (v := .int (I 2)) dX9_addVoice_44 rfl rfl rfl ?_
  refine jb_top (v := .int (I 2)) (w := .int (nI (V 0 1))) (jb_vI r2) ?_
  refine jb_iconst (pc' := 48) 1 dX9_addVoice_47 (by decide) rfl ?_
  refine jb_iadd (pc' := 49) dX9_addVoice_48 rfl ?_
  refine jb_top (v := .int ((nI (V 0 1)) + 1)) (w := .int (nI ((V 0 1) + 1))) (jb_vI (nI_add _ 1)) ?_
  refine pf_X9_22 (pc' := 52) (h' := [s0, jb_sch13 (upd I 2 (nI ((V 0 1) + 1))) (va_up (va_up (va_up W 1 (upd (W 1) (V 0 1) (nI (km / 10)))) 2 (upd (W 2) (V 0 1) (nI (km % 10)))) 3 (upd (W 3) (V 0 1) (nI c))) T, s2, s3, s4, s5, s6, s7, s8, s9, s10, s11]) dX9_addVoice_49 (fun _ => ⟨rfl, rfl⟩) rfl (Nat.le_of_ble_eq_true rfl) rfl rfl ?_
  refine jb_aload_n (pc' := 53) dX9_addVoice_52 rfl rfl ?_
  refine gf_X9_22 (pc' := 56) (v := .int (nI ((V 0 1) + 1))) dX9_addVoice_53 rfl rfl rfl ?_
  refine jb_iconst (pc' := 57) 1 dX9_addVoice_56 (by decide) rfl ?_
  refine jb_isub (pc' := 58) dX9_addVoice_57 rfl ?_
  refine jb_top (v := .int ((nI ((V 0 1) + 1)) - 1)) (w := .int (nI (V 0 1))) (jb_vI (nI_pred _)) ?_
  refine jb_iret dX9_addVoice_58 rfl ?_
  exact ⟨rfl, (upd I 2 (nI ((V 0 1) + 1))), (va_up (va_up (va_up W 1 (upd (W 1) (V 0 1) (nI (km / 10)))) 2 (upd (W 2) (V 0 1) (nI (km % 10)))) 3 (upd (W 3) (V 0 1) (nI c))), jr_av hr0 (km / 10) (km % 10) c, rfl, ⟨rfl, rfl, rfl, rfl⟩, rfl⟩
set_option maxRecDepth 100000 in
set_option maxHeartbeats 4000000 in
theorem c_takeRows_33_13_0 {sc : Nat × (Nat → Int32)} {s0 s3 s4 s5 s6 s7 s8 s9 s10 s11 : List va_E} (Ix : Nat → Int32) (Wx : Nat → Nat → Int32) (Tx : Nat → Value) (I : Nat → Int32) (W : Nat → Nat → Int32) (T : Nat → Value) (n : Nat) (hn : n ≤ 6) : jb_C sc yX9_takeRows cX9_takeRows 4 (Option.none : Option Jvm.ClassFile.FieldType) 1 0 0 [.ref 15, .ref 35, .int (nI n)] [s0, jb_sch13 I W T, jb_sch33 Ix Wx Tx, s3, s4, s5, s6, s7, s8, s9, s10, s11] (fun r h9 => r = none ∧ h9 = [s0, jb_sch13 I W T, jb_sch33 Ix (va_up (va_up (va_up Wx 1 (va_cpy (W 1) (Wx 1) 0 0 n)) 2 (va_cpy (W 2) (Wx 2) 0 0 n)) 3 (va_cpy (W 3) (Wx 3) 0 0 n)) Tx, s3, s4, s5, s6, s7, s8, s9, s10, s11]) := by
  refine jb_CofJ (ini := false) (by decide +kernel) (fun h => by cases h) (Nat.le_of_ble_eq_true rfl) ?_
  show jb_J sc RX9 cX9_takeRows 4 (Option.none : Option Jvm.ClassFile.FieldType) false 1 0 0 0 [some (.ref 15), some (.ref 35), some (.int (nI n)), none] [] [s0, jb_sch13 I W T, jb_sch33 Ix Wx Tx, s3, s4, s5, s6, s7, s8, s9, s10, s11] _
  refine jb_iconst (pc' := 1) 0 dX9_takeRows_0 (by decide) rfl ?_
  refine jb_istore_n_ (pc' := 2) dX9_takeRows_1 (by decide) (jb_at3 rfl) rfl ?_
  refine jb_iload_n (pc' := 3) dX9_takeRows_2 rfl rfl ?_
  refine jb_aload_n (pc' := 4) dX9_takeRows_3 rfl rfl ?_
  refine jb_alen (pc' := 5) 3 (by decide) dX9_takeRows_4 rfl (by decide) rfl ?_
  refine jb_icmp_ge (tgt := 32) (pc' := 8) dX9_takeRows_5 (by decide) rfl (fun z => absurd z (by decide)) (fun _ => ?_)
  refine jb_iload_n (pc' := 9) dX9_takeRows_8 rfl rfl ?_
  refine jb_aload_n (pc' := 10) dX9_takeRows_9 rfl rfl ?_
  refine jb_alen (pc' := 11) 3 (by decide) dX9_takeRows_10 rfl (by decide) rfl ?_
  refine jb_icmp_ge (tgt := 32) (pc' := 14) dX9_takeRows_11 (by decide) rfl (fun z => absurd z (by decide)) (fun _ => ?_)
  refine jb_aload_n (pc' := 15) dX9_takeRows_14 rfl rfl ?_
  refine jb_iload_n (pc' := 16) dX9_takeRows_15 rfl rfl ?_
  refine jb_aaload (pc' := 17) (i9 := 0) (r := 16) (Or.inl rfl) dX9_takeRows_16 rfl jb_x0 (by decide) rfl rfl ?_
  refine jb_iconst (pc' := 18) 0 dX9_takeRows_17 (by decide) rfl ?_
  refine jb_aload_n (pc' := 19) dX9_takeRows_18 rfl rfl ?_
  refine jb_iload_n (pc' := 20) dX9_takeRows_19 rfl rfl ?_
  refine jb_aaload (pc' := 21) (i9 := 0) (r := 36) (Or.inl rfl) dX9_takeRows_20 rfl jb_x0 (by decide) rfl rfl ?_
  refine jb_iconst (pc' := 22) 0 dX9_takeRows_21 (by decide) rfl ?_
  refine jb_iload_n (pc' := 23) dX9_takeRows_22 rfl rfl ?_
  refine jb_copy (pc' := 26) (sp := 0) (dp := 0) (n := n) (f := (W 1)) (g := (Wx 1)) (h' := [s0, jb_sch13 I W T, jb_sch33 Ix (va_up Wx 1 (va_cpy (W 1) (Wx 1) 0 0 n)) Tx, s3, s4, s5, s6, s7, s8, s9, s10, s11]) wo_X9_68 jb_cp2 jb_cp3 jb_cp4 dX9_takeRows_23 rfl rfl jb_x0 jb_x0 (jb_ix_nI (by omega)) (by omega) (by omega) (by decide) (Nat.le_of_ble_eq_true rfl) rfl rfl ?_
  refine jb_iinc_ (pc' := 29) 1 dX9_takeRows_26 (by decide) rfl (by decide) (jb_at3 rfl) rfl ?_
  refine jb_goto (pc' := 2) dX9_takeRows_29 (by decide) ?_
  refine jb_iload_n (pc' := 3) dX9_takeRows_2 rfl rfl ?_
  refine jb_aload_n (pc' := 4) dX9_takeRows_3 rfl rfl ?_
  refine jb_alen (pc' := 5) 3 (by decide) dX9_takeRows_4 rfl (by decide) rfl ?_
  refine jb_icmp_ge (tgt := 32) (pc' := 8) dX9_takeRows_5 (by decide) rfl (fun z => absurd z (by decide)) (fun _ => ?_)
  refine jb_iload_n (pc' := 9) dX9_takeRows_8 rfl rfl ?_
  refine jb_aload_n (pc' := 10) dX9_takeRows_9 rfl rfl ?_
  refine jb_alen (pc' := 11) 3 (by decide) dX9_takeRows_10 rfl (by decide) rfl ?_
  refine jb_icmp_ge (tgt := 32) (pc' := 14) dX9_takeRows_11 (by decide) rfl (fun z => absurd z (by decide)) (fun _ => ?_)
  refine jb_aload_n (pc' := 15) dX9_takeRows_14 rfl rfl ?_
  refine jb_iload_n (pc' := 16) dX9_takeRows_15 rfl rfl ?_
  refine jb_aaload (pc' := 17) (i9 := 1) (r := 17) (Or.inl rfl) dX9_takeRows_16 rfl jb_x1 (by decide) rfl rfl ?_
  refine jb_iconst (pc' := 18) 0 dX9_takeRows_17 (by decide) rfl ?_
  refine jb_aload_n (pc' := 19) dX9_takeRows_18 rfl rfl ?_
  refine jb_iload_n (pc' := 20) dX9_takeRows_19 rfl rfl ?_
  refine jb_aaload (pc' := 21) (i9 := 1) (r := 37) (Or.inl rfl) dX9_takeRows_20 rfl jb_x1 (by decide) rfl rfl ?_
  refine jb_iconst (pc' := 22) 0 dX9_takeRows_21 (by decide) rfl ?_
  refine jb_iload_n (pc' := 23) dX9_takeRows_22 rfl rfl ?_
  refine jb_copy (pc' := 26) (sp := 0) (dp := 0) (n := n) (f := (W 2)) (g := (Wx 2)) (h' := [s0, jb_sch13 I W T, jb_sch33 Ix (va_up (va_up Wx 1 (va_cpy (W 1) (Wx 1) 0 0 n)) 2 (va_cpy (W 2) (Wx 2) 0 0 n)) Tx, s3, s4, s5, s6, s7, s8, s9, s10, s11]) wo_X9_68 jb_cp2 jb_cp3 jb_cp4 dX9_takeRows_23 rfl rfl jb_x0 jb_x0 (jb_ix_nI (by omega)) (by omega) (by omega) (by decide) (Nat.le_of_ble_eq_true rfl) rfl rfl ?_
  refine jb_iinc_ (pc' := 29) 2 dX9_takeRows_26 (by decide) rfl (by decide) (jb_at3 rfl) rfl ?_
  refine jb_goto (pc' := 2) dX9_takeRows_29 (by decide) ?_
  refine jb_iload_n (pc' := 3) dX9_takeRows_2 rfl rfl ?_
  refine jb_aload_n (pc' := 4) dX9_takeRows_3 rfl rfl ?_
  refine jb_alen (pc' := 5) 3 (by decide) dX9_takeRows_4 rfl (by decide) rfl ?_
  refine jb_icmp_ge (tgt := 32) (pc' := 8) dX9_takeRows_5 (by decide) rfl (fun z => absurd z (by decide)) (fun _ => ?_)
  refine jb_iload_n (pc' := 9) dX9_takeRows_8 rfl rfl ?_
  refine jb_aload_n (pc' := 10) dX9_takeRows_9 rfl rfl ?_
  refine jb_alen (pc' := 11) 3 (by decide) dX9_takeRows_10 rfl (by decide) rfl ?_
  refine jb_icmp_ge (tgt := 32) (pc' := 14) dX9_takeRows_11 (by decide) rfl (fun z => absurd z (by decide)) (fun _ => ?_)
  refine jb_aload_n (pc' := 15) dX9_takeRows_14 rfl rfl ?_
  refine jb_iload_n (pc' := 16) dX9_takeRows_15 rfl rfl ?_
  refine jb_aaload (pc' := 17) (i9 := 2) (r := 18) (Or.inl rfl) dX9_takeRows_16 rfl jb_x2 (by decide) rfl rfl ?_
  refine jb_iconst (pc' := 18) 0 dX9_takeRows_17 (by decide) rfl ?_
  refine jb_aload_n (pc' := 19) dX9_takeRows_18 rfl rfl ?_
  refine jb_iload_n (pc' := 20) dX9_takeRows_19 rfl rfl ?_
  refine jb_aaload (pc' := 21) (i9 := 2) (r := 38) (Or.inl rfl) dX9_takeRows_20 rfl jb_x2 (by decide) rfl rfl ?_
  refine jb_iconst (pc' := 22) 0 dX9_takeRows_21 (by decide) rfl ?_
  refine jb_iload_n (pc' := 23) dX9_takeRows_22 rfl rfl ?_
  refine jb_copy (pc' := 26) (sp := 0) (dp := 0) (n := n) (f := (W 3)) (g := (Wx 3)) (h' := [s0, jb_sch13 I W T, jb_sch33 Ix (va_up (va_up (va_up Wx 1 (va_cpy (W 1) (Wx 1) 0 0 n)) 2 (va_cpy (W 2) (Wx 2) 0 0 n)) 3 (va_cpy (W 3) (Wx 3) 0 0 n)) Tx, s3, s4, s5, s6, s7, s8, s9, s10, s11]) wo_X9_68 jb_cp2 jb_cp3 jb_cp4 dX9_takeRows_23 rfl rfl jb_x0 jb_x0 (jb_ix_nI (by omega)) (by omega) (by omega) (by decide) (Nat.le_of_ble_eq_true rfl) rfl rfl ?_
  refine jb_iinc_ (pc' := 29) 3 dX9_takeRows_26 (by decide) rfl (by decide) (jb_at3 rfl) rfl ?_
  refine jb_goto (pc' := 2) dX9_takeRows_29 (by decide) ?_
  refine jb_iload_n (pc' := 3) dX9_takeRows_2 rfl rfl ?_
  refine jb_aload_n (pc' := 4) dX9_takeRows_3 rfl rfl ?_
  refine jb_alen (pc' := 5) 3 (by decide) dX9_takeRows_4 rfl (by decide) rfl ?_
  refine jb_icmp_ge (tgt := 32) (pc' := 8) dX9_takeRows_5 (by decide) rfl (fun _ => ?_) (fun z => absurd (by decide) z)
  refine jb_vret dX9_takeRows_32 ?_
  exact ⟨rfl, rfl⟩
set_option maxRecDepth 100000 in
set_option maxHeartbeats 4000000 in
theorem c_takeRows_33_13_1 {sc : Nat × (Nat → Int32)} {s0 s3 s4 s5 s6 s7 s8 s9 s10 s11 : List va_E} (Ix : Nat → Int32) (Wx : Nat → Nat → Int32) (Tx : Nat → Value) (I : Nat → Int32) (W : Nat → Nat → Int32) (T : Nat → Value) (n : Nat) (hn : n ≤ 40) : jb_C sc yX9_takeRows cX9_takeRows 4 (Option.none : Option Jvm.ClassFile.FieldType) 1 0 0 [.ref 19, .ref 39, .int (nI n)] [s0, jb_sch13 I W T, jb_sch33 Ix Wx Tx, s3, s4, s5, s6, s7, s8, s9, s10, s11] (fun r h9 => r = none ∧ h9 = [s0, jb_sch13 I W T, jb_sch33 Ix (va_up (va_up (va_up (va_up (va_up (va_up Wx 4 (va_cpy (W 4) (Wx 4) 0 0 n)) 5 (va_cpy (W 5) (Wx 5) 0 0 n)) 6 (va_cpy (W 6) (Wx 6) 0 0 n)) 7 (va_cpy (W 7) (Wx 7) 0 0 n)) 8 (va_cpy (W 8) (Wx 8) 0 0 n)) 9 (va_cpy (W 9) (Wx 9) 0 0 n)) Tx, s3, s4, s5, s6, s7, s8, s9, s10, s11]) := by
  refine jb_CofJ (ini := false) (by decide +kernel) (fun h => by cases h) (Nat.le_of_ble_eq_true rfl) ?_
  show jb_J sc RX9 cX9_takeRows 4 (Option.none : Option Jvm.ClassFile.FieldType) false 1 0 0 0 [some (.ref 19), some (.ref 39), some (.int (nI n)), none] [] [s0, jb_sch13 I W T, jb_sch33 Ix Wx Tx, s3, s4, s5, s6, s7, s8, s9, s10, s11] _
  refine jb_iconst (pc' := 1) 0 dX9_takeRows_0 (by decide) rfl ?_
  refine jb_istore_n_ (pc' := 2) dX9_takeRows_1 (by decide) (jb_at3 rfl) rfl ?_
  refine jb_iload_n (pc' := 3) dX9_takeRows_2 rfl rfl ?_
  refine jb_aload_n (pc' := 4) dX9_takeRows_3 rfl rfl ?_
  refine jb_alen (pc' := 5) 6 (by decide) dX9_takeRows_4 rfl (by decide) rfl ?_
  refine jb_icmp_ge (tgt := 32) (pc' := 8) dX9_takeRows_5 (by decide) rfl (fun z => absurd z (by decide)) (fun _ => ?_)
  refine jb_iload_n (pc' := 9) dX9_takeRows_8 rfl rfl ?_
  refine jb_aload_n (pc' := 10) dX9_takeRows_9 rfl rfl ?_
  refine jb_alen (pc' := 11) 6 (by decide) dX9_takeRows_10 rfl (by decide) rfl ?_
  refine jb_icmp_ge (tgt := 32) (pc' := 14) dX9_takeRows_11 (by decide) rfl (fun z => absurd z (by decide)) (fun _ => ?_)
  refine jb_aload_n (pc' := 15) dX9_takeRows_14 rfl rfl ?_
  refine jb_iload_n (pc' := 16) dX9_takeRows_15 rfl rfl ?_
  refine jb_aaload (pc' := 17) (i9 := 0) (r := 20) (Or.inl rfl) dX9_takeRows_16 rfl jb_x0 (by decide) rfl rfl ?_
  refine jb_iconst (pc' := 18) 0 dX9_takeRows_17 (by decide) rfl ?_
  refine jb_aload_n (pc' := 19) dX9_takeRows_18 rfl rfl ?_
  refine jb_iload_n (pc' := 20) dX9_takeRows_19 rfl rfl ?_
  refine jb_aaload (pc' := 21) (i9 := 0) (r := 40) (Or.inl rfl) dX9_takeRows_20 rfl jb_x0 (by decide) rfl rfl ?_
  refine jb_iconst (pc' := 22) 0 dX9_takeRows_21 (by decide) rfl ?_
  refine jb_iload_n (pc' := 23) dX9_takeRows_22 rfl rfl ?_
  refine jb_copy (pc' := 26) (sp := 0) (dp := 0) (n := n) (f := (W 4)) (g := (Wx 4)) (h' := [s0, jb_sch13 I W T, jb_sch33 Ix (va_up Wx 4 (va_cpy (W 4) (Wx 4) 0 0 n)) Tx, s3, s4, s5, s6, s7, s8, s9, s10, s11]) wo_X9_68 jb_cp2 jb_cp3 jb_cp4 dX9_takeRows_23 rfl rfl jb_x0 jb_x0 (jb_ix_nI (by omega)) (by omega) (by omega) (by decide) (Nat.le_of_ble_eq_true rfl) rfl rfl ?_
  refine jb_iinc_ (pc' := 29) 1 dX9_takeRows_26 (by decide) rfl (by decide) (jb_at3 rfl) rfl ?_
  refine jb_goto (pc' := 2) dX9_takeRows_29 (by decide) ?_
  refine jb_iload_n (pc' := 3) dX9_takeRows_2 rfl rfl ?_
  refine jb_aload_n (pc' := 4) dX9_takeRows_3 rfl rfl ?_
  refine jb_alen (pc' := 5) 6 (by decide) dX9_takeRows_4 rfl (by decide) rfl ?_
  refine jb_icmp_ge (tgt := 32) (pc' := 8) dX9_takeRows_5 (by decide) rfl (fun z => absurd z (by decide)) (fun _ => ?_)
  refine jb_iload_n (pc' := 9) dX9_takeRows_8 rfl rfl ?_
  refine jb_aload_n (pc' := 10) dX9_takeRows_9 rfl rfl ?_
  refine jb_alen (pc' := 11) 6 (by decide) dX9_takeRows_10 rfl (by decide) rfl ?_
  refine jb_icmp_ge (tgt := 32) (pc' := 14) dX9_takeRows_11 (by decide) rfl (fun z => absurd z (by decide)) (fun _ => ?_)
  refine jb_aload_n (pc' := 15) dX9_takeRows_14 rfl rfl ?_
  refine jb_iload_n (pc' := 16) dX9_takeRows_15 rfl rfl ?_
  refine jb_aaload (pc' := 17) (i9 := 1) (r := 21) (Or.inl rfl) dX9_takeRows_16 rfl jb_x1 (by decide) rfl rfl ?_
  refine jb_iconst (pc' := 18) 0 dX9_takeRows_17 (by decide) rfl ?_
  refine jb_aload_n (pc' := 19) dX9_takeRows_18 rfl rfl ?_
  refine jb_iload_n (pc' := 20) dX9_takeRows_19 rfl rfl ?_
  refine jb_aaload (pc' := 21) (i9 := 1) (r := 41) (Or.inl rfl) dX9_takeRows_20 rfl jb_x1 (by decide) rfl rfl ?_
  refine jb_iconst (pc' := 22) 0 dX9_takeRows_21 (by decide) rfl ?_
  refine jb_iload_n (pc' := 23) dX9_takeRows_22 rfl rfl ?_
  refine jb_copy (pc' := 26) (sp := 0) (dp := 0) (n := n) (f := (W 5)) (g := (Wx 5)) (h' := [s0, jb_sch13 I W T, jb_sch33 Ix (va_up (va_up Wx 4 (va_cpy (W 4) (Wx 4) 0 0 n)) 5 (va_cpy (W 5) (Wx 5) 0 0 n)) Tx, s3, s4, s5, s6, s7, s8, s9, s10, s11]) wo_X9_68 jb_cp2 jb_cp3 jb_cp4 dX9_takeRows_23 rfl rfl jb_x0 jb_x0 (jb_ix_nI (by omega)) (by omega) (by omega) (by decide) (Nat.le_of_ble_eq_true rfl) rfl rfl ?_
  refine jb_iinc_ (pc' := 29) 2 dX9_takeRows_26 (by decide) rfl (by decide) (jb_at3 rfl) rfl ?_
  refine jb_goto (pc' := 2) dX9_takeRows_29 (by decide) ?_
  refine jb_iload_n (pc' := 3) dX9_takeRows_2 rfl rfl ?_
  refine jb_aload_n (pc' := 4) dX9_takeRows_3 rfl rfl ?_
  refine jb_alen (pc' := 5) 6 (by decide) dX9_takeRows_4 rfl (by decide) rfl ?_
  refine jb_icmp_ge (tgt := 32) (pc' := 8) dX9_takeRows_5 (by decide) rfl (fun z => absurd z (by decide)) (fun _ => ?_)
  refine jb_iload_n (pc' := 9) dX9_takeRows_8 rfl rfl ?_
  refine jb_aload_n (pc' := 10) dX9_takeRows_9 rfl rfl ?_
  refine jb_alen (pc' := 11) 6 (by decide) dX9_takeRows_10 rfl (by decide) rfl ?_
  refine jb_icmp_ge (tgt := 32) (pc' := 14) dX9_takeRows_11 (by decide) rfl (fun z => absurd z (by decide)) (fun _ => ?_)
  refine jb_aload_n (pc' := 15) dX9_takeRows_14 rfl rfl ?_
  refine jb_iload_n (pc' := 16) dX9_takeRows_15 rfl rfl ?_
  refine jb_aaload (pc' := 17) (i9 := 2) (r := 22) (Or.inl rfl) dX9_takeRows_16 rfl jb_x2 (by decide) rfl rfl ?_
  refine jb_iconst (pc' := 18) 0 dX9_takeRows_17 (by decide) rfl ?_
  refine jb_aload_n (pc' := 19) dX9_takeRows_18 rfl rfl ?_
  refine jb_iload_n (pc' := 20) dX9_takeRows_19 rfl rfl ?_
  refine jb_aaload (pc' := 21) (i9 := 2) (r := 42) (Or.inl rfl) dX9_takeRows_20 rfl jb_x2 (by decide) rfl rfl ?_
  refine jb_iconst (pc' := 22) 0 dX9_takeRows_21 (by decide) rfl ?_
  refine jb_iload_n (pc' := 23) dX9_takeRows_22 rfl rfl ?_
  refine jb_copy (pc' := 26) (sp := 0) (dp := 0) (n := n) (f := (W 6)) (g := (Wx 6)) (h' := [s0, jb_sch13 I W T, jb_sch33 Ix (va_up (va_up (va_up Wx 4 (va_cpy (W 4) (Wx 4) 0 0 n)) 5 (va_cpy (W 5) (Wx 5) 0 0 n)) 6 (va_cpy (W 6) (Wx 6) 0 0 n)) Tx, s3, s4, s5, s6, s7, s8, s9, s10, s11]) wo_X9_68 jb_cp2 jb_cp3 jb_cp4 dX9_takeRows_23 rfl rfl jb_x0 jb_x0 (jb_ix_nI (by omega)) (by omega) (by omega) (by decide) (Nat.le_of_ble_eq_true rfl) rfl rfl ?_
  refine jb_iinc_ (pc' := 29) 3 dX9_takeRows_26 (by decide) rfl (by decide) (jb_at3 rfl) rfl ?_
  refine jb_goto (pc' := 2) dX9_takeRows_29 (by decide) ?_
  refine jb_iload_n (pc' := 3) dX9_takeRows_2 rfl rfl ?_
  refine jb_aload_n (pc' := 4) dX9_takeRows_3 rfl rfl ?_
  refine jb_alen (pc' := 5) 6 (by decide) dX9_takeRows_4 rfl (by decide) rfl ?_
  refine jb_icmp_ge (tgt := 32) (pc' := 8) dX9_takeRows_5 (by decide) rfl (fun z => absurd z (by decide)) (fun _ => ?_)
  refine jb_iload_n (pc' := 9) dX9_takeRows_8 rfl rfl ?_
  refine jb_aload_n (pc' := 10) dX9_takeRows_9 rfl rfl ?_
  refine jb_alen (pc' := 11) 6 (by decide) dX9_takeRows_10 rfl (by decide) rfl ?_
  refine jb_icmp_ge (tgt := 32) (pc' := 14) dX9_takeRows_11 (by decide) rfl (fun z => absurd z (by decide)) (fun _ => ?_)
  refine jb_aload_n (pc' := 15) dX9_takeRows_14 rfl rfl ?_
  refine jb_iload_n (pc' := 16) dX9_takeRows_15 rfl rfl ?_
  refine jb_aaload (pc' := 17) (i9 := 3) (r := 23) (Or.inl rfl) dX9_takeRows_16 rfl jb_x3 (by decide) rfl rfl ?_
  refine jb_iconst (pc' := 18) 0 dX9_takeRows_17 (by decide) rfl ?_
  refine jb_aload_n (pc' := 19) dX9_takeRows_18 rfl rfl ?_
  refine jb_iload_n (pc' := 20) dX9_takeRows_19 rfl rfl ?_
  refine jb_aaload (pc' := 21) (i9 := 3) (r := 43) (Or.inl rfl) dX9_takeRows_20 rfl jb_x3 (by decide) rfl rfl ?_
  refine jb_iconst (pc' := 22) 0 dX9_takeRows_21 (by decide) rfl ?_
  refine jb_iload_n (pc' := 23) dX9_takeRows_22 rfl rfl ?_
  refine jb_copy (pc' := 26) (sp := 0) (dp := 0) (n := n) (f := (W 7)) (g := (Wx 7)) (h' := [s0, jb_sch13 I W T, jb_sch33 Ix (va_up (va_up (va_up (va_up Wx 4 (va_cpy (W 4) (Wx 4) 0 0 n)) 5 (va_cpy (W 5) (Wx 5) 0 0 n)) 6 (va_cpy (W 6) (Wx 6) 0 0 n)) 7 (va_cpy (W 7) (Wx 7) 0 0 n)) Tx, s3, s4, s5, s6, s7, s8, s9, s10, s11]) wo_X9_68 jb_cp2 jb_cp3 jb_cp4 dX9_takeRows_23 rfl rfl jb_x0 jb_x0 (jb_ix_nI (by omega)) (by omega) (by omega) (by decide) (Nat.le_of_ble_eq_true rfl) rfl rfl ?_
  refine jb_iinc_ (pc' := 29) 4 dX9_takeRows_26 (by decide) rfl (by decide) (jb_at3 rfl) rfl ?_
  refine jb_goto (pc' := 2) dX9_takeRows_29 (by decide) ?_
  refine jb_iload_n (pc' := 3) dX9_takeRows_2 rfl rfl ?_
  refine jb_aload_n (pc' := 4) dX9_takeRows_3 rfl rfl ?_
  refine jb_alen (pc' := 5) 6 (by decide) dX9_takeRows_4 rfl (by decide) rfl ?_
  refine jb_icmp_ge (tgt := 32) (pc' := 8) dX9_takeRows_5 (by decide) rfl (fun z => absurd z (by decide)) (fun _ => ?_)
  refine jb_iload_n (pc' := 9) dX9_takeRows_8 rfl rfl ?_
  refine jb_aload_n (pc' := 10) dX9_takeRows_9 rfl rfl ?_
  refine jb_alen (pc' := 11) 6 (by decide) dX9_takeRows_10 rfl (by decide) rfl ?_
  refine jb_icmp_ge (tgt := 32) (pc' := 14) dX9_takeRows_11 (by decide) rfl (fun z => absurd z (by decide)) (fun _ => ?_)
  refine jb_aload_n (pc' := 15) dX9_takeRows_14 rfl rfl ?_
  refine jb_iload_n (pc' := 16) dX9_takeRows_15 rfl rfl ?_
  refine jb_aaload (pc' := 17) (i9 := 4) (r := 24) (Or.inl rfl) dX9_takeRows_16 rfl jb_x4 (by decide) rfl rfl ?_
  refine jb_iconst (pc' := 18) 0 dX9_takeRows_17 (by decide) rfl ?_
  refine jb_aload_n (pc' := 19) dX9_takeRows_18 rfl rfl ?_
  refine jb_iload_n (pc' := 20) dX9_takeRows_19 rfl rfl ?_
  refine jb_aaload (pc' := 21) (i9 := 4) (r := 44) (Or.inl rfl) dX9_takeRows_20 rfl jb_x4 (by decide) rfl rfl ?_
  refine jb_iconst (pc' := 22) 0 dX9_takeRows_21 (by decide) rfl ?_
  refine jb_iload_n (pc' := 23) dX9_takeRows_22 rfl rfl ?_
  refine jb_copy (pc' := 26) (sp := 0) (dp := 0) (n := n) (f := (W 8)) (g := (Wx 8)) (h' := [s0, jb_sch13 I W T, jb_sch33 Ix (va_up (va_up (va_up (va_up (va_up Wx 4 (va_cpy (W 4) (Wx 4) 0 0 n)) 5 (va_cpy (W 5) (Wx 5) 0 0 n)) 6 (va_cpy (W 6) (Wx 6) 0 0 n)) 7 (va_cpy (W 7) (Wx 7) 0 0 n)) 8 (va_cpy (W 8) (Wx 8) 0 0 n)) Tx, s3, s4, s5, s6, s7, s8, s9, s10, s11]) wo_X9_68 jb_cp2 jb_cp3 jb_cp4 dX9_takeRows_23 rfl rfl jb_x0 jb_x0 (jb_ix_nI (by omega)) (by omega) (by omega) (by decide) (Nat.le_of_ble_eq_true rfl) rfl rfl ?_
  refine jb_iinc_ (pc' := 29) 5 dX9_takeRows_26 (by decide) rfl (by decide) (jb_at3 rfl) rfl ?_
  refine jb_goto (pc' := 2) dX9_takeRows_29 (by decide) ?_
  refine jb_iload_n (pc' := 3) dX9_takeRows_2 rfl rfl ?_
  refine jb_aload_n (pc' := 4) dX9_takeRows_3 rfl rfl ?_
  refine jb_alen (pc' := 5) 6 (by decide) dX9_takeRows_4 rfl (by decide) rfl ?_
  refine jb_icmp_ge (tgt := 32) (pc' := 8) dX9_takeRows_5 (by decide) rfl (fun z => absurd z (by decide)) (fun _ => ?_)
  refine jb_iload_n (pc' := 9) dX9_takeRows_8 rfl rfl ?_
  refine jb_aload_n (pc' := 10) dX9_takeRows_9 rfl rfl ?_
  refine jb_alen (pc' := 11) 6 (by decide) dX9_takeRows_10 rfl (by decide) rfl ?_
  refine jb_icmp_ge (tgt := 32) (pc' := 14) dX9_takeRows_11 (by decide) rfl (fun z => absurd z (by decide)) (fun _ => ?_)
  refine jb_aload_n (pc' := 15) dX9_takeRows_14 rfl rfl ?_
  refine jb_iload_n (pc' := 16) dX9_takeRows_15 rfl rfl ?_
  refine jb_aaload (pc' := 17) (i9 := 5) (r := 25) (Or.inl rfl) dX9_takeRows_16 rfl jb_x5 (by decide) rfl rfl ?_
  refine jb_iconst (pc' := 18) 0 dX9_takeRows_17 (by decide) rfl ?_
  refine jb_aload_n (pc' := 19) dX9_takeRows_18 rfl rfl ?_
  refine jb_iload_n (pc' := 20) dX9_takeRows_19 rfl rfl ?_
  refine jb_aaload (pc' := 21) (i9 := 5) (r := 45) (Or.inl rfl) dX9_takeRows_20 rfl jb_x5 (by decide) rfl rfl ?_
  refine jb_iconst (pc' := 22) 0 dX9_takeRows_21 (by decide) rfl ?_
  refine jb_iload_n (pc' := 23) dX9_takeRows_22 rfl rfl ?_
  refine jb_copy (pc' := 26) (sp := 0) (dp := 0) (n := n) (f := (W 9)) (g := (Wx 9)) (h' := [s0, jb_sch13 I W T, jb_sch33 Ix (va_up (va_up (va_up (va_up (va_up (va_up Wx 4 (va_cpy (W 4) (Wx 4) 0 0 n)) 5 (va_cpy (W 5) (Wx 5) 0 0 n)) 6 (va_cpy (W 6) (Wx 6) 0 0 n)) 7 (va_cpy (W 7) (Wx 7) 0 0 n)) 8 (va_cpy (W 8) (Wx 8) 0 0 n)) 9 (va_cpy (W 9) (Wx 9) 0 0 n)) Tx, s3, s4, s5, s6, s7, s8, s9, s10, s11]) wo_X9_68 jb_cp2 jb_cp3 jb_cp4 dX9_takeRows_23 rfl rfl jb_x0 jb_x0 (jb_ix_nI (by omega)) (by omega) (by omega) (by decide) (Nat.le_of_ble_eq_true rfl) rfl rfl ?_
  refine jb_iinc_ (pc' := 29) 6 dX9_takeRows_26 (by decide) rfl (by decide) (jb_at3 rfl) rfl ?_
  refine jb_goto (pc' := 2) dX9_takeRows_29 (by decide) ?_
  refine jb_iload_n (pc' := 3) dX9_takeRows_2 rfl rfl ?_
  refine jb_aload_n (pc' := 4) dX9_takeRows_3 rfl rfl ?_
  refine jb_alen (pc' := 5) 6 (by decide) dX9_takeRows_4 rfl (by decide) rfl ?_
  refine jb_icmp_ge (tgt := 32) (pc' := 8) dX9_takeRows_5 (by decide) rfl (fun _ => ?_) (fun z => absurd (by decide) z)
  refine jb_vret dX9_takeRows_32 ?_
  exact ⟨rfl, rfl⟩
set_option maxRecDepth 100000 in
set_option maxHeartbeats 4000000 in
theorem c_takeRows_33_13_2 {sc : Nat × (Nat → Int32)} {s0 s3 s4 s5 s6 s7 s8 s9 s10 s11 : List va_E} (Ix : Nat → Int32) (Wx : Nat → Nat → Int32) (Tx : Nat → Value) (I : Nat → Int32) (W : Nat → Nat → Int32) (T : Nat → Value) (n : Nat) (hn : n ≤ 12) : jb_C sc yX9_takeRows cX9_takeRows 4 (Option.none : Option Jvm.ClassFile.FieldType) 1 0 0 [.ref 26, .ref 46, .int (nI n)] [s0, jb_sch13 I W T, jb_sch33 Ix Wx Tx, s3, s4, s5, s6, s7, s8, s9, s10, s11] (fun r h9 => r = none ∧ h9 = [s0, jb_sch13 I W T, jb_sch33 Ix (va_up (va_up (va_up (va_up Wx 10 (va_cpy (W 10) (Wx 10) 0 0 n)) 11 (va_cpy (W 11) (Wx 11) 0 0 n)) 12 (va_cpy (W 12) (Wx 12) 0 0 n)) 13 (va_cpy (W 13) (Wx 13) 0 0 n)) Tx, s3, s4, s5, s6, s7, s8, s9, s10, s11]) := by
  refine jb_CofJ (ini := false) (by decide +kernel) (fun h => by cases h) (Nat.le_of_ble_eq_true rfl) ?_
  show jb_J sc RX9 cX9_takeRows 4 (Option.none : Option Jvm.ClassFile.FieldType) false 1 0 0 0 [some (.ref 26), some (.ref 46), some (.int (nI n)), none] [] [s0, jb_sch13 I W T, jb_sch33 Ix Wx Tx, s3, s4, s5, s6, s7, s8, s9, s10, s11] _
  refine jb_iconst (pc' := 1) 0 dX9_takeRows_0 (by decide) rfl ?_
  refine jb_istore_n_ (pc' := 2) dX9_takeRows_1 (by decide) (jb_at3 rfl) rfl ?_
  refine jb_iload_n (pc' := 3) dX9_takeRows_2 rfl rfl ?_
  refine jb_aload_n (pc' := 4) dX9_takeRows_3 rfl rfl ?_
  refine jb_alen (pc' := 5) 4 (by decide) dX9_takeRows_4 rfl (by decide) rfl ?_
  refine jb_icmp_ge (tgt := 32) (pc' := 8) dX9_takeRows_5 (by decide) rfl (fun z => absurd z (by decide)) (fun _ => ?_)
  refine jb_iload_n (pc' := 9) dX9_takeRows_8 rfl rfl ?_
  refine jb_aload_n (pc' := 10) dX9_takeRows_9 rfl rfl ?_
  refine jb_alen (pc' := 11) 4 (by decide) dX9_takeRows_10 rfl (by decide) rfl ?_
  refine jb_icmp_ge (tgt := 32) (pc' := 14) dX9_takeRows_11 (by decide) rfl (fun z => absurd z (by decide)) (fun _ => ?_)
  refine jb_aload_n (pc' := 15) dX9_takeRows_14 rfl rfl ?_
  refine jb_iload_n (pc' := 16) dX9_takeRows_15 rfl rfl ?_
  refine jb_aaload (pc' := 17) (i9 := 0) (r := 27) (Or.inl rfl) dX9_takeRows_16 rfl jb_x0 (by decide) rfl rfl ?_
  refine jb_iconst (pc' := 18) 0 dX9_takeRows_17 (by decide) rfl ?_
  refine jb_aload_n (pc' := 19) dX9_takeRows_18 rfl rfl ?_
  refine jb_iload_n (pc' := 20) dX9_takeRows_19 rfl rfl ?_
  refine jb_aaload (pc' := 21) (i9 := 0) (r := 47) (Or.inl rfl) dX9_takeRows_20 rfl jb_x0 (by decide) rfl rfl ?_
  refine jb_iconst (pc' := 22) 0 dX9_takeRows_21 (by decide) rfl ?_
  refine jb_iload_n (pc' := 23) dX9_takeRows_22 rfl rfl ?_
  refine jb_copy (pc' := 26) (sp := 0) (dp := 0) (n := n) (f := (W 10)) (g := (Wx 10)) (h' := [s0, jb_sch13 I W T, jb_sch33 Ix (va_up Wx 10 (va_cpy (W 10) (Wx 10) 0 0 n)) Tx, s3, s4, s5, s6, s7, s8, s9, s10, s11]) wo_X9_68 jb_cp2 jb_cp3 jb_cp4 dX9_takeRows_23 rfl rfl jb_x0 jb_x0 (jb_ix_nI (by omega)) (by omega) (by omega) (by decide) (Nat.le_of_ble_eq_true rfl) rfl rfl ?_
  refine jb_iinc_ (pc' := 29) 1 dX9_takeRows_26 (by decide) rfl (by decide) (jb_at3 rfl) rfl ?_
  refine jb_goto (pc' := 2) dX9_takeRows_29 (by decide) ?_
  refine jb_iload_n (pc' := 3) dX9_takeRows_2 rfl rfl ?_
  refine jb_aload_n (pc' := 4) dX9_takeRows_3 rfl rfl ?_
  refine jb_alen (pc' := 5) 4 (by decide) dX9_takeRows_4 rfl (by decide) rfl ?_
  refine jb_icmp_ge (tgt := 32) (pc' := 8) dX9_takeRows_5 (by decide) rfl (fun z => absurd z (by decide)) (fun _ => ?_)
  refine jb_iload_n (pc' := 9) dX9_takeRows_8 rfl rfl ?_
  refine jb_aload_n (pc' := 10) dX9_takeRows_9 rfl rfl ?_
  refine jb_alen (pc' := 11) 4 (by decide) dX9_takeRows_10 rfl (by decide) rfl ?_
  refine jb_icmp_ge (tgt := 32) (pc' := 14) dX9_takeRows_11 (by decide) rfl (fun z => absurd z (by decide)) (fun _ => ?_)
  refine jb_aload_n (pc' := 15) dX9_takeRows_14 rfl rfl ?_
  refine jb_iload_n (pc' := 16) dX9_takeRows_15 rfl rfl ?_
  refine jb_aaload (pc' := 17) (i9 := 1) (r := 28) (Or.inl rfl) dX9_takeRows_16 rfl jb_x1 (by decide) rfl rfl ?_
  refine jb_iconst (pc' := 18) 0 dX9_takeRows_17 (by decide) rfl ?_
  refine jb_aload_n (pc' := 19) dX9_takeRows_18 rfl rfl ?_
  refine jb_iload_n (pc' := 20) dX9_takeRows_19 rfl rfl ?_
  refine jb_aaload (pc' := 21) (i9 := 1) (r := 48) (Or.inl rfl) dX9_takeRows_20 rfl jb_x1 (by decide) rfl rfl ?_
  refine jb_iconst (pc' := 22) 0 dX9_takeRows_21 (by decide) rfl ?_
  refine jb_iload_n (pc' := 23) dX9_takeRows_22 rfl rfl ?_
  refine jb_copy (pc' := 26) (sp := 0) (dp := 0) (n := n) (f := (W 11)) (g := (Wx 11)) (h' := [s0, jb_sch13 I W T, jb_sch33 Ix (va_up (va_up Wx 10 (va_cpy (W 10) (Wx 10) 0 0 n)) 11 (va_cpy (W 11) (Wx 11) 0 0 n)) Tx, s3, s4, s5, s6, s7, s8, s9, s10, s11]) wo_X9_68 jb_cp2 jb_cp3 jb_cp4 dX9_takeRows_23 rfl rfl jb_x0 jb_x0 (jb_ix_nI (by omega)) (by omega) (by omega) (by decide) (Nat.le_of_ble_eq_true rfl) rfl rfl ?_
  refine jb_iinc_ (pc' := 29) 2 dX9_takeRows_26 (by decide) rfl (by decide) (jb_at3 rfl) rfl ?_
  refine jb_goto (pc' := 2) dX9_takeRows_29 (by decide) ?_
  refine jb_iload_n (pc' := 3) dX9_takeRows_2 rfl rfl ?_
  refine jb_aload_n (pc' := 4) dX9_takeRows_3 rfl rfl ?_
  refine jb_alen (pc' := 5) 4 (by decide) dX9_takeRows_4 rfl (by decide) rfl ?_
  refine jb_icmp_ge (tgt := 32) (pc' := 8) dX9_takeRows_5 (by decide) rfl (fun z => absurd z (by decide)) (fun _ => ?_)
  refine jb_iload_n (pc' := 9) dX9_takeRows_8 rfl rfl ?_
  refine jb_aload_n (pc' := 10) dX9_takeRows_9 rfl rfl ?_
  refine jb_alen (pc' := 11) 4 (by decide) dX9_takeRows_10 rfl (by decide) rfl ?_
  refine jb_icmp_ge (tgt := 32) (pc' := 14) dX9_takeRows_11 (by decide) rfl (fun z => absurd z (by decide)) (fun _ => ?_)
  refine jb_aload_n (pc' := 15) dX9_takeRows_14 rfl rfl ?_
  refine jb_iload_n (pc' := 16) dX9_takeRows_15 rfl rfl ?_
  refine jb_aaload (pc' := 17) (i9 := 2) (r := 29) (Or.inl rfl) dX9_takeRows_16 rfl jb_x2 (by decide) rfl rfl ?_
  refine jb_iconst (pc' := 18) 0 dX9_takeRows_17 (by decide) rfl ?_
  refine jb_aload_n (pc' := 19) dX9_takeRows_18 rfl rfl ?_
  refine jb_iload_n (pc' := 20) dX9_takeRows_19 rfl rfl ?_
  refine jb_aaload (pc' := 21) (i9 := 2) (r := 49) (Or.inl rfl) dX9_takeRows_20 rfl jb_x2 (by decide) rfl rfl ?_
  refine jb_iconst (pc' := 22) 0 dX9_takeRows_21 (by decide) rfl ?_
  refine jb_iload_n (pc' := 23) dX9_takeRows_22 rfl rfl ?_
  refine jb_copy (pc' := 26) (sp := 0) (dp := 0) (n := n) (f := (W 12)) (g := (Wx 12)) (h' := [s0, jb_sch13 I W T, jb_sch33 Ix (va_up (va_up (va_up Wx 10 (va_cpy (W 10) (Wx 10) 0 0 n)) 11 (va_cpy (W 11) (Wx 11) 0 0 n)) 12 (va_cpy (W 12) (Wx 12) 0 0 n)) Tx, s3, s4, s5, s6, s7, s8, s9, s10, s11]) wo_X9_68 jb_cp2 jb_cp3 jb_cp4 dX9_takeRows_23 rfl rfl jb_x0 jb_x0 (jb_ix_nI (by omega)) (by omega) (by omega) (by decide) (Nat.le_of_ble_eq_true rfl) rfl rfl ?_
  refine jb_iinc_ (pc' := 29) 3 dX9_takeRows_26 (by decide) rfl (by decide) (jb_at3 rfl) rfl ?_
  refine jb_goto (pc' := 2) dX9_takeRows_29 (by decide) ?_
  refine jb_iload_n (pc' := 3) dX9_takeRows_2 rfl rfl ?_
  refine jb_aload_n (pc' := 4) dX9_takeRows_3 rfl rfl ?_
  refine jb_alen (pc' := 5) 4 (by decide) dX9_takeRows_4 rfl (by decide) rfl ?_
  refine jb_icmp_ge (tgt := 32) (pc' := 8) dX9_takeRows_5 (by decide) rfl (fun z => absurd z (by decide)) (fun _ => ?_)
  refine jb_iload_n (pc' := 9) dX9_takeRows_8 rfl rfl ?_
  refine jb_aload_n (pc' := 10) dX9_takeRows_9 rfl rfl ?_
  refine jb_alen (pc' := 11) 4 (by decide) dX9_takeRows_10 rfl (by decide) rfl ?_
  refine jb_icmp_ge (tgt := 32) (pc' := 14) dX9_takeRows_11 (by decide) rfl (fun z => absurd z (by decide)) (fun _ => ?_)
  refine jb_aload_n (pc' := 15) dX9_takeRows_14 rfl rfl ?_
  refine jb_iload_n (pc' := 16) dX9_takeRows_15 rfl rfl ?_
  refine jb_aaload (pc' := 17) (i9 := 3) (r := 30) (Or.inl rfl) dX9_takeRows_16 rfl jb_x3 (by decide) rfl rfl ?_
  refine jb_iconst (pc' := 18) 0 dX9_takeRows_17 (by decide) rfl ?_
  refine jb_aload_n (pc' := 19) dX9_takeRows_18 rfl rfl ?_
  refine jb_iload_n (pc' := 20) dX9_takeRows_19 rfl rfl ?_
  refine jb_aaload (pc' := 21) (i9 := 3) (r := 50) (Or.inl rfl) dX9_takeRows_20 rfl jb_x3 (by decide) rfl rfl ?_
  refine jb_iconst (pc' := 22) 0 dX9_takeRows_21 (by decide) rfl ?_
  refine jb_iload_n (pc' := 23) dX9_takeRows_22 rfl rfl ?_
  refine jb_copy (pc' := 26) (sp := 0) (dp := 0) (n := n) (f := (W 13)) (g := (Wx 13)) (h' := [s0, jb_sch13 I W T, jb_sch33 Ix (va_up (va_up (va_up (va_up Wx 10 (va_cpy (W 10) (Wx 10) 0 0 n)) 11 (va_cpy (W 11) (Wx 11) 0 0 n)) 12 (va_cpy (W 12) (Wx 12) 0 0 n)) 13 (va_cpy (W 13) (Wx 13) 0 0 n)) Tx, s3, s4, s5, s6, s7, s8, s9, s10, s11]) wo_X9_68 jb_cp2 jb_cp3 jb_cp4 dX9_takeRows_23 rfl rfl jb_x0 jb_x0 (jb_ix_nI (by omega)) (by omega) (by omega) (by decide) (Nat.le_of_ble_eq_true rfl) rfl rfl ?_
  refine jb_iinc_ (pc' := 29) 4 dX9_takeRows_26 (by decide) rfl (by decide) (jb_at3 rfl) rfl ?_
  refine jb_goto (pc' := 2) dX9_takeRows_29 (by decide) ?_
  refine jb_iload_n (pc' := 3) dX9_takeRows_2 rfl rfl ?_
  refine jb_aload_n (pc' := 4) dX9_takeRows_3 rfl rfl ?_
  refine jb_alen (pc' := 5) 4 (by decide) dX9_takeRows_4 rfl (by decide) rfl ?_
  refine jb_icmp_ge (tgt := 32) (pc' := 8) dX9_takeRows_5 (by decide) rfl (fun _ => ?_) (fun z => absurd (by decide) z)
  refine jb_vret dX9_takeRows_32 ?_
  exact ⟨rfl, rfl⟩
set_option maxRecDepth 100000 in
set_option maxHeartbeats 4000000 in
theorem c_take_33_13 {sc : Nat × (Nat → Int32)} {s0 s3 s4 s5 s6 s7 s8 s9 s10 s11 : List va_E} {V : Nat → Nat → Nat} (Ix : Nat → Int32) (Wx : Nat → Nat → Int32) (Tx : Nat → Value) (I : Nat → Int32) (W : Nat → Nat → Int32) (T : Nat → Value) (hr : jr_ V I W) (hk : jv_ok V) (tp wt : Nat) (h5 : I 5 = nI tp) (h6 : I 6 = nI wt) (htp : tp ≤ 50) (hwt : wt ≤ 20) (t0 : jt_r (T 0)) (t1 : jt_r (T 1)) : jb_C sc yX9_take cX9_take 2 (Option.none : Option Jvm.ClassFile.FieldType) 2 0 0 [.ref 33, .ref 13] [s0, jb_sch13 I W T, jb_sch33 Ix Wx Tx, s3, s4, s5, s6, s7, s8, s9, s10, s11] (fun r h9 => r = none ∧ ∃ I9 W9 T9, jr_ V I9 W9 ∧ I9 1 = I 1 ∧ I9 5 = I 5 ∧ I9 6 = I 6 ∧ T9 0 = T 0 ∧ T9 1 = T 1 ∧ (∀ k, k < tp → W9 14 k = W 14 k) ∧ (∀ k, k < wt → W9 15 k = W 15 k) ∧ h9 = [s0, jb_sch13 I W T, jb_sch33 I9 W9 T9, s3, s4, s5, s6, s7, s8, s9, s10, s11]) := by
  refine jb_CofJ (ini := false) (by decide +kernel) (fun h => by cases h) (Nat.le_of_ble_eq_true rfl) ?_
  show jb_J sc RX9 cX9_take 2 (Option.none : Option Jvm.ClassFile.FieldType) false 2 0 0 0 [some (.ref 33), some (.ref 13)] [] [s0, jb_sch13 I W T, jb_sch33 Ix Wx Tx, s3, s4, s5, s6, s7, s8, s9, s10, s11] _
  have hr0 := hr
  obtain ⟨r0, r2, r3, r4, a0, a1, a2, rv, rs, rd⟩ := hr
  obtain ⟨k0, k1, k2, k3, k4, k5, k6, k7, kv, ks, kd⟩ := hk
  refine jb_aload_n (pc' := 1) dX9_take_0 rfl rfl ?_
  refine gf_X9_9 (pc' := 4) (v := .ref 14) dX9_take_1 rfl rfl rfl ?_
  refine jb_iconst (pc' := 5) 0 dX9_take_4 (by decide) rfl ?_
  refine jb_aload_n (pc' := 6) dX9_take_5 rfl rfl ?_
  refine gf_X9_9 (pc' := 9) (v := .ref 34) dX9_take_6 rfl rfl rfl ?_
  refine jb_iconst (pc' := 10) 0 dX9_take_9 (by decide) rfl ?_
  refine jb_aload_n (pc' := 11) dX9_take_10 rfl rfl ?_
  refine gf_X9_9 (pc' := 14) (v := .ref 34) dX9_take_11 rfl rfl rfl ?_
  refine jb_alen (pc' := 15) 3 (by decide) dX9_take_14 rfl rfl rfl ?_
  refine jb_copy (pc' := 18) (sp := 0) (dp := 0) (n := 3) (f := (W 0)) (g := (Wx 0)) (h' := [s0, jb_sch13 I W T, jb_sch33 Ix (va_up Wx 0 (va_cpy (W 0) (Wx 0) 0 0 3)) Tx, s3, s4, s5, s6, s7, s8, s9, s10, s11]) wo_X9_68 jb_cp2 jb_cp3 jb_cp4 dX9_take_15 rfl rfl jb_x0 jb_x0 jb_x3 (by omega) (by omega) (by decide) (Nat.le_of_ble_eq_true rfl) rfl rfl ?_
  refine jb_aload_n (pc' := 19) dX9_take_18 rfl rfl ?_
  refine jb_aload_n (pc' := 20) dX9_take_19 rfl rfl ?_
  refine gf_X9_15 (pc' := 23) (v := .int (I 0)) dX9_take_20 rfl rfl rfl ?_
  refine jb_top (v := .int (I 0)) (w := .int (nI (V 0 0))) (jb_vI r0) ?_
  refine pf_X9_15 (pc' := 26) (h' := [s0, jb_sch13 I W T, jb_sch33 (upd Ix 0 (nI (V 0 0))) (va_up Wx 0 (va_cpy (W 0) (Wx 0) 0 0 3)) Tx, s3, s4, s5, s6, s7, s8, s9, s10, s11]) dX9_take_23 (fun _ => ⟨rfl, rfl⟩) rfl (Nat.le_of_ble_eq_true rfl) rfl rfl ?_
  refine jb_aload_n (pc' := 27) dX9_take_26 rfl rfl ?_
  refine jb_aload_n (pc' := 28) dX9_take_27 rfl rfl ?_
  refine gf_X9_19 (pc' := 31) (v := .int (I 1)) dX9_take_28 rfl rfl rfl ?_
  refine pf_X9_19 (pc' := 34) (h' := [s0, jb_sch13 I W T, jb_sch33 (upd (upd Ix 0 (nI (V 0 0))) 1 (I 1)) (va_up Wx 0 (va_cpy (W 0) (Wx 0) 0 0 3)) Tx, s3, s4, s5, s6, s7, s8, s9, s10, s11]) dX9_take_31 (fun _ => ⟨rfl, rfl⟩) rfl (Nat.le_of_ble_eq_true rfl) rfl rfl ?_
  refine jb_aload_n (pc' := 35) dX9_take_34 rfl rfl ?_
  refine jb_aload_n (pc' := 36) dX9_take_35 rfl rfl ?_
  refine gf_X9_22 (pc' := 39) (v := .int (I 2)) dX9_take_36 rfl rfl rfl ?_
  refine jb_top (v := .int (I 2)) (w := .int (nI (V 0 1))) (jb_vI r2) ?_
  refine pf_X9_22 (pc' := 42) (h' := [s0, jb_sch13 I W T, jb_sch33 (upd (upd (upd Ix 0 (nI (V 0 0))) 1 (I 1)) 2 (nI (V 0 1))) (va_up Wx 0 (va_cpy (W 0) (Wx 0) 0 0 3)) Tx, s3, s4, s5, s6, s7, s8, s9, s10, s11]) dX9_take_39 (fun _ => ⟨rfl, rfl⟩) rfl (Nat.le_of_ble_eq_true rfl) rfl rfl ?_
  refine jb_aload_n (pc' := 43) dX9_take_42 rfl rfl ?_
  refine gf_X9_27 (pc' := 46) (v := .ref 15) dX9_take_43 rfl rfl rfl ?_
  refine jb_aload_n (pc' := 47) dX9_take_46 rfl rfl ?_
  refine gf_X9_27 (pc' := 50) (v := .ref 35) dX9_take_47 rfl rfl rfl ?_
  refine jb_aload_n (pc' := 51) dX9_take_50 rfl rfl ?_
  refine gf_X9_22 (pc' := 54) (v := .int (nI (V 0 1))) dX9_take_51 rfl rfl rfl ?_
  refine jb_callS (pc' := 57) (As := [.ref 15, .ref 35, .int (nI (V 0 1))]) (a2 := 0) (b2 := 0) wv_X9_74 dX9_take_54 (c_takeRows_33_13_0 (upd (upd (upd Ix 0 (nI (V 0 0))) 1 (I 1)) 2 (nI (V 0 1))) (va_up Wx 0 (va_cpy (W 0) (Wx 0) 0 0 3)) Tx I W T (V 0 1) (by omega)) rfl ⟨by decide, Nat.le_of_eq (Nat.zero_add _), Nat.le_of_eq (Nat.zero_add _)⟩ (Nat.le_of_ble_eq_true rfl) rfl (fun r h9 hq => ?_)
  obtain ⟨rfl, rfl⟩ := hq
  show jb_J _ RX9 cX9_take 2 (Option.none : Option Jvm.ClassFile.FieldType) false 2 0 0 57 [some (.ref 33), some (.ref 13)] [] [s0, jb_sch13 I W T, jb_sch33 (upd (upd (upd Ix 0 (nI (V 0 0))) 1 (I 1)) 2 (nI (V 0 1))) (va_up (va_up (va_up (va_up Wx 0 (va_cpy (W 0) (Wx 0) 0 0 3)) 1 (va_cpy (W 1) (Wx 1) 0 0 (V 0 1))) 2 (va_cpy (W 2) (Wx 2) 0 0 (V 0 1))) 3 (va_cpy (W 3) (Wx 3) 0 0 (V 0 1))) Tx, s3, s4, s5, s6, s7, s8, s9, s10, s11] _
  refine jb_aload_n (pc' := 58) dX9_take_57 rfl rfl ?_
  refine jb_aload_n (pc' := 59) dX9_take_58 rfl rfl ?_
  refine gf_X9_30 (pc' := 62) (v := .int (I 3)) dX9_take_59 rfl rfl rfl ?_
  refine jb_top (v := .int (I 3)) (w := .int (nI (V 0 2))) (jb_vI r3) ?_
  refine pf_X9_30 (pc' := 65) (h' := [s0, jb_sch13 I W T, jb_sch33 (upd (upd (upd (upd Ix 0 (nI (V 0 0))) 1 (I 1)) 2 (nI (V 0 1))) 3 (nI (V 0 2))) (va_up (va_up (va_up (va_up Wx 0 (va_cpy (W 0) (Wx 0) 0 0 3)) 1 (va_cpy (W 1) (Wx 1) 0 0 (V 0 1))) 2 (va_cpy (W 2) (Wx 2) 0 0 (V 0 1))) 3 (va_cpy (W 3) (Wx 3) 0 0 (V 0 1))) Tx, s3, s4, s5, s6, s7, s8, s9, s10, s11]) dX9_take_62 (fun _ => ⟨rfl, rfl⟩) rfl (Nat.le_of_ble_eq_true rfl) rfl rfl ?_
  refine jb_aload_n (pc' := 66) dX9_take_65 rfl rfl ?_
  refine gf_X9_33 (pc' := 69) (v := .ref 19) dX9_take_66 rfl rfl rfl ?_
  refine jb_aload_n (pc' := 70) dX9_take_69 rfl rfl ?_
  refine gf_X9_33 (pc' := 73) (v := .ref 39) dX9_take_70 rfl rfl rfl ?_
  refine jb_aload_n (pc' := 74) dX9_take_73 rfl rfl ?_
  refine gf_X9_30 (pc' := 77) (v := .int (nI (V 0 2))) dX9_take_74 rfl rfl rfl ?_
  refine jb_callS (pc' := 80) (As := [.ref 19, .ref 39, .int (nI (V 0 2))]) (a2 := 0) (b2 := 0) wv_X9_74 dX9_take_77 (c_takeRows_33_13_1 (upd (upd (upd (upd Ix 0 (nI (V 0 0))) 1 (I 1)) 2 (nI (V 0 1))) 3 (nI (V 0 2))) (va_up (va_up (va_up (va_up Wx 0 (va_cpy (W 0) (Wx 0) 0 0 3)) 1 (va_cpy (W 1) (Wx 1) 0 0 (V 0 1))) 2 (va_cpy (W 2) (Wx 2) 0 0 (V 0 1))) 3 (va_cpy (W 3) (Wx 3) 0 0 (V 0 1))) Tx I W T (V 0 2) (by omega)) rfl ⟨by decide, Nat.le_of_eq (Nat.zero_add _), Nat.le_of_eq (Nat.zero_add _)⟩ (Nat.le_of_ble_eq_true rfl) rfl (fun r h9 hq => ?_)
  obtain ⟨rfl, rfl⟩ := hq
  show jb_J _ RX9 cX9_take 2 (Option.none : Option Jvm.ClassFile.FieldType) false 2 0 0 80 [some (.ref 33), some (.ref 13)] [] [s0, jb_sch13 I W T, jb_sch33 (upd (upd (upd (upd Ix 0 (nI (V 0 0))) 1 (I 1)) 2 (nI (V 0 1))) 3 (nI (V 0 2))) (va_up (va_up (va_up (va_up (va_up (va_up (va_up (va_up (va_up (va_up Wx 0 (va_cpy (W 0) (Wx 0) 0 0 3)) 1 (va_cpy (W 1) (Wx 1) 0 0 (V 0 1))) 2 (va_cpy (W 2) (Wx 2) 0 0 (V 0 1))) 3 (va_cpy (W 3) (Wx 3) 0 0 (V 0 1))) 4 (va_cpy (W 4) (Wx 4) 0 0 (V 0 2))) 5 (va_cpy (W 5) (Wx 5) 0 0 (V 0 2))) 6 (va_cpy (W 6) (Wx 6) 0 0 (V 0 2))) 7 (va_cpy (W 7) (Wx 7) 0 0 (V 0 2))) 8 (va_cpy (W 8) (Wx 8) 0 0 (V 0 2))) 9 (va_cpy (W 9) (Wx 9) 0 0 (V 0 2))) Tx, s3, s4, s5, s6, s7, s8, s9, s10, s11] _
  refine jb_aload_n (pc' := 81) dX9_take_80 rfl rfl ?_
  refine jb_aload_n (pc' := 82) dX9_take_81 rfl rfl ?_
  refine gf_X9_36 (pc' := 85) (v := .int (I 4)) dX9_take_82 rfl rfl rfl ?_
  refine jb_top (v := .int (I 4)) (w := .int (nI (V 0 3))) (jb_vI r4) ?_
  refine pf_X9_36 (pc' := 88) (h' := [s0, jb_sch13 I W T, jb_sch33 (upd (upd (upd (upd (upd Ix 0 (nI (V 0 0))) 1 (I 1)) 2 (nI (V 0 1))) 3 (nI (V 0 2))) 4 (nI (V 0 3))) (va_up (va_up (va_up (va_up (va_up (va_up (va_up (va_up (va_up (va_up Wx 0 (va_cpy (W 0) (Wx 0) 0 0 3)) 1 (va_cpy (W 1) (Wx 1) 0 0 (V 0 1))) 2 (va_cpy (W 2) (Wx 2) 0 0 (V 0 1))) 3 (va_cpy (W 3) (Wx 3) 0 0 (V 0 1))) 4 (va_cpy (W 4) (Wx 4) 0 0 (V 0 2))) 5 (va_cpy (W 5) (Wx 5) 0 0 (V 0 2))) 6 (va_cpy (W 6) (Wx 6) 0 0 (V 0 2))) 7 (va_cpy (W 7) (Wx 7) 0 0 (V 0 2))) 8 (va_cpy (W 8) (Wx 8) 0 0 (V 0 2))) 9 (va_cpy (W 9) (Wx 9) 0 0 (V 0 2))) Tx, s3, s4, s5, s6, s7, s8, s9, s10, s11]) dX9_take_85 (fun _ => ⟨rfl, rfl⟩) rfl (Nat.le_of_ble_eq_true rfl) rfl rfl ?_
  refine jb_aload_n (pc' := 89) dX9_take_88 rfl rfl ?_
  refine gf_X9_39 (pc' := 92) (v := .ref 26) dX9_take_89 rfl rfl rfl ?_
  refine jb_aload_n (pc' := 93) dX9_take_92 rfl rfl ?_
  refine gf_X9_39 (pc' := 96) (v := .ref 46) dX9_take_93 rfl rfl rfl ?_
  refine jb_aload_n (pc' := 97) dX9_take_96 rfl rfl ?_
  refine gf_X9_36 (pc' := 100) (v := .int (nI (V 0 3))) dX9_take_97 rfl rfl rfl ?_
  refine jb_callS (pc' := 103) (As := [.ref 26, .ref 46, .int (nI (V 0 3))]) (a2 := 0) (b2 := 0) wv_X9_74 dX9_take_100 (c_takeRows_33_13_2 (upd (upd (upd (upd (upd Ix 0 (nI (V 0 0))) 1 (I 1)) 2 (nI (V 0 1))) 3 (nI (V 0 2))) 4 (nI (V 0 3))) (va_up (va_up (va_up (va_up (va_up (va_up (va_up (va_up (va_up (va_up Wx 0 (va_cpy (W 0) (Wx 0) 0 0 3)) 1 (va_cpy (W 1) (Wx 1) 0 0 (V 0 1))) 2 (va_cpy (W 2) (Wx 2) 0 0 (V 0 1))) 3 (va_cpy (W 3) (Wx 3) 0 0 (V 0 1))) 4 (va_cpy (W 4) (Wx 4) 0 0 (V 0 2))) 5 (va_cpy (W 5) (Wx 5) 0 0 (V 0 2))) 6 (va_cpy (W 6) (Wx 6) 0 0 (V 0 2))) 7 (va_cpy (W 7) (Wx 7) 0 0 (V 0 2))) 8 (va_cpy (W 8) (Wx 8) 0 0 (V 0 2))) 9 (va_cpy (W 9) (Wx 9) 0 0 (V 0 2))) Tx I W T (V 0 3) (by omega)) rfl ⟨by decide, Nat.le_of_eq (Nat.zero_add _), Nat.le_of_eq (Nat.zero_add _)⟩ (Nat.le_of_ble_eq_true rfl) rfl (fun r h9 hq => ?_)
  obtain ⟨rfl, rfl⟩ := hq
  show jb_J _ RX9 cX9_take 2 (Option.none : Option Jvm.ClassFile.FieldType) false 2 0 0 103 [some (.ref 33), some (.ref 13)] [] [s0, jb_sch13 I W T, jb_sch33 (upd (upd (upd (upd (upd Ix 0 (nI (V 0 0))) 1 (I 1)) 2 (nI (V 0 1))) 3 (nI (V 0 2))) 4 (nI (V 0 3))) (va_up (va_up (va_up (va_up (va_up (va_up (va_up (va_up (va_up (va_up (va_up (va_up (va_up (va_up Wx 0 (va_cpy (W 0) (Wx 0) 0 0 3)) 1 (va_cpy (W 1) (Wx 1) 0 0 (V 0 1))) 2 (va_cpy (W 2) (Wx 2) 0 0 (V 0 1))) 3 (va_cpy (W 3) (Wx 3) 0 0 (V 0 1))) 4 (va_cpy (W 4) (Wx 4) 0 0 (V 0 2))) 5 (va_cpy (W 5) (Wx 5) 0 0 (V 0 2))) 6 (va_cpy (W 6) (Wx 6) 0 0 (V 0 2))) 7 (va_cpy (W 7) (Wx 7) 0 0 (V 0 2))) 8 (va_cpy (W 8) (Wx 8) 0 0 (V 0 2))) 9 (va_cpy (W 9) (Wx 9) 0 0 (V 0 2))) 10 (va_cpy (W 10) (Wx 10) 0 0 (V 0 3))) 11 (va_cpy (W 11) (Wx 11) 0 0 (V 0 3))) 12 (va_cpy (W 12) (Wx 12) 0 0 (V 0 3))) 13 (va_cpy (W 13) (Wx 13) 0 0 (V 0 3))) Tx, s3, s4, s5, s6, s7, s8, s9, s10, s11] _
  refine jb_aload_n (pc' := 104) dX9_take_103 rfl rfl ?_
  refine jb_aload_n (pc' := 105) dX9_take_104 rfl rfl ?_
  refine gf_X9_42 (pc' := 108) (v := (T 0)) dX9_take_105 rfl rfl rfl ?_
  refine pf_X9_42 (pc' := 111) (h' := [s0, jb_sch13 I W T, jb_sch33 (upd (upd (upd (upd (upd Ix 0 (nI (V 0 0))) 1 (I 1)) 2 (nI (V 0 1))) 3 (nI (V 0 2))) 4 (nI (V 0 3))) (va_up (va_up (va_up (va_up (va_up (va_up (va_up (va_up (va_up (va_up (va_up (va_up (va_up (va_up Wx 0 (va_cpy (W 0) (Wx 0) 0 0 3)) 1 (va_cpy (W 1) (Wx 1) 0 0 (V 0 1))) 2 (va_cpy (W 2) (Wx 2) 0 0 (V 0 1))) 3 (va_cpy (W 3) (Wx 3) 0 0 (V 0 1))) 4 (va_cpy (W 4) (Wx 4) 0 0 (V 0 2))) 5 (va_cpy (W 5) (Wx 5) 0 0 (V 0 2))) 6 (va_cpy (W 6) (Wx 6) 0 0 (V 0 2))) 7 (va_cpy (W 7) (Wx 7) 0 0 (V 0 2))) 8 (va_cpy (W 8) (Wx 8) 0 0 (V 0 2))) 9 (va_cpy (W 9) (Wx 9) 0 0 (V 0 2))) 10 (va_cpy (W 10) (Wx 10) 0 0 (V 0 3))) 11 (va_cpy (W 11) (Wx 11) 0 0 (V 0 3))) 12 (va_cpy (W 12) (Wx 12) 0 0 (V 0 3))) 13 (va_cpy (W 13) (Wx 13) 0 0 (V 0 3))) (va_up Tx 0 ((T 0))), s3, s4, s5, s6, s7, s8, s9, s10, s11]) dX9_take_108 (jt_fits t0) rfl (Nat.le_of_ble_eq_true rfl) rfl rfl ?_
  refine jb_aload_n (pc' := 112) dX9_take_111 rfl rfl ?_
  refine jb_aload_n (pc' := 113) dX9_take_112 rfl rfl ?_
  refine gf_X9_45 (pc' := 116) (v := (T 1)) dX9_take_113 rfl rfl rfl ?_
  refine pf_X9_45 (pc' := 119) (h' := [s0, jb_sch13 I W T, jb_sch33 (upd (upd (upd (upd (upd Ix 0 (nI (V 0 0))) 1 (I 1)) 2 (nI (V 0 1))) 3 (nI (V 0 2))) 4 (nI (V 0 3))) (va_up (va_up (va_up (va_up (va_up (va_up (va_up (va_up (va_up (va_up (va_up (va_up (va_up (va_up Wx 0 (va_cpy (W 0) (Wx 0) 0 0 3)) 1 (va_cpy (W 1) (Wx 1) 0 0 (V 0 1))) 2 (va_cpy (W 2) (Wx 2) 0 0 (V 0 1))) 3 (va_cpy (W 3) (Wx 3) 0 0 (V 0 1))) 4 (va_cpy (W 4) (Wx 4) 0 0 (V 0 2))) 5 (va_cpy (W 5) (Wx 5) 0 0 (V 0 2))) 6 (va_cpy (W 6) (Wx 6) 0 0 (V 0 2))) 7 (va_cpy (W 7) (Wx 7) 0 0 (V 0 2))) 8 (va_cpy (W 8) (Wx 8) 0 0 (V 0 2))) 9 (va_cpy (W 9) (Wx 9) 0 0 (V 0 2))) 10 (va_cpy (W 10) (Wx 10) 0 0 (V 0 3))) 11 (va_cpy (W 11) (Wx 11) 0 0 (V 0 3))) 12 (va_cpy (W 12) (Wx 12) 0 0 (V 0 3))) 13 (va_cpy (W 13) (Wx 13) 0 0 (V 0 3))) (va_up (va_up Tx 0 ((T 0))) 1 ((T 1))), s3, s4, s5, s6, s7, s8, s9, s10, s11]) dX9_take_116 (jt_fits t1) rfl (Nat.le_of_ble_eq_true rfl) rfl rfl ?_
  refine jb_aload_n (pc' := 120) dX9_take_119 rfl rfl ?_
  refine jb_aload_n (pc' := 121) dX9_take_120 rfl rfl ?_
  refine gf_X9_51 (pc' := 124) (v := .int (I 5)) dX9_take_121 rfl rfl rfl ?_
  refine jb_top (v := .int (I 5)) (w := .int (nI tp)) (jb_vI h5) ?_
  refine pf_X9_51 (pc' := 127) (h' := [s0, jb_sch13 I W T, jb_sch33 (upd (upd (upd (upd (upd (upd Ix 0 (nI (V 0 0))) 1 (I 1)) 2 (nI (V 0 1))) 3 (nI (V 0 2))) 4 (nI (V 0 3))) 5 (nI tp)) (va_up (va_up (va_up (va_up (va_up (va_up (va_up (va_up (va_up (va_up (va_up (va_up (va_up (va_up Wx 0 (va_cpy (W 0) (Wx 0) 0 0 3)) 1 (va_cpy (W 1) (Wx 1) 0 0 (V 0 1))) 2 (va_cpy (W 2) (Wx 2) 0 0 (V 0 1))) 3 (va_cpy (W 3) (Wx 3) 0 0 (V 0 1))) 4 (va_cpy (W 4) (Wx 4) 0 0 (V 0 2))) 5 (va_cpy (W 5) (Wx 5) 0 0 (V 0 2))) 6 (va_cpy (W 6) (Wx 6) 0 0 (V 0 2))) 7 (va_cpy (W 7) (Wx 7) 0 0 (V 0 2))) 8 (va_cpy (W 8) (Wx 8) 0 0 (V 0 2))) 9 (va_cpy (W 9) (Wx 9) 0 0 (V 0 2))) 10 (va_cpy (W 10) (Wx 10) 0 0 (V 0 3))) 11 (va_cpy (W 11) (Wx 11) 0 0 (V 0 3))) 12 (va_cpy (W 12) (Wx 12) 0 0 (V 0 3))) 13 (va_cpy (W 13) (Wx 13) 0 0 (V 0 3))) (va_up (va_up Tx 0 ((T 0))) 1 ((T 1))), s3, s4, s5, s6, s7, s8, s9, s10, s11]) dX9_take_124 (fun _ => ⟨rfl, rfl⟩) rfl (Nat.le_of_ble_eq_true rfl) rfl rfl ?_
  refine jb_aload_n (pc' := 128) dX9_take_127 rfl rfl ?_
  refine gf_X9_48 (pc' := 131) (v := .ref 31) dX9_take_128 rfl rfl rfl ?_
  refine jb_iconst (pc' := 132) 0 dX9_take_131 (by decide) rfl ?_
  refine jb_aload_n (pc' := 133) dX9_take_132 rfl rfl ?_
  refine gf_X9_48 (pc' := 136) (v := .ref 51) dX9_take_133 rfl rfl rfl ?_
  refine jb_iconst (pc' := 137) 0 dX9_take_136 (by decide) rfl ?_
  refine jb_aload_n (pc' := 138) dX9_take_137 rfl rfl ?_
  refine gf_X9_51 (pc' := 141) (v := .int (nI tp)) dX9_take_138 rfl rfl rfl ?_
  refine jb_copy (pc' := 144) (sp := 0) (dp := 0) (n := tp) (f := (W 14)) (g := (Wx 14)) (h' := [s0, jb_sch13 I W T, jb_sch33 (upd (upd (upd (upd (upd (upd Ix 0 (nI (V 0 0))) 1 (I 1)) 2 (nI (V 0 1))) 3 (nI (V 0 2))) 4 (nI (V 0 3))) 5 (nI tp)) (va_up (va_up (va_up (va_up (va_up (va_up (va_up (va_up (va_up (va_up (va_up (va_up (va_up (va_up (va_up Wx 0 (va_cpy (W 0) (Wx 0) 0 0 3)) 1 (va_cpy (W 1) (Wx 1) 0 0 (V 0 1))) 2 (va_cpy (W 2) (Wx 2) 0 0 (V 0 1))) 3 (va_cpy (W 3) (Wx 3) 0 0 (V 0 1))) 4 (va_cpy (W 4) (Wx 4) 0 0 (V 0 2))) 5 (va_cpy (W 5) (Wx 5) 0 0 (V 0 2))) 6 (va_cpy (W 6) (Wx 6) 0 0 (V 0 2))) 7 (va_cpy (W 7) (Wx 7) 0 0 (V 0 2))) 8 (va_cpy (W 8) (Wx 8) 0 0 (V 0 2))) 9 (va_cpy (W 9) (Wx 9) 0 0 (V 0 2))) 10 (va_cpy (W 10) (Wx 10) 0 0 (V 0 3))) 11 (va_cpy (W 11) (Wx 11) 0 0 (V 0 3))) 12 (va_cpy (W 12) (Wx 12) 0 0 (V 0 3))) 13 (va_cpy (W 13) (Wx 13) 0 0 (V 0 3))) 14 (va_cpy (W 14) (Wx 14) 0 0 tp)) (va_up (va_up Tx 0 ((T 0))) 1 ((T 1))), s3, s4, s5, s6, s7, s8, s9, s10, s11]) wo_X9_68 jb_cp2 jb_cp3 jb_cp4 dX9_take_141 rfl rfl jb_x0 jb_x0 (jb_ix_nI (by omega)) (by omega) (by omega) (by decide) (Nat.le_of_ble_eq_true rfl) rfl rfl ?_
  refine jb_aload_n (pc' := 145) dX9_take_144 rfl rfl ?_
  refine jb_aload_n (pc' := 146) dX9_take_145 rfl rfl ?_
  refine gf_X9_57 (pc' := 149) (v := .int (I 6)) dX9_take_146 rfl rfl rfl ?_
  refine jb_top (v := .int (I 6)) (w := .int (nI wt)) (jb_vI h6) ?_
  refine pf_X9_57 (pc' := 152) (h' := [s0, jb_sch13 I W T, jb_sch33 (upd (upd (upd (upd (upd (upd (upd Ix 0 (nI (V 0 0))) 1 (I 1)) 2 (nI (V 0 1))) 3 (nI (V 0 2))) 4 (nI (V 0 3))) 5 (nI tp)) 6 (nI wt)) (va_up (va_up (va_up (va_up (va_up (va_up (va_up (va_up (va_up (va_up (va_up (va_up (va_up (va_up (va_up Wx 0 (va_cpy (W 0) (Wx 0) 0 0 3)) 1 (va_cpy (W 1) (Wx 1) 0 0 (V 0 1))) 2 (va_cpy (W 2) (Wx 2) 0 0 (V 0 1))) 3 (va_cpy (W 3) (Wx 3) 0 0 (V 0 1))) 4 (va_cpy (W 4) (Wx 4) 0 0 (V 0 2))) 5 (va_cpy (W 5) (Wx 5) 0 0 (V 0 2))) 6 (va_cpy (W 6) (Wx 6) 0 0 (V 0 2))) 7 (va_cpy (W 7) (Wx 7) 0 0 (V 0 2))) 8 (va_cpy (W 8) (Wx 8) 0 0 (V 0 2))) 9 (va_cpy (W 9) (Wx 9) 0 0 (V 0 2))) 10 (va_cpy (W 10) (Wx 10) 0 0 (V 0 3))) 11 (va_cpy (W 11) (Wx 11) 0 0 (V 0 3))) 12 (va_cpy (W 12) (Wx 12) 0 0 (V 0 3))) 13 (va_cpy (W 13) (Wx 13) 0 0 (V 0 3))) 14 (va_cpy (W 14) (Wx 14) 0 0 tp)) (va_up (va_up Tx 0 ((T 0))) 1 ((T 1))), s3, s4, s5, s6, s7, s8, s9, s10, s11]) dX9_take_149 (fun _ => ⟨rfl, rfl⟩) rfl (Nat.le_of_ble_eq_true rfl) rfl rfl ?_
  refine jb_aload_n (pc' := 153) dX9_take_152 rfl rfl ?_
  refine gf_X9_54 (pc' := 156) (v := .ref 32) dX9_take_153 rfl rfl rfl ?_
  refine jb_iconst (pc' := 157) 0 dX9_take_156 (by decide) rfl ?_
  refine jb_aload_n (pc' := 158) dX9_take_157 rfl rfl ?_
  refine gf_X9_54 (pc' := 161) (v := .ref 52) dX9_take_158 rfl rfl rfl ?_
  refine jb_iconst (pc' := 162) 0 dX9_take_161 (by decide) rfl ?_
  refine jb_aload_n (pc' := 163) dX9_take_162 rfl rfl ?_
  refine gf_X9_57 (pc' := 166) (v := .int (nI wt)) dX9_take_163 rfl rfl rfl ?_
  refine jb_copy (pc' := 169) (sp := 0) (dp := 0) (n := wt) (f := (W 15)) (g := (Wx 15)) (h' := [s0, jb_sch13 I W T, jb_sch33 (upd (upd (upd (upd (upd (upd (upd Ix 0 (nI (V 0 0))) 1 (I 1)) 2 (nI (V 0 1))) 3 (nI (V 0 2))) 4 (nI (V 0 3))) 5 (nI tp)) 6 (nI wt)) (va_up (va_up (va_up (va_up (va_up (va_up (va_up (va_up (va_up (va_up (va_up (va_up (va_up (va_up (va_up (va_up Wx 0 (va_cpy (W 0) (Wx 0) 0 0 3)) 1 (va_cpy (W 1) (Wx 1) 0 0 (V 0 1))) 2 (va_cpy (W 2) (Wx 2) 0 0 (V 0 1))) 3 (va_cpy (W 3) (Wx 3) 0 0 (V 0 1))) 4 (va_cpy (W 4) (Wx 4) 0 0 (V 0 2))) 5 (va_cpy (W 5) (Wx 5) 0 0 (V 0 2))) 6 (va_cpy (W 6) (Wx 6) 0 0 (V 0 2))) 7 (va_cpy (W 7) (Wx 7) 0 0 (V 0 2))) 8 (va_cpy (W 8) (Wx 8) 0 0 (V 0 2))) 9 (va_cpy (W 9) (Wx 9) 0 0 (V 0 2))) 10 (va_cpy (W 10) (Wx 10) 0 0 (V 0 3))) 11 (va_cpy (W 11) (Wx 11) 0 0 (V 0 3))) 12 (va_cpy (W 12) (Wx 12) 0 0 (V 0 3))) 13 (va_cpy (W 13) (Wx 13) 0 0 (V 0 3))) 14 (va_cpy (W 14) (Wx 14) 0 0 tp)) 15 (va_cpy (W 15) (Wx 15) 0 0 wt)) (va_up (va_up Tx 0 ((T 0))) 1 ((T 1))), s3, s4, s5, s6, s7, s8, s9, s10, s11]) wo_X9_68 jb_cp2 jb_cp3 jb_cp4 dX9_take_166 rfl rfl jb_x0 jb_x0 (jb_ix_nI (by omega)) (by omega) (by omega) (by decide) (Nat.le_of_ble_eq_true rfl) rfl rfl ?_
  refine jb_vret dX9_take_169 ?_
  exact ⟨rfl, (upd (upd (upd (upd (upd (upd (upd Ix 0 (nI (V 0 0))) 1 (I 1)) 2 (nI (V 0 1))) 3 (nI (V 0 2))) 4 (nI (V 0 3))) 5 (nI tp)) 6 (nI wt)), (va_up (va_up (va_up (va_up (va_up (va_up (va_up (va_up (va_up (va_up (va_up (va_up (va_up (va_up (va_up (va_up Wx 0 (va_cpy (W 0) (Wx 0) 0 0 3)) 1 (va_cpy (W 1) (Wx 1) 0 0 (V 0 1))) 2 (va_cpy (W 2) (Wx 2) 0 0 (V 0 1))) 3 (va_cpy (W 3) (Wx 3) 0 0 (V 0 1))) 4 (va_cpy (W 4) (Wx 4) 0 0 (V 0 2))) 5 (va_cpy (W 5) (Wx 5) 0 0 (V 0 2))) 6 (va_cpy (W 6) (Wx 6) 0 0 (V 0 2))) 7 (va_cpy (W 7) (Wx 7) 0 0 (V 0 2))) 8 (va_cpy (W 8) (Wx 8) 0 0 (V 0 2))) 9 (va_cpy (W 9) (Wx 9) 0 0 (V 0 2))) 10 (va_cpy (W 10) (Wx 10) 0 0 (V 0 3))) 11 (va_cpy (W 11) (Wx 11) 0 0 (V 0 3))) 12 (va_cpy (W 12) (Wx 12) 0 0 (V 0 3))) 13 (va_cpy (W 13) (Wx 13) 0 0 (V 0 3))) 14 (va_cpy (W 14) (Wx 14) 0 0 tp)) 15 (va_cpy (W 15) (Wx 15) 0 0 wt)), (va_up (va_up Tx 0 ((T 0))) 1 ((T 1))), jr_tk (X := Wx) hr0 rfl rfl rfl rfl rfl rfl rfl rfl rfl rfl rfl rfl rfl rfl rfl rfl rfl rfl, rfl, h5.symm, h6.symm, rfl, rfl, fun k hk => jc_in hk, fun k hk => jc_in hk, rfl⟩
set_option maxRecDepth 100000 in
set_option maxHeartbeats 4000000 in
theorem c_takeRows_13_33_0 {sc : Nat × (Nat → Int32)} {s0 s3 s4 s5 s6 s7 s8 s9 s10 s11 : List va_E} (Ix : Nat → Int32) (Wx : Nat → Nat → Int32) (Tx : Nat → Value) (I : Nat → Int32) (W : Nat → Nat → Int32) (T : Nat → Value) (n : Nat) (hn : n ≤ 6) : jb_C sc yX9_takeRows cX9_takeRows 4 (Option.none : Option Jvm.ClassFile.FieldType) 1 0 0 [.ref 35, .ref 15, .int (nI n)] [s0, jb_sch13 Ix Wx Tx, jb_sch33 I W T, s3, s4, s5, s6, s7, s8, s9, s10, s11] (fun r h9 => r = none ∧ h9 = [s0, jb_sch13 Ix (va_up (va_up (va_up Wx 1 (va_cpy (W 1) (Wx 1) 0 0 n)) 2 (va_cpy (W 2) (Wx 2) 0 0 n)) 3 (va_cpy (W 3) (Wx 3) 0 0 n)) Tx, jb_sch33 I W T, s3, s4, s5, s6, s7, s8, s9, s10, s11]) := by
  refine jb_CofJ (ini := false) (by decide +kernel) (fun h => by cases h) (Nat.le_of_ble_eq_true rfl) ?_
  show jb_J sc RX9 cX9_takeRows 4 (Option.none : Option Jvm.ClassFile.FieldType) false 1 0 0 0 [some (.ref 35), some (.ref 15), some (.int (nI n)), none] [] [s0, jb_sch13 Ix Wx Tx, jb_sch33 I W T, s3, s4, s5, s6, s7, s8, s9, s10, s11] _
  refine jb_iconst (pc' := 1) 0 dX9_takeRows_0 (by decide) rfl ?_
  refine jb_istore_n_ (pc' := 2) dX9_takeRows_1 (by decide) (jb_at3 rfl) rfl ?_
  refine jb_iload_n (pc' := 3) dX9_takeRows_2 rfl rfl ?_
  refine jb_aload_n (pc' := 4) dX9_takeRows_3 rfl rfl ?_
  refine jb_alen (pc' := 5) 3 (by decide) dX9_takeRows_4 rfl (by decide) rfl ?_
  refine jb_icmp_ge (tgt := 32) (pc' := 8) dX9_takeRows_5 (by decide) rfl (fun z => absurd z (by decide)) (fun _ => ?_)
  refine jb_iload_n (pc' := 9) dX9_takeRows_8 rfl rfl ?_
  refine jb_aload_n (pc' := 10) dX9_takeRows_9 rfl rfl ?_
  refine jb_alen (pc' := 11) 3 (by decide) dX9_takeRows_10 rfl (by decide) rfl ?_
  refine jb_icmp_ge (tgt := 32) (pc' := 14) dX9_takeRows_11 (by decide) rfl (fun z => absurd z (by decide)) (fun _ => ?_)
  refine jb_aload_n (pc' := 15) dX9_takeRows_14 rfl rfl ?_
  refine jb_iload_n (pc' := 16) dX9_takeRows_15 rfl rfl ?_
  refine jb_aaload (pc' := 17) (i9 := 0) (r := 36) (Or.inl rfl) dX9_takeRows_16 rfl jb_x0 (by decide) rfl rfl ?_
  refine jb_iconst (pc' := 18) 0 dX9_takeRows_17 (by decide) rfl ?_
  refine jb_aload_n (pc' := 19) dX9_takeRows_18 rfl rfl ?_
  refine jb_iload_n (pc' := 20) dX9_takeRows_19 rfl rfl ?_
  refine jb_aaload (pc' := 21) (i9 := 0) (r := 16) (Or.inl rfl) dX9_takeRows_20 rfl jb_x0 (by decide) rfl rfl ?_
  refine jb_iconst (pc' := 22) 0 dX9_takeRows_21 (by decide) rfl ?_
  refine jb_iload_n (pc' := 23) dX9_takeRows_22 rfl rfl ?_
  refine jb_copy (pc' := 26) (sp := 0) (dp := 0) (n := n) (f := (W 1)) (g := (Wx 1)) (h' := [s0, jb_sch13 Ix (va_up Wx 1 (va_cpy (W 1) (Wx 1) 0 0 n)) Tx, jb_sch33 I W T, s3, s4, s5, s6, s7, s8, s9, s10, s11]) wo_X9_68 jb_cp2 jb_cp3 jb_cp4 dX9_takeRows_23 rfl rfl jb_x0 jb_x0 (jb_ix_nI (by omega)) (by omega) (by omega) (by decide) (Nat.le_of_ble_eq_true rfl) rfl rfl ?_
  refine jb_iinc_ (pc' := 29) 1 dX9_takeRows_26 (by decide) rfl (by decide) (jb_at3 rfl) rfl ?_
  refine jb_goto (pc' := 2) dX9_takeRows_29 (by decide) ?_
  refine jb_iload_n (pc' := 3) dX9_takeRows_2 rfl rfl ?_
  refine jb_aload_n (pc' := 4) dX9_takeRows_3 rfl rfl ?_
  refine jb_alen (pc' := 5) 3 (by decide) dX9_takeRows_4 rfl (by decide) rfl ?_
  refine jb_icmp_ge (tgt := 32) (pc' := 8) dX9_takeRows_5 (by decide) rfl (fun z => absurd z (by decide)) (fun _ => ?_)
  refine jb_iload_n (pc' := 9) dX9_takeRows_8 rfl rfl ?_
  refine jb_aload_n (pc' := 10) dX9_takeRows_9 rfl rfl ?_
  refine jb_alen (pc' := 11) 3 (by decide) dX9_takeRows_10 rfl (by decide) rfl ?_
  refine jb_icmp_ge (tgt := 32) (pc' := 14) dX9_takeRows_11 (by decide) rfl (fun z => absurd z (by decide)) (fun _ => ?_)
  refine jb_aload_n (pc' := 15) dX9_takeRows_14 rfl rfl ?_
  refine jb_iload_n (pc' := 16) dX9_takeRows_15 rfl rfl ?_
  refine jb_aaload (pc' := 17) (i9 := 1) (r := 37) (Or.inl rfl) dX9_takeRows_16 rfl jb_x1 (by decide) rfl rfl ?_
  refine jb_iconst (pc' := 18) 0 dX9_takeRows_17 (by decide) rfl ?_
  refine jb_aload_n (pc' := 19) dX9_takeRows_18 rfl rfl ?_
  refine jb_iload_n (pc' := 20) dX9_takeRows_19 rfl rfl ?_
  refine jb_aaload (pc' := 21) (i9 := 1) (r := 17) (Or.inl rfl) dX9_takeRows_20 rfl jb_x1 (by decide) rfl rfl ?_
  refine jb_iconst (pc' := 22) 0 dX9_takeRows_21 (by decide) rfl ?_
  refine jb_iload_n (pc' := 23) dX9_takeRows_22 rfl rfl ?_
  refine jb_copy (pc' := 26) (sp := 0) (dp := 0) (n := n) (f := (W 2)) (g := (Wx 2)) (h' := [s0, jb_sch13 Ix (va_up (va_up Wx 1 (va_cpy (W 1) (Wx 1) 0 0 n)) 2 (va_cpy (W 2) (Wx 2) 0 0 n)) Tx, jb_sch33 I W T, s3, s4, s5, s6, s7, s8, s9, s10, s11]) wo_X9_68 jb_cp2 jb_cp3 jb_cp4 dX9_takeRows_23 rfl rfl jb_x0 jb_x0 (jb_ix_nI (by omega)) (by omega) (by omega) (by decide) (Nat.le_of_ble_eq_true rfl) rfl rfl ?_
  refine jb_iinc_ (pc' := 29) 2 dX9_takeRows_26 (by decide) rfl (by decide) (jb_at3 rfl) rfl ?_
  refine jb_goto (pc' := 2) dX9_takeRows_29 (by decide) ?_
  refine jb_iload_n (pc' := 3) dX9_takeRows_2 rfl rfl ?_
  refine jb_aload_n (pc' := 4) dX9_takeRows_3 rfl rfl ?_
  refine jb_alen (pc' := 5) 3 (by decide) dX9_takeRows_4 rfl (by decide) rfl ?_
  refine jb_icmp_ge (tgt := 32) (pc' := 8) dX9_takeRows_5 (by decide) rfl (fun z => absurd z (by decide)) (fun _ => ?_)
  refine jb_iload_n (pc' := 9) dX9_takeRows_8 rfl rfl ?_
  refine jb_aload_n (pc' := 10) dX9_takeRows_9 rfl rfl ?_
  refine jb_alen (pc' := 11) 3 (by decide) dX9_takeRows_10 rfl (by decide) rfl ?_
  refine jb_icmp_ge (tgt := 32) (pc' := 14) dX9_takeRows_11 (by decide) rfl (fun z => absurd z (by decide)) (fun _ => ?_)
  refine jb_aload_n (pc' := 15) dX9_takeRows_14 rfl rfl ?_
  refine jb_iload_n (pc' := 16) dX9_takeRows_15 rfl rfl ?_
  refine jb_aaload (pc' := 17) (i9 := 2) (r := 38) (Or.inl rfl) dX9_takeRows_16 rfl jb_x2 (by decide) rfl rfl ?_
  refine jb_iconst (pc' := 18) 0 dX9_takeRows_17 (by decide) rfl ?_
  refine jb_aload_n (pc' := 19) dX9_takeRows_18 rfl rfl ?_
  refine jb_iload_n (pc' := 20) dX9_takeRows_19 rfl rfl ?_
  refine jb_aaload (pc' := 21) (i9 := 2) (r := 18) (Or.inl rfl) dX9_takeRows_20 rfl jb_x2 (by decide) rfl rfl ?_
  refine jb_iconst (pc' := 22) 0 dX9_takeRows_21 (by decide) rfl ?_
  refine jb_iload_n (pc' := 23) dX9_takeRows_22 rfl rfl ?_
  refine jb_copy (pc' := 26) (sp := 0) (dp := 0) (n := n) (f := (W 3)) (g := (Wx 3)) (h' := [s0, jb_sch13 Ix (va_up (va_up (va_up Wx 1 (va_cpy (W 1) (Wx 1) 0 0 n)) 2 (va_cpy (W 2) (Wx 2) 0 0 n)) 3 (va_cpy (W 3) (Wx 3) 0 0 n)) Tx, jb_sch33 I W T, s3, s4, s5, s6, s7, s8, s9, s10, s11]) wo_X9_68 jb_cp2 jb_cp3 jb_cp4 dX9_takeRows_23 rfl rfl jb_x0 jb_x0 (jb_ix_nI (by omega)) (by omega) (by omega) (by decide) (Nat.le_of_ble_eq_true rfl) rfl rfl ?_
  refine jb_iinc_ (pc' := 29) 3 dX9_takeRows_26 (by decide) rfl (by decide) (jb_at3 rfl) rfl ?_
  refine jb_goto (pc' := 2) dX9_takeRows_29 (by decide) ?_
  refine jb_iload_n (pc' := 3) dX9_takeRows_2 rfl rfl ?_
  refine jb_aload_n (pc' := 4) dX9_takeRows_3 rfl rfl ?_
  refine jb_alen (pc' := 5) 3 (by decide) dX9_takeRows_4 rfl (by decide) rfl ?_
  refine jb_icmp_ge (tgt := 32) (pc' := 8) dX9_takeRows_5 (by decide) rfl (fun _ => ?_) (fun z => absurd (by decide) z)
  refine jb_vret dX9_takeRows_32 ?_
  exact ⟨rfl, rfl⟩
set_option maxRecDepth 100000 in
set_option maxHeartbeats 4000000 in
theorem c_takeRows_13_33_1 {sc : Nat × (Nat → Int32)} {s0 s3 s4 s5 s6 s7 s8 s9 s10 s11 : List va_E} (Ix : Nat → Int32) (Wx : Nat → Nat → Int32) (Tx : Nat → Value) (I : Nat → Int32) (W : Nat → Nat → Int32) (T : Nat → Value) (n : Nat) (hn : n ≤ 40) : jb_C sc yX9_takeRows cX9_takeRows 4 (Option.none : Option Jvm.ClassFile.FieldType) 1 0 0 [.ref 39, .ref 19, .int (nI n)] [s0, jb_sch13 Ix Wx Tx, jb_sch33 I W T, s3, s4, s5, s6, s7, s8, s9, s10, s11] (fun r h9 => r = none ∧ h9 = [s0, jb_sch13 Ix (va_up (va_up (va_up (va_up (va_up (va_up Wx 4 (va_cpy (W 4) (Wx 4) 0 0 n)) 5 (va_cpy (W 5) (Wx 5) 0 0 n)) 6 (va_cpy (W 6) (Wx 6) 0 0 n)) 7 (va_cpy (W 7) (Wx 7) 0 0 n)) 8 (va_cpy (W 8) (Wx 8) 0 0 n)) 9 (va_cpy (W 9) (Wx 9) 0 0 n)) Tx, jb_sch33 I W T, s3, s4, s5, s6, s7, s8, s9, s10, s11]) := by
  refine jb_CofJ (ini := false) (by decide +kernel) (fun h => by cases h) (Nat.le_of_ble_eq_true rfl) ?_
  show jb_J sc RX9 cX9_takeRows 4 (Option.none : Option Jvm.ClassFile.FieldType) false 1 0 0 0 [some (.ref 39), some (.ref 19), some (.int (nI n)), none] [] [s0, jb_sch13 Ix Wx Tx, jb_sch33 I W T, s3, s4, s5, s6, s7, s8, s9, s10, s11] _
  refine jb_iconst (pc' := 1) 0 dX9_takeRows_0 (by decide) rfl ?_
  refine jb_istore_n_ (pc' := 2) dX9_takeRows_1 (by decide) (jb_at3 rfl) rfl ?_
  refine jb_iload_n (pc' := 3) dX9_takeRows_2 rfl rfl ?_
  refine jb_aload_n (pc' := 4) dX9_takeRows_3 rfl rfl ?_
  refine jb_alen (pc' := 5) 6 (by decide) dX9_takeRows_4 rfl (by decide) rfl ?_
  refine jb_icmp_ge (tgt := 32) (pc' := 8) dX9_takeRows_5 (by decide) rfl (fun z => absurd z (by decide)) (fun _ => ?_)
  refine jb_iload_n (pc' := 9) dX9_takeRows_8 rfl rfl ?_
  refine jb_aload_n (pc' := 10) dX9_takeRows_9 rfl rfl ?_
  refine jb_alen (pc' := 11) 6 (by decide) dX9_takeRows_10 rfl (by decide) rfl ?_
  refine jb_icmp_ge (tgt := 32) (pc' := 14) dX9_takeRows_11 (by decide) rfl (fun z => absurd z (by decide)) (fun _ => ?_)
  refine jb_aload_n (pc' := 15) dX9_takeRows_14 rfl rfl ?_
  refine jb_iload_n (pc' := 16) dX9_takeRows_15 rfl rfl ?_
  refine jb_aaload (pc' := 17) (i9 := 0) (r := 40) (Or.inl rfl) dX9_takeRows_16 rfl jb_x0 (by decide) rfl rfl ?_
  refine jb_iconst (pc' := 18) 0 dX9_takeRows_17 (by decide) rfl ?_
  refine jb_aload_n (pc' := 19) dX9_takeRows_18 rfl rfl ?_
  refine jb_iload_n (pc' := 20) dX9_takeRows_19 rfl rfl ?_
  refine jb_aaload (pc' := 21) (i9 := 0) (r := 20) (Or.inl rfl) dX9_takeRows_20 rfl jb_x0 (by decide) rfl rfl ?_
  refine jb_iconst (pc' := 22) 0 dX9_takeRows_21 (by decide) rfl ?_
  refine jb_iload_n (pc' := 23) dX9_takeRows_22 rfl rfl ?_
  refine jb_copy (pc' := 26) (sp := 0) (dp := 0) (n := n) (f := (W 4)) (g := (Wx 4)) (h' := [s0, jb_sch13 Ix (va_up Wx 4 (va_cpy (W 4) (Wx 4) 0 0 n)) Tx, jb_sch33 I W T, s3, s4, s5, s6, s7, s8, s9, s10, s11]) wo_X9_68 jb_cp2 jb_cp3 jb_cp4 dX9_takeRows_23 rfl rfl jb_x0 jb_x0 (jb_ix_nI (by omega)) (by omega) (by omega) (by decide) (Nat.le_of_ble_eq_true rfl) rfl rfl ?_
  refine jb_iinc_ (pc' := 29) 1 dX9_takeRows_26 (by decide) rfl (by decide) (jb_at3 rfl) rfl ?_
  refine jb_goto (pc' := 2) dX9_takeRows_29 (by decide) ?_
  refine jb_iload_n (pc' := 3) dX9_takeRows_2 rfl rfl ?_
  refine jb_aload_n (pc' := 4) dX9_takeRows_3 rfl rfl ?_
  refine jb_alen (pc' := 5) 6 (by decide) dX9_takeRows_4 rfl (by decide) rfl ?_
  refine jb_icmp_ge (tgt := 32) (pc' := 8) dX9_takeRows_5 (by decide) rfl (fun z => absurd z (by decide)) (fun _ => ?_)
  refine jb_iload_n (pc' := 9) dX9_takeRows_8 rfl rfl ?_
  refine jb_aload_n (pc' := 10) dX9_takeRows_9 rfl rfl ?_
  refine jb_alen (pc' := 11) 6 (by decide) dX9_takeRows_10 rfl (by decide) rfl ?_
  refine jb_icmp_ge (tgt := 32) (pc' := 14) dX9_takeRows_11 (by decide) rfl (fun z => absurd z (by decide)) (fun _ => ?_)
  refine jb_aload_n (pc' := 15) dX9_takeRows_14 rfl rfl ?_
  refine jb_iload_n (pc' := 16) dX9_takeRows_15 rfl rfl ?_
  refine jb_aaload (pc' := 17) (i9 := 1) (r := 41) (Or.inl rfl) dX9_takeRows_16 rfl jb_x1 (by decide) rfl rfl ?_
  refine jb_iconst (pc' := 18) 0 dX9_takeRows_17 (by decide) rfl ?_
  refine jb_aload_n (pc' := 19) dX9_takeRows_18 rfl rfl ?_
  refine jb_iload_n (pc' := 20) dX9_takeRows_19 rfl rfl ?_
  refine jb_aaload (pc' := 21) (i9 := 1) (r := 21) (Or.inl rfl) dX9_takeRows_20 rfl jb_x1 (by decide) rfl rfl ?_
  refine jb_iconst (pc' := 22) 0 dX9_takeRows_21 (by decide) rfl ?_
  refine jb_iload_n (pc' := 23) dX9_takeRows_22 rfl rfl ?_
  refine jb_copy (pc' := 26) (sp := 0) (dp := 0) (n := n) (f := (W 5)) (g := (Wx 5)) (h' := [s0, jb_sch13 Ix (va_up (va_up Wx 4 (va_cpy (W 4) (Wx 4) 0 0 n)) 5 (va_cpy (W 5) (Wx 5) 0 0 n)) Tx, jb_sch33 I W T, s3, s4, s5, s6, s7, s8, s9, s10, s11]) wo_X9_68 jb_cp2 jb_cp3 jb_cp4 dX9_takeRows_23 rfl rfl jb_x0 jb_x0 (jb_ix_nI (by omega)) (by omega) (by omega) (by decide) (Nat.le_of_ble_eq_true rfl) rfl rfl ?_
  refine jb_iinc_ (pc' := 29) 2 dX9_takeRows_26 (by decide) rfl (by decide) (jb_at3 rfl) rfl ?_
  refine jb_goto (pc' := 2) dX9_takeRows_29 (by decide) ?_
  refine jb_iload_n (pc' := 3) dX9_takeRows_2 rfl rfl ?_
  refine jb_aload_n (pc' := 4) dX9_takeRows_3 rfl rfl ?_
  refine jb_alen (pc' := 5) 6 (by decide) dX9_takeRows_4 rfl (by decide) rfl ?_
  refine jb_icmp_ge (tgt := 32) (pc' := 8) dX9_takeRows_5 (by decide) rfl (fun z => absurd z (by decide)) (fun _ => ?_)
  refine jb_iload_n (pc' := 9) dX9_takeRows_8 rfl rfl ?_
  refine jb_aload_n (pc' := 10) dX9_takeRows_9 rfl rfl ?_
  refine jb_alen (pc' := 11) 6 (by decide) dX9_takeRows_10 rfl (by decide) rfl ?_
  refine jb_icmp_ge (tgt := 32) (pc' := 14) dX9_takeRows_11 (by decide) rfl (fun z => absurd z (by decide)) (fun _ => ?_)
  refine jb_aload_n (pc' := 15) dX9_takeRows_14 rfl rfl ?_
  refine jb_iload_n (pc' := 16) dX9_takeRows_15 rfl rfl ?_
  refine jb_aaload (pc' := 17) (i9 := 2) (r := 42) (Or.inl rfl) dX9_takeRows_16 rfl jb_x2 (by decide) rfl rfl ?_
  refine jb_iconst (pc' := 18) 0 dX9_takeRows_17 (by decide) rfl ?_
  refine jb_aload_n (pc' := 19) dX9_takeRows_18 rfl rfl ?_
  refine jb_iload_n (pc' := 20) dX9_takeRows_19 rfl rfl ?_
  refine jb_aaload (pc' := 21) (i9 := 2) (r := 22) (Or.inl rfl) dX9_takeRows_20 rfl jb_x2 (by decide) rfl rfl ?_
  refine jb_iconst (pc' := 22) 0 dX9_takeRows_21 (by decide) rfl ?_
  refine jb_iload_n (pc' := 23) dX9_takeRows_22 rfl rfl ?_
  refine jb_copy (pc' := 26) (sp := 0) (dp := 0) (n := n) (f := (W 6)) (g := (Wx 6)) (h' := [s0, jb_sch13 Ix (va_up (va_up (va_up Wx 4 (va_cpy (W 4) (Wx 4) 0 0 n)) 5 (va_cpy (W 5) (Wx 5) 0 0 n)) 6 (va_cpy (W 6) (Wx 6) 0 0 n)) Tx, jb_sch33 I W T, s3, s4, s5, s6, s7, s8, s9, s10, s11]) wo_X9_68 jb_cp2 jb_cp3 jb_cp4 dX9_takeRows_23 rfl rfl jb_x0 jb_x0 (jb_ix_nI (by omega)) (by omega) (by omega) (by decide) (Nat.le_of_ble_eq_true rfl) rfl rfl ?_
  refine jb_iinc_ (pc' := 29) 3 dX9_takeRows_26 (by decide) rfl (by decide) (jb_at3 rfl) rfl ?_
  refine jb_goto (pc' := 2) dX9_takeRows_29 (by decide) ?_
  refine jb_iload_n (pc' := 3) dX9_takeRows_2 rfl rfl ?_
  refine jb_aload_n (pc' := 4) dX9_takeRows_3 rfl rfl ?_
  refine jb_alen (pc' := 5) 6 (by decide) dX9_takeRows_4 rfl (by decide) rfl ?_
  refine jb_icmp_ge (tgt := 32) (pc' := 8) dX9_takeRows_5 (by decide) rfl (fun z => absurd z (by decide)) (fun _ => ?_)
  refine jb_iload_n (pc' := 9) dX9_takeRows_8 rfl rfl ?_
  refine jb_aload_n (pc' := 10) dX9_takeRows_9 rfl rfl ?_
  refine jb_alen (pc' := 11) 6 (by decide) dX9_takeRows_10 rfl (by decide) rfl ?_
  refine jb_icmp_ge (tgt := 32) (pc' := 14) dX9_takeRows_11 (by decide) rfl (fun z => absurd z (by decide)) (fun _ => ?_)
  refine jb_aload_n (pc' := 15) dX9_takeRows_14 rfl rfl ?_
  refine jb_iload_n (pc' := 16) dX9_takeRows_15 rfl rfl ?_
  refine jb_aaload (pc' := 17) (i9 := 3) (r := 43) (Or.inl rfl) dX9_takeRows_16 rfl jb_x3 (by decide) rfl rfl ?_
  refine jb_iconst (pc' := 18) 0 dX9_takeRows_17 (by decide) rfl ?_
  refine jb_aload_n (pc' := 19) dX9_takeRows_18 rfl rfl ?_
  refine jb_iload_n (pc' := 20) dX9_takeRows_19 rfl rfl ?_
  refine jb_aaload (pc' := 21) (i9 := 3) (r := 23) (Or.inl rfl) dX9_takeRows_20 rfl jb_x3 (by decide) rfl rfl ?_
  refine jb_iconst (pc' := 22) 0 dX9_takeRows_21 (by decide) rfl ?_
  refine jb_iload_n (pc' := 23) dX9_takeRows_22 rfl rfl ?_
  refine jb_copy (pc' := 26) (sp := 0) (dp := 0) (n := n) (f := (W 7)) (g := (Wx 7)) (h' := [s0, jb_sch13 Ix (va_up (va_up (va_up (va_up Wx 4 (va_cpy (W 4) (Wx 4) 0 0 n)) 5 (va_cpy (W 5) (Wx 5) 0 0 n)) 6 (va_cpy (W 6) (Wx 6) 0 0 n)) 7 (va_cpy (W 7) (Wx 7) 0 0 n)) Tx, jb_sch33 I W T, s3, s4, s5, s6, s7, s8, s9, s10, s11]) wo_X9_68 jb_cp2 jb_cp3 jb_cp4 dX9_takeRows_23 rfl rfl jb_x0 jb_x0 (jb_ix_nI (by omega)) (by omega) (by omega) (by decide) (Nat.le_of_ble_eq_true rfl) rfl rfl ?_
  refine jb_iinc_ (pc' := 29) 4 dX9_takeRows_26 (by decide) rfl (by decide) (jb_at3 rfl) rfl ?_
  refine jb_goto (pc' := 2) dX9_takeRows_29 (by decide) ?_
  refine jb_iload_n (pc' := 3) dX9_takeRows_2 rfl rfl ?_
  refine jb_aload_n (pc' := 4) dX9_takeRows_3 rfl rfl ?_
  refine jb_alen (pc' := 5) 6 (by decide) dX9_takeRows_4 rfl (by decide) rfl ?_
  refine jb_icmp_ge (tgt := 32) (pc' := 8) dX9_takeRows_5 (by decide) rfl (fun z => absurd z (by decide)) (fun _ => ?_)
  refine jb_iload_n (pc' := 9) dX9_takeRows_8 rfl rfl ?_
  refine jb_aload_n (pc' := 10) dX9_takeRows_9 rfl rfl ?_
  refine jb_alen (pc' := 11) 6 (by decide) dX9_takeRows_10 rfl (by decide) rfl ?_
  refine jb_icmp_ge (tgt := 32) (pc' := 14) dX9_takeRows_11 (by decide) rfl (fun z => absurd z (by decide)) (fun _ => ?_)
  refine jb_aload_n (pc' := 15) dX9_takeRows_14 rfl rfl ?_
  refine jb_iload_n (pc' := 16) dX9_takeRows_15 rfl rfl ?_
  refine jb_aaload (pc' := 17) (i9 := 4) (r := 44) (Or.inl rfl) dX9_takeRows_16 rfl jb_x4 (by decide) rfl rfl ?_
  refine jb_iconst (pc' := 18) 0 dX9_takeRows_17 (by decide) rfl ?_
  refine jb_aload_n (pc' := 19) dX9_takeRows_18 rfl rfl ?_
  refine jb_iload_n (pc' := 20) dX9_takeRows_19 rfl rfl ?_
  refine jb_aaload (pc' := 21) (i9 := 4) (r := 24) (Or.inl rfl) dX9_takeRows_20 rfl jb_x4 (by decide) rfl rfl ?_
  refine jb_iconst (pc' := 22) 0 dX9_takeRows_21 (by decide) rfl ?_
  refine jb_iload_n (pc' := 23) dX9_takeRows_22 rfl rfl ?_
  refine jb_copy (pc' := 26) (sp := 0) (dp := 0) (n := n) (f := (W 8)) (g := (Wx 8)) (h' := [s0, jb_sch13 Ix (va_up (va_up (va_up (va_up (va_up Wx 4 (va_cpy (W 4) (Wx 4) 0 0 n)) 5 (va_cpy (W 5) (Wx 5) 0 0 n)) 6 (va_cpy (W 6) (Wx 6) 0 0 n)) 7 (va_cpy (W 7) (Wx 7) 0 0 n)) 8 (va_cpy (W 8) (Wx 8) 0 0 n)) Tx, jb_sch33 I W T, s3, s4, s5, s6, s7, s8, s9, s10, s11]) wo_X9_68 jb_cp2 jb_cp3 jb_cp4 dX9_takeRows_23 rfl rfl jb_x0 jb_x0 (jb_ix_nI (by omega)) (by omega) (by omega) (by decide) (Nat.le_of_ble_eq_true rfl) rfl rfl ?_
  refine jb_iinc_ (pc' := 29) 5 dX9_takeRows_26 (by decide) rfl (by decide) (jb_at3 rfl) rfl ?_
  refine jb_goto (pc' := 2) dX9_takeRows_29 (by decide) ?_
  refine jb_iload_n (pc' := 3) dX9_takeRows_2 rfl rfl ?_
  refine jb_aload_n (pc' := 4) dX9_takeRows_3 rfl rfl ?_
  refine jb_alen (pc' := 5) 6 (by decide) dX9_takeRows_4 rfl (by decide) rfl ?_
  refine jb_icmp_ge (tgt := 32) (pc' := 8) dX9_takeRows_5 (by decide) rfl (fun z => absurd z (by decide)) (fun _ => ?_)
  refine jb_iload_n (pc' := 9) dX9_takeRows_8 rfl rfl ?_
  refine jb_aload_n (pc' := 10) dX9_takeRows_9 rfl rfl ?_
  refine jb_alen (pc' := 11) 6 (by decide) dX9_takeRows_10 rfl (by decide) rfl ?_
  refine jb_icmp_ge (tgt := 32) (pc' := 14) dX9_takeRows_11 (by decide) rfl (fun z => absurd z (by decide)) (fun _ => ?_)
  refine jb_aload_n (pc' := 15) dX9_takeRows_14 rfl rfl ?_
  refine jb_iload_n (pc' := 16) dX9_takeRows_15 rfl rfl ?_
  refine jb_aaload (pc' := 17) (i9 := 5) (r := 45) (Or.inl rfl) dX9_takeRows_16 rfl jb_x5 (by decide) rfl rfl ?_
  refine jb_iconst (pc' := 18) 0 dX9_takeRows_17 (by decide) rfl ?_
  refine jb_aload_n (pc' := 19) dX9_takeRows_18 rfl rfl ?_
  refine jb_iload_n (pc' := 20) dX9_takeRows_19 rfl rfl ?_
  refine jb_aaload (pc' := 21) (i9 := 5) (r := 25) (Or.inl rfl) dX9_takeRows_20 rfl jb_x5 (by decide) rfl rfl ?_
  refine jb_iconst (pc' := 22) 0 dX9_takeRows_21 (by decide) rfl ?_
  refine jb_iload_n (pc' := 23) dX9_takeRows_22 rfl rfl ?_
  refine jb_copy (pc' := 26) (sp := 0) (dp := 0) (n := n) (f := (W 9)) (g := (Wx 9)) (h' := [s0, jb_sch13 Ix (va_up (va_up (va_up (va_up (va_up (va_up Wx 4 (va_cpy (W 4) (Wx 4) 0 0 n)) 5 (va_cpy (W 5) (Wx 5) 0 0 n)) 6 (va_cpy (W 6) (Wx 6) 0 0 n)) 7 (va_cpy (W 7) (Wx 7) 0 0 n)) 8 (va_cpy (W 8) (Wx 8) 0 0 n)) 9 (va_cpy (W 9) (Wx 9) 0 0 n)) Tx, jb_sch33 I W T, s3, s4, s5, s6, s7, s8, s9, s10, s11]) wo_X9_68 jb_cp2 jb_cp3 jb_cp4 dX9_takeRows_23 rfl rfl jb_x0 jb_x0 (jb_ix_nI (by omega)) (by omega) (by omega) (by decide) (Nat.le_of_ble_eq_true rfl) rfl rfl ?_
  refine jb_iinc_ (pc' := 29) 6 dX9_takeRows_26 (by decide) rfl (by decide) (jb_at3 rfl) rfl ?_
  refine jb_goto (pc' := 2) dX9_takeRows_29 (by decide) ?_
  refine jb_iload_n (pc' := 3) dX9_takeRows_2 rfl rfl ?_
  refine jb_aload_n (pc' := 4) dX9_takeRows_3 rfl rfl ?_
  refine jb_alen (pc' := 5) 6 (by decide) dX9_takeRows_4 rfl (by decide) rfl ?_
  refine jb_icmp_ge (tgt := 32) (pc' := 8) dX9_takeRows_5 (by decide) rfl (fun _ => ?_) (fun z => absurd (by decide) z)
  refine jb_vret dX9_takeRows_32 ?_
  exact ⟨rfl, rfl⟩
set_option maxRecDepth 100000 in
set_option maxHeartbeats 4000000 in
theorem c_takeRows_13_33_2 {sc : Nat × (Nat → Int32)} {s0 s3 s4 s5 s6 s7 s8 s9 s10 s11 : List va_E} (Ix : Nat → Int32) (Wx : Nat → Nat → Int32) (Tx : Nat → Value) (I : Nat → Int32) (W : Nat → Nat → Int32) (T : Nat → Value) (n : Nat) (hn : n ≤ 12) : jb_C sc yX9_takeRows cX9_takeRows 4 (Option.none : Option Jvm.ClassFile.FieldType) 1 0 0 [.ref 46, .ref 26, .int (nI n)] [s0, jb_sch13 Ix Wx Tx, jb_sch33 I W T, s3, s4, s5, s6, s7, s8, s9, s10, s11] (fun r h9 => r = none ∧ h9 = [s0, jb_sch13 Ix (va_up (va_up (va_up (va_up Wx 10 (va_cpy (W 10) (Wx 10) 0 0 n)) 11 (va_cpy (W 11) (Wx 11) 0 0 n)) 12 (va_cpy (W 12) (Wx 12) 0 0 n)) 13 (va_cpy (W 13) (Wx 13) 0 0 n)) Tx, jb_sch33 I W T, s3, s4, s5, s6, s7, s8, s9, s10, s11]) := by
  refine jb_CofJ (ini := false) (by decide +kernel) (fun h => by cases h) (Nat.le_of_ble_eq_true rfl) ?_
  show jb_J sc RX9 cX9_takeRows 4 (Option.none : Option Jvm.ClassFile.FieldType) false 1 0 0 0 [some (.ref 46), some (.ref 26), some (.int (nI n)), none] [] [s0, jb_sch13 Ix Wx Tx, jb_sch33 I W T, s3, s4, s5, s6, s7, s8, s9, s10, s11] _
  refine jb_iconst (pc' := 1) 0 dX9_takeRows_0 (by decide) rfl ?_
  refine jb_istore_n_ (pc' := 2) dX9_takeRows_1 (by decide) (jb_at3 rfl) rfl ?_
  refine jb_iload_n (pc' := 3) dX9_takeRows_2 rfl rfl ?_
  refine jb_aload_n (pc' := 4) dX9_takeRows_3 rfl rfl ?_
  refine jb_alen (pc' := 5) 4 (by decide) dX9_takeRows_4 rfl (by decide) rfl ?_
  refine jb_icmp_ge (tgt := 32) (pc' := 8) dX9_takeRows_5 (by decide) rfl (fun z => absurd z (by decide)) (fun _ => ?_)
  refine jb_iload_n (pc' := 9) dX9_takeRows_8 rfl rfl ?_
  refine jb_aload_n (pc' := 10) dX9_takeRows_9 rfl rfl ?_
  refine jb_alen (pc' := 11) 4 (by decide) dX9_takeRows_10 rfl (by decide) rfl ?_
  refine jb_icmp_ge (tgt := 32) (pc' := 14) dX9_takeRows_11 (by decide) rfl (fun z => absurd z (by decide)) (fun _ => ?_)
  refine jb_aload_n (pc' := 15) dX9_takeRows_14 rfl rfl ?_
  refine jb_iload_n (pc' := 16) dX9_takeRows_15 rfl rfl ?_
  refine jb_aaload (pc' := 17) (i9 := 0) (r := 47) (Or.inl rfl) dX9_takeRows_16 rfl jb_x0 (by decide) rfl rfl ?_
  refine jb_iconst (pc' := 18) 0 dX9_takeRows_17 (by decide) rfl ?_
  refine jb_aload_n (pc' := 19) dX9_takeRows_18 rfl rfl ?_
  refine jb_iload_n (pc' := 20) dX9_takeRows_19 rfl rfl ?_
  refine jb_aaload (pc' := 21) (i9 := 0) (r := 27) (Or.inl rfl) dX9_takeRows_20 rfl jb_x0 (by decide) rfl rfl ?_
  refine jb_iconst (pc' := 22) 0 dX9_takeRows_21 (by decide) rfl ?_
  refine jb_iload_n (pc' := 23) dX9_takeRows_22 rfl rfl ?_
  refine jb_copy (pc' := 26) (sp := 0) (dp := 0) (n := n) (f := (W 10)) (g := (Wx 10)) (h' := [s0, jb_sch13 Ix (va_up Wx 10 (va_cpy (W 10) (Wx 10) 0 0 n)) Tx, jb_sch33 I W T, s3, s4, s5, s6, s7, s8, s9, s10, s11]) wo_X9_68 jb_cp2 jb_cp3 jb_cp4 dX9_takeRows_23 rfl rfl jb_x0 jb_x0 (jb_ix_nI (by omega)) (by omega) (by omega) (by decide) (Nat.le_of_ble_eq_true rfl) rfl rfl ?_
  refine jb_iinc_ (pc' := 29) 1 dX9_takeRows_26 (by decide) rfl (by decide) (jb_at3 rfl) rfl ?_
  refine jb_goto (pc' := 2) dX9_takeRows_29 (by decide) ?_
  refine jb_iload_n (pc' := 3) dX9_takeRows_2 rfl rfl ?_
  refine jb_aload_n (pc' := 4) dX9_takeRows_3 rfl rfl ?_
  refine jb_alen (pc' := 5) 4 (by decide) dX9_takeRows_4 rfl (by decide) rfl ?_
  refine jb_icmp_ge (tgt := 32) (pc' := 8) dX9_takeRows_5 (by decide) rfl (fun z => absurd z (by decide)) (fun _ => ?_)
  refine jb_iload_n (pc' := 9) dX9_takeRows_8 rfl rfl ?_
  refine jb_aload_n (pc' := 10) dX9_takeRows_9 rfl rfl ?_
  refine jb_alen (pc' := 11) 4 (by decide) dX9_takeRows_10 rfl (by decide) rfl ?_
  refine jb_icmp_ge (tgt := 32) (pc' := 14) dX9_takeRows_11 (by decide) rfl (fun z => absurd z (by decide)) (fun _ => ?_)
  refine jb_aload_n (pc' := 15) dX9_takeRows_14 rfl rfl ?_
  refine jb_iload_n (pc' := 16) dX9_takeRows_15 rfl rfl ?_
  refine jb_aaload (pc' := 17) (i9 := 1) (r := 48) (Or.inl rfl) dX9_takeRows_16 rfl jb_x1 (by decide) rfl rfl ?_
  refine jb_iconst (pc' := 18) 0 dX9_takeRows_17 (by decide) rfl ?_
  refine jb_aload_n (pc' := 19) dX9_takeRows_18 rfl rfl ?_
  refine jb_iload_n (pc' := 20) dX9_takeRows_19 rfl rfl ?_
  refine jb_aaload (pc' := 21) (i9 := 1) (r := 28) (Or.inl rfl) dX9_takeRows_20 rfl jb_x1 (by decide) rfl rfl ?_
  refine jb_iconst (pc' := 22) 0 dX9_takeRows_21 (by decide) rfl ?_
  refine jb_iload_n (pc' := 23) dX9_takeRows_22 rfl rfl ?_
  refine jb_copy (pc' := 26) (sp := 0) (dp := 0) (n := n) (f := (W 11)) (g := (Wx 11)) (h' := [s0, jb_sch13 Ix (va_up (va_up Wx 10 (va_cpy (W 10) (Wx 10) 0 0 n)) 11 (va_cpy (W 11) (Wx 11) 0 0 n)) Tx, jb_sch33 I W T, s3, s4, s5, s6, s7, s8, s9, s10, s11]) wo_X9_68 jb_cp2 jb_cp3 jb_cp4 dX9_takeRows_23 rfl rfl jb_x0 jb_x0 (jb_ix_nI (by omega)) (by omega) (by omega) (by decide) (Nat.le_of_ble_eq_true rfl) rfl rfl ?_
  refine jb_iinc_ (pc' := 29) 2 dX9_takeRows_26 (by decide) rfl (by decide) (jb_at3 rfl) rfl ?_
  refine jb_goto (pc' := 2) dX9_takeRows_29 (by decide) ?_
  refine jb_iload_n (pc' := 3) dX9_takeRows_2 rfl rfl ?_
  refine jb_aload_n (pc' := 4) dX9_takeRows_3 rfl rfl ?_
  refine jb_alen (pc' := 5) 4 (by decide) dX9_takeRows_4 rfl (by decide) rfl ?_
  refine jb_icmp_ge (tgt := 32) (pc' := 8) dX9_takeRows_5 (by decide) rfl (fun z => absurd z (by decide)) (fun _ => ?_)
  refine jb_iload_n (pc' := 9) dX9_takeRows_8 rfl rfl ?_
  refine jb_aload_n (pc' := 10) dX9_takeRows_9 rfl rfl ?_
  refine jb_alen (pc' := 11) 4 (by decide) dX9_takeRows_10 rfl (by decide) rfl ?_
  refine jb_icmp_ge (tgt := 32) (pc' := 14) dX9_takeRows_11 (by decide) rfl (fun z => absurd z (by decide)) (fun _ => ?_)
  refine jb_aload_n (pc' := 15) dX9_takeRows_14 rfl rfl ?_
  refine jb_iload_n (pc' := 16) dX9_takeRows_15 rfl rfl ?_
  refine jb_aaload (pc' := 17) (i9 := 2) (r := 49) (Or.inl rfl) dX9_takeRows_16 rfl jb_x2 (by decide) rfl rfl ?_
  refine jb_iconst (pc' := 18) 0 dX9_takeRows_17 (by decide) rfl ?_
  refine jb_aload_n (pc' := 19) dX9_takeRows_18 rfl rfl ?_
  refine jb_iload_n (pc' := 20) dX9_takeRows_19 rfl rfl ?_
  refine jb_aaload (pc' := 21) (i9 := 2) (r := 29) (Or.inl rfl) dX9_takeRows_20 rfl jb_x2 (by decide) rfl rfl ?_
  refine jb_iconst (pc' := 22) 0 dX9_takeRows_21 (by decide) rfl ?_
  refine jb_iload_n (pc' := 23) dX9_takeRows_22 rfl rfl ?_
  refine jb_copy (pc' := 26) (sp := 0) (dp := 0) (n := n) (f := (W 12)) (g := (Wx 12)) (h' := [s0, jb_sch13 Ix (va_up (va_up (va_up Wx 10 (va_cpy (W 10) (Wx 10) 0 0 n)) 11 (va_cpy (W 11) (Wx 11) 0 0 n)) 12 (va_cpy (W 12) (Wx 12) 0 0 n)) Tx, jb_sch33 I W T, s3, s4, s5, s6, s7, s8, s9, s10, s11]) wo_X9_68 jb_cp2 jb_cp3 jb_cp4 dX9_takeRows_23 rfl rfl jb_x0 jb_x0 (jb_ix_nI (by omega)) (by omega) (by omega) (by decide) (Nat.le_of_ble_eq_true rfl) rfl rfl ?_
  refine jb_iinc_ (pc' := 29) 3 dX9_takeRows_26 (by decide) rfl (by decide) (jb_at3 rfl) rfl ?_
  refine jb_goto (pc' := 2) dX9_takeRows_29 (by decide) ?_
  refine jb_iload_n (pc' := 3) dX9_takeRows_2 rfl rfl ?_
  refine jb_aload_n (pc' := 4) dX9_takeRows_3 rfl rfl ?_
  refine jb_alen (pc' := 5) 4 (by decide) dX9_takeRows_4 rfl (by decide) rfl ?_
  refine jb_icmp_ge (tgt := 32) (pc' := 8) dX9_takeRows_5 (by decide) rfl (fun z => absurd z (by decide)) (fun _ => ?_)
  refine jb_iload_n (pc' := 9) dX9_takeRows_8 rfl rfl ?_
  refine jb_aload_n (pc' := 10) dX9_takeRows_9 rfl rfl ?_
  refine jb_alen (pc' := 11) 4 (by decide) dX9_takeRows_10 rfl (by decide) rfl ?_
  refine jb_icmp_ge (tgt := 32) (pc' := 14) dX9_takeRows_11 (by decide) rfl (fun z => absurd z (by decide)) (fun _ => ?_)
  refine jb_aload_n (pc' := 15) dX9_takeRows_14 rfl rfl ?_
  refine jb_iload_n (pc' := 16) dX9_takeRows_15 rfl rfl ?_
  refine jb_aaload (pc' := 17) (i9 := 3) (r := 50) (Or.inl rfl) dX9_takeRows_16 rfl jb_x3 (by decide) rfl rfl ?_
  refine jb_iconst (pc' := 18) 0 dX9_takeRows_17 (by decide) rfl ?_
  refine jb_aload_n (pc' := 19) dX9_takeRows_18 rfl rfl ?_
  refine jb_iload_n (pc' := 20) dX9_takeRows_19 rfl rfl ?_
  refine jb_aaload (pc' := 21) (i9 := 3) (r := 30) (Or.inl rfl) dX9_takeRows_20 rfl jb_x3 (by decide) rfl rfl ?_
  refine jb_iconst (pc' := 22) 0 dX9_takeRows_21 (by decide) rfl ?_
  refine jb_iload_n (pc' := 23) dX9_takeRows_22 rfl rfl ?_
  refine jb_copy (pc' := 26) (sp := 0) (dp := 0) (n := n) (f := (W 13)) (g := (Wx 13)) (h' := [s0, jb_sch13 Ix (va_up (va_up (va_up (va_up Wx 10 (va_cpy (W 10) (Wx 10) 0 0 n)) 11 (va_cpy (W 11) (Wx 11) 0 0 n)) 12 (va_cpy (W 12) (Wx 12) 0 0 n)) 13 (va_cpy (W 13) (Wx 13) 0 0 n)) Tx, jb_sch33 I W T, s3, s4, s5, s6, s7, s8, s9, s10, s11]) wo_X9_68 jb_cp2 jb_cp3 jb_cp4 dX9_takeRows_23 rfl rfl jb_x0 jb_x0 (jb_ix_nI (by omega)) (by omega) (by omega) (by decide) (Nat.le_of_ble_eq_true rfl) rfl rfl ?_
  refine jb_iinc_ (pc' := 29) 4 dX9_takeRows_26 (by decide) rfl (by decide) (jb_at3 rfl) rfl ?_
  refine jb_goto (pc' := 2) dX9_takeRows_29 (by decide) ?_
  refine jb_iload_n (pc' := 3) dX9_takeRows_2 rfl rfl ?_
  refine jb_aload_n (pc' := 4) dX9_takeRows_3 rfl rfl ?_
  refine jb_alen (pc' := 5) 4 (by decide) dX9_takeRows_4 rfl (by decide) rfl ?_
  refine jb_icmp_ge (tgt := 32) (pc' := 8) dX9_takeRows_5 (by decide) rfl (fun _ => ?_) (fun z => absurd (by decide) z)
  refine jb_vret dX9_takeRows_32 ?_
  exact ⟨rfl, rfl⟩
set_option maxRecDepth 100000 in
set_option maxHeartbeats 4000000 in
theorem c_take_13_33 {sc : Nat × (Nat → Int32)} {s0 s3 s4 s5 s6 s7 s8 s9 s10 s11 : List va_E} {V : Nat → Nat → Nat} (Ix : Nat → Int32) (Wx : Nat → Nat → Int32) (Tx : Nat → Value) (I : Nat → Int32) (W : Nat → Nat → Int32) (T : Nat → Value) (hr : jr_ V I W) (hk : jv_ok V) (tp wt : Nat) (h5 : I 5 = nI tp) (h6 : I 6 = nI wt) (htp : tp ≤ 50) (hwt : wt ≤ 20) (t0 : jt_r (T 0)) (t1 : jt_r (T 1)) : jb_C sc yX9_take cX9_take 2 (Option.none : Option Jvm.ClassFile.FieldType) 2 0 0 [.ref 13, .ref 33] [s0, jb_sch13 Ix Wx Tx, jb_sch33 I W T, s3, s4, s5, s6, s7, s8, s9, s10, s11] (fun r h9 => r = none ∧ ∃ I9 W9 T9, jr_ V I9 W9 ∧ I9 1 = I 1 ∧ I9 5 = I 5 ∧ I9 6 = I 6 ∧ T9 0 = T 0 ∧ T9 1 = T 1 ∧ (∀ k, k < tp → W9 14 k = W 14 k) ∧ (∀ k, k < wt → W9 15 k = W 15 k) ∧ h9 = [s0, jb_sch13 I9 W9 T9, jb_sch33 I W T, s3, s4, s5, s6, s7, s8, s9, s10, s11]) := by
  refine jb_CofJ (ini := false) (by decide +kernel) (fun h => by cases h) (Nat.le_of_ble_eq_true rfl) ?_
  show jb_J sc RX9 cX9_take 2 (Option.none : Option Jvm.ClassFile.FieldType) false 2 0 0 0 [some (.ref 13), some (.ref 33)] [] [s0, jb_sch13 Ix Wx Tx, jb_sch33 I W T, s3, s4, s5, s6, s7, s8, s9, s10, s11] _
  have hr0 := hr
  obtain ⟨r0, r2, r3, r4, a0, a1, a2, rv, rs, rd⟩ := hr
  obtain ⟨k0, k1, k2, k3, k4, k5, k6, k7, kv, ks, kd⟩ := hk
  refine jb_aload_n (pc' := 1) dX9_take_0 rfl rfl ?_
  refine gf_X9_9 (pc' := 4) (v := .ref 34) dX9_take_1 rfl rfl rfl ?_
  refine jb_iconst (pc' := 5) 0 dX9_take_4 (by decide) rfl ?_
  refine jb_aload_n (pc' := 6) dX9_take_5 rfl rfl ?_
  refine gf_X9_9 (pc' := 9) (v := .ref 14) dX9_take_6 rfl rfl rfl ?_
  refine jb_iconst (pc' := 10) 0 dX9_take_9 (by decide) rfl ?_
  refine jb_aload_n (pc' := 11) dX9_take_10 rfl rfl ?_
  refine gf_X9_9 (pc' := 14) (v := .ref 14) dX9_take_11 rfl rfl rfl ?_
  refine jb_alen (pc' := 15) 3 (by decide) dX9_take_14 rfl rfl rfl ?_
  refine jb_copy (pc' := 18) (sp := 0) (dp := 0) (n := 3) (f := (W 0)) (g := (Wx 0)) (h' := [s0, jb_sch13 Ix (va_up Wx 0 (va_cpy (W 0) (Wx 0) 0 0 3)) Tx, jb_sch33 I W T, s3, s4, s5, s6, s7, s8, s9, s10, s11]) wo_X9_68 jb_cp2 jb_cp3 jb_cp4 dX9_take_15 rfl rfl jb_x0 jb_x0 jb_x3 (by omega) (by omega) (by decide) (Nat.le_of_ble_eq_true rfl) rfl rfl ?_
  refine jb_aload_n (pc' := 19) dX9_take_18 rfl rfl ?_
  refine jb_aload_n (pc' := 20) dX9_take_19 rfl rfl ?_
  refine gf_X9_15 (pc' := 23) (v := .int (I 0)) dX9_take_20 rfl rfl rfl ?_
  refine jb_top (v := .int (I 0)) (w := .int (nI (V 0 0))) (jb_vI r0) ?_
  refine pf_X9_15 (pc' := 26) (h' := [s0, jb_sch13 (upd Ix 0 (nI (V 0 0))) (va_up Wx 0 (va_cpy (W 0) (Wx 0) 0 0 3)) Tx, jb_sch33 I W T, s3, s4, s5, s6, s7, s8, s9, s10, s11]) dX9_take_23 (fun _ => ⟨rfl, rfl⟩) rfl (Nat.le_of_ble_eq_true rfl) rfl rfl ?_
  refine jb_aload_n (pc' := 27) dX9_take_26 rfl rfl ?_
  refine jb_aload_n (pc' := 28) dX9_take_27 rfl rfl ?_
  refine gf_X9_19 (pc' := 31) (v := .int (I 1)) dX9_take_28 rfl rfl rfl ?_
  refine pf_X9_19 (pc' := 34) (h' := [s0, jb_sch13 (upd (upd Ix 0 (nI (V 0 0))) 1 (I 1)) (va_up Wx 0 (va_cpy (W 0) (Wx 0) 0 0 3)) Tx, jb_sch33 I W T, s3, s4, s5, s6, s7, s8, s9, s10, s11]) dX9_take_31 (fun _ => ⟨rfl, rfl⟩) rfl (Nat.le_of_ble_eq_true rfl) rfl rfl ?_
  refine jb_aload_n (pc' := 35) dX9_take_34 rfl rfl ?_
  refine jb_aload_n (pc' := 36) dX9_take_35 rfl rfl ?_
  refine gf_X9_22 (pc' := 39) (v := .int (I 2)) dX9_take_36 rfl rfl rfl ?_
  refine jb_top (v := .int (I 2)) (w := .int (nI (V 0 1))) (jb_vI r2) ?_
  refine pf_X9_22 (pc' := 42) (h' := [s0, jb_sch13 (upd (upd (upd Ix 0 (nI (V 0 0))) 1 (I 1)) 2 (nI (V 0 1))) (va_up Wx 0 (va_cpy (W 0) (Wx 0) 0 0 3)) Tx, jb_sch33 I W T, s3, s4, s5, s6, s7, s8, s9, s10, s11]) dX9_take_39 (fun _ => ⟨rfl, rfl⟩) rfl (Nat.le_of_ble_eq_true rfl) rfl rfl ?_
  refine jb_aload_n (pc' := 43) dX9_take_42 rfl rfl ?_
  refine gf_X9_27 (pc' := 46) (v := .ref 35) dX9_take_43 rfl rfl rfl ?_
  refine jb_aload_n (pc' := 47) dX9_take_46 rfl rfl ?_
  refine gf_X9_27 (pc' := 50) (v := .ref 15) dX9_take_47 rfl rfl rfl ?_
  refine jb_aload_n (pc' := 51) dX9_take_50 rfl rfl ?_
  refine gf_X9_22 (pc' := 54) (v := .int (nI (V 0 1))) dX9_take_51 rfl rfl rfl ?_
  refine jb_callS (pc' := 57) (As := [.ref 35, .ref 15, .int (nI (V 0 1))]) (a2 := 0) (b2 := 0) wv_X9_74 dX9_take_54 (c_takeRows_13_33_0 (upd (upd (upd Ix 0 (nI (V 0 0))) 1 (I 1)) 2 (nI (V 0 1))) (va_up Wx 0 (va_cpy (W 0) (Wx 0) 0 0 3)) Tx I W T (V 0 1) (by omega)) rfl ⟨by decide, Nat.le_of_eq (Nat.zero_add _), Nat.le_of_eq (Nat.zero_add _)⟩ (Nat.le_of_ble_eq_true rfl) rfl (fun r h9 hq => ?_)
  obtain ⟨rfl, rfl⟩ := hq
  show jb_J _ RX9 cX9_take 2 (Option.none : Option Jvm.ClassFile.FieldType) false 2 0 0 57 [some (.ref 13), some (.ref 33)] [] [s0, jb_sch13 (upd (upd (upd Ix 0 (nI (V 0 0))) 1 (I 1)) 2 (nI (V 0 1))) (va_up (va_up (va_up (va_up Wx 0 (va_cpy (W 0) (Wx 0) 0 0 3)) 1 (va_cpy (W 1) (Wx 1) 0 0 (V 0 1))) 2 (va_cpy (W 2) (Wx 2) 0 0 (V 0 1))) 3 (va_cpy (W 3) (Wx 3) 0 0 (V 0 1))) Tx, jb_sch33 I W T, s3, s4, s5, s6, s7, s8, s9, s10, s11] _
  refine jb_aload_n (pc' := 58) dX9_take_57 rfl rfl ?_
  refine jb_aload_n (pc' := 59) dX9_take_58 rfl rfl ?_
  refine gf_X9_30 (pc' := 62) (v := .int (I 3)) dX9_take_59 rfl rfl rfl ?_
  refine jb_top (v := .int (I 3)) (w := .int (nI (V 0 2))) (jb_vI r3) ?_
  refine pf_X9_30 (pc' := 65) (h' := [s0, jb_sch13 (upd (upd (upd (upd Ix 0 (nI (V 0 0))) 1 (I 1)) 2 (nI (V 0 1))) 3 (nI (V 0 2))) (va_up (va_up (va_up (va_up Wx 0 (va_cpy (W 0) (Wx 0) 0 0 3)) 1 (va_cpy (W 1) (Wx 1) 0 0 (V 0 1))) 2 (va_cpy (W 2) (Wx 2) 0 0 (V 0 1))) 3 (va_cpy (W 3) (Wx 3) 0 0 (V 0 1))) Tx, jb_sch33 I W T, s3, s4, s5, s6, s7, s8, s9, s10, s11]) dX9_take_62 (fun _ => ⟨rfl, rfl⟩) rfl (Nat.le_of_ble_eq_true rfl) rfl rfl ?_
  refine jb_aload_n (pc' := 66) dX9_take_65 rfl rfl ?_
  refine gf_X9_33 (pc' := 69) (v := .ref 39) dX9_take_66 rfl rfl rfl ?_
  refine jb_aload_n (pc' := 70) dX9_take_69 rfl rfl ?_
  refine gf_X9_33 (pc' := 73) (v := .ref 19) dX9_take_70 rfl rfl rfl ?_
  refine jb_aload_n (pc' := 74) dX9_take_73 rfl rfl ?_
  refine gf_X9_30 (pc' := 77) (v := .int (nI (V 0 2))) dX9_take_74 rfl rfl rfl ?_
  refine jb_callS (pc' := 80) (As := [.ref 39, .ref 19, .int (nI (V 0 2))]) (a2 := 0) (b2 := 0) wv_X9_74 dX9_take_77 (c_takeRows_13_33_1 (upd (upd (upd (upd Ix 0 (nI (V 0 0))) 1 (I 1)) 2 (nI (V 0 1))) 3 (nI (V 0 2))) (va_up (va_up (va_up (va_up Wx 0 (va_cpy (W 0) (Wx 0) 0 0 3)) 1 (va_cpy (W 1) (Wx 1) 0 0 (V 0 1))) 2 (va_cpy (W 2) (Wx 2) 0 0 (V 0 1))) 3 (va_cpy (W 3) (Wx 3) 0 0 (V 0 1))) Tx I W T (V 0 2) (by omega)) rfl ⟨by decide, Nat.le_of_eq (Nat.zero_add _), Nat.le_of_eq (Nat.zero_add _)⟩ (Nat.le_of_ble_eq_true rfl) rfl (fun r h9 hq => ?_)
  obtain ⟨rfl, rfl⟩ := hq
  show jb_J _ RX9 cX9_take 2 (Option.none : Option Jvm.ClassFile.FieldType) false 2 0 0 80 [some (.ref 13), some (.ref 33)] [] [s0, jb_sch13 (upd (upd (upd (upd Ix 0 (nI (V 0 0))) 1 (I 1)) 2 (nI (V 0 1))) 3 (nI (V 0 2))) (va_up (va_up (va_up (va_up (va_up (va_up (va_up (va_up (va_up (va_up Wx 0 (va_cpy (W 0) (Wx 0) 0 0 3)) 1 (va_cpy (W 1) (Wx 1) 0 0 (V 0 1))) 2 (va_cpy (W 2) (Wx 2) 0 0 (V 0 1))) 3 (va_cpy (W 3) (Wx 3) 0 0 (V 0 1))) 4 (va_cpy (W 4) (Wx 4) 0 0 (V 0 2))) 5 (va_cpy (W 5) (Wx 5) 0 0 (V 0 2))) 6 (va_cpy (W 6) (Wx 6) 0 0 (V 0 2))) 7 (va_cpy (W 7) (Wx 7) 0 0 (V 0 2))) 8 (va_cpy (W 8) (Wx 8) 0 0 (V 0 2))) 9 (va_cpy (W 9) (Wx 9) 0 0 (V 0 2))) Tx, jb_sch33 I W T, s3, s4, s5, s6, s7, s8, s9, s10, s11] _
  refine jb_aload_n (pc' := 81) dX9_take_80 rfl rfl ?_
  refine jb_aload_n (pc' := 82) dX9_take_81 rfl rfl ?_
  refine gf_X9_36 (pc' := 85) (v := .int (I 4)) dX9_take_82 rfl rfl rfl ?_
  refine jb_top (v := .int (I 4)) (w := .int (nI (V 0 3))) (jb_vI r4) ?_
  refine pf_X9_36 (pc' := 88) (h' := [s0, jb_sch13 (upd (upd (upd (upd (upd Ix 0 (nI (V 0 0))) 1 (I 1)) 2 (nI (V 0 1))) 3 (nI (V 0 2))) 4 (nI (V 0 3))) (va_up (va_up (va_up (va_up (va_up (va_up (va_up (va_up (va_up (va_up Wx 0 (va_cpy (W 0) (Wx 0) 0 0 3)) 1 (va_cpy (W 1) (Wx 1) 0 0 (V 0 1))) 2 (va_cpy (W 2) (Wx 2) 0 0 (V 0 1))) 3 (va_cpy (W 3) (Wx 3) 0 0 (V 0 1))) 4 (va_cpy (W 4) (Wx 4) 0 0 (V 0 2))) 5 (va_cpy (W 5) (Wx 5) 0 0 (V 0 2))) 6 (va_cpy (W 6) (Wx 6) 0 0 (V 0 2))) 7 (va_cpy (W 7) (Wx 7) 0 0 (V 0 2))) 8 (va_cpy (W 8) (Wx 8) 0 0 (V 0 2))) 9 (va_cpy (W 9) (Wx 9) 0 0 (V 0 2))) Tx, jb_sch33 I W T, s3, s4, s5, s6, s7, s8, s9, s10, s11]) dX9_take_85 (fun _ => ⟨rfl, rfl⟩) rfl (Nat.le_of_ble_eq_true rfl) rfl rfl ?_
  refine jb_aload_n (pc' := 89) dX9_take_88 rfl rfl ?_
  refine gf_X9_39 (pc' := 92) (v := .ref 46) dX9_take_89 rfl rfl rfl ?_
  refine jb_aload_n (pc' := 93) dX9_take_92 rfl rfl ?_
  refine gf_X9_39 (pc' := 96) (v := .ref 26) dX9_take_93 rfl rfl rfl ?_
  refine jb_aload_n (pc' := 97) dX9_take_96 rfl rfl ?_
  refine gf_X9_36 (pc' := 100) (v := .int (nI (V 0 3))) dX9_take_97 rfl rfl rfl ?_
  refine jb_callS (pc' := 103) (As := [.ref 46, .ref 26, .int (nI (V 0 3))]) (a2 := 0) (b2 := 0) wv_X9_74 dX9_take_100 (c_takeRows_13_33_2 (upd (upd (upd (upd (upd Ix 0 (nI (V 0 0))) 1 (I 1)) 2 (nI (V 0 1))) 3 (nI (V 0 2))) 4 (nI (V 0 3))) (va_up (va_up (va_up (va_up (va_up (va_up (va_up (va_up (va_up (va_up Wx 0 (va_cpy (W 0) (Wx 0) 0 0 3)) 1 (va_cpy (W 1) (Wx 1) 0 0 (V 0 1))) 2 (va_cpy (W 2) (Wx 2) 0 0 (V 0 1))) 3 (va_cpy (W 3) (Wx 3) 0 0 (V 0 1))) 4 (va_cpy (W 4) (Wx 4) 0 0 (V 0 2))) 5 (va_cpy (W 5) (Wx 5) 0 0 (V 0 2))) 6 (va_cpy (W 6) (Wx 6) 0 0 (V 0 2))) 7 (va_cpy (W 7) (Wx 7) 0 0 (V 0 2))) 8 (va_cpy (W 8) (Wx 8) 0 0 (V 0 2))) 9 (va_cpy (W 9) (Wx 9) 0 0 (V 0 2))) Tx I W T (V 0 3) (by omega)) rfl ⟨by decide, Nat.le_of_eq (Nat.zero_add _), Nat.le_of_eq (Nat.zero_add _)⟩ (Nat.le_of_ble_eq_true rfl) rfl (fun r h9 hq => ?_)
  obtain ⟨rfl, rfl⟩ := hq
  show jb_J _ RX9 cX9_take 2 (Option.none : Option Jvm.ClassFile.FieldType) false 2 0 0 103 [some (.ref 13), some (.ref 33)] [] [s0, jb_sch13 (upd (upd (upd (upd (upd Ix 0 (nI (V 0 0))) 1 (I 1)) 2 (nI (V 0 1))) 3 (nI (V 0 2))) 4 (nI (V 0 3))) (va_up (va_up (va_up (va_up (va_up (va_up (va_up (va_up (va_up (va_up (va_up (va_up (va_up (va_up Wx 0 (va_cpy (W 0) (Wx 0) 0 0 3)) 1 (va_cpy (W 1) (Wx 1) 0 0 (V 0 1))) 2 (va_cpy (W 2) (Wx 2) 0 0 (V 0 1))) 3 (va_cpy (W 3) (Wx 3) 0 0 (V 0 1))) 4 (va_cpy (W 4) (Wx 4) 0 0 (V 0 2))) 5 (va_cpy (W 5) (Wx 5) 0 0 (V 0 2))) 6 (va_cpy (W 6) (Wx 6) 0 0 (V 0 2))) 7 (va_cpy (W 7) (Wx 7) 0 0 (V 0 2))) 8 (va_cpy (W 8) (Wx 8) 0 0 (V 0 2))) 9 (va_cpy (W 9) (Wx 9) 0 0 (V 0 2))) 10 (va_cpy (W 10) (Wx 10) 0 0 (V 0 3))) 11 (va_cpy (W 11) (Wx 11) 0 0 (V 0 3))) 12 (va_cpy (W 12) (Wx 12) 0 0 (V 0 3))) 13 (va_cpy (W 13) (Wx 13) 0 0 (V 0 3))) Tx, jb_sch33 I W T, s3, s4, s5, s6, s7, s8, s9, s10, s11] _
  refine jb_aload_n (pc' := 104) dX9_take_103 rfl rfl ?_
  refine jb_aload_n (pc' := 105) dX9_take_104 rfl rfl ?_
  refine gf_X9_42 (pc' := 108) (v := (T 0)) dX9_take_105 rfl rfl rfl ?_
  refine pf_X9_42 (pc' := 111) (h' := [s0, jb_sch13 (upd (upd (upd (upd (upd Ix 0 (nI (V 0 0))) 1 (I 1)) 2 (nI (V 0 1))) 3 (nI (V 0 2))) 4 (nI (V 0 3))) (va_up (va_up (va_up (va_up (va_up (va_up (va_up (va_up (va_up (va_up (va_up (va_up (va_up (va_up Wx 0 (va_cpy (W 0) (Wx 0) 0 0 3)) 1 (va_cpy (W 1) (Wx 1) 0 0 (V 0 1))) 2 (va_cpy (W 2) (Wx 2) 0 0 (V 0 1))) 3 (va_cpy (W 3) (Wx 3) 0 0 (V 0 1))) 4 (va_cpy (W 4) (Wx 4) 0 0 (V 0 2))) 5 (va_cpy (W 5) (Wx 5) 0 0 (V 0 2))) 6 (va_cpy (W 6) (Wx 6) 0 0 (V 0 2))) 7 (va_cpy (W 7) (Wx 7) 0 0 (V 0 2))) 8 (va_cpy (W 8) (Wx 8) 0 0 (V 0 2))) 9 (va_cpy (W 9) (Wx 9) 0 0 (V 0 2))) 10 (va_cpy (W 10) (Wx 10) 0 0 (V 0 3))) 11 (va_cpy (W 11) (Wx 11) 0 0 (V 0 3))) 12 (va_cpy (W 12) (Wx 12) 0 0 (V 0 3))) 13 (va_cpy (W 13) (Wx 13) 0 0 (V 0 3))) (va_up Tx 0 ((T 0))), jb_sch33 I W T, s3, s4, s5, s6, s7, s8, s9, s10, s11]) dX9_take_108 (jt_fits t0) rfl (Nat.le_of_ble_eq_true rfl) rfl rfl ?_
  refine jb_aload_n (pc' := 112) dX9_take_111 rfl rfl ?_
  refine jb_aload_n (pc' := 113) dX9_take_112 rfl rfl ?_
  refine gf_X9_45 (pc' := 116) (v := (T 1)) dX9_take_113 rfl rfl rfl ?_
  refine pf_X9_45 (pc' := 119) (h' := [s0, jb_sch13 (upd (upd (upd (upd (upd Ix 0 (nI (V 0 0))) 1 (I 1)) 2 (nI (V 0 1))) 3 (nI (V 0 2))) 4 (nI (V 0 3))) (va_up (va_up (va_up (va_up (va_up (va_up (va_up (va_up (va_up (va_up (va_up (va_up (va_up (va_up Wx 0 (va_cpy (W 0) (Wx 0) 0 0 3)) 1 (va_cpy (W 1) (Wx 1) 0 0 (V 0 1))) 2 (va_cpy (W 2) (Wx 2) 0 0 (V 0 1))) 3 (va_cpy (W 3) (Wx 3) 0 0 (V 0 1))) 4 (va_cpy (W 4) (Wx 4) 0 0 (V 0 2))) 5 (va_cpy (W 5) (Wx 5) 0 0 (V 0 2))) 6 (va_cpy (W 6) (Wx 6) 0 0 (V 0 2))) 7 (va_cpy (W 7) (Wx 7) 0 0 (V 0 2))) 8 (va_cpy (W 8) (Wx 8) 0 0 (V 0 2))) 9 (va_cpy (W 9) (Wx 9) 0 0 (V 0 2))) 10 (va_cpy (W 10) (Wx 10) 0 0 (V 0 3))) 11 (va_cpy (W 11) (Wx 11) 0 0 (V 0 3))) 12 (va_cpy (W 12) (Wx 12) 0 0 (V 0 3))) 13 (va_cpy (W 13) (Wx 13) 0 0 (V 0 3))) (va_up (va_up Tx 0 ((T 0))) 1 ((T 1))), jb_sch33 I W T, s3, s4, s5, s6, s7, s8, s9, s10, s11]) dX9_take_116 (jt_fits t1) rfl (Nat.le_of_ble_eq_true rfl) rfl rfl ?_
  refine jb_aload_n (pc' := 120) dX9_take_119 rfl rfl ?_
  refine jb_aload_n (pc' := 121) dX9_take_120 rfl rfl ?_
  refine gf_X9_51 (pc' := 124) (v := .int (I 5)) dX9_take_121 rfl rfl rfl ?_
  refine jb_top (v := .int (I 5)) (w := .int (nI tp)) (jb_vI h5) ?_
  refine pf_X9_51 (pc' := 127) (h' := [s0, jb_sch13 (upd (upd (upd (upd (upd (upd Ix 0 (nI (V 0 0))) 1 (I 1)) 2 (nI (V 0 1))) 3 (nI (V 0 2))) 4 (nI (V 0 3))) 5 (nI tp)) (va_up (va_up (va_up (va_up (va_up (va_up (va_up (va_up (va_up (va_up (va_up (va_up (va_up (va_up Wx 0 (va_cpy (W 0) (Wx 0) 0 0 3)) 1 (va_cpy (W 1) (Wx 1) 0 0 (V 0 1))) 2 (va_cpy (W 2) (Wx 2) 0 0 (V 0 1))) 3 (va_cpy (W 3) (Wx 3) 0 0 (V 0 1))) 4 (va_cpy (W 4) (Wx 4) 0 0 (V 0 2))) 5 (va_cpy (W 5) (Wx 5) 0 0 (V 0 2))) 6 (va_cpy (W 6) (Wx 6) 0 0 (V 0 2))) 7 (va_cpy (W 7) (Wx 7) 0 0 (V 0 2))) 8 (va_cpy (W 8) (Wx 8) 0 0 (V 0 2))) 9 (va_cpy (W 9) (Wx 9) 0 0 (V 0 2))) 10 (va_cpy (W 10) (Wx 10) 0 0 (V 0 3))) 11 (va_cpy (W 11) (Wx 11) 0 0 (V 0 3))) 12 (va_cpy (W 12) (Wx 12) 0 0 (V 0 3))) 13 (va_cpy (W 13) (Wx 13) 0 0 (V 0 3))) (va_up (va_up Tx 0 ((T 0))) 1 ((T 1))), jb_sch33 I W T, s3, s4, s5, s6, s7, s8, s9, s10, s11]) dX9_take_124 (fun _ => ⟨rfl, rfl⟩) rfl (Nat.le_of_ble_eq_true rfl) rfl rfl ?_
  refine jb_aload_n (pc' := 128) dX9_take_127 rfl rfl ?_
  refine gf_X9_48 (pc' := 131) (v := .ref 51) dX9_take_128 rfl rfl rfl ?_
  refine jb_iconst (pc' := 132) 0 dX9_take_131 (by decide) rfl ?_
  refine jb_aload_n (pc' := 133) dX9_take_132 rfl rfl ?_
  refine gf_X9_48 (pc' := 136) (v := .ref 31) dX9_take_133 rfl rfl rfl ?_
  refine jb_iconst (pc' := 137) 0 dX9_take_136 (by decide) rfl ?_
  refine jb_aload_n (pc' := 138) dX9_take_137 rfl rfl ?_
  refine gf_X9_51 (pc' := 141) (v := .int (nI tp)) dX9_take_138 rfl rfl rfl ?_
  refine jb_copy (pc' := 144) (sp := 0) (dp := 0) (n := tp) (f := (W 14)) (g := (Wx 14)) (h' := [s0, jb_sch13 (upd (upd (upd (upd (upd (upd Ix 0 (nI (V 0 0))) 1 (I 1)) 2 (nI (V 0 1))) 3 (nI (V 0 2))) 4 (nI (V 0 3))) 5 (nI tp)) (va_up (va_up (va_up (va_up (va_up (va_up (va_up (va_up (va_up (va_up (va_up (va_up (va_up (va_up (va_up Wx 0 (va_cpy (W 0) (Wx 0) 0 0 3)) 1 (va_cpy (W 1) (Wx 1) 0 0 (V 0 1))) 2 (va_cpy (W 2) (Wx 2) 0 0 (V 0 1))) 3 (va_cpy (W 3) (Wx 3) 0 0 (V 0 1))) 4 (va_cpy (W 4) (Wx 4) 0 0 (V 0 2))) 5 (va_cpy (W 5) (Wx 5) 0 0 (V 0 2))) 6 (va_cpy (W 6) (Wx 6) 0 0 (V 0 2))) 7 (va_cpy (W 7) (Wx 7) 0 0 (V 0 2))) 8 (va_cpy (W 8) (Wx 8) 0 0 (V 0 2))) 9 (va_cpy (W 9) (Wx 9) 0 0 (V 0 2))) 10 (va_cpy (W 10) (Wx 10) 0 0 (V 0 3))) 11 (va_cpy (W 11) (Wx 11) 0 0 (V 0 3))) 12 (va_cpy (W 12) (Wx 12) 0 0 (V 0 3))) 13 (va_cpy (W 13) (Wx 13) 0 0 (V 0 3))) 14 (va_cpy (W 14) (Wx 14) 0 0 tp)) (va_up (va_up Tx 0 ((T 0))) 1 ((T 1))), jb_sch33 I W T, s3, s4, s5, s6, s7, s8, s9, s10, s11]) wo_X9_68 jb_cp2 jb_cp3 jb_cp4 dX9_take_141 rfl rfl jb_x0 jb_x0 (jb_ix_nI (by omega)) (by omega) (by omega) (by decide) (Nat.le_of_ble_eq_true rfl) rfl rfl ?_
  refine jb_aload_n (pc' := 145) dX9_take_144 rfl rfl ?_
  refine jb_aload_n (pc' := 146) dX9_take_145 rfl rfl ?_
  refine gf_X9_57 (pc' := 149) (v := .int (I 6)) dX9_take_146 rfl rfl rfl ?_
  refine jb_top (v := .int (I 6)) (w := .int (nI wt)) (jb_vI h6) ?_
  refine pf_X9_57 (pc' := 152) (h' := [s0, jb_sch13 (upd (upd (upd (upd (upd (upd (upd Ix 0 (nI (V 0 0))) 1 (I 1)) 2 (nI (V 0 1))) 3 (nI (V 0 2))) 4 (nI (V 0 3))) 5 (nI tp)) 6 (nI wt)) (va_up (va_up (va_up (va_up (va_up (va_up (va_up (va_up (va_up (va_up (va_up (va_up (va_up (va_up (va_up Wx 0 (va_cpy (W 0) (Wx 0) 0 0 3)) 1 (va_cpy (W 1) (Wx 1) 0 0 (V 0 1))) 2 (va_cpy (W 2) (Wx 2) 0 0 (V 0 1))) 3 (va_cpy (W 3) (Wx 3) 0 0 (V 0 1))) 4 (va_cpy (W 4) (Wx 4) 0 0 (V 0 2))) 5 (va_cpy (W 5) (Wx 5) 0 0 (V 0 2))) 6 (va_cpy (W 6) (Wx 6) 0 0 (V 0 2))) 7 (va_cpy (W 7) (Wx 7) 0 0 (V 0 2))) 8 (va_cpy (W 8) (Wx 8) 0 0 (V 0 2))) 9 (va_cpy (W 9) (Wx 9) 0 0 (V 0 2))) 10 (va_cpy (W 10) (Wx 10) 0 0 (V 0 3))) 11 (va_cpy (W 11) (Wx 11) 0 0 (V 0 3))) 12 (va_cpy (W 12) (Wx 12) 0 0 (V 0 3))) 13 (va_cpy (W 13) (Wx 13) 0 0 (V 0 3))) 14 (va_cpy (W 14) (Wx 14) 0 0 tp)) (va_up (va_up Tx 0 ((T 0))) 1 ((T 1))), jb_sch33 I W T, s3, s4, s5, s6, s7, s8, s9, s10, s11]) dX9_take_149 (fun _ => ⟨rfl, rfl⟩) rfl (Nat.le_of_ble_eq_true rfl) rfl rfl ?_
  refine jb_aload_n (pc' := 153) dX9_take_152 rfl rfl ?_
  refine gf_X9_54 (pc' := 156) (v := .ref 52) dX9_take_153 rfl rfl rfl ?_
  refine jb_iconst (pc' := 157) 0 dX9_take_156 (by decide) rfl ?_
  refine jb_aload_n (pc' := 158) dX9_take_157 rfl rfl ?_
  refine gf_X9_54 (pc' := 161) (v := .ref 32) dX9_take_158 rfl rfl rfl ?_
  refine jb_iconst (pc' := 162) 0 dX9_take_161 (by decide) rfl ?_
  refine jb_aload_n (pc' := 163) dX9_take_162 rfl rfl ?_
  refine gf_X9_57 (pc' := 166) (v := .int (nI wt)) dX9_take_163 rfl rfl rfl ?_
  refine jb_copy (pc' := 169) (sp := 0) (dp := 0) (n := wt) (f := (W 15)) (g := (Wx 15)) (h' := [s0, jb_sch13 (upd (upd (upd (upd (upd (upd (upd Ix 0 (nI (V 0 0))) 1 (I 1)) 2 (nI (V 0 1))) 3 (nI (V 0 2))) 4 (nI (V 0 3))) 5 (nI tp)) 6 (nI wt)) (va_up (va_up (va_up (va_up (va_up (va_up (va_up (va_up (va_up (va_up (va_up (va_up (va_up (va_up (va_up (va_up Wx 0 (va_cpy (W 0) (Wx 0) 0 0 3)) 1 (va_cpy (W 1) (Wx 1) 0 0 (V 0 1))) 2 (va_cpy (W 2) (Wx 2) 0 0 (V 0 1))) 3 (va_cpy (W 3) (Wx 3) 0 0 (V 0 1))) 4 (va_cpy (W 4) (Wx 4) 0 0 (V 0 2))) 5 (va_cpy (W 5) (Wx 5) 0 0 (V 0 2))) 6 (va_cpy (W 6) (Wx 6) 0 0 (V 0 2))) 7 (va_cpy (W 7) (Wx 7) 0 0 (V 0 2))) 8 (va_cpy (W 8) (Wx 8) 0 0 (V 0 2))) 9 (va_cpy (W 9) (Wx 9) 0 0 (V 0 2))) 10 (va_cpy (W 10) (Wx 10) 0 0 (V 0 3))) 11 (va_cpy (W 11) (Wx 11) 0 0 (V 0 3))) 12 (va_cpy (W 12) (Wx 12) 0 0 (V 0 3))) 13 (va_cpy (W 13) (Wx 13) 0 0 (V 0 3))) 14 (va_cpy (W 14) (Wx 14) 0 0 tp)) 15 (va_cpy (W 15) (Wx 15) 0 0 wt)) (va_up (va_up Tx 0 ((T 0))) 1 ((T 1))), jb_sch33 I W T, s3, s4, s5, s6, s7, s8, s9, s10, s11]) wo_X9_68 jb_cp2 jb_cp3 jb_cp4 dX9_take_166 rfl rfl jb_x0 jb_x0 (jb_ix_nI (by omega)) (by omega) (by omega) (by decide) (Nat.le_of_ble_eq_true rfl) rfl rfl ?_
  refine jb_vret dX9_take_169 ?_
  exact ⟨rfl, (upd (upd (upd (upd (upd (upd (upd Ix 0 (nI (V 0 0))) 1 (I 1)) 2 (nI (V 0 1))) 3 (nI (V 0 2))) 4 (nI (V 0 3))) 5 (nI tp)) 6 (nI wt)), (va_up (va_up (va_up (va_up (va_up (va_up (va_up (va_up (va_up (va_up (va_up (va_up (va_up (va_up (va_up (va_up Wx 0 (va_cpy (W 0) (Wx 0) 0 0 3)) 1 (va_cpy (W 1) (Wx 1) 0 0 (V 0 1))) 2 (va_cpy (W 2) (Wx 2) 0 0 (V 0 1))) 3 (va_cpy (W 3) (Wx 3) 0 0 (V 0 1))) 4 (va_cpy (W 4) (Wx 4) 0 0 (V 0 2))) 5 (va_cpy (W 5) (Wx 5) 0 0 (V 0 2))) 6 (va_cpy (W 6) (Wx 6) 0 0 (V 0 2))) 7 (va_cpy (W 7) (Wx 7) 0 0 (V 0 2))) 8 (va_cpy (W 8) (Wx 8) 0 0 (V 0 2))) 9 (va_cpy (W 9) (Wx 9) 0 0 (V 0 2))) 10 (va_cpy (W 10) (Wx 10) 0 0 (V 0 3))) 11 (va_cpy (W 11) (Wx 11) 0 0 (V 0 3))) 12 (va_cpy (W 12) (Wx 12) 0 0 (V 0 3))) 13 (va_cpy (W 13) (Wx 13) 0 0 (V 0 3))) 14 (va_cpy (W 14) (Wx 14) 0 0 tp)) 15 (va_cpy (W 15) (Wx 15) 0 0 wt)), (va_up (va_up Tx 0 ((T 0))) 1 ((T 1))), jr_tk (X := Wx) hr0 rfl rfl rfl rfl rfl rfl rfl rfl rfl rfl rfl rfl rfl rfl rfl rfl rfl rfl, rfl, h5.symm, h6.symm, rfl, rfl, fun k hk => jc_in hk, fun k hk => jc_in hk, rfl⟩
set_option maxRecDepth 100000 in
set_option maxHeartbeats 4000000 in
theorem c_takeRows_53_13_0 {sc : Nat × (Nat → Int32)} {s0 s2 s4 s5 s6 s7 s8 s9 s10 s11 : List va_E} (Ix : Nat → Int32) (Wx : Nat → Nat → Int32) (Tx : Nat → Value) (I : Nat → Int32) (W : Nat → Nat → Int32) (T : Nat → Value) (n : Nat) (hn : n ≤ 6) : jb_C sc yX9_takeRows cX9_takeRows 4 (Option.none : Option Jvm.ClassFile.FieldType) 1 0 0 [.ref 15, .ref 55, .int (nI n)] [s0, jb_sch13 I W T, s2, jb_sch53 Ix Wx Tx, s4, s5, s6, s7, s8, s9, s10, s11] (fun r h9 => r = none ∧ h9 = [s0, jb_sch13 I W T, s2, jb_sch53 Ix (va_up (va_up (va_up Wx 1 (va_cpy (W 1) (Wx 1) 0 0 n)) 2 (va_cpy (W 2) (Wx 2) 0 0 n)) 3 (va_cpy (W 3) (Wx 3) 0 0 n)) Tx, s4, s5, s6, s7, s8, s9, s10, s11]) := by
  refine jb_CofJ (ini := false) (by decide +kernel) (fun h => by cases h) (Nat.le_of_ble_eq_true rfl) ?_
  show jb_J sc RX9 cX9_takeRows 4 (Option.none : Option Jvm.ClassFile.FieldType) false 1 0 0 0 [some (.ref 15), some (.ref 55), some (.int (nI n)), none] [] [s0, jb_sch13 I W T, s2, jb_sch53 Ix Wx Tx, s4, s5, s6, s7, s8, s9, s10, s11] _
  refine jb_iconst (pc' := 1) 0 dX9_takeRows_0 (by decide) rfl ?_
  refine jb_istore_n_ (pc' := 2) dX9_takeRows_1 (by decide) (jb_at3 rfl) rfl ?_
  refine jb_iload_n (pc' := 3) dX9_takeRows_2 rfl rfl ?_
  refine jb_aload_n (pc' := 4) dX9_takeRows_3 rfl rfl ?_
  refine jb_alen (pc' := 5) 3 (by decide) dX9_takeRows_4 rfl (by decide) rfl ?_
  refine jb_icmp_ge (tgt := 32) (pc' := 8) dX9_takeRows_5 (by decide) rfl (fun z => absurd z (by decide)) (fun _ => ?_)
  refine jb_iload_n (pc' := 9) dX9_takeRows_8 rfl rfl ?_
  refine jb_aload_n (pc' := 10) dX9_takeRows_9 rfl rfl ?_
  refine jb_alen (pc' := 11) 3 (by decide) dX9_takeRows_10 rfl (by decide) rfl ?_
  refine jb_icmp_ge (tgt := 32) (pc' := 14) dX9_takeRows_11 (by decide) rfl (fun z => absurd z (by decide)) (fun _ => ?_)
  refine jb_aload_n (pc' := 15) dX9_takeRows_14 rfl rfl ?_
  refine jb_iload_n (pc' := 16) dX9_takeRows_15 rfl rfl ?_
  refine jb_aaload (pc' := 17) (i9 := 0) (r := 16) (Or.inl rfl) dX9_takeRows_16 rfl jb_x0 (by decide) rfl rfl ?_
  refine jb_iconst (pc' := 18) 0 dX9_takeRows_17 (by decide) rfl ?_
  refine jb_aload_n (pc' := 19) dX9_takeRows_18 rfl rfl ?_
  refine jb_iload_n (pc' := 20) dX9_takeRows_19 rfl rfl ?_
  refine jb_aaload (pc' := 21) (i9 := 0) (r := 56) (Or.inl rfl) dX9_takeRows_20 rfl jb_x0 (by decide) rfl rfl ?_
  refine jb_iconst (pc' := 22) 0 dX9_takeRows_21 (by decide) rfl ?_
  refine jb_iload_n (pc' := 23) dX9_takeRows_22 rfl rfl ?_
  refine jb_copy (pc' := 26) (sp := 0) (dp := 0) (n := n) (f := (W 1)) (g := (Wx 1)) (h' := [s0, jb_sch13 I W T, s2, jb_sch53 Ix (va_up Wx 1 (va_cpy (W 1) (Wx 1) 0 0 n)) Tx, s4, s5, s6, s7, s8, s9, s10, s11]) wo_X9_68 jb_cp2 jb_cp3 jb_cp4 dX9_takeRows_23 rfl rfl jb_x0 jb_x0 (jb_ix_nI (by omega)) (by omega) (by omega) (by decide) (Nat.le_of_ble_eq_true rfl) rfl rfl ?_
  refine jb_iinc_ (pc' := 29) 1 dX9_takeRows_26 (by decide) rfl (by decide) (jb_at3 rfl) rfl ?_
  refine jb_goto (pc' := 2) dX9_takeRows_29 (by decide) ?_
  refine jb_iload_n (pc' := 3) dX9_takeRows_2 rfl rfl ?_
  refine jb_aload_n (pc' := 4) dX9_takeRows_3 rfl rfl ?_
  refine jb_alen (pc' := 5) 3 (by decide) dX9_takeRows_4 rfl (by decide) rfl ?_
  refine jb_icmp_ge (tgt := 32) (pc' := 8) dX9_takeRows_5 (by decide) rfl (fun z => absurd z (by decide)) (fun _ => ?_)
  refine jb_iload_n (pc' := 9) dX9_takeRows_8 rfl rfl ?_
  refine jb_aload_n (pc' := 10) dX9_takeRows_9 rfl rfl ?_
  refine jb_alen (pc' := 11) 3 (by decide) dX9_takeRows_10 rfl (by decide) rfl ?_
  refine jb_icmp_ge (tgt := 32) (pc' := 14) dX9_takeRows_11 (by decide) rfl (fun z => absurd z (by decide)) (fun _ => ?_)
  refine jb_aload_n (pc' := 15) dX9_takeRows_14 rfl rfl ?_
  refine jb_iload_n (pc' := 16) dX9_takeRows_15 rfl rfl ?_
  refine jb_aaload (pc' := 17) (i9 := 1) (r := 17) (Or.inl rfl) dX9_takeRows_16 rfl jb_x1 (by decide) rfl rfl ?_
  refine jb_iconst (pc' := 18) 0 dX9_takeRows_17 (by decide) rfl ?_
  refine jb_aload_n (pc' := 19) dX9_takeRows_18 rfl rfl ?_
  refine jb_iload_n (pc' := 20) dX9_takeRows_19 rfl rfl ?_
  refine jb_aaload (pc' := 21) (i9 := 1) (r := 57) (Or.inl rfl) dX9_takeRows_20 rfl jb_x1 (by decide) rfl rfl ?_
  refine jb_iconst (pc' := 22) 0 dX9_takeRows_21 (by decide) rfl ?_
  refine jb_iload_n (pc' := 23) dX9_takeRows_22 rfl rfl ?_
  refine jb_copy (pc' := 26) (sp := 0) (dp := 0) (n := n) (f := (W 2)) (g := (Wx 2)) (h' := [s0, jb_sch13 I W T, s2, jb_sch53 Ix (va_up (va_up Wx 1 (va_cpy (W 1) (Wx 1) 0 0 n)) 2 (va_cpy (W 2) (Wx 2) 0 0 n)) Tx, s4, s5, s6, s7, s8, s9, s10, s11]) wo_X9_68 jb_cp2 jb_cp3 jb_cp4 dX9_takeRows_23 rfl rfl jb_x0 jb_x0 (jb_ix_nI (by omega)) (by omega) (by omega) (by decide) (Nat.le_of_ble_eq_true rfl) rfl rfl ?_
  refine jb_iinc_ (pc' := 29) 2 dX9_takeRows_26 (by decide) rfl (by decide) (jb_at3 rfl) rfl ?_
  refine jb_goto (pc' := 2) dX9_takeRows_29 (by decide) ?_
  refine jb_iload_n (pc' := 3) dX9_takeRows_2 rfl rfl ?_
  refine jb_aload_n (pc' := 4) dX9_takeRows_3 rfl rfl ?_
  refine jb_alen (pc' := 5) 3 (by decide) dX9_takeRows_4 rfl (by decide) rfl ?_
  refine jb_icmp_ge (tgt := 32) (pc' := 8) dX9_takeRows_5 (by decide) rfl (fun z => absurd z (by decide)) (fun _ => ?_)
  refine jb_iload_n (pc' := 9) dX9_takeRows_8 rfl rfl ?_
  refine jb_aload_n (pc' := 10) dX9_takeRows_9 rfl rfl ?_
  refine jb_alen (pc' := 11) 3 (by decide) dX9_takeRows_10 rfl (by decide) rfl ?_
  refine jb_icmp_ge (tgt := 32) (pc' := 14) dX9_takeRows_11 (by decide) rfl (fun z => absurd z (by decide)) (fun _ => ?_)
  refine jb_aload_n (pc' := 15) dX9_takeRows_14 rfl rfl ?_
  refine jb_iload_n (pc' := 16) dX9_takeRows_15 rfl rfl ?_
  refine jb_aaload (pc' := 17) (i9 := 2) (r := 18) (Or.inl rfl) dX9_takeRows_16 rfl jb_x2 (by decide) rfl rfl ?_
  refine jb_iconst (pc' := 18) 0 dX9_takeRows_17 (by decide) rfl ?_
  refine jb_aload_n (pc' := 19) dX9_takeRows_18 rfl rfl ?_
  refine jb_iload_n (pc' := 20) dX9_takeRows_19 rfl rfl ?_
  refine jb_aaload (pc' := 21) (i9 := 2) (r := 58) (Or.inl rfl) dX9_takeRows_20 rfl jb_x2 (by decide) rfl rfl ?_
  refine jb_iconst (pc' := 22) 0 dX9_takeRows_21 (by decide) rfl ?_
  refine jb_iload_n (pc' := 23) dX9_takeRows_22 rfl rfl ?_
  refine jb_copy (pc' := 26) (sp := 0) (dp := 0) (n := n) (f := (W 3)) (g := (Wx 3)) (h' := [s0, jb_sch13 I W T, s2, jb_sch53 Ix (va_up (va_up (va_up Wx 1 (va_cpy (W 1) (Wx 1) 0 0 n)) 2 (va_cpy (W 2) (Wx 2) 0 0 n)) 3 (va_cpy (W 3) (Wx 3) 0 0 n)) Tx, s4, s5, s6, s7, s8, s9, s10, s11]) wo_X9_68 jb_cp2 jb_cp3 jb_cp4 dX9_takeRows_23 rfl rfl jb_x0 jb_x0 (jb_ix_nI (by omega)) (by omega) (by omega) (by decide) (Nat.le_of_ble_eq_true rfl) rfl rfl ?_
  refine jb_iinc_ (pc' := 29) 3 dX9_takeRows_26 (by decide) rfl (by decide) (jb_at3 rfl) rfl ?_
  refine jb_goto (pc' := 2) dX9_takeRows_29 (by decide) ?_
  refine jb_iload_n (pc' := 3) dX9_takeRows_2 rfl rfl ?_
  refine jb_aload_n (pc' := 4) dX9_takeRows_3 rfl rfl ?_
  refine jb_alen (pc' := 5) 3 (by decide) dX9_takeRows_4 rfl (by decide) rfl ?_
  refine jb_icmp_ge (tgt := 32) (pc' := 8) dX9_takeRows_5 (by decide) rfl (fun _ => ?_) (fun z => absurd (by decide) z)
  refine jb_vret dX9_takeRows_32 ?_
  exact ⟨rfl, rfl⟩
set_option maxRecDepth 100000 in
set_option maxHeartbeats 4000000 in
theorem c_takeRows_53_13_1 {sc : Nat × (Nat → Int32)} {s0 s2 s4 s5 s6 s7 s8 s9 s10 s11 : List va_E} (Ix : Nat → Int32) (Wx : Nat → Nat → Int32) (Tx : Nat → Value) (I : Nat → Int32) (W : Nat → Nat → Int32) (T : Nat → Value) (n : Nat) (hn : n ≤ 40) : jb_C sc yX9_takeRows cX9_takeRows 4 (Option.none : Option Jvm.ClassFile.FieldType) 1 0 0 [.ref 19, .ref 59, .int (nI n)] [s0, jb_sch13 I W T, s2, jb_sch53 Ix Wx Tx, s4, s5, s6, s7, s8, s9, s10, s11] (fun r h9 => r = none ∧ h9 = [s0, jb_sch13 I W T, s2, jb_sch53 Ix (va_up (va_up (va_up (va_up (va_up (va_up Wx 4 (va_cpy (W 4) (Wx 4) 0 0 n)) 5 (va_cpy (W 5) (Wx 5) 0 0 n)) 6 (va_cpy (W 6) (Wx 6) 0 0 n)) 7 (va_cpy (W 7) (Wx 7) 0 0 n)) 8 (va_cpy (W 8) (Wx 8) 0 0 n)) 9 (va_cpy (W 9) (Wx 9) 0 0 n)) Tx, s4, s5, s6, s7, s8, s9, s10, s11]) := by
  refine jb_CofJ (ini := false) (by decide +kernel) (fun h => by cases h) (Nat.le_of_ble_eq_true rfl) ?_
  show jb_J sc RX9 cX9_takeRows 4 (Option.none : Option Jvm.ClassFile.FieldType) false 1 0 0 0 [some (.ref 19), some (.ref 59), some (.int (nI n)), none] [] [s0, jb_sch13 I W T, s2, jb_sch53 Ix Wx Tx, s4, s5, s6, s7, s8, s9, s10, s11] _
  refine jb_iconst (pc' := 1) 0 dX9_takeRows_0 (by decide) rfl ?_
  refine jb_istore_n_ (pc' := 2) dX9_takeRows_1 (by decide) (jb_at3 rfl) rfl ?_
  refine jb_iload_n (pc' := 3) dX9_takeRows_2 rfl rfl ?_
  refine jb_aload_n (pc' := 4) dX9_takeRows_3 rfl rfl ?_
  refine jb_alen (pc' := 5) 6 (by decide) dX9_takeRows_4 rfl (by decide) rfl ?_
  refine jb_icmp_ge (tgt := 32) (pc' := 8) dX9_takeRows_5 (by decide) rfl (fun z => absurd z (by decide)) (fun _ => ?_)
  refine jb_iload_n (pc' := 9) dX9_takeRows_8 rfl rfl ?_
  refine jb_aload_n (pc' := 10) dX9_takeRows_9 rfl rfl ?_
  refine jb_alen (pc' := 11) 6 (by decide) dX9_takeRows_10 rfl (by decide) rfl ?_
  refine jb_icmp_ge (tgt := 32) (pc' := 14) dX9_takeRows_11 (by decide) rfl (fun z => absurd z (by decide)) (fun _ => ?_)
  refine jb_aload_n (pc' := 15) dX9_takeRows_14 rfl rfl ?_
  refine jb_iload_n (pc' := 16) dX9_takeRows_15 rfl rfl ?_
  refine jb_aaload (pc' := 17) (i9 := 0) (r := 20) (Or.inl rfl) dX9_takeRows_16 rfl jb_x0 (by decide) rfl rfl ?_
  refine jb_iconst (pc' := 18) 0 dX9_takeRows_17 (by decide) rfl ?_
  refine jb_aload_n (pc' := 19) dX9_takeRows_18 rfl rfl ?_
  refine jb_iload_n (pc' := 20) dX9_takeRows_19 rfl rfl ?_
  refine jb_aaload (pc' := 21) (i9 := 0) (r := 60) (Or.inl rfl) dX9_takeRows_20 rfl jb_x0 (by decide) rfl rfl ?_
  refine jb_iconst (pc' := 22) 0 dX9_takeRows_21 (by decide) rfl ?_
  refine jb_iload_n (pc' := 23) dX9_takeRows_22 rfl rfl ?_
  refine jb_copy (pc' := 26) (sp := 0) (dp := 0) (n := n) (f := (W 4)) (g := (Wx 4)) (h' := [s0, jb_sch13 I W T, s2, jb_sch53 Ix (va_up Wx 4 (va_cpy (W 4) (Wx 4) 0 0 n)) Tx, s4, s5, s6, s7, s8, s9, s10, s11]) wo_X9_68 jb_cp2 jb_cp3 jb_cp4 dX9_takeRows_23 rfl rfl jb_x0 jb_x0 (jb_ix_nI (by omega)) (by omega) (by omega) (by decide) (Nat.le_of_ble_eq_true rfl) rfl rfl ?_
  refine jb_iinc_ (pc' := 29) 1 dX9_takeRows_26 (by decide) rfl (by decide) (jb_at3 rfl) rfl ?_
  refine jb_goto (pc' := 2) dX9_takeRows_29 (by decide) ?_
  refine jb_iload_n (pc' := 3) dX9_takeRows_2 rfl rfl ?_
  refine jb_aload_n (pc' := 4) dX9_takeRows_3 rfl rfl ?_
  refine jb_alen (pc' := 5) 6 (by decide) dX9_takeRows_4 rfl (by decide) rfl ?_
  refine jb_icmp_ge (tgt := 32) (pc' := 8) dX9_takeRows_5 (by decide) rfl (fun z => absurd z (by decide)) (fun _ => ?_)
  refine jb_iload_n (pc' := 9) dX9_takeRows_8 rfl rfl ?_
  refine jb_aload_n (pc' := 10) dX9_takeRows_9 rfl rfl ?_
  refine jb_alen (pc' := 11) 6 (by decide) dX9_takeRows_10 rfl (by decide) rfl ?_
  refine jb_icmp_ge (tgt := 32) (pc' := 14) dX9_takeRows_11 (by decide) rfl (fun z => absurd z (by decide)) (fun _ => ?_)
  refine jb_aload_n (pc' := 15) dX9_takeRows_14 rfl rfl ?_
  refine jb_iload_n (pc' := 16) dX9_takeRows_15 rfl rfl ?_
  refine jb_aaload (pc' := 17) (i9 := 1) (r := 21) (Or.inl rfl) dX9_takeRows_16 rfl jb_x1 (by decide) rfl rfl ?_
  refine jb_iconst (pc' := 18) 0 dX9_takeRows_17 (by decide) rfl ?_
  refine jb_aload_n (pc' := 19) dX9_takeRows_18 rfl rfl ?_
  refine jb_iload_n (pc' := 20) dX9_takeRows_19 rfl rfl ?_
  refine jb_aaload (pc' := 21) (i9 := 1) (r := 61) (Or.inl rfl) dX9_takeRows_20 rfl jb_x1 (by decide) rfl rfl ?_
  refine jb_iconst (pc' := 22) 0 dX9_takeRows_21 (by decide) rfl ?_
  refine jb_iload_n (pc' := 23) dX9_takeRows_22 rfl rfl ?_
  refine jb_copy (pc' := 26) (sp := 0) (dp := 0) (n := n) (f := (W 5)) (g := (Wx 5)) (h' := [s0, jb_sch13 I W T, s2, jb_sch53 Ix (va_up (va_up Wx 4 (va_cpy (W 4) (Wx 4) 0 0 n)) 5 (va_cpy (W 5) (Wx 5) 0 0 n)) Tx, s4, s5, s6, s7, s8, s9, s10, s11]) wo_X9_68 jb_cp2 jb_cp3 jb_cp4 dX9_takeRows_23 rfl rfl jb_x0 jb_x0 (jb_ix_nI (by omega)) (by omega) (by omega) (by decide) (Nat.le_of_ble_eq_true rfl) rfl rfl ?_
  refine jb_iinc_ (pc' := 29) 2 dX9_takeRows_26 (by decide) rfl (by decide) (jb_at3 rfl) rfl ?_
  refine jb_goto (pc' := 2) dX9_takeRows_29 (by decide) ?_
  refine jb_iload_n (pc' := 3) dX9_takeRows_2 rfl rfl ?_
  refine jb_aload_n (pc' := 4) dX9_takeRows_3 rfl rfl ?_
  refine jb_alen (pc' := 5) 6 (by decide) dX9_takeRows_4 rfl (by decide) rfl ?_
  refine jb_icmp_ge (tgt := 32) (pc' := 8) dX9_takeRows_5 (by decide) rfl (fun z => absurd z (by decide)) (fun _ => ?_)
  refine jb_iload_n (pc' := 9) dX9_takeRows_8 rfl rfl ?_
  refine jb_aload_n (pc' := 10) dX9_takeRows_9 rfl rfl ?_
  refine jb_alen (pc' := 11) 6 (by decide) dX9_takeRows_10 rfl (by decide) rfl ?_
  refine jb_icmp_ge (tgt := 32) (pc' := 14) dX9_takeRows_11 (by decide) rfl (fun z => absurd z (by decide)) (fun _ => ?_)
  refine jb_aload_n (pc' := 15) dX9_takeRows_14 rfl rfl ?_
  refine jb_iload_n (pc' := 16) dX9_takeRows_15 rfl rfl ?_
  refine jb_aaload (pc' := 17) (i9 := 2) (r := 22) (Or.inl rfl) dX9_takeRows_16 rfl jb_x2 (by decide) rfl rfl ?_
  refine jb_iconst (pc' := 18) 0 dX9_takeRows_17 (by decide) rfl ?_
  refine jb_aload_n (pc' := 19) dX9_takeRows_18 rfl rfl ?_
  refine jb_iload_n (pc' := 20) dX9_takeRows_19 rfl rfl ?_
  refine jb_aaload (pc' := 21) (i9 := 2) (r := 62) (Or.inl rfl) dX9_takeRows_20 rfl jb_x2 (by decide) rfl rfl ?_
  refine jb_iconst (pc' := 22) 0 dX9_takeRows_21 (by decide) rfl ?_
  refine jb_iload_n (pc' := 23) dX9_takeRows_22 rfl rfl ?_
  refine jb_copy (pc' := 26) (sp := 0) (dp := 0) (n := n) (f := (W 6)) (g := (Wx 6)) (h' := [s0, jb_sch13 I W T, s2, jb_sch53 Ix (va_up (va_up (va_up Wx 4 (va_cpy (W 4) (Wx 4) 0 0 n)) 5 (va_cpy (W 5) (Wx 5) 0 0 n)) 6 (va_cpy (W 6) (Wx 6) 0 0 n)) Tx, s4, s5, s6, s7, s8, s9, s10, s11]) wo_X9_68 jb_cp2 jb_cp3 jb_cp4 dX9_takeRows_23 rfl rfl jb_x0 jb_x0 (jb_ix_nI (by omega)) (by omega) (by omega) (by decide) (Nat.le_of_ble_eq_true rfl) rfl rfl ?_
  refine jb_iinc_ (pc' := 29) 3 dX9_takeRows_26 (by decide) rfl (by decide) (jb_at3 rfl) rfl ?_
  refine jb_goto (pc' := 2) dX9_takeRows_29 (by decide) ?_
  refine jb_iload_n (pc' := 3) dX9_takeRows_2 rfl rfl ?_
  refine jb_aload_n (pc' := 4) dX9_takeRows_3 rfl rfl ?_
  refine jb_alen (pc' := 5) 6 (by decide) dX9_takeRows_4 rfl (by decide) rfl ?_
  refine jb_icmp_ge (tgt := 32) (pc' := 8) dX9_takeRows_5 (by decide) rfl (fun z => absurd z (by decide)) (fun _ => ?_)
  refine jb_iload_n (pc' := 9) dX9_takeRows_8 rfl rfl ?_
  refine jb_aload_n (pc' := 10) dX9_takeRows_9 rfl rfl ?_
  refine jb_alen (pc' := 11) 6 (by decide) dX9_takeRows_10 rfl (by decide) rfl ?_
  refine jb_icmp_ge (tgt := 32) (pc' := 14) dX9_takeRows_11 (by decide) rfl (fun z => absurd z (by decide)) (fun _ => ?_)
  refine jb_aload_n (pc' := 15) dX9_takeRows_14 rfl rfl ?_
  refine jb_iload_n (pc' := 16) dX9_takeRows_15 rfl rfl ?_
  refine jb_aaload (pc' := 17) (i9 := 3) (r := 23) (Or.inl rfl) dX9_takeRows_16 rfl jb_x3 (by decide) rfl rfl ?_
  refine jb_iconst (pc' := 18) 0 dX9_takeRows_17 (by decide) rfl ?_
  refine jb_aload_n (pc' := 19) dX9_takeRows_18 rfl rfl ?_
  refine jb_iload_n (pc' := 20) dX9_takeRows_19 rfl rfl ?_
  refine jb_aaload (pc' := 21) (i9 := 3) (r := 63) (Or.inl rfl) dX9_takeRows_20 rfl jb_x3 (by decide) rfl rfl ?_
  refine jb_iconst (pc' := 22) 0 dX9_takeRows_21 (by decide) rfl ?_
  refine jb_iload_n (pc' := 23) dX9_takeRows_22 rfl rfl ?_
  refine jb_copy (pc' := 26) (sp := 0) (dp := 0) (n := n) (f := (W 7)) (g := (Wx 7)) (h' := [s0, jb_sch13 I W T, s2, jb_sch53 Ix (va_up (va_up (va_up (va_up Wx 4 (va_cpy (W 4) (Wx 4) 0 0 n)) 5 (va_cpy (W 5) (Wx 5) 0 0 n)) 6 (va_cpy (W 6) (Wx 6) 0 0 n)) 7 (va_cpy (W 7) (Wx 7) 0 0 n)) Tx, s4, s5, s6, s7, s8, s9, s10, s11]) wo_X9_68 jb_cp2 jb_cp3 jb_cp4 dX9_takeRows_23 rfl rfl jb_x0 jb_x0 (jb_ix_nI (by omega)) (by omega) (by omega) (by decide) (Nat.le_of_ble_eq_true rfl) rfl rfl ?_
  refine jb_iinc_ (pc' := 29) 4 dX9_takeRows_26 (by decide) rfl (by decide) (jb_at3 rfl) rfl ?_
  refine jb_goto (pc' := 2) dX9_takeRows_29 (by decide) ?_
  refine jb_iload_n (pc' := 3) dX9_takeRows_2 rfl rfl ?_
  refine jb_aload_n (pc' := 4) dX9_takeRows_3 rfl rfl ?_
  refine jb_alen (pc' := 5) 6 (by decide) dX9_takeRows_4 rfl (by decide) rfl ?_
  refine jb_icmp_ge (tgt := 32) (pc' := 8) dX9_takeRows_5 (by decide) rfl (fun z => absurd z (by decide)) (fun _ => ?_)
  refine jb_iload_n (pc' := 9) dX9_takeRows_8 rfl rfl ?_
  refine jb_aload_n (pc' := 10) dX9_takeRows_9 rfl rfl ?_
  refine jb_alen (pc' := 11) 6 (by decide) dX9_takeRows_10 rfl (by decide) rfl ?_
  refine jb_icmp_ge (tgt := 32) (pc' := 14) dX9_takeRows_11 (by decide) rfl (fun z => absurd z (by decide)) (fun _ => ?_)
  refine jb_aload_n (pc' := 15) dX9_takeRows_14 rfl rfl ?_
  refine jb_iload_n (pc' := 16) dX9_takeRows_15 rfl rfl ?_
  refine jb_aaload (pc' := 17) (i9 := 4) (r := 24) (Or.inl rfl) dX9_takeRows_16 rfl jb_x4 (by decide) rfl rfl ?_
  refine jb_iconst (pc' := 18) 0 dX9_takeRows_17 (by decide) rfl ?_
  refine jb_aload_n (pc' := 19) dX9_takeRows_18 rfl rfl ?_
  refine jb_iload_n (pc' := 20) dX9_takeRows_19 rfl rfl ?_
  refine jb_aaload (pc' := 21) (i9 := 4) (r := 64) (Or.inl rfl) dX9_takeRows_20 rfl jb_x4 (by decide) rfl rfl ?_
  refine jb_iconst (pc' := 22) 0 dX9_takeRows_21 (by decide) rfl ?_
  refine jb_iload_n (pc' := 23) dX9_takeRows_22 rfl rfl ?_
  refine jb_copy (pc' := 26) (sp := 0) (dp := 0) (n := n) (f := (W 8)) (g := (Wx 8)) (h' := [s0, jb_sch13 I W T, s2, jb_sch53 Ix (va_up (va_up (va_up (va_up (va_up Wx 4 (va_cpy (W 4) (Wx 4) 0 0 n)) 5 (va_cpy (W 5) (Wx 5) 0 0 n)) 6 (va_cpy (W 6) (Wx 6) 0 0 n)) 7 (va_cpy (W 7) (Wx 7) 0 0 n)) 8 (va_cpy (W 8) (Wx 8) 0 0 n)) Tx, s4, s5, s6, s7, s8, s9, s10, s11]) wo_X9_68 jb_cp2 jb_cp3 jb_cp4 dX9_takeRows_23 rfl rfl jb_x0 jb_x0 (jb_ix_nI (by omega)) (by omega) (by omega) (by decide) (Nat.le_of_ble_eq_true rfl) rfl rfl ?_
  refine jb_iinc_ (pc' := 29) 5 dX9_takeRows_26 (by decide) rfl (by decide) (jb_at3 rfl) rfl ?_
  refine jb_goto (pc' := 2) dX9_takeRows_29 (by decide) ?_
  refine jb_iload_n (pc' := 3) dX9_takeRows_2 rfl rfl ?_
  refine jb_aload_n (pc' := 4) dX9_takeRows_3 rfl rfl ?_
  refine jb_alen (pc' := 5) 6 (by decide) dX9_takeRows_4 rfl (by decide) rfl ?_
  refine jb_icmp_ge (tgt := 32) (pc' := 8) dX9_takeRows_5 (by decide) rfl (fun z => absurd z (by decide)) (fun _ => ?_)
  refine jb_iload_n (pc' := 9) dX9_takeRows_8 rfl rfl ?_
  refine jb_aload_n (pc' := 10) dX9_takeRows_9 rfl rfl ?_
  refine jb_alen (pc' := 11) 6 (by decide) dX9_takeRows_10 rfl (by decide) rfl ?_
  refine jb_icmp_ge (tgt := 32) (pc' := 14) dX9_takeRows_11 (by decide) rfl (fun z => absurd z (by decide)) (fun _ => ?_)
  refine jb_aload_n (pc' := 15) dX9_takeRows_14 rfl rfl ?_
  refine jb_iload_n (pc' := 16) dX9_takeRows_15 rfl rfl ?_
  refine jb_aaload (pc' := 17) (i9 := 5) (r := 25) (Or.inl rfl) dX9_takeRows_16 rfl jb_x5 (by decide) rfl rfl ?_
  refine jb_iconst (pc' := 18) 0 dX9_takeRows_17 (by decide) rfl ?_
  refine jb_aload_n (pc' := 19) dX9_takeRows_18 rfl rfl ?_
  refine jb_iload_n (pc' := 20) dX9_takeRows_19 rfl rfl ?_
  refine jb_aaload (pc' := 21) (i9 := 5) (r := 65) (Or.inl rfl) dX9_takeRows_20 rfl jb_x5 (by decide) rfl rfl ?_
  refine jb_iconst (pc' := 22) 0 dX9_takeRows_21 (by decide) rfl ?_
  refine jb_iload_n (pc' := 23) dX9_takeRows_22 rfl rfl ?_
  refine jb_copy (pc' := 26) (sp := 0) (dp := 0) (n := n) (f := (W 9)) (g := (Wx 9)) (h' := [s0, jb_sch13 I W T, s2, jb_sch53 Ix (va_up (va_up (va_up (va_up (va_up (va_up Wx 4 (va_cpy (W 4) (Wx 4) 0 0 n)) 5 (va_cpy (W 5) (Wx 5) 0 0 n)) 6 (va_cpy (W 6) (Wx 6) 0 0 n)) 7 (va_cpy (W 7) (Wx 7) 0 0 n)) 8 (va_cpy (W 8) (Wx 8) 0 0 n)) 9 (va_cpy (W 9) (Wx 9) 0 0 n)) Tx, s4, s5, s6, s7, s8, s9, s10, s11]) wo_X9_68 jb_cp2 jb_cp3 jb_cp4 dX9_takeRows_23 rfl rfl jb_x0 jb_x0 (jb_ix_nI (by omega)) (by omega) (by omega) (by decide) (Nat.le_of_ble_eq_true rfl) rfl rfl ?_
  refine jb_iinc_ (pc' := 29) 6 dX9_takeRows_26 (by decide) rfl (by decide) (jb_at3 rfl) rfl ?_
  refine jb_goto (pc' := 2) dX9_takeRows_29 (by decide) ?_
  refine jb_iload_n (pc' := 3) dX9_takeRows_2 rfl rfl ?_
  refine jb_aload_n (pc' := 4) dX9_takeRows_3 rfl rfl ?_
  refine jb_alen (pc' := 5) 6 (by decide) dX9_takeRows_4 rfl (by decide) rfl ?_
  refine jb_icmp_ge (tgt := 32) (pc' := 8) dX9_takeRows_5 (by decide) rfl (fun _ => ?_) (fun z => absurd (by decide) z)
  refine jb_vret dX9_takeRows_32 ?_
  exact ⟨rfl, rfl⟩
set_option maxRecDepth 100000 in
set_option maxHeartbeats 4000000 in
theorem c_takeRows_53_13_2 {sc : Nat × (Nat → Int32)} {s0 s2 s4 s5 s6 s7 s8 s9 s10 s11 : List va_E} (Ix : Nat → Int32) (Wx : Nat → Nat → Int32) (Tx : Nat → Value) (I : Nat → Int32) (W : Nat → Nat → Int32) (T : Nat → Value) (n : Nat) (hn : n ≤ 12) : jb_C sc yX9_takeRows cX9_takeRows 4 (Option.none : Option Jvm.ClassFile.FieldType) 1 0 0 [.ref 26, .ref 66, .int (nI n)] [s0, jb_sch13 I W T, s2, jb_sch53 Ix Wx Tx, s4, s5, s6, s7, s8, s9, s10, s11] (fun r h9 => r = none ∧ h9 = [s0, jb_sch13 I W T, s2, jb_sch53 Ix (va_up (va_up (va_up (va_up Wx 10 (va_cpy (W 10) (Wx 10) 0 0 n)) 11 (va_cpy (W 11) (Wx 11) 0 0 n)) 12 (va_cpy (W 12) (Wx 12) 0 0 n)) 13 (va_cpy (W 13) (Wx 13) 0 0 n)) Tx, s4, s5, s6, s7, s8, s9, s10, s11]) := by
  refine jb_CofJ (ini := false) (by decide +kernel) (fun h => by cases h) (Nat.le_of_ble_eq_true rfl) ?_
  show jb_J sc RX9 cX9_takeRows 4 (Option.none : Option Jvm.ClassFile.FieldType) false 1 0 0 0 [some (.ref 26), some (.ref 66), some (.int (nI n)), none] [] [s0, jb_sch13 I W T, s2, jb_sch53 Ix Wx Tx, s4, s5, s6, s7, s8, s9, s10, s11] _
  refine jb_iconst (pc' := 1) 0 dX9_takeRows_0 (by decide) rfl ?_
  refine jb_istore_n_ (pc' := 2) dX9_takeRows_1 (by decide) (jb_at3 rfl) rfl ?_
  refine jb_iload_n (pc' := 3) dX9_takeRows_2 rfl rfl ?_
  refine jb_aload_n (pc' := 4) dX9_takeRows_3 rfl rfl ?_
  refine jb_alen (pc' := 5) 4 (by decide) dX9_takeRows_4 rfl (by decide) rfl ?_
  refine jb_icmp_ge (tgt := 32) (pc' := 8) dX9_takeRows_5 (by decide) rfl (fun z => absurd z (by decide)) (fun _ => ?_)
  refine jb_iload_n (pc' := 9) dX9_takeRows_8 rfl rfl ?_
  refine jb_aload_n (pc' := 10) dX9_takeRows_9 rfl rfl ?_
  refine jb_alen (pc' := 11) 4 (by decide) dX9_takeRows_10 rfl (by decide) rfl ?_
  refine jb_icmp_ge (tgt := 32) (pc' := 14) dX9_takeRows_11 (by decide) rfl (fun z => absurd z (by decide)) (fun _ => ?_)
  refine jb_aload_n (pc' := 15) dX9_takeRows_14 rfl rfl ?_
  refine jb_iload_n (pc' := 16) dX9_takeRows_15 rfl rfl ?_
  refine jb_aaload (pc' := 17) (i9 := 0) (r := 27) (Or.inl rfl) dX9_takeRows_16 rfl jb_x0 (by decide) rfl rfl ?_
  refine jb_iconst (pc' := 18) 0 dX9_takeRows_17 (by decide) rfl ?_
  refine jb_aload_n (pc' := 19) dX9_takeRows_18 rfl rfl ?_
  refine jb_iload_n (pc' := 20) dX9_takeRows_19 rfl rfl ?_
  refine jb_aaload (pc' := 21) (i9 := 0) (r := 67) (Or.inl rfl) dX9_takeRows_20 rfl jb_x0 (by decide) rfl rfl ?_
  refine jb_iconst (pc' := 22) 0 dX9_takeRows_21 (by decide) rfl ?_
  refine jb_iload_n (pc' := 23) dX9_takeRows_22 rfl rfl ?_
  refine jb_copy (pc' := 26) (sp := 0) (dp := 0) (n := n) (f := (W 10)) (g := (Wx 10)) (h' := [s0, jb_sch13 I W T, s2, jb_sch53 Ix (va_up Wx 10 (va_cpy (W 10) (Wx 10) 0 0 n)) Tx, s4, s5, s6, s7, s8, s9, s10, s11]) wo_X9_68 jb_cp2 jb_cp3 jb_cp4 dX9_takeRows_23 rfl rfl jb_x0 jb_x0 (jb_ix_nI (by omega)) (by omega) (by omega) (by decide) (Nat.le_of_ble_eq_true rfl) rfl rfl ?_
  refine jb_iinc_ (pc' := 29) 1 dX9_takeRows_26 (by decide) rfl (by decide) (jb_at3 rfl) rfl ?_
  refine jb_goto (pc' := 2) dX9_takeRows_29 (by decide) ?_
  refine jb_iload_n (pc' := 3) dX9_takeRows_2 rfl rfl ?_
  refine jb_aload_n (pc' := 4) dX9_takeRows_3 rfl rfl ?_
  refine jb_alen (pc' := 5) 4 (by decide) dX9_takeRows_4 rfl (by decide) rfl ?_
  refine jb_icmp_ge (tgt := 32) (pc' := 8) dX9_takeRows_5 (by decide) rfl (fun z => absurd z (by decide)) (fun _ => ?_)
  refine jb_iload_n (pc' := 9) dX9_takeRows_8 rfl rfl ?_
  refine jb_aload_n (pc' := 10) dX9_takeRows_9 rfl rfl ?_
  refine jb_alen (pc' := 11) 4 (by decide) dX9_takeRows_10 rfl (by decide) rfl ?_
  refine jb_icmp_ge (tgt := 32) (pc' := 14) dX9_takeRows_11 (by decide) rfl (fun z => absurd z (by decide)) (fun _ => ?_)
  refine jb_aload_n (pc' := 15) dX9_takeRows_14 rfl rfl ?_
  refine jb_iload_n (pc' := 16) dX9_takeRows_15 rfl rfl ?_
  refine jb_aaload (pc' := 17) (i9 := 1) (r := 28) (Or.inl rfl) dX9_takeRows_16 rfl jb_x1 (by decide) rfl rfl ?_
  refine jb_iconst (pc' := 18) 0 dX9_takeRows_17 (by decide) rfl ?_
  refine jb_aload_n (pc' := 19) dX9_takeRows_18 rfl rfl ?_
  refine jb_iload_n (pc' := 20) dX9_takeRows_19 rfl rfl ?_
  refine jb_aaload (pc' := 21) (i9 := 1) (r := 68) (Or.inl rfl) dX9_takeRows_20 rfl jb_x1 (by decide) rfl rfl ?_
  refine jb_iconst (pc' := 22) 0 dX9_takeRows_21 (by decide) rfl ?_
  refine jb_iload_n (pc' := 23) dX9_takeRows_22 rfl rfl ?_
  refine jb_copy (pc' := 26) (sp := 0) (dp := 0) (n := n) (f := (W 11)) (g := (Wx 11)) (h' := [s0, jb_sch13 I W T, s2, jb_sch53 Ix (va_up (va_up Wx 10 (va_cpy (W 10) (Wx 10) 0 0 n)) 11 (va_cpy (W 11) (Wx 11) 0 0 n)) Tx, s4, s5, s6, s7, s8, s9, s10, s11]) wo_X9_68 jb_cp2 jb_cp3 jb_cp4 dX9_takeRows_23 rfl rfl jb_x0 jb_x0 (jb_ix_nI (by omega)) (by omega) (by omega) (by decide) (Nat.le_of_ble_eq_true rfl) rfl rfl ?_
  refine jb_iinc_ (pc' := 29) 2 dX9_takeRows_26 (by decide) rfl (by decide) (jb_at3 rfl) rfl ?_
  refine jb_goto (pc' := 2) dX9_takeRows_29 (by decide) ?_
  refine jb_iload_n (pc' := 3) dX9_takeRows_2 rfl rfl ?_
  refine jb_aload_n (pc' := 4) dX9_takeRows_3 rfl rfl ?_
  refine jb_alen (pc' := 5) 4 (by decide) dX9_takeRows_4 rfl (by decide) rfl ?_
  refine jb_icmp_ge (tgt := 32) (pc' := 8) dX9_takeRows_5 (by decide) rfl (fun z => absurd z (by decide)) (fun _ => ?_)
  refine jb_iload_n (pc' := 9) dX9_takeRows_8 rfl rfl ?_
  refine jb_aload_n (pc' := 10) dX9_takeRows_9 rfl rfl ?_
  refine jb_alen (pc' := 11) 4 (by decide) dX9_takeRows_10 rfl (by decide) rfl ?_
  refine jb_icmp_ge (tgt := 32) (pc' := 14) dX9_takeRows_11 (by decide) rfl (fun z => absurd z (by decide)) (fun _ => ?_)
  refine jb_aload_n (pc' := 15) dX9_takeRows_14 rfl rfl ?_
  refine jb_iload_n (pc' := 16) dX9_takeRows_15 rfl rfl ?_
  refine jb_aaload (pc' := 17) (i9 := 2) (r := 29) (Or.inl rfl) dX9_takeRows_16 rfl jb_x2 (by decide) rfl rfl ?_
  refine jb_iconst (pc' := 18) 0 dX9_takeRows_17 (by decide) rfl ?_
  refine jb_aload_n (pc' := 19) dX9_takeRows_18 rfl rfl ?_
  refine jb_iload_n (pc' := 20) dX9_takeRows_19 rfl rfl ?_
  refine jb_aaload (pc' := 21) (i9 := 2) (r := 69) (Or.inl rfl) dX9_takeRows_20 rfl jb_x2 (by decide) rfl rfl ?_
  refine jb_iconst (pc' := 22) 0 dX9_takeRows_21 (by decide) rfl ?_
  refine jb_iload_n (pc' := 23) dX9_takeRows_22 rfl rfl ?_
  refine jb_copy (pc' := 26) (sp := 0) (dp := 0) (n := n) (f := (W 12)) (g := (Wx 12)) (h' := [s0, jb_sch13 I W T, s2, jb_sch53 Ix (va_up (va_up (va_up Wx 10 (va_cpy (W 10) (Wx 10) 0 0 n)) 11 (va_cpy (W 11) (Wx 11) 0 0 n)) 12 (va_cpy (W 12) (Wx 12) 0 0 n)) Tx, s4, s5, s6, s7, s8, s9, s10, s11]) wo_X9_68 jb_cp2 jb_cp3 jb_cp4 dX9_takeRows_23 rfl rfl jb_x0 jb_x0 (jb_ix_nI (by omega)) (by omega) (by omega) (by decide) (Nat.le_of_ble_eq_true rfl) rfl rfl ?_
  refine jb_iinc_ (pc' := 29) 3 dX9_takeRows_26 (by decide) rfl (by decide) (jb_at3 rfl) rfl ?_
  refine jb_goto (pc' := 2) dX9_takeRows_29 (by decide) ?_
  refine jb_iload_n (pc' := 3) dX9_takeRows_2 rfl rfl ?_
  refine jb_aload_n (pc' := 4) dX9_takeRows_3 rfl rfl ?_
  refine jb_alen (pc' := 5) 4 (by decide) dX9_takeRows_4 rfl (by decide) rfl ?_
  refine jb_icmp_ge (tgt := 32) (pc' := 8) dX9_takeRows_5 (by decide) rfl (fun z => absurd z (by decide)) (fun _ => ?_)
  refine jb_iload_n (pc' := 9) dX9_takeRows_8 rfl rfl ?_
  refine jb_aload_n (pc' := 10) dX9_takeRows_9 rfl rfl ?_
  refine jb_alen (pc' := 11) 4 (by decide) dX9_takeRows_10 rfl (by decide) rfl ?_
  refine jb_icmp_ge (tgt := 32) (pc' := 14) dX9_takeRows_11 (by decide) rfl (fun z => absurd z (by decide)) (fun _ => ?_)
  refine jb_aload_n (pc' := 15) dX9_takeRows_14 rfl rfl ?_
  refine jb_iload_n (pc' := 16) dX9_takeRows_15 rfl rfl ?_
  refine jb_aaload (pc' := 17) (i9 := 3) (r := 30) (Or.inl rfl) dX9_takeRows_16 rfl jb_x3 (by decide) rfl rfl ?_
  refine jb_iconst (pc' := 18) 0 dX9_takeRows_17 (by decide) rfl ?_
  refine jb_aload_n (pc' := 19) dX9_takeRows_18 rfl rfl ?_
  refine jb_iload_n (pc' := 20) dX9_takeRows_19 rfl rfl ?_
  refine jb_aaload (pc' := 21) (i9 := 3) (r := 70) (Or.inl rfl) dX9_takeRows_20 rfl jb_x3 (by decide) rfl rfl ?_
  refine jb_iconst (pc' := 22) 0 dX9_takeRows_21 (by decide) rfl ?_
  refine jb_iload_n (pc' := 23) dX9_takeRows_22 rfl rfl ?_
  refine jb_copy (pc' := 26) (sp := 0) (dp := 0) (n := n) (f := (W 13)) (g := (Wx 13)) (h' := [s0, jb_sch13 I W T, s2, jb_sch53 Ix (va_up (va_up (va_up (va_up Wx 10 (va_cpy (W 10) (Wx 10) 0 0 n)) 11 (va_cpy (W 11) (Wx 11) 0 0 n)) 12 (va_cpy (W 12) (Wx 12) 0 0 n)) 13 (va_cpy (W 13) (Wx 13) 0 0 n)) Tx, s4, s5, s6, s7, s8, s9, s10, s11]) wo_X9_68 jb_cp2 jb_cp3 jb_cp4 dX9_takeRows_23 rfl rfl jb_x0 jb_x0 (jb_ix_nI (by omega)) (by omega) (by omega) (by decide) (Nat.le_of_ble_eq_true rfl) rfl rfl ?_
  refine jb_iinc_ (pc' := 29) 4 dX9_takeRows_26 (by decide) rfl (by decide) (jb_at3 rfl) rfl ?_
  refine jb_goto (pc' := 2) dX9_takeRows_29 (by decide) ?_
  refine jb_iload_n (pc' := 3) dX9_takeRows_2 rfl rfl ?_
  refine jb_aload_n (pc' := 4) dX9_takeRows_3 rfl rfl ?_
  refine jb_alen (pc' := 5) 4 (by decide) dX9_takeRows_4 rfl (by decide) rfl ?_
  refine jb_icmp_ge (tgt := 32) (pc' := 8) dX9_takeRows_5 (by decide) rfl (fun _ => ?_) (fun z => absurd (by decide) z)
  refine jb_vret dX9_takeRows_32 ?_
  exact ⟨rfl, rfl⟩
set_option maxRecDepth 100000 in
set_option maxHeartbeats 4000000 in
theorem c_take_53_13 {sc : Nat × (Nat → Int32)} {s0 s2 s4 s5 s6 s7 s8 s9 s10 s11 : List va_E} {V : Nat → Nat → Nat} (Ix : Nat → Int32) (Wx : Nat → Nat → Int32) (Tx : Nat → Value) (I : Nat → Int32) (W : Nat → Nat → Int32) (T : Nat → Value) (hr : jr_ V I W) (hk : jv_ok V) (tp wt : Nat) (h5 : I 5 = nI tp) (h6 : I 6 = nI wt) (htp : tp ≤ 50) (hwt : wt ≤ 20) (t0 : jt_r (T 0)) (t1 : jt_r (T 1)) : jb_C sc yX9_take cX9_take 2 (Option.none : Option Jvm.ClassFile.FieldType) 2 0 0 [.ref 53, .ref 13] [s0, jb_sch13 I W T, s2, jb_sch53 Ix Wx Tx, s4, s5, s6, s7, s8, s9, s10, s11] (fun r h9 => r = none ∧ ∃ I9 W9 T9, jr_ V I9 W9 ∧ I9 1 = I 1 ∧ I9 5 = I 5 ∧ I9 6 = I 6 ∧ T9 0 = T 0 ∧ T9 1 = T 1 ∧ (∀ k, k < tp → W9 14 k = W 14 k) ∧ (∀ k, k < wt → W9 15 k = W 15 k) ∧ h9 = [s0, jb_sch13 I W T, s2, jb_sch53 I9 W9 T9, s4, s5, s6, s7, s8, s9, s10, s11]) := by
  refine jb_CofJ (ini := false) (by decide +kernel) (fun h => by cases h) (Nat.le_of_ble_eq_true rfl) ?_
  show jb_J sc RX9 cX9_take 2 (Option.none : Option Jvm.ClassFile.FieldType) false 2 0 0 0 [some (.ref 53), some (.ref 13)] [] [s0, jb_sch13 I W T, s2, jb_sch53 Ix Wx Tx, s4, s5, s6, s7, s8, s9, s10, s11] _
  have hr0 := hr
  obtain ⟨r0, r2, r3, r4, a0, a1, a2, rv, rs, rd⟩ := hr
  obtain ⟨k0, k1, k2, k3, k4, k5, k6, k7, kv, ks, kd⟩ := hk
  refine jb_aload_n (pc' := 1) dX9_take_0 rfl rfl ?_
  refine gf_X9_9 (pc' := 4) (v := .ref 14) dX9_take_1 rfl rfl rfl ?_
  refine jb_iconst (pc' := 5) 0 dX9_take_4 (by decide) rfl ?_
  refine jb_aload_n (pc' := 6) dX9_take_5 rfl rfl ?_
  refine gf_X9_9 (pc' := 9) (v := .ref 54) dX9_take_6 rfl rfl rfl ?_
  refine jb_iconst (pc' := 10) 0 dX9_take_9 (by decide) rfl ?_
  refine jb_aload_n (pc' := 11) dX9_take_10 rfl rfl ?_
  refine gf_X9_9 (pc' := 14) (v := .ref 54) dX9_take_11 rfl rfl rfl ?_
  refine jb_alen (pc' := 15) 3 (by decide) dX9_take_14 rfl rfl rfl ?_
  refine jb_copy (pc' := 18) (sp := 0) (dp := 0) (n := 3) (f := (W 0)) (g := (Wx 0)) (h' := [s0, jb_sch13 I W T, s2, jb_sch53 Ix (va_up Wx 0 (va_cpy (W 0) (Wx 0) 0 0 3)) Tx, s4, s5, s6, s7, s8, s9, s10, s11]) wo_X9_68 jb_cp2 jb_cp3 jb_cp4 dX9_take_15 rfl rfl jb_x0 jb_x0 jb_x3 (by omega) (by omega) (by decide) (Nat.le_of_ble_eq_true rfl) rfl rfl ?_
  refine jb_aload_n (pc' := 19) dX9_take_18 rfl rfl ?_
  refine jb_aload_n (pc' := 20) dX9_take_19 rfl rfl ?_
  refine gf_X9_15 (pc' := 23) (v := .int (I 0)) dX9_take_20 rfl rfl rfl ?_
  refine jb_top (v := .int (I 0)) (w := .int (nI (V 0 0))) (jb_vI r0) ?_
  refine pf_X9_15 (pc' := 26) (h' := [s0, jb_sch13 I W T, s2, jb_sch53 (upd Ix 0 (nI (V 0 0))) (va_up Wx 0 (va_cpy (W 0) (Wx 0) 0 0 3)) Tx, s4, s5, s6, s7, s8, s9, s10, s11]) dX9_take_23 (fun _ => ⟨rfl, rfl⟩) rfl (Nat.le_of_ble_eq_true rfl) rfl rfl ?_
  refine jb_aload_n (pc' := 27) dX9_take_26 rfl rfl ?_
  refine jb_aload_n (pc' := 28) dX9_take_27 rfl rfl ?_
  refine gf_X9_19 (pc' := 31) (v := .int (I 1)) dX9_take_28 rfl rfl rfl ?_
  refine pf_X9_19 (pc' := 34) (h' := [s0, jb_sch13 I W T, s2, jb_sch53 (upd (upd Ix 0 (nI (V 0 0))) 1 (I 1)) (va_up Wx 0 (va_cpy (W 0) (Wx 0) 0 0 3)) Tx, s4, s5, s6, s7, s8, s9, s10, s11]) dX9_take_31 (fun _ => ⟨rfl, rfl⟩) rfl (Nat.le_of_ble_eq_true rfl) rfl rfl ?_
  refine jb_aload_n (pc' := 35) dX9_take_34 rfl rfl ?_
  refine jb_aload_n (pc' := 36) dX9_take_35 rfl rfl ?_
  refine gf_X9_22 (pc' := 39) (v := .int (I 2)) dX9_take_36 rfl rfl rfl ?_
  refine jb_top (v := .int (I 2)) (w := .int (nI (V 0 1))) (jb_vI r2) ?_
  refine pf_X9_22 (pc' := 42) (h' := [s0, jb_sch13 I W T, s2, jb_sch53 (upd (upd (upd Ix 0 (nI (V 0 0))) 1 (I 1)) 2 (nI (V 0 1))) (va_up Wx 0 (va_cpy (W 0) (Wx 0) 0 0 3)) Tx, s4, s5, s6, s7, s8, s9, s10, s11]) dX9_take_39 (fun _ => ⟨rfl, rfl⟩) rfl (Nat.le_of_ble_eq_true rfl) rfl rfl ?_
  refine jb_aload_n (pc' := 43) dX9_take_42 rfl rfl ?_
  refine gf_X9_27 (pc' := 46) (v := .ref 15) dX9_take_43 rfl rfl rfl ?_
  refine jb_aload_n (pc' := 47) dX9_take_46 rfl rfl ?_
  refine gf_X9_27 (pc' := 50) (v := .ref 55) dX9_take_47 rfl rfl rfl ?_
  refine jb_aload_n (pc' := 51) dX9_take_50 rfl rfl ?_
  refine gf_X9_22 (pc' := 54) (v := .int (nI (V 0 1))) dX9_take_51 rfl rfl rfl ?_
  refine jb_callS (pc' := 57) (As := [.ref 15, .ref 55, .int (nI (V 0 1))]) (a2 := 0) (b2 := 0) wv_X9_74 dX9_take_54 (c_takeRows_53_13_0 (upd (upd (upd Ix 0 (nI (V 0 0))) 1 (I 1)) 2 (nI (V 0 1))) (va_up Wx 0 (va_cpy (W 0) (Wx 0) 0 0 3)) Tx I W T (V 0 1) (by omega)) rfl ⟨by decide, Nat.le_of_eq (Nat.zero_add _), Nat.le_of_eq (Nat.zero_add _)⟩ (Nat.le_of_ble_eq_true rfl) rfl (fun r h9 hq => ?_)
  obtain ⟨rfl, rfl⟩ := hq
  show jb_J _ RX9 cX9_take 2 (Option.none : Option Jvm.ClassFile.FieldType) false 2 0 0 57 [some (.ref 53), some (.ref 13)] [] [s0, jb_sch13 I W T, s2, jb_sch53 (upd (upd (upd Ix 0 (nI (V 0 0))) 1 (I 1)) 2 (nI (V 0 1))) (va_up (va_up (va_up (va_up Wx 0 (va_cpy (W 0) (Wx 0) 0 0 3)) 1 (va_cpy (W 1) (Wx 1) 0 0 (V 0 1))) 2 (va_cpy (W 2) (Wx 2) 0 0 (V 0 1))) 3 (va_cpy (W 3) (Wx 3) 0 0 (V 0 1))) Tx, s4, s5, s6, s7, s8, s9, s10, s11] _
  refine jb_aload_n (pc' := 58) dX9_take_57 rfl rfl ?_
  refine jb_aload_n (pc' := 59) dX9_take_58 rfl rfl ?_
  refine gf_X9_30 (pc' := 62) (v := .int (I 3)) dX9_take_59 rfl rfl rfl ?_
  refine jb_top (v := .int (I 3)) (w := .int (nI (V 0 2))) (jb_vI r3) ?_
  refine pf_X9_30 (pc' := 65) (h' := [s0, jb_sch13 I W T, s2, jb_sch53 (upd (upd (upd (upd Ix 0 (nI (V 0 0))) 1 (I 1)) 2 (nI (V 0 1))) 3 (nI (V 0 2))) (va_up (va_up (va_up (va_up Wx 0 (va_cpy (W 0) (Wx 0) 0 0 3)) 1 (va_cpy (W 1) (Wx 1) 0 0 (V 0 1))) 2 (va_cpy (W 2) (Wx 2) 0 0 (V 0 1))) 3 (va_cpy (W 3) (Wx 3) 0 0 (V 0 1))) Tx, s4, s5, s6, s7, s8, s9, s10, s11]) dX9_take_62 (fun _ => ⟨rfl, rfl⟩) rfl (Nat.le_of_ble_eq_true rfl) rfl rfl ?_
  refine jb_aload_n (pc' := 66) dX9_take_65 rfl rfl ?_
  refine gf_X9_33 (pc' := 69) (v := .ref 19) dX9_take_66 rfl rfl rfl ?_
  refine jb_aload_n (pc' := 70) dX9_take_69 rfl rfl ?_
  refine gf_X9_33 (pc' := 73) (v := .ref 59) dX9_take_70 rfl rfl rfl ?_
  refine jb_aload_n (pc' := 74) dX9_take_73 rfl rfl ?_
  refine gf_X9_30 (pc' := 77) (v := .int (nI (V 0 2))) dX9_take_74 rfl rfl rfl ?_
  refine jb_callS (pc' := 80) (As := [.ref 19, .ref 59, .int (nI (V 0 2))]) (a2 := 0) (b2 := 0) wv_X9_74 dX9_take_77 (c_takeRows_53_13_1 (upd (upd (upd (upd Ix 0 (nI (V 0 0))) 1 (I 1)) 2 (nI (V 0 1))) 3 (nI (V 0 2))) (va_up (va_up (va_up (va_up Wx 0 (va_cpy (W 0) (Wx 0) 0 0 3)) 1 (va_cpy (W 1) (Wx 1) 0 0 (V 0 1))) 2 (va_cpy (W 2) (Wx 2) 0 0 (V 0 1))) 3 (va_cpy (W 3) (Wx 3) 0 0 (V 0 1))) Tx I W T (V 0 2) (by omega)) rfl ⟨by decide, Nat.le_of_eq (Nat.zero_add _), Nat.le_of_eq (Nat.zero_add _)⟩ (Nat.le_of_ble_eq_true rfl) rfl (fun r h9 hq => ?_)
  obtain ⟨rfl, rfl⟩ := hq
  show jb_J _ RX9 cX9_take 2 (Option.none : Option Jvm.ClassFile.FieldType) false 2 0 0 80 [some (.ref 53), some (.ref 13)] [] [s0, jb_sch13 I W T, s2, jb_sch53 (upd (upd (upd (upd Ix 0 (nI (V 0 0))) 1 (I 1)) 2 (nI (V 0 1))) 3 (nI (V 0 2))) (va_up (va_up (va_up (va_up (va_up (va_up (va_up (va_up (va_up (va_up Wx 0 (va_cpy (W 0) (Wx 0) 0 0 3)) 1 (va_cpy (W 1) (Wx 1) 0 0 (V 0 1))) 2 (va_cpy (W 2) (Wx 2) 0 0 (V 0 1))) 3 (va_cpy (W 3) (Wx 3) 0 0 (V 0 1))) 4 (va_cpy (W 4) (Wx 4) 0 0 (V 0 2))) 5 (va_cpy (W 5) (Wx 5) 0 0 (V 0 2))) 6 (va_cpy (W 6) (Wx 6) 0 0 (V 0 2))) 7 (va_cpy (W 7) (Wx 7) 0 0 (V 0 2))) 8 (va_cpy (W 8) (Wx 8) 0 0 (V 0 2))) 9 (va_cpy (W 9) (Wx 9) 0 0 (V 0 2))) Tx, s4, s5, s6, s7, s8, s9, s10, s11] _
  refine jb_aload_n (pc' := 81) dX9_take_80 rfl rfl ?_
  refine jb_aload_n (pc' := 82) dX9_take_81 rfl rfl ?_
  refine gf_X9_36 (pc' := 85) (v := .int (I 4)) dX9_take_82 rfl rfl rfl ?_
  refine jb_top (v := .int (I 4)) (w := .int (nI (V 0 3))) (jb_vI r4) ?_
  refine pf_X9_36 (pc' := 88) (h' := [s0, jb_sch13 I W T, s2, jb_sch53 (upd (upd (upd (upd (upd Ix 0 (nI (V 0 0))) 1 (I 1)) 2 (nI (V 0 1))) 3 (nI (V 0 2))) 4 (nI (V 0 3))) (va_up (va_up (va_up (va_up (va_up (va_up (va_up (va_up (va_up (va_up Wx 0 (va_cpy (W 0) (Wx 0) 0 0 3)) 1 (va_cpy (W 1) (Wx 1) 0 0 (V 0 1))) 2 (va_cpy (W 2) (Wx 2) 0 0 (V 0 1))) 3 (va_cpy (W 3) (Wx 3) 0 0 (V 0 1))) 4 (va_cpy (W 4) (Wx 4) 0 0 (V 0 2))) 5 (va_cpy (W 5) (Wx 5) 0 0 (V 0 2))) 6 (va_cpy (W 6) (Wx 6) 0 0 (V 0 2))) 7 (va_cpy (W 7) (Wx 7) 0 0 (V 0 2))) 8 (va_cpy (W 8) (Wx 8) 0 0 (V 0 2))) 9 (va_cpy (W 9) (Wx 9) 0 0 (V 0 2))) Tx, s4, s5, s6, s7, s8, s9, s10, s11]) dX9_take_85 (fun _ => ⟨rfl, rfl⟩) rfl (Nat.le_of_ble_eq_true rfl) rfl rfl ?_
  refine jb_aload_n (pc' := 89) dX9_take_88 rfl rfl ?_
  refine gf_X9_39 (pc' := 92) (v := .ref 26) dX9_take_89 rfl rfl rfl ?_
  refine jb_aload_n (pc' := 93) dX9_take_92 rfl rfl ?_
  refine gf_X9_39 (pc' := 96) (v := .ref 66) dX9_take_93 rfl rfl rfl ?_
  refine jb_aload_n (pc' := 97) dX9_take_96 rfl rfl ?_
  refine gf_X9_36 (pc' := 100) (v := .int (nI (V 0 3))) dX9_take_97 rfl rfl rfl ?_
  refine jb_callS (pc' := 103) (As := [.ref 26, .ref 66, .int (nI (V 0 3))]) (a2 := 0) (b2 := 0) wv_X9_74 dX9_take_100 (c_takeRows_53_13_2 (upd (upd (upd (upd (upd Ix 0 (nI (V 0 0))) 1 (I 1)) 2 (nI (V 0 1))) 3 (nI (V 0 2))) 4 (nI (V 0 3))) (va_up (va_up (va_up (va_up (va_up (va_up (va_up (va_up (va_up (va_up Wx 0 (va_cpy (W 0) (Wx 0) 0 0 3)) 1 (va_cpy (W 1) (Wx 1) 0 0 (V 0 1))) 2 (va_cpy (W 2) (Wx 2) 0 0 (V 0 1))) 3 (va_cpy (W 3) (Wx 3) 0 0 (V 0 1))) 4 (va_cpy (W 4) (Wx 4) 0 0 (V 0 2))) 5 (va_cpy (W 5) (Wx 5) 0 0 (V 0 2))) 6 (va_cpy (W 6) (Wx 6) 0 0 (V 0 2))) 7 (va_cpy (W 7) (Wx 7) 0 0 (V 0 2))) 8 (va_cpy (W 8) (Wx 8) 0 0 (V 0 2))) 9 (va_cpy (W 9) (Wx 9) 0 0 (V 0 2))) Tx I W T (V 0 3) (by omega)) rfl ⟨by decide, Nat.le_of_eq (Nat.zero_add _), Nat.le_of_eq (Nat.zero_add _)⟩ (Nat.le_of_ble_eq_true rfl) rfl (fun r h9 hq => ?_)
  obtain ⟨rfl, rfl⟩ := hq
  show jb_J _ RX9 cX9_take 2 (Option.none : Option Jvm.ClassFile.FieldType) false 2 0 0 103 [some (.ref 53), some (.ref 13)] [] [s0, jb_sch13 I W T, s2, jb_sch53 (upd (upd (upd (upd (upd Ix 0 (nI (V 0 0))) 1 (I 1)) 2 (nI (V 0 1))) 3 (nI (V 0 2))) 4 (nI (V 0 3))) (va_up (va_up (va_up (va_up (va_up (va_up (va_up (va_up (va_up (va_up (va_up (va_up (va_up (va_up Wx 0 (va_cpy (W 0) (Wx 0) 0 0 3)) 1 (va_cpy (W 1) (Wx 1) 0 0 (V 0 1))) 2 (va_cpy (W 2) (Wx 2) 0 0 (V 0 1))) 3 (va_cpy (W 3) (Wx 3) 0 0 (V 0 1))) 4 (va_cpy (W 4) (Wx 4) 0 0 (V 0 2))) 5 (va_cpy (W 5) (Wx 5) 0 0 (V 0 2))) 6 (va_cpy (W 6) (Wx 6) 0 0 (V 0 2))) 7 (va_cpy (W 7) (Wx 7) 0 0 (V 0 2))) 8 (va_cpy (W 8) (Wx 8) 0 0 (V 0 2))) 9 (va_cpy (W 9) (Wx 9) 0 0 (V 0 2))) 10 (va_cpy (W 10) (Wx 10) 0 0 (V 0 3))) 11 (va_cpy (W 11) (Wx 11) 0 0 (V 0 3))) 12 (va_cpy (W 12) (Wx 12) 0 0 (V 0 3))) 13 (va_cpy (W 13) (Wx 13) 0 0 (V 0 3))) Tx, s4, s5, s6, s7, s8, s9, s10, s11] _
  refine jb_aload_n (pc' := 104) dX9_take_103 rfl rfl ?_
  refine jb_aload_n (pc' := 105) dX9_take_104 rfl rfl ?_
  refine gf_X9_42 (pc' := 108) (v := (T 0)) dX9_take_105 rfl rfl rfl ?_
  refine pf_X9_42 (pc' := 111) (h' := [s0, jb_sch13 I W T, s2, jb_sch53 (upd (upd (upd (upd (upd Ix 0 (nI (V 0 0))) 1 (I 1)) 2 (nI (V 0 1))) 3 (nI (V 0 2))) 4 (nI (V 0 3))) (va_up (va_up (va_up (va_up (va_up (va_up (va_up (va_up (va_up (va_up (va_up (va_up (va_up (va_up Wx 0 (va_cpy (W 0) (Wx 0) 0 0 3)) 1 (va_cpy (W 1) (Wx 1) 0 0 (V 0 1))) 2 (va_cpy (W 2) (Wx 2) 0 0 (V 0 1))) 3 (va_cpy (W 3) (Wx 3) 0 0 (V 0 1))) 4 (va_cpy (W 4) (Wx 4) 0 0 (V 0 2))) 5 (va_cpy (W 5) (Wx 5) 0 0 (V 0 2))) 6 (va_cpy (W 6) (Wx 6) 0 0 (V 0 2))) 7 (va_cpy (W 7) (Wx 7) 0 0 (V 0 2))) 8 (va_cpy (W 8) (Wx 8) 0 0 (V 0 2))) 9 (va_cpy (W 9) (Wx 9) 0 0 (V 0 2))) 10 (va_cpy (W 10) (Wx 10) 0 0 (V 0 3))) 11 (va_cpy (W 11) (Wx 11) 0 0 (V 0 3))) 12 (va_cpy (W 12) (Wx 12) 0 0 (V 0 3))) 13 (va_cpy (W 13) (Wx 13) 0 0 (V 0 3))) (va_up Tx 0 ((T 0))), s4, s5, s6, s7, s8, s9, s10, s11]) dX9_take_108 (jt_fits t0) rfl (Nat.le_of_ble_eq_true rfl) rfl rfl ?_
  refine jb_aload_n (pc' := 112) dX9_take_111 rfl rfl ?_
  refine jb_aload_n (pc' := 113) dX9_take_112 rfl rfl ?_
  refine gf_X9_45 (pc' := 116) (v := (T 1)) dX9_take_113 rfl rfl rfl ?_
  refine pf_X9_45 (pc' := 119) (h' := [s0, jb_sch13 I W T, s2, jb_sch53 (upd (upd (upd (upd (upd Ix 0 (nI (V 0 0))) 1 (I 1)) 2 (nI (V 0 1))) 3 (nI (V 0 2))) 4 (nI (V 0 3))) (va_up (va_up (va_up (va_up (va_up (va_up (va_up (va_up (va_up (va_up (va_up (va_up (va_up (va_up Wx 0 (va_cpy (W 0) (Wx 0) 0 0 3)) 1 (va_cpy (W 1) (Wx 1) 0 0 (V 0 1))) 2 (va_cpy (W 2) (Wx 2) 0 0 (V 0 1))) 3 (va_cpy (W 3) (Wx 3) 0 0 (V 0 1))) 4 (va_cpy (W 4) (Wx 4) 0 0 (V 0 2))) 5 (va_cpy (W 5) (Wx 5) 0 0 (V 0 2))) 6 (va_cpy (W 6) (Wx 6) 0 0 (V 0 2))) 7 (va_cpy (W 7) (Wx 7) 0 0 (V 0 2))) 8 (va_cpy (W 8) (Wx 8) 0 0 (V 0 2))) 9 (va_cpy (W 9) (Wx 9) 0 0 (V 0 2))) 10 (va_cpy (W 10) (Wx 10) 0 0 (V 0 3))) 11 (va_cpy (W 11) (Wx 11) 0 0 (V 0 3))) 12 (va_cpy (W 12) (Wx 12) 0 0 (V 0 3))) 13 (va_cpy (W 13) (Wx 13) 0 0 (V 0 3))) (va_up (va_up Tx 0 ((T 0))) 1 ((T 1))), s4, s5, s6, s7, s8, s9, s10, s11]) dX9_take_116 (jt_fits t1) rfl (Nat.le_of_ble_eq_true rfl) rfl rfl ?_
  refine jb_aload_n (pc' := 120) dX9_take_119 rfl rfl ?_
  refine jb_aload_n (pc' := 121) dX9_take_120 rfl rfl ?_
  refine gf_X9_51 (pc' := 124) (v := .int (I 5)) dX9_take_121 rfl rfl rfl ?_
  refine jb_top (v := .int (I 5)) (w := .int (nI tp)) (jb_vI h5) ?_
  refine pf_X9_51 (pc' := 127) (h' := [s0, jb_sch13 I W T, s2, jb_sch53 (upd (upd (upd (upd (upd (upd Ix 0 (nI (V 0 0))) 1 (I 1)) 2 (nI (V 0 1))) 3 (nI (V 0 2))) 4 (nI (V 0 3))) 5 (nI tp)) (va_up (va_up (va_up (va_up (va_up (va_up (va_up (va_up (va_up (va_up (va_up (va_up (va_up (va_up Wx 0 (va_cpy (W 0) (Wx 0) 0 0 3)) 1 (va_cpy (W 1) (Wx 1) 0 0 (V 0 1))) 2 (va_cpy (W 2) (Wx 2) 0 0 (V 0 1))) 3 (va_cpy (W 3) (Wx 3) 0 0 (V 0 1))) 4 (va_cpy (W 4) (Wx 4) 0 0 (V 0 2))) 5 (va_cpy (W 5) (Wx 5) 0 0 (V 0 2))) 6 (va_cpy (W 6) (Wx 6) 0 0 (V 0 2))) 7 (va_cpy (W 7) (Wx 7) 0 0 (V 0 2))) 8 (va_cpy (W 8) (Wx 8) 0 0 (V 0 2))) 9 (va_cpy (W 9) (Wx 9) 0 0 (V 0 2))) 10 (va_cpy (W 10) (Wx 10) 0 0 (V 0 3))) 11 (va_cpy (W 11) (Wx 11) 0 0 (V 0 3))) 12 (va_cpy (W 12) (Wx 12) 0 0 (V 0 3))) 13 (va_cpy (W 13) (Wx 13) 0 0 (V 0 3))) (va_up (va_up Tx 0 ((T 0))) 1 ((T 1))), s4, s5, s6, s7, s8, s9, s10, s11]) dX9_take_124 (fun _ => ⟨rfl, rfl⟩) rfl (Nat.le_of_ble_eq_true rfl) rfl rfl ?_
  refine jb_aload_n (pc' := 128) dX9_take_127 rfl rfl ?_
  refine gf_X9_48 (pc' := 131) (v := .ref 31) dX9_take_128 rfl rfl rfl ?_
  refine jb_iconst (pc' := 132) 0 dX9_take_131 (by decide) rfl ?_
  refine jb_aload_n (pc' := 133) dX9_take_132 rfl rfl ?_
  refine gf_X9_48 (pc' := 136) (v := .ref 71) dX9_take_133 rfl rfl rfl ?_
  refine jb_iconst (pc' := 137) 0 dX9_take_136 (by decide) rfl ?_
  refine jb_aload_n (pc' := 138) dX9_take_137 rfl rfl ?_
  refine gf_X9_51 (pc' := 141) (v := .int (nI tp)) dX9_take_138 rfl rfl rfl ?_
  refine jb_copy (pc' := 144) (sp := 0) (dp := 0) (n := tp) (f := (W 14)) (g := (Wx 14)) (h' := [s0, jb_sch13 I W T, s2, jb_sch53 (upd (upd (upd (upd (upd (upd Ix 0 (nI (V 0 0))) 1 (I 1)) 2 (nI (V 0 1))) 3 (nI (V 0 2))) 4 (nI (V 0 3))) 5 (nI tp)) (va_up (va_up (va_up (va_up (va_up (va_up (va_up (va_up (va_up (va_up (va_up (va_up (va_up (va_up (va_up Wx 0 (va_cpy (W 0) (Wx 0) 0 0 3)) 1 (va_cpy (W 1) (Wx 1) 0 0 (V 0 1))) 2 (va_cpy (W 2) (Wx 2) 0 0 (V 0 1))) 3 (va_cpy (W 3) (Wx 3) 0 0 (V 0 1))) 4 (va_cpy (W 4) (Wx 4) 0 0 (V 0 2))) 5 (va_cpy (W 5) (Wx 5) 0 0 (V 0 2))) 6 (va_cpy (W 6) (Wx 6) 0 0 (V 0 2))) 7 (va_cpy (W 7) (Wx 7) 0 0 (V 0 2))) 8 (va_cpy (W 8) (Wx 8) 0 0 (V 0 2))) 9 (va_cpy (W 9) (Wx 9) 0 0 (V 0 2))) 10 (va_cpy (W 10) (Wx 10) 0 0 (V 0 3))) 11 (va_cpy (W 11) (Wx 11) 0 0 (V 0 3))) 12 (va_cpy (W 12) (Wx 12) 0 0 (V 0 3))) 13 (va_cpy (W 13) (Wx 13) 0 0 (V 0 3))) 14 (va_cpy (W 14) (Wx 14) 0 0 tp)) (va_up (va_up Tx 0 ((T 0))) 1 ((T 1))), s4, s5, s6, s7, s8, s9, s10, s11]) wo_X9_68 jb_cp2 jb_cp3 jb_cp4 dX9_take_141 rfl rfl jb_x0 jb_x0 (jb_ix_nI (by omega)) (by omega) (by omega) (by decide) (Nat.le_of_ble_eq_true rfl) rfl rfl ?_
  refine jb_aload_n (pc' := 145) dX9_take_144 rfl rfl ?_
  refine jb_aload_n (pc' := 146) dX9_take_145 rfl rfl ?_
  refine gf_X9_57 (pc' := 149) (v := .int (I 6)) dX9_take_146 rfl rfl rfl ?_
  refine jb_top (v := .int (I 6)) (w := .int (nI wt)) (jb_vI h6) ?_
  refine pf_X9_57 (pc' := 152) (h' := [s0, jb_sch13 I W T, s2, jb_sch53 (upd (upd (upd (upd (upd (upd (upd Ix 0 (nI (V 0 0))) 1 (I 1)) 2 (nI (V 0 1))) 3 (nI (V 0 2))) 4 (nI (V 0 3))) 5 (nI tp)) 6 (nI wt)) (va_up (va_up (va_up (va_up (va_up (va_up (va_up (va_up (va_up (va_up (va_up (va_up (va_up (va_up (va_up Wx 0 (va_cpy (W 0) (Wx 0) 0 0 3)) 1 (va_cpy (W 1) (Wx 1) 0 0 (V 0 1))) 2 (va_cpy (W 2) (Wx 2) 0 0 (V 0 1))) 3 (va_cpy (W 3) (Wx 3) 0 0 (V 0 1))) 4 (va_cpy (W 4) (Wx 4) 0 0 (V 0 2))) 5 (va_cpy (W 5) (Wx 5) 0 0 (V 0 2))) 6 (va_cpy (W 6) (Wx 6) 0 0 (V 0 2))) 7 (va_cpy (W 7) (Wx 7) 0 0 (V 0 2))) 8 (va_cpy (W 8) (Wx 8) 0 0 (V 0 2))) 9 (va_cpy (W 9) (Wx 9) 0 0 (V 0 2))) 10 (va_cpy (W 10) (Wx 10) 0 0 (V 0 3))) 11 (va_cpy (W 11) (Wx 11) 0 0 (V 0 3))) 12 (va_cpy (W 12) (Wx 12) 0 0 (V 0 3))) 13 (va_cpy (W 13) (Wx 13) 0 0 (V 0 3))) 14 (va_cpy (W 14) (Wx 14) 0 0 tp)) (va_up (va_up Tx 0 ((T 0))) 1 ((T 1))), s4, s5, s6, s7, s8, s9, s10, s11]) dX9_take_149 (fun _ => ⟨rfl, rfl⟩) rfl (Nat.le_of_ble_eq_true rfl) rfl rfl ?_
  refine jb_aload_n (pc' := 153) dX9_take_152 rfl rfl ?_
  refine gf_X9_54 (pc' := 156) (v := .ref 32) dX9_take_153 rfl rfl rfl ?_
  refine jb_iconst (pc' := 157) 0 dX9_take_156 (by decide) rfl ?_
  refine jb_aload_n (pc' := 158) dX9_take_157 rfl rfl ?_
  refine gf_X9_54 (pc' := 161) (v := .ref 72) dX9_take_158 rfl rfl rfl ?_
  refine jb_iconst (pc' := 162) 0 dX9_take_161 (by decide) rfl ?_
  refine jb_aload_n (pc' := 163) dX9_take_162 rfl rfl ?_
  refine gf_X9_57 (pc' := 166) (v := .int (nI wt)) dX9_take_163 rfl rfl rfl ?_
  refine jb_copy (pc' := 169) (sp := 0) (dp := 0) (n := wt) (f := (W 15)) (g := (Wx 15)) (h' := [s0, jb_sch13 I W T, s2, jb_sch53 (upd (upd (upd (upd (upd (upd (upd Ix 0 (nI (V 0 0))) 1 (I 1)) 2 (nI (V 0 1))) 3 (nI (V 0 2))) 4 (nI (V 0 3))) 5 (nI tp)) 6 (nI wt)) (va_up (va_up (va_up (va_up (va_up (va_up (va_up (va_up (va_up (va_up (va_up (va_up (va_up (va_up (va_up (va_up Wx 0 (va_cpy (W 0) (Wx 0) 0 0 3)) 1 (va_cpy (W 1) (Wx 1) 0 0 (V 0 1))) 2 (va_cpy (W 2) (Wx 2) 0 0 (V 0 1))) 3 (va_cpy (W 3) (Wx 3) 0 0 (V 0 1))) 4 (va_cpy (W 4) (Wx 4) 0 0 (V 0 2))) 5 (va_cpy (W 5) (Wx 5) 0 0 (V 0 2))) 6 (va_cpy (W 6) (Wx 6) 0 0 (V 0 2))) 7 (va_cpy (W 7) (Wx 7) 0 0 (V 0 2))) 8 (va_cpy (W 8) (Wx 8) 0 0 (V 0 2))) 9 (va_cpy (W 9) (Wx 9) 0 0 (V 0 2))) 10 (va_cpy (W 10) (Wx 10) 0 0 (V 0 3))) 11 (va_cpy (W 11) (Wx 11) 0 0 (V 0 3))) 12 (va_cpy (W 12) (Wx 12) 0 0 (V 0 3))) 13 (va_cpy (W 13) (Wx 13) 0 0 (V 0 3))) 14 (va_cpy (W 14) (Wx 14) 0 0 tp)) 15 (va_cpy (W 15) (Wx 15) 0 0 wt)) (va_up (va_up Tx 0 ((T 0))) 1 ((T 1))), s4, s5, s6, s7, s8, s9, s10, s11]) wo_X9_68 jb_cp2 jb_cp3 jb_cp4 dX9_take_166 rfl rfl jb_x0 jb_x0 (jb_ix_nI (by omega)) (by omega) (by omega) (by decide) (Nat.le_of_ble_eq_true rfl) rfl rfl ?_
  refine jb_vret dX9_take_169 ?_
  exact ⟨rfl, (upd (upd (upd (upd (upd (upd (upd Ix 0 (nI (V 0 0))) 1 (I 1)) 2 (nI (V 0 1))) 3 (nI (V 0 2))) 4 (nI (V 0 3))) 5 (nI tp)) 6 (nI wt)), (va_up (va_up (va_up (va_up (va_up (va_up (va_up (va_up (va_up (va_up (va_up (va_up (va_up (va_up (va_up (va_up Wx 0 (va_cpy (W 0) (Wx 0) 0 0 3)) 1 (va_cpy (W 1) (Wx 1) 0 0 (V 0 1))) 2 (va_cpy (W 2) (Wx 2) 0 0 (V 0 1))) 3 (va_cpy (W 3) (Wx 3) 0 0 (V 0 1))) 4 (va_cpy (W 4) (Wx 4) 0 0 (V 0 2))) 5 (va_cpy (W 5) (Wx 5) 0 0 (V 0 2))) 6 (va_cpy (W 6) (Wx 6) 0 0 (V 0 2))) 7 (va_cpy (W 7) (Wx 7) 0 0 (V 0 2))) 8 (va_cpy (W 8) (Wx 8) 0 0 (V 0 2))) 9 (va_cpy (W 9) (Wx 9) 0 0 (V 0 2))) 10 (va_cpy (W 10) (Wx 10) 0 0 (V 0 3))) 11 (va_cpy (W 11) (Wx 11) 0 0 (V 0 3))) 12 (va_cpy (W 12) (Wx 12) 0 0 (V 0 3))) 13 (va_cpy (W 13) (Wx 13) 0 0 (V 0 3))) 14 (va_cpy (W 14) (Wx 14) 0 0 tp)) 15 (va_cpy (W 15) (Wx 15) 0 0 wt)), (va_up (va_up Tx 0 ((T 0))) 1 ((T 1))), jr_tk (X := Wx) hr0 rfl rfl rfl rfl rfl rfl rfl rfl rfl rfl rfl rfl rfl rfl rfl rfl rfl rfl, rfl, h5.symm, h6.symm, rfl, rfl, fun k hk => jc_in hk, fun k hk => jc_in hk, rfl⟩
