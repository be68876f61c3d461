/-! ===== the pair theorems ===== -/
theorem jI.of {c : Nat} {im : Int32} {Im : Nat → Int32} {Tm : Nat → Value} {row stk tpm : Nat → Int32} {I : Nat → Int32} {W : Nat → Nat → Int32} {T : Nat → Value} {Ik : Nat → Int32} {Wk : Nat → Nat → Int32} {Tk : Nat → Value} {Ix : Nat → Int32} {Wx : Nat → Nat → Int32} {Tx : Nat → Value} {I0 n0 J0 : Nat → Int32} {W0 : Nat → Nat → Int32} {I1 n1 J1 : Nat → Int32} {W1 : Nat → Nat → Int32} {I2 n2 J2 : Nat → Int32} {W2 : Nat → Nat → Int32} {I3 n3 J3 : Nat → Int32} {W3 : Nat → Nat → Int32} {A bo er R J d e kp nm : Nat → Int32} {Wm : Nat → Nat → Int32} {s11 : List va_E}
  (hF : jF c im I W T Ik Wk Tk I0 n0 I1 n1 I2 n2 I3 n3 A bo er R d kp Wm s11) : jI c [jb_main im Im Tm row stk tpm, jb_sch13 I W T, jb_sch33 Ik Wk Tk, jb_sch53 Ix Wx Tx, jb_shs, jb_sht74 I0 n0 J0 W0, jb_sht81 I1 n1 J1 W1, jb_sht88 I2 n2 J2 W2, jb_sht95 I3 n3 J3 W3, jb_act A bo er, jb_mdl R J d e kp nm Wm, s11] :=
  ⟨im, Im, Tm, row, stk, tpm, I, W, T, Ik, Wk, Tk, Ix, Wx, Tx, I0, n0, J0, W0, I1, n1, J1, W1, I2, n2, J2, W2, I3, n3, J3, W3, A, bo, er, R, J, d, e, kp, nm, Wm, s11, rfl, hF⟩
def jPr (sc : Nat × (Nat → Int32)) (y2 : MethodName) (cc2 : ByteArray) (nL2 : Nat) (av : List Value) (c : Nat) (h1 : jb_H) (v : Int32) : Prop := (∃ fs, jb_look h1 105 = some (.inr (12, fs))) ∧ ∃ (d2 : Nat) (Q2 : Option Value → jb_H → Prop), d2 ≤ 60 ∧ jb_C sc y2 cc2 nL2 (Option.some .int) d2 0 0 (.ref 105 :: av) h1 Q2 ∧ ∀ r2 h2, Q2 r2 h2 → r2 = some (.int v) ∧ jI (c + 1) h2
theorem jPr.of {sc : Nat × (Nat → Int32)} {y2 : MethodName} {cc2 : ByteArray} {nL2 : Nat} {av : List Value} {c : Nat} {h1 : jb_H} {v : Int32} {d2 : Nat} {Q2 : Option Value → jb_H → Prop} (hc : jb_C sc y2 cc2 nL2 (Option.some .int) d2 0 0 (.ref 105 :: av) h1 Q2) (hd : d2 ≤ 60) (hl : ∃ fs, jb_look h1 105 = some (.inr (12, fs))) (k : ∀ r2 h2, Q2 r2 h2 → r2 = some (.int v) ∧ jI (c + 1) h2) : jPr sc y2 cc2 nL2 av c h1 v := ⟨hl, d2, Q2, hd, hc, k⟩
theorem jPc.of {sc : Nat × (Nat → Int32)} {y1 : MethodName} {cc1 : ByteArray} {nL1 : Nat} {y2 : MethodName} {cc2 : ByteArray} {nL2 : Nat} {av : List Value} {c : Nat} {h : jb_H} {d1 a1 b1 : Nat} {Q1 : Option Value → jb_H → Prop} (hc : jb_C sc y1 cc1 nL1 (Option.some .int) d1 a1 b1 (.ref 0 :: av) h Q1) (h1 : d1 ≤ 60) (h2 : a1 ≤ 1) (h3 : b1 ≤ 50) (k : ∀ r h1, Q1 r h1 → ∃ v, r = some (.int v) ∧ jPr sc y2 cc2 nL2 av c h1 v) : jPc sc y1 cc1 nL1 y2 cc2 nL2 av c h :=
  ⟨d1, a1, b1, Q1, h1, h2, h3, hc, k⟩
theorem jm_ck_eq {G : jm_G} {f g : Nat → Int32} : ∀ (n i : Nat) (s : (Nat → Nat → Nat) × Int32), (∀ k, i ≤ k → k < i + n → f k = g k) → jm_ck G f n i s = jm_ck G g n i s
  | 0, _, _, _ => rfl
  | n + 1, i, s, h => by
    unfold jm_ck
    rw [h i (by omega) (by omega)]
    simp only [jm_ck_eq n (i + 1) _ (fun k a b => h k (by omega) (by omega))]
theorem jx_d.to2 {X : Nat → Option (List Int32)} {d d' : Nat → Int32} (h : jx_d X d) (e : ∀ k, 316 ≤ k → k < 438 → (k < 318 ∨ 338 ≤ k) → d' k = d k) : jx_d X d' := by
  intro u hu
  have e1 : d' (316 + u) = d (316 + u) := e _ (by omega) (by omega) (by omega)
  rcases h u hu with ⟨a, b⟩ | ⟨c, n, a, b, b2, b3, b4⟩
  · exact Or.inl ⟨a, e1.trans b⟩
  · refine Or.inr ⟨c, n, a, b, b2, e1.trans b3, ?_⟩
    rw [← b4]
    exact jp_al_eq (fun k hk => e _ (by omega) (by omega) (by omega))
theorem jS.sd {X : Nat → Option (List Int32)} {V : Nat → Nat → Nat} {tp wt : Nat} {I : Nat → Int32} {W : Nat → Nat → Int32} {T : Nat → Value} {d : Nat → Int32} {s11 : List va_E} (h : jS X V tp wt I W T d s11) (v : Int32) : jS X V tp wt (upd I 1 v) W T (upd d 7 v) s11 := by
  obtain ⟨hr, hd, hk, h9, hz, h5, h8, htp, htt, hby, h6, h99, hwt, htw, hxc, hxd⟩ := h
  have g : ∀ k, ¬ k = 7 → upd d 7 v k = d k := fun k q => if_neg q
  exact ⟨hr, hd.lo hk (fun k _ _ _ q => g k q), hk, h9, rfl, h5, h8, htp, fun k hk => (htt k hk).trans (g _ (by omega)).symm, hby, h6, h99, hwt, fun k hk => (htw k hk).trans (g _ (by omega)).symm, hxc, hxd.to (fun k a b => g k (by omega))⟩
theorem jS.tl {X : Nat → Option (List Int32)} {V : Nat → Nat → Nat} {tp wt : Nat} {I : Nat → Int32} {W : Nat → Nat → Int32} {T : Nat → Value} {d : Nat → Int32} {s11 : List va_E} (h : jS X V tp wt I W T d s11) (hw : wt < 20) (v : Int32) : jS X V tp (wt + 1) (upd I 6 (nI (wt + 1))) (va_up W 15 (upd (W 15) wt v)) T (upd (upd d (318 + wt) v) 9 (nI (wt + 1))) s11 := by
  obtain ⟨hr, hd, hk, h9, hz, h5, h8, htp, htt, hby, h6, h99, hwt, htw, hxc, hxd⟩ := h
  have g : ∀ k, ¬ k = 9 → ¬ k = 318 + wt → (upd (upd d (318 + wt) v) 9 (nI (wt + 1))) k = d k := fun k q q2 => (if_neg q).trans (if_neg q2)
  refine ⟨hr, hd.lo hk (fun k a _ q _ => g k q (by omega)), hk, h9, hz.trans (g 7 (by omega) (by omega)).symm, h5, (g 8 (by omega) (by omega)).trans h8, htp, fun k hk => (htt k hk).trans (g _ (by omega) (by omega)).symm, hby, rfl, rfl, hw, fun k hk => ?_, hxc, ?_⟩
  · have e : (va_up W 15 (upd (W 15) wt v)) 15 = upd (W 15) wt v := if_pos rfl
    rw [e]
    by_cases q : k = wt
    · subst q
      exact ((if_pos rfl).trans ((if_neg (by omega)).trans (if_pos rfl)).symm)
    · exact (if_neg q).trans ((htw k (by omega)).trans (g _ (by omega) (by omega)).symm)
  · exact hxd.to2 (fun k a b c => g k (by omega) (by omega))
theorem p_air {sc : Nat × (Nat → Int32)} (w v : Int32) : jP sc yX11_air cX11_air 5 yX12_air cX12_air 4 [.int w, .int v] := by
  intro c h hc hI
  obtain ⟨im, Im, Tm, row, stk, tpm, I, W, T, Ik, Wk, Tk, Ix, Wx, Tx, I0, n0, J0, W0, I1, n1, J1, W1, I2, n2, J2, W2, I3, n3, J3, W3, A, bo, er, R, J, d, e, kp, nm, Wm, s11, rfl, hF⟩ := hI
  obtain ⟨X, V, tp, wt, hS0⟩ := hF.1
  have hS := hS0
  obtain ⟨hr, hd, hk, h9, hz, h5, h8, htp, htt, hby, h6, h99, hwt, htw, hxc, hxd⟩ := hS
  by_cases hb : jn_b w 0 3
  · obtain ⟨w_, lw_, uw_, rfl⟩ := hb
    match w_, uw_ with
    | 0, _ =>
      by_cases hb : jn_b v 1 21
      · obtain ⟨v_, lv_, uv_, rfl⟩ := hb
        refine jPc.of (kx_air0 im Im row stk tpm Tm I W T hr hk v_ lv_ (by omega)) (by decide) (by decide) (by decide) ?_
        rintro r g ⟨rfl, I9, W9, hr9, hz9, hf9, rfl⟩
        refine ⟨_, rfl, jPr.of (mx_air0 R J d e kp nm Wm hd hk v_ lv_ (by omega)) (by decide) ⟨_, rfl⟩ ?_⟩
        rintro r2 g2 ⟨rfl, d9, hd9, hy9, hg9, rfl⟩
        exact ⟨rfl, jI.of (hF.sc ⟨X, _, tp, wt, hS0.up hr9 hd9 (jv_air0 hk lv_ (by omega)) h9 (hz9.trans (hz.trans hy9.symm)) hf9 hg9⟩)⟩
      · refine jPc.of (ke_air0 im Im row stk tpm Tm I W T A bo er hr hk _ hb) (by decide) (by decide) (by decide) ?_
        rintro r g ⟨rfl, rfl⟩
        refine ⟨_, rfl, jPr.of (me_air0 R J d e kp nm Wm hd hk _ hb) (by decide) ⟨_, rfl⟩ ?_⟩
        rintro r2 g2 ⟨rfl, rfl⟩
        exact ⟨rfl, jI.of (hF.err (by decide))⟩
    | 1, _ =>
      by_cases hb : jn_b v 0 10
      · obtain ⟨v_, lv_, uv_, rfl⟩ := hb
        refine jPc.of (kx_air1 im Im row stk tpm Tm I W T hr hk v_ lv_ (by omega)) (by decide) (by decide) (by decide) ?_
        rintro r g ⟨rfl, I9, W9, hr9, hz9, hf9, rfl⟩
        refine ⟨_, rfl, jPr.of (mx_air1 R J d e kp nm Wm hd hk v_ lv_ (by omega)) (by decide) ⟨_, rfl⟩ ?_⟩
        rintro r2 g2 ⟨rfl, d9, hd9, hy9, hg9, rfl⟩
        exact ⟨rfl, jI.of (hF.sc ⟨X, _, tp, wt, hS0.up hr9 hd9 (jv_air1 hk lv_ (by omega)) h9 (hz9.trans (hz.trans hy9.symm)) hf9 hg9⟩)⟩
      · refine jPc.of (ke_air1 im Im row stk tpm Tm I W T A bo er hr hk _ hb) (by decide) (by decide) (by decide) ?_
        rintro r g ⟨rfl, rfl⟩
        refine ⟨_, rfl, jPr.of (me_air1 R J d e kp nm Wm hd hk _ hb) (by decide) ⟨_, rfl⟩ ?_⟩
        rintro r2 g2 ⟨rfl, rfl⟩
        exact ⟨rfl, jI.of (hF.err (by decide))⟩
    | 2, _ =>
      by_cases hb : jn_b v 0 10
      · obtain ⟨v_, lv_, uv_, rfl⟩ := hb
        refine jPc.of (kx_air2 im Im row stk tpm Tm I W T hr hk v_ lv_ (by omega)) (by decide) (by decide) (by decide) ?_
        rintro r g ⟨rfl, I9, W9, hr9, hz9, hf9, rfl⟩
        refine ⟨_, rfl, jPr.of (mx_air2 R J d e kp nm Wm hd hk v_ lv_ (by omega)) (by decide) ⟨_, rfl⟩ ?_⟩
        rintro r2 g2 ⟨rfl, d9, hd9, hy9, hg9, rfl⟩
        exact ⟨rfl, jI.of (hF.sc ⟨X, _, tp, wt, hS0.up hr9 hd9 (jv_air2 hk lv_ (by omega)) h9 (hz9.trans (hz.trans hy9.symm)) hf9 hg9⟩)⟩
      · refine jPc.of (ke_air2 im Im row stk tpm Tm I W T A bo er hr hk _ hb) (by decide) (by decide) (by decide) ?_
        rintro r g ⟨rfl, rfl⟩
        refine ⟨_, rfl, jPr.of (me_air2 R J d e kp nm Wm hd hk _ hb) (by decide) ⟨_, rfl⟩ ?_⟩
        rintro r2 g2 ⟨rfl, rfl⟩
        exact ⟨rfl, jI.of (hF.err (by decide))⟩
  · refine jPc.of (ke_air im Im row stk tpm Tm I W T A bo er hr hk _ _ hb) (by decide) (by decide) (by decide) ?_
    rintro r g ⟨rfl, rfl⟩
    refine ⟨_, rfl, jPr.of (me_air R J d e kp nm Wm hd hk _ _ hb) (by decide) ⟨_, rfl⟩ ?_⟩
    rintro r2 g2 ⟨rfl, rfl⟩
    exact ⟨rfl, jI.of (hF.err (by decide))⟩
theorem p_person {sc : Nat × (Nat → Int32)} (km c0 : Int32) : jP sc yX11_person cX11_person 3 yX12_person cX12_person 4 [.int km, .int c0] := by
  intro c h hc hI
  obtain ⟨im, Im, Tm, row, stk, tpm, I, W, T, Ik, Wk, Tk, Ix, Wx, Tx, I0, n0, J0, W0, I1, n1, J1, W1, I2, n2, J2, W2, I3, n3, J3, W3, A, bo, er, R, J, d, e, kp, nm, Wm, s11, rfl, hF⟩ := hI
  obtain ⟨X, V, tp, wt, hS0⟩ := hF.1
  have hS := hS0
  obtain ⟨hr, hd, hk, h9, hz, h5, h8, htp, htt, hby, h6, h99, hwt, htw, hxc, hxd⟩ := hS
  by_cases hb : jn_b km 0 70 ∧ jn_b c0 0 2
  · obtain ⟨⟨km_, lkm, ukm, rfl⟩, ⟨c0_, lc0, uc0, rfl⟩⟩ := hb
    by_cases hq : V 0 1 < 6
    · refine jPc.of (kx_person im Im row stk tpm Tm I W T hr hk km_ c0_ ukm uc0 hq) (by decide) (by decide) (by decide) ?_
      rintro r g ⟨rfl, I9, W9, hr9, hz9, hf9, rfl⟩
      refine ⟨_, rfl, jPr.of (mx_person R J d e kp nm Wm hd hk km_ c0_ ukm uc0 hq) (by decide) ⟨_, rfl⟩ ?_⟩
      rintro r2 g2 ⟨rfl, d9, hd9, hy9, hg9, rfl⟩
      exact ⟨rfl, jI.of (hF.sc ⟨X, _, tp, wt, hS0.up hr9 hd9 (jv_ok_av hk hq (by omega) (by omega) uc0) h9 (hz9.trans (hz.trans hy9.symm)) hf9 hg9⟩)⟩
    · have hq6 : V 0 1 = 6 := by have := hk.2.1; omega
      refine jPc.of (ke_personF im Im row stk tpm Tm I W T A bo er hr hk km_ c0_ ukm uc0 hq6) (by decide) (by decide) (by decide) ?_
      rintro r g ⟨rfl, rfl⟩
      refine ⟨_, rfl, jPr.of (me_personF R J d e kp nm Wm hd hk km_ c0_ ukm uc0 hq6) (by decide) ⟨_, rfl⟩ ?_⟩
      rintro r2 g2 ⟨rfl, rfl⟩
      exact ⟨rfl, jI.of (hF.err (by decide))⟩
  · refine jPc.of (ke_person im Im row stk tpm Tm I W T A bo er hr hk _ _ hb) (by decide) (by decide) (by decide) ?_
    rintro r g ⟨rfl, rfl⟩
    refine ⟨_, rfl, jPr.of (me_person R J d e kp nm Wm hd hk _ _ hb) (by decide) ⟨_, rfl⟩ ?_⟩
    rintro r2 g2 ⟨rfl, rfl⟩
    exact ⟨rfl, jI.of (hF.err (by decide))⟩
theorem p_ofVoice {sc : Nat × (Nat → Int32)} (p w : Int32) : jP sc yX11_ofVoice cX11_ofVoice 3 yX12_ofVoice cX12_ofVoice 3 [.int p, .int w] := by
  intro c h hc hI
  obtain ⟨im, Im, Tm, row, stk, tpm, I, W, T, Ik, Wk, Tk, Ix, Wx, Tx, I0, n0, J0, W0, I1, n1, J1, W1, I2, n2, J2, W2, I3, n3, J3, W3, A, bo, er, R, J, d, e, kp, nm, Wm, s11, rfl, hF⟩ := hI
  obtain ⟨X, V, tp, wt, hS0⟩ := hF.1
  have hS := hS0
  obtain ⟨hr, hd, hk, h9, hz, h5, h8, htp, htt, hby, h6, h99, hwt, htw, hxc, hxd⟩ := hS
  by_cases hb : jn_b p 0 (V 0 1) ∧ jn_b w 0 4
  · obtain ⟨⟨p_, lp, up, rfl⟩, ⟨w_, lw, uw, rfl⟩⟩ := hb
    match w_, uw with
    | 0, _ =>
      refine jPc.of (kx_ofVoice0 im Im row stk tpm Tm I W T hr hk p_ up) (by decide) (by decide) (by decide) ?_
      rintro r g ⟨rfl, rfl⟩
      refine ⟨_, rfl, jPr.of (mx_ofVoice0 R J d e kp nm Wm hd hk p_ up) (by decide) ⟨_, rfl⟩ ?_⟩
      rintro r2 g2 ⟨rfl, rfl⟩
      exact ⟨rfl, jI.of (hF.no)⟩
    | 1, _ =>
      refine jPc.of (kx_ofVoice1 im Im row stk tpm Tm I W T hr hk p_ up) (by decide) (by decide) (by decide) ?_
      rintro r g ⟨rfl, rfl⟩
      refine ⟨_, rfl, jPr.of (mx_ofVoice1 R J d e kp nm Wm hd hk p_ up) (by decide) ⟨_, rfl⟩ ?_⟩
      rintro r2 g2 ⟨rfl, rfl⟩
      exact ⟨rfl, jI.of (hF.no)⟩
    | 2, _ =>
      refine jPc.of (kx_ofVoice2 im Im row stk tpm Tm I W T hr hk p_ up) (by decide) (by decide) (by decide) ?_
      rintro r g ⟨rfl, rfl⟩
      refine ⟨_, rfl, jPr.of (mx_ofVoice2 R J d e kp nm Wm hd hk p_ up) (by decide) ⟨_, rfl⟩ ?_⟩
      rintro r2 g2 ⟨rfl, rfl⟩
      exact ⟨rfl, jI.of (hF.no)⟩
    | 3, _ =>
      refine jPc.of (kx_ofVoice3 im Im row stk tpm Tm I W T hr hk p_ up) (by decide) (by decide) (by decide) ?_
      rintro r g ⟨rfl, rfl⟩
      refine ⟨_, rfl, jPr.of (mx_ofVoice3 R J d e kp nm Wm hd hk p_ up) (by decide) ⟨_, rfl⟩ ?_⟩
      rintro r2 g2 ⟨rfl, rfl⟩
      exact ⟨rfl, jI.of (hF.no)⟩
  · refine jPc.of (ke_ofVoice im Im row stk tpm Tm I W T A bo er hr hk _ _ hb) (by decide) (by decide) (by decide) ?_
    rintro r g ⟨rfl, rfl⟩
    refine ⟨_, rfl, jPr.of (me_ofVoice R J d e kp nm Wm hd hk _ _ hb) (by decide) ⟨_, rfl⟩ ?_⟩
    rintro r2 g2 ⟨rfl, rfl⟩
    exact ⟨rfl, jI.of (hF.err (by decide))⟩
theorem p_carries {sc : Nat × (Nat → Int32)} (p w : Int32) : jP sc yX11_carries cX11_carries 3 yX12_carries cX12_carries 3 [.int p, .int w] := by
  intro c h hc hI
  obtain ⟨im, Im, Tm, row, stk, tpm, I, W, T, Ik, Wk, Tk, Ix, Wx, Tx, I0, n0, J0, W0, I1, n1, J1, W1, I2, n2, J2, W2, I3, n3, J3, W3, A, bo, er, R, J, d, e, kp, nm, Wm, s11, rfl, hF⟩ := hI
  obtain ⟨X, V, tp, wt, hS0⟩ := hF.1
  have hS := hS0
  obtain ⟨hr, hd, hk, h9, hz, h5, h8, htp, htt, hby, h6, h99, hwt, htw, hxc, hxd⟩ := hS
  have hG := jx_Gok X
  have hg := c_gives_13 (sc := sc) hxc
  have hgm := c_givesm (sc := sc) hxd
  have hag : ∀ k, 316 ≤ k → d k = d k := fun _ _ => rfl
  by_cases hb : jn_b p 0 (V 0 1) ∧ jn_b w 0 40
  · obtain ⟨⟨p_, lp, up, rfl⟩, ⟨w_, lw, uw, rfl⟩⟩ := hb
    refine jPc.of (kx_carries im Im row stk tpm Tm I W T hr hk p_ up w_ uw hG hg) (by decide) (by decide) (by decide) ?_
    rintro r g ⟨rfl, stk9, rfl⟩
    refine ⟨_, rfl, jPr.of (mx_carries R J d e kp nm Wm hd hk p_ up w_ uw hG hgm hag) (by decide) ⟨_, rfl⟩ ?_⟩
    rintro r2 g2 ⟨rfl, J9, nm9, rfl⟩
    exact ⟨rfl, jI.of (hF.no)⟩
  · refine jPc.of (ke_carries im Im row stk tpm Tm I W T A bo er hr hk _ _ hb) (by decide) (by decide) (by decide) ?_
    rintro r g ⟨rfl, rfl⟩
    refine ⟨_, rfl, jPr.of (me_carries R J d e kp nm Wm hd hk _ _ hb) (by decide) ⟨_, rfl⟩ ?_⟩
    rintro r2 g2 ⟨rfl, rfl⟩
    exact ⟨rfl, jI.of (hF.err (by decide))⟩
theorem p_says {sc : Nat × (Nat → Int32)} (p w : Int32) : jP sc yX11_says cX11_says 3 yX12_says cX12_says 3 [.int p, .int w] := by
  intro c h hc hI
  obtain ⟨im, Im, Tm, row, stk, tpm, I, W, T, Ik, Wk, Tk, Ix, Wx, Tx, I0, n0, J0, W0, I1, n1, J1, W1, I2, n2, J2, W2, I3, n3, J3, W3, A, bo, er, R, J, d, e, kp, nm, Wm, s11, rfl, hF⟩ := hI
  obtain ⟨X, V, tp, wt, hS0⟩ := hF.1
  have hS := hS0
  obtain ⟨hr, hd, hk, h9, hz, h5, h8, htp, htt, hby, h6, h99, hwt, htw, hxc, hxd⟩ := hS
  have hG := jx_Gok X
  have hg := c_gives_13 (sc := sc) hxc
  have hgm := c_givesm (sc := sc) hxd
  have hag : ∀ k, 316 ≤ k → d k = d k := fun _ _ => rfl
  by_cases hb : jn_b p 0 (V 0 1) ∧ jn_b w 0 40
  · obtain ⟨⟨p_, lp, up, rfl⟩, ⟨w_, lw, uw, rfl⟩⟩ := hb
    refine jPc.of (kx_says im Im row stk tpm Tm I W T hr hk p_ up w_ uw hG hg) (by decide) (by decide) (by decide) ?_
    rintro r g ⟨rfl, stk9, rfl⟩
    refine ⟨_, rfl, jPr.of (mx_says R J d e kp nm Wm hd hk p_ up w_ uw hG hgm hag) (by decide) ⟨_, rfl⟩ ?_⟩
    rintro r2 g2 ⟨rfl, J9, nm9, rfl⟩
    exact ⟨rfl, jI.of (hF.no)⟩
  · refine jPc.of (ke_says im Im row stk tpm Tm I W T A bo er hr hk _ _ hb) (by decide) (by decide) (by decide) ?_
    rintro r g ⟨rfl, rfl⟩
    refine ⟨_, rfl, jPr.of (me_says R J d e kp nm Wm hd hk _ _ hb) (by decide) ⟨_, rfl⟩ ?_⟩
    rintro r2 g2 ⟨rfl, rfl⟩
    exact ⟨rfl, jI.of (hF.err (by decide))⟩
theorem p_go {sc : Nat × (Nat → Int32)} (p c0 : Int32) : jP sc yX11_go cX11_go 4 yX12_go cX12_go 4 [.int p, .int c0] := by
  intro c h hc hI
  obtain ⟨im, Im, Tm, row, stk, tpm, I, W, T, Ik, Wk, Tk, Ix, Wx, Tx, I0, n0, J0, W0, I1, n1, J1, W1, I2, n2, J2, W2, I3, n3, J3, W3, A, bo, er, R, J, d, e, kp, nm, Wm, s11, rfl, hF⟩ := hI
  obtain ⟨X, V, tp, wt, hS0⟩ := hF.1
  have hS := hS0
  obtain ⟨hr, hd, hk, h9, hz, h5, h8, htp, htt, hby, h6, h99, hwt, htw, hxc, hxd⟩ := hS
  by_cases hb : jn_b p 0 (V 0 1) ∧ jn_b c0 0 2
  · obtain ⟨⟨p_, lp, up, rfl⟩, ⟨c0_, lc0, uc0, rfl⟩⟩ := hb
    refine jPc.of (kx_go im Im row stk tpm Tm I W T hr hk p_ up c0_ uc0) (by decide) (by decide) (by decide) ?_
    rintro r g ⟨rfl, I9, W9, hr9, hz9, hf9, rfl⟩
    refine ⟨_, rfl, jPr.of (mx_go R J d e kp nm Wm hd hk p_ up c0_ uc0) (by decide) ⟨_, rfl⟩ ?_⟩
    rintro r2 g2 ⟨rfl, d9, hd9, hy9, hg9, rfl⟩
    exact ⟨rfl, jI.of (hF.sc ⟨X, _, tp, wt, hS0.up hr9 hd9 (jv_go hk uc0) h9 (hz9.trans (hz.trans hy9.symm)) hf9 hg9⟩)⟩
  · refine jPc.of (ke_go im Im row stk tpm Tm I W T A bo er hr hk _ _ hb) (by decide) (by decide) (by decide) ?_
    rintro r g ⟨rfl, rfl⟩
    refine ⟨_, rfl, jPr.of (me_go R J d e kp nm Wm hd hk _ _ hb) (by decide) ⟨_, rfl⟩ ?_⟩
    rintro r2 g2 ⟨rfl, rfl⟩
    exact ⟨rfl, jI.of (hF.err (by decide))⟩
theorem p_become {sc : Nat × (Nat → Int32)} (p c0 : Int32) : jP sc yX11_become cX11_become 4 yX12_become cX12_become 4 [.int p, .int c0] := by
  intro c h hc hI
  obtain ⟨im, Im, Tm, row, stk, tpm, I, W, T, Ik, Wk, Tk, Ix, Wx, Tx, I0, n0, J0, W0, I1, n1, J1, W1, I2, n2, J2, W2, I3, n3, J3, W3, A, bo, er, R, J, d, e, kp, nm, Wm, s11, rfl, hF⟩ := hI
  obtain ⟨X, V, tp, wt, hS0⟩ := hF.1
  have hS := hS0
  obtain ⟨hr, hd, hk, h9, hz, h5, h8, htp, htt, hby, h6, h99, hwt, htw, hxc, hxd⟩ := hS
  by_cases hb : jn_b p 0 (V 0 1) ∧ jn_b c0 0 70
  · obtain ⟨⟨p_, lp, up, rfl⟩, ⟨c0_, lc0, uc0, rfl⟩⟩ := hb
    refine jPc.of (kx_become im Im row stk tpm Tm I W T hr hk p_ up c0_ uc0) (by decide) (by decide) (by decide) ?_
    rintro r g ⟨rfl, I9, W9, hr9, hz9, hf9, rfl⟩
    refine ⟨_, rfl, jPr.of (mx_become R J d e kp nm Wm hd hk p_ up c0_ uc0) (by decide) ⟨_, rfl⟩ ?_⟩
    rintro r2 g2 ⟨rfl, d9, hd9, hy9, hg9, rfl⟩
    exact ⟨rfl, jI.of (hF.sc ⟨X, _, tp, wt, hS0.up hr9 hd9 (jv_be hk (by omega) (by omega)) h9 (hz9.trans (hz.trans hy9.symm)) hf9 hg9⟩)⟩
  · refine jPc.of (ke_become im Im row stk tpm Tm I W T A bo er hr hk _ _ hb) (by decide) (by decide) (by decide) ?_
    rintro r g ⟨rfl, rfl⟩
    refine ⟨_, rfl, jPr.of (me_become R J d e kp nm Wm hd hk _ _ hb) (by decide) ⟨_, rfl⟩ ?_⟩
    rintro r2 g2 ⟨rfl, rfl⟩
    exact ⟨rfl, jI.of (hF.err (by decide))⟩
theorem p_as {sc : Nat × (Nat → Int32)} (p j : Int32) : jP sc yX11_as cX11_as 3 yX12_as cX12_as 4 [.int p, .int j] := by
  intro c h hc hI
  obtain ⟨im, Im, Tm, row, stk, tpm, I, W, T, Ik, Wk, Tk, Ix, Wx, Tx, I0, n0, J0, W0, I1, n1, J1, W1, I2, n2, J2, W2, I3, n3, J3, W3, A, bo, er, R, J, d, e, kp, nm, Wm, s11, rfl, hF⟩ := hI
  obtain ⟨X, V, tp, wt, hS0⟩ := hF.1
  have hS := hS0
  obtain ⟨hr, hd, hk, h9, hz, h5, h8, htp, htt, hby, h6, h99, hwt, htw, hxc, hxd⟩ := hS
  by_cases hb : jn_b p 0 (V 0 1) ∧ jn_b j 0 7
  · obtain ⟨⟨p_, lp, up, rfl⟩, ⟨j_, lj, uj, rfl⟩⟩ := hb
    by_cases hq : jm_un (V 1 p_) j_
    · refine jPc.of (kx_as im Im row stk tpm Tm I W T hr hk p_ up j_ uj hq) (by decide) (by decide) (by decide) ?_
      rintro r g ⟨rfl, rfl⟩
      refine ⟨_, rfl, jPr.of (mx_as R J d e kp nm Wm hd hk p_ up j_ uj hq) (by decide) ⟨_, rfl⟩ ?_⟩
      rintro r2 g2 ⟨rfl, rfl⟩
      exact ⟨rfl, jI.of (hF.no)⟩
    · refine jPc.of (ke_asK im Im row stk tpm Tm I W T A bo er hr hk p_ up j_ uj hq) (by decide) (by decide) (by decide) ?_
      rintro r g ⟨rfl, rfl⟩
      refine ⟨_, rfl, jPr.of (me_asK R J d e kp nm Wm hd hk p_ up j_ uj hq) (by decide) ⟨_, rfl⟩ ?_⟩
      rintro r2 g2 ⟨rfl, rfl⟩
      exact ⟨rfl, jI.of (hF.err (by decide))⟩
  · refine jPc.of (ke_as im Im row stk tpm Tm I W T A bo er hr hk _ _ hb) (by decide) (by decide) (by decide) ?_
    rintro r g ⟨rfl, rfl⟩
    refine ⟨_, rfl, jPr.of (me_as R J d e kp nm Wm hd hk _ _ hb) (by decide) ⟨_, rfl⟩ ?_⟩
    rintro r2 g2 ⟨rfl, rfl⟩
    exact ⟨rfl, jI.of (hF.err (by decide))⟩
theorem p_shout {sc : Nat × (Nat → Int32)} (p w : Int32) : jP sc yX11_shout cX11_shout 3 yX12_shout cX12_shout 3 [.int p, .int w] := by
  intro c h hc hI
  obtain ⟨im, Im, Tm, row, stk, tpm, I, W, T, Ik, Wk, Tk, Ix, Wx, Tx, I0, n0, J0, W0, I1, n1, J1, W1, I2, n2, J2, W2, I3, n3, J3, W3, A, bo, er, R, J, d, e, kp, nm, Wm, s11, rfl, hF⟩ := hI
  obtain ⟨X, V, tp, wt, hS0⟩ := hF.1
  have hS := hS0
  obtain ⟨hr, hd, hk, h9, hz, h5, h8, htp, htt, hby, h6, h99, hwt, htw, hxc, hxd⟩ := hS
  by_cases hb : jn_b p 0 (V 0 1) ∧ jn_b w 0 40
  · obtain ⟨⟨p_, lp, up, rfl⟩, ⟨w_, lw, uw, rfl⟩⟩ := hb
    by_cases hq : V 0 2 < 40
    · refine jPc.of (kx_shout im Im row stk tpm Tm I W T hr hk p_ up w_ uw hq) (by decide) (by decide) (by decide) ?_
      rintro r g ⟨rfl, I9, W9, hr9, hz9, hf9, rfl⟩
      refine ⟨_, rfl, jPr.of (mx_shout R J d e kp nm Wm hd hk p_ up w_ uw hq) (by decide) ⟨_, rfl⟩ ?_⟩
      rintro r2 g2 ⟨rfl, d9, hd9, hy9, hg9, rfl⟩
      exact ⟨rfl, jI.of (hF.sc ⟨X, _, tp, wt, hS0.up hr9 hd9 (jv_ok_sh hk hq up uw (by omega)) h9 (hz9.trans (hz.trans hy9.symm)) hf9 hg9⟩)⟩
    · have hq6 : V 0 2 = 40 := by have := hk.2.2.1; omega
      refine jPc.of (ke_shoutF im Im row stk tpm Tm I W T A bo er hr hk p_ up w_ uw hq6) (by decide) (by decide) (by decide) ?_
      rintro r g ⟨rfl, rfl⟩
      refine ⟨_, rfl, jPr.of (me_shoutF R J d e kp nm Wm hd hk p_ up w_ uw hq6) (by decide) ⟨_, rfl⟩ ?_⟩
      rintro r2 g2 ⟨rfl, rfl⟩
      exact ⟨rfl, jI.of (hF.err (by decide))⟩
  · refine jPc.of (ke_shout im Im row stk tpm Tm I W T A bo er hr hk _ _ hb) (by decide) (by decide) (by decide) ?_
    rintro r g ⟨rfl, rfl⟩
    refine ⟨_, rfl, jPr.of (me_shout R J d e kp nm Wm hd hk _ _ hb) (by decide) ⟨_, rfl⟩ ?_⟩
    rintro r2 g2 ⟨rfl, rfl⟩
    exact ⟨rfl, jI.of (hF.err (by decide))⟩
theorem p_ofShout {sc : Nat × (Nat → Int32)} (p w : Int32) : jP sc yX11_ofShout cX11_ofShout 3 yX12_ofShout cX12_ofShout 3 [.int p, .int w] := by
  intro c h hc hI
  obtain ⟨im, Im, Tm, row, stk, tpm, I, W, T, Ik, Wk, Tk, Ix, Wx, Tx, I0, n0, J0, W0, I1, n1, J1, W1, I2, n2, J2, W2, I3, n3, J3, W3, A, bo, er, R, J, d, e, kp, nm, Wm, s11, rfl, hF⟩ := hI
  obtain ⟨X, V, tp, wt, hS0⟩ := hF.1
  have hS := hS0
  obtain ⟨hr, hd, hk, h9, hz, h5, h8, htp, htt, hby, h6, h99, hwt, htw, hxc, hxd⟩ := hS
  by_cases hb : jn_b p 0 (V 0 2) ∧ jn_b w 0 6
  · obtain ⟨⟨p_, lp, up, rfl⟩, ⟨w_, lw, uw, rfl⟩⟩ := hb
    match w_, uw with
    | 0, _ =>
      refine jPc.of (kx_ofShout0 im Im row stk tpm Tm I W T hr hk p_ up) (by decide) (by decide) (by decide) ?_
      rintro r g ⟨rfl, rfl⟩
      refine ⟨_, rfl, jPr.of (mx_ofShout0 R J d e kp nm Wm hd hk p_ up) (by decide) ⟨_, rfl⟩ ?_⟩
      rintro r2 g2 ⟨rfl, rfl⟩
      exact ⟨rfl, jI.of (hF.no)⟩
    | 1, _ =>
      refine jPc.of (kx_ofShout1 im Im row stk tpm Tm I W T hr hk p_ up) (by decide) (by decide) (by decide) ?_
      rintro r g ⟨rfl, rfl⟩
      refine ⟨_, rfl, jPr.of (mx_ofShout1 R J d e kp nm Wm hd hk p_ up) (by decide) ⟨_, rfl⟩ ?_⟩
      rintro r2 g2 ⟨rfl, rfl⟩
      exact ⟨rfl, jI.of (hF.no)⟩
    | 2, _ =>
      refine jPc.of (kx_ofShout2 im Im row stk tpm Tm I W T hr hk p_ up) (by decide) (by decide) (by decide) ?_
      rintro r g ⟨rfl, rfl⟩
      refine ⟨_, rfl, jPr.of (mx_ofShout2 R J d e kp nm Wm hd hk p_ up) (by decide) ⟨_, rfl⟩ ?_⟩
      rintro r2 g2 ⟨rfl, rfl⟩
      exact ⟨rfl, jI.of (hF.no)⟩
    | 3, _ =>
      refine jPc.of (kx_ofShout3 im Im row stk tpm Tm I W T hr hk p_ up) (by decide) (by decide) (by decide) ?_
      rintro r g ⟨rfl, rfl⟩
      refine ⟨_, rfl, jPr.of (mx_ofShout3 R J d e kp nm Wm hd hk p_ up) (by decide) ⟨_, rfl⟩ ?_⟩
      rintro r2 g2 ⟨rfl, rfl⟩
      exact ⟨rfl, jI.of (hF.no)⟩
    | 4, _ =>
      refine jPc.of (kx_ofShout4 im Im row stk tpm Tm I W T hr hk p_ up) (by decide) (by decide) (by decide) ?_
      rintro r g ⟨rfl, rfl⟩
      refine ⟨_, rfl, jPr.of (mx_ofShout4 R J d e kp nm Wm hd hk p_ up) (by decide) ⟨_, rfl⟩ ?_⟩
      rintro r2 g2 ⟨rfl, rfl⟩
      exact ⟨rfl, jI.of (hF.no)⟩
    | 5, _ =>
      refine jPc.of (kx_ofShout5 im Im row stk tpm Tm I W T hr hk p_ up) (by decide) (by decide) (by decide) ?_
      rintro r g ⟨rfl, rfl⟩
      refine ⟨_, rfl, jPr.of (mx_ofShout5 R J d e kp nm Wm hd hk p_ up) (by decide) ⟨_, rfl⟩ ?_⟩
      rintro r2 g2 ⟨rfl, rfl⟩
      exact ⟨rfl, jI.of (hF.no)⟩
  · refine jPc.of (ke_ofShout im Im row stk tpm Tm I W T A bo er hr hk _ _ hb) (by decide) (by decide) (by decide) ?_
    rintro r g ⟨rfl, rfl⟩
    refine ⟨_, rfl, jPr.of (me_ofShout R J d e kp nm Wm hd hk _ _ hb) (by decide) ⟨_, rfl⟩ ?_⟩
    rintro r2 g2 ⟨rfl, rfl⟩
    exact ⟨rfl, jI.of (hF.err (by decide))⟩
theorem p_lead {sc : Nat × (Nat → Int32)} (p w : Int32) : jP sc yX11_lead cX11_lead 7 yX12_lead cX12_lead 5 [.int p, .int w] := by
  intro c h hc hI
  obtain ⟨im, Im, Tm, row, stk, tpm, I, W, T, Ik, Wk, Tk, Ix, Wx, Tx, I0, n0, J0, W0, I1, n1, J1, W1, I2, n2, J2, W2, I3, n3, J3, W3, A, bo, er, R, J, d, e, kp, nm, Wm, s11, rfl, hF⟩ := hI
  obtain ⟨X, V, tp, wt, hS0⟩ := hF.1
  have hS := hS0
  obtain ⟨hr, hd, hk, h9, hz, h5, h8, htp, htt, hby, h6, h99, hwt, htw, hxc, hxd⟩ := hS
  by_cases hb : jn_b p 0 (V 0 2) ∧ jn_b w 0 2
  · obtain ⟨⟨p_, lp, up, rfl⟩, ⟨w_, lw, uw, rfl⟩⟩ := hb
    match w_, uw with
    | 0, _ =>
      refine jPc.of (kx_lead0 im Im row stk tpm Tm I W T hr hk p_ up) (by decide) (by decide) (by decide) ?_
      rintro r g ⟨rfl, rfl⟩
      refine ⟨_, rfl, jPr.of (mx_lead0 R J d e kp nm Wm hd hk p_ up) (by decide) ⟨_, rfl⟩ ?_⟩
      rintro r2 g2 ⟨rfl, rfl⟩
      exact ⟨rfl, jI.of (hF.no)⟩
    | 1, _ =>
      refine jPc.of (kx_lead1 im Im row stk tpm Tm I W T hr hk p_ up) (by decide) (by decide) (by decide) ?_
      rintro r g ⟨rfl, rfl⟩
      refine ⟨_, rfl, jPr.of (mx_lead1 R J d e kp nm Wm hd hk p_ up) (by decide) ⟨_, rfl⟩ ?_⟩
      rintro r2 g2 ⟨rfl, rfl⟩
      exact ⟨rfl, jI.of (hF.no)⟩
  · refine jPc.of (ke_lead im Im row stk tpm Tm I W T A bo er hr hk _ _ hb) (by decide) (by decide) (by decide) ?_
    rintro r g ⟨rfl, rfl⟩
    refine ⟨_, rfl, jPr.of (me_lead R J d e kp nm Wm hd hk _ _ hb) (by decide) ⟨_, rfl⟩ ?_⟩
    rintro r2 g2 ⟨rfl, rfl⟩
    exact ⟨rfl, jI.of (hF.err (by decide))⟩
theorem p_taught {sc : Nat × (Nat → Int32)}  : jP sc yX11_taught cX11_taught 1 yX12_taught cX12_taught 3 [] := by
  intro c h hc hI
  obtain ⟨im, Im, Tm, row, stk, tpm, I, W, T, Ik, Wk, Tk, Ix, Wx, Tx, I0, n0, J0, W0, I1, n1, J1, W1, I2, n2, J2, W2, I3, n3, J3, W3, A, bo, er, R, J, d, e, kp, nm, Wm, s11, rfl, hF⟩ := hI
  obtain ⟨X, V, tp, wt, hS0⟩ := hF.1
  have hS := hS0
  obtain ⟨hr, hd, hk, h9, hz, h5, h8, htp, htt, hby, h6, h99, hwt, htw, hxc, hxd⟩ := hS
  refine jPc.of (kx_taught im Im row stk tpm Tm I W T hr hk ) (by decide) (by decide) (by decide) ?_
  rintro r g ⟨rfl, rfl⟩
  refine ⟨_, rfl, jPr.of (c_taughtm R J d e kp nm Wm hd hk ) (by decide) ⟨_, rfl⟩ ?_⟩
  rintro r2 g2 ⟨rfl, rfl⟩
  exact ⟨rfl, jI.of (hF.no)⟩
theorem p_forget {sc : Nat × (Nat → Int32)}  : jP sc yX11_forget cX11_forget 2 yX12_forget cX12_forget 2 [] := by
  intro c h hc hI
  obtain ⟨im, Im, Tm, row, stk, tpm, I, W, T, Ik, Wk, Tk, Ix, Wx, Tx, I0, n0, J0, W0, I1, n1, J1, W1, I2, n2, J2, W2, I3, n3, J3, W3, A, bo, er, R, J, d, e, kp, nm, Wm, s11, rfl, hF⟩ := hI
  obtain ⟨X, V, tp, wt, hS0⟩ := hF.1
  have hS := hS0
  obtain ⟨hr, hd, hk, h9, hz, h5, h8, htp, htt, hby, h6, h99, hwt, htw, hxc, hxd⟩ := hS
  refine jPc.of (kx_forget im Im row stk tpm Tm I W T hr hk ) (by decide) (by decide) (by decide) ?_
  rintro r g ⟨rfl, I9, W9, hr9, hz9, hf9, rfl⟩
  refine ⟨_, rfl, jPr.of (mx_forget R J d e kp nm Wm hd hk ) (by decide) ⟨_, rfl⟩ ?_⟩
  rintro r2 g2 ⟨rfl, d9, hd9, hy9, hg9, rfl⟩
  exact ⟨rfl, jI.of (hF.sc ⟨X, _, tp, wt, hS0.up hr9 hd9 (jv_fo hk) h9 (hz9.trans (hz.trans hy9.symm)) hf9 hg9⟩)⟩
theorem p_seed {sc : Nat × (Nat → Int32)} (v : Int32) : jP sc yX11_seed cX11_seed 3 yX12_seed cX12_seed 3 [.int v] := by
  intro c h hc hI
  obtain ⟨im, Im, Tm, row, stk, tpm, I, W, T, Ik, Wk, Tk, Ix, Wx, Tx, I0, n0, J0, W0, I1, n1, J1, W1, I2, n2, J2, W2, I3, n3, J3, W3, A, bo, er, R, J, d, e, kp, nm, Wm, s11, rfl, hF⟩ := hI
  obtain ⟨X, V, tp, wt, hS0⟩ := hF.1
  have hS := hS0
  obtain ⟨hr, hd, hk, h9, hz, h5, h8, htp, htt, hby, h6, h99, hwt, htw, hxc, hxd⟩ := hS
  refine jPc.of (kx_seed im Im row stk tpm Tm I W T hr hk v) (by decide) (by decide) (by decide) ?_
  rintro r g ⟨rfl, rfl⟩
  refine ⟨_, rfl, jPr.of (mx_seed R J d e kp nm Wm hd hk v) (by decide) ⟨_, rfl⟩ ?_⟩
  rintro r2 g2 ⟨rfl, rfl⟩
  exact ⟨by rw [hz], jI.of (hF.sc ⟨X, V, tp, wt, jS.sd hS0 v⟩)⟩
theorem p_law {sc : Nat × (Nat → Int32)} (u a b c0 f : Int32) : jP sc yX11_law cX11_law 6 yX12_law cX12_law 6 [.int u, .int a, .int b, .int c0, .int f] := by
  intro c h hc hI
  obtain ⟨im, Im, Tm, row, stk, tpm, I, W, T, Ik, Wk, Tk, Ix, Wx, Tx, I0, n0, J0, W0, I1, n1, J1, W1, I2, n2, J2, W2, I3, n3, J3, W3, A, bo, er, R, J, d, e, kp, nm, Wm, s11, rfl, hF⟩ := hI
  obtain ⟨X, V, tp, wt, hS0⟩ := hF.1
  have hS := hS0
  obtain ⟨hr, hd, hk, h9, hz, h5, h8, htp, htt, hby, h6, h99, hwt, htw, hxc, hxd⟩ := hS
  have hG := jx_Gok X
  have hg := c_gives_13 (sc := sc) hxc
  have hgm := c_givesm (sc := sc) hxd
  have hag : ∀ k, 316 ≤ k → d k = d k := fun _ _ => rfl
  by_cases hb : jn_b u 0 2
  · obtain ⟨u_, lu_, uu_, rfl⟩ := hb
    match u_, uu_ with
    | 0, _ =>
      refine jPc.of (kx_law0 im Im row stk tpm Tm I W T hr hk a b c0 f hG hg) (by decide) (by decide) (by decide) ?_
      rintro r g ⟨rfl, stk9, rfl⟩
      refine ⟨_, rfl, jPr.of (mx_law0 R J d e kp nm Wm hd hk a b c0 f hG hgm hag) (by decide) ⟨_, rfl⟩ ?_⟩
      rintro r2 g2 ⟨rfl, J9, nm9, rfl⟩
      exact ⟨rfl, jI.of (hF.no)⟩
    | 1, _ =>
      refine jPc.of (kx_law1 im Im row stk tpm Tm I W T hr hk a b c0 f hG hg) (by decide) (by decide) (by decide) ?_
      rintro r g ⟨rfl, stk9, rfl⟩
      refine ⟨_, rfl, jPr.of (mx_law1 R J d e kp nm Wm hd hk a b c0 f hG hgm hag) (by decide) ⟨_, rfl⟩ ?_⟩
      rintro r2 g2 ⟨rfl, J9, nm9, rfl⟩
      exact ⟨rfl, jI.of (hF.no)⟩
  · refine jPc.of (ke_law im Im row stk tpm Tm I W T A bo er hr hk _ _ _ _ _ hb) (by decide) (by decide) (by decide) ?_
    rintro r g ⟨rfl, rfl⟩
    refine ⟨_, rfl, jPr.of (me_law R J d e kp nm Wm hd hk _ _ _ _ _ hb) (by decide) ⟨_, rfl⟩ ?_⟩
    rintro r2 g2 ⟨rfl, rfl⟩
    exact ⟨rfl, jI.of (hF.err (by decide))⟩
theorem p_count {sc : Nat × (Nat → Int32)} (w : Int32) : jP sc yX11_count cX11_count 2 yX12_count cX12_count 2 [.int w] := by
  intro c h hc hI
  obtain ⟨im, Im, Tm, row, stk, tpm, I, W, T, Ik, Wk, Tk, Ix, Wx, Tx, I0, n0, J0, W0, I1, n1, J1, W1, I2, n2, J2, W2, I3, n3, J3, W3, A, bo, er, R, J, d, e, kp, nm, Wm, s11, rfl, hF⟩ := hI
  obtain ⟨X, V, tp, wt, hS0⟩ := hF.1
  have hS := hS0
  obtain ⟨hr, hd, hk, h9, hz, h5, h8, htp, htt, hby, h6, h99, hwt, htw, hxc, hxd⟩ := hS
  by_cases hb : jn_b w 0 10
  · obtain ⟨w_, lw_, uw_, rfl⟩ := hb
    match w_, uw_ with
    | 0, _ =>
      refine jPc.of (kx_count0 im Im row stk tpm Tm I W T hr hk ) (by decide) (by decide) (by decide) ?_
      rintro r g ⟨rfl, rfl⟩
      refine ⟨_, rfl, jPr.of (mx_count0 R J d e kp nm Wm hd hk ) (by decide) ⟨_, rfl⟩ ?_⟩
      rintro r2 g2 ⟨rfl, rfl⟩
      exact ⟨rfl, jI.of (hF.no)⟩
    | 1, _ =>
      refine jPc.of (kx_count1 im Im row stk tpm Tm I W T hr hk ) (by decide) (by decide) (by decide) ?_
      rintro r g ⟨rfl, rfl⟩
      refine ⟨_, rfl, jPr.of (mx_count1 R J d e kp nm Wm hd hk ) (by decide) ⟨_, rfl⟩ ?_⟩
      rintro r2 g2 ⟨rfl, rfl⟩
      exact ⟨rfl, jI.of (hF.no)⟩
    | 2, _ =>
      refine jPc.of (kx_count2 im Im row stk tpm Tm I W T hr hk ) (by decide) (by decide) (by decide) ?_
      rintro r g ⟨rfl, rfl⟩
      refine ⟨_, rfl, jPr.of (mx_count2 R J d e kp nm Wm hd hk ) (by decide) ⟨_, rfl⟩ ?_⟩
      rintro r2 g2 ⟨rfl, rfl⟩
      exact ⟨rfl, jI.of (hF.no)⟩
    | 3, _ =>
      refine jPc.of (kx_count3 im Im row stk tpm Tm I W T hr hk ) (by decide) (by decide) (by decide) ?_
      rintro r g ⟨rfl, rfl⟩
      refine ⟨_, rfl, jPr.of (mx_count3 R J d e kp nm Wm hd hk ) (by decide) ⟨_, rfl⟩ ?_⟩
      rintro r2 g2 ⟨rfl, rfl⟩
      exact ⟨rfl, jI.of (hF.no)⟩
    | 4, _ =>
      refine jPc.of (kx_count4 im Im row stk tpm Tm I W T hr hk ) (by decide) (by decide) (by decide) ?_
      rintro r g ⟨rfl, rfl⟩
      refine ⟨_, rfl, jPr.of (mx_count4 R J d e kp nm Wm hd hk ) (by decide) ⟨_, rfl⟩ ?_⟩
      rintro r2 g2 ⟨rfl, rfl⟩
      exact ⟨rfl, jI.of (hF.no)⟩
    | 5, _ =>
      refine jPc.of (kx_count5 im Im row stk tpm Tm I W T hr hk ) (by decide) (by decide) (by decide) ?_
      rintro r g ⟨rfl, rfl⟩
      refine ⟨_, rfl, jPr.of (mx_count5 R J d e kp nm Wm hd hk ) (by decide) ⟨_, rfl⟩ ?_⟩
      rintro r2 g2 ⟨rfl, rfl⟩
      exact ⟨rfl, jI.of (hF.no)⟩
    | 6, _ =>
      refine jPc.of (kx_count6 im Im row stk tpm Tm I W T hr hk ) (by decide) (by decide) (by decide) ?_
      rintro r g ⟨rfl, rfl⟩
      refine ⟨_, rfl, jPr.of (mx_count6 R J d e kp nm Wm hd hk ) (by decide) ⟨_, rfl⟩ ?_⟩
      rintro r2 g2 ⟨rfl, rfl⟩
      exact ⟨by rw [h5, h8], jI.of (hF.no)⟩
    | 7, _ =>
      refine jPc.of (kx_count7 im Im row stk tpm Tm I W T hr hk ) (by decide) (by decide) (by decide) ?_
      rintro r g ⟨rfl, rfl⟩
      refine ⟨_, rfl, jPr.of (mx_count7 R J d e kp nm Wm hd hk ) (by decide) ⟨_, rfl⟩ ?_⟩
      rintro r2 g2 ⟨rfl, rfl⟩
      exact ⟨by rw [h6, h99], jI.of (hF.no)⟩
    | 8, _ =>
      obtain ⟨t9, -, ha2, ha3, -⟩ := hF.2.2.2.2.1
      refine jPc.of (kx_count8 im Im row stk tpm Tm A bo er) (by decide) (by decide) (by decide) ?_
      rintro r g ⟨rfl, rfl⟩
      refine ⟨_, rfl, jPr.of (mx_count8 R J d e kp nm Wm hd hk ) (by decide) ⟨_, rfl⟩ ?_⟩
      rintro r2 g2 ⟨rfl, rfl⟩
      exact ⟨by rw [ha2, ha3], jI.of (hF.no)⟩
    | 9, _ =>
      refine jPc.of (kx_count9 im Im row stk tpm Tm I W T hr hk ) (by decide) (by decide) (by decide) ?_
      rintro r g ⟨rfl, rfl⟩
      refine ⟨_, rfl, jPr.of (mx_count9 R J d e kp nm Wm hd hk ) (by decide) ⟨_, rfl⟩ ?_⟩
      rintro r2 g2 ⟨rfl, rfl⟩
      exact ⟨by rw [hz], jI.of (hF.no)⟩
  · refine jPc.of (ke_count im Im row stk tpm Tm I W T A bo er hr hk _ hb) (by decide) (by decide) (by decide) ?_
    rintro r g ⟨rfl, rfl⟩
    refine ⟨_, rfl, jPr.of (me_count R J d e kp nm Wm hd hk _ hb) (by decide) ⟨_, rfl⟩ ?_⟩
    rintro r2 g2 ⟨rfl, rfl⟩
    exact ⟨rfl, jI.of (hF.err (by decide))⟩
theorem p_told {sc : Nat × (Nat → Int32)} (k : Int32) : jP sc yX11_told cX11_told 2 yX12_told cX12_told 2 [.int k] := by
  intro c h hc hI
  obtain ⟨im, Im, Tm, row, stk, tpm, I, W, T, Ik, Wk, Tk, Ix, Wx, Tx, I0, n0, J0, W0, I1, n1, J1, W1, I2, n2, J2, W2, I3, n3, J3, W3, A, bo, er, R, J, d, e, kp, nm, Wm, s11, rfl, hF⟩ := hI
  obtain ⟨X, V, tp, wt, hS0⟩ := hF.1
  have hS := hS0
  obtain ⟨hr, hd, hk, h9, hz, h5, h8, htp, htt, hby, h6, h99, hwt, htw, hxc, hxd⟩ := hS
  by_cases hb : jn_b k 1 6
  · obtain ⟨k_, lk_, uk_, rfl⟩ := hb
    refine jPc.of (kx_told im Im row stk tpm Tm A bo er k_ lk_ (by omega)) (by decide) (by decide) (by decide) ?_
    rintro r g ⟨rfl, rfl⟩
    refine ⟨_, rfl, jPr.of (mx_told R J d e kp nm Wm k_ lk_ (by omega)) (by decide) ⟨_, rfl⟩ ?_⟩
    rintro r2 g2 ⟨rfl, rfl⟩
    exact ⟨by rw [hF.2.2.2.1 k_ uk_], jI.of (hF.no)⟩
  · refine jPc.of (ke_told im Im row stk tpm Tm I W T A bo er hr hk _ hb) (by decide) (by decide) (by decide) ?_
    rintro r g ⟨rfl, rfl⟩
    refine ⟨_, rfl, jPr.of (me_told R J d e kp nm Wm hd hk _ hb) (by decide) ⟨_, rfl⟩ ?_⟩
    rintro r2 g2 ⟨rfl, rfl⟩
    exact ⟨rfl, jI.of (hF.err (by decide))⟩
theorem p_trace {sc : Nat × (Nat → Int32)} (i : Int32) : jP sc yX11_trace cX11_trace 2 yX12_trace cX12_trace 2 [.int i] := by
  intro c h hc hI
  obtain ⟨im, Im, Tm, row, stk, tpm, I, W, T, Ik, Wk, Tk, Ix, Wx, Tx, I0, n0, J0, W0, I1, n1, J1, W1, I2, n2, J2, W2, I3, n3, J3, W3, A, bo, er, R, J, d, e, kp, nm, Wm, s11, rfl, hF⟩ := hI
  obtain ⟨X, V, tp, wt, hS0⟩ := hF.1
  have hS := hS0
  obtain ⟨hr, hd, hk, h9, hz, h5, h8, htp, htt, hby, h6, h99, hwt, htw, hxc, hxd⟩ := hS
  obtain ⟨t9, ht9, ha2, ha3, ha4⟩ := hF.2.2.2.2.1
  by_cases hb : jn_b i 0 t9
  · obtain ⟨i_, li_, ui_, rfl⟩ := hb
    refine jPc.of (kx_trace im Im row stk tpm Tm A bo er ha2 ht9 i_ ui_) (by decide) (by decide) (by decide) ?_
    rintro r g ⟨rfl, rfl⟩
    refine ⟨_, rfl, jPr.of (mx_trace R J d e kp nm Wm ha3 ht9 i_ ui_) (by decide) ⟨_, rfl⟩ ?_⟩
    rintro r2 g2 ⟨rfl, rfl⟩
    exact ⟨by rw [ha4 i_ ui_], jI.of (hF.no)⟩
  · refine jPc.of (ke_trace im Im row stk tpm Tm I W T A bo er hr hk ha2 ht9 _ hb) (by decide) (by decide) (by decide) ?_
    rintro r g ⟨rfl, rfl⟩
    refine ⟨_, rfl, jPr.of (me_trace R J d e kp nm Wm hd hk ha3 ht9 _ hb) (by decide) ⟨_, rfl⟩ ?_⟩
    rintro r2 g2 ⟨rfl, rfl⟩
    exact ⟨rfl, jI.of (hF.err (by decide))⟩
theorem p_tell {sc : Nat × (Nat → Int32)} (v : Int32) : jP sc yX11_tell cX11_tell 2 yX12_tell cX12_tell 2 [.int v] := by
  intro c h hc hI
  obtain ⟨im, Im, Tm, row, stk, tpm, I, W, T, Ik, Wk, Tk, Ix, Wx, Tx, I0, n0, J0, W0, I1, n1, J1, W1, I2, n2, J2, W2, I3, n3, J3, W3, A, bo, er, R, J, d, e, kp, nm, Wm, s11, rfl, hF⟩ := hI
  obtain ⟨X, V, tp, wt, hS0⟩ := hF.1
  have hS := hS0
  obtain ⟨hr, hd, hk, h9, hz, h5, h8, htp, htt, hby, h6, h99, hwt, htw, hxc, hxd⟩ := hS
  by_cases hq : wt < 20
  · refine jPc.of (kx_tell im Im row stk tpm Tm I W T hr hk h6 hq v) (by decide) (by decide) (by decide) ?_
    rintro r g ⟨rfl, rfl⟩
    refine ⟨_, rfl, jPr.of (mx_tell R J d e kp nm Wm hd hk h99 hq v) (by decide) ⟨_, rfl⟩ ?_⟩
    rintro r2 g2 ⟨rfl, rfl⟩
    exact ⟨rfl, jI.of (hF.sc ⟨X, V, tp, wt + 1, jS.tl hS0 hq v⟩)⟩
  · have hq6 : wt = 20 := by omega
    refine jPc.of (ke_tell im Im row stk tpm Tm I W T A bo er hr hk h6 hq6 v) (by decide) (by decide) (by decide) ?_
    rintro r g ⟨rfl, rfl⟩
    refine ⟨_, rfl, jPr.of (me_tell R J d e kp nm Wm hd hk h99 hq6 v) (by decide) ⟨_, rfl⟩ ?_⟩
    rintro r2 g2 ⟨rfl, rfl⟩
    exact ⟨rfl, jI.of (hF.err (by decide))⟩
theorem p_seconds {sc : Nat × (Nat → Int32)} (n : Int32) : jP sc yX11_seconds cX11_seconds 2 yX12_seconds cX12_seconds 2 [.int n] := by
  intro c h hc hI
  obtain ⟨im, Im, Tm, row, stk, tpm, I, W, T, Ik, Wk, Tk, Ix, Wx, Tx, I0, n0, J0, W0, I1, n1, J1, W1, I2, n2, J2, W2, I3, n3, J3, W3, A, bo, er, R, J, d, e, kp, nm, Wm, s11, rfl, hF⟩ := hI
  obtain ⟨X, V, tp, wt, hS0⟩ := hF.1
  have hS := hS0
  obtain ⟨hr, hd, hk, h9, hz, h5, h8, htp, htt, hby, h6, h99, hwt, htw, hxc, hxd⟩ := hS
  have hG := jx_Gok X
  have hg := c_gives_13 (sc := sc) hxc
  have hgm := c_givesm (sc := sc) hxd
  have hag : ∀ k, 316 ≤ k → d k = d k := fun _ _ => rfl
  by_cases hb : jn_b n 1 201
  · obtain ⟨n_, ln_, un_, rfl⟩ := hb
    by_cases hq : V 0 0 + n_ ≤ 9999
    · refine jPc.of (kx_seconds im Im row stk tpm Tm I W T hr hk n_ ln_ (by omega) hq hG hg) (by decide) (by decide) (by decide) ?_
      rintro r g ⟨rfl, I9, W9, stk9, hr9, hz9, hf9, rfl⟩
      refine ⟨_, rfl, jPr.of (mx_seconds R J d e kp nm Wm hd hk hG hgm hag n_ ln_ (by omega) hq) (by decide) ⟨_, rfl⟩ ?_⟩
      rintro r2 g2 ⟨rfl, J9, nm9, d9, hd9, hy9, hg9, rfl⟩
      have q9 := jv_pa hG false n_ V (d 7) hk (by omega)
      exact ⟨by rw [hz], jI.of (hF.sc ⟨X, _, tp, wt, hS0.up (by rw [hz] at hr9; exact hr9) hd9 q9.1 (by rw [q9.2]; exact hq) (hz9.trans (by rw [hz, hy9])) hf9 hg9⟩)⟩
    · refine jPc.of (ke_secondsS im Im row stk tpm Tm I W T A bo er hr hk n_ ln_ (by omega) hq) (by decide) (by decide) (by decide) ?_
      rintro r g ⟨rfl, rfl⟩
      refine ⟨_, rfl, jPr.of (me_secondsS R J d e kp nm Wm hd hk n_ ln_ (by omega) hq) (by decide) ⟨_, rfl⟩ ?_⟩
      rintro r2 g2 ⟨rfl, rfl⟩
      exact ⟨rfl, jI.of (hF.err (by decide))⟩
  · refine jPc.of (ke_seconds im Im row stk tpm Tm I W T A bo er hr hk _ hb) (by decide) (by decide) (by decide) ?_
    rintro r g ⟨rfl, rfl⟩
    refine ⟨_, rfl, jPr.of (me_seconds R J d e kp nm Wm hd hk _ hb) (by decide) ⟨_, rfl⟩ ?_⟩
    rintro r2 g2 ⟨rfl, rfl⟩
    exact ⟨rfl, jI.of (hF.err (by decide))⟩
theorem p_loose {sc : Nat × (Nat → Int32)} (n : Int32) : jP sc yX11_loose cX11_loose 2 yX12_loose cX12_loose 2 [.int n] := by
  intro c h hc hI
  obtain ⟨im, Im, Tm, row, stk, tpm, I, W, T, Ik, Wk, Tk, Ix, Wx, Tx, I0, n0, J0, W0, I1, n1, J1, W1, I2, n2, J2, W2, I3, n3, J3, W3, A, bo, er, R, J, d, e, kp, nm, Wm, s11, rfl, hF⟩ := hI
  obtain ⟨X, V, tp, wt, hS0⟩ := hF.1
  have hS := hS0
  obtain ⟨hr, hd, hk, h9, hz, h5, h8, htp, htt, hby, h6, h99, hwt, htw, hxc, hxd⟩ := hS
  have hG := jx_Gok X
  have hg := c_gives_13 (sc := sc) hxc
  have hgm := c_givesm (sc := sc) hxd
  have hag : ∀ k, 316 ≤ k → d k = d k := fun _ _ => rfl
  by_cases hb : jn_b n 1 201
  · obtain ⟨n_, ln_, un_, rfl⟩ := hb
    by_cases hq : V 0 0 + n_ ≤ 9999
    · refine jPc.of (kx_loose im Im row stk tpm Tm I W T hr hk n_ ln_ (by omega) hq hG hg) (by decide) (by decide) (by decide) ?_
      rintro r g ⟨rfl, I9, W9, stk9, hr9, hz9, hf9, rfl⟩
      refine ⟨_, rfl, jPr.of (mx_loose R J d e kp nm Wm hd hk hG hgm hag n_ ln_ (by omega) hq) (by decide) ⟨_, rfl⟩ ?_⟩
      rintro r2 g2 ⟨rfl, J9, nm9, d9, hd9, hy9, hg9, rfl⟩
      have q9 := jv_pa hG true n_ V (d 7) hk (by omega)
      exact ⟨by rw [hz], jI.of (hF.sc ⟨X, _, tp, wt, hS0.up (by rw [hz] at hr9; exact hr9) hd9 q9.1 (by rw [q9.2]; exact hq) (hz9.trans (by rw [hz, hy9])) hf9 hg9⟩)⟩
    · refine jPc.of (ke_looseS im Im row stk tpm Tm I W T A bo er hr hk n_ ln_ (by omega) hq) (by decide) (by decide) (by decide) ?_
      rintro r g ⟨rfl, rfl⟩
      refine ⟨_, rfl, jPr.of (me_looseS R J d e kp nm Wm hd hk n_ ln_ (by omega) hq) (by decide) ⟨_, rfl⟩ ?_⟩
      rintro r2 g2 ⟨rfl, rfl⟩
      exact ⟨rfl, jI.of (hF.err (by decide))⟩
  · refine jPc.of (ke_loose im Im row stk tpm Tm I W T A bo er hr hk _ hb) (by decide) (by decide) (by decide) ?_
    rintro r g ⟨rfl, rfl⟩
    refine ⟨_, rfl, jPr.of (me_loose R J d e kp nm Wm hd hk _ hb) (by decide) ⟨_, rfl⟩ ?_⟩
    rintro r2 g2 ⟨rfl, rfl⟩
    exact ⟨rfl, jI.of (hF.err (by decide))⟩
