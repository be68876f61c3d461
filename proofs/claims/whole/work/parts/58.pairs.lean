theorem jF.dd {c : Nat} {im : Int32} {I : Nat → Int32} {W : Nat → Nat → Int32} {T : Nat → Value} {Ik : Nat → Int32} {Wk : Nat → Nat → Int32} {Tk : Nat → Value} {I0 n0 I1 n1 I2 n2 I3 n3 A bo er R d kp : Nat → Int32} {Wm : Nat → Nat → Int32} {s11 : List va_E} (h : jF c im I W T Ik Wk Tk I0 n0 I1 n1 I2 n2 I3 n3 A bo er R d kp Wm s11) {d' : Nat → Int32} (e : ∀ k, k < 490 → d' k = d k) : jF c im I W T Ik Wk Tk I0 n0 I1 n1 I2 n2 I3 n3 A bo er R d' kp Wm s11 := by
  obtain ⟨⟨X, V, tp, wt, hS⟩, h2⟩ := h
  exact ⟨⟨X, V, tp, wt, hS.dto e⟩, h2⟩
theorem jS.ck {X : Nat → Option (List Int32)} {V : Nat → Nat → Nat} {tp wt : Nat} {I : Nat → Int32} {W : Nat → Nat → Int32} {T : Nat → Value} {d : Nat → Int32} {s11 : List va_E} (h : jS X V tp wt I W T d s11) {d' : Nat → Int32} (e : ∀ k, k < 490 → d' k = upd d 9 0 k) : jS X V tp 0 (upd I 6 0) W T d' s11 := by
  obtain ⟨hr, hd, hk, h9, hz, h5, h8, htp, htt, hby, h6, h99, hwt, htw, hxc, hxd⟩ := h
  have g : ∀ k, k < 490 → ¬ k = 9 → d' k = d k := fun k a q => (e k a).trans (if_neg q)
  exact ⟨hr, hd.lo hk (fun k a _ q _ => g k (by omega) q), hk, h9, hz.trans (g 7 (by omega) (by omega)).symm, h5, (g 8 (by omega) (by omega)).trans h8, htp, fun k hk => (htt k hk).trans (g _ (by omega) (by omega)).symm, hby, rfl, (e 9 (by omega)).trans (if_pos rfl), Nat.zero_le _, fun k hk => absurd hk (Nat.not_lt_zero _), hxc, hxd.to (fun k a b => g k (by omega) (by omega))⟩
theorem jS.fd {X : Nat → Option (List Int32)} {V : Nat → Nat → Nat} {tp wt : Nat} {I : Nat → Int32} {W : Nat → Nat → Int32} {T : Nat → Value} {d : Nat → Int32} {s11 : List va_E} (h : jS X V tp wt I W T d s11) {W' : Nat → Nat → Int32} {d' : Nat → Int32} (w : Int64) {n : Nat} (h50 : tp + n ≤ 50) (a1 : ∀ r, ¬ r = 14 → W' r = W r) (a2 : ∀ k, k < tp → W' 14 k = W 14 k) (a3 : ∀ j, j < n → W' 14 (tp + j) = jf_b w j) (b1 : ∀ k, ¬ k = 8 → (k < 438 + tp ∨ 438 + tp + n ≤ k) → d' k = d k) (b2 : d' 8 = nI (tp + n)) (b3 : ∀ j, j < n → d' (438 + tp + j) = jf_b w j) : jS X V (tp + n) wt (upd I 5 (nI (tp + n))) W' T d' s11 := by
  obtain ⟨hr, hd, hk, h9, hz, h5, h8, htp, htt, hby, h6, h99, hwt, htw, hxc, hxd⟩ := h
  have hr2 : jr_ V I W' := hr.w14 a1
  refine ⟨hr2, hd.lo hk (fun k a q _ _ => b1 k q (by omega)), hk, h9, hz.trans (b1 7 (by omega) (by omega)).symm, rfl, b2, h50, fun k hk => ?_, fun k hk => ?_, h6, (b1 9 (by omega) (by omega)).trans h99, hwt, fun k hk => ?_, hxc, hxd.to (fun k a b => b1 k (by omega) (by omega))⟩
  · by_cases q : k < tp
    · rw [a2 k q, b1 _ (by omega) (by omega)]; exact htt k q
    · obtain ⟨j, rfl⟩ : ∃ j, k = tp + j := ⟨k - tp, by omega⟩
      rw [a3 j (by omega), ← Nat.add_assoc, b3 j (by omega)]
  · by_cases q : k < tp
    · rw [a2 k q]; exact hby k q
    · obtain ⟨j, rfl⟩ : ∃ j, k = tp + j := ⟨k - tp, by omega⟩
      rw [a3 j (by omega)]; exact jf_by w j
  · rw [a1 15 (by decide), b1 _ (by omega) (by omega)]; exact htw k hk
theorem jF.im {c : Nat} {im : Int32} {I : Nat → Int32} {W : Nat → Nat → Int32} {T : Nat → Value} {Ik : Nat → Int32} {Wk : Nat → Nat → Int32} {Tk : Nat → Value} {I0 n0 I1 n1 I2 n2 I3 n3 A bo er R d kp : Nat → Int32} {Wm : Nat → Nat → Int32} {s11 : List va_E} (h : jF c im I W T Ik Wk Tk I0 n0 I1 n1 I2 n2 I3 n3 A bo er R d kp Wm s11) {im' : Int32} {Ik' : Nat → Int32} {Wk' : Nat → Nat → Int32} {Tk' : Nat → Value} {R' kp' : Nat → Int32} (hk : ∃ X V tp wt, jS X V tp wt Ik' Wk' Tk' kp' s11) (r0 : R' 0 = im') (r3 : R' 3 = R 3) : jF (c + 1) im' I W T Ik' Wk' Tk' I0 n0 I1 n1 I2 n2 I3 n3 A bo er R' d kp' Wm s11 := by
  obtain ⟨h1, h2, h3, h4, ⟨t, t1, t2, t3, t4⟩, h6, h7, h8, h9, h10⟩ := h
  exact ⟨h1, Or.inr hk, r0, h4, ⟨t, t1, t2, r3.trans t3, t4⟩, h6, h7, h8, h9, by omega⟩
theorem jF.tx {c : Nat} {im : Int32} {I : Nat → Int32} {W : Nat → Nat → Int32} {T : Nat → Value} {Ik : Nat → Int32} {Wk : Nat → Nat → Int32} {Tk : Nat → Value} {I0 n0 I1 n1 I2 n2 I3 n3 A bo er R d kp : Nat → Int32} {Wm : Nat → Nat → Int32} {s11 : List va_E} (h : jF c im I W T Ik Wk Tk I0 n0 I1 n1 I2 n2 I3 n3 A bo er R d kp Wm s11) {I' : Nat → Int32} {W' : Nat → Nat → Int32} {T' : Nat → Value} {d' : Nat → Int32} {z : va_E} (hS : ∃ X V tp wt, jS X V tp wt I' W' T' d' (s11 ++ [z])) : jF (c + 1) im I' W' T' Ik Wk Tk I0 n0 I1 n1 I2 n2 I3 n3 A bo er R d' kp Wm (s11 ++ [z]) := by
  obtain ⟨-, h2, h3, h4, h5, h6, h7, h8, h9, h10⟩ := h
  refine ⟨hS, ?_, h3, h4, h5, h6, h7, h8, h9, by rw [List.length_append]; show s11.length + 1 ≤ c + 1; omega⟩
  rcases h2 with h2 | ⟨X, V, tp, wt, q⟩
  · exact Or.inl h2
  · exact Or.inr ⟨X, V, tp, wt, q.app z⟩
theorem jS.t0 {X : Nat → Option (List Int32)} {V : Nat → Nat → Nat} {tp wt : Nat} {I : Nat → Int32} {W : Nat → Nat → Int32} {T : Nat → Value} {d : Nat → Int32} {s11 : List va_E} (h : jS X V tp wt I W T d s11) : jS X V 0 wt (upd I 5 0) W T (upd d 8 0) s11 := by
  obtain ⟨hr, hd, hk, h9, hz, h5, h8, htp, htt, hby, h6, h99, hwt, htw, hxc, hxd⟩ := h
  have g : ∀ k, ¬ k = 8 → upd d 8 0 k = d k := fun k q => if_neg q
  exact ⟨hr, hd.lo hk (fun k _ q _ _ => g k q), hk, h9, hz, rfl, rfl, Nat.zero_le _, fun k hk => absurd hk (Nat.not_lt_zero _), fun k hk => absurd hk (Nat.not_lt_zero _), h6, h99, hwt, fun k hk => (htw k hk).trans (g _ (by omega)).symm, hxc, hxd.to (fun k a b => g k (by omega))⟩
theorem jS.tx {X : Nat → Option (List Int32)} {V : Nat → Nat → Nat} {tp wt : Nat} {I : Nat → Int32} {W : Nat → Nat → Int32} {T : Nat → Value} {d : Nat → Int32} {s11 : List va_E} (h : jS X V tp wt I W T d s11) {u : Nat} (hu : u < 2) {row : List Int32} (hal : jp_al (W 14) tp u = (tp, true, row)) {f : Nat → Int32} (hf : ∀ j, j < row.length → f j = row.getD j 0) {d' : Nat → Int32} (b1 : ∀ k, ¬ k = 8 → ¬ k = 316 + u → (k < 338 + 50 * u ∨ 338 + 50 * u + tp ≤ k) → d' k = d k) (b2 : d' 8 = 0) (b3 : d' (316 + u) = nI tp) (b4 : ∀ j, j < tp → d' (338 + 50 * u + j) = d (438 + j)) : jS (va_up X u (some row)) V 0 wt (upd I 5 0) W (va_up T u (.ref (121 + s11.length))) d' (s11 ++ [.inl (0, row.length, .inl f)]) := by
  obtain ⟨hr, hd, hk, h9, hz, h5, h8, htp, htt, hby, h6, h99, hwt, htw, hxc, hxd⟩ := h
  have q1 := jp_al_ok (B := W 14) (n := tp) (u := u) (Nat.zero_le _)
  have q2 := jp_al_pos (B := W 14) (n := tp) (u := u) (by rw [hal])
  rw [hal] at q1 q2
  obtain ⟨-, -, q3, q4⟩ := q1
  have q5 : row.length + 0 ≤ tp := q3
  refine ⟨hr, hd.lo hk (fun k a q _ _ => b1 k q (by omega) (by omega)), hk, h9, hz.trans (b1 7 (by omega) (by omega) (by omega)).symm, rfl, b2, Nat.zero_le _, fun k hk => absurd hk (Nat.not_lt_zero _), fun k hk => absurd hk (Nat.not_lt_zero _), h6, (b1 9 (by omega) (by omega) (by omega)).trans h99, hwt, fun k hk => (htw k hk).trans (b1 _ (by omega) (by omega) (by omega)).symm, ?_, ?_⟩
  · intro v hv
    by_cases e : v = u
    · subst e
      refine Or.inr ⟨row, s11.length, f, if_pos rfl, if_pos rfl, ?_, hf, by omega, q4 rfl⟩
      rw [List.getElem?_append_right (Nat.le_refl _), Nat.sub_self]; rfl
    · have e1 : va_up X u (some row) v = X v := if_neg e
      have e2 : va_up T u (.ref (121 + s11.length)) v = T v := if_neg e
      rw [e1, e2]
      exact hxc.app _ v hv
  · intro v hv
    by_cases e : v = u
    · subst e
      refine Or.inr ⟨row, tp, if_pos rfl, q2, htp, b3, ?_⟩
      rw [← hal]
      exact jp_al_eq (fun k hk => (b4 k hk).trans (htt k hk).symm)
    · have e1 : va_up X u (some row) v = X v := if_neg e
      have e3 : d' (316 + v) = d (316 + v) := b1 _ (by omega) (by omega) (by omega)
      rw [e1, e3]
      rcases hxd v hv with q | ⟨c, n, c1, c2, c3, c4, c5⟩
      · exact Or.inl q
      · refine Or.inr ⟨c, n, c1, c2, c3, c4, ?_⟩
        rw [← c5]
        exact jp_al_eq (fun k hk => b1 _ (by omega) (by omega) (by omega))
theorem p_then {sc : Nat × (Nat → Int32)} (n w : Int32) : jP sc yX11_then cX11_then 3 yX12_then cX12_then 4 [.int n, .int w] := by
  intro c h hc hI
  obtain ⟨im, Im, Tm, row, stk, tpm, I, W, T, Ik, Wk, Tk, Ix, Wx, Tx, I0, n0, J0, W0, I1, n1, J1, W1, I2, n2, J2, W2, I3, n3, J3, W3, A, bo, er, R, J, d, e, kp, nm, Wm, s11, rfl, hF⟩ := hI
  obtain ⟨X, V, tp, wt, hS0⟩ := hF.1
  have hS := hS0
  obtain ⟨hr, hd, hk, h9, hz, h5, h8, htp, htt, hby, h6, h99, hwt, htw, hxc, hxd⟩ := hS
  have hG := jx_Gok X
  have hg := c_gives_13 (sc := sc) hxc
  have hgm := c_givesm (sc := sc) hxd
  have hag : ∀ k, 316 ≤ k → d k = d k := fun _ _ => rfl
  by_cases hb : jn_b n 0 201 ∧ jn_b w 0 3
  · obtain ⟨⟨n_, ln, un, rfl⟩, ⟨w_, lw, uw, rfl⟩⟩ := hb
    match w_, uw with
    | 0, _ =>
      refine jPc.of (kx_then0 im Im row stk tpm Tm I W T Ix Wx Tx hr hk hxc h5 h6 htp hwt n_ (by omega) h9) (by decide) (by decide) (by decide) ?_
      rintro r g ⟨rfl, I9, W9, T9, stk9, rfl⟩
      refine ⟨_, rfl, jPr.of (mx_then0 R J d e kp nm Wm hd hk hG hgm hag n_ (by omega) h9) (by decide) ⟨_, rfl⟩ ?_⟩
      rintro r2 g2 ⟨rfl, J9, nm9, d9, e9, hd9, rfl⟩
      exact ⟨by rw [hz], jI.of (hF.no.dd hd9)⟩
    | 1, _ =>
      refine jPc.of (kx_then1 im Im row stk tpm Tm I W T Ix Wx Tx hr hk hxc h5 h6 htp hwt n_ (by omega) h9) (by decide) (by decide) (by decide) ?_
      rintro r g ⟨rfl, I9, W9, T9, stk9, rfl⟩
      refine ⟨_, rfl, jPr.of (mx_then1 R J d e kp nm Wm hd hk hG hgm hag n_ (by omega) h9) (by decide) ⟨_, rfl⟩ ?_⟩
      rintro r2 g2 ⟨rfl, J9, nm9, d9, e9, hd9, rfl⟩
      exact ⟨by rw [hz], jI.of (hF.no.dd hd9)⟩
    | 2, _ =>
      refine jPc.of (kx_then2 im Im row stk tpm Tm I W T Ix Wx Tx hr hk hxc h5 h6 htp hwt n_ (by omega) h9) (by decide) (by decide) (by decide) ?_
      rintro r g ⟨rfl, I9, W9, T9, stk9, rfl⟩
      refine ⟨_, rfl, jPr.of (mx_then2 R J d e kp nm Wm hd hk hG hgm hag n_ (by omega) h9) (by decide) ⟨_, rfl⟩ ?_⟩
      rintro r2 g2 ⟨rfl, J9, nm9, d9, e9, hd9, rfl⟩
      exact ⟨by rw [hz], jI.of (hF.no.dd hd9)⟩
  · refine jPc.of (ke_then im Im row stk tpm Tm I W T A bo er hr hk _ _ hb) (by decide) (by decide) (by decide) ?_
    rintro r g ⟨rfl, rfl⟩
    refine ⟨_, rfl, jPr.of (me_then R J d e kp nm Wm hd hk _ _ hb) (by decide) ⟨_, rfl⟩ ?_⟩
    rintro r2 g2 ⟨rfl, rfl⟩
    exact ⟨rfl, jI.of (hF.err (by decide))⟩
theorem p_thenShout {sc : Nat × (Nat → Int32)} (n s w : Int32) : jP sc yX11_thenShout cX11_thenShout 4 yX12_thenShout cX12_thenShout 6 [.int n, .int s, .int w] := by
  intro c h hc hI
  obtain ⟨im, Im, Tm, row, stk, tpm, I, W, T, Ik, Wk, Tk, Ix, Wx, Tx, I0, n0, J0, W0, I1, n1, J1, W1, I2, n2, J2, W2, I3, n3, J3, W3, A, bo, er, R, J, d, e, kp, nm, Wm, s11, rfl, hF⟩ := hI
  obtain ⟨X, V, tp, wt, hS0⟩ := hF.1
  have hS := hS0
  obtain ⟨hr, hd, hk, h9, hz, h5, h8, htp, htt, hby, h6, h99, hwt, htw, hxc, hxd⟩ := hS
  have hG := jx_Gok X
  have hg := c_gives_13 (sc := sc) hxc
  have hgm := c_givesm (sc := sc) hxd
  have hag : ∀ k, 316 ≤ k → d k = d k := fun _ _ => rfl
  by_cases hb : jn_b n 0 201 ∧ jn_b s 0 40 ∧ jn_b w 0 6
  · obtain ⟨⟨n_, ln, un, rfl⟩, ⟨s_, ls, us, rfl⟩, ⟨w_, lw, uw, rfl⟩⟩ := hb
    by_cases hq : s_ < (jm_pa (jx_G X) false n_ (V, I 1)).1 0 2
    · match w_, uw with
      | 0, _ =>
        refine jPc.of (kx_thenShout0 im Im row stk tpm Tm I W T Ix Wx Tx hr hk hxc h5 h6 htp hwt n_ (by omega) h9 s_ us hq) (by decide) (by decide) (by decide) ?_
        rintro r g ⟨rfl, I9, W9, T9, stk9, rfl⟩
        refine ⟨_, rfl, jPr.of (mx_thenShout0 R J d e kp nm Wm hd hk hG hgm hag n_ (by omega) h9 s_ us (by rw [← hz]; exact hq)) (by decide) ⟨_, rfl⟩ ?_⟩
        rintro r2 g2 ⟨rfl, J9, nm9, d9, e9, hd9, rfl⟩
        exact ⟨by rw [hz], jI.of (hF.no.dd hd9)⟩
      | 1, _ =>
        refine jPc.of (kx_thenShout1 im Im row stk tpm Tm I W T Ix Wx Tx hr hk hxc h5 h6 htp hwt n_ (by omega) h9 s_ us hq) (by decide) (by decide) (by decide) ?_
        rintro r g ⟨rfl, I9, W9, T9, stk9, rfl⟩
        refine ⟨_, rfl, jPr.of (mx_thenShout1 R J d e kp nm Wm hd hk hG hgm hag n_ (by omega) h9 s_ us (by rw [← hz]; exact hq)) (by decide) ⟨_, rfl⟩ ?_⟩
        rintro r2 g2 ⟨rfl, J9, nm9, d9, e9, hd9, rfl⟩
        exact ⟨by rw [hz], jI.of (hF.no.dd hd9)⟩
      | 2, _ =>
        refine jPc.of (kx_thenShout2 im Im row stk tpm Tm I W T Ix Wx Tx hr hk hxc h5 h6 htp hwt n_ (by omega) h9 s_ us hq) (by decide) (by decide) (by decide) ?_
        rintro r g ⟨rfl, I9, W9, T9, stk9, rfl⟩
        refine ⟨_, rfl, jPr.of (mx_thenShout2 R J d e kp nm Wm hd hk hG hgm hag n_ (by omega) h9 s_ us (by rw [← hz]; exact hq)) (by decide) ⟨_, rfl⟩ ?_⟩
        rintro r2 g2 ⟨rfl, J9, nm9, d9, e9, hd9, rfl⟩
        exact ⟨by rw [hz], jI.of (hF.no.dd hd9)⟩
      | 3, _ =>
        refine jPc.of (kx_thenShout3 im Im row stk tpm Tm I W T Ix Wx Tx hr hk hxc h5 h6 htp hwt n_ (by omega) h9 s_ us hq) (by decide) (by decide) (by decide) ?_
        rintro r g ⟨rfl, I9, W9, T9, stk9, rfl⟩
        refine ⟨_, rfl, jPr.of (mx_thenShout3 R J d e kp nm Wm hd hk hG hgm hag n_ (by omega) h9 s_ us (by rw [← hz]; exact hq)) (by decide) ⟨_, rfl⟩ ?_⟩
        rintro r2 g2 ⟨rfl, J9, nm9, d9, e9, hd9, rfl⟩
        exact ⟨by rw [hz], jI.of (hF.no.dd hd9)⟩
      | 4, _ =>
        refine jPc.of (kx_thenShout4 im Im row stk tpm Tm I W T Ix Wx Tx hr hk hxc h5 h6 htp hwt n_ (by omega) h9 s_ us hq) (by decide) (by decide) (by decide) ?_
        rintro r g ⟨rfl, I9, W9, T9, stk9, rfl⟩
        refine ⟨_, rfl, jPr.of (mx_thenShout4 R J d e kp nm Wm hd hk hG hgm hag n_ (by omega) h9 s_ us (by rw [← hz]; exact hq)) (by decide) ⟨_, rfl⟩ ?_⟩
        rintro r2 g2 ⟨rfl, J9, nm9, d9, e9, hd9, rfl⟩
        exact ⟨by rw [hz], jI.of (hF.no.dd hd9)⟩
      | 5, _ =>
        refine jPc.of (kx_thenShout5 im Im row stk tpm Tm I W T Ix Wx Tx hr hk hxc h5 h6 htp hwt n_ (by omega) h9 s_ us hq) (by decide) (by decide) (by decide) ?_
        rintro r g ⟨rfl, I9, W9, T9, stk9, rfl⟩
        refine ⟨_, rfl, jPr.of (mx_thenShout5 R J d e kp nm Wm hd hk hG hgm hag n_ (by omega) h9 s_ us (by rw [← hz]; exact hq)) (by decide) ⟨_, rfl⟩ ?_⟩
        rintro r2 g2 ⟨rfl, J9, nm9, d9, e9, hd9, rfl⟩
        exact ⟨by rw [hz], jI.of (hF.no.dd hd9)⟩
    · refine jPc.of (ke_thenShoutN im Im row stk tpm Tm I W T Ix Wx Tx A bo er hr hk hxc h5 h6 htp hwt n_ (by omega) h9 s_ us hq w_ uw) (by decide) (by decide) (by decide) ?_
      rintro r g ⟨rfl, I9, W9, T9, stk9, rfl⟩
      refine ⟨_, rfl, jPr.of (me_thenShoutN R J d e kp nm Wm hd hk hG hgm hag n_ (by omega) h9 s_ us (by rw [← hz]; exact hq) w_ uw) (by decide) ⟨_, rfl⟩ ?_⟩
      rintro r2 g2 ⟨rfl, J9, nm9, d9, e9, hd9, rfl⟩
      exact ⟨rfl, jI.of ((hF.err (by decide)).dd hd9)⟩
  · refine jPc.of (ke_thenShout im Im row stk tpm Tm I W T A bo er hr hk _ _ _ hb) (by decide) (by decide) (by decide) ?_
    rintro r g ⟨rfl, rfl⟩
    refine ⟨_, rfl, jPr.of (me_thenShout R J d e kp nm Wm hd hk _ _ _ hb) (by decide) ⟨_, rfl⟩ ?_⟩
    rintro r2 g2 ⟨rfl, rfl⟩
    exact ⟨rfl, jI.of (hF.err (by decide))⟩
theorem p_over {sc : Nat × (Nat → Int32)} (n : Int32) : jP sc yX11_over cX11_over 6 yX12_over cX12_over 6 [.int n] := by
  intro c h hc hI
  obtain ⟨im, Im, Tm, row, stk, tpm, I, W, T, Ik, Wk, Tk, Ix, Wx, Tx, I0, n0, J0, W0, I1, n1, J1, W1, I2, n2, J2, W2, I3, n3, J3, W3, A, bo, er, R, J, d, e, kp, nm, Wm, s11, rfl, hF⟩ := hI
  obtain ⟨X, V, tp, wt, hS0⟩ := hF.1
  have hS := hS0
  obtain ⟨hr, hd, hk, h9, hz, h5, h8, htp, htt, hby, h6, h99, hwt, htw, hxc, hxd⟩ := hS
  have hG := jx_Gok X
  have hg := c_gives_13 (sc := sc) hxc
  have hgm := c_givesm (sc := sc) hxd
  have hag : ∀ k, 316 ≤ k → d k = d k := fun _ _ => rfl
  by_cases hb : jn_b n 0 201
  · obtain ⟨n_, ln_, un_, rfl⟩ := hb
    refine jPc.of (kx_over im Im row stk tpm Tm I W T Ix Wx Tx A bo er hr hk hxc h5 h6 htp hwt n_ (by omega) h9) (by decide) (by decide) (by decide) ?_
    rintro r g ⟨I9, W9, T9, stk9, er9, ⟨hq, rfl, rfl⟩ | ⟨q, hq, rfl, rfl⟩, rfl⟩
    · rw [hz] at hq
      refine ⟨_, rfl, jPr.of (mx_over R J d e kp nm Wm hd hk hG (fun d1 hd1 => c_givesm (hxd.to (fun k a b => hd1 k a (by omega)))) n_ (by omega) h9) (by decide) ⟨_, rfl⟩ ?_⟩
      rintro r2 g2 ⟨J9, nm9, d9, e9, V9, hd9, ⟨hq2, rfl, rfl⟩ | ⟨q2, hq2, rfl, rfl⟩, rfl⟩
      · exact ⟨rfl, jI.of ((hF.err (by decide)).dd hd9)⟩
      · rw [hq] at hq2
        cases hq2
    · rw [hz] at hq
      refine ⟨_, rfl, jPr.of (mx_over R J d e kp nm Wm hd hk hG (fun d1 hd1 => c_givesm (hxd.to (fun k a b => hd1 k a (by omega)))) n_ (by omega) h9) (by decide) ⟨_, rfl⟩ ?_⟩
      rintro r2 g2 ⟨J9, nm9, d9, e9, V9, hd9, ⟨hq2, rfl, rfl⟩ | ⟨q2, hq2, rfl, rfl⟩, rfl⟩
      · rw [hq] at hq2
        cases hq2
      · rw [hq] at hq2
        cases hq2
        exact ⟨rfl, jI.of (hF.no.dd hd9)⟩
  · refine jPc.of (ke_over im Im row stk tpm Tm I W T A bo er hr hk _ hb) (by decide) (by decide) (by decide) ?_
    rintro r g ⟨rfl, rfl⟩
    refine ⟨_, rfl, jPr.of (me_over R J d e kp nm Wm hd hk _ hb) (by decide) ⟨_, rfl⟩ ?_⟩
    rintro r2 g2 ⟨rfl, rfl⟩
    exact ⟨rfl, jI.of (hF.err (by decide))⟩
theorem p_check {sc : Nat × (Nat → Int32)}  : jP sc yX11_check cX11_check 3 yX12_check cX12_check 4 [] := by
  intro c h hc hI
  obtain ⟨im, Im, Tm, row, stk, tpm, I, W, T, Ik, Wk, Tk, Ix, Wx, Tx, I0, n0, J0, W0, I1, n1, J1, W1, I2, n2, J2, W2, I3, n3, J3, W3, A, bo, er, R, J, d, e, kp, nm, Wm, s11, rfl, hF⟩ := hI
  obtain ⟨X, V, tp, wt, hS0⟩ := hF.1
  have hS := hS0
  obtain ⟨hr, hd, hk, h9, hz, h5, h8, htp, htt, hby, h6, h99, hwt, htw, hxc, hxd⟩ := hS
  have hG := jx_Gok X
  have hg := c_gives_13 (sc := sc) hxc
  have hgm := c_givesm (sc := sc) hxd
  have hag : ∀ k, 316 ≤ k → d k = d k := fun _ _ => rfl
  refine jPc.of (kx_check im Im row stk tpm Tm I W T Ix Wx Tx hr hk hxc h5 h6 htp hwt h9) (by decide) (by decide) (by decide) ?_
  rintro r g ⟨rfl, I9, W9, T9, stk9, rfl⟩
  refine ⟨_, rfl, jPr.of (mx_check R J d e kp nm Wm hd hk hG hgm hag h99 hwt h9) (by decide) ⟨_, rfl⟩ ?_⟩
  rintro r2 g2 ⟨rfl, J9, nm9, d9, e9, hd9, rfl⟩
  exact ⟨by rw [hz, jm_ck_eq wt 0 _ (fun k _ hk => htw k (by omega))], jI.of (hF.sc ⟨X, V, tp, 0, hS0.ck hd9⟩)⟩
theorem p_often {sc : Nat × (Nat → Int32)} (p w n : Int32) : jP sc yX11_often cX11_often 10 yX12_often cX12_often 10 [.int p, .int w, .int n] := by
  intro c h hc hI
  obtain ⟨im, Im, Tm, row, stk, tpm, I, W, T, Ik, Wk, Tk, Ix, Wx, Tx, I0, n0, J0, W0, I1, n1, J1, W1, I2, n2, J2, W2, I3, n3, J3, W3, A, bo, er, R, J, d, e, kp, nm, Wm, s11, rfl, hF⟩ := hI
  obtain ⟨X, V, tp, wt, hS0⟩ := hF.1
  have hS := hS0
  obtain ⟨hr, hd, hk, h9, hz, h5, h8, htp, htt, hby, h6, h99, hwt, htw, hxc, hxd⟩ := hS
  have hG := jx_Gok X
  have hg := c_gives_13 (sc := sc) hxc
  have hgm := c_givesm (sc := sc) hxd
  have hag : ∀ k, 316 ≤ k → d k = d k := fun _ _ => rfl
  by_cases hb : jn_b p 0 (V 0 1) ∧ jn_b w 0 40 ∧ jn_b n 2 100000
  · obtain ⟨⟨p_, lp, up, rfl⟩, ⟨w_, lw, uw, rfl⟩, ⟨n_, ln, un, rfl⟩⟩ := hb
    refine jPc.of (kx_often im Im row stk tpm Tm I W T A bo er hr hk p_ up w_ uw n_ ln (by omega) hG hg) (by decide) (by decide) (by decide) ?_
    rintro r g ⟨stk9, ⟨hq, rfl, rfl⟩ | ⟨q, hq, rfl, rfl⟩⟩
    · refine ⟨_, rfl, jPr.of (mx_often R J d e kp nm Wm hd hk p_ up w_ uw n_ ln (by omega) hG hgm hag) (by decide) ⟨_, rfl⟩ ?_⟩
      rintro r2 g2 ⟨J9, nm9, ⟨hq2, rfl, rfl⟩ | ⟨q2, hq2, rfl, rfl⟩⟩
      · exact ⟨rfl, jI.of (hF.err (by decide))⟩
      · rw [hq] at hq2
        cases hq2
    · refine ⟨_, rfl, jPr.of (mx_often R J d e kp nm Wm hd hk p_ up w_ uw n_ ln (by omega) hG hgm hag) (by decide) ⟨_, rfl⟩ ?_⟩
      rintro r2 g2 ⟨J9, nm9, ⟨hq2, rfl, rfl⟩ | ⟨q2, hq2, rfl, rfl⟩⟩
      · rw [hq] at hq2
        cases hq2
      · rw [hq] at hq2
        cases hq2
        exact ⟨rfl, jI.of hF.no⟩
  · refine jPc.of (ke_often im Im row stk tpm Tm I W T A bo er hr hk _ _ _ hb) (by decide) (by decide) (by decide) ?_
    rintro r g ⟨rfl, rfl⟩
    refine ⟨_, rfl, jPr.of (me_often R J d e kp nm Wm hd hk _ _ _ hb) (by decide) ⟨_, rfl⟩ ?_⟩
    rintro r2 g2 ⟨rfl, rfl⟩
    exact ⟨rfl, jI.of (hF.err (by decide))⟩
theorem p_feed {sc : Nat × (Nat → Int32)} (w : Int64) (n : Int32) : jP sc yX11_feed cX11_feed 5 yX12_feed cX12_feed 5 [.long w, .int n] := by
  intro c h hc hI
  obtain ⟨im, Im, Tm, row, stk, tpm, I, W, T, Ik, Wk, Tk, Ix, Wx, Tx, I0, n0, J0, W0, I1, n1, J1, W1, I2, n2, J2, W2, I3, n3, J3, W3, A, bo, er, R, J, d, e, kp, nm, Wm, s11, rfl, hF⟩ := hI
  obtain ⟨X, V, tp, wt, hS0⟩ := hF.1
  have hS := hS0
  obtain ⟨hr, hd, hk, h9, hz, h5, h8, htp, htt, hby, h6, h99, hwt, htw, hxc, hxd⟩ := hS
  by_cases hb : jn_b n 1 9
  · obtain ⟨n_, ln_, un_, rfl⟩ := hb
    by_cases hq : tp + n_ ≤ 50
    · refine jPc.of (kx_feed im Im row stk tpm Tm I W T w n_ tp ln_ (by omega) h5 hq) (by decide) (by decide) (by decide) ?_
      rintro r g ⟨rfl, W9, a1, a2, a3, rfl⟩
      refine ⟨_, rfl, jPr.of (mx_feed R J d e kp nm Wm w n_ tp ln_ (by omega) h8 hq) (by decide) ⟨_, rfl⟩ ?_⟩
      rintro r2 g2 ⟨rfl, d9, b1, b2, b3, rfl⟩
      exact ⟨rfl, jI.of (hF.sc ⟨X, V, _, wt, hS0.fd w hq a1 a2 a3 b1 b2 b3⟩)⟩
    · refine jPc.of (ke_feedF im Im row stk tpm Tm I W T A bo er hr hk w n_ tp ln_ (by omega) h5 htp hq) (by decide) (by decide) (by decide) ?_
      rintro r g ⟨rfl, rfl⟩
      refine ⟨_, rfl, jPr.of (me_feedF R J d e kp nm Wm hd hk w n_ tp ln_ (by omega) h8 htp hq) (by decide) ⟨_, rfl⟩ ?_⟩
      rintro r2 g2 ⟨rfl, rfl⟩
      exact ⟨rfl, jI.of (hF.err (by decide))⟩
  · refine jPc.of (ke_feed im Im row stk tpm Tm I W T A bo er hr hk w _ hb) (by decide) (by decide) (by decide) ?_
    rintro r g ⟨rfl, rfl⟩
    refine ⟨_, rfl, jPr.of (me_feed R J d e kp nm Wm hd hk w _ hb) (by decide) ⟨_, rfl⟩ ?_⟩
    rintro r2 g2 ⟨rfl, rfl⟩
    exact ⟨rfl, jI.of (hF.err (by decide))⟩
theorem p_image {sc : Nat × (Nat → Int32)}  : jP sc yX11_image cX11_image 1 yX12_image cX12_image 1 [] := by
  intro c h hc hI
  obtain ⟨im, Im, Tm, row, stk, tpm, I, W, T, Ik, Wk, Tk, Ix, Wx, Tx, I0, n0, J0, W0, I1, n1, J1, W1, I2, n2, J2, W2, I3, n3, J3, W3, A, bo, er, R, J, d, e, kp, nm, Wm, s11, rfl, hF⟩ := hI
  obtain ⟨X, V, tp, wt, hS0⟩ := hF.1
  have hS := hS0
  obtain ⟨hr, hd, hk, h9, hz, h5, h8, htp, htt, hby, h6, h99, hwt, htw, hxc, hxd⟩ := hS
  refine jPc.of (kx_image im Im row stk tpm Tm I W T Ik Wk Tk hr hk hxc h5 h6 htp hwt) (by decide) (by decide) (by decide) ?_
  rintro r g ⟨rfl, I9, W9, T9, hr9, e1, e5, e6, t0, t1, ht, hw, rfl⟩
  refine ⟨_, rfl, jPr.of (mx_image R J d e kp nm Wm) (by decide) ⟨_, rfl⟩ ?_⟩
  rintro r2 g2 ⟨rfl, kp9, hk9, rfl⟩
  exact ⟨by rw [hF.2.2.1], jI.of (hF.im ⟨X, V, tp, wt, hS0.take hr9 e1 e5 e6 t0 t1 ht hw hk9⟩ (by show R 0 + 1 = im + 1; rw [hF.2.2.1]) rfl)⟩
theorem p_restore {sc : Nat × (Nat → Int32)}  : jP sc yX11_restore cX11_restore 1 yX12_restore cX12_restore 1 [] := by
  intro c h hc hI
  obtain ⟨im, Im, Tm, row, stk, tpm, I, W, T, Ik, Wk, Tk, Ix, Wx, Tx, I0, n0, J0, W0, I1, n1, J1, W1, I2, n2, J2, W2, I3, n3, J3, W3, A, bo, er, R, J, d, e, kp, nm, Wm, s11, rfl, hF⟩ := hI
  obtain ⟨X, V, tp, wt, hS0⟩ := hF.1
  have hS := hS0
  obtain ⟨hr, hd, hk, h9, hz, h5, h8, htp, htt, hby, h6, h99, hwt, htw, hxc, hxd⟩ := hS
  by_cases him : im = 0
  · refine jPc.of (ke_restore im Im row stk tpm Tm I W T A bo er hr hk him) (by decide) (by decide) (by decide) ?_
    rintro r g ⟨rfl, rfl⟩
    refine ⟨_, rfl, jPr.of (me_restore R J d e kp nm Wm (hF.2.2.1.trans him)) (by decide) ⟨_, rfl⟩ ?_⟩
    rintro r2 g2 ⟨rfl, rfl⟩
    exact ⟨rfl, jI.of (hF.err (by decide))⟩
  · rcases hF.2.1 with hh | ⟨Xk, Vk, tk, wk, hSk0⟩
    · exact absurd hh him
    · have hSk := hSk0
      obtain ⟨kr, kd, kk, k9, kz, k5, k8, ktp, ktt, kby, k6, k99, kwt, ktw, kxc, kxd⟩ := hSk
      refine jPc.of (kx_restore im Im row stk tpm Tm I W T Ik Wk Tk kr kk kxc k5 k6 ktp kwt him) (by decide) (by decide) (by decide) ?_
      rintro r g ⟨rfl, I9, W9, T9, hr9, e1, e5, e6, t0, t1, ht, hw, rfl⟩
      refine ⟨_, rfl, jPr.of (mx_restore R J d e kp nm Wm kd (by rw [hF.2.2.1]; exact him)) (by decide) ⟨_, rfl⟩ ?_⟩
      rintro r2 g2 ⟨rfl, d9, hd9, rfl⟩
      exact ⟨rfl, jI.of (hF.sc ⟨Xk, Vk, tk, wk, hSk0.take hr9 e1 e5 e6 t0 t1 ht hw hd9⟩)⟩
theorem p_text {sc : Nat × (Nat → Int32)} (u : Int32) : jP sc yX11_text cX11_text 3 yX12_text cX12_text 5 [.int u] := by
  intro c h hc hI
  obtain ⟨im, Im, Tm, row, stk, tpm, I, W, T, Ik, Wk, Tk, Ix, Wx, Tx, I0, n0, J0, W0, I1, n1, J1, W1, I2, n2, J2, W2, I3, n3, J3, W3, A, bo, er, R, J, d, e, kp, nm, Wm, s11, rfl, hF⟩ := hI
  obtain ⟨X, V, tp, wt, hS0⟩ := hF.1
  have hS := hS0
  obtain ⟨hr, hd, hk, h9, hz, h5, h8, htp, htt, hby, h6, h99, hwt, htw, hxc, hxd⟩ := hS
  by_cases hb : jn_b u 0 2
  · obtain ⟨u_, lu_, uu_, rfl⟩ := hb
    match u_, uu_ with
    | 0, _ =>
      have hal := jp_al_eq (u := 0) htt
      refine jPc.of (kx_text0 im Im row stk tpm Tm I W T (s10 := jb_mdl R J d e kp nm Wm) rfl (Nat.lt_of_le_of_lt hF.2.2.2.2.2.2.2.2.2 (by omega)) h5 htp hby) (by decide) (by decide) (by decide) ?_
      rintro r g ⟨I9, T9, row9, tp9, ⟨⟨ha, hb⟩, rfl, f, hf, rfl⟩ | ⟨hn, rfl, rfl⟩⟩
      · refine ⟨_, rfl, jPr.of (mx_text0 R J d e kp nm Wm h8 htp) (by decide) ⟨_, rfl⟩ ?_⟩
        rintro r2 g2 ⟨J9, d9, ⟨hn2, rfl, b1, b2, b3, b4, rfl⟩ | ⟨hn2, rfl, rfl, rfl⟩⟩
        · exact ⟨rfl, jI.of (hF.tx ⟨_, V, 0, wt, hS0.tx (u := 0) (by decide) (Prod.ext hb (Prod.ext ha rfl)) hf b1 b2 b3 b4⟩)⟩
        · rw [← hal] at hn2
          exact absurd ⟨ha, hb⟩ hn2
      · refine ⟨_, rfl, jPr.of (mx_text0 R J d e kp nm Wm h8 htp) (by decide) ⟨_, rfl⟩ ?_⟩
        rintro r2 g2 ⟨J9, d9, ⟨hn2, rfl, b1, b2, b3, b4, rfl⟩ | ⟨hn2, rfl, rfl, rfl⟩⟩
        · rw [← hal] at hn2
          exact absurd hn2 hn
        · exact ⟨by rw [hal], jI.of (hF.sc ⟨X, V, 0, wt, hS0.t0⟩)⟩
    | 1, _ =>
      have hal := jp_al_eq (u := 1) htt
      refine jPc.of (kx_text1 im Im row stk tpm Tm I W T (s10 := jb_mdl R J d e kp nm Wm) rfl (Nat.lt_of_le_of_lt hF.2.2.2.2.2.2.2.2.2 (by omega)) h5 htp hby) (by decide) (by decide) (by decide) ?_
      rintro r g ⟨I9, T9, row9, tp9, ⟨⟨ha, hb⟩, rfl, f, hf, rfl⟩ | ⟨hn, rfl, rfl⟩⟩
      · refine ⟨_, rfl, jPr.of (mx_text1 R J d e kp nm Wm h8 htp) (by decide) ⟨_, rfl⟩ ?_⟩
        rintro r2 g2 ⟨J9, d9, ⟨hn2, rfl, b1, b2, b3, b4, rfl⟩ | ⟨hn2, rfl, rfl, rfl⟩⟩
        · exact ⟨rfl, jI.of (hF.tx ⟨_, V, 0, wt, hS0.tx (u := 1) (by decide) (Prod.ext hb (Prod.ext ha rfl)) hf b1 b2 b3 b4⟩)⟩
        · rw [← hal] at hn2
          exact absurd ⟨ha, hb⟩ hn2
      · refine ⟨_, rfl, jPr.of (mx_text1 R J d e kp nm Wm h8 htp) (by decide) ⟨_, rfl⟩ ?_⟩
        rintro r2 g2 ⟨J9, d9, ⟨hn2, rfl, b1, b2, b3, b4, rfl⟩ | ⟨hn2, rfl, rfl, rfl⟩⟩
        · rw [← hal] at hn2
          exact absurd hn2 hn
        · exact ⟨by rw [hal], jI.of (hF.sc ⟨X, V, 0, wt, hS0.t0⟩)⟩
  · refine jPc.of (ke_text im Im row stk tpm Tm I W T A bo er hr hk _ hb) (by decide) (by decide) (by decide) ?_
    rintro r g ⟨rfl, rfl⟩
    refine ⟨_, rfl, jPr.of (me_text R J d e kp nm Wm hd hk _ hb) (by decide) ⟨_, rfl⟩ ?_⟩
    rintro r2 g2 ⟨rfl, rfl⟩
    exact ⟨rfl, jI.of (hF.err (by decide))⟩
theorem p_voice {sc : Nat × (Nat → Int32)} (p a x : Int32) : jP sc yX11_voice cX11_voice 5 yX12_voice cX12_voice 5 [.int p, .int a, .int x] := by
  intro c h hc hI
  obtain ⟨im, Im, Tm, row, stk, tpm, I, W, T, Ik, Wk, Tk, Ix, Wx, Tx, I0, n0, J0, W0, I1, n1, J1, W1, I2, n2, J2, W2, I3, n3, J3, W3, A, bo, er, R, J, d, e, kp, nm, Wm, s11, rfl, hF⟩ := hI
  obtain ⟨X, V, tp, wt, hS0⟩ := hF.1
  have hS := hS0
  obtain ⟨hr, hd, hk, h9, hz, h5, h8, htp, htt, hby, h6, h99, hwt, htw, hxc, hxd⟩ := hS
  by_cases hb : jn_b p 0 (V 0 1) ∧ jn_b a 0 4
  · obtain ⟨⟨p_, lp, up, rfl⟩, ⟨a_, la, ua, rfl⟩⟩ := hb
    have hv : V 1 p_ < 7 := (hk.2.2.2.2.2.2.2.2.1 p_ up).1
    obtain ⟨q0, hq0⟩ : ∃ q, V 1 p_ = q := ⟨_, rfl⟩
    rw [hq0] at hv
    match a_, ua with
    | 0, _ =>
      match q0, hv, hq0 with
      | 0, _, hkd =>
        refine jPc.of (kx_voice0_0 im Im row stk tpm Tm I W T A bo er hr hk p_ up hkd x) (by decide) (by decide) (by decide) ?_
        rintro r g ⟨rfl, A9, hA9, rfl⟩
        refine ⟨_, rfl, jPr.of (mx_voice0_0 R J d e kp nm Wm hd hk p_ up hkd x) (by decide) ⟨_, rfl⟩ ?_⟩
        rintro r2 g2 ⟨rfl, I9, W9, e0, e3, hw9, hw10, rfl⟩
        exact ⟨rfl, jI.of (hF.act e0 ⟨1, by decide, hA9, e3, fun k hk => by rw [hw10]; exact jp_same hk⟩ hw9)⟩
      | 1, _, hkd =>
        refine jPc.of (kx_voice0_1 im Im row stk tpm Tm I W T A bo er hr hk p_ up hkd x) (by decide) (by decide) (by decide) ?_
        rintro r g ⟨rfl, A9, hA9, rfl⟩
        refine ⟨_, rfl, jPr.of (mx_voice0_1 R J d e kp nm Wm hd hk p_ up hkd x) (by decide) ⟨_, rfl⟩ ?_⟩
        rintro r2 g2 ⟨rfl, I9, W9, e0, e3, hw9, hw10, rfl⟩
        exact ⟨rfl, jI.of (hF.act e0 ⟨1, by decide, hA9, e3, fun k hk => by rw [hw10]; exact jp_same hk⟩ hw9)⟩
      | 2, _, hkd =>
        refine jPc.of (kx_voice0_2 im Im row stk tpm Tm I W T A bo er hr hk p_ up hkd x) (by decide) (by decide) (by decide) ?_
        rintro r g ⟨rfl, A9, hA9, rfl⟩
        refine ⟨_, rfl, jPr.of (mx_voice0_2 R J d e kp nm Wm hd hk p_ up hkd x) (by decide) ⟨_, rfl⟩ ?_⟩
        rintro r2 g2 ⟨rfl, I9, W9, e0, e3, hw9, hw10, rfl⟩
        exact ⟨rfl, jI.of (hF.act e0 ⟨2, by decide, hA9, e3, fun k hk => by rw [hw10]; exact jp_same hk⟩ hw9)⟩
      | 3, _, hkd =>
        refine jPc.of (kx_voice0_3 im Im row stk tpm Tm I W T A bo er hr hk p_ up hkd x) (by decide) (by decide) (by decide) ?_
        rintro r g ⟨rfl, A9, hA9, rfl⟩
        refine ⟨_, rfl, jPr.of (mx_voice0_3 R J d e kp nm Wm hd hk p_ up hkd x) (by decide) ⟨_, rfl⟩ ?_⟩
        rintro r2 g2 ⟨rfl, I9, W9, e0, e3, hw9, hw10, rfl⟩
        exact ⟨rfl, jI.of (hF.act e0 ⟨1, by decide, hA9, e3, fun k hk => by rw [hw10]; exact jp_same hk⟩ hw9)⟩
      | 4, _, hkd =>
        refine jPc.of (kx_voice0_4 im Im row stk tpm Tm I W T A bo er hr hk p_ up hkd x) (by decide) (by decide) (by decide) ?_
        rintro r g ⟨rfl, A9, hA9, rfl⟩
        refine ⟨_, rfl, jPr.of (mx_voice0_4 R J d e kp nm Wm hd hk p_ up hkd x) (by decide) ⟨_, rfl⟩ ?_⟩
        rintro r2 g2 ⟨rfl, I9, W9, e0, e3, hw9, hw10, rfl⟩
        exact ⟨rfl, jI.of (hF.act e0 ⟨1, by decide, hA9, e3, fun k hk => by rw [hw10]; exact jp_same hk⟩ hw9)⟩
      | 5, _, hkd =>
        refine jPc.of (kx_voice0_5 im Im row stk tpm Tm I W T A bo er hr hk p_ up hkd x) (by decide) (by decide) (by decide) ?_
        rintro r g ⟨rfl, A9, hA9, rfl⟩
        refine ⟨_, rfl, jPr.of (mx_voice0_5 R J d e kp nm Wm hd hk p_ up hkd x) (by decide) ⟨_, rfl⟩ ?_⟩
        rintro r2 g2 ⟨rfl, I9, W9, e0, e3, hw9, hw10, rfl⟩
        exact ⟨rfl, jI.of (hF.act e0 ⟨2, by decide, hA9, e3, fun k hk => by rw [hw10]; exact jp_same hk⟩ hw9)⟩
      | 6, _, hkd =>
        refine jPc.of (kx_voice0_6 im Im row stk tpm Tm I W T A bo er hr hk p_ up hkd x) (by decide) (by decide) (by decide) ?_
        rintro r g ⟨rfl, A9, hA9, rfl⟩
        refine ⟨_, rfl, jPr.of (mx_voice0_6 R J d e kp nm Wm hd hk p_ up hkd x) (by decide) ⟨_, rfl⟩ ?_⟩
        rintro r2 g2 ⟨rfl, I9, W9, e0, e3, hw9, hw10, rfl⟩
        exact ⟨rfl, jI.of (hF.act e0 ⟨1, by decide, hA9, e3, fun k hk => by rw [hw10]; exact jp_same hk⟩ hw9)⟩
    | 1, _ =>
      match q0, hv, hq0 with
      | 0, _, hkd =>
        refine jPc.of (kx_voice1_0 im Im row stk tpm Tm I W T A bo er hr hk p_ up hkd x) (by decide) (by decide) (by decide) ?_
        rintro r g ⟨rfl, A9, hA9, rfl⟩
        refine ⟨_, rfl, jPr.of (mx_voice1_0 R J d e kp nm Wm hd hk p_ up hkd x) (by decide) ⟨_, rfl⟩ ?_⟩
        rintro r2 g2 ⟨rfl, I9, W9, e0, e3, hw9, hw10, rfl⟩
        exact ⟨rfl, jI.of (hF.act e0 ⟨2, by decide, hA9, e3, fun k hk => by rw [hw10]; exact jp_same hk⟩ hw9)⟩
      | 1, _, hkd =>
        refine jPc.of (kx_voice1_1 im Im row stk tpm Tm I W T A bo er hr hk p_ up hkd x) (by decide) (by decide) (by decide) ?_
        rintro r g ⟨rfl, A9, hA9, rfl⟩
        refine ⟨_, rfl, jPr.of (mx_voice1_1 R J d e kp nm Wm hd hk p_ up hkd x) (by decide) ⟨_, rfl⟩ ?_⟩
        rintro r2 g2 ⟨rfl, I9, W9, e0, e3, hw9, hw10, rfl⟩
        exact ⟨rfl, jI.of (hF.act e0 ⟨4, by decide, hA9, e3, fun k hk => by rw [hw10]; exact jp_same hk⟩ hw9)⟩
      | 2, _, hkd =>
        refine jPc.of (kx_voice1_2 im Im row stk tpm Tm I W T A bo er hr hk p_ up hkd x) (by decide) (by decide) (by decide) ?_
        rintro r g ⟨rfl, A9, hA9, rfl⟩
        refine ⟨_, rfl, jPr.of (mx_voice1_2 R J d e kp nm Wm hd hk p_ up hkd x) (by decide) ⟨_, rfl⟩ ?_⟩
        rintro r2 g2 ⟨rfl, I9, W9, e0, e3, hw9, hw10, rfl⟩
        exact ⟨rfl, jI.of (hF.act e0 ⟨3, by decide, hA9, e3, fun k hk => by rw [hw10]; exact jp_same hk⟩ hw9)⟩
      | 3, _, hkd =>
        refine jPc.of (kx_voice1_3 im Im row stk tpm Tm I W T A bo er hr hk p_ up hkd x) (by decide) (by decide) (by decide) ?_
        rintro r g ⟨rfl, A9, hA9, rfl⟩
        refine ⟨_, rfl, jPr.of (mx_voice1_3 R J d e kp nm Wm hd hk p_ up hkd x) (by decide) ⟨_, rfl⟩ ?_⟩
        rintro r2 g2 ⟨rfl, I9, W9, e0, e3, hw9, hw10, rfl⟩
        exact ⟨rfl, jI.of (hF.act e0 ⟨2, by decide, hA9, e3, fun k hk => by rw [hw10]; exact jp_same hk⟩ hw9)⟩
      | 4, _, hkd =>
        refine jPc.of (kx_voice1_4 im Im row stk tpm Tm I W T A bo er hr hk p_ up hkd x) (by decide) (by decide) (by decide) ?_
        rintro r g ⟨rfl, A9, hA9, rfl⟩
        refine ⟨_, rfl, jPr.of (mx_voice1_4 R J d e kp nm Wm hd hk p_ up hkd x) (by decide) ⟨_, rfl⟩ ?_⟩
        rintro r2 g2 ⟨rfl, I9, W9, e0, e3, hw9, hw10, rfl⟩
        exact ⟨rfl, jI.of (hF.act e0 ⟨5, by decide, hA9, e3, fun k hk => by rw [hw10]; exact jp_same hk⟩ hw9)⟩
      | 5, _, hkd =>
        refine jPc.of (kx_voice1_5 im Im row stk tpm Tm I W T A bo er hr hk p_ up hkd x) (by decide) (by decide) (by decide) ?_
        rintro r g ⟨rfl, A9, hA9, rfl⟩
        refine ⟨_, rfl, jPr.of (mx_voice1_5 R J d e kp nm Wm hd hk p_ up hkd x) (by decide) ⟨_, rfl⟩ ?_⟩
        rintro r2 g2 ⟨rfl, I9, W9, e0, e3, hw9, hw10, rfl⟩
        exact ⟨rfl, jI.of (hF.act e0 ⟨3, by decide, hA9, e3, fun k hk => by rw [hw10]; exact jp_same hk⟩ hw9)⟩
      | 6, _, hkd =>
        refine jPc.of (kx_voice1_6 im Im row stk tpm Tm I W T A bo er hr hk p_ up hkd x) (by decide) (by decide) (by decide) ?_
        rintro r g ⟨rfl, A9, hA9, rfl⟩
        refine ⟨_, rfl, jPr.of (mx_voice1_6 R J d e kp nm Wm hd hk p_ up hkd x) (by decide) ⟨_, rfl⟩ ?_⟩
        rintro r2 g2 ⟨rfl, I9, W9, e0, e3, hw9, hw10, rfl⟩
        exact ⟨rfl, jI.of (hF.act e0 ⟨2, by decide, hA9, e3, fun k hk => by rw [hw10]; exact jp_same hk⟩ hw9)⟩
    | 2, _ =>
      match q0, hv, hq0 with
      | 0, _, hkd =>
        refine jPc.of (kx_voice2_0 im Im row stk tpm Tm I W T A bo er hr hk p_ up hkd x) (by decide) (by decide) (by decide) ?_
        rintro r g ⟨rfl, A9, hA9, rfl⟩
        refine ⟨_, rfl, jPr.of (mx_voice2_0 R J d e kp nm Wm hd hk p_ up hkd x) (by decide) ⟨_, rfl⟩ ?_⟩
        rintro r2 g2 ⟨rfl, I9, W9, e0, e3, hw9, hw10, rfl⟩
        exact ⟨rfl, jI.of (hF.act e0 ⟨1, by decide, hA9, e3, fun k hk => by rw [hw10]; exact jp_same hk⟩ hw9)⟩
      | 1, _, hkd =>
        refine jPc.of (kx_voice2_1 im Im row stk tpm Tm I W T A bo er hr hk p_ up hkd x) (by decide) (by decide) (by decide) ?_
        rintro r g ⟨rfl, A9, hA9, rfl⟩
        refine ⟨_, rfl, jPr.of (mx_voice2_1 R J d e kp nm Wm hd hk p_ up hkd x) (by decide) ⟨_, rfl⟩ ?_⟩
        rintro r2 g2 ⟨rfl, I9, W9, e0, e3, hw9, hw10, rfl⟩
        exact ⟨rfl, jI.of (hF.act e0 ⟨1, by decide, hA9, e3, fun k hk => by rw [hw10]; exact jp_same hk⟩ hw9)⟩
      | 2, _, hkd =>
        refine jPc.of (kx_voice2_2 im Im row stk tpm Tm I W T A bo er hr hk p_ up hkd x) (by decide) (by decide) (by decide) ?_
        rintro r g ⟨rfl, A9, hA9, rfl⟩
        refine ⟨_, rfl, jPr.of (mx_voice2_2 R J d e kp nm Wm hd hk p_ up hkd x) (by decide) ⟨_, rfl⟩ ?_⟩
        rintro r2 g2 ⟨rfl, I9, W9, e0, e3, hw9, hw10, rfl⟩
        exact ⟨rfl, jI.of (hF.act e0 ⟨1, by decide, hA9, e3, fun k hk => by rw [hw10]; exact jp_same hk⟩ hw9)⟩
      | 3, _, hkd =>
        refine jPc.of (kx_voice2_3 im Im row stk tpm Tm I W T A bo er hr hk p_ up hkd x) (by decide) (by decide) (by decide) ?_
        rintro r g ⟨rfl, A9, hA9, rfl⟩
        refine ⟨_, rfl, jPr.of (mx_voice2_3 R J d e kp nm Wm hd hk p_ up hkd x) (by decide) ⟨_, rfl⟩ ?_⟩
        rintro r2 g2 ⟨rfl, I9, W9, e0, e3, hw9, hw10, rfl⟩
        exact ⟨rfl, jI.of (hF.act e0 ⟨2, by decide, hA9, e3, fun k hk => by rw [hw10]; exact jp_same hk⟩ hw9)⟩
      | 4, _, hkd =>
        refine jPc.of (kx_voice2_4 im Im row stk tpm Tm I W T A bo er hr hk p_ up hkd x) (by decide) (by decide) (by decide) ?_
        rintro r g ⟨rfl, A9, hA9, rfl⟩
        refine ⟨_, rfl, jPr.of (mx_voice2_4 R J d e kp nm Wm hd hk p_ up hkd x) (by decide) ⟨_, rfl⟩ ?_⟩
        rintro r2 g2 ⟨rfl, I9, W9, e0, e3, hw9, hw10, rfl⟩
        exact ⟨rfl, jI.of (hF.act e0 ⟨1, by decide, hA9, e3, fun k hk => by rw [hw10]; exact jp_same hk⟩ hw9)⟩
      | 5, _, hkd =>
        refine jPc.of (kx_voice2_5 im Im row stk tpm Tm I W T A bo er hr hk p_ up hkd x) (by decide) (by decide) (by decide) ?_
        rintro r g ⟨rfl, A9, hA9, rfl⟩
        refine ⟨_, rfl, jPr.of (mx_voice2_5 R J d e kp nm Wm hd hk p_ up hkd x) (by decide) ⟨_, rfl⟩ ?_⟩
        rintro r2 g2 ⟨rfl, I9, W9, e0, e3, hw9, hw10, rfl⟩
        exact ⟨rfl, jI.of (hF.act e0 ⟨1, by decide, hA9, e3, fun k hk => by rw [hw10]; exact jp_same hk⟩ hw9)⟩
      | 6, _, hkd =>
        refine jPc.of (kx_voice2_6 im Im row stk tpm Tm I W T A bo er hr hk p_ up hkd x) (by decide) (by decide) (by decide) ?_
        rintro r g ⟨rfl, A9, hA9, rfl⟩
        refine ⟨_, rfl, jPr.of (mx_voice2_6 R J d e kp nm Wm hd hk p_ up hkd x) (by decide) ⟨_, rfl⟩ ?_⟩
        rintro r2 g2 ⟨rfl, I9, W9, e0, e3, hw9, hw10, rfl⟩
        exact ⟨rfl, jI.of (hF.act e0 ⟨3, by decide, hA9, e3, fun k hk => by rw [hw10]; exact jp_same hk⟩ hw9)⟩
    | 3, _ =>
      match q0, hv, hq0 with
      | 0, _, hkd =>
        refine jPc.of (kx_voice3_0 im Im row stk tpm Tm I W T A bo er hr hk p_ up hkd x) (by decide) (by decide) (by decide) ?_
        rintro r g ⟨rfl, A9, hA9, rfl⟩
        refine ⟨_, rfl, jPr.of (mx_voice3_0 R J d e kp nm Wm hd hk p_ up hkd x) (by decide) ⟨_, rfl⟩ ?_⟩
        rintro r2 g2 ⟨rfl, I9, W9, e0, e3, hw9, hw10, rfl⟩
        exact ⟨rfl, jI.of (hF.act e0 ⟨4, by decide, hA9, e3, fun k hk => by rw [hw10]; exact jp_same hk⟩ hw9)⟩
      | 1, _, hkd =>
        refine jPc.of (kx_voice3_1 im Im row stk tpm Tm I W T A bo er hr hk p_ up hkd x) (by decide) (by decide) (by decide) ?_
        rintro r g ⟨rfl, A9, hA9, rfl⟩
        refine ⟨_, rfl, jPr.of (mx_voice3_1 R J d e kp nm Wm hd hk p_ up hkd x) (by decide) ⟨_, rfl⟩ ?_⟩
        rintro r2 g2 ⟨rfl, I9, W9, e0, e3, hw9, hw10, rfl⟩
        exact ⟨rfl, jI.of (hF.act e0 ⟨6, by decide, hA9, e3, fun k hk => by rw [hw10]; exact jp_same hk⟩ hw9)⟩
      | 2, _, hkd =>
        refine jPc.of (kx_voice3_2 im Im row stk tpm Tm I W T A bo er hr hk p_ up hkd x) (by decide) (by decide) (by decide) ?_
        rintro r g ⟨rfl, A9, hA9, rfl⟩
        refine ⟨_, rfl, jPr.of (mx_voice3_2 R J d e kp nm Wm hd hk p_ up hkd x) (by decide) ⟨_, rfl⟩ ?_⟩
        rintro r2 g2 ⟨rfl, I9, W9, e0, e3, hw9, hw10, rfl⟩
        exact ⟨rfl, jI.of (hF.act e0 ⟨5, by decide, hA9, e3, fun k hk => by rw [hw10]; exact jp_same hk⟩ hw9)⟩
      | 3, _, hkd =>
        refine jPc.of (kx_voice3_3 im Im row stk tpm Tm I W T A bo er hr hk p_ up hkd x) (by decide) (by decide) (by decide) ?_
        rintro r g ⟨rfl, A9, hA9, rfl⟩
        refine ⟨_, rfl, jPr.of (mx_voice3_3 R J d e kp nm Wm hd hk p_ up hkd x) (by decide) ⟨_, rfl⟩ ?_⟩
        rintro r2 g2 ⟨rfl, I9, W9, e0, e3, hw9, hw10, rfl⟩
        exact ⟨rfl, jI.of (hF.act e0 ⟨5, by decide, hA9, e3, fun k hk => by rw [hw10]; exact jp_same hk⟩ hw9)⟩
      | 4, _, hkd =>
        refine jPc.of (kx_voice3_4 im Im row stk tpm Tm I W T A bo er hr hk p_ up hkd x) (by decide) (by decide) (by decide) ?_
        rintro r g ⟨rfl, A9, hA9, rfl⟩
        refine ⟨_, rfl, jPr.of (mx_voice3_4 R J d e kp nm Wm hd hk p_ up hkd x) (by decide) ⟨_, rfl⟩ ?_⟩
        rintro r2 g2 ⟨rfl, I9, W9, e0, e3, hw9, hw10, rfl⟩
        exact ⟨rfl, jI.of (hF.act e0 ⟨7, by decide, hA9, e3, fun k hk => by rw [hw10]; exact jp_same hk⟩ hw9)⟩
      | 5, _, hkd =>
        refine jPc.of (kx_voice3_5 im Im row stk tpm Tm I W T A bo er hr hk p_ up hkd x) (by decide) (by decide) (by decide) ?_
        rintro r g ⟨rfl, A9, hA9, rfl⟩
        refine ⟨_, rfl, jPr.of (mx_voice3_5 R J d e kp nm Wm hd hk p_ up hkd x) (by decide) ⟨_, rfl⟩ ?_⟩
        rintro r2 g2 ⟨rfl, I9, W9, e0, e3, hw9, hw10, rfl⟩
        exact ⟨rfl, jI.of (hF.act e0 ⟨8, by decide, hA9, e3, fun k hk => by rw [hw10]; exact jp_same hk⟩ hw9)⟩
      | 6, _, hkd =>
        refine jPc.of (kx_voice3_6 im Im row stk tpm Tm I W T A bo er hr hk p_ up hkd x) (by decide) (by decide) (by decide) ?_
        rintro r g ⟨rfl, A9, hA9, rfl⟩
        refine ⟨_, rfl, jPr.of (mx_voice3_6 R J d e kp nm Wm hd hk p_ up hkd x) (by decide) ⟨_, rfl⟩ ?_⟩
        rintro r2 g2 ⟨rfl, I9, W9, e0, e3, hw9, hw10, rfl⟩
        exact ⟨rfl, jI.of (hF.act e0 ⟨9, by decide, hA9, e3, fun k hk => by rw [hw10]; exact jp_same hk⟩ hw9)⟩
  · refine jPc.of (ke_voice im Im row stk tpm Tm I W T A bo er hr hk _ _ _ hb) (by decide) (by decide) (by decide) ?_
    rintro r g ⟨rfl, rfl⟩
    refine ⟨_, rfl, jPr.of (me_voice R J d e kp nm Wm hd hk _ _ _ hb) (by decide) ⟨_, rfl⟩ ?_⟩
    rintro r2 g2 ⟨rfl, rfl⟩
    exact ⟨rfl, jI.of (hF.err (by decide))⟩
