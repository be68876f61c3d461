theorem jn_nn {n : Int32} (h : ¬ n < 0) (h2 : ¬ 40 < n) : ∃ m, m ≤ 40 ∧ n = nI m := by
  have q : jn_b n 0 41 := (jn_bI (by decide)).mpr ⟨by rw [Int32.lt_iff_toInt_lt] at h; exact Int.not_lt.mp h, by
    rw [Int32.lt_iff_toInt_lt] at h2
    have e : (40 : Int32).toInt = 40 := rfl
    rw [e] at h2
    omega⟩
  obtain ⟨m, -, hm, rfl⟩ := q
  exact ⟨m, by omega, rfl⟩
theorem jm_bt.le {b : Nat} (h : jm_bt b) : b ≤ 32 := by
  rcases h with h | h | h | h <;> omega
theorem jh1.sh {I num : Nat → Int32} {W W' : Nat → Nat → Int32} {t : Nat} (h : jh1 I num W t) {s : Nat} {x y : Int32} (hne : ¬ t = s) (w1 : W' 1 = upd (W 1) s x) (w2 : W' 2 = upd (W 2) s y) (w4 : ∀ k, (k < 40 * s ∨ 40 * s + 40 ≤ k) → W' 3 k = W 3 k) : jh1 I num W' t :=
  h.to (by rw [w1]; exact if_neg hne) (by rw [w2]; exact if_neg hne) (fun k hk => w4 _ (by omega))
theorem jh1.nw {I num : Nat → Int32} {W W' : Nat → Nat → Int32} {s b z : Nat} (hb : jm_bt b) (hz : z ≤ 40) (e0 : I 0 = nI b) (e1 : I 1 = nI z) (en : ∀ k, k < 40 → num k = 0) (w1 : W' 1 = upd (W 1) s (nI b)) (w2 : W' 2 = upd (W 2) s (nI z)) (w3 : ∀ k, k < 40 → W' 3 (40 * s + k) = 0) : jh1 I num W' s :=
  ⟨b, z, e0, by rw [w1]; exact if_pos rfl, hb, e1, by rw [w2]; exact if_pos rfl, hz, fun k hk => (en k hk).trans (w3 k hk).symm⟩
theorem jh1.pt {I num : Nat → Int32} {W : Nat → Nat → Int32} {t : Nat} (h : jh1 I num W t) {s j : Nat} {x : Int32} (hne : ¬ t = s) (hj : j < 40) : jh1 I num (va_up W 3 (upd (W 3) (40 * s + j) x)) t :=
  h.to rfl rfl (fun k hk => by
    show upd (W 3) (40 * s + j) x (40 * t + k) = _
    exact if_neg (by omega))
theorem jh1.pu {I num : Nat → Int32} {W : Nat → Nat → Int32} {s : Nat} (h : jh1 I num W s) {j : Nat} {x : Int32} : jh1 I (upd num j x) (va_up W 3 (upd (W 3) (40 * s + j) x)) s := by
  obtain ⟨b, z, a1, a2, a3, a4, a5, a6, a7⟩ := h
  refine ⟨b, z, a1, a2, a3, a4, a5, a6, fun k hk => ?_⟩
  show upd num j x k = upd (W 3) (40 * s + j) x (40 * s + k)
  by_cases q : k = j
  · subst q
    exact (if_pos rfl).trans (if_pos rfl).symm
  · exact (if_neg q).trans ((a7 k hk).trans (if_neg (by omega)).symm)
theorem jh1.mo {I num : Nat → Int32} {W W' : Nat → Nat → Int32} {t : Nat} (h : jh1 I num W t) {u c k9 : Nat} (hne : ¬ t = u) (hc : c + k9 ≤ 40) (w0 : ∀ r, ¬ r = 3 → ¬ r = 4 → W' r = W r) (w1 : ∀ k, (k < 40 * u + c ∨ 40 * u + c + k9 ≤ k) → W' 3 k = W 3 k) : jh1 I num W' t :=
  h.to (by rw [w0 1 (by decide) (by decide)]) (by rw [w0 2 (by decide) (by decide)]) (fun k hk => w1 _ (by omega))
theorem jh1.mv {I num : Nat → Int32} {W W' : Nat → Nat → Int32} {u : Nat} (h : jh1 I num W u) {ns : Nat → Int32} {s a c k9 : Nat} (hs : ∀ k, k < 40 → ns k = W 3 (40 * s + k)) (ha : a + k9 ≤ 40) (w0 : ∀ r, ¬ r = 3 → ¬ r = 4 → W' r = W r) (w1 : ∀ k, (k < 40 * u + c ∨ 40 * u + c + k9 ≤ k) → W' 3 k = W 3 k) (w2 : ∀ k, k < k9 → W' 3 (40 * u + c + k) = W 3 (40 * s + a + k)) : jh1 I (va_cpy ns num a c k9) W' u := by
  obtain ⟨b, z, a1, a2, a3, a4, a5, a6, a7⟩ := h
  refine ⟨b, z, a1, by rw [w0 1 (by decide) (by decide)]; exact a2, a3, a4, by rw [w0 2 (by decide) (by decide)]; exact a5, a6, fun k hk => ?_⟩
  unfold va_cpy
  by_cases q : c ≤ k ∧ k < c + k9
  · rw [if_pos q]
    obtain ⟨j, rfl⟩ : ∃ j, k = c + j := ⟨k - c, by omega⟩
    rw [hs _ (by omega), ← Nat.add_assoc (40 * u), w2 j (by omega)]
    exact congrArg (W 3) (by omega)
  · rw [if_neg q, a7 k hk]
    exact (w1 _ (by omega)).symm
theorem p_sheet {sc : Nat × (Nat → Int32)} (s b n : Int32) : jP sc yX11_sheet cX11_sheet 5 yX12_sheet cX12_sheet 5 [.int s, .int b, .int n] := by
  intro c h hc hI
  obtain ⟨im, Im, Tm, row, stk, tpm, I, W, T, Ik, Wk, Tk, Ix, Wx, Tx, I0, n0, J0, W0, I1, n1, J1, W1, I2, n2, J2, W2, I3, n3, J3, W3, A, bo, er, R, J, d, e, kp, nm, Wm, s11, rfl, hF⟩ := hI
  obtain ⟨X, V, tp, wt, hS0⟩ := hF.1
  have hS := hS0
  obtain ⟨hr, hd, hk, h9, hz, h5, h8, htp, htt, hby, h6, h99, hwt, htw, hxc, hxd⟩ := hS
  have hF0 := hF
  obtain ⟨-, -, -, -, -, g0, g1, g2, g3, -⟩ := hF0
  by_cases hb : jn_b s 0 4 ∧ (b = 0 ∨ b = 8 ∨ b = 16 ∨ b = 32)
  · obtain ⟨⟨s_, ls_, us_, rfl⟩, hbb⟩ := hb
    match s_, us_ with
    | 0, _ =>
      rcases hbb with rfl | rfl | rfl | rfl
      · refine jPc.of (kx_sheet0_0 im Im row stk tpm Tm I0 n0 J0 W0 n) (by decide) (by decide) (by decide) ?_
        rintro r g ⟨rfl, I9, n9, e0, e1, en, rfl⟩
        refine ⟨_, rfl, jPr.of (mx_sheet0 R J d e kp nm Wm 0 (by decide) n) (by decide) ⟨_, rfl⟩ ?_⟩
        rintro r2 g2 ⟨rfl, W9, w0, w1, w2, w3, w4, rfl⟩
        exact ⟨rfl, jI.of (hF.sh (fun r hr => w0 r (by omega) (by omega) (by omega)) (jh1.nw (b := 0) (z := 0) (by unfold jm_bt; omega) (by omega) e0 e1 en w1 w2 w3) (g1.sh (by decide) w1 w2 w4) (g2.sh (by decide) w1 w2 w4) (g3.sh (by decide) w1 w2 w4))⟩
      · by_cases hn : n < 0
        · refine jPc.of (ke_sheetS8 im Im row stk tpm Tm A bo er 0 (by decide) n hn) (by decide) (by decide) (by decide) ?_
          rintro r g ⟨rfl, rfl⟩
          refine ⟨_, rfl, jPr.of (me_sheetS8 R J d e kp nm Wm 0 (by decide) n hn) (by decide) ⟨_, rfl⟩ ?_⟩
          rintro r2 g2 ⟨rfl, rfl⟩
          exact ⟨rfl, jI.of (hF.err (by decide))⟩
        · by_cases hn2 : 40 < n
          · refine jPc.of (ke_sheetB8 im Im row stk tpm Tm A bo er 0 (by decide) n hn hn2) (by decide) (by decide) (by decide) ?_
            rintro r g ⟨rfl, rfl⟩
            refine ⟨_, rfl, jPr.of (me_sheetB8 R J d e kp nm Wm 0 (by decide) n hn hn2) (by decide) ⟨_, rfl⟩ ?_⟩
            rintro r2 g2 ⟨rfl, rfl⟩
            exact ⟨rfl, jI.of (hF.err (by decide))⟩
          · obtain ⟨m, hm, rfl⟩ := jn_nn hn hn2
            refine jPc.of (kx_sheet8_0 im Im row stk tpm Tm I0 n0 J0 W0 m hm) (by decide) (by decide) (by decide) ?_
            rintro r g ⟨rfl, I9, n9, e0, e1, en, rfl⟩
            refine ⟨_, rfl, jPr.of (mx_sheet8 R J d e kp nm Wm 0 (by decide) m hm) (by decide) ⟨_, rfl⟩ ?_⟩
            rintro r2 g2 ⟨rfl, W9, w0, w1, w2, w3, w4, rfl⟩
            exact ⟨rfl, jI.of (hF.sh (fun r hr => w0 r (by omega) (by omega) (by omega)) (jh1.nw (b := 8) (z := m) (by unfold jm_bt; omega) hm e0 e1 en w1 w2 w3) (g1.sh (by decide) w1 w2 w4) (g2.sh (by decide) w1 w2 w4) (g3.sh (by decide) w1 w2 w4))⟩
      · by_cases hn : n < 0
        · refine jPc.of (ke_sheetS16 im Im row stk tpm Tm A bo er 0 (by decide) n hn) (by decide) (by decide) (by decide) ?_
          rintro r g ⟨rfl, rfl⟩
          refine ⟨_, rfl, jPr.of (me_sheetS16 R J d e kp nm Wm 0 (by decide) n hn) (by decide) ⟨_, rfl⟩ ?_⟩
          rintro r2 g2 ⟨rfl, rfl⟩
          exact ⟨rfl, jI.of (hF.err (by decide))⟩
        · by_cases hn2 : 40 < n
          · refine jPc.of (ke_sheetB16 im Im row stk tpm Tm A bo er 0 (by decide) n hn hn2) (by decide) (by decide) (by decide) ?_
            rintro r g ⟨rfl, rfl⟩
            refine ⟨_, rfl, jPr.of (me_sheetB16 R J d e kp nm Wm 0 (by decide) n hn hn2) (by decide) ⟨_, rfl⟩ ?_⟩
            rintro r2 g2 ⟨rfl, rfl⟩
            exact ⟨rfl, jI.of (hF.err (by decide))⟩
          · obtain ⟨m, hm, rfl⟩ := jn_nn hn hn2
            refine jPc.of (kx_sheet16_0 im Im row stk tpm Tm I0 n0 J0 W0 m hm) (by decide) (by decide) (by decide) ?_
            rintro r g ⟨rfl, I9, n9, e0, e1, en, rfl⟩
            refine ⟨_, rfl, jPr.of (mx_sheet16 R J d e kp nm Wm 0 (by decide) m hm) (by decide) ⟨_, rfl⟩ ?_⟩
            rintro r2 g2 ⟨rfl, W9, w0, w1, w2, w3, w4, rfl⟩
            exact ⟨rfl, jI.of (hF.sh (fun r hr => w0 r (by omega) (by omega) (by omega)) (jh1.nw (b := 16) (z := m) (by unfold jm_bt; omega) hm e0 e1 en w1 w2 w3) (g1.sh (by decide) w1 w2 w4) (g2.sh (by decide) w1 w2 w4) (g3.sh (by decide) w1 w2 w4))⟩
      · by_cases hn : n < 0
        · refine jPc.of (ke_sheetS32 im Im row stk tpm Tm A bo er 0 (by decide) n hn) (by decide) (by decide) (by decide) ?_
          rintro r g ⟨rfl, rfl⟩
          refine ⟨_, rfl, jPr.of (me_sheetS32 R J d e kp nm Wm 0 (by decide) n hn) (by decide) ⟨_, rfl⟩ ?_⟩
          rintro r2 g2 ⟨rfl, rfl⟩
          exact ⟨rfl, jI.of (hF.err (by decide))⟩
        · by_cases hn2 : 40 < n
          · refine jPc.of (ke_sheetB32 im Im row stk tpm Tm A bo er 0 (by decide) n hn hn2) (by decide) (by decide) (by decide) ?_
            rintro r g ⟨rfl, rfl⟩
            refine ⟨_, rfl, jPr.of (me_sheetB32 R J d e kp nm Wm 0 (by decide) n hn hn2) (by decide) ⟨_, rfl⟩ ?_⟩
            rintro r2 g2 ⟨rfl, rfl⟩
            exact ⟨rfl, jI.of (hF.err (by decide))⟩
          · obtain ⟨m, hm, rfl⟩ := jn_nn hn hn2
            refine jPc.of (kx_sheet32_0 im Im row stk tpm Tm I0 n0 J0 W0 m hm) (by decide) (by decide) (by decide) ?_
            rintro r g ⟨rfl, I9, n9, e0, e1, en, rfl⟩
            refine ⟨_, rfl, jPr.of (mx_sheet32 R J d e kp nm Wm 0 (by decide) m hm) (by decide) ⟨_, rfl⟩ ?_⟩
            rintro r2 g2 ⟨rfl, W9, w0, w1, w2, w3, w4, rfl⟩
            exact ⟨rfl, jI.of (hF.sh (fun r hr => w0 r (by omega) (by omega) (by omega)) (jh1.nw (b := 32) (z := m) (by unfold jm_bt; omega) hm e0 e1 en w1 w2 w3) (g1.sh (by decide) w1 w2 w4) (g2.sh (by decide) w1 w2 w4) (g3.sh (by decide) w1 w2 w4))⟩
    | 1, _ =>
      rcases hbb with rfl | rfl | rfl | rfl
      · refine jPc.of (kx_sheet0_1 im Im row stk tpm Tm I1 n1 J1 W1 n) (by decide) (by decide) (by decide) ?_
        rintro r g ⟨rfl, I9, n9, e0, e1, en, rfl⟩
        refine ⟨_, rfl, jPr.of (mx_sheet0 R J d e kp nm Wm 1 (by decide) n) (by decide) ⟨_, rfl⟩ ?_⟩
        rintro r2 g2 ⟨rfl, W9, w0, w1, w2, w3, w4, rfl⟩
        exact ⟨rfl, jI.of (hF.sh (fun r hr => w0 r (by omega) (by omega) (by omega)) (g0.sh (by decide) w1 w2 w4) (jh1.nw (b := 0) (z := 0) (by unfold jm_bt; omega) (by omega) e0 e1 en w1 w2 w3) (g2.sh (by decide) w1 w2 w4) (g3.sh (by decide) w1 w2 w4))⟩
      · by_cases hn : n < 0
        · refine jPc.of (ke_sheetS8 im Im row stk tpm Tm A bo er 1 (by decide) n hn) (by decide) (by decide) (by decide) ?_
          rintro r g ⟨rfl, rfl⟩
          refine ⟨_, rfl, jPr.of (me_sheetS8 R J d e kp nm Wm 1 (by decide) n hn) (by decide) ⟨_, rfl⟩ ?_⟩
          rintro r2 g2 ⟨rfl, rfl⟩
          exact ⟨rfl, jI.of (hF.err (by decide))⟩
        · by_cases hn2 : 40 < n
          · refine jPc.of (ke_sheetB8 im Im row stk tpm Tm A bo er 1 (by decide) n hn hn2) (by decide) (by decide) (by decide) ?_
            rintro r g ⟨rfl, rfl⟩
            refine ⟨_, rfl, jPr.of (me_sheetB8 R J d e kp nm Wm 1 (by decide) n hn hn2) (by decide) ⟨_, rfl⟩ ?_⟩
            rintro r2 g2 ⟨rfl, rfl⟩
            exact ⟨rfl, jI.of (hF.err (by decide))⟩
          · obtain ⟨m, hm, rfl⟩ := jn_nn hn hn2
            refine jPc.of (kx_sheet8_1 im Im row stk tpm Tm I1 n1 J1 W1 m hm) (by decide) (by decide) (by decide) ?_
            rintro r g ⟨rfl, I9, n9, e0, e1, en, rfl⟩
            refine ⟨_, rfl, jPr.of (mx_sheet8 R J d e kp nm Wm 1 (by decide) m hm) (by decide) ⟨_, rfl⟩ ?_⟩
            rintro r2 g2 ⟨rfl, W9, w0, w1, w2, w3, w4, rfl⟩
            exact ⟨rfl, jI.of (hF.sh (fun r hr => w0 r (by omega) (by omega) (by omega)) (g0.sh (by decide) w1 w2 w4) (jh1.nw (b := 8) (z := m) (by unfold jm_bt; omega) hm e0 e1 en w1 w2 w3) (g2.sh (by decide) w1 w2 w4) (g3.sh (by decide) w1 w2 w4))⟩
      · by_cases hn : n < 0
        · refine jPc.of (ke_sheetS16 im Im row stk tpm Tm A bo er 1 (by decide) n hn) (by decide) (by decide) (by decide) ?_
          rintro r g ⟨rfl, rfl⟩
          refine ⟨_, rfl, jPr.of (me_sheetS16 R J d e kp nm Wm 1 (by decide) n hn) (by decide) ⟨_, rfl⟩ ?_⟩
          rintro r2 g2 ⟨rfl, rfl⟩
          exact ⟨rfl, jI.of (hF.err (by decide))⟩
        · by_cases hn2 : 40 < n
          · refine jPc.of (ke_sheetB16 im Im row stk tpm Tm A bo er 1 (by decide) n hn hn2) (by decide) (by decide) (by decide) ?_
            rintro r g ⟨rfl, rfl⟩
            refine ⟨_, rfl, jPr.of (me_sheetB16 R J d e kp nm Wm 1 (by decide) n hn hn2) (by decide) ⟨_, rfl⟩ ?_⟩
            rintro r2 g2 ⟨rfl, rfl⟩
            exact ⟨rfl, jI.of (hF.err (by decide))⟩
          · obtain ⟨m, hm, rfl⟩ := jn_nn hn hn2
            refine jPc.of (kx_sheet16_1 im Im row stk tpm Tm I1 n1 J1 W1 m hm) (by decide) (by decide) (by decide) ?_
            rintro r g ⟨rfl, I9, n9, e0, e1, en, rfl⟩
            refine ⟨_, rfl, jPr.of (mx_sheet16 R J d e kp nm Wm 1 (by decide) m hm) (by decide) ⟨_, rfl⟩ ?_⟩
            rintro r2 g2 ⟨rfl, W9, w0, w1, w2, w3, w4, rfl⟩
            exact ⟨rfl, jI.of (hF.sh (fun r hr => w0 r (by omega) (by omega) (by omega)) (g0.sh (by decide) w1 w2 w4) (jh1.nw (b := 16) (z := m) (by unfold jm_bt; omega) hm e0 e1 en w1 w2 w3) (g2.sh (by decide) w1 w2 w4) (g3.sh (by decide) w1 w2 w4))⟩
      · by_cases hn : n < 0
        · refine jPc.of (ke_sheetS32 im Im row stk tpm Tm A bo er 1 (by decide) n hn) (by decide) (by decide) (by decide) ?_
          rintro r g ⟨rfl, rfl⟩
          refine ⟨_, rfl, jPr.of (me_sheetS32 R J d e kp nm Wm 1 (by decide) n hn) (by decide) ⟨_, rfl⟩ ?_⟩
          rintro r2 g2 ⟨rfl, rfl⟩
          exact ⟨rfl, jI.of (hF.err (by decide))⟩
        · by_cases hn2 : 40 < n
          · refine jPc.of (ke_sheetB32 im Im row stk tpm Tm A bo er 1 (by decide) n hn hn2) (by decide) (by decide) (by decide) ?_
            rintro r g ⟨rfl, rfl⟩
            refine ⟨_, rfl, jPr.of (me_sheetB32 R J d e kp nm Wm 1 (by decide) n hn hn2) (by decide) ⟨_, rfl⟩ ?_⟩
            rintro r2 g2 ⟨rfl, rfl⟩
            exact ⟨rfl, jI.of (hF.err (by decide))⟩
          · obtain ⟨m, hm, rfl⟩ := jn_nn hn hn2
            refine jPc.of (kx_sheet32_1 im Im row stk tpm Tm I1 n1 J1 W1 m hm) (by decide) (by decide) (by decide) ?_
            rintro r g ⟨rfl, I9, n9, e0, e1, en, rfl⟩
            refine ⟨_, rfl, jPr.of (mx_sheet32 R J d e kp nm Wm 1 (by decide) m hm) (by decide) ⟨_, rfl⟩ ?_⟩
            rintro r2 g2 ⟨rfl, W9, w0, w1, w2, w3, w4, rfl⟩
            exact ⟨rfl, jI.of (hF.sh (fun r hr => w0 r (by omega) (by omega) (by omega)) (g0.sh (by decide) w1 w2 w4) (jh1.nw (b := 32) (z := m) (by unfold jm_bt; omega) hm e0 e1 en w1 w2 w3) (g2.sh (by decide) w1 w2 w4) (g3.sh (by decide) w1 w2 w4))⟩
    | 2, _ =>
      rcases hbb with rfl | rfl | rfl | rfl
      · refine jPc.of (kx_sheet0_2 im Im row stk tpm Tm I2 n2 J2 W2 n) (by decide) (by decide) (by decide) ?_
        rintro r g ⟨rfl, I9, n9, e0, e1, en, rfl⟩
        refine ⟨_, rfl, jPr.of (mx_sheet0 R J d e kp nm Wm 2 (by decide) n) (by decide) ⟨_, rfl⟩ ?_⟩
        rintro r2 g2 ⟨rfl, W9, w0, w1, w2, w3, w4, rfl⟩
        exact ⟨rfl, jI.of (hF.sh (fun r hr => w0 r (by omega) (by omega) (by omega)) (g0.sh (by decide) w1 w2 w4) (g1.sh (by decide) w1 w2 w4) (jh1.nw (b := 0) (z := 0) (by unfold jm_bt; omega) (by omega) e0 e1 en w1 w2 w3) (g3.sh (by decide) w1 w2 w4))⟩
      · by_cases hn : n < 0
        · refine jPc.of (ke_sheetS8 im Im row stk tpm Tm A bo er 2 (by decide) n hn) (by decide) (by decide) (by decide) ?_
          rintro r g ⟨rfl, rfl⟩
          refine ⟨_, rfl, jPr.of (me_sheetS8 R J d e kp nm Wm 2 (by decide) n hn) (by decide) ⟨_, rfl⟩ ?_⟩
          rintro r2 g2 ⟨rfl, rfl⟩
          exact ⟨rfl, jI.of (hF.err (by decide))⟩
        · by_cases hn2 : 40 < n
          · refine jPc.of (ke_sheetB8 im Im row stk tpm Tm A bo er 2 (by decide) n hn hn2) (by decide) (by decide) (by decide) ?_
            rintro r g ⟨rfl, rfl⟩
            refine ⟨_, rfl, jPr.of (me_sheetB8 R J d e kp nm Wm 2 (by decide) n hn hn2) (by decide) ⟨_, rfl⟩ ?_⟩
            rintro r2 g2 ⟨rfl, rfl⟩
            exact ⟨rfl, jI.of (hF.err (by decide))⟩
          · obtain ⟨m, hm, rfl⟩ := jn_nn hn hn2
            refine jPc.of (kx_sheet8_2 im Im row stk tpm Tm I2 n2 J2 W2 m hm) (by decide) (by decide) (by decide) ?_
            rintro r g ⟨rfl, I9, n9, e0, e1, en, rfl⟩
            refine ⟨_, rfl, jPr.of (mx_sheet8 R J d e kp nm Wm 2 (by decide) m hm) (by decide) ⟨_, rfl⟩ ?_⟩
            rintro r2 g2 ⟨rfl, W9, w0, w1, w2, w3, w4, rfl⟩
            exact ⟨rfl, jI.of (hF.sh (fun r hr => w0 r (by omega) (by omega) (by omega)) (g0.sh (by decide) w1 w2 w4) (g1.sh (by decide) w1 w2 w4) (jh1.nw (b := 8) (z := m) (by unfold jm_bt; omega) hm e0 e1 en w1 w2 w3) (g3.sh (by decide) w1 w2 w4))⟩
      · by_cases hn : n < 0
        · refine jPc.of (ke_sheetS16 im Im row stk tpm Tm A bo er 2 (by decide) n hn) (by decide) (by decide) (by decide) ?_
          rintro r g ⟨rfl, rfl⟩
          refine ⟨_, rfl, jPr.of (me_sheetS16 R J d e kp nm Wm 2 (by decide) n hn) (by decide) ⟨_, rfl⟩ ?_⟩
          rintro r2 g2 ⟨rfl, rfl⟩
          exact ⟨rfl, jI.of (hF.err (by decide))⟩
        · by_cases hn2 : 40 < n
          · refine jPc.of (ke_sheetB16 im Im row stk tpm Tm A bo er 2 (by decide) n hn hn2) (by decide) (by decide) (by decide) ?_
            rintro r g ⟨rfl, rfl⟩
            refine ⟨_, rfl, jPr.of (me_sheetB16 R J d e kp nm Wm 2 (by decide) n hn hn2) (by decide) ⟨_, rfl⟩ ?_⟩
            rintro r2 g2 ⟨rfl, rfl⟩
            exact ⟨rfl, jI.of (hF.err (by decide))⟩
          · obtain ⟨m, hm, rfl⟩ := jn_nn hn hn2
            refine jPc.of (kx_sheet16_2 im Im row stk tpm Tm I2 n2 J2 W2 m hm) (by decide) (by decide) (by decide) ?_
            rintro r g ⟨rfl, I9, n9, e0, e1, en, rfl⟩
            refine ⟨_, rfl, jPr.of (mx_sheet16 R J d e kp nm Wm 2 (by decide) m hm) (by decide) ⟨_, rfl⟩ ?_⟩
            rintro r2 g2 ⟨rfl, W9, w0, w1, w2, w3, w4, rfl⟩
            exact ⟨rfl, jI.of (hF.sh (fun r hr => w0 r (by omega) (by omega) (by omega)) (g0.sh (by decide) w1 w2 w4) (g1.sh (by decide) w1 w2 w4) (jh1.nw (b := 16) (z := m) (by unfold jm_bt; omega) hm e0 e1 en w1 w2 w3) (g3.sh (by decide) w1 w2 w4))⟩
      · by_cases hn : n < 0
        · refine jPc.of (ke_sheetS32 im Im row stk tpm Tm A bo er 2 (by decide) n hn) (by decide) (by decide) (by decide) ?_
          rintro r g ⟨rfl, rfl⟩
          refine ⟨_, rfl, jPr.of (me_sheetS32 R J d e kp nm Wm 2 (by decide) n hn) (by decide) ⟨_, rfl⟩ ?_⟩
          rintro r2 g2 ⟨rfl, rfl⟩
          exact ⟨rfl, jI.of (hF.err (by decide))⟩
        · by_cases hn2 : 40 < n
          · refine jPc.of (ke_sheetB32 im Im row stk tpm Tm A bo er 2 (by decide) n hn hn2) (by decide) (by decide) (by decide) ?_
            rintro r g ⟨rfl, rfl⟩
            refine ⟨_, rfl, jPr.of (me_sheetB32 R J d e kp nm Wm 2 (by decide) n hn hn2) (by decide) ⟨_, rfl⟩ ?_⟩
            rintro r2 g2 ⟨rfl, rfl⟩
            exact ⟨rfl, jI.of (hF.err (by decide))⟩
          · obtain ⟨m, hm, rfl⟩ := jn_nn hn hn2
            refine jPc.of (kx_sheet32_2 im Im row stk tpm Tm I2 n2 J2 W2 m hm) (by decide) (by decide) (by decide) ?_
            rintro r g ⟨rfl, I9, n9, e0, e1, en, rfl⟩
            refine ⟨_, rfl, jPr.of (mx_sheet32 R J d e kp nm Wm 2 (by decide) m hm) (by decide) ⟨_, rfl⟩ ?_⟩
            rintro r2 g2 ⟨rfl, W9, w0, w1, w2, w3, w4, rfl⟩
            exact ⟨rfl, jI.of (hF.sh (fun r hr => w0 r (by omega) (by omega) (by omega)) (g0.sh (by decide) w1 w2 w4) (g1.sh (by decide) w1 w2 w4) (jh1.nw (b := 32) (z := m) (by unfold jm_bt; omega) hm e0 e1 en w1 w2 w3) (g3.sh (by decide) w1 w2 w4))⟩
    | 3, _ =>
      rcases hbb with rfl | rfl | rfl | rfl
      · refine jPc.of (kx_sheet0_3 im Im row stk tpm Tm I3 n3 J3 W3 n) (by decide) (by decide) (by decide) ?_
        rintro r g ⟨rfl, I9, n9, e0, e1, en, rfl⟩
        refine ⟨_, rfl, jPr.of (mx_sheet0 R J d e kp nm Wm 3 (by decide) n) (by decide) ⟨_, rfl⟩ ?_⟩
        rintro r2 g2 ⟨rfl, W9, w0, w1, w2, w3, w4, rfl⟩
        exact ⟨rfl, jI.of (hF.sh (fun r hr => w0 r (by omega) (by omega) (by omega)) (g0.sh (by decide) w1 w2 w4) (g1.sh (by decide) w1 w2 w4) (g2.sh (by decide) w1 w2 w4) (jh1.nw (b := 0) (z := 0) (by unfold jm_bt; omega) (by omega) e0 e1 en w1 w2 w3))⟩
      · by_cases hn : n < 0
        · refine jPc.of (ke_sheetS8 im Im row stk tpm Tm A bo er 3 (by decide) n hn) (by decide) (by decide) (by decide) ?_
          rintro r g ⟨rfl, rfl⟩
          refine ⟨_, rfl, jPr.of (me_sheetS8 R J d e kp nm Wm 3 (by decide) n hn) (by decide) ⟨_, rfl⟩ ?_⟩
          rintro r2 g2 ⟨rfl, rfl⟩
          exact ⟨rfl, jI.of (hF.err (by decide))⟩
        · by_cases hn2 : 40 < n
          · refine jPc.of (ke_sheetB8 im Im row stk tpm Tm A bo er 3 (by decide) n hn hn2) (by decide) (by decide) (by decide) ?_
            rintro r g ⟨rfl, rfl⟩
            refine ⟨_, rfl, jPr.of (me_sheetB8 R J d e kp nm Wm 3 (by decide) n hn hn2) (by decide) ⟨_, rfl⟩ ?_⟩
            rintro r2 g2 ⟨rfl, rfl⟩
            exact ⟨rfl, jI.of (hF.err (by decide))⟩
          · obtain ⟨m, hm, rfl⟩ := jn_nn hn hn2
            refine jPc.of (kx_sheet8_3 im Im row stk tpm Tm I3 n3 J3 W3 m hm) (by decide) (by decide) (by decide) ?_
            rintro r g ⟨rfl, I9, n9, e0, e1, en, rfl⟩
            refine ⟨_, rfl, jPr.of (mx_sheet8 R J d e kp nm Wm 3 (by decide) m hm) (by decide) ⟨_, rfl⟩ ?_⟩
            rintro r2 g2 ⟨rfl, W9, w0, w1, w2, w3, w4, rfl⟩
            exact ⟨rfl, jI.of (hF.sh (fun r hr => w0 r (by omega) (by omega) (by omega)) (g0.sh (by decide) w1 w2 w4) (g1.sh (by decide) w1 w2 w4) (g2.sh (by decide) w1 w2 w4) (jh1.nw (b := 8) (z := m) (by unfold jm_bt; omega) hm e0 e1 en w1 w2 w3))⟩
      · by_cases hn : n < 0
        · refine jPc.of (ke_sheetS16 im Im row stk tpm Tm A bo er 3 (by decide) n hn) (by decide) (by decide) (by decide) ?_
          rintro r g ⟨rfl, rfl⟩
          refine ⟨_, rfl, jPr.of (me_sheetS16 R J d e kp nm Wm 3 (by decide) n hn) (by decide) ⟨_, rfl⟩ ?_⟩
          rintro r2 g2 ⟨rfl, rfl⟩
          exact ⟨rfl, jI.of (hF.err (by decide))⟩
        · by_cases hn2 : 40 < n
          · refine jPc.of (ke_sheetB16 im Im row stk tpm Tm A bo er 3 (by decide) n hn hn2) (by decide) (by decide) (by decide) ?_
            rintro r g ⟨rfl, rfl⟩
            refine ⟨_, rfl, jPr.of (me_sheetB16 R J d e kp nm Wm 3 (by decide) n hn hn2) (by decide) ⟨_, rfl⟩ ?_⟩
            rintro r2 g2 ⟨rfl, rfl⟩
            exact ⟨rfl, jI.of (hF.err (by decide))⟩
          · obtain ⟨m, hm, rfl⟩ := jn_nn hn hn2
            refine jPc.of (kx_sheet16_3 im Im row stk tpm Tm I3 n3 J3 W3 m hm) (by decide) (by decide) (by decide) ?_
            rintro r g ⟨rfl, I9, n9, e0, e1, en, rfl⟩
            refine ⟨_, rfl, jPr.of (mx_sheet16 R J d e kp nm Wm 3 (by decide) m hm) (by decide) ⟨_, rfl⟩ ?_⟩
            rintro r2 g2 ⟨rfl, W9, w0, w1, w2, w3, w4, rfl⟩
            exact ⟨rfl, jI.of (hF.sh (fun r hr => w0 r (by omega) (by omega) (by omega)) (g0.sh (by decide) w1 w2 w4) (g1.sh (by decide) w1 w2 w4) (g2.sh (by decide) w1 w2 w4) (jh1.nw (b := 16) (z := m) (by unfold jm_bt; omega) hm e0 e1 en w1 w2 w3))⟩
      · by_cases hn : n < 0
        · refine jPc.of (ke_sheetS32 im Im row stk tpm Tm A bo er 3 (by decide) n hn) (by decide) (by decide) (by decide) ?_
          rintro r g ⟨rfl, rfl⟩
          refine ⟨_, rfl, jPr.of (me_sheetS32 R J d e kp nm Wm 3 (by decide) n hn) (by decide) ⟨_, rfl⟩ ?_⟩
          rintro r2 g2 ⟨rfl, rfl⟩
          exact ⟨rfl, jI.of (hF.err (by decide))⟩
        · by_cases hn2 : 40 < n
          · refine jPc.of (ke_sheetB32 im Im row stk tpm Tm A bo er 3 (by decide) n hn hn2) (by decide) (by decide) (by decide) ?_
            rintro r g ⟨rfl, rfl⟩
            refine ⟨_, rfl, jPr.of (me_sheetB32 R J d e kp nm Wm 3 (by decide) n hn hn2) (by decide) ⟨_, rfl⟩ ?_⟩
            rintro r2 g2 ⟨rfl, rfl⟩
            exact ⟨rfl, jI.of (hF.err (by decide))⟩
          · obtain ⟨m, hm, rfl⟩ := jn_nn hn hn2
            refine jPc.of (kx_sheet32_3 im Im row stk tpm Tm I3 n3 J3 W3 m hm) (by decide) (by decide) (by decide) ?_
            rintro r g ⟨rfl, I9, n9, e0, e1, en, rfl⟩
            refine ⟨_, rfl, jPr.of (mx_sheet32 R J d e kp nm Wm 3 (by decide) m hm) (by decide) ⟨_, rfl⟩ ?_⟩
            rintro r2 g2 ⟨rfl, W9, w0, w1, w2, w3, w4, rfl⟩
            exact ⟨rfl, jI.of (hF.sh (fun r hr => w0 r (by omega) (by omega) (by omega)) (g0.sh (by decide) w1 w2 w4) (g1.sh (by decide) w1 w2 w4) (g2.sh (by decide) w1 w2 w4) (jh1.nw (b := 32) (z := m) (by unfold jm_bt; omega) hm e0 e1 en w1 w2 w3))⟩
  · refine jPc.of (ke_sheet im Im row stk tpm Tm A bo er _ _ _ hb) (by decide) (by decide) (by decide) ?_
    rintro r g ⟨rfl, rfl⟩
    refine ⟨_, rfl, jPr.of (me_sheet R J d e kp nm Wm _ _ _ hb) (by decide) ⟨_, rfl⟩ ?_⟩
    rintro r2 g2 ⟨rfl, rfl⟩
    exact ⟨rfl, jI.of (hF.err (by decide))⟩
theorem p_put {sc : Nat × (Nat → Int32)} (s i v : Int32) : jP sc yX11_put cX11_put 5 yX12_put cX12_put 4 [.int s, .int i, .int v] := by
  intro c h hc hI
  obtain ⟨im, Im, Tm, row, stk, tpm, I, W, T, Ik, Wk, Tk, Ix, Wx, Tx, I0, n0, J0, W0, I1, n1, J1, W1, I2, n2, J2, W2, I3, n3, J3, W3, A, bo, er, R, J, d, e, kp, nm, Wm, s11, rfl, hF⟩ := hI
  obtain ⟨X, V, tp, wt, hS0⟩ := hF.1
  have hS := hS0
  obtain ⟨hr, hd, hk, h9, hz, h5, h8, htp, htt, hby, h6, h99, hwt, htw, hxc, hxd⟩ := hS
  have hF0 := hF
  obtain ⟨-, -, -, -, -, g0, g1, g2, g3, -⟩ := hF0
  by_cases hb : jn_b s 0 4
  · obtain ⟨s_, ls_, us_, rfl⟩ := hb
    match s_, us_ with
    | 0, _ =>
      have qs := g0
      obtain ⟨sb, sz, s0, sm0, sbt, s1, sm1, s40, sn⟩ := qs
      have s32 := sbt.le
      by_cases hm : sb = 0
      · refine jPc.of (ke_putN_0 im Im row stk tpm Tm I0 n0 J0 W0 A bo er s0 s1 s32 s40 hm _ _) (by decide) (by decide) (by decide) ?_
        rintro r g ⟨rfl, rfl⟩
        refine ⟨_, rfl, jPr.of (me_putN R J d e kp nm Wm 0 (by decide) sm0 sm1 s32 s40 hm _ _) (by decide) ⟨_, rfl⟩ ?_⟩
        rintro r2 g2 ⟨rfl, rfl⟩
        exact ⟨rfl, jI.of (hF.err (by decide))⟩
      · by_cases hb : jn_b i 0 sz
        · obtain ⟨i_, li_, ui_, rfl⟩ := hb
          refine jPc.of (kx_put_0 im Im row stk tpm Tm I0 n0 J0 W0 s0 s1 s32 s40 hm i_ ui_ v) (by decide) (by decide) (by decide) ?_
          rintro r g ⟨rfl, rfl⟩
          refine ⟨_, rfl, jPr.of (mx_put R J d e kp nm Wm 0 (by decide) sm0 sm1 s32 s40 hm i_ ui_ v) (by decide) ⟨_, rfl⟩ ?_⟩
          rintro r2 g2 ⟨rfl, rfl⟩
          exact ⟨rfl, jI.of (hF.sh (fun r hr => if_neg (by omega)) g0.pu (g1.pt (by decide) (by omega)) (g2.pt (by decide) (by omega)) (g3.pt (by decide) (by omega)))⟩
        · refine jPc.of (ke_putB_0 im Im row stk tpm Tm I0 n0 J0 W0 A bo er s0 s1 s32 s40 hm _ _ hb) (by decide) (by decide) (by decide) ?_
          rintro r g ⟨rfl, rfl⟩
          refine ⟨_, rfl, jPr.of (me_putB R J d e kp nm Wm 0 (by decide) sm0 sm1 s32 s40 hm _ _ hb) (by decide) ⟨_, rfl⟩ ?_⟩
          rintro r2 g2 ⟨rfl, rfl⟩
          exact ⟨rfl, jI.of (hF.err (by decide))⟩
    | 1, _ =>
      have qs := g1
      obtain ⟨sb, sz, s0, sm0, sbt, s1, sm1, s40, sn⟩ := qs
      have s32 := sbt.le
      by_cases hm : sb = 0
      · refine jPc.of (ke_putN_1 im Im row stk tpm Tm I1 n1 J1 W1 A bo er s0 s1 s32 s40 hm _ _) (by decide) (by decide) (by decide) ?_
        rintro r g ⟨rfl, rfl⟩
        refine ⟨_, rfl, jPr.of (me_putN R J d e kp nm Wm 1 (by decide) sm0 sm1 s32 s40 hm _ _) (by decide) ⟨_, rfl⟩ ?_⟩
        rintro r2 g2 ⟨rfl, rfl⟩
        exact ⟨rfl, jI.of (hF.err (by decide))⟩
      · by_cases hb : jn_b i 0 sz
        · obtain ⟨i_, li_, ui_, rfl⟩ := hb
          refine jPc.of (kx_put_1 im Im row stk tpm Tm I1 n1 J1 W1 s0 s1 s32 s40 hm i_ ui_ v) (by decide) (by decide) (by decide) ?_
          rintro r g ⟨rfl, rfl⟩
          refine ⟨_, rfl, jPr.of (mx_put R J d e kp nm Wm 1 (by decide) sm0 sm1 s32 s40 hm i_ ui_ v) (by decide) ⟨_, rfl⟩ ?_⟩
          rintro r2 g2 ⟨rfl, rfl⟩
          exact ⟨rfl, jI.of (hF.sh (fun r hr => if_neg (by omega)) (g0.pt (by decide) (by omega)) g1.pu (g2.pt (by decide) (by omega)) (g3.pt (by decide) (by omega)))⟩
        · refine jPc.of (ke_putB_1 im Im row stk tpm Tm I1 n1 J1 W1 A bo er s0 s1 s32 s40 hm _ _ hb) (by decide) (by decide) (by decide) ?_
          rintro r g ⟨rfl, rfl⟩
          refine ⟨_, rfl, jPr.of (me_putB R J d e kp nm Wm 1 (by decide) sm0 sm1 s32 s40 hm _ _ hb) (by decide) ⟨_, rfl⟩ ?_⟩
          rintro r2 g2 ⟨rfl, rfl⟩
          exact ⟨rfl, jI.of (hF.err (by decide))⟩
    | 2, _ =>
      have qs := g2
      obtain ⟨sb, sz, s0, sm0, sbt, s1, sm1, s40, sn⟩ := qs
      have s32 := sbt.le
      by_cases hm : sb = 0
      · refine jPc.of (ke_putN_2 im Im row stk tpm Tm I2 n2 J2 W2 A bo er s0 s1 s32 s40 hm _ _) (by decide) (by decide) (by decide) ?_
        rintro r g ⟨rfl, rfl⟩
        refine ⟨_, rfl, jPr.of (me_putN R J d e kp nm Wm 2 (by decide) sm0 sm1 s32 s40 hm _ _) (by decide) ⟨_, rfl⟩ ?_⟩
        rintro r2 g2 ⟨rfl, rfl⟩
        exact ⟨rfl, jI.of (hF.err (by decide))⟩
      · by_cases hb : jn_b i 0 sz
        · obtain ⟨i_, li_, ui_, rfl⟩ := hb
          refine jPc.of (kx_put_2 im Im row stk tpm Tm I2 n2 J2 W2 s0 s1 s32 s40 hm i_ ui_ v) (by decide) (by decide) (by decide) ?_
          rintro r g ⟨rfl, rfl⟩
          refine ⟨_, rfl, jPr.of (mx_put R J d e kp nm Wm 2 (by decide) sm0 sm1 s32 s40 hm i_ ui_ v) (by decide) ⟨_, rfl⟩ ?_⟩
          rintro r2 g2 ⟨rfl, rfl⟩
          exact ⟨rfl, jI.of (hF.sh (fun r hr => if_neg (by omega)) (g0.pt (by decide) (by omega)) (g1.pt (by decide) (by omega)) g2.pu (g3.pt (by decide) (by omega)))⟩
        · refine jPc.of (ke_putB_2 im Im row stk tpm Tm I2 n2 J2 W2 A bo er s0 s1 s32 s40 hm _ _ hb) (by decide) (by decide) (by decide) ?_
          rintro r g ⟨rfl, rfl⟩
          refine ⟨_, rfl, jPr.of (me_putB R J d e kp nm Wm 2 (by decide) sm0 sm1 s32 s40 hm _ _ hb) (by decide) ⟨_, rfl⟩ ?_⟩
          rintro r2 g2 ⟨rfl, rfl⟩
          exact ⟨rfl, jI.of (hF.err (by decide))⟩
    | 3, _ =>
      have qs := g3
      obtain ⟨sb, sz, s0, sm0, sbt, s1, sm1, s40, sn⟩ := qs
      have s32 := sbt.le
      by_cases hm : sb = 0
      · refine jPc.of (ke_putN_3 im Im row stk tpm Tm I3 n3 J3 W3 A bo er s0 s1 s32 s40 hm _ _) (by decide) (by decide) (by decide) ?_
        rintro r g ⟨rfl, rfl⟩
        refine ⟨_, rfl, jPr.of (me_putN R J d e kp nm Wm 3 (by decide) sm0 sm1 s32 s40 hm _ _) (by decide) ⟨_, rfl⟩ ?_⟩
        rintro r2 g2 ⟨rfl, rfl⟩
        exact ⟨rfl, jI.of (hF.err (by decide))⟩
      · by_cases hb : jn_b i 0 sz
        · obtain ⟨i_, li_, ui_, rfl⟩ := hb
          refine jPc.of (kx_put_3 im Im row stk tpm Tm I3 n3 J3 W3 s0 s1 s32 s40 hm i_ ui_ v) (by decide) (by decide) (by decide) ?_
          rintro r g ⟨rfl, rfl⟩
          refine ⟨_, rfl, jPr.of (mx_put R J d e kp nm Wm 3 (by decide) sm0 sm1 s32 s40 hm i_ ui_ v) (by decide) ⟨_, rfl⟩ ?_⟩
          rintro r2 g2 ⟨rfl, rfl⟩
          exact ⟨rfl, jI.of (hF.sh (fun r hr => if_neg (by omega)) (g0.pt (by decide) (by omega)) (g1.pt (by decide) (by omega)) (g2.pt (by decide) (by omega)) g3.pu)⟩
        · refine jPc.of (ke_putB_3 im Im row stk tpm Tm I3 n3 J3 W3 A bo er s0 s1 s32 s40 hm _ _ hb) (by decide) (by decide) (by decide) ?_
          rintro r g ⟨rfl, rfl⟩
          refine ⟨_, rfl, jPr.of (me_putB R J d e kp nm Wm 3 (by decide) sm0 sm1 s32 s40 hm _ _ hb) (by decide) ⟨_, rfl⟩ ?_⟩
          rintro r2 g2 ⟨rfl, rfl⟩
          exact ⟨rfl, jI.of (hF.err (by decide))⟩
  · refine jPc.of (ke_put im Im row stk tpm Tm A bo er _ _ _ hb) (by decide) (by decide) (by decide) ?_
    rintro r g ⟨rfl, rfl⟩
    refine ⟨_, rfl, jPr.of (me_put R J d e kp nm Wm _ _ _ hb) (by decide) ⟨_, rfl⟩ ?_⟩
    rintro r2 g2 ⟨rfl, rfl⟩
    exact ⟨rfl, jI.of (hF.err (by decide))⟩
theorem p_move {sc : Nat × (Nat → Int32)} (s i u j n : Int32) : jP sc yX11_move cX11_move 8 yX12_move cX12_move 7 [.int s, .int i, .int u, .int j, .int n] := by
  intro c h hc hI
  obtain ⟨im, Im, Tm, row, stk, tpm, I, W, T, Ik, Wk, Tk, Ix, Wx, Tx, I0, n0, J0, W0, I1, n1, J1, W1, I2, n2, J2, W2, I3, n3, J3, W3, A, bo, er, R, J, d, e, kp, nm, Wm, s11, rfl, hF⟩ := hI
  obtain ⟨X, V, tp, wt, hS0⟩ := hF.1
  have hS := hS0
  obtain ⟨hr, hd, hk, h9, hz, h5, h8, htp, htt, hby, h6, h99, hwt, htw, hxc, hxd⟩ := hS
  have hF0 := hF
  obtain ⟨-, -, -, -, -, g0, g1, g2, g3, -⟩ := hF0
  by_cases hb : jn_b s 0 4 ∧ jn_b u 0 4
  · obtain ⟨⟨s_, ls, us, rfl⟩, ⟨u_, lu, uu, rfl⟩⟩ := hb
    match s_, us with
    | 0, _ =>
      have qs := g0
      obtain ⟨sb, sz, s0, sm0, sbt, s1, sm1, s40, sn⟩ := qs
      have s32 := sbt.le
      match u_, uu with
      | 0, _ =>
        by_cases hm : sb = 0
        · refine jPc.of (ke_moveN1_0_0 im Im row stk tpm Tm I0 n0 J0 W0 s0 s1 s32 s40 A bo er hm _ _ _) (by decide) (by decide) (by decide) ?_
          rintro r g ⟨rfl, rfl⟩
          refine ⟨_, rfl, jPr.of (me_moveN1 R J d e kp nm Wm 0 (by decide) 0 (by decide) sm0 sm1 s32 s40 sm0 sm1 s32 s40 hm _ _ _) (by decide) ⟨_, rfl⟩ ?_⟩
          rintro r2 g2 ⟨rfl, rfl⟩
          exact ⟨rfl, jI.of (hF.err (by decide))⟩
        · by_cases ho : jm_ho i n sz ∧ jm_ho j n sz
          · obtain ⟨⟨a, k, rfl, rfl, h1⟩, ⟨c1, k1, rfl, hk1, h2⟩⟩ := ho
            have hkk : k = k1 := (nI_eq (by omega) (by omega)).mp hk1
            subst hkk
            refine jPc.of (kx_move_0_0 im Im row stk tpm Tm I0 n0 J0 W0 s0 s1 s32 s40 hm hm rfl a c1 k h1 h2) (by decide) (by decide) (by decide) ?_
            rintro r g ⟨rfl, rfl⟩
            refine ⟨_, rfl, jPr.of (mx_move R J d e kp nm Wm 0 0 (by decide) (by decide) sm0 sm1 s32 s40 sm0 sm1 s32 s40 hm hm rfl a c1 k h1 h2) (by decide) ⟨_, rfl⟩ ?_⟩
            rintro r2 g2 ⟨rfl, W9, w0, w1, w2, rfl⟩
            exact ⟨rfl, jI.of (hF.sh (fun r hr => w0 r (by omega) (by omega)) (g0.mv sn (by omega) w0 w1 w2) (g1.mo (by decide) (by omega) w0 w1) (g2.mo (by decide) (by omega) w0 w1) (g3.mo (by decide) (by omega) w0 w1))⟩
          · refine jPc.of (ke_moveB_0_0 im Im row stk tpm Tm I0 n0 J0 W0 s0 s1 s32 s40 A bo er _ _ _ hm hm rfl ho) (by decide) (by decide) (by decide) ?_
            rintro r g ⟨rfl, rfl⟩
            refine ⟨_, rfl, jPr.of (me_moveB R J d e kp nm Wm 0 (by decide) 0 (by decide) sm0 sm1 s32 s40 sm0 sm1 s32 s40 hm hm rfl _ _ _ ho) (by decide) ⟨_, rfl⟩ ?_⟩
            rintro r2 g2 ⟨rfl, rfl⟩
            exact ⟨rfl, jI.of (hF.err (by decide))⟩
      | 1, _ =>
        have qt := g1
        obtain ⟨tb, tz, t0, tm0, tbt, t1, tm1, t40, tn⟩ := qt
        have t32 := tbt.le
        by_cases hm : sb = 0
        · refine jPc.of (ke_moveN1_0_1 im Im row stk tpm Tm I0 n0 J0 W0 I1 n1 J1 W1 s0 s1 s32 s40 t0 t1 t32 t40 A bo er hm _ _ _) (by decide) (by decide) (by decide) ?_
          rintro r g ⟨rfl, rfl⟩
          refine ⟨_, rfl, jPr.of (me_moveN1 R J d e kp nm Wm 0 (by decide) 1 (by decide) sm0 sm1 s32 s40 tm0 tm1 t32 t40 hm _ _ _) (by decide) ⟨_, rfl⟩ ?_⟩
          rintro r2 g2 ⟨rfl, rfl⟩
          exact ⟨rfl, jI.of (hF.err (by decide))⟩
        · by_cases hm2 : tb = 0
          · refine jPc.of (ke_moveN2_0_1 im Im row stk tpm Tm I0 n0 J0 W0 I1 n1 J1 W1 s0 s1 s32 s40 t0 t1 t32 t40 A bo er hm hm2 _ _ _) (by decide) (by decide) (by decide) ?_
            rintro r g ⟨rfl, rfl⟩
            refine ⟨_, rfl, jPr.of (me_moveN2 R J d e kp nm Wm 0 (by decide) 1 (by decide) sm0 sm1 s32 s40 tm0 tm1 t32 t40 hm hm2 _ _ _) (by decide) ⟨_, rfl⟩ ?_⟩
            rintro r2 g2 ⟨rfl, rfl⟩
            exact ⟨rfl, jI.of (hF.err (by decide))⟩
          · by_cases hbb : sb = tb
            · by_cases ho : jm_ho i n sz ∧ jm_ho j n tz
              · obtain ⟨⟨a, k, rfl, rfl, h1⟩, ⟨c1, k1, rfl, hk1, h2⟩⟩ := ho
                have hkk : k = k1 := (nI_eq (by omega) (by omega)).mp hk1
                subst hkk
                refine jPc.of (kx_move_0_1 im Im row stk tpm Tm I0 n0 J0 W0 I1 n1 J1 W1 s0 s1 s32 s40 t0 t1 t32 t40 hm hm2 hbb a c1 k h1 h2) (by decide) (by decide) (by decide) ?_
                rintro r g ⟨rfl, rfl⟩
                refine ⟨_, rfl, jPr.of (mx_move R J d e kp nm Wm 0 1 (by decide) (by decide) sm0 sm1 s32 s40 tm0 tm1 t32 t40 hm hm2 hbb a c1 k h1 h2) (by decide) ⟨_, rfl⟩ ?_⟩
                rintro r2 g2 ⟨rfl, W9, w0, w1, w2, rfl⟩
                exact ⟨rfl, jI.of (hF.sh (fun r hr => w0 r (by omega) (by omega)) (g0.mo (by decide) (by omega) w0 w1) (g1.mv sn (by omega) w0 w1 w2) (g2.mo (by decide) (by omega) w0 w1) (g3.mo (by decide) (by omega) w0 w1))⟩
              · refine jPc.of (ke_moveB_0_1 im Im row stk tpm Tm I0 n0 J0 W0 I1 n1 J1 W1 s0 s1 s32 s40 t0 t1 t32 t40 A bo er _ _ _ hm hm2 hbb ho) (by decide) (by decide) (by decide) ?_
                rintro r g ⟨rfl, rfl⟩
                refine ⟨_, rfl, jPr.of (me_moveB R J d e kp nm Wm 0 (by decide) 1 (by decide) sm0 sm1 s32 s40 tm0 tm1 t32 t40 hm hm2 hbb _ _ _ ho) (by decide) ⟨_, rfl⟩ ?_⟩
                rintro r2 g2 ⟨rfl, rfl⟩
                exact ⟨rfl, jI.of (hF.err (by decide))⟩
            · refine jPc.of (ke_moveK_0_1 im Im row stk tpm Tm I0 n0 J0 W0 I1 n1 J1 W1 s0 s1 s32 s40 t0 t1 t32 t40 A bo er hm hm2 hbb _ _ _) (by decide) (by decide) (by decide) ?_
              rintro r g ⟨rfl, rfl⟩
              refine ⟨_, rfl, jPr.of (me_moveK R J d e kp nm Wm 0 (by decide) 1 (by decide) sm0 sm1 s32 s40 tm0 tm1 t32 t40 hm hm2 hbb _ _ _) (by decide) ⟨_, rfl⟩ ?_⟩
              rintro r2 g2 ⟨rfl, rfl⟩
              exact ⟨rfl, jI.of (hF.err (by decide))⟩
      | 2, _ =>
        have qt := g2
        obtain ⟨tb, tz, t0, tm0, tbt, t1, tm1, t40, tn⟩ := qt
        have t32 := tbt.le
        by_cases hm : sb = 0
        · refine jPc.of (ke_moveN1_0_2 im Im row stk tpm Tm I0 n0 J0 W0 I2 n2 J2 W2 s0 s1 s32 s40 t0 t1 t32 t40 A bo er hm _ _ _) (by decide) (by decide) (by decide) ?_
          rintro r g ⟨rfl, rfl⟩
          refine ⟨_, rfl, jPr.of (me_moveN1 R J d e kp nm Wm 0 (by decide) 2 (by decide) sm0 sm1 s32 s40 tm0 tm1 t32 t40 hm _ _ _) (by decide) ⟨_, rfl⟩ ?_⟩
          rintro r2 g2 ⟨rfl, rfl⟩
          exact ⟨rfl, jI.of (hF.err (by decide))⟩
        · by_cases hm2 : tb = 0
          · refine jPc.of (ke_moveN2_0_2 im Im row stk tpm Tm I0 n0 J0 W0 I2 n2 J2 W2 s0 s1 s32 s40 t0 t1 t32 t40 A bo er hm hm2 _ _ _) (by decide) (by decide) (by decide) ?_
            rintro r g ⟨rfl, rfl⟩
            refine ⟨_, rfl, jPr.of (me_moveN2 R J d e kp nm Wm 0 (by decide) 2 (by decide) sm0 sm1 s32 s40 tm0 tm1 t32 t40 hm hm2 _ _ _) (by decide) ⟨_, rfl⟩ ?_⟩
            rintro r2 g2 ⟨rfl, rfl⟩
            exact ⟨rfl, jI.of (hF.err (by decide))⟩
          · by_cases hbb : sb = tb
            · by_cases ho : jm_ho i n sz ∧ jm_ho j n tz
              · obtain ⟨⟨a, k, rfl, rfl, h1⟩, ⟨c1, k1, rfl, hk1, h2⟩⟩ := ho
                have hkk : k = k1 := (nI_eq (by omega) (by omega)).mp hk1
                subst hkk
                refine jPc.of (kx_move_0_2 im Im row stk tpm Tm I0 n0 J0 W0 I2 n2 J2 W2 s0 s1 s32 s40 t0 t1 t32 t40 hm hm2 hbb a c1 k h1 h2) (by decide) (by decide) (by decide) ?_
                rintro r g ⟨rfl, rfl⟩
                refine ⟨_, rfl, jPr.of (mx_move R J d e kp nm Wm 0 2 (by decide) (by decide) sm0 sm1 s32 s40 tm0 tm1 t32 t40 hm hm2 hbb a c1 k h1 h2) (by decide) ⟨_, rfl⟩ ?_⟩
                rintro r2 g2 ⟨rfl, W9, w0, w1, w2, rfl⟩
                exact ⟨rfl, jI.of (hF.sh (fun r hr => w0 r (by omega) (by omega)) (g0.mo (by decide) (by omega) w0 w1) (g1.mo (by decide) (by omega) w0 w1) (g2.mv sn (by omega) w0 w1 w2) (g3.mo (by decide) (by omega) w0 w1))⟩
              · refine jPc.of (ke_moveB_0_2 im Im row stk tpm Tm I0 n0 J0 W0 I2 n2 J2 W2 s0 s1 s32 s40 t0 t1 t32 t40 A bo er _ _ _ hm hm2 hbb ho) (by decide) (by decide) (by decide) ?_
                rintro r g ⟨rfl, rfl⟩
                refine ⟨_, rfl, jPr.of (me_moveB R J d e kp nm Wm 0 (by decide) 2 (by decide) sm0 sm1 s32 s40 tm0 tm1 t32 t40 hm hm2 hbb _ _ _ ho) (by decide) ⟨_, rfl⟩ ?_⟩
                rintro r2 g2 ⟨rfl, rfl⟩
                exact ⟨rfl, jI.of (hF.err (by decide))⟩
            · refine jPc.of (ke_moveK_0_2 im Im row stk tpm Tm I0 n0 J0 W0 I2 n2 J2 W2 s0 s1 s32 s40 t0 t1 t32 t40 A bo er hm hm2 hbb _ _ _) (by decide) (by decide) (by decide) ?_
              rintro r g ⟨rfl, rfl⟩
              refine ⟨_, rfl, jPr.of (me_moveK R J d e kp nm Wm 0 (by decide) 2 (by decide) sm0 sm1 s32 s40 tm0 tm1 t32 t40 hm hm2 hbb _ _ _) (by decide) ⟨_, rfl⟩ ?_⟩
              rintro r2 g2 ⟨rfl, rfl⟩
              exact ⟨rfl, jI.of (hF.err (by decide))⟩
      | 3, _ =>
        have qt := g3
        obtain ⟨tb, tz, t0, tm0, tbt, t1, tm1, t40, tn⟩ := qt
        have t32 := tbt.le
        by_cases hm : sb = 0
        · refine jPc.of (ke_moveN1_0_3 im Im row stk tpm Tm I0 n0 J0 W0 I3 n3 J3 W3 s0 s1 s32 s40 t0 t1 t32 t40 A bo er hm _ _ _) (by decide) (by decide) (by decide) ?_
          rintro r g ⟨rfl, rfl⟩
          refine ⟨_, rfl, jPr.of (me_moveN1 R J d e kp nm Wm 0 (by decide) 3 (by decide) sm0 sm1 s32 s40 tm0 tm1 t32 t40 hm _ _ _) (by decide) ⟨_, rfl⟩ ?_⟩
          rintro r2 g2 ⟨rfl, rfl⟩
          exact ⟨rfl, jI.of (hF.err (by decide))⟩
        · by_cases hm2 : tb = 0
          · refine jPc.of (ke_moveN2_0_3 im Im row stk tpm Tm I0 n0 J0 W0 I3 n3 J3 W3 s0 s1 s32 s40 t0 t1 t32 t40 A bo er hm hm2 _ _ _) (by decide) (by decide) (by decide) ?_
            rintro r g ⟨rfl, rfl⟩
            refine ⟨_, rfl, jPr.of (me_moveN2 R J d e kp nm Wm 0 (by decide) 3 (by decide) sm0 sm1 s32 s40 tm0 tm1 t32 t40 hm hm2 _ _ _) (by decide) ⟨_, rfl⟩ ?_⟩
            rintro r2 g2 ⟨rfl, rfl⟩
            exact ⟨rfl, jI.of (hF.err (by decide))⟩
          · by_cases hbb : sb = tb
            · by_cases ho : jm_ho i n sz ∧ jm_ho j n tz
              · obtain ⟨⟨a, k, rfl, rfl, h1⟩, ⟨c1, k1, rfl, hk1, h2⟩⟩ := ho
                have hkk : k = k1 := (nI_eq (by omega) (by omega)).mp hk1
                subst hkk
                refine jPc.of (kx_move_0_3 im Im row stk tpm Tm I0 n0 J0 W0 I3 n3 J3 W3 s0 s1 s32 s40 t0 t1 t32 t40 hm hm2 hbb a c1 k h1 h2) (by decide) (by decide) (by decide) ?_
                rintro r g ⟨rfl, rfl⟩
                refine ⟨_, rfl, jPr.of (mx_move R J d e kp nm Wm 0 3 (by decide) (by decide) sm0 sm1 s32 s40 tm0 tm1 t32 t40 hm hm2 hbb a c1 k h1 h2) (by decide) ⟨_, rfl⟩ ?_⟩
                rintro r2 g2 ⟨rfl, W9, w0, w1, w2, rfl⟩
                exact ⟨rfl, jI.of (hF.sh (fun r hr => w0 r (by omega) (by omega)) (g0.mo (by decide) (by omega) w0 w1) (g1.mo (by decide) (by omega) w0 w1) (g2.mo (by decide) (by omega) w0 w1) (g3.mv sn (by omega) w0 w1 w2))⟩
              · refine jPc.of (ke_moveB_0_3 im Im row stk tpm Tm I0 n0 J0 W0 I3 n3 J3 W3 s0 s1 s32 s40 t0 t1 t32 t40 A bo er _ _ _ hm hm2 hbb ho) (by decide) (by decide) (by decide) ?_
                rintro r g ⟨rfl, rfl⟩
                refine ⟨_, rfl, jPr.of (me_moveB R J d e kp nm Wm 0 (by decide) 3 (by decide) sm0 sm1 s32 s40 tm0 tm1 t32 t40 hm hm2 hbb _ _ _ ho) (by decide) ⟨_, rfl⟩ ?_⟩
                rintro r2 g2 ⟨rfl, rfl⟩
                exact ⟨rfl, jI.of (hF.err (by decide))⟩
            · refine jPc.of (ke_moveK_0_3 im Im row stk tpm Tm I0 n0 J0 W0 I3 n3 J3 W3 s0 s1 s32 s40 t0 t1 t32 t40 A bo er hm hm2 hbb _ _ _) (by decide) (by decide) (by decide) ?_
              rintro r g ⟨rfl, rfl⟩
              refine ⟨_, rfl, jPr.of (me_moveK R J d e kp nm Wm 0 (by decide) 3 (by decide) sm0 sm1 s32 s40 tm0 tm1 t32 t40 hm hm2 hbb _ _ _) (by decide) ⟨_, rfl⟩ ?_⟩
              rintro r2 g2 ⟨rfl, rfl⟩
              exact ⟨rfl, jI.of (hF.err (by decide))⟩
    | 1, _ =>
      have qs := g1
      obtain ⟨sb, sz, s0, sm0, sbt, s1, sm1, s40, sn⟩ := qs
      have s32 := sbt.le
      match u_, uu with
      | 0, _ =>
        have qt := g0
        obtain ⟨tb, tz, t0, tm0, tbt, t1, tm1, t40, tn⟩ := qt
        have t32 := tbt.le
        by_cases hm : sb = 0
        · refine jPc.of (ke_moveN1_1_0 im Im row stk tpm Tm I1 n1 J1 W1 I0 n0 J0 W0 s0 s1 s32 s40 t0 t1 t32 t40 A bo er hm _ _ _) (by decide) (by decide) (by decide) ?_
          rintro r g ⟨rfl, rfl⟩
          refine ⟨_, rfl, jPr.of (me_moveN1 R J d e kp nm Wm 1 (by decide) 0 (by decide) sm0 sm1 s32 s40 tm0 tm1 t32 t40 hm _ _ _) (by decide) ⟨_, rfl⟩ ?_⟩
          rintro r2 g2 ⟨rfl, rfl⟩
          exact ⟨rfl, jI.of (hF.err (by decide))⟩
        · by_cases hm2 : tb = 0
          · refine jPc.of (ke_moveN2_1_0 im Im row stk tpm Tm I1 n1 J1 W1 I0 n0 J0 W0 s0 s1 s32 s40 t0 t1 t32 t40 A bo er hm hm2 _ _ _) (by decide) (by decide) (by decide) ?_
            rintro r g ⟨rfl, rfl⟩
            refine ⟨_, rfl, jPr.of (me_moveN2 R J d e kp nm Wm 1 (by decide) 0 (by decide) sm0 sm1 s32 s40 tm0 tm1 t32 t40 hm hm2 _ _ _) (by decide) ⟨_, rfl⟩ ?_⟩
            rintro r2 g2 ⟨rfl, rfl⟩
            exact ⟨rfl, jI.of (hF.err (by decide))⟩
          · by_cases hbb : sb = tb
            · by_cases ho : jm_ho i n sz ∧ jm_ho j n tz
              · obtain ⟨⟨a, k, rfl, rfl, h1⟩, ⟨c1, k1, rfl, hk1, h2⟩⟩ := ho
                have hkk : k = k1 := (nI_eq (by omega) (by omega)).mp hk1
                subst hkk
                refine jPc.of (kx_move_1_0 im Im row stk tpm Tm I1 n1 J1 W1 I0 n0 J0 W0 s0 s1 s32 s40 t0 t1 t32 t40 hm hm2 hbb a c1 k h1 h2) (by decide) (by decide) (by decide) ?_
                rintro r g ⟨rfl, rfl⟩
                refine ⟨_, rfl, jPr.of (mx_move R J d e kp nm Wm 1 0 (by decide) (by decide) sm0 sm1 s32 s40 tm0 tm1 t32 t40 hm hm2 hbb a c1 k h1 h2) (by decide) ⟨_, rfl⟩ ?_⟩
                rintro r2 g2 ⟨rfl, W9, w0, w1, w2, rfl⟩
                exact ⟨rfl, jI.of (hF.sh (fun r hr => w0 r (by omega) (by omega)) (g0.mv sn (by omega) w0 w1 w2) (g1.mo (by decide) (by omega) w0 w1) (g2.mo (by decide) (by omega) w0 w1) (g3.mo (by decide) (by omega) w0 w1))⟩
              · refine jPc.of (ke_moveB_1_0 im Im row stk tpm Tm I1 n1 J1 W1 I0 n0 J0 W0 s0 s1 s32 s40 t0 t1 t32 t40 A bo er _ _ _ hm hm2 hbb ho) (by decide) (by decide) (by decide) ?_
                rintro r g ⟨rfl, rfl⟩
                refine ⟨_, rfl, jPr.of (me_moveB R J d e kp nm Wm 1 (by decide) 0 (by decide) sm0 sm1 s32 s40 tm0 tm1 t32 t40 hm hm2 hbb _ _ _ ho) (by decide) ⟨_, rfl⟩ ?_⟩
                rintro r2 g2 ⟨rfl, rfl⟩
                exact ⟨rfl, jI.of (hF.err (by decide))⟩
            · refine jPc.of (ke_moveK_1_0 im Im row stk tpm Tm I1 n1 J1 W1 I0 n0 J0 W0 s0 s1 s32 s40 t0 t1 t32 t40 A bo er hm hm2 hbb _ _ _) (by decide) (by decide) (by decide) ?_
              rintro r g ⟨rfl, rfl⟩
              refine ⟨_, rfl, jPr.of (me_moveK R J d e kp nm Wm 1 (by decide) 0 (by decide) sm0 sm1 s32 s40 tm0 tm1 t32 t40 hm hm2 hbb _ _ _) (by decide) ⟨_, rfl⟩ ?_⟩
              rintro r2 g2 ⟨rfl, rfl⟩
              exact ⟨rfl, jI.of (hF.err (by decide))⟩
      | 1, _ =>
        by_cases hm : sb = 0
        · refine jPc.of (ke_moveN1_1_1 im Im row stk tpm Tm I1 n1 J1 W1 s0 s1 s32 s40 A bo er hm _ _ _) (by decide) (by decide) (by decide) ?_
          rintro r g ⟨rfl, rfl⟩
          refine ⟨_, rfl, jPr.of (me_moveN1 R J d e kp nm Wm 1 (by decide) 1 (by decide) sm0 sm1 s32 s40 sm0 sm1 s32 s40 hm _ _ _) (by decide) ⟨_, rfl⟩ ?_⟩
          rintro r2 g2 ⟨rfl, rfl⟩
          exact ⟨rfl, jI.of (hF.err (by decide))⟩
        · by_cases ho : jm_ho i n sz ∧ jm_ho j n sz
          · obtain ⟨⟨a, k, rfl, rfl, h1⟩, ⟨c1, k1, rfl, hk1, h2⟩⟩ := ho
            have hkk : k = k1 := (nI_eq (by omega) (by omega)).mp hk1
            subst hkk
            refine jPc.of (kx_move_1_1 im Im row stk tpm Tm I1 n1 J1 W1 s0 s1 s32 s40 hm hm rfl a c1 k h1 h2) (by decide) (by decide) (by decide) ?_
            rintro r g ⟨rfl, rfl⟩
            refine ⟨_, rfl, jPr.of (mx_move R J d e kp nm Wm 1 1 (by decide) (by decide) sm0 sm1 s32 s40 sm0 sm1 s32 s40 hm hm rfl a c1 k h1 h2) (by decide) ⟨_, rfl⟩ ?_⟩
            rintro r2 g2 ⟨rfl, W9, w0, w1, w2, rfl⟩
            exact ⟨rfl, jI.of (hF.sh (fun r hr => w0 r (by omega) (by omega)) (g0.mo (by decide) (by omega) w0 w1) (g1.mv sn (by omega) w0 w1 w2) (g2.mo (by decide) (by omega) w0 w1) (g3.mo (by decide) (by omega) w0 w1))⟩
          · refine jPc.of (ke_moveB_1_1 im Im row stk tpm Tm I1 n1 J1 W1 s0 s1 s32 s40 A bo er _ _ _ hm hm rfl ho) (by decide) (by decide) (by decide) ?_
            rintro r g ⟨rfl, rfl⟩
            refine ⟨_, rfl, jPr.of (me_moveB R J d e kp nm Wm 1 (by decide) 1 (by decide) sm0 sm1 s32 s40 sm0 sm1 s32 s40 hm hm rfl _ _ _ ho) (by decide) ⟨_, rfl⟩ ?_⟩
            rintro r2 g2 ⟨rfl, rfl⟩
            exact ⟨rfl, jI.of (hF.err (by decide))⟩
      | 2, _ =>
        have qt := g2
        obtain ⟨tb, tz, t0, tm0, tbt, t1, tm1, t40, tn⟩ := qt
        have t32 := tbt.le
        by_cases hm : sb = 0
        · refine jPc.of (ke_moveN1_1_2 im Im row stk tpm Tm I1 n1 J1 W1 I2 n2 J2 W2 s0 s1 s32 s40 t0 t1 t32 t40 A bo er hm _ _ _) (by decide) (by decide) (by decide) ?_
          rintro r g ⟨rfl, rfl⟩
          refine ⟨_, rfl, jPr.of (me_moveN1 R J d e kp nm Wm 1 (by decide) 2 (by decide) sm0 sm1 s32 s40 tm0 tm1 t32 t40 hm _ _ _) (by decide) ⟨_, rfl⟩ ?_⟩
          rintro r2 g2 ⟨rfl, rfl⟩
          exact ⟨rfl, jI.of (hF.err (by decide))⟩
        · by_cases hm2 : tb = 0
          · refine jPc.of (ke_moveN2_1_2 im Im row stk tpm Tm I1 n1 J1 W1 I2 n2 J2 W2 s0 s1 s32 s40 t0 t1 t32 t40 A bo er hm hm2 _ _ _) (by decide) (by decide) (by decide) ?_
            rintro r g ⟨rfl, rfl⟩
            refine ⟨_, rfl, jPr.of (me_moveN2 R J d e kp nm Wm 1 (by decide) 2 (by decide) sm0 sm1 s32 s40 tm0 tm1 t32 t40 hm hm2 _ _ _) (by decide) ⟨_, rfl⟩ ?_⟩
            rintro r2 g2 ⟨rfl, rfl⟩
            exact ⟨rfl, jI.of (hF.err (by decide))⟩
          · by_cases hbb : sb = tb
            · by_cases ho : jm_ho i n sz ∧ jm_ho j n tz
              · obtain ⟨⟨a, k, rfl, rfl, h1⟩, ⟨c1, k1, rfl, hk1, h2⟩⟩ := ho
                have hkk : k = k1 := (nI_eq (by omega) (by omega)).mp hk1
                subst hkk
                refine jPc.of (kx_move_1_2 im Im row stk tpm Tm I1 n1 J1 W1 I2 n2 J2 W2 s0 s1 s32 s40 t0 t1 t32 t40 hm hm2 hbb a c1 k h1 h2) (by decide) (by decide) (by decide) ?_
                rintro r g ⟨rfl, rfl⟩
                refine ⟨_, rfl, jPr.of (mx_move R J d e kp nm Wm 1 2 (by decide) (by decide) sm0 sm1 s32 s40 tm0 tm1 t32 t40 hm hm2 hbb a c1 k h1 h2) (by decide) ⟨_, rfl⟩ ?_⟩
                rintro r2 g2 ⟨rfl, W9, w0, w1, w2, rfl⟩
                exact ⟨rfl, jI.of (hF.sh (fun r hr => w0 r (by omega) (by omega)) (g0.mo (by decide) (by omega) w0 w1) (g1.mo (by decide) (by omega) w0 w1) (g2.mv sn (by omega) w0 w1 w2) (g3.mo (by decide) (by omega) w0 w1))⟩
              · refine jPc.of (ke_moveB_1_2 im Im row stk tpm Tm I1 n1 J1 W1 I2 n2 J2 W2 s0 s1 s32 s40 t0 t1 t32 t40 A bo er _ _ _ hm hm2 hbb ho) (by decide) (by decide) (by decide) ?_
                rintro r g ⟨rfl, rfl⟩
                refine ⟨_, rfl, jPr.of (me_moveB R J d e kp nm Wm 1 (by decide) 2 (by decide) sm0 sm1 s32 s40 tm0 tm1 t32 t40 hm hm2 hbb _ _ _ ho) (by decide) ⟨_, rfl⟩ ?_⟩
                rintro r2 g2 ⟨rfl, rfl⟩
                exact ⟨rfl, jI.of (hF.err (by decide))⟩
            · refine jPc.of (ke_moveK_1_2 im Im row stk tpm Tm I1 n1 J1 W1 I2 n2 J2 W2 s0 s1 s32 s40 t0 t1 t32 t40 A bo er hm hm2 hbb _ _ _) (by decide) (by decide) (by decide) ?_
              rintro r g ⟨rfl, rfl⟩
              refine ⟨_, rfl, jPr.of (me_moveK R J d e kp nm Wm 1 (by decide) 2 (by decide) sm0 sm1 s32 s40 tm0 tm1 t32 t40 hm hm2 hbb _ _ _) (by decide) ⟨_, rfl⟩ ?_⟩
              rintro r2 g2 ⟨rfl, rfl⟩
              exact ⟨rfl, jI.of (hF.err (by decide))⟩
      | 3, _ =>
        have qt := g3
        obtain ⟨tb, tz, t0, tm0, tbt, t1, tm1, t40, tn⟩ := qt
        have t32 := tbt.le
        by_cases hm : sb = 0
        · refine jPc.of (ke_moveN1_1_3 im Im row stk tpm Tm I1 n1 J1 W1 I3 n3 J3 W3 s0 s1 s32 s40 t0 t1 t32 t40 A bo er hm _ _ _) (by decide) (by decide) (by decide) ?_
          rintro r g ⟨rfl, rfl⟩
          refine ⟨_, rfl, jPr.of (me_moveN1 R J d e kp nm Wm 1 (by decide) 3 (by decide) sm0 sm1 s32 s40 tm0 tm1 t32 t40 hm _ _ _) (by decide) ⟨_, rfl⟩ ?_⟩
          rintro r2 g2 ⟨rfl, rfl⟩
          exact ⟨rfl, jI.of (hF.err (by decide))⟩
        · by_cases hm2 : tb = 0
          · refine jPc.of (ke_moveN2_1_3 im Im row stk tpm Tm I1 n1 J1 W1 I3 n3 J3 W3 s0 s1 s32 s40 t0 t1 t32 t40 A bo er hm hm2 _ _ _) (by decide) (by decide) (by decide) ?_
            rintro r g ⟨rfl, rfl⟩
            refine ⟨_, rfl, jPr.of (me_moveN2 R J d e kp nm Wm 1 (by decide) 3 (by decide) sm0 sm1 s32 s40 tm0 tm1 t32 t40 hm hm2 _ _ _) (by decide) ⟨_, rfl⟩ ?_⟩
            rintro r2 g2 ⟨rfl, rfl⟩
            exact ⟨rfl, jI.of (hF.err (by decide))⟩
          · by_cases hbb : sb = tb
            · by_cases ho : jm_ho i n sz ∧ jm_ho j n tz
              · obtain ⟨⟨a, k, rfl, rfl, h1⟩, ⟨c1, k1, rfl, hk1, h2⟩⟩ := ho
                have hkk : k = k1 := (nI_eq (by omega) (by omega)).mp hk1
                subst hkk
                refine jPc.of (kx_move_1_3 im Im row stk tpm Tm I1 n1 J1 W1 I3 n3 J3 W3 s0 s1 s32 s40 t0 t1 t32 t40 hm hm2 hbb a c1 k h1 h2) (by decide) (by decide) (by decide) ?_
                rintro r g ⟨rfl, rfl⟩
                refine ⟨_, rfl, jPr.of (mx_move R J d e kp nm Wm 1 3 (by decide) (by decide) sm0 sm1 s32 s40 tm0 tm1 t32 t40 hm hm2 hbb a c1 k h1 h2) (by decide) ⟨_, rfl⟩ ?_⟩
                rintro r2 g2 ⟨rfl, W9, w0, w1, w2, rfl⟩
                exact ⟨rfl, jI.of (hF.sh (fun r hr => w0 r (by omega) (by omega)) (g0.mo (by decide) (by omega) w0 w1) (g1.mo (by decide) (by omega) w0 w1) (g2.mo (by decide) (by omega) w0 w1) (g3.mv sn (by omega) w0 w1 w2))⟩
              · refine jPc.of (ke_moveB_1_3 im Im row stk tpm Tm I1 n1 J1 W1 I3 n3 J3 W3 s0 s1 s32 s40 t0 t1 t32 t40 A bo er _ _ _ hm hm2 hbb ho) (by decide) (by decide) (by decide) ?_
                rintro r g ⟨rfl, rfl⟩
                refine ⟨_, rfl, jPr.of (me_moveB R J d e kp nm Wm 1 (by decide) 3 (by decide) sm0 sm1 s32 s40 tm0 tm1 t32 t40 hm hm2 hbb _ _ _ ho) (by decide) ⟨_, rfl⟩ ?_⟩
                rintro r2 g2 ⟨rfl, rfl⟩
                exact ⟨rfl, jI.of (hF.err (by decide))⟩
            · refine jPc.of (ke_moveK_1_3 im Im row stk tpm Tm I1 n1 J1 W1 I3 n3 J3 W3 s0 s1 s32 s40 t0 t1 t32 t40 A bo er hm hm2 hbb _ _ _) (by decide) (by decide) (by decide) ?_
              rintro r g ⟨rfl, rfl⟩
              refine ⟨_, rfl, jPr.of (me_moveK R J d e kp nm Wm 1 (by decide) 3 (by decide) sm0 sm1 s32 s40 tm0 tm1 t32 t40 hm hm2 hbb _ _ _) (by decide) ⟨_, rfl⟩ ?_⟩
              rintro r2 g2 ⟨rfl, rfl⟩
              exact ⟨rfl, jI.of (hF.err (by decide))⟩
    | 2, _ =>
      have qs := g2
      obtain ⟨sb, sz, s0, sm0, sbt, s1, sm1, s40, sn⟩ := qs
      have s32 := sbt.le
      match u_, uu with
      | 0, _ =>
        have qt := g0
        obtain ⟨tb, tz, t0, tm0, tbt, t1, tm1, t40, tn⟩ := qt
        have t32 := tbt.le
        by_cases hm : sb = 0
        · refine jPc.of (ke_moveN1_2_0 im Im row stk tpm Tm I2 n2 J2 W2 I0 n0 J0 W0 s0 s1 s32 s40 t0 t1 t32 t40 A bo er hm _ _ _) (by decide) (by decide) (by decide) ?_
          rintro r g ⟨rfl, rfl⟩
          refine ⟨_, rfl, jPr.of (me_moveN1 R J d e kp nm Wm 2 (by decide) 0 (by decide) sm0 sm1 s32 s40 tm0 tm1 t32 t40 hm _ _ _) (by decide) ⟨_, rfl⟩ ?_⟩
          rintro r2 g2 ⟨rfl, rfl⟩
          exact ⟨rfl, jI.of (hF.err (by decide))⟩
        · by_cases hm2 : tb = 0
          · refine jPc.of (ke_moveN2_2_0 im Im row stk tpm Tm I2 n2 J2 W2 I0 n0 J0 W0 s0 s1 s32 s40 t0 t1 t32 t40 A bo er hm hm2 _ _ _) (by decide) (by decide) (by decide) ?_
            rintro r g ⟨rfl, rfl⟩
            refine ⟨_, rfl, jPr.of (me_moveN2 R J d e kp nm Wm 2 (by decide) 0 (by decide) sm0 sm1 s32 s40 tm0 tm1 t32 t40 hm hm2 _ _ _) (by decide) ⟨_, rfl⟩ ?_⟩
            rintro r2 g2 ⟨rfl, rfl⟩
            exact ⟨rfl, jI.of (hF.err (by decide))⟩
          · by_cases hbb : sb = tb
            · by_cases ho : jm_ho i n sz ∧ jm_ho j n tz
              · obtain ⟨⟨a, k, rfl, rfl, h1⟩, ⟨c1, k1, rfl, hk1, h2⟩⟩ := ho
                have hkk : k = k1 := (nI_eq (by omega) (by omega)).mp hk1
                subst hkk
                refine jPc.of (kx_move_2_0 im Im row stk tpm Tm I2 n2 J2 W2 I0 n0 J0 W0 s0 s1 s32 s40 t0 t1 t32 t40 hm hm2 hbb a c1 k h1 h2) (by decide) (by decide) (by decide) ?_
                rintro r g ⟨rfl, rfl⟩
                refine ⟨_, rfl, jPr.of (mx_move R J d e kp nm Wm 2 0 (by decide) (by decide) sm0 sm1 s32 s40 tm0 tm1 t32 t40 hm hm2 hbb a c1 k h1 h2) (by decide) ⟨_, rfl⟩ ?_⟩
                rintro r2 g2 ⟨rfl, W9, w0, w1, w2, rfl⟩
                exact ⟨rfl, jI.of (hF.sh (fun r hr => w0 r (by omega) (by omega)) (g0.mv sn (by omega) w0 w1 w2) (g1.mo (by decide) (by omega) w0 w1) (g2.mo (by decide) (by omega) w0 w1) (g3.mo (by decide) (by omega) w0 w1))⟩
              · refine jPc.of (ke_moveB_2_0 im Im row stk tpm Tm I2 n2 J2 W2 I0 n0 J0 W0 s0 s1 s32 s40 t0 t1 t32 t40 A bo er _ _ _ hm hm2 hbb ho) (by decide) (by decide) (by decide) ?_
                rintro r g ⟨rfl, rfl⟩
                refine ⟨_, rfl, jPr.of (me_moveB R J d e kp nm Wm 2 (by decide) 0 (by decide) sm0 sm1 s32 s40 tm0 tm1 t32 t40 hm hm2 hbb _ _ _ ho) (by decide) ⟨_, rfl⟩ ?_⟩
                rintro r2 g2 ⟨rfl, rfl⟩
                exact ⟨rfl, jI.of (hF.err (by decide))⟩
            · refine jPc.of (ke_moveK_2_0 im Im row stk tpm Tm I2 n2 J2 W2 I0 n0 J0 W0 s0 s1 s32 s40 t0 t1 t32 t40 A bo er hm hm2 hbb _ _ _) (by decide) (by decide) (by decide) ?_
              rintro r g ⟨rfl, rfl⟩
              refine ⟨_, rfl, jPr.of (me_moveK R J d e kp nm Wm 2 (by decide) 0 (by decide) sm0 sm1 s32 s40 tm0 tm1 t32 t40 hm hm2 hbb _ _ _) (by decide) ⟨_, rfl⟩ ?_⟩
              rintro r2 g2 ⟨rfl, rfl⟩
              exact ⟨rfl, jI.of (hF.err (by decide))⟩
      | 1, _ =>
        have qt := g1
        obtain ⟨tb, tz, t0, tm0, tbt, t1, tm1, t40, tn⟩ := qt
        have t32 := tbt.le
        by_cases hm : sb = 0
        · refine jPc.of (ke_moveN1_2_1 im Im row stk tpm Tm I2 n2 J2 W2 I1 n1 J1 W1 s0 s1 s32 s40 t0 t1 t32 t40 A bo er hm _ _ _) (by decide) (by decide) (by decide) ?_
          rintro r g ⟨rfl, rfl⟩
          refine ⟨_, rfl, jPr.of (me_moveN1 R J d e kp nm Wm 2 (by decide) 1 (by decide) sm0 sm1 s32 s40 tm0 tm1 t32 t40 hm _ _ _) (by decide) ⟨_, rfl⟩ ?_⟩
          rintro r2 g2 ⟨rfl, rfl⟩
          exact ⟨rfl, jI.of (hF.err (by decide))⟩
        · by_cases hm2 : tb = 0
          · refine jPc.of (ke_moveN2_2_1 im Im row stk tpm Tm I2 n2 J2 W2 I1 n1 J1 W1 s0 s1 s32 s40 t0 t1 t32 t40 A bo er hm hm2 _ _ _) (by decide) (by decide) (by decide) ?_
            rintro r g ⟨rfl, rfl⟩
            refine ⟨_, rfl, jPr.of (me_moveN2 R J d e kp nm Wm 2 (by decide) 1 (by decide) sm0 sm1 s32 s40 tm0 tm1 t32 t40 hm hm2 _ _ _) (by decide) ⟨_, rfl⟩ ?_⟩
            rintro r2 g2 ⟨rfl, rfl⟩
            exact ⟨rfl, jI.of (hF.err (by decide))⟩
          · by_cases hbb : sb = tb
            · by_cases ho : jm_ho i n sz ∧ jm_ho j n tz
              · obtain ⟨⟨a, k, rfl, rfl, h1⟩, ⟨c1, k1, rfl, hk1, h2⟩⟩ := ho
                have hkk : k = k1 := (nI_eq (by omega) (by omega)).mp hk1
                subst hkk
                refine jPc.of (kx_move_2_1 im Im row stk tpm Tm I2 n2 J2 W2 I1 n1 J1 W1 s0 s1 s32 s40 t0 t1 t32 t40 hm hm2 hbb a c1 k h1 h2) (by decide) (by decide) (by decide) ?_
                rintro r g ⟨rfl, rfl⟩
                refine ⟨_, rfl, jPr.of (mx_move R J d e kp nm Wm 2 1 (by decide) (by decide) sm0 sm1 s32 s40 tm0 tm1 t32 t40 hm hm2 hbb a c1 k h1 h2) (by decide) ⟨_, rfl⟩ ?_⟩
                rintro r2 g2 ⟨rfl, W9, w0, w1, w2, rfl⟩
                exact ⟨rfl, jI.of (hF.sh (fun r hr => w0 r (by omega) (by omega)) (g0.mo (by decide) (by omega) w0 w1) (g1.mv sn (by omega) w0 w1 w2) (g2.mo (by decide) (by omega) w0 w1) (g3.mo (by decide) (by omega) w0 w1))⟩
              · refine jPc.of (ke_moveB_2_1 im Im row stk tpm Tm I2 n2 J2 W2 I1 n1 J1 W1 s0 s1 s32 s40 t0 t1 t32 t40 A bo er _ _ _ hm hm2 hbb ho) (by decide) (by decide) (by decide) ?_
                rintro r g ⟨rfl, rfl⟩
                refine ⟨_, rfl, jPr.of (me_moveB R J d e kp nm Wm 2 (by decide) 1 (by decide) sm0 sm1 s32 s40 tm0 tm1 t32 t40 hm hm2 hbb _ _ _ ho) (by decide) ⟨_, rfl⟩ ?_⟩
                rintro r2 g2 ⟨rfl, rfl⟩
                exact ⟨rfl, jI.of (hF.err (by decide))⟩
            · refine jPc.of (ke_moveK_2_1 im Im row stk tpm Tm I2 n2 J2 W2 I1 n1 J1 W1 s0 s1 s32 s40 t0 t1 t32 t40 A bo er hm hm2 hbb _ _ _) (by decide) (by decide) (by decide) ?_
              rintro r g ⟨rfl, rfl⟩
              refine ⟨_, rfl, jPr.of (me_moveK R J d e kp nm Wm 2 (by decide) 1 (by decide) sm0 sm1 s32 s40 tm0 tm1 t32 t40 hm hm2 hbb _ _ _) (by decide) ⟨_, rfl⟩ ?_⟩
              rintro r2 g2 ⟨rfl, rfl⟩
              exact ⟨rfl, jI.of (hF.err (by decide))⟩
      | 2, _ =>
        by_cases hm : sb = 0
        · refine jPc.of (ke_moveN1_2_2 im Im row stk tpm Tm I2 n2 J2 W2 s0 s1 s32 s40 A bo er hm _ _ _) (by decide) (by decide) (by decide) ?_
          rintro r g ⟨rfl, rfl⟩
          refine ⟨_, rfl, jPr.of (me_moveN1 R J d e kp nm Wm 2 (by decide) 2 (by decide) sm0 sm1 s32 s40 sm0 sm1 s32 s40 hm _ _ _) (by decide) ⟨_, rfl⟩ ?_⟩
          rintro r2 g2 ⟨rfl, rfl⟩
          exact ⟨rfl, jI.of (hF.err (by decide))⟩
        · by_cases ho : jm_ho i n sz ∧ jm_ho j n sz
          · obtain ⟨⟨a, k, rfl, rfl, h1⟩, ⟨c1, k1, rfl, hk1, h2⟩⟩ := ho
            have hkk : k = k1 := (nI_eq (by omega) (by omega)).mp hk1
            subst hkk
            refine jPc.of (kx_move_2_2 im Im row stk tpm Tm I2 n2 J2 W2 s0 s1 s32 s40 hm hm rfl a c1 k h1 h2) (by decide) (by decide) (by decide) ?_
            rintro r g ⟨rfl, rfl⟩
            refine ⟨_, rfl, jPr.of (mx_move R J d e kp nm Wm 2 2 (by decide) (by decide) sm0 sm1 s32 s40 sm0 sm1 s32 s40 hm hm rfl a c1 k h1 h2) (by decide) ⟨_, rfl⟩ ?_⟩
            rintro r2 g2 ⟨rfl, W9, w0, w1, w2, rfl⟩
            exact ⟨rfl, jI.of (hF.sh (fun r hr => w0 r (by omega) (by omega)) (g0.mo (by decide) (by omega) w0 w1) (g1.mo (by decide) (by omega) w0 w1) (g2.mv sn (by omega) w0 w1 w2) (g3.mo (by decide) (by omega) w0 w1))⟩
          · refine jPc.of (ke_moveB_2_2 im Im row stk tpm Tm I2 n2 J2 W2 s0 s1 s32 s40 A bo er _ _ _ hm hm rfl ho) (by decide) (by decide) (by decide) ?_
            rintro r g ⟨rfl, rfl⟩
            refine ⟨_, rfl, jPr.of (me_moveB R J d e kp nm Wm 2 (by decide) 2 (by decide) sm0 sm1 s32 s40 sm0 sm1 s32 s40 hm hm rfl _ _ _ ho) (by decide) ⟨_, rfl⟩ ?_⟩
            rintro r2 g2 ⟨rfl, rfl⟩
            exact ⟨rfl, jI.of (hF.err (by decide))⟩
      | 3, _ =>
        have qt := g3
        obtain ⟨tb, tz, t0, tm0, tbt, t1, tm1, t40, tn⟩ := qt
        have t32 := tbt.le
        by_cases hm : sb = 0
        · refine jPc.of (ke_moveN1_2_3 im Im row stk tpm Tm I2 n2 J2 W2 I3 n3 J3 W3 s0 s1 s32 s40 t0 t1 t32 t40 A bo er hm _ _ _) (by decide) (by decide) (by decide) ?_
          rintro r g ⟨rfl, rfl⟩
          refine ⟨_, rfl, jPr.of (me_moveN1 R J d e kp nm Wm 2 (by decide) 3 (by decide) sm0 sm1 s32 s40 tm0 tm1 t32 t40 hm _ _ _) (by decide) ⟨_, rfl⟩ ?_⟩
          rintro r2 g2 ⟨rfl, rfl⟩
          exact ⟨rfl, jI.of (hF.err (by decide))⟩
        · by_cases hm2 : tb = 0
          · refine jPc.of (ke_moveN2_2_3 im Im row stk tpm Tm I2 n2 J2 W2 I3 n3 J3 W3 s0 s1 s32 s40 t0 t1 t32 t40 A bo er hm hm2 _ _ _) (by decide) (by decide) (by decide) ?_
            rintro r g ⟨rfl, rfl⟩
            refine ⟨_, rfl, jPr.of (me_moveN2 R J d e kp nm Wm 2 (by decide) 3 (by decide) sm0 sm1 s32 s40 tm0 tm1 t32 t40 hm hm2 _ _ _) (by decide) ⟨_, rfl⟩ ?_⟩
            rintro r2 g2 ⟨rfl, rfl⟩
            exact ⟨rfl, jI.of (hF.err (by decide))⟩
          · by_cases hbb : sb = tb
            · by_cases ho : jm_ho i n sz ∧ jm_ho j n tz
              · obtain ⟨⟨a, k, rfl, rfl, h1⟩, ⟨c1, k1, rfl, hk1, h2⟩⟩ := ho
                have hkk : k = k1 := (nI_eq (by omega) (by omega)).mp hk1
                subst hkk
                refine jPc.of (kx_move_2_3 im Im row stk tpm Tm I2 n2 J2 W2 I3 n3 J3 W3 s0 s1 s32 s40 t0 t1 t32 t40 hm hm2 hbb a c1 k h1 h2) (by decide) (by decide) (by decide) ?_
                rintro r g ⟨rfl, rfl⟩
                refine ⟨_, rfl, jPr.of (mx_move R J d e kp nm Wm 2 3 (by decide) (by decide) sm0 sm1 s32 s40 tm0 tm1 t32 t40 hm hm2 hbb a c1 k h1 h2) (by decide) ⟨_, rfl⟩ ?_⟩
                rintro r2 g2 ⟨rfl, W9, w0, w1, w2, rfl⟩
                exact ⟨rfl, jI.of (hF.sh (fun r hr => w0 r (by omega) (by omega)) (g0.mo (by decide) (by omega) w0 w1) (g1.mo (by decide) (by omega) w0 w1) (g2.mo (by decide) (by omega) w0 w1) (g3.mv sn (by omega) w0 w1 w2))⟩
              · refine jPc.of (ke_moveB_2_3 im Im row stk tpm Tm I2 n2 J2 W2 I3 n3 J3 W3 s0 s1 s32 s40 t0 t1 t32 t40 A bo er _ _ _ hm hm2 hbb ho) (by decide) (by decide) (by decide) ?_
                rintro r g ⟨rfl, rfl⟩
                refine ⟨_, rfl, jPr.of (me_moveB R J d e kp nm Wm 2 (by decide) 3 (by decide) sm0 sm1 s32 s40 tm0 tm1 t32 t40 hm hm2 hbb _ _ _ ho) (by decide) ⟨_, rfl⟩ ?_⟩
                rintro r2 g2 ⟨rfl, rfl⟩
                exact ⟨rfl, jI.of (hF.err (by decide))⟩
            · refine jPc.of (ke_moveK_2_3 im Im row stk tpm Tm I2 n2 J2 W2 I3 n3 J3 W3 s0 s1 s32 s40 t0 t1 t32 t40 A bo er hm hm2 hbb _ _ _) (by decide) (by decide) (by decide) ?_
              rintro r g ⟨rfl, rfl⟩
              refine ⟨_, rfl, jPr.of (me_moveK R J d e kp nm Wm 2 (by decide) 3 (by decide) sm0 sm1 s32 s40 tm0 tm1 t32 t40 hm hm2 hbb _ _ _) (by decide) ⟨_, rfl⟩ ?_⟩
              rintro r2 g2 ⟨rfl, rfl⟩
              exact ⟨rfl, jI.of (hF.err (by decide))⟩
    | 3, _ =>
      have qs := g3
      obtain ⟨sb, sz, s0, sm0, sbt, s1, sm1, s40, sn⟩ := qs
      have s32 := sbt.le
      match u_, uu with
      | 0, _ =>
        have qt := g0
        obtain ⟨tb, tz, t0, tm0, tbt, t1, tm1, t40, tn⟩ := qt
        have t32 := tbt.le
        by_cases hm : sb = 0
        · refine jPc.of (ke_moveN1_3_0 im Im row stk tpm Tm I3 n3 J3 W3 I0 n0 J0 W0 s0 s1 s32 s40 t0 t1 t32 t40 A bo er hm _ _ _) (by decide) (by decide) (by decide) ?_
          rintro r g ⟨rfl, rfl⟩
          refine ⟨_, rfl, jPr.of (me_moveN1 R J d e kp nm Wm 3 (by decide) 0 (by decide) sm0 sm1 s32 s40 tm0 tm1 t32 t40 hm _ _ _) (by decide) ⟨_, rfl⟩ ?_⟩
          rintro r2 g2 ⟨rfl, rfl⟩
          exact ⟨rfl, jI.of (hF.err (by decide))⟩
        · by_cases hm2 : tb = 0
          · refine jPc.of (ke_moveN2_3_0 im Im row stk tpm Tm I3 n3 J3 W3 I0 n0 J0 W0 s0 s1 s32 s40 t0 t1 t32 t40 A bo er hm hm2 _ _ _) (by decide) (by decide) (by decide) ?_
            rintro r g ⟨rfl, rfl⟩
            refine ⟨_, rfl, jPr.of (me_moveN2 R J d e kp nm Wm 3 (by decide) 0 (by decide) sm0 sm1 s32 s40 tm0 tm1 t32 t40 hm hm2 _ _ _) (by decide) ⟨_, rfl⟩ ?_⟩
            rintro r2 g2 ⟨rfl, rfl⟩
            exact ⟨rfl, jI.of (hF.err (by decide))⟩
          · by_cases hbb : sb = tb
            · by_cases ho : jm_ho i n sz ∧ jm_ho j n tz
              · obtain ⟨⟨a, k, rfl, rfl, h1⟩, ⟨c1, k1, rfl, hk1, h2⟩⟩ := ho
                have hkk : k = k1 := (nI_eq (by omega) (by omega)).mp hk1
                subst hkk
                refine jPc.of (kx_move_3_0 im Im row stk tpm Tm I3 n3 J3 W3 I0 n0 J0 W0 s0 s1 s32 s40 t0 t1 t32 t40 hm hm2 hbb a c1 k h1 h2) (by decide) (by decide) (by decide) ?_
                rintro r g ⟨rfl, rfl⟩
                refine ⟨_, rfl, jPr.of (mx_move R J d e kp nm Wm 3 0 (by decide) (by decide) sm0 sm1 s32 s40 tm0 tm1 t32 t40 hm hm2 hbb a c1 k h1 h2) (by decide) ⟨_, rfl⟩ ?_⟩
                rintro r2 g2 ⟨rfl, W9, w0, w1, w2, rfl⟩
                exact ⟨rfl, jI.of (hF.sh (fun r hr => w0 r (by omega) (by omega)) (g0.mv sn (by omega) w0 w1 w2) (g1.mo (by decide) (by omega) w0 w1) (g2.mo (by decide) (by omega) w0 w1) (g3.mo (by decide) (by omega) w0 w1))⟩
              · refine jPc.of (ke_moveB_3_0 im Im row stk tpm Tm I3 n3 J3 W3 I0 n0 J0 W0 s0 s1 s32 s40 t0 t1 t32 t40 A bo er _ _ _ hm hm2 hbb ho) (by decide) (by decide) (by decide) ?_
                rintro r g ⟨rfl, rfl⟩
                refine ⟨_, rfl, jPr.of (me_moveB R J d e kp nm Wm 3 (by decide) 0 (by decide) sm0 sm1 s32 s40 tm0 tm1 t32 t40 hm hm2 hbb _ _ _ ho) (by decide) ⟨_, rfl⟩ ?_⟩
                rintro r2 g2 ⟨rfl, rfl⟩
                exact ⟨rfl, jI.of (hF.err (by decide))⟩
            · refine jPc.of (ke_moveK_3_0 im Im row stk tpm Tm I3 n3 J3 W3 I0 n0 J0 W0 s0 s1 s32 s40 t0 t1 t32 t40 A bo er hm hm2 hbb _ _ _) (by decide) (by decide) (by decide) ?_
              rintro r g ⟨rfl, rfl⟩
              refine ⟨_, rfl, jPr.of (me_moveK R J d e kp nm Wm 3 (by decide) 0 (by decide) sm0 sm1 s32 s40 tm0 tm1 t32 t40 hm hm2 hbb _ _ _) (by decide) ⟨_, rfl⟩ ?_⟩
              rintro r2 g2 ⟨rfl, rfl⟩
              exact ⟨rfl, jI.of (hF.err (by decide))⟩
      | 1, _ =>
        have qt := g1
        obtain ⟨tb, tz, t0, tm0, tbt, t1, tm1, t40, tn⟩ := qt
        have t32 := tbt.le
        by_cases hm : sb = 0
        · refine jPc.of (ke_moveN1_3_1 im Im row stk tpm Tm I3 n3 J3 W3 I1 n1 J1 W1 s0 s1 s32 s40 t0 t1 t32 t40 A bo er hm _ _ _) (by decide) (by decide) (by decide) ?_
          rintro r g ⟨rfl, rfl⟩
          refine ⟨_, rfl, jPr.of (me_moveN1 R J d e kp nm Wm 3 (by decide) 1 (by decide) sm0 sm1 s32 s40 tm0 tm1 t32 t40 hm _ _ _) (by decide) ⟨_, rfl⟩ ?_⟩
          rintro r2 g2 ⟨rfl, rfl⟩
          exact ⟨rfl, jI.of (hF.err (by decide))⟩
        · by_cases hm2 : tb = 0
          · refine jPc.of (ke_moveN2_3_1 im Im row stk tpm Tm I3 n3 J3 W3 I1 n1 J1 W1 s0 s1 s32 s40 t0 t1 t32 t40 A bo er hm hm2 _ _ _) (by decide) (by decide) (by decide) ?_
            rintro r g ⟨rfl, rfl⟩
            refine ⟨_, rfl, jPr.of (me_moveN2 R J d e kp nm Wm 3 (by decide) 1 (by decide) sm0 sm1 s32 s40 tm0 tm1 t32 t40 hm hm2 _ _ _) (by decide) ⟨_, rfl⟩ ?_⟩
            rintro r2 g2 ⟨rfl, rfl⟩
            exact ⟨rfl, jI.of (hF.err (by decide))⟩
          · by_cases hbb : sb = tb
            · by_cases ho : jm_ho i n sz ∧ jm_ho j n tz
              · obtain ⟨⟨a, k, rfl, rfl, h1⟩, ⟨c1, k1, rfl, hk1, h2⟩⟩ := ho
                have hkk : k = k1 := (nI_eq (by omega) (by omega)).mp hk1
                subst hkk
                refine jPc.of (kx_move_3_1 im Im row stk tpm Tm I3 n3 J3 W3 I1 n1 J1 W1 s0 s1 s32 s40 t0 t1 t32 t40 hm hm2 hbb a c1 k h1 h2) (by decide) (by decide) (by decide) ?_
                rintro r g ⟨rfl, rfl⟩
                refine ⟨_, rfl, jPr.of (mx_move R J d e kp nm Wm 3 1 (by decide) (by decide) sm0 sm1 s32 s40 tm0 tm1 t32 t40 hm hm2 hbb a c1 k h1 h2) (by decide) ⟨_, rfl⟩ ?_⟩
                rintro r2 g2 ⟨rfl, W9, w0, w1, w2, rfl⟩
                exact ⟨rfl, jI.of (hF.sh (fun r hr => w0 r (by omega) (by omega)) (g0.mo (by decide) (by omega) w0 w1) (g1.mv sn (by omega) w0 w1 w2) (g2.mo (by decide) (by omega) w0 w1) (g3.mo (by decide) (by omega) w0 w1))⟩
              · refine jPc.of (ke_moveB_3_1 im Im row stk tpm Tm I3 n3 J3 W3 I1 n1 J1 W1 s0 s1 s32 s40 t0 t1 t32 t40 A bo er _ _ _ hm hm2 hbb ho) (by decide) (by decide) (by decide) ?_
                rintro r g ⟨rfl, rfl⟩
                refine ⟨_, rfl, jPr.of (me_moveB R J d e kp nm Wm 3 (by decide) 1 (by decide) sm0 sm1 s32 s40 tm0 tm1 t32 t40 hm hm2 hbb _ _ _ ho) (by decide) ⟨_, rfl⟩ ?_⟩
                rintro r2 g2 ⟨rfl, rfl⟩
                exact ⟨rfl, jI.of (hF.err (by decide))⟩
            · refine jPc.of (ke_moveK_3_1 im Im row stk tpm Tm I3 n3 J3 W3 I1 n1 J1 W1 s0 s1 s32 s40 t0 t1 t32 t40 A bo er hm hm2 hbb _ _ _) (by decide) (by decide) (by decide) ?_
              rintro r g ⟨rfl, rfl⟩
              refine ⟨_, rfl, jPr.of (me_moveK R J d e kp nm Wm 3 (by decide) 1 (by decide) sm0 sm1 s32 s40 tm0 tm1 t32 t40 hm hm2 hbb _ _ _) (by decide) ⟨_, rfl⟩ ?_⟩
              rintro r2 g2 ⟨rfl, rfl⟩
              exact ⟨rfl, jI.of (hF.err (by decide))⟩
      | 2, _ =>
        have qt := g2
        obtain ⟨tb, tz, t0, tm0, tbt, t1, tm1, t40, tn⟩ := qt
        have t32 := tbt.le
        by_cases hm : sb = 0
        · refine jPc.of (ke_moveN1_3_2 im Im row stk tpm Tm I3 n3 J3 W3 I2 n2 J2 W2 s0 s1 s32 s40 t0 t1 t32 t40 A bo er hm _ _ _) (by decide) (by decide) (by decide) ?_
          rintro r g ⟨rfl, rfl⟩
          refine ⟨_, rfl, jPr.of (me_moveN1 R J d e kp nm Wm 3 (by decide) 2 (by decide) sm0 sm1 s32 s40 tm0 tm1 t32 t40 hm _ _ _) (by decide) ⟨_, rfl⟩ ?_⟩
          rintro r2 g2 ⟨rfl, rfl⟩
          exact ⟨rfl, jI.of (hF.err (by decide))⟩
        · by_cases hm2 : tb = 0
          · refine jPc.of (ke_moveN2_3_2 im Im row stk tpm Tm I3 n3 J3 W3 I2 n2 J2 W2 s0 s1 s32 s40 t0 t1 t32 t40 A bo er hm hm2 _ _ _) (by decide) (by decide) (by decide) ?_
            rintro r g ⟨rfl, rfl⟩
            refine ⟨_, rfl, jPr.of (me_moveN2 R J d e kp nm Wm 3 (by decide) 2 (by decide) sm0 sm1 s32 s40 tm0 tm1 t32 t40 hm hm2 _ _ _) (by decide) ⟨_, rfl⟩ ?_⟩
            rintro r2 g2 ⟨rfl, rfl⟩
            exact ⟨rfl, jI.of (hF.err (by decide))⟩
          · by_cases hbb : sb = tb
            · by_cases ho : jm_ho i n sz ∧ jm_ho j n tz
              · obtain ⟨⟨a, k, rfl, rfl, h1⟩, ⟨c1, k1, rfl, hk1, h2⟩⟩ := ho
                have hkk : k = k1 := (nI_eq (by omega) (by omega)).mp hk1
                subst hkk
                refine jPc.of (kx_move_3_2 im Im row stk tpm Tm I3 n3 J3 W3 I2 n2 J2 W2 s0 s1 s32 s40 t0 t1 t32 t40 hm hm2 hbb a c1 k h1 h2) (by decide) (by decide) (by decide) ?_
                rintro r g ⟨rfl, rfl⟩
                refine ⟨_, rfl, jPr.of (mx_move R J d e kp nm Wm 3 2 (by decide) (by decide) sm0 sm1 s32 s40 tm0 tm1 t32 t40 hm hm2 hbb a c1 k h1 h2) (by decide) ⟨_, rfl⟩ ?_⟩
                rintro r2 g2 ⟨rfl, W9, w0, w1, w2, rfl⟩
                exact ⟨rfl, jI.of (hF.sh (fun r hr => w0 r (by omega) (by omega)) (g0.mo (by decide) (by omega) w0 w1) (g1.mo (by decide) (by omega) w0 w1) (g2.mv sn (by omega) w0 w1 w2) (g3.mo (by decide) (by omega) w0 w1))⟩
              · refine jPc.of (ke_moveB_3_2 im Im row stk tpm Tm I3 n3 J3 W3 I2 n2 J2 W2 s0 s1 s32 s40 t0 t1 t32 t40 A bo er _ _ _ hm hm2 hbb ho) (by decide) (by decide) (by decide) ?_
                rintro r g ⟨rfl, rfl⟩
                refine ⟨_, rfl, jPr.of (me_moveB R J d e kp nm Wm 3 (by decide) 2 (by decide) sm0 sm1 s32 s40 tm0 tm1 t32 t40 hm hm2 hbb _ _ _ ho) (by decide) ⟨_, rfl⟩ ?_⟩
                rintro r2 g2 ⟨rfl, rfl⟩
                exact ⟨rfl, jI.of (hF.err (by decide))⟩
            · refine jPc.of (ke_moveK_3_2 im Im row stk tpm Tm I3 n3 J3 W3 I2 n2 J2 W2 s0 s1 s32 s40 t0 t1 t32 t40 A bo er hm hm2 hbb _ _ _) (by decide) (by decide) (by decide) ?_
              rintro r g ⟨rfl, rfl⟩
              refine ⟨_, rfl, jPr.of (me_moveK R J d e kp nm Wm 3 (by decide) 2 (by decide) sm0 sm1 s32 s40 tm0 tm1 t32 t40 hm hm2 hbb _ _ _) (by decide) ⟨_, rfl⟩ ?_⟩
              rintro r2 g2 ⟨rfl, rfl⟩
              exact ⟨rfl, jI.of (hF.err (by decide))⟩
      | 3, _ =>
        by_cases hm : sb = 0
        · refine jPc.of (ke_moveN1_3_3 im Im row stk tpm Tm I3 n3 J3 W3 s0 s1 s32 s40 A bo er hm _ _ _) (by decide) (by decide) (by decide) ?_
          rintro r g ⟨rfl, rfl⟩
          refine ⟨_, rfl, jPr.of (me_moveN1 R J d e kp nm Wm 3 (by decide) 3 (by decide) sm0 sm1 s32 s40 sm0 sm1 s32 s40 hm _ _ _) (by decide) ⟨_, rfl⟩ ?_⟩
          rintro r2 g2 ⟨rfl, rfl⟩
          exact ⟨rfl, jI.of (hF.err (by decide))⟩
        · by_cases ho : jm_ho i n sz ∧ jm_ho j n sz
          · obtain ⟨⟨a, k, rfl, rfl, h1⟩, ⟨c1, k1, rfl, hk1, h2⟩⟩ := ho
            have hkk : k = k1 := (nI_eq (by omega) (by omega)).mp hk1
            subst hkk
            refine jPc.of (kx_move_3_3 im Im row stk tpm Tm I3 n3 J3 W3 s0 s1 s32 s40 hm hm rfl a c1 k h1 h2) (by decide) (by decide) (by decide) ?_
            rintro r g ⟨rfl, rfl⟩
            refine ⟨_, rfl, jPr.of (mx_move R J d e kp nm Wm 3 3 (by decide) (by decide) sm0 sm1 s32 s40 sm0 sm1 s32 s40 hm hm rfl a c1 k h1 h2) (by decide) ⟨_, rfl⟩ ?_⟩
            rintro r2 g2 ⟨rfl, W9, w0, w1, w2, rfl⟩
            exact ⟨rfl, jI.of (hF.sh (fun r hr => w0 r (by omega) (by omega)) (g0.mo (by decide) (by omega) w0 w1) (g1.mo (by decide) (by omega) w0 w1) (g2.mo (by decide) (by omega) w0 w1) (g3.mv sn (by omega) w0 w1 w2))⟩
          · refine jPc.of (ke_moveB_3_3 im Im row stk tpm Tm I3 n3 J3 W3 s0 s1 s32 s40 A bo er _ _ _ hm hm rfl ho) (by decide) (by decide) (by decide) ?_
            rintro r g ⟨rfl, rfl⟩
            refine ⟨_, rfl, jPr.of (me_moveB R J d e kp nm Wm 3 (by decide) 3 (by decide) sm0 sm1 s32 s40 sm0 sm1 s32 s40 hm hm rfl _ _ _ ho) (by decide) ⟨_, rfl⟩ ?_⟩
            rintro r2 g2 ⟨rfl, rfl⟩
            exact ⟨rfl, jI.of (hF.err (by decide))⟩
  · refine jPc.of (ke_move im Im row stk tpm Tm A bo er _ _ _ _ _ hb) (by decide) (by decide) (by decide) ?_
    rintro r g ⟨rfl, rfl⟩
    refine ⟨_, rfl, jPr.of (me_move R J d e kp nm Wm _ _ _ _ _ hb) (by decide) ⟨_, rfl⟩ ?_⟩
    rintro r2 g2 ⟨rfl, rfl⟩
    exact ⟨rfl, jI.of (hF.err (by decide))⟩
theorem p_lesson {sc : Nat × (Nat → Int32)} (s : Int32) : jP sc yX11_lesson cX11_lesson 2 yX12_lesson cX12_lesson 6 [.int s] := by
  intro c h hc hI
  obtain ⟨im, Im, Tm, row, stk, tpm, I, W, T, Ik, Wk, Tk, Ix, Wx, Tx, I0, n0, J0, W0, I1, n1, J1, W1, I2, n2, J2, W2, I3, n3, J3, W3, A, bo, er, R, J, d, e, kp, nm, Wm, s11, rfl, hF⟩ := hI
  obtain ⟨X, V, tp, wt, hS0⟩ := hF.1
  have hS := hS0
  obtain ⟨hr, hd, hk, h9, hz, h5, h8, htp, htt, hby, h6, h99, hwt, htw, hxc, hxd⟩ := hS
  have hF0 := hF
  obtain ⟨-, -, -, -, -, g0, g1, g2, g3, -⟩ := hF0
  by_cases hb : jn_b s 0 4
  · obtain ⟨s_, ls_, us_, rfl⟩ := hb
    match s_, us_ with
    | 0, _ =>
      have qs := g0
      obtain ⟨sb, sz, s0, sm0, sbt, s1, sm1, s40, sn⟩ := qs
      have s32 := sbt.le
      by_cases hm : sb = 0
      · refine jPc.of (ke_lessonN_0 im Im row stk tpm Tm I0 n0 J0 W0 A bo er s0 s1 s32 s40 hm) (by decide) (by decide) (by decide) ?_
        rintro r g ⟨rfl, rfl⟩
        refine ⟨_, rfl, jPr.of (me_lessonN R J d e kp nm Wm 0 (by decide) sm0 sm1 s32 s40 hm) (by decide) ⟨_, rfl⟩ ?_⟩
        rintro r2 g2 ⟨rfl, rfl⟩
        exact ⟨rfl, jI.of (hF.err (by decide))⟩
      · have hga : jl_ga n0 sz 0 [] = jl_ga (fun k => Wm 3 (40 * 0 + k)) sz 0 [] := jl_ga_eq sz 0 [] (fun k _ hk => sn k (by omega))
        refine jPc.of (kx_lesson_0 im Im row stk tpm Tm I W T I0 n0 J0 W0 hr hk s0 s1 s32 s40 hm) (by decide) (by decide) (by decide) ?_
        rintro r g ⟨J9, W9, ⟨ha, rfl⟩ | ⟨M9, v, hm9, hL, rfl⟩, rfl⟩
        · refine ⟨_, rfl, jPr.of (mx_lesson R J d e kp nm Wm hd hk 0 (by decide) sm0 sm1 s32 s40 hm) (by decide) ⟨_, rfl⟩ ?_⟩
          rintro r2 g2 ⟨I9, V9, i9, w9, ⟨ha2, rfl⟩ | ⟨M2, v2, hm2, hL2, rfl⟩, rfl⟩
          · exact ⟨rfl, jI.of (hF.wm (i9 0 (by decide)) (i9 3 (by decide)) (fun r hr => w9 r (by omega) (by omega)))⟩
          · rw [← hga, ha] at hm2
            exact absurd hm2.1 List.not_mem_nil
        · refine ⟨_, rfl, jPr.of (mx_lesson R J d e kp nm Wm hd hk 0 (by decide) sm0 sm1 s32 s40 hm) (by decide) ⟨_, rfl⟩ ?_⟩
          rintro r2 g2 ⟨I9, V9, i9, w9, ⟨ha2, rfl⟩ | ⟨M2, v2, hm2, hL2, rfl⟩, rfl⟩
          · rw [hga, ha2] at hm9
            exact absurd hm9.1 List.not_mem_nil
          · rw [← hga] at hm2 hL2
            cases hm9.uniq hm2
            cases hL.uniq hL2
            exact ⟨rfl, jI.of (hF.wm (i9 0 (by decide)) (i9 3 (by decide)) (fun r hr => w9 r (by omega) (by omega)))⟩
    | 1, _ =>
      have qs := g1
      obtain ⟨sb, sz, s0, sm0, sbt, s1, sm1, s40, sn⟩ := qs
      have s32 := sbt.le
      by_cases hm : sb = 0
      · refine jPc.of (ke_lessonN_1 im Im row stk tpm Tm I1 n1 J1 W1 A bo er s0 s1 s32 s40 hm) (by decide) (by decide) (by decide) ?_
        rintro r g ⟨rfl, rfl⟩
        refine ⟨_, rfl, jPr.of (me_lessonN R J d e kp nm Wm 1 (by decide) sm0 sm1 s32 s40 hm) (by decide) ⟨_, rfl⟩ ?_⟩
        rintro r2 g2 ⟨rfl, rfl⟩
        exact ⟨rfl, jI.of (hF.err (by decide))⟩
      · have hga : jl_ga n1 sz 0 [] = jl_ga (fun k => Wm 3 (40 * 1 + k)) sz 0 [] := jl_ga_eq sz 0 [] (fun k _ hk => sn k (by omega))
        refine jPc.of (kx_lesson_1 im Im row stk tpm Tm I W T I1 n1 J1 W1 hr hk s0 s1 s32 s40 hm) (by decide) (by decide) (by decide) ?_
        rintro r g ⟨J9, W9, ⟨ha, rfl⟩ | ⟨M9, v, hm9, hL, rfl⟩, rfl⟩
        · refine ⟨_, rfl, jPr.of (mx_lesson R J d e kp nm Wm hd hk 1 (by decide) sm0 sm1 s32 s40 hm) (by decide) ⟨_, rfl⟩ ?_⟩
          rintro r2 g2 ⟨I9, V9, i9, w9, ⟨ha2, rfl⟩ | ⟨M2, v2, hm2, hL2, rfl⟩, rfl⟩
          · exact ⟨rfl, jI.of (hF.wm (i9 0 (by decide)) (i9 3 (by decide)) (fun r hr => w9 r (by omega) (by omega)))⟩
          · rw [← hga, ha] at hm2
            exact absurd hm2.1 List.not_mem_nil
        · refine ⟨_, rfl, jPr.of (mx_lesson R J d e kp nm Wm hd hk 1 (by decide) sm0 sm1 s32 s40 hm) (by decide) ⟨_, rfl⟩ ?_⟩
          rintro r2 g2 ⟨I9, V9, i9, w9, ⟨ha2, rfl⟩ | ⟨M2, v2, hm2, hL2, rfl⟩, rfl⟩
          · rw [hga, ha2] at hm9
            exact absurd hm9.1 List.not_mem_nil
          · rw [← hga] at hm2 hL2
            cases hm9.uniq hm2
            cases hL.uniq hL2
            exact ⟨rfl, jI.of (hF.wm (i9 0 (by decide)) (i9 3 (by decide)) (fun r hr => w9 r (by omega) (by omega)))⟩
    | 2, _ =>
      have qs := g2
      obtain ⟨sb, sz, s0, sm0, sbt, s1, sm1, s40, sn⟩ := qs
      have s32 := sbt.le
      by_cases hm : sb = 0
      · refine jPc.of (ke_lessonN_2 im Im row stk tpm Tm I2 n2 J2 W2 A bo er s0 s1 s32 s40 hm) (by decide) (by decide) (by decide) ?_
        rintro r g ⟨rfl, rfl⟩
        refine ⟨_, rfl, jPr.of (me_lessonN R J d e kp nm Wm 2 (by decide) sm0 sm1 s32 s40 hm) (by decide) ⟨_, rfl⟩ ?_⟩
        rintro r2 g2 ⟨rfl, rfl⟩
        exact ⟨rfl, jI.of (hF.err (by decide))⟩
      · have hga : jl_ga n2 sz 0 [] = jl_ga (fun k => Wm 3 (40 * 2 + k)) sz 0 [] := jl_ga_eq sz 0 [] (fun k _ hk => sn k (by omega))
        refine jPc.of (kx_lesson_2 im Im row stk tpm Tm I W T I2 n2 J2 W2 hr hk s0 s1 s32 s40 hm) (by decide) (by decide) (by decide) ?_
        rintro r g ⟨J9, W9, ⟨ha, rfl⟩ | ⟨M9, v, hm9, hL, rfl⟩, rfl⟩
        · refine ⟨_, rfl, jPr.of (mx_lesson R J d e kp nm Wm hd hk 2 (by decide) sm0 sm1 s32 s40 hm) (by decide) ⟨_, rfl⟩ ?_⟩
          rintro r2 g2 ⟨I9, V9, i9, w9, ⟨ha2, rfl⟩ | ⟨M2, v2, hm2, hL2, rfl⟩, rfl⟩
          · exact ⟨rfl, jI.of (hF.wm (i9 0 (by decide)) (i9 3 (by decide)) (fun r hr => w9 r (by omega) (by omega)))⟩
          · rw [← hga, ha] at hm2
            exact absurd hm2.1 List.not_mem_nil
        · refine ⟨_, rfl, jPr.of (mx_lesson R J d e kp nm Wm hd hk 2 (by decide) sm0 sm1 s32 s40 hm) (by decide) ⟨_, rfl⟩ ?_⟩
          rintro r2 g2 ⟨I9, V9, i9, w9, ⟨ha2, rfl⟩ | ⟨M2, v2, hm2, hL2, rfl⟩, rfl⟩
          · rw [hga, ha2] at hm9
            exact absurd hm9.1 List.not_mem_nil
          · rw [← hga] at hm2 hL2
            cases hm9.uniq hm2
            cases hL.uniq hL2
            exact ⟨rfl, jI.of (hF.wm (i9 0 (by decide)) (i9 3 (by decide)) (fun r hr => w9 r (by omega) (by omega)))⟩
    | 3, _ =>
      have qs := g3
      obtain ⟨sb, sz, s0, sm0, sbt, s1, sm1, s40, sn⟩ := qs
      have s32 := sbt.le
      by_cases hm : sb = 0
      · refine jPc.of (ke_lessonN_3 im Im row stk tpm Tm I3 n3 J3 W3 A bo er s0 s1 s32 s40 hm) (by decide) (by decide) (by decide) ?_
        rintro r g ⟨rfl, rfl⟩
        refine ⟨_, rfl, jPr.of (me_lessonN R J d e kp nm Wm 3 (by decide) sm0 sm1 s32 s40 hm) (by decide) ⟨_, rfl⟩ ?_⟩
        rintro r2 g2 ⟨rfl, rfl⟩
        exact ⟨rfl, jI.of (hF.err (by decide))⟩
      · have hga : jl_ga n3 sz 0 [] = jl_ga (fun k => Wm 3 (40 * 3 + k)) sz 0 [] := jl_ga_eq sz 0 [] (fun k _ hk => sn k (by omega))
        refine jPc.of (kx_lesson_3 im Im row stk tpm Tm I W T I3 n3 J3 W3 hr hk s0 s1 s32 s40 hm) (by decide) (by decide) (by decide) ?_
        rintro r g ⟨J9, W9, ⟨ha, rfl⟩ | ⟨M9, v, hm9, hL, rfl⟩, rfl⟩
        · refine ⟨_, rfl, jPr.of (mx_lesson R J d e kp nm Wm hd hk 3 (by decide) sm0 sm1 s32 s40 hm) (by decide) ⟨_, rfl⟩ ?_⟩
          rintro r2 g2 ⟨I9, V9, i9, w9, ⟨ha2, rfl⟩ | ⟨M2, v2, hm2, hL2, rfl⟩, rfl⟩
          · exact ⟨rfl, jI.of (hF.wm (i9 0 (by decide)) (i9 3 (by decide)) (fun r hr => w9 r (by omega) (by omega)))⟩
          · rw [← hga, ha] at hm2
            exact absurd hm2.1 List.not_mem_nil
        · refine ⟨_, rfl, jPr.of (mx_lesson R J d e kp nm Wm hd hk 3 (by decide) sm0 sm1 s32 s40 hm) (by decide) ⟨_, rfl⟩ ?_⟩
          rintro r2 g2 ⟨I9, V9, i9, w9, ⟨ha2, rfl⟩ | ⟨M2, v2, hm2, hL2, rfl⟩, rfl⟩
          · rw [hga, ha2] at hm9
            exact absurd hm9.1 List.not_mem_nil
          · rw [← hga] at hm2 hL2
            cases hm9.uniq hm2
            cases hL.uniq hL2
            exact ⟨rfl, jI.of (hF.wm (i9 0 (by decide)) (i9 3 (by decide)) (fun r hr => w9 r (by omega) (by omega)))⟩
  · refine jPc.of (ke_lesson im Im row stk tpm Tm A bo er _ hb) (by decide) (by decide) (by decide) ?_
    rintro r g ⟨rfl, rfl⟩
    refine ⟨_, rfl, jPr.of (me_lesson R J d e kp nm Wm _ hb) (by decide) ⟨_, rfl⟩ ?_⟩
    rintro r2 g2 ⟨rfl, rfl⟩
    exact ⟨rfl, jI.of (hF.err (by decide))⟩
theorem p_poem {sc : Nat × (Nat → Int32)} (s w : Int32) : jP sc yX11_poem cX11_poem 3 yX12_poem cX12_poem 8 [.int s, .int w] := by
  intro c h hc hI
  obtain ⟨im, Im, Tm, row, stk, tpm, I, W, T, Ik, Wk, Tk, Ix, Wx, Tx, I0, n0, J0, W0, I1, n1, J1, W1, I2, n2, J2, W2, I3, n3, J3, W3, A, bo, er, R, J, d, e, kp, nm, Wm, s11, rfl, hF⟩ := hI
  obtain ⟨X, V, tp, wt, hS0⟩ := hF.1
  have hS := hS0
  obtain ⟨hr, hd, hk, h9, hz, h5, h8, htp, htt, hby, h6, h99, hwt, htw, hxc, hxd⟩ := hS
  have hF0 := hF
  obtain ⟨-, -, -, -, -, g0, g1, g2, g3, -⟩ := hF0
  by_cases hb : jn_b w 0 2
  · obtain ⟨w_, lw_, uw_, rfl⟩ := hb
    match w_, uw_ with
    | 0, _ =>
      by_cases hs : jn_b s 0 4
      · obtain ⟨s_, ls_, us_, rfl⟩ := hs
        match s_, us_ with
        | 0, _ =>
          have qs := g0
          obtain ⟨sb, sz, s0, sm0, sbt, s1, sm1, s40, sn⟩ := qs
          have s32 := sbt.le
          by_cases hm : sb = 0
          · refine jPc.of (ke_poemN0_0 im Im row stk tpm Tm I0 n0 J0 W0 A bo er s0 s1 s32 s40 hm) (by decide) (by decide) (by decide) ?_
            rintro r g ⟨rfl, rfl⟩
            refine ⟨_, rfl, jPr.of (me_poemN0 R J d e kp nm Wm 0 (by decide) sm0 sm1 s32 s40 hm) (by decide) ⟨_, rfl⟩ ?_⟩
            rintro r2 g2 ⟨rfl, rfl⟩
            exact ⟨rfl, jI.of (hF.err (by decide))⟩
          · have hga : jy_ga n0 sz sz 0 [] = jy_ga (fun k => Wm 3 (40 * 0 + k)) sz sz 0 [] := jy_ga_eq (fun k hk => sn k (by omega)) sz 0 []
            refine jPc.of (kx_poem0_0 im Im row stk tpm Tm I0 n0 J0 W0 s0 s1 s32 s40 hm) (by decide) (by decide) (by decide) ?_
            rintro r g ⟨J9, W9, rfl, v, hL, rfl⟩
            refine ⟨_, rfl, jPr.of (mx_poem0 R J d e kp nm Wm 0 (by decide) sm0 sm1 s32 s40 hm) (by decide) ⟨_, rfl⟩ ?_⟩
            rintro r2 g2 ⟨I9, V9, i9, w9, ⟨v2, hL2, rfl⟩, rfl⟩
            rw [← hga] at hL2
            cases hL.uniq hL2
            exact ⟨rfl, jI.of (hF.wm (i9 0 (by decide)) (i9 3 (by decide)) (fun r hr => w9 r (by omega) (by omega)))⟩
        | 1, _ =>
          have qs := g1
          obtain ⟨sb, sz, s0, sm0, sbt, s1, sm1, s40, sn⟩ := qs
          have s32 := sbt.le
          by_cases hm : sb = 0
          · refine jPc.of (ke_poemN0_1 im Im row stk tpm Tm I1 n1 J1 W1 A bo er s0 s1 s32 s40 hm) (by decide) (by decide) (by decide) ?_
            rintro r g ⟨rfl, rfl⟩
            refine ⟨_, rfl, jPr.of (me_poemN0 R J d e kp nm Wm 1 (by decide) sm0 sm1 s32 s40 hm) (by decide) ⟨_, rfl⟩ ?_⟩
            rintro r2 g2 ⟨rfl, rfl⟩
            exact ⟨rfl, jI.of (hF.err (by decide))⟩
          · have hga : jy_ga n1 sz sz 0 [] = jy_ga (fun k => Wm 3 (40 * 1 + k)) sz sz 0 [] := jy_ga_eq (fun k hk => sn k (by omega)) sz 0 []
            refine jPc.of (kx_poem0_1 im Im row stk tpm Tm I1 n1 J1 W1 s0 s1 s32 s40 hm) (by decide) (by decide) (by decide) ?_
            rintro r g ⟨J9, W9, rfl, v, hL, rfl⟩
            refine ⟨_, rfl, jPr.of (mx_poem0 R J d e kp nm Wm 1 (by decide) sm0 sm1 s32 s40 hm) (by decide) ⟨_, rfl⟩ ?_⟩
            rintro r2 g2 ⟨I9, V9, i9, w9, ⟨v2, hL2, rfl⟩, rfl⟩
            rw [← hga] at hL2
            cases hL.uniq hL2
            exact ⟨rfl, jI.of (hF.wm (i9 0 (by decide)) (i9 3 (by decide)) (fun r hr => w9 r (by omega) (by omega)))⟩
        | 2, _ =>
          have qs := g2
          obtain ⟨sb, sz, s0, sm0, sbt, s1, sm1, s40, sn⟩ := qs
          have s32 := sbt.le
          by_cases hm : sb = 0
          · refine jPc.of (ke_poemN0_2 im Im row stk tpm Tm I2 n2 J2 W2 A bo er s0 s1 s32 s40 hm) (by decide) (by decide) (by decide) ?_
            rintro r g ⟨rfl, rfl⟩
            refine ⟨_, rfl, jPr.of (me_poemN0 R J d e kp nm Wm 2 (by decide) sm0 sm1 s32 s40 hm) (by decide) ⟨_, rfl⟩ ?_⟩
            rintro r2 g2 ⟨rfl, rfl⟩
            exact ⟨rfl, jI.of (hF.err (by decide))⟩
          · have hga : jy_ga n2 sz sz 0 [] = jy_ga (fun k => Wm 3 (40 * 2 + k)) sz sz 0 [] := jy_ga_eq (fun k hk => sn k (by omega)) sz 0 []
            refine jPc.of (kx_poem0_2 im Im row stk tpm Tm I2 n2 J2 W2 s0 s1 s32 s40 hm) (by decide) (by decide) (by decide) ?_
            rintro r g ⟨J9, W9, rfl, v, hL, rfl⟩
            refine ⟨_, rfl, jPr.of (mx_poem0 R J d e kp nm Wm 2 (by decide) sm0 sm1 s32 s40 hm) (by decide) ⟨_, rfl⟩ ?_⟩
            rintro r2 g2 ⟨I9, V9, i9, w9, ⟨v2, hL2, rfl⟩, rfl⟩
            rw [← hga] at hL2
            cases hL.uniq hL2
            exact ⟨rfl, jI.of (hF.wm (i9 0 (by decide)) (i9 3 (by decide)) (fun r hr => w9 r (by omega) (by omega)))⟩
        | 3, _ =>
          have qs := g3
          obtain ⟨sb, sz, s0, sm0, sbt, s1, sm1, s40, sn⟩ := qs
          have s32 := sbt.le
          by_cases hm : sb = 0
          · refine jPc.of (ke_poemN0_3 im Im row stk tpm Tm I3 n3 J3 W3 A bo er s0 s1 s32 s40 hm) (by decide) (by decide) (by decide) ?_
            rintro r g ⟨rfl, rfl⟩
            refine ⟨_, rfl, jPr.of (me_poemN0 R J d e kp nm Wm 3 (by decide) sm0 sm1 s32 s40 hm) (by decide) ⟨_, rfl⟩ ?_⟩
            rintro r2 g2 ⟨rfl, rfl⟩
            exact ⟨rfl, jI.of (hF.err (by decide))⟩
          · have hga : jy_ga n3 sz sz 0 [] = jy_ga (fun k => Wm 3 (40 * 3 + k)) sz sz 0 [] := jy_ga_eq (fun k hk => sn k (by omega)) sz 0 []
            refine jPc.of (kx_poem0_3 im Im row stk tpm Tm I3 n3 J3 W3 s0 s1 s32 s40 hm) (by decide) (by decide) (by decide) ?_
            rintro r g ⟨J9, W9, rfl, v, hL, rfl⟩
            refine ⟨_, rfl, jPr.of (mx_poem0 R J d e kp nm Wm 3 (by decide) sm0 sm1 s32 s40 hm) (by decide) ⟨_, rfl⟩ ?_⟩
            rintro r2 g2 ⟨I9, V9, i9, w9, ⟨v2, hL2, rfl⟩, rfl⟩
            rw [← hga] at hL2
            cases hL.uniq hL2
            exact ⟨rfl, jI.of (hF.wm (i9 0 (by decide)) (i9 3 (by decide)) (fun r hr => w9 r (by omega) (by omega)))⟩
      · refine jPc.of (ke_poem im Im row stk tpm Tm A bo er _ _ (fun z => hs z.1)) (by decide) (by decide) (by decide) ?_
        rintro r g ⟨rfl, rfl⟩
        refine ⟨_, rfl, jPr.of (me_poemS0 R J d e kp nm Wm _ hs) (by decide) ⟨_, rfl⟩ ?_⟩
        rintro r2 g2 ⟨rfl, rfl⟩
        exact ⟨rfl, jI.of (hF.err (by decide))⟩
    | 1, _ =>
      by_cases hs : jn_b s 0 4
      · obtain ⟨s_, ls_, us_, rfl⟩ := hs
        match s_, us_ with
        | 0, _ =>
          have qs := g0
          obtain ⟨sb, sz, s0, sm0, sbt, s1, sm1, s40, sn⟩ := qs
          have s32 := sbt.le
          by_cases hm : sb = 0
          · refine jPc.of (ke_poemN1_0 im Im row stk tpm Tm I0 n0 J0 W0 A bo er s0 s1 s32 s40 hm) (by decide) (by decide) (by decide) ?_
            rintro r g ⟨rfl, rfl⟩
            refine ⟨_, rfl, jPr.of (me_poemN1 R J d e kp nm Wm 0 (by decide) sm0 sm1 s32 s40 hm) (by decide) ⟨_, rfl⟩ ?_⟩
            rintro r2 g2 ⟨rfl, rfl⟩
            exact ⟨rfl, jI.of (hF.err (by decide))⟩
          · have hga : jy_ga n0 sz sz 0 [] = jy_ga (fun k => Wm 3 (40 * 0 + k)) sz sz 0 [] := jy_ga_eq (fun k hk => sn k (by omega)) sz 0 []
            refine jPc.of (kx_poem1_0 im Im row stk tpm Tm I0 n0 J0 W0 s0 s1 s32 s40 hm) (by decide) (by decide) (by decide) ?_
            rintro r g ⟨J9, W9, rfl, rfl⟩
            refine ⟨_, rfl, jPr.of (mx_poem1 R J d e kp nm Wm 0 (by decide) sm0 sm1 s32 s40 hm) (by decide) ⟨_, rfl⟩ ?_⟩
            rintro r2 g2 ⟨I9, V9, i9, w9, rfl, rfl⟩
            exact ⟨by rw [hga], jI.of (hF.wm (i9 0 (by decide)) (i9 3 (by decide)) (fun r hr => w9 r (by omega) (by omega)))⟩
        | 1, _ =>
          have qs := g1
          obtain ⟨sb, sz, s0, sm0, sbt, s1, sm1, s40, sn⟩ := qs
          have s32 := sbt.le
          by_cases hm : sb = 0
          · refine jPc.of (ke_poemN1_1 im Im row stk tpm Tm I1 n1 J1 W1 A bo er s0 s1 s32 s40 hm) (by decide) (by decide) (by decide) ?_
            rintro r g ⟨rfl, rfl⟩
            refine ⟨_, rfl, jPr.of (me_poemN1 R J d e kp nm Wm 1 (by decide) sm0 sm1 s32 s40 hm) (by decide) ⟨_, rfl⟩ ?_⟩
            rintro r2 g2 ⟨rfl, rfl⟩
            exact ⟨rfl, jI.of (hF.err (by decide))⟩
          · have hga : jy_ga n1 sz sz 0 [] = jy_ga (fun k => Wm 3 (40 * 1 + k)) sz sz 0 [] := jy_ga_eq (fun k hk => sn k (by omega)) sz 0 []
            refine jPc.of (kx_poem1_1 im Im row stk tpm Tm I1 n1 J1 W1 s0 s1 s32 s40 hm) (by decide) (by decide) (by decide) ?_
            rintro r g ⟨J9, W9, rfl, rfl⟩
            refine ⟨_, rfl, jPr.of (mx_poem1 R J d e kp nm Wm 1 (by decide) sm0 sm1 s32 s40 hm) (by decide) ⟨_, rfl⟩ ?_⟩
            rintro r2 g2 ⟨I9, V9, i9, w9, rfl, rfl⟩
            exact ⟨by rw [hga], jI.of (hF.wm (i9 0 (by decide)) (i9 3 (by decide)) (fun r hr => w9 r (by omega) (by omega)))⟩
        | 2, _ =>
          have qs := g2
          obtain ⟨sb, sz, s0, sm0, sbt, s1, sm1, s40, sn⟩ := qs
          have s32 := sbt.le
          by_cases hm : sb = 0
          · refine jPc.of (ke_poemN1_2 im Im row stk tpm Tm I2 n2 J2 W2 A bo er s0 s1 s32 s40 hm) (by decide) (by decide) (by decide) ?_
            rintro r g ⟨rfl, rfl⟩
            refine ⟨_, rfl, jPr.of (me_poemN1 R J d e kp nm Wm 2 (by decide) sm0 sm1 s32 s40 hm) (by decide) ⟨_, rfl⟩ ?_⟩
            rintro r2 g2 ⟨rfl, rfl⟩
            exact ⟨rfl, jI.of (hF.err (by decide))⟩
          · have hga : jy_ga n2 sz sz 0 [] = jy_ga (fun k => Wm 3 (40 * 2 + k)) sz sz 0 [] := jy_ga_eq (fun k hk => sn k (by omega)) sz 0 []
            refine jPc.of (kx_poem1_2 im Im row stk tpm Tm I2 n2 J2 W2 s0 s1 s32 s40 hm) (by decide) (by decide) (by decide) ?_
            rintro r g ⟨J9, W9, rfl, rfl⟩
            refine ⟨_, rfl, jPr.of (mx_poem1 R J d e kp nm Wm 2 (by decide) sm0 sm1 s32 s40 hm) (by decide) ⟨_, rfl⟩ ?_⟩
            rintro r2 g2 ⟨I9, V9, i9, w9, rfl, rfl⟩
            exact ⟨by rw [hga], jI.of (hF.wm (i9 0 (by decide)) (i9 3 (by decide)) (fun r hr => w9 r (by omega) (by omega)))⟩
        | 3, _ =>
          have qs := g3
          obtain ⟨sb, sz, s0, sm0, sbt, s1, sm1, s40, sn⟩ := qs
          have s32 := sbt.le
          by_cases hm : sb = 0
          · refine jPc.of (ke_poemN1_3 im Im row stk tpm Tm I3 n3 J3 W3 A bo er s0 s1 s32 s40 hm) (by decide) (by decide) (by decide) ?_
            rintro r g ⟨rfl, rfl⟩
            refine ⟨_, rfl, jPr.of (me_poemN1 R J d e kp nm Wm 3 (by decide) sm0 sm1 s32 s40 hm) (by decide) ⟨_, rfl⟩ ?_⟩
            rintro r2 g2 ⟨rfl, rfl⟩
            exact ⟨rfl, jI.of (hF.err (by decide))⟩
          · have hga : jy_ga n3 sz sz 0 [] = jy_ga (fun k => Wm 3 (40 * 3 + k)) sz sz 0 [] := jy_ga_eq (fun k hk => sn k (by omega)) sz 0 []
            refine jPc.of (kx_poem1_3 im Im row stk tpm Tm I3 n3 J3 W3 s0 s1 s32 s40 hm) (by decide) (by decide) (by decide) ?_
            rintro r g ⟨J9, W9, rfl, rfl⟩
            refine ⟨_, rfl, jPr.of (mx_poem1 R J d e kp nm Wm 3 (by decide) sm0 sm1 s32 s40 hm) (by decide) ⟨_, rfl⟩ ?_⟩
            rintro r2 g2 ⟨I9, V9, i9, w9, rfl, rfl⟩
            exact ⟨by rw [hga], jI.of (hF.wm (i9 0 (by decide)) (i9 3 (by decide)) (fun r hr => w9 r (by omega) (by omega)))⟩
      · refine jPc.of (ke_poem im Im row stk tpm Tm A bo er _ _ (fun z => hs z.1)) (by decide) (by decide) (by decide) ?_
        rintro r g ⟨rfl, rfl⟩
        refine ⟨_, rfl, jPr.of (me_poemS1 R J d e kp nm Wm _ hs) (by decide) ⟨_, rfl⟩ ?_⟩
        rintro r2 g2 ⟨rfl, rfl⟩
        exact ⟨rfl, jI.of (hF.err (by decide))⟩
  · refine jPc.of (ke_poem im Im row stk tpm Tm A bo er _ _ (fun z => hb z.2)) (by decide) (by decide) (by decide) ?_
    rintro r g ⟨rfl, rfl⟩
    refine ⟨_, rfl, jPr.of (me_poemW R J d e kp nm Wm _ _ hb) (by decide) ⟨_, rfl⟩ ?_⟩
    rintro r2 g2 ⟨rfl, rfl⟩
    exact ⟨rfl, jI.of (hF.err (by decide))⟩
theorem p_heard {sc : Nat × (Nat → Int32)} (s w : Int32) : jP sc yX11_heard cX11_heard 5 yX12_heard cX12_heard 8 [.int s, .int w] := by
  intro c h hc hI
  obtain ⟨im, Im, Tm, row, stk, tpm, I, W, T, Ik, Wk, Tk, Ix, Wx, Tx, I0, n0, J0, W0, I1, n1, J1, W1, I2, n2, J2, W2, I3, n3, J3, W3, A, bo, er, R, J, d, e, kp, nm, Wm, s11, rfl, hF⟩ := hI
  obtain ⟨X, V, tp, wt, hS0⟩ := hF.1
  have hS := hS0
  obtain ⟨hr, hd, hk, h9, hz, h5, h8, htp, htt, hby, h6, h99, hwt, htw, hxc, hxd⟩ := hS
  have hF0 := hF
  obtain ⟨-, -, -, -, -, g0, g1, g2, g3, -⟩ := hF0
  by_cases hb : jn_b w 0 3
  · obtain ⟨w_, lw_, uw_, rfl⟩ := hb
    match w_, uw_ with
    | 0, _ =>
      by_cases hs : jn_b s 0 4
      · obtain ⟨s_, ls_, us_, rfl⟩ := hs
        match s_, us_ with
        | 0, _ =>
          have qs := g0
          obtain ⟨sb, sz, s0, sm0, sbt, s1, sm1, s40, sn⟩ := qs
          have s32 := sbt.le
          by_cases hm : sb = 0
          · refine jPc.of (ke_heardN0_0 im Im row stk tpm Tm I0 n0 J0 W0 A bo er s0 s1 s32 s40 hm) (by decide) (by decide) (by decide) ?_
            rintro r g ⟨rfl, rfl⟩
            refine ⟨_, rfl, jPr.of (me_heardN0 R J d e kp nm Wm 0 (by decide) sm0 sm1 s32 s40 hm) (by decide) ⟨_, rfl⟩ ?_⟩
            rintro r2 g2 ⟨rfl, rfl⟩
            exact ⟨rfl, jI.of (hF.err (by decide))⟩
          · by_cases h2 : sz < 2
            · refine jPc.of (ke_heardS0_0 im Im row stk tpm Tm I0 n0 J0 W0 A bo er s0 s1 s32 s40 hm h2) (by decide) (by decide) (by decide) ?_
              rintro r g ⟨rfl, rfl⟩
              refine ⟨_, rfl, jPr.of (me_heardZ0 R J d e kp nm Wm 0 (by decide) sm0 sm1 s32 s40 hm h2) (by decide) ⟨_, rfl⟩ ?_⟩
              rintro r2 g2 ⟨rfl, rfl⟩
              exact ⟨rfl, jI.of (hF.err (by decide))⟩
            · have hn1 : ∀ g, jz_n n0 sz g sz 0 0 = jz_n (fun k => Wm 3 (40 * 0 + k)) sz g sz 0 0 := fun g => jz_n_eq (fun k hk => sn k (by omega)) sz 0 0
              have hn2 : ∀ g, jz_f n0 sz g sz 0 0 = jz_f (fun k => Wm 3 (40 * 0 + k)) sz g sz 0 0 := fun g => jz_f_eq (fun k hk => sn k (by omega)) sz 0 0
              refine jPc.of (kx_heard0_0 im Im row stk tpm Tm I0 n0 J0 W0 s0 s1 s32 s40 hm (by omega)) (by decide) (by decide) (by decide) ?_
              rintro r g ⟨b9, hB, rfl, rfl⟩
              refine ⟨_, rfl, jPr.of (mx_heard0 R J d e kp nm Wm 0 (by decide) sm0 sm1 s32 s40 hm (by omega)) (by decide) ⟨_, rfl⟩ ?_⟩
              rintro r2 g2 ⟨c9, V9, hB2, rfl, w9, rfl⟩
              rw [← funext hn1] at hB2
              cases hB.uniq hB2
              exact ⟨rfl, jI.of (hF.wm rfl rfl (fun r hr => w9 r (by omega)))⟩
        | 1, _ =>
          have qs := g1
          obtain ⟨sb, sz, s0, sm0, sbt, s1, sm1, s40, sn⟩ := qs
          have s32 := sbt.le
          by_cases hm : sb = 0
          · refine jPc.of (ke_heardN0_1 im Im row stk tpm Tm I1 n1 J1 W1 A bo er s0 s1 s32 s40 hm) (by decide) (by decide) (by decide) ?_
            rintro r g ⟨rfl, rfl⟩
            refine ⟨_, rfl, jPr.of (me_heardN0 R J d e kp nm Wm 1 (by decide) sm0 sm1 s32 s40 hm) (by decide) ⟨_, rfl⟩ ?_⟩
            rintro r2 g2 ⟨rfl, rfl⟩
            exact ⟨rfl, jI.of (hF.err (by decide))⟩
          · by_cases h2 : sz < 2
            · refine jPc.of (ke_heardS0_1 im Im row stk tpm Tm I1 n1 J1 W1 A bo er s0 s1 s32 s40 hm h2) (by decide) (by decide) (by decide) ?_
              rintro r g ⟨rfl, rfl⟩
              refine ⟨_, rfl, jPr.of (me_heardZ0 R J d e kp nm Wm 1 (by decide) sm0 sm1 s32 s40 hm h2) (by decide) ⟨_, rfl⟩ ?_⟩
              rintro r2 g2 ⟨rfl, rfl⟩
              exact ⟨rfl, jI.of (hF.err (by decide))⟩
            · have hn1 : ∀ g, jz_n n1 sz g sz 0 0 = jz_n (fun k => Wm 3 (40 * 1 + k)) sz g sz 0 0 := fun g => jz_n_eq (fun k hk => sn k (by omega)) sz 0 0
              have hn2 : ∀ g, jz_f n1 sz g sz 0 0 = jz_f (fun k => Wm 3 (40 * 1 + k)) sz g sz 0 0 := fun g => jz_f_eq (fun k hk => sn k (by omega)) sz 0 0
              refine jPc.of (kx_heard0_1 im Im row stk tpm Tm I1 n1 J1 W1 s0 s1 s32 s40 hm (by omega)) (by decide) (by decide) (by decide) ?_
              rintro r g ⟨b9, hB, rfl, rfl⟩
              refine ⟨_, rfl, jPr.of (mx_heard0 R J d e kp nm Wm 1 (by decide) sm0 sm1 s32 s40 hm (by omega)) (by decide) ⟨_, rfl⟩ ?_⟩
              rintro r2 g2 ⟨c9, V9, hB2, rfl, w9, rfl⟩
              rw [← funext hn1] at hB2
              cases hB.uniq hB2
              exact ⟨rfl, jI.of (hF.wm rfl rfl (fun r hr => w9 r (by omega)))⟩
        | 2, _ =>
          have qs := g2
          obtain ⟨sb, sz, s0, sm0, sbt, s1, sm1, s40, sn⟩ := qs
          have s32 := sbt.le
          by_cases hm : sb = 0
          · refine jPc.of (ke_heardN0_2 im Im row stk tpm Tm I2 n2 J2 W2 A bo er s0 s1 s32 s40 hm) (by decide) (by decide) (by decide) ?_
            rintro r g ⟨rfl, rfl⟩
            refine ⟨_, rfl, jPr.of (me_heardN0 R J d e kp nm Wm 2 (by decide) sm0 sm1 s32 s40 hm) (by decide) ⟨_, rfl⟩ ?_⟩
            rintro r2 g2 ⟨rfl, rfl⟩
            exact ⟨rfl, jI.of (hF.err (by decide))⟩
          · by_cases h2 : sz < 2
            · refine jPc.of (ke_heardS0_2 im Im row stk tpm Tm I2 n2 J2 W2 A bo er s0 s1 s32 s40 hm h2) (by decide) (by decide) (by decide) ?_
              rintro r g ⟨rfl, rfl⟩
              refine ⟨_, rfl, jPr.of (me_heardZ0 R J d e kp nm Wm 2 (by decide) sm0 sm1 s32 s40 hm h2) (by decide) ⟨_, rfl⟩ ?_⟩
              rintro r2 g2 ⟨rfl, rfl⟩
              exact ⟨rfl, jI.of (hF.err (by decide))⟩
            · have hn1 : ∀ g, jz_n n2 sz g sz 0 0 = jz_n (fun k => Wm 3 (40 * 2 + k)) sz g sz 0 0 := fun g => jz_n_eq (fun k hk => sn k (by omega)) sz 0 0
              have hn2 : ∀ g, jz_f n2 sz g sz 0 0 = jz_f (fun k => Wm 3 (40 * 2 + k)) sz g sz 0 0 := fun g => jz_f_eq (fun k hk => sn k (by omega)) sz 0 0
              refine jPc.of (kx_heard0_2 im Im row stk tpm Tm I2 n2 J2 W2 s0 s1 s32 s40 hm (by omega)) (by decide) (by decide) (by decide) ?_
              rintro r g ⟨b9, hB, rfl, rfl⟩
              refine ⟨_, rfl, jPr.of (mx_heard0 R J d e kp nm Wm 2 (by decide) sm0 sm1 s32 s40 hm (by omega)) (by decide) ⟨_, rfl⟩ ?_⟩
              rintro r2 g2 ⟨c9, V9, hB2, rfl, w9, rfl⟩
              rw [← funext hn1] at hB2
              cases hB.uniq hB2
              exact ⟨rfl, jI.of (hF.wm rfl rfl (fun r hr => w9 r (by omega)))⟩
        | 3, _ =>
          have qs := g3
          obtain ⟨sb, sz, s0, sm0, sbt, s1, sm1, s40, sn⟩ := qs
          have s32 := sbt.le
          by_cases hm : sb = 0
          · refine jPc.of (ke_heardN0_3 im Im row stk tpm Tm I3 n3 J3 W3 A bo er s0 s1 s32 s40 hm) (by decide) (by decide) (by decide) ?_
            rintro r g ⟨rfl, rfl⟩
            refine ⟨_, rfl, jPr.of (me_heardN0 R J d e kp nm Wm 3 (by decide) sm0 sm1 s32 s40 hm) (by decide) ⟨_, rfl⟩ ?_⟩
            rintro r2 g2 ⟨rfl, rfl⟩
            exact ⟨rfl, jI.of (hF.err (by decide))⟩
          · by_cases h2 : sz < 2
            · refine jPc.of (ke_heardS0_3 im Im row stk tpm Tm I3 n3 J3 W3 A bo er s0 s1 s32 s40 hm h2) (by decide) (by decide) (by decide) ?_
              rintro r g ⟨rfl, rfl⟩
              refine ⟨_, rfl, jPr.of (me_heardZ0 R J d e kp nm Wm 3 (by decide) sm0 sm1 s32 s40 hm h2) (by decide) ⟨_, rfl⟩ ?_⟩
              rintro r2 g2 ⟨rfl, rfl⟩
              exact ⟨rfl, jI.of (hF.err (by decide))⟩
            · have hn1 : ∀ g, jz_n n3 sz g sz 0 0 = jz_n (fun k => Wm 3 (40 * 3 + k)) sz g sz 0 0 := fun g => jz_n_eq (fun k hk => sn k (by omega)) sz 0 0
              have hn2 : ∀ g, jz_f n3 sz g sz 0 0 = jz_f (fun k => Wm 3 (40 * 3 + k)) sz g sz 0 0 := fun g => jz_f_eq (fun k hk => sn k (by omega)) sz 0 0
              refine jPc.of (kx_heard0_3 im Im row stk tpm Tm I3 n3 J3 W3 s0 s1 s32 s40 hm (by omega)) (by decide) (by decide) (by decide) ?_
              rintro r g ⟨b9, hB, rfl, rfl⟩
              refine ⟨_, rfl, jPr.of (mx_heard0 R J d e kp nm Wm 3 (by decide) sm0 sm1 s32 s40 hm (by omega)) (by decide) ⟨_, rfl⟩ ?_⟩
              rintro r2 g2 ⟨c9, V9, hB2, rfl, w9, rfl⟩
              rw [← funext hn1] at hB2
              cases hB.uniq hB2
              exact ⟨rfl, jI.of (hF.wm rfl rfl (fun r hr => w9 r (by omega)))⟩
      · refine jPc.of (ke_heard im Im row stk tpm Tm A bo er _ _ (fun z => hs z.1)) (by decide) (by decide) (by decide) ?_
        rintro r g ⟨rfl, rfl⟩
        refine ⟨_, rfl, jPr.of (me_heardS0 R J d e kp nm Wm _ hs) (by decide) ⟨_, rfl⟩ ?_⟩
        rintro r2 g2 ⟨rfl, rfl⟩
        exact ⟨rfl, jI.of (hF.err (by decide))⟩
    | 1, _ =>
      by_cases hs : jn_b s 0 4
      · obtain ⟨s_, ls_, us_, rfl⟩ := hs
        match s_, us_ with
        | 0, _ =>
          have qs := g0
          obtain ⟨sb, sz, s0, sm0, sbt, s1, sm1, s40, sn⟩ := qs
          have s32 := sbt.le
          by_cases hm : sb = 0
          · refine jPc.of (ke_heardN1_0 im Im row stk tpm Tm I0 n0 J0 W0 A bo er s0 s1 s32 s40 hm) (by decide) (by decide) (by decide) ?_
            rintro r g ⟨rfl, rfl⟩
            refine ⟨_, rfl, jPr.of (me_heardN1 R J d e kp nm Wm 0 (by decide) sm0 sm1 s32 s40 hm) (by decide) ⟨_, rfl⟩ ?_⟩
            rintro r2 g2 ⟨rfl, rfl⟩
            exact ⟨rfl, jI.of (hF.err (by decide))⟩
          · by_cases h2 : sz < 2
            · refine jPc.of (ke_heardS1_0 im Im row stk tpm Tm I0 n0 J0 W0 A bo er s0 s1 s32 s40 hm h2) (by decide) (by decide) (by decide) ?_
              rintro r g ⟨rfl, rfl⟩
              refine ⟨_, rfl, jPr.of (me_heardZ1 R J d e kp nm Wm 0 (by decide) sm0 sm1 s32 s40 hm h2) (by decide) ⟨_, rfl⟩ ?_⟩
              rintro r2 g2 ⟨rfl, rfl⟩
              exact ⟨rfl, jI.of (hF.err (by decide))⟩
            · have hn1 : ∀ g, jz_n n0 sz g sz 0 0 = jz_n (fun k => Wm 3 (40 * 0 + k)) sz g sz 0 0 := fun g => jz_n_eq (fun k hk => sn k (by omega)) sz 0 0
              have hn2 : ∀ g, jz_f n0 sz g sz 0 0 = jz_f (fun k => Wm 3 (40 * 0 + k)) sz g sz 0 0 := fun g => jz_f_eq (fun k hk => sn k (by omega)) sz 0 0
              refine jPc.of (kx_heard1_0 im Im row stk tpm Tm I0 n0 J0 W0 s0 s1 s32 s40 hm (by omega)) (by decide) (by decide) (by decide) ?_
              rintro r g ⟨b9, hB, rfl, rfl⟩
              refine ⟨_, rfl, jPr.of (mx_heard1 R J d e kp nm Wm 0 (by decide) sm0 sm1 s32 s40 hm (by omega)) (by decide) ⟨_, rfl⟩ ?_⟩
              rintro r2 g2 ⟨c9, V9, hB2, rfl, w9, rfl⟩
              rw [← funext hn1] at hB2
              cases hB.uniq hB2
              exact ⟨by rw [hn1], jI.of (hF.wm rfl rfl (fun r hr => w9 r (by omega)))⟩
        | 1, _ =>
          have qs := g1
          obtain ⟨sb, sz, s0, sm0, sbt, s1, sm1, s40, sn⟩ := qs
          have s32 := sbt.le
          by_cases hm : sb = 0
          · refine jPc.of (ke_heardN1_1 im Im row stk tpm Tm I1 n1 J1 W1 A bo er s0 s1 s32 s40 hm) (by decide) (by decide) (by decide) ?_
            rintro r g ⟨rfl, rfl⟩
            refine ⟨_, rfl, jPr.of (me_heardN1 R J d e kp nm Wm 1 (by decide) sm0 sm1 s32 s40 hm) (by decide) ⟨_, rfl⟩ ?_⟩
            rintro r2 g2 ⟨rfl, rfl⟩
            exact ⟨rfl, jI.of (hF.err (by decide))⟩
          · by_cases h2 : sz < 2
            · refine jPc.of (ke_heardS1_1 im Im row stk tpm Tm I1 n1 J1 W1 A bo er s0 s1 s32 s40 hm h2) (by decide) (by decide) (by decide) ?_
              rintro r g ⟨rfl, rfl⟩
              refine ⟨_, rfl, jPr.of (me_heardZ1 R J d e kp nm Wm 1 (by decide) sm0 sm1 s32 s40 hm h2) (by decide) ⟨_, rfl⟩ ?_⟩
              rintro r2 g2 ⟨rfl, rfl⟩
              exact ⟨rfl, jI.of (hF.err (by decide))⟩
            · have hn1 : ∀ g, jz_n n1 sz g sz 0 0 = jz_n (fun k => Wm 3 (40 * 1 + k)) sz g sz 0 0 := fun g => jz_n_eq (fun k hk => sn k (by omega)) sz 0 0
              have hn2 : ∀ g, jz_f n1 sz g sz 0 0 = jz_f (fun k => Wm 3 (40 * 1 + k)) sz g sz 0 0 := fun g => jz_f_eq (fun k hk => sn k (by omega)) sz 0 0
              refine jPc.of (kx_heard1_1 im Im row stk tpm Tm I1 n1 J1 W1 s0 s1 s32 s40 hm (by omega)) (by decide) (by decide) (by decide) ?_
              rintro r g ⟨b9, hB, rfl, rfl⟩
              refine ⟨_, rfl, jPr.of (mx_heard1 R J d e kp nm Wm 1 (by decide) sm0 sm1 s32 s40 hm (by omega)) (by decide) ⟨_, rfl⟩ ?_⟩
              rintro r2 g2 ⟨c9, V9, hB2, rfl, w9, rfl⟩
              rw [← funext hn1] at hB2
              cases hB.uniq hB2
              exact ⟨by rw [hn1], jI.of (hF.wm rfl rfl (fun r hr => w9 r (by omega)))⟩
        | 2, _ =>
          have qs := g2
          obtain ⟨sb, sz, s0, sm0, sbt, s1, sm1, s40, sn⟩ := qs
          have s32 := sbt.le
          by_cases hm : sb = 0
          · refine jPc.of (ke_heardN1_2 im Im row stk tpm Tm I2 n2 J2 W2 A bo er s0 s1 s32 s40 hm) (by decide) (by decide) (by decide) ?_
            rintro r g ⟨rfl, rfl⟩
            refine ⟨_, rfl, jPr.of (me_heardN1 R J d e kp nm Wm 2 (by decide) sm0 sm1 s32 s40 hm) (by decide) ⟨_, rfl⟩ ?_⟩
            rintro r2 g2 ⟨rfl, rfl⟩
            exact ⟨rfl, jI.of (hF.err (by decide))⟩
          · by_cases h2 : sz < 2
            · refine jPc.of (ke_heardS1_2 im Im row stk tpm Tm I2 n2 J2 W2 A bo er s0 s1 s32 s40 hm h2) (by decide) (by decide) (by decide) ?_
              rintro r g ⟨rfl, rfl⟩
              refine ⟨_, rfl, jPr.of (me_heardZ1 R J d e kp nm Wm 2 (by decide) sm0 sm1 s32 s40 hm h2) (by decide) ⟨_, rfl⟩ ?_⟩
              rintro r2 g2 ⟨rfl, rfl⟩
              exact ⟨rfl, jI.of (hF.err (by decide))⟩
            · have hn1 : ∀ g, jz_n n2 sz g sz 0 0 = jz_n (fun k => Wm 3 (40 * 2 + k)) sz g sz 0 0 := fun g => jz_n_eq (fun k hk => sn k (by omega)) sz 0 0
              have hn2 : ∀ g, jz_f n2 sz g sz 0 0 = jz_f (fun k => Wm 3 (40 * 2 + k)) sz g sz 0 0 := fun g => jz_f_eq (fun k hk => sn k (by omega)) sz 0 0
              refine jPc.of (kx_heard1_2 im Im row stk tpm Tm I2 n2 J2 W2 s0 s1 s32 s40 hm (by omega)) (by decide) (by decide) (by decide) ?_
              rintro r g ⟨b9, hB, rfl, rfl⟩
              refine ⟨_, rfl, jPr.of (mx_heard1 R J d e kp nm Wm 2 (by decide) sm0 sm1 s32 s40 hm (by omega)) (by decide) ⟨_, rfl⟩ ?_⟩
              rintro r2 g2 ⟨c9, V9, hB2, rfl, w9, rfl⟩
              rw [← funext hn1] at hB2
              cases hB.uniq hB2
              exact ⟨by rw [hn1], jI.of (hF.wm rfl rfl (fun r hr => w9 r (by omega)))⟩
        | 3, _ =>
          have qs := g3
          obtain ⟨sb, sz, s0, sm0, sbt, s1, sm1, s40, sn⟩ := qs
          have s32 := sbt.le
          by_cases hm : sb = 0
          · refine jPc.of (ke_heardN1_3 im Im row stk tpm Tm I3 n3 J3 W3 A bo er s0 s1 s32 s40 hm) (by decide) (by decide) (by decide) ?_
            rintro r g ⟨rfl, rfl⟩
            refine ⟨_, rfl, jPr.of (me_heardN1 R J d e kp nm Wm 3 (by decide) sm0 sm1 s32 s40 hm) (by decide) ⟨_, rfl⟩ ?_⟩
            rintro r2 g2 ⟨rfl, rfl⟩
            exact ⟨rfl, jI.of (hF.err (by decide))⟩
          · by_cases h2 : sz < 2
            · refine jPc.of (ke_heardS1_3 im Im row stk tpm Tm I3 n3 J3 W3 A bo er s0 s1 s32 s40 hm h2) (by decide) (by decide) (by decide) ?_
              rintro r g ⟨rfl, rfl⟩
              refine ⟨_, rfl, jPr.of (me_heardZ1 R J d e kp nm Wm 3 (by decide) sm0 sm1 s32 s40 hm h2) (by decide) ⟨_, rfl⟩ ?_⟩
              rintro r2 g2 ⟨rfl, rfl⟩
              exact ⟨rfl, jI.of (hF.err (by decide))⟩
            · have hn1 : ∀ g, jz_n n3 sz g sz 0 0 = jz_n (fun k => Wm 3 (40 * 3 + k)) sz g sz 0 0 := fun g => jz_n_eq (fun k hk => sn k (by omega)) sz 0 0
              have hn2 : ∀ g, jz_f n3 sz g sz 0 0 = jz_f (fun k => Wm 3 (40 * 3 + k)) sz g sz 0 0 := fun g => jz_f_eq (fun k hk => sn k (by omega)) sz 0 0
              refine jPc.of (kx_heard1_3 im Im row stk tpm Tm I3 n3 J3 W3 s0 s1 s32 s40 hm (by omega)) (by decide) (by decide) (by decide) ?_
              rintro r g ⟨b9, hB, rfl, rfl⟩
              refine ⟨_, rfl, jPr.of (mx_heard1 R J d e kp nm Wm 3 (by decide) sm0 sm1 s32 s40 hm (by omega)) (by decide) ⟨_, rfl⟩ ?_⟩
              rintro r2 g2 ⟨c9, V9, hB2, rfl, w9, rfl⟩
              rw [← funext hn1] at hB2
              cases hB.uniq hB2
              exact ⟨by rw [hn1], jI.of (hF.wm rfl rfl (fun r hr => w9 r (by omega)))⟩
      · refine jPc.of (ke_heard im Im row stk tpm Tm A bo er _ _ (fun z => hs z.1)) (by decide) (by decide) (by decide) ?_
        rintro r g ⟨rfl, rfl⟩
        refine ⟨_, rfl, jPr.of (me_heardS1 R J d e kp nm Wm _ hs) (by decide) ⟨_, rfl⟩ ?_⟩
        rintro r2 g2 ⟨rfl, rfl⟩
        exact ⟨rfl, jI.of (hF.err (by decide))⟩
    | 2, _ =>
      by_cases hs : jn_b s 0 4
      · obtain ⟨s_, ls_, us_, rfl⟩ := hs
        match s_, us_ with
        | 0, _ =>
          have qs := g0
          obtain ⟨sb, sz, s0, sm0, sbt, s1, sm1, s40, sn⟩ := qs
          have s32 := sbt.le
          by_cases hm : sb = 0
          · refine jPc.of (ke_heardN2_0 im Im row stk tpm Tm I0 n0 J0 W0 A bo er s0 s1 s32 s40 hm) (by decide) (by decide) (by decide) ?_
            rintro r g ⟨rfl, rfl⟩
            refine ⟨_, rfl, jPr.of (me_heardN2 R J d e kp nm Wm 0 (by decide) sm0 sm1 s32 s40 hm) (by decide) ⟨_, rfl⟩ ?_⟩
            rintro r2 g2 ⟨rfl, rfl⟩
            exact ⟨rfl, jI.of (hF.err (by decide))⟩
          · by_cases h2 : sz < 2
            · refine jPc.of (ke_heardS2_0 im Im row stk tpm Tm I0 n0 J0 W0 A bo er s0 s1 s32 s40 hm h2) (by decide) (by decide) (by decide) ?_
              rintro r g ⟨rfl, rfl⟩
              refine ⟨_, rfl, jPr.of (me_heardZ2 R J d e kp nm Wm 0 (by decide) sm0 sm1 s32 s40 hm h2) (by decide) ⟨_, rfl⟩ ?_⟩
              rintro r2 g2 ⟨rfl, rfl⟩
              exact ⟨rfl, jI.of (hF.err (by decide))⟩
            · have hn1 : ∀ g, jz_n n0 sz g sz 0 0 = jz_n (fun k => Wm 3 (40 * 0 + k)) sz g sz 0 0 := fun g => jz_n_eq (fun k hk => sn k (by omega)) sz 0 0
              have hn2 : ∀ g, jz_f n0 sz g sz 0 0 = jz_f (fun k => Wm 3 (40 * 0 + k)) sz g sz 0 0 := fun g => jz_f_eq (fun k hk => sn k (by omega)) sz 0 0
              refine jPc.of (kx_heard2_0 im Im row stk tpm Tm I0 n0 J0 W0 s0 s1 s32 s40 hm (by omega)) (by decide) (by decide) (by decide) ?_
              rintro r g ⟨b9, hB, rfl, rfl⟩
              refine ⟨_, rfl, jPr.of (mx_heard2 R J d e kp nm Wm 0 (by decide) sm0 sm1 s32 s40 hm (by omega)) (by decide) ⟨_, rfl⟩ ?_⟩
              rintro r2 g2 ⟨c9, V9, hB2, rfl, w9, rfl⟩
              rw [← funext hn1] at hB2
              cases hB.uniq hB2
              exact ⟨by rw [hn2], jI.of (hF.wm rfl rfl (fun r hr => w9 r (by omega)))⟩
        | 1, _ =>
          have qs := g1
          obtain ⟨sb, sz, s0, sm0, sbt, s1, sm1, s40, sn⟩ := qs
          have s32 := sbt.le
          by_cases hm : sb = 0
          · refine jPc.of (ke_heardN2_1 im Im row stk tpm Tm I1 n1 J1 W1 A bo er s0 s1 s32 s40 hm) (by decide) (by decide) (by decide) ?_
            rintro r g ⟨rfl, rfl⟩
            refine ⟨_, rfl, jPr.of (me_heardN2 R J d e kp nm Wm 1 (by decide) sm0 sm1 s32 s40 hm) (by decide) ⟨_, rfl⟩ ?_⟩
            rintro r2 g2 ⟨rfl, rfl⟩
            exact ⟨rfl, jI.of (hF.err (by decide))⟩
          · by_cases h2 : sz < 2
            · refine jPc.of (ke_heardS2_1 im Im row stk tpm Tm I1 n1 J1 W1 A bo er s0 s1 s32 s40 hm h2) (by decide) (by decide) (by decide) ?_
              rintro r g ⟨rfl, rfl⟩
              refine ⟨_, rfl, jPr.of (me_heardZ2 R J d e kp nm Wm 1 (by decide) sm0 sm1 s32 s40 hm h2) (by decide) ⟨_, rfl⟩ ?_⟩
              rintro r2 g2 ⟨rfl, rfl⟩
              exact ⟨rfl, jI.of (hF.err (by decide))⟩
            · have hn1 : ∀ g, jz_n n1 sz g sz 0 0 = jz_n (fun k => Wm 3 (40 * 1 + k)) sz g sz 0 0 := fun g => jz_n_eq (fun k hk => sn k (by omega)) sz 0 0
              have hn2 : ∀ g, jz_f n1 sz g sz 0 0 = jz_f (fun k => Wm 3 (40 * 1 + k)) sz g sz 0 0 := fun g => jz_f_eq (fun k hk => sn k (by omega)) sz 0 0
              refine jPc.of (kx_heard2_1 im Im row stk tpm Tm I1 n1 J1 W1 s0 s1 s32 s40 hm (by omega)) (by decide) (by decide) (by decide) ?_
              rintro r g ⟨b9, hB, rfl, rfl⟩
              refine ⟨_, rfl, jPr.of (mx_heard2 R J d e kp nm Wm 1 (by decide) sm0 sm1 s32 s40 hm (by omega)) (by decide) ⟨_, rfl⟩ ?_⟩
              rintro r2 g2 ⟨c9, V9, hB2, rfl, w9, rfl⟩
              rw [← funext hn1] at hB2
              cases hB.uniq hB2
              exact ⟨by rw [hn2], jI.of (hF.wm rfl rfl (fun r hr => w9 r (by omega)))⟩
        | 2, _ =>
          have qs := g2
          obtain ⟨sb, sz, s0, sm0, sbt, s1, sm1, s40, sn⟩ := qs
          have s32 := sbt.le
          by_cases hm : sb = 0
          · refine jPc.of (ke_heardN2_2 im Im row stk tpm Tm I2 n2 J2 W2 A bo er s0 s1 s32 s40 hm) (by decide) (by decide) (by decide) ?_
            rintro r g ⟨rfl, rfl⟩
            refine ⟨_, rfl, jPr.of (me_heardN2 R J d e kp nm Wm 2 (by decide) sm0 sm1 s32 s40 hm) (by decide) ⟨_, rfl⟩ ?_⟩
            rintro r2 g2 ⟨rfl, rfl⟩
            exact ⟨rfl, jI.of (hF.err (by decide))⟩
          · by_cases h2 : sz < 2
            · refine jPc.of (ke_heardS2_2 im Im row stk tpm Tm I2 n2 J2 W2 A bo er s0 s1 s32 s40 hm h2) (by decide) (by decide) (by decide) ?_
              rintro r g ⟨rfl, rfl⟩
              refine ⟨_, rfl, jPr.of (me_heardZ2 R J d e kp nm Wm 2 (by decide) sm0 sm1 s32 s40 hm h2) (by decide) ⟨_, rfl⟩ ?_⟩
              rintro r2 g2 ⟨rfl, rfl⟩
              exact ⟨rfl, jI.of (hF.err (by decide))⟩
            · have hn1 : ∀ g, jz_n n2 sz g sz 0 0 = jz_n (fun k => Wm 3 (40 * 2 + k)) sz g sz 0 0 := fun g => jz_n_eq (fun k hk => sn k (by omega)) sz 0 0
              have hn2 : ∀ g, jz_f n2 sz g sz 0 0 = jz_f (fun k => Wm 3 (40 * 2 + k)) sz g sz 0 0 := fun g => jz_f_eq (fun k hk => sn k (by omega)) sz 0 0
              refine jPc.of (kx_heard2_2 im Im row stk tpm Tm I2 n2 J2 W2 s0 s1 s32 s40 hm (by omega)) (by decide) (by decide) (by decide) ?_
              rintro r g ⟨b9, hB, rfl, rfl⟩
              refine ⟨_, rfl, jPr.of (mx_heard2 R J d e kp nm Wm 2 (by decide) sm0 sm1 s32 s40 hm (by omega)) (by decide) ⟨_, rfl⟩ ?_⟩
              rintro r2 g2 ⟨c9, V9, hB2, rfl, w9, rfl⟩
              rw [← funext hn1] at hB2
              cases hB.uniq hB2
              exact ⟨by rw [hn2], jI.of (hF.wm rfl rfl (fun r hr => w9 r (by omega)))⟩
        | 3, _ =>
          have qs := g3
          obtain ⟨sb, sz, s0, sm0, sbt, s1, sm1, s40, sn⟩ := qs
          have s32 := sbt.le
          by_cases hm : sb = 0
          · refine jPc.of (ke_heardN2_3 im Im row stk tpm Tm I3 n3 J3 W3 A bo er s0 s1 s32 s40 hm) (by decide) (by decide) (by decide) ?_
            rintro r g ⟨rfl, rfl⟩
            refine ⟨_, rfl, jPr.of (me_heardN2 R J d e kp nm Wm 3 (by decide) sm0 sm1 s32 s40 hm) (by decide) ⟨_, rfl⟩ ?_⟩
            rintro r2 g2 ⟨rfl, rfl⟩
            exact ⟨rfl, jI.of (hF.err (by decide))⟩
          · by_cases h2 : sz < 2
            · refine jPc.of (ke_heardS2_3 im Im row stk tpm Tm I3 n3 J3 W3 A bo er s0 s1 s32 s40 hm h2) (by decide) (by decide) (by decide) ?_
              rintro r g ⟨rfl, rfl⟩
              refine ⟨_, rfl, jPr.of (me_heardZ2 R J d e kp nm Wm 3 (by decide) sm0 sm1 s32 s40 hm h2) (by decide) ⟨_, rfl⟩ ?_⟩
              rintro r2 g2 ⟨rfl, rfl⟩
              exact ⟨rfl, jI.of (hF.err (by decide))⟩
            · have hn1 : ∀ g, jz_n n3 sz g sz 0 0 = jz_n (fun k => Wm 3 (40 * 3 + k)) sz g sz 0 0 := fun g => jz_n_eq (fun k hk => sn k (by omega)) sz 0 0
              have hn2 : ∀ g, jz_f n3 sz g sz 0 0 = jz_f (fun k => Wm 3 (40 * 3 + k)) sz g sz 0 0 := fun g => jz_f_eq (fun k hk => sn k (by omega)) sz 0 0
              refine jPc.of (kx_heard2_3 im Im row stk tpm Tm I3 n3 J3 W3 s0 s1 s32 s40 hm (by omega)) (by decide) (by decide) (by decide) ?_
              rintro r g ⟨b9, hB, rfl, rfl⟩
              refine ⟨_, rfl, jPr.of (mx_heard2 R J d e kp nm Wm 3 (by decide) sm0 sm1 s32 s40 hm (by omega)) (by decide) ⟨_, rfl⟩ ?_⟩
              rintro r2 g2 ⟨c9, V9, hB2, rfl, w9, rfl⟩
              rw [← funext hn1] at hB2
              cases hB.uniq hB2
              exact ⟨by rw [hn2], jI.of (hF.wm rfl rfl (fun r hr => w9 r (by omega)))⟩
      · refine jPc.of (ke_heard im Im row stk tpm Tm A bo er _ _ (fun z => hs z.1)) (by decide) (by decide) (by decide) ?_
        rintro r g ⟨rfl, rfl⟩
        refine ⟨_, rfl, jPr.of (me_heardS2 R J d e kp nm Wm _ hs) (by decide) ⟨_, rfl⟩ ?_⟩
        rintro r2 g2 ⟨rfl, rfl⟩
        exact ⟨rfl, jI.of (hF.err (by decide))⟩
  · refine jPc.of (ke_heard im Im row stk tpm Tm A bo er _ _ (fun z => hb z.2)) (by decide) (by decide) (by decide) ?_
    rintro r g ⟨rfl, rfl⟩
    refine ⟨_, rfl, jPr.of (me_heardW R J d e kp nm Wm _ _ hb) (by decide) ⟨_, rfl⟩ ?_⟩
    rintro r2 g2 ⟨rfl, rfl⟩
    exact ⟨rfl, jI.of (hF.err (by decide))⟩
