/-! ===== what holds of both sides between calls ===== -/
def jS (X : Nat → Option (List Int32)) (V : Nat → Nat → Nat) (tp wt : Nat) (I : Nat → Int32) (W : Nat → Nat → Int32) (T : Nat → Value) (d : Nat → Int32) (s11 : List va_E) : Prop :=
  jr_ V I W ∧ jd_ V d ∧ jv_ok V ∧ V 0 0 ≤ 9999 ∧ I 1 = d 7 ∧ I 5 = nI tp ∧ d 8 = nI tp ∧ tp ≤ 50 ∧ (∀ k, k < tp → W 14 k = d (438 + k)) ∧ jp_by (W 14) tp ∧
  I 6 = nI wt ∧ d 9 = nI wt ∧ wt ≤ 20 ∧ (∀ k, k < wt → W 15 k = d (318 + k)) ∧ jx_c X T s11 ∧ jx_d X d
theorem jS.up {X : Nat → Option (List Int32)} {V V' : Nat → Nat → Nat} {tp wt : Nat} {I I' : Nat → Int32} {W W' : Nat → Nat → Int32} {T : Nat → Value} {d d' : Nat → Int32} {s11 : List va_E} (h : jS X V tp wt I W T d s11) (hr : jr_ V' I' W') (hd : jd_ V' d') (hk : jv_ok V') (h9 : V' 0 0 ≤ 9999) (hz : I' 1 = d' 7) (hf : jr_f I W I' W') (hg : jd_f d d') : jS X V' tp wt I' W' T d' s11 := by
  obtain ⟨-, -, -, -, -, h5, h8, htp, htt, hby, h6, h99, hwt, htw, hxc, hxd⟩ := h
  obtain ⟨f1, f2, f3, f4⟩ := hf
  obtain ⟨g1, g2, g3⟩ := hg
  exact ⟨hr, hd, hk, h9, hz, f1.trans h5, g1.trans h8, htp, fun k hk => by rw [f3, g3 _ (by omega)]; exact htt k hk, by rw [f3]; exact hby, f2.trans h6, g2.trans h99, hwt, fun k hk => by rw [f4, g3 _ (by omega)]; exact htw k hk, hxc, hxd.to (fun k a b => g3 k a)⟩
theorem jS.dto {X : Nat → Option (List Int32)} {V : Nat → Nat → Nat} {tp wt : Nat} {I : Nat → Int32} {W : Nat → Nat → Int32} {T : Nat → Value} {d d' : Nat → Int32} {s11 : List va_E} (h : jS X V tp wt I W T d s11) (e : ∀ k, k < 490 → d' k = d k) : jS X V tp wt I W T d' s11 := by
  obtain ⟨hr, hd, hk, h9, hz, h5, h8, htp, htt, hby, h6, h99, hwt, htw, hxc, hxd⟩ := h
  exact ⟨hr, hd.to hk e, hk, h9, hz.trans (e 7 (by omega)).symm, h5, (e 8 (by omega)).trans h8, htp, fun k hk => (htt k hk).trans (e _ (by omega)).symm, hby, h6, (e 9 (by omega)).trans h99, hwt, fun k hk => (htw k hk).trans (e _ (by omega)).symm, hxc, hxd.to (fun k a b => e k (by omega))⟩
theorem jS.app {X : Nat → Option (List Int32)} {V : Nat → Nat → Nat} {tp wt : Nat} {I : Nat → Int32} {W : Nat → Nat → Int32} {T : Nat → Value} {d : Nat → Int32} {s11 : List va_E} (h : jS X V tp wt I W T d s11) (e : va_E) : jS X V tp wt I W T d (s11 ++ [e]) := by
  obtain ⟨hr, hd, hk, h9, hz, h5, h8, htp, htt, hby, h6, h99, hwt, htw, hxc, hxd⟩ := h
  exact ⟨hr, hd, hk, h9, hz, h5, h8, htp, htt, hby, h6, h99, hwt, htw, hxc.app e, hxd⟩
/-- a school taken over: the class's copy and the reference's row -/
theorem jS.take {X : Nat → Option (List Int32)} {V : Nat → Nat → Nat} {tp wt : Nat} {I I' : Nat → Int32} {W W' : Nat → Nat → Int32} {T T' : Nat → Value} {d d' : Nat → Int32} {s11 : List va_E} (h : jS X V tp wt I W T d s11) (hr : jr_ V I' W') (e1 : I' 1 = I 1) (e5 : I' 5 = I 5) (e6 : I' 6 = I 6) (t0 : T' 0 = T 0) (t1 : T' 1 = T 1) (ht : ∀ k, k < tp → W' 14 k = W 14 k) (hw : ∀ k, k < wt → W' 15 k = W 15 k) (e : ∀ k, k < 490 → d' k = d k) : jS X V tp wt I' W' T' d' s11 := by
  obtain ⟨-, hd, hk, h9, hz, h5, h8, htp, htt, hby, h6, h99, hwt, htw, hxc, hxd⟩ := h.dto e
  exact ⟨hr, hd, hk, h9, e1.trans hz, e5.trans h5, h8, htp, fun k hk => (ht k hk).trans (htt k hk), fun k hk => by rw [ht k hk]; exact hby k hk, e6.trans h6, h99, hwt, fun k hk => (hw k hk).trans (htw k hk), hxc.to t0 t1, hxd⟩
theorem jd_.lo {V : Nat → Nat → Nat} {d d' : Nat → Int32} (hd : jd_ V d) (hk : jv_ok V) (h : ∀ k, k < 316 → ¬ k = 8 → ¬ k = 9 → ¬ k = 7 → d' k = d k) : jd_ V d' := by
  obtain ⟨e0, e1, e2, e3, e4, e5, e6, dv, ds, dd⟩ := hd
  obtain ⟨k0, k1, k2, k3, k4, k5, k6, k7, -, -, -⟩ := hk
  have g : ∀ k, k < 316 → (k < 7 ∨ 10 ≤ k) → d' k = d k := fun k a b => h k a (by omega) (by omega) (by omega)
  refine ⟨(g _ (by omega) (by omega)).trans e0, (g _ (by omega) (by omega)).trans e1, (g _ (by omega) (by omega)).trans e2, (g _ (by omega) (by omega)).trans e3, (g _ (by omega) (by omega)).trans e4, (g _ (by omega) (by omega)).trans e5, (g _ (by omega) (by omega)).trans e6, fun p hp => ?_, fun s hs => ?_, fun k hk => ?_⟩
  · rw [g _ (by omega) (by omega), g _ (by omega) (by omega), g _ (by omega) (by omega)]; exact dv p hp
  · rw [g _ (by omega) (by omega), g _ (by omega) (by omega), g _ (by omega) (by omega), g _ (by omega) (by omega), g _ (by omega) (by omega), g _ (by omega) (by omega)]; exact ds s hs
  · rw [g _ (by omega) (by omega), g _ (by omega) (by omega), g _ (by omega) (by omega), g _ (by omega) (by omega)]; exact dd k hk
/-- a sheet of each side -/
def jh1 (I num : Nat → Int32) (W : Nat → Nat → Int32) (s : Nat) : Prop := ∃ b z : Nat, I 0 = nI b ∧ W 1 s = nI b ∧ jm_bt b ∧ I 1 = nI z ∧ W 2 s = nI z ∧ z ≤ 40 ∧ ∀ k, k < 40 → num k = W 3 (40 * s + k)
theorem jh1.to {I num : Nat → Int32} {W W' : Nat → Nat → Int32} {s : Nat} (h : jh1 I num W s) (e1 : W' 1 s = W 1 s) (e2 : W' 2 s = W 2 s) (e3 : ∀ k, k < 40 → W' 3 (40 * s + k) = W 3 (40 * s + k)) : jh1 I num W' s := by
  obtain ⟨b, z, a1, a2, a3, a4, a5, a6, a7⟩ := h
  exact ⟨b, z, a1, e1.trans a2, a3, a4, e2.trans a5, a6, fun k hk => (a7 k hk).trans (e3 k hk).symm⟩
def jF (c : Nat) (im : Int32) (I : Nat → Int32) (W : Nat → Nat → Int32) (T : Nat → Value) (Ik : Nat → Int32) (Wk : Nat → Nat → Int32) (Tk : Nat → Value) (I0 n0 I1 n1 I2 n2 I3 n3 A bo er R d kp : Nat → Int32) (Wm : Nat → Nat → Int32) (s11 : List va_E) : Prop :=
  (∃ X V tp wt, jS X V tp wt I W T d s11) ∧ (im = 0 ∨ ∃ X V tp wt, jS X V tp wt Ik Wk Tk kp s11) ∧ R 0 = im ∧ (∀ k, k < 6 → er k = Wm 0 k) ∧
  (∃ t, t ≤ 40 ∧ A 2 = nI t ∧ R 3 = nI t ∧ ∀ k, k < t → bo k = Wm 10 k) ∧ jh1 I0 n0 Wm 0 ∧ jh1 I1 n1 Wm 1 ∧ jh1 I2 n2 Wm 2 ∧ jh1 I3 n3 Wm 3 ∧ s11.length ≤ c
section JF
variable {c : Nat} {im : Int32} {I : Nat → Int32} {W : Nat → Nat → Int32} {T : Nat → Value} {Ik : Nat → Int32} {Wk : Nat → Nat → Int32} {Tk : Nat → Value} {I0 n0 I1 n1 I2 n2 I3 n3 A bo er R d kp : Nat → Int32} {Wm : Nat → Nat → Int32} {s11 : List va_E}
theorem jF.sc {I' : Nat → Int32} {W' : Nat → Nat → Int32} {T' : Nat → Value} {d' : Nat → Int32} (h : jF c im I W T Ik Wk Tk I0 n0 I1 n1 I2 n2 I3 n3 A bo er R d kp Wm s11) (hS : ∃ X V tp wt, jS X V tp wt I' W' T' d' s11) : jF (c + 1) im I' W' T' Ik Wk Tk I0 n0 I1 n1 I2 n2 I3 n3 A bo er R d' kp Wm s11 := by
  obtain ⟨-, h2, h3, h4, h5, h6, h7, h8, h9, h10⟩ := h
  exact ⟨hS, h2, h3, h4, h5, h6, h7, h8, h9, by omega⟩
theorem jF.no (h : jF c im I W T Ik Wk Tk I0 n0 I1 n1 I2 n2 I3 n3 A bo er R d kp Wm s11) : jF (c + 1) im I W T Ik Wk Tk I0 n0 I1 n1 I2 n2 I3 n3 A bo er R d kp Wm s11 := h.sc h.1
theorem jF.err (h : jF c im I W T Ik Wk Tk I0 n0 I1 n1 I2 n2 I3 n3 A bo er R d kp Wm s11) {k : Nat} (hk : k < 6) : jF (c + 1) im I W T Ik Wk Tk I0 n0 I1 n1 I2 n2 I3 n3 A bo (jm_ef er k) R d kp (va_up Wm 0 (jm_ef (Wm 0) k)) s11 := by
  obtain ⟨h1, h2, h3, h4, h5, h6, h7, h8, h9, h10⟩ := h
  exact ⟨h1, h2, h3, jm_ef_eq h4 k hk, h5, h6, h7, h8, h9, by omega⟩
theorem jF.wm {R' : Nat → Int32} {Wm' : Nat → Nat → Int32} (h : jF c im I W T Ik Wk Tk I0 n0 I1 n1 I2 n2 I3 n3 A bo er R d kp Wm s11) (r0 : R' 0 = R 0) (r3 : R' 3 = R 3) (e : ∀ r, r ≤ 3 ∨ r = 10 → Wm' r = Wm r) : jF (c + 1) im I W T Ik Wk Tk I0 n0 I1 n1 I2 n2 I3 n3 A bo er R' d kp Wm' s11 := by
  obtain ⟨h1, h2, h3, h4, ⟨t, t1, t2, t3, t4⟩, h6, h7, h8, h9, h10⟩ := h
  have q : ∀ {I num : Nat → Int32} {s : Nat}, jh1 I num Wm s → jh1 I num Wm' s := fun h => h.to (by rw [e 1 (by omega)]) (by rw [e 2 (by omega)]) (fun k _ => by rw [e 3 (by omega)])
  exact ⟨h1, h2, r0.trans h3, fun k hk => by rw [e 0 (by omega)]; exact h4 k hk, ⟨t, t1, t2, r3.trans t3, fun k hk => by rw [e 10 (by omega)]; exact t4 k hk⟩, q h6, q h7, q h8, q h9, by omega⟩
theorem jF.act {A' bo' R' : Nat → Int32} {Wm' : Nat → Nat → Int32} (h : jF c im I W T Ik Wk Tk I0 n0 I1 n1 I2 n2 I3 n3 A bo er R d kp Wm s11) (r0 : R' 0 = R 0) (hY : ∃ t, t ≤ 40 ∧ A' 2 = nI t ∧ R' 3 = nI t ∧ ∀ k, k < t → bo' k = Wm' 10 k) (e : ∀ r, ¬ r = 10 → Wm' r = Wm r) : jF (c + 1) im I W T Ik Wk Tk I0 n0 I1 n1 I2 n2 I3 n3 A' bo' er R' d kp Wm' s11 := by
  obtain ⟨h1, h2, h3, h4, -, h6, h7, h8, h9, h10⟩ := h
  have q : ∀ {I num : Nat → Int32} {s : Nat}, jh1 I num Wm s → jh1 I num Wm' s := fun h => h.to (by rw [e 1 (by decide)]) (by rw [e 2 (by decide)]) (fun k _ => by rw [e 3 (by decide)])
  exact ⟨h1, h2, r0.trans h3, fun k hk => by rw [e 0 (by decide)]; exact h4 k hk, hY, q h6, q h7, q h8, q h9, by omega⟩
theorem jF.sh {I0' n0' I1' n1' I2' n2' I3' n3' : Nat → Int32} {Wm' : Nat → Nat → Int32} (h : jF c im I W T Ik Wk Tk I0 n0 I1 n1 I2 n2 I3 n3 A bo er R d kp Wm s11) (e : ∀ r, r = 0 ∨ r = 10 → Wm' r = Wm r) (g0 : jh1 I0' n0' Wm' 0) (g1 : jh1 I1' n1' Wm' 1) (g2 : jh1 I2' n2' Wm' 2) (g3 : jh1 I3' n3' Wm' 3) : jF (c + 1) im I W T Ik Wk Tk I0' n0' I1' n1' I2' n2' I3' n3' A bo er R d kp Wm' s11 := by
  obtain ⟨h1, h2, h3, h4, ⟨t, t1, t2, t3, t4⟩, h6, h7, h8, h9, h10⟩ := h
  exact ⟨h1, h2, h3, fun k hk => by rw [e 0 (by omega)]; exact h4 k hk, ⟨t, t1, t2, t3, fun k hk => by rw [e 10 (by omega)]; exact t4 k hk⟩, g0, g1, g2, g3, by omega⟩
end JF
def jI (c : Nat) (h : jb_H) : Prop := ∃ (im : Int32) (Im : Nat → Int32) (Tm : Nat → Value) (row stk tpm : Nat → Int32) (I : Nat → Int32) (W : Nat → Nat → Int32) (T : Nat → Value) (Ik : Nat → Int32) (Wk : Nat → Nat → Int32) (Tk : Nat → Value) (Ix : Nat → Int32) (Wx : Nat → Nat → Int32) (Tx : Nat → Value) (I0 n0 J0 : Nat → Int32) (W0 : Nat → Nat → Int32) (I1 n1 J1 : Nat → Int32) (W1 : Nat → Nat → Int32) (I2 n2 J2 : Nat → Int32) (W2 : Nat → Nat → Int32) (I3 n3 J3 : Nat → Int32) (W3 : Nat → Nat → Int32) (A bo er R J d e kp nm : Nat → Int32) (Wm : Nat → Nat → Int32) (s11 : List va_E),
  h = [jb_main im Im Tm row stk tpm, jb_sch13 I W T, jb_sch33 Ik Wk Tk, jb_sch53 Ix Wx Tx, jb_shs, jb_sht74 I0 n0 J0 W0, jb_sht81 I1 n1 J1 W1, jb_sht88 I2 n2 J2 W2, jb_sht95 I3 n3 J3 W3, jb_act A bo er, jb_mdl R J d e kp nm Wm, s11] ∧ jF c im I W T Ik Wk Tk I0 n0 I1 n1 I2 n2 I3 n3 A bo er R d kp Wm s11
/-- one call on both sides -/
def jPc (sc : Nat × (Nat → Int32)) (y1 : MethodName) (cc1 : ByteArray) (nL1 : Nat) (y2 : MethodName) (cc2 : ByteArray) (nL2 : Nat) (av : List Value) (c : Nat) (h : jb_H) : Prop := ∃ (d1 a1 b1 : Nat) (Q1 : Option Value → jb_H → Prop), d1 ≤ 60 ∧ a1 ≤ 1 ∧ b1 ≤ 50 ∧ jb_C sc y1 cc1 nL1 (Option.some .int) d1 a1 b1 (.ref 0 :: av) h Q1 ∧
  ∀ r h1, Q1 r h1 → ∃ v, r = some (.int v) ∧ (∃ fs, jb_look h1 105 = some (.inr (12, fs))) ∧ ∃ (d2 : Nat) (Q2 : Option Value → jb_H → Prop), d2 ≤ 60 ∧ jb_C sc y2 cc2 nL2 (Option.some .int) d2 0 0 (.ref 105 :: av) h1 Q2 ∧ ∀ r2 h2, Q2 r2 h2 → r2 = some (.int v) ∧ jI (c + 1) h2
def jP (sc : Nat × (Nat → Int32)) (y1 : MethodName) (cc1 : ByteArray) (nL1 : Nat) (y2 : MethodName) (cc2 : ByteArray) (nL2 : Nat) (av : List Value) : Prop := ∀ (c : Nat) (h : jb_H), c < 900 → jI c h → jPc sc y1 cc1 nL1 y2 cc2 nL2 av c h
theorem jp_same {f g : Nat → Int32} {l : List Int32} {k : Nat} (h : k < l.length) : jp_wr f 0 l k = jp_wr g 0 l k := by
  have h1 := jp_wr_in f 0 l k h
  have h2 := jp_wr_in g 0 l k h
  rw [Nat.zero_add] at h1 h2
  rw [h1, h2]
