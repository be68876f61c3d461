section JU
variable {sc : Nat × (Nat → Int32)} {own : String} {cc : ByteArray} {nL : Nat} {rt : Option FieldType} {ini : Bool} {d a b pc pc' : Nat} {ls : List (Option Value)} {st : List Value} {h h' : jb_H} {Q : Option Value → jb_H → Prop}
theorem jb_top {v w : Value} (e : v = w) (kk : jb_J sc own cc nL rt ini d a b pc ls (w :: st) h Q) : jb_J sc own cc nL rt ini d a b pc ls (v :: st) h Q := e ▸ kk
theorem jb_heap (e : h = h') (kk : jb_J sc own cc nL rt ini d a b pc ls st h' Q) : jb_J sc own cc nL rt ini d a b pc ls st h Q := e ▸ kk
theorem jb_locs {ls' : List (Option Value)} (e : ls = ls') (kk : jb_J sc own cc nL rt ini d a b pc ls' st h Q) : jb_J sc own cc nL rt ini d a b pc ls st h Q := e ▸ kk
/-- what isn't known of a local may be forgotten -/
theorem jb_weak {ls' : List (Option Value)} (e : ∀ (i : Nat) (v : Value), ls'[i]? = some (some v) → ls[i]? = some (some v)) (kk : jb_J sc own cc nL rt ini d a b pc ls' st h Q) : jb_J sc own cc nL rt ini d a b pc ls st h Q := by
  intro p l e9 R s m args below meth c base ρ tc D mc ms Qf H locs cells slots la X Z hrm hR hS hL
  exact kk p l e9 R s m args below meth c base ρ tc D mc ms Qf H locs cells slots la X Z hrm hR hS ⟨hL.1, hL.2.1, fun i v hv => hL.2.2 i v (e i v hv)⟩
/-! Math's -/
theorem jb_mmax {idx n : Nat} {x y : Int32} (hw : jb_wS own idx yJ9_max_7cf53 cJ9_max_7cf53 2 (some .int) n) (hd : decode cc pc = .ok (.invokestatic idx, 3)) (hd1 : 1 ≤ d) (hst : (st.map Value.category).sum ≤ 8) (hp : pc + 3 = pc') (kk : jb_J sc own cc nL rt ini d a b pc' ls (.int (if x < y then y else x) :: st) h Q) : jb_J sc own cc nL rt ini d a b pc ls (.int y :: .int x :: st) h Q := by
  subst hp
  intro p l e R s m args below meth c base ρ tc D mc ms Qf H locs cells slots la X Z hrm hR hS hL
  have hN := X.2.2.2.2.1.2.1
  obtain ⟨w1, w2, w3, w4, -⟩ := hw
  have hw9 := jb_words (m := m) (pc := pc) (la := la) (st0 := []) (σ := jb_sg base ρ) hst
  have h9 : 2 * 0 + ((st.map (jb_cv (jb_sg base ρ))).map fun v => v.category).sum ≤ 8 := hw9
  exact va_mmax X.1 X.2.1 (X.2.2.1.trans hL.1.symm) X.2.2.2.1 (hN.use w3) (hN.use w4) (hN.use w2) (hN.use w1) (by omega) (by omega) (by omega) (by omega) hd (kk p l e R s m args below meth c base ρ tc D mc ms Qf H locs cells slots la X Z hrm hR hS hL)
theorem jb_mmin {idx n : Nat} {x y : Int32} (hw : jb_wS own idx yJ9_min_7cf53 cJ9_min_7cf53 2 (some .int) n) (hd : decode cc pc = .ok (.invokestatic idx, 3)) (hd1 : 1 ≤ d) (hst : (st.map Value.category).sum ≤ 8) (hp : pc + 3 = pc') (kk : jb_J sc own cc nL rt ini d a b pc' ls (.int (if y < x then y else x) :: st) h Q) : jb_J sc own cc nL rt ini d a b pc ls (.int y :: .int x :: st) h Q := by
  subst hp
  intro p l e R s m args below meth c base ρ tc D mc ms Qf H locs cells slots la X Z hrm hR hS hL
  have hN := X.2.2.2.2.1.2.1
  obtain ⟨w1, w2, w3, w4, -⟩ := hw
  have hw9 := jb_words (m := m) (pc := pc) (la := la) (st0 := []) (σ := jb_sg base ρ) hst
  have h9 : 2 * 0 + ((st.map (jb_cv (jb_sg base ρ))).map fun v => v.category).sum ≤ 8 := hw9
  exact va_mmin X.1 X.2.1 (X.2.2.1.trans hL.1.symm) X.2.2.2.1 (hN.use w3) (hN.use w4) (hN.use w2) (hN.use w1) (by omega) (by omega) (by omega) (by omega) hd (kk p l e R s m args below meth c base ρ tc D mc ms Qf H locs cells slots la X Z hrm hR hS hL)
theorem jb_mabsl {idx n : Nat} {x : Int64} (hw : jb_wS own idx yJ9_abs_067f4 cJ9_abs_067f4 2 (some .long) n) (hd : decode cc pc = .ok (.invokestatic idx, 3)) (hd1 : 1 ≤ d) (hst : (st.map Value.category).sum ≤ 8) (hp : pc + 3 = pc') (kk : jb_J sc own cc nL rt ini d a b pc' ls (.long (if 0 < x then x else -x) :: st) h Q) : jb_J sc own cc nL rt ini d a b pc ls (.long x :: st) h Q := by
  subst hp
  intro p l e R s m args below meth c base ρ tc D mc ms Qf H locs cells slots la X Z hrm hR hS hL
  have hN := X.2.2.2.2.1.2.1
  obtain ⟨w1, w2, w3, w4, -⟩ := hw
  have hw9 := jb_words (m := m) (pc := pc) (la := la) (st0 := []) (σ := jb_sg base ρ) hst
  have h9 : 2 * 0 + ((st.map (jb_cv (jb_sg base ρ))).map fun v => v.category).sum ≤ 8 := hw9
  exact va_mabs_long X.1 X.2.1 (X.2.2.1.trans hL.1.symm) X.2.2.2.1 (hN.use w3) (hN.use w4) (hN.use w2) (hN.use w1) (by omega) (by omega) (by omega) (by omega) hd (kk p l e R s m args below meth c base ρ tc D mc ms Qf H locs cells slots la X Z hrm hR hS hL)
end JU
theorem jb_inc (j n : Nat) : nI j + Int32.ofInt (n : Int) = nI (j + n) := by
  rw [show Int32.ofInt (n : Int) = nI n from Int32.ofInt_eq_ofNat (n := n)]
  exact nI_add j n
theorem jb_vI {x y : Int32} (h : x = y) : Value.int x = Value.int y := by rw [h]
theorem jb_vL {x y : Int64} (h : x = y) : Value.long x = Value.long y := by rw [h]
/-! ===== the mathematical school: rows of numbers. Row 0: second, voices, shouts, dues, delay, fog, wind; 1 to 3 kind, m, cliff of a voice; 4 to 9 second, by, cliff, word, to (one more; 0: none), over of a shout; 10 to 13 by, word, to, second of what is due ===== -/
def jv_up (V : Nat → Nat → Nat) (w j x : Nat) : Nat → Nat → Nat := va_up V w (va_up (V w) j x)
def jm_thk (k m fg wd : Nat) : Nat := match k with
  | 0 => 3
  | 1 => 3 - m
  | 2 => 3 + m
  | 3 => 1
  | 4 => 3 - m + (if fg = 0 then 0 else 1)
  | 5 => 3 + m + wd
  | _ => 2 + m
def jm_th (V : Nat → Nat → Nat) (p : Nat) : Nat := jm_thk (V 1 p) (V 2 p) (V 0 5) (V 0 6)
def jm_pl (wd w : Nat) : Int32 := if w % 2 = 0 then 9 else 9 - nI wd
def jm_owk (k m wd w : Nat) : Int32 := match k with
  | 3 => 10
  | 4 => jm_pl wd w - nI (m / 3)
  | 5 => jm_pl wd w / 2
  | 6 => 10 - nI wd
  | _ => jm_pl wd w
def jm_cl (lo hi x : Int32) : Int32 := if x < lo then lo else if hi < x then hi else x
abbrev jm_G : Type := Nat → Int32 → Int32 → Int32 → Int32 → Int32
def jm_ca (V : Nat → Nat → Nat) (G : jm_G) (p w : Nat) : Int32 := jm_cl 0 10 (jm_owk (V 1 p) (V 2 p) (V 0 6) w + G 0 (nI w) (nI (V 0 5)) (nI (V 0 6)) (nI (V 1 p)))
def jm_sak (k m w g : Nat) : Nat := match k with
  | 6 => w
  | 4 => (g + m) % 40
  | _ => g
def jm_sa (V : Nat → Nat → Nat) (G : jm_G) (p w : Nat) : Nat := jm_sak (V 1 p) (V 2 p) w (G 1 (nI w) (nI (V 2 p)) (nI (V 3 p)) 0).toNatClampNeg
def jm_qb (V : Nat → Nat → Nat) (p : Nat) : Option Nat → Bool
  | none => true
  | some q => decide (jm_th V p < jm_th V q)
def jm_qk (V : Nat → Nat → Nat) (c : Nat) : Nat → Nat → Option Nat → Option Nat
  | 0, _, b => b
  | n + 1, p, b => jm_qk V c n (p + 1) (if V 3 p = c ∧ jm_qb V p b = true then some p else b)
def jm_q (V : Nat → Nat → Nat) (c : Nat) : Option Nat := jm_qk V c (V 0 1) 0 none
def jm_due (V : Nat → Nat → Nat) (q w s : Nat) : Nat → Nat → Nat :=
  jv_up (jv_up (jv_up (jv_up (jv_up V 10 (V 0 3) q) 11 (V 0 3) w) 12 (V 0 3) s) 13 (V 0 3) (V 0 0 + jm_th V q)) 0 3 (V 0 3 + 1)
def jm_dr (z : Int32) : Int32 := z * 1103515245 + 12345
def jm_us (z : Int32) : Int32 := (z.toUInt32 >>> ((8 : Int32).toUInt32 &&& Int32.toUInt32 31)).toInt32
def jm_hd (lo : Bool) (z c : Int32) : Bool := if lo then decide (jm_us z - jm_us z / 10 * 10 < c) else decide (5 ≤ c)
def jm_co (G : jm_G) (lo : Bool) (s : Nat) (x : (Nat → Nat → Nat) × Int32) : (Nat → Nat → Nat) × Int32 :=
  let V := x.1
  let z := if lo then jm_dr x.2 else x.2
  (if jm_hd lo z (jm_ca V G (V 5 s) (V 7 s)) = true ∧ V 7 s % 2 = 0 ∧ V 0 3 < 12 then (match jm_q V (1 - V 6 s) with | none => V | some q => jm_due V q (jm_sa V G q (V 7 s)) s) else V, z)
def jm_cs (G : jm_G) (lo : Bool) : Nat → Nat → (Nat → Nat → Nat) × Int32 → (Nat → Nat → Nat) × Int32
  | 0, _, x => x
  | n + 1, s, x => jm_cs G lo n (s + 1) (if x.1 9 s = x.1 0 0 then jm_co G lo s x else x)
def jm_sh (V : Nat → Nat → Nat) (by_ w to1 : Nat) : Nat → Nat → Nat :=
  jv_up (jv_up (jv_up (jv_up (jv_up (jv_up (jv_up V 4 (V 0 2) (V 0 0)) 5 (V 0 2) by_) 6 (V 0 2) (V 3 by_)) 7 (V 0 2) w) 8 (V 0 2) to1) 9 (V 0 2) (V 0 0 + (V 0 4 + V 0 5))) 0 2 (V 0 2 + 1)
def jm_as (V : Nat → Nat → Nat) (by_ w to1 : Nat) : Nat → Nat → Nat := if V 0 2 < 40 then jm_sh V by_ w to1 else V
def jm_mv (V : Nat → Nat → Nat) (l i : Nat) : Nat → Nat → Nat := jv_up (jv_up (jv_up (jv_up V 10 l (V 10 i)) 11 l (V 11 i)) 12 l (V 12 i)) 13 l (V 13 i)
def jm_sd : Nat → Nat → Nat → (Nat → Nat → Nat) → (Nat → Nat → Nat) × Nat
  | 0, _, l, V => (V, l)
  | n + 1, i, l, V => if V 13 i ≤ V 0 0 then jm_sd n (i + 1) l (jm_as V (V 10 i) (V 11 i) (V 12 i + 1)) else jm_sd n (i + 1) (l + 1) (jm_mv V l i)
def jm_du (V : Nat → Nat → Nat) : Nat → Nat → Nat := jv_up (jm_sd (V 0 3) 0 0 V).1 0 3 (jm_sd (V 0 3) 0 0 V).2
def jm_se (G : jm_G) (lo : Bool) (x : (Nat → Nat → Nat) × Int32) : (Nat → Nat → Nat) × Int32 :=
  let y := jm_cs G lo (x.1 0 2) 0 x
  let V := jm_du y.1
  (jv_up V 0 0 (V 0 0 + 1), y.2)
def jm_pa (G : jm_G) (lo : Bool) : Nat → (Nat → Nat → Nat) × Int32 → (Nat → Nat → Nat) × Int32
  | 0, x => x
  | n + 1, x => jm_pa G lo n (jm_se G lo x)
def jm_it (V : Nat → Nat → Nat) (q : Nat) : Nat → Nat → Bool
  | 0, _ => false
  | n + 1, s => if V 8 s = q + 1 ∧ V 7 s = V 7 q + 1 ∧ V 9 s < V 0 0 then true else jm_it V q n (s + 1)
def jm_tk (V : Nat → Nat → Nat) : Nat → Nat → Nat → Nat
  | 0, _, k => k
  | n + 1, q, k => jm_tk V n (q + 1) (if V 7 q % 2 = 0 ∧ jm_it V q (V 0 2) 0 = true then k + 1 else k)
def jm_ta (V : Nat → Nat → Nat) : Nat := jm_tk V (V 0 2) 0 0
/-- what the numbers of a school keep to -/
def jv_ok (V : Nat → Nat → Nat) : Prop :=
  V 0 0 ≤ 20000 ∧ V 0 1 ≤ 6 ∧ V 0 2 ≤ 40 ∧ V 0 3 ≤ 12 ∧ 1 ≤ V 0 4 ∧ V 0 4 ≤ 20 ∧ V 0 5 ≤ 9 ∧ V 0 6 ≤ 9 ∧
  (∀ p, p < V 0 1 → V 1 p < 7 ∧ V 2 p < 10 ∧ V 3 p < 2) ∧
  (∀ s, s < V 0 2 → V 4 s ≤ 20000 ∧ V 5 s < V 0 1 ∧ V 6 s < 2 ∧ V 7 s < 40 ∧ V 8 s ≤ s ∧ V 9 s ≤ 20100) ∧
  (∀ k, k < V 0 3 → V 10 k < V 0 1 ∧ V 11 k < 40 ∧ V 12 k < V 0 2 ∧ V 13 k ≤ 20100)
/-- 'to' as it is told: one less -/
def jv_t (w x : Nat) : Int32 := if w = 8 then nI x - 1 else nI x
/-- the class's rows hold V -/
def jr_ (V : Nat → Nat → Nat) (I : Nat → Int32) (W : Nat → Nat → Int32) : Prop :=
  I 0 = nI (V 0 0) ∧ I 2 = nI (V 0 1) ∧ I 3 = nI (V 0 2) ∧ I 4 = nI (V 0 3) ∧ W 0 0 = nI (V 0 4) ∧ W 0 1 = nI (V 0 5) ∧ W 0 2 = nI (V 0 6) ∧
  (∀ p, p < V 0 1 → W 1 p = nI (V 1 p) ∧ W 2 p = nI (V 2 p) ∧ W 3 p = nI (V 3 p)) ∧
  (∀ s, s < V 0 2 → W 4 s = nI (V 4 s) ∧ W 5 s = nI (V 5 s) ∧ W 6 s = nI (V 6 s) ∧ W 7 s = nI (V 7 s) ∧ W 8 s = nI (V 8 s) - 1 ∧ W 9 s = nI (V 9 s)) ∧
  (∀ k, k < V 0 3 → W 10 k = nI (V 10 k) ∧ W 11 k = nI (V 11 k) ∧ W 12 k = nI (V 12 k) ∧ W 13 k = nI (V 13 k))
/-- the tape and the numbers that wait stay -/
def jr_f (I : Nat → Int32) (W : Nat → Nat → Int32) (I' : Nat → Int32) (W' : Nat → Nat → Int32) : Prop := I' 5 = I 5 ∧ I' 6 = I 6 ∧ W' 14 = W 14 ∧ W' 15 = W 15
def jm_Gok (G : jm_G) : Prop := ∀ a b c d, ∃ k, k < 40 ∧ G 1 a b c d = nI k
theorem jb_pn1 : plainName "java/lang/String" = true := by decide +kernel
