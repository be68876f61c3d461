section JU
variable {sc : Nat × (Nat → Int32)} {own : String} {cc : ByteArray} {nL : Nat} {rt : Option FieldType} {ini : Bool} {d a b pc pc' : Nat} {ls : List (Option Value)} {st : List Value} {h h' : jb_H} {Q : Option Value → jb_H → Prop}
theorem jb_top {v w : Value} (e : v = w) (kk : jb_J sc own cc nL rt ini d a b pc ls (w :: st) h Q) : jb_J sc own cc nL rt ini d a b pc ls (v :: st) h Q := e ▸ kk
theorem jb_heap (e : h = h') (kk : jb_J sc own cc nL rt ini d a b pc ls st h' Q) : jb_J sc own cc nL rt ini d a b pc ls st h Q := e ▸ kk
theorem jb_locs {ls' : List (Option Value)} (e : ls = ls') (kk : jb_J sc own cc nL rt ini d a b pc ls' st h Q) : jb_J sc own cc nL rt ini d a b pc ls st h Q := e ▸ kk
/-- what isn't known of a local may be forgotten -/
theorem jb_weak {ls' : List (Option Value)} (e : ∀ (i : Nat) (v : Value), ls'[i]? = some (some v) → ls[i]? = some (some v)) (kk : jb_J sc own cc nL rt ini d a b pc ls' st h Q) : jb_J sc own cc nL rt ini d a b pc ls st h Q := by
  intro p l e9 R s m args below meth c base ρ tc D mc ms Qf H locs cells slots la X Z hrm hR hS hL
  exact kk p l e9 R s m args below meth c base ρ tc D mc ms Qf H locs cells slots la X Z hrm hR hS ⟨hL.1, hL.2.1, fun i v hv => hL.2.2 i v (e i v hv)⟩
end JU
theorem jb_inc (j n : Nat) : nI j + Int32.ofInt (n : Int) = nI (j + n) := by
  rw [show Int32.ofInt (n : Int) = nI n from Int32.ofInt_eq_ofNat (n := n)]
  exact nI_add j n
theorem jb_pn1 : plainName "java/lang/String" = true := by decide +kernel
theorem jb_pn2 : plainName "java/lang/StringLatin1" = true := by decide +kernel
theorem jb_pn3 : plainName "java/util/Arrays" = true := by decide +kernel
