theorem jb_R.lt {base : Nat} {σ : Nat → Nat} {tc : Nat → ClassId} {D : va_G} {h : jb_H} {H : Heap} (hR : jb_R base σ tc D h H) {q : Nat} {e : va_E} (hl : jb_look h q = some e) : q < 1000000 := by
  obtain ⟨n, h1, h2, h3, h4⟩ := hR
  by_cases hq : n ≤ q
  · rw [(h3 q).mpr hq] at hl; cases hl
  · omega
theorem jb_R.sg {base : Nat} {σ : Nat → Nat} {ρ : Nat → Nat} {tc : Nat → ClassId} {D : va_G} {h : jb_H} {H : Heap} (hR : jb_R base σ tc D h H) {q : Nat} {e : va_E} (hl : jb_look h q = some e) : jb_sg base ρ q = base + q := if_pos (hR.lt hl)
theorem jb_R.at {base : Nat} {σ : Nat → Nat} {tc : Nat → ClassId} {D : va_G} {h : jb_H} {H : Heap} (hR : jb_R base σ tc D h H) {q : Nat} {e : va_E} (hl : jb_look h q = some e) : va_P D vwCl [(base + q, jb_ce σ tc e)] H := by
  intro k p hp
  have hk : k < 1 := (List.getElem?_eq_some_iff.mp hp).1
  rw [show k = 0 by omega] at hp
  cases hp
  exact hR.choose_spec.2.2.2 q e hl
theorem jb_R.put {base : Nat} {σ : Nat → Nat} {tc : Nat → ClassId} {D : va_G} {h : jb_H} {H H1 : Heap} (hR : jb_R base σ tc D h H) {q : Nat} {e0 e : va_E} (hl : jb_look h q = some e0) (hz : H1.size = H.size) (oq : ∀ x : Nat, x ≠ base + q → H1[x]? = H[x]?) (he : va_at D vwCl (base + q, jb_ce σ tc e) H1) : jb_R base σ tc D (jb_put h q e) H1 := by
  obtain ⟨n, h1, h2, h3, h4⟩ := hR
  refine ⟨n, h1, by rw [hz]; exact h2, fun k => ?_, fun k x hx => ?_⟩
  · rw [jb_look_put hl]
    by_cases hk : k = q
    · subst hk
      rw [if_pos rfl]
      constructor
      · intro q; cases q
      · intro q
        rw [(h3 k).mpr q] at hl; cases hl
    · rw [if_neg hk]; exact h3 k
  · rw [jb_look_put hl] at hx
    by_cases hk : k = q
    · subst hk
      rw [if_pos rfl] at hx
      cases hx
      exact he
    · rw [if_neg hk] at hx
      exact (h4 k x hx).kept (oq _ (by show base + k ≠ base + q; omega))
theorem jb_R.add {base : Nat} {σ : Nat → Nat} {tc : Nat → ClassId} {D : va_G} {h h' : jb_H} {H H1 : Heap} (hR : jb_R base σ tc D h H) {k : Nat} {e : va_E} (hk : H.size = base + k) (hk9 : k < 900000) (hl : ∀ j, jb_look h' j = if j = k then some e else jb_look h j) (hz : H1.size = H.size + 1) (oq : ∀ x : Nat, x < H.size → H1[x]? = H[x]?) (he : va_at D vwCl (base + k, jb_ce σ tc e) H1) : jb_R base σ tc D h' H1 := by
  obtain ⟨n, h1, h2, h3, h4⟩ := hR
  have hn : n = k := by omega
  subst hn
  refine ⟨n + 1, by omega, by omega, fun j => ?_, fun j x hx => ?_⟩
  · rw [hl]
    by_cases hj : j = n
    · rw [if_pos hj]
      constructor
      · intro q; cases q
      · intro q; omega
    · rw [if_neg hj, h3]; omega
  · rw [hl] at hx
    by_cases hj : j = n
    · subst hj
      rw [if_pos rfl] at hx
      cases hx
      exact he
    · rw [if_neg hj] at hx
      have hv := h4 j x hx
      exact hv.kept (oq _ hv.lt)
/-- the next number is k -/
def jb_nx (h : jb_H) (k : Nat) : Prop := jb_look h k = none ∧ (k = 0 ∨ ∃ e, jb_look h (k - 1) = some e) ∧ k < 900000
theorem jb_nx.size {base : Nat} {σ : Nat → Nat} {tc : Nat → ClassId} {D : va_G} {h : jb_H} {H : Heap} {k : Nat} (hn : jb_nx h k) (hR : jb_R base σ tc D h H) : H.size = base + k := by
  obtain ⟨n, h1, h2, h3, h4⟩ := hR
  obtain ⟨g1, g2, g3⟩ := hn
  have a1 : n ≤ k := (h3 k).mp g1
  have a2 : k ≤ n := by
    rcases g2 with g2 | ⟨e, g2⟩
    · omega
    · by_cases hq : n ≤ k - 1
      · rw [(h3 _).mpr hq] at g2; cases g2
      · omega
  omega
/-- a number read as a place -/
def jb_ix (i : Int32) (j : Nat) : Prop := ¬ i < 0 ∧ i.toNatClampNeg = j
theorem jb_ix.in {i : Int32} {j n : Nat} (h : jb_ix i j) (hn : j < n) : vp_in i n := fun q => q.elim h.1 (fun q => by rw [h.2] at q; omega)
theorem jb_ix_nI {j : Nat} (h : j < 2 ^ 31) : jb_ix (nI j) j := ⟨nI_pos h, nI_clamp h⟩
theorem jb_ix_of {i : Int32} {j : Nat} (h : i = nI j) (hj : j < 2 ^ 31) : jb_ix i j := h ▸ jb_ix_nI hj
section JH
variable {sc : Nat × (Nat → Int32)} {own : String} {cc : ByteArray} {nL : Nat} {rt : Option FieldType} {ini : Bool} {d a b pc pc' : Nat} {ls : List (Option Value)} {st st' : List Value} {h h' : jb_H} {Q : Option Value → jb_H → Prop}
theorem jb_get {index ci k q : Nat} {C : String} {T : u_T} {N : Nat} {fs : List Value} {v : Value} (hc : vwCl[ci]? = some (C, T, N)) (hin : ∀ w ∈ u_ws C T N, w ∈ jb_T) (hk : k < N) (hw : Cond.fieldLink own index (T k).1 (T k).2.1 (T k).2.2.1 ∈ jb_T) (hd : decode cc pc = .ok (.getfield index, 3)) (hl : jb_look h q = some (.inr (ci, fs))) (hv : fs[k]? = some v) (hp : pc + 3 = pc') (kk : jb_J sc own cc nL rt ini d a b pc' ls (v :: st) h Q) : jb_J sc own cc nL rt ini d a b pc ls (.ref q :: st) h Q := by
  subst hp
  refine jb_step (fun p l e R s m args below meth c base ρ tc D Qf H locs cells slots la X hrm hR hS hL k9 => ?_) kk
  show W p l e R s m args below meth c H locs cells slots Qf (F0 m pc la (.ref (jb_sg base ρ q) :: st.map (jb_cv (jb_sg base ρ))))
  rw [hR.sg hl]
  exact va_get (C := C) (T := T) (N := N) (v := jb_cv (jb_sg base ρ) v) (Ts := jb_T) X.1 X.2.1 (fun w hw => X.2.2.2.2.1.2.1.use hw) hin X.2.2.2.1 X.2.2.2.2.1.1 (hR.at hl) 0 rfl hc k hk (X.2.2.2.2.1.2.1.use hw) (fun _ h9 => h9) (by rw [List.getElem?_map, hv]; rfl) hd (k9 _ hL)
theorem jb_getN {index ci k q : Nat} {C host : String} {T : u_T} {N : Nat} {fs : List Value} {v : Value} (hc : vwCl[ci]? = some (C, T, N)) (hin : ∀ w ∈ u_ws C T N, w ∈ jb_T) (hk : k < N) (hw : Cond.fieldLinkNest own index (T k).1 (T k).2.1 (T k).2.2.1 host ∈ jb_T) (hd : decode cc pc = .ok (.getfield index, 3)) (hl : jb_look h q = some (.inr (ci, fs))) (hv : fs[k]? = some v) (hp : pc + 3 = pc') (kk : jb_J sc own cc nL rt ini d a b pc' ls (v :: st) h Q) : jb_J sc own cc nL rt ini d a b pc ls (.ref q :: st) h Q := by
  subst hp
  refine jb_step (fun p l e R s m args below meth c base ρ tc D Qf H locs cells slots la X hrm hR hS hL k9 => ?_) kk
  show W p l e R s m args below meth c H locs cells slots Qf (F0 m pc la (.ref (jb_sg base ρ q) :: st.map (jb_cv (jb_sg base ρ))))
  rw [hR.sg hl]
  exact va_getN (C := C) (T := T) (N := N) (v := jb_cv (jb_sg base ρ) v) (Ts := jb_T) X.1 X.2.1 (fun w hw => X.2.2.2.2.1.2.1.use hw) hin X.2.2.2.1 X.2.2.2.2.1.1 (hR.at hl) 0 rfl hc k hk (X.2.2.2.2.1.2.1.use hw) (fun _ h9 => h9) (by rw [List.getElem?_map, hv]; rfl) hd (k9 _ hL)
/-- an instruction that writes one cell -/
theorem jb_write {q : Nat} {e0 e1 : va_E} (hl : jb_look h q = some e0) (hh : jb_put h q e1 = h') (step : ∀ (p : Program) (l : Launch) (e : Env) (R : Room) (s : State) (m : MethodId) (args : Array Value) (below : List Frame) (meth : Method) (c : Code) (base : Nat) (ρ : Nat → Nat) (tc : Nat → ClassId) (D : va_G) (Qf : State → Prop) (H : Heap) (locs : List Loc) (cells slots : Nat) (la : Array Slot),
      jb_X p s m meth c own cc nL rt ini base ρ tc D sc → d ≤ R.frames ∧ 40 * d ≤ R.locals → jb_R base (jb_sg base ρ) tc D h H → va_S (fun q => base ≤ q) s.heap H locs → jb_L (jb_sg base ρ) la nL ls →
      (∀ (H1 : Heap) (locs1 : List Loc), H1.size = H.size → (∀ x : Nat, x ≠ base + q → H1[x]? = H[x]?) → va_at D vwCl (base + q, jb_ce (jb_sg base ρ) tc e1) H1 → (∀ z ∈ locs1, z ∈ locs ∨ z.base = base + q) → W p l e R s m args below meth c H1 locs1 cells slots Qf (F0 m pc' la (st.map (jb_cv (jb_sg base ρ))))) →
      W p l e R s m args below meth c H locs cells slots Qf (F0 m pc la (st'.map (jb_cv (jb_sg base ρ)))))
    (kk : jb_J sc own cc nL rt ini d a b pc' ls st h' Q) : jb_J sc own cc nL rt ini d a b pc ls st' h Q := by
  subst hh
  intro p l e R s m args below meth c base ρ tc D mc ms Qf H locs cells slots la X Z hrm hR hS hL
  refine step p l e R s m args below meth c base ρ tc D Qf H locs cells slots la X ⟨hrm.1, hrm.2.1⟩ hR hS hL (fun H1 locs1 z1 oq he hlc => ?_)
  refine kk p l e R s m args below meth c base ρ tc D mc ms Qf H1 locs1 cells slots la X Z hrm (hR.put hl z1 oq he) ⟨by rw [z1]; exact hS.1, fun x h1 h2 => ?_, fun z hz => ?_⟩ hL
  · have h3 : ¬ base ≤ x := h2
    rw [oq x (by omega)]
    exact hS.2.1 x h1 h2
  · rcases hlc z hz with q | q
    · exact hS.2.2 z q
    · show base ≤ z.base
      rw [q]; exact Nat.le_add_right _ _
theorem jb_one {α : Type} {l : List α} {x z : α} (h : z ∈ l ++ [x]) : z ∈ l ∨ z = x := by
  rcases List.mem_append.mp h with q | q
  · exact Or.inl q
  · exact Or.inr (List.mem_singleton.mp q)
theorem jb_putf {index ci k q : Nat} {C : String} {T : u_T} {N : Nat} {fs : List Value} {v : Value} {ty : FieldType} {ty0 : Nat → FieldType} (hc : vwCl[ci]? = some (C, T, N)) (hin : ∀ w ∈ u_ws C T N, w ∈ jb_T) (hty : ∀ k, k < N → parseFieldDescriptor (T k).2.2.1 = some (ty0 k)) (hnm : ∀ a, a < N → ∀ b, b < N → a ≠ b → (T a).2.1 ≠ (T b).2.1) (hk : k < N) (hw : Cond.fieldLink own index (T k).1 (T k).2.1 (T k).2.2.1 ∈ jb_T) (hfin : (T k).2.2.2 = false) (hpd : parseFieldDescriptor (T k).2.2.1 = some ty)
    (hd : decode cc pc = .ok (.putfield index, 3)) (hn : ∀ σ, narrow ty (jb_cv σ v) = jb_cv σ v ∧ fits ty (jb_cv σ v) = true) (hl : jb_look h q = some (.inr (ci, fs))) (hlen : k < fs.length) (hh : jb_put h q (.inr (ci, fs.set k v)) = h') (hp : pc + 3 = pc') (kk : jb_J sc own cc nL rt ini d a b pc' ls st h' Q) : jb_J sc own cc nL rt ini d a b pc ls (v :: .ref q :: st) h Q := by
  subst hp
  refine jb_write hl hh (fun p l e R s m args below meth c base ρ tc D Qf H locs cells slots la X hrm hR hS hL k9 => ?_) kk
  show W p l e R s m args below meth c H locs cells slots Qf (F0 m pc la (jb_cv (jb_sg base ρ) v :: .ref (jb_sg base ρ q) :: st.map (jb_cv (jb_sg base ρ))))
  rw [hR.sg hl]
  have hts : ∀ w ∈ jb_T, w.before args s = true := fun w hw => X.2.2.2.2.1.2.1.use hw
  have hK := X.2.2.2.2.1.1
  have hap := va_apart (own := own) hts hin ty0 hty hnm hK hc
  obtain ⟨r, h1, cell, q1, q2, q3, q4⟩ := (hR.at hl) 0 _ rfl
  have hr : r = (C, T, N) := Option.some.inj (h1.symm.trans hc)
  subst hr
  obtain ⟨hS9, hfc, kC, hkC, hkind⟩ := hK.1 ci _ hc
  obtain ⟨cf, kf, fi, f, hi, hsl⟩ := hS9 k hk
  have hlay := hts _ (hin _ (u_in_lay hk))
  unfold u_lay at hlay
  rw [if_neg (by rw [hfin]; decide)] at hlay
  have hst := (u_facts hfc hkC (u_lays hts hin hk) hi).1
  have h6 := u_store hfc hkC hkind hlay hi hpd (hn (jb_sg base ρ)).1 (hn (jb_sg base ρ)).2
  refine W.putK X.1 X.2.1 (f := f) ⟨X.2.2.2.1, hts _ hw, ⟨_, _, _, hi⟩, hst⟩ (by rw [q2]; exact h6) q1 q3 (by rw [hsl]; exact k2_hasslot (q4 k hk)) rfl rfl hd fun H' e1 e2 e3 => ?_
  rw [hsl] at e1 ⊢
  refine k9 H' _ e2 e3 ⟨_, hc, t_OB.to (V := updV (vp_V (fs.map (jb_cv (jb_sg base ρ)))) k (jb_cv (jb_sg base ρ) v)) ⟨_, e1, q2, q3, t_set q4 hap hk _⟩ (fun j _ => ?_)⟩ (fun z hz => (jb_one hz).imp id (fun q => by rw [q]))
  rw [vp_updV_set (by rw [List.length_map]; exact hlen)]
  show _ = vp_V ((fs.set k v).map (jb_cv (jb_sg base ρ))) j
  rw [List.map_set]
theorem jb_putN {index ci k q : Nat} {C host : String} {T : u_T} {N : Nat} {fs : List Value} {v : Value} {ty : FieldType} {ty0 : Nat → FieldType} (hc : vwCl[ci]? = some (C, T, N)) (hin : ∀ w ∈ u_ws C T N, w ∈ jb_T) (hty : ∀ k, k < N → parseFieldDescriptor (T k).2.2.1 = some (ty0 k)) (hnm : ∀ a, a < N → ∀ b, b < N → a ≠ b → (T a).2.1 ≠ (T b).2.1) (hk : k < N) (hw : Cond.fieldLinkNest own index (T k).1 (T k).2.1 (T k).2.2.1 host ∈ jb_T) (hfin : (T k).2.2.2 = false) (hpd : parseFieldDescriptor (T k).2.2.1 = some ty)
    (hd : decode cc pc = .ok (.putfield index, 3)) (hn : ∀ σ, narrow ty (jb_cv σ v) = jb_cv σ v ∧ fits ty (jb_cv σ v) = true) (hl : jb_look h q = some (.inr (ci, fs))) (hlen : k < fs.length) (hh : jb_put h q (.inr (ci, fs.set k v)) = h') (hp : pc + 3 = pc') (kk : jb_J sc own cc nL rt ini d a b pc' ls st h' Q) : jb_J sc own cc nL rt ini d a b pc ls (v :: .ref q :: st) h Q := by
  subst hp
  refine jb_write hl hh (fun p l e R s m args below meth c base ρ tc D Qf H locs cells slots la X hrm hR hS hL k9 => ?_) kk
  show W p l e R s m args below meth c H locs cells slots Qf (F0 m pc la (jb_cv (jb_sg base ρ) v :: .ref (jb_sg base ρ q) :: st.map (jb_cv (jb_sg base ρ))))
  rw [hR.sg hl]
  have hts : ∀ w ∈ jb_T, w.before args s = true := fun w hw => X.2.2.2.2.1.2.1.use hw
  have hK := X.2.2.2.2.1.1
  have hap := va_apart (own := own) hts hin ty0 hty hnm hK hc
  obtain ⟨r, h1, cell, q1, q2, q3, q4⟩ := (hR.at hl) 0 _ rfl
  have hr : r = (C, T, N) := Option.some.inj (h1.symm.trans hc)
  subst hr
  obtain ⟨hS9, hfc, kC, hkC, hkind⟩ := hK.1 ci _ hc
  obtain ⟨cf, kf, fi, f, hi, hsl⟩ := hS9 k hk
  have hlay := hts _ (hin _ (u_in_lay hk))
  unfold u_lay at hlay
  rw [if_neg (by rw [hfin]; decide)] at hlay
  have hst := (u_facts hfc hkC (u_lays hts hin hk) hi).1
  have h6 := u_store hfc hkC hkind hlay hi hpd (hn (jb_sg base ρ)).1 (hn (jb_sg base ρ)).2
  refine va_WputK X.1 X.2.1 (f := f) X.2.2.2.1 (hts _ hw) hi hst (by rw [q2]; exact h6) q1 q3 (by rw [hsl]; exact k2_hasslot (q4 k hk)) rfl rfl hd fun H' e1 e2 e3 => ?_
  rw [hsl] at e1 ⊢
  refine k9 H' _ e2 e3 ⟨_, hc, t_OB.to (V := updV (vp_V (fs.map (jb_cv (jb_sg base ρ)))) k (jb_cv (jb_sg base ρ) v)) ⟨_, e1, q2, q3, t_set q4 hap hk _⟩ (fun j _ => ?_)⟩ (fun z hz => (jb_one hz).imp id (fun q => by rw [q]))
  rw [vp_updV_set (by rw [List.length_map]; exact hlen)]
  show _ = vp_V ((fs.set k v).map (jb_cv (jb_sg base ρ))) j
  rw [List.map_set]
/-- a final field, in its own class's constructor -/
theorem jb_putF {index ci k q : Nat} {C : String} {T : u_T} {N : Nat} {fs : List Value} {v : Value} {ty : FieldType} {ty0 : Nat → FieldType} (hc : vwCl[ci]? = some (C, T, N)) (hin : ∀ w ∈ u_ws C T N, w ∈ jb_T) (hty : ∀ k, k < N → parseFieldDescriptor (T k).2.2.1 = some (ty0 k)) (hnm : ∀ a, a < N → ∀ b, b < N → a ≠ b → (T a).2.1 ≠ (T b).2.1) (hk : k < N) (hw : Cond.fieldLink own index (T k).1 (T k).2.1 (T k).2.2.1 ∈ jb_T) (hfin : (T k).2.2.2 = true) (hdecl : (T k).1 = own) (hpd : parseFieldDescriptor (T k).2.2.1 = some ty)
    (hd : decode cc pc = .ok (.putfield index, 3)) (hn : ∀ σ, narrow ty (jb_cv σ v) = jb_cv σ v ∧ fits ty (jb_cv σ v) = true) (hl : jb_look h q = some (.inr (ci, fs))) (hlen : k < fs.length) (hh : jb_put h q (.inr (ci, fs.set k v)) = h') (hp : pc + 3 = pc') (kk : jb_J sc own cc nL rt true d a b pc' ls st h' Q) : jb_J sc own cc nL rt true d a b pc ls (v :: .ref q :: st) h Q := by
  subst hp
  refine jb_write hl hh (fun p l e R s m args below meth c base ρ tc D Qf H locs cells slots la X hrm hR hS hL k9 => ?_) kk
  show W p l e R s m args below meth c H locs cells slots Qf (F0 m pc la (jb_cv (jb_sg base ρ) v :: .ref (jb_sg base ρ q) :: st.map (jb_cv (jb_sg base ρ))))
  rw [hR.sg hl]
  have hts : ∀ w ∈ jb_T, w.before args s = true := fun w hw => X.2.2.2.2.1.2.1.use hw
  have hK := X.2.2.2.2.1.1
  have hap := va_apart (own := own) hts hin ty0 hty hnm hK hc
  obtain ⟨r, h1, cell, q1, q2, q3, q4⟩ := (hR.at hl) 0 _ rfl
  have hr : r = (C, T, N) := Option.some.inj (h1.symm.trans hc)
  subst hr
  obtain ⟨hS9, hfc, kC, hkC, hkind⟩ := hK.1 ci _ hc
  obtain ⟨cf, kf, fi, f, hi, hsl⟩ := hS9 k hk
  have hlay := hts _ (hin _ (u_in_lay hk))
  unfold u_lay at hlay
  rw [if_pos hfin] at hlay
  have hst := (u_facts hfc hkC (u_lays hts hin hk) hi).1
  have hcf : m.cls = cf := by
    obtain ⟨_, _, c', _, _, _, -, -, hf', -, -, -, hown2, -⟩ := Cond.laysFinal_spec hlay
    have e1 : c' = cf := by have := hi.symm.trans hf'; simp at this; exact this.1.symm
    rw [hdecl] at hown2
    rw [← e1]; exact Option.some.inj (X.2.2.2.1.symm.trans hown2)
  have h6 := u_fits hfc hkC hkind (Or.inr hlay) hi hpd (hn (jb_sg base ρ)).1 (hn (jb_sg base ρ)).2
  refine W.putFinK X.1 X.2.1 X.2.2.2.1 (hts _ hw) hi hst hcf (X.2.2.2.2.2.1 rfl) (by rw [q2]; exact h6) q1 q3 (by rw [hsl]; exact k2_hasslot (q4 k hk)) rfl rfl hd fun H' e1 e2 e3 => ?_
  rw [hsl] at e1 ⊢
  refine k9 H' _ e2 e3 ⟨_, hc, t_OB.to (V := updV (vp_V (fs.map (jb_cv (jb_sg base ρ)))) k (jb_cv (jb_sg base ρ) v)) ⟨_, e1, q2, q3, t_set q4 hap hk _⟩ (fun j _ => ?_)⟩ (fun z hz => (jb_one hz).imp id (fun q => by rw [q]))
  rw [vp_updV_set (by rw [List.length_map]; exact hlen)]
  show _ = vp_V ((fs.set k v).map (jb_cv (jb_sg base ρ))) j
  rw [List.map_set]
/-! arrays -/
theorem jb_iaload {q n i9 : Nat} {f : Nat → Int32} {i : Int32} (hd : decode cc pc = .ok (.iaload, 1)) (hl : jb_look h q = some (.inl (0, n, .inl f))) (hi : jb_ix i i9) (hn : i9 < n) (hp : pc + 1 = pc') (kk : jb_J sc own cc nL rt ini d a b pc' ls (.int (f i9) :: st) h Q) : jb_J sc own cc nL rt ini d a b pc ls (.int i :: .ref q :: st) h Q := by
  subst hp
  refine jb_step (fun p l e R s m args below meth c base ρ tc D Qf H locs cells slots la X hrm hR hS hL k9 => ?_) kk
  show W p l e R s m args below meth c H locs cells slots Qf (F0 m pc la (.int i :: .ref (jb_sg base ρ q) :: st.map (jb_cv (jb_sg base ρ))))
  rw [hR.sg hl]
  refine va_iald (n := n) (f := f) X.1 X.2.1 X.2.2.2.2.1.1 (hR.at hl) 0 0 rfl rfl (hi.in hn) hd ?_
  rw [hi.2]
  exact k9 _ hL
theorem jb_iastore {q n i9 : Nat} {f : Nat → Int32} {i x : Int32} (hd : decode cc pc = .ok (.iastore, 1)) (hl : jb_look h q = some (.inl (0, n, .inl f))) (hi : jb_ix i i9) (hn : i9 < n) (hh : jb_put h q (.inl (0, n, .inl (upd f i9 x))) = h') (hp : pc + 1 = pc') (kk : jb_J sc own cc nL rt ini d a b pc' ls st h' Q) : jb_J sc own cc nL rt ini d a b pc ls (.int x :: .int i :: .ref q :: st) h Q := by
  subst hp
  refine jb_write hl hh (fun p l e R s m args below meth c base ρ tc D Qf H locs cells slots la X hrm hR hS hL k9 => ?_) kk
  show W p l e R s m args below meth c H locs cells slots Qf (F0 m pc la (.int x :: .int i :: .ref (jb_sg base ρ q) :: st.map (jb_cv (jb_sg base ρ))))
  rw [hR.sg hl]
  have hc : H[base + q]? = some (vp_cell (tc 0) (n, .inl f)) := (hR.at hl) 0 _ rfl
  refine W.iast X.1 X.2.1 hc ((X.2.2.2.2.1.1.2 0 _ rfl).1 n (fun j => .int (f j))) (fun q => by cases q) (by show ¬ (i < 0 ∨ (arrV _ _ _).slots.size ≤ _); rw [arrV_size]; exact hi.in hn) rfl rfl hd fun H1 e z oq => ?_
  refine k9 H1 _ z oq ?_ (fun z hz => (jb_one hz).imp id (fun q => by rw [q]))
  show H1[base + q]? = some (vp_cell (tc 0) (n, .inl (upd f i9 x)))
  rw [e, vp_cell_i, vp_cell_i, arrV_store, hi.2]
  congr 2
  funext q
  by_cases hq : q = i9
  · subst hq
    simp [updV, upd]
  · simp [updV, upd, hq]
theorem jb_aaload {q kd n i9 r : Nat} {f : Nat → Option Nat} {i : Int32} (hkd : kd = 2 ∨ kd = 3 ∨ kd = 4) (hd : decode cc pc = .ok (.aaload, 1)) (hl : jb_look h q = some (.inl (kd, n, .inr (.inr (.inr (.inr f)))))) (hi : jb_ix i i9) (hn : i9 < n) (hf : f i9 = some r) (hp : pc + 1 = pc') (kk : jb_J sc own cc nL rt ini d a b pc' ls (.ref r :: st) h Q) : jb_J sc own cc nL rt ini d a b pc ls (.int i :: .ref q :: st) h Q := by
  subst hp
  refine jb_step (fun p l e R s m args below meth c base ρ tc D Qf H locs cells slots la X hrm hR hS hL k9 => ?_) kk
  show W p l e R s m args below meth c H locs cells slots Qf (F0 m pc la (.int i :: .ref (jb_sg base ρ q) :: st.map (jb_cv (jb_sg base ρ))))
  rw [hR.sg hl]
  have hc : H[base + q]? = some (vp_cell (tc kd) (n, .inr (.inr (.inr (.inr (fun j => (f j).map (jb_sg base ρ))))))) := (hR.at hl) 0 _ rfl
  have hv : (vp_cell (tc kd) (n, .inr (.inr (.inr (.inr (fun j => (f j).map (jb_sg base ρ))))))).slots[i.toNatClampNeg]? = some (.ref (jb_sg base ρ r)) := by
    rw [vp_cell_q, hi.2, arrV_read _ _ hn, hf]; rfl
  have hsz : ¬ (i < 0 ∨ (vp_cell (tc kd) (n, .inr (.inr (.inr (.inr (fun j => (f j).map (jb_sg base ρ))))))).slots.size ≤ i.toNatClampNeg) := by rw [vp_cell_q, arrV_size]; exact hi.in hn
  rcases hkd with rfl | rfl | rfl
  · exact W.aald (ty := .array .int) X.1 X.2.1 hc ((X.2.2.2.2.1.1.2 2 _ rfl).1 n _) rfl (fun q => by cases q) hsz hv rfl rfl hd (k9 _ hL)
  · exact W.aald (ty := .object "DeafBell$Pupil") X.1 X.2.1 hc ((X.2.2.2.2.1.1.2 3 _ rfl).1 n _) rfl (fun q => by cases q) hsz hv rfl rfl hd (k9 _ hL)
  · exact W.aald (ty := .object "DeafBell$Sheet") X.1 X.2.1 hc ((X.2.2.2.2.1.1.2 4 _ rfl).1 n _) rfl (fun q => by cases q) hsz hv rfl rfl hd (k9 _ hL)
/-- an object into a row of objects -/
theorem jb_aastore {q kd n i9 v ci : Nat} {f : Nat → Option Nat} {i : Int32} {vs : List Value} {r : vw_C} {E : String} (hkd : (kd = 3 ∧ E = "DeafBell$Pupil") ∨ (kd = 4 ∧ E = "DeafBell$Sheet")) (hd : decode cc pc = .ok (.aastore, 1)) (hl : jb_look h q = some (.inl (kd, n, .inr (.inr (.inr (.inr f)))))) (hi : jb_ix i i9) (hn : i9 < n) (hv : jb_look h v = some (.inr (ci, vs))) (hc : vwCl[ci]? = some r) (hw : r.1 = E ∨ Cond.castable r.1 E ∈ jb_T) (hh : jb_put h q (.inl (kd, n, .inr (.inr (.inr (.inr (va_up f i9 (some v))))))) = h') (hp : pc + 1 = pc') (kk : jb_J sc own cc nL rt ini d a b pc' ls st h' Q) : jb_J sc own cc nL rt ini d a b pc ls (.ref v :: .int i :: .ref q :: st) h Q := by
  subst hp
  refine jb_write hl hh (fun p l e R s m args below meth c base ρ tc D Qf H locs cells slots la X hrm hR hS hL k9 => ?_) kk
  show W p l e R s m args below meth c H locs cells slots Qf (F0 m pc la (.ref (jb_sg base ρ v) :: .int i :: .ref (jb_sg base ρ q) :: st.map (jb_cv (jb_sg base ρ))))
  have hgv := hR.sg (ρ := ρ) hv
  rw [hR.sg hl]
  have hcl : H[base + q]? = some (vp_cell (tc kd) (n, .inr (.inr (.inr (.inr (fun j => (f j).map (jb_sg base ρ))))))) := (hR.at hl) 0 _ rfl
  obtain ⟨r', hr', cellV, g1, g2, g3, -⟩ := (hR.at hv) 0 _ rfl
  have hcls := (X.2.2.2.2.1.1.1 ci r hc).2
  have hra : va_RA s (tc kd) (.object E) := by
    rcases hkd with ⟨rfl, rfl⟩ | ⟨rfl, rfl⟩
    · exact (X.2.2.2.2.1.1.2 3 _ rfl).2
    · exact (X.2.2.2.2.1.1.2 4 _ rfl).2
  obtain ⟨kA, comp, k1, k2, k3, -⟩ := hra
  obtain ⟨kE, hkE, -⟩ := Vm.findClass_spec k3
  obtain ⟨kC, hkC, -⟩ := hcls.2
  have hasg : s.vm.assignable (D.1 ci) comp = true := by
    rcases hw with hw | hw
    · have : comp = D.1 ci := Option.some.inj (k3.symm.trans (hw ▸ hcls.1))
      rw [this]; exact va_assign hcls
    · obtain ⟨c0, t1, f1, f2, f3⟩ := Cond.castable_spec (va_Nw.use (A := args) rfl (X.2.2.2.2.1.2.1 _ hw))
      cases hcls.1.symm.trans f1
      cases k3.symm.trans f2
      exact f3
  refine W.aast X.1 X.2.1 hcl (fun q h => by cases h) (fun h => by cases h) k1 k2 rfl hkE ⟨hi.1, by rw [vp_cell_q, arrV_size, hi.2]; exact hn⟩ (v := jb_sg base ρ v) (by rw [hgv]; exact g1) (fun q h => by rw [g3] at h; cases h) (by rw [g2]; exact hkC) (by rw [g2]; exact hasg) rfl rfl hd fun H1 e z oq => ?_
  refine k9 H1 _ z oq ?_ (fun z hz => (jb_one hz).imp id (fun q => by rw [q]))
  show H1[base + q]? = some (vp_cell (tc kd) (n, .inr (.inr (.inr (.inr (fun j => (va_up f i9 (some v) j).map (jb_sg base ρ)))))))
  rw [e, vp_cell_q, vp_cell_q, arrV_store, hi.2]
  congr 2
  funext q
  by_cases hq : q = i9
  · subst hq
    simp [updV, va_up, va_rf]
  · simp [updV, va_up, hq]
theorem jb_alen {q kd : Nat} {x : vp_A} (v : Int32) (hkd : kd < 5) (hd : decode cc pc = .ok (.arraylength, 1)) (hl : jb_look h q = some (.inl (kd, x))) (hv : Int32.ofNat x.1 = v) (hp : pc + 1 = pc') (kk : jb_J sc own cc nL rt ini d a b pc' ls (.int v :: st) h Q) : jb_J sc own cc nL rt ini d a b pc ls (.ref q :: st) h Q := by
  subst hp
  refine jb_step (fun p l e R s m args below meth c base ρ tc D Qf H locs cells slots la X hrm hR hS hL k9 => ?_) kk
  show W p l e R s m args below meth c H locs cells slots Qf (F0 m pc la (.ref (jb_sg base ρ q) :: st.map (jb_cv (jb_sg base ρ))))
  rw [hR.sg hl]
  have hP := hR.at hl
  obtain ⟨n, f⟩ := x
  have ht : ∃ ty, (jb_ty tc)[kd]? = some (tc kd, ty) := by
    match kd, hkd with
    | 0, _ => exact ⟨_, rfl⟩
    | 1, _ => exact ⟨_, rfl⟩
    | 2, _ => exact ⟨_, rfl⟩
    | 3, _ => exact ⟨_, rfl⟩
    | 4, _ => exact ⟨_, rfl⟩
  obtain ⟨ty, ht⟩ := ht
  rcases f with f | f | f | f | f
  · exact va_alen X.1 X.2.1 X.2.2.2.2.1.1 hP 0 kd (x := (n, .inl f)) rfl ht hv hd (k9 _ hL)
  · exact va_alen X.1 X.2.1 X.2.2.2.2.1.1 hP 0 kd (x := (n, .inr (.inl f))) rfl ht hv hd (k9 _ hL)
  · exact va_alen X.1 X.2.1 X.2.2.2.2.1.1 hP 0 kd (x := (n, .inr (.inr (.inl f)))) rfl ht hv hd (k9 _ hL)
  · exact va_alen X.1 X.2.1 X.2.2.2.2.1.1 hP 0 kd (x := (n, .inr (.inr (.inr (.inl f))))) rfl ht hv hd (k9 _ hL)
  · exact va_alen X.1 X.2.1 X.2.2.2.2.1.1 hP 0 kd (x := (n, .inr (.inr (.inr (.inr (fun j => (f j).map (jb_sg base ρ))))))) rfl ht hv hd (k9 _ hL)
end JH
