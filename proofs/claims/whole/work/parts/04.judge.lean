/-- the locals: what the list says of a place is so -/
def jb_L (σ : Nat → Nat) (la : Array Slot) (nL : Nat) (ls : List (Option Value)) : Prop :=
  la.size = nL ∧ lv_wf la ∧ ∀ (i : Nat) (v : Value), ls[i]? = some (some v) → la[i]? = some (.val (jb_cv σ v))
/-- which instruction returns this, and that the method's type keeps it -/
def jb_rd (cc : ByteArray) (pc : Nat) (rt : Option FieldType) (r : Option Value) : Prop := match r with
  | none => rt = none ∧ decode cc pc = .ok (.return_, 1)
  | some (.int v) => (∃ ty, rt = some ty ∧ narrow ty (.int v) = .int v) ∧ decode cc pc = .ok (.ireturn, 1)
  | some (.long _) => rt = some .long ∧ decode cc pc = .ok (.lreturn, 1)
  | some (.ref _) => (∃ ty, rt = some ty ∧ ((∃ n, ty = .object n) ∨ ∃ t, ty = .array t)) ∧ decode cc pc = .ok (.areturn, 1)
  | some .null => (∃ ty, rt = some ty ∧ ((∃ n, ty = .object n) ∨ ∃ t, ty = .array t)) ∧ decode cc pc = .ok (.areturn, 1)
  | _ => False
/-- the fixed things of a method's body -/
def jb_X (p : Program) (s : State) (m : MethodId) (meth : Method) (c : Code) (own : String) (cc : ByteArray) (nL : Nat) (rt : Option FieldType) (ini : Bool) (base : Nat) (ρ : Nat → Nat) (tc : Nat → ClassId) (D : va_G) (sc : Nat × (Nat → Int32)) : Prop :=
  p.tables.exec = Jvm.exec ∧ c.code = cc ∧ c.maxLocals = nL ∧ s.vm.findClass own = some m.cls ∧ jb_G base ρ tc D sc s ∧ (ini = true → meth.name = "<init>") ∧ meth.sig.returnType = rt
/-- what is done at a return -/
def jb_Z (p : Program) (l : Launch) (e : Env) (R : Room) (s : State) (m : MethodId) (args : Array Value) (below : List Frame) (meth : Method) (c : Code) (cc : ByteArray) (rt : Option FieldType) (base : Nat) (ρ : Nat → Nat) (tc : Nat → ClassId) (D : va_G) (mc ms : Nat) (Qf : State → Prop) (Q : Option Value → jb_H → Prop) : Prop :=
  ∀ (H : Heap) (locs : List Loc) (cells slots : Nat) (la : Array Slot) (pc : Nat) (r : Option Value) (h : jb_H), Q r h → jb_R base (jb_sg base ρ) tc D h H → va_S (fun q => base ≤ q) s.heap H locs → cells ≤ mc → slots ≤ ms → jb_rd cc pc rt r →
    W p l e R s m args below meth c H locs cells slots Qf (F0 m pc la ((r.map (jb_cv (jb_sg base ρ))).toList))
/-- THE JUDGEMENT: from pc on, with these locals, this stack and this heap, the method comes to a return with Q; d frames, a cells, b slots are enough -/
def jb_J (sc : Nat × (Nat → Int32)) (own : String) (cc : ByteArray) (nL : Nat) (rt : Option FieldType) (ini : Bool) (d a b pc : Nat) (ls : List (Option Value)) (st : List Value) (h : jb_H) (Q : Option Value → jb_H → Prop) : Prop :=
  ∀ (p : Program) (l : Launch) (e : Env) (R : Room) (s : State) (m : MethodId) (args : Array Value) (below : List Frame) (meth : Method) (c : Code) (base : Nat) (ρ : Nat → Nat) (tc : Nat → ClassId) (D : va_G) (mc ms : Nat) (Qf : State → Prop) (H : Heap) (locs : List Loc) (cells slots : Nat) (la : Array Slot),
    jb_X p s m meth c own cc nL rt ini base ρ tc D sc → jb_Z p l e R s m args below meth c cc rt base ρ tc D mc ms Qf Q →
    d ≤ R.frames ∧ 40 * d ≤ R.locals ∧ mc ≤ R.cells ∧ ms ≤ R.slots ∧ cells + a ≤ mc ∧ slots + b ≤ ms →
    jb_R base (jb_sg base ρ) tc D h H → va_S (fun q => base ≤ q) s.heap H locs → jb_L (jb_sg base ρ) la nL ls →
    W p l e R s m args below meth c H locs cells slots Qf (F0 m pc la (st.map (jb_cv (jb_sg base ρ))))
/-- a method's contract: called with these arguments over this heap it returns with Q -/
def jb_C (sc : Nat × (Nat → Int32)) (y : MethodName) (cc : ByteArray) (nL : Nat) (rt : Option FieldType) (d a b : Nat) (av : List Value) (h : jb_H) (Q : Option Value → jb_H → Prop) : Prop :=
  ∀ (l : Launch) (base : Nat) (ρ : Nat → Nat) (tc : Nat → ClassId) (D : va_G),
    Met l y [.code y cc nL rt] { frames := d, cells := a, slots := b, locals := 40 * d }
      (fun v U => v = (av.map (jb_cv (jb_sg base ρ))).toArray ∧ jb_G base ρ tc D sc U ∧ jb_R base (jb_sg base ρ) tc D h U.heap)
      (fun _ st o t => ∃ (r : Option Value) (h' : jb_H), o = .returned (r.map (jb_cv (jb_sg base ρ))) ∧ Q r h' ∧ jb_R base (jb_sg base ρ) tc D h' t.heap ∧ va_F (fun q => base ≤ q) st t) a b (fun q => base ≤ q)
theorem jb_cat (σ : Nat → Nat) (v : Value) : (jb_cv σ v).category = v.category := by cases v <;> rfl
/-- the locals at the entry -/
def jb_ini : List Value → List (Option Value)
  | [] => []
  | v :: vs => if v.category = 2 then some v :: none :: jb_ini vs else some v :: jb_ini vs
theorem jb_ini_args (σ : Nat → Nat) : ∀ (vs : List Value) (n k i : Nat) (v : Value), (jb_ini vs ++ List.replicate n none)[i]? = some (some v) → (k + i, jb_cv σ v) ∈ lv_args k (vs.map (jb_cv σ))
  | [], n, k, i, v, h => by
    simp only [jb_ini, List.nil_append, List.getElem?_replicate] at h
    split at h <;> simp at h
  | w :: vs, n, k, i, v, h => by
    simp only [jb_ini] at h
    simp only [List.map_cons, lv_args, jb_cat]
    by_cases hc : w.category = 2
    · rw [if_pos hc] at h
      rw [if_pos hc]
      match i, h with
      | 0, h => simp at h; subst h; exact List.mem_cons_self
      | 1, h => simp at h
      | i + 2, h =>
        have h' : (jb_ini vs ++ List.replicate n none)[i]? = some (some v) := by simpa using h
        have := jb_ini_args σ vs n (k + 2) i v h'
        exact List.mem_cons_of_mem _ (by rw [show k + (i + 2) = k + 2 + i by omega]; exact this)
    · rw [if_neg hc] at h
      rw [if_neg hc]
      match i, h with
      | 0, h => simp at h; subst h; exact List.mem_cons_self
      | i + 1, h =>
        have h' : (jb_ini vs ++ List.replicate n none)[i]? = some (some v) := by simpa using h
        have := jb_ini_args σ vs n (k + 1) i v h'
        exact List.mem_cons_of_mem _ (by rw [show k + (i + 1) = k + 1 + i by omega]; exact this)
theorem jb_ini_len : ∀ (σ : Nat → Nat) (vs : List Value), (lg_sl (vs.map (jb_cv σ))).length = (jb_ini vs).length
  | σ, [] => rfl
  | σ, v :: vs => by
    have ih := jb_ini_len σ vs
    simp only [lg_sl, List.map_cons, List.flatMap_cons, List.length_append, jb_cat, jb_ini] at ih ⊢
    rw [ih]
    split <;> simp <;> omega
theorem jb_blind {base : Nat} {ρ : Nat → Nat} {tc : Nat → ClassId} {D : va_G} {sc : Nat × (Nat → Int32)} {h : jb_H} {av : List Value} : FrameBlind (fun v U => v = (av.map (jb_cv (jb_sg base ρ))).toArray ∧ jb_G base ρ tc D sc U ∧ jb_R base (jb_sg base ρ) tc D h U.heap) := by
  intro a U g mk ⟨h1, h2, h3⟩
  exact ⟨h1, h2.same rfl rfl, h3⟩
/-- a contract out of a walk -/
theorem jb_CofJ {sc : Nat × (Nat → Int32)} {y : MethodName} {cc : ByteArray} {nL : Nat} {rt : Option FieldType} {d a b : Nat} {av : List Value} {h : jb_H} {Q : Option Value → jb_H → Prop} {ini : Bool} (hp : plainName y.cls = true) (hi : ini = true → y.name = "<init>") (hn : (jb_ini av).length ≤ nL)
    (hJ : jb_J sc y.cls cc nL rt ini d a b 0 (jb_ini av ++ List.replicate (nL - (jb_ini av).length) none) [] h Q) : jb_C sc y cc nL rt d a b av h Q := by
  intro l base ρ tc D
  refine Met.ofW (cc := cc) (maxL := nL) (ret := rt) hp rfl ?_
  intro p e s m args below meth c s₁ B hml hv
  obtain ⟨rfl, hG, hR⟩ := hv
  have hown : s.vm.findClass y.cls = some m.cls := findClass_of_methodNamed B.named
  have hlocks := B.notSynchronized
  have hr := B.returns
  rw [lg_entry_eq]
  have hl := lv_entry (av.map (jb_cv (jb_sg base ρ))) (n := nL) (by rw [jb_ini_len]; exact hn)
  refine hJ p l e _ s m _ below meth c base ρ tc D a b _ s.heap [] 0 0 _ ⟨B.exec, B.bytes, hml, hown, hG, fun h => (name_of_methodNamed B.named B.method).1.trans (hi h), hr⟩ ?_ ⟨Nat.le_refl _, Nat.le_refl _, Nat.le_refl _, Nat.le_refl _, by omega, by omega⟩ hR va_S.rf ⟨hl.1, hl.2.1, fun i v hv => ?_⟩
  · intro H locs cells slots la pc r h' hQ hR' hS hc hs hrd
    refine W.widen hc hs ?_
    have fin : ∀ t : State, t.heap = H → (∃ (r1 : Option Value) (h' : jb_H), Outcome.returned (r.map (jb_cv (jb_sg base ρ))) = .returned (r1.map (jb_cv (jb_sg base ρ))) ∧ Q r1 h' ∧ jb_R base (jb_sg base ρ) tc D h' t.heap ∧ va_F (fun q => base ≤ q) s t) := fun t ht => ⟨r, h', rfl, hQ, by rw [ht]; exact hR', hS.F ht⟩
    match r, hrd, fin with
    | none, hrd, fin => exact W.vret B.exec B.bytes (hr.trans hrd.1) (fun t ht _ => fin t ht) hS.2.2 hrd.2
    | some (.int v), hrd, fin =>
      obtain ⟨⟨ty, e1, e2⟩, hd⟩ := hrd
      exact W.zret B.exec B.bytes (hr.trans e1) e2 (fun t ht _ => fin t ht) hS.2.2 hd
    | some (.long v), hrd, fin => exact W.lret B.exec B.bytes (hr.trans hrd.1) (fun t ht _ => fin t ht) hS.2.2 hrd.2
    | some (.ref v), hrd, fin =>
      obtain ⟨⟨ty, e1, e2⟩, hd⟩ := hrd
      exact W.aret B.exec B.bytes (hr.trans e1) e2 (Or.inr ⟨_, rfl⟩) (fun t ht _ => fin t ht) hS.2.2 hd
    | some .null, hrd, fin =>
      obtain ⟨⟨ty, e1, e2⟩, hd⟩ := hrd
      exact W.aret B.exec B.bytes (hr.trans e1) e2 (Or.inl rfl) (fun t ht _ => fin t ht) hS.2.2 hd
  · have := hl.2.2 _ (jb_ini_args (jb_sg base ρ) av _ 0 i v hv)
    simpa using this
section JS
variable {sc : Nat × (Nat → Int32)} {own : String} {cc : ByteArray} {nL : Nat} {rt : Option FieldType} {ini : Bool} {d a b pc pc' : Nat} {ls ls' : List (Option Value)} {st st' : List Value} {h : jb_H} {Q : Option Value → jb_H → Prop}
/-- more room than is needed; a weaker end -/
theorem jb_J.mono {Q' : Option Value → jb_H → Prop} {d' a' b' : Nat} (k : jb_J sc own cc nL rt ini d a b pc ls st h Q) (hd : d ≤ d') (ha : a ≤ a') (hb : b ≤ b') (hq : ∀ r h, Q r h → Q' r h) : jb_J sc own cc nL rt ini d' a' b' pc ls st h Q' := by
  intro p l e R s m args below meth c base ρ tc D mc ms Qf H locs cells slots la X Z hrm hR hS hL
  exact k p l e R s m args below meth c base ρ tc D mc ms Qf H locs cells slots la X (fun H locs cells slots la pc r h hQ => Z H locs cells slots la pc r h (hq r h hQ)) (by omega) hR hS hL
/-- an instruction that leaves the heap as it is -/
theorem jb_step (step : ∀ (p : Program) (l : Launch) (e : Env) (R : Room) (s : State) (m : MethodId) (args : Array Value) (below : List Frame) (meth : Method) (c : Code) (base : Nat) (ρ : Nat → Nat) (tc : Nat → ClassId) (D : va_G) (Qf : State → Prop) (H : Heap) (locs : List Loc) (cells slots : Nat) (la : Array Slot),
      jb_X p s m meth c own cc nL rt ini base ρ tc D sc → d ≤ R.frames ∧ 40 * d ≤ R.locals → jb_R base (jb_sg base ρ) tc D h H → va_S (fun q => base ≤ q) s.heap H locs → jb_L (jb_sg base ρ) la nL ls →
      (∀ la', jb_L (jb_sg base ρ) la' nL ls' → W p l e R s m args below meth c H locs cells slots Qf (F0 m pc' la' (st'.map (jb_cv (jb_sg base ρ))))) →
      W p l e R s m args below meth c H locs cells slots Qf (F0 m pc la (st.map (jb_cv (jb_sg base ρ)))))
    (kk : jb_J sc own cc nL rt ini d a b pc' ls' st' h Q) : jb_J sc own cc nL rt ini d a b pc ls st h Q := by
  intro p l e R s m args below meth c base ρ tc D mc ms Qf H locs cells slots la X Z hrm hR hS hL
  exact step p l e R s m args below meth c base ρ tc D Qf H locs cells slots la X ⟨hrm.1, hrm.2.1⟩ hR hS hL (fun la' hL' => kk p l e R s m args below meth c base ρ tc D mc ms Qf H locs cells slots la' X Z hrm hR hS hL')
theorem jb_iconst {n : Int} (v : Int32) (hd : decode cc pc = .ok (.iconst n, 1)) (hv : Int32.ofInt n = v) (hp : pc + 1 = pc') (kk : jb_J sc own cc nL rt ini d a b pc' ls (.int v :: st) h Q) : jb_J sc own cc nL rt ini d a b pc ls st h Q := by
  subst hp
  exact jb_step (fun p l e R s m args below meth c base ρ tc D Qf H locs cells slots la X hrm hR hS hL k => lv_iconst X.1 X.2.1 hd hv (k _ hL)) kk
theorem jb_iadd {x y : Int32} (hd : decode cc pc = .ok (.iadd, 1)) (hp : pc + 1 = pc') (kk : jb_J sc own cc nL rt ini d a b pc' ls (.int (x + y) :: st) h Q) : jb_J sc own cc nL rt ini d a b pc ls (.int y :: .int x :: st) h Q := by
  subst hp
  exact jb_step (fun p l e R s m args below meth c base ρ tc D Qf H locs cells slots la X hrm hR hS hL k => lv_iadd X.1 X.2.1 hd (k _ hL)) kk
end JS
