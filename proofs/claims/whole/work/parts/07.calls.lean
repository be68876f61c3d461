section JK
variable {sc : Nat × (Nat → Int32)} {own : String} {cc : ByteArray} {nL : Nat} {rt : Option FieldType} {ini : Bool} {d a b pc pc' : Nat} {ls : List (Option Value)} {st : List Value} {h h' : jb_H} {Q : Option Value → jb_H → Prop}
/-- a call that has been run: what the callee's contract says of its end -/
theorem jb_after {p : Program} {l : Launch} {e : Env} {R : Room} {s : State} {m : MethodId} {args : Array Value} {below : List Frame} {meth : Method} {c : Code} {base : Nat} {ρ : Nat → Nat} {tc : Nat → ClassId} {D : va_G} {Qf : State → Prop} {H : Heap} {locs : List Loc} {cells slots a1 b1 : Nat} {la : Array Slot} {st0 rest : List Value} {Q1 : Option Value → jb_H → Prop}
    (hr : va_Run p l e R s m args below meth c H locs cells slots a1 b1 (F0 m pc la st0) rest (fun st o t => ∃ (r : Option Value) (h' : jb_H), o = .returned (r.map (jb_cv (jb_sg base ρ))) ∧ Q1 r h' ∧ jb_R base (jb_sg base ρ) tc D h' t.heap ∧ va_F (fun q => base ≤ q) st t) (fun q => base ≤ q))
    (hS : va_S (fun q => base ≤ q) s.heap H locs)
    (kk : ∀ (r : Option Value) (h' : jb_H) (H1 : Heap) (locs1 : List Loc), Q1 r h' → jb_R base (jb_sg base ρ) tc D h' H1 → va_S (fun q => base ≤ q) s.heap H1 locs1 → W p l e R s m args below meth c H1 locs1 (cells + a1) (slots + b1) Qf (F0 m (pc + 3) la ((r.map (jb_cv (jb_sg base ρ))).toList ++ rest))) :
    W p l e R s m args below meth c H locs cells slots Qf (F0 m pc la st0) := by
  intro T hT X
  obtain ⟨v, st₀, t, T', L, h0, X', hL, e1, e2, ⟨r, h', hv, hq, hR', hz, hk⟩, stp⟩ := hr T hT X
  cases hv
  rw [h0] at hz hk
  obtain ⟨t2, a2, b2⟩ := kk r h' T'.heap (locs ++ L) hq (by rw [e1]; exact hR') ⟨Nat.le_trans hS.1 (by rw [e1]; exact hz), fun q h1 h2 => by
      rw [e1, hk q (Nat.lt_of_lt_of_le h1 hS.1) h2]; exact hS.2.1 q h1 h2, fun q hq => by
      rcases List.mem_append.mp hq with h | h
      · exact hS.2.2 q h
      · exact hL q h⟩ T' rfl X'
  exact ⟨t2, stp t2 a2, b2⟩
/-- what every call asks -/
theorem jb_pre {base : Nat} {ρ : Nat → Nat} {tc : Nat → ClassId} {D : va_G} {s : State} {H : Heap} {locs : List Loc} {av : List Value} (hG : jb_G base ρ tc D sc s) (hR : jb_R base (jb_sg base ρ) tc D h H) (hS : va_S (fun q => base ≤ q) s.heap H locs) :
    ∀ U : State, U.heap = H → s.WarmedH U.vm → (fun (v : Array Value) (U : State) => v = (av.map (jb_cv (jb_sg base ρ))).toArray ∧ jb_G base ρ tc D sc U ∧ jb_R base (jb_sg base ρ) tc D h U.heap) (av.map (jb_cv (jb_sg base ρ))).toArray U := by
  intro U hU hW
  refine ⟨rfl, hG.moved hW ?_ ?_, by rw [hU]; exact hR⟩
  · rw [hU]
    obtain ⟨n, -, hz, -⟩ := hR
    omega
  · intro q hq
    rw [hU]
    exact hS.2.1 q (Nat.lt_of_lt_of_le hq hG.2.2.1.1) (by show ¬ base ≤ q; omega)
def jb_wV (own : String) (idx : Nat) (C : String) (y : MethodName) (bytes : ByteArray) (maxL : Nat) (ret : Option FieldType) (n : Nat) : Prop :=
  Cond.code y bytes maxL ret ∈ jb_T ∧ Cond.initialized y.cls ∈ jb_T ∧ Cond.methodLink own idx y ∈ jb_T ∧ Cond.instanceMethod y ∈ jb_T ∧ Cond.selects C y y ∈ jb_T ∧ y.cls ≠ "java/lang/invoke/MethodHandle" ∧ y.cls ≠ "java/lang/invoke/VarHandle" ∧ (parseMethodDescriptor y.desc).map (fun d => d.parameters.length) = some n ∧ maxL ≤ 21
def jb_wVN (own : String) (idx : Nat) (host C : String) (y : MethodName) (bytes : ByteArray) (maxL : Nat) (ret : Option FieldType) (n : Nat) : Prop :=
  Cond.code y bytes maxL ret ∈ jb_T ∧ Cond.initialized y.cls ∈ jb_T ∧ Cond.methodLinkNest own idx y host ∈ jb_T ∧ Cond.instanceMethod y ∈ jb_T ∧ Cond.selects C y y ∈ jb_T ∧ y.cls ≠ "java/lang/invoke/MethodHandle" ∧ y.cls ≠ "java/lang/invoke/VarHandle" ∧ (parseMethodDescriptor y.desc).map (fun d => d.parameters.length) = some n ∧ maxL ≤ 21
def jb_wS (own : String) (idx : Nat) (y : MethodName) (bytes : ByteArray) (maxL : Nat) (ret : Option FieldType) (n : Nat) : Prop :=
  Cond.code y bytes maxL ret ∈ jb_T ∧ Cond.initialized y.cls ∈ jb_T ∧ Cond.methodLink own idx y ∈ jb_T ∧ Cond.static y ∈ jb_T ∧ y.cls ≠ "java/lang/invoke/MethodHandle" ∧ y.cls ≠ "java/lang/invoke/VarHandle" ∧ (parseMethodDescriptor y.desc).map (fun d => d.parameters.length) = some n ∧ maxL ≤ 21
def jb_wSN (own : String) (idx : Nat) (host : String) (y : MethodName) (bytes : ByteArray) (maxL : Nat) (ret : Option FieldType) (n : Nat) : Prop :=
  Cond.code y bytes maxL ret ∈ jb_T ∧ Cond.initialized y.cls ∈ jb_T ∧ Cond.methodLinkNest own idx y host ∈ jb_T ∧ Cond.static y ∈ jb_T ∧ y.cls ≠ "java/lang/invoke/MethodHandle" ∧ y.cls ≠ "java/lang/invoke/VarHandle" ∧ (parseMethodDescriptor y.desc).map (fun d => d.parameters.length) = some n ∧ maxL ≤ 21
def jb_wI (own : String) (idx : Nat) (y : MethodName) (bytes : ByteArray) (maxL n : Nat) : Prop :=
  Cond.code y bytes maxL none ∈ jb_T ∧ Cond.initialized y.cls ∈ jb_T ∧ Cond.methodLink own idx y ∈ jb_T ∧ Cond.instanceMethod y ∈ jb_T ∧ y.name = "<init>" ∧ y.cls ≠ "java/lang/invoke/MethodHandle" ∧ y.cls ≠ "java/lang/invoke/VarHandle" ∧ (parseMethodDescriptor y.desc).map (fun d => d.parameters.length) = some n ∧ maxL ≤ 21
def jb_wIN (own : String) (idx : Nat) (host : String) (y : MethodName) (bytes : ByteArray) (maxL n : Nat) : Prop :=
  Cond.code y bytes maxL none ∈ jb_T ∧ Cond.initialized y.cls ∈ jb_T ∧ Cond.methodLinkNest own idx y host ∈ jb_T ∧ Cond.instanceMethod y ∈ jb_T ∧ y.name = "<init>" ∧ y.cls ≠ "java/lang/invoke/MethodHandle" ∧ y.cls ≠ "java/lang/invoke/VarHandle" ∧ (parseMethodDescriptor y.desc).map (fun d => d.parameters.length) = some n ∧ maxL ≤ 21
/-- a method x, declared by 'owner', of which the receiver's class C has y -/
def jb_wU (own : String) (idx : Nat) (C owner : String) (x y : MethodName) (bytes : ByteArray) (maxL : Nat) (ret : Option FieldType) (n : Nat) : Prop :=
  Cond.code y bytes maxL ret ∈ jb_T ∧ Cond.initialized y.cls ∈ jb_T ∧ Cond.methodLink own idx x ∈ jb_T ∧ Cond.sameMethod x.cls owner x.name x.desc ∈ jb_T ∧ Cond.instanceMethod y ∈ jb_T ∧ Cond.selects C x y ∈ jb_T ∧ (∃ b0 m0 r0, Cond.instanceMethod ⟨owner, x.name, x.desc⟩ ∈ jb_T ∧ Cond.code ⟨owner, x.name, x.desc⟩ b0 m0 r0 ∈ jb_T) ∧ owner ≠ "java/lang/invoke/MethodHandle" ∧ owner ≠ "java/lang/invoke/VarHandle" ∧ (parseMethodDescriptor x.desc).map (fun d => d.parameters.length) = some n ∧ maxL ≤ 21
/-- super.y(..) -/
def jb_wP (own : String) (idx : Nat) (y : MethodName) (bytes : ByteArray) (maxL : Nat) (ret : Option FieldType) (n : Nat) : Prop :=
  Cond.code y bytes maxL ret ∈ jb_T ∧ Cond.initialized y.cls ∈ jb_T ∧ Cond.methodLink own idx y ∈ jb_T ∧ Cond.instanceMethod y ∈ jb_T ∧ Cond.sameMethod y.cls y.cls y.name y.desc ∈ jb_T ∧ Cond.superclass own y.cls ∈ jb_T ∧ y.name ≠ "<init>" ∧ (parseMethodDescriptor y.desc).map (fun d => d.parameters.length) = some n ∧ maxL ≤ 21
theorem jb_sig {y : MethodName} {n : Nat} (h : (parseMethodDescriptor y.desc).map (fun d => d.parameters.length) = some n) : ∀ sig, parseMethodDescriptor y.desc = some sig → n = sig.parameters.length := by
  intro sig hs
  rw [hs] at h
  exact (Option.some.inj h).symm
/-- the stack at a call, and the room of the callee -/
theorem jb_words {m : MethodId} {la : Array Slot} {st0 : List Value} {σ : Nat → Nat} (hc : (st.map Value.category).sum ≤ 8) : 2 * (F0 m pc la st0).monitorRoom + ((st.map (jb_cv σ)).map fun v => v.category).sum ≤ 8 := by
  have e : ((st.map (jb_cv σ)).map fun v => v.category) = st.map Value.category := by
    rw [List.map_map]
    exact List.map_congr_left (fun v _ => jb_cat σ v)
  rw [e]
  show 2 * 0 + _ ≤ 8
  omega
theorem jb_callV {idx ci q n : Nat} {C : String} {T : u_T} {N : Nat} {fs : List Value} {y : MethodName} {bytes : ByteArray} {maxL : Nat} {ret : Option FieldType} {d1 a1 b1 a2 b2 : Nat} {As : List Value} {Q1 : Option Value → jb_H → Prop} (hw : jb_wV own idx C y bytes maxL ret n) (hcl : vwCl[ci]? = some (C, T, N)) (hd : decode cc pc = .ok (.invokevirtual idx, 3)) (hc : jb_C sc y bytes maxL ret d1 a1 b1 (.ref q :: As) h Q1) (hl : jb_look h q = some (.inr (ci, fs))) (hn : As.length = n) (hrm : d1 + 1 ≤ d ∧ a1 + a2 ≤ a ∧ b1 + b2 ≤ b) (hst : (st.map Value.category).sum ≤ 8) (hp : pc + 3 = pc')
    (kk : ∀ r h', Q1 r h' → jb_J sc own cc nL rt ini d a2 b2 pc' ls (r.toList ++ st) h' Q) : jb_J sc own cc nL rt ini d a b pc ls (As.reverse ++ .ref q :: st) h Q := by
  subst hp
  intro p l e R s m args below meth c base ρ tc D mc ms Qf H locs cells slots la X Z hrm2 hR hS hL
  have hG := X.2.2.2.2.1
  have hts : ∀ w ∈ jb_T, w.before args s = true := fun w hw => hG.2.1.use hw
  obtain ⟨w1, w2, w3, w4, w5, w6, w7, w8, w9⟩ := hw
  have hrec := va_recv hG.1 (hR.at hl) hcl (q0 := 0) rfl
  have eS : (As.reverse ++ .ref q :: st).map (jb_cv (jb_sg base ρ)) = (As.map (jb_cv (jb_sg base ρ))).reverse ++ .ref (base + q) :: st.map (jb_cv (jb_sg base ρ)) := by
    rw [List.map_append, List.map_reverse, List.map_cons]
    show _ ++ Value.ref (jb_sg base ρ q) :: _ = _
    rw [hR.sg hl]
  rw [eS]
  refine jb_after (va_runV (C := C) (As := As.map (jb_cv (jb_sg base ρ))) (rest := st.map (jb_cv (jb_sg base ρ))) (Ts := jb_T) (n := n) ⟨X.1, X.2.1, X.2.2.1, X.2.2.2.1, hts⟩ (hc l base ρ tc D) ⟨⟨rfl, rfl, by show d1 + 1 ≤ R.frames; omega, by show 8 + (maxL + 11) + 40 * d1 ≤ R.locals; omega, ?_, List.mem_singleton.mpr rfl, hts _ w1, hts _ w2, ⟨w6, w7⟩, jb_sig w8, hts _ w3⟩, hts _ w4, hts _ w5⟩ ⟨jb_blind, hrec, ?_⟩ rfl (by rw [List.length_map]; exact hn) hL.1 rfl (jb_words hst) hd ⟨by omega, by omega⟩) hS (fun r h' H1 locs1 hq hR1 hS1 => ?_)
  · intro w hw a' U hW
    rw [List.mem_singleton.mp hw]
    exact word_at hW (Or.inl rfl) (hts _ w1)
  · intro U hU hW
    have hz := jb_pre (av := .ref q :: As) hG hR hS U hU hW
    have e2 : jb_cv (jb_sg base ρ) (.ref q) = .ref (base + q) := by show Value.ref (jb_sg base ρ q) = _; rw [hR.sg hl]
    exact ⟨by rw [List.map_cons, e2], hz.2⟩
  · have := kk r h' hq p l e R s m args below meth c base ρ tc D mc ms Qf H1 locs1 (cells + a1) (slots + b1) la X Z (by omega) hR1 hS1 hL
    rw [List.map_append] at this
    cases r <;> exact this
theorem jb_callVN {idx ci q n : Nat} {C host : String} {T : u_T} {N : Nat} {fs : List Value} {y : MethodName} {bytes : ByteArray} {maxL : Nat} {ret : Option FieldType} {d1 a1 b1 a2 b2 : Nat} {As : List Value} {Q1 : Option Value → jb_H → Prop} (hw : jb_wVN own idx host C y bytes maxL ret n) (hcl : vwCl[ci]? = some (C, T, N)) (hd : decode cc pc = .ok (.invokevirtual idx, 3)) (hc : jb_C sc y bytes maxL ret d1 a1 b1 (.ref q :: As) h Q1) (hl : jb_look h q = some (.inr (ci, fs))) (hn : As.length = n) (hrm : d1 + 1 ≤ d ∧ a1 + a2 ≤ a ∧ b1 + b2 ≤ b) (hst : (st.map Value.category).sum ≤ 8) (hp : pc + 3 = pc')
    (kk : ∀ r h', Q1 r h' → jb_J sc own cc nL rt ini d a2 b2 pc' ls (r.toList ++ st) h' Q) : jb_J sc own cc nL rt ini d a b pc ls (As.reverse ++ .ref q :: st) h Q := by
  subst hp
  intro p l e R s m args below meth c base ρ tc D mc ms Qf H locs cells slots la X Z hrm2 hR hS hL
  have hG := X.2.2.2.2.1
  have hts : ∀ w ∈ jb_T, w.before args s = true := fun w hw => hG.2.1.use hw
  obtain ⟨w1, w2, w3, w4, w5, w6, w7, w8, w9⟩ := hw
  have hrec := va_recv hG.1 (hR.at hl) hcl (q0 := 0) rfl
  have eS : (As.reverse ++ .ref q :: st).map (jb_cv (jb_sg base ρ)) = (As.map (jb_cv (jb_sg base ρ))).reverse ++ .ref (base + q) :: st.map (jb_cv (jb_sg base ρ)) := by
    rw [List.map_append, List.map_reverse, List.map_cons]
    show _ ++ Value.ref (jb_sg base ρ q) :: _ = _
    rw [hR.sg hl]
  rw [eS]
  refine jb_after (va_runVN (C := C) (host := host) (As := As.map (jb_cv (jb_sg base ρ))) (rest := st.map (jb_cv (jb_sg base ρ))) (Ts := jb_T) (n := n) ⟨X.1, X.2.1, X.2.2.1, X.2.2.2.1, hts⟩ (hc l base ρ tc D) ⟨⟨⟨rfl, rfl, by show d1 + 1 ≤ R.frames; omega, by show 8 + (maxL + 11) + 40 * d1 ≤ R.locals; omega, ?_, List.mem_singleton.mpr rfl⟩, hts _ w1, hts _ w2, ⟨w6, w7⟩, jb_sig w8, hts _ w3⟩, hts _ w4, hts _ w5⟩ ⟨jb_blind, hrec, ?_⟩ rfl (by rw [List.length_map]; exact hn) hL.1 rfl (jb_words hst) hd ⟨by omega, by omega⟩) hS (fun r h' H1 locs1 hq hR1 hS1 => ?_)
  · intro w hw a' U hW
    rw [List.mem_singleton.mp hw]
    exact word_at hW (Or.inl rfl) (hts _ w1)
  · intro U hU hW
    have hz := jb_pre (av := .ref q :: As) hG hR hS U hU hW
    have e2 : jb_cv (jb_sg base ρ) (.ref q) = .ref (base + q) := by show Value.ref (jb_sg base ρ q) = _; rw [hR.sg hl]
    exact ⟨by rw [List.map_cons, e2], hz.2⟩
  · have := kk r h' hq p l e R s m args below meth c base ρ tc D mc ms Qf H1 locs1 (cells + a1) (slots + b1) la X Z (by omega) hR1 hS1 hL
    rw [List.map_append] at this
    cases r <;> exact this
theorem jb_callU {idx ci q n : Nat} {C owner : String} {T : u_T} {N : Nat} {fs : List Value} {x y : MethodName} {bytes : ByteArray} {maxL : Nat} {ret : Option FieldType} {d1 a1 b1 a2 b2 : Nat} {As : List Value} {Q1 : Option Value → jb_H → Prop} (hw : jb_wU own idx C owner x y bytes maxL ret n) (hcl : vwCl[ci]? = some (C, T, N)) (hd : decode cc pc = .ok (.invokevirtual idx, 3)) (hc : jb_C sc y bytes maxL ret d1 a1 b1 (.ref q :: As) h Q1) (hl : jb_look h q = some (.inr (ci, fs))) (hn : As.length = n) (hrm : d1 + 1 ≤ d ∧ a1 + a2 ≤ a ∧ b1 + b2 ≤ b) (hst : (st.map Value.category).sum ≤ 8) (hp : pc + 3 = pc')
    (kk : ∀ r h', Q1 r h' → jb_J sc own cc nL rt ini d a2 b2 pc' ls (r.toList ++ st) h' Q) : jb_J sc own cc nL rt ini d a b pc ls (As.reverse ++ .ref q :: st) h Q := by
  subst hp
  intro p l e R s m args below meth c base ρ tc D mc ms Qf H locs cells slots la X Z hrm2 hR hS hL
  have hG := X.2.2.2.2.1
  have hts : ∀ w ∈ jb_T, w.before args s = true := fun w hw => hG.2.1.use hw
  obtain ⟨w1, w2, w3, w4, w5, w6, ⟨b0, m0, r0, w7, w8⟩, w9, w10, w11, w12⟩ := hw
  have hrec := va_recv hG.1 (hR.at hl) hcl (q0 := 0) rfl
  have eS : (As.reverse ++ .ref q :: st).map (jb_cv (jb_sg base ρ)) = (As.map (jb_cv (jb_sg base ρ))).reverse ++ .ref (base + q) :: st.map (jb_cv (jb_sg base ρ)) := by
    rw [List.map_append, List.map_reverse, List.map_cons]
    show _ ++ Value.ref (jb_sg base ρ q) :: _ = _
    rw [hR.sg hl]
  rw [eS]
  refine jb_after (va_runU (C := C) (owner := owner) (x := x) (As := As.map (jb_cv (jb_sg base ρ))) (rest := st.map (jb_cv (jb_sg base ρ))) (Ts := jb_T) (n := n) ⟨X.1, X.2.1, X.2.2.1, X.2.2.2.1, hts⟩ (hc l base ρ tc D) ⟨⟨rfl, rfl, by show d1 + 1 ≤ R.frames; omega, by show 8 + (maxL + 11) + 40 * d1 ≤ R.locals; omega, ?_, List.mem_singleton.mpr rfl⟩, hts _ w1, hts _ w2, ⟨w9, w10⟩, jb_sig w11, hts _ w3, hts _ w4, va_Decl.of (hts _ w7) (hts _ w8), hts _ w6, hts _ w5⟩ ⟨jb_blind, hrec, ?_⟩ rfl (by rw [List.length_map]; exact hn) hL.1 rfl (jb_words hst) hd ⟨by omega, by omega⟩) hS (fun r h' H1 locs1 hq hR1 hS1 => ?_)
  · intro w hw a' U hW
    rw [List.mem_singleton.mp hw]
    exact word_at hW (Or.inl rfl) (hts _ w1)
  · intro U hU hW
    have hz := jb_pre (av := .ref q :: As) hG hR hS U hU hW
    have e2 : jb_cv (jb_sg base ρ) (.ref q) = .ref (base + q) := by show Value.ref (jb_sg base ρ q) = _; rw [hR.sg hl]
    exact ⟨by rw [List.map_cons, e2], hz.2⟩
  · have := kk r h' hq p l e R s m args below meth c base ρ tc D mc ms Qf H1 locs1 (cells + a1) (slots + b1) la X Z (by omega) hR1 hS1 hL
    rw [List.map_append] at this
    cases r <;> exact this
theorem jb_callS {idx n : Nat} {y : MethodName} {bytes : ByteArray} {maxL : Nat} {ret : Option FieldType} {d1 a1 b1 a2 b2 : Nat} {As : List Value} {Q1 : Option Value → jb_H → Prop} (hw : jb_wS own idx y bytes maxL ret n) (hd : decode cc pc = .ok (.invokestatic idx, 3)) (hc : jb_C sc y bytes maxL ret d1 a1 b1 As h Q1) (hn : As.length = n) (hrm : d1 + 1 ≤ d ∧ a1 + a2 ≤ a ∧ b1 + b2 ≤ b) (hst : (st.map Value.category).sum ≤ 8) (hp : pc + 3 = pc')
    (kk : ∀ r h', Q1 r h' → jb_J sc own cc nL rt ini d a2 b2 pc' ls (r.toList ++ st) h' Q) : jb_J sc own cc nL rt ini d a b pc ls (As.reverse ++ st) h Q := by
  subst hp
  intro p l e R s m args below meth c base ρ tc D mc ms Qf H locs cells slots la X Z hrm2 hR hS hL
  have hG := X.2.2.2.2.1
  have hts : ∀ w ∈ jb_T, w.before args s = true := fun w hw => hG.2.1.use hw
  obtain ⟨w1, w2, w3, w4, w6, w7, w8, w9⟩ := hw
  rw [List.map_append, List.map_reverse]
  refine jb_after (va_runS (As := As.map (jb_cv (jb_sg base ρ))) (rest := st.map (jb_cv (jb_sg base ρ))) (Ts := jb_T) (n := n) ⟨X.1, X.2.1, X.2.2.1, X.2.2.2.1, hts⟩ (hc l base ρ tc D) ⟨⟨rfl, rfl, by show d1 + 1 ≤ R.frames; omega, by show 8 + (maxL + 11) + 40 * d1 ≤ R.locals; omega, ?_, List.mem_singleton.mpr rfl, hts _ w1, hts _ w2, ⟨w6, w7⟩, jb_sig w8, hts _ w3⟩, hts _ w4⟩ ⟨jb_blind, jb_pre hG hR hS⟩ rfl (by rw [List.length_map]; exact hn) hL.1 rfl (jb_words hst) hd ⟨by omega, by omega⟩) hS (fun r h' H1 locs1 hq hR1 hS1 => ?_)
  · intro w hw a' U hW
    rw [List.mem_singleton.mp hw]
    exact word_at hW (Or.inl rfl) (hts _ w1)
  · have := kk r h' hq p l e R s m args below meth c base ρ tc D mc ms Qf H1 locs1 (cells + a1) (slots + b1) la X Z (by omega) hR1 hS1 hL
    rw [List.map_append] at this
    cases r <;> exact this
theorem jb_callSN {idx n : Nat} {host : String} {y : MethodName} {bytes : ByteArray} {maxL : Nat} {ret : Option FieldType} {d1 a1 b1 a2 b2 : Nat} {As : List Value} {Q1 : Option Value → jb_H → Prop} (hw : jb_wSN own idx host y bytes maxL ret n) (hd : decode cc pc = .ok (.invokestatic idx, 3)) (hc : jb_C sc y bytes maxL ret d1 a1 b1 As h Q1) (hn : As.length = n) (hrm : d1 + 1 ≤ d ∧ a1 + a2 ≤ a ∧ b1 + b2 ≤ b) (hst : (st.map Value.category).sum ≤ 8) (hp : pc + 3 = pc')
    (kk : ∀ r h', Q1 r h' → jb_J sc own cc nL rt ini d a2 b2 pc' ls (r.toList ++ st) h' Q) : jb_J sc own cc nL rt ini d a b pc ls (As.reverse ++ st) h Q := by
  subst hp
  intro p l e R s m args below meth c base ρ tc D mc ms Qf H locs cells slots la X Z hrm2 hR hS hL
  have hG := X.2.2.2.2.1
  have hts : ∀ w ∈ jb_T, w.before args s = true := fun w hw => hG.2.1.use hw
  obtain ⟨w1, w2, w3, w4, w6, w7, w8, w9⟩ := hw
  rw [List.map_append, List.map_reverse]
  refine jb_after (va_runSN (host := host) (As := As.map (jb_cv (jb_sg base ρ))) (rest := st.map (jb_cv (jb_sg base ρ))) (Ts := jb_T) (n := n) ⟨X.1, X.2.1, X.2.2.1, X.2.2.2.1, hts⟩ (hc l base ρ tc D) ⟨⟨⟨rfl, rfl, by show d1 + 1 ≤ R.frames; omega, by show 8 + (maxL + 11) + 40 * d1 ≤ R.locals; omega, ?_, List.mem_singleton.mpr rfl⟩, hts _ w1, hts _ w2, ⟨w6, w7⟩, jb_sig w8, hts _ w3⟩, hts _ w4, trivial⟩ ⟨jb_blind, jb_pre hG hR hS⟩ rfl (by rw [List.length_map]; exact hn) hL.1 rfl (jb_words hst) hd ⟨by omega, by omega⟩) hS (fun r h' H1 locs1 hq hR1 hS1 => ?_)
  · intro w hw a' U hW
    rw [List.mem_singleton.mp hw]
    exact word_at hW (Or.inl rfl) (hts _ w1)
  · have := kk r h' hq p l e R s m args below meth c base ρ tc D mc ms Qf H1 locs1 (cells + a1) (slots + b1) la X Z (by omega) hR1 hS1 hL
    rw [List.map_append] at this
    cases r <;> exact this
theorem jb_callI {idx q n : Nat} {y : MethodName} {bytes : ByteArray} {maxL : Nat} {d1 a1 b1 a2 b2 : Nat} {e0 : va_E} {As : List Value} {Q1 : Option Value → jb_H → Prop} (hw : jb_wI own idx y bytes maxL n) (hd : decode cc pc = .ok (.invokespecial idx, 3)) (hc : jb_C sc y bytes maxL none d1 a1 b1 (.ref q :: As) h Q1) (hl : jb_look h q = some e0) (hn : As.length = n) (hrm : d1 + 1 ≤ d ∧ a1 + a2 ≤ a ∧ b1 + b2 ≤ b) (hst : (st.map Value.category).sum ≤ 8) (hp : pc + 3 = pc')
    (kk : ∀ r h', Q1 r h' → jb_J sc own cc nL rt ini d a2 b2 pc' ls (r.toList ++ st) h' Q) : jb_J sc own cc nL rt ini d a b pc ls (As.reverse ++ .ref q :: st) h Q := by
  subst hp
  intro p l e R s m args below meth c base ρ tc D mc ms Qf H locs cells slots la X Z hrm2 hR hS hL
  have hG := X.2.2.2.2.1
  have hts : ∀ w ∈ jb_T, w.before args s = true := fun w hw => hG.2.1.use hw
  obtain ⟨w1, w2, w3, w4, w5, w6, w7, w8, w9⟩ := hw
  have eS : (As.reverse ++ .ref q :: st).map (jb_cv (jb_sg base ρ)) = (As.map (jb_cv (jb_sg base ρ))).reverse ++ .ref (base + q) :: st.map (jb_cv (jb_sg base ρ)) := by
    rw [List.map_append, List.map_reverse, List.map_cons]
    show _ ++ Value.ref (jb_sg base ρ q) :: _ = _
    rw [hR.sg hl]
  rw [eS]
  refine jb_after (va_runI (As := As.map (jb_cv (jb_sg base ρ))) (rest := st.map (jb_cv (jb_sg base ρ))) (Ts := jb_T) (n := n) ⟨X.1, X.2.1, X.2.2.1, X.2.2.2.1, hts⟩ (hc l base ρ tc D) ⟨⟨rfl, rfl, by show d1 + 1 ≤ R.frames; omega, by show 8 + (maxL + 11) + 40 * d1 ≤ R.locals; omega, ?_, List.mem_singleton.mpr rfl, hts _ w1, hts _ w2, ⟨w6, w7⟩, jb_sig w8, hts _ w3⟩, w5, hts _ w4⟩ ⟨jb_blind, ?_⟩ rfl (by rw [List.length_map]; exact hn) hL.1 rfl (jb_words hst) hd ⟨by omega, by omega⟩) hS (fun r h' H1 locs1 hq hR1 hS1 => ?_)
  · intro w hw a' U hW
    rw [List.mem_singleton.mp hw]
    exact word_at hW (Or.inl rfl) (hts _ w1)
  · intro U hU hW
    have hz := jb_pre (av := .ref q :: As) hG hR hS U hU hW
    have e2 : jb_cv (jb_sg base ρ) (.ref q) = .ref (base + q) := by show Value.ref (jb_sg base ρ q) = _; rw [hR.sg hl]
    exact ⟨by rw [List.map_cons, e2], hz.2⟩
  · have := kk r h' hq p l e R s m args below meth c base ρ tc D mc ms Qf H1 locs1 (cells + a1) (slots + b1) la X Z (by omega) hR1 hS1 hL
    rw [List.map_append] at this
    cases r <;> exact this
theorem jb_callIN {idx q n : Nat} {host : String} {y : MethodName} {bytes : ByteArray} {maxL : Nat} {d1 a1 b1 a2 b2 : Nat} {e0 : va_E} {As : List Value} {Q1 : Option Value → jb_H → Prop} (hw : jb_wIN own idx host y bytes maxL n) (hd : decode cc pc = .ok (.invokespecial idx, 3)) (hc : jb_C sc y bytes maxL none d1 a1 b1 (.ref q :: As) h Q1) (hl : jb_look h q = some e0) (hn : As.length = n) (hrm : d1 + 1 ≤ d ∧ a1 + a2 ≤ a ∧ b1 + b2 ≤ b) (hst : (st.map Value.category).sum ≤ 8) (hp : pc + 3 = pc')
    (kk : ∀ r h', Q1 r h' → jb_J sc own cc nL rt ini d a2 b2 pc' ls (r.toList ++ st) h' Q) : jb_J sc own cc nL rt ini d a b pc ls (As.reverse ++ .ref q :: st) h Q := by
  subst hp
  intro p l e R s m args below meth c base ρ tc D mc ms Qf H locs cells slots la X Z hrm2 hR hS hL
  have hG := X.2.2.2.2.1
  have hts : ∀ w ∈ jb_T, w.before args s = true := fun w hw => hG.2.1.use hw
  obtain ⟨w1, w2, w3, w4, w5, w6, w7, w8, w9⟩ := hw
  have eS : (As.reverse ++ .ref q :: st).map (jb_cv (jb_sg base ρ)) = (As.map (jb_cv (jb_sg base ρ))).reverse ++ .ref (base + q) :: st.map (jb_cv (jb_sg base ρ)) := by
    rw [List.map_append, List.map_reverse, List.map_cons]
    show _ ++ Value.ref (jb_sg base ρ q) :: _ = _
    rw [hR.sg hl]
  rw [eS]
  refine jb_after (va_runIN (host := host) (As := As.map (jb_cv (jb_sg base ρ))) (rest := st.map (jb_cv (jb_sg base ρ))) (Ts := jb_T) (n := n) ⟨X.1, X.2.1, X.2.2.1, X.2.2.2.1, hts⟩ (hc l base ρ tc D) ⟨⟨⟨rfl, rfl, by show d1 + 1 ≤ R.frames; omega, by show 8 + (maxL + 11) + 40 * d1 ≤ R.locals; omega, ?_, List.mem_singleton.mpr rfl⟩, hts _ w1, hts _ w2, ⟨w6, w7⟩, jb_sig w8, hts _ w3⟩, w5, hts _ w4⟩ ⟨jb_blind, ?_⟩ rfl (by rw [List.length_map]; exact hn) hL.1 rfl (jb_words hst) hd ⟨by omega, by omega⟩) hS (fun r h' H1 locs1 hq hR1 hS1 => ?_)
  · intro w hw a' U hW
    rw [List.mem_singleton.mp hw]
    exact word_at hW (Or.inl rfl) (hts _ w1)
  · intro U hU hW
    have hz := jb_pre (av := .ref q :: As) hG hR hS U hU hW
    have e2 : jb_cv (jb_sg base ρ) (.ref q) = .ref (base + q) := by show Value.ref (jb_sg base ρ q) = _; rw [hR.sg hl]
    exact ⟨by rw [List.map_cons, e2], hz.2⟩
  · have := kk r h' hq p l e R s m args below meth c base ρ tc D mc ms Qf H1 locs1 (cells + a1) (slots + b1) la X Z (by omega) hR1 hS1 hL
    rw [List.map_append] at this
    cases r <;> exact this
theorem jb_callP {idx ci q n : Nat} {C : String} {T : u_T} {N : Nat} {fs : List Value} {y : MethodName} {bytes : ByteArray} {maxL : Nat} {ret : Option FieldType} {d1 a1 b1 a2 b2 : Nat} {As : List Value} {Q1 : Option Value → jb_H → Prop} (hw : jb_wP own idx y bytes maxL ret n) (hcl : vwCl[ci]? = some (C, T, N)) (hd : decode cc pc = .ok (.invokespecial idx, 3)) (hc : jb_C sc y bytes maxL ret d1 a1 b1 (.ref q :: As) h Q1) (hl : jb_look h q = some (.inr (ci, fs))) (hn : As.length = n) (hrm : d1 + 1 ≤ d ∧ a1 + a2 ≤ a ∧ b1 + b2 ≤ b) (hst : (st.map Value.category).sum ≤ 8) (hp : pc + 3 = pc')
    (kk : ∀ r h', Q1 r h' → jb_J sc own cc nL rt ini d a2 b2 pc' ls (r.toList ++ st) h' Q) : jb_J sc own cc nL rt ini d a b pc ls (As.reverse ++ .ref q :: st) h Q := by
  subst hp
  intro p l e R s m args below meth c base ρ tc D mc ms Qf H locs cells slots la X Z hrm2 hR hS hL
  have hG := X.2.2.2.2.1
  have hts : ∀ w ∈ jb_T, w.before args s = true := fun w hw => hG.2.1.use hw
  obtain ⟨w1, w2, w3, w4, w5, w6, w7, w8, w9⟩ := hw
  have hrec := va_recv hG.1 (hR.at hl) hcl (q0 := 0) rfl
  have eS : (As.reverse ++ .ref q :: st).map (jb_cv (jb_sg base ρ)) = (As.map (jb_cv (jb_sg base ρ))).reverse ++ .ref (base + q) :: st.map (jb_cv (jb_sg base ρ)) := by
    rw [List.map_append, List.map_reverse, List.map_cons]
    show _ ++ Value.ref (jb_sg base ρ q) :: _ = _
    rw [hR.sg hl]
  rw [eS]
  refine jb_after (va_runSU (C := C) (As := As.map (jb_cv (jb_sg base ρ))) (rest := st.map (jb_cv (jb_sg base ρ))) (Ts := jb_T) (n := n) (hG.1.1 ci _ hcl).2 ⟨X.1, X.2.1, X.2.2.1, X.2.2.2.1, hts⟩ (hc l base ρ tc D) ⟨⟨rfl, rfl, by show d1 + 1 ≤ R.frames; omega, by show 8 + (maxL + 11) + 40 * d1 ≤ R.locals; omega, ?_, List.mem_singleton.mpr rfl⟩, hts _ w3, hts _ w5, hts _ w6, hts _ w4, hts _ w2, hts _ w1, w7, jb_sig w8⟩ ⟨jb_blind, hrec, ?_⟩ rfl (by rw [List.length_map]; exact hn) hL.1 rfl (jb_words hst) hd ⟨by omega, by omega⟩) hS (fun r h' H1 locs1 hq hR1 hS1 => ?_)
  · intro w hw a' U hW
    rw [List.mem_singleton.mp hw]
    exact word_at hW (Or.inl rfl) (hts _ w1)
  · intro U hU hW
    have hz := jb_pre (av := .ref q :: As) hG hR hS U hU hW
    have e2 : jb_cv (jb_sg base ρ) (.ref q) = .ref (base + q) := by show Value.ref (jb_sg base ρ q) = _; rw [hR.sg hl]
    exact ⟨by rw [List.map_cons, e2], hz.2⟩
  · have := kk r h' hq p l e R s m args below meth c base ρ tc D mc ms Qf H1 locs1 (cells + a1) (slots + b1) la X Z (by omega) hR1 hS1 hL
    rw [List.map_append] at this
    cases r <;> exact this
end JK
