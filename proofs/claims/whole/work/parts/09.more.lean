section JP
variable {sc : Nat × (Nat → Int32)} {own : String} {cc : ByteArray} {nL : Nat} {rt : Option FieldType} {ini : Bool} {d a b pc pc' : Nat} {ls : List (Option Value)} {st : List Value} {h h' : jb_H} {Q : Option Value → jb_H → Prop}
theorem jb_ishr {x y : Int32} (hd : decode cc pc = .ok (.ishr, 1)) (hp : pc + 1 = pc') (kk : jb_J sc own cc nL rt ini d a b pc' ls (.int (x >>> (y &&& 31)) :: st) h Q) : jb_J sc own cc nL rt ini d a b pc ls (.int y :: .int x :: st) h Q := by
  subst hp
  exact jb_step (fun p l e R s m args below meth c base ρ tc D Qf H locs cells slots la X hrm hR hS hL k => lv_ishr X.1 X.2.1 hd (k _ hL)) kk
/-- super.x(..), where the superclass C2 has it from its own superclass -/
def jb_wP2 (own : String) (idx : Nat) (C2 : String) (y : MethodName) (bytes : ByteArray) (maxL : Nat) (ret : Option FieldType) (n : Nat) : Prop :=
  Cond.code y bytes maxL ret ∈ jb_T ∧ Cond.initialized y.cls ∈ jb_T ∧ Cond.methodLink own idx ⟨C2, y.name, y.desc⟩ ∈ jb_T ∧ Cond.instanceMethod y ∈ jb_T ∧ Cond.sameMethod C2 y.cls y.name y.desc ∈ jb_T ∧ Cond.superclass own C2 ∈ jb_T ∧ Cond.superclass C2 y.cls ∈ jb_T ∧ y.name ≠ "<init>" ∧ (parseMethodDescriptor y.desc).map (fun d => d.parameters.length) = some n ∧ maxL ≤ 21
theorem jb_callP2 {idx ci q n : Nat} {C C2 : String} {T : u_T} {N : Nat} {fs : List Value} {y : MethodName} {bytes : ByteArray} {maxL : Nat} {ret : Option FieldType} {d1 a1 b1 a2 b2 : Nat} {As : List Value} {Q1 : Option Value → jb_H → Prop} (hw : jb_wP2 own idx C2 y bytes maxL ret n) (hcl : vwCl[ci]? = some (C, T, N)) (hd : decode cc pc = .ok (.invokespecial idx, 3)) (hc : jb_C sc y bytes maxL ret d1 a1 b1 (.ref q :: As) h Q1) (hl : jb_look h q = some (.inr (ci, fs))) (hn : As.length = n) (hrm : d1 + 1 ≤ d ∧ a1 + a2 ≤ a ∧ b1 + b2 ≤ b) (hst : (st.map Value.category).sum ≤ 8) (hp : pc + 3 = pc')
    (kk : ∀ r h', Q1 r h' → jb_J sc own cc nL rt ini d a2 b2 pc' ls (r.toList ++ st) h' Q) : jb_J sc own cc nL rt ini d a b pc ls (As.reverse ++ .ref q :: st) h Q := by
  subst hp
  intro p l e R s m args below meth c base ρ tc D mc ms Qf H locs cells slots la X Z hrm2 hR hS hL
  have hG := X.2.2.2.2.1
  have hts : ∀ w ∈ jb_T, w.before args s = true := fun w hw => hG.2.1.use hw
  obtain ⟨w1, w2, w3, w4, w5, w6, w7, w8, w9, w10⟩ := hw
  obtain ⟨cellB, hcB, hoB, hclB⟩ := va_recv hG.1 (hR.at hl) hcl (q0 := 0) rfl
  have eS : (As.reverse ++ .ref q :: st).map (jb_cv (jb_sg base ρ)) = (As.map (jb_cv (jb_sg base ρ))).reverse ++ .ref (base + q) :: st.map (jb_cv (jb_sg base ρ)) := by
    rw [List.map_append, List.map_reverse, List.map_cons]
    show _ ++ Value.ref (jb_sg base ρ q) :: _ = _
    rw [hR.sg hl]
  rw [eS]
  obtain ⟨hfc, kB, hkB, -⟩ := (hG.1.1 ci _ hcl).2
  have hcc : D.1 ci = cellB.cls := Option.some.inj (hfc.symm.trans hclB)
  rw [hcc] at hkB
  obtain ⟨mk, methM, hnamed, hmethM, hstM, habM⟩ := Cond.instanceMethod_spec (hts _ w4)
  obtain ⟨methM', cM, hmethM', -, -, -, -, -, -, hsigM⟩ := Cond.code_spec hnamed (hts _ w1)
  cases hmethM.symm.trans hmethM'
  obtain ⟨ps, dk, kp, hps, hdk, hkp, hsuper, -, -, hnid⟩ := Cond.superclass_spec X.2.2.2.1 (hts _ w6)
  obtain ⟨ps2, dk2, kp2, hps2, hdk2, hkp2, hsuper2, -, -, hnid2⟩ := Cond.superclass_spec hps (hts _ w7)
  have hn9 : s.methodNamed? ⟨y.cls, y.name, y.desc⟩ = some mk := hnamed
  have hpm : ps2 = mk.cls := Option.some.inj (hps2.symm.trans (findClass_of_methodNamed hnamed))
  have hsub : s.vm.isSubclass ps mk.cls = true := by
    rw [← hpm]
    have q1 : ps < s.vm.classes.size := (Array.getElem?_eq_some_iff.mp hdk2).1
    obtain ⟨n9, hn9⟩ : ∃ n9, s.vm.classes.size = n9 + 1 := ⟨s.vm.classes.size - 1, (Nat.sub_add_cancel (Nat.lt_of_le_of_lt (Nat.zero_le _) q1)).symm⟩
    unfold Vm.isSubclass
    rw [hn9]
    simp [Vm.isSubclassAux, hdk2, hsuper2]
  have hrun : va_Run p l e R s m args below meth c H locs cells slots a1 b1 (F0 m pc la ((As.map (jb_cv (jb_sg base ρ))).reverse ++ .ref (base + q) :: st.map (jb_cv (jb_sg base ρ)))) (st.map (jb_cv (jb_sg base ρ))) (fun st o t => ∃ (r : Option Value) (h' : jb_H), o = .returned (r.map (jb_cv (jb_sg base ρ))) ∧ Q1 r h' ∧ jb_R base (jb_sg base ρ) tc D h' t.heap ∧ va_F (fun q => base ≤ q) st t) (fun q => base ≤ q) := by
    have hK : Back l R p e below s args y 3 8 (PreOf R a1 b1 _) (PostOf _ a1 b1 _) := back_of (bytes := bytes) (maxL := maxL) (ret := ret) (hc l base ρ tc D) jb_blind rfl rfl (by show d1 + 1 ≤ R.frames; omega) (by show 8 + (maxL + 11) + 40 * d1 ≤ R.locals; omega) (fun w hw a' U hW => by rw [List.mem_singleton.mp hw]; exact word_at hW (Or.inl rfl) (hts _ w1)) (List.mem_singleton.mpr rfl) (fun a' U hW => word_at hW (Or.inl rfl) (hts _ w2))
    intro T hT X0
    obtain ⟨vm₁, X₁, hstep₁⟩ := X0.invokespecialUp X.1 X.2.2.2.1 (hts _ w3) (hts _ w5) hn9 hmethM hstM habM w8 hdk hnid hps hsuper hsub (a := base + q) (cell := cellB) (by rw [hT]; exact hcB)
      (fun z h => by rw [h] at hoB; cases hoB) hkB (g := F0 m pc la ((As.map (jb_cv (jb_sg base ρ))).reverse ++ .ref (base + q) :: st.map (jb_cv (jb_sg base ρ)))) rfl (argsL := As.map (jb_cv (jb_sg base ρ))) (rest := st.map (jb_cv (jb_sg base ρ))) (by rw [List.length_map, hn]; exact jb_sig w9 _ hsigM) rfl (by rw [X.2.1]; exact hd)
    have hpre : ∀ U : State, U.heap = H → s.WarmedH U.vm → (fun (v : Array Value) (U : State) => v = ((.ref q :: As).map (jb_cv (jb_sg base ρ))).toArray ∧ jb_G base ρ tc D sc U ∧ jb_R base (jb_sg base ρ) tc D h U.heap) (Value.ref (base + q) :: As.map (jb_cv (jb_sg base ρ))).toArray U := by
      intro U hU hW
      have hz := jb_pre (av := .ref q :: As) hG hR hS U hU hW
      have e2 : jb_cv (jb_sg base ρ) (.ref q) = .ref (base + q) := by show Value.ref (jb_sg base ρ q) = _; rw [hR.sg hl]
      exact ⟨by rw [List.map_cons, e2], hz.2⟩
    obtain ⟨v, ⟨U', l2, c2, s2⟩, X', ⟨g', mk', t, L, e1, e2, hq, h1, hL9, h2, h3⟩, hsteps⟩ := hK m meth c ⟨T.setVm vm₁, locs, cells, slots⟩ { (F0 m pc la ((As.map (jb_cv (jb_sg base ρ))).reverse ++ .ref (base + q) :: st.map (jb_cv (jb_sg base ρ)))) with stack := st.map (jb_cv (jb_sg base ρ)) } (.invokespecial idx) mk (Value.ref (base + q) :: As.map (jb_cv (jb_sg base ρ))).toArray X₁ rfl (hL.1.trans X.2.2.1.symm) (by rw [X.2.1]; exact hd) (jb_words hst) (X₁.named hnamed) ⟨by show cells + a1 ≤ _; omega, by show slots + b1 ≤ _; omega, hpre (T.setVm vm₁) hT X₁.warmed⟩
    dsimp only [Pt.U, Pt.locs, Pt.cells, Pt.slots] at X' e1 e2 h1 h2 h3 hsteps
    subst h1; subst h2; subst h3
    exact ⟨v, (T.setVm vm₁).calling g' mk' (Value.ref (base + q) :: As.map (jb_cv (jb_sg base ρ))).toArray, t, U', L, hT, X', hL9, e1, e2, hq, fun target h => hstep₁ _ (by rw [doInvoke_state]; exact hsteps.trans h)⟩
  refine jb_after hrun hS (fun r h' H1 locs1 hq hR1 hS1 => ?_)
  have := kk r h' hq p l e R s m args below meth c base ρ tc D mc ms Qf H1 locs1 (cells + a1) (slots + b1) la X Z (by omega) hR1 hS1 hL
  rw [List.map_append] at this
  cases r <;> exact this
/-- rows of rows: the outer one at k, the N inner ones behind it -/
theorem jb_R.grid {base : Nat} {σ : Nat → Nat} {tc : Nat → ClassId} {D : va_G} {h h' : jb_H} {H H1 : Heap} (hR : jb_R base σ tc D h H) {k N : Nat} {e1 e2 : va_E} (hk : H.size = base + k) (hk9 : k + 1 + N ≤ 900000) (hl : ∀ j, jb_look h' j = if j = k then some e1 else if k < j ∧ j < k + 1 + N then some e2 else jb_look h j) (hz : H1.size = H.size + 1 + N) (oq : ∀ x : Nat, x < H.size → H1[x]? = H[x]?) (he1 : va_at D vwCl (base + k, jb_ce σ tc e1) H1) (he2 : ∀ j, j < N → va_at D vwCl (base + (k + 1 + j), jb_ce σ tc e2) H1) : jb_R base σ tc D h' H1 := by
  obtain ⟨n, h1, h2, h3, h4⟩ := hR
  have hn : n = k := by omega
  subst hn
  refine ⟨n + 1 + N, by omega, by omega, fun j => ?_, fun j x hx => ?_⟩
  · rw [hl]
    by_cases hj : j = n
    · rw [if_pos hj]
      constructor
      · intro q; cases q
      · intro q; omega
    · rw [if_neg hj]
      by_cases hj2 : n < j ∧ j < n + 1 + N
      · rw [if_pos hj2]
        constructor
        · intro q; cases q
        · intro q; omega
      · rw [if_neg hj2, h3]; omega
  · rw [hl] at hx
    by_cases hj : j = n
    · subst hj
      rw [if_pos rfl] at hx
      cases hx
      exact he1
    · rw [if_neg hj] at hx
      by_cases hj2 : n < j ∧ j < n + 1 + N
      · rw [if_pos hj2] at hx
        cases hx
        have := he2 (j - (n + 1)) (by omega)
        rw [show n + 1 + (j - (n + 1)) = j by omega] at this
        exact this
      · rw [if_neg hj2] at hx
        have hv := h4 j x hx
        exact hv.kept (oq _ hv.lt)
theorem jb_outer (c : ClassId) (N h0 : Nat) : ∀ i : Nat, Jvm.Free.Multi.outerC c N h0 i = arrV c N (fun j => va_rf (if j < i then some (h0 + 1 + j) else none))
  | 0 => by
    show ({ cls := c, slots := Array.replicate N .null, vm := .none } : Cell) = _
    rw [arrV_new]
    refine congrArg (arrV c N) (funext fun j => ?_)
    simp [va_rf]
  | i + 1 => by
    show (Jvm.Free.Multi.outerC c N h0 i).setSlot i (.ref (h0 + 1 + i)) = _
    rw [jb_outer c N h0 i, arrV_store]
    refine congrArg (arrV c N) (funext fun j => ?_)
    by_cases e : j = i
    · subst e
      simp [updV, va_rf]
    · by_cases h : j < i
      · simp [updV, e, h, Nat.lt_succ_of_lt h]
      · simp [updV, e, h, show ¬ j < i + 1 by omega]
theorem jb_mnew {idx k N K : Nat} {n m9 : Int32} {a2 b2 : Nat} (hw : Cond.classLink own idx "[[I" ∈ jb_T) (hd : decode cc pc = .ok (.multianewarray idx 2, 4)) (hn : jb_ix n N) (hm : jb_ix m9 K) (hN : N ≤ 1000) (hK : K ≤ 1000) (hnx : jb_nx h k) (hk9 : k + 1 + N ≤ 900000) (hadd : ∀ j, jb_look h' j = if j = k then some (.inl (2, N, .inr (.inr (.inr (.inr (fun i => if i < N then some (k + 1 + i) else none)))))) else if k < j ∧ j < k + 1 + N then some (.inl (0, K, .inl (fun _ => 0))) else jb_look h j) (ha : a2 + 1 + N ≤ a) (hb : b2 + N + N * K ≤ b) (hp : pc + 4 = pc') (kk : jb_J sc own cc nL rt ini d a2 b2 pc' ls (.ref k :: st) h' Q) : jb_J sc own cc nL rt ini d a b pc ls (.int m9 :: .int n :: st) h Q := by
  subst hp
  intro p l e R s m args below meth c base ρ tc D mc ms Qf H locs cells slots la X Z hrm hR hS hL
  have hz := hnx.size hR
  have hG := X.2.2.2.2.1
  have hts : ∀ w ∈ jb_T, w.before args s = true := fun w hw => hG.2.1.use hw
  intro T hT X0
  obtain ⟨vm₁, cA, comp, -, fA, fC, hO, -, X', step⟩ := X0.multianewarray2F (ty := .int) X.1 X.2.2.2.1 (hts _ hw) (Jvm.Stand.arrayOver_alikeB (Vm.Alike.refl _) hG.2.2.2.2.2.2) (word_at (a' := args) (U := s) (State.WarmedH.refl s) (Or.inr ⟨_, rfl⟩) hG.2.2.2.1) (g := F0 m pc la (.int m9 :: .int n :: st.map (jb_cv (jb_sg base ρ)))) rfl (by rw [X.2.1]; exact hd) rfl hn.1 hm.1 (by rw [hn.2]; omega) (by rw [hm.2]; show K * 4 ≤ _; omega) (by rw [hm.2]; omega) rfl rfl (by rw [hn.2]; omega) (by rw [hn.2, hm.2]; omega)
  rw [hn.2, hm.2] at X' step
  have e0 : comp = tc 0 := Option.some.inj (fC.symm.trans (hG.1.2 0 _ rfl).2)
  have e2 : cA = tc 2 := Option.some.inj (fA.symm.trans (hG.1.2 2 _ rfl).2)
  subst e0
  subst e2
  generalize hF : Jvm.Free.Multi.fill (T.setVm vm₁) (tc 2) (tc 0) N K (defaultValue .int) N = F at X' step
  have hTh : (T.setVm vm₁).heap = H := hT
  obtain ⟨f1, f2, -, -⟩ := Jvm.Free.Multi.fill_facts (T.setVm vm₁) (tc 2) (tc 0) N K (defaultValue .int) N
  rw [hF, hTh] at f1 f2
  have hold : ∀ x : Nat, x < H.size → F.heap[x]? = H[x]? := fun x hx => by
    have := Jvm.Free.Multi.fill_old (T.setVm vm₁) (tc 2) (tc 0) N K (defaultValue .int) (a := x) (by rw [hTh]; exact hx) N
    rw [hF, hTh] at this
    exact this
  have hrow : ∀ j : Nat, j < N → F.heap[H.size + 1 + j]? = some (vp_cell (tc 0) (K, .inl (fun _ => 0))) := fun j hj => by
    have := Jvm.Free.Multi.fill_inner (T.setVm vm₁) (tc 2) (tc 0) N K (defaultValue .int) N j hj
    rw [hF, hTh] at this
    rw [this]
    show some ({ cls := tc 0, slots := Array.replicate K (.int 0), vm := .none } : Cell) = _
    rw [arrV_new]; rfl
  have hv1 : va_at D vwCl (base + k, jb_ce (jb_sg base ρ) tc (.inl (2, N, .inr (.inr (.inr (.inr (fun i => if i < N then some (k + 1 + i) else none))))))) F.heap := by
    show F.heap[base + k]? = some (vp_cell (tc 2) (N, .inr (.inr (.inr (.inr (fun i => (if i < N then some (k + 1 + i) else none).map (jb_sg base ρ)))))))
    rw [← hz, f2, jb_outer, vp_cell_q]
    refine congrArg (fun z => some (arrV (tc 2) N z)) (funext fun j => ?_)
    by_cases hj : j < N
    · have hs : jb_sg base ρ (k + 1 + j) = base + (k + 1 + j) := if_pos (by omega)
      simp only [hj, if_true, Option.map_some, hs, va_rf]
      rw [hz, show base + k + 1 + j = base + (k + 1 + j) by omega]
    · simp [hj, va_rf]
  have hv2 : ∀ j, j < N → va_at D vwCl (base + (k + 1 + j), jb_ce (jb_sg base ρ) tc (.inl (0, K, .inl (fun _ => 0)))) F.heap := fun j hj => by
    have := hrow j hj
    rw [hz, show base + k + 1 + j = base + (k + 1 + j) by omega] at this
    exact this
  have e9 : jb_sg base ρ k = T.heap.size := by rw [hT, hz]; exact if_pos (by omega)
  obtain ⟨t, t1, t2⟩ := kk p l e R s m args below meth c base ρ tc D mc ms Qf F.heap locs (cells + 1 + N) (slots + N + N * K) la X Z (by omega) (hR.grid hz hk9 hadd f1 hold hv1 hv2) ⟨by rw [f1]; have := hS.1; omega, fun x h1 h2 => (hold x (Nat.lt_of_lt_of_le h1 hS.1)).trans (hS.2.1 x h1 h2), hS.2.2⟩ hL F rfl X'
  refine ⟨t, step t ?_, t2⟩
  rw [← e9]
  exact t1
/-- clone of a row of ints -/
theorem jb_clone {idx k q N : Nat} {f : Nat → Int32} {a2 b2 : Nat} (hw1 : Cond.methodLink own idx ⟨"[I", "clone", "()Ljava/lang/Object;"⟩ ∈ jb_T) (hw2 : Cond.sameMethod "[I" "java/lang/Object" "clone" "()Ljava/lang/Object;" ∈ jb_T) (hw3 : Cond.native ⟨"java/lang/Object", "clone", "()Ljava/lang/Object;"⟩ ∈ jb_T) (hw4 : Cond.instanceMethod ⟨"java/lang/Object", "clone", "()Ljava/lang/Object;"⟩ ∈ jb_T) (hw5 : Cond.selects "[I" ⟨"[I", "clone", "()Ljava/lang/Object;"⟩ ⟨"java/lang/Object", "clone", "()Ljava/lang/Object;"⟩ ∈ jb_T) (hw6 : Cond.castable "[I" "java/lang/Cloneable" ∈ jb_T)
    (hd : decode cc pc = .ok (.invokevirtual idx, 3)) (hl : jb_look h q = some (.inl (0, N, .inl f))) (hnx : jb_nx h k) (hadd : ∀ j, jb_look h' j = if j = k then some (.inl (0, N, .inl f)) else jb_look h j) (ha : a2 + 1 ≤ a) (hb : b2 + N ≤ b) (hd1 : 1 ≤ d) (hst : (st.map Value.category).sum ≤ 8) (hp : pc + 3 = pc') (kk : jb_J sc own cc nL rt ini d a2 b2 pc' ls (.ref k :: st) h' Q) : jb_J sc own cc nL rt ini d a b pc ls (.ref q :: st) h Q := by
  subst hp
  intro p l e R s m args below meth c base ρ tc D mc ms Qf H locs cells slots la X Z hrm hR hS hL
  have hz := hnx.size hR
  have hG := X.2.2.2.2.1
  have hts : ∀ w ∈ jb_T, w.before args s = true := fun w hw => hG.2.1.use hw
  show W p l e R s m args below meth c H locs cells slots Qf (F0 m pc la (.ref (jb_sg base ρ q) :: st.map (jb_cv (jb_sg base ρ))))
  rw [hR.sg hl]
  obtain ⟨c0, t0', f1, f2, f3⟩ := Cond.castable_spec (va_Nw.use (A := args) rfl (hG.2.1 _ hw6))
  have hnm : s.vm.findClass "[I" = some (tc 0) := (hG.1.2 0 _ rfl).2
  have hc9 : c0 = tc 0 := Option.some.inj (f1.symm.trans hnm)
  subst hc9
  have hsz : (vp_cell (tc 0) (N, .inl f)).slots.size = N := arrV_size _ _ _
  have hw9 := jb_words (m := m) (pc := pc) (la := la) (st0 := []) (σ := jb_sg base ρ) hst
  intro T hT X0
  have hcellT : T.heap[base + q]? = some (vp_cell (tc 0) (N, .inl f)) := by rw [hT]; exact (hR.at hl) 0 _ rfl
  obtain ⟨-, kA, hkA, comp, hkind⟩ := State.isArrayOf_alike X0.warmed.alike ((hG.1.2 0 _ rfl).1 0 (fun _ => .null))
  obtain ⟨-, kS, hkS, compS, hkindS⟩ := (hG.1.2 0 _ rfl).1 0 (fun _ => .null)
  obtain ⟨vm', X', stp⟩ := X0.cloneArray X.1 X.2.2.2.1 (hts _ hw1) (hts _ hw2) (hts _ hw3) (hts _ hw4) (hts _ hw5) (a := base + q) (cell := vp_cell (tc 0) (N, .inl f)) hcellT (fun k h => by cases h) (fun h => by cases h) hnm f2 f3
    (fun i v hv => by
      have hk' : T.vm.classes[tc 0]? = some kA := hkA
      have hf : fits .int v = true := by
        have hi : i < N := by rw [← hsz]; exact (Array.getElem?_eq_some_iff.mp hv).1
        have hv' : (arrV (tc 0) N (fun j => .int (f j))).slots[i]? = some v := hv
        rw [arrV_read _ _ hi] at hv'
        cases hv'
        rfl
      show T.fitsSlot (tc 0) .none i v = true
      simpa [State.fitsSlot, State.slotType?, hk', hkind] using hf)
    (g := F0 m pc la (.ref (base + q) :: st.map (jb_cv (jb_sg base ρ)))) rfl (hL.1.trans X.2.2.1.symm) rfl (by rw [X.2.1]; exact hd) (by omega) (by
      have h9 : 2 * 0 + ((st.map (jb_cv (jb_sg base ρ))).map fun v => v.category).sum ≤ 8 := hw9
      show 2 * 0 + _ + 14 ≤ _
      omega) (by omega) (by rw [hsz]; omega) (hloader := Vm.clonesLoader_of_array hkS hkindS)
  rw [hsz] at X'
  have hcE : ({ cls := (vp_cell (tc 0) (N, .inl f)).cls, slots := (vp_cell (tc 0) (N, .inl f)).slots } : Cell) = vp_cell (tc 0) (N, .inl f) := rfl
  rw [hcE] at X' stp
  generalize hH1 : H.push (vp_cell (tc 0) (N, .inl f)) = H1
  have z1 : H1.size = H.size + 1 := by rw [← hH1, Array.size_push]
  have e1 : H1[H.size]? = some (vp_cell (tc 0) (N, .inl f)) := by rw [← hH1, Array.getElem?_push_size]
  have o1 : ∀ q : Nat, q < H.size → H1[q]? = H[q]? := fun q hq => by rw [← hH1, Array.getElem?_push, if_neg (Nat.ne_of_lt hq)]
  have e9 : jb_sg base ρ k = T.heap.size := by rw [hT, hz]; exact if_pos (Nat.lt_of_lt_of_le hnx.2.2 (by decide))
  obtain ⟨t, t1, t2⟩ := kk p l e R s m args below meth c base ρ tc D mc ms Qf H1 locs (cells + 1) (slots + N) la X Z (by omega) (hR.add hz hnx.2.2 hadd z1 o1 (by rw [← hz]; exact e1)) ⟨Nat.le_trans hS.1 (by omega), fun x h1 h2 => (o1 x (Nat.lt_of_lt_of_le h1 hS.1)).trans (hS.2.1 x h1 h2), hS.2.2⟩ hL ((T.setVm vm').pushCell (vp_cell (tc 0) (N, .inl f))) (by rw [← hH1, ← hT]; rfl) X'
  refine ⟨t, stp t ?_, t2⟩
  rw [← e9]
  exact t1
theorem jb_castA {idx q N : Nat} {f : Nat → Int32} (hw : Cond.classLink own idx "[I" ∈ jb_T) (hd : decode cc pc = .ok (.checkcast idx, 3)) (hl : jb_look h q = some (.inl (0, N, .inl f))) (hp : pc + 3 = pc') (kk : jb_J sc own cc nL rt ini d a b pc' ls (.ref q :: st) h Q) : jb_J sc own cc nL rt ini d a b pc ls (.ref q :: st) h Q := by
  subst hp
  refine jb_step (fun p l e R s m args below meth c base ρ tc D Qf H locs cells slots la X hrm hR hS hL k9 => ?_) kk
  have k8 := k9 _ hL
  have k7 : W p l e R s m args below meth c H locs cells slots Qf (F0 m (pc + 3) la (.ref (jb_sg base ρ q) :: st.map (jb_cv (jb_sg base ρ)))) := k8
  show W p l e R s m args below meth c H locs cells slots Qf (F0 m pc la (.ref (jb_sg base ρ q) :: st.map (jb_cv (jb_sg base ρ))))
  rw [hR.sg hl] at k7 ⊢
  exact va_castA X.1 X.2.1 X.2.2.2.1 (X.2.2.2.2.1.2.1.use hw) (hR.at hl) 0 rfl (X.2.2.2.2.1.1.2 0 _ rfl).2 hd k7
end JP
