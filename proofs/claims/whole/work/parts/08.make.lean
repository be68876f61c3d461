theorem jb_nfw : nativeFrameWords "java/lang/System" "arraycopy" 5 ≤ 21 := by decide +kernel
section JM
variable {sc : Nat × (Nat → Int32)} {own : String} {cc : ByteArray} {nL : Nat} {rt : Option FieldType} {ini : Bool} {d a b pc pc' : Nat} {ls : List (Option Value)} {st : List Value} {h h' : jb_H} {Q : Option Value → jb_H → Prop}
theorem jb_objInit {idx q : Nat} {e0 : va_E} (hw : Cond.methodLink own idx objectInit ∈ jb_T) (hw2 : Cond.instanceMethod objectInit ∈ jb_T) (hw3 : Cond.code objectInit ⟨#[0xb1]⟩ 1 none ∈ jb_T) (hd : decode cc pc = .ok (.invokespecial idx, 3)) (hl : jb_look h q = some e0) (hd1 : 1 ≤ d) (hst : (st.map Value.category).sum ≤ 8) (hp : pc + 3 = pc') (kk : jb_J sc own cc nL rt ini d a b pc' ls st h Q) : jb_J sc own cc nL rt ini d a b pc ls (.ref q :: st) h Q := by
  subst hp
  refine jb_step (fun p l e R s m args below meth c base ρ tc D Qf H locs cells slots la X hrm hR hS hL k9 => ?_) kk
  show W p l e R s m args below meth c H locs cells slots Qf (F0 m pc la (.ref (jb_sg base ρ q) :: st.map (jb_cv (jb_sg base ρ))))
  have hw9 := jb_words (m := m) (pc := pc) (la := la) (st0 := []) (σ := jb_sg base ρ) hst
  have hN := X.2.2.2.2.1.2.1
  exact W.objInit X.1 X.2.1 X.2.2.2.1 (hN.use hw) (hN.use hw2) (hN.use hw3) rfl (hL.1.trans X.2.2.1.symm) rfl hd (by omega) (by have h9 : 2 * (F0 m pc la (.ref (jb_sg base ρ q) :: st.map (jb_cv (jb_sg base ρ)))).monitorRoom + ((st.map (jb_cv (jb_sg base ρ))).map fun v => v.category).sum ≤ 8 := hw9; omega) (k9 _ hL)
theorem jb_new {idx ci k : Nat} {C : String} {T : u_T} {N : Nat} {ty : Nat → FieldType} {fs : List Value} {a2 b2 : Nat} (hc : vwCl[ci]? = some (C, T, N)) (hin : ∀ w ∈ u_ws C T N, w ∈ jb_T) (hty : ∀ k, k < N → parseFieldDescriptor (T k).2.2.1 = some (ty k)) (hw1 : Cond.classLink own idx C ∈ jb_T) (hw2 : Cond.instantiable C N ∈ jb_T) (hw3 : Cond.initialized C ∈ jb_T) (hfs : ∀ (σ : Nat → Nat) (j : Nat), j < N → defaultValue (ty j) = vp_V (fs.map (jb_cv σ)) j) (hd : decode cc pc = .ok (.new idx, 3)) (hnx : jb_nx h k) (hadd : ∀ j, jb_look h' j = if j = k then some (.inr (ci, fs)) else jb_look h j) (ha : a2 + 1 ≤ a) (hb : b2 + N ≤ b) (hp : pc + 3 = pc') (kk : jb_J sc own cc nL rt ini d a2 b2 pc' ls (.ref k :: st) h' Q) : jb_J sc own cc nL rt ini d a b pc ls st h Q := by
  subst hp
  intro p l e R s m args below meth c base ρ tc D mc ms Qf H locs cells slots la X Z hrm hR hS hL
  have hz := hnx.size hR
  have hG := X.2.2.2.2.1
  have hts : ∀ w ∈ jb_T, w.before args s = true := fun w hw => hG.2.1.use hw
  have hKn := hG.1.1 ci _ hc
  refine W.newcK X.1 X.2.1 X.2.2.2.1 (hts _ hw1) (hts _ hw2) (hts _ hw3) rfl hd (by omega) (by omega) hKn.2.1 rfl fun H1 kC hkC e1 z1 o1 => ?_
  have hv : va_at D vwCl (base + k, jb_ce (jb_sg base ρ) tc (.inr (ci, fs))) H1 := by
    rw [← hz]
    exact ⟨_, hc, (u_born ty hts hin hKn hkC e1 hty).to (hfs (jb_sg base ρ))⟩
  have := kk p l e R s m args below meth c base ρ tc D mc ms Qf H1 locs (cells + 1) (slots + N) la X Z (by omega) (hR.add hz hnx.2.2 hadd z1 o1 hv) ⟨Nat.le_trans hS.1 (by omega), fun x h1 h2 => (o1 x (Nat.lt_of_lt_of_le h1 hS.1)).trans (hS.2.1 x h1 h2), hS.2.2⟩ hL
  have e9 : jb_sg base ρ k = H.size := by rw [hz]; exact if_pos (Nat.lt_of_lt_of_le hnx.2.2 (by decide))
  show W p l e R s m args below meth c H1 locs (cells + 1) (slots + N) Qf (F0 m (pc + 3) la (.ref H.size :: st.map (jb_cv (jb_sg base ρ))))
  rw [← e9]
  exact this
theorem jb_newarr {k N : Nat} {n : Int32} {a2 b2 : Nat} (hd : decode cc pc = .ok (.newarray .int, 2)) (hn : jb_ix n N) (hN : N ≤ 1000000) (hnx : jb_nx h k) (hadd : ∀ j, jb_look h' j = if j = k then some (.inl (0, N, .inl (fun _ => 0))) else jb_look h j) (ha : a2 + 1 ≤ a) (hb : b2 + N ≤ b) (hp : pc + 2 = pc') (kk : jb_J sc own cc nL rt ini d a2 b2 pc' ls (.ref k :: st) h' Q) : jb_J sc own cc nL rt ini d a b pc ls (.int n :: st) h Q := by
  subst hp
  intro p l e R s m args below meth c base ρ tc D mc ms Qf H locs cells slots la X Z hrm hR hS hL
  have hz := hnx.size hR
  have hG := X.2.2.2.2.1
  refine va_newaK (atype := .int) X.1 X.2.1 (word_at (a' := args) (U := s) (State.WarmedH.refl s) (Or.inr ⟨_, rfl⟩) hG.2.2.2.1) rfl hd rfl hn.1 hn.2 (by show N * 4 ≤ 536870912; omega) (by omega) (by omega) rfl fun H1 cA e1 z1 o1 hAr hNm => ?_
  have hcA : cA = tc 0 := Option.some.inj (hNm.symm.trans (hG.1.2 0 _ rfl).2)
  subst hcA
  have hv : va_at D vwCl (base + k, jb_ce (jb_sg base ρ) tc (.inl (0, N, .inl (fun _ => 0)))) H1 := by
    rw [← hz]
    exact e1
  have := kk p l e R s m args below meth c base ρ tc D mc ms Qf H1 locs (cells + 1) (slots + N) la X Z (by omega) (hR.add hz hnx.2.2 hadd z1 o1 hv) ⟨Nat.le_trans hS.1 (by omega), fun x h1 h2 => (o1 x (Nat.lt_of_lt_of_le h1 hS.1)).trans (hS.2.1 x h1 h2), hS.2.2⟩ hL
  have e9 : jb_sg base ρ k = H.size := by rw [hz]; exact if_pos (Nat.lt_of_lt_of_le hnx.2.2 (by decide))
  show W p l e R s m args below meth c H1 locs (cells + 1) (slots + N) Qf (F0 m (pc + 2) la (.ref H.size :: st.map (jb_cv (jb_sg base ρ))))
  rw [← e9]
  exact this
theorem jb_anew {idx kd k N : Nat} {n : Int32} {E : String} {a2 b2 : Nat} (hkd : (kd = 3 ∧ E = "DeafBell$Pupil") ∨ (kd = 4 ∧ E = "DeafBell$Sheet")) (hw : Cond.classLink own idx E ∈ jb_T) (hd : decode cc pc = .ok (.anewarray idx, 3)) (hn : jb_ix n N) (hN : N ≤ 1000000) (hnx : jb_nx h k) (hadd : ∀ j, jb_look h' j = if j = k then some (.inl (kd, N, .inr (.inr (.inr (.inr (fun _ => none)))))) else jb_look h j) (ha : a2 + 1 ≤ a) (hb : b2 + N ≤ b) (hp : pc + 3 = pc') (kk : jb_J sc own cc nL rt ini d a2 b2 pc' ls (.ref k :: st) h' Q) : jb_J sc own cc nL rt ini d a b pc ls (.int n :: st) h Q := by
  subst hp
  intro p l e R s m args below meth c base ρ tc D mc ms Qf H locs cells slots la X Z hrm hR hS hL
  have hz := hnx.size hR
  have hG := X.2.2.2.2.1
  have hts : ∀ w ∈ jb_T, w.before args s = true := fun w hw => hG.2.1.use hw
  have hao : va_AO E s := by
    rcases hkd with ⟨rfl, rfl⟩ | ⟨rfl, rfl⟩
    · exact hG.2.2.2.2.1
    · exact hG.2.2.2.2.2.1
  have hra : va_RA s (tc kd) (.object E) := by
    rcases hkd with ⟨rfl, rfl⟩ | ⟨rfl, rfl⟩
    · exact (hG.1.2 3 _ rfl).2
    · exact (hG.1.2 4 _ rfl).2
  refine W.anew X.1 X.2.1 X.2.2.2.1 (hts _ hw) (va_AO.use hao) rfl hd rfl hn.1 (by rw [hn.2]; omega) (by omega) (by rw [hn.2]; omega) fun cA kA comp f1 f2 f3 f4 => ?_
  obtain ⟨kA2, comp2, g1, g2, g3, g4⟩ := hra
  have hcA : cA = tc kd := Option.some.inj (f1.symm.trans g4)
  subst hcA
  rw [hn.2]
  generalize hH1 : H.push ({ cls := tc kd, slots := Array.replicate N .null, vm := .none } : Cell) = H1
  have z1 : H1.size = H.size + 1 := by rw [← hH1, Array.size_push]
  have e1 : H1[H.size]? = some (arrV (tc kd) N (fun _ => .null)) := by rw [← hH1, Array.getElem?_push_size, ← arrV_new]
  have o1 : ∀ q : Nat, q < H.size → H1[q]? = H[q]? := fun q hq => by rw [← hH1, Array.getElem?_push, if_neg (Nat.ne_of_lt hq)]
  have hv : va_at D vwCl (base + k, jb_ce (jb_sg base ρ) tc (.inl (kd, N, .inr (.inr (.inr (.inr (fun _ => none))))))) H1 := by
    rw [← hz]
    exact e1
  have := kk p l e R s m args below meth c base ρ tc D mc ms Qf H1 locs (cells + 1) (slots + N) la X Z (by omega) (hR.add hz hnx.2.2 hadd z1 o1 hv) ⟨Nat.le_trans hS.1 (by omega), fun x h1 h2 => (o1 x (Nat.lt_of_lt_of_le h1 hS.1)).trans (hS.2.1 x h1 h2), hS.2.2⟩ hL
  have e9 : jb_sg base ρ k = H.size := by rw [hz]; exact if_pos (Nat.lt_of_lt_of_le hnx.2.2 (by decide))
  show W p l e R s m args below meth c H1 locs (cells + 1) (slots + N) Qf (F0 m (pc + 3) la (.ref H.size :: st.map (jb_cv (jb_sg base ρ))))
  rw [← e9]
  exact this
/-- what is read alone -/
theorem jb_kabove {idx : Nat} (hw : Cond.fieldLink own idx "DeafBell" "KIND_ABOVE" "[I" ∈ jb_T) (hd : decode cc pc = .ok (.getstatic idx, 3)) (hp : pc + 3 = pc') (kk : jb_J sc own cc nL rt ini d a b pc' ls (.ref 1000001 :: st) h Q) : jb_J sc own cc nL rt ini d a b pc ls st h Q := by
  subst hp
  refine jb_step (fun p l e R s m args below meth c base ρ tc D Qf H locs cells slots la X hrm hR hS hL k9 => ?_) kk
  exact va_gets X.1 X.2.1 X.2.2.2.2.1.2.2.1.2.2.2.1 hS X.2.2.2.1 (X.2.2.2.2.1.2.1.use hw) (fun _ h9 => h9) hd (k9 _ hL)
theorem jb_kload {i : Int32} {i9 : Nat} (hd : decode cc pc = .ok (.iaload, 1)) (hi : jb_ix i i9) (hn : i9 < 7) (hp : pc + 1 = pc') (kk : jb_J sc own cc nL rt ini d a b pc' ls (jb_kab i9 :: st) h Q) : jb_J sc own cc nL rt ini d a b pc ls (.int i :: .ref 1000001 :: st) h Q := by
  subst hp
  refine jb_step (fun p l e R s m args below meth c base ρ tc D Qf H locs cells slots la X hrm hR hS hL k9 => ?_) kk
  show W p l e R s m args below meth c H locs cells slots Qf (F0 m pc la (.int i :: .ref (ρ 1) :: st.map (jb_cv (jb_sg base ρ))))
  obtain ⟨cell, h1, h2, h3, h4, h5, h6, h7⟩ := (X.2.2.2.2.1.2.2.1.2.2.2.2.1).kept (H1 := H) (fun x g1 g2 => hS.2.1 x g1 g2)
  exact W.iald (v := jb_kab i9) X.1 X.2.1 h1 h2 h3 (fun q => q.elim hi.1 (fun q => by rw [hi.2] at q; omega)) (by rw [hi.2]; exact h6 _ hn) rfl rfl hd (k9 _ hL)
theorem jb_sload {i : Int32} {i9 : Nat} (hd : decode cc pc = .ok (.iaload, 1)) (hi : jb_ix i i9) (hn : i9 < sc.1) (hp : pc + 1 = pc') (kk : jb_J sc own cc nL rt ini d a b pc' ls (.int (sc.2 i9) :: st) h Q) : jb_J sc own cc nL rt ini d a b pc ls (.int i :: .ref 1000000 :: st) h Q := by
  subst hp
  refine jb_step (fun p l e R s m args below meth c base ρ tc D Qf H locs cells slots la X hrm hR hS hL k9 => ?_) kk
  obtain ⟨g0, g1, g2, -⟩ := X.2.2.2.2.1.2.2.1
  refine va_sld X.1 X.2.1 g2 (Nat.lt_of_lt_of_le g1 g0) (Nat.not_le.mpr g1) hS (hi.in hn) hd ?_
  rw [hi.2]
  exact k9 _ hL
theorem jb_slen (hd : decode cc pc = .ok (.arraylength, 1)) (hp : pc + 1 = pc') (kk : jb_J sc own cc nL rt ini d a b pc' ls (.int (nI sc.1) :: st) h Q) : jb_J sc own cc nL rt ini d a b pc ls (.ref 1000000 :: st) h Q := by
  subst hp
  refine jb_step (fun p l e R s m args below meth c base ρ tc D Qf H locs cells slots la X hrm hR hS hL k9 => ?_) kk
  obtain ⟨g0, g1, g2, -⟩ := X.2.2.2.2.1.2.2.1
  exact va_slen X.1 X.2.1 g2 (Nat.lt_of_lt_of_le g1 g0) (Nat.not_le.mpr g1) hS hd (k9 _ hL)
/-! texts that are constants -/
theorem jb_ldcS {idx k : Nat} (hk : (own = "DeafBell$Reader" ∧ idx = 35 ∧ k = 1000002) ∨ (own = "DeafBell" ∧ idx = 136 ∧ k = 1000002) ∨ (own = "DeafBell" ∧ idx = 138 ∧ k = 1000003)) (hd : decode cc pc = .ok (.ldc idx, 2)) (hp : pc + 2 = pc') (kk : jb_J sc own cc nL rt ini d a b pc' ls (.ref k :: st) h Q) : jb_J sc own cc nL rt ini d a b pc ls st h Q := by
  subst hp
  refine jb_step (fun p l e R s m args below meth c base ρ tc D Qf H locs cells slots la X hrm hR hS hL k9 => ?_) kk
  obtain ⟨-, -, -, -, -, g1, g2, g3, -⟩ := X.2.2.2.2.1.2.2.1
  rcases hk with ⟨rfl, rfl, rfl⟩ | ⟨rfl, rfl, rfl⟩ | ⟨rfl, rfl, rfl⟩
  · exact va_ldcS X.1 X.2.1 X.2.2.2.1 g1 hd (k9 _ hL)
  · exact va_ldcS X.1 X.2.1 X.2.2.2.1 g2 hd (k9 _ hL)
  · exact va_ldcS X.1 X.2.1 X.2.2.2.1 g3 hd (k9 _ hL)
theorem jb_compact {idx : Nat} (hw : Cond.fieldLink own idx "java/lang/String" "COMPACT_STRINGS" "Z" ∈ jb_T) (hd : decode cc pc = .ok (.getstatic idx, 3)) (hp : pc + 3 = pc') (kk : jb_J sc own cc nL rt ini d a b pc' ls (.int 1 :: st) h Q) : jb_J sc own cc nL rt ini d a b pc ls st h Q := by
  subst hp
  refine jb_step (fun p l e R s m args below meth c base ρ tc D Qf H locs cells slots la X hrm hR hS hL k9 => ?_) kk
  obtain ⟨-, -, -, -, -, -, -, -, -, g⟩ := X.2.2.2.2.1.2.2.1
  exact va_gets X.1 X.2.1 g hS X.2.2.2.1 (X.2.2.2.2.1.2.1.use hw) (fun _ h9 => h9) hd (k9 _ hL)
theorem jb_sg_ro (base : Nat) (ρ : Nat → Nat) (k : Nat) : jb_sg base ρ (1000000 + k) = ρ k := by
  unfold jb_sg
  rw [if_neg (by omega), Nat.add_sub_cancel_left]
theorem jb_coder {idx i9 : Nat} (hi : i9 < 2) (hw : Cond.fieldLink own idx "java/lang/String" "coder" "B" ∈ jb_T) (hd : decode cc pc = .ok (.getfield idx, 3)) (hp : pc + 3 = pc') (kk : jb_J sc own cc nL rt ini d a b pc' ls (.int 0 :: st) h Q) : jb_J sc own cc nL rt ini d a b pc ls (.ref (1000000 + (2 + i9)) :: st) h Q := by
  subst hp
  refine jb_step (fun p l e R s m args below meth c base ρ tc D Qf H locs cells slots la X hrm hR hS hL k9 => ?_) kk
  obtain ⟨-, -, -, -, -, -, -, -, g, -⟩ := X.2.2.2.2.1.2.2.1
  show W p l e R s m args below meth c H locs cells slots Qf (F0 m pc la (.ref (jb_sg base ρ (1000000 + (2 + i9))) :: st.map (jb_cv (jb_sg base ρ))))
  rw [jb_sg_ro]
  exact vk_getf X.1 X.2.1 (g.1 i9 hi).2.1 hS X.2.2.2.1 (X.2.2.2.2.1.2.1.use hw) (fun _ h9 => h9) hd (k9 _ hL)
theorem jb_value {idx i9 : Nat} (hi : i9 < 2) (hw : Cond.fieldLink own idx "java/lang/String" "value" "[B" ∈ jb_T) (hd : decode cc pc = .ok (.getfield idx, 3)) (hp : pc + 3 = pc') (kk : jb_J sc own cc nL rt ini d a b pc' ls (.ref (1000000 + (4 + i9)) :: st) h Q) : jb_J sc own cc nL rt ini d a b pc ls (.ref (1000000 + (2 + i9)) :: st) h Q := by
  subst hp
  refine jb_step (fun p l e R s m args below meth c base ρ tc D Qf H locs cells slots la X hrm hR hS hL k9 => ?_) kk
  obtain ⟨-, -, -, -, -, -, -, -, g, -⟩ := X.2.2.2.2.1.2.2.1
  have k8 := k9 _ hL
  show W p l e R s m args below meth c H locs cells slots Qf (F0 m pc la (.ref (jb_sg base ρ (1000000 + (2 + i9))) :: st.map (jb_cv (jb_sg base ρ))))
  have k7 : W p l e R s m args below meth c H locs cells slots Qf (F0 m (pc + 3) la (.ref (jb_sg base ρ (1000000 + (4 + i9))) :: st.map (jb_cv (jb_sg base ρ)))) := k8
  rw [jb_sg_ro] at k7 ⊢
  exact vk_getf X.1 X.2.1 (g.1 i9 hi).2.2.1 hS X.2.2.2.1 (X.2.2.2.2.1.2.1.use hw) (fun _ h9 => h9) hd k7
def jb_sl (i : Nat) : Nat := ([4, 3] : List Nat).getD i 0
def jb_sb (i j : Nat) : Int32 := (([[119, 102, 105, 107], [119, 109, 99]] : List (List Int32)).getD i []).getD j 0
theorem jb_blen {i9 : Nat} (hi : i9 < 2) (hd : decode cc pc = .ok (.arraylength, 1)) (hp : pc + 1 = pc') (kk : jb_J sc own cc nL rt ini d a b pc' ls (.int (nI (jb_sl i9)) :: st) h Q) : jb_J sc own cc nL rt ini d a b pc ls (.ref (1000000 + (4 + i9)) :: st) h Q := by
  subst hp
  refine jb_step (fun p l e R s m args below meth c base ρ tc D Qf H locs cells slots la X hrm hR hS hL k9 => ?_) kk
  obtain ⟨-, -, -, -, -, -, -, -, g, -⟩ := X.2.2.2.2.1.2.2.1
  show W p l e R s m args below meth c H locs cells slots Qf (F0 m pc la (.ref (jb_sg base ρ (1000000 + (4 + i9))) :: st.map (jb_cv (jb_sg base ρ))))
  rw [jb_sg_ro]
  obtain ⟨cell, h1, h2, h3, h4, h5, h6, h7⟩ := ((g.1 i9 hi).2.2.2).kept (H1 := H) (fun x g1 g2 => hS.2.1 x g1 g2)
  exact W.alen (n := nI (jb_sl i9)) X.1 X.2.1 h1 h2 h5 rfl rfl hd (k9 _ hL)
theorem jb_bload {i9 j9 : Nat} {j : Int32} (hi : i9 < 2) (hd : decode cc pc = .ok (.baload, 1)) (hj : jb_ix j j9) (hn : j9 < jb_sl i9) (hp : pc + 1 = pc') (kk : jb_J sc own cc nL rt ini d a b pc' ls (.int (jb_sb i9 j9) :: st) h Q) : jb_J sc own cc nL rt ini d a b pc ls (.int j :: .ref (1000000 + (4 + i9)) :: st) h Q := by
  subst hp
  refine jb_step (fun p l e R s m args below meth c base ρ tc D Qf H locs cells slots la X hrm hR hS hL k9 => ?_) kk
  obtain ⟨-, -, -, -, -, -, -, -, g, -⟩ := X.2.2.2.2.1.2.2.1
  show W p l e R s m args below meth c H locs cells slots Qf (F0 m pc la (.int j :: .ref (jb_sg base ρ (1000000 + (4 + i9))) :: st.map (jb_cv (jb_sg base ρ))))
  rw [jb_sg_ro]
  obtain ⟨cell, h1, h2, h3, h4, h5, h6, h7⟩ := ((g.1 i9 hi).2.2.2).kept (H1 := H) (fun x g1 g2 => hS.2.1 x g1 g2)
  have h4' : jb_sl i9 ≤ cell.slots.size := h4
  exact W.bald (v := .int (jb_sb i9 j9)) X.1 X.2.1 h1 h2 h3 (fun q => q.elim hj.1 (fun q => by rw [hj.2] at q; omega)) (by rw [hj.2]; exact h6 _ hn) rfl rfl hd (k9 _ hL)
/-- a method of a text -/
theorem jb_callR {idx i9 n : Nat} {y : MethodName} {bytes : ByteArray} {maxL : Nat} {ret : Option FieldType} {d1 a1 b1 a2 b2 : Nat} {As : List Value} {Q1 : Option Value → jb_H → Prop} (hi : i9 < 2) (hw : jb_wV own idx "java/lang/String" y bytes maxL ret n) (hd : decode cc pc = .ok (.invokevirtual idx, 3)) (hc : jb_C sc y bytes maxL ret d1 a1 b1 (.ref (1000000 + (2 + i9)) :: As) h Q1) (hn : As.length = n) (hrm : d1 + 1 ≤ d ∧ a1 + a2 ≤ a ∧ b1 + b2 ≤ b) (hst : (st.map Value.category).sum ≤ 8) (hp : pc + 3 = pc')
    (kk : ∀ r h', Q1 r h' → jb_J sc own cc nL rt ini d a2 b2 pc' ls (r.toList ++ st) h' Q) : jb_J sc own cc nL rt ini d a b pc ls (As.reverse ++ .ref (1000000 + (2 + i9)) :: st) h Q := by
  subst hp
  intro p l e R s m args below meth c base ρ tc D mc ms Qf H locs cells slots la X Z hrm2 hR hS hL
  have hG := X.2.2.2.2.1
  have hts : ∀ w ∈ jb_T, w.before args s = true := fun w hw => hG.2.1.use hw
  obtain ⟨w1, w2, w3, w4, w5, w6, w7, w8, w9⟩ := hw
  obtain ⟨-, -, -, -, -, -, -, -, g, -⟩ := hG.2.2.1
  have hrec := vk_recv g hi hS
  have eS : (As.reverse ++ .ref (1000000 + (2 + i9)) :: st).map (jb_cv (jb_sg base ρ)) = (As.map (jb_cv (jb_sg base ρ))).reverse ++ .ref (ρ (2 + i9)) :: st.map (jb_cv (jb_sg base ρ)) := by
    rw [List.map_append, List.map_reverse, List.map_cons]
    show _ ++ Value.ref (jb_sg base ρ (1000000 + (2 + i9))) :: _ = _
    rw [jb_sg_ro]
  rw [eS]
  refine jb_after (va_runV (C := "java/lang/String") (As := As.map (jb_cv (jb_sg base ρ))) (rest := st.map (jb_cv (jb_sg base ρ))) (Ts := jb_T) (n := n) ⟨X.1, X.2.1, X.2.2.1, X.2.2.2.1, hts⟩ (hc l base ρ tc D) ⟨⟨rfl, rfl, by show d1 + 1 ≤ R.frames; omega, by show 8 + (maxL + 11) + 40 * d1 ≤ R.locals; omega, ?_, List.mem_singleton.mpr rfl, hts _ w1, hts _ w2, ⟨w6, w7⟩, jb_sig w8, hts _ w3⟩, hts _ w4, hts _ w5⟩ ⟨jb_blind, hrec, ?_⟩ rfl (by rw [List.length_map]; exact hn) hL.1 rfl (jb_words hst) hd ⟨by omega, by omega⟩) hS (fun r h' H1 locs1 hq hR1 hS1 => ?_)
  · intro w hw a' U hW
    rw [List.mem_singleton.mp hw]
    exact word_at hW (Or.inl rfl) (hts _ w1)
  · intro U hU hW
    have hz := jb_pre (av := .ref (1000000 + (2 + i9)) :: As) hG hR hS U hU hW
    have e2 : jb_cv (jb_sg base ρ) (.ref (1000000 + (2 + i9))) = .ref (ρ (2 + i9)) := by show Value.ref (jb_sg base ρ (1000000 + (2 + i9))) = _; rw [jb_sg_ro]
    exact ⟨by rw [List.map_cons, e2], hz.2⟩
  · have := kk r h' hq p l e R s m args below meth c base ρ tc D mc ms Qf H1 locs1 (cells + a1) (slots + b1) la X Z (by omega) hR1 hS1 hL
    rw [List.map_append] at this
    cases r <;> exact this
/-- System.arraycopy between two rows of ints -/
theorem jb_copy {idx q0 q1 n0 n1 sp dp n : Nat} {f g : Nat → Int32} {xs xd xn : Int32} (hw : Cond.methodLink own idx arraycopyName ∈ jb_T) (hw2 : Cond.native arraycopyName ∈ jb_T) (hw3 : Cond.static arraycopyName ∈ jb_T) (hw4 : Cond.initialized "java/lang/System" ∈ jb_T) (hd : decode cc pc = .ok (.invokestatic idx, 3)) (hl0 : jb_look h q0 = some (.inl (0, n0, .inl f))) (hl1 : jb_look h q1 = some (.inl (0, n1, .inl g))) (h1 : jb_ix xs sp) (h2 : jb_ix xd dp) (h3 : jb_ix xn n) (h4 : sp + n ≤ n0) (h5 : dp + n ≤ n1) (hd1 : 1 ≤ d) (hst : (st.map Value.category).sum ≤ 8) (hh : jb_put h q1 (.inl (0, n1, .inl (va_cpy f g sp dp n))) = h') (hp : pc + 3 = pc') (kk : jb_J sc own cc nL rt ini d a b pc' ls st h' Q) : jb_J sc own cc nL rt ini d a b pc ls (.int xn :: .int xd :: .ref q1 :: .int xs :: .ref q0 :: st) h Q := by
  subst hp
  refine jb_write hl1 hh (fun p l e R s m args below meth c base ρ tc D Qf H locs cells slots la X hrm hR hS hL k9 => ?_) kk
  show W p l e R s m args below meth c H locs cells slots Qf (F0 m pc la (.int xn :: .int xd :: .ref (jb_sg base ρ q1) :: .int xs :: .ref (jb_sg base ρ q0) :: st.map (jb_cv (jb_sg base ρ))))
  rw [hR.sg hl1, hR.sg hl0]
  have hG := X.2.2.2.2.1
  have hts : ∀ w ∈ jb_T, w.before args s = true := fun w hw => hG.2.1.use hw
  have nn : ∀ z : Int32, ¬ z < 0 → z.toInt = (z.toNatClampNeg : Int) := by
    intro z hz
    have hz0 : (0 : Int) ≤ z.toInt := by
      have := Int32.not_lt.mp hz
      simpa using Int32.le_iff_toInt_le.mp this
    show z.toInt = ((z.toInt.toNat : Nat) : Int)
    omega
  intro T hT X0
  have hc0 : H[base + q0]? = some (vp_cell (tc 0) (n0, .inl f)) := (hR.at hl0) 0 _ rfl
  have hc1 : H[base + q1]? = some (vp_cell (tc 0) (n1, .inl g)) := (hR.at hl1) 0 _ rfl
  obtain ⟨-, k0, hk0, cm0, hkk0⟩ := (hG.1.2 0 _ rfl).1 n0 (fun j => .int (f j))
  have hw9 := jb_words (m := m) (pc := pc) (la := la) (st0 := []) (σ := jb_sg base ρ) hst
  have hnf := jb_nfw
  obtain ⟨vm', X', step⟩ := X0.arraycopy X.1 X.2.2.2.1 (hts _ hw) (hts _ hw2) (hts _ hw3) (hts _ hw4) (src := base + q0) (dst := base + q1) (cs := vp_cell (tc 0) (n0, .inl f)) (cd := vp_cell (tc 0) (n1, .inl g)) (srcPos := xs) (destPos := xd) (n := xn) (by rw [hT]; exact hc0) (by rw [hT]; exact hc1)
    (fun _ h => by cases h) (fun _ h => by cases h) (fun h => by cases h) (fun h => by cases h) hk0 hk0 hkk0 hkk0 (by simp [refKind]) h1.1 h2.1 h3.1
    (by rw [nn xs h1.1, nn xn h3.1, h1.2, h3.2]; show ¬ _ > ((arrV (tc 0) n0 (fun j => .int (f j))).slots.size : Int); rw [arrV_size]; omega)
    (by rw [nn xd h2.1, nn xn h3.1, h2.2, h3.2]; show ¬ _ > ((arrV (tc 0) n1 (fun j => .int (g j))).slots.size : Int); rw [arrV_size]; omega)
    (fun vm₁ _ i hi => by
      rw [h3.2] at hi
      have e9 : (vp_cell (tc 0) (n0, .inl f)).slots.getD (xs.toNatClampNeg + i) .null = .int (f (xs.toNatClampNeg + i)) := by
        show (arrV (tc 0) n0 (fun j => .int (f j))).slots.getD _ _ = _
        rw [Array.getD_eq_getD_getElem?, arrV_read _ _ (by rw [h1.2]; omega)]
        rfl
      refine ⟨?_, ?_⟩
      · rw [e9]; rfl
      · rw [e9]; exact trivial)
    (g := F0 m pc la (.int xn :: .int xd :: .ref (base + q1) :: .int xs :: .ref (base + q0) :: st.map (jb_cv (jb_sg base ρ)))) rfl (hL.1.trans X.2.2.1.symm) (rest := st.map (jb_cv (jb_sg base ρ))) rfl (by rw [X.2.1]; exact hd) (by omega) (by
      have h9 : 2 * 0 + ((st.map (jb_cv (jb_sg base ρ))).map fun v => v.category).sum ≤ 8 := hw9
      show 2 * 0 + _ + _ ≤ _
      omega)
  have e1 : copied (vp_cell (tc 0) (n0, .inl f)) (vp_cell (tc 0) (n1, .inl g)) xs xd xn = vp_cell (tc 0) (n1, .inl (va_cpy f g xs.toNatClampNeg xd.toNatClampNeg xn.toNatClampNeg)) := va_copied (fun z => .int z) (tc 0) (tc 0) f g (by rw [h1.2, h3.2]; exact h4)
  rw [e1, h1.2, h2.2, h3.2] at X' step
  have hlt : base + q1 < H.size := (Array.getElem?_eq_some_iff.mp hc1).1
  have hheap : ((T.setVm vm').setCell (base + q1) (vp_cell (tc 0) (n1, .inl (va_cpy f g sp dp n)))).heap = H.setIfInBounds (base + q1) (vp_cell (tc 0) (n1, .inl (va_cpy f g sp dp n))) := by rw [← hT]; rfl
  obtain ⟨t, a1, b1⟩ := k9 _ _ (by simp) (fun q hq => by simp [Array.getElem?_setIfInBounds, Ne.symm hq]) (show (H.setIfInBounds (base + q1) (vp_cell (tc 0) (n1, .inl (va_cpy f g sp dp n))))[base + q1]? = some _ by simp [Array.getElem?_setIfInBounds, hlt]) (fun z hz => by
      rcases List.mem_append.mp hz with h | h
      · exact Or.inl h
      · obtain ⟨z9, -, hz9⟩ := List.mem_map.mp h
        rw [← hz9]; exact Or.inr rfl) _ hheap X'
  exact ⟨t, step t a1, b1⟩
end JM
