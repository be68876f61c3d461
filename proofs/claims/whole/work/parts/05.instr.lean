section JI
variable {sc : Nat × (Nat → Int32)} {own : String} {cc : ByteArray} {nL : Nat} {rt : Option FieldType} {ini : Bool} {d a b pc pc' : Nat} {ls : List (Option Value)} {st : List Value} {h : jb_H} {Q : Option Value → jb_H → Prop}
theorem jb_bipush {n : Int} (v : Int32) (hd : decode cc pc = .ok (.bipush n, 2)) (hv : (Int8.ofInt n).toInt32 = v) (hp : pc + 2 = pc') (kk : jb_J sc own cc nL rt ini d a b pc' ls (.int v :: st) h Q) : jb_J sc own cc nL rt ini d a b pc ls (st) h Q := by
  subst hp
  exact jb_step (fun p l e R s m args below meth c base ρ tc D Qf H locs cells slots la X hrm hR hS hL k => lv_bipush X.1 X.2.1 hd hv (k _ hL)) kk
theorem jb_sipush {n : Int} (v : Int32) (hd : decode cc pc = .ok (.sipush n, 3)) (hv : (Int16.ofInt n).toInt32 = v) (hp : pc + 3 = pc') (kk : jb_J sc own cc nL rt ini d a b pc' ls (.int v :: st) h Q) : jb_J sc own cc nL rt ini d a b pc ls (st) h Q := by
  subst hp
  exact jb_step (fun p l e R s m args below meth c base ρ tc D Qf H locs cells slots la X hrm hR hS hL k => lv_sipush X.1 X.2.1 hd hv (k _ hL)) kk
theorem jb_lconst {n : Fin 2} (v : Int64) (hd : decode cc pc = .ok (.lconst n, 1)) (hv : Int64.ofNat (n : Nat) = v) (hp : pc + 1 = pc') (kk : jb_J sc own cc nL rt ini d a b pc' ls (.long v :: st) h Q) : jb_J sc own cc nL rt ini d a b pc ls (st) h Q := by
  subst hp
  exact jb_step (fun p l e R s m args below meth c base ρ tc D Qf H locs cells slots la X hrm hR hS hL k => lv_lconst X.1 X.2.1 hd hv (k _ hL)) kk
theorem jb_isub {x y : Int32} (hd : decode cc pc = .ok (.isub, 1))  (hp : pc + 1 = pc') (kk : jb_J sc own cc nL rt ini d a b pc' ls (.int (x - y) :: st) h Q) : jb_J sc own cc nL rt ini d a b pc ls (.int y :: .int x :: st) h Q := by
  subst hp
  exact jb_step (fun p l e R s m args below meth c base ρ tc D Qf H locs cells slots la X hrm hR hS hL k => lv_isub X.1 X.2.1 hd  (k _ hL)) kk
theorem jb_imul {x y : Int32} (hd : decode cc pc = .ok (.imul, 1))  (hp : pc + 1 = pc') (kk : jb_J sc own cc nL rt ini d a b pc' ls (.int (x * y) :: st) h Q) : jb_J sc own cc nL rt ini d a b pc ls (.int y :: .int x :: st) h Q := by
  subst hp
  exact jb_step (fun p l e R s m args below meth c base ρ tc D Qf H locs cells slots la X hrm hR hS hL k => lv_imul X.1 X.2.1 hd  (k _ hL)) kk
theorem jb_iand {x y : Int32} (hd : decode cc pc = .ok (.iand, 1))  (hp : pc + 1 = pc') (kk : jb_J sc own cc nL rt ini d a b pc' ls (.int (x &&& y) :: st) h Q) : jb_J sc own cc nL rt ini d a b pc ls (.int y :: .int x :: st) h Q := by
  subst hp
  exact jb_step (fun p l e R s m args below meth c base ρ tc D Qf H locs cells slots la X hrm hR hS hL k => lv_iand X.1 X.2.1 hd  (k _ hL)) kk
theorem jb_ixor {x y : Int32} (hd : decode cc pc = .ok (.ixor, 1))  (hp : pc + 1 = pc') (kk : jb_J sc own cc nL rt ini d a b pc' ls (.int (x ^^^ y) :: st) h Q) : jb_J sc own cc nL rt ini d a b pc ls (.int y :: .int x :: st) h Q := by
  subst hp
  exact jb_step (fun p l e R s m args below meth c base ρ tc D Qf H locs cells slots la X hrm hR hS hL k => lv_ixor X.1 X.2.1 hd  (k _ hL)) kk
theorem jb_lsub {x y : Int64} (hd : decode cc pc = .ok (.lsub, 1))  (hp : pc + 1 = pc') (kk : jb_J sc own cc nL rt ini d a b pc' ls (.long (x - y) :: st) h Q) : jb_J sc own cc nL rt ini d a b pc ls (.long y :: .long x :: st) h Q := by
  subst hp
  exact jb_step (fun p l e R s m args below meth c base ρ tc D Qf H locs cells slots la X hrm hR hS hL k => lv_lsub X.1 X.2.1 hd  (k _ hL)) kk
theorem jb_lmul {x y : Int64} (hd : decode cc pc = .ok (.lmul, 1))  (hp : pc + 1 = pc') (kk : jb_J sc own cc nL rt ini d a b pc' ls (.long (x * y) :: st) h Q) : jb_J sc own cc nL rt ini d a b pc ls (.long y :: .long x :: st) h Q := by
  subst hp
  exact jb_step (fun p l e R s m args below meth c base ρ tc D Qf H locs cells slots la X hrm hR hS hL k => lv_lmul X.1 X.2.1 hd  (k _ hL)) kk
theorem jb_land {x y : Int64} (hd : decode cc pc = .ok (.land, 1))  (hp : pc + 1 = pc') (kk : jb_J sc own cc nL rt ini d a b pc' ls (.long (x &&& y) :: st) h Q) : jb_J sc own cc nL rt ini d a b pc ls (.long y :: .long x :: st) h Q := by
  subst hp
  exact jb_step (fun p l e R s m args below meth c base ρ tc D Qf H locs cells slots la X hrm hR hS hL k => lv_land X.1 X.2.1 hd  (k _ hL)) kk
theorem jb_lor {x y : Int64} (hd : decode cc pc = .ok (.lor, 1))  (hp : pc + 1 = pc') (kk : jb_J sc own cc nL rt ini d a b pc' ls (.long (x ||| y) :: st) h Q) : jb_J sc own cc nL rt ini d a b pc ls (.long y :: .long x :: st) h Q := by
  subst hp
  exact jb_step (fun p l e R s m args below meth c base ρ tc D Qf H locs cells slots la X hrm hR hS hL k => lv_lor X.1 X.2.1 hd  (k _ hL)) kk
theorem jb_ineg {x : Int32} (hd : decode cc pc = .ok (.ineg, 1))  (hp : pc + 1 = pc') (kk : jb_J sc own cc nL rt ini d a b pc' ls (.int (-x) :: st) h Q) : jb_J sc own cc nL rt ini d a b pc ls (.int x :: st) h Q := by
  subst hp
  exact jb_step (fun p l e R s m args below meth c base ρ tc D Qf H locs cells slots la X hrm hR hS hL k => lv_ineg X.1 X.2.1 hd  (k _ hL)) kk
theorem jb_lneg {x : Int64} (hd : decode cc pc = .ok (.lneg, 1))  (hp : pc + 1 = pc') (kk : jb_J sc own cc nL rt ini d a b pc' ls (.long (-x) :: st) h Q) : jb_J sc own cc nL rt ini d a b pc ls (.long x :: st) h Q := by
  subst hp
  exact jb_step (fun p l e R s m args below meth c base ρ tc D Qf H locs cells slots la X hrm hR hS hL k => lv_lneg X.1 X.2.1 hd  (k _ hL)) kk
theorem jb_idiv {x y : Int32} (hd : decode cc pc = .ok (.idiv, 1)) (hne : ¬ y = 0) (hp : pc + 1 = pc') (kk : jb_J sc own cc nL rt ini d a b pc' ls (.int (x / y) :: st) h Q) : jb_J sc own cc nL rt ini d a b pc ls (.int y :: .int x :: st) h Q := by
  subst hp
  exact jb_step (fun p l e R s m args below meth c base ρ tc D Qf H locs cells slots la X hrm hR hS hL k => lv_idiv X.1 X.2.1 hd hne (k _ hL)) kk
theorem jb_irem {x y : Int32} (hd : decode cc pc = .ok (.irem, 1)) (hne : ¬ y = 0) (hp : pc + 1 = pc') (kk : jb_J sc own cc nL rt ini d a b pc' ls (.int (x - x / y * y) :: st) h Q) : jb_J sc own cc nL rt ini d a b pc ls (.int y :: .int x :: st) h Q := by
  subst hp
  exact jb_step (fun p l e R s m args below meth c base ρ tc D Qf H locs cells slots la X hrm hR hS hL k => lv_irem X.1 X.2.1 hd hne (k _ hL)) kk
theorem jb_i2l {x : Int32} (hd : decode cc pc = .ok (.i2l, 1))  (hp : pc + 1 = pc') (kk : jb_J sc own cc nL rt ini d a b pc' ls (.long x.toInt64 :: st) h Q) : jb_J sc own cc nL rt ini d a b pc ls (.int x :: st) h Q := by
  subst hp
  exact jb_step (fun p l e R s m args below meth c base ρ tc D Qf H locs cells slots la X hrm hR hS hL k => lv_i2l X.1 X.2.1 hd rfl (k _ hL)) kk
theorem jb_l2i {x : Int64} (hd : decode cc pc = .ok (.l2i, 1))  (hp : pc + 1 = pc') (kk : jb_J sc own cc nL rt ini d a b pc' ls (.int x.toInt32 :: st) h Q) : jb_J sc own cc nL rt ini d a b pc ls (.long x :: st) h Q := by
  subst hp
  exact jb_step (fun p l e R s m args below meth c base ρ tc D Qf H locs cells slots la X hrm hR hS hL k => lv_l2i X.1 X.2.1 hd rfl (k _ hL)) kk
theorem jb_i2b {x : Int32} (hd : decode cc pc = .ok (.i2b, 1))  (hp : pc + 1 = pc') (kk : jb_J sc own cc nL rt ini d a b pc' ls (.int x.toInt8.toInt32 :: st) h Q) : jb_J sc own cc nL rt ini d a b pc ls (.int x :: st) h Q := by
  subst hp
  exact jb_step (fun p l e R s m args below meth c base ρ tc D Qf H locs cells slots la X hrm hR hS hL k => lv_i2b X.1 X.2.1 hd rfl (k _ hL)) kk
theorem jb_i2s {x : Int32} (hd : decode cc pc = .ok (.i2s, 1))  (hp : pc + 1 = pc') (kk : jb_J sc own cc nL rt ini d a b pc' ls (.int x.toInt16.toInt32 :: st) h Q) : jb_J sc own cc nL rt ini d a b pc ls (.int x :: st) h Q := by
  subst hp
  exact jb_step (fun p l e R s m args below meth c base ρ tc D Qf H locs cells slots la X hrm hR hS hL k => lv_i2s X.1 X.2.1 hd rfl (k _ hL)) kk
theorem jb_i2c {x : Int32} (hd : decode cc pc = .ok (.i2c, 1))  (hp : pc + 1 = pc') (kk : jb_J sc own cc nL rt ini d a b pc' ls (.int (x.toUInt32 % 65536).toInt32 :: st) h Q) : jb_J sc own cc nL rt ini d a b pc ls (.int x :: st) h Q := by
  subst hp
  exact jb_step (fun p l e R s m args below meth c base ρ tc D Qf H locs cells slots la X hrm hR hS hL k => lv_i2c X.1 X.2.1 hd rfl (k _ hL)) kk
theorem jb_iushr {x y : Int32} (hd : decode cc pc = .ok (.iushr, 1))  (hp : pc + 1 = pc') (kk : jb_J sc own cc nL rt ini d a b pc' ls (.int (x.toUInt32 >>> (y.toUInt32 &&& Int32.toUInt32 31)).toInt32 :: st) h Q) : jb_J sc own cc nL rt ini d a b pc ls (.int y :: .int x :: st) h Q := by
  subst hp
  exact jb_step (fun p l e R s m args below meth c base ρ tc D Qf H locs cells slots la X hrm hR hS hL k => lv_iushr X.1 X.2.1 hd rfl (k _ hL)) kk
theorem jb_lushr {x : Int64} {y : Int32} (hd : decode cc pc = .ok (.lushr, 1))  (hp : pc + 1 = pc') (kk : jb_J sc own cc nL rt ini d a b pc' ls (.long (x.toUInt64 >>> (y.toInt64.toUInt64 &&& Int64.toUInt64 63)).toInt64 :: st) h Q) : jb_J sc own cc nL rt ini d a b pc ls (.int y :: .long x :: st) h Q := by
  subst hp
  exact jb_step (fun p l e R s m args below meth c base ρ tc D Qf H locs cells slots la X hrm hR hS hL k => lv_lushr X.1 X.2.1 hd rfl (k _ hL)) kk
theorem jb_lshl {x : Int64} {y : Int32} (hd : decode cc pc = .ok (.lshl, 1))  (hp : pc + 1 = pc') (kk : jb_J sc own cc nL rt ini d a b pc' ls (.long (x <<< (y.toInt64 &&& 63)) :: st) h Q) : jb_J sc own cc nL rt ini d a b pc ls (.int y :: .long x :: st) h Q := by
  subst hp
  exact jb_step (fun p l e R s m args below meth c base ρ tc D Qf H locs cells slots la X hrm hR hS hL k => lv_lshl X.1 X.2.1 hd rfl (k _ hL)) kk
theorem jb_lshr {x : Int64} {y : Int32} (hd : decode cc pc = .ok (.lshr, 1))  (hp : pc + 1 = pc') (kk : jb_J sc own cc nL rt ini d a b pc' ls (.long (x >>> (y.toInt64 &&& 63)) :: st) h Q) : jb_J sc own cc nL rt ini d a b pc ls (.int y :: .long x :: st) h Q := by
  subst hp
  exact jb_step (fun p l e R s m args below meth c base ρ tc D Qf H locs cells slots la X hrm hR hS hL k => lv_lshr X.1 X.2.1 hd rfl (k _ hL)) kk
theorem jb_lcmp {x y : Int64} (hd : decode cc pc = .ok (.lcmp, 1))  (hp : pc + 1 = pc') (kk : jb_J sc own cc nL rt ini d a b pc' ls (.int (lg_cmp x y) :: st) h Q) : jb_J sc own cc nL rt ini d a b pc ls (.long y :: .long x :: st) h Q := by
  subst hp
  exact jb_step (fun p l e R s m args below meth c base ρ tc D Qf H locs cells slots la X hrm hR hS hL k => W.lcmp X.1 X.2.1 hd  (k _ hL)) kk
theorem jb_null  (hd : decode cc pc = .ok (.aconst_null, 1))  (hp : pc + 1 = pc') (kk : jb_J sc own cc nL rt ini d a b pc' ls (.null :: st) h Q) : jb_J sc own cc nL rt ini d a b pc ls (st) h Q := by
  subst hp
  exact jb_step (fun p l e R s m args below meth c base ρ tc D Qf H locs cells slots la X hrm hR hS hL k => lv_null X.1 X.2.1 hd  (k _ hL)) kk
theorem jb_dup {v : Value} (hd : decode cc pc = .ok (.dup, 1)) (hc : v.category = 1) (hp : pc + 1 = pc') (kk : jb_J sc own cc nL rt ini d a b pc' ls (v :: v :: st) h Q) : jb_J sc own cc nL rt ini d a b pc ls (v :: st) h Q := by
  subst hp
  exact jb_step (fun p l e R s m args below meth c base ρ tc D Qf H locs cells slots la X hrm hR hS hL k => lv_dup X.1 X.2.1 hd ((jb_cat _ v).trans hc) (k _ hL)) kk
theorem jb_dup2 {v w : Value} (hd : decode cc pc = .ok (.dup2, 1)) (hc : v.category = 1) (hc2 : w.category = 1) (hp : pc + 1 = pc') (kk : jb_J sc own cc nL rt ini d a b pc' ls (v :: w :: v :: w :: st) h Q) : jb_J sc own cc nL rt ini d a b pc ls (v :: w :: st) h Q := by
  subst hp
  exact jb_step (fun p l e R s m args below meth c base ρ tc D Qf H locs cells slots la X hrm hR hS hL k => lv_dup2_11 X.1 X.2.1 hd ((jb_cat _ v).trans hc) ((jb_cat _ w).trans hc2) (k _ hL)) kk
theorem jb_iload {i : Nat} {x : Int32} (hd : decode cc pc = .ok (.iload i, 2)) (hl : ls[i]? = some (some (.int x))) (hp : pc + 2 = pc') (kk : jb_J sc own cc nL rt ini d a b pc' ls (.int x :: st) h Q) : jb_J sc own cc nL rt ini d a b pc ls st h Q := by
  subst hp
  exact jb_step (fun p l e R s m args below meth c base ρ tc D Qf H locs cells slots la X hrm hR hS hL k => lv_iload X.1 X.2.1 hd (hL.2.2 _ _ hl) (k _ hL)) kk
theorem jb_iload_n {i : Fin 4} {x : Int32} (hd : decode cc pc = .ok (.iload_n i, 1)) (hl : ls[(i : Nat)]? = some (some (.int x))) (hp : pc + 1 = pc') (kk : jb_J sc own cc nL rt ini d a b pc' ls (.int x :: st) h Q) : jb_J sc own cc nL rt ini d a b pc ls st h Q := by
  subst hp
  exact jb_step (fun p l e R s m args below meth c base ρ tc D Qf H locs cells slots la X hrm hR hS hL k => lv_iload_n X.1 X.2.1 hd rfl (hL.2.2 _ _ hl) (k _ hL)) kk
theorem jb_lload {i : Nat} {x : Int64} (hd : decode cc pc = .ok (.lload i, 2)) (hl : ls[i]? = some (some (.long x))) (hp : pc + 2 = pc') (kk : jb_J sc own cc nL rt ini d a b pc' ls (.long x :: st) h Q) : jb_J sc own cc nL rt ini d a b pc ls st h Q := by
  subst hp
  exact jb_step (fun p l e R s m args below meth c base ρ tc D Qf H locs cells slots la X hrm hR hS hL k => lv_lload X.1 X.2.1 hd (hL.2.2 _ _ hl) (k _ hL)) kk
theorem jb_lload_n {i : Fin 4} {x : Int64} (hd : decode cc pc = .ok (.lload_n i, 1)) (hl : ls[(i : Nat)]? = some (some (.long x))) (hp : pc + 1 = pc') (kk : jb_J sc own cc nL rt ini d a b pc' ls (.long x :: st) h Q) : jb_J sc own cc nL rt ini d a b pc ls st h Q := by
  subst hp
  exact jb_step (fun p l e R s m args below meth c base ρ tc D Qf H locs cells slots la X hrm hR hS hL k => lv_lload_n X.1 X.2.1 hd rfl (hL.2.2 _ _ hl) (k _ hL)) kk
theorem jb_aload {i : Nat} {x : Nat} (hd : decode cc pc = .ok (.aload i, 2)) (hl : ls[i]? = some (some (.ref x))) (hp : pc + 2 = pc') (kk : jb_J sc own cc nL rt ini d a b pc' ls (.ref x :: st) h Q) : jb_J sc own cc nL rt ini d a b pc ls st h Q := by
  subst hp
  exact jb_step (fun p l e R s m args below meth c base ρ tc D Qf H locs cells slots la X hrm hR hS hL k => lv_aload X.1 X.2.1 hd (hL.2.2 _ _ hl) (k _ hL)) kk
theorem jb_aload_n {i : Fin 4} {x : Nat} (hd : decode cc pc = .ok (.aload_n i, 1)) (hl : ls[(i : Nat)]? = some (some (.ref x))) (hp : pc + 1 = pc') (kk : jb_J sc own cc nL rt ini d a b pc' ls (.ref x :: st) h Q) : jb_J sc own cc nL rt ini d a b pc ls st h Q := by
  subst hp
  exact jb_step (fun p l e R s m args below meth c base ρ tc D Qf H locs cells slots la X hrm hR hS hL k => lv_aload_n X.1 X.2.1 hd rfl (hL.2.2 _ _ hl) (k _ hL)) kk
theorem jb_aload0 {i : Nat} (hd : decode cc pc = .ok (.aload i, 2)) (hl : ls[i]? = some (some .null)) (hp : pc + 2 = pc') (kk : jb_J sc own cc nL rt ini d a b pc' ls (.null :: st) h Q) : jb_J sc own cc nL rt ini d a b pc ls st h Q := by
  subst hp
  exact jb_step (fun p l e R s m args below meth c base ρ tc D Qf H locs cells slots la X hrm hR hS hL k => lv_aloadN X.1 X.2.1 hd (hL.2.2 _ _ hl) (k _ hL)) kk
theorem jb_aload0_n {i : Fin 4} (hd : decode cc pc = .ok (.aload_n i, 1)) (hl : ls[(i : Nat)]? = some (some .null)) (hp : pc + 1 = pc') (kk : jb_J sc own cc nL rt ini d a b pc' ls (.null :: st) h Q) : jb_J sc own cc nL rt ini d a b pc ls st h Q := by
  subst hp
  exact jb_step (fun p l e R s m args below meth c base ρ tc D Qf H locs cells slots la X hrm hR hS hL k => lv_aload_nN X.1 X.2.1 hd rfl (hL.2.2 _ _ hl) (k _ hL)) kk
/-- the list of what is known of the locals, as the kit's rows take it -/
def jb_al (σ : Nat → Nat) (ls : List (Option Value)) : List (Nat × Value) := (List.range ls.length).filterMap (fun i => match ls[i]? with | some (some v) => some (i, jb_cv σ v) | _ => none)
theorem jb_al_mem {σ : Nat → Nat} {ls : List (Option Value)} {i : Nat} {v : Value} : (i, v) ∈ jb_al σ ls ↔ ∃ w, ls[i]? = some (some w) ∧ v = jb_cv σ w := by
  unfold jb_al
  rw [List.mem_filterMap]
  constructor
  · rintro ⟨j, -, hj⟩
    split at hj
    · rename_i w hw
      cases hj
      exact ⟨w, hw, rfl⟩
    · cases hj
  · rintro ⟨w, hw, rfl⟩
    exact ⟨i, List.mem_range.mpr (List.getElem?_eq_some_iff.mp hw).1, by rw [hw]⟩
theorem jb_L.has {σ : Nat → Nat} {la : Array Slot} {nL : Nat} {ls : List (Option Value)} (h : jb_L σ la nL ls) : lv_has la nL (jb_al σ ls) := ⟨h.1, h.2.1, fun q hq => by
  obtain ⟨w, hw, e⟩ := jb_al_mem.mp hq
  rw [e]
  exact h.2.2 _ _ hw⟩
/-- a value of one word at place i -/
def jb_s1 (i : Nat) (v : Value) (ls ls' : List (Option Value)) : Prop := ∀ (j : Nat) (w : Value), ls'[j]? = some (some w) → (j = i ∧ w = v) ∨ (j ≠ i ∧ ls[j]? = some (some w) ∧ ¬ (j + 1 = i ∧ w.category = 2))
theorem jb_L.s1 {σ : Nat → Nat} {la : Array Slot} {nL i : Nat} {v : Value} {ls ls' : List (Option Value)} (hs : jb_s1 i v ls ls') (h : lv_has la nL ((i, jb_cv σ v) :: (jb_al σ ls).filter (fun q => !(q.1 == i) && !(q.1 + 1 == i && q.2.category == 2)))) : jb_L σ la nL ls' := by
  refine ⟨h.1, h.2.1, fun j w hj => ?_⟩
  rcases hs j w hj with ⟨rfl, rfl⟩ | ⟨h1, h2, h3⟩
  · exact h.2.2 (j, jb_cv σ w) List.mem_cons_self
  · refine h.2.2 (j, jb_cv σ w) (List.mem_cons_of_mem _ (List.mem_filter.mpr ⟨jb_al_mem.mpr ⟨w, h2, rfl⟩, ?_⟩))
    simp only [jb_cat]
    simp only [Bool.and_eq_true, Bool.not_eq_true', Bool.and_eq_false_iff, beq_eq_false_iff_ne, ne_eq]
    refine ⟨h1, ?_⟩
    by_cases q : j + 1 = i
    · exact Or.inr (fun z => h3 ⟨q, z⟩)
    · exact Or.inl q
def jb_s2 (i : Nat) (v : Value) (ls ls' : List (Option Value)) : Prop := ∀ (j : Nat) (w : Value), ls'[j]? = some (some w) → (j = i ∧ w = v) ∨ (j ≠ i ∧ j ≠ i + 1 ∧ ls[j]? = some (some w) ∧ ¬ (j + 1 = i ∧ w.category = 2))
theorem jb_L.s2 {σ : Nat → Nat} {la : Array Slot} {nL i : Nat} {v : Value} {ls ls' : List (Option Value)} (hs : jb_s2 i v ls ls') (h : lv_has la nL ((i, jb_cv σ v) :: (jb_al σ ls).filter (fun q => !(q.1 == i) && (!(q.1 == i + 1) && !(q.1 + 1 == i && q.2.category == 2))))) : jb_L σ la nL ls' := by
  refine ⟨h.1, h.2.1, fun j w hj => ?_⟩
  rcases hs j w hj with ⟨rfl, rfl⟩ | ⟨h1, h0, h2, h3⟩
  · exact h.2.2 (j, jb_cv σ w) List.mem_cons_self
  · refine h.2.2 (j, jb_cv σ w) (List.mem_cons_of_mem _ (List.mem_filter.mpr ⟨jb_al_mem.mpr ⟨w, h2, rfl⟩, ?_⟩))
    simp only [jb_cat]
    simp only [Bool.and_eq_true, Bool.not_eq_true', Bool.and_eq_false_iff, beq_eq_false_iff_ne, ne_eq]
    refine ⟨h1, h0, ?_⟩
    by_cases q : j + 1 = i
    · exact Or.inr (fun z => h3 ⟨q, z⟩)
    · exact Or.inl q
/-- no long stands here -/
def jb_c1 : Option Value → Bool
  | some (.long _) => false
  | some (.double _) => false
  | _ => true
theorem jb_c1_of {x : Option Value} (h : jb_c1 x = true) (w : Value) (hw : x = some w) : ¬ w.category = 2 := by
  subst hw
  cases w <;> first | (intro z; cases z; done) | cases h
theorem jb_istore_ {i : Nat} {x : Int32} {ls' : List (Option Value)} (hd : decode cc pc = .ok (.istore i, 2)) (hi : (i : Nat) < nL) (hs : jb_s1 i (.int x) ls ls') (hp : pc + 2 = pc') (kk : jb_J sc own cc nL rt ini d a b pc' ls' st h Q) : jb_J sc own cc nL rt ini d a b pc ls (.int x :: st) h Q := by
  subst hp
  exact jb_step (fun p l e R s m args below meth c base ρ tc D Qf H locs cells slots la X hrm hR hS hL k => lv_istore X.1 X.2.1 hd hL.has hi rfl (fun la' h' => k la' (jb_L.s1 hs h'))) kk
theorem jb_istore_n_ {i : Fin 4} {x : Int32} {ls' : List (Option Value)} (hd : decode cc pc = .ok (.istore_n i, 1)) (hi : (i : Nat) < nL) (hs : jb_s1 i (.int x) ls ls') (hp : pc + 1 = pc') (kk : jb_J sc own cc nL rt ini d a b pc' ls' st h Q) : jb_J sc own cc nL rt ini d a b pc ls (.int x :: st) h Q := by
  subst hp
  exact jb_step (fun p l e R s m args below meth c base ρ tc D Qf H locs cells slots la X hrm hR hS hL k => lv_istore_n X.1 X.2.1 hd rfl hL.has hi rfl (fun la' h' => k la' (jb_L.s1 hs h'))) kk
theorem jb_astore_ {i : Nat} {x : Nat} {ls' : List (Option Value)} (hd : decode cc pc = .ok (.astore i, 2)) (hi : (i : Nat) < nL) (hs : jb_s1 i (.ref x) ls ls') (hp : pc + 2 = pc') (kk : jb_J sc own cc nL rt ini d a b pc' ls' st h Q) : jb_J sc own cc nL rt ini d a b pc ls (.ref x :: st) h Q := by
  subst hp
  exact jb_step (fun p l e R s m args below meth c base ρ tc D Qf H locs cells slots la X hrm hR hS hL k => lv_astore X.1 X.2.1 hd hL.has hi rfl (fun la' h' => k la' (jb_L.s1 hs h'))) kk
theorem jb_astore_n_ {i : Fin 4} {x : Nat} {ls' : List (Option Value)} (hd : decode cc pc = .ok (.astore_n i, 1)) (hi : (i : Nat) < nL) (hs : jb_s1 i (.ref x) ls ls') (hp : pc + 1 = pc') (kk : jb_J sc own cc nL rt ini d a b pc' ls' st h Q) : jb_J sc own cc nL rt ini d a b pc ls (.ref x :: st) h Q := by
  subst hp
  exact jb_step (fun p l e R s m args below meth c base ρ tc D Qf H locs cells slots la X hrm hR hS hL k => lv_astore_n X.1 X.2.1 hd rfl hL.has hi rfl (fun la' h' => k la' (jb_L.s1 hs h'))) kk
theorem jb_astore0_ {i : Nat}  {ls' : List (Option Value)} (hd : decode cc pc = .ok (.astore i, 2)) (hi : (i : Nat) < nL) (hs : jb_s1 i (.null) ls ls') (hp : pc + 2 = pc') (kk : jb_J sc own cc nL rt ini d a b pc' ls' st h Q) : jb_J sc own cc nL rt ini d a b pc ls (.null :: st) h Q := by
  subst hp
  exact jb_step (fun p l e R s m args below meth c base ρ tc D Qf H locs cells slots la X hrm hR hS hL k => lv_astoreN X.1 X.2.1 hd hL.has hi rfl (fun la' h' => k la' (jb_L.s1 hs h'))) kk
theorem jb_astore0_n_ {i : Fin 4}  {ls' : List (Option Value)} (hd : decode cc pc = .ok (.astore_n i, 1)) (hi : (i : Nat) < nL) (hs : jb_s1 i (.null) ls ls') (hp : pc + 1 = pc') (kk : jb_J sc own cc nL rt ini d a b pc' ls' st h Q) : jb_J sc own cc nL rt ini d a b pc ls (.null :: st) h Q := by
  subst hp
  exact jb_step (fun p l e R s m args below meth c base ρ tc D Qf H locs cells slots la X hrm hR hS hL k => lv_astore_nN X.1 X.2.1 hd rfl hL.has hi rfl (fun la' h' => k la' (jb_L.s1 hs h'))) kk
theorem jb_lstore_ {i : Nat} {x : Int64} {ls' : List (Option Value)} (hd : decode cc pc = .ok (.lstore i, 2)) (hi : (i : Nat) + 1 < nL) (hs : jb_s2 i (.long x) ls ls') (hp : pc + 2 = pc') (kk : jb_J sc own cc nL rt ini d a b pc' ls' st h Q) : jb_J sc own cc nL rt ini d a b pc ls (.long x :: st) h Q := by
  subst hp
  exact jb_step (fun p l e R s m args below meth c base ρ tc D Qf H locs cells slots la X hrm hR hS hL k => lv_lstore X.1 X.2.1 hd hL.has hi rfl (fun la' h' => k la' (jb_L.s2 hs h'))) kk
theorem jb_lstore_n_ {i : Fin 4} {x : Int64} {ls' : List (Option Value)} (hd : decode cc pc = .ok (.lstore_n i, 1)) (hi : (i : Nat) + 1 < nL) (hs : jb_s2 i (.long x) ls ls') (hp : pc + 1 = pc') (kk : jb_J sc own cc nL rt ini d a b pc' ls' st h Q) : jb_J sc own cc nL rt ini d a b pc ls (.long x :: st) h Q := by
  subst hp
  exact jb_step (fun p l e R s m args below meth c base ρ tc D Qf H locs cells slots la X hrm hR hS hL k => lv_lstore_n X.1 X.2.1 hd rfl hL.has hi rfl (fun la' h' => k la' (jb_L.s2 hs h'))) kk
theorem jb_iinc_ {i : Nat} {n : Int} {x : Int32} (v : Int32) {ls' : List (Option Value)} (hd : decode cc pc = .ok (.iinc i n, 3)) (hi : i < nL) (hl : ls[i]? = some (some (.int x))) (hv : x + Int32.ofInt n = v) (hs : jb_s1 i (.int v) ls ls') (hp : pc + 3 = pc') (kk : jb_J sc own cc nL rt ini d a b pc' ls' st h Q) : jb_J sc own cc nL rt ini d a b pc ls st h Q := by
  subst hp
  refine jb_step (fun p l e R s m args below meth c base ρ tc D Qf H locs cells slots la X hrm hR hS hL k => ?_) kk
  have hm : (i, Value.int x) ∈ jb_al (jb_sg base ρ) ls := jb_al_mem.mpr ⟨_, hl, rfl⟩
  obtain ⟨q, hq⟩ := List.getElem?_of_mem hm
  exact lv_iinc X.1 X.2.1 hd hL.has hq hv hi rfl (fun la' h' => k la' (jb_L.s1 hs h'))
theorem jb_at0 {v : Value} {x0 : Option Value} {tl : List (Option Value)} : jb_s1 0 v (x0 :: tl) (some v :: tl) := by
  intro j w hj
  match j, hj with
  | 0, hj => exact Or.inl ⟨rfl, (Option.some.inj (Option.some.inj hj)).symm⟩
  | j + 1, hj => exact Or.inr ⟨by omega, hj, fun q => absurd q.1 (by omega)⟩
theorem jb_at1 {v : Value} {x0 x1 : Option Value} {tl : List (Option Value)} (hc : jb_c1 x0 = true) : jb_s1 1 v (x0 :: x1 :: tl) (x0 :: some v :: tl) := by
  intro j w hj
  match j, hj with
  | 0, hj => exact Or.inr ⟨by decide, hj, fun q => jb_c1_of hc w (Option.some.inj hj) q.2⟩
  | 1, hj => exact Or.inl ⟨rfl, (Option.some.inj (Option.some.inj hj)).symm⟩
  | j + 2, hj => exact Or.inr ⟨by omega, hj, fun q => absurd q.1 (by omega)⟩
theorem jb_at2 {v : Value} {x0 x1 x2 : Option Value} {tl : List (Option Value)} (hc : jb_c1 x1 = true) : jb_s1 2 v (x0 :: x1 :: x2 :: tl) (x0 :: x1 :: some v :: tl) := by
  intro j w hj
  match j, hj with
  | 0, hj => exact Or.inr ⟨by decide, hj, fun q => absurd q.1 (by decide)⟩
  | 1, hj => exact Or.inr ⟨by decide, hj, fun q => jb_c1_of hc w (Option.some.inj hj) q.2⟩
  | 2, hj => exact Or.inl ⟨rfl, (Option.some.inj (Option.some.inj hj)).symm⟩
  | j + 3, hj => exact Or.inr ⟨by omega, hj, fun q => absurd q.1 (by omega)⟩
theorem jb_at3 {v : Value} {x0 x1 x2 x3 : Option Value} {tl : List (Option Value)} (hc : jb_c1 x2 = true) : jb_s1 3 v (x0 :: x1 :: x2 :: x3 :: tl) (x0 :: x1 :: x2 :: some v :: tl) := by
  intro j w hj
  match j, hj with
  | 0, hj => exact Or.inr ⟨by decide, hj, fun q => absurd q.1 (by decide)⟩
  | 1, hj => exact Or.inr ⟨by decide, hj, fun q => absurd q.1 (by decide)⟩
  | 2, hj => exact Or.inr ⟨by decide, hj, fun q => jb_c1_of hc w (Option.some.inj hj) q.2⟩
  | 3, hj => exact Or.inl ⟨rfl, (Option.some.inj (Option.some.inj hj)).symm⟩
  | j + 4, hj => exact Or.inr ⟨by omega, hj, fun q => absurd q.1 (by omega)⟩
theorem jb_at4 {v : Value} {x0 x1 x2 x3 x4 : Option Value} {tl : List (Option Value)} (hc : jb_c1 x3 = true) : jb_s1 4 v (x0 :: x1 :: x2 :: x3 :: x4 :: tl) (x0 :: x1 :: x2 :: x3 :: some v :: tl) := by
  intro j w hj
  match j, hj with
  | 0, hj => exact Or.inr ⟨by decide, hj, fun q => absurd q.1 (by decide)⟩
  | 1, hj => exact Or.inr ⟨by decide, hj, fun q => absurd q.1 (by decide)⟩
  | 2, hj => exact Or.inr ⟨by decide, hj, fun q => absurd q.1 (by decide)⟩
  | 3, hj => exact Or.inr ⟨by decide, hj, fun q => jb_c1_of hc w (Option.some.inj hj) q.2⟩
  | 4, hj => exact Or.inl ⟨rfl, (Option.some.inj (Option.some.inj hj)).symm⟩
  | j + 5, hj => exact Or.inr ⟨by omega, hj, fun q => absurd q.1 (by omega)⟩
theorem jb_at5 {v : Value} {x0 x1 x2 x3 x4 x5 : Option Value} {tl : List (Option Value)} (hc : jb_c1 x4 = true) : jb_s1 5 v (x0 :: x1 :: x2 :: x3 :: x4 :: x5 :: tl) (x0 :: x1 :: x2 :: x3 :: x4 :: some v :: tl) := by
  intro j w hj
  match j, hj with
  | 0, hj => exact Or.inr ⟨by decide, hj, fun q => absurd q.1 (by decide)⟩
  | 1, hj => exact Or.inr ⟨by decide, hj, fun q => absurd q.1 (by decide)⟩
  | 2, hj => exact Or.inr ⟨by decide, hj, fun q => absurd q.1 (by decide)⟩
  | 3, hj => exact Or.inr ⟨by decide, hj, fun q => absurd q.1 (by decide)⟩
  | 4, hj => exact Or.inr ⟨by decide, hj, fun q => jb_c1_of hc w (Option.some.inj hj) q.2⟩
  | 5, hj => exact Or.inl ⟨rfl, (Option.some.inj (Option.some.inj hj)).symm⟩
  | j + 6, hj => exact Or.inr ⟨by omega, hj, fun q => absurd q.1 (by omega)⟩
theorem jb_at6 {v : Value} {x0 x1 x2 x3 x4 x5 x6 : Option Value} {tl : List (Option Value)} (hc : jb_c1 x5 = true) : jb_s1 6 v (x0 :: x1 :: x2 :: x3 :: x4 :: x5 :: x6 :: tl) (x0 :: x1 :: x2 :: x3 :: x4 :: x5 :: some v :: tl) := by
  intro j w hj
  match j, hj with
  | 0, hj => exact Or.inr ⟨by decide, hj, fun q => absurd q.1 (by decide)⟩
  | 1, hj => exact Or.inr ⟨by decide, hj, fun q => absurd q.1 (by decide)⟩
  | 2, hj => exact Or.inr ⟨by decide, hj, fun q => absurd q.1 (by decide)⟩
  | 3, hj => exact Or.inr ⟨by decide, hj, fun q => absurd q.1 (by decide)⟩
  | 4, hj => exact Or.inr ⟨by decide, hj, fun q => absurd q.1 (by decide)⟩
  | 5, hj => exact Or.inr ⟨by decide, hj, fun q => jb_c1_of hc w (Option.some.inj hj) q.2⟩
  | 6, hj => exact Or.inl ⟨rfl, (Option.some.inj (Option.some.inj hj)).symm⟩
  | j + 7, hj => exact Or.inr ⟨by omega, hj, fun q => absurd q.1 (by omega)⟩
theorem jb_at7 {v : Value} {x0 x1 x2 x3 x4 x5 x6 x7 : Option Value} {tl : List (Option Value)} (hc : jb_c1 x6 = true) : jb_s1 7 v (x0 :: x1 :: x2 :: x3 :: x4 :: x5 :: x6 :: x7 :: tl) (x0 :: x1 :: x2 :: x3 :: x4 :: x5 :: x6 :: some v :: tl) := by
  intro j w hj
  match j, hj with
  | 0, hj => exact Or.inr ⟨by decide, hj, fun q => absurd q.1 (by decide)⟩
  | 1, hj => exact Or.inr ⟨by decide, hj, fun q => absurd q.1 (by decide)⟩
  | 2, hj => exact Or.inr ⟨by decide, hj, fun q => absurd q.1 (by decide)⟩
  | 3, hj => exact Or.inr ⟨by decide, hj, fun q => absurd q.1 (by decide)⟩
  | 4, hj => exact Or.inr ⟨by decide, hj, fun q => absurd q.1 (by decide)⟩
  | 5, hj => exact Or.inr ⟨by decide, hj, fun q => absurd q.1 (by decide)⟩
  | 6, hj => exact Or.inr ⟨by decide, hj, fun q => jb_c1_of hc w (Option.some.inj hj) q.2⟩
  | 7, hj => exact Or.inl ⟨rfl, (Option.some.inj (Option.some.inj hj)).symm⟩
  | j + 8, hj => exact Or.inr ⟨by omega, hj, fun q => absurd q.1 (by omega)⟩
theorem jb_at8 {v : Value} {x0 x1 x2 x3 x4 x5 x6 x7 x8 : Option Value} {tl : List (Option Value)} (hc : jb_c1 x7 = true) : jb_s1 8 v (x0 :: x1 :: x2 :: x3 :: x4 :: x5 :: x6 :: x7 :: x8 :: tl) (x0 :: x1 :: x2 :: x3 :: x4 :: x5 :: x6 :: x7 :: some v :: tl) := by
  intro j w hj
  match j, hj with
  | 0, hj => exact Or.inr ⟨by decide, hj, fun q => absurd q.1 (by decide)⟩
  | 1, hj => exact Or.inr ⟨by decide, hj, fun q => absurd q.1 (by decide)⟩
  | 2, hj => exact Or.inr ⟨by decide, hj, fun q => absurd q.1 (by decide)⟩
  | 3, hj => exact Or.inr ⟨by decide, hj, fun q => absurd q.1 (by decide)⟩
  | 4, hj => exact Or.inr ⟨by decide, hj, fun q => absurd q.1 (by decide)⟩
  | 5, hj => exact Or.inr ⟨by decide, hj, fun q => absurd q.1 (by decide)⟩
  | 6, hj => exact Or.inr ⟨by decide, hj, fun q => absurd q.1 (by decide)⟩
  | 7, hj => exact Or.inr ⟨by decide, hj, fun q => jb_c1_of hc w (Option.some.inj hj) q.2⟩
  | 8, hj => exact Or.inl ⟨rfl, (Option.some.inj (Option.some.inj hj)).symm⟩
  | j + 9, hj => exact Or.inr ⟨by omega, hj, fun q => absurd q.1 (by omega)⟩
theorem jb_at9 {v : Value} {x0 x1 x2 x3 x4 x5 x6 x7 x8 x9 : Option Value} {tl : List (Option Value)} (hc : jb_c1 x8 = true) : jb_s1 9 v (x0 :: x1 :: x2 :: x3 :: x4 :: x5 :: x6 :: x7 :: x8 :: x9 :: tl) (x0 :: x1 :: x2 :: x3 :: x4 :: x5 :: x6 :: x7 :: x8 :: some v :: tl) := by
  intro j w hj
  match j, hj with
  | 0, hj => exact Or.inr ⟨by decide, hj, fun q => absurd q.1 (by decide)⟩
  | 1, hj => exact Or.inr ⟨by decide, hj, fun q => absurd q.1 (by decide)⟩
  | 2, hj => exact Or.inr ⟨by decide, hj, fun q => absurd q.1 (by decide)⟩
  | 3, hj => exact Or.inr ⟨by decide, hj, fun q => absurd q.1 (by decide)⟩
  | 4, hj => exact Or.inr ⟨by decide, hj, fun q => absurd q.1 (by decide)⟩
  | 5, hj => exact Or.inr ⟨by decide, hj, fun q => absurd q.1 (by decide)⟩
  | 6, hj => exact Or.inr ⟨by decide, hj, fun q => absurd q.1 (by decide)⟩
  | 7, hj => exact Or.inr ⟨by decide, hj, fun q => absurd q.1 (by decide)⟩
  | 8, hj => exact Or.inr ⟨by decide, hj, fun q => jb_c1_of hc w (Option.some.inj hj) q.2⟩
  | 9, hj => exact Or.inl ⟨rfl, (Option.some.inj (Option.some.inj hj)).symm⟩
  | j + 10, hj => exact Or.inr ⟨by omega, hj, fun q => absurd q.1 (by omega)⟩
theorem jb_at10 {v : Value} {x0 x1 x2 x3 x4 x5 x6 x7 x8 x9 x10 : Option Value} {tl : List (Option Value)} (hc : jb_c1 x9 = true) : jb_s1 10 v (x0 :: x1 :: x2 :: x3 :: x4 :: x5 :: x6 :: x7 :: x8 :: x9 :: x10 :: tl) (x0 :: x1 :: x2 :: x3 :: x4 :: x5 :: x6 :: x7 :: x8 :: x9 :: some v :: tl) := by
  intro j w hj
  match j, hj with
  | 0, hj => exact Or.inr ⟨by decide, hj, fun q => absurd q.1 (by decide)⟩
  | 1, hj => exact Or.inr ⟨by decide, hj, fun q => absurd q.1 (by decide)⟩
  | 2, hj => exact Or.inr ⟨by decide, hj, fun q => absurd q.1 (by decide)⟩
  | 3, hj => exact Or.inr ⟨by decide, hj, fun q => absurd q.1 (by decide)⟩
  | 4, hj => exact Or.inr ⟨by decide, hj, fun q => absurd q.1 (by decide)⟩
  | 5, hj => exact Or.inr ⟨by decide, hj, fun q => absurd q.1 (by decide)⟩
  | 6, hj => exact Or.inr ⟨by decide, hj, fun q => absurd q.1 (by decide)⟩
  | 7, hj => exact Or.inr ⟨by decide, hj, fun q => absurd q.1 (by decide)⟩
  | 8, hj => exact Or.inr ⟨by decide, hj, fun q => absurd q.1 (by decide)⟩
  | 9, hj => exact Or.inr ⟨by decide, hj, fun q => jb_c1_of hc w (Option.some.inj hj) q.2⟩
  | 10, hj => exact Or.inl ⟨rfl, (Option.some.inj (Option.some.inj hj)).symm⟩
  | j + 11, hj => exact Or.inr ⟨by omega, hj, fun q => absurd q.1 (by omega)⟩
theorem jb_at11 {v : Value} {x0 x1 x2 x3 x4 x5 x6 x7 x8 x9 x10 x11 : Option Value} {tl : List (Option Value)} (hc : jb_c1 x10 = true) : jb_s1 11 v (x0 :: x1 :: x2 :: x3 :: x4 :: x5 :: x6 :: x7 :: x8 :: x9 :: x10 :: x11 :: tl) (x0 :: x1 :: x2 :: x3 :: x4 :: x5 :: x6 :: x7 :: x8 :: x9 :: x10 :: some v :: tl) := by
  intro j w hj
  match j, hj with
  | 0, hj => exact Or.inr ⟨by decide, hj, fun q => absurd q.1 (by decide)⟩
  | 1, hj => exact Or.inr ⟨by decide, hj, fun q => absurd q.1 (by decide)⟩
  | 2, hj => exact Or.inr ⟨by decide, hj, fun q => absurd q.1 (by decide)⟩
  | 3, hj => exact Or.inr ⟨by decide, hj, fun q => absurd q.1 (by decide)⟩
  | 4, hj => exact Or.inr ⟨by decide, hj, fun q => absurd q.1 (by decide)⟩
  | 5, hj => exact Or.inr ⟨by decide, hj, fun q => absurd q.1 (by decide)⟩
  | 6, hj => exact Or.inr ⟨by decide, hj, fun q => absurd q.1 (by decide)⟩
  | 7, hj => exact Or.inr ⟨by decide, hj, fun q => absurd q.1 (by decide)⟩
  | 8, hj => exact Or.inr ⟨by decide, hj, fun q => absurd q.1 (by decide)⟩
  | 9, hj => exact Or.inr ⟨by decide, hj, fun q => absurd q.1 (by decide)⟩
  | 10, hj => exact Or.inr ⟨by decide, hj, fun q => jb_c1_of hc w (Option.some.inj hj) q.2⟩
  | 11, hj => exact Or.inl ⟨rfl, (Option.some.inj (Option.some.inj hj)).symm⟩
  | j + 12, hj => exact Or.inr ⟨by omega, hj, fun q => absurd q.1 (by omega)⟩
theorem jb_at12 {v : Value} {x0 x1 x2 x3 x4 x5 x6 x7 x8 x9 x10 x11 x12 : Option Value} {tl : List (Option Value)} (hc : jb_c1 x11 = true) : jb_s1 12 v (x0 :: x1 :: x2 :: x3 :: x4 :: x5 :: x6 :: x7 :: x8 :: x9 :: x10 :: x11 :: x12 :: tl) (x0 :: x1 :: x2 :: x3 :: x4 :: x5 :: x6 :: x7 :: x8 :: x9 :: x10 :: x11 :: some v :: tl) := by
  intro j w hj
  match j, hj with
  | 0, hj => exact Or.inr ⟨by decide, hj, fun q => absurd q.1 (by decide)⟩
  | 1, hj => exact Or.inr ⟨by decide, hj, fun q => absurd q.1 (by decide)⟩
  | 2, hj => exact Or.inr ⟨by decide, hj, fun q => absurd q.1 (by decide)⟩
  | 3, hj => exact Or.inr ⟨by decide, hj, fun q => absurd q.1 (by decide)⟩
  | 4, hj => exact Or.inr ⟨by decide, hj, fun q => absurd q.1 (by decide)⟩
  | 5, hj => exact Or.inr ⟨by decide, hj, fun q => absurd q.1 (by decide)⟩
  | 6, hj => exact Or.inr ⟨by decide, hj, fun q => absurd q.1 (by decide)⟩
  | 7, hj => exact Or.inr ⟨by decide, hj, fun q => absurd q.1 (by decide)⟩
  | 8, hj => exact Or.inr ⟨by decide, hj, fun q => absurd q.1 (by decide)⟩
  | 9, hj => exact Or.inr ⟨by decide, hj, fun q => absurd q.1 (by decide)⟩
  | 10, hj => exact Or.inr ⟨by decide, hj, fun q => absurd q.1 (by decide)⟩
  | 11, hj => exact Or.inr ⟨by decide, hj, fun q => jb_c1_of hc w (Option.some.inj hj) q.2⟩
  | 12, hj => exact Or.inl ⟨rfl, (Option.some.inj (Option.some.inj hj)).symm⟩
  | j + 13, hj => exact Or.inr ⟨by omega, hj, fun q => absurd q.1 (by omega)⟩
theorem jb_at13 {v : Value} {x0 x1 x2 x3 x4 x5 x6 x7 x8 x9 x10 x11 x12 x13 : Option Value} {tl : List (Option Value)} (hc : jb_c1 x12 = true) : jb_s1 13 v (x0 :: x1 :: x2 :: x3 :: x4 :: x5 :: x6 :: x7 :: x8 :: x9 :: x10 :: x11 :: x12 :: x13 :: tl) (x0 :: x1 :: x2 :: x3 :: x4 :: x5 :: x6 :: x7 :: x8 :: x9 :: x10 :: x11 :: x12 :: some v :: tl) := by
  intro j w hj
  match j, hj with
  | 0, hj => exact Or.inr ⟨by decide, hj, fun q => absurd q.1 (by decide)⟩
  | 1, hj => exact Or.inr ⟨by decide, hj, fun q => absurd q.1 (by decide)⟩
  | 2, hj => exact Or.inr ⟨by decide, hj, fun q => absurd q.1 (by decide)⟩
  | 3, hj => exact Or.inr ⟨by decide, hj, fun q => absurd q.1 (by decide)⟩
  | 4, hj => exact Or.inr ⟨by decide, hj, fun q => absurd q.1 (by decide)⟩
  | 5, hj => exact Or.inr ⟨by decide, hj, fun q => absurd q.1 (by decide)⟩
  | 6, hj => exact Or.inr ⟨by decide, hj, fun q => absurd q.1 (by decide)⟩
  | 7, hj => exact Or.inr ⟨by decide, hj, fun q => absurd q.1 (by decide)⟩
  | 8, hj => exact Or.inr ⟨by decide, hj, fun q => absurd q.1 (by decide)⟩
  | 9, hj => exact Or.inr ⟨by decide, hj, fun q => absurd q.1 (by decide)⟩
  | 10, hj => exact Or.inr ⟨by decide, hj, fun q => absurd q.1 (by decide)⟩
  | 11, hj => exact Or.inr ⟨by decide, hj, fun q => absurd q.1 (by decide)⟩
  | 12, hj => exact Or.inr ⟨by decide, hj, fun q => jb_c1_of hc w (Option.some.inj hj) q.2⟩
  | 13, hj => exact Or.inl ⟨rfl, (Option.some.inj (Option.some.inj hj)).symm⟩
  | j + 14, hj => exact Or.inr ⟨by omega, hj, fun q => absurd q.1 (by omega)⟩
theorem jb_at14 {v : Value} {x0 x1 x2 x3 x4 x5 x6 x7 x8 x9 x10 x11 x12 x13 x14 : Option Value} {tl : List (Option Value)} (hc : jb_c1 x13 = true) : jb_s1 14 v (x0 :: x1 :: x2 :: x3 :: x4 :: x5 :: x6 :: x7 :: x8 :: x9 :: x10 :: x11 :: x12 :: x13 :: x14 :: tl) (x0 :: x1 :: x2 :: x3 :: x4 :: x5 :: x6 :: x7 :: x8 :: x9 :: x10 :: x11 :: x12 :: x13 :: some v :: tl) := by
  intro j w hj
  match j, hj with
  | 0, hj => exact Or.inr ⟨by decide, hj, fun q => absurd q.1 (by decide)⟩
  | 1, hj => exact Or.inr ⟨by decide, hj, fun q => absurd q.1 (by decide)⟩
  | 2, hj => exact Or.inr ⟨by decide, hj, fun q => absurd q.1 (by decide)⟩
  | 3, hj => exact Or.inr ⟨by decide, hj, fun q => absurd q.1 (by decide)⟩
  | 4, hj => exact Or.inr ⟨by decide, hj, fun q => absurd q.1 (by decide)⟩
  | 5, hj => exact Or.inr ⟨by decide, hj, fun q => absurd q.1 (by decide)⟩
  | 6, hj => exact Or.inr ⟨by decide, hj, fun q => absurd q.1 (by decide)⟩
  | 7, hj => exact Or.inr ⟨by decide, hj, fun q => absurd q.1 (by decide)⟩
  | 8, hj => exact Or.inr ⟨by decide, hj, fun q => absurd q.1 (by decide)⟩
  | 9, hj => exact Or.inr ⟨by decide, hj, fun q => absurd q.1 (by decide)⟩
  | 10, hj => exact Or.inr ⟨by decide, hj, fun q => absurd q.1 (by decide)⟩
  | 11, hj => exact Or.inr ⟨by decide, hj, fun q => absurd q.1 (by decide)⟩
  | 12, hj => exact Or.inr ⟨by decide, hj, fun q => absurd q.1 (by decide)⟩
  | 13, hj => exact Or.inr ⟨by decide, hj, fun q => jb_c1_of hc w (Option.some.inj hj) q.2⟩
  | 14, hj => exact Or.inl ⟨rfl, (Option.some.inj (Option.some.inj hj)).symm⟩
  | j + 15, hj => exact Or.inr ⟨by omega, hj, fun q => absurd q.1 (by omega)⟩
theorem jb_at15 {v : Value} {x0 x1 x2 x3 x4 x5 x6 x7 x8 x9 x10 x11 x12 x13 x14 x15 : Option Value} {tl : List (Option Value)} (hc : jb_c1 x14 = true) : jb_s1 15 v (x0 :: x1 :: x2 :: x3 :: x4 :: x5 :: x6 :: x7 :: x8 :: x9 :: x10 :: x11 :: x12 :: x13 :: x14 :: x15 :: tl) (x0 :: x1 :: x2 :: x3 :: x4 :: x5 :: x6 :: x7 :: x8 :: x9 :: x10 :: x11 :: x12 :: x13 :: x14 :: some v :: tl) := by
  intro j w hj
  match j, hj with
  | 0, hj => exact Or.inr ⟨by decide, hj, fun q => absurd q.1 (by decide)⟩
  | 1, hj => exact Or.inr ⟨by decide, hj, fun q => absurd q.1 (by decide)⟩
  | 2, hj => exact Or.inr ⟨by decide, hj, fun q => absurd q.1 (by decide)⟩
  | 3, hj => exact Or.inr ⟨by decide, hj, fun q => absurd q.1 (by decide)⟩
  | 4, hj => exact Or.inr ⟨by decide, hj, fun q => absurd q.1 (by decide)⟩
  | 5, hj => exact Or.inr ⟨by decide, hj, fun q => absurd q.1 (by decide)⟩
  | 6, hj => exact Or.inr ⟨by decide, hj, fun q => absurd q.1 (by decide)⟩
  | 7, hj => exact Or.inr ⟨by decide, hj, fun q => absurd q.1 (by decide)⟩
  | 8, hj => exact Or.inr ⟨by decide, hj, fun q => absurd q.1 (by decide)⟩
  | 9, hj => exact Or.inr ⟨by decide, hj, fun q => absurd q.1 (by decide)⟩
  | 10, hj => exact Or.inr ⟨by decide, hj, fun q => absurd q.1 (by decide)⟩
  | 11, hj => exact Or.inr ⟨by decide, hj, fun q => absurd q.1 (by decide)⟩
  | 12, hj => exact Or.inr ⟨by decide, hj, fun q => absurd q.1 (by decide)⟩
  | 13, hj => exact Or.inr ⟨by decide, hj, fun q => absurd q.1 (by decide)⟩
  | 14, hj => exact Or.inr ⟨by decide, hj, fun q => jb_c1_of hc w (Option.some.inj hj) q.2⟩
  | 15, hj => exact Or.inl ⟨rfl, (Option.some.inj (Option.some.inj hj)).symm⟩
  | j + 16, hj => exact Or.inr ⟨by omega, hj, fun q => absurd q.1 (by omega)⟩
theorem jb_lt0 {v : Value} {x0 x1 : Option Value} {tl : List (Option Value)} : jb_s2 0 v (x0 :: x1 :: tl) (some v :: none :: tl) := by
  intro j w hj
  match j, hj with
  | 0, hj => exact Or.inl ⟨rfl, (Option.some.inj (Option.some.inj hj)).symm⟩
  | 1, hj => cases hj
  | j + 2, hj => exact Or.inr ⟨by omega, by omega, hj, fun q => absurd q.1 (by omega)⟩
theorem jb_lt1 {v : Value} {x0 x1 x2 : Option Value} {tl : List (Option Value)} (hc : jb_c1 x0 = true) : jb_s2 1 v (x0 :: x1 :: x2 :: tl) (x0 :: some v :: none :: tl) := by
  intro j w hj
  match j, hj with
  | 0, hj => exact Or.inr ⟨by decide, by decide, hj, fun q => jb_c1_of hc w (Option.some.inj hj) q.2⟩
  | 1, hj => exact Or.inl ⟨rfl, (Option.some.inj (Option.some.inj hj)).symm⟩
  | 2, hj => cases hj
  | j + 3, hj => exact Or.inr ⟨by omega, by omega, hj, fun q => absurd q.1 (by omega)⟩
theorem jb_lt2 {v : Value} {x0 x1 x2 x3 : Option Value} {tl : List (Option Value)} (hc : jb_c1 x1 = true) : jb_s2 2 v (x0 :: x1 :: x2 :: x3 :: tl) (x0 :: x1 :: some v :: none :: tl) := by
  intro j w hj
  match j, hj with
  | 0, hj => exact Or.inr ⟨by decide, by decide, hj, fun q => absurd q.1 (by decide)⟩
  | 1, hj => exact Or.inr ⟨by decide, by decide, hj, fun q => jb_c1_of hc w (Option.some.inj hj) q.2⟩
  | 2, hj => exact Or.inl ⟨rfl, (Option.some.inj (Option.some.inj hj)).symm⟩
  | 3, hj => cases hj
  | j + 4, hj => exact Or.inr ⟨by omega, by omega, hj, fun q => absurd q.1 (by omega)⟩
theorem jb_lt3 {v : Value} {x0 x1 x2 x3 x4 : Option Value} {tl : List (Option Value)} (hc : jb_c1 x2 = true) : jb_s2 3 v (x0 :: x1 :: x2 :: x3 :: x4 :: tl) (x0 :: x1 :: x2 :: some v :: none :: tl) := by
  intro j w hj
  match j, hj with
  | 0, hj => exact Or.inr ⟨by decide, by decide, hj, fun q => absurd q.1 (by decide)⟩
  | 1, hj => exact Or.inr ⟨by decide, by decide, hj, fun q => absurd q.1 (by decide)⟩
  | 2, hj => exact Or.inr ⟨by decide, by decide, hj, fun q => jb_c1_of hc w (Option.some.inj hj) q.2⟩
  | 3, hj => exact Or.inl ⟨rfl, (Option.some.inj (Option.some.inj hj)).symm⟩
  | 4, hj => cases hj
  | j + 5, hj => exact Or.inr ⟨by omega, by omega, hj, fun q => absurd q.1 (by omega)⟩
theorem jb_lt4 {v : Value} {x0 x1 x2 x3 x4 x5 : Option Value} {tl : List (Option Value)} (hc : jb_c1 x3 = true) : jb_s2 4 v (x0 :: x1 :: x2 :: x3 :: x4 :: x5 :: tl) (x0 :: x1 :: x2 :: x3 :: some v :: none :: tl) := by
  intro j w hj
  match j, hj with
  | 0, hj => exact Or.inr ⟨by decide, by decide, hj, fun q => absurd q.1 (by decide)⟩
  | 1, hj => exact Or.inr ⟨by decide, by decide, hj, fun q => absurd q.1 (by decide)⟩
  | 2, hj => exact Or.inr ⟨by decide, by decide, hj, fun q => absurd q.1 (by decide)⟩
  | 3, hj => exact Or.inr ⟨by decide, by decide, hj, fun q => jb_c1_of hc w (Option.some.inj hj) q.2⟩
  | 4, hj => exact Or.inl ⟨rfl, (Option.some.inj (Option.some.inj hj)).symm⟩
  | 5, hj => cases hj
  | j + 6, hj => exact Or.inr ⟨by omega, by omega, hj, fun q => absurd q.1 (by omega)⟩
theorem jb_lt5 {v : Value} {x0 x1 x2 x3 x4 x5 x6 : Option Value} {tl : List (Option Value)} (hc : jb_c1 x4 = true) : jb_s2 5 v (x0 :: x1 :: x2 :: x3 :: x4 :: x5 :: x6 :: tl) (x0 :: x1 :: x2 :: x3 :: x4 :: some v :: none :: tl) := by
  intro j w hj
  match j, hj with
  | 0, hj => exact Or.inr ⟨by decide, by decide, hj, fun q => absurd q.1 (by decide)⟩
  | 1, hj => exact Or.inr ⟨by decide, by decide, hj, fun q => absurd q.1 (by decide)⟩
  | 2, hj => exact Or.inr ⟨by decide, by decide, hj, fun q => absurd q.1 (by decide)⟩
  | 3, hj => exact Or.inr ⟨by decide, by decide, hj, fun q => absurd q.1 (by decide)⟩
  | 4, hj => exact Or.inr ⟨by decide, by decide, hj, fun q => jb_c1_of hc w (Option.some.inj hj) q.2⟩
  | 5, hj => exact Or.inl ⟨rfl, (Option.some.inj (Option.some.inj hj)).symm⟩
  | 6, hj => cases hj
  | j + 7, hj => exact Or.inr ⟨by omega, by omega, hj, fun q => absurd q.1 (by omega)⟩
theorem jb_lt6 {v : Value} {x0 x1 x2 x3 x4 x5 x6 x7 : Option Value} {tl : List (Option Value)} (hc : jb_c1 x5 = true) : jb_s2 6 v (x0 :: x1 :: x2 :: x3 :: x4 :: x5 :: x6 :: x7 :: tl) (x0 :: x1 :: x2 :: x3 :: x4 :: x5 :: some v :: none :: tl) := by
  intro j w hj
  match j, hj with
  | 0, hj => exact Or.inr ⟨by decide, by decide, hj, fun q => absurd q.1 (by decide)⟩
  | 1, hj => exact Or.inr ⟨by decide, by decide, hj, fun q => absurd q.1 (by decide)⟩
  | 2, hj => exact Or.inr ⟨by decide, by decide, hj, fun q => absurd q.1 (by decide)⟩
  | 3, hj => exact Or.inr ⟨by decide, by decide, hj, fun q => absurd q.1 (by decide)⟩
  | 4, hj => exact Or.inr ⟨by decide, by decide, hj, fun q => absurd q.1 (by decide)⟩
  | 5, hj => exact Or.inr ⟨by decide, by decide, hj, fun q => jb_c1_of hc w (Option.some.inj hj) q.2⟩
  | 6, hj => exact Or.inl ⟨rfl, (Option.some.inj (Option.some.inj hj)).symm⟩
  | 7, hj => cases hj
  | j + 8, hj => exact Or.inr ⟨by omega, by omega, hj, fun q => absurd q.1 (by omega)⟩
theorem jb_lt7 {v : Value} {x0 x1 x2 x3 x4 x5 x6 x7 x8 : Option Value} {tl : List (Option Value)} (hc : jb_c1 x6 = true) : jb_s2 7 v (x0 :: x1 :: x2 :: x3 :: x4 :: x5 :: x6 :: x7 :: x8 :: tl) (x0 :: x1 :: x2 :: x3 :: x4 :: x5 :: x6 :: some v :: none :: tl) := by
  intro j w hj
  match j, hj with
  | 0, hj => exact Or.inr ⟨by decide, by decide, hj, fun q => absurd q.1 (by decide)⟩
  | 1, hj => exact Or.inr ⟨by decide, by decide, hj, fun q => absurd q.1 (by decide)⟩
  | 2, hj => exact Or.inr ⟨by decide, by decide, hj, fun q => absurd q.1 (by decide)⟩
  | 3, hj => exact Or.inr ⟨by decide, by decide, hj, fun q => absurd q.1 (by decide)⟩
  | 4, hj => exact Or.inr ⟨by decide, by decide, hj, fun q => absurd q.1 (by decide)⟩
  | 5, hj => exact Or.inr ⟨by decide, by decide, hj, fun q => absurd q.1 (by decide)⟩
  | 6, hj => exact Or.inr ⟨by decide, by decide, hj, fun q => jb_c1_of hc w (Option.some.inj hj) q.2⟩
  | 7, hj => exact Or.inl ⟨rfl, (Option.some.inj (Option.some.inj hj)).symm⟩
  | 8, hj => cases hj
  | j + 9, hj => exact Or.inr ⟨by omega, by omega, hj, fun q => absurd q.1 (by omega)⟩
theorem jb_lt8 {v : Value} {x0 x1 x2 x3 x4 x5 x6 x7 x8 x9 : Option Value} {tl : List (Option Value)} (hc : jb_c1 x7 = true) : jb_s2 8 v (x0 :: x1 :: x2 :: x3 :: x4 :: x5 :: x6 :: x7 :: x8 :: x9 :: tl) (x0 :: x1 :: x2 :: x3 :: x4 :: x5 :: x6 :: x7 :: some v :: none :: tl) := by
  intro j w hj
  match j, hj with
  | 0, hj => exact Or.inr ⟨by decide, by decide, hj, fun q => absurd q.1 (by decide)⟩
  | 1, hj => exact Or.inr ⟨by decide, by decide, hj, fun q => absurd q.1 (by decide)⟩
  | 2, hj => exact Or.inr ⟨by decide, by decide, hj, fun q => absurd q.1 (by decide)⟩
  | 3, hj => exact Or.inr ⟨by decide, by decide, hj, fun q => absurd q.1 (by decide)⟩
  | 4, hj => exact Or.inr ⟨by decide, by decide, hj, fun q => absurd q.1 (by decide)⟩
  | 5, hj => exact Or.inr ⟨by decide, by decide, hj, fun q => absurd q.1 (by decide)⟩
  | 6, hj => exact Or.inr ⟨by decide, by decide, hj, fun q => absurd q.1 (by decide)⟩
  | 7, hj => exact Or.inr ⟨by decide, by decide, hj, fun q => jb_c1_of hc w (Option.some.inj hj) q.2⟩
  | 8, hj => exact Or.inl ⟨rfl, (Option.some.inj (Option.some.inj hj)).symm⟩
  | 9, hj => cases hj
  | j + 10, hj => exact Or.inr ⟨by omega, by omega, hj, fun q => absurd q.1 (by omega)⟩
theorem jb_lt9 {v : Value} {x0 x1 x2 x3 x4 x5 x6 x7 x8 x9 x10 : Option Value} {tl : List (Option Value)} (hc : jb_c1 x8 = true) : jb_s2 9 v (x0 :: x1 :: x2 :: x3 :: x4 :: x5 :: x6 :: x7 :: x8 :: x9 :: x10 :: tl) (x0 :: x1 :: x2 :: x3 :: x4 :: x5 :: x6 :: x7 :: x8 :: some v :: none :: tl) := by
  intro j w hj
  match j, hj with
  | 0, hj => exact Or.inr ⟨by decide, by decide, hj, fun q => absurd q.1 (by decide)⟩
  | 1, hj => exact Or.inr ⟨by decide, by decide, hj, fun q => absurd q.1 (by decide)⟩
  | 2, hj => exact Or.inr ⟨by decide, by decide, hj, fun q => absurd q.1 (by decide)⟩
  | 3, hj => exact Or.inr ⟨by decide, by decide, hj, fun q => absurd q.1 (by decide)⟩
  | 4, hj => exact Or.inr ⟨by decide, by decide, hj, fun q => absurd q.1 (by decide)⟩
  | 5, hj => exact Or.inr ⟨by decide, by decide, hj, fun q => absurd q.1 (by decide)⟩
  | 6, hj => exact Or.inr ⟨by decide, by decide, hj, fun q => absurd q.1 (by decide)⟩
  | 7, hj => exact Or.inr ⟨by decide, by decide, hj, fun q => absurd q.1 (by decide)⟩
  | 8, hj => exact Or.inr ⟨by decide, by decide, hj, fun q => jb_c1_of hc w (Option.some.inj hj) q.2⟩
  | 9, hj => exact Or.inl ⟨rfl, (Option.some.inj (Option.some.inj hj)).symm⟩
  | 10, hj => cases hj
  | j + 11, hj => exact Or.inr ⟨by omega, by omega, hj, fun q => absurd q.1 (by omega)⟩
theorem jb_lt10 {v : Value} {x0 x1 x2 x3 x4 x5 x6 x7 x8 x9 x10 x11 : Option Value} {tl : List (Option Value)} (hc : jb_c1 x9 = true) : jb_s2 10 v (x0 :: x1 :: x2 :: x3 :: x4 :: x5 :: x6 :: x7 :: x8 :: x9 :: x10 :: x11 :: tl) (x0 :: x1 :: x2 :: x3 :: x4 :: x5 :: x6 :: x7 :: x8 :: x9 :: some v :: none :: tl) := by
  intro j w hj
  match j, hj with
  | 0, hj => exact Or.inr ⟨by decide, by decide, hj, fun q => absurd q.1 (by decide)⟩
  | 1, hj => exact Or.inr ⟨by decide, by decide, hj, fun q => absurd q.1 (by decide)⟩
  | 2, hj => exact Or.inr ⟨by decide, by decide, hj, fun q => absurd q.1 (by decide)⟩
  | 3, hj => exact Or.inr ⟨by decide, by decide, hj, fun q => absurd q.1 (by decide)⟩
  | 4, hj => exact Or.inr ⟨by decide, by decide, hj, fun q => absurd q.1 (by decide)⟩
  | 5, hj => exact Or.inr ⟨by decide, by decide, hj, fun q => absurd q.1 (by decide)⟩
  | 6, hj => exact Or.inr ⟨by decide, by decide, hj, fun q => absurd q.1 (by decide)⟩
  | 7, hj => exact Or.inr ⟨by decide, by decide, hj, fun q => absurd q.1 (by decide)⟩
  | 8, hj => exact Or.inr ⟨by decide, by decide, hj, fun q => absurd q.1 (by decide)⟩
  | 9, hj => exact Or.inr ⟨by decide, by decide, hj, fun q => jb_c1_of hc w (Option.some.inj hj) q.2⟩
  | 10, hj => exact Or.inl ⟨rfl, (Option.some.inj (Option.some.inj hj)).symm⟩
  | 11, hj => cases hj
  | j + 12, hj => exact Or.inr ⟨by omega, by omega, hj, fun q => absurd q.1 (by omega)⟩
theorem jb_lt11 {v : Value} {x0 x1 x2 x3 x4 x5 x6 x7 x8 x9 x10 x11 x12 : Option Value} {tl : List (Option Value)} (hc : jb_c1 x10 = true) : jb_s2 11 v (x0 :: x1 :: x2 :: x3 :: x4 :: x5 :: x6 :: x7 :: x8 :: x9 :: x10 :: x11 :: x12 :: tl) (x0 :: x1 :: x2 :: x3 :: x4 :: x5 :: x6 :: x7 :: x8 :: x9 :: x10 :: some v :: none :: tl) := by
  intro j w hj
  match j, hj with
  | 0, hj => exact Or.inr ⟨by decide, by decide, hj, fun q => absurd q.1 (by decide)⟩
  | 1, hj => exact Or.inr ⟨by decide, by decide, hj, fun q => absurd q.1 (by decide)⟩
  | 2, hj => exact Or.inr ⟨by decide, by decide, hj, fun q => absurd q.1 (by decide)⟩
  | 3, hj => exact Or.inr ⟨by decide, by decide, hj, fun q => absurd q.1 (by decide)⟩
  | 4, hj => exact Or.inr ⟨by decide, by decide, hj, fun q => absurd q.1 (by decide)⟩
  | 5, hj => exact Or.inr ⟨by decide, by decide, hj, fun q => absurd q.1 (by decide)⟩
  | 6, hj => exact Or.inr ⟨by decide, by decide, hj, fun q => absurd q.1 (by decide)⟩
  | 7, hj => exact Or.inr ⟨by decide, by decide, hj, fun q => absurd q.1 (by decide)⟩
  | 8, hj => exact Or.inr ⟨by decide, by decide, hj, fun q => absurd q.1 (by decide)⟩
  | 9, hj => exact Or.inr ⟨by decide, by decide, hj, fun q => absurd q.1 (by decide)⟩
  | 10, hj => exact Or.inr ⟨by decide, by decide, hj, fun q => jb_c1_of hc w (Option.some.inj hj) q.2⟩
  | 11, hj => exact Or.inl ⟨rfl, (Option.some.inj (Option.some.inj hj)).symm⟩
  | 12, hj => cases hj
  | j + 13, hj => exact Or.inr ⟨by omega, by omega, hj, fun q => absurd q.1 (by omega)⟩
theorem jb_lt12 {v : Value} {x0 x1 x2 x3 x4 x5 x6 x7 x8 x9 x10 x11 x12 x13 : Option Value} {tl : List (Option Value)} (hc : jb_c1 x11 = true) : jb_s2 12 v (x0 :: x1 :: x2 :: x3 :: x4 :: x5 :: x6 :: x7 :: x8 :: x9 :: x10 :: x11 :: x12 :: x13 :: tl) (x0 :: x1 :: x2 :: x3 :: x4 :: x5 :: x6 :: x7 :: x8 :: x9 :: x10 :: x11 :: some v :: none :: tl) := by
  intro j w hj
  match j, hj with
  | 0, hj => exact Or.inr ⟨by decide, by decide, hj, fun q => absurd q.1 (by decide)⟩
  | 1, hj => exact Or.inr ⟨by decide, by decide, hj, fun q => absurd q.1 (by decide)⟩
  | 2, hj => exact Or.inr ⟨by decide, by decide, hj, fun q => absurd q.1 (by decide)⟩
  | 3, hj => exact Or.inr ⟨by decide, by decide, hj, fun q => absurd q.1 (by decide)⟩
  | 4, hj => exact Or.inr ⟨by decide, by decide, hj, fun q => absurd q.1 (by decide)⟩
  | 5, hj => exact Or.inr ⟨by decide, by decide, hj, fun q => absurd q.1 (by decide)⟩
  | 6, hj => exact Or.inr ⟨by decide, by decide, hj, fun q => absurd q.1 (by decide)⟩
  | 7, hj => exact Or.inr ⟨by decide, by decide, hj, fun q => absurd q.1 (by decide)⟩
  | 8, hj => exact Or.inr ⟨by decide, by decide, hj, fun q => absurd q.1 (by decide)⟩
  | 9, hj => exact Or.inr ⟨by decide, by decide, hj, fun q => absurd q.1 (by decide)⟩
  | 10, hj => exact Or.inr ⟨by decide, by decide, hj, fun q => absurd q.1 (by decide)⟩
  | 11, hj => exact Or.inr ⟨by decide, by decide, hj, fun q => jb_c1_of hc w (Option.some.inj hj) q.2⟩
  | 12, hj => exact Or.inl ⟨rfl, (Option.some.inj (Option.some.inj hj)).symm⟩
  | 13, hj => cases hj
  | j + 14, hj => exact Or.inr ⟨by omega, by omega, hj, fun q => absurd q.1 (by omega)⟩
theorem jb_lt13 {v : Value} {x0 x1 x2 x3 x4 x5 x6 x7 x8 x9 x10 x11 x12 x13 x14 : Option Value} {tl : List (Option Value)} (hc : jb_c1 x12 = true) : jb_s2 13 v (x0 :: x1 :: x2 :: x3 :: x4 :: x5 :: x6 :: x7 :: x8 :: x9 :: x10 :: x11 :: x12 :: x13 :: x14 :: tl) (x0 :: x1 :: x2 :: x3 :: x4 :: x5 :: x6 :: x7 :: x8 :: x9 :: x10 :: x11 :: x12 :: some v :: none :: tl) := by
  intro j w hj
  match j, hj with
  | 0, hj => exact Or.inr ⟨by decide, by decide, hj, fun q => absurd q.1 (by decide)⟩
  | 1, hj => exact Or.inr ⟨by decide, by decide, hj, fun q => absurd q.1 (by decide)⟩
  | 2, hj => exact Or.inr ⟨by decide, by decide, hj, fun q => absurd q.1 (by decide)⟩
  | 3, hj => exact Or.inr ⟨by decide, by decide, hj, fun q => absurd q.1 (by decide)⟩
  | 4, hj => exact Or.inr ⟨by decide, by decide, hj, fun q => absurd q.1 (by decide)⟩
  | 5, hj => exact Or.inr ⟨by decide, by decide, hj, fun q => absurd q.1 (by decide)⟩
  | 6, hj => exact Or.inr ⟨by decide, by decide, hj, fun q => absurd q.1 (by decide)⟩
  | 7, hj => exact Or.inr ⟨by decide, by decide, hj, fun q => absurd q.1 (by decide)⟩
  | 8, hj => exact Or.inr ⟨by decide, by decide, hj, fun q => absurd q.1 (by decide)⟩
  | 9, hj => exact Or.inr ⟨by decide, by decide, hj, fun q => absurd q.1 (by decide)⟩
  | 10, hj => exact Or.inr ⟨by decide, by decide, hj, fun q => absurd q.1 (by decide)⟩
  | 11, hj => exact Or.inr ⟨by decide, by decide, hj, fun q => absurd q.1 (by decide)⟩
  | 12, hj => exact Or.inr ⟨by decide, by decide, hj, fun q => jb_c1_of hc w (Option.some.inj hj) q.2⟩
  | 13, hj => exact Or.inl ⟨rfl, (Option.some.inj (Option.some.inj hj)).symm⟩
  | 14, hj => cases hj
  | j + 15, hj => exact Or.inr ⟨by omega, by omega, hj, fun q => absurd q.1 (by omega)⟩
theorem jb_icmp_eq {x y : Int32} {off : Int} {tgt : Nat} (hd : decode cc pc = .ok (.if_icmp .eq off, 3)) (ht : (pc : Int) + off = (tgt : Int)) (hp : pc + 3 = pc') (kt : x = y → jb_J sc own cc nL rt ini d a b tgt ls st h Q) (kf : ¬ x = y → jb_J sc own cc nL rt ini d a b pc' ls st h Q) : jb_J sc own cc nL rt ini d a b pc ls (.int y :: .int x :: st) h Q := by
  subst hp
  intro p l e R s m args below meth c base ρ tc D mc ms Qf H locs cells slots la X Z hrm hR hS hL
  exact lv_icmp_eq X.1 X.2.1 hd ht (fun q => kt q p l e R s m args below meth c base ρ tc D mc ms Qf H locs cells slots la X Z hrm hR hS hL) (fun q => kf q p l e R s m args below meth c base ρ tc D mc ms Qf H locs cells slots la X Z hrm hR hS hL)
theorem jb_if_eq {x : Int32} {off : Int} {tgt : Nat} (hd : decode cc pc = .ok (.ifCond .eq off, 3)) (ht : (pc : Int) + off = (tgt : Int)) (hp : pc + 3 = pc') (kt : x = 0 → jb_J sc own cc nL rt ini d a b tgt ls st h Q) (kf : ¬ x = 0 → jb_J sc own cc nL rt ini d a b pc' ls st h Q) : jb_J sc own cc nL rt ini d a b pc ls (.int x :: st) h Q := by
  subst hp
  intro p l e R s m args below meth c base ρ tc D mc ms Qf H locs cells slots la X Z hrm hR hS hL
  exact lv_if_eq X.1 X.2.1 hd ht (fun q => kt q p l e R s m args below meth c base ρ tc D mc ms Qf H locs cells slots la X Z hrm hR hS hL) (fun q => kf q p l e R s m args below meth c base ρ tc D mc ms Qf H locs cells slots la X Z hrm hR hS hL)
theorem jb_icmp_ne {x y : Int32} {off : Int} {tgt : Nat} (hd : decode cc pc = .ok (.if_icmp .ne off, 3)) (ht : (pc : Int) + off = (tgt : Int)) (hp : pc + 3 = pc') (kt : ¬ x = y → jb_J sc own cc nL rt ini d a b tgt ls st h Q) (kf : x = y → jb_J sc own cc nL rt ini d a b pc' ls st h Q) : jb_J sc own cc nL rt ini d a b pc ls (.int y :: .int x :: st) h Q := by
  subst hp
  intro p l e R s m args below meth c base ρ tc D mc ms Qf H locs cells slots la X Z hrm hR hS hL
  exact lv_icmp_ne X.1 X.2.1 hd ht (fun q => kt q p l e R s m args below meth c base ρ tc D mc ms Qf H locs cells slots la X Z hrm hR hS hL) (fun q => kf q p l e R s m args below meth c base ρ tc D mc ms Qf H locs cells slots la X Z hrm hR hS hL)
theorem jb_if_ne {x : Int32} {off : Int} {tgt : Nat} (hd : decode cc pc = .ok (.ifCond .ne off, 3)) (ht : (pc : Int) + off = (tgt : Int)) (hp : pc + 3 = pc') (kt : ¬ x = 0 → jb_J sc own cc nL rt ini d a b tgt ls st h Q) (kf : x = 0 → jb_J sc own cc nL rt ini d a b pc' ls st h Q) : jb_J sc own cc nL rt ini d a b pc ls (.int x :: st) h Q := by
  subst hp
  intro p l e R s m args below meth c base ρ tc D mc ms Qf H locs cells slots la X Z hrm hR hS hL
  exact lv_if_ne X.1 X.2.1 hd ht (fun q => kt q p l e R s m args below meth c base ρ tc D mc ms Qf H locs cells slots la X Z hrm hR hS hL) (fun q => kf q p l e R s m args below meth c base ρ tc D mc ms Qf H locs cells slots la X Z hrm hR hS hL)
theorem jb_icmp_lt {x y : Int32} {off : Int} {tgt : Nat} (hd : decode cc pc = .ok (.if_icmp .lt off, 3)) (ht : (pc : Int) + off = (tgt : Int)) (hp : pc + 3 = pc') (kt : x < y → jb_J sc own cc nL rt ini d a b tgt ls st h Q) (kf : ¬ x < y → jb_J sc own cc nL rt ini d a b pc' ls st h Q) : jb_J sc own cc nL rt ini d a b pc ls (.int y :: .int x :: st) h Q := by
  subst hp
  intro p l e R s m args below meth c base ρ tc D mc ms Qf H locs cells slots la X Z hrm hR hS hL
  exact lv_icmp_lt X.1 X.2.1 hd ht (fun q => kt q p l e R s m args below meth c base ρ tc D mc ms Qf H locs cells slots la X Z hrm hR hS hL) (fun q => kf q p l e R s m args below meth c base ρ tc D mc ms Qf H locs cells slots la X Z hrm hR hS hL)
theorem jb_if_lt {x : Int32} {off : Int} {tgt : Nat} (hd : decode cc pc = .ok (.ifCond .lt off, 3)) (ht : (pc : Int) + off = (tgt : Int)) (hp : pc + 3 = pc') (kt : x < 0 → jb_J sc own cc nL rt ini d a b tgt ls st h Q) (kf : ¬ x < 0 → jb_J sc own cc nL rt ini d a b pc' ls st h Q) : jb_J sc own cc nL rt ini d a b pc ls (.int x :: st) h Q := by
  subst hp
  intro p l e R s m args below meth c base ρ tc D mc ms Qf H locs cells slots la X Z hrm hR hS hL
  exact lv_if_lt X.1 X.2.1 hd ht (fun q => kt q p l e R s m args below meth c base ρ tc D mc ms Qf H locs cells slots la X Z hrm hR hS hL) (fun q => kf q p l e R s m args below meth c base ρ tc D mc ms Qf H locs cells slots la X Z hrm hR hS hL)
theorem jb_icmp_ge {x y : Int32} {off : Int} {tgt : Nat} (hd : decode cc pc = .ok (.if_icmp .ge off, 3)) (ht : (pc : Int) + off = (tgt : Int)) (hp : pc + 3 = pc') (kt : y ≤ x → jb_J sc own cc nL rt ini d a b tgt ls st h Q) (kf : ¬ y ≤ x → jb_J sc own cc nL rt ini d a b pc' ls st h Q) : jb_J sc own cc nL rt ini d a b pc ls (.int y :: .int x :: st) h Q := by
  subst hp
  intro p l e R s m args below meth c base ρ tc D mc ms Qf H locs cells slots la X Z hrm hR hS hL
  exact lv_icmp_ge X.1 X.2.1 hd ht (fun q => kt q p l e R s m args below meth c base ρ tc D mc ms Qf H locs cells slots la X Z hrm hR hS hL) (fun q => kf q p l e R s m args below meth c base ρ tc D mc ms Qf H locs cells slots la X Z hrm hR hS hL)
theorem jb_if_ge {x : Int32} {off : Int} {tgt : Nat} (hd : decode cc pc = .ok (.ifCond .ge off, 3)) (ht : (pc : Int) + off = (tgt : Int)) (hp : pc + 3 = pc') (kt : 0 ≤ x → jb_J sc own cc nL rt ini d a b tgt ls st h Q) (kf : ¬ 0 ≤ x → jb_J sc own cc nL rt ini d a b pc' ls st h Q) : jb_J sc own cc nL rt ini d a b pc ls (.int x :: st) h Q := by
  subst hp
  intro p l e R s m args below meth c base ρ tc D mc ms Qf H locs cells slots la X Z hrm hR hS hL
  exact lv_if_ge X.1 X.2.1 hd ht (fun q => kt q p l e R s m args below meth c base ρ tc D mc ms Qf H locs cells slots la X Z hrm hR hS hL) (fun q => kf q p l e R s m args below meth c base ρ tc D mc ms Qf H locs cells slots la X Z hrm hR hS hL)
theorem jb_icmp_gt {x y : Int32} {off : Int} {tgt : Nat} (hd : decode cc pc = .ok (.if_icmp .gt off, 3)) (ht : (pc : Int) + off = (tgt : Int)) (hp : pc + 3 = pc') (kt : y < x → jb_J sc own cc nL rt ini d a b tgt ls st h Q) (kf : ¬ y < x → jb_J sc own cc nL rt ini d a b pc' ls st h Q) : jb_J sc own cc nL rt ini d a b pc ls (.int y :: .int x :: st) h Q := by
  subst hp
  intro p l e R s m args below meth c base ρ tc D mc ms Qf H locs cells slots la X Z hrm hR hS hL
  exact lv_icmp_gt X.1 X.2.1 hd ht (fun q => kt q p l e R s m args below meth c base ρ tc D mc ms Qf H locs cells slots la X Z hrm hR hS hL) (fun q => kf q p l e R s m args below meth c base ρ tc D mc ms Qf H locs cells slots la X Z hrm hR hS hL)
theorem jb_if_gt {x : Int32} {off : Int} {tgt : Nat} (hd : decode cc pc = .ok (.ifCond .gt off, 3)) (ht : (pc : Int) + off = (tgt : Int)) (hp : pc + 3 = pc') (kt : 0 < x → jb_J sc own cc nL rt ini d a b tgt ls st h Q) (kf : ¬ 0 < x → jb_J sc own cc nL rt ini d a b pc' ls st h Q) : jb_J sc own cc nL rt ini d a b pc ls (.int x :: st) h Q := by
  subst hp
  intro p l e R s m args below meth c base ρ tc D mc ms Qf H locs cells slots la X Z hrm hR hS hL
  exact lv_if_gt X.1 X.2.1 hd ht (fun q => kt q p l e R s m args below meth c base ρ tc D mc ms Qf H locs cells slots la X Z hrm hR hS hL) (fun q => kf q p l e R s m args below meth c base ρ tc D mc ms Qf H locs cells slots la X Z hrm hR hS hL)
theorem jb_icmp_le {x y : Int32} {off : Int} {tgt : Nat} (hd : decode cc pc = .ok (.if_icmp .le off, 3)) (ht : (pc : Int) + off = (tgt : Int)) (hp : pc + 3 = pc') (kt : x ≤ y → jb_J sc own cc nL rt ini d a b tgt ls st h Q) (kf : ¬ x ≤ y → jb_J sc own cc nL rt ini d a b pc' ls st h Q) : jb_J sc own cc nL rt ini d a b pc ls (.int y :: .int x :: st) h Q := by
  subst hp
  intro p l e R s m args below meth c base ρ tc D mc ms Qf H locs cells slots la X Z hrm hR hS hL
  exact lv_icmp_le X.1 X.2.1 hd ht (fun q => kt q p l e R s m args below meth c base ρ tc D mc ms Qf H locs cells slots la X Z hrm hR hS hL) (fun q => kf q p l e R s m args below meth c base ρ tc D mc ms Qf H locs cells slots la X Z hrm hR hS hL)
theorem jb_if_le {x : Int32} {off : Int} {tgt : Nat} (hd : decode cc pc = .ok (.ifCond .le off, 3)) (ht : (pc : Int) + off = (tgt : Int)) (hp : pc + 3 = pc') (kt : x ≤ 0 → jb_J sc own cc nL rt ini d a b tgt ls st h Q) (kf : ¬ x ≤ 0 → jb_J sc own cc nL rt ini d a b pc' ls st h Q) : jb_J sc own cc nL rt ini d a b pc ls (.int x :: st) h Q := by
  subst hp
  intro p l e R s m args below meth c base ρ tc D mc ms Qf H locs cells slots la X Z hrm hR hS hL
  exact lv_if_le X.1 X.2.1 hd ht (fun q => kt q p l e R s m args below meth c base ρ tc D mc ms Qf H locs cells slots la X Z hrm hR hS hL) (fun q => kf q p l e R s m args below meth c base ρ tc D mc ms Qf H locs cells slots la X Z hrm hR hS hL)
theorem jb_goto {off : Int} (hd : decode cc pc = .ok (.goto off, 3)) (ht : (pc : Int) + off = (pc' : Int)) (kk : jb_J sc own cc nL rt ini d a b pc' ls st h Q) : jb_J sc own cc nL rt ini d a b pc ls (st) h Q :=
  jb_step (fun p l e R s m args below meth c base ρ tc D Qf H locs cells slots la X hrm hR hS hL k => lv_goto X.1 X.2.1 hd ht (k _ hL)) kk
theorem jb_nonnull {x : Nat} {off : Int} (hd : decode cc pc = .ok (.ifnonnull off, 3)) (ht : (pc : Int) + off = (pc' : Int)) (kk : jb_J sc own cc nL rt ini d a b pc' ls st h Q) : jb_J sc own cc nL rt ini d a b pc ls (.ref x :: st) h Q :=
  jb_step (fun p l e R s m args below meth c base ρ tc D Qf H locs cells slots la X hrm hR hS hL k => lv_ifnonnull X.1 X.2.1 hd ht (k _ hL)) kk
theorem jb_null_t {off : Int} (hd : decode cc pc = .ok (.ifnull off, 3)) (ht : (pc : Int) + off = (pc' : Int)) (kk : jb_J sc own cc nL rt ini d a b pc' ls st h Q) : jb_J sc own cc nL rt ini d a b pc ls (.null :: st) h Q :=
  jb_step (fun p l e R s m args below meth c base ρ tc D Qf H locs cells slots la X hrm hR hS hL k => lv_ifnullN X.1 X.2.1 hd ht (k _ hL)) kk
theorem jb_tableOut {dflt lo hi : Int} {offs : Array Int} {len : Nat} {x : Int32} (hd : decode cc pc = .ok (.tableswitch dflt lo hi offs, len)) (hx : x.toInt < lo ∨ hi < x.toInt) (ht : (pc : Int) + dflt = (pc' : Int)) (kk : jb_J sc own cc nL rt ini d a b pc' ls st h Q) : jb_J sc own cc nL rt ini d a b pc ls (.int x :: st) h Q :=
  jb_step (fun p l e R s m args below meth c base ρ tc D Qf H locs cells slots la X hrm hR hS hL k => lv_tableOut X.1 X.2.1 hd hx ht (k _ hL)) kk
theorem jb_tableIn {dflt lo hi : Int} {offs : Array Int} {len : Nat} {x : Int32} {off : Int} (hd : decode cc pc = .ok (.tableswitch dflt lo hi offs, len)) (h1 : ¬ x.toInt < lo) (h2 : ¬ hi < x.toInt) (ho : offs[(x.toInt - lo).toNat]? = some off) (ht : (pc : Int) + off = (pc' : Int)) (kk : jb_J sc own cc nL rt ini d a b pc' ls st h Q) : jb_J sc own cc nL rt ini d a b pc ls (.int x :: st) h Q :=
  jb_step (fun p l e R s m args below meth c base ρ tc D Qf H locs cells slots la X hrm hR hS hL k => lv_tableIn X.1 X.2.1 hd h1 h2 ho ht (k _ hL)) kk
theorem jb_lookup {dflt : Int} {ps : Array (Int × Int)} {len : Nat} {x : Int32} {off : Int} (hd : decode cc pc = .ok (.lookupswitch dflt ps, len)) (hq : (ps.toList.zip (ps.toList.drop 1)).all (fun (a, next) => a.1 < next.1) = true) (ho : Op.lookupswitch.offset ps.toList dflt x.toInt = off) (ht : (pc : Int) + off = (pc' : Int)) (kk : jb_J sc own cc nL rt ini d a b pc' ls st h Q) : jb_J sc own cc nL rt ini d a b pc ls (.int x :: st) h Q :=
  jb_step (fun p l e R s m args below meth c base ρ tc D Qf H locs cells slots la X hrm hR hS hL k => lv_lookup X.1 X.2.1 hd hq ho ht (k _ hL)) kk
theorem jb_nonnull_f {off : Int} (hd : decode cc pc = .ok (.ifnonnull off, 3))  (hp : pc + 3 = pc') (kk : jb_J sc own cc nL rt ini d a b pc' ls (st) h Q) : jb_J sc own cc nL rt ini d a b pc ls (.null :: st) h Q := by
  subst hp
  exact jb_step (fun p l e R s m args below meth c base ρ tc D Qf H locs cells slots la X hrm hR hS hL k => lv_ifnonnullN X.1 X.2.1 hd  (k _ hL)) kk
theorem jb_null_f {x : Nat} {off : Int} (hd : decode cc pc = .ok (.ifnull off, 3))  (hp : pc + 3 = pc') (kk : jb_J sc own cc nL rt ini d a b pc' ls (st) h Q) : jb_J sc own cc nL rt ini d a b pc ls (.ref x :: st) h Q := by
  subst hp
  exact jb_step (fun p l e R s m args below meth c base ρ tc D Qf H locs cells slots la X hrm hR hS hL k => lv_ifnull X.1 X.2.1 hd  (k _ hL)) kk
theorem jb_ldc {i : Nat} (v : Int32) (hd : decode cc pc = .ok (.ldc i, 2)) (hw : Cond.constant own i v ∈ jb_T) (hp : pc + 2 = pc') (kk : jb_J sc own cc nL rt ini d a b pc' ls (.int v :: st) h Q) : jb_J sc own cc nL rt ini d a b pc ls st h Q := by
  subst hp
  exact jb_step (fun p l e R s m args below meth c base ρ tc D Qf H locs cells slots la X hrm hR hS hL k => lv_ldc X.1 X.2.1 X.2.2.2.1 (X.2.2.2.2.1.2.1.use hw) hd (k _ hL)) kk
theorem jb_ldcw {i : Nat} (v : Int32) (hd : decode cc pc = .ok (.ldc_w i, 3)) (hw : Cond.constant own i v ∈ jb_T) (hp : pc + 3 = pc') (kk : jb_J sc own cc nL rt ini d a b pc' ls (.int v :: st) h Q) : jb_J sc own cc nL rt ini d a b pc ls st h Q := by
  subst hp
  exact jb_step (fun p l e R s m args below meth c base ρ tc D Qf H locs cells slots la X hrm hR hS hL k => lv_ldcw X.1 X.2.1 X.2.2.2.1 (X.2.2.2.2.1.2.1.use hw) hd (k _ hL)) kk
theorem jb_ldc2 {i : Nat} (v : Int64) (hd : decode cc pc = .ok (.ldc2_w i, 3)) (hw : Cond.constantLong own i v ∈ jb_T) (hp : pc + 3 = pc') (kk : jb_J sc own cc nL rt ini d a b pc' ls (.long v :: st) h Q) : jb_J sc own cc nL rt ini d a b pc ls st h Q := by
  subst hp
  exact jb_step (fun p l e R s m args below meth c base ρ tc D Qf H locs cells slots la X hrm hR hS hL k => lv_ldc2 X.1 X.2.1 X.2.2.2.1 (X.2.2.2.2.1.2.1.use hw) hd (k _ hL)) kk
theorem jb_ret_ (r : Option Value) (hq : Q r h) (hr : jb_rd cc pc rt r) (hs : st = r.toList) : jb_J sc own cc nL rt ini d a b pc ls st h Q := by
  subst hs
  intro p l e R s m args below meth c base ρ tc D mc ms Qf H locs cells slots la X Z hrm hR hS hL
  have := Z H locs cells slots la pc r h hq hR hS (by omega) (by omega) hr
  cases r <;> exact this
theorem jb_iret {v : Int32} {ty : FieldType} (hd : decode cc pc = .ok (.ireturn, 1)) (hn : narrow ty (.int v) = .int v) (hq : Q (some (.int v)) h) : jb_J sc own cc nL (some ty) ini d a b pc ls [.int v] h Q := jb_ret_ (some (.int v)) hq ⟨⟨ty, rfl, hn⟩, hd⟩ rfl
theorem jb_lret {v : Int64} (hd : decode cc pc = .ok (.lreturn, 1)) (hq : Q (some (.long v)) h) : jb_J sc own cc nL (some .long) ini d a b pc ls [.long v] h Q := jb_ret_ (some (.long v)) hq ⟨rfl, hd⟩ rfl
theorem jb_aret {v : Nat} {ty : FieldType} (hd : decode cc pc = .ok (.areturn, 1)) (ht : (∃ n, ty = .object n) ∨ ∃ t, ty = .array t) (hq : Q (some (.ref v)) h) : jb_J sc own cc nL (some ty) ini d a b pc ls [.ref v] h Q := jb_ret_ (some (.ref v)) hq ⟨⟨ty, rfl, ht⟩, hd⟩ rfl
theorem jb_aret0 {ty : FieldType} (hd : decode cc pc = .ok (.areturn, 1)) (ht : (∃ n, ty = .object n) ∨ ∃ t, ty = .array t) (hq : Q (some .null) h) : jb_J sc own cc nL (some ty) ini d a b pc ls [.null] h Q := jb_ret_ (some .null) hq ⟨⟨ty, rfl, ht⟩, hd⟩ rfl
theorem jb_vret (hd : decode cc pc = .ok (.return_, 1)) (hq : Q none h) : jb_J sc own cc nL none ini d a b pc ls [] h Q := jb_ret_ none hq ⟨rfl, hd⟩ rfl
end JI
