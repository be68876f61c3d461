/-! ===== the pure judgement: a method walked over an abstract heap of numbered cells (numbers are places from the law's start on) ===== -/
/-- words of the tables that stay as they are while a program runs -/
def jb_wd : Cond → Bool
  | .fieldLinkNest .. => true
  | .methodLinkNest .. => true
  | .castable .. => true
  | .declares _ => true
  | w => w.onTables && w.keeps
def jb_T : List Cond := lw_tbl.filter jb_wd
def jb_N (U : State) : Prop := ∀ w ∈ jb_T, va_Nw w U
theorem jb_on {w : Cond} (h : jb_wd w = true) : w.onTables = true := by
  cases w <;> first | rfl | (simp only [jb_wd, Bool.and_eq_true] at h; exact h.1)
theorem jb_N.warm {s U : State} (hW : s.WarmedH U.vm) (h : jb_N s) : jb_N U := by
  intro w hw
  have h1 := h w hw
  have hg := (List.mem_filter.mp hw).2
  cases w <;> first | exact va_Nw.warmF hW h1 | exact va_Nw.warmM hW h1 | exact va_Nw.warmC hW h1 | exact va_Nw.warmD hW h1 | exact word_at hW (Or.inl hg) h1
theorem jb_N.same {s U : State} (hv : s.vm = U.vm) (h : jb_N s) : jb_N U := fun w hw => va_Nw.same (jb_on (List.mem_filter.mp hw).2) hv (h w hw)
theorem jb_N.use {s : State} {A : Array Value} (h : jb_N s) {w : Cond} (hw : w ∈ jb_T) : w.before A s = true := va_Nw.use (jb_on (List.mem_filter.mp hw).2) (h w hw)
theorem jb_m {w : Cond} (i : Nat) (h : lw_tbl[i]? = some w) (hg : jb_wd w = true) : w ∈ jb_T := List.mem_filter.mpr ⟨List.mem_of_getElem? h, hg⟩
/-- where the cell of a number lies: our own from 'base' on, the given ones (numbers from a million on) where ρ says -/
def jb_sg (base : Nat) (ρ : Nat → Nat) (k : Nat) : Nat := if k < 1000000 then base + k else ρ (k - 1000000)
def jb_cv (σ : Nat → Nat) : Value → Value
  | .ref k => .ref (σ k)
  | .int x => .int x
  | .long x => .long x
  | .float x => .float x
  | .double x => .double x
  | .null => .null
  | .retAddr x => .retAddr x
def jb_ce (σ : Nat → Nat) (tc : Nat → ClassId) : va_E → va_E
  | .inl (k, n, .inr (.inr (.inr (.inr f)))) => .inl (tc k, n, .inr (.inr (.inr (.inr (fun j => (f j).map σ)))))
  | .inl (k, n, .inl f) => .inl (tc k, n, .inl f)
  | .inl (k, n, .inr (.inl f)) => .inl (tc k, n, .inr (.inl f))
  | .inl (k, n, .inr (.inr (.inl f))) => .inl (tc k, n, .inr (.inr (.inl f)))
  | .inl (k, n, .inr (.inr (.inr (.inl f)))) => .inl (tc k, n, .inr (.inr (.inr (.inl f))))
  | .inr (c, fs) => .inr (c, fs.map (jb_cv σ))
abbrev jb_H : Type := List (List va_E)
/-- which part, and which place in it, a number is -/
def jb_seg (k : Nat) : Nat × Nat :=
  if k < 13 then (0, k) else if k < 33 then (1, k - 13) else if k < 53 then (2, k - 33) else if k < 73 then (3, k - 53) else if k < 74 then (4, k - 73)
  else if k < 81 then (5, k - 74) else if k < 88 then (6, k - 81) else if k < 95 then (7, k - 88) else if k < 102 then (8, k - 95) else if k < 105 then (9, k - 102)
  else if k < 121 then (10, k - 105) else (11, k - 121)
def jb_look (h : jb_H) (k : Nat) : Option va_E := match h[(jb_seg k).1]? with
  | some l => l[(jb_seg k).2]?
  | none => none
def jb_put (h : jb_H) (k : Nat) (e : va_E) : jb_H := match h[(jb_seg k).1]? with
  | some l => h.set (jb_seg k).1 (l.set (jb_seg k).2 e)
  | none => h
def jb_add (h : jb_H) (k : Nat) (e : va_E) : jb_H := match h[(jb_seg k).1]? with
  | some l => h.set (jb_seg k).1 (l ++ [e])
  | none => h
def jb_un (q : Nat × Nat) : Nat := ([0, 13, 33, 53, 73, 74, 81, 88, 95, 102, 105, 121] : List Nat).getD q.1 0 + q.2
theorem jb_un_seg (k : Nat) : jb_un (jb_seg k) = k := by
  unfold jb_seg
  repeat' split
  all_goals (show _ + _ = k; simp only [List.getD_cons_zero, List.getD_cons_succ]; omega)
theorem jb_seg_inj {j k : Nat} (h : jb_seg j = jb_seg k) : j = k := by rw [← jb_un_seg j, ← jb_un_seg k, h]
theorem jb_look_put {h : jb_H} {k : Nat} {e0 e : va_E} (h0 : jb_look h k = some e0) (j : Nat) : jb_look (jb_put h k e) j = if j = k then some e else jb_look h j := by
  unfold jb_look at h0
  split at h0
  · rename_i l hl
    have hk : (jb_seg k).1 < h.length := (List.getElem?_eq_some_iff.mp hl).1
    have ho : (jb_seg k).2 < l.length := (List.getElem?_eq_some_iff.mp h0).1
    unfold jb_put
    rw [hl]
    unfold jb_look
    by_cases hjk : j = k
    · subst hjk
      rw [if_pos rfl]
      show (match (h.set (jb_seg j).1 (l.set (jb_seg j).2 e))[(jb_seg j).1]? with | some l => l[(jb_seg j).2]? | none => none) = _
      rw [List.getElem?_set_self hk]
      show (l.set (jb_seg j).2 e)[(jb_seg j).2]? = _
      rw [List.getElem?_set_self ho]
    · rw [if_neg hjk]
      show (match (h.set (jb_seg k).1 (l.set (jb_seg k).2 e))[(jb_seg j).1]? with | some l => l[(jb_seg j).2]? | none => none) = _
      by_cases h1 : (jb_seg k).1 = (jb_seg j).1
      · have h2 : (jb_seg k).2 ≠ (jb_seg j).2 := fun q => hjk (jb_seg_inj (Prod.ext h1.symm q.symm))
        rw [← h1, List.getElem?_set_self hk, hl]
        show (l.set (jb_seg k).2 e)[(jb_seg j).2]? = l[(jb_seg j).2]?
        rw [List.getElem?_set_ne h2]
      · rw [List.getElem?_set_ne h1]
  · cases h0
theorem jb_look_add {h : jb_H} {k : Nat} {l : List va_E} {e : va_E} (hl : h[(jb_seg k).1]? = some l) (hk : l.length = (jb_seg k).2) (j : Nat) : jb_look (jb_add h k e) j = if j = k then some e else jb_look h j := by
  have hk1 : (jb_seg k).1 < h.length := (List.getElem?_eq_some_iff.mp hl).1
  unfold jb_add
  rw [hl]
  unfold jb_look
  by_cases hjk : j = k
  · subst hjk
    rw [if_pos rfl]
    show (match (h.set (jb_seg j).1 (l ++ [e]))[(jb_seg j).1]? with | some l => l[(jb_seg j).2]? | none => none) = _
    rw [List.getElem?_set_self hk1]
    show (l ++ [e])[(jb_seg j).2]? = _
    rw [← hk]; simp
  · rw [if_neg hjk]
    show (match (h.set (jb_seg k).1 (l ++ [e]))[(jb_seg j).1]? with | some l => l[(jb_seg j).2]? | none => none) = _
    by_cases h1 : (jb_seg k).1 = (jb_seg j).1
    · have h2 : (jb_seg k).2 ≠ (jb_seg j).2 := fun q => hjk (jb_seg_inj (Prod.ext h1.symm q.symm))
      rw [← h1, List.getElem?_set_self hk1, hl]
      show (l ++ [e])[(jb_seg j).2]? = l[(jb_seg j).2]?
      rcases Nat.lt_or_ge (jb_seg j).2 l.length with q | q
      · rw [List.getElem?_append_left q]
      · rw [List.getElem?_append_right q, List.getElem?_eq_none (by simp; omega), List.getElem?_eq_none q]
    · rw [List.getElem?_set_ne h1]
/-- the abstract heap, as it lies in the machine's -/
def jb_R (base : Nat) (σ : Nat → Nat) (tc : Nat → ClassId) (D : va_G) (h : jb_H) (H : Heap) : Prop :=
  ∃ n : Nat, n ≤ 900000 ∧ H.size = base + n ∧ (∀ k, jb_look h k = none ↔ n ≤ k) ∧ ∀ (k : Nat) (e : va_E), jb_look h k = some e → va_at D vwCl (base + k, jb_ce σ tc e) H
/-- the array classes: 0 int[], 1 byte[], 2 int[][], 3 Pupil[], 4 Sheet[] -/
def jb_ty (tc : Nat → ClassId) : List (ClassId × FieldType) := [(tc 0, .int), (tc 1, .byte), (tc 2, .array .int), (tc 3, .object "DeafBell$Pupil"), (tc 4, .object "DeafBell$Sheet")]
def jb_kab : Nat → Value := fun j => .int (([-1, 0, 0, 0, 1, 2, 3] : List Int32).getD j 0)
/-- what lies below 'base' and is read alone: the script (0), KIND_ABOVE (1), the texts (2, 3) and their bytes (4, 5) -/
def jb_Ro (base : Nat) (ρ : Nat → Nat) (sc : Nat × (Nat → Int32)) (U : State) : Prop :=
  base ≤ U.heap.size ∧ ρ 0 < base ∧ va_X (ρ 0) sc.1 sc.2 U U.heap ∧
  va_Z "DeafBell" "KIND_ABOVE" "[I" (.ref (ρ 1)) (fun q => base ≤ q) U U.heap ∧ va_T .int (ρ 1) 7 jb_kab (fun q => base ≤ q) U U.heap ∧
  vk_R "DeafBell$Reader" 35 "wfik" (ρ 2) U ∧ vk_R "DeafBell" 136 "wfik" (ρ 2) U ∧ vk_R "DeafBell" 138 "wmc" (ρ 3) U ∧
  vk_S 2 [4, 3] [[119, 102, 105, 107], [119, 109, 99]] (fun i => ρ (2 + i)) (fun i => ρ (4 + i)) (fun q => base ≤ q) U U.heap ∧
  va_Z "java/lang/String" "COMPACT_STRINGS" "Z" (.int 1) (fun q => base ≤ q) U U.heap
theorem jb_Ro.moved {base : Nat} {ρ : Nat → Nat} {sc : Nat × (Nat → Int32)} {s U : State} (h : jb_Ro base ρ sc s) (hW : s.WarmedH U.vm) (hs : base ≤ U.heap.size) (hq : ∀ q, q < base → U.heap[q]? = s.heap[q]?) : jb_Ro base ρ sc U := by
  obtain ⟨h0, h1, h2, h3, h4, h5, h6, h7, h8, h9⟩ := h
  have hk : ∀ a : Nat, a < s.heap.size → ¬ base ≤ a → U.heap[a]? = s.heap[a]? := fun a _ h => hq a (by omega)
  exact ⟨hs, h1, (h2.kept (hq _ h1)).moved hW.alike, (h3.kept hk).moved hW.alike, (h4.kept hk).moved hW.alike, h5.warm hW, h6.warm hW, h7.warm hW, (h8.kept hk).moved hW.alike, (h9.kept hk).moved hW.alike⟩
theorem jb_Ro.same {base : Nat} {ρ : Nat → Nat} {sc : Nat × (Nat → Int32)} {s U : State} (h : jb_Ro base ρ sc s) (hv : U.vm = s.vm) (hh : U.heap = s.heap) : jb_Ro base ρ sc U := by
  obtain ⟨h0, h1, h2, h3, h4, h5, h6, h7, h8, h9⟩ := h
  have ha : s.vm.Alike U.vm := by rw [hv]; exact Vm.Alike.refl _
  refine ⟨by rw [hh]; exact h0, h1, ?_, ?_, ?_, h5.same hv, h6.same hv, h7.same hv, ?_, ?_⟩
  · rw [hh]; exact h2.moved ha
  · rw [hh]; exact h3.moved ha
  · rw [hh]; exact h4.moved ha
  · rw [hh]; exact h8.moved ha
  · rw [hh]; exact h9.moved ha
/-- what holds of every state of a run, whatever the heap of our own cells is -/
def jb_G (base : Nat) (ρ : Nat → Nat) (tc : Nat → ClassId) (D : va_G) (sc : Nat × (Nat → Int32)) (U : State) : Prop :=
  va_K D vwCl (jb_ty tc) U ∧ jb_N U ∧ jb_Ro base ρ sc U ∧ (Cond.arrayClass .int).before #[] U = true ∧ va_AO "DeafBell$Pupil" U ∧ va_AO "DeafBell$Sheet" U ∧ (Cond.arrayOver (.array .int)).before #[] U = true
theorem jb_G.moved {base : Nat} {ρ : Nat → Nat} {tc : Nat → ClassId} {D : va_G} {sc : Nat × (Nat → Int32)} {s U : State} (h : jb_G base ρ tc D sc s) (hW : s.WarmedH U.vm) (hs : base ≤ U.heap.size) (hq : ∀ q, q < base → U.heap[q]? = s.heap[q]?) : jb_G base ρ tc D sc U := by
  obtain ⟨h1, h2, h3, h4, h5, h6, h7⟩ := h
  exact ⟨h1.moved hW.alike, h2.warm hW, h3.moved hW hs hq, word_at hW (Or.inr ⟨_, rfl⟩) h4, h5.moved hW.alike, h6.moved hW.alike, Jvm.Stand.arrayOver_alikeB hW.alike h7⟩
theorem jb_G.same {base : Nat} {ρ : Nat → Nat} {tc : Nat → ClassId} {D : va_G} {sc : Nat × (Nat → Int32)} {s U : State} (h : jb_G base ρ tc D sc s) (hv : U.vm = s.vm) (hh : U.heap = s.heap) : jb_G base ρ tc D sc U := by
  have hW : s.WarmedH U.vm := by rw [hv]; exact State.WarmedH.refl s
  exact h.moved hW (by rw [hh]; exact h.2.2.1.1) (fun q _ => by rw [hh])
