/-! ===== a lesson's questions: which can be placed so that all is answered by 'last' ===== -/
def jl_c (g a ta b tb : Nat) : Prop := ¬ a = b ∧ ¬ a = b + g + tb ∧ ¬ a + g + ta = b ∧ ¬ a + g + ta = b + g + tb
theorem jl_c.sy {g a ta b tb : Nat} (h : jl_c g a ta b tb) : jl_c g b tb a ta := ⟨fun e => h.1 e.symm, fun e => h.2.2.1 e.symm, fun e => h.2.1 e.symm, fun e => h.2.2.2 e.symm⟩
def jl_P (g last : Nat) (l : List Nat) : Prop := ∃ ps : List (Nat × Nat), ps.map Prod.snd = l ∧ ps.Pairwise (fun x y => jl_c g x.1 x.2 y.1 y.2) ∧ ∀ x ∈ ps, x.1 + g + x.2 ≤ last
theorem jl_map_perm {α β : Type} {f : α → β} : ∀ {l l' : List β}, l.Perm l' → ∀ ps : List α, ps.map f = l → ∃ ps', ps.Perm ps' ∧ ps'.map f = l' := by
  intro l l' h
  induction h with
  | nil =>
    intro ps hp
    exact ⟨ps, List.Perm.refl _, hp⟩
  | cons x _ ih =>
    intro ps hp
    cases ps with
    | nil => cases hp
    | cons a r =>
      simp only [List.map_cons, List.cons.injEq] at hp
      obtain ⟨ps', h1, h2⟩ := ih r hp.2
      exact ⟨a :: ps', h1.cons a, by rw [List.map_cons, hp.1, h2]⟩
  | swap x y l =>
    intro ps hp
    match ps, hp with
    | a :: b :: r, hp =>
      simp only [List.map_cons, List.cons.injEq] at hp
      exact ⟨b :: a :: r, List.Perm.swap b a r, by rw [List.map_cons, List.map_cons, hp.1, hp.2.1, hp.2.2]⟩
  | trans _ _ ih1 ih2 =>
    intro ps hp
    obtain ⟨p1, h1, h2⟩ := ih1 ps hp
    obtain ⟨p2, h3, h4⟩ := ih2 p1 h2
    exact ⟨p2, h1.trans h3, h4⟩
theorem jl_P.perm {g last : Nat} {l l' : List Nat} (hp : l.Perm l') (h : jl_P g last l) : jl_P g last l' := by
  obtain ⟨ps, h1, h2, h3⟩ := h
  obtain ⟨ps', h4, h5⟩ := jl_map_perm hp ps h1
  exact ⟨ps', h5, (h4.pairwise_iff (fun h => h.sy)).mp h2, fun x hx => h3 x (h4.mem_iff.mpr hx)⟩
theorem jl_pig : ∀ (n : Nat) (l : List Nat), l.length < n → ∃ x, x < n ∧ ¬ x ∈ l
  | 0, l, h => absurd h (Nat.not_lt_zero _)
  | n + 1, l, h => by
    by_cases e : n ∈ l
    · have h1 : (l.filter (fun y => decide (¬ y = n))).length < n := by
        have : (l.filter (fun y => decide (¬ y = n))).length < l.length := List.length_filter_lt_length_iff_exists.mpr ⟨n, e, by simp⟩
        omega
      obtain ⟨x, hx, hn⟩ := jl_pig n _ h1
      exact ⟨x, by omega, fun q => hn (List.mem_filter.mpr ⟨q, by simp; omega⟩)⟩
    · exact ⟨n, by omega, e⟩
theorem jl_fb {g t : Nat} : ∀ (ps : List (Nat × Nat)), (ps.flatMap (fun y => [y.1, y.1 + g + y.2, y.1 - (g + t), y.1 + g + y.2 - (g + t)])).length = 4 * ps.length
  | [] => rfl
  | y :: r => by
    simp only [List.flatMap_cons, List.length_append, jl_fb r, List.length_cons, List.length_nil]
    omega
theorem jl_free {g base : Nat} : ∀ (l : List Nat), l.length ≤ 5 → (∀ t, t ∈ l → g + t ≤ base) → jl_P g (base + 16) l
  | [], _, _ => ⟨[], rfl, List.Pairwise.nil, fun x hx => by cases hx⟩
  | t :: l, hl, hb => by
    have hl' : l.length + 1 ≤ 5 := hl
    obtain ⟨ps, h1, h2, h3⟩ := jl_free l (by omega) (fun t ht => hb t (List.mem_cons_of_mem _ ht))
    have hlen : ps.length = l.length := by rw [← h1, List.length_map]
    obtain ⟨x, hx, hn⟩ := jl_pig 17 (ps.flatMap (fun y => [y.1, y.1 + g + y.2, y.1 - (g + t), y.1 + g + y.2 - (g + t)])) (by rw [jl_fb, hlen]; omega)
    refine ⟨(x, t) :: ps, by rw [List.map_cons, h1], List.Pairwise.cons (fun y hy => ?_) h2, fun y hy => ?_⟩
    · have hm : ∀ z, z ∈ [y.1, y.1 + g + y.2, y.1 - (g + t), y.1 + g + y.2 - (g + t)] → ¬ x = z := fun z hz e => hn (by rw [e]; exact List.mem_flatMap.mpr ⟨y, hy, hz⟩)
      have m1 := hm y.1 (by simp)
      have m2 := hm (y.1 + g + y.2) (by simp)
      have m3 := hm (y.1 - (g + t)) (by simp)
      have m4 := hm (y.1 + g + y.2 - (g + t)) (by simp)
      show ¬ x = y.1 ∧ ¬ x = y.1 + g + y.2 ∧ ¬ x + g + t = y.1 ∧ ¬ x + g + t = y.1 + g + y.2
      omega
    · rcases List.mem_cons.mp hy with e | e
      · have := hb t List.mem_cons_self
        rw [e]
        show x + g + t ≤ base + 16
        omega
      · exact h3 y e
/-- an extension of what is placed: questions from q on, those ahead as A says -/
def jl_X (g last : Nat) (th : Nat → Nat) (k q : Nat) (A : Nat → Nat) : Prop := ∃ B : Nat → Nat, (∀ j, j < q → B j = A j) ∧ (∀ j, q ≤ j → j < k → B j + g + th j ≤ last) ∧ ∀ i j, i < j → q ≤ j → j < k → jl_c g (B i) (th i) (B j) (th j)
def jl_up (A : Nat → Nat) (q x : Nat) : Nat → Nat := fun j => if j = q then x else A j
def jl_fr (g : Nat) (th : Nat → Nat) (q : Nat) (A : Nat → Nat) (x : Nat) : Prop := ∀ i, i < q → jl_c g (A i) (th i) x (th q)
theorem jl_X.end {g last : Nat} {th : Nat → Nat} {k q : Nat} (h : k ≤ q) (A : Nat → Nat) : jl_X g last th k q A := ⟨A, fun _ _ => rfl, fun j h1 h2 => by omega, fun i j _ h1 h2 => by omega⟩
theorem jl_X.step {g last : Nat} {th : Nat → Nat} {k q : Nat} (hq : q < k) {A : Nat → Nat} : jl_X g last th k q A ↔ ∃ x, x + g + th q ≤ last ∧ jl_fr g th q A x ∧ jl_X g last th k (q + 1) (jl_up A q x) := by
  constructor
  · rintro ⟨B, h1, h2, h3⟩
    refine ⟨B q, h2 q (Nat.le_refl _) hq, fun i hi => ?_, B, fun j hj => ?_, fun j h4 h5 => h2 j (by omega) h5, fun i j h4 h5 h6 => h3 i j h4 (by omega) h6⟩
    · rw [← h1 i hi]; exact h3 i q hi (Nat.le_refl _) hq
    · show B j = if j = q then B q else A j
      by_cases e : j = q
      · rw [if_pos e, e]
      · rw [if_neg e]; exact h1 j (by omega)
  · rintro ⟨x, h1, h2, B, h3, h4, h5⟩
    have hx : B q = x := (h3 q (by omega)).trans (if_pos rfl)
    have hA : ∀ j, j < q → B j = A j := fun j hj => (h3 j (by omega)).trans (if_neg (by omega))
    refine ⟨B, hA, fun j h6 h7 => ?_, fun i j h6 h7 h8 => ?_⟩
    · by_cases e : j = q
      · rw [e, hx]; exact h1
      · exact h4 j (by omega) h7
    · by_cases e : j = q
      · rw [e, hx, hA i (by omega)]; exact h2 i (by omega)
      · exact h5 i j h6 (by omega) h8
theorem jl_XP {g last : Nat} {l : List Nat} {A : Nat → Nat} : jl_X g last (fun j => l.getD j 0) l.length 0 A ↔ jl_P g last l := by
  constructor
  · rintro ⟨B, -, h2, h3⟩
    refine ⟨(List.range l.length).map (fun j => (B j, l.getD j 0)), ?_, ?_, ?_⟩
    · rw [List.map_map]
      apply List.ext_getElem
      · simp
      · intro i h1 h4
        simp at h4 ⊢
        rw [List.getElem?_eq_getElem h4]
        rfl
    · rw [List.pairwise_iff_getElem]
      intro i j hi hj hij
      simp only [List.length_map, List.length_range] at hi hj
      simp only [List.getElem_map, List.getElem_range]
      exact h3 i j hij (Nat.zero_le _) hj
    · intro x hx
      obtain ⟨j, hj, rfl⟩ := List.mem_map.mp hx
      exact h2 j (Nat.zero_le _) (List.mem_range.mp hj)
  · rintro ⟨ps, h1, h2, h3⟩
    have hlen : ps.length = l.length := by rw [← h1, List.length_map]
    have hg : ∀ j, j < l.length → l.getD j 0 = (ps.getD j (0, 0)).2 := fun j hj => by
      rw [← h1]
      simp [List.getD, List.getElem?_map, List.getElem?_eq_getElem (show j < ps.length by omega)]
    have he : ∀ j (hj : j < ps.length), ps.getD j (0, 0) = ps[j] := fun j hj => by simp [List.getD, List.getElem?_eq_getElem hj]
    refine ⟨fun j => (ps.getD j (0, 0)).1, fun j hj => absurd hj (Nat.not_lt_zero _), fun j _ hj => ?_, fun i j hij _ hj => ?_⟩
    · show (ps.getD j (0, 0)).1 + g + l.getD j 0 ≤ last
      rw [hg j hj, he j (by omega)]
      exact h3 _ (List.getElem_mem _)
    · show jl_c g (ps.getD i (0, 0)).1 (l.getD i 0) (ps.getD j (0, 0)).1 (l.getD j 0)
      rw [hg i (by omega), hg j hj, he i (by omega), he j (by omega)]
      exact List.pairwise_iff_getElem.mp h2 i j (by omega) (by omega) hij
/-- the first of the numbers that count -/
noncomputable def jl_ga (f : Nat → Int32) : Nat → Nat → List Nat → List Nat
  | 0, _, acc => acc
  | n + 1, i, acc => if acc.length < 5 then (if 0 ≤ f i ∧ f i ≤ 20 then jl_ga f n (i + 1) (acc ++ [(f i).toNatClampNeg]) else jl_ga f n (i + 1) acc) else acc
theorem jl_ga_eq {f h : Nat → Int32} : ∀ (n i : Nat) (acc : List Nat), (∀ k, i ≤ k → k < i + n → f k = h k) → jl_ga f n i acc = jl_ga h n i acc
  | 0, i, acc, _ => rfl
  | n + 1, i, acc, e => by
    unfold jl_ga
    rw [e i (Nat.le_refl _) (by omega), jl_ga_eq n (i + 1) _ (fun k h1 h2 => e k (by omega) (by omega)), jl_ga_eq n (i + 1) acc (fun k h1 h2 => e k (by omega) (by omega))]
/-- the largest -/
def jl_mx (M : Nat) (l : List Nat) : Prop := M ∈ l ∧ ∀ t, t ∈ l → t ≤ M
theorem jl_mx.uniq {M M' : Nat} {l : List Nat} (h : jl_mx M l) (h' : jl_mx M' l) : M = M' := Nat.le_antisymm (h'.2 _ h.1) (h.2 _ h'.1)
/-- the least last -/
def jl_L (g base : Nat) (l : List Nat) (v : Nat) : Prop := base ≤ v ∧ v ≤ base + 16 ∧ jl_P g v l ∧ ∀ u, base ≤ u → u < v → ¬ jl_P g u l
theorem jl_L.uniq {g base : Nat} {l : List Nat} {v w : Nat} (h : jl_L g base l v) (h' : jl_L g base l w) : v = w := by
  rcases Nat.lt_trichotomy v w with q | q | q
  · exact absurd h.2.2.1 (h'.2.2.2 v h.1 q)
  · exact q
  · exact absurd h'.2.2.1 (h.2.2.2 w h'.1 q)
theorem jl_20 {x : Int32} : jn_b x 0 21 ↔ (0 ≤ x ∧ x ≤ 20) := by
  have := jn_outL (x := x) (lo := 0) (hi := 20) (by decide) (by decide)
  constructor
  · intro h
    exact ⟨Int32.not_lt.mp (fun z => this.mp (Or.inl z) h), Int32.not_lt.mp (fun z => this.mp (Or.inr z) h)⟩
  · intro h
    exact Classical.byContradiction (fun z => (this.mpr z).elim (Int32.not_lt.mpr h.1) (Int32.not_lt.mpr h.2))
theorem jl_sub {last needs x : Nat} (h1 : last < 2 ^ 30) (h2 : needs < 2 ^ 30) (h3 : x < 2 ^ 30) : nI last - nI needs < nI x ↔ ¬ x + needs ≤ last := by
  rw [Int32.lt_iff_toInt_lt, pk_sub_toInt h1 h2, nI_toInt (by omega)]
  omega
