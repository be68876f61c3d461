/-! ===== texts: one reading of the bytes B 0 .. B (n - 1): where it comes to, whether all went well, the row in which operands stand first ===== -/
abbrev jp_R : Type := Nat × Bool × List Int32
def jp_lk (B : Nat → Int32) (n a : Nat) : Int32 := if a < n then B a else -1
def jp_rk (s : Int32) : Nat := if s = 124 then 0 else if s = 38 then 1 else if s = 60 ∨ s = 61 ∨ s = 62 then 2 else if s = 43 ∨ s = 45 then 3 else if s = 42 ∨ s = 47 ∨ s = 37 then 4 else 9
def jp_dg (s : Int32) : Prop := 48 ≤ s ∧ s ≤ 57
def jp_dv (s : Int32) : Nat := s.toNatClampNeg - 48
def jp_lp (B : Nat → Int32) (n r : Nat) (f : Nat → jp_R) : Nat → jp_R → jp_R
  | 0, x => x
  | k + 1, x => if x.2.1 = true ∧ jp_rk (jp_lk B n x.1) = r then jp_lp B n r f k ((f (x.1 + 1)).1, (f (x.1 + 1)).2.1, x.2.2 ++ (f (x.1 + 1)).2.2 ++ [-(jp_lk B n x.1)]) else x
def jp_up (B : Nat → Int32) (n : Nat) (f : Nat → jp_R) : Nat → Nat → jp_R
  | 0, a => f a
  | k + 1, a => jp_lp B n (4 - k) (jp_up B n f k) (if k = 2 then 1 else 50) (jp_up B n f k a)
noncomputable def jp_nu (B : Nat → Int32) (n : Nat) : Nat → Nat → Nat → Nat × Nat
  | 0, a, v => (a, v)
  | k + 1, a, v => if 48 ≤ jp_lk B n a ∧ jp_lk B n a ≤ 57 then jp_nu B n k (a + 1) (v * 10 + jp_dv (jp_lk B n a)) else (a, v)
def jp_na (u : Nat) (s : Int32) : Option Nat :=
  if u = 0 then (if s = 119 then some 0 else if s = 102 then some 1 else if s = 105 then some 2 else if s = 107 then some 3 else none)
  else (if s = 119 then some 0 else if s = 109 then some 1 else if s = 99 then some 2 else none)
def jp_nm (u a : Nat) (s : Int32) : jp_R := match jp_na u s with
  | some i => (a + 1, true, [-1 - nI i])
  | none => (a, false, [])
noncomputable def jp_op (B : Nat → Int32) (n u : Nat) : Nat → Nat → jp_R
  | 0, a => if 48 ≤ jp_lk B n a ∧ jp_lk B n a ≤ 57 then ((jp_nu B n 4 a 0).1, true, [nI (jp_nu B n 4 a 0).2]) else if jp_lk B n a = 33 ∨ jp_lk B n a = 40 then (a, false, []) else jp_nm u a (jp_lk B n a)
  | o + 1, a => if 48 ≤ jp_lk B n a ∧ jp_lk B n a ≤ 57 then ((jp_nu B n 4 a 0).1, true, [nI (jp_nu B n 4 a 0).2])
    else if jp_lk B n a = 33 then ((jp_op B n u o (a + 1)).1, (jp_op B n u o (a + 1)).2.1, (jp_op B n u o (a + 1)).2.2 ++ [-33])
    else if jp_lk B n a = 40 then (if (jp_up B n (jp_op B n u o) 5 (a + 1)).2.1 = true ∧ jp_lk B n (jp_up B n (jp_op B n u o) 5 (a + 1)).1 = 41 then ((jp_up B n (jp_op B n u o) 5 (a + 1)).1 + 1, true, (jp_up B n (jp_op B n u o) 5 (a + 1)).2.2) else ((jp_up B n (jp_op B n u o) 5 (a + 1)).1, false, (jp_up B n (jp_op B n u o) 5 (a + 1)).2.2))
    else jp_nm u a (jp_lk B n a)
noncomputable def jp_al (B : Nat → Int32) (n u : Nat) : jp_R := jp_up B n (jp_op B n u 5) 5 0
/-! such a row, worked out -/
def jw_v (N : Nat → Int32) (p : Int32) : Int32 := if p = -1 then N 0 else if p = -2 then N 1 else if p = -3 then N 2 else if p = -4 then N 3 else p
def jw_j (s l r : Int32) : Int32 :=
  if s = 124 then (if l = 0 ∧ r = 0 then 0 else 1) else if s = 38 then (if l = 0 ∨ r = 0 then 0 else 1) else if s = 60 then (if l < r then 1 else 0) else if s = 61 then (if l = r then 1 else 0)
  else if s = 62 then (if r < l then 1 else 0) else if s = 43 then l + r else if s = 45 then l - r else if s = 42 then l * r else if s = 47 then (if r = 0 then 0 else l / r) else (if r = 0 then 0 else l - l / r * r)
def jw_s (N : Nat → Int32) (st : List Int32) (p : Int32) : List Int32 :=
  if -4 ≤ p then jw_v N p :: st else if p = -33 then (match st with | x :: r => (if x = 0 then 1 else 0) :: r | [] => []) else (match st with | y :: x :: r => jw_j (-p) x y :: r | s => s)
def jw_ (N : Nat → Int32) (c st : List Int32) : List Int32 := c.foldl (jw_s N) st
def jv_ (N : Nat → Int32) (c : List Int32) : Int32 := (jw_ N c []).headD 0
def jw_f (c : List Int32) : Prop := ∀ (N : Nat → Int32) (st : List Int32), jw_ N c st = jv_ N c :: st
theorem jw_f1 {p : Int32} (h : -4 ≤ p) : jw_f [p] := by
  intro N st
  unfold jv_ jw_
  show jw_s N st p = (jw_s N [] p).headD 0 :: st
  unfold jw_s
  rw [if_pos h, if_pos h]
  rfl
theorem jv_1 {p : Int32} (h : -4 ≤ p) (N : Nat → Int32) : jv_ N [p] = jw_v N p := by
  unfold jv_ jw_
  show (jw_s N [] p).headD 0 = _
  unfold jw_s
  rw [if_pos h]
  rfl
theorem jw_not {c : List Int32} (h : jw_f c) (N : Nat → Int32) (st : List Int32) : jw_ N (c ++ [-33]) st = (if jv_ N c = 0 then 1 else 0) :: st := by
  unfold jw_
  rw [List.foldl_append]
  show jw_s N (jw_ N c st) (-33) = _
  rw [h N st]
  unfold jw_s
  rw [if_neg (by decide), if_pos rfl]
theorem jv_not {c : List Int32} (h : jw_f c) (N : Nat → Int32) : jv_ N (c ++ [-33]) = (if jv_ N c = 0 then 1 else 0) := by
  rw [show jv_ N (c ++ [-33]) = (jw_ N (c ++ [-33]) []).headD 0 from rfl, jw_not h N []]
  rfl
theorem jw_fnot {c : List Int32} (h : jw_f c) : jw_f (c ++ [-33]) := by
  intro N st
  rw [jw_not h, jv_not h]
theorem jp_signs {s : Int32} {r : Nat} (h : jp_rk s = r) (hr : r < 9) : s = 124 ∨ s = 38 ∨ s = 60 ∨ s = 61 ∨ s = 62 ∨ s = 43 ∨ s = 45 ∨ s = 42 ∨ s = 47 ∨ s = 37 := by
  unfold jp_rk at h
  by_cases h1 : s = 124
  · exact Or.inl h1
  rw [if_neg h1] at h
  by_cases h2 : s = 38
  · exact Or.inr (Or.inl h2)
  rw [if_neg h2] at h
  by_cases h3 : s = 60 ∨ s = 61 ∨ s = 62
  · rcases h3 with h3 | h3 | h3
    · exact Or.inr (Or.inr (Or.inl h3))
    · exact Or.inr (Or.inr (Or.inr (Or.inl h3)))
    · exact Or.inr (Or.inr (Or.inr (Or.inr (Or.inl h3))))
  rw [if_neg h3] at h
  by_cases h4 : s = 43 ∨ s = 45
  · rcases h4 with h4 | h4
    · exact Or.inr (Or.inr (Or.inr (Or.inr (Or.inr (Or.inl h4)))))
    · exact Or.inr (Or.inr (Or.inr (Or.inr (Or.inr (Or.inr (Or.inl h4))))))
  rw [if_neg h4] at h
  by_cases h5 : s = 42 ∨ s = 47 ∨ s = 37
  · rcases h5 with h5 | h5 | h5
    · exact Or.inr (Or.inr (Or.inr (Or.inr (Or.inr (Or.inr (Or.inr (Or.inl h5)))))))
    · exact Or.inr (Or.inr (Or.inr (Or.inr (Or.inr (Or.inr (Or.inr (Or.inr (Or.inl h5))))))))
    · exact Or.inr (Or.inr (Or.inr (Or.inr (Or.inr (Or.inr (Or.inr (Or.inr (Or.inr h5))))))))
  rw [if_neg h5] at h
  omega
theorem jp_sgn {s : Int32} {r : Nat} (h : jp_rk s = r) (hr : r < 9) : ¬ -4 ≤ -s ∧ ¬ -s = -33 ∧ - -s = s ∧ ¬ s = -1 := by
  rcases jp_signs h hr with rfl | rfl | rfl | rfl | rfl | rfl | rfl | rfl | rfl | rfl <;> exact ⟨by decide, by decide, by decide, by decide⟩
theorem jw_bin {c e : List Int32} {s : Int32} {r : Nat} (h : jw_f c) (h' : jw_f e) (hs : jp_rk s = r) (hr : r < 9) (N : Nat → Int32) (st : List Int32) : jw_ N (c ++ e ++ [-s]) st = jw_j s (jv_ N c) (jv_ N e) :: st := by
  obtain ⟨g1, g2, g3, -⟩ := jp_sgn hs hr
  unfold jw_
  rw [List.foldl_append, List.foldl_append]
  show jw_s N (jw_ N e (jw_ N c st)) (-s) = _
  rw [h N st, h' N _]
  unfold jw_s
  rw [if_neg g1, if_neg g2]
  show jw_j (- -s) _ _ :: st = _
  rw [g3]
theorem jv_bin {c e : List Int32} {s : Int32} {r : Nat} (h : jw_f c) (h' : jw_f e) (hs : jp_rk s = r) (hr : r < 9) (N : Nat → Int32) : jv_ N (c ++ e ++ [-s]) = jw_j s (jv_ N c) (jv_ N e) := by
  rw [show jv_ N (c ++ e ++ [-s]) = (jw_ N (c ++ e ++ [-s]) []).headD 0 from rfl, jw_bin h h' hs hr N []]
  rfl
theorem jw_fbin {c e : List Int32} {s : Int32} {r : Nat} (h : jw_f c) (h' : jw_f e) (hs : jp_rk s = r) (hr : r < 9) : jw_f (c ++ e ++ [-s]) := by
  intro N st
  rw [jw_bin h h' hs hr, jv_bin h h' hs hr]
/-! what a reading keeps to -/
def jp_ok (n a : Nat) (x : jp_R) : Prop := a ≤ x.1 ∧ x.1 ≤ n ∧ x.2.2.length + a ≤ x.1 ∧ (x.2.1 = true → jw_f x.2.2)
theorem jp_in {B : Nat → Int32} {n a : Nat} (h : ¬ jp_lk B n a = -1) : a < n := by
  unfold jp_lk at h
  by_cases q : a < n
  · exact q
  · rw [if_neg q] at h; exact absurd rfl h
theorem jp_lp_ok {B : Nat → Int32} {n r : Nat} (hr : r < 9) {f : Nat → jp_R} (hf : ∀ a, a ≤ n → jp_ok n a (f a)) : ∀ (k : Nat) (a : Nat) (x : jp_R), jp_ok n a x → jp_ok n a (jp_lp B n r f k x)
  | 0, a, x, h => h
  | k + 1, a, x, h => by
    show jp_ok n a (if x.2.1 = true ∧ jp_rk (jp_lk B n x.1) = r then _ else x)
    by_cases q : x.2.1 = true ∧ jp_rk (jp_lk B n x.1) = r
    · rw [if_pos q]
      have hs := jp_sgn q.2 hr
      have hi := jp_in hs.2.2.2
      obtain ⟨f1, f2, f3, f4⟩ := hf (x.1 + 1) (by omega)
      obtain ⟨h1, h2, h3, h4⟩ := h
      refine jp_lp_ok hr hf k a _ ⟨(show a ≤ (f (x.1 + 1)).1 by omega), f2, ?_, fun e => ?_⟩
      · show (x.2.2 ++ (f (x.1 + 1)).2.2 ++ [-(jp_lk B n x.1)]).length + a ≤ (f (x.1 + 1)).1
        rw [List.length_append, List.length_append]
        show x.2.2.length + (f (x.1 + 1)).2.2.length + 1 + a ≤ _
        omega
      · exact jw_fbin (h4 q.1) (f4 e) q.2 hr
    · rw [if_neg q]; exact h
theorem jp_up_ok {B : Nat → Int32} {n : Nat} {f : Nat → jp_R} (hf : ∀ a, a ≤ n → jp_ok n a (f a)) : ∀ (k : Nat) (a : Nat), a ≤ n → jp_ok n a (jp_up B n f k a)
  | 0, a, h => hf a h
  | k + 1, a, h => jp_lp_ok (r := 4 - k) (by omega) (jp_up_ok hf k) _ a _ (jp_up_ok hf k a h)
theorem jp_dig {s : Int32} (h : 48 ≤ s ∧ s ≤ 57) : ∃ d, d < 10 ∧ s = nI (48 + d) ∧ jp_dv s = d := by
  have h1 : ¬ s < 0 := fun q => by
    have := h.1
    rw [Int32.lt_iff_toInt_lt] at q
    rw [Int32.le_iff_toInt_le] at this
    have e0 : (0 : Int32).toInt = 0 := by decide
    have e1 : (48 : Int32).toInt = 48 := by decide
    omega
  obtain ⟨j, hj, rfl⟩ := nI_of h1
  have a1 := (nI_leI (a := 48) (by decide) hj).mp h.1
  have a2 := (nI_leI (b := 57) hj (by decide)).mp h.2
  refine ⟨j - 48, by omega, by rw [show 48 + (j - 48) = j by omega], ?_⟩
  unfold jp_dv
  rw [nI_clamp hj]
theorem jp_nu_ok {B : Nat → Int32} {n : Nat} : ∀ (k a v : Nat), a ≤ n → a ≤ (jp_nu B n k a v).1 ∧ (jp_nu B n k a v).1 ≤ n ∧ (jp_nu B n k a v).2 < (v + 1) * 10 ^ k ∧ v ≤ (jp_nu B n k a v).2
  | 0, a, v, h => ⟨Nat.le_refl _, h, (show v < (v + 1) * 10 ^ 0 by omega), Nat.le_refl _⟩
  | k + 1, a, v, h => by
    show a ≤ (if 48 ≤ jp_lk B n a ∧ jp_lk B n a ≤ 57 then jp_nu B n k (a + 1) (v * 10 + jp_dv (jp_lk B n a)) else (a, v)).1 ∧ (if 48 ≤ jp_lk B n a ∧ jp_lk B n a ≤ 57 then jp_nu B n k (a + 1) (v * 10 + jp_dv (jp_lk B n a)) else (a, v)).1 ≤ n ∧ (if 48 ≤ jp_lk B n a ∧ jp_lk B n a ≤ 57 then jp_nu B n k (a + 1) (v * 10 + jp_dv (jp_lk B n a)) else (a, v)).2 < _ ∧ v ≤ (if 48 ≤ jp_lk B n a ∧ jp_lk B n a ≤ 57 then jp_nu B n k (a + 1) (v * 10 + jp_dv (jp_lk B n a)) else (a, v)).2
    by_cases q : 48 ≤ jp_lk B n a ∧ jp_lk B n a ≤ 57
    · simp only [if_pos q]
      have hi : a < n := jp_in (fun z => by rw [z] at q; exact absurd q.1 (by decide))
      obtain ⟨d, hd, -, e⟩ := jp_dig q
      obtain ⟨g1, g2, g3, g4⟩ := jp_nu_ok (B := B) k (a + 1) (v * 10 + jp_dv (jp_lk B n a)) hi
      refine ⟨by omega, g2, Nat.lt_of_lt_of_le g3 ?_, by omega⟩
      rw [e, Nat.pow_succ, Nat.mul_comm (10 ^ k) 10, ← Nat.mul_assoc]
      exact Nat.mul_le_mul_right _ (by omega)
    · simp only [if_neg q]
      have : 1 ≤ 10 ^ (k + 1) := Nat.le_trans Nat.one_le_two_pow (Nat.pow_le_pow_left (by decide) _)
      refine ⟨Nat.le_refl _, h, ?_, Nat.le_refl _⟩
      have h9 : (v + 1) * 1 ≤ (v + 1) * 10 ^ (k + 1) := Nat.mul_le_mul_left _ this
      omega
theorem jp_nu_in {B : Nat → Int32} {n a : Nat} (q : 48 ≤ jp_lk B n a ∧ jp_lk B n a ≤ 57) : a + 1 ≤ (jp_nu B n 4 a 0).1 ∧ (jp_nu B n 4 a 0).1 ≤ n ∧ (jp_nu B n 4 a 0).2 < 10000 := by
  have hi : a < n := jp_in (fun z => by rw [z] at q; exact absurd q.1 (by decide))
  obtain ⟨-, -, g3, -⟩ := jp_nu_ok (B := B) 4 a 0 (Nat.le_of_lt hi)
  refine ⟨?_, (jp_nu_ok (B := B) 4 a 0 (Nat.le_of_lt hi)).2.1, by omega⟩
  rw [show jp_nu B n 4 a 0 = (if 48 ≤ jp_lk B n a ∧ jp_lk B n a ≤ 57 then jp_nu B n 3 (a + 1) (0 * 10 + jp_dv (jp_lk B n a)) else (a, 0)) from rfl, if_pos q]
  exact (jp_nu_ok (B := B) 3 (a + 1) _ hi).1
theorem jp_na_lt {u : Nat} {s : Int32} {i : Nat} (h : jp_na u s = some i) : i < 4 ∧ ¬ s = -1 := by
  unfold jp_na at h
  by_cases hu : u = 0
  · rw [if_pos hu] at h
    split at h
    · rename_i e; cases h; exact ⟨by decide, by rw [e]; decide⟩
    · split at h
      · rename_i e; cases h; exact ⟨by decide, by rw [e]; decide⟩
      · split at h
        · rename_i e; cases h; exact ⟨by decide, by rw [e]; decide⟩
        · split at h
          · rename_i e; cases h; exact ⟨by decide, by rw [e]; decide⟩
          · cases h
  · rw [if_neg hu] at h
    split at h
    · rename_i e; cases h; exact ⟨by decide, by rw [e]; decide⟩
    · split at h
      · rename_i e; cases h; exact ⟨by decide, by rw [e]; decide⟩
      · split at h
        · rename_i e; cases h; exact ⟨by decide, by rw [e]; decide⟩
        · cases h
theorem jp_n4 {i : Nat} (h : i < 4) : (-4 : Int32) ≤ -1 - nI i := by
  match i, h with
  | 0, _ => decide
  | 1, _ => decide
  | 2, _ => decide
  | 3, _ => decide
theorem jp_nm_ok {B : Nat → Int32} {n u a : Nat} (h : a ≤ n) : jp_ok n a (jp_nm u a (jp_lk B n a)) := by
  unfold jp_nm
  cases e : jp_na u (jp_lk B n a) with
  | none => exact ⟨Nat.le_refl _, h, (show 0 + a ≤ a by omega), fun q => by cases q⟩
  | some i =>
    obtain ⟨hi, hs⟩ := jp_na_lt e
    have := jp_in hs
    exact ⟨(show a ≤ a + 1 by omega), this, (show 1 + a ≤ a + 1 by omega), fun _ => jw_f1 (jp_n4 hi)⟩
theorem jp_p4 {v : Nat} (h : v < 10000) : (-4 : Int32) ≤ nI v := by
  rw [Int32.le_iff_toInt_le, nI_toInt (by omega)]
  have : (-4 : Int32).toInt = -4 := by decide
  omega
theorem jp_nb_ok {B : Nat → Int32} {n a : Nat} (q : 48 ≤ jp_lk B n a ∧ jp_lk B n a ≤ 57) : jp_ok n a ((jp_nu B n 4 a 0).1, true, [nI (jp_nu B n 4 a 0).2]) := by
  obtain ⟨g1, g2, g3⟩ := jp_nu_in q
  exact ⟨(show a ≤ (jp_nu B n 4 a 0).1 by omega), g2, (show 1 + a ≤ (jp_nu B n 4 a 0).1 by omega), fun _ => jw_f1 (jp_p4 g3)⟩
theorem jp_op_ok {B : Nat → Int32} {n u : Nat} : ∀ (o a : Nat), a ≤ n → jp_ok n a (jp_op B n u o a)
  | 0, a, h => by
    unfold jp_op
    by_cases q : 48 ≤ jp_lk B n a ∧ jp_lk B n a ≤ 57
    · rw [if_pos q]; exact jp_nb_ok q
    · rw [if_neg q]
      by_cases q2 : jp_lk B n a = 33 ∨ jp_lk B n a = 40
      · rw [if_pos q2]; exact ⟨Nat.le_refl _, h, (show 0 + a ≤ a by omega), fun q => by cases q⟩
      · rw [if_neg q2]; exact jp_nm_ok h
  | o + 1, a, h => by
    unfold jp_op
    by_cases q : 48 ≤ jp_lk B n a ∧ jp_lk B n a ≤ 57
    · rw [if_pos q]; exact jp_nb_ok q
    · rw [if_neg q]
      by_cases q2 : jp_lk B n a = 33
      · rw [if_pos q2]
        have hi : a < n := jp_in (fun z => by rw [z] at q2; exact absurd q2 (by decide))
        obtain ⟨g1, g2, g3, g4⟩ := jp_op_ok (B := B) (u := u) o (a + 1) hi
        refine ⟨(show a ≤ (jp_op B n u o (a + 1)).1 by omega), g2, ?_, fun e => jw_fnot (g4 e)⟩
        show ((jp_op B n u o (a + 1)).2.2 ++ [-33]).length + a ≤ (jp_op B n u o (a + 1)).1
        rw [List.length_append]
        show (jp_op B n u o (a + 1)).2.2.length + 1 + a ≤ _
        omega
      · rw [if_neg q2]
        by_cases q3 : jp_lk B n a = 40
        · rw [if_pos q3]
          have hi : a < n := jp_in (fun z => by rw [z] at q3; exact absurd q3 (by decide))
          obtain ⟨g1, g2, g3, g4⟩ := jp_up_ok (B := B) (fun a ha => jp_op_ok (B := B) (u := u) o a ha) 5 (a + 1) hi
          by_cases q4 : (jp_up B n (jp_op B n u o) 5 (a + 1)).2.1 = true ∧ jp_lk B n (jp_up B n (jp_op B n u o) 5 (a + 1)).1 = 41
          · rw [if_pos q4]
            have hj : (jp_up B n (jp_op B n u o) 5 (a + 1)).1 < n := jp_in (fun z => by rw [z] at q4; exact absurd q4.2 (by decide))
            exact ⟨(show a ≤ (jp_up B n (jp_op B n u o) 5 (a + 1)).1 + 1 by omega), hj, (show (jp_up B n (jp_op B n u o) 5 (a + 1)).2.2.length + a ≤ (jp_up B n (jp_op B n u o) 5 (a + 1)).1 + 1 by omega), fun _ => g4 q4.1⟩
          · rw [if_neg q4]
            exact ⟨(show a ≤ (jp_up B n (jp_op B n u o) 5 (a + 1)).1 by omega), g2, (show (jp_up B n (jp_op B n u o) 5 (a + 1)).2.2.length + a ≤ (jp_up B n (jp_op B n u o) 5 (a + 1)).1 by omega), fun e => by cases e⟩
        · rw [if_neg q3]; exact jp_nm_ok h
theorem jp_al_ok {B : Nat → Int32} {n u : Nat} (h : 0 ≤ n) : jp_ok n 0 (jp_al B n u) := jp_up_ok (fun a ha => jp_op_ok 5 a ha) 5 0 h
/-! only the bytes that there are count -/
theorem jp_lk_eq {B C : Nat → Int32} {n : Nat} (h : ∀ k, k < n → B k = C k) (a : Nat) : jp_lk B n a = jp_lk C n a := by
  unfold jp_lk
  by_cases q : a < n
  · rw [if_pos q, if_pos q, h a q]
  · rw [if_neg q, if_neg q]
theorem jp_nu_eq {B C : Nat → Int32} {n : Nat} (h : ∀ k, k < n → B k = C k) : ∀ (k a v : Nat), jp_nu B n k a v = jp_nu C n k a v
  | 0, a, v => rfl
  | k + 1, a, v => by
    unfold jp_nu
    rw [jp_lk_eq h a, jp_nu_eq h k]
theorem jp_lp_eq {B C : Nat → Int32} {n r : Nat} (h : ∀ k, k < n → B k = C k) {f g : Nat → jp_R} (hf : ∀ a, f a = g a) : ∀ (k : Nat) (x : jp_R), jp_lp B n r f k x = jp_lp C n r g k x
  | 0, x => rfl
  | k + 1, x => by
    unfold jp_lp
    rw [jp_lk_eq h, hf, jp_lp_eq h hf k]
theorem jp_up_eq {B C : Nat → Int32} {n : Nat} (h : ∀ k, k < n → B k = C k) {f g : Nat → jp_R} (hf : ∀ a, f a = g a) : ∀ (k a : Nat), jp_up B n f k a = jp_up C n g k a
  | 0, a => hf a
  | k + 1, a => by
    unfold jp_up
    rw [jp_up_eq h hf k a]
    exact jp_lp_eq h (jp_up_eq h hf k) _ _
theorem jp_op_eq {B C : Nat → Int32} {n u : Nat} (h : ∀ k, k < n → B k = C k) : ∀ (o a : Nat), jp_op B n u o a = jp_op C n u o a
  | 0, a => by
    unfold jp_op
    rw [jp_lk_eq h, jp_nu_eq h]
  | o + 1, a => by
    unfold jp_op
    rw [jp_lk_eq h a, jp_nu_eq h, jp_op_eq h o, jp_up_eq h (jp_op_eq h o), jp_lk_eq h]
theorem jp_al_eq {B C : Nat → Int32} {n u : Nat} (h : ∀ k, k < n → B k = C k) : jp_al B n u = jp_al C n u := jp_up_eq h (jp_op_eq h 5) 5 0
/-! a row written from w on -/
def jp_wr (f : Nat → Int32) : Nat → List Int32 → (Nat → Int32)
  | _, [] => f
  | w, c :: cs => jp_wr (upd f w c) (w + 1) cs
theorem jp_wr_app : ∀ (f : Nat → Int32) (w : Nat) (a b : List Int32), jp_wr f w (a ++ b) = jp_wr (jp_wr f w a) (w + a.length) b
  | f, w, [], b => rfl
  | f, w, c :: a, b => by
    show jp_wr (upd f w c) (w + 1) (a ++ b) = jp_wr (jp_wr (upd f w c) (w + 1) a) (w + (a.length + 1)) b
    rw [jp_wr_app, show w + 1 + a.length = w + (a.length + 1) by omega]
theorem jp_wr_out : ∀ (f : Nat → Int32) (w : Nat) (a : List Int32) (j : Nat), (j < w ∨ w + a.length ≤ j) → jp_wr f w a j = f j
  | f, w, [], j, h => rfl
  | f, w, c :: a, j, h => by
    show jp_wr (upd f w c) (w + 1) a j = f j
    have h' : j < w ∨ w + (a.length + 1) ≤ j := h
    rw [jp_wr_out _ _ _ _ (by omega), pk_un (by omega)]
theorem jp_wr_in : ∀ (f : Nat → Int32) (w : Nat) (a : List Int32) (j : Nat), j < a.length → jp_wr f w a (w + j) = a.getD j 0
  | f, w, [], j, h => by cases h
  | f, w, c :: a, 0, h => by
    show jp_wr (upd f w c) (w + 1) a w = c
    rw [jp_wr_out _ _ _ _ (by omega), pk_us]
  | f, w, c :: a, j + 1, h => by
    show jp_wr (upd f w c) (w + 1) a (w + (j + 1)) = a.getD j 0
    rw [show w + (j + 1) = w + 1 + j by omega]
    exact jp_wr_in _ _ _ _ (by simpa using h)
