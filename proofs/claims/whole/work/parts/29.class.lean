/-! ===== what an argument is: an index from lo on, below hi ===== -/
def jn_b (x : Int32) (lo hi : Nat) : Prop := ∃ j : Nat, lo ≤ j ∧ j < hi ∧ x = nI j
theorem jn_bI {x : Int32} {lo hi : Nat} (h : hi ≤ 2 ^ 31) : jn_b x lo hi ↔ (lo : Int) ≤ x.toInt ∧ x.toInt < (hi : Int) := by
  constructor
  · rintro ⟨j, h1, h2, rfl⟩
    rw [nI_toInt (by omega)]
    omega
  · rintro ⟨h1, h2⟩
    have h3 : ¬ x < 0 := fun q => by
      rw [Int32.lt_iff_toInt_lt] at q
      have : (0 : Int32).toInt = 0 := by decide
      omega
    obtain ⟨j, hj, rfl⟩ := nI_of h3
    rw [nI_toInt hj] at h1 h2
    exact ⟨j, by omega, by omega, rfl⟩
theorem jn_bN {j lo hi : Nat} (h1 : lo ≤ j) (h2 : j < hi) : jn_b (nI j) lo hi := ⟨j, h1, h2, rfl⟩
theorem jn_pred {n : Nat} (h : n < 2 ^ 30) : (nI n - 1).toInt = (n : Int) - 1 := by
  have := pk_sub_toInt (a := n) (b := 1) h (by decide)
  exact this
theorem jn_ltI {x : Int32} {lo : Nat} (h : lo < 2 ^ 31) : x < nI lo ↔ x.toInt < (lo : Int) := by
  rw [Int32.lt_iff_toInt_lt, nI_toInt h]
theorem jn_gtI {x : Int32} {hi : Nat} (h : hi < 2 ^ 31) : nI hi < x ↔ (hi : Int) < x.toInt := by
  rw [Int32.lt_iff_toInt_lt, nI_toInt h]
theorem jn_gtP {x : Int32} {n : Nat} (h : n < 2 ^ 30) : nI n - 1 < x ↔ (n : Int) - 1 < x.toInt := by
  rw [Int32.lt_iff_toInt_lt, jn_pred h]
theorem jn_outL {x : Int32} {lo hi : Nat} (h1 : lo < 2 ^ 30) (h2 : hi < 2 ^ 30) : (x < nI lo ∨ nI hi < x) ↔ ¬ jn_b x lo (hi + 1) := by
  rw [jn_bI (by omega), jn_ltI (by omega), jn_gtI (by omega)]
  omega
theorem jn_outN {x : Int32} {n : Nat} (h : n < 2 ^ 30) : (x < 0 ∨ nI n - 1 < x) ↔ ¬ jn_b x 0 n := by
  rw [jn_bI (by omega), show (0 : Int32) = nI 0 from rfl, jn_ltI (by omega), jn_gtP h]
  omega
theorem jn_l64 (x : Int32) : x.toInt64.toInt = x.toInt := Int32.toInt_toInt64 x
theorem jn_inL {x : Int32} {lo hi : Nat} (h1 : lo < 2 ^ 30) (h2 : hi < 2 ^ 30) : (x.toInt64 < lN lo ∨ lN hi < x.toInt64) ↔ ¬ jn_b x lo (hi + 1) := by
  rw [jn_bI (by omega), Int64.lt_iff_toInt_lt, Int64.lt_iff_toInt_lt, jn_l64, pk_lT (by omega), pk_lT (by omega)]
  omega
theorem jn_inN {x : Int32} {n : Nat} (h : n < 2 ^ 30) : (x.toInt64 < 0 ∨ (nI n - 1).toInt64 < x.toInt64) ↔ ¬ jn_b x 0 n := by
  rw [jn_bI (by omega), show (0 : Int64) = lN 0 from rfl, Int64.lt_iff_toInt_lt, Int64.lt_iff_toInt_lt, jn_l64, jn_l64, pk_lT (by omega), jn_pred h]
  omega
/-! errors -/
def jm_er (k : Nat) : Int32 := -1000000000 - nI k
def jm_ef (f : Nat → Int32) (k : Nat) : Nat → Int32 := upd f k (f k + 1)
theorem jm_ef_eq {f g : Nat → Int32} (h : ∀ k, k < 6 → f k = g k) (j : Nat) (hj : j < 6) : ∀ k, k < 6 → jm_ef f j k = jm_ef g j k := by
  intro k hk
  unfold jm_ef
  by_cases e : k = j
  · subst e; rw [pk_us, pk_us, h k hk]
  · rw [pk_un e, pk_un e, h k hk]
