/-! Common rules for the runs. -/
theorem zbo0 : ((0 : Int32) = 0 ∨ (0 : Int32) = 1) = True := eq_true (Or.inl rfl)
theorem zbo1 : ((1 : Int32) = 0 ∨ (1 : Int32) = 1) = True := eq_true (Or.inr rfl)
theorem zboi {p : Prop} [Decidable p] : ((if p then (1 : Int32) else 0) = 0 ∨ (if p then (1 : Int32) else 0) = 1) = True := eq_true (by by_cases h : p <;> simp [h])
theorem zin_t {k n : Nat} (h : k < n) (hn : n < 2147483648) : zin (nI k) n = true := by
  unfold zin
  rw [nI_clamp (by omega)]
  have h1 : ¬ nI k < 0 := nI_pos (by omega)
  simp [h1, h]
theorem ncl {n : Nat} (h : n < 2147483648) : (nI n).toNatClampNeg = n := nI_clamp h
theorem nlt {a b : Nat} (ha : a < 2147483648) (hb : b < 2147483648) : (nI a < nI b) = (a < b) := propext (nI_ltI ha hb)
theorem neq {a b : Nat} (ha : a < 2147483648) (hb : b < 2147483648) : (nI a = nI b) = (a = b) := propext (nI_eq ha hb)
theorem zsite {α : Type} {c : Prop} [Decidable c] {L : Nat} {xs : Nat → Int32} {i n0 pc : Nat} {zl : zLs} {a b : Value} {st : List Value} {h : zH} : (if c then go L xs i n0 pc zl (a :: st) h else go L xs i n0 pc zl (b :: st) h) = go L xs i n0 pc zl ((if c then a else b) :: st) h := by
  by_cases q : c <;> simp [q]
theorem zvi {c : Prop} [Decidable c] {a b : Int32} : (if c then Value.int a else Value.int b) = Value.int (if c then a else b) := by
  by_cases q : c <;> simp [q]
theorem lcge {x y : Int64} : (lg_cmp x y < 0) = (x < y) := by
  unfold lg_cmp
  by_cases h1 : x > y
  · rw [if_pos h1]; simp; exact Int64.le_of_lt h1
  · rw [if_neg h1]
    by_cases h2 : x = y
    · rw [if_pos h2]; subst h2; simp
    · rw [if_neg h2]
      have : x < y := by
        rcases Int64.lt_or_le x y with q | q
        · exact q
        · exact absurd (Int64.lt_of_le_of_ne q (fun e => h2 e.symm)) h1
      simp [this]
theorem lcgt {x y : Int64} : (0 < lg_cmp x y) = (y < x) := by
  unfold lg_cmp
  by_cases h1 : x > y
  · rw [if_pos h1]; simp; exact h1
  · rw [if_neg h1]
    by_cases h2 : x = y
    · rw [if_pos h2]; simp; subst h2; simp
    · rw [if_neg h2]; simp; exact Int64.not_lt.mp h1
theorem lceq {x y : Int64} : (lg_cmp x y = 0) = (x = y) := by
  unfold lg_cmp
  by_cases h1 : x > y
  · rw [if_pos h1]
    have : x ≠ y := fun e => by subst e; exact Int64.lt_irrefl h1
    simp [this]
  · rw [if_neg h1]
    by_cases h2 : x = y
    · rw [if_pos h2]; simp [h2]
    · rw [if_neg h2]; simp [h2]
theorem zio1 : ((1 : Int32) = 0) = False := by decide
theorem zio0 : ((0 : Int32) = 0) = True := by decide
