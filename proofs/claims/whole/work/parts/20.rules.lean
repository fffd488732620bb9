/-! Common rules for the runs. -/
theorem zbo0 : ((0 : Int32) = 0 ∨ (0 : Int32) = 1) = True := eq_true (Or.inl rfl)
theorem zbo1 : ((1 : Int32) = 0 ∨ (1 : Int32) = 1) = True := eq_true (Or.inr rfl)
theorem zboi {p : Prop} [Decidable p] : ((if p then (1 : Int32) else 0) = 0 ∨ (if p then (1 : Int32) else 0) = 1) = True := eq_true (by by_cases h : p <;> simp [h])
theorem zin_t {k n : Nat} (h : k < n) (hn : n < 2147483648) : zin (nI k) n = true := by
  unfold zin
  rw [nI_clamp (by omega)]
  have h1 : ¬ nI k < 0 := nI_pos (by omega)
  simp [h1, h]
theorem ncl {n : Nat} (h : n < 2147483648) : (nI n).toNatClampNeg = n := nI_clamp h
theorem nlt {a b : Nat} (ha : a < 2147483648) (hb : b < 2147483648) : (nI a < nI b) = (a < b) := propext (nI_ltI ha hb)
theorem neq {a b : Nat} (ha : a < 2147483648) (hb : b < 2147483648) : (nI a = nI b) = (a = b) := propext (nI_eq ha hb)
theorem zsite {α : Type} {c : Prop} [Decidable c] {L : Nat} {xs : Nat → Int32} {i n0 pc : Nat} {zl : zLs} {a b : Value} {st : List Value} {h : zH} : (if c then go L xs i n0 pc zl (a :: st) h else go L xs i n0 pc zl (b :: st) h) = go L xs i n0 pc zl ((if c then a else b) :: st) h := by
  by_cases q : c <;> simp [q]
theorem zvi {c : Prop} [Decidable c] {a b : Int32} : (if c then Value.int a else Value.int b) = Value.int (if c then a else b) := by
  by_cases q : c <;> simp [q]
theorem lcge {x y : Int64} : (lg_cmp x y < 0) = (x < y) := by
  unfold lg_cmp
  by_cases h1 : x > y
  · rw [if_pos h1]; simp; exact Int64.le_of_lt h1
  · rw [if_neg h1]
    by_cases h2 : x = y
    · rw [if_pos h2]; subst h2; simp
    · rw [if_neg h2]
      have : x < y := by
        rcases Int64.lt_or_le x y with q | q
        · exact q
        · exact absurd (Int64.lt_of_le_of_ne q (fun e => h2 e.symm)) h1
      simp [this]
theorem lcgt {x y : Int64} : (0 < lg_cmp x y) = (y < x) := by
  unfold lg_cmp
  by_cases h1 : x > y
  · rw [if_pos h1]; simp; exact h1
  · rw [if_neg h1]
    by_cases h2 : x = y
    · rw [if_pos h2]; simp; subst h2; simp
    · rw [if_neg h2]; simp; exact Int64.not_lt.mp h1
theorem lceq {x y : Int64} : (lg_cmp x y = 0) = (x = y) := by
  unfold lg_cmp
  by_cases h1 : x > y
  · rw [if_pos h1]
    have : x ≠ y := fun e => by subst e; exact Int64.lt_irrefl h1
    simp [this]
  · rw [if_neg h1]
    by_cases h2 : x = y
    · rw [if_pos h2]; simp [h2]
    · rw [if_neg h2]; simp [h2]
theorem zio1 : ((1 : Int32) = 0) = False := by decide
theorem zio0 : ((0 : Int32) = 0) = True := by decide
theorem zio01 : ((0 : Int32) = 1) = False := by decide
theorem nlt0 {a : Nat} (ha : a < 2147483648) : (nI a < 0) = False := eq_false (nI_pos ha)
theorem n0lt {a : Nat} (ha : a < 2147483648) : (0 < nI a) = (0 < a) := by rw [← nI_0, nlt (by omega) ha]
theorem neq0 {a : Nat} (ha : a < 2147483648) : (nI a = 0) = (a = 0) := by rw [← nI_0, neq ha (by omega)]
theorem neq1 {a : Nat} (ha : a < 2147483648) : (nI a = 1) = (a = 1) := by
  have : (1 : Int32) = nI 1 := by decide
  rw [this, neq ha (by omega)]
theorem nm9 {a : Nat} (ha : a < 2147483648) : (nI a = -9) = False := eq_false (fun e => by
  have h1 := nI_toInt ha
  rw [e] at h1
  have h2 : (-9 : Int32).toInt = -9 := by decide
  omega)
theorem m9n {a : Nat} (ha : a < 2147483648) : (-9 = nI a) = False := eq_false (fun e => by
  have := nm9 ha
  rw [e] at this
  simp at this)
theorem nsub {a b : Nat} (h : b ≤ a) : nI a - nI b = nI (a - b) := pk_sub h
theorem nmul (a b : Nat) : nI a * nI b = nI (a * b) := pk_mul a b
theorem nadd (a b : Nat) : nI a + nI b = nI (a + b) := nI_add a b
theorem nadd1 (a : Nat) : nI a + 1 = nI (a + 1) := nI_1 a
theorem nsub1 {a : Nat} (h : 1 ≤ a) : nI a - 1 = nI (a - 1) := by
  have : (1 : Int32) = nI 1 := by decide
  rw [this, nsub h]
theorem nadd0 (a : Nat) : nI a + 0 = nI a := by rw [← nI_0, nadd]; rfl
theorem nsub0 (a : Nat) : nI a - 0 = nI a := by rw [← nI_0, nsub (Nat.zero_le a)]; rfl
theorem ndiv {a b : Nat} (ha : a < 2147483648) (hb : 0 < b) (hb2 : b < 2147483648) : nI a / nI b = nI (a / b) := pk_div ha hb hb2
theorem nrem {a b : Nat} (ha : a < 2147483648) (hb : 0 < b) (hb2 : b < 2147483648) : nI a - nI a / nI b * nI b = nI (a % b) := pk_rem ha hb hb2
theorem ndiv2 {a : Nat} (ha : a < 2147483648) : nI a / 2 = nI (a / 2) := by
  have : (2 : Int32) = nI 2 := by decide
  rw [this, ndiv ha (by omega) (by omega)]
theorem ndiv4 {a : Nat} (ha : a < 2147483648) : nI a / 4 = nI (a / 4) := by
  have : (4 : Int32) = nI 4 := by decide
  rw [this, ndiv ha (by omega) (by omega)]
theorem li2 : (2 : Int32) = nI 2 := by decide
theorem li3 : (3 : Int32) = nI 3 := by decide
theorem li4 : (4 : Int32) = nI 4 := by decide
theorem li5 : (5 : Int32) = nI 5 := by decide
theorem li6 : (6 : Int32) = nI 6 := by decide
theorem li7 : (7 : Int32) = nI 7 := by decide
theorem li8 : (8 : Int32) = nI 8 := by decide
theorem li9 : (9 : Int32) = nI 9 := by decide
theorem li10 : (10 : Int32) = nI 10 := by decide
theorem li30 : (30 : Int32) = nI 30 := by decide
theorem li48 : (48 : Int32) = nI 48 := by decide
theorem li50 : (50 : Int32) = nI 50 := by decide
theorem li60 : (60 : Int32) = nI 60 := by decide
theorem zuA (g : Nat → Nat → Int32) (k j : Nat) (x : Int32) (a b : Nat) : zu g k j x a b = if a = k then (if b = j then x else g a b) else g a b := rfl
def cnt (P : Nat → Prop) [DecidablePred P] : Nat → Nat
  | 0 => 0
  | k + 1 => cnt P k + (if P k then 1 else 0)
theorem cnt_le (P : Nat → Prop) [DecidablePred P] : ∀ n, cnt P n ≤ n
  | 0 => Nat.le_refl 0
  | n + 1 => by
    have := cnt_le P n
    show cnt P n + (if P n then 1 else 0) ≤ n + 1
    split <;> omega
def smn (f : Nat → Nat) : Nat → Nat
  | 0 => 0
  | k + 1 => smn f k + f k
theorem smn_le {f : Nat → Nat} {b : Nat} : ∀ n, (∀ k, k < n → f k ≤ b) → smn f n ≤ n * b
  | 0, _ => by simp [smn]
  | n + 1, h => by
    have h1 := smn_le n (fun k hk => h k (by omega))
    have h2 := h n (by omega)
    show smn f n + f n ≤ (n + 1) * b
    rw [Nat.succ_mul]
    omega
/-- the first of n places from k on at which P holds -/
def ff (P : Nat → Prop) [DecidablePred P] : Nat → Nat → Option Nat
  | 0, _ => none
  | n + 1, k => if P k then some k else ff P n (k + 1)
theorem fa_or2 (a b : Nat) : nI a ||| nI b = nI (a ||| b) := by
  unfold nI
  apply Int32.toBitVec_inj.mp
  rw [Int32.toBitVec_or]
  show BitVec.ofNat 32 a ||| BitVec.ofNat 32 b = BitVec.ofNat 32 (a ||| b)
  apply BitVec.eq_of_getLsbD_eq
  intro i hi
  simp [BitVec.getLsbD_or, BitVec.getLsbD_ofNat, Nat.testBit_or, hi]
theorem lN_l (x : Nat) (h : x < 2147483648) : (nI x).toInt64 = lN x := nI_l h
def allb (P : Nat → Bool) : Nat → Bool
  | 0 => true
  | k + 1 => allb P k && P k
theorem allb_iff {P : Nat → Bool} : ∀ {n}, allb P n = true ↔ ∀ k, k < n → P k = true
  | 0 => ⟨fun _ k h => absurd h (by omega), fun _ => rfl⟩
  | n + 1 => by
    show (allb P n && P n) = true ↔ _
    rw [Bool.and_eq_true, allb_iff]
    constructor
    · rintro ⟨h1, h2⟩ k hk
      by_cases q : k = n
      · subst q; exact h2
      · exact h1 k (by omega)
    · intro h
      exact ⟨fun k hk => h k (by omega), h n (by omega)⟩
theorem zuzu (g : Nat → Nat → Int32) (k j : Nat) (x y : Int32) : zu (zu g k j x) k j y = zu g k j y := by
  funext a b
  simp only [zu]
  split
  · split <;> rfl
  · rfl
