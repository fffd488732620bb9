/-! The reference: copy. -/
section M18
variable {L : Nat} {xs : Nat → Int32} {g g' : Nat → Nat → Int32} {t : Nat → Int64}
variable {hs : Nat → Bool} {sz ln : Nat → Nat} {ce : Nat → Nat → Int32}
theorem i64_add (x y : Int32) : (x.toInt64 + y.toInt64).toInt = x.toInt + y.toInt := by
  rw [Int64.toInt_add, i64, i64]
  have a1 := Int32.toInt_lt x
  have a2 := Int32.toInt_lt y
  have a3 := Int32.le_toInt x
  have a4 := Int32.le_toInt y
  apply Int.bmod_eq_of_le <;> omega
theorem kX9_isBeyond {i n : Int32} {s : Nat} (hs : s ≤ 60) : go L xs 158 69 0 [some (.int i), some (.long n.toInt64), none, some (.int (nI s))] [] (hp g t) = some (some (.int (if (0 ≤ i.toInt ∧ 0 ≤ n.toInt) ∧ i.toInt + n.toInt ≤ s then 0 else 1)), hp g t) := by
  have h0 : (0 : Int32).toInt = 0 := by decide
  have h00 : (0 : Int64).toInt = 0 := by decide
  by_cases q1 : 0 ≤ i.toInt
  · have q1' : (i < 0) = False := eq_false (fun z => by have := Int32.lt_iff_toInt_lt.mp z; omega)
    by_cases q2 : 0 ≤ n.toInt
    · have q2' : (n.toInt64 < 0) = False := eq_false (fun z => by have := Int64.lt_iff_toInt_lt.mp z; rw [i64] at this; omega)
      by_cases q3 : i.toInt + n.toInt ≤ s
      · have q3' : ((nI s).toInt64 < i.toInt64 + n.toInt64) = False := eq_false (fun z => by
          have := Int64.lt_iff_toInt_lt.mp z
          rw [i64, i64_add, nI_toInt (by omega)] at this
          omega)
        rw [if_pos ⟨⟨q1, q2⟩, q3⟩]
        simp (disch := omega) only [sX9_isBeyond_0, sX9_isBeyond_1, sX9_isBeyond_4, sX9_isBeyond_5, sX9_isBeyond_6, sX9_isBeyond_7, sX9_isBeyond_10, sX9_isBeyond_11, sX9_isBeyond_12, sX9_isBeyond_13, sX9_isBeyond_14, sX9_isBeyond_15, sX9_isBeyond_16, sX9_isBeyond_17, sX9_isBeyond_20, sX9_isBeyond_21, sX9_isBeyond_24, sX9_isBeyond_25, ↓reduceIte, if_true, if_false, Option.bind_some, Option.bind_none, Option.toList_some, Option.toList_none, List.cons_append, List.nil_append, Option.elim_some, true_or, or_true, or_false, false_or, true_and, and_true, and_false, false_and, zio1, zio0, zio01, not_true_eq_false, not_false_eq_true, lcge, lcgt, q1', q2', q3']
      · have q3' : ((nI s).toInt64 < i.toInt64 + n.toInt64) = True := eq_true (by
          apply Int64.lt_iff_toInt_lt.mpr
          rw [i64, i64_add, nI_toInt (by omega)]
          omega)
        rw [if_neg (fun z => q3 z.2)]
        simp (disch := omega) only [sX9_isBeyond_0, sX9_isBeyond_1, sX9_isBeyond_4, sX9_isBeyond_5, sX9_isBeyond_6, sX9_isBeyond_7, sX9_isBeyond_10, sX9_isBeyond_11, sX9_isBeyond_12, sX9_isBeyond_13, sX9_isBeyond_14, sX9_isBeyond_15, sX9_isBeyond_16, sX9_isBeyond_17, sX9_isBeyond_20, sX9_isBeyond_21, sX9_isBeyond_24, sX9_isBeyond_25, ↓reduceIte, if_true, if_false, Option.bind_some, Option.bind_none, Option.toList_some, Option.toList_none, List.cons_append, List.nil_append, Option.elim_some, true_or, or_true, or_false, false_or, true_and, and_true, and_false, false_and, zio1, zio0, zio01, not_true_eq_false, not_false_eq_true, lcge, lcgt, q1', q2', q3']
    · have q2' : (n.toInt64 < 0) = True := eq_true (by
        apply Int64.lt_iff_toInt_lt.mpr
        rw [i64]; omega)
      rw [if_neg (fun z => q2 z.1.2)]
      simp (disch := omega) only [sX9_isBeyond_0, sX9_isBeyond_1, sX9_isBeyond_4, sX9_isBeyond_5, sX9_isBeyond_6, sX9_isBeyond_7, sX9_isBeyond_10, sX9_isBeyond_11, sX9_isBeyond_12, sX9_isBeyond_13, sX9_isBeyond_14, sX9_isBeyond_15, sX9_isBeyond_16, sX9_isBeyond_17, sX9_isBeyond_20, sX9_isBeyond_21, sX9_isBeyond_24, sX9_isBeyond_25, ↓reduceIte, if_true, if_false, Option.bind_some, Option.bind_none, Option.toList_some, Option.toList_none, List.cons_append, List.nil_append, Option.elim_some, true_or, or_true, or_false, false_or, true_and, and_true, and_false, false_and, zio1, zio0, zio01, not_true_eq_false, not_false_eq_true, lcge, lcgt, q1', q2']
  · have q1' : (i < 0) = True := eq_true (Int32.lt_iff_toInt_lt.mpr (by omega))
    rw [if_neg (fun z => q1 z.1.1)]
    simp (disch := omega) only [sX9_isBeyond_0, sX9_isBeyond_1, sX9_isBeyond_4, sX9_isBeyond_5, sX9_isBeyond_6, sX9_isBeyond_7, sX9_isBeyond_10, sX9_isBeyond_11, sX9_isBeyond_12, sX9_isBeyond_13, sX9_isBeyond_14, sX9_isBeyond_15, sX9_isBeyond_16, sX9_isBeyond_17, sX9_isBeyond_20, sX9_isBeyond_21, sX9_isBeyond_24, sX9_isBeyond_25, ↓reduceIte, if_true, if_false, Option.bind_some, Option.bind_none, Option.toList_some, Option.toList_none, List.cons_append, List.nil_append, Option.elim_some, true_or, or_true, or_false, false_or, true_and, and_true, and_false, false_and, zio1, zio0, zio01, not_true_eq_false, not_false_eq_true, q1']
theorem qX9_copy1 {x i y j n : Int32} (h : ¬ ((0 ≤ x.toInt ∧ x.toInt ≤ 3) ∧ (0 ≤ y.toInt ∧ y.toInt ≤ 3))) : go L xs 159 69 0 [some (.ref 45), some (.int x), some (.int i), some (.int y), some (.int j), some (.int n), none] [] (hp g t) = some (some (.int (-1)), hp (zu g 45 0 0) t) := by
  have h1 := kX9_noSheet (L := L) (xs := xs) (g := g) (t := t) (x := x)
  have h2 := kX9_noSheet (L := L) (xs := xs) (g := g) (t := t) (x := y)
  by_cases q : 0 ≤ x.toInt ∧ x.toInt ≤ 3
  · rw [if_pos q] at h1
    rw [if_neg (fun z => h ⟨q, z⟩)] at h2
    simp (disch := omega) only [sX9_copy_0, sX9_copy_1, sX9_copy_4, sX9_copy_7, sX9_copy_8, sX9_copy_11, sX9_copy_14, sX9_copy_15, sX9_copy_16, sX9_copy_19, ↓reduceIte, if_true, if_false, Option.bind_some, Option.bind_none, Option.toList_some, Option.toList_none, List.cons_append, List.nil_append, Option.elim_some, true_or, or_true, or_false, false_or, true_and, and_true, and_false, false_and, zio1, zio0, zio01, not_true_eq_false, not_false_eq_true, h1, h2, kX9_refused]
  · rw [if_neg q] at h1
    simp (disch := omega) only [sX9_copy_0, sX9_copy_1, sX9_copy_4, sX9_copy_7, sX9_copy_8, sX9_copy_11, sX9_copy_14, sX9_copy_15, sX9_copy_16, sX9_copy_19, ↓reduceIte, if_true, if_false, Option.bind_some, Option.bind_none, Option.toList_some, Option.toList_none, List.cons_append, List.nil_append, Option.elim_some, true_or, or_true, or_false, false_or, true_and, and_true, and_false, false_and, zio1, zio0, zio01, not_true_eq_false, not_false_eq_true, h1, h2, kX9_refused]
theorem sh_ok {k : Nat} (hk : k < 4) : go L xs 152 69 0 [some (.int (nI k))] [] (hp g t) = some (some (.int 0), hp g t) := by
  rw [kX9_noSheet, if_pos]
  rw [nI_toInt (by omega)]
  omega
theorem qX9_copy2 (hM : MSh g hs sz ln ce) {k o : Nat} (hk : k < 4) (ho : o < 4) {i j n : Int32} (h : hs k = false ∨ hs o = false) : go L xs 159 69 0 [some (.ref 45), some (.int (nI k)), some (.int i), some (.int (nI o)), some (.int j), some (.int n), none] [] (hp g t) = some (some (.int (-11)), hp (zu g 45 0 1) t) := by
  have h1 := sh_ok (L := L) (xs := xs) (g := g) (t := t) hk
  have h2 := sh_ok (L := L) (xs := xs) (g := g) (t := t) ho
  have m11 : (-10 - 1 : Int32) = -11 := by decide
  rcases hM k hk with ⟨a1, a2⟩ | ⟨a1, a2, a3, a4, a5, a6⟩
  · simp (disch := omega) only [sX9_copy_0, sX9_copy_1, sX9_copy_4, sX9_copy_7, sX9_copy_8, sX9_copy_11, sX9_copy_14, sX9_copy_15, sX9_copy_16, sX9_copy_19, sX9_copy_20, sX9_copy_21, sX9_copy_24, sX9_copy_25, sX9_copy_26, sX9_copy_29, sX9_copy_30, sX9_copy_33, sX9_copy_34, sX9_copy_35, sX9_copy_38, sX9_copy_39, sX9_copy_40, sX9_copy_43, ↓reduceIte, if_true, if_false, Option.bind_some, Option.bind_none, Option.toList_some, Option.toList_none, List.cons_append, List.nil_append, Option.elim_some, true_or, or_true, or_false, false_or, true_and, and_true, and_false, false_and, zio1, zio0, zio01, not_true_eq_false, not_false_eq_true, nlt, neq, nlt0, n0lt, neq0, neq1, nm9, m9n, nadd, nadd1, nmul, ncl, zin_t, h1, h2, a2, m1lt, kX9_failed, m11]
  · rcases hM o ho with ⟨c1, c2⟩ | ⟨c1, c2, c3, c4, c5, c6⟩
    · simp (disch := omega) only [sX9_copy_0, sX9_copy_1, sX9_copy_4, sX9_copy_7, sX9_copy_8, sX9_copy_11, sX9_copy_14, sX9_copy_15, sX9_copy_16, sX9_copy_19, sX9_copy_20, sX9_copy_21, sX9_copy_24, sX9_copy_25, sX9_copy_26, sX9_copy_29, sX9_copy_30, sX9_copy_33, sX9_copy_34, sX9_copy_35, sX9_copy_38, sX9_copy_39, sX9_copy_40, sX9_copy_43, ↓reduceIte, if_true, if_false, Option.bind_some, Option.bind_none, Option.toList_some, Option.toList_none, List.cons_append, List.nil_append, Option.elim_some, true_or, or_true, or_false, false_or, true_and, and_true, and_false, false_and, zio1, zio0, zio01, not_true_eq_false, not_false_eq_true, nlt, neq, nlt0, n0lt, neq0, neq1, nm9, m9n, nadd, nadd1, nmul, ncl, zin_t, h1, h2, a2, c2, m1lt, kX9_failed, m11]
    · rw [a1, c1] at h; simp at h
theorem MSh.tt (hM : MSh g hs sz ln ce) {k : Nat} (hk : k < 4) (h : hs k = true) : g 65 k = nI (sz k) ∧ sz k ≤ 60 ∧ g 66 k = nI (ln k) ∧ ln k ≤ 2 ∧ ∀ i, i < sz k → g 67 (60 * k + i) = ce k i := by
  rcases hM k hk with ⟨a1, a2⟩ | ⟨a1, a2⟩
  · rw [h] at a1; cases a1
  · exact a2
theorem qX9_copy3 (hM : MSh g hs sz ln ce) {k o : Nat} (hk : k < 4) (ho : o < 4) {i j n : Int32} (h1 : hs k = true) (h2 : hs o = true) (h3 : ¬ ln k = ln o) : go L xs 159 69 0 [some (.ref 45), some (.int (nI k)), some (.int i), some (.int (nI o)), some (.int j), some (.int n), none] [] (hp g t) = some (some (.int (-12)), hp (zu g 45 0 2) t) := by
  have e1 := sh_ok (L := L) (xs := xs) (g := g) (t := t) hk
  have e2 := sh_ok (L := L) (xs := xs) (g := g) (t := t) ho
  obtain ⟨a2, a3, a4, a5, a6⟩ := hM.tt hk h1
  obtain ⟨c2, c3, c4, c5, c6⟩ := hM.tt ho h2
  have m12 : (-10 - 2 : Int32) = -12 := by decide
  simp (disch := omega) only [sX9_copy_0, sX9_copy_1, sX9_copy_4, sX9_copy_7, sX9_copy_8, sX9_copy_11, sX9_copy_14, sX9_copy_15, sX9_copy_16, sX9_copy_19, sX9_copy_20, sX9_copy_21, sX9_copy_24, sX9_copy_25, sX9_copy_26, sX9_copy_29, sX9_copy_30, sX9_copy_33, sX9_copy_34, sX9_copy_35, sX9_copy_38, sX9_copy_39, sX9_copy_40, sX9_copy_43, sX9_copy_44, sX9_copy_45, sX9_copy_48, sX9_copy_49, sX9_copy_50, sX9_copy_51, sX9_copy_54, sX9_copy_55, sX9_copy_56, sX9_copy_59, sX9_copy_60, sX9_copy_61, sX9_copy_64, ↓reduceIte, if_true, if_false, Option.bind_some, Option.bind_none, Option.toList_some, Option.toList_none, List.cons_append, List.nil_append, Option.elim_some, true_or, or_true, or_false, false_or, true_and, and_true, and_false, false_and, zio1, zio0, zio01, not_true_eq_false, not_false_eq_true, nlt, neq, nlt0, n0lt, neq0, neq1, nm9, m9n, nadd, nadd1, nmul, ncl, zin_t, e1, e2, a2, c2, a4, c4, h3, kX9_failed, m12]
theorem qX9_copy4 (hM : MSh g hs sz ln ce) {k o : Nat} (hk : k < 4) (ho : o < 4) {i j n : Int32} (h1 : hs k = true) (h2 : hs o = true) (h3 : ln k = ln o) (h : ¬ (((0 ≤ i.toInt ∧ 0 ≤ n.toInt) ∧ i.toInt + n.toInt ≤ sz k) ∧ ((0 ≤ j.toInt ∧ 0 ≤ n.toInt) ∧ j.toInt + n.toInt ≤ sz o))) : go L xs 159 69 0 [some (.ref 45), some (.int (nI k)), some (.int i), some (.int (nI o)), some (.int j), some (.int n), none] [] (hp g t) = some (some (.int (-13)), hp (zu g 45 0 3) t) := by
  have e1 := sh_ok (L := L) (xs := xs) (g := g) (t := t) hk
  have e2 := sh_ok (L := L) (xs := xs) (g := g) (t := t) ho
  obtain ⟨a2, a3, a4, a5, a6⟩ := hM.tt hk h1
  obtain ⟨c2, c3, c4, c5, c6⟩ := hM.tt ho h2
  have m13 : (-10 - 3 : Int32) = -13 := by decide
  have b1 := kX9_isBeyond (L := L) (xs := xs) (g := g) (t := t) (i := i) (n := n) a3
  have b2 := kX9_isBeyond (L := L) (xs := xs) (g := g) (t := t) (i := j) (n := n) c3
  by_cases q : (0 ≤ i.toInt ∧ 0 ≤ n.toInt) ∧ i.toInt + n.toInt ≤ sz k
  · rw [if_pos q] at b1
    rw [if_neg (fun z => h ⟨q, z⟩)] at b2
    simp (disch := omega) only [sX9_copy_0, sX9_copy_1, sX9_copy_4, sX9_copy_7, sX9_copy_8, sX9_copy_11, sX9_copy_14, sX9_copy_15, sX9_copy_16, sX9_copy_19, sX9_copy_20, sX9_copy_21, sX9_copy_24, sX9_copy_25, sX9_copy_26, sX9_copy_29, sX9_copy_30, sX9_copy_33, sX9_copy_34, sX9_copy_35, sX9_copy_38, sX9_copy_39, sX9_copy_40, sX9_copy_43, sX9_copy_44, sX9_copy_45, sX9_copy_48, sX9_copy_49, sX9_copy_50, sX9_copy_51, sX9_copy_54, sX9_copy_55, sX9_copy_56, sX9_copy_59, sX9_copy_60, sX9_copy_61, sX9_copy_64, sX9_copy_65, sX9_copy_66, sX9_copy_68, sX9_copy_69, sX9_copy_70, sX9_copy_73, sX9_copy_74, sX9_copy_75, sX9_copy_78, sX9_copy_81, sX9_copy_83, sX9_copy_85, sX9_copy_86, sX9_copy_87, sX9_copy_90, sX9_copy_91, sX9_copy_92, sX9_copy_95, sX9_copy_98, sX9_copy_99, sX9_copy_100, sX9_copy_103, ↓reduceIte, if_true, if_false, Option.bind_some, Option.bind_none, Option.toList_some, Option.toList_none, List.cons_append, List.nil_append, Option.elim_some, true_or, or_true, or_false, false_or, true_and, and_true, and_false, false_and, zio1, zio0, zio01, not_true_eq_false, not_false_eq_true, nlt, neq, nlt0, n0lt, neq0, neq1, nm9, m9n, nadd, nadd1, nmul, ncl, zin_t, e1, e2, a2, c2, a4, c4, h3, b1, b2, kX9_failed, m13]
  · rw [if_neg q] at b1
    simp (disch := omega) only [sX9_copy_0, sX9_copy_1, sX9_copy_4, sX9_copy_7, sX9_copy_8, sX9_copy_11, sX9_copy_14, sX9_copy_15, sX9_copy_16, sX9_copy_19, sX9_copy_20, sX9_copy_21, sX9_copy_24, sX9_copy_25, sX9_copy_26, sX9_copy_29, sX9_copy_30, sX9_copy_33, sX9_copy_34, sX9_copy_35, sX9_copy_38, sX9_copy_39, sX9_copy_40, sX9_copy_43, sX9_copy_44, sX9_copy_45, sX9_copy_48, sX9_copy_49, sX9_copy_50, sX9_copy_51, sX9_copy_54, sX9_copy_55, sX9_copy_56, sX9_copy_59, sX9_copy_60, sX9_copy_61, sX9_copy_64, sX9_copy_65, sX9_copy_66, sX9_copy_68, sX9_copy_69, sX9_copy_70, sX9_copy_73, sX9_copy_74, sX9_copy_75, sX9_copy_78, sX9_copy_81, sX9_copy_83, sX9_copy_85, sX9_copy_86, sX9_copy_87, sX9_copy_90, sX9_copy_91, sX9_copy_92, sX9_copy_95, sX9_copy_98, sX9_copy_99, sX9_copy_100, sX9_copy_103, ↓reduceIte, if_true, if_false, Option.bind_some, Option.bind_none, Option.toList_some, Option.toList_none, List.cons_append, List.nil_append, Option.elim_some, true_or, or_true, or_false, false_or, true_and, and_true, and_false, false_and, zio1, zio0, zio01, not_true_eq_false, not_false_eq_true, nlt, neq, nlt0, n0lt, neq0, neq1, nm9, m9n, nadd, nadd1, nmul, ncl, zin_t, e1, e2, a2, c2, a4, c4, h3, b1, b2, kX9_failed, m13]
theorem kX9_cp1 {k i n : Nat} {x3 x4 : Option Value} (hk : k < 4) (hin : i + n ≤ 60) : ∀ e j (g : Nat → Nat → Int32), j + e = n → (∀ q, q < j → g 68 q = g 67 (60 * k + i + q)) → ∃ g', (∀ a, a ≠ 68 → g' a = g a) ∧ (∀ q, q < n → g' 68 q = g 67 (60 * k + i + q)) ∧ go L xs 159 69 107 [some (.ref 45), some (.int (nI k)), some (.int (nI i)), x3, x4, some (.int (nI n)), some (.int (nI j))] [] (hp g t) = go L xs 159 69 141 [some (.ref 45), some (.int (nI k)), some (.int (nI i)), x3, x4, some (.int (nI n)), some (.int (nI n))] [] (hp g' t)
  | 0, j, g, hj, h => by
    have hj : j = n := by omega
    subst hj
    refine ⟨g, fun _ _ => rfl, h, ?_⟩
    simp (disch := omega) only [sX9_copy_107, sX9_copy_109, sX9_copy_111, ↓reduceIte, if_true, if_false, Option.bind_some, Option.bind_none, Option.toList_some, Option.toList_none, List.cons_append, List.nil_append, Option.elim_some, true_or, or_true, or_false, false_or, true_and, and_true, and_false, false_and, zio1, zio0, zio01, not_true_eq_false, not_false_eq_true, nlt, neq, nlt0, n0lt, neq0, neq1, nm9, m9n, nadd, nadd1, nmul, ncl, zin_t, Nat.lt_irrefl]
  | e + 1, j, g, hj, h => by
    have q : j < n := by omega
    obtain ⟨g', a1, a2, a3⟩ := kX9_cp1 (x3 := x3) (x4 := x4) hk hin e (j + 1) (zu g 68 j (g 67 (60 * k + i + j))) (by omega) (fun p hp1 => by
      by_cases q2 : p = j
      · subst q2; simp [zu]
      · have := h p (by omega)
        simp [zu, q2, this])
    refine ⟨g', fun a ha => (a1 a ha).trans (by funext p; simp [zu, ha]), fun p hp1 => (a2 p hp1).trans (by simp [zu]), ?_⟩
    rw [← a3, sX9_copy_107]
    simp (disch := omega) only [sX9_copy_109, sX9_copy_111, sX9_copy_114, sX9_copy_115, sX9_copy_118, sX9_copy_120, sX9_copy_121, sX9_copy_124, sX9_copy_126, sX9_copy_127, sX9_copy_128, sX9_copy_129, sX9_copy_130, sX9_copy_132, sX9_copy_133, sX9_copy_134, sX9_copy_135, sX9_copy_138, ↓reduceIte, if_true, if_false, Option.bind_some, Option.bind_none, Option.toList_some, Option.toList_none, List.cons_append, List.nil_append, Option.elim_some, true_or, or_true, or_false, false_or, true_and, and_true, and_false, false_and, zio1, zio0, zio01, not_true_eq_false, not_false_eq_true, nlt, neq, nlt0, n0lt, neq0, neq1, nm9, m9n, nadd, nadd1, nmul, ncl, zin_t, q, li60]
theorem kX9_cp2 {o j n : Nat} {x1 x2 : Option Value} {v : Nat → Int32} (ho : o < 4) (hjn : j + n ≤ 60) : ∀ e p (g : Nat → Nat → Int32), p + e = n → (∀ q, q < n → g 68 q = v q) → (∀ q, q < p → g 67 (60 * o + j + q) = v q) → ∃ g', (∀ a, a ≠ 67 → g' a = g a) ∧ (∀ q, q < n → g' 67 (60 * o + j + q) = v q) ∧ (∀ q, (q < 60 * o + j ∨ 60 * o + j + n ≤ q) → g' 67 q = g 67 q) ∧ go L xs 159 69 144 [some (.ref 45), x1, x2, some (.int (nI o)), some (.int (nI j)), some (.int (nI n)), some (.int (nI p))] [] (hp g t) = some (some (.int (nI n)), hp (zu g' 45 0 0) t)
  | 0, p, g, hp1, h68, h => by
    have hp1 : p = n := by omega
    subst hp1
    refine ⟨g, fun _ _ => rfl, h, fun _ _ => rfl, ?_⟩
    simp (disch := omega) only [sX9_copy_144, sX9_copy_146, sX9_copy_148, sX9_copy_179, sX9_copy_180, sX9_copy_182, sX9_copy_185, ↓reduceIte, if_true, if_false, Option.bind_some, Option.bind_none, Option.toList_some, Option.toList_none, List.cons_append, List.nil_append, Option.elim_some, true_or, or_true, or_false, false_or, true_and, and_true, and_false, false_and, zio1, zio0, zio01, not_true_eq_false, not_false_eq_true, nlt, neq, nlt0, n0lt, neq0, neq1, nm9, m9n, nadd, nadd1, nmul, ncl, zin_t, Nat.lt_irrefl, kX9_refused]
  | e + 1, p, g, hp1, h68, h => by
    have q : p < n := by omega
    have h6 := h68 p q
    obtain ⟨g', a1, a2, a4, a3⟩ := kX9_cp2 (x1 := x1) (x2 := x2) (v := v) ho hjn e (p + 1) (zu g 67 (60 * o + j + p) (v p)) (by omega) (fun r hr => by simpa [zu] using h68 r hr) (fun r hr => by
      by_cases q2 : r = p
      · subst q2; simp [zu]
      · have := h r (by omega)
        have q3 : ¬ 60 * o + j + r = 60 * o + j + p := by omega
        simp only [zu, q3, if_true, if_false, this])
    refine ⟨g', fun a ha => (a1 a ha).trans (by funext p; simp [zu, ha]), a2, fun r hr => (a4 r hr).trans (by
      have q3 : ¬ r = 60 * o + j + p := by omega
      simp only [zu, q3, if_true, if_false]), ?_⟩
    rw [← a3, sX9_copy_144]
    simp (disch := omega) only [sX9_copy_146, sX9_copy_148, sX9_copy_151, sX9_copy_152, sX9_copy_155, sX9_copy_157, sX9_copy_158, sX9_copy_159, sX9_copy_161, sX9_copy_162, sX9_copy_164, sX9_copy_165, sX9_copy_166, sX9_copy_169, sX9_copy_171, sX9_copy_172, sX9_copy_173, sX9_copy_176, ↓reduceIte, if_true, if_false, Option.bind_some, Option.bind_none, Option.toList_some, Option.toList_none, List.cons_append, List.nil_append, Option.elim_some, true_or, or_true, or_false, false_or, true_and, and_true, and_false, false_and, zio1, zio0, zio01, not_true_eq_false, not_false_eq_true, nlt, neq, nlt0, n0lt, neq0, neq1, nm9, m9n, nadd, nadd1, nmul, ncl, zin_t, q, li60, h6]
theorem qX9_copy5 (hM : MSh g hs sz ln ce) {k o i j n : Nat} (hk : k < 4) (ho : o < 4) (h1 : hs k = true) (h2 : hs o = true) (h3 : ln k = ln o) (h4 : i + n ≤ sz k) (h5 : j + n ≤ sz o) : ∃ g', (∀ a, a ≠ 67 → a ≠ 68 → g' a = g a) ∧ MSh g' hs sz ln (fun q p => if q = o ∧ j ≤ p ∧ p < j + n then ce k (i + (p - j)) else ce q p) ∧ go L xs 159 69 0 [some (.ref 45), some (.int (nI k)), some (.int (nI i)), some (.int (nI o)), some (.int (nI j)), some (.int (nI n)), none] [] (hp g t) = some (some (.int (nI n)), hp (zu g' 45 0 0) t) := by
  have e1 := sh_ok (L := L) (xs := xs) (g := g) (t := t) hk
  have e2 := sh_ok (L := L) (xs := xs) (g := g) (t := t) ho
  obtain ⟨a2, a3, a4, a5, a6⟩ := hM.tt hk h1
  obtain ⟨c2, c3, c4, c5, c6⟩ := hM.tt ho h2
  have ti := nI_toInt (n := i) (by omega)
  have tj := nI_toInt (n := j) (by omega)
  have tn := nI_toInt (n := n) (by omega)
  have b1 := kX9_isBeyond (L := L) (xs := xs) (g := g) (t := t) (i := nI i) (n := nI n) a3
  have b2 := kX9_isBeyond (L := L) (xs := xs) (g := g) (t := t) (i := nI j) (n := nI n) c3
  rw [if_pos (by omega)] at b1 b2
  obtain ⟨g1, d1, d2, d3⟩ := kX9_cp1 (L := L) (xs := xs) (t := t) (k := k) (i := i) (n := n) (x3 := some (.int (nI o))) (x4 := some (.int (nI j))) hk (by omega) n 0 g (by omega) (fun q hq => absurd hq (by omega))
  obtain ⟨g2, f1, f2, f3, f4⟩ := kX9_cp2 (L := L) (xs := xs) (t := t) (o := o) (j := j) (n := n) (x1 := some (.int (nI k))) (x2 := some (.int (nI i))) (v := fun q => g 67 (60 * k + i + q)) ho (by omega) n 0 g1 (by omega) d2 (fun q hq => absurd hq (by omega))
  refine ⟨g2, fun a x1 x2 => (f1 a x1).trans (d1 a x2), ?_, ?_⟩
  · intro q hq
    have s65 : g2 65 = g 65 := (f1 65 (by omega)).trans (d1 65 (by omega))
    have s66 : g2 66 = g 66 := (f1 66 (by omega)).trans (d1 66 (by omega))
    have s67 : g1 67 = g 67 := d1 67 (by omega)
    rw [s65, s66]
    rcases hM q hq with a | ⟨u1, u2, u3, u4, u5, u6⟩
    · exact Or.inl a
    · refine Or.inr ⟨u1, u2, u3, u4, u5, fun p hp1 => ?_⟩
      dsimp only
      by_cases q1 : q = o ∧ j ≤ p ∧ p < j + n
      · obtain ⟨q1, q2, q3⟩ := q1
        subst q1
        rw [if_pos ⟨rfl, q2, q3⟩]
        have z1 := f2 (p - j) (by omega)
        rw [show 60 * q + j + (p - j) = 60 * q + p by omega] at z1
        rw [z1]
        rw [show 60 * k + i + (p - j) = 60 * k + (i + (p - j)) by omega]
        exact a6 _ (by omega)
      · rw [if_neg q1, f3 (60 * q + p) (by omega), s67]
        exact u6 p hp1
  · rw [nI_0] at d3 f4
    simp (disch := omega) only [sX9_copy_0, sX9_copy_1, sX9_copy_4, sX9_copy_7, sX9_copy_8, sX9_copy_11, sX9_copy_14, sX9_copy_15, sX9_copy_16, sX9_copy_19, sX9_copy_20, sX9_copy_21, sX9_copy_24, sX9_copy_25, sX9_copy_26, sX9_copy_29, sX9_copy_30, sX9_copy_33, sX9_copy_34, sX9_copy_35, sX9_copy_38, sX9_copy_39, sX9_copy_40, sX9_copy_43, sX9_copy_44, sX9_copy_45, sX9_copy_48, sX9_copy_49, sX9_copy_50, sX9_copy_51, sX9_copy_54, sX9_copy_55, sX9_copy_56, sX9_copy_59, sX9_copy_60, sX9_copy_61, sX9_copy_64, sX9_copy_65, sX9_copy_66, sX9_copy_68, sX9_copy_69, sX9_copy_70, sX9_copy_73, sX9_copy_74, sX9_copy_75, sX9_copy_78, sX9_copy_81, sX9_copy_83, sX9_copy_85, sX9_copy_86, sX9_copy_87, sX9_copy_90, sX9_copy_91, sX9_copy_92, sX9_copy_95, sX9_copy_98, sX9_copy_99, sX9_copy_100, sX9_copy_103, sX9_copy_104, sX9_copy_105, ↓reduceIte, if_true, if_false, Option.bind_some, Option.bind_none, Option.toList_some, Option.toList_none, List.cons_append, List.nil_append, Option.elim_some, true_or, or_true, or_false, false_or, true_and, and_true, and_false, false_and, zio1, zio0, zio01, not_true_eq_false, not_false_eq_true, nlt, neq, nlt0, n0lt, neq0, neq1, nm9, m9n, nadd, nadd1, nmul, ncl, zin_t, e1, e2, a2, c2, a4, c4, h3, b1, b2]
    rw [d3]
    simp (disch := omega) only [sX9_copy_141, sX9_copy_142, ↓reduceIte, if_true, if_false, Option.bind_some, Option.bind_none, Option.toList_some, Option.toList_none, List.cons_append, List.nil_append, Option.elim_some, true_or, or_true, or_false, false_or, true_and, and_true, and_false, false_and, zio1, zio0, zio01, not_true_eq_false, not_false_eq_true, nlt, neq, nlt0, n0lt, neq0, neq1, nm9, m9n, nadd, nadd1, nmul, ncl, zin_t]
    exact f4
end M18
