/-! The reference: cell, sheet, feast, bits, piles, unseen. -/
section M10
variable {L : Nat} {xs : Nat → Int32} {g g' : Nat → Nat → Int32} {t : Nat → Int64}
variable {H S G R : Nat} {kd bd gv rs dr w f l rh rd rt : Nat → Nat} {row : Nat → Int32}
variable {hs : Nat → Bool} {sz ln : Nat → Nat} {ce : Nat → Nat → Int32}
variable {om : Int32} {omw omf pl : Nat}
theorem MSh.f0 (hM : MSh g hs sz ln ce) (v : Int32) : MSh (zu g 45 0 v) hs sz ln ce := by
  intro q hq
  rcases hM q hq with a | ⟨a1, a2, a3, a4, a5, a6⟩
  · exact Or.inl (by simpa [zu] using a)
  · exact Or.inr ⟨a1, by simpa [zu] using a2, a3, by simpa [zu] using a4, a5, fun i hi => by simpa [zu] using a6 i hi⟩
theorem qX9_cell (hM : MSh g hs sz ln ce) {x y z : Int32} : go L xs 157 69 0 [some (.ref 45), some (.int x), some (.int y), some (.int z)] [] (hp g t) = (if (0 ≤ x.toInt ∧ x.toInt ≤ 3) ∧ (0 ≤ z.toInt ∧ z.toInt ≤ 2) then (if hs x.toInt.toNat = false then some (some (.long (-9223372036854775808)), hp (zu g 45 0 1) t) else if ¬ (ln x.toInt.toNat : Int) = z.toInt then some (some (.long (-9223372036854775808)), hp (zu g 45 0 2) t) else if 0 ≤ y.toInt ∧ y.toInt < sz x.toInt.toNat then some (some (.long (ce x.toInt.toNat y.toInt.toNat).toInt64), hp (zu g 45 0 0) t) else some (some (.long (-9223372036854775808)), hp (zu g 45 0 3) t)) else some (some (.long (-9223372036854775808)), hp (zu g 45 0 0) t)) := by
  have h1 := kX9_noSheet (L := L) (xs := xs) (g := zu g 45 0 0) (t := t) (x := x)
  have hin := kX9_inI (L := L) (xs := xs) (g := zu g 45 0 0) (t := t) (x := z) (b := 0) (c := 2) (lo := 0) (hi := 2) (by decide) (by decide)
  by_cases q1 : 0 ≤ x.toInt ∧ x.toInt ≤ 3
  · rw [if_pos q1] at h1
    by_cases q2 : 0 ≤ z.toInt ∧ z.toInt ≤ 2
    · rw [if_pos q2] at hin
      rw [if_pos ⟨q1, q2⟩]
      have hx := nI_back q1.1
      generalize hk : x.toInt.toNat = k at hx
      subst hx
      have hz := nI_back q2.1
      generalize hzk : z.toInt.toNat = zk at hz
      subst hz
      have hzt := nI_toInt (n := zk) (by omega)
      have h2 := kX9_noCell (L := L) (xs := xs) (t := t) (x := y) (hM.f0 0) (show k < 4 by omega)
      rcases hM k (by omega) with ⟨a1, a2⟩ | ⟨a1, a2, a3, a4, a5, a6⟩
      · rw [if_pos a1] at h2 ⊢
        simp (disch := omega) only [sX9_cell_0, sX9_cell_1, sX9_cell_2, sX9_cell_5, sX9_cell_6, sX9_cell_9, sX9_cell_12, sX9_cell_13, sX9_cell_14, sX9_cell_15, sX9_cell_18, sX9_cell_21, sX9_cell_24, sX9_cell_27, sX9_cell_28, sX9_cell_29, sX9_cell_32, sX9_cell_33, sX9_cell_34, sX9_cell_37, sX9_cell_38, sX9_cell_41, sX9_cell_42, sX9_cell_43, sX9_cell_44, sX9_cell_47, sX9_cell_48, sX9_cell_49, sX9_cell_52, sX9_cell_53, sX9_cell_54, sX9_cell_55, sX9_cell_56, sX9_cell_59, sX9_cell_62, sX9_cell_63, sX9_cell_64, sX9_cell_65, sX9_cell_66, sX9_cell_69, sX9_cell_72, sX9_cell_75, sX9_cell_76, sX9_cell_79, sX9_cell_81, sX9_cell_82, sX9_cell_83, sX9_cell_84, sX9_cell_85, sX9_cell_86, sX9_cell_87, ↓reduceIte, if_true, if_false, Option.bind_some, Option.bind_none, Option.toList_some, Option.toList_none, List.cons_append, List.nil_append, Option.elim_some, true_or, or_true, or_false, false_or, true_and, and_true, and_false, false_and, zio1, zio0, zio01, not_true_eq_false, not_false_eq_true, nlt, neq, nlt0, n0lt, neq0, neq1, nm9, m9n, nadd, nadd1, nmul, ncl, zin_t, h1, hin, h2, zuA, Nat.reduceEqDiff, a2, m1lt, li1', kX9_failedLong, zuzu]
      · have e : ¬ hs k = false := by simp [a1]
        rw [if_neg e] at h2 ⊢
        by_cases q3 : ln k = zk
        · rw [if_neg (by omega)]
          by_cases q4 : 0 ≤ y.toInt ∧ y.toInt < sz k
          · rw [if_pos q4] at h2 ⊢
            have hy := nI_back q4.1
            generalize hm : y.toInt.toNat = m at hy
            subst hy
            have := nI_toInt (n := m) (by omega)
            have a7 := a6 m (by omega)
            simp (disch := omega) only [sX9_cell_0, sX9_cell_1, sX9_cell_2, sX9_cell_5, sX9_cell_6, sX9_cell_9, sX9_cell_12, sX9_cell_13, sX9_cell_14, sX9_cell_15, sX9_cell_18, sX9_cell_21, sX9_cell_24, sX9_cell_27, sX9_cell_28, sX9_cell_29, sX9_cell_32, sX9_cell_33, sX9_cell_34, sX9_cell_37, sX9_cell_38, sX9_cell_41, sX9_cell_42, sX9_cell_43, sX9_cell_44, sX9_cell_47, sX9_cell_48, sX9_cell_49, sX9_cell_52, sX9_cell_53, sX9_cell_54, sX9_cell_55, sX9_cell_56, sX9_cell_59, sX9_cell_62, sX9_cell_63, sX9_cell_64, sX9_cell_65, sX9_cell_66, sX9_cell_69, sX9_cell_72, sX9_cell_75, sX9_cell_76, sX9_cell_79, sX9_cell_81, sX9_cell_82, sX9_cell_83, sX9_cell_84, sX9_cell_85, sX9_cell_86, sX9_cell_87, ↓reduceIte, if_true, if_false, Option.bind_some, Option.bind_none, Option.toList_some, Option.toList_none, List.cons_append, List.nil_append, Option.elim_some, true_or, or_true, or_false, false_or, true_and, and_true, and_false, false_and, zio1, zio0, zio01, not_true_eq_false, not_false_eq_true, nlt, neq, nlt0, n0lt, neq0, neq1, nm9, m9n, nadd, nadd1, nmul, ncl, zin_t, h1, hin, h2, zuA, Nat.reduceEqDiff, a2, a4, q3, li0', li60, a7]
          · rw [if_neg q4] at h2 ⊢
            simp (disch := omega) only [sX9_cell_0, sX9_cell_1, sX9_cell_2, sX9_cell_5, sX9_cell_6, sX9_cell_9, sX9_cell_12, sX9_cell_13, sX9_cell_14, sX9_cell_15, sX9_cell_18, sX9_cell_21, sX9_cell_24, sX9_cell_27, sX9_cell_28, sX9_cell_29, sX9_cell_32, sX9_cell_33, sX9_cell_34, sX9_cell_37, sX9_cell_38, sX9_cell_41, sX9_cell_42, sX9_cell_43, sX9_cell_44, sX9_cell_47, sX9_cell_48, sX9_cell_49, sX9_cell_52, sX9_cell_53, sX9_cell_54, sX9_cell_55, sX9_cell_56, sX9_cell_59, sX9_cell_62, sX9_cell_63, sX9_cell_64, sX9_cell_65, sX9_cell_66, sX9_cell_69, sX9_cell_72, sX9_cell_75, sX9_cell_76, sX9_cell_79, sX9_cell_81, sX9_cell_82, sX9_cell_83, sX9_cell_84, sX9_cell_85, sX9_cell_86, sX9_cell_87, ↓reduceIte, if_true, if_false, Option.bind_some, Option.bind_none, Option.toList_some, Option.toList_none, List.cons_append, List.nil_append, Option.elim_some, true_or, or_true, or_false, false_or, true_and, and_true, and_false, false_and, zio1, zio0, zio01, not_true_eq_false, not_false_eq_true, nlt, neq, nlt0, n0lt, neq0, neq1, nm9, m9n, nadd, nadd1, nmul, ncl, zin_t, h1, hin, h2, zuA, Nat.reduceEqDiff, a2, a4, q3, li3', kX9_failedLong, zuzu]
        · rw [if_pos (by omega)]
          simp (disch := omega) only [sX9_cell_0, sX9_cell_1, sX9_cell_2, sX9_cell_5, sX9_cell_6, sX9_cell_9, sX9_cell_12, sX9_cell_13, sX9_cell_14, sX9_cell_15, sX9_cell_18, sX9_cell_21, sX9_cell_24, sX9_cell_27, sX9_cell_28, sX9_cell_29, sX9_cell_32, sX9_cell_33, sX9_cell_34, sX9_cell_37, sX9_cell_38, sX9_cell_41, sX9_cell_42, sX9_cell_43, sX9_cell_44, sX9_cell_47, sX9_cell_48, sX9_cell_49, sX9_cell_52, sX9_cell_53, sX9_cell_54, sX9_cell_55, sX9_cell_56, sX9_cell_59, sX9_cell_62, sX9_cell_63, sX9_cell_64, sX9_cell_65, sX9_cell_66, sX9_cell_69, sX9_cell_72, sX9_cell_75, sX9_cell_76, sX9_cell_79, sX9_cell_81, sX9_cell_82, sX9_cell_83, sX9_cell_84, sX9_cell_85, sX9_cell_86, sX9_cell_87, ↓reduceIte, if_true, if_false, Option.bind_some, Option.bind_none, Option.toList_some, Option.toList_none, List.cons_append, List.nil_append, Option.elim_some, true_or, or_true, or_false, false_or, true_and, and_true, and_false, false_and, zio1, zio0, zio01, not_true_eq_false, not_false_eq_true, nlt, neq, nlt0, n0lt, neq0, neq1, nm9, m9n, nadd, nadd1, nmul, ncl, zin_t, h1, hin, zuA, Nat.reduceEqDiff, a2, a4, q3, kX9_failedLong, zuzu]
    · rw [if_neg q2] at hin
      rw [if_neg (fun q => q2 q.2)]
      simp (disch := omega) only [sX9_cell_0, sX9_cell_1, sX9_cell_2, sX9_cell_5, sX9_cell_6, sX9_cell_9, sX9_cell_12, sX9_cell_13, sX9_cell_14, sX9_cell_15, sX9_cell_18, sX9_cell_21, sX9_cell_24, sX9_cell_27, sX9_cell_28, sX9_cell_29, sX9_cell_32, sX9_cell_33, sX9_cell_34, sX9_cell_37, sX9_cell_38, sX9_cell_41, sX9_cell_42, sX9_cell_43, sX9_cell_44, sX9_cell_47, sX9_cell_48, sX9_cell_49, sX9_cell_52, sX9_cell_53, sX9_cell_54, sX9_cell_55, sX9_cell_56, sX9_cell_59, sX9_cell_62, sX9_cell_63, sX9_cell_64, sX9_cell_65, sX9_cell_66, sX9_cell_69, sX9_cell_72, sX9_cell_75, sX9_cell_76, sX9_cell_79, sX9_cell_81, sX9_cell_82, sX9_cell_83, sX9_cell_84, sX9_cell_85, sX9_cell_86, sX9_cell_87, ↓reduceIte, if_true, if_false, Option.bind_some, Option.bind_none, Option.toList_some, Option.toList_none, List.cons_append, List.nil_append, Option.elim_some, true_or, or_true, or_false, false_or, true_and, and_true, and_false, false_and, zio1, zio0, zio01, not_true_eq_false, not_false_eq_true, h1, hin, kX9_lost]
  · rw [if_neg q1] at h1
    rw [if_neg (fun q => q1 q.1)]
    simp (disch := omega) only [sX9_cell_0, sX9_cell_1, sX9_cell_2, sX9_cell_5, sX9_cell_6, sX9_cell_9, sX9_cell_12, sX9_cell_13, sX9_cell_14, sX9_cell_15, sX9_cell_18, sX9_cell_21, sX9_cell_24, sX9_cell_27, sX9_cell_28, sX9_cell_29, sX9_cell_32, sX9_cell_33, sX9_cell_34, sX9_cell_37, sX9_cell_38, sX9_cell_41, sX9_cell_42, sX9_cell_43, sX9_cell_44, sX9_cell_47, sX9_cell_48, sX9_cell_49, sX9_cell_52, sX9_cell_53, sX9_cell_54, sX9_cell_55, sX9_cell_56, sX9_cell_59, sX9_cell_62, sX9_cell_63, sX9_cell_64, sX9_cell_65, sX9_cell_66, sX9_cell_69, sX9_cell_72, sX9_cell_75, sX9_cell_76, sX9_cell_79, sX9_cell_81, sX9_cell_82, sX9_cell_83, sX9_cell_84, sX9_cell_85, sX9_cell_86, sX9_cell_87, ↓reduceIte, if_true, if_false, Option.bind_some, Option.bind_none, Option.toList_some, Option.toList_none, List.cons_append, List.nil_append, Option.elim_some, true_or, or_true, or_false, false_or, true_and, and_true, and_false, false_and, zio1, zio0, zio01, not_true_eq_false, not_false_eq_true, h1, kX9_lost]
theorem kX9_sh_loop {k n : Nat} {lane : Option Value} (hk4 : k < 4) (hn : n ≤ 60) : ∀ e j (g : Nat → Nat → Int32), j + e = n → (∀ i, i < j → g 67 (60 * k + i) = 0) → ∃ g', (∀ a, a ≠ 67 → g' a = g a) ∧ (∀ i, i < n → g' 67 (60 * k + i) = 0) ∧ (∀ q, (q < 60 * k ∨ 60 * k + n ≤ q) → g' 67 q = g 67 q) ∧ go L xs 153 69 65 [some (.ref 45), some (.int (nI k)), lane, some (.int (nI n)), some (.int (nI j))] [] (hp g t) = some (some (.int 1), hp (zu g' 45 0 0) t)
  | 0, j, g, hj, h0 => by
    have hj : j = n := by omega
    subst hj
    refine ⟨g, fun _ _ => rfl, h0, fun _ _ => rfl, ?_⟩
    simp (disch := omega) only [sX9_sheet_65, sX9_sheet_67, sX9_sheet_68, sX9_sheet_90, sX9_sheet_91, sX9_sheet_92, sX9_sheet_95, ↓reduceIte, if_true, if_false, Option.bind_some, Option.bind_none, Option.toList_some, Option.toList_none, List.cons_append, List.nil_append, Option.elim_some, true_or, or_true, or_false, false_or, true_and, and_true, and_false, false_and, zio1, zio0, zio01, not_true_eq_false, not_false_eq_true, nlt, neq, nlt0, n0lt, neq0, neq1, nm9, m9n, nadd, nadd1, nmul, ncl, zin_t, Nat.lt_irrefl, kX9_refused]
  | e + 1, j, g, hj, h0 => by
    have hlt : j < n := by omega
    obtain ⟨g', a1, a2, a3, a4⟩ := kX9_sh_loop (lane := lane) hk4 hn e (j + 1) (zu g 67 (60 * k + j) 0) (by omega) (fun i hi => by
      by_cases q : i = j
      · subst q; simp [zu]
      · have := h0 i (by omega)
        have q2 : ¬ 60 * k + i = 60 * k + j := by omega
        simp only [zu, q2, if_true, if_false, this])
    refine ⟨g', fun a ha => (a1 a ha).trans (by funext q; simp [zu, ha]), a2, fun q hq => (a3 q hq).trans (by
      have q2 : ¬ q = 60 * k + j := by omega
      simp only [zu, q2, if_true, if_false]), ?_⟩
    rw [sX9_sheet_65]
    simp (disch := omega) only [sX9_sheet_67, sX9_sheet_68, sX9_sheet_71, sX9_sheet_72, sX9_sheet_75, sX9_sheet_77, sX9_sheet_78, sX9_sheet_79, sX9_sheet_81, sX9_sheet_82, sX9_sheet_83, sX9_sheet_84, sX9_sheet_87, ↓reduceIte, if_true, if_false, Option.bind_some, Option.bind_none, Option.toList_some, Option.toList_none, List.cons_append, List.nil_append, Option.elim_some, true_or, or_true, or_false, false_or, true_and, and_true, and_false, false_and, zio1, zio0, zio01, not_true_eq_false, not_false_eq_true, nlt, neq, nlt0, n0lt, neq0, neq1, nm9, m9n, nadd, nadd1, nmul, ncl, zin_t, hlt, li60]
    exact a4
theorem qX9_sheet (hM : MSh g hs sz ln ce) {x y z : Int32} : (¬ (0 ≤ x.toInt ∧ x.toInt ≤ 3) ∧ go L xs 153 69 0 [some (.ref 45), some (.int x), some (.int y), some (.int z), none] [] (hp g t) = some (some (.int (-1)), hp (zu g 45 0 0) t)) ∨ ((0 ≤ x.toInt ∧ x.toInt ≤ 3) ∧ ¬ ((0 ≤ y.toInt ∧ y.toInt ≤ 2) ∧ z.toInt ≤ 60) ∧ go L xs 153 69 0 [some (.ref 45), some (.int x), some (.int y), some (.int z), none] [] (hp g t) = some (some (.int (-2)), hp (zu g 45 0 0) t)) ∨ ((0 ≤ x.toInt ∧ x.toInt ≤ 3) ∧ ((0 ≤ y.toInt ∧ y.toInt ≤ 2) ∧ z.toInt ≤ 60) ∧ z.toInt < 0 ∧ go L xs 153 69 0 [some (.ref 45), some (.int x), some (.int y), some (.int z), none] [] (hp g t) = some (some (.int (-14)), hp (zu g 45 0 4) t)) ∨ (∃ k m n, k < 4 ∧ m ≤ 2 ∧ n ≤ 60 ∧ x = nI k ∧ y = nI m ∧ z = nI n ∧ ∃ g', (∀ a, a ≠ 67 → g' a = (zu (zu g 65 k (nI n)) 66 k (nI m)) a) ∧ (∀ i, i < n → g' 67 (60 * k + i) = 0) ∧ (∀ q, (q < 60 * k ∨ 60 * k + n ≤ q) → g' 67 q = g 67 q) ∧ go L xs 153 69 0 [some (.ref 45), some (.int x), some (.int y), some (.int z), none] [] (hp g t) = some (some (.int 1), hp (zu g' 45 0 0) t)) := by
  have h1 := kX9_noSheet (L := L) (xs := xs) (g := g) (t := t) (x := x)
  have hin := kX9_inI (L := L) (xs := xs) (g := g) (t := t) (x := y) (b := 0) (c := 2) (lo := 0) (hi := 2) (by decide) (by decide)
  have h60 : (60 : Int32).toInt = 60 := by decide
  by_cases q1 : 0 ≤ x.toInt ∧ x.toInt ≤ 3
  · rw [if_pos q1] at h1
    by_cases q2 : 0 ≤ y.toInt ∧ y.toInt ≤ 2
    · rw [if_pos q2] at hin
      by_cases q3 : z.toInt ≤ 60
      · have q3' : (60 < z) = False := eq_false (fun e => by have := Int32.lt_iff_toInt_lt.mp e; omega)
        by_cases q4 : z.toInt < 0
        · have q4' : (z < 0) = True := eq_true (Int32.lt_iff_toInt_lt.mpr (by simpa using q4))
          refine Or.inr (Or.inr (Or.inl ⟨q1, ⟨q2, q3⟩, q4, ?_⟩))
          simp (disch := omega) only [sX9_sheet_0, sX9_sheet_1, sX9_sheet_4, sX9_sheet_7, sX9_sheet_8, sX9_sheet_9, sX9_sheet_12, sX9_sheet_13, sX9_sheet_14, sX9_sheet_15, sX9_sheet_16, sX9_sheet_19, sX9_sheet_22, sX9_sheet_25, sX9_sheet_26, sX9_sheet_28, sX9_sheet_31, sX9_sheet_32, sX9_sheet_34, sX9_sheet_37, sX9_sheet_38, sX9_sheet_39, sX9_sheet_42, sX9_sheet_43, sX9_sheet_44, sX9_sheet_47, ↓reduceIte, if_true, if_false, Option.bind_some, Option.bind_none, Option.toList_some, Option.toList_none, List.cons_append, List.nil_append, Option.elim_some, true_or, or_true, or_false, false_or, true_and, and_true, and_false, false_and, zio1, zio0, zio01, not_true_eq_false, not_false_eq_true, h1, hin, q3', q4', kX9_failed]
          rfl
        · have q4' : (z < 0) = False := eq_false (fun e => q4 (by have := Int32.lt_iff_toInt_lt.mp e; simpa using this))
          refine Or.inr (Or.inr (Or.inr ?_))
          have hx := nI_back q1.1
          have hy := nI_back q2.1
          have hz := nI_back (x := z) (by omega)
          generalize hk : x.toInt.toNat = k at hx
          generalize hm : y.toInt.toNat = m at hy
          generalize hn : z.toInt.toNat = n at hz
          subst hx hy hz
          refine ⟨k, m, n, by omega, by omega, by omega, rfl, rfl, rfl, ?_⟩
          obtain ⟨g', a1, a2, a3, a4⟩ := kX9_sh_loop (L := L) (xs := xs) (t := t) (k := k) (n := n) (lane := some (.int (nI m))) (by omega) (by omega) n 0 (zu (zu g 65 k (nI n)) 66 k (nI m)) (by omega) (fun i hi => absurd hi (by omega))
          refine ⟨g', a1, a2, fun q hq => (a3 q hq).trans (by simp [zu]), ?_⟩
          rw [nI_0] at a4
          simp (disch := omega) only [sX9_sheet_0, sX9_sheet_1, sX9_sheet_4, sX9_sheet_7, sX9_sheet_8, sX9_sheet_9, sX9_sheet_12, sX9_sheet_13, sX9_sheet_14, sX9_sheet_15, sX9_sheet_16, sX9_sheet_19, sX9_sheet_22, sX9_sheet_25, sX9_sheet_26, sX9_sheet_28, sX9_sheet_31, sX9_sheet_32, sX9_sheet_34, sX9_sheet_37, sX9_sheet_38, sX9_sheet_39, sX9_sheet_42, sX9_sheet_43, sX9_sheet_44, sX9_sheet_47, sX9_sheet_48, sX9_sheet_49, sX9_sheet_52, sX9_sheet_53, sX9_sheet_54, sX9_sheet_55, sX9_sheet_56, sX9_sheet_59, sX9_sheet_60, sX9_sheet_61, sX9_sheet_62, sX9_sheet_63, ↓reduceIte, if_true, if_false, Option.bind_some, Option.bind_none, Option.toList_some, Option.toList_none, List.cons_append, List.nil_append, Option.elim_some, true_or, or_true, or_false, false_or, true_and, and_true, and_false, false_and, zio1, zio0, zio01, not_true_eq_false, not_false_eq_true, nlt, neq, nlt0, n0lt, neq0, neq1, nm9, m9n, nadd, nadd1, nmul, ncl, zin_t, h1, hin, q3', q4']
          exact a4
      · have q3' : (60 < z) = True := eq_true (Int32.lt_iff_toInt_lt.mpr (by omega))
        refine Or.inr (Or.inl ⟨q1, fun q => q3 q.2, ?_⟩)
        simp (disch := omega) only [sX9_sheet_0, sX9_sheet_1, sX9_sheet_4, sX9_sheet_7, sX9_sheet_8, sX9_sheet_9, sX9_sheet_12, sX9_sheet_13, sX9_sheet_14, sX9_sheet_15, sX9_sheet_16, sX9_sheet_19, sX9_sheet_22, sX9_sheet_25, sX9_sheet_26, sX9_sheet_28, sX9_sheet_31, sX9_sheet_32, sX9_sheet_34, sX9_sheet_37, sX9_sheet_38, sX9_sheet_39, sX9_sheet_42, sX9_sheet_43, sX9_sheet_44, sX9_sheet_47, ↓reduceIte, if_true, if_false, Option.bind_some, Option.bind_none, Option.toList_some, Option.toList_none, List.cons_append, List.nil_append, Option.elim_some, true_or, or_true, or_false, false_or, true_and, and_true, and_false, false_and, zio1, zio0, zio01, not_true_eq_false, not_false_eq_true, h1, hin, q3', kX9_refused]
    · rw [if_neg q2] at hin
      refine Or.inr (Or.inl ⟨q1, fun q => q2 q.1, ?_⟩)
      simp (disch := omega) only [sX9_sheet_0, sX9_sheet_1, sX9_sheet_4, sX9_sheet_7, sX9_sheet_8, sX9_sheet_9, sX9_sheet_12, sX9_sheet_13, sX9_sheet_14, sX9_sheet_15, sX9_sheet_16, sX9_sheet_19, sX9_sheet_22, sX9_sheet_25, sX9_sheet_26, sX9_sheet_28, sX9_sheet_31, sX9_sheet_32, sX9_sheet_34, sX9_sheet_37, sX9_sheet_38, sX9_sheet_39, sX9_sheet_42, sX9_sheet_43, sX9_sheet_44, sX9_sheet_47, ↓reduceIte, if_true, if_false, Option.bind_some, Option.bind_none, Option.toList_some, Option.toList_none, List.cons_append, List.nil_append, Option.elim_some, true_or, or_true, or_false, false_or, true_and, and_true, and_false, false_and, zio1, zio0, zio01, not_true_eq_false, not_false_eq_true, h1, hin, kX9_refused]
  · rw [if_neg q1] at h1
    refine Or.inl ⟨q1, ?_⟩
    simp (disch := omega) only [sX9_sheet_0, sX9_sheet_1, sX9_sheet_4, sX9_sheet_7, sX9_sheet_8, sX9_sheet_9, sX9_sheet_12, sX9_sheet_13, sX9_sheet_14, sX9_sheet_15, sX9_sheet_16, sX9_sheet_19, sX9_sheet_22, sX9_sheet_25, sX9_sheet_26, sX9_sheet_28, sX9_sheet_31, sX9_sheet_32, sX9_sheet_34, sX9_sheet_37, sX9_sheet_38, sX9_sheet_39, sX9_sheet_42, sX9_sheet_43, sX9_sheet_44, sX9_sheet_47, ↓reduceIte, if_true, if_false, Option.bind_some, Option.bind_none, Option.toList_some, Option.toList_none, List.cons_append, List.nil_append, Option.elim_some, true_or, or_true, or_false, false_or, true_and, and_true, and_false, false_and, zio1, zio0, zio01, not_true_eq_false, not_false_eq_true, h1, kX9_refused]
end M10
