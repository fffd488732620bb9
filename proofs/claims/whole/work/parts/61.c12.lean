/-! The class: small calls, guests, readings. -/
section C12
variable {L : Nat} {xs : Nat → Int32} {g g' : Nat → Nat → Int32} {t : Nat → Int64}
variable {H S G R : Nat} {kd bd gv rs dr w f l rh rd rt : Nat → Nat} {row : Nat → Int32}
theorem pX8_trace : go L xs 76 69 0 [some (.ref 0)] [] (hp g t) = some (some (.int (g 0 9)), hp g t) := by
  simp only [sX8_trace_0, sX8_trace_1, sX8_trace_4]
theorem pX8_fault : go L xs 77 69 0 [some (.ref 0)] [] (hp g t) = some (some (.int (g 0 10)), hp g t) := by
  simp only [sX8_fault_0, sX8_fault_1, sX8_fault_4]
theorem pX8_many {x : Int32} : go L xs 78 69 0 [some (.ref 0), some (.int x)] [] (hp g t) = some (some (.int (if x = 0 then g 1 1 else if x = 1 then g 1 2 else if x = 2 then g 10 5 else if x = 3 then g 15 3 else -2)), hp g t) := by
  by_cases q0 : x = 0
  · subst q0; simp only [sX8_many_0, sX8_many_1_c0, sX8_many_1_c1, sX8_many_1_c2, sX8_many_1_c3, sX8_many_32, sX8_many_33, sX8_many_36, sX8_many_39, sX8_many_40, sX8_many_41, sX8_many_44, sX8_many_47, sX8_many_48, sX8_many_49, sX8_many_52, sX8_many_55, sX8_many_56, sX8_many_57, sX8_many_60, sX8_many_63, sX8_many_64, sX8_many_66, ↓reduceIte, if_true, if_false, Option.bind_some, Option.bind_none, Option.toList_some, Option.toList_none, List.cons_append, List.nil_append, Option.elim_some, true_or, or_true, or_false, false_or, true_and, and_true, and_false, false_and, zio1, zio0, zio01, not_true_eq_false, not_false_eq_true]
  by_cases q1 : x = 1
  · subst q1; simp only [sX8_many_0, sX8_many_1_c0, sX8_many_1_c1, sX8_many_1_c2, sX8_many_1_c3, sX8_many_32, sX8_many_33, sX8_many_36, sX8_many_39, sX8_many_40, sX8_many_41, sX8_many_44, sX8_many_47, sX8_many_48, sX8_many_49, sX8_many_52, sX8_many_55, sX8_many_56, sX8_many_57, sX8_many_60, sX8_many_63, sX8_many_64, sX8_many_66, ↓reduceIte, if_true, if_false, Option.bind_some, Option.bind_none, Option.toList_some, Option.toList_none, List.cons_append, List.nil_append, Option.elim_some, true_or, or_true, or_false, false_or, true_and, and_true, and_false, false_and, zio1, zio0, zio01, not_true_eq_false, not_false_eq_true]
  by_cases q2 : x = 2
  · subst q2; simp only [sX8_many_0, sX8_many_1_c0, sX8_many_1_c1, sX8_many_1_c2, sX8_many_1_c3, sX8_many_32, sX8_many_33, sX8_many_36, sX8_many_39, sX8_many_40, sX8_many_41, sX8_many_44, sX8_many_47, sX8_many_48, sX8_many_49, sX8_many_52, sX8_many_55, sX8_many_56, sX8_many_57, sX8_many_60, sX8_many_63, sX8_many_64, sX8_many_66, ↓reduceIte, if_true, if_false, Option.bind_some, Option.bind_none, Option.toList_some, Option.toList_none, List.cons_append, List.nil_append, Option.elim_some, true_or, or_true, or_false, false_or, true_and, and_true, and_false, false_and, zio1, zio0, zio01, not_true_eq_false, not_false_eq_true, (show ((2 : Int32) = 0) = False by decide), (show ((2 : Int32) = 1) = False by decide)]
  by_cases q3 : x = 3
  · subst q3; simp only [sX8_many_0, sX8_many_1_c0, sX8_many_1_c1, sX8_many_1_c2, sX8_many_1_c3, sX8_many_32, sX8_many_33, sX8_many_36, sX8_many_39, sX8_many_40, sX8_many_41, sX8_many_44, sX8_many_47, sX8_many_48, sX8_many_49, sX8_many_52, sX8_many_55, sX8_many_56, sX8_many_57, sX8_many_60, sX8_many_63, sX8_many_64, sX8_many_66, ↓reduceIte, if_true, if_false, Option.bind_some, Option.bind_none, Option.toList_some, Option.toList_none, List.cons_append, List.nil_append, Option.elim_some, true_or, or_true, or_false, false_or, true_and, and_true, and_false, false_and, zio1, zio0, zio01, not_true_eq_false, not_false_eq_true, (show ((3 : Int32) = 0) = False by decide), (show ((3 : Int32) = 1) = False by decide), (show ((3 : Int32) = 2) = False by decide)]
  have hx : x.toInt < 0 ∨ 3 < x.toInt := by
    have a0 : x.toInt ≠ 0 := fun z => q0 (tI_eq (z.trans tI_0.symm))
    have a1 : x.toInt ≠ 1 := fun z => q1 (tI_eq (z.trans tI_1.symm))
    have a2 : x.toInt ≠ 2 := fun z => q2 (tI_eq (z.trans tI_2.symm))
    have a3 : x.toInt ≠ 3 := fun z => q3 (tI_eq (z.trans tI_3.symm))
    omega
  simp only [sX8_many_0, sX8_many_1_c0, sX8_many_1_c1, sX8_many_1_c2, sX8_many_1_c3, sX8_many_32, sX8_many_33, sX8_many_36, sX8_many_39, sX8_many_40, sX8_many_41, sX8_many_44, sX8_many_47, sX8_many_48, sX8_many_49, sX8_many_52, sX8_many_55, sX8_many_56, sX8_many_57, sX8_many_60, sX8_many_63, sX8_many_64, sX8_many_66, sX8_many_1_d (sw_t hx), ↓reduceIte, if_true, if_false, Option.bind_some, Option.bind_none, Option.toList_some, Option.toList_none, List.cons_append, List.nil_append, Option.elim_some, true_or, or_true, or_false, false_or, true_and, and_true, and_false, false_and, zio1, zio0, zio01, not_true_eq_false, not_false_eq_true, q0, q1, q2, q3]
theorem pX8_ofHouse (hT : CTn g H S kd bd gv rs dr) {x y : Int32} : go L xs 49 69 0 [some (.ref 0), some (.int x), some (.int y), none] [] (hp g t) = some (some (.int (if 0 ≤ x.toInt ∧ x.toInt < H then (if y = 0 then nI (kd x.toInt.toNat) else if y = 1 then nI (bd x.toInt.toNat) else if y = 2 then nI (gv x.toInt.toNat) else if y = 3 then nI (rs x.toInt.toNat) else if y = 4 then nI (dr x.toInt.toNat) else -2) else -1)), hp g t) := by
  have h1 := kX7_has (L := L) (xs := xs) (t := t) (x := x) hT
  have h7 := hT.2.1
  by_cases q : 0 ≤ x.toInt ∧ x.toInt < H
  · rw [if_pos q] at h1 ⊢
    have hx := nI_back q.1
    generalize hk : x.toInt.toNat = k at hx
    subst hx
    obtain ⟨z1, z2⟩ := hob (h := k) (by omega)
    obtain ⟨⟨a1, -⟩, ⟨a2, -⟩, ⟨a3, -⟩, ⟨a4, -⟩, ⟨a5, -⟩⟩ := hT.2.2.2.2 k (by omega)
    by_cases q0 : y = 0
    · subst q0; simp (disch := omega) only [sX8_ofHouse_0, sX8_ofHouse_1, sX8_ofHouse_4, sX8_ofHouse_5, sX8_ofHouse_8, sX8_ofHouse_11, sX8_ofHouse_12, sX8_ofHouse_13, sX8_ofHouse_14, sX8_ofHouse_17, sX8_ofHouse_20, sX8_ofHouse_21, sX8_ofHouse_22, sX8_ofHouse_23, sX8_ofHouse_24_c0, sX8_ofHouse_24_c1, sX8_ofHouse_24_c2, sX8_ofHouse_24_c3, sX8_ofHouse_24_c4, sX8_ofHouse_60, sX8_ofHouse_61, sX8_ofHouse_64, sX8_ofHouse_65, sX8_ofHouse_66, sX8_ofHouse_69, sX8_ofHouse_70, sX8_ofHouse_71, sX8_ofHouse_74, sX8_ofHouse_75, sX8_ofHouse_76, sX8_ofHouse_79, sX8_ofHouse_80, sX8_ofHouse_81, sX8_ofHouse_84, sX8_ofHouse_85, sX8_ofHouse_87, ↓reduceIte, if_true, if_false, Option.bind_some, Option.bind_none, Option.toList_some, Option.toList_none, List.cons_append, List.nil_append, Option.elim_some, true_or, or_true, or_false, false_or, true_and, and_true, and_false, false_and, zio1, zio0, zio01, not_true_eq_false, not_false_eq_true, h1, nlt, neq, nlt0, n0lt, neq0, neq1, nm9, m9n, nadd, nadd1, nmul, ncl, zin_t, z1, z2, a1]
    by_cases q1 : y = 1
    · subst q1; simp (disch := omega) only [sX8_ofHouse_0, sX8_ofHouse_1, sX8_ofHouse_4, sX8_ofHouse_5, sX8_ofHouse_8, sX8_ofHouse_11, sX8_ofHouse_12, sX8_ofHouse_13, sX8_ofHouse_14, sX8_ofHouse_17, sX8_ofHouse_20, sX8_ofHouse_21, sX8_ofHouse_22, sX8_ofHouse_23, sX8_ofHouse_24_c0, sX8_ofHouse_24_c1, sX8_ofHouse_24_c2, sX8_ofHouse_24_c3, sX8_ofHouse_24_c4, sX8_ofHouse_60, sX8_ofHouse_61, sX8_ofHouse_64, sX8_ofHouse_65, sX8_ofHouse_66, sX8_ofHouse_69, sX8_ofHouse_70, sX8_ofHouse_71, sX8_ofHouse_74, sX8_ofHouse_75, sX8_ofHouse_76, sX8_ofHouse_79, sX8_ofHouse_80, sX8_ofHouse_81, sX8_ofHouse_84, sX8_ofHouse_85, sX8_ofHouse_87, ↓reduceIte, if_true, if_false, Option.bind_some, Option.bind_none, Option.toList_some, Option.toList_none, List.cons_append, List.nil_append, Option.elim_some, true_or, or_true, or_false, false_or, true_and, and_true, and_false, false_and, zio1, zio0, zio01, not_true_eq_false, not_false_eq_true, h1, nlt, neq, nlt0, n0lt, neq0, neq1, nm9, m9n, nadd, nadd1, nmul, ncl, zin_t, z1, z2, a2]
    by_cases q2 : y = 2
    · subst q2; simp (disch := omega) only [sX8_ofHouse_0, sX8_ofHouse_1, sX8_ofHouse_4, sX8_ofHouse_5, sX8_ofHouse_8, sX8_ofHouse_11, sX8_ofHouse_12, sX8_ofHouse_13, sX8_ofHouse_14, sX8_ofHouse_17, sX8_ofHouse_20, sX8_ofHouse_21, sX8_ofHouse_22, sX8_ofHouse_23, sX8_ofHouse_24_c0, sX8_ofHouse_24_c1, sX8_ofHouse_24_c2, sX8_ofHouse_24_c3, sX8_ofHouse_24_c4, sX8_ofHouse_60, sX8_ofHouse_61, sX8_ofHouse_64, sX8_ofHouse_65, sX8_ofHouse_66, sX8_ofHouse_69, sX8_ofHouse_70, sX8_ofHouse_71, sX8_ofHouse_74, sX8_ofHouse_75, sX8_ofHouse_76, sX8_ofHouse_79, sX8_ofHouse_80, sX8_ofHouse_81, sX8_ofHouse_84, sX8_ofHouse_85, sX8_ofHouse_87, ↓reduceIte, if_true, if_false, Option.bind_some, Option.bind_none, Option.toList_some, Option.toList_none, List.cons_append, List.nil_append, Option.elim_some, true_or, or_true, or_false, false_or, true_and, and_true, and_false, false_and, zio1, zio0, zio01, not_true_eq_false, not_false_eq_true, h1, nlt, neq, nlt0, n0lt, neq0, neq1, nm9, m9n, nadd, nadd1, nmul, ncl, zin_t, z1, z2, a3, (show ((2 : Int32) = 0) = False by decide), (show ((2 : Int32) = 1) = False by decide)]
    by_cases q3 : y = 3
    · subst q3; simp (disch := omega) only [sX8_ofHouse_0, sX8_ofHouse_1, sX8_ofHouse_4, sX8_ofHouse_5, sX8_ofHouse_8, sX8_ofHouse_11, sX8_ofHouse_12, sX8_ofHouse_13, sX8_ofHouse_14, sX8_ofHouse_17, sX8_ofHouse_20, sX8_ofHouse_21, sX8_ofHouse_22, sX8_ofHouse_23, sX8_ofHouse_24_c0, sX8_ofHouse_24_c1, sX8_ofHouse_24_c2, sX8_ofHouse_24_c3, sX8_ofHouse_24_c4, sX8_ofHouse_60, sX8_ofHouse_61, sX8_ofHouse_64, sX8_ofHouse_65, sX8_ofHouse_66, sX8_ofHouse_69, sX8_ofHouse_70, sX8_ofHouse_71, sX8_ofHouse_74, sX8_ofHouse_75, sX8_ofHouse_76, sX8_ofHouse_79, sX8_ofHouse_80, sX8_ofHouse_81, sX8_ofHouse_84, sX8_ofHouse_85, sX8_ofHouse_87, ↓reduceIte, if_true, if_false, Option.bind_some, Option.bind_none, Option.toList_some, Option.toList_none, List.cons_append, List.nil_append, Option.elim_some, true_or, or_true, or_false, false_or, true_and, and_true, and_false, false_and, zio1, zio0, zio01, not_true_eq_false, not_false_eq_true, h1, nlt, neq, nlt0, n0lt, neq0, neq1, nm9, m9n, nadd, nadd1, nmul, ncl, zin_t, z1, z2, a4, (show ((3 : Int32) = 0) = False by decide), (show ((3 : Int32) = 1) = False by decide), (show ((3 : Int32) = 2) = False by decide)]
    by_cases q4 : y = 4
    · subst q4; simp (disch := omega) only [sX8_ofHouse_0, sX8_ofHouse_1, sX8_ofHouse_4, sX8_ofHouse_5, sX8_ofHouse_8, sX8_ofHouse_11, sX8_ofHouse_12, sX8_ofHouse_13, sX8_ofHouse_14, sX8_ofHouse_17, sX8_ofHouse_20, sX8_ofHouse_21, sX8_ofHouse_22, sX8_ofHouse_23, sX8_ofHouse_24_c0, sX8_ofHouse_24_c1, sX8_ofHouse_24_c2, sX8_ofHouse_24_c3, sX8_ofHouse_24_c4, sX8_ofHouse_60, sX8_ofHouse_61, sX8_ofHouse_64, sX8_ofHouse_65, sX8_ofHouse_66, sX8_ofHouse_69, sX8_ofHouse_70, sX8_ofHouse_71, sX8_ofHouse_74, sX8_ofHouse_75, sX8_ofHouse_76, sX8_ofHouse_79, sX8_ofHouse_80, sX8_ofHouse_81, sX8_ofHouse_84, sX8_ofHouse_85, sX8_ofHouse_87, ↓reduceIte, if_true, if_false, Option.bind_some, Option.bind_none, Option.toList_some, Option.toList_none, List.cons_append, List.nil_append, Option.elim_some, true_or, or_true, or_false, false_or, true_and, and_true, and_false, false_and, zio1, zio0, zio01, not_true_eq_false, not_false_eq_true, h1, nlt, neq, nlt0, n0lt, neq0, neq1, nm9, m9n, nadd, nadd1, nmul, ncl, zin_t, z1, z2, a5, (show ((4 : Int32) = 0) = False by decide), (show ((4 : Int32) = 1) = False by decide), (show ((4 : Int32) = 2) = False by decide), (show ((4 : Int32) = 3) = False by decide)]
    have hx : y.toInt < 0 ∨ 4 < y.toInt := by
      have a0 : y.toInt ≠ 0 := fun z => q0 (tI_eq (z.trans tI_0.symm))
      have a1 : y.toInt ≠ 1 := fun z => q1 (tI_eq (z.trans tI_1.symm))
      have a2 : y.toInt ≠ 2 := fun z => q2 (tI_eq (z.trans tI_2.symm))
      have a3 : y.toInt ≠ 3 := fun z => q3 (tI_eq (z.trans tI_3.symm))
      have a4 : y.toInt ≠ 4 := fun z => q4 (tI_eq (z.trans tI_4.symm))
      omega
    simp (disch := omega) only [sX8_ofHouse_0, sX8_ofHouse_1, sX8_ofHouse_4, sX8_ofHouse_5, sX8_ofHouse_8, sX8_ofHouse_11, sX8_ofHouse_12, sX8_ofHouse_13, sX8_ofHouse_14, sX8_ofHouse_17, sX8_ofHouse_20, sX8_ofHouse_21, sX8_ofHouse_22, sX8_ofHouse_23, sX8_ofHouse_24_c0, sX8_ofHouse_24_c1, sX8_ofHouse_24_c2, sX8_ofHouse_24_c3, sX8_ofHouse_24_c4, sX8_ofHouse_60, sX8_ofHouse_61, sX8_ofHouse_64, sX8_ofHouse_65, sX8_ofHouse_66, sX8_ofHouse_69, sX8_ofHouse_70, sX8_ofHouse_71, sX8_ofHouse_74, sX8_ofHouse_75, sX8_ofHouse_76, sX8_ofHouse_79, sX8_ofHouse_80, sX8_ofHouse_81, sX8_ofHouse_84, sX8_ofHouse_85, sX8_ofHouse_87, sX8_ofHouse_24_d (sw_t hx), ↓reduceIte, if_true, if_false, Option.bind_some, Option.bind_none, Option.toList_some, Option.toList_none, List.cons_append, List.nil_append, Option.elim_some, true_or, or_true, or_false, false_or, true_and, and_true, and_false, false_and, zio1, zio0, zio01, not_true_eq_false, not_false_eq_true, nlt, neq, nlt0, n0lt, neq0, neq1, nm9, m9n, nadd, nadd1, nmul, ncl, zin_t, z1, h1, q0, q1, q2, q3, q4]
  · rw [if_neg q] at h1 ⊢
    simp only [sX8_ofHouse_0, sX8_ofHouse_1, sX8_ofHouse_4, sX8_ofHouse_5, sX8_ofHouse_8, sX8_ofHouse_11, sX8_ofHouse_12, sX8_ofHouse_13, sX8_ofHouse_14, sX8_ofHouse_17, sX8_ofHouse_20, sX8_ofHouse_21, sX8_ofHouse_22, sX8_ofHouse_23, sX8_ofHouse_24_c0, sX8_ofHouse_24_c1, sX8_ofHouse_24_c2, sX8_ofHouse_24_c3, sX8_ofHouse_24_c4, sX8_ofHouse_60, sX8_ofHouse_61, sX8_ofHouse_64, sX8_ofHouse_65, sX8_ofHouse_66, sX8_ofHouse_69, sX8_ofHouse_70, sX8_ofHouse_71, sX8_ofHouse_74, sX8_ofHouse_75, sX8_ofHouse_76, sX8_ofHouse_79, sX8_ofHouse_80, sX8_ofHouse_81, sX8_ofHouse_84, sX8_ofHouse_85, sX8_ofHouse_87, ↓reduceIte, if_true, if_false, Option.bind_some, Option.bind_none, Option.toList_some, Option.toList_none, List.cons_append, List.nil_append, Option.elim_some, true_or, or_true, or_false, false_or, true_and, and_true, and_false, false_and, zio1, zio0, zio01, not_true_eq_false, not_false_eq_true, h1]
theorem pX8_ofGuest (hG : CGs g H G w f l row) {x y : Int32} : go L xs 51 69 0 [some (.ref 0), some (.int x), some (.int y)] [] (hp g t) = some (some (.int (if 0 ≤ x.toInt ∧ x.toInt < G then (if y = 0 then nI (w x.toInt.toNat) else if y = 1 then nI (f x.toInt.toNat) else if y = 2 then nI (l x.toInt.toNat) else if y = 3 then row x.toInt.toNat else -2) else -1)), hp g t) := by
  have h1 := kX0_has (L := L) (xs := xs) (t := t) (x := x) hG
  have h7 := hG.2.1
  by_cases q : 0 ≤ x.toInt ∧ x.toInt < G
  · rw [if_pos q] at h1 ⊢
    have hx := nI_back q.1
    generalize hk : x.toInt.toNat = k at hx
    subst hx
    obtain ⟨⟨a1, -⟩, a2, a3, -, -, a4, -⟩ := hG.2.2.1 k (by omega)
    by_cases q0 : y = 0
    · subst q0; simp (disch := omega) only [sX8_ofGuest_0, sX8_ofGuest_1, sX8_ofGuest_4, sX8_ofGuest_5, sX8_ofGuest_8, sX8_ofGuest_11, sX8_ofGuest_12, sX8_ofGuest_13, sX8_ofGuest_14_c0, sX8_ofGuest_14_c1, sX8_ofGuest_14_c2, sX8_ofGuest_14_c3, sX8_ofGuest_44, sX8_ofGuest_45, sX8_ofGuest_48, sX8_ofGuest_51, sX8_ofGuest_52, sX8_ofGuest_53, sX8_ofGuest_54, sX8_ofGuest_55, sX8_ofGuest_58, sX8_ofGuest_61, sX8_ofGuest_62, sX8_ofGuest_63, sX8_ofGuest_64, sX8_ofGuest_65, sX8_ofGuest_68, sX8_ofGuest_71, sX8_ofGuest_72, sX8_ofGuest_73, sX8_ofGuest_74, sX8_ofGuest_75, sX8_ofGuest_78, sX8_ofGuest_81, sX8_ofGuest_82, sX8_ofGuest_83, sX8_ofGuest_84, sX8_ofGuest_86, ↓reduceIte, if_true, if_false, Option.bind_some, Option.bind_none, Option.toList_some, Option.toList_none, List.cons_append, List.nil_append, Option.elim_some, true_or, or_true, or_false, false_or, true_and, and_true, and_false, false_and, zio1, zio0, zio01, not_true_eq_false, not_false_eq_true, h1, nlt, neq, nlt0, n0lt, neq0, neq1, nm9, m9n, nadd, nadd1, nmul, ncl, zin_t, a1]
    by_cases q1 : y = 1
    · subst q1; simp (disch := omega) only [sX8_ofGuest_0, sX8_ofGuest_1, sX8_ofGuest_4, sX8_ofGuest_5, sX8_ofGuest_8, sX8_ofGuest_11, sX8_ofGuest_12, sX8_ofGuest_13, sX8_ofGuest_14_c0, sX8_ofGuest_14_c1, sX8_ofGuest_14_c2, sX8_ofGuest_14_c3, sX8_ofGuest_44, sX8_ofGuest_45, sX8_ofGuest_48, sX8_ofGuest_51, sX8_ofGuest_52, sX8_ofGuest_53, sX8_ofGuest_54, sX8_ofGuest_55, sX8_ofGuest_58, sX8_ofGuest_61, sX8_ofGuest_62, sX8_ofGuest_63, sX8_ofGuest_64, sX8_ofGuest_65, sX8_ofGuest_68, sX8_ofGuest_71, sX8_ofGuest_72, sX8_ofGuest_73, sX8_ofGuest_74, sX8_ofGuest_75, sX8_ofGuest_78, sX8_ofGuest_81, sX8_ofGuest_82, sX8_ofGuest_83, sX8_ofGuest_84, sX8_ofGuest_86, ↓reduceIte, if_true, if_false, Option.bind_some, Option.bind_none, Option.toList_some, Option.toList_none, List.cons_append, List.nil_append, Option.elim_some, true_or, or_true, or_false, false_or, true_and, and_true, and_false, false_and, zio1, zio0, zio01, not_true_eq_false, not_false_eq_true, h1, nlt, neq, nlt0, n0lt, neq0, neq1, nm9, m9n, nadd, nadd1, nmul, ncl, zin_t, a2]
    by_cases q2 : y = 2
    · subst q2; simp (disch := omega) only [sX8_ofGuest_0, sX8_ofGuest_1, sX8_ofGuest_4, sX8_ofGuest_5, sX8_ofGuest_8, sX8_ofGuest_11, sX8_ofGuest_12, sX8_ofGuest_13, sX8_ofGuest_14_c0, sX8_ofGuest_14_c1, sX8_ofGuest_14_c2, sX8_ofGuest_14_c3, sX8_ofGuest_44, sX8_ofGuest_45, sX8_ofGuest_48, sX8_ofGuest_51, sX8_ofGuest_52, sX8_ofGuest_53, sX8_ofGuest_54, sX8_ofGuest_55, sX8_ofGuest_58, sX8_ofGuest_61, sX8_ofGuest_62, sX8_ofGuest_63, sX8_ofGuest_64, sX8_ofGuest_65, sX8_ofGuest_68, sX8_ofGuest_71, sX8_ofGuest_72, sX8_ofGuest_73, sX8_ofGuest_74, sX8_ofGuest_75, sX8_ofGuest_78, sX8_ofGuest_81, sX8_ofGuest_82, sX8_ofGuest_83, sX8_ofGuest_84, sX8_ofGuest_86, ↓reduceIte, if_true, if_false, Option.bind_some, Option.bind_none, Option.toList_some, Option.toList_none, List.cons_append, List.nil_append, Option.elim_some, true_or, or_true, or_false, false_or, true_and, and_true, and_false, false_and, zio1, zio0, zio01, not_true_eq_false, not_false_eq_true, h1, nlt, neq, nlt0, n0lt, neq0, neq1, nm9, m9n, nadd, nadd1, nmul, ncl, zin_t, a3, (show ((2 : Int32) = 0) = False by decide), (show ((2 : Int32) = 1) = False by decide)]
    by_cases q3 : y = 3
    · subst q3; simp (disch := omega) only [sX8_ofGuest_0, sX8_ofGuest_1, sX8_ofGuest_4, sX8_ofGuest_5, sX8_ofGuest_8, sX8_ofGuest_11, sX8_ofGuest_12, sX8_ofGuest_13, sX8_ofGuest_14_c0, sX8_ofGuest_14_c1, sX8_ofGuest_14_c2, sX8_ofGuest_14_c3, sX8_ofGuest_44, sX8_ofGuest_45, sX8_ofGuest_48, sX8_ofGuest_51, sX8_ofGuest_52, sX8_ofGuest_53, sX8_ofGuest_54, sX8_ofGuest_55, sX8_ofGuest_58, sX8_ofGuest_61, sX8_ofGuest_62, sX8_ofGuest_63, sX8_ofGuest_64, sX8_ofGuest_65, sX8_ofGuest_68, sX8_ofGuest_71, sX8_ofGuest_72, sX8_ofGuest_73, sX8_ofGuest_74, sX8_ofGuest_75, sX8_ofGuest_78, sX8_ofGuest_81, sX8_ofGuest_82, sX8_ofGuest_83, sX8_ofGuest_84, sX8_ofGuest_86, ↓reduceIte, if_true, if_false, Option.bind_some, Option.bind_none, Option.toList_some, Option.toList_none, List.cons_append, List.nil_append, Option.elim_some, true_or, or_true, or_false, false_or, true_and, and_true, and_false, false_and, zio1, zio0, zio01, not_true_eq_false, not_false_eq_true, h1, nlt, neq, nlt0, n0lt, neq0, neq1, nm9, m9n, nadd, nadd1, nmul, ncl, zin_t, a4, (show ((3 : Int32) = 0) = False by decide), (show ((3 : Int32) = 1) = False by decide), (show ((3 : Int32) = 2) = False by decide)]
    have hx : y.toInt < 0 ∨ 3 < y.toInt := by
      have a0 : y.toInt ≠ 0 := fun z => q0 (tI_eq (z.trans tI_0.symm))
      have a1 : y.toInt ≠ 1 := fun z => q1 (tI_eq (z.trans tI_1.symm))
      have a2 : y.toInt ≠ 2 := fun z => q2 (tI_eq (z.trans tI_2.symm))
      have a3 : y.toInt ≠ 3 := fun z => q3 (tI_eq (z.trans tI_3.symm))
      omega
    simp (disch := omega) only [sX8_ofGuest_0, sX8_ofGuest_1, sX8_ofGuest_4, sX8_ofGuest_5, sX8_ofGuest_8, sX8_ofGuest_11, sX8_ofGuest_12, sX8_ofGuest_13, sX8_ofGuest_14_c0, sX8_ofGuest_14_c1, sX8_ofGuest_14_c2, sX8_ofGuest_14_c3, sX8_ofGuest_44, sX8_ofGuest_45, sX8_ofGuest_48, sX8_ofGuest_51, sX8_ofGuest_52, sX8_ofGuest_53, sX8_ofGuest_54, sX8_ofGuest_55, sX8_ofGuest_58, sX8_ofGuest_61, sX8_ofGuest_62, sX8_ofGuest_63, sX8_ofGuest_64, sX8_ofGuest_65, sX8_ofGuest_68, sX8_ofGuest_71, sX8_ofGuest_72, sX8_ofGuest_73, sX8_ofGuest_74, sX8_ofGuest_75, sX8_ofGuest_78, sX8_ofGuest_81, sX8_ofGuest_82, sX8_ofGuest_83, sX8_ofGuest_84, sX8_ofGuest_86, sX8_ofGuest_14_d (sw_t hx), ↓reduceIte, if_true, if_false, Option.bind_some, Option.bind_none, Option.toList_some, Option.toList_none, List.cons_append, List.nil_append, Option.elim_some, true_or, or_true, or_false, false_or, true_and, and_true, and_false, false_and, zio1, zio0, zio01, not_true_eq_false, not_false_eq_true, h1, q0, q1, q2, q3]
  · rw [if_neg q] at h1 ⊢
    simp only [sX8_ofGuest_0, sX8_ofGuest_1, sX8_ofGuest_4, sX8_ofGuest_5, sX8_ofGuest_8, sX8_ofGuest_11, sX8_ofGuest_12, sX8_ofGuest_13, sX8_ofGuest_14_c0, sX8_ofGuest_14_c1, sX8_ofGuest_14_c2, sX8_ofGuest_14_c3, sX8_ofGuest_44, sX8_ofGuest_45, sX8_ofGuest_48, sX8_ofGuest_51, sX8_ofGuest_52, sX8_ofGuest_53, sX8_ofGuest_54, sX8_ofGuest_55, sX8_ofGuest_58, sX8_ofGuest_61, sX8_ofGuest_62, sX8_ofGuest_63, sX8_ofGuest_64, sX8_ofGuest_65, sX8_ofGuest_68, sX8_ofGuest_71, sX8_ofGuest_72, sX8_ofGuest_73, sX8_ofGuest_74, sX8_ofGuest_75, sX8_ofGuest_78, sX8_ofGuest_81, sX8_ofGuest_82, sX8_ofGuest_83, sX8_ofGuest_84, sX8_ofGuest_86, ↓reduceIte, if_true, if_false, Option.bind_some, Option.bind_none, Option.toList_some, Option.toList_none, List.cons_append, List.nil_append, Option.elim_some, true_or, or_true, or_false, false_or, true_and, and_true, and_false, false_and, zio1, zio0, zio01, not_true_eq_false, not_false_eq_true, h1]
theorem kX8_leaveTrace {n : Int32} : go L xs 90 69 0 [some (.ref 0), some (.int n)] [] (hp g t) = some (none, hp (zu g 0 9 (31 * g 0 9 + n)) t) := by
  simp only [sX8_leaveTrace_0, sX8_leaveTrace_1, sX8_leaveTrace_3, sX8_leaveTrace_4, sX8_leaveTrace_7, sX8_leaveTrace_8, sX8_leaveTrace_9, sX8_leaveTrace_10, sX8_leaveTrace_13, ↓reduceIte, if_true, if_false, Option.bind_some, Option.bind_none, Option.toList_some, Option.toList_none, List.cons_append, List.nil_append, Option.elim_some, true_or, or_true, or_false, false_or, true_and, and_true, and_false, false_and, zio1, zio0, zio01, not_true_eq_false, not_false_eq_true]
theorem kX8_failed {n : Int32} : go L xs 84 69 0 [some (.ref 0), some (.int n)] [] (hp g t) = some (some (.int (-10 - n)), hp (zu g 0 10 n) t) := by
  simp only [sX8_failed_0, sX8_failed_1, sX8_failed_2, sX8_failed_5, sX8_failed_7, sX8_failed_8, sX8_failed_9, ↓reduceIte, if_true, if_false, Option.bind_some, Option.bind_none, Option.toList_some, Option.toList_none, List.cons_append, List.nil_append, Option.elim_some, true_or, or_true, or_false, false_or, true_and, and_true, and_false, false_and, zio1, zio0, zio01, not_true_eq_false, not_false_eq_true]
theorem sw_l0 : zSw (.lookupswitch 37 #[(1, 31), (2, 25)]) 0 = some 37 := by decide
theorem pX8_tell (hT : CTn g H S kd bd gv rs dr) {x : Int32} : go L xs 73 69 0 [some (.ref 0), some (.int x), none] [] (hp g t) = (if 0 ≤ x.toInt ∧ x.toInt < H then some (some (.int (nI (if kd x.toInt.toNat = 0 then bd x.toInt.toNat else if kd x.toInt.toNat = 1 then bd x.toInt.toNat + 100 else 2 * bd x.toInt.toNat + 100))), hp (zu g 0 9 (trc (kd x.toInt.toNat) (g 0 9))) t) else some (some (.int (-1)), hp g t)) := by
  have h1 := kX7_has (L := L) (xs := xs) (t := t) (x := x) hT
  have h7 := hT.2.1
  by_cases q : 0 ≤ x.toInt ∧ x.toInt < H
  · rw [if_pos q] at h1 ⊢
    have hx := nI_back q.1
    generalize hk : x.toInt.toNat = k at hx
    subst hx
    obtain ⟨z1, z2⟩ := hob (h := k) (by omega)
    obtain ⟨⟨a1, a2⟩, ⟨b1, b2, b3⟩, -⟩ := hT.2.2.2.2 k (by omega)
    have h100 : (100 : Int32) = nI 100 := by decide
    have n1 : nI 1 = 1 := by decide
    have n2 : nI 2 = 2 := by decide
    have z3 : (3 + k = 0) = False := by simp
    have z4 : (0 = 3 + k) = False := by apply eq_false; omega
    rcases (show kd k = 0 ∨ kd k = 1 ∨ kd k = 2 by omega) with q0 | q0 | q0
    · rw [q0] at a1 ⊢
      simp (disch := omega) only [sX8_tell_0, sX8_tell_1, sX8_tell_4, sX8_tell_5, sX8_tell_8, sX8_tell_11, sX8_tell_12, sX8_tell_13, sX8_tell_14, sX8_tell_17, sX8_tell_20, sX8_tell_21, sX8_tell_22, sX8_tell_23, sX8_tell_24, sX8_tell_27_c1, sX8_tell_27_c2, sX8_tell_52, sX8_tell_53, sX8_tell_54, sX8_tell_57, sX8_tell_58, sX8_tell_59, sX8_tell_60, sX8_tell_63, sX8_tell_64, sX8_tell_65, sX8_tell_66, sX8_tell_69, sX8_tell_27_d sw_l0, sX8_toldAsHouse_0, sX8_toldAsHouse_1, sX8_toldAsHouse_2, sX8_toldAsHouse_5, sX8_toldAsHouse_6, sX8_toldAsHouse_9, ↓reduceIte, if_true, if_false, Option.bind_some, Option.bind_none, Option.toList_some, Option.toList_none, List.cons_append, List.nil_append, Option.elim_some, true_or, or_true, or_false, false_or, true_and, and_true, and_false, false_and, zio1, zio0, zio01, not_true_eq_false, not_false_eq_true, h1, zin_t, ncl, z1, z2, a1, nI_0, kX8_leaveTrace, zuA, Nat.reduceEqDiff, z3, b1, trc]
    · rw [q0] at a1 ⊢
      simp (disch := omega) only [sX8_tell_0, sX8_tell_1, sX8_tell_4, sX8_tell_5, sX8_tell_8, sX8_tell_11, sX8_tell_12, sX8_tell_13, sX8_tell_14, sX8_tell_17, sX8_tell_20, sX8_tell_21, sX8_tell_22, sX8_tell_23, sX8_tell_24, sX8_tell_27_c1, sX8_tell_27_c2, sX8_tell_52, sX8_tell_53, sX8_tell_54, sX8_tell_57, sX8_tell_58, sX8_tell_59, sX8_tell_60, sX8_tell_63, sX8_tell_64, sX8_tell_65, sX8_tell_66, sX8_tell_69, sX8_toldAsHouse_0, sX8_toldAsHouse_1, sX8_toldAsHouse_2, sX8_toldAsHouse_5, sX8_toldAsHouse_6, sX8_toldAsHouse_9, sX8_toldAsInn_0, sX8_toldAsInn_1, sX8_toldAsInn_2, sX8_toldAsInn_5, sX8_toldAsInn_6, sX8_toldAsInn_7, sX8_toldAsInn_10, sX8_toldAsInn_12, sX8_toldAsInn_13, ↓reduceIte, if_true, if_false, Option.bind_some, Option.bind_none, Option.toList_some, Option.toList_none, List.cons_append, List.nil_append, Option.elim_some, true_or, or_true, or_false, false_or, true_and, and_true, and_false, false_and, zio1, zio0, zio01, not_true_eq_false, not_false_eq_true, h1, zin_t, ncl, z1, z2, a1, n1, kX8_leaveTrace, zuA, Nat.reduceEqDiff, z3, b1, trc, h100, nadd, zuzu, neq1, neq0]
    · rw [q0] at a1 ⊢
      simp (disch := omega) only [sX8_tell_0, sX8_tell_1, sX8_tell_4, sX8_tell_5, sX8_tell_8, sX8_tell_11, sX8_tell_12, sX8_tell_13, sX8_tell_14, sX8_tell_17, sX8_tell_20, sX8_tell_21, sX8_tell_22, sX8_tell_23, sX8_tell_24, sX8_tell_27_c1, sX8_tell_27_c2, sX8_tell_52, sX8_tell_53, sX8_tell_54, sX8_tell_57, sX8_tell_58, sX8_tell_59, sX8_tell_60, sX8_tell_63, sX8_tell_64, sX8_tell_65, sX8_tell_66, sX8_tell_69, sX8_toldAsHouse_0, sX8_toldAsHouse_1, sX8_toldAsHouse_2, sX8_toldAsHouse_5, sX8_toldAsHouse_6, sX8_toldAsHouse_9, sX8_toldAsInn_0, sX8_toldAsInn_1, sX8_toldAsInn_2, sX8_toldAsInn_5, sX8_toldAsInn_6, sX8_toldAsInn_7, sX8_toldAsInn_10, sX8_toldAsInn_12, sX8_toldAsInn_13, sX8_toldAsPiled_0, sX8_toldAsPiled_1, sX8_toldAsPiled_2, sX8_toldAsPiled_5, sX8_toldAsPiled_6, sX8_toldAsPiled_7, sX8_toldAsPiled_10, sX8_toldAsPiled_11, sX8_toldAsPiled_12, sX8_toldAsPiled_13, sX8_toldAsPiled_14, sX8_toldAsPiled_17, sX8_toldAsPiled_18, ↓reduceIte, if_true, if_false, Option.bind_some, Option.bind_none, Option.toList_some, Option.toList_none, List.cons_append, List.nil_append, Option.elim_some, true_or, or_true, or_false, false_or, true_and, and_true, and_false, false_and, zio1, zio0, zio01, not_true_eq_false, not_false_eq_true, h1, zin_t, ncl, z1, z2, a1, n2, kX8_leaveTrace, zuA, Nat.reduceEqDiff, z3, b1, trc, h100, nadd, zuzu]
      rw [show bd k + 100 + bd k = 2 * bd k + 100 by omega]
  · rw [if_neg q] at h1 ⊢
    simp only [sX8_tell_0, sX8_tell_1, sX8_tell_4, sX8_tell_5, sX8_tell_8, sX8_tell_11, sX8_tell_12, sX8_tell_13, sX8_tell_14, sX8_tell_17, sX8_tell_20, sX8_tell_21, sX8_tell_22, sX8_tell_23, sX8_tell_24, sX8_tell_27_c1, sX8_tell_27_c2, sX8_tell_52, sX8_tell_53, sX8_tell_54, sX8_tell_57, sX8_tell_58, sX8_tell_59, sX8_tell_60, sX8_tell_63, sX8_tell_64, sX8_tell_65, sX8_tell_66, sX8_tell_69, ↓reduceIte, if_true, if_false, Option.bind_some, Option.bind_none, Option.toList_some, Option.toList_none, List.cons_append, List.nil_append, Option.elim_some, true_or, or_true, or_false, false_or, true_and, and_true, and_false, false_and, zio1, zio0, zio01, not_true_eq_false, not_false_eq_true, h1]
theorem pX8_knock (hT : CTn g H S kd bd gv rs dr) {x : Int32} : go L xs 74 69 0 [some (.ref 0), some (.int x)] [] (hp g t) = (if 0 ≤ x.toInt ∧ x.toInt < H then (if kd x.toInt.toNat = 2 then some (some (.int 40), hp (zu g 0 9 (31 * g 0 9 + 5)) t) else some (some (.int x), hp (zu g 0 9 (31 * g 0 9 + 4)) t)) else some (some (.int (-1)), hp g t)) := by
  have h1 := kX7_has (L := L) (xs := xs) (t := t) (x := x) hT
  have h7 := hT.2.1
  by_cases q : 0 ≤ x.toInt ∧ x.toInt < H
  · rw [if_pos q] at h1 ⊢
    have hx := nI_back q.1
    generalize hk : x.toInt.toNat = k at hx
    subst hx
    obtain ⟨z1, z2⟩ := hob (h := k) (by omega)
    obtain ⟨⟨a1, a2⟩, -⟩ := hT.2.2.2.2 k (by omega)
    by_cases q0 : kd k = 2
    · rw [if_pos q0]
      simp (disch := omega) only [sX8_knock_0, sX8_knock_1, sX8_knock_4, sX8_knock_5, sX8_knock_8, sX8_knock_11, sX8_knock_12, sX8_knock_13, sX8_knock_14, sX8_knock_17, sX8_knock_20, sX8_knock_21, sX8_knock_22, sX8_knock_25, sX8_knock_26, sX8_knock_29, sX8_knock_30, sX8_knock_31, sX8_knock_34, sX8_knock_36, sX8_knock_37, sX8_knock_38, sX8_knock_39, sX8_knock_42, sX8_knock_43, ↓reduceIte, if_true, if_false, Option.bind_some, Option.bind_none, Option.toList_some, Option.toList_none, List.cons_append, List.nil_append, Option.elim_some, true_or, or_true, or_false, false_or, true_and, and_true, and_false, false_and, zio1, zio0, zio01, not_true_eq_false, not_false_eq_true, h1, nlt, neq, nlt0, n0lt, neq0, neq1, nm9, m9n, nadd, nadd1, nmul, ncl, zin_t, z1, z2, a1, li2, q0, kX8_leaveTrace]
    · rw [if_neg q0]
      simp (disch := omega) only [sX8_knock_0, sX8_knock_1, sX8_knock_4, sX8_knock_5, sX8_knock_8, sX8_knock_11, sX8_knock_12, sX8_knock_13, sX8_knock_14, sX8_knock_17, sX8_knock_20, sX8_knock_21, sX8_knock_22, sX8_knock_25, sX8_knock_26, sX8_knock_29, sX8_knock_30, sX8_knock_31, sX8_knock_34, sX8_knock_36, sX8_knock_37, sX8_knock_38, sX8_knock_39, sX8_knock_42, sX8_knock_43, ↓reduceIte, if_true, if_false, Option.bind_some, Option.bind_none, Option.toList_some, Option.toList_none, List.cons_append, List.nil_append, Option.elim_some, true_or, or_true, or_false, false_or, true_and, and_true, and_false, false_and, zio1, zio0, zio01, not_true_eq_false, not_false_eq_true, h1, nlt, neq, nlt0, n0lt, neq0, neq1, nm9, m9n, nadd, nadd1, nmul, ncl, zin_t, z1, z2, a1, li2, q0, kX8_leaveTrace]
  · rw [if_neg q] at h1 ⊢
    simp only [sX8_knock_0, sX8_knock_1, sX8_knock_4, sX8_knock_5, sX8_knock_8, sX8_knock_11, sX8_knock_12, sX8_knock_13, sX8_knock_14, sX8_knock_17, sX8_knock_20, sX8_knock_21, sX8_knock_22, sX8_knock_25, sX8_knock_26, sX8_knock_29, sX8_knock_30, sX8_knock_31, sX8_knock_34, sX8_knock_36, sX8_knock_37, sX8_knock_38, sX8_knock_39, sX8_knock_42, sX8_knock_43, ↓reduceIte, if_true, if_false, Option.bind_some, Option.bind_none, Option.toList_some, Option.toList_none, List.cons_append, List.nil_append, Option.elim_some, true_or, or_true, or_false, false_or, true_and, and_true, and_false, false_and, zio1, zio0, zio01, not_true_eq_false, not_false_eq_true, h1]
theorem c0_town (hT : CTn g H S kd bd gv rs dr) {j : Nat} {v : Int32} : CTn (zu g 0 j v) H S kd bd gv rs dr := by
  refine ⟨(by simpa [zu] using hT.1), hT.2.1, (by simpa [zu] using hT.2.2.1), hT.2.2.2.1, fun q hq => ?_⟩
  have : 3 + q ≠ 0 := by omega
  simpa [zu, this] using hT.2.2.2.2 q hq
theorem pX8_as (hT : CTn g H S kd bd gv rs dr) {x y : Int32} : go L xs 75 69 0 [some (.ref 0), some (.int x), some (.int y)] [] (hp g t) = (if 0 ≤ x.toInt ∧ x.toInt < H then (if 0 ≤ y.toInt ∧ y.toInt ≤ 2 then (if y.toInt ≤ kd x.toInt.toNat then some (some (.int 1), hp (zu g 0 10 0) t) else some (some (.int (-12)), hp (zu g 0 10 2) t)) else some (some (.int (-2)), hp (zu g 0 10 0) t)) else some (some (.int (-1)), hp (zu g 0 10 0) t)) := by
  have hT1 := c0_town hT (j := 10) (v := 0)
  have h1 := kX7_has (L := L) (xs := xs) (t := t) (x := x) hT1
  have hin := kX8_in (L := L) (xs := xs) (g := zu g 0 10 0) (t := t) (x := y) (a := 0) (b := 2) (lo := 0) (hi := 2) (by decide) (by decide)
  have h7 := hT.2.1
  by_cases q : 0 ≤ x.toInt ∧ x.toInt < H
  · rw [if_pos q] at h1 ⊢
    have hx := nI_back q.1
    generalize hk : x.toInt.toNat = k at hx
    subst hx
    obtain ⟨z1, z2⟩ := hob (h := k) (by omega)
    obtain ⟨⟨a1, a2⟩, -⟩ := hT1.2.2.2.2 k (by omega)
    by_cases q2 : 0 ≤ y.toInt ∧ y.toInt ≤ 2
    · rw [if_pos q2] at hin ⊢
      have hy := nI_back q2.1
      generalize hm : y.toInt.toNat = m at hy
      subst hy
      have hmt := nI_toInt (n := m) (by omega)
      have e12 : (-10 : Int32) - 2 = -12 := by decide
      by_cases q3 : kd k < m
      · rw [if_neg (by omega)]
        simp (disch := omega) only [sX8_as_0, sX8_as_1, sX8_as_2, sX8_as_5, sX8_as_6, sX8_as_9, sX8_as_10, sX8_as_13, sX8_as_16, sX8_as_17, sX8_as_18, sX8_as_19, sX8_as_20, sX8_as_21, sX8_as_24, sX8_as_27, sX8_as_29, sX8_as_30, sX8_as_31, sX8_as_34, sX8_as_37, sX8_as_38, sX8_as_39, sX8_as_42, sX8_as_43, sX8_as_46, sX8_as_47, sX8_as_50, sX8_as_51, sX8_as_52, sX8_as_55, ↓reduceIte, if_true, if_false, Option.bind_some, Option.bind_none, Option.toList_some, Option.toList_none, List.cons_append, List.nil_append, Option.elim_some, true_or, or_true, or_false, false_or, true_and, and_true, and_false, false_and, zio1, zio0, zio01, not_true_eq_false, not_false_eq_true, h1, hin, nlt, neq, nlt0, n0lt, neq0, neq1, nm9, m9n, nadd, nadd1, nmul, ncl, zin_t, z1, z2, a1, q3, kX8_failed, zuzu, e12]
      · rw [if_pos (by omega)]
        simp (disch := omega) only [sX8_as_0, sX8_as_1, sX8_as_2, sX8_as_5, sX8_as_6, sX8_as_9, sX8_as_10, sX8_as_13, sX8_as_16, sX8_as_17, sX8_as_18, sX8_as_19, sX8_as_20, sX8_as_21, sX8_as_24, sX8_as_27, sX8_as_29, sX8_as_30, sX8_as_31, sX8_as_34, sX8_as_37, sX8_as_38, sX8_as_39, sX8_as_42, sX8_as_43, sX8_as_46, sX8_as_47, sX8_as_50, sX8_as_51, sX8_as_52, sX8_as_55, ↓reduceIte, if_true, if_false, Option.bind_some, Option.bind_none, Option.toList_some, Option.toList_none, List.cons_append, List.nil_append, Option.elim_some, true_or, or_true, or_false, false_or, true_and, and_true, and_false, false_and, zio1, zio0, zio01, not_true_eq_false, not_false_eq_true, h1, hin, nlt, neq, nlt0, n0lt, neq0, neq1, nm9, m9n, nadd, nadd1, nmul, ncl, zin_t, z1, z2, a1, q3]
    · rw [if_neg q2] at hin ⊢
      simp (disch := omega) only [sX8_as_0, sX8_as_1, sX8_as_2, sX8_as_5, sX8_as_6, sX8_as_9, sX8_as_10, sX8_as_13, sX8_as_16, sX8_as_17, sX8_as_18, sX8_as_19, sX8_as_20, sX8_as_21, sX8_as_24, sX8_as_27, sX8_as_29, sX8_as_30, sX8_as_31, sX8_as_34, sX8_as_37, sX8_as_38, sX8_as_39, sX8_as_42, sX8_as_43, sX8_as_46, sX8_as_47, sX8_as_50, sX8_as_51, sX8_as_52, sX8_as_55, ↓reduceIte, if_true, if_false, Option.bind_some, Option.bind_none, Option.toList_some, Option.toList_none, List.cons_append, List.nil_append, Option.elim_some, true_or, or_true, or_false, false_or, true_and, and_true, and_false, false_and, zio1, zio0, zio01, not_true_eq_false, not_false_eq_true, h1, hin]
  · rw [if_neg q] at h1 ⊢
    simp only [sX8_as_0, sX8_as_1, sX8_as_2, sX8_as_5, sX8_as_6, sX8_as_9, sX8_as_10, sX8_as_13, sX8_as_16, sX8_as_17, sX8_as_18, sX8_as_19, sX8_as_20, sX8_as_21, sX8_as_24, sX8_as_27, sX8_as_29, sX8_as_30, sX8_as_31, sX8_as_34, sX8_as_37, sX8_as_38, sX8_as_39, sX8_as_42, sX8_as_43, sX8_as_46, sX8_as_47, sX8_as_50, sX8_as_51, sX8_as_52, sX8_as_55, ↓reduceIte, if_true, if_false, Option.bind_some, Option.bind_none, Option.toList_some, Option.toList_none, List.cons_append, List.nil_append, Option.elim_some, true_or, or_true, or_false, false_or, true_and, and_true, and_false, false_and, zio1, zio0, zio01, not_true_eq_false, not_false_eq_true, h1]
/-- all that was found out is dropped -/
abbrev fgt (g : Nat → Nat → Int32) : Nat → Nat → Int32 := zu (zu (zu g 0 8 0) 29 6 0) 33 7 0
theorem kX8_forget : go L xs 86 69 0 [some (.ref 0)] [] (hp g t) = some (none, hp (fgt g) t) := by
  simp only [sX8_forget_0, sX8_forget_1, sX8_forget_2, sX8_forget_5, sX8_forget_6, sX8_forget_9, sX8_forget_10, sX8_forget_13, sX8_forget_14, sX8_forget_17, sX8_forget_18, sX8_forget_21, ↓reduceIte, if_true, if_false, Option.bind_some, Option.bind_none, Option.toList_some, Option.toList_none, List.cons_append, List.nil_append, Option.elim_some, true_or, or_true, or_false, false_or, true_and, and_true, and_false, false_and, zio1, zio0, zio01, not_true_eq_false, not_false_eq_true, zbo0]
theorem pX8_guest (hT : CTn g H S kd bd gv rs dr) (hG : CGs g H G w f l row) {x y z : Int32} : go L xs 50 69 0 [some (.ref 0), some (.int x), some (.int y), some (.int z), none] [] (hp g t) = (if (1 ≤ x.toInt ∧ x.toInt ≤ 30) ∧ (0 ≤ y.toInt ∧ y.toInt ≤ 49) ∧ (y.toInt ≤ z.toInt ∧ z.toInt ≤ 49) then (if H = 0 then some (some (.int (-3)), hp g t) else if G = 8 then some (some (.int (-4)), hp g t) else some (some (.int (nI G)), hp (fgt (zu (zu (zu (zu (zu g 10 5 (nI (G + 1))) 11 G x) 12 G y) 13 G z) 14 G (-9))) t)) else some (some (.int (-2)), hp g t)) := by
  have hin := kX8_in (L := L) (xs := xs) (g := g) (t := t) (x := x) (a := 1) (b := 30) (lo := 1) (hi := 30) (by decide) (by decide)
  have hy := kX8_isNight (L := L) (xs := xs) (g := g) (t := t) (x := y)
  have hz := kX8_isNight (L := L) (xs := xs) (g := g) (t := t) (x := z)
  have t1 := hT.1
  have h7 := hT.2.1
  have g1 := hG.1
  have g8 := hG.2.1
  by_cases q1 : 1 ≤ x.toInt ∧ x.toInt ≤ 30
  · rw [if_pos q1] at hin
    by_cases q2 : 0 ≤ y.toInt ∧ y.toInt ≤ 49
    · rw [if_pos q2] at hy
      by_cases q3 : 0 ≤ z.toInt ∧ z.toInt ≤ 49
      · rw [if_pos q3] at hz
        by_cases q4 : z < y
        · have q5 := Int32.lt_iff_toInt_lt.mp q4
          rw [if_neg (by omega)]
          simp (disch := omega) only [sX8_guest_0, sX8_guest_1, sX8_guest_2, sX8_guest_4, sX8_guest_7, sX8_guest_10, sX8_guest_11, sX8_guest_14, sX8_guest_17, sX8_guest_18, sX8_guest_21, sX8_guest_24, sX8_guest_25, sX8_guest_26, sX8_guest_29, sX8_guest_31, ↓reduceIte, if_true, if_false, Option.bind_some, Option.bind_none, Option.toList_some, Option.toList_none, List.cons_append, List.nil_append, Option.elim_some, true_or, or_true, or_false, false_or, true_and, and_true, and_false, false_and, zio1, zio0, zio01, not_true_eq_false, not_false_eq_true, hin, hy, hz, eq_true q4]
        · have q5 : ¬ z.toInt < y.toInt := fun e => q4 (Int32.lt_iff_toInt_lt.mpr e)
          rw [if_pos (by omega)]
          by_cases q6 : H = 0
          · rw [if_pos q6]
            simp (disch := omega) only [sX8_guest_0, sX8_guest_1, sX8_guest_2, sX8_guest_4, sX8_guest_7, sX8_guest_10, sX8_guest_11, sX8_guest_14, sX8_guest_17, sX8_guest_18, sX8_guest_21, sX8_guest_24, sX8_guest_25, sX8_guest_26, sX8_guest_29, sX8_guest_31, sX8_guest_32, sX8_guest_33, sX8_guest_36, sX8_guest_39, sX8_guest_42, sX8_guest_44, ↓reduceIte, if_true, if_false, Option.bind_some, Option.bind_none, Option.toList_some, Option.toList_none, List.cons_append, List.nil_append, Option.elim_some, true_or, or_true, or_false, false_or, true_and, and_true, and_false, false_and, zio1, zio0, zio01, not_true_eq_false, not_false_eq_true, nlt, neq, nlt0, n0lt, neq0, neq1, nm9, m9n, nadd, nadd1, nmul, ncl, zin_t, hin, hy, hz, eq_false q4, t1, q6, nI_0]
          · rw [if_neg q6]
            by_cases q7 : G = 8
            · rw [if_pos q7]
              have q8 : ¬ G < 8 := by omega
              simp (disch := omega) only [sX8_guest_0, sX8_guest_1, sX8_guest_2, sX8_guest_4, sX8_guest_7, sX8_guest_10, sX8_guest_11, sX8_guest_14, sX8_guest_17, sX8_guest_18, sX8_guest_21, sX8_guest_24, sX8_guest_25, sX8_guest_26, sX8_guest_29, sX8_guest_31, sX8_guest_32, sX8_guest_33, sX8_guest_36, sX8_guest_39, sX8_guest_42, sX8_guest_44, sX8_guest_45, sX8_guest_46, sX8_guest_49, sX8_guest_52, sX8_guest_54, sX8_guest_57, sX8_guest_59, ↓reduceIte, if_true, if_false, Option.bind_some, Option.bind_none, Option.toList_some, Option.toList_none, List.cons_append, List.nil_append, Option.elim_some, true_or, or_true, or_false, false_or, true_and, and_true, and_false, false_and, zio1, zio0, zio01, not_true_eq_false, not_false_eq_true, nlt, neq, nlt0, n0lt, neq0, neq1, nm9, m9n, nadd, nadd1, nmul, ncl, zin_t, hin, hy, hz, eq_false q4, t1, q6, g1, li8, q8]
            · rw [if_neg q7]
              have q8 : G < 8 := by omega
              simp (disch := omega) only [sX8_guest_0, sX8_guest_1, sX8_guest_2, sX8_guest_4, sX8_guest_7, sX8_guest_10, sX8_guest_11, sX8_guest_14, sX8_guest_17, sX8_guest_18, sX8_guest_21, sX8_guest_24, sX8_guest_25, sX8_guest_26, sX8_guest_29, sX8_guest_31, sX8_guest_32, sX8_guest_33, sX8_guest_36, sX8_guest_39, sX8_guest_42, sX8_guest_44, sX8_guest_45, sX8_guest_46, sX8_guest_49, sX8_guest_52, sX8_guest_54, sX8_guest_57, sX8_guest_59, sX8_guest_60, sX8_guest_61, sX8_guest_64, sX8_guest_67, sX8_guest_69, sX8_guest_70, sX8_guest_73, sX8_guest_75, sX8_guest_76, sX8_guest_77, sX8_guest_80, sX8_guest_81, sX8_guest_84, sX8_guest_86, sX8_guest_87, sX8_guest_88, sX8_guest_89, sX8_guest_92, sX8_guest_93, sX8_guest_96, sX8_guest_98, ↓reduceIte, if_true, if_false, Option.bind_some, Option.bind_none, Option.toList_some, Option.toList_none, List.cons_append, List.nil_append, Option.elim_some, true_or, or_true, or_false, false_or, true_and, and_true, and_false, false_and, zio1, zio0, zio01, not_true_eq_false, not_false_eq_true, nlt, neq, nlt0, n0lt, neq0, neq1, nm9, m9n, nadd, nadd1, nmul, ncl, zin_t, hin, hy, hz, eq_false q4, t1, q6, g1, li8, q8, kX0_enter, kX8_forget]
      · rw [if_neg q3] at hz
        rw [if_neg (by omega)]
        simp (disch := omega) only [sX8_guest_0, sX8_guest_1, sX8_guest_2, sX8_guest_4, sX8_guest_7, sX8_guest_10, sX8_guest_11, sX8_guest_14, sX8_guest_17, sX8_guest_18, sX8_guest_21, sX8_guest_24, sX8_guest_25, sX8_guest_26, sX8_guest_29, sX8_guest_31, ↓reduceIte, if_true, if_false, Option.bind_some, Option.bind_none, Option.toList_some, Option.toList_none, List.cons_append, List.nil_append, Option.elim_some, true_or, or_true, or_false, false_or, true_and, and_true, and_false, false_and, zio1, zio0, zio01, not_true_eq_false, not_false_eq_true, hin, hy, hz]
    · rw [if_neg q2] at hy
      rw [if_neg (by omega)]
      simp (disch := omega) only [sX8_guest_0, sX8_guest_1, sX8_guest_2, sX8_guest_4, sX8_guest_7, sX8_guest_10, sX8_guest_11, sX8_guest_14, sX8_guest_17, sX8_guest_18, sX8_guest_21, sX8_guest_24, sX8_guest_25, sX8_guest_26, sX8_guest_29, sX8_guest_31, ↓reduceIte, if_true, if_false, Option.bind_some, Option.bind_none, Option.toList_some, Option.toList_none, List.cons_append, List.nil_append, Option.elim_some, true_or, or_true, or_false, false_or, true_and, and_true, and_false, false_and, zio1, zio0, zio01, not_true_eq_false, not_false_eq_true, hin, hy]
  · rw [if_neg q1] at hin
    rw [if_neg (by omega)]
    simp (disch := omega) only [sX8_guest_0, sX8_guest_1, sX8_guest_2, sX8_guest_4, sX8_guest_7, sX8_guest_10, sX8_guest_11, sX8_guest_14, sX8_guest_17, sX8_guest_18, sX8_guest_21, sX8_guest_24, sX8_guest_25, sX8_guest_26, sX8_guest_29, sX8_guest_31, ↓reduceIte, if_true, if_false, Option.bind_some, Option.bind_none, Option.toList_some, Option.toList_none, List.cons_append, List.nil_append, Option.elim_some, true_or, or_true, or_false, false_or, true_and, and_true, and_false, false_and, zio1, zio0, zio01, not_true_eq_false, not_false_eq_true, hin]
theorem zu_id {k j : Nat} {x : Int32} (h : g k j = x) : zu g k j x = g := by
  funext a b
  simp only [zuA]
  by_cases q : a = k
  · by_cases q2 : b = j
    · rw [if_pos q, if_pos q2, q, q2, h]
    · rw [if_pos q, if_neg q2]
  · rw [if_neg q]
theorem pX8_lodge (hT : CTn g H S kd bd gv rs dr) (hG : CGs g H G w f l row) (hv : hvb H G bd f l row = true) {x y : Int32} : go L xs 52 69 0 [some (.ref 0), some (.int x), some (.int y), none] [] (hp g t) = (if (0 ≤ x.toInt ∧ x.toInt < G) ∧ (y = -9 ∨ (0 ≤ y.toInt ∧ y.toInt < H)) then (if y = -9 ∨ hbd G bd f l row x.toInt.toNat y.toInt.toNat = true then some (some (.int (row x.toInt.toNat)), hp (fgt (zu g 14 x.toInt.toNat y)) t) else some (some (.int (-3)), hp g t)) else some (some (.int (-1)), hp g t)) := by
  have h1 := kX0_has (L := L) (xs := xs) (t := t) (x := x) hG
  have h2 := kX7_has (L := L) (xs := xs) (t := t) (x := y) hT
  have h7 := hT.2.1
  have g8 := hG.2.1
  by_cases q1 : 0 ≤ x.toInt ∧ x.toInt < G
  · rw [if_pos q1] at h1
    have hx := nI_back q1.1
    generalize hk : x.toInt.toNat = k at hx
    subst hx
    obtain ⟨-, -, -, b1, b2, b3, -⟩ := hG.2.2.1 k (by omega)
    by_cases q2 : y = -9
    · subst q2
      rw [if_pos ⟨q1, Or.inl rfl⟩, if_pos (Or.inl rfl)]
      simp (disch := omega) only [sX8_lodge_0, sX8_lodge_1, sX8_lodge_4, sX8_lodge_5, sX8_lodge_8, sX8_lodge_11, sX8_lodge_12, sX8_lodge_14, sX8_lodge_17, sX8_lodge_18, sX8_lodge_21, sX8_lodge_22, sX8_lodge_25, sX8_lodge_28, sX8_lodge_29, sX8_lodge_30, sX8_lodge_31, sX8_lodge_34, sX8_lodge_37, sX8_lodge_38, sX8_lodge_39, sX8_lodge_40, sX8_lodge_41, sX8_lodge_44, sX8_lodge_47, sX8_lodge_48, sX8_lodge_49, sX8_lodge_50, sX8_lodge_51, sX8_lodge_53, sX8_lodge_56, sX8_lodge_57, sX8_lodge_60, sX8_lodge_61, sX8_lodge_64, sX8_lodge_67, sX8_lodge_70, sX8_lodge_73, sX8_lodge_74, sX8_lodge_77, sX8_lodge_80, sX8_lodge_81, sX8_lodge_82, sX8_lodge_83, sX8_lodge_85, sX8_lodge_86, sX8_lodge_87, sX8_lodge_90, sX8_lodge_91, ↓reduceIte, if_true, if_false, Option.bind_some, Option.bind_none, Option.toList_some, Option.toList_none, List.cons_append, List.nil_append, Option.elim_some, true_or, or_true, or_false, false_or, true_and, and_true, and_false, false_and, zio1, zio0, zio01, not_true_eq_false, not_false_eq_true, nlt, neq, nlt0, n0lt, neq0, neq1, nm9, m9n, nadd, nadd1, nmul, ncl, zin_t, h1, b3, kX8_forget]
    · by_cases q3 : 0 ≤ y.toInt ∧ y.toInt < H
      · rw [if_pos ⟨q1, Or.inr q3⟩]
        rw [if_pos q3] at h2
        have hy := nI_back q3.1
        generalize hm : y.toInt.toNat = m at hy
        subst hy
        have hmt := nI_toInt (n := m) (by omega)
        have hkt := nI_toInt (n := k) (by omega)
        have E1 : eb g (zu g 14 k (nI m)) := fun a ha => by
          have : a ≠ 14 := by omega
          funext p; simp only [zuA, this, if_false]
        have hR1 : CRw (zu g 14 k (nI m)) 14 H G (ru row k (nI m)) := by
          refine ⟨fun j hj => ?_, hG.r.2.1.ru (by omega), fun j a b => ?_⟩
          · by_cases z : j = k
            · rw [z, ru_s]; simp [zu]
            · rw [ru_n z, ← hG.r.1 j hj]; simp [zu, z]
          · have : j ≠ k := by omega
            rw [← hG.2.2.2 j a b]; simp [zu, this]
        have hb := kX0_haveBeds (L := L) (xs := xs) (t := t) (c := 14) (Or.inl rfl) (E1.town hT) (E1.b hG.b) hR1
        rw [hvb_ru h7 g8 hv (by omega) (by omega) b2] at hb
        by_cases q4 : hbd G bd f l row k m = true
        · rw [if_pos q4] at hb
          rw [if_pos (Or.inr q4)]
          simp (disch := omega) only [sX8_lodge_0, sX8_lodge_1, sX8_lodge_4, sX8_lodge_5, sX8_lodge_8, sX8_lodge_11, sX8_lodge_12, sX8_lodge_14, sX8_lodge_17, sX8_lodge_18, sX8_lodge_21, sX8_lodge_22, sX8_lodge_25, sX8_lodge_28, sX8_lodge_29, sX8_lodge_30, sX8_lodge_31, sX8_lodge_34, sX8_lodge_37, sX8_lodge_38, sX8_lodge_39, sX8_lodge_40, sX8_lodge_41, sX8_lodge_44, sX8_lodge_47, sX8_lodge_48, sX8_lodge_49, sX8_lodge_50, sX8_lodge_51, sX8_lodge_53, sX8_lodge_56, sX8_lodge_57, sX8_lodge_60, sX8_lodge_61, sX8_lodge_64, sX8_lodge_67, sX8_lodge_70, sX8_lodge_73, sX8_lodge_74, sX8_lodge_77, sX8_lodge_80, sX8_lodge_81, sX8_lodge_82, sX8_lodge_83, sX8_lodge_85, sX8_lodge_86, sX8_lodge_87, sX8_lodge_90, sX8_lodge_91, ↓reduceIte, if_true, if_false, Option.bind_some, Option.bind_none, Option.toList_some, Option.toList_none, List.cons_append, List.nil_append, Option.elim_some, true_or, or_true, or_false, false_or, true_and, and_true, and_false, false_and, zio1, zio0, zio01, not_true_eq_false, not_false_eq_true, nlt, neq, nlt0, n0lt, neq0, neq1, nm9, m9n, nadd, nadd1, nmul, ncl, zin_t, h1, h2, b3, eq_false q2, hb, kX8_forget]
        · rw [if_neg q4] at hb
          rw [if_neg (fun z => z.elim q2 q4)]
          simp (disch := omega) only [sX8_lodge_0, sX8_lodge_1, sX8_lodge_4, sX8_lodge_5, sX8_lodge_8, sX8_lodge_11, sX8_lodge_12, sX8_lodge_14, sX8_lodge_17, sX8_lodge_18, sX8_lodge_21, sX8_lodge_22, sX8_lodge_25, sX8_lodge_28, sX8_lodge_29, sX8_lodge_30, sX8_lodge_31, sX8_lodge_34, sX8_lodge_37, sX8_lodge_38, sX8_lodge_39, sX8_lodge_40, sX8_lodge_41, sX8_lodge_44, sX8_lodge_47, sX8_lodge_48, sX8_lodge_49, sX8_lodge_50, sX8_lodge_51, sX8_lodge_53, sX8_lodge_56, sX8_lodge_57, sX8_lodge_60, sX8_lodge_61, sX8_lodge_64, sX8_lodge_67, sX8_lodge_70, sX8_lodge_73, sX8_lodge_74, sX8_lodge_77, sX8_lodge_80, sX8_lodge_81, sX8_lodge_82, sX8_lodge_83, sX8_lodge_85, sX8_lodge_86, sX8_lodge_87, sX8_lodge_90, sX8_lodge_91, ↓reduceIte, if_true, if_false, Option.bind_some, Option.bind_none, Option.toList_some, Option.toList_none, List.cons_append, List.nil_append, Option.elim_some, true_or, or_true, or_false, false_or, true_and, and_true, and_false, false_and, zio1, zio0, zio01, not_true_eq_false, not_false_eq_true, nlt, neq, nlt0, n0lt, neq0, neq1, nm9, m9n, nadd, nadd1, nmul, ncl, zin_t, h1, h2, b3, eq_false q2, hb, zuzu, zu_id b3]
      · rw [if_neg (fun z => z.2.elim q2 q3)]
        rw [if_neg q3] at h2
        simp (disch := omega) only [sX8_lodge_0, sX8_lodge_1, sX8_lodge_4, sX8_lodge_5, sX8_lodge_8, sX8_lodge_11, sX8_lodge_12, sX8_lodge_14, sX8_lodge_17, sX8_lodge_18, sX8_lodge_21, sX8_lodge_22, sX8_lodge_25, sX8_lodge_28, sX8_lodge_29, sX8_lodge_30, sX8_lodge_31, sX8_lodge_34, sX8_lodge_37, sX8_lodge_38, sX8_lodge_39, sX8_lodge_40, sX8_lodge_41, sX8_lodge_44, sX8_lodge_47, sX8_lodge_48, sX8_lodge_49, sX8_lodge_50, sX8_lodge_51, sX8_lodge_53, sX8_lodge_56, sX8_lodge_57, sX8_lodge_60, sX8_lodge_61, sX8_lodge_64, sX8_lodge_67, sX8_lodge_70, sX8_lodge_73, sX8_lodge_74, sX8_lodge_77, sX8_lodge_80, sX8_lodge_81, sX8_lodge_82, sX8_lodge_83, sX8_lodge_85, sX8_lodge_86, sX8_lodge_87, sX8_lodge_90, sX8_lodge_91, ↓reduceIte, if_true, if_false, Option.bind_some, Option.bind_none, Option.toList_some, Option.toList_none, List.cons_append, List.nil_append, Option.elim_some, true_or, or_true, or_false, false_or, true_and, and_true, and_false, false_and, zio1, zio0, zio01, not_true_eq_false, not_false_eq_true, nlt, neq, nlt0, n0lt, neq0, neq1, nm9, m9n, nadd, nadd1, nmul, ncl, zin_t, h1, h2, eq_false q2]
  · rw [if_neg q1] at h1
    rw [if_neg (fun z => q1 z.1)]
    simp (disch := omega) only [sX8_lodge_0, sX8_lodge_1, sX8_lodge_4, sX8_lodge_5, sX8_lodge_8, sX8_lodge_11, sX8_lodge_12, sX8_lodge_14, sX8_lodge_17, sX8_lodge_18, sX8_lodge_21, sX8_lodge_22, sX8_lodge_25, sX8_lodge_28, sX8_lodge_29, sX8_lodge_30, sX8_lodge_31, sX8_lodge_34, sX8_lodge_37, sX8_lodge_38, sX8_lodge_39, sX8_lodge_40, sX8_lodge_41, sX8_lodge_44, sX8_lodge_47, sX8_lodge_48, sX8_lodge_49, sX8_lodge_50, sX8_lodge_51, sX8_lodge_53, sX8_lodge_56, sX8_lodge_57, sX8_lodge_60, sX8_lodge_61, sX8_lodge_64, sX8_lodge_67, sX8_lodge_70, sX8_lodge_73, sX8_lodge_74, sX8_lodge_77, sX8_lodge_80, sX8_lodge_81, sX8_lodge_82, sX8_lodge_83, sX8_lodge_85, sX8_lodge_86, sX8_lodge_87, sX8_lodge_90, sX8_lodge_91, ↓reduceIte, if_true, if_false, Option.bind_some, Option.bind_none, Option.toList_some, Option.toList_none, List.cons_append, List.nil_append, Option.elim_some, true_or, or_true, or_false, false_or, true_and, and_true, and_false, false_and, zio1, zio0, zio01, not_true_eq_false, not_false_eq_true, h1]
theorem pX8_reading (hT : CTn g H S kd bd gv rs dr) (hR : CRs g H R rh rd rt) {x y z : Int32} : go L xs 61 69 0 [some (.ref 0), some (.int x), some (.int y), some (.int z)] [] (hp g t) = (if 0 ≤ x.toInt ∧ x.toInt < H then (if (0 ≤ y.toInt ∧ y.toInt ≤ 50) ∧ (0 ≤ z.toInt ∧ z.toInt ≤ 999999) then (if R = 10 then some (some (.int (-4)), hp g t) else some (some (.int (nI R)), hp (zu (zu (zu (zu g 16 R x) 17 R y) 18 R z) 15 3 (nI (R + 1))) t)) else some (some (.int (-2)), hp g t)) else some (some (.int (-1)), hp g t)) := by
  have h1 := kX7_has (L := L) (xs := xs) (t := t) (x := x) hT
  have hy := kX8_isDawn (L := L) (xs := xs) (g := g) (t := t) (x := y)
  have hz := kX8_in (L := L) (xs := xs) (g := g) (t := t) (x := z) (a := 0) (b := 999999) (lo := 0) (hi := 999999) (by decide) (by decide)
  obtain ⟨r1, r2, -⟩ := hR
  by_cases q : 0 ≤ x.toInt ∧ x.toInt < H
  · rw [if_pos q] at h1 ⊢
    by_cases q2 : 0 ≤ y.toInt ∧ y.toInt ≤ 50
    · rw [if_pos q2] at hy
      by_cases q3 : 0 ≤ z.toInt ∧ z.toInt ≤ 999999
      · rw [if_pos q3] at hz
        rw [if_pos ⟨q2, q3⟩]
        by_cases q4 : R = 10
        · rw [if_pos q4]
          have q5 : ¬ R < 10 := by omega
          simp (disch := omega) only [sX8_reading_0, sX8_reading_1, sX8_reading_4, sX8_reading_5, sX8_reading_8, sX8_reading_11, sX8_reading_12, sX8_reading_13, sX8_reading_14, sX8_reading_17, sX8_reading_20, sX8_reading_21, sX8_reading_22, sX8_reading_24, sX8_reading_27, sX8_reading_30, sX8_reading_32, sX8_reading_33, sX8_reading_34, sX8_reading_37, sX8_reading_40, sX8_reading_42, sX8_reading_45, sX8_reading_47, sX8_reading_48, sX8_reading_49, sX8_reading_52, sX8_reading_53, sX8_reading_54, sX8_reading_55, sX8_reading_58, ↓reduceIte, if_true, if_false, Option.bind_some, Option.bind_none, Option.toList_some, Option.toList_none, List.cons_append, List.nil_append, Option.elim_some, true_or, or_true, or_false, false_or, true_and, and_true, and_false, false_and, zio1, zio0, zio01, not_true_eq_false, not_false_eq_true, nlt, neq, nlt0, n0lt, neq0, neq1, nm9, m9n, nadd, nadd1, nmul, ncl, zin_t, h1, hy, hz, r1, li10, q5]
        · rw [if_neg q4]
          have q5 : R < 10 := by omega
          simp (disch := omega) only [sX8_reading_0, sX8_reading_1, sX8_reading_4, sX8_reading_5, sX8_reading_8, sX8_reading_11, sX8_reading_12, sX8_reading_13, sX8_reading_14, sX8_reading_17, sX8_reading_20, sX8_reading_21, sX8_reading_22, sX8_reading_24, sX8_reading_27, sX8_reading_30, sX8_reading_32, sX8_reading_33, sX8_reading_34, sX8_reading_37, sX8_reading_40, sX8_reading_42, sX8_reading_45, sX8_reading_47, sX8_reading_48, sX8_reading_49, sX8_reading_52, sX8_reading_53, sX8_reading_54, sX8_reading_55, sX8_reading_58, sX4_add_0, sX4_add_1, sX4_add_4, sX4_add_6, sX4_add_7, sX4_add_10, sX4_add_12, sX4_add_13, sX4_add_14, sX4_add_15, sX4_add_18, sX4_add_20, sX4_add_21, sX4_add_22, sX4_add_23, sX4_add_26, sX4_add_28, sX4_add_29, sX4_add_30, sX4_add_31, sX4_add_33, sX4_add_34, sX4_add_35, sX4_add_38, sX4_add_40, ↓reduceIte, if_true, if_false, Option.bind_some, Option.bind_none, Option.toList_some, Option.toList_none, List.cons_append, List.nil_append, Option.elim_some, true_or, or_true, or_false, false_or, true_and, and_true, and_false, false_and, zio1, zio0, zio01, not_true_eq_false, not_false_eq_true, nlt, neq, nlt0, n0lt, neq0, neq1, nm9, m9n, nadd, nadd1, nmul, ncl, zin_t, h1, hy, hz, r1, li10, q5]
      · rw [if_neg q3] at hz
        rw [if_neg (fun e => q3 e.2)]
        simp (disch := omega) only [sX8_reading_0, sX8_reading_1, sX8_reading_4, sX8_reading_5, sX8_reading_8, sX8_reading_11, sX8_reading_12, sX8_reading_13, sX8_reading_14, sX8_reading_17, sX8_reading_20, sX8_reading_21, sX8_reading_22, sX8_reading_24, sX8_reading_27, sX8_reading_30, sX8_reading_32, sX8_reading_33, sX8_reading_34, sX8_reading_37, sX8_reading_40, sX8_reading_42, sX8_reading_45, sX8_reading_47, sX8_reading_48, sX8_reading_49, sX8_reading_52, sX8_reading_53, sX8_reading_54, sX8_reading_55, sX8_reading_58, ↓reduceIte, if_true, if_false, Option.bind_some, Option.bind_none, Option.toList_some, Option.toList_none, List.cons_append, List.nil_append, Option.elim_some, true_or, or_true, or_false, false_or, true_and, and_true, and_false, false_and, zio1, zio0, zio01, not_true_eq_false, not_false_eq_true, h1, hy, hz]
    · rw [if_neg q2] at hy
      rw [if_neg (fun e => q2 e.1)]
      simp (disch := omega) only [sX8_reading_0, sX8_reading_1, sX8_reading_4, sX8_reading_5, sX8_reading_8, sX8_reading_11, sX8_reading_12, sX8_reading_13, sX8_reading_14, sX8_reading_17, sX8_reading_20, sX8_reading_21, sX8_reading_22, sX8_reading_24, sX8_reading_27, sX8_reading_30, sX8_reading_32, sX8_reading_33, sX8_reading_34, sX8_reading_37, sX8_reading_40, sX8_reading_42, sX8_reading_45, sX8_reading_47, sX8_reading_48, sX8_reading_49, sX8_reading_52, sX8_reading_53, sX8_reading_54, sX8_reading_55, sX8_reading_58, ↓reduceIte, if_true, if_false, Option.bind_some, Option.bind_none, Option.toList_some, Option.toList_none, List.cons_append, List.nil_append, Option.elim_some, true_or, or_true, or_false, false_or, true_and, and_true, and_false, false_and, zio1, zio0, zio01, not_true_eq_false, not_false_eq_true, h1, hy]
  · rw [if_neg q] at h1 ⊢
    simp only [sX8_reading_0, sX8_reading_1, sX8_reading_4, sX8_reading_5, sX8_reading_8, sX8_reading_11, sX8_reading_12, sX8_reading_13, sX8_reading_14, sX8_reading_17, sX8_reading_20, sX8_reading_21, sX8_reading_22, sX8_reading_24, sX8_reading_27, sX8_reading_30, sX8_reading_32, sX8_reading_33, sX8_reading_34, sX8_reading_37, sX8_reading_40, sX8_reading_42, sX8_reading_45, sX8_reading_47, sX8_reading_48, sX8_reading_49, sX8_reading_52, sX8_reading_53, sX8_reading_54, sX8_reading_55, sX8_reading_58, ↓reduceIte, if_true, if_false, Option.bind_some, Option.bind_none, Option.toList_some, Option.toList_none, List.cons_append, List.nil_append, Option.elim_some, true_or, or_true, or_false, false_or, true_and, and_true, and_false, false_and, zio1, zio0, zio01, not_true_eq_false, not_false_eq_true, h1]
theorem pX8_back (hR : CRs g H R rh rd rt) {x : Int32} : go L xs 62 69 0 [some (.ref 0), some (.int x)] [] (hp g t) = (if 0 ≤ x.toInt ∧ x.toInt ≤ R then some (some (.int (nI (R - x.toInt.toNat))), hp (zu g 15 3 (nI (R - x.toInt.toNat))) t) else some (some (.int (-2)), hp g t)) := by
  obtain ⟨r1, r2, -⟩ := hR
  have hin := kX8_in (L := L) (xs := xs) (g := g) (t := t) (x := x) (a := 0) (b := nI R) (lo := 0) (hi := R) (by decide) (nI_toInt (by omega))
  by_cases q : 0 ≤ x.toInt ∧ x.toInt ≤ R
  · rw [if_pos q] at hin ⊢
    have hx := nI_back q.1
    generalize hk : x.toInt.toNat = k at hx
    subst hx
    have hkt := nI_toInt (n := k) (by omega)
    simp (disch := omega) only [sX8_back_0, sX8_back_1, sX8_back_2, sX8_back_3, sX8_back_6, sX8_back_9, sX8_back_12, sX8_back_15, sX8_back_17, sX8_back_18, sX8_back_19, sX8_back_22, sX8_back_23, sX8_back_26, sX8_back_27, sX8_back_28, sX8_back_31, sX8_back_32, sX8_back_35, sX8_back_38, ↓reduceIte, if_true, if_false, Option.bind_some, Option.bind_none, Option.toList_some, Option.toList_none, List.cons_append, List.nil_append, Option.elim_some, true_or, or_true, or_false, false_or, true_and, and_true, and_false, false_and, zio1, zio0, zio01, not_true_eq_false, not_false_eq_true, nlt, neq, nlt0, n0lt, neq0, neq1, nm9, m9n, nadd, nadd1, nmul, ncl, zin_t, hin, r1, nsub, zuA]
  · rw [if_neg q] at hin ⊢
    simp only [sX8_back_0, sX8_back_1, sX8_back_2, sX8_back_3, sX8_back_6, sX8_back_9, sX8_back_12, sX8_back_15, sX8_back_17, sX8_back_18, sX8_back_19, sX8_back_22, sX8_back_23, sX8_back_26, sX8_back_27, sX8_back_28, sX8_back_31, sX8_back_32, sX8_back_35, sX8_back_38, ↓reduceIte, if_true, if_false, Option.bind_some, Option.bind_none, Option.toList_some, Option.toList_none, List.cons_append, List.nil_append, Option.elim_some, true_or, or_true, or_false, false_or, true_and, and_true, and_false, false_and, zio1, zio0, zio01, not_true_eq_false, not_false_eq_true, hin, r1]
end C12
