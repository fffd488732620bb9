/-! The class: a town out of a text. -/
section C14
variable {L : Nat} {xs : Nat → Int32} {g g' : Nat → Nat → Int32} {t : Nat → Int64}
variable {hs : Nat → Bool} {sz ln : Nat → Nat} {ce : Nat → Nat → Int32} {c : Nat → Int32}
theorem kX8_goesOn {p : Nat} {c : Int32} (hp1 : p ≤ 60) : (gon p c → go L xs 95 69 0 [some (.int (nI p)), some (.int c)] [] (hp g t) = some (some (.int 1), hp g t)) ∧ (¬ gon p c → go L xs 95 69 0 [some (.int (nI p)), some (.int c)] [] (hp g t) = some (some (.int 0), hp g t)) := by
  have i0 := kX8_in (L := L) (xs := xs) (g := g) (t := t) (x := c) (a := 48) (b := 57) (lo := 48) (hi := 57) (by decide) (by decide)
  have i1 := kX8_in (L := L) (xs := xs) (g := g) (t := t) (x := c) (a := 49) (b := 57) (lo := 49) (hi := 57) (by decide) (by decide)
  by_cases q0 : p = 0
  · subst q0
    have l2 : ((0 : Int32) < 2) = True := by decide
    have e : gon 0 c ↔ c = 116 := by unfold gon; rw [if_pos rfl]
    rw [e]
    exact ⟨fun h => by simp only [sX8_goesOn_0, sX8_goesOn_1, sX8_goesOn_2, sX8_goesOn_5, sX8_goesOn_6, sX8_goesOn_9, sX8_goesOn_10, sX8_goesOn_12, sX8_goesOn_15, sX8_goesOn_16, sX8_goesOn_19, sX8_goesOn_20, sX8_goesOn_23, sX8_goesOn_24, sX8_goesOn_26, sX8_goesOn_28, sX8_goesOn_31, ↓reduceIte, if_true, if_false, Option.bind_some, Option.bind_none, Option.toList_some, Option.toList_none, List.cons_append, List.nil_append, Option.elim_some, true_or, or_true, or_false, false_or, true_and, and_true, and_false, false_and, zio1, zio0, zio01, not_true_eq_false, not_false_eq_true, nI_0, l2, eq_true h, zbo1], fun h => by simp only [sX8_goesOn_0, sX8_goesOn_1, sX8_goesOn_2, sX8_goesOn_5, sX8_goesOn_6, sX8_goesOn_9, sX8_goesOn_10, sX8_goesOn_12, sX8_goesOn_15, sX8_goesOn_16, sX8_goesOn_19, sX8_goesOn_20, sX8_goesOn_23, sX8_goesOn_24, sX8_goesOn_26, sX8_goesOn_28, sX8_goesOn_31, ↓reduceIte, if_true, if_false, Option.bind_some, Option.bind_none, Option.toList_some, Option.toList_none, List.cons_append, List.nil_append, Option.elim_some, true_or, or_true, or_false, false_or, true_and, and_true, and_false, false_and, zio1, zio0, zio01, not_true_eq_false, not_false_eq_true, nI_0, l2, eq_false h, zbo0]⟩
  by_cases q1 : p = 1
  · subst q1
    have l2 : ((1 : Int32) < 2) = True := by decide
    have n1 : nI 1 = 1 := by decide
    have e : gon 1 c ↔ (48 ≤ c.toInt ∧ c.toInt ≤ 57) := by unfold gon; rw [if_neg (by omega), if_pos rfl]
    rw [e]
    refine ⟨fun h => ?_, fun h => ?_⟩
    · rw [if_pos h] at i0
      simp only [sX8_goesOn_0, sX8_goesOn_1, sX8_goesOn_2, sX8_goesOn_5, sX8_goesOn_6, sX8_goesOn_9, sX8_goesOn_10, sX8_goesOn_12, sX8_goesOn_15, sX8_goesOn_16, sX8_goesOn_19, sX8_goesOn_20, sX8_goesOn_23, sX8_goesOn_24, sX8_goesOn_26, sX8_goesOn_28, sX8_goesOn_31, ↓reduceIte, if_true, if_false, Option.bind_some, Option.bind_none, Option.toList_some, Option.toList_none, List.cons_append, List.nil_append, Option.elim_some, true_or, or_true, or_false, false_or, true_and, and_true, and_false, false_and, zio1, zio0, zio01, not_true_eq_false, not_false_eq_true, n1, l2, i0, zbo1]
    · rw [if_neg h] at i0
      simp only [sX8_goesOn_0, sX8_goesOn_1, sX8_goesOn_2, sX8_goesOn_5, sX8_goesOn_6, sX8_goesOn_9, sX8_goesOn_10, sX8_goesOn_12, sX8_goesOn_15, sX8_goesOn_16, sX8_goesOn_19, sX8_goesOn_20, sX8_goesOn_23, sX8_goesOn_24, sX8_goesOn_26, sX8_goesOn_28, sX8_goesOn_31, ↓reduceIte, if_true, if_false, Option.bind_some, Option.bind_none, Option.toList_some, Option.toList_none, List.cons_append, List.nil_append, Option.elim_some, true_or, or_true, or_false, false_or, true_and, and_true, and_false, false_and, zio1, zio0, zio01, not_true_eq_false, not_false_eq_true, n1, l2, i0, zbo0]
  have l2 : (nI p < 2) = False := by
    rw [li2, nlt (by omega) (by omega)]; apply eq_false; omega
  by_cases q44 : 44 ≤ p
  · have l44 : (nI p < 44) = False := by
      rw [show (44 : Int32) = nI 44 by decide, nlt (by omega) (by omega)]; apply eq_false; omega
    have e : gon p c ↔ False := by unfold gon; rw [if_neg q0, if_neg q1, if_pos q44]
    rw [e]
    exact ⟨fun h => h.elim, fun h => by simp only [sX8_goesOn_0, sX8_goesOn_1, sX8_goesOn_2, sX8_goesOn_5, sX8_goesOn_6, sX8_goesOn_9, sX8_goesOn_10, sX8_goesOn_12, sX8_goesOn_15, sX8_goesOn_16, sX8_goesOn_19, sX8_goesOn_20, sX8_goesOn_23, sX8_goesOn_24, sX8_goesOn_26, sX8_goesOn_28, sX8_goesOn_31, sX8_goesOn_32, sX8_goesOn_33, sX8_goesOn_35, sX8_goesOn_38, sX8_goesOn_39, ↓reduceIte, if_true, if_false, Option.bind_some, Option.bind_none, Option.toList_some, Option.toList_none, List.cons_append, List.nil_append, Option.elim_some, true_or, or_true, or_false, false_or, true_and, and_true, and_false, false_and, zio1, zio0, zio01, not_true_eq_false, not_false_eq_true, l2, l44, zbo0]⟩
  have l44 : (nI p < 44) = True := by
    rw [show (44 : Int32) = nI 44 by decide, nlt (by omega) (by omega)]; apply eq_true; omega
  have s2 : nI p - 2 = nI (p - 2) := by rw [li2, nsub (by omega)]
  have hr : nI (p - 2) - nI (p - 2) / 6 * 6 = nI ((p - 2) % 6) := by rw [li6, nrem (by omega) (by omega) (by omega)]
  by_cases r0 : (p - 2) % 6 = 0
  · have e : gon p c ↔ c = 59 := by unfold gon; rw [if_neg q0, if_neg q1, if_neg q44, if_pos r0]
    rw [e]
    rw [r0, nI_0] at hr
    exact ⟨fun h => by simp only [sX8_goesOn_0, sX8_goesOn_1, sX8_goesOn_2, sX8_goesOn_5, sX8_goesOn_6, sX8_goesOn_9, sX8_goesOn_10, sX8_goesOn_12, sX8_goesOn_15, sX8_goesOn_16, sX8_goesOn_19, sX8_goesOn_20, sX8_goesOn_23, sX8_goesOn_24, sX8_goesOn_26, sX8_goesOn_28, sX8_goesOn_31, sX8_goesOn_32, sX8_goesOn_33, sX8_goesOn_35, sX8_goesOn_38, sX8_goesOn_39, sX8_goesOn_40, sX8_goesOn_41, sX8_goesOn_42, sX8_goesOn_43, sX8_goesOn_45, sX8_goesOn_46_c0, sX8_goesOn_80, sX8_goesOn_81, sX8_goesOn_83, sX8_goesOn_86, sX8_goesOn_87, sX8_goesOn_90, sX8_goesOn_91, ↓reduceIte, if_true, if_false, Option.bind_some, Option.bind_none, Option.toList_some, Option.toList_none, List.cons_append, List.nil_append, Option.elim_some, true_or, or_true, or_false, false_or, true_and, and_true, and_false, false_and, zio1, zio0, zio01, not_true_eq_false, not_false_eq_true, l2, l44, s2, hr, eq_true h, zbo1], fun h => by simp only [sX8_goesOn_0, sX8_goesOn_1, sX8_goesOn_2, sX8_goesOn_5, sX8_goesOn_6, sX8_goesOn_9, sX8_goesOn_10, sX8_goesOn_12, sX8_goesOn_15, sX8_goesOn_16, sX8_goesOn_19, sX8_goesOn_20, sX8_goesOn_23, sX8_goesOn_24, sX8_goesOn_26, sX8_goesOn_28, sX8_goesOn_31, sX8_goesOn_32, sX8_goesOn_33, sX8_goesOn_35, sX8_goesOn_38, sX8_goesOn_39, sX8_goesOn_40, sX8_goesOn_41, sX8_goesOn_42, sX8_goesOn_43, sX8_goesOn_45, sX8_goesOn_46_c0, sX8_goesOn_80, sX8_goesOn_81, sX8_goesOn_83, sX8_goesOn_86, sX8_goesOn_87, sX8_goesOn_90, sX8_goesOn_91, ↓reduceIte, if_true, if_false, Option.bind_some, Option.bind_none, Option.toList_some, Option.toList_none, List.cons_append, List.nil_append, Option.elim_some, true_or, or_true, or_false, false_or, true_and, and_true, and_false, false_and, zio1, zio0, zio01, not_true_eq_false, not_false_eq_true, l2, l44, s2, hr, eq_false h, zbo0]⟩
  by_cases r1 : (p - 2) % 6 = 1
  · have e : gon p c ↔ (c = 104 ∨ c = 105 ∨ c = 112) := by unfold gon; rw [if_neg q0, if_neg q1, if_neg q44, if_neg r0, if_pos r1]
    rw [e]
    rw [r1, show nI 1 = 1 by decide] at hr
    by_cases a : c = 104
    · exact ⟨fun h => by simp only [sX8_goesOn_0, sX8_goesOn_1, sX8_goesOn_2, sX8_goesOn_5, sX8_goesOn_6, sX8_goesOn_9, sX8_goesOn_10, sX8_goesOn_12, sX8_goesOn_15, sX8_goesOn_16, sX8_goesOn_19, sX8_goesOn_20, sX8_goesOn_23, sX8_goesOn_24, sX8_goesOn_26, sX8_goesOn_28, sX8_goesOn_31, sX8_goesOn_32, sX8_goesOn_33, sX8_goesOn_35, sX8_goesOn_38, sX8_goesOn_39, sX8_goesOn_40, sX8_goesOn_41, sX8_goesOn_42, sX8_goesOn_43, sX8_goesOn_45, sX8_goesOn_46_c1, sX8_goesOn_92, sX8_goesOn_93, sX8_goesOn_95, sX8_goesOn_98, sX8_goesOn_99, sX8_goesOn_101, sX8_goesOn_104, sX8_goesOn_105, sX8_goesOn_107, sX8_goesOn_110, sX8_goesOn_111, sX8_goesOn_114, sX8_goesOn_115, ↓reduceIte, if_true, if_false, Option.bind_some, Option.bind_none, Option.toList_some, Option.toList_none, List.cons_append, List.nil_append, Option.elim_some, true_or, or_true, or_false, false_or, true_and, and_true, and_false, false_and, zio1, zio0, zio01, not_true_eq_false, not_false_eq_true, l2, l44, s2, hr, eq_true a, zbo1], fun h => absurd (Or.inl a) h⟩
    by_cases b : c = 105
    · exact ⟨fun h => by simp only [sX8_goesOn_0, sX8_goesOn_1, sX8_goesOn_2, sX8_goesOn_5, sX8_goesOn_6, sX8_goesOn_9, sX8_goesOn_10, sX8_goesOn_12, sX8_goesOn_15, sX8_goesOn_16, sX8_goesOn_19, sX8_goesOn_20, sX8_goesOn_23, sX8_goesOn_24, sX8_goesOn_26, sX8_goesOn_28, sX8_goesOn_31, sX8_goesOn_32, sX8_goesOn_33, sX8_goesOn_35, sX8_goesOn_38, sX8_goesOn_39, sX8_goesOn_40, sX8_goesOn_41, sX8_goesOn_42, sX8_goesOn_43, sX8_goesOn_45, sX8_goesOn_46_c1, sX8_goesOn_92, sX8_goesOn_93, sX8_goesOn_95, sX8_goesOn_98, sX8_goesOn_99, sX8_goesOn_101, sX8_goesOn_104, sX8_goesOn_105, sX8_goesOn_107, sX8_goesOn_110, sX8_goesOn_111, sX8_goesOn_114, sX8_goesOn_115, ↓reduceIte, if_true, if_false, Option.bind_some, Option.bind_none, Option.toList_some, Option.toList_none, List.cons_append, List.nil_append, Option.elim_some, true_or, or_true, or_false, false_or, true_and, and_true, and_false, false_and, zio1, zio0, zio01, not_true_eq_false, not_false_eq_true, l2, l44, s2, hr, eq_false a, eq_true b, zbo1], fun h => absurd (Or.inr (Or.inl b)) h⟩
    by_cases d : c = 112
    · exact ⟨fun h => by simp only [sX8_goesOn_0, sX8_goesOn_1, sX8_goesOn_2, sX8_goesOn_5, sX8_goesOn_6, sX8_goesOn_9, sX8_goesOn_10, sX8_goesOn_12, sX8_goesOn_15, sX8_goesOn_16, sX8_goesOn_19, sX8_goesOn_20, sX8_goesOn_23, sX8_goesOn_24, sX8_goesOn_26, sX8_goesOn_28, sX8_goesOn_31, sX8_goesOn_32, sX8_goesOn_33, sX8_goesOn_35, sX8_goesOn_38, sX8_goesOn_39, sX8_goesOn_40, sX8_goesOn_41, sX8_goesOn_42, sX8_goesOn_43, sX8_goesOn_45, sX8_goesOn_46_c1, sX8_goesOn_92, sX8_goesOn_93, sX8_goesOn_95, sX8_goesOn_98, sX8_goesOn_99, sX8_goesOn_101, sX8_goesOn_104, sX8_goesOn_105, sX8_goesOn_107, sX8_goesOn_110, sX8_goesOn_111, sX8_goesOn_114, sX8_goesOn_115, ↓reduceIte, if_true, if_false, Option.bind_some, Option.bind_none, Option.toList_some, Option.toList_none, List.cons_append, List.nil_append, Option.elim_some, true_or, or_true, or_false, false_or, true_and, and_true, and_false, false_and, zio1, zio0, zio01, not_true_eq_false, not_false_eq_true, l2, l44, s2, hr, eq_false a, eq_false b, eq_true d, zbo1], fun h => absurd (Or.inr (Or.inr d)) h⟩
    · exact ⟨fun h => (h.elim a (fun h => h.elim b d)).elim, fun h => by simp only [sX8_goesOn_0, sX8_goesOn_1, sX8_goesOn_2, sX8_goesOn_5, sX8_goesOn_6, sX8_goesOn_9, sX8_goesOn_10, sX8_goesOn_12, sX8_goesOn_15, sX8_goesOn_16, sX8_goesOn_19, sX8_goesOn_20, sX8_goesOn_23, sX8_goesOn_24, sX8_goesOn_26, sX8_goesOn_28, sX8_goesOn_31, sX8_goesOn_32, sX8_goesOn_33, sX8_goesOn_35, sX8_goesOn_38, sX8_goesOn_39, sX8_goesOn_40, sX8_goesOn_41, sX8_goesOn_42, sX8_goesOn_43, sX8_goesOn_45, sX8_goesOn_46_c1, sX8_goesOn_92, sX8_goesOn_93, sX8_goesOn_95, sX8_goesOn_98, sX8_goesOn_99, sX8_goesOn_101, sX8_goesOn_104, sX8_goesOn_105, sX8_goesOn_107, sX8_goesOn_110, sX8_goesOn_111, sX8_goesOn_114, sX8_goesOn_115, ↓reduceIte, if_true, if_false, Option.bind_some, Option.bind_none, Option.toList_some, Option.toList_none, List.cons_append, List.nil_append, Option.elim_some, true_or, or_true, or_false, false_or, true_and, and_true, and_false, false_and, zio1, zio0, zio01, not_true_eq_false, not_false_eq_true, l2, l44, s2, hr, eq_false a, eq_false b, eq_false d, zbo0]⟩
  by_cases r4 : (p - 2) % 6 = 4
  · have e : gon p c ↔ (48 ≤ c.toInt ∧ c.toInt ≤ 57) := by unfold gon; rw [if_neg q0, if_neg q1, if_neg q44, if_neg r0, if_neg r1, if_pos r4]
    rw [e]
    rw [r4, show nI 4 = 4 by decide] at hr
    refine ⟨fun h => ?_, fun h => ?_⟩
    · rw [if_pos h] at i0
      simp only [sX8_goesOn_0, sX8_goesOn_1, sX8_goesOn_2, sX8_goesOn_5, sX8_goesOn_6, sX8_goesOn_9, sX8_goesOn_10, sX8_goesOn_12, sX8_goesOn_15, sX8_goesOn_16, sX8_goesOn_19, sX8_goesOn_20, sX8_goesOn_23, sX8_goesOn_24, sX8_goesOn_26, sX8_goesOn_28, sX8_goesOn_31, sX8_goesOn_32, sX8_goesOn_33, sX8_goesOn_35, sX8_goesOn_38, sX8_goesOn_39, sX8_goesOn_40, sX8_goesOn_41, sX8_goesOn_42, sX8_goesOn_43, sX8_goesOn_45, sX8_goesOn_46_c4, sX8_goesOn_116, sX8_goesOn_117, sX8_goesOn_119, sX8_goesOn_121, sX8_goesOn_124, ↓reduceIte, if_true, if_false, Option.bind_some, Option.bind_none, Option.toList_some, Option.toList_none, List.cons_append, List.nil_append, Option.elim_some, true_or, or_true, or_false, false_or, true_and, and_true, and_false, false_and, zio1, zio0, zio01, not_true_eq_false, not_false_eq_true, l2, l44, s2, hr, i0, zbo1]
    · rw [if_neg h] at i0
      simp only [sX8_goesOn_0, sX8_goesOn_1, sX8_goesOn_2, sX8_goesOn_5, sX8_goesOn_6, sX8_goesOn_9, sX8_goesOn_10, sX8_goesOn_12, sX8_goesOn_15, sX8_goesOn_16, sX8_goesOn_19, sX8_goesOn_20, sX8_goesOn_23, sX8_goesOn_24, sX8_goesOn_26, sX8_goesOn_28, sX8_goesOn_31, sX8_goesOn_32, sX8_goesOn_33, sX8_goesOn_35, sX8_goesOn_38, sX8_goesOn_39, sX8_goesOn_40, sX8_goesOn_41, sX8_goesOn_42, sX8_goesOn_43, sX8_goesOn_45, sX8_goesOn_46_c4, sX8_goesOn_116, sX8_goesOn_117, sX8_goesOn_119, sX8_goesOn_121, sX8_goesOn_124, ↓reduceIte, if_true, if_false, Option.bind_some, Option.bind_none, Option.toList_some, Option.toList_none, List.cons_append, List.nil_append, Option.elim_some, true_or, or_true, or_false, false_or, true_and, and_true, and_false, false_and, zio1, zio0, zio01, not_true_eq_false, not_false_eq_true, l2, l44, s2, hr, i0, zbo0]
  · have e : gon p c ↔ (49 ≤ c.toInt ∧ c.toInt ≤ 57) := by unfold gon; rw [if_neg q0, if_neg q1, if_neg q44, if_neg r0, if_neg r1, if_neg r4]
    rw [e]
    have hsw : zSw (.tableswitch 79 0 4 #[34, 46, 79, 79, 70]) (nI ((p - 2) % 6)) = some 79 := by
      have : ∀ r, r < 6 → r ≠ 0 → r ≠ 1 → r ≠ 4 → zSw (.tableswitch 79 0 4 #[34, 46, 79, 79, 70]) (nI r) = some 79 := by decide +kernel
      exact this _ (Nat.mod_lt _ (by omega)) r0 r1 r4
    refine ⟨fun h => ?_, fun h => ?_⟩
    · rw [if_pos h] at i1
      simp only [sX8_goesOn_0, sX8_goesOn_1, sX8_goesOn_2, sX8_goesOn_5, sX8_goesOn_6, sX8_goesOn_9, sX8_goesOn_10, sX8_goesOn_12, sX8_goesOn_15, sX8_goesOn_16, sX8_goesOn_19, sX8_goesOn_20, sX8_goesOn_23, sX8_goesOn_24, sX8_goesOn_26, sX8_goesOn_28, sX8_goesOn_31, sX8_goesOn_32, sX8_goesOn_33, sX8_goesOn_35, sX8_goesOn_38, sX8_goesOn_39, sX8_goesOn_40, sX8_goesOn_41, sX8_goesOn_42, sX8_goesOn_43, sX8_goesOn_45, sX8_goesOn_46_d hsw, sX8_goesOn_125, sX8_goesOn_126, sX8_goesOn_128, sX8_goesOn_130, sX8_goesOn_133, ↓reduceIte, if_true, if_false, Option.bind_some, Option.bind_none, Option.toList_some, Option.toList_none, List.cons_append, List.nil_append, Option.elim_some, true_or, or_true, or_false, false_or, true_and, and_true, and_false, false_and, zio1, zio0, zio01, not_true_eq_false, not_false_eq_true, l2, l44, s2, hr, i1, zbo1]
    · rw [if_neg h] at i1
      simp only [sX8_goesOn_0, sX8_goesOn_1, sX8_goesOn_2, sX8_goesOn_5, sX8_goesOn_6, sX8_goesOn_9, sX8_goesOn_10, sX8_goesOn_12, sX8_goesOn_15, sX8_goesOn_16, sX8_goesOn_19, sX8_goesOn_20, sX8_goesOn_23, sX8_goesOn_24, sX8_goesOn_26, sX8_goesOn_28, sX8_goesOn_31, sX8_goesOn_32, sX8_goesOn_33, sX8_goesOn_35, sX8_goesOn_38, sX8_goesOn_39, sX8_goesOn_40, sX8_goesOn_41, sX8_goesOn_42, sX8_goesOn_43, sX8_goesOn_45, sX8_goesOn_46_d hsw, sX8_goesOn_125, sX8_goesOn_126, sX8_goesOn_128, sX8_goesOn_130, sX8_goesOn_133, ↓reduceIte, if_true, if_false, Option.bind_some, Option.bind_none, Option.toList_some, Option.toList_none, List.cons_append, List.nil_append, Option.elim_some, true_or, or_true, or_false, false_or, true_and, and_true, and_false, false_and, zio1, zio0, zio01, not_true_eq_false, not_false_eq_true, l2, l44, s2, hr, i1, zbo0]
theorem gcl {n q : Nat} (h : q < n) : gc c n q = c q := if_pos h
theorem gcn {n : Nat} : gc c n n = -9 := if_neg (Nat.lt_irrefl n)
theorem FF_uniq {n p p' : Nat} (h : FF c n p) (h' : FF c n p') : p = p' := by
  rcases Nat.lt_trichotomy p p' with q | q | q
  · exact absurd (h'.1 p q) h.2.1
  · exact q
  · exact absurd (h.1 p' q) h'.2.1
theorem FF_OK {n p j : Nat} (h : FF c n p) (h' : OKt c n j) : False := by
  obtain ⟨a, b, d, e⟩ := h'
  rcases Nat.lt_trichotomy p n with q | q | q
  · exact h.2.1 (e p q)
  · exact h.2.2 ⟨q, by omega, by omega⟩
  · have := h.1 n q
    rw [gcn] at this
    exact m9_gon n this
theorem gon_lt {p : Nat} {x : Int32} (h : gon p x) : p < 44 := by
  rcases Nat.lt_or_ge p 44 with q | q
  · exact q
  · unfold gon at h
    rw [if_neg (by omega), if_neg (by omega), if_pos q] at h
    exact h.elim
theorem kX8_ff_loop {k i n : Nat} (hk : k < 4) (h60 : i + n ≤ 60) (hc : ∀ p, p < n → g (38 + 2 * k) (i + p) = c p) : ∀ e p, p + e = n → (∀ q, q < p → gon q (c q)) → ∃ r : Int32, ((r = -9 ∧ 14 ≤ n ∧ (n - 2) % 6 = 0 ∧ ∀ q, q < n → gon q (c q)) ∨ (∃ p, p ≤ n ∧ FF c n p ∧ r = nI p)) ∧ go L xs 94 69 2 [some (.ref (37 + 2 * k)), some (.int (nI i)), some (.int (nI n)), some (.int (nI p)), none] [] (hp g t) = some (some (.int r), hp g t)
  | 0, p, hp1, ha => by
    have hp1 : p = n := by omega
    subst hp1
    by_cases q : 14 ≤ p ∧ (p - 2) % 6 = 0
    · refine ⟨-9, Or.inl ⟨rfl, q.1, q.2, ha⟩, ?_⟩
      have s2 : nI p - 2 = nI (p - 2) := by rw [li2, nsub (by omega)]
      have hr : nI (p - 2) - nI (p - 2) / 6 * 6 = 0 := by rw [li6, nrem (by omega) (by omega) (by omega), q.2, nI_0]
      have l14 : (nI p < 14) = False := by
        rw [show (14 : Int32) = nI 14 by decide, nlt (by omega) (by omega)]; apply eq_false; omega
      simp (disch := omega) only [sX8_firstFault_2, sX8_firstFault_3, sX8_firstFault_4, sX8_firstFault_30, sX8_firstFault_31, sX8_firstFault_32, sX8_firstFault_33, sX8_firstFault_35, sX8_firstFault_36, sX8_firstFault_39, sX8_firstFault_40, sX8_firstFault_43, sX8_firstFault_44, sX8_firstFault_45, sX8_firstFault_46, sX8_firstFault_48, sX8_firstFault_51, sX8_firstFault_52, sX8_firstFault_55, sX8_firstFault_56, sX8_firstFault_58, sX8_firstFault_59, sX8_firstFault_62, sX8_firstFault_64, sX8_firstFault_67, sX8_firstFault_69, sX8_firstFault_72, sX8_firstFault_73, ↓reduceIte, if_true, if_false, Option.bind_some, Option.bind_none, Option.toList_some, Option.toList_none, List.cons_append, List.nil_append, Option.elim_some, true_or, or_true, or_false, false_or, true_and, and_true, and_false, false_and, zio1, zio0, zio01, not_true_eq_false, not_false_eq_true, nlt, neq, nlt0, n0lt, neq0, neq1, nm9, m9n, nadd, nadd1, nmul, ncl, zin_t, Nat.lt_irrefl, s2, hr, l14]
    · refine ⟨nI p, Or.inr ⟨p, Nat.le_refl _, ⟨fun q hq => by rw [gcl hq]; exact ha q hq, by rw [gcn]; exact m9_gon p, fun z => q z.2⟩, rfl⟩, ?_⟩
      by_cases q14 : 14 ≤ p
      · have hne : ¬ (p - 2) % 6 = 0 := fun z => q ⟨q14, z⟩
        have s2 : nI p - 2 = nI (p - 2) := by rw [li2, nsub (by omega)]
        have hlt : (p - 2) % 6 < 6 := Nat.mod_lt _ (by omega)
        have hr : (nI (p - 2) - nI (p - 2) / 6 * 6 = 0) = False := by
          rw [li6, nrem (by omega) (by omega) (by omega), neq0 (by omega)]; exact eq_false hne
        have l14 : (nI p < 14) = False := by
          rw [show (14 : Int32) = nI 14 by decide, nlt (by omega) (by omega)]; apply eq_false; omega
        simp (disch := omega) only [sX8_firstFault_2, sX8_firstFault_3, sX8_firstFault_4, sX8_firstFault_30, sX8_firstFault_31, sX8_firstFault_32, sX8_firstFault_33, sX8_firstFault_35, sX8_firstFault_36, sX8_firstFault_39, sX8_firstFault_40, sX8_firstFault_43, sX8_firstFault_44, sX8_firstFault_45, sX8_firstFault_46, sX8_firstFault_48, sX8_firstFault_51, sX8_firstFault_52, sX8_firstFault_55, sX8_firstFault_56, sX8_firstFault_58, sX8_firstFault_59, sX8_firstFault_62, sX8_firstFault_64, sX8_firstFault_67, sX8_firstFault_69, sX8_firstFault_72, sX8_firstFault_73, ↓reduceIte, if_true, if_false, Option.bind_some, Option.bind_none, Option.toList_some, Option.toList_none, List.cons_append, List.nil_append, Option.elim_some, true_or, or_true, or_false, false_or, true_and, and_true, and_false, false_and, zio1, zio0, zio01, not_true_eq_false, not_false_eq_true, nlt, neq, nlt0, n0lt, neq0, neq1, nm9, m9n, nadd, nadd1, nmul, ncl, zin_t, Nat.lt_irrefl, s2, hr, l14]
      · have l14 : (nI p < 14) = True := by
          rw [show (14 : Int32) = nI 14 by decide, nlt (by omega) (by omega)]; apply eq_true; omega
        by_cases z : nI p - 2 - (nI p - 2) / 6 * 6 = 0
        · simp (disch := omega) only [sX8_firstFault_2, sX8_firstFault_3, sX8_firstFault_4, sX8_firstFault_30, sX8_firstFault_31, sX8_firstFault_32, sX8_firstFault_33, sX8_firstFault_35, sX8_firstFault_36, sX8_firstFault_39, sX8_firstFault_40, sX8_firstFault_43, sX8_firstFault_44, sX8_firstFault_45, sX8_firstFault_46, sX8_firstFault_48, sX8_firstFault_51, sX8_firstFault_52, sX8_firstFault_55, sX8_firstFault_56, sX8_firstFault_58, sX8_firstFault_59, sX8_firstFault_62, sX8_firstFault_64, sX8_firstFault_67, sX8_firstFault_69, sX8_firstFault_72, sX8_firstFault_73, ↓reduceIte, if_true, if_false, Option.bind_some, Option.bind_none, Option.toList_some, Option.toList_none, List.cons_append, List.nil_append, Option.elim_some, true_or, or_true, or_false, false_or, true_and, and_true, and_false, false_and, zio1, zio0, zio01, not_true_eq_false, not_false_eq_true, nlt, Nat.lt_irrefl, eq_true z, l14]
        · simp (disch := omega) only [sX8_firstFault_2, sX8_firstFault_3, sX8_firstFault_4, sX8_firstFault_30, sX8_firstFault_31, sX8_firstFault_32, sX8_firstFault_33, sX8_firstFault_35, sX8_firstFault_36, sX8_firstFault_39, sX8_firstFault_40, sX8_firstFault_43, sX8_firstFault_44, sX8_firstFault_45, sX8_firstFault_46, sX8_firstFault_48, sX8_firstFault_51, sX8_firstFault_52, sX8_firstFault_55, sX8_firstFault_56, sX8_firstFault_58, sX8_firstFault_59, sX8_firstFault_62, sX8_firstFault_64, sX8_firstFault_67, sX8_firstFault_69, sX8_firstFault_72, sX8_firstFault_73, ↓reduceIte, if_true, if_false, Option.bind_some, Option.bind_none, Option.toList_some, Option.toList_none, List.cons_append, List.nil_append, Option.elim_some, true_or, or_true, or_false, false_or, true_and, and_true, and_false, false_and, zio1, zio0, zio01, not_true_eq_false, not_false_eq_true, nlt, Nat.lt_irrefl, eq_false z, l14]
  | e + 1, p, hp1, ha => by
    obtain ⟨o1, o2, o3, o4⟩ := shb hk
    have q : p < n := by omega
    have hcp := hc p q
    obtain ⟨g1, g2⟩ := kX8_goesOn (L := L) (xs := xs) (g := g) (t := t) (p := p) (c := c p) (by omega)
    by_cases z : gon p (c p)
    · obtain ⟨r, r1, r2⟩ := kX8_ff_loop hk h60 hc e (p + 1) (by omega) (fun q hq => by
        by_cases y : q = p
        · rw [y]; exact z
        · exact ha q (by omega))
      refine ⟨r, r1, ?_⟩
      have g1 := g1 z
      rw [← r2, sX8_firstFault_2]
      simp (disch := omega) only [sX8_firstFault_3, sX8_firstFault_4, sX8_firstFault_7, sX8_firstFault_8, sX8_firstFault_9, sX8_firstFault_12, sX8_firstFault_13, sX8_firstFault_14, sX8_firstFault_15, sX8_firstFault_16, sX8_firstFault_19, sX8_firstFault_22, sX8_firstFault_23, sX8_firstFault_24, sX8_firstFault_27, ↓reduceIte, if_true, if_false, Option.bind_some, Option.bind_none, Option.toList_some, Option.toList_none, List.cons_append, List.nil_append, Option.elim_some, true_or, or_true, or_false, false_or, true_and, and_true, and_false, false_and, zio1, zio0, zio01, not_true_eq_false, not_false_eq_true, nlt, neq, nlt0, n0lt, neq0, neq1, nm9, m9n, nadd, nadd1, nmul, ncl, zin_t, q, o2, o3, o4, hcp, g1]
    · refine ⟨nI p, Or.inr ⟨p, by omega, ⟨fun q' hq => by rw [gcl (by omega)]; exact ha q' hq, by rw [gcl q]; exact z, fun y => by omega⟩, rfl⟩, ?_⟩
      have g2 := g2 z
      simp (disch := omega) only [sX8_firstFault_2, sX8_firstFault_3, sX8_firstFault_4, sX8_firstFault_7, sX8_firstFault_8, sX8_firstFault_9, sX8_firstFault_12, sX8_firstFault_13, sX8_firstFault_14, sX8_firstFault_15, sX8_firstFault_16, sX8_firstFault_19, sX8_firstFault_22, sX8_firstFault_23, ↓reduceIte, if_true, if_false, Option.bind_some, Option.bind_none, Option.toList_some, Option.toList_none, List.cons_append, List.nil_append, Option.elim_some, true_or, or_true, or_false, false_or, true_and, and_true, and_false, false_and, zio1, zio0, zio01, not_true_eq_false, not_false_eq_true, nlt, neq, nlt0, n0lt, neq0, neq1, nm9, m9n, nadd, nadd1, nmul, ncl, zin_t, q, o2, o3, o4, hcp, g2]
theorem kX8_firstFault {k i n : Nat} (hk : k < 4) (h60 : i + n ≤ 60) (hc : ∀ p, p < n → g (38 + 2 * k) (i + p) = c p) : ∃ r : Int32, ((r = -9 ∧ ∃ j, OKt c n j) ∨ (∃ p, p ≤ 60 ∧ FF c n p ∧ r = nI p)) ∧ go L xs 94 69 0 [some (.ref (37 + 2 * k)), some (.int (nI i)), some (.int (nI n)), none, none] [] (hp g t) = some (some (.int r), hp g t) := by
  obtain ⟨r, r1, r2⟩ := kX8_ff_loop (L := L) (xs := xs) (t := t) hk h60 hc n 0 (by omega) (fun q hq => absurd hq (by omega))
  refine ⟨r, ?_, ?_⟩
  · rcases r1 with ⟨a, b, d, e⟩ | ⟨p, a, b, d⟩
    · have := gon_lt (e (n - 1) (by omega))
      exact Or.inl ⟨a, (n - 2) / 6, by omega, by omega, by omega, fun q hq => by rw [gcl hq]; exact e q hq⟩
    · exact Or.inr ⟨p, by omega, b, d⟩
  · rw [nI_0] at r2
    simp only [sX8_firstFault_0, sX8_firstFault_1]
    exact r2
theorem kX7_kindOf {c : Int32} (h : c = 104 ∨ c = 105 ∨ c = 112) : go L xs 46 69 0 [some (.int c)] [] (hp g t) = some (some (.int (nI (if c = 104 then 0 else if c = 105 then 1 else 2))), hp g t) := by
  have n1 : nI 1 = 1 := by decide
  have n2 : nI 2 = 2 := by decide
  rcases h with h | h | h
  · subst h
    have hx : zSw (.lookupswitch 31 #[(105, 29), (112, 27)]) 104 = some 31 := by decide
    simp only [sX7_kindOf_0, sX7_kindOf_1_c105, sX7_kindOf_1_c112, sX7_kindOf_28, sX7_kindOf_29, sX7_kindOf_30, sX7_kindOf_31, sX7_kindOf_32, sX7_kindOf_33, sX7_kindOf_1_d hx, ↓reduceIte, if_true, if_false, Option.bind_some, Option.bind_none, Option.toList_some, Option.toList_none, List.cons_append, List.nil_append, Option.elim_some, true_or, or_true, or_false, false_or, true_and, and_true, and_false, false_and, zio1, zio0, zio01, not_true_eq_false, not_false_eq_true, nI_0]
  · subst h
    have e : ((105 : Int32) = 104) = False := by decide
    simp only [sX7_kindOf_0, sX7_kindOf_1_c105, sX7_kindOf_1_c112, sX7_kindOf_28, sX7_kindOf_29, sX7_kindOf_30, sX7_kindOf_31, sX7_kindOf_32, sX7_kindOf_33, ↓reduceIte, if_true, if_false, Option.bind_some, Option.bind_none, Option.toList_some, Option.toList_none, List.cons_append, List.nil_append, Option.elim_some, true_or, or_true, or_false, false_or, true_and, and_true, and_false, false_and, zio1, zio0, zio01, not_true_eq_false, not_false_eq_true, e, n1]
  · subst h
    have e : ((112 : Int32) = 104) = False := by decide
    have e' : ((112 : Int32) = 105) = False := by decide
    simp only [sX7_kindOf_0, sX7_kindOf_1_c105, sX7_kindOf_1_c112, sX7_kindOf_28, sX7_kindOf_29, sX7_kindOf_30, sX7_kindOf_31, sX7_kindOf_32, sX7_kindOf_33, ↓reduceIte, if_true, if_false, Option.bind_some, Option.bind_none, Option.toList_some, Option.toList_none, List.cons_append, List.nil_append, Option.elim_some, true_or, or_true, or_false, false_or, true_and, and_true, and_false, false_and, zio1, zio0, zio01, not_true_eq_false, not_false_eq_true, e, e', n2]
/-- a house as its text tells -/
def HF (g : Nat → Nat → Int32) (c : Nat → Int32) (h : Nat) : Prop := g (3 + h) 0 = nI (kdo c h) ∧ g (3 + h) 1 = nI (dgt c (2 + 6 * h + 2)) ∧ g (3 + h) 2 = nI (dgt c (2 + 6 * h + 3)) ∧ g (3 + h) 3 = nI (dgt c (2 + 6 * h + 4)) ∧ g (3 + h) 4 = nI (dgt c (2 + 6 * h + 5))
theorem dg_eq {p : Nat} {lo : Nat} (hl : lo ≤ 1) (h : 48 + (lo : Int) ≤ (c p).toInt ∧ (c p).toInt ≤ 57) : c p - 48 = nI (dgt c p) ∧ lo ≤ dgt c p ∧ dgt c p ≤ 9 := by
  have := (sub48 (c p) hl).mpr h
  refine ⟨nI_back (by omega), ?_, ?_⟩
  · unfold dgt; omega
  · unfold dgt; omega
theorem OKt.dg {n j : Nat} (h : OKt c n j) {q i : Nat} (hq : q < j) (hi : i < 4) : c (2 + 6 * q + 2 + i) - 48 = nI (dgt c (2 + 6 * q + 2 + i)) ∧ (if i = 2 then 0 else 1) ≤ dgt c (2 + 6 * q + 2 + i) ∧ dgt c (2 + 6 * q + 2 + i) ≤ 9 := by
  obtain ⟨a, b, d, e⟩ := h
  have h1 := e (2 + 6 * q + 2 + i) (by omega)
  rw [gcl (by omega)] at h1
  have h2 := (gon_f (p0 := 2 + 6 * q) rfl (by omega) hi).mp h1
  exact dg_eq (by split <;> omega) h2
theorem OKt.kn {n j : Nat} (h : OKt c n j) {q : Nat} (hq : q < j) : c (2 + 6 * q + 1) = 104 ∨ c (2 + 6 * q + 1) = 105 ∨ c (2 + 6 * q + 1) = 112 := by
  obtain ⟨a, b, d, e⟩ := h
  have h1 := e (2 + 6 * q + 1) (by omega)
  rw [gcl (by omega)] at h1
  unfold gon at h1
  rw [if_neg (by omega), if_neg (by omega), if_neg (by omega), if_neg (by omega), if_pos (by omega)] at h1
  exact h1
theorem kX7_bd_loop {k i n j : Nat} (hk : k < 4) (hok : OKt c n j) (h60 : i + n ≤ 60) {x3 : Option Value} : ∀ e h (g : Nat → Nat → Int32) (x5 x6 : Option Value), h + e = j → g 1 1 = nI j → (∀ p, p < n → g (38 + 2 * k) (i + p) = c p) → (∀ q, q < h → HF g c q) → ∃ g', (∀ a, (a < 3 ∨ 9 < a) → g' a = g a) ∧ (∀ q, q < j → HF g' c q) ∧ go L xs 45 69 28 [some (.ref 1), some (.ref (37 + 2 * k)), some (.int (nI i)), x3, some (.int (nI h)), x5, x6] [] (hp g t) = some (none, hp g' t)
  | 0, h, g, x5, x6, hh, t1, hc, hf => by
    have hh : h = j := by omega
    subst hh
    have h7 := hok.2.2.1
    refine ⟨g, fun _ _ => rfl, hf, ?_⟩
    simp (disch := omega) only [sX7_build_28, sX7_build_30, sX7_build_31, sX7_build_34, sX7_build_148, ↓reduceIte, if_true, if_false, Option.bind_some, Option.bind_none, Option.toList_some, Option.toList_none, List.cons_append, List.nil_append, Option.elim_some, true_or, or_true, or_false, false_or, true_and, and_true, and_false, false_and, zio1, zio0, zio01, not_true_eq_false, not_false_eq_true, nlt, neq, nlt0, n0lt, neq0, neq1, nm9, m9n, nadd, nadd1, nmul, ncl, zin_t, t1, Nat.lt_irrefl]
  | e + 1, h, g, x5, x6, hh, t1, hc, hf => by
    obtain ⟨o1, o2, o3, o4⟩ := shb hk
    have h7 := hok.2.2.1
    have hn := hok.1
    have q : h < j := by omega
    obtain ⟨z1, z2⟩ := hob (h := h) (by omega)
    have zo : ∀ (G : Nat → Nat → Int32) (j : Nat) (v : Int32), zu G (3 + h) j v (38 + 2 * k) = G (38 + 2 * k) := fun G j v => zu_o (by omega)
    have c1 := hc (2 + 6 * h + 1) (by omega)
    have c2 := hc (2 + 6 * h + 2 + 0) (by omega)
    have c3 := hc (2 + 6 * h + 2 + 1) (by omega)
    have c4 := hc (2 + 6 * h + 2 + 2) (by omega)
    have c5 := hc (2 + 6 * h + 2 + 3) (by omega)
    have d2 := (hok.dg q (i := 0) (by omega)).1
    have d3 := (hok.dg q (i := 1) (by omega)).1
    have d4 := (hok.dg q (i := 2) (by omega)).1
    have d5 := (hok.dg q (i := 3) (by omega)).1
    rw [show i + (2 + 6 * h + 1) = i + 2 + h * 6 + 1 by omega] at c1
    rw [show i + (2 + 6 * h + 2 + 0) = i + 2 + h * 6 + 2 by omega] at c2
    rw [show i + (2 + 6 * h + 2 + 1) = i + 2 + h * 6 + 3 by omega] at c3
    rw [show i + (2 + 6 * h + 2 + 2) = i + 2 + h * 6 + 4 by omega] at c4
    rw [show i + (2 + 6 * h + 2 + 3) = i + 2 + h * 6 + 5 by omega] at c5
    have hkd := kX7_kindOf (L := L) (xs := xs) (g := g) (t := t) (hok.kn q)
    rw [show (if c (2 + 6 * h + 1) = 104 then 0 else if c (2 + 6 * h + 1) = 105 then 1 else 2) = kdo c h from rfl] at hkd
    generalize hg1 : zu (zu (zu (zu (zu g (3 + h) 0 (nI (kdo c h))) (3 + h) 1 (nI (dgt c (2 + 6 * h + 2 + 0)))) (3 + h) 2 (nI (dgt c (2 + 6 * h + 2 + 1)))) (3 + h) 3 (nI (dgt c (2 + 6 * h + 2 + 2)))) (3 + h) 4 (nI (dgt c (2 + 6 * h + 2 + 3))) = g1
    have f1 : ∀ a, a ≠ 3 + h → g1 a = g a := fun a ha => by
      subst hg1
      funext p
      simp only [zuA, ha, if_false]
    have hfh : HF g1 c h := by
      subst hg1
      simp only [HF, zuA, if_true, if_false, Nat.reduceEqDiff]
      exact ⟨trivial, trivial, trivial, trivial, trivial⟩
    obtain ⟨g', a1, a2, a3⟩ := kX7_bd_loop hk hok h60 (x3 := x3) e (h + 1) g1 (some (.int (nI (i + 2 + h * 6)))) (some (.ref (3 + h))) (by omega) (by rw [f1 1 (by omega)]; exact t1) (fun p hp1 => by rw [f1 _ (by omega)]; exact hc p hp1) (fun p hp1 => by
      by_cases y : p = h
      · rw [y]; exact hfh
      · unfold HF
        rw [f1 (3 + p) (by omega)]
        exact hf p (by omega))
    refine ⟨g', fun a ha => (a1 a ha).trans (f1 a (by omega)), a2, ?_⟩
    rw [← a3, sX7_build_28]
    simp (disch := omega) only [sX7_build_30, sX7_build_31, sX7_build_34, sX7_build_37, sX7_build_38, sX7_build_39, sX7_build_40, sX7_build_42, sX7_build_44, sX7_build_45, sX7_build_46, sX7_build_48, sX7_build_49, sX7_build_52, sX7_build_54, sX7_build_55, sX7_build_57, sX7_build_59, sX7_build_60, sX7_build_63, sX7_build_65, sX7_build_66, sX7_build_67, sX7_build_68, sX7_build_71, ↓reduceIte, if_true, if_false, Option.bind_some, Option.bind_none, Option.toList_some, Option.toList_none, List.cons_append, List.nil_append, Option.elim_some, true_or, or_true, or_false, false_or, true_and, and_true, and_false, false_and, zio1, zio0, zio01, not_true_eq_false, not_false_eq_true, nlt, neq, nlt0, n0lt, neq0, neq1, nm9, m9n, nadd, nadd1, nmul, ncl, zin_t, t1, q, li2, li6, z1, z2, o2, o3, o4, c1, hkd]
    simp (disch := omega) only [sX7_build_74, sX7_build_76, sX7_build_77, sX7_build_80, sX7_build_82, sX7_build_83, sX7_build_84, sX7_build_85, sX7_build_87, sX7_build_88, ↓reduceIte, if_true, if_false, Option.bind_some, Option.bind_none, Option.toList_some, Option.toList_none, List.cons_append, List.nil_append, Option.elim_some, true_or, or_true, or_false, false_or, true_and, and_true, and_false, false_and, zio1, zio0, zio01, not_true_eq_false, not_false_eq_true, nlt, neq, nlt0, n0lt, neq0, neq1, nm9, m9n, nadd, nadd1, nmul, ncl, zin_t, li2, z2, o2, o3, o4, zo, c2, d2]
    simp (disch := omega) only [sX7_build_91, sX7_build_93, sX7_build_94, sX7_build_97, sX7_build_99, sX7_build_100, sX7_build_101, sX7_build_102, sX7_build_104, sX7_build_105, ↓reduceIte, if_true, if_false, Option.bind_some, Option.bind_none, Option.toList_some, Option.toList_none, List.cons_append, List.nil_append, Option.elim_some, true_or, or_true, or_false, false_or, true_and, and_true, and_false, false_and, zio1, zio0, zio01, not_true_eq_false, not_false_eq_true, nlt, neq, nlt0, n0lt, neq0, neq1, nm9, m9n, nadd, nadd1, nmul, ncl, zin_t, li3, z2, o2, o3, o4, zo, c3, d3]
    simp (disch := omega) only [sX7_build_108, sX7_build_110, sX7_build_111, sX7_build_114, sX7_build_116, sX7_build_117, sX7_build_118, sX7_build_119, sX7_build_121, sX7_build_122, ↓reduceIte, if_true, if_false, Option.bind_some, Option.bind_none, Option.toList_some, Option.toList_none, List.cons_append, List.nil_append, Option.elim_some, true_or, or_true, or_false, false_or, true_and, and_true, and_false, false_and, zio1, zio0, zio01, not_true_eq_false, not_false_eq_true, nlt, neq, nlt0, n0lt, neq0, neq1, nm9, m9n, nadd, nadd1, nmul, ncl, zin_t, li4, z2, o2, o3, o4, zo, c4, d4]
    rw [← hg1]
    simp (disch := omega) only [sX7_build_125, sX7_build_127, sX7_build_128, sX7_build_131, sX7_build_133, sX7_build_134, sX7_build_135, sX7_build_136, sX7_build_138, sX7_build_139, ↓reduceIte, if_true, if_false, Option.bind_some, Option.bind_none, Option.toList_some, Option.toList_none, List.cons_append, List.nil_append, Option.elim_some, true_or, or_true, or_false, false_or, true_and, and_true, and_false, false_and, zio1, zio0, zio01, not_true_eq_false, not_false_eq_true, nlt, neq, nlt0, n0lt, neq0, neq1, nm9, m9n, nadd, nadd1, nmul, ncl, zin_t, li5, z2, o2, o3, o4, zo, c5, d5]
    simp (disch := omega) only [sX7_build_142, sX7_build_145, ↓reduceIte, if_true, if_false, Option.bind_some, Option.bind_none, Option.toList_some, Option.toList_none, List.cons_append, List.nil_append, Option.elim_some, true_or, or_true, or_false, false_or, true_and, and_true, and_false, false_and, zio1, zio0, zio01, not_true_eq_false, not_false_eq_true, nlt, neq, nlt0, n0lt, neq0, neq1, nm9, m9n, nadd, nadd1, nmul, ncl, zin_t]
theorem kX7_build {k i n j : Nat} (hk : k < 4) (hok : OKt c n j) (h60 : i + n ≤ 60) (hc : ∀ p, p < n → g (38 + 2 * k) (i + p) = c p) : ∃ g', (∀ a, (a < 3 ∨ 9 < a) → g' a = (zu (zu g 1 2 (nI (dgt c 1))) 1 1 (nI j)) a) ∧ (∀ q, q < j → HF g' c q) ∧ go L xs 45 69 0 [some (.ref 1), some (.ref (37 + 2 * k)), some (.int (nI i)), some (.int (nI n)), none, none, none] [] (hp g t) = some (none, hp g' t) := by
  obtain ⟨o1, o2, o3, o4⟩ := shb hk
  have hn := hok.1
  have h7 := hok.2.2.1
  have h2 := hok.2.1
  have c1 := hc 1 (by omega)
  have d1 : c 1 - 48 = nI (dgt c 1) := by
    have h1 := hok.2.2.2 1 (by omega)
    rw [gcl (by omega)] at h1
    unfold gon at h1
    rw [if_neg (by omega), if_pos rfl] at h1
    exact (dg_eq (lo := 0) (by omega) (by simpa using h1)).1
  have s2 : nI n - 2 = nI (n - 2) := by rw [li2, nsub (by omega)]
  have s6 : nI (n - 2) / 6 = nI j := by rw [li6, ndiv (by omega) (by omega) (by omega), show (n - 2) / 6 = j by omega]
  have zne : (38 + 2 * k = 1) = False := eq_false (by omega)
  obtain ⟨g', a1, a2, a3⟩ := kX7_bd_loop (L := L) (xs := xs) (t := t) hk hok h60 (x3 := some (.int (nI n))) j 0 (zu (zu g 1 2 (nI (dgt c 1))) 1 1 (nI j)) none none (by omega) (by simp only [zuA, if_true]) (fun p hp1 => by simp only [zuA, zne, if_false]; exact hc p hp1) (fun q hq => absurd hq (by omega))
  refine ⟨g', a1, a2, ?_⟩
  rw [nI_0] at a3
  simp (disch := omega) only [sX7_build_0, sX7_build_1, sX7_build_2, sX7_build_5, sX7_build_6, sX7_build_7, sX7_build_8, sX7_build_9, sX7_build_11, sX7_build_12, sX7_build_15, sX7_build_16, sX7_build_17, sX7_build_18, sX7_build_19, sX7_build_21, sX7_build_22, sX7_build_25, sX7_build_26, ↓reduceIte, if_true, if_false, Option.bind_some, Option.bind_none, Option.toList_some, Option.toList_none, List.cons_append, List.nil_append, Option.elim_some, true_or, or_true, or_false, false_or, true_and, and_true, and_false, false_and, zio1, zio0, zio01, not_true_eq_false, not_false_eq_true, nlt, neq, nlt0, n0lt, neq0, neq1, nm9, m9n, nadd, nadd1, nmul, ncl, zin_t, o2, o3, o4, c1, d1, s2, s6]
  exact a3
theorem kX0_lv_loop : ∀ e q (g : Nat → Nat → Int32), q + e = 9 → (∀ p, p < q → g 14 p = -9) → ∃ g', (∀ a, a ≠ 14 → g' a = g a) ∧ (∀ p, p < 9 → g' 14 p = -9) ∧ go L xs 2 69 7 [some (.ref 10), some (.int (nI q))] [] (hp g t) = some (none, hp g' t)
  | 0, q, g, hq, h => by
    have hq : q = 9 := by omega
    subst hq
    refine ⟨g, fun _ _ => rfl, h, ?_⟩
    have l9 : (nI 9 < 9) = False := by decide
    simp (disch := omega) only [sX0_leave_7, sX0_leave_8, sX0_leave_10, sX0_leave_27, ↓reduceIte, if_true, if_false, Option.bind_some, Option.bind_none, Option.toList_some, Option.toList_none, List.cons_append, List.nil_append, Option.elim_some, true_or, or_true, or_false, false_or, true_and, and_true, and_false, false_and, zio1, zio0, zio01, not_true_eq_false, not_false_eq_true, l9]
  | e + 1, q, g, hq, h => by
    have l9 : (nI q < 9) = True := by
      rw [li9, nlt (by omega) (by omega)]; apply eq_true; omega
    obtain ⟨g', a1, a2, a3⟩ := kX0_lv_loop e (q + 1) (zu g 14 q (-9)) (by omega) (fun p hp1 => by
      simp only [zuA, if_true]
      split
      · rfl
      · exact h p (by omega))
    refine ⟨g', fun a ha => (a1 a ha).trans (zu_o ha), a2, ?_⟩
    rw [← a3, sX0_leave_7]
    simp (disch := omega) only [sX0_leave_8, sX0_leave_10, sX0_leave_13, sX0_leave_14, sX0_leave_17, sX0_leave_18, sX0_leave_20, sX0_leave_21, sX0_leave_24, ↓reduceIte, if_true, if_false, Option.bind_some, Option.bind_none, Option.toList_some, Option.toList_none, List.cons_append, List.nil_append, Option.elim_some, true_or, or_true, or_false, false_or, true_and, and_true, and_false, false_and, zio1, zio0, zio01, not_true_eq_false, not_false_eq_true, nlt, neq, nlt0, n0lt, neq0, neq1, nm9, m9n, nadd, nadd1, nmul, ncl, zin_t, l9]
theorem kX0_leave : ∃ g', (∀ a, a ≠ 14 → g' a = (zu g 10 5 0) a) ∧ (∀ p, p < 9 → g' 14 p = -9) ∧ go L xs 2 69 0 [some (.ref 10), none] [] (hp g t) = some (none, hp g' t) := by
  obtain ⟨g', a1, a2, a3⟩ := kX0_lv_loop (L := L) (xs := xs) (t := t) 9 0 (zu g 10 5 0) (by omega) (fun p hp1 => absurd hp1 (by omega))
  refine ⟨g', a1, a2, ?_⟩
  rw [nI_0] at a3
  simp only [sX0_leave_0, sX0_leave_1, sX0_leave_2, sX0_leave_5, sX0_leave_6]
  exact a3
theorem pX8_town1 {x y i n : Int32} (h : ¬ (0 ≤ x.toInt ∧ x.toInt ≤ 3)) : go L xs 48 69 0 [some (.ref 0), some (.int x), some (.int y), some (.int i), some (.int n), none, none] [] (hp g t) = some (some (.int (-1)), hp (zu g 0 10 0) t) := by
  have h1 := kX8_isSheet (L := L) (xs := xs) (g := zu g 0 10 0) (t := t) (x := x)
  rw [if_neg h] at h1
  simp only [sX8_town_0, sX8_town_1, sX8_town_2, sX8_town_5, sX8_town_6, sX8_town_9, sX8_town_12, sX8_town_13, ↓reduceIte, if_true, if_false, Option.bind_some, Option.bind_none, Option.toList_some, Option.toList_none, List.cons_append, List.nil_append, Option.elim_some, true_or, or_true, or_false, false_or, true_and, and_true, and_false, false_and, zio1, zio0, zio01, not_true_eq_false, not_false_eq_true, h1]
theorem pX8_town2 {k : Nat} (hk : k < 4) {y i n : Int32} (h : ¬ (0 ≤ y.toInt ∧ y.toInt ≤ 2)) : go L xs 48 69 0 [some (.ref 0), some (.int (nI k)), some (.int y), some (.int i), some (.int n), none, none] [] (hp g t) = some (some (.int (-2)), hp (zu g 0 10 0) t) := by
  have h1 := kX8_isSheetN (L := L) (xs := xs) (g := zu g 0 10 0) (t := t) hk
  have h2 := kX8_isLane (L := L) (xs := xs) (g := zu g 0 10 0) (t := t) (x := y)
  rw [if_neg h] at h2
  simp only [sX8_town_0, sX8_town_1, sX8_town_2, sX8_town_5, sX8_town_6, sX8_town_9, sX8_town_12, sX8_town_13, sX8_town_14, sX8_town_15, sX8_town_18, sX8_town_21, sX8_town_23, ↓reduceIte, if_true, if_false, Option.bind_some, Option.bind_none, Option.toList_some, Option.toList_none, List.cons_append, List.nil_append, Option.elim_some, true_or, or_true, or_false, false_or, true_and, and_true, and_false, false_and, zio1, zio0, zio01, not_true_eq_false, not_false_eq_true, h1, h2]
theorem kX8_isLaneN {m : Nat} (hm : m ≤ 2) : go L xs 81 69 0 [some (.int (nI m))] [] (hp g t) = some (some (.int 1), hp g t) := by
  have e1 := nI_toInt (n := m) (by omega)
  rw [kX8_isLane, if_pos (by omega)]
theorem pX8_town3 (hM : CSh g hs sz ln ce) {k m : Nat} (hk : k < 4) (hm : m ≤ 2) {i n : Int32} (h1 : hs k = true) (h2 : ¬ ln k = m) : go L xs 48 69 0 [some (.ref 0), some (.int (nI k)), some (.int (nI m)), some (.int i), some (.int n), none, none] [] (hp g t) = some (some (.int (-12)), hp (zu g 0 10 2) t) := by
  obtain ⟨o1, o2, o3, o4⟩ := shb hk
  have i1 := kX8_isSheetN (L := L) (xs := xs) (g := zu g 0 10 0) (t := t) hk
  have i2 := kX8_isLaneN (L := L) (xs := xs) (g := zu g 0 10 0) (t := t) hm
  have i3 := kX6_isOfAnotherLane (L := L) (xs := xs) (t := t) (x := nI m) hk (hM.c0 (v := 0))
  rw [nI_toInt (by omega), if_pos ⟨h1, by omega⟩] at i3
  simp (disch := omega) only [sX8_town_0, sX8_town_1, sX8_town_2, sX8_town_5, sX8_town_6, sX8_town_9, sX8_town_12, sX8_town_13, sX8_town_14, sX8_town_15, sX8_town_18, sX8_town_21, sX8_town_23, sX8_town_24, sX8_town_25, sX8_town_28, sX8_town_29, sX8_town_30, sX8_town_32, sX8_town_34, sX8_town_35 o2, sX8_town_38, sX8_town_41, sX8_town_42, sX8_town_43, sX8_town_46, ↓reduceIte, if_true, if_false, Option.bind_some, Option.bind_none, Option.toList_some, Option.toList_none, List.cons_append, List.nil_append, Option.elim_some, true_or, or_true, or_false, false_or, true_and, and_true, and_false, false_and, zio1, zio0, zio01, not_true_eq_false, not_false_eq_true, nlt, neq, nlt0, n0lt, neq0, neq1, nm9, m9n, nadd, nadd1, nmul, ncl, zin_t, i1, i2, o1, i3, kX8_failed, zuzu, f12]
theorem pX8_town4 (hM : CSh g hs sz ln ce) {k m : Nat} (hk : k < 4) (hm : m ≤ 2) {i n : Int32} (h1 : hs k = false) : go L xs 48 69 0 [some (.ref 0), some (.int (nI k)), some (.int (nI m)), some (.int i), some (.int n), none, none] [] (hp g t) = some (some (.int (-11)), hp (zu g 0 10 1) t) := by
  obtain ⟨o1, o2, o3, o4⟩ := shb hk
  have i1 := kX8_isSheetN (L := L) (xs := xs) (g := zu g 0 10 0) (t := t) hk
  have i2 := kX8_isLaneN (L := L) (xs := xs) (g := zu g 0 10 0) (t := t) hm
  have i3 := kX6_isOfAnotherLane (L := L) (xs := xs) (t := t) (x := nI m) hk (hM.c0 (v := 0))
  rw [if_neg (fun z => by rw [h1] at z; simp at z)] at i3
  rcases hM.c0 (v := 0) k hk with ⟨a1, a2⟩ | ⟨a1, -⟩
  · simp (disch := omega) only [sX8_town_0, sX8_town_1, sX8_town_2, sX8_town_5, sX8_town_6, sX8_town_9, sX8_town_12, sX8_town_13, sX8_town_14, sX8_town_15, sX8_town_18, sX8_town_21, sX8_town_23, sX8_town_24, sX8_town_25, sX8_town_28, sX8_town_29, sX8_town_30, sX8_town_32, sX8_town_34, sX8_town_35 o2, sX8_town_38, sX8_town_41, sX8_town_42, sX8_town_43, sX8_town_46, sX8_town_47, sX8_town_49, sX8_town_52, sX8_town_55, sX8_town_56, sX8_town_57, sX8_town_60, ↓reduceIte, if_true, if_false, Option.bind_some, Option.bind_none, Option.toList_some, Option.toList_none, List.cons_append, List.nil_append, Option.elim_some, true_or, or_true, or_false, false_or, true_and, and_true, and_false, false_and, zio1, zio0, zio01, not_true_eq_false, not_false_eq_true, nlt, neq, nlt0, n0lt, neq0, neq1, nm9, m9n, nadd, nadd1, nmul, ncl, zin_t, i1, i2, o1, o2, i3, a2, kX8_failed, zuzu, f11]
  · rw [h1] at a1; simp at a1
theorem town_pre (hM : CSh g hs sz ln ce) {k : Nat} (hk : k < 4) {i n : Int32} (h1 : hs k = true) : go L xs 48 69 0 [some (.ref 0), some (.int (nI k)), some (.int (nI (ln k))), some (.int i), some (.int n), none, none] [] (hp g t) = go L xs 48 69 61 [some (.ref 0), some (.int (nI k)), some (.int (nI (ln k))), some (.int i), some (.int n), some (.ref (37 + 2 * k)), none] [] (hp (zu g 0 10 0) t) := by
  obtain ⟨o1, o2, o3, o4⟩ := shb hk
  obtain ⟨a1, a2, a3, a4, a5, a6⟩ := (hM.c0 (v := 0)).at hk h1
  have i1 := kX8_isSheetN (L := L) (xs := xs) (g := zu g 0 10 0) (t := t) hk
  have i2 := kX8_isLaneN (L := L) (xs := xs) (g := zu g 0 10 0) (t := t) a5
  have i3 := kX6_isOfAnotherLane (L := L) (xs := xs) (t := t) (x := nI (ln k)) hk (hM.c0 (v := 0))
  rw [nI_toInt (by omega), if_neg (fun z => z.2 rfl)] at i3
  simp (disch := omega) only [sX8_town_0, sX8_town_1, sX8_town_2, sX8_town_5, sX8_town_6, sX8_town_9, sX8_town_12, sX8_town_13, sX8_town_14, sX8_town_15, sX8_town_18, sX8_town_21, sX8_town_23, sX8_town_24, sX8_town_25, sX8_town_28, sX8_town_29, sX8_town_30, sX8_town_32, sX8_town_34, sX8_town_35 o2, sX8_town_38, sX8_town_41, sX8_town_42, sX8_town_43, sX8_town_46, sX8_town_47, sX8_town_49, sX8_town_52, ↓reduceIte, if_true, if_false, Option.bind_some, Option.bind_none, Option.toList_some, Option.toList_none, List.cons_append, List.nil_append, Option.elim_some, true_or, or_true, or_false, false_or, true_and, and_true, and_false, false_and, zio1, zio0, zio01, not_true_eq_false, not_false_eq_true, nlt, neq, nlt0, n0lt, neq0, neq1, nm9, m9n, nadd, nadd1, nmul, ncl, zin_t, i1, i2, o1, o2, i3, a1]
theorem pX8_town5 (hM : CSh g hs sz ln ce) {k : Nat} (hk : k < 4) {i n : Int32} (h1 : hs k = true) (h2 : n.toInt < 0) : go L xs 48 69 0 [some (.ref 0), some (.int (nI k)), some (.int (nI (ln k))), some (.int i), some (.int n), none, none] [] (hp g t) = some (some (.int (-14)), hp (zu g 0 10 4) t) := by
  rw [town_pre hM hk h1]
  have q3 : (n < 0) = True := eq_true (Int32.lt_iff_toInt_lt.mpr (by simpa using h2))
  simp (disch := omega) only [sX8_town_61, sX8_town_63, sX8_town_66, sX8_town_67, sX8_town_68, sX8_town_71, ↓reduceIte, if_true, if_false, Option.bind_some, Option.bind_none, Option.toList_some, Option.toList_none, List.cons_append, List.nil_append, Option.elim_some, true_or, or_true, or_false, false_or, true_and, and_true, and_false, false_and, zio1, zio0, zio01, not_true_eq_false, not_false_eq_true, q3, kX8_failed, zuzu, f14]
theorem pX8_town6 (hM : CSh g hs sz ln ce) {k : Nat} (hk : k < 4) {i n : Int32} (h1 : hs k = true) (h2 : ¬ n.toInt < 0) (h3 : ¬ (0 ≤ i.toInt ∧ i.toInt + n.toInt ≤ sz k)) : go L xs 48 69 0 [some (.ref 0), some (.int (nI k)), some (.int (nI (ln k))), some (.int i), some (.int n), none, none] [] (hp g t) = some (some (.int (-13)), hp (zu g 0 10 3) t) := by
  rw [town_pre hM hk h1]
  obtain ⟨o1, o2, o3, o4⟩ := shb hk
  obtain ⟨a1, a2, a3, a4, a5, a6⟩ := (hM.c0 (v := 0)).at hk h1
  have q3 := nlt_f h2
  have c1 := kX6_hasCells (L := L) (xs := xs) (t := t) (i := i) (n := n) hk a3 a2
  rw [if_neg (by omega)] at c1
  simp (disch := omega) only [sX8_town_61, sX8_town_63, sX8_town_66, sX8_town_67, sX8_town_68, sX8_town_71, sX8_town_72, sX8_town_74, sX8_town_75, sX8_town_77 o2, sX8_town_80, sX8_town_83, sX8_town_84, sX8_town_85, sX8_town_88, ↓reduceIte, if_true, if_false, Option.bind_some, Option.bind_none, Option.toList_some, Option.toList_none, List.cons_append, List.nil_append, Option.elim_some, true_or, or_true, or_false, false_or, true_and, and_true, and_false, false_and, zio1, zio0, zio01, not_true_eq_false, not_false_eq_true, q3, c1, kX8_failed, zuzu, f13]
theorem pX8_town7 (hM : CSh g hs sz ln ce) {k i n : Nat} (hk : k < 4) (h1 : hs k = true) (h2 : i + n ≤ sz k) : (∃ p, p ≤ 60 ∧ FF (fun q => ce k (i + q)) n p ∧ go L xs 48 69 0 [some (.ref 0), some (.int (nI k)), some (.int (nI (ln k))), some (.int (nI i)), some (.int (nI n)), none, none] [] (hp g t) = some (some (.int (-100 - nI p)), hp (zu g 0 10 0) t)) ∨ (∃ j, OKt (fun q => ce k (i + q)) n j ∧ ∃ g', (∀ a, 15 < a → a ≠ 29 → a ≠ 33 → g' a = g a) ∧ g' 0 9 = g 0 9 ∧ g' 0 10 = 0 ∧ g' 0 8 = 0 ∧ g' 29 6 = 0 ∧ g' 33 7 = 0 ∧ g' 1 1 = nI j ∧ g' 1 2 = nI (dgt (fun q => ce k (i + q)) 1) ∧ (∀ q, q < j → HF g' (fun q => ce k (i + q)) q) ∧ g' 10 5 = 0 ∧ (∀ q, q < 9 → g' 14 q = -9) ∧ g' 15 3 = 0 ∧ go L xs 48 69 0 [some (.ref 0), some (.int (nI k)), some (.int (nI (ln k))), some (.int (nI i)), some (.int (nI n)), none, none] [] (hp g t) = some (some (.int (nI j)), hp g' t)) := by
  rw [town_pre hM hk h1]
  obtain ⟨o1, o2, o3, o4⟩ := shb hk
  obtain ⟨a1, a2, a3, a4, a5, a6⟩ := (hM.c0 (v := 0)).at hk h1
  have c1 := kX6_hasCells (L := L) (xs := xs) (t := t) (i := nI i) (n := nI n) hk a3 a2
  rw [nI_toInt (by omega), nI_toInt (by omega), if_pos (by omega)] at c1
  have hcc : ∀ p, p < n → zu g 0 10 0 (38 + 2 * k) (i + p) = (fun q => ce k (i + q)) p := fun p hp1 => a6 (i + p) (by omega)
  obtain ⟨r, r1, r2⟩ := kX8_firstFault (L := L) (xs := xs) (t := t) hk (show i + n ≤ 60 by omega) hcc
  rcases r1 with ⟨e, j, hok⟩ | ⟨p, hp60, hF, e⟩
  · subst e
    refine Or.inr ⟨j, hok, ?_⟩
    obtain ⟨g1, b1, b2, b3⟩ := kX7_build (L := L) (xs := xs) (t := t) hk hok (show i + n ≤ 60 by omega) hcc
    obtain ⟨g2, d1, d2, d3⟩ := kX0_leave (L := L) (xs := xs) (g := g1) (t := t)
    have F : ∀ a, a ≠ 0 → a ≠ 15 → a ≠ 29 → a ≠ 33 → fgt (zu g2 15 3 0) a = g2 a := fun a x y z w => by
      funext p
      simp only [zuA, x, y, z, w, if_false]
    have G2 : ∀ a, a ≠ 14 → a ≠ 10 → g2 a = g1 a := fun a x y => by
      rw [d1 a x]; exact zu_o y
    have G1 : ∀ a, (a < 3 ∨ 9 < a) → a ≠ 0 → a ≠ 1 → g1 a = g a := fun a x y z => by
      rw [b1 a x, zu_o z, zu_o z]; exact zu_o y
    have t11 : g2 1 1 = nI j := by
      rw [G2 1 (by omega) (by omega), b1 1 (by omega)]; simp only [zuA, if_true]
    have t12 : g2 1 2 = nI (dgt (fun q => ce k (i + q)) 1) := by
      rw [G2 1 (by omega) (by omega), b1 1 (by omega)]; simp only [zuA, if_true, if_false, Nat.reduceEqDiff]
    have t0 : ∀ p, g2 0 p = zu g 0 10 0 0 p := fun p => by
      rw [G2 0 (by omega) (by omega), b1 0 (by omega), zu_o (by omega), zu_o (by omega)]
    refine ⟨fgt (zu g2 15 3 0), fun a x y z => ?_, ?_, ?_, ?_, ?_, ?_, ?_, ?_, fun q hq => ?_, ?_, fun q hq => ?_, ?_, ?_⟩
    · rw [F a (by omega) (by omega) y z, G2 a (by omega) (by omega), G1 a (by omega) (by omega) (by omega)]
    · simp only [zuA, if_true, if_false, Nat.reduceEqDiff]
      rw [t0]; simp only [zuA, if_true, if_false, Nat.reduceEqDiff]
    · simp only [zuA, if_true, if_false, Nat.reduceEqDiff]
      rw [t0]; simp only [zuA, if_true]
    · simp only [zuA, if_true, if_false, Nat.reduceEqDiff]
    · simp only [zuA, if_true, if_false, Nat.reduceEqDiff]
    · simp only [zuA, if_true]
    · rw [F 1 (by omega) (by omega) (by omega) (by omega)]; exact t11
    · rw [F 1 (by omega) (by omega) (by omega) (by omega)]; exact t12
    · unfold HF
      have := hok.2.2.1
      rw [F (3 + q) (by omega) (by omega) (by omega) (by omega), G2 (3 + q) (by omega) (by omega)]
      exact b2 q hq
    · rw [F 10 (by omega) (by omega) (by omega) (by omega), d1 10 (by omega)]; simp only [zuA, if_true]
    · rw [F 14 (by omega) (by omega) (by omega) (by omega)]; exact d2 q hq
    · simp only [zuA, if_true, if_false, Nat.reduceEqDiff]
    · have u1 : fgt (zu g2 15 3 0) 1 1 = nI j := by
        rw [F 1 (by omega) (by omega) (by omega) (by omega)]; exact t11
      simp (disch := omega) only [sX8_town_61, sX8_town_63, sX8_town_66, sX8_town_67, sX8_town_68, sX8_town_71, sX8_town_72, sX8_town_74, sX8_town_75, sX8_town_77 o2, sX8_town_80, sX8_town_83, sX8_town_84, sX8_town_85, sX8_town_88, sX8_town_89, sX8_town_91, sX8_town_92, sX8_town_94, sX8_town_97, sX8_town_99, sX8_town_101, sX8_town_103, sX8_town_106, sX8_town_108, sX8_town_110, sX8_town_111, sX8_town_112, sX8_town_113, sX8_town_116, sX8_town_118, sX8_town_119, sX8_town_121, sX8_town_124, sX8_town_125, sX8_town_128, sX8_town_131, sX8_town_132, sX8_town_135, sX8_town_136, sX8_town_139, sX8_town_140, sX8_town_143, sX8_town_144, sX8_town_147, sX8_town_150, ↓reduceIte, if_true, if_false, Option.bind_some, Option.bind_none, Option.toList_some, Option.toList_none, List.cons_append, List.nil_append, Option.elim_some, true_or, or_true, or_false, false_or, true_and, and_true, and_false, false_and, zio1, zio0, zio01, not_true_eq_false, not_false_eq_true, nlt0, c1, r2, b3, d3, kX8_forget, u1]
  · subst e
    refine Or.inl ⟨p, hp60, hF, ?_⟩
    simp (disch := omega) only [sX8_town_61, sX8_town_63, sX8_town_66, sX8_town_67, sX8_town_68, sX8_town_71, sX8_town_72, sX8_town_74, sX8_town_75, sX8_town_77 o2, sX8_town_80, sX8_town_83, sX8_town_84, sX8_town_85, sX8_town_88, sX8_town_89, sX8_town_91, sX8_town_92, sX8_town_94, sX8_town_97, sX8_town_99, sX8_town_101, sX8_town_103, sX8_town_106, sX8_town_108, sX8_town_110, sX8_town_111, ↓reduceIte, if_true, if_false, Option.bind_some, Option.bind_none, Option.toList_some, Option.toList_none, List.cons_append, List.nil_append, Option.elim_some, true_or, or_true, or_false, false_or, true_and, and_true, and_false, false_and, zio1, zio0, zio01, not_true_eq_false, not_false_eq_true, nlt0, nm9, c1, r2]
end C14
