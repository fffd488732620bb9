/-! The reference: houses of a text, town. -/
section M20
variable {L : Nat} {xs : Nat → Int32} {g g' : Nat → Nat → Int32} {t : Nat → Int64}
variable {c : Nat → Int32} {fm n : Nat}
theorem gon_0 {j : Nat} {c : Int32} (hj : j < 7) : gon (2 + 6 * j) c ↔ c = 59 := by
  unfold gon
  rw [if_neg (by omega), if_neg (by omega), if_neg (by omega), if_pos (by omega)]
theorem gon_1 {j : Nat} {c : Int32} (hj : j < 7) : gon (2 + 6 * j + 1) c ↔ (c = 104 ∨ c = 105 ∨ c = 112) := by
  unfold gon
  rw [if_neg (by omega), if_neg (by omega), if_neg (by omega), if_neg (by omega), if_pos (by omega)]
theorem gon_44 {c : Int32} {p : Nat} (h : 44 ≤ p) : ¬ gon p c := by
  unfold gon
  rw [if_neg (by omega), if_neg (by omega), if_pos h]
  exact id
/-- the data of the houses read -/
def MRd (g : Nat → Nat → Int32) (c : Nat → Int32) (n j : Nat) : Prop := ∀ h, h < j → g 51 h = nI (if gc c n (2 + 6 * h + 1) = 104 then 0 else if gc c n (2 + 6 * h + 1) = 105 then 1 else 2) ∧ ∀ i, i < 4 → g 52 (4 * h + i) = nI (gc c n (2 + 6 * h + 2 + i) - 48).toInt.toNat
theorem e104 : ¬ (105 : Int32) = 104 := by decide
theorem e112a : ¬ (112 : Int32) = 104 := by decide
theorem e112b : ¬ (112 : Int32) = 105 := by decide
theorem kX9_readsHouse {j : Nat} (hf : fm < 2147480000) (hj : j ≤ 7) (hX : MTx g fm n c) (h8 : g 45 8 = nI (2 + 6 * j)) (h10 : g 45 10 = nI j) (ha : ∀ q, q < 2 + 6 * j → gon q (gc c n q)) (hd : MRd g c n j) : ∃ g', fx g g' ∧ g' 45 9 = g 45 9 ∧ ((∃ p, p < 2 + 6 * j + 6 ∧ 2 + 6 * j ≤ p ∧ g' 45 8 = nI p ∧ (∀ q, q < p → gon q (gc c n q)) ∧ ¬ gon p (gc c n p) ∧ go L xs 107 69 0 [some (.ref 45), some (.int (nI fm)), some (.int (nI n)), none, none, none] [] (hp g t) = some (some (.int 0), hp g' t)) ∨ (j < 7 ∧ g' 45 8 = nI (2 + 6 * (j + 1)) ∧ g' 45 10 = nI (j + 1) ∧ (∀ q, q < 2 + 6 * (j + 1) → gon q (gc c n q)) ∧ MRd g' c n (j + 1) ∧ go L xs 107 69 0 [some (.ref 45), some (.int (nI fm)), some (.int (nI n)), none, none, none] [] (hp g t) = some (some (.int 1), hp g' t))) := by
  by_cases q7 : j = 7
  · subst q7
    refine ⟨g, fx.rf, rfl, Or.inl ⟨2 + 6 * 7, by omega, by omega, h8, ha, gon_44 (by omega), ?_⟩⟩
    simp (disch := omega) only [sX9_readsHouse_0, sX9_readsHouse_1, sX9_readsHouse_4, sX9_readsHouse_6, sX9_readsHouse_9, sX9_readsHouse_10, sX9_readsHouse_11, sX9_readsHouse_12, sX9_readsHouse_15, sX9_readsHouse_17, sX9_readsHouse_20, sX9_readsHouse_21, ↓reduceIte, if_true, if_false, Option.bind_some, Option.bind_none, Option.toList_some, Option.toList_none, List.cons_append, List.nil_append, Option.elim_some, true_or, or_true, or_false, false_or, true_and, and_true, and_false, false_and, zio1, zio0, zio01, not_true_eq_false, not_false_eq_true, nlt, neq, nlt0, n0lt, neq0, neq1, nm9, m9n, nadd, nadd1, nmul, ncl, zin_t, h10, li7]
  · have hj7 : j < 7 := by omega
    have h1 := kX9_codeAt (L := L) (xs := xs) (t := t) hX hf (by omega) h8
    by_cases q1 : gc c n (2 + 6 * j) = 59
    · have g1' := (gon_0 hj7).mpr q1
      have hX2 : MTx (zu g 45 8 (nI (2 + 6 * j + 1))) fm n c := hX.tr (by funext p; simp [zu])
      have h2 := kX9_codeAt (L := L) (xs := xs) (t := t) (p := 2 + 6 * j + 1) hX2 hf (by omega) (by simp [zu])
      by_cases q2 : gc c n (2 + 6 * j + 1) = 104 ∨ gc c n (2 + 6 * j + 1) = 105 ∨ gc c n (2 + 6 * j + 1) = 112
      · have g2' := (gon_1 hj7).mpr q2
        have hal : ∀ q, q < 2 + 6 * j + 2 + 0 → gon q (gc c n q) := fun q hq => by
          by_cases z1 : q = 2 + 6 * j
          · subst z1; exact g1'
          · by_cases z2 : q = 2 + 6 * j + 1
            · subst z2; exact g2'
            · exact ha q (by omega)
        obtain ⟨g', b1, b2, b3, b4, b5, b6⟩ := kX9_rh_loop (L := L) (xs := xs) (t := t) (c := c) (n := n) (fm := fm) hj7 hf (x3 := some (.int (gc c n (2 + 6 * j + 1)))) 4 0 (zu (zu g 45 8 (nI (2 + 6 * j + 1))) 45 8 (nI (2 + 6 * j + 1 + 1))) none (by omega) (hX2.tr (by funext p; simp [zu])) (by simp [zu]) (by simpa [zu] using h10) hal (fun i hi => absurd hi (by omega))
        have F : fx g (zu (zu g 45 8 (nI (2 + 6 * j + 1))) 45 8 (nI (2 + 6 * j + 1 + 1))) := (fx_r (by omega) _).tr (fx_r (by omega) _)
        have hst : go L xs 107 69 0 [some (.ref 45), some (.int (nI fm)), some (.int (nI n)), none, none, none] [] (hp g t) = go L xs 107 69 72 [some (.ref 45), some (.int (nI fm)), some (.int (nI n)), some (.int (gc c n (2 + 6 * j + 1))), some (.int (nI 0)), none] [] (hp (zu (zu g 45 8 (nI (2 + 6 * j + 1))) 45 8 (nI (2 + 6 * j + 1 + 1))) t) := by
          rcases q2 with z | z | z
          · simp (disch := omega) only [sX9_readsHouse_0, sX9_readsHouse_1, sX9_readsHouse_4, sX9_readsHouse_6, sX9_readsHouse_9, sX9_readsHouse_10, sX9_readsHouse_11, sX9_readsHouse_12, sX9_readsHouse_15, sX9_readsHouse_17, sX9_readsHouse_20, sX9_readsHouse_21, sX9_readsHouse_22, sX9_readsHouse_23, sX9_readsHouse_24, sX9_readsHouse_27, sX9_readsHouse_28, sX9_readsHouse_29, sX9_readsHouse_32, sX9_readsHouse_33, sX9_readsHouse_34, sX9_readsHouse_35, sX9_readsHouse_38, sX9_readsHouse_39, sX9_readsHouse_40, sX9_readsHouse_42, sX9_readsHouse_45, sX9_readsHouse_46, sX9_readsHouse_48, sX9_readsHouse_51, sX9_readsHouse_52, sX9_readsHouse_54, sX9_readsHouse_57, sX9_readsHouse_58, sX9_readsHouse_59, sX9_readsHouse_60, sX9_readsHouse_61, sX9_readsHouse_64, sX9_readsHouse_65, sX9_readsHouse_66, sX9_readsHouse_69, sX9_readsHouse_70, ↓reduceIte, if_true, if_false, Option.bind_some, Option.bind_none, Option.toList_some, Option.toList_none, List.cons_append, List.nil_append, Option.elim_some, true_or, or_true, or_false, false_or, true_and, and_true, and_false, false_and, zio1, zio0, zio01, not_true_eq_false, not_false_eq_true, nlt, neq, nlt0, n0lt, neq0, neq1, nm9, m9n, nadd, nadd1, nmul, ncl, zin_t, h10, li7, q7, h1, q1, h8, h2, z, zuA, Nat.reduceEqDiff, nI_0]
          · simp (disch := omega) only [sX9_readsHouse_0, sX9_readsHouse_1, sX9_readsHouse_4, sX9_readsHouse_6, sX9_readsHouse_9, sX9_readsHouse_10, sX9_readsHouse_11, sX9_readsHouse_12, sX9_readsHouse_15, sX9_readsHouse_17, sX9_readsHouse_20, sX9_readsHouse_21, sX9_readsHouse_22, sX9_readsHouse_23, sX9_readsHouse_24, sX9_readsHouse_27, sX9_readsHouse_28, sX9_readsHouse_29, sX9_readsHouse_32, sX9_readsHouse_33, sX9_readsHouse_34, sX9_readsHouse_35, sX9_readsHouse_38, sX9_readsHouse_39, sX9_readsHouse_40, sX9_readsHouse_42, sX9_readsHouse_45, sX9_readsHouse_46, sX9_readsHouse_48, sX9_readsHouse_51, sX9_readsHouse_52, sX9_readsHouse_54, sX9_readsHouse_57, sX9_readsHouse_58, sX9_readsHouse_59, sX9_readsHouse_60, sX9_readsHouse_61, sX9_readsHouse_64, sX9_readsHouse_65, sX9_readsHouse_66, sX9_readsHouse_69, sX9_readsHouse_70, ↓reduceIte, if_true, if_false, Option.bind_some, Option.bind_none, Option.toList_some, Option.toList_none, List.cons_append, List.nil_append, Option.elim_some, true_or, or_true, or_false, false_or, true_and, and_true, and_false, false_and, zio1, zio0, zio01, not_true_eq_false, not_false_eq_true, nlt, neq, nlt0, n0lt, neq0, neq1, nm9, m9n, nadd, nadd1, nmul, ncl, zin_t, h10, li7, q7, h1, q1, h8, h2, z, zuA, Nat.reduceEqDiff, nI_0, e104]
          · simp (disch := omega) only [sX9_readsHouse_0, sX9_readsHouse_1, sX9_readsHouse_4, sX9_readsHouse_6, sX9_readsHouse_9, sX9_readsHouse_10, sX9_readsHouse_11, sX9_readsHouse_12, sX9_readsHouse_15, sX9_readsHouse_17, sX9_readsHouse_20, sX9_readsHouse_21, sX9_readsHouse_22, sX9_readsHouse_23, sX9_readsHouse_24, sX9_readsHouse_27, sX9_readsHouse_28, sX9_readsHouse_29, sX9_readsHouse_32, sX9_readsHouse_33, sX9_readsHouse_34, sX9_readsHouse_35, sX9_readsHouse_38, sX9_readsHouse_39, sX9_readsHouse_40, sX9_readsHouse_42, sX9_readsHouse_45, sX9_readsHouse_46, sX9_readsHouse_48, sX9_readsHouse_51, sX9_readsHouse_52, sX9_readsHouse_54, sX9_readsHouse_57, sX9_readsHouse_58, sX9_readsHouse_59, sX9_readsHouse_60, sX9_readsHouse_61, sX9_readsHouse_64, sX9_readsHouse_65, sX9_readsHouse_66, sX9_readsHouse_69, sX9_readsHouse_70, ↓reduceIte, if_true, if_false, Option.bind_some, Option.bind_none, Option.toList_some, Option.toList_none, List.cons_append, List.nil_append, Option.elim_some, true_or, or_true, or_false, false_or, true_and, and_true, and_false, false_and, zio1, zio0, zio01, not_true_eq_false, not_false_eq_true, nlt, neq, nlt0, n0lt, neq0, neq1, nm9, m9n, nadd, nadd1, nmul, ncl, zin_t, h10, li7, q7, h1, q1, h8, h2, z, zuA, Nat.reduceEqDiff, nI_0, e112a, e112b]
        rw [hst]
        rcases b6 with ⟨p, c1, c2, c3, c4, c5, c6, c7⟩ | ⟨c1, c2, c3, x5', c4⟩
        · exact ⟨g', F.tr b1, b4.trans (by simp [zu]), Or.inl ⟨p, c1, c2, c4, c5, c6, c7⟩⟩
        · refine ⟨zu (zu g' 51 j (nI (if gc c n (2 + 6 * j + 1) = 104 then 0 else if gc c n (2 + 6 * j + 1) = 105 then 1 else 2))) 45 10 (nI (j + 1)), ((F.tr b1).tr (fx_c (Or.inl rfl) _)).tr (fx_r (by omega) _), by simp [zu]; exact b4.trans (by simp [zu]), Or.inr ⟨hj7, by simp [zu]; exact c1, by simp [zu], c2, ?_, ?_⟩⟩
          · intro h hh
            by_cases z : h = j
            · subst z
              refine ⟨by simp [zu], fun i hi => ?_⟩
              have := c3 i hi
              simpa [zu] using this
            · obtain ⟨d1, d2⟩ := hd h (by omega)
              refine ⟨?_, fun i hi => ?_⟩
              · have e5 : g' 51 h = g 51 h := by rw [b2]; simp [zu]
                simp only [zu, z, if_true, if_false]
                simp only [show ¬ (51 : Nat) = 45 by omega, if_false]
                rw [e5, d1]
              · have e5 : g' 52 (4 * h + i) = g 52 (4 * h + i) := (b5 _ (by omega)).trans (by simp [zu])
                simp only [zu, show ¬ (52 : Nat) = 45 by omega, show ¬ (52 : Nat) = 51 by omega, if_false]
                rw [e5]
                exact d2 i hi
          · rw [c4]
            rcases q2 with z | z | z
            · rw [z]
              simp (disch := omega) only [sX9_readsHouse_126, sX9_readsHouse_127, sX9_readsHouse_130, sX9_readsHouse_131, sX9_readsHouse_134, sX9_readsHouse_135, sX9_readsHouse_137, sX9_readsHouse_140, sX9_readsHouse_141, sX9_readsHouse_144, sX9_readsHouse_145, sX9_readsHouse_147, sX9_readsHouse_150, sX9_readsHouse_151, sX9_readsHouse_154, sX9_readsHouse_155, sX9_readsHouse_156, sX9_readsHouse_157, sX9_readsHouse_158, sX9_readsHouse_161, sX9_readsHouse_162, sX9_readsHouse_163, sX9_readsHouse_166, sX9_readsHouse_167, ↓reduceIte, if_true, if_false, Option.bind_some, Option.bind_none, Option.toList_some, Option.toList_none, List.cons_append, List.nil_append, Option.elim_some, true_or, or_true, or_false, false_or, true_and, and_true, and_false, false_and, zio1, zio0, zio01, not_true_eq_false, not_false_eq_true, nlt, neq, nlt0, n0lt, neq0, neq1, nm9, m9n, nadd, nadd1, nmul, ncl, zin_t, b3, zuA, Nat.reduceEqDiff, nI_0, zbo1]
            · rw [z]
              simp (disch := omega) only [sX9_readsHouse_126, sX9_readsHouse_127, sX9_readsHouse_130, sX9_readsHouse_131, sX9_readsHouse_134, sX9_readsHouse_135, sX9_readsHouse_137, sX9_readsHouse_140, sX9_readsHouse_141, sX9_readsHouse_144, sX9_readsHouse_145, sX9_readsHouse_147, sX9_readsHouse_150, sX9_readsHouse_151, sX9_readsHouse_154, sX9_readsHouse_155, sX9_readsHouse_156, sX9_readsHouse_157, sX9_readsHouse_158, sX9_readsHouse_161, sX9_readsHouse_162, sX9_readsHouse_163, sX9_readsHouse_166, sX9_readsHouse_167, ↓reduceIte, if_true, if_false, Option.bind_some, Option.bind_none, Option.toList_some, Option.toList_none, List.cons_append, List.nil_append, Option.elim_some, true_or, or_true, or_false, false_or, true_and, and_true, and_false, false_and, zio1, zio0, zio01, not_true_eq_false, not_false_eq_true, nlt, neq, nlt0, n0lt, neq0, neq1, nm9, m9n, nadd, nadd1, nmul, ncl, zin_t, b3, zuA, Nat.reduceEqDiff, e104, zbo1, (show nI 1 = 1 by decide)]
            · rw [z]
              simp (disch := omega) only [sX9_readsHouse_126, sX9_readsHouse_127, sX9_readsHouse_130, sX9_readsHouse_131, sX9_readsHouse_134, sX9_readsHouse_135, sX9_readsHouse_137, sX9_readsHouse_140, sX9_readsHouse_141, sX9_readsHouse_144, sX9_readsHouse_145, sX9_readsHouse_147, sX9_readsHouse_150, sX9_readsHouse_151, sX9_readsHouse_154, sX9_readsHouse_155, sX9_readsHouse_156, sX9_readsHouse_157, sX9_readsHouse_158, sX9_readsHouse_161, sX9_readsHouse_162, sX9_readsHouse_163, sX9_readsHouse_166, sX9_readsHouse_167, ↓reduceIte, if_true, if_false, Option.bind_some, Option.bind_none, Option.toList_some, Option.toList_none, List.cons_append, List.nil_append, Option.elim_some, true_or, or_true, or_false, false_or, true_and, and_true, and_false, false_and, zio1, zio0, zio01, not_true_eq_false, not_false_eq_true, nlt, neq, nlt0, n0lt, neq0, neq1, nm9, m9n, nadd, nadd1, nmul, ncl, zin_t, b3, zuA, Nat.reduceEqDiff, e112a, e112b, zbo1, li2]
      · refine ⟨zu g 45 8 (nI (2 + 6 * j + 1)), fx_r (by omega) _, by simp [zu], Or.inl ⟨2 + 6 * j + 1, by omega, by omega, by simp [zu], fun q hq => ?_, fun z => q2 ((gon_1 hj7).mp z), ?_⟩⟩
        · by_cases z1 : q = 2 + 6 * j
          · subst z1; exact g1'
          · exact ha q (by omega)
        · have z1 : ¬ gc c n (2 + 6 * j + 1) = 104 := fun z => q2 (Or.inl z)
          have z2 : ¬ gc c n (2 + 6 * j + 1) = 105 := fun z => q2 (Or.inr (Or.inl z))
          have z3 : ¬ gc c n (2 + 6 * j + 1) = 112 := fun z => q2 (Or.inr (Or.inr z))
          simp (disch := omega) only [sX9_readsHouse_0, sX9_readsHouse_1, sX9_readsHouse_4, sX9_readsHouse_6, sX9_readsHouse_9, sX9_readsHouse_10, sX9_readsHouse_11, sX9_readsHouse_12, sX9_readsHouse_15, sX9_readsHouse_17, sX9_readsHouse_20, sX9_readsHouse_21, sX9_readsHouse_22, sX9_readsHouse_23, sX9_readsHouse_24, sX9_readsHouse_27, sX9_readsHouse_28, sX9_readsHouse_29, sX9_readsHouse_32, sX9_readsHouse_33, sX9_readsHouse_34, sX9_readsHouse_35, sX9_readsHouse_38, sX9_readsHouse_39, sX9_readsHouse_40, sX9_readsHouse_42, sX9_readsHouse_45, sX9_readsHouse_46, sX9_readsHouse_48, sX9_readsHouse_51, sX9_readsHouse_52, sX9_readsHouse_54, sX9_readsHouse_57, sX9_readsHouse_58, ↓reduceIte, if_true, if_false, Option.bind_some, Option.bind_none, Option.toList_some, Option.toList_none, List.cons_append, List.nil_append, Option.elim_some, true_or, or_true, or_false, false_or, true_and, and_true, and_false, false_and, zio1, zio0, zio01, not_true_eq_false, not_false_eq_true, nlt, neq, nlt0, n0lt, neq0, neq1, nm9, m9n, nadd, nadd1, nmul, ncl, zin_t, h10, li7, q7, h1, q1, h8, h2, z1, z2, z3]
    · refine ⟨g, fx.rf, rfl, Or.inl ⟨2 + 6 * j, by omega, by omega, h8, ha, fun z => q1 ((gon_0 hj7).mp z), ?_⟩⟩
      simp (disch := omega) only [sX9_readsHouse_0, sX9_readsHouse_1, sX9_readsHouse_4, sX9_readsHouse_6, sX9_readsHouse_9, sX9_readsHouse_10, sX9_readsHouse_11, sX9_readsHouse_12, sX9_readsHouse_15, sX9_readsHouse_17, sX9_readsHouse_20, sX9_readsHouse_21, ↓reduceIte, if_true, if_false, Option.bind_some, Option.bind_none, Option.toList_some, Option.toList_none, List.cons_append, List.nil_append, Option.elim_some, true_or, or_true, or_false, false_or, true_and, and_true, and_false, false_and, zio1, zio0, zio01, not_true_eq_false, not_false_eq_true, nlt, neq, nlt0, n0lt, neq0, neq1, nm9, m9n, nadd, nadd1, nmul, ncl, zin_t, h10, li7, q7, h1, q1]
theorem fx.tx (F : fx g g') (hX : MTx g fm n c) : MTx g' fm n c := hX.tr (F.1 67 (by omega) (by omega) (by omega))
theorem kX9_rt_loop (hf : fm < 2147480000) : ∀ e j (g : Nat → Nat → Int32), j + e = 8 → j ≤ 7 → MTx g fm n c → g 45 8 = nI (2 + 6 * j) → g 45 10 = nI j → (∀ q, q < 2 + 6 * j → gon q (gc c n q)) → MRd g c n j → ∃ g', fx g g' ∧ g' 45 9 = g 45 9 ∧ ((∃ p, g' 45 8 = nI p ∧ p ≤ 50 ∧ FF c n p ∧ go L xs 108 69 78 [some (.ref 45), some (.int (nI fm)), some (.int (nI n)), some (.int 1)] [] (hp g t) = some (some (.int 0), hp g' t)) ∨ (∃ j', OKt c n j' ∧ g' 45 10 = nI j' ∧ MRd g' c n j' ∧ go L xs 108 69 78 [some (.ref 45), some (.int (nI fm)), some (.int (nI n)), some (.int 1)] [] (hp g t) = some (some (.int 1), hp g' t)))
  | 0, j, g, hj, hj7, hX, h8, h10, ha, hd => absurd hj7 (by omega)
  | e + 1, j, g, hj, hj7, hX, h8, h10, ha, hd => by
    have hn := hX.1
    by_cases q : 2 ≤ j ∧ n ≤ 2 + 6 * j
    · refine ⟨g, fx.rf, rfl, Or.inr ⟨j, ⟨?_, q.1, hj7, fun p hp1 => ha p (by omega)⟩, h10, hd, ?_⟩⟩
      · by_cases q2 : n = 2 + 6 * j
        · exact q2
        · have := ha n (by omega)
          unfold gc at this
          rw [if_neg (by omega)] at this
          exact absurd this (m9_gon n)
      · have z1 : ¬ j < 2 := by omega
        have z2 : ¬ 2 + 6 * j < n := by omega
        simp (disch := omega) only [sX9_readsTown_78, sX9_readsTown_79, sX9_readsTown_82, sX9_readsTown_83, sX9_readsTown_86, sX9_readsTown_87, sX9_readsTown_90, sX9_readsTown_91, sX9_readsTown_94, sX9_readsTown_95, sX9_readsTown_108, sX9_readsTown_109, ↓reduceIte, if_true, if_false, Option.bind_some, Option.bind_none, Option.toList_some, Option.toList_none, List.cons_append, List.nil_append, Option.elim_some, true_or, or_true, or_false, false_or, true_and, and_true, and_false, false_and, zio1, zio0, zio01, not_true_eq_false, not_false_eq_true, nlt, neq, nlt0, n0lt, neq0, neq1, nm9, m9n, nadd, nadd1, nmul, ncl, zin_t, h10, h8, li2, z1, z2, zbo1]
    · obtain ⟨g1, F, h9, b⟩ := kX9_readsHouse (L := L) (xs := xs) (t := t) hf hj7 hX h8 h10 ha hd
      have hst : go L xs 108 69 78 [some (.ref 45), some (.int (nI fm)), some (.int (nI n)), some (.int 1)] [] (hp g t) = (go L xs 107 69 0 [some (.ref 45), some (.int (nI fm)), some (.int (nI n)), none, none, none] [] (hp g t)).bind (fun r => go L xs 108 69 104 [some (.ref 45), some (.int (nI fm)), some (.int (nI n)), some (.int 1)] (r.1.toList ++ []) r.2) := by
        by_cases z1 : j < 2
        · simp (disch := omega) only [sX9_readsTown_78, sX9_readsTown_79, sX9_readsTown_82, sX9_readsTown_83, sX9_readsTown_86, sX9_readsTown_87, sX9_readsTown_90, sX9_readsTown_91, sX9_readsTown_94, sX9_readsTown_95, sX9_readsTown_98, sX9_readsTown_99, sX9_readsTown_100, sX9_readsTown_101, ↓reduceIte, if_true, if_false, Option.bind_some, Option.bind_none, Option.toList_some, Option.toList_none, List.cons_append, List.nil_append, Option.elim_some, true_or, or_true, or_false, false_or, true_and, and_true, and_false, false_and, zio1, zio0, zio01, not_true_eq_false, not_false_eq_true, nlt, neq, nlt0, n0lt, neq0, neq1, nm9, m9n, nadd, nadd1, nmul, ncl, zin_t, h10, h8, li2, z1]
        · have z2 : 2 + 6 * j < n := by omega
          simp (disch := omega) only [sX9_readsTown_78, sX9_readsTown_79, sX9_readsTown_82, sX9_readsTown_83, sX9_readsTown_86, sX9_readsTown_87, sX9_readsTown_90, sX9_readsTown_91, sX9_readsTown_94, sX9_readsTown_95, sX9_readsTown_98, sX9_readsTown_99, sX9_readsTown_100, sX9_readsTown_101, ↓reduceIte, if_true, if_false, Option.bind_some, Option.bind_none, Option.toList_some, Option.toList_none, List.cons_append, List.nil_append, Option.elim_some, true_or, or_true, or_false, false_or, true_and, and_true, and_false, false_and, zio1, zio0, zio01, not_true_eq_false, not_false_eq_true, nlt, neq, nlt0, n0lt, neq0, neq1, nm9, m9n, nadd, nadd1, nmul, ncl, zin_t, h10, h8, li2, z1, z2]
      rcases b with ⟨p, c1, c2, c3, c4, c5, c6⟩ | ⟨c0, c1, c2, c3, c4, c5⟩
      · refine ⟨g1, F, h9, Or.inl ⟨p, c3, by omega, ⟨c4, c5, fun z => ?_⟩, ?_⟩⟩
        · omega
        · rw [hst, c6]
          simp (disch := omega) only [sX9_readsTown_78, sX9_readsTown_79, sX9_readsTown_104, sX9_readsTown_105, sX9_readsTown_108, sX9_readsTown_109, ↓reduceIte, if_true, if_false, Option.bind_some, Option.bind_none, Option.toList_some, Option.toList_none, List.cons_append, List.nil_append, Option.elim_some, true_or, or_true, or_false, false_or, true_and, and_true, and_false, false_and, zio1, zio0, zio01, not_true_eq_false, not_false_eq_true, nlt, neq, nlt0, n0lt, neq0, neq1, nm9, m9n, nadd, nadd1, nmul, ncl, zin_t, zbo0]
      · obtain ⟨g2, F2, h92, d⟩ := kX9_rt_loop hf e (j + 1) g1 (by omega) (by omega) (F.tx hX) c1 c2 c3 c4
        refine ⟨g2, F.tr F2, h92.trans h9, ?_⟩
        rw [hst, c5]
        simp only [sX9_readsTown_104, sX9_readsTown_105, ↓reduceIte, if_true, if_false, Option.bind_some, Option.bind_none, Option.toList_some, Option.toList_none, List.cons_append, List.nil_append, Option.elim_some, true_or, or_true, or_false, false_or, true_and, and_true, and_false, false_and, zio1, zio0, zio01, not_true_eq_false, not_false_eq_true]
        exact d
theorem m9n' : ¬ (-9 : Int32) = 116 := by decide
theorem kX9_readsTown (hf : fm < 2147480000) (hX : MTx g fm n c) : ∃ g', fx g g' ∧ ((∃ p, g' 45 8 = nI p ∧ p ≤ 50 ∧ FF c n p ∧ go L xs 108 69 0 [some (.ref 45), some (.int (nI fm)), some (.int (nI n)), none] [] (hp g t) = some (some (.int 0), hp g' t)) ∨ (∃ j, OKt c n j ∧ g' 45 10 = nI j ∧ g' 45 9 = nI (gc c n 1 - 48).toInt.toNat ∧ (gc c n 1 - 48).toInt.toNat ≤ 9 ∧ MRd g' c n j ∧ go L xs 108 69 0 [some (.ref 45), some (.int (nI fm)), some (.int (nI n)), none] [] (hp g t) = some (some (.int 1), hp g' t))) := by
  have hX1 : MTx (zu (zu g 45 8 0) 45 10 0) fm n c := hX.tr (by funext p; simp [zu])
  have h1 := kX9_codeAt (L := L) (xs := xs) (t := t) (p := 0) hX1 hf (by omega) (by simp [zu, nI_0])
  have F1 : fx g (zu (zu g 45 8 0) 45 10 0) := (fx_r (by omega) _).tr (fx_r (by omega) _)
  by_cases q1 : gc c n 0 = 116
  · have g0 : gon 0 (gc c n 0) := by unfold gon; rw [if_pos rfl]; exact q1
    have hX2 : MTx (zu (zu (zu g 45 8 0) 45 10 0) 45 8 (nI 1)) fm n c := hX1.tr (by funext p; simp [zu])
    have F2 : fx g (zu (zu (zu g 45 8 0) 45 10 0) 45 8 (nI 1)) := F1.tr (fx_r (by omega) _)
    have h2 := kX9_figure (L := L) (xs := xs) (t := t) (p := 1) (lo := 0) hX2 hf (by omega) (by simp [zu]) (by omega)
    rw [nI_0] at h2
    have h01 : (0 : Int32) + 1 = nI 1 := by decide
    by_cases q2 : 48 + ((0 : Nat) : Int) ≤ (gc c n 1).toInt ∧ (gc c n 1).toInt ≤ 57
    · rw [if_pos q2] at h2
      have g1' : gon 1 (gc c n 1) := by
        unfold gon
        rw [if_neg (by omega), if_pos rfl]
        simpa using q2
      have hv := (sub48 (gc c n 1) (lo := 0) (by omega)).mpr q2
      have hv9 : (gc c n 1 - 48).toInt.toNat ≤ 9 := by omega
      obtain ⟨g', b1, b2, b3⟩ := kX9_rt_loop (L := L) (xs := xs) (t := t) (c := c) (n := n) hf 8 0 (zu (zu (zu (zu (zu g 45 8 0) 45 10 0) 45 8 (nI 1)) 45 8 (nI (1 + 1))) 45 9 (nI (gc c n 1 - 48).toInt.toNat)) (by omega) (by omega) (hX2.tr (by funext p; simp [zu])) (by simp [zu]) (by simp [zu, nI_0]) (fun q hq => by
        by_cases z : q = 0
        · subst z; exact g0
        · have : q = 1 := by omega
          subst this; exact g1') (fun h hh => absurd hh (by omega))
      refine ⟨g', (F2.tr ((fx_r (by omega) _).tr (fx_r (by omega) _))).tr b1, ?_⟩
      have h9 : g' 45 9 = nI (gc c n 1 - 48).toInt.toNat := b2.trans (by simp [zu])
      have hst : go L xs 108 69 0 [some (.ref 45), some (.int (nI fm)), some (.int (nI n)), none] [] (hp g t) = go L xs 108 69 78 [some (.ref 45), some (.int (nI fm)), some (.int (nI n)), some (.int 1)] [] (hp (zu (zu (zu (zu (zu g 45 8 0) 45 10 0) 45 8 (nI 1)) 45 8 (nI (1 + 1))) 45 9 (nI (gc c n 1 - 48).toInt.toNat)) t) := by
        simp (disch := omega) only [sX9_readsTown_0, sX9_readsTown_1, sX9_readsTown_2, sX9_readsTown_5, sX9_readsTown_6, sX9_readsTown_7, sX9_readsTown_10, sX9_readsTown_11, sX9_readsTown_12, sX9_readsTown_13, sX9_readsTown_16, sX9_readsTown_18, sX9_readsTown_21, sX9_readsTown_22, sX9_readsTown_25, sX9_readsTown_26, sX9_readsTown_27, sX9_readsTown_28, sX9_readsTown_29, sX9_readsTown_32, sX9_readsTown_33, sX9_readsTown_36, sX9_readsTown_37, sX9_readsTown_40, sX9_readsTown_41, sX9_readsTown_42, sX9_readsTown_45, sX9_readsTown_46, sX9_readsTown_47, sX9_readsTown_50, sX9_readsTown_51, sX9_readsTown_52, sX9_readsTown_53, sX9_readsTown_54, sX9_readsTown_57, sX9_readsTown_60, sX9_readsTown_62, sX9_readsTown_65, sX9_readsTown_66, sX9_readsTown_69, sX9_readsTown_72, sX9_readsTown_73, sX9_readsTown_76, sX9_readsTown_77, ↓reduceIte, if_true, if_false, Option.bind_some, Option.bind_none, Option.toList_some, Option.toList_none, List.cons_append, List.nil_append, Option.elim_some, true_or, or_true, or_false, false_or, true_and, and_true, and_false, false_and, zio1, zio0, zio01, not_true_eq_false, not_false_eq_true, nlt, neq, nlt0, n0lt, neq0, neq1, nm9, m9n, nadd, nadd1, nmul, ncl, zin_t, h1, q1, zuA, Nat.reduceEqDiff, h01, h2]
      rw [hst]
      rcases b3 with ⟨p, c1, c2, c3, c4⟩ | ⟨j, c1, c2, c3, c4⟩
      · exact Or.inl ⟨p, c1, c2, c3, c4⟩
      · exact Or.inr ⟨j, c1, c2, h9, hv9, c3, c4⟩
    · rw [if_neg q2] at h2
      refine ⟨zu (zu (zu (zu (zu g 45 8 0) 45 10 0) 45 8 (nI 1)) 45 8 (nI 1)) 45 9 (-9), F2.tr ((fx_r (by omega) _).tr (fx_r (by omega) _)), Or.inl ⟨1, by simp [zu], by omega, ⟨fun q hq => ?_, fun z => ?_, fun z => by omega⟩, ?_⟩⟩
      · have : q = 0 := by omega
        subst this; exact g0
      · unfold gon at z
        rw [if_neg (by omega), if_pos rfl] at z
        exact q2 (by simpa using z)
      · simp (disch := omega) only [sX9_readsTown_0, sX9_readsTown_1, sX9_readsTown_2, sX9_readsTown_5, sX9_readsTown_6, sX9_readsTown_7, sX9_readsTown_10, sX9_readsTown_11, sX9_readsTown_12, sX9_readsTown_13, sX9_readsTown_16, sX9_readsTown_18, sX9_readsTown_21, sX9_readsTown_22, sX9_readsTown_25, sX9_readsTown_26, sX9_readsTown_27, sX9_readsTown_28, sX9_readsTown_29, sX9_readsTown_32, sX9_readsTown_33, sX9_readsTown_36, sX9_readsTown_37, sX9_readsTown_40, sX9_readsTown_41, sX9_readsTown_42, sX9_readsTown_45, sX9_readsTown_46, sX9_readsTown_47, sX9_readsTown_50, sX9_readsTown_51, sX9_readsTown_52, sX9_readsTown_53, sX9_readsTown_54, sX9_readsTown_57, sX9_readsTown_60, sX9_readsTown_62, sX9_readsTown_65, sX9_readsTown_66, sX9_readsTown_69, sX9_readsTown_72, sX9_readsTown_73, sX9_readsTown_76, sX9_readsTown_77, sX9_readsTown_78, sX9_readsTown_79, sX9_readsTown_108, sX9_readsTown_109, ↓reduceIte, if_true, if_false, Option.bind_some, Option.bind_none, Option.toList_some, Option.toList_none, List.cons_append, List.nil_append, Option.elim_some, true_or, or_true, or_false, false_or, true_and, and_true, and_false, false_and, zio1, zio0, zio01, not_true_eq_false, not_false_eq_true, nlt, neq, nlt0, n0lt, neq0, neq1, nm9, m9n, nadd, nadd1, nmul, ncl, zin_t, h1, q1, zuA, Nat.reduceEqDiff, h01, h2, m9lt, zbo0]
  · refine ⟨zu (zu (zu (zu g 45 8 0) 45 10 0) 45 8 0) 45 9 (-9), F1.tr ((fx_r (by omega) _).tr (fx_r (by omega) _)), Or.inl ⟨0, by simp [zu, nI_0], by omega, ⟨fun q hq => absurd hq (by omega), fun z => ?_, fun z => by omega⟩, ?_⟩⟩
    · unfold gon at z
      rw [if_pos rfl] at z
      exact q1 z
    · have h00 : (0 : Int32) + 0 = 0 := by decide
      simp (disch := omega) only [sX9_readsTown_0, sX9_readsTown_1, sX9_readsTown_2, sX9_readsTown_5, sX9_readsTown_6, sX9_readsTown_7, sX9_readsTown_10, sX9_readsTown_11, sX9_readsTown_12, sX9_readsTown_13, sX9_readsTown_16, sX9_readsTown_18, sX9_readsTown_21, sX9_readsTown_22, sX9_readsTown_25, sX9_readsTown_26, sX9_readsTown_27, sX9_readsTown_28, sX9_readsTown_29, sX9_readsTown_32, sX9_readsTown_33, sX9_readsTown_36, sX9_readsTown_37, sX9_readsTown_40, sX9_readsTown_41, sX9_readsTown_42, sX9_readsTown_45, sX9_readsTown_46, sX9_readsTown_47, sX9_readsTown_50, sX9_readsTown_51, sX9_readsTown_52, sX9_readsTown_53, sX9_readsTown_54, sX9_readsTown_57, sX9_readsTown_60, sX9_readsTown_62, sX9_readsTown_65, sX9_readsTown_66, sX9_readsTown_69, sX9_readsTown_72, sX9_readsTown_73, sX9_readsTown_76, sX9_readsTown_77, sX9_readsTown_78, sX9_readsTown_79, sX9_readsTown_108, sX9_readsTown_109, ↓reduceIte, if_true, if_false, Option.bind_some, Option.bind_none, Option.toList_some, Option.toList_none, List.cons_append, List.nil_append, Option.elim_some, true_or, or_true, or_false, false_or, true_and, and_true, and_false, false_and, zio1, zio0, zio01, not_true_eq_false, not_false_eq_true, nlt, neq, nlt0, n0lt, neq0, neq1, nm9, m9n, nadd, nadd1, nmul, ncl, zin_t, h1, q1, zuA, Nat.reduceEqDiff, h00, m9lt, zbo0]
end M20
