/-! The reference's nights. -/
def pld (kd : Nat → Nat) (pl h : Nat) : Prop := kd h = 2 ∨ pl / 2 ^ h % 2 = 1
theorem bit_ok : ∀ pl, pl < 128 → ∀ h, h < 7 → (((nI pl >>> (nI h &&& 31)) &&& 1 = 1) ↔ pl / 2 ^ h % 2 = 1) := by decide +kernel
section M2
variable {L : Nat} {xs : Nat → Int32} {g : Nat → Nat → Int32} {t : Nat → Int64}
variable {H S G : Nat} {kd bd gv rs dr w f l : Nat → Nat} {row : Nat → Int32}
variable {om : Int32} {omw omf pl : Nat}
/-- the visitor and the piles of the reference -/
def MOs (g : Nat → Nat → Int32) (om : Int32) (omw omf pl : Nat) : Prop := g 45 21 = om ∧ g 45 22 = nI omw ∧ g 45 23 = nI omf ∧ g 45 24 = nI pl ∧ omw ≤ 300 ∧ omf < 2147483648 ∧ pl < 128 ∧ (om = -9 ∨ (1 ≤ omw ∧ ∃ h, h < 7 ∧ om = nI h))
def guw (w f l : Nat → Nat) (row : Nat → Int32) (h n : Nat) : Nat → Nat := smn (fun k => if row k = nI h ∧ f k ≤ n ∧ n ≤ l k then w k else 0)
/-- the weight in a house in a night -/
def wgt (G : Nat) (w f l : Nat → Nat) (row : Nat → Int32) (om : Int32) (omw omf h n : Nat) : Nat := guw w f l row h n G + (if om = nI h ∧ omf ≤ n then omw else 0)
noncomputable def prs (G : Nat) (w f l : Nat → Nat) (row : Nat → Int32) (om : Int32) (omw omf : Nat) (kd gv : Nat → Nat) (pl h n : Nat) : Nat := by
  classical
  exact if pld kd pl h then wgt G w f l row om omw omf h n * gv h / 2 else wgt G w f l row om omw omf h n * gv h
theorem guw_le (hG : MGs g H G w f l row) {h n : Nat} : ∀ k, k ≤ G → guw w f l row h n k ≤ k * 30 := by
  intro k hk
  refine smn_le k (fun j hj => ?_)
  have := (hG.2.2 j (by omega)).1.2.2
  split <;> omega
theorem kX9_isPiled (hT : MTn g H S kd bd gv rs dr) (hO : MOs g om omw omf pl) {h : Nat} (hh : h < H) : go L xs 120 69 0 [some (.ref 45), some (.int (nI h))] [] (hp g t) = some (some (.int (if kd h = 2 ∨ pl / 2 ^ h % 2 = 1 then 1 else 0)), hp g t) := by
  obtain ⟨t1, t2, t3, t4, t5⟩ := id hT
  obtain ⟨⟨k1, k2⟩, -⟩ := t5 h hh
  obtain ⟨o1, o2, o3, o4, o5, o6, o7, o8⟩ := id hO
  have hb := bit_ok pl o7 h (by omega)
  by_cases q1 : kd h = 2
  · simp (disch := omega) only [sX9_isPiled_0, sX9_isPiled_1, sX9_isPiled_4, sX9_isPiled_5, sX9_isPiled_6, sX9_isPiled_7, sX9_isPiled_10, sX9_isPiled_11, sX9_isPiled_14, sX9_isPiled_15, sX9_isPiled_16, sX9_isPiled_17, sX9_isPiled_18, sX9_isPiled_19, sX9_isPiled_22, sX9_isPiled_23, sX9_isPiled_26, sX9_isPiled_27, ↓reduceIte, if_true, if_false, Option.bind_some, Option.bind_none, Option.toList_some, Option.toList_none, List.cons_append, List.nil_append, Option.elim_some, true_or, or_true, or_false, false_or, true_and, and_true, and_false, false_and, zio1, zio0, zio01, not_true_eq_false, not_false_eq_true, nlt, neq, nlt0, n0lt, neq0, neq1, nm9, m9n, nadd, nadd1, nmul, ncl, zin_t, k1, q1, li2]
  · by_cases q2 : pl / 2 ^ h % 2 = 1
    · simp (disch := omega) only [sX9_isPiled_0, sX9_isPiled_1, sX9_isPiled_4, sX9_isPiled_5, sX9_isPiled_6, sX9_isPiled_7, sX9_isPiled_10, sX9_isPiled_11, sX9_isPiled_14, sX9_isPiled_15, sX9_isPiled_16, sX9_isPiled_17, sX9_isPiled_18, sX9_isPiled_19, sX9_isPiled_22, sX9_isPiled_23, sX9_isPiled_26, sX9_isPiled_27, ↓reduceIte, if_true, if_false, Option.bind_some, Option.bind_none, Option.toList_some, Option.toList_none, List.cons_append, List.nil_append, Option.elim_some, true_or, or_true, or_false, false_or, true_and, and_true, and_false, false_and, zio1, zio0, zio01, not_true_eq_false, not_false_eq_true, nlt, neq, nlt0, n0lt, neq0, neq1, nm9, m9n, nadd, nadd1, nmul, ncl, zin_t, k1, q1, li2, o4, eq_true (hb.mpr q2), q2]
    · simp (disch := omega) only [sX9_isPiled_0, sX9_isPiled_1, sX9_isPiled_4, sX9_isPiled_5, sX9_isPiled_6, sX9_isPiled_7, sX9_isPiled_10, sX9_isPiled_11, sX9_isPiled_14, sX9_isPiled_15, sX9_isPiled_16, sX9_isPiled_17, sX9_isPiled_18, sX9_isPiled_19, sX9_isPiled_22, sX9_isPiled_23, sX9_isPiled_26, sX9_isPiled_27, ↓reduceIte, if_true, if_false, Option.bind_some, Option.bind_none, Option.toList_some, Option.toList_none, List.cons_append, List.nil_append, Option.elim_some, true_or, or_true, or_false, false_or, true_and, and_true, and_false, false_and, zio1, zio0, zio01, not_true_eq_false, not_false_eq_true, nlt, neq, nlt0, n0lt, neq0, neq1, nm9, m9n, nadd, nadd1, nmul, ncl, zin_t, k1, q1, li2, o4, eq_false (fun z => q2 (hb.mp z)), q2]
theorem kX9_pr_loop (hG : MGs g H G w f l row) {h n : Nat} (hn : n < 2147483648) : ∀ d k, k + d = G → go L xs 121 69 8 [some (.ref 45), some (.int (nI h)), some (.int (nI n)), some (.int (nI (guw w f l row h n k))), some (.int (if 0 < guw w f l row h n k then 1 else 0)), some (.int (nI k))] [] (hp g t) = go L xs 121 69 57 [some (.ref 45), some (.int (nI h)), some (.int (nI n)), some (.int (nI (guw w f l row h n G))), some (.int (if 0 < guw w f l row h n G then 1 else 0)), some (.int (nI G))] [] (hp g t)
  | 0, k, hk => by
    have hk : k = G := by omega
    subst hk
    obtain ⟨h1, h2, h3⟩ := id hG
    simp (disch := omega) only [sX9_press_8, sX9_press_10, sX9_press_11, sX9_press_14, ↓reduceIte, if_true, if_false, Option.bind_some, Option.bind_none, Option.toList_some, Option.toList_none, List.cons_append, List.nil_append, Option.elim_some, true_or, or_true, or_false, false_or, true_and, and_true, and_false, false_and, zio1, zio0, zio01, not_true_eq_false, not_false_eq_true, h1, nlt, neq, nlt0, n0lt, neq0, neq1, nm9, m9n, nadd, nadd1, nmul, ncl, zin_t, Nat.lt_irrefl]
  | d + 1, k, hk => by
    have ih := kX9_pr_loop (h := h) hG hn d (k + 1) (by omega)
    obtain ⟨h1, h2, h3⟩ := id hG
    obtain ⟨⟨e0, w1, w2⟩, e1, e2, b1, b2, e3, -⟩ := h3 k (by omega)
    have hlt : k < G := by omega
    have hth := kX9_isTh (t := t) (L := L) (xs := xs) hG hlt hn
    have hle := guw_le (h := h) (n := n) hG k (by omega)
    rw [sX9_press_8]
    rw [show guw w f l row h n (k + 1) = guw w f l row h n k + (if row k = nI h ∧ f k ≤ n ∧ n ≤ l k then w k else 0) from rfl] at ih
    by_cases q2 : row k = nI h
    · by_cases q3 : f k ≤ n ∧ n ≤ l k
      · rw [if_pos ⟨q2, q3⟩, if_pos (by omega : 0 < guw w f l row h n k + w k)] at ih
        simp (disch := omega) only [sX9_press_10, sX9_press_11, sX9_press_14, sX9_press_17, sX9_press_18, sX9_press_21, sX9_press_23, sX9_press_24, sX9_press_25, sX9_press_28, sX9_press_29, sX9_press_31, sX9_press_32, sX9_press_35, sX9_press_38, sX9_press_39, sX9_press_40, sX9_press_43, sX9_press_45, sX9_press_46, sX9_press_47, sX9_press_48, sX9_press_49, sX9_press_51, sX9_press_54, ↓reduceIte, if_true, if_false, Option.bind_some, Option.bind_none, Option.toList_some, Option.toList_none, List.cons_append, List.nil_append, Option.elim_some, true_or, or_true, or_false, false_or, true_and, and_true, and_false, false_and, zio1, zio0, zio01, not_true_eq_false, not_false_eq_true, h1, nlt, neq, nlt0, n0lt, neq0, neq1, nm9, m9n, nadd, nadd1, nmul, ncl, zin_t, hlt, e3, q2, hth, q3, e0]
        exact ih
      · rw [if_neg (fun q => q3 q.2)] at ih
        simp (disch := omega) only [sX9_press_10, sX9_press_11, sX9_press_14, sX9_press_17, sX9_press_18, sX9_press_21, sX9_press_23, sX9_press_24, sX9_press_25, sX9_press_28, sX9_press_29, sX9_press_31, sX9_press_32, sX9_press_35, sX9_press_38, sX9_press_39, sX9_press_40, sX9_press_43, sX9_press_45, sX9_press_46, sX9_press_47, sX9_press_48, sX9_press_49, sX9_press_51, sX9_press_54, ↓reduceIte, if_true, if_false, Option.bind_some, Option.bind_none, Option.toList_some, Option.toList_none, List.cons_append, List.nil_append, Option.elim_some, true_or, or_true, or_false, false_or, true_and, and_true, and_false, false_and, zio1, zio0, zio01, not_true_eq_false, not_false_eq_true, h1, nlt, neq, nlt0, n0lt, neq0, neq1, nm9, m9n, nadd, nadd1, nmul, ncl, zin_t, hlt, e3, q2, hth, q3, nadd0]
        exact ih
    · rw [if_neg (fun q => q2 q.1)] at ih
      simp (disch := omega) only [sX9_press_10, sX9_press_11, sX9_press_14, sX9_press_17, sX9_press_18, sX9_press_21, sX9_press_23, sX9_press_24, sX9_press_25, sX9_press_28, sX9_press_29, sX9_press_31, sX9_press_32, sX9_press_35, sX9_press_38, sX9_press_39, sX9_press_40, sX9_press_43, sX9_press_45, sX9_press_46, sX9_press_47, sX9_press_48, sX9_press_49, sX9_press_51, sX9_press_54, ↓reduceIte, if_true, if_false, Option.bind_some, Option.bind_none, Option.toList_some, Option.toList_none, List.cons_append, List.nil_append, Option.elim_some, true_or, or_true, or_false, false_or, true_and, and_true, and_false, false_and, zio1, zio0, zio01, not_true_eq_false, not_false_eq_true, h1, nlt, neq, nlt0, n0lt, neq0, neq1, nm9, m9n, nadd, nadd1, nmul, ncl, zin_t, hlt, e3, q2, nadd0]
      exact ih
theorem wgt_le (hG : MGs g H G w f l row) (hO : MOs g om omw omf pl) {h n : Nat} : wgt G w f l row om omw omf h n ≤ 540 := by
  have h1 := guw_le (h := h) (n := n) hG G (Nat.le_refl _)
  have h2 := hG.2.1
  have h3 := hO.2.2.2.2.1
  unfold wgt
  split <;> omega
theorem kX9_pr_end (hT : MTn g H S kd bd gv rs dr) (hO : MOs g om omw omf pl) {h W n : Nat} {x5 : Option Value} (hh : h < H) (hW : W ≤ 540) {b : Int32} (hb : b = 0 ∨ b = 1) : go L xs 121 69 83 [some (.ref 45), some (.int (nI h)), some (.int (nI n)), some (.int (nI W)), some (.int b), x5] [] (hp g t) = some (none, hp (zu (zu g 58 h (nI (if kd h = 2 ∨ pl / 2 ^ h % 2 = 1 then W * gv h / 2 else W * gv h))) 59 h b) t) := by
  obtain ⟨t1, t2, t3, t4, t5⟩ := id hT
  obtain ⟨-, -, ⟨v1, v2, v3⟩, -⟩ := t5 h hh
  have hip := kX9_isPiled (L := L) (xs := xs) (t := t) hT hO hh
  have hm : W * gv h ≤ 4860 := Nat.le_trans (Nat.mul_le_mul hW v3) (by omega)
  by_cases qp : kd h = 2 ∨ pl / 2 ^ h % 2 = 1
  · simp (disch := omega) only [sX9_press_83, sX9_press_84, sX9_press_87, sX9_press_88, sX9_press_89, sX9_press_90, sX9_press_93, sX9_press_96, sX9_press_97, sX9_press_98, sX9_press_101, sX9_press_102, sX9_press_103, sX9_press_104, sX9_press_105, sX9_press_106, sX9_press_109, sX9_press_110, sX9_press_111, sX9_press_114, sX9_press_115, sX9_press_116, sX9_press_117, sX9_press_118, sX9_press_119, sX9_press_122, sX9_press_123, sX9_press_125, sX9_press_126, ↓reduceIte, if_true, if_false, Option.bind_some, Option.bind_none, Option.toList_some, Option.toList_none, List.cons_append, List.nil_append, Option.elim_some, true_or, or_true, or_false, false_or, true_and, and_true, and_false, false_and, zio1, zio0, zio01, not_true_eq_false, not_false_eq_true, nlt, neq, nlt0, n0lt, neq0, neq1, nm9, m9n, nadd, nadd1, nmul, ncl, zin_t, hip, if_pos qp, v1, ndiv2, eq_true hb]
  · simp (disch := omega) only [sX9_press_83, sX9_press_84, sX9_press_87, sX9_press_88, sX9_press_89, sX9_press_90, sX9_press_93, sX9_press_96, sX9_press_97, sX9_press_98, sX9_press_101, sX9_press_102, sX9_press_103, sX9_press_104, sX9_press_105, sX9_press_106, sX9_press_109, sX9_press_110, sX9_press_111, sX9_press_114, sX9_press_115, sX9_press_116, sX9_press_117, sX9_press_118, sX9_press_119, sX9_press_122, sX9_press_123, sX9_press_125, sX9_press_126, ↓reduceIte, if_true, if_false, Option.bind_some, Option.bind_none, Option.toList_some, Option.toList_none, List.cons_append, List.nil_append, Option.elim_some, true_or, or_true, or_false, false_or, true_and, and_true, and_false, false_and, zio1, zio0, zio01, not_true_eq_false, not_false_eq_true, nlt, neq, nlt0, n0lt, neq0, neq1, nm9, m9n, nadd, nadd1, nmul, ncl, zin_t, hip, if_neg qp, v1, eq_true hb]
theorem kX9_press (hT : MTn g H S kd bd gv rs dr) (hG : MGs g H G w f l row) (hO : MOs g om omw omf pl) {h n : Nat} (hh : h < H) (hn : n < 2147483648) : go L xs 121 69 0 [some (.ref 45), some (.int (nI h)), some (.int (nI n)), none, none, none] [] (hp g t) = some (none, hp (zu (zu g 58 h (nI (if kd h = 2 ∨ pl / 2 ^ h % 2 = 1 then wgt G w f l row om omw omf h n * gv h / 2 else wgt G w f l row om omw omf h n * gv h))) 59 h (if 0 < wgt G w f l row om omw omf h n then 1 else 0)) t) := by
  have hl := kX9_pr_loop (L := L) (xs := xs) (t := t) (h := h) hG hn G 0 (by omega)
  have hle := guw_le (h := h) (n := n) hG G (Nat.le_refl _)
  have hW := wgt_le (h := h) (n := n) hG hO
  obtain ⟨o1, o2, o3, o4, o5, o6, o7, o8⟩ := id hO
  have h8 := hG.2.1
  rw [show guw w f l row h n 0 = 0 from rfl, nI_0, if_neg (Nat.lt_irrefl 0)] at hl
  simp only [sX9_press_0, sX9_press_1, sX9_press_2, sX9_press_3, sX9_press_5, sX9_press_6]
  rw [hl]
  by_cases q1 : om = nI h
  · by_cases q2 : omf ≤ n
    · have ew : wgt G w f l row om omw omf h n = guw w f l row h n G + omw := by unfold wgt; rw [if_pos ⟨q1, q2⟩]
      have hp1 : 1 ≤ omw := by
        rcases o8 with z | z
        · rw [z] at q1
          have := m9n (a := h) (by have := hT.2.1; omega)
          rw [q1] at this
          simp at this
        · exact z.1
      rw [ew, if_pos (show 0 < guw w f l row h n G + omw by omega)]
      simp (disch := omega) only [sX9_press_57, sX9_press_58, sX9_press_61, sX9_press_62, sX9_press_65, sX9_press_66, sX9_press_67, sX9_press_70, sX9_press_73, sX9_press_74, sX9_press_75, sX9_press_78, sX9_press_79, sX9_press_80, sX9_press_81, ↓reduceIte, if_true, if_false, Option.bind_some, Option.bind_none, Option.toList_some, Option.toList_none, List.cons_append, List.nil_append, Option.elim_some, true_or, or_true, or_false, false_or, true_and, and_true, and_false, false_and, zio1, zio0, zio01, not_true_eq_false, not_false_eq_true, nlt, neq, nlt0, n0lt, neq0, neq1, nm9, m9n, nadd, nadd1, nmul, ncl, zin_t, o1, o2, o3, eq_true q1, eq_false (Nat.not_lt.mpr q2)]
      exact kX9_pr_end hT hO hh (by omega) (Or.inr rfl)
    · have ew : wgt G w f l row om omw omf h n = guw w f l row h n G := by unfold wgt; rw [if_neg (fun z => q2 z.2)]; rfl
      rw [ew]
      simp (disch := omega) only [sX9_press_57, sX9_press_58, sX9_press_61, sX9_press_62, sX9_press_65, sX9_press_66, sX9_press_67, sX9_press_70, sX9_press_73, sX9_press_74, sX9_press_75, sX9_press_78, sX9_press_79, sX9_press_80, sX9_press_81, ↓reduceIte, if_true, if_false, Option.bind_some, Option.bind_none, Option.toList_some, Option.toList_none, List.cons_append, List.nil_append, Option.elim_some, true_or, or_true, or_false, false_or, true_and, and_true, and_false, false_and, zio1, zio0, zio01, not_true_eq_false, not_false_eq_true, nlt, neq, nlt0, n0lt, neq0, neq1, nm9, m9n, nadd, nadd1, nmul, ncl, zin_t, o1, o2, o3, eq_true q1, eq_true (Nat.not_le.mp q2)]
      exact kX9_pr_end hT hO hh (by omega) (by split <;> simp)
  · have ew : wgt G w f l row om omw omf h n = guw w f l row h n G := by unfold wgt; rw [if_neg (fun z => q1 z.1)]; rfl
    rw [ew]
    simp (disch := omega) only [sX9_press_57, sX9_press_58, sX9_press_61, sX9_press_62, sX9_press_65, sX9_press_66, sX9_press_67, sX9_press_70, sX9_press_73, sX9_press_74, sX9_press_75, sX9_press_78, sX9_press_79, sX9_press_80, sX9_press_81, ↓reduceIte, if_true, if_false, Option.bind_some, Option.bind_none, Option.toList_some, Option.toList_none, List.cons_append, List.nil_append, Option.elim_some, true_or, or_true, or_false, false_or, true_and, and_true, and_false, false_and, zio1, zio0, zio01, not_true_eq_false, not_false_eq_true, nlt, neq, nlt0, n0lt, neq0, neq1, nm9, m9n, nadd, nadd1, nmul, ncl, zin_t, o1, o2, o3, eq_false q1]
    exact kX9_pr_end hT hO hh (by omega) (by split <;> simp)
end M2
