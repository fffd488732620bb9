/-! The reference's nights. -/
def pld (kd : Nat → Nat) (pl h : Nat) : Prop := kd h = 2 ∨ pl / 2 ^ h % 2 = 1
theorem bit_ok : ∀ pl, pl < 128 → ∀ h, h < 7 → (((nI pl >>> (nI h &&& 31)) &&& 1 = 1) ↔ pl / 2 ^ h % 2 = 1) := by decide +kernel
section M2
variable {L : Nat} {xs : Nat → Int32} {g : Nat → Nat → Int32} {t : Nat → Int64}
variable {H S G : Nat} {kd bd gv rs dr w f l : Nat → Nat} {row : Nat → Int32}
variable {om : Int32} {omw omf pl : Nat}
/-- the visitor and the piles of the reference -/
def MOs (g : Nat → Nat → Int32) (om : Int32) (omw omf pl : Nat) : Prop := g 45 21 = om ∧ g 45 22 = nI omw ∧ g 45 23 = nI omf ∧ g 45 24 = nI pl ∧ omw ≤ 300 ∧ omf < 2147483648 ∧ pl < 128 ∧ (om = -9 ∨ (1 ≤ omw ∧ ∃ h, h < 7 ∧ om = nI h))
def guw (w f l : Nat → Nat) (row : Nat → Int32) (h n : Nat) : Nat → Nat := smn (fun k => if row k = nI h ∧ f k ≤ n ∧ n ≤ l k then w k else 0)
/-- the weight in a house in a night -/
def wgt (G : Nat) (w f l : Nat → Nat) (row : Nat → Int32) (om : Int32) (omw omf h n : Nat) : Nat := guw w f l row h n G + (if om = nI h ∧ omf ≤ n then omw else 0)
noncomputable def prs (G : Nat) (w f l : Nat → Nat) (row : Nat → Int32) (om : Int32) (omw omf : Nat) (kd gv : Nat → Nat) (pl h n : Nat) : Nat := by
  classical
  exact if pld kd pl h then wgt G w f l row om omw omf h n * gv h / 2 else wgt G w f l row om omw omf h n * gv h
theorem guw_le (hG : MGs g H G w f l row) {h n : Nat} : ∀ k, k ≤ G → guw w f l row h n k ≤ k * 30 := by
  intro k hk
  refine smn_le k (fun j hj => ?_)
  have := (hG.2.2 j (by omega)).1.2.2
  split <;> omega
theorem kX9_isPiled (hT : MTn g H S kd bd gv rs dr) (hO : MOs g om omw omf pl) {h : Nat} (hh : h < H) : go L xs 120 69 0 [some (.ref 45), some (.int (nI h))] [] (hp g t) = some (some (.int (if kd h = 2 ∨ pl / 2 ^ h % 2 = 1 then 1 else 0)), hp g t) := by
  obtain ⟨t1, t2, t3, t4, t5⟩ := id hT
  obtain ⟨⟨k1, k2⟩, -⟩ := t5 h hh
  obtain ⟨o1, o2, o3, o4, o5, o6, o7, o8⟩ := id hO
  have hb := bit_ok pl o7 h (by omega)
  by_cases q1 : kd h = 2
  · simp (disch := omega) only [sX9_isPiled_0, sX9_isPiled_1, sX9_isPiled_4, sX9_isPiled_5, sX9_isPiled_6, sX9_isPiled_7, sX9_isPiled_10, sX9_isPiled_11, sX9_isPiled_14, sX9_isPiled_15, sX9_isPiled_16, sX9_isPiled_17, sX9_isPiled_18, sX9_isPiled_19, sX9_isPiled_22, sX9_isPiled_23, sX9_isPiled_26, sX9_isPiled_27, ↓reduceIte, if_true, if_false, Option.bind_some, Option.bind_none, Option.toList_some, Option.toList_none, List.cons_append, List.nil_append, Option.elim_some, true_or, or_true, or_false, false_or, true_and, and_true, and_false, false_and, zio1, zio0, zio01, not_true_eq_false, not_false_eq_true, nlt, neq, nlt0, n0lt, neq0, neq1, nm9, m9n, nadd, nadd1, nmul, ncl, zin_t, k1, q1, li2]
  · by_cases q2 : pl / 2 ^ h % 2 = 1
    · simp (disch := omega) only [sX9_isPiled_0, sX9_isPiled_1, sX9_isPiled_4, sX9_isPiled_5, sX9_isPiled_6, sX9_isPiled_7, sX9_isPiled_10, sX9_isPiled_11, sX9_isPiled_14, sX9_isPiled_15, sX9_isPiled_16, sX9_isPiled_17, sX9_isPiled_18, sX9_isPiled_19, sX9_isPiled_22, sX9_isPiled_23, sX9_isPiled_26, sX9_isPiled_27, ↓reduceIte, if_true, if_false, Option.bind_some, Option.bind_none, Option.toList_some, Option.toList_none, List.cons_append, List.nil_append, Option.elim_some, true_or, or_true, or_false, false_or, true_and, and_true, and_false, false_and, zio1, zio0, zio01, not_true_eq_false, not_false_eq_true, nlt, neq, nlt0, n0lt, neq0, neq1, nm9, m9n, nadd, nadd1, nmul, ncl, zin_t, k1, q1, li2, o4, eq_true (hb.mpr q2), q2]
    · simp (disch := omega) only [sX9_isPiled_0, sX9_isPiled_1, sX9_isPiled_4, sX9_isPiled_5, sX9_isPiled_6, sX9_isPiled_7, sX9_isPiled_10, sX9_isPiled_11, sX9_isPiled_14, sX9_isPiled_15, sX9_isPiled_16, sX9_isPiled_17, sX9_isPiled_18, sX9_isPiled_19, sX9_isPiled_22, sX9_isPiled_23, sX9_isPiled_26, sX9_isPiled_27, ↓reduceIte, if_true, if_false, Option.bind_some, Option.bind_none, Option.toList_some, Option.toList_none, List.cons_append, List.nil_append, Option.elim_some, true_or, or_true, or_false, false_or, true_and, and_true, and_false, false_and, zio1, zio0, zio01, not_true_eq_false, not_false_eq_true, nlt, neq, nlt0, n0lt, neq0, neq1, nm9, m9n, nadd, nadd1, nmul, ncl, zin_t, k1, q1, li2, o4, eq_false (fun z => q2 (hb.mp z)), q2]
theorem kX9_pr_loop (hG : MGs g H G w f l row) {h n : Nat} (hn : n < 2147483648) : ∀ d k, k + d = G → go L xs 121 69 8 [some (.ref 45), some (.int (nI h)), some (.int (nI n)), some (.int (nI (guw w f l row h n k))), some (.int (if 0 < guw w f l row h n k then 1 else 0)), some (.int (nI k))] [] (hp g t) = go L xs 121 69 57 [some (.ref 45), some (.int (nI h)), some (.int (nI n)), some (.int (nI (guw w f l row h n G))), some (.int (if 0 < guw w f l row h n G then 1 else 0)), some (.int (nI G))] [] (hp g t)
  | 0, k, hk => by
    have hk : k = G := by omega
    subst hk
    obtain ⟨h1, h2, h3⟩ := id hG
    simp (disch := omega) only [sX9_press_8, sX9_press_10, sX9_press_11, sX9_press_14, ↓reduceIte, if_true, if_false, Option.bind_some, Option.bind_none, Option.toList_some, Option.toList_none, List.cons_append, List.nil_append, Option.elim_some, true_or, or_true, or_false, false_or, true_and, and_true, and_false, false_and, zio1, zio0, zio01, not_true_eq_false, not_false_eq_true, h1, nlt, neq, nlt0, n0lt, neq0, neq1, nm9, m9n, nadd, nadd1, nmul, ncl, zin_t, Nat.lt_irrefl]
  | d + 1, k, hk => by
    have ih := kX9_pr_loop (h := h) hG hn d (k + 1) (by omega)
    obtain ⟨h1, h2, h3⟩ := id hG
    obtain ⟨⟨e0, w1, w2⟩, e1, e2, b1, b2, e3, -⟩ := h3 k (by omega)
    have hlt : k < G := by omega
    have hth := kX9_isTh (t := t) (L := L) (xs := xs) hG hlt hn
    have hle := guw_le (h := h) (n := n) hG k (by omega)
    rw [sX9_press_8]
    rw [show guw w f l row h n (k + 1) = guw w f l row h n k + (if row k = nI h ∧ f k ≤ n ∧ n ≤ l k then w k else 0) from rfl] at ih
    by_cases q2 : row k = nI h
    · by_cases q3 : f k ≤ n ∧ n ≤ l k
      · rw [if_pos ⟨q2, q3⟩, if_pos (by omega : 0 < guw w f l row h n k + w k)] at ih
        simp (disch := omega) only [sX9_press_10, sX9_press_11, sX9_press_14, sX9_press_17, sX9_press_18, sX9_press_21, sX9_press_23, sX9_press_24, sX9_press_25, sX9_press_28, sX9_press_29, sX9_press_31, sX9_press_32, sX9_press_35, sX9_press_38, sX9_press_39, sX9_press_40, sX9_press_43, sX9_press_45, sX9_press_46, sX9_press_47, sX9_press_48, sX9_press_49, sX9_press_51, sX9_press_54, ↓reduceIte, if_true, if_false, Option.bind_some, Option.bind_none, Option.toList_some, Option.toList_none, List.cons_append, List.nil_append, Option.elim_some, true_or, or_true, or_false, false_or, true_and, and_true, and_false, false_and, zio1, zio0, zio01, not_true_eq_false, not_false_eq_true, h1, nlt, neq, nlt0, n0lt, neq0, neq1, nm9, m9n, nadd, nadd1, nmul, ncl, zin_t, hlt, e3, q2, hth, q3, e0]
        exact ih
      · rw [if_neg (fun q => q3 q.2)] at ih
        simp (disch := omega) only [sX9_press_10, sX9_press_11, sX9_press_14, sX9_press_17, sX9_press_18, sX9_press_21, sX9_press_23, sX9_press_24, sX9_press_25, sX9_press_28, sX9_press_29, sX9_press_31, sX9_press_32, sX9_press_35, sX9_press_38, sX9_press_39, sX9_press_40, sX9_press_43, sX9_press_45, sX9_press_46, sX9_press_47, sX9_press_48, sX9_press_49, sX9_press_51, sX9_press_54, ↓reduceIte, if_true, if_false, Option.bind_some, Option.bind_none, Option.toList_some, Option.toList_none, List.cons_append, List.nil_append, Option.elim_some, true_or, or_true, or_false, false_or, true_and, and_true, and_false, false_and, zio1, zio0, zio01, not_true_eq_false, not_false_eq_true, h1, nlt, neq, nlt0, n0lt, neq0, neq1, nm9, m9n, nadd, nadd1, nmul, ncl, zin_t, hlt, e3, q2, hth, q3, nadd0]
        exact ih
    · rw [if_neg (fun q => q2 q.1)] at ih
      simp (disch := omega) only [sX9_press_10, sX9_press_11, sX9_press_14, sX9_press_17, sX9_press_18, sX9_press_21, sX9_press_23, sX9_press_24, sX9_press_25, sX9_press_28, sX9_press_29, sX9_press_31, sX9_press_32, sX9_press_35, sX9_press_38, sX9_press_39, sX9_press_40, sX9_press_43, sX9_press_45, sX9_press_46, sX9_press_47, sX9_press_48, sX9_press_49, sX9_press_51, sX9_press_54, ↓reduceIte, if_true, if_false, Option.bind_some, Option.bind_none, Option.toList_some, Option.toList_none, List.cons_append, List.nil_append, Option.elim_some, true_or, or_true, or_false, false_or, true_and, and_true, and_false, false_and, zio1, zio0, zio01, not_true_eq_false, not_false_eq_true, h1, nlt, neq, nlt0, n0lt, neq0, neq1, nm9, m9n, nadd, nadd1, nmul, ncl, zin_t, hlt, e3, q2, nadd0]
      exact ih
end M2
