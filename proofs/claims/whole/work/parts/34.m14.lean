/-! The reference: beds, lodge, rows kept. -/
section M14
variable {L : Nat} {xs : Nat → Int32} {g g' : Nat → Nat → Int32} {t : Nat → Int64}
variable {H S G R : Nat} {kd bd gv rs dr w f l rh rd rt : Nat → Nat} {row : Nat → Int32}
/-- who sleeps in a house in a night -/
def slp (G : Nat) (f l : Nat → Nat) (row : Nat → Int32) (but : Int32) (h n : Nat) : Nat := cnt (fun k => nI k ≠ but ∧ row k = nI h ∧ f k ≤ n ∧ n ≤ l k) G
abbrev hbp (G : Nat) (bd f l : Nat → Nat) (row : Nat → Int32) (k h : Nat) (d : Nat) : Bool := decide (slp G f l row (nI k) h (f k + d) < bd h)
/-- a guest has a bed in a house -/
abbrev hbd (G : Nat) (bd f l : Nat → Nat) (row : Nat → Int32) (k h : Nat) : Bool := allb (hbp G bd f l row k h) (l k + 1 - f k)
theorem kX9_slp (hG : MGs g H G w f l row) {hh n : Nat} {but : Int32} (hn : n < 2147483648) : go L xs 115 69 0 [some (.ref 45), some (.int (nI hh)), some (.int (nI n)), some (.int but), none, none] [] (hp g t) = some (some (.int (nI (slp G f l row but hh n))), hp g t) := kX9_sleepers hG hn
theorem slp_le {but : Int32} {h n : Nat} : slp G f l row but h n ≤ G := cnt_le _ _
theorem kX9_hb_loop (hT : MTn g H S kd bd gv rs dr) (hG : MGs g H G w f l row) {k h : Nat} (hk : k < G) (hh : h < H) : ∀ e d, d + e = l k + 1 - f k → go L xs 116 69 10 [some (.ref 45), some (.int (nI k)), some (.int (nI h)), some (.int (if allb (hbp G bd f l row k h) d = true then 1 else 0)), some (.int (nI (f k + d)))] [] (hp g t) = some (some (.int (if hbd G bd f l row k h = true then 1 else 0)), hp g t)
  | 0, d, hd => by
    obtain ⟨h1, h2, h3⟩ := id hG
    obtain ⟨-, e1, e2, b1, b2, e3, -⟩ := h3 k hk
    have q : l k < f k + d := by omega
    have hd : d = l k + 1 - f k := by omega
    subst hd
    have hz : ((if hbd G bd f l row k h = true then (1 : Int32) else 0) = 0 ∨ (if hbd G bd f l row k h = true then (1 : Int32) else 0) = 1) := by split <;> simp
    simp (disch := omega) only [sX9_hasBed_10, sX9_hasBed_12, sX9_hasBed_13, sX9_hasBed_16, sX9_hasBed_17, sX9_hasBed_18, sX9_hasBed_54, sX9_hasBed_55, ↓reduceIte, if_true, if_false, Option.bind_some, Option.bind_none, Option.toList_some, Option.toList_none, List.cons_append, List.nil_append, Option.elim_some, true_or, or_true, or_false, false_or, true_and, and_true, and_false, false_and, zio1, zio0, zio01, not_true_eq_false, not_false_eq_true, nlt, neq, nlt0, n0lt, neq0, neq1, nm9, m9n, nadd, nadd1, nmul, ncl, zin_t, e2, q, eq_true hz]
  | e + 1, d, hd => by
    have ih := kX9_hb_loop hT hG hk hh e (d + 1) (by omega)
    obtain ⟨h1, h2, h3⟩ := id hG
    obtain ⟨-, e1, e2, b1, b2, e3, -⟩ := h3 k hk
    obtain ⟨-, ⟨u1, u2, u3⟩, -⟩ := hT.2.2.2.2 h hh
    have h7 := hT.2.1
    have q : ¬ l k < f k + d := by omega
    rw [show f k + (d + 1) = f k + d + 1 from rfl] at ih
    have hs := kX9_slp (L := L) (xs := xs) (t := t) (hh := h) (n := f k + d) (but := nI k) hG (by omega)
    have hsl : slp G f l row (nI k) h (f k + d) ≤ G := slp_le
    rw [sX9_hasBed_10]
    rw [show allb (hbp G bd f l row k h) (d + 1) = (allb (hbp G bd f l row k h) d && decide (slp G f l row (nI k) h (f k + d) < bd h)) from rfl] at ih
    cases hb : allb (hbp G bd f l row k h) d with
    | false =>
      rw [hb] at ih
      simp (disch := omega) only [sX9_hasBed_12, sX9_hasBed_13, sX9_hasBed_16, sX9_hasBed_17, sX9_hasBed_18, sX9_hasBed_21, sX9_hasBed_22, sX9_hasBed_25, sX9_hasBed_26, sX9_hasBed_27, sX9_hasBed_29, sX9_hasBed_30, sX9_hasBed_33, sX9_hasBed_34, sX9_hasBed_37, sX9_hasBed_38, sX9_hasBed_39, sX9_hasBed_42, sX9_hasBed_43, sX9_hasBed_46, sX9_hasBed_47, sX9_hasBed_48, sX9_hasBed_51, ↓reduceIte, if_true, if_false, Option.bind_some, Option.bind_none, Option.toList_some, Option.toList_none, List.cons_append, List.nil_append, Option.elim_some, true_or, or_true, or_false, false_or, true_and, and_true, and_false, false_and, zio1, zio0, zio01, not_true_eq_false, not_false_eq_true, nlt, neq, nlt0, n0lt, neq0, neq1, nm9, m9n, nadd, nadd1, nmul, ncl, zin_t, e2, q, Bool.false_eq_true]
      simpa only [Bool.false_and, Bool.false_eq_true, if_false] using ih
    | true =>
      rw [hb] at ih
      by_cases q2 : slp G f l row (nI k) h (f k + d) < bd h
      · simp only [q2, decide_true, Bool.and_true, if_true] at ih
        simp (disch := omega) only [sX9_hasBed_12, sX9_hasBed_13, sX9_hasBed_16, sX9_hasBed_17, sX9_hasBed_18, sX9_hasBed_21, sX9_hasBed_22, sX9_hasBed_25, sX9_hasBed_26, sX9_hasBed_27, sX9_hasBed_29, sX9_hasBed_30, sX9_hasBed_33, sX9_hasBed_34, sX9_hasBed_37, sX9_hasBed_38, sX9_hasBed_39, sX9_hasBed_42, sX9_hasBed_43, sX9_hasBed_46, sX9_hasBed_47, sX9_hasBed_48, sX9_hasBed_51, ↓reduceIte, if_true, if_false, Option.bind_some, Option.bind_none, Option.toList_some, Option.toList_none, List.cons_append, List.nil_append, Option.elim_some, true_or, or_true, or_false, false_or, true_and, and_true, and_false, false_and, zio1, zio0, zio01, not_true_eq_false, not_false_eq_true, nlt, neq, nlt0, n0lt, neq0, neq1, nm9, m9n, nadd, nadd1, nmul, ncl, zin_t, e2, q, hs, u1, q2]
        exact ih
      · simp only [q2, decide_false, Bool.and_false, Bool.false_eq_true, if_false] at ih
        simp (disch := omega) only [sX9_hasBed_12, sX9_hasBed_13, sX9_hasBed_16, sX9_hasBed_17, sX9_hasBed_18, sX9_hasBed_21, sX9_hasBed_22, sX9_hasBed_25, sX9_hasBed_26, sX9_hasBed_27, sX9_hasBed_29, sX9_hasBed_30, sX9_hasBed_33, sX9_hasBed_34, sX9_hasBed_37, sX9_hasBed_38, sX9_hasBed_39, sX9_hasBed_42, sX9_hasBed_43, sX9_hasBed_46, sX9_hasBed_47, sX9_hasBed_48, sX9_hasBed_51, ↓reduceIte, if_true, if_false, Option.bind_some, Option.bind_none, Option.toList_some, Option.toList_none, List.cons_append, List.nil_append, Option.elim_some, true_or, or_true, or_false, false_or, true_and, and_true, and_false, false_and, zio1, zio0, zio01, not_true_eq_false, not_false_eq_true, nlt, neq, nlt0, n0lt, neq0, neq1, nm9, m9n, nadd, nadd1, nmul, ncl, zin_t, e2, q, hs, u1, q2]
        exact ih
theorem kX9_hasBed (hT : MTn g H S kd bd gv rs dr) (hG : MGs g H G w f l row) {k h : Nat} (hk : k < G) (hh : h < H) : go L xs 116 69 0 [some (.ref 45), some (.int (nI k)), some (.int (nI h)), none, none] [] (hp g t) = some (some (.int (if hbd G bd f l row k h = true then 1 else 0)), hp g t) := by
  have hl := kX9_hb_loop (L := L) (xs := xs) (t := t) hT hG hk hh (l k + 1 - f k) 0 (by omega)
  obtain ⟨h1, h2, h3⟩ := id hG
  obtain ⟨-, e1, e2, b1, b2, e3, -⟩ := h3 k hk
  rw [show allb (hbp G bd f l row k h) 0 = true from rfl, if_pos rfl, Nat.add_zero] at hl
  simp (disch := omega) only [sX9_hasBed_0, sX9_hasBed_1, sX9_hasBed_2, sX9_hasBed_3, sX9_hasBed_6, sX9_hasBed_7, sX9_hasBed_8, ↓reduceIte, if_true, if_false, Option.bind_some, Option.bind_none, Option.toList_some, Option.toList_none, List.cons_append, List.nil_append, Option.elim_some, true_or, or_true, or_false, false_or, true_and, and_true, and_false, false_and, zio1, zio0, zio01, not_true_eq_false, not_false_eq_true, nlt, neq, nlt0, n0lt, neq0, neq1, nm9, m9n, nadd, nadd1, nmul, ncl, zin_t, e1]
  exact hl
theorem qX9_lodge (hT : MTn g H S kd bd gv rs dr) (hG : MGs g H G w f l row) {x y : Int32} : go L xs 117 69 0 [some (.ref 45), some (.int x), some (.int y), none] [] (hp g t) = (if (0 ≤ x.toInt ∧ x.toInt < G) ∧ (y = -9 ∨ (0 ≤ y.toInt ∧ y.toInt < H)) then (if y = -9 ∨ hbd G bd f l row x.toInt.toNat y.toInt.toNat = true then some (some (.int (row x.toInt.toNat)), hp (zu g 56 x.toInt.toNat y) t) else some (some (.int (-3)), hp g t)) else some (some (.int (-1)), hp g t)) := by
  have h1 := kX9_nG (L := L) (xs := xs) (t := t) (x := x) hG
  have h2 := kX9_nH (L := L) (xs := xs) (t := t) (x := y) hT
  have h7 := hT.2.1
  have g8 := hG.2.1
  by_cases q1 : 0 ≤ x.toInt ∧ x.toInt < G
  · rw [if_pos q1] at h1
    have hx := nI_back q1.1
    generalize hk : x.toInt.toNat = k at hx
    subst hx
    obtain ⟨-, e1, e2, b1, b2, e3, -⟩ := hG.2.2 k (by omega)
    by_cases q2 : y = -9
    · rw [if_pos ⟨q1, Or.inl q2⟩, if_pos (Or.inl q2)]
      subst q2
      simp (disch := omega) only [sX9_lodge_0, sX9_lodge_1, sX9_lodge_2, sX9_lodge_5, sX9_lodge_8, sX9_lodge_9, sX9_lodge_11, sX9_lodge_14, sX9_lodge_15, sX9_lodge_16, sX9_lodge_19, sX9_lodge_22, sX9_lodge_23, sX9_lodge_24, sX9_lodge_25, sX9_lodge_27, sX9_lodge_30, sX9_lodge_31, sX9_lodge_32, sX9_lodge_33, sX9_lodge_36, sX9_lodge_39, sX9_lodge_41, sX9_lodge_42, sX9_lodge_43, sX9_lodge_46, sX9_lodge_47, sX9_lodge_48, sX9_lodge_49, sX9_lodge_50, sX9_lodge_53, sX9_lodge_54, sX9_lodge_55, sX9_lodge_56, sX9_lodge_57, ↓reduceIte, if_true, if_false, Option.bind_some, Option.bind_none, Option.toList_some, Option.toList_none, List.cons_append, List.nil_append, Option.elim_some, true_or, or_true, or_false, false_or, true_and, and_true, and_false, false_and, zio1, zio0, zio01, not_true_eq_false, not_false_eq_true, nlt, neq, nlt0, n0lt, neq0, neq1, nm9, m9n, nadd, nadd1, nmul, ncl, zin_t, h1, e3]
    · by_cases q3 : 0 ≤ y.toInt ∧ y.toInt < H
      · rw [if_pos q3] at h2
        rw [if_pos ⟨q1, Or.inr q3⟩]
        have hy := nI_back q3.1
        generalize hm : y.toInt.toNat = m at hy
        subst hy
        have h3 := kX9_hasBed (L := L) (xs := xs) (t := t) (k := k) (h := m) hT hG (by omega) (by omega)
        by_cases q4 : hbd G bd f l row k m = true
        · rw [if_pos q4] at h3
          rw [if_pos (Or.inr q4)]
          simp (disch := omega) only [sX9_lodge_0, sX9_lodge_1, sX9_lodge_2, sX9_lodge_5, sX9_lodge_8, sX9_lodge_9, sX9_lodge_11, sX9_lodge_14, sX9_lodge_15, sX9_lodge_16, sX9_lodge_19, sX9_lodge_22, sX9_lodge_23, sX9_lodge_24, sX9_lodge_25, sX9_lodge_27, sX9_lodge_30, sX9_lodge_31, sX9_lodge_32, sX9_lodge_33, sX9_lodge_36, sX9_lodge_39, sX9_lodge_41, sX9_lodge_42, sX9_lodge_43, sX9_lodge_46, sX9_lodge_47, sX9_lodge_48, sX9_lodge_49, sX9_lodge_50, sX9_lodge_53, sX9_lodge_54, sX9_lodge_55, sX9_lodge_56, sX9_lodge_57, ↓reduceIte, if_true, if_false, Option.bind_some, Option.bind_none, Option.toList_some, Option.toList_none, List.cons_append, List.nil_append, Option.elim_some, true_or, or_true, or_false, false_or, true_and, and_true, and_false, false_and, zio1, zio0, zio01, not_true_eq_false, not_false_eq_true, nlt, neq, nlt0, n0lt, neq0, neq1, nm9, m9n, nadd, nadd1, nmul, ncl, zin_t, h1, h2, h3, e3]
        · rw [if_neg q4] at h3
          rw [if_neg (fun z => z.elim q2 q4)]
          simp (disch := omega) only [sX9_lodge_0, sX9_lodge_1, sX9_lodge_2, sX9_lodge_5, sX9_lodge_8, sX9_lodge_9, sX9_lodge_11, sX9_lodge_14, sX9_lodge_15, sX9_lodge_16, sX9_lodge_19, sX9_lodge_22, sX9_lodge_23, sX9_lodge_24, sX9_lodge_25, sX9_lodge_27, sX9_lodge_30, sX9_lodge_31, sX9_lodge_32, sX9_lodge_33, sX9_lodge_36, sX9_lodge_39, sX9_lodge_41, sX9_lodge_42, sX9_lodge_43, sX9_lodge_46, sX9_lodge_47, sX9_lodge_48, sX9_lodge_49, sX9_lodge_50, sX9_lodge_53, sX9_lodge_54, sX9_lodge_55, sX9_lodge_56, sX9_lodge_57, ↓reduceIte, if_true, if_false, Option.bind_some, Option.bind_none, Option.toList_some, Option.toList_none, List.cons_append, List.nil_append, Option.elim_some, true_or, or_true, or_false, false_or, true_and, and_true, and_false, false_and, zio1, zio0, zio01, not_true_eq_false, not_false_eq_true, nlt, neq, nlt0, n0lt, neq0, neq1, nm9, m9n, nadd, nadd1, nmul, ncl, zin_t, h1, h2, h3]
      · rw [if_neg q3] at h2
        rw [if_neg (fun z => z.2.elim q2 q3)]
        simp (disch := omega) only [sX9_lodge_0, sX9_lodge_1, sX9_lodge_2, sX9_lodge_5, sX9_lodge_8, sX9_lodge_9, sX9_lodge_11, sX9_lodge_14, sX9_lodge_15, sX9_lodge_16, sX9_lodge_19, sX9_lodge_22, sX9_lodge_23, sX9_lodge_24, sX9_lodge_25, sX9_lodge_27, sX9_lodge_30, sX9_lodge_31, sX9_lodge_32, sX9_lodge_33, sX9_lodge_36, sX9_lodge_39, sX9_lodge_41, sX9_lodge_42, sX9_lodge_43, sX9_lodge_46, sX9_lodge_47, sX9_lodge_48, sX9_lodge_49, sX9_lodge_50, sX9_lodge_53, sX9_lodge_54, sX9_lodge_55, sX9_lodge_56, sX9_lodge_57, ↓reduceIte, if_true, if_false, Option.bind_some, Option.bind_none, Option.toList_some, Option.toList_none, List.cons_append, List.nil_append, Option.elim_some, true_or, or_true, or_false, false_or, true_and, and_true, and_false, false_and, zio1, zio0, zio01, not_true_eq_false, not_false_eq_true, nlt, neq, nlt0, n0lt, neq0, neq1, nm9, m9n, nadd, nadd1, nmul, ncl, zin_t, h1, h2, q2]
  · rw [if_neg q1] at h1
    rw [if_neg (fun z => q1 z.1)]
    simp (disch := omega) only [sX9_lodge_0, sX9_lodge_1, sX9_lodge_2, sX9_lodge_5, sX9_lodge_8, sX9_lodge_9, sX9_lodge_11, sX9_lodge_14, sX9_lodge_15, sX9_lodge_16, sX9_lodge_19, sX9_lodge_22, sX9_lodge_23, sX9_lodge_24, sX9_lodge_25, sX9_lodge_27, sX9_lodge_30, sX9_lodge_31, sX9_lodge_32, sX9_lodge_33, sX9_lodge_36, sX9_lodge_39, sX9_lodge_41, sX9_lodge_42, sX9_lodge_43, sX9_lodge_46, sX9_lodge_47, sX9_lodge_48, sX9_lodge_49, sX9_lodge_50, sX9_lodge_53, sX9_lodge_54, sX9_lodge_55, sX9_lodge_56, sX9_lodge_57, ↓reduceIte, if_true, if_false, Option.bind_some, Option.bind_none, Option.toList_some, Option.toList_none, List.cons_append, List.nil_append, Option.elim_some, true_or, or_true, or_false, false_or, true_and, and_true, and_false, false_and, zio1, zio0, zio01, not_true_eq_false, not_false_eq_true, h1]
abbrev bop (G : Nat) (bd f l : Nat → Nat) (row : Nat → Int32) (h : Nat) (n : Nat) : Bool := decide (slp G f l row (-9) h n ≤ bd h)
/-- nowhere more sleep than there are beds -/
abbrev hvb (H G : Nat) (bd f l : Nat → Nat) (row : Nat → Int32) : Bool := allb (fun h => allb (bop G bd f l row h) 50) H
theorem kX9_vb1 (hT : MTn g H S kd bd gv rs dr) (hG : MGs g H G w f l row) {h : Nat} (hh : h < H) {b : Bool} : ∀ e n, n + e = 50 → go L xs 136 69 14 [some (.ref 45), some (.int (if (b && allb (bop G bd f l row h) n) = true then 1 else 0)), some (.int (nI h)), some (.int (nI n))] [] (hp g t) = go L xs 136 69 53 [some (.ref 45), some (.int (if (b && allb (bop G bd f l row h) 50) = true then 1 else 0)), some (.int (nI h)), some (.int (nI 50))] [] (hp g t)
  | 0, n, hn => by
    have hn : n = 50 := by omega
    subst hn
    simp (disch := omega) only [sX9_haveBeds_14, sX9_haveBeds_15, sX9_haveBeds_17, ↓reduceIte, if_true, if_false, Option.bind_some, Option.bind_none, Option.toList_some, Option.toList_none, List.cons_append, List.nil_append, Option.elim_some, true_or, or_true, or_false, false_or, true_and, and_true, and_false, false_and, zio1, zio0, zio01, not_true_eq_false, not_false_eq_true, nlt, neq, nlt0, n0lt, neq0, neq1, nm9, m9n, nadd, nadd1, nmul, ncl, zin_t, li50, Nat.lt_irrefl]
  | e + 1, n, hn => by
    have ih := kX9_vb1 (b := b) hT hG hh e (n + 1) (by omega)
    obtain ⟨-, ⟨u1, u2, u3⟩, -⟩ := hT.2.2.2.2 h hh
    have h7 := hT.2.1
    have g8 := hG.2.1
    have q : n < 50 := by omega
    have hs := kX9_slp (L := L) (xs := xs) (t := t) (hh := h) (n := n) (but := -9) hG (by omega)
    have hsl : slp G f l row (-9) h n ≤ G := slp_le
    rw [sX9_haveBeds_14]
    cases hb : (b && allb (bop G bd f l row h) n) with
    | false =>
      have e1 : (b && allb (bop G bd f l row h) (n + 1)) = false := by
        show (b && (allb _ n && _)) = false
        rw [← Bool.and_assoc, hb]
        rfl
      rw [e1] at ih
      simp (disch := omega) only [sX9_haveBeds_15, sX9_haveBeds_17, sX9_haveBeds_20, sX9_haveBeds_21, sX9_haveBeds_24, sX9_haveBeds_25, sX9_haveBeds_26, sX9_haveBeds_27, sX9_haveBeds_29, sX9_haveBeds_32, sX9_haveBeds_33, sX9_haveBeds_36, sX9_haveBeds_37, sX9_haveBeds_38, sX9_haveBeds_41, sX9_haveBeds_42, sX9_haveBeds_45, sX9_haveBeds_46, sX9_haveBeds_47, sX9_haveBeds_50, ↓reduceIte, if_true, if_false, Option.bind_some, Option.bind_none, Option.toList_some, Option.toList_none, List.cons_append, List.nil_append, Option.elim_some, true_or, or_true, or_false, false_or, true_and, and_true, and_false, false_and, zio1, zio0, zio01, not_true_eq_false, not_false_eq_true, nlt, neq, nlt0, n0lt, neq0, neq1, nm9, m9n, nadd, nadd1, nmul, ncl, zin_t, li50, q, Bool.false_eq_true]
      simpa only [Bool.false_eq_true, if_false] using ih
    | true =>
      have e1 : (b && allb (bop G bd f l row h) (n + 1)) = decide (slp G f l row (-9) h n ≤ bd h) := by
        show (b && (allb _ n && _)) = _
        rw [← Bool.and_assoc, hb]
        rfl
      rw [e1] at ih
      by_cases q2 : bd h < slp G f l row (-9) h n
      · have q3 : ¬ slp G f l row (-9) h n ≤ bd h := by omega
        simp only [q3, decide_false, Bool.false_eq_true, if_false] at ih
        simp (disch := omega) only [sX9_haveBeds_15, sX9_haveBeds_17, sX9_haveBeds_20, sX9_haveBeds_21, sX9_haveBeds_24, sX9_haveBeds_25, sX9_haveBeds_26, sX9_haveBeds_27, sX9_haveBeds_29, sX9_haveBeds_32, sX9_haveBeds_33, sX9_haveBeds_36, sX9_haveBeds_37, sX9_haveBeds_38, sX9_haveBeds_41, sX9_haveBeds_42, sX9_haveBeds_45, sX9_haveBeds_46, sX9_haveBeds_47, sX9_haveBeds_50, ↓reduceIte, if_true, if_false, Option.bind_some, Option.bind_none, Option.toList_some, Option.toList_none, List.cons_append, List.nil_append, Option.elim_some, true_or, or_true, or_false, false_or, true_and, and_true, and_false, false_and, zio1, zio0, zio01, not_true_eq_false, not_false_eq_true, nlt, neq, nlt0, n0lt, neq0, neq1, nm9, m9n, nadd, nadd1, nmul, ncl, zin_t, li50, q, hs, u1, q2]
        exact ih
      · have q3 : slp G f l row (-9) h n ≤ bd h := by omega
        simp only [q3, decide_true, if_true] at ih
        simp (disch := omega) only [sX9_haveBeds_15, sX9_haveBeds_17, sX9_haveBeds_20, sX9_haveBeds_21, sX9_haveBeds_24, sX9_haveBeds_25, sX9_haveBeds_26, sX9_haveBeds_27, sX9_haveBeds_29, sX9_haveBeds_32, sX9_haveBeds_33, sX9_haveBeds_36, sX9_haveBeds_37, sX9_haveBeds_38, sX9_haveBeds_41, sX9_haveBeds_42, sX9_haveBeds_45, sX9_haveBeds_46, sX9_haveBeds_47, sX9_haveBeds_50, ↓reduceIte, if_true, if_false, Option.bind_some, Option.bind_none, Option.toList_some, Option.toList_none, List.cons_append, List.nil_append, Option.elim_some, true_or, or_true, or_false, false_or, true_and, and_true, and_false, false_and, zio1, zio0, zio01, not_true_eq_false, not_false_eq_true, nlt, neq, nlt0, n0lt, neq0, neq1, nm9, m9n, nadd, nadd1, nmul, ncl, zin_t, li50, q, hs, u1, q2]
        exact ih
theorem kX9_vb2 (hT : MTn g H S kd bd gv rs dr) (hG : MGs g H G w f l row) : ∀ e h (x3 : Option Value), h + e = H → go L xs 136 69 4 [some (.ref 45), some (.int (if allb (fun h => allb (bop G bd f l row h) 50) h = true then 1 else 0)), some (.int (nI h)), x3] [] (hp g t) = some (some (.int (if hvb H G bd f l row = true then 1 else 0)), hp g t)
  | 0, h, x3, hn => by
    have hn : h = H := by omega
    subst hn
    have t1 := hT.1
    have t2 := hT.2.1
    have hz : ((if hvb h G bd f l row = true then (1 : Int32) else 0) = 0 ∨ (if hvb h G bd f l row = true then (1 : Int32) else 0) = 1) := by split <;> simp
    simp (disch := omega) only [sX9_haveBeds_4, sX9_haveBeds_5, sX9_haveBeds_6, sX9_haveBeds_9, sX9_haveBeds_59, sX9_haveBeds_60, ↓reduceIte, if_true, if_false, Option.bind_some, Option.bind_none, Option.toList_some, Option.toList_none, List.cons_append, List.nil_append, Option.elim_some, true_or, or_true, or_false, false_or, true_and, and_true, and_false, false_and, zio1, zio0, zio01, not_true_eq_false, not_false_eq_true, nlt, neq, nlt0, n0lt, neq0, neq1, nm9, m9n, nadd, nadd1, nmul, ncl, zin_t, t1, Nat.lt_irrefl, eq_true hz]
  | e + 1, h, x3, hn => by
    have ih := kX9_vb2 hT hG e (h + 1) (some (.int (nI 50))) (by omega)
    have t1 := hT.1
    have t2 := hT.2.1
    have q : h < H := by omega
    have h1 := kX9_vb1 (L := L) (xs := xs) (t := t) (b := allb (fun h => allb (bop G bd f l row h) 50) h) hT hG q 50 0 (by omega)
    rw [show allb (bop G bd f l row h) 0 = true from rfl, Bool.and_true, nI_0] at h1
    rw [sX9_haveBeds_4]
    simp (disch := omega) only [sX9_haveBeds_5, sX9_haveBeds_6, sX9_haveBeds_9, sX9_haveBeds_12, sX9_haveBeds_13, ↓reduceIte, if_true, if_false, Option.bind_some, Option.bind_none, Option.toList_some, Option.toList_none, List.cons_append, List.nil_append, Option.elim_some, true_or, or_true, or_false, false_or, true_and, and_true, and_false, false_and, zio1, zio0, zio01, not_true_eq_false, not_false_eq_true, nlt, neq, nlt0, n0lt, neq0, neq1, nm9, m9n, nadd, nadd1, nmul, ncl, zin_t, t1, q]
    rw [h1]
    simp (disch := omega) only [sX9_haveBeds_53, sX9_haveBeds_56, ↓reduceIte, if_true, if_false, Option.bind_some, Option.bind_none, Option.toList_some, Option.toList_none, List.cons_append, List.nil_append, Option.elim_some, true_or, or_true, or_false, false_or, true_and, and_true, and_false, false_and, zio1, zio0, zio01, not_true_eq_false, not_false_eq_true, nlt, neq, nlt0, n0lt, neq0, neq1, nm9, m9n, nadd, nadd1, nmul, ncl, zin_t]
    exact ih
theorem kX9_haveBeds (hT : MTn g H S kd bd gv rs dr) (hG : MGs g H G w f l row) : go L xs 136 69 0 [some (.ref 45), none, none, none] [] (hp g t) = some (some (.int (if hvb H G bd f l row = true then 1 else 0)), hp g t) := by
  have h := kX9_vb2 (L := L) (xs := xs) (t := t) hT hG H 0 none (by omega)
  rw [show allb (fun h => allb (bop G bd f l row h) 50) 0 = true from rfl, if_pos rfl, nI_0] at h
  simp only [sX9_haveBeds_0, sX9_haveBeds_1, sX9_haveBeds_2, sX9_haveBeds_3]
  exact h
theorem kX9_kp_loop {G : Nat} (g8 : G ≤ 8) {r : Nat → Int32} : ∀ e k (g : Nat → Nat → Int32), k + e = G → g 45 13 = nI G → (∀ j, j < G → g 56 j = r j) → (∀ j, j < k → g 60 j = r j) → ∃ g', (∀ a, a ≠ 60 → g' a = g a) ∧ (∀ j, j < G → g' 60 j = r j) ∧ go L xs 134 69 2 [some (.ref 45), some (.int (nI k))] [] (hp g t) = some (none, hp g' t)
  | 0, k, g, hk, hG, h56, h60 => by
    have hk : k = G := by omega
    subst hk
    refine ⟨g, fun _ _ => rfl, h60, ?_⟩
    simp (disch := omega) only [sX9_keepHouses_2, sX9_keepHouses_3, sX9_keepHouses_4, sX9_keepHouses_7, sX9_keepHouses_28, ↓reduceIte, if_true, if_false, Option.bind_some, Option.bind_none, Option.toList_some, Option.toList_none, List.cons_append, List.nil_append, Option.elim_some, true_or, or_true, or_false, false_or, true_and, and_true, and_false, false_and, zio1, zio0, zio01, not_true_eq_false, not_false_eq_true, nlt, neq, nlt0, n0lt, neq0, neq1, nm9, m9n, nadd, nadd1, nmul, ncl, zin_t, hG, Nat.lt_irrefl]
  | e + 1, k, g, hk, hG, h56, h60 => by
    have q : k < G := by omega
    obtain ⟨g', a1, a2, a3⟩ := kX9_kp_loop g8 (r := r) e (k + 1) (zu g 60 k (r k)) (by omega) (by simpa [zu] using hG) (fun j hj => by simpa [zu] using h56 j hj) (fun j hj => by
      by_cases q2 : j = k
      · subst q2; simp [zu]
      · simp [zu, q2, h60 j (by omega)])
    refine ⟨g', fun a ha => (a1 a ha).trans (by funext q; simp [zu, ha]), a2, ?_⟩
    have h5 := h56 k q
    rw [sX9_keepHouses_2]
    simp (disch := omega) only [sX9_keepHouses_3, sX9_keepHouses_4, sX9_keepHouses_7, sX9_keepHouses_10, sX9_keepHouses_11, sX9_keepHouses_14, sX9_keepHouses_15, sX9_keepHouses_16, sX9_keepHouses_19, sX9_keepHouses_20, sX9_keepHouses_21, sX9_keepHouses_22, sX9_keepHouses_25, ↓reduceIte, if_true, if_false, Option.bind_some, Option.bind_none, Option.toList_some, Option.toList_none, List.cons_append, List.nil_append, Option.elim_some, true_or, or_true, or_false, false_or, true_and, and_true, and_false, false_and, zio1, zio0, zio01, not_true_eq_false, not_false_eq_true, nlt, neq, nlt0, n0lt, neq0, neq1, nm9, m9n, nadd, nadd1, nmul, ncl, zin_t, hG, q, h5]
    exact a3
theorem kX9_keepHouses (hG : MGs g H G w f l row) : ∃ g', (∀ a, a ≠ 60 → g' a = g a) ∧ (∀ j, j < G → g' 60 j = row j) ∧ go L xs 134 69 0 [some (.ref 45), none] [] (hp g t) = some (none, hp g' t) := by
  obtain ⟨g', a1, a2, a3⟩ := kX9_kp_loop (L := L) (xs := xs) (t := t) (r := row) hG.2.1 G 0 g (by omega) hG.1 (fun j hj => (hG.2.2 j hj).2.2.2.2.2.1) (fun j hj => absurd hj (by omega))
  refine ⟨g', a1, a2, ?_⟩
  rw [nI_0] at a3
  simp only [sX9_keepHouses_0, sX9_keepHouses_1]
  exact a3
theorem kX9_tk_loop {G : Nat} (g8 : G ≤ 8) {r : Nat → Int32} : ∀ e k (g : Nat → Nat → Int32), k + e = G → g 45 13 = nI G → (∀ j, j < G → g 60 j = r j) → (∀ j, j < k → g 56 j = r j) → ∃ g', (∀ a, a ≠ 56 → g' a = g a) ∧ (∀ j, j < G → g' 56 j = r j) ∧ (∀ j, G ≤ j → g' 56 j = g 56 j) ∧ go L xs 135 69 2 [some (.ref 45), some (.int (nI k))] [] (hp g t) = some (none, hp g' t)
  | 0, k, g, hk, hG, h56, h60 => by
    have hk : k = G := by omega
    subst hk
    refine ⟨g, fun _ _ => rfl, h60, fun _ _ => rfl, ?_⟩
    simp (disch := omega) only [sX9_takeHouses_2, sX9_takeHouses_3, sX9_takeHouses_4, sX9_takeHouses_7, sX9_takeHouses_28, ↓reduceIte, if_true, if_false, Option.bind_some, Option.bind_none, Option.toList_some, Option.toList_none, List.cons_append, List.nil_append, Option.elim_some, true_or, or_true, or_false, false_or, true_and, and_true, and_false, false_and, zio1, zio0, zio01, not_true_eq_false, not_false_eq_true, nlt, neq, nlt0, n0lt, neq0, neq1, nm9, m9n, nadd, nadd1, nmul, ncl, zin_t, hG, Nat.lt_irrefl]
  | e + 1, k, g, hk, hG, h56, h60 => by
    have q : k < G := by omega
    obtain ⟨g', a1, a2, a4, a3⟩ := kX9_tk_loop g8 (r := r) e (k + 1) (zu g 56 k (r k)) (by omega) (by simpa [zu] using hG) (fun j hj => by simpa [zu] using h56 j hj) (fun j hj => by
      by_cases q2 : j = k
      · subst q2; simp [zu]
      · simp [zu, q2, h60 j (by omega)])
    refine ⟨g', fun a ha => (a1 a ha).trans (by funext q; simp [zu, ha]), a2, fun j hj => (a4 j hj).trans (by
      have : j ≠ k := by omega
      simp [zu, this]), ?_⟩
    have h5 := h56 k q
    rw [sX9_takeHouses_2]
    simp (disch := omega) only [sX9_takeHouses_3, sX9_takeHouses_4, sX9_takeHouses_7, sX9_takeHouses_10, sX9_takeHouses_11, sX9_takeHouses_14, sX9_takeHouses_15, sX9_takeHouses_16, sX9_takeHouses_19, sX9_takeHouses_20, sX9_takeHouses_21, sX9_takeHouses_22, sX9_takeHouses_25, ↓reduceIte, if_true, if_false, Option.bind_some, Option.bind_none, Option.toList_some, Option.toList_none, List.cons_append, List.nil_append, Option.elim_some, true_or, or_true, or_false, false_or, true_and, and_true, and_false, false_and, zio1, zio0, zio01, not_true_eq_false, not_false_eq_true, nlt, neq, nlt0, n0lt, neq0, neq1, nm9, m9n, nadd, nadd1, nmul, ncl, zin_t, hG, q, h5]
    exact a3
theorem kX9_takeHouses {G : Nat} (g8 : G ≤ 8) {r : Nat → Int32} (hG : g 45 13 = nI G) (h60 : ∀ j, j < G → g 60 j = r j) : ∃ g', (∀ a, a ≠ 56 → g' a = g a) ∧ (∀ j, j < G → g' 56 j = r j) ∧ (∀ j, G ≤ j → g' 56 j = g 56 j) ∧ go L xs 135 69 0 [some (.ref 45), none] [] (hp g t) = some (none, hp g' t) := by
  obtain ⟨g', a1, a2, a4, a3⟩ := kX9_tk_loop (L := L) (xs := xs) (t := t) (r := r) g8 G 0 g (by omega) hG h60 (fun j hj => absurd hj (by omega))
  refine ⟨g', a1, a2, a4, ?_⟩
  rw [nI_0] at a3
  simp only [sX9_takeHouses_0, sX9_takeHouses_1]
  exact a3
end M14
