/-! The class: what its cells hold, small methods. -/
theorem nob {o : Nat} (ho : o = 19 ∨ o = 24) : ztag o = 3 ∧ zrf o 0 = some 1 ∧ zrf o 1 = some 10 ∧ zrf o 2 = some (o + 1) ∧ zrf o 3 = some (o + 2) ∧ zrf o 4 = some (o + 3) ∧ zrf o 5 = some (o + 4) ∧ zal (o + 1) = 357 ∧ zal (o + 2) = 7 ∧ zal (o + 3) = 7 ∧ zal (o + 4) = 7 := by
  rcases ho with h | h <;> subst h <;> decide +kernel
theorem hob {h : Nat} (hh : h < 7) : zrf 2 h = some (3 + h) ∧ ztag (3 + h) = 1 := by
  have : ∀ h, h < 7 → zrf 2 h = some (3 + h) ∧ ztag (3 + h) = 1 := by decide +kernel
  exact this h hh
theorem rob {c : Nat} (hc : c = 14 ∨ c = 30 ∨ c = 34) : zal c = 9 := by
  rcases hc with h | h | h <;> subst h <;> decide +kernel
/-- the town of the class -/
def CTn (g : Nat → Nat → Int32) (H S : Nat) (kd bd gv rs dr : Nat → Nat) : Prop := g 1 1 = nI H ∧ H ≤ 7 ∧ g 1 2 = nI S ∧ S ≤ 9 ∧ ∀ h, h < H → (g (3 + h) 0 = nI (kd h) ∧ kd h ≤ 2) ∧ (g (3 + h) 1 = nI (bd h) ∧ 1 ≤ bd h ∧ bd h ≤ 9) ∧ (g (3 + h) 2 = nI (gv h) ∧ 1 ≤ gv h ∧ gv h ≤ 9) ∧ (g (3 + h) 3 = nI (rs h) ∧ rs h ≤ 9) ∧ (g (3 + h) 4 = nI (dr h) ∧ 1 ≤ dr h ∧ dr h ≤ 9)
/-- who sleeps by the row in cell c -/
def CG9 (g : Nat → Nat → Int32) (c H : Nat) (w f l : Nat → Nat) (row : Nat → Int32) : Prop := ∀ k, k < 9 → g c k = row k ∧ (row k = -9 ∨ ((∃ h, h < H ∧ row k = nI h) ∧ g 11 k = nI (w k) ∧ w k ≤ 300 ∧ g 12 k = nI (f k) ∧ g 13 k = nI (l k) ∧ f k ≤ l k ∧ l k ≤ 49))
section C1
variable {L : Nat} {xs : Nat → Int32} {g g' : Nat → Nat → Int32} {t : Nat → Int64}
variable {H S : Nat} {kd bd gv rs dr w f l : Nat → Nat} {row : Nat → Int32} {o c : Nat}
theorem ilt {x : Int32} {n : Nat} (hn : n < 2147483648) (h : 0 ≤ x.toInt) : (x < nI n) = (x.toInt < n) := by
  apply propext
  rw [Int32.lt_iff_toInt_lt, nI_toInt hn]
theorem kX7_has (hT : CTn g H S kd bd gv rs dr) {x : Int32} : go L xs 44 69 0 [some (.ref 1), some (.int x)] [] (hp g t) = some (some (.int (if 0 ≤ x.toInt ∧ x.toInt < H then 1 else 0)), hp g t) := by
  have t1 := hT.1
  have t2 := hT.2.1
  by_cases q : x.toInt < 0
  · have q1 : (x < 0) = True := eq_true (Int32.lt_iff_toInt_lt.mpr (by simpa using q))
    rw [if_neg (by omega)]
    simp only [sX7_has_0, sX7_has_1, sX7_has_4, sX7_has_5, sX7_has_6, sX7_has_9, sX7_has_12, sX7_has_13, sX7_has_16, sX7_has_17, ↓reduceIte, if_true, if_false, Option.bind_some, Option.bind_none, Option.toList_some, Option.toList_none, List.cons_append, List.nil_append, Option.elim_some, true_or, or_true, or_false, false_or, true_and, and_true, and_false, false_and, zio1, zio0, zio01, not_true_eq_false, not_false_eq_true, q1]
  · have q1 := nlt_f q
    have e := ilt (x := x) (n := H) (by omega) (by omega)
    by_cases q2 : x.toInt < H
    · rw [if_pos (by omega)]
      simp only [sX7_has_0, sX7_has_1, sX7_has_4, sX7_has_5, sX7_has_6, sX7_has_9, sX7_has_12, sX7_has_13, sX7_has_16, sX7_has_17, ↓reduceIte, if_true, if_false, Option.bind_some, Option.bind_none, Option.toList_some, Option.toList_none, List.cons_append, List.nil_append, Option.elim_some, true_or, or_true, or_false, false_or, true_and, and_true, and_false, false_and, zio1, zio0, zio01, not_true_eq_false, not_false_eq_true, q1, t1, e, q2]
    · rw [if_neg (by omega)]
      simp only [sX7_has_0, sX7_has_1, sX7_has_4, sX7_has_5, sX7_has_6, sX7_has_9, sX7_has_12, sX7_has_13, sX7_has_16, sX7_has_17, ↓reduceIte, if_true, if_false, Option.bind_some, Option.bind_none, Option.toList_some, Option.toList_none, List.cons_append, List.nil_append, Option.elim_some, true_or, or_true, or_false, false_or, true_and, and_true, and_false, false_and, zio1, zio0, zio01, not_true_eq_false, not_false_eq_true, q1, t1, e, q2]
theorem kX7_hasH (hT : CTn g H S kd bd gv rs dr) {h : Nat} (hh : h < H) : go L xs 44 69 0 [some (.ref 1), some (.int (nI h))] [] (hp g t) = some (some (.int 1), hp g t) := by
  have t2 := hT.2.1
  rw [kX7_has hT, if_pos]
  rw [nI_toInt (by omega)]
  omega
theorem kX7_hasN (hT : CTn g H S kd bd gv rs dr) : go L xs 44 69 0 [some (.ref 1), some (.int (-9))] [] (hp g t) = some (some (.int 0), hp g t) := by
  rw [kX7_has hT, if_neg]
  have : (-9 : Int32).toInt = -9 := by decide
  omega
theorem kX0_isThere {k a b n : Nat} (hk : k < 9) (hf : g 12 k = nI a) (hl : g 13 k = nI b) (ha : a < 1000) (hb : b < 1000) (hn : n < 1000) : go L xs 4 69 0 [some (.ref 10), some (.int (nI k)), some (.int (nI n))] [] (hp g t) = some (some (.int (if a ≤ n ∧ n ≤ b then 1 else 0)), hp g t) := by
  by_cases q1 : n < a
  · rw [if_neg (by omega)]
    simp (disch := omega) only [sX0_isThere_0, sX0_isThere_1, sX0_isThere_4, sX0_isThere_5, sX0_isThere_6, sX0_isThere_7, sX0_isThere_10, sX0_isThere_11, sX0_isThere_12, sX0_isThere_15, sX0_isThere_16, sX0_isThere_17, sX0_isThere_20, sX0_isThere_21, sX0_isThere_24, sX0_isThere_25, ↓reduceIte, if_true, if_false, Option.bind_some, Option.bind_none, Option.toList_some, Option.toList_none, List.cons_append, List.nil_append, Option.elim_some, true_or, or_true, or_false, false_or, true_and, and_true, and_false, false_and, zio1, zio0, zio01, not_true_eq_false, not_false_eq_true, nlt, neq, nlt0, n0lt, neq0, neq1, nm9, m9n, nadd, nadd1, nmul, ncl, zin_t, hf, hl, q1]
  · by_cases q2 : b < n
    · rw [if_neg (by omega)]
      simp (disch := omega) only [sX0_isThere_0, sX0_isThere_1, sX0_isThere_4, sX0_isThere_5, sX0_isThere_6, sX0_isThere_7, sX0_isThere_10, sX0_isThere_11, sX0_isThere_12, sX0_isThere_15, sX0_isThere_16, sX0_isThere_17, sX0_isThere_20, sX0_isThere_21, sX0_isThere_24, sX0_isThere_25, ↓reduceIte, if_true, if_false, Option.bind_some, Option.bind_none, Option.toList_some, Option.toList_none, List.cons_append, List.nil_append, Option.elim_some, true_or, or_true, or_false, false_or, true_and, and_true, and_false, false_and, zio1, zio0, zio01, not_true_eq_false, not_false_eq_true, nlt, neq, nlt0, n0lt, neq0, neq1, nm9, m9n, nadd, nadd1, nmul, ncl, zin_t, hf, hl, q1, q2]
    · rw [if_pos (by omega)]
      simp (disch := omega) only [sX0_isThere_0, sX0_isThere_1, sX0_isThere_4, sX0_isThere_5, sX0_isThere_6, sX0_isThere_7, sX0_isThere_10, sX0_isThere_11, sX0_isThere_12, sX0_isThere_15, sX0_isThere_16, sX0_isThere_17, sX0_isThere_20, sX0_isThere_21, sX0_isThere_24, sX0_isThere_25, ↓reduceIte, if_true, if_false, Option.bind_some, Option.bind_none, Option.toList_some, Option.toList_none, List.cons_append, List.nil_append, Option.elim_some, true_or, or_true, or_false, false_or, true_and, and_true, and_false, false_and, zio1, zio0, zio01, not_true_eq_false, not_false_eq_true, nlt, neq, nlt0, n0lt, neq0, neq1, nm9, m9n, nadd, nadd1, nmul, ncl, zin_t, hf, hl, q1, q2]
theorem kX1_pressedBy {h W : Nat} {b : Int32} (hT : CTn g H S kd bd gv rs dr) (hh : h < H) (hW : W ≤ 3000) : go L xs 8 69 0 [some (.ref (3 + h)), some (.int (nI W)), some (.int b), none] [] (hp g t) = some (some (.int (nI (if b = 0 then W * gv h else W * gv h / 2))), hp g t) := by
  obtain ⟨-, -, ⟨v1, v2, v3⟩, -⟩ := hT.2.2.2.2 h hh
  have h7 := hT.2.1
  have hz := (hob (h := h) (by omega)).2
  have hm : W * gv h ≤ 27000 := Nat.le_trans (Nat.mul_le_mul hW v3) (by omega)
  by_cases q : b = 0
  · rw [if_pos q]
    simp (disch := omega) only [sX1_pressedBy_0, sX1_pressedBy_1, sX1_pressedBy_2, sX1_pressedBy_5, sX1_pressedBy_6, sX1_pressedBy_7, sX1_pressedBy_8, sX1_pressedBy_11, sX1_pressedBy_12, sX1_pressedBy_13, sX1_pressedBy_14, sX1_pressedBy_17, sX1_pressedBy_18, ↓reduceIte, if_true, if_false, Option.bind_some, Option.bind_none, Option.toList_some, Option.toList_none, List.cons_append, List.nil_append, Option.elim_some, true_or, or_true, or_false, false_or, true_and, and_true, and_false, false_and, zio1, zio0, zio01, not_true_eq_false, not_false_eq_true, nlt, neq, nlt0, n0lt, neq0, neq1, nm9, m9n, nadd, nadd1, nmul, ncl, zin_t, hz, v1, q]
  · rw [if_neg q]
    simp (disch := omega) only [sX1_pressedBy_0, sX1_pressedBy_1, sX1_pressedBy_2, sX1_pressedBy_5, sX1_pressedBy_6, sX1_pressedBy_7, sX1_pressedBy_8, sX1_pressedBy_11, sX1_pressedBy_12, sX1_pressedBy_13, sX1_pressedBy_14, sX1_pressedBy_17, sX1_pressedBy_18, ↓reduceIte, if_true, if_false, Option.bind_some, Option.bind_none, Option.toList_some, Option.toList_none, List.cons_append, List.nil_append, Option.elim_some, true_or, or_true, or_false, false_or, true_and, and_true, and_false, false_and, zio1, zio0, zio01, not_true_eq_false, not_false_eq_true, nlt, neq, nlt0, n0lt, neq0, neq1, nm9, m9n, nadd, nadd1, nmul, ncl, zin_t, hz, v1, q, ndiv2]
theorem kX1_comesUp {h : Nat} {a b : Int32} (hT : CTn g H S kd bd gv rs dr) (hh : h < H) : go L xs 9 69 0 [some (.ref (3 + h)), some (.int a), some (.int b)] [] (hp g t) = some (some (.int (nI (if a = 0 then 10 * rs h else if b = 0 ∧ kd h = 0 then 0 else 5 * rs h))), hp g t) := by
  obtain ⟨⟨k1, k2⟩, -, -, ⟨r1, r2⟩, -⟩ := hT.2.2.2.2 h hh
  have h7 := hT.2.1
  have hz := (hob (h := h) (by omega)).2
  have l1 : (1 : Int32) = nI 1 := by decide
  have hk : (nI (kd h) < 1) = (kd h = 0) := by
    rw [l1, nlt (by omega) (by omega)]
    apply propext; omega
  by_cases q : a = 0
  · rw [if_pos q]
    simp (disch := omega) only [sX1_comesUp_0, sX1_comesUp_1, sX1_comesUp_4, sX1_comesUp_6, sX1_comesUp_7, sX1_comesUp_10, sX1_comesUp_11, sX1_comesUp_12, sX1_comesUp_13, sX1_comesUp_16, sX1_comesUp_17, sX1_comesUp_20, sX1_comesUp_21, sX1_comesUp_24, sX1_comesUp_25, sX1_comesUp_26, sX1_comesUp_29, sX1_comesUp_30, sX1_comesUp_33, sX1_comesUp_34, ↓reduceIte, if_true, if_false, Option.bind_some, Option.bind_none, Option.toList_some, Option.toList_none, List.cons_append, List.nil_append, Option.elim_some, true_or, or_true, or_false, false_or, true_and, and_true, and_false, false_and, zio1, zio0, zio01, not_true_eq_false, not_false_eq_true, nlt, neq, nlt0, n0lt, neq0, neq1, nm9, m9n, nadd, nadd1, nmul, ncl, zin_t, hz, r1, q, li10]
  · rw [if_neg q]
    by_cases q2 : b = 0
    · by_cases q3 : kd h = 0
      · rw [if_pos ⟨q2, q3⟩]
        simp (disch := omega) only [sX1_comesUp_0, sX1_comesUp_1, sX1_comesUp_4, sX1_comesUp_6, sX1_comesUp_7, sX1_comesUp_10, sX1_comesUp_11, sX1_comesUp_12, sX1_comesUp_13, sX1_comesUp_16, sX1_comesUp_17, sX1_comesUp_20, sX1_comesUp_21, sX1_comesUp_24, sX1_comesUp_25, sX1_comesUp_26, sX1_comesUp_29, sX1_comesUp_30, sX1_comesUp_33, sX1_comesUp_34, ↓reduceIte, if_true, if_false, Option.bind_some, Option.bind_none, Option.toList_some, Option.toList_none, List.cons_append, List.nil_append, Option.elim_some, true_or, or_true, or_false, false_or, true_and, and_true, and_false, false_and, zio1, zio0, zio01, not_true_eq_false, not_false_eq_true, hz, r1, q, q2, k1, hk, eq_true q3, nI_0]
      · rw [if_neg (fun z => q3 z.2)]
        simp (disch := omega) only [sX1_comesUp_0, sX1_comesUp_1, sX1_comesUp_4, sX1_comesUp_6, sX1_comesUp_7, sX1_comesUp_10, sX1_comesUp_11, sX1_comesUp_12, sX1_comesUp_13, sX1_comesUp_16, sX1_comesUp_17, sX1_comesUp_20, sX1_comesUp_21, sX1_comesUp_24, sX1_comesUp_25, sX1_comesUp_26, sX1_comesUp_29, sX1_comesUp_30, sX1_comesUp_33, sX1_comesUp_34, ↓reduceIte, if_true, if_false, Option.bind_some, Option.bind_none, Option.toList_some, Option.toList_none, List.cons_append, List.nil_append, Option.elim_some, true_or, or_true, or_false, false_or, true_and, and_true, and_false, false_and, zio1, zio0, zio01, not_true_eq_false, not_false_eq_true, hz, r1, q, q2, k1, hk, q3, li5, nmul]
    · rw [if_neg (fun z => q2 z.1)]
      simp (disch := omega) only [sX1_comesUp_0, sX1_comesUp_1, sX1_comesUp_4, sX1_comesUp_6, sX1_comesUp_7, sX1_comesUp_10, sX1_comesUp_11, sX1_comesUp_12, sX1_comesUp_13, sX1_comesUp_16, sX1_comesUp_17, sX1_comesUp_20, sX1_comesUp_21, sX1_comesUp_24, sX1_comesUp_25, sX1_comesUp_26, sX1_comesUp_29, sX1_comesUp_30, sX1_comesUp_33, sX1_comesUp_34, ↓reduceIte, if_true, if_false, Option.bind_some, Option.bind_none, Option.toList_some, Option.toList_none, List.cons_append, List.nil_append, Option.elim_some, true_or, or_true, or_false, false_or, true_and, and_true, and_false, false_and, zio1, zio0, zio01, not_true_eq_false, not_false_eq_true, nlt, neq, nlt0, n0lt, neq0, neq1, nm9, m9n, nadd, nadd1, nmul, ncl, zin_t, hz, r1, q, q2, li5]
/-- what the nights leave as it was -/
def nf (o : Nat) (g g' : Nat → Nat → Int32) : Prop := ∀ a, (a < o + 1 ∨ o + 4 < a) → g' a = g a
theorem nf.rf : nf o g g := fun _ _ => rfl
theorem nf.tr {g1 g2 g3 : Nat → Nat → Int32} (h : nf o g1 g2) (h' : nf o g2 g3) : nf o g1 g3 := fun a ha => (h' a ha).trans (h a ha)
theorem nf_zu {j q : Nat} (hj : o + 1 ≤ j ∧ j ≤ o + 4) (v : Int32) : nf o g (zu g j q v) := fun a ha => by
  have : a ≠ j := by omega
  funext p; simp [zu, this]
theorem nf.town (ho : o = 19 ∨ o = 24) (h : nf o g g') (hT : CTn g H S kd bd gv rs dr) : CTn g' H S kd bd gv rs dr := by
  have h7 := hT.2.1
  refine ⟨(by rw [h 1 (by omega)]; exact hT.1), h7, (by rw [h 1 (by omega)]; exact hT.2.2.1), hT.2.2.2.1, fun q hq => ?_⟩
  rw [h (3 + q) (by omega)]
  exact hT.2.2.2.2 q hq
theorem nf.g9 (ho : o = 19 ∨ o = 24) (hc : c = 14 ∨ c = 30 ∨ c = 34) (h : nf o g g') (hG : CG9 g c H w f l row) : CG9 g' c H w f l row := by
  intro k hk
  rw [h c (by omega), h 11 (by omega), h 12 (by omega), h 13 (by omega)]
  exact hG k hk
end C1
