/-! The class: sheets. -/
theorem shb {q : Nat} (hq : q < 4) : zrf 36 q = some (37 + 2 * q) ∧ ztag (37 + 2 * q) = 6 ∧ zrf (37 + 2 * q) 0 = some (38 + 2 * q) ∧ zal (38 + 2 * q) = 60 := by
  have : ∀ q, q < 4 → zrf 36 q = some (37 + 2 * q) ∧ ztag (37 + 2 * q) = 6 ∧ zrf (37 + 2 * q) 0 = some (38 + 2 * q) ∧ zal (38 + 2 * q) = 60 := by decide +kernel
  exact this q hq
/-- the sheets of the class -/
def CSh (g : Nat → Nat → Int32) (hs : Nat → Bool) (sz ln : Nat → Nat) (ce : Nat → Nat → Int32) : Prop := ∀ q, q < 4 → (hs q = false ∧ g (37 + 2 * q) 1 = 0) ∨ (hs q = true ∧ g (37 + 2 * q) 1 = 1 ∧ g (37 + 2 * q) 3 = nI (sz q) ∧ sz q ≤ 60 ∧ g (37 + 2 * q) 2 = nI (ln q) ∧ ln q ≤ 2 ∧ ∀ i, i < sz q → g (38 + 2 * q) i = ce q i)
section C13
variable {L : Nat} {xs : Nat → Int32} {g g' : Nat → Nat → Int32} {t : Nat → Int64}
variable {hs : Nat → Bool} {sz ln : Nat → Nat} {ce : Nat → Nat → Int32}
theorem CSh.tr (hM : CSh g hs sz ln ce) (h : ∀ a, 37 ≤ a → a ≤ 44 → g' a = g a) : CSh g' hs sz ln ce := by
  intro q hq
  rw [h (37 + 2 * q) (by omega) (by omega), h (38 + 2 * q) (by omega) (by omega)]
  exact hM q hq
theorem zu_o {j : Nat} {v : Int32} {c a : Nat} (h : a ≠ c) : zu g c j v a = g a := by
  funext p; simp only [zuA, h, if_false]
theorem CSh.c0 (hM : CSh g hs sz ln ce) {v : Int32} : CSh (zu g 0 10 v) hs sz ln ce := hM.tr (fun a _ _ => zu_o (by omega))
theorem pX8_lose (hM : CSh g hs sz ln ce) {x : Int32} : go L xs 69 69 0 [some (.ref 0), some (.int x), none] [] (hp g t) = (if 0 ≤ x.toInt ∧ x.toInt ≤ 3 then some (some (.int (if hs x.toInt.toNat = true then 1 else 0)), hp (zu g (37 + 2 * x.toInt.toNat) 1 0) t) else some (some (.int (-1)), hp g t)) := by
  have h1 := kX8_isSheet (L := L) (xs := xs) (g := g) (t := t) (x := x)
  by_cases q1 : 0 ≤ x.toInt ∧ x.toInt ≤ 3
  · rw [if_pos q1] at h1 ⊢
    have hx := nI_back q1.1
    generalize hk : x.toInt.toNat = k at hx
    subst hx
    obtain ⟨o1, o2, o3, o4⟩ := shb (q := k) (by omega)
    rcases hM k (by omega) with ⟨a1, a2⟩ | ⟨a1, a2, -⟩
    · simp (disch := omega) only [sX8_lose_0, sX8_lose_1, sX8_lose_4, sX8_lose_7, sX8_lose_8, sX8_lose_9, sX8_lose_10, sX8_lose_13, sX8_lose_14, sX8_lose_15, sX8_lose_18, sX8_lose_21, sX8_lose_22, sX8_lose_25, sX8_lose_26, sX8_lose_27, sX8_lose_28, sX8_lose_31, sX8_lose_32, sX8_lose_33, sX8_lose_34, sX8_lose_37, sX8_lose_38, ↓reduceIte, if_true, if_false, Option.bind_some, Option.bind_none, Option.toList_some, Option.toList_none, List.cons_append, List.nil_append, Option.elim_some, true_or, or_true, or_false, false_or, true_and, and_true, and_false, false_and, zio1, zio0, zio01, not_true_eq_false, not_false_eq_true, nlt, neq, nlt0, n0lt, neq0, neq1, nm9, m9n, nadd, nadd1, nmul, ncl, zin_t, h1, o1, o2, a2, a1, Bool.false_eq_true, zbo0]
    · simp (disch := omega) only [sX8_lose_0, sX8_lose_1, sX8_lose_4, sX8_lose_7, sX8_lose_8, sX8_lose_9, sX8_lose_10, sX8_lose_13, sX8_lose_14, sX8_lose_15, sX8_lose_18, sX8_lose_21, sX8_lose_22, sX8_lose_25, sX8_lose_26, sX8_lose_27, sX8_lose_28, sX8_lose_31, sX8_lose_32, sX8_lose_33, sX8_lose_34, sX8_lose_37, sX8_lose_38, ↓reduceIte, if_true, if_false, Option.bind_some, Option.bind_none, Option.toList_some, Option.toList_none, List.cons_append, List.nil_append, Option.elim_some, true_or, or_true, or_false, false_or, true_and, and_true, and_false, false_and, zio1, zio0, zio01, not_true_eq_false, not_false_eq_true, nlt, neq, nlt0, n0lt, neq0, neq1, nm9, m9n, nadd, nadd1, nmul, ncl, zin_t, h1, o1, o2, a2, a1, zbo0]
  · rw [if_neg q1] at h1 ⊢
    simp only [sX8_lose_0, sX8_lose_1, sX8_lose_4, sX8_lose_7, sX8_lose_8, sX8_lose_9, sX8_lose_10, sX8_lose_13, sX8_lose_14, sX8_lose_15, sX8_lose_18, sX8_lose_21, sX8_lose_22, sX8_lose_25, sX8_lose_26, sX8_lose_27, sX8_lose_28, sX8_lose_31, sX8_lose_32, sX8_lose_33, sX8_lose_34, sX8_lose_37, sX8_lose_38, ↓reduceIte, if_true, if_false, Option.bind_some, Option.bind_none, Option.toList_some, Option.toList_none, List.cons_append, List.nil_append, Option.elim_some, true_or, or_true, or_false, false_or, true_and, and_true, and_false, false_and, zio1, zio0, zio01, not_true_eq_false, not_false_eq_true, h1]
theorem kX6_cut {k : Nat} (hk : k < 4) {m : Nat} (hm : m ≤ 2) (h : g (37 + 2 * k) 2 = nI m) {v : Int32} : go L xs 42 69 0 [some (.ref (37 + 2 * k)), some (.int v)] [] (hp g t) = some (some (.int (cutv m v)), hp g t) := by
  obtain ⟨o1, o2, o3, o4⟩ := shb hk
  have n1 : nI 1 = 1 := by decide
  rcases (show m = 0 ∨ m = 1 ∨ m = 2 by omega) with q | q | q
  · subst q
    simp (disch := omega) only [sX6_cut_0, sX6_cut_1, sX6_cut_4_c0, sX6_cut_4_c1, sX6_cut_32, sX6_cut_33, sX6_cut_34, sX6_cut_35, sX6_cut_36, sX6_cut_37, sX6_cut_38, sX6_cut_39, ↓reduceIte, if_true, if_false, Option.bind_some, Option.bind_none, Option.toList_some, Option.toList_none, List.cons_append, List.nil_append, Option.elim_some, true_or, or_true, or_false, false_or, true_and, and_true, and_false, false_and, zio1, zio0, zio01, not_true_eq_false, not_false_eq_true, o2, h, nI_0, cutv]
  · subst q
    simp (disch := omega) only [sX6_cut_0, sX6_cut_1, sX6_cut_4_c0, sX6_cut_4_c1, sX6_cut_32, sX6_cut_33, sX6_cut_34, sX6_cut_35, sX6_cut_36, sX6_cut_37, sX6_cut_38, sX6_cut_39, ↓reduceIte, if_true, if_false, Option.bind_some, Option.bind_none, Option.toList_some, Option.toList_none, List.cons_append, List.nil_append, Option.elim_some, true_or, or_true, or_false, false_or, true_and, and_true, and_false, false_and, zio1, zio0, zio01, not_true_eq_false, not_false_eq_true, o2, h, n1, cutv, Nat.reduceEqDiff]
  · subst q
    have hx : zSw (.lookupswitch 34 #[(0, 28), (1, 31)]) (nI 2) = some 34 := by decide
    simp (disch := omega) only [sX6_cut_0, sX6_cut_1, sX6_cut_4_c0, sX6_cut_4_c1, sX6_cut_32, sX6_cut_33, sX6_cut_34, sX6_cut_35, sX6_cut_36, sX6_cut_37, sX6_cut_38, sX6_cut_39, sX6_cut_4_d hx, ↓reduceIte, if_true, if_false, Option.bind_some, Option.bind_none, Option.toList_some, Option.toList_none, List.cons_append, List.nil_append, Option.elim_some, true_or, or_true, or_false, false_or, true_and, and_true, and_false, false_and, zio1, zio0, zio01, not_true_eq_false, not_false_eq_true, o2, h, cutv, Nat.reduceEqDiff]
theorem f11 : (-10 : Int32) - 1 = -11 := by decide
theorem f12 : (-10 : Int32) - 2 = -12 := by decide
theorem f13 : (-10 : Int32) - 3 = -13 := by decide
theorem f14 : (-10 : Int32) - 4 = -14 := by decide
theorem kX8_inS {z : Nat} (hz : z ≤ 60) {x : Int32} : go L xs 79 69 0 [some (.int x), some (.int 0), some (.int (nI z - 1))] [] (hp g t) = some (some (.int (if 0 ≤ x.toInt ∧ x.toInt < z then 1 else 0)), hp g t) := by
  have hb : (nI z - 1).toInt = (z : Int) - 1 := by
    have : ∀ j, j ≤ 60 → (nI j - 1).toInt = (j : Int) - 1 := by decide +kernel
    exact this _ hz
  rw [kX8_in (lo := 0) (hi := (z : Int) - 1) (by decide) hb]
  by_cases q : 0 ≤ x.toInt ∧ x.toInt < z
  · rw [if_pos q, if_pos (by omega)]
  · rw [if_neg q, if_neg (by omega)]
theorem pX8_put (hM : CSh g hs sz ln ce) {x y v : Int32} : go L xs 70 69 0 [some (.ref 0), some (.int x), some (.int y), some (.int v), none] [] (hp g t) = (if 0 ≤ x.toInt ∧ x.toInt ≤ 3 then (if hs x.toInt.toNat = false then some (some (.int (-11)), hp (zu g 0 10 1) t) else if 0 ≤ y.toInt ∧ y.toInt < sz x.toInt.toNat then some (some (.int 1), hp (zu (zu g 0 10 0) (38 + 2 * x.toInt.toNat) y.toInt.toNat (cutv (ln x.toInt.toNat) v)) t) else some (some (.int (-13)), hp (zu g 0 10 3) t)) else some (some (.int (-1)), hp (zu g 0 10 0) t)) := by
  have h1 := kX8_isSheet (L := L) (xs := xs) (g := zu g 0 10 0) (t := t) (x := x)
  by_cases q1 : 0 ≤ x.toInt ∧ x.toInt ≤ 3
  · rw [if_pos q1] at h1 ⊢
    have hx := nI_back q1.1
    generalize hk : x.toInt.toNat = k at hx
    subst hx
    obtain ⟨o1, o2, o3, o4⟩ := shb (q := k) (by omega)
    rcases hM.c0 (v := 0) k (by omega) with ⟨a1, a2⟩ | ⟨a1, a2, a3, a4, a5, a6, -⟩
    · rw [if_pos a1]
      simp (disch := omega) only [sX8_put_0, sX8_put_1, sX8_put_2, sX8_put_5, sX8_put_6, sX8_put_9, sX8_put_12, sX8_put_13, sX8_put_14, sX8_put_15, sX8_put_18, sX8_put_19, sX8_put_20, sX8_put_22, sX8_put_24, sX8_put_27, sX8_put_30, sX8_put_31, sX8_put_32, sX8_put_35, sX8_put_36, sX8_put_37, sX8_put_38, sX8_put_40, sX8_put_43, sX8_put_44, sX8_put_45, sX8_put_48, sX8_put_51, sX8_put_52, sX8_put_53, sX8_put_56, sX8_put_57, sX8_put_59, sX8_put_62, sX8_put_63, sX8_put_65, sX8_put_66, sX8_put_69, sX8_put_70, sX8_put_71, ↓reduceIte, if_true, if_false, Option.bind_some, Option.bind_none, Option.toList_some, Option.toList_none, List.cons_append, List.nil_append, Option.elim_some, true_or, or_true, or_false, false_or, true_and, and_true, and_false, false_and, zio1, zio0, zio01, not_true_eq_false, not_false_eq_true, nlt, neq, nlt0, n0lt, neq0, neq1, nm9, m9n, nadd, nadd1, nmul, ncl, zin_t, h1, o1, o2, a2, kX8_failed, zuzu, f11]
    · have e : ¬ hs k = false := by simp [a1]
      rw [if_neg e]
      have h2 := kX8_inS (L := L) (xs := xs) (g := zu g 0 10 0) (t := t) (x := y) a4
      by_cases q2 : 0 ≤ y.toInt ∧ y.toInt < sz k
      · rw [if_pos q2] at h2 ⊢
        have hy := nI_back q2.1
        generalize hm : y.toInt.toNat = m at hy
        subst hy
        have := nI_toInt (n := m) (by omega)
        have hc := kX6_cut (L := L) (xs := xs) (t := t) (v := v) (show k < 4 by omega) a6 a5
        simp (disch := omega) only [sX8_put_0, sX8_put_1, sX8_put_2, sX8_put_5, sX8_put_6, sX8_put_9, sX8_put_12, sX8_put_13, sX8_put_14, sX8_put_15, sX8_put_18, sX8_put_19, sX8_put_20, sX8_put_22, sX8_put_24, sX8_put_27, sX8_put_30, sX8_put_31, sX8_put_32, sX8_put_35, sX8_put_36, sX8_put_37, sX8_put_38, sX8_put_40, sX8_put_43, sX8_put_44, sX8_put_45, sX8_put_48, sX8_put_51, sX8_put_52, sX8_put_53, sX8_put_56, sX8_put_57, sX8_put_59, sX8_put_62, sX8_put_63, sX8_put_65, sX8_put_69, sX8_put_70, sX8_put_71, sX8_put_66 o2, ↓reduceIte, if_true, if_false, Option.bind_some, Option.bind_none, Option.toList_some, Option.toList_none, List.cons_append, List.nil_append, Option.elim_some, true_or, or_true, or_false, false_or, true_and, and_true, and_false, false_and, zio1, zio0, zio01, not_true_eq_false, not_false_eq_true, nlt, neq, nlt0, n0lt, neq0, neq1, nm9, m9n, nadd, nadd1, nmul, ncl, zin_t, h1, o1, o2, o3, o4, a2, a3, h2, hc]
      · rw [if_neg q2] at h2 ⊢
        simp (disch := omega) only [sX8_put_0, sX8_put_1, sX8_put_2, sX8_put_5, sX8_put_6, sX8_put_9, sX8_put_12, sX8_put_13, sX8_put_14, sX8_put_15, sX8_put_18, sX8_put_19, sX8_put_20, sX8_put_22, sX8_put_24, sX8_put_27, sX8_put_30, sX8_put_31, sX8_put_32, sX8_put_35, sX8_put_36, sX8_put_37, sX8_put_38, sX8_put_40, sX8_put_43, sX8_put_44, sX8_put_45, sX8_put_48, sX8_put_51, sX8_put_52, sX8_put_53, sX8_put_56, sX8_put_57, sX8_put_59, sX8_put_62, sX8_put_63, sX8_put_65, sX8_put_69, sX8_put_70, sX8_put_71, ↓reduceIte, if_true, if_false, Option.bind_some, Option.bind_none, Option.toList_some, Option.toList_none, List.cons_append, List.nil_append, Option.elim_some, true_or, or_true, or_false, false_or, true_and, and_true, and_false, false_and, zio1, zio0, zio01, not_true_eq_false, not_false_eq_true, nlt, neq, nlt0, n0lt, neq0, neq1, nm9, m9n, nadd, nadd1, nmul, ncl, zin_t, h1, o1, o2, a2, a3, h2, kX8_failed, zuzu, f13]
  · rw [if_neg q1] at h1 ⊢
    simp only [sX8_put_0, sX8_put_1, sX8_put_2, sX8_put_5, sX8_put_6, sX8_put_9, sX8_put_12, sX8_put_13, sX8_put_14, sX8_put_15, sX8_put_18, sX8_put_19, sX8_put_20, sX8_put_22, sX8_put_24, sX8_put_27, sX8_put_30, sX8_put_31, sX8_put_32, sX8_put_35, sX8_put_36, sX8_put_37, sX8_put_38, sX8_put_40, sX8_put_43, sX8_put_44, sX8_put_45, sX8_put_48, sX8_put_51, sX8_put_52, sX8_put_53, sX8_put_56, sX8_put_57, sX8_put_59, sX8_put_62, sX8_put_63, sX8_put_65, sX8_put_66, sX8_put_69, sX8_put_70, sX8_put_71, ↓reduceIte, if_true, if_false, Option.bind_some, Option.bind_none, Option.toList_some, Option.toList_none, List.cons_append, List.nil_append, Option.elim_some, true_or, or_true, or_false, false_or, true_and, and_true, and_false, false_and, zio1, zio0, zio01, not_true_eq_false, not_false_eq_true, h1]
theorem kX6_isOfAnotherLane {k : Nat} (hk : k < 4) (hM : CSh g hs sz ln ce) {x : Int32} : go L xs 40 69 0 [some (.ref (37 + 2 * k)), some (.int x)] [] (hp g t) = some (some (.int (if hs k = true ∧ ¬ (ln k : Int) = x.toInt then 1 else 0)), hp g t) := by
  obtain ⟨o1, o2, o3, o4⟩ := shb hk
  rcases hM k hk with ⟨a1, a2⟩ | ⟨a1, a2, a3, a4, a5, a6, -⟩
  · rw [if_neg (by rw [a1]; simp)]
    simp (disch := omega) only [sX6_isOfAnotherLane_0, sX6_isOfAnotherLane_1, sX6_isOfAnotherLane_4, sX6_isOfAnotherLane_7, sX6_isOfAnotherLane_8, sX6_isOfAnotherLane_11, sX6_isOfAnotherLane_12, sX6_isOfAnotherLane_15, sX6_isOfAnotherLane_16, sX6_isOfAnotherLane_19, sX6_isOfAnotherLane_20, ↓reduceIte, if_true, if_false, Option.bind_some, Option.bind_none, Option.toList_some, Option.toList_none, List.cons_append, List.nil_append, Option.elim_some, true_or, or_true, or_false, false_or, true_and, and_true, and_false, false_and, zio1, zio0, zio01, not_true_eq_false, not_false_eq_true, o2, a2]
  · have hl := nI_toInt (n := ln k) (by omega)
    by_cases q : (ln k : Int) = x.toInt
    · rw [if_neg (fun z => z.2 q)]
      have hx : nI (ln k) = x := tI_eq (by rw [hl]; exact q)
      simp (disch := omega) only [sX6_isOfAnotherLane_0, sX6_isOfAnotherLane_1, sX6_isOfAnotherLane_4, sX6_isOfAnotherLane_7, sX6_isOfAnotherLane_8, sX6_isOfAnotherLane_11, sX6_isOfAnotherLane_12, sX6_isOfAnotherLane_15, sX6_isOfAnotherLane_16, sX6_isOfAnotherLane_19, sX6_isOfAnotherLane_20, ↓reduceIte, if_true, if_false, Option.bind_some, Option.bind_none, Option.toList_some, Option.toList_none, List.cons_append, List.nil_append, Option.elim_some, true_or, or_true, or_false, false_or, true_and, and_true, and_false, false_and, zio1, zio0, zio01, not_true_eq_false, not_false_eq_true, o2, a2, a5, eq_true hx]
    · rw [if_pos ⟨a1, q⟩]
      have hx : ¬ nI (ln k) = x := fun z => q (by rw [← z, hl])
      simp (disch := omega) only [sX6_isOfAnotherLane_0, sX6_isOfAnotherLane_1, sX6_isOfAnotherLane_4, sX6_isOfAnotherLane_7, sX6_isOfAnotherLane_8, sX6_isOfAnotherLane_11, sX6_isOfAnotherLane_12, sX6_isOfAnotherLane_15, sX6_isOfAnotherLane_16, sX6_isOfAnotherLane_19, sX6_isOfAnotherLane_20, ↓reduceIte, if_true, if_false, Option.bind_some, Option.bind_none, Option.toList_some, Option.toList_none, List.cons_append, List.nil_append, Option.elim_some, true_or, or_true, or_false, false_or, true_and, and_true, and_false, false_and, zio1, zio0, zio01, not_true_eq_false, not_false_eq_true, o2, a2, a5, eq_false hx]
theorem pX8_cell (hM : CSh g hs sz ln ce) {x y z : Int32} : go L xs 71 69 0 [some (.ref 0), some (.int x), some (.int y), some (.int z), none] [] (hp g t) = (if (0 ≤ x.toInt ∧ x.toInt ≤ 3) ∧ (0 ≤ z.toInt ∧ z.toInt ≤ 2) then (if hs x.toInt.toNat = false then some (some (.long (-9223372036854775808)), hp (zu g 0 10 1) t) else if ¬ (ln x.toInt.toNat : Int) = z.toInt then some (some (.long (-9223372036854775808)), hp (zu g 0 10 2) t) else if 0 ≤ y.toInt ∧ y.toInt < sz x.toInt.toNat then some (some (.long (ce x.toInt.toNat y.toInt.toNat).toInt64), hp (zu g 0 10 0) t) else some (some (.long (-9223372036854775808)), hp (zu g 0 10 3) t)) else some (some (.long (-9223372036854775808)), hp (zu g 0 10 0) t)) := by
  have h1 := kX8_isSheet (L := L) (xs := xs) (g := zu g 0 10 0) (t := t) (x := x)
  have h2 := kX8_isLane (L := L) (xs := xs) (g := zu g 0 10 0) (t := t) (x := z)
  by_cases q1 : 0 ≤ x.toInt ∧ x.toInt ≤ 3
  · rw [if_pos q1] at h1
    by_cases q2 : 0 ≤ z.toInt ∧ z.toInt ≤ 2
    · rw [if_pos q2] at h2
      rw [if_pos ⟨q1, q2⟩]
      have hx := nI_back q1.1
      generalize hk : x.toInt.toNat = k at hx
      subst hx
      obtain ⟨o1, o2, o3, o4⟩ := shb (q := k) (by omega)
      have h3 := kX6_isOfAnotherLane (L := L) (xs := xs) (t := t) (x := z) (show k < 4 by omega) (hM.c0 (v := 0))
      rcases hM.c0 (v := 0) k (by omega) with ⟨a1, a2⟩ | ⟨a1, a2, a3, a4, a5, a6, a7⟩
      · rw [if_neg (by rw [a1]; simp)] at h3
        rw [if_pos a1]
        simp (disch := omega) only [sX8_cell_0, sX8_cell_1, sX8_cell_2, sX8_cell_5, sX8_cell_6, sX8_cell_9, sX8_cell_12, sX8_cell_13, sX8_cell_16, sX8_cell_19, sX8_cell_22, sX8_cell_23, sX8_cell_24, sX8_cell_27, sX8_cell_28, sX8_cell_29, sX8_cell_31, sX8_cell_33, sX8_cell_37, sX8_cell_40, sX8_cell_41, sX8_cell_42, sX8_cell_45, sX8_cell_48, sX8_cell_49, sX8_cell_51, sX8_cell_54, sX8_cell_57, sX8_cell_58, sX8_cell_59, sX8_cell_62, sX8_cell_65, sX8_cell_66, sX8_cell_67, sX8_cell_68, sX8_cell_70, sX8_cell_73, sX8_cell_74, sX8_cell_75, sX8_cell_78, sX8_cell_81, sX8_cell_82, sX8_cell_83, sX8_cell_86, sX8_cell_89, sX8_cell_90, sX8_cell_92, sX8_cell_95, sX8_cell_96, sX8_cell_97, sX8_cell_98, sX8_cell_34 o2, ↓reduceIte, if_true, if_false, Option.bind_some, Option.bind_none, Option.toList_some, Option.toList_none, List.cons_append, List.nil_append, Option.elim_some, true_or, or_true, or_false, false_or, true_and, and_true, and_false, false_and, zio1, zio0, zio01, not_true_eq_false, not_false_eq_true, nlt, neq, nlt0, n0lt, neq0, neq1, nm9, m9n, nadd, nadd1, nmul, ncl, zin_t, h1, h2, o1, o2, h3, a2, zuzu]
      · have e : ¬ hs k = false := by simp [a1]
        rw [if_neg e]
        by_cases q3 : (ln k : Int) = z.toInt
        · rw [if_neg (fun z => z.2 q3)] at h3
          rw [if_neg (fun z => z q3)]
          have h4 := kX8_inS (L := L) (xs := xs) (g := zu g 0 10 0) (t := t) (x := y) a4
          by_cases q4 : 0 ≤ y.toInt ∧ y.toInt < sz k
          · rw [if_pos q4] at h4 ⊢
            have hy := nI_back q4.1
            generalize hm : y.toInt.toNat = m at hy
            subst hy
            have := nI_toInt (n := m) (by omega)
            have a8 := a7 m (by omega)
            simp (disch := omega) only [sX8_cell_0, sX8_cell_1, sX8_cell_2, sX8_cell_5, sX8_cell_6, sX8_cell_9, sX8_cell_12, sX8_cell_13, sX8_cell_16, sX8_cell_19, sX8_cell_22, sX8_cell_23, sX8_cell_24, sX8_cell_27, sX8_cell_28, sX8_cell_29, sX8_cell_31, sX8_cell_33, sX8_cell_37, sX8_cell_40, sX8_cell_41, sX8_cell_42, sX8_cell_45, sX8_cell_48, sX8_cell_49, sX8_cell_51, sX8_cell_54, sX8_cell_57, sX8_cell_58, sX8_cell_59, sX8_cell_62, sX8_cell_65, sX8_cell_66, sX8_cell_67, sX8_cell_68, sX8_cell_70, sX8_cell_73, sX8_cell_74, sX8_cell_75, sX8_cell_78, sX8_cell_81, sX8_cell_82, sX8_cell_83, sX8_cell_86, sX8_cell_89, sX8_cell_90, sX8_cell_92, sX8_cell_95, sX8_cell_96, sX8_cell_97, sX8_cell_98, sX8_cell_34 o2, ↓reduceIte, if_true, if_false, Option.bind_some, Option.bind_none, Option.toList_some, Option.toList_none, List.cons_append, List.nil_append, Option.elim_some, true_or, or_true, or_false, false_or, true_and, and_true, and_false, false_and, zio1, zio0, zio01, not_true_eq_false, not_false_eq_true, nlt, neq, nlt0, n0lt, neq0, neq1, nm9, m9n, nadd, nadd1, nmul, ncl, zin_t, h1, h2, o1, o2, o3, o4, h3, a2, a3, h4, a8]
          · rw [if_neg q4] at h4 ⊢
            simp (disch := omega) only [sX8_cell_0, sX8_cell_1, sX8_cell_2, sX8_cell_5, sX8_cell_6, sX8_cell_9, sX8_cell_12, sX8_cell_13, sX8_cell_16, sX8_cell_19, sX8_cell_22, sX8_cell_23, sX8_cell_24, sX8_cell_27, sX8_cell_28, sX8_cell_29, sX8_cell_31, sX8_cell_33, sX8_cell_37, sX8_cell_40, sX8_cell_41, sX8_cell_42, sX8_cell_45, sX8_cell_48, sX8_cell_49, sX8_cell_51, sX8_cell_54, sX8_cell_57, sX8_cell_58, sX8_cell_59, sX8_cell_62, sX8_cell_65, sX8_cell_66, sX8_cell_67, sX8_cell_68, sX8_cell_70, sX8_cell_73, sX8_cell_74, sX8_cell_75, sX8_cell_78, sX8_cell_81, sX8_cell_82, sX8_cell_83, sX8_cell_86, sX8_cell_89, sX8_cell_90, sX8_cell_92, sX8_cell_95, sX8_cell_96, sX8_cell_97, sX8_cell_98, sX8_cell_34 o2, ↓reduceIte, if_true, if_false, Option.bind_some, Option.bind_none, Option.toList_some, Option.toList_none, List.cons_append, List.nil_append, Option.elim_some, true_or, or_true, or_false, false_or, true_and, and_true, and_false, false_and, zio1, zio0, zio01, not_true_eq_false, not_false_eq_true, nlt, neq, nlt0, n0lt, neq0, neq1, nm9, m9n, nadd, nadd1, nmul, ncl, zin_t, h1, h2, o1, o2, h3, a2, a3, h4, zuzu]
        · rw [if_pos ⟨a1, q3⟩] at h3
          rw [if_pos q3]
          simp (disch := omega) only [sX8_cell_0, sX8_cell_1, sX8_cell_2, sX8_cell_5, sX8_cell_6, sX8_cell_9, sX8_cell_12, sX8_cell_13, sX8_cell_16, sX8_cell_19, sX8_cell_22, sX8_cell_23, sX8_cell_24, sX8_cell_27, sX8_cell_28, sX8_cell_29, sX8_cell_31, sX8_cell_33, sX8_cell_37, sX8_cell_40, sX8_cell_41, sX8_cell_42, sX8_cell_45, sX8_cell_48, sX8_cell_49, sX8_cell_51, sX8_cell_54, sX8_cell_57, sX8_cell_58, sX8_cell_59, sX8_cell_62, sX8_cell_65, sX8_cell_66, sX8_cell_67, sX8_cell_68, sX8_cell_70, sX8_cell_73, sX8_cell_74, sX8_cell_75, sX8_cell_78, sX8_cell_81, sX8_cell_82, sX8_cell_83, sX8_cell_86, sX8_cell_89, sX8_cell_90, sX8_cell_92, sX8_cell_95, sX8_cell_96, sX8_cell_97, sX8_cell_98, sX8_cell_34 o2, ↓reduceIte, if_true, if_false, Option.bind_some, Option.bind_none, Option.toList_some, Option.toList_none, List.cons_append, List.nil_append, Option.elim_some, true_or, or_true, or_false, false_or, true_and, and_true, and_false, false_and, zio1, zio0, zio01, not_true_eq_false, not_false_eq_true, nlt, neq, nlt0, n0lt, neq0, neq1, nm9, m9n, nadd, nadd1, nmul, ncl, zin_t, h1, h2, o1, o2, h3, zuzu]
    · rw [if_neg q2] at h2
      rw [if_neg (fun e => q2 e.2)]
      simp only [sX8_cell_0, sX8_cell_1, sX8_cell_2, sX8_cell_5, sX8_cell_6, sX8_cell_9, sX8_cell_12, sX8_cell_13, sX8_cell_16, sX8_cell_19, sX8_cell_22, sX8_cell_23, sX8_cell_24, sX8_cell_27, sX8_cell_28, sX8_cell_29, sX8_cell_31, sX8_cell_33, sX8_cell_37, sX8_cell_40, sX8_cell_41, sX8_cell_42, sX8_cell_45, sX8_cell_48, sX8_cell_49, sX8_cell_51, sX8_cell_54, sX8_cell_57, sX8_cell_58, sX8_cell_59, sX8_cell_62, sX8_cell_65, sX8_cell_66, sX8_cell_67, sX8_cell_68, sX8_cell_70, sX8_cell_73, sX8_cell_74, sX8_cell_75, sX8_cell_78, sX8_cell_81, sX8_cell_82, sX8_cell_83, sX8_cell_86, sX8_cell_89, sX8_cell_90, sX8_cell_92, sX8_cell_95, sX8_cell_96, sX8_cell_97, sX8_cell_98, ↓reduceIte, if_true, if_false, Option.bind_some, Option.bind_none, Option.toList_some, Option.toList_none, List.cons_append, List.nil_append, Option.elim_some, true_or, or_true, or_false, false_or, true_and, and_true, and_false, false_and, zio1, zio0, zio01, not_true_eq_false, not_false_eq_true, h1, h2]
  · rw [if_neg q1] at h1
    rw [if_neg (fun e => q1 e.1)]
    simp only [sX8_cell_0, sX8_cell_1, sX8_cell_2, sX8_cell_5, sX8_cell_6, sX8_cell_9, sX8_cell_12, sX8_cell_13, sX8_cell_16, sX8_cell_19, sX8_cell_22, sX8_cell_23, sX8_cell_24, sX8_cell_27, sX8_cell_28, sX8_cell_29, sX8_cell_31, sX8_cell_33, sX8_cell_37, sX8_cell_40, sX8_cell_41, sX8_cell_42, sX8_cell_45, sX8_cell_48, sX8_cell_49, sX8_cell_51, sX8_cell_54, sX8_cell_57, sX8_cell_58, sX8_cell_59, sX8_cell_62, sX8_cell_65, sX8_cell_66, sX8_cell_67, sX8_cell_68, sX8_cell_70, sX8_cell_73, sX8_cell_74, sX8_cell_75, sX8_cell_78, sX8_cell_81, sX8_cell_82, sX8_cell_83, sX8_cell_86, sX8_cell_89, sX8_cell_90, sX8_cell_92, sX8_cell_95, sX8_cell_96, sX8_cell_97, sX8_cell_98, ↓reduceIte, if_true, if_false, Option.bind_some, Option.bind_none, Option.toList_some, Option.toList_none, List.cons_append, List.nil_append, Option.elim_some, true_or, or_true, or_false, false_or, true_and, and_true, and_false, false_and, zio1, zio0, zio01, not_true_eq_false, not_false_eq_true, h1]
theorem kX6_lr_loop {k : Nat} (hk : k < 4) {x1 x2 : Option Value} : ∀ e i (g : Nat → Nat → Int32), i + e = 60 → (∀ j, j < i → g (38 + 2 * k) j = 0) → ∃ g', (∀ a, a ≠ 38 + 2 * k → g' a = g a) ∧ (∀ j, j < 60 → g' (38 + 2 * k) j = 0) ∧ go L xs 39 69 17 [some (.ref (37 + 2 * k)), x1, x2, some (.int (nI i))] [] (hp g t) = some (none, hp g' t)
  | 0, i, g, hi, h => by
    have hi : i = 60 := by omega
    subst hi
    refine ⟨g, fun _ _ => rfl, h, ?_⟩
    simp (disch := omega) only [sX6_layRow_17, sX6_layRow_18, sX6_layRow_20, sX6_layRow_36, ↓reduceIte, if_true, if_false, Option.bind_some, Option.bind_none, Option.toList_some, Option.toList_none, List.cons_append, List.nil_append, Option.elim_some, true_or, or_true, or_false, false_or, true_and, and_true, and_false, false_and, zio1, zio0, zio01, not_true_eq_false, not_false_eq_true, nlt, neq, nlt0, n0lt, neq0, neq1, nm9, m9n, nadd, nadd1, nmul, ncl, zin_t, li60, Nat.lt_irrefl]
  | e + 1, i, g, hi, h => by
    obtain ⟨o1, o2, o3, o4⟩ := shb hk
    have q : i < 60 := by omega
    obtain ⟨g', a1, a2, a3⟩ := kX6_lr_loop hk (x1 := x1) (x2 := x2) e (i + 1) (zu g (38 + 2 * k) i 0) (by omega) (fun j hj => by
      simp only [zuA, if_true]
      split
      · rfl
      · exact h j (by omega))
    refine ⟨g', fun a ha => (a1 a ha).trans (zu_o ha), a2, ?_⟩
    rw [← a3, sX6_layRow_17]
    simp (disch := omega) only [sX6_layRow_18, sX6_layRow_20, sX6_layRow_23, sX6_layRow_24, sX6_layRow_27, sX6_layRow_28, sX6_layRow_29, sX6_layRow_30, sX6_layRow_33, ↓reduceIte, if_true, if_false, Option.bind_some, Option.bind_none, Option.toList_some, Option.toList_none, List.cons_append, List.nil_append, Option.elim_some, true_or, or_true, or_false, false_or, true_and, and_true, and_false, false_and, zio1, zio0, zio01, not_true_eq_false, not_false_eq_true, nlt, neq, nlt0, n0lt, neq0, neq1, nm9, m9n, nadd, nadd1, nmul, ncl, zin_t, li60, q, o2, o3, o4]
theorem pX8_sheet1 {x y z : Int32} (h : ¬ (0 ≤ x.toInt ∧ x.toInt ≤ 3)) : go L xs 68 69 0 [some (.ref 0), some (.int x), some (.int y), some (.int z)] [] (hp g t) = some (some (.int (-1)), hp (zu g 0 10 0) t) := by
  have h1 := kX8_isSheet (L := L) (xs := xs) (g := zu g 0 10 0) (t := t) (x := x)
  rw [if_neg h] at h1
  simp only [sX8_sheet_0, sX8_sheet_1, sX8_sheet_2, sX8_sheet_5, sX8_sheet_6, sX8_sheet_9, sX8_sheet_12, sX8_sheet_13, sX8_sheet_14, sX8_sheet_15, sX8_sheet_18, sX8_sheet_21, sX8_sheet_22, sX8_sheet_24, sX8_sheet_27, sX8_sheet_29, sX8_sheet_30, sX8_sheet_31, sX8_sheet_34, sX8_sheet_35, sX8_sheet_36, sX8_sheet_39, sX8_sheet_40, sX8_sheet_41, sX8_sheet_44, sX8_sheet_45, sX8_sheet_46, sX8_sheet_47, sX8_sheet_51, sX8_sheet_52, ↓reduceIte, if_true, if_false, Option.bind_some, Option.bind_none, Option.toList_some, Option.toList_none, List.cons_append, List.nil_append, Option.elim_some, true_or, or_true, or_false, false_or, true_and, and_true, and_false, false_and, zio1, zio0, zio01, not_true_eq_false, not_false_eq_true, h1]
theorem gt60 {z : Int32} : ((60 : Int32) < z) = (60 < z.toInt) := by
  apply propext
  rw [Int32.lt_iff_toInt_lt]
  exact Iff.rfl
theorem pX8_sheet2 {x y z : Int32} (h : 0 ≤ x.toInt ∧ x.toInt ≤ 3) (h' : ¬ ((0 ≤ y.toInt ∧ y.toInt ≤ 2) ∧ z.toInt ≤ 60)) : go L xs 68 69 0 [some (.ref 0), some (.int x), some (.int y), some (.int z)] [] (hp g t) = some (some (.int (-2)), hp (zu g 0 10 0) t) := by
  have h1 := kX8_isSheet (L := L) (xs := xs) (g := zu g 0 10 0) (t := t) (x := x)
  have h2 := kX8_isLane (L := L) (xs := xs) (g := zu g 0 10 0) (t := t) (x := y)
  rw [if_pos h] at h1
  by_cases q : 0 ≤ y.toInt ∧ y.toInt ≤ 2
  · rw [if_pos q] at h2
    have q2 : 60 < z.toInt := by omega
    simp only [sX8_sheet_0, sX8_sheet_1, sX8_sheet_2, sX8_sheet_5, sX8_sheet_6, sX8_sheet_9, sX8_sheet_12, sX8_sheet_13, sX8_sheet_14, sX8_sheet_15, sX8_sheet_18, sX8_sheet_21, sX8_sheet_22, sX8_sheet_24, sX8_sheet_27, sX8_sheet_29, sX8_sheet_30, sX8_sheet_31, sX8_sheet_34, sX8_sheet_35, sX8_sheet_36, sX8_sheet_39, sX8_sheet_40, sX8_sheet_41, sX8_sheet_44, sX8_sheet_45, sX8_sheet_46, sX8_sheet_47, sX8_sheet_51, sX8_sheet_52, ↓reduceIte, if_true, if_false, Option.bind_some, Option.bind_none, Option.toList_some, Option.toList_none, List.cons_append, List.nil_append, Option.elim_some, true_or, or_true, or_false, false_or, true_and, and_true, and_false, false_and, zio1, zio0, zio01, not_true_eq_false, not_false_eq_true, h1, h2, gt60, eq_true q2]
  · rw [if_neg q] at h2
    simp only [sX8_sheet_0, sX8_sheet_1, sX8_sheet_2, sX8_sheet_5, sX8_sheet_6, sX8_sheet_9, sX8_sheet_12, sX8_sheet_13, sX8_sheet_14, sX8_sheet_15, sX8_sheet_18, sX8_sheet_21, sX8_sheet_22, sX8_sheet_24, sX8_sheet_27, sX8_sheet_29, sX8_sheet_30, sX8_sheet_31, sX8_sheet_34, sX8_sheet_35, sX8_sheet_36, sX8_sheet_39, sX8_sheet_40, sX8_sheet_41, sX8_sheet_44, sX8_sheet_45, sX8_sheet_46, sX8_sheet_47, sX8_sheet_51, sX8_sheet_52, ↓reduceIte, if_true, if_false, Option.bind_some, Option.bind_none, Option.toList_some, Option.toList_none, List.cons_append, List.nil_append, Option.elim_some, true_or, or_true, or_false, false_or, true_and, and_true, and_false, false_and, zio1, zio0, zio01, not_true_eq_false, not_false_eq_true, h1, h2]
theorem pX8_sheet3 {x y z : Int32} (h : 0 ≤ x.toInt ∧ x.toInt ≤ 3) (h' : ((0 ≤ y.toInt ∧ y.toInt ≤ 2) ∧ z.toInt ≤ 60)) (h'' : z.toInt < 0) : go L xs 68 69 0 [some (.ref 0), some (.int x), some (.int y), some (.int z)] [] (hp g t) = some (some (.int (-14)), hp (zu g 0 10 4) t) := by
  have h1 := kX8_isSheet (L := L) (xs := xs) (g := zu g 0 10 0) (t := t) (x := x)
  have h2 := kX8_isLane (L := L) (xs := xs) (g := zu g 0 10 0) (t := t) (x := y)
  rw [if_pos h] at h1
  rw [if_pos h'.1] at h2
  have q2 : ¬ 60 < z.toInt := by omega
  have q3 : (z < 0) = True := eq_true (Int32.lt_iff_toInt_lt.mpr (by simpa using h''))
  simp only [sX8_sheet_0, sX8_sheet_1, sX8_sheet_2, sX8_sheet_5, sX8_sheet_6, sX8_sheet_9, sX8_sheet_12, sX8_sheet_13, sX8_sheet_14, sX8_sheet_15, sX8_sheet_18, sX8_sheet_21, sX8_sheet_22, sX8_sheet_24, sX8_sheet_27, sX8_sheet_29, sX8_sheet_30, sX8_sheet_31, sX8_sheet_34, sX8_sheet_35, sX8_sheet_36, sX8_sheet_39, sX8_sheet_40, sX8_sheet_41, sX8_sheet_44, sX8_sheet_45, sX8_sheet_46, sX8_sheet_47, sX8_sheet_51, sX8_sheet_52, ↓reduceIte, if_true, if_false, Option.bind_some, Option.bind_none, Option.toList_some, Option.toList_none, List.cons_append, List.nil_append, Option.elim_some, true_or, or_true, or_false, false_or, true_and, and_true, and_false, false_and, zio1, zio0, zio01, not_true_eq_false, not_false_eq_true, h1, h2, gt60, eq_false q2, q3, kX8_failed, zuzu, f14]
theorem pX8_sheet4 {k m n : Nat} (hk : k < 4) (hm : m ≤ 2) (hn : n ≤ 60) : ∃ g', (∀ a, a ≠ 38 + 2 * k → g' a = (zu (zu (zu (zu g 0 10 0) (37 + 2 * k) 2 (nI m)) (37 + 2 * k) 3 (nI n)) (37 + 2 * k) 1 1) a) ∧ (∀ i, i < 60 → g' (38 + 2 * k) i = 0) ∧ go L xs 68 69 0 [some (.ref 0), some (.int (nI k)), some (.int (nI m)), some (.int (nI n))] [] (hp g t) = some (some (.int 1), hp g' t) := by
  have h1 := kX8_isSheet (L := L) (xs := xs) (g := zu g 0 10 0) (t := t) (x := nI k)
  have h2 := kX8_isLane (L := L) (xs := xs) (g := zu g 0 10 0) (t := t) (x := nI m)
  have e1 := nI_toInt (n := k) (by omega)
  have e2 := nI_toInt (n := m) (by omega)
  have e3 := nI_toInt (n := n) (by omega)
  rw [if_pos (by omega)] at h1 h2
  obtain ⟨o1, o2, o3, o4⟩ := shb hk
  obtain ⟨g', a1, a2, a3⟩ := kX6_lr_loop (L := L) (xs := xs) (t := t) hk (x1 := some (.int (nI m))) (x2 := some (.int (nI n))) 60 0 (zu (zu (zu (zu g 0 10 0) (37 + 2 * k) 2 (nI m)) (37 + 2 * k) 3 (nI n)) (37 + 2 * k) 1 1) (by omega) (fun j hj => absurd hj (by omega))
  refine ⟨g', a1, a2, ?_⟩
  rw [nI_0] at a3
  have q2 : ¬ 60 < (nI n).toInt := by omega
  simp (disch := omega) only [sX8_sheet_0, sX8_sheet_1, sX8_sheet_2, sX8_sheet_5, sX8_sheet_6, sX8_sheet_9, sX8_sheet_12, sX8_sheet_13, sX8_sheet_14, sX8_sheet_15, sX8_sheet_18, sX8_sheet_21, sX8_sheet_22, sX8_sheet_24, sX8_sheet_27, sX8_sheet_29, sX8_sheet_30, sX8_sheet_31, sX8_sheet_34, sX8_sheet_35, sX8_sheet_36, sX8_sheet_39, sX8_sheet_40, sX8_sheet_41, sX8_sheet_44, sX8_sheet_45, sX8_sheet_46, sX8_sheet_47, sX8_sheet_51, sX8_sheet_52, sX8_sheet_48 o2, sX6_layRow_0, sX6_layRow_1, sX6_layRow_2, sX6_layRow_5, sX6_layRow_6, sX6_layRow_7, sX6_layRow_10, sX6_layRow_11, sX6_layRow_12, sX6_layRow_15, sX6_layRow_16, ↓reduceIte, if_true, if_false, Option.bind_some, Option.bind_none, Option.toList_some, Option.toList_none, List.cons_append, List.nil_append, Option.elim_some, true_or, or_true, or_false, false_or, true_and, and_true, and_false, false_and, zio1, zio0, zio01, not_true_eq_false, not_false_eq_true, nlt, neq, nlt0, n0lt, neq0, neq1, nm9, m9n, nadd, nadd1, nmul, ncl, zin_t, h1, h2, gt60, eq_false q2, o1, o2, zbo1, a3]
theorem kX6_hasCells {k : Nat} (hk : k < 4) {z : Nat} (hz : z ≤ 60) (h : g (37 + 2 * k) 3 = nI z) {i n : Int32} : go L xs 41 69 0 [some (.ref (37 + 2 * k)), some (.int i), some (.int n)] [] (hp g t) = some (some (.int (if (0 ≤ i.toInt ∧ 0 ≤ n.toInt) ∧ i.toInt + n.toInt ≤ z then 1 else 0)), hp g t) := by
  obtain ⟨o1, o2, o3, o4⟩ := shb hk
  by_cases q1 : i.toInt < 0
  · rw [if_neg (by omega)]
    have e : (i < 0) = True := eq_true (Int32.lt_iff_toInt_lt.mpr (by simpa using q1))
    simp only [sX6_hasCells_0, sX6_hasCells_1, sX6_hasCells_4, sX6_hasCells_5, sX6_hasCells_6, sX6_hasCells_9, sX6_hasCells_12, sX6_hasCells_13, sX6_hasCells_16, sX6_hasCells_17, sX6_hasCells_18, sX6_hasCells_21, sX6_hasCells_22, sX6_hasCells_23, sX6_hasCells_26, sX6_hasCells_27, sX6_hasCells_30, sX6_hasCells_31, ↓reduceIte, if_true, if_false, Option.bind_some, Option.bind_none, Option.toList_some, Option.toList_none, List.cons_append, List.nil_append, Option.elim_some, true_or, or_true, or_false, false_or, true_and, and_true, and_false, false_and, zio1, zio0, zio01, not_true_eq_false, not_false_eq_true, e]
  · have e1 := nlt_f q1
    have hi := nI_back (x := i) (by omega)
    generalize hk : i.toInt.toNat = a at hi
    subst hi
    by_cases q2 : z < a
    · rw [if_neg (by omega)]
      have e2 : nI z < nI a := by
        rw [Int32.lt_iff_toInt_lt, nI_toInt (by omega)]
        omega
      simp only [sX6_hasCells_0, sX6_hasCells_1, sX6_hasCells_4, sX6_hasCells_5, sX6_hasCells_6, sX6_hasCells_9, sX6_hasCells_12, sX6_hasCells_13, sX6_hasCells_16, sX6_hasCells_17, sX6_hasCells_18, sX6_hasCells_21, sX6_hasCells_22, sX6_hasCells_23, sX6_hasCells_26, sX6_hasCells_27, sX6_hasCells_30, sX6_hasCells_31, ↓reduceIte, if_true, if_false, Option.bind_some, Option.bind_none, Option.toList_some, Option.toList_none, List.cons_append, List.nil_append, Option.elim_some, true_or, or_true, or_false, false_or, true_and, and_true, and_false, false_and, zio1, zio0, zio01, not_true_eq_false, not_false_eq_true, e1, o2, h, eq_true e2]
    · have at' := nI_toInt (n := a) (by omega)
      by_cases q3 : n.toInt < 0
      · rw [if_neg (by omega)]
        have e3 : (n < 0) = True := eq_true (Int32.lt_iff_toInt_lt.mpr (by simpa using q3))
        simp (disch := omega) only [sX6_hasCells_0, sX6_hasCells_1, sX6_hasCells_4, sX6_hasCells_5, sX6_hasCells_6, sX6_hasCells_9, sX6_hasCells_12, sX6_hasCells_13, sX6_hasCells_16, sX6_hasCells_17, sX6_hasCells_18, sX6_hasCells_21, sX6_hasCells_22, sX6_hasCells_23, sX6_hasCells_26, sX6_hasCells_27, sX6_hasCells_30, sX6_hasCells_31, ↓reduceIte, if_true, if_false, Option.bind_some, Option.bind_none, Option.toList_some, Option.toList_none, List.cons_append, List.nil_append, Option.elim_some, true_or, or_true, or_false, false_or, true_and, and_true, and_false, false_and, zio1, zio0, zio01, not_true_eq_false, not_false_eq_true, nlt, neq, nlt0, n0lt, neq0, neq1, nm9, m9n, nadd, nadd1, nmul, ncl, zin_t, e1, o2, h, q2, e3]
      · have e3 := nlt_f q3
        have e4 : nI z - nI a = nI (z - a) := nsub (by omega)
        have e5 : (nI (z - a) < n) = ((z - a : Nat) < n.toInt) := by
          apply propext
          rw [Int32.lt_iff_toInt_lt, nI_toInt (by omega)]
        by_cases q4 : ((z - a : Nat) : Int) < n.toInt
        · rw [if_neg (by omega)]
          simp (disch := omega) only [sX6_hasCells_0, sX6_hasCells_1, sX6_hasCells_4, sX6_hasCells_5, sX6_hasCells_6, sX6_hasCells_9, sX6_hasCells_12, sX6_hasCells_13, sX6_hasCells_16, sX6_hasCells_17, sX6_hasCells_18, sX6_hasCells_21, sX6_hasCells_22, sX6_hasCells_23, sX6_hasCells_26, sX6_hasCells_27, sX6_hasCells_30, sX6_hasCells_31, ↓reduceIte, if_true, if_false, Option.bind_some, Option.bind_none, Option.toList_some, Option.toList_none, List.cons_append, List.nil_append, Option.elim_some, true_or, or_true, or_false, false_or, true_and, and_true, and_false, false_and, zio1, zio0, zio01, not_true_eq_false, not_false_eq_true, nlt, e1, o2, h, q2, e3, e4, e5, q4]
        · rw [if_pos (by omega)]
          simp (disch := omega) only [sX6_hasCells_0, sX6_hasCells_1, sX6_hasCells_4, sX6_hasCells_5, sX6_hasCells_6, sX6_hasCells_9, sX6_hasCells_12, sX6_hasCells_13, sX6_hasCells_16, sX6_hasCells_17, sX6_hasCells_18, sX6_hasCells_21, sX6_hasCells_22, sX6_hasCells_23, sX6_hasCells_26, sX6_hasCells_27, sX6_hasCells_30, sX6_hasCells_31, ↓reduceIte, if_true, if_false, Option.bind_some, Option.bind_none, Option.toList_some, Option.toList_none, List.cons_append, List.nil_append, Option.elim_some, true_or, or_true, or_false, false_or, true_and, and_true, and_false, false_and, zio1, zio0, zio01, not_true_eq_false, not_false_eq_true, nlt, e1, o2, h, q2, e3, e4, e5, q4]
theorem pX8_copy1 {x i y j n : Int32} (h : ¬ ((0 ≤ x.toInt ∧ x.toInt ≤ 3) ∧ (0 ≤ y.toInt ∧ y.toInt ≤ 3))) : go L xs 72 69 0 [some (.ref 0), some (.int x), some (.int i), some (.int y), some (.int j), some (.int n), none, none] [] (hp g t) = some (some (.int (-1)), hp (zu g 0 10 0) t) := by
  have h1 := kX8_isSheet (L := L) (xs := xs) (g := zu g 0 10 0) (t := t) (x := x)
  have h2 := kX8_isSheet (L := L) (xs := xs) (g := zu g 0 10 0) (t := t) (x := y)
  by_cases q : 0 ≤ x.toInt ∧ x.toInt ≤ 3
  · rw [if_pos q] at h1
    rw [if_neg (fun z => h ⟨q, z⟩)] at h2
    simp only [sX8_copy_0, sX8_copy_1, sX8_copy_2, sX8_copy_5, sX8_copy_6, sX8_copy_9, sX8_copy_12, sX8_copy_13, sX8_copy_16, sX8_copy_19, sX8_copy_20, ↓reduceIte, if_true, if_false, Option.bind_some, Option.bind_none, Option.toList_some, Option.toList_none, List.cons_append, List.nil_append, Option.elim_some, true_or, or_true, or_false, false_or, true_and, and_true, and_false, false_and, zio1, zio0, zio01, not_true_eq_false, not_false_eq_true, h1, h2]
  · rw [if_neg q] at h1
    simp only [sX8_copy_0, sX8_copy_1, sX8_copy_2, sX8_copy_5, sX8_copy_6, sX8_copy_9, sX8_copy_12, sX8_copy_13, sX8_copy_16, sX8_copy_19, sX8_copy_20, ↓reduceIte, if_true, if_false, Option.bind_some, Option.bind_none, Option.toList_some, Option.toList_none, List.cons_append, List.nil_append, Option.elim_some, true_or, or_true, or_false, false_or, true_and, and_true, and_false, false_and, zio1, zio0, zio01, not_true_eq_false, not_false_eq_true, h1]
theorem kX8_isSheetN {k : Nat} (hk : k < 4) : go L xs 80 69 0 [some (.int (nI k))] [] (hp g t) = some (some (.int 1), hp g t) := by
  have e1 := nI_toInt (n := k) (by omega)
  rw [kX8_isSheet, if_pos (by omega)]
theorem pX8_copy2 (hM : CSh g hs sz ln ce) {k o : Nat} (hk : k < 4) (ho : o < 4) {i j n : Int32} (h : hs k = false ∨ hs o = false) : go L xs 72 69 0 [some (.ref 0), some (.int (nI k)), some (.int i), some (.int (nI o)), some (.int j), some (.int n), none, none] [] (hp g t) = some (some (.int (-11)), hp (zu g 0 10 1) t) := by
  obtain ⟨o1, o2, o3, o4⟩ := shb hk
  obtain ⟨p1, p2, p3, p4⟩ := shb ho
  have h1 := kX8_isSheetN (L := L) (xs := xs) (g := zu g 0 10 0) (t := t) hk
  have h2 := kX8_isSheetN (L := L) (xs := xs) (g := zu g 0 10 0) (t := t) ho
  rcases hM.c0 (v := 0) k hk with ⟨a1, a2⟩ | ⟨a1, a2, -⟩
  · simp (disch := omega) only [sX8_copy_0, sX8_copy_1, sX8_copy_2, sX8_copy_5, sX8_copy_6, sX8_copy_9, sX8_copy_12, sX8_copy_13, sX8_copy_16, sX8_copy_19, sX8_copy_20, sX8_copy_21, sX8_copy_22, sX8_copy_25, sX8_copy_26, sX8_copy_27, sX8_copy_29, sX8_copy_30, sX8_copy_33, sX8_copy_34, sX8_copy_35, sX8_copy_37, sX8_copy_39, sX8_copy_42, sX8_copy_45, sX8_copy_47, sX8_copy_50, sX8_copy_53, sX8_copy_54, sX8_copy_55, sX8_copy_58, ↓reduceIte, if_true, if_false, Option.bind_some, Option.bind_none, Option.toList_some, Option.toList_none, List.cons_append, List.nil_append, Option.elim_some, true_or, or_true, or_false, false_or, true_and, and_true, and_false, false_and, zio1, zio0, zio01, not_true_eq_false, not_false_eq_true, nlt, neq, nlt0, n0lt, neq0, neq1, nm9, m9n, nadd, nadd1, nmul, ncl, zin_t, h1, h2, o1, o2, p1, p2, a2, kX8_failed, zuzu, f11]
  · rcases hM.c0 (v := 0) o ho with ⟨b1, b2⟩ | ⟨b1, -⟩
    · simp (disch := omega) only [sX8_copy_0, sX8_copy_1, sX8_copy_2, sX8_copy_5, sX8_copy_6, sX8_copy_9, sX8_copy_12, sX8_copy_13, sX8_copy_16, sX8_copy_19, sX8_copy_20, sX8_copy_21, sX8_copy_22, sX8_copy_25, sX8_copy_26, sX8_copy_27, sX8_copy_29, sX8_copy_30, sX8_copy_33, sX8_copy_34, sX8_copy_35, sX8_copy_37, sX8_copy_39, sX8_copy_42, sX8_copy_45, sX8_copy_47, sX8_copy_50, sX8_copy_53, sX8_copy_54, sX8_copy_55, sX8_copy_58, ↓reduceIte, if_true, if_false, Option.bind_some, Option.bind_none, Option.toList_some, Option.toList_none, List.cons_append, List.nil_append, Option.elim_some, true_or, or_true, or_false, false_or, true_and, and_true, and_false, false_and, zio1, zio0, zio01, not_true_eq_false, not_false_eq_true, nlt, neq, nlt0, n0lt, neq0, neq1, nm9, m9n, nadd, nadd1, nmul, ncl, zin_t, h1, h2, o1, o2, p1, p2, a2, b2, kX8_failed, zuzu, f11]
    · rw [a1, b1] at h; simp at h
theorem CSh.at (hM : CSh g hs sz ln ce) {q : Nat} (hq : q < 4) (h : hs q = true) : g (37 + 2 * q) 1 = 1 ∧ g (37 + 2 * q) 3 = nI (sz q) ∧ sz q ≤ 60 ∧ g (37 + 2 * q) 2 = nI (ln q) ∧ ln q ≤ 2 ∧ ∀ i, i < sz q → g (38 + 2 * q) i = ce q i := by
  rcases hM q hq with ⟨a1, -⟩ | ⟨-, a⟩
  · rw [h] at a1; simp at a1
  · exact a
theorem pX8_copy3 (hM : CSh g hs sz ln ce) {k o : Nat} (hk : k < 4) (ho : o < 4) {i j n : Int32} (h1 : hs k = true) (h2 : hs o = true) (h3 : ¬ ln k = ln o) : go L xs 72 69 0 [some (.ref 0), some (.int (nI k)), some (.int i), some (.int (nI o)), some (.int j), some (.int n), none, none] [] (hp g t) = some (some (.int (-12)), hp (zu g 0 10 2) t) := by
  obtain ⟨o1, o2, o3, o4⟩ := shb hk
  obtain ⟨p1, p2, p3, p4⟩ := shb ho
  have i1 := kX8_isSheetN (L := L) (xs := xs) (g := zu g 0 10 0) (t := t) hk
  have i2 := kX8_isSheetN (L := L) (xs := xs) (g := zu g 0 10 0) (t := t) ho
  obtain ⟨a1, a2, a3, a4, a5, -⟩ := (hM.c0 (v := 0)).at hk h1
  obtain ⟨b1, b2, b3, b4, b5, -⟩ := (hM.c0 (v := 0)).at ho h2
  simp (disch := omega) only [sX8_copy_0, sX8_copy_1, sX8_copy_2, sX8_copy_5, sX8_copy_6, sX8_copy_9, sX8_copy_12, sX8_copy_13, sX8_copy_16, sX8_copy_19, sX8_copy_20, sX8_copy_21, sX8_copy_22, sX8_copy_25, sX8_copy_26, sX8_copy_27, sX8_copy_29, sX8_copy_30, sX8_copy_33, sX8_copy_34, sX8_copy_35, sX8_copy_37, sX8_copy_39, sX8_copy_42, sX8_copy_45, sX8_copy_47, sX8_copy_50, sX8_copy_53, sX8_copy_54, sX8_copy_55, sX8_copy_58, sX8_copy_59, sX8_copy_61, sX8_copy_64, sX8_copy_66, sX8_copy_69, sX8_copy_72, sX8_copy_73, sX8_copy_74, sX8_copy_77, ↓reduceIte, if_true, if_false, Option.bind_some, Option.bind_none, Option.toList_some, Option.toList_none, List.cons_append, List.nil_append, Option.elim_some, true_or, or_true, or_false, false_or, true_and, and_true, and_false, false_and, zio1, zio0, zio01, not_true_eq_false, not_false_eq_true, nlt, neq, nlt0, n0lt, neq0, neq1, nm9, m9n, nadd, nadd1, nmul, ncl, zin_t, i1, i2, o1, o2, p1, p2, a1, b1, a4, b4, h3, kX8_failed, zuzu, f12]
theorem pX8_copy4 (hM : CSh g hs sz ln ce) {k o : Nat} (hk : k < 4) (ho : o < 4) {i j n : Int32} (h1 : hs k = true) (h2 : hs o = true) (h3 : ln k = ln o) (h : ¬ (((0 ≤ i.toInt ∧ 0 ≤ n.toInt) ∧ i.toInt + n.toInt ≤ sz k) ∧ ((0 ≤ j.toInt ∧ 0 ≤ n.toInt) ∧ j.toInt + n.toInt ≤ sz o))) : go L xs 72 69 0 [some (.ref 0), some (.int (nI k)), some (.int i), some (.int (nI o)), some (.int j), some (.int n), none, none] [] (hp g t) = some (some (.int (-13)), hp (zu g 0 10 3) t) := by
  obtain ⟨o1, o2, o3, o4⟩ := shb hk
  obtain ⟨p1, p2, p3, p4⟩ := shb ho
  have i1 := kX8_isSheetN (L := L) (xs := xs) (g := zu g 0 10 0) (t := t) hk
  have i2 := kX8_isSheetN (L := L) (xs := xs) (g := zu g 0 10 0) (t := t) ho
  obtain ⟨a1, a2, a3, a4, a5, -⟩ := (hM.c0 (v := 0)).at hk h1
  obtain ⟨b1, b2, b3, b4, b5, -⟩ := (hM.c0 (v := 0)).at ho h2
  have c1 := kX6_hasCells (L := L) (xs := xs) (t := t) (i := i) (n := n) hk a3 a2
  have c2 := kX6_hasCells (L := L) (xs := xs) (t := t) (i := j) (n := n) ho b3 b2
  by_cases q : (0 ≤ i.toInt ∧ 0 ≤ n.toInt) ∧ i.toInt + n.toInt ≤ sz k
  · rw [if_pos q] at c1
    rw [if_neg (fun z => h ⟨q, z⟩)] at c2
    simp (disch := omega) only [sX8_copy_0, sX8_copy_1, sX8_copy_2, sX8_copy_5, sX8_copy_6, sX8_copy_9, sX8_copy_12, sX8_copy_13, sX8_copy_16, sX8_copy_19, sX8_copy_20, sX8_copy_21, sX8_copy_22, sX8_copy_25, sX8_copy_26, sX8_copy_27, sX8_copy_29, sX8_copy_30, sX8_copy_33, sX8_copy_34, sX8_copy_35, sX8_copy_37, sX8_copy_39, sX8_copy_42, sX8_copy_45, sX8_copy_47, sX8_copy_50, sX8_copy_53, sX8_copy_54, sX8_copy_55, sX8_copy_58, sX8_copy_59, sX8_copy_61, sX8_copy_64, sX8_copy_66, sX8_copy_69, sX8_copy_72, sX8_copy_73, sX8_copy_74, sX8_copy_77, sX8_copy_78, sX8_copy_80, sX8_copy_81, sX8_copy_83 o2, sX8_copy_86, sX8_copy_89, sX8_copy_91, sX8_copy_93, sX8_copy_95 p2, sX8_copy_98, sX8_copy_101, sX8_copy_102, sX8_copy_103, sX8_copy_106, ↓reduceIte, if_true, if_false, Option.bind_some, Option.bind_none, Option.toList_some, Option.toList_none, List.cons_append, List.nil_append, Option.elim_some, true_or, or_true, or_false, false_or, true_and, and_true, and_false, false_and, zio1, zio0, zio01, not_true_eq_false, not_false_eq_true, nlt, neq, nlt0, n0lt, neq0, neq1, nm9, m9n, nadd, nadd1, nmul, ncl, zin_t, i1, i2, o1, o2, p1, p2, a1, b1, a4, b4, h3, c1, c2, kX8_failed, zuzu, f13]
  · rw [if_neg q] at c1
    simp (disch := omega) only [sX8_copy_0, sX8_copy_1, sX8_copy_2, sX8_copy_5, sX8_copy_6, sX8_copy_9, sX8_copy_12, sX8_copy_13, sX8_copy_16, sX8_copy_19, sX8_copy_20, sX8_copy_21, sX8_copy_22, sX8_copy_25, sX8_copy_26, sX8_copy_27, sX8_copy_29, sX8_copy_30, sX8_copy_33, sX8_copy_34, sX8_copy_35, sX8_copy_37, sX8_copy_39, sX8_copy_42, sX8_copy_45, sX8_copy_47, sX8_copy_50, sX8_copy_53, sX8_copy_54, sX8_copy_55, sX8_copy_58, sX8_copy_59, sX8_copy_61, sX8_copy_64, sX8_copy_66, sX8_copy_69, sX8_copy_72, sX8_copy_73, sX8_copy_74, sX8_copy_77, sX8_copy_78, sX8_copy_80, sX8_copy_81, sX8_copy_83 o2, sX8_copy_86, sX8_copy_89, sX8_copy_91, sX8_copy_93, sX8_copy_98, sX8_copy_101, sX8_copy_102, sX8_copy_103, sX8_copy_106, ↓reduceIte, if_true, if_false, Option.bind_some, Option.bind_none, Option.toList_some, Option.toList_none, List.cons_append, List.nil_append, Option.elim_some, true_or, or_true, or_false, false_or, true_and, and_true, and_false, false_and, zio1, zio0, zio01, not_true_eq_false, not_false_eq_true, nlt, neq, nlt0, n0lt, neq0, neq1, nm9, m9n, nadd, nadd1, nmul, ncl, zin_t, i1, i2, o1, o2, p1, p2, a1, b1, a4, b4, h3, c1, kX8_failed, zuzu, f13]
theorem pX8_copy5 (hM : CSh g hs sz ln ce) {k o i j n : Nat} (hk : k < 4) (ho : o < 4) (h1 : hs k = true) (h2 : hs o = true) (h3 : ln k = ln o) (h4 : i + n ≤ sz k) (h5 : j + n ≤ sz o) : ∃ g', (∀ a, a ≠ 38 + 2 * o → g' a = (zu g 0 10 0) a) ∧ CSh g' hs sz ln (fun q p => if q = o ∧ j ≤ p ∧ p < j + n then ce k (i + (p - j)) else ce q p) ∧ go L xs 72 69 0 [some (.ref 0), some (.int (nI k)), some (.int (nI i)), some (.int (nI o)), some (.int (nI j)), some (.int (nI n)), none, none] [] (hp g t) = some (some (.int (nI n)), hp g' t) := by
  obtain ⟨o1, o2, o3, o4⟩ := shb hk
  obtain ⟨p1, p2, p3, p4⟩ := shb ho
  have i1 := kX8_isSheetN (L := L) (xs := xs) (g := zu g 0 10 0) (t := t) hk
  have i2 := kX8_isSheetN (L := L) (xs := xs) (g := zu g 0 10 0) (t := t) ho
  obtain ⟨a1, a2, a3, a4, a5, a6⟩ := (hM.c0 (v := 0)).at hk h1
  obtain ⟨b1, b2, b3, b4, b5, b6⟩ := (hM.c0 (v := 0)).at ho h2
  have c1 := kX6_hasCells (L := L) (xs := xs) (t := t) (i := nI i) (n := nI n) hk a3 a2
  have c2 := kX6_hasCells (L := L) (xs := xs) (t := t) (i := nI j) (n := nI n) ho b3 b2
  have e1 := nI_toInt (n := i) (by omega)
  have e2 := nI_toInt (n := j) (by omega)
  have e3 := nI_toInt (n := n) (by omega)
  rw [if_pos (by omega)] at c1 c2
  have hcp : ¬ nI i < 0 ∧ ¬ nI j < 0 ∧ ¬ nI n < 0 ∧ (nI i).toNatClampNeg + (nI n).toNatClampNeg ≤ zal (38 + 2 * k) ∧ (nI j).toNatClampNeg + (nI n).toNatClampNeg ≤ zal (38 + 2 * o) := by
    rw [o4, p4, ncl (by omega), ncl (by omega), ncl (by omega)]
    exact ⟨nI_pos (by omega), nI_pos (by omega), nI_pos (by omega), by omega, by omega⟩
  refine ⟨zcp (zu g 0 10 0) (38 + 2 * k) (38 + 2 * o) i j n, fun a ha => ?_, ?_, ?_⟩
  · funext p
    simp only [zcpA, ha, if_false]
  · intro q hq
    have hne : 37 + 2 * q ≠ 38 + 2 * o := by omega
    have f37 : ∀ p, zcp (zu g 0 10 0) (38 + 2 * k) (38 + 2 * o) i j n (37 + 2 * q) p = zu g 0 10 0 (37 + 2 * q) p := fun p => by
      simp only [zcpA, hne, if_false]
    rw [f37, f37, f37]
    rcases hM.c0 (v := 0) q hq with z | ⟨z1, z2, z3, z4, z5, z6, z7⟩
    · exact Or.inl z
    · refine Or.inr ⟨z1, z2, z3, z4, z5, z6, fun p hp => ?_⟩
      simp only [zcpA]
      by_cases y : q = o
      · subst y
        rw [if_pos rfl]
        by_cases y2 : j ≤ p ∧ p < j + n
        · rw [if_pos y2, if_pos ⟨rfl, y2⟩]
          exact a6 _ (by omega)
        · rw [if_neg y2, if_neg (fun e => y2 e.2)]
          exact z7 p hp
      · rw [if_neg (by omega), if_neg (fun e => y e.1)]
        exact z7 p hp
  · simp (disch := omega) only [sX8_copy_0, sX8_copy_1, sX8_copy_2, sX8_copy_5, sX8_copy_6, sX8_copy_9, sX8_copy_12, sX8_copy_13, sX8_copy_16, sX8_copy_19, sX8_copy_20, sX8_copy_21, sX8_copy_22, sX8_copy_25, sX8_copy_26, sX8_copy_27, sX8_copy_29, sX8_copy_30, sX8_copy_33, sX8_copy_34, sX8_copy_35, sX8_copy_37, sX8_copy_39, sX8_copy_42, sX8_copy_45, sX8_copy_47, sX8_copy_50, sX8_copy_53, sX8_copy_54, sX8_copy_55, sX8_copy_58, sX8_copy_59, sX8_copy_61, sX8_copy_64, sX8_copy_66, sX8_copy_69, sX8_copy_72, sX8_copy_73, sX8_copy_74, sX8_copy_77, sX8_copy_78, sX8_copy_80, sX8_copy_81, sX8_copy_83 o2, sX8_copy_86, sX8_copy_89, sX8_copy_91, sX8_copy_93, sX8_copy_95 p2, sX8_copy_98, sX8_copy_101, sX8_copy_102, sX8_copy_103, sX8_copy_106, sX8_copy_107, sX8_copy_109, sX8_copy_112, sX8_copy_113, sX8_copy_115, sX8_copy_118, sX8_copy_120, sX8_copy_122 (show 0 < zal (38 + 2 * k) by omega) (show 0 < zal (38 + 2 * o) by omega) hcp, sX8_copy_125, sX8_copy_127, ↓reduceIte, if_true, if_false, Option.bind_some, Option.bind_none, Option.toList_some, Option.toList_none, List.cons_append, List.nil_append, Option.elim_some, true_or, or_true, or_false, false_or, true_and, and_true, and_false, false_and, zio1, zio0, zio01, not_true_eq_false, not_false_eq_true, nlt, neq, nlt0, n0lt, neq0, neq1, nm9, m9n, nadd, nadd1, nmul, ncl, zin_t, i1, i2, o1, o2, o3, p1, p2, p3, a1, b1, a4, b4, h3, c1, c2]
end C13
