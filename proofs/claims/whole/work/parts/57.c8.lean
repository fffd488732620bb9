/-! The class: piles, feast, unseen. -/
section C8
variable {L : Nat} {xs : Nat → Int32} {g g' : Nat → Nat → Int32} {t : Nat → Int64}
variable {H S G R : Nat} {kd bd gv rs dr w f l rh rd rt : Nat → Nat} {row : Nat → Int32}
/-- a question put to the trial alone -/
def qt (g g' : Nat → Nat → Int32) : Prop := cf g g' ∧ ∀ a, (a = 0 ∨ (19 ≤ a ∧ a ≤ 23) ∨ 29 ≤ a) → g' a = g a
theorem qt.rf : qt g g := ⟨cf.rf, fun _ _ => rfl⟩
theorem qt.tr {g1 g2 g3 : Nat → Nat → Int32} (h : qt g1 g2) (h' : qt g2 g3) : qt g1 g3 := ⟨h.1.tr h'.1, fun a ha => (h'.2 a ha).trans (h.2 a ha)⟩
theorem qt.qn (h : qt g g') (hK : CK g H G kd gv rs w f l row) : qn g g' H G kd gv rs w f l row := ⟨h.1, fun a ha => h.2 a (by omega), by
  unfold CK
  rw [h.2 0 (by omega), h.2 20 (by omega)]
  exact hK⟩
theorem qt_nf (h : nf 24 g g') : qt g g' := ⟨⟨fun a x y => h a (by omega), fun a k x y _ => by rw [h a (by omega)], fun a x y => h a (by omega), fun a x => h a (by omega), by rw [h 0 (by omega)], by rw [h 0 (by omega)]⟩, fun a ha => h a (by omega)⟩
theorem kBC {p : Nat} (hp1 : p < 128) : go L xs 167 69 0 [some (.int (nI p))] [] (hp g t) = some (some (.int (nI (bts p))), hp g t) := by
  simp only [sJ6_bitCount_0f7a4_0, sJ6_bitCount_0f7a4_1, sJ6_bitCount_0f7a4_2, sJ6_bitCount_0f7a4_3, sJ6_bitCount_0f7a4_4, sJ6_bitCount_0f7a4_7, sJ6_bitCount_0f7a4_8, sJ6_bitCount_0f7a4_9, sJ6_bitCount_0f7a4_10, sJ6_bitCount_0f7a4_11, sJ6_bitCount_0f7a4_14, sJ6_bitCount_0f7a4_15, sJ6_bitCount_0f7a4_16, sJ6_bitCount_0f7a4_17, sJ6_bitCount_0f7a4_18, sJ6_bitCount_0f7a4_21, sJ6_bitCount_0f7a4_22, sJ6_bitCount_0f7a4_23, sJ6_bitCount_0f7a4_24, sJ6_bitCount_0f7a4_25, sJ6_bitCount_0f7a4_26, sJ6_bitCount_0f7a4_27, sJ6_bitCount_0f7a4_28, sJ6_bitCount_0f7a4_29, sJ6_bitCount_0f7a4_32, sJ6_bitCount_0f7a4_33, sJ6_bitCount_0f7a4_34, sJ6_bitCount_0f7a4_35, sJ6_bitCount_0f7a4_36, sJ6_bitCount_0f7a4_38, sJ6_bitCount_0f7a4_39, sJ6_bitCount_0f7a4_40, sJ6_bitCount_0f7a4_41, sJ6_bitCount_0f7a4_42, sJ6_bitCount_0f7a4_43, sJ6_bitCount_0f7a4_45, sJ6_bitCount_0f7a4_46, sJ6_bitCount_0f7a4_47, sJ6_bitCount_0f7a4_48, sJ6_bitCount_0f7a4_49, sJ6_bitCount_0f7a4_51, sJ6_bitCount_0f7a4_52, ↓reduceIte, if_true, if_false, Option.bind_some, Option.bind_none, Option.toList_some, Option.toList_none, List.cons_append, List.nil_append, Option.elim_some, true_or, or_true, or_false, false_or, true_and, and_true, and_false, false_and, zio1, zio0, zio01, not_true_eq_false, not_false_eq_true]
  congr 4
  revert hp1
  revert p
  decide +kernel
/-- the fewest planks as the class keeps them -/
def c1v (b : Option (Nat × Nat)) : Nat := match b with
  | none => 350
  | some q => q.1
theorem bst_stepP {P : Nat → Prop} [DecidablePred P] {v : Nat → Nat} {e k s : Nat} {b : Option (Nat × Nat)} (hP : P k) (hv : v k ≤ 300) (h : s < c1v b ∨ v k < c1v b → s = v k) : bst P v (e + 1) k b = bst P v e (k + 1) (if s < c1v b then some (s, k) else b) := by
  show bst P v e (k + 1) (if P k then _ else b) = _
  rw [if_pos hP]
  congr 1
  cases b with
  | none =>
    have hs := h (Or.inr (by show _ < 350; omega))
    show some (v k, k) = _
    rw [if_pos (by show s < 350; omega), hs]
  | some q =>
    dsimp only
    by_cases z : v k < q.1
    · have hs := h (Or.inr z)
      rw [if_pos z, if_pos (by show s < q.1; omega), hs]
    · rw [if_neg z, if_neg (fun y => z (by have hs := h (Or.inl y); have y' : s < q.1 := y; omega))]
theorem bst_stepN {P : Nat → Prop} [DecidablePred P] {v : Nat → Nat} {e k : Nat} {b : Option (Nat × Nat)} (hP : ¬ P k) : bst P v (e + 1) k b = bst P v e (k + 1) b := by
  show bst P v e (k + 1) (if P k then _ else b) = _
  rw [if_neg hP]
theorem c1v_s {q : Nat × Nat} : c1v (some q) = q.1 := rfl
theorem b2_s {q : Nat × Nat} : b2 (some q) = nI q.2 := rfl
theorem li350 : (350 : Int32) = nI 350 := by decide
theorem kX8_pi_loop {x : Int32} (hH : 0 < H) : ∀ e k (g : Nat → Nat → Int32) (t : Nat → Int64) (b : Option (Nat × Nat)) (x5 : Option Value), k + e = 2 ^ H → (∀ q, b = some q → q.1 ≤ 300) → CTn g H S kd bd gv rs dr → CGs g H G w f l row → ∃ g' t', qt g g' ∧ go L xs 65 69 34 [some (.ref 0), some (.int x), some (.int (nI (c1v b))), some (.int (b2 b)), some (.int (nI k)), x5] [] (hp g t) = some (some (.int (if x = 0 then nI (c1v (bst (fun p => bts p < 3) (fun p => apl H S G kd gv rs w f l row (-9) 0 0 p) e k b)) else b2 (bst (fun p => bts p < 3) (fun p => apl H S G kd gv rs w f l row (-9) 0 0 p) e k b))), hp g' t')
  | 0, k, g, t, b, x5, hk, hb, hT, hG => by
    have hk : k = 2 ^ H := by omega
    subst hk
    have t1 := hT.1
    have h7 := hT.2.1
    have h128 : 2 ^ H ≤ 128 := by
      have : 2 ^ H ≤ 2 ^ 7 := Nat.pow_le_pow_right (by omega) h7
      simpa using this
    refine ⟨g, t, qt.rf, ?_⟩
    by_cases q : x = 0
    · simp (disch := omega) only [sX8_piles_34, sX8_piles_36, sX8_piles_37, sX8_piles_38, sX8_piles_41, sX8_piles_44, sX8_piles_45, sX8_piles_94, sX8_piles_95, sX8_piles_98, sX8_piles_99, sX8_piles_102, sX8_piles_103, ↓reduceIte, if_true, if_false, Option.bind_some, Option.bind_none, Option.toList_some, Option.toList_none, List.cons_append, List.nil_append, Option.elim_some, true_or, or_true, or_false, false_or, true_and, and_true, and_false, false_and, zio1, zio0, zio01, not_true_eq_false, not_false_eq_true, nlt, neq, nlt0, n0lt, neq0, neq1, nm9, m9n, nadd, nadd1, nmul, ncl, zin_t, t1, sh_1, Nat.lt_irrefl, q, bst]
    · simp (disch := omega) only [sX8_piles_34, sX8_piles_36, sX8_piles_37, sX8_piles_38, sX8_piles_41, sX8_piles_44, sX8_piles_45, sX8_piles_94, sX8_piles_95, sX8_piles_98, sX8_piles_99, sX8_piles_102, sX8_piles_103, ↓reduceIte, if_true, if_false, Option.bind_some, Option.bind_none, Option.toList_some, Option.toList_none, List.cons_append, List.nil_append, Option.elim_some, true_or, or_true, or_false, false_or, true_and, and_true, and_false, false_and, zio1, zio0, zio01, not_true_eq_false, not_false_eq_true, nlt, neq, nlt0, n0lt, neq0, neq1, nm9, m9n, nadd, nadd1, nmul, ncl, zin_t, t1, sh_1, Nat.lt_irrefl, q, bst]
  | e + 1, k, g, t, b, x5, hk, hb, hT, hG => by
    have t1 := hT.1
    have h7 := hT.2.1
    have h128 : 2 ^ H ≤ 128 := by
      have : 2 ^ H ≤ 2 ^ 7 := Nat.pow_le_pow_right (by omega) h7
      simpa using this
    have q : k < 2 ^ H := by omega
    have hbc := kBC (L := L) (xs := xs) (g := g) (t := t) (p := k) (by omega)
    have hbl : bts k ≤ 7 := by unfold bts; omega
    by_cases q1 : bts k < 3
    · have q1' : ¬ 2 < bts k := by omega
      have hcb : c1v b ≤ 350 := by
        cases b with
        | none => exact Nat.le_refl _
        | some q => have := hb q rfl; show q.1 ≤ 350; omega
      obtain ⟨g1, t1', s, F1, a1, s1, s2, e1⟩ := kX3_planksBelow (L := L) (xs := xs) (t := t) (o := 24) (c := 14) (pl := k) (en := c1v b) (Or.inr rfl) (Or.inl rfl) (by omega) hH hcb hT hG.g9
      rw [aplW_apl hG.2.1 h7] at s2
      have hal := apl_le (S := S) (G := G) (kd := kd) (gv := gv) (rs := rs) (w := w) (f := f) (l := l) (row := row) (om := -9) (omw := 0) (omf := 0) (pl := k) h7
      have Q1 := qt_nf F1
      rw [bst_stepP (P := fun p => bts p < 3) (v := fun p => apl H S G kd gv rs w f l row (-9) 0 0 p) q1 hal s2]
      obtain ⟨g2, t2, Q2, e2⟩ := kX8_pi_loop (x := x) hH e (k + 1) g1 t1' (if s < c1v b then some (s, k) else b) (some (.int (nI s))) (by omega) (fun q' hq' => by
        split at hq'
        · cases hq'; exact s1
        · exact hb q' hq') (Q1.1.town hT) (Q1.1.guests hG)
      refine ⟨g2, t2, Q1.tr Q2, ?_⟩
      rw [← e2, sX8_piles_34]
      by_cases z : s < c1v b
      · rw [if_pos z]
        simp (disch := omega) only [sX8_piles_36, sX8_piles_37, sX8_piles_38, sX8_piles_41, sX8_piles_44, sX8_piles_45, sX8_piles_48, sX8_piles_50, sX8_piles_53, sX8_piles_54, sX8_piles_57, sX8_piles_58, sX8_piles_61, sX8_piles_62, sX8_piles_65, sX8_piles_68, sX8_piles_70, sX8_piles_71, sX8_piles_74, sX8_piles_76, sX8_piles_78, sX8_piles_79, sX8_piles_82, sX8_piles_84, sX8_piles_85, sX8_piles_87, sX8_piles_88, sX8_piles_91, ↓reduceIte, if_true, if_false, Option.bind_some, Option.bind_none, Option.toList_some, Option.toList_none, List.cons_append, List.nil_append, Option.elim_some, true_or, or_true, or_false, false_or, true_and, and_true, and_false, false_and, zio1, zio0, zio01, not_true_eq_false, not_false_eq_true, nlt, neq, nlt0, n0lt, neq0, neq1, nm9, m9n, nadd, nadd1, nmul, ncl, zin_t, t1, sh_1, q, hbc, li2, q1', e1, z, c1v_s, b2_s]
      · rw [if_neg z]
        simp (disch := omega) only [sX8_piles_36, sX8_piles_37, sX8_piles_38, sX8_piles_41, sX8_piles_44, sX8_piles_45, sX8_piles_48, sX8_piles_50, sX8_piles_53, sX8_piles_54, sX8_piles_57, sX8_piles_58, sX8_piles_61, sX8_piles_62, sX8_piles_65, sX8_piles_68, sX8_piles_70, sX8_piles_71, sX8_piles_74, sX8_piles_76, sX8_piles_78, sX8_piles_79, sX8_piles_82, sX8_piles_84, sX8_piles_85, sX8_piles_87, sX8_piles_88, sX8_piles_91, ↓reduceIte, if_true, if_false, Option.bind_some, Option.bind_none, Option.toList_some, Option.toList_none, List.cons_append, List.nil_append, Option.elim_some, true_or, or_true, or_false, false_or, true_and, and_true, and_false, false_and, zio1, zio0, zio01, not_true_eq_false, not_false_eq_true, nlt, neq, nlt0, n0lt, neq0, neq1, nm9, m9n, nadd, nadd1, nmul, ncl, zin_t, t1, sh_1, q, hbc, li2, q1', e1, z]
    · have q1' : 2 < bts k := by omega
      rw [bst_stepN (P := fun p => bts p < 3) q1]
      obtain ⟨g2, t2, Q2, e2⟩ := kX8_pi_loop (x := x) hH e (k + 1) g t b x5 (by omega) hb hT hG
      refine ⟨g2, t2, Q2, ?_⟩
      rw [← e2, sX8_piles_34]
      simp (disch := omega) only [sX8_piles_36, sX8_piles_37, sX8_piles_38, sX8_piles_41, sX8_piles_44, sX8_piles_45, sX8_piles_48, sX8_piles_50, sX8_piles_53, sX8_piles_54, sX8_piles_57, sX8_piles_58, sX8_piles_61, sX8_piles_62, sX8_piles_65, sX8_piles_68, sX8_piles_70, sX8_piles_71, sX8_piles_74, sX8_piles_76, sX8_piles_78, sX8_piles_79, sX8_piles_82, sX8_piles_84, sX8_piles_85, sX8_piles_87, sX8_piles_88, sX8_piles_91, ↓reduceIte, if_true, if_false, Option.bind_some, Option.bind_none, Option.toList_some, Option.toList_none, List.cons_append, List.nil_append, Option.elim_some, true_or, or_true, or_false, false_or, true_and, and_true, and_false, false_and, zio1, zio0, zio01, not_true_eq_false, not_false_eq_true, nlt, neq, nlt0, n0lt, neq0, neq1, nm9, m9n, nadd, nadd1, nmul, ncl, zin_t, t1, sh_1, q, hbc, li2, q1']
theorem bst_some {P : Nat → Prop} [DecidablePred P] {v : Nat → Nat} : ∀ e k q, ∃ q', bst P v e k (some q) = some q'
  | 0, _, q => ⟨q, rfl⟩
  | e + 1, k, q => by
    unfold bst
    split
    · dsimp only
      split
      · exact bst_some e (k + 1) _
      · exact bst_some e (k + 1) _
    · exact bst_some e (k + 1) _
theorem pX8_piles (hT : CTn g H S kd bd gv rs dr) (hG : CGs g H G w f l row) {x : Int32} : ∃ g' t', qt g g' ∧ go L xs 65 69 0 [some (.ref 0), some (.int x), none, none, none, none] [] (hp g t) = some (some (.int (if 0 ≤ x.toInt ∧ x.toInt ≤ 1 then (if H = 0 then -3 else if x = 0 then b1 (bst (fun p => bts p < 3) (fun p => apl H S G kd gv rs w f l row (-9) 0 0 p) (2 ^ H - 1) 1 none) else b2 (bst (fun p => bts p < 3) (fun p => apl H S G kd gv rs w f l row (-9) 0 0 p) (2 ^ H - 1) 1 none)) else -2)), hp g' t') := by
  have hin := kX8_in (L := L) (xs := xs) (g := g) (t := t) (x := x) (a := 0) (b := 1) (lo := 0) (hi := 1) (by decide) (by decide)
  have t1 := hT.1
  have h7 := hT.2.1
  by_cases q : 0 ≤ x.toInt ∧ x.toInt ≤ 1
  · rw [if_pos q] at hin ⊢
    by_cases q3 : H = 0
    · refine ⟨g, t, qt.rf, ?_⟩
      rw [if_pos q3]
      simp (disch := omega) only [sX8_piles_0, sX8_piles_1, sX8_piles_2, sX8_piles_3, sX8_piles_6, sX8_piles_9, sX8_piles_11, sX8_piles_12, sX8_piles_13, sX8_piles_16, sX8_piles_19, sX8_piles_22, sX8_piles_24, ↓reduceIte, if_true, if_false, Option.bind_some, Option.bind_none, Option.toList_some, Option.toList_none, List.cons_append, List.nil_append, Option.elim_some, true_or, or_true, or_false, false_or, true_and, and_true, and_false, false_and, zio1, zio0, zio01, not_true_eq_false, not_false_eq_true, nlt, neq, nlt0, n0lt, neq0, neq1, nm9, m9n, nadd, nadd1, nmul, ncl, zin_t, hin, t1, q3, nI_0]
    · rw [if_neg q3]
      have h2 : 2 ≤ 2 ^ H := by
        have : 2 ^ 1 ≤ 2 ^ H := Nat.pow_le_pow_right (by omega) (by omega)
        simpa using this
      obtain ⟨g1, t1', Q, e1⟩ := kX8_pi_loop (L := L) (xs := xs) (x := x) (show 0 < H by omega) (2 ^ H - 1) 1 g t none none (by omega) (fun q hq => by cases hq) hT hG
      refine ⟨g1, t1', Q, ?_⟩
      have hs : ∃ q', bst (fun p => bts p < 3) (fun p => apl H S G kd gv rs w f l row (-9) 0 0 p) (2 ^ H - 1) 1 none = some q' := by
        rw [show 2 ^ H - 1 = (2 ^ H - 2) + 1 by omega]
        unfold bst
        rw [if_pos (by decide)]
        exact bst_some _ _ _
      obtain ⟨q', hq'⟩ := hs
      rw [hq', show nI 1 = 1 by decide] at e1
      rw [hq']
      rw [show b1 (some q') = nI (c1v (some q')) from rfl, ← e1]
      simp (disch := omega) only [sX8_piles_0, sX8_piles_1, sX8_piles_2, sX8_piles_3, sX8_piles_6, sX8_piles_9, sX8_piles_11, sX8_piles_12, sX8_piles_13, sX8_piles_16, sX8_piles_19, sX8_piles_22, sX8_piles_24, sX8_piles_25, sX8_piles_28, sX8_piles_29, sX8_piles_30, sX8_piles_31, sX8_piles_32, ↓reduceIte, if_true, if_false, Option.bind_some, Option.bind_none, Option.toList_some, Option.toList_none, List.cons_append, List.nil_append, Option.elim_some, true_or, or_true, or_false, false_or, true_and, and_true, and_false, false_and, zio1, zio0, zio01, not_true_eq_false, not_false_eq_true, nlt, neq, nlt0, n0lt, neq0, neq1, nm9, m9n, nadd, nadd1, nmul, ncl, zin_t, hin, t1, q3, li350, c1v, b2]
  · rw [if_neg q] at hin ⊢
    refine ⟨g, t, qt.rf, ?_⟩
    simp (disch := omega) only [sX8_piles_0, sX8_piles_1, sX8_piles_2, sX8_piles_3, sX8_piles_6, sX8_piles_9, sX8_piles_11, sX8_piles_12, sX8_piles_13, sX8_piles_16, sX8_piles_19, sX8_piles_22, sX8_piles_24, ↓reduceIte, if_true, if_false, Option.bind_some, Option.bind_none, Option.toList_some, Option.toList_none, List.cons_append, List.nil_append, Option.elim_some, true_or, or_true, or_false, false_or, true_and, and_true, and_false, false_and, zio1, zio0, zio01, not_true_eq_false, not_false_eq_true, nlt, neq, nlt0, n0lt, neq0, neq1, nm9, m9n, nadd, nadd1, nmul, ncl, zin_t, hin]
theorem kX0_enter {k : Nat} (hk : k < 9) {x y z : Int32} : go L xs 3 69 0 [some (.ref 10), some (.int (nI k)), some (.int x), some (.int y), some (.int z)] [] (hp g t) = some (none, hp (zu (zu (zu (zu g 11 k x) 12 k y) 13 k z) 14 k (-9)) t) := by
  simp (disch := omega) only [sX0_enter_0, sX0_enter_1, sX0_enter_4, sX0_enter_5, sX0_enter_6, sX0_enter_7, sX0_enter_8, sX0_enter_11, sX0_enter_12, sX0_enter_13, sX0_enter_14, sX0_enter_15, sX0_enter_18, sX0_enter_19, sX0_enter_21, sX0_enter_22, sX0_enter_23, sX0_enter_26, sX0_enter_27, sX0_enter_29, sX0_enter_30, ↓reduceIte, if_true, if_false, Option.bind_some, Option.bind_none, Option.toList_some, Option.toList_none, List.cons_append, List.nil_append, Option.elim_some, true_or, or_true, or_false, false_or, true_and, and_true, and_false, false_and, zio1, zio0, zio01, not_true_eq_false, not_false_eq_true, nlt, neq, nlt0, n0lt, neq0, neq1, nm9, m9n, nadd, nadd1, nmul, ncl, zin_t]
/-- the visitor's cells laid -/
abbrev vis (g : Nat → Nat → Int32) (x y z v : Int32) : Nat → Nat → Int32 := zu (zu (zu (zu (zu g 11 8 x) 12 8 y) 13 8 z) 14 8 (-9)) 14 8 v
theorem vis_g9 (hG : CGs g H G w f l row) {W n h : Nat} (hh : h < H) (hW : W ≤ 300) (hn : n ≤ 49) : CG9 (vis g (nI W) (nI n) (nI 49) (nI h)) 14 H (xf G w W) (xf G f n) (xf G l 49) (xr G row (nI h)) := by
  intro k hk
  obtain ⟨h1, h2, h3, h4⟩ := hG
  by_cases q : k < G
  · obtain ⟨⟨a1, a2, a3⟩, a4, a5, a6, a7, a8, a9⟩ := h3 k q
    have k8 : ¬ k = 8 := by omega
    simp only [xr, xf, q, if_true, vis, zu, k8, if_false]
    simp only [Nat.reduceEqDiff, if_false, if_true]
    exact ⟨a8, a9.elim Or.inl (fun z => Or.inr ⟨z, a1, by omega, a4, a5, a6, a7⟩)⟩
  · by_cases k8 : k = 8
    · subst k8
      simp only [xr, xf, q, if_true, if_false, vis, zu]
      simp only [Nat.reduceEqDiff, if_false, if_true]
      exact ⟨trivial, Or.inr ⟨⟨h, hh, rfl⟩, trivial, hW, trivial, trivial, hn, by omega⟩⟩
    · have e : xr G row (nI h) k = -9 := by
        unfold xr
        rw [if_neg q, if_neg k8]
      rw [e]
      have := h4 k (by omega) hk
      simp only [vis, zu, k8, if_true, if_false]
      simp only [Nat.reduceEqDiff, if_false, if_true]
      exact ⟨this, Or.inl trivial⟩
theorem vis_town (hT : CTn g H S kd bd gv rs dr) {x y z v : Int32} : CTn (vis g x y z v) H S kd bd gv rs dr := by
  have h7 := hT.2.1
  have e : ∀ a, a < 11 → vis g x y z v a = g a := fun a ha => by
    have e1 : a ≠ 11 := by omega
    have e2 : a ≠ 12 := by omega
    have e3 : a ≠ 13 := by omega
    have e4 : a ≠ 14 := by omega
    funext p
    simp [vis, zu, e1, e2, e3, e4]
  refine ⟨(by rw [e 1 (by omega)]; exact hT.1), h7, (by rw [e 1 (by omega)]; exact hT.2.2.1), hT.2.2.2.1, fun q hq => ?_⟩
  rw [e (3 + q) (by omega)]
  exact hT.2.2.2.2 q hq
theorem vis_back (hG : CGs g H G w f l row) {x y z v : Int32} (h : nf 24 (vis g x y z v) g') : qt g (zu g' 14 8 (-9)) := by
  have h8 := hG.2.2.2 8 hG.2.1 (by omega)
  have e : ∀ a, a ≠ 11 → a ≠ 12 → a ≠ 13 → a ≠ 14 → vis g x y z v a = g a := fun a e1 e2 e3 e4 => by
    funext p
    simp [vis, zu, e1, e2, e3, e4]
  have e' : ∀ a, a ≠ 11 → a ≠ 12 → a ≠ 13 → a ≠ 14 → (a < 25 ∨ 28 < a) → zu g' 14 8 (-9) a = g a := fun a e1 e2 e3 e4 e5 => by
    rw [← e a e1 e2 e3 e4, ← h a (by omega)]
    funext p; simp [zu, e4]
  refine ⟨⟨fun a x y => e' a (by omega) (by omega) (by omega) (by omega) (by omega), fun a k x y hk => ?_, fun a x y => ?_, fun a x => e' a (by omega) (by omega) (by omega) (by omega) (by omega), by rw [e' 0 (by omega) (by omega) (by omega) (by omega) (by omega)], by rw [e' 0 (by omega) (by omega) (by omega) (by omega) (by omega)]⟩, fun a ha => e' a (by omega) (by omega) (by omega) (by omega) (by omega)⟩
  · have a14 : a ≠ 14 := by omega
    have k8 : k ≠ 8 := by omega
    rw [show zu g' 14 8 (-9) a k = g' a k by simp [zu, a14], h a (by omega)]
    simp [vis, zu, k8]
  · by_cases q : a = 14
    · subst q
      funext p
      by_cases p8 : p = 8
      · subst p8; simp [zu, h8]
      · rw [show zu g' 14 8 (-9) 14 p = g' 14 p by simp [zu, p8], h 14 (by omega)]
        simp [vis, zu, p8]
    · exact e' a (by omega) (by omega) (by omega) q (by omega)
theorem li49 : (49 : Int32) = nI 49 := by decide
theorem kX8_na_loop {D : Nat → Nat → Nat} {h n : Nat} (hh : h < H) (hn : n ≤ 49) (hT : CTn g H S kd bd gv rs dr) (hD : ∀ d, d ≤ 50 → ∀ h, h < H → g (24 + 1) (7 * d + h) = nI (D d h) ∧ D d h ≤ 2000000) : ∀ e k, k + e = 50 → n ≤ k → go L xs 88 69 18 [some (.ref 0), some (.int (nI h)), some (.int (nI n)), some (.int (nI k))] [] (hp g t) = some (some (.int (nI (match ff (fun x => 50 * dr h ≤ D (x + 1) h) e k with
  | some x => x - n
  | none => 50 - n))), hp g t)
  | 0, k, hk, hnk => by
    have hk : k = 50 := by omega
    subst hk
    simp (disch := omega) only [sX8_nightsAbove_18, sX8_nightsAbove_19, sX8_nightsAbove_21, sX8_nightsAbove_44, sX8_nightsAbove_45, sX8_nightsAbove_46, sX8_nightsAbove_47, ↓reduceIte, if_true, if_false, Option.bind_some, Option.bind_none, Option.toList_some, Option.toList_none, List.cons_append, List.nil_append, Option.elim_some, true_or, or_true, or_false, false_or, true_and, and_true, and_false, false_and, zio1, zio0, zio01, not_true_eq_false, not_false_eq_true, nlt, neq, nlt0, n0lt, neq0, neq1, nm9, m9n, nadd, nadd1, nmul, ncl, zin_t, li50, Nat.lt_irrefl, nsub, ff]
  | e + 1, k, hk, hnk => by
    have q : k < 50 := by omega
    have h1 := kX3_isUnderAt (L := L) (xs := xs) (t := t) (o := 24) (d := k + 1) (Or.inr rfl) hT (by omega) hh (hD (k + 1) (by omega) h hh).1 (hD (k + 1) (by omega) h hh).2
    have ih := kX8_na_loop hh hn hT hD e (k + 1) (by omega) (by omega)
    unfold ff
    by_cases z : 50 * dr h ≤ D (k + 1) h
    · rw [if_pos z] at h1 ⊢
      simp (disch := omega) only [sX8_nightsAbove_18, sX8_nightsAbove_19, sX8_nightsAbove_21, sX8_nightsAbove_24, sX8_nightsAbove_25, sX8_nightsAbove_28, sX8_nightsAbove_29, sX8_nightsAbove_30, sX8_nightsAbove_31, sX8_nightsAbove_32, sX8_nightsAbove_35, sX8_nightsAbove_44, sX8_nightsAbove_45, sX8_nightsAbove_46, sX8_nightsAbove_47, ↓reduceIte, if_true, if_false, Option.bind_some, Option.bind_none, Option.toList_some, Option.toList_none, List.cons_append, List.nil_append, Option.elim_some, true_or, or_true, or_false, false_or, true_and, and_true, and_false, false_and, zio1, zio0, zio01, not_true_eq_false, not_false_eq_true, nlt, neq, nlt0, n0lt, neq0, neq1, nm9, m9n, nadd, nadd1, nmul, ncl, zin_t, li50, q, h1, nsub]
    · rw [if_neg z] at h1 ⊢
      rw [← ih, sX8_nightsAbove_18]
      simp (disch := omega) only [sX8_nightsAbove_19, sX8_nightsAbove_21, sX8_nightsAbove_24, sX8_nightsAbove_25, sX8_nightsAbove_28, sX8_nightsAbove_29, sX8_nightsAbove_30, sX8_nightsAbove_31, sX8_nightsAbove_32, sX8_nightsAbove_35, sX8_nightsAbove_38, sX8_nightsAbove_41, ↓reduceIte, if_true, if_false, Option.bind_some, Option.bind_none, Option.toList_some, Option.toList_none, List.cons_append, List.nil_append, Option.elim_some, true_or, or_true, or_false, false_or, true_and, and_true, and_false, false_and, zio1, zio0, zio01, not_true_eq_false, not_false_eq_true, nlt, neq, nlt0, n0lt, neq0, neq1, nm9, m9n, nadd, nadd1, nmul, ncl, zin_t, li50, q, h1]
theorem pX8_feast (hT : CTn g H S kd bd gv rs dr) (hG : CGs g H G w f l row) {x y z : Int32} : ∃ g' t', qt g g' ∧ go L xs 59 69 0 [some (.ref 0), some (.int x), some (.int y), some (.int z), none] [] (hp g t) = some (some (.int (if 0 ≤ x.toInt ∧ x.toInt < H then (if (1 ≤ y.toInt ∧ y.toInt ≤ 300) ∧ (0 ≤ z.toInt ∧ z.toInt ≤ 49) then nI (fst_ dr (dp H G kd gv rs w f l row x y.toInt.toNat z.toInt.toNat 0) x.toInt.toNat z.toInt.toNat) else -2) else -1)), hp g' t') := by
  have h1 := kX7_has (L := L) (xs := xs) (t := t) (x := x) hT
  have h2 := kX8_in (L := L) (xs := xs) (g := g) (t := t) (x := y) (a := 1) (b := 300) (lo := 1) (hi := 300) (by decide) (by decide)
  have h3 := kX8_isNight (L := L) (xs := xs) (g := g) (t := t) (x := z)
  have h7 := hT.2.1
  by_cases q1 : 0 ≤ x.toInt ∧ x.toInt < H
  · rw [if_pos q1] at h1 ⊢
    by_cases q2 : 1 ≤ y.toInt ∧ y.toInt ≤ 300
    · rw [if_pos q2] at h2
      by_cases q3 : 0 ≤ z.toInt ∧ z.toInt ≤ 49
      · rw [if_pos q3] at h3
        rw [if_pos ⟨q2, q3⟩]
        have hx := nI_back q1.1
        have hy := nI_back (x := y) (by omega)
        have hz := nI_back q3.1
        generalize hk : x.toInt.toNat = k at hx
        generalize hm : y.toInt.toNat = m at hy
        generalize hn : z.toInt.toNat = n at hz
        subst hx hy hz
        have G9 := vis_g9 hG (W := m) (n := n) (h := k) (by omega) (by omega) (by omega)
        have T9 := vis_town hT (x := nI m) (y := nI n) (z := nI 49) (v := nI k)
        obtain ⟨g1, t1, F1, a1, N1, e1⟩ := kX3_pass (L := L) (xs := xs) (t := t) (o := 24) (c := 14) (m := 50) (Or.inr rfl) (Or.inl rfl) (show 0 < H by omega) (by omega) T9 G9
        have e2 := kX8_na_loop (L := L) (xs := xs) (t := t1) (D := dp H G kd gv rs w f l row (nI k) m n 0) (h := k) (n := n) (show k < H by omega) (by omega) (F1.town (Or.inr rfl) T9) (fun d hd h hh => by
          have z1 := N1.1 d hd h hh
          have z2 := dpW_le2 (pl := 0) (W := W9 (xf G w m) (xf G f n) (xf G l 49) (xr G row (nI k))) T9 (fun _ h hh => W9_le G9 hh) hd hh
          rw [dpW_dp hG.2.1 h7 hd hh] at z1 z2
          exact ⟨z1, z2⟩) (50 - n) n (by omega) (by omega)
        refine ⟨zu g1 14 8 (-9), t1, vis_back hG F1, ?_⟩
        have e3 := kX0_enter (L := L) (xs := xs) (g := g) (t := t) (k := 8) (by omega) (x := nI m) (y := nI n) (z := nI 49)
        have e4 : go L xs 88 69 0 [some (.ref 0), some (.int (nI k)), some (.int (nI n)), none] [] (hp (vis g (nI m) (nI n) (nI 49) (nI k)) t) = some (some (.int (nI (fst_ dr (dp H G kd gv rs w f l row (nI k) m n 0) k n))), hp g1 t1) := by
          simp only [sX8_nightsAbove_0, sX8_nightsAbove_1, sX8_nightsAbove_4, sX8_nightsAbove_5, sX8_nightsAbove_8, sX8_nightsAbove_11, sX8_nightsAbove_13, sX8_nightsAbove_16, sX8_nightsAbove_17, ↓reduceIte, if_true, if_false, Option.bind_some, Option.bind_none, Option.toList_some, Option.toList_none, List.cons_append, List.nil_append, Option.elim_some, true_or, or_true, or_false, false_or, true_and, and_true, and_false, false_and, zio1, zio0, zio01, not_true_eq_false, not_false_eq_true, li50, e1]
          exact e2
        rw [show nI 8 = 8 by decide, show nI 49 = 49 by decide] at e3
        rw [show nI 49 = 49 by decide] at e4
        have c8 : (8 : Int32).toNatClampNeg = 8 := by decide
        have z8 : zin 8 9 = true := by decide
        simp (disch := omega) only [sX8_feast_0, sX8_feast_1, sX8_feast_4, sX8_feast_5, sX8_feast_8, sX8_feast_11, sX8_feast_12, sX8_feast_13, sX8_feast_14, sX8_feast_15, sX8_feast_18, sX8_feast_21, sX8_feast_24, sX8_feast_25, sX8_feast_28, sX8_feast_31, sX8_feast_33, sX8_feast_34, sX8_feast_35, sX8_feast_38, sX8_feast_40, sX8_feast_41, sX8_feast_42, sX8_feast_44, sX8_feast_47, sX8_feast_48, sX8_feast_51, sX8_feast_54, sX8_feast_56, sX8_feast_57, sX8_feast_58, sX8_feast_59, sX8_feast_60, sX8_feast_61, sX8_feast_64, sX8_feast_66, sX8_feast_67, sX8_feast_70, sX8_feast_73, sX8_feast_75, sX8_feast_77, sX8_feast_78, sX8_feast_80, ↓reduceIte, if_true, if_false, Option.bind_some, Option.bind_none, Option.toList_some, Option.toList_none, List.cons_append, List.nil_append, Option.elim_some, true_or, or_true, or_false, false_or, true_and, and_true, and_false, false_and, zio1, zio0, zio01, not_true_eq_false, not_false_eq_true, h1, h2, h3, e3, c8, z8, e4]
      · rw [if_neg q3] at h3
        rw [if_neg (fun q => q3 q.2)]
        refine ⟨g, t, qt.rf, ?_⟩
        simp (disch := omega) only [sX8_feast_0, sX8_feast_1, sX8_feast_4, sX8_feast_5, sX8_feast_8, sX8_feast_11, sX8_feast_12, sX8_feast_13, sX8_feast_14, sX8_feast_15, sX8_feast_18, sX8_feast_21, sX8_feast_24, sX8_feast_25, sX8_feast_28, sX8_feast_31, sX8_feast_33, ↓reduceIte, if_true, if_false, Option.bind_some, Option.bind_none, Option.toList_some, Option.toList_none, List.cons_append, List.nil_append, Option.elim_some, true_or, or_true, or_false, false_or, true_and, and_true, and_false, false_and, zio1, zio0, zio01, not_true_eq_false, not_false_eq_true, h1, h2, h3]
    · rw [if_neg q2] at h2
      rw [if_neg (fun q => q2 q.1)]
      refine ⟨g, t, qt.rf, ?_⟩
      simp (disch := omega) only [sX8_feast_0, sX8_feast_1, sX8_feast_4, sX8_feast_5, sX8_feast_8, sX8_feast_11, sX8_feast_12, sX8_feast_13, sX8_feast_14, sX8_feast_15, sX8_feast_18, sX8_feast_21, sX8_feast_24, sX8_feast_25, sX8_feast_28, sX8_feast_31, sX8_feast_33, ↓reduceIte, if_true, if_false, Option.bind_some, Option.bind_none, Option.toList_some, Option.toList_none, List.cons_append, List.nil_append, Option.elim_some, true_or, or_true, or_false, false_or, true_and, and_true, and_false, false_and, zio1, zio0, zio01, not_true_eq_false, not_false_eq_true, h1, h2]
  · rw [if_neg q1] at h1 ⊢
    refine ⟨g, t, qt.rf, ?_⟩
    simp (disch := omega) only [sX8_feast_0, sX8_feast_1, sX8_feast_4, sX8_feast_5, sX8_feast_8, sX8_feast_11, sX8_feast_12, sX8_feast_13, sX8_feast_14, sX8_feast_15, sX8_feast_18, sX8_feast_21, sX8_feast_24, sX8_feast_25, sX8_feast_28, sX8_feast_31, sX8_feast_33, ↓reduceIte, if_true, if_false, Option.bind_some, Option.bind_none, Option.toList_some, Option.toList_none, List.cons_append, List.nil_append, Option.elim_some, true_or, or_true, or_false, false_or, true_and, and_true, and_false, false_and, zio1, zio0, zio01, not_true_eq_false, not_false_eq_true, h1]
theorem kX4_ld_loop (hR : CRs g H R rh rd rt) : ∀ e k m, k + e = R → m ≤ 50 → (∀ j, j < k → rd j ≤ m) → ∃ m', m' ≤ 50 ∧ (∀ j, j < R → rd j ≤ m') ∧ go L xs 30 69 4 [some (.ref 15), some (.int (nI m)), some (.int (nI k))] [] (hp g t) = some (some (.int (nI m')), hp g t)
  | 0, k, m, hk, hm, h => by
    have hk : k = R := by omega
    subst hk
    obtain ⟨r1, r2, r3⟩ := id hR
    refine ⟨m, hm, h, ?_⟩
    simp (disch := omega) only [sX4_lastDawn_4, sX4_lastDawn_5, sX4_lastDawn_6, sX4_lastDawn_9, sX4_lastDawn_29, sX4_lastDawn_30, ↓reduceIte, if_true, if_false, Option.bind_some, Option.bind_none, Option.toList_some, Option.toList_none, List.cons_append, List.nil_append, Option.elim_some, true_or, or_true, or_false, false_or, true_and, and_true, and_false, false_and, zio1, zio0, zio01, not_true_eq_false, not_false_eq_true, nlt, neq, nlt0, n0lt, neq0, neq1, nm9, m9n, nadd, nadd1, nmul, ncl, zin_t, r1, Nat.lt_irrefl]
  | e + 1, k, m, hk, hm, h => by
    obtain ⟨r1, r2, r3⟩ := id hR
    have q : k < R := by omega
    obtain ⟨-, ⟨v1, v2⟩, -⟩ := r3 k q
    by_cases z : m < rd k
    · obtain ⟨m', a1, a2, a3⟩ := kX4_ld_loop hR e (k + 1) (rd k) (by omega) v2 (fun j hj => by
        by_cases y : j = k
        · subst y; omega
        · have := h j (by omega); omega)
      refine ⟨m', a1, a2, ?_⟩
      rw [← a3, sX4_lastDawn_4]
      simp (disch := omega) only [sX4_lastDawn_5, sX4_lastDawn_6, sX4_lastDawn_9, sX4_lastDawn_12, sX4_lastDawn_13, sX4_lastDawn_14, sX4_lastDawn_17, sX4_lastDawn_18, sX4_lastDawn_19, sX4_lastDawn_22, sX4_lastDawn_23, sX4_lastDawn_26, ↓reduceIte, if_true, if_false, Option.bind_some, Option.bind_none, Option.toList_some, Option.toList_none, List.cons_append, List.nil_append, Option.elim_some, true_or, or_true, or_false, false_or, true_and, and_true, and_false, false_and, zio1, zio0, zio01, not_true_eq_false, not_false_eq_true, nlt, neq, nlt0, n0lt, neq0, neq1, nm9, m9n, nadd, nadd1, nmul, ncl, zin_t, r1, q, v1, z]
    · obtain ⟨m', a1, a2, a3⟩ := kX4_ld_loop hR e (k + 1) m (by omega) hm (fun j hj => by
        by_cases y : j = k
        · subst y; omega
        · exact h j (by omega))
      refine ⟨m', a1, a2, ?_⟩
      rw [← a3, sX4_lastDawn_4]
      simp (disch := omega) only [sX4_lastDawn_5, sX4_lastDawn_6, sX4_lastDawn_9, sX4_lastDawn_12, sX4_lastDawn_13, sX4_lastDawn_14, sX4_lastDawn_17, sX4_lastDawn_18, sX4_lastDawn_19, sX4_lastDawn_22, sX4_lastDawn_23, sX4_lastDawn_26, ↓reduceIte, if_true, if_false, Option.bind_some, Option.bind_none, Option.toList_some, Option.toList_none, List.cons_append, List.nil_append, Option.elim_some, true_or, or_true, or_false, false_or, true_and, and_true, and_false, false_and, zio1, zio0, zio01, not_true_eq_false, not_false_eq_true, nlt, neq, nlt0, n0lt, neq0, neq1, nm9, m9n, nadd, nadd1, nmul, ncl, zin_t, r1, q, v1, z]
theorem kX4_lastDawn (hR : CRs g H R rh rd rt) : ∃ m', m' ≤ 50 ∧ (∀ j, j < R → rd j ≤ m') ∧ go L xs 30 69 0 [some (.ref 15), none, none] [] (hp g t) = some (some (.int (nI m')), hp g t) := by
  obtain ⟨m', a1, a2, a3⟩ := kX4_ld_loop (L := L) (xs := xs) (t := t) hR R 0 0 (by omega) (by omega) (fun j hj => absurd hj (by omega))
  refine ⟨m', a1, a2, ?_⟩
  rw [nI_0] at a3
  simp only [sX4_lastDawn_0, sX4_lastDawn_1, sX4_lastDawn_2, sX4_lastDawn_3]
  exact a3
theorem kX8_couldSleep (hT : CTn g H S kd bd gv rs dr) (hG : CGs g H G w f l row) (hR : CRs g H R rh rd rt) {h W : Nat} (hh : h < H) (hW : W ≤ 30) : ∃ g' t', qt g g' ∧ go L xs 89 69 0 [some (.ref 0), some (.int (nI h)), some (.int (nI W))] [] (hp g t) = some (some (.int (if unp H G R kd gv rs w f l rh rd rt row h W = true then 1 else 0)), hp g' t') := by
  have h7 := hT.2.1
  have G9 := vis_g9 hG (W := W) (n := 0) (h := h) hh (by omega) (by omega)
  have T9 := vis_town hT (x := nI W) (y := nI 0) (z := nI 49) (v := nI h)
  have R9 : CRs (vis g (nI W) (nI 0) (nI 49) (nI h)) H R rh rd rt := by
    obtain ⟨r1, r2, r3⟩ := hR
    refine ⟨by simpa [vis, zu] using r1, r2, fun k hk => ?_⟩
    have := r3 k hk
    simpa [vis, zu] using this
  obtain ⟨m, b1, b2, b3⟩ := kX4_lastDawn (L := L) (xs := xs) (t := t) R9
  obtain ⟨g1, t1, F1, a1, N1, e1⟩ := kX3_pass (L := L) (xs := xs) (t := t) (o := 24) (c := 14) (m := m) (Or.inr rfl) (Or.inl rfl) (show 0 < H by omega) b1 T9 G9
  have Q := vis_back hG F1
  refine ⟨zu g1 14 8 (-9), t1, Q, ?_⟩
  have e2 := kX4_areSo (L := L) (xs := xs) (t := t1) (o := 24) (D := dp H G kd gv rs w f l row (nI h) W 0 0) (Or.inr rfl) h7 (Q.1.reads hR) (fun k hk => by
    have hd := b2 k hk
    have hk2 := (hR.2.2 k hk).1.2
    have z1 := N1.1 (rd k) hd (rh k) hk2
    have z2 := dpW_le2 (pl := 0) (W := W9 (xf G w W) (xf G f 0) (xf G l 49) (xr G row (nI h))) T9 (fun _ h hh => W9_le G9 hh) (show rd k ≤ 50 by omega) hk2
    rw [dpW_dp hG.2.1 h7 (by omega) hk2] at z1 z2
    refine ⟨?_, z2⟩
    rw [← z1]
    simp [zu])
  have e3 := kX0_enter (L := L) (xs := xs) (g := g) (t := t) (k := 8) (by omega) (x := nI W) (y := nI 0) (z := nI 49)
  rw [show nI 8 = 8 by decide, nI_0, show nI 49 = 49 by decide] at e3
  rw [nI_0, show nI 49 = 49 by decide] at b3 e1
  have c8 : (8 : Int32).toNatClampNeg = 8 := by decide
  have z8 : zin 8 9 = true := by decide
  have hz : ((if unp H G R kd gv rs w f l rh rd rt row h W = true then (1 : Int32) else 0) = 0 ∨ (if unp H G R kd gv rs w f l rh rd rt row h W = true then (1 : Int32) else 0) = 1) := by split <;> simp
  simp (disch := omega) only [sX8_couldSleep_0, sX8_couldSleep_1, sX8_couldSleep_4, sX8_couldSleep_6, sX8_couldSleep_7, sX8_couldSleep_8, sX8_couldSleep_10, sX8_couldSleep_13, sX8_couldSleep_14, sX8_couldSleep_17, sX8_couldSleep_20, sX8_couldSleep_22, sX8_couldSleep_23, sX8_couldSleep_24, sX8_couldSleep_25, sX8_couldSleep_28, sX8_couldSleep_29, sX8_couldSleep_32, sX8_couldSleep_35, sX8_couldSleep_36, sX8_couldSleep_39, sX8_couldSleep_42, sX8_couldSleep_45, sX8_couldSleep_46, sX8_couldSleep_49, sX8_couldSleep_52, sX8_couldSleep_54, sX8_couldSleep_56, sX8_couldSleep_57, sX8_couldSleep_58, sX8_couldSleep_61, sX8_couldSleep_62, sX8_couldSleep_65, sX8_couldSleep_68, ↓reduceIte, if_true, if_false, Option.bind_some, Option.bind_none, Option.toList_some, Option.toList_none, List.cons_append, List.nil_append, Option.elim_some, true_or, or_true, or_false, false_or, true_and, and_true, and_false, false_and, zio1, zio0, zio01, not_true_eq_false, not_false_eq_true, e3, c8, z8, b3, e1, e2, eq_true hz]
theorem kX8_us1 {x : Int32} {h : Nat} (hh : h < H) (h7 : H ≤ 7) : ∀ e k (g : Nat → Nat → Int32) (t : Nat → Int64) (b : Nat × Nat), k + e = 31 → 1 ≤ k → b.2 ≤ 1000 → b.1 + e ≤ 1000 → CTn g H S kd bd gv rs dr → CGs g H G w f l row → CRs g H R rh rd rt → ∃ g' t', qt g g' ∧ go L xs 64 69 48 [some (.ref 0), some (.int x), some (.int (nI b.1)), some (.int (if b.1 = 0 then -9 else nI b.2)), some (.int (nI h)), some (.int (nI k))] [] (hp g t) = go L xs 64 69 92 [some (.ref 0), some (.int x), some (.int (nI (us1 (unp H G R kd gv rs w f l rh rd rt row h) h e k b).1)), some (.int (if (us1 (unp H G R kd gv rs w f l rh rd rt row h) h e k b).1 = 0 then -9 else nI (us1 (unp H G R kd gv rs w f l rh rd rt row h) h e k b).2)), some (.int (nI h)), some (.int (nI 31))] [] (hp g' t')
  | 0, k, g, t, b, hk, _, _, _, hT, hG, hR => by
    have hk : k = 31 := by omega
    subst hk
    refine ⟨g, t, qt.rf, ?_⟩
    simp (disch := omega) only [sX8_unseen_48, sX8_unseen_50, sX8_unseen_52, ↓reduceIte, if_true, if_false, Option.bind_some, Option.bind_none, Option.toList_some, Option.toList_none, List.cons_append, List.nil_append, Option.elim_some, true_or, or_true, or_false, false_or, true_and, and_true, and_false, false_and, zio1, zio0, zio01, not_true_eq_false, not_false_eq_true, nlt, neq, nlt0, n0lt, neq0, neq1, nm9, m9n, nadd, nadd1, nmul, ncl, zin_t, li30, (show 30 < 31 by omega), us1] <;> rfl
  | e + 1, k, g, t, b, hk, hk1, hb2, hb1, hT, hG, hR => by
    have hlt : ¬ 30 < k := by omega
    obtain ⟨g1, t1, Q1, e1⟩ := kX8_couldSleep (L := L) (xs := xs) (t := t) (W := k) hT hG hR hh (by omega)
    unfold us1
    by_cases q : unp H G R kd gv rs w f l rh rd rt row h k = true
    · rw [if_pos q] at e1
      rw [if_pos q]
      by_cases q0 : b.1 = 0
      · obtain ⟨g2, t2, Q2, e2⟩ := kX8_us1 (x := x) hh h7 e (k + 1) g1 t1 (b.1 + 1, 100 * h + k) (by omega) (by omega) (by dsimp only; omega) (by dsimp only; omega) (Q1.1.town hT) (Q1.1.guests hG) (Q1.1.reads hR)
        refine ⟨g2, t2, Q1.tr Q2, ?_⟩
        rw [if_pos q0, if_pos q0]
        dsimp only at e2
        rw [if_neg (show ¬ b.1 + 1 = 0 by omega)] at e2
        rw [← e2, sX8_unseen_48]
        have h100 : (100 : Int32) = nI 100 := by decide
        simp (disch := omega) only [sX8_unseen_50, sX8_unseen_52, sX8_unseen_55, sX8_unseen_56, sX8_unseen_58, sX8_unseen_60, sX8_unseen_63, sX8_unseen_66, sX8_unseen_67, sX8_unseen_70, sX8_unseen_72, sX8_unseen_74, sX8_unseen_75, sX8_unseen_77, sX8_unseen_78, sX8_unseen_81, sX8_unseen_82, sX8_unseen_83, sX8_unseen_86, sX8_unseen_89, ↓reduceIte, if_true, if_false, Option.bind_some, Option.bind_none, Option.toList_some, Option.toList_none, List.cons_append, List.nil_append, Option.elim_some, true_or, or_true, or_false, false_or, true_and, and_true, and_false, false_and, zio1, zio0, zio01, not_true_eq_false, not_false_eq_true, nlt, neq, nlt0, n0lt, neq0, neq1, nm9, m9n, nadd, nadd1, nmul, ncl, zin_t, li30, hlt, e1, q0, h100, Nat.zero_add]
      · obtain ⟨g2, t2, Q2, e2⟩ := kX8_us1 (x := x) hh h7 e (k + 1) g1 t1 (b.1 + 1, b.2) (by omega) (by omega) (by dsimp only; omega) (by dsimp only; omega) (Q1.1.town hT) (Q1.1.guests hG) (Q1.1.reads hR)
        refine ⟨g2, t2, Q1.tr Q2, ?_⟩
        rw [if_neg q0]
        dsimp only at e2
        rw [if_neg (show ¬ b.1 + 1 = 0 by omega)] at e2
        rw [if_neg q0, ← e2, sX8_unseen_48]
        simp (disch := omega) only [sX8_unseen_50, sX8_unseen_52, sX8_unseen_55, sX8_unseen_56, sX8_unseen_58, sX8_unseen_60, sX8_unseen_63, sX8_unseen_66, sX8_unseen_67, sX8_unseen_70, sX8_unseen_72, sX8_unseen_74, sX8_unseen_75, sX8_unseen_77, sX8_unseen_78, sX8_unseen_81, sX8_unseen_82, sX8_unseen_83, sX8_unseen_86, sX8_unseen_89, ↓reduceIte, if_true, if_false, Option.bind_some, Option.bind_none, Option.toList_some, Option.toList_none, List.cons_append, List.nil_append, Option.elim_some, true_or, or_true, or_false, false_or, true_and, and_true, and_false, false_and, zio1, zio0, zio01, not_true_eq_false, not_false_eq_true, nlt, neq, nlt0, n0lt, neq0, neq1, nm9, m9n, nadd, nadd1, nmul, ncl, zin_t, li30, hlt, e1, q0]
    · rw [if_neg q] at e1
      rw [if_neg q]
      obtain ⟨g2, t2, Q2, e2⟩ := kX8_us1 (x := x) hh h7 e (k + 1) g1 t1 b (by omega) (by omega) hb2 (by omega) (Q1.1.town hT) (Q1.1.guests hG) (Q1.1.reads hR)
      refine ⟨g2, t2, Q1.tr Q2, ?_⟩
      rw [← e2, sX8_unseen_48]
      simp (disch := omega) only [sX8_unseen_50, sX8_unseen_52, sX8_unseen_55, sX8_unseen_56, sX8_unseen_58, sX8_unseen_60, sX8_unseen_63, sX8_unseen_66, sX8_unseen_67, sX8_unseen_70, sX8_unseen_72, sX8_unseen_74, sX8_unseen_75, sX8_unseen_77, sX8_unseen_78, sX8_unseen_81, sX8_unseen_82, sX8_unseen_83, sX8_unseen_86, sX8_unseen_89, ↓reduceIte, if_true, if_false, Option.bind_some, Option.bind_none, Option.toList_some, Option.toList_none, List.cons_append, List.nil_append, Option.elim_some, true_or, or_true, or_false, false_or, true_and, and_true, and_false, false_and, zio1, zio0, zio01, not_true_eq_false, not_false_eq_true, nlt, neq, nlt0, n0lt, neq0, neq1, nm9, m9n, nadd, nadd1, nmul, ncl, zin_t, li30, hlt, e1]
theorem kX8_us2 {x : Int32} (h7 : H ≤ 7) : ∀ e h (g : Nat → Nat → Int32) (t : Nat → Int64) (b : Nat × Nat) (x5 : Option Value), h + e = H → b.2 ≤ 1000 → b.1 + 30 * e ≤ 1000 → CTn g H S kd bd gv rs dr → CGs g H G w f l row → CRs g H R rh rd rt → ∃ g' t', qt g g' ∧ go L xs 64 69 33 [some (.ref 0), some (.int x), some (.int (nI b.1)), some (.int (if b.1 = 0 then -9 else nI b.2)), some (.int (nI h)), x5] [] (hp g t) = some (some (.int (if x = 0 then nI (us2 (unp H G R kd gv rs w f l rh rd rt row) e h b).1 else if (us2 (unp H G R kd gv rs w f l rh rd rt row) e h b).1 = 0 then -9 else nI (us2 (unp H G R kd gv rs w f l rh rd rt row) e h b).2)), hp g' t')
  | 0, h, g, t, b, x5, hk, _, _, hT, hG, hR => by
    have hk : h = H := by omega
    subst hk
    refine ⟨g, t, qt.rf, ?_⟩
    have t1 := hT.1
    by_cases q : x = 0
    · simp (disch := omega) only [sX8_unseen_33, sX8_unseen_35, sX8_unseen_36, sX8_unseen_39, sX8_unseen_42, sX8_unseen_98, sX8_unseen_99, sX8_unseen_102, sX8_unseen_103, sX8_unseen_106, sX8_unseen_107, ↓reduceIte, if_true, if_false, Option.bind_some, Option.bind_none, Option.toList_some, Option.toList_none, List.cons_append, List.nil_append, Option.elim_some, true_or, or_true, or_false, false_or, true_and, and_true, and_false, false_and, zio1, zio0, zio01, not_true_eq_false, not_false_eq_true, nlt, neq, nlt0, n0lt, neq0, neq1, nm9, m9n, nadd, nadd1, nmul, ncl, zin_t, t1, Nat.lt_irrefl, q, us2] <;> rfl
    · simp (disch := omega) only [sX8_unseen_33, sX8_unseen_35, sX8_unseen_36, sX8_unseen_39, sX8_unseen_42, sX8_unseen_98, sX8_unseen_99, sX8_unseen_102, sX8_unseen_103, sX8_unseen_106, sX8_unseen_107, ↓reduceIte, if_true, if_false, Option.bind_some, Option.bind_none, Option.toList_some, Option.toList_none, List.cons_append, List.nil_append, Option.elim_some, true_or, or_true, or_false, false_or, true_and, and_true, and_false, false_and, zio1, zio0, zio01, not_true_eq_false, not_false_eq_true, nlt, neq, nlt0, n0lt, neq0, neq1, nm9, m9n, nadd, nadd1, nmul, ncl, zin_t, t1, Nat.lt_irrefl, q, us2] <;> rfl
  | e + 1, h, g, t, b, x5, hk, hb2, hb1, hT, hG, hR => by
    have hlt : h < H := by omega
    have t1 := hT.1
    obtain ⟨g1, t1', Q1, e1⟩ := kX8_us1 (L := L) (xs := xs) (x := x) (h := h) hlt h7 30 1 g t b (by omega) (by omega) hb2 (by omega) hT hG hR
    have hle := us1_le (P := unp H G R kd gv rs w f l rh rd rt row h) (h := h) (by omega) 30 1 b (by omega) ⟨hb2, by omega⟩
    obtain ⟨g2, t2, Q2, e2⟩ := kX8_us2 (x := x) h7 e (h + 1) g1 t1' (us1 (unp H G R kd gv rs w f l rh rd rt row h) h 30 1 b) (some (.int (nI 31))) (by omega) hle.1 (by omega) (Q1.1.town hT) (Q1.1.guests hG) (Q1.1.reads hR)
    refine ⟨g2, t2, Q1.tr Q2, ?_⟩
    rw [sX8_unseen_33]
    simp (disch := omega) only [sX8_unseen_35, sX8_unseen_36, sX8_unseen_39, sX8_unseen_42, sX8_unseen_45, sX8_unseen_46, ↓reduceIte, if_true, if_false, Option.bind_some, Option.bind_none, Option.toList_some, Option.toList_none, List.cons_append, List.nil_append, Option.elim_some, true_or, or_true, or_false, false_or, true_and, and_true, and_false, false_and, zio1, zio0, zio01, not_true_eq_false, not_false_eq_true, nlt, neq, nlt0, n0lt, neq0, neq1, nm9, m9n, nadd, nadd1, nmul, ncl, zin_t, t1, hlt]
    rw [show (1 : Int32) = nI 1 by decide, e1]
    simp (disch := omega) only [sX8_unseen_92, sX8_unseen_95, ↓reduceIte, if_true, if_false, Option.bind_some, Option.bind_none, Option.toList_some, Option.toList_none, List.cons_append, List.nil_append, Option.elim_some, true_or, or_true, or_false, false_or, true_and, and_true, and_false, false_and, zio1, zio0, zio01, not_true_eq_false, not_false_eq_true, nlt, neq, nlt0, n0lt, neq0, neq1, nm9, m9n, nadd, nadd1, nmul, ncl, zin_t]
    exact e2
theorem pX8_unseen (hT : CTn g H S kd bd gv rs dr) (hG : CGs g H G w f l row) (hR : CRs g H R rh rd rt) {x : Int32} : ∃ g' t', qt g g' ∧ go L xs 64 69 0 [some (.ref 0), some (.int x), none, none, none, none] [] (hp g t) = some (some (.int (if 0 ≤ x.toInt ∧ x.toInt ≤ 1 then (if H = 0 then -3 else if x = 0 then nI (us2 (unp H G R kd gv rs w f l rh rd rt row) H 0 (0, 0)).1 else if (us2 (unp H G R kd gv rs w f l rh rd rt row) H 0 (0, 0)).1 = 0 then -9 else nI (us2 (unp H G R kd gv rs w f l rh rd rt row) H 0 (0, 0)).2) else -2)), hp g' t') := by
  have hin := kX8_in (L := L) (xs := xs) (g := g) (t := t) (x := x) (a := 0) (b := 1) (lo := 0) (hi := 1) (by decide) (by decide)
  have t1 := hT.1
  have h7 := hT.2.1
  by_cases q : 0 ≤ x.toInt ∧ x.toInt ≤ 1
  · rw [if_pos q] at hin ⊢
    by_cases q3 : H = 0
    · refine ⟨g, t, qt.rf, ?_⟩
      rw [if_pos q3]
      simp (disch := omega) only [sX8_unseen_0, sX8_unseen_1, sX8_unseen_2, sX8_unseen_3, sX8_unseen_6, sX8_unseen_9, sX8_unseen_11, sX8_unseen_12, sX8_unseen_13, sX8_unseen_16, sX8_unseen_19, sX8_unseen_22, sX8_unseen_24, ↓reduceIte, if_true, if_false, Option.bind_some, Option.bind_none, Option.toList_some, Option.toList_none, List.cons_append, List.nil_append, Option.elim_some, true_or, or_true, or_false, false_or, true_and, and_true, and_false, false_and, zio1, zio0, zio01, not_true_eq_false, not_false_eq_true, nlt, neq, nlt0, n0lt, neq0, neq1, nm9, m9n, nadd, nadd1, nmul, ncl, zin_t, hin, t1, q3, nI_0]
    · obtain ⟨g2, t2, Q2, e2⟩ := kX8_us2 (L := L) (xs := xs) (x := x) h7 H 0 g t (0, 0) none (by omega) (by dsimp only; omega) (by dsimp only; omega) hT hG hR
      refine ⟨g2, t2, Q2, ?_⟩
      dsimp only at e2
      rw [nI_0, if_pos rfl] at e2
      rw [if_neg q3, ← e2]
      simp (disch := omega) only [sX8_unseen_0, sX8_unseen_1, sX8_unseen_2, sX8_unseen_3, sX8_unseen_6, sX8_unseen_9, sX8_unseen_11, sX8_unseen_12, sX8_unseen_13, sX8_unseen_16, sX8_unseen_19, sX8_unseen_22, sX8_unseen_24, sX8_unseen_25, sX8_unseen_26, sX8_unseen_27, sX8_unseen_29, sX8_unseen_30, sX8_unseen_31, ↓reduceIte, if_true, if_false, Option.bind_some, Option.bind_none, Option.toList_some, Option.toList_none, List.cons_append, List.nil_append, Option.elim_some, true_or, or_true, or_false, false_or, true_and, and_true, and_false, false_and, zio1, zio0, zio01, not_true_eq_false, not_false_eq_true, nlt, neq, nlt0, n0lt, neq0, neq1, nm9, m9n, nadd, nadd1, nmul, ncl, zin_t, hin, t1, q3]
  · rw [if_neg q] at hin ⊢
    refine ⟨g, t, qt.rf, ?_⟩
    simp (disch := omega) only [sX8_unseen_0, sX8_unseen_1, sX8_unseen_2, sX8_unseen_3, sX8_unseen_6, sX8_unseen_9, sX8_unseen_11, sX8_unseen_12, sX8_unseen_13, sX8_unseen_16, sX8_unseen_19, sX8_unseen_22, sX8_unseen_24, ↓reduceIte, if_true, if_false, Option.bind_some, Option.bind_none, Option.toList_some, Option.toList_none, List.cons_append, List.nil_append, Option.elim_some, true_or, or_true, or_false, false_or, true_and, and_true, and_false, false_and, zio1, zio0, zio01, not_true_eq_false, not_false_eq_true, nlt, neq, nlt0, n0lt, neq0, neq1, nm9, m9n, nadd, nadd1, nmul, ncl, zin_t, hin]
end C8
