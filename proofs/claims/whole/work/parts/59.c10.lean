/-! The class: lodgings. -/
section C10
variable {L : Nat} {xs : Nat → Int32} {g g' : Nat → Nat → Int32} {t : Nat → Int64}
variable {H S G R : Nat} {kd bd gv rs dr w f l rh rd rt : Nat → Nat} {row : Nat → Int32}
theorem bit_or : ∀ m, m < 32 → ∀ k, k < 5 → ((m ||| 2 ^ k) < 32 ∧ ∀ j, j < 5 → ((m ||| 2 ^ k) / 2 ^ j % 2 = 1 → j = k ∨ m / 2 ^ j % 2 = 1)) := by decide +kernel
/-- what one search of lodgings may change -/
def sk (k : Nat) (g g' : Nat → Nat → Int32) : Prop := (∀ a, (a < 25 ∨ a = 29 ∨ 32 < a) → g' a = g a) ∧ (∀ j, j ≠ k → g' 31 j = g 31 j) ∧ ∀ j, (j < 4 * k ∨ 4 * k + k ≤ j) → g' 32 j = g 32 j
theorem sk.rf {k : Nat} : sk k g g := ⟨fun _ _ => rfl, fun _ _ => rfl, fun _ _ => rfl⟩
theorem sk.tr {k : Nat} {g1 g2 g3 : Nat → Nat → Int32} (h : sk k g1 g2) (h' : sk k g2 g3) : sk k g1 g3 := ⟨fun a ha => (h'.1 a ha).trans (h.1 a ha), fun a ha => (h'.2.1 a ha).trans (h.2.1 a ha), fun a ha => (h'.2.2 a ha).trans (h.2.2 a ha)⟩
theorem sk.eb {k : Nat} (h : sk k g g') : eb g g' := fun a ha => h.1 a (by omega)
theorem sk_nf {k : Nat} (h : nf 24 g g') : sk k g g' := ⟨fun a ha => h a (by omega), fun j _ => by rw [h 31 (by omega)], fun j _ => by rw [h 32 (by omega)]⟩
theorem sk_30 {k : Nat} (h : ∀ a, a ≠ 30 → g' a = g a) : sk k g g' := ⟨fun a ha => h a (by omega), fun j _ => by rw [h 31 (by omega)], fun j _ => by rw [h 32 (by omega)]⟩
theorem kX2_ly_loop {k r : Nat} (hk : k ≤ 4) (hr : r < 3000) (h0 : 0 < H) (h7 : H ≤ 7) {x1 x2 : Option Value} : ∀ m (x : Int32) (g : Nat → Nat → Int32), m ≤ k → x = nI m - 1 → g 1 1 = nI H → (∀ q, m ≤ q → q < k → g 30 q = nI (r / H ^ (k - 1 - q) % H)) → ∃ g', (∀ a, a ≠ 30 → g' a = g a) ∧ (∀ q, q < k → g' 30 q = nI (r / H ^ (k - 1 - q) % H)) ∧ (∀ q, k ≤ q → g' 30 q = g 30 q) ∧ go L xs 14 69 7 [some (.ref 29), x1, x2, some (.int (nI (r / H ^ (k - m)))), some (.int x)] [] (hp g t) = some (none, hp g' t)
  | 0, x, g, hm, hx, t1, h56 => by
    subst hx
    refine ⟨g, fun _ _ => rfl, fun q hq => h56 q (by omega) hq, fun _ _ => rfl, ?_⟩
    simp (disch := omega) only [sX2_layOut_7, sX2_layOut_9, sX2_layOut_54, ↓reduceIte, if_true, if_false, Option.bind_some, Option.bind_none, Option.toList_some, Option.toList_none, List.cons_append, List.nil_append, Option.elim_some, true_or, or_true, or_false, false_or, true_and, and_true, and_false, false_and, zio1, zio0, zio01, not_true_eq_false, not_false_eq_true, n0m1]
  | m + 1, x, g, hm, hx, t1, h56 => by
    rw [nsub1 (by omega), Nat.add_sub_cancel] at hx
    subst hx
    have hne : ¬ nI H = 0 := by rw [neq0 (by omega)]; omega
    have hle : r / H ^ (k - (m + 1)) ≤ r := Nat.div_le_self _ _
    have hd : nI (r / H ^ (k - (m + 1))) / nI H = nI (r / H ^ (k - m)) := by
      rw [ndiv (by omega) h0 (by omega), Nat.div_div_eq_div_mul, ← Nat.pow_succ, show (k - (m + 1)).succ = k - m by omega]
    have hdn : r / H ^ (k - (m + 1)) / H = r / H ^ (k - m) := by
      rw [Nat.div_div_eq_div_mul, ← Nat.pow_succ, show (k - (m + 1)).succ = k - m by omega]
    have hre : nI (r / H ^ (k - (m + 1))) - nI (r / H ^ (k - m) * H) = nI (r / H ^ (k - 1 - m) % H) := by
      rw [← hdn, nrem2 (by omega) h0 (by omega), show k - (m + 1) = k - 1 - m by omega]
    obtain ⟨g', a1, a2, a3, a4⟩ := kX2_ly_loop hk hr h0 h7 (x1 := x1) (x2 := x2) m (nI m - 1) (zu g 30 m (nI (r / H ^ (k - 1 - m) % H))) (by omega) rfl (by simpa [zu] using t1) (fun q hq1 hq2 => by
      by_cases q2 : q = m
      · subst q2; simp [zu]
      · simp [zu, q2, h56 q (by omega) hq2])
    refine ⟨g', fun a ha => (a1 a ha).trans (by funext q; simp [zu, ha]), a2, fun q hq => (a3 q hq).trans (by
      have : q ≠ m := by omega
      simp [zu, this]), ?_⟩
    rw [← a4, sX2_layOut_7]
    simp (disch := omega) only [sX2_layOut_9, sX2_layOut_12, sX2_layOut_13, sX2_layOut_16, sX2_layOut_19, sX2_layOut_22, sX2_layOut_23, sX2_layOut_26, sX2_layOut_28, sX2_layOut_29, sX2_layOut_30, sX2_layOut_33, sX2_layOut_37, sX2_layOut_38, sX2_layOut_39, sX2_layOut_40, sX2_layOut_43, sX2_layOut_47, sX2_layOut_48, sX2_layOut_51, sX2_layOut_36 hne, sX2_layOut_46 hne, ↓reduceIte, if_true, if_false, Option.bind_some, Option.bind_none, Option.toList_some, Option.toList_none, List.cons_append, List.nil_append, Option.elim_some, true_or, or_true, or_false, false_or, true_and, and_true, and_false, false_and, zio1, zio0, zio01, not_true_eq_false, not_false_eq_true, nlt, neq, nlt0, n0lt, neq0, neq1, nm9, m9n, nadd, nadd1, nmul, ncl, zin_t, t1, eq_true h0, hd, hre, m1_e, zuA, Nat.reduceEqDiff]
theorem kX2_layOut {k r : Nat} (hk1 : 1 ≤ k) (hk : k ≤ 4) (hr : r < 3000) (h0 : 0 < H) (h7 : H ≤ 7) (t1 : g 1 1 = nI H) : ∃ g', (∀ a, a ≠ 30 → g' a = g a) ∧ (∀ q, q < k → g' 30 q = nI (r / H ^ (k - 1 - q) % H)) ∧ (∀ q, k ≤ q → g' 30 q = g 30 q) ∧ go L xs 14 69 0 [some (.ref 29), some (.int (nI r)), some (.int (nI k)), none, none] [] (hp g t) = some (none, hp g' t) := by
  obtain ⟨g', a1, a2, a3, a4⟩ := kX2_ly_loop (L := L) (xs := xs) (t := t) (x1 := some (.int (nI r))) (x2 := some (.int (nI k))) hk hr h0 h7 k (nI k - 1) g (by omega) rfl t1 (fun q h1 h2 => absurd h2 (by omega))
  refine ⟨g', a1, a2, a3, ?_⟩
  rw [Nat.sub_self, Nat.pow_zero, Nat.div_one] at a4
  simp only [sX2_layOut_0, sX2_layOut_1, sX2_layOut_2, sX2_layOut_3, sX2_layOut_4, sX2_layOut_5]
  exact a4
theorem zcpA (g : Nat → Nat → Int32) (k0 k1 sp dp n a b : Nat) : zcp g k0 k1 sp dp n a b = if a = k1 then (if dp ≤ b ∧ b < dp + n then g k0 (sp + (b - dp)) else g a b) else g a b := rfl
theorem al30 : 0 < zal 30 := by decide +kernel
theorem al32 : 0 < zal 32 := by decide +kernel
theorem al14 : 0 < zal 14 := by decide +kernel
theorem al34 : 0 < zal 34 := by decide +kernel
theorem al35 : 0 < zal 35 := by decide +kernel
theorem ea : zal 30 = 9 ∧ zal 32 = 20 ∧ zal 14 = 9 ∧ zal 34 = 9 ∧ zal 35 = 459 := by decide +kernel
theorem kX2_keepIfFewer {k : Nat} {b : Option (Nat × Nat)} {r : Nat} (hk1 : 1 ≤ k) (hk : k ≤ 4) (h0 : 0 < H) (hT : CTn g H S kd bd gv rs dr) (hb : CGb g G w f l) (hr : CRw g 30 H G row) (hf : g 31 k = nI (c1v b)) (hb3 : ∀ q, b = some q → q.1 ≤ 300) : ∃ g' t' s, sk k g g' ∧ g' 30 = g 30 ∧ (s < c1v b ∨ apl H S G kd gv rs w f l row (-9) 0 0 0 < c1v b → s = apl H S G kd gv rs w f l row (-9) 0 0 0) ∧ s ≤ 300 ∧ g' 31 k = nI (c1v (if s < c1v b then some (s, r) else b)) ∧ (∀ j, j < k → g' 32 (4 * k + j) = if s < c1v b then g 30 j else g 32 (4 * k + j)) ∧ go L xs 15 69 0 [some (.ref 29), some (.int (nI k)), none] [] (hp g t) = some (none, hp g' t') := by
  have h7 := hT.2.1
  obtain ⟨ea1, ea2, -⟩ := ea
  have hcb : c1v b ≤ 350 := by
    cases b with
    | none => exact Nat.le_refl _
    | some q => have := hb3 q rfl; show q.1 ≤ 350; omega
  obtain ⟨g1, t1', s, F1, a1, s1, s2, e1⟩ := kX3_planksBelow (L := L) (xs := xs) (t := t) (o := 24) (c := 30) (pl := 0) (en := c1v b) (Or.inr rfl) (Or.inr (Or.inl rfl)) (by omega) h0 hcb hT (g9_of hb hr)
  rw [aplW_apl hb.2.1 h7] at s2
  rw [nI_0] at e1
  have f31 : g1 31 = g 31 := F1 31 (by omega)
  have f30 : g1 30 = g 30 := F1 30 (by omega)
  have f32 : g1 32 = g 32 := F1 32 (by omega)
  by_cases z : s < c1v b
  · have hcp : ¬ (0 : Int32) < 0 ∧ ¬ nI (k * 4) < 0 ∧ ¬ nI k < 0 ∧ (0 : Int32).toNatClampNeg + (nI k).toNatClampNeg ≤ zal 30 ∧ (nI (k * 4)).toNatClampNeg + (nI k).toNatClampNeg ≤ zal 32 := by
      rw [ea1, ea2, ncl (by omega), ncl (by omega)]
      refine ⟨by decide, nI_pos (by omega), nI_pos (by omega), ?_, by omega⟩
      show 0 + k ≤ 9
      omega
    refine ⟨zcp (zu g1 31 k (nI s)) 30 32 0 (k * 4) k, t1', s, ?_, ?_, s2, s1, ?_, ?_, ?_⟩
    · refine (sk_nf F1).tr ⟨fun a ha => ?_, fun j hj => ?_, fun j hj => ?_⟩
      · funext q
        have z1 : a ≠ 31 := by omega
        have z2 : a ≠ 32 := by omega
        simp only [zcpA, zuA, z1, z2, if_false]
      · simp only [zcpA, zuA, hj, if_false, if_true, Nat.reduceEqDiff]
      · have : ¬ (k * 4 ≤ j ∧ j < k * 4 + k) := by omega
        simp only [zcpA, zuA, this, if_false, if_true, Nat.reduceEqDiff]
    · funext q
      rw [← f30]
      simp only [zcpA, zuA, if_false, Nat.reduceEqDiff]
    · rw [if_pos z]; simp only [zcpA, zuA, if_false, if_true, Nat.reduceEqDiff, c1v]
    · intro j hj
      have : k * 4 ≤ 4 * k + j ∧ 4 * k + j < k * 4 + k := by omega
      rw [if_pos z]
      simp only [zcpA, zuA, this, if_false, if_true, Nat.reduceEqDiff, and_self]
      rw [f30, show 0 + (4 * k + j - k * 4) = j by omega]
    · have hc0 : (0 : Int32).toNatClampNeg = 0 := rfl
      simp (disch := omega) only [sX2_keepIfFewer_0, sX2_keepIfFewer_1, sX2_keepIfFewer_4, sX2_keepIfFewer_5, sX2_keepIfFewer_8, sX2_keepIfFewer_9, sX2_keepIfFewer_10, sX2_keepIfFewer_13, sX2_keepIfFewer_14, sX2_keepIfFewer_15, sX2_keepIfFewer_18, sX2_keepIfFewer_19, sX2_keepIfFewer_20, sX2_keepIfFewer_21, sX2_keepIfFewer_24, sX2_keepIfFewer_25, sX2_keepIfFewer_26, sX2_keepIfFewer_29, sX2_keepIfFewer_30, sX2_keepIfFewer_33, sX2_keepIfFewer_34, sX2_keepIfFewer_35, sX2_keepIfFewer_36, sX2_keepIfFewer_37, sX2_keepIfFewer_40, sX2_keepIfFewer_41, sX2_keepIfFewer_42, sX2_keepIfFewer_45, sX2_keepIfFewer_46, sX2_keepIfFewer_47, sX2_keepIfFewer_48, sX2_keepIfFewer_49 al30 al32 hcp, sX2_keepIfFewer_52, ↓reduceIte, if_true, if_false, Option.bind_some, Option.bind_none, Option.toList_some, Option.toList_none, List.cons_append, List.nil_append, Option.elim_some, true_or, or_true, or_false, false_or, true_and, and_true, and_false, false_and, zio1, zio0, zio01, not_true_eq_false, not_false_eq_true, nlt, neq, nlt0, n0lt, neq0, neq1, nm9, m9n, nadd, nadd1, nmul, ncl, zin_t, hf, f31, e1, z, li4, hc0]
  · refine ⟨g1, t1', s, sk_nf F1, f30, s2, s1, by rw [if_neg z, f31]; exact hf, fun j hj => by rw [if_neg z, f32], ?_⟩
    simp (disch := omega) only [sX2_keepIfFewer_0, sX2_keepIfFewer_1, sX2_keepIfFewer_4, sX2_keepIfFewer_5, sX2_keepIfFewer_8, sX2_keepIfFewer_9, sX2_keepIfFewer_10, sX2_keepIfFewer_13, sX2_keepIfFewer_14, sX2_keepIfFewer_15, sX2_keepIfFewer_18, sX2_keepIfFewer_19, sX2_keepIfFewer_20, sX2_keepIfFewer_21, sX2_keepIfFewer_24, sX2_keepIfFewer_25, sX2_keepIfFewer_26, sX2_keepIfFewer_29, sX2_keepIfFewer_30, sX2_keepIfFewer_33, sX2_keepIfFewer_34, sX2_keepIfFewer_35, sX2_keepIfFewer_36, sX2_keepIfFewer_37, sX2_keepIfFewer_40, sX2_keepIfFewer_41, sX2_keepIfFewer_42, sX2_keepIfFewer_45, sX2_keepIfFewer_46, sX2_keepIfFewer_47, sX2_keepIfFewer_48, sX2_keepIfFewer_52, ↓reduceIte, if_true, if_false, Option.bind_some, Option.bind_none, Option.toList_some, Option.toList_none, List.cons_append, List.nil_append, Option.elim_some, true_or, or_true, or_false, false_or, true_and, and_true, and_false, false_and, zio1, zio0, zio01, not_true_eq_false, not_false_eq_true, nlt, neq, nlt0, n0lt, neq0, neq1, nm9, m9n, nadd, nadd1, nmul, ncl, zin_t, hf, f31, e1, z]
theorem kX2_lo_loop {k N : Nat} (hk1 : 1 ≤ k) (hk : k ≤ 4) (hkG : k ≤ G) (hN : N < 3000) (okw : okr H G row) : ∀ e r (g : Nat → Nat → Int32) (t : Nat → Int64) (rr : Nat → Int32) (b : Option (Nat × Nat)), r + e = N → g 31 k = nI (c1v b) → (∀ q, b = some q → q.1 ≤ 300 ∧ ∀ j, j < k → g 32 (4 * k + j) = lay H k row q.2 j) → (0 < e → 0 < H) → CTn g H S kd bd gv rs dr → CGb g G w f l → CRw g 30 H G rr → (∀ q, k ≤ q → rr q = row q) → ∃ g' t', sk k g g' ∧ g' 31 k = nI (c1v (lgb H G kd bd gv rs w f l S row k e r b)) ∧ (∀ q, lgb H G kd bd gv rs w f l S row k e r b = some q → ∀ j, j < k → g' 32 (4 * k + j) = lay H k row q.2 j) ∧ go L xs 13 69 79 [some (.ref 29), some (.int (nI k)), some (.int (nI N)), some (.int (nI r))] [] (hp g t) = some (none, hp g' t')
  | 0, r, g, t, rr, b, hr, hf, hb, h0, hT, hB, hR, hrr => by
    have hr : r = N := by omega
    subst hr
    refine ⟨g, t, sk.rf, hf, fun q hq => (hb q hq).2, ?_⟩
    simp (disch := omega) only [sX2_search_79, sX2_search_80, sX2_search_81, sX2_search_115, ↓reduceIte, if_true, if_false, Option.bind_some, Option.bind_none, Option.toList_some, Option.toList_none, List.cons_append, List.nil_append, Option.elim_some, true_or, or_true, or_false, false_or, true_and, and_true, and_false, false_and, zio1, zio0, zio01, not_true_eq_false, not_false_eq_true, nlt, neq, nlt0, n0lt, neq0, neq1, nm9, m9n, nadd, nadd1, nmul, ncl, zin_t, Nat.lt_irrefl]
  | e + 1, r, g, t, rr, b, hr, hf, hb, h0, hT, hB, hR, hrr => by
    have h0 := h0 (by omega)
    have h7 := hT.2.1
    have g8 := hB.2.1
    have q : r < N := by omega
    obtain ⟨g1, a1, a2, a3, a4⟩ := kX2_layOut (L := L) (xs := xs) (t := t) (r := r) hk1 hk (by omega) h0 h7 hT.1
    have S1 : sk k g g1 := sk_30 a1
    have hT1 := S1.eb.town hT
    have hB1 := S1.eb.b hB
    have hR1 : CRw g1 30 H G (lay H k row r) := by
      refine ⟨fun j hj => ?_, okw.la h0, fun j x y => by rw [a3 j (by omega)]; exact hR.2.2 j x y⟩
      by_cases z : j < k
      · rw [a2 j z]; unfold lay; rw [if_pos z]
      · rw [a3 j (by omega), hR.1 j hj, hrr j (by omega)]; unfold lay; rw [if_neg z]
    have hrr1 : ∀ q, k ≤ q → lay H k row r q = row q := fun q hq => if_neg (by omega)
    have hh := kX0_haveBeds (L := L) (xs := xs) (t := t) (c := 30) (Or.inr (Or.inl rfl)) hT1 hB1 hR1
    have hf1 : g1 31 k = nI (c1v b) := by rw [a1 31 (by omega)]; exact hf
    have f32 : g1 32 = g 32 := a1 32 (by omega)
    by_cases q1 : hvb H G bd f l (lay H k row r) = true
    · rw [if_pos q1] at hh
      obtain ⟨g2, t2, s, S2, r2, s2, s1, c1, c2, c3⟩ := kX2_keepIfFewer (L := L) (xs := xs) (t := t) (r := r) hk1 hk h0 hT1 hB1 hR1 hf1 (fun q hq => (hb q hq).1)
      have hal := apl_le (S := S) (G := G) (kd := kd) (gv := gv) (rs := rs) (w := w) (f := f) (l := l) (row := lay H k row r) (om := -9) (omw := 0) (omf := 0) (pl := 0) h7
      rw [show lgb H G kd bd gv rs w f l S row k (e + 1) r b = lgb H G kd bd gv rs w f l S row k e (r + 1) (if s < c1v b then some (s, r) else b) from bst_stepP (P := fun r => hvb H G bd f l (lay H k row r) = true) (v := fun r => apl H S G kd gv rs w f l (lay H k row r) (-9) 0 0 0) q1 hal s2]
      obtain ⟨g3, t3, S3, d1, d2, d3⟩ := kX2_lo_loop hk1 hk hkG hN okw e (r + 1) g2 t2 (lay H k row r) (if s < c1v b then some (s, r) else b) (by omega) c1 (fun q hq => by
        split at hq
        · rename_i z
          cases hq
          refine ⟨s1, fun j hj => ?_⟩
          rw [c2 j hj, if_pos z, hR1.1 j (by omega)]
        · rename_i z
          refine ⟨(hb q hq).1, fun j hj => ?_⟩
          rw [c2 j hj, if_neg z, f32]
          exact (hb q hq).2 j hj) (fun _ => h0) (S2.eb.town hT1) (S2.eb.b hB1) (by unfold CRw; rw [r2]; exact hR1) hrr1
      refine ⟨g3, t3, (S1.tr S2).tr S3, d1, d2, ?_⟩
      rw [← d3, sX2_search_79]
      simp (disch := omega) only [sX2_search_80, sX2_search_81, sX2_search_84, sX2_search_85, sX2_search_86, sX2_search_87, sX2_search_90, sX2_search_91, sX2_search_94, sX2_search_95, sX2_search_98, sX2_search_101, sX2_search_104, sX2_search_105, sX2_search_106, sX2_search_109, sX2_search_112, ↓reduceIte, if_true, if_false, Option.bind_some, Option.bind_none, Option.toList_some, Option.toList_none, List.cons_append, List.nil_append, Option.elim_some, true_or, or_true, or_false, false_or, true_and, and_true, and_false, false_and, zio1, zio0, zio01, not_true_eq_false, not_false_eq_true, nlt, neq, nlt0, n0lt, neq0, neq1, nm9, m9n, nadd, nadd1, nmul, ncl, zin_t, q, a4, hh, c3]
    · rw [if_neg q1] at hh
      rw [show lgb H G kd bd gv rs w f l S row k (e + 1) r b = lgb H G kd bd gv rs w f l S row k e (r + 1) b from bst_stepN (P := fun r => hvb H G bd f l (lay H k row r) = true) (v := fun r => apl H S G kd gv rs w f l (lay H k row r) (-9) 0 0 0) q1]
      obtain ⟨g3, t3, S3, d1, d2, d3⟩ := kX2_lo_loop hk1 hk hkG hN okw e (r + 1) g1 t (lay H k row r) b (by omega) hf1 (fun q hq => by rw [f32]; exact hb q hq) (fun _ => h0) hT1 hB1 hR1 hrr1
      refine ⟨g3, t3, S1.tr S3, d1, d2, ?_⟩
      rw [← d3, sX2_search_79]
      simp (disch := omega) only [sX2_search_80, sX2_search_81, sX2_search_84, sX2_search_85, sX2_search_86, sX2_search_87, sX2_search_90, sX2_search_91, sX2_search_94, sX2_search_95, sX2_search_98, sX2_search_101, sX2_search_104, sX2_search_105, sX2_search_106, sX2_search_109, sX2_search_112, ↓reduceIte, if_true, if_false, Option.bind_some, Option.bind_none, Option.toList_some, Option.toList_none, List.cons_append, List.nil_append, Option.elim_some, true_or, or_true, or_false, false_or, true_and, and_true, and_false, false_and, zio1, zio0, zio01, not_true_eq_false, not_false_eq_true, nlt, neq, nlt0, n0lt, neq0, neq1, nm9, m9n, nadd, nadd1, nmul, ncl, zin_t, q, a4, hh]
theorem kX2_pw_loop {k : Nat} (hk : k ≤ 4) (t1 : g 1 1 = nI H) : ∀ e j, j + e = k → go L xs 13 69 56 [some (.ref 29), some (.int (nI k)), some (.int (nI (H ^ j))), some (.int (nI j))] [] (hp g t) = go L xs 13 69 77 [some (.ref 29), some (.int (nI k)), some (.int (nI (H ^ k))), some (.int (nI k))] [] (hp g t)
  | 0, j, hj => by
    have hj : j = k := by omega
    subst hj
    simp (disch := omega) only [sX2_search_56, sX2_search_57, sX2_search_58, ↓reduceIte, if_true, if_false, Option.bind_some, Option.bind_none, Option.toList_some, Option.toList_none, List.cons_append, List.nil_append, Option.elim_some, true_or, or_true, or_false, false_or, true_and, and_true, and_false, false_and, zio1, zio0, zio01, not_true_eq_false, not_false_eq_true, nlt, neq, nlt0, n0lt, neq0, neq1, nm9, m9n, nadd, nadd1, nmul, ncl, zin_t, Nat.lt_irrefl]
  | e + 1, j, hj => by
    have ih := kX2_pw_loop hk t1 e (j + 1) (by omega)
    have q : j < k := by omega
    rw [← ih, sX2_search_56]
    simp (disch := omega) only [sX2_search_57, sX2_search_58, sX2_search_61, sX2_search_62, sX2_search_63, sX2_search_66, sX2_search_69, sX2_search_70, sX2_search_71, sX2_search_74, ↓reduceIte, if_true, if_false, Option.bind_some, Option.bind_none, Option.toList_some, Option.toList_none, List.cons_append, List.nil_append, Option.elim_some, true_or, or_true, or_false, false_or, true_and, and_true, and_false, false_and, zio1, zio0, zio01, not_true_eq_false, not_false_eq_true, nlt, neq, nlt0, n0lt, neq0, neq1, nm9, m9n, nadd, nadd1, nmul, ncl, zin_t, q, t1, Nat.pow_succ]
/-- what is kept of the lodgings of k guests -/
def LGk (H G : Nat) (kd bd gv rs w f l : Nat → Nat) (g : Nat → Nat → Int32) (S : Nat) (row : Nat → Int32) (k : Nat) : Prop := g 31 k = nI (c1v (lgb H G kd bd gv rs w f l S row k (H ^ k) 0 none)) ∧ ∀ q, lgb H G kd bd gv rs w f l S row k (H ^ k) 0 none = some q → ∀ j, j < k → g 32 (4 * k + j) = lay H k row q.2 j
/-- what is kept of lodgings -/
def CL (H G : Nat) (kd bd gv rs w f l : Nat → Nat) (g : Nat → Nat → Int32) (S : Nat) (row : Nat → Int32) : Prop := ∃ m, m < 32 ∧ g 29 6 = nI m ∧ ∀ k, 1 ≤ k → k ≤ 4 → m / 2 ^ k % 2 = 1 → LGk H G kd bd gv rs w f l g S row k
/-- a question on lodgings -/
def ql (g g' : Nat → Nat → Int32) : Prop := ∀ a, (a < 25 ∨ 32 < a) → g' a = g a
theorem ql.rf : ql g g := fun _ _ => rfl
theorem ql.cf (h : ql g g') : cf g g' := ⟨fun a x y => h a (by omega), fun a k x y _ => by rw [h a (by omega)], fun a x y => h a (by omega), fun a x => h a (by omega), by rw [h 0 (by omega)], by rw [h 0 (by omega)]⟩
theorem kX2_search {k : Nat} (hk1 : 1 ≤ k) (hk : k ≤ 4) (hkG : k ≤ G) (hT : CTn g H S kd bd gv rs dr) (hG : CGs g H G w f l row) (hL : CL H G kd bd gv rs w f l g S row) : ∃ g' t', ql g g' ∧ CL H G kd bd gv rs w f l g' S row ∧ LGk H G kd bd gv rs w f l g' S row k ∧ go L xs 13 69 0 [some (.ref 29), some (.int (nI k)), none, none] [] (hp g t) = some (none, hp g' t') := by
  obtain ⟨m, m1, m2, m3⟩ := id hL
  have h7 := hT.2.1
  have hbit := bit_ok m (by omega) k (by omega)
  by_cases q : m / 2 ^ k % 2 = 1
  · refine ⟨g, t, ql.rf, hL, m3 k hk1 hk q, ?_⟩
    simp (disch := omega) only [sX2_search_0, sX2_search_1, sX2_search_4, sX2_search_5, sX2_search_6, sX2_search_7, sX2_search_8, sX2_search_9, sX2_search_12, ↓reduceIte, if_true, if_false, Option.bind_some, Option.bind_none, Option.toList_some, Option.toList_none, List.cons_append, List.nil_append, Option.elim_some, true_or, or_true, or_false, false_or, true_and, and_true, and_false, false_and, zio1, zio0, zio01, not_true_eq_false, not_false_eq_true, m2, eq_true (hbit.mpr q)]
  · obtain ⟨b1, b2⟩ := bit_or m m1 k (by omega)
    have hpw : H ^ k < 3000 := by
      have a : H ^ k ≤ 7 ^ k := Nat.pow_le_pow_left h7 k
      have b : 7 ^ k ≤ 7 ^ 4 := Nat.pow_le_pow_right (by omega) (by omega)
      have c : 7 ^ 4 = 2401 := by decide
      omega
    obtain ⟨ea1, -, ea3, -⟩ := ea
    have hcp : ¬ (0 : Int32) < 0 ∧ ¬ (0 : Int32) < 0 ∧ ¬ (9 : Int32) < 0 ∧ (0 : Int32).toNatClampNeg + (9 : Int32).toNatClampNeg ≤ zal 14 ∧ (0 : Int32).toNatClampNeg + (9 : Int32).toNatClampNeg ≤ zal 30 := by
      rw [ea1, ea3]; decide
    have hc0 : (0 : Int32).toNatClampNeg = 0 := rfl
    have hc9 : (9 : Int32).toNatClampNeg = 9 := rfl
    generalize hg1 : zcp (zu (zu g 29 6 (nI (m ||| 2 ^ k))) 31 k (nI 350)) 14 30 0 0 9 = g1
    have f1 : ∀ a, a ≠ 29 → a ≠ 30 → a ≠ 31 → g1 a = g a := fun a x y z => by
      subst hg1
      funext p
      simp only [zcpA, zuA, x, y, z, if_false]
    have f29 : g1 29 6 = nI (m ||| 2 ^ k) := by
      subst hg1
      simp only [zcpA, zuA, if_true, if_false, Nat.reduceEqDiff]
    have f29' : ∀ p, p ≠ 6 → g1 29 p = g 29 p := fun p hp => by
      subst hg1
      simp only [zcpA, zuA, if_true, if_false, Nat.reduceEqDiff, hp]
    have f30 : ∀ p, p < 9 → g1 30 p = g 14 p := fun p hp => by
      subst hg1
      have : 0 ≤ p ∧ p < 0 + 9 := by omega
      simp only [zcpA, zuA, if_true, if_false, Nat.reduceEqDiff, this, and_self, Nat.sub_zero, Nat.zero_add]
    have f31 : g1 31 k = nI 350 := by
      subst hg1
      simp only [zcpA, zuA, if_true, if_false, Nat.reduceEqDiff]
    have f31' : ∀ j, j ≠ k → g1 31 j = g 31 j := fun j hj => by
      subst hg1
      simp only [zcpA, zuA, if_true, if_false, Nat.reduceEqDiff, hj]
    have E1 : eb g g1 := fun a ha => f1 a (by omega) (by omega) (by omega)
    have hT1 := E1.town hT
    have hR : CRw g1 30 H G row := ⟨fun j hj => by rw [f30 j (by have := hG.2.1; omega)]; exact hG.r.1 j hj, hG.r.2.1, fun j x y => by rw [f30 j y]; exact hG.2.2.2 j x y⟩
    have hpl := kX2_pw_loop (L := L) (xs := xs) (t := t) hk hT1.1 k 0 (by omega)
    obtain ⟨g2, t2, S2, d1, d2, d3⟩ := kX2_lo_loop (L := L) (xs := xs) (S := S) (dr := dr) (kd := kd) (bd := bd) (gv := gv) (rs := rs) (w := w) (f := f) (l := l) (k := k) (N := H ^ k) hk1 hk hkG hpw hG.r.2.1 (H ^ k) 0 g1 t row none (by omega) f31 (fun q hq => by cases hq) (fun q => by
          rcases Nat.eq_zero_or_pos H with z | z
          · subst z; rw [Nat.zero_pow (by omega)] at q; omega
          · exact z) hT1 (E1.b hG.b) hR (fun _ _ => rfl)
    refine ⟨g2, t2, fun a ha => by rw [S2.1 a (by omega), f1 a (by omega) (by omega) (by omega)], ⟨m ||| 2 ^ k, b1, by rw [S2.1 29 (by omega)]; exact f29, fun j j1 j2 j3 => ?_⟩, ⟨d1, d2⟩, ?_⟩
    · by_cases z : j = k
      · subst z; exact ⟨d1, d2⟩
      · obtain ⟨c1, c2⟩ := m3 j j1 j2 ((b2 j (by omega) j3).resolve_left z)
        refine ⟨by rw [S2.2.1 j z, f31' j z]; exact c1, fun q hq i hi => ?_⟩
        rw [S2.2.2 (4 * j + i) (by omega), f1 32 (by omega) (by omega) (by omega)]
        exact c2 q hq i hi
    · rw [Nat.pow_zero, nI_0, show nI 1 = 1 by decide] at hpl
      rw [nI_0] at d3
      simp (disch := omega) only [sX2_search_0, sX2_search_1, sX2_search_4, sX2_search_5, sX2_search_6, sX2_search_7, sX2_search_8, sX2_search_9, sX2_search_12, sX2_search_13, sX2_search_14, sX2_search_15, sX2_search_18, sX2_search_19, sX2_search_20, sX2_search_21, sX2_search_22, sX2_search_25, sX2_search_26, sX2_search_29, sX2_search_30, sX2_search_33, sX2_search_34, sX2_search_35, sX2_search_38, sX2_search_41, sX2_search_42, sX2_search_43, sX2_search_46, sX2_search_47, sX2_search_49 al14 al30 hcp, sX2_search_52, sX2_search_53, sX2_search_54, sX2_search_55, ↓reduceIte, if_true, if_false, Option.bind_some, Option.bind_none, Option.toList_some, Option.toList_none, List.cons_append, List.nil_append, Option.elim_some, true_or, or_true, or_false, false_or, true_and, and_true, and_false, false_and, zio1, zio0, zio01, not_true_eq_false, not_false_eq_true, nlt, neq, nlt0, n0lt, neq0, neq1, nm9, m9n, nadd, nadd1, nmul, ncl, zin_t, m2, eq_false (fun z => q (hbit.mp z)), sh_1, fa_or2, li350, hc0, hc9, hg1]
      rw [hpl]
      simp (disch := omega) only [sX2_search_77, sX2_search_78]
      exact d3
theorem pX8_lodgings (hT : CTn g H S kd bd gv rs dr) (hG : CGs g H G w f l row) (hL : CL H G kd bd gv rs w f l g S row) {x y : Int32} : ∃ g' t', ql g g' ∧ CL H G kd bd gv rs w f l g' S row ∧ go L xs 58 69 0 [some (.ref 0), some (.int x), some (.int y)] [] (hp g t) = some (some (.int (if (1 ≤ x.toInt ∧ x.toInt ≤ 4) ∧ x.toInt ≤ G then (if -1 ≤ y.toInt ∧ y.toInt < x.toInt then lga H x.toInt.toNat row y (lgb H G kd bd gv rs w f l S row x.toInt.toNat (H ^ x.toInt.toNat) 0 none) else -1) else -2)), hp g' t') := by
  have hin := kX8_in (L := L) (xs := xs) (g := g) (t := t) (x := x) (a := 1) (b := 4) (lo := 1) (hi := 4) (by decide) (by decide)
  have h7 := hT.2.1
  have g1 := hG.1
  have g8 := hG.2.1
  by_cases q1 : 1 ≤ x.toInt ∧ x.toInt ≤ 4
  · rw [if_pos q1] at hin
    have hx := nI_back (x := x) (by omega)
    generalize hk : x.toInt.toNat = k at hx
    subst hx
    have hkt := nI_toInt (n := k) (by omega)
    by_cases q2 : G < k
    · rw [if_neg (by omega)]
      refine ⟨g, t, ql.rf, hL, ?_⟩
      simp (disch := omega) only [sX8_lodgings_0, sX8_lodgings_1, sX8_lodgings_2, sX8_lodgings_3, sX8_lodgings_6, sX8_lodgings_9, sX8_lodgings_10, sX8_lodgings_11, sX8_lodgings_14, sX8_lodgings_17, sX8_lodgings_20, sX8_lodgings_22, ↓reduceIte, if_true, if_false, Option.bind_some, Option.bind_none, Option.toList_some, Option.toList_none, List.cons_append, List.nil_append, Option.elim_some, true_or, or_true, or_false, false_or, true_and, and_true, and_false, false_and, zio1, zio0, zio01, not_true_eq_false, not_false_eq_true, nlt, neq, nlt0, n0lt, neq0, neq1, nm9, m9n, nadd, nadd1, nmul, ncl, zin_t, hin, g1, q2]
    · rw [if_pos (by omega)]
      have e1 : nI k - 1 = nI (k - 1) := nsub1 (by omega)
      have h1 : (nI (k - 1)).toInt = (k : Int) - 1 := by
        rw [nI_toInt (by omega)]; omega
      have hin2 := kX8_in (L := L) (xs := xs) (g := g) (t := t) (x := y) (a := -1) (b := nI (k - 1)) (lo := -1) (hi := (k : Int) - 1) (by decide) h1
      by_cases q3 : -1 ≤ y.toInt ∧ y.toInt < (nI k).toInt
      · rw [if_pos (by omega)] at hin2
        rw [if_pos q3]
        obtain ⟨g2, t2, Q, hL2, ⟨c1, c2⟩, e2⟩ := kX2_search (L := L) (xs := xs) (t := t) (k := k) (by omega) (by omega) (by omega) hT hG hL
        refine ⟨g2, t2, Q, hL2, ?_⟩
        have hbl := bst_le (P := fun r => hvb H G bd f l (lay H k row r) = true) (v := fun r => apl H S G kd gv rs w f l (lay H k row r) (-9) 0 0 0) (B := 300) (fun r => apl_le h7) (H ^ k) 0 none (fun q hq => by cases hq)
        by_cases q4 : y = -1
        · subst q4
          cases hb : lgb H G kd bd gv rs w f l S row k (H ^ k) 0 none with
          | none =>
            rw [hb] at c1
            simp (disch := omega) only [sX8_lodgings_0, sX8_lodgings_1, sX8_lodgings_2, sX8_lodgings_3, sX8_lodgings_6, sX8_lodgings_9, sX8_lodgings_10, sX8_lodgings_11, sX8_lodgings_14, sX8_lodgings_17, sX8_lodgings_20, sX8_lodgings_22, sX8_lodgings_23, sX8_lodgings_24, sX8_lodgings_25, sX8_lodgings_26, sX8_lodgings_27, sX8_lodgings_28, sX8_lodgings_31, sX8_lodgings_34, sX8_lodgings_35, sX8_lodgings_36, sX8_lodgings_37, sX8_lodgings_40, sX8_lodgings_41, sX8_lodgings_44, sX8_lodgings_45, sX8_lodgings_46, sX8_lodgings_49, sX8_lodgings_50, sX8_lodgings_53, sX8_lodgings_54, sX8_lodgings_57, sX8_lodgings_60, sX8_lodgings_61, sX8_lodgings_64, sX8_lodgings_65, sX8_lodgings_66, sX8_lodgings_69, sX2_planksFor_0, sX2_planksFor_1, sX2_planksFor_4, sX2_planksFor_5, sX2_planksFor_6, sX2_planksFor_9, sX2_planksFor_12, sX2_planksFor_14, sX2_planksFor_17, sX2_planksFor_18, sX2_planksFor_21, sX2_planksFor_22, sX2_planksFor_23, ↓reduceIte, if_true, if_false, Option.bind_some, Option.bind_none, Option.toList_some, Option.toList_none, List.cons_append, List.nil_append, Option.elim_some, true_or, or_true, or_false, false_or, true_and, and_true, and_false, false_and, zio1, zio0, zio01, not_true_eq_false, not_false_eq_true, nlt, neq, nlt0, n0lt, neq0, neq1, nm9, m9n, nadd, nadd1, nmul, ncl, zin_t, hin, g1, q2, e1, hin2, e2, c1, c1v, li350, lga]
          | some q =>
            have hbq := hbl q hb
            rw [hb] at c1
            have q5 : ¬ q.1 = 350 := by omega
            have q6 : ((-1 : Int32) < 0) = True := by decide
            simp (disch := omega) only [sX8_lodgings_0, sX8_lodgings_1, sX8_lodgings_2, sX8_lodgings_3, sX8_lodgings_6, sX8_lodgings_9, sX8_lodgings_10, sX8_lodgings_11, sX8_lodgings_14, sX8_lodgings_17, sX8_lodgings_20, sX8_lodgings_22, sX8_lodgings_23, sX8_lodgings_24, sX8_lodgings_25, sX8_lodgings_26, sX8_lodgings_27, sX8_lodgings_28, sX8_lodgings_31, sX8_lodgings_34, sX8_lodgings_35, sX8_lodgings_36, sX8_lodgings_37, sX8_lodgings_40, sX8_lodgings_41, sX8_lodgings_44, sX8_lodgings_45, sX8_lodgings_46, sX8_lodgings_49, sX8_lodgings_50, sX8_lodgings_53, sX8_lodgings_54, sX8_lodgings_57, sX8_lodgings_60, sX8_lodgings_61, sX8_lodgings_64, sX8_lodgings_65, sX8_lodgings_66, sX8_lodgings_69, sX2_planksFor_0, sX2_planksFor_1, sX2_planksFor_4, sX2_planksFor_5, sX2_planksFor_6, sX2_planksFor_9, sX2_planksFor_12, sX2_planksFor_14, sX2_planksFor_17, sX2_planksFor_18, sX2_planksFor_21, sX2_planksFor_22, sX2_planksFor_23, ↓reduceIte, if_true, if_false, Option.bind_some, Option.bind_none, Option.toList_some, Option.toList_none, List.cons_append, List.nil_append, Option.elim_some, true_or, or_true, or_false, false_or, true_and, and_true, and_false, false_and, zio1, zio0, zio01, not_true_eq_false, not_false_eq_true, nlt, neq, nlt0, n0lt, neq0, neq1, nm9, m9n, nadd, nadd1, nmul, ncl, zin_t, hin, g1, q2, e1, hin2, e2, c1, c1v, li350, lga, q5, q6]
        · have hy0 : 0 ≤ y.toInt := by
            rcases Int.lt_or_le y.toInt 0 with z | z
            · exact absurd (Int32.toInt_inj.mp (by rw [show (-1 : Int32).toInt = -1 by decide]; omega)) q4
            · exact z
          have hy := nI_back hy0
          generalize hm : y.toInt.toNat = m at hy
          subst hy
          have hmt := nI_toInt (n := m) (by omega)
          cases hb : lgb H G kd bd gv rs w f l S row k (H ^ k) 0 none with
          | none =>
            rw [hb] at c1
            simp (disch := omega) only [sX8_lodgings_0, sX8_lodgings_1, sX8_lodgings_2, sX8_lodgings_3, sX8_lodgings_6, sX8_lodgings_9, sX8_lodgings_10, sX8_lodgings_11, sX8_lodgings_14, sX8_lodgings_17, sX8_lodgings_20, sX8_lodgings_22, sX8_lodgings_23, sX8_lodgings_24, sX8_lodgings_25, sX8_lodgings_26, sX8_lodgings_27, sX8_lodgings_28, sX8_lodgings_31, sX8_lodgings_34, sX8_lodgings_35, sX8_lodgings_36, sX8_lodgings_37, sX8_lodgings_40, sX8_lodgings_41, sX8_lodgings_44, sX8_lodgings_45, sX8_lodgings_46, sX8_lodgings_49, sX8_lodgings_50, sX8_lodgings_53, sX8_lodgings_54, sX8_lodgings_57, sX8_lodgings_60, sX8_lodgings_61, sX8_lodgings_64, sX8_lodgings_65, sX8_lodgings_66, sX8_lodgings_69, sX2_houseFor_0, sX2_houseFor_1, sX2_houseFor_4, sX2_houseFor_5, sX2_houseFor_6, sX2_houseFor_9, sX2_houseFor_12, sX2_houseFor_14, sX2_houseFor_17, sX2_houseFor_18, sX2_houseFor_21, sX2_houseFor_22, sX2_houseFor_23, sX2_houseFor_24, sX2_houseFor_25, sX2_houseFor_26, sX2_houseFor_27, ↓reduceIte, if_true, if_false, Option.bind_some, Option.bind_none, Option.toList_some, Option.toList_none, List.cons_append, List.nil_append, Option.elim_some, true_or, or_true, or_false, false_or, true_and, and_true, and_false, false_and, zio1, zio0, zio01, not_true_eq_false, not_false_eq_true, nlt, neq, nlt0, n0lt, neq0, neq1, nm9, m9n, nadd, nadd1, nmul, ncl, zin_t, hin, g1, q2, e1, hin2, e2, c1, c1v, li350, lga, eq_false q4]
          | some q =>
            have hbq := hbl q hb
            have c3 := c2 q hb m (by omega)
            rw [hb] at c1
            have q5 : ¬ q.1 = 350 := by omega
            rw [li4] at hin
            simp (disch := omega) only [sX8_lodgings_0, sX8_lodgings_1, sX8_lodgings_2, sX8_lodgings_3, sX8_lodgings_6, sX8_lodgings_9, sX8_lodgings_10, sX8_lodgings_11, sX8_lodgings_14, sX8_lodgings_17, sX8_lodgings_20, sX8_lodgings_22, sX8_lodgings_23, sX8_lodgings_24, sX8_lodgings_25, sX8_lodgings_26, sX8_lodgings_27, sX8_lodgings_28, sX8_lodgings_31, sX8_lodgings_34, sX8_lodgings_35, sX8_lodgings_36, sX8_lodgings_37, sX8_lodgings_40, sX8_lodgings_41, sX8_lodgings_44, sX8_lodgings_45, sX8_lodgings_46, sX8_lodgings_49, sX8_lodgings_50, sX8_lodgings_53, sX8_lodgings_54, sX8_lodgings_57, sX8_lodgings_60, sX8_lodgings_61, sX8_lodgings_64, sX8_lodgings_65, sX8_lodgings_66, sX8_lodgings_69, sX2_houseFor_0, sX2_houseFor_1, sX2_houseFor_4, sX2_houseFor_5, sX2_houseFor_6, sX2_houseFor_9, sX2_houseFor_12, sX2_houseFor_14, sX2_houseFor_17, sX2_houseFor_18, sX2_houseFor_21, sX2_houseFor_22, sX2_houseFor_23, sX2_houseFor_24, sX2_houseFor_25, sX2_houseFor_26, sX2_houseFor_27, ↓reduceIte, if_true, if_false, Option.bind_some, Option.bind_none, Option.toList_some, Option.toList_none, List.cons_append, List.nil_append, Option.elim_some, true_or, or_true, or_false, false_or, true_and, and_true, and_false, false_and, zio1, zio0, zio01, not_true_eq_false, not_false_eq_true, nlt, neq, nlt0, n0lt, neq0, neq1, nm9, m9n, nadd, nadd1, nmul, ncl, zin_t, hin, g1, q2, e1, hin2, e2, c1, c1v, li350, lga, q5, eq_false q4, li4, Nat.mul_comm k 4, c3, hm]
      · rw [if_neg (by omega)] at hin2
        rw [if_neg q3]
        refine ⟨g, t, ql.rf, hL, ?_⟩
        simp (disch := omega) only [sX8_lodgings_0, sX8_lodgings_1, sX8_lodgings_2, sX8_lodgings_3, sX8_lodgings_6, sX8_lodgings_9, sX8_lodgings_10, sX8_lodgings_11, sX8_lodgings_14, sX8_lodgings_17, sX8_lodgings_20, sX8_lodgings_22, sX8_lodgings_23, sX8_lodgings_24, sX8_lodgings_25, sX8_lodgings_26, sX8_lodgings_27, sX8_lodgings_28, sX8_lodgings_31, sX8_lodgings_34, sX8_lodgings_35, ↓reduceIte, if_true, if_false, Option.bind_some, Option.bind_none, Option.toList_some, Option.toList_none, List.cons_append, List.nil_append, Option.elim_some, true_or, or_true, or_false, false_or, true_and, and_true, and_false, false_and, zio1, zio0, zio01, not_true_eq_false, not_false_eq_true, nlt, neq, nlt0, n0lt, neq0, neq1, nm9, m9n, nadd, nadd1, nmul, ncl, zin_t, hin, g1, q2, e1, hin2]
  · rw [if_neg q1] at hin
    rw [if_neg (fun q => q1 q.1)]
    refine ⟨g, t, ql.rf, hL, ?_⟩
    simp (disch := omega) only [sX8_lodgings_0, sX8_lodgings_1, sX8_lodgings_2, sX8_lodgings_3, sX8_lodgings_6, sX8_lodgings_9, sX8_lodgings_10, sX8_lodgings_11, sX8_lodgings_14, sX8_lodgings_17, sX8_lodgings_20, sX8_lodgings_22, ↓reduceIte, if_true, if_false, Option.bind_some, Option.bind_none, Option.toList_some, Option.toList_none, List.cons_append, List.nil_append, Option.elim_some, true_or, or_true, or_false, false_or, true_and, and_true, and_false, false_and, zio1, zio0, zio01, not_true_eq_false, not_false_eq_true, nlt, neq, nlt0, n0lt, neq0, neq1, nm9, m9n, nadd, nadd1, nmul, ncl, zin_t, hin]
end C10
