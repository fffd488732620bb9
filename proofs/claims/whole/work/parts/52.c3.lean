/-! The class: press, passNight, pass. -/
theorem oo1 {o : Nat} : (o = o + 1) = False := eq_false (by omega)
theorem oo2 {o : Nat} : (o + 1 = o) = False := eq_false (by omega)
section C3
variable {L : Nat} {xs : Nat → Int32} {g g' : Nat → Nat → Int32} {t : Nat → Int64}
variable {H S : Nat} {kd bd gv rs dr w f l : Nat → Nat} {row : Nat → Int32} {o c pl : Nat}
theorem prW_le (hT : CTn g H S kd bd gv rs dr) {W : Nat → Nat} {h : Nat} (hh : h < H) (hW : W h ≤ 2700) : prW kd gv pl W h ≤ 24300 := by
  have hv := (hT.2.2.2.2 h hh).2.2.1.2.2
  have hm : W h * gv h ≤ 24300 := Nat.le_trans (Nat.mul_le_mul hW hv) (by omega)
  unfold prW
  split <;> omega
theorem upW_le (hT : CTn g H S kd bd gv rs dr) {W : Nat → Nat} {h : Nat} (hh : h < H) : upW kd rs pl W h ≤ 90 := by
  have hv := (hT.2.2.2.2 h hh).2.2.2.1.2
  unfold upW
  split
  · split <;> omega
  · omega
theorem kX3_pr1 (ho : o = 19 ∨ o = 24) (hpl : pl < 128) {W : Nat → Nat} : ∀ e h (g : Nat → Nat → Int32) (x3 x4 : Option Value), h + e = H → CTn g H S kd bd gv rs dr → (∀ q, q < H → g (o + 2) q = nI (W q) ∧ W q ≤ 2700) → (∀ q, q < h → g (o + 3) q = nI (prW kd gv pl W q) ∧ g (o + 4) q = nI (prW kd gv pl W q) - nI (upW kd rs pl W q)) → ∃ g', (∀ a, a ≠ o + 3 → a ≠ o + 4 → g' a = g a) ∧ (∀ q, q < H → g' (o + 3) q = nI (prW kd gv pl W q) ∧ g' (o + 4) q = nI (prW kd gv pl W q) - nI (upW kd rs pl W q)) ∧ ∃ x3' x4', go L xs 22 69 2 [some (.ref o), some (.int (nI pl)), some (.int (nI h)), x3, x4] [] (hp g t) = go L xs 22 69 104 [some (.ref o), some (.int (nI pl)), some (.int (nI H)), x3', x4'] [] (hp g' t)
  | 0, h, g, x3, x4, hh, hT, hW, hq => by
    have hh : h = H := by omega
    subst hh
    obtain ⟨n0, n1, n2, n3, n4, n5, n6, n7, n8, n9, n10⟩ := nob ho
    have t1 := hT.1
    have h7 := hT.2.1
    refine ⟨g, fun _ _ _ => rfl, hq, x3, x4, ?_⟩
    simp (disch := omega) only [sX3_press_2, sX3_press_3, sX3_press_4, sX3_press_7, sX3_press_10, ↓reduceIte, if_true, if_false, Option.bind_some, Option.bind_none, Option.toList_some, Option.toList_none, List.cons_append, List.nil_append, Option.elim_some, true_or, or_true, or_false, false_or, true_and, and_true, and_false, false_and, zio1, zio0, zio01, not_true_eq_false, not_false_eq_true, nlt, neq, nlt0, n0lt, neq0, neq1, nm9, m9n, nadd, nadd1, nmul, ncl, zin_t, n0, n1, t1, Nat.lt_irrefl]
  | e + 1, h, g, x3, x4, hh, hT, hW, hq => by
    obtain ⟨n0, n1, n2, n3, n4, n5, n6, n7, n8, n9, n10⟩ := nob ho
    have t1 := hT.1
    have h7 := hT.2.1
    have q : h < H := by omega
    obtain ⟨z1, z2⟩ := hob (h := h) (by omega)
    obtain ⟨w1, w2⟩ := hW h q
    obtain ⟨⟨k1, k2⟩, -⟩ := hT.2.2.2.2 h q
    have hb := bit_ok pl hpl h (by omega)
    have F : nf o g (zu (zu g (o + 3) h (nI (prW kd gv pl W h))) (o + 4) h (nI (prW kd gv pl W h) - nI (upW kd rs pl W h))) := (nf_zu (by omega) _).tr (nf_zu (by omega) _)
    obtain ⟨g', a1, a2, x3', x4', a3⟩ := kX3_pr1 ho hpl (W := W) e (h + 1) (zu (zu g (o + 3) h (nI (prW kd gv pl W h))) (o + 4) h (nI (prW kd gv pl W h) - nI (upW kd rs pl W h))) (some (.ref (3 + h))) (some (.int (if kd h = 2 ∨ pl / 2 ^ h % 2 = 1 then 1 else 0))) (by omega) (F.town ho hT) (fun p hp1 => by
      have := hW p hp1
      simpa [zu] using this) (fun p hp1 => by
      by_cases z : p = h
      · subst z; simp [zu]
      · have := hq p (by omega)
        simpa [zu, z] using this)
    refine ⟨g', fun a y1 y2 => (a1 a y1 y2).trans (by funext p; simp [zu, y1, y2]), a2, x3', x4', ?_⟩
    rw [← a3, sX3_press_2]
    have F1 : nf o g (zu g (o + 3) h (nI (prW kd gv pl W h))) := nf_zu (by omega) _
    have hp0 : ∀ b, go L xs 8 69 0 [some (.ref (3 + h)), some (.int (nI (W h))), some (.int b), none] [] (hp g t) = some (some (.int (nI (if b = 0 then W h * gv h else W h * gv h / 2))), hp g t) := fun b => kX1_pressedBy hT q (by omega)
    have hc0 : ∀ a b, go L xs 9 69 0 [some (.ref (3 + h)), some (.int a), some (.int b)] [] (hp (zu g (o + 3) h (nI (prW kd gv pl W h))) t) = some (some (.int (nI (if a = 0 then 10 * rs h else if b = 0 ∧ kd h = 0 then 0 else 5 * rs h))), hp (zu g (o + 3) h (nI (prW kd gv pl W h))) t) := fun a b => kX1_comesUp (F1.town ho hT) q
    by_cases qp : kd h = 2 ∨ pl / 2 ^ h % 2 = 1
    · have ep : prW kd gv pl W h = W h * gv h / 2 := if_pos qp
      have hc1 := hc0 1 1
      have hc2 := hc0 0 1
      have hp1 := hp0 1
      rw [if_neg (by decide : ¬ (1 : Int32) = 0)] at hp1
      rw [if_neg (by decide : ¬ (1 : Int32) = 0), if_neg (fun z => absurd z.1 (by decide))] at hc1
      rw [if_pos rfl] at hc2
      rw [ep] at hc1 hc2 ⊢
      rw [if_pos qp]
      have hst : go L xs 22 69 3 [some (.ref o), some (.int (nI pl)), some (.int (nI h)), x3, x4] [.int (nI h)] (hp g t) = go L xs 22 69 45 [some (.ref o), some (.int (nI pl)), some (.int (nI h)), some (.ref (3 + h)), x4] [.int 1] (hp g t) := by
        by_cases q1 : kd h = 2
        · simp (disch := omega) only [sX3_press_3, sX3_press_4, sX3_press_7, sX3_press_10, sX3_press_13, sX3_press_14, sX3_press_17, sX3_press_20, sX3_press_21, sX3_press_22, sX3_press_23, sX3_press_24, sX3_press_27, sX3_press_28, sX3_press_31, sX3_press_32, sX3_press_33, sX3_press_34, sX3_press_35, sX3_press_36, sX3_press_37, sX3_press_40, sX3_press_41, sX3_press_44, ↓reduceIte, if_true, if_false, Option.bind_some, Option.bind_none, Option.toList_some, Option.toList_none, List.cons_append, List.nil_append, Option.elim_some, true_or, or_true, or_false, false_or, true_and, and_true, and_false, false_and, zio1, zio0, zio01, not_true_eq_false, not_false_eq_true, nlt, neq, nlt0, n0lt, neq0, neq1, nm9, m9n, nadd, nadd1, nmul, ncl, zin_t, n0, n1, t1, q, z1, z2, k1, q1, li2]
        · have q2 : pl / 2 ^ h % 2 = 1 := qp.resolve_left q1
          simp (disch := omega) only [sX3_press_3, sX3_press_4, sX3_press_7, sX3_press_10, sX3_press_13, sX3_press_14, sX3_press_17, sX3_press_20, sX3_press_21, sX3_press_22, sX3_press_23, sX3_press_24, sX3_press_27, sX3_press_28, sX3_press_31, sX3_press_32, sX3_press_33, sX3_press_34, sX3_press_35, sX3_press_36, sX3_press_37, sX3_press_40, sX3_press_41, sX3_press_44, ↓reduceIte, if_true, if_false, Option.bind_some, Option.bind_none, Option.toList_some, Option.toList_none, List.cons_append, List.nil_append, Option.elim_some, true_or, or_true, or_false, false_or, true_and, and_true, and_false, false_and, zio1, zio0, zio01, not_true_eq_false, not_false_eq_true, nlt, neq, nlt0, n0lt, neq0, neq1, nm9, m9n, nadd, nadd1, nmul, ncl, zin_t, n0, n1, t1, q, z1, z2, k1, q1, li2, eq_true (hb.mpr q2)]
      rw [hst]
      by_cases q3 : 0 < W h
      · have eu : upW kd rs pl W h = 5 * rs h := by unfold upW; rw [if_pos q3, if_pos (Or.inr qp)]
        rw [eu]
        simp (disch := omega) only [sX3_press_45, sX3_press_47, sX3_press_48, sX3_press_51, sX3_press_52, sX3_press_53, sX3_press_54, sX3_press_57, sX3_press_58, sX3_press_59, sX3_press_61, sX3_press_64, sX3_press_65, sX3_press_66, sX3_press_69, sX3_press_70, sX3_press_71, sX3_press_74, sX3_press_75, sX3_press_76, sX3_press_77, sX3_press_78, sX3_press_81, sX3_press_82, sX3_press_83, sX3_press_86, sX3_press_87, sX3_press_90, sX3_press_91, sX3_press_93, sX3_press_96, sX3_press_97, sX3_press_98, sX3_press_101, ↓reduceIte, if_true, if_false, Option.bind_some, Option.bind_none, Option.toList_some, Option.toList_none, List.cons_append, List.nil_append, Option.elim_some, true_or, or_true, or_false, false_or, true_and, and_true, and_false, false_and, zio1, zio0, zio01, not_true_eq_false, not_false_eq_true, nlt, neq, nlt0, n0lt, neq0, neq1, nm9, m9n, nadd, nadd1, nmul, ncl, zin_t, n0, n4, n5, n6, n8, n9, n10, w1, z2, hp1, zuA, Nat.reduceEqDiff, oo1, oo2, q3, hc1]
      · have eu : upW kd rs pl W h = 10 * rs h := by unfold upW; rw [if_neg q3]
        rw [eu]
        simp (disch := omega) only [sX3_press_45, sX3_press_47, sX3_press_48, sX3_press_51, sX3_press_52, sX3_press_53, sX3_press_54, sX3_press_57, sX3_press_58, sX3_press_59, sX3_press_61, sX3_press_64, sX3_press_65, sX3_press_66, sX3_press_69, sX3_press_70, sX3_press_71, sX3_press_74, sX3_press_75, sX3_press_76, sX3_press_77, sX3_press_78, sX3_press_81, sX3_press_82, sX3_press_83, sX3_press_86, sX3_press_87, sX3_press_90, sX3_press_91, sX3_press_93, sX3_press_96, sX3_press_97, sX3_press_98, sX3_press_101, ↓reduceIte, if_true, if_false, Option.bind_some, Option.bind_none, Option.toList_some, Option.toList_none, List.cons_append, List.nil_append, Option.elim_some, true_or, or_true, or_false, false_or, true_and, and_true, and_false, false_and, zio1, zio0, zio01, not_true_eq_false, not_false_eq_true, nlt, neq, nlt0, n0lt, neq0, neq1, nm9, m9n, nadd, nadd1, nmul, ncl, zin_t, n0, n4, n5, n6, n8, n9, n10, w1, z2, hp1, zuA, Nat.reduceEqDiff, oo1, oo2, q3, hc2]
    · have ep : prW kd gv pl W h = W h * gv h := if_neg qp
      have hc1 := hc0 1 0
      have hc2 := hc0 0 0
      have hp1 := hp0 0
      rw [if_pos rfl] at hp1 hc2
      rw [if_neg (by decide : ¬ (1 : Int32) = 0)] at hc1
      rw [ep] at hc1 hc2 ⊢
      rw [if_neg qp]
      have q1 : ¬ kd h = 2 := fun z => qp (Or.inl z)
      have q2 : ¬ pl / 2 ^ h % 2 = 1 := fun z => qp (Or.inr z)
      have hst : go L xs 22 69 3 [some (.ref o), some (.int (nI pl)), some (.int (nI h)), x3, x4] [.int (nI h)] (hp g t) = go L xs 22 69 45 [some (.ref o), some (.int (nI pl)), some (.int (nI h)), some (.ref (3 + h)), x4] [.int 0] (hp g t) := by
        simp (disch := omega) only [sX3_press_3, sX3_press_4, sX3_press_7, sX3_press_10, sX3_press_13, sX3_press_14, sX3_press_17, sX3_press_20, sX3_press_21, sX3_press_22, sX3_press_23, sX3_press_24, sX3_press_27, sX3_press_28, sX3_press_31, sX3_press_32, sX3_press_33, sX3_press_34, sX3_press_35, sX3_press_36, sX3_press_37, sX3_press_40, sX3_press_41, sX3_press_44, ↓reduceIte, if_true, if_false, Option.bind_some, Option.bind_none, Option.toList_some, Option.toList_none, List.cons_append, List.nil_append, Option.elim_some, true_or, or_true, or_false, false_or, true_and, and_true, and_false, false_and, zio1, zio0, zio01, not_true_eq_false, not_false_eq_true, nlt, neq, nlt0, n0lt, neq0, neq1, nm9, m9n, nadd, nadd1, nmul, ncl, zin_t, n0, n1, t1, q, z1, z2, k1, q1, li2, eq_false (fun z => q2 (hb.mp z))]
      rw [hst]
      by_cases q3 : 0 < W h
      · have eu : upW kd rs pl W h = (if (0 : Int32) = 0 ∧ kd h = 0 then 0 else 5 * rs h) := by
          unfold upW
          rw [if_pos q3]
          by_cases q4 : kd h = 0
          · rw [if_neg (fun z => z.elim (fun z => by omega) qp), if_pos ⟨rfl, q4⟩]
          · rw [if_pos (Or.inl (by omega)), if_neg (fun z => q4 z.2)]
        rw [eu]
        simp (disch := omega) only [sX3_press_45, sX3_press_47, sX3_press_48, sX3_press_51, sX3_press_52, sX3_press_53, sX3_press_54, sX3_press_57, sX3_press_58, sX3_press_59, sX3_press_61, sX3_press_64, sX3_press_65, sX3_press_66, sX3_press_69, sX3_press_70, sX3_press_71, sX3_press_74, sX3_press_75, sX3_press_76, sX3_press_77, sX3_press_78, sX3_press_81, sX3_press_82, sX3_press_83, sX3_press_86, sX3_press_87, sX3_press_90, sX3_press_91, sX3_press_93, sX3_press_96, sX3_press_97, sX3_press_98, sX3_press_101, ↓reduceIte, if_true, if_false, Option.bind_some, Option.bind_none, Option.toList_some, Option.toList_none, List.cons_append, List.nil_append, Option.elim_some, true_or, or_true, or_false, false_or, true_and, and_true, and_false, false_and, zio1, zio0, zio01, not_true_eq_false, not_false_eq_true, nlt, neq, nlt0, n0lt, neq0, neq1, nm9, m9n, nadd, nadd1, nmul, ncl, zin_t, n0, n4, n5, n6, n8, n9, n10, w1, z2, hp1, zuA, Nat.reduceEqDiff, oo1, oo2, q3, hc1]
      · have eu : upW kd rs pl W h = 10 * rs h := by unfold upW; rw [if_neg q3]
        rw [eu]
        simp (disch := omega) only [sX3_press_45, sX3_press_47, sX3_press_48, sX3_press_51, sX3_press_52, sX3_press_53, sX3_press_54, sX3_press_57, sX3_press_58, sX3_press_59, sX3_press_61, sX3_press_64, sX3_press_65, sX3_press_66, sX3_press_69, sX3_press_70, sX3_press_71, sX3_press_74, sX3_press_75, sX3_press_76, sX3_press_77, sX3_press_78, sX3_press_81, sX3_press_82, sX3_press_83, sX3_press_86, sX3_press_87, sX3_press_90, sX3_press_91, sX3_press_93, sX3_press_96, sX3_press_97, sX3_press_98, sX3_press_101, ↓reduceIte, if_true, if_false, Option.bind_some, Option.bind_none, Option.toList_some, Option.toList_none, List.cons_append, List.nil_append, Option.elim_some, true_or, or_true, or_false, false_or, true_and, and_true, and_false, false_and, zio1, zio0, zio01, not_true_eq_false, not_false_eq_true, nlt, neq, nlt0, n0lt, neq0, neq1, nm9, m9n, nadd, nadd1, nmul, ncl, zin_t, n0, n4, n5, n6, n8, n9, n10, w1, z2, hp1, zuA, Nat.reduceEqDiff, oo1, oo2, q3, hc2]
abbrev chN (H : Nat) (p up : Nat → Nat) (h q : Nat) : Int32 := nI (p q + (if 0 < q ∧ q ≤ h then p (q - 1) / 4 else 0) + (if q < h then p (q + 1) / 4 else 0)) - nI (up q)
theorem kX3_pr2 (ho : o = 19 ∨ o = 24) {p up : Nat → Nat} {x1 x3 x4 : Option Value} : ∀ e h (g : Nat → Nat → Int32), h + e + 1 = H → CTn g H S kd bd gv rs dr → (∀ q, q < H → g (o + 3) q = nI (p q) ∧ p q ≤ 24300) → (∀ q, q < H → g (o + 4) q = chN H p up h q) → ∃ g', (∀ a, a ≠ o + 4 → g' a = g a) ∧ (∀ q, q < H → g' (o + 4) q = chN H p up (H - 1) q) ∧ go L xs 22 69 106 [some (.ref o), x1, some (.int (nI h)), x3, x4] [] (hp g t) = some (none, hp g' t)
  | 0, h, g, hh, hT, hp1, hq => by
    have hh : h = H - 1 := by omega
    obtain ⟨n0, n1, n2, n3, n4, n5, n6, n7, n8, n9, n10⟩ := nob ho
    have t1 := hT.1
    have h7 := hT.2.1
    have q : ¬ h + 1 < H := by omega
    refine ⟨g, fun _ _ => rfl, hh ▸ hq, ?_⟩
    simp (disch := omega) only [sX3_press_106, sX3_press_107, sX3_press_108, sX3_press_109, sX3_press_110, sX3_press_113, sX3_press_116, sX3_press_163, ↓reduceIte, if_true, if_false, Option.bind_some, Option.bind_none, Option.toList_some, Option.toList_none, List.cons_append, List.nil_append, Option.elim_some, true_or, or_true, or_false, false_or, true_and, and_true, and_false, false_and, zio1, zio0, zio01, not_true_eq_false, not_false_eq_true, nlt, neq, nlt0, n0lt, neq0, neq1, nm9, m9n, nadd, nadd1, nmul, ncl, zin_t, n0, n1, t1, q]
  | e + 1, h, g, hh, hT, hp1, hq => by
    obtain ⟨n0, n1, n2, n3, n4, n5, n6, n7, n8, n9, n10⟩ := nob ho
    have t1 := hT.1
    have h7 := hT.2.1
    have q : h + 1 < H := by omega
    obtain ⟨u1, u2⟩ := hp1 h (by omega)
    obtain ⟨v1, v2⟩ := hp1 (h + 1) q
    have c1 := hq h (by omega)
    have c2 := hq (h + 1) q
    have e1 : chN H p up h h = nI (p h + (if 0 < h then p (h - 1) / 4 else 0)) - nI (up h) := by
      unfold chN
      rw [if_neg (Nat.lt_irrefl h)]
      by_cases z : 0 < h
      · rw [if_pos ⟨z, Nat.le_refl h⟩, if_pos z]; rfl
      · rw [if_neg (fun y => z y.1), if_neg z]
    have e2 : chN H p up h (h + 1) = nI (p (h + 1)) - nI (up (h + 1)) := by
      unfold chN
      rw [if_neg (by omega), if_neg (by omega)]; rfl
    have e3 : chN H p up (h + 1) h = nI (p h + (if 0 < h then p (h - 1) / 4 else 0) + p (h + 1) / 4) - nI (up h) := by
      unfold chN
      rw [if_pos (show h < h + 1 by omega)]
      by_cases z : 0 < h
      · rw [if_pos ⟨z, by omega⟩, if_pos z]
      · rw [if_neg (fun y => z y.1), if_neg z]
    have e4 : chN H p up (h + 1) (h + 1) = nI (p (h + 1) + p h / 4) - nI (up (h + 1)) := by
      unfold chN
      rw [if_pos (by omega), if_neg (by omega), Nat.add_sub_cancel]; rfl
    rw [e1] at c1
    rw [e2] at c2
    have F : nf o g (zu (zu g (o + 4) h (chN H p up (h + 1) h)) (o + 4) (h + 1) (chN H p up (h + 1) (h + 1))) := (nf_zu (by omega) _).tr (nf_zu (by omega) _)
    obtain ⟨g', a1, a2, a3⟩ := kX3_pr2 (p := p) (up := up) (x1 := x1) (x3 := x3) (x4 := x4) ho e (h + 1) (zu (zu g (o + 4) h (chN H p up (h + 1) h)) (o + 4) (h + 1) (chN H p up (h + 1) (h + 1))) (by omega) (F.town ho hT) (fun j hj => by
      have := hp1 j hj
      simpa [zu] using this) (fun j hj => by
      by_cases z : j = h + 1
      · subst z; simp [zu]
      · by_cases z2 : j = h
        · subst z2; simp [zu]
        · have e5 : chN H p up (h + 1) j = chN H p up h j := by
            unfold chN
            by_cases z3 : j < h
            · rw [if_pos z3, if_pos (by omega : j < h + 1)]
              by_cases z4 : 0 < j
              · rw [if_pos ⟨z4, by omega⟩, if_pos ⟨z4, by omega⟩]
              · rw [if_neg (fun y => z4 y.1), if_neg (fun y => z4 y.1)]
            · rw [if_neg (by omega), if_neg (by omega), if_neg (by omega), if_neg (by omega)]
          rw [e5]
          simp only [zu, z, z2, if_true, if_false]
          exact hq j hj)
    refine ⟨g', fun a ha => (a1 a ha).trans (by funext j; simp [zu, ha]), a2, ?_⟩
    rw [← a3, sX3_press_106, e3, e4]
    have hne : ¬ h + 1 = h := by omega
    simp (disch := omega) only [sX3_press_107, sX3_press_108, sX3_press_109, sX3_press_110, sX3_press_113, sX3_press_116, sX3_press_119, sX3_press_120, sX3_press_123, sX3_press_124, sX3_press_125, sX3_press_126, sX3_press_127, sX3_press_130, sX3_press_131, sX3_press_132, sX3_press_133, sX3_press_134, sX3_press_135, sX3_press_136, sX3_press_137, sX3_press_138, sX3_press_139, sX3_press_142, sX3_press_143, sX3_press_144, sX3_press_145, sX3_press_146, sX3_press_147, sX3_press_148, sX3_press_151, sX3_press_152, sX3_press_153, sX3_press_154, sX3_press_155, sX3_press_156, sX3_press_157, sX3_press_160, ↓reduceIte, if_true, if_false, Option.bind_some, Option.bind_none, Option.toList_some, Option.toList_none, List.cons_append, List.nil_append, Option.elim_some, true_or, or_true, or_false, false_or, true_and, and_true, and_false, false_and, zio1, zio0, zio01, not_true_eq_false, not_false_eq_true, nlt, neq, nlt0, n0lt, neq0, neq1, nm9, m9n, nadd, nadd1, nmul, ncl, zin_t, n0, n1, t1, q, n5, n6, n9, n10, u1, v1, c1, c2, zuA, Nat.reduceEqDiff, oo1, oo2, ndiv4, nsa, hne]
theorem kX3_press (ho : o = 19 ∨ o = 24) (hpl : pl < 128) {W : Nat → Nat} (hH : 0 < H) (hT : CTn g H S kd bd gv rs dr) (hW : ∀ q, q < H → g (o + 2) q = nI (W q) ∧ W q ≤ 2700) : ∃ g', (∀ a, a ≠ o + 3 → a ≠ o + 4 → g' a = g a) ∧ (∀ q, q < H → g' (o + 4) q = chN H (prW kd gv pl W) (upW kd rs pl W) (H - 1) q) ∧ go L xs 22 69 0 [some (.ref o), some (.int (nI pl)), none, none, none] [] (hp g t) = some (none, hp g' t) := by
  obtain ⟨g1, a1, a2, x3', x4', a3⟩ := kX3_pr1 (L := L) (xs := xs) (t := t) ho hpl (W := W) H 0 g none none (by omega) hT hW (fun q hq => absurd hq (by omega))
  have F : nf o g g1 := fun a ha => a1 a (by omega) (by omega)
  obtain ⟨g2, b1, b2, b3⟩ := kX3_pr2 (L := L) (xs := xs) (t := t) (p := prW kd gv pl W) (up := upW kd rs pl W) (x1 := some (.int (nI pl))) (x3 := x3') (x4 := x4') ho (H - 1) 0 g1 (by omega) (F.town ho hT) (fun q hq => ⟨(a2 q hq).1, prW_le hT hq (hW q hq).2⟩) (fun q hq => by
    rw [(a2 q hq).2]
    unfold chN
    rw [if_neg (by omega), if_neg (by omega)]; rfl)
  refine ⟨g2, fun a y1 y2 => (b1 a y2).trans (a1 a y1 y2), b2, ?_⟩
  rw [nI_0] at a3 b3
  simp (disch := omega) only [sX3_press_0, sX3_press_1, ↓reduceIte, if_true, if_false, Option.bind_some, Option.bind_none, Option.toList_some, Option.toList_none, List.cons_append, List.nil_append, Option.elim_some, true_or, or_true, or_false, false_or, true_and, and_true, and_false, false_and, zio1, zio0, zio01, not_true_eq_false, not_false_eq_true]
  rw [a3]
  simp (disch := omega) only [sX3_press_104, sX3_press_105, ↓reduceIte, if_true, if_false, Option.bind_some, Option.bind_none, Option.toList_some, Option.toList_none, List.cons_append, List.nil_append, Option.elim_some, true_or, or_true, or_false, false_or, true_and, and_true, and_false, false_and, zio1, zio0, zio01, not_true_eq_false, not_false_eq_true]
  exact b3
theorem chN_eq {p up : Nat → Nat} {q : Nat} (hq : q < H) : chN H p up (H - 1) q = nI (p q + (if 0 < q then p (q - 1) / 4 else 0) + (if q + 1 < H then p (q + 1) / 4 else 0)) - nI (up q) := by
  unfold chN
  by_cases z : q + 1 < H
  · rw [if_pos (show q < H - 1 by omega), if_pos z]
    by_cases z2 : 0 < q
    · rw [if_pos ⟨z2, by omega⟩, if_pos z2]
    · rw [if_neg (fun y => z2 y.1), if_neg z2]
  · rw [if_neg (show ¬ q < H - 1 by omega), if_neg z]
    by_cases z2 : 0 < q
    · rw [if_pos ⟨z2, by omega⟩, if_pos z2]
    · rw [if_neg (fun y => z2 y.1), if_neg z2]
theorem kX3_pn_loop (ho : o = 19 ∨ o = 24) {n : Nat} (hn : n < 50) {p up D : Nat → Nat} {x1 x2 x3 : Option Value} (hb : ∀ q, q < H → p q ≤ 24300 ∧ up q ≤ 90 ∧ D q ≤ 2000000) : ∀ e h (g : Nat → Nat → Int32) (x7 : Option Value), h + e = H → CTn g H S kd bd gv rs dr → (∀ q, q < H → g (o + 4) q = chN H p up (H - 1) q) → (∀ q, q < H → g (o + 1) (7 * n + q) = nI (D q)) → (∀ q, q < h → g (o + 1) (7 * (n + 1) + q) = nI (dst H p up D q)) → ∃ g', (∀ a, a ≠ o + 1 → g' a = g a) ∧ (∀ q, q < H → g' (o + 1) (7 * (n + 1) + q) = nI (dst H p up D q)) ∧ (∀ q, q < 7 * (n + 1) → g' (o + 1) q = g (o + 1) q) ∧ go L xs 20 69 40 [some (.ref o), x1, x2, x3, some (.int (nI (n * 7))), some (.int (nI (n * 7 + 7))), some (.int (nI h)), x7] [] (hp g t) = some (none, hp g' t)
  | 0, h, g, x7, hh, hT, hC, hD, hd => by
    have hh : h = H := by omega
    subst hh
    obtain ⟨n0, n1, n2, n3, n4, n5, n6, n7, n8, n9, n10⟩ := nob ho
    have t1 := hT.1
    have h7 := hT.2.1
    refine ⟨g, fun _ _ => rfl, hd, fun _ _ => rfl, ?_⟩
    simp (disch := omega) only [sX3_passNight_40, sX3_passNight_42, sX3_passNight_43, sX3_passNight_46, sX3_passNight_49, sX3_passNight_99, ↓reduceIte, if_true, if_false, Option.bind_some, Option.bind_none, Option.toList_some, Option.toList_none, List.cons_append, List.nil_append, Option.elim_some, true_or, or_true, or_false, false_or, true_and, and_true, and_false, false_and, zio1, zio0, zio01, not_true_eq_false, not_false_eq_true, nlt, neq, nlt0, n0lt, neq0, neq1, nm9, m9n, nadd, nadd1, nmul, ncl, zin_t, n0, n1, t1, Nat.lt_irrefl]
  | e + 1, h, g, x7, hh, hT, hC, hD, hd => by
    obtain ⟨n0, n1, n2, n3, n4, n5, n6, n7, n8, n9, n10⟩ := nob ho
    have t1 := hT.1
    have h7 := hT.2.1
    have q : h < H := by omega
    have c1 := hC h q
    rw [chN_eq q] at c1
    have d1 := hD h q
    rw [show 7 * n + h = n * 7 + h by omega] at d1
    obtain ⟨y1, y2, y3⟩ := hb h q
    have b2 : (if 0 < h then p (h - 1) / 4 else 0) ≤ 24300 := by
      split
      · have := (hb (h - 1) (by omega)).1; omega
      · omega
    have b3 : (if h + 1 < H then p (h + 1) / 4 else 0) ≤ 24300 := by
      split
      · have := (hb (h + 1) (by assumption)).1; omega
      · omega
    have ed : dst H p up D h = D h + (p h + (if 0 < h then p (h - 1) / 4 else 0) + (if h + 1 < H then p (h + 1) / 4 else 0)) - up h := by unfold dst; omega
    generalize hA : p h + (if 0 < h then p (h - 1) / 4 else 0) + (if h + 1 < H then p (h + 1) / 4 else 0) = A at c1 ed
    have F : nf o g (zu g (o + 1) (7 * (n + 1) + h) (nI (dst H p up D h))) := nf_zu (by omega) _
    obtain ⟨g', a1, a2, a4, a3⟩ := kX3_pn_loop (x1 := x1) (x2 := x2) (x3 := x3) ho hn hb e (h + 1) (zu g (o + 1) (7 * (n + 1) + h) (nI (dst H p up D h))) (some (.int (nI (D h + A) - nI (up h)))) (by omega) (F.town ho hT) (fun j hj => by
      have := hC j hj
      simpa [zu] using this) (fun j hj => by
      have := hD j hj
      have z : ¬ 7 * n + j = 7 * (n + 1) + h := by omega
      simp only [zu, z, if_true, if_false]
      exact this) (fun j hj => by
      by_cases z : j = h
      · subst z; simp [zu]
      · have z2 : ¬ 7 * (n + 1) + j = 7 * (n + 1) + h := by omega
        simp only [zu, z2, if_true, if_false]
        exact hd j (by omega))
    refine ⟨g', fun a ha => (a1 a ha).trans (by funext j; simp [zu, ha]), a2, fun j hj => (a4 j hj).trans (by
      have z2 : ¬ j = 7 * (n + 1) + h := by omega
      simp only [zu, z2, if_true, if_false]), ?_⟩
    rw [← a3, sX3_passNight_40, ed]
    have e7 : n * 7 + 7 + h = 7 * (n + 1) + h := by omega
    by_cases z : up h < D h + A
    · have z' : 0 < D h + A - up h := by omega
      simp (disch := omega) only [sX3_passNight_42, sX3_passNight_43, sX3_passNight_46, sX3_passNight_49, sX3_passNight_52, sX3_passNight_53, sX3_passNight_56, sX3_passNight_58, sX3_passNight_60, sX3_passNight_61, sX3_passNight_62, sX3_passNight_63, sX3_passNight_66, sX3_passNight_68, sX3_passNight_69, sX3_passNight_70, sX3_passNight_72, sX3_passNight_73, sX3_passNight_76, sX3_passNight_78, sX3_passNight_80, sX3_passNight_81, sX3_passNight_83, sX3_passNight_86, sX3_passNight_88, sX3_passNight_91, sX3_passNight_92, sX3_passNight_93, sX3_passNight_96, ↓reduceIte, if_true, if_false, Option.bind_some, Option.bind_none, Option.toList_some, Option.toList_none, List.cons_append, List.nil_append, Option.elim_some, true_or, or_true, or_false, false_or, true_and, and_true, and_false, false_and, zio1, zio0, zio01, not_true_eq_false, not_false_eq_true, nlt, neq, nlt0, n0lt, neq0, neq1, nm9, m9n, nadd, nadd1, nmul, ncl, zin_t, n0, n1, t1, q, n3, n7, n6, n10, d1, c1, nas, z', e7, nsub]
    · have e0 : D h + A - up h = 0 := by omega
      simp (disch := omega) only [sX3_passNight_42, sX3_passNight_43, sX3_passNight_46, sX3_passNight_49, sX3_passNight_52, sX3_passNight_53, sX3_passNight_56, sX3_passNight_58, sX3_passNight_60, sX3_passNight_61, sX3_passNight_62, sX3_passNight_63, sX3_passNight_66, sX3_passNight_68, sX3_passNight_69, sX3_passNight_70, sX3_passNight_72, sX3_passNight_73, sX3_passNight_76, sX3_passNight_78, sX3_passNight_80, sX3_passNight_81, sX3_passNight_83, sX3_passNight_86, sX3_passNight_88, sX3_passNight_91, sX3_passNight_92, sX3_passNight_93, sX3_passNight_96, ↓reduceIte, if_true, if_false, Option.bind_some, Option.bind_none, Option.toList_some, Option.toList_none, List.cons_append, List.nil_append, Option.elim_some, true_or, or_true, or_false, false_or, true_and, and_true, and_false, false_and, zio1, zio0, zio01, not_true_eq_false, not_false_eq_true, nlt, neq, nlt0, n0lt, neq0, neq1, nm9, m9n, nadd, nadd1, nmul, ncl, zin_t, n0, n1, t1, q, n3, n7, n6, n10, d1, c1, nas, n0s, z, e7, e0, nI_0]
end C3
