/-! The reference: reach, way. -/
section M13
variable {L : Nat} {xs : Nat → Int32} {g g' : Nat → Nat → Int32} {t : Nat → Int64}
variable {H S G R : Nat} {kd bd gv rs dr w f l rh rd rt : Nat → Nat} {row : Nat → Int32}
variable {om : Int32} {omw omf pl : Nat}
/-- one can step between house h and the next one at depths D -/
abbrev sp (S : Nat) (D : Nat → Nat) (h : Nat) : Prop := D h ≤ D (h + 1) + 10 * S ∧ D (h + 1) ≤ D h + 10 * S
def rgt (P : Nat → Prop) [DecidablePred P] : Nat → Nat → Nat → Nat
  | 0, _, a => a
  | e + 1, x, a => if P x then rgt P e (x + 1) (a ||| 2 ^ (x + 1)) else a
def lft (P : Nat → Prop) [DecidablePred P] : Nat → Nat → Nat
  | 0, a => a
  | x + 1, a => if P x then lft P x (a ||| 2 ^ x) else a
theorem kX9_rc1 {D : Nat → Nat} {h : Nat} {x2 : Option Value} (hT : MTn g H S kd bd gv rs dr) (hD : ∀ h, h < H → g 57 h = nI (D h) ∧ D h ≤ 1000000) : ∀ e x a, x + e + 1 = H → ∃ x4, go L xs 130 69 32 [some (.ref 45), some (.int (nI h)), x2, some (.int (nI a)), some (.int (nI x))] [] (hp g t) = go L xs 130 69 67 [some (.ref 45), some (.int (nI h)), x2, some (.int (nI (rgt (sp S D) e x a))), x4] [] (hp g t)
  | 0, x, a, hx => by
    obtain ⟨t1, t2, t3, t4, t5⟩ := id hT
    have q : ¬ x + 1 < H := by omega
    refine ⟨some (.int (nI x)), ?_⟩
    simp (disch := omega) only [sX9_reach_32, sX9_reach_34, sX9_reach_35, sX9_reach_36, sX9_reach_37, sX9_reach_40, ↓reduceIte, if_true, if_false, Option.bind_some, Option.bind_none, Option.toList_some, Option.toList_none, List.cons_append, List.nil_append, Option.elim_some, true_or, or_true, or_false, false_or, true_and, and_true, and_false, false_and, zio1, zio0, zio01, not_true_eq_false, not_false_eq_true, nlt, neq, nlt0, n0lt, neq0, neq1, nm9, m9n, nadd, nadd1, nmul, ncl, zin_t, t1, q, rgt]
  | e + 1, x, a, hx => by
    obtain ⟨t1, t2, t3, t4, t5⟩ := id hT
    have q : x + 1 < H := by omega
    have hs := kX9_isStep (L := L) (xs := xs) (t := t) hT hD q
    unfold rgt
    by_cases q2 : sp S D x
    · rw [if_pos q2] at hs
      obtain ⟨x4, e4⟩ := kX9_rc1 (h := h) (x2 := x2) hT hD e (x + 1) (a ||| 2 ^ (x + 1)) (by omega)
      refine ⟨x4, ?_⟩
      rw [if_pos q2, ← e4, sX9_reach_32]
      simp (disch := omega) only [sX9_reach_34, sX9_reach_35, sX9_reach_36, sX9_reach_37, sX9_reach_40, sX9_reach_43, sX9_reach_44, sX9_reach_46, sX9_reach_49, sX9_reach_52, sX9_reach_53, sX9_reach_54, sX9_reach_56, sX9_reach_57, sX9_reach_58, sX9_reach_59, sX9_reach_60, sX9_reach_61, sX9_reach_64, ↓reduceIte, if_true, if_false, Option.bind_some, Option.bind_none, Option.toList_some, Option.toList_none, List.cons_append, List.nil_append, Option.elim_some, true_or, or_true, or_false, false_or, true_and, and_true, and_false, false_and, zio1, zio0, zio01, not_true_eq_false, not_false_eq_true, nlt, neq, nlt0, n0lt, neq0, neq1, nm9, m9n, nadd, nadd1, nmul, ncl, zin_t, t1, q, hs, sh_1, fa_or2]
    · rw [if_neg q2] at hs
      refine ⟨some (.int (nI x)), ?_⟩
      rw [if_neg q2, sX9_reach_32]
      simp (disch := omega) only [sX9_reach_34, sX9_reach_35, sX9_reach_36, sX9_reach_37, sX9_reach_40, sX9_reach_43, sX9_reach_44, sX9_reach_46, sX9_reach_49, sX9_reach_52, sX9_reach_53, sX9_reach_54, sX9_reach_56, sX9_reach_57, sX9_reach_58, sX9_reach_59, sX9_reach_60, sX9_reach_61, sX9_reach_64, ↓reduceIte, if_true, if_false, Option.bind_some, Option.bind_none, Option.toList_some, Option.toList_none, List.cons_append, List.nil_append, Option.elim_some, true_or, or_true, or_false, false_or, true_and, and_true, and_false, false_and, zio1, zio0, zio01, not_true_eq_false, not_false_eq_true, nlt, neq, nlt0, n0lt, neq0, neq1, nm9, m9n, nadd, nadd1, nmul, ncl, zin_t, t1, q, hs]
theorem nm1 {a : Nat} : nI (a + 1) + (-1) = nI a := pk_m1 a
theorem kX9_rc2 {D : Nat → Nat} {h : Nat} {x2 : Option Value} (hT : MTn g H S kd bd gv rs dr) (hD : ∀ h, h < H → g 57 h = nI (D h) ∧ D h ≤ 1000000) : ∀ x a, x < H → go L xs 130 69 70 [some (.ref 45), some (.int (nI h)), x2, some (.int (nI a)), some (.int (nI x))] [] (hp g t) = some (some (.int (nI (lft (sp S D) x a))), hp g t)
  | 0, a, hx => by
    simp (disch := omega) only [sX9_reach_70, sX9_reach_72, sX9_reach_101, sX9_reach_102, ↓reduceIte, if_true, if_false, Option.bind_some, Option.bind_none, Option.toList_some, Option.toList_none, List.cons_append, List.nil_append, Option.elim_some, true_or, or_true, or_false, false_or, true_and, and_true, and_false, false_and, zio1, zio0, zio01, not_true_eq_false, not_false_eq_true, nlt, neq, nlt0, n0lt, neq0, neq1, nm9, m9n, nadd, nadd1, nmul, ncl, zin_t, Nat.lt_irrefl, lft]
  | x + 1, a, hx => by
    obtain ⟨t1, t2, t3, t4, t5⟩ := id hT
    have hs := kX9_isStep (L := L) (xs := xs) (t := t) hT hD hx
    have q : 0 < x + 1 := by omega
    unfold lft
    by_cases q2 : sp S D x
    · rw [if_pos q2] at hs
      have ih := kX9_rc2 (h := h) (x2 := x2) hT hD x (a ||| 2 ^ x) (by omega)
      rw [if_pos q2, ← ih, sX9_reach_70]
      simp (disch := omega) only [sX9_reach_72, sX9_reach_75, sX9_reach_76, sX9_reach_78, sX9_reach_79, sX9_reach_80, sX9_reach_83, sX9_reach_86, sX9_reach_87, sX9_reach_88, sX9_reach_90, sX9_reach_91, sX9_reach_92, sX9_reach_93, sX9_reach_94, sX9_reach_95, sX9_reach_98, ↓reduceIte, if_true, if_false, Option.bind_some, Option.bind_none, Option.toList_some, Option.toList_none, List.cons_append, List.nil_append, Option.elim_some, true_or, or_true, or_false, false_or, true_and, and_true, and_false, false_and, zio1, zio0, zio01, not_true_eq_false, not_false_eq_true, nlt, neq, nlt0, n0lt, neq0, neq1, nm9, m9n, nadd, nadd1, nmul, ncl, zin_t, q, nsub1, Nat.add_sub_cancel, hs, sh_1, fa_or2, nm1]
    · rw [if_neg q2] at hs
      rw [if_neg q2, sX9_reach_70]
      simp (disch := omega) only [sX9_reach_72, sX9_reach_75, sX9_reach_76, sX9_reach_78, sX9_reach_79, sX9_reach_80, sX9_reach_83, sX9_reach_86, sX9_reach_87, sX9_reach_88, sX9_reach_90, sX9_reach_91, sX9_reach_92, sX9_reach_93, sX9_reach_94, sX9_reach_95, sX9_reach_98, sX9_reach_101, sX9_reach_102, ↓reduceIte, if_true, if_false, Option.bind_some, Option.bind_none, Option.toList_some, Option.toList_none, List.cons_append, List.nil_append, Option.elim_some, true_or, or_true, or_false, false_or, true_and, and_true, and_false, false_and, zio1, zio0, zio01, not_true_eq_false, not_false_eq_true, nlt, neq, nlt0, n0lt, neq0, neq1, nm9, m9n, nadd, nadd1, nmul, ncl, zin_t, q, nsub1, Nat.add_sub_cancel, hs]
theorem qX9_reach (hT : MTn g H S kd bd gv rs dr) (hG : MGs g H G w f l row) {x y : Int32} : ∃ g', fr g g' ∧ go L xs 130 69 0 [some (.ref 45), some (.int x), some (.int y), none, none] [] (hp g t) = some (some (.int (if 0 ≤ x.toInt ∧ x.toInt < H then (if 0 ≤ y.toInt ∧ y.toInt ≤ 50 then nI (lft (sp S (dq H G kd gv rs w f l row y.toInt.toNat)) x.toInt.toNat (rgt (sp S (dq H G kd gv rs w f l row y.toInt.toNat)) (H - 1 - x.toInt.toNat) x.toInt.toNat (2 ^ x.toInt.toNat))) else -2) else -1)), hp g' t) := by
  have h1 := kX9_nH (L := L) (xs := xs) (t := t) (x := x) hT
  have h2 := kX9_isDawn (L := L) (xs := xs) (g := g) (t := t) (x := y)
  by_cases q : 0 ≤ x.toInt ∧ x.toInt < H
  · rw [if_pos q] at h1 ⊢
    by_cases q2 : 0 ≤ y.toInt ∧ y.toInt ≤ 50
    · rw [if_pos q2] at h2 ⊢
      have hx := nI_back q.1
      have hy := nI_back q2.1
      generalize hk : x.toInt.toNat = k at hx
      generalize hm : y.toInt.toNat = m at hy
      subst hx hy
      obtain ⟨g1, f1, o1, d1, e1⟩ := kX9_goTo (L := L) (xs := xs) (t := t) (m := m) (by omega) hT hG
      have hD : ∀ h, h < H → g1 57 h = nI (dq H G kd gv rs w f l row m h) ∧ dq H G kd gv rs w f l row m h ≤ 1000000 := fun h hh => ⟨d1 h hh, dq_le (f1.town hT) (f1.guests hG) o1 (by omega) hh⟩
      obtain ⟨x4, e2⟩ := kX9_rc1 (L := L) (xs := xs) (t := t) (h := k) (x2 := some (.int (nI m))) (f1.town hT) hD (H - 1 - k) k (2 ^ k) (by omega)
      have e3 := kX9_rc2 (L := L) (xs := xs) (t := t) (h := k) (x2 := some (.int (nI m))) (f1.town hT) hD k (rgt (sp S (dq H G kd gv rs w f l row m)) (H - 1 - k) k (2 ^ k)) (by omega)
      have t2 := hT.2.1
      refine ⟨g1, f1, ?_⟩
      simp (disch := omega) only [sX9_reach_0, sX9_reach_1, sX9_reach_2, sX9_reach_5, sX9_reach_8, sX9_reach_9, sX9_reach_10, sX9_reach_11, sX9_reach_14, sX9_reach_17, sX9_reach_19, sX9_reach_20, sX9_reach_21, sX9_reach_22, sX9_reach_25, sX9_reach_26, sX9_reach_27, sX9_reach_28, sX9_reach_29, sX9_reach_30, ↓reduceIte, if_true, if_false, Option.bind_some, Option.bind_none, Option.toList_some, Option.toList_none, List.cons_append, List.nil_append, Option.elim_some, true_or, or_true, or_false, false_or, true_and, and_true, and_false, false_and, zio1, zio0, zio01, not_true_eq_false, not_false_eq_true, nlt, neq, nlt0, n0lt, neq0, neq1, nm9, m9n, nadd, nadd1, nmul, ncl, zin_t, h1, h2, e1, sh_1]
      rw [e2]
      simp (disch := omega) only [sX9_reach_67, sX9_reach_68, ↓reduceIte, if_true, if_false, Option.bind_some, Option.bind_none, Option.toList_some, Option.toList_none, List.cons_append, List.nil_append, Option.elim_some, true_or, or_true, or_false, false_or, true_and, and_true, and_false, false_and, zio1, zio0, zio01, not_true_eq_false, not_false_eq_true, nlt, neq, nlt0, n0lt, neq0, neq1, nm9, m9n, nadd, nadd1, nmul, ncl, zin_t]
      exact e3
    · rw [if_neg q2] at h2 ⊢
      refine ⟨g, fr.rf, ?_⟩
      simp (disch := omega) only [sX9_reach_0, sX9_reach_1, sX9_reach_2, sX9_reach_5, sX9_reach_8, sX9_reach_9, sX9_reach_10, sX9_reach_11, sX9_reach_14, sX9_reach_17, sX9_reach_19, ↓reduceIte, if_true, if_false, Option.bind_some, Option.bind_none, Option.toList_some, Option.toList_none, List.cons_append, List.nil_append, Option.elim_some, true_or, or_true, or_false, false_or, true_and, and_true, and_false, false_and, zio1, zio0, zio01, not_true_eq_false, not_false_eq_true, h1, h2]
  · rw [if_neg q] at h1 ⊢
    refine ⟨g, fr.rf, ?_⟩
    simp (disch := omega) only [sX9_reach_0, sX9_reach_1, sX9_reach_2, sX9_reach_5, sX9_reach_8, sX9_reach_9, sX9_reach_10, sX9_reach_11, sX9_reach_14, sX9_reach_17, sX9_reach_19, ↓reduceIte, if_true, if_false, Option.bind_some, Option.bind_none, Option.toList_some, Option.toList_none, List.cons_append, List.nil_append, Option.elim_some, true_or, or_true, or_false, false_or, true_and, and_true, and_false, false_and, zio1, zio0, zio01, not_true_eq_false, not_false_eq_true, h1]
/-- one dawn of a way -/
def wst (P : Nat → Prop) [DecidablePred P] (s : Nat) : Nat → Nat → Nat → Nat
  | 0, _, a => a
  | e + 1, h, a => wst P s e (h + 1) ((a ||| (if P h ∧ s / 2 ^ h % 2 = 1 then 2 ^ (h + 1) else 0)) ||| (if P h ∧ s / 2 ^ (h + 1) % 2 = 1 then 2 ^ h else 0))
theorem wst_lt {P : Nat → Prop} [DecidablePred P] {s : Nat} : ∀ e h a, h + e ≤ 6 → a < 128 → wst P s e h a < 128
  | 0, _, a, _, ha => ha
  | e + 1, h, a, hh, ha => by
    have p1 : 2 ^ h < 2 ^ 7 := Nat.pow_lt_pow_right (by omega) (by omega)
    have p2 : 2 ^ (h + 1) < 2 ^ 7 := Nat.pow_lt_pow_right (by omega) (by omega)
    refine wst_lt e (h + 1) _ (by omega) ?_
    refine Nat.or_lt_two_pow (n := 7) (Nat.or_lt_two_pow ha ?_) ?_
    · split
      · exact p2
      · decide
    · split
      · exact p1
      · decide
theorem or0 (a : Nat) : nI a ||| 0 = nI a := by rw [← nI_0, fa_or2, Nat.or_zero]
theorem kX9_wy1 {D : Nat → Nat} {s : Nat} {x1 x2 x3 x5 : Option Value} (hs : s < 128) (hT : MTn g H S kd bd gv rs dr) (hD : ∀ h, h < H → g 57 h = nI (D h) ∧ D h ≤ 1000000) : ∀ e h a, h + e = H - 1 → ∃ x7, go L xs 139 69 62 [some (.ref 45), x1, x2, x3, some (.int (nI s)), x5, some (.int (nI a)), some (.int (nI h))] [] (hp g t) = go L xs 139 69 149 [some (.ref 45), x1, x2, x3, some (.int (nI s)), x5, some (.int (nI (wst (sp S D) s e h a))), x7] [] (hp g t)
  | 0, h, a, hh => by
    obtain ⟨t1, t2, t3, t4, t5⟩ := id hT
    have q : ¬ h + 1 < H := by omega
    refine ⟨some (.int (nI h)), ?_⟩
    simp (disch := omega) only [sX9_way_62, sX9_way_64, sX9_way_65, sX9_way_66, sX9_way_67, sX9_way_70, ↓reduceIte, if_true, if_false, Option.bind_some, Option.bind_none, Option.toList_some, Option.toList_none, List.cons_append, List.nil_append, Option.elim_some, true_or, or_true, or_false, false_or, true_and, and_true, and_false, false_and, zio1, zio0, zio01, not_true_eq_false, not_false_eq_true, nlt, neq, nlt0, n0lt, neq0, neq1, nm9, m9n, nadd, nadd1, nmul, ncl, zin_t, t1, q, wst]
  | e + 1, h, a, hh => by
    obtain ⟨t1, t2, t3, t4, t5⟩ := id hT
    have q : h + 1 < H := by omega
    have hst := kX9_isStep (L := L) (xs := xs) (t := t) hT hD q
    have b1 := bit_ok s hs h (by omega)
    have b2 := bit_ok s hs (h + 1) (by omega)
    unfold wst
    obtain ⟨x7, ih⟩ := kX9_wy1 (x1 := x1) (x2 := x2) (x3 := x3) (x5 := x5) hs hT hD e (h + 1) ((a ||| (if sp S D h ∧ s / 2 ^ h % 2 = 1 then 2 ^ (h + 1) else 0)) ||| (if sp S D h ∧ s / 2 ^ (h + 1) % 2 = 1 then 2 ^ h else 0)) (by omega)
    refine ⟨x7, ?_⟩
    rw [← ih, sX9_way_62]
    by_cases q2 : sp S D h
    · rw [if_pos q2] at hst
      by_cases q3 : s / 2 ^ h % 2 = 1
      · by_cases q4 : s / 2 ^ (h + 1) % 2 = 1
        · rw [if_pos ⟨q2, q3⟩, if_pos ⟨q2, q4⟩]
          simp (disch := omega) only [sX9_way_64, sX9_way_65, sX9_way_66, sX9_way_67, sX9_way_70, sX9_way_73, sX9_way_75, sX9_way_76, sX9_way_78, sX9_way_81, sX9_way_84, sX9_way_86, sX9_way_88, sX9_way_89, sX9_way_90, sX9_way_91, sX9_way_92, sX9_way_95, sX9_way_96, sX9_way_98, sX9_way_99, sX9_way_100, sX9_way_101, sX9_way_104, sX9_way_105, sX9_way_106, sX9_way_108, sX9_way_110, sX9_way_111, sX9_way_113, sX9_way_116, sX9_way_119, sX9_way_121, sX9_way_123, sX9_way_124, sX9_way_125, sX9_way_126, sX9_way_127, sX9_way_128, sX9_way_129, sX9_way_132, sX9_way_133, sX9_way_135, sX9_way_136, sX9_way_139, sX9_way_140, sX9_way_141, sX9_way_143, sX9_way_146, ↓reduceIte, if_true, if_false, Option.bind_some, Option.bind_none, Option.toList_some, Option.toList_none, List.cons_append, List.nil_append, Option.elim_some, true_or, or_true, or_false, false_or, true_and, and_true, and_false, false_and, zio1, zio0, zio01, not_true_eq_false, not_false_eq_true, nlt, neq, nlt0, n0lt, neq0, neq1, nm9, m9n, nadd, nadd1, nmul, ncl, zin_t, t1, q, hst, eq_true (b1.mpr q3), eq_true (b2.mpr q4), sh_1, fa_or2]
        · rw [if_pos ⟨q2, q3⟩, if_neg (fun z => q4 z.2)]
          simp (disch := omega) only [sX9_way_64, sX9_way_65, sX9_way_66, sX9_way_67, sX9_way_70, sX9_way_73, sX9_way_75, sX9_way_76, sX9_way_78, sX9_way_81, sX9_way_84, sX9_way_86, sX9_way_88, sX9_way_89, sX9_way_90, sX9_way_91, sX9_way_92, sX9_way_95, sX9_way_96, sX9_way_98, sX9_way_99, sX9_way_100, sX9_way_101, sX9_way_104, sX9_way_105, sX9_way_106, sX9_way_108, sX9_way_110, sX9_way_111, sX9_way_113, sX9_way_116, sX9_way_119, sX9_way_121, sX9_way_123, sX9_way_124, sX9_way_125, sX9_way_126, sX9_way_127, sX9_way_128, sX9_way_129, sX9_way_132, sX9_way_133, sX9_way_135, sX9_way_136, sX9_way_139, sX9_way_140, sX9_way_141, sX9_way_143, sX9_way_146, ↓reduceIte, if_true, if_false, Option.bind_some, Option.bind_none, Option.toList_some, Option.toList_none, List.cons_append, List.nil_append, Option.elim_some, true_or, or_true, or_false, false_or, true_and, and_true, and_false, false_and, zio1, zio0, zio01, not_true_eq_false, not_false_eq_true, nlt, neq, nlt0, n0lt, neq0, neq1, nm9, m9n, nadd, nadd1, nmul, ncl, zin_t, t1, q, hst, eq_true (b1.mpr q3), eq_false (fun z => q4 (b2.mp z)), sh_1, fa_or2, or0, Nat.or_zero]
      · by_cases q4 : s / 2 ^ (h + 1) % 2 = 1
        · rw [if_neg (fun z => q3 z.2), if_pos ⟨q2, q4⟩]
          simp (disch := omega) only [sX9_way_64, sX9_way_65, sX9_way_66, sX9_way_67, sX9_way_70, sX9_way_73, sX9_way_75, sX9_way_76, sX9_way_78, sX9_way_81, sX9_way_84, sX9_way_86, sX9_way_88, sX9_way_89, sX9_way_90, sX9_way_91, sX9_way_92, sX9_way_95, sX9_way_96, sX9_way_98, sX9_way_99, sX9_way_100, sX9_way_101, sX9_way_104, sX9_way_105, sX9_way_106, sX9_way_108, sX9_way_110, sX9_way_111, sX9_way_113, sX9_way_116, sX9_way_119, sX9_way_121, sX9_way_123, sX9_way_124, sX9_way_125, sX9_way_126, sX9_way_127, sX9_way_128, sX9_way_129, sX9_way_132, sX9_way_133, sX9_way_135, sX9_way_136, sX9_way_139, sX9_way_140, sX9_way_141, sX9_way_143, sX9_way_146, ↓reduceIte, if_true, if_false, Option.bind_some, Option.bind_none, Option.toList_some, Option.toList_none, List.cons_append, List.nil_append, Option.elim_some, true_or, or_true, or_false, false_or, true_and, and_true, and_false, false_and, zio1, zio0, zio01, not_true_eq_false, not_false_eq_true, nlt, neq, nlt0, n0lt, neq0, neq1, nm9, m9n, nadd, nadd1, nmul, ncl, zin_t, t1, q, hst, eq_false (fun z => q3 (b1.mp z)), eq_true (b2.mpr q4), sh_1, fa_or2, or0, Nat.or_zero]
        · rw [if_neg (fun z => q3 z.2), if_neg (fun z => q4 z.2)]
          simp (disch := omega) only [sX9_way_64, sX9_way_65, sX9_way_66, sX9_way_67, sX9_way_70, sX9_way_73, sX9_way_75, sX9_way_76, sX9_way_78, sX9_way_81, sX9_way_84, sX9_way_86, sX9_way_88, sX9_way_89, sX9_way_90, sX9_way_91, sX9_way_92, sX9_way_95, sX9_way_96, sX9_way_98, sX9_way_99, sX9_way_100, sX9_way_101, sX9_way_104, sX9_way_105, sX9_way_106, sX9_way_108, sX9_way_110, sX9_way_111, sX9_way_113, sX9_way_116, sX9_way_119, sX9_way_121, sX9_way_123, sX9_way_124, sX9_way_125, sX9_way_126, sX9_way_127, sX9_way_128, sX9_way_129, sX9_way_132, sX9_way_133, sX9_way_135, sX9_way_136, sX9_way_139, sX9_way_140, sX9_way_141, sX9_way_143, sX9_way_146, ↓reduceIte, if_true, if_false, Option.bind_some, Option.bind_none, Option.toList_some, Option.toList_none, List.cons_append, List.nil_append, Option.elim_some, true_or, or_true, or_false, false_or, true_and, and_true, and_false, false_and, zio1, zio0, zio01, not_true_eq_false, not_false_eq_true, nlt, neq, nlt0, n0lt, neq0, neq1, nm9, m9n, nadd, nadd1, nmul, ncl, zin_t, t1, q, hst, eq_false (fun z => q3 (b1.mp z)), eq_false (fun z => q4 (b2.mp z)), or0, Nat.or_zero]
    · rw [if_neg q2] at hst
      rw [if_neg (fun z => q2 z.1), if_neg (fun z => q2 z.1)]
      simp (disch := omega) only [sX9_way_64, sX9_way_65, sX9_way_66, sX9_way_67, sX9_way_70, sX9_way_73, sX9_way_75, sX9_way_76, sX9_way_78, sX9_way_81, sX9_way_84, sX9_way_86, sX9_way_88, sX9_way_89, sX9_way_90, sX9_way_91, sX9_way_92, sX9_way_95, sX9_way_96, sX9_way_98, sX9_way_99, sX9_way_100, sX9_way_101, sX9_way_104, sX9_way_105, sX9_way_106, sX9_way_108, sX9_way_110, sX9_way_111, sX9_way_113, sX9_way_116, sX9_way_119, sX9_way_121, sX9_way_123, sX9_way_124, sX9_way_125, sX9_way_126, sX9_way_127, sX9_way_128, sX9_way_129, sX9_way_132, sX9_way_133, sX9_way_135, sX9_way_136, sX9_way_139, sX9_way_140, sX9_way_141, sX9_way_143, sX9_way_146, ↓reduceIte, if_true, if_false, Option.bind_some, Option.bind_none, Option.toList_some, Option.toList_none, List.cons_append, List.nil_append, Option.elim_some, true_or, or_true, or_false, false_or, true_and, and_true, and_false, false_and, zio1, zio0, zio01, not_true_eq_false, not_false_eq_true, nlt, neq, nlt0, n0lt, neq0, neq1, nm9, m9n, nadd, nadd1, nmul, ncl, zin_t, t1, q, hst, or0, Nat.or_zero]
/-- the first dawn from d on, of e ones, at which one can be there -/
def wy (H S : Nat) (D : Nat → Nat → Nat) (to : Nat) : Nat → Nat → Nat → Option Nat
  | 0, _, _ => none
  | e + 1, d, s => if wst (sp S (D d)) s (H - 1) 0 s / 2 ^ to % 2 = 1 then some d else wy H S D to e (d + 1) (wst (sp S (D d)) s (H - 1) 0 s)
theorem kX9_wy2 {to : Nat} {x1 x3 : Option Value} (h0 : 0 < H) (hto : to < H) : ∀ e d s (g : Nat → Nat → Int32) (x6 x7 : Option Value), d + e = 51 → s < 128 → MTn g H S kd bd gv rs dr → MGs g H G w f l row → MOs g om omw omf pl → (∀ h, h < H → g 57 h = nI (dp H G kd gv rs w f l row om omw omf pl d h)) → ∃ g', fr g g' ∧ go L xs 139 69 48 [some (.ref 45), x1, some (.int (nI to)), x3, some (.int (nI s)), some (.int (nI d)), x6, x7] [] (hp g t) = some (some (.int (match wy H S (dp H G kd gv rs w f l row om omw omf pl) to e d s with
    | some q => nI q
    | none => -9)), hp g' t)
  | 0, d, s, g, x6, x7, hk, hs, hT, hG, hO, hD => by
    have hk : d = 51 := by omega
    subst hk
    refine ⟨g, fr.rf, ?_⟩
    simp (disch := omega) only [sX9_way_48, sX9_way_50, sX9_way_52, sX9_way_178, sX9_way_180, ↓reduceIte, if_true, if_false, Option.bind_some, Option.bind_none, Option.toList_some, Option.toList_none, List.cons_append, List.nil_append, Option.elim_some, true_or, or_true, or_false, false_or, true_and, and_true, and_false, false_and, zio1, zio0, zio01, not_true_eq_false, not_false_eq_true, nlt, neq, nlt0, n0lt, neq0, neq1, nm9, m9n, nadd, nadd1, nmul, ncl, zin_t, li50, (show 50 < 51 by omega), wy]
  | e + 1, d, s, g, x6, x7, hk, hs, hT, hG, hO, hD => by
    have hlt : ¬ 50 < d := by omega
    have t2 := hT.2.1
    have hD2 : ∀ h, h < H → g 57 h = nI (dp H G kd gv rs w f l row om omw omf pl d h) ∧ dp H G kd gv rs w f l row om omw omf pl d h ≤ 1000000 := fun h hh => ⟨hD h hh, dq_le hT hG hO (by omega) hh⟩
    obtain ⟨x7', e1⟩ := kX9_wy1 (L := L) (xs := xs) (t := t) (x1 := x1) (x2 := some (.int (nI to))) (x3 := x3) (x5 := some (.int (nI d))) hs hT hD2 (H - 1) 0 s (by omega)
    have hs2 := wst_lt (P := sp S (dp H G kd gv rs w f l row om omw omf pl d)) (s := s) (H - 1) 0 s (by omega) hs
    have hb := bit_ok _ hs2 to (by omega)
    rw [nI_0] at e1
    unfold wy
    by_cases q : wst (sp S (dp H G kd gv rs w f l row om omw omf pl d)) s (H - 1) 0 s / 2 ^ to % 2 = 1
    · refine ⟨g, fr.rf, ?_⟩
      rw [if_pos q, sX9_way_48]
      simp (disch := omega) only [sX9_way_50, sX9_way_52, sX9_way_55, sX9_way_57, sX9_way_59, sX9_way_60, ↓reduceIte, if_true, if_false, Option.bind_some, Option.bind_none, Option.toList_some, Option.toList_none, List.cons_append, List.nil_append, Option.elim_some, true_or, or_true, or_false, false_or, true_and, and_true, and_false, false_and, zio1, zio0, zio01, not_true_eq_false, not_false_eq_true, nlt, neq, nlt0, n0lt, neq0, neq1, nm9, m9n, nadd, nadd1, nmul, ncl, zin_t, li50, hlt]
      rw [e1]
      simp (disch := omega) only [sX9_way_149, sX9_way_151, sX9_way_153, sX9_way_155, sX9_way_156, sX9_way_157, sX9_way_158, sX9_way_159, sX9_way_160, sX9_way_163, sX9_way_165, ↓reduceIte, if_true, if_false, Option.bind_some, Option.bind_none, Option.toList_some, Option.toList_none, List.cons_append, List.nil_append, Option.elim_some, true_or, or_true, or_false, false_or, true_and, and_true, and_false, false_and, zio1, zio0, zio01, not_true_eq_false, not_false_eq_true, nlt, neq, nlt0, n0lt, neq0, neq1, nm9, m9n, nadd, nadd1, nmul, ncl, zin_t, eq_true (hb.mpr q)]
    · obtain ⟨g1, f1, o1, d1, e2⟩ := kX9_night (L := L) (xs := xs) (t := t) (n := d) (by omega) hT hG hO hD
      obtain ⟨g2, f2, e3⟩ := kX9_wy2 (x1 := x1) (x3 := x3) h0 hto e (d + 1) (wst (sp S (dp H G kd gv rs w f l row om omw omf pl d)) s (H - 1) 0 s) g1 (some (.int (nI (wst (sp S (dp H G kd gv rs w f l row om omw omf pl d)) s (H - 1) 0 s)))) x7' (by omega) hs2 (f1.town hT) (f1.guests hG) o1 d1
      refine ⟨g2, f1.tr f2, ?_⟩
      rw [if_neg q, sX9_way_48]
      simp (disch := omega) only [sX9_way_50, sX9_way_52, sX9_way_55, sX9_way_57, sX9_way_59, sX9_way_60, ↓reduceIte, if_true, if_false, Option.bind_some, Option.bind_none, Option.toList_some, Option.toList_none, List.cons_append, List.nil_append, Option.elim_some, true_or, or_true, or_false, false_or, true_and, and_true, and_false, false_and, zio1, zio0, zio01, not_true_eq_false, not_false_eq_true, nlt, neq, nlt0, n0lt, neq0, neq1, nm9, m9n, nadd, nadd1, nmul, ncl, zin_t, li50, hlt]
      rw [e1]
      simp (disch := omega) only [sX9_way_149, sX9_way_151, sX9_way_153, sX9_way_155, sX9_way_156, sX9_way_157, sX9_way_158, sX9_way_159, sX9_way_160, sX9_way_163, sX9_way_165, sX9_way_166, sX9_way_167, sX9_way_169, sX9_way_172, sX9_way_175, ↓reduceIte, if_true, if_false, Option.bind_some, Option.bind_none, Option.toList_some, Option.toList_none, List.cons_append, List.nil_append, Option.elim_some, true_or, or_true, or_false, false_or, true_and, and_true, and_false, false_and, zio1, zio0, zio01, not_true_eq_false, not_false_eq_true, nlt, neq, nlt0, n0lt, neq0, neq1, nm9, m9n, nadd, nadd1, nmul, ncl, zin_t, eq_false (fun z => q (hb.mp z)), e2]
      exact e3
theorem qX9_way (hT : MTn g H S kd bd gv rs dr) (hG : MGs g H G w f l row) {x y z : Int32} : ∃ g', fr g g' ∧ go L xs 139 69 0 [some (.ref 45), some (.int x), some (.int y), some (.int z), none, none, none, none] [] (hp g t) = some (some (.int (if (0 ≤ x.toInt ∧ x.toInt < H) ∧ (0 ≤ y.toInt ∧ y.toInt < H) then (if 0 ≤ z.toInt ∧ z.toInt ≤ 50 then (if x = y then z else (match wy H S (dq H G kd gv rs w f l row) y.toInt.toNat (51 - z.toInt.toNat) z.toInt.toNat (2 ^ x.toInt.toNat) with
    | some q => nI q
    | none => -9)) else -2) else -1)), hp g' t) := by
  have h1 := kX9_nH (L := L) (xs := xs) (t := t) (x := x) hT
  have h2 := kX9_nH (L := L) (xs := xs) (t := t) (x := y) hT
  have h3 := kX9_isDawn (L := L) (xs := xs) (g := g) (t := t) (x := z)
  have t2 := hT.2.1
  by_cases q1 : 0 ≤ x.toInt ∧ x.toInt < H
  · rw [if_pos q1] at h1
    by_cases q2 : 0 ≤ y.toInt ∧ y.toInt < H
    · rw [if_pos q2] at h2
      rw [if_pos ⟨q1, q2⟩]
      by_cases q3 : 0 ≤ z.toInt ∧ z.toInt ≤ 50
      · rw [if_pos q3] at h3 ⊢
        by_cases q4 : x = y
        · refine ⟨g, fr.rf, ?_⟩
          rw [if_pos q4]
          simp (disch := omega) only [sX9_way_0, sX9_way_1, sX9_way_2, sX9_way_5, sX9_way_8, sX9_way_9, sX9_way_10, sX9_way_13, sX9_way_16, sX9_way_17, sX9_way_18, sX9_way_19, sX9_way_22, sX9_way_25, sX9_way_27, sX9_way_28, sX9_way_29, sX9_way_30, sX9_way_33, sX9_way_34, ↓reduceIte, if_true, if_false, Option.bind_some, Option.bind_none, Option.toList_some, Option.toList_none, List.cons_append, List.nil_append, Option.elim_some, true_or, or_true, or_false, false_or, true_and, and_true, and_false, false_and, zio1, zio0, zio01, not_true_eq_false, not_false_eq_true, h1, h2, h3, eq_true q4]
        · rw [if_neg q4]
          have q4' : (x = y) = False := eq_false q4
          have hx := nI_back q1.1
          have hy := nI_back q2.1
          have hz := nI_back q3.1
          generalize hk : x.toInt.toNat = k at hx
          generalize hm : y.toInt.toNat = m at hy
          generalize hn : z.toInt.toNat = n at hz
          subst hx hy hz
          obtain ⟨g1, f1, o1, d1, e1⟩ := kX9_goTo (L := L) (xs := xs) (t := t) (m := n) (by omega) hT hG
          have p1 : 2 ^ k < 2 ^ 7 := Nat.pow_lt_pow_right (by omega) (by omega)
          obtain ⟨g2, f2, e2⟩ := kX9_wy2 (L := L) (xs := xs) (t := t) (to := m) (x1 := some (.int (nI k))) (x3 := some (.int (nI n))) (show 0 < H by omega) (by omega) (51 - n) n (2 ^ k) g1 none none (by omega) p1 (f1.town hT) (f1.guests hG) o1 d1
          refine ⟨g2, f1.tr f2, ?_⟩
          rw [← e2]
          simp (disch := omega) only [sX9_way_0, sX9_way_1, sX9_way_2, sX9_way_5, sX9_way_8, sX9_way_9, sX9_way_10, sX9_way_13, sX9_way_16, sX9_way_17, sX9_way_18, sX9_way_19, sX9_way_22, sX9_way_25, sX9_way_27, sX9_way_28, sX9_way_29, sX9_way_30, sX9_way_33, sX9_way_34, sX9_way_35, sX9_way_36, sX9_way_37, sX9_way_40, sX9_way_41, sX9_way_42, sX9_way_43, sX9_way_45, sX9_way_46, ↓reduceIte, if_true, if_false, Option.bind_some, Option.bind_none, Option.toList_some, Option.toList_none, List.cons_append, List.nil_append, Option.elim_some, true_or, or_true, or_false, false_or, true_and, and_true, and_false, false_and, zio1, zio0, zio01, not_true_eq_false, not_false_eq_true, h1, h2, h3, q4', e1, sh_1]
      · rw [if_neg q3] at h3 ⊢
        refine ⟨g, fr.rf, ?_⟩
        simp (disch := omega) only [sX9_way_0, sX9_way_1, sX9_way_2, sX9_way_5, sX9_way_8, sX9_way_9, sX9_way_10, sX9_way_13, sX9_way_16, sX9_way_17, sX9_way_18, sX9_way_19, sX9_way_22, sX9_way_25, sX9_way_27, ↓reduceIte, if_true, if_false, Option.bind_some, Option.bind_none, Option.toList_some, Option.toList_none, List.cons_append, List.nil_append, Option.elim_some, true_or, or_true, or_false, false_or, true_and, and_true, and_false, false_and, zio1, zio0, zio01, not_true_eq_false, not_false_eq_true, h1, h2, h3]
    · rw [if_neg q2] at h2
      rw [if_neg (fun q => q2 q.2)]
      refine ⟨g, fr.rf, ?_⟩
      simp (disch := omega) only [sX9_way_0, sX9_way_1, sX9_way_2, sX9_way_5, sX9_way_8, sX9_way_9, sX9_way_10, sX9_way_13, sX9_way_16, sX9_way_17, sX9_way_18, sX9_way_19, sX9_way_22, sX9_way_25, sX9_way_27, ↓reduceIte, if_true, if_false, Option.bind_some, Option.bind_none, Option.toList_some, Option.toList_none, List.cons_append, List.nil_append, Option.elim_some, true_or, or_true, or_false, false_or, true_and, and_true, and_false, false_and, zio1, zio0, zio01, not_true_eq_false, not_false_eq_true, h1, h2]
  · rw [if_neg q1] at h1
    rw [if_neg (fun q => q1 q.1)]
    refine ⟨g, fr.rf, ?_⟩
    simp (disch := omega) only [sX9_way_0, sX9_way_1, sX9_way_2, sX9_way_5, sX9_way_8, sX9_way_9, sX9_way_10, sX9_way_13, sX9_way_16, sX9_way_17, sX9_way_18, sX9_way_19, sX9_way_22, sX9_way_25, sX9_way_27, ↓reduceIte, if_true, if_false, Option.bind_some, Option.bind_none, Option.toList_some, Option.toList_none, List.cons_append, List.nil_append, Option.elim_some, true_or, or_true, or_false, false_or, true_and, and_true, and_false, false_and, zio1, zio0, zio01, not_true_eq_false, not_false_eq_true, h1]
end M13
