/-! The reference's nights: goNight. -/
section M3
variable {L : Nat} {xs : Nat → Int32} {g g' : Nat → Nat → Int32} {t : Nat → Int64}
variable {H S G : Nat} {kd bd gv rs dr w f l : Nat → Nat} {row : Nat → Int32}
variable {om : Int32} {omw omf pl : Nat}
theorem MTn.tr (h : MTn g H S kd bd gv rs dr) (ha : ∀ a, a < 57 → g' a = g a) : MTn g' H S kd bd gv rs dr := by
  unfold MTn
  rw [ha 45 (by omega), ha 46 (by omega), ha 47 (by omega), ha 48 (by omega), ha 49 (by omega), ha 50 (by omega)]
  exact h
theorem MGs.tr (h : MGs g H G w f l row) (ha : ∀ a, a < 57 → g' a = g a) : MGs g' H G w f l row := by
  unfold MGs
  rw [ha 45 (by omega), ha 53 (by omega), ha 54 (by omega), ha 55 (by omega), ha 56 (by omega)]
  exact h
theorem MOs.tr (h : MOs g om omw omf pl) (ha : ∀ a, a < 57 → g' a = g a) : MOs g' om omw omf pl := by
  unfold MOs
  rw [ha 45 (by omega)]
  exact h
/-- how hard a house is pressed -/
def pr (G : Nat) (w f l : Nat → Nat) (row : Nat → Int32) (om : Int32) (omw omf : Nat) (kd gv : Nat → Nat) (pl n h : Nat) : Nat := if kd h = 2 ∨ pl / 2 ^ h % 2 = 1 then wgt G w f l row om omw omf h n * gv h / 2 else wgt G w f l row om omw omf h n * gv h
theorem pr_le (hT : MTn g H S kd bd gv rs dr) (hG : MGs g H G w f l row) (hO : MOs g om omw omf pl) {n h : Nat} (hh : h < H) : pr G w f l row om omw omf kd gv pl n h ≤ 4860 := by
  have hW := wgt_le (h := h) (n := n) hG hO
  have hv := (hT.2.2.2.2 h hh).2.2.1.2.2
  have hm : wgt G w f l row om omw omf h n * gv h ≤ 4860 := Nat.le_trans (Nat.mul_le_mul hW hv) (by omega)
  unfold pr
  split <;> omega
theorem kX9_gn1 {n : Nat} (hn : n < 2147483648) {x3 : Option Value} : ∀ d k (g : Nat → Nat → Int32), k + d = H → MTn g H S kd bd gv rs dr → MGs g H G w f l row → MOs g om omw omf pl → (∀ h, h < k → g 58 h = nI (pr G w f l row om omw omf kd gv pl n h) ∧ g 59 h = (if 0 < wgt G w f l row om omw omf h n then 1 else 0)) → ∃ g', (∀ a, a ≠ 58 → a ≠ 59 → g' a = g a) ∧ (∀ h, h < H → g' 58 h = nI (pr G w f l row om omw omf kd gv pl n h) ∧ g' 59 h = (if 0 < wgt G w f l row om omw omf h n then 1 else 0)) ∧ go L xs 122 69 2 [some (.ref 45), some (.int (nI n)), some (.int (nI k)), x3] [] (hp g t) = go L xs 122 69 22 [some (.ref 45), some (.int (nI n)), some (.int (nI H)), x3] [] (hp g' t)
  | 0, k, g, hk, hT, hG, hO, hp1 => by
    have hk : k = H := by omega
    subst hk
    refine ⟨g, fun _ _ _ => rfl, hp1, ?_⟩
    obtain ⟨t1, t2, t3, t4, t5⟩ := id hT
    simp (disch := omega) only [sX9_goNight_2, sX9_goNight_3, sX9_goNight_4, sX9_goNight_7, ↓reduceIte, if_true, if_false, Option.bind_some, Option.bind_none, Option.toList_some, Option.toList_none, List.cons_append, List.nil_append, Option.elim_some, true_or, or_true, or_false, false_or, true_and, and_true, and_false, false_and, zio1, zio0, zio01, not_true_eq_false, not_false_eq_true, nlt, neq, nlt0, n0lt, neq0, neq1, nm9, m9n, nadd, nadd1, nmul, ncl, zin_t, t1, Nat.lt_irrefl]
  | d + 1, k, g, hk, hT, hG, hO, hp1 => by
    have hlt : k < H := by omega
    obtain ⟨t1, t2, t3, t4, t5⟩ := id hT
    have hpr := kX9_press (L := L) (xs := xs) (t := t) hT hG hO hlt hn
    have hag : ∀ a, a ≠ 58 → a ≠ 59 → (zu (zu g 58 k (nI (pr G w f l row om omw omf kd gv pl n k))) 59 k (if 0 < wgt G w f l row om omw omf k n then 1 else 0)) a = g a := fun a h1 h2 => by funext q; simp [zu, h1, h2]
    obtain ⟨g', a1, a2, a3⟩ := kX9_gn1 hn d (k + 1) (zu (zu g 58 k (nI (pr G w f l row om omw omf kd gv pl n k))) 59 k (if 0 < wgt G w f l row om omw omf k n then 1 else 0)) (by omega) (hT.tr (fun a ha => hag a (by omega) (by omega))) (hG.tr (fun a ha => hag a (by omega) (by omega))) (hO.tr (fun a ha => hag a (by omega) (by omega))) (fun h hh => by
      by_cases q : h = k
      · subst q; simp [zu]
      · have := hp1 h (by omega)
        simp [zu, q, this])
    refine ⟨g', fun a h1 h2 => (a1 a h1 h2).trans (hag a h1 h2), a2, ?_⟩
    rw [sX9_goNight_2]
    simp (disch := omega) only [sX9_goNight_3, sX9_goNight_4, sX9_goNight_7, sX9_goNight_10, sX9_goNight_11, sX9_goNight_12, sX9_goNight_13, sX9_goNight_16, sX9_goNight_19, ↓reduceIte, if_true, if_false, Option.bind_some, Option.bind_none, Option.toList_some, Option.toList_none, List.cons_append, List.nil_append, Option.elim_some, true_or, or_true, or_false, false_or, true_and, and_true, and_false, false_and, zio1, zio0, zio01, not_true_eq_false, not_false_eq_true, nlt, neq, nlt0, n0lt, neq0, neq1, nm9, m9n, nadd, nadd1, nmul, ncl, zin_t, t1, hlt, hpr]
    exact a3
theorem nsl {a b : Nat} (ha : a < 1073741824) (hb : b < 1073741824) : (nI a - nI b < 0) = (a < b) := by
  apply propext
  rw [Int32.lt_iff_toInt_lt, pk_sub_toInt ha hb]
  have : (0 : Int32).toInt = 0 := by decide
  omega
def dst (H : Nat) (p up D : Nat → Nat) (h : Nat) : Nat := D h + p h + (if 0 < h then p (h - 1) / 4 else 0) + (if h + 1 < H then p (h + 1) / 4 else 0) - up h
/-- how much a house comes up -/
def upv (G : Nat) (w f l : Nat → Nat) (row : Nat → Int32) (om : Int32) (omw omf : Nat) (kd rs : Nat → Nat) (pl n h : Nat) : Nat := if 0 < wgt G w f l row om omw omf h n then (if 0 < kd h ∨ (kd h = 2 ∨ pl / 2 ^ h % 2 = 1) then 5 * rs h else 0) else 10 * rs h
theorem kX9_gn2a {n h D0 : Nat} {p : Nat → Nat} {x3 : Option Value} (hH : g 45 1 = nI H) (h7 : H ≤ 7) (hh : h < H) (hD : g 57 h = nI D0) (hDb : D0 ≤ 1000000) (hp1 : ∀ h, h < H → g 58 h = nI (p h) ∧ p h ≤ 4860) : go L xs 122 69 32 [some (.ref 45), some (.int (nI n)), some (.int (nI h)), x3] [] (hp g t) = go L xs 122 69 67 [some (.ref 45), some (.int (nI n)), some (.int (nI h)), some (.int (nI (D0 + p h + (if 0 < h then p (h - 1) / 4 else 0))))] [] (hp g t) := by
  obtain ⟨p1, p2⟩ := hp1 h hh
  by_cases q : 0 < h
  · obtain ⟨p3, p4⟩ := hp1 (h - 1) (by omega)
    simp (disch := omega) only [sX9_goNight_32, sX9_goNight_33, sX9_goNight_36, sX9_goNight_37, sX9_goNight_38, sX9_goNight_39, sX9_goNight_42, sX9_goNight_43, sX9_goNight_44, sX9_goNight_45, sX9_goNight_46, sX9_goNight_47, sX9_goNight_48, sX9_goNight_51, sX9_goNight_52, sX9_goNight_55, sX9_goNight_56, sX9_goNight_57, sX9_goNight_58, sX9_goNight_59, sX9_goNight_60, sX9_goNight_61, sX9_goNight_64, sX9_goNight_65, sX9_goNight_66, ↓reduceIte, if_true, if_false, Option.bind_some, Option.bind_none, Option.toList_some, Option.toList_none, List.cons_append, List.nil_append, Option.elim_some, true_or, or_true, or_false, false_or, true_and, and_true, and_false, false_and, zio1, zio0, zio01, not_true_eq_false, not_false_eq_true, nlt, neq, nlt0, n0lt, neq0, neq1, nm9, m9n, nadd, nadd1, nmul, ncl, zin_t, hD, p1, q, nsub1, p3, ndiv4]
  · simp (disch := omega) only [sX9_goNight_32, sX9_goNight_33, sX9_goNight_36, sX9_goNight_37, sX9_goNight_38, sX9_goNight_39, sX9_goNight_42, sX9_goNight_43, sX9_goNight_44, sX9_goNight_45, sX9_goNight_46, sX9_goNight_47, sX9_goNight_48, sX9_goNight_51, sX9_goNight_52, sX9_goNight_55, sX9_goNight_56, sX9_goNight_57, sX9_goNight_58, sX9_goNight_59, sX9_goNight_60, sX9_goNight_61, sX9_goNight_64, sX9_goNight_65, sX9_goNight_66, ↓reduceIte, if_true, if_false, Option.bind_some, Option.bind_none, Option.toList_some, Option.toList_none, List.cons_append, List.nil_append, Option.elim_some, true_or, or_true, or_false, false_or, true_and, and_true, and_false, false_and, zio1, zio0, zio01, not_true_eq_false, not_false_eq_true, nlt, neq, nlt0, n0lt, neq0, neq1, nm9, m9n, nadd, nadd1, nmul, ncl, zin_t, hD, p1, q, nadd0, Nat.add_zero]
theorem kX9_gn2b {n h A : Nat} {p : Nat → Nat} (hH : g 45 1 = nI H) (h7 : H ≤ 7) (hh : h < H) (hA : A ≤ 2000000) (hp1 : ∀ h, h < H → g 58 h = nI (p h) ∧ p h ≤ 4860) : go L xs 122 69 67 [some (.ref 45), some (.int (nI n)), some (.int (nI h)), some (.int (nI A))] [] (hp g t) = go L xs 122 69 94 [some (.ref 45), some (.int (nI n)), some (.int (nI h)), some (.int (nI (A + (if h + 1 < H then p (h + 1) / 4 else 0))))] [] (hp g t) := by
  by_cases q : h + 1 < H
  · obtain ⟨p3, p4⟩ := hp1 (h + 1) q
    simp (disch := omega) only [sX9_goNight_67, sX9_goNight_68, sX9_goNight_69, sX9_goNight_70, sX9_goNight_71, sX9_goNight_72, sX9_goNight_75, sX9_goNight_78, sX9_goNight_79, sX9_goNight_82, sX9_goNight_83, sX9_goNight_84, sX9_goNight_85, sX9_goNight_86, sX9_goNight_87, sX9_goNight_88, sX9_goNight_91, sX9_goNight_92, sX9_goNight_93, ↓reduceIte, if_true, if_false, Option.bind_some, Option.bind_none, Option.toList_some, Option.toList_none, List.cons_append, List.nil_append, Option.elim_some, true_or, or_true, or_false, false_or, true_and, and_true, and_false, false_and, zio1, zio0, zio01, not_true_eq_false, not_false_eq_true, nlt, neq, nlt0, n0lt, neq0, neq1, nm9, m9n, nadd, nadd1, nmul, ncl, zin_t, hH, q, p3, ndiv4]
  · simp (disch := omega) only [sX9_goNight_67, sX9_goNight_68, sX9_goNight_69, sX9_goNight_70, sX9_goNight_71, sX9_goNight_72, sX9_goNight_75, sX9_goNight_78, sX9_goNight_79, sX9_goNight_82, sX9_goNight_83, sX9_goNight_84, sX9_goNight_85, sX9_goNight_86, sX9_goNight_87, sX9_goNight_88, sX9_goNight_91, sX9_goNight_92, sX9_goNight_93, ↓reduceIte, if_true, if_false, Option.bind_some, Option.bind_none, Option.toList_some, Option.toList_none, List.cons_append, List.nil_append, Option.elim_some, true_or, or_true, or_false, false_or, true_and, and_true, and_false, false_and, zio1, zio0, zio01, not_true_eq_false, not_false_eq_true, nlt, neq, nlt0, n0lt, neq0, neq1, nm9, m9n, nadd, nadd1, nmul, ncl, zin_t, hH, q, nadd0, Nat.add_zero]
theorem kX9_gn2c {n h A W : Nat} (hT : MTn g H S kd bd gv rs dr) (hO : MOs g om omw omf pl) (hh : h < H) (hs : g 59 h = (if 0 < W then 1 else 0)) : go L xs 122 69 94 [some (.ref 45), some (.int (nI n)), some (.int (nI h)), some (.int (nI A))] [] (hp g t) = go L xs 122 69 147 [some (.ref 45), some (.int (nI n)), some (.int (nI h)), some (.int (nI A - nI (if 0 < W then (if 0 < kd h ∨ (kd h = 2 ∨ pl / 2 ^ h % 2 = 1) then 5 * rs h else 0) else 10 * rs h)))] [] (hp g t) := by
  obtain ⟨t1, t2, t3, t4, t5⟩ := id hT
  obtain ⟨⟨k1, k2⟩, -, -, ⟨r1, r2⟩, -⟩ := t5 h hh
  have hip := kX9_isPiled (L := L) (xs := xs) (t := t) hT hO hh
  by_cases q : 0 < W
  · rw [if_pos q] at hs
    by_cases q1 : 0 < kd h
    · simp (disch := omega) only [sX9_goNight_94, sX9_goNight_95, sX9_goNight_96, sX9_goNight_99, sX9_goNight_100, sX9_goNight_101, sX9_goNight_104, sX9_goNight_106, sX9_goNight_107, sX9_goNight_110, sX9_goNight_111, sX9_goNight_112, sX9_goNight_113, sX9_goNight_116, sX9_goNight_117, sX9_goNight_120, sX9_goNight_121, sX9_goNight_122, sX9_goNight_125, sX9_goNight_126, sX9_goNight_127, sX9_goNight_130, sX9_goNight_133, sX9_goNight_134, sX9_goNight_135, sX9_goNight_138, sX9_goNight_139, sX9_goNight_140, sX9_goNight_141, sX9_goNight_144, sX9_goNight_145, sX9_goNight_146, ↓reduceIte, if_true, if_false, Option.bind_some, Option.bind_none, Option.toList_some, Option.toList_none, List.cons_append, List.nil_append, Option.elim_some, true_or, or_true, or_false, false_or, true_and, and_true, and_false, false_and, zio1, zio0, zio01, not_true_eq_false, not_false_eq_true, nlt, neq, nlt0, n0lt, neq0, neq1, nm9, m9n, nadd, nadd1, nmul, ncl, zin_t, hs, k1, q1, r1, q, li5]
    · by_cases q2 : kd h = 2 ∨ pl / 2 ^ h % 2 = 1
      · simp (disch := omega) only [sX9_goNight_94, sX9_goNight_95, sX9_goNight_96, sX9_goNight_99, sX9_goNight_100, sX9_goNight_101, sX9_goNight_104, sX9_goNight_106, sX9_goNight_107, sX9_goNight_110, sX9_goNight_111, sX9_goNight_112, sX9_goNight_113, sX9_goNight_116, sX9_goNight_117, sX9_goNight_120, sX9_goNight_121, sX9_goNight_122, sX9_goNight_125, sX9_goNight_126, sX9_goNight_127, sX9_goNight_130, sX9_goNight_133, sX9_goNight_134, sX9_goNight_135, sX9_goNight_138, sX9_goNight_139, sX9_goNight_140, sX9_goNight_141, sX9_goNight_144, sX9_goNight_145, sX9_goNight_146, ↓reduceIte, if_true, if_false, Option.bind_some, Option.bind_none, Option.toList_some, Option.toList_none, List.cons_append, List.nil_append, Option.elim_some, true_or, or_true, or_false, false_or, true_and, and_true, and_false, false_and, zio1, zio0, zio01, not_true_eq_false, not_false_eq_true, nlt, neq, nlt0, n0lt, neq0, neq1, nm9, m9n, nadd, nadd1, nmul, ncl, zin_t, hs, k1, q1, r1, q, li5, hip, if_pos q2, eq_true q2]
      · simp (disch := omega) only [sX9_goNight_94, sX9_goNight_95, sX9_goNight_96, sX9_goNight_99, sX9_goNight_100, sX9_goNight_101, sX9_goNight_104, sX9_goNight_106, sX9_goNight_107, sX9_goNight_110, sX9_goNight_111, sX9_goNight_112, sX9_goNight_113, sX9_goNight_116, sX9_goNight_117, sX9_goNight_120, sX9_goNight_121, sX9_goNight_122, sX9_goNight_125, sX9_goNight_126, sX9_goNight_127, sX9_goNight_130, sX9_goNight_133, sX9_goNight_134, sX9_goNight_135, sX9_goNight_138, sX9_goNight_139, sX9_goNight_140, sX9_goNight_141, sX9_goNight_144, sX9_goNight_145, sX9_goNight_146, ↓reduceIte, if_true, if_false, Option.bind_some, Option.bind_none, Option.toList_some, Option.toList_none, List.cons_append, List.nil_append, Option.elim_some, true_or, or_true, or_false, false_or, true_and, and_true, and_false, false_and, zio1, zio0, zio01, not_true_eq_false, not_false_eq_true, nlt, neq, nlt0, n0lt, neq0, neq1, nm9, m9n, nadd, nadd1, nmul, ncl, zin_t, hs, k1, q1, r1, q, hip, if_neg q2, eq_false q2, nI_0]
  · rw [if_neg q] at hs
    simp (disch := omega) only [sX9_goNight_94, sX9_goNight_95, sX9_goNight_96, sX9_goNight_99, sX9_goNight_100, sX9_goNight_101, sX9_goNight_104, sX9_goNight_106, sX9_goNight_107, sX9_goNight_110, sX9_goNight_111, sX9_goNight_112, sX9_goNight_113, sX9_goNight_116, sX9_goNight_117, sX9_goNight_120, sX9_goNight_121, sX9_goNight_122, sX9_goNight_125, sX9_goNight_126, sX9_goNight_127, sX9_goNight_130, sX9_goNight_133, sX9_goNight_134, sX9_goNight_135, sX9_goNight_138, sX9_goNight_139, sX9_goNight_140, sX9_goNight_141, sX9_goNight_144, sX9_goNight_145, sX9_goNight_146, ↓reduceIte, if_true, if_false, Option.bind_some, Option.bind_none, Option.toList_some, Option.toList_none, List.cons_append, List.nil_append, Option.elim_some, true_or, or_true, or_false, false_or, true_and, and_true, and_false, false_and, zio1, zio0, zio01, not_true_eq_false, not_false_eq_true, nlt, neq, nlt0, n0lt, neq0, neq1, nm9, m9n, nadd, nadd1, nmul, ncl, zin_t, hs, r1, q, li10]
theorem kX9_gn2d {n h A U : Nat} (hh : h < 7) (hA : A < 1073741824) (hU : U < 1073741824) : go L xs 122 69 147 [some (.ref 45), some (.int (nI n)), some (.int (nI h)), some (.int (nI A - nI U))] [] (hp g t) = go L xs 122 69 24 [some (.ref 45), some (.int (nI n)), some (.int (nI (h + 1))), some (.int (nI A - nI U))] [] (hp (zu g 57 h (nI (A - U))) t) := by
  by_cases q : A < U
  · have e : A - U = 0 := by omega
    simp (disch := omega) only [sX9_goNight_147, sX9_goNight_148, sX9_goNight_151, sX9_goNight_152, sX9_goNight_153, sX9_goNight_156, sX9_goNight_157, sX9_goNight_160, sX9_goNight_161, sX9_goNight_162, sX9_goNight_165, ↓reduceIte, if_true, if_false, Option.bind_some, Option.bind_none, Option.toList_some, Option.toList_none, List.cons_append, List.nil_append, Option.elim_some, true_or, or_true, or_false, false_or, true_and, and_true, and_false, false_and, zio1, zio0, zio01, not_true_eq_false, not_false_eq_true, nlt, neq, nlt0, n0lt, neq0, neq1, nm9, m9n, nadd, nadd1, nmul, ncl, zin_t, nsl, q, e, nI_0]
  · simp (disch := omega) only [sX9_goNight_147, sX9_goNight_148, sX9_goNight_151, sX9_goNight_152, sX9_goNight_153, sX9_goNight_156, sX9_goNight_157, sX9_goNight_160, sX9_goNight_161, sX9_goNight_162, sX9_goNight_165, ↓reduceIte, if_true, if_false, Option.bind_some, Option.bind_none, Option.toList_some, Option.toList_none, List.cons_append, List.nil_append, Option.elim_some, true_or, or_true, or_false, false_or, true_and, and_true, and_false, false_and, zio1, zio0, zio01, not_true_eq_false, not_false_eq_true, nlt, neq, nlt0, n0lt, neq0, neq1, nm9, m9n, nadd, nadd1, nmul, ncl, zin_t, nsl, q, nsub]
theorem kX9_gn2 {n : Nat} (hT : MTn g H S kd bd gv rs dr) (hG : MGs g H G w f l row) (hO : MOs g om omw omf pl) {x3 : Option Value} {D : Nat → Nat} {h : Nat} (hh : h < H) (hD : g 57 h = nI (D h)) (hDb : D h ≤ 1000000) (hp1 : ∀ h, h < H → g 58 h = nI (pr G w f l row om omw omf kd gv pl n h) ∧ g 59 h = (if 0 < wgt G w f l row om omw omf h n then 1 else 0)) : ∃ x3', go L xs 122 69 32 [some (.ref 45), some (.int (nI n)), some (.int (nI h)), x3] [] (hp g t) = go L xs 122 69 24 [some (.ref 45), some (.int (nI n)), some (.int (nI (h + 1))), x3'] [] (hp (zu g 57 h (nI (dst H (pr G w f l row om omw omf kd gv pl n) (upv G w f l row om omw omf kd rs pl n) D h))) t) := by
  obtain ⟨t1, t2, t3, t4, t5⟩ := id hT
  have hp2 : ∀ h, h < H → g 58 h = nI (pr G w f l row om omw omf kd gv pl n h) ∧ pr G w f l row om omw omf kd gv pl n h ≤ 4860 := fun h hh => ⟨(hp1 h hh).1, pr_le hT hG hO hh⟩
  have b1 := (hp2 h hh).2
  have b2 : (if 0 < h then pr G w f l row om omw omf kd gv pl n (h - 1) / 4 else 0) ≤ 4860 := by
    split
    · have := (hp2 (h - 1) (by omega)).2; omega
    · omega
  have b3 : (if h + 1 < H then pr G w f l row om omw omf kd gv pl n (h + 1) / 4 else 0) ≤ 4860 := by
    split
    · have := (hp2 (h + 1) (by assumption)).2; omega
    · omega
  have b4 : upv G w f l row om omw omf kd rs pl n h ≤ 90 := by
    have := (t5 h hh).2.2.2.1.2
    unfold upv
    split
    · split <;> omega
    · omega
  rw [kX9_gn2a t1 t2 hh hD hDb hp2, kX9_gn2b t1 t2 hh (by omega) hp2, kX9_gn2c hT hO hh (hp1 h hh).2]
  exact ⟨_, kX9_gn2d (U := upv G w f l row om omw omf kd rs pl n h) (by omega) (by omega) (by omega)⟩
theorem kX9_gn3 {n : Nat} {D : Nat → Nat} (hDb : ∀ h, h < H → D h ≤ 1000000) : ∀ d k (g : Nat → Nat → Int32) (x3 : Option Value), k + d = H → MTn g H S kd bd gv rs dr → MGs g H G w f l row → MOs g om omw omf pl → (∀ h, h < H → g 58 h = nI (pr G w f l row om omw omf kd gv pl n h) ∧ g 59 h = (if 0 < wgt G w f l row om omw omf h n then 1 else 0)) → (∀ h, h < k → g 57 h = nI (dst H (pr G w f l row om omw omf kd gv pl n) (upv G w f l row om omw omf kd rs pl n) D h)) → (∀ h, k ≤ h → h < H → g 57 h = nI (D h)) → ∃ g', (∀ a, a ≠ 57 → g' a = g a) ∧ (∀ h, h < H → g' 57 h = nI (dst H (pr G w f l row om omw omf kd gv pl n) (upv G w f l row om omw omf kd rs pl n) D h)) ∧ go L xs 122 69 24 [some (.ref 45), some (.int (nI n)), some (.int (nI k)), x3] [] (hp g t) = some (none, hp g' t)
  | 0, k, g, x3, hk, hT, hG, hO, hp1, h57, h57b => by
    have hk : k = H := by omega
    subst hk
    obtain ⟨t1, t2, t3, t4, t5⟩ := id hT
    refine ⟨g, fun _ _ => rfl, h57, ?_⟩
    simp (disch := omega) only [sX9_goNight_24, sX9_goNight_25, sX9_goNight_26, sX9_goNight_29, sX9_goNight_168, ↓reduceIte, if_true, if_false, Option.bind_some, Option.bind_none, Option.toList_some, Option.toList_none, List.cons_append, List.nil_append, Option.elim_some, true_or, or_true, or_false, false_or, true_and, and_true, and_false, false_and, zio1, zio0, zio01, not_true_eq_false, not_false_eq_true, nlt, neq, nlt0, n0lt, neq0, neq1, nm9, m9n, nadd, nadd1, nmul, ncl, zin_t, t1, Nat.lt_irrefl]
  | d + 1, k, g, x3, hk, hT, hG, hO, hp1, h57, h57b => by
    have hlt : k < H := by omega
    obtain ⟨t1, t2, t3, t4, t5⟩ := id hT
    obtain ⟨x3', hst⟩ := kX9_gn2 (L := L) (xs := xs) (t := t) (x3 := x3) (n := n) (D := D) hT hG hO hlt (h57b k (Nat.le_refl _) hlt) (hDb k hlt) hp1
    have hag : ∀ a, a ≠ 57 → (zu g 57 k (nI (dst H (pr G w f l row om omw omf kd gv pl n) (upv G w f l row om omw omf kd rs pl n) D k))) a = g a := fun a h1 => by funext q; simp [zu, h1]
    obtain ⟨g', a1, a2, a3⟩ := kX9_gn3 hDb d (k + 1) (zu g 57 k (nI (dst H (pr G w f l row om omw omf kd gv pl n) (upv G w f l row om omw omf kd rs pl n) D k))) x3' (by omega) (hT.tr (fun a ha => hag a (by omega))) (hG.tr (fun a ha => hag a (by omega))) (hO.tr (fun a ha => hag a (by omega))) (fun h hh => by rw [hag 58 (by omega), hag 59 (by omega)]; exact hp1 h hh) (fun h hh => by
      by_cases q : h = k
      · subst q; simp [zu]
      · have := h57 h (by omega)
        simp [zu, q, this]) (fun h h1 h2 => by
      have := h57b h (by omega) h2
      have q : h ≠ k := by omega
      simp [zu, q, this])
    refine ⟨g', fun a h1 => (a1 a h1).trans (hag a h1), a2, ?_⟩
    have h24 : go L xs 122 69 24 [some (.ref 45), some (.int (nI n)), some (.int (nI k)), x3] [] (hp g t) = go L xs 122 69 32 [some (.ref 45), some (.int (nI n)), some (.int (nI k)), x3] [] (hp g t) := by
      simp (disch := omega) only [sX9_goNight_24, sX9_goNight_25, sX9_goNight_26, sX9_goNight_29, ↓reduceIte, if_true, if_false, Option.bind_some, Option.bind_none, Option.toList_some, Option.toList_none, List.cons_append, List.nil_append, Option.elim_some, true_or, or_true, or_false, false_or, true_and, and_true, and_false, false_and, zio1, zio0, zio01, not_true_eq_false, not_false_eq_true, nlt, neq, nlt0, n0lt, neq0, neq1, nm9, m9n, nadd, nadd1, nmul, ncl, zin_t, t1, hlt]
    rw [h24, hst]
    exact a3
/-- a night of the reference -/
theorem kX9_goNight {n : Nat} (hn : n < 2147483648) {D : Nat → Nat} (hT : MTn g H S kd bd gv rs dr) (hG : MGs g H G w f l row) (hO : MOs g om omw omf pl) (hD : ∀ h, h < H → g 57 h = nI (D h) ∧ D h ≤ 1000000) : ∃ g', (∀ a, a ≠ 57 → a ≠ 58 → a ≠ 59 → g' a = g a) ∧ (∀ h, h < H → g' 57 h = nI (dst H (pr G w f l row om omw omf kd gv pl n) (upv G w f l row om omw omf kd rs pl n) D h)) ∧ go L xs 122 69 0 [some (.ref 45), some (.int (nI n)), none, none] [] (hp g t) = some (none, hp g' t) := by
  obtain ⟨g1, a1, a2, a3⟩ := kX9_gn1 (L := L) (xs := xs) (t := t) (x3 := none) hn H 0 g (by omega) hT hG hO (fun h hh => absurd hh (by omega))
  have hag : ∀ a, a < 57 → g1 a = g a := fun a ha => a1 a (by omega) (by omega)
  obtain ⟨g2, b1, b2, b3⟩ := kX9_gn3 (L := L) (xs := xs) (t := t) (D := D) (n := n) (fun h hh => (hD h hh).2) H 0 g1 none (by omega) (hT.tr hag) (hG.tr hag) (hO.tr hag) a2 (fun h hh => absurd hh (by omega)) (fun h _ hh => by rw [a1 57 (by omega) (by omega)]; exact (hD h hh).1)
  refine ⟨g2, fun a h1 h2 h3 => (b1 a h1).trans (a1 a h2 h3), b2, ?_⟩
  rw [nI_0] at a3 b3
  simp only [sX9_goNight_0, sX9_goNight_1]
  rw [a3]
  simp only [sX9_goNight_22, sX9_goNight_23]
  exact b3
end M3
