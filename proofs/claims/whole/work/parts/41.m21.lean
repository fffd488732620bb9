/-! The reference: town. -/
section M21
variable {L : Nat} {xs : Nat → Int32} {g g' : Nat → Nat → Int32} {t : Nat → Int64}
variable {hs : Nat → Bool} {sz ln : Nat → Nat} {ce : Nat → Nat → Int32}
theorem qX9_town1 {x y i n : Int32} (h : ¬ (0 ≤ x.toInt ∧ x.toInt ≤ 3)) : go L xs 109 69 0 [some (.ref 45), some (.int x), some (.int y), some (.int i), some (.int n), none] [] (hp g t) = some (some (.int (-1)), hp (zu g 45 0 0) t) := by
  have h1 := kX9_noSheet (L := L) (xs := xs) (g := g) (t := t) (x := x)
  rw [if_neg h] at h1
  simp (disch := omega) only [sX9_town_0, sX9_town_1, sX9_town_4, sX9_town_7, sX9_town_8, sX9_town_9, sX9_town_12, ↓reduceIte, if_true, if_false, Option.bind_some, Option.bind_none, Option.toList_some, Option.toList_none, List.cons_append, List.nil_append, Option.elim_some, true_or, or_true, or_false, false_or, true_and, and_true, and_false, false_and, zio1, zio0, zio01, not_true_eq_false, not_false_eq_true, h1, kX9_refused]
theorem qX9_town2 {k : Nat} (hk : k < 4) {y i n : Int32} (h : ¬ (0 ≤ y.toInt ∧ y.toInt ≤ 2)) : go L xs 109 69 0 [some (.ref 45), some (.int (nI k)), some (.int y), some (.int i), some (.int n), none] [] (hp g t) = some (some (.int (-2)), hp (zu g 45 0 0) t) := by
  have h1 := sh_ok (L := L) (xs := xs) (g := g) (t := t) hk
  have hin := kX9_inI (L := L) (xs := xs) (g := g) (t := t) (x := y) (b := 0) (c := 2) (lo := 0) (hi := 2) (by decide) (by decide)
  rw [if_neg h] at hin
  simp (disch := omega) only [sX9_town_0, sX9_town_1, sX9_town_4, sX9_town_7, sX9_town_8, sX9_town_9, sX9_town_12, sX9_town_13, sX9_town_14, sX9_town_15, sX9_town_16, sX9_town_19, sX9_town_22, sX9_town_25, sX9_town_26, sX9_town_28, sX9_town_31, ↓reduceIte, if_true, if_false, Option.bind_some, Option.bind_none, Option.toList_some, Option.toList_none, List.cons_append, List.nil_append, Option.elim_some, true_or, or_true, or_false, false_or, true_and, and_true, and_false, false_and, zio1, zio0, zio01, not_true_eq_false, not_false_eq_true, h1, hin, kX9_refused]
theorem la_ok {m : Nat} (hm : m ≤ 2) : go L xs 97 69 0 [some (.long (nI m).toInt64), none, some (.long 0), none, some (.long 2), none] [] (hp g t) = some (some (.int 1), hp g t) := by
  have hin := kX9_inI (L := L) (xs := xs) (g := g) (t := t) (x := nI m) (b := 0) (c := 2) (lo := 0) (hi := 2) (by decide) (by decide)
  rwa [if_pos (by rw [nI_toInt (by omega)]; omega)] at hin
theorem qX9_town3 (hM : MSh g hs sz ln ce) {k m : Nat} (hk : k < 4) (hm : m ≤ 2) {i n : Int32} (h1 : hs k = true) (h2 : ¬ ln k = m) : go L xs 109 69 0 [some (.ref 45), some (.int (nI k)), some (.int (nI m)), some (.int i), some (.int n), none] [] (hp g t) = some (some (.int (-12)), hp (zu g 45 0 2) t) := by
  have e1 := sh_ok (L := L) (xs := xs) (g := g) (t := t) hk
  have e2 := la_ok (L := L) (xs := xs) (g := g) (t := t) hm
  obtain ⟨a2, a3, a4, a5, a6⟩ := hM.tt hk h1
  have m12 : (-10 - 2 : Int32) = -12 := by decide
  simp (disch := omega) only [sX9_town_0, sX9_town_1, sX9_town_4, sX9_town_7, sX9_town_8, sX9_town_9, sX9_town_12, sX9_town_13, sX9_town_14, sX9_town_15, sX9_town_16, sX9_town_19, sX9_town_22, sX9_town_25, sX9_town_26, sX9_town_28, sX9_town_31, sX9_town_32, sX9_town_33, sX9_town_36, sX9_town_37, sX9_town_38, sX9_town_41, sX9_town_42, sX9_town_45, sX9_town_46, sX9_town_47, sX9_town_48, sX9_town_51, sX9_town_52, sX9_town_53, sX9_town_56, ↓reduceIte, if_true, if_false, Option.bind_some, Option.bind_none, Option.toList_some, Option.toList_none, List.cons_append, List.nil_append, Option.elim_some, true_or, or_true, or_false, false_or, true_and, and_true, and_false, false_and, zio1, zio0, zio01, not_true_eq_false, not_false_eq_true, nlt, neq, nlt0, n0lt, neq0, neq1, nm9, m9n, nadd, nadd1, nmul, ncl, zin_t, e1, e2, a2, a4, h2, kX9_failed, m12]
theorem qX9_town4 (hM : MSh g hs sz ln ce) {k m : Nat} (hk : k < 4) (hm : m ≤ 2) {i n : Int32} (h1 : hs k = false) : go L xs 109 69 0 [some (.ref 45), some (.int (nI k)), some (.int (nI m)), some (.int i), some (.int n), none] [] (hp g t) = some (some (.int (-11)), hp (zu g 45 0 1) t) := by
  have e1 := sh_ok (L := L) (xs := xs) (g := g) (t := t) hk
  have e2 := la_ok (L := L) (xs := xs) (g := g) (t := t) hm
  have m11 : (-10 - 1 : Int32) = -11 := by decide
  rcases hM k hk with ⟨a1, a2⟩ | ⟨a1, a2⟩
  · simp (disch := omega) only [sX9_town_0, sX9_town_1, sX9_town_4, sX9_town_7, sX9_town_8, sX9_town_9, sX9_town_12, sX9_town_13, sX9_town_14, sX9_town_15, sX9_town_16, sX9_town_19, sX9_town_22, sX9_town_25, sX9_town_26, sX9_town_28, sX9_town_31, sX9_town_32, sX9_town_33, sX9_town_36, sX9_town_37, sX9_town_38, sX9_town_41, sX9_town_42, sX9_town_45, sX9_town_46, sX9_town_47, sX9_town_48, sX9_town_51, sX9_town_52, sX9_town_53, sX9_town_56, sX9_town_57, sX9_town_58, sX9_town_61, sX9_town_62, sX9_town_63, sX9_town_66, sX9_town_67, sX9_town_68, sX9_town_71, ↓reduceIte, if_true, if_false, Option.bind_some, Option.bind_none, Option.toList_some, Option.toList_none, List.cons_append, List.nil_append, Option.elim_some, true_or, or_true, or_false, false_or, true_and, and_true, and_false, false_and, zio1, zio0, zio01, not_true_eq_false, not_false_eq_true, nlt, neq, nlt0, n0lt, neq0, neq1, nm9, m9n, nadd, nadd1, nmul, ncl, zin_t, e1, e2, a2, m1lt, kX9_failed, m11]
  · rw [h1] at a1; cases a1
theorem qX9_town5 (hM : MSh g hs sz ln ce) {k : Nat} (hk : k < 4) {i n : Int32} (h1 : hs k = true) (h2 : n.toInt < 0) : go L xs 109 69 0 [some (.ref 45), some (.int (nI k)), some (.int (nI (ln k))), some (.int i), some (.int n), none] [] (hp g t) = some (some (.int (-14)), hp (zu g 45 0 4) t) := by
  obtain ⟨a2, a3, a4, a5, a6⟩ := hM.tt hk h1
  have e1 := sh_ok (L := L) (xs := xs) (g := g) (t := t) hk
  have e2 := la_ok (L := L) (xs := xs) (g := g) (t := t) a5
  have m14 : (-10 - 4 : Int32) = -14 := by decide
  have q : (n < 0) = True := eq_true (Int32.lt_iff_toInt_lt.mpr (by simpa using h2))
  simp (disch := omega) only [sX9_town_0, sX9_town_1, sX9_town_4, sX9_town_7, sX9_town_8, sX9_town_9, sX9_town_12, sX9_town_13, sX9_town_14, sX9_town_15, sX9_town_16, sX9_town_19, sX9_town_22, sX9_town_25, sX9_town_26, sX9_town_28, sX9_town_31, sX9_town_32, sX9_town_33, sX9_town_36, sX9_town_37, sX9_town_38, sX9_town_41, sX9_town_42, sX9_town_45, sX9_town_46, sX9_town_47, sX9_town_48, sX9_town_51, sX9_town_52, sX9_town_53, sX9_town_56, sX9_town_57, sX9_town_58, sX9_town_61, sX9_town_62, sX9_town_63, sX9_town_66, sX9_town_67, sX9_town_68, sX9_town_71, sX9_town_72, sX9_town_74, sX9_town_77, sX9_town_78, sX9_town_79, sX9_town_82, ↓reduceIte, if_true, if_false, Option.bind_some, Option.bind_none, Option.toList_some, Option.toList_none, List.cons_append, List.nil_append, Option.elim_some, true_or, or_true, or_false, false_or, true_and, and_true, and_false, false_and, zio1, zio0, zio01, not_true_eq_false, not_false_eq_true, nlt, neq, nlt0, n0lt, neq0, neq1, nm9, m9n, nadd, nadd1, nmul, ncl, zin_t, e1, e2, a2, a4, q, kX9_failed, m14]
theorem nlt_f {n : Int32} (h : ¬ n.toInt < 0) : (n < 0) = False := eq_false (fun z => h (by have := Int32.lt_iff_toInt_lt.mp z; simpa using this))
theorem qX9_town6 (hM : MSh g hs sz ln ce) {k : Nat} (hk : k < 4) {i n : Int32} (h1 : hs k = true) (h2 : ¬ n.toInt < 0) (h3 : ¬ (0 ≤ i.toInt ∧ i.toInt + n.toInt ≤ sz k)) : go L xs 109 69 0 [some (.ref 45), some (.int (nI k)), some (.int (nI (ln k))), some (.int i), some (.int n), none] [] (hp g t) = some (some (.int (-13)), hp (zu g 45 0 3) t) := by
  obtain ⟨a2, a3, a4, a5, a6⟩ := hM.tt hk h1
  have e1 := sh_ok (L := L) (xs := xs) (g := g) (t := t) hk
  have e2 := la_ok (L := L) (xs := xs) (g := g) (t := t) a5
  have m13 : (-10 - 3 : Int32) = -13 := by decide
  have q := nlt_f h2
  have b1 := kX9_isBeyond (L := L) (xs := xs) (g := g) (t := t) (i := i) (n := n) a3
  rw [if_neg (fun z => h3 ⟨z.1.1, z.2⟩)] at b1
  simp (disch := omega) only [sX9_town_0, sX9_town_1, sX9_town_4, sX9_town_7, sX9_town_8, sX9_town_9, sX9_town_12, sX9_town_13, sX9_town_14, sX9_town_15, sX9_town_16, sX9_town_19, sX9_town_22, sX9_town_25, sX9_town_26, sX9_town_28, sX9_town_31, sX9_town_32, sX9_town_33, sX9_town_36, sX9_town_37, sX9_town_38, sX9_town_41, sX9_town_42, sX9_town_45, sX9_town_46, sX9_town_47, sX9_town_48, sX9_town_51, sX9_town_52, sX9_town_53, sX9_town_56, sX9_town_57, sX9_town_58, sX9_town_61, sX9_town_62, sX9_town_63, sX9_town_66, sX9_town_67, sX9_town_68, sX9_town_71, sX9_town_72, sX9_town_74, sX9_town_77, sX9_town_78, sX9_town_79, sX9_town_82, sX9_town_83, sX9_town_84, sX9_town_86, sX9_town_87, sX9_town_88, sX9_town_91, sX9_town_92, sX9_town_93, sX9_town_96, sX9_town_99, sX9_town_100, sX9_town_101, sX9_town_104, ↓reduceIte, if_true, if_false, Option.bind_some, Option.bind_none, Option.toList_some, Option.toList_none, List.cons_append, List.nil_append, Option.elim_some, true_or, or_true, or_false, false_or, true_and, and_true, and_false, false_and, zio1, zio0, zio01, not_true_eq_false, not_false_eq_true, nlt, neq, nlt0, n0lt, neq0, neq1, nm9, m9n, nadd, nadd1, nmul, ncl, zin_t, e1, e2, a2, a4, q, b1, kX9_failed, m13]
theorem kX9_tw_loop {c : Nat → Int32} {n j : Nat} {x1 x2 x3 x4 : Option Value} (hj : j ≤ 7) : ∀ e h (g : Nat → Nat → Int32), h + e = j → g 45 1 = nI j → MRd g c n j → (∀ q, q < h → g 46 q = g 51 q ∧ g 47 q = g 52 (4 * q) ∧ g 48 q = g 52 (4 * q + 1) ∧ g 49 q = g 52 (4 * q + 2) ∧ g 50 q = g 52 (4 * q + 3)) → ∃ g', (∀ a, (a < 46 ∨ 50 < a) → g' a = g a) ∧ (∀ q, q < j → g' 46 q = g' 51 q ∧ g' 47 q = g' 52 (4 * q) ∧ g' 48 q = g' 52 (4 * q + 1) ∧ g' 49 q = g' 52 (4 * q + 2) ∧ g' 50 q = g' 52 (4 * q + 3)) ∧ go L xs 109 69 151 [some (.ref 45), x1, x2, x3, x4, some (.int (nI h))] [] (hp g t) = go L xs 109 69 250 [some (.ref 45), x1, x2, x3, x4, some (.int (nI j))] [] (hp g' t)
  | 0, h, g, hh, t1, hd, hq => by
    have hh : h = j := by omega
    subst hh
    refine ⟨g, fun _ _ => rfl, hq, ?_⟩
    simp (disch := omega) only [sX9_town_151, sX9_town_153, sX9_town_154, sX9_town_157, ↓reduceIte, if_true, if_false, Option.bind_some, Option.bind_none, Option.toList_some, Option.toList_none, List.cons_append, List.nil_append, Option.elim_some, true_or, or_true, or_false, false_or, true_and, and_true, and_false, false_and, zio1, zio0, zio01, not_true_eq_false, not_false_eq_true, nlt, neq, nlt0, n0lt, neq0, neq1, nm9, m9n, nadd, nadd1, nmul, ncl, zin_t, t1, Nat.lt_irrefl]
  | e + 1, h, g, hh, t1, hd, hq => by
    have q : h < j := by omega
    have hag : ∀ a, (a < 46 ∨ 50 < a) → (zu (zu (zu (zu (zu g 46 h (g 51 h)) 47 h (g 52 (4 * h))) 48 h (g 52 (4 * h + 1))) 49 h (g 52 (4 * h + 2))) 50 h (g 52 (4 * h + 3))) a = g a := fun a ha => by
      have z1 : a ≠ 46 := by omega
      have z2 : a ≠ 47 := by omega
      have z3 : a ≠ 48 := by omega
      have z4 : a ≠ 49 := by omega
      have z5 : a ≠ 50 := by omega
      funext p; simp [zu, z1, z2, z3, z4, z5]
    obtain ⟨g', a1, a2, a3⟩ := kX9_tw_loop (x1 := x1) (x2 := x2) (x3 := x3) (x4 := x4) (c := c) (n := n) hj e (h + 1) (zu (zu (zu (zu (zu g 46 h (g 51 h)) 47 h (g 52 (4 * h))) 48 h (g 52 (4 * h + 1))) 49 h (g 52 (4 * h + 2))) 50 h (g 52 (4 * h + 3))) (by omega) (by rw [hag 45 (by omega)]; exact t1) (by
      unfold MRd
      rw [hag 51 (by omega), hag 52 (by omega)]
      exact hd) (fun p hp1 => by
      rw [hag 51 (by omega), hag 52 (by omega)]
      by_cases z : p = h
      · subst z; simp [zu]
      · have := hq p (by omega)
        simpa [zu, z] using this)
    refine ⟨g', fun a ha => (a1 a ha).trans (hag a ha), a2, ?_⟩
    rw [← a3, sX9_town_151]
    simp (disch := omega) only [sX9_town_153, sX9_town_154, sX9_town_157, sX9_town_160, sX9_town_161, sX9_town_164, sX9_town_166, sX9_town_167, sX9_town_170, sX9_town_172, sX9_town_173, sX9_town_174, sX9_town_175, sX9_town_178, sX9_town_180, sX9_town_181, sX9_town_184, sX9_town_185, sX9_town_187, sX9_town_188, sX9_town_189, sX9_town_190, sX9_town_191, sX9_town_194, sX9_town_196, sX9_town_197, sX9_town_200, sX9_town_201, sX9_town_203, sX9_town_204, sX9_town_205, sX9_town_206, sX9_town_207, sX9_town_208, sX9_town_209, sX9_town_212, sX9_town_214, sX9_town_215, sX9_town_218, sX9_town_219, sX9_town_221, sX9_town_222, sX9_town_223, sX9_town_224, sX9_town_225, sX9_town_226, sX9_town_227, sX9_town_230, sX9_town_232, sX9_town_233, sX9_town_236, sX9_town_237, sX9_town_239, sX9_town_240, sX9_town_241, sX9_town_242, sX9_town_243, sX9_town_244, sX9_town_247, ↓reduceIte, if_true, if_false, Option.bind_some, Option.bind_none, Option.toList_some, Option.toList_none, List.cons_append, List.nil_append, Option.elim_some, true_or, or_true, or_false, false_or, true_and, and_true, and_false, false_and, zio1, zio0, zio01, not_true_eq_false, not_false_eq_true, nlt, neq, nlt0, n0lt, neq0, neq1, nm9, m9n, nadd, nadd1, nmul, ncl, zin_t, t1, q, li4, li2, li3, zuA, Nat.reduceEqDiff]
/-- what a town's reading ends in: a fault, or a town -/
theorem qX9_town7 (hM : MSh g hs sz ln ce) {k i n : Nat} (hk : k < 4) (h1 : hs k = true) (h2 : i + n ≤ sz k) : ∃ g', fx g g' ∧ ((∃ p, p ≤ 50 ∧ FF (fun q => ce k (i + q)) n p ∧ go L xs 109 69 0 [some (.ref 45), some (.int (nI k)), some (.int (nI (ln k))), some (.int (nI i)), some (.int (nI n)), none] [] (hp g t) = some (some (.int (-100 - nI p)), hp (zu g' 45 0 0) t)) ∨ (∃ j, OKt (fun q => ce k (i + q)) n j ∧ ∃ g'', (∀ a, (a < 46 ∨ 50 < a) → g'' a = (zu (zu g' 45 1 (nI j)) 45 2 (nI (dgt (fun q => ce k (i + q)) 1))) a) ∧ dgt (fun q => ce k (i + q)) 1 ≤ 9 ∧ (∀ h, h < j → g'' 46 h = nI (kdo (fun q => ce k (i + q)) h) ∧ g'' 47 h = nI (dgt (fun q => ce k (i + q)) (2 + 6 * h + 2)) ∧ g'' 48 h = nI (dgt (fun q => ce k (i + q)) (2 + 6 * h + 3)) ∧ g'' 49 h = nI (dgt (fun q => ce k (i + q)) (2 + 6 * h + 4)) ∧ g'' 50 h = nI (dgt (fun q => ce k (i + q)) (2 + 6 * h + 5))) ∧ go L xs 109 69 0 [some (.ref 45), some (.int (nI k)), some (.int (nI (ln k))), some (.int (nI i)), some (.int (nI n)), none] [] (hp g t) = some (some (.int (nI j)), hp (zu (zu (zu g'' 45 13 0) 45 27 0) 45 0 0) t))) := by
  obtain ⟨a2, a3, a4, a5, a6⟩ := hM.tt hk h1
  have e1 := sh_ok (L := L) (xs := xs) (g := g) (t := t) hk
  have e2 := la_ok (L := L) (xs := xs) (g := g) (t := t) a5
  have ti := nI_toInt (n := i) (by omega)
  have tn := nI_toInt (n := n) (by omega)
  have b1 := kX9_isBeyond (L := L) (xs := xs) (g := g) (t := t) (i := nI i) (n := nI n) a3
  rw [if_pos (by omega)] at b1
  have hX : MTx g (60 * k + i) n (fun q => ce k (i + q)) := ⟨by omega, fun p hp1 => ⟨by omega, by rw [show 60 * k + i + p = 60 * k + (i + p) by omega]; exact a6 _ (by omega)⟩⟩
  obtain ⟨g1, F, b⟩ := kX9_readsTown (L := L) (xs := xs) (t := t) (fm := 60 * k + i) (by omega) hX
  refine ⟨g1, F, ?_⟩
  rcases b with ⟨p, c1, c2, c3, c4⟩ | ⟨j, c1, c2, c3, c4, c5, c6⟩
  · refine Or.inl ⟨p, c2, c3, ?_⟩
    simp (disch := omega) only [sX9_town_0, sX9_town_1, sX9_town_4, sX9_town_7, sX9_town_8, sX9_town_9, sX9_town_12, sX9_town_13, sX9_town_14, sX9_town_15, sX9_town_16, sX9_town_19, sX9_town_22, sX9_town_25, sX9_town_26, sX9_town_28, sX9_town_31, sX9_town_32, sX9_town_33, sX9_town_36, sX9_town_37, sX9_town_38, sX9_town_41, sX9_town_42, sX9_town_45, sX9_town_46, sX9_town_47, sX9_town_48, sX9_town_51, sX9_town_52, sX9_town_53, sX9_town_56, sX9_town_57, sX9_town_58, sX9_town_61, sX9_town_62, sX9_town_63, sX9_town_66, sX9_town_67, sX9_town_68, sX9_town_71, sX9_town_72, sX9_town_74, sX9_town_77, sX9_town_78, sX9_town_79, sX9_town_82, sX9_town_83, sX9_town_84, sX9_town_86, sX9_town_87, sX9_town_88, sX9_town_91, sX9_town_92, sX9_town_93, sX9_town_96, sX9_town_99, sX9_town_100, sX9_town_101, sX9_town_104, sX9_town_105, sX9_town_106, sX9_town_108, sX9_town_109, sX9_town_110, sX9_town_111, sX9_town_112, sX9_town_114, sX9_town_117, sX9_town_120, sX9_town_121, sX9_town_123, sX9_town_124, sX9_town_127, sX9_town_128, sX9_town_131, ↓reduceIte, if_true, if_false, Option.bind_some, Option.bind_none, Option.toList_some, Option.toList_none, List.cons_append, List.nil_append, Option.elim_some, true_or, or_true, or_false, false_or, true_and, and_true, and_false, false_and, zio1, zio0, zio01, not_true_eq_false, not_false_eq_true, nlt, neq, nlt0, n0lt, neq0, neq1, nm9, m9n, nadd, nadd1, nmul, ncl, zin_t, e1, e2, a2, a4, b1, li60, c4, c1, kX9_refused]
  · refine Or.inr ⟨j, c1, ?_⟩
    obtain ⟨o1, o2, o3, o4⟩ := id c1
    have hgc : ∀ p, p < n → gc (fun q => ce k (i + q)) n p = ce k (i + p) := fun p hp1 => if_pos hp1
    have hd1 : (gc (fun q => ce k (i + q)) n 1 - 48).toInt.toNat = dgt (fun q => ce k (i + q)) 1 := by rw [hgc 1 (by omega)]; rfl
    rw [hd1] at c3 c4
    obtain ⟨g2, d1, d2, d3⟩ := kX9_tw_loop (L := L) (xs := xs) (t := t) (c := fun q => ce k (i + q)) (n := n) (j := j) (x1 := some (.int (nI k))) (x2 := some (.int (nI (ln k)))) (x3 := some (.int (nI i))) (x4 := some (.int (nI n))) o3 j 0 (zu (zu g1 45 1 (nI j)) 45 2 (nI (dgt (fun q => ce k (i + q)) 1))) (by omega) (by simp [zu]) (by
      intro h hh
      have := c5 h hh
      simpa [zu] using this) (fun q hq => absurd hq (by omega))
    refine ⟨g2, d1, c4, fun h hh => ?_, ?_⟩
    · obtain ⟨y1, y2, y3, y4, y5⟩ := d2 h hh
      have s51 : g2 51 = g1 51 := (d1 51 (by omega)).trans (by funext p; simp [zu])
      have s52 : g2 52 = g1 52 := (d1 52 (by omega)).trans (by funext p; simp [zu])
      obtain ⟨v1, v2⟩ := c5 h hh
      rw [y1, y2, y3, y4, y5, s51, s52, v1]
      have w0 := v2 0 (by omega)
      have w1 := v2 1 (by omega)
      have w2 := v2 2 (by omega)
      have w3 := v2 3 (by omega)
      rw [Nat.add_zero, Nat.add_zero] at w0
      rw [w0, w1, w2, w3, hgc _ (by omega), hgc _ (by omega), hgc _ (by omega), hgc _ (by omega), hgc _ (by omega)]
      exact ⟨rfl, rfl, rfl, rfl, rfl⟩
    · rw [nI_0] at d3
      have s1 : g2 45 1 = nI j := by rw [d1 45 (by omega)]; simp [zu]
      simp (disch := omega) only [sX9_town_0, sX9_town_1, sX9_town_4, sX9_town_7, sX9_town_8, sX9_town_9, sX9_town_12, sX9_town_13, sX9_town_14, sX9_town_15, sX9_town_16, sX9_town_19, sX9_town_22, sX9_town_25, sX9_town_26, sX9_town_28, sX9_town_31, sX9_town_32, sX9_town_33, sX9_town_36, sX9_town_37, sX9_town_38, sX9_town_41, sX9_town_42, sX9_town_45, sX9_town_46, sX9_town_47, sX9_town_48, sX9_town_51, sX9_town_52, sX9_town_53, sX9_town_56, sX9_town_57, sX9_town_58, sX9_town_61, sX9_town_62, sX9_town_63, sX9_town_66, sX9_town_67, sX9_town_68, sX9_town_71, sX9_town_72, sX9_town_74, sX9_town_77, sX9_town_78, sX9_town_79, sX9_town_82, sX9_town_83, sX9_town_84, sX9_town_86, sX9_town_87, sX9_town_88, sX9_town_91, sX9_town_92, sX9_town_93, sX9_town_96, sX9_town_99, sX9_town_100, sX9_town_101, sX9_town_104, sX9_town_105, sX9_town_106, sX9_town_108, sX9_town_109, sX9_town_110, sX9_town_111, sX9_town_112, sX9_town_114, sX9_town_117, sX9_town_120, sX9_town_121, sX9_town_123, sX9_town_124, sX9_town_127, sX9_town_128, sX9_town_131, sX9_town_132, sX9_town_133, sX9_town_134, sX9_town_137, sX9_town_140, sX9_town_141, sX9_town_142, sX9_town_145, sX9_town_148, sX9_town_149, ↓reduceIte, if_true, if_false, Option.bind_some, Option.bind_none, Option.toList_some, Option.toList_none, List.cons_append, List.nil_append, Option.elim_some, true_or, or_true, or_false, false_or, true_and, and_true, and_false, false_and, zio1, zio0, zio01, not_true_eq_false, not_false_eq_true, nlt, neq, nlt0, n0lt, neq0, neq1, nm9, m9n, nadd, nadd1, nmul, ncl, zin_t, e1, e2, a2, a4, b1, li60, c6, c2, c3, zuA, Nat.reduceEqDiff]
      rw [d3]
      simp (disch := omega) only [sX9_town_250, sX9_town_251, sX9_town_252, sX9_town_255, sX9_town_256, sX9_town_257, sX9_town_260, sX9_town_261, sX9_town_262, sX9_town_265, sX9_town_268, ↓reduceIte, if_true, if_false, Option.bind_some, Option.bind_none, Option.toList_some, Option.toList_none, List.cons_append, List.nil_append, Option.elim_some, true_or, or_true, or_false, false_or, true_and, and_true, and_false, false_and, zio1, zio0, zio01, not_true_eq_false, not_false_eq_true, nlt, neq, nlt0, n0lt, neq0, neq1, nm9, m9n, nadd, nadd1, nmul, ncl, zin_t, zuA, Nat.reduceEqDiff, s1, kX9_refused]
end M21
