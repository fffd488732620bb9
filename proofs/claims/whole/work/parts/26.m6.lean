/-! The reference: under, open, feast. -/
section M6
variable {L : Nat} {xs : Nat → Int32} {g g' : Nat → Nat → Int32} {t : Nat → Int64}
variable {H S G : Nat} {kd bd gv rs dr w f l : Nat → Nat} {row : Nat → Int32}
variable {om : Int32} {omw omf pl : Nat}
theorem kX9_isUnder {D : Nat → Nat} (hT : MTn g H S kd bd gv rs dr) {h : Nat} (hh : h < H) (hD : g 57 h = nI (D h)) (hb : D h ≤ 1000000) : go L xs 127 69 0 [some (.ref 45), some (.int (nI h))] [] (hp g t) = some (some (.int (if 50 * dr h ≤ D h then 1 else 0)), hp g t) := by
  obtain ⟨t1, t2, t3, t4, t5⟩ := id hT
  obtain ⟨-, -, -, -, ⟨v1, v2, v3⟩⟩ := t5 h hh
  by_cases q : 50 * dr h ≤ D h
  · simp (disch := omega) only [sX9_isUnder_0, sX9_isUnder_1, sX9_isUnder_4, sX9_isUnder_5, sX9_isUnder_6, sX9_isUnder_8, sX9_isUnder_9, sX9_isUnder_12, sX9_isUnder_13, sX9_isUnder_14, sX9_isUnder_15, sX9_isUnder_18, sX9_isUnder_19, sX9_isUnder_22, sX9_isUnder_23, ↓reduceIte, if_true, if_false, Option.bind_some, Option.bind_none, Option.toList_some, Option.toList_none, List.cons_append, List.nil_append, Option.elim_some, true_or, or_true, or_false, false_or, true_and, and_true, and_false, false_and, zio1, zio0, zio01, not_true_eq_false, not_false_eq_true, nlt, neq, nlt0, n0lt, neq0, neq1, nm9, m9n, nadd, nadd1, nmul, ncl, zin_t, hD, v1, li50, if_pos q, eq_false (Nat.not_lt.mpr q)]
  · simp (disch := omega) only [sX9_isUnder_0, sX9_isUnder_1, sX9_isUnder_4, sX9_isUnder_5, sX9_isUnder_6, sX9_isUnder_8, sX9_isUnder_9, sX9_isUnder_12, sX9_isUnder_13, sX9_isUnder_14, sX9_isUnder_15, sX9_isUnder_18, sX9_isUnder_19, sX9_isUnder_22, sX9_isUnder_23, ↓reduceIte, if_true, if_false, Option.bind_some, Option.bind_none, Option.toList_some, Option.toList_none, List.cons_append, List.nil_append, Option.elim_some, true_or, or_true, or_false, false_or, true_and, and_true, and_false, false_and, zio1, zio0, zio01, not_true_eq_false, not_false_eq_true, nlt, neq, nlt0, n0lt, neq0, neq1, nm9, m9n, nadd, nadd1, nmul, ncl, zin_t, hD, v1, li50, if_neg q, eq_true (Nat.not_le.mp q)]
/-- the first dawn with a house under, and the house: n dawns from d on -/
def und (H : Nat) (dr : Nat → Nat) (D : Nat → Nat → Nat) : Nat → Nat → Option (Nat × Nat)
  | 0, _ => none
  | n + 1, d => (match ff (fun h => 50 * dr h ≤ D d h) H 0 with
    | some h => some (d, h)
    | none => und H dr D n (d + 1))
theorem kX9_un1 {D : Nat → Nat} {d : Nat} {wh : Int32} (hT : MTn g H S kd bd gv rs dr) (hD : ∀ h, h < H → g 57 h = nI (D h) ∧ D h ≤ 1000000) : ∀ e k, k + e = H → go L xs 132 69 37 [some (.ref 45), some (.int wh), some (.int (nI d)), some (.int (nI k))] [] (hp g t) = (match ff (fun h => 50 * dr h ≤ D h) e k with
    | some h => some (some (.int (if wh = 0 then nI d else nI h)), hp g t)
    | none => go L xs 132 69 69 [some (.ref 45), some (.int wh), some (.int (nI d)), some (.int (nI H))] [] (hp g t))
  | 0, k, hk => by
    have hk : k = H := by omega
    subst hk
    obtain ⟨t1, t2, t3, t4, t5⟩ := id hT
    simp (disch := omega) only [sX9_under_37, sX9_under_38, sX9_under_39, sX9_under_42, ↓reduceIte, if_true, if_false, Option.bind_some, Option.bind_none, Option.toList_some, Option.toList_none, List.cons_append, List.nil_append, Option.elim_some, true_or, or_true, or_false, false_or, true_and, and_true, and_false, false_and, zio1, zio0, zio01, not_true_eq_false, not_false_eq_true, nlt, neq, nlt0, n0lt, neq0, neq1, nm9, m9n, nadd, nadd1, nmul, ncl, zin_t, t1, Nat.lt_irrefl, ff]
  | e + 1, k, hk => by
    have ih := kX9_un1 (d := d) (wh := wh) hT hD e (k + 1) (by omega)
    obtain ⟨t1, t2, t3, t4, t5⟩ := id hT
    have hlt : k < H := by omega
    have hu := kX9_isUnder (L := L) (xs := xs) (t := t) hT hlt (hD k hlt).1 (hD k hlt).2
    rw [sX9_under_37]
    unfold ff
    by_cases q : 50 * dr k ≤ D k
    · rw [if_pos q] at hu ⊢
      by_cases q2 : wh = 0
      · simp (disch := omega) only [sX9_under_38, sX9_under_39, sX9_under_42, sX9_under_45, sX9_under_46, sX9_under_47, sX9_under_50, sX9_under_53, sX9_under_54, sX9_under_57, sX9_under_58, sX9_under_61, sX9_under_62, sX9_under_63, sX9_under_66, ↓reduceIte, if_true, if_false, Option.bind_some, Option.bind_none, Option.toList_some, Option.toList_none, List.cons_append, List.nil_append, Option.elim_some, true_or, or_true, or_false, false_or, true_and, and_true, and_false, false_and, zio1, zio0, zio01, not_true_eq_false, not_false_eq_true, nlt, neq, nlt0, n0lt, neq0, neq1, nm9, m9n, nadd, nadd1, nmul, ncl, zin_t, t1, hlt, hu, q2]
      · simp (disch := omega) only [sX9_under_38, sX9_under_39, sX9_under_42, sX9_under_45, sX9_under_46, sX9_under_47, sX9_under_50, sX9_under_53, sX9_under_54, sX9_under_57, sX9_under_58, sX9_under_61, sX9_under_62, sX9_under_63, sX9_under_66, ↓reduceIte, if_true, if_false, Option.bind_some, Option.bind_none, Option.toList_some, Option.toList_none, List.cons_append, List.nil_append, Option.elim_some, true_or, or_true, or_false, false_or, true_and, and_true, and_false, false_and, zio1, zio0, zio01, not_true_eq_false, not_false_eq_true, nlt, neq, nlt0, n0lt, neq0, neq1, nm9, m9n, nadd, nadd1, nmul, ncl, zin_t, t1, hlt, hu, q2]
    · rw [if_neg q] at hu ⊢
      simp (disch := omega) only [sX9_under_38, sX9_under_39, sX9_under_42, sX9_under_45, sX9_under_46, sX9_under_47, sX9_under_50, sX9_under_53, sX9_under_54, sX9_under_57, sX9_under_58, sX9_under_61, sX9_under_62, sX9_under_63, sX9_under_66, ↓reduceIte, if_true, if_false, Option.bind_some, Option.bind_none, Option.toList_some, Option.toList_none, List.cons_append, List.nil_append, Option.elim_some, true_or, or_true, or_false, false_or, true_and, and_true, and_false, false_and, zio1, zio0, zio01, not_true_eq_false, not_false_eq_true, nlt, neq, nlt0, n0lt, neq0, neq1, nm9, m9n, nadd, nadd1, nmul, ncl, zin_t, t1, hlt, hu]
      exact ih
theorem kX9_un2 {wh : Int32} : ∀ e d (g : Nat → Nat → Int32) (x3 : Option Value), d + e = 51 → MTn g H S kd bd gv rs dr → MGs g H G w f l row → MOs g om omw omf pl → (∀ h, h < H → g 57 h = nI (dp H G kd gv rs w f l row om omw omf pl d h)) → ∃ g', fr g g' ∧ go L xs 132 69 29 [some (.ref 45), some (.int wh), some (.int (nI d)), x3] [] (hp g t) = some (some (.int (match und H dr (dp H G kd gv rs w f l row om omw omf pl) e d with
    | some q => if wh = 0 then nI q.1 else nI q.2
    | none => -9)), hp g' t)
  | 0, d, g, x3, hk, hT, hG, hO, hD => by
    have hk : d = 51 := by omega
    subst hk
    refine ⟨g, fr.rf, ?_⟩
    simp (disch := omega) only [sX9_under_29, sX9_under_30, sX9_under_32, sX9_under_80, sX9_under_82, ↓reduceIte, if_true, if_false, Option.bind_some, Option.bind_none, Option.toList_some, Option.toList_none, List.cons_append, List.nil_append, Option.elim_some, true_or, or_true, or_false, false_or, true_and, and_true, and_false, false_and, zio1, zio0, zio01, not_true_eq_false, not_false_eq_true, nlt, neq, nlt0, n0lt, neq0, neq1, nm9, m9n, nadd, nadd1, nmul, ncl, zin_t, li50, und, (show 50 < 51 by omega)]
  | e + 1, d, g, x3, hk, hT, hG, hO, hD => by
    have hD2 : ∀ h, h < H → g 57 h = nI (dp H G kd gv rs w f l row om omw omf pl d h) ∧ dp H G kd gv rs w f l row om omw omf pl d h ≤ 1000000 := fun h hh => ⟨hD h hh, dq_le hT hG hO (by omega) hh⟩
    have hl := kX9_un1 (L := L) (xs := xs) (t := t) (d := d) (wh := wh) hT hD2 H 0 (by omega)
    rw [nI_0] at hl
    have hlt : ¬ 50 < d := by omega
    unfold und
    cases hf : ff (fun h => 50 * dr h ≤ dp H G kd gv rs w f l row om omw omf pl d h) H 0 with
    | some h =>
      rw [hf] at hl
      refine ⟨g, fr.rf, ?_⟩
      rw [sX9_under_29]
      simp (disch := omega) only [sX9_under_30, sX9_under_32, sX9_under_35, sX9_under_36, ↓reduceIte, if_true, if_false, Option.bind_some, Option.bind_none, Option.toList_some, Option.toList_none, List.cons_append, List.nil_append, Option.elim_some, true_or, or_true, or_false, false_or, true_and, and_true, and_false, false_and, zio1, zio0, zio01, not_true_eq_false, not_false_eq_true, nlt, neq, nlt0, n0lt, neq0, neq1, nm9, m9n, nadd, nadd1, nmul, ncl, zin_t, li50, hlt]
      rw [hl]
    | none =>
      rw [hf] at hl
      obtain ⟨g1, f1, o1, d1, e1⟩ := kX9_night (L := L) (xs := xs) (t := t) (n := d) (by omega) hT hG hO hD
      obtain ⟨g2, f2, e2⟩ := kX9_un2 (wh := wh) e (d + 1) g1 (some (.int (nI H))) (by omega) (f1.town hT) (f1.guests hG) o1 d1
      refine ⟨g2, f1.tr f2, ?_⟩
      rw [sX9_under_29]
      simp (disch := omega) only [sX9_under_30, sX9_under_32, sX9_under_35, sX9_under_36, ↓reduceIte, if_true, if_false, Option.bind_some, Option.bind_none, Option.toList_some, Option.toList_none, List.cons_append, List.nil_append, Option.elim_some, true_or, or_true, or_false, false_or, true_and, and_true, and_false, false_and, zio1, zio0, zio01, not_true_eq_false, not_false_eq_true, nlt, neq, nlt0, n0lt, neq0, neq1, nm9, m9n, nadd, nadd1, nmul, ncl, zin_t, li50, hlt]
      rw [hl]
      simp (disch := omega) only [sX9_under_69, sX9_under_70, sX9_under_71, sX9_under_74, sX9_under_77, ↓reduceIte, if_true, if_false, Option.bind_some, Option.bind_none, Option.toList_some, Option.toList_none, List.cons_append, List.nil_append, Option.elim_some, true_or, or_true, or_false, false_or, true_and, and_true, and_false, false_and, zio1, zio0, zio01, not_true_eq_false, not_false_eq_true, nlt, neq, nlt0, n0lt, neq0, neq1, nm9, m9n, nadd, nadd1, nmul, ncl, zin_t, e1]
      exact e2
theorem qX9_under (hT : MTn g H S kd bd gv rs dr) (hG : MGs g H G w f l row) {x : Int32} : ∃ g', fr g g' ∧ go L xs 132 69 0 [some (.ref 45), some (.int x), none, none] [] (hp g t) = some (some (.int (if 0 ≤ x.toInt ∧ x.toInt ≤ 1 then (if H = 0 then -3 else (match und H dr (dq H G kd gv rs w f l row) 51 0 with
    | some q => if x = 0 then nI q.1 else nI q.2
    | none => -9)) else -2)), hp g' t) := by
  have hin := kX9_inI (L := L) (xs := xs) (g := g) (t := t) (x := x) (b := 0) (c := 1) (lo := 0) (hi := 1) (by decide) (by decide)
  have t1 := hT.1
  have t2 := hT.2.1
  by_cases q : 0 ≤ x.toInt ∧ x.toInt ≤ 1
  · rw [if_pos q] at hin
    by_cases q2 : H = 0
    · refine ⟨g, fr.rf, ?_⟩
      simp (disch := omega) only [sX9_under_0, sX9_under_1, sX9_under_2, sX9_under_3, sX9_under_4, sX9_under_7, sX9_under_10, sX9_under_12, sX9_under_13, sX9_under_14, sX9_under_17, sX9_under_20, sX9_under_22, ↓reduceIte, if_true, if_false, Option.bind_some, Option.bind_none, Option.toList_some, Option.toList_none, List.cons_append, List.nil_append, Option.elim_some, true_or, or_true, or_false, false_or, true_and, and_true, and_false, false_and, zio1, zio0, zio01, not_true_eq_false, not_false_eq_true, nlt, neq, nlt0, n0lt, neq0, neq1, nm9, m9n, nadd, nadd1, nmul, ncl, zin_t, hin, if_pos q, t1, q2, nI_0]
    · obtain ⟨g1, f1, o1, d1, e1⟩ := kX9_beginPlain (L := L) (xs := xs) (t := t) (g := g)
      obtain ⟨g2, f2, e2⟩ := kX9_un2 (L := L) (xs := xs) (t := t) (wh := x) 51 0 g1 none (by omega) (f1.town hT) (f1.guests hG) o1 (fun h hh => by rw [d1 h (by omega)]; exact nI_0.symm)
      refine ⟨g2, f1.tr f2, ?_⟩
      rw [nI_0] at e2
      simp (disch := omega) only [sX9_under_0, sX9_under_1, sX9_under_2, sX9_under_3, sX9_under_4, sX9_under_7, sX9_under_10, sX9_under_12, sX9_under_13, sX9_under_14, sX9_under_17, sX9_under_20, sX9_under_22, sX9_under_23, sX9_under_24, sX9_under_27, sX9_under_28, ↓reduceIte, if_true, if_false, Option.bind_some, Option.bind_none, Option.toList_some, Option.toList_none, List.cons_append, List.nil_append, Option.elim_some, true_or, or_true, or_false, false_or, true_and, and_true, and_false, false_and, zio1, zio0, zio01, not_true_eq_false, not_false_eq_true, nlt, neq, nlt0, n0lt, neq0, neq1, nm9, m9n, nadd, nadd1, nmul, ncl, zin_t, hin, if_pos q, t1, q2, e1]
      exact e2
  · rw [if_neg q] at hin
    refine ⟨g, fr.rf, ?_⟩
    simp (disch := omega) only [sX9_under_0, sX9_under_1, sX9_under_2, sX9_under_3, sX9_under_4, sX9_under_7, sX9_under_10, sX9_under_12, sX9_under_13, sX9_under_14, sX9_under_17, sX9_under_20, sX9_under_22, ↓reduceIte, if_true, if_false, Option.bind_some, Option.bind_none, Option.toList_some, Option.toList_none, List.cons_append, List.nil_append, Option.elim_some, true_or, or_true, or_false, false_or, true_and, and_true, and_false, false_and, zio1, zio0, zio01, not_true_eq_false, not_false_eq_true, nlt, neq, nlt0, n0lt, neq0, neq1, nm9, m9n, nadd, nadd1, nmul, ncl, zin_t, hin, if_neg q]
theorem lz0 : (lN 0 = 0) = True := eq_true (by decide)
theorem kX9_to_loop {up dn : Int64} {wh : Int32} : ∀ b, b < 1000 → ∀ a, a < 1000 → ∀ r0 r1 : Option Value, ∃ r0' r1' r2' r3' : Option Value, go L xs 100 69 6 [some (.long up), none, some (.long dn), none, some (.int wh), some (.long (lN a)), none, some (.long (lN b)), none, r0, r1] [] (hp g t) = go L xs 100 69 31 [some (.long up), none, some (.long dn), none, some (.int wh), some (.long (lN (Nat.gcd a b))), none, r0', r1', r2', r3'] [] (hp g t) := by
  intro b
  induction b using Nat.strongRecOn with
  | _ b ih =>
    intro hb a ha r0 r1
    by_cases q : b = 0
    · subst q
      refine ⟨some (.long (lN 0)), none, r0, r1, ?_⟩
      simp only [sX9_told_6, sX9_told_8, sX9_told_9, sX9_told_10, ↓reduceIte, if_true, if_false, Option.bind_some, Option.bind_none, Option.toList_some, Option.toList_none, List.cons_append, List.nil_append, Option.elim_some, true_or, or_true, or_false, false_or, true_and, and_true, and_false, false_and, zio1, zio0, zio01, not_true_eq_false, not_false_eq_true, lceq, lz0, Nat.gcd_zero_right]
    · have hne : ¬ lN b = 0 := fun z => q ((pk_lEQ (by omega) (by omega)).mp (z.trans (by decide : (0 : Int64) = lN 0)))
      obtain ⟨s0, s1, s2, s3, e⟩ := ih (a % b) (Nat.mod_lt _ (by omega)) (by have := Nat.mod_lt a (show b > 0 by omega); omega) b hb (some (.long (lN (a % b)))) none
      have hg : Nat.gcd b (a % b) = Nat.gcd a b := by rw [Nat.gcd_comm b (a % b), ← Nat.gcd_rec b a, Nat.gcd_comm]
      rw [hg] at e
      refine ⟨s0, s1, s2, s3, ?_⟩
      rw [sX9_told_6]
      have hr : lN a - lN a / lN b * lN b = lN (a % b) := pk_lRem (by omega) (by omega) (by omega)
      have h17 : go L xs 100 69 17 [some (.long up), none, some (.long dn), none, some (.int wh), some (.long (lN a)), none, some (.long (lN b)), none, r0, r1] [.long (lN b), .long (lN a)] (hp g t) = go L xs 100 69 18 [some (.long up), none, some (.long dn), none, some (.int wh), some (.long (lN a)), none, some (.long (lN b)), none, r0, r1] [.long (lN (a % b))] (hp g t) := by rw [sX9_told_17 hne, hr]
      simp only [sX9_told_8, sX9_told_9, sX9_told_10, sX9_told_13, sX9_told_15, ↓reduceIte, if_true, if_false, Option.bind_some, Option.bind_none, Option.toList_some, Option.toList_none, List.cons_append, List.nil_append, Option.elim_some, true_or, or_true, or_false, false_or, true_and, and_true, and_false, false_and, zio1, zio0, zio01, not_true_eq_false, not_false_eq_true, lceq, hne]
      rw [h17]
      simp only [sX9_told_18, sX9_told_20, sX9_told_22, sX9_told_24, sX9_told_26, sX9_told_28, ↓reduceIte, if_true, if_false, Option.bind_some, Option.bind_none, Option.toList_some, Option.toList_none, List.cons_append, List.nil_append, Option.elim_some, true_or, or_true, or_false, false_or, true_and, and_true, and_false, false_and, zio1, zio0, zio01, not_true_eq_false, not_false_eq_true]
      exact e
theorem kX9_told {a : Nat} (ha : a ≤ 50) {wh : Int32} : go L xs 100 69 0 [some (.long (lN a)), none, some (.long 50), none, some (.int wh), none, none, none, none, none, none] [] (hp g t) = some (some (.long (lN ((if wh = 0 then a else 50) / Nat.gcd a 50))), hp g t) := by
  obtain ⟨s0, s1, s2, s3, e⟩ := kX9_to_loop (L := L) (xs := xs) (g := g) (t := t) (up := lN a) (dn := lN 50) (wh := wh) 50 (by omega) a (by omega) none none
  have hgp : 0 < Nat.gcd a 50 := Nat.gcd_pos_of_pos_right _ (by omega)
  have hgl : Nat.gcd a 50 ≤ 50 := Nat.gcd_le_right _ (by omega)
  have hne : ¬ lN (Nat.gcd a 50) = 0 := fun z => by
    have := (pk_lEQ (a := Nat.gcd a 50) (b := 0) (by omega) (by omega)).mp (z.trans (by decide : (0 : Int64) = lN 0))
    omega
  rw [show (50 : Int64) = lN 50 from by decide]
  simp only [sX9_told_0, sX9_told_1, sX9_told_3, sX9_told_4]
  rw [e]
  by_cases q : wh = 0
  · rw [if_pos q]
    simp only [sX9_told_31, sX9_told_33, sX9_told_36, sX9_told_37, sX9_told_40, ↓reduceIte, if_true, if_false, Option.bind_some, Option.bind_none, Option.toList_some, Option.toList_none, List.cons_append, List.nil_append, Option.elim_some, true_or, or_true, or_false, false_or, true_and, and_true, and_false, false_and, zio1, zio0, zio01, not_true_eq_false, not_false_eq_true, q]
    rw [sX9_told_41, sX9_told_43 hne, sX9_told_44, pk_lDiv (by omega) hgp (by omega)]
  · rw [if_neg q]
    simp only [sX9_told_31, sX9_told_33, sX9_told_36, sX9_told_37, sX9_told_40, ↓reduceIte, if_true, if_false, Option.bind_some, Option.bind_none, Option.toList_some, Option.toList_none, List.cons_append, List.nil_append, Option.elim_some, true_or, or_true, or_false, false_or, true_and, and_true, and_false, false_and, zio1, zio0, zio01, not_true_eq_false, not_false_eq_true, q]
    rw [sX9_told_41, sX9_told_43 hne, sX9_told_44, pk_lDiv (by omega) hgp (by omega)]
theorem kX9_op_loop {h : Nat} {wh : Int32} (hh : h + 1 < H) : ∀ e k (g : Nat → Nat → Int32), k + e = 50 → MTn g H S kd bd gv rs dr → MGs g H G w f l row → MOs g om omw omf pl → (∀ h, h < H → g 57 h = nI (dp H G kd gv rs w f l row om omw omf pl k h)) → ∃ g', fr g g' ∧ go L xs 133 69 41 [some (.ref 45), some (.int (nI h)), some (.int wh), some (.int (nI (cnt (fun n => dp H G kd gv rs w f l row om omw omf pl (n + 1) h ≤ dp H G kd gv rs w f l row om omw omf pl (n + 1) (h + 1) + 10 * S ∧ dp H G kd gv rs w f l row om omw omf pl (n + 1) (h + 1) ≤ dp H G kd gv rs w f l row om omw omf pl (n + 1) h + 10 * S) k))), some (.int (nI k))] [] (hp g t) = go L xs 133 69 76 [some (.ref 45), some (.int (nI h)), some (.int wh), some (.int (nI (cnt (fun n => dp H G kd gv rs w f l row om omw omf pl (n + 1) h ≤ dp H G kd gv rs w f l row om omw omf pl (n + 1) (h + 1) + 10 * S ∧ dp H G kd gv rs w f l row om omw omf pl (n + 1) (h + 1) ≤ dp H G kd gv rs w f l row om omw omf pl (n + 1) h + 10 * S) 50))), some (.int (nI 50))] [] (hp g' t)
  | 0, k, g, hk, hT, hG, hO, hD => by
    have hk : k = 50 := by omega
    subst hk
    refine ⟨g, fr.rf, ?_⟩
    simp (disch := omega) only [sX9_open_41, sX9_open_43, sX9_open_45, ↓reduceIte, if_true, if_false, Option.bind_some, Option.bind_none, Option.toList_some, Option.toList_none, List.cons_append, List.nil_append, Option.elim_some, true_or, or_true, or_false, false_or, true_and, and_true, and_false, false_and, zio1, zio0, zio01, not_true_eq_false, not_false_eq_true, nlt, neq, nlt0, n0lt, neq0, neq1, nm9, m9n, nadd, nadd1, nmul, ncl, zin_t, li50, Nat.lt_irrefl]
  | e + 1, k, g, hk, hT, hG, hO, hD => by
    have hlt : k < 50 := by omega
    obtain ⟨g1, f1, o1, d1, e1⟩ := kX9_night (L := L) (xs := xs) (t := t) (n := k) (by omega) hT hG hO hD
    obtain ⟨g2, f2, e2⟩ := kX9_op_loop (wh := wh) hh e (k + 1) g1 (by omega) (f1.town hT) (f1.guests hG) o1 d1
    refine ⟨g2, f1.tr f2, ?_⟩
    have hst := kX9_isStep (L := L) (xs := xs) (t := t) (f1.town hT) (fun h hh => ⟨d1 h hh, dq_le (f1.town hT) (f1.guests hG) o1 (by omega) hh⟩) hh
    rw [sX9_open_41]
    by_cases q : dp H G kd gv rs w f l row om omw omf pl (k + 1) h ≤ dp H G kd gv rs w f l row om omw omf pl (k + 1) (h + 1) + 10 * S ∧ dp H G kd gv rs w f l row om omw omf pl (k + 1) (h + 1) ≤ dp H G kd gv rs w f l row om omw omf pl (k + 1) h + 10 * S
    · rw [if_pos q] at hst
      simp only [cnt, if_pos q] at e2
      simp (disch := omega) only [sX9_open_43, sX9_open_45, sX9_open_48, sX9_open_49, sX9_open_51, sX9_open_54, sX9_open_55, sX9_open_56, sX9_open_57, sX9_open_60, sX9_open_63, sX9_open_64, sX9_open_67, sX9_open_68, sX9_open_69, sX9_open_70, sX9_open_73, ↓reduceIte, if_true, if_false, Option.bind_some, Option.bind_none, Option.toList_some, Option.toList_none, List.cons_append, List.nil_append, Option.elim_some, true_or, or_true, or_false, false_or, true_and, and_true, and_false, false_and, zio1, zio0, zio01, not_true_eq_false, not_false_eq_true, nlt, neq, nlt0, n0lt, neq0, neq1, nm9, m9n, nadd, nadd1, nmul, ncl, zin_t, li50, hlt, e1, hst]
      exact e2
    · rw [if_neg q] at hst
      simp only [cnt, if_neg q] at e2
      simp (disch := omega) only [sX9_open_43, sX9_open_45, sX9_open_48, sX9_open_49, sX9_open_51, sX9_open_54, sX9_open_55, sX9_open_56, sX9_open_57, sX9_open_60, sX9_open_63, sX9_open_64, sX9_open_67, sX9_open_68, sX9_open_69, sX9_open_70, sX9_open_73, ↓reduceIte, if_true, if_false, Option.bind_some, Option.bind_none, Option.toList_some, Option.toList_none, List.cons_append, List.nil_append, Option.elim_some, true_or, or_true, or_false, false_or, true_and, and_true, and_false, false_and, zio1, zio0, zio01, not_true_eq_false, not_false_eq_true, nlt, neq, nlt0, n0lt, neq0, neq1, nm9, m9n, nadd, nadd1, nmul, ncl, zin_t, li50, hlt, e1, hst, nadd0]
      exact e2
/-- in how many dawns one can step between a house and the next one -/
abbrev opc (H S G : Nat) (kd gv rs w f l : Nat → Nat) (row : Nat → Int32) (h : Nat) : Nat := cnt (fun n => dq H G kd gv rs w f l row (n + 1) h ≤ dq H G kd gv rs w f l row (n + 1) (h + 1) + 10 * S ∧ dq H G kd gv rs w f l row (n + 1) (h + 1) ≤ dq H G kd gv rs w f l row (n + 1) h + 10 * S) 50
theorem qX9_open (hT : MTn g H S kd bd gv rs dr) (hG : MGs g H G w f l row) {x y : Int32} : ∃ g', fr g g' ∧ go L xs 133 69 0 [some (.ref 45), some (.int x), some (.int y), none, none] [] (hp g t) = some (some (.long (if (0 ≤ x.toInt ∧ x.toInt + 1 < H) ∧ (0 ≤ y.toInt ∧ y.toInt ≤ 1) then lN ((if y = 0 then opc H S G kd gv rs w f l row x.toInt.toNat else 50) / Nat.gcd (opc H S G kd gv rs w f l row x.toInt.toNat) 50) else -9223372036854775808)), hp g' t) := by
  have h1 := kX9_nH (L := L) (xs := xs) (t := t) (x := x) hT
  have hin := kX9_inI (L := L) (xs := xs) (g := g) (t := t) (x := y) (b := 0) (c := 1) (lo := 0) (hi := 1) (by decide) (by decide)
  have t1 := hT.1
  have t2 := hT.2.1
  by_cases q : 0 ≤ x.toInt ∧ x.toInt < H
  · rw [if_pos q] at h1
    have hx := nI_back q.1
    generalize hk : x.toInt.toNat = k at hx
    subst hx
    have hkt := nI_toInt (n := k) (by omega)
    by_cases q2 : k + 1 = H
    · refine ⟨g, fr.rf, ?_⟩
      rw [if_neg (by omega)]
      simp (disch := omega) only [sX9_open_0, sX9_open_1, sX9_open_2, sX9_open_5, sX9_open_8, sX9_open_9, sX9_open_10, sX9_open_11, sX9_open_12, sX9_open_15, sX9_open_18, sX9_open_19, sX9_open_20, sX9_open_21, sX9_open_22, sX9_open_25, sX9_open_28, sX9_open_31, ↓reduceIte, if_true, if_false, Option.bind_some, Option.bind_none, Option.toList_some, Option.toList_none, List.cons_append, List.nil_append, Option.elim_some, true_or, or_true, or_false, false_or, true_and, and_true, and_false, false_and, zio1, zio0, zio01, not_true_eq_false, not_false_eq_true, nlt, neq, nlt0, n0lt, neq0, neq1, nm9, m9n, nadd, nadd1, nmul, ncl, zin_t, h1, t1, q2, kX9_lost]
    · by_cases q3 : 0 ≤ y.toInt ∧ y.toInt ≤ 1
      · rw [if_pos q3] at hin
        rw [if_pos (by omega)]
        obtain ⟨g1, f1, o1, d1, e1⟩ := kX9_beginPlain (L := L) (xs := xs) (t := t) (g := g)
        obtain ⟨g2, f2, e2⟩ := kX9_op_loop (L := L) (xs := xs) (t := t) (wh := y) (show k + 1 < H by omega) 50 0 g1 (by omega) (f1.town hT) (f1.guests hG) o1 (fun h hh => by rw [d1 h (by omega)]; exact nI_0.symm)
        refine ⟨g2, f1.tr f2, ?_⟩
        rw [nI_0] at e2
        have hc : opc H S G kd gv rs w f l row k ≤ 50 := cnt_le _ 50
        have htd := kX9_told (L := L) (xs := xs) (g := g2) (t := t) (wh := y) hc
        simp (disch := omega) only [sX9_open_0, sX9_open_1, sX9_open_2, sX9_open_5, sX9_open_8, sX9_open_9, sX9_open_10, sX9_open_11, sX9_open_12, sX9_open_15, sX9_open_18, sX9_open_19, sX9_open_20, sX9_open_21, sX9_open_22, sX9_open_25, sX9_open_28, sX9_open_31, sX9_open_32, sX9_open_33, sX9_open_36, sX9_open_37, sX9_open_38, sX9_open_39, ↓reduceIte, if_true, if_false, Option.bind_some, Option.bind_none, Option.toList_some, Option.toList_none, List.cons_append, List.nil_append, Option.elim_some, true_or, or_true, or_false, false_or, true_and, and_true, and_false, false_and, zio1, zio0, zio01, not_true_eq_false, not_false_eq_true, nlt, neq, nlt0, n0lt, neq0, neq1, nm9, m9n, nadd, nadd1, nmul, ncl, zin_t, h1, t1, q2, hin, e1]
        refine (show _ = _ from e2).trans ?_
        have hl : (nI (opc H S G kd gv rs w f l row k)).toInt64 = lN (opc H S G kd gv rs w f l row k) := nI_l (by omega)
        simp only [sX9_open_76, sX9_open_77, sX9_open_78, sX9_open_81, sX9_open_82, sX9_open_85, ↓reduceIte, if_true, if_false, Option.bind_some, Option.bind_none, Option.toList_some, Option.toList_none, List.cons_append, List.nil_append, Option.elim_some, true_or, or_true, or_false, false_or, true_and, and_true, and_false, false_and, zio1, zio0, zio01, not_true_eq_false, not_false_eq_true, hl, htd]
      · rw [if_neg q3] at hin
        refine ⟨g, fr.rf, ?_⟩
        rw [if_neg (fun z => q3 z.2)]
        simp (disch := omega) only [sX9_open_0, sX9_open_1, sX9_open_2, sX9_open_5, sX9_open_8, sX9_open_9, sX9_open_10, sX9_open_11, sX9_open_12, sX9_open_15, sX9_open_18, sX9_open_19, sX9_open_20, sX9_open_21, sX9_open_22, sX9_open_25, sX9_open_28, sX9_open_31, ↓reduceIte, if_true, if_false, Option.bind_some, Option.bind_none, Option.toList_some, Option.toList_none, List.cons_append, List.nil_append, Option.elim_some, true_or, or_true, or_false, false_or, true_and, and_true, and_false, false_and, zio1, zio0, zio01, not_true_eq_false, not_false_eq_true, nlt, neq, nlt0, n0lt, neq0, neq1, nm9, m9n, nadd, nadd1, nmul, ncl, zin_t, h1, t1, q2, hin, kX9_lost]
  · rw [if_neg q] at h1
    refine ⟨g, fr.rf, ?_⟩
    rw [if_neg (by omega)]
    simp (disch := omega) only [sX9_open_0, sX9_open_1, sX9_open_2, sX9_open_5, sX9_open_8, sX9_open_9, sX9_open_10, sX9_open_11, sX9_open_12, sX9_open_15, sX9_open_18, sX9_open_19, sX9_open_20, sX9_open_21, sX9_open_22, sX9_open_25, sX9_open_28, sX9_open_31, ↓reduceIte, if_true, if_false, Option.bind_some, Option.bind_none, Option.toList_some, Option.toList_none, List.cons_append, List.nil_append, Option.elim_some, true_or, or_true, or_false, false_or, true_and, and_true, and_false, false_and, zio1, zio0, zio01, not_true_eq_false, not_false_eq_true, nlt, neq, nlt0, n0lt, neq0, neq1, nm9, m9n, nadd, nadd1, nmul, ncl, zin_t, h1, kX9_lost]
end M6
