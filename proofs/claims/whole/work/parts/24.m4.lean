/-! The reference's dawns: begin, goTo, planks. -/
section M4
variable {L : Nat} {xs : Nat → Int32} {g g' : Nat → Nat → Int32} {t : Nat → Int64}
variable {H S G : Nat} {kd bd gv rs dr w f l : Nat → Nat} {row : Nat → Int32}
variable {om : Int32} {omw omf pl : Nat}
/-- what a question leaves as it was: all but the reference's scratch -/
def fr (g g' : Nat → Nat → Int32) : Prop := (∀ a, a < 57 → a ≠ 45 → a ≠ 51 → a ≠ 52 → g' a = g a) ∧ (∀ a, 60 ≤ a → a < 68 → g' a = g a) ∧ (∀ q, q < 8 ∨ (10 < q ∧ q < 21) ∨ 24 < q → g' 45 q = g 45 q)
theorem fr.rf : fr g g := ⟨fun _ _ _ _ _ => rfl, fun _ _ _ => rfl, fun _ _ => rfl⟩
theorem fr.tr {g1 g2 g3 : Nat → Nat → Int32} (h : fr g1 g2) (h' : fr g2 g3) : fr g1 g3 := ⟨fun a x1 x2 x3 x4 => (h'.1 a x1 x2 x3 x4).trans (h.1 a x1 x2 x3 x4), fun a x1 x2 => (h'.2.1 a x1 x2).trans (h.2.1 a x1 x2), fun q hq => (h'.2.2 q hq).trans (h.2.2 q hq)⟩
theorem fr.town (hf : fr g g') (h : MTn g H S kd bd gv rs dr) : MTn g' H S kd bd gv rs dr := by
  unfold MTn
  rw [hf.2.2 1 (by omega), hf.2.2 2 (by omega), hf.1 46 (by omega) (by omega) (by omega) (by omega), hf.1 47 (by omega) (by omega) (by omega) (by omega), hf.1 48 (by omega) (by omega) (by omega) (by omega), hf.1 49 (by omega) (by omega) (by omega) (by omega), hf.1 50 (by omega) (by omega) (by omega) (by omega)]
  exact h
theorem fr.guests (hf : fr g g') (h : MGs g H G w f l row) : MGs g' H G w f l row := by
  unfold MGs
  rw [hf.2.2 13 (by omega), hf.1 53 (by omega) (by omega) (by omega) (by omega), hf.1 54 (by omega) (by omega) (by omega) (by omega), hf.1 55 (by omega) (by omega) (by omega) (by omega), hf.1 56 (by omega) (by omega) (by omega) (by omega)]
  exact h
theorem fr_of (h : ∀ a, a ≠ 57 → a ≠ 58 → a ≠ 59 → g' a = g a) : fr g g' := ⟨fun a _ _ _ _ => h a (by omega) (by omega) (by omega), fun a _ _ => h a (by omega) (by omega) (by omega), fun q _ => by rw [h 45 (by omega) (by omega) (by omega)]⟩
theorem kX9_bg_loop : ∀ d k (g : Nat → Nat → Int32), k + d = 7 → (∀ h, h < k → g 57 h = 0) → ∃ g', (∀ a, a ≠ 57 → g' a = g a) ∧ (∀ h, h < 7 → g' 57 h = 0) ∧ go L xs 118 69 2 [some (.ref 45), some (.int (nI k))] [] (hp g t) = some (none, hp g' t)
  | 0, k, g, hk, h0 => by
    have hk : k = 7 := by omega
    subst hk
    refine ⟨g, fun _ _ => rfl, h0, ?_⟩
    simp (disch := omega) only [sX9_begin_2, sX9_begin_3, sX9_begin_5, sX9_begin_21, ↓reduceIte, if_true, if_false, Option.bind_some, Option.bind_none, Option.toList_some, Option.toList_none, List.cons_append, List.nil_append, Option.elim_some, true_or, or_true, or_false, false_or, true_and, and_true, and_false, false_and, zio1, zio0, zio01, not_true_eq_false, not_false_eq_true, nlt, neq, nlt0, n0lt, neq0, neq1, nm9, m9n, nadd, nadd1, nmul, ncl, zin_t, li7, Nat.lt_irrefl]
  | d + 1, k, g, hk, h0 => by
    have hlt : k < 7 := by omega
    obtain ⟨g', a1, a2, a3⟩ := kX9_bg_loop d (k + 1) (zu g 57 k 0) (by omega) (fun h hh => by
      by_cases q : h = k
      · subst q; simp [zu]
      · simp [zu, q, h0 h (by omega)])
    refine ⟨g', fun a h1 => (a1 a h1).trans (by funext q; simp [zu, h1]), a2, ?_⟩
    rw [sX9_begin_2]
    simp (disch := omega) only [sX9_begin_3, sX9_begin_5, sX9_begin_8, sX9_begin_9, sX9_begin_12, sX9_begin_13, sX9_begin_14, sX9_begin_15, sX9_begin_18, ↓reduceIte, if_true, if_false, Option.bind_some, Option.bind_none, Option.toList_some, Option.toList_none, List.cons_append, List.nil_append, Option.elim_some, true_or, or_true, or_false, false_or, true_and, and_true, and_false, false_and, zio1, zio0, zio01, not_true_eq_false, not_false_eq_true, nlt, neq, nlt0, n0lt, neq0, neq1, nm9, m9n, nadd, nadd1, nmul, ncl, zin_t, li7, hlt]
    exact a3
theorem kX9_begin : ∃ g', (∀ a, a ≠ 57 → g' a = g a) ∧ (∀ h, h < 7 → g' 57 h = 0) ∧ go L xs 118 69 0 [some (.ref 45), none] [] (hp g t) = some (none, hp g' t) := by
  obtain ⟨g', a1, a2, a3⟩ := kX9_bg_loop (L := L) (xs := xs) (t := t) 7 0 g (by omega) (fun h hh => absurd hh (by omega))
  refine ⟨g', a1, a2, ?_⟩
  rw [nI_0] at a3
  simp only [sX9_begin_0, sX9_begin_1]
  exact a3
theorem kX9_beginPlain : ∃ g', fr g g' ∧ MOs g' (-9) 0 0 0 ∧ (∀ h, h < 7 → g' 57 h = 0) ∧ go L xs 119 69 0 [some (.ref 45)] [] (hp g t) = some (none, hp g' t) := by
  obtain ⟨g1, a1, a2, a3⟩ := kX9_begin (L := L) (xs := xs) (t := t) (g := g)
  refine ⟨zu (zu (zu (zu g1 45 21 (-9)) 45 22 0) 45 23 0) 45 24 0, ⟨?_, ?_, ?_⟩, ?_, ?_, ?_⟩
  · intro a h1 h2 _ _
    rw [← a1 a (by omega)]
    funext q
    simp [zu, h2]
  · intro a h1 h2
    rw [← a1 a (by omega)]
    funext q
    have : a ≠ 45 := by omega
    simp [zu, this]
  · intro q hq
    rw [← a1 45 (by omega)]
    have h1 : q ≠ 21 := by omega
    have h2 : q ≠ 22 := by omega
    have h3 : q ≠ 23 := by omega
    have h4 : q ≠ 24 := by omega
    simp [zu, h1, h2, h3, h4]
  · refine ⟨by simp [zu], by simp [zu, nI_0], by simp [zu, nI_0], by simp [zu, nI_0], by omega, by omega, by omega, Or.inl rfl⟩
  · intro h hh
    have := a2 h hh
    simp [zu, this]
  · simp only [sX9_beginPlain_0, sX9_beginPlain_1, sX9_beginPlain_4, sX9_beginPlain_5, sX9_beginPlain_7, sX9_beginPlain_10, sX9_beginPlain_11, sX9_beginPlain_12, sX9_beginPlain_15, sX9_beginPlain_16, sX9_beginPlain_17, sX9_beginPlain_20, sX9_beginPlain_21, sX9_beginPlain_22, sX9_beginPlain_25, ↓reduceIte, if_true, if_false, Option.bind_some, Option.bind_none, Option.toList_some, Option.toList_none, List.cons_append, List.nil_append, Option.elim_some, true_or, or_true, or_false, false_or, true_and, and_true, and_false, false_and, zio1, zio0, zio01, not_true_eq_false, not_false_eq_true, a3]
/-- the depths, dawn by dawn -/
def dp (H G : Nat) (kd gv rs w f l : Nat → Nat) (row : Nat → Int32) (om : Int32) (omw omf pl : Nat) : Nat → Nat → Nat
  | 0 => fun _ => 0
  | n + 1 => dst H (pr G w f l row om omw omf kd gv pl n) (upv G w f l row om omw omf kd rs pl n) (dp H G kd gv rs w f l row om omw omf pl n)
theorem dp_le (hT : MTn g H S kd bd gv rs dr) (hG : MGs g H G w f l row) (hO : MOs g om omw omf pl) : ∀ n h, h < H → dp H G kd gv rs w f l row om omw omf pl n h ≤ n * 7290
  | 0, h, hh => by simp [dp]
  | n + 1, h, hh => by
    have ih := dp_le hT hG hO n h hh
    have b1 := pr_le (n := n) hT hG hO hh
    have b2 : (if 0 < h then pr G w f l row om omw omf kd gv pl n (h - 1) / 4 else 0) ≤ 1215 := by
      split
      · have := pr_le (n := n) hT hG hO (show h - 1 < H by omega); omega
      · omega
    have b3 : (if h + 1 < H then pr G w f l row om omw omf kd gv pl n (h + 1) / 4 else 0) ≤ 1215 := by
      split
      · rename_i q; have := pr_le (n := n) hT hG hO q; omega
      · omega
    show dst H _ _ _ h ≤ _
    unfold dst
    rw [Nat.succ_mul]
    omega
/-- one night on -/
theorem kX9_night {n : Nat} (hn : n ≤ 50) (hT : MTn g H S kd bd gv rs dr) (hG : MGs g H G w f l row) (hO : MOs g om omw omf pl) (hD : ∀ h, h < H → g 57 h = nI (dp H G kd gv rs w f l row om omw omf pl n h)) : ∃ g', fr g g' ∧ MOs g' om omw omf pl ∧ (∀ h, h < H → g' 57 h = nI (dp H G kd gv rs w f l row om omw omf pl (n + 1) h)) ∧ go L xs 122 69 0 [some (.ref 45), some (.int (nI n)), none, none] [] (hp g t) = some (none, hp g' t) := by
  obtain ⟨g', a1, a2, a3⟩ := kX9_goNight (L := L) (xs := xs) (t := t) (n := n) (by omega) hT hG hO (fun h hh => ⟨hD h hh, by
    have := dp_le hT hG hO n h hh
    have : n * 7290 ≤ 50 * 7290 := Nat.mul_le_mul hn (Nat.le_refl _)
    omega⟩)
  exact ⟨g', fr_of a1, hO.tr (fun a ha => a1 a (by omega) (by omega) (by omega)), a2, a3⟩
theorem kX9_gt_loop {m : Nat} (hm : m ≤ 51) : ∀ d k (g : Nat → Nat → Int32), k + d = m → MTn g H S kd bd gv rs dr → MGs g H G w f l row → MOs g om omw omf pl → (∀ h, h < H → g 57 h = nI (dp H G kd gv rs w f l row om omw omf pl k h)) → ∃ g', fr g g' ∧ MOs g' om omw omf pl ∧ (∀ h, h < H → g' 57 h = nI (dp H G kd gv rs w f l row om omw omf pl m h)) ∧ go L xs 123 69 6 [some (.ref 45), some (.int (nI m)), some (.int (nI k))] [] (hp g t) = some (none, hp g' t)
  | 0, k, g, hk, hT, hG, hO, hD => by
    have hk : k = m := by omega
    subst hk
    refine ⟨g, fr.rf, hO, hD, ?_⟩
    simp (disch := omega) only [sX9_goTo_6, sX9_goTo_7, sX9_goTo_8, sX9_goTo_22, ↓reduceIte, if_true, if_false, Option.bind_some, Option.bind_none, Option.toList_some, Option.toList_none, List.cons_append, List.nil_append, Option.elim_some, true_or, or_true, or_false, false_or, true_and, and_true, and_false, false_and, zio1, zio0, zio01, not_true_eq_false, not_false_eq_true, nlt, neq, nlt0, n0lt, neq0, neq1, nm9, m9n, nadd, nadd1, nmul, ncl, zin_t, Nat.lt_irrefl]
  | d + 1, k, g, hk, hT, hG, hO, hD => by
    have hlt : k < m := by omega
    obtain ⟨g1, f1, o1, d1, e1⟩ := kX9_night (L := L) (xs := xs) (t := t) (n := k) (by omega) hT hG hO hD
    obtain ⟨g2, f2, o2, d2, e2⟩ := kX9_gt_loop hm d (k + 1) g1 (by omega) (f1.town hT) (f1.guests hG) o1 d1
    refine ⟨g2, f1.tr f2, o2, d2, ?_⟩
    rw [sX9_goTo_6]
    simp (disch := omega) only [sX9_goTo_7, sX9_goTo_8, sX9_goTo_11, sX9_goTo_12, sX9_goTo_13, sX9_goTo_16, sX9_goTo_19, ↓reduceIte, if_true, if_false, Option.bind_some, Option.bind_none, Option.toList_some, Option.toList_none, List.cons_append, List.nil_append, Option.elim_some, true_or, or_true, or_false, false_or, true_and, and_true, and_false, false_and, zio1, zio0, zio01, not_true_eq_false, not_false_eq_true, nlt, neq, nlt0, n0lt, neq0, neq1, nm9, m9n, nadd, nadd1, nmul, ncl, zin_t, hlt, e1]
    exact e2
theorem kX9_goTo {m : Nat} (hm : m ≤ 50) (hT : MTn g H S kd bd gv rs dr) (hG : MGs g H G w f l row) : ∃ g', fr g g' ∧ MOs g' (-9) 0 0 0 ∧ (∀ h, h < H → g' 57 h = nI (dp H G kd gv rs w f l row (-9) 0 0 0 m h)) ∧ go L xs 123 69 0 [some (.ref 45), some (.int (nI m)), none] [] (hp g t) = some (none, hp g' t) := by
  obtain ⟨g1, f1, o1, d1, e1⟩ := kX9_beginPlain (L := L) (xs := xs) (t := t) (g := g)
  obtain ⟨g2, f2, o2, d2, e2⟩ := kX9_gt_loop (L := L) (xs := xs) (t := t) (m := m) (by omega) m 0 g1 (by omega) (f1.town hT) (f1.guests hG) o1 (fun h hh => by rw [d1 h (by have := hT.2.1; omega)]; exact nI_0.symm)
  refine ⟨g2, f1.tr f2, o2, d2, ?_⟩
  rw [nI_0] at e2
  simp only [sX9_goTo_0, sX9_goTo_1, sX9_goTo_4, sX9_goTo_5, ↓reduceIte, if_true, if_false, Option.bind_some, Option.bind_none, Option.toList_some, Option.toList_none, List.cons_append, List.nil_append, Option.elim_some, true_or, or_true, or_false, false_or, true_and, and_true, and_false, false_and, zio1, zio0, zio01, not_true_eq_false, not_false_eq_true, e1]
  exact e2
/-- a step between a house and the next one -/
def stp (S : Nat) (D : Nat → Nat) (h : Nat) : Prop := D h ≤ D (h + 1) + 10 * S ∧ D (h + 1) ≤ D h + 10 * S
theorem kX9_isStep {D : Nat → Nat} (hT : MTn g H S kd bd gv rs dr) (hD : ∀ h, h < H → g 57 h = nI (D h) ∧ D h ≤ 1000000) {h : Nat} (hh : h + 1 < H) : go L xs 124 69 0 [some (.ref 45), some (.int (nI h))] [] (hp g t) = some (some (.int (if D h ≤ D (h + 1) + 10 * S ∧ D (h + 1) ≤ D h + 10 * S then 1 else 0)), hp g t) := by
  obtain ⟨t1, t2, t3, t4, t5⟩ := id hT
  obtain ⟨d1, b1⟩ := hD h (by omega)
  obtain ⟨d2, b2⟩ := hD (h + 1) hh
  by_cases q : D h < D (h + 1)
  · by_cases q2 : 10 * S < D (h + 1) - D h
    · rw [if_neg (by omega)]
      simp (disch := omega) only [sX9_isStep_0, sX9_isStep_1, sX9_isStep_4, sX9_isStep_5, sX9_isStep_6, sX9_isStep_7, sX9_isStep_10, sX9_isStep_11, sX9_isStep_12, sX9_isStep_13, sX9_isStep_14, sX9_isStep_17, sX9_isStep_19, sX9_isStep_20, sX9_isStep_23, sX9_isStep_24, sX9_isStep_27, sX9_isStep_28, sX9_isStep_31, sX9_isStep_32, ↓reduceIte, if_true, if_false, Option.bind_some, Option.bind_none, Option.toList_some, Option.toList_none, List.cons_append, List.nil_append, Option.elim_some, true_or, or_true, or_false, false_or, true_and, and_true, and_false, false_and, zio1, zio0, zio01, not_true_eq_false, not_false_eq_true, nlt, neq, nlt0, n0lt, neq0, neq1, nm9, m9n, nadd, nadd1, nmul, ncl, zin_t, d1, d2, kX9_off, q, nsub, t3, li10, q2]
    · rw [if_pos (by omega)]
      simp (disch := omega) only [sX9_isStep_0, sX9_isStep_1, sX9_isStep_4, sX9_isStep_5, sX9_isStep_6, sX9_isStep_7, sX9_isStep_10, sX9_isStep_11, sX9_isStep_12, sX9_isStep_13, sX9_isStep_14, sX9_isStep_17, sX9_isStep_19, sX9_isStep_20, sX9_isStep_23, sX9_isStep_24, sX9_isStep_27, sX9_isStep_28, sX9_isStep_31, sX9_isStep_32, ↓reduceIte, if_true, if_false, Option.bind_some, Option.bind_none, Option.toList_some, Option.toList_none, List.cons_append, List.nil_append, Option.elim_some, true_or, or_true, or_false, false_or, true_and, and_true, and_false, false_and, zio1, zio0, zio01, not_true_eq_false, not_false_eq_true, nlt, neq, nlt0, n0lt, neq0, neq1, nm9, m9n, nadd, nadd1, nmul, ncl, zin_t, d1, d2, kX9_off, q, nsub, t3, li10, q2]
  · by_cases q2 : 10 * S < D h - D (h + 1)
    · rw [if_neg (by omega)]
      simp (disch := omega) only [sX9_isStep_0, sX9_isStep_1, sX9_isStep_4, sX9_isStep_5, sX9_isStep_6, sX9_isStep_7, sX9_isStep_10, sX9_isStep_11, sX9_isStep_12, sX9_isStep_13, sX9_isStep_14, sX9_isStep_17, sX9_isStep_19, sX9_isStep_20, sX9_isStep_23, sX9_isStep_24, sX9_isStep_27, sX9_isStep_28, sX9_isStep_31, sX9_isStep_32, ↓reduceIte, if_true, if_false, Option.bind_some, Option.bind_none, Option.toList_some, Option.toList_none, List.cons_append, List.nil_append, Option.elim_some, true_or, or_true, or_false, false_or, true_and, and_true, and_false, false_and, zio1, zio0, zio01, not_true_eq_false, not_false_eq_true, nlt, neq, nlt0, n0lt, neq0, neq1, nm9, m9n, nadd, nadd1, nmul, ncl, zin_t, d1, d2, kX9_off, q, nsub, t3, li10, q2]
    · rw [if_pos (by omega)]
      simp (disch := omega) only [sX9_isStep_0, sX9_isStep_1, sX9_isStep_4, sX9_isStep_5, sX9_isStep_6, sX9_isStep_7, sX9_isStep_10, sX9_isStep_11, sX9_isStep_12, sX9_isStep_13, sX9_isStep_14, sX9_isStep_17, sX9_isStep_19, sX9_isStep_20, sX9_isStep_23, sX9_isStep_24, sX9_isStep_27, sX9_isStep_28, sX9_isStep_31, sX9_isStep_32, ↓reduceIte, if_true, if_false, Option.bind_some, Option.bind_none, Option.toList_some, Option.toList_none, List.cons_append, List.nil_append, Option.elim_some, true_or, or_true, or_false, false_or, true_and, and_true, and_false, false_and, zio1, zio0, zio01, not_true_eq_false, not_false_eq_true, nlt, neq, nlt0, n0lt, neq0, neq1, nm9, m9n, nadd, nadd1, nmul, ncl, zin_t, d1, d2, kX9_off, q, nsub, t3, li10, q2]
/-- the planks at a dawn -/
def plk (H S : Nat) (D : Nat → Nat) : Nat := cnt (fun h => ¬ (D h ≤ D (h + 1) + 10 * S ∧ D (h + 1) ≤ D h + 10 * S)) (H - 1)
theorem kX9_pn_loop {D : Nat → Nat} (hT : MTn g H S kd bd gv rs dr) (hD : ∀ h, h < H → g 57 h = nI (D h) ∧ D h ≤ 1000000) : ∀ d k, k + d = H - 1 → go L xs 125 69 4 [some (.ref 45), some (.int (nI (cnt (fun h => ¬ (D h ≤ D (h + 1) + 10 * S ∧ D (h + 1) ≤ D h + 10 * S)) k))), some (.int (nI k))] [] (hp g t) = some (some (.int (nI (plk H S D))), hp g t)
  | 0, k, hk => by
    have hk : k = H - 1 := by omega
    subst hk
    obtain ⟨t1, t2, t3, t4, t5⟩ := id hT
    have hq : ¬ (H - 1 + 1 < H) := by omega
    simp (disch := omega) only [sX9_planksNow_0, sX9_planksNow_1, sX9_planksNow_2, sX9_planksNow_3, sX9_planksNow_4, sX9_planksNow_5, sX9_planksNow_6, sX9_planksNow_7, sX9_planksNow_8, sX9_planksNow_11, sX9_planksNow_14, sX9_planksNow_15, sX9_planksNow_16, sX9_planksNow_17, sX9_planksNow_20, sX9_planksNow_23, sX9_planksNow_24, sX9_planksNow_27, sX9_planksNow_28, sX9_planksNow_29, sX9_planksNow_30, sX9_planksNow_33, sX9_planksNow_36, sX9_planksNow_37, ↓reduceIte, if_true, if_false, Option.bind_some, Option.bind_none, Option.toList_some, Option.toList_none, List.cons_append, List.nil_append, Option.elim_some, true_or, or_true, or_false, false_or, true_and, and_true, and_false, false_and, zio1, zio0, zio01, not_true_eq_false, not_false_eq_true, nlt, neq, nlt0, n0lt, neq0, neq1, nm9, m9n, nadd, nadd1, nmul, ncl, zin_t, t1, hq]
    rfl
  | d + 1, k, hk => by
    obtain ⟨t1, t2, t3, t4, t5⟩ := id hT
    have ih := kX9_pn_loop hT hD d (k + 1) (by omega)
    have hq : k + 1 < H := by omega
    have hst := kX9_isStep (L := L) (xs := xs) (t := t) hT hD hq
    rw [sX9_planksNow_4]
    rw [show cnt (fun h => ¬ (D h ≤ D (h + 1) + 10 * S ∧ D (h + 1) ≤ D h + 10 * S)) (k + 1) = cnt (fun h => ¬ (D h ≤ D (h + 1) + 10 * S ∧ D (h + 1) ≤ D h + 10 * S)) k + (if ¬ (D k ≤ D (k + 1) + 10 * S ∧ D (k + 1) ≤ D k + 10 * S) then 1 else 0) from rfl] at ih
    by_cases q : D k ≤ D (k + 1) + 10 * S ∧ D (k + 1) ≤ D k + 10 * S
    · rw [if_neg (fun z => z q)] at ih
      rw [if_pos q] at hst
      simp (disch := omega) only [sX9_planksNow_5, sX9_planksNow_6, sX9_planksNow_7, sX9_planksNow_8, sX9_planksNow_11, sX9_planksNow_14, sX9_planksNow_15, sX9_planksNow_16, sX9_planksNow_17, sX9_planksNow_20, sX9_planksNow_23, sX9_planksNow_24, sX9_planksNow_27, sX9_planksNow_28, sX9_planksNow_29, sX9_planksNow_30, sX9_planksNow_33, ↓reduceIte, if_true, if_false, Option.bind_some, Option.bind_none, Option.toList_some, Option.toList_none, List.cons_append, List.nil_append, Option.elim_some, true_or, or_true, or_false, false_or, true_and, and_true, and_false, false_and, zio1, zio0, zio01, not_true_eq_false, not_false_eq_true, nlt, neq, nlt0, n0lt, neq0, neq1, nm9, m9n, nadd, nadd1, nmul, ncl, zin_t, t1, hq, hst, nadd0]
      exact ih
    · rw [if_pos q] at ih
      rw [if_neg q] at hst
      simp (disch := omega) only [sX9_planksNow_5, sX9_planksNow_6, sX9_planksNow_7, sX9_planksNow_8, sX9_planksNow_11, sX9_planksNow_14, sX9_planksNow_15, sX9_planksNow_16, sX9_planksNow_17, sX9_planksNow_20, sX9_planksNow_23, sX9_planksNow_24, sX9_planksNow_27, sX9_planksNow_28, sX9_planksNow_29, sX9_planksNow_30, sX9_planksNow_33, ↓reduceIte, if_true, if_false, Option.bind_some, Option.bind_none, Option.toList_some, Option.toList_none, List.cons_append, List.nil_append, Option.elim_some, true_or, or_true, or_false, false_or, true_and, and_true, and_false, false_and, zio1, zio0, zio01, not_true_eq_false, not_false_eq_true, nlt, neq, nlt0, n0lt, neq0, neq1, nm9, m9n, nadd, nadd1, nmul, ncl, zin_t, t1, hq, hst]
      exact ih
theorem kX9_planksNow {D : Nat → Nat} (hT : MTn g H S kd bd gv rs dr) (hD : ∀ h, h < H → g 57 h = nI (D h) ∧ D h ≤ 1000000) : go L xs 125 69 0 [some (.ref 45), none, none] [] (hp g t) = some (some (.int (nI (plk H S D))), hp g t) := by
  have h := kX9_pn_loop (L := L) (xs := xs) (t := t) hT hD (H - 1) 0 (by omega)
  rw [show cnt (fun h => ¬ (D h ≤ D (h + 1) + 10 * S ∧ D (h + 1) ≤ D h + 10 * S)) 0 = 0 from rfl, nI_0] at h
  simp only [sX9_planksNow_0, sX9_planksNow_1, sX9_planksNow_2, sX9_planksNow_3]
  exact h
end M4
