/-! The reference: readings, feast. -/
section M7
variable {L : Nat} {xs : Nat → Int32} {g g' : Nat → Nat → Int32} {t : Nat → Int64}
variable {H S G R : Nat} {kd bd gv rs dr w f l rh rd rt : Nat → Nat} {row : Nat → Int32}
variable {om : Int32} {omw omf pl : Nat}
def MRs (g : Nat → Nat → Int32) (H R : Nat) (rh rd rt : Nat → Nat) : Prop := g 45 27 = nI R ∧ R ≤ 10 ∧ ∀ k, k < R → (g 62 k = nI (rh k) ∧ rh k < H) ∧ (g 63 k = nI (rd k) ∧ rd k ≤ 50) ∧ g 64 k = nI (rt k) ∧ rt k ≤ 999999
theorem fr.reads (hf : fr g g') (h : MRs g H R rh rd rt) : MRs g' H R rh rd rt := by
  unfold MRs
  rw [hf.2.2 27 (by omega), hf.2.1 62 (by omega) (by omega), hf.2.1 63 (by omega) (by omega), hf.2.1 64 (by omega) (by omega)]
  exact h
theorem kX9_as1 {D : Nat → Nat} {d : Nat} (hd : d ≤ 50) {b : Bool} (h7 : H ≤ 7) (hR : MRs g H R rh rd rt) (hD : ∀ h, h < H → g 57 h = nI (D h) ∧ D h ≤ 1000000) : ∀ e k, k + e = R → go L xs 142 69 12 [some (.ref 45), some (.int (if (b && allb (fun x => !(decide (rd x = d)) || decide (D (rh x) = rt x)) k) = true then 1 else 0)), some (.int (nI d)), some (.int (nI k))] [] (hp g t) = go L xs 142 69 66 [some (.ref 45), some (.int (if (b && allb (fun x => !(decide (rd x = d)) || decide (D (rh x) = rt x)) R) = true then 1 else 0)), some (.int (nI d)), some (.int (nI R))] [] (hp g t)
  | 0, k, hk => by
    have hk : k = R := by omega
    subst hk
    obtain ⟨r1, r2, r3⟩ := id hR
    simp (disch := omega) only [sX9_areSo_12, sX9_areSo_13, sX9_areSo_14, sX9_areSo_17, ↓reduceIte, if_true, if_false, Option.bind_some, Option.bind_none, Option.toList_some, Option.toList_none, List.cons_append, List.nil_append, Option.elim_some, true_or, or_true, or_false, false_or, true_and, and_true, and_false, false_and, zio1, zio0, zio01, not_true_eq_false, not_false_eq_true, nlt, neq, nlt0, n0lt, neq0, neq1, nm9, m9n, nadd, nadd1, nmul, ncl, zin_t, r1, Nat.lt_irrefl]
  | e + 1, k, hk => by
    have ih := kX9_as1 (d := d) (b := b) hd h7 hR hD e (k + 1) (by omega)
    obtain ⟨r1, r2, r3⟩ := id hR
    have hlt : k < R := by omega
    obtain ⟨⟨u1, u2⟩, ⟨v1, v2⟩, w1, w2⟩ := r3 k hlt
    obtain ⟨d1, d2⟩ := hD (rh k) u2
    rw [sX9_areSo_12]
    cases hb : (b && allb (fun x => !(decide (rd x = d)) || decide (D (rh x) = rt x)) k) with
    | false =>
      have e1 : (b && allb (fun x => !(decide (rd x = d)) || decide (D (rh x) = rt x)) (k + 1)) = false := by
        show (b && (allb _ k && _)) = false
        rw [← Bool.and_assoc, hb]
        rfl
      rw [e1] at ih
      simp (disch := omega) only [sX9_areSo_13, sX9_areSo_14, sX9_areSo_17, sX9_areSo_20, sX9_areSo_21, sX9_areSo_24, sX9_areSo_25, sX9_areSo_28, sX9_areSo_29, sX9_areSo_30, sX9_areSo_31, sX9_areSo_34, sX9_areSo_35, sX9_areSo_38, sX9_areSo_39, sX9_areSo_42, sX9_areSo_43, sX9_areSo_44, sX9_areSo_45, sX9_areSo_46, sX9_areSo_49, sX9_areSo_50, sX9_areSo_51, sX9_areSo_54, sX9_areSo_55, sX9_areSo_58, sX9_areSo_59, sX9_areSo_60, sX9_areSo_63, ↓reduceIte, if_true, if_false, Option.bind_some, Option.bind_none, Option.toList_some, Option.toList_none, List.cons_append, List.nil_append, Option.elim_some, true_or, or_true, or_false, false_or, true_and, and_true, and_false, false_and, zio1, zio0, zio01, not_true_eq_false, not_false_eq_true, nlt, neq, nlt0, n0lt, neq0, neq1, nm9, m9n, nadd, nadd1, nmul, ncl, zin_t, r1, hlt, Bool.false_eq_true]
      simpa only [Bool.false_eq_true, if_false] using ih
    | true =>
      have e1 : (b && allb (fun x => !(decide (rd x = d)) || decide (D (rh x) = rt x)) (k + 1)) = (!(decide (rd k = d)) || decide (D (rh k) = rt k)) := by
        show (b && (allb _ k && _)) = _
        rw [← Bool.and_assoc, hb]
        rfl
      rw [e1] at ih
      by_cases q1 : rd k = d
      · by_cases q2 : D (rh k) = rt k
        · simp only [q1, q2, decide_true, Bool.not_true, Bool.or_true, if_true] at ih
          simp (disch := omega) only [sX9_areSo_13, sX9_areSo_14, sX9_areSo_17, sX9_areSo_20, sX9_areSo_21, sX9_areSo_24, sX9_areSo_25, sX9_areSo_28, sX9_areSo_29, sX9_areSo_30, sX9_areSo_31, sX9_areSo_34, sX9_areSo_35, sX9_areSo_38, sX9_areSo_39, sX9_areSo_42, sX9_areSo_43, sX9_areSo_44, sX9_areSo_45, sX9_areSo_46, sX9_areSo_49, sX9_areSo_50, sX9_areSo_51, sX9_areSo_54, sX9_areSo_55, sX9_areSo_58, sX9_areSo_59, sX9_areSo_60, sX9_areSo_63, ↓reduceIte, if_true, if_false, Option.bind_some, Option.bind_none, Option.toList_some, Option.toList_none, List.cons_append, List.nil_append, Option.elim_some, true_or, or_true, or_false, false_or, true_and, and_true, and_false, false_and, zio1, zio0, zio01, not_true_eq_false, not_false_eq_true, nlt, neq, nlt0, n0lt, neq0, neq1, nm9, m9n, nadd, nadd1, nmul, ncl, zin_t, r1, hlt, v1, q1, u1, d1, w1, q2]
          exact ih
        · simp only [q1, q2, decide_true, decide_false, Bool.not_true, Bool.or_false, Bool.false_eq_true, if_false] at ih
          simp (disch := omega) only [sX9_areSo_13, sX9_areSo_14, sX9_areSo_17, sX9_areSo_20, sX9_areSo_21, sX9_areSo_24, sX9_areSo_25, sX9_areSo_28, sX9_areSo_29, sX9_areSo_30, sX9_areSo_31, sX9_areSo_34, sX9_areSo_35, sX9_areSo_38, sX9_areSo_39, sX9_areSo_42, sX9_areSo_43, sX9_areSo_44, sX9_areSo_45, sX9_areSo_46, sX9_areSo_49, sX9_areSo_50, sX9_areSo_51, sX9_areSo_54, sX9_areSo_55, sX9_areSo_58, sX9_areSo_59, sX9_areSo_60, sX9_areSo_63, ↓reduceIte, if_true, if_false, Option.bind_some, Option.bind_none, Option.toList_some, Option.toList_none, List.cons_append, List.nil_append, Option.elim_some, true_or, or_true, or_false, false_or, true_and, and_true, and_false, false_and, zio1, zio0, zio01, not_true_eq_false, not_false_eq_true, nlt, neq, nlt0, n0lt, neq0, neq1, nm9, m9n, nadd, nadd1, nmul, ncl, zin_t, r1, hlt, v1, q1, u1, d1, w1, q2]
          exact ih
      · simp only [q1, decide_false, Bool.not_false, Bool.true_or, if_true] at ih
        simp (disch := omega) only [sX9_areSo_13, sX9_areSo_14, sX9_areSo_17, sX9_areSo_20, sX9_areSo_21, sX9_areSo_24, sX9_areSo_25, sX9_areSo_28, sX9_areSo_29, sX9_areSo_30, sX9_areSo_31, sX9_areSo_34, sX9_areSo_35, sX9_areSo_38, sX9_areSo_39, sX9_areSo_42, sX9_areSo_43, sX9_areSo_44, sX9_areSo_45, sX9_areSo_46, sX9_areSo_49, sX9_areSo_50, sX9_areSo_51, sX9_areSo_54, sX9_areSo_55, sX9_areSo_58, sX9_areSo_59, sX9_areSo_60, sX9_areSo_63, ↓reduceIte, if_true, if_false, Option.bind_some, Option.bind_none, Option.toList_some, Option.toList_none, List.cons_append, List.nil_append, Option.elim_some, true_or, or_true, or_false, false_or, true_and, and_true, and_false, false_and, zio1, zio0, zio01, not_true_eq_false, not_false_eq_true, nlt, neq, nlt0, n0lt, neq0, neq1, nm9, m9n, nadd, nadd1, nmul, ncl, zin_t, r1, hlt, v1, q1]
        exact ih
/-- all readings of the dawns below d are so -/
def sob (R : Nat) (rh rd rt : Nat → Nat) (D : Nat → Nat → Nat) : Nat → Bool := allb (fun d => allb (fun x => !(decide (rd x = d)) || decide (D d (rh x) = rt x)) R)
theorem sob_eq {D : Nat → Nat → Nat} (h : ∀ k, k < R → rd k ≤ 50) : sob R rh rd rt D 51 = allb (fun x => decide (D (rd x) (rh x) = rt x)) R := by
  rw [Bool.eq_iff_iff]
  unfold sob
  rw [allb_iff, allb_iff]
  constructor
  · intro h1 k hk
    have h2 := allb_iff.mp (h1 (rd k) (by have := h k hk; omega)) k hk
    simpa using h2
  · intro h1 d hd
    rw [allb_iff]
    intro k hk
    have h2 := h1 k hk
    by_cases q : rd k = d
    · subst q; simpa using h2
    · simp [q]
theorem kX9_as2 : ∀ e d (g : Nat → Nat → Int32) (x3 : Option Value), d + e = 51 → MTn g H S kd bd gv rs dr → MGs g H G w f l row → MOs g om omw omf pl → MRs g H R rh rd rt → (∀ h, h < H → g 57 h = nI (dp H G kd gv rs w f l row om omw omf pl d h)) → ∃ g', fr g g' ∧ go L xs 142 69 4 [some (.ref 45), some (.int (if sob R rh rd rt (dp H G kd gv rs w f l row om omw omf pl) d = true then 1 else 0)), some (.int (nI d)), x3] [] (hp g t) = some (some (.int (if sob R rh rd rt (dp H G kd gv rs w f l row om omw omf pl) 51 = true then 1 else 0)), hp g' t)
  | 0, d, g, x3, hk, hT, hG, hO, hR, hD => by
    have hk : d = 51 := by omega
    subst hk
    refine ⟨g, fr.rf, ?_⟩
    have hz : ((if sob R rh rd rt (dp H G kd gv rs w f l row om omw omf pl) 51 = true then (1 : Int32) else 0) = 0 ∨ (if sob R rh rd rt (dp H G kd gv rs w f l row om omw omf pl) 51 = true then (1 : Int32) else 0) = 1) := by split <;> simp
    simp (disch := omega) only [sX9_areSo_4, sX9_areSo_5, sX9_areSo_7, sX9_areSo_77, sX9_areSo_78, ↓reduceIte, if_true, if_false, Option.bind_some, Option.bind_none, Option.toList_some, Option.toList_none, List.cons_append, List.nil_append, Option.elim_some, true_or, or_true, or_false, false_or, true_and, and_true, and_false, false_and, zio1, zio0, zio01, not_true_eq_false, not_false_eq_true, nlt, neq, nlt0, n0lt, neq0, neq1, nm9, m9n, nadd, nadd1, nmul, ncl, zin_t, li50, (show 50 < 51 by omega), eq_true hz]
  | e + 1, d, g, x3, hk, hT, hG, hO, hR, hD => by
    have hlt : ¬ 50 < d := by omega
    have hl := kX9_as1 (L := L) (xs := xs) (t := t) (d := d) (b := sob R rh rd rt (dp H G kd gv rs w f l row om omw omf pl) d) (D := dp H G kd gv rs w f l row om omw omf pl d) (by omega) hT.2.1 hR (fun h hh => ⟨hD h hh, dq_le hT hG hO (by omega) hh⟩) R 0 (by omega)
    obtain ⟨g1, f1, o1, d1, e1⟩ := kX9_night (L := L) (xs := xs) (t := t) (n := d) (by omega) hT hG hO hD
    obtain ⟨g2, f2, e2⟩ := kX9_as2 e (d + 1) g1 (some (.int (nI R))) (by omega) (f1.town hT) (f1.guests hG) o1 (f1.reads hR) d1
    refine ⟨g2, f1.tr f2, ?_⟩
    rw [show allb (fun x => !(decide (rd x = d)) || decide (dp H G kd gv rs w f l row om omw omf pl d (rh x) = rt x)) 0 = true from rfl, Bool.and_true, nI_0, show (sob R rh rd rt (dp H G kd gv rs w f l row om omw omf pl) d && allb (fun x => !(decide (rd x = d)) || decide (dp H G kd gv rs w f l row om omw omf pl d (rh x) = rt x)) R) = sob R rh rd rt (dp H G kd gv rs w f l row om omw omf pl) (d + 1) from rfl] at hl
    rw [sX9_areSo_4]
    simp (disch := omega) only [sX9_areSo_5, sX9_areSo_7, sX9_areSo_10, sX9_areSo_11, ↓reduceIte, if_true, if_false, Option.bind_some, Option.bind_none, Option.toList_some, Option.toList_none, List.cons_append, List.nil_append, Option.elim_some, true_or, or_true, or_false, false_or, true_and, and_true, and_false, false_and, zio1, zio0, zio01, not_true_eq_false, not_false_eq_true, nlt, neq, nlt0, n0lt, neq0, neq1, nm9, m9n, nadd, nadd1, nmul, ncl, zin_t, li50, hlt]
    rw [hl]
    simp (disch := omega) only [sX9_areSo_66, sX9_areSo_67, sX9_areSo_68, sX9_areSo_71, sX9_areSo_74, ↓reduceIte, if_true, if_false, Option.bind_some, Option.bind_none, Option.toList_some, Option.toList_none, List.cons_append, List.nil_append, Option.elim_some, true_or, or_true, or_false, false_or, true_and, and_true, and_false, false_and, zio1, zio0, zio01, not_true_eq_false, not_false_eq_true, nlt, neq, nlt0, n0lt, neq0, neq1, nm9, m9n, nadd, nadd1, nmul, ncl, zin_t, e1]
    exact e2
theorem kX9_areSo (hT : MTn g H S kd bd gv rs dr) (hG : MGs g H G w f l row) (hO : MOs g om omw omf pl) (hR : MRs g H R rh rd rt) (hD : ∀ h, h < H → g 57 h = 0) : ∃ g', fr g g' ∧ go L xs 142 69 0 [some (.ref 45), none, none, none] [] (hp g t) = some (some (.int (if allb (fun x => decide (dp H G kd gv rs w f l row om omw omf pl (rd x) (rh x) = rt x)) R = true then 1 else 0)), hp g' t) := by
  obtain ⟨g2, f2, e2⟩ := kX9_as2 (L := L) (xs := xs) (t := t) 51 0 g none (by omega) hT hG hO hR (fun h hh => by rw [hD h hh]; exact nI_0.symm)
  refine ⟨g2, f2, ?_⟩
  rw [sob_eq (fun k hk => (hR.2.2 k hk).2.1.2), show sob R rh rd rt (dp H G kd gv rs w f l row om omw omf pl) 0 = true from rfl, if_pos rfl, nI_0] at e2
  simp only [sX9_areSo_0, sX9_areSo_1, sX9_areSo_2, sX9_areSo_3]
  exact e2
theorem qX9_right (hT : MTn g H S kd bd gv rs dr) (hG : MGs g H G w f l row) (hR : MRs g H R rh rd rt) : ∃ g', fr g g' ∧ go L xs 143 69 0 [some (.ref 45)] [] (hp g t) = some (some (.int (if allb (fun x => decide (dq H G kd gv rs w f l row (rd x) (rh x) = rt x)) R = true then 1 else 0)), hp g' t) := by
  obtain ⟨g1, f1, o1, d1, e1⟩ := kX9_beginPlain (L := L) (xs := xs) (t := t) (g := g)
  have h7 := hT.2.1
  obtain ⟨g2, f2, e2⟩ := kX9_areSo (L := L) (xs := xs) (t := t) (f1.town hT) (f1.guests hG) o1 (f1.reads hR) (fun h hh => d1 h (by omega))
  refine ⟨g2, f1.tr f2, ?_⟩
  by_cases q : allb (fun x => decide (dq H G kd gv rs w f l row (rd x) (rh x) = rt x)) R = true
  · rw [if_pos q] at e2 ⊢
    simp only [sX9_right_0, sX9_right_1, sX9_right_4, sX9_right_5, sX9_right_8, sX9_right_11, sX9_right_12, sX9_right_15, sX9_right_16, ↓reduceIte, if_true, if_false, Option.bind_some, Option.bind_none, Option.toList_some, Option.toList_none, List.cons_append, List.nil_append, Option.elim_some, true_or, or_true, or_false, false_or, true_and, and_true, and_false, false_and, zio1, zio0, zio01, not_true_eq_false, not_false_eq_true, e1, e2]
  · rw [if_neg q] at e2 ⊢
    simp only [sX9_right_0, sX9_right_1, sX9_right_4, sX9_right_5, sX9_right_8, sX9_right_11, sX9_right_12, sX9_right_15, sX9_right_16, ↓reduceIte, if_true, if_false, Option.bind_some, Option.bind_none, Option.toList_some, Option.toList_none, List.cons_append, List.nil_append, Option.elim_some, true_or, or_true, or_false, false_or, true_and, and_true, and_false, false_and, zio1, zio0, zio01, not_true_eq_false, not_false_eq_true, e1, e2]
end M7
