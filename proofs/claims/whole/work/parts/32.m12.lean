/-! The reference: unseen, reach, way. -/
section M12
variable {L : Nat} {xs : Nat → Int32} {g g' : Nat → Nat → Int32} {t : Nat → Int64}
variable {H S G R : Nat} {kd bd gv rs dr w f l rh rd rt : Nat → Nat} {row : Nat → Int32}
/-- pairs found so far, and the first of them -/
def us1 (P : Nat → Bool) (h : Nat) : Nat → Nat → Nat × Nat → Nat × Nat
  | 0, _, b => b
  | e + 1, k, b => us1 P h e (k + 1) (if P k = true then (b.1 + 1, if b.1 = 0 then 100 * h + k else b.2) else b)
def us2 (P : Nat → Nat → Bool) : Nat → Nat → Nat × Nat → Nat × Nat
  | 0, _, b => b
  | e + 1, h, b => us2 P e (h + 1) (us1 (P h) h 30 1 b)
theorem us1_le {P : Nat → Bool} {h : Nat} (hh : h < 7) : ∀ e k b, k + e ≤ 31 → b.2 ≤ 1000 ∧ b.1 ≤ 1000 → (us1 P h e k b).2 ≤ 1000 ∧ (us1 P h e k b).1 ≤ b.1 + e
  | 0, _, b, _, hb => ⟨hb.1, by simp [us1]⟩
  | e + 1, k, b, hk, hb => by
    unfold us1
    by_cases q : P k = true
    · rw [if_pos q]
      by_cases q2 : b.1 < 1000
      · have := us1_le (P := P) hh e (k + 1) (b.1 + 1, if b.1 = 0 then 100 * h + k else b.2) (by omega) ⟨by dsimp only; split <;> omega, by dsimp only; omega⟩
        exact ⟨this.1, by have := this.2; dsimp only at this; omega⟩
      · have gen : ∀ e k (b : Nat × Nat), k + e ≤ 31 → b.2 ≤ 1000 → (us1 P h e k b).2 ≤ 1000 ∧ (us1 P h e k b).1 ≤ b.1 + e := by
          intro e
          induction e with
          | zero => intro k b _ hb; exact ⟨hb, by simp [us1]⟩
          | succ e ih =>
            intro k b hk hb
            unfold us1
            by_cases q : P k = true
            · rw [if_pos q]
              have := ih (k + 1) (b.1 + 1, if b.1 = 0 then 100 * h + k else b.2) (by omega) (by dsimp only; split <;> omega)
              exact ⟨this.1, by have := this.2; dsimp only at this; omega⟩
            · rw [if_neg q]
              have := ih (k + 1) b (by omega) hb
              exact ⟨this.1, by have := this.2; omega⟩
        have := gen e (k + 1) (b.1 + 1, if b.1 = 0 then 100 * h + k else b.2) (by omega) (by dsimp only; split <;> omega)
        exact ⟨this.1, by have := this.2; dsimp only at this; omega⟩
    · rw [if_neg q]
      have := us1_le (P := P) hh e (k + 1) b (by omega) hb
      exact ⟨this.1, by have := this.2; omega⟩
abbrev unp (H G R : Nat) (kd gv rs w f l rh rd rt : Nat → Nat) (row : Nat → Int32) (h k : Nat) : Bool := allb (fun x => decide (dp H G kd gv rs w f l row (nI h) k 0 0 (rd x) (rh x) = rt x)) R
theorem kX9_us1 {x : Int32} {h : Nat} (hh : h < H) (h7 : H ≤ 7) : ∀ e k (g : Nat → Nat → Int32) (b : Nat × Nat), k + e = 31 → 1 ≤ k → b.2 ≤ 1000 → b.1 + e ≤ 1000 → MTn g H S kd bd gv rs dr → MGs g H G w f l row → MRs g H R rh rd rt → ∃ g', fr g g' ∧ go L xs 144 69 43 [some (.ref 45), some (.int x), some (.int (nI b.1)), some (.int (if b.1 = 0 then -9 else nI b.2)), some (.int (nI h)), some (.int (nI k))] [] (hp g t) = go L xs 144 69 99 [some (.ref 45), some (.int x), some (.int (nI (us1 (unp H G R kd gv rs w f l rh rd rt row h) h e k b).1)), some (.int (if (us1 (unp H G R kd gv rs w f l rh rd rt row h) h e k b).1 = 0 then -9 else nI (us1 (unp H G R kd gv rs w f l rh rd rt row h) h e k b).2)), some (.int (nI h)), some (.int (nI 31))] [] (hp g' t)
  | 0, k, g, b, hk, _, _, _, hT, hG, hR => by
    have hk : k = 31 := by omega
    subst hk
    refine ⟨g, fr.rf, ?_⟩
    simp (disch := omega) only [sX9_unseen_43, sX9_unseen_45, sX9_unseen_47, ↓reduceIte, if_true, if_false, Option.bind_some, Option.bind_none, Option.toList_some, Option.toList_none, List.cons_append, List.nil_append, Option.elim_some, true_or, or_true, or_false, false_or, true_and, and_true, and_false, false_and, zio1, zio0, zio01, not_true_eq_false, not_false_eq_true, nlt, neq, nlt0, n0lt, neq0, neq1, nm9, m9n, nadd, nadd1, nmul, ncl, zin_t, li30, (show 30 < 31 by omega), us1] <;> rfl
  | e + 1, k, g, b, hk, hk1, hb2, hb1, hT, hG, hR => by
    have hlt : ¬ 30 < k := by omega
    obtain ⟨g1, f1, o1, d1, e1⟩ := kX9_beginPlain (L := L) (xs := xs) (t := t) (g := g)
    have f2 : fr g (zu (zu g1 45 21 (nI h)) 45 22 (nI k)) := (f1.sc (by omega) _).sc (by omega) _
    obtain ⟨g2, f3, e2⟩ := kX9_areSo (L := L) (xs := xs) (t := t) (f2.town hT) (f2.guests hG) (o1.in2 (h := h) (W := k) (by omega) (by omega)) (f2.reads hR) (fun h hh => by
      have := d1 h (by omega)
      simp only [zu]
      rw [if_neg (by omega), if_neg (by omega), this])
    have f4 := f2.tr f3
    rw [sX9_unseen_43]
    by_cases q : unp H G R kd gv rs w f l rh rd rt row h k = true
    · rw [if_pos q] at e2
      by_cases q0 : b.1 = 0
      · obtain ⟨g3, f5, e3⟩ := kX9_us1 (x := x) hh h7 e (k + 1) g2 (b.1 + 1, 100 * h + k) (by omega) (by omega) (by dsimp only; omega) (by dsimp only; omega) (f4.town hT) (f4.guests hG) (f4.reads hR)
        refine ⟨g3, f4.tr f5, ?_⟩
        unfold us1
        rw [if_pos q, if_pos q0]
        dsimp only at e3
        rw [if_neg (show ¬ b.1 + 1 = 0 by omega)] at e3
        have h100 : (100 : Int32) = nI 100 := by decide
        simp (disch := omega) only [sX9_unseen_45, sX9_unseen_47, sX9_unseen_50, sX9_unseen_51, sX9_unseen_54, sX9_unseen_55, sX9_unseen_57, sX9_unseen_60, sX9_unseen_61, sX9_unseen_63, sX9_unseen_66, sX9_unseen_67, sX9_unseen_70, sX9_unseen_73, sX9_unseen_76, sX9_unseen_77, sX9_unseen_80, sX9_unseen_82, sX9_unseen_84, sX9_unseen_85, sX9_unseen_87, sX9_unseen_88, sX9_unseen_91, sX9_unseen_92, sX9_unseen_93, sX9_unseen_96, ↓reduceIte, if_true, if_false, Option.bind_some, Option.bind_none, Option.toList_some, Option.toList_none, List.cons_append, List.nil_append, Option.elim_some, true_or, or_true, or_false, false_or, true_and, and_true, and_false, false_and, zio1, zio0, zio01, not_true_eq_false, not_false_eq_true, nlt, neq, nlt0, n0lt, neq0, neq1, nm9, m9n, nadd, nadd1, nmul, ncl, zin_t, li30, hlt, e1, e2, q0, m9lt, h100, Nat.zero_add]
        rw [q0, Nat.zero_add] at e3
        exact e3
      · obtain ⟨g3, f5, e3⟩ := kX9_us1 (x := x) hh h7 e (k + 1) g2 (b.1 + 1, b.2) (by omega) (by omega) (by dsimp only; omega) (by dsimp only; omega) (f4.town hT) (f4.guests hG) (f4.reads hR)
        refine ⟨g3, f4.tr f5, ?_⟩
        unfold us1
        rw [if_pos q, if_neg q0]
        dsimp only at e3
        rw [if_neg (show ¬ b.1 + 1 = 0 by omega)] at e3
        simp (disch := omega) only [sX9_unseen_45, sX9_unseen_47, sX9_unseen_50, sX9_unseen_51, sX9_unseen_54, sX9_unseen_55, sX9_unseen_57, sX9_unseen_60, sX9_unseen_61, sX9_unseen_63, sX9_unseen_66, sX9_unseen_67, sX9_unseen_70, sX9_unseen_73, sX9_unseen_76, sX9_unseen_77, sX9_unseen_80, sX9_unseen_82, sX9_unseen_84, sX9_unseen_85, sX9_unseen_87, sX9_unseen_88, sX9_unseen_91, sX9_unseen_92, sX9_unseen_93, sX9_unseen_96, ↓reduceIte, if_true, if_false, Option.bind_some, Option.bind_none, Option.toList_some, Option.toList_none, List.cons_append, List.nil_append, Option.elim_some, true_or, or_true, or_false, false_or, true_and, and_true, and_false, false_and, zio1, zio0, zio01, not_true_eq_false, not_false_eq_true, nlt, neq, nlt0, n0lt, neq0, neq1, nm9, m9n, nadd, nadd1, nmul, ncl, zin_t, li30, hlt, e1, e2, q0]
        exact e3
    · rw [if_neg q] at e2
      obtain ⟨g3, f5, e3⟩ := kX9_us1 (x := x) hh h7 e (k + 1) g2 b (by omega) (by omega) hb2 (by omega) (f4.town hT) (f4.guests hG) (f4.reads hR)
      refine ⟨g3, f4.tr f5, ?_⟩
      unfold us1
      rw [if_neg q]
      simp (disch := omega) only [sX9_unseen_45, sX9_unseen_47, sX9_unseen_50, sX9_unseen_51, sX9_unseen_54, sX9_unseen_55, sX9_unseen_57, sX9_unseen_60, sX9_unseen_61, sX9_unseen_63, sX9_unseen_66, sX9_unseen_67, sX9_unseen_70, sX9_unseen_73, sX9_unseen_76, sX9_unseen_77, sX9_unseen_80, sX9_unseen_82, sX9_unseen_84, sX9_unseen_85, sX9_unseen_87, sX9_unseen_88, sX9_unseen_91, sX9_unseen_92, sX9_unseen_93, sX9_unseen_96, ↓reduceIte, if_true, if_false, Option.bind_some, Option.bind_none, Option.toList_some, Option.toList_none, List.cons_append, List.nil_append, Option.elim_some, true_or, or_true, or_false, false_or, true_and, and_true, and_false, false_and, zio1, zio0, zio01, not_true_eq_false, not_false_eq_true, nlt, neq, nlt0, n0lt, neq0, neq1, nm9, m9n, nadd, nadd1, nmul, ncl, zin_t, li30, hlt, e1, e2]
      exact e3
theorem kX9_us2 {x : Int32} (h7 : H ≤ 7) : ∀ e h (g : Nat → Nat → Int32) (b : Nat × Nat) (x5 : Option Value), h + e = H → b.2 ≤ 1000 → b.1 + 30 * e ≤ 1000 → MTn g H S kd bd gv rs dr → MGs g H G w f l row → MRs g H R rh rd rt → ∃ g', fr g g' ∧ go L xs 144 69 31 [some (.ref 45), some (.int x), some (.int (nI b.1)), some (.int (if b.1 = 0 then -9 else nI b.2)), some (.int (nI h)), x5] [] (hp g t) = some (some (.int (if x = 0 then nI (us2 (unp H G R kd gv rs w f l rh rd rt row) e h b).1 else if (us2 (unp H G R kd gv rs w f l rh rd rt row) e h b).1 = 0 then -9 else nI (us2 (unp H G R kd gv rs w f l rh rd rt row) e h b).2)), hp g' t)
  | 0, h, g, b, x5, hk, _, _, hT, hG, hR => by
    have hk : h = H := by omega
    subst hk
    refine ⟨g, fr.rf, ?_⟩
    have t1 := hT.1
    by_cases q : x = 0
    · simp (disch := omega) only [sX9_unseen_31, sX9_unseen_33, sX9_unseen_34, sX9_unseen_37, sX9_unseen_105, sX9_unseen_106, sX9_unseen_109, sX9_unseen_110, sX9_unseen_113, sX9_unseen_114, ↓reduceIte, if_true, if_false, Option.bind_some, Option.bind_none, Option.toList_some, Option.toList_none, List.cons_append, List.nil_append, Option.elim_some, true_or, or_true, or_false, false_or, true_and, and_true, and_false, false_and, zio1, zio0, zio01, not_true_eq_false, not_false_eq_true, nlt, neq, nlt0, n0lt, neq0, neq1, nm9, m9n, nadd, nadd1, nmul, ncl, zin_t, t1, Nat.lt_irrefl, q, us2] <;> rfl
    · simp (disch := omega) only [sX9_unseen_31, sX9_unseen_33, sX9_unseen_34, sX9_unseen_37, sX9_unseen_105, sX9_unseen_106, sX9_unseen_109, sX9_unseen_110, sX9_unseen_113, sX9_unseen_114, ↓reduceIte, if_true, if_false, Option.bind_some, Option.bind_none, Option.toList_some, Option.toList_none, List.cons_append, List.nil_append, Option.elim_some, true_or, or_true, or_false, false_or, true_and, and_true, and_false, false_and, zio1, zio0, zio01, not_true_eq_false, not_false_eq_true, nlt, neq, nlt0, n0lt, neq0, neq1, nm9, m9n, nadd, nadd1, nmul, ncl, zin_t, t1, Nat.lt_irrefl, q, us2] <;> rfl
  | e + 1, h, g, b, x5, hk, hb2, hb1, hT, hG, hR => by
    have hlt : h < H := by omega
    have t1 := hT.1
    obtain ⟨g1, f1, e1⟩ := kX9_us1 (L := L) (xs := xs) (t := t) (x := x) (h := h) hlt h7 30 1 g b (by omega) (by omega) hb2 (by omega) hT hG hR
    have hle := us1_le (P := unp H G R kd gv rs w f l rh rd rt row h) (h := h) (by omega) 30 1 b (by omega) ⟨hb2, by omega⟩
    obtain ⟨g2, f2, e2⟩ := kX9_us2 (x := x) h7 e (h + 1) g1 (us1 (unp H G R kd gv rs w f l rh rd rt row h) h 30 1 b) (some (.int (nI 31))) (by omega) hle.1 (by omega) (f1.town hT) (f1.guests hG) (f1.reads hR)
    refine ⟨g2, f1.tr f2, ?_⟩
    rw [sX9_unseen_31]
    simp (disch := omega) only [sX9_unseen_33, sX9_unseen_34, sX9_unseen_37, sX9_unseen_40, sX9_unseen_41, ↓reduceIte, if_true, if_false, Option.bind_some, Option.bind_none, Option.toList_some, Option.toList_none, List.cons_append, List.nil_append, Option.elim_some, true_or, or_true, or_false, false_or, true_and, and_true, and_false, false_and, zio1, zio0, zio01, not_true_eq_false, not_false_eq_true, nlt, neq, nlt0, n0lt, neq0, neq1, nm9, m9n, nadd, nadd1, nmul, ncl, zin_t, t1, hlt]
    rw [show (1 : Int32) = nI 1 by decide, e1]
    simp (disch := omega) only [sX9_unseen_99, sX9_unseen_102, ↓reduceIte, if_true, if_false, Option.bind_some, Option.bind_none, Option.toList_some, Option.toList_none, List.cons_append, List.nil_append, Option.elim_some, true_or, or_true, or_false, false_or, true_and, and_true, and_false, false_and, zio1, zio0, zio01, not_true_eq_false, not_false_eq_true, nlt, neq, nlt0, n0lt, neq0, neq1, nm9, m9n, nadd, nadd1, nmul, ncl, zin_t]
    exact e2
theorem qX9_unseen (hT : MTn g H S kd bd gv rs dr) (hG : MGs g H G w f l row) (hR : MRs g H R rh rd rt) {x : Int32} : ∃ g', fr g g' ∧ go L xs 144 69 0 [some (.ref 45), some (.int x), none, none, none, none] [] (hp g t) = some (some (.int (if 0 ≤ x.toInt ∧ x.toInt ≤ 1 then (if H = 0 then -3 else if x = 0 then nI (us2 (unp H G R kd gv rs w f l rh rd rt row) H 0 (0, 0)).1 else if (us2 (unp H G R kd gv rs w f l rh rd rt row) H 0 (0, 0)).1 = 0 then -9 else nI (us2 (unp H G R kd gv rs w f l rh rd rt row) H 0 (0, 0)).2) else -2)), hp g' t) := by
  have hin := kX9_inI (L := L) (xs := xs) (g := g) (t := t) (x := x) (b := 0) (c := 1) (lo := 0) (hi := 1) (by decide) (by decide)
  have t1 := hT.1
  have t2 := hT.2.1
  by_cases q : 0 ≤ x.toInt ∧ x.toInt ≤ 1
  · rw [if_pos q] at hin ⊢
    by_cases q2 : H = 0
    · refine ⟨g, fr.rf, ?_⟩
      simp (disch := omega) only [sX9_unseen_0, sX9_unseen_1, sX9_unseen_2, sX9_unseen_3, sX9_unseen_4, sX9_unseen_7, sX9_unseen_10, sX9_unseen_12, sX9_unseen_13, sX9_unseen_14, sX9_unseen_17, sX9_unseen_20, sX9_unseen_22, ↓reduceIte, if_true, if_false, Option.bind_some, Option.bind_none, Option.toList_some, Option.toList_none, List.cons_append, List.nil_append, Option.elim_some, true_or, or_true, or_false, false_or, true_and, and_true, and_false, false_and, zio1, zio0, zio01, not_true_eq_false, not_false_eq_true, nlt, neq, nlt0, n0lt, neq0, neq1, nm9, m9n, nadd, nadd1, nmul, ncl, zin_t, hin, t1, q2, nI_0]
    · obtain ⟨g2, f2, e2⟩ := kX9_us2 (L := L) (xs := xs) (t := t) (x := x) t2 H 0 g (0, 0) none (by omega) (by dsimp only; omega) (by dsimp only; omega) hT hG hR
      refine ⟨g2, f2, ?_⟩
      dsimp only at e2
      rw [nI_0, if_pos rfl] at e2
      rw [if_neg q2, ← e2]
      simp (disch := omega) only [sX9_unseen_0, sX9_unseen_1, sX9_unseen_2, sX9_unseen_3, sX9_unseen_4, sX9_unseen_7, sX9_unseen_10, sX9_unseen_12, sX9_unseen_13, sX9_unseen_14, sX9_unseen_17, sX9_unseen_20, sX9_unseen_22, sX9_unseen_23, sX9_unseen_24, sX9_unseen_25, sX9_unseen_27, sX9_unseen_28, sX9_unseen_29, ↓reduceIte, if_true, if_false, Option.bind_some, Option.bind_none, Option.toList_some, Option.toList_none, List.cons_append, List.nil_append, Option.elim_some, true_or, or_true, or_false, false_or, true_and, and_true, and_false, false_and, zio1, zio0, zio01, not_true_eq_false, not_false_eq_true, nlt, neq, nlt0, n0lt, neq0, neq1, nm9, m9n, nadd, nadd1, nmul, ncl, zin_t, hin, t1, q2]
  · rw [if_neg q] at hin ⊢
    refine ⟨g, fr.rf, ?_⟩
    simp (disch := omega) only [sX9_unseen_0, sX9_unseen_1, sX9_unseen_2, sX9_unseen_3, sX9_unseen_4, sX9_unseen_7, sX9_unseen_10, sX9_unseen_12, sX9_unseen_13, sX9_unseen_14, sX9_unseen_17, sX9_unseen_20, sX9_unseen_22, ↓reduceIte, if_true, if_false, Option.bind_some, Option.bind_none, Option.toList_some, Option.toList_none, List.cons_append, List.nil_append, Option.elim_some, true_or, or_true, or_false, false_or, true_and, and_true, and_false, false_and, zio1, zio0, zio01, not_true_eq_false, not_false_eq_true, nlt, neq, nlt0, n0lt, neq0, neq1, nm9, m9n, nadd, nadd1, nmul, ncl, zin_t, hin]
end M12
