/-! The reference: rounds, settles, after. -/
section M16
variable {L : Nat} {xs : Nat → Int32} {g g' : Nat → Nat → Int32} {t : Nat → Int64}
variable {H S G R : Nat} {kd bd gv rs dr w f l rh rd rt : Nat → Nat} {row : Nat → Int32}
/-- one guest's turn of a round -/
def rn1 (H G : Nat) (kd bd gv rs w f l : Nat → Nat) (s : (Nat → Int32) × Bool) (k : Nat) : (Nat → Int32) × Bool := if s.1 k = -9 then s else (ru s.1 k (nI (mvb H G kd bd gv rs w f l s.1 k (s.1 k).toInt.toNat)), s.2 || !decide (mvb H G kd bd gv rs w f l s.1 k (s.1 k).toInt.toNat = (s.1 k).toInt.toNat))
def rnd (H G : Nat) (kd bd gv rs w f l : Nat → Nat) : Nat → Nat → (Nat → Int32) × Bool → (Nat → Int32) × Bool
  | 0, _, s => s
  | e + 1, k, s => rnd H G kd bd gv rs w f l e (k + 1) (rn1 H G kd bd gv rs w f l s k)
theorem okr.hs (h : okr H G row) {k : Nat} (hk : k < G) (q : ¬ row k = -9) (h7 : H ≤ 7) : ∃ m, m < H ∧ row k = nI m ∧ (row k).toInt.toNat = m := by
  obtain ⟨m, a, b⟩ := (h k hk).resolve_left q
  refine ⟨m, a, b, ?_⟩
  rw [b, nI_toInt (by omega)]
  omega
theorem rn1_ok {s : (Nat → Int32) × Bool} (h7 : H ≤ 7) (h : okr H G s.1) {k : Nat} (hk : k < G) : okr H G (rn1 H G kd bd gv rs w f l s k).1 := by
  unfold rn1
  split
  · exact h
  · rename_i q
    obtain ⟨m, a, b, c⟩ := h.hs hk q h7
    rw [c]
    exact h.ru (mvb_lt a)
theorem rnd_ok (h7 : H ≤ 7) : ∀ e k (s : (Nat → Int32) × Bool), k + e = G → okr H G s.1 → okr H G (rnd H G kd bd gv rs w f l e k s).1
  | 0, _, s, _, h => h
  | e + 1, k, s, hk, h => rnd_ok h7 e (k + 1) _ (by omega) (rn1_ok h7 h (by omega))
theorem kX9_gr_loop : ∀ e k (g : Nat → Nat → Int32) (s : (Nat → Int32) × Bool), k + e = G → MTn g H S kd bd gv rs dr → MGs g H G w f l s.1 → ∃ g', fq G g g' ∧ MGs g' H G w f l (rnd H G kd bd gv rs w f l e k s).1 ∧ go L xs 149 69 4 [some (.ref 45), some (.int (if s.2 = true then 1 else 0)), some (.int (nI k))] [] (hp g t) = some (some (.int (if (rnd H G kd bd gv rs w f l e k s).2 = true then 1 else 0)), hp g' t)
  | 0, k, g, s, hk, hT, hG => by
    have hk : k = G := by omega
    subst hk
    have g1 := hG.1
    have g8 := hG.2.1
    refine ⟨g, fq.rf, hG, ?_⟩
    have hz : ((if s.2 = true then (1 : Int32) else 0) = 0 ∨ (if s.2 = true then (1 : Int32) else 0) = 1) := by split <;> simp
    simp (disch := omega) only [sX9_goRound_4, sX9_goRound_5, sX9_goRound_6, sX9_goRound_9, sX9_goRound_39, sX9_goRound_40, ↓reduceIte, if_true, if_false, Option.bind_some, Option.bind_none, Option.toList_some, Option.toList_none, List.cons_append, List.nil_append, Option.elim_some, true_or, or_true, or_false, false_or, true_and, and_true, and_false, false_and, zio1, zio0, zio01, not_true_eq_false, not_false_eq_true, nlt, neq, nlt0, n0lt, neq0, neq1, nm9, m9n, nadd, nadd1, nmul, ncl, zin_t, g1, Nat.lt_irrefl, eq_true hz, rnd]
    rfl
  | e + 1, k, g, s, hk, hT, hG => by
    have g1 := hG.1
    have g8 := hG.2.1
    have h7 := hT.2.1
    have q : k < G := by omega
    have e3 := hG.g56 q
    unfold rnd
    by_cases q1 : s.1 k = -9
    · have er : rn1 H G kd bd gv rs w f l s k = s := if_pos q1
      rw [er]
      obtain ⟨g', a1, a2, a3⟩ := kX9_gr_loop e (k + 1) g s (by omega) hT hG
      refine ⟨g', a1, a2, ?_⟩
      rw [← a3, sX9_goRound_4]
      simp (disch := omega) only [sX9_goRound_5, sX9_goRound_6, sX9_goRound_9, sX9_goRound_12, sX9_goRound_13, sX9_goRound_16, sX9_goRound_17, sX9_goRound_18, sX9_goRound_20, sX9_goRound_23, sX9_goRound_24, sX9_goRound_25, sX9_goRound_28, sX9_goRound_31, sX9_goRound_32, sX9_goRound_33, sX9_goRound_36, ↓reduceIte, if_true, if_false, Option.bind_some, Option.bind_none, Option.toList_some, Option.toList_none, List.cons_append, List.nil_append, Option.elim_some, true_or, or_true, or_false, false_or, true_and, and_true, and_false, false_and, zio1, zio0, zio01, not_true_eq_false, not_false_eq_true, nlt, neq, nlt0, n0lt, neq0, neq1, nm9, m9n, nadd, nadd1, nmul, ncl, zin_t, g1, q, e3, q1]
    · have er : rn1 H G kd bd gv rs w f l s k = (ru s.1 k (nI (mvb H G kd bd gv rs w f l s.1 k (s.1 k).toInt.toNat)), s.2 || !decide (mvb H G kd bd gv rs w f l s.1 k (s.1 k).toInt.toNat = (s.1 k).toInt.toNat)) := if_neg q1
      obtain ⟨m, c1, c2, c3⟩ := hG.okr.hs q q1 h7
      rw [c3] at er
      rw [er]
      obtain ⟨g1', b1, b2, b3⟩ := kX9_moves (L := L) (xs := xs) (t := t) hT hG q c1 c2
      obtain ⟨g', a1, a2, a3⟩ := kX9_gr_loop e (k + 1) g1' (ru s.1 k (nI (mvb H G kd bd gv rs w f l s.1 k m)), s.2 || !decide (mvb H G kd bd gv rs w f l s.1 k m = m)) (by omega) (b1.town hT) b2
      refine ⟨g', b1.tr a1, a2, ?_⟩
      rw [← a3, sX9_goRound_4]
      by_cases q2 : mvb H G kd bd gv rs w f l s.1 k m = m
      · rw [if_pos q2] at b3
        simp (disch := omega) only [sX9_goRound_5, sX9_goRound_6, sX9_goRound_9, sX9_goRound_12, sX9_goRound_13, sX9_goRound_16, sX9_goRound_17, sX9_goRound_18, sX9_goRound_20, sX9_goRound_23, sX9_goRound_24, sX9_goRound_25, sX9_goRound_28, sX9_goRound_31, sX9_goRound_32, sX9_goRound_33, sX9_goRound_36, ↓reduceIte, if_true, if_false, Option.bind_some, Option.bind_none, Option.toList_some, Option.toList_none, List.cons_append, List.nil_append, Option.elim_some, true_or, or_true, or_false, false_or, true_and, and_true, and_false, false_and, zio1, zio0, zio01, not_true_eq_false, not_false_eq_true, nlt, neq, nlt0, n0lt, neq0, neq1, nm9, m9n, nadd, nadd1, nmul, ncl, zin_t, g1, q, e3, q1, b3, q2, decide_true, Bool.not_true, Bool.or_false]
      · rw [if_neg q2] at b3
        simp (disch := omega) only [sX9_goRound_5, sX9_goRound_6, sX9_goRound_9, sX9_goRound_12, sX9_goRound_13, sX9_goRound_16, sX9_goRound_17, sX9_goRound_18, sX9_goRound_20, sX9_goRound_23, sX9_goRound_24, sX9_goRound_25, sX9_goRound_28, sX9_goRound_31, sX9_goRound_32, sX9_goRound_33, sX9_goRound_36, ↓reduceIte, if_true, if_false, Option.bind_some, Option.bind_none, Option.toList_some, Option.toList_none, List.cons_append, List.nil_append, Option.elim_some, true_or, or_true, or_false, false_or, true_and, and_true, and_false, false_and, zio1, zio0, zio01, not_true_eq_false, not_false_eq_true, nlt, neq, nlt0, n0lt, neq0, neq1, nm9, m9n, nadd, nadd1, nmul, ncl, zin_t, g1, q, e3, q1, b3, q2, decide_false, Bool.not_false, Bool.or_true]
/-- one round -/
abbrev rd1 (H G : Nat) (kd bd gv rs w f l : Nat → Nat) (row : Nat → Int32) : (Nat → Int32) × Bool := rnd H G kd bd gv rs w f l G 0 (row, false)
theorem kX9_goRound (hT : MTn g H S kd bd gv rs dr) (hG : MGs g H G w f l row) : ∃ g', fq G g g' ∧ MGs g' H G w f l (rd1 H G kd bd gv rs w f l row).1 ∧ go L xs 149 69 0 [some (.ref 45), none, none] [] (hp g t) = some (some (.int (if (rd1 H G kd bd gv rs w f l row).2 = true then 1 else 0)), hp g' t) := by
  obtain ⟨g', a1, a2, a3⟩ := kX9_gr_loop (L := L) (xs := xs) (t := t) (S := S) (dr := dr) G 0 g (row, false) (by omega) hT hG
  refine ⟨g', a1, a2, ?_⟩
  rw [← a3]
  simp (disch := omega) only [sX9_goRound_0, sX9_goRound_1, sX9_goRound_2, sX9_goRound_3, ↓reduceIte, if_true, if_false, Option.bind_some, Option.bind_none, Option.toList_some, Option.toList_none, List.cons_append, List.nil_append, Option.elim_some, true_or, or_true, or_false, false_or, true_and, and_true, and_false, false_and, zio1, zio0, zio01, not_true_eq_false, not_false_eq_true, nlt, neq, nlt0, n0lt, neq0, neq1, nm9, m9n, nadd, nadd1, nmul, ncl, zin_t, nI_0, Bool.false_eq_true]
/-- as fr, but the kept rows may change too -/
def fv (g g' : Nat → Nat → Int32) : Prop := (∀ a, a < 57 → a ≠ 45 → a ≠ 51 → a ≠ 52 → g' a = g a) ∧ (∀ a, 62 ≤ a → a < 68 → g' a = g a) ∧ (∀ q, q < 8 ∨ (10 < q ∧ q < 21) ∨ 24 < q → g' 45 q = g 45 q)
theorem fr.fv (h : fr g g') : fv g g' := ⟨h.1, fun a x1 x2 => h.2.1 a (by omega) x2, h.2.2⟩
/-- when rounds end -/
def stl (H G : Nat) (kd bd gv rs w f l : Nat → Nat) : Nat → Nat → (Nat → Int32) → Option Nat
  | 0, _, _ => none
  | e + 1, r, row => if (rd1 H G kd bd gv rs w f l row).2 = true then stl H G kd bd gv rs w f l e (r + 1) (rd1 H G kd bd gv rs w f l row).1 else some r
def itr (H G : Nat) (kd bd gv rs w f l : Nat → Nat) (row : Nat → Int32) : Nat → Nat → Int32
  | 0 => row
  | r + 1 => (rd1 H G kd bd gv rs w f l (itr H G kd bd gv rs w f l row r)).1
theorem itr_ok (h7 : H ≤ 7) (h : okr H G row) : ∀ r, okr H G (itr H G kd bd gv rs w f l row r)
  | 0 => h
  | r + 1 => rnd_ok h7 G 0 _ (by omega) (itr_ok h7 h r)
def stv (o : Option Nat) : Int32 := match o with
  | some q => nI q
  | none => -9
theorem kX9_st_loop {row0 : Nat → Int32} : ∀ e r (g : Nat → Nat → Int32) (row : Nat → Int32), r + e = 50 → MTn g H S kd bd gv rs dr → MGs g H G w f l row → ∃ g' row', fq G g g' ∧ MGs g' H G w f l row' ∧ ∃ x2, go L xs 150 69 19 [some (.ref 45), some (.int (-9)), some (.int (nI (r + 1)))] [] (hp g t) = go L xs 150 69 51 [some (.ref 45), some (.int (stv (stl H G kd bd gv rs w f l e r row))), x2] [] (hp g' t)
  | 0, r, g, row, hr, hT, hG => by
    have hr : r = 50 := by omega
    subst hr
    refine ⟨g, row, fq.rf, hG, some (.int (nI 51)), ?_⟩
    simp (disch := omega) only [sX9_settles_19, sX9_settles_20, sX9_settles_22, ↓reduceIte, if_true, if_false, Option.bind_some, Option.bind_none, Option.toList_some, Option.toList_none, List.cons_append, List.nil_append, Option.elim_some, true_or, or_true, or_false, false_or, true_and, and_true, and_false, false_and, zio1, zio0, zio01, not_true_eq_false, not_false_eq_true, nlt, neq, nlt0, n0lt, neq0, neq1, nm9, m9n, nadd, nadd1, nmul, ncl, zin_t, li50, (show 50 < 51 by omega), stl, stv]
  | e + 1, r, g, row, hr, hT, hG => by
    have q : ¬ 50 < r + 1 := by omega
    obtain ⟨g1, b1, b2, b3⟩ := kX9_goRound (L := L) (xs := xs) (t := t) hT hG
    unfold stl
    by_cases q1 : (rd1 H G kd bd gv rs w f l row).2 = true
    · rw [if_pos q1] at b3 ⊢
      obtain ⟨g2, row', c1, c2, x2, c3⟩ := kX9_st_loop (row0 := row0) e (r + 1) g1 (rd1 H G kd bd gv rs w f l row).1 (by omega) (b1.town hT) b2
      refine ⟨g2, row', b1.tr c1, c2, x2, ?_⟩
      rw [← c3, sX9_settles_19]
      simp (disch := omega) only [sX9_settles_20, sX9_settles_22, sX9_settles_25, sX9_settles_26, sX9_settles_29, sX9_settles_30, sX9_settles_33, sX9_settles_36, sX9_settles_38, sX9_settles_41, sX9_settles_42, sX9_settles_43, sX9_settles_44, sX9_settles_45, sX9_settles_48, ↓reduceIte, if_true, if_false, Option.bind_some, Option.bind_none, Option.toList_some, Option.toList_none, List.cons_append, List.nil_append, Option.elim_some, true_or, or_true, or_false, false_or, true_and, and_true, and_false, false_and, zio1, zio0, zio01, not_true_eq_false, not_false_eq_true, nlt, neq, nlt0, n0lt, neq0, neq1, nm9, m9n, nadd, nadd1, nmul, ncl, zin_t, li50, q, m9lt, b3]
    · rw [if_neg q1] at b3 ⊢
      refine ⟨g1, _, b1, b2, some (.int (nI (r + 1 + 1))), ?_⟩
      by_cases q2 : 50 < r + 1 + 1
      · simp (disch := omega) only [sX9_settles_19, sX9_settles_20, sX9_settles_22, sX9_settles_25, sX9_settles_26, sX9_settles_29, sX9_settles_30, sX9_settles_33, sX9_settles_36, sX9_settles_38, sX9_settles_41, sX9_settles_42, sX9_settles_43, sX9_settles_44, sX9_settles_45, sX9_settles_48, ↓reduceIte, if_true, if_false, Option.bind_some, Option.bind_none, Option.toList_some, Option.toList_none, List.cons_append, List.nil_append, Option.elim_some, true_or, or_true, or_false, false_or, true_and, and_true, and_false, false_and, zio1, zio0, zio01, not_true_eq_false, not_false_eq_true, nlt, neq, nlt0, n0lt, neq0, neq1, nm9, m9n, nadd, nadd1, nmul, ncl, zin_t, li50, q, m9lt, b3, nsub1, Nat.add_sub_cancel, q2, stv]
      · simp (disch := omega) only [sX9_settles_19, sX9_settles_20, sX9_settles_22, sX9_settles_25, sX9_settles_26, sX9_settles_29, sX9_settles_30, sX9_settles_33, sX9_settles_36, sX9_settles_38, sX9_settles_41, sX9_settles_42, sX9_settles_43, sX9_settles_44, sX9_settles_45, sX9_settles_48, ↓reduceIte, if_true, if_false, Option.bind_some, Option.bind_none, Option.toList_some, Option.toList_none, List.cons_append, List.nil_append, Option.elim_some, true_or, or_true, or_false, false_or, true_and, and_true, and_false, false_and, zio1, zio0, zio01, not_true_eq_false, not_false_eq_true, nlt, neq, nlt0, n0lt, neq0, neq1, nm9, m9n, nadd, nadd1, nmul, ncl, zin_t, li50, q, m9lt, b3, nsub1, Nat.add_sub_cancel, q2, stv]
theorem back_row {g1 g2 g3 : Nat → Nat → Int32} (a1 : ∀ a, a ≠ 60 → g1 a = g a) (F : fq G g1 g2) (c1 : ∀ a, a ≠ 56 → g3 a = g2 a) (c2 : ∀ j, j < G → g3 56 j = row j) (c3 : ∀ j, G ≤ j → g3 56 j = g2 56 j) (hG : MGs g H G w f l row) : fv g g3 := by
  refine ⟨fun a x1 x2 x3 x4 => ?_, fun a x1 x2 => ?_, fun q hq => ?_⟩
  · by_cases q : a = 56
    · subst q
      funext j
      by_cases q2 : j < G
      · rw [c2 j q2, hG.g56 q2]
      · rw [c3 j (by omega), F.2.2.2 j (by omega), a1 56 (by omega)]
    · rw [c1 a q, F.1 a x1 x2 x3 x4 q, a1 a (by omega)]
  · rw [c1 a (by omega), F.2.1 a (by omega) x2, a1 a (by omega)]
  · rw [c1 45 (by omega), F.2.2.1 q hq, a1 45 (by omega)]
theorem MGs.k60 {g1 : Nat → Nat → Int32} (hG : MGs g H G w f l row) (a1 : ∀ a, a ≠ 60 → g1 a = g a) : MGs g1 H G w f l row := by
  unfold MGs
  rw [a1 45 (by omega), a1 53 (by omega), a1 54 (by omega), a1 55 (by omega), a1 56 (by omega)]
  exact hG
theorem MTn.k60 {g1 : Nat → Nat → Int32} (hT : MTn g H S kd bd gv rs dr) (a1 : ∀ a, a ≠ 60 → g1 a = g a) : MTn g1 H S kd bd gv rs dr := hT.tr (fun a ha => a1 a (by omega))
theorem qX9_settles (hT : MTn g H S kd bd gv rs dr) (hG : MGs g H G w f l row) : ∃ g', fv g g' ∧ go L xs 150 69 0 [some (.ref 45), none, none] [] (hp g t) = some (some (.int (if H = 0 then -3 else stv (stl H G kd bd gv rs w f l 50 0 row))), hp g' t) := by
  have t1 := hT.1
  have t2 := hT.2.1
  by_cases q : H = 0
  · refine ⟨g, fr.rf.fv, ?_⟩
    rw [if_pos q]
    simp (disch := omega) only [sX9_settles_0, sX9_settles_1, sX9_settles_4, sX9_settles_7, sX9_settles_9, ↓reduceIte, if_true, if_false, Option.bind_some, Option.bind_none, Option.toList_some, Option.toList_none, List.cons_append, List.nil_append, Option.elim_some, true_or, or_true, or_false, false_or, true_and, and_true, and_false, false_and, zio1, zio0, zio01, not_true_eq_false, not_false_eq_true, nlt, neq, nlt0, n0lt, neq0, neq1, nm9, m9n, nadd, nadd1, nmul, ncl, zin_t, t1, q, nI_0]
  · rw [if_neg q]
    obtain ⟨g1, a1, a2, a3⟩ := kX9_keepHouses (L := L) (xs := xs) (t := t) hG
    obtain ⟨g2, row', b1, b2, x2, b3⟩ := kX9_st_loop (L := L) (xs := xs) (t := t) (S := S) (dr := dr) (kd := kd) (bd := bd) (gv := gv) (rs := rs) (row0 := row) 50 0 g1 row (by omega) (hT.k60 a1) (hG.k60 a1)
    obtain ⟨g3, c1, c2, c3, c4⟩ := kX9_takeHouses (L := L) (xs := xs) (t := t) (r := row) hG.2.1 b2.1 (fun j hj => by rw [b1.2.1 60 (by omega) (by omega)]; exact a2 j hj)
    refine ⟨g3, back_row a1 b1 c1 c2 c3 hG, ?_⟩
    rw [show nI (0 + 1) = 1 by decide] at b3
    simp (disch := omega) only [sX9_settles_0, sX9_settles_1, sX9_settles_4, sX9_settles_7, sX9_settles_9, sX9_settles_10, sX9_settles_11, sX9_settles_14, sX9_settles_16, sX9_settles_17, sX9_settles_18, ↓reduceIte, if_true, if_false, Option.bind_some, Option.bind_none, Option.toList_some, Option.toList_none, List.cons_append, List.nil_append, Option.elim_some, true_or, or_true, or_false, false_or, true_and, and_true, and_false, false_and, zio1, zio0, zio01, not_true_eq_false, not_false_eq_true, nlt, neq, nlt0, n0lt, neq0, neq1, nm9, m9n, nadd, nadd1, nmul, ncl, zin_t, t1, q, a3]
    rw [b3]
    simp (disch := omega) only [sX9_settles_51, sX9_settles_52, sX9_settles_55, sX9_settles_56, ↓reduceIte, if_true, if_false, Option.bind_some, Option.bind_none, Option.toList_some, Option.toList_none, List.cons_append, List.nil_append, Option.elim_some, true_or, or_true, or_false, false_or, true_and, and_true, and_false, false_and, zio1, zio0, zio01, not_true_eq_false, not_false_eq_true, nlt, neq, nlt0, n0lt, neq0, neq1, nm9, m9n, nadd, nadd1, nmul, ncl, zin_t, c4]
theorem kX9_af_loop {k m : Nat} (hm : m ≤ 50) : ∀ e r (g : Nat → Nat → Int32), r + e = m → MTn g H S kd bd gv rs dr → MGs g H G w f l (itr H G kd bd gv rs w f l row r) → ∃ g', fq G g g' ∧ MGs g' H G w f l (itr H G kd bd gv rs w f l row m) ∧ go L xs 151 69 31 [some (.ref 45), some (.int (nI k)), some (.int (nI m)), some (.int (nI r))] [] (hp g t) = go L xs 151 69 47 [some (.ref 45), some (.int (nI k)), some (.int (nI m)), some (.int (nI m))] [] (hp g' t)
  | 0, r, g, hr, hT, hG => by
    have hr : r = m := by omega
    subst hr
    refine ⟨g, fq.rf, hG, ?_⟩
    simp (disch := omega) only [sX9_after_31, sX9_after_32, sX9_after_33, ↓reduceIte, if_true, if_false, Option.bind_some, Option.bind_none, Option.toList_some, Option.toList_none, List.cons_append, List.nil_append, Option.elim_some, true_or, or_true, or_false, false_or, true_and, and_true, and_false, false_and, zio1, zio0, zio01, not_true_eq_false, not_false_eq_true, nlt, neq, nlt0, n0lt, neq0, neq1, nm9, m9n, nadd, nadd1, nmul, ncl, zin_t, Nat.lt_irrefl]
  | e + 1, r, g, hr, hT, hG => by
    have q : r < m := by omega
    obtain ⟨g1, b1, b2, b3⟩ := kX9_goRound (L := L) (xs := xs) (t := t) hT hG
    obtain ⟨g2, c1, c2, c3⟩ := kX9_af_loop (k := k) hm e (r + 1) g1 (by omega) (b1.town hT) b2
    refine ⟨g2, b1.tr c1, c2, ?_⟩
    rw [← c3, sX9_after_31]
    simp (disch := omega) only [sX9_after_32, sX9_after_33, sX9_after_36, sX9_after_37, sX9_after_40, sX9_after_41, sX9_after_44, ↓reduceIte, if_true, if_false, Option.bind_some, Option.bind_none, Option.toList_some, Option.toList_none, List.cons_append, List.nil_append, Option.elim_some, true_or, or_true, or_false, false_or, true_and, and_true, and_false, false_and, zio1, zio0, zio01, not_true_eq_false, not_false_eq_true, nlt, neq, nlt0, n0lt, neq0, neq1, nm9, m9n, nadd, nadd1, nmul, ncl, zin_t, q, b3]
theorem qX9_after (hT : MTn g H S kd bd gv rs dr) (hG : MGs g H G w f l row) {x y : Int32} : ∃ g', fv g g' ∧ go L xs 151 69 0 [some (.ref 45), some (.int x), some (.int y), none] [] (hp g t) = some (some (.int (if 0 ≤ x.toInt ∧ x.toInt < G then (if 0 ≤ y.toInt ∧ y.toInt ≤ 50 then itr H G kd bd gv rs w f l row y.toInt.toNat x.toInt.toNat else -2) else -1)), hp g' t) := by
  have h1 := kX9_nG (L := L) (xs := xs) (t := t) (x := x) hG
  have hin := kX9_inI (L := L) (xs := xs) (g := g) (t := t) (x := y) (b := 0) (c := 50) (lo := 0) (hi := 50) (by decide) (by decide)
  have g8 := hG.2.1
  by_cases q1 : 0 ≤ x.toInt ∧ x.toInt < G
  · rw [if_pos q1] at h1 ⊢
    by_cases q2 : 0 ≤ y.toInt ∧ y.toInt ≤ 50
    · rw [if_pos q2] at hin ⊢
      have hx := nI_back q1.1
      have hy := nI_back q2.1
      generalize hk : x.toInt.toNat = k at hx
      generalize hm : y.toInt.toNat = m at hy
      subst hx hy
      obtain ⟨g1, a1, a2, a3⟩ := kX9_keepHouses (L := L) (xs := xs) (t := t) hG
      obtain ⟨g2, b1, b2, b3⟩ := kX9_af_loop (L := L) (xs := xs) (t := t) (S := S) (dr := dr) (kd := kd) (bd := bd) (gv := gv) (rs := rs) (row := row) (k := k) (m := m) (by omega) m 0 g1 (by omega) (hT.k60 a1) (hG.k60 a1)
      obtain ⟨g3, c1, c2, c3, c4⟩ := kX9_takeHouses (L := L) (xs := xs) (t := t) (r := row) hG.2.1 b2.1 (fun j hj => by rw [b1.2.1 60 (by omega) (by omega)]; exact a2 j hj)
      refine ⟨g3, back_row a1 b1 c1 c2 c3 hG, ?_⟩
      have e3 := b2.g56 (show k < G by omega)
      rw [nI_0] at b3
      simp (disch := omega) only [sX9_after_0, sX9_after_1, sX9_after_2, sX9_after_5, sX9_after_8, sX9_after_9, sX9_after_10, sX9_after_11, sX9_after_12, sX9_after_13, sX9_after_16, sX9_after_19, sX9_after_22, sX9_after_24, sX9_after_25, sX9_after_26, sX9_after_29, sX9_after_30, ↓reduceIte, if_true, if_false, Option.bind_some, Option.bind_none, Option.toList_some, Option.toList_none, List.cons_append, List.nil_append, Option.elim_some, true_or, or_true, or_false, false_or, true_and, and_true, and_false, false_and, zio1, zio0, zio01, not_true_eq_false, not_false_eq_true, nlt, neq, nlt0, n0lt, neq0, neq1, nm9, m9n, nadd, nadd1, nmul, ncl, zin_t, h1, hin, a3]
      rw [b3]
      simp (disch := omega) only [sX9_after_47, sX9_after_48, sX9_after_51, sX9_after_52, sX9_after_53, sX9_after_54, sX9_after_55, sX9_after_58, sX9_after_59, ↓reduceIte, if_true, if_false, Option.bind_some, Option.bind_none, Option.toList_some, Option.toList_none, List.cons_append, List.nil_append, Option.elim_some, true_or, or_true, or_false, false_or, true_and, and_true, and_false, false_and, zio1, zio0, zio01, not_true_eq_false, not_false_eq_true, nlt, neq, nlt0, n0lt, neq0, neq1, nm9, m9n, nadd, nadd1, nmul, ncl, zin_t, c4, e3]
    · rw [if_neg q2] at hin ⊢
      refine ⟨g, fr.rf.fv, ?_⟩
      simp (disch := omega) only [sX9_after_0, sX9_after_1, sX9_after_2, sX9_after_5, sX9_after_8, sX9_after_9, sX9_after_10, sX9_after_11, sX9_after_12, sX9_after_13, sX9_after_16, sX9_after_19, sX9_after_22, sX9_after_24, ↓reduceIte, if_true, if_false, Option.bind_some, Option.bind_none, Option.toList_some, Option.toList_none, List.cons_append, List.nil_append, Option.elim_some, true_or, or_true, or_false, false_or, true_and, and_true, and_false, false_and, zio1, zio0, zio01, not_true_eq_false, not_false_eq_true, h1, hin]
  · rw [if_neg q1] at h1 ⊢
    refine ⟨g, fr.rf.fv, ?_⟩
    simp (disch := omega) only [sX9_after_0, sX9_after_1, sX9_after_2, sX9_after_5, sX9_after_8, sX9_after_9, sX9_after_10, sX9_after_11, sX9_after_12, sX9_after_13, sX9_after_16, sX9_after_19, sX9_after_22, sX9_after_24, ↓reduceIte, if_true, if_false, Option.bind_some, Option.bind_none, Option.toList_some, Option.toList_none, List.cons_append, List.nil_append, Option.elim_some, true_or, or_true, or_false, false_or, true_and, and_true, and_false, false_and, zio1, zio0, zio01, not_true_eq_false, not_false_eq_true, h1]
end M16
