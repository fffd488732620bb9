/-! The reference: lodgings. -/
section M17
variable {L : Nat} {xs : Nat → Int32} {g g' : Nat → Nat → Int32} {t : Nat → Int64}
variable {H S G R : Nat} {kd bd gv rs dr w f l rh rd rt : Nat → Nat} {row : Nat → Int32}
/-- the way of a number, as a row -/
def lay (H k : Nat) (row : Nat → Int32) (r : Nat) : Nat → Int32 := fun q => if q < k then nI (r / H ^ (k - 1 - q) % H) else row q
theorem nrem2 {a b : Nat} (ha : a < 2147483648) (hb : 0 < b) (hb2 : b < 2147483648) : nI a - nI (a / b * b) = nI (a % b) := by
  have := nrem ha hb hb2
  rwa [ndiv ha hb hb2, nmul] at this
theorem m1_e (x : Int32) : x + (-1) = x - 1 := by rw [Int32.sub_eq_add_neg]
theorem n0m1 : (nI 0 - 1 < 0) = True := by decide
theorem okr.la (h : okr H G row) {k r : Nat} (h0 : 0 < H) : okr H G (lay H k row r) := by
  intro j hj
  unfold lay
  split
  · exact Or.inr ⟨_, Nat.mod_lt _ h0, rfl⟩
  · exact h j hj
theorem kX9_ly_loop {k r : Nat} (hk : k ≤ 4) (hr : r < 3000) (h0 : 0 < H) (h7 : H ≤ 7) {x1 x2 x3 x4 x5 x8 : Option Value} : ∀ m (x : Int32) (g : Nat → Nat → Int32), m ≤ k → x = nI m - 1 → g 45 1 = nI H → (∀ q, m ≤ q → q < k → g 56 q = nI (r / H ^ (k - 1 - q) % H)) → ∃ g', (∀ a, a ≠ 56 → g' a = g a) ∧ (∀ q, q < k → g' 56 q = nI (r / H ^ (k - 1 - q) % H)) ∧ (∀ q, k ≤ q → g' 56 q = g 56 q) ∧ ∃ x6 x7, go L xs 137 69 90 [some (.ref 45), x1, x2, x3, x4, x5, some (.int (nI (r / H ^ (k - m)))), some (.int x), x8] [] (hp g t) = go L xs 137 69 124 [some (.ref 45), x1, x2, x3, x4, x5, x6, x7, x8] [] (hp g' t)
  | 0, x, g, hm, hx, t1, h56 => by
    subst hx
    refine ⟨g, fun _ _ => rfl, fun q hq => h56 q (by omega) hq, fun _ _ => rfl, some (.int (nI (r / H ^ (k - 0)))), some (.int (nI 0 - 1)), ?_⟩
    simp (disch := omega) only [sX9_lodgings_90, sX9_lodgings_92, ↓reduceIte, if_true, if_false, Option.bind_some, Option.bind_none, Option.toList_some, Option.toList_none, List.cons_append, List.nil_append, Option.elim_some, true_or, or_true, or_false, false_or, true_and, and_true, and_false, false_and, zio1, zio0, zio01, not_true_eq_false, not_false_eq_true, n0m1]
  | m + 1, x, g, hm, hx, t1, h56 => by
    rw [nsub1 (by omega), Nat.add_sub_cancel] at hx
    subst hx
    have hne : ¬ nI H = 0 := by rw [neq0 (by omega)]; omega
    have hle : r / H ^ (k - (m + 1)) ≤ r := Nat.div_le_self _ _
    have hd : nI (r / H ^ (k - (m + 1))) / nI H = nI (r / H ^ (k - m)) := by
      rw [ndiv (by omega) h0 (by omega), Nat.div_div_eq_div_mul, ← Nat.pow_succ, show (k - (m + 1)).succ = k - m by omega]
    have hdn : r / H ^ (k - (m + 1)) / H = r / H ^ (k - m) := by
      rw [Nat.div_div_eq_div_mul, ← Nat.pow_succ, show (k - (m + 1)).succ = k - m by omega]
    have hre : nI (r / H ^ (k - (m + 1))) - nI (r / H ^ (k - m) * H) = nI (r / H ^ (k - 1 - m) % H) := by
      rw [← hdn, nrem2 (by omega) h0 (by omega), show k - (m + 1) = k - 1 - m by omega]
    obtain ⟨g', a1, a2, a3, x6, x7, a4⟩ := kX9_ly_loop hk hr h0 h7 (x1 := x1) (x2 := x2) (x3 := x3) (x4 := x4) (x5 := x5) (x8 := x8) m (nI m - 1) (zu g 56 m (nI (r / H ^ (k - 1 - m) % H))) (by omega) rfl (by simpa [zu] using t1) (fun q hq1 hq2 => by
      by_cases q2 : q = m
      · subst q2; simp [zu]
      · simp [zu, q2, h56 q (by omega) hq2])
    refine ⟨g', fun a ha => (a1 a ha).trans (by funext q; simp [zu, ha]), a2, fun q hq => (a3 q hq).trans (by
      have : q ≠ m := by omega
      simp [zu, this]), x6, x7, ?_⟩
    rw [← a4, sX9_lodgings_90]
    simp (disch := omega) only [sX9_lodgings_92, sX9_lodgings_95, sX9_lodgings_96, sX9_lodgings_99, sX9_lodgings_101, sX9_lodgings_103, sX9_lodgings_104, sX9_lodgings_108, sX9_lodgings_109, sX9_lodgings_111, sX9_lodgings_112, sX9_lodgings_116, sX9_lodgings_118, sX9_lodgings_121, sX9_lodgings_107 hne, sX9_lodgings_115 hne, ↓reduceIte, if_true, if_false, Option.bind_some, Option.bind_none, Option.toList_some, Option.toList_none, List.cons_append, List.nil_append, Option.elim_some, true_or, or_true, or_false, false_or, true_and, and_true, and_false, false_and, zio1, zio0, zio01, not_true_eq_false, not_false_eq_true, nlt, neq, nlt0, n0lt, neq0, neq1, nm9, m9n, nadd, nadd1, nmul, ncl, zin_t, t1, hd, hre, m1_e, zuA, Nat.reduceEqDiff]
/-- as fq, but the best row may change too -/
def fl (G : Nat) (g g' : Nat → Nat → Int32) : Prop := (∀ a, a < 57 → a ≠ 45 → a ≠ 51 → a ≠ 52 → a ≠ 56 → g' a = g a) ∧ (∀ a, 60 ≤ a → a < 68 → a ≠ 61 → g' a = g a) ∧ (∀ q, q < 8 ∨ (10 < q ∧ q < 21) ∨ 24 < q → g' 45 q = g 45 q) ∧ ∀ j, G ≤ j → g' 56 j = g 56 j
theorem fl.tr {g1 g2 g3 : Nat → Nat → Int32} (h : fl G g1 g2) (h' : fl G g2 g3) : fl G g1 g3 := ⟨fun a x1 x2 x3 x4 x5 => (h'.1 a x1 x2 x3 x4 x5).trans (h.1 a x1 x2 x3 x4 x5), fun a x1 x2 x3 => (h'.2.1 a x1 x2 x3).trans (h.2.1 a x1 x2 x3), fun q hq => (h'.2.2.1 q hq).trans (h.2.2.1 q hq), fun j hj => (h'.2.2.2 j hj).trans (h.2.2.2 j hj)⟩
theorem fq.fl (h : fq G g g') : fl G g g' := ⟨h.1, fun a x1 x2 _ => h.2.1 a x1 x2, h.2.2.1, h.2.2.2⟩
theorem fl_61 (h : ∀ a, a ≠ 61 → g' a = g a) : fl G g g' := ⟨fun a x1 _ _ _ _ => h a (by omega), fun a x1 x2 x3 => h a x3, fun q _ => by rw [h 45 (by omega)], fun j _ => by rw [h 56 (by omega)]⟩
theorem kX9_br_loop {k : Nat} (hk : k ≤ 4) {r : Nat → Int32} {x2 x3 x4 x5 x6 x7 : Option Value} : ∀ e j (g : Nat → Nat → Int32), j + e = k → (∀ q, q < k → g 56 q = r q) → (∀ q, q < j → g 61 q = r q) → ∃ g', (∀ a, a ≠ 61 → g' a = g a) ∧ (∀ q, q < k → g' 61 q = r q) ∧ ∃ x8, go L xs 137 69 160 [some (.ref 45), some (.int (nI k)), x2, x3, x4, x5, x6, x7, some (.int (nI j))] [] (hp g t) = go L xs 137 69 186 [some (.ref 45), some (.int (nI k)), x2, x3, x4, x5, x6, x7, x8] [] (hp g' t)
  | 0, j, g, hj, h56, h61 => by
    have hj : j = k := by omega
    subst hj
    refine ⟨g, fun _ _ => rfl, h61, some (.int (nI j)), ?_⟩
    simp (disch := omega) only [sX9_lodgings_160, sX9_lodgings_162, sX9_lodgings_163, ↓reduceIte, if_true, if_false, Option.bind_some, Option.bind_none, Option.toList_some, Option.toList_none, List.cons_append, List.nil_append, Option.elim_some, true_or, or_true, or_false, false_or, true_and, and_true, and_false, false_and, zio1, zio0, zio01, not_true_eq_false, not_false_eq_true, nlt, neq, nlt0, n0lt, neq0, neq1, nm9, m9n, nadd, nadd1, nmul, ncl, zin_t, Nat.lt_irrefl]
  | e + 1, j, g, hj, h56, h61 => by
    have q : j < k := by omega
    have h5 := h56 j q
    obtain ⟨g', a1, a2, x8, a3⟩ := kX9_br_loop hk (r := r) (x2 := x2) (x3 := x3) (x4 := x4) (x5 := x5) (x6 := x6) (x7 := x7) e (j + 1) (zu g 61 j (r j)) (by omega) (fun q hq => by simpa [zu] using h56 q hq) (fun q hq => by
      by_cases q2 : q = j
      · subst q2; simp [zu]
      · simp [zu, q2, h61 q (by omega)])
    refine ⟨g', fun a ha => (a1 a ha).trans (by funext q; simp [zu, ha]), a2, x8, ?_⟩
    rw [← a3, sX9_lodgings_160]
    simp (disch := omega) only [sX9_lodgings_162, sX9_lodgings_163, sX9_lodgings_166, sX9_lodgings_167, sX9_lodgings_170, sX9_lodgings_172, sX9_lodgings_173, sX9_lodgings_176, sX9_lodgings_178, sX9_lodgings_179, sX9_lodgings_180, sX9_lodgings_183, ↓reduceIte, if_true, if_false, Option.bind_some, Option.bind_none, Option.toList_some, Option.toList_none, List.cons_append, List.nil_append, Option.elim_some, true_or, or_true, or_false, false_or, true_and, and_true, and_false, false_and, zio1, zio0, zio01, not_true_eq_false, not_false_eq_true, nlt, neq, nlt0, n0lt, neq0, neq1, nm9, m9n, nadd, nadd1, nmul, ncl, zin_t, q, h5]
/-- the answer of lodgings -/
def lga (H k : Nat) (row : Nat → Int32) (y : Int32) (b : Option (Nat × Nat)) : Int32 := match b with
  | none => -9
  | some q => if y < 0 then nI q.1 else lay H k row q.2 y.toInt.toNat
abbrev lgb (H G : Nat) (kd bd gv rs w f l : Nat → Nat) (S : Nat) (row : Nat → Int32) (k : Nat) : Nat → Nat → Option (Nat × Nat) → Option (Nat × Nat) := bst (fun r => hvb H G bd f l (lay H k row r) = true) (fun r => apl H S G kd gv rs w f l (lay H k row r) (-9) 0 0 0)
theorem kX9_lg_loop {k N : Nat} (hk : k ≤ 4) (hkG : k ≤ G) (hN : N < 3000) {x2 : Option Value} (okw : okr H G row) : ∀ e r (g : Nat → Nat → Int32) (rr : Nat → Int32) (b : Option (Nat × Nat)) (x6 x7 x8 : Option Value), r + e = N → (∀ q, b = some q → q.1 ≤ 300 ∧ ∀ j, j < k → g 61 j = lay H k row q.2 j) → (0 < e → 0 < H) → MTn g H S kd bd gv rs dr → MGs g H G w f l rr → (∀ q, k ≤ q → rr q = row q) → ∃ g' rr', fl G g g' ∧ MGs g' H G w f l rr' ∧ (∀ q, lgb H G kd bd gv rs w f l S row k e r b = some q → ∀ j, j < k → g' 61 j = lay H k row q.2 j) ∧ ∃ x5 x6' x7' x8', go L xs 137 69 75 [some (.ref 45), some (.int (nI k)), x2, some (.int (nI N)), some (.int (b1 b)), some (.int (nI r)), x6, x7, x8] [] (hp g t) = go L xs 137 69 192 [some (.ref 45), some (.int (nI k)), x2, some (.int (nI N)), some (.int (b1 (lgb H G kd bd gv rs w f l S row k e r b))), x5, x6', x7', x8'] [] (hp g' t)
  | 0, r, g, rr, b, x6, x7, x8, hr, hb, hH, hT, hG, hrr => by
    have hr : r = N := by omega
    subst hr
    refine ⟨g, rr, fq.rf.fl, hG, fun q hq => (hb q hq).2, some (.int (nI r)), x6, x7, x8, ?_⟩
    simp (disch := omega) only [sX9_lodgings_75, sX9_lodgings_77, sX9_lodgings_78, ↓reduceIte, if_true, if_false, Option.bind_some, Option.bind_none, Option.toList_some, Option.toList_none, List.cons_append, List.nil_append, Option.elim_some, true_or, or_true, or_false, false_or, true_and, and_true, and_false, false_and, zio1, zio0, zio01, not_true_eq_false, not_false_eq_true, nlt, neq, nlt0, n0lt, neq0, neq1, nm9, m9n, nadd, nadd1, nmul, ncl, zin_t, Nat.lt_irrefl, bst]
  | e + 1, r, g, rr, b, x6, x7, x8, hr, hb, hH, hT, hG, hrr => by
    have h0 := hH (by omega)
    have t1 := hT.1
    have h7 := hT.2.1
    have q : r < N := by omega
    have hlay := kX9_ly_loop (L := L) (xs := xs) (t := t) (k := k) (r := r) (H := H) (x1 := some (.int (nI k))) (x2 := x2) (x3 := some (.int (nI N))) (x4 := some (.int (b1 b))) (x5 := some (.int (nI r))) (x8 := x8) hk (by omega) h0 h7 k (nI k - 1) g (by omega) rfl t1 (fun q h1 h2 => absurd h2 (by omega))
    obtain ⟨g1, a1, a2, a3, y6, y7, a4⟩ := hlay
    rw [Nat.sub_self, Nat.pow_zero, Nat.div_one] at a4
    have F1 : fq G g g1 := ⟨fun a _ _ _ _ x => a1 a x, fun a _ _ => a1 a (by omega), fun q _ => by rw [a1 45 (by omega)], fun j hj => a3 j (by omega)⟩
    have hG1 : MGs g1 H G w f l (lay H k row r) := F1.guests hG (fun j hj => by
      unfold lay
      by_cases q2 : j < k
      · rw [if_pos q2, a2 j q2]
      · rw [if_neg q2, a3 j (by omega), hG.g56 hj, hrr j (by omega)]) (okw.la h0)
    have hT1 := F1.town hT
    have hvq := kX9_haveBeds (L := L) (xs := xs) (t := t) hT1 hG1
    have hstart : go L xs 137 69 75 [some (.ref 45), some (.int (nI k)), x2, some (.int (nI N)), some (.int (b1 b)), some (.int (nI r)), x6, x7, x8] [] (hp g t) = go L xs 137 69 124 [some (.ref 45), some (.int (nI k)), x2, some (.int (nI N)), some (.int (b1 b)), some (.int (nI r)), y6, y7, x8] [] (hp g1 t) := by
      rw [← a4]
      simp (disch := omega) only [sX9_lodgings_75, sX9_lodgings_77, sX9_lodgings_78, sX9_lodgings_81, sX9_lodgings_83, sX9_lodgings_85, sX9_lodgings_86, sX9_lodgings_87, sX9_lodgings_88, ↓reduceIte, if_true, if_false, Option.bind_some, Option.bind_none, Option.toList_some, Option.toList_none, List.cons_append, List.nil_append, Option.elim_some, true_or, or_true, or_false, false_or, true_and, and_true, and_false, false_and, zio1, zio0, zio01, not_true_eq_false, not_false_eq_true, nlt, neq, nlt0, n0lt, neq0, neq1, nm9, m9n, nadd, nadd1, nmul, ncl, zin_t, q]
    rw [hstart]
    have hrr1 : ∀ q, k ≤ q → lay H k row r q = row q := fun q hq => if_neg (by omega)
    by_cases q1 : hvb H G bd f l (lay H k row r) = true
    · rw [if_pos q1] at hvq
      obtain ⟨g2, f2, o2, d2, e2⟩ := kX9_beginPlain (L := L) (xs := xs) (t := t) (g := g1)
      obtain ⟨g3, f3, o3, e3⟩ := kX9_allPlanks (L := L) (xs := xs) (t := t) (f2.town hT1) (f2.guests hG1) o2 (fun h hh => d2 h (by omega))
      have F3 : fq G g g3 := F1.tr (f2.tr f3).fq
      have hG3 := (f2.tr f3).guests hG1
      have hal := apl_le (S := S) (G := G) (kd := kd) (gv := gv) (rs := rs) (w := w) (f := f) (l := l) (row := lay H k row r) (om := -9) (omw := 0) (omf := 0) (pl := 0) h7
      obtain ⟨g4, c1, c2, y8, c3⟩ := kX9_br_loop (L := L) (xs := xs) (t := t) (k := k) (r := lay H k row r) (x2 := x2) (x3 := some (.int (nI N))) (x4 := some (.int (nI (apl H S G kd gv rs w f l (lay H k row r) (-9) 0 0 0)))) (x5 := some (.int (nI r))) (x6 := y6) (x7 := some (.int (nI (apl H S G kd gv rs w f l (lay H k row r) (-9) 0 0 0)))) hk k 0 g3 (by omega) (fun q hq => hG3.g56 (by omega)) (fun q hq => absurd hq (by omega))
      rw [nI_0] at c3
      have hT4 : MTn g4 H S kd bd gv rs dr := (F3.town hT).tr (fun a ha => c1 a (by omega))
      have hG4 : MGs g4 H G w f l (lay H k row r) := hG3.tr (fun a ha => c1 a (by omega))
      cases b with
      | none =>
        obtain ⟨g5, rr', z1, z2, z3, w5, w6, w7, w8, z4⟩ := kX9_lg_loop hk hkG hN (x2 := x2) okw e (r + 1) g4 (lay H k row r) (some (apl H S G kd gv rs w f l (lay H k row r) (-9) 0 0 0, r)) y6 (some (.int (nI (apl H S G kd gv rs w f l (lay H k row r) (-9) 0 0 0)))) y8 (by omega) (fun q hq => by cases hq; exact ⟨hal, c2⟩) (fun _ => h0) hT4 hG4 hrr1
        refine ⟨g5, rr', (F3.fl.tr (fl_61 c1)).tr z1, z2, ?_, w5, w6, w7, w8, ?_⟩
        · intro q hq; unfold bst at hq; rw [if_pos q1] at hq; exact z3 q hq
        · unfold bst
          rw [if_pos q1, ← z4]
          simp (disch := omega) only [sX9_lodgings_124, sX9_lodgings_125, sX9_lodgings_128, sX9_lodgings_131, sX9_lodgings_132, sX9_lodgings_135, sX9_lodgings_136, sX9_lodgings_139, sX9_lodgings_141, sX9_lodgings_143, sX9_lodgings_146, sX9_lodgings_148, sX9_lodgings_150, sX9_lodgings_153, sX9_lodgings_155, sX9_lodgings_157, sX9_lodgings_158, ↓reduceIte, if_true, if_false, Option.bind_some, Option.bind_none, Option.toList_some, Option.toList_none, List.cons_append, List.nil_append, Option.elim_some, true_or, or_true, or_false, false_or, true_and, and_true, and_false, false_and, zio1, zio0, zio01, not_true_eq_false, not_false_eq_true, nlt, neq, nlt0, n0lt, neq0, neq1, nm9, m9n, nadd, nadd1, nmul, ncl, zin_t, hvq, e2, e3, b1, m9lt]
          rw [c3]
          simp (disch := omega) only [sX9_lodgings_186, sX9_lodgings_189, ↓reduceIte, if_true, if_false, Option.bind_some, Option.bind_none, Option.toList_some, Option.toList_none, List.cons_append, List.nil_append, Option.elim_some, true_or, or_true, or_false, false_or, true_and, and_true, and_false, false_and, zio1, zio0, zio01, not_true_eq_false, not_false_eq_true, nlt, neq, nlt0, n0lt, neq0, neq1, nm9, m9n, nadd, nadd1, nmul, ncl, zin_t]
      | some qb =>
        obtain ⟨hq3, hq4⟩ := hb qb rfl
        by_cases q2 : apl H S G kd gv rs w f l (lay H k row r) (-9) 0 0 0 < qb.1
        · obtain ⟨g5, rr', z1, z2, z3, w5, w6, w7, w8, z4⟩ := kX9_lg_loop hk hkG hN (x2 := x2) okw e (r + 1) g4 (lay H k row r) (some (apl H S G kd gv rs w f l (lay H k row r) (-9) 0 0 0, r)) y6 (some (.int (nI (apl H S G kd gv rs w f l (lay H k row r) (-9) 0 0 0)))) y8 (by omega) (fun q hq => by cases hq; exact ⟨hal, c2⟩) (fun _ => h0) hT4 hG4 hrr1
          refine ⟨g5, rr', (F3.fl.tr (fl_61 c1)).tr z1, z2, ?_, w5, w6, w7, w8, ?_⟩
          · intro q hq; unfold bst at hq; rw [if_pos q1] at hq; dsimp only at hq; rw [if_pos q2] at hq; exact z3 q hq
          · unfold bst
            dsimp only
            rw [if_pos q1, if_pos q2, ← z4]
            simp (disch := omega) only [sX9_lodgings_124, sX9_lodgings_125, sX9_lodgings_128, sX9_lodgings_131, sX9_lodgings_132, sX9_lodgings_135, sX9_lodgings_136, sX9_lodgings_139, sX9_lodgings_141, sX9_lodgings_143, sX9_lodgings_146, sX9_lodgings_148, sX9_lodgings_150, sX9_lodgings_153, sX9_lodgings_155, sX9_lodgings_157, sX9_lodgings_158, ↓reduceIte, if_true, if_false, Option.bind_some, Option.bind_none, Option.toList_some, Option.toList_none, List.cons_append, List.nil_append, Option.elim_some, true_or, or_true, or_false, false_or, true_and, and_true, and_false, false_and, zio1, zio0, zio01, not_true_eq_false, not_false_eq_true, nlt, neq, nlt0, n0lt, neq0, neq1, nm9, m9n, nadd, nadd1, nmul, ncl, zin_t, hvq, e2, e3, b1, q2]
            rw [c3]
            simp (disch := omega) only [sX9_lodgings_186, sX9_lodgings_189, ↓reduceIte, if_true, if_false, Option.bind_some, Option.bind_none, Option.toList_some, Option.toList_none, List.cons_append, List.nil_append, Option.elim_some, true_or, or_true, or_false, false_or, true_and, and_true, and_false, false_and, zio1, zio0, zio01, not_true_eq_false, not_false_eq_true, nlt, neq, nlt0, n0lt, neq0, neq1, nm9, m9n, nadd, nadd1, nmul, ncl, zin_t]
        · have h61 : ∀ j, g3 61 j = g 61 j := fun j => by rw [F3.2.1 61 (by omega) (by omega)]
          obtain ⟨g5, rr', z1, z2, z3, w5, w6, w7, w8, z4⟩ := kX9_lg_loop hk hkG hN (x2 := x2) okw e (r + 1) g3 (lay H k row r) (some qb) y6 (some (.int (nI (apl H S G kd gv rs w f l (lay H k row r) (-9) 0 0 0)))) x8 (by omega) (fun q hq => by cases hq; exact ⟨hq3, fun j hj => (h61 j).trans (hq4 j hj)⟩) (fun _ => h0) (F3.town hT) hG3 hrr1
          refine ⟨g5, rr', F3.fl.tr z1, z2, ?_, w5, w6, w7, w8, ?_⟩
          · intro q hq; unfold bst at hq; rw [if_pos q1] at hq; dsimp only at hq; rw [if_neg q2] at hq; exact z3 q hq
          · unfold bst
            dsimp only
            rw [if_pos q1, if_neg q2, ← z4]
            simp (disch := omega) only [sX9_lodgings_124, sX9_lodgings_125, sX9_lodgings_128, sX9_lodgings_131, sX9_lodgings_132, sX9_lodgings_135, sX9_lodgings_136, sX9_lodgings_139, sX9_lodgings_141, sX9_lodgings_143, sX9_lodgings_146, sX9_lodgings_148, sX9_lodgings_150, sX9_lodgings_153, sX9_lodgings_155, sX9_lodgings_157, sX9_lodgings_158, sX9_lodgings_186, sX9_lodgings_189, ↓reduceIte, if_true, if_false, Option.bind_some, Option.bind_none, Option.toList_some, Option.toList_none, List.cons_append, List.nil_append, Option.elim_some, true_or, or_true, or_false, false_or, true_and, and_true, and_false, false_and, zio1, zio0, zio01, not_true_eq_false, not_false_eq_true, nlt, neq, nlt0, n0lt, neq0, neq1, nm9, m9n, nadd, nadd1, nmul, ncl, zin_t, hvq, e2, e3, b1, q2]
    · rw [if_neg q1] at hvq
      have h61 : ∀ j, g1 61 j = g 61 j := fun j => by rw [F1.2.1 61 (by omega) (by omega)]
      obtain ⟨g5, rr', z1, z2, z3, w5, w6, w7, w8, z4⟩ := kX9_lg_loop hk hkG hN (x2 := x2) okw e (r + 1) g1 (lay H k row r) b y6 y7 x8 (by omega) (fun q hq => ⟨(hb q hq).1, fun j hj => (h61 j).trans ((hb q hq).2 j hj)⟩) (fun _ => h0) hT1 hG1 hrr1
      refine ⟨g5, rr', F1.fl.tr z1, z2, ?_, w5, w6, w7, w8, ?_⟩
      · intro q hq; unfold bst at hq; rw [if_neg q1] at hq; exact z3 q hq
      · unfold bst
        rw [if_neg q1, ← z4]
        simp (disch := omega) only [sX9_lodgings_124, sX9_lodgings_125, sX9_lodgings_128, sX9_lodgings_131, sX9_lodgings_132, sX9_lodgings_135, sX9_lodgings_136, sX9_lodgings_139, sX9_lodgings_141, sX9_lodgings_143, sX9_lodgings_146, sX9_lodgings_148, sX9_lodgings_150, sX9_lodgings_153, sX9_lodgings_155, sX9_lodgings_157, sX9_lodgings_158, sX9_lodgings_186, sX9_lodgings_189, ↓reduceIte, if_true, if_false, Option.bind_some, Option.bind_none, Option.toList_some, Option.toList_none, List.cons_append, List.nil_append, Option.elim_some, true_or, or_true, or_false, false_or, true_and, and_true, and_false, false_and, zio1, zio0, zio01, not_true_eq_false, not_false_eq_true, nlt, neq, nlt0, n0lt, neq0, neq1, nm9, m9n, nadd, nadd1, nmul, ncl, zin_t, hvq]
theorem kX9_pw_loop {k : Nat} (hk : k ≤ 4) (t1 : g 45 1 = nI H) (h7 : H ≤ 7) {x2 x5 x6 x7 x8 : Option Value} : ∀ e j, j + e = k → go L xs 137 69 49 [some (.ref 45), some (.int (nI k)), x2, some (.int (nI (H ^ j))), some (.int (nI j)), x5, x6, x7, x8] [] (hp g t) = go L xs 137 69 68 [some (.ref 45), some (.int (nI k)), x2, some (.int (nI (H ^ k))), some (.int (nI k)), x5, x6, x7, x8] [] (hp g t)
  | 0, j, hj => by
    have hj : j = k := by omega
    subst hj
    simp (disch := omega) only [sX9_lodgings_49, sX9_lodgings_51, sX9_lodgings_52, ↓reduceIte, if_true, if_false, Option.bind_some, Option.bind_none, Option.toList_some, Option.toList_none, List.cons_append, List.nil_append, Option.elim_some, true_or, or_true, or_false, false_or, true_and, and_true, and_false, false_and, zio1, zio0, zio01, not_true_eq_false, not_false_eq_true, nlt, neq, nlt0, n0lt, neq0, neq1, nm9, m9n, nadd, nadd1, nmul, ncl, zin_t, Nat.lt_irrefl]
  | e + 1, j, hj => by
    have ih := kX9_pw_loop hk t1 h7 (x2 := x2) (x5 := x5) (x6 := x6) (x7 := x7) (x8 := x8) e (j + 1) (by omega)
    have q : j < k := by omega
    rw [← ih, sX9_lodgings_49]
    simp (disch := omega) only [sX9_lodgings_51, sX9_lodgings_52, sX9_lodgings_55, sX9_lodgings_56, sX9_lodgings_57, sX9_lodgings_60, sX9_lodgings_61, sX9_lodgings_62, sX9_lodgings_65, ↓reduceIte, if_true, if_false, Option.bind_some, Option.bind_none, Option.toList_some, Option.toList_none, List.cons_append, List.nil_append, Option.elim_some, true_or, or_true, or_false, false_or, true_and, and_true, and_false, false_and, zio1, zio0, zio01, not_true_eq_false, not_false_eq_true, nlt, neq, nlt0, n0lt, neq0, neq1, nm9, m9n, nadd, nadd1, nmul, ncl, zin_t, q, t1, Nat.pow_succ]
theorem bst_le {P : Nat → Prop} [DecidablePred P] {v : Nat → Nat} {B : Nat} (hv : ∀ k, v k ≤ B) : ∀ e k b, (∀ q, b = some q → q.1 ≤ B) → ∀ q, bst P v e k b = some q → q.1 ≤ B
  | 0, _, b, hb, q, hq => hb q hq
  | e + 1, k, b, hb, q, hq => by
    unfold bst at hq
    refine bst_le hv e (k + 1) _ ?_ q hq
    intro q' hq'
    split at hq'
    · split at hq'
      · cases hq'; exact hv k
      · split at hq'
        · cases hq'; exact hv k
        · cases hq'; exact hb _ rfl
    · exact hb q' hq'
theorem fl_back {g1 g2 g3 : Nat → Nat → Int32} (a1 : ∀ a, a ≠ 60 → g1 a = g a) (F : fl G g1 g2) (c1 : ∀ a, a ≠ 56 → g3 a = g2 a) (c2 : ∀ j, j < G → g3 56 j = row j) (c3 : ∀ j, G ≤ j → g3 56 j = g2 56 j) (hG : MGs g H G w f l row) : fv g g3 := by
  refine ⟨fun a x1 x2 x3 x4 => ?_, fun a x1 x2 => ?_, fun q hq => ?_⟩
  · by_cases q : a = 56
    · subst q
      funext j
      by_cases q2 : j < G
      · rw [c2 j q2, hG.g56 q2]
      · rw [c3 j (by omega), F.2.2.2 j (by omega), a1 56 (by omega)]
    · rw [c1 a q, F.1 a x1 x2 x3 x4 q, a1 a (by omega)]
  · rw [c1 a (by omega), F.2.1 a (by omega) x2 (by omega), a1 a (by omega)]
  · rw [c1 45 (by omega), F.2.2.1 q hq, a1 45 (by omega)]
theorem qX9_lodgings (hT : MTn g H S kd bd gv rs dr) (hG : MGs g H G w f l row) {x y : Int32} : ∃ g', fv g g' ∧ go L xs 137 69 0 [some (.ref 45), some (.int x), some (.int y), none, none, none, none, none, none] [] (hp g t) = some (some (.int (if (1 ≤ x.toInt ∧ x.toInt ≤ 4) ∧ x.toInt ≤ G then (if -1 ≤ y.toInt ∧ y.toInt < x.toInt then lga H x.toInt.toNat row y (lgb H G kd bd gv rs w f l S row x.toInt.toNat (H ^ x.toInt.toNat) 0 none) else -1) else -2)), hp g' t) := by
  have hin := kX9_inI (L := L) (xs := xs) (g := g) (t := t) (x := x) (b := 1) (c := 4) (lo := 1) (hi := 4) (by decide) (by decide)
  have t1 := hT.1
  have h7 := hT.2.1
  have g1 := hG.1
  have g8 := hG.2.1
  by_cases q1 : 1 ≤ x.toInt ∧ x.toInt ≤ 4
  · rw [if_pos q1] at hin
    have hx := nI_back (x := x) (by omega)
    generalize hk : x.toInt.toNat = k at hx
    subst hx
    have hkt := nI_toInt (n := k) (by omega)
    by_cases q2 : G < k
    · rw [if_neg (by omega)]
      refine ⟨g, fr.rf.fv, ?_⟩
      simp (disch := omega) only [sX9_lodgings_0, sX9_lodgings_1, sX9_lodgings_2, sX9_lodgings_3, sX9_lodgings_6, sX9_lodgings_9, sX9_lodgings_12, sX9_lodgings_13, sX9_lodgings_14, sX9_lodgings_17, sX9_lodgings_20, sX9_lodgings_22, ↓reduceIte, if_true, if_false, Option.bind_some, Option.bind_none, Option.toList_some, Option.toList_none, List.cons_append, List.nil_append, Option.elim_some, true_or, or_true, or_false, false_or, true_and, and_true, and_false, false_and, zio1, zio0, zio01, not_true_eq_false, not_false_eq_true, nlt, neq, nlt0, n0lt, neq0, neq1, nm9, m9n, nadd, nadd1, nmul, ncl, zin_t, hin, g1, q2]
    · rw [if_pos (by omega)]
      have h1 : ((nI k).toInt64 - 1).toInt = (k : Int) - 1 := by
        have : ∀ k, k ≤ 8 → ((nI k).toInt64 - 1).toInt = (k : Int) - 1 := by decide +kernel
        exact this k (by omega)
      have hin2 := kX9_inI (L := L) (xs := xs) (g := g) (t := t) (x := y) (b := -1) (c := (nI k).toInt64 - 1) (lo := -1) (hi := (k : Int) - 1) (by decide) h1
      by_cases q3 : -1 ≤ y.toInt ∧ y.toInt < (nI k).toInt
      · rw [if_pos (by omega)] at hin2
        rw [if_pos q3]
        have hpw : H ^ k < 3000 := by
          have a : H ^ k ≤ 7 ^ k := Nat.pow_le_pow_left h7 k
          have b : 7 ^ k ≤ 7 ^ 4 := Nat.pow_le_pow_right (by omega) (by omega)
          have c : 7 ^ 4 = 2401 := by decide
          omega
        obtain ⟨gk, a1, a2, a3⟩ := kX9_keepHouses (L := L) (xs := xs) (t := t) hG
        have hpl := kX9_pw_loop (L := L) (xs := xs) (t := t) (k := k) (x2 := some (.int y)) (x5 := none) (x6 := none) (x7 := none) (x8 := none) (by omega) (hT.k60 a1).1 h7 k 0 (by omega)
        obtain ⟨g2, rr', z1, z2, z3, w5, w6, w7, w8, z4⟩ := kX9_lg_loop (L := L) (xs := xs) (t := t) (S := S) (dr := dr) (kd := kd) (bd := bd) (gv := gv) (rs := rs) (w := w) (f := f) (l := l) (k := k) (N := H ^ k) (x2 := some (.int y)) (by omega) (by omega) hpw hG.okr (H ^ k) 0 gk row none none none none (by omega) (fun q hq => by cases hq) (fun q => by
          rcases Nat.eq_zero_or_pos H with z | z
          · subst z; rw [Nat.zero_pow (by omega)] at q; omega
          · exact z) (hT.k60 a1) (hG.k60 a1) (fun _ _ => rfl)
        obtain ⟨g3, c1, c2, c3, c4⟩ := kX9_takeHouses (L := L) (xs := xs) (t := t) (r := row) g8 z2.1 (fun j hj => by rw [z1.2.1 60 (by omega) (by omega) (by omega)]; exact a2 j hj)
        refine ⟨g3, fl_back a1 z1 c1 c2 c3 hG, ?_⟩
        rw [Nat.pow_zero, nI_0, show nI 1 = 1 by decide] at hpl
        rw [nI_0] at z4
        simp (disch := omega) only [sX9_lodgings_0, sX9_lodgings_1, sX9_lodgings_2, sX9_lodgings_3, sX9_lodgings_6, sX9_lodgings_9, sX9_lodgings_12, sX9_lodgings_13, sX9_lodgings_14, sX9_lodgings_17, sX9_lodgings_20, sX9_lodgings_22, sX9_lodgings_23, sX9_lodgings_24, sX9_lodgings_25, sX9_lodgings_28, sX9_lodgings_29, sX9_lodgings_30, sX9_lodgings_31, sX9_lodgings_32, sX9_lodgings_35, sX9_lodgings_38, sX9_lodgings_39, sX9_lodgings_40, sX9_lodgings_41, sX9_lodgings_44, sX9_lodgings_45, sX9_lodgings_46, sX9_lodgings_47, ↓reduceIte, if_true, if_false, Option.bind_some, Option.bind_none, Option.toList_some, Option.toList_none, List.cons_append, List.nil_append, Option.elim_some, true_or, or_true, or_false, false_or, true_and, and_true, and_false, false_and, zio1, zio0, zio01, not_true_eq_false, not_false_eq_true, nlt, neq, nlt0, n0lt, neq0, neq1, nm9, m9n, nadd, nadd1, nmul, ncl, zin_t, hin, g1, q2, hin2, a3]
        rw [hpl]
        simp (disch := omega) only [sX9_lodgings_68, sX9_lodgings_70, sX9_lodgings_72, sX9_lodgings_73, ↓reduceIte, if_true, if_false, Option.bind_some, Option.bind_none, Option.toList_some, Option.toList_none, List.cons_append, List.nil_append, Option.elim_some, true_or, or_true, or_false, false_or, true_and, and_true, and_false, false_and, zio1, zio0, zio01, not_true_eq_false, not_false_eq_true, nlt, neq, nlt0, n0lt, neq0, neq1, nm9, m9n, nadd, nadd1, nmul, ncl, zin_t]
        refine (show _ = _ from z4).trans ?_
        have hbl := bst_le (P := fun r => hvb H G bd f l (lay H k row r) = true) (v := fun r => apl H S G kd gv rs w f l (lay H k row r) (-9) 0 0 0) (B := 300) (fun r => apl_le h7) (H ^ k) 0 none (fun q hq => by cases hq)
        cases hb : lgb H G kd bd gv rs w f l S row k (H ^ k) 0 none with
        | none => simp (disch := omega) only [sX9_lodgings_192, sX9_lodgings_193, sX9_lodgings_196, sX9_lodgings_198, sX9_lodgings_201, sX9_lodgings_202, sX9_lodgings_205, sX9_lodgings_207, sX9_lodgings_210, sX9_lodgings_211, sX9_lodgings_214, sX9_lodgings_215, sX9_lodgings_216, ↓reduceIte, if_true, if_false, Option.bind_some, Option.bind_none, Option.toList_some, Option.toList_none, List.cons_append, List.nil_append, Option.elim_some, true_or, or_true, or_false, false_or, true_and, and_true, and_false, false_and, zio1, zio0, zio01, not_true_eq_false, not_false_eq_true, nlt, neq, nlt0, n0lt, neq0, neq1, nm9, m9n, nadd, nadd1, nmul, ncl, zin_t, c4, b1, m9lt, lga]
        | some q =>
          have hbq := hbl q hb
          have z5 := z3 q hb
          by_cases q4 : y < 0
          · simp (disch := omega) only [sX9_lodgings_192, sX9_lodgings_193, sX9_lodgings_196, sX9_lodgings_198, sX9_lodgings_201, sX9_lodgings_202, sX9_lodgings_205, sX9_lodgings_207, sX9_lodgings_210, sX9_lodgings_211, sX9_lodgings_214, sX9_lodgings_215, sX9_lodgings_216, ↓reduceIte, if_true, if_false, Option.bind_some, Option.bind_none, Option.toList_some, Option.toList_none, List.cons_append, List.nil_append, Option.elim_some, true_or, or_true, or_false, false_or, true_and, and_true, and_false, false_and, zio1, zio0, zio01, not_true_eq_false, not_false_eq_true, nlt, neq, nlt0, n0lt, neq0, neq1, nm9, m9n, nadd, nadd1, nmul, ncl, zin_t, c4, b1, eq_true q4, lga]
          · have hy0 : 0 ≤ y.toInt := by
              have : ¬ y.toInt < 0 := fun z => q4 (Int32.lt_iff_toInt_lt.mpr (by simpa using z))
              omega
            have hy := nI_back hy0
            generalize hm : y.toInt.toNat = m at hy
            subst hy
            have hmt := nI_toInt (n := m) (by omega)
            have z6 := z5 m (by omega)
            have c61 : g3 61 = g2 61 := c1 61 (by omega)
            simp (disch := omega) only [sX9_lodgings_192, sX9_lodgings_193, sX9_lodgings_196, sX9_lodgings_198, sX9_lodgings_201, sX9_lodgings_202, sX9_lodgings_205, sX9_lodgings_207, sX9_lodgings_210, sX9_lodgings_211, sX9_lodgings_214, sX9_lodgings_215, sX9_lodgings_216, ↓reduceIte, if_true, if_false, Option.bind_some, Option.bind_none, Option.toList_some, Option.toList_none, List.cons_append, List.nil_append, Option.elim_some, true_or, or_true, or_false, false_or, true_and, and_true, and_false, false_and, zio1, zio0, zio01, not_true_eq_false, not_false_eq_true, nlt, neq, nlt0, n0lt, neq0, neq1, nm9, m9n, nadd, nadd1, nmul, ncl, zin_t, c4, b1, lga, c61, z6, hm]
      · rw [if_neg (by omega)] at hin2
        rw [if_neg q3]
        refine ⟨g, fr.rf.fv, ?_⟩
        simp (disch := omega) only [sX9_lodgings_0, sX9_lodgings_1, sX9_lodgings_2, sX9_lodgings_3, sX9_lodgings_6, sX9_lodgings_9, sX9_lodgings_12, sX9_lodgings_13, sX9_lodgings_14, sX9_lodgings_17, sX9_lodgings_20, sX9_lodgings_22, sX9_lodgings_23, sX9_lodgings_24, sX9_lodgings_25, sX9_lodgings_28, sX9_lodgings_29, sX9_lodgings_30, sX9_lodgings_31, sX9_lodgings_32, sX9_lodgings_35, sX9_lodgings_38, sX9_lodgings_39, ↓reduceIte, if_true, if_false, Option.bind_some, Option.bind_none, Option.toList_some, Option.toList_none, List.cons_append, List.nil_append, Option.elim_some, true_or, or_true, or_false, false_or, true_and, and_true, and_false, false_and, zio1, zio0, zio01, not_true_eq_false, not_false_eq_true, nlt, neq, nlt0, n0lt, neq0, neq1, nm9, m9n, nadd, nadd1, nmul, ncl, zin_t, hin, g1, q2, hin2]
  · rw [if_neg q1] at hin
    rw [if_neg (fun q => q1 q.1)]
    refine ⟨g, fr.rf.fv, ?_⟩
    simp (disch := omega) only [sX9_lodgings_0, sX9_lodgings_1, sX9_lodgings_2, sX9_lodgings_3, sX9_lodgings_6, sX9_lodgings_9, sX9_lodgings_12, sX9_lodgings_13, sX9_lodgings_14, sX9_lodgings_17, sX9_lodgings_20, sX9_lodgings_22, ↓reduceIte, if_true, if_false, Option.bind_some, Option.bind_none, Option.toList_some, Option.toList_none, List.cons_append, List.nil_append, Option.elim_some, true_or, or_true, or_false, false_or, true_and, and_true, and_false, false_and, zio1, zio0, zio01, not_true_eq_false, not_false_eq_true, nlt, neq, nlt0, n0lt, neq0, neq1, nm9, m9n, nadd, nadd1, nmul, ncl, zin_t, hin]
end M17
