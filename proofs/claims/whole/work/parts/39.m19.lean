/-! The reference: the text of a town. -/
/-- whether a right text goes on with a code at a place -/
def gon (p : Nat) (c : Int32) : Prop := if p = 0 then c = 116 else if p = 1 then 48 ≤ c.toInt ∧ c.toInt ≤ 57 else if 44 ≤ p then False else if (p - 2) % 6 = 0 then c = 59 else if (p - 2) % 6 = 1 then c = 104 ∨ c = 105 ∨ c = 112 else if (p - 2) % 6 = 4 then 48 ≤ c.toInt ∧ c.toInt ≤ 57 else 49 ≤ c.toInt ∧ c.toInt ≤ 57
/-- the code at a place, none behind the end -/
def gc (c : Nat → Int32) (n p : Nat) : Int32 := if p < n then c p else -9
/-- the first fault -/
def FF (c : Nat → Int32) (n p : Nat) : Prop := (∀ q, q < p → gon q (gc c n q)) ∧ ¬ gon p (gc c n p) ∧ ¬ (p = n ∧ 14 ≤ n ∧ (n - 2) % 6 = 0)
/-- a town's text of j houses -/
def OKt (c : Nat → Int32) (n j : Nat) : Prop := n = 2 + 6 * j ∧ 2 ≤ j ∧ j ≤ 7 ∧ ∀ q, q < n → gon q (gc c n q)
def kdo (c : Nat → Int32) (h : Nat) : Nat := if c (2 + 6 * h + 1) = 104 then 0 else if c (2 + 6 * h + 1) = 105 then 1 else 2
def dgt (c : Nat → Int32) (p : Nat) : Nat := (c p - 48).toInt.toNat
theorem m9_gon (p : Nat) : ¬ gon p (-9) := by
  have h1 : (-9 : Int32).toInt = -9 := by decide
  have h2 : ¬ (-9 : Int32) = 116 := by decide
  have h3 : ¬ (-9 : Int32) = 59 := by decide
  have h4 : ¬ ((-9 : Int32) = 104 ∨ (-9 : Int32) = 105 ∨ (-9 : Int32) = 112) := by decide
  unfold gon
  rw [h1]
  split
  · exact h2
  split
  · omega
  split
  · exact id
  split
  · exact h3
  split
  · exact h4
  split <;> omega
theorem sub48 (c : Int32) {lo : Nat} (hl : lo ≤ 1) : ((lo : Int) ≤ (c - 48).toInt ∧ (c - 48).toInt ≤ 9) ↔ (48 + (lo : Int) ≤ c.toInt ∧ c.toInt ≤ 57) := by
  have h48 : (48 : Int32).toInt = 48 := by decide
  rw [Int32.toInt_sub, h48]
  have a1 := Int32.toInt_lt c
  have a3 := Int32.le_toInt c
  unfold Int.bmod
  dsimp only
  split <;> omega
section M19
variable {L : Nat} {xs : Nat → Int32} {g g' : Nat → Nat → Int32} {t : Nat → Int64}
variable {c : Nat → Int32} {fm n : Nat}
/-- the cells of the text -/
def MTx (g : Nat → Nat → Int32) (fm n : Nat) (c : Nat → Int32) : Prop := n ≤ 60 ∧ ∀ p, p < n → fm + p < 240 ∧ g 67 (fm + p) = c p
theorem MTx.tr (h : MTx g fm n c) (h2 : g' 67 = g 67) : MTx g' fm n c := ⟨h.1, fun p hp1 => by rw [h2]; exact h.2 p hp1⟩
theorem kX9_codeAt {p : Nat} (hX : MTx g fm n c) (hf : fm < 2147480000) (hp1 : p ≤ 100) (h8 : g 45 8 = nI p) : go L xs 105 69 0 [some (.ref 45), some (.int (nI fm)), some (.int (nI n))] [] (hp g t) = some (some (.int (gc c n p)), hp g t) := by
  have hn := hX.1
  unfold gc
  by_cases q : p < n
  · obtain ⟨x1, x2⟩ := hX.2 p q
    rw [if_pos q]
    simp (disch := omega) only [sX9_codeAt_0, sX9_codeAt_1, sX9_codeAt_4, sX9_codeAt_5, sX9_codeAt_8, sX9_codeAt_9, sX9_codeAt_12, sX9_codeAt_13, sX9_codeAt_14, sX9_codeAt_17, sX9_codeAt_18, sX9_codeAt_19, sX9_codeAt_22, sX9_codeAt_24, ↓reduceIte, if_true, if_false, Option.bind_some, Option.bind_none, Option.toList_some, Option.toList_none, List.cons_append, List.nil_append, Option.elim_some, true_or, or_true, or_false, false_or, true_and, and_true, and_false, false_and, zio1, zio0, zio01, not_true_eq_false, not_false_eq_true, nlt, neq, nlt0, n0lt, neq0, neq1, nm9, m9n, nadd, nadd1, nmul, ncl, zin_t, h8, q, x2]
  · rw [if_neg q]
    simp (disch := omega) only [sX9_codeAt_0, sX9_codeAt_1, sX9_codeAt_4, sX9_codeAt_5, sX9_codeAt_8, sX9_codeAt_9, sX9_codeAt_12, sX9_codeAt_13, sX9_codeAt_14, sX9_codeAt_17, sX9_codeAt_18, sX9_codeAt_19, sX9_codeAt_22, sX9_codeAt_24, ↓reduceIte, if_true, if_false, Option.bind_some, Option.bind_none, Option.toList_some, Option.toList_none, List.cons_append, List.nil_append, Option.elim_some, true_or, or_true, or_false, false_or, true_and, and_true, and_false, false_and, zio1, zio0, zio01, not_true_eq_false, not_false_eq_true, nlt, neq, nlt0, n0lt, neq0, neq1, nm9, m9n, nadd, nadd1, nmul, ncl, zin_t, h8, q]
theorem kX9_figure {p lo : Nat} (hX : MTx g fm n c) (hf : fm < 2147480000) (hp1 : p ≤ 100) (h8 : g 45 8 = nI p) (hl : lo ≤ 1) : go L xs 106 69 0 [some (.ref 45), some (.int (nI fm)), some (.int (nI n)), some (.int (nI lo)), none, none] [] (hp g t) = (if 48 + (lo : Int) ≤ (gc c n p).toInt ∧ (gc c n p).toInt ≤ 57 then some (some (.int (nI (gc c n p - 48).toInt.toNat)), hp (zu g 45 8 (nI (p + 1))) t) else some (some (.int (-9)), hp (zu g 45 8 (nI p)) t)) := by
  have h1 := kX9_codeAt (L := L) (xs := xs) (t := t) hX hf hp1 h8
  have hlo : (nI lo).toInt64.toInt = (lo : Int) := by rw [i64, nI_toInt (by omega)]
  have h2 := kX9_inI (L := L) (xs := xs) (g := g) (t := t) (x := gc c n p - 48) (b := (nI lo).toInt64) (c := 9) (lo := lo) (hi := 9) hlo (by decide)
  by_cases q : 48 + (lo : Int) ≤ (gc c n p).toInt ∧ (gc c n p).toInt ≤ 57
  · have q2 := (sub48 (gc c n p) hl).mpr q
    rw [if_pos q2] at h2
    rw [if_pos q, ← nI_back (x := gc c n p - 48) (by omega)]
    simp (disch := omega) only [sX9_figure_0, sX9_figure_1, sX9_figure_2, sX9_figure_3, sX9_figure_6, sX9_figure_8, sX9_figure_9, sX9_figure_11, sX9_figure_13, sX9_figure_14, sX9_figure_15, sX9_figure_16, sX9_figure_19, sX9_figure_22, sX9_figure_24, sX9_figure_25, sX9_figure_26, sX9_figure_29, sX9_figure_31, sX9_figure_34, sX9_figure_35, sX9_figure_38, sX9_figure_39, sX9_figure_40, sX9_figure_43, sX9_figure_45, sX9_figure_48, sX9_figure_50, sX9_figure_53, sX9_figure_55, ↓reduceIte, if_true, if_false, Option.bind_some, Option.bind_none, Option.toList_some, Option.toList_none, List.cons_append, List.nil_append, Option.elim_some, true_or, or_true, or_false, false_or, true_and, and_true, and_false, false_and, zio1, zio0, zio01, not_true_eq_false, not_false_eq_true, nlt, neq, nlt0, n0lt, neq0, neq1, nm9, m9n, nadd, nadd1, nmul, ncl, zin_t, h1, h2, h8]
  · have q2 : ¬ ((lo : Int) ≤ (gc c n p - 48).toInt ∧ (gc c n p - 48).toInt ≤ 9) := fun z => q ((sub48 (gc c n p) hl).mp z)
    rw [if_neg q2] at h2
    rw [if_neg q]
    simp (disch := omega) only [sX9_figure_0, sX9_figure_1, sX9_figure_2, sX9_figure_3, sX9_figure_6, sX9_figure_8, sX9_figure_9, sX9_figure_11, sX9_figure_13, sX9_figure_14, sX9_figure_15, sX9_figure_16, sX9_figure_19, sX9_figure_22, sX9_figure_24, sX9_figure_25, sX9_figure_26, sX9_figure_29, sX9_figure_31, sX9_figure_34, sX9_figure_35, sX9_figure_38, sX9_figure_39, sX9_figure_40, sX9_figure_43, sX9_figure_45, sX9_figure_48, sX9_figure_50, sX9_figure_53, sX9_figure_55, ↓reduceIte, if_true, if_false, Option.bind_some, Option.bind_none, Option.toList_some, Option.toList_none, List.cons_append, List.nil_append, Option.elim_some, true_or, or_true, or_false, false_or, true_and, and_true, and_false, false_and, zio1, zio0, zio01, not_true_eq_false, not_false_eq_true, nlt, neq, nlt0, n0lt, neq0, neq1, nm9, m9n, nadd, nadd1, nmul, ncl, zin_t, h1, h2, h8, nadd0]
/-- what a text's reading leaves as it was -/
def fx (g g' : Nat → Nat → Int32) : Prop := (∀ a, a ≠ 45 → a ≠ 51 → a ≠ 52 → g' a = g a) ∧ ∀ q, q < 8 ∨ 10 < q → g' 45 q = g 45 q
theorem fx.rf : fx g g := ⟨fun _ _ _ _ => rfl, fun _ _ => rfl⟩
theorem fx.tr {g1 g2 g3 : Nat → Nat → Int32} (h : fx g1 g2) (h' : fx g2 g3) : fx g1 g3 := ⟨fun a x1 x2 x3 => (h'.1 a x1 x2 x3).trans (h.1 a x1 x2 x3), fun q hq => (h'.2 q hq).trans (h.2 q hq)⟩
theorem fx_r {q : Nat} (hq : 8 ≤ q ∧ q ≤ 10) (v : Int32) : fx g (zu g 45 q v) := ⟨fun a h _ _ => by funext p; simp [zu, h], fun p hp1 => by
  have : p ≠ q := by omega
  simp [zu, this]⟩
theorem fx_c {b q : Nat} (hb : b = 51 ∨ b = 52) (v : Int32) : fx g (zu g b q v) := ⟨fun a h h1 h2 => by
  have : a ≠ b := by omega
  funext p; simp [zu, this], fun p hp1 => by
  have : 45 ≠ b := by omega
  simp [zu, this]⟩
theorem gon_f {p0 k : Nat} {j : Nat} {c : Int32} (hp0 : p0 = 2 + 6 * j) (hj : j < 7) (hk : k < 4) : gon (p0 + 2 + k) c ↔ (48 + ((if k = 2 then 0 else 1 : Nat) : Int) ≤ c.toInt ∧ c.toInt ≤ 57) := by
  subst hp0
  unfold gon
  rw [if_neg (by omega), if_neg (by omega), if_neg (by omega), if_neg (by omega), if_neg (by omega)]
  by_cases q : k = 2
  · rw [if_pos (by omega), if_pos q]; simp
  · rw [if_neg (by omega), if_neg q]; simp
theorem kX9_rh_loop {j : Nat} (hj : j < 7) (hf : fm < 2147480000) {x3 : Option Value} : ∀ e k (g : Nat → Nat → Int32) (x5 : Option Value), k + e = 4 → MTx g fm n c → g 45 8 = nI (2 + 6 * j + 2 + k) → g 45 10 = nI j → (∀ q, q < 2 + 6 * j + 2 + k → gon q (gc c n q)) → (∀ i, i < k → g 52 (4 * j + i) = nI (gc c n (2 + 6 * j + 2 + i) - 48).toInt.toNat) → ∃ g', fx g g' ∧ g' 51 = g 51 ∧ g' 45 10 = nI j ∧ g' 45 9 = g 45 9 ∧ (∀ q, q < 4 * j → g' 52 q = g 52 q) ∧ ((∃ p, p < 2 + 6 * j + 6 ∧ 2 + 6 * j ≤ p ∧ (2 + 6 * j < p) ∧ g' 45 8 = nI p ∧ (∀ q, q < p → gon q (gc c n q)) ∧ ¬ gon p (gc c n p) ∧ go L xs 107 69 72 [some (.ref 45), some (.int (nI fm)), some (.int (nI n)), x3, some (.int (nI k)), x5] [] (hp g t) = some (some (.int 0), hp g' t)) ∨ (g' 45 8 = nI (2 + 6 * j + 6) ∧ (∀ q, q < 2 + 6 * j + 6 → gon q (gc c n q)) ∧ (∀ i, i < 4 → g' 52 (4 * j + i) = nI (gc c n (2 + 6 * j + 2 + i) - 48).toInt.toNat) ∧ ∃ x5', go L xs 107 69 72 [some (.ref 45), some (.int (nI fm)), some (.int (nI n)), x3, some (.int (nI k)), x5] [] (hp g t) = go L xs 107 69 126 [some (.ref 45), some (.int (nI fm)), some (.int (nI n)), x3, some (.int (nI 4)), x5'] [] (hp g' t)))
  | 0, k, g, x5, hk, hX, h8, h10, ha, hd => by
    have hk : k = 4 := by omega
    subst hk
    refine ⟨g, fx.rf, rfl, h10, rfl, fun _ _ => rfl, Or.inr ⟨h8, ha, hd, x5, ?_⟩⟩
    simp (disch := omega) only [sX9_readsHouse_72, sX9_readsHouse_74, sX9_readsHouse_75, ↓reduceIte, if_true, if_false, Option.bind_some, Option.bind_none, Option.toList_some, Option.toList_none, List.cons_append, List.nil_append, Option.elim_some, true_or, or_true, or_false, false_or, true_and, and_true, and_false, false_and, zio1, zio0, zio01, not_true_eq_false, not_false_eq_true, nlt, neq, nlt0, n0lt, neq0, neq1, nm9, m9n, nadd, nadd1, nmul, ncl, zin_t, li4, Nat.lt_irrefl]
  | e + 1, k, g, x5, hk, hX, h8, h10, ha, hd => by
    have q : k < 4 := by omega
    have hfi := kX9_figure (L := L) (xs := xs) (t := t) (p := 2 + 6 * j + 2 + k) (lo := if k = 2 then 0 else 1) hX hf (by omega) h8 (by split <;> omega)
    have hgo := gon_f (p0 := 2 + 6 * j) (c := gc c n (2 + 6 * j + 2 + k)) rfl hj q
    have hstep : go L xs 107 69 72 [some (.ref 45), some (.int (nI fm)), some (.int (nI n)), x3, some (.int (nI k)), x5] [] (hp g t) = (go L xs 106 69 0 [some (.ref 45), some (.int (nI fm)), some (.int (nI n)), some (.int (nI (if k = 2 then 0 else 1))), none, none] [] (hp g t)).bind (fun r => go L xs 107 69 95 [some (.ref 45), some (.int (nI fm)), some (.int (nI n)), x3, some (.int (nI k)), x5] (r.1.toList ++ []) r.2) := by
      by_cases q2 : k = 2
      · rw [if_pos q2]
        simp (disch := omega) only [sX9_readsHouse_72, sX9_readsHouse_74, sX9_readsHouse_75, sX9_readsHouse_78, sX9_readsHouse_79, sX9_readsHouse_80, sX9_readsHouse_81, sX9_readsHouse_83, sX9_readsHouse_84, sX9_readsHouse_87, sX9_readsHouse_88, sX9_readsHouse_91, sX9_readsHouse_92, ↓reduceIte, if_true, if_false, Option.bind_some, Option.bind_none, Option.toList_some, Option.toList_none, List.cons_append, List.nil_append, Option.elim_some, true_or, or_true, or_false, false_or, true_and, and_true, and_false, false_and, zio1, zio0, zio01, not_true_eq_false, not_false_eq_true, nlt, neq, nlt0, n0lt, neq0, neq1, nm9, m9n, nadd, nadd1, nmul, ncl, zin_t, li4, li2, q, q2, nI_0, (show (2 < 4) = True by decide)]
      · rw [if_neg q2]
        simp (disch := omega) only [sX9_readsHouse_72, sX9_readsHouse_74, sX9_readsHouse_75, sX9_readsHouse_78, sX9_readsHouse_79, sX9_readsHouse_80, sX9_readsHouse_81, sX9_readsHouse_83, sX9_readsHouse_84, sX9_readsHouse_87, sX9_readsHouse_88, sX9_readsHouse_91, sX9_readsHouse_92, ↓reduceIte, if_true, if_false, Option.bind_some, Option.bind_none, Option.toList_some, Option.toList_none, List.cons_append, List.nil_append, Option.elim_some, true_or, or_true, or_false, false_or, true_and, and_true, and_false, false_and, zio1, zio0, zio01, not_true_eq_false, not_false_eq_true, nlt, neq, nlt0, n0lt, neq0, neq1, nm9, m9n, nadd, nadd1, nmul, ncl, zin_t, li4, li2, q, q2, (show nI 1 = 1 by decide)]
    rw [hstep, hfi]
    by_cases q1 : 48 + ((if k = 2 then 0 else 1 : Nat) : Int) ≤ (gc c n (2 + 6 * j + 2 + k)).toInt ∧ (gc c n (2 + 6 * j + 2 + k)).toInt ≤ 57
    · rw [if_pos q1]
      have hv : ((if k = 2 then 0 else 1 : Nat) : Int) ≤ (gc c n (2 + 6 * j + 2 + k) - 48).toInt ∧ (gc c n (2 + 6 * j + 2 + k) - 48).toInt ≤ 9 := (sub48 _ (by split <;> omega)).mpr q1
      have hv9 : (gc c n (2 + 6 * j + 2 + k) - 48).toInt.toNat ≤ 9 := by omega
      obtain ⟨g', b1, b2, b3, b4, b5, b6⟩ := kX9_rh_loop hj hf (x3 := x3) e (k + 1) (zu (zu g 45 8 (nI (2 + 6 * j + 2 + k + 1))) 52 (4 * j + k) (nI (gc c n (2 + 6 * j + 2 + k) - 48).toInt.toNat)) (some (.int (nI (gc c n (2 + 6 * j + 2 + k) - 48).toInt.toNat))) (by omega) (hX.tr (by funext p; simp [zu])) (by simp [zu]; rfl) (by simpa [zu] using h10) (fun p hp1 => by
        by_cases q3 : p = 2 + 6 * j + 2 + k
        · subst q3; exact hgo.mpr q1
        · exact ha p (by omega)) (fun i hi => by
        by_cases q3 : i = k
        · subst q3; simp [zu]
        · have q4 : ¬ 4 * j + i = 4 * j + k := by omega
          have := hd i (by omega)
          simp only [zu, q4, if_true, if_false]
          simpa using this)
      have F : fx g (zu (zu g 45 8 (nI (2 + 6 * j + 2 + k + 1))) 52 (4 * j + k) (nI (gc c n (2 + 6 * j + 2 + k) - 48).toInt.toNat)) := (fx_r (by omega) _).tr (fx_c (Or.inr rfl) _)
      refine ⟨g', F.tr b1, b2.trans (by funext p; simp [zu]), b3, b4.trans (by simp [zu]), fun p hp1 => (b5 p hp1).trans (by
        have : ¬ p = 4 * j + k := by omega
        simp only [zu, this, if_true, if_false]
        simp), ?_⟩
      have hst2 : (some (some (.int (nI (gc c n (2 + 6 * j + 2 + k) - 48).toInt.toNat)), hp (zu g 45 8 (nI (2 + 6 * j + 2 + k + 1))) t) : Option (Option Value × zH)).bind (fun r => go L xs 107 69 95 [some (.ref 45), some (.int (nI fm)), some (.int (nI n)), x3, some (.int (nI k)), x5] (r.1.toList ++ []) r.2) = go L xs 107 69 72 [some (.ref 45), some (.int (nI fm)), some (.int (nI n)), x3, some (.int (nI (k + 1))), some (.int (nI (gc c n (2 + 6 * j + 2 + k) - 48).toInt.toNat))] [] (hp (zu (zu g 45 8 (nI (2 + 6 * j + 2 + k + 1))) 52 (4 * j + k) (nI (gc c n (2 + 6 * j + 2 + k) - 48).toInt.toNat)) t) := by
        simp (disch := omega) only [sX9_readsHouse_95, sX9_readsHouse_97, sX9_readsHouse_99, sX9_readsHouse_102, sX9_readsHouse_103, sX9_readsHouse_104, sX9_readsHouse_105, sX9_readsHouse_108, sX9_readsHouse_109, sX9_readsHouse_110, sX9_readsHouse_113, sX9_readsHouse_114, sX9_readsHouse_116, sX9_readsHouse_117, sX9_readsHouse_119, sX9_readsHouse_120, sX9_readsHouse_123, ↓reduceIte, if_true, if_false, Option.bind_some, Option.bind_none, Option.toList_some, Option.toList_none, List.cons_append, List.nil_append, Option.elim_some, true_or, or_true, or_false, false_or, true_and, and_true, and_false, false_and, zio1, zio0, zio01, not_true_eq_false, not_false_eq_true, nlt, neq, nlt0, n0lt, neq0, neq1, nm9, m9n, nadd, nadd1, nmul, ncl, zin_t, li4, h10, zuA, Nat.reduceEqDiff]
      rw [hst2]
      exact b6
    · rw [if_neg q1]
      refine ⟨zu g 45 8 (nI (2 + 6 * j + 2 + k)), fx_r (by omega) _, by funext p; simp [zu], by simpa [zu] using h10, by simp [zu], fun p _ => by simp [zu], Or.inl ⟨2 + 6 * j + 2 + k, by omega, by omega, by omega, by simp [zu], ha, fun z => q1 (hgo.mp z), ?_⟩⟩
      simp (disch := omega) only [sX9_readsHouse_95, sX9_readsHouse_97, sX9_readsHouse_99, sX9_readsHouse_102, sX9_readsHouse_103, ↓reduceIte, if_true, if_false, Option.bind_some, Option.bind_none, Option.toList_some, Option.toList_none, List.cons_append, List.nil_append, Option.elim_some, true_or, or_true, or_false, false_or, true_and, and_true, and_false, false_and, zio1, zio0, zio01, not_true_eq_false, not_false_eq_true, m9lt, zbo0]
end M19
