/-! The class: nights. -/
def tb (T : Int64) (n : Nat) : Bool := T.toBitVec.getLsbD n
theorem tb_or (a b : Int64) (n : Nat) : tb (a ||| b) n = (tb a n || tb b n) := by
  unfold tb
  rw [Int64.toBitVec_or, BitVec.getLsbD_or]
theorem tb_1 {m n : Nat} (hm : m ≤ 50) (hn : n ≤ 50) : tb ((1 : Int64) <<< ((nI m).toInt64 &&& 63)) n = decide (n = m) := by
  have : ∀ m, m ≤ 50 → ∀ n, n ≤ 50 → tb ((1 : Int64) <<< ((nI m).toInt64 &&& 63)) n = decide (n = m) := by decide +kernel
  exact this m hm n hn
theorem tb_10 : tb 1 0 = true := by decide
theorem bv_and1 (y : BitVec 64) : (y &&& 1#64 = 1#64) ↔ y.getLsbD 0 = true := by
  constructor
  · intro h
    have := congrArg (fun z => z.getLsbD 0) h
    simpa using this
  · intro h
    apply BitVec.eq_of_getLsbD_eq
    intro i hi
    rw [BitVec.getLsbD_and, BitVec.getLsbD_one]
    by_cases q : i = 0
    · subst q; simp [h]
    · simp [q]
theorem sh_am {n : Nat} (hn : n ≤ 50) : (((nI n).toInt64 &&& 63).toBitVec.smod 64).toNat = n := by
  have : ∀ n, n ≤ 50 → (((nI n).toInt64 &&& 63).toBitVec.smod 64).toNat = n := by decide +kernel
  exact this n hn
theorem tb_test {T : Int64} {n : Nat} (hn : n ≤ 50) : ((T >>> ((nI n).toInt64 &&& 63)) &&& 1 = 1) ↔ tb T n = true := by
  rw [← Int64.toBitVec_inj, Int64.toBitVec_and]
  show (T >>> ((nI n).toInt64 &&& 63)).toBitVec &&& 1#64 = 1#64 ↔ _
  rw [bv_and1, Int64.toBitVec_shiftRight]
  show (T.toBitVec.sshiftRight (((nI n).toInt64 &&& 63).toBitVec.smod 64).toNat).getLsbD 0 = true ↔ _
  rw [sh_am hn, BitVec.getLsbD_sshiftRight]
  unfold tb
  simp
  omega
theorem nsa (a u r : Nat) : nI a - nI u + nI r = nI (a + r) - nI u := by
  rw [← nadd, Int32.sub_eq_add_neg, Int32.sub_eq_add_neg, Int32.add_assoc, Int32.add_assoc, Int32.add_comm (-nI u)]
theorem nas (a b u : Nat) : nI a + (nI b - nI u) = nI (a + b) - nI u := by
  rw [← nadd, Int32.sub_eq_add_neg, Int32.sub_eq_add_neg, Int32.add_assoc]
theorem n0s {a b : Nat} (ha : a < 1073741824) (hb : b < 1073741824) : (0 < nI a - nI b) = (b < a) := by
  apply propext
  rw [Int32.lt_iff_toInt_lt, pk_sub_toInt ha hb]
  have : (0 : Int32).toInt = 0 := by decide
  omega
def prW (kd gv : Nat → Nat) (pl : Nat) (W : Nat → Nat) (h : Nat) : Nat := if kd h = 2 ∨ pl / 2 ^ h % 2 = 1 then W h * gv h / 2 else W h * gv h
def upW (kd rs : Nat → Nat) (pl : Nat) (W : Nat → Nat) (h : Nat) : Nat := if 0 < W h then (if 0 < kd h ∨ (kd h = 2 ∨ pl / 2 ^ h % 2 = 1) then 5 * rs h else 0) else 10 * rs h
def dpW (H : Nat) (kd gv rs : Nat → Nat) (pl : Nat) (W : Nat → Nat → Nat) : Nat → Nat → Nat
  | 0 => fun _ => 0
  | n + 1 => dst H (prW kd gv pl (W n)) (upW kd rs pl (W n)) (dpW H kd gv rs pl W n)
section C2
variable {L : Nat} {xs : Nat → Int32} {g g' : Nat → Nat → Int32} {t : Nat → Int64}
variable {H S : Nat} {kd bd gv rs dr w f l : Nat → Nat} {row : Nat → Int32} {o c pl : Nat}
/-- the bits of the nights in which something may change -/
def TNs (T : Int64) (k : Nat) (f l : Nat → Nat) (row : Nat → Int32) : Prop := tb T 0 = true ∧ ∀ j, j < k → row j ≠ -9 → tb T (f j) = true ∧ tb T (l j + 1) = true
theorem kX3_bg1 (ho : o = 19 ∨ o = 24) (hc : c = 14 ∨ c = 30 ∨ c = 34) (hG : CG9 g c H w f l row) : ∀ e k (t : Nat → Int64), k + e = 9 → TNs (t o) k f l row → ∃ t', (∀ a, a ≠ o → t' a = t a) ∧ TNs (t' o) 9 f l row ∧ go L xs 19 69 7 [some (.ref o), some (.ref c), some (.int (nI k))] [] (hp g t) = go L xs 19 69 69 [some (.ref o), some (.ref c), some (.int (nI 9))] [] (hp g t')
  | 0, k, t, hk, hT => by
    have hk : k = 9 := by omega
    subst hk
    refine ⟨t, fun _ _ => rfl, hT, ?_⟩
    simp (disch := omega) only [sX3_begin_7, sX3_begin_8, sX3_begin_10, ↓reduceIte, if_true, if_false, Option.bind_some, Option.bind_none, Option.toList_some, Option.toList_none, List.cons_append, List.nil_append, Option.elim_some, true_or, or_true, or_false, false_or, true_and, and_true, and_false, false_and, zio1, zio0, zio01, not_true_eq_false, not_false_eq_true, nlt, neq, nlt0, n0lt, neq0, neq1, nm9, m9n, nadd, nadd1, nmul, ncl, zin_t, li9, Nat.lt_irrefl]
  | e + 1, k, t, hk, hT => by
    obtain ⟨n0, n1, n2, n3, n4, n5, n6, n7, n8, n9, n10⟩ := nob ho
    have rc := rob hc
    have q : k < 9 := by omega
    have q9 : (nI k < 9) = True := by rw [li9, nlt (by omega) (by omega)]; exact eq_true q
    obtain ⟨r1, r2⟩ := hG k q
    by_cases q1 : row k = -9
    · obtain ⟨t', a1, a2, a3⟩ := kX3_bg1 ho hc hG e (k + 1) t (by omega) ⟨hT.1, fun j hj hr => by
        by_cases z : j = k
        · subst z; exact absurd q1 hr
        · exact hT.2 j (by omega) hr⟩
      refine ⟨t', a1, a2, ?_⟩
      rw [← a3, sX3_begin_7]
      simp (disch := omega) only [sX3_begin_8, sX3_begin_10, sX3_begin_13, sX3_begin_14, sX3_begin_15, sX3_begin_16, sX3_begin_18, sX3_begin_21, sX3_begin_22, sX3_begin_23, sX3_begin_26, sX3_begin_27, sX3_begin_28, sX3_begin_31, sX3_begin_34, sX3_begin_35, sX3_begin_36, sX3_begin_37, sX3_begin_38, sX3_begin_41, sX3_begin_42, sX3_begin_43, sX3_begin_46, sX3_begin_47, sX3_begin_48, sX3_begin_51, sX3_begin_54, sX3_begin_55, sX3_begin_56, sX3_begin_57, sX3_begin_58, sX3_begin_59, sX3_begin_60, sX3_begin_63, sX3_begin_66, ↓reduceIte, if_true, if_false, Option.bind_some, Option.bind_none, Option.toList_some, Option.toList_none, List.cons_append, List.nil_append, Option.elim_some, true_or, or_true, or_false, false_or, true_and, and_true, and_false, false_and, zio1, zio0, zio01, not_true_eq_false, not_false_eq_true, nlt, neq, nlt0, n0lt, neq0, neq1, nm9, m9n, nadd, nadd1, nmul, ncl, zin_t, q9, rc, r1, q1]
    · obtain ⟨m1, m2, m3, m4, m5, m6, m7⟩ := r2.resolve_left q1
      have hT2 : TNs ((t o ||| (1 : Int64) <<< ((nI (f k)).toInt64 &&& 63)) ||| (1 : Int64) <<< ((nI (l k + 1)).toInt64 &&& 63)) (k + 1) f l row := by
        refine ⟨by rw [tb_or, tb_or, hT.1]; rfl, fun j hj hr => ?_⟩
        by_cases z : j = k
        · subst z
          constructor
          · rw [tb_or, tb_or, tb_1 (by omega) (by omega)]; simp
          · rw [tb_or, tb_1 (m := l j + 1) (by omega) (by omega)]; simp
        · obtain ⟨b1, b2⟩ := hT.2 j (by omega) hr
          rw [tb_or, tb_or, tb_or, tb_or, b1, b2]
          simp
      obtain ⟨t', a1, a2, a3⟩ := kX3_bg1 ho hc hG e (k + 1) (zuJ (zuJ t o (t o ||| (1 : Int64) <<< ((nI (f k)).toInt64 &&& 63))) o ((t o ||| (1 : Int64) <<< ((nI (f k)).toInt64 &&& 63)) ||| (1 : Int64) <<< ((nI (l k + 1)).toInt64 &&& 63))) (by omega) (by simpa [zuJ] using hT2)
      refine ⟨t', fun a ha => (a1 a ha).trans (by simp [zuJ, ha]), a2, ?_⟩
      rw [← a3, sX3_begin_7]
      have hz : ∀ x, zuJ t o x o = x := fun x => by simp [zuJ]
      simp (disch := omega) only [sX3_begin_8, sX3_begin_10, sX3_begin_13, sX3_begin_14, sX3_begin_15, sX3_begin_16, sX3_begin_18, sX3_begin_21, sX3_begin_22, sX3_begin_23, sX3_begin_26, sX3_begin_27, sX3_begin_28, sX3_begin_31, sX3_begin_34, sX3_begin_35, sX3_begin_36, sX3_begin_37, sX3_begin_38, sX3_begin_41, sX3_begin_42, sX3_begin_43, sX3_begin_46, sX3_begin_47, sX3_begin_48, sX3_begin_51, sX3_begin_54, sX3_begin_55, sX3_begin_56, sX3_begin_57, sX3_begin_58, sX3_begin_59, sX3_begin_60, sX3_begin_63, sX3_begin_66, ↓reduceIte, if_true, if_false, Option.bind_some, Option.bind_none, Option.toList_some, Option.toList_none, List.cons_append, List.nil_append, Option.elim_some, true_or, or_true, or_false, false_or, true_and, and_true, and_false, false_and, zio1, zio0, zio01, not_true_eq_false, not_false_eq_true, nlt, neq, nlt0, n0lt, neq0, neq1, nm9, m9n, nadd, nadd1, nmul, ncl, zin_t, q9, rc, r1, q1, n0, n2, m4, m5, hz]
theorem kX3_bg2 (ho : o = 19 ∨ o = 24) : ∀ e k (g : Nat → Nat → Int32), k + e = 7 → (∀ h, h < k → g (o + 1) h = 0) → ∃ g', (∀ a, a ≠ o + 1 → g' a = g a) ∧ (∀ h, h < 7 → g' (o + 1) h = 0) ∧ go L xs 19 69 71 [some (.ref o), some (.ref c), some (.int (nI k))] [] (hp g t) = some (none, hp g' t)
  | 0, k, g, hk, h => by
    have hk : k = 7 := by omega
    subst hk
    refine ⟨g, fun _ _ => rfl, h, ?_⟩
    simp (disch := omega) only [sX3_begin_71, sX3_begin_72, sX3_begin_74, sX3_begin_90, ↓reduceIte, if_true, if_false, Option.bind_some, Option.bind_none, Option.toList_some, Option.toList_none, List.cons_append, List.nil_append, Option.elim_some, true_or, or_true, or_false, false_or, true_and, and_true, and_false, false_and, zio1, zio0, zio01, not_true_eq_false, not_false_eq_true, nlt, neq, nlt0, n0lt, neq0, neq1, nm9, m9n, nadd, nadd1, nmul, ncl, zin_t, li7, Nat.lt_irrefl]
  | e + 1, k, g, hk, h => by
    obtain ⟨n0, n1, n2, n3, n4, n5, n6, n7, n8, n9, n10⟩ := nob ho
    have q : k < 7 := by omega
    obtain ⟨g', a1, a2, a3⟩ := kX3_bg2 ho e (k + 1) (zu g (o + 1) k 0) (by omega) (fun j hj => by
      by_cases z : j = k
      · subst z; simp [zu]
      · simp [zu, z, h j (by omega)])
    refine ⟨g', fun a ha => (a1 a ha).trans (by funext p; simp [zu, ha]), a2, ?_⟩
    rw [← a3, sX3_begin_71]
    simp (disch := omega) only [sX3_begin_72, sX3_begin_74, sX3_begin_77, sX3_begin_78, sX3_begin_81, sX3_begin_82, sX3_begin_83, sX3_begin_84, sX3_begin_87, ↓reduceIte, if_true, if_false, Option.bind_some, Option.bind_none, Option.toList_some, Option.toList_none, List.cons_append, List.nil_append, Option.elim_some, true_or, or_true, or_false, false_or, true_and, and_true, and_false, false_and, zio1, zio0, zio01, not_true_eq_false, not_false_eq_true, nlt, neq, nlt0, n0lt, neq0, neq1, nm9, m9n, nadd, nadd1, nmul, ncl, zin_t, li7, q, n0, n3, n7]
theorem kX3_begin (ho : o = 19 ∨ o = 24) (hc : c = 14 ∨ c = 30 ∨ c = 34) (hG : CG9 g c H w f l row) : ∃ g' t', nf o g g' ∧ (∀ a, a ≠ o → t' a = t a) ∧ TNs (t' o) 9 f l row ∧ (∀ h, h < 7 → g' (o + 1) h = 0) ∧ go L xs 19 69 0 [some (.ref o), some (.ref c), none] [] (hp g t) = some (none, hp g' t') := by
  obtain ⟨n0, n1, n2, n3, n4, n5, n6, n7, n8, n9, n10⟩ := nob ho
  obtain ⟨t', a1, a2, a3⟩ := kX3_bg1 (L := L) (xs := xs) ho hc hG 9 0 (zuJ t o 1) (by omega) ⟨by simp only [zuJ, if_true]; exact tb_10, fun j hj => absurd hj (by omega)⟩
  obtain ⟨g', b1, b2, b3⟩ := kX3_bg2 (L := L) (xs := xs) (t := t') (c := c) ho 7 0 g (by omega) (fun h hh => absurd hh (by omega))
  refine ⟨g', t', fun a ha => b1 a (by omega), fun a ha => (a1 a ha).trans (by simp [zuJ, ha]), a2, b2, ?_⟩
  rw [nI_0] at a3 b3
  simp (disch := omega) only [sX3_begin_0, sX3_begin_1, sX3_begin_2, sX3_begin_5, sX3_begin_6, ↓reduceIte, if_true, if_false, Option.bind_some, Option.bind_none, Option.toList_some, Option.toList_none, List.cons_append, List.nil_append, Option.elim_some, true_or, or_true, or_false, false_or, true_and, and_true, and_false, false_and, zio1, zio0, zio01, not_true_eq_false, not_false_eq_true, n0]
  rw [a3]
  simp (disch := omega) only [sX3_begin_69, sX3_begin_70, ↓reduceIte, if_true, if_false, Option.bind_some, Option.bind_none, Option.toList_some, Option.toList_none, List.cons_append, List.nil_append, Option.elim_some, true_or, or_true, or_false, false_or, true_and, and_true, and_false, false_and, zio1, zio0, zio01, not_true_eq_false, not_false_eq_true]
  exact b3
theorem guw9_le (hG : CG9 g c H w f l row) {h n : Nat} : ∀ k, k ≤ 9 → (∀ a, a < H → True) → h < 7 → guw w f l row h n k ≤ k * 300 := by
  intro k hk _ hh
  refine smn_le k (fun j hj => ?_)
  split
  · rename_i q
    rcases (hG j (by omega)).2 with z | z
    · rw [z] at q
      have := m9n (a := h) (by omega)
      rw [q.1] at this
      simp at this
    · exact z.2.2.1
  · omega
theorem kX3_wg1 (ho : o = 19 ∨ o = 24) {x2 x4 : Option Value} : ∀ e k (g : Nat → Nat → Int32), k + e = 7 → (∀ h, h < k → g (o + 2) h = 0) → ∃ g', (∀ a, a ≠ o + 2 → g' a = g a) ∧ (∀ h, h < 7 → g' (o + 2) h = 0) ∧ go L xs 21 69 2 [some (.ref o), some (.ref c), x2, some (.int (nI k)), x4] [] (hp g t) = go L xs 21 69 21 [some (.ref o), some (.ref c), x2, some (.int (nI 7)), x4] [] (hp g' t)
  | 0, k, g, hk, h => by
    have hk : k = 7 := by omega
    subst hk
    refine ⟨g, fun _ _ => rfl, h, ?_⟩
    simp (disch := omega) only [sX3_weigh_2, sX3_weigh_3, sX3_weigh_5, ↓reduceIte, if_true, if_false, Option.bind_some, Option.bind_none, Option.toList_some, Option.toList_none, List.cons_append, List.nil_append, Option.elim_some, true_or, or_true, or_false, false_or, true_and, and_true, and_false, false_and, zio1, zio0, zio01, not_true_eq_false, not_false_eq_true, nlt, neq, nlt0, n0lt, neq0, neq1, nm9, m9n, nadd, nadd1, nmul, ncl, zin_t, li7, Nat.lt_irrefl]
  | e + 1, k, g, hk, h => by
    obtain ⟨n0, n1, n2, n3, n4, n5, n6, n7, n8, n9, n10⟩ := nob ho
    have q : k < 7 := by omega
    obtain ⟨g', a1, a2, a3⟩ := kX3_wg1 (x2 := x2) (x4 := x4) ho e (k + 1) (zu g (o + 2) k 0) (by omega) (fun j hj => by
      by_cases z : j = k
      · subst z; simp [zu]
      · simp [zu, z, h j (by omega)])
    refine ⟨g', fun a ha => (a1 a ha).trans (by funext p; simp [zu, ha]), a2, ?_⟩
    rw [← a3, sX3_weigh_2]
    simp (disch := omega) only [sX3_weigh_3, sX3_weigh_5, sX3_weigh_8, sX3_weigh_9, sX3_weigh_12, sX3_weigh_13, sX3_weigh_14, sX3_weigh_15, sX3_weigh_18, ↓reduceIte, if_true, if_false, Option.bind_some, Option.bind_none, Option.toList_some, Option.toList_none, List.cons_append, List.nil_append, Option.elim_some, true_or, or_true, or_false, false_or, true_and, and_true, and_false, false_and, zio1, zio0, zio01, not_true_eq_false, not_false_eq_true, nlt, neq, nlt0, n0lt, neq0, neq1, nm9, m9n, nadd, nadd1, nmul, ncl, zin_t, li7, q, n0, n4, n8]
theorem kX3_wg2 (ho : o = 19 ∨ o = 24) (hc : c = 14 ∨ c = 30 ∨ c = 34) {n : Nat} (hn : n < 50) : ∀ e k (g : Nat → Nat → Int32) (x4 : Option Value), k + e = 9 → CTn g H S kd bd gv rs dr → CG9 g c H w f l row → (∀ h, h < H → g (o + 2) h = nI (guw w f l row h n k)) → ∃ g', (∀ a, a ≠ o + 2 → g' a = g a) ∧ (∀ h, h < H → g' (o + 2) h = nI (guw w f l row h n 9)) ∧ go L xs 21 69 23 [some (.ref o), some (.ref c), some (.int (nI n)), some (.int (nI k)), x4] [] (hp g t) = some (none, hp g' t)
  | 0, k, g, x4, hk, hT, hG, h => by
    have hk : k = 9 := by omega
    subst hk
    refine ⟨g, fun _ _ => rfl, h, ?_⟩
    simp (disch := omega) only [sX3_weigh_23, sX3_weigh_24, sX3_weigh_26, sX3_weigh_83, ↓reduceIte, if_true, if_false, Option.bind_some, Option.bind_none, Option.toList_some, Option.toList_none, List.cons_append, List.nil_append, Option.elim_some, true_or, or_true, or_false, false_or, true_and, and_true, and_false, false_and, zio1, zio0, zio01, not_true_eq_false, not_false_eq_true, nlt, neq, nlt0, n0lt, neq0, neq1, nm9, m9n, nadd, nadd1, nmul, ncl, zin_t, li9, Nat.lt_irrefl]
  | e + 1, k, g, x4, hk, hT, hG, h => by
    obtain ⟨n0, n1, n2, n3, n4, n5, n6, n7, n8, n9, n10⟩ := nob ho
    have rc := rob hc
    have h7 := hT.2.1
    have q : k < 9 := by omega
    have q9 : (nI k < 9) = True := by rw [li9, nlt (by omega) (by omega)]; exact eq_true q
    obtain ⟨r1, r2⟩ := hG k q
    have hsk : ∀ (P : Prop), (∀ j, j < 7 → ¬ (row k = nI j ∧ f k ≤ n ∧ n ≤ l k)) → ∀ j, j < H → guw w f l row j n (k + 1) = guw w f l row j n k := fun _ hno j hj => by
      show guw w f l row j n k + (if row k = nI j ∧ f k ≤ n ∧ n ≤ l k then w k else 0) = _
      rw [if_neg (hno j (by omega))]; rfl
    by_cases q1 : row k = -9
    · obtain ⟨g', a1, a2, a3⟩ := kX3_wg2 ho hc hn e (k + 1) g (some (.int (-9))) (by omega) hT hG (fun j hj => by
        rw [hsk True (fun j hj z => by
          rw [q1] at z
          have := m9n (a := j) (by omega)
          rw [z.1] at this
          simp at this) j hj]
        exact h j hj)
      refine ⟨g', a1, a2, ?_⟩
      rw [← a3, sX3_weigh_23]
      simp (disch := omega) only [sX3_weigh_24, sX3_weigh_26, sX3_weigh_29, sX3_weigh_30, sX3_weigh_31, sX3_weigh_32, sX3_weigh_34, sX3_weigh_35, sX3_weigh_38, sX3_weigh_40, sX3_weigh_43, sX3_weigh_46, sX3_weigh_47, sX3_weigh_50, sX3_weigh_51, sX3_weigh_52, sX3_weigh_55, sX3_weigh_58, sX3_weigh_59, sX3_weigh_62, sX3_weigh_64, sX3_weigh_65, sX3_weigh_66, sX3_weigh_67, sX3_weigh_70, sX3_weigh_73, sX3_weigh_74, sX3_weigh_75, sX3_weigh_76, sX3_weigh_77, sX3_weigh_80, ↓reduceIte, if_true, if_false, Option.bind_some, Option.bind_none, Option.toList_some, Option.toList_none, List.cons_append, List.nil_append, Option.elim_some, true_or, or_true, or_false, false_or, true_and, and_true, and_false, false_and, zio1, zio0, zio01, not_true_eq_false, not_false_eq_true, nlt, neq, nlt0, n0lt, neq0, neq1, nm9, m9n, nadd, nadd1, nmul, ncl, zin_t, q9, rc, r1, q1, n0, n1, kX7_hasN hT]
    · obtain ⟨⟨m, mh, me⟩, m2, m3, m4, m5, m6, m7⟩ := r2.resolve_left q1
      have hth := kX0_isThere (L := L) (xs := xs) (t := t) (n := n) q m4 m5 (by omega) (by omega) (by omega)
      have hha := kX7_hasH (L := L) (xs := xs) (t := t) hT mh
      by_cases q2 : f k ≤ n ∧ n ≤ l k
      · rw [if_pos q2] at hth
        have hb := guw9_le (h := m) (n := n) hG k (by omega) (fun _ _ => trivial) (by omega)
        have hm := h m mh
        obtain ⟨g', a1, a2, a3⟩ := kX3_wg2 ho hc hn e (k + 1) (zu g (o + 2) m (nI (guw w f l row m n k + w k))) (some (.int (nI m))) (by omega) ((nf_zu (o := o) (by omega) _).town ho hT) ((nf_zu (o := o) (by omega) _).g9 ho hc hG) (fun j hj => by
          show _ = nI (guw w f l row j n k + (if row k = nI j ∧ f k ≤ n ∧ n ≤ l k then w k else 0))
          by_cases z : j = m
          · subst z; rw [if_pos ⟨me, q2⟩]; simp [zu]
          · rw [if_neg (fun y => z (by
              have := (neq (a := m) (b := j) (by omega) (by omega)).mp (me.symm.trans y.1)
              exact this.symm))]
            simp [zu, z, h j hj])
        refine ⟨g', fun a ha => (a1 a ha).trans (by funext p; simp [zu, ha]), a2, ?_⟩
        rw [← a3, sX3_weigh_23]
        simp (disch := omega) only [sX3_weigh_24, sX3_weigh_26, sX3_weigh_29, sX3_weigh_30, sX3_weigh_31, sX3_weigh_32, sX3_weigh_34, sX3_weigh_35, sX3_weigh_38, sX3_weigh_40, sX3_weigh_43, sX3_weigh_46, sX3_weigh_47, sX3_weigh_50, sX3_weigh_51, sX3_weigh_52, sX3_weigh_55, sX3_weigh_58, sX3_weigh_59, sX3_weigh_62, sX3_weigh_64, sX3_weigh_65, sX3_weigh_66, sX3_weigh_67, sX3_weigh_70, sX3_weigh_73, sX3_weigh_74, sX3_weigh_75, sX3_weigh_76, sX3_weigh_77, sX3_weigh_80, ↓reduceIte, if_true, if_false, Option.bind_some, Option.bind_none, Option.toList_some, Option.toList_none, List.cons_append, List.nil_append, Option.elim_some, true_or, or_true, or_false, false_or, true_and, and_true, and_false, false_and, zio1, zio0, zio01, not_true_eq_false, not_false_eq_true, nlt, neq, nlt0, n0lt, neq0, neq1, nm9, m9n, nadd, nadd1, nmul, ncl, zin_t, q9, rc, r1, me, n0, n1, n2, hha, hth, n4, n8, hm, m2]
      · rw [if_neg q2] at hth
        obtain ⟨g', a1, a2, a3⟩ := kX3_wg2 ho hc hn e (k + 1) g (some (.int (nI m))) (by omega) hT hG (fun j hj => by
          rw [hsk True (fun j hj z => q2 z.2) j hj]
          exact h j hj)
        refine ⟨g', a1, a2, ?_⟩
        rw [← a3, sX3_weigh_23]
        simp (disch := omega) only [sX3_weigh_24, sX3_weigh_26, sX3_weigh_29, sX3_weigh_30, sX3_weigh_31, sX3_weigh_32, sX3_weigh_34, sX3_weigh_35, sX3_weigh_38, sX3_weigh_40, sX3_weigh_43, sX3_weigh_46, sX3_weigh_47, sX3_weigh_50, sX3_weigh_51, sX3_weigh_52, sX3_weigh_55, sX3_weigh_58, sX3_weigh_59, sX3_weigh_62, sX3_weigh_64, sX3_weigh_65, sX3_weigh_66, sX3_weigh_67, sX3_weigh_70, sX3_weigh_73, sX3_weigh_74, sX3_weigh_75, sX3_weigh_76, sX3_weigh_77, sX3_weigh_80, ↓reduceIte, if_true, if_false, Option.bind_some, Option.bind_none, Option.toList_some, Option.toList_none, List.cons_append, List.nil_append, Option.elim_some, true_or, or_true, or_false, false_or, true_and, and_true, and_false, false_and, zio1, zio0, zio01, not_true_eq_false, not_false_eq_true, nlt, neq, nlt0, n0lt, neq0, neq1, nm9, m9n, nadd, nadd1, nmul, ncl, zin_t, q9, rc, r1, me, n0, n1, n2, hha, hth]
theorem kX3_weigh (ho : o = 19 ∨ o = 24) (hc : c = 14 ∨ c = 30 ∨ c = 34) {n : Nat} (hn : n < 50) (hT : CTn g H S kd bd gv rs dr) (hG : CG9 g c H w f l row) : ∃ g', (∀ a, a ≠ o + 2 → g' a = g a) ∧ (∀ h, h < H → g' (o + 2) h = nI (guw w f l row h n 9)) ∧ go L xs 21 69 0 [some (.ref o), some (.ref c), some (.int (nI n)), none, none] [] (hp g t) = some (none, hp g' t) := by
  have h7 := hT.2.1
  obtain ⟨g1, a1, a2, a3⟩ := kX3_wg1 (L := L) (xs := xs) (t := t) (c := c) (x2 := some (.int (nI n))) (x4 := none) ho 7 0 g (by omega) (fun h hh => absurd hh (by omega))
  have F : nf o g g1 := fun a ha => a1 a (by omega)
  obtain ⟨g2, b1, b2, b3⟩ := kX3_wg2 (L := L) (xs := xs) (t := t) ho hc hn 9 0 g1 none (by omega) (F.town ho hT) (F.g9 ho hc hG) (fun h hh => by rw [a2 h (by omega)]; exact nI_0.symm)
  refine ⟨g2, fun a ha => (b1 a ha).trans (a1 a ha), b2, ?_⟩
  rw [nI_0] at a3 b3
  simp (disch := omega) only [sX3_weigh_0, sX3_weigh_1, ↓reduceIte, if_true, if_false, Option.bind_some, Option.bind_none, Option.toList_some, Option.toList_none, List.cons_append, List.nil_append, Option.elim_some, true_or, or_true, or_false, false_or, true_and, and_true, and_false, false_and, zio1, zio0, zio01, not_true_eq_false, not_false_eq_true]
  rw [a3]
  simp (disch := omega) only [sX3_weigh_21, sX3_weigh_22, ↓reduceIte, if_true, if_false, Option.bind_some, Option.bind_none, Option.toList_some, Option.toList_none, List.cons_append, List.nil_append, Option.elim_some, true_or, or_true, or_false, false_or, true_and, and_true, and_false, false_and, zio1, zio0, zio01, not_true_eq_false, not_false_eq_true]
  exact b3
end C2
