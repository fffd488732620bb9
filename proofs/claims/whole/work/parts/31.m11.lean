/-! The reference: feast, piles, unseen. -/
section M11
variable {L : Nat} {xs : Nat → Int32} {g g' : Nat → Nat → Int32} {t : Nat → Int64}
variable {H S G R : Nat} {kd bd gv rs dr w f l rh rd rt : Nat → Nat} {row : Nat → Int32}
variable {om : Int32} {omw omf pl : Nat}
theorem MOs.in (hO : MOs g (-9) 0 0 0) {h W n : Nat} (hh : h < 7) (hW : 1 ≤ W ∧ W ≤ 300) (hn : n < 2147483648) : MOs (zu (zu (zu g 45 21 (nI h)) 45 22 (nI W)) 45 23 (nI n)) (nI h) W n 0 := by
  obtain ⟨o1, o2, o3, o4, -⟩ := hO
  refine ⟨by simp [zu], by simp [zu], by simp [zu], by simpa [zu] using o4, hW.2, hn, by omega, Or.inr ⟨hW.1, h, hh, rfl⟩⟩
theorem MOs.in2 (hO : MOs g (-9) 0 0 0) {h W : Nat} (hh : h < 7) (hW : 1 ≤ W ∧ W ≤ 300) : MOs (zu (zu g 45 21 (nI h)) 45 22 (nI W)) (nI h) W 0 0 := by
  obtain ⟨o1, o2, o3, o4, -⟩ := hO
  refine ⟨by simp [zu], by simp [zu], by simpa [zu] using o3, by simpa [zu] using o4, hW.2, by omega, by omega, Or.inr ⟨hW.1, h, hh, rfl⟩⟩
theorem MOs.piles (hO : MOs g (-9) 0 0 0) {p : Nat} (hp1 : p < 128) : MOs (zu g 45 24 (nI p)) (-9) 0 0 p := by
  obtain ⟨o1, o2, o3, o4, -⟩ := hO
  refine ⟨by simpa [zu] using o1, by simpa [zu] using o2, by simpa [zu] using o3, by simp [zu], by omega, by omega, hp1, Or.inl rfl⟩
theorem fr.sc (hf : fr g g') {q : Nat} (hq : 21 ≤ q ∧ q ≤ 24) (v : Int32) : fr g (zu g' 45 q v) := by
  refine ⟨fun a x1 x2 x3 x4 => ?_, fun a x1 x2 => ?_, fun j hj => ?_⟩
  · rw [← hf.1 a x1 x2 x3 x4]; funext b; simp [zu, x2]
  · rw [← hf.2.1 a x1 x2]; funext b
    have : a ≠ 45 := by omega
    simp [zu, this]
  · rw [← hf.2.2 j hj]
    have : j ≠ q := by omega
    simp [zu, this]
theorem ff_lo (P : Nat → Prop) [DecidablePred P] : ∀ e k x, ff P e k = some x → k ≤ x ∧ x < k + e
  | 0, k, x, h => by cases h
  | e + 1, k, x, h => by
    unfold ff at h
    split at h
    · cases h; omega
    · have := ff_lo P e (k + 1) x h; omega
/-- how long a feast lasts -/
def fst_ (dr : Nat → Nat) (D : Nat → Nat → Nat) (h n : Nat) : Nat := match ff (fun x => 50 * dr h ≤ D (x + 1) h) (50 - n) n with
  | some x => x - n
  | none => 50 - n
theorem kX9_fe_loop {h n W : Nat} (hh : h < H) (hn : n ≤ 49) : ∀ e k (g : Nat → Nat → Int32), k + e = 50 → MTn g H S kd bd gv rs dr → MGs g H G w f l row → MOs g om omw omf pl → (∀ h, h < H → g 57 h = nI (dp H G kd gv rs w f l row om omw omf pl k h)) → ∃ g', fr g g' ∧ go L xs 138 69 59 [some (.ref 45), some (.int (nI h)), some (.int (nI W)), some (.int (nI n)), some (.int (nI k))] [] (hp g t) = some (some (.int (nI (match ff (fun x => n ≤ x ∧ 50 * dr h ≤ dp H G kd gv rs w f l row om omw omf pl (x + 1) h) e k with
    | some x => x - n
    | none => 50 - n))), hp g' t)
  | 0, k, g, hk, hT, hG, hO, hD => by
    have hk : k = 50 := by omega
    subst hk
    refine ⟨g, fr.rf, ?_⟩
    simp (disch := omega) only [sX9_feast_59, sX9_feast_61, sX9_feast_63, sX9_feast_97, sX9_feast_99, sX9_feast_100, sX9_feast_101, ↓reduceIte, if_true, if_false, Option.bind_some, Option.bind_none, Option.toList_some, Option.toList_none, List.cons_append, List.nil_append, Option.elim_some, true_or, or_true, or_false, false_or, true_and, and_true, and_false, false_and, zio1, zio0, zio01, not_true_eq_false, not_false_eq_true, nlt, neq, nlt0, n0lt, neq0, neq1, nm9, m9n, nadd, nadd1, nmul, ncl, zin_t, li50, Nat.lt_irrefl, ff, nsub]
  | e + 1, k, g, hk, hT, hG, hO, hD => by
    have hlt : k < 50 := by omega
    obtain ⟨g1, f1, o1, d1, e1⟩ := kX9_night (L := L) (xs := xs) (t := t) (n := k) (by omega) hT hG hO hD
    have hu := kX9_isUnder (L := L) (xs := xs) (t := t) (D := dp H G kd gv rs w f l row om omw omf pl (k + 1)) (f1.town hT) hh (d1 h hh) (dq_le (f1.town hT) (f1.guests hG) o1 (by omega) hh)
    rw [sX9_feast_59]
    unfold ff
    by_cases q1 : n ≤ k
    · by_cases q2 : 50 * dr h ≤ dp H G kd gv rs w f l row om omw omf pl (k + 1) h
      · refine ⟨g1, f1, ?_⟩
        rw [if_pos q2] at hu
        rw [if_pos ⟨q1, q2⟩]
        simp (disch := omega) only [sX9_feast_61, sX9_feast_63, sX9_feast_66, sX9_feast_67, sX9_feast_69, sX9_feast_72, sX9_feast_74, sX9_feast_75, sX9_feast_78, sX9_feast_79, sX9_feast_80, sX9_feast_83, sX9_feast_86, sX9_feast_88, sX9_feast_89, sX9_feast_90, sX9_feast_91, sX9_feast_94, ↓reduceIte, if_true, if_false, Option.bind_some, Option.bind_none, Option.toList_some, Option.toList_none, List.cons_append, List.nil_append, Option.elim_some, true_or, or_true, or_false, false_or, true_and, and_true, and_false, false_and, zio1, zio0, zio01, not_true_eq_false, not_false_eq_true, nlt, neq, nlt0, n0lt, neq0, neq1, nm9, m9n, nadd, nadd1, nmul, ncl, zin_t, li50, hlt, e1, eq_false (Nat.not_lt.mpr q1), hu, nsub]
      · rw [if_neg q2] at hu
        rw [if_neg (fun z => q2 z.2)]
        obtain ⟨g2, f2, e2⟩ := kX9_fe_loop (W := W) hh hn e (k + 1) g1 (by omega) (f1.town hT) (f1.guests hG) o1 d1
        refine ⟨g2, f1.tr f2, ?_⟩
        simp (disch := omega) only [sX9_feast_61, sX9_feast_63, sX9_feast_66, sX9_feast_67, sX9_feast_69, sX9_feast_72, sX9_feast_74, sX9_feast_75, sX9_feast_78, sX9_feast_79, sX9_feast_80, sX9_feast_83, sX9_feast_86, sX9_feast_88, sX9_feast_89, sX9_feast_90, sX9_feast_91, sX9_feast_94, ↓reduceIte, if_true, if_false, Option.bind_some, Option.bind_none, Option.toList_some, Option.toList_none, List.cons_append, List.nil_append, Option.elim_some, true_or, or_true, or_false, false_or, true_and, and_true, and_false, false_and, zio1, zio0, zio01, not_true_eq_false, not_false_eq_true, nlt, neq, nlt0, n0lt, neq0, neq1, nm9, m9n, nadd, nadd1, nmul, ncl, zin_t, li50, hlt, e1, eq_false (Nat.not_lt.mpr q1), hu]
        exact e2
    · rw [if_neg (fun z => q1 z.1)]
      obtain ⟨g2, f2, e2⟩ := kX9_fe_loop (W := W) hh hn e (k + 1) g1 (by omega) (f1.town hT) (f1.guests hG) o1 d1
      refine ⟨g2, f1.tr f2, ?_⟩
      simp (disch := omega) only [sX9_feast_61, sX9_feast_63, sX9_feast_66, sX9_feast_67, sX9_feast_69, sX9_feast_72, sX9_feast_74, sX9_feast_75, sX9_feast_78, sX9_feast_79, sX9_feast_80, sX9_feast_83, sX9_feast_86, sX9_feast_88, sX9_feast_89, sX9_feast_90, sX9_feast_91, sX9_feast_94, ↓reduceIte, if_true, if_false, Option.bind_some, Option.bind_none, Option.toList_some, Option.toList_none, List.cons_append, List.nil_append, Option.elim_some, true_or, or_true, or_false, false_or, true_and, and_true, and_false, false_and, zio1, zio0, zio01, not_true_eq_false, not_false_eq_true, nlt, neq, nlt0, n0lt, neq0, neq1, nm9, m9n, nadd, nadd1, nmul, ncl, zin_t, li50, hlt, e1, eq_true (Nat.not_le.mp q1)]
      exact e2
theorem ff_skip {P : Nat → Prop} [DecidablePred P] {n : Nat} : ∀ e k, k ≤ n → n ≤ k + e → ff (fun x => n ≤ x ∧ P x) e k = ff P (k + e - n) n
  | 0, k, h1, h2 => by
    rw [show k + 0 - n = 0 by omega]
    rfl
  | e + 1, k, h1, h2 => by
    by_cases q : k = n
    · subst q
      rw [show k + (e + 1) - k = e + 1 by omega]
      have gen : ∀ e j, k ≤ j → ff (fun x => k ≤ x ∧ P x) e j = ff P e j := by
        intro e
        induction e with
        | zero => intro j _; rfl
        | succ e ih =>
          intro j hj
          unfold ff
          rw [ih (j + 1) (by omega)]
          by_cases z : P j
          · rw [if_pos z, if_pos ⟨hj, z⟩]
          · rw [if_neg z, if_neg (fun y => z y.2)]
      exact gen (e + 1) k (Nat.le_refl _)
    · show (if n ≤ k ∧ P k then some k else ff (fun x => n ≤ x ∧ P x) e (k + 1)) = _
      rw [if_neg (fun z => q (by omega)), ff_skip e (k + 1) (by omega) (by omega)]
      rw [show k + 1 + e - n = k + (e + 1) - n by omega]
theorem qX9_feast (hT : MTn g H S kd bd gv rs dr) (hG : MGs g H G w f l row) {x y z : Int32} : ∃ g', fr g g' ∧ go L xs 138 69 0 [some (.ref 45), some (.int x), some (.int y), some (.int z), none] [] (hp g t) = some (some (.int (if 0 ≤ x.toInt ∧ x.toInt < H then (if (1 ≤ y.toInt ∧ y.toInt ≤ 300) ∧ (0 ≤ z.toInt ∧ z.toInt ≤ 49) then nI (fst_ dr (dp H G kd gv rs w f l row x y.toInt.toNat z.toInt.toNat 0) x.toInt.toNat z.toInt.toNat) else -2) else -1)), hp g' t) := by
  have h1 := kX9_nH (L := L) (xs := xs) (t := t) (x := x) hT
  have h2 := kX9_inI (L := L) (xs := xs) (g := g) (t := t) (x := y) (b := 1) (c := 300) (lo := 1) (hi := 300) (by decide) (by decide)
  have h3 := kX9_inI (L := L) (xs := xs) (g := g) (t := t) (x := z) (b := 0) (c := 49) (lo := 0) (hi := 49) (by decide) (by decide)
  have t2 := hT.2.1
  by_cases q1 : 0 ≤ x.toInt ∧ x.toInt < H
  · rw [if_pos q1] at h1 ⊢
    by_cases q2 : 1 ≤ y.toInt ∧ y.toInt ≤ 300
    · rw [if_pos q2] at h2
      by_cases q3 : 0 ≤ z.toInt ∧ z.toInt ≤ 49
      · rw [if_pos q3] at h3
        rw [if_pos ⟨q2, q3⟩]
        have hx := nI_back q1.1
        have hy := nI_back (x := y) (by omega)
        have hz := nI_back q3.1
        generalize hk : x.toInt.toNat = k at hx
        generalize hm : y.toInt.toNat = m at hy
        generalize hn : z.toInt.toNat = n at hz
        subst hx hy hz
        have := nI_toInt (n := m) (by have := q2.2; omega)
        obtain ⟨g1, f1, o1, d1, e1⟩ := kX9_beginPlain (L := L) (xs := xs) (t := t) (g := g)
        have f2 : fr g (zu (zu (zu g1 45 21 (nI k)) 45 22 (nI m)) 45 23 (nI n)) := ((f1.sc (by omega) _).sc (by omega) _).sc (by omega) _
        obtain ⟨g2, f3, e2⟩ := kX9_fe_loop (L := L) (xs := xs) (t := t) (h := k) (n := n) (W := m) (by omega) (by omega) 50 0 (zu (zu (zu g1 45 21 (nI k)) 45 22 (nI m)) 45 23 (nI n)) (by omega) (f2.town hT) (f2.guests hG) (o1.in (by omega) (by omega) (by omega)) (fun h hh => by
          have := d1 h (by omega)
          simp only [zu]
          rw [if_neg (by omega), if_neg (by omega), if_neg (by omega), this]
          exact nI_0.symm)
        refine ⟨g2, f2.tr f3, ?_⟩
        rw [nI_0] at e2
        rw [ff_skip 50 0 (by omega) (by omega), show 0 + 50 - n = 50 - n by omega] at e2
        simp (disch := omega) only [sX9_feast_0, sX9_feast_1, sX9_feast_2, sX9_feast_5, sX9_feast_8, sX9_feast_9, sX9_feast_10, sX9_feast_11, sX9_feast_12, sX9_feast_13, sX9_feast_16, sX9_feast_19, sX9_feast_22, sX9_feast_23, sX9_feast_24, sX9_feast_25, sX9_feast_28, sX9_feast_31, sX9_feast_34, sX9_feast_36, sX9_feast_37, sX9_feast_38, sX9_feast_41, sX9_feast_42, sX9_feast_43, sX9_feast_46, sX9_feast_47, sX9_feast_48, sX9_feast_51, sX9_feast_52, sX9_feast_53, sX9_feast_56, sX9_feast_57, ↓reduceIte, if_true, if_false, Option.bind_some, Option.bind_none, Option.toList_some, Option.toList_none, List.cons_append, List.nil_append, Option.elim_some, true_or, or_true, or_false, false_or, true_and, and_true, and_false, false_and, zio1, zio0, zio01, not_true_eq_false, not_false_eq_true, nlt, neq, nlt0, n0lt, neq0, neq1, nm9, m9n, nadd, nadd1, nmul, ncl, zin_t, h1, h2, h3, e1]
        exact e2
      · rw [if_neg q3] at h3
        rw [if_neg (fun q => q3 q.2)]
        refine ⟨g, fr.rf, ?_⟩
        simp (disch := omega) only [sX9_feast_0, sX9_feast_1, sX9_feast_2, sX9_feast_5, sX9_feast_8, sX9_feast_9, sX9_feast_10, sX9_feast_11, sX9_feast_12, sX9_feast_13, sX9_feast_16, sX9_feast_19, sX9_feast_22, sX9_feast_23, sX9_feast_24, sX9_feast_25, sX9_feast_28, sX9_feast_31, sX9_feast_34, sX9_feast_36, ↓reduceIte, if_true, if_false, Option.bind_some, Option.bind_none, Option.toList_some, Option.toList_none, List.cons_append, List.nil_append, Option.elim_some, true_or, or_true, or_false, false_or, true_and, and_true, and_false, false_and, zio1, zio0, zio01, not_true_eq_false, not_false_eq_true, h1, h2, h3]
    · rw [if_neg q2] at h2
      rw [if_neg (fun q => q2 q.1)]
      refine ⟨g, fr.rf, ?_⟩
      simp (disch := omega) only [sX9_feast_0, sX9_feast_1, sX9_feast_2, sX9_feast_5, sX9_feast_8, sX9_feast_9, sX9_feast_10, sX9_feast_11, sX9_feast_12, sX9_feast_13, sX9_feast_16, sX9_feast_19, sX9_feast_22, sX9_feast_23, sX9_feast_24, sX9_feast_25, sX9_feast_28, sX9_feast_31, sX9_feast_34, sX9_feast_36, ↓reduceIte, if_true, if_false, Option.bind_some, Option.bind_none, Option.toList_some, Option.toList_none, List.cons_append, List.nil_append, Option.elim_some, true_or, or_true, or_false, false_or, true_and, and_true, and_false, false_and, zio1, zio0, zio01, not_true_eq_false, not_false_eq_true, h1, h2]
  · rw [if_neg q1] at h1 ⊢
    refine ⟨g, fr.rf, ?_⟩
    simp (disch := omega) only [sX9_feast_0, sX9_feast_1, sX9_feast_2, sX9_feast_5, sX9_feast_8, sX9_feast_9, sX9_feast_10, sX9_feast_11, sX9_feast_12, sX9_feast_13, sX9_feast_16, sX9_feast_19, sX9_feast_22, sX9_feast_23, sX9_feast_24, sX9_feast_25, sX9_feast_28, sX9_feast_31, sX9_feast_34, sX9_feast_36, ↓reduceIte, if_true, if_false, Option.bind_some, Option.bind_none, Option.toList_some, Option.toList_none, List.cons_append, List.nil_append, Option.elim_some, true_or, or_true, or_false, false_or, true_and, and_true, and_false, false_and, zio1, zio0, zio01, not_true_eq_false, not_false_eq_true, h1]
/-- the number of bits of a set -/
def bts (p : Nat) : Nat := p % 2 + p / 2 % 2 + p / 4 % 2 + p / 8 % 2 + p / 16 % 2 + p / 32 % 2 + p / 64 % 2
theorem an1 {p : Nat} (h : p < 128) : nI p &&& 1 = nI (p % 2) := by
  have : ∀ p, p < 128 → nI p &&& 1 = nI (p % 2) := by decide +kernel
  exact this p h
theorem sh1 {p : Nat} (h : p < 128) : nI p >>> ((1 : Int32) &&& 31) = nI (p / 2) := by
  have : ∀ p, p < 128 → nI p >>> ((1 : Int32) &&& 31) = nI (p / 2) := by decide +kernel
  exact this p h
theorem kX9_bi_loop : ∀ e p c (x0 : Option Value), p < 2 ^ e → e ≤ 7 → go L xs 145 69 4 [x0, some (.int (nI c)), some (.int (nI p))] [] (hp g t) = some (some (.int (nI (c + bts p))), hp g t)
  | 0, p, c, x0, hp1, _ => by
    have : p = 0 := by simpa using hp1
    subst this
    simp (disch := omega) only [sX9_bits_0, sX9_bits_1, sX9_bits_2, sX9_bits_3, sX9_bits_4, sX9_bits_5, sX9_bits_8, sX9_bits_9, sX9_bits_10, sX9_bits_11, sX9_bits_12, sX9_bits_13, sX9_bits_14, sX9_bits_15, sX9_bits_16, sX9_bits_17, sX9_bits_18, sX9_bits_21, sX9_bits_22, ↓reduceIte, if_true, if_false, Option.bind_some, Option.bind_none, Option.toList_some, Option.toList_none, List.cons_append, List.nil_append, Option.elim_some, true_or, or_true, or_false, false_or, true_and, and_true, and_false, false_and, zio1, zio0, zio01, not_true_eq_false, not_false_eq_true, nlt, neq, nlt0, n0lt, neq0, neq1, nm9, m9n, nadd, nadd1, nmul, ncl, zin_t, Nat.lt_irrefl]
    rfl
  | e + 1, p, c, x0, hp1, he => by
    have h7 : p < 128 := Nat.lt_of_lt_of_le hp1 (by
      have : 2 ^ (e + 1) ≤ 2 ^ 7 := Nat.pow_le_pow_right (by omega) he
      simpa using this)
    have hb : bts p = p % 2 + bts (p / 2) := by unfold bts; omega
    by_cases q : p = 0
    · subst q
      simp (disch := omega) only [sX9_bits_0, sX9_bits_1, sX9_bits_2, sX9_bits_3, sX9_bits_4, sX9_bits_5, sX9_bits_8, sX9_bits_9, sX9_bits_10, sX9_bits_11, sX9_bits_12, sX9_bits_13, sX9_bits_14, sX9_bits_15, sX9_bits_16, sX9_bits_17, sX9_bits_18, sX9_bits_21, sX9_bits_22, ↓reduceIte, if_true, if_false, Option.bind_some, Option.bind_none, Option.toList_some, Option.toList_none, List.cons_append, List.nil_append, Option.elim_some, true_or, or_true, or_false, false_or, true_and, and_true, and_false, false_and, zio1, zio0, zio01, not_true_eq_false, not_false_eq_true, nlt, neq, nlt0, n0lt, neq0, neq1, nm9, m9n, nadd, nadd1, nmul, ncl, zin_t, Nat.lt_irrefl]
      rfl
    · have ih := kX9_bi_loop e (p / 2) (c + p % 2) x0 (by rw [Nat.pow_succ] at hp1; omega) (by omega)
      have q1 : 0 < p := by omega
      rw [sX9_bits_4]
      simp (disch := omega) only [sX9_bits_5, sX9_bits_8, sX9_bits_9, sX9_bits_10, sX9_bits_11, sX9_bits_12, sX9_bits_13, sX9_bits_14, sX9_bits_15, sX9_bits_16, sX9_bits_17, sX9_bits_18, ↓reduceIte, if_true, if_false, Option.bind_some, Option.bind_none, Option.toList_some, Option.toList_none, List.cons_append, List.nil_append, Option.elim_some, true_or, or_true, or_false, false_or, true_and, and_true, and_false, false_and, zio1, zio0, zio01, not_true_eq_false, not_false_eq_true, nlt, neq, nlt0, n0lt, neq0, neq1, nm9, m9n, nadd, nadd1, nmul, ncl, zin_t, q1, an1, sh1]
      rw [ih, hb, Nat.add_assoc]
theorem kX9_bits {p : Nat} (h : p < 128) : go L xs 145 69 0 [some (.int (nI p)), none, none] [] (hp g t) = some (some (.int (nI (bts p))), hp g t) := by
  have e := kX9_bi_loop (L := L) (xs := xs) (g := g) (t := t) 7 p 0 (some (.int (nI p))) (by simpa using h) (by omega)
  rw [nI_0, Nat.zero_add] at e
  simp only [sX9_bits_0, sX9_bits_1, sX9_bits_2, sX9_bits_3]
  exact e
/-- the fewest of values f over the numbers from k on for which P holds: the least one, and its number -/
def bst (P : Nat → Prop) [DecidablePred P] (f : Nat → Nat) : Nat → Nat → Option (Nat × Nat) → Option (Nat × Nat)
  | 0, _, b => b
  | e + 1, k, b => bst P f e (k + 1) (if P k then (match b with
    | none => some (f k, k)
    | some q => if f k < q.1 then some (f k, k) else some q) else b)
def b1 (b : Option (Nat × Nat)) : Int32 := match b with
  | none => -9
  | some q => nI q.1
def b2 (b : Option (Nat × Nat)) : Int32 := match b with
  | none => 0
  | some q => nI q.2
theorem sh_1 {h : Nat} (hh : h ≤ 7) : (1 : Int32) <<< (nI h &&& 31) = nI (2 ^ h) := by
  have : ∀ h, h ≤ 7 → (1 : Int32) <<< (nI h &&& 31) = nI (2 ^ h) := by decide +kernel
  exact this h hh
theorem m9lt : ((-9 : Int32) < 0) = True := by decide
theorem plk_le {D : Nat → Nat} (h7 : H ≤ 7) : plk H S D ≤ 6 := Nat.le_trans (cnt_le _ _) (by omega)
theorem apl_le (h7 : H ≤ 7) : apl H S G kd gv rs w f l row om omw omf pl ≤ 300 := by
  have : apl H S G kd gv rs w f l row om omw omf pl ≤ 50 * 6 := smn_le 50 (fun k _ => plk_le h7)
  omega
theorem kX9_pi_loop {x : Int32} (hH0 : H ≤ 7) : ∀ e k (g : Nat → Nat → Int32) (b : Option (Nat × Nat)) (x5 : Option Value), k + e = 2 ^ H → (∀ q, b = some q → q.1 ≤ 300) → MTn g H S kd bd gv rs dr → MGs g H G w f l row → ∃ g', fr g g' ∧ go L xs 146 69 31 [some (.ref 45), some (.int x), some (.int (b2 b)), some (.int (b1 b)), some (.int (nI k)), x5] [] (hp g t) = some (some (.int (if x = 0 then b1 (bst (fun p => bts p < 3) (fun p => apl H S G kd gv rs w f l row (-9) 0 0 p) e k b) else b2 (bst (fun p => bts p < 3) (fun p => apl H S G kd gv rs w f l row (-9) 0 0 p) e k b))), hp g' t)
  | 0, k, g, b, x5, hk, hb, hT, hG => by
    have hk : k = 2 ^ H := by omega
    subst hk
    have h128 : 2 ^ H ≤ 128 := by
      have : 2 ^ H ≤ 2 ^ 7 := Nat.pow_le_pow_right (by omega) hH0
      simpa using this
    refine ⟨g, fr.rf, ?_⟩
    have t1 := hT.1
    by_cases q : x = 0
    · simp (disch := omega) only [sX9_piles_31, sX9_piles_33, sX9_piles_34, sX9_piles_35, sX9_piles_38, sX9_piles_39, sX9_piles_89, sX9_piles_90, sX9_piles_93, sX9_piles_94, sX9_piles_97, sX9_piles_98, ↓reduceIte, if_true, if_false, Option.bind_some, Option.bind_none, Option.toList_some, Option.toList_none, List.cons_append, List.nil_append, Option.elim_some, true_or, or_true, or_false, false_or, true_and, and_true, and_false, false_and, zio1, zio0, zio01, not_true_eq_false, not_false_eq_true, nlt, neq, nlt0, n0lt, neq0, neq1, nm9, m9n, nadd, nadd1, nmul, ncl, zin_t, t1, sh_1, Nat.lt_irrefl, q, bst]
    · simp (disch := omega) only [sX9_piles_31, sX9_piles_33, sX9_piles_34, sX9_piles_35, sX9_piles_38, sX9_piles_39, sX9_piles_89, sX9_piles_90, sX9_piles_93, sX9_piles_94, sX9_piles_97, sX9_piles_98, ↓reduceIte, if_true, if_false, Option.bind_some, Option.bind_none, Option.toList_some, Option.toList_none, List.cons_append, List.nil_append, Option.elim_some, true_or, or_true, or_false, false_or, true_and, and_true, and_false, false_and, zio1, zio0, zio01, not_true_eq_false, not_false_eq_true, nlt, neq, nlt0, n0lt, neq0, neq1, nm9, m9n, nadd, nadd1, nmul, ncl, zin_t, t1, sh_1, Nat.lt_irrefl, q, bst]
  | e + 1, k, g, b, x5, hk, hb, hT, hG => by
    have h128 : 2 ^ H ≤ 128 := by
      have : 2 ^ H ≤ 2 ^ 7 := Nat.pow_le_pow_right (by omega) hH0
      simpa using this
    have hlt : k < 2 ^ H := by omega
    have t1 := hT.1
    have hbt := kX9_bits (L := L) (xs := xs) (g := g) (t := t) (p := k) (by omega)
    have hbl : bts k ≤ 7 := by unfold bts; omega
    rw [sX9_piles_31]
    by_cases q1 : bts k < 3
    · obtain ⟨g1, f1, o1, d1, e1⟩ := kX9_beginPlain (L := L) (xs := xs) (t := t) (g := g)
      have f2 : fr g (zu g1 45 24 (nI k)) := f1.sc (by omega) _
      obtain ⟨g2, f3, o2, e2⟩ := kX9_allPlanks (L := L) (xs := xs) (t := t) (f2.town hT) (f2.guests hG) (o1.piles (p := k) (by omega)) (fun h hh => by
        have := d1 h (by omega)
        simp only [zu]
        rw [if_neg (by omega), this])
      have f4 := f2.tr f3
      have hal := apl_le (S := S) (G := G) (kd := kd) (gv := gv) (rs := rs) (w := w) (f := f) (l := l) (row := row) (om := -9) (omw := 0) (omf := 0) (pl := k) hH0
      cases b with
      | none =>
        obtain ⟨g3, f5, e3⟩ := kX9_pi_loop (x := x) hH0 e (k + 1) g2 (some (apl H S G kd gv rs w f l row (-9) 0 0 k, k)) (some (.int (nI (apl H S G kd gv rs w f l row (-9) 0 0 k)))) (by omega) (fun q hq => by cases hq; exact hal) (f4.town hT) (f4.guests hG)
        refine ⟨g3, f4.tr f5, ?_⟩
        unfold bst
        rw [if_pos q1]
        simp (disch := omega) only [sX9_piles_33, sX9_piles_34, sX9_piles_35, sX9_piles_38, sX9_piles_39, sX9_piles_42, sX9_piles_44, sX9_piles_47, sX9_piles_48, sX9_piles_51, sX9_piles_52, sX9_piles_55, sX9_piles_56, sX9_piles_58, sX9_piles_61, sX9_piles_62, sX9_piles_65, sX9_piles_67, sX9_piles_68, sX9_piles_71, sX9_piles_73, sX9_piles_74, sX9_piles_77, sX9_piles_79, sX9_piles_80, sX9_piles_82, sX9_piles_83, sX9_piles_86, ↓reduceIte, if_true, if_false, Option.bind_some, Option.bind_none, Option.toList_some, Option.toList_none, List.cons_append, List.nil_append, Option.elim_some, true_or, or_true, or_false, false_or, true_and, and_true, and_false, false_and, zio1, zio0, zio01, not_true_eq_false, not_false_eq_true, nlt, neq, nlt0, n0lt, neq0, neq1, nm9, m9n, nadd, nadd1, nmul, ncl, zin_t, t1, sh_1, hlt, hbt, li3, q1, e1, e2, b1, b2, m9lt]
        exact e3
      | some q =>
        have hq3 := hb q rfl
        by_cases q2 : apl H S G kd gv rs w f l row (-9) 0 0 k < q.1
        · obtain ⟨g3, f5, e3⟩ := kX9_pi_loop (x := x) hH0 e (k + 1) g2 (some (apl H S G kd gv rs w f l row (-9) 0 0 k, k)) (some (.int (nI (apl H S G kd gv rs w f l row (-9) 0 0 k)))) (by omega) (fun q hq => by cases hq; exact hal) (f4.town hT) (f4.guests hG)
          refine ⟨g3, f4.tr f5, ?_⟩
          unfold bst
          dsimp only
          rw [if_pos q1, if_pos q2]
          simp (disch := omega) only [sX9_piles_33, sX9_piles_34, sX9_piles_35, sX9_piles_38, sX9_piles_39, sX9_piles_42, sX9_piles_44, sX9_piles_47, sX9_piles_48, sX9_piles_51, sX9_piles_52, sX9_piles_55, sX9_piles_56, sX9_piles_58, sX9_piles_61, sX9_piles_62, sX9_piles_65, sX9_piles_67, sX9_piles_68, sX9_piles_71, sX9_piles_73, sX9_piles_74, sX9_piles_77, sX9_piles_79, sX9_piles_80, sX9_piles_82, sX9_piles_83, sX9_piles_86, ↓reduceIte, if_true, if_false, Option.bind_some, Option.bind_none, Option.toList_some, Option.toList_none, List.cons_append, List.nil_append, Option.elim_some, true_or, or_true, or_false, false_or, true_and, and_true, and_false, false_and, zio1, zio0, zio01, not_true_eq_false, not_false_eq_true, nlt, neq, nlt0, n0lt, neq0, neq1, nm9, m9n, nadd, nadd1, nmul, ncl, zin_t, t1, sh_1, hlt, hbt, li3, q1, e1, e2, b1, b2, q2]
          exact e3
        · obtain ⟨g3, f5, e3⟩ := kX9_pi_loop (x := x) hH0 e (k + 1) g2 (some q) (some (.int (nI (apl H S G kd gv rs w f l row (-9) 0 0 k)))) (by omega) (fun q' hq => by cases hq; exact hq3) (f4.town hT) (f4.guests hG)
          refine ⟨g3, f4.tr f5, ?_⟩
          unfold bst
          dsimp only
          rw [if_pos q1, if_neg q2]
          simp (disch := omega) only [sX9_piles_33, sX9_piles_34, sX9_piles_35, sX9_piles_38, sX9_piles_39, sX9_piles_42, sX9_piles_44, sX9_piles_47, sX9_piles_48, sX9_piles_51, sX9_piles_52, sX9_piles_55, sX9_piles_56, sX9_piles_58, sX9_piles_61, sX9_piles_62, sX9_piles_65, sX9_piles_67, sX9_piles_68, sX9_piles_71, sX9_piles_73, sX9_piles_74, sX9_piles_77, sX9_piles_79, sX9_piles_80, sX9_piles_82, sX9_piles_83, sX9_piles_86, ↓reduceIte, if_true, if_false, Option.bind_some, Option.bind_none, Option.toList_some, Option.toList_none, List.cons_append, List.nil_append, Option.elim_some, true_or, or_true, or_false, false_or, true_and, and_true, and_false, false_and, zio1, zio0, zio01, not_true_eq_false, not_false_eq_true, nlt, neq, nlt0, n0lt, neq0, neq1, nm9, m9n, nadd, nadd1, nmul, ncl, zin_t, t1, sh_1, hlt, hbt, li3, q1, e1, e2, b1, b2, q2]
          exact e3
    · obtain ⟨g3, f5, e3⟩ := kX9_pi_loop (x := x) hH0 e (k + 1) g b x5 (by omega) hb hT hG
      refine ⟨g3, f5, ?_⟩
      unfold bst
      rw [if_neg q1]
      simp (disch := omega) only [sX9_piles_33, sX9_piles_34, sX9_piles_35, sX9_piles_38, sX9_piles_39, sX9_piles_42, sX9_piles_44, sX9_piles_47, sX9_piles_48, sX9_piles_51, sX9_piles_52, sX9_piles_55, sX9_piles_56, sX9_piles_58, sX9_piles_61, sX9_piles_62, sX9_piles_65, sX9_piles_67, sX9_piles_68, sX9_piles_71, sX9_piles_73, sX9_piles_74, sX9_piles_77, sX9_piles_79, sX9_piles_80, sX9_piles_82, sX9_piles_83, sX9_piles_86, ↓reduceIte, if_true, if_false, Option.bind_some, Option.bind_none, Option.toList_some, Option.toList_none, List.cons_append, List.nil_append, Option.elim_some, true_or, or_true, or_false, false_or, true_and, and_true, and_false, false_and, zio1, zio0, zio01, not_true_eq_false, not_false_eq_true, nlt, neq, nlt0, n0lt, neq0, neq1, nm9, m9n, nadd, nadd1, nmul, ncl, zin_t, t1, sh_1, hlt, hbt, li3, q1]
      exact e3
theorem qX9_piles (hT : MTn g H S kd bd gv rs dr) (hG : MGs g H G w f l row) {x : Int32} : ∃ g', fr g g' ∧ go L xs 146 69 0 [some (.ref 45), some (.int x), none, none, none, none] [] (hp g t) = some (some (.int (if 0 ≤ x.toInt ∧ x.toInt ≤ 1 then (if H = 0 then -3 else if x = 0 then b1 (bst (fun p => bts p < 3) (fun p => apl H S G kd gv rs w f l row (-9) 0 0 p) (2 ^ H - 1) 1 none) else b2 (bst (fun p => bts p < 3) (fun p => apl H S G kd gv rs w f l row (-9) 0 0 p) (2 ^ H - 1) 1 none)) else -2)), hp g' t) := by
  have hin := kX9_inI (L := L) (xs := xs) (g := g) (t := t) (x := x) (b := 0) (c := 1) (lo := 0) (hi := 1) (by decide) (by decide)
  have t1 := hT.1
  have t2 := hT.2.1
  by_cases q : 0 ≤ x.toInt ∧ x.toInt ≤ 1
  · rw [if_pos q] at hin ⊢
    by_cases q2 : H = 0
    · refine ⟨g, fr.rf, ?_⟩
      simp (disch := omega) only [sX9_piles_0, sX9_piles_1, sX9_piles_2, sX9_piles_3, sX9_piles_4, sX9_piles_7, sX9_piles_10, sX9_piles_12, sX9_piles_13, sX9_piles_14, sX9_piles_17, sX9_piles_20, sX9_piles_22, ↓reduceIte, if_true, if_false, Option.bind_some, Option.bind_none, Option.toList_some, Option.toList_none, List.cons_append, List.nil_append, Option.elim_some, true_or, or_true, or_false, false_or, true_and, and_true, and_false, false_and, zio1, zio0, zio01, not_true_eq_false, not_false_eq_true, nlt, neq, nlt0, n0lt, neq0, neq1, nm9, m9n, nadd, nadd1, nmul, ncl, zin_t, hin, t1, q2, nI_0]
    · have h2p : 0 < 2 ^ H := Nat.pow_pos (by omega)
      obtain ⟨g2, f2, e2⟩ := kX9_pi_loop (L := L) (xs := xs) (t := t) (x := x) t2 (2 ^ H - 1) 1 g none none (by omega) (fun q hq => by cases hq) hT hG
      refine ⟨g2, f2, ?_⟩
      rw [if_neg q2, ← e2]
      simp (disch := omega) only [sX9_piles_0, sX9_piles_1, sX9_piles_2, sX9_piles_3, sX9_piles_4, sX9_piles_7, sX9_piles_10, sX9_piles_12, sX9_piles_13, sX9_piles_14, sX9_piles_17, sX9_piles_20, sX9_piles_22, sX9_piles_23, sX9_piles_24, sX9_piles_25, sX9_piles_27, sX9_piles_28, sX9_piles_29, ↓reduceIte, if_true, if_false, Option.bind_some, Option.bind_none, Option.toList_some, Option.toList_none, List.cons_append, List.nil_append, Option.elim_some, true_or, or_true, or_false, false_or, true_and, and_true, and_false, false_and, zio1, zio0, zio01, not_true_eq_false, not_false_eq_true, nlt, neq, nlt0, n0lt, neq0, neq1, nm9, m9n, nadd, nadd1, nmul, ncl, zin_t, hin, t1, q2, b1, b2, (show nI 1 = 1 by decide)]
  · rw [if_neg q] at hin ⊢
    refine ⟨g, fr.rf, ?_⟩
    simp (disch := omega) only [sX9_piles_0, sX9_piles_1, sX9_piles_2, sX9_piles_3, sX9_piles_4, sX9_piles_7, sX9_piles_10, sX9_piles_12, sX9_piles_13, sX9_piles_14, sX9_piles_17, sX9_piles_20, sX9_piles_22, ↓reduceIte, if_true, if_false, Option.bind_some, Option.bind_none, Option.toList_some, Option.toList_none, List.cons_append, List.nil_append, Option.elim_some, true_or, or_true, or_false, false_or, true_and, and_true, and_false, false_and, zio1, zio0, zio01, not_true_eq_false, not_false_eq_true, nlt, neq, nlt0, n0lt, neq0, neq1, nm9, m9n, nadd, nadd1, nmul, ncl, zin_t, hin]
end M11
