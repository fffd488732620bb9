/-! The class: under, open, way, right. -/
def cdv (a : Nat) : Nat → Nat
  | 0 => 1
  | d + 1 => if 0 < d then (if a % (d + 1) = 0 ∧ 50 % (d + 1) = 0 then d + 1 else cdv a d) else 1
theorem cdv_gcd : ∀ a, a ≤ 50 → cdv a 50 = Nat.gcd a 50 := by decide +kernel
section C7
variable {L : Nat} {xs : Nat → Int32} {g g' : Nat → Nat → Int32} {t : Nat → Int64}
variable {H S G R : Nat} {kd bd gv rs dr w f l rh rd rt : Nat → Nat} {row : Nat → Int32} {o : Nat}
theorem kX8_un1 {D : Nat → Nat → Nat} {d : Nat} {wh : Int32} (hd : d ≤ 50) (hT : CTn g H S kd bd gv rs dr) (hD : ∀ h, h < H → g (19 + 1) (7 * d + h) = nI (D d h) ∧ D d h ≤ 2000000) : ∀ e k, k + e = H → go L xs 56 69 41 [some (.ref 0), some (.int wh), some (.ref 19), some (.int (nI d)), some (.int (nI k))] [] (hp g t) = (match ff (fun h => 50 * dr h ≤ D d h) e k with
    | some h => some (some (.int (if wh = 0 then nI d else nI h)), hp g t)
    | none => go L xs 56 69 80 [some (.ref 0), some (.int wh), some (.ref 19), some (.int (nI d)), some (.int (nI H))] [] (hp g t))
  | 0, k, hk => by
    have hk : k = H := by omega
    subst hk
    have t1 := hT.1
    have h7 := hT.2.1
    simp (disch := omega) only [sX8_under_41, sX8_under_43, sX8_under_44, sX8_under_47, sX8_under_50, ↓reduceIte, if_true, if_false, Option.bind_some, Option.bind_none, Option.toList_some, Option.toList_none, List.cons_append, List.nil_append, Option.elim_some, true_or, or_true, or_false, false_or, true_and, and_true, and_false, false_and, zio1, zio0, zio01, not_true_eq_false, not_false_eq_true, nlt, neq, nlt0, n0lt, neq0, neq1, nm9, m9n, nadd, nadd1, nmul, ncl, zin_t, t1, Nat.lt_irrefl, ff]
  | e + 1, k, hk => by
    have t1 := hT.1
    have h7 := hT.2.1
    have q : k < H := by omega
    have h1 := kX3_isUnderAt (L := L) (xs := xs) (t := t) (o := 19) (Or.inl rfl) hT hd q (hD k q).1 (hD k q).2
    have ih := kX8_un1 (wh := wh) hd hT hD e (k + 1) (by omega)
    unfold ff
    by_cases z : 50 * dr k ≤ D d k
    · rw [if_pos z] at h1 ⊢
      by_cases y : wh = 0
      · simp (disch := omega) only [sX8_under_41, sX8_under_43, sX8_under_44, sX8_under_47, sX8_under_50, sX8_under_53, sX8_under_54, sX8_under_56, sX8_under_57, sX8_under_60, sX8_under_63, sX8_under_64, sX8_under_67, sX8_under_68, sX8_under_71, sX8_under_73, ↓reduceIte, if_true, if_false, Option.bind_some, Option.bind_none, Option.toList_some, Option.toList_none, List.cons_append, List.nil_append, Option.elim_some, true_or, or_true, or_false, false_or, true_and, and_true, and_false, false_and, zio1, zio0, zio01, not_true_eq_false, not_false_eq_true, nlt, neq, nlt0, n0lt, neq0, neq1, nm9, m9n, nadd, nadd1, nmul, ncl, zin_t, t1, q, h1, y]
      · simp (disch := omega) only [sX8_under_41, sX8_under_43, sX8_under_44, sX8_under_47, sX8_under_50, sX8_under_53, sX8_under_54, sX8_under_56, sX8_under_57, sX8_under_60, sX8_under_63, sX8_under_64, sX8_under_67, sX8_under_68, sX8_under_71, sX8_under_73, ↓reduceIte, if_true, if_false, Option.bind_some, Option.bind_none, Option.toList_some, Option.toList_none, List.cons_append, List.nil_append, Option.elim_some, true_or, or_true, or_false, false_or, true_and, and_true, and_false, false_and, zio1, zio0, zio01, not_true_eq_false, not_false_eq_true, nlt, neq, nlt0, n0lt, neq0, neq1, nm9, m9n, nadd, nadd1, nmul, ncl, zin_t, t1, q, h1, y]
    · rw [if_neg z] at h1 ⊢
      rw [← ih, sX8_under_41]
      simp (disch := omega) only [sX8_under_43, sX8_under_44, sX8_under_47, sX8_under_50, sX8_under_53, sX8_under_54, sX8_under_56, sX8_under_57, sX8_under_60, sX8_under_63, sX8_under_64, sX8_under_67, sX8_under_68, sX8_under_71, sX8_under_73, sX8_under_74, sX8_under_77, ↓reduceIte, if_true, if_false, Option.bind_some, Option.bind_none, Option.toList_some, Option.toList_none, List.cons_append, List.nil_append, Option.elim_some, true_or, or_true, or_false, false_or, true_and, and_true, and_false, false_and, zio1, zio0, zio01, not_true_eq_false, not_false_eq_true, nlt, neq, nlt0, n0lt, neq0, neq1, nm9, m9n, nadd, nadd1, nmul, ncl, zin_t, t1, q, h1]
theorem kX8_un2 {D : Nat → Nat → Nat} {wh : Int32} (hT : CTn g H S kd bd gv rs dr) (hD : ∀ d, d ≤ 50 → ∀ h, h < H → g (19 + 1) (7 * d + h) = nI (D d h) ∧ D d h ≤ 2000000) : ∀ e d (x4 : Option Value), d + e = 51 → go L xs 56 69 32 [some (.ref 0), some (.int wh), some (.ref 19), some (.int (nI d)), x4] [] (hp g t) = some (some (.int (match und H dr D e d with
    | some q => if wh = 0 then nI q.1 else nI q.2
    | none => -9)), hp g t)
  | 0, d, x4, hd => by
    have hd : d = 51 := by omega
    subst hd
    simp (disch := omega) only [sX8_under_32, sX8_under_33, sX8_under_35, sX8_under_86, sX8_under_88, ↓reduceIte, if_true, if_false, Option.bind_some, Option.bind_none, Option.toList_some, Option.toList_none, List.cons_append, List.nil_append, Option.elim_some, true_or, or_true, or_false, false_or, true_and, and_true, and_false, false_and, zio1, zio0, zio01, not_true_eq_false, not_false_eq_true, nlt, neq, nlt0, n0lt, neq0, neq1, nm9, m9n, nadd, nadd1, nmul, ncl, zin_t, li50, (show 50 < 51 by omega), und]
  | e + 1, d, x4, hd => by
    have q : ¬ 50 < d := by omega
    have h1 := kX8_un1 (L := L) (xs := xs) (t := t) (wh := wh) (show d ≤ 50 by omega) hT (hD d (by omega)) H 0 (by omega)
    have ih := kX8_un2 (wh := wh) hT hD e (d + 1) (some (.int (nI H))) (by omega)
    rw [nI_0] at h1
    unfold und
    rw [sX8_under_32]
    simp (disch := omega) only [sX8_under_33, sX8_under_35, sX8_under_38, sX8_under_39, ↓reduceIte, if_true, if_false, Option.bind_some, Option.bind_none, Option.toList_some, Option.toList_none, List.cons_append, List.nil_append, Option.elim_some, true_or, or_true, or_false, false_or, true_and, and_true, and_false, false_and, zio1, zio0, zio01, not_true_eq_false, not_false_eq_true, nlt, neq, nlt0, n0lt, neq0, neq1, nm9, m9n, nadd, nadd1, nmul, ncl, zin_t, li50, q]
    rw [h1]
    cases hf : ff (fun h => 50 * dr h ≤ D d h) H 0 with
    | some h => rfl
    | none =>
      dsimp only
      rw [← ih]
      simp (disch := omega) only [sX8_under_80, sX8_under_83, ↓reduceIte, if_true, if_false, Option.bind_some, Option.bind_none, Option.toList_some, Option.toList_none, List.cons_append, List.nil_append, Option.elim_some, true_or, or_true, or_false, false_or, true_and, and_true, and_false, false_and, zio1, zio0, zio01, not_true_eq_false, not_false_eq_true, nlt, neq, nlt0, n0lt, neq0, neq1, nm9, m9n, nadd, nadd1, nmul, ncl, zin_t]
theorem pX8_under (hT : CTn g H S kd bd gv rs dr) (hG : CGs g H G w f l row) (hK : CK g H G kd gv rs w f l row) {x : Int32} : ∃ g' t', qn g g' H G kd gv rs w f l row ∧ go L xs 56 69 0 [some (.ref 0), some (.int x), none, none, none] [] (hp g t) = some (some (.int (if 0 ≤ x.toInt ∧ x.toInt ≤ 1 then (if H = 0 then -3 else (match und H dr (dq H G kd gv rs w f l row) 51 0 with
    | some q => if x = 0 then nI q.1 else nI q.2
    | none => -9)) else -2)), hp g' t') := by
  have hin := kX8_in (L := L) (xs := xs) (g := g) (t := t) (x := x) (a := 0) (b := 1) (lo := 0) (hi := 1) (by decide) (by decide)
  have t1 := hT.1
  have h7 := hT.2.1
  by_cases q : 0 ≤ x.toInt ∧ x.toInt ≤ 1
  · rw [if_pos q] at hin ⊢
    by_cases q3 : H = 0
    · refine ⟨g, t, ⟨cf.rf, fun _ _ => rfl, hK⟩, ?_⟩
      rw [if_pos q3]
      simp (disch := omega) only [sX8_under_0, sX8_under_1, sX8_under_2, sX8_under_3, sX8_under_6, sX8_under_9, sX8_under_11, sX8_under_12, sX8_under_13, sX8_under_16, sX8_under_19, sX8_under_22, sX8_under_24, ↓reduceIte, if_true, if_false, Option.bind_some, Option.bind_none, Option.toList_some, Option.toList_none, List.cons_append, List.nil_append, Option.elim_some, true_or, or_true, or_false, false_or, true_and, and_true, and_false, false_and, zio1, zio0, zio01, not_true_eq_false, not_false_eq_true, nlt, neq, nlt0, n0lt, neq0, neq1, nm9, m9n, nadd, nadd1, nmul, ncl, zin_t, hin, t1, q3, nI_0]
    · rw [if_neg q3]
      obtain ⟨g1, t1', Q, a1, a2, a3⟩ := kX8_asItIs (L := L) (xs := xs) (t := t) hT hG hK (by omega)
      refine ⟨g1, t1', Q, ?_⟩
      have e1 := kX8_un2 (L := L) (xs := xs) (t := t1') (wh := x) (D := dq H G kd gv rs w f l row) a2 a1 51 0 none (by omega)
      rw [nI_0] at e1
      rw [← e1]
      simp (disch := omega) only [sX8_under_0, sX8_under_1, sX8_under_2, sX8_under_3, sX8_under_6, sX8_under_9, sX8_under_11, sX8_under_12, sX8_under_13, sX8_under_16, sX8_under_19, sX8_under_22, sX8_under_24, sX8_under_25, sX8_under_26, sX8_under_29, sX8_under_30, sX8_under_31, ↓reduceIte, if_true, if_false, Option.bind_some, Option.bind_none, Option.toList_some, Option.toList_none, List.cons_append, List.nil_append, Option.elim_some, true_or, or_true, or_false, false_or, true_and, and_true, and_false, false_and, zio1, zio0, zio01, not_true_eq_false, not_false_eq_true, nlt, neq, nlt0, n0lt, neq0, neq1, nm9, m9n, nadd, nadd1, nmul, ncl, zin_t, hin, t1, q3, a3]
  · rw [if_neg q] at hin ⊢
    refine ⟨g, t, ⟨cf.rf, fun _ _ => rfl, hK⟩, ?_⟩
    simp (disch := omega) only [sX8_under_0, sX8_under_1, sX8_under_2, sX8_under_3, sX8_under_6, sX8_under_9, sX8_under_11, sX8_under_12, sX8_under_13, sX8_under_16, sX8_under_19, sX8_under_22, sX8_under_24, ↓reduceIte, if_true, if_false, Option.bind_some, Option.bind_none, Option.toList_some, Option.toList_none, List.cons_append, List.nil_append, Option.elim_some, true_or, or_true, or_false, false_or, true_and, and_true, and_false, false_and, zio1, zio0, zio01, not_true_eq_false, not_false_eq_true, nlt, neq, nlt0, n0lt, neq0, neq1, nm9, m9n, nadd, nadd1, nmul, ncl, zin_t, hin]
theorem l1 : (1 : Int32) = nI 1 := by decide
theorem kX8_cd_loop {a : Nat} (ha : a ≤ 50) : ∀ d, d ≤ 50 → 1 ≤ d → go L xs 85 69 2 [some (.int (nI a)), some (.int (nI 50)), some (.int (nI d))] [] (hp g t) = some (some (.int (nI (cdv a d))), hp g t)
  | 0, hd, h1 => absurd h1 (by omega)
  | d + 1, hd, h1 => by
    unfold cdv
    by_cases q : 0 < d
    · rw [if_pos q]
      have q1 : (1 < nI (d + 1)) = True := by rw [l1, nlt (by omega) (by omega)]; exact eq_true (by omega)
      have hne : ¬ nI (d + 1) = 0 := by rw [neq0 (by omega)]; omega
      have r1 := nrem (a := a) (b := d + 1) (by omega) (by omega) (by omega)
      have r2 := nrem (a := 50) (b := d + 1) (by omega) (by omega) (by omega)
      have b1 := Nat.mod_le a (d + 1)
      have b2 := Nat.mod_le 50 (d + 1)
      have ih := kX8_cd_loop ha d (by omega) (by omega)
      have s9 := sX8_commonDivisor_9 (L := L) (xs := xs) (zl := [some (.int (nI a)), some (.int (nI 50)), some (.int (nI (d + 1)))]) (st := []) (h := hp g t) (x := nI a) hne
      have s15 := sX8_commonDivisor_15 (L := L) (xs := xs) (zl := [some (.int (nI a)), some (.int (nI 50)), some (.int (nI (d + 1)))]) (st := []) (h := hp g t) (x := nI 50) hne
      rw [r1] at s9
      rw [r2] at s15
      by_cases z1 : a % (d + 1) = 0
      · by_cases z2 : 50 % (d + 1) = 0
        · rw [if_pos ⟨z1, z2⟩]
          rw [z1, nI_0] at s9
          rw [z2, nI_0] at s15
          simp (disch := omega) only [sX8_commonDivisor_2, sX8_commonDivisor_3, sX8_commonDivisor_4, sX8_commonDivisor_7, sX8_commonDivisor_8, sX8_commonDivisor_10, sX8_commonDivisor_13, sX8_commonDivisor_14, sX8_commonDivisor_16, sX8_commonDivisor_19, sX8_commonDivisor_20, s9, s15, ↓reduceIte, if_true, if_false, Option.bind_some, Option.bind_none, Option.toList_some, Option.toList_none, List.cons_append, List.nil_append, Option.elim_some, true_or, or_true, or_false, false_or, true_and, and_true, and_false, false_and, zio1, zio0, zio01, not_true_eq_false, not_false_eq_true, q1]
        · rw [if_neg (fun z => z2 z.2), ← ih, sX8_commonDivisor_2]
          rw [z1, nI_0] at s9
          have z2' : (nI (50 % (d + 1)) = 0) = False := by rw [neq0 (by omega)]; exact eq_false z2
          simp (disch := omega) only [sX8_commonDivisor_3, sX8_commonDivisor_4, sX8_commonDivisor_7, sX8_commonDivisor_8, sX8_commonDivisor_10, sX8_commonDivisor_13, sX8_commonDivisor_14, sX8_commonDivisor_16, sX8_commonDivisor_19, sX8_commonDivisor_20, sX8_commonDivisor_21, sX8_commonDivisor_24, s9, s15, ↓reduceIte, if_true, if_false, Option.bind_some, Option.bind_none, Option.toList_some, Option.toList_none, List.cons_append, List.nil_append, Option.elim_some, true_or, or_true, or_false, false_or, true_and, and_true, and_false, false_and, zio1, zio0, zio01, not_true_eq_false, not_false_eq_true, q1, z2', nm1]
      · rw [if_neg (fun z => z1 z.1), ← ih, sX8_commonDivisor_2]
        have z1' : (nI (a % (d + 1)) = 0) = False := by rw [neq0 (by omega)]; exact eq_false z1
        simp (disch := omega) only [sX8_commonDivisor_3, sX8_commonDivisor_4, sX8_commonDivisor_7, sX8_commonDivisor_8, sX8_commonDivisor_10, sX8_commonDivisor_13, sX8_commonDivisor_14, sX8_commonDivisor_16, sX8_commonDivisor_19, sX8_commonDivisor_20, sX8_commonDivisor_21, sX8_commonDivisor_24, s9, ↓reduceIte, if_true, if_false, Option.bind_some, Option.bind_none, Option.toList_some, Option.toList_none, List.cons_append, List.nil_append, Option.elim_some, true_or, or_true, or_false, false_or, true_and, and_true, and_false, false_and, zio1, zio0, zio01, not_true_eq_false, not_false_eq_true, q1, z1', nm1]
    · rw [if_neg q]
      have e : d = 0 := by omega
      subst e
      have q1 : ((1 : Int32) < 1) = False := by decide
      simp (disch := omega) only [sX8_commonDivisor_2, sX8_commonDivisor_3, sX8_commonDivisor_4, sX8_commonDivisor_27, sX8_commonDivisor_28, ↓reduceIte, if_true, if_false, Option.bind_some, Option.bind_none, Option.toList_some, Option.toList_none, List.cons_append, List.nil_append, Option.elim_some, true_or, or_true, or_false, false_or, true_and, and_true, and_false, false_and, zio1, zio0, zio01, not_true_eq_false, not_false_eq_true, q1, (show nI 1 = 1 by decide)]
theorem kX8_commonDivisor {a : Nat} (ha : a ≤ 50) : go L xs 85 69 0 [some (.int (nI a)), some (.int (nI 50)), none] [] (hp g t) = some (some (.int (nI (Nat.gcd a 50))), hp g t) := by
  rw [← cdv_gcd a ha, ← kX8_cd_loop (L := L) (xs := xs) (g := g) (t := t) ha 50 (by omega) (by omega)]
  simp only [sX8_commonDivisor_0, sX8_commonDivisor_1]
theorem kX8_op_loop {D : Nat → Nat → Nat} {h : Nat} {x2 : Option Value} (hh : h + 1 < H) (hT : CTn g H S kd bd gv rs dr) (hD : ∀ d, d ≤ 50 → ∀ h, h < H → g (19 + 1) (7 * d + h) = nI (D d h) ∧ D d h ≤ 2000000) : ∀ e n, n + e = 50 → go L xs 57 69 52 [some (.ref 0), some (.int (nI h)), x2, some (.ref 19), some (.int (nI (cnt (fun n => sp S (D (n + 1)) h) n))), some (.int (nI (n + 1)))] [] (hp g t) = go L xs 57 69 78 [some (.ref 0), some (.int (nI h)), x2, some (.ref 19), some (.int (nI (cnt (fun n => sp S (D (n + 1)) h) 50))), some (.int (nI 51))] [] (hp g t)
  | 0, n, hn => by
    have hn : n = 50 := by omega
    subst hn
    simp (disch := omega) only [sX8_open_52, sX8_open_54, sX8_open_56, ↓reduceIte, if_true, if_false, Option.bind_some, Option.bind_none, Option.toList_some, Option.toList_none, List.cons_append, List.nil_append, Option.elim_some, true_or, or_true, or_false, false_or, true_and, and_true, and_false, false_and, zio1, zio0, zio01, not_true_eq_false, not_false_eq_true, nlt, neq, nlt0, n0lt, neq0, neq1, nm9, m9n, nadd, nadd1, nmul, ncl, zin_t, li50, (show 50 < 51 by omega)]
  | e + 1, n, hn => by
    have ih := kX8_op_loop (x2 := x2) hh hT hD e (n + 1) (by omega)
    have q : ¬ 50 < n + 1 := by omega
    have hst := kX3_canStep (L := L) (xs := xs) (t := t) (o := 19) (d := n + 1) (Or.inl rfl) hT (by omega) hh (hD (n + 1) (by omega))
    rw [show cnt (fun n => sp S (D (n + 1)) h) (n + 1) = cnt (fun n => sp S (D (n + 1)) h) n + (if sp S (D (n + 1)) h then 1 else 0) from rfl] at ih
    rw [← ih, sX8_open_52]
    by_cases z : sp S (D (n + 1)) h
    · rw [if_pos z] at hst ⊢
      simp (disch := omega) only [sX8_open_54, sX8_open_56, sX8_open_59, sX8_open_60, sX8_open_61, sX8_open_63, sX8_open_66, sX8_open_69, sX8_open_72, sX8_open_75, ↓reduceIte, if_true, if_false, Option.bind_some, Option.bind_none, Option.toList_some, Option.toList_none, List.cons_append, List.nil_append, Option.elim_some, true_or, or_true, or_false, false_or, true_and, and_true, and_false, false_and, zio1, zio0, zio01, not_true_eq_false, not_false_eq_true, nlt, neq, nlt0, n0lt, neq0, neq1, nm9, m9n, nadd, nadd1, nmul, ncl, zin_t, li50, q, hst]
    · rw [if_neg z] at hst ⊢
      simp (disch := omega) only [sX8_open_54, sX8_open_56, sX8_open_59, sX8_open_60, sX8_open_61, sX8_open_63, sX8_open_66, sX8_open_69, sX8_open_72, sX8_open_75, ↓reduceIte, if_true, if_false, Option.bind_some, Option.bind_none, Option.toList_some, Option.toList_none, List.cons_append, List.nil_append, Option.elim_some, true_or, or_true, or_false, false_or, true_and, and_true, and_false, false_and, zio1, zio0, zio01, not_true_eq_false, not_false_eq_true, nlt, neq, nlt0, n0lt, neq0, neq1, nm9, m9n, nadd, nadd1, nmul, ncl, zin_t, li50, q, hst, Nat.add_zero]
theorem pX8_open (hT : CTn g H S kd bd gv rs dr) (hG : CGs g H G w f l row) (hK : CK g H G kd gv rs w f l row) {x y : Int32} : ∃ g' t', qn g g' H G kd gv rs w f l row ∧ go L xs 57 69 0 [some (.ref 0), some (.int x), some (.int y), none, none, none] [] (hp g t) = some (some (.long (if (0 ≤ x.toInt ∧ x.toInt + 1 < H) ∧ (0 ≤ y.toInt ∧ y.toInt ≤ 1) then lN ((if y = 0 then opc H S G kd gv rs w f l row x.toInt.toNat else 50) / Nat.gcd (opc H S G kd gv rs w f l row x.toInt.toNat) 50) else -9223372036854775808)), hp g' t') := by
  have h1 := kX7_has (L := L) (xs := xs) (t := t) (x := x) hT
  have hin := kX8_in (L := L) (xs := xs) (g := g) (t := t) (x := y) (a := 0) (b := 1) (lo := 0) (hi := 1) (by decide) (by decide)
  have t1 := hT.1
  have h7 := hT.2.1
  by_cases q1 : 0 ≤ x.toInt ∧ x.toInt < H
  · rw [if_pos q1] at h1
    have hx := nI_back q1.1
    generalize hk : x.toInt.toNat = k at hx
    subst hx
    have hkt := nI_toInt (n := k) (by omega)
    have h2 := kX7_has (L := L) (xs := xs) (t := t) (x := nI (k + 1)) hT
    have hkt2 := nI_toInt (n := k + 1) (by omega)
    by_cases q2 : k + 1 < H
    · rw [if_pos (by omega)] at h2
      by_cases q3 : 0 ≤ y.toInt ∧ y.toInt ≤ 1
      · rw [if_pos q3] at hin
        rw [if_pos (by omega)]
        obtain ⟨g1, t1', Q, a1, a2, a3⟩ := kX8_asItIs (L := L) (xs := xs) (t := t) hT hG hK (by omega)
        refine ⟨g1, t1', Q, ?_⟩
        have e1 := kX8_op_loop (L := L) (xs := xs) (t := t1') (D := dq H G kd gv rs w f l row) (x2 := some (.int y)) q2 a2 a1 50 0 (by omega)
        rw [show cnt (fun n => sp S (dq H G kd gv rs w f l row (n + 1)) k) 0 = 0 from rfl, nI_0, show nI (0 + 1) = 1 by decide] at e1
        have hc : opc H S G kd gv rs w f l row k ≤ 50 := cnt_le _ 50
        have e2 := kX8_commonDivisor (L := L) (xs := xs) (g := g1) (t := t1') hc
        have hgp : 0 < Nat.gcd (opc H S G kd gv rs w f l row k) 50 := Nat.gcd_pos_of_pos_right _ (by omega)
        have hgl : Nat.gcd (opc H S G kd gv rs w f l row k) 50 ≤ 50 := Nat.gcd_le_right _ (by omega)
        have hne : ¬ nI (Nat.gcd (opc H S G kd gv rs w f l row k) 50) = 0 := by rw [neq0 (by omega)]; omega
        simp (disch := omega) only [sX8_open_0, sX8_open_1, sX8_open_4, sX8_open_5, sX8_open_8, sX8_open_11, sX8_open_12, sX8_open_15, sX8_open_16, sX8_open_17, sX8_open_18, sX8_open_21, sX8_open_24, sX8_open_27, sX8_open_28, sX8_open_29, sX8_open_30, sX8_open_31, sX8_open_34, sX8_open_37, sX8_open_40, sX8_open_41, sX8_open_42, sX8_open_45, sX8_open_46, sX8_open_47, sX8_open_49, sX8_open_50, ↓reduceIte, if_true, if_false, Option.bind_some, Option.bind_none, Option.toList_some, Option.toList_none, List.cons_append, List.nil_append, Option.elim_some, true_or, or_true, or_false, false_or, true_and, and_true, and_false, false_and, zio1, zio0, zio01, not_true_eq_false, not_false_eq_true, nlt, neq, nlt0, n0lt, neq0, neq1, nm9, m9n, nadd, nadd1, nmul, ncl, zin_t, h1, h2, hin, a3]
        refine (show _ = _ from e1).trans ?_
        rw [show (cnt (fun n => sp S (dq H G kd gv rs w f l row (n + 1)) k) 50) = opc H S G kd gv rs w f l row k from rfl]
        generalize opc H S G kd gv rs w f l row k = A at *
        generalize Nat.gcd A 50 = B at *
        have d1 : nI A / nI B = nI (A / B) := ndiv (by omega) hgp (by omega)
        have d2 : nI 50 / nI B = nI (50 / B) := ndiv (by omega) hgp (by omega)
        have b1 : A / B ≤ A := Nat.div_le_self _ _
        have b2 : 50 / B ≤ 50 := Nat.div_le_self _ _
        by_cases q4 : y = 0
        · rw [if_pos q4]
          simp (disch := omega) only [sX8_open_78, sX8_open_80, sX8_open_82, sX8_open_85, sX8_open_87, sX8_open_88, sX8_open_91, sX8_open_93, sX8_open_96, sX8_open_98, sX8_open_101, sX8_open_102, sX8_open_100 hne, ↓reduceIte, if_true, if_false, Option.bind_some, Option.bind_none, Option.toList_some, Option.toList_none, List.cons_append, List.nil_append, Option.elim_some, true_or, or_true, or_false, false_or, true_and, and_true, and_false, false_and, zio1, zio0, zio01, not_true_eq_false, not_false_eq_true, li50, e2, q4, d1, lN_l]
        · rw [if_neg q4]
          simp (disch := omega) only [sX8_open_78, sX8_open_80, sX8_open_82, sX8_open_85, sX8_open_87, sX8_open_88, sX8_open_91, sX8_open_93, sX8_open_96, sX8_open_98, sX8_open_101, sX8_open_102, sX8_open_100 hne, ↓reduceIte, if_true, if_false, Option.bind_some, Option.bind_none, Option.toList_some, Option.toList_none, List.cons_append, List.nil_append, Option.elim_some, true_or, or_true, or_false, false_or, true_and, and_true, and_false, false_and, zio1, zio0, zio01, not_true_eq_false, not_false_eq_true, li50, e2, q4, d2, lN_l]
      · rw [if_neg q3] at hin
        rw [if_neg (fun z => q3 z.2)]
        refine ⟨g, t, ⟨cf.rf, fun _ _ => rfl, hK⟩, ?_⟩
        simp (disch := omega) only [sX8_open_0, sX8_open_1, sX8_open_4, sX8_open_5, sX8_open_8, sX8_open_11, sX8_open_12, sX8_open_15, sX8_open_16, sX8_open_17, sX8_open_18, sX8_open_21, sX8_open_24, sX8_open_27, sX8_open_28, sX8_open_29, sX8_open_30, sX8_open_31, sX8_open_34, sX8_open_37, sX8_open_40, ↓reduceIte, if_true, if_false, Option.bind_some, Option.bind_none, Option.toList_some, Option.toList_none, List.cons_append, List.nil_append, Option.elim_some, true_or, or_true, or_false, false_or, true_and, and_true, and_false, false_and, zio1, zio0, zio01, not_true_eq_false, not_false_eq_true, nlt, neq, nlt0, n0lt, neq0, neq1, nm9, m9n, nadd, nadd1, nmul, ncl, zin_t, h1, h2, hin]
    · rw [if_neg (by omega)] at h2
      rw [if_neg (by omega)]
      refine ⟨g, t, ⟨cf.rf, fun _ _ => rfl, hK⟩, ?_⟩
      simp (disch := omega) only [sX8_open_0, sX8_open_1, sX8_open_4, sX8_open_5, sX8_open_8, sX8_open_11, sX8_open_12, sX8_open_15, sX8_open_16, sX8_open_17, sX8_open_18, sX8_open_21, sX8_open_24, sX8_open_27, ↓reduceIte, if_true, if_false, Option.bind_some, Option.bind_none, Option.toList_some, Option.toList_none, List.cons_append, List.nil_append, Option.elim_some, true_or, or_true, or_false, false_or, true_and, and_true, and_false, false_and, zio1, zio0, zio01, not_true_eq_false, not_false_eq_true, nlt, neq, nlt0, n0lt, neq0, neq1, nm9, m9n, nadd, nadd1, nmul, ncl, zin_t, h1, h2]
  · rw [if_neg q1] at h1
    rw [if_neg (by omega)]
    refine ⟨g, t, ⟨cf.rf, fun _ _ => rfl, hK⟩, ?_⟩
    simp (disch := omega) only [sX8_open_0, sX8_open_1, sX8_open_4, sX8_open_5, sX8_open_8, sX8_open_11, sX8_open_12, sX8_open_15, sX8_open_16, sX8_open_17, sX8_open_18, sX8_open_21, sX8_open_24, sX8_open_27, ↓reduceIte, if_true, if_false, Option.bind_some, Option.bind_none, Option.toList_some, Option.toList_none, List.cons_append, List.nil_append, Option.elim_some, true_or, or_true, or_false, false_or, true_and, and_true, and_false, false_and, zio1, zio0, zio01, not_true_eq_false, not_false_eq_true, nlt, neq, nlt0, n0lt, neq0, neq1, nm9, m9n, nadd, nadd1, nmul, ncl, zin_t, h1]
theorem wst_sup {P : Nat → Prop} [DecidablePred P] {s b : Nat} : ∀ e h a, a ||| b = a → wst P s e h a ||| b = wst P s e h a
  | 0, _, _, ha => ha
  | e + 1, h, a, ha => by
    unfold wst
    refine wst_sup e (h + 1) _ ?_
    rw [Nat.or_assoc, Nat.or_assoc, Nat.or_comm _ b, ← Nat.or_assoc (_ : Nat) b, Nat.or_comm _ b, Nat.or_assoc b, ← Nat.or_assoc a b, ha, Nat.or_assoc]
theorem kX8_wy_loop {D : Nat → Nat → Nat} {to : Nat} {x1 x3 : Option Value} (hto : to < H) (hT : CTn g H S kd bd gv rs dr) (hD : ∀ d, d ≤ 50 → ∀ h, h < H → g (19 + 1) (7 * d + h) = nI (D d h) ∧ D d h ≤ 2000000) : ∀ e d s, d + e = 51 → s < 128 → go L xs 60 69 48 [some (.ref 0), x1, some (.int (nI to)), x3, some (.ref 19), some (.int (nI s)), some (.int (nI d))] [] (hp g t) = some (some (.int (match wy H S D to e d s with
    | some q => nI q
    | none => -9)), hp g t)
  | 0, d, s, hd, hs => by
    have hd : d = 51 := by omega
    subst hd
    simp (disch := omega) only [sX8_way_48, sX8_way_50, sX8_way_52, sX8_way_85, sX8_way_87, ↓reduceIte, if_true, if_false, Option.bind_some, Option.bind_none, Option.toList_some, Option.toList_none, List.cons_append, List.nil_append, Option.elim_some, true_or, or_true, or_false, false_or, true_and, and_true, and_false, false_and, zio1, zio0, zio01, not_true_eq_false, not_false_eq_true, nlt, neq, nlt0, n0lt, neq0, neq1, nm9, m9n, nadd, nadd1, nmul, ncl, zin_t, li50, (show 50 < 51 by omega), wy]
  | e + 1, d, s, hd, hs => by
    have h7 := hT.2.1
    have q : ¬ 50 < d := by omega
    have hst := kX3_stepped (L := L) (xs := xs) (t := t) (o := 19) (Or.inl rfl) hT hs (show d ≤ 50 by omega) (hD d (by omega))
    have hs2 := wst_lt (P := sp S (D d)) (s := s) (H - 1) 0 s (by omega) hs
    have hb := bit_ok _ hs2 to (by omega)
    unfold wy
    by_cases z : wst (sp S (D d)) s (H - 1) 0 s / 2 ^ to % 2 = 1
    · rw [if_pos z]
      simp (disch := omega) only [sX8_way_48, sX8_way_50, sX8_way_52, sX8_way_55, sX8_way_57, sX8_way_59, sX8_way_61, sX8_way_64, sX8_way_66, sX8_way_68, sX8_way_69, sX8_way_70, sX8_way_71, sX8_way_72, sX8_way_73, sX8_way_76, sX8_way_78, ↓reduceIte, if_true, if_false, Option.bind_some, Option.bind_none, Option.toList_some, Option.toList_none, List.cons_append, List.nil_append, Option.elim_some, true_or, or_true, or_false, false_or, true_and, and_true, and_false, false_and, zio1, zio0, zio01, not_true_eq_false, not_false_eq_true, nlt, neq, nlt0, n0lt, neq0, neq1, nm9, m9n, nadd, nadd1, nmul, ncl, zin_t, li50, q, hst, eq_true (hb.mpr z)]
    · rw [if_neg z]
      have ih := kX8_wy_loop (x1 := x1) (x3 := x3) hto hT hD e (d + 1) (wst (sp S (D d)) s (H - 1) 0 s) (by omega) hs2
      rw [← ih, sX8_way_48]
      simp (disch := omega) only [sX8_way_50, sX8_way_52, sX8_way_55, sX8_way_57, sX8_way_59, sX8_way_61, sX8_way_64, sX8_way_66, sX8_way_68, sX8_way_69, sX8_way_70, sX8_way_71, sX8_way_72, sX8_way_73, sX8_way_76, sX8_way_78, sX8_way_79, sX8_way_82, ↓reduceIte, if_true, if_false, Option.bind_some, Option.bind_none, Option.toList_some, Option.toList_none, List.cons_append, List.nil_append, Option.elim_some, true_or, or_true, or_false, false_or, true_and, and_true, and_false, false_and, zio1, zio0, zio01, not_true_eq_false, not_false_eq_true, nlt, neq, nlt0, n0lt, neq0, neq1, nm9, m9n, nadd, nadd1, nmul, ncl, zin_t, li50, q, hst, eq_false (fun y => z (hb.mp y))]
theorem bit_self : ∀ h, h < 7 → ∀ s, s < 128 → s ||| 2 ^ h = s → s / 2 ^ h % 2 = 1 := by decide +kernel
theorem pX8_way (hT : CTn g H S kd bd gv rs dr) (hG : CGs g H G w f l row) (hK : CK g H G kd gv rs w f l row) {x y z : Int32} : ∃ g' t', qn g g' H G kd gv rs w f l row ∧ go L xs 60 69 0 [some (.ref 0), some (.int x), some (.int y), some (.int z), none, none, none] [] (hp g t) = some (some (.int (if (0 ≤ x.toInt ∧ x.toInt < H) ∧ (0 ≤ y.toInt ∧ y.toInt < H) then (if 0 ≤ z.toInt ∧ z.toInt ≤ 50 then (if x = y then z else (match wy H S (dq H G kd gv rs w f l row) y.toInt.toNat (51 - z.toInt.toNat) z.toInt.toNat (2 ^ x.toInt.toNat) with
    | some q => nI q
    | none => -9)) else -2) else -1)), hp g' t') := by
  have h1 := kX7_has (L := L) (xs := xs) (t := t) (x := x) hT
  have h2 := kX7_has (L := L) (xs := xs) (t := t) (x := y) hT
  have h3 := kX8_isDawn (L := L) (xs := xs) (g := g) (t := t) (x := z)
  have h7 := hT.2.1
  by_cases q1 : 0 ≤ x.toInt ∧ x.toInt < H
  · rw [if_pos q1] at h1
    by_cases q2 : 0 ≤ y.toInt ∧ y.toInt < H
    · rw [if_pos q2] at h2
      rw [if_pos ⟨q1, q2⟩]
      by_cases q3 : 0 ≤ z.toInt ∧ z.toInt ≤ 50
      · rw [if_pos q3] at h3 ⊢
        obtain ⟨g1, t1', Q, a1, a2, a3⟩ := kX8_asItIs (L := L) (xs := xs) (t := t) hT hG hK (by omega)
        refine ⟨g1, t1', Q, ?_⟩
        have hx := nI_back q1.1
        have hy := nI_back q2.1
        have hz := nI_back q3.1
        generalize hk : x.toInt.toNat = k at hx
        generalize hm : y.toInt.toNat = m at hy
        generalize hn : z.toInt.toNat = n at hz
        subst hx hy hz
        have p1 : 2 ^ k < 2 ^ 7 := Nat.pow_lt_pow_right (by omega) (by omega)
        have e1 := kX8_wy_loop (L := L) (xs := xs) (t := t1') (to := m) (D := dq H G kd gv rs w f l row) (x1 := some (.int (nI k))) (x3 := some (.int (nI n))) (by omega) a2 a1 (51 - n) n (2 ^ k) (by omega) p1
        have hst : go L xs 60 69 0 [some (.ref 0), some (.int (nI k)), some (.int (nI m)), some (.int (nI n)), none, none, none] [] (hp g t) = go L xs 60 69 48 [some (.ref 0), some (.int (nI k)), some (.int (nI m)), some (.int (nI n)), some (.ref 19), some (.int (nI (2 ^ k))), some (.int (nI n))] [] (hp g1 t1') := by
          simp (disch := omega) only [sX8_way_0, sX8_way_1, sX8_way_4, sX8_way_5, sX8_way_8, sX8_way_11, sX8_way_12, sX8_way_15, sX8_way_16, sX8_way_19, sX8_way_22, sX8_way_23, sX8_way_24, sX8_way_25, sX8_way_28, sX8_way_31, sX8_way_33, sX8_way_34, sX8_way_35, sX8_way_38, sX8_way_40, sX8_way_41, sX8_way_42, sX8_way_43, sX8_way_45, sX8_way_46, ↓reduceIte, if_true, if_false, Option.bind_some, Option.bind_none, Option.toList_some, Option.toList_none, List.cons_append, List.nil_append, Option.elim_some, true_or, or_true, or_false, false_or, true_and, and_true, and_false, false_and, zio1, zio0, zio01, not_true_eq_false, not_false_eq_true, h1, h2, h3, a3, sh_1]
        rw [hst, e1]
        by_cases q4 : nI k = nI m
        · rw [if_pos q4]
          have e : k = m := (neq (a := k) (b := m) (by omega) (by omega)).mp q4
          subst e
          rw [show 51 - n = (50 - n) + 1 by omega]
          unfold wy
          rw [if_pos (bit_self k (by omega) _ (wst_lt (H - 1) 0 (2 ^ k) (by omega) p1) (wst_sup (H - 1) 0 (2 ^ k) (Nat.or_self _)))]
        · rw [if_neg q4]
      · rw [if_neg q3] at h3 ⊢
        refine ⟨g, t, ⟨cf.rf, fun _ _ => rfl, hK⟩, ?_⟩
        simp (disch := omega) only [sX8_way_0, sX8_way_1, sX8_way_4, sX8_way_5, sX8_way_8, sX8_way_11, sX8_way_12, sX8_way_15, sX8_way_16, sX8_way_19, sX8_way_22, sX8_way_23, sX8_way_24, sX8_way_25, sX8_way_28, sX8_way_31, sX8_way_33, ↓reduceIte, if_true, if_false, Option.bind_some, Option.bind_none, Option.toList_some, Option.toList_none, List.cons_append, List.nil_append, Option.elim_some, true_or, or_true, or_false, false_or, true_and, and_true, and_false, false_and, zio1, zio0, zio01, not_true_eq_false, not_false_eq_true, h1, h2, h3]
    · rw [if_neg q2] at h2
      rw [if_neg (fun q => q2 q.2)]
      refine ⟨g, t, ⟨cf.rf, fun _ _ => rfl, hK⟩, ?_⟩
      simp (disch := omega) only [sX8_way_0, sX8_way_1, sX8_way_4, sX8_way_5, sX8_way_8, sX8_way_11, sX8_way_12, sX8_way_15, sX8_way_16, sX8_way_19, sX8_way_22, sX8_way_23, ↓reduceIte, if_true, if_false, Option.bind_some, Option.bind_none, Option.toList_some, Option.toList_none, List.cons_append, List.nil_append, Option.elim_some, true_or, or_true, or_false, false_or, true_and, and_true, and_false, false_and, zio1, zio0, zio01, not_true_eq_false, not_false_eq_true, h1, h2]
  · rw [if_neg q1] at h1
    rw [if_neg (fun q => q1 q.1)]
    refine ⟨g, t, ⟨cf.rf, fun _ _ => rfl, hK⟩, ?_⟩
    simp (disch := omega) only [sX8_way_0, sX8_way_1, sX8_way_4, sX8_way_5, sX8_way_8, sX8_way_11, sX8_way_12, sX8_way_15, sX8_way_16, sX8_way_19, sX8_way_22, sX8_way_23, ↓reduceIte, if_true, if_false, Option.bind_some, Option.bind_none, Option.toList_some, Option.toList_none, List.cons_append, List.nil_append, Option.elim_some, true_or, or_true, or_false, false_or, true_and, and_true, and_false, false_and, zio1, zio0, zio01, not_true_eq_false, not_false_eq_true, h1]
theorem kX4_as_loop (ho : o = 19 ∨ o = 24) (h7 : H ≤ 7) {D : Nat → Nat → Nat} (hR : CRs g H R rh rd rt) (hD : ∀ k, k < R → g (o + 1) (7 * rd k + rh k) = nI (D (rd k) (rh k)) ∧ D (rd k) (rh k) ≤ 2000000) : ∀ e k, k + e = R → allb (fun x => decide (D (rd x) (rh x) = rt x)) k = true → go L xs 31 69 2 [some (.ref 15), some (.ref o), some (.int (nI k))] [] (hp g t) = some (some (.int (if allb (fun x => decide (D (rd x) (rh x) = rt x)) R = true then 1 else 0)), hp g t)
  | 0, k, hk, ha => by
    have hk : k = R := by omega
    subst hk
    obtain ⟨r1, r2, r3⟩ := id hR
    rw [if_pos ha]
    simp (disch := omega) only [sX4_areSo_2, sX4_areSo_3, sX4_areSo_4, sX4_areSo_7, sX4_areSo_43, sX4_areSo_44, ↓reduceIte, if_true, if_false, Option.bind_some, Option.bind_none, Option.toList_some, Option.toList_none, List.cons_append, List.nil_append, Option.elim_some, true_or, or_true, or_false, false_or, true_and, and_true, and_false, false_and, zio1, zio0, zio01, not_true_eq_false, not_false_eq_true, nlt, neq, nlt0, n0lt, neq0, neq1, nm9, m9n, nadd, nadd1, nmul, ncl, zin_t, r1, Nat.lt_irrefl]
  | e + 1, k, hk, ha => by
    obtain ⟨n0, n1, n2, n3, n4, n5, n6, n7, n8, n9, n10⟩ := nob ho
    obtain ⟨r1, r2, r3⟩ := id hR
    have q : k < R := by omega
    obtain ⟨⟨u1, u2⟩, ⟨v1, v2⟩, w1, w2⟩ := r3 k q
    obtain ⟨d1, d2⟩ := hD k q
    have e1 := kX3_depthAt (L := L) (xs := xs) (t := t) (D := D) (d := rd k) (h := rh k) ho v2 (by omega) d1
    by_cases z : D (rd k) (rh k) = rt k
    · have ih := kX4_as_loop ho h7 hR hD e (k + 1) (by omega) (by
        show (allb _ k && decide (D (rd k) (rh k) = rt k)) = true
        rw [ha, decide_eq_true z]; rfl)
      rw [← ih, sX4_areSo_2]
      simp (disch := omega) only [sX4_areSo_3, sX4_areSo_4, sX4_areSo_7, sX4_areSo_10, sX4_areSo_11, sX4_areSo_12, sX4_areSo_15, sX4_areSo_16, sX4_areSo_17, sX4_areSo_18, sX4_areSo_21, sX4_areSo_22, sX4_areSo_23, sX4_areSo_26, sX4_areSo_27, sX4_areSo_30, sX4_areSo_31, sX4_areSo_32, sX4_areSo_35, sX4_areSo_36, sX4_areSo_37, sX4_areSo_40, ↓reduceIte, if_true, if_false, Option.bind_some, Option.bind_none, Option.toList_some, Option.toList_none, List.cons_append, List.nil_append, Option.elim_some, true_or, or_true, or_false, false_or, true_and, and_true, and_false, false_and, zio1, zio0, zio01, not_true_eq_false, not_false_eq_true, nlt, neq, nlt0, n0lt, neq0, neq1, nm9, m9n, nadd, nadd1, nmul, ncl, zin_t, r1, q, u1, v1, w1, n0, e1, z]
    · have hno : ¬ allb (fun x => decide (D (rd x) (rh x) = rt x)) R = true := fun y => z (by simpa using allb_iff.mp y k q)
      rw [if_neg hno]
      simp (disch := omega) only [sX4_areSo_2, sX4_areSo_3, sX4_areSo_4, sX4_areSo_7, sX4_areSo_10, sX4_areSo_11, sX4_areSo_12, sX4_areSo_15, sX4_areSo_16, sX4_areSo_17, sX4_areSo_18, sX4_areSo_21, sX4_areSo_22, sX4_areSo_23, sX4_areSo_26, sX4_areSo_27, sX4_areSo_30, sX4_areSo_31, sX4_areSo_32, sX4_areSo_35, sX4_areSo_36, ↓reduceIte, if_true, if_false, Option.bind_some, Option.bind_none, Option.toList_some, Option.toList_none, List.cons_append, List.nil_append, Option.elim_some, true_or, or_true, or_false, false_or, true_and, and_true, and_false, false_and, zio1, zio0, zio01, not_true_eq_false, not_false_eq_true, nlt, neq, nlt0, n0lt, neq0, neq1, nm9, m9n, nadd, nadd1, nmul, ncl, zin_t, r1, q, u1, v1, w1, n0, e1, z]
theorem kX4_areSo (ho : o = 19 ∨ o = 24) (h7 : H ≤ 7) {D : Nat → Nat → Nat} (hR : CRs g H R rh rd rt) (hD : ∀ k, k < R → g (o + 1) (7 * rd k + rh k) = nI (D (rd k) (rh k)) ∧ D (rd k) (rh k) ≤ 2000000) : go L xs 31 69 0 [some (.ref 15), some (.ref o), none] [] (hp g t) = some (some (.int (if allb (fun x => decide (D (rd x) (rh x) = rt x)) R = true then 1 else 0)), hp g t) := by
  have h := kX4_as_loop (L := L) (xs := xs) (t := t) ho h7 hR hD R 0 (by omega) rfl
  rw [nI_0] at h
  simp only [sX4_areSo_0, sX4_areSo_1]
  exact h
theorem pX8_right (hT : CTn g H S kd bd gv rs dr) (hG : CGs g H G w f l row) (hK : CK g H G kd gv rs w f l row) (hR : CRs g H R rh rd rt) : ∃ g' t', qn g g' H G kd gv rs w f l row ∧ go L xs 63 69 0 [some (.ref 0)] [] (hp g t) = some (some (.int (if allb (fun x => decide (dq H G kd gv rs w f l row (rd x) (rh x) = rt x)) R = true then 1 else 0)), hp g' t') := by
  obtain ⟨r1, r2, r3⟩ := id hR
  by_cases q : R = 0
  · subst q
    refine ⟨g, t, ⟨cf.rf, fun _ _ => rfl, hK⟩, ?_⟩
    rw [if_pos (show allb (fun x => decide (dq H G kd gv rs w f l row (rd x) (rh x) = rt x)) 0 = true from rfl)]
    simp (disch := omega) only [sX8_right_0, sX8_right_1, sX8_right_4, sX8_right_7, sX8_right_10, sX8_right_11, sX8_right_14, sX8_right_15, sX8_right_18, sX8_right_21, sX8_right_24, sX8_right_25, sX8_right_28, sX8_right_29, ↓reduceIte, if_true, if_false, Option.bind_some, Option.bind_none, Option.toList_some, Option.toList_none, List.cons_append, List.nil_append, Option.elim_some, true_or, or_true, or_false, false_or, true_and, and_true, and_false, false_and, zio1, zio0, zio01, not_true_eq_false, not_false_eq_true, nlt, neq, nlt0, n0lt, neq0, neq1, nm9, m9n, nadd, nadd1, nmul, ncl, zin_t, r1]
  · have h0 := (r3 0 (by omega)).1.2
    obtain ⟨g1, t1', Q, a1, a2, a3⟩ := kX8_asItIs (L := L) (xs := xs) (t := t) hT hG hK (by omega)
    refine ⟨g1, t1', Q, ?_⟩
    have e1 := kX4_areSo (L := L) (xs := xs) (t := t1') (o := 19) (D := dq H G kd gv rs w f l row) (Or.inl rfl) hT.2.1 (Q.1.reads hR) (fun k hk => a1 _ (r3 k hk).2.1.2 _ (r3 k hk).1.2)
    by_cases z : allb (fun x => decide (dq H G kd gv rs w f l row (rd x) (rh x) = rt x)) R = true
    · rw [if_pos z] at e1 ⊢
      simp (disch := omega) only [sX8_right_0, sX8_right_1, sX8_right_4, sX8_right_7, sX8_right_10, sX8_right_11, sX8_right_14, sX8_right_15, sX8_right_18, sX8_right_21, sX8_right_24, sX8_right_25, sX8_right_28, sX8_right_29, ↓reduceIte, if_true, if_false, Option.bind_some, Option.bind_none, Option.toList_some, Option.toList_none, List.cons_append, List.nil_append, Option.elim_some, true_or, or_true, or_false, false_or, true_and, and_true, and_false, false_and, zio1, zio0, zio01, not_true_eq_false, not_false_eq_true, nlt, neq, nlt0, n0lt, neq0, neq1, nm9, m9n, nadd, nadd1, nmul, ncl, zin_t, r1, q, a3, e1]
    · rw [if_neg z] at e1 ⊢
      simp (disch := omega) only [sX8_right_0, sX8_right_1, sX8_right_4, sX8_right_7, sX8_right_10, sX8_right_11, sX8_right_14, sX8_right_15, sX8_right_18, sX8_right_21, sX8_right_24, sX8_right_25, sX8_right_28, sX8_right_29, ↓reduceIte, if_true, if_false, Option.bind_some, Option.bind_none, Option.toList_some, Option.toList_none, List.cons_append, List.nil_append, Option.elim_some, true_or, or_true, or_false, false_or, true_and, and_true, and_false, false_and, zio1, zio0, zio01, not_true_eq_false, not_false_eq_true, nlt, neq, nlt0, n0lt, neq0, neq1, nm9, m9n, nadd, nadd1, nmul, ncl, zin_t, r1, q, a3, e1]
end C7
