/-! The reference's public questions on nights and dawns. -/
theorem i64 (x : Int32) : x.toInt64.toInt = x.toInt := Int32.toInt_toInt64 x
theorem nI_back {x : Int32} (h : 0 ≤ x.toInt) : x = nI x.toInt.toNat := by
  apply Int32.toInt_inj.mp
  have h2 : x.toInt < 2147483648 := by have := Int32.toInt_lt x; simpa using this
  rw [nI_toInt (by omega)]
  omega
theorem nI_inr {x : Int32} {n : Nat} (h : 0 ≤ x.toInt ∧ x.toInt < n) : ∃ k, k < n ∧ x = nI k := ⟨x.toInt.toNat, by omega, nI_back h.1⟩
theorem nI_inr2 {x : Int32} {n : Nat} (h : 0 ≤ x.toInt ∧ x.toInt ≤ n) : ∃ k, k ≤ n ∧ x = nI k := ⟨x.toInt.toNat, by omega, nI_back h.1⟩
section M5
variable {L : Nat} {xs : Nat → Int32} {g g' : Nat → Nat → Int32} {t : Nat → Int64}
variable {H S G : Nat} {kd bd gv rs dr w f l : Nat → Nat} {row : Nat → Int32}
variable {om : Int32} {omw omf pl : Nat}
theorem kX9_inI {x : Int32} {b c : Int64} {lo hi : Int} (hb : b.toInt = lo) (hc : c.toInt = hi) : go L xs 97 69 0 [some (.long x.toInt64), none, some (.long b), none, some (.long c), none] [] (hp g t) = some (some (.int (if lo ≤ x.toInt ∧ x.toInt ≤ hi then 1 else 0)), hp g t) := by
  rw [kX9_in]
  congr 4
  by_cases q1 : x.toInt64 < b
  · rw [if_pos q1, if_neg]
    have := Int64.lt_iff_toInt_lt.mp q1
    rw [i64] at this
    omega
  · rw [if_neg q1]
    have h1 : ¬ x.toInt64.toInt < b.toInt := fun z => q1 (Int64.lt_iff_toInt_lt.mpr z)
    rw [i64] at h1
    by_cases q2 : c < x.toInt64
    · rw [if_pos q2, if_neg]
      have := Int64.lt_iff_toInt_lt.mp q2
      rw [i64] at this
      omega
    · rw [if_neg q2, if_pos]
      have h2 : ¬ c.toInt < x.toInt64.toInt := fun z => q2 (Int64.lt_iff_toInt_lt.mpr z)
      rw [i64] at h2
      omega
theorem kX9_nH (hT : MTn g H S kd bd gv rs dr) {x : Int32} : go L xs 104 69 0 [some (.ref 45), some (.int x)] [] (hp g t) = some (some (.int (if 0 ≤ x.toInt ∧ x.toInt < H then 0 else 1)), hp g t) := by
  have hh := hT.2.1
  have h1 : ((nI H).toInt64 - 1).toInt = (H : Int) - 1 := by
    have : ∀ k, k ≤ 7 → ((nI k).toInt64 - 1).toInt = (k : Int) - 1 := by decide +kernel
    exact this H hh
  have hin := kX9_inI (L := L) (xs := xs) (g := g) (t := t) (x := x) (b := 0) (c := (nI H).toInt64 - 1) (lo := 0) (hi := (H : Int) - 1) (by decide) h1
  have t1 := hT.1
  by_cases q : 0 ≤ x.toInt ∧ x.toInt < H
  · rw [if_pos (by omega)] at hin
    simp (disch := omega) only [sX9_noHouse_0, sX9_noHouse_1, sX9_noHouse_2, sX9_noHouse_3, sX9_noHouse_4, sX9_noHouse_7, sX9_noHouse_8, sX9_noHouse_9, sX9_noHouse_10, sX9_noHouse_13, sX9_noHouse_16, sX9_noHouse_17, sX9_noHouse_20, sX9_noHouse_21, ↓reduceIte, if_true, if_false, Option.bind_some, Option.bind_none, Option.toList_some, Option.toList_none, List.cons_append, List.nil_append, Option.elim_some, true_or, or_true, or_false, false_or, true_and, and_true, and_false, false_and, zio1, zio0, zio01, not_true_eq_false, not_false_eq_true, t1, hin, if_pos q]
  · rw [if_neg (by omega)] at hin
    simp (disch := omega) only [sX9_noHouse_0, sX9_noHouse_1, sX9_noHouse_2, sX9_noHouse_3, sX9_noHouse_4, sX9_noHouse_7, sX9_noHouse_8, sX9_noHouse_9, sX9_noHouse_10, sX9_noHouse_13, sX9_noHouse_16, sX9_noHouse_17, sX9_noHouse_20, sX9_noHouse_21, ↓reduceIte, if_true, if_false, Option.bind_some, Option.bind_none, Option.toList_some, Option.toList_none, List.cons_append, List.nil_append, Option.elim_some, true_or, or_true, or_false, false_or, true_and, and_true, and_false, false_and, zio1, zio0, zio01, not_true_eq_false, not_false_eq_true, t1, hin, if_neg q]
theorem kX9_nG (hG : MGs g H G w f l row) {x : Int32} : go L xs 111 69 0 [some (.ref 45), some (.int x)] [] (hp g t) = some (some (.int (if 0 ≤ x.toInt ∧ x.toInt < G then 0 else 1)), hp g t) := by
  have hh := hG.2.1
  have h1 : ((nI G).toInt64 - 1).toInt = (G : Int) - 1 := by
    have : ∀ k, k ≤ 8 → ((nI k).toInt64 - 1).toInt = (k : Int) - 1 := by decide +kernel
    exact this G hh
  have hin := kX9_inI (L := L) (xs := xs) (g := g) (t := t) (x := x) (b := 0) (c := (nI G).toInt64 - 1) (lo := 0) (hi := (G : Int) - 1) (by decide) h1
  have t1 := hG.1
  by_cases q : 0 ≤ x.toInt ∧ x.toInt < G
  · rw [if_pos (by omega)] at hin
    simp (disch := omega) only [sX9_noGuest_0, sX9_noGuest_1, sX9_noGuest_2, sX9_noGuest_3, sX9_noGuest_4, sX9_noGuest_7, sX9_noGuest_8, sX9_noGuest_9, sX9_noGuest_10, sX9_noGuest_13, sX9_noGuest_16, sX9_noGuest_17, sX9_noGuest_20, sX9_noGuest_21, ↓reduceIte, if_true, if_false, Option.bind_some, Option.bind_none, Option.toList_some, Option.toList_none, List.cons_append, List.nil_append, Option.elim_some, true_or, or_true, or_false, false_or, true_and, and_true, and_false, false_and, zio1, zio0, zio01, not_true_eq_false, not_false_eq_true, t1, hin, if_pos q]
  · rw [if_neg (by omega)] at hin
    simp (disch := omega) only [sX9_noGuest_0, sX9_noGuest_1, sX9_noGuest_2, sX9_noGuest_3, sX9_noGuest_4, sX9_noGuest_7, sX9_noGuest_8, sX9_noGuest_9, sX9_noGuest_10, sX9_noGuest_13, sX9_noGuest_16, sX9_noGuest_17, sX9_noGuest_20, sX9_noGuest_21, ↓reduceIte, if_true, if_false, Option.bind_some, Option.bind_none, Option.toList_some, Option.toList_none, List.cons_append, List.nil_append, Option.elim_some, true_or, or_true, or_false, false_or, true_and, and_true, and_false, false_and, zio1, zio0, zio01, not_true_eq_false, not_false_eq_true, t1, hin, if_neg q]
theorem kX9_isDawn {x : Int32} : go L xs 128 69 0 [some (.int x)] [] (hp g t) = some (some (.int (if 0 ≤ x.toInt ∧ x.toInt ≤ 50 then 1 else 0)), hp g t) := by
  have hin := kX9_inI (L := L) (xs := xs) (g := g) (t := t) (x := x) (b := 0) (c := 50) (lo := 0) (hi := 50) (by decide) (by decide)
  by_cases q : 0 ≤ x.toInt ∧ x.toInt ≤ 50
  · rw [if_pos q] at hin
    simp only [sX9_isDawn_0, sX9_isDawn_1, sX9_isDawn_2, sX9_isDawn_3, sX9_isDawn_6, sX9_isDawn_9, ↓reduceIte, if_true, if_false, Option.bind_some, Option.bind_none, Option.toList_some, Option.toList_none, List.cons_append, List.nil_append, Option.elim_some, true_or, or_true, or_false, false_or, true_and, and_true, and_false, false_and, zio1, zio0, zio01, not_true_eq_false, not_false_eq_true, hin, if_pos q]
  · rw [if_neg q] at hin
    simp only [sX9_isDawn_0, sX9_isDawn_1, sX9_isDawn_2, sX9_isDawn_3, sX9_isDawn_6, sX9_isDawn_9, ↓reduceIte, if_true, if_false, Option.bind_some, Option.bind_none, Option.toList_some, Option.toList_none, List.cons_append, List.nil_append, Option.elim_some, true_or, or_true, or_false, false_or, true_and, and_true, and_false, false_and, zio1, zio0, zio01, not_true_eq_false, not_false_eq_true, hin, if_neg q]
/-- the depths as all is -/
abbrev dq (H G : Nat) (kd gv rs w f l : Nat → Nat) (row : Nat → Int32) : Nat → Nat → Nat := dp H G kd gv rs w f l row (-9) 0 0 0
theorem dq_le (hT : MTn g H S kd bd gv rs dr) (hG : MGs g H G w f l row) (hO : MOs g om omw omf pl) {n h : Nat} (hn : n ≤ 51) (hh : h < H) : dp H G kd gv rs w f l row om omw omf pl n h ≤ 1000000 := by
  have := dp_le hT hG hO n h hh
  have : n * 7290 ≤ 51 * 7290 := Nat.mul_le_mul hn (Nat.le_refl _)
  omega
theorem qX9_depth (hT : MTn g H S kd bd gv rs dr) (hG : MGs g H G w f l row) {x y : Int32} : ∃ g', fr g g' ∧ go L xs 129 69 0 [some (.ref 45), some (.int x), some (.int y)] [] (hp g t) = some (some (.int (if 0 ≤ x.toInt ∧ x.toInt < H then (if 0 ≤ y.toInt ∧ y.toInt ≤ 50 then nI (dq H G kd gv rs w f l row y.toInt.toNat x.toInt.toNat) else -2) else -1)), hp g' t) := by
  have h1 := kX9_nH (L := L) (xs := xs) (t := t) (x := x) hT
  have h2 := kX9_isDawn (L := L) (xs := xs) (g := g) (t := t) (x := y)
  by_cases q : 0 ≤ x.toInt ∧ x.toInt < H
  · rw [if_pos q] at h1
    by_cases q2 : 0 ≤ y.toInt ∧ y.toInt ≤ 50
    · rw [if_pos q2] at h2
      have hx := nI_back q.1
      have hy := nI_back q2.1
      generalize hk : x.toInt.toNat = k at hx
      generalize hm : y.toInt.toNat = m at hy
      subst hx hy
      obtain ⟨g1, f1, o1, d1, e1⟩ := kX9_goTo (L := L) (xs := xs) (t := t) (m := m) (by omega) hT hG
      refine ⟨g1, f1, ?_⟩
      have d2 := d1 k (by omega)
      have := hT.2.1
      simp (disch := omega) only [sX9_depth_0, sX9_depth_1, sX9_depth_2, sX9_depth_5, sX9_depth_8, sX9_depth_9, sX9_depth_10, sX9_depth_11, sX9_depth_14, sX9_depth_17, sX9_depth_19, sX9_depth_20, sX9_depth_21, sX9_depth_22, sX9_depth_25, sX9_depth_26, sX9_depth_29, sX9_depth_30, sX9_depth_31, ↓reduceIte, if_true, if_false, Option.bind_some, Option.bind_none, Option.toList_some, Option.toList_none, List.cons_append, List.nil_append, Option.elim_some, true_or, or_true, or_false, false_or, true_and, and_true, and_false, false_and, zio1, zio0, zio01, not_true_eq_false, not_false_eq_true, h1, h2, e1, if_pos q, if_pos q2, nlt, neq, nlt0, n0lt, neq0, neq1, nm9, m9n, nadd, nadd1, nmul, ncl, zin_t, d2, hk, hm]
    · rw [if_neg q2] at h2
      refine ⟨g, fr.rf, ?_⟩
      simp (disch := omega) only [sX9_depth_0, sX9_depth_1, sX9_depth_2, sX9_depth_5, sX9_depth_8, sX9_depth_9, sX9_depth_10, sX9_depth_11, sX9_depth_14, sX9_depth_17, sX9_depth_19, sX9_depth_20, sX9_depth_21, sX9_depth_22, sX9_depth_25, sX9_depth_26, sX9_depth_29, sX9_depth_30, sX9_depth_31, ↓reduceIte, if_true, if_false, Option.bind_some, Option.bind_none, Option.toList_some, Option.toList_none, List.cons_append, List.nil_append, Option.elim_some, true_or, or_true, or_false, false_or, true_and, and_true, and_false, false_and, zio1, zio0, zio01, not_true_eq_false, not_false_eq_true, h1, h2, if_pos q, if_neg q2]
  · rw [if_neg q] at h1
    refine ⟨g, fr.rf, ?_⟩
    simp (disch := omega) only [sX9_depth_0, sX9_depth_1, sX9_depth_2, sX9_depth_5, sX9_depth_8, sX9_depth_9, sX9_depth_10, sX9_depth_11, sX9_depth_14, sX9_depth_17, sX9_depth_19, sX9_depth_20, sX9_depth_21, sX9_depth_22, sX9_depth_25, sX9_depth_26, sX9_depth_29, sX9_depth_30, sX9_depth_31, ↓reduceIte, if_true, if_false, Option.bind_some, Option.bind_none, Option.toList_some, Option.toList_none, List.cons_append, List.nil_append, Option.elim_some, true_or, or_true, or_false, false_or, true_and, and_true, and_false, false_and, zio1, zio0, zio01, not_true_eq_false, not_false_eq_true, h1, if_neg q]
theorem kX9_ap_loop (hT0 : MTn g H S kd bd gv rs dr) (hG0 : MGs g H G w f l row) : ∀ d k (g : Nat → Nat → Int32), k + d = 50 → MTn g H S kd bd gv rs dr → MGs g H G w f l row → MOs g om omw omf pl → (∀ h, h < H → g 57 h = nI (dp H G kd gv rs w f l row om omw omf pl k h)) → ∃ g', fr g g' ∧ MOs g' om omw omf pl ∧ go L xs 126 69 4 [some (.ref 45), some (.int (nI (smn (fun n => plk H S (dp H G kd gv rs w f l row om omw omf pl (n + 1))) k))), some (.int (nI k))] [] (hp g t) = some (some (.int (nI (smn (fun n => plk H S (dp H G kd gv rs w f l row om omw omf pl (n + 1))) 50))), hp g' t)
  | 0, k, g, hk, hT, hG, hO, hD => by
    have hk : k = 50 := by omega
    subst hk
    refine ⟨g, fr.rf, hO, ?_⟩
    simp (disch := omega) only [sX9_allPlanks_0, sX9_allPlanks_1, sX9_allPlanks_2, sX9_allPlanks_3, sX9_allPlanks_4, sX9_allPlanks_5, sX9_allPlanks_7, sX9_allPlanks_10, sX9_allPlanks_11, sX9_allPlanks_12, sX9_allPlanks_15, sX9_allPlanks_16, sX9_allPlanks_17, sX9_allPlanks_20, sX9_allPlanks_21, sX9_allPlanks_22, sX9_allPlanks_25, sX9_allPlanks_28, sX9_allPlanks_29, ↓reduceIte, if_true, if_false, Option.bind_some, Option.bind_none, Option.toList_some, Option.toList_none, List.cons_append, List.nil_append, Option.elim_some, true_or, or_true, or_false, false_or, true_and, and_true, and_false, false_and, zio1, zio0, zio01, not_true_eq_false, not_false_eq_true, nlt, neq, nlt0, n0lt, neq0, neq1, nm9, m9n, nadd, nadd1, nmul, ncl, zin_t, li50, Nat.lt_irrefl]
  | d + 1, k, g, hk, hT, hG, hO, hD => by
    have hlt : k < 50 := by omega
    obtain ⟨g1, f1, o1, d1, e1⟩ := kX9_night (L := L) (xs := xs) (t := t) (n := k) (by omega) hT hG hO hD
    obtain ⟨g2, f2, o2, e2⟩ := kX9_ap_loop hT0 hG0 d (k + 1) g1 (by omega) (f1.town hT) (f1.guests hG) o1 d1
    refine ⟨g2, f1.tr f2, o2, ?_⟩
    have hpn := kX9_planksNow (L := L) (xs := xs) (t := t) (f1.town hT) (fun h hh => ⟨d1 h hh, dq_le (f1.town hT) (f1.guests hG) o1 (by omega) hh⟩)
    rw [sX9_allPlanks_4]
    simp (disch := omega) only [sX9_allPlanks_5, sX9_allPlanks_7, sX9_allPlanks_10, sX9_allPlanks_11, sX9_allPlanks_12, sX9_allPlanks_15, sX9_allPlanks_16, sX9_allPlanks_17, sX9_allPlanks_20, sX9_allPlanks_21, sX9_allPlanks_22, sX9_allPlanks_25, ↓reduceIte, if_true, if_false, Option.bind_some, Option.bind_none, Option.toList_some, Option.toList_none, List.cons_append, List.nil_append, Option.elim_some, true_or, or_true, or_false, false_or, true_and, and_true, and_false, false_and, zio1, zio0, zio01, not_true_eq_false, not_false_eq_true, nlt, neq, nlt0, n0lt, neq0, neq1, nm9, m9n, nadd, nadd1, nmul, ncl, zin_t, li50, hlt, e1, hpn]
    exact e2
/-- the planks in all -/
abbrev apl (H S G : Nat) (kd gv rs w f l : Nat → Nat) (row : Nat → Int32) (om : Int32) (omw omf pl : Nat) : Nat := smn (fun n => plk H S (dp H G kd gv rs w f l row om omw omf pl (n + 1))) 50
theorem kX9_allPlanks (hT : MTn g H S kd bd gv rs dr) (hG : MGs g H G w f l row) (hO : MOs g om omw omf pl) (hD : ∀ h, h < H → g 57 h = 0) : ∃ g', fr g g' ∧ MOs g' om omw omf pl ∧ go L xs 126 69 0 [some (.ref 45), none, none] [] (hp g t) = some (some (.int (nI (apl H S G kd gv rs w f l row om omw omf pl))), hp g' t) := by
  obtain ⟨g1, f1, o1, e1⟩ := kX9_ap_loop (L := L) (xs := xs) (t := t) hT hG 50 0 g (by omega) hT hG hO (fun h hh => by rw [hD h hh]; exact nI_0.symm)
  refine ⟨g1, f1, o1, ?_⟩
  rw [show smn (fun n => plk H S (dp H G kd gv rs w f l row om omw omf pl (n + 1))) 0 = 0 from rfl, nI_0] at e1
  simp only [sX9_allPlanks_0, sX9_allPlanks_1, sX9_allPlanks_2, sX9_allPlanks_3]
  exact e1
theorem qX9_planks (hT : MTn g H S kd bd gv rs dr) (hG : MGs g H G w f l row) {x : Int32} : ∃ g', fr g g' ∧ go L xs 131 69 0 [some (.ref 45), some (.int x)] [] (hp g t) = some (some (.int (if -1 ≤ x.toInt ∧ x.toInt ≤ 50 then (if H = 0 then -3 else if x.toInt < 0 then nI (apl H S G kd gv rs w f l row (-9) 0 0 0) else nI (plk H S (dq H G kd gv rs w f l row x.toInt.toNat))) else -2)), hp g' t) := by
  have hin := kX9_inI (L := L) (xs := xs) (g := g) (t := t) (x := x) (b := -1) (c := 50) (lo := -1) (hi := 50) (by decide) (by decide)
  have t1 := hT.1
  have t2 := hT.2.1
  by_cases q : -1 ≤ x.toInt ∧ x.toInt ≤ 50
  · rw [if_pos q] at hin
    by_cases q2 : H = 0
    · refine ⟨g, fr.rf, ?_⟩
      simp (disch := omega) only [sX9_planks_0, sX9_planks_1, sX9_planks_2, sX9_planks_5, sX9_planks_8, sX9_planks_11, sX9_planks_14, sX9_planks_16, sX9_planks_17, sX9_planks_18, sX9_planks_21, sX9_planks_24, sX9_planks_26, sX9_planks_27, sX9_planks_28, sX9_planks_31, sX9_planks_32, sX9_planks_35, sX9_planks_36, sX9_planks_39, sX9_planks_40, sX9_planks_41, sX9_planks_42, sX9_planks_45, sX9_planks_46, sX9_planks_49, ↓reduceIte, if_true, if_false, Option.bind_some, Option.bind_none, Option.toList_some, Option.toList_none, List.cons_append, List.nil_append, Option.elim_some, true_or, or_true, or_false, false_or, true_and, and_true, and_false, false_and, zio1, zio0, zio01, not_true_eq_false, not_false_eq_true, nlt, neq, nlt0, n0lt, neq0, neq1, nm9, m9n, nadd, nadd1, nmul, ncl, zin_t, hin, if_pos q, t1, q2, nI_0]
    · by_cases q3 : x.toInt < 0
      · obtain ⟨g1, f1, o1, d1, e1⟩ := kX9_beginPlain (L := L) (xs := xs) (t := t) (g := g)
        obtain ⟨g2, f2, o2, e2⟩ := kX9_allPlanks (L := L) (xs := xs) (t := t) (f1.town hT) (f1.guests hG) o1 (fun h hh => d1 h (by omega))
        refine ⟨g2, f1.tr f2, ?_⟩
        have hx : x < 0 := Int32.lt_iff_toInt_lt.mpr (by simpa using q3)
        simp (disch := omega) only [sX9_planks_0, sX9_planks_1, sX9_planks_2, sX9_planks_5, sX9_planks_8, sX9_planks_11, sX9_planks_14, sX9_planks_16, sX9_planks_17, sX9_planks_18, sX9_planks_21, sX9_planks_24, sX9_planks_26, sX9_planks_27, sX9_planks_28, sX9_planks_31, sX9_planks_32, sX9_planks_35, sX9_planks_36, sX9_planks_39, sX9_planks_40, sX9_planks_41, sX9_planks_42, sX9_planks_45, sX9_planks_46, sX9_planks_49, ↓reduceIte, if_true, if_false, Option.bind_some, Option.bind_none, Option.toList_some, Option.toList_none, List.cons_append, List.nil_append, Option.elim_some, true_or, or_true, or_false, false_or, true_and, and_true, and_false, false_and, zio1, zio0, zio01, not_true_eq_false, not_false_eq_true, nlt, neq, nlt0, n0lt, neq0, neq1, nm9, m9n, nadd, nadd1, nmul, ncl, zin_t, hin, if_pos q, t1, q2, q3, hx, e1, e2]
      · have hx := nI_back (x := x) (by omega)
        generalize hk : x.toInt.toNat = k at hx
        subst hx
        obtain ⟨g1, f1, o1, d1, e1⟩ := kX9_goTo (L := L) (xs := xs) (t := t) (m := k) (by omega) hT hG
        have hpn := kX9_planksNow (L := L) (xs := xs) (t := t) (f1.town hT) (fun h hh => ⟨d1 h hh, dq_le (f1.town hT) (f1.guests hG) o1 (by omega) hh⟩)
        refine ⟨g1, f1, ?_⟩
        simp (disch := omega) only [sX9_planks_0, sX9_planks_1, sX9_planks_2, sX9_planks_5, sX9_planks_8, sX9_planks_11, sX9_planks_14, sX9_planks_16, sX9_planks_17, sX9_planks_18, sX9_planks_21, sX9_planks_24, sX9_planks_26, sX9_planks_27, sX9_planks_28, sX9_planks_31, sX9_planks_32, sX9_planks_35, sX9_planks_36, sX9_planks_39, sX9_planks_40, sX9_planks_41, sX9_planks_42, sX9_planks_45, sX9_planks_46, sX9_planks_49, ↓reduceIte, if_true, if_false, Option.bind_some, Option.bind_none, Option.toList_some, Option.toList_none, List.cons_append, List.nil_append, Option.elim_some, true_or, or_true, or_false, false_or, true_and, and_true, and_false, false_and, zio1, zio0, zio01, not_true_eq_false, not_false_eq_true, nlt, neq, nlt0, n0lt, neq0, neq1, nm9, m9n, nadd, nadd1, nmul, ncl, zin_t, hin, if_pos q, t1, q2, q3, e1, hpn]
  · rw [if_neg q] at hin
    refine ⟨g, fr.rf, ?_⟩
    simp (disch := omega) only [sX9_planks_0, sX9_planks_1, sX9_planks_2, sX9_planks_5, sX9_planks_8, sX9_planks_11, sX9_planks_14, sX9_planks_16, sX9_planks_17, sX9_planks_18, sX9_planks_21, sX9_planks_24, sX9_planks_26, sX9_planks_27, sX9_planks_28, sX9_planks_31, sX9_planks_32, sX9_planks_35, sX9_planks_36, sX9_planks_39, sX9_planks_40, sX9_planks_41, sX9_planks_42, sX9_planks_45, sX9_planks_46, sX9_planks_49, ↓reduceIte, if_true, if_false, Option.bind_some, Option.bind_none, Option.toList_some, Option.toList_none, List.cons_append, List.nil_append, Option.elim_some, true_or, or_true, or_false, false_or, true_and, and_true, and_false, false_and, zio1, zio0, zio01, not_true_eq_false, not_false_eq_true, nlt, neq, nlt0, n0lt, neq0, neq1, nm9, m9n, nadd, nadd1, nmul, ncl, zin_t, hin, if_neg q]
end M5
