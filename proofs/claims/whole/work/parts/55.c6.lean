/-! The class: what is kept, asItIs, the questions on nights. -/
section C6
variable {L : Nat} {xs : Nat → Int32} {g g' : Nat → Nat → Int32} {t : Nat → Int64}
variable {H S G R : Nat} {kd bd gv rs dr w f l rh rd rt : Nat → Nat} {row : Nat → Int32}
def CGs (g : Nat → Nat → Int32) (H G : Nat) (w f l : Nat → Nat) (row : Nat → Int32) : Prop := g 10 5 = nI G ∧ G ≤ 8 ∧ (∀ k, k < G → (g 11 k = nI (w k) ∧ 1 ≤ w k ∧ w k ≤ 30) ∧ g 12 k = nI (f k) ∧ g 13 k = nI (l k) ∧ f k ≤ l k ∧ l k ≤ 49 ∧ g 14 k = row k ∧ (row k = -9 ∨ ∃ h, h < H ∧ row k = nI h)) ∧ ∀ k, G ≤ k → k < 9 → g 14 k = -9
def CRs (g : Nat → Nat → Int32) (H R : Nat) (rh rd rt : Nat → Nat) : Prop := g 15 3 = nI R ∧ R ≤ 10 ∧ ∀ k, k < R → (g 16 k = nI (rh k) ∧ rh k < H) ∧ (g 17 k = nI (rd k) ∧ rd k ≤ 50) ∧ g 18 k = nI (rt k) ∧ rt k ≤ 999999
/-- what a question leaves as it was -/
def cf (g g' : Nat → Nat → Int32) : Prop := (∀ a, 1 ≤ a → a ≤ 10 → g' a = g a) ∧ (∀ a k, 11 ≤ a → a ≤ 13 → k < 8 → g' a k = g a k) ∧ (∀ a, 14 ≤ a → a ≤ 18 → g' a = g a) ∧ (∀ a, 36 ≤ a → g' a = g a) ∧ g' 0 9 = g 0 9 ∧ g' 0 10 = g 0 10
theorem cf.rf : cf g g := ⟨fun _ _ _ => rfl, fun _ _ _ _ _ => rfl, fun _ _ _ => rfl, fun _ _ => rfl, rfl, rfl⟩
theorem cf.tr {g1 g2 g3 : Nat → Nat → Int32} (h : cf g1 g2) (h' : cf g2 g3) : cf g1 g3 := ⟨fun a x y => (h'.1 a x y).trans (h.1 a x y), fun a k x y z => (h'.2.1 a k x y z).trans (h.2.1 a k x y z), fun a x y => (h'.2.2.1 a x y).trans (h.2.2.1 a x y), fun a x => (h'.2.2.2.1 a x).trans (h.2.2.2.1 a x), h'.2.2.2.2.1.trans h.2.2.2.2.1, h'.2.2.2.2.2.trans h.2.2.2.2.2⟩
theorem cf.town (F : cf g g') (hT : CTn g H S kd bd gv rs dr) : CTn g' H S kd bd gv rs dr := by
  have h7 := hT.2.1
  refine ⟨(by rw [F.1 1 (by omega) (by omega)]; exact hT.1), h7, (by rw [F.1 1 (by omega) (by omega)]; exact hT.2.2.1), hT.2.2.2.1, fun q hq => ?_⟩
  rw [F.1 (3 + q) (by omega) (by omega)]
  exact hT.2.2.2.2 q hq
theorem cf.guests (F : cf g g') (hG : CGs g H G w f l row) : CGs g' H G w f l row := by
  obtain ⟨h1, h2, h3, h4⟩ := hG
  refine ⟨by rw [F.1 10 (by omega) (by omega)]; exact h1, h2, fun k hk => ?_, fun k a b => by rw [F.2.2.1 14 (by omega) (by omega)]; exact h4 k a b⟩
  rw [F.2.1 11 k (by omega) (by omega) (by omega), F.2.1 12 k (by omega) (by omega) (by omega), F.2.1 13 k (by omega) (by omega) (by omega), F.2.2.1 14 (by omega) (by omega)]
  exact h3 k hk
theorem cf.reads (F : cf g g') (hR : CRs g H R rh rd rt) : CRs g' H R rh rd rt := by
  unfold CRs
  rw [F.2.2.1 15 (by omega) (by omega), F.2.2.1 16 (by omega) (by omega), F.2.2.1 17 (by omega) (by omega), F.2.2.1 18 (by omega) (by omega)]
  exact hR
/-- the nights are as they are kept -/
def CK (g : Nat → Nat → Int32) (H G : Nat) (kd gv rs w f l : Nat → Nat) (row : Nat → Int32) : Prop := g 0 8 = 0 ∨ (g 0 8 = 1 ∧ ∀ d, d ≤ 50 → ∀ h, h < H → g 20 (7 * d + h) = nI (dq H G kd gv rs w f l row d h))
theorem CGs.g9 (hG : CGs g H G w f l row) : CG9 g 14 H (xf G w 0) (xf G f 0) (xf G l 49) (xr G row (-9)) := by
  intro k hk
  obtain ⟨h1, h2, h3, h4⟩ := hG
  by_cases q : k < G
  · obtain ⟨⟨a1, a2, a3⟩, a4, a5, a6, a7, a8, a9⟩ := h3 k q
    simp only [xr, xf, q, if_true]
    exact ⟨a8, a9.elim Or.inl (fun z => Or.inr ⟨z, a1, by omega, a4, a5, a6, a7⟩)⟩
  · have e : xr G row (-9) k = -9 := by
      unfold xr
      rw [if_neg q]
      split <;> rfl
    rw [e]
    exact ⟨h4 k (by omega) hk, Or.inl rfl⟩
theorem dq_leC (hT : CTn g H S kd bd gv rs dr) (hG : CGs g H G w f l row) {d h : Nat} (hd : d ≤ 50) (hh : h < H) : dq H G kd gv rs w f l row d h ≤ 2000000 := by
  show dp H G kd gv rs w f l row (-9) 0 0 0 d h ≤ _
  rw [← dpW_dp (G := G) (omw := 0) (omf := 0) hG.2.1 hT.2.1 hd hh]
  exact dpW_le2 hT (fun n h hh => W9_le hG.g9 hh) hd hh
/-- a question on the nights -/
def qn (g g' : Nat → Nat → Int32) (H G : Nat) (kd gv rs w f l : Nat → Nat) (row : Nat → Int32) : Prop := cf g g' ∧ (∀ a, 29 ≤ a → g' a = g a) ∧ CK g' H G kd gv rs w f l row
theorem kX8_asItIs (hT : CTn g H S kd bd gv rs dr) (hG : CGs g H G w f l row) (hK : CK g H G kd gv rs w f l row) (hH : 0 < H) : ∃ g' t', qn g g' H G kd gv rs w f l row ∧ (∀ d, d ≤ 50 → ∀ h, h < H → g' (19 + 1) (7 * d + h) = nI (dq H G kd gv rs w f l row d h) ∧ dq H G kd gv rs w f l row d h ≤ 2000000) ∧ CTn g' H S kd bd gv rs dr ∧ go L xs 87 69 0 [some (.ref 0)] [] (hp g t) = some (some (.ref 19), hp g' t') := by
  rcases id hK with q | ⟨q, hq⟩
  · obtain ⟨g1, t1, F1, a1, N1, e1⟩ := kX3_pass (L := L) (xs := xs) (t := t) (o := 19) (c := 14) (m := 50) (Or.inl rfl) (Or.inl rfl) hH (by omega) hT hG.g9
    have F2 : cf g (zu g1 0 8 1) := by
      refine ⟨fun a x y => ?_, fun a k x y _ => ?_, fun a x y => ?_, fun a x => ?_, ?_, ?_⟩
      · rw [← F1 a (by omega)]
        have : a ≠ 0 := by omega
        funext p; simp [zu, this]
      · rw [← F1 a (by omega)]
        have : a ≠ 0 := by omega
        simp [zu, this]
      · rw [← F1 a (by omega)]
        have : a ≠ 0 := by omega
        funext p; simp [zu, this]
      · rw [← F1 a (by omega)]
        have : a ≠ 0 := by omega
        funext p; simp [zu, this]
      · rw [← F1 0 (by omega)]; simp [zu]
      · rw [← F1 0 (by omega)]; simp [zu]
    have hd : ∀ d, d ≤ 50 → ∀ h, h < H → (zu g1 0 8 1) (19 + 1) (7 * d + h) = nI (dq H G kd gv rs w f l row d h) := fun d hd h hh => by
      have := N1.1 d hd h hh
      rw [dpW_dp hG.2.1 hT.2.1 hd hh] at this
      rw [← this]
      simp [zu]
    refine ⟨zu g1 0 8 1, t1, ⟨F2, fun a ha => ?_, Or.inr ⟨by simp [zu], hd⟩⟩, fun d x h hh => ⟨hd d x h hh, dq_leC hT hG x hh⟩, F2.town hT, ?_⟩
    · rw [← F1 a (by omega)]
      have : a ≠ 0 := by omega
      funext p; simp [zu, this]
    · rw [show nI 50 = 50 by decide] at e1
      simp only [sX8_asItIs_0, sX8_asItIs_1, sX8_asItIs_4, sX8_asItIs_7, sX8_asItIs_8, sX8_asItIs_11, sX8_asItIs_12, sX8_asItIs_15, sX8_asItIs_18, sX8_asItIs_20, sX8_asItIs_23, sX8_asItIs_24, sX8_asItIs_25, sX8_asItIs_28, sX8_asItIs_29, sX8_asItIs_32, ↓reduceIte, if_true, if_false, Option.bind_some, Option.bind_none, Option.toList_some, Option.toList_none, List.cons_append, List.nil_append, Option.elim_some, true_or, or_true, or_false, false_or, true_and, and_true, and_false, false_and, zio1, zio0, zio01, not_true_eq_false, not_false_eq_true, q, e1]
  · refine ⟨g, t, ⟨cf.rf, fun _ _ => rfl, hK⟩, fun d x h hh => ⟨hq d x h hh, dq_leC hT hG x hh⟩, hT, ?_⟩
    simp only [sX8_asItIs_0, sX8_asItIs_1, sX8_asItIs_4, sX8_asItIs_7, sX8_asItIs_8, sX8_asItIs_11, sX8_asItIs_12, sX8_asItIs_15, sX8_asItIs_18, sX8_asItIs_20, sX8_asItIs_23, sX8_asItIs_24, sX8_asItIs_25, sX8_asItIs_28, sX8_asItIs_29, sX8_asItIs_32, ↓reduceIte, if_true, if_false, Option.bind_some, Option.bind_none, Option.toList_some, Option.toList_none, List.cons_append, List.nil_append, Option.elim_some, true_or, or_true, or_false, false_or, true_and, and_true, and_false, false_and, zio1, zio0, zio01, not_true_eq_false, not_false_eq_true, q]
theorem kX8_in {x a b : Int32} {lo hi : Int} (ha : a.toInt = lo) (hb : b.toInt = hi) : go L xs 79 69 0 [some (.int x), some (.int a), some (.int b)] [] (hp g t) = some (some (.int (if lo ≤ x.toInt ∧ x.toInt ≤ hi then 1 else 0)), hp g t) := by
  by_cases q1 : x.toInt < lo
  · have e1 : (x < a) = True := eq_true (Int32.lt_iff_toInt_lt.mpr (by omega))
    rw [if_neg (by omega)]
    simp only [sX8_isWithin_0, sX8_isWithin_1, sX8_isWithin_2, sX8_isWithin_5, sX8_isWithin_6, sX8_isWithin_7, sX8_isWithin_10, sX8_isWithin_11, sX8_isWithin_14, sX8_isWithin_15, ↓reduceIte, if_true, if_false, Option.bind_some, Option.bind_none, Option.toList_some, Option.toList_none, List.cons_append, List.nil_append, Option.elim_some, true_or, or_true, or_false, false_or, true_and, and_true, and_false, false_and, zio1, zio0, zio01, not_true_eq_false, not_false_eq_true, e1]
  · have e1 : (x < a) = False := eq_false (fun z => by have := Int32.lt_iff_toInt_lt.mp z; omega)
    by_cases q2 : hi < x.toInt
    · have e2 : (b < x) = True := eq_true (Int32.lt_iff_toInt_lt.mpr (by omega))
      rw [if_neg (by omega)]
      simp only [sX8_isWithin_0, sX8_isWithin_1, sX8_isWithin_2, sX8_isWithin_5, sX8_isWithin_6, sX8_isWithin_7, sX8_isWithin_10, sX8_isWithin_11, sX8_isWithin_14, sX8_isWithin_15, ↓reduceIte, if_true, if_false, Option.bind_some, Option.bind_none, Option.toList_some, Option.toList_none, List.cons_append, List.nil_append, Option.elim_some, true_or, or_true, or_false, false_or, true_and, and_true, and_false, false_and, zio1, zio0, zio01, not_true_eq_false, not_false_eq_true, e1, e2]
    · have e2 : (b < x) = False := eq_false (fun z => by have := Int32.lt_iff_toInt_lt.mp z; omega)
      rw [if_pos (by omega)]
      simp only [sX8_isWithin_0, sX8_isWithin_1, sX8_isWithin_2, sX8_isWithin_5, sX8_isWithin_6, sX8_isWithin_7, sX8_isWithin_10, sX8_isWithin_11, sX8_isWithin_14, sX8_isWithin_15, ↓reduceIte, if_true, if_false, Option.bind_some, Option.bind_none, Option.toList_some, Option.toList_none, List.cons_append, List.nil_append, Option.elim_some, true_or, or_true, or_false, false_or, true_and, and_true, and_false, false_and, zio1, zio0, zio01, not_true_eq_false, not_false_eq_true, e1, e2]
theorem kX8_isDawn {x : Int32} : go L xs 83 69 0 [some (.int x)] [] (hp g t) = some (some (.int (if 0 ≤ x.toInt ∧ x.toInt ≤ 50 then 1 else 0)), hp g t) := by
  have h := kX8_in (L := L) (xs := xs) (g := g) (t := t) (x := x) (a := 0) (b := 50) (lo := 0) (hi := 50) (by decide) (by decide)
  have hz : ((if 0 ≤ x.toInt ∧ x.toInt ≤ 50 then (1 : Int32) else 0) = 0 ∨ (if 0 ≤ x.toInt ∧ x.toInt ≤ 50 then (1 : Int32) else 0) = 1) := by split <;> simp
  simp only [sX8_isDawn_0, sX8_isDawn_1, sX8_isDawn_2, sX8_isDawn_4, sX8_isDawn_7, ↓reduceIte, if_true, if_false, Option.bind_some, Option.bind_none, Option.toList_some, Option.toList_none, List.cons_append, List.nil_append, Option.elim_some, true_or, or_true, or_false, false_or, true_and, and_true, and_false, false_and, zio1, zio0, zio01, not_true_eq_false, not_false_eq_true, h, eq_true hz]
theorem kX8_isNight {x : Int32} : go L xs 82 69 0 [some (.int x)] [] (hp g t) = some (some (.int (if 0 ≤ x.toInt ∧ x.toInt ≤ 49 then 1 else 0)), hp g t) := by
  have h := kX8_in (L := L) (xs := xs) (g := g) (t := t) (x := x) (a := 0) (b := 49) (lo := 0) (hi := 49) (by decide) (by decide)
  have hz : ((if 0 ≤ x.toInt ∧ x.toInt ≤ 49 then (1 : Int32) else 0) = 0 ∨ (if 0 ≤ x.toInt ∧ x.toInt ≤ 49 then (1 : Int32) else 0) = 1) := by split <;> simp
  simp only [sX8_isNight_0, sX8_isNight_1, sX8_isNight_2, sX8_isNight_4, sX8_isNight_7, ↓reduceIte, if_true, if_false, Option.bind_some, Option.bind_none, Option.toList_some, Option.toList_none, List.cons_append, List.nil_append, Option.elim_some, true_or, or_true, or_false, false_or, true_and, and_true, and_false, false_and, zio1, zio0, zio01, not_true_eq_false, not_false_eq_true, h, eq_true hz]
theorem kX8_isSheet {x : Int32} : go L xs 80 69 0 [some (.int x)] [] (hp g t) = some (some (.int (if 0 ≤ x.toInt ∧ x.toInt ≤ 3 then 1 else 0)), hp g t) := by
  have h := kX8_in (L := L) (xs := xs) (g := g) (t := t) (x := x) (a := 0) (b := 3) (lo := 0) (hi := 3) (by decide) (by decide)
  have hz : ((if 0 ≤ x.toInt ∧ x.toInt ≤ 3 then (1 : Int32) else 0) = 0 ∨ (if 0 ≤ x.toInt ∧ x.toInt ≤ 3 then (1 : Int32) else 0) = 1) := by split <;> simp
  simp only [sX8_isSheet_0, sX8_isSheet_1, sX8_isSheet_2, sX8_isSheet_3, sX8_isSheet_6, ↓reduceIte, if_true, if_false, Option.bind_some, Option.bind_none, Option.toList_some, Option.toList_none, List.cons_append, List.nil_append, Option.elim_some, true_or, or_true, or_false, false_or, true_and, and_true, and_false, false_and, zio1, zio0, zio01, not_true_eq_false, not_false_eq_true, h, eq_true hz]
theorem kX8_isLane {x : Int32} : go L xs 81 69 0 [some (.int x)] [] (hp g t) = some (some (.int (if 0 ≤ x.toInt ∧ x.toInt ≤ 2 then 1 else 0)), hp g t) := by
  have h := kX8_in (L := L) (xs := xs) (g := g) (t := t) (x := x) (a := 0) (b := 2) (lo := 0) (hi := 2) (by decide) (by decide)
  have hz : ((if 0 ≤ x.toInt ∧ x.toInt ≤ 2 then (1 : Int32) else 0) = 0 ∨ (if 0 ≤ x.toInt ∧ x.toInt ≤ 2 then (1 : Int32) else 0) = 1) := by split <;> simp
  simp only [sX8_isLane_0, sX8_isLane_1, sX8_isLane_2, sX8_isLane_3, sX8_isLane_6, ↓reduceIte, if_true, if_false, Option.bind_some, Option.bind_none, Option.toList_some, Option.toList_none, List.cons_append, List.nil_append, Option.elim_some, true_or, or_true, or_false, false_or, true_and, and_true, and_false, false_and, zio1, zio0, zio01, not_true_eq_false, not_false_eq_true, h, eq_true hz]
theorem pX8_depth (hT : CTn g H S kd bd gv rs dr) (hG : CGs g H G w f l row) (hK : CK g H G kd gv rs w f l row) {x y : Int32} : ∃ g' t', qn g g' H G kd gv rs w f l row ∧ go L xs 53 69 0 [some (.ref 0), some (.int x), some (.int y)] [] (hp g t) = some (some (.int (if 0 ≤ x.toInt ∧ x.toInt < H then (if 0 ≤ y.toInt ∧ y.toInt ≤ 50 then nI (dq H G kd gv rs w f l row y.toInt.toNat x.toInt.toNat) else -2) else -1)), hp g' t') := by
  have h1 := kX7_has (L := L) (xs := xs) (t := t) (x := x) hT
  have h2 := kX8_isDawn (L := L) (xs := xs) (g := g) (t := t) (x := y)
  have h7 := hT.2.1
  by_cases q1 : 0 ≤ x.toInt ∧ x.toInt < H
  · rw [if_pos q1] at h1 ⊢
    by_cases q2 : 0 ≤ y.toInt ∧ y.toInt ≤ 50
    · rw [if_pos q2] at h2 ⊢
      have hx := nI_back q1.1
      have hy := nI_back q2.1
      generalize hk : x.toInt.toNat = k at hx
      generalize hm : y.toInt.toNat = m at hy
      subst hx hy
      obtain ⟨g1, t1, Q, a1, a2, a3⟩ := kX8_asItIs (L := L) (xs := xs) (t := t) hT hG hK (by omega)
      have e1 := kX3_depthAt (L := L) (xs := xs) (t := t1) (o := 19) (D := dq H G kd gv rs w f l row) (d := m) (h := k) (Or.inl rfl) (by omega) (by omega) (a1 m (by omega) k (by omega)).1
      refine ⟨g1, t1, Q, ?_⟩
      simp only [sX8_depth_0, sX8_depth_1, sX8_depth_4, sX8_depth_5, sX8_depth_8, sX8_depth_11, sX8_depth_12, sX8_depth_13, sX8_depth_14, sX8_depth_17, sX8_depth_20, sX8_depth_22, sX8_depth_23, sX8_depth_24, sX8_depth_27, sX8_depth_28, sX8_depth_29, sX8_depth_32, ↓reduceIte, if_true, if_false, Option.bind_some, Option.bind_none, Option.toList_some, Option.toList_none, List.cons_append, List.nil_append, Option.elim_some, true_or, or_true, or_false, false_or, true_and, and_true, and_false, false_and, zio1, zio0, zio01, not_true_eq_false, not_false_eq_true, h1, h2, a3, e1]
    · rw [if_neg q2] at h2 ⊢
      refine ⟨g, t, ⟨cf.rf, fun _ _ => rfl, hK⟩, ?_⟩
      simp only [sX8_depth_0, sX8_depth_1, sX8_depth_4, sX8_depth_5, sX8_depth_8, sX8_depth_11, sX8_depth_12, sX8_depth_13, sX8_depth_14, sX8_depth_17, sX8_depth_20, sX8_depth_22, sX8_depth_23, sX8_depth_24, sX8_depth_27, sX8_depth_28, sX8_depth_29, sX8_depth_32, ↓reduceIte, if_true, if_false, Option.bind_some, Option.bind_none, Option.toList_some, Option.toList_none, List.cons_append, List.nil_append, Option.elim_some, true_or, or_true, or_false, false_or, true_and, and_true, and_false, false_and, zio1, zio0, zio01, not_true_eq_false, not_false_eq_true, h1, h2]
  · rw [if_neg q1] at h1 ⊢
    refine ⟨g, t, ⟨cf.rf, fun _ _ => rfl, hK⟩, ?_⟩
    simp only [sX8_depth_0, sX8_depth_1, sX8_depth_4, sX8_depth_5, sX8_depth_8, sX8_depth_11, sX8_depth_12, sX8_depth_13, sX8_depth_14, sX8_depth_17, sX8_depth_20, sX8_depth_22, sX8_depth_23, sX8_depth_24, sX8_depth_27, sX8_depth_28, sX8_depth_29, sX8_depth_32, ↓reduceIte, if_true, if_false, Option.bind_some, Option.bind_none, Option.toList_some, Option.toList_none, List.cons_append, List.nil_append, Option.elim_some, true_or, or_true, or_false, false_or, true_and, and_true, and_false, false_and, zio1, zio0, zio01, not_true_eq_false, not_false_eq_true, h1]
theorem lft_or {P : Nat → Prop} [DecidablePred P] (b : Nat) : ∀ x a, lft P x (a ||| b) = lft P x a ||| b
  | 0, _ => rfl
  | x + 1, a => by
    unfold lft
    split
    · rw [Nat.or_assoc, Nat.or_comm b, ← Nat.or_assoc, lft_or b x]
    · rfl
theorem rgt_or {P : Nat → Prop} [DecidablePred P] (b : Nat) : ∀ e x a, rgt P e x (a ||| b) = rgt P e x a ||| b
  | 0, _, _ => rfl
  | e + 1, x, a => by
    unfold rgt
    split
    · rw [Nat.or_assoc, Nat.or_comm b, ← Nat.or_assoc, rgt_or b e]
    · rfl
theorem rl_comm {P : Nat → Prop} [DecidablePred P] (e x y a : Nat) : rgt P e x (lft P y a) = lft P y (rgt P e x a) := by
  have h1 : lft P y a = lft P y 0 ||| a := by rw [← lft_or, Nat.zero_or]
  have h2 : lft P y (rgt P e x a) = lft P y 0 ||| rgt P e x a := by rw [← lft_or, Nat.zero_or]
  rw [h1, h2, Nat.or_comm _ a, rgt_or, Nat.or_comm]
theorem kX8_rc1 {D : Nat → Nat → Nat} {d h : Nat} (hd : d ≤ 50) (hT : CTn g H S kd bd gv rs dr) (hD : ∀ h, h < H → g (19 + 1) (7 * d + h) = nI (D d h) ∧ D d h ≤ 2000000) : ∀ x a, x < H → ∃ x5, go L xs 54 69 38 [some (.ref 0), some (.int (nI h)), some (.int (nI d)), some (.ref 19), some (.int (nI a)), some (.int (nI x - 1))] [] (hp g t) = go L xs 54 69 68 [some (.ref 0), some (.int (nI h)), some (.int (nI d)), some (.ref 19), some (.int (nI (lft (sp S (D d)) x a))), x5] [] (hp g t)
  | 0, a, hx => by
    refine ⟨some (.int (nI 0 - 1)), ?_⟩
    simp (disch := omega) only [sX8_reach_38, sX8_reach_40, ↓reduceIte, if_true, if_false, Option.bind_some, Option.bind_none, Option.toList_some, Option.toList_none, List.cons_append, List.nil_append, Option.elim_some, true_or, or_true, or_false, false_or, true_and, and_true, and_false, false_and, zio1, zio0, zio01, not_true_eq_false, not_false_eq_true, n0m1, lft]
  | x + 1, a, hx => by
    have h7 := hT.2.1
    have hst := kX3_canStep (L := L) (xs := xs) (t := t) (o := 19) (Or.inl rfl) hT hd hx hD
    unfold lft
    by_cases z : sp S (D d) x
    · rw [if_pos z] at hst ⊢
      obtain ⟨x5, ih⟩ := kX8_rc1 (h := h) hd hT hD x (a ||| 2 ^ x) (by omega)
      refine ⟨x5, ?_⟩
      rw [← ih, sX8_reach_38, nsub1 (by omega), Nat.add_sub_cancel]
      simp (disch := omega) only [sX8_reach_40, sX8_reach_43, sX8_reach_44, sX8_reach_46, sX8_reach_47, sX8_reach_50, sX8_reach_53, sX8_reach_55, sX8_reach_56, sX8_reach_58, sX8_reach_59, sX8_reach_60, sX8_reach_62, sX8_reach_65, ↓reduceIte, if_true, if_false, Option.bind_some, Option.bind_none, Option.toList_some, Option.toList_none, List.cons_append, List.nil_append, Option.elim_some, true_or, or_true, or_false, false_or, true_and, and_true, and_false, false_and, zio1, zio0, zio01, not_true_eq_false, not_false_eq_true, nlt, neq, nlt0, n0lt, neq0, neq1, nm9, m9n, nadd, nadd1, nmul, ncl, zin_t, hst, sh_1, fa_or2, m1_e]
    · rw [if_neg z] at hst ⊢
      refine ⟨some (.int (nI x)), ?_⟩
      rw [sX8_reach_38, nsub1 (by omega), Nat.add_sub_cancel]
      simp (disch := omega) only [sX8_reach_40, sX8_reach_43, sX8_reach_44, sX8_reach_46, sX8_reach_47, sX8_reach_50, sX8_reach_53, sX8_reach_55, sX8_reach_56, sX8_reach_58, sX8_reach_59, sX8_reach_60, sX8_reach_62, sX8_reach_65, ↓reduceIte, if_true, if_false, Option.bind_some, Option.bind_none, Option.toList_some, Option.toList_none, List.cons_append, List.nil_append, Option.elim_some, true_or, or_true, or_false, false_or, true_and, and_true, and_false, false_and, zio1, zio0, zio01, not_true_eq_false, not_false_eq_true, nlt, neq, nlt0, n0lt, neq0, neq1, nm9, m9n, nadd, nadd1, nmul, ncl, zin_t, hst]
theorem kX8_rc2 {D : Nat → Nat → Nat} {d h : Nat} (hd : d ≤ 50) (hT : CTn g H S kd bd gv rs dr) (hD : ∀ h, h < H → g (19 + 1) (7 * d + h) = nI (D d h) ∧ D d h ≤ 2000000) : ∀ e x a, x + e + 1 = H → go L xs 54 69 73 [some (.ref 0), some (.int (nI h)), some (.int (nI d)), some (.ref 19), some (.int (nI a)), some (.int (nI (x + 1)))] [] (hp g t) = some (some (.int (nI (rgt (sp S (D d)) e x a))), hp g t)
  | 0, x, a, hx => by
    have t1 := hT.1
    have h7 := hT.2.1
    have q : ¬ x + 1 < H := by omega
    simp (disch := omega) only [sX8_reach_73, sX8_reach_75, sX8_reach_76, sX8_reach_79, sX8_reach_82, sX8_reach_112, sX8_reach_114, ↓reduceIte, if_true, if_false, Option.bind_some, Option.bind_none, Option.toList_some, Option.toList_none, List.cons_append, List.nil_append, Option.elim_some, true_or, or_true, or_false, false_or, true_and, and_true, and_false, false_and, zio1, zio0, zio01, not_true_eq_false, not_false_eq_true, nlt, neq, nlt0, n0lt, neq0, neq1, nm9, m9n, nadd, nadd1, nmul, ncl, zin_t, t1, q, rgt]
  | e + 1, x, a, hx => by
    have t1 := hT.1
    have h7 := hT.2.1
    have q : x + 1 < H := by omega
    have hst := kX3_canStep (L := L) (xs := xs) (t := t) (o := 19) (Or.inl rfl) hT hd q hD
    unfold rgt
    by_cases z : sp S (D d) x
    · rw [if_pos z] at hst ⊢
      have ih := kX8_rc2 (h := h) hd hT hD e (x + 1) (a ||| 2 ^ (x + 1)) (by omega)
      rw [← ih, sX8_reach_73]
      simp (disch := omega) only [sX8_reach_75, sX8_reach_76, sX8_reach_79, sX8_reach_82, sX8_reach_85, sX8_reach_86, sX8_reach_88, sX8_reach_89, sX8_reach_90, sX8_reach_91, sX8_reach_94, sX8_reach_97, sX8_reach_99, sX8_reach_100, sX8_reach_102, sX8_reach_103, sX8_reach_104, sX8_reach_106, sX8_reach_109, ↓reduceIte, if_true, if_false, Option.bind_some, Option.bind_none, Option.toList_some, Option.toList_none, List.cons_append, List.nil_append, Option.elim_some, true_or, or_true, or_false, false_or, true_and, and_true, and_false, false_and, zio1, zio0, zio01, not_true_eq_false, not_false_eq_true, nlt, neq, nlt0, n0lt, neq0, neq1, nm9, m9n, nadd, nadd1, nmul, ncl, zin_t, t1, q, nsub1, Nat.add_sub_cancel, hst, sh_1, fa_or2]
    · rw [if_neg z] at hst ⊢
      rw [sX8_reach_73]
      simp (disch := omega) only [sX8_reach_75, sX8_reach_76, sX8_reach_79, sX8_reach_82, sX8_reach_85, sX8_reach_86, sX8_reach_88, sX8_reach_89, sX8_reach_90, sX8_reach_91, sX8_reach_94, sX8_reach_97, sX8_reach_99, sX8_reach_100, sX8_reach_102, sX8_reach_103, sX8_reach_104, sX8_reach_106, sX8_reach_109, sX8_reach_112, sX8_reach_114, ↓reduceIte, if_true, if_false, Option.bind_some, Option.bind_none, Option.toList_some, Option.toList_none, List.cons_append, List.nil_append, Option.elim_some, true_or, or_true, or_false, false_or, true_and, and_true, and_false, false_and, zio1, zio0, zio01, not_true_eq_false, not_false_eq_true, nlt, neq, nlt0, n0lt, neq0, neq1, nm9, m9n, nadd, nadd1, nmul, ncl, zin_t, t1, q, nsub1, Nat.add_sub_cancel, hst]
theorem pX8_reach (hT : CTn g H S kd bd gv rs dr) (hG : CGs g H G w f l row) (hK : CK g H G kd gv rs w f l row) {x y : Int32} : ∃ g' t', qn g g' H G kd gv rs w f l row ∧ go L xs 54 69 0 [some (.ref 0), some (.int x), some (.int y), none, none, none] [] (hp g t) = some (some (.int (if 0 ≤ x.toInt ∧ x.toInt < H then (if 0 ≤ y.toInt ∧ y.toInt ≤ 50 then nI (lft (sp S (dq H G kd gv rs w f l row y.toInt.toNat)) x.toInt.toNat (rgt (sp S (dq H G kd gv rs w f l row y.toInt.toNat)) (H - 1 - x.toInt.toNat) x.toInt.toNat (2 ^ x.toInt.toNat))) else -2) else -1)), hp g' t') := by
  have h1 := kX7_has (L := L) (xs := xs) (t := t) (x := x) hT
  have h2 := kX8_isDawn (L := L) (xs := xs) (g := g) (t := t) (x := y)
  have h7 := hT.2.1
  by_cases q1 : 0 ≤ x.toInt ∧ x.toInt < H
  · rw [if_pos q1] at h1 ⊢
    by_cases q2 : 0 ≤ y.toInt ∧ y.toInt ≤ 50
    · rw [if_pos q2] at h2 ⊢
      have hx := nI_back q1.1
      have hy := nI_back q2.1
      generalize hk : x.toInt.toNat = k at hx
      generalize hm : y.toInt.toNat = m at hy
      subst hx hy
      obtain ⟨g1, t1, Q, a1, a2, a3⟩ := kX8_asItIs (L := L) (xs := xs) (t := t) hT hG hK (by omega)
      obtain ⟨x5, e1⟩ := kX8_rc1 (L := L) (xs := xs) (t := t1) (D := dq H G kd gv rs w f l row) (d := m) (h := k) (by omega) a2 (a1 m (by omega)) k (2 ^ k) (by omega)
      have e2 := kX8_rc2 (L := L) (xs := xs) (t := t1) (D := dq H G kd gv rs w f l row) (d := m) (h := k) (by omega) a2 (a1 m (by omega)) (H - 1 - k) k (lft (sp S (dq H G kd gv rs w f l row m)) k (2 ^ k)) (by omega)
      refine ⟨g1, t1, Q, ?_⟩
      simp (disch := omega) only [sX8_reach_0, sX8_reach_1, sX8_reach_4, sX8_reach_5, sX8_reach_8, sX8_reach_11, sX8_reach_12, sX8_reach_13, sX8_reach_14, sX8_reach_17, sX8_reach_20, sX8_reach_22, sX8_reach_23, sX8_reach_24, sX8_reach_27, sX8_reach_28, sX8_reach_29, sX8_reach_30, sX8_reach_31, sX8_reach_33, sX8_reach_34, sX8_reach_35, sX8_reach_36, ↓reduceIte, if_true, if_false, Option.bind_some, Option.bind_none, Option.toList_some, Option.toList_none, List.cons_append, List.nil_append, Option.elim_some, true_or, or_true, or_false, false_or, true_and, and_true, and_false, false_and, zio1, zio0, zio01, not_true_eq_false, not_false_eq_true, h1, h2, a3, sh_1]
      rw [e1]
      simp (disch := omega) only [sX8_reach_68, sX8_reach_69, sX8_reach_70, sX8_reach_71, ↓reduceIte, if_true, if_false, Option.bind_some, Option.bind_none, Option.toList_some, Option.toList_none, List.cons_append, List.nil_append, Option.elim_some, true_or, or_true, or_false, false_or, true_and, and_true, and_false, false_and, zio1, zio0, zio01, not_true_eq_false, not_false_eq_true, nlt, neq, nlt0, n0lt, neq0, neq1, nm9, m9n, nadd, nadd1, nmul, ncl, zin_t]
      rw [e2, rl_comm]
    · rw [if_neg q2] at h2 ⊢
      refine ⟨g, t, ⟨cf.rf, fun _ _ => rfl, hK⟩, ?_⟩
      simp only [sX8_reach_0, sX8_reach_1, sX8_reach_4, sX8_reach_5, sX8_reach_8, sX8_reach_11, sX8_reach_12, sX8_reach_13, sX8_reach_14, sX8_reach_17, sX8_reach_20, sX8_reach_22, ↓reduceIte, if_true, if_false, Option.bind_some, Option.bind_none, Option.toList_some, Option.toList_none, List.cons_append, List.nil_append, Option.elim_some, true_or, or_true, or_false, false_or, true_and, and_true, and_false, false_and, zio1, zio0, zio01, not_true_eq_false, not_false_eq_true, h1, h2]
  · rw [if_neg q1] at h1 ⊢
    refine ⟨g, t, ⟨cf.rf, fun _ _ => rfl, hK⟩, ?_⟩
    simp only [sX8_reach_0, sX8_reach_1, sX8_reach_4, sX8_reach_5, sX8_reach_8, sX8_reach_11, sX8_reach_12, sX8_reach_13, sX8_reach_14, sX8_reach_17, sX8_reach_20, sX8_reach_22, ↓reduceIte, if_true, if_false, Option.bind_some, Option.bind_none, Option.toList_some, Option.toList_none, List.cons_append, List.nil_append, Option.elim_some, true_or, or_true, or_false, false_or, true_and, and_true, and_false, false_and, zio1, zio0, zio01, not_true_eq_false, not_false_eq_true, h1]
theorem kX8_pk_loop {D : Nat → Nat → Nat} {x1 : Option Value} (hT : CTn g H S kd bd gv rs dr) (hD : ∀ d, d ≤ 50 → ∀ h, h < H → g (19 + 1) (7 * d + h) = nI (D d h) ∧ D d h ≤ 2000000) : ∀ e n, n + e = 50 → go L xs 55 69 49 [some (.ref 0), x1, some (.ref 19), some (.int (nI (smn (fun n => plk H S (D (n + 1))) n))), some (.int (nI (n + 1)))] [] (hp g t) = some (some (.int (nI (smn (fun n => plk H S (D (n + 1))) 50))), hp g t)
  | 0, n, hn => by
    have hn : n = 50 := by omega
    subst hn
    simp (disch := omega) only [sX8_planks_49, sX8_planks_51, sX8_planks_53, sX8_planks_71, sX8_planks_72, ↓reduceIte, if_true, if_false, Option.bind_some, Option.bind_none, Option.toList_some, Option.toList_none, List.cons_append, List.nil_append, Option.elim_some, true_or, or_true, or_false, false_or, true_and, and_true, and_false, false_and, zio1, zio0, zio01, not_true_eq_false, not_false_eq_true, nlt, neq, nlt0, n0lt, neq0, neq1, nm9, m9n, nadd, nadd1, nmul, ncl, zin_t, li50, (show 50 < 51 by omega)]
  | e + 1, n, hn => by
    have ih := kX8_pk_loop (x1 := x1) hT hD e (n + 1) (by omega)
    have q : ¬ 50 < n + 1 := by omega
    have h1 := kX3_planksAt (L := L) (xs := xs) (t := t) (o := 19) (d := n + 1) (Or.inl rfl) hT (by omega) (hD (n + 1) (by omega))
    rw [show smn (fun n => plk H S (D (n + 1))) (n + 1) = smn (fun n => plk H S (D (n + 1))) n + plk H S (D (n + 1)) from rfl] at ih
    rw [← ih, sX8_planks_49]
    simp (disch := omega) only [sX8_planks_51, sX8_planks_53, sX8_planks_56, sX8_planks_57, sX8_planks_58, sX8_planks_60, sX8_planks_63, sX8_planks_64, sX8_planks_65, sX8_planks_68, ↓reduceIte, if_true, if_false, Option.bind_some, Option.bind_none, Option.toList_some, Option.toList_none, List.cons_append, List.nil_append, Option.elim_some, true_or, or_true, or_false, false_or, true_and, and_true, and_false, false_and, zio1, zio0, zio01, not_true_eq_false, not_false_eq_true, nlt, neq, nlt0, n0lt, neq0, neq1, nm9, m9n, nadd, nadd1, nmul, ncl, zin_t, li50, q, h1]
theorem pX8_planks (hT : CTn g H S kd bd gv rs dr) (hG : CGs g H G w f l row) (hK : CK g H G kd gv rs w f l row) {x : Int32} : ∃ g' t', qn g g' H G kd gv rs w f l row ∧ go L xs 55 69 0 [some (.ref 0), some (.int x), none, none, none] [] (hp g t) = some (some (.int (if -1 ≤ x.toInt ∧ x.toInt ≤ 50 then (if H = 0 then -3 else if x.toInt < 0 then nI (apl H S G kd gv rs w f l row (-9) 0 0 0) else nI (plk H S (dq H G kd gv rs w f l row x.toInt.toNat))) else -2)), hp g' t') := by
  have h2 := kX8_isDawn (L := L) (xs := xs) (g := g) (t := t) (x := x)
  have t1 := hT.1
  have h7 := hT.2.1
  have hm1 : (-1 : Int32).toInt = -1 := by decide
  by_cases q1 : x = -1
  · subst q1
    rw [if_pos (by omega)]
    by_cases q3 : H = 0
    · refine ⟨g, t, ⟨cf.rf, fun _ _ => rfl, hK⟩, ?_⟩
      rw [if_pos q3]
      simp (disch := omega) only [sX8_planks_0, sX8_planks_1, sX8_planks_2, sX8_planks_5, sX8_planks_6, sX8_planks_9, sX8_planks_12, sX8_planks_14, sX8_planks_15, sX8_planks_16, sX8_planks_19, sX8_planks_22, sX8_planks_25, sX8_planks_27, ↓reduceIte, if_true, if_false, Option.bind_some, Option.bind_none, Option.toList_some, Option.toList_none, List.cons_append, List.nil_append, Option.elim_some, true_or, or_true, or_false, false_or, true_and, and_true, and_false, false_and, zio1, zio0, zio01, not_true_eq_false, not_false_eq_true, nlt, neq, nlt0, n0lt, neq0, neq1, nm9, m9n, nadd, nadd1, nmul, ncl, zin_t, t1, q3, nI_0]
    · rw [if_neg q3, if_pos (by omega)]
      obtain ⟨g1, t1', Q, a1, a2, a3⟩ := kX8_asItIs (L := L) (xs := xs) (t := t) hT hG hK (by omega)
      refine ⟨g1, t1', Q, ?_⟩
      have e1 := kX8_pk_loop (L := L) (xs := xs) (t := t1') (D := dq H G kd gv rs w f l row) (x1 := some (.int (-1))) a2 a1 50 0 (by omega)
      rw [show smn (fun n => plk H S (dq H G kd gv rs w f l row (n + 1))) 0 = 0 from rfl, nI_0, show nI (0 + 1) = 1 by decide] at e1
      simp (disch := omega) only [sX8_planks_0, sX8_planks_1, sX8_planks_2, sX8_planks_5, sX8_planks_6, sX8_planks_9, sX8_planks_12, sX8_planks_14, sX8_planks_15, sX8_planks_16, sX8_planks_19, sX8_planks_22, sX8_planks_25, sX8_planks_27, sX8_planks_28, sX8_planks_29, sX8_planks_32, sX8_planks_33, sX8_planks_34, sX8_planks_35, sX8_planks_38, sX8_planks_39, sX8_planks_40, sX8_planks_43, sX8_planks_44, sX8_planks_45, sX8_planks_46, sX8_planks_47, ↓reduceIte, if_true, if_false, Option.bind_some, Option.bind_none, Option.toList_some, Option.toList_none, List.cons_append, List.nil_append, Option.elim_some, true_or, or_true, or_false, false_or, true_and, and_true, and_false, false_and, zio1, zio0, zio01, not_true_eq_false, not_false_eq_true, nlt, neq, nlt0, n0lt, neq0, neq1, nm9, m9n, nadd, nadd1, nmul, ncl, zin_t, t1, q3, a3]
      exact e1
  · have n1 : ¬ x.toInt = -1 := fun z => q1 (tI_eq (z.trans hm1.symm))
    by_cases q2 : 0 ≤ x.toInt ∧ x.toInt ≤ 50
    · rw [if_pos q2] at h2
      rw [if_pos (by omega)]
      by_cases q3 : H = 0
      · refine ⟨g, t, ⟨cf.rf, fun _ _ => rfl, hK⟩, ?_⟩
        rw [if_pos q3]
        simp (disch := omega) only [sX8_planks_0, sX8_planks_1, sX8_planks_2, sX8_planks_5, sX8_planks_6, sX8_planks_9, sX8_planks_12, sX8_planks_14, sX8_planks_15, sX8_planks_16, sX8_planks_19, sX8_planks_22, sX8_planks_25, sX8_planks_27, ↓reduceIte, if_true, if_false, Option.bind_some, Option.bind_none, Option.toList_some, Option.toList_none, List.cons_append, List.nil_append, Option.elim_some, true_or, or_true, or_false, false_or, true_and, and_true, and_false, false_and, zio1, zio0, zio01, not_true_eq_false, not_false_eq_true, nlt, neq, nlt0, n0lt, neq0, neq1, nm9, m9n, nadd, nadd1, nmul, ncl, zin_t, t1, q3, nI_0, q1, h2]
      · rw [if_neg q3, if_neg (by omega)]
        obtain ⟨g1, t1', Q, a1, a2, a3⟩ := kX8_asItIs (L := L) (xs := xs) (t := t) hT hG hK (by omega)
        refine ⟨g1, t1', Q, ?_⟩
        have hx := nI_back q2.1
        generalize hk : x.toInt.toNat = k at hx
        subst hx
        have e1 := kX3_planksAt (L := L) (xs := xs) (t := t1') (o := 19) (D := dq H G kd gv rs w f l row) (d := k) (Or.inl rfl) a2 (by omega) (a1 k (by omega))
        simp (disch := omega) only [sX8_planks_0, sX8_planks_1, sX8_planks_2, sX8_planks_5, sX8_planks_6, sX8_planks_9, sX8_planks_12, sX8_planks_14, sX8_planks_15, sX8_planks_16, sX8_planks_19, sX8_planks_22, sX8_planks_25, sX8_planks_27, sX8_planks_28, sX8_planks_29, sX8_planks_32, sX8_planks_33, sX8_planks_34, sX8_planks_35, sX8_planks_38, sX8_planks_39, sX8_planks_40, sX8_planks_43, ↓reduceIte, if_true, if_false, Option.bind_some, Option.bind_none, Option.toList_some, Option.toList_none, List.cons_append, List.nil_append, Option.elim_some, true_or, or_true, or_false, false_or, true_and, and_true, and_false, false_and, zio1, zio0, zio01, not_true_eq_false, not_false_eq_true, nlt, neq, nlt0, n0lt, neq0, neq1, nm9, m9n, nadd, nadd1, nmul, ncl, zin_t, t1, q3, q1, h2, a3, e1]
    · rw [if_neg q2] at h2
      rw [if_neg (by omega)]
      refine ⟨g, t, ⟨cf.rf, fun _ _ => rfl, hK⟩, ?_⟩
      simp (disch := omega) only [sX8_planks_0, sX8_planks_1, sX8_planks_2, sX8_planks_5, sX8_planks_6, sX8_planks_9, sX8_planks_12, sX8_planks_14, ↓reduceIte, if_true, if_false, Option.bind_some, Option.bind_none, Option.toList_some, Option.toList_none, List.cons_append, List.nil_append, Option.elim_some, true_or, or_true, or_false, false_or, true_and, and_true, and_false, false_and, zio1, zio0, zio01, not_true_eq_false, not_false_eq_true, q1, h2]
end C6
