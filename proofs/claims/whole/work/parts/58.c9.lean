/-! The class: beds. -/
theorem cnt_mono {P Q : Nat → Prop} [DecidablePred P] [DecidablePred Q] : ∀ n, (∀ k, k < n → P k → Q k) → cnt P n ≤ cnt Q n
  | 0, _ => Nat.le_refl _
  | n + 1, h => by
    have ih := cnt_mono n (fun k hk => h k (by omega))
    show cnt P n + (if P n then 1 else 0) ≤ cnt Q n + (if Q n then 1 else 0)
    by_cases q : P n
    · rw [if_pos q, if_pos (h n (by omega) q)]; omega
    · rw [if_neg q]; omega
theorem cnt_at {P : Nat → Prop} [DecidablePred P] {k : Nat} : ∀ n, k < n → cnt P n = cnt (fun j => j ≠ k ∧ P j) n + (if P k then 1 else 0)
  | 0, h => absurd h (by omega)
  | n + 1, h => by
    show cnt P n + (if P n then 1 else 0) = cnt (fun j => j ≠ k ∧ P j) n + (if n ≠ k ∧ P n then 1 else 0) + (if P k then 1 else 0)
    by_cases q : k = n
    · subst q
      rw [if_neg (fun z : k ≠ k ∧ P k => z.1 rfl), cnt_congr k (Q := fun j => j ≠ k ∧ P j) (fun j hj => ⟨fun z => ⟨by omega, z⟩, fun z => z.2⟩)]
      rfl
    · rw [cnt_at (P := P) (k := k) n (by omega)]
      by_cases z : P n
      · rw [if_pos z, if_pos (show n ≠ k ∧ P n from ⟨fun y => q y.symm, z⟩)]; omega
      · rw [if_neg z, if_neg (fun y : n ≠ k ∧ P n => z y.2)]; omega
theorem cnt_max {P : Nat → Prop} [DecidablePred P] {f : Nat → Nat} : ∀ n, cnt P n = 0 ∨ ∃ k, k < n ∧ P k ∧ ∀ j, j < n → P j → f j ≤ f k
  | 0 => Or.inl rfl
  | n + 1 => by
    rcases cnt_max (P := P) (f := f) n with h | ⟨k, h1, h2, h3⟩
    · by_cases q : P n
      · refine Or.inr ⟨n, by omega, q, fun j hj hp1 => ?_⟩
        by_cases z : j = n
        · subst z; exact Nat.le_refl _
        · have : 0 < cnt P n := by
            have := cnt_at (P := P) (k := j) n (by omega)
            rw [if_pos hp1] at this
            omega
          omega
      · refine Or.inl ?_
        show cnt P n + (if P n then 1 else 0) = 0
        rw [h, if_neg q]
    · by_cases q : P n
      · by_cases z : f k ≤ f n
        · exact Or.inr ⟨n, by omega, q, fun j hj hp1 => by
            by_cases y : j = n
            · subst y; exact Nat.le_refl _
            · have := h3 j (by omega) hp1; omega⟩
        · exact Or.inr ⟨k, by omega, h2, fun j hj hp1 => by
            by_cases y : j = n
            · subst y; omega
            · exact h3 j (by omega) hp1⟩
      · exact Or.inr ⟨k, by omega, h2, fun j hj hp1 => by
          by_cases y : j = n
          · subst y; exact absurd hp1 q
          · exact h3 j (by omega) hp1⟩
section C9
variable {L : Nat} {xs : Nat → Int32} {g g' : Nat → Nat → Int32} {t : Nat → Int64}
variable {H S G R : Nat} {kd bd gv rs dr w f l rh rd rt : Nat → Nat} {row : Nat → Int32} {c : Nat}
/-- the guests, without where they sleep -/
def CGb (g : Nat → Nat → Int32) (G : Nat) (w f l : Nat → Nat) : Prop := g 10 5 = nI G ∧ G ≤ 8 ∧ ∀ k, k < G → (g 11 k = nI (w k) ∧ 1 ≤ w k ∧ w k ≤ 30) ∧ g 12 k = nI (f k) ∧ g 13 k = nI (l k) ∧ f k ≤ l k ∧ l k ≤ 49
/-- a row in a cell -/
def CRw (g : Nat → Nat → Int32) (c H G : Nat) (row : Nat → Int32) : Prop := (∀ k, k < G → g c k = row k) ∧ okr H G row ∧ ∀ k, G ≤ k → k < 9 → g c k = -9
theorem CGs.b (hG : CGs g H G w f l row) : CGb g G w f l := ⟨hG.1, hG.2.1, fun k hk => by
  obtain ⟨a, b, c, d, e, -⟩ := hG.2.2.1 k hk
  exact ⟨a, b, c, d, e⟩⟩
theorem CGs.r (hG : CGs g H G w f l row) : CRw g 14 H G row := ⟨fun k hk => (hG.2.2.1 k hk).2.2.2.2.2.1, fun k hk => (hG.2.2.1 k hk).2.2.2.2.2.2, hG.2.2.2⟩
theorem CGs_of (hb : CGb g G w f l) (hr : CRw g 14 H G row) : CGs g H G w f l row := ⟨hb.1, hb.2.1, fun k hk => by
  obtain ⟨a, b, c, d, e⟩ := hb.2.2 k hk
  exact ⟨a, b, c, d, e, hr.1 k hk, hr.2.1 k hk⟩, hr.2.2⟩
theorem g9_of (hb : CGb g G w f l) (hr : CRw g c H G row) : CG9 g c H (xf G w 0) (xf G f 0) (xf G l 49) (xr G row (-9)) := by
  intro k hk
  by_cases q : k < G
  · obtain ⟨⟨a1, a2, a3⟩, a4, a5, a6, a7⟩ := hb.2.2 k q
    simp only [xr, xf, q, if_true]
    exact ⟨hr.1 k q, (hr.2.1 k q).elim Or.inl (fun z => Or.inr ⟨z, a1, by omega, a4, a5, a6, a7⟩)⟩
  · have e : xr G row (-9) k = -9 := by
      unfold xr
      rw [if_neg q]
      split <;> rfl
    rw [e]
    exact ⟨hr.2.2 k (by omega) hk, Or.inl rfl⟩
/-- cells of guests and towns as they were -/
def eb (g g' : Nat → Nat → Int32) : Prop := ∀ a, (1 ≤ a ∧ a ≤ 13) → g' a = g a
theorem eb.town (F : eb g g') (hT : CTn g H S kd bd gv rs dr) : CTn g' H S kd bd gv rs dr := by
  have h7 := hT.2.1
  refine ⟨(by rw [F 1 (by omega)]; exact hT.1), h7, (by rw [F 1 (by omega)]; exact hT.2.2.1), hT.2.2.2.1, fun q hq => ?_⟩
  rw [F (3 + q) (by omega)]
  exact hT.2.2.2.2 q hq
theorem eb.b (F : eb g g') (hb : CGb g G w f l) : CGb g' G w f l := by
  unfold CGb
  rw [F 10 (by omega), F 11 (by omega), F 12 (by omega), F 13 (by omega)]
  exact hb
theorem kX0_sl_loop (hc : c = 14 ∨ c = 30 ∨ c = 34) (hb : CGb g G w f l) (hr : ∀ k, k < G → g c k = row k) {h n : Nat} (hn : n < 1000) : ∀ e k, k + e = G → go L xs 6 69 6 [some (.ref 10), some (.ref c), some (.int (nI h)), some (.int (nI n)), some (.int (nI (cnt (fun k => nI k ≠ -9 ∧ row k = nI h ∧ f k ≤ n ∧ n ≤ l k) k))), some (.int (nI k))] [] (hp g t) = some (some (.int (nI (slp G f l row (-9) h n))), hp g t)
  | 0, k, hk => by
    have hk : k = G := by omega
    subst hk
    obtain ⟨h1, h2, h3⟩ := id hb
    simp (disch := omega) only [sX0_sleepers_6, sX0_sleepers_8, sX0_sleepers_9, sX0_sleepers_12, sX0_sleepers_42, sX0_sleepers_44, ↓reduceIte, if_true, if_false, Option.bind_some, Option.bind_none, Option.toList_some, Option.toList_none, List.cons_append, List.nil_append, Option.elim_some, true_or, or_true, or_false, false_or, true_and, and_true, and_false, false_and, zio1, zio0, zio01, not_true_eq_false, not_false_eq_true, nlt, neq, nlt0, n0lt, neq0, neq1, nm9, m9n, nadd, nadd1, nmul, ncl, zin_t, h1, Nat.lt_irrefl]
    rfl
  | e + 1, k, hk => by
    obtain ⟨h1, h2, h3⟩ := id hb
    have rc := rob hc
    have q : k < G := by omega
    have ih := kX0_sl_loop hc hb hr (h := h) hn e (k + 1) (by omega)
    obtain ⟨-, a4, a5, a6, a7⟩ := h3 k q
    have r1 := hr k q
    have hth := kX0_isThere (L := L) (xs := xs) (t := t) (n := n) (show k < 9 by omega) a4 a5 (by omega) (by omega) (by omega)
    have hk9 : nI k ≠ -9 := fun z => by
      have := nm9 (a := k) (by omega)
      rw [z] at this
      simp at this
    rw [show cnt (fun k => nI k ≠ -9 ∧ row k = nI h ∧ f k ≤ n ∧ n ≤ l k) (k + 1) = cnt (fun k => nI k ≠ -9 ∧ row k = nI h ∧ f k ≤ n ∧ n ≤ l k) k + (if nI k ≠ -9 ∧ row k = nI h ∧ f k ≤ n ∧ n ≤ l k then 1 else 0) from rfl] at ih
    rw [sX0_sleepers_6]
    by_cases q2 : row k = nI h
    · by_cases q3 : f k ≤ n ∧ n ≤ l k
      · rw [if_pos ⟨hk9, q2, q3⟩] at ih
        rw [if_pos q3] at hth
        simp (disch := omega) only [sX0_sleepers_8, sX0_sleepers_9, sX0_sleepers_12, sX0_sleepers_15, sX0_sleepers_16, sX0_sleepers_18, sX0_sleepers_19, sX0_sleepers_20, sX0_sleepers_23, sX0_sleepers_24, sX0_sleepers_26, sX0_sleepers_27, sX0_sleepers_30, sX0_sleepers_33, sX0_sleepers_36, sX0_sleepers_39, ↓reduceIte, if_true, if_false, Option.bind_some, Option.bind_none, Option.toList_some, Option.toList_none, List.cons_append, List.nil_append, Option.elim_some, true_or, or_true, or_false, false_or, true_and, and_true, and_false, false_and, zio1, zio0, zio01, not_true_eq_false, not_false_eq_true, nlt, neq, nlt0, n0lt, neq0, neq1, nm9, m9n, nadd, nadd1, nmul, ncl, zin_t, h1, q, rc, r1, q2, hth]
        exact ih
      · rw [if_neg (fun z => q3 z.2.2)] at ih
        rw [if_neg q3] at hth
        simp (disch := omega) only [sX0_sleepers_8, sX0_sleepers_9, sX0_sleepers_12, sX0_sleepers_15, sX0_sleepers_16, sX0_sleepers_18, sX0_sleepers_19, sX0_sleepers_20, sX0_sleepers_23, sX0_sleepers_24, sX0_sleepers_26, sX0_sleepers_27, sX0_sleepers_30, sX0_sleepers_33, sX0_sleepers_36, sX0_sleepers_39, ↓reduceIte, if_true, if_false, Option.bind_some, Option.bind_none, Option.toList_some, Option.toList_none, List.cons_append, List.nil_append, Option.elim_some, true_or, or_true, or_false, false_or, true_and, and_true, and_false, false_and, zio1, zio0, zio01, not_true_eq_false, not_false_eq_true, nlt, neq, nlt0, n0lt, neq0, neq1, nm9, m9n, nadd, nadd1, nmul, ncl, zin_t, h1, q, rc, r1, q2, hth]
        exact ih
    · rw [if_neg (fun z => q2 z.2.1)] at ih
      simp (disch := omega) only [sX0_sleepers_8, sX0_sleepers_9, sX0_sleepers_12, sX0_sleepers_15, sX0_sleepers_16, sX0_sleepers_18, sX0_sleepers_19, sX0_sleepers_20, sX0_sleepers_23, sX0_sleepers_24, sX0_sleepers_26, sX0_sleepers_27, sX0_sleepers_30, sX0_sleepers_33, sX0_sleepers_36, sX0_sleepers_39, ↓reduceIte, if_true, if_false, Option.bind_some, Option.bind_none, Option.toList_some, Option.toList_none, List.cons_append, List.nil_append, Option.elim_some, true_or, or_true, or_false, false_or, true_and, and_true, and_false, false_and, zio1, zio0, zio01, not_true_eq_false, not_false_eq_true, nlt, neq, nlt0, n0lt, neq0, neq1, nm9, m9n, nadd, nadd1, nmul, ncl, zin_t, h1, q, rc, r1, eq_false q2]
      exact ih
theorem kX0_sleepers (hc : c = 14 ∨ c = 30 ∨ c = 34) (hb : CGb g G w f l) (hr : ∀ k, k < G → g c k = row k) {h n : Nat} (hn : n < 1000) : go L xs 6 69 0 [some (.ref 10), some (.ref c), some (.int (nI h)), some (.int (nI n)), none, none] [] (hp g t) = some (some (.int (nI (slp G f l row (-9) h n))), hp g t) := by
  have e := kX0_sl_loop (L := L) (xs := xs) (t := t) hc hb hr (h := h) hn G 0 (by omega)
  rw [show cnt (fun k => nI k ≠ -9 ∧ row k = nI h ∧ f k ≤ n ∧ n ≤ l k) 0 = 0 from rfl, nI_0] at e
  simp only [sX0_sleepers_0, sX0_sleepers_1, sX0_sleepers_3, sX0_sleepers_4]
  exact e
/-- at a guest's coming there are beds -/
def chk (G : Nat) (bd f l : Nat → Nat) (row : Nat → Int32) (k : Nat) : Bool := decide (row k = -9) || decide (slp G f l row (-9) (row k).toInt.toNat (f k) ≤ bd (row k).toInt.toNat)
theorem kX0_hb_loop (hc : c = 14 ∨ c = 30 ∨ c = 34) (hT : CTn g H S kd bd gv rs dr) (hb : CGb g G w f l) (hr : CRw g c H G row) : ∀ e k (x3 : Option Value), k + e = G → allb (chk G bd f l row) k = true → go L xs 5 69 2 [some (.ref 10), some (.ref c), some (.int (nI k)), x3] [] (hp g t) = some (some (.int (if allb (chk G bd f l row) G = true then 1 else 0)), hp g t)
  | 0, k, x3, hk, ha => by
    have hk : k = G := by omega
    subst hk
    obtain ⟨h1, h2, h3⟩ := id hb
    rw [if_pos ha]
    simp (disch := omega) only [sX0_haveBeds_2, sX0_haveBeds_3, sX0_haveBeds_4, sX0_haveBeds_7, sX0_haveBeds_60, sX0_haveBeds_61, ↓reduceIte, if_true, if_false, Option.bind_some, Option.bind_none, Option.toList_some, Option.toList_none, List.cons_append, List.nil_append, Option.elim_some, true_or, or_true, or_false, false_or, true_and, and_true, and_false, false_and, zio1, zio0, zio01, not_true_eq_false, not_false_eq_true, nlt, neq, nlt0, n0lt, neq0, neq1, nm9, m9n, nadd, nadd1, nmul, ncl, zin_t, h1, Nat.lt_irrefl]
  | e + 1, k, x3, hk, ha => by
    obtain ⟨h1, h2, h3⟩ := id hb
    have rc := rob hc
    have h7 := hT.2.1
    have q : k < G := by omega
    obtain ⟨-, a4, a5, a6, a7⟩ := h3 k q
    have r1 := hr.1 k q
    by_cases q1 : row k = -9
    · have ih := kX0_hb_loop hc hT hb hr e (k + 1) (some (.int (-9))) (by omega) (by
        show (allb _ k && chk G bd f l row k) = true
        rw [ha]
        unfold chk
        simp [q1])
      rw [← ih, sX0_haveBeds_2]
      simp (disch := omega) only [sX0_haveBeds_3, sX0_haveBeds_4, sX0_haveBeds_7, sX0_haveBeds_10, sX0_haveBeds_11, sX0_haveBeds_12, sX0_haveBeds_13, sX0_haveBeds_14, sX0_haveBeds_15, sX0_haveBeds_18, sX0_haveBeds_19, sX0_haveBeds_22, sX0_haveBeds_25, sX0_haveBeds_26, sX0_haveBeds_27, sX0_haveBeds_28, sX0_haveBeds_29, sX0_haveBeds_32, sX0_haveBeds_33, sX0_haveBeds_34, sX0_haveBeds_37, sX0_haveBeds_38, sX0_haveBeds_41, sX0_haveBeds_44, sX0_haveBeds_45, sX0_haveBeds_46, sX0_haveBeds_49, sX0_haveBeds_52, sX0_haveBeds_53, sX0_haveBeds_54, sX0_haveBeds_57, ↓reduceIte, if_true, if_false, Option.bind_some, Option.bind_none, Option.toList_some, Option.toList_none, List.cons_append, List.nil_append, Option.elim_some, true_or, or_true, or_false, false_or, true_and, and_true, and_false, false_and, zio1, zio0, zio01, not_true_eq_false, not_false_eq_true, nlt, neq, nlt0, n0lt, neq0, neq1, nm9, m9n, nadd, nadd1, nmul, ncl, zin_t, h1, q, rc, r1, q1, kX7_hasN hT]
    · obtain ⟨m, m1, m2, m3⟩ := hr.2.1.hs q q1 h7
      obtain ⟨z1, z2⟩ := hob (h := m) (by omega)
      obtain ⟨-, ⟨u1, u2, u3⟩, -⟩ := hT.2.2.2.2 m m1
      have hsl := kX0_sleepers (L := L) (xs := xs) (t := t) (row := row) hc hb hr.1 (h := m) (n := f k) (by omega)
      have hbd := slp_le (G := G) (f := f) (l := l) (row := row) (but := -9) (h := m) (n := f k)
      have hha := kX7_hasH (L := L) (xs := xs) (t := t) hT m1
      by_cases q2 : bd m < slp G f l row (-9) m (f k)
      · have hno : ¬ allb (chk G bd f l row) G = true := fun y => by
          have := allb_iff.mp y k q
          unfold chk at this
          rw [m3] at this
          simp [q1] at this
          omega
        rw [if_neg hno]
        simp (disch := omega) only [sX0_haveBeds_2, sX0_haveBeds_3, sX0_haveBeds_4, sX0_haveBeds_7, sX0_haveBeds_10, sX0_haveBeds_11, sX0_haveBeds_12, sX0_haveBeds_13, sX0_haveBeds_14, sX0_haveBeds_15, sX0_haveBeds_18, sX0_haveBeds_19, sX0_haveBeds_22, sX0_haveBeds_25, sX0_haveBeds_26, sX0_haveBeds_27, sX0_haveBeds_28, sX0_haveBeds_29, sX0_haveBeds_32, sX0_haveBeds_33, sX0_haveBeds_34, sX0_haveBeds_37, sX0_haveBeds_38, sX0_haveBeds_41, sX0_haveBeds_44, sX0_haveBeds_45, sX0_haveBeds_46, sX0_haveBeds_49, sX0_haveBeds_52, sX0_haveBeds_53, ↓reduceIte, if_true, if_false, Option.bind_some, Option.bind_none, Option.toList_some, Option.toList_none, List.cons_append, List.nil_append, Option.elim_some, true_or, or_true, or_false, false_or, true_and, and_true, and_false, false_and, zio1, zio0, zio01, not_true_eq_false, not_false_eq_true, nlt, neq, nlt0, n0lt, neq0, neq1, nm9, m9n, nadd, nadd1, nmul, ncl, zin_t, h1, q, rc, r1, m2, hha, a4, hsl, z1, z2, u1, q2]
      · have ih := kX0_hb_loop hc hT hb hr e (k + 1) (some (.int (nI m))) (by omega) (by
          show (allb _ k && chk G bd f l row k) = true
          rw [ha]
          unfold chk
          rw [m3]
          simp
          exact Or.inr (by omega))
        rw [← ih, sX0_haveBeds_2]
        simp (disch := omega) only [sX0_haveBeds_3, sX0_haveBeds_4, sX0_haveBeds_7, sX0_haveBeds_10, sX0_haveBeds_11, sX0_haveBeds_12, sX0_haveBeds_13, sX0_haveBeds_14, sX0_haveBeds_15, sX0_haveBeds_18, sX0_haveBeds_19, sX0_haveBeds_22, sX0_haveBeds_25, sX0_haveBeds_26, sX0_haveBeds_27, sX0_haveBeds_28, sX0_haveBeds_29, sX0_haveBeds_32, sX0_haveBeds_33, sX0_haveBeds_34, sX0_haveBeds_37, sX0_haveBeds_38, sX0_haveBeds_41, sX0_haveBeds_44, sX0_haveBeds_45, sX0_haveBeds_46, sX0_haveBeds_49, sX0_haveBeds_52, sX0_haveBeds_53, sX0_haveBeds_54, sX0_haveBeds_57, ↓reduceIte, if_true, if_false, Option.bind_some, Option.bind_none, Option.toList_some, Option.toList_none, List.cons_append, List.nil_append, Option.elim_some, true_or, or_true, or_false, false_or, true_and, and_true, and_false, false_and, zio1, zio0, zio01, not_true_eq_false, not_false_eq_true, nlt, neq, nlt0, n0lt, neq0, neq1, nm9, m9n, nadd, nadd1, nmul, ncl, zin_t, h1, q, rc, r1, m2, hha, a4, hsl, z1, z2, u1, q2]
theorem hvb_iff : hvb H G bd f l row = true ↔ ∀ h, h < H → ∀ n, n < 50 → slp G f l row (-9) h n ≤ bd h := by
  rw [show hvb H G bd f l row = allb (fun h => allb (bop G bd f l row h) 50) H from rfl, allb_iff]
  constructor
  · intro z h hh n hn
    have := allb_iff.mp (z h hh) n hn
    simpa [bop] using this
  · intro z h hh
    rw [allb_iff]
    intro n hn
    simpa [bop] using z h hh n hn
theorem chk_hvb (h7 : H ≤ 7) (hok : okr H G row) (hfl : ∀ k, k < G → f k ≤ l k ∧ l k ≤ 49) : allb (chk G bd f l row) G = hvb H G bd f l row := by
  rw [Bool.eq_iff_iff, allb_iff, hvb_iff]
  constructor
  · intro z h hh n hn
    rcases cnt_max (P := fun k => nI k ≠ -9 ∧ row k = nI h ∧ f k ≤ n ∧ n ≤ l k) (f := f) G with y | ⟨k, y1, y2, y3⟩
    · rw [show slp G f l row (-9) h n = 0 from y]; omega
    · have c1 := z k y1
      have hne : ¬ row k = -9 := fun e => by
        rw [y2.2.1] at e
        have := nm9 (a := h) (by omega)
        rw [e] at this
        simp at this
      have e3 : (row k).toInt.toNat = h := by rw [y2.2.1, nI_toInt (by omega)]; omega
      unfold chk at c1
      rw [e3] at c1
      simp [hne] at c1
      refine Nat.le_trans (cnt_mono G (fun j hj pj => ?_)) c1
      have := y3 j hj pj
      exact ⟨pj.1, pj.2.1, this, by have := pj.2.2.2; have := y2.2.2.1; omega⟩
  · intro z k hk
    unfold chk
    by_cases q : row k = -9
    · simp [q]
    · obtain ⟨m, m1, m2, m3⟩ := hok.hs hk q h7
      rw [m3]
      have := z m m1 (f k) (by have := hfl k hk; omega)
      simp
      exact Or.inr this
theorem kX0_haveBeds (hc : c = 14 ∨ c = 30 ∨ c = 34) (hT : CTn g H S kd bd gv rs dr) (hb : CGb g G w f l) (hr : CRw g c H G row) : go L xs 5 69 0 [some (.ref 10), some (.ref c), none, none] [] (hp g t) = some (some (.int (if hvb H G bd f l row = true then 1 else 0)), hp g t) := by
  have e := kX0_hb_loop (L := L) (xs := xs) (t := t) hc hT hb hr G 0 none (by omega) rfl
  rw [chk_hvb hT.2.1 hr.2.1 (fun k hk => by obtain ⟨-, -, -, a, b⟩ := hb.2.2 k hk; exact ⟨a, b⟩), nI_0] at e
  simp only [sX0_haveBeds_0, sX0_haveBeds_1]
  exact e
theorem slp_ru {k h : Nat} (hG : G ≤ 8) (hk : k < G) (hh : h < 7) {n h' : Nat} (hh' : h' < 7) : slp G f l (ru row k (nI h)) (-9) h' n = slp G f l row (nI k) h' n + (if h = h' ∧ f k ≤ n ∧ n ≤ l k then 1 else 0) := by
  have hk9 : ∀ j, j < 9 → nI j ≠ -9 := fun j hj z => by
    have := nm9 (a := j) (by omega)
    rw [z] at this
    simp at this
  unfold slp
  rw [cnt_at (k := k) G hk]
  congr 1
  · refine cnt_congr G (fun j hj => ?_)
    constructor
    · rintro ⟨a, b, c, d⟩
      rw [ru_n a] at c
      exact ⟨fun z => a ((neq (by omega) (by omega)).mp z), c, d⟩
    · rintro ⟨a, c, d⟩
      have hjk : j ≠ k := fun z => a (by rw [z])
      exact ⟨hjk, hk9 j (by omega), by rw [ru_n hjk]; exact c, d⟩
  · by_cases z : h = h' ∧ f k ≤ n ∧ n ≤ l k
    · rw [if_pos z, if_pos ⟨hk9 k (by omega), by rw [ru_s, z.1], z.2⟩]
    · rw [if_neg z, if_neg (fun y => z ⟨by
        have := y.2.1
        rw [ru_s] at this
        exact (neq (by omega) (by omega)).mp this, y.2.2⟩)]
theorem slp_but {k h n : Nat} : slp G f l row (nI k) h n ≤ slp G f l row (-9) h n ∨ True := Or.inr trivial
theorem slp_but' {k h n : Nat} (hG : G ≤ 8) : slp G f l row (nI k) h n ≤ slp G f l row (-9) h n := cnt_mono G (fun j hj pj => ⟨fun z => by
  have := nm9 (a := j) (by omega)
  rw [z] at this
  simp at this, pj.2⟩)
theorem hvb_ru (h7 : H ≤ 7) (hG : G ≤ 8) (hv : hvb H G bd f l row = true) {k h : Nat} (hk : k < G) (hh : h < H) (hl : l k ≤ 49) : hvb H G bd f l (ru row k (nI h)) = hbd G bd f l row k h := by
  rw [Bool.eq_iff_iff, hvb_iff, show hbd G bd f l row k h = allb (hbp G bd f l row k h) (l k + 1 - f k) from rfl, allb_iff]
  have hv' := hvb_iff.mp hv
  constructor
  · intro z d hd
    have := z h hh (f k + d) (by omega)
    rw [slp_ru hG hk (by omega) (by omega), if_pos ⟨rfl, by omega, by omega⟩] at this
    simp [hbp]
    omega
  · intro z h' hh' n hn
    rw [slp_ru hG hk (by omega) (by omega)]
    have h1 := hv' h' hh' n hn
    have h2 := slp_but' (G := G) (f := f) (l := l) (row := row) (k := k) (h := h') (n := n) hG
    by_cases y : h = h' ∧ f k ≤ n ∧ n ≤ l k
    · rw [if_pos y]
      have := z (n - f k) (by omega)
      simp [hbp] at this
      rw [show f k + (n - f k) = n by omega, y.1] at this
      omega
    · rw [if_neg y]; omega
end C9
