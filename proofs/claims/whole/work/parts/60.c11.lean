/-! The class: rents. -/
section C11
variable {L : Nat} {xs : Nat → Int32} {g g' : Nat → Nat → Int32} {t : Nat → Int64}
variable {H S G R : Nat} {kd bd gv rs dr w f l rh rd rt : Nat → Nat} {row : Nat → Int32}
/-- what a move may change -/
def rk (g g' : Nat → Nat → Int32) : Prop := ∀ a, (a < 25 ∨ (28 < a ∧ a ≠ 34)) → g' a = g a
theorem rk.rf : rk g g := fun _ _ => rfl
theorem rk.tr {g1 g2 g3 : Nat → Nat → Int32} (h : rk g1 g2) (h' : rk g2 g3) : rk g1 g3 := fun a ha => (h' a ha).trans (h a ha)
theorem rk.eb (h : rk g g') : eb g g' := fun a ha => h a (by omega)
theorem rk_nf (h : nf 24 g g') : rk g g' := fun a ha => h a (by omega)
theorem rk_zu {j : Nat} {v : Int32} : rk g (zu g 34 j v) := fun a ha => by
  have : a ≠ 34 := by omega
  funext p; simp only [zuA, this, if_false]
theorem CRw.nf (h : nf 24 g g') (hr : CRw g 34 H G row) : CRw g' 34 H G row := by
  unfold CRw
  rw [h 34 (by omega)]
  exact hr
theorem CRw.zu (hr : CRw g 34 H G row) (hG : G ≤ 8) {k m : Nat} (hk : k < G) (hm : m < H) : CRw (zu g 34 k (nI m)) 34 H G (ru row k (nI m)) := by
  refine ⟨fun j hj => ?_, hr.2.1.ru hm, fun j x y => ?_⟩
  · by_cases q : j = k
    · rw [q, ru_s]; simp [zuA]
    · rw [ru_n q, ← hr.1 j hj]; simp [zuA, q]
  · have : j ≠ k := by omega
    rw [← hr.2.2 j x y]; simp [zuA, this]
theorem kX5_hd_loop {k h : Nat} (hk : k < G) (hh : h < H) (hrk : row k = nI h) : ∀ e n (g : Nat → Nat → Int32), n + e = l k + 1 → CTn g H S kd bd gv rs dr → CGb g G w f l → CRw g 34 H G row → TNs (t 24) 9 (xf G f 0) (xf G l 49) (xr G row (-9)) → NSt g 24 n H kd gv rs 0 (W9 (xf G w 0) (xf G f 0) (xf G l 49) (xr G row (-9))) → ∃ g', nf 24 g g' ∧ go L xs 37 69 15 [some (.ref 33), some (.int (nI k)), some (.int (nI (sdp H G kd gv rs w f l row k h n))), some (.int (nI n))] [] (hp g t) = some (some (.int (nI (sdp H G kd gv rs w f l row k h (l k + 1)))), hp g' t)
  | 0, n, g, hn, hT, hB, hR, hU, hN => by
    have hn : n = l k + 1 := by omega
    subst hn
    have g8 := hB.2.1
    obtain ⟨-, e1, e2, b1, b2⟩ := hB.2.2 k hk
    refine ⟨g, nf.rf, ?_⟩
    have q : l k < l k + 1 := by omega
    simp (disch := omega) only [sX5_howDeep_15, sX5_howDeep_16, sX5_howDeep_17, sX5_howDeep_20, sX5_howDeep_23, sX5_howDeep_24, sX5_howDeep_25, sX5_howDeep_83, sX5_howDeep_84, ↓reduceIte, if_true, if_false, Option.bind_some, Option.bind_none, Option.toList_some, Option.toList_none, List.cons_append, List.nil_append, Option.elim_some, true_or, or_true, or_false, false_or, true_and, and_true, and_false, false_and, zio1, zio0, zio01, not_true_eq_false, not_false_eq_true, nlt, neq, nlt0, n0lt, neq0, neq1, nm9, m9n, nadd, nadd1, nmul, ncl, zin_t, e2, q]
  | e + 1, n, g, hn, hT, hB, hR, hU, hN => by
    have g8 := hB.2.1
    have h7 := hT.2.1
    obtain ⟨-, e1, e2, b1, b2⟩ := hB.2.2 k hk
    have q : ¬ l k < n := by omega
    obtain ⟨g1, F1, N1, x1⟩ := kX3_passNight (L := L) (xs := xs) (t := t) (o := 24) (c := 34) (pl := 0) (n := n) (Or.inr rfl) (Or.inr (Or.inr rfl)) (by omega) (by omega) (by omega) hT (g9_of hB hR) hU hN
    have E1 : eb g g1 := fun a ha => F1 a (by omega)
    have hB1 := E1.b hB
    have hR1 := hR.nf F1
    obtain ⟨-, y1, y2, -, -⟩ := hB1.2.2 k hk
    have y3 := hR1.1 k hk
    rw [hrk] at y3
    have hd : g1 (24 + 1) (7 * (n + 1) + h) = nI (dq H G kd gv rs w f l row (n + 1) h) := by
      rw [N1.1 (n + 1) (Nat.le_refl _) h hh, dpW_dp g8 h7 (by omega) hh]
    have hda := kX3_depthAt (L := L) (xs := xs) (t := t) (o := 24) (D := dq H G kd gv rs w f l row) (d := n + 1) (h := h) (Or.inr rfl) (by omega) (by omega) hd
    obtain ⟨g2, F2, x2⟩ := kX5_hd_loop hk hh hrk e (n + 1) g1 (by omega) (E1.town hT) hB1 hR1 hU N1
    refine ⟨g2, F1.tr F2, ?_⟩
    rw [nI_0] at x1
    rw [sX5_howDeep_15]
    rw [show sdp H G kd gv rs w f l row k h (n + 1) = sdp H G kd gv rs w f l row k h n + (if f k ≤ n then dq H G kd gv rs w f l row (n + 1) h else 0) from rfl] at x2
    by_cases q2 : n < f k
    · rw [if_neg (show ¬ f k ≤ n by omega)] at x2
      simp (disch := omega) only [sX5_howDeep_16, sX5_howDeep_17, sX5_howDeep_20, sX5_howDeep_23, sX5_howDeep_24, sX5_howDeep_25, sX5_howDeep_28, sX5_howDeep_29, sX5_howDeep_32, sX5_howDeep_33, sX5_howDeep_36, sX5_howDeep_37, sX5_howDeep_38, sX5_howDeep_41, sX5_howDeep_42, sX5_howDeep_43, sX5_howDeep_44, sX5_howDeep_47, sX5_howDeep_50, sX5_howDeep_51, sX5_howDeep_52, sX5_howDeep_55, sX5_howDeep_56, sX5_howDeep_59, sX5_howDeep_60, sX5_howDeep_63, sX5_howDeep_64, sX5_howDeep_65, sX5_howDeep_66, sX5_howDeep_67, sX5_howDeep_68, sX5_howDeep_71, sX5_howDeep_74, sX5_howDeep_75, sX5_howDeep_76, sX5_howDeep_77, sX5_howDeep_80, ↓reduceIte, if_true, if_false, Option.bind_some, Option.bind_none, Option.toList_some, Option.toList_none, List.cons_append, List.nil_append, Option.elim_some, true_or, or_true, or_false, false_or, true_and, and_true, and_false, false_and, zio1, zio0, zio01, not_true_eq_false, not_false_eq_true, nlt, neq, nlt0, n0lt, neq0, neq1, nm9, m9n, nadd, nadd1, nmul, ncl, zin_t, e2, q, x1, y1, q2, nadd0]
      exact x2
    · rw [if_pos (show f k ≤ n by omega)] at x2
      simp (disch := omega) only [sX5_howDeep_16, sX5_howDeep_17, sX5_howDeep_20, sX5_howDeep_23, sX5_howDeep_24, sX5_howDeep_25, sX5_howDeep_28, sX5_howDeep_29, sX5_howDeep_32, sX5_howDeep_33, sX5_howDeep_36, sX5_howDeep_37, sX5_howDeep_38, sX5_howDeep_41, sX5_howDeep_42, sX5_howDeep_43, sX5_howDeep_44, sX5_howDeep_47, sX5_howDeep_50, sX5_howDeep_51, sX5_howDeep_52, sX5_howDeep_55, sX5_howDeep_56, sX5_howDeep_59, sX5_howDeep_60, sX5_howDeep_63, sX5_howDeep_64, sX5_howDeep_65, sX5_howDeep_66, sX5_howDeep_67, sX5_howDeep_68, sX5_howDeep_71, sX5_howDeep_74, sX5_howDeep_75, sX5_howDeep_76, sX5_howDeep_77, sX5_howDeep_80, ↓reduceIte, if_true, if_false, Option.bind_some, Option.bind_none, Option.toList_some, Option.toList_none, List.cons_append, List.nil_append, Option.elim_some, true_or, or_true, or_false, false_or, true_and, and_true, and_false, false_and, zio1, zio0, zio01, not_true_eq_false, not_false_eq_true, nlt, neq, nlt0, n0lt, neq0, neq1, nm9, m9n, nadd, nadd1, nmul, ncl, zin_t, e2, q, x1, y1, q2, y3, hda]
      exact x2
theorem kX5_howDeep {k h : Nat} (hk : k < G) (hh : h < H) (hrk : row k = nI h) (hT : CTn g H S kd bd gv rs dr) (hB : CGb g G w f l) (hR : CRw g 34 H G row) : ∃ g' t', nf 24 g g' ∧ go L xs 37 69 0 [some (.ref 33), some (.int (nI k)), none, none] [] (hp g t) = some (some (.int (nI (sdp H G kd gv rs w f l row k h (l k + 1)))), hp g' t') := by
  obtain ⟨g1, t1, F1, a1, a2, a3, a4⟩ := kX3_begin (L := L) (xs := xs) (t := t) (o := 24) (c := 34) (Or.inr rfl) (Or.inr (Or.inr rfl)) (g9_of hB hR)
  have E1 : eb g g1 := fun a ha => F1 a (by omega)
  obtain ⟨g2, F2, x2⟩ := kX5_hd_loop (L := L) (xs := xs) (t := t1) hk hh hrk (l k + 1) 0 g1 (by omega) (E1.town hT) (E1.b hB) (hR.nf F1) a2 (NSt0 a3 hT.2.1)
  refine ⟨g2, t1, F1.tr F2, ?_⟩
  rw [show sdp H G kd gv rs w f l row k h 0 = 0 from rfl, nI_0] at x2
  simp only [sX5_howDeep_0, sX5_howDeep_1, sX5_howDeep_4, sX5_howDeep_5, sX5_howDeep_8, sX5_howDeep_11, sX5_howDeep_12, sX5_howDeep_13, sX5_howDeep_14, ↓reduceIte, if_true, if_false, Option.bind_some, Option.bind_none, Option.toList_some, Option.toList_none, List.cons_append, List.nil_append, Option.elim_some, true_or, or_true, or_false, false_or, true_and, and_true, and_false, false_and, zio1, zio0, zio01, not_true_eq_false, not_false_eq_true, a4]
  exact x2
theorem sdp_leC (hT : CTn g H S kd bd gv rs dr) (hB : CGb g G w f l) (hR : CRw g 34 H G row) {k h n : Nat} (hh : h < H) (hn : n ≤ 50) : sdp H G kd gv rs w f l row k h n ≤ 100000000 := by
  have h1 : sdp H G kd gv rs w f l row k h n ≤ n * 2000000 := smn_le n (fun j hj => by
    split
    · show dp H G kd gv rs w f l row (-9) 0 0 0 (j + 1) h ≤ _
      rw [← dpW_dp (G := G) (omw := 0) (omf := 0) hB.2.1 hT.2.1 (by omega) hh]
      exact dpW_le2 hT (fun n h hh => W9_le (g9_of hB hR) hh) (by omega) hh
    · omega)
  omega
theorem kX5_mv_loop {k was : Nat} (hk : k < G) (hw : was < H) (hv : hvb H G bd f l row = true) : ∀ e h (g : Nat → Nat → Int32) (t : Nat → Int64) (r : Nat → Int32) (b : Nat × Nat) (x6 : Option Value), h + e = H → b.1 < H → b.2 ≤ 100000000 → CTn g H S kd bd gv rs dr → CGb g G w f l → CRw g 34 H G r → (∀ v, ru r k v = ru row k v) → ∃ g' t' r', rk g g' ∧ CRw g' 34 H G r' ∧ (∀ v, ru r' k v = ru row k v) ∧ ∃ x4 x6', go L xs 36 69 19 [some (.ref 33), some (.int (nI k)), some (.int (nI was)), some (.int (nI b.1)), some (.int (nI b.2)), some (.int (nI h)), x6] [] (hp g t) = go L xs 36 69 86 [some (.ref 33), some (.int (nI k)), some (.int (nI was)), some (.int (nI (mvf (hbd G bd f l row k) (mvv H G kd gv rs w f l row k) was e h b).1)), x4, some (.int (nI H)), x6'] [] (hp g' t')
  | 0, h, g, t, r, b, x6, hh, hb, hb2, hT, hB, hR, hr => by
    have hh : h = H := by omega
    subst hh
    have t1 := hT.1
    have t2 := hT.2.1
    refine ⟨g, t, r, rk.rf, hR, hr, some (.int (nI b.2)), x6, ?_⟩
    simp (disch := omega) only [sX5_moves_19, sX5_moves_21, sX5_moves_22, sX5_moves_25, sX5_moves_28, ↓reduceIte, if_true, if_false, Option.bind_some, Option.bind_none, Option.toList_some, Option.toList_none, List.cons_append, List.nil_append, Option.elim_some, true_or, or_true, or_false, false_or, true_and, and_true, and_false, false_and, zio1, zio0, zio01, not_true_eq_false, not_false_eq_true, nlt, neq, nlt0, n0lt, neq0, neq1, nm9, m9n, nadd, nadd1, nmul, ncl, zin_t, t1, Nat.lt_irrefl, mvf]
  | e + 1, h, g, t, r, b, x6, hh, hb, hb2, hT, hB, hR, hr => by
    have t1 := hT.1
    have t2 := hT.2.1
    have g8 := hB.2.1
    have q : h < H := by omega
    have S1 : rk g (zu g 34 k (nI h)) := rk_zu
    have hT1 := S1.eb.town hT
    have hB1 := S1.eb.b hB
    have hR1 := hR.zu g8 hk q
    have hr1 : ∀ v, ru (ru r k (nI h)) k v = ru row k v := fun v => by rw [ru_ru, hr]
    unfold mvf
    by_cases q1 : h = was
    · rw [if_neg (fun z => z.1 q1)]
      obtain ⟨g', t', r', a1, a2, a3, x4, x6', a4⟩ := kX5_mv_loop hk hw hv e (h + 1) (zu g 34 k (nI h)) t (ru r k (nI h)) b x6 (by omega) hb hb2 hT1 hB1 hR1 hr1
      refine ⟨g', t', r', S1.tr a1, a2, a3, x4, x6', ?_⟩
      rw [← a4, sX5_moves_19]
      simp (disch := omega) only [sX5_moves_21, sX5_moves_22, sX5_moves_25, sX5_moves_28, sX5_moves_31, sX5_moves_32, sX5_moves_35, sX5_moves_36, sX5_moves_38, sX5_moves_39, sX5_moves_41, sX5_moves_42, sX5_moves_45, sX5_moves_46, sX5_moves_49, sX5_moves_50, sX5_moves_53, sX5_moves_56, sX5_moves_59, sX5_moves_60, sX5_moves_61, sX5_moves_64, sX5_moves_66, sX5_moves_68, sX5_moves_70, sX5_moves_73, sX5_moves_75, sX5_moves_77, sX5_moves_79, sX5_moves_80, sX5_moves_83, ↓reduceIte, if_true, if_false, Option.bind_some, Option.bind_none, Option.toList_some, Option.toList_none, List.cons_append, List.nil_append, Option.elim_some, true_or, or_true, or_false, false_or, true_and, and_true, and_false, false_and, zio1, zio0, zio01, not_true_eq_false, not_false_eq_true, nlt, neq, nlt0, n0lt, neq0, neq1, nm9, m9n, nadd, nadd1, nmul, ncl, zin_t, t1, q, q1, hw]
    · have hbq := kX0_haveBeds (L := L) (xs := xs) (t := t) (c := 34) (Or.inr (Or.inr rfl)) hT1 hB1 hR1
      obtain ⟨-, -, -, -, b49⟩ := hB.2.2 k hk
      rw [hr, hvb_ru t2 g8 hv hk q b49] at hbq
      by_cases q2 : hbd G bd f l row k h = true
      · rw [if_pos q2] at hbq
        obtain ⟨g1, t1', f1, y1⟩ := kX5_howDeep (L := L) (xs := xs) (t := t) hk q ru_s hT1 hB1 hR1
        have hle := sdp_leC (k := k) (n := l k + 1) hT1 hB1 hR1 q (by omega)
        rw [hr] at y1 hle
        have F := S1.tr (rk_nf f1)
        have E1 : eb (zu g 34 k (nI h)) g1 := fun a ha => f1 a (by omega)
        by_cases q3 : mvv H G kd gv rs w f l row k h < b.2
        · rw [if_pos ⟨q1, q2, q3⟩]
          obtain ⟨g', t', r', a1, a2, a3, x4, x6', a4⟩ := kX5_mv_loop hk hw hv e (h + 1) g1 t1' (ru r k (nI h)) (h, mvv H G kd gv rs w f l row k h) (some (.int (nI (mvv H G kd gv rs w f l row k h)))) (by omega) q hle (E1.town hT1) (E1.b hB1) (hR1.nf f1) hr1
          refine ⟨g', t', r', F.tr a1, a2, a3, x4, x6', ?_⟩
          rw [← a4, sX5_moves_19]
          simp (disch := omega) only [sX5_moves_21, sX5_moves_22, sX5_moves_25, sX5_moves_28, sX5_moves_31, sX5_moves_32, sX5_moves_35, sX5_moves_36, sX5_moves_38, sX5_moves_39, sX5_moves_41, sX5_moves_42, sX5_moves_45, sX5_moves_46, sX5_moves_49, sX5_moves_50, sX5_moves_53, sX5_moves_56, sX5_moves_59, sX5_moves_60, sX5_moves_61, sX5_moves_64, sX5_moves_66, sX5_moves_68, sX5_moves_70, sX5_moves_73, sX5_moves_75, sX5_moves_77, sX5_moves_79, sX5_moves_80, sX5_moves_83, ↓reduceIte, if_true, if_false, Option.bind_some, Option.bind_none, Option.toList_some, Option.toList_none, List.cons_append, List.nil_append, Option.elim_some, true_or, or_true, or_false, false_or, true_and, and_true, and_false, false_and, zio1, zio0, zio01, not_true_eq_false, not_false_eq_true, nlt, neq, nlt0, n0lt, neq0, neq1, nm9, m9n, nadd, nadd1, nmul, ncl, zin_t, t1, q, q1, hbq, y1, q3]
        · rw [if_neg (fun z => q3 z.2.2)]
          obtain ⟨g', t', r', a1, a2, a3, x4, x6', a4⟩ := kX5_mv_loop hk hw hv e (h + 1) g1 t1' (ru r k (nI h)) b (some (.int (nI (mvv H G kd gv rs w f l row k h)))) (by omega) hb hb2 (E1.town hT1) (E1.b hB1) (hR1.nf f1) hr1
          refine ⟨g', t', r', F.tr a1, a2, a3, x4, x6', ?_⟩
          rw [← a4, sX5_moves_19]
          simp (disch := omega) only [sX5_moves_21, sX5_moves_22, sX5_moves_25, sX5_moves_28, sX5_moves_31, sX5_moves_32, sX5_moves_35, sX5_moves_36, sX5_moves_38, sX5_moves_39, sX5_moves_41, sX5_moves_42, sX5_moves_45, sX5_moves_46, sX5_moves_49, sX5_moves_50, sX5_moves_53, sX5_moves_56, sX5_moves_59, sX5_moves_60, sX5_moves_61, sX5_moves_64, sX5_moves_66, sX5_moves_68, sX5_moves_70, sX5_moves_73, sX5_moves_75, sX5_moves_77, sX5_moves_79, sX5_moves_80, sX5_moves_83, ↓reduceIte, if_true, if_false, Option.bind_some, Option.bind_none, Option.toList_some, Option.toList_none, List.cons_append, List.nil_append, Option.elim_some, true_or, or_true, or_false, false_or, true_and, and_true, and_false, false_and, zio1, zio0, zio01, not_true_eq_false, not_false_eq_true, nlt, neq, nlt0, n0lt, neq0, neq1, nm9, m9n, nadd, nadd1, nmul, ncl, zin_t, t1, q, q1, hbq, y1, q3]
      · rw [if_neg q2] at hbq
        rw [if_neg (fun z => q2 z.2.1)]
        obtain ⟨g', t', r', a1, a2, a3, x4, x6', a4⟩ := kX5_mv_loop hk hw hv e (h + 1) (zu g 34 k (nI h)) t (ru r k (nI h)) b x6 (by omega) hb hb2 hT1 hB1 hR1 hr1
        refine ⟨g', t', r', S1.tr a1, a2, a3, x4, x6', ?_⟩
        rw [← a4, sX5_moves_19]
        simp (disch := omega) only [sX5_moves_21, sX5_moves_22, sX5_moves_25, sX5_moves_28, sX5_moves_31, sX5_moves_32, sX5_moves_35, sX5_moves_36, sX5_moves_38, sX5_moves_39, sX5_moves_41, sX5_moves_42, sX5_moves_45, sX5_moves_46, sX5_moves_49, sX5_moves_50, sX5_moves_53, sX5_moves_56, sX5_moves_59, sX5_moves_60, sX5_moves_61, sX5_moves_64, sX5_moves_66, sX5_moves_68, sX5_moves_70, sX5_moves_73, sX5_moves_75, sX5_moves_77, sX5_moves_79, sX5_moves_80, sX5_moves_83, ↓reduceIte, if_true, if_false, Option.bind_some, Option.bind_none, Option.toList_some, Option.toList_none, List.cons_append, List.nil_append, Option.elim_some, true_or, or_true, or_false, false_or, true_and, and_true, and_false, false_and, zio1, zio0, zio01, not_true_eq_false, not_false_eq_true, nlt, neq, nlt0, n0lt, neq0, neq1, nm9, m9n, nadd, nadd1, nmul, ncl, zin_t, t1, q, q1, hbq]
theorem kX5_moves (hT : CTn g H S kd bd gv rs dr) (hB : CGb g G w f l) (hR : CRw g 34 H G row) (hv : hvb H G bd f l row = true) {k was : Nat} (hk : k < G) (hw : was < H) (hr : row k = nI was) : ∃ g' t', rk g g' ∧ CRw g' 34 H G (ru row k (nI (mvb H G kd bd gv rs w f l row k was))) ∧ go L xs 36 69 0 [some (.ref 33), some (.int (nI k)), none, none, none, none, none] [] (hp g t) = some (some (.int (if mvb H G kd bd gv rs w f l row k was = was then 0 else 1)), hp g' t') := by
  obtain ⟨g1, t1, f1, y1⟩ := kX5_howDeep (L := L) (xs := xs) (t := t) hk hw hr hT hB hR
  obtain ⟨-, -, -, -, b49⟩ := hB.2.2 k hk
  have hle := sdp_leC (k := k) (n := l k + 1) hT hB hR hw (by omega)
  have e1 : sdp H G kd gv rs w f l row k was (l k + 1) = mvv H G kd gv rs w f l row k was := by
    unfold mvv
    rw [← hr, ru_id]
  rw [e1] at y1 hle
  have E1 : eb g g1 := fun a ha => f1 a (by omega)
  obtain ⟨g2, t2, r', a1, a2, a3, x4, x6', a4⟩ := kX5_mv_loop (L := L) (xs := xs) (S := S) (dr := dr) (row := row) hk hw hv H 0 g1 t1 row (was, mvv H G kd gv rs w f l row k was) none (by omega) hw hle (E1.town hT) (E1.b hB) (hR.nf f1) (fun v => rfl)
  have hlt := mvb_lt (H := H) (G := G) (kd := kd) (bd := bd) (gv := gv) (rs := rs) (w := w) (f := f) (l := l) (row := row) (k := k) hw
  have h7 := hT.2.1
  have g8 := hB.2.1
  have hG3 := a2.zu g8 hk hlt
  rw [a3] at hG3
  have e3 := hR.1 k hk
  rw [hr] at e3
  refine ⟨_, t2, ((rk_nf f1).tr a1).tr rk_zu, hG3, ?_⟩
  rw [nI_0, show (mvf (hbd G bd f l row k) (mvv H G kd gv rs w f l row k) was H 0 (was, mvv H G kd gv rs w f l row k was)).1 = mvb H G kd bd gv rs w f l row k was from rfl] at a4
  simp (disch := omega) only [sX5_moves_0, sX5_moves_1, sX5_moves_4, sX5_moves_5, sX5_moves_6, sX5_moves_7, sX5_moves_8, sX5_moves_9, sX5_moves_10, sX5_moves_11, sX5_moves_14, sX5_moves_16, sX5_moves_17, ↓reduceIte, if_true, if_false, Option.bind_some, Option.bind_none, Option.toList_some, Option.toList_none, List.cons_append, List.nil_append, Option.elim_some, true_or, or_true, or_false, false_or, true_and, and_true, and_false, false_and, zio1, zio0, zio01, not_true_eq_false, not_false_eq_true, nlt, neq, nlt0, n0lt, neq0, neq1, nm9, m9n, nadd, nadd1, nmul, ncl, zin_t, e3, y1]
  rw [a4]
  by_cases q : mvb H G kd bd gv rs w f l row k was = was
  · rw [if_pos q]
    simp (disch := omega) only [sX5_moves_86, sX5_moves_87, sX5_moves_90, sX5_moves_91, sX5_moves_92, sX5_moves_93, sX5_moves_94, sX5_moves_95, sX5_moves_98, sX5_moves_99, sX5_moves_102, sX5_moves_103, ↓reduceIte, if_true, if_false, Option.bind_some, Option.bind_none, Option.toList_some, Option.toList_none, List.cons_append, List.nil_append, Option.elim_some, true_or, or_true, or_false, false_or, true_and, and_true, and_false, false_and, zio1, zio0, zio01, not_true_eq_false, not_false_eq_true, nlt, neq, nlt0, n0lt, neq0, neq1, nm9, m9n, nadd, nadd1, nmul, ncl, zin_t, q]
  · rw [if_neg q]
    simp (disch := omega) only [sX5_moves_86, sX5_moves_87, sX5_moves_90, sX5_moves_91, sX5_moves_92, sX5_moves_93, sX5_moves_94, sX5_moves_95, sX5_moves_98, sX5_moves_99, sX5_moves_102, sX5_moves_103, ↓reduceIte, if_true, if_false, Option.bind_some, Option.bind_none, Option.toList_some, Option.toList_none, List.cons_append, List.nil_append, Option.elim_some, true_or, or_true, or_false, false_or, true_and, and_true, and_false, false_and, zio1, zio0, zio01, not_true_eq_false, not_false_eq_true, nlt, neq, nlt0, n0lt, neq0, neq1, nm9, m9n, nadd, nadd1, nmul, ncl, zin_t, q]
theorem mvf_ok {ok : Nat → Bool} {v : Nat → Nat} {was : Nat} : ∀ e h b, (b.1 = was ∨ ok b.1 = true) → ((mvf ok v was e h b).1 = was ∨ ok (mvf ok v was e h b).1 = true)
  | 0, _, b, hb => hb
  | e + 1, h, b, hb => by
    refine mvf_ok e (h + 1) _ ?_
    split
    · rename_i z; exact Or.inr z.2.1
    · exact hb
theorem mvb_hvb (h7 : H ≤ 7) (hG : G ≤ 8) (hv : hvb H G bd f l row = true) {k was : Nat} (hk : k < G) (hw : was < H) (hl : l k ≤ 49) (hr : row k = nI was) : hvb H G bd f l (ru row k (nI (mvb H G kd bd gv rs w f l row k was))) = true := by
  have hlt := mvb_lt (H := H) (G := G) (kd := kd) (bd := bd) (gv := gv) (rs := rs) (w := w) (f := f) (l := l) (row := row) (k := k) hw
  have h1 : mvb H G kd bd gv rs w f l row k was = was ∨ hbd G bd f l row k (mvb H G kd bd gv rs w f l row k was) = true := mvf_ok (v := mvv H G kd gv rs w f l row k) H 0 (was, mvv H G kd gv rs w f l row k was) (Or.inl rfl)
  rcases h1 with h1 | h1
  · rw [h1, ← hr, ru_id]; exact hv
  · rw [hvb_ru h7 hG hv hk hlt hl]; exact h1
theorem rn1_hvb {s : (Nat → Int32) × Bool} (h7 : H ≤ 7) (hG : G ≤ 8) (h : okr H G s.1) (hv : hvb H G bd f l s.1 = true) {k : Nat} (hk : k < G) (hl : l k ≤ 49) : hvb H G bd f l (rn1 H G kd bd gv rs w f l s k).1 = true := by
  unfold rn1
  split
  · exact hv
  · rename_i q
    obtain ⟨m, a, b, c⟩ := h.hs hk q h7
    rw [c]
    exact mvb_hvb h7 hG hv hk a hl b
theorem rnd_hvb (h7 : H ≤ 7) (hG : G ≤ 8) (hl : ∀ k, k < G → l k ≤ 49) : ∀ e k (s : (Nat → Int32) × Bool), k + e = G → okr H G s.1 → hvb H G bd f l s.1 = true → hvb H G bd f l (rnd H G kd bd gv rs w f l e k s).1 = true
  | 0, _, s, _, _, h => h
  | e + 1, k, s, hk, ho, h => rnd_hvb h7 hG hl e (k + 1) _ (by omega) (rn1_ok h7 ho (by omega)) (rn1_hvb h7 hG ho h (by omega) (hl k (by omega)))
theorem itr_hvb (h7 : H ≤ 7) (hG : G ≤ 8) (hl : ∀ k, k < G → l k ≤ 49) (ho : okr H G row) (hv : hvb H G bd f l row = true) : ∀ r, hvb H G bd f l (itr H G kd bd gv rs w f l row r) = true
  | 0 => hv
  | r + 1 => rnd_hvb h7 hG hl G 0 _ (by omega) (itr_ok h7 ho r) (itr_hvb h7 hG hl ho hv r)
theorem rnd_id (h7 : H ≤ 7) : ∀ e k (s : (Nat → Int32) × Bool), k + e = G → okr H G s.1 → (rnd H G kd bd gv rs w f l e k s).2 = false → s.2 = false ∧ (rnd H G kd bd gv rs w f l e k s).1 = s.1
  | 0, _, s, _, _, h => ⟨h, rfl⟩
  | e + 1, k, s, hk, ho, h => by
    obtain ⟨i1, i2⟩ := rnd_id h7 e (k + 1) (rn1 H G kd bd gv rs w f l s k) (by omega) (rn1_ok h7 ho (by omega)) h
    rw [show (rnd H G kd bd gv rs w f l (e + 1) k s).1 = (rn1 H G kd bd gv rs w f l s k).1 from i2]
    by_cases q : s.1 k = -9
    · have er : rn1 H G kd bd gv rs w f l s k = s := if_pos q
      rw [er] at i1 ⊢
      exact ⟨i1, rfl⟩
    · have er : rn1 H G kd bd gv rs w f l s k = (ru s.1 k (nI (mvb H G kd bd gv rs w f l s.1 k (s.1 k).toInt.toNat)), s.2 || !decide (mvb H G kd bd gv rs w f l s.1 k (s.1 k).toInt.toNat = (s.1 k).toInt.toNat)) := if_neg q
      obtain ⟨m, c1, c2, c3⟩ := ho.hs (show k < G by omega) q h7
      rw [c3] at er
      rw [er] at i1 ⊢
      simp only [Bool.or_eq_false_iff, Bool.not_eq_false', decide_eq_true_eq] at i1
      refine ⟨i1.1, ?_⟩
      show ru s.1 k (nI (mvb H G kd bd gv rs w f l s.1 k m)) = s.1
      rw [i1.2, ← c2, ru_id]
theorem itr_stop (h7 : H ≤ 7) (ho : okr H G row) {r : Nat} (h : (rd1 H G kd bd gv rs w f l (itr H G kd bd gv rs w f l row r)).2 = false) : ∀ e, itr H G kd bd gv rs w f l row (r + e) = itr H G kd bd gv rs w f l row r
  | 0 => rfl
  | e + 1 => by
    show (rd1 H G kd bd gv rs w f l (itr H G kd bd gv rs w f l row (r + e))).1 = _
    rw [itr_stop h7 ho h e]
    exact (rnd_id h7 G 0 (itr H G kd bd gv rs w f l row r, false) (by omega) (itr_ok h7 ho r) h).2
theorem orb1 {b : Bool} : (if b = true then (1 : Int32) else 0) ||| 1 = 1 := by cases b <;> decide
theorem orb0 {b : Bool} : (if b = true then (1 : Int32) else 0) ||| 0 = (if b = true then (1 : Int32) else 0) := by cases b <;> decide
theorem kX5_ro_loop {x1 : Option Value} : ∀ e k (g : Nat → Nat → Int32) (t : Nat → Int64) (s : (Nat → Int32) × Bool), k + e = G → CTn g H S kd bd gv rs dr → CGb g G w f l → CRw g 34 H G s.1 → hvb H G bd f l s.1 = true → ∃ g' t', rk g g' ∧ CRw g' 34 H G (rnd H G kd bd gv rs w f l e k s).1 ∧ go L xs 34 69 63 [some (.ref 33), x1, some (.int (if s.2 = true then 1 else 0)), some (.int (nI k))] [] (hp g t) = go L xs 34 69 107 [some (.ref 33), x1, some (.int (if (rnd H G kd bd gv rs w f l e k s).2 = true then 1 else 0)), some (.int (nI G))] [] (hp g' t')
  | 0, k, g, t, s, hk, hT, hB, hR, hv => by
    have hk : k = G := by omega
    subst hk
    have g1 := hB.1
    have g8 := hB.2.1
    refine ⟨g, t, rk.rf, hR, ?_⟩
    simp (disch := omega) only [sX5_run_63, sX5_run_64, sX5_run_65, sX5_run_68, sX5_run_71, ↓reduceIte, if_true, if_false, Option.bind_some, Option.bind_none, Option.toList_some, Option.toList_none, List.cons_append, List.nil_append, Option.elim_some, true_or, or_true, or_false, false_or, true_and, and_true, and_false, false_and, zio1, zio0, zio01, not_true_eq_false, not_false_eq_true, nlt, neq, nlt0, n0lt, neq0, neq1, nm9, m9n, nadd, nadd1, nmul, ncl, zin_t, g1, Nat.lt_irrefl, rnd]
    rfl
  | e + 1, k, g, t, s, hk, hT, hB, hR, hv => by
    have g1 := hB.1
    have g8 := hB.2.1
    have h7 := hT.2.1
    have q : k < G := by omega
    have e3 := hR.1 k q
    obtain ⟨-, -, -, -, b49⟩ := hB.2.2 k q
    have hv1 := rn1_hvb (kd := kd) (gv := gv) (rs := rs) (w := w) h7 g8 hR.2.1 hv q b49
    unfold rnd
    by_cases q1 : s.1 k = -9
    · have er : rn1 H G kd bd gv rs w f l s k = s := if_pos q1
      rw [er]
      obtain ⟨g', t', a1, a2, a3⟩ := kX5_ro_loop (x1 := x1) e (k + 1) g t s (by omega) hT hB hR hv
      refine ⟨g', t', a1, a2, ?_⟩
      rw [← a3, sX5_run_63]
      simp (disch := omega) only [sX5_run_64, sX5_run_65, sX5_run_68, sX5_run_71, sX5_run_74, sX5_run_75, sX5_run_76, sX5_run_79, sX5_run_80, sX5_run_81, sX5_run_83, sX5_run_86, sX5_run_87, sX5_run_88, sX5_run_91, sX5_run_94, sX5_run_95, sX5_run_98, sX5_run_99, sX5_run_100, sX5_run_101, sX5_run_104, ↓reduceIte, if_true, if_false, Option.bind_some, Option.bind_none, Option.toList_some, Option.toList_none, List.cons_append, List.nil_append, Option.elim_some, true_or, or_true, or_false, false_or, true_and, and_true, and_false, false_and, zio1, zio0, zio01, not_true_eq_false, not_false_eq_true, nlt, neq, nlt0, n0lt, neq0, neq1, nm9, m9n, nadd, nadd1, nmul, ncl, zin_t, g1, q, e3, q1, orb0]
    · have er : rn1 H G kd bd gv rs w f l s k = (ru s.1 k (nI (mvb H G kd bd gv rs w f l s.1 k (s.1 k).toInt.toNat)), s.2 || !decide (mvb H G kd bd gv rs w f l s.1 k (s.1 k).toInt.toNat = (s.1 k).toInt.toNat)) := if_neg q1
      obtain ⟨m, c1, c2, c3⟩ := hR.2.1.hs q q1 h7
      rw [c3] at er
      rw [er] at hv1 ⊢
      obtain ⟨g1', t1', b1, b2, b3⟩ := kX5_moves (L := L) (xs := xs) (t := t) hT hB hR hv q c1 c2
      obtain ⟨g', t', a1, a2, a3⟩ := kX5_ro_loop (x1 := x1) e (k + 1) g1' t1' (ru s.1 k (nI (mvb H G kd bd gv rs w f l s.1 k m)), s.2 || !decide (mvb H G kd bd gv rs w f l s.1 k m = m)) (by omega) (b1.eb.town hT) (b1.eb.b hB) b2 hv1
      refine ⟨g', t', b1.tr a1, a2, ?_⟩
      rw [← a3, sX5_run_63]
      by_cases q2 : mvb H G kd bd gv rs w f l s.1 k m = m
      · rw [if_pos q2] at b3
        simp (disch := omega) only [sX5_run_64, sX5_run_65, sX5_run_68, sX5_run_71, sX5_run_74, sX5_run_75, sX5_run_76, sX5_run_79, sX5_run_80, sX5_run_81, sX5_run_83, sX5_run_86, sX5_run_87, sX5_run_88, sX5_run_91, sX5_run_94, sX5_run_95, sX5_run_98, sX5_run_99, sX5_run_100, sX5_run_101, sX5_run_104, ↓reduceIte, if_true, if_false, Option.bind_some, Option.bind_none, Option.toList_some, Option.toList_none, List.cons_append, List.nil_append, Option.elim_some, true_or, or_true, or_false, false_or, true_and, and_true, and_false, false_and, zio1, zio0, zio01, not_true_eq_false, not_false_eq_true, nlt, neq, nlt0, n0lt, neq0, neq1, nm9, m9n, nadd, nadd1, nmul, ncl, zin_t, g1, q, e3, q1, b3, q2, decide_true, Bool.not_true, Bool.or_false, orb0]
      · rw [if_neg q2] at b3
        simp (disch := omega) only [sX5_run_64, sX5_run_65, sX5_run_68, sX5_run_71, sX5_run_74, sX5_run_75, sX5_run_76, sX5_run_79, sX5_run_80, sX5_run_81, sX5_run_83, sX5_run_86, sX5_run_87, sX5_run_88, sX5_run_91, sX5_run_94, sX5_run_95, sX5_run_98, sX5_run_99, sX5_run_100, sX5_run_101, sX5_run_104, ↓reduceIte, if_true, if_false, Option.bind_some, Option.bind_none, Option.toList_some, Option.toList_none, List.cons_append, List.nil_append, Option.elim_some, true_or, or_true, or_false, false_or, true_and, and_true, and_false, false_and, zio1, zio0, zio01, not_true_eq_false, not_false_eq_true, nlt, neq, nlt0, n0lt, neq0, neq1, nm9, m9n, nadd, nadd1, nmul, ncl, zin_t, g1, q, e3, q1, b3, q2, decide_false, Bool.not_false, Bool.or_true, orb1]
theorem kX5_keep {r : Nat} (hr : r ≤ 50) : go L xs 35 69 0 [some (.ref 33), some (.int (nI r))] [] (hp g t) = some (none, hp (zu (zcp g 34 35 0 (r * 9) 9) 33 5 (nI r)) t) := by
  obtain ⟨-, -, -, ea4, ea5⟩ := ea
  have hcp : ¬ (0 : Int32) < 0 ∧ ¬ nI (r * 9) < 0 ∧ ¬ (nI 9) < 0 ∧ (0 : Int32).toNatClampNeg + (nI 9).toNatClampNeg ≤ zal 34 ∧ (nI (r * 9)).toNatClampNeg + (nI 9).toNatClampNeg ≤ zal 35 := by
    rw [ea4, ea5, ncl (by omega), ncl (by omega)]
    refine ⟨by decide, nI_pos (by omega), nI_pos (by omega), ?_, by omega⟩
    show 0 + 9 ≤ 9
    omega
  have hc0 : (0 : Int32).toNatClampNeg = 0 := rfl
  simp (disch := omega) only [sX5_keep_0, sX5_keep_1, sX5_keep_4, sX5_keep_5, sX5_keep_6, sX5_keep_9, sX5_keep_10, sX5_keep_12, sX5_keep_13, sX5_keep_15 al34 al35 hcp, sX5_keep_18, sX5_keep_19, sX5_keep_20, sX5_keep_23, ↓reduceIte, if_true, if_false, Option.bind_some, Option.bind_none, Option.toList_some, Option.toList_none, List.cons_append, List.nil_append, Option.elim_some, true_or, or_true, or_false, false_or, true_and, and_true, and_false, false_and, zio1, zio0, zio01, not_true_eq_false, not_false_eq_true, nlt, neq, nlt0, n0lt, neq0, neq1, nm9, m9n, nadd, nadd1, nmul, ncl, zin_t, li9, hc0]
/-- the rounds that are kept -/
def EK (H G : Nat) (kd bd gv rs w f l : Nat → Nat) (g : Nat → Nat → Int32) (row : Nat → Int32) (lk : Nat) : Prop := g 33 5 = nI lk ∧ ∀ j, j ≤ lk → ∀ q, q < G → g 35 (9 * j + q) = itr H G kd bd gv rs w f l row j q
/-- a question on rents -/
def qe (g g' : Nat → Nat → Int32) : Prop := (∀ a, (a < 25 ∨ (28 < a ∧ a < 33) ∨ 35 < a) → g' a = g a) ∧ g' 33 7 = g 33 7
theorem qe.tr {g1 g2 g3 : Nat → Nat → Int32} (h : qe g1 g2) (h' : qe g2 g3) : qe g1 g3 := ⟨fun a ha => (h'.1 a ha).trans (h.1 a ha), h'.2.trans h.2⟩
theorem qe.rf : qe g g := ⟨fun _ _ => rfl, rfl⟩
theorem rk.qe (h : rk g g') : qe g g' := ⟨fun a ha => h a (by omega), by rw [h 33 (by omega)]⟩
theorem qe.eb (h : qe g g') : eb g g' := fun a ha => h.1 a (by omega)
theorem kX5_st_loop (okw : okr H G row) (hv : hvb H G bd f l row = true) : ∀ e r (g : Nat → Nat → Int32) (t : Nat → Int64) (x2 x3 : Option Value), r + e = 50 → g 33 6 = -9 → EK H G kd bd gv rs w f l g row r → CTn g H S kd bd gv rs dr → CGb g G w f l → CRw g 34 H G (itr H G kd bd gv rs w f l row r) → ∃ g' t', qe g g' ∧ g' 33 6 = stv (stl H G kd bd gv rs w f l e r (itr H G kd bd gv rs w f l row r)) ∧ (∃ lk, lk ≤ 50 ∧ EK H G kd bd gv rs w f l g' row lk ∧ ∀ j, j ≤ 50 → lk ≤ j → itr H G kd bd gv rs w f l row j = itr H G kd bd gv rs w f l row lk) ∧ go L xs 34 69 44 [some (.ref 33), some (.int (nI (r + 1))), x2, x3] [] (hp g t) = some (none, hp g' t')
  | 0, r, g, t, x2, x3, hr, h6, hE, hT, hB, hR => by
    have hr : r = 50 := by omega
    subst hr
    refine ⟨g, t, qe.rf, h6, ⟨50, Nat.le_refl _, hE, fun j a b => by rw [show j = 50 by omega]⟩, ?_⟩
    simp (disch := omega) only [sX5_run_44, sX5_run_45, sX5_run_47, sX5_run_132, ↓reduceIte, if_true, if_false, Option.bind_some, Option.bind_none, Option.toList_some, Option.toList_none, List.cons_append, List.nil_append, Option.elim_some, true_or, or_true, or_false, false_or, true_and, and_true, and_false, false_and, zio1, zio0, zio01, not_true_eq_false, not_false_eq_true, nlt, neq, nlt0, n0lt, neq0, neq1, nm9, m9n, nadd, nadd1, nmul, ncl, zin_t, li50, (show 50 < 51 by omega)]
  | e + 1, r, g, t, x2, x3, hr, h6, hE, hT, hB, hR => by
    have q : ¬ 50 < r + 1 := by omega
    have h7 := hT.2.1
    have g8 := hB.2.1
    have hl49 : ∀ k, k < G → l k ≤ 49 := fun k hk => (hB.2.2 k hk).2.2.2.2
    have hvr := itr_hvb (kd := kd) (gv := gv) (rs := rs) (w := w) h7 g8 hl49 okw hv r
    obtain ⟨g1, t1, b1, b2, b3⟩ := kX5_ro_loop (L := L) (xs := xs) (x1 := some (.int (nI (r + 1)))) G 0 g t (itr H G kd bd gv rs w f l row r, false) (by omega) hT hB hR hvr
    rw [nI_0] at b3
    simp only [Bool.false_eq_true, if_false] at b3
    have b33 : g1 33 = g 33 := b1 33 (by omega)
    have b35 : g1 35 = g 35 := b1 35 (by omega)
    unfold stl
    by_cases q1 : (rd1 H G kd bd gv rs w f l (itr H G kd bd gv rs w f l row r)).2 = true
    · rw [if_pos q1] at b3 ⊢
      have hk := kX5_keep (L := L) (xs := xs) (g := g1) (t := t1) (r := r + 1) (by omega)
      generalize hg2 : zu (zcp g1 34 35 0 ((r + 1) * 9) 9) 33 5 (nI (r + 1)) = g2 at hk
      have f2 : ∀ a, a ≠ 33 → a ≠ 35 → g2 a = g1 a := fun a x y => by
        subst hg2
        funext p
        simp only [zcpA, zuA, x, y, if_false]
      have f5 : g2 33 5 = nI (r + 1) := by
        subst hg2
        simp only [zcpA, zuA, if_true]
      have f6 : ∀ p, p ≠ 5 → g2 33 p = g1 33 p := fun p hp => by
        subst hg2
        simp only [zcpA, zuA, if_true, if_false, hp, Nat.reduceEqDiff]
      have f35 : ∀ j, j ≤ r + 1 → ∀ p, p < G → g2 35 (9 * j + p) = itr H G kd bd gv rs w f l row j p := fun j hj p hp => by
        subst hg2
        simp only [zcpA, zuA, if_true, if_false, Nat.reduceEqDiff]
        by_cases z : j = r + 1
        · subst z
          rw [if_pos (by omega), show 0 + (9 * (r + 1) + p - (r + 1) * 9) = p by omega]
          exact b2.1 p hp
        · rw [if_neg (by omega), b35]
          exact hE.2 j (by omega) p hp
      have Q2 : qe g1 g2 := ⟨fun a ha => f2 a (by omega) (by omega), f6 7 (by omega)⟩
      obtain ⟨g3, t3, Q3, c1, c2, c3⟩ := kX5_st_loop okw hv e (r + 1) g2 t1 (some (.int 1)) (some (.int (nI G))) (by omega) (by rw [f6 6 (by omega), b33]; exact h6) ⟨f5, f35⟩ ((b1.qe.tr Q2).eb.town hT) ((b1.qe.tr Q2).eb.b hB) (by unfold CRw; rw [f2 34 (by omega) (by omega)]; exact b2)
      refine ⟨g3, t3, (b1.qe.tr Q2).tr Q3, c1, c2, ?_⟩
      rw [← c3, sX5_run_44]
      simp (disch := omega) only [sX5_run_45, sX5_run_47, sX5_run_50, sX5_run_51, sX5_run_54, sX5_run_56, sX5_run_59, sX5_run_60, sX5_run_61, sX5_run_62, ↓reduceIte, if_true, if_false, Option.bind_some, Option.bind_none, Option.toList_some, Option.toList_none, List.cons_append, List.nil_append, Option.elim_some, true_or, or_true, or_false, false_or, true_and, and_true, and_false, false_and, zio1, zio0, zio01, not_true_eq_false, not_false_eq_true, nlt, neq, nlt0, n0lt, neq0, neq1, nm9, m9n, nadd, nadd1, nmul, ncl, zin_t, li50, q, h6]
      rw [b3]
      simp (disch := omega) only [sX5_run_107, sX5_run_108, sX5_run_111, sX5_run_112, sX5_run_113, sX5_run_116, sX5_run_119, sX5_run_120, sX5_run_121, sX5_run_122, sX5_run_123, sX5_run_126, sX5_run_129, ↓reduceIte, if_true, if_false, Option.bind_some, Option.bind_none, Option.toList_some, Option.toList_none, List.cons_append, List.nil_append, Option.elim_some, true_or, or_true, or_false, false_or, true_and, and_true, and_false, false_and, zio1, zio0, zio01, not_true_eq_false, not_false_eq_true, nlt, neq, nlt0, n0lt, neq0, neq1, nm9, m9n, nadd, nadd1, nmul, ncl, zin_t, hk]
    · rw [if_neg q1] at b3 ⊢
      have q2 : (rd1 H G kd bd gv rs w f l (itr H G kd bd gv rs w f l row r)).2 = false := by simpa using q1
      have hst := itr_stop h7 okw q2
      have Q2 : qe g1 (zu g1 33 6 (nI r)) := ⟨fun a ha => by
        have : a ≠ 33 := by omega
        funext p; simp only [zuA, this, if_false], by simp only [zuA, if_true, if_false, Nat.reduceEqDiff]⟩
      refine ⟨zu g1 33 6 (nI r), t1, b1.qe.tr Q2, by simp only [zuA, if_true]; rfl, ⟨r, by omega, ⟨by simp only [zuA, if_true, if_false, Nat.reduceEqDiff]; rw [b33]; exact hE.1, fun j hj p hp => by
        simp only [zuA, if_false, Nat.reduceEqDiff]
        rw [b35]
        exact hE.2 j hj p hp⟩, fun j j1 j2 => by
          have := hst (j - r)
          rwa [show r + (j - r) = j by omega] at this⟩, ?_⟩
      have e6 : zu g1 33 6 (nI r) 33 6 = nI r := by simp only [zuA, if_true]
      simp (disch := omega) only [sX5_run_44, sX5_run_45, sX5_run_47, sX5_run_50, sX5_run_51, sX5_run_54, sX5_run_56, sX5_run_59, sX5_run_60, sX5_run_61, sX5_run_62, ↓reduceIte, if_true, if_false, Option.bind_some, Option.bind_none, Option.toList_some, Option.toList_none, List.cons_append, List.nil_append, Option.elim_some, true_or, or_true, or_false, false_or, true_and, and_true, and_false, false_and, zio1, zio0, zio01, not_true_eq_false, not_false_eq_true, nlt, neq, nlt0, n0lt, neq0, neq1, nm9, m9n, nadd, nadd1, nmul, ncl, zin_t, li50, q, h6]
      rw [b3]
      by_cases q3 : 50 < r + 1 + 1
      · simp (disch := omega) only [sX5_run_107, sX5_run_108, sX5_run_111, sX5_run_112, sX5_run_113, sX5_run_116, sX5_run_119, sX5_run_120, sX5_run_121, sX5_run_122, sX5_run_123, sX5_run_126, sX5_run_129, sX5_run_44, sX5_run_45, sX5_run_47, sX5_run_50, sX5_run_51, sX5_run_54, sX5_run_56, sX5_run_132, ↓reduceIte, if_true, if_false, Option.bind_some, Option.bind_none, Option.toList_some, Option.toList_none, List.cons_append, List.nil_append, Option.elim_some, true_or, or_true, or_false, false_or, true_and, and_true, and_false, false_and, zio1, zio0, zio01, not_true_eq_false, not_false_eq_true, nlt, neq, nlt0, n0lt, neq0, neq1, nm9, m9n, nadd, nadd1, nmul, ncl, zin_t, nsub1, Nat.add_sub_cancel, li50, q3]
      · simp (disch := omega) only [sX5_run_107, sX5_run_108, sX5_run_111, sX5_run_112, sX5_run_113, sX5_run_116, sX5_run_119, sX5_run_120, sX5_run_121, sX5_run_122, sX5_run_123, sX5_run_126, sX5_run_129, sX5_run_44, sX5_run_45, sX5_run_47, sX5_run_50, sX5_run_51, sX5_run_54, sX5_run_56, sX5_run_132, ↓reduceIte, if_true, if_false, Option.bind_some, Option.bind_none, Option.toList_some, Option.toList_none, List.cons_append, List.nil_append, Option.elim_some, true_or, or_true, or_false, false_or, true_and, and_true, and_false, false_and, zio1, zio0, zio01, not_true_eq_false, not_false_eq_true, nlt, neq, nlt0, n0lt, neq0, neq1, nm9, m9n, nadd, nadd1, nmul, ncl, zin_t, nsub1, Nat.add_sub_cancel, li50, q3, e6]
/-- what is kept of rents -/
def CE (H G : Nat) (kd bd gv rs w f l : Nat → Nat) (g : Nat → Nat → Int32) (row : Nat → Int32) : Prop := g 33 7 = 0 ∨ (g 33 7 = 1 ∧ g 33 6 = stv (stl H G kd bd gv rs w f l 50 0 row) ∧ ∃ lk, lk ≤ 50 ∧ EK H G kd bd gv rs w f l g row lk ∧ ∀ j, j ≤ 50 → lk ≤ j → itr H G kd bd gv rs w f l row j = itr H G kd bd gv rs w f l row lk)
/-- a question on rents, all told -/
def qd (g g' : Nat → Nat → Int32) : Prop := ∀ a, (a < 25 ∨ (28 < a ∧ a < 33) ∨ 35 < a) → g' a = g a
theorem qd.rf : qd g g := fun _ _ => rfl
theorem qd.cf (h : qd g g') : cf g g' := ⟨fun a x y => h a (by omega), fun a k x y _ => by rw [h a (by omega)], fun a x y => h a (by omega), fun a x => h a (by omega), by rw [h 0 (by omega)], by rw [h 0 (by omega)]⟩
theorem kX5_run (hT : CTn g H S kd bd gv rs dr) (hG : CGs g H G w f l row) (hv : hvb H G bd f l row = true) (hE : CE H G kd bd gv rs w f l g row) : ∃ g' t', qd g g' ∧ (g' 33 7 = 1 ∧ g' 33 6 = stv (stl H G kd bd gv rs w f l 50 0 row) ∧ ∃ lk, lk ≤ 50 ∧ EK H G kd bd gv rs w f l g' row lk ∧ ∀ j, j ≤ 50 → lk ≤ j → itr H G kd bd gv rs w f l row j = itr H G kd bd gv rs w f l row lk) ∧ go L xs 34 69 0 [some (.ref 33), none, none, none] [] (hp g t) = some (none, hp g' t') := by
  rcases id hE with q | q
  · obtain ⟨-, -, ea3, ea4, -⟩ := ea
    have hcp : ¬ (0 : Int32) < 0 ∧ ¬ (0 : Int32) < 0 ∧ ¬ (9 : Int32) < 0 ∧ (0 : Int32).toNatClampNeg + (9 : Int32).toNatClampNeg ≤ zal 14 ∧ (0 : Int32).toNatClampNeg + (9 : Int32).toNatClampNeg ≤ zal 34 := by
      rw [ea3, ea4]; decide
    have hc0 : (0 : Int32).toNatClampNeg = 0 := rfl
    have hc9 : (9 : Int32).toNatClampNeg = 9 := rfl
    have g8 := hG.2.1
    generalize hg1 : zu (zcp (zu g 33 7 1) 14 34 0 0 9) 33 6 (-9) = g1
    have hk := kX5_keep (L := L) (xs := xs) (g := g1) (t := t) (r := 0) (by omega)
    generalize hg2 : zu (zcp g1 34 35 0 (0 * 9) 9) 33 5 (nI 0) = g2 at hk
    have f1 : ∀ a, a ≠ 33 → a ≠ 34 → g1 a = g a := fun a x y => by
      subst hg1
      funext p
      simp only [zcpA, zuA, x, y, if_false]
    have f34 : ∀ p, p < 9 → g1 34 p = g 14 p := fun p hp => by
      subst hg1
      have : 0 ≤ p ∧ p < 0 + 9 := by omega
      simp only [zcpA, zuA, if_true, if_false, Nat.reduceEqDiff, this, and_self, Nat.sub_zero, Nat.zero_add]
    have f7 : g1 33 7 = 1 := by
      subst hg1
      simp only [zcpA, zuA, if_true, if_false, Nat.reduceEqDiff]
    have f6 : g1 33 6 = -9 := by
      subst hg1
      simp only [zcpA, zuA, if_true]
    have k1 : ∀ a, a ≠ 33 → a ≠ 35 → g2 a = g1 a := fun a x y => by
      subst hg2
      funext p
      simp only [zcpA, zuA, x, y, if_false]
    have k5 : g2 33 5 = nI 0 := by
      subst hg2
      simp only [zcpA, zuA, if_true]
    have k6 : ∀ p, p ≠ 5 → g2 33 p = g1 33 p := fun p hp => by
      subst hg2
      simp only [zcpA, zuA, if_true, if_false, hp, Nat.reduceEqDiff]
    have k35 : ∀ p, p < 9 → g2 35 (9 * 0 + p) = g1 34 p := fun p hp => by
      subst hg2
      have : 0 * 9 ≤ 9 * 0 + p ∧ 9 * 0 + p < 0 * 9 + 9 := by omega
      simp only [zcpA, zuA, if_true, if_false, Nat.reduceEqDiff, this, and_self]
      rw [show 0 + (9 * 0 + p - 0 * 9) = p by omega]
    have E2 : eb g g2 := fun a ha => by rw [k1 a (by omega) (by omega), f1 a (by omega) (by omega)]
    have hR : CRw g2 34 H G (itr H G kd bd gv rs w f l row 0) := ⟨fun j hj => by rw [k1 34 (by omega) (by omega), f34 j (by omega)]; exact hG.r.1 j hj, hG.r.2.1, fun j x y => by rw [k1 34 (by omega) (by omega), f34 j y]; exact hG.2.2.2 j x y⟩
    obtain ⟨g3, t3, Q3, c1, c2, c3⟩ := kX5_st_loop (L := L) (xs := xs) (S := S) (dr := dr) (kd := kd) (gv := gv) (rs := rs) (w := w) hG.r.2.1 hv 50 0 g2 t none none (by omega) (by rw [k6 6 (by omega)]; exact f6) ⟨k5, fun j hj p hp => by
      rw [show j = 0 by omega, k35 p (by omega), f34 p (by omega)]
      exact hG.r.1 p hp⟩ (E2.town hT) (E2.b hG.b) hR
    refine ⟨g3, t3, fun a ha => by rw [Q3.1 a ha, k1 a (by omega) (by omega), f1 a (by omega) (by omega)], ⟨by rw [Q3.2, k6 7 (by omega)]; exact f7, c1, c2⟩, ?_⟩
    rw [← c3]
    rw [nI_0] at hk
    simp (disch := omega) only [sX5_run_0, sX5_run_1, sX5_run_4, sX5_run_7, sX5_run_8, sX5_run_9, sX5_run_10, sX5_run_13, sX5_run_14, sX5_run_17, sX5_run_20, sX5_run_21, sX5_run_22, sX5_run_25, sX5_run_26, sX5_run_28 al14 al34 hcp, sX5_run_31, sX5_run_32, sX5_run_34, sX5_run_37, sX5_run_38, sX5_run_39, sX5_run_42, sX5_run_43, ↓reduceIte, if_true, if_false, Option.bind_some, Option.bind_none, Option.toList_some, Option.toList_none, List.cons_append, List.nil_append, Option.elim_some, true_or, or_true, or_false, false_or, true_and, and_true, and_false, false_and, zio1, zio0, zio01, not_true_eq_false, not_false_eq_true, nlt, neq, nlt0, n0lt, neq0, neq1, nm9, m9n, nadd, nadd1, nmul, ncl, zin_t, zbo1, q, hc0, hc9, hg1, hk]
    rfl
  · refine ⟨g, t, qd.rf, q, ?_⟩
    simp (disch := omega) only [sX5_run_0, sX5_run_1, sX5_run_4, sX5_run_7, ↓reduceIte, if_true, if_false, Option.bind_some, Option.bind_none, Option.toList_some, Option.toList_none, List.cons_append, List.nil_append, Option.elim_some, true_or, or_true, or_false, false_or, true_and, and_true, and_false, false_and, zio1, zio0, zio01, not_true_eq_false, not_false_eq_true, q.1]
theorem kX0_has (hG : CGs g H G w f l row) {x : Int32} : go L xs 1 69 0 [some (.ref 10), some (.int x)] [] (hp g t) = some (some (.int (if 0 ≤ x.toInt ∧ x.toInt < G then 1 else 0)), hp g t) := by
  have t1 := hG.1
  have t2 := hG.2.1
  by_cases q : x.toInt < 0
  · have q1 : (x < 0) = True := eq_true (Int32.lt_iff_toInt_lt.mpr (by simpa using q))
    rw [if_neg (by omega)]
    simp only [sX0_has_0, sX0_has_1, sX0_has_4, sX0_has_5, sX0_has_6, sX0_has_9, sX0_has_12, sX0_has_13, sX0_has_16, sX0_has_17, ↓reduceIte, if_true, if_false, Option.bind_some, Option.bind_none, Option.toList_some, Option.toList_none, List.cons_append, List.nil_append, Option.elim_some, true_or, or_true, or_false, false_or, true_and, and_true, and_false, false_and, zio1, zio0, zio01, not_true_eq_false, not_false_eq_true, q1]
  · have q1 := nlt_f q
    have e := ilt (x := x) (n := G) (by omega) (by omega)
    by_cases q2 : x.toInt < G
    · rw [if_pos (by omega)]
      simp only [sX0_has_0, sX0_has_1, sX0_has_4, sX0_has_5, sX0_has_6, sX0_has_9, sX0_has_12, sX0_has_13, sX0_has_16, sX0_has_17, ↓reduceIte, if_true, if_false, Option.bind_some, Option.bind_none, Option.toList_some, Option.toList_none, List.cons_append, List.nil_append, Option.elim_some, true_or, or_true, or_false, false_or, true_and, and_true, and_false, false_and, zio1, zio0, zio01, not_true_eq_false, not_false_eq_true, q1, t1, e, q2]
    · rw [if_neg (by omega)]
      simp only [sX0_has_0, sX0_has_1, sX0_has_4, sX0_has_5, sX0_has_6, sX0_has_9, sX0_has_12, sX0_has_13, sX0_has_16, sX0_has_17, ↓reduceIte, if_true, if_false, Option.bind_some, Option.bind_none, Option.toList_some, Option.toList_none, List.cons_append, List.nil_append, Option.elim_some, true_or, or_true, or_false, false_or, true_and, and_true, and_false, false_and, zio1, zio0, zio01, not_true_eq_false, not_false_eq_true, q1, t1, e, q2]
theorem pX8_settles (hT : CTn g H S kd bd gv rs dr) (hG : CGs g H G w f l row) (hv : hvb H G bd f l row = true) (hE : CE H G kd bd gv rs w f l g row) : ∃ g' t', qd g g' ∧ CE H G kd bd gv rs w f l g' row ∧ go L xs 66 69 0 [some (.ref 0)] [] (hp g t) = some (some (.int (if H = 0 then -3 else stv (stl H G kd bd gv rs w f l 50 0 row))), hp g' t') := by
  have t1 := hT.1
  have t2 := hT.2.1
  by_cases q : H = 0
  · refine ⟨g, t, qd.rf, hE, ?_⟩
    rw [if_pos q]
    simp (disch := omega) only [sX8_settles_0, sX8_settles_1, sX8_settles_4, sX8_settles_7, sX8_settles_10, sX8_settles_12, sX8_settles_13, sX8_settles_14, sX8_settles_17, sX8_settles_20, sX8_settles_21, sX8_settles_24, sX8_settles_27, ↓reduceIte, if_true, if_false, Option.bind_some, Option.bind_none, Option.toList_some, Option.toList_none, List.cons_append, List.nil_append, Option.elim_some, true_or, or_true, or_false, false_or, true_and, and_true, and_false, false_and, zio1, zio0, zio01, not_true_eq_false, not_false_eq_true, nlt, neq, nlt0, n0lt, neq0, neq1, nm9, m9n, nadd, nadd1, nmul, ncl, zin_t, t1, q, nI_0]
  · rw [if_neg q]
    obtain ⟨g1, t1', Q, c, e1⟩ := kX5_run (L := L) (xs := xs) (t := t) hT hG hv hE
    refine ⟨g1, t1', Q, Or.inr c, ?_⟩
    have c6 := c.2.1
    simp (disch := omega) only [sX8_settles_0, sX8_settles_1, sX8_settles_4, sX8_settles_7, sX8_settles_10, sX8_settles_12, sX8_settles_13, sX8_settles_14, sX8_settles_17, sX8_settles_20, sX8_settles_21, sX8_settles_24, sX8_settles_27, ↓reduceIte, if_true, if_false, Option.bind_some, Option.bind_none, Option.toList_some, Option.toList_none, List.cons_append, List.nil_append, Option.elim_some, true_or, or_true, or_false, false_or, true_and, and_true, and_false, false_and, zio1, zio0, zio01, not_true_eq_false, not_false_eq_true, nlt, neq, nlt0, n0lt, neq0, neq1, nm9, m9n, nadd, nadd1, nmul, ncl, zin_t, t1, q, e1, c6]
theorem pX8_after (hT : CTn g H S kd bd gv rs dr) (hG : CGs g H G w f l row) (hv : hvb H G bd f l row = true) (hE : CE H G kd bd gv rs w f l g row) {x y : Int32} : ∃ g' t', qd g g' ∧ CE H G kd bd gv rs w f l g' row ∧ go L xs 67 69 0 [some (.ref 0), some (.int x), some (.int y)] [] (hp g t) = some (some (.int (if 0 ≤ x.toInt ∧ x.toInt < G then (if 0 ≤ y.toInt ∧ y.toInt ≤ 50 then itr H G kd bd gv rs w f l row y.toInt.toNat x.toInt.toNat else -2) else -1)), hp g' t') := by
  have h1 := kX0_has (L := L) (xs := xs) (t := t) (x := x) hG
  have hin := kX8_in (L := L) (xs := xs) (g := g) (t := t) (x := y) (a := 0) (b := 50) (lo := 0) (hi := 50) (by decide) (by decide)
  have g8 := hG.2.1
  by_cases q1 : 0 ≤ x.toInt ∧ x.toInt < G
  · rw [if_pos q1] at h1 ⊢
    by_cases q2 : 0 ≤ y.toInt ∧ y.toInt ≤ 50
    · rw [if_pos q2] at hin ⊢
      have hx := nI_back q1.1
      have hy := nI_back q2.1
      generalize hk : x.toInt.toNat = k at hx
      generalize hm : y.toInt.toNat = m at hy
      subst hx hy
      obtain ⟨g1, t1', Q, c, e1⟩ := kX5_run (L := L) (xs := xs) (t := t) hT hG hv hE
      obtain ⟨-, -, lk, k1, ⟨k2, k3⟩, k4⟩ := id c
      refine ⟨g1, t1', Q, Or.inr c, ?_⟩
      by_cases z : lk < m
      · have k5 := k3 lk (Nat.le_refl _) k (by omega)
        rw [← k4 m (by omega) (by omega), show 9 * lk + k = lk * 9 + k by omega] at k5
        simp (disch := omega) only [sX8_after_0, sX8_after_1, sX8_after_4, sX8_after_5, sX8_after_8, sX8_after_11, sX8_after_12, sX8_after_13, sX8_after_14, sX8_after_15, sX8_after_17, sX8_after_20, sX8_after_23, sX8_after_25, sX8_after_26, sX8_after_27, sX8_after_30, sX8_after_33, sX8_after_34, sX8_after_37, sX8_after_38, sX8_after_39, sX8_after_42, sX5_houseBehind_0, sX5_houseBehind_1, sX5_houseBehind_4, sX5_houseBehind_5, sX5_houseBehind_6, sX5_houseBehind_9, sX5_houseBehind_12, sX5_houseBehind_14, sX5_houseBehind_15, sX5_houseBehind_16, sX5_houseBehind_17, sX5_houseBehind_18, ↓reduceIte, if_true, if_false, Option.bind_some, Option.bind_none, Option.toList_some, Option.toList_none, List.cons_append, List.nil_append, Option.elim_some, true_or, or_true, or_false, false_or, true_and, and_true, and_false, false_and, zio1, zio0, zio01, not_true_eq_false, not_false_eq_true, nlt, neq, nlt0, n0lt, neq0, neq1, nm9, m9n, nadd, nadd1, nmul, ncl, zin_t, h1, hin, e1, k2, z, li9, k5]
      · have k5 := k3 m (by omega) k (by omega)
        rw [show 9 * m + k = m * 9 + k by omega] at k5
        simp (disch := omega) only [sX8_after_0, sX8_after_1, sX8_after_4, sX8_after_5, sX8_after_8, sX8_after_11, sX8_after_12, sX8_after_13, sX8_after_14, sX8_after_15, sX8_after_17, sX8_after_20, sX8_after_23, sX8_after_25, sX8_after_26, sX8_after_27, sX8_after_30, sX8_after_33, sX8_after_34, sX8_after_37, sX8_after_38, sX8_after_39, sX8_after_42, sX5_houseBehind_0, sX5_houseBehind_1, sX5_houseBehind_4, sX5_houseBehind_5, sX5_houseBehind_6, sX5_houseBehind_9, sX5_houseBehind_12, sX5_houseBehind_14, sX5_houseBehind_15, sX5_houseBehind_16, sX5_houseBehind_17, sX5_houseBehind_18, ↓reduceIte, if_true, if_false, Option.bind_some, Option.bind_none, Option.toList_some, Option.toList_none, List.cons_append, List.nil_append, Option.elim_some, true_or, or_true, or_false, false_or, true_and, and_true, and_false, false_and, zio1, zio0, zio01, not_true_eq_false, not_false_eq_true, nlt, neq, nlt0, n0lt, neq0, neq1, nm9, m9n, nadd, nadd1, nmul, ncl, zin_t, h1, hin, e1, k2, z, li9, k5]
    · rw [if_neg q2] at hin ⊢
      refine ⟨g, t, qd.rf, hE, ?_⟩
      simp (disch := omega) only [sX8_after_0, sX8_after_1, sX8_after_4, sX8_after_5, sX8_after_8, sX8_after_11, sX8_after_12, sX8_after_13, sX8_after_14, sX8_after_15, sX8_after_17, sX8_after_20, sX8_after_23, sX8_after_25, sX8_after_26, sX8_after_27, sX8_after_30, sX8_after_33, sX8_after_34, sX8_after_37, sX8_after_38, sX8_after_39, sX8_after_42, ↓reduceIte, if_true, if_false, Option.bind_some, Option.bind_none, Option.toList_some, Option.toList_none, List.cons_append, List.nil_append, Option.elim_some, true_or, or_true, or_false, false_or, true_and, and_true, and_false, false_and, zio1, zio0, zio01, not_true_eq_false, not_false_eq_true, h1, hin]
  · rw [if_neg q1] at h1 ⊢
    refine ⟨g, t, qd.rf, hE, ?_⟩
    simp (disch := omega) only [sX8_after_0, sX8_after_1, sX8_after_4, sX8_after_5, sX8_after_8, sX8_after_11, sX8_after_12, sX8_after_13, sX8_after_14, sX8_after_15, sX8_after_17, sX8_after_20, sX8_after_23, sX8_after_25, sX8_after_26, sX8_after_27, sX8_after_30, sX8_after_33, sX8_after_34, sX8_after_37, sX8_after_38, sX8_after_39, sX8_after_42, ↓reduceIte, if_true, if_false, Option.bind_some, Option.bind_none, Option.toList_some, Option.toList_none, List.cons_append, List.nil_append, Option.elim_some, true_or, or_true, or_false, false_or, true_and, and_true, and_false, false_and, zio1, zio0, zio01, not_true_eq_false, not_false_eq_true, h1]
end C11
