/-! The class: planksBelow, stepped; rows and visitors. -/
section C5
variable {L : Nat} {xs : Nat → Int32} {g g' : Nat → Nat → Int32} {t : Nat → Int64}
variable {H S G : Nat} {kd bd gv rs dr w f l : Nat → Nat} {row : Nat → Int32} {o c pl : Nat}
variable {om : Int32} {omw omf : Nat}
abbrev aplW (H S : Nat) (kd gv rs : Nat → Nat) (pl : Nat) (W : Nat → Nat → Nat) : Nat → Nat := smn (fun n => plk H S (dpW H kd gv rs pl W (n + 1)))
theorem smn_mono {f : Nat → Nat} : ∀ e k, smn f k ≤ smn f (k + e)
  | 0, _ => Nat.le_refl _
  | e + 1, k => Nat.le_trans (smn_mono e k) (by show _ ≤ smn f (k + e) + f (k + e); omega)
theorem aplW_le {W : Nat → Nat → Nat} (h7 : H ≤ 7) (n : Nat) : aplW H S kd gv rs pl W n ≤ n * 6 := smn_le n (fun k _ => plk_le h7)
theorem kX3_pb_loop (ho : o = 19 ∨ o = 24) (hc : c = 14 ∨ c = 30 ∨ c = 34) (hpl : pl < 128) (hH : 0 < H) {en : Nat} (hen : en ≤ 350) : ∀ e n (g : Nat → Nat → Int32), n + e = 50 → CTn g H S kd bd gv rs dr → CG9 g c H w f l row → TNs (t o) 9 f l row → NSt g o n H kd gv rs pl (W9 w f l row) → ∃ g' s, nf o g g' ∧ s ≤ 300 ∧ (s < en ∨ aplW H S kd gv rs pl (W9 w f l row) 50 < en → s = aplW H S kd gv rs pl (W9 w f l row) 50) ∧ go L xs 18 69 11 [some (.ref o), some (.ref c), some (.int (nI pl)), some (.int (nI en)), some (.int (nI (aplW H S kd gv rs pl (W9 w f l row) n))), some (.int (nI n))] [] (hp g t) = some (some (.int (nI s)), hp g' t)
  | 0, n, g, hn, hT, hG, hB, hN => by
    have hn : n = 50 := by omega
    subst hn
    have h1 := aplW_le (H := H) (S := S) (kd := kd) (gv := gv) (rs := rs) (pl := pl) (W := W9 w f l row) hT.2.1 50
    refine ⟨g, aplW H S kd gv rs pl (W9 w f l row) 50, nf.rf, by omega, fun _ => rfl, ?_⟩
    simp (disch := omega) only [sX3_planksBelow_11, sX3_planksBelow_13, sX3_planksBelow_15, sX3_planksBelow_51, sX3_planksBelow_53, ↓reduceIte, if_true, if_false, Option.bind_some, Option.bind_none, Option.toList_some, Option.toList_none, List.cons_append, List.nil_append, Option.elim_some, true_or, or_true, or_false, false_or, true_and, and_true, and_false, false_and, zio1, zio0, zio01, not_true_eq_false, not_false_eq_true, nlt, neq, nlt0, n0lt, neq0, neq1, nm9, m9n, nadd, nadd1, nmul, ncl, zin_t, li50, Nat.lt_irrefl]
  | e + 1, n, g, hn, hT, hG, hB, hN => by
    obtain ⟨n0, n1, n2, n3, n4, n5, n6, n7, n8, n9, n10⟩ := nob ho
    have h7 := hT.2.1
    have q : n < 50 := by omega
    have h1 := aplW_le (H := H) (S := S) (kd := kd) (gv := gv) (rs := rs) (pl := pl) (W := W9 w f l row) hT.2.1 n
    have hW : ∀ n h, h < 7 → W9 w f l row n h ≤ 2700 := fun n h hh => W9_le hG hh
    by_cases q1 : aplW H S kd gv rs pl (W9 w f l row) n < en
    · obtain ⟨g1, F1, N1, e1⟩ := kX3_passNight (L := L) (xs := xs) (pl := pl) ho hc hpl q hH hT hG hB hN
      have hpk := kX3_planksAt (L := L) (xs := xs) (t := t) (D := dpW H kd gv rs pl (W9 w f l row)) (d := n + 1) ho (F1.town ho hT) (by omega) (fun h hh => ⟨N1.1 (n + 1) (Nat.le_refl _) h hh, dpW_le2 hT hW (by omega) hh⟩)
      obtain ⟨g2, s, F2, s1, s2, e2⟩ := kX3_pb_loop ho hc hpl hH hen e (n + 1) g1 (by omega) (F1.town ho hT) (F1.g9 ho hc hG) hB N1
      refine ⟨g2, s, F1.tr F2, s1, s2, ?_⟩
      rw [show aplW H S kd gv rs pl (W9 w f l row) (n + 1) = aplW H S kd gv rs pl (W9 w f l row) n + plk H S (dpW H kd gv rs pl (W9 w f l row) (n + 1)) from rfl] at e2
      rw [← e2, sX3_planksBelow_11]
      simp (disch := omega) only [sX3_planksBelow_13, sX3_planksBelow_15, sX3_planksBelow_18, sX3_planksBelow_20, sX3_planksBelow_21, sX3_planksBelow_24, sX3_planksBelow_25, sX3_planksBelow_26, sX3_planksBelow_28, sX3_planksBelow_29, sX3_planksBelow_32, sX3_planksBelow_34, sX3_planksBelow_35, sX3_planksBelow_37, sX3_planksBelow_38, sX3_planksBelow_39, sX3_planksBelow_42, sX3_planksBelow_43, sX3_planksBelow_45, sX3_planksBelow_48, ↓reduceIte, if_true, if_false, Option.bind_some, Option.bind_none, Option.toList_some, Option.toList_none, List.cons_append, List.nil_append, Option.elim_some, true_or, or_true, or_false, false_or, true_and, and_true, and_false, false_and, zio1, zio0, zio01, not_true_eq_false, not_false_eq_true, nlt, neq, nlt0, n0lt, neq0, neq1, nm9, m9n, nadd, nadd1, nmul, ncl, zin_t, li50, q, q1, n0, e1, hpk]
    · have hm : aplW H S kd gv rs pl (W9 w f l row) n ≤ aplW H S kd gv rs pl (W9 w f l row) 50 := by
        have hm := smn_mono (f := fun n => plk H S (dpW H kd gv rs pl (W9 w f l row) (n + 1))) (e + 1) n
        rw [hn] at hm
        exact hm
      refine ⟨g, aplW H S kd gv rs pl (W9 w f l row) n, nf.rf, by omega, fun z => ?_, ?_⟩
      · rcases z with z | z
        · exact absurd z q1
        · exact absurd z (by omega)
      · simp (disch := omega) only [sX3_planksBelow_11, sX3_planksBelow_13, sX3_planksBelow_15, sX3_planksBelow_18, sX3_planksBelow_20, sX3_planksBelow_21, sX3_planksBelow_51, sX3_planksBelow_53, ↓reduceIte, if_true, if_false, Option.bind_some, Option.bind_none, Option.toList_some, Option.toList_none, List.cons_append, List.nil_append, Option.elim_some, true_or, or_true, or_false, false_or, true_and, and_true, and_false, false_and, zio1, zio0, zio01, not_true_eq_false, not_false_eq_true, nlt, neq, nlt0, n0lt, neq0, neq1, nm9, m9n, nadd, nadd1, nmul, ncl, zin_t, li50, q, q1]
theorem kX3_planksBelow (ho : o = 19 ∨ o = 24) (hc : c = 14 ∨ c = 30 ∨ c = 34) (hpl : pl < 128) (hH : 0 < H) {en : Nat} (hen : en ≤ 350) (hT : CTn g H S kd bd gv rs dr) (hG : CG9 g c H w f l row) : ∃ g' t' s, nf o g g' ∧ (∀ a, a ≠ o → t' a = t a) ∧ s ≤ 300 ∧ (s < en ∨ aplW H S kd gv rs pl (W9 w f l row) 50 < en → s = aplW H S kd gv rs pl (W9 w f l row) 50) ∧ go L xs 18 69 0 [some (.ref o), some (.ref c), some (.int (nI pl)), some (.int (nI en)), none, none] [] (hp g t) = some (some (.int (nI s)), hp g' t') := by
  obtain ⟨n0, n1, n2, n3, n4, n5, n6, n7, n8, n9, n10⟩ := nob ho
  obtain ⟨g1, t1, F1, a1, a2, a3, a4⟩ := kX3_begin (L := L) (xs := xs) (t := t) ho hc hG
  obtain ⟨g2, s, F2, s1, s2, e2⟩ := kX3_pb_loop (L := L) (xs := xs) (t := t1) (pl := pl) (S := S) (dr := dr) (bd := bd) ho hc hpl hH hen 50 0 g1 (by omega) (F1.town ho hT) (F1.g9 ho hc hG) a2 (NSt0 a3 hT.2.1)
  refine ⟨g2, t1, s, F1.tr F2, a1, s1, s2, ?_⟩
  rw [show aplW H S kd gv rs pl (W9 w f l row) 0 = 0 from rfl, nI_0] at e2
  simp (disch := omega) only [sX3_planksBelow_0, sX3_planksBelow_1, sX3_planksBelow_2, sX3_planksBelow_5, sX3_planksBelow_6, sX3_planksBelow_8, sX3_planksBelow_9, ↓reduceIte, if_true, if_false, Option.bind_some, Option.bind_none, Option.toList_some, Option.toList_none, List.cons_append, List.nil_append, Option.elim_some, true_or, or_true, or_false, false_or, true_and, and_true, and_false, false_and, zio1, zio0, zio01, not_true_eq_false, not_false_eq_true, n0, a4]
  exact e2
/-- one dawn of a way, as the class goes -/
def cst (P : Nat → Prop) [DecidablePred P] (s : Nat) : Nat → Nat → Nat → Nat
  | 0, _, a => a
  | e + 1, h, a => cst P s e (h + 1) (if (s / 2 ^ h % 2 = 1 ∨ s / 2 ^ (h + 1) % 2 = 1) ∧ P h then a ||| (2 ^ h ||| 2 ^ (h + 1)) else a)
theorem or_bit : ∀ s, s < 128 → ∀ h, h < 7 → s / 2 ^ h % 2 = 1 → s ||| 2 ^ h = s := by decide +kernel
theorem cst_eq {P : Nat → Prop} [DecidablePred P] {s : Nat} (hs : s < 128) : ∀ e h a, h + e ≤ 6 → a ||| s = a → cst P s e h a = wst P s e h a
  | 0, _, _, _, _ => rfl
  | e + 1, h, a, hh, ha => by
    have ab : ∀ j, j < 7 → s / 2 ^ j % 2 = 1 → a ||| 2 ^ j = a := fun j hj hb => by
      have h1 := or_bit s hs j hj hb
      calc a ||| 2 ^ j = (a ||| s) ||| 2 ^ j := by rw [ha]
        _ = a ||| (s ||| 2 ^ j) := Nat.or_assoc _ _ _
        _ = a := by rw [h1, ha]
    have key : (if (s / 2 ^ h % 2 = 1 ∨ s / 2 ^ (h + 1) % 2 = 1) ∧ P h then a ||| (2 ^ h ||| 2 ^ (h + 1)) else a) = ((a ||| (if P h ∧ s / 2 ^ h % 2 = 1 then 2 ^ (h + 1) else 0)) ||| (if P h ∧ s / 2 ^ (h + 1) % 2 = 1 then 2 ^ h else 0)) := by
      by_cases p : P h
      · by_cases b1 : s / 2 ^ h % 2 = 1
        · have e1 := ab h (by omega) b1
          rw [if_pos ⟨Or.inl b1, p⟩, if_pos ⟨p, b1⟩]
          by_cases b2 : s / 2 ^ (h + 1) % 2 = 1
          · have e2 := ab (h + 1) (by omega) b2
            rw [if_pos ⟨p, b2⟩, ← Nat.or_assoc, e1, e2, e1]
          · rw [if_neg (fun z => b2 z.2), ← Nat.or_assoc, e1, Nat.or_zero]
        · by_cases b2 : s / 2 ^ (h + 1) % 2 = 1
          · have e2 := ab (h + 1) (by omega) b2
            rw [if_pos ⟨Or.inr b2, p⟩, if_neg (fun z => b1 z.2), if_pos ⟨p, b2⟩, Nat.or_zero, Nat.or_comm (2 ^ h), ← Nat.or_assoc, e2]
          · rw [if_neg (fun z => z.1.elim b1 b2), if_neg (fun z => b1 z.2), if_neg (fun z => b2 z.2), Nat.or_zero, Nat.or_zero]
      · rw [if_neg (fun z => p z.2), if_neg (fun z => p z.1), if_neg (fun z => p z.1), Nat.or_zero, Nat.or_zero]
    show cst P s e (h + 1) _ = wst P s e (h + 1) _
    rw [← key]
    refine cst_eq hs e (h + 1) _ (by omega) ?_
    split
    · rw [Nat.or_assoc, Nat.or_comm _ s, ← Nat.or_assoc, ha]
    · exact ha
theorem sh_3 : ∀ h, h < 6 → (3 : Int32) <<< (nI h &&& 31) = nI (2 ^ h ||| 2 ^ (h + 1)) := by decide +kernel
theorem an_3 : ∀ s, s < 128 → ∀ h, h < 6 → (((nI s >>> (nI h &&& 31)) &&& 3 = 0) ↔ ¬ (s / 2 ^ h % 2 = 1 ∨ s / 2 ^ (h + 1) % 2 = 1)) := by decide +kernel
theorem kX3_st_loop (ho : o = 19 ∨ o = 24) (hT : CTn g H S kd bd gv rs dr) {D : Nat → Nat → Nat} {d s : Nat} (hs : s < 128) (hd : d ≤ 50) (hD : ∀ h, h < H → g (o + 1) (7 * d + h) = nI (D d h) ∧ D d h ≤ 2000000) : ∀ e h a, h + e = H - 1 → go L xs 27 69 5 [some (.ref o), some (.int (nI s)), some (.int (nI d)), some (.int (nI a)), some (.int (nI h))] [] (hp g t) = some (some (.int (nI (cst (sp S (D d)) s e h a))), hp g t)
  | 0, h, a, hh => by
    obtain ⟨n0, n1, n2, n3, n4, n5, n6, n7, n8, n9, n10⟩ := nob ho
    have t1 := hT.1
    have h7 := hT.2.1
    have hq : ¬ (h + 1 < H) := by omega
    simp (disch := omega) only [sX3_stepped_0, sX3_stepped_1, sX3_stepped_2, sX3_stepped_3, sX3_stepped_5, sX3_stepped_7, sX3_stepped_8, sX3_stepped_9, sX3_stepped_10, sX3_stepped_13, sX3_stepped_16, sX3_stepped_19, sX3_stepped_20, sX3_stepped_22, sX3_stepped_23, sX3_stepped_24, sX3_stepped_25, sX3_stepped_28, sX3_stepped_29, sX3_stepped_31, sX3_stepped_32, sX3_stepped_35, sX3_stepped_38, sX3_stepped_39, sX3_stepped_40, sX3_stepped_42, sX3_stepped_43, sX3_stepped_44, sX3_stepped_45, sX3_stepped_48, sX3_stepped_51, sX3_stepped_52, ↓reduceIte, if_true, if_false, Option.bind_some, Option.bind_none, Option.toList_some, Option.toList_none, List.cons_append, List.nil_append, Option.elim_some, true_or, or_true, or_false, false_or, true_and, and_true, and_false, false_and, zio1, zio0, zio01, not_true_eq_false, not_false_eq_true, nlt, neq, nlt0, n0lt, neq0, neq1, nm9, m9n, nadd, nadd1, nmul, ncl, zin_t, n0, n1, t1, hq, cst]
  | e + 1, h, a, hh => by
    obtain ⟨n0, n1, n2, n3, n4, n5, n6, n7, n8, n9, n10⟩ := nob ho
    have t1 := hT.1
    have h7 := hT.2.1
    have q : h + 1 < H := by omega
    have hst := kX3_canStep (L := L) (xs := xs) (t := t) ho hT hd q hD
    have ih := kX3_st_loop ho hT hs hd hD e (h + 1) (if (s / 2 ^ h % 2 = 1 ∨ s / 2 ^ (h + 1) % 2 = 1) ∧ sp S (D d) h then a ||| (2 ^ h ||| 2 ^ (h + 1)) else a) (by omega)
    have ha3 := an_3 s hs h (by omega)
    have hs3 := sh_3 h (by omega)
    unfold cst
    rw [← ih, sX3_stepped_5]
    by_cases z1 : s / 2 ^ h % 2 = 1 ∨ s / 2 ^ (h + 1) % 2 = 1
    · by_cases z2 : sp S (D d) h
      · rw [if_pos z2] at hst
        rw [if_pos ⟨z1, z2⟩]
        simp (disch := omega) only [sX3_stepped_7, sX3_stepped_8, sX3_stepped_9, sX3_stepped_10, sX3_stepped_13, sX3_stepped_16, sX3_stepped_19, sX3_stepped_20, sX3_stepped_22, sX3_stepped_23, sX3_stepped_24, sX3_stepped_25, sX3_stepped_28, sX3_stepped_29, sX3_stepped_31, sX3_stepped_32, sX3_stepped_35, sX3_stepped_38, sX3_stepped_39, sX3_stepped_40, sX3_stepped_42, sX3_stepped_43, sX3_stepped_44, sX3_stepped_45, sX3_stepped_48, ↓reduceIte, if_true, if_false, Option.bind_some, Option.bind_none, Option.toList_some, Option.toList_none, List.cons_append, List.nil_append, Option.elim_some, true_or, or_true, or_false, false_or, true_and, and_true, and_false, false_and, zio1, zio0, zio01, not_true_eq_false, not_false_eq_true, nlt, neq, nlt0, n0lt, neq0, neq1, nm9, m9n, nadd, nadd1, nmul, ncl, zin_t, n0, n1, t1, q, eq_false (fun z => (ha3.mp z) z1), hst, hs3, fa_or2]
      · rw [if_neg z2] at hst
        rw [if_neg (fun z => z2 z.2)]
        simp (disch := omega) only [sX3_stepped_7, sX3_stepped_8, sX3_stepped_9, sX3_stepped_10, sX3_stepped_13, sX3_stepped_16, sX3_stepped_19, sX3_stepped_20, sX3_stepped_22, sX3_stepped_23, sX3_stepped_24, sX3_stepped_25, sX3_stepped_28, sX3_stepped_29, sX3_stepped_31, sX3_stepped_32, sX3_stepped_35, sX3_stepped_38, sX3_stepped_39, sX3_stepped_40, sX3_stepped_42, sX3_stepped_43, sX3_stepped_44, sX3_stepped_45, sX3_stepped_48, ↓reduceIte, if_true, if_false, Option.bind_some, Option.bind_none, Option.toList_some, Option.toList_none, List.cons_append, List.nil_append, Option.elim_some, true_or, or_true, or_false, false_or, true_and, and_true, and_false, false_and, zio1, zio0, zio01, not_true_eq_false, not_false_eq_true, nlt, neq, nlt0, n0lt, neq0, neq1, nm9, m9n, nadd, nadd1, nmul, ncl, zin_t, n0, n1, t1, q, eq_false (fun z => (ha3.mp z) z1), hst]
    · rw [if_neg (fun z => z1 z.1)]
      simp (disch := omega) only [sX3_stepped_7, sX3_stepped_8, sX3_stepped_9, sX3_stepped_10, sX3_stepped_13, sX3_stepped_16, sX3_stepped_19, sX3_stepped_20, sX3_stepped_22, sX3_stepped_23, sX3_stepped_24, sX3_stepped_25, sX3_stepped_28, sX3_stepped_29, sX3_stepped_31, sX3_stepped_32, sX3_stepped_35, sX3_stepped_38, sX3_stepped_39, sX3_stepped_40, sX3_stepped_42, sX3_stepped_43, sX3_stepped_44, sX3_stepped_45, sX3_stepped_48, ↓reduceIte, if_true, if_false, Option.bind_some, Option.bind_none, Option.toList_some, Option.toList_none, List.cons_append, List.nil_append, Option.elim_some, true_or, or_true, or_false, false_or, true_and, and_true, and_false, false_and, zio1, zio0, zio01, not_true_eq_false, not_false_eq_true, nlt, neq, nlt0, n0lt, neq0, neq1, nm9, m9n, nadd, nadd1, nmul, ncl, zin_t, n0, n1, t1, q, eq_true (ha3.mpr z1)]
theorem kX3_stepped (ho : o = 19 ∨ o = 24) (hT : CTn g H S kd bd gv rs dr) {D : Nat → Nat → Nat} {d s : Nat} (hs : s < 128) (hd : d ≤ 50) (hD : ∀ h, h < H → g (o + 1) (7 * d + h) = nI (D d h) ∧ D d h ≤ 2000000) : go L xs 27 69 0 [some (.ref o), some (.int (nI s)), some (.int (nI d)), none, none] [] (hp g t) = some (some (.int (nI (wst (sp S (D d)) s (H - 1) 0 s))), hp g t) := by
  have h7 := hT.2.1
  have h := kX3_st_loop (L := L) (xs := xs) (t := t) ho hT hs hd hD (H - 1) 0 s (by omega)
  rw [cst_eq hs (H - 1) 0 s (by omega) (Nat.or_self s), nI_0] at h
  simp only [sX3_stepped_0, sX3_stepped_1, sX3_stepped_2, sX3_stepped_3]
  exact h
/-- a row of nine: the guests, none, the visitor -/
def xr (G : Nat) (row : Nat → Int32) (om : Int32) : Nat → Int32 := fun k => if k < G then row k else if k = 8 then om else -9
def xf (G : Nat) (f : Nat → Nat) (v : Nat) : Nat → Nat := fun k => if k < G then f k else v
theorem guw_lo {h n : Nat} : ∀ k, k ≤ G → guw (xf G w omw) (xf G f omf) (xf G l 49) (xr G row om) h n k = guw w f l row h n k
  | 0, _ => rfl
  | k + 1, hk => by
    have ih := guw_lo (h := h) (n := n) k (by omega)
    show guw (xf G w omw) (xf G f omf) (xf G l 49) (xr G row om) h n k + (if xr G row om k = nI h ∧ xf G f omf k ≤ n ∧ n ≤ xf G l 49 k then xf G w omw k else 0) = guw w f l row h n k + (if row k = nI h ∧ f k ≤ n ∧ n ≤ l k then w k else 0)
    rw [ih]
    unfold xr xf
    have q : k < G := by omega
    simp only [q, if_true]
theorem guw_mid {h n : Nat} (hh : h < 7) : ∀ e k, k + e ≤ 8 → G ≤ k → guw (xf G w omw) (xf G f omf) (xf G l 49) (xr G row om) h n (k + e) = guw (xf G w omw) (xf G f omf) (xf G l 49) (xr G row om) h n k
  | 0, _, _, _ => rfl
  | e + 1, k, hk, hG => by
    have ih := guw_mid (h := h) (n := n) hh e k (by omega) hG
    show guw (xf G w omw) (xf G f omf) (xf G l 49) (xr G row om) h n (k + e) + (if xr G row om (k + e) = nI h ∧ xf G f omf (k + e) ≤ n ∧ n ≤ xf G l 49 (k + e) then xf G w omw (k + e) else 0) = _
    have q : ¬ xr G row om (k + e) = nI h := by
      unfold xr
      rw [if_neg (by omega), if_neg (by omega)]
      intro z
      have := m9n (a := h) (by omega)
      rw [z] at this
      simp at this
    rw [if_neg (fun z => q z.1), ih]
    rfl
theorem W9_eq (hG : G ≤ 8) {n h : Nat} (hh : h < 7) (hn : n < 50) : W9 (xf G w omw) (xf G f omf) (xf G l 49) (xr G row om) n h = wgt G w f l row om omw omf h n := by
  have e1 := guw_lo (G := G) (w := w) (f := f) (l := l) (row := row) (om := om) (omw := omw) (omf := omf) (h := h) (n := n) G (Nat.le_refl _)
  have e2 := guw_mid (G := G) (w := w) (f := f) (l := l) (row := row) (om := om) (omw := omw) (omf := omf) (h := h) (n := n) hh (8 - G) G (by omega) (Nat.le_refl _)
  rw [show G + (8 - G) = 8 by omega] at e2
  show guw (xf G w omw) (xf G f omf) (xf G l 49) (xr G row om) h n 8 + (if xr G row om 8 = nI h ∧ xf G f omf 8 ≤ n ∧ n ≤ xf G l 49 8 then xf G w omw 8 else 0) = _
  rw [e2, e1]
  unfold wgt
  have q : ¬ 8 < G := by omega
  simp only [xr, xf, q, if_false, if_true]
  by_cases z : om = nI h ∧ omf ≤ n
  · rw [if_pos z, if_pos ⟨z.1, z.2, by omega⟩]
  · rw [if_neg z, if_neg (fun y => z ⟨y.1, y.2.1⟩)]
theorem dp_W : dp H G kd gv rs w f l row om omw omf pl = dpW H kd gv rs pl (fun n h => wgt G w f l row om omw omf h n) := by
  funext n
  induction n with
  | zero => rfl
  | succ n ih =>
    show dst H (pr G w f l row om omw omf kd gv pl n) (upv G w f l row om omw omf kd rs pl n) (dp H G kd gv rs w f l row om omw omf pl n) = _
    rw [ih]
    rfl
theorem dpW_congr {W W' : Nat → Nat → Nat} : ∀ m, (∀ n, n < m → ∀ h, h < H → W n h = W' n h) → ∀ h, h < H → dpW H kd gv rs pl W m h = dpW H kd gv rs pl W' m h
  | 0, _, _, _ => rfl
  | m + 1, hw, h, hh => by
    have ih := dpW_congr m (fun n hn => hw n (by omega)) h hh
    show dst H _ _ _ h = dst H _ _ _ h
    unfold dst
    rw [ih, prW_congr (W' := W' m) (hw m (by omega) h hh), upW_congr (W' := W' m) (hw m (by omega) h hh)]
    have e1 : (if 0 < h then prW kd gv pl (W m) (h - 1) / 4 else 0) = (if 0 < h then prW kd gv pl (W' m) (h - 1) / 4 else 0) := by
      split
      · rw [prW_congr (hw m (by omega) (h - 1) (by omega))]
      · rfl
    have e2 : (if h + 1 < H then prW kd gv pl (W m) (h + 1) / 4 else 0) = (if h + 1 < H then prW kd gv pl (W' m) (h + 1) / 4 else 0) := by
      split
      · rename_i z; rw [prW_congr (hw m (by omega) (h + 1) z)]
      · rfl
    rw [e1, e2]
/-- the depths of the class are the reference's -/
theorem dpW_dp (hG : G ≤ 8) (h7 : H ≤ 7) {m h : Nat} (hm : m ≤ 50) (hh : h < H) : dpW H kd gv rs pl (W9 (xf G w omw) (xf G f omf) (xf G l 49) (xr G row om)) m h = dp H G kd gv rs w f l row om omw omf pl m h := by
  rw [dp_W]
  exact dpW_congr m (fun n hn h hh => W9_eq hG (by omega) (by omega)) h hh
theorem plk_congr {D D' : Nat → Nat} (h : ∀ q, q < H → D q = D' q) : plk H S D = plk H S D' := by
  unfold plk
  refine cnt_congr _ (fun k hk => ?_)
  rw [h k (by omega), h (k + 1) (by omega)]
theorem smn_congr {f f' : Nat → Nat} : ∀ n, (∀ k, k < n → f k = f' k) → smn f n = smn f' n
  | 0, _ => rfl
  | n + 1, h => by
    show smn f n + f n = smn f' n + f' n
    rw [smn_congr n (fun k hk => h k (by omega)), h n (by omega)]
theorem aplW_apl (hG : G ≤ 8) (h7 : H ≤ 7) : aplW H S kd gv rs pl (W9 (xf G w omw) (xf G f omf) (xf G l 49) (xr G row om)) 50 = apl H S G kd gv rs w f l row om omw omf pl := smn_congr 50 (fun k hk => plk_congr (fun q hq => dpW_dp hG h7 (by omega) hq))
end C5
