/-! The class: passNight, pass, and what is asked of nights. -/
section C4
variable {L : Nat} {xs : Nat → Int32} {g g' : Nat → Nat → Int32} {t : Nat → Int64}
variable {H S : Nat} {kd bd gv rs dr w f l : Nat → Nat} {row : Nat → Int32} {o c pl : Nat}
/-- the weights by the row -/
abbrev W9 (w f l : Nat → Nat) (row : Nat → Int32) (n h : Nat) : Nat := guw w f l row h n 9
def NSt (g : Nat → Nat → Int32) (o n H : Nat) (kd gv rs : Nat → Nat) (pl : Nat) (W : Nat → Nat → Nat) : Prop := (∀ m, m ≤ n → ∀ h, h < H → g (o + 1) (7 * m + h) = nI (dpW H kd gv rs pl W m h)) ∧ (0 < n → ∀ q, q < H → g (o + 4) q = chN H (prW kd gv pl (W (n - 1))) (upW kd rs pl (W (n - 1))) (H - 1) q)
theorem W9_le (hG : CG9 g c H w f l row) {n h : Nat} (hh : h < 7) : W9 w f l row n h ≤ 2700 := by
  have := guw9_le (h := h) (n := n) hG 9 (by omega) (fun _ _ => trivial) hh
  omega
theorem dpW_le {W : Nat → Nat → Nat} (hT : CTn g H S kd bd gv rs dr) (hW : ∀ n h, h < 7 → W n h ≤ 2700) : ∀ n h, h < H → dpW H kd gv rs pl W n h ≤ n * 36450
  | 0, h, hh => by simp [dpW]
  | n + 1, h, hh => by
    have h7 := hT.2.1
    have ih := dpW_le hT hW n h hh
    have b1 := prW_le (pl := pl) (W := W n) hT hh (hW n h (by omega))
    have b2 : (if 0 < h then prW kd gv pl (W n) (h - 1) / 4 else 0) ≤ 6075 := by
      split
      · have := prW_le (pl := pl) (W := W n) hT (show h - 1 < H by omega) (hW n _ (by omega)); omega
      · omega
    have b3 : (if h + 1 < H then prW kd gv pl (W n) (h + 1) / 4 else 0) ≤ 6075 := by
      split
      · rename_i q; have := prW_le (pl := pl) (W := W n) hT q (hW n _ (by omega)); omega
      · omega
    show dst H _ _ _ h ≤ _
    unfold dst
    rw [Nat.succ_mul]
    omega
theorem dpW_le2 {W : Nat → Nat → Nat} (hT : CTn g H S kd bd gv rs dr) (hW : ∀ n h, h < 7 → W n h ≤ 2700) {n h : Nat} (hn : n ≤ 50) (hh : h < H) : dpW H kd gv rs pl W n h ≤ 2000000 := by
  have h1 := dpW_le (pl := pl) hT hW n h hh
  have h2 : n * 36450 ≤ 50 * 36450 := Nat.mul_le_mul hn (Nat.le_refl _)
  omega
theorem guw_same {n h : Nat} (hh : h < 7) (hG : CG9 g c H w f l row) {T : Int64} (hT : TNs T 9 f l row) (hb : tb T (n + 1) = false) : ∀ k, k ≤ 9 → guw w f l row h (n + 1) k = guw w f l row h n k
  | 0, _ => rfl
  | k + 1, hk => by
    have ih := guw_same hh hG hT hb k (by omega)
    show guw w f l row h (n + 1) k + (if row k = nI h ∧ f k ≤ n + 1 ∧ n + 1 ≤ l k then w k else 0) = guw w f l row h n k + (if row k = nI h ∧ f k ≤ n ∧ n ≤ l k then w k else 0)
    rw [ih]
    by_cases q : row k = -9
    · have : ¬ row k = nI h := fun z => by
        rw [q] at z
        have := m9n (a := h) (by omega)
        rw [z] at this
        simp at this
      rw [if_neg (fun z => this z.1), if_neg (fun z => this z.1)]
    · obtain ⟨b1, b2⟩ := hT.2 k (by omega) q
      have c1 : ¬ n + 1 = f k := fun z => by rw [← z, hb] at b1; cases b1
      have c2 : ¬ n + 1 = l k + 1 := fun z => by rw [← z, hb] at b2; cases b2
      by_cases z : row k = nI h ∧ f k ≤ n + 1 ∧ n + 1 ≤ l k
      · rw [if_pos z, if_pos ⟨z.1, by omega, by omega⟩]
      · rw [if_neg z, if_neg (fun y => z ⟨y.1, by omega, by omega⟩)]
theorem prW_congr {W W' : Nat → Nat} {h : Nat} (e : W h = W' h) : prW kd gv pl W h = prW kd gv pl W' h := by unfold prW; rw [e]
theorem upW_congr {W W' : Nat → Nat} {h : Nat} (e : W h = W' h) : upW kd rs pl W h = upW kd rs pl W' h := by unfold upW; rw [e]
theorem kX3_passNight (ho : o = 19 ∨ o = 24) (hc : c = 14 ∨ c = 30 ∨ c = 34) (hpl : pl < 128) {n : Nat} (hn : n < 50) (hH : 0 < H) (hT : CTn g H S kd bd gv rs dr) (hG : CG9 g c H w f l row) (hB : TNs (t o) 9 f l row) (hN : NSt g o n H kd gv rs pl (W9 w f l row)) : ∃ g', nf o g g' ∧ NSt g' o (n + 1) H kd gv rs pl (W9 w f l row) ∧ go L xs 20 69 0 [some (.ref o), some (.ref c), some (.int (nI n)), some (.int (nI pl)), none, none, none, none] [] (hp g t) = some (none, hp g' t) := by
  have h7 := hT.2.1
  obtain ⟨n0, n1, n2, n3, n4, n5, n6, n7, n8, n9, n10⟩ := nob ho
  have hW : ∀ n h, h < 7 → W9 w f l row n h ≤ 2700 := fun n h hh => W9_le hG hh
  have key : ∃ g1, nf o g g1 ∧ (∀ q, g1 (o + 1) q = g (o + 1) q) ∧ (∀ q, q < H → g1 (o + 4) q = chN H (prW kd gv pl (W9 w f l row n)) (upW kd rs pl (W9 w f l row n)) (H - 1) q) ∧ go L xs 20 69 0 [some (.ref o), some (.ref c), some (.int (nI n)), some (.int (nI pl)), none, none, none, none] [] (hp g t) = go L xs 20 69 24 [some (.ref o), some (.ref c), some (.int (nI n)), some (.int (nI pl)), none, none, none, none] [] (hp g1 t) := by
    by_cases q : tb (t o) n = true
    · obtain ⟨g1, a1, a2, a3⟩ := kX3_weigh (L := L) (xs := xs) (t := t) ho hc hn hT hG
      have F1 : nf o g g1 := fun a ha => a1 a (by omega)
      obtain ⟨g2, b1, b2, b3⟩ := kX3_press (L := L) (xs := xs) (t := t) (W := W9 w f l row n) ho hpl hH (F1.town ho hT) (fun j hj => ⟨a2 j hj, hW n j (by omega)⟩)
      refine ⟨g2, F1.tr (fun a ha => b1 a (by omega) (by omega)), fun j => by rw [b1 (o + 1) (by omega) (by omega), a1 (o + 1) (by omega)], b2, ?_⟩
      simp (disch := omega) only [sX3_passNight_0, sX3_passNight_1, sX3_passNight_4, sX3_passNight_5, sX3_passNight_6, sX3_passNight_7, sX3_passNight_8, sX3_passNight_9, sX3_passNight_10, sX3_passNight_13, sX3_passNight_14, sX3_passNight_15, sX3_passNight_16, sX3_passNight_19, sX3_passNight_20, sX3_passNight_21, ↓reduceIte, if_true, if_false, Option.bind_some, Option.bind_none, Option.toList_some, Option.toList_none, List.cons_append, List.nil_append, Option.elim_some, true_or, or_true, or_false, false_or, true_and, and_true, and_false, false_and, zio1, zio0, zio01, not_true_eq_false, not_false_eq_true, n0, lceq, eq_true ((tb_test (T := t o) (n := n) (by omega)).mpr q), a3, b3]
    · have q' : tb (t o) n = false := by simpa using q
      cases n with
      | zero => rw [hB.1] at q'; cases q'
      | succ m =>
        have hs : ∀ h, h < 7 → W9 w f l row (m + 1) h = W9 w f l row m h := fun h hh => guw_same hh hG hB q' 9 (by omega)
        refine ⟨g, nf.rf, fun _ => rfl, fun j hj => ?_, ?_⟩
        · rw [hN.2 (by omega) j hj, Nat.add_sub_cancel, chN_eq hj, chN_eq hj, prW_congr (hs j (by omega)), upW_congr (hs j (by omega))]
          have e1 : (if 0 < j then prW kd gv pl (W9 w f l row m) (j - 1) / 4 else 0) = (if 0 < j then prW kd gv pl (W9 w f l row (m + 1)) (j - 1) / 4 else 0) := by
            split
            · rw [prW_congr (hs (j - 1) (by omega))]
            · rfl
          have e2 : (if j + 1 < H then prW kd gv pl (W9 w f l row m) (j + 1) / 4 else 0) = (if j + 1 < H then prW kd gv pl (W9 w f l row (m + 1)) (j + 1) / 4 else 0) := by
            split
            · rw [prW_congr (hs (j + 1) (by omega))]
            · rfl
          rw [e1, e2]
        · simp (disch := omega) only [sX3_passNight_0, sX3_passNight_1, sX3_passNight_4, sX3_passNight_5, sX3_passNight_6, sX3_passNight_7, sX3_passNight_8, sX3_passNight_9, sX3_passNight_10, ↓reduceIte, if_true, if_false, Option.bind_some, Option.bind_none, Option.toList_some, Option.toList_none, List.cons_append, List.nil_append, Option.elim_some, true_or, or_true, or_false, false_or, true_and, and_true, and_false, false_and, zio1, zio0, zio01, not_true_eq_false, not_false_eq_true, n0, lceq, eq_false (fun z => q ((tb_test (T := t o) (n := m + 1) (by omega)).mp z))]
  obtain ⟨g1, F1, k1, k2, k3⟩ := key
  obtain ⟨g2, b1, b2, b3, b4⟩ := kX3_pn_loop (L := L) (xs := xs) (t := t) (n := n) (p := prW kd gv pl (W9 w f l row n)) (up := upW kd rs pl (W9 w f l row n)) (D := dpW H kd gv rs pl (W9 w f l row) n) (x1 := some (.ref c)) (x2 := some (.int (nI n))) (x3 := some (.int (nI pl))) ho hn (fun q hq => ⟨prW_le hT hq (hW n q (by omega)), upW_le hT hq, dpW_le2 hT hW (by omega) hq⟩) H 0 g1 none (by omega) (F1.town ho hT) k2 (fun q hq => by rw [k1]; exact hN.1 n (Nat.le_refl n) q hq) (fun q hq => absurd hq (by omega))
  refine ⟨g2, F1.tr (fun a ha => b1 a (by omega)), ⟨fun m hm h hh => ?_, fun _ q hq => ?_⟩, ?_⟩
  · by_cases z : m = n + 1
    · subst z; exact b2 h hh
    · rw [b3 _ (by omega), k1]
      exact hN.1 m (by omega) h hh
  · rw [b1 (o + 4) (by omega), Nat.add_sub_cancel]
    exact k2 q hq
  · rw [nI_0] at b4
    rw [k3, ← b4]
    simp (disch := omega) only [sX3_passNight_24, sX3_passNight_25, sX3_passNight_27, sX3_passNight_28, sX3_passNight_30, sX3_passNight_32, sX3_passNight_34, sX3_passNight_35, sX3_passNight_37, sX3_passNight_38, ↓reduceIte, if_true, if_false, Option.bind_some, Option.bind_none, Option.toList_some, Option.toList_none, List.cons_append, List.nil_append, Option.elim_some, true_or, or_true, or_false, false_or, true_and, and_true, and_false, false_and, zio1, zio0, zio01, not_true_eq_false, not_false_eq_true, nlt, neq, nlt0, n0lt, neq0, neq1, nm9, m9n, nadd, nadd1, nmul, ncl, zin_t, li7]
theorem kX3_ps_loop (ho : o = 19 ∨ o = 24) (hc : c = 14 ∨ c = 30 ∨ c = 34) (hH : 0 < H) {m : Nat} (hm : m ≤ 50) : ∀ e n (g : Nat → Nat → Int32), n + e = m → CTn g H S kd bd gv rs dr → CG9 g c H w f l row → TNs (t o) 9 f l row → NSt g o n H kd gv rs 0 (W9 w f l row) → ∃ g', nf o g g' ∧ NSt g' o m H kd gv rs 0 (W9 w f l row) ∧ go L xs 17 69 7 [some (.ref o), some (.ref c), some (.int (nI m)), some (.int (nI n))] [] (hp g t) = some (none, hp g' t)
  | 0, n, g, hn, hT, hG, hB, hN => by
    have hn : n = m := by omega
    subst hn
    refine ⟨g, nf.rf, hN, ?_⟩
    simp (disch := omega) only [sX3_pass_7, sX3_pass_8, sX3_pass_9, sX3_pass_25, ↓reduceIte, if_true, if_false, Option.bind_some, Option.bind_none, Option.toList_some, Option.toList_none, List.cons_append, List.nil_append, Option.elim_some, true_or, or_true, or_false, false_or, true_and, and_true, and_false, false_and, zio1, zio0, zio01, not_true_eq_false, not_false_eq_true, nlt, neq, nlt0, n0lt, neq0, neq1, nm9, m9n, nadd, nadd1, nmul, ncl, zin_t, Nat.lt_irrefl]
  | e + 1, n, g, hn, hT, hG, hB, hN => by
    obtain ⟨n0, n1, n2, n3, n4, n5, n6, n7, n8, n9, n10⟩ := nob ho
    have q : n < m := by omega
    obtain ⟨g1, F1, N1, e1⟩ := kX3_passNight (L := L) (xs := xs) (pl := 0) ho hc (by omega) (show n < 50 by omega) hH hT hG hB hN
    obtain ⟨g2, F2, N2, e2⟩ := kX3_ps_loop ho hc hH hm e (n + 1) g1 (by omega) (F1.town ho hT) (F1.g9 ho hc hG) hB N1
    refine ⟨g2, F1.tr F2, N2, ?_⟩
    rw [nI_0] at e1
    rw [← e2, sX3_pass_7]
    simp (disch := omega) only [sX3_pass_8, sX3_pass_9, sX3_pass_12, sX3_pass_13, sX3_pass_14, sX3_pass_15, sX3_pass_16, sX3_pass_19, sX3_pass_22, ↓reduceIte, if_true, if_false, Option.bind_some, Option.bind_none, Option.toList_some, Option.toList_none, List.cons_append, List.nil_append, Option.elim_some, true_or, or_true, or_false, false_or, true_and, and_true, and_false, false_and, zio1, zio0, zio01, not_true_eq_false, not_false_eq_true, nlt, neq, nlt0, n0lt, neq0, neq1, nm9, m9n, nadd, nadd1, nmul, ncl, zin_t, q, n0, e1]
theorem NSt0 {W : Nat → Nat → Nat} (h : ∀ h, h < 7 → g (o + 1) h = 0) (h7 : H ≤ 7) : NSt g o 0 H kd gv rs pl W := ⟨fun m hm q hq => by
  have : m = 0 := by omega
  subst this
  rw [Nat.mul_zero, Nat.zero_add, h q (by omega)]
  exact nI_0.symm, fun z => absurd z (by omega)⟩
theorem kX3_pass (ho : o = 19 ∨ o = 24) (hc : c = 14 ∨ c = 30 ∨ c = 34) (hH : 0 < H) {m : Nat} (hm : m ≤ 50) (hT : CTn g H S kd bd gv rs dr) (hG : CG9 g c H w f l row) : ∃ g' t', nf o g g' ∧ (∀ a, a ≠ o → t' a = t a) ∧ NSt g' o m H kd gv rs 0 (W9 w f l row) ∧ go L xs 17 69 0 [some (.ref o), some (.ref c), some (.int (nI m)), none] [] (hp g t) = some (none, hp g' t') := by
  obtain ⟨n0, n1, n2, n3, n4, n5, n6, n7, n8, n9, n10⟩ := nob ho
  obtain ⟨g1, t1, F1, a1, a2, a3, a4⟩ := kX3_begin (L := L) (xs := xs) (t := t) ho hc hG
  obtain ⟨g2, F2, N2, e2⟩ := kX3_ps_loop (L := L) (xs := xs) (t := t1) ho hc hH hm m 0 g1 (by omega) (F1.town ho hT) (F1.g9 ho hc hG) a2 (NSt0 a3 hT.2.1)
  refine ⟨g2, t1, F1.tr F2, a1, N2, ?_⟩
  rw [nI_0] at e2
  simp (disch := omega) only [sX3_pass_0, sX3_pass_1, sX3_pass_2, sX3_pass_5, sX3_pass_6, ↓reduceIte, if_true, if_false, Option.bind_some, Option.bind_none, Option.toList_some, Option.toList_none, List.cons_append, List.nil_append, Option.elim_some, true_or, or_true, or_false, false_or, true_and, and_true, and_false, false_and, zio1, zio0, zio01, not_true_eq_false, not_false_eq_true, n0, a4]
  exact e2
theorem kX3_depthAt (ho : o = 19 ∨ o = 24) {D : Nat → Nat → Nat} {d h : Nat} (hd : d ≤ 50) (hh : h < 7) (hD : g (o + 1) (7 * d + h) = nI (D d h)) : go L xs 23 69 0 [some (.ref o), some (.int (nI h)), some (.int (nI d))] [] (hp g t) = some (some (.int (nI (D d h))), hp g t) := by
  obtain ⟨n0, n1, n2, n3, n4, n5, n6, n7, n8, n9, n10⟩ := nob ho
  rw [show 7 * d + h = d * 7 + h by omega] at hD
  simp (disch := omega) only [sX3_depthAt_0, sX3_depthAt_1, sX3_depthAt_4, sX3_depthAt_5, sX3_depthAt_7, sX3_depthAt_8, sX3_depthAt_9, sX3_depthAt_10, sX3_depthAt_11, ↓reduceIte, if_true, if_false, Option.bind_some, Option.bind_none, Option.toList_some, Option.toList_none, List.cons_append, List.nil_append, Option.elim_some, true_or, or_true, or_false, false_or, true_and, and_true, and_false, false_and, zio1, zio0, zio01, not_true_eq_false, not_false_eq_true, nlt, neq, nlt0, n0lt, neq0, neq1, nm9, m9n, nadd, nadd1, nmul, ncl, zin_t, n0, n3, n7, li7, hD]
theorem kX3_isUnderAt (ho : o = 19 ∨ o = 24) (hT : CTn g H S kd bd gv rs dr) {D : Nat → Nat → Nat} {d h : Nat} (hd : d ≤ 50) (hh : h < H) (hD : g (o + 1) (7 * d + h) = nI (D d h)) (hb : D d h ≤ 2000000) : go L xs 24 69 0 [some (.ref o), some (.int (nI h)), some (.int (nI d))] [] (hp g t) = some (some (.int (if 50 * dr h ≤ D d h then 1 else 0)), hp g t) := by
  obtain ⟨n0, n1, n2, n3, n4, n5, n6, n7, n8, n9, n10⟩ := nob ho
  have h7 := hT.2.1
  obtain ⟨z1, z2⟩ := hob (h := h) (by omega)
  obtain ⟨-, -, -, -, ⟨r1, r2, r3⟩⟩ := hT.2.2.2.2 h hh
  have e1 := kX3_depthAt (L := L) (xs := xs) (t := t) ho hd (show h < 7 by omega) hD
  by_cases q : D d h < 50 * dr h
  · rw [if_neg (by omega)]
    simp (disch := omega) only [sX3_isUnderAt_0, sX3_isUnderAt_1, sX3_isUnderAt_2, sX3_isUnderAt_3, sX3_isUnderAt_6, sX3_isUnderAt_8, sX3_isUnderAt_9, sX3_isUnderAt_12, sX3_isUnderAt_15, sX3_isUnderAt_16, sX3_isUnderAt_17, sX3_isUnderAt_20, sX3_isUnderAt_21, sX3_isUnderAt_24, sX3_isUnderAt_25, sX3_isUnderAt_28, sX3_isUnderAt_29, ↓reduceIte, if_true, if_false, Option.bind_some, Option.bind_none, Option.toList_some, Option.toList_none, List.cons_append, List.nil_append, Option.elim_some, true_or, or_true, or_false, false_or, true_and, and_true, and_false, false_and, zio1, zio0, zio01, not_true_eq_false, not_false_eq_true, nlt, neq, nlt0, n0lt, neq0, neq1, nm9, m9n, nadd, nadd1, nmul, ncl, zin_t, n0, n1, e1, z1, z2, r1, li50, q]
  · rw [if_pos (by omega)]
    simp (disch := omega) only [sX3_isUnderAt_0, sX3_isUnderAt_1, sX3_isUnderAt_2, sX3_isUnderAt_3, sX3_isUnderAt_6, sX3_isUnderAt_8, sX3_isUnderAt_9, sX3_isUnderAt_12, sX3_isUnderAt_15, sX3_isUnderAt_16, sX3_isUnderAt_17, sX3_isUnderAt_20, sX3_isUnderAt_21, sX3_isUnderAt_24, sX3_isUnderAt_25, sX3_isUnderAt_28, sX3_isUnderAt_29, ↓reduceIte, if_true, if_false, Option.bind_some, Option.bind_none, Option.toList_some, Option.toList_none, List.cons_append, List.nil_append, Option.elim_some, true_or, or_true, or_false, false_or, true_and, and_true, and_false, false_and, zio1, zio0, zio01, not_true_eq_false, not_false_eq_true, nlt, neq, nlt0, n0lt, neq0, neq1, nm9, m9n, nadd, nadd1, nmul, ncl, zin_t, n0, n1, e1, z1, z2, r1, li50, q]
theorem ngt {a b s : Nat} (ha : a < 1073741824) (hb : b < 1073741824) (hs : s < 1000) : (nI s < nI a - nI b) = (b + s < a) := by
  apply propext
  rw [Int32.lt_iff_toInt_lt, pk_sub_toInt ha hb, nI_toInt (by omega)]
  omega
theorem nlg {a b s : Nat} (ha : a < 1073741824) (hb : b < 1073741824) (hs : s < 1000) : (nI a - nI b < -nI s) = (a + s < b) := by
  apply propext
  rw [Int32.lt_iff_toInt_lt, pk_sub_toInt ha hb]
  have : (-nI s).toInt = -(s : Int) := by
    have : ∀ s, s < 1000 → (-nI s).toInt = -(s : Int) := by decide +kernel
    exact this s hs
  rw [this]
  omega
theorem kX3_canStep (ho : o = 19 ∨ o = 24) (hT : CTn g H S kd bd gv rs dr) {D : Nat → Nat → Nat} {d h : Nat} (hd : d ≤ 50) (hh : h + 1 < H) (hD : ∀ h, h < H → g (o + 1) (7 * d + h) = nI (D d h) ∧ D d h ≤ 2000000) : go L xs 25 69 0 [some (.ref o), some (.int (nI h)), some (.int (nI d)), none, none, none] [] (hp g t) = some (some (.int (if sp S (D d) h then 1 else 0)), hp g t) := by
  obtain ⟨n0, n1, n2, n3, n4, n5, n6, n7, n8, n9, n10⟩ := nob ho
  have h7 := hT.2.1
  obtain ⟨d1, b1⟩ := hD h (by omega)
  obtain ⟨d2, b2⟩ := hD (h + 1) hh
  rw [show 7 * d + h = d * 7 + h by omega] at d1
  rw [show 7 * d + (h + 1) = d * 7 + h + 1 by omega] at d2
  have s1 := hT.2.2.1
  have s2 := hT.2.2.2.1
  by_cases q1 : D d (h + 1) + 10 * S < D d h
  · rw [if_neg (by unfold sp; omega)]
    simp (disch := omega) only [sX3_canStep_0, sX3_canStep_1, sX3_canStep_3, sX3_canStep_4, sX3_canStep_5, sX3_canStep_6, sX3_canStep_7, sX3_canStep_8, sX3_canStep_11, sX3_canStep_12, sX3_canStep_13, sX3_canStep_14, sX3_canStep_17, sX3_canStep_18, sX3_canStep_19, sX3_canStep_20, sX3_canStep_21, sX3_canStep_22, sX3_canStep_24, sX3_canStep_26, sX3_canStep_27, sX3_canStep_30, sX3_canStep_33, sX3_canStep_34, sX3_canStep_36, sX3_canStep_38, sX3_canStep_40, sX3_canStep_43, sX3_canStep_45, sX3_canStep_47, sX3_canStep_48, sX3_canStep_51, sX3_canStep_52, sX3_canStep_55, sX3_canStep_56, ↓reduceIte, if_true, if_false, Option.bind_some, Option.bind_none, Option.toList_some, Option.toList_none, List.cons_append, List.nil_append, Option.elim_some, true_or, or_true, or_false, false_or, true_and, and_true, and_false, false_and, zio1, zio0, zio01, not_true_eq_false, not_false_eq_true, nlt, neq, nlt0, n0lt, neq0, neq1, nm9, m9n, nadd, nadd1, nmul, ncl, zin_t, n0, n1, n3, n7, li7, li10, d1, d2, s1, ngt, q1]
  · by_cases q2 : D d h + 10 * S < D d (h + 1)
    · rw [if_neg (by unfold sp; omega)]
      simp (disch := omega) only [sX3_canStep_0, sX3_canStep_1, sX3_canStep_3, sX3_canStep_4, sX3_canStep_5, sX3_canStep_6, sX3_canStep_7, sX3_canStep_8, sX3_canStep_11, sX3_canStep_12, sX3_canStep_13, sX3_canStep_14, sX3_canStep_17, sX3_canStep_18, sX3_canStep_19, sX3_canStep_20, sX3_canStep_21, sX3_canStep_22, sX3_canStep_24, sX3_canStep_26, sX3_canStep_27, sX3_canStep_30, sX3_canStep_33, sX3_canStep_34, sX3_canStep_36, sX3_canStep_38, sX3_canStep_40, sX3_canStep_43, sX3_canStep_45, sX3_canStep_47, sX3_canStep_48, sX3_canStep_51, sX3_canStep_52, sX3_canStep_55, sX3_canStep_56, ↓reduceIte, if_true, if_false, Option.bind_some, Option.bind_none, Option.toList_some, Option.toList_none, List.cons_append, List.nil_append, Option.elim_some, true_or, or_true, or_false, false_or, true_and, and_true, and_false, false_and, zio1, zio0, zio01, not_true_eq_false, not_false_eq_true, nlt, neq, nlt0, n0lt, neq0, neq1, nm9, m9n, nadd, nadd1, nmul, ncl, zin_t, n0, n1, n3, n7, li7, li10, d1, d2, s1, ngt, nlg, q1, q2]
    · rw [if_pos (by unfold sp; omega)]
      simp (disch := omega) only [sX3_canStep_0, sX3_canStep_1, sX3_canStep_3, sX3_canStep_4, sX3_canStep_5, sX3_canStep_6, sX3_canStep_7, sX3_canStep_8, sX3_canStep_11, sX3_canStep_12, sX3_canStep_13, sX3_canStep_14, sX3_canStep_17, sX3_canStep_18, sX3_canStep_19, sX3_canStep_20, sX3_canStep_21, sX3_canStep_22, sX3_canStep_24, sX3_canStep_26, sX3_canStep_27, sX3_canStep_30, sX3_canStep_33, sX3_canStep_34, sX3_canStep_36, sX3_canStep_38, sX3_canStep_40, sX3_canStep_43, sX3_canStep_45, sX3_canStep_47, sX3_canStep_48, sX3_canStep_51, sX3_canStep_52, sX3_canStep_55, sX3_canStep_56, ↓reduceIte, if_true, if_false, Option.bind_some, Option.bind_none, Option.toList_some, Option.toList_none, List.cons_append, List.nil_append, Option.elim_some, true_or, or_true, or_false, false_or, true_and, and_true, and_false, false_and, zio1, zio0, zio01, not_true_eq_false, not_false_eq_true, nlt, neq, nlt0, n0lt, neq0, neq1, nm9, m9n, nadd, nadd1, nmul, ncl, zin_t, n0, n1, n3, n7, li7, li10, d1, d2, s1, ngt, nlg, q1, q2]
theorem kX3_pk_loop (ho : o = 19 ∨ o = 24) (hT : CTn g H S kd bd gv rs dr) {D : Nat → Nat → Nat} {d : Nat} (hd : d ≤ 50) (hD : ∀ h, h < H → g (o + 1) (7 * d + h) = nI (D d h) ∧ D d h ≤ 2000000) : ∀ e k, k + e = H - 1 → go L xs 26 69 4 [some (.ref o), some (.int (nI d)), some (.int (nI (cnt (fun h => ¬ sp S (D d) h) k))), some (.int (nI k))] [] (hp g t) = some (some (.int (nI (plk H S (D d)))), hp g t)
  | 0, k, hk => by
    have hk : k = H - 1 := by omega
    subst hk
    obtain ⟨n0, n1, n2, n3, n4, n5, n6, n7, n8, n9, n10⟩ := nob ho
    have t1 := hT.1
    have h7 := hT.2.1
    have hq : ¬ (H - 1 + 1 < H) := by omega
    simp (disch := omega) only [sX3_planksAt_0, sX3_planksAt_1, sX3_planksAt_2, sX3_planksAt_3, sX3_planksAt_4, sX3_planksAt_5, sX3_planksAt_6, sX3_planksAt_7, sX3_planksAt_8, sX3_planksAt_11, sX3_planksAt_14, sX3_planksAt_17, sX3_planksAt_18, sX3_planksAt_19, sX3_planksAt_20, sX3_planksAt_23, sX3_planksAt_26, sX3_planksAt_29, sX3_planksAt_32, sX3_planksAt_35, sX3_planksAt_36, ↓reduceIte, if_true, if_false, Option.bind_some, Option.bind_none, Option.toList_some, Option.toList_none, List.cons_append, List.nil_append, Option.elim_some, true_or, or_true, or_false, false_or, true_and, and_true, and_false, false_and, zio1, zio0, zio01, not_true_eq_false, not_false_eq_true, nlt, neq, nlt0, n0lt, neq0, neq1, nm9, m9n, nadd, nadd1, nmul, ncl, zin_t, n0, n1, t1, hq]
    rfl
  | e + 1, k, hk => by
    obtain ⟨n0, n1, n2, n3, n4, n5, n6, n7, n8, n9, n10⟩ := nob ho
    have t1 := hT.1
    have h7 := hT.2.1
    have q : k + 1 < H := by omega
    have ih := kX3_pk_loop ho hT hd hD e (k + 1) (by omega)
    have hst := kX3_canStep (L := L) (xs := xs) (t := t) ho hT hd q hD
    rw [show cnt (fun h => ¬ sp S (D d) h) (k + 1) = cnt (fun h => ¬ sp S (D d) h) k + (if ¬ sp S (D d) k then 1 else 0) from rfl] at ih
    rw [sX3_planksAt_4]
    by_cases z : sp S (D d) k
    · rw [if_neg (fun y => y z)] at ih
      rw [if_pos z] at hst
      simp (disch := omega) only [sX3_planksAt_5, sX3_planksAt_6, sX3_planksAt_7, sX3_planksAt_8, sX3_planksAt_11, sX3_planksAt_14, sX3_planksAt_17, sX3_planksAt_18, sX3_planksAt_19, sX3_planksAt_20, sX3_planksAt_23, sX3_planksAt_26, sX3_planksAt_29, sX3_planksAt_32, ↓reduceIte, if_true, if_false, Option.bind_some, Option.bind_none, Option.toList_some, Option.toList_none, List.cons_append, List.nil_append, Option.elim_some, true_or, or_true, or_false, false_or, true_and, and_true, and_false, false_and, zio1, zio0, zio01, not_true_eq_false, not_false_eq_true, nlt, neq, nlt0, n0lt, neq0, neq1, nm9, m9n, nadd, nadd1, nmul, ncl, zin_t, n0, n1, t1, q, hst]
      exact ih
    · rw [if_pos z] at ih
      rw [if_neg z] at hst
      simp (disch := omega) only [sX3_planksAt_5, sX3_planksAt_6, sX3_planksAt_7, sX3_planksAt_8, sX3_planksAt_11, sX3_planksAt_14, sX3_planksAt_17, sX3_planksAt_18, sX3_planksAt_19, sX3_planksAt_20, sX3_planksAt_23, sX3_planksAt_26, sX3_planksAt_29, sX3_planksAt_32, ↓reduceIte, if_true, if_false, Option.bind_some, Option.bind_none, Option.toList_some, Option.toList_none, List.cons_append, List.nil_append, Option.elim_some, true_or, or_true, or_false, false_or, true_and, and_true, and_false, false_and, zio1, zio0, zio01, not_true_eq_false, not_false_eq_true, nlt, neq, nlt0, n0lt, neq0, neq1, nm9, m9n, nadd, nadd1, nmul, ncl, zin_t, n0, n1, t1, q, hst]
      exact ih
theorem kX3_planksAt (ho : o = 19 ∨ o = 24) (hT : CTn g H S kd bd gv rs dr) {D : Nat → Nat → Nat} {d : Nat} (hd : d ≤ 50) (hD : ∀ h, h < H → g (o + 1) (7 * d + h) = nI (D d h) ∧ D d h ≤ 2000000) : go L xs 26 69 0 [some (.ref o), some (.int (nI d)), none, none] [] (hp g t) = some (some (.int (nI (plk H S (D d)))), hp g t) := by
  have h := kX3_pk_loop (L := L) (xs := xs) (t := t) ho hT hd hD (H - 1) 0 (by omega)
  rw [show cnt (fun h => ¬ sp S (D d) h) 0 = 0 from rfl, nI_0] at h
  simp only [sX3_planksAt_0, sX3_planksAt_1, sX3_planksAt_2, sX3_planksAt_3]
  exact h
end C4
