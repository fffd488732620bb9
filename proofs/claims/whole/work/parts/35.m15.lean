/-! The reference: rents. -/
section M15
variable {L : Nat} {xs : Nat → Int32} {g g' : Nat → Nat → Int32} {t : Nat → Int64}
variable {H S G R : Nat} {kd bd gv rs dr w f l rh rd rt : Nat → Nat} {row : Nat → Int32}
theorem cnt_congr {P Q : Nat → Prop} [DecidablePred P] [DecidablePred Q] : ∀ n, (∀ k, k < n → (P k ↔ Q k)) → cnt P n = cnt Q n
  | 0, _ => rfl
  | n + 1, h => by
    show cnt P n + (if P n then 1 else 0) = cnt Q n + (if Q n then 1 else 0)
    rw [cnt_congr n (fun k hk => h k (by omega))]
    by_cases q : P n
    · rw [if_pos q, if_pos ((h n (by omega)).mp q)]
    · rw [if_neg q, if_neg (fun z => q ((h n (by omega)).mpr z))]
theorem allb_congr {P Q : Nat → Bool} : ∀ n, (∀ k, k < n → P k = Q k) → allb P n = allb Q n
  | 0, _ => rfl
  | n + 1, h => by
    show (allb P n && P n) = (allb Q n && Q n)
    rw [allb_congr n (fun k hk => h k (by omega)), h n (by omega)]
/-- a row with one place changed -/
def ru (row : Nat → Int32) (k : Nat) (v : Int32) : Nat → Int32 := fun j => if j = k then v else row j
theorem ru_s {k : Nat} {v : Int32} : ru row k v k = v := if_pos rfl
theorem ru_n {k j : Nat} {v : Int32} (h : j ≠ k) : ru row k v j = row j := if_neg h
theorem ru_ru {k : Nat} {v x : Int32} : ru (ru row k v) k x = ru row k x := by
  funext j
  unfold ru
  split <;> rfl
theorem ru_id {k : Nat} : ru row k (row k) = row := by
  funext j
  unfold ru
  split
  · rename_i q; rw [q]
  · rfl
/-- a row of houses -/
def okr (H G : Nat) (row : Nat → Int32) : Prop := ∀ j, j < G → row j = -9 ∨ ∃ h, h < H ∧ row j = nI h
theorem okr.ru (h : okr H G row) {k m : Nat} (hm : m < H) : okr H G (ru row k (nI m)) := by
  intro j hj
  by_cases q : j = k
  · rw [q, ru_s]; exact Or.inr ⟨m, hm, rfl⟩
  · rw [ru_n q]; exact h j hj
theorem MGs.okr (hG : MGs g H G w f l row) : okr H G row := fun j hj => (hG.2.2 j hj).2.2.2.2.2.2
/-- as fr, but for the row of houses -/
def fq (G : Nat) (g g' : Nat → Nat → Int32) : Prop := (∀ a, a < 57 → a ≠ 45 → a ≠ 51 → a ≠ 52 → a ≠ 56 → g' a = g a) ∧ (∀ a, 60 ≤ a → a < 68 → g' a = g a) ∧ (∀ q, q < 8 ∨ (10 < q ∧ q < 21) ∨ 24 < q → g' 45 q = g 45 q) ∧ ∀ j, G ≤ j → g' 56 j = g 56 j
theorem fq.tr {g1 g2 g3 : Nat → Nat → Int32} (h : fq G g1 g2) (h' : fq G g2 g3) : fq G g1 g3 := ⟨fun a x1 x2 x3 x4 x5 => (h'.1 a x1 x2 x3 x4 x5).trans (h.1 a x1 x2 x3 x4 x5), fun a x1 x2 => (h'.2.1 a x1 x2).trans (h.2.1 a x1 x2), fun q hq => (h'.2.2.1 q hq).trans (h.2.2.1 q hq), fun j hj => (h'.2.2.2 j hj).trans (h.2.2.2 j hj)⟩
theorem fr.fq (h : fr g g') : fq G g g' := ⟨fun a x1 x2 x3 x4 _ => h.1 a x1 x2 x3 x4, h.2.1, h.2.2, fun j _ => by rw [h.1 56 (by omega) (by omega) (by omega) (by omega)]⟩
theorem fq.rf : fq G g g := fr.rf.fq
theorem fq_zu {k : Nat} (hk : k < G) (v : Int32) : fq G g (zu g 56 k v) := by
  refine ⟨fun a _ _ _ _ h => ?_, fun a h _ => ?_, fun q _ => ?_, fun j hj => ?_⟩
  · funext q; simp [zu, h]
  · funext q
    have : a ≠ 56 := by omega
    simp [zu, this]
  · simp [zu]
  · have : j ≠ k := by omega
    simp [zu, this]
theorem fq.town (hf : fq G g g') (h : MTn g H S kd bd gv rs dr) : MTn g' H S kd bd gv rs dr := by
  unfold MTn
  rw [hf.2.2.1 1 (by omega), hf.2.2.1 2 (by omega), hf.1 46 (by omega) (by omega) (by omega) (by omega) (by omega), hf.1 47 (by omega) (by omega) (by omega) (by omega) (by omega), hf.1 48 (by omega) (by omega) (by omega) (by omega) (by omega), hf.1 49 (by omega) (by omega) (by omega) (by omega) (by omega), hf.1 50 (by omega) (by omega) (by omega) (by omega) (by omega)]
  exact h
theorem fq.guests {row' : Nat → Int32} (hf : fq G g g') (hG : MGs g H G w f l row) (h56 : ∀ j, j < G → g' 56 j = row' j) (hr : okr H G row') : MGs g' H G w f l row' := by
  obtain ⟨h1, h2, h3⟩ := hG
  refine ⟨(hf.2.2.1 13 (by omega)).trans h1, h2, fun k hk => ?_⟩
  obtain ⟨a1, a2, a3, a4, a5, a6, a7⟩ := h3 k hk
  rw [hf.1 53 (by omega) (by omega) (by omega) (by omega) (by omega), hf.1 54 (by omega) (by omega) (by omega) (by omega) (by omega), hf.1 55 (by omega) (by omega) (by omega) (by omega) (by omega)]
  exact ⟨a1, a2, a3, a4, a5, h56 k hk, hr k hk⟩
theorem MGs.g56 (hG : MGs g H G w f l row) {j : Nat} (hj : j < G) : g 56 j = row j := (hG.2.2 j hj).2.2.2.2.2.1
theorem MGs.ru (hG : MGs g H G w f l row) {k m : Nat} (hk : k < G) (hm : m < H) : MGs (zu g 56 k (nI m)) H G w f l (ru row k (nI m)) := (fq_zu hk _).guests hG (fun j hj => by
    by_cases q : j = k
    · rw [q, ru_s]; simp [zu]
    · rw [ru_n q]; simp [zu, q, hG.g56 hj]) (hG.okr.ru hm)
/-- how deep a guest sleeps who is in house h -/
def sdp (H G : Nat) (kd gv rs w f l : Nat → Nat) (row : Nat → Int32) (k h : Nat) : Nat → Nat := smn (fun n => if f k ≤ n then dq H G kd gv rs w f l row (n + 1) h else 0)
theorem sdp_le (hT : MTn g H S kd bd gv rs dr) (hG : MGs g H G w f l row) {k h n : Nat} (hh : h < H) (hn : n ≤ 50) : sdp H G kd gv rs w f l row k h n ≤ 50000000 := by
  have hO : MOs (zu (zu (zu (zu g 45 21 (-9)) 45 22 0) 45 23 0) 45 24 0) (-9) 0 0 0 := ⟨by simp [zu], by simp [zu, nI_0], by simp [zu, nI_0], by simp [zu, nI_0], by omega, by omega, by omega, Or.inl rfl⟩
  have hf : fr g (zu (zu (zu (zu g 45 21 (-9)) 45 22 0) 45 23 0) 45 24 0) := (((fr.rf.sc (by omega) _).sc (by omega) _).sc (by omega) _).sc (by omega) _
  have h1 : sdp H G kd gv rs w f l row k h n ≤ n * 1000000 := smn_le n (fun j hj => by
    split
    · exact dq_le (hf.town hT) (hf.guests hG) hO (by omega) hh
    · omega)
  omega
theorem kX9_sd_loop {k h : Nat} (hk : k < G) (hh : h < H) (hr : row k = nI h) : ∀ e n (g : Nat → Nat → Int32), n + e = l k + 1 → MTn g H S kd bd gv rs dr → MGs g H G w f l row → MOs g (-9) 0 0 0 → (∀ h, h < H → g 57 h = nI (dq H G kd gv rs w f l row n h)) → ∃ g', fr g g' ∧ go L xs 147 69 8 [some (.ref 45), some (.int (nI k)), some (.int (nI (sdp H G kd gv rs w f l row k h n))), some (.int (nI n))] [] (hp g t) = some (some (.int (nI (sdp H G kd gv rs w f l row k h (l k + 1)))), hp g' t)
  | 0, n, g, hn, hT, hG, hO, hD => by
    have hn : n = l k + 1 := by omega
    subst hn
    obtain ⟨h1, h2, h3⟩ := id hG
    obtain ⟨-, e1, e2, b1, b2, e3, -⟩ := h3 k hk
    refine ⟨g, fr.rf, ?_⟩
    have q : l k < l k + 1 := by omega
    simp (disch := omega) only [sX9_sleepsDeep_8, sX9_sleepsDeep_9, sX9_sleepsDeep_10, sX9_sleepsDeep_13, sX9_sleepsDeep_14, sX9_sleepsDeep_15, sX9_sleepsDeep_57, sX9_sleepsDeep_58, ↓reduceIte, if_true, if_false, Option.bind_some, Option.bind_none, Option.toList_some, Option.toList_none, List.cons_append, List.nil_append, Option.elim_some, true_or, or_true, or_false, false_or, true_and, and_true, and_false, false_and, zio1, zio0, zio01, not_true_eq_false, not_false_eq_true, nlt, neq, nlt0, n0lt, neq0, neq1, nm9, m9n, nadd, nadd1, nmul, ncl, zin_t, e2, q]
  | e + 1, n, g, hn, hT, hG, hO, hD => by
    obtain ⟨h1, h2, h3⟩ := id hG
    obtain ⟨-, e1, e2, b1, b2, e3, -⟩ := h3 k hk
    have h7 := hT.2.1
    obtain ⟨g1, f1, o1, d1, x1⟩ := kX9_night (L := L) (xs := xs) (t := t) (n := n) (by omega) hT hG hO hD
    obtain ⟨g2, f2, x2⟩ := kX9_sd_loop hk hh hr e (n + 1) g1 (by omega) (f1.town hT) (f1.guests hG) o1 d1
    refine ⟨g2, f1.tr f2, ?_⟩
    have q : ¬ l k < n := by omega
    obtain ⟨-, y1, y2, -, -, y3, -⟩ := (f1.guests hG).2.2 k hk
    have d2 := d1 h hh
    rw [hr] at y3
    rw [sX9_sleepsDeep_8]
    rw [show sdp H G kd gv rs w f l row k h (n + 1) = sdp H G kd gv rs w f l row k h n + (if f k ≤ n then dq H G kd gv rs w f l row (n + 1) h else 0) from rfl] at x2
    by_cases q2 : n < f k
    · rw [if_neg (show ¬ f k ≤ n by omega)] at x2
      simp (disch := omega) only [sX9_sleepsDeep_9, sX9_sleepsDeep_10, sX9_sleepsDeep_13, sX9_sleepsDeep_14, sX9_sleepsDeep_15, sX9_sleepsDeep_18, sX9_sleepsDeep_19, sX9_sleepsDeep_20, sX9_sleepsDeep_23, sX9_sleepsDeep_24, sX9_sleepsDeep_25, sX9_sleepsDeep_26, sX9_sleepsDeep_29, sX9_sleepsDeep_30, sX9_sleepsDeep_31, sX9_sleepsDeep_34, sX9_sleepsDeep_35, sX9_sleepsDeep_38, sX9_sleepsDeep_39, sX9_sleepsDeep_42, sX9_sleepsDeep_43, sX9_sleepsDeep_44, sX9_sleepsDeep_45, sX9_sleepsDeep_48, sX9_sleepsDeep_49, sX9_sleepsDeep_50, sX9_sleepsDeep_51, sX9_sleepsDeep_54, ↓reduceIte, if_true, if_false, Option.bind_some, Option.bind_none, Option.toList_some, Option.toList_none, List.cons_append, List.nil_append, Option.elim_some, true_or, or_true, or_false, false_or, true_and, and_true, and_false, false_and, zio1, zio0, zio01, not_true_eq_false, not_false_eq_true, nlt, neq, nlt0, n0lt, neq0, neq1, nm9, m9n, nadd, nadd1, nmul, ncl, zin_t, e2, q, x1, y1, q2, nadd0]
      exact x2
    · rw [if_pos (show f k ≤ n by omega)] at x2
      simp (disch := omega) only [sX9_sleepsDeep_9, sX9_sleepsDeep_10, sX9_sleepsDeep_13, sX9_sleepsDeep_14, sX9_sleepsDeep_15, sX9_sleepsDeep_18, sX9_sleepsDeep_19, sX9_sleepsDeep_20, sX9_sleepsDeep_23, sX9_sleepsDeep_24, sX9_sleepsDeep_25, sX9_sleepsDeep_26, sX9_sleepsDeep_29, sX9_sleepsDeep_30, sX9_sleepsDeep_31, sX9_sleepsDeep_34, sX9_sleepsDeep_35, sX9_sleepsDeep_38, sX9_sleepsDeep_39, sX9_sleepsDeep_42, sX9_sleepsDeep_43, sX9_sleepsDeep_44, sX9_sleepsDeep_45, sX9_sleepsDeep_48, sX9_sleepsDeep_49, sX9_sleepsDeep_50, sX9_sleepsDeep_51, sX9_sleepsDeep_54, ↓reduceIte, if_true, if_false, Option.bind_some, Option.bind_none, Option.toList_some, Option.toList_none, List.cons_append, List.nil_append, Option.elim_some, true_or, or_true, or_false, false_or, true_and, and_true, and_false, false_and, zio1, zio0, zio01, not_true_eq_false, not_false_eq_true, nlt, neq, nlt0, n0lt, neq0, neq1, nm9, m9n, nadd, nadd1, nmul, ncl, zin_t, e2, q, x1, y1, q2, y3, d2]
      exact x2
theorem kX9_sleepsDeep (hT : MTn g H S kd bd gv rs dr) (hG : MGs g H G w f l row) {k h : Nat} (hk : k < G) (hh : h < H) (hr : row k = nI h) : ∃ g', fr g g' ∧ go L xs 147 69 0 [some (.ref 45), some (.int (nI k)), none, none] [] (hp g t) = some (some (.int (nI (sdp H G kd gv rs w f l row k h (l k + 1)))), hp g' t) := by
  have h7 := hT.2.1
  obtain ⟨g1, f1, o1, d1, x1⟩ := kX9_beginPlain (L := L) (xs := xs) (t := t) (g := g)
  obtain ⟨g2, f2, x2⟩ := kX9_sd_loop (L := L) (xs := xs) (t := t) hk hh hr (l k + 1) 0 g1 (by omega) (f1.town hT) (f1.guests hG) o1 (fun h hh => by rw [d1 h (by omega)]; exact nI_0.symm)
  refine ⟨g2, f1.tr f2, ?_⟩
  rw [show sdp H G kd gv rs w f l row k h 0 = 0 from rfl, nI_0] at x2
  simp only [sX9_sleepsDeep_0, sX9_sleepsDeep_1, sX9_sleepsDeep_4, sX9_sleepsDeep_5, sX9_sleepsDeep_6, sX9_sleepsDeep_7, ↓reduceIte, if_true, if_false, Option.bind_some, Option.bind_none, Option.toList_some, Option.toList_none, List.cons_append, List.nil_append, Option.elim_some, true_or, or_true, or_false, false_or, true_and, and_true, and_false, false_and, zio1, zio0, zio01, not_true_eq_false, not_false_eq_true, x1]
  exact x2
/-- the best house, and how deep one sleeps there -/
def mvf (ok : Nat → Bool) (v : Nat → Nat) (was : Nat) : Nat → Nat → Nat × Nat → Nat × Nat
  | 0, _, b => b
  | e + 1, h, b => mvf ok v was e (h + 1) (if h ≠ was ∧ ok h = true ∧ v h < b.2 then (h, v h) else b)
abbrev mvv (H G : Nat) (kd gv rs w f l : Nat → Nat) (row : Nat → Int32) (k h : Nat) : Nat := sdp H G kd gv rs w f l (ru row k (nI h)) k h (l k + 1)
/-- where a guest moves to -/
def mvb (H G : Nat) (kd bd gv rs w f l : Nat → Nat) (row : Nat → Int32) (k was : Nat) : Nat := (mvf (hbd G bd f l row k) (mvv H G kd gv rs w f l row k) was H 0 (was, mvv H G kd gv rs w f l row k was)).1
theorem hbd_ru {k h : Nat} {v : Int32} (hG8 : G ≤ 8) (hk : k < G) : hbd G bd f l (ru row k v) k h = hbd G bd f l row k h := by
  refine allb_congr _ (fun d _ => ?_)
  unfold hbp
  rw [show slp G f l (ru row k v) (nI k) h (f k + d) = slp G f l row (nI k) h (f k + d) from cnt_congr G (fun j hj => by
    by_cases q : j = k
    · subst q; simp
    · rw [ru_n q])]
theorem mvf_lt {ok : Nat → Bool} {v : Nat → Nat} {was : Nat} : ∀ e h b, h + e = H → b.1 < H → (mvf ok v was e h b).1 < H
  | 0, _, b, _, hb => hb
  | e + 1, h, b, hh, hb => by
    refine mvf_lt e (h + 1) _ (by omega) ?_
    split
    · show h < H; omega
    · exact hb
theorem kX9_mv_loop {k was : Nat} (hk : k < G) (hw : was < H) : ∀ e h (g : Nat → Nat → Int32) (r : Nat → Int32) (b : Nat × Nat) (x6 : Option Value), h + e = H → b.1 < H → b.2 ≤ 50000000 → MTn g H S kd bd gv rs dr → MGs g H G w f l r → (∀ v, ru r k v = ru row k v) → ∃ g' r', fq G g g' ∧ MGs g' H G w f l r' ∧ (∀ v, ru r' k v = ru row k v) ∧ ∃ x4 x6', go L xs 148 69 19 [some (.ref 45), some (.int (nI k)), some (.int (nI was)), some (.int (nI b.1)), some (.int (nI b.2)), some (.int (nI h)), x6] [] (hp g t) = go L xs 148 69 79 [some (.ref 45), some (.int (nI k)), some (.int (nI was)), some (.int (nI (mvf (hbd G bd f l row k) (mvv H G kd gv rs w f l row k) was e h b).1)), x4, some (.int (nI H)), x6'] [] (hp g' t)
  | 0, h, g, r, b, x6, hh, hb, hb2, hT, hG, hr => by
    have hh : h = H := by omega
    subst hh
    have t1 := hT.1
    have t2 := hT.2.1
    refine ⟨g, r, fq.rf, hG, hr, some (.int (nI b.2)), x6, ?_⟩
    simp (disch := omega) only [sX9_moves_19, sX9_moves_21, sX9_moves_22, sX9_moves_25, ↓reduceIte, if_true, if_false, Option.bind_some, Option.bind_none, Option.toList_some, Option.toList_none, List.cons_append, List.nil_append, Option.elim_some, true_or, or_true, or_false, false_or, true_and, and_true, and_false, false_and, zio1, zio0, zio01, not_true_eq_false, not_false_eq_true, nlt, neq, nlt0, n0lt, neq0, neq1, nm9, m9n, nadd, nadd1, nmul, ncl, zin_t, t1, Nat.lt_irrefl, mvf]
  | e + 1, h, g, r, b, x6, hh, hb, hb2, hT, hG, hr => by
    have t1 := hT.1
    have t2 := hT.2.1
    have g8 := hG.2.1
    have q : h < H := by omega
    unfold mvf
    by_cases q1 : h = was
    · rw [if_neg (fun z => z.1 q1)]
      obtain ⟨g', r', a1, a2, a3, x4, x6', a4⟩ := kX9_mv_loop hk hw e (h + 1) g r b x6 (by omega) hb hb2 hT hG hr
      refine ⟨g', r', a1, a2, a3, x4, x6', ?_⟩
      rw [← a4, sX9_moves_19]
      simp (disch := omega) only [sX9_moves_21, sX9_moves_22, sX9_moves_25, sX9_moves_28, sX9_moves_30, sX9_moves_31, sX9_moves_34, sX9_moves_35, sX9_moves_36, sX9_moves_38, sX9_moves_41, sX9_moves_44, sX9_moves_45, sX9_moves_48, sX9_moves_49, sX9_moves_51, sX9_moves_52, sX9_moves_53, sX9_moves_54, sX9_moves_57, sX9_moves_59, sX9_moves_61, sX9_moves_63, sX9_moves_66, sX9_moves_68, sX9_moves_69, sX9_moves_71, sX9_moves_73, sX9_moves_76, ↓reduceIte, if_true, if_false, Option.bind_some, Option.bind_none, Option.toList_some, Option.toList_none, List.cons_append, List.nil_append, Option.elim_some, true_or, or_true, or_false, false_or, true_and, and_true, and_false, false_and, zio1, zio0, zio01, not_true_eq_false, not_false_eq_true, nlt, neq, nlt0, n0lt, neq0, neq1, nm9, m9n, nadd, nadd1, nmul, ncl, zin_t, t1, q, q1, hw]
    · have hbq := kX9_hasBed (L := L) (xs := xs) (t := t) hT hG hk q
      have ehb : hbd G bd f l r k h = hbd G bd f l row k h := by
        rw [← hbd_ru (v := 0) g8 hk, hr 0, hbd_ru g8 hk]
      rw [ehb] at hbq
      by_cases q2 : hbd G bd f l row k h = true
      · rw [if_pos q2] at hbq
        have hG2 := hG.ru hk q
        have hT2 := (fq_zu (g := g) hk (nI h)).town hT
        obtain ⟨g1, f1, y1⟩ := kX9_sleepsDeep (L := L) (xs := xs) (t := t) hT2 hG2 hk q ru_s
        have hle := sdp_le (k := k) (n := l k + 1) hT2 hG2 q (by have := (hG.2.2 k hk).2.2.2.2.1; omega)
        rw [hr] at y1 hle
        have F := (fq_zu (g := g) hk (nI h)).tr f1.fq
        have hG3 := f1.guests hG2
        by_cases q3 : mvv H G kd gv rs w f l row k h < b.2
        · rw [if_pos ⟨q1, q2, q3⟩]
          obtain ⟨g', r', a1, a2, a3, x4, x6', a4⟩ := kX9_mv_loop hk hw e (h + 1) g1 (ru r k (nI h)) (h, mvv H G kd gv rs w f l row k h) (some (.int (nI (mvv H G kd gv rs w f l row k h)))) (by omega) q hle (F.town hT) hG3 (fun v => by rw [ru_ru, hr])
          refine ⟨g', r', F.tr a1, a2, a3, x4, x6', ?_⟩
          rw [← a4, sX9_moves_19]
          simp (disch := omega) only [sX9_moves_21, sX9_moves_22, sX9_moves_25, sX9_moves_28, sX9_moves_30, sX9_moves_31, sX9_moves_34, sX9_moves_35, sX9_moves_36, sX9_moves_38, sX9_moves_41, sX9_moves_44, sX9_moves_45, sX9_moves_48, sX9_moves_49, sX9_moves_51, sX9_moves_52, sX9_moves_53, sX9_moves_54, sX9_moves_57, sX9_moves_59, sX9_moves_61, sX9_moves_63, sX9_moves_66, sX9_moves_68, sX9_moves_69, sX9_moves_71, sX9_moves_73, sX9_moves_76, ↓reduceIte, if_true, if_false, Option.bind_some, Option.bind_none, Option.toList_some, Option.toList_none, List.cons_append, List.nil_append, Option.elim_some, true_or, or_true, or_false, false_or, true_and, and_true, and_false, false_and, zio1, zio0, zio01, not_true_eq_false, not_false_eq_true, nlt, neq, nlt0, n0lt, neq0, neq1, nm9, m9n, nadd, nadd1, nmul, ncl, zin_t, t1, q, q1, hbq, y1, q3]
        · rw [if_neg (fun z => q3 z.2.2)]
          obtain ⟨g', r', a1, a2, a3, x4, x6', a4⟩ := kX9_mv_loop hk hw e (h + 1) g1 (ru r k (nI h)) b (some (.int (nI (mvv H G kd gv rs w f l row k h)))) (by omega) hb hb2 (F.town hT) hG3 (fun v => by rw [ru_ru, hr])
          refine ⟨g', r', F.tr a1, a2, a3, x4, x6', ?_⟩
          rw [← a4, sX9_moves_19]
          simp (disch := omega) only [sX9_moves_21, sX9_moves_22, sX9_moves_25, sX9_moves_28, sX9_moves_30, sX9_moves_31, sX9_moves_34, sX9_moves_35, sX9_moves_36, sX9_moves_38, sX9_moves_41, sX9_moves_44, sX9_moves_45, sX9_moves_48, sX9_moves_49, sX9_moves_51, sX9_moves_52, sX9_moves_53, sX9_moves_54, sX9_moves_57, sX9_moves_59, sX9_moves_61, sX9_moves_63, sX9_moves_66, sX9_moves_68, sX9_moves_69, sX9_moves_71, sX9_moves_73, sX9_moves_76, ↓reduceIte, if_true, if_false, Option.bind_some, Option.bind_none, Option.toList_some, Option.toList_none, List.cons_append, List.nil_append, Option.elim_some, true_or, or_true, or_false, false_or, true_and, and_true, and_false, false_and, zio1, zio0, zio01, not_true_eq_false, not_false_eq_true, nlt, neq, nlt0, n0lt, neq0, neq1, nm9, m9n, nadd, nadd1, nmul, ncl, zin_t, t1, q, q1, hbq, y1, q3]
      · rw [if_neg q2] at hbq
        rw [if_neg (fun z => q2 z.2.1)]
        obtain ⟨g', r', a1, a2, a3, x4, x6', a4⟩ := kX9_mv_loop hk hw e (h + 1) g r b x6 (by omega) hb hb2 hT hG hr
        refine ⟨g', r', a1, a2, a3, x4, x6', ?_⟩
        rw [← a4, sX9_moves_19]
        simp (disch := omega) only [sX9_moves_21, sX9_moves_22, sX9_moves_25, sX9_moves_28, sX9_moves_30, sX9_moves_31, sX9_moves_34, sX9_moves_35, sX9_moves_36, sX9_moves_38, sX9_moves_41, sX9_moves_44, sX9_moves_45, sX9_moves_48, sX9_moves_49, sX9_moves_51, sX9_moves_52, sX9_moves_53, sX9_moves_54, sX9_moves_57, sX9_moves_59, sX9_moves_61, sX9_moves_63, sX9_moves_66, sX9_moves_68, sX9_moves_69, sX9_moves_71, sX9_moves_73, sX9_moves_76, ↓reduceIte, if_true, if_false, Option.bind_some, Option.bind_none, Option.toList_some, Option.toList_none, List.cons_append, List.nil_append, Option.elim_some, true_or, or_true, or_false, false_or, true_and, and_true, and_false, false_and, zio1, zio0, zio01, not_true_eq_false, not_false_eq_true, nlt, neq, nlt0, n0lt, neq0, neq1, nm9, m9n, nadd, nadd1, nmul, ncl, zin_t, t1, q, q1, hbq]
theorem mvb_lt {k was : Nat} (hw : was < H) : mvb H G kd bd gv rs w f l row k was < H := mvf_lt H 0 _ (by omega) hw
theorem kX9_moves (hT : MTn g H S kd bd gv rs dr) (hG : MGs g H G w f l row) {k was : Nat} (hk : k < G) (hw : was < H) (hr : row k = nI was) : ∃ g', fq G g g' ∧ MGs g' H G w f l (ru row k (nI (mvb H G kd bd gv rs w f l row k was))) ∧ go L xs 148 69 0 [some (.ref 45), some (.int (nI k)), none, none, none, none, none] [] (hp g t) = some (some (.int (if mvb H G kd bd gv rs w f l row k was = was then 0 else 1)), hp g' t) := by
  obtain ⟨g1, f1, y1⟩ := kX9_sleepsDeep (L := L) (xs := xs) (t := t) hT hG hk hw hr
  have hle := sdp_le (k := k) (n := l k + 1) hT hG hw (by have := (hG.2.2 k hk).2.2.2.2.1; omega)
  have e1 : sdp H G kd gv rs w f l row k was (l k + 1) = mvv H G kd gv rs w f l row k was := by
    unfold mvv
    rw [← hr, ru_id]
  rw [e1] at y1 hle
  obtain ⟨g2, r', a1, a2, a3, x4, x6', a4⟩ := kX9_mv_loop (L := L) (xs := xs) (t := t) (S := S) (dr := dr) (row := row) hk hw H 0 g1 row (was, mvv H G kd gv rs w f l row k was) none (by omega) hw hle (f1.town hT) (f1.guests hG) (fun v => rfl)
  have hlt := mvb_lt (H := H) (G := G) (kd := kd) (bd := bd) (gv := gv) (rs := rs) (w := w) (f := f) (l := l) (row := row) (k := k) hw
  have h7 := hT.2.1
  have g8 := hG.2.1
  have hG3 := a2.ru hk hlt
  rw [a3] at hG3
  have e3 := hG.g56 hk
  rw [hr] at e3
  refine ⟨_, (f1.fq.tr a1).tr (fq_zu hk _), hG3, ?_⟩
  rw [nI_0, show (mvf (hbd G bd f l row k) (mvv H G kd gv rs w f l row k) was H 0 (was, mvv H G kd gv rs w f l row k was)).1 = mvb H G kd bd gv rs w f l row k was from rfl] at a4
  simp (disch := omega) only [sX9_moves_0, sX9_moves_1, sX9_moves_4, sX9_moves_5, sX9_moves_6, sX9_moves_7, sX9_moves_8, sX9_moves_9, sX9_moves_10, sX9_moves_11, sX9_moves_14, sX9_moves_16, sX9_moves_17, ↓reduceIte, if_true, if_false, Option.bind_some, Option.bind_none, Option.toList_some, Option.toList_none, List.cons_append, List.nil_append, Option.elim_some, true_or, or_true, or_false, false_or, true_and, and_true, and_false, false_and, zio1, zio0, zio01, not_true_eq_false, not_false_eq_true, nlt, neq, nlt0, n0lt, neq0, neq1, nm9, m9n, nadd, nadd1, nmul, ncl, zin_t, e3, y1]
  rw [a4]
  by_cases q : mvb H G kd bd gv rs w f l row k was = was
  · rw [if_pos q]
    simp (disch := omega) only [sX9_moves_79, sX9_moves_80, sX9_moves_83, sX9_moves_84, sX9_moves_85, sX9_moves_86, sX9_moves_87, sX9_moves_88, sX9_moves_91, sX9_moves_92, sX9_moves_95, sX9_moves_96, ↓reduceIte, if_true, if_false, Option.bind_some, Option.bind_none, Option.toList_some, Option.toList_none, List.cons_append, List.nil_append, Option.elim_some, true_or, or_true, or_false, false_or, true_and, and_true, and_false, false_and, zio1, zio0, zio01, not_true_eq_false, not_false_eq_true, nlt, neq, nlt0, n0lt, neq0, neq1, nm9, m9n, nadd, nadd1, nmul, ncl, zin_t, q]
  · rw [if_neg q]
    simp (disch := omega) only [sX9_moves_79, sX9_moves_80, sX9_moves_83, sX9_moves_84, sX9_moves_85, sX9_moves_86, sX9_moves_87, sX9_moves_88, sX9_moves_91, sX9_moves_92, sX9_moves_95, sX9_moves_96, ↓reduceIte, if_true, if_false, Option.bind_some, Option.bind_none, Option.toList_some, Option.toList_none, List.cons_append, List.nil_append, Option.elim_some, true_or, or_true, or_false, false_or, true_and, and_true, and_false, false_and, zio1, zio0, zio01, not_true_eq_false, not_false_eq_true, nlt, neq, nlt0, n0lt, neq0, neq1, nm9, m9n, nadd, nadd1, nmul, ncl, zin_t, q]
end M15
