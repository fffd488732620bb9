/-! Both at once: small calls, guests, readings. -/
section R2
variable {L : Nat} {xs : Nat → Int32} {g g' g1 g2 : Nat → Nat → Int32} {t : Nat → Int64}
variable {H S G R : Nat} {kd bd gv rs dr w f l rh rd rt : Nat → Nat} {row : Nat → Int32}
variable {hs : Nat → Bool} {sz ln : Nat → Nat} {ce : Nat → Nat → Int32}
theorem CP.c0 (h : CP g H S G R kd bd gv rs dr w f l rh rd rt row hs sz ln ce) {j : Nat} (hj : j ≠ 8) {v : Int32} : CP (zu g 0 j v) H S G R kd bd gv rs dr w f l rh rd rt row hs sz ln ce := by
  obtain ⟨hT, hG, hR, hS, hK, hL, hE, hv⟩ := h
  have F : ∀ a, a ≠ 0 → zu g 0 j v a = g a := fun a ha => zu_o ha
  have F8 : zu g 0 j v 0 8 = g 0 8 := by
    have : 8 ≠ j := fun z => hj z.symm
    simp only [zuA, if_true, this, if_false]
  exact ⟨hT.t9 (fun a _ _ => F a (by omega)), hG.t9 (fun a _ _ => F a (by omega)), hR.t9 (fun a _ _ => F a (by omega)), hS.tr (fun a _ _ => F a (by omega)), hK.t9 F8 (F 20 (by omega)), hL.t9 (by rw [F 29 (by omega)]) (F 31 (by omega)) (F 32 (by omega)), hE.t9 (F 33 (by omega)) (F 35 (by omega)), hv⟩
theorem MP.m45 (h : MP g H S G R kd bd gv rs dr w f l rh rd rt row hs sz ln ce) (F : ∀ a, 46 ≤ a → g' a = g a) (F1 : g' 45 1 = g 45 1) (F2 : g' 45 2 = g 45 2) (F3 : g' 45 13 = g 45 13) (F4 : g' 45 27 = g 45 27) : MP g' H S G R kd bd gv rs dr w f l rh rd rt row hs sz ln ce := by
  obtain ⟨hT, hG, hR, hM⟩ := h
  unfold MP MTn MGs MRs MSh
  rw [F1, F2, F3, F4, F 46 (by omega), F 47 (by omega), F 48 (by omega), F 49 (by omega), F 50 (by omega), F 53 (by omega), F 54 (by omega), F 55 (by omega), F 56 (by omega), F 62 (by omega), F 63 (by omega), F 64 (by omega), F 65 (by omega), F 66 (by omega), F 67 (by omega)]
  exact ⟨hT, hG, hR, hM⟩
theorem MP.c45 (h : MP g H S G R kd bd gv rs dr w f l rh rd rt row hs sz ln ce) {j : Nat} (hj : j = 0 ∨ j = 35) {v : Int32} : MP (zu g 45 j v) H S G R kd bd gv rs dr w f l rh rd rt row hs sz ln ce := by
  refine h.m45 (fun a ha => zu_o (by omega)) ?_ ?_ ?_ ?_
  · have : 1 ≠ j := by omega
    simp only [zuA, if_true, this, if_false]
  · have : 2 ≠ j := by omega
    simp only [zuA, if_true, this, if_false]
  · have : 13 ≠ j := by omega
    simp only [zuA, if_true, this, if_false]
  · have : 27 ≠ j := by omega
    simp only [zuA, if_true, this, if_false]
/-- a fault in both -/
theorem RLp.ft (h : RLp g H S G R kd bd gv rs dr w f l rh rd rt row hs sz ln ce) (v : Int32) : RLx (zu (zu g 0 10 v) 45 0 v) := by
  obtain ⟨hC, hM, h9, -⟩ := h
  refine RLp.rl (show RLp _ H S G R kd bd gv rs dr w f l rh rd rt row hs sz ln ce from ⟨(hC.c0 (by omega)).tr (fun a ha => zu_o (by omega)), (hM.lo (fun a ha => zu_o (by omega))).c45 (Or.inl rfl), ?_, ?_⟩)
  · simpa [zu] using h9
  · simp [zu]
/-- a trace in both -/
theorem RLp.tc (h : RLp g H S G R kd bd gv rs dr w f l rh rd rt row hs sz ln ce) (v : Int32) : RLx (zu (zu g 0 9 v) 45 35 v) := by
  obtain ⟨hC, hM, -, h10⟩ := h
  refine RLp.rl (show RLp _ H S G R kd bd gv rs dr w f l rh rd rt row hs sz ln ce from ⟨(hC.c0 (by omega)).tr (fun a ha => zu_o (by omega)), (hM.lo (fun a ha => zu_o (by omega))).c45 (Or.inr rfl), ?_, ?_⟩)
  · simp [zu]
  · simpa [zu] using h10
theorem RLp.m0 (h : RLp g H S G R kd bd gv rs dr w f l rh rd rt row hs sz ln ce) {j : Nat} {v : Int32} : MP (zu g 0 j v) H S G R kd bd gv rs dr w f l rh rd rt row hs sz ln ce := h.2.1.lo (fun a ha => zu_o (by omega))
theorem tw_trace (h : RLx g) : TWi L xs 76 164 [some (.ref 0)] [some (.ref 45)] g t := by
  obtain ⟨H, S, G, R, kd, bd, gv, rs, dr, w, f, l, rh, rd, rt, row, hs, sz, ln, ce, h⟩ := h
  refine ⟨g 0 9, g, t, g, t, pX8_trace, ?_, h.rl⟩
  rw [h.2.2.1]
  exact qX9_trace
theorem tw_fault (h : RLx g) : TWi L xs 77 165 [some (.ref 0)] [some (.ref 45)] g t := by
  obtain ⟨H, S, G, R, kd, bd, gv, rs, dr, w, f, l, rh, rd, rt, row, hs, sz, ln, ce, h⟩ := h
  refine ⟨g 0 10, g, t, g, t, pX8_fault, ?_, h.rl⟩
  rw [h.2.2.2]
  exact qX9_fault
theorem tw_many (h : RLx g) {x : Int32} : TWi L xs 78 166 [some (.ref 0), some (.int x)] [some (.ref 45), some (.int x)] g t := by
  obtain ⟨H, S, G, R, kd, bd, gv, rs, dr, w, f, l, rh, rd, rt, row, hs, sz, ln, ce, h⟩ := h
  refine ⟨_, g, t, g, t, pX8_many, ?_, h.rl⟩
  rw [h.1.1.1, h.1.1.2.2.1, h.1.2.1.1, h.1.2.2.1.1, ← h.2.1.1.1, ← h.2.1.1.2.2.1, ← h.2.1.2.1.1, ← h.2.1.2.2.1.1]
  exact qX9_many
theorem tw_ofHouse (h : RLx g) {x y : Int32} : TWi L xs 49 110 [some (.ref 0), some (.int x), some (.int y), none] [some (.ref 45), some (.int x), some (.int y)] g t := by
  obtain ⟨H, S, G, R, kd, bd, gv, rs, dr, w, f, l, rh, rd, rt, row, hs, sz, ln, ce, h⟩ := h
  exact ⟨_, g, t, g, t, pX8_ofHouse h.1.1, qX9_ofHouse h.2.1.1, h.rl⟩
theorem tw_ofGuest (h : RLx g) {x y : Int32} : TWi L xs 51 113 [some (.ref 0), some (.int x), some (.int y)] [some (.ref 45), some (.int x), some (.int y)] g t := by
  obtain ⟨H, S, G, R, kd, bd, gv, rs, dr, w, f, l, rh, rd, rt, row, hs, sz, ln, ce, h⟩ := h
  exact ⟨_, g, t, g, t, pX8_ofGuest h.1.2.1, qX9_ofGuest h.2.1.2.1, h.rl⟩
theorem tw_tell (h : RLx g) {x : Int32} : TWi L xs 73 161 [some (.ref 0), some (.int x), none] [some (.ref 45), some (.int x), none, none] g t := by
  obtain ⟨H, S, G, R, kd, bd, gv, rs, dr, w, f, l, rh, rd, rt, row, hs, sz, ln, ce, h⟩ := h
  have e1 := pX8_tell (L := L) (xs := xs) (t := t) (x := x) h.1.1
  by_cases q : 0 ≤ x.toInt ∧ x.toInt < H
  · rw [if_pos q] at e1
    have e2 := qX9_tell (L := L) (xs := xs) (t := t) (x := x) (h.m0 (j := 9) (v := trc (kd x.toInt.toNat) (g 0 9))).1
    rw [if_pos q, show zu g 0 9 (trc (kd x.toInt.toNat) (g 0 9)) 45 35 = g 45 35 from by simp [zu], ← h.2.2.1] at e2
    exact ⟨_, _, t, _, t, e1, e2, h.tc _⟩
  · rw [if_neg q] at e1
    have e2 := qX9_tell (L := L) (xs := xs) (t := t) (x := x) h.2.1.1
    rw [if_neg q] at e2
    exact ⟨_, _, t, _, t, e1, e2, h.rl⟩
theorem tw_knock (h : RLx g) {x : Int32} : TWi L xs 74 162 [some (.ref 0), some (.int x)] [some (.ref 45), some (.int x)] g t := by
  obtain ⟨H, S, G, R, kd, bd, gv, rs, dr, w, f, l, rh, rd, rt, row, hs, sz, ln, ce, h⟩ := h
  have e1 := pX8_knock (L := L) (xs := xs) (t := t) (x := x) h.1.1
  by_cases q : 0 ≤ x.toInt ∧ x.toInt < H
  · rw [if_pos q] at e1
    by_cases q2 : kd x.toInt.toNat = 2
    · rw [if_pos q2] at e1
      have e2 := qX9_knock (L := L) (xs := xs) (t := t) (x := x) (h.m0 (j := 9) (v := 31 * g 0 9 + 5)).1
      rw [if_pos q, if_pos q2, show zu g 0 9 (31 * g 0 9 + 5) 45 35 = g 45 35 from by simp [zu], ← h.2.2.1] at e2
      exact ⟨_, _, t, _, t, e1, e2, h.tc _⟩
    · rw [if_neg q2] at e1
      have e2 := qX9_knock (L := L) (xs := xs) (t := t) (x := x) (h.m0 (j := 9) (v := 31 * g 0 9 + 4)).1
      rw [if_pos q, if_neg q2, show zu g 0 9 (31 * g 0 9 + 4) 45 35 = g 45 35 from by simp [zu], ← h.2.2.1] at e2
      exact ⟨_, _, t, _, t, e1, e2, h.tc _⟩
  · rw [if_neg q] at e1
    have e2 := qX9_knock (L := L) (xs := xs) (t := t) (x := x) h.2.1.1
    rw [if_neg q] at e2
    exact ⟨_, _, t, _, t, e1, e2, h.rl⟩
theorem tw_as (h : RLx g) {x y : Int32} : TWi L xs 75 163 [some (.ref 0), some (.int x), some (.int y)] [some (.ref 45), some (.int x), some (.int y)] g t := by
  obtain ⟨H, S, G, R, kd, bd, gv, rs, dr, w, f, l, rh, rd, rt, row, hs, sz, ln, ce, h⟩ := h
  have e1 := pX8_as (L := L) (xs := xs) (t := t) (x := x) (y := y) h.1.1
  have e2 := fun v => qX9_as (L := L) (xs := xs) (t := t) (x := x) (y := y) (h.m0 (j := 10) (v := v)).1
  by_cases q : 0 ≤ x.toInt ∧ x.toInt < H
  · rw [if_pos q] at e1
    simp only [if_pos q] at e2
    by_cases q2 : 0 ≤ y.toInt ∧ y.toInt ≤ 2
    · rw [if_pos q2] at e1
      simp only [if_pos q2] at e2
      by_cases q3 : y.toInt ≤ kd x.toInt.toNat
      · rw [if_pos q3] at e1
        simp only [if_pos q3] at e2
        exact ⟨_, _, t, _, t, e1, e2 0, h.ft _⟩
      · rw [if_neg q3] at e1
        simp only [if_neg q3] at e2
        exact ⟨_, _, t, _, t, e1, e2 2, h.ft _⟩
    · rw [if_neg q2] at e1
      simp only [if_neg q2] at e2
      exact ⟨_, _, t, _, t, e1, e2 0, h.ft _⟩
  · rw [if_neg q] at e1
    simp only [if_neg q] at e2
    exact ⟨_, _, t, _, t, e1, e2 0, h.ft _⟩
/-- the class with nothing found out -/
theorem CP_mk (hT : CTn g H S kd bd gv rs dr) (hG : CGs g H G w f l row) (hR : CRs g H R rh rd rt) (hS : CSh g hs sz ln ce) (k8 : g 0 8 = 0) (l6 : g 29 6 = 0) (e7 : g 33 7 = 0) (hv : hvb H G bd f l row = true) : CP g H S G R kd bd gv rs dr w f l rh rd rt row hs sz ln ce := ⟨hT, hG, hR, hS, Or.inl k8, ⟨0, by omega, by rw [nI_0]; exact l6, fun k _ _ h => absurd h (by rw [Nat.zero_div]; omega)⟩, Or.inl e7, hv⟩
def uf (f : Nat → Nat) (k v : Nat) : Nat → Nat := fun j => if j = k then v else f j
theorem uf_s {k v : Nat} : uf f k v k = v := if_pos rfl
theorem uf_n {k v j : Nat} (h : j ≠ k) : uf f k v j = f j := if_neg h
theorem hvb_new {a b : Nat} (h7 : H ≤ 7) (hv : hvb H G bd f l row = true) : hvb H (G + 1) bd (uf f G a) (uf l G b) (ru row G (-9)) = true := by
  rw [hvb_iff] at hv ⊢
  intro h hh n hn
  have e : slp (G + 1) (uf f G a) (uf l G b) (ru row G (-9)) (-9) h n = slp G f l row (-9) h n := by
    show cnt _ G + (if nI G ≠ -9 ∧ ru row G (-9) G = nI h ∧ uf f G a G ≤ n ∧ n ≤ uf l G b G then 1 else 0) = _
    rw [if_neg (fun z => by
      have z1 := z.2.1
      rw [ru_s] at z1
      have := m9n (a := h) (by omega)
      rw [z1] at this
      simp at this)]
    refine cnt_congr G (fun j hj => ?_)
    have q : j ≠ G := by omega
    rw [ru_n q, uf_n q, uf_n q]
  rw [e]
  exact hv h hh n hn
theorem hvb_out {k : Nat} (h7 : H ≤ 7) (hv : hvb H G bd f l row = true) : hvb H G bd f l (ru row k (-9)) = true := by
  rw [hvb_iff] at hv ⊢
  intro h hh n hn
  refine Nat.le_trans (cnt_mono G (fun j hj pj => ?_)) (hv h hh n hn)
  by_cases q : j = k
  · have z1 := pj.2.1
    rw [q, ru_s] at z1
    have := m9n (a := h) (by omega)
    rw [z1] at this
    simp at this
  · have z1 := pj.2.1
    rw [ru_n q] at z1
    exact ⟨pj.1, z1, pj.2.2⟩
theorem CGs_new {x y z : Int32} (hG : CGs g H G w f l row) (h8 : G < 8) (qx : 1 ≤ x.toInt ∧ x.toInt ≤ 30) (qy : 0 ≤ y.toInt ∧ y.toInt ≤ 49) (qz : y.toInt ≤ z.toInt ∧ z.toInt ≤ 49) (F10 : g' 10 5 = nI (G + 1)) (F11 : ∀ k, g' 11 k = if k = G then x else g 11 k) (F12 : ∀ k, g' 12 k = if k = G then y else g 12 k) (F13 : ∀ k, g' 13 k = if k = G then z else g 13 k) (F14 : ∀ k, g' 14 k = if k = G then -9 else g 14 k) : CGs g' H (G + 1) (uf w G x.toInt.toNat) (uf f G y.toInt.toNat) (uf l G z.toInt.toNat) (ru row G (-9)) := by
  refine ⟨F10, by omega, fun k hk => ?_, fun k a b => ?_⟩
  · rw [F11, F12, F13, F14]
    by_cases q : k = G
    · subst q
      simp only [if_true, uf_s, ru_s]
      exact ⟨⟨nI_back (by omega), by omega, by omega⟩, nI_back (by omega), nI_back (by omega), by omega, by omega, trivial, Or.inl trivial⟩
    · simp only [q, if_false, uf_n q, ru_n q]
      exact hG.2.2.1 k (by omega)
  · have q : k ≠ G := by omega
    rw [F14, if_neg q]
    exact hG.2.2.2 k (by omega) b
theorem MGs_new {x y z : Int32} (hG : MGs g H G w f l row) (h8 : G < 8) (qx : 1 ≤ x.toInt ∧ x.toInt ≤ 30) (qy : 0 ≤ y.toInt ∧ y.toInt ≤ 49) (qz : y.toInt ≤ z.toInt ∧ z.toInt ≤ 49) (F10 : g' 45 13 = nI (G + 1)) (F11 : ∀ k, g' 53 k = if k = G then x else g 53 k) (F12 : ∀ k, g' 54 k = if k = G then y else g 54 k) (F13 : ∀ k, g' 55 k = if k = G then z else g 55 k) (F14 : ∀ k, g' 56 k = if k = G then -9 else g 56 k) : MGs g' H (G + 1) (uf w G x.toInt.toNat) (uf f G y.toInt.toNat) (uf l G z.toInt.toNat) (ru row G (-9)) := by
  refine ⟨F10, by omega, fun k hk => ?_⟩
  rw [F11, F12, F13, F14]
  by_cases q : k = G
  · subst q
    simp only [if_true, uf_s, ru_s]
    exact ⟨⟨nI_back (by omega), by omega, by omega⟩, nI_back (by omega), nI_back (by omega), by omega, by omega, trivial, Or.inl trivial⟩
  · simp only [q, if_false, uf_n q, ru_n q]
    exact hG.2.2 k (by omega)
theorem tw_guest (h : RLx g) {x y z : Int32} : TWi L xs 50 112 [some (.ref 0), some (.int x), some (.int y), some (.int z), none] [some (.ref 45), some (.int x), some (.int y), some (.int z)] g t := by
  obtain ⟨H, S, G, R, kd, bd, gv, rs, dr, w, f, l, rh, rd, rt, row, hs, sz, ln, ce, h⟩ := h
  obtain ⟨hT, hG, hR, hS, hK, hL, hE, hv⟩ := id h.1
  obtain ⟨mT, mG, mR, mM⟩ := id h.2.1
  have e1 := pX8_guest (L := L) (xs := xs) (t := t) (x := x) (y := y) (z := z) hT hG
  have e2 := qX9_guest (L := L) (xs := xs) (t := t) (x := x) (y := y) (z := z) mT mG
  by_cases q1 : (1 ≤ x.toInt ∧ x.toInt ≤ 30) ∧ (0 ≤ y.toInt ∧ y.toInt ≤ 49) ∧ (y.toInt ≤ z.toInt ∧ z.toInt ≤ 49)
  · rw [if_pos q1] at e1 e2
    by_cases q2 : H = 0
    · rw [if_pos q2] at e1 e2
      exact ⟨_, _, t, _, t, e1, e2, h.rl⟩
    · rw [if_neg q2] at e1 e2
      by_cases q3 : G = 8
      · rw [if_pos q3] at e1 e2
        exact ⟨_, _, t, _, t, e1, e2, h.rl⟩
      · rw [if_neg q3] at e1
        have g8 := hG.2.1
        generalize hg1 : fgt (zu (zu (zu (zu (zu g 10 5 (nI (G + 1))) 11 G x) 12 G y) 13 G z) 14 G (-9)) = g1 at e1
        have F : ∀ a, a ≠ 0 → (a < 10 ∨ 14 < a) → a ≠ 29 → a ≠ 33 → g1 a = g a := fun a a0 a1 a2 a3 => by
          subst hg1
          have b0 : a ≠ 10 := by omega
          have b1 : a ≠ 11 := by omega
          have b2 : a ≠ 12 := by omega
          have b3 : a ≠ 13 := by omega
          have b4 : a ≠ 14 := by omega
          funext p
          simp only [zuA, a0, a2, a3, b0, b1, b2, b3, b4, if_false]
        have hM1 : MP g1 H S G R kd bd gv rs dr w f l rh rd rt row hs sz ln ce := h.2.1.lo (fun a ha => F a (by omega) (by omega) (by omega) (by omega))
        have e3 := qX9_guest (L := L) (xs := xs) (t := t) (x := x) (y := y) (z := z) hM1.1 hM1.2.1
        rw [if_pos q1, if_neg q2, if_neg q3] at e3
        generalize hg2 : zu (zu (zu (zu (zu g1 53 G x) 54 G y) 55 G z) 56 G (-9)) 45 13 (nI (G + 1)) = g2 at e3
        have F2 : ∀ a, a ≠ 45 → (a < 53 ∨ 56 < a) → g2 a = g1 a := fun a a0 a1 => by
          subst hg2
          have b1 : a ≠ 53 := by omega
          have b2 : a ≠ 54 := by omega
          have b3 : a ≠ 55 := by omega
          have b4 : a ≠ 56 := by omega
          funext p
          simp only [zuA, a0, b1, b2, b3, b4, if_false]
        have F45 : ∀ p, p ≠ 13 → g2 45 p = g1 45 p := fun p hp1 => by
          subst hg2
          simp only [zuA, hp1, if_true, if_false, Nat.reduceEqDiff]
        have hC1 : CP g1 H S (G + 1) R kd bd gv rs dr (uf w G x.toInt.toNat) (uf f G y.toInt.toNat) (uf l G z.toInt.toNat) rh rd rt (ru row G (-9)) hs sz ln ce := by
          refine CP_mk (hT.t9 (fun a _ _ => F a (by omega) (by omega) (by omega) (by omega))) (CGs_new hG (by omega) q1.1 q1.2.1 q1.2.2 ?_ ?_ ?_ ?_ ?_) (hR.t9 (fun a _ _ => F a (by omega) (by omega) (by omega) (by omega))) (hS.tr (fun a _ _ => F a (by omega) (by omega) (by omega) (by omega))) ?_ ?_ ?_ (hvb_new hT.2.1 hv)
          · subst hg1; simp only [zuA, if_true, if_false, Nat.reduceEqDiff]
          · intro k; subst hg1; simp only [zuA, if_true, if_false, Nat.reduceEqDiff]
          · intro k; subst hg1; simp only [zuA, if_true, if_false, Nat.reduceEqDiff]
          · intro k; subst hg1; simp only [zuA, if_true, if_false, Nat.reduceEqDiff]
          · intro k; subst hg1; simp only [zuA, if_true, if_false, Nat.reduceEqDiff]
          · subst hg1; simp only [zuA, if_true, if_false, Nat.reduceEqDiff]
          · subst hg1; simp only [zuA, if_true, if_false, Nat.reduceEqDiff]
          · subst hg1; simp only [zuA, if_true]
        have hM2 : MP g2 H S (G + 1) R kd bd gv rs dr (uf w G x.toInt.toNat) (uf f G y.toInt.toNat) (uf l G z.toInt.toNat) rh rd rt (ru row G (-9)) hs sz ln ce := by
          obtain ⟨nT, nG, nR, nM⟩ := hM1
          refine ⟨?_, MGs_new nG (by omega) q1.1 q1.2.1 q1.2.2 ?_ ?_ ?_ ?_ ?_, ?_, ?_⟩
          · unfold MTn
            rw [F45 1 (by omega), F45 2 (by omega), F2 46 (by omega) (by omega), F2 47 (by omega) (by omega), F2 48 (by omega) (by omega), F2 49 (by omega) (by omega), F2 50 (by omega) (by omega)]
            exact nT
          · subst hg2; simp only [zuA, if_true]
          · intro k; subst hg2; simp only [zuA, if_true, if_false, Nat.reduceEqDiff]
          · intro k; subst hg2; simp only [zuA, if_true, if_false, Nat.reduceEqDiff]
          · intro k; subst hg2; simp only [zuA, if_true, if_false, Nat.reduceEqDiff]
          · intro k; subst hg2; simp only [zuA, if_true, if_false, Nat.reduceEqDiff]
          · unfold MRs
            rw [F45 27 (by omega), F2 62 (by omega) (by omega), F2 63 (by omega) (by omega), F2 64 (by omega) (by omega)]
            exact nR
          · unfold MSh
            rw [F2 65 (by omega) (by omega), F2 66 (by omega) (by omega), F2 67 (by omega) (by omega)]
            exact nM
        refine ⟨_, _, t, _, t, e1, e3, RLp.rl ⟨hC1.tr (fun a ha => F2 a (by omega) (by omega)), hM2, ?_, ?_⟩⟩
        · rw [F2 0 (by omega) (by omega), F45 35 (by omega), F 45 (by omega) (by omega) (by omega) (by omega), ← h.2.2.1]
          subst hg1
          simp only [zuA, if_true, if_false, Nat.reduceEqDiff]
        · rw [F2 0 (by omega) (by omega), F45 0 (by omega), F 45 (by omega) (by omega) (by omega) (by omega), ← h.2.2.2]
          subst hg1
          simp only [zuA, if_true, if_false, Nat.reduceEqDiff]
  · rw [if_neg q1] at e1 e2
    exact ⟨_, _, t, _, t, e1, e2, h.rl⟩
theorem tw_lodge (h : RLx g) {x y : Int32} : TWi L xs 52 117 [some (.ref 0), some (.int x), some (.int y), none] [some (.ref 45), some (.int x), some (.int y), none] g t := by
  obtain ⟨H, S, G, R, kd, bd, gv, rs, dr, w, f, l, rh, rd, rt, row, hs, sz, ln, ce, h⟩ := h
  obtain ⟨hT, hG, hR, hS, hK, hL, hE, hv⟩ := id h.1
  obtain ⟨mT, mG, mR, mM⟩ := id h.2.1
  have h7 := hT.2.1
  have g8 := hG.2.1
  have e1 := pX8_lodge (L := L) (xs := xs) (t := t) (x := x) (y := y) hT hG hv
  have e2 := qX9_lodge (L := L) (xs := xs) (t := t) (x := x) (y := y) mT mG
  by_cases q1 : (0 ≤ x.toInt ∧ x.toInt < G) ∧ (y = -9 ∨ (0 ≤ y.toInt ∧ y.toInt < H))
  · rw [if_pos q1] at e1 e2
    by_cases q2 : y = -9 ∨ hbd G bd f l row x.toInt.toNat y.toInt.toNat = true
    · rw [if_pos q2] at e1
      have hk : x.toInt.toNat < G := by omega
      generalize hkx : x.toInt.toNat = k at e1 q2 hk
      generalize hg1 : fgt (zu g 14 k y) = g1 at e1
      have F : ∀ a, a ≠ 0 → a ≠ 14 → a ≠ 29 → a ≠ 33 → g1 a = g a := fun a a0 a1 a2 a3 => by
        subst hg1
        funext p
        simp only [zuA, a0, a1, a2, a3, if_false]
      have F14 : ∀ p, g1 14 p = if p = k then y else g 14 p := fun p => by
        subst hg1
        simp only [zuA, if_true, if_false, Nat.reduceEqDiff]
      have hM1 : MP g1 H S G R kd bd gv rs dr w f l rh rd rt row hs sz ln ce := h.2.1.lo (fun a ha => F a (by omega) (by omega) (by omega) (by omega))
      have e3 := qX9_lodge (L := L) (xs := xs) (t := t) (x := x) (y := y) hM1.1 hM1.2.1
      rw [hkx, if_pos q1, if_pos q2] at e3
      have hy : y = -9 ∨ ∃ m, m < H ∧ y = nI m := q1.2.elim Or.inl (fun z => Or.inr ⟨y.toInt.toNat, by omega, nI_back z.1⟩)
      have hv1 : hvb H G bd f l (ru row k y) = true := by
        rcases hy with z | ⟨m, z1, z2⟩
        · rw [z]; exact hvb_out h7 hv
        · have hb : hbd G bd f l row k y.toInt.toNat = true := q2.resolve_left (fun z => by
            have := nm9 (a := m) (by omega)
            rw [← z2, z] at this
            simp at this)
          rw [z2, nI_toInt (by omega), show ((m : Int)).toNat = m by omega] at hb
          rw [z2, hvb_ru h7 g8 hv hk z1 (hG.2.2.1 k hk).2.2.2.2.1]
          exact hb
      have hC1 : CP g1 H S G R kd bd gv rs dr w f l rh rd rt (ru row k y) hs sz ln ce := by
        refine CP_mk (hT.t9 (fun a _ _ => F a (by omega) (by omega) (by omega) (by omega))) ⟨?_, g8, fun j hj => ?_, fun j a b => ?_⟩ (hR.t9 (fun a _ _ => F a (by omega) (by omega) (by omega) (by omega))) (hS.tr (fun a _ _ => F a (by omega) (by omega) (by omega) (by omega))) ?_ ?_ ?_ hv1
        · rw [F 10 (by omega) (by omega) (by omega) (by omega)]; exact hG.1
        · rw [F 11 (by omega) (by omega) (by omega) (by omega), F 12 (by omega) (by omega) (by omega) (by omega), F 13 (by omega) (by omega) (by omega) (by omega), F14]
          obtain ⟨a1, a2, a3, a4, a5, a6, a7⟩ := hG.2.2.1 j hj
          refine ⟨a1, a2, a3, a4, a5, ?_, ?_⟩
          · by_cases z : j = k
            · rw [if_pos z, z, ru_s]
            · rw [if_neg z, ru_n z]; exact a6
          · by_cases z : j = k
            · rw [z, ru_s]; exact hy
            · rw [ru_n z]; exact a7
        · have z : j ≠ k := by omega
          rw [F14, if_neg z]
          exact hG.2.2.2 j a b
        · subst hg1; simp only [zuA, if_true, if_false, Nat.reduceEqDiff]
        · subst hg1; simp only [zuA, if_true, if_false, Nat.reduceEqDiff]
        · subst hg1; simp only [zuA, if_true]
      have hM2 : MP (zu g1 56 k y) H S G R kd bd gv rs dr w f l rh rd rt (ru row k y) hs sz ln ce := by
        obtain ⟨nT, nG, nR, nM⟩ := hM1
        have F2 : ∀ a, a ≠ 56 → zu g1 56 k y a = g1 a := fun a ha => zu_o ha
        refine ⟨?_, ⟨?_, g8, fun j hj => ?_⟩, ?_, ?_⟩
        · unfold MTn
          rw [F2 45 (by omega), F2 46 (by omega), F2 47 (by omega), F2 48 (by omega), F2 49 (by omega), F2 50 (by omega)]
          exact nT
        · rw [F2 45 (by omega)]; exact nG.1
        · rw [F2 53 (by omega), F2 54 (by omega), F2 55 (by omega)]
          obtain ⟨a1, a2, a3, a4, a5, a6, a7⟩ := nG.2.2 j hj
          refine ⟨a1, a2, a3, a4, a5, ?_, ?_⟩
          · simp only [zuA, if_true]
            by_cases z : j = k
            · rw [if_pos z, z, ru_s]
            · rw [if_neg z, ru_n z]; exact a6
          · by_cases z : j = k
            · rw [z, ru_s]; exact hy
            · rw [ru_n z]; exact a7
        · unfold MRs
          rw [F2 45 (by omega), F2 62 (by omega), F2 63 (by omega), F2 64 (by omega)]
          exact nR
        · unfold MSh
          rw [F2 65 (by omega), F2 66 (by omega), F2 67 (by omega)]
          exact nM
      refine ⟨_, _, t, _, t, e1, e3, RLp.rl ⟨hC1.tr (fun a ha => zu_o (by omega)), hM2, ?_, ?_⟩⟩
      · rw [zu_o (by omega), zu_o (by omega), F 45 (by omega) (by omega) (by omega) (by omega), ← h.2.2.1]
        subst hg1
        simp only [zuA, if_true, if_false, Nat.reduceEqDiff]
      · rw [zu_o (by omega), zu_o (by omega), F 45 (by omega) (by omega) (by omega) (by omega), ← h.2.2.2]
        subst hg1
        simp only [zuA, if_true, if_false, Nat.reduceEqDiff]
    · rw [if_neg q2] at e1 e2
      exact ⟨_, _, t, _, t, e1, e2, h.rl⟩
  · rw [if_neg q1] at e1 e2
    exact ⟨_, _, t, _, t, e1, e2, h.rl⟩
theorem CP.rd' {R' : Nat} {rh' rd' rt' : Nat → Nat} (h : CP g H S G R kd bd gv rs dr w f l rh rd rt row hs sz ln ce) (F : ∀ a, (a < 15 ∨ 18 < a) → g' a = g a) (hR : CRs g' H R' rh' rd' rt') : CP g' H S G R' kd bd gv rs dr w f l rh' rd' rt' row hs sz ln ce := by
  obtain ⟨hT, hG, -, hS, hK, hL, hE, hv⟩ := h
  exact ⟨hT.t9 (fun a _ _ => F a (by omega)), hG.t9 (fun a _ _ => F a (by omega)), hR, hS.tr (fun a _ _ => F a (by omega)), hK.t9 (by rw [F 0 (by omega)]) (F 20 (by omega)), hL.t9 (by rw [F 29 (by omega)]) (F 31 (by omega)) (F 32 (by omega)), hE.t9 (F 33 (by omega)) (F 35 (by omega)), hv⟩
theorem MP.rd' {R' : Nat} {rh' rd' rt' : Nat → Nat} (h : MP g H S G R kd bd gv rs dr w f l rh rd rt row hs sz ln ce) (F : ∀ a, 46 ≤ a → (a < 62 ∨ 64 < a) → g' a = g a) (F1 : g' 45 1 = g 45 1) (F2 : g' 45 2 = g 45 2) (F3 : g' 45 13 = g 45 13) (hR : MRs g' H R' rh' rd' rt') : MP g' H S G R' kd bd gv rs dr w f l rh' rd' rt' row hs sz ln ce := by
  obtain ⟨hT, hG, -, hM⟩ := h
  refine ⟨?_, ?_, hR, ?_⟩
  · unfold MTn
    rw [F1, F2, F 46 (by omega) (by omega), F 47 (by omega) (by omega), F 48 (by omega) (by omega), F 49 (by omega) (by omega), F 50 (by omega) (by omega)]
    exact hT
  · unfold MGs
    rw [F3, F 53 (by omega) (by omega), F 54 (by omega) (by omega), F 55 (by omega) (by omega), F 56 (by omega) (by omega)]
    exact hG
  · unfold MSh
    rw [F 65 (by omega) (by omega), F 66 (by omega) (by omega), F 67 (by omega) (by omega)]
    exact hM
theorem tw_reading (h : RLx g) {x y z : Int32} : TWi L xs 61 140 [some (.ref 0), some (.int x), some (.int y), some (.int z)] [some (.ref 45), some (.int x), some (.int y), some (.int z)] g t := by
  obtain ⟨H, S, G, R, kd, bd, gv, rs, dr, w, f, l, rh, rd, rt, row, hs, sz, ln, ce, h⟩ := h
  obtain ⟨hT, hG, hR, hS, hK, hL, hE, hv⟩ := id h.1
  obtain ⟨mT, mG, mR, mM⟩ := id h.2.1
  have e1 := pX8_reading (L := L) (xs := xs) (t := t) (x := x) (y := y) (z := z) hT hR
  have e2 := qX9_reading (L := L) (xs := xs) (t := t) (x := x) (y := y) (z := z) mT mR
  by_cases q1 : 0 ≤ x.toInt ∧ x.toInt < H
  · rw [if_pos q1] at e1 e2
    by_cases q2 : (0 ≤ y.toInt ∧ y.toInt ≤ 50) ∧ (0 ≤ z.toInt ∧ z.toInt ≤ 999999)
    · rw [if_pos q2] at e1 e2
      by_cases q3 : R = 10
      · rw [if_pos q3] at e1 e2
        exact ⟨_, _, t, _, t, e1, e2, h.rl⟩
      · rw [if_neg q3] at e1
        have r10 := hR.2.1
        generalize hg1 : zu (zu (zu (zu g 16 R x) 17 R y) 18 R z) 15 3 (nI (R + 1)) = g1 at e1
        have F : ∀ a, (a < 15 ∨ 18 < a) → g1 a = g a := fun a ha => by
          subst hg1
          have b1 : a ≠ 15 := by omega
          have b2 : a ≠ 16 := by omega
          have b3 : a ≠ 17 := by omega
          have b4 : a ≠ 18 := by omega
          funext p
          simp only [zuA, b1, b2, b3, b4, if_false]
        have hM1 : MP g1 H S G R kd bd gv rs dr w f l rh rd rt row hs sz ln ce := h.2.1.lo (fun a ha => F a (by omega))
        have e3 := qX9_reading (L := L) (xs := xs) (t := t) (x := x) (y := y) (z := z) hM1.1 hM1.2.2.1
        rw [if_pos q1, if_pos q2, if_neg q3] at e3
        have hC1 : CP g1 H S G (R + 1) kd bd gv rs dr w f l (uf rh R x.toInt.toNat) (uf rd R y.toInt.toNat) (uf rt R z.toInt.toNat) row hs sz ln ce := by
          refine h.1.rd' F ⟨by subst hg1; simp only [zuA, if_true], by omega, fun k hk => ?_⟩
          subst hg1
          simp only [zuA, if_true, if_false, Nat.reduceEqDiff]
          by_cases q : k = R
          · subst q
            simp only [if_true, uf_s]
            exact ⟨⟨nI_back (by omega), by omega⟩, ⟨nI_back (by omega), by omega⟩, nI_back (by omega), by omega⟩
          · simp only [q, if_false, uf_n q]
            exact hR.2.2 k (by omega)
        generalize hg2 : zu (zu (zu (zu g1 62 R x) 63 R y) 64 R z) 45 27 (nI (R + 1)) = g2 at e3
        have F2 : ∀ a, a ≠ 45 → (a < 62 ∨ 64 < a) → g2 a = g1 a := fun a a0 a1 => by
          subst hg2
          have b1 : a ≠ 62 := by omega
          have b2 : a ≠ 63 := by omega
          have b3 : a ≠ 64 := by omega
          funext p
          simp only [zuA, a0, b1, b2, b3, if_false]
        have F45 : ∀ p, p ≠ 27 → g2 45 p = g1 45 p := fun p hp1 => by
          subst hg2
          simp only [zuA, hp1, if_true, if_false, Nat.reduceEqDiff]
        have hM2 : MP g2 H S G (R + 1) kd bd gv rs dr w f l (uf rh R x.toInt.toNat) (uf rd R y.toInt.toNat) (uf rt R z.toInt.toNat) row hs sz ln ce := by
          refine hM1.rd' (fun a x1 x2 => F2 a (by omega) x2) (F45 1 (by omega)) (F45 2 (by omega)) (F45 13 (by omega)) ⟨by subst hg2; simp only [zuA, if_true], by omega, fun k hk => ?_⟩
          subst hg2
          simp only [zuA, if_true, if_false, Nat.reduceEqDiff]
          by_cases q : k = R
          · subst q
            simp only [if_true, uf_s]
            exact ⟨⟨nI_back (by omega), by omega⟩, ⟨nI_back (by omega), by omega⟩, nI_back (by omega), by omega⟩
          · simp only [q, if_false, uf_n q]
            exact hM1.2.2.1.2.2 k (by omega)
        refine ⟨_, _, t, _, t, e1, e3, RLp.rl ⟨hC1.tr (fun a ha => F2 a (by omega) (by omega)), hM2, ?_, ?_⟩⟩
        · rw [F2 0 (by omega) (by omega), F45 35 (by omega), F 45 (by omega), F 0 (by omega)]; exact h.2.2.1
        · rw [F2 0 (by omega) (by omega), F45 0 (by omega), F 45 (by omega), F 0 (by omega)]; exact h.2.2.2
    · rw [if_neg q2] at e1 e2
      exact ⟨_, _, t, _, t, e1, e2, h.rl⟩
  · rw [if_neg q1] at e1 e2
    exact ⟨_, _, t, _, t, e1, e2, h.rl⟩
theorem tw_back (h : RLx g) {x : Int32} : TWi L xs 62 141 [some (.ref 0), some (.int x)] [some (.ref 45), some (.int x)] g t := by
  obtain ⟨H, S, G, R, kd, bd, gv, rs, dr, w, f, l, rh, rd, rt, row, hs, sz, ln, ce, h⟩ := h
  obtain ⟨hT, hG, hR, hS, hK, hL, hE, hv⟩ := id h.1
  obtain ⟨mT, mG, mR, mM⟩ := id h.2.1
  have e1 := pX8_back (L := L) (xs := xs) (t := t) (x := x) hR
  have e2 := qX9_back (L := L) (xs := xs) (t := t) (x := x) mR
  by_cases q1 : 0 ≤ x.toInt ∧ x.toInt ≤ R
  · rw [if_pos q1] at e1
    have r10 := hR.2.1
    generalize hq : R - x.toInt.toNat = q at e1
    have hqR : q ≤ R := by omega
    have F : ∀ a, a ≠ 15 → zu g 15 3 (nI q) a = g a := fun a ha => zu_o ha
    have hM1 : MP (zu g 15 3 (nI q)) H S G R kd bd gv rs dr w f l rh rd rt row hs sz ln ce := h.2.1.lo (fun a ha => F a (by omega))
    have e3 := qX9_back (L := L) (xs := xs) (t := t) (x := x) hM1.2.2.1
    rw [if_pos q1, hq] at e3
    have hC1 : CP (zu g 15 3 (nI q)) H S G q kd bd gv rs dr w f l rh rd rt row hs sz ln ce := by
      refine h.1.rd' (fun a ha => F a (by omega)) ⟨by simp only [zuA, if_true], by omega, fun k hk => ?_⟩
      rw [F 16 (by omega), F 17 (by omega), F 18 (by omega)]
      exact hR.2.2 k (by omega)
    have F2 : ∀ a, a ≠ 45 → zu (zu g 15 3 (nI q)) 45 27 (nI q) a = zu g 15 3 (nI q) a := fun a ha => zu_o ha
    have F45 : ∀ p, p ≠ 27 → zu (zu g 15 3 (nI q)) 45 27 (nI q) 45 p = zu g 15 3 (nI q) 45 p := fun p hp1 => by
      simp only [zuA, hp1, if_true, if_false]
    have hM2 : MP (zu (zu g 15 3 (nI q)) 45 27 (nI q)) H S G q kd bd gv rs dr w f l rh rd rt row hs sz ln ce := by
      refine hM1.rd' (fun a x1 x2 => F2 a (by omega)) (F45 1 (by omega)) (F45 2 (by omega)) (F45 13 (by omega)) ⟨by simp only [zuA, if_true], by omega, fun k hk => ?_⟩
      rw [F2 62 (by omega), F2 63 (by omega), F2 64 (by omega)]
      exact hM1.2.2.1.2.2 k (by omega)
    refine ⟨_, _, t, _, t, e1, e3, RLp.rl ⟨hC1.tr (fun a ha => F2 a (by omega)), hM2, ?_, ?_⟩⟩
    · rw [F2 0 (by omega), F45 35 (by omega), F 45 (by omega), F 0 (by omega)]; exact h.2.2.1
    · rw [F2 0 (by omega), F45 0 (by omega), F 45 (by omega), F 0 (by omega)]; exact h.2.2.2
  · rw [if_neg q1] at e1 e2
    exact ⟨_, _, t, _, t, e1, e2, h.rl⟩
end R2
