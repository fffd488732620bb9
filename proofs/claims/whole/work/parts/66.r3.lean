/-! Both at once: sheets, the town. -/
section R3
variable {L : Nat} {xs : Nat → Int32} {g g' g1 g2 : Nat → Nat → Int32} {t : Nat → Int64}
variable {H S G R : Nat} {kd bd gv rs dr w f l rh rd rt : Nat → Nat} {row : Nat → Int32}
variable {hs : Nat → Bool} {sz ln : Nat → Nat} {ce : Nat → Nat → Int32}
theorem CP.sh {hs' : Nat → Bool} {sz' ln' : Nat → Nat} {ce' : Nat → Nat → Int32} (h : CP g H S G R kd bd gv rs dr w f l rh rd rt row hs sz ln ce) (F : ∀ a, a < 37 → a ≠ 0 → g' a = g a) (F8 : g' 0 8 = g 0 8) (hS : CSh g' hs' sz' ln' ce') : CP g' H S G R kd bd gv rs dr w f l rh rd rt row hs' sz' ln' ce' := by
  obtain ⟨hT, hG, hR, -, hK, hL, hE, hv⟩ := h
  exact ⟨hT.t9 (fun a _ _ => F a (by omega) (by omega)), hG.t9 (fun a _ _ => F a (by omega) (by omega)), hR.t9 (fun a _ _ => F a (by omega) (by omega)), hS, hK.t9 F8 (F 20 (by omega) (by omega)), hL.t9 (by rw [F 29 (by omega) (by omega)]) (F 31 (by omega) (by omega)) (F 32 (by omega) (by omega)), hE.t9 (F 33 (by omega) (by omega)) (F 35 (by omega) (by omega)), hv⟩
theorem MP.sh {hs' : Nat → Bool} {sz' ln' : Nat → Nat} {ce' : Nat → Nat → Int32} (h : MP g H S G R kd bd gv rs dr w f l rh rd rt row hs sz ln ce) (F : ∀ a, 46 ≤ a → a < 65 → g' a = g a) (F45 : ∀ q, q ≠ 0 → g' 45 q = g 45 q) (hM : MSh g' hs' sz' ln' ce') : MP g' H S G R kd bd gv rs dr w f l rh rd rt row hs' sz' ln' ce' := by
  obtain ⟨hT, hG, hR, -⟩ := h
  refine ⟨?_, ?_, ?_, hM⟩
  · unfold MTn
    rw [F45 1 (by omega), F45 2 (by omega), F 46 (by omega) (by omega), F 47 (by omega) (by omega), F 48 (by omega) (by omega), F 49 (by omega) (by omega), F 50 (by omega) (by omega)]
    exact hT
  · unfold MGs
    rw [F45 13 (by omega), F 53 (by omega) (by omega), F 54 (by omega) (by omega), F 55 (by omega) (by omega), F 56 (by omega) (by omega)]
    exact hG
  · unfold MRs
    rw [F45 27 (by omega), F 62 (by omega) (by omega), F 63 (by omega) (by omega), F 64 (by omega) (by omega)]
    exact hR
theorem c10_8 {v : Int32} : zu g 0 10 v 0 8 = g 0 8 := by simp only [zuA, if_true, if_false, Nat.reduceEqDiff]
theorem c10_9 {v : Int32} : zu g 0 10 v 0 9 = g 0 9 := by simp only [zuA, if_true, if_false, Nat.reduceEqDiff]
theorem c10_10 {v : Int32} : zu g 0 10 v 0 10 = v := by simp only [zuA, if_true]
theorem m45_0 {v : Int32} : zu g 45 0 v 45 0 = v := by simp only [zuA, if_true]
theorem m45_n {v : Int32} {q : Nat} (h : q ≠ 0) : zu g 45 0 v 45 q = g 45 q := by simp only [zuA, if_true, h, if_false]
def ub (f : Nat → Bool) (k : Nat) (v : Bool) : Nat → Bool := fun j => if j = k then v else f j
theorem ub_s {h : Nat → Bool} {k : Nat} {v : Bool} : ub h k v k = v := if_pos rfl
theorem ub_n {h : Nat → Bool} {k : Nat} {v : Bool} {j : Nat} (q : j ≠ k) : ub h k v j = h j := if_neg q
theorem tw_lose (h : RLx g) {x : Int32} : TWi L xs 69 154 [some (.ref 0), some (.int x), none] [some (.ref 45), some (.int x), none] g t := by
  obtain ⟨H, S, G, R, kd, bd, gv, rs, dr, w, f, l, rh, rd, rt, row, hs, sz, ln, ce, h⟩ := h
  obtain ⟨hT, hG, hR, hS, hK, hL, hE, hv⟩ := id h.1
  have e1 := pX8_lose (L := L) (xs := xs) (t := t) (x := x) hS
  by_cases q1 : 0 ≤ x.toInt ∧ x.toInt ≤ 3
  · rw [if_pos q1] at e1
    have hk4 : x.toInt.toNat < 4 := by omega
    generalize hk : x.toInt.toNat = k at e1 hk4
    have F : ∀ a, a ≠ 37 + 2 * k → zu g (37 + 2 * k) 1 0 a = g a := fun a ha => zu_o ha
    have hM1 : MP (zu g (37 + 2 * k) 1 0) H S G R kd bd gv rs dr w f l rh rd rt row hs sz ln ce := h.2.1.lo (fun a ha => F a (by omega))
    have e2 := qX9_lose (L := L) (xs := xs) (t := t) (x := x) hM1.2.2.2
    rw [if_pos q1, hk] at e2
    have hC1 : CP (zu g (37 + 2 * k) 1 0) H S G R kd bd gv rs dr w f l rh rd rt row (ub hs k false) sz ln ce := by
      refine h.1.sh (fun a x1 _ => F a (by omega)) (by rw [F 0 (by omega)]) (fun q hq => ?_)
      by_cases z : q = k
      · subst z
        exact Or.inl ⟨ub_s, by simp only [zuA, if_true]⟩
      · rw [F (37 + 2 * q) (by omega), F (38 + 2 * q) (by omega), ub_n z]
        exact hS q hq
    have hM2 : MP (zu (zu g (37 + 2 * k) 1 0) 65 k (-1)) H S G R kd bd gv rs dr w f l rh rd rt row (ub hs k false) sz ln ce := by
      refine hM1.sh (fun a x1 x2 => zu_o (by omega)) (fun q _ => by rw [zu_o (by omega)]) (fun q hq => ?_)
      by_cases z : q = k
      · subst z
        exact Or.inl ⟨ub_s, by simp only [zuA, if_true]⟩
      · rw [ub_n z, zu_o (a := 66) (by omega), zu_o (a := 67) (by omega), show zu (zu g (37 + 2 * k) 1 0) 65 k (-1) 65 q = zu g (37 + 2 * k) 1 0 65 q by simp only [zuA, if_true, z, if_false]]
        exact hM1.2.2.2 q hq
    refine ⟨_, _, t, _, t, e1, e2, RLp.rl ⟨hC1.tr (fun a ha => zu_o (by omega)), hM2, ?_, ?_⟩⟩
    · rw [zu_o (by omega), zu_o (by omega), zu_o (a := 45) (by omega), F 45 (by omega)]; exact h.2.2.1
    · rw [zu_o (by omega), zu_o (by omega), zu_o (a := 45) (by omega), F 45 (by omega)]; exact h.2.2.2
  · rw [if_neg q1] at e1
    have e2 := qX9_lose (L := L) (xs := xs) (t := t) (x := x) h.2.1.2.2.2
    rw [if_neg q1] at e2
    exact ⟨_, _, t, _, t, e1, e2, h.rl⟩
theorem tw_put (h : RLx g) {x y v : Int32} : TWi L xs 70 156 [some (.ref 0), some (.int x), some (.int y), some (.int v), none] [some (.ref 45), some (.int x), some (.int y), some (.int v)] g t := by
  obtain ⟨H, S, G, R, kd, bd, gv, rs, dr, w, f, l, rh, rd, rt, row, hs, sz, ln, ce, h⟩ := h
  obtain ⟨hT, hG, hR, hS, hK, hL, hE, hv⟩ := id h.1
  have e1 := pX8_put (L := L) (xs := xs) (t := t) (x := x) (y := y) (v := v) hS
  have e2 := fun u => qX9_put (L := L) (xs := xs) (t := t) (x := x) (y := y) (v := v) (h.m0 (j := 10) (v := u)).2.2.2
  by_cases q1 : 0 ≤ x.toInt ∧ x.toInt ≤ 3
  · rw [if_pos q1] at e1
    simp only [if_pos q1] at e2
    have hk4 : x.toInt.toNat < 4 := by omega
    by_cases q2 : hs x.toInt.toNat = false
    · rw [if_pos q2] at e1
      simp only [if_pos q2] at e2
      exact ⟨_, _, t, _, t, e1, e2 1, h.ft _⟩
    · rw [if_neg q2] at e1
      simp only [if_neg q2] at e2
      by_cases q3 : 0 ≤ y.toInt ∧ y.toInt < sz x.toInt.toNat
      · rw [if_pos q3] at e1
        generalize hk : x.toInt.toNat = k at e1 hk4 q2 q3
        have hm : y.toInt.toNat < sz k := by omega
        generalize hmy : y.toInt.toNat = m at e1 hm
        generalize hcv : cutv (ln k) v = cv at e1
        have F : ∀ a, a ≠ 0 → a ≠ 38 + 2 * k → zu (zu g 0 10 0) (38 + 2 * k) m cv a = g a := fun a ha hb => by rw [zu_o hb, zu_o ha]
        have F0 : zu (zu g 0 10 0) (38 + 2 * k) m cv 0 = zu g 0 10 0 0 := zu_o (by omega)
        have hM1 : MP (zu (zu g 0 10 0) (38 + 2 * k) m cv) H S G R kd bd gv rs dr w f l rh rd rt row hs sz ln ce := h.2.1.lo (fun a ha => F a (by omega) (by omega))
        have e3 := qX9_put (L := L) (xs := xs) (t := t) (x := x) (y := y) (v := v) hM1.2.2.2
        rw [if_pos q1, hk, if_neg q2, if_pos q3, hmy, hcv] at e3
        have hC1 : CP (zu (zu g 0 10 0) (38 + 2 * k) m cv) H S G R kd bd gv rs dr w f l rh rd rt row hs sz ln (fun q p => if q = k ∧ p = m then cv else ce q p) := by
          refine h.1.sh (fun a x1 x2 => F a x2 (by omega)) (by rw [F0]; exact c10_8) (fun q hq => ?_)
          rw [F (37 + 2 * q) (by omega) (by omega)]
          rcases hS q hq with z | ⟨z1, z2, z3, z4, z5, z6, z7⟩
          · exact Or.inl z
          · refine Or.inr ⟨z1, z2, z3, z4, z5, z6, fun p hp1 => ?_⟩
            by_cases y1 : q = k
            · subst y1
              by_cases y2 : p = m
              · subst y2
                simp only [zuA, if_true, and_self]
              · simp only [zuA, if_true, y2, if_false, and_false]
                simp only [show (38 + 2 * q = 0) = False from eq_false (by omega), if_false]
                exact z7 p hp1
            · rw [F (38 + 2 * q) (by omega) (by omega), if_neg (fun e => y1 e.1)]
              exact z7 p hp1
        have hM2 : MP (zu (zu (zu (zu g 0 10 0) (38 + 2 * k) m cv) 67 (60 * k + m) cv) 45 0 0) H S G R kd bd gv rs dr w f l rh rd rt row hs sz ln (fun q p => if q = k ∧ p = m then cv else ce q p) := by
          refine hM1.sh (fun a x1 x2 => by rw [zu_o (by omega), zu_o (by omega)]) (fun q hq => by rw [m45_n hq, zu_o (by omega)]) (fun q hq => ?_)
          rw [zu_o (a := 65) (by omega), zu_o (a := 65) (by omega), zu_o (a := 66) (by omega), zu_o (a := 66) (by omega), zu_o (c := 45) (a := 67) (by omega)]
          rcases hM1.2.2.2 q hq with z | ⟨z1, z2, z3, z4, z5, z6⟩
          · exact Or.inl z
          · refine Or.inr ⟨z1, z2, z3, z4, z5, fun p hp1 => ?_⟩
            by_cases y1 : q = k ∧ p = m
            · obtain ⟨rfl, rfl⟩ := y1
              simp only [zuA, if_true, and_self]
            · have hm60 : m < 60 := by
                rcases hM1.2.2.2 k hk4 with u | ⟨-, -, u, -⟩
                · exact absurd u.1 q2
                · omega
              have y2 : ¬ 60 * q + p = 60 * k + m := by
                rintro e
                exact y1 (by omega)
              rw [if_neg y1, ← z6 p hp1]
              simp only [zuA, if_true, y2, if_false]
        refine ⟨_, _, t, _, t, e1, e3, RLp.rl ⟨hC1.tr (fun a ha => by rw [zu_o (by omega), zu_o (by omega)]), hM2, ?_, ?_⟩⟩
        · rw [m45_n (by omega), zu_o (by omega), zu_o (by omega), zu_o (a := 45) (by omega), F0, F 45 (by omega) (by omega), c10_9]; exact h.2.2.1
        · rw [m45_0, zu_o (by omega), zu_o (by omega), F0, c10_10]
      · rw [if_neg q3] at e1
        simp only [if_neg q3] at e2
        exact ⟨_, _, t, _, t, e1, e2 3, h.ft _⟩
  · rw [if_neg q1] at e1
    simp only [if_neg q1] at e2
    exact ⟨_, _, t, _, t, e1, e2 0, h.ft _⟩
theorem tw_cell (h : RLx g) {x y z : Int32} : TWl L xs 71 157 [some (.ref 0), some (.int x), some (.int y), some (.int z), none] [some (.ref 45), some (.int x), some (.int y), some (.int z)] g t := by
  obtain ⟨H, S, G, R, kd, bd, gv, rs, dr, w, f, l, rh, rd, rt, row, hs, sz, ln, ce, h⟩ := h
  have e1 := pX8_cell (L := L) (xs := xs) (t := t) (x := x) (y := y) (z := z) h.1.2.2.2.1
  have e2 := fun u => qX9_cell (L := L) (xs := xs) (t := t) (x := x) (y := y) (z := z) (h.m0 (j := 10) (v := u)).2.2.2
  by_cases q1 : (0 ≤ x.toInt ∧ x.toInt ≤ 3) ∧ (0 ≤ z.toInt ∧ z.toInt ≤ 2)
  · rw [if_pos q1] at e1
    simp only [if_pos q1] at e2
    by_cases q2 : hs x.toInt.toNat = false
    · rw [if_pos q2] at e1
      simp only [if_pos q2] at e2
      exact ⟨_, _, t, _, t, e1, e2 1, h.ft _⟩
    · rw [if_neg q2] at e1
      simp only [if_neg q2] at e2
      by_cases q3 : ¬ (ln x.toInt.toNat : Int) = z.toInt
      · rw [if_pos q3] at e1
        simp only [if_pos q3] at e2
        exact ⟨_, _, t, _, t, e1, e2 2, h.ft _⟩
      · rw [if_neg q3] at e1
        simp only [if_neg q3] at e2
        by_cases q4 : 0 ≤ y.toInt ∧ y.toInt < sz x.toInt.toNat
        · rw [if_pos q4] at e1
          simp only [if_pos q4] at e2
          exact ⟨_, _, t, _, t, e1, e2 0, h.ft _⟩
        · rw [if_neg q4] at e1
          simp only [if_neg q4] at e2
          exact ⟨_, _, t, _, t, e1, e2 3, h.ft _⟩
  · rw [if_neg q1] at e1
    simp only [if_neg q1] at e2
    exact ⟨_, _, t, _, t, e1, e2 0, h.ft _⟩
theorem shM1 (hM : MSh g hs sz ln ce) {x y z : Int32} (a : ¬ (0 ≤ x.toInt ∧ x.toInt ≤ 3)) : go L xs 153 69 0 [some (.ref 45), some (.int x), some (.int y), some (.int z), none] [] (hp g t) = some (some (.int (-1)), hp (zu g 45 0 0) t) := by
  rcases qX9_sheet (L := L) (xs := xs) (t := t) (x := x) (y := y) (z := z) hM with ⟨-, e⟩ | ⟨c, -⟩ | ⟨c, -⟩ | ⟨k, m, n, hk, -, -, hx, -⟩
  · exact e
  · exact absurd c a
  · exact absurd c a
  · exact absurd (by rw [hx, nI_toInt (by omega)]; omega) a
theorem shM2 (hM : MSh g hs sz ln ce) {x y z : Int32} (a : 0 ≤ x.toInt ∧ x.toInt ≤ 3) (b : ¬ ((0 ≤ y.toInt ∧ y.toInt ≤ 2) ∧ z.toInt ≤ 60)) : go L xs 153 69 0 [some (.ref 45), some (.int x), some (.int y), some (.int z), none] [] (hp g t) = some (some (.int (-2)), hp (zu g 45 0 0) t) := by
  rcases qX9_sheet (L := L) (xs := xs) (t := t) (x := x) (y := y) (z := z) hM with ⟨c, -⟩ | ⟨-, -, e⟩ | ⟨-, c, -⟩ | ⟨k, m, n, hk, hm, hn, hx, hy, hz, -⟩
  · exact absurd a c
  · exact e
  · exact absurd c b
  · exact absurd (by rw [hy, hz, nI_toInt (by omega), nI_toInt (by omega)]; omega) b
theorem shM3 (hM : MSh g hs sz ln ce) {x y z : Int32} (a : 0 ≤ x.toInt ∧ x.toInt ≤ 3) (b : ((0 ≤ y.toInt ∧ y.toInt ≤ 2) ∧ z.toInt ≤ 60)) (d : z.toInt < 0) : go L xs 153 69 0 [some (.ref 45), some (.int x), some (.int y), some (.int z), none] [] (hp g t) = some (some (.int (-14)), hp (zu g 45 0 4) t) := by
  rcases qX9_sheet (L := L) (xs := xs) (t := t) (x := x) (y := y) (z := z) hM with ⟨c, -⟩ | ⟨-, c, -⟩ | ⟨-, -, -, e⟩ | ⟨k, m, n, hk, hm, hn, hx, hy, hz, -⟩
  · exact absurd a c
  · exact absurd b c
  · exact e
  · rw [hz, nI_toInt (by omega)] at d
    omega
theorem shM4 (hM : MSh g hs sz ln ce) {k m n : Nat} (hk : k < 4) (hm : m ≤ 2) (hn : n ≤ 60) : ∃ g', (∀ a, a ≠ 67 → g' a = (zu (zu g 65 k (nI n)) 66 k (nI m)) a) ∧ (∀ i, i < n → g' 67 (60 * k + i) = 0) ∧ (∀ q, (q < 60 * k ∨ 60 * k + n ≤ q) → g' 67 q = g 67 q) ∧ go L xs 153 69 0 [some (.ref 45), some (.int (nI k)), some (.int (nI m)), some (.int (nI n)), none] [] (hp g t) = some (some (.int 1), hp (zu g' 45 0 0) t) := by
  have e1 := nI_toInt (n := k) (by omega)
  have e2 := nI_toInt (n := m) (by omega)
  have e3 := nI_toInt (n := n) (by omega)
  rcases qX9_sheet (L := L) (xs := xs) (t := t) (x := nI k) (y := nI m) (z := nI n) hM with ⟨c, -⟩ | ⟨-, c, -⟩ | ⟨-, -, c, -⟩ | ⟨k', m', n', hk', hm', hn', hx, hy, hz, e⟩
  · exact absurd (by omega) c
  · exact absurd (by omega) c
  · omega
  · rw [neq (by omega) (by omega)] at hx hy hz
    subst hx hy hz
    exact e
theorem tw_sheet (h : RLx g) {x y z : Int32} : TWi L xs 68 153 [some (.ref 0), some (.int x), some (.int y), some (.int z)] [some (.ref 45), some (.int x), some (.int y), some (.int z), none] g t := by
  obtain ⟨H, S, G, R, kd, bd, gv, rs, dr, w, f, l, rh, rd, rt, row, hs, sz, ln, ce, h⟩ := h
  obtain ⟨hT, hG, hR, hS, hK, hL, hE, hv⟩ := id h.1
  by_cases a : 0 ≤ x.toInt ∧ x.toInt ≤ 3
  · by_cases b : (0 ≤ y.toInt ∧ y.toInt ≤ 2) ∧ z.toInt ≤ 60
    · by_cases d : z.toInt < 0
      · exact ⟨_, _, t, _, t, pX8_sheet3 a b d, shM3 h.m0.2.2.2 a b d, h.ft _⟩
      · have hx := nI_back a.1
        have hy := nI_back b.1.1
        have hz := nI_back (x := z) (by omega)
        have hk : x.toInt.toNat < 4 := by omega
        have hm : y.toInt.toNat ≤ 2 := by omega
        have hn : z.toInt.toNat ≤ 60 := by omega
        generalize x.toInt.toNat = k at hx hk
        generalize y.toInt.toNat = m at hy hm
        generalize z.toInt.toNat = n at hz hn
        subst hx hy hz
        obtain ⟨g1, c1, c2, c3⟩ := pX8_sheet4 (L := L) (xs := xs) (g := g) (t := t) hk hm hn
        have F : ∀ a, a ≠ 0 → a ≠ 37 + 2 * k → a ≠ 38 + 2 * k → g1 a = g a := fun a a0 a1 a2 => by
          rw [c1 a a2, zu_o a1, zu_o a1, zu_o a1, zu_o a0]
        have F0 : g1 0 = zu g 0 10 0 0 := by
          rw [c1 0 (by omega), zu_o (by omega), zu_o (by omega), zu_o (by omega)]
        have hM1 : MP g1 H S G R kd bd gv rs dr w f l rh rd rt row hs sz ln ce := h.2.1.lo (fun a ha => F a (by omega) (by omega) (by omega))
        obtain ⟨g2, d1, d2, d3, d4⟩ := shM4 (L := L) (xs := xs) (t := t) hM1.2.2.2 hk hm hn
        have hC1 : CP g1 H S G R kd bd gv rs dr w f l rh rd rt row (ub hs k true) (uf sz k n) (uf ln k m) (fun q p => if q = k then 0 else ce q p) := by
          refine h.1.sh (fun a x1 x2 => F a x2 (by omega) (by omega)) (by rw [F0]; exact c10_8) (fun q hq => ?_)
          by_cases y1 : q = k
          · subst y1
            refine Or.inr ⟨ub_s, ?_, ?_, by rw [uf_s]; exact hn, ?_, by rw [uf_s]; exact hm, fun p hp1 => ?_⟩
            · rw [c1 _ (by omega)]; simp only [zuA, if_true]
            · rw [c1 _ (by omega), uf_s]; simp only [zuA, if_true, if_false, Nat.reduceEqDiff]
            · rw [c1 _ (by omega), uf_s]; simp only [zuA, if_true, if_false, Nat.reduceEqDiff]
            · rw [uf_s] at hp1
              rw [c2 p (by omega), if_pos rfl]
          · rw [F (37 + 2 * q) (by omega) (by omega) (by omega), F (38 + 2 * q) (by omega) (by omega) (by omega), ub_n y1, uf_n y1, uf_n y1]
            simp only [y1, if_false]
            exact hS q hq
        have E : ∀ a, a ≠ 45 → a ≠ 65 → a ≠ 66 → a ≠ 67 → zu g2 45 0 0 a = g1 a := fun a a0 a1 a2 a3 => by
          rw [zu_o a0, d1 a a3, zu_o a2, zu_o a1]
        have E45 : ∀ q, q ≠ 0 → zu g2 45 0 0 45 q = g1 45 q := fun q hq => by
          rw [m45_n hq, d1 45 (by omega), zu_o (by omega), zu_o (by omega)]
        have hM2 : MP (zu g2 45 0 0) H S G R kd bd gv rs dr w f l rh rd rt row (ub hs k true) (uf sz k n) (uf ln k m) (fun q p => if q = k then 0 else ce q p) := by
          refine hM1.sh (fun a x1 x2 => E a (by omega) (by omega) (by omega) (by omega)) E45 (fun q hq => ?_)
          rw [zu_o (a := 65) (by omega), zu_o (a := 66) (by omega), zu_o (a := 67) (by omega), d1 65 (by omega), d1 66 (by omega), zu_o (c := 66) (a := 65) (by omega), show zu (zu g1 65 k (nI n)) 66 k (nI m) 66 q = if q = k then nI m else g1 66 q by simp only [zuA, if_true, if_false, Nat.reduceEqDiff], show zu g1 65 k (nI n) 65 q = if q = k then nI n else g1 65 q by simp only [zuA, if_true]]
          by_cases y1 : q = k
          · subst y1
            simp only [if_true, uf_s]
            exact Or.inr ⟨ub_s, trivial, hn, trivial, hm, fun p hp1 => d2 p hp1⟩
          · simp only [y1, if_false, uf_n y1, ub_n y1]
            rcases hM1.2.2.2 q hq with z | ⟨z1, z2, z3, z4, z5, z6⟩
            · exact Or.inl z
            · exact Or.inr ⟨z1, z2, z3, z4, z5, fun p hp1 => by rw [d3 (60 * q + p) (by omega)]; exact z6 p hp1⟩
        refine ⟨_, _, t, _, t, c3, d4, RLp.rl ⟨hC1.tr (fun a ha => E a (by omega) (by omega) (by omega) (by omega)), hM2, ?_, ?_⟩⟩
        · rw [E 0 (by omega) (by omega) (by omega) (by omega), E45 35 (by omega), F0, c10_9, F 45 (by omega) (by omega) (by omega)]; exact h.2.2.1
        · rw [E 0 (by omega) (by omega) (by omega) (by omega), m45_0, F0, c10_10]
    · exact ⟨_, _, t, _, t, pX8_sheet2 a b, shM2 h.m0.2.2.2 a b, h.ft _⟩
  · exact ⟨_, _, t, _, t, pX8_sheet1 a, shM1 h.m0.2.2.2 a, h.ft _⟩
theorem tw_copy (h : RLx g) {x i y j n : Int32} : TWi L xs 72 159 [some (.ref 0), some (.int x), some (.int i), some (.int y), some (.int j), some (.int n), none, none] [some (.ref 45), some (.int x), some (.int i), some (.int y), some (.int j), some (.int n), none] g t := by
  obtain ⟨H, S, G, R, kd, bd, gv, rs, dr, w, f, l, rh, rd, rt, row, hs, sz, ln, ce, h⟩ := h
  obtain ⟨hT, hG, hR, hS, hK, hL, hE, hv⟩ := id h.1
  by_cases a : (0 ≤ x.toInt ∧ x.toInt ≤ 3) ∧ (0 ≤ y.toInt ∧ y.toInt ≤ 3)
  · have hx := nI_back a.1.1
    have hy := nI_back a.2.1
    have hk : x.toInt.toNat < 4 := by omega
    have ho : y.toInt.toNat < 4 := by omega
    generalize x.toInt.toNat = k at hx hk
    generalize y.toInt.toNat = o at hy ho
    subst hx hy
    by_cases b : hs k = false ∨ hs o = false
    · exact ⟨_, _, t, _, t, pX8_copy2 hS hk ho b, qX9_copy2 h.m0.2.2.2 hk ho b, h.ft _⟩
    · have h1 : hs k = true := by
        cases z : hs k with
        | true => rfl
        | false => exact absurd (Or.inl z) b
      have h2 : hs o = true := by
        cases z : hs o with
        | true => rfl
        | false => exact absurd (Or.inr z) b
      by_cases c : ln k = ln o
      · by_cases d : ((0 ≤ i.toInt ∧ 0 ≤ n.toInt) ∧ i.toInt + n.toInt ≤ sz k) ∧ ((0 ≤ j.toInt ∧ 0 ≤ n.toInt) ∧ j.toInt + n.toInt ≤ sz o)
        · have hi := nI_back d.1.1.1
          have hj := nI_back d.2.1.1
          have hn := nI_back d.1.1.2
          have d1 : i.toInt.toNat + n.toInt.toNat ≤ sz k := by omega
          have d2 : j.toInt.toNat + n.toInt.toNat ≤ sz o := by omega
          generalize i.toInt.toNat = i' at hi d1
          generalize j.toInt.toNat = j' at hj d2
          generalize n.toInt.toNat = n' at hn d1 d2
          subst hi hj hn
          obtain ⟨g1, c1, c2, c3⟩ := pX8_copy5 (L := L) (xs := xs) (t := t) hS hk ho h1 h2 c d1 d2
          have F : ∀ a, a ≠ 0 → a ≠ 38 + 2 * o → g1 a = g a := fun a a0 a1 => by rw [c1 a a1, zu_o a0]
          have F0 : g1 0 = zu g 0 10 0 0 := c1 0 (by omega)
          have hM1 : MP g1 H S G R kd bd gv rs dr w f l rh rd rt row hs sz ln ce := h.2.1.lo (fun a ha => F a (by omega) (by omega))
          obtain ⟨g2, b1, b2, b3⟩ := qX9_copy5 (L := L) (xs := xs) (t := t) hM1.2.2.2 hk ho h1 h2 c d1 d2
          have hC1 := h.1.sh (fun a x1 x2 => F a x2 (by omega)) (by rw [F0]; exact c10_8) c2
          have E : ∀ a, a ≠ 45 → a ≠ 67 → a ≠ 68 → zu g2 45 0 0 a = g1 a := fun a a0 a1 a2 => by
            rw [zu_o a0, b1 a a1 a2]
          have E45 : ∀ q, q ≠ 0 → zu g2 45 0 0 45 q = g1 45 q := fun q hq => by
            rw [m45_n hq, b1 45 (by omega) (by omega)]
          have b2' : MSh (zu g2 45 0 0) hs sz ln (fun q p => if q = o ∧ j' ≤ p ∧ p < j' + n' then ce k (i' + (p - j')) else ce q p) := by
            unfold MSh
            rw [zu_o (a := 65) (by omega), zu_o (a := 66) (by omega), zu_o (a := 67) (by omega)]
            exact b2
          have hM2 := hM1.sh (fun a x1 x2 => E a (by omega) (by omega) (by omega)) E45 b2'
          refine ⟨_, _, t, _, t, c3, b3, RLp.rl ⟨hC1.tr (fun a ha => E a (by omega) (by omega) (by omega)), hM2, ?_, ?_⟩⟩
          · rw [E 0 (by omega) (by omega) (by omega), E45 35 (by omega), F0, c10_9, F 45 (by omega) (by omega)]; exact h.2.2.1
          · rw [E 0 (by omega) (by omega) (by omega), m45_0, F0, c10_10]
        · exact ⟨_, _, t, _, t, pX8_copy4 hS hk ho h1 h2 c d, qX9_copy4 h.m0.2.2.2 hk ho h1 h2 c d, h.ft _⟩
      · exact ⟨_, _, t, _, t, pX8_copy3 hS hk ho h1 h2 c, qX9_copy3 h.m0.2.2.2 hk ho h1 h2 c, h.ft _⟩
  · exact ⟨_, _, t, _, t, pX8_copy1 a, qX9_copy1 a, h.ft _⟩
theorem fx.fv (F : fx g g') : fv g g' := ⟨fun a x1 x2 x3 x4 => F.1 a x2 x3 x4, fun a x1 x2 => F.1 a (by omega) (by omega) (by omega), fun q hq => F.2 q (by omega)⟩
theorem RLp.ff (h : RLp g H S G R kd bd gv rs dr w f l rh rd rt row hs sz ln ce) (F : fx (zu g 0 10 0) g') : RLx (zu g' 45 0 0) := by
  refine RLp.rl (show RLp _ H S G R kd bd gv rs dr w f l rh rd rt row hs sz ln ce from ⟨((h.1.c0 (by omega)).tr (fun a ha => F.1 a (by omega) (by omega) (by omega))).tr (fun a ha => zu_o (by omega)), (h.m0.fv F.fv).c45 (Or.inl rfl), ?_, ?_⟩)
  · rw [zu_o (by omega), m45_n (by omega), F.1 0 (by omega) (by omega) (by omega), F.2 35 (by omega), c10_9, zu_o (by omega)]; exact h.2.2.1
  · rw [zu_o (by omega), m45_0, F.1 0 (by omega) (by omega) (by omega), c10_10]
theorem tw_town (h : RLx g) {x y i n : Int32} : TWi L xs 48 109 [some (.ref 0), some (.int x), some (.int y), some (.int i), some (.int n), none, none] [some (.ref 45), some (.int x), some (.int y), some (.int i), some (.int n), none] g t := by
  obtain ⟨H, S, G, R, kd, bd, gv, rs, dr, w, f, l, rh, rd, rt, row, hs, sz, ln, ce, h⟩ := h
  obtain ⟨hT, hG, hR, hS, hK, hL, hE, hv⟩ := id h.1
  by_cases a : 0 ≤ x.toInt ∧ x.toInt ≤ 3
  · have hx := nI_back a.1
    have hk : x.toInt.toNat < 4 := by omega
    generalize x.toInt.toNat = k at hx hk
    subst hx
    by_cases b : 0 ≤ y.toInt ∧ y.toInt ≤ 2
    · have hy := nI_back b.1
      have hm : y.toInt.toNat ≤ 2 := by omega
      generalize y.toInt.toNat = m at hy hm
      subst hy
      cases h1 : hs k with
      | false => exact ⟨_, _, t, _, t, pX8_town4 hS hk hm h1, qX9_town4 h.m0.2.2.2 hk hm h1, h.ft _⟩
      | true =>
        by_cases c : ln k = m
        · subst c
          by_cases d : n.toInt < 0
          · exact ⟨_, _, t, _, t, pX8_town5 hS hk h1 d, qX9_town5 h.m0.2.2.2 hk h1 d, h.ft _⟩
          · by_cases e : 0 ≤ i.toInt ∧ i.toInt + n.toInt ≤ sz k
            · have hi := nI_back e.1
              have hn := nI_back (x := n) (by omega)
              have d1 : i.toInt.toNat + n.toInt.toNat ≤ sz k := by omega
              generalize i.toInt.toNat = i' at hi d1
              generalize n.toInt.toNat = n' at hn d1
              subst hi hn
              rcases pX8_town7 (L := L) (xs := xs) (t := t) hS hk h1 d1 with ⟨p, hp60, hF, e1⟩ | ⟨j, hok, g1, F, f9, f10, f8, f29, f33, t1, t2, tH, c5, c14, c15, e1⟩
              · obtain ⟨g', X, Y⟩ := qX9_town7 (L := L) (xs := xs) (t := t) (h.m0 (j := 10) (v := 0)).2.2.2 hk h1 d1
                rcases Y with ⟨p', -, hF', e2⟩ | ⟨j, hok, -⟩
                · rw [← FF_uniq hF hF'] at e2
                  exact ⟨_, _, t, _, t, e1, e2, h.ff X⟩
                · exact (FF_OK hF hok).elim
              · have hM1 : MP g1 H S G R kd bd gv rs dr w f l rh rd rt row hs sz ln ce := h.2.1.lo (fun a ha => F a (by omega) (by omega) (by omega))
                obtain ⟨g', X, Y⟩ := qX9_town7 (L := L) (xs := xs) (t := t) hM1.2.2.2 hk h1 d1
                rcases Y with ⟨p, -, hF, -⟩ | ⟨j', hok', g2, b1, b2, b3, e2⟩
                · exact (FF_OK hF hok).elim
                · have hj : j' = j := by
                    have u1 := hok.1
                    have u2 := hok'.1
                    omega
                  subst hj
                  have h7 := hok.2.2.1
                  have bds : ∀ q, q < j' → (kdo (fun q => ce k (i' + q)) q ≤ 2) ∧ (1 ≤ dgt (fun q => ce k (i' + q)) (2 + 6 * q + 2) ∧ dgt (fun q => ce k (i' + q)) (2 + 6 * q + 2) ≤ 9) ∧ (1 ≤ dgt (fun q => ce k (i' + q)) (2 + 6 * q + 3) ∧ dgt (fun q => ce k (i' + q)) (2 + 6 * q + 3) ≤ 9) ∧ (dgt (fun q => ce k (i' + q)) (2 + 6 * q + 4) ≤ 9) ∧ (1 ≤ dgt (fun q => ce k (i' + q)) (2 + 6 * q + 5) ∧ dgt (fun q => ce k (i' + q)) (2 + 6 * q + 5) ≤ 9) := fun q hq => by
                    have u0 := (hok.dg hq (i := 0) (by omega)).2
                    have u1 := (hok.dg hq (i := 1) (by omega)).2
                    have u2 := (hok.dg hq (i := 2) (by omega)).2
                    have u3 := (hok.dg hq (i := 3) (by omega)).2
                    rw [if_neg (by omega)] at u0 u1 u3
                    refine ⟨?_, u0, u1, u2.2, u3⟩
                    unfold kdo
                    split
                    · omega
                    · split <;> omega
                  have hC1 : CP g1 j' (dgt (fun q => ce k (i' + q)) 1) 0 0 (kdo (fun q => ce k (i' + q))) (fun h => dgt (fun q => ce k (i' + q)) (2 + 6 * h + 2)) (fun h => dgt (fun q => ce k (i' + q)) (2 + 6 * h + 3)) (fun h => dgt (fun q => ce k (i' + q)) (2 + 6 * h + 4)) (fun h => dgt (fun q => ce k (i' + q)) (2 + 6 * h + 5)) w f l rh rd rt row hs sz ln ce := by
                    refine CP_mk ⟨t1, h7, t2, b2, fun q hq => ?_⟩ ⟨by rw [nI_0]; exact c5, by omega, fun k hk => absurd hk (by omega), fun k _ hk => c14 k hk⟩ ⟨by rw [nI_0]; exact c15, by omega, fun k hk => absurd hk (by omega)⟩ (hS.tr (fun a _ _ => F a (by omega) (by omega) (by omega))) f8 f29 f33 (hvb_iff.mpr (fun h _ n _ => Nat.zero_le _))
                    obtain ⟨v0, v1, v2, v3, v4⟩ := tH q hq
                    obtain ⟨w0, w1, w2, w3, w4⟩ := bds q hq
                    exact ⟨⟨v0, w0⟩, ⟨v1, w1⟩, ⟨v2, w2⟩, ⟨v3, w3⟩, ⟨v4, w4⟩⟩
                  have E : ∀ a, a ≠ 45 → zu (zu (zu g2 45 13 0) 45 27 0) 45 0 0 a = g2 a := fun a a0 => by
                    rw [zu_o a0, zu_o a0, zu_o a0]
                  have E2 : ∀ a, (a < 46 ∨ 50 < a) → a ≠ 45 → g2 a = g' a := fun a a1 a0 => by
                    rw [b1 a a1, zu_o a0, zu_o a0]
                  have E45 : ∀ q, q ≠ 0 → q ≠ 13 → q ≠ 27 → zu (zu (zu g2 45 13 0) 45 27 0) 45 0 0 45 q = zu (zu g' 45 1 (nI j')) 45 2 (nI (dgt (fun q => ce k (i' + q)) 1)) 45 q := fun q q0 q1 q2 => by
                    rw [← b1 45 (by omega)]
                    simp only [zuA, if_true, q0, q1, q2, if_false]
                  have hM2 : MP (zu (zu (zu g2 45 13 0) 45 27 0) 45 0 0) j' (dgt (fun q => ce k (i' + q)) 1) 0 0 (kdo (fun q => ce k (i' + q))) (fun h => dgt (fun q => ce k (i' + q)) (2 + 6 * h + 2)) (fun h => dgt (fun q => ce k (i' + q)) (2 + 6 * h + 3)) (fun h => dgt (fun q => ce k (i' + q)) (2 + 6 * h + 4)) (fun h => dgt (fun q => ce k (i' + q)) (2 + 6 * h + 5)) w f l rh rd rt row hs sz ln ce := by
                    refine ⟨⟨?_, h7, ?_, b2, fun q hq => ?_⟩, ⟨?_, by omega, fun k hk => absurd hk (by omega)⟩, ⟨?_, by omega, fun k hk => absurd hk (by omega)⟩, ?_⟩
                    · rw [E45 1 (by omega) (by omega) (by omega)]; simp only [zuA, if_true, if_false, Nat.reduceEqDiff]
                    · rw [E45 2 (by omega) (by omega) (by omega)]; simp only [zuA, if_true]
                    · rw [E 46 (by omega), E 47 (by omega), E 48 (by omega), E 49 (by omega), E 50 (by omega)]
                      obtain ⟨v0, v1, v2, v3, v4⟩ := b3 q hq
                      obtain ⟨w0, w1, w2, w3, w4⟩ := bds q hq
                      exact ⟨⟨v0, w0⟩, ⟨v1, w1⟩, ⟨v2, w2⟩, ⟨v3, w3⟩, ⟨v4, w4⟩⟩
                    · rw [nI_0]; simp only [zuA, if_true, if_false, Nat.reduceEqDiff]
                    · rw [nI_0]; simp only [zuA, if_true, if_false, Nat.reduceEqDiff]
                    · unfold MSh
                      rw [E 65 (by omega), E 66 (by omega), E 67 (by omega), E2 65 (by omega) (by omega), E2 66 (by omega) (by omega), E2 67 (by omega) (by omega), X.1 65 (by omega) (by omega) (by omega), X.1 66 (by omega) (by omega) (by omega), X.1 67 (by omega) (by omega) (by omega)]
                      exact hM1.2.2.2
                  have Z : ∀ a, a < 45 → zu (zu (zu g2 45 13 0) 45 27 0) 45 0 0 a = g1 a := fun a ha => by
                    rw [E a (by omega), E2 a (by omega) (by omega), X.1 a (by omega) (by omega) (by omega)]
                  refine ⟨_, _, t, _, t, e1, e2, RLp.rl ⟨hC1.tr Z, hM2, ?_, ?_⟩⟩
                  · rw [Z 0 (by omega), E45 35 (by omega) (by omega) (by omega), f9, h.2.2.1, ← F 45 (by omega) (by omega) (by omega), ← X.2 35 (by omega)]
                    simp only [zuA, if_true, if_false, Nat.reduceEqDiff]
                  · rw [Z 0 (by omega), m45_0]; exact f10
            · exact ⟨_, _, t, _, t, pX8_town6 hS hk h1 d e, qX9_town6 h.m0.2.2.2 hk h1 d e, h.ft _⟩
        · exact ⟨_, _, t, _, t, pX8_town3 hS hk hm h1 c, qX9_town3 h.m0.2.2.2 hk hm h1 c, h.ft _⟩
    · exact ⟨_, _, t, _, t, pX8_town2 hk b, qX9_town2 hk b, h.ft _⟩
  · exact ⟨_, _, t, _, t, pX8_town1 a, qX9_town1 a, h.ft _⟩
end R3
