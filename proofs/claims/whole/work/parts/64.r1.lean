/-! Both at once: the relation, the questions. -/
/-- the class's cells hold the state -/
def CP (g : Nat → Nat → Int32) (H S G R : Nat) (kd bd gv rs dr w f l rh rd rt : Nat → Nat) (row : Nat → Int32) (hs : Nat → Bool) (sz ln : Nat → Nat) (ce : Nat → Nat → Int32) : Prop := CTn g H S kd bd gv rs dr ∧ CGs g H G w f l row ∧ CRs g H R rh rd rt ∧ CSh g hs sz ln ce ∧ CK g H G kd gv rs w f l row ∧ CL H G kd bd gv rs w f l g S row ∧ CE H G kd bd gv rs w f l g row ∧ hvb H G bd f l row = true
/-- the reference's cells hold the state -/
def MP (g : Nat → Nat → Int32) (H S G R : Nat) (kd bd gv rs dr w f l rh rd rt : Nat → Nat) (row : Nat → Int32) (hs : Nat → Bool) (sz ln : Nat → Nat) (ce : Nat → Nat → Int32) : Prop := MTn g H S kd bd gv rs dr ∧ MGs g H G w f l row ∧ MRs g H R rh rd rt ∧ MSh g hs sz ln ce
def RLp (g : Nat → Nat → Int32) (H S G R : Nat) (kd bd gv rs dr w f l rh rd rt : Nat → Nat) (row : Nat → Int32) (hs : Nat → Bool) (sz ln : Nat → Nat) (ce : Nat → Nat → Int32) : Prop := CP g H S G R kd bd gv rs dr w f l rh rd rt row hs sz ln ce ∧ MP g H S G R kd bd gv rs dr w f l rh rd rt row hs sz ln ce ∧ g 0 9 = g 45 35 ∧ g 0 10 = g 45 0
/-- both hold the same -/
def RLx (g : Nat → Nat → Int32) : Prop := ∃ (H S G R : Nat) (kd bd gv rs dr w f l rh rd rt : Nat → Nat) (row : Nat → Int32) (hs : Nat → Bool) (sz ln : Nat → Nat) (ce : Nat → Nat → Int32), RLp g H S G R kd bd gv rs dr w f l rh rd rt row hs sz ln ce
section R1
variable {L : Nat} {xs : Nat → Int32} {g g' g1 g2 : Nat → Nat → Int32} {t : Nat → Int64}
variable {H S G R : Nat} {kd bd gv rs dr w f l rh rd rt : Nat → Nat} {row : Nat → Int32}
variable {hs : Nat → Bool} {sz ln : Nat → Nat} {ce : Nat → Nat → Int32}
theorem RLp.rl (h : RLp g H S G R kd bd gv rs dr w f l rh rd rt row hs sz ln ce) : RLx g := ⟨H, S, G, R, kd, bd, gv, rs, dr, w, f, l, rh, rd, rt, row, hs, sz, ln, ce, h⟩
theorem CTn.t9 (hT : CTn g H S kd bd gv rs dr) (F : ∀ a, 1 ≤ a → a ≤ 9 → g' a = g a) : CTn g' H S kd bd gv rs dr := by
  have h7 := hT.2.1
  refine ⟨(by rw [F 1 (by omega) (by omega)]; exact hT.1), h7, (by rw [F 1 (by omega) (by omega)]; exact hT.2.2.1), hT.2.2.2.1, fun q hq => ?_⟩
  rw [F (3 + q) (by omega) (by omega)]
  exact hT.2.2.2.2 q hq
theorem CRs.t9 (hR : CRs g H R rh rd rt) (F : ∀ a, 15 ≤ a → a ≤ 18 → g' a = g a) : CRs g' H R rh rd rt := by
  unfold CRs
  rw [F 15 (by omega) (by omega), F 16 (by omega) (by omega), F 17 (by omega) (by omega), F 18 (by omega) (by omega)]
  exact hR
theorem CGs.t9 (hG : CGs g H G w f l row) (F : ∀ a, 10 ≤ a → a ≤ 14 → g' a = g a) : CGs g' H G w f l row := by
  unfold CGs
  rw [F 10 (by omega) (by omega), F 11 (by omega) (by omega), F 12 (by omega) (by omega), F 13 (by omega) (by omega), F 14 (by omega) (by omega)]
  exact hG
theorem CK.t9 (hK : CK g H G kd gv rs w f l row) (F0 : g' 0 8 = g 0 8) (F : g' 20 = g 20) : CK g' H G kd gv rs w f l row := by
  unfold CK
  rw [F0, F]
  exact hK
theorem CL.t9 (hL : CL H G kd bd gv rs w f l g S row) (F1 : g' 29 6 = g 29 6) (F2 : g' 31 = g 31) (F3 : g' 32 = g 32) : CL H G kd bd gv rs w f l g' S row := by
  obtain ⟨m, m1, m2, m3⟩ := hL
  refine ⟨m, m1, by rw [F1]; exact m2, fun k a b c => ?_⟩
  unfold LGk
  rw [F2, F3]
  exact m3 k a b c
theorem CE.t9 (hE : CE H G kd bd gv rs w f l g row) (F1 : g' 33 = g 33) (F2 : g' 35 = g 35) : CE H G kd bd gv rs w f l g' row := by
  unfold CE EK
  rw [F1, F2]
  exact hE
theorem CP.tr (h : CP g H S G R kd bd gv rs dr w f l rh rd rt row hs sz ln ce) (F : ∀ a, a < 45 → g' a = g a) : CP g' H S G R kd bd gv rs dr w f l rh rd rt row hs sz ln ce := by
  obtain ⟨hT, hG, hR, hS, hK, hL, hE, hv⟩ := h
  exact ⟨hT.t9 (fun a _ _ => F a (by omega)), hG.t9 (fun a _ _ => F a (by omega)), hR.t9 (fun a _ _ => F a (by omega)), hS.tr (fun a _ _ => F a (by omega)), hK.t9 (by rw [F 0 (by omega)]) (F 20 (by omega)), hL.t9 (by rw [F 29 (by omega)]) (F 31 (by omega)) (F 32 (by omega)), hE.t9 (F 33 (by omega)) (F 35 (by omega)), hv⟩
theorem MP.fv (h : MP g H S G R kd bd gv rs dr w f l rh rd rt row hs sz ln ce) (F : fv g g') : MP g' H S G R kd bd gv rs dr w f l rh rd rt row hs sz ln ce := by
  obtain ⟨hT, hG, hR, hM⟩ := h
  refine ⟨?_, ?_, ?_, ?_⟩
  · refine ⟨by rw [F.2.2 1 (by omega)]; exact hT.1, hT.2.1, by rw [F.2.2 2 (by omega)]; exact hT.2.2.1, hT.2.2.2.1, ?_⟩
    rw [F.1 46 (by omega) (by omega) (by omega) (by omega), F.1 47 (by omega) (by omega) (by omega) (by omega), F.1 48 (by omega) (by omega) (by omega) (by omega), F.1 49 (by omega) (by omega) (by omega) (by omega), F.1 50 (by omega) (by omega) (by omega) (by omega)]
    exact hT.2.2.2.2
  · refine ⟨by rw [F.2.2 13 (by omega)]; exact hG.1, hG.2.1, ?_⟩
    rw [F.1 53 (by omega) (by omega) (by omega) (by omega), F.1 54 (by omega) (by omega) (by omega) (by omega), F.1 55 (by omega) (by omega) (by omega) (by omega), F.1 56 (by omega) (by omega) (by omega) (by omega)]
    exact hG.2.2
  · refine ⟨by rw [F.2.2 27 (by omega)]; exact hR.1, hR.2.1, ?_⟩
    rw [F.2.1 62 (by omega) (by omega), F.2.1 63 (by omega) (by omega), F.2.1 64 (by omega) (by omega)]
    exact hR.2.2
  · unfold MSh
    rw [F.2.1 65 (by omega) (by omega), F.2.1 66 (by omega) (by omega), F.2.1 67 (by omega) (by omega)]
    exact hM
theorem MP.lo (h : MP g H S G R kd bd gv rs dr w f l rh rd rt row hs sz ln ce) (F : ∀ a, 45 ≤ a → g' a = g a) : MP g' H S G R kd bd gv rs dr w f l rh rd rt row hs sz ln ce := by
  obtain ⟨hT, hG, hR, hM⟩ := h
  unfold MP MTn MGs MRs MSh
  rw [F 45 (by omega), F 46 (by omega), F 47 (by omega), F 48 (by omega), F 49 (by omega), F 50 (by omega), F 53 (by omega), F 54 (by omega), F 55 (by omega), F 56 (by omega), F 62 (by omega), F 63 (by omega), F 64 (by omega), F 65 (by omega), F 66 (by omega), F 67 (by omega)]
  exact ⟨hT, hG, hR, hM⟩
/-- a call of the class, then one of the reference, both by the same answer -/
def TWi (L : Nat) (xs : Nat → Int32) (i j : Nat) (A B : zLs) (g : Nat → Nat → Int32) (t : Nat → Int64) : Prop := ∃ v g1 t1 g2 t2, go L xs i 69 0 A [] (hp g t) = some (some (.int v), hp g1 t1) ∧ go L xs j 69 0 B [] (hp g1 t1) = some (some (.int v), hp g2 t2) ∧ RLx g2
def TWl (L : Nat) (xs : Nat → Int32) (i j : Nat) (A B : zLs) (g : Nat → Nat → Int32) (t : Nat → Int64) : Prop := ∃ v g1 t1 g2 t2, go L xs i 69 0 A [] (hp g t) = some (some (.long v), hp g1 t1) ∧ go L xs j 69 0 B [] (hp g1 t1) = some (some (.long v), hp g2 t2) ∧ RLx g2
theorem RLp.q (h : RLp g H S G R kd bd gv rs dr w f l rh rd rt row hs sz ln ce) (hC : CP g1 H S G R kd bd gv rs dr w f l rh rd rt row hs sz ln ce) (F : cf g g1) (F2 : fv g1 g2) : RLp g2 H S G R kd bd gv rs dr w f l rh rd rt row hs sz ln ce := by
  obtain ⟨-, hM, h9, h10⟩ := h
  refine ⟨hC.tr (fun a ha => F2.1 a (by omega) (by omega) (by omega) (by omega)), (hM.lo (fun a ha => F.2.2.2.1 a (by omega))).fv F2, ?_, ?_⟩
  · rw [F2.1 0 (by omega) (by omega) (by omega) (by omega), F.2.2.2.2.1, h9, F2.2.2 35 (by omega), F.2.2.2.1 45 (by omega)]
  · rw [F2.1 0 (by omega) (by omega) (by omega) (by omega), F.2.2.2.2.2, h10, F2.2.2 0 (by omega), F.2.2.2.1 45 (by omega)]
theorem CP.qn (h : CP g H S G R kd bd gv rs dr w f l rh rd rt row hs sz ln ce) (Q : qn g g1 H G kd gv rs w f l row) : CP g1 H S G R kd bd gv rs dr w f l rh rd rt row hs sz ln ce := by
  obtain ⟨hT, hG, hR, hS, hK, hL, hE, hv⟩ := h
  exact ⟨Q.1.town hT, Q.1.guests hG, Q.1.reads hR, hS.tr (fun a _ _ => Q.2.1 a (by omega)), Q.2.2, hL.t9 (by rw [Q.2.1 29 (by omega)]) (Q.2.1 31 (by omega)) (Q.2.1 32 (by omega)), hE.t9 (Q.2.1 33 (by omega)) (Q.2.1 35 (by omega)), hv⟩
theorem CP.qt (h : CP g H S G R kd bd gv rs dr w f l rh rd rt row hs sz ln ce) (Q : qt g g1) : CP g1 H S G R kd bd gv rs dr w f l rh rd rt row hs sz ln ce := h.qn (Q.qn h.2.2.2.2.1)
theorem CP.ql (h : CP g H S G R kd bd gv rs dr w f l rh rd rt row hs sz ln ce) (Q : ql g g1) (hL : CL H G kd bd gv rs w f l g1 S row) : CP g1 H S G R kd bd gv rs dr w f l rh rd rt row hs sz ln ce := by
  obtain ⟨hT, hG, hR, hS, hK, -, hE, hv⟩ := h
  exact ⟨Q.cf.town hT, Q.cf.guests hG, Q.cf.reads hR, hS.tr (fun a _ _ => Q a (by omega)), hK.t9 (by rw [Q 0 (by omega)]) (Q 20 (by omega)), hL, hE.t9 (Q 33 (by omega)) (Q 35 (by omega)), hv⟩
theorem CP.qd (h : CP g H S G R kd bd gv rs dr w f l rh rd rt row hs sz ln ce) (Q : qd g g1) (hE : CE H G kd bd gv rs w f l g1 row) : CP g1 H S G R kd bd gv rs dr w f l rh rd rt row hs sz ln ce := by
  obtain ⟨hT, hG, hR, hS, hK, hL, -, hv⟩ := h
  exact ⟨Q.cf.town hT, Q.cf.guests hG, Q.cf.reads hR, hS.tr (fun a _ _ => Q a (by omega)), hK.t9 (by rw [Q 0 (by omega)]) (Q 20 (by omega)), hL.t9 (by rw [Q 29 (by omega)]) (Q 31 (by omega)) (Q 32 (by omega)), hE, hv⟩
theorem RLp.m (h : RLp g H S G R kd bd gv rs dr w f l rh rd rt row hs sz ln ce) (F : cf g g1) : MP g1 H S G R kd bd gv rs dr w f l rh rd rt row hs sz ln ce := h.2.1.lo (fun a ha => F.2.2.2.1 a (by omega))
theorem tw_depth (h : RLx g) {x y : Int32} : TWi L xs 53 129 [some (.ref 0), some (.int x), some (.int y)] [some (.ref 45), some (.int x), some (.int y)] g t := by
  obtain ⟨H, S, G, R, kd, bd, gv, rs, dr, w, f, l, rh, rd, rt, row, hs, sz, ln, ce, h⟩ := h
  obtain ⟨hT, hG, hR, hS, hK, hL, hE, hv⟩ := id h.1
  obtain ⟨g1, t1, Q, e1⟩ := pX8_depth (L := L) (xs := xs) (t := t) (x := x) (y := y) hT hG hK
  have hM := h.m Q.1
  obtain ⟨g2, F, e2⟩ := qX9_depth (L := L) (xs := xs) (t := t1) (x := x) (y := y) hM.1 hM.2.1
  exact ⟨_, g1, t1, g2, t1, e1, e2, (h.q (h.1.qn Q) Q.1 F.fv).rl⟩
theorem tw_reach (h : RLx g) {x y : Int32} : TWi L xs 54 130 [some (.ref 0), some (.int x), some (.int y), none, none, none] [some (.ref 45), some (.int x), some (.int y), none, none] g t := by
  obtain ⟨H, S, G, R, kd, bd, gv, rs, dr, w, f, l, rh, rd, rt, row, hs, sz, ln, ce, h⟩ := h
  obtain ⟨hT, hG, hR, hS, hK, hL, hE, hv⟩ := id h.1
  obtain ⟨g1, t1, Q, e1⟩ := pX8_reach (L := L) (xs := xs) (t := t) (x := x) (y := y) hT hG hK
  have hM := h.m Q.1
  obtain ⟨g2, F, e2⟩ := qX9_reach (L := L) (xs := xs) (t := t1) (x := x) (y := y) hM.1 hM.2.1
  exact ⟨_, g1, t1, g2, t1, e1, e2, (h.q (h.1.qn Q) Q.1 F.fv).rl⟩
theorem tw_planks (h : RLx g) {x : Int32} : TWi L xs 55 131 [some (.ref 0), some (.int x), none, none, none] [some (.ref 45), some (.int x)] g t := by
  obtain ⟨H, S, G, R, kd, bd, gv, rs, dr, w, f, l, rh, rd, rt, row, hs, sz, ln, ce, h⟩ := h
  obtain ⟨hT, hG, hR, hS, hK, hL, hE, hv⟩ := id h.1
  obtain ⟨g1, t1, Q, e1⟩ := pX8_planks (L := L) (xs := xs) (t := t) (x := x) hT hG hK
  have hM := h.m Q.1
  obtain ⟨g2, F, e2⟩ := qX9_planks (L := L) (xs := xs) (t := t1) (x := x) hM.1 hM.2.1
  exact ⟨_, g1, t1, g2, t1, e1, e2, (h.q (h.1.qn Q) Q.1 F.fv).rl⟩
theorem tw_under (h : RLx g) {x : Int32} : TWi L xs 56 132 [some (.ref 0), some (.int x), none, none, none] [some (.ref 45), some (.int x), none, none] g t := by
  obtain ⟨H, S, G, R, kd, bd, gv, rs, dr, w, f, l, rh, rd, rt, row, hs, sz, ln, ce, h⟩ := h
  obtain ⟨hT, hG, hR, hS, hK, hL, hE, hv⟩ := id h.1
  obtain ⟨g1, t1, Q, e1⟩ := pX8_under (L := L) (xs := xs) (t := t) (x := x) hT hG hK
  have hM := h.m Q.1
  obtain ⟨g2, F, e2⟩ := qX9_under (L := L) (xs := xs) (t := t1) (x := x) hM.1 hM.2.1
  exact ⟨_, g1, t1, g2, t1, e1, e2, (h.q (h.1.qn Q) Q.1 F.fv).rl⟩
theorem tw_open (h : RLx g) {x y : Int32} : TWl L xs 57 133 [some (.ref 0), some (.int x), some (.int y), none, none, none] [some (.ref 45), some (.int x), some (.int y), none, none] g t := by
  obtain ⟨H, S, G, R, kd, bd, gv, rs, dr, w, f, l, rh, rd, rt, row, hs, sz, ln, ce, h⟩ := h
  obtain ⟨hT, hG, hR, hS, hK, hL, hE, hv⟩ := id h.1
  obtain ⟨g1, t1, Q, e1⟩ := pX8_open (L := L) (xs := xs) (t := t) (x := x) (y := y) hT hG hK
  have hM := h.m Q.1
  obtain ⟨g2, F, e2⟩ := qX9_open (L := L) (xs := xs) (t := t1) (x := x) (y := y) hM.1 hM.2.1
  exact ⟨_, g1, t1, g2, t1, e1, e2, (h.q (h.1.qn Q) Q.1 F.fv).rl⟩
theorem tw_way (h : RLx g) {x y z : Int32} : TWi L xs 60 139 [some (.ref 0), some (.int x), some (.int y), some (.int z), none, none, none] [some (.ref 45), some (.int x), some (.int y), some (.int z), none, none, none, none] g t := by
  obtain ⟨H, S, G, R, kd, bd, gv, rs, dr, w, f, l, rh, rd, rt, row, hs, sz, ln, ce, h⟩ := h
  obtain ⟨hT, hG, hR, hS, hK, hL, hE, hv⟩ := id h.1
  obtain ⟨g1, t1, Q, e1⟩ := pX8_way (L := L) (xs := xs) (t := t) (x := x) (y := y) (z := z) hT hG hK
  have hM := h.m Q.1
  obtain ⟨g2, F, e2⟩ := qX9_way (L := L) (xs := xs) (t := t1) (x := x) (y := y) (z := z) hM.1 hM.2.1
  exact ⟨_, g1, t1, g2, t1, e1, e2, (h.q (h.1.qn Q) Q.1 F.fv).rl⟩
theorem tw_right (h : RLx g) : TWi L xs 63 143 [some (.ref 0)] [some (.ref 45)] g t := by
  obtain ⟨H, S, G, R, kd, bd, gv, rs, dr, w, f, l, rh, rd, rt, row, hs, sz, ln, ce, h⟩ := h
  obtain ⟨hT, hG, hR, hS, hK, hL, hE, hv⟩ := id h.1
  obtain ⟨g1, t1, Q, e1⟩ := pX8_right (L := L) (xs := xs) (t := t) hT hG hK hR
  have hM := h.m Q.1
  obtain ⟨g2, F, e2⟩ := qX9_right (L := L) (xs := xs) (t := t1) hM.1 hM.2.1 hM.2.2.1
  exact ⟨_, g1, t1, g2, t1, e1, e2, (h.q (h.1.qn Q) Q.1 F.fv).rl⟩
theorem tw_piles (h : RLx g) {x : Int32} : TWi L xs 65 146 [some (.ref 0), some (.int x), none, none, none, none] [some (.ref 45), some (.int x), none, none, none, none] g t := by
  obtain ⟨H, S, G, R, kd, bd, gv, rs, dr, w, f, l, rh, rd, rt, row, hs, sz, ln, ce, h⟩ := h
  obtain ⟨hT, hG, hR, hS, hK, hL, hE, hv⟩ := id h.1
  obtain ⟨g1, t1, Q, e1⟩ := pX8_piles (L := L) (xs := xs) (t := t) (x := x) hT hG
  have hM := h.m Q.1
  obtain ⟨g2, F, e2⟩ := qX9_piles (L := L) (xs := xs) (t := t1) (x := x) hM.1 hM.2.1
  exact ⟨_, g1, t1, g2, t1, e1, e2, (h.q (h.1.qt Q) Q.1 F.fv).rl⟩
theorem tw_feast (h : RLx g) {x y z : Int32} : TWi L xs 59 138 [some (.ref 0), some (.int x), some (.int y), some (.int z), none] [some (.ref 45), some (.int x), some (.int y), some (.int z), none] g t := by
  obtain ⟨H, S, G, R, kd, bd, gv, rs, dr, w, f, l, rh, rd, rt, row, hs, sz, ln, ce, h⟩ := h
  obtain ⟨hT, hG, hR, hS, hK, hL, hE, hv⟩ := id h.1
  obtain ⟨g1, t1, Q, e1⟩ := pX8_feast (L := L) (xs := xs) (t := t) (x := x) (y := y) (z := z) hT hG
  have hM := h.m Q.1
  obtain ⟨g2, F, e2⟩ := qX9_feast (L := L) (xs := xs) (t := t1) (x := x) (y := y) (z := z) hM.1 hM.2.1
  exact ⟨_, g1, t1, g2, t1, e1, e2, (h.q (h.1.qt Q) Q.1 F.fv).rl⟩
theorem tw_unseen (h : RLx g) {x : Int32} : TWi L xs 64 144 [some (.ref 0), some (.int x), none, none, none, none] [some (.ref 45), some (.int x), none, none, none, none] g t := by
  obtain ⟨H, S, G, R, kd, bd, gv, rs, dr, w, f, l, rh, rd, rt, row, hs, sz, ln, ce, h⟩ := h
  obtain ⟨hT, hG, hR, hS, hK, hL, hE, hv⟩ := id h.1
  obtain ⟨g1, t1, Q, e1⟩ := pX8_unseen (L := L) (xs := xs) (t := t) (x := x) hT hG hR
  have hM := h.m Q.1
  obtain ⟨g2, F, e2⟩ := qX9_unseen (L := L) (xs := xs) (t := t1) (x := x) hM.1 hM.2.1 hM.2.2.1
  exact ⟨_, g1, t1, g2, t1, e1, e2, (h.q (h.1.qt Q) Q.1 F.fv).rl⟩
theorem tw_lodgings (h : RLx g) {x y : Int32} : TWi L xs 58 137 [some (.ref 0), some (.int x), some (.int y)] [some (.ref 45), some (.int x), some (.int y), none, none, none, none, none, none] g t := by
  obtain ⟨H, S, G, R, kd, bd, gv, rs, dr, w, f, l, rh, rd, rt, row, hs, sz, ln, ce, h⟩ := h
  obtain ⟨hT, hG, hR, hS, hK, hL, hE, hv⟩ := id h.1
  obtain ⟨g1, t1, Q, hL1, e1⟩ := pX8_lodgings (L := L) (xs := xs) (t := t) (x := x) (y := y) hT hG hL
  have hM := h.m Q.cf
  obtain ⟨g2, F, e2⟩ := qX9_lodgings (L := L) (xs := xs) (t := t1) (x := x) (y := y) hM.1 hM.2.1
  exact ⟨_, g1, t1, g2, t1, e1, e2, (h.q (h.1.ql Q hL1) Q.cf F).rl⟩
theorem tw_settles (h : RLx g) : TWi L xs 66 150 [some (.ref 0)] [some (.ref 45), none, none] g t := by
  obtain ⟨H, S, G, R, kd, bd, gv, rs, dr, w, f, l, rh, rd, rt, row, hs, sz, ln, ce, h⟩ := h
  obtain ⟨hT, hG, hR, hS, hK, hL, hE, hv⟩ := id h.1
  obtain ⟨g1, t1, Q, hE1, e1⟩ := pX8_settles (L := L) (xs := xs) (t := t) hT hG hv hE
  have hM := h.m Q.cf
  obtain ⟨g2, F, e2⟩ := qX9_settles (L := L) (xs := xs) (t := t1) (bd := bd) hM.1 hM.2.1
  exact ⟨_, g1, t1, g2, t1, e1, e2, (h.q (h.1.qd Q hE1) Q.cf F).rl⟩
theorem tw_after (h : RLx g) {x y : Int32} : TWi L xs 67 151 [some (.ref 0), some (.int x), some (.int y)] [some (.ref 45), some (.int x), some (.int y), none] g t := by
  obtain ⟨H, S, G, R, kd, bd, gv, rs, dr, w, f, l, rh, rd, rt, row, hs, sz, ln, ce, h⟩ := h
  obtain ⟨hT, hG, hR, hS, hK, hL, hE, hv⟩ := id h.1
  obtain ⟨g1, t1, Q, hE1, e1⟩ := pX8_after (L := L) (xs := xs) (t := t) (x := x) (y := y) hT hG hv hE
  have hM := h.m Q.cf
  obtain ⟨g2, F, e2⟩ := qX9_after (L := L) (xs := xs) (t := t1) (x := x) (y := y) hM.1 hM.2.1
  exact ⟨_, g1, t1, g2, t1, e1, e2, (h.q (h.1.qd Q hE1) Q.cf F).rl⟩
end R1
