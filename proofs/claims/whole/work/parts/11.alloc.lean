/-! Soundness of what makes cells. -/
theorem zWf_parts {n : Nat} {ls : zLs} {st : List Value} {r : List (List (Option Nat))} (h : zWf n ls st r = true) : ls.all (zWo n) = true ∧ st.all (zWv n) = true ∧ zWr n r = true ∧ r.length = n := by
  unfold zWf at h
  simp only [Bool.and_eq_true, Nat.beq_eq] at h
  exact ⟨h.1.1.1, h.1.1.2, h.1.2, h.2⟩
theorem zNew_sr (h : zH) (hl : h.2.1.length = h.1.length) (t n f : Nat) : zsr (zNew h t n) h.1.length f = none := by
  unfold zsr zNew
  dsimp only
  rw [List.getElem?_append_right (by omega), hl, Nat.sub_self]
  show (Option.bind (some _) _).join = none
  rw [Option.bind_some]
  cases (Nat.beq t 10 || Nat.beq t 11)
  · show ((List.replicate n none)[f]?).join = none
    by_cases hf : f < n
    · rw [List.getElem?_replicate, if_pos hf]; rfl
    · rw [List.getElem?_replicate, if_neg hf]; rfl
  · rfl
theorem zNew_at (h : zH) (t n : Nat) : (zNew h t n).2.2.1 h.1.length = (fun _ => 0) ∧ (zNew h t n).2.2.2 h.1.length = 0 := by
  refine ⟨?_, ?_⟩
  · funext j
    show (if h.1.length = h.1.length then _ else _) = _
    rw [if_pos rfl]
  · show (if h.1.length = h.1.length then _ else _) = _
    rw [if_pos rfl]
theorem zdef {h : zH} (hl : h.2.1.length = h.1.length) (ad : Nat → Nat) {c : Nat} (hc : c < 10) (n : Nat) : ∀ j, j < zNF c → defaultValue (zTy c j) = vp_V ((List.range (zNF c)).map (fun f => zVal ad (zNew h c n) c h.1.length f)) j := by
  intro j hj
  unfold vp_V
  rw [List.getD_eq_getElem?_getD, List.getElem?_map, List.getElem?_range hj]
  show _ = zVal ad (zNew h c n) c h.1.length j
  unfold zVal
  rw [(zNew_at h c n).1, (zNew_at h c n).2, zNew_sr h hl]
  have hr := zRefOk c (List.mem_range.mpr hc) j (List.mem_range.mpr hj)
  generalize zTy c j = t at hr ⊢
  cases t <;> first | rfl | (exact absurd (hr rfl) (by simp [zIsR]))
theorem zAl_eq {i n0 len : Nat} {ins : Instr} {zl : zLs} {st : List Value} {h : zH} {r : List Value × zH} (hz : zAl i n0 ins len zl st h = some r) : (zWf h.1.length zl st h.2.1 && Nat.blt h.1.length (n0 + zMc i)) = true ∧ zAlI i ins len st h = some r := by
  unfold zAl at hz
  split at hz
  · exact zifc hz
  · exact zifc hz
  · exact zifc hz
  · cases hz
section ZA
variable {p : Program} {l : Launch} {e : Env} {R : Room} {s : State} {m : MethodId} {args : Array Value} {below : List Frame} {meth : Method} {c : Code} {H : Heap} {locs : List Loc} {Q : State → Prop}
variable {i n0 pc len b L : Nat} {xs : Nat → Int32} {ad : Nat → Nat} {D : va_G} {cs : zCs} {A : Nat → Prop} {ls : Array Slot} {zl : zLs} {ins : Instr} {h h' : zH} {st st' : List Value}
theorem zK_id {k : Nat} {q : ClassId × FieldType} {ty : FieldType} {cA : ClassId} (hK : va_K D vwCl (zTys cs) s) (hq : (zTys cs)[k]? = some q) (ht : q.2 = ty) (hK2 : va_K D vwCl (zTys cs ++ [(cA, ty)]) s) (hr : ∀ a a', va_RA s a ty → va_RA s a' ty → a = a') : cA = q.1 := by
  have h1 := (hK.2 k q hq).2
  have h2 := (hK2.2 4 (cA, ty) (by simp [zTys])).2
  rw [ht] at h1
  exact hr _ _ h2 h1
theorem zRA_int (a a' : ClassId) (h : va_RA s a .int) (h' : va_RA s a' .int) : a = a' := Option.some.inj ((show s.vm.findClass _ = some a from h).symm.trans (show s.vm.findClass _ = some a' from h'))
theorem zRA_bool (a a' : ClassId) (h : va_RA s a .boolean) (h' : va_RA s a' .boolean) : a = a' := Option.some.inj ((show s.vm.findClass _ = some a from h).symm.trans (show s.vm.findClass _ = some a' from h'))
theorem zRA_obj (C : String) (a a' : ClassId) (h : va_RA s a (.object C)) (h' : va_RA s a' (.object C)) : a = a' := by
  obtain ⟨_, _, _, _, _, h1⟩ := h
  obtain ⟨_, _, _, _, _, h2⟩ := h'
  exact Option.some.inj (h1.symm.trans h2)
theorem zs_al (Cx : zCx D cs b L xs A i p R s m args meth c) (hd : decode (zB i) pc = .ok (ins, len)) (hP : va_P D vwCl (zWd cs ad h) H) (hD : va_D A (zWd cs ad h)) (hS : va_S A s.heap H locs) (hL : zLV b ad (zML i) zl ls) (hn : n0 ≤ h.1.length) (hz : zAl i n0 ins len zl st h = some (st', h'))
    (kk : ∀ (ad' : Nat → Nat) (H1 : Heap), (∀ k, k < h.1.length → ad' k = ad k) → va_P D vwCl (zWd cs ad' h') H1 → va_D A (zWd cs ad' h') → va_S A s.heap H1 locs → zLV b ad' (zML i) zl ls → W p l e R s m args below meth c H1 locs (h'.1.length - n0) (500 * (h'.1.length - n0)) Q (F0 m (pc + len) ls (st'.map (zv b ad')))) : W p l e R s m args below meth c H locs (h.1.length - n0) (500 * (h.1.length - n0)) Q (F0 m pc ls (st.map (zv b ad))) := by
  obtain ⟨hx, hb, hml, hown, hts, hnw, hini, hK, hX, hbl, hbA, hA, hR1, hR2, hR3, hR4⟩ := id Cx
  have hq := zAl_eq hz
  clear hz
  obtain ⟨hw, hz⟩ := hq
  unfold zAlI at hz
  simp only [Bool.and_eq_true, Nat.blt_eq] at hw
  obtain ⟨hw, hroom⟩ := hw
  obtain ⟨w1, w2, w3, w4⟩ := zWf_parts hw
  have hup : ∀ q k, k < h.1.length → va_up ad h.1.length q k = ad k := fun q k hk => by unfold va_up; rw [if_neg (Nat.ne_of_lt hk)]
  have len' : ∀ t n, (zNew h t n).1.length = h.1.length + 1 := fun t n => by simp [zNew]
  -- what is behind every making of a cell
  have go : ∀ (t n q : Nat) (st0 : List Value) (N' d : Nat) (H1 : Heap), N' ≤ 500 → st0.all (zWv h.1.length) = true → (h' = zNew h t n ∧ st' = .ref h.1.length :: st0) → va_P D vwCl (zWd cs ad h ++ [(q, zEnt cs (va_up ad h.1.length q) (zNew h t n) h.1.length (t, n))]) H1 → va_D A (zWd cs ad h ++ [(q, zEnt cs (va_up ad h.1.length q) (zNew h t n) h.1.length (t, n))]) → va_S A s.heap H1 locs → len = d → W p l e R s m args below meth c H1 locs (h.1.length - n0 + 1) (500 * (h.1.length - n0) + N') Q (F0 m (pc + d) ls (.ref q :: st0.map (zv b ad))) := by
    intro t n q st0 N' d H1 hN' hst0 he p1 d1 s1 hd2
    obtain ⟨rfl, rfl⟩ := he
    subst hd2
    rw [← zWd_new w3 w4] at p1 d1
    have k1 := kk (va_up ad h.1.length q) H1 (hup q) p1 d1 s1 (hL.agree (hup q) w1)
    rw [len', List.map_cons, zvs_agree (hup q) hst0] at k1
    have e1 : zv b (va_up ad h.1.length q) (.ref h.1.length) = .ref q := by
      show Value.ref (va_up ad h.1.length q h.1.length) = _
      simp [va_up]
    rw [e1] at k1
    exact W.widen (k := h.1.length + 1 - n0) (n := 500 * (h.1.length + 1 - n0)) (by omega) (by omega) k1
  split at hz
  · rename_i idx
    split at hz
    · rename_i C r h1
      cases hz
      have hC := zCS_ok _ (zlook h1)
      simp only [zCok, Bool.and_eq_true, Nat.blt_eq] at hC
      obtain ⟨⟨⟨hc, c1⟩, c2⟩, c3⟩ := hC
      have hNF : zNF C ≤ 500 := by
        have : ∀ k ∈ List.range 10, zNF k ≤ 500 := by decide
        exact this C (List.mem_range.mpr hc)
      have hE : ∀ a, zEnt cs a (zNew h C (zNF C)) h.1.length (C, zNF C) = .inr (C, (List.range (zNF C)).map (fun f => zVal a (zNew h C (zNF C)) C h.1.length f)) := fun a => by
        unfold zEnt
        rw [show Nat.blt (C, zNF C).1 10 = true by simpa [Nat.blt_eq] using hc]
        rfl
      have hV : ∀ a a', (List.range (zNF C)).map (fun f => zVal a (zNew h C (zNF C)) C h.1.length f) = (List.range (zNF C)).map (fun f => zVal a' (zNew h C (zNF C)) C h.1.length f) := fun a a' => List.map_congr_left (fun f _ => by unfold zVal; rw [zNew_sr h w4]; rfl)
      refine va_new hx hb hts (zCl_ok C (List.mem_range.mpr hc)) (zTy C) (zTyOk C hc) hown (hts _ (zw_in c1)) (hts _ (zw_in c2)) (hts _ (zw_in c3)) hK hP hD hS hA (zVw C hc) (zdef w4 ad hc (zNF C)) (by omega) (by omega) hd (fun q H1 p1 d1 s1 => ?_)
      refine go C (zNF C) q st (zNF C) 3 H1 hNF w2 ⟨rfl, rfl⟩ ?_ ?_ s1 rfl
      · rw [hE, hV _ ad]; exact p1
      · rw [hE, hV _ ad]; exact d1
    · cases hz
  · rename_i n st0
    obtain ⟨h3, h4⟩ := zifb hz
    simp only [Bool.and_eq_true, Bool.not_eq_true', decide_eq_false_iff_not, Nat.ble_eq] at h3
    cases h4
    have w2' : st0.all (zWv h.1.length) = true := by simpa [zWv] using w2
    refine va_newa hx hb (atype := .int) (hts _ (zw_in zAr_ok.1)) rfl hK hP hD hS hA (a0 := (n.toNatClampNeg, .inl (fun _ => 0))) (fun cA => by rw [vp_cell_i]; rfl) h3.1 rfl (by show _ * 4 ≤ _; omega) (by omega) (by omega) hd (fun q cA H1 k1 p1 d1 s1 => ?_)
    have e := zK_id (k := 0) hK rfl rfl k1 zRA_int
    subst e
    have hE : zEnt cs (va_up ad h.1.length q) (zNew h 10 n.toNatClampNeg) h.1.length (10, n.toNatClampNeg) = .inl (cs.1, n.toNatClampNeg, .inl (fun _ => 0)) := by
      show @Sum.inl (ClassId × vp_A) (Nat × List Value) (cs.1, n.toNatClampNeg, .inl ((zNew h 10 n.toNatClampNeg).2.2.1 h.1.length)) = _
      rw [(zNew_at h _ _).1]
    refine go 10 n.toNatClampNeg q st0 n.toNatClampNeg 2 H1 h3.2 w2' ⟨rfl, rfl⟩ ?_ ?_ s1 rfl
    · rw [hE]; exact p1
    · rw [hE]; exact d1
  · rename_i n st0
    obtain ⟨h3, h4⟩ := zifb hz
    simp only [Bool.and_eq_true, Bool.not_eq_true', decide_eq_false_iff_not, Nat.ble_eq] at h3
    cases h4
    have w2' : st0.all (zWv h.1.length) = true := by simpa [zWv] using w2
    refine va_newa hx hb (atype := .boolean) (hts _ (zw_in zAr_ok.2.1)) rfl hK hP hD hS hA (a0 := (n.toNatClampNeg, .inl (fun _ => 0))) (fun cA => by rw [vp_cell_i]; rfl) h3.1 rfl (by show _ * 1 ≤ _; omega) (by omega) (by omega) hd (fun q cA H1 k1 p1 d1 s1 => ?_)
    have e := zK_id (k := 1) hK rfl rfl k1 zRA_bool
    subst e
    have hE : zEnt cs (va_up ad h.1.length q) (zNew h 11 n.toNatClampNeg) h.1.length (11, n.toNatClampNeg) = .inl (cs.2.1, n.toNatClampNeg, .inl (fun _ => 0)) := by
      show @Sum.inl (ClassId × vp_A) (Nat × List Value) (cs.2.1, n.toNatClampNeg, .inl ((zNew h 11 n.toNatClampNeg).2.2.1 h.1.length)) = _
      rw [(zNew_at h _ _).1]
    refine go 11 n.toNatClampNeg q st0 n.toNatClampNeg 2 H1 h3.2 w2' ⟨rfl, rfl⟩ ?_ ?_ s1 rfl
    · rw [hE]; exact p1
    · rw [hE]; exact d1
  · rename_i idx n st0
    have hq := zifc hz
    clear hz
    obtain ⟨h3, hz⟩ := hq
    simp only [Bool.and_eq_true, Bool.not_eq_true', decide_eq_false_iff_not, Nat.ble_eq] at h3
    have w2' : st0.all (zWv h.1.length) = true := by simpa [zWv] using w2
    split at hz
    · rename_i r h1
      cases hz
      have hC := zCS_ok _ (zlook h1)
      simp only [zCok, Bool.and_eq_true, Nat.blt_eq] at hC
      obtain ⟨⟨⟨hc, c1⟩, c2⟩, c3⟩ := hC
      refine va_newq (C := "BogTown$House") hx hb hown (hts _ (zw_in c1)) hnw.2.2.1 hK hP hD hS hA h3.1 rfl (by omega) (by omega) (by omega) hd (fun q cA H1 k1 p1 d1 s1 => ?_)
      have e := zK_id (k := 2) hK rfl rfl k1 (zRA_obj _)
      subst e
      have hE : zEnt cs (va_up ad h.1.length q) (zNew h 12 n.toNatClampNeg) h.1.length (12, n.toNatClampNeg) = .inl (cs.2.2.1, n.toNatClampNeg, .inr (.inr (.inr (.inr (fun _ => none))))) := by
        show @Sum.inl (ClassId × vp_A) (Nat × List Value) (cs.2.2.1, n.toNatClampNeg, .inr (.inr (.inr (.inr (fun j => (zsr (zNew h 12 n.toNatClampNeg) h.1.length j).map _))))) = _
        simp only [zNew_sr h w4, Option.map_none]
      refine go 12 n.toNatClampNeg q st0 n.toNatClampNeg 3 H1 h3.2 w2' ⟨rfl, rfl⟩ ?_ ?_ s1 rfl
      · rw [hE]; exact p1
      · rw [hE]; exact d1
    · rename_i r h1
      cases hz
      have hC := zCS_ok _ (zlook h1)
      simp only [zCok, Bool.and_eq_true, Nat.blt_eq] at hC
      obtain ⟨⟨⟨hc, c1⟩, c2⟩, c3⟩ := hC
      refine va_newq (C := "BogTown$Sheet") hx hb hown (hts _ (zw_in c1)) hnw.2.2.2 hK hP hD hS hA h3.1 rfl (by omega) (by omega) (by omega) hd (fun q cA H1 k1 p1 d1 s1 => ?_)
      have e := zK_id (k := 3) hK rfl rfl k1 (zRA_obj _)
      subst e
      have hE : zEnt cs (va_up ad h.1.length q) (zNew h 13 n.toNatClampNeg) h.1.length (13, n.toNatClampNeg) = .inl (cs.2.2.2, n.toNatClampNeg, .inr (.inr (.inr (.inr (fun _ => none))))) := by
        show @Sum.inl (ClassId × vp_A) (Nat × List Value) (cs.2.2.2, n.toNatClampNeg, .inr (.inr (.inr (.inr (fun j => (zsr (zNew h 13 n.toNatClampNeg) h.1.length j).map _))))) = _
        simp only [zNew_sr h w4, Option.map_none]
      refine go 13 n.toNatClampNeg q st0 n.toNatClampNeg 3 H1 h3.2 w2' ⟨rfl, rfl⟩ ?_ ?_ s1 rfl
      · rw [hE]; exact p1
      · rw [hE]; exact d1
    · cases hz
  · cases hz
end ZA
