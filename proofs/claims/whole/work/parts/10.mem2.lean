/-! Soundness of all that reads and writes cells, and of what makes them. -/
theorem zu_at (g : Nat → Nat → Int32) (k j : Nat) (x : Int32) : zu g k j x k = upd (g k) j x := by
  funext q
  simp [zu, upd]
theorem zcp_at (g : Nat → Nat → Int32) (k0 k1 sp dp n : Nat) : zcp g k0 k1 sp dp n k1 = va_cpy (g k0) (g k1) sp dp n := by
  funext q
  simp [zcp, va_cpy]
section ZM2
variable {p : Program} {l : Launch} {e : Env} {R : Room} {s : State} {m : MethodId} {args : Array Value} {below : List Frame} {meth : Method} {c : Code} {H : Heap} {locs : List Loc} {cells slots : Nat} {Q : State → Prop}
variable {i pc len b L nL : Nat} {xs : Nat → Int32} {ad : Nat → Nat} {D : va_G} {cs : zCs} {A : Nat → Prop} {ls : Array Slot} {rest : List Value} {ins : Instr} {h h' : zH} {st st' : List Value}
theorem zWd_10 {k n : Nat} (h2 : h.1[k]? = some (10, n)) : (zWd cs ad h)[k]? = some (ad k, .inl (cs.1, n, .inl (h.2.2.1 k))) := zWd_at h2
theorem zWd_11 {k n : Nat} (h2 : h.1[k]? = some (11, n)) : (zWd cs ad h)[k]? = some (ad k, .inl (cs.2.1, n, .inl (h.2.2.1 k))) := zWd_at h2
theorem zWd_12 {k n : Nat} (h2 : h.1[k]? = some (12, n)) : (zWd cs ad h)[k]? = some (ad k, .inl (cs.2.2.1, n, .inr (.inr (.inr (.inr (fun j => (zsr h k j).map ad)))))) := zWd_at h2
theorem zWd_13 {k n : Nat} (h2 : h.1[k]? = some (13, n)) : (zWd cs ad h)[k]? = some (ad k, .inl (cs.2.2.2, n, .inr (.inr (.inr (.inr (fun j => (zsr h k j).map ad)))))) := zWd_at h2
theorem zWd_i {k n j : Nat} {x : Int32} (h2 : h.1[k]? = some (10, n)) : (zWd cs ad h).set k (ad k, .inl (cs.1, n, .inl (upd (h.2.2.1 k) j x))) = zWd cs ad (h.1, h.2.1, zu h.2.2.1 k j x, h.2.2.2) := by
  refine zWd_set rfl h2 ?_ ?_
  · show @Sum.inl (ClassId × vp_A) (Nat × List Value) (cs.1, n, .inl (zu h.2.2.1 k j x k)) = _
    rw [zu_at]
  · intro k' q' hne _
    exact zEnt_of (by funext j; simp [zu, hne]) rfl (fun _ => rfl)
theorem zs_mem (Cx : zCx D cs b L xs A i p R s m args meth c) (hd : decode (zB i) pc = .ok (ins, len)) (hP : va_P D vwCl (zWd cs ad h) H) (hD : va_D A (zWd cs ad h)) (hS : va_S A s.heap H locs) (hls : ls.size = zML i) (hcl : cells ≤ R.cells) (hsl : slots ≤ R.slots) (hz : zMem i L xs ins len st h = some (st', h'))
    (kk : ∀ (H1 : Heap) (locs1 : List Loc), va_P D vwCl (zWd cs ad h') H1 → va_D A (zWd cs ad h') → va_S A s.heap H1 locs1 → W p l e R s m args below meth c H1 locs1 cells slots Q (F0 m (pc + len) ls (st'.map (zv b ad)))) : W p l e R s m args below meth c H locs cells slots Q (F0 m pc ls (st.map (zv b ad))) := by
  obtain ⟨hx, hb, hml, hown, hts, hnw, hini, hK, hX, hbl, hbA, hA, hR1, hR2, hR3, hR4⟩ := id Cx
  unfold zMem at hz
  split at hz
  · rename_i idx k st
    split at hz
    · rename_i C f nest pp t n h1 h2
      obtain ⟨h3, h4⟩ := zifc hz
      obtain ⟨v, h5, h6⟩ := Option.map_eq_some_iff.mp h4
      cases h6
      simp only [Bool.and_eq_true, Nat.beq_eq] at h3
      exact zs_getf Cx hd hP h1 h2 h3 h5 (kk H locs hP hD hS)
    · cases hz
  · rename_i idx v k st
    split at hz
    · rename_i C f nest pp t n h1 h2
      obtain ⟨h3, h4⟩ := zifc hz
      obtain ⟨g, h5, h6⟩ := Option.map_eq_some_iff.mp h4
      cases h6
      simp only [Bool.and_eq_true, Nat.beq_eq, Bool.or_eq_true, Bool.not_eq_true', decide_eq_true_eq] at h3
      exact zs_putf Cx hd hP hD hS h1 h2 h3.1 (h3.2.imp id (fun q => ⟨q.1.1, q.1.2, q.2⟩)) h5 kk
    · cases hz
  · rename_i j k st
    split at hz
    · rename_i n h2
      obtain ⟨h3, h4⟩ := zifb hz
      cases h4
      exact va_iald hx hb hK hP k 0 (zWd_10 h2) rfl (zin_in h3) hd (kk H locs hP hD hS)
    · cases hz
  · rename_i j st
    obtain ⟨h3, h4⟩ := zifb hz
    cases h4
    exact va_sld hx hb hX hbl hbA hS (zin_in h3) hd (kk H locs hP hD hS)
  · rename_i st
    cases hz
    exact va_slen hx hb hX hbl hbA hS hd (kk H locs hP hD hS)
  · rename_i x j k st
    split at hz
    · rename_i n h2
      obtain ⟨h3, h4⟩ := zifb hz
      cases h4
      exact va_iast hx hb hK hP hD hS k 0 (zWd_10 h2) rfl (zin_in h3) hd (fun H1 locs1 p1 d1 s1 => kk H1 locs1 (by rw [← zWd_i h2]; exact p1) (by rw [← zWd_i h2]; exact d1) s1)
    · cases hz
  · rename_i j k st
    split at hz
    · rename_i n h2
      obtain ⟨h3, h4⟩ := zifb hz
      cases h4
      exact va_zald hx hb hK hP k 1 (zWd_11 h2) rfl (zin_in h3) hd (kk H locs hP hD hS)
    · cases hz
  · rename_i x j k st
    split at hz
    · rename_i n h2
      obtain ⟨h3, h4⟩ := zifb hz
      cases h4
      simp only [Bool.and_eq_true, Bool.or_eq_true, decide_eq_true_eq] at h3
      have e : (zWd cs ad h).set k (ad k, .inl (cs.2.1, n, .inl (upd (h.2.2.1 k) j.toNatClampNeg (vp_nar .boolean x)))) = zWd cs ad (h.1, h.2.1, zu h.2.2.1 k j.toNatClampNeg x, h.2.2.2) := by
        have e2 : vp_nar .boolean x = x := by rcases h3.2 with rfl | rfl <;> decide
        rw [e2]
        refine zWd_set rfl h2 ?_ ?_
        · show @Sum.inl (ClassId × vp_A) (Nat × List Value) (cs.2.1, n, .inl (zu h.2.2.1 k _ x k)) = _
          rw [zu_at]
        · intro k' q' hne _
          exact zEnt_of (by funext j; simp [zu, hne]) rfl (fun _ => rfl)
      exact va_zast hx hb hK hP hD hS k 1 (zWd_11 h2) rfl (zin_in h3.1) hd (fun H1 locs1 p1 d1 s1 => kk H1 locs1 (by rw [← e]; exact p1) (by rw [← e]; exact d1) s1)
    · cases hz
  · rename_i j k st
    split at hz
    · rename_i n h2
      obtain ⟨h3, h4⟩ := zifc hz
      obtain ⟨a, h5, h6⟩ := Option.map_eq_some_iff.mp h4
      cases h6
      refine va_aldq hx hb hK hP k 2 (zWd_12 h2) rfl (zin_in h3) hd ?_
      rw [h5]
      exact kk H locs hP hD hS
    · rename_i n h2
      obtain ⟨h3, h4⟩ := zifc hz
      obtain ⟨a, h5, h6⟩ := Option.map_eq_some_iff.mp h4
      cases h6
      refine va_aldq hx hb hK hP k 3 (zWd_13 h2) rfl (zin_in h3) hd ?_
      rw [h5]
      exact kk H locs hP hD hS
    · cases hz
  · rename_i a j k st
    have up : ∀ {k : Nat}, j.toNatClampNeg < ((h.2.1[k]?).getD []).length → (fun f => (zsr (h.1, zusr h.2.1 k j.toNatClampNeg a, h.2.2.1, h.2.2.2) k f).map ad) = va_up (fun f => (zsr h k f).map ad) j.toNatClampNeg (some (ad a)) := by
      intro k hlt
      funext f
      rw [zsr_set hlt]
      by_cases hf : f = j.toNatClampNeg
      · rw [if_pos ⟨rfl, hf⟩]; simp [va_up, hf]
      · rw [if_neg (fun q => hf q.2)]; simp [va_up, hf]
    have off : ∀ {k : Nat}, j.toNatClampNeg < ((h.2.1[k]?).getD []).length → ∀ k' q', k' ≠ k → h.1[k']? = some q' → zEnt cs ad (h.1, zusr h.2.1 k j.toNatClampNeg a, h.2.2.1, h.2.2.2) k' q' = zEnt cs ad h k' q' := by
      intro k hlt k' q' hne _
      exact zEnt_of rfl rfl (fun f' => by rw [zsr_set hlt, if_neg (fun q => hne q.1)])
    split at hz
    · rename_i n h2 h2a
      obtain ⟨h3, h4⟩ := zifb hz
      cases h4
      simp only [Bool.and_eq_true, Nat.blt_eq] at h3
      have e := zWd_set (cs := cs) (ad := ad) (h := h) (h' := (h.1, zusr h.2.1 k j.toNatClampNeg a, h.2.2.1, h.2.2.2)) rfl h2 (show _ = @Sum.inl (ClassId × vp_A) (Nat × List Value) (cs.2.2.1, n, .inr (.inr (.inr (.inr (va_up (fun f => (zsr h k f).map ad) j.toNatClampNeg (some (ad a))))))) by rw [← up h3.2]; rfl) (off h3.2)
      exact va_astq hx hb hK hP hD hS k 2 a 1 (r := (RX1, TX1, 5)) (zWd_12 h2) rfl (zWd_at h2a) rfl (zin_in h3.1) hd (fun H1 locs1 p1 d1 s1 => kk H1 locs1 (by rw [← e]; exact p1) (by rw [← e]; exact d1) s1)
    · rename_i n h2 h2a
      obtain ⟨h3, h4⟩ := zifb hz
      cases h4
      simp only [Bool.and_eq_true, Nat.blt_eq] at h3
      have e := zWd_set (cs := cs) (ad := ad) (h := h) (h' := (h.1, zusr h.2.1 k j.toNatClampNeg a, h.2.2.1, h.2.2.2)) rfl h2 (show _ = @Sum.inl (ClassId × vp_A) (Nat × List Value) (cs.2.2.2, n, .inr (.inr (.inr (.inr (va_up (fun f => (zsr h k f).map ad) j.toNatClampNeg (some (ad a))))))) by rw [← up h3.2]; rfl) (off h3.2)
      exact va_astq hx hb hK hP hD hS k 3 a 6 (r := (RX6, TX6, 4)) (zWd_13 h2) rfl (zWd_at h2a) rfl (zin_in h3.1) hd (fun H1 locs1 p1 d1 s1 => kk H1 locs1 (by rw [← e]; exact p1) (by rw [← e]; exact d1) s1)
    · cases hz
  · rename_i idx a st
    split at hz
    · rename_i y pp h1
      obtain ⟨h3, h4⟩ := zifb hz
      cases h4
      simp only [Bool.and_eq_true, Nat.ble_eq] at h3
      have hM := zMS_ok _ (zlook h1)
      simp only [zMok, Bool.and_eq_true] at hM
      refine W.objInit hx hb hown (hts _ (zw_in hM.1.1)) (hts _ (zw_in hM.1.2)) (hts _ (zw_in hM.2)) rfl (by rw [hml]; exact hls) rfl hd (by omega) ?_ (kk H locs hP hD hS)
      have h5 := zv_cats b ad st'
      show 2 * 0 + ((st'.map (zv b ad)).map (fun v : Value => v.category)).sum + 12 ≤ R.locals
      omega
    · cases hz
  · rename_i idx n dp k1 sp k0 st
    split at hz
    · rename_i y pp n0 n1 h1 h2 h2b
      obtain ⟨h3, h4⟩ := zifb hz
      cases h4
      simp only [Bool.and_eq_true, Nat.ble_eq, Bool.not_eq_true', decide_eq_false_iff_not] at h3
      obtain ⟨⟨⟨⟨⟨⟨⟨r1, r2⟩, r3⟩, r4⟩, r5⟩, r6⟩, r7⟩, r8⟩ := h3
      have hM := zMS_ok _ (zlook h1)
      simp only [zMok, Bool.and_eq_true] at hM
      have h5 := zv_cats b ad st'
      have e : (zWd cs ad h).set k1 (ad k1, .inl (cs.1, n1, .inl (va_cpy (h.2.2.1 k0) (h.2.2.1 k1) sp.toNatClampNeg dp.toNatClampNeg n.toNatClampNeg))) = zWd cs ad (h.1, h.2.1, zcp h.2.2.1 k0 k1 sp.toNatClampNeg dp.toNatClampNeg n.toNatClampNeg, h.2.2.2) := by
        refine zWd_set rfl h2b ?_ ?_
        · show @Sum.inl (ClassId × vp_A) (Nat × List Value) (cs.1, n1, .inl (zcp h.2.2.1 k0 k1 _ _ _ k1)) = _
          rw [zcp_at]
        · intro k' q' hne _
          exact zEnt_of (by funext j; simp [zcp, hne]) rfl (fun _ => rfl)
      exact va_copyi hx hb (by rw [hml]; exact hls.symm) hown (hts _ (zw_in hM.1.1.1)) (hts _ (zw_in hM.1.1.2)) (hts _ (zw_in hM.1.2)) (hts _ (zw_in hM.2)) hK hP hD hS k0 k1 0 0 (zWd_10 h2) (zWd_10 h2b) rfl rfl rfl r4 r5 r6 r7 r8 (fun _ _ => rfl) (by omega) (by
        show ((st'.map (zv b ad)).map (fun v : Value => v.category)).sum + (nativeFrameWords "java/lang/System" "arraycopy" 5 + 11) ≤ R.locals
        have : nativeFrameWords "java/lang/System" "arraycopy" 5 = 7 := by decide
        omega) hd (fun H1 locs1 p1 d1 s1 => kk H1 locs1 (by rw [← e]; exact p1) (by rw [← e]; exact d1) s1)
    · cases hz
  · rename_i idx y x st _
    split at hz
    · rename_i y' pp h1
      obtain ⟨h3, h4⟩ := zifb hz
      cases h4
      simp only [Bool.and_eq_true, Nat.ble_eq] at h3
      have hM := zMS_ok _ (zlook h1)
      simp only [zMok, Bool.and_eq_true] at hM
      have h5 := zv_cats b ad st
      exact va_mmax hx hb (by rw [hml]; exact hls.symm) hown (hts _ (zw_in hM.1.1.1)) (hts _ (zw_in hM.1.1.2)) (hts _ (zw_in hM.1.2)) (hts _ (zw_in hM.2)) (by omega) (by
        show ((st.map (zv b ad)).map (fun v : Value => v.category)).sum + 13 ≤ R.locals
        omega) hcl hsl hd (kk H locs hP hD hS)
    · rename_i y' pp h1
      obtain ⟨h3, h4⟩ := zifb hz
      cases h4
      simp only [Bool.and_eq_true, Nat.ble_eq] at h3
      have hM := zMS_ok _ (zlook h1)
      simp only [zMok, Bool.and_eq_true] at hM
      have h5 := zv_cats b ad st
      exact va_mmin hx hb (by rw [hml]; exact hls.symm) hown (hts _ (zw_in hM.1.1.1)) (hts _ (zw_in hM.1.1.2)) (hts _ (zw_in hM.1.2)) (hts _ (zw_in hM.2)) (by omega) (by
        show ((st.map (zv b ad)).map (fun v : Value => v.category)).sum + 13 ≤ R.locals
        omega) hcl hsl hd (kk H locs hP hD hS)
    · cases hz
  · cases hz
theorem zFP_lay {k f : Nat} {C : Nat} {v : Value} (hv : zFP h C k f v = some h') : h'.1 = h.1 := by
  unfold zFP at hv
  split at hv
  · cases hv; rfl
  · obtain ⟨-, rfl⟩ := zifb hv; rfl
  · cases hv; rfl
  · obtain ⟨-, rfl⟩ := zifb hv; rfl
  · cases hv
theorem zMem_lay (hz : zMem i L xs ins len st h = some (st', h')) : h'.1 = h.1 := by
  unfold zMem at hz
  split at hz
  · split at hz
    · obtain ⟨h3, h4⟩ := zifc hz
      obtain ⟨v, h5, h6⟩ := Option.map_eq_some_iff.mp h4
      cases h6; rfl
    · cases hz
  · split at hz
    · obtain ⟨h3, h4⟩ := zifc hz
      obtain ⟨v, h5, h6⟩ := Option.map_eq_some_iff.mp h4
      cases h6
      exact zFP_lay h5
    · cases hz
  · split at hz
    · obtain ⟨h3, h4⟩ := zifb hz
      cases h4; rfl
    · cases hz
  · obtain ⟨h3, h4⟩ := zifb hz
    cases h4; rfl
  · cases hz; rfl
  · split at hz
    · obtain ⟨h3, h4⟩ := zifb hz
      cases h4; rfl
    · cases hz
  · split at hz
    · obtain ⟨h3, h4⟩ := zifb hz
      cases h4; rfl
    · cases hz
  · split at hz
    · obtain ⟨h3, h4⟩ := zifb hz
      cases h4; rfl
    · cases hz
  · split at hz
    · obtain ⟨h3, h4⟩ := zifc hz
      obtain ⟨v, h5, h6⟩ := Option.map_eq_some_iff.mp h4
      cases h6; rfl
    · obtain ⟨h3, h4⟩ := zifc hz
      obtain ⟨v, h5, h6⟩ := Option.map_eq_some_iff.mp h4
      cases h6; rfl
    · cases hz
  · split at hz
    · obtain ⟨h3, h4⟩ := zifb hz
      cases h4; rfl
    · obtain ⟨h3, h4⟩ := zifb hz
      cases h4; rfl
    · cases hz
  · split at hz
    · obtain ⟨h3, h4⟩ := zifb hz
      cases h4; rfl
    · cases hz
  · split at hz
    · obtain ⟨h3, h4⟩ := zifb hz
      cases h4; rfl
    · cases hz
  · split at hz
    · obtain ⟨h3, h4⟩ := zifb hz
      cases h4; rfl
    · obtain ⟨h3, h4⟩ := zifb hz
      cases h4; rfl
    · cases hz
  · cases hz
end ZM2
