/-! The soundness theorem. -/
theorem zAl_len {i n0 len : Nat} {ins : Instr} {zl : zLs} {st st' : List Value} {h h' : zH} (hz : zAl i n0 ins len zl st h = some (st', h')) : h'.1.length = h.1.length + 1 := by
  have ln : ∀ t n, (zNew h t n).1.length = h.1.length + 1 := fun t n => by simp [zNew]
  have hq := zAl_eq hz
  clear hz
  obtain ⟨hw, hz⟩ := hq
  unfold zAlI at hz
  split at hz
  · split at hz
    · cases hz; exact ln _ _
    · cases hz
  · obtain ⟨-, h4⟩ := zifb hz
    cases h4; exact ln _ _
  · obtain ⟨-, h4⟩ := zifb hz
    cases h4; exact ln _ _
  · obtain ⟨-, h4⟩ := zifc hz
    split at h4
    · cases h4; exact ln _ _
    · cases h4; exact ln _ _
    · cases h4
  · cases hz
theorem zStep_out {i n0 L : Nat} {xs : Nat → Int32} {ins : Instr} {len pc : Nat} {zl : zLs} {st : List Value} {h : zH} {o : Option Value ⊕ (Nat × List Value × List Value)} (hz : zStep i n0 L xs ins len pc zl st h = some (.inr o)) : (∃ v, o = .inl v ∧ zRt i n0 h.1.length ins len st = some v) ∨ (∃ q, o = .inr q ∧ zCall i n0 ins len zl st h = some q) := by
  unfold zStep at hz
  split at hz
  · cases hz
  split at hz
  · obtain ⟨_, _, q⟩ := Option.map_eq_some_iff.mp hz
    cases q
  split at hz
  · obtain ⟨_, _, q⟩ := Option.map_eq_some_iff.mp hz
    cases q
  · cases hz
  split at hz
  · split at hz
    · cases hz
    · cases hz
  · cases hz
  · cases hz
  · cases hz
  · cases hz
  split at hz
  · cases hz
  split at hz
  · cases hz
  split at hz
  · cases hz
  split at hz
  · cases hz
  split at hz
  · rename_i v hc
    cases hz
    exact Or.inl ⟨v, rfl, hc⟩
  split at hz
  · rename_i q hc
    cases hz
    exact Or.inr ⟨q, rfl, hc⟩
  · cases hz
section ZZ
variable {l : Launch} {D : va_G} {cs : zCs} {b L : Nat} {xs : Nat → Int32} {A : Nat → Prop}
theorem zSound : ∀ n : Nat, zOk l D cs b L xs A n
  | 0 => fun p e R s m args below meth c i n0 pc zl st h r h' ad0 ad H locs ls Q hev => by
    unfold ev at hev
    cases hev
  | n + 1 => fun p e R s m args below meth c i n0 pc zl st h r h' ad0 ad H locs ls Q hev Cx hn hm ha0 ha1 hP hD hS hL hR => by
    have ih := zSound n
    obtain ⟨hx, hb, hml, hown, hts, hnw, hini, hK, hX, hbl, hbA, hA, hR1, hR2, hR3, hR4⟩ := id Cx
    unfold ev at hev
    split at hev
    case h_2 => cases hev
    rename_i ins len hd
    split at hev
    case h_4 => cases hev
    · -- a step within the frame
      rename_i pc' zl' st' h2 hz
      unfold zStep at hz
      split at hz
      · rename_i v hc
        cases hz
        exact zs_con (b := b) (ad := ad) hx hb hown hts hd hc (ih p e R s m args below meth c i n0 (pc + len) zl (v :: st) h r h' ad0 ad H locs ls Q hev Cx hn hm ha0 ha1 hP hD hS hL hR)
      split at hz
      · rename_i k kd hc
        obtain ⟨v, hg, hz2⟩ := Option.map_eq_some_iff.mp hz
        cases hz2
        exact zs_ld hx hb hd hc hg hL (ih p e R s m args below meth c i n0 (pc + len) zl (v :: st) h r h' ad0 ad H locs ls Q hev Cx hn hm ha0 ha1 hP hD hS hL hR)
      split at hz
      · rename_i k kd v st2 hc
        obtain ⟨zl2, hg, hz2⟩ := Option.map_eq_some_iff.mp hz
        cases hz2
        exact zs_st hx hb hd hc hg hL (fun ls' hL' => ih p e R s m args below meth c i n0 (pc + len) _ _ h r h' ad0 ad H locs ls' Q hev Cx hn hm ha0 ha1 hP hD hS hL' hR)
      · cases hz
      split at hz
      · split at hz
        · rename_i hk
          cases hz
          exact zs_iinc hx hb hd hk hL (fun ls' hL' => ih p e R s m args below meth c i n0 (pc + 3) _ _ h r h' ad0 ad H locs ls' Q hev Cx hn hm ha0 ha1 hP hD hS hL' hR)
        · cases hz
      · cases hz
        exact lv_dup hx hb hd rfl (ih p e R s m args below meth c i n0 (pc + 1) _ _ h r h' ad0 ad H locs ls Q hev Cx hn hm ha0 ha1 hP hD hS hL hR)
      · cases hz
        exact lv_dup hx hb hd rfl (ih p e R s m args below meth c i n0 (pc + 1) _ _ h r h' ad0 ad H locs ls Q hev Cx hn hm ha0 ha1 hP hD hS hL hR)
      · cases hz
        exact lv_dup2_11 hx hb hd rfl rfl (ih p e R s m args below meth c i n0 (pc + 1) _ _ h r h' ad0 ad H locs ls Q hev Cx hn hm ha0 ha1 hP hD hS hL hR)
      · cases hz
        exact lv_pop hx hb hd rfl (ih p e R s m args below meth c i n0 (pc + 1) _ _ h r h' ad0 ad H locs ls Q hev Cx hn hm ha0 ha1 hP hD hS hL hR)
      split at hz
      · rename_i st2 hc
        cases hz
        exact zs_op hx hb hd hc (ih p e R s m args below meth c i n0 (pc + 1) _ _ h r h' ad0 ad H locs ls Q hev Cx hn hm ha0 ha1 hP hD hS hL hR)
      split at hz
      · rename_i t st2 hc
        cases hz
        exact zs_br hx hb hd hc (ih p e R s m args below meth c i n0 _ _ _ h r h' ad0 ad H locs ls Q hev Cx hn hm ha0 ha1 hP hD hS hL hR)
      split at hz
      · rename_i st2 h3 hc
        cases hz
        have hlay := zMem_lay hc
        refine zs_mem Cx hd hP hD hS hL.2.1 (by omega) (by omega) hc (fun H1 locs1 p1 d1 s1 => ?_)
        have k := ih p e R s m args below meth c i n0 (pc + len) _ _ h2 r h' ad0 ad H1 locs1 ls Q hev Cx (by rw [hlay]; exact hn) (by rw [hlay]; exact hm) ha0 ha1 p1 d1 s1 hL hR
        rw [hlay] at k
        exact k
      split at hz
      · rename_i st2 h3 hc
        cases hz
        obtain ⟨hw, -⟩ := zAl_eq hc
        simp only [Bool.and_eq_true, Nat.blt_eq] at hw
        have hl3 : h2.1.length = h.1.length + 1 := zAl_len hc
        refine zs_al Cx hd hP hD hS hL hn hc (fun ad' H1 ag p1 d1 s1 hL1 => ?_)
        exact ih p e R s m args below meth c i n0 (pc + len) _ _ h2 r h' ad0 ad' H1 locs ls Q hev Cx (by omega) (by omega) (fun k hk => (ag k (by omega)).trans (ha0 k hk)) (fun hm0 => by omega) p1 d1 s1 hL1 hR
      split at hz
      · cases hz
      split at hz
      · cases hz
      · cases hz
    · -- the return
      rename_i v hz
      cases hev
      rcases zStep_out hz with ⟨v', e1, hrt⟩ | ⟨q, e1, -⟩
      · cases e1
        exact hR pc ls H locs ad ins len st hd hrt ha0 ha1 hn hm hP hD hS
      · cases e1
    · -- a call
      rename_i j as rest hz
      rcases zStep_out hz with ⟨v', e1, -⟩ | ⟨q, e1, hc⟩
      · cases e1
      cases e1
      split at hev
      case h_2 => cases hev
      rename_i v h2 hev2
      refine zs_call ih Cx hd hP hD hS hL hn hc hev2 (fun ad' H1 locs1 ag ag0 hl2 p1 d1 s1 hL1 hrest => ?_)
      have hroom : h.1.length + zMc j ≤ n0 + zMc i := by
        unfold zCall at hc
        split at hc
        · obtain ⟨hcc, hz2⟩ := zifb hc
          cases hz2
          simp only [zCan, Bool.and_eq_true, Nat.ble_eq] at hcc
          exact hcc.1.1.1.1.1.1.2
        · cases hc
      have k := ih p e R s m args below meth c i n0 (pc + 3) zl (v.toList ++ rest) h2 r h' ad0 ad' H1 locs1 ls Q hev Cx (by omega) (by omega) (fun k hk => (ag k (by omega)).trans (ha0 k hk)) (fun hm0 => by rw [ag0 (by omega)]; exact ha1 hm0) p1 d1 s1 hL1 hR
      rw [List.map_append, hrest, show h2.1.length - n0 = h.1.length - n0 + zMc j by omega, Nat.mul_add] at k
      exact k
end ZZ
