/-! Soundness, a group of instructions at a time. -/
section ZS
variable {p : Program} {l : Launch} {e : Env} {R : Room} {s : State} {m : MethodId} {args : Array Value} {below : List Frame} {meth : Method} {c : Code} {H : Heap} {locs : List Loc} {cells slots : Nat} {Q : State → Prop}
variable {i pc len b nL : Nat} {ad : Nat → Nat} {ls : Array Slot} {rest : List Value} {ins : Instr}
theorem zs_con (hx : p.tables.exec = Jvm.exec) (hb : c.code = zB i) (hown : s.vm.findClass (zCn (zC i)) = some m.cls) (hts : ∀ w ∈ zG, w.before args s = true) (hd : decode (zB i) pc = .ok (ins, len)) {v : Value} (h : zCon (zC i) ins len = some v)
    (k : W p l e R s m args below meth c H locs cells slots Q (F0 m (pc + len) ls (zv b ad v :: rest))) : W p l e R s m args below meth c H locs cells slots Q (F0 m pc ls rest) := by
  unfold zCon at h
  split at h
  · cases h; exact lv_iconst hx hb hd rfl k
  · cases h; exact lv_bipush hx hb hd rfl k
  · cases h; exact lv_sipush hx hb hd rfl k
  · cases h; exact lv_lconst hx hb hd rfl k
  · obtain ⟨q, hq, rfl⟩ := Option.map_eq_some_iff.mp h
    exact lv_ldc hx hb hown (hts _ (zw_in (zK3_ok _ (zlook hq)))) hd k
  · obtain ⟨q, hq, rfl⟩ := Option.map_eq_some_iff.mp h
    exact lv_ldcw hx hb hown (hts _ (zw_in (zK3_ok _ (zlook hq)))) hd k
  · obtain ⟨q, hq, rfl⟩ := Option.map_eq_some_iff.mp h
    exact lv_ldc2 hx hb hown (hts _ (zw_in (zK6_ok _ (zlook hq)))) hd k
  · cases h
theorem zs_get {zl : zLs} {k kd : Nat} {v : Value} (hg : zGet zl k kd = some v) (hL : zLV b ad nL zl ls) : ls[k]? = some (.val (zv b ad v)) ∧ ((kd = 0 ∧ ∃ x, v = .int x) ∨ (kd = 1 ∧ ∃ a, zv b ad v = .ref a) ∨ (kd = 2 ∧ ∃ x, v = .long x)) := by
  unfold zGet at hg
  split at hg
  · rename_i x hx
    cases hg
    exact ⟨hL.at hx (fun h => by cases h), Or.inl ⟨rfl, _, rfl⟩⟩
  · rename_i x hx
    cases hg
    exact ⟨hL.at hx (fun h => by cases h), Or.inr (Or.inl ⟨rfl, _, rfl⟩)⟩
  · rename_i hx
    cases hg
    exact ⟨hL.at hx (fun h => by cases h), Or.inr (Or.inl ⟨rfl, _, rfl⟩)⟩
  · rename_i x hx
    split at hg
    · rename_i hy
      cases hg
      exact ⟨hL.at hx (fun _ => hy), Or.inr (Or.inr ⟨rfl, _, rfl⟩)⟩
    · cases hg
  · cases hg
theorem zs_ld (hx : p.tables.exec = Jvm.exec) (hb : c.code = zB i) (hd : decode (zB i) pc = .ok (ins, len)) {k kd : Nat} (h : zLd ins len = some (k, kd)) {zl : zLs} {v : Value} (hg : zGet zl k kd = some v) (hL : zLV b ad nL zl ls)
    (kk : W p l e R s m args below meth c H locs cells slots Q (F0 m (pc + len) ls (zv b ad v :: rest))) : W p l e R s m args below meth c H locs cells slots Q (F0 m pc ls rest) := by
  obtain ⟨h1, h2⟩ := zs_get hg hL
  unfold zLd at h
  split at h
  · cases h
    rcases h2 with ⟨-, x, rfl⟩ | ⟨h3, -⟩ | ⟨h3, -⟩
    · exact lv_iload hx hb hd h1 kk
    · cases h3
    · cases h3
  · cases h
    rcases h2 with ⟨-, x, rfl⟩ | ⟨h3, -⟩ | ⟨h3, -⟩
    · exact lv_iload_n hx hb hd rfl h1 kk
    · cases h3
    · cases h3
  · cases h
    rcases h2 with ⟨h3, -⟩ | ⟨-, a, h3⟩ | ⟨h3, -⟩
    · cases h3
    · rw [h3] at h1 kk
      exact lv_aload hx hb hd h1 kk
    · cases h3
  · cases h
    rcases h2 with ⟨h3, -⟩ | ⟨-, a, h3⟩ | ⟨h3, -⟩
    · cases h3
    · rw [h3] at h1 kk
      exact lv_aload_n hx hb hd rfl h1 kk
    · cases h3
  · cases h
    rcases h2 with ⟨h3, -⟩ | ⟨h3, -⟩ | ⟨-, x, rfl⟩
    · cases h3
    · cases h3
    · exact lv_lload hx hb hd h1 kk
  · cases h
    rcases h2 with ⟨h3, -⟩ | ⟨h3, -⟩ | ⟨-, x, rfl⟩
    · cases h3
    · cases h3
    · exact lv_lload_n hx hb hd rfl h1 kk
  · cases h
theorem zs_put {zl zl' : zLs} {k kd : Nat} {v : Value} (hg : zPut zl k kd v = some zl') : (kd = 0 ∧ (∃ x, v = .int x) ∧ k < zl.length ∧ zl' = zl.set k (some v)) ∨ (kd = 1 ∧ (∃ a, zv b ad v = .ref a) ∧ k < zl.length ∧ v.category = 1 ∧ zl' = zl.set k (some v)) ∨ (kd = 2 ∧ (∃ x, v = .long x) ∧ k + 1 < zl.length ∧ zl' = (zl.set k (some v)).set (k + 1) none) := by
  have ifb : ∀ {α : Type} {q : Bool} {x y : α}, (bif q then some x else none) = some y → q = true ∧ x = y := by
    intro α q x y h
    cases q
    · cases h
    · exact ⟨rfl, Option.some.inj h⟩
  unfold zPut at hg
  split at hg
  · obtain ⟨h1, h2⟩ := ifb hg
    exact Or.inl ⟨rfl, ⟨_, rfl⟩, by simpa [Nat.blt_eq] using h1, h2.symm⟩
  · obtain ⟨h1, h2⟩ := ifb hg
    exact Or.inr (Or.inl ⟨rfl, ⟨_, rfl⟩, by simpa [Nat.blt_eq] using h1, rfl, h2.symm⟩)
  · obtain ⟨h1, h2⟩ := ifb hg
    exact Or.inr (Or.inl ⟨rfl, ⟨_, rfl⟩, by simpa [Nat.blt_eq] using h1, rfl, h2.symm⟩)
  · obtain ⟨h1, h2⟩ := ifb hg
    exact Or.inr (Or.inr ⟨rfl, ⟨_, rfl⟩, by simpa [Nat.blt_eq] using h1, h2.symm⟩)
  · cases hg
theorem zs_st (hx : p.tables.exec = Jvm.exec) (hb : c.code = zB i) (hd : decode (zB i) pc = .ok (ins, len)) {k kd : Nat} (h : zSt ins len = some (k, kd)) {zl zl' : zLs} {v : Value} (hg : zPut zl k kd v = some zl') (hL : zLV b ad nL zl ls)
    (kk : ∀ ls' : Array Slot, zLV b ad nL zl' ls' → W p l e R s m args below meth c H locs cells slots Q (F0 m (pc + len) ls' rest)) : W p l e R s m args below meth c H locs cells slots Q (F0 m pc ls (zv b ad v :: rest)) := by
  have h2 := zs_put (b := b) (ad := ad) hg
  have hl := hL.1
  unfold zSt at h
  split at h
  · cases h
    rcases h2 with ⟨-, ⟨x, rfl⟩, h4, rfl⟩ | ⟨h3, -⟩ | ⟨h3, -⟩
    · exact lv_istore hx hb hd hL.2 (by omega) rfl (fun ls' h => kk ls' (zLV.put1 (v := .int x) hl rfl h))
    · cases h3
    · cases h3
  · cases h
    rcases h2 with ⟨-, ⟨x, rfl⟩, h4, rfl⟩ | ⟨h3, -⟩ | ⟨h3, -⟩
    · exact lv_istore_n hx hb hd rfl hL.2 (by omega) rfl (fun ls' h => kk ls' (zLV.put1 (v := .int x) hl rfl h))
    · cases h3
    · cases h3
  · cases h
    rcases h2 with ⟨h3, -⟩ | ⟨-, ⟨a, h3⟩, h4, h5, rfl⟩ | ⟨h3, -⟩
    · cases h3
    · rw [h3]
      exact lv_astore hx hb hd hL.2 (by omega) rfl (fun ls' h => kk ls' (zLV.put1 (v := v) hl h5 (by rw [h3]; exact h)))
    · cases h3
  · cases h
    rcases h2 with ⟨h3, -⟩ | ⟨-, ⟨a, h3⟩, h4, h5, rfl⟩ | ⟨h3, -⟩
    · cases h3
    · rw [h3]
      exact lv_astore_n hx hb hd rfl hL.2 (by omega) rfl (fun ls' h => kk ls' (zLV.put1 (v := v) hl h5 (by rw [h3]; exact h)))
    · cases h3
  · cases h
    rcases h2 with ⟨h3, -⟩ | ⟨h3, -⟩ | ⟨-, ⟨x, rfl⟩, h4, rfl⟩
    · cases h3
    · cases h3
    · exact lv_lstore hx hb hd hL.2 (by omega) rfl (fun ls' h => kk ls' (zLV.put2 (v := .long x) hl h))
  · cases h
    rcases h2 with ⟨h3, -⟩ | ⟨h3, -⟩ | ⟨-, ⟨x, rfl⟩, h4, rfl⟩
    · cases h3
    · cases h3
    · exact lv_lstore_n hx hb hd rfl hL.2 (by omega) rfl (fun ls' h => kk ls' (zLV.put2 (v := .long x) hl h))
  · cases h
theorem zs_iinc (hx : p.tables.exec = Jvm.exec) (hb : c.code = zB i) {k : Nat} {n : Int} (hd : decode (zB i) pc = .ok (.iinc k n, 3)) {zl : zLs} {x : Int32} (hk : zl[k]? = some (some (.int x))) (hL : zLV b ad nL zl ls)
    (kk : ∀ ls' : Array Slot, zLV b ad nL (zl.set k (some (.int (x + Int32.ofInt n)))) ls' → W p l e R s m args below meth c H locs cells slots Q (F0 m (pc + 3) ls' rest)) : W p l e R s m args below meth c H locs cells slots Q (F0 m pc ls rest) := by
  obtain ⟨j, hj⟩ := List.getElem?_of_mem (zPl_in.mpr ⟨_, hk, rfl, fun h => by cases h⟩ : (k, zv b ad (.int x)) ∈ zPl b ad zl)
  exact lv_iinc hx hb hd hL.2 hj rfl (by rw [← hL.1]; exact (List.getElem?_eq_some_iff.mp hk).1) rfl (fun ls' h => kk ls' (zLV.put1 (v := .int _) hL.1 rfl h))
theorem zs_o1 (hx : p.tables.exec = Jvm.exec) (hb : c.code = zB i) (hd : decode (zB i) pc = .ok (ins, 1)) {v w : Value} (h : zO1 ins v = some w)
    (k : W p l e R s m args below meth c H locs cells slots Q (F0 m (pc + 1) ls (zv b ad w :: rest))) : W p l e R s m args below meth c H locs cells slots Q (F0 m pc ls (zv b ad v :: rest)) := by
  unfold zO1 at h
  split at h
  · cases h; exact lv_ineg hx hb hd k
  · cases h; exact lv_i2l hx hb hd rfl k
  · cases h; exact lv_i2b hx hb hd rfl k
  · cases h; exact lv_i2s hx hb hd rfl k
  · cases h
theorem zs_o2 (hx : p.tables.exec = Jvm.exec) (hb : c.code = zB i) (hd : decode (zB i) pc = .ok (ins, 1)) {v v2 w : Value} (h : zO2 ins v v2 = some w)
    (k : W p l e R s m args below meth c H locs cells slots Q (F0 m (pc + 1) ls (zv b ad w :: rest))) : W p l e R s m args below meth c H locs cells slots Q (F0 m pc ls (zv b ad v :: zv b ad v2 :: rest)) := by
  have ifb : ∀ {q : Prop} {inst : Decidable q} {x y : Value}, (bif decide q then none else some x) = some y → ¬ q ∧ x = y := by
    intro q inst x y h
    by_cases hq : q
    · rw [decide_eq_true hq] at h; cases h
    · rw [decide_eq_false hq] at h; exact ⟨hq, Option.some.inj h⟩
  unfold zO2 at h
  split at h
  · cases h; exact lv_iadd hx hb hd k
  · cases h; exact lv_isub hx hb hd k
  · cases h; exact lv_imul hx hb hd k
  · obtain ⟨h1, rfl⟩ := ifb h; exact lv_idiv hx hb hd h1 k
  · obtain ⟨h1, rfl⟩ := ifb h; exact lv_irem hx hb hd h1 k
  · cases h; exact lv_iand hx hb hd k
  · cases h; exact lv_ior hx hb hd k
  · cases h; exact lv_ishl hx hb hd k
  · cases h; exact lv_ishr hx hb hd k
  · cases h; exact lv_iushr hx hb hd rfl k
  · cases h; exact lv_ladd hx hb hd k
  · cases h; exact lv_lsub hx hb hd k
  · obtain ⟨h1, rfl⟩ := ifb h; exact lv_ldiv hx hb hd h1 k
  · obtain ⟨h1, rfl⟩ := ifb h; exact lv_lrem hx hb hd h1 k
  · cases h; exact lv_land hx hb hd k
  · cases h; exact lv_lor hx hb hd k
  · cases h; exact lv_lshl hx hb hd rfl k
  · cases h; exact lv_lshr hx hb hd rfl k
  · cases h; exact W.lcmp hx hb hd k
  · cases h
theorem zs_op (hx : p.tables.exec = Jvm.exec) (hb : c.code = zB i) (hd : decode (zB i) pc = .ok (ins, len)) {st st' : List Value} (h : zOp ins len st = some st')
    (k : W p l e R s m args below meth c H locs cells slots Q (F0 m (pc + 1) ls (st'.map (zv b ad)))) : W p l e R s m args below meth c H locs cells slots Q (F0 m pc ls (st.map (zv b ad))) := by
  unfold zOp at h
  split at h
  · obtain ⟨v, hg, rfl⟩ := Option.map_eq_some_iff.mp h
    exact zs_o1 hx hb hd hg k
  · obtain ⟨v, hg, rfl⟩ := Option.map_eq_some_iff.mp h
    exact zs_o1 hx hb hd hg k
  · obtain ⟨v, hg, rfl⟩ := Option.map_eq_some_iff.mp h
    exact zs_o1 hx hb hd hg k
  · obtain ⟨v, hg, rfl⟩ := Option.map_eq_some_iff.mp h
    exact zs_o1 hx hb hd hg k
  · obtain ⟨v, hg, rfl⟩ := Option.map_eq_some_iff.mp h
    exact zs_o2 hx hb hd hg k
  · cases h
theorem zTgt_eq {off : Int} {t : Nat} (h : zTgt pc off = some t) : (pc : Int) + off = (t : Int) := by
  unfold zTgt at h
  split at h
  · rename_i t' ht
    cases h
    exact ht
  · cases h
theorem zs_br (hx : p.tables.exec = Jvm.exec) (hb : c.code = zB i) (hd : decode (zB i) pc = .ok (ins, len)) {st st' : List Value} {t : Nat} (h : zBr pc ins len st = some (t, st'))
    (k : W p l e R s m args below meth c H locs cells slots Q (F0 m t ls (st'.map (zv b ad)))) : W p l e R s m args below meth c H locs cells slots Q (F0 m pc ls (st.map (zv b ad))) := by
  unfold zBr at h
  split at h
  · obtain ⟨t', h1, h2⟩ := Option.map_eq_some_iff.mp h
    cases h2
    exact lv_goto hx hb hd (zTgt_eq h1) k
  · rename_i q off y x st
    obtain ⟨t', h1, h2⟩ := Option.map_eq_some_iff.mp h
    cases h2
    have ht := zTgt_eq h1
    cases q
    · exact lv_icmp_eq hx hb hd ht (fun q => by rw [show zCmp .eq x y = true from decide_eq_true q] at k; exact k) (fun q => by rw [show zCmp .eq x y = false from decide_eq_false q] at k; exact k)
    · exact lv_icmp_ne hx hb hd ht (fun q => by rw [show zCmp .ne x y = true by simp [zCmp, q]] at k; exact k) (fun q => by rw [show zCmp .ne x y = false by simp [zCmp, q]] at k; exact k)
    · exact lv_icmp_lt hx hb hd ht (fun q => by rw [show zCmp .lt x y = true from decide_eq_true q] at k; exact k) (fun q => by rw [show zCmp .lt x y = false from decide_eq_false q] at k; exact k)
    · exact lv_icmp_ge hx hb hd ht (fun q => by rw [show zCmp .ge x y = true from decide_eq_true q] at k; exact k) (fun q => by rw [show zCmp .ge x y = false from decide_eq_false q] at k; exact k)
    · exact lv_icmp_gt hx hb hd ht (fun q => by rw [show zCmp .gt x y = true from decide_eq_true q] at k; exact k) (fun q => by rw [show zCmp .gt x y = false from decide_eq_false q] at k; exact k)
    · exact lv_icmp_le hx hb hd ht (fun q => by rw [show zCmp .le x y = true from decide_eq_true q] at k; exact k) (fun q => by rw [show zCmp .le x y = false from decide_eq_false q] at k; exact k)
  · rename_i q off x st
    obtain ⟨t', h1, h2⟩ := Option.map_eq_some_iff.mp h
    cases h2
    have ht := zTgt_eq h1
    cases q
    · exact lv_if_eq hx hb hd ht (fun q => by rw [show zCmp .eq x 0 = true from decide_eq_true q] at k; exact k) (fun q => by rw [show zCmp .eq x 0 = false from decide_eq_false q] at k; exact k)
    · exact lv_if_ne hx hb hd ht (fun q => by rw [show zCmp .ne x 0 = true by simp [zCmp, q]] at k; exact k) (fun q => by rw [show zCmp .ne x 0 = false by simp [zCmp, q]] at k; exact k)
    · exact lv_if_lt hx hb hd ht (fun q => by rw [show zCmp .lt x 0 = true from decide_eq_true q] at k; exact k) (fun q => by rw [show zCmp .lt x 0 = false from decide_eq_false q] at k; exact k)
    · exact lv_if_ge hx hb hd ht (fun q => by rw [show zCmp .ge x 0 = true from decide_eq_true q] at k; exact k) (fun q => by rw [show zCmp .ge x 0 = false from decide_eq_false q] at k; exact k)
    · exact lv_if_gt hx hb hd ht (fun q => by rw [show zCmp .gt x 0 = true from decide_eq_true q] at k; exact k) (fun q => by rw [show zCmp .gt x 0 = false from decide_eq_false q] at k; exact k)
    · exact lv_if_le hx hb hd ht (fun q => by rw [show zCmp .le x 0 = true from decide_eq_true q] at k; exact k) (fun q => by rw [show zCmp .le x 0 = false from decide_eq_false q] at k; exact k)
  · rename_i d lo hi offs x st
    obtain ⟨o, h1, h2⟩ := Option.bind_eq_some_iff.mp h
    obtain ⟨t', h3, h4⟩ := Option.map_eq_some_iff.mp h2
    cases h4
    dsimp only [zSw] at h1
    by_cases q : x.toInt < lo ∨ hi < x.toInt
    · rw [show (decide (x.toInt < lo) || decide (hi < x.toInt)) = true by simpa using q] at h1
      cases h1
      exact lv_tableOut hx hb hd q (zTgt_eq h3) k
    · rw [show (decide (x.toInt < lo) || decide (hi < x.toInt)) = false by simpa using q] at h1
      exact lv_tableIn hx hb hd (fun z => q (Or.inl z)) (fun z => q (Or.inr z)) h1 (zTgt_eq h3) k
  · rename_i d ps x st
    obtain ⟨o, h1, h2⟩ := Option.bind_eq_some_iff.mp h
    obtain ⟨t', h3, h4⟩ := Option.map_eq_some_iff.mp h2
    cases h4
    dsimp only [zSw] at h1
    cases q : (ps.toList.zip (ps.toList.drop 1)).all (fun (a, next) => a.1 < next.1)
    · rw [q] at h1; cases h1
    · rw [q] at h1
      exact lv_lookup hx hb hd q (Option.some.inj h1) (zTgt_eq h3) k
  · cases h
end ZS
