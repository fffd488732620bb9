/-! How the abstract machine's cells, values and locals lie in the real one. -/
abbrev zCs : Type := ClassId × ClassId × ClassId × ClassId
def zTys (cs : zCs) : List (ClassId × FieldType) := [(cs.1, .int), (cs.2.1, .boolean), (cs.2.2.1, .object "BogTown$House"), (cs.2.2.2, .object "BogTown$Sheet")]
def zv (b : Nat) (ad : Nat → Nat) (v : Value) : Value := match v with
  | .ref k => .ref (ad k)
  | .null => .ref b
  | .int x => .int x
  | .long x => .long x
  | .float x => .float x
  | .double x => .double x
  | .retAddr x => .retAddr x
theorem zv_cat (b : Nat) (ad : Nat → Nat) (v : Value) : (zv b ad v).category = v.category := by cases v <;> rfl
theorem zv_cats (b : Nat) (ad : Nat → Nat) (st : List Value) : ((st.map (zv b ad)).map (fun v : Value => v.category)).sum = (st.map (fun v : Value => v.category)).sum := by
  rw [List.map_map]
  congr 1
  exact List.map_congr_left (fun v _ => zv_cat b ad v)
def zVal (ad : Nat → Nat) (h : zH) (c k f : Nat) : Value := match zFty (zTy c f) with
  | 0 => .int (h.2.2.1 k f)
  | 1 => .int (h.2.2.1 k f)
  | 2 => .long (h.2.2.2 k)
  | _ => va_rf ((zsr h k f).map ad)
def zEnt (cs : zCs) (ad : Nat → Nat) (h : zH) (k : Nat) (q : Nat × Nat) : va_E :=
  bif Nat.blt q.1 10 then .inr (q.1, (List.range q.2).map (fun f => zVal ad h q.1 k f)) else
  bif Nat.beq q.1 10 then .inl (cs.1, q.2, .inl (h.2.2.1 k)) else
  bif Nat.beq q.1 11 then .inl (cs.2.1, q.2, .inl (h.2.2.1 k)) else
  bif Nat.beq q.1 12 then .inl (cs.2.2.1, q.2, .inr (.inr (.inr (.inr (fun j => (zsr h k j).map ad))))) else
  .inl (cs.2.2.2, q.2, .inr (.inr (.inr (.inr (fun j => (zsr h k j).map ad)))))
def zWd (cs : zCs) (ad : Nat → Nat) (h : zH) : va_W := h.1.mapIdx (fun k q => (ad k, zEnt cs ad h k q))
theorem zWd_at {cs : zCs} {ad : Nat → Nat} {h : zH} {k : Nat} {q : Nat × Nat} (hk : h.1[k]? = some q) : (zWd cs ad h)[k]? = some (ad k, zEnt cs ad h k q) := by
  simp [zWd, List.getElem?_mapIdx, hk]
theorem zWd_len {cs : zCs} {ad : Nat → Nat} {h : zH} : (zWd cs ad h).length = h.1.length := by simp [zWd]
theorem zWd_set {cs : zCs} {ad : Nat → Nat} {h h' : zH} {k : Nat} {q : Nat × Nat} {E : va_E} (hl : h'.1 = h.1) (hk : h.1[k]? = some q) (he : zEnt cs ad h' k q = E) (ho : ∀ k' q', k' ≠ k → h.1[k']? = some q' → zEnt cs ad h' k' q' = zEnt cs ad h k' q') : (zWd cs ad h).set k (ad k, E) = zWd cs ad h' := by
  apply List.ext_getElem?
  intro j
  rw [List.getElem?_set, zWd_len]
  by_cases hj : k = j
  · subst hj
    have hlt : k < h.1.length := (List.getElem?_eq_some_iff.mp hk).1
    rw [if_pos rfl, if_pos hlt, zWd_at (q := q) (by rw [hl]; exact hk), he]
  · rw [if_neg hj]
    cases hq : h.1[j]? with
    | none =>
      have h1 : h.1.length ≤ j := by simpa using hq
      rw [List.getElem?_eq_none (by rw [zWd_len]; exact h1), List.getElem?_eq_none (by rw [zWd_len, hl]; exact h1)]
    | some q' => rw [zWd_at hq, zWd_at (h := h') (q := q') (by rw [hl]; exact hq), ho j q' (fun e => hj e.symm) hq]
theorem zVal_of {ad : Nat → Nat} {h h' : zH} {c k f : Nat} (h1 : h'.2.2.1 k f = h.2.2.1 k f) (h2 : h'.2.2.2 k = h.2.2.2 k) (h3 : zsr h' k f = zsr h k f) : zVal ad h' c k f = zVal ad h c k f := by
  unfold zVal
  rw [h1, h2, h3]
theorem zEnt_of {cs : zCs} {ad : Nat → Nat} {h h' : zH} {k : Nat} {q : Nat × Nat} (h1 : h'.2.2.1 k = h.2.2.1 k) (h2 : h'.2.2.2 k = h.2.2.2 k) (h3 : ∀ f, zsr h' k f = zsr h k f) : zEnt cs ad h' k q = zEnt cs ad h k q := by
  unfold zEnt
  rw [h1, (funext h3 : zsr h' k = zsr h k), (funext (fun f => zVal_of (by rw [h1]) h2 (h3 f)) : zVal ad h' q.1 k = zVal ad h q.1 k)]
theorem zsr_set {r : List (List (Option Nat))} {l : List (Nat × Nat)} {g : Nat → Nat → Int32} {t : Nat → Int64} {k f v : Nat} (hf : f < ((r[k]?).getD []).length) (k' f' : Nat) : zsr (l, zusr r k f v, g, t) k' f' = if k' = k ∧ f' = f then some v else zsr (l, r, g, t) k' f' := by
  unfold zsr zusr
  simp only [List.getElem?_modify]
  by_cases hk : k' = k
  · subst hk
    cases hr : r[k']? with
    | none => rw [hr] at hf; simp at hf
    | some row =>
      rw [hr] at hf
      simp only [Option.getD_some] at hf
      by_cases hj : f' = f
      · subst hj
        simp [hf]
      · have : f ≠ f' := fun e => hj e.symm
        simp [hj, List.getElem?_set, this]
  · have : k ≠ k' := fun e => hk e.symm
    simp [hk, this]
/-- the locals -/
def zPl (b : Nat) (ad : Nat → Nat) (zl : zLs) : List (Nat × Value) := (List.range zl.length).filterMap (fun k => match zl[k]? with
  | some (some v) => if v.category = 2 ∧ zl[k + 1]? ≠ some none then none else some (k, zv b ad v)
  | _ => none)
theorem zPl_in {b : Nat} {ad : Nat → Nat} {zl : zLs} {k : Nat} {w : Value} : (k, w) ∈ zPl b ad zl ↔ ∃ v, zl[k]? = some (some v) ∧ w = zv b ad v ∧ (v.category = 2 → zl[k + 1]? = some none) := by
  unfold zPl
  rw [List.mem_filterMap]
  constructor
  · rintro ⟨j, hj, h⟩
    split at h
    · rename_i v hv
      by_cases q : v.category = 2 ∧ zl[j + 1]? ≠ some none
      · rw [if_pos q] at h
        cases h
      · rw [if_neg q] at h
        cases h
        refine ⟨v, hv, rfl, fun h2 => ?_⟩
        exact Classical.byContradiction fun n => q ⟨h2, n⟩
    · cases h
  · rintro ⟨v, hv, rfl, hc⟩
    refine ⟨k, List.mem_range.mpr (List.getElem?_eq_some_iff.mp hv).1, ?_⟩
    rw [hv]
    show (if _ then none else _) = _
    rw [if_neg (fun q => q.2 (hc q.1))]
def zLV (b : Nat) (ad : Nat → Nat) (nL : Nat) (zl : zLs) (ls : Array Slot) : Prop := zl.length = nL ∧ lv_has ls nL (zPl b ad zl)
theorem zLV.at {b : Nat} {ad : Nat → Nat} {nL : Nat} {zl : zLs} {ls : Array Slot} (h : zLV b ad nL zl ls) {k : Nat} {v : Value} (hk : zl[k]? = some (some v)) (hc : v.category = 2 → zl[k + 1]? = some none) : ls[k]? = some (.val (zv b ad v)) := h.2.2.2 (k, zv b ad v) (zPl_in.mpr ⟨v, hk, rfl, hc⟩)
theorem zLV.mono {b : Nat} {ad : Nat → Nat} {nL : Nat} {zl : zLs} {ls : Array Slot} {l : List (Nat × Value)} (hl : zl.length = nL) (h : lv_has ls nL l) (hs : ∀ q ∈ zPl b ad zl, q ∈ l) : zLV b ad nL zl ls := ⟨hl, h.1, h.2.1, fun q hq => h.2.2 q (hs q hq)⟩
theorem zLV.put1 {b : Nat} {ad : Nat → Nat} {nL : Nat} {zl : zLs} {ls' : Array Slot} {k : Nat} {v : Value} (hl : zl.length = nL) (hc : v.category = 1) (h : lv_has ls' nL ((k, zv b ad v) :: (zPl b ad zl).filter (fun q => !(q.1 == k) && !(q.1 + 1 == k && q.2.category == 2)))) : zLV b ad nL (zl.set k (some v)) ls' := by
  refine zLV.mono (by rw [List.length_set]; exact hl) h ?_
  rintro ⟨j, w⟩ hq
  obtain ⟨x, h1, rfl, h3⟩ := zPl_in.mp hq
  rw [List.getElem?_set] at h1 h3
  by_cases hj : k = j
  · subst hj
    rw [if_pos rfl] at h1
    split at h1
    · cases h1
      exact List.mem_cons_self
    · cases h1
  · rw [if_neg hj] at h1
    have hn : x.category = 2 → ¬ j + 1 = k := fun h2 e => by
      have h4 := h3 h2
      rw [if_pos e.symm] at h4
      split at h4 <;> cases h4
    refine List.mem_cons_of_mem _ (List.mem_filter.mpr ⟨zPl_in.mpr ⟨x, h1, rfl, fun h2 => ?_⟩, ?_⟩)
    · have h4 := h3 h2
      rwa [if_neg (fun e => hn h2 e.symm)] at h4
    · simp only [zv_cat]
      by_cases h2 : x.category = 2
      · simp [hn h2, Ne.symm hj]
      · simp [h2, Ne.symm hj]
theorem zLV.put2 {b : Nat} {ad : Nat → Nat} {nL : Nat} {zl : zLs} {ls' : Array Slot} {k : Nat} {v : Value} (hl : zl.length = nL) (h : lv_has ls' nL ((k, zv b ad v) :: (zPl b ad zl).filter (fun q => !(q.1 == k) && (!(q.1 == k + 1) && !(q.1 + 1 == k && q.2.category == 2))))) : zLV b ad nL ((zl.set k (some v)).set (k + 1) none) ls' := by
  refine zLV.mono (by rw [List.length_set, List.length_set]; exact hl) h ?_
  rintro ⟨j, w⟩ hq
  obtain ⟨x, h1, rfl, h3⟩ := zPl_in.mp hq
  rw [List.getElem?_set, List.length_set] at h1 h3
  by_cases hj1 : k + 1 = j
  · rw [if_pos hj1] at h1
    split at h1 <;> cases h1
  · rw [if_neg hj1, List.getElem?_set] at h1
    by_cases hj : k = j
    · subst hj
      rw [if_pos rfl] at h1
      split at h1
      · cases h1
        exact List.mem_cons_self
      · cases h1
    · rw [if_neg hj] at h1
      have hn : x.category = 2 → ¬ j + 1 = k := fun h2 e => by
        have h4 := h3 h2
        rw [if_neg (by omega), List.getElem?_set, if_pos e.symm] at h4
        split at h4 <;> cases h4
      refine List.mem_cons_of_mem _ (List.mem_filter.mpr ⟨zPl_in.mpr ⟨x, h1, rfl, fun h2 => ?_⟩, ?_⟩)
      · have h4 := h3 h2
        rwa [if_neg (by omega), List.getElem?_set, if_neg (fun e => hn h2 e.symm)] at h4
      · simp only [zv_cat]
        by_cases h2 : x.category = 2
        · simp [hn h2, Ne.symm hj, Ne.symm hj1]
        · simp [h2, Ne.symm hj, Ne.symm hj1]
theorem zArgs_flat (b : Nat) (ad : Nat → Nat) : ∀ (vs : List Value) (k : Nat) (v : Value), (vs.flatMap (fun v => if v.category = 2 then [some v, none] else [some v]))[k]? = some (some v) → (lg_sl (vs.map (zv b ad)))[k]? = some (.val (zv b ad v))
  | [], k, v, h => by simp at h
  | x :: vs, k, v, h => by
    rw [List.flatMap_cons] at h
    show (List.flatMap _ (zv b ad x :: vs.map (zv b ad)))[k]? = _
    rw [List.flatMap_cons, zv_cat]
    by_cases hc : x.category = 2
    · rw [if_pos hc] at h ⊢
      match k, h with
      | 0, h => cases h; rfl
      | 1, h => cases h
      | k + 2, h => exact zArgs_flat b ad vs k v h
    · rw [if_neg hc] at h ⊢
      match k, h with
      | 0, h => cases h; rfl
      | k + 1, h => exact zArgs_flat b ad vs k v h
theorem zArgs_flen (b : Nat) (ad : Nat → Nat) : ∀ (vs : List Value), (lg_sl (vs.map (zv b ad))).length = (vs.flatMap (fun v => if v.category = 2 then [some v, none] else [some v])).length
  | [] => rfl
  | x :: vs => by
    show (List.flatMap _ (zv b ad x :: vs.map (zv b ad))).length = _
    rw [List.flatMap_cons, List.flatMap_cons, List.length_append, List.length_append, zv_cat]
    have ih := zArgs_flen b ad vs
    unfold lg_sl at ih
    rw [ih]
    by_cases hc : x.category = 2
    · rw [if_pos hc, if_pos hc]; rfl
    · rw [if_neg hc, if_neg hc]; rfl
theorem zArgs_LV (b : Nat) (ad : Nat → Nat) (vs : List Value) (n : Nat) (hn : (zArgs vs 0).length ≤ n) : zLV b ad n (zArgs vs n) ((lg_sl (vs.map (zv b ad)) ++ List.replicate (n - (lg_sl (vs.map (zv b ad))).length) Slot.unset).toArray) := by
  have h0 : (zArgs vs 0).length = (vs.flatMap (fun v => if v.category = 2 then [some v, none] else [some v])).length := by simp [zArgs]
  rw [h0] at hn
  have hE := lv_entry (vs.map (zv b ad)) (n := n) (by rw [zArgs_flen]; exact hn)
  refine ⟨(show ((vs.flatMap (fun v : Value => if v.category = 2 then [some v, none] else [some v])) ++ List.replicate (n - (vs.flatMap (fun v : Value => if v.category = 2 then [some v, none] else [some v])).length) none).length = n by rw [List.length_append, List.length_replicate]; omega), hE.1, hE.2.1, ?_⟩
  rintro ⟨k, w⟩ hq
  obtain ⟨v, h1, rfl, -⟩ := zPl_in.mp hq
  unfold zArgs at h1
  by_cases hk : k < (vs.flatMap (fun v => if v.category = 2 then [some v, none] else [some v])).length
  · rw [List.getElem?_append_left hk] at h1
    have h2 := zArgs_flat b ad vs k v h1
    rw [List.getElem?_toArray, List.getElem?_append_left (by rw [zArgs_flen]; exact hk)]
    exact h2
  · rw [List.getElem?_append_right (by omega)] at h1
    have := List.eq_of_mem_replicate (List.mem_of_getElem? h1)
    cases this
/-- other addresses that agree where a reference can point -/
theorem zv_agree {b : Nat} {ad ad' : Nat → Nat} {n : Nat} (ha : ∀ k, k < n → ad' k = ad k) {v : Value} (h : zWv n v = true) : zv b ad' v = zv b ad v := by
  cases v <;> try rfl
  rename_i a
  show Value.ref (ad' a) = Value.ref (ad a)
  rw [ha a (by simpa [zWv, Nat.blt_eq] using h)]
theorem zvs_agree {b : Nat} {ad ad' : Nat → Nat} {n : Nat} (ha : ∀ k, k < n → ad' k = ad k) {st : List Value} (h : st.all (zWv n) = true) : st.map (zv b ad') = st.map (zv b ad) := List.map_congr_left (fun v hv => zv_agree ha (List.all_eq_true.mp h v hv))
theorem zLV.agree {b : Nat} {ad ad' : Nat → Nat} {n nL : Nat} {zl : zLs} {ls : Array Slot} (ha : ∀ k, k < n → ad' k = ad k) (hw : zl.all (zWo n) = true) (h : zLV b ad nL zl ls) : zLV b ad' nL zl ls := by
  refine ⟨h.1, h.2.1, h.2.2.1, ?_⟩
  rintro ⟨k, w⟩ hq
  obtain ⟨v, h1, rfl, h3⟩ := zPl_in.mp hq
  rw [zv_agree ha (show zWv n v = true from List.all_eq_true.mp hw (some v) (List.mem_of_getElem? h1))]
  exact h.at h1 h3
theorem zsr_wf {n : Nat} {h : zH} (hw : zWr n h.2.1 = true) {k f a : Nat} (hs : zsr h k f = some a) : a < n := by
  unfold zsr at hs
  cases hr : h.2.1[k]? with
  | none => rw [hr] at hs; cases hs
  | some row =>
    rw [hr] at hs
    have h1 : row[f]? = some (some a) := by
      cases hf : row[f]? with
      | none => simp [hf] at hs
      | some o => simp [hf] at hs; rw [hs]
    have h2 := List.all_eq_true.mp hw row (List.mem_of_getElem? hr)
    have h3 := List.all_eq_true.mp h2 (some a) (List.mem_of_getElem? h1)
    simpa [Nat.blt_eq] using h3
theorem zsr_agree {n : Nat} {h : zH} {ad ad' : Nat → Nat} (ha : ∀ k, k < n → ad' k = ad k) (hw : zWr n h.2.1 = true) (k f : Nat) : (zsr h k f).map ad' = (zsr h k f).map ad := by
  cases hs : zsr h k f with
  | none => rfl
  | some a => show some _ = some _; rw [ha a (zsr_wf hw hs)]
theorem zEnt_agree {cs : zCs} {n : Nat} {h : zH} {ad ad' : Nat → Nat} (ha : ∀ k, k < n → ad' k = ad k) (hw : zWr n h.2.1 = true) (k : Nat) (q : Nat × Nat) : zEnt cs ad' h k q = zEnt cs ad h k q := by
  have e1 : (fun j => (zsr h k j).map ad') = (fun j => (zsr h k j).map ad) := funext (fun j => zsr_agree ha hw k j)
  have e2 : (fun f => zVal ad' h q.1 k f) = (fun f => zVal ad h q.1 k f) := funext (fun f => by unfold zVal; rw [zsr_agree ha hw k f])
  unfold zEnt
  rw [e1, e2]
/-- a new cell -/
theorem zWd_new {cs : zCs} {h : zH} {ad : Nat → Nat} {t n q : Nat} (hw : zWr h.1.length h.2.1 = true) (hl : h.2.1.length = h.1.length) : zWd cs (va_up ad h.1.length q) (zNew h t n) = zWd cs ad h ++ [(q, zEnt cs (va_up ad h.1.length q) (zNew h t n) h.1.length (t, n))] := by
  have hup : ∀ k, k < h.1.length → va_up ad h.1.length q k = ad k := fun k hk => by unfold va_up; rw [if_neg (Nat.ne_of_lt hk)]
  have hold : ∀ k, k < h.1.length → ∀ q', zEnt cs (va_up ad h.1.length q) (zNew h t n) k q' = zEnt cs ad h k q' := by
    intro k hk q'
    rw [← zEnt_agree (cs := cs) (h := h) hup hw k q']
    refine zEnt_of ?_ ?_ ?_
    · funext j; show (if k = h.1.length then _ else _) = _; rw [if_neg (Nat.ne_of_lt hk)]
    · show (if k = h.1.length then _ else _) = _; rw [if_neg (Nat.ne_of_lt hk)]
    · intro f
      unfold zsr zNew
      dsimp only
      rw [List.getElem?_append_left (by rw [hl]; exact hk)]
  apply List.ext_getElem?
  intro j
  by_cases hj : j < h.1.length
  · rw [List.getElem?_append_left (by rw [zWd_len]; exact hj)]
    have hq : h.1[j]? = some h.1[j] := List.getElem?_eq_getElem hj
    rw [zWd_at (h := h) hq, zWd_at (h := zNew h t n) (q := h.1[j]) (by show (h.1 ++ [(t, n)])[j]? = _; rw [List.getElem?_append_left hj]; exact hq), hup j hj, hold j hj]
  · rw [List.getElem?_append_right (by rw [zWd_len]; omega), zWd_len]
    by_cases hj2 : j = h.1.length
    · subst hj2
      rw [zWd_at (h := zNew h t n) (q := (t, n)) (by show (h.1 ++ [(t, n)])[h.1.length]? = _; simp)]
      simp [va_up]
    · rw [List.getElem?_eq_none (by rw [zWd_len]; show (h.1 ++ [(t, n)]).length ≤ j; simp; omega), List.getElem?_eq_none (by simp; omega)]
