/-! Soundness of what reads and writes cells. -/
theorem zVw : ∀ c : Nat, c < 10 → vwCl[c]? = some (zCn c, zTT c, zNF c)
  | 0, _ => rfl
  | 1, _ => rfl
  | 2, _ => rfl
  | 3, _ => rfl
  | 4, _ => rfl
  | 5, _ => rfl
  | 6, _ => rfl
  | 7, _ => rfl
  | 8, _ => rfl
  | 9, _ => rfl
  | n + 10, h => absurd h (by omega)
theorem zTyOk : ∀ c : Nat, c < 10 → ∀ f, f < zNF c → parseFieldDescriptor (zTT c f).2.2.1 = some (zTy c f)
  | 0, _ => tyX0_ok
  | 1, _ => tyX1_ok
  | 2, _ => tyX2_ok
  | 3, _ => tyX3_ok
  | 4, _ => tyX4_ok
  | 5, _ => tyX5_ok
  | 6, _ => tyX6_ok
  | 7, _ => tyX7_ok
  | 8, _ => tyX8_ok
  | 9, _ => tyX9_ok
  | n + 10, h => absurd h (by omega)
theorem zNmOk : ∀ c : Nat, c < 10 → ∀ a, a < zNF c → ∀ b, b < zNF c → a ≠ b → (zTT c a).2.1 ≠ (zTT c b).2.1
  | 0, _ => nmX0
  | 1, _ => nmX1
  | 2, _ => nmX2
  | 3, _ => nmX3
  | 4, _ => nmX4
  | 5, _ => nmX5
  | 6, _ => nmX6
  | 7, _ => nmX7
  | 8, _ => nmX8
  | 9, _ => nmX9
  | n + 10, h => absurd h (by omega)
def zIsR (t : FieldType) : Bool := match t with
  | .object _ => true
  | .array _ => true
  | _ => false
theorem zRefOk : ∀ c ∈ List.range 10, ∀ f ∈ List.range (zNF c), zFty (zTy c f) = 3 → zIsR (zTy c f) = true := by decide +kernel
theorem zFty0 {t : FieldType} (h : zFty t = 0) : t = .int := by cases t <;> first | rfl | (exact absurd h (by simp [zFty]))
theorem zFty1 {t : FieldType} (h : zFty t = 1) : t = .boolean := by cases t <;> first | rfl | (exact absurd h (by simp [zFty]))
theorem zFty2 {t : FieldType} (h : zFty t = 2) : t = .long := by cases t <;> first | rfl | (exact absurd h (by simp [zFty]))
/-- the words that go from frame to frame, but not as good words -/
def zNw (s : State) : Prop := (∀ a i b n d h, Cond.fieldLinkNest a i b n d h ∈ lw_tbl → va_Nw (.fieldLinkNest a i b n d h) s) ∧ (∀ a i x h, Cond.methodLinkNest a i x h ∈ lw_tbl → va_Nw (.methodLinkNest a i x h) s) ∧ va_AO "BogTown$House" s ∧ va_AO "BogTown$Sheet" s
theorem zNw.warm {s U : State} (hW : s.WarmedH U.vm) (h : zNw s) : zNw U := ⟨fun a i b n d q hm => va_Nw.warmF hW (h.1 a i b n d q hm), fun a i x q hm => va_Nw.warmM hW (h.2.1 a i x q hm), h.2.2.1.moved hW.alike, h.2.2.2.moved hW.alike⟩
theorem zNw.same {s U : State} (hv : s.vm = U.vm) (h : zNw s) : zNw U := ⟨fun a i b n d q hm => va_Nw.same rfl hv (h.1 a i b n d q hm), fun a i x q hm => va_Nw.same rfl hv (h.2.1 a i x q hm), h.2.2.1.moved (by rw [hv]; exact Vm.Alike.refl _), h.2.2.2.moved (by rw [hv]; exact Vm.Alike.refl _)⟩
/-- what stays through a frame of method i -/
def zCx (D : va_G) (cs : zCs) (b L : Nat) (xs : Nat → Int32) (A : Nat → Prop) (i : Nat) (p : Program) (R : Room) (s : State) (m : MethodId) (args : Array Value) (meth : Method) (c : Code) : Prop :=
  p.tables.exec = Jvm.exec ∧ c.code = zB i ∧ c.maxLocals = zML i ∧ s.vm.findClass (zCn (zC i)) = some m.cls ∧ (∀ w ∈ zG, w.before args s = true) ∧ zNw s ∧ ((zY i).name = "<init>" → meth.name = "<init>") ∧ va_K D vwCl (zTys cs) s ∧ va_X b L xs s s.heap ∧ b < s.heap.size ∧ ¬ A b ∧ (∀ q, s.heap.size ≤ q → A q) ∧ zFr i ≤ R.frames ∧ zLo i ≤ R.locals ∧ zMc i ≤ R.cells ∧ 500 * zMc i ≤ R.slots
theorem zifb {α : Type} {q : Bool} {x y : α} (h : (bif q then some x else none) = some y) : q = true ∧ x = y := by
  cases q
  · cases h
  · exact ⟨rfl, Option.some.inj h⟩
theorem zifc {α : Type} {q : Bool} {x : Option α} {y : α} (h : (bif q then x else none) = some y) : q = true ∧ x = some y := by
  cases q
  · cases h
  · exact ⟨rfl, h⟩
theorem zin_in {j : Int32} {n : Nat} (h : zin j n = true) : vp_in j n := by
  unfold zin at h
  simp only [Bool.and_eq_true, Bool.not_eq_true', decide_eq_false_iff_not, Nat.blt_eq] at h
  rintro (q | q)
  · exact h.1 q
  · omega
theorem zFV_val {b : Nat} {ad : Nat → Nat} {h : zH} {c k f : Nat} {v : Value} (hv : zFV h c k f = some v) : zVal ad h c k f = zv b ad v := by
  unfold zFV at hv
  unfold zVal
  generalize zFty (zTy c f) = ty at hv ⊢
  match ty, hv with
  | 0, hv => cases hv; rfl
  | 1, hv => cases hv; rfl
  | 2, hv => cases hv; rfl
  | n + 3, hv =>
    obtain ⟨a, h1, rfl⟩ := Option.map_eq_some_iff.mp hv
    show va_rf (Option.map ad (zsr h k f)) = _
    rw [h1]
    rfl
theorem zfs_set {ad : Nat → Nat} {h h' : zH} {c k f n : Nat} {v : Value} (hh : ∀ j, j < n → zVal ad h' c k j = if j = f then v else zVal ad h c k j) : (List.range n).map (fun j => zVal ad h' c k j) = ((List.range n).map (fun j => zVal ad h c k j)).set f v := by
  apply List.ext_getElem?
  intro j
  rw [List.getElem?_set, List.getElem?_map, List.getElem?_map, List.length_map, List.length_range]
  by_cases hj : j < n
  · rw [List.getElem?_range hj]
    by_cases hf : f = j
    · subst hf
      rw [if_pos rfl, if_pos hj]
      show some (zVal ad h' c k f) = _
      rw [hh f hj, if_pos rfl]
    · rw [if_neg hf]
      show some (zVal ad h' c k j) = some _
      rw [hh j hj, if_neg (fun e => hf e.symm)]
  · rw [List.getElem?_eq_none (by simp; omega)]
    by_cases hf : f = j
    · rw [if_pos hf, if_neg (by omega)]; rfl
    · rw [if_neg hf]; rfl
theorem zbool_n {x : Int32} (h : x = 0 ∨ x = 1) : narrow .boolean (.int x) = .int x ∧ fits .boolean (.int x) = true := by
  rcases h with rfl | rfl <;> exact ⟨by decide, by decide⟩
theorem zFP_ok {b : Nat} {ad : Nat → Nat} {cs : zCs} {h h' : zH} {c k f : Nat} {v : Value} (hc : c < 10) (hf : f < zNF c) (hk : h.1[k]? = some (c, zNF c)) (hv : zFP h c k f v = some h') :
    h'.1 = h.1 ∧ narrow (zTy c f) (zv b ad v) = zv b ad v ∧ fits (zTy c f) (zv b ad v) = true ∧ (zWd cs ad h).set k (ad k, .inr (c, ((List.range (zNF c)).map (fun j => zVal ad h c k j)).set f (zv b ad v))) = zWd cs ad h' := by
  have hE : ∀ g : zH, zEnt cs ad g k (c, zNF c) = .inr (c, (List.range (zNF c)).map (fun j => zVal ad g c k j)) := fun g => by
    unfold zEnt
    rw [show Nat.blt (c, zNF c).1 10 = true by simpa [Nat.blt_eq] using hc]
    rfl
  unfold zFP at hv
  split at hv
  · rename_i x ht
    cases hv
    refine ⟨rfl, by rw [zFty0 ht]; rfl, by rw [zFty0 ht]; rfl, zWd_set rfl hk ?_ ?_⟩
    · rw [hE, zfs_set (h := h) (f := f) (v := .int x) (fun j hj => ?_)]
      · rfl
      by_cases hjf : j = f
      · subst hjf
        rw [if_pos rfl]
        unfold zVal
        rw [ht]
        simp [zu]
      · rw [if_neg hjf]
        exact zVal_of (by simp [zu, hjf]) rfl rfl
    · intro k' q' hne _
      exact zEnt_of (by funext j; simp [zu, hne]) rfl (fun _ => rfl)
  · rename_i x ht
    obtain ⟨hx, rfl⟩ := zifb hv
    have hx2 : x = 0 ∨ x = 1 := by simpa using hx
    refine ⟨rfl, by rw [zFty1 ht]; exact (zbool_n hx2).1, by rw [zFty1 ht]; exact (zbool_n hx2).2, zWd_set rfl hk ?_ ?_⟩
    · rw [hE, zfs_set (h := h) (f := f) (v := .int x) (fun j hj => ?_)]
      · rfl
      by_cases hjf : j = f
      · subst hjf
        rw [if_pos rfl]
        unfold zVal
        rw [ht]
        simp [zu]
      · rw [if_neg hjf]
        exact zVal_of (by simp [zu, hjf]) rfl rfl
    · intro k' q' hne _
      exact zEnt_of (by funext j; simp [zu, hne]) rfl (fun _ => rfl)
  · rename_i x ht
    cases hv
    refine ⟨rfl, by rw [zFty2 ht]; rfl, by rw [zFty2 ht]; rfl, zWd_set rfl hk ?_ ?_⟩
    · rw [hE, zfs_set (h := h) (f := f) (v := .long x) (fun j hj => ?_)]
      · rfl
      by_cases hjf : j = f
      · subst hjf
        rw [if_pos rfl]
        unfold zVal
        rw [ht]
        simp [zuJ]
      · rw [if_neg hjf]
        unfold zVal
        split
        · rfl
        · rfl
        · rename_i h2
          exact absurd (zOneJ c (List.mem_range.mpr hc) j (List.mem_range.mpr hj) f (List.mem_range.mpr hf) h2 ht) hjf
        · rfl
    · intro k' q' hne _
      exact zEnt_of rfl (by simp [zuJ, hne]) (fun _ => rfl)
  · rename_i a ht
    obtain ⟨hx, rfl⟩ := zifb hv
    have hx2 : f < ((h.2.1[k]?).getD []).length := by simpa [Nat.blt_eq] using hx
    have hr := zRefOk c (List.mem_range.mpr hc) f (List.mem_range.mpr hf) ht
    have hsr : ∀ k' f', zsr (h.1, zusr h.2.1 k f a, h.2.2.1, h.2.2.2) k' f' = if k' = k ∧ f' = f then some a else zsr h k' f' := fun k' f' => zsr_set hx2 k' f'
    refine ⟨rfl, ?_, ?_, zWd_set rfl hk ?_ ?_⟩
    · show narrow (zTy c f) (.ref (ad a)) = .ref (ad a)
      generalize zTy c f = t at hr
      cases t <;> first | rfl | cases hr
    · show fits (zTy c f) (.ref (ad a)) = true
      generalize zTy c f = t at hr
      cases t <;> first | rfl | cases hr
    · rw [hE, zfs_set (h := h) (f := f) (v := .ref (ad a)) (fun j hj => ?_)]
      · rfl
      by_cases hjf : j = f
      · subst hjf
        rw [if_pos rfl]
        unfold zVal
        rw [ht, hsr, if_pos ⟨rfl, rfl⟩]
        rfl
      · rw [if_neg hjf]
        exact zVal_of rfl rfl (by rw [hsr, if_neg (fun e => hjf e.2)])
    · intro k' q' hne _
      exact zEnt_of rfl rfl (fun f' => by rw [hsr, if_neg (fun e => hne e.1)])
  · cases hv
section ZM
variable {p : Program} {l : Launch} {e : Env} {R : Room} {s : State} {m : MethodId} {args : Array Value} {below : List Frame} {meth : Method} {c : Code} {H : Heap} {locs : List Loc} {cells slots : Nat} {Q : State → Prop}
variable {i pc len b L nL : Nat} {xs : Nat → Int32} {ad : Nat → Nat} {D : va_G} {cs : zCs} {A : Nat → Prop} {ls : Array Slot} {rest : List Value} {ins : Instr} {h h' : zH} {st st' : List Value}
theorem zs_getf (Cx : zCx D cs b L xs A i p R s m args meth c) {idx k : Nat} (hd : decode (zB i) pc = .ok (.getfield idx, 3)) (hP : va_P D vwCl (zWd cs ad h) H) {C f nest pp t n : Nat} (h1 : zFS.lookup (zC i, idx) = some (C, f, nest, pp)) (h2 : h.1[k]? = some (t, n)) (h3 : t = C ∧ n = zNF C) {v : Value} (h4 : zFV h C k f = some v)
    (kk : W p l e R s m args below meth c H locs cells slots Q (F0 m (pc + 3) ls (zv b ad v :: rest))) : W p l e R s m args below meth c H locs cells slots Q (F0 m pc ls (.ref (ad k) :: rest)) := by
  obtain ⟨hx, hb, hml, hown, hts, hnw, hini, hK, -⟩ := Cx
  obtain ⟨rfl, rfl⟩ := h3
  have hF := zFS_ok _ (zlook h1)
  unfold zFok at hF
  simp only [Bool.and_eq_true, Nat.blt_eq, decide_eq_true_eq] at hF
  obtain ⟨⟨⟨hc, hf⟩, hdecl⟩, hl⟩ := hF
  have he : (zWd cs ad h)[k]? = some (ad k, .inr (t, (List.range (zNF t)).map (fun j => zVal ad h t k j))) := by
    rw [zWd_at h2]
    unfold zEnt
    rw [show Nat.blt (t, zNF t).1 10 = true by simpa [Nat.blt_eq] using hc]
    rfl
  have hv : ((List.range (zNF t)).map (fun j => zVal ad h t k j))[f]? = some (zv b ad v) := by
    rw [List.getElem?_map, List.getElem?_range hf]
    show some (zVal ad h t k f) = _
    rw [zFV_val h4]
  have hin : ∀ w ∈ u_ws (zCn t) (zTT t) (zNF t), w ∈ zG := zCl_ok t (List.mem_range.mpr hc)
  have hsame : ∀ x, s.fieldFound? (zTT t f).1 (zTT t f).2.1 (zTT t f).2.2.1 = some x → s.fieldFound? (zCn t) (zTT t f).2.1 (zTT t f).2.2.1 = some x := fun x hx => by rw [hdecl] at hx; exact hx
  cases hq : Nat.beq nest 0 with
  | true =>
    rw [hq] at hl
    exact va_get hx hb hts hin hown hK hP k he (zVw t hc) f hf (hts _ (zw_in hl)) hsame hv hd kk
  | false =>
    rw [hq] at hl
    exact va_getN hx hb hts hin hown hK hP k he (zVw t hc) f hf (va_Nw.use rfl (hnw.1 _ _ _ _ _ _ (zwn_in hl))) hsame hv hd kk
theorem zs_putf (Cx : zCx D cs b L xs A i p R s m args meth c) {idx k : Nat} (hd : decode (zB i) pc = .ok (.putfield idx, 3)) (hP : va_P D vwCl (zWd cs ad h) H) (hD : va_D A (zWd cs ad h)) (hS : va_S A s.heap H locs) {C f nest pp t n : Nat} (h1 : zFS.lookup (zC i, idx) = some (C, f, nest, pp)) (h2 : h.1[k]? = some (t, n)) (h3 : t = C ∧ n = zNF C) (hfin : (zTT C f).2.2.2 = false ∨ ((zY i).name = "<init>" ∧ C = zC i ∧ nest = 0)) {v : Value} (h4 : zFP h C k f v = some h')
    (kk : ∀ (H1 : Heap) (locs1 : List Loc), va_P D vwCl (zWd cs ad h') H1 → va_D A (zWd cs ad h') → va_S A s.heap H1 locs1 → W p l e R s m args below meth c H1 locs1 cells slots Q (F0 m (pc + 3) ls rest)) : W p l e R s m args below meth c H locs cells slots Q (F0 m pc ls (zv b ad v :: .ref (ad k) :: rest)) := by
  obtain ⟨hx, hb, hml, hown, hts, hnw, hini, hK, -⟩ := Cx
  obtain ⟨rfl, rfl⟩ := h3
  have hF := zFS_ok _ (zlook h1)
  unfold zFok at hF
  simp only [Bool.and_eq_true, Nat.blt_eq, decide_eq_true_eq] at hF
  obtain ⟨⟨⟨hc, hf⟩, hdecl⟩, hl⟩ := hF
  obtain ⟨-, hn, hft, hset⟩ := zFP_ok (b := b) (ad := ad) (cs := cs) hc hf h2 h4
  have he : (zWd cs ad h)[k]? = some (ad k, .inr (t, (List.range (zNF t)).map (fun j => zVal ad h t k j))) := by
    rw [zWd_at h2]
    unfold zEnt
    rw [show Nat.blt (t, zNF t).1 10 = true by simpa [Nat.blt_eq] using hc]
    rfl
  have hin : ∀ w ∈ u_ws (zCn t) (zTT t) (zNF t), w ∈ zG := zCl_ok t (List.mem_range.mpr hc)
  have hsame : ∀ x, s.fieldFound? (zTT t f).1 (zTT t f).2.1 (zTT t f).2.2.1 = some x → s.fieldFound? (zCn t) (zTT t f).2.1 (zTT t f).2.2.1 = some x := fun x hx => by rw [hdecl] at hx; exact hx
  have hlen : f < ((List.range (zNF t)).map (fun j => zVal ad h t k j)).length := by simpa using hf
  rw [← hset] at kk
  by_cases hfl : (zTT t f).2.2.2 = false
  · cases hq : Nat.beq nest 0 with
    | true =>
      rw [hq] at hl
      exact va_put hx hb hts hin (zTy t) (zTyOk t hc) (zNmOk t hc) hown hK hP hD hS k he (zVw t hc) f hf (hts _ (zw_in hl)) hsame hfl (zTyOk t hc f hf) hn hft hlen hd kk
    | false =>
      rw [hq] at hl
      exact va_putN hx hb hts hin (zTy t) (zTyOk t hc) (zNmOk t hc) hown hK hP hD hS k he (zVw t hc) f hf (va_Nw.use rfl (hnw.1 _ _ _ _ _ _ (zwn_in hl))) hsame hfl (zTyOk t hc f hf) hn hft hlen hd kk
  · rcases hfin with hz | ⟨hz1, hz2, hz3⟩
    · exact absurd hz hfl
    · subst hz3
      exact va_putF hx hb hts hin (zTy t) (zTyOk t hc) (zNmOk t hc) hown hK hP hD hS k he (zVw t hc) f hf (hts _ (zw_in hl)) hsame (by simpa using hfl) (hini hz1) (by rw [hdecl, hz2]) (zTyOk t hc f hf) hn hft hlen hd kk
end ZM
