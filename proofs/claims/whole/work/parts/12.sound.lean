/-! The soundness of the abstract machine: what ev says, the real one does. -/
theorem zMSc : ∀ e ∈ zMS, (e.2.2.1 = 0 ∨ e.2.2.1 = 1 ∨ e.2.2.1 = 4 ∨ e.2.2.1 = 5) → zC e.2.1 < 10 := by decide +kernel
def zRm (j : Nat) : Room := { frames := zFr j, cells := zMc j, slots := 500 * zMc j, locals := zLo j }
def zPre (D : va_G) (cs : zCs) (b L : Nat) (xs : Nat → Int32) (A : Nat → Prop) (ad : Nat → Nat) (h : zH) (U : State) : Prop := va_P D vwCl (zWd cs ad h) U.heap ∧ va_D A (zWd cs ad h) ∧ va_K D vwCl (zTys cs) U ∧ zNw U ∧ va_X b L xs U U.heap ∧ b < U.heap.size ∧ ¬ A b ∧ (∀ q, U.heap.size ≤ q → A q)
def zBk (D : va_G) (cs : zCs) (A : Nat → Prop) (ad : Nat → Nat) (n : Nat) (h' : zH) (j : Nat) (ad' : Nat → Nat) (t : State) : Prop := (∀ k, k < n → ad' k = ad k) ∧ (zMc j = 0 → ad' = ad) ∧ h'.1.length = n + zMc j ∧ va_P D vwCl (zWd cs ad' h') t.heap ∧ va_D A (zWd cs ad' h')
def zQ (D : va_G) (cs : zCs) (A : Nat → Prop) (ad : Nat → Nat) (n : Nat) (h' : zH) (j : Nat) (v : Option Value) : Array Value → State → Outcome → State → Prop := match v with
  | some (.int x) => va_Qi (fun r (_ : Nat → Nat) => r = x) (zBk D cs A ad n h' j) A
  | some (.long x) => va_Ql (fun r (_ : Nat → Nat) => r = x) (zBk D cs A ad n h' j) A
  | some (.ref a) => va_Qr (fun (_ : Nat → Nat) => True) (fun ad' ra t => ra = ad' a ∧ zBk D cs A ad n h' j ad' t) A
  | none => va_Qv (fun (_ : Nat → Nat) => True) (zBk D cs A ad n h' j) A
  | _ => fun _ _ _ _ => False
def zRtn (l : Launch) (D : va_G) (cs : zCs) (b : Nat) (A : Nat → Prop) (p : Program) (e : Env) (R : Room) (s : State) (m : MethodId) (args : Array Value) (below : List Frame) (meth : Method) (c : Code) (i n0 : Nat) (ad0 : Nat → Nat) (Q : State → Prop) (r : Option Value) (h' : zH) : Prop := ∀ (pc' : Nat) (ls' : Array Slot) (H' : Heap) (locs' : List Loc) (ad' : Nat → Nat) (ins : Instr) (len : Nat) (st' : List Value), decode (zB i) pc' = .ok (ins, len) → zRt i n0 h'.1.length ins len st' = some r → (∀ k, k < n0 → ad' k = ad0 k) → (zMc i = 0 → ad' = ad0) → n0 ≤ h'.1.length → h'.1.length ≤ n0 + zMc i → va_P D vwCl (zWd cs ad' h') H' → va_D A (zWd cs ad' h') → va_S A s.heap H' locs' → W p l e R s m args below meth c H' locs' (h'.1.length - n0) (500 * (h'.1.length - n0)) Q (F0 m pc' ls' (st'.map (zv b ad')))
def zOk (l : Launch) (D : va_G) (cs : zCs) (b L : Nat) (xs : Nat → Int32) (A : Nat → Prop) (n : Nat) : Prop := ∀ (p : Program) (e : Env) (R : Room) (s : State) (m : MethodId) (args : Array Value) (below : List Frame) (meth : Method) (c : Code) (i n0 pc : Nat) (zl : zLs) (st : List Value) (h : zH) (r : Option Value) (h' : zH) (ad0 ad : Nat → Nat) (H : Heap) (locs : List Loc) (ls : Array Slot) (Q : State → Prop), ev L xs n i n0 pc zl st h = some (r, h') → zCx D cs b L xs A i p R s m args meth c → n0 ≤ h.1.length → h.1.length ≤ n0 + zMc i → (∀ k, k < n0 → ad k = ad0 k) → (zMc i = 0 → ad = ad0) → va_P D vwCl (zWd cs ad h) H → va_D A (zWd cs ad h) → va_S A s.heap H locs → zLV b ad (zML i) zl ls → zRtn l D cs b A p e R s m args below meth c i n0 ad0 Q r h' → W p l e R s m args below meth c H locs (h.1.length - n0) (500 * (h.1.length - n0)) Q (F0 m pc ls (st.map (zv b ad)))
section ZC
variable {l : Launch} {D : va_G} {cs : zCs} {b L : Nat} {xs : Nat → Int32} {A : Nat → Prop} {n : Nat}
theorem zMet (ih : zOk l D cs b L xs A n) {j : Nat} (hj : j < 168) {h h' : zH} {ad : Nat → Nat} {as : List Value} {v : Option Value} (hev : ev L xs n j h.1.length 0 (zArgs as (zML j)) [] h = some (v, h')) (hargs : (zArgs as 0).length ≤ zML j) : Met l (zY j) (.code (zY j) (zB j) (zML j) (zRet j) :: zG) (zRm j) (va_Pc (as.map (zv b ad)) (zPre D cs b L xs A ad h)) (zQ D cs A ad h.1.length h' j v) (zMc j) (500 * zMc j) A := by
  have hjr : j ∈ List.range 168 := List.mem_range.mpr hj
  refine Met.ofW (cc := zB j) (maxL := zML j) (ret := zRet j) (zD2 j hjr) rfl ?_
  intro p e s m args below meth c s₁ B hml hv
  obtain ⟨rfl, hP, hD, hK, hN, hX, hbl, hbA, hA⟩ := hv
  have hx := B.exec
  have hb := B.bytes
  have hr := B.returns
  have hts := atoms_spec (ws := .code (zY j) (zB j) (zML j) (zRet j) :: zG) B.pre
  have hown : s.vm.findClass (zY j).cls = some m.cls := findClass_of_methodNamed B.named
  have hlocks := B.notSynchronized
  have hin : meth.name = (zY j).name := (name_of_methodNamed B.named B.method).1
  have hl := zArgs_LV b ad as (zML j) hargs
  rw [lg_entry_eq]
  generalize (lg_sl (as.map (zv b ad)) ++ List.replicate (zML j - (lg_sl (as.map (zv b ad))).length) Slot.unset).toArray = ls at hl ⊢
  have Cx : zCx D cs b L xs A j p (zRm j) s m (as.map (zv b ad)).toArray meth c := ⟨hx, hb, hml, by rw [← zD5 j hjr]; exact hown, fun w hw => hts w (List.mem_cons_of_mem _ hw), hN, fun q => hin.trans q, hK, hX, hbl, hbA, hA, Nat.le_refl _, Nat.le_refl _, Nat.le_refl _, Nat.le_refl _⟩
  have k := ih p e (zRm j) s m (as.map (zv b ad)).toArray below meth c j h.1.length 0 (zArgs as (zML j)) [] h v h' ad ad s.heap [] ls (MQ below (zQ D cs A ad h.1.length h' j v) (as.map (zv b ad)).toArray s (zMc j) (500 * zMc j) A) hev Cx (Nat.le_refl _) (by omega) (fun _ _ => rfl) (fun _ => rfl) hP hD va_S.rf hl ?_
  · rw [Nat.sub_self] at k
    exact k
  · intro pc' ls' H' locs' ad' ins len st' hd hrt ha1 ha2 hn _ hP' hD' hS'
    unfold zRt at hrt
    have hq := zifc hrt
    clear hrt
    obtain ⟨hq1, hrt⟩ := hq
    have hlen : h'.1.length = h.1.length + zMc j := by
      simp only [Bool.or_eq_true, Nat.beq_eq] at hq1
      rcases hq1 with q | q
      · exact q
      · exact absurd q (by unfold zLaw; omega)
    rw [show h'.1.length - h.1.length = zMc j by omega]
    have hB : ∀ t : State, t.heap = H' → zBk D cs A ad h.1.length h' j ad' t := fun t ht => ⟨ha1, ha2, hlen, by rw [ht]; exact hP', hD'⟩
    split at hrt
    · rename_i hret
      cases hrt
      exact W.iret hx hb (by rw [hr, hret]) (fun t ht _ => ⟨⟨_, ad', rfl, rfl, hB t ht⟩, hS'.F ht⟩) hS'.2.2 hd hlocks
    · rename_i x hret
      obtain ⟨hx01, hrt2⟩ := zifb hrt
      cases hrt2
      have hx2 : x = 0 ∨ x = 1 := by simpa using hx01
      exact W.zret hx hb (by rw [hr, hret]) (zbool_n hx2).1 (fun t ht _ => ⟨⟨_, ad', rfl, rfl, hB t ht⟩, hS'.F ht⟩) hS'.2.2 hd hlocks
    · rename_i hret
      cases hrt
      exact W.lret hx hb (by rw [hr, hret]) (fun t ht _ => ⟨⟨_, ad', rfl, rfl, hB t ht⟩, hS'.F ht⟩) hS'.2.2 hd hlocks
    · rename_i C a hret
      cases hrt
      exact W.aret hx hb (by rw [hr, hret]) (Or.inl ⟨C, rfl⟩) (Or.inr ⟨_, rfl⟩) (fun t ht _ => ⟨⟨ad', _, rfl, trivial, rfl, hB t ht⟩, hS'.F ht⟩) hS'.2.2 hd hlocks
    · rename_i hret
      cases hrt
      exact W.vret hx hb (by rw [hr, hret]) (fun t ht _ => ⟨⟨ad', rfl, trivial, hB t ht⟩, hS'.F ht⟩) hS'.2.2 hd hlocks
    · cases hrt
theorem zGood {j : Nat} (hj : j < 168) : GoodIn zG (.code (zY j) (zB j) (zML j) (zRet j) :: zG) := by
  intro w hw
  have hm : w ∈ zG := by
    rcases List.mem_cons.mp hw with rfl | q
    · exact zCode_in hj
    · exact q
  exact ⟨hm, good_of_word (zG_good hm)⟩
variable {p : Program} {e : Env} {R : Room} {s : State} {m : MethodId} {args : Array Value} {below : List Frame} {meth : Method} {c : Code} {H : Heap} {locs : List Loc} {cells slots : Nat} {Q : State → Prop}
variable {i n0 pc len : Nat} {ad : Nat → Nat} {ls : Array Slot} {zl : zLs} {ins : Instr} {h h' : zH} {st : List Value}
theorem zblind {av : List Value} : FrameBlind (va_Pc av (zPre D cs b L xs A ad h)) := by
  rintro a U g mk ⟨rfl, h1, h2, h3, h4, h5, h6, h7, h8⟩
  exact ⟨rfl, h1, h2, va_K.moved (u := U) (U := U.calling g mk _) (Vm.Alike.refl U.vm) h3, zNw.same (s := U) (U := U.calling g mk _) rfl h4, va_X.moved (u := U) (U := U.calling g mk _) (Vm.Alike.refl U.vm) h5, h6, h7, h8⟩
/-- behind a call -/
theorem zs_ret {j : Nat} {v : Option Value} {a : Array Value} {st0 rest : List Value} (hr : va_Run p l e R s m args below meth c H locs cells slots (zMc j) (500 * zMc j) (F0 m pc ls st0) rest (zQ D cs A ad h.1.length h' j v a) A) (hS : va_S A s.heap H locs)
    (kk : ∀ (ad' : Nat → Nat) (H1 : Heap) (locs1 : List Loc), (∀ k, k < h.1.length → ad' k = ad k) → (zMc j = 0 → ad' = ad) → h'.1.length = h.1.length + zMc j → va_P D vwCl (zWd cs ad' h') H1 → va_D A (zWd cs ad' h') → va_S A s.heap H1 locs1 → W p l e R s m args below meth c H1 locs1 (cells + zMc j) (slots + 500 * zMc j) Q (F0 m (pc + 3) ls (v.toList.map (zv b ad') ++ rest))) : W p l e R s m args below meth c H locs cells slots Q (F0 m pc ls st0) := by
  have bad : (∀ st oc t, zQ D cs A ad h.1.length h' j v a st oc t → False) → W p l e R s m args below meth c H locs cells slots Q (F0 m pc ls st0) := by
    intro hf T hT X
    obtain ⟨v', st₀, t, T', L', h0, X', hL', e1, e2, hq, -⟩ := hr T hT X
    exact (hf _ _ _ hq).elim
  cases v with
  | none => exact va_callv (a := a) hr hS (fun q _ z => z) (fun q z => z) (fun ad' t H1 locs1 ht _ _ hB _ _ hS1 => kk ad' H1 locs1 hB.1 hB.2.1 hB.2.2.1 (by rw [← ht]; exact hB.2.2.2.1) hB.2.2.2.2 hS1)
  | some v =>
    cases v with
    | int x => exact va_calli (a := a) hr hS (fun q _ z => z) (fun q z => z) (fun r ad' t H1 locs1 ht _ hp hB _ _ hS1 => by subst hp; exact kk ad' H1 locs1 hB.1 hB.2.1 hB.2.2.1 (by rw [← ht]; exact hB.2.2.2.1) hB.2.2.2.2 hS1)
    | long x => exact va_calll (a := a) hr hS (fun q _ z => z) (fun q z => z) (fun r ad' t H1 locs1 ht _ hp hB _ _ hS1 => by subst hp; exact kk ad' H1 locs1 hB.1 hB.2.1 hB.2.2.1 (by rw [← ht]; exact hB.2.2.2.1) hB.2.2.2.2 hS1)
    | ref x => exact va_callr (a := a) hr hS (fun q _ z => z) (fun q z => z) (fun ad' ra t H1 locs1 ht _ _ hB _ _ hS1 => by obtain ⟨rfl, hB⟩ := hB; exact kk ad' H1 locs1 hB.1 hB.2.1 hB.2.2.1 (by rw [← ht]; exact hB.2.2.2.1) hB.2.2.2.2 hS1)
    | null => exact bad (fun _ _ _ q => q)
    | float x => exact bad (fun _ _ _ q => q)
    | double x => exact bad (fun _ _ _ q => q)
    | retAddr x => exact bad (fun _ _ _ q => q)
theorem zs_call (ih : zOk l D cs b L xs A n) (Cx : zCx D cs b L xs A i p R s m args meth c) (hd : decode (zB i) pc = .ok (ins, len)) (hP : va_P D vwCl (zWd cs ad h) H) (hD : va_D A (zWd cs ad h)) (hS : va_S A s.heap H locs) (hL : zLV b ad (zML i) zl ls) (hn : n0 ≤ h.1.length) {j : Nat} {as rest : List Value} (hz : zCall i n0 ins len zl st h = some (j, as, rest)) {v : Option Value} (hev : ev L xs n j h.1.length 0 (zArgs as (zML j)) [] h = some (v, h'))
    (kk : ∀ (ad' : Nat → Nat) (H1 : Heap) (locs1 : List Loc), (∀ k, k < h.1.length → ad' k = ad k) → (zMc j = 0 → ad' = ad) → h'.1.length = h.1.length + zMc j → va_P D vwCl (zWd cs ad' h') H1 → va_D A (zWd cs ad' h') → va_S A s.heap H1 locs1 → zLV b ad' (zML i) zl ls → rest.map (zv b ad') = rest.map (zv b ad) → W p l e R s m args below meth c H1 locs1 (h.1.length - n0 + zMc j) (500 * (h.1.length - n0) + 500 * zMc j) Q (F0 m (pc + 3) ls (v.toList.map (zv b ad') ++ rest.map (zv b ad)))) : W p l e R s m args below meth c H locs (h.1.length - n0) (500 * (h.1.length - n0)) Q (F0 m pc ls (st.map (zv b ad))) := by
  obtain ⟨hx, hb, hml, hown, hts, hnw, hini, hK, hX, hbl, hbA, hA, hR1, hR2, hR3, hR4⟩ := id Cx
  unfold zCall at hz
  split at hz
  case h_2 => cases hz
  rename_i j' kd hsite
  obtain ⟨hc, hz2⟩ := zifb hz
  cases hz2
  simp only [Bool.and_eq_true, Nat.ble_eq] at hc
  obtain ⟨⟨hcan, hargs⟩, hrcv⟩ := hc
  simp only [zCan, Bool.and_eq_true, Nat.ble_eq, Bool.or_eq_true, Nat.beq_eq] at hcan
  obtain ⟨⟨⟨⟨⟨c1, c2⟩, c3⟩, c4⟩, c5⟩, c6⟩ := hcan
  have hst : st = st.take (zNA j kd) ++ st.drop (zNA j kd) := (List.take_append_drop _ _).symm
  have haslen : (st.take (zNA j kd)).reverse.length = zNA j kd := by rw [List.length_reverse, List.length_take]; omega
  have c6' : (((st.drop (zNA j kd)).map (zv b ad)).map (fun v : Value => v.category)).sum ≤ 8 := by rw [zv_cats]; exact c6
  -- what the rest of the frame is behind the call
  have kk2 : ∀ (ad' : Nat → Nat) (H1 : Heap) (locs1 : List Loc), (∀ k, k < h.1.length → ad' k = ad k) → (zMc j = 0 → ad' = ad) → h'.1.length = h.1.length + zMc j → va_P D vwCl (zWd cs ad' h') H1 → va_D A (zWd cs ad' h') → va_S A s.heap H1 locs1 → W p l e R s m args below meth c H1 locs1 (h.1.length - n0 + zMc j) (500 * (h.1.length - n0) + 500 * zMc j) Q (F0 m (pc + 3) ls (v.toList.map (zv b ad') ++ (st.drop (zNA j kd)).map (zv b ad))) := by
    intro ad' H1 locs1 q1 q2 q3 q4 q5 q6
    rcases c5 with c5 | c5
    · have e := q2 c5
      subst e
      exact kk _ H1 locs1 q1 q2 q3 q4 q5 q6 hL rfl
    · obtain ⟨w1, w2, w3, w4⟩ := zWf_parts c5
      refine kk ad' H1 locs1 q1 q2 q3 q4 q5 q6 (hL.agree q1 w1) (zvs_agree q1 (List.all_eq_true.mpr fun v hv => List.all_eq_true.mp w2 v (List.mem_of_mem_drop hv)))
  have hf : h.1.length - n0 + zMc j ≤ R.cells ∧ 500 * (h.1.length - n0) + 500 * zMc j ≤ R.slots := by omega
  have hRR : (zRm j).frames + 1 ≤ R.frames ∧ 8 + (zML j + 11) + (zRm j).locals ≤ R.locals := by
    show zFr j + 1 ≤ R.frames ∧ 8 + (zML j + 11) + zLo j ≤ R.locals
    omega
  have hCF : CallFix p m c (zB i) (zML i) s args zG (zCn (zC i)) := ⟨hx, hb, hml, hown, hts⟩
  have hstart : ∀ U : State, U.heap = H → s.WarmedH U.vm → va_Pc ((st.take (zNA j kd)).reverse.map (zv b ad)) (zPre D cs b L xs A ad h) ((st.take (zNA j kd)).reverse.map (zv b ad)).toArray U := by
    intro U hU hW
    have hbH : H[b]? = s.heap[b]? := hS.2.1 b hbl hbA
    have hbH2 : b < H.size := Nat.lt_of_lt_of_le hbl hS.1
    exact ⟨rfl, by rw [hU]; exact hP, hD, va_K.moved hW.alike hK, hnw.warm hW, (va_X.moved hW.alike (hX.kept (H1 := U.heap) (by rw [hU]; exact hbH))), by rw [hU]; exact hbH2, hbA, fun q hq => hA q (Nat.le_trans hS.1 (by rw [hU] at hq; exact hq))⟩
  have hM := fun hj => zMet ih (ad := ad) hj hev hargs
  have dd : j < 168 → ((zY j).cls ≠ "java/lang/invoke/MethodHandle" ∧ (zY j).cls ≠ "java/lang/invoke/VarHandle" ∧ (parseMethodDescriptor (zY j).desc).map (fun d => d.parameters.length) = some (zMD j).2.2.2.2.2) := by
    intro hj
    have hjr : j ∈ List.range 168 := List.mem_range.mpr hj
    have d3 := zD3 j hjr
    simp only [Bool.and_eq_true, Bool.not_eq_true', beq_eq_false_iff_ne] at d3
    exact ⟨d3.1, d3.2, eq_of_beq (zD4 j hjr)⟩
  have di : j < 168 → (Cond.initialized (zY j).cls).before args s = true := fun hj => hts _ (zw_in (zD1 j (List.mem_range.mpr hj)))
  -- the receiver, where there is one
  have rcv : kd ≠ 0 → zC j < 10 → ∃ k as', (st.take (zNA j kd)).reverse = .ref k :: as' ∧ (∃ cellB : Cell, H[ad k]? = some cellB ∧ cellB.vm.isStatics = false ∧ s.vm.findClass (zCn (zC j)) = some cellB.cls) := by
    intro hk hc10
    have h1 : zRcv j h (st.take (zNA j kd)).reverse = true := by
      simp only [Bool.or_eq_true, Nat.beq_eq] at hrcv
      rcases hrcv with q | q
      · exact absurd q hk
      · exact q
    unfold zRcv at h1
    split at h1
    · rename_i k as' has
      split at h1
      · rename_i t nn hk1
        have ht : t = zC j := by simpa [Nat.beq_eq] using h1
        subst ht
        refine ⟨k, as', has, ?_⟩
        have he : (zWd cs ad h)[k]? = some (ad k, .inr (zC j, (List.range nn).map (fun f => zVal ad h (zC j) k f))) := by
          rw [zWd_at hk1]
          unfold zEnt
          rw [show Nat.blt (zC j, nn).1 10 = true by simpa [Nat.blt_eq] using hc10]
          rfl
        exact va_recv hK hP (zVw (zC j) hc10) he
      · cases h1
    · cases h1
  have stk : ∀ {k : Nat} {as' : List Value}, (st.take (zNA j kd)).reverse = .ref k :: as' → st.map (zv b ad) = (as'.map (zv b ad)).reverse ++ .ref (ad k) :: (st.drop (zNA j kd)).map (zv b ad) := by
    intro k as' h1
    have h2 : st.take (zNA j kd) = as'.reverse ++ [.ref k] := by
      have := congrArg List.reverse h1
      simpa using this
    conv => lhs; rw [hst, h2]
    simp [zv]
  unfold zSite at hsite
  split at hsite
  · rename_i idx
    obtain ⟨q, hq1, hq2⟩ := Option.bind_eq_some_iff.mp hsite
    obtain ⟨q3, q4⟩ := zifb hq2
    cases q4
    obtain ⟨j, kind, pp⟩ := q
    have hMs := zMS_ok _ (zlook hq1)
    have hk2 : kind < 2 := by simpa [Nat.blt_eq] using q3
    have hc10 := zMSc _ (zlook hq1) (by show kind = 0 ∨ kind = 1 ∨ kind = 4 ∨ kind = 5; omega)
    obtain ⟨k, as', has, hcell⟩ := rcv (by decide) hc10
    have hnas : (as'.map (zv b ad)).length = (zMD j).2.2.2.2.2 := by
      rw [has] at haslen
      have : zNA j 1 = (zMD j).2.2.2.2.2 + 1 := rfl
      rw [List.length_map]
      simp at haslen
      omega
    have hst2 := stk has
    rw [has] at hM hstart
    match kind, hMs, hk2 with
    | 0, hMs, _ =>
      simp only [zMok, Bool.and_eq_true, Nat.blt_eq] at hMs
      obtain ⟨⟨⟨hj, m1⟩, m2⟩, m3⟩ := hMs
      rw [← zD5 j (List.mem_range.mpr hj)] at hcell
      rw [hst2]
      refine zs_ret (va_runV (C := (zY j).cls) (b := ad k) (As := as'.map (zv b ad)) (rest := (st.drop (zNA j 1)).map (zv b ad)) hCF (hM hj) ⟨callB_of _ hts (zGood hj) rfl rfl rfl (di hj) (hts _ (zw_in m1)) (dd hj) hRR, hts _ (zw_in m2), hts _ (zw_in m3)⟩ ⟨zblind, hcell, hstart⟩ rfl hnas hL.2.1 rfl (lv_room c6') hd hf) hS kk2
    | 1, hMs, _ =>
      simp only [zMok, Bool.and_eq_true, Nat.blt_eq] at hMs
      obtain ⟨⟨⟨hj, m1⟩, m2⟩, m3⟩ := hMs
      rw [← zD5 j (List.mem_range.mpr hj)] at hcell
      rw [hst2]
      refine zs_ret (va_runVN (C := (zY j).cls) (b := ad k) (As := as'.map (zv b ad)) (rest := (st.drop (zNA j 1)).map (zv b ad)) hCF (hM hj) ⟨va_cnB _ hts (zGood hj) rfl rfl rfl (hnw.2.1 _ _ _ _ (zwn_in m1)) (di hj) (dd hj) hRR, hts _ (zw_in m2), hts _ (zw_in m3)⟩ ⟨zblind, hcell, hstart⟩ rfl hnas hL.2.1 rfl (lv_room c6') hd hf) hS kk2
  · rename_i idx
    obtain ⟨q, hq1, hq2⟩ := Option.bind_eq_some_iff.mp hsite
    obtain ⟨q3, q4⟩ := zifb hq2
    cases q4
    obtain ⟨j, kind, pp⟩ := q
    have hMs := zMS_ok _ (zlook hq1)
    have hk2 : kind = 2 := by simpa [Nat.beq_eq] using q3
    subst hk2
    simp only [zMok, Bool.and_eq_true, Nat.blt_eq] at hMs
    obtain ⟨⟨hj, m1⟩, m2⟩ := hMs
    have hnas : ((st.take (zNA j 0)).reverse.map (zv b ad)).length = (zMD j).2.2.2.2.2 := by
      rw [List.length_map, haslen]
      rfl
    have hst2 : st.map (zv b ad) = ((st.take (zNA j 0)).reverse.map (zv b ad)).reverse ++ (st.drop (zNA j 0)).map (zv b ad) := by
      rw [← List.map_reverse, List.reverse_reverse, ← List.map_append, List.take_append_drop]
    rw [hst2]
    refine zs_ret (va_runS (As := (st.take (zNA j 0)).reverse.map (zv b ad)) (rest := (st.drop (zNA j 0)).map (zv b ad)) hCF (hM hj) ⟨callB_of _ hts (zGood hj) rfl rfl rfl (di hj) (hts _ (zw_in m1)) (dd hj) hRR, hts _ (zw_in m2)⟩ ⟨zblind, hstart⟩ rfl hnas hL.2.1 rfl (lv_room c6') hd hf) hS kk2
  · rename_i idx
    obtain ⟨q, hq1, hq2⟩ := Option.bind_eq_some_iff.mp hsite
    obtain ⟨q3, q4⟩ := zifb hq2
    cases q4
    obtain ⟨j, kind, pp⟩ := q
    have hMs := zMS_ok _ (zlook hq1)
    have hk2 : kind = 4 ∨ kind = 5 := by simpa [Nat.beq_eq] using q3
    have hc10 := zMSc _ (zlook hq1) (by show kind = 0 ∨ kind = 1 ∨ kind = 4 ∨ kind = 5; omega)
    obtain ⟨k, as', has, hcell⟩ := rcv (by decide) hc10
    have hnas : (as'.map (zv b ad)).length = (zMD j).2.2.2.2.2 := by
      rw [has] at haslen
      have : zNA j 2 = (zMD j).2.2.2.2.2 + 1 := rfl
      rw [List.length_map]
      simp at haslen
      omega
    have hst2 := stk has
    rw [has] at hM hstart
    rcases hk2 with rfl | rfl
    · simp only [zMok, Bool.and_eq_true, Nat.blt_eq, decide_eq_true_eq] at hMs
      obtain ⟨⟨⟨⟨hj, m1⟩, m2⟩, m3⟩, m4⟩ := hMs
      rw [hst2]
      have hM2 := hM hj
      have hG2 := zGood hj
      rw [m4] at hM2 hG2
      refine zs_ret (va_runI (b := ad k) (As := as'.map (zv b ad)) (rest := (st.drop (zNA j 2)).map (zv b ad)) hCF hM2 ⟨callB_of _ hts hG2 rfl rfl rfl (di hj) (hts _ (zw_in m1)) (dd hj) hRR, m3, hts _ (zw_in m2)⟩ ⟨zblind, hstart⟩ rfl hnas hL.2.1 rfl (lv_room c6') hd hf) hS kk2
    · simp only [zMok, Bool.and_eq_true, Nat.blt_eq, decide_eq_true_eq] at hMs
      obtain ⟨⟨⟨⟨hj, m1⟩, m2⟩, m3⟩, m4⟩ := hMs
      rw [hst2]
      have hM2 := hM hj
      have hG2 := zGood hj
      rw [m4] at hM2 hG2
      refine zs_ret (va_runIN (b := ad k) (As := as'.map (zv b ad)) (rest := (st.drop (zNA j 2)).map (zv b ad)) hCF hM2 ⟨va_cnB _ hts hG2 rfl rfl rfl (hnw.2.1 _ _ _ _ (zwn_in m1)) (di hj) (dd hj) hRR, m3, hts _ (zw_in m2)⟩ ⟨zblind, hstart⟩ rfl hnas hL.2.1 rfl (lv_room c6') hd hf) hS kk2
  · cases hsite
end ZC
