def R_law : String := "BogTownLaw"
def lw_P (b : Addr) (xs : List Int32) (args : Array Value) (s : State) : Prop := args = #[.ref b] ∧ s.IntsAt b xs ∧ xs.length ≤ 3072 ∧ (Jvm.Cond.and given_1 narrow_1).before args s = true
def lw_Q (_ : Array Value) (s : State) (o : Outcome) (t : State) : Prop := o = .returned (some (.int 1)) ∧ Framed s o t [] 600000 7302250
def lw_Z (below : List Frame) (a : Array Value) (s : State) : State → Prop := fun t => ∃ o, t.status = .running ∧ Ended t below o ∧ lw_Q a s o t
/-- the law's own end, with 1 on the stack, nothing written that was there before, its room as the claim has it -/
theorem lw_ret {p : Program} {l : Launch} {e : Env} {s : State} {m : MethodId} {below : List Frame} {meth : Method} {c : Code} {b : Nat} (hx : p.tables.exec = Jvm.exec) (hb : c.code = code) (hr : meth.sig.returnType = ret) (hlocks : meth.locks = false) {pc : Nat} {H : Heap} {ls : Array Slot} (hdg : decode code pc = .ok (.ireturn, 1)) : W p l e room_1 s m #[Value.ref b] below meth c H [] 600000 7302250 (lw_Z below #[Value.ref b] s) (F0 m pc ls [.int 1]) := by
  intro T hT X
  obtain ⟨fs, hret, hrun, hended, hW, hframe⟩ := X.leave (v := some (.int 1)) (hlocks := hlocks) (fun h => by rw [hr] at h; cases h)
  have hmeth' : T.vm.method? m = some meth := X.method'
  refine ⟨T.setFrames fs, ?_, .returned (some (.int 1)), hrun, hended, rfl, ⟨_, rfl⟩, hW, hframe⟩
  jvm_step X.here [X.here.top, hx, hb, hdg, hmeth', hr, ret, narrow_b1]
  (try refine ⟨rfl, ?_⟩); (try refine ⟨rfl, ?_⟩)
  first | (intro acts; rw [hret _ acts rfl rfl rfl]) | rw [hret _ _ rfl rfl rfl]
  exact Steps.refl _
/-- what holds at the law's entry: the machine, the code, the tables' words (any of lw_tbl by 'hts w (by decide +kernel)'), the script of L ints xs at the cell b, what the Statement gives of the start (any of its parts by flat_of_before) -/
def lw_At (p : Program) (s : State) (m : MethodId) (meth : Method) (c : Code) (b L : Nat) (xs : Nat → Int32) : Prop :=
  p.tables.exec = Jvm.exec ∧ c.code = code ∧ meth.sig.returnType = ret ∧ c.maxLocals = 4 ∧ s.vm.findClass R_law = some m.cls ∧ (∀ w ∈ lw_tbl, w.before #[Value.ref b] s = true) ∧ va_X b L xs s s.heap ∧ b < s.heap.size ∧ meth.locks = false ∧ (Jvm.Cond.and given_1 narrow_1).before #[Value.ref b] s = true
/-! The law's start: from ev of the law to the claim's walk. -/
def zT0 : zH := ([], [], fun _ _ => 0, fun _ => 0)
theorem zKnown {s : State} {args : Array Value} (hts : ∀ w ∈ zG, w.before args s = true) (hin : ∀ k ∈ List.range 10, ∃ q, zw q (.instantiable (zCn k) (zNF k)) = true) : ∃ D : va_G, ∀ (k : Nat) (q : vw_C), vwCl[k]? = some q → u_Kn s q.1 q.2.1 q.2.2 (D.1 k) (D.2 k) := by
  have h : ∀ k, ∃ (cC : ClassId) (iS : Nat → Nat), k < 10 → u_Kn s (zCn k) (zTT k) (zNF k) cC iS := by
    intro k
    by_cases hk : k < 10
    · obtain ⟨q, hq⟩ := hin k (List.mem_range.mpr hk)
      obtain ⟨cC, iS, hK⟩ := u_known (C := zCn k) (T := zTT k) (N := zNF k) (n := zNF k) hts (zCl_ok k (List.mem_range.mpr hk)) (hts _ (zw_in hq))
      exact ⟨cC, iS, fun _ => hK⟩
    · exact ⟨0, fun _ => 0, fun q => absurd q hk⟩
  refine ⟨(fun k => Classical.choose (h k), fun k => Classical.choose (Classical.choose_spec (h k))), ?_⟩
  intro k q hq
  have hk : k < 10 := (List.getElem?_eq_some_iff.mp hq).1
  have h1 := Classical.choose_spec (Classical.choose_spec (h k)) hk
  rw [zVw k hk] at hq
  cases hq
  exact h1
theorem zInst : ∀ k ∈ List.range 10, ((List.range lw_tbl.length).any (fun q => zw q (.instantiable (zCn k) (zNF k)))) = true := by decide +kernel
theorem zInst2 : ∀ k ∈ List.range 10, ∃ q, zw q (.instantiable (zCn k) (zNF k)) = true := by
  intro k hk
  obtain ⟨q, -, hq⟩ := List.any_eq_true.mp (zInst k hk)
  exact ⟨q, hq⟩
theorem zArr {s : State} {args : Array Value} {ty : FieldType} (h : (Cond.arrayClass ty).before args s = true) (hp : ∀ cA, s.vm.findClass ("[" ++ ty.toString) = some cA → va_RA s cA ty) : ∃ cA, ArrOfT s cA ty ∧ va_RA s cA ty := by
  obtain ⟨cA, kA, comp, h1, h2, h3⟩ := Cond.arrayClass_spec h
  exact ⟨cA, fun n z => ⟨fun k q => (by cases q), kA, h2, comp, h3⟩, hp cA h1⟩
theorem zArrO {s : State} {C : String} (h : va_AO C s) : ∃ cA, ArrOfT s cA (.object C) ∧ va_RA s cA (.object C) := by
  obtain ⟨comp, c, k, h1, -, h3, h4, h5⟩ := Cond.arrayOver_spec h
  exact ⟨c, fun n z => ⟨fun _ q => (by cases q), k, h3, comp, h4⟩, k, comp, h3, h4, h1, h5⟩
set_option maxHeartbeats 4000000 in
theorem zWhole {p : Program} {e : Env} {s : State} {m : MethodId} {below : List Frame} {meth : Method} {c : Code} (l : Launch) {b L : Nat} {xs : Nat → Int32} (C0 : lw_At p s m meth c b L xs) (hev : ∃ n h', ev L xs n zLaw 0 0 (zArgs [.null] 4) [] zT0 = some (some (.int 1), h')) : W p l e room_1 s m #[Value.ref b] below meth c s.heap [] 0 0 (lw_Z below #[Value.ref b] s) (entryFrame m ([Value.ref b] : List Value).toArray 4) := by
  obtain ⟨hx, hb, hr, hml, hown, hts0, hX, hbl, hlocks, hgv⟩ := id C0
  obtain ⟨n, h', hev⟩ := hev
  have hts : ∀ w ∈ zG, w.before #[Value.ref b] s = true := fun w hw => hts0 w (zG_in hw)
  have hAO1 : va_AO "BogTown$House" s := va_AO.of (hts0 _ (zwn_in zAr_ok.2.2.1))
  have hAO2 : va_AO "BogTown$Sheet" s := va_AO.of (hts0 _ (zwn_in zAr_ok.2.2.2))
  have hnw : zNw s := ⟨fun a i b n d h hm => va_Nw.of rfl (hts0 _ hm), fun a i x h hm => va_Nw.of rfl (hts0 _ hm), hAO1, hAO2⟩
  obtain ⟨D, hKc⟩ := zKnown hts zInst2
  obtain ⟨cI, a1, a2⟩ := zArr (hts _ (zw_in zAr_ok.1)) (fun cA q => q)
  obtain ⟨cZ, b1, b2⟩ := zArr (hts _ (zw_in zAr_ok.2.1)) (fun cA q => q)
  obtain ⟨cH, c1, c2⟩ := zArrO hAO1
  obtain ⟨cS, d1, d2⟩ := zArrO hAO2
  have hK : va_K D vwCl (zTys (cI, cZ, cH, cS)) s := by
    refine ⟨hKc, fun k q hq => ?_⟩
    match k, hq with
    | 0, hq => cases hq; exact ⟨a1, a2⟩
    | 1, hq => cases hq; exact ⟨b1, b2⟩
    | 2, hq => cases hq; exact ⟨c1, c2⟩
    | 3, hq => cases hq; exact ⟨d1, d2⟩
    | k + 4, hq => simp [zTys] at hq
  have hA : ∀ q : Nat, s.heap.size ≤ q → (fun q : Nat => s.heap.size ≤ q) q := fun _ h => h
  have hbA : ¬ (fun q : Nat => s.heap.size ≤ q) b := Nat.not_le.mpr hbl
  have Cx : zCx D (cI, cZ, cH, cS) b L xs (fun q : Nat => s.heap.size ≤ q) zLaw p room_1 s m #[Value.ref b] meth c := ⟨hx, hb, hml, hown, hts, hnw, fun q => absurd q (by decide), hK, hX, hbl, hbA, hA, by decide, by decide, by decide, by decide⟩
  have hl := zArgs_LV b (fun _ => 0) [.null] 4 (by decide)
  have hP : va_P D vwCl (zWd (cI, cZ, cH, cS) (fun _ => 0) zT0) s.heap := fun k q h => by simp [zWd, zT0] at h
  have hD : va_D (fun q : Nat => s.heap.size ≤ q) (zWd (cI, cZ, cH, cS) (fun _ => 0) zT0) := ⟨fun i j p q h => by simp [zWd, zT0] at h, fun k q h => by simp [zWd, zT0] at h⟩
  have k := zSound (l := l) n p e room_1 s m #[Value.ref b] below meth c zLaw 0 0 (zArgs [.null] 4) [] zT0 (some (.int 1)) h' (fun _ => 0) (fun _ => 0) s.heap [] _ (lw_Z below #[Value.ref b] s) hev Cx (Nat.le_refl _) (Nat.zero_le _) (fun _ _ => rfl) (fun _ => rfl) hP hD va_S.rf hl ?_
  · rw [lg_entry_eq]
    exact k
  · intro pc' ls' H' locs' ad' ins len st' hd hrt _ _ _ hm hP' hD' hS'
    have hst : ins = .ireturn ∧ len = 1 ∧ st' = [.int 1] := by
      unfold zRt at hrt
      obtain ⟨-, hrt⟩ := zifc hrt
      split at hrt
      · cases hrt; exact ⟨rfl, rfl, rfl⟩
      · obtain ⟨-, q⟩ := zifb hrt
        cases q; exact ⟨rfl, rfl, rfl⟩
      · cases hrt
      · cases hrt
      · cases hrt
      · cases hrt
    obtain ⟨rfl, rfl, rfl⟩ := hst
    have hm2 : h'.1.length ≤ 14000 := by
      have : zMc zLaw = 14000 := by decide
      omega
    refine va_forget (fun q hq => hS'.2.2 q hq) ?_
    refine W.widen (k := 600000) (n := 7302250) (by omega) (by omega) ?_
    exact lw_ret hx hb hr hlocks hd
