/-! What the tables say of the sites: decided by program. -/
def zw (p : Nat) (w : Cond) : Bool := decide (lw_tbl[p]? = some w) && goodWord w
def zwn (p : Nat) (w : Cond) : Bool := decide (lw_tbl[p]? = some w)
def zG : List Cond := lw_tbl.filter goodWord
theorem zwn_in {p : Nat} {w : Cond} (h : zwn p w = true) : w ∈ lw_tbl := List.mem_of_getElem? (of_decide_eq_true h)
theorem zw_in {p : Nat} {w : Cond} (h : zw p w = true) : w ∈ zG := by
  unfold zw at h
  rw [Bool.and_eq_true] at h
  exact List.mem_filter.mpr ⟨List.mem_of_getElem? (of_decide_eq_true h.1), h.2⟩
theorem zG_good {w : Cond} (h : w ∈ zG) : goodWord w = true := (List.mem_filter.mp h).2
theorem zG_in {w : Cond} (h : w ∈ zG) : w ∈ lw_tbl := (List.mem_filter.mp h).1
theorem zlook {β : Type} {a : Nat × Nat} {v : β} : ∀ {t : List ((Nat × Nat) × β)}, t.lookup a = some v → (a, v) ∈ t
  | [], h => by cases h
  | (a', v') :: t, h => by
    rw [List.lookup_cons] at h
    cases q : (a == a') with
    | true =>
      rw [q] at h
      cases h
      rw [eq_of_beq q]
      exact List.mem_cons_self
    | false =>
      rw [q] at h
      exact List.mem_cons_of_mem _ (zlook h)
theorem zK3_ok : ∀ e ∈ zK3, zw e.2.2 (.constant (zCn e.1.1) e.1.2 e.2.1) = true := by decide +kernel
theorem zK6_ok : ∀ e ∈ zK6, zw e.2.2 (.constantLong (zCn e.1.1) e.1.2 e.2.1) = true := by decide +kernel
def zFok (e : (Nat × Nat) × Nat × Nat × Nat × Nat) : Bool := let C := zCn e.2.1; let t := zTT e.2.1 e.2.2.1
  Nat.blt e.2.1 10 && Nat.blt e.2.2.1 (zNF e.2.1) && decide (t.1 = C) && (bif Nat.beq e.2.2.2.1 0 then zw e.2.2.2.2 (.fieldLink (zCn e.1.1) e.1.2 C t.2.1 t.2.2.1) else zwn e.2.2.2.2 (.fieldLinkNest (zCn e.1.1) e.1.2 C t.2.1 t.2.2.1 "BogTown"))
theorem zFS_ok : ∀ e ∈ zFS, zFok e = true := by decide +kernel
def zCok (e : (Nat × Nat) × Nat × Nat × Nat × Nat) : Bool := let C := zCn e.2.1
  Nat.blt e.2.1 10 && zw e.2.2.1 (.classLink (zCn e.1.1) e.1.2 C) && zw e.2.2.2.1 (.instantiable C (zNF e.2.1)) && zw e.2.2.2.2 (.initialized C)
theorem zCS_ok : ∀ e ∈ zCS, zCok e = true := by decide +kernel
def zMok (e : (Nat × Nat) × Nat × Nat × Nat) : Bool := let o := zCn e.1.1; let x := e.1.2; let j := e.2.1; let y := zY j; let p := e.2.2.2; let q := zMD j
  match e.2.2.1 with
  | 0 => Nat.blt j 168 && zw p (.methodLink o x y) && zw q.2.2.1 (.instanceMethod y) && zw q.2.2.2.1 (.selects y.cls y y)
  | 1 => Nat.blt j 168 && zwn p (.methodLinkNest o x y "BogTown") && zw q.2.2.1 (.instanceMethod y) && zw q.2.2.2.1 (.selects y.cls y y)
  | 2 => Nat.blt j 168 && zw p (.methodLink o x y) && zw q.2.2.1 (.static y)
  | 4 => Nat.blt j 168 && zw p (.methodLink o x y) && zw q.2.2.1 (.instanceMethod y) && decide (y.name = "<init>") && decide (zRet j = none)
  | 5 => Nat.blt j 168 && zwn p (.methodLinkNest o x y "BogTown") && zw q.2.2.1 (.instanceMethod y) && decide (y.name = "<init>") && decide (zRet j = none)
  | 6 => zw p (.methodLink o x objectInit) && zw 98 (.instanceMethod objectInit) && zw 99 (.code objectInit ⟨#[0xb1]⟩ 1 none)
  | 7 => zw p (.methodLink o x arraycopyName) && zw 546 (.native arraycopyName) && zw 545 (.static arraycopyName) && zw 89 (.initialized "java/lang/System")
  | 8 => zw p (.methodLink o x Lib.Math.max.name) && zw 620 (.static Lib.Math.max.name) && zw 90 (.initialized "java/lang/Math") && zw 621 (.code Lib.Math.max.name Lib.Math.max.code 2 (some .int))
  | 9 => zw p (.methodLink o x Lib.Math.min.name) && zw 667 (.static Lib.Math.min.name) && zw 90 (.initialized "java/lang/Math") && zw 668 (.code Lib.Math.min.name Lib.Math.min.code 2 (some .int))
  | _ => false
theorem zMS_ok : ∀ e ∈ zMS, zMok e = true := by decide +kernel
theorem zD1 : ∀ j ∈ List.range 168, zw (zMD j).2.1 (.initialized (zY j).cls) = true := by decide +kernel
theorem zD2 : ∀ j ∈ List.range 168, plainName (zY j).cls = true := by decide +kernel
theorem zD3 : ∀ j ∈ List.range 168, (!((zY j).cls == "java/lang/invoke/MethodHandle") && !((zY j).cls == "java/lang/invoke/VarHandle")) = true := by decide +kernel
theorem zD4 : ∀ j ∈ List.range 168, ((parseMethodDescriptor (zY j).desc).map (fun d => d.parameters.length) == some (zMD j).2.2.2.2.2) = true := by decide +kernel
theorem zD5 : ∀ j ∈ List.range 168, (zY j).cls = zCn (zC j) := by decide +kernel
theorem zCl_ok : ∀ k ∈ List.range 10, ∀ w ∈ u_ws (zCn k) (zTT k) (zNF k), w ∈ zG := by decide +kernel
theorem zAr_ok : zw 197 (.arrayClass .int) = true ∧ zw 853 (.arrayClass .boolean) = true ∧ zwn 107 (.arrayOver (.object "BogTown$House")) = true ∧ zwn 309 (.arrayOver (.object "BogTown$Sheet")) = true := by decide +kernel
theorem zOneJ : ∀ c ∈ List.range 10, ∀ f ∈ List.range (zNF c), ∀ g ∈ List.range (zNF c), zFty (zTy c f) = 2 → zFty (zTy c g) = 2 → f = g := by decide +kernel
