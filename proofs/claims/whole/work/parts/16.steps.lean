/-! Steps over the cells as they lie once both objects are made: hp g t. Guards stand as 'if': a guard that fails leaves none. -/
def hp (g : Nat → Nat → Int32) (t : Nat → Int64) : zH := (zL0, zS0, g, t)
def ztag (k : Nat) : Nat := ((zL0[k]?).map (fun q => q.1)).getD 99
def zal (k : Nat) : Nat := match zL0[k]? with
  | some (10, n) => n
  | _ => 0
def zrl (k : Nat) : Nat := match zL0[k]? with
  | some (12, n) => n
  | some (13, n) => n
  | _ => 0
def zrf (k f : Nat) : Option Nat := ((zS0[k]?).bind (fun r => r[f]?)).join
theorem zL0_ok : ∀ k ∈ List.range 69, ztag k < 10 → zL0[k]? = some (ztag k, zNF (ztag k)) := by decide +kernel
theorem zL0_at {k c : Nat} (h : ztag k = c) (hc : c < 10) : zL0[k]? = some (c, zNF c) := by
  subst h
  by_cases hk : k < 69
  · exact zL0_ok k (List.mem_range.mpr hk) hc
  · exfalso
    unfold ztag at hc
    rw [List.getElem?_eq_none (by show 69 ≤ k; omega)] at hc
    exact absurd hc (by decide)
theorem zal_at {k n : Nat} (h : zal k = n) (hn : 0 < n) : zL0[k]? = some (10, n) := by
  unfold zal at h
  split at h
  · rename_i q; rw [q, h]
  · omega
section GS
variable {L : Nat} {xs : Nat → Int32} {i n0 pc len : Nat} {zl zl' : zLs} {st st' : List Value} {h h' : zH} {ins : Instr} {g : Nat → Nat → Int32} {t : Nat → Int64}
theorem st_getf {idx k : Nat} : zStep i n0 L xs (.getfield idx) 3 pc zl (.ref k :: st) h = (zMem i L xs (.getfield idx) 3 (.ref k :: st) h).map (fun q => .inl (pc + 3, zl, q.1, q.2)) := by
  show (match zMem i L xs (.getfield idx) 3 (.ref k :: st) h with
    | some (st', h') => _
    | none => _) = _
  cases zMem i L xs (.getfield idx) 3 (.ref k :: st) h with
  | some q => rfl
  | none =>
    show (match zRt i n0 h.1.length (.getfield idx) 3 (.ref k :: st) with
      | some v => _
      | none => _) = _
    rw [zRt_no rfl]
    rfl
theorem st_putf {idx k : Nat} {v : Value} : zStep i n0 L xs (.putfield idx) 3 pc zl (v :: .ref k :: st) h = (zMem i L xs (.putfield idx) 3 (v :: .ref k :: st) h).map (fun q => .inl (pc + 3, zl, q.1, q.2)) := by
  show (match zMem i L xs (.putfield idx) 3 (v :: .ref k :: st) h with
    | some (st', h') => _
    | none => _) = _
  cases zMem i L xs (.putfield idx) 3 (v :: .ref k :: st) h with
  | some q => rfl
  | none =>
    show (match zRt i n0 h.1.length (.putfield idx) 3 (v :: .ref k :: st) with
      | some v => _
      | none => _) = _
    rw [zRt_no rfl]
    rfl
theorem st_iald {k : Nat} {j : Int32} : zStep i n0 L xs .iaload 1 pc zl (.int j :: .ref k :: st) h = (zMem i L xs .iaload 1 (.int j :: .ref k :: st) h).map (fun q => .inl (pc + 1, zl, q.1, q.2)) := by
  show (match zMem i L xs .iaload 1 (.int j :: .ref k :: st) h with
    | some (st', h') => _
    | none => _) = _
  cases zMem i L xs .iaload 1 (.int j :: .ref k :: st) h with
  | some q => rfl
  | none =>
    show (match zRt i n0 h.1.length .iaload 1 (.int j :: .ref k :: st) with
      | some v => _
      | none => _) = _
    rw [zRt_no rfl]
    rfl
theorem st_sld {j : Int32} : zStep i n0 L xs .iaload 1 pc zl (.int j :: .null :: st) h = (zMem i L xs .iaload 1 (.int j :: .null :: st) h).map (fun q => .inl (pc + 1, zl, q.1, q.2)) := by
  show (match zMem i L xs .iaload 1 (.int j :: .null :: st) h with
    | some (st', h') => _
    | none => _) = _
  cases zMem i L xs .iaload 1 (.int j :: .null :: st) h with
  | some q => rfl
  | none =>
    show (match zRt i n0 h.1.length .iaload 1 (.int j :: .null :: st) with
      | some v => _
      | none => _) = _
    rw [zRt_no rfl]
    rfl
theorem st_bald {k : Nat} {j : Int32} : zStep i n0 L xs .baload 1 pc zl (.int j :: .ref k :: st) h = (zMem i L xs .baload 1 (.int j :: .ref k :: st) h).map (fun q => .inl (pc + 1, zl, q.1, q.2)) := by
  show (match zMem i L xs .baload 1 (.int j :: .ref k :: st) h with
    | some (st', h') => _
    | none => _) = _
  cases zMem i L xs .baload 1 (.int j :: .ref k :: st) h with
  | some q => rfl
  | none =>
    show (match zRt i n0 h.1.length .baload 1 (.int j :: .ref k :: st) with
      | some v => _
      | none => _) = _
    rw [zRt_no rfl]
    rfl
theorem st_aald {k : Nat} {j : Int32} : zStep i n0 L xs .aaload 1 pc zl (.int j :: .ref k :: st) h = (zMem i L xs .aaload 1 (.int j :: .ref k :: st) h).map (fun q => .inl (pc + 1, zl, q.1, q.2)) := by
  show (match zMem i L xs .aaload 1 (.int j :: .ref k :: st) h with
    | some (st', h') => _
    | none => _) = _
  cases zMem i L xs .aaload 1 (.int j :: .ref k :: st) h with
  | some q => rfl
  | none =>
    show (match zRt i n0 h.1.length .aaload 1 (.int j :: .ref k :: st) with
      | some v => _
      | none => _) = _
    rw [zRt_no rfl]
    rfl
theorem st_iast {k : Nat} {j x : Int32} : zStep i n0 L xs .iastore 1 pc zl (.int x :: .int j :: .ref k :: st) h = (zMem i L xs .iastore 1 (.int x :: .int j :: .ref k :: st) h).map (fun q => .inl (pc + 1, zl, q.1, q.2)) := by
  show (match zMem i L xs .iastore 1 (.int x :: .int j :: .ref k :: st) h with
    | some (st', h') => _
    | none => _) = _
  cases zMem i L xs .iastore 1 (.int x :: .int j :: .ref k :: st) h with
  | some q => rfl
  | none =>
    show (match zRt i n0 h.1.length .iastore 1 (.int x :: .int j :: .ref k :: st) with
      | some v => _
      | none => _) = _
    rw [zRt_no rfl]
    rfl
theorem st_bast {k : Nat} {j x : Int32} : zStep i n0 L xs .bastore 1 pc zl (.int x :: .int j :: .ref k :: st) h = (zMem i L xs .bastore 1 (.int x :: .int j :: .ref k :: st) h).map (fun q => .inl (pc + 1, zl, q.1, q.2)) := by
  show (match zMem i L xs .bastore 1 (.int x :: .int j :: .ref k :: st) h with
    | some (st', h') => _
    | none => _) = _
  cases zMem i L xs .bastore 1 (.int x :: .int j :: .ref k :: st) h with
  | some q => rfl
  | none =>
    show (match zRt i n0 h.1.length .bastore 1 (.int x :: .int j :: .ref k :: st) with
      | some v => _
      | none => _) = _
    rw [zRt_no rfl]
    rfl
theorem zm_getf {idx k : Nat} : zMem i L xs (.getfield idx) 3 (.ref k :: st) h = (zFS.lookup (zC i, idx)).bind (fun a => (h.1[k]?).bind (fun b => bif Nat.beq b.1 a.1 && Nat.beq b.2 (zNF a.1) then (zFV h a.1 k a.2.1).map (fun v => (v :: st, h)) else none)) := by
  show (match zFS.lookup (zC i, idx), h.1[k]? with
    | some (c, f, _), some (t, n) => _
    | _, _ => none) = _
  cases zFS.lookup (zC i, idx) with
  | none => rfl
  | some a => cases h.1[k]? <;> rfl
theorem zm_putf {idx k : Nat} {v : Value} : zMem i L xs (.putfield idx) 3 (v :: .ref k :: st) h = (zFS.lookup (zC i, idx)).bind (fun a => (h.1[k]?).bind (fun b => bif Nat.beq b.1 a.1 && Nat.beq b.2 (zNF a.1) && (!(zTT a.1 a.2.1).2.2.2 || (decide ((zY i).name = "<init>") && Nat.beq a.1 (zC i) && Nat.beq a.2.2.1 0)) then (zFP h a.1 k a.2.1 v).map (fun h => (st, h)) else none)) := by
  show (match zFS.lookup (zC i, idx), h.1[k]? with
    | some (c, f, nest, _), some (t, n) => _
    | _, _ => none) = _
  cases zFS.lookup (zC i, idx) with
  | none => rfl
  | some a => cases h.1[k]? <;> rfl
theorem zm_iald {k : Nat} {j : Int32} : zMem i L xs .iaload 1 (.int j :: .ref k :: st) h = (match h.1[k]? with
    | some (10, n) => bif zin j n then some (.int (h.2.2.1 k j.toNatClampNeg) :: st, h) else none
    | _ => none) := rfl
theorem zm_iast {k : Nat} {j x : Int32} : zMem i L xs .iastore 1 (.int x :: .int j :: .ref k :: st) h = (match h.1[k]? with
    | some (10, n) => bif zin j n then some (st, (h.1, h.2.1, zu h.2.2.1 k j.toNatClampNeg x, h.2.2.2)) else none
    | _ => none) := rfl
theorem zm_aald {k : Nat} {j : Int32} : zMem i L xs .aaload 1 (.int j :: .ref k :: st) h = (match h.1[k]? with
    | some (12, n) => bif zin j n then (zsr h k j.toNatClampNeg).map (fun a => (.ref a :: st, h)) else none
    | some (13, n) => bif zin j n then (zsr h k j.toNatClampNeg).map (fun a => (.ref a :: st, h)) else none
    | _ => none) := rfl
theorem zm_sld {j : Int32} : zMem i L xs .iaload 1 (.int j :: .null :: st) h = bif zin j L then some (.int (xs j.toNatClampNeg) :: st, h) else none := rfl
theorem zbeq_ne {k c n : Nat} {q : Nat × Nat} (e2 : zL0[k]? = some q) (hk : ¬ ztag k = c) : Nat.beq q.1 c = false := by
  rw [← Bool.not_eq_true, Nat.beq_eq]
  intro e
  apply hk
  unfold ztag
  rw [e2]
  exact e
theorem g_map {α : Type} {o : Option α} {f : α → Nat × zLs × List Value × zH} (hd : decode (zB i) pc = .ok (ins, len)) (hz : zStep i n0 L xs ins len pc zl st h = o.map (fun q => .inl (f q))) : go L xs i n0 pc zl st h = o.bind (fun q => go L xs i n0 (f q).1 (f q).2.1 (f q).2.2.1 (f q).2.2.2) := by
  cases o with
  | none => exact g_no hd hz
  | some q => exact g_nx hd hz
theorem g_getI {idx c f k : Nat} {q : Nat × Nat} (hd : decode (zB i) pc = .ok (.getfield idx, 3)) (hs : zFS.lookup (zC i, idx) = some (c, f, q)) (ht : zFty (zTy c f) = 0 ∨ zFty (zTy c f) = 1) (hc : c < 10) : go L xs i n0 pc zl (.ref k :: st) (hp g t) = if ztag k = c then go L xs i n0 (pc + 3) zl (.int (g k f) :: st) (hp g t) else none := by
  have hv : zFV (hp g t) c k f = some (.int (g k f)) := by unfold zFV; rcases ht with e | e <;> rw [e] <;> rfl
  refine (g_map hd st_getf).trans ?_
  rw [zm_getf, hs, Option.bind_some]
  by_cases hk : ztag k = c
  · rw [if_pos hk, show (hp g t).1[k]? = some (c, zNF c) from zL0_at hk hc, Option.bind_some]
    dsimp only
    rw [show (Nat.beq c c && Nat.beq (zNF c) (zNF c)) = true by simp [Nat.beq_eq], cond_true, hv]
    rfl
  · rw [if_neg hk]
    cases e2 : (hp g t).1[k]? with
    | none => rfl
    | some b =>
      rw [Option.bind_some]
      dsimp only
      rw [zbeq_ne (n := 0) e2 hk]
      rfl
theorem g_getJ {idx c f k : Nat} {q : Nat × Nat} (hd : decode (zB i) pc = .ok (.getfield idx, 3)) (hs : zFS.lookup (zC i, idx) = some (c, f, q)) (ht : zFty (zTy c f) = 2) (hc : c < 10) : go L xs i n0 pc zl (.ref k :: st) (hp g t) = if ztag k = c then go L xs i n0 (pc + 3) zl (.long (t k) :: st) (hp g t) else none := by
  have hv : zFV (hp g t) c k f = some (.long (t k)) := by unfold zFV; rw [ht]; rfl
  refine (g_map hd st_getf).trans ?_
  rw [zm_getf, hs, Option.bind_some]
  by_cases hk : ztag k = c
  · rw [if_pos hk, show (hp g t).1[k]? = some (c, zNF c) from zL0_at hk hc, Option.bind_some]
    dsimp only
    rw [show (Nat.beq c c && Nat.beq (zNF c) (zNF c)) = true by simp [Nat.beq_eq], cond_true, hv]
    rfl
  · rw [if_neg hk]
    cases e2 : (hp g t).1[k]? with
    | none => rfl
    | some b =>
      rw [Option.bind_some]
      dsimp only
      rw [zbeq_ne (n := 0) e2 hk]
      rfl
theorem g_getR {idx c f k : Nat} {q : Nat × Nat} (hd : decode (zB i) pc = .ok (.getfield idx, 3)) (hs : zFS.lookup (zC i, idx) = some (c, f, q)) (ht : zFty (zTy c f) = 3) (hc : c < 10) : go L xs i n0 pc zl (.ref k :: st) (hp g t) = if ztag k = c then (zrf k f).elim none (fun a => go L xs i n0 (pc + 3) zl (.ref a :: st) (hp g t)) else none := by
  have hv : zFV (hp g t) c k f = (zrf k f).map .ref := by unfold zFV; rw [ht]; rfl
  refine (g_map hd st_getf).trans ?_
  rw [zm_getf, hs, Option.bind_some]
  by_cases hk : ztag k = c
  · rw [if_pos hk, show (hp g t).1[k]? = some (c, zNF c) from zL0_at hk hc, Option.bind_some]
    dsimp only
    rw [show (Nat.beq c c && Nat.beq (zNF c) (zNF c)) = true by simp [Nat.beq_eq], cond_true, hv]
    cases zrf k f <;> rfl
  · rw [if_neg hk]
    cases e2 : (hp g t).1[k]? with
    | none => rfl
    | some b =>
      rw [Option.bind_some]
      dsimp only
      rw [zbeq_ne (n := 0) e2 hk]
      rfl
theorem g_putX {idx c f k : Nat} {v : Value} {nest pp : Nat} (hd : decode (zB i) pc = .ok (.putfield idx, 3)) (hs : zFS.lookup (zC i, idx) = some (c, f, nest, pp)) (hfin : (zTT c f).2.2.2 = false) (hc : c < 10) : go L xs i n0 pc zl (v :: .ref k :: st) (hp g t) = if ztag k = c then (zFP (hp g t) c k f v).bind (fun h => go L xs i n0 (pc + 3) zl st h) else none := by
  refine (g_map hd st_putf).trans ?_
  rw [zm_putf, hs, Option.bind_some]
  by_cases hk : ztag k = c
  · rw [if_pos hk, show (hp g t).1[k]? = some (c, zNF c) from zL0_at hk hc, Option.bind_some]
    dsimp only
    rw [show (Nat.beq c c && Nat.beq (zNF c) (zNF c) && (!(zTT c f).2.2.2 || (decide ((zY i).name = "<init>") && Nat.beq c (zC i) && Nat.beq nest 0))) = true by simp [Nat.beq_eq, hfin], cond_true]
    cases zFP (hp g t) c k f v <;> rfl
  · rw [if_neg hk]
    cases e2 : (hp g t).1[k]? with
    | none => rfl
    | some b =>
      rw [Option.bind_some]
      dsimp only
      rw [zbeq_ne (n := 0) e2 hk]
      rfl
theorem g_putI {idx c f k : Nat} {x : Int32} {nest pp : Nat} (hd : decode (zB i) pc = .ok (.putfield idx, 3)) (hs : zFS.lookup (zC i, idx) = some (c, f, nest, pp)) (hfin : (zTT c f).2.2.2 = false) (hc : c < 10) (ht : zFty (zTy c f) = 0) : go L xs i n0 pc zl (.int x :: .ref k :: st) (hp g t) = if ztag k = c then go L xs i n0 (pc + 3) zl st (hp (zu g k f x) t) else none := by
  rw [g_putX hd hs hfin hc]
  have : zFP (hp g t) c k f (.int x) = some (hp (zu g k f x) t) := by unfold zFP; rw [ht]; rfl
  rw [this]
  rfl
theorem g_putZ {idx c f k : Nat} {x : Int32} {nest pp : Nat} (hd : decode (zB i) pc = .ok (.putfield idx, 3)) (hs : zFS.lookup (zC i, idx) = some (c, f, nest, pp)) (hfin : (zTT c f).2.2.2 = false) (hc : c < 10) (ht : zFty (zTy c f) = 1) : go L xs i n0 pc zl (.int x :: .ref k :: st) (hp g t) = if ztag k = c ∧ (x = 0 ∨ x = 1) then go L xs i n0 (pc + 3) zl st (hp (zu g k f x) t) else none := by
  rw [g_putX hd hs hfin hc]
  have : zFP (hp g t) c k f (.int x) = if x = 0 ∨ x = 1 then some (hp (zu g k f x) t) else none := by
    unfold zFP
    rw [ht]
    show (bif decide (x = 0) || decide (x = 1) then some (hp (zu g k f x) t) else none) = _
    by_cases q : x = 0 ∨ x = 1
    · rw [if_pos q, show (decide (x = 0) || decide (x = 1)) = true by simpa using q]; rfl
    · rw [if_neg q, show (decide (x = 0) || decide (x = 1)) = false by simpa using q]; rfl
  rw [this]
  by_cases hk : ztag k = c <;> by_cases q : x = 0 ∨ x = 1 <;> simp [hk, q]
theorem g_putJ {idx c f k : Nat} {x : Int64} {nest pp : Nat} (hd : decode (zB i) pc = .ok (.putfield idx, 3)) (hs : zFS.lookup (zC i, idx) = some (c, f, nest, pp)) (hfin : (zTT c f).2.2.2 = false) (hc : c < 10) (ht : zFty (zTy c f) = 2) : go L xs i n0 pc zl (.long x :: .ref k :: st) (hp g t) = if ztag k = c then go L xs i n0 (pc + 3) zl st (hp g (zuJ t k x)) else none := by
  rw [g_putX hd hs hfin hc]
  have : zFP (hp g t) c k f (.long x) = some (hp g (zuJ t k x)) := by unfold zFP; rw [ht]; rfl
  rw [this]
  rfl
theorem zin0 (j : Int32) : zin j 0 = false := by
  unfold zin
  rw [Bool.and_eq_false_iff]
  right
  rfl
theorem g_iald {k : Nat} {j : Int32} (hd : decode (zB i) pc = .ok (.iaload, 1)) : go L xs i n0 pc zl (.int j :: .ref k :: st) (hp g t) = if zin j (zal k) = true then go L xs i n0 (pc + 1) zl (.int (g k j.toNatClampNeg) :: st) (hp g t) else none := by
  refine (g_map hd st_iald).trans ?_
  rw [zm_iald]
  unfold zal
  dsimp only [hp]
  split
  · rename_i n e
    by_cases q : zin j n = true
    · rw [if_pos q, q]; rfl
    · rw [if_neg q, (Bool.not_eq_true _).mp q]; rfl
  · rw [zin0]; rfl
theorem g_iast {k : Nat} {j x : Int32} (hd : decode (zB i) pc = .ok (.iastore, 1)) : go L xs i n0 pc zl (.int x :: .int j :: .ref k :: st) (hp g t) = if zin j (zal k) = true then go L xs i n0 (pc + 1) zl st (hp (zu g k j.toNatClampNeg x) t) else none := by
  refine (g_map hd st_iast).trans ?_
  rw [zm_iast]
  unfold zal
  dsimp only [hp]
  split
  · rename_i n e
    by_cases q : zin j n = true
    · rw [if_pos q, q]; rfl
    · rw [if_neg q, (Bool.not_eq_true _).mp q]; rfl
  · rw [zin0]; rfl
theorem g_sld {j : Int32} (hd : decode (zB i) pc = .ok (.iaload, 1)) : go L xs i n0 pc zl (.int j :: .null :: st) h = if zin j L = true then go L xs i n0 (pc + 1) zl (.int (xs j.toNatClampNeg) :: st) h else none := by
  refine (g_map hd st_sld).trans ?_
  rw [zm_sld]
  by_cases q : zin j L = true
  · rw [if_pos q, q]; rfl
  · rw [if_neg q, (Bool.not_eq_true _).mp q]; rfl
theorem g_bald {j : Int32} (hd : decode (zB i) pc = .ok (.baload, 1)) : go L xs i n0 pc zl (.int j :: .ref 59 :: st) (hp g t) = if zin j 7 = true then go L xs i n0 (pc + 1) zl (.int (g 59 j.toNatClampNeg) :: st) (hp g t) else none := by
  refine (g_map hd st_bald).trans ?_
  show Option.bind (bif zin j 7 then _ else _) _ = _
  by_cases q : zin j 7 = true
  · rw [if_pos q, q]; rfl
  · rw [if_neg q, (Bool.not_eq_true _).mp q]; rfl
theorem g_bast {j x : Int32} (hd : decode (zB i) pc = .ok (.bastore, 1)) : go L xs i n0 pc zl (.int x :: .int j :: .ref 59 :: st) (hp g t) = if zin j 7 = true ∧ (x = 0 ∨ x = 1) then go L xs i n0 (pc + 1) zl st (hp (zu g 59 j.toNatClampNeg x) t) else none := by
  refine (g_map hd st_bast).trans ?_
  show Option.bind (bif zin j 7 && (decide (x = 0) || decide (x = 1)) then _ else _) _ = _
  by_cases q : zin j 7 = true ∧ (x = 0 ∨ x = 1)
  · rw [if_pos q, show (zin j 7 && (decide (x = 0) || decide (x = 1))) = true by simpa using q]; rfl
  · rw [if_neg q, show (zin j 7 && (decide (x = 0) || decide (x = 1))) = false by simpa using q]; rfl
theorem g_aald {k : Nat} {j : Int32} (hd : decode (zB i) pc = .ok (.aaload, 1)) : go L xs i n0 pc zl (.int j :: .ref k :: st) (hp g t) = if zin j (zrl k) = true then (zrf k j.toNatClampNeg).elim none (fun a => go L xs i n0 (pc + 1) zl (.ref a :: st) (hp g t)) else none := by
  refine (g_map hd st_aald).trans ?_
  have hr : zsr (zL0, zS0, g, t) k j.toNatClampNeg = zrf k j.toNatClampNeg := rfl
  rw [zm_aald]
  unfold zrl
  dsimp only [hp]
  rw [hr]
  split
  · rename_i n e
    by_cases q : zin j n = true
    · rw [if_pos q, q]; cases zrf k j.toNatClampNeg <;> rfl
    · rw [if_neg q, (Bool.not_eq_true _).mp q]; rfl
  · rename_i n e
    by_cases q : zin j n = true
    · rw [if_pos q, q]; cases zrf k j.toNatClampNeg <;> rfl
    · rw [if_neg q, (Bool.not_eq_true _).mp q]; rfl
  · rw [zin0]; rfl
theorem g_ic {q : Jvm.ClassFile.Cond} {off : Int} {x y : Int32} {a : Nat} (hd : decode (zB i) pc = .ok (.if_icmp q off, 3)) (ht : zTgt pc off = some a) : go L xs i n0 pc zl (.int y :: .int x :: st) h = if zCmp q x y = true then go L xs i n0 a zl st h else go L xs i n0 (pc + 3) zl st h := by
  have hz : zStep i n0 L xs (.if_icmp q off) 3 pc zl (.int y :: .int x :: st) h = some (.inl (bif zCmp q x y then a else pc + 3, zl, st, h)) := by
    show (match zBr pc (.if_icmp q off) 3 (.int y :: .int x :: st) with
      | some (t, st') => _
      | none => _) = _
    have hq : zBr pc (.if_icmp q off) 3 (.int y :: .int x :: st) = some (bif zCmp q x y then a else pc + 3, st) := by
      show Option.map _ (zTgt pc off) = _
      rw [ht]
      rfl
    rw [hq]
  rw [g_nx hd hz]
  cases zCmp q x y <;> rfl
theorem g_if {q : Jvm.ClassFile.Cond} {off : Int} {x : Int32} {a : Nat} (hd : decode (zB i) pc = .ok (.ifCond q off, 3)) (ht : zTgt pc off = some a) : go L xs i n0 pc zl (.int x :: st) h = if zCmp q x 0 = true then go L xs i n0 a zl st h else go L xs i n0 (pc + 3) zl st h := by
  have hz : zStep i n0 L xs (.ifCond q off) 3 pc zl (.int x :: st) h = some (.inl (bif zCmp q x 0 then a else pc + 3, zl, st, h)) := by
    show (match zBr pc (.ifCond q off) 3 (.int x :: st) with
      | some (t, st') => _
      | none => _) = _
    have hq : zBr pc (.ifCond q off) 3 (.int x :: st) = some (bif zCmp q x 0 then a else pc + 3, st) := by
      show Option.map _ (zTgt pc off) = _
      rw [ht]
      rfl
    rw [hq]
  rw [g_nx hd hz]
  cases zCmp q x 0 <;> rfl
theorem g_div {x y : Int32} (hd : decode (zB i) pc = .ok (.idiv, 1)) (hy : ¬ y = 0) : go L xs i n0 pc zl (.int y :: .int x :: st) h = go L xs i n0 (pc + 1) zl (.int (x / y) :: st) h := g_nx hd (by
  have hq : zOp .idiv 1 (.int y :: .int x :: st) = some (.int (x / y) :: st) := by
    show Option.map _ (bif decide (y = 0) then none else some (Value.int (x / y))) = _
    rw [decide_eq_false hy]
    rfl
  show (match zOp .idiv 1 (.int y :: .int x :: st) with
    | some st' => _
    | none => _) = _
  rw [hq])
theorem g_rem {x y : Int32} (hd : decode (zB i) pc = .ok (.irem, 1)) (hy : ¬ y = 0) : go L xs i n0 pc zl (.int y :: .int x :: st) h = go L xs i n0 (pc + 1) zl (.int (x - x / y * y) :: st) h := g_nx hd (by
  have hq : zOp .irem 1 (.int y :: .int x :: st) = some (.int (x - x / y * y) :: st) := by
    show Option.map _ (bif decide (y = 0) then none else some (Value.int (x - x / y * y))) = _
    rw [decide_eq_false hy]
    rfl
  show (match zOp .irem 1 (.int y :: .int x :: st) with
    | some st' => _
    | none => _) = _
  rw [hq])
theorem g_ldiv {x y : Int64} (hd : decode (zB i) pc = .ok (.ldiv, 1)) (hy : ¬ y = 0) : go L xs i n0 pc zl (.long y :: .long x :: st) h = go L xs i n0 (pc + 1) zl (.long (x / y) :: st) h := g_nx hd (by
  have hq : zOp .ldiv 1 (.long y :: .long x :: st) = some (.long (x / y) :: st) := by
    show Option.map _ (bif decide (y = 0) then none else some (Value.long (x / y))) = _
    rw [decide_eq_false hy]
    rfl
  show (match zOp .ldiv 1 (.long y :: .long x :: st) with
    | some st' => _
    | none => _) = _
  rw [hq])
theorem g_lrem {x y : Int64} (hd : decode (zB i) pc = .ok (.lrem, 1)) (hy : ¬ y = 0) : go L xs i n0 pc zl (.long y :: .long x :: st) h = go L xs i n0 (pc + 1) zl (.long (x - x / y * y) :: st) h := g_nx hd (by
  have hq : zOp .lrem 1 (.long y :: .long x :: st) = some (.long (x - x / y * y) :: st) := by
    show Option.map _ (bif decide (y = 0) then none else some (Value.long (x - x / y * y))) = _
    rw [decide_eq_false hy]
    rfl
  show (match zOp .lrem 1 (.long y :: .long x :: st) with
    | some st' => _
    | none => _) = _
  rw [hq])
theorem g_retZ {x : Int32} (hd : decode (zB i) pc = .ok (.ireturn, 1)) (hr : zRet i = some .boolean) (hm : (Nat.beq 69 (n0 + zMc i) || Nat.beq i zLaw) = true) : go L xs i n0 pc zl [.int x] (hp g t) = if x = 0 ∨ x = 1 then some (some (.int x), hp g t) else none := by
  have hz : zStep i n0 L xs .ireturn 1 pc zl [.int x] (hp g t) = (bif decide (x = 0) || decide (x = 1) then some (.inr (.inl (some (.int x)))) else none) := by
    show (match zRt i n0 69 .ireturn 1 [.int x] with
      | some v => _
      | none => _) = _
    have hq : zRt i n0 69 .ireturn 1 [.int x] = bif decide (x = 0) || decide (x = 1) then some (some (.int x)) else none := by
      unfold zRt
      rw [hm, cond_true, hr]
      rfl
    rw [hq]
    cases decide (x = 0) || decide (x = 1) <;> rfl
  by_cases q : x = 0 ∨ x = 1
  · rw [if_pos q]
    refine g_ret hd (hz.trans ?_)
    rw [show (decide (x = 0) || decide (x = 1)) = true by simpa using q]; rfl
  · rw [if_neg q]
    refine g_no hd (hz.trans ?_)
    rw [show (decide (x = 0) || decide (x = 1)) = false by simpa using q]; rfl
theorem g_copy {idx k0 k1 pp jj : Nat} {n dp sp : Int32} (hd : decode (zB i) pc = .ok (.invokestatic idx, 3)) (hs : zMS.lookup (zC i, idx) = some (jj, 7, pp)) (hr : (Nat.ble 1 (zFr i) && Nat.ble 40 (zLo i) && Nat.ble ((st.map (fun v : Value => v.category)).sum) 8) = true) (h0 : 0 < zal k0) (h1 : 0 < zal k1) (hc : ¬ sp < 0 ∧ ¬ dp < 0 ∧ ¬ n < 0 ∧ sp.toNatClampNeg + n.toNatClampNeg ≤ zal k0 ∧ dp.toNatClampNeg + n.toNatClampNeg ≤ zal k1) : go L xs i n0 pc zl (.int n :: .int dp :: .ref k1 :: .int sp :: .ref k0 :: st) (hp g t) = go L xs i n0 (pc + 3) zl st (hp (zcp g k0 k1 sp.toNatClampNeg dp.toNatClampNeg n.toNatClampNeg) t) := by
  refine g_nx hd ?_
  have hm : zMem i L xs (.invokestatic idx) 3 (.int n :: .int dp :: .ref k1 :: .int sp :: .ref k0 :: st) (hp g t) = some (st, hp (zcp g k0 k1 sp.toNatClampNeg dp.toNatClampNeg n.toNatClampNeg) t) := by
    show (match zMS.lookup (zC i, idx), zL0[k0]?, zL0[k1]? with
      | some (_, 7, _), some (10, n0), some (10, n1) => bif Nat.ble 1 (zFr i) && Nat.ble 40 (zLo i) && Nat.ble ((st.map (fun v : Value => v.category)).sum) 8 && !(decide (sp < 0)) && !(decide (dp < 0)) && !(decide (n < 0)) && Nat.ble (sp.toNatClampNeg + n.toNatClampNeg) n0 && Nat.ble (dp.toNatClampNeg + n.toNatClampNeg) n1 then some (st, ((hp g t).1, (hp g t).2.1, zcp (hp g t).2.2.1 k0 k1 sp.toNatClampNeg dp.toNatClampNeg n.toNatClampNeg, (hp g t).2.2.2)) else none
      | _, _, _ => none) = _
    rw [hs, zal_at rfl h0, zal_at rfl h1]
    show (bif _ then _ else none) = _
    rw [hr, decide_eq_false hc.1, decide_eq_false hc.2.1, decide_eq_false hc.2.2.1, Nat.ble_eq.mpr hc.2.2.2.1, Nat.ble_eq.mpr hc.2.2.2.2]
    rfl
  show (match zMem i L xs (.invokestatic idx) 3 (.int n :: .int dp :: .ref k1 :: .int sp :: .ref k0 :: st) (hp g t) with
    | some (st', h') => _
    | none => _) = _
  rw [hm]
theorem zcc_lt {x y : Int32} : (zCmp .lt x y = true) = (x < y) := by simp [zCmp]
theorem zcc_gt {x y : Int32} : (zCmp .gt x y = true) = (y < x) := by simp [zCmp]
theorem zcc_eq {x y : Int32} : (zCmp .eq x y = true) = (x = y) := by simp [zCmp]
theorem zite {α : Type} {c d : Prop} [Decidable c] [Decidable d] {a b : α} (h : c = d) : (if c then a else b) = if d then a else b := by
  subst h
  by_cases q : c <;> simp [q]
theorem zitn {α : Type} {c d : Prop} [Decidable c] [Decidable d] {a b : α} (h : c = ¬ d) : (if c then a else b) = if d then b else a := by
  subst h
  by_cases q : d <;> simp [q]
theorem zcn_ge {x y : Int32} : (zCmp .ge x y = true) = ¬ x < y := by simp [zCmp, Int32.not_lt]
theorem zcn_le {x y : Int32} : (zCmp .le x y = true) = ¬ y < x := by simp [zCmp, Int32.not_lt]
theorem zcn_ne {x y : Int32} : (zCmp .ne x y = true) = ¬ x = y := by simp [zCmp]
theorem g_sw_t {d lo hi : Int} {offs : Array Int} {x : Int32} {off : Int} {a : Nat} (hx : zSw (.tableswitch d lo hi offs) x = some off) (ht : zTgt pc off = some a) (h1 : ¬ len = 1) : zStep i n0 L xs (.tableswitch d lo hi offs) len pc zl (.int x :: st) h = some (.inl (a, zl, st, h)) := by
  have hq : zBr pc (.tableswitch d lo hi offs) len (.int x :: st) = some (a, st) := by
    show (zSw (.tableswitch d lo hi offs) x).bind _ = _
    rw [hx]
    show (zTgt pc off).map _ = _
    rw [ht]
    rfl
  match len, h1, hq with
  | 0, _, hq =>
    show (match zBr pc (.tableswitch d lo hi offs) 0 (.int x :: st) with
      | some (t, st') => _
      | none => _) = _
    rw [hq]
  | n + 2, _, hq =>
    show (match zBr pc (.tableswitch d lo hi offs) (n + 2) (.int x :: st) with
      | some (t, st') => _
      | none => _) = _
    rw [hq]
theorem g_sw_l {d : Int} {ps : Array (Int × Int)} {x : Int32} {off : Int} {a : Nat} (hx : zSw (.lookupswitch d ps) x = some off) (ht : zTgt pc off = some a) (h1 : ¬ len = 1) : zStep i n0 L xs (.lookupswitch d ps) len pc zl (.int x :: st) h = some (.inl (a, zl, st, h)) := by
  have hq : zBr pc (.lookupswitch d ps) len (.int x :: st) = some (a, st) := by
    show (zSw (.lookupswitch d ps) x).bind _ = _
    rw [hx]
    show (zTgt pc off).map _ = _
    rw [ht]
    rfl
  match len, h1, hq with
  | 0, _, hq =>
    show (match zBr pc (.lookupswitch d ps) 0 (.int x :: st) with
      | some (t, st') => _
      | none => _) = _
    rw [hq]
  | n + 2, _, hq =>
    show (match zBr pc (.lookupswitch d ps) (n + 2) (.int x :: st) with
      | some (t, st') => _
      | none => _) = _
    rw [hq]
theorem g_rcv {idx j k : Nat} {as rest : List Value} (hk : ztag k = zC j) (hc : zC j < 10) (h1 : zSite i (.invokevirtual idx) 3 = some (j, 1)) (h2 : (zCan i j n0 (zNA j 1) zl st (hp g t) && Nat.ble (zArgs (st.take (zNA j 1)).reverse 0).length (zML j)) = true) (h3 : (st.take (zNA j 1)).reverse = .ref k :: as) (h4 : st.drop (zNA j 1) = rest) : zStep i n0 L xs (.invokevirtual idx) 3 pc zl st (hp g t) = some (.inr (.inr (j, .ref k :: as, rest))) := by
  have hq : zCall i n0 (.invokevirtual idx) 3 zl st (hp g t) = some (j, .ref k :: as, rest) := by
    unfold zCall
    rw [h1]
    show (bif zCan i j n0 (zNA j 1) zl st (hp g t) && Nat.ble (zArgs (st.take (zNA j 1)).reverse 0).length (zML j) && (Nat.beq 1 0 || zRcv j (hp g t) (st.take (zNA j 1)).reverse) then some (j, (st.take (zNA j 1)).reverse, st.drop (zNA j 1)) else none) = _
    rw [h2, h3, h4]
    have hr : zRcv j (hp g t) (.ref k :: as) = true := by
      show (match zL0[k]? with
        | some (t, _) => Nat.beq t (zC j)
        | none => false) = true
      rw [zL0_at hk hc]
      exact Nat.beq_eq.mpr rfl
    rw [hr]
    rfl
  have hs : zStep i n0 L xs (.invokevirtual idx) 3 pc zl st (hp g t) = (match zRt i n0 69 (.invokevirtual idx) 3 st with
    | some v => some (.inr (.inl v))
    | none => match zCall i n0 (.invokevirtual idx) 3 zl st (hp g t) with
      | some q => some (.inr (.inr q))
      | none => none) := by
    match st with
    | [] => rfl
    | [v] => rfl
    | v :: w :: st => rfl
  rw [hs, zRt_no rfl, hq]
end GS
