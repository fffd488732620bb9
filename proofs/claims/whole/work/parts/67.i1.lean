/-! The law's start: both objects made. -/
def zNn (st : List Value) : Bool := st.all (fun v => match v with
  | .null => false
  | _ => true)
theorem zMem_ind {i L : Nat} {xs : Nat → Int32} {ins : Instr} {len : Nat} {st : List Value} {h : zH} (hn : zNn st = true) : zMem i L xs ins len st h = zMem i 0 (fun _ => 0) ins len st h := by
  unfold zMem
  split <;> first | rfl | (exfalso; simp [zNn] at hn)
theorem zStep_ind {i n0 L : Nat} {xs : Nat → Int32} {ins : Instr} {len pc : Nat} {ls : zLs} {st : List Value} {h : zH} (hn : zNn st = true) : zStep i n0 L xs ins len pc ls st h = zStep i n0 0 (fun _ => 0) ins len pc ls st h := by
  unfold zStep
  split
  · rfl
  · split
    · rfl
    · split
      · rfl
      · rfl
      · split
        · rfl
        · rfl
        · rfl
        · rfl
        · rfl
        · rw [zMem_ind hn]
def evQ : Nat → Nat → Nat → Nat → zLs → List Value → zH → Option (Option Value × zH)
  | 0, _, _, _, _, _, _ => none
  | n + 1, i, n0, pc, ls, st, h => bif zNn st then (match decode (zB i) pc with
    | .ok (ins, len) => (match zStep i n0 0 (fun _ => 0) ins len pc ls st h with
      | some (.inl (pc', ls', st', h')) => evQ n i n0 pc' ls' st' h'
      | some (.inr (.inl v)) => some (v, h)
      | some (.inr (.inr (j, as, rest))) => (match evQ n j h.1.length 0 (zArgs as (zML j)) [] h with
        | some (v, h') => evQ n i n0 (pc + 3) ls (v.toList ++ rest) h'
        | none => none)
      | none => none)
    | _ => none) else none
theorem evQ_ok {L : Nat} {xs : Nat → Int32} : ∀ (n i n0 pc : Nat) (zl : zLs) (st : List Value) (h : zH) (r : Option Value × zH), evQ n i n0 pc zl st h = some r → ev L xs n i n0 pc zl st h = some r
  | 0, i, n0, pc, zl, st, h, r, hev => by
    rw [evQ] at hev
    cases hev
  | n + 1, i, n0, pc, zl, st, h, r, hev => by
    rw [evQ] at hev
    cases hn : zNn st with
    | false => rw [hn] at hev; cases hev
    | true =>
      rw [hn, cond_true] at hev
      rw [ev]
      cases hd : decode (zB i) pc with
      | error x => rw [hd] at hev; cases hev
      | ok q =>
        obtain ⟨ins, len⟩ := q
        rw [hd] at hev
        dsimp only at hev ⊢
        rw [zStep_ind hn]
        cases hz : zStep i n0 0 (fun _ => 0) ins len pc zl st h with
        | none => rw [hz] at hev; cases hev
        | some o =>
          rw [hz] at hev
          match o, hev with
          | .inl (pc', zl', st', h'), hev => exact evQ_ok n i n0 pc' zl' st' h' r hev
          | .inr (.inl v), hev => exact hev
          | .inr (.inr (j, as, rest)), hev =>
            dsimp only at hev ⊢
            cases hc : evQ n j h.1.length 0 (zArgs as (zML j)) [] h with
            | none => rw [hc] at hev; cases hev
            | some q =>
              rw [hc] at hev
              rw [evQ_ok n _ _ _ _ _ _ _ hc]
              exact evQ_ok n _ _ _ _ _ _ _ hev
def zRunQ (i n0 stop : Nat) : Nat → Nat → zLs → List Value → zH → Option (Nat × zLs × List Value × zH)
  | 0, _, _, _, _ => none
  | n + 1, pc, ls, st, h => bif Nat.beq pc stop then some (pc, ls, st, h) else bif zNn st then (match decode (zB i) pc with
    | .ok (ins, len) => (match zStep i n0 0 (fun _ => 0) ins len pc ls st h with
      | some (.inl (pc', ls', st', h')) => zRunQ i n0 stop n pc' ls' st' h'
      | some (.inr (.inr (j, as, rest))) => (match evQ 3000 j h.1.length 0 (zArgs as (zML j)) [] h with
        | some (v, h') => zRunQ i n0 stop n (pc + 3) ls (v.toList ++ rest) h'
        | none => none)
      | _ => none)
    | _ => none) else none
theorem zRunQ_ok {L : Nat} {xs : Nat → Int32} {i n0 stop : Nat} : ∀ (n pc : Nat) (ls : zLs) (st : List Value) (h : zH) (r : Nat × zLs × List Value × zH), zRunQ i n0 stop n pc ls st h = some r → go L xs i n0 pc ls st h = go L xs i n0 r.1 r.2.1 r.2.2.1 r.2.2.2
  | 0, pc, ls, st, h, r, hev => by
    rw [zRunQ] at hev
    cases hev
  | n + 1, pc, ls, st, h, r, hev => by
    rw [zRunQ] at hev
    cases hb : Nat.beq pc stop with
    | true =>
      rw [hb, cond_true] at hev
      cases hev
      rfl
    | false =>
      rw [hb, cond_false] at hev
      cases hn : zNn st with
      | false => rw [hn] at hev; cases hev
      | true =>
        rw [hn, cond_true] at hev
        cases hd : decode (zB i) pc with
        | error x => rw [hd] at hev; cases hev
        | ok q =>
          obtain ⟨ins, len⟩ := q
          rw [hd] at hev
          dsimp only at hev
          have hi := zStep_ind (i := i) (n0 := n0) (L := L) (xs := xs) (ins := ins) (len := len) (pc := pc) (ls := ls) (h := h) hn
          cases hz : zStep i n0 0 (fun _ => 0) ins len pc ls st h with
          | none => rw [hz] at hev; cases hev
          | some o =>
            rw [hz] at hev hi
            match o, hev, hi with
            | .inl (pc', zl', st', h'), hev, hi =>
              rw [g_nx hd hi]
              exact zRunQ_ok n pc' zl' st' h' r hev
            | .inr (.inl v), hev, hi => cases hev
            | .inr (.inr (j, as, rest)), hev, hi =>
              dsimp only at hev
              cases hc : evQ 3000 j h.1.length 0 (zArgs as (zML j)) [] h with
              | none => rw [hc] at hev; cases hev
              | some q =>
                rw [hc] at hev
                rw [g_call hd hi, go_iff.mpr ⟨3000, evQ_ok 3000 _ _ _ _ _ _ _ hc⟩]
                exact zRunQ_ok n _ _ _ _ r hev
