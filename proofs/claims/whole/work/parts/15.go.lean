/-! The machine without fuel: go. -/
theorem ev_mono {L : Nat} {xs : Nat → Int32} : ∀ (n i n0 pc : Nat) (zl : zLs) (st : List Value) (h : zH) (r : Option Value × zH), ev L xs n i n0 pc zl st h = some r → ev L xs (n + 1) i n0 pc zl st h = some r
  | 0, i, n0, pc, zl, st, h, r, hev => by
    rw [ev] at hev
    cases hev
  | n + 1, i, n0, pc, zl, st, h, r, hev => by
    rw [ev] at hev
    rw [ev]
    cases hd : decode (zB i) pc with
    | error x => rw [hd] at hev; cases hev
    | ok q =>
      obtain ⟨ins, len⟩ := q
      rw [hd] at hev
      dsimp only at hev ⊢
      cases hz : zStep i n0 L xs ins len pc zl st h with
      | none => rw [hz] at hev; cases hev
      | some o =>
        rw [hz] at hev
        match o, hev with
        | .inl (pc', zl', st', h'), hev => exact ev_mono n i n0 pc' zl' st' h' r hev
        | .inr (.inl v), hev => exact hev
        | .inr (.inr (j, as, rest)), hev =>
          dsimp only at hev ⊢
          cases hc : ev L xs n j h.1.length 0 (zArgs as (zML j)) [] h with
          | none => rw [hc] at hev; cases hev
          | some q =>
            rw [hc] at hev
            rw [ev_mono n _ _ _ _ _ _ _ hc]
            exact ev_mono n _ _ _ _ _ _ _ hev
theorem ev_le {L : Nat} {xs : Nat → Int32} {n k i n0 pc : Nat} {zl : zLs} {st : List Value} {h : zH} {r : Option Value × zH} (hev : ev L xs n i n0 pc zl st h = some r) : ev L xs (n + k) i n0 pc zl st h = some r := by
  induction k with
  | zero => exact hev
  | succ k ih => exact ev_mono _ _ _ _ _ _ _ _ ih
noncomputable def go (L : Nat) (xs : Nat → Int32) (i n0 pc : Nat) (zl : zLs) (st : List Value) (h : zH) : Option (Option Value × zH) := by
  classical
  exact if H : ∃ r n, ev L xs n i n0 pc zl st h = some r then some (Classical.choose H) else none
theorem go_iff {L : Nat} {xs : Nat → Int32} {i n0 pc : Nat} {zl : zLs} {st : List Value} {h : zH} {r : Option Value × zH} : go L xs i n0 pc zl st h = some r ↔ ∃ n, ev L xs n i n0 pc zl st h = some r := by
  unfold go
  constructor
  · intro h1
    split at h1
    · rename_i H
      cases h1
      exact Classical.choose_spec H
    · cases h1
  · rintro ⟨n, hn⟩
    have H : ∃ r n, ev L xs n i n0 pc zl st h = some r := ⟨r, n, hn⟩
    rw [dif_pos H]
    obtain ⟨k, hk⟩ := Classical.choose_spec H
    have e1 := ev_le (k := k) hn
    have e2 := ev_le (k := n) hk
    rw [Nat.add_comm k n, e1] at e2
    exact e2.symm
theorem go_none {L : Nat} {xs : Nat → Int32} {i n0 pc : Nat} {zl : zLs} {st : List Value} {h : zH} : go L xs i n0 pc zl st h = none ↔ ∀ n, ev L xs n i n0 pc zl st h = none := by
  constructor
  · intro h1 n
    cases hq : ev L xs n i n0 pc zl st h with
    | none => rfl
    | some r => rw [go_iff.mpr ⟨n, hq⟩] at h1; cases h1
  · intro h1
    cases hq : go L xs i n0 pc zl st h with
    | none => rfl
    | some r =>
      obtain ⟨n, hn⟩ := go_iff.mp hq
      rw [h1 n] at hn
      cases hn
theorem go_ext {L : Nat} {xs : Nat → Int32} {i n0 pc : Nat} {zl : zLs} {st : List Value} {h : zH} {o : Option (Option Value × zH)} (hq : ∀ r, (∃ n, ev L xs n i n0 pc zl st h = some r) ↔ o = some r) : go L xs i n0 pc zl st h = o := by
  cases o with
  | some r => exact go_iff.mpr ((hq r).mpr rfl)
  | none =>
    refine go_none.mpr (fun n => ?_)
    cases he : ev L xs n i n0 pc zl st h with
    | none => rfl
    | some r => have := (hq r).mp ⟨n, he⟩; cases this
section G
variable {L : Nat} {xs : Nat → Int32} {i n0 pc len : Nat} {zl zl' : zLs} {st st' : List Value} {h h' : zH} {ins : Instr}
theorem g_nx (hd : decode (zB i) pc = .ok (ins, len)) {pc' : Nat} (hz : zStep i n0 L xs ins len pc zl st h = some (.inl (pc', zl', st', h'))) : go L xs i n0 pc zl st h = go L xs i n0 pc' zl' st' h' := by
  apply go_ext
  intro r
  rw [go_iff]
  constructor
  · rintro ⟨n, hn⟩
    match n, hn with
    | 0, hn => rw [ev] at hn; cases hn
    | n + 1, hn => rw [ev, hd] at hn; dsimp only at hn; rw [hz] at hn; exact ⟨n, hn⟩
  · rintro ⟨n, hn⟩
    refine ⟨n + 1, ?_⟩
    rw [ev, hd]
    dsimp only
    rw [hz]
    exact hn
theorem g_ret (hd : decode (zB i) pc = .ok (ins, len)) {v : Option Value} (hz : zStep i n0 L xs ins len pc zl st h = some (.inr (.inl v))) : go L xs i n0 pc zl st h = some (v, h) := by
  refine go_iff.mpr ⟨1, ?_⟩
  rw [ev, hd]
  dsimp only
  rw [hz]
theorem g_no (hd : decode (zB i) pc = .ok (ins, len)) (hz : zStep i n0 L xs ins len pc zl st h = none) : go L xs i n0 pc zl st h = none := by
  refine go_none.mpr (fun n => ?_)
  match n with
  | 0 => rw [ev]
  | n + 1 => rw [ev, hd]; dsimp only; rw [hz]
theorem g_call (hd : decode (zB i) pc = .ok (ins, len)) {j : Nat} {as rest : List Value} (hz : zStep i n0 L xs ins len pc zl st h = some (.inr (.inr (j, as, rest)))) : go L xs i n0 pc zl st h = (go L xs j h.1.length 0 (zArgs as (zML j)) [] h).bind (fun r => go L xs i n0 (pc + 3) zl (r.1.toList ++ rest) r.2) := by
  apply go_ext
  intro r
  constructor
  · rintro ⟨n, hn⟩
    match n, hn with
    | 0, hn => rw [ev] at hn; cases hn
    | n + 1, hn =>
      rw [ev, hd] at hn
      dsimp only at hn
      rw [hz] at hn
      dsimp only at hn
      split at hn
      · rename_i v h2 hc
        rw [go_iff.mpr ⟨n, hc⟩]
        exact go_iff.mpr ⟨n, hn⟩
      · cases hn
  · intro h1
    obtain ⟨q, h2, h3⟩ := Option.bind_eq_some_iff.mp h1
    obtain ⟨a, ha⟩ := go_iff.mp h2
    obtain ⟨k, hk⟩ := go_iff.mp h3
    refine ⟨a + k + 1, ?_⟩
    rw [ev, hd]
    dsimp only
    rw [hz]
    dsimp only
    rw [ev_le (k := k) ha]
    have := ev_le (k := a) hk
    rw [Nat.add_comm k a] at this
    exact this
theorem zRt_no {n : Nat} (hi : (match ins with
    | .ireturn => true
    | .lreturn => true
    | .areturn => true
    | .return_ => true
    | _ => false) = false) : zRt i n0 n ins len st = none := by
  unfold zRt
  cases (Nat.beq n (n0 + zMc i) || Nat.beq i zLaw)
  · rfl
  · rw [cond_true]
    split <;> first | rfl | cases hi
end G
/-! The cells as they lie once both objects are made. -/
def zL0 : List (Nat × Nat) := [(8, 11), (7, 3), (12, 7), (1, 5), (1, 5), (1, 5), (1, 5), (1, 5), (1, 5), (1, 5), (0, 6), (10, 9), (10, 9), (10, 9), (10, 9), (4, 4), (10, 10), (10, 10), (10, 10), (3, 7), (10, 357), (10, 7), (10, 7), (10, 7), (3, 7), (10, 357), (10, 7), (10, 7), (10, 7), (2, 7), (10, 9), (10, 5), (10, 20), (5, 8), (10, 9), (10, 459), (13, 4), (6, 4), (10, 60), (6, 4), (10, 60), (6, 4), (10, 60), (6, 4), (10, 60), (9, 36), (10, 7), (10, 7), (10, 7), (10, 7), (10, 7), (10, 7), (10, 28), (10, 8), (10, 8), (10, 8), (10, 8), (10, 7), (10, 7), (11, 7), (10, 8), (10, 8), (10, 10), (10, 10), (10, 10), (10, 4), (10, 4), (10, 240), (10, 60)]
def zS0 : List (List (Option Nat)) := [[some 1, some 10, some 15, some 36, some 19, some 24, some 29, some 33, none, none, none], [some 2, none, none], [some 3, some 4, some 5, some 6, some 7, some 8, some 9], [none, none, none, none, none], [none, none, none, none, none], [none, none, none, none, none], [none, none, none, none, none], [none, none, none, none, none], [none, none, none, none, none], [none, none, none, none, none], [some 1, some 11, some 12, some 13, some 14, none], [], [], [], [], [some 16, some 17, some 18, none], [], [], [], [some 1, some 10, some 20, some 21, some 22, some 23, none], [], [], [], [], [some 1, some 10, some 25, some 26, some 27, some 28, none], [], [], [], [], [some 1, some 10, some 24, some 30, some 31, some 32, none], [], [], [], [some 1, some 10, some 24, some 34, some 35, none, none, none], [], [], [some 37, some 39, some 41, some 43], [some 38, none, none, none], [], [some 40, none, none, none], [], [some 42, none, none, none], [], [some 44, none, none, none], [], [none, none, none, some 46, some 47, some 48, some 49, some 50, none, none, none, some 51, some 52, none, some 53, some 54, some 55, some 56, some 57, some 58, some 59, none, none, none, none, some 60, some 61, none, some 62, some 63, some 64, some 65, some 66, some 67, some 68, none], [], [], [], [], [], [], [], [], [], [], [], [], [], [], [], [], [], [], [], [], [], [], []]
def zLRun : Option (List (Nat × Nat) × List (List (Option Nat))) := (ev 0 (fun _ => 0) 2000 zLaw 0 0 (zArgs [.null] 4) [] zT0).map (fun q => (q.2.1, q.2.2.1))
