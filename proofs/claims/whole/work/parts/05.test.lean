/-- the law's start, run -/
def zT0 : zH := ([], [], fun _ _ => 0, fun _ => 0)
def zRun (L : Nat) (xs : Nat → Int32) (i n0 : Nat) : Nat → Nat → Nat → zLs → List Value → zH → Option (Nat × zLs × List Value × zH)
  | _, 0, _, _, _, _ => none
  | stop, n + 1, pc, ls, st, h => bif Nat.beq pc stop then some (pc, ls, st, h) else match decode (zB i) pc with
    | .ok (ins, len) => (match zStep i n0 L xs ins len pc ls st h with
      | some (.inl (pc', ls', st', h')) => zRun L xs i n0 stop n pc' ls' st' h'
      | some (.inr (.inr (j, as, rest))) => (match ev L xs 3000 j h.1.length 0 (zArgs as (zML j)) [] h with
        | some (v, h') => zRun L xs i n0 stop n (pc + 3) ls (v.toList ++ rest) h'
        | none => none)
      | _ => none)
    | _ => none
set_option maxRecDepth 100000 in
theorem zTest1 : ((zRun 0 (fun _ => 0) zLaw 0 18 200 0 (zArgs [.null] 4) [] zT0).map (fun q => (q.1, q.2.2.2.1.length))) = some (18, 69) := by decide +kernel
