/-! The abstract machine: heap = (kinds and lengths, references, ints, longs); cells are numbered as they are made. A null on the stack or in the locals stands for the law's script. -/
abbrev zH : Type := List (Nat × Nat) × List (List (Option Nat)) × (Nat → Nat → Int32) × (Nat → Int64)
abbrev zLs : Type := List (Option Value)
def zsr (h : zH) (k f : Nat) : Option Nat := ((h.2.1[k]?).bind (fun r => r[f]?)).join
def zin (i : Int32) (n : Nat) : Bool := !(decide (i < 0)) && Nat.blt i.toNatClampNeg n
def zu (g : Nat → Nat → Int32) (k j : Nat) (x : Int32) : Nat → Nat → Int32 := fun a b => if a = k then (if b = j then x else g a b) else g a b
def zuJ (g : Nat → Int64) (k : Nat) (x : Int64) : Nat → Int64 := fun a => if a = k then x else g a
def zcp (g : Nat → Nat → Int32) (k0 k1 sp dp n : Nat) : Nat → Nat → Int32 := fun a b => if a = k1 then (if dp ≤ b ∧ b < dp + n then g k0 (sp + (b - dp)) else g a b) else g a b
def zusr (r : List (List (Option Nat))) (k f v : Nat) : List (List (Option Nat)) := r.modify k (fun q => q.set f (some v))
/-- the type of field f of an object of kind c -/
def zTy (c f : Nat) : FieldType := bif Nat.blt c 5 then (bif Nat.blt c 2 then (bif Nat.blt c 1 then tyX0 f else tyX1 f) else (bif Nat.blt c 3 then tyX2 f else (bif Nat.blt c 4 then tyX3 f else tyX4 f))) else (bif Nat.blt c 7 then (bif Nat.blt c 6 then tyX5 f else tyX6 f) else (bif Nat.blt c 8 then tyX7 f else (bif Nat.blt c 9 then tyX8 f else tyX9 f)))
def zTT (c : Nat) : u_T := bif Nat.blt c 5 then (bif Nat.blt c 2 then (bif Nat.blt c 1 then TX0 else TX1) else (bif Nat.blt c 3 then TX2 else (bif Nat.blt c 4 then TX3 else TX4))) else (bif Nat.blt c 7 then (bif Nat.blt c 6 then TX5 else TX6) else (bif Nat.blt c 8 then TX7 else (bif Nat.blt c 9 then TX8 else TX9)))
/-- how many fields an object of kind c has -/
def zNF (c : Nat) : Nat := bif Nat.blt c 5 then (bif Nat.blt c 2 then (bif Nat.blt c 1 then 6 else 5) else (bif Nat.blt c 3 then 7 else (bif Nat.blt c 4 then 7 else 4))) else (bif Nat.blt c 7 then (bif Nat.blt c 6 then 8 else 4) else (bif Nat.blt c 8 then 3 else (bif Nat.blt c 9 then 11 else 36)))
def zFty (t : FieldType) : Nat := match t with
  | .int => 0
  | .boolean => 1
  | .long => 2
  | _ => 3
def zCon (c : Nat) (ins : Instr) (len : Nat) : Option Value := match ins, len with
  | .iconst n, 1 => some (.int (Int32.ofInt n))
  | .bipush n, 2 => some (.int (Int8.ofInt n).toInt32)
  | .sipush n, 3 => some (.int (Int16.ofInt n).toInt32)
  | .lconst n, 1 => some (.long (Int64.ofNat (n : Nat)))
  | .ldc k, 2 => (zK3.lookup (c, k)).map (fun q => .int q.1)
  | .ldc_w k, 3 => (zK3.lookup (c, k)).map (fun q => .int q.1)
  | .ldc2_w k, 3 => (zK6.lookup (c, k)).map (fun q => .long q.1)
  | _, _ => none
def zLd (ins : Instr) (len : Nat) : Option (Nat × Nat) := match ins, len with
  | .iload k, 2 => some (k, 0)
  | .iload_n k, 1 => some (k, 0)
  | .aload k, 2 => some (k, 1)
  | .aload_n k, 1 => some (k, 1)
  | .lload k, 2 => some (k, 2)
  | .lload_n k, 1 => some (k, 2)
  | _, _ => none
def zGet (ls : zLs) (k kd : Nat) : Option Value := match kd, ls[k]? with
  | 0, some (some (.int x)) => some (.int x)
  | 1, some (some (.ref a)) => some (.ref a)
  | 1, some (some .null) => some .null
  | 2, some (some (.long x)) => (match ls[k + 1]? with
    | some none => some (.long x)
    | _ => none)
  | _, _ => none
def zSt (ins : Instr) (len : Nat) : Option (Nat × Nat) := match ins, len with
  | .istore k, 2 => some (k, 0)
  | .istore_n k, 1 => some (k, 0)
  | .astore k, 2 => some (k, 1)
  | .astore_n k, 1 => some (k, 1)
  | .lstore k, 2 => some (k, 2)
  | .lstore_n k, 1 => some (k, 2)
  | _, _ => none
def zPut (ls : zLs) (k kd : Nat) (v : Value) : Option zLs := match kd, v with
  | 0, .int x => bif Nat.blt k ls.length then some (ls.set k (some (.int x))) else none
  | 1, .ref a => bif Nat.blt k ls.length then some (ls.set k (some (.ref a))) else none
  | 1, .null => bif Nat.blt k ls.length then some (ls.set k (some .null)) else none
  | 2, .long x => bif Nat.blt (k + 1) ls.length then some ((ls.set k (some (.long x))).set (k + 1) none) else none
  | _, _ => none
def zO1 (ins : Instr) (v : Value) : Option Value := match ins, v with
  | .ineg, .int x => some (.int (-x))
  | .i2l, .int x => some (.long x.toInt64)
  | .i2b, .int x => some (.int x.toInt8.toInt32)
  | .i2s, .int x => some (.int x.toInt16.toInt32)
  | _, _ => none
def zO2 (ins : Instr) (v w : Value) : Option Value := match ins, v, w with
  | .iadd, .int y, .int x => some (.int (x + y))
  | .isub, .int y, .int x => some (.int (x - y))
  | .imul, .int y, .int x => some (.int (x * y))
  | .idiv, .int y, .int x => bif decide (y = 0) then none else some (.int (x / y))
  | .irem, .int y, .int x => bif decide (y = 0) then none else some (.int (x - x / y * y))
  | .iand, .int y, .int x => some (.int (x &&& y))
  | .ior, .int y, .int x => some (.int (x ||| y))
  | .ishl, .int y, .int x => some (.int (x <<< (y &&& 31)))
  | .ishr, .int y, .int x => some (.int (x >>> (y &&& 31)))
  | .iushr, .int y, .int x => some (.int (x.toUInt32 >>> (y.toUInt32 &&& Int32.toUInt32 31)).toInt32)
  | .ladd, .long y, .long x => some (.long (x + y))
  | .lsub, .long y, .long x => some (.long (x - y))
  | .ldiv, .long y, .long x => bif decide (y = 0) then none else some (.long (x / y))
  | .lrem, .long y, .long x => bif decide (y = 0) then none else some (.long (x - x / y * y))
  | .land, .long y, .long x => some (.long (x &&& y))
  | .lor, .long y, .long x => some (.long (x ||| y))
  | .lshl, .int y, .long x => some (.long (x <<< (y.toInt64 &&& 63)))
  | .lshr, .int y, .long x => some (.long (x >>> (y.toInt64 &&& 63)))
  | .lcmp, .long y, .long x => some (.int (lg_cmp x y))
  | _, _, _ => none
def zOp (ins : Instr) (len : Nat) (st : List Value) : Option (List Value) := match ins, len, st with
  | .ineg, 1, v :: st' => (zO1 .ineg v).map (fun v => v :: st')
  | .i2l, 1, v :: st' => (zO1 .i2l v).map (fun v => v :: st')
  | .i2b, 1, v :: st' => (zO1 .i2b v).map (fun v => v :: st')
  | .i2s, 1, v :: st' => (zO1 .i2s v).map (fun v => v :: st')
  | ins, 1, v :: w :: st' => (zO2 ins v w).map (fun v => v :: st')
  | _, _, _ => none
def zTgt (pc : Nat) (off : Int) : Option Nat := match (pc : Int) + off with
  | .ofNat t => some t
  | .negSucc _ => none
def zCmp (q : Jvm.ClassFile.Cond) (x y : Int32) : Bool := match q with
  | .eq => decide (x = y)
  | .ne => !(decide (x = y))
  | .lt => decide (x < y)
  | .ge => decide (y ≤ x)
  | .gt => decide (y < x)
  | .le => decide (x ≤ y)
def zSw (ins : Instr) (x : Int32) : Option Int := match ins with
  | .tableswitch d lo hi offs => bif decide (x.toInt < lo) || decide (hi < x.toInt) then some d else offs[(x.toInt - lo).toNat]?
  | .lookupswitch d ps => bif (ps.toList.zip (ps.toList.drop 1)).all (fun (a, next) => a.1 < next.1) then some (Op.lookupswitch.offset ps.toList d x.toInt) else none
  | _ => none
def zBr (pc : Nat) (ins : Instr) (len : Nat) (st : List Value) : Option (Nat × List Value) := match ins, len, st with
  | .goto off, 3, st => (zTgt pc off).map (fun t => (t, st))
  | .if_icmp q off, 3, .int y :: .int x :: st => (zTgt pc off).map (fun t => (bif zCmp q x y then t else pc + 3, st))
  | .ifCond q off, 3, .int x :: st => (zTgt pc off).map (fun t => (bif zCmp q x 0 then t else pc + 3, st))
  | .tableswitch d lo hi offs, _, .int x :: st => (zSw (.tableswitch d lo hi offs) x).bind (fun o => (zTgt pc o).map (fun t => (t, st)))
  | .lookupswitch d ps, _, .int x :: st => (zSw (.lookupswitch d ps) x).bind (fun o => (zTgt pc o).map (fun t => (t, st)))
  | _, _, _ => none
/-- what a field holds -/
def zFV (h : zH) (c k f : Nat) : Option Value := match zFty (zTy c f) with
  | 0 => some (.int (h.2.2.1 k f))
  | 1 => some (.int (h.2.2.1 k f))
  | 2 => some (.long (h.2.2.2 k))
  | _ => (zsr h k f).map .ref
/-- a field gets a value -/
def zFP (h : zH) (c k f : Nat) (v : Value) : Option zH := match zFty (zTy c f), v with
  | 0, .int x => some (h.1, h.2.1, zu h.2.2.1 k f x, h.2.2.2)
  | 1, .int x => bif decide (x = 0) || decide (x = 1) then some (h.1, h.2.1, zu h.2.2.1 k f x, h.2.2.2) else none
  | 2, .long x => some (h.1, h.2.1, h.2.2.1, zuJ h.2.2.2 k x)
  | 3, .ref a => bif Nat.blt f ((h.2.1[k]?).getD []).length then some (h.1, zusr h.2.1 k f a, h.2.2.1, h.2.2.2) else none
  | _, _ => none
def zMem (i L : Nat) (xs : Nat → Int32) (ins : Instr) (len : Nat) (st : List Value) (h : zH) : Option (List Value × zH) := match ins, len, st with
  | .getfield idx, 3, .ref k :: st => (match zFS.lookup (zC i, idx), h.1[k]? with
    | some (c, f, _), some (t, n) => bif Nat.beq t c && Nat.beq n (zNF c) then (zFV h c k f).map (fun v => (v :: st, h)) else none
    | _, _ => none)
  | .putfield idx, 3, v :: .ref k :: st => (match zFS.lookup (zC i, idx), h.1[k]? with
    | some (c, f, nest, _), some (t, n) => bif Nat.beq t c && Nat.beq n (zNF c) && (!(zTT c f).2.2.2 || (decide ((zY i).name = "<init>") && Nat.beq c (zC i) && Nat.beq nest 0)) then (zFP h c k f v).map (fun h => (st, h)) else none
    | _, _ => none)
  | .iaload, 1, .int j :: .ref k :: st => (match h.1[k]? with
    | some (10, n) => bif zin j n then some (.int (h.2.2.1 k j.toNatClampNeg) :: st, h) else none
    | _ => none)
  | .iaload, 1, .int j :: .null :: st => bif zin j L then some (.int (xs j.toNatClampNeg) :: st, h) else none
  | .arraylength, 1, .null :: st => some (.int (Int32.ofNat L) :: st, h)
  | .iastore, 1, .int x :: .int j :: .ref k :: st => (match h.1[k]? with
    | some (10, n) => bif zin j n then some (st, (h.1, h.2.1, zu h.2.2.1 k j.toNatClampNeg x, h.2.2.2)) else none
    | _ => none)
  | .baload, 1, .int j :: .ref k :: st => (match h.1[k]? with
    | some (11, n) => bif zin j n then some (.int (h.2.2.1 k j.toNatClampNeg) :: st, h) else none
    | _ => none)
  | .bastore, 1, .int x :: .int j :: .ref k :: st => (match h.1[k]? with
    | some (11, n) => bif zin j n && (decide (x = 0) || decide (x = 1)) then some (st, (h.1, h.2.1, zu h.2.2.1 k j.toNatClampNeg x, h.2.2.2)) else none
    | _ => none)
  | .aaload, 1, .int j :: .ref k :: st => (match h.1[k]? with
    | some (12, n) => bif zin j n then (zsr h k j.toNatClampNeg).map (fun a => (.ref a :: st, h)) else none
    | some (13, n) => bif zin j n then (zsr h k j.toNatClampNeg).map (fun a => (.ref a :: st, h)) else none
    | _ => none)
  | .aastore, 1, .ref a :: .int j :: .ref k :: st => (match h.1[k]?, h.1[a]? with
    | some (12, n), some (1, 5) => bif zin j n && Nat.blt j.toNatClampNeg ((h.2.1[k]?).getD []).length then some (st, (h.1, zusr h.2.1 k j.toNatClampNeg a, h.2.2.1, h.2.2.2)) else none
    | some (13, n), some (6, 4) => bif zin j n && Nat.blt j.toNatClampNeg ((h.2.1[k]?).getD []).length then some (st, (h.1, zusr h.2.1 k j.toNatClampNeg a, h.2.2.1, h.2.2.2)) else none
    | _, _ => none)
  | .invokespecial idx, 3, .ref _ :: st => (match zMS.lookup (zC i, idx) with
    | some (_, 6, _) => bif Nat.ble 1 (zFr i) && Nat.ble 40 (zLo i) && Nat.ble ((st.map (fun v : Value => v.category)).sum) 8 then some (st, h) else none
    | _ => none)
  | .invokestatic idx, 3, .int n :: .int dp :: .ref k1 :: .int sp :: .ref k0 :: st => (match zMS.lookup (zC i, idx), h.1[k0]?, h.1[k1]? with
    | some (_, 7, _), some (10, n0), some (10, n1) => bif Nat.ble 1 (zFr i) && Nat.ble 40 (zLo i) && Nat.ble ((st.map (fun v : Value => v.category)).sum) 8 && !(decide (sp < 0)) && !(decide (dp < 0)) && !(decide (n < 0)) && Nat.ble (sp.toNatClampNeg + n.toNatClampNeg) n0 && Nat.ble (dp.toNatClampNeg + n.toNatClampNeg) n1 then some (st, (h.1, h.2.1, zcp h.2.2.1 k0 k1 sp.toNatClampNeg dp.toNatClampNeg n.toNatClampNeg, h.2.2.2)) else none
    | _, _, _ => none)
  | .invokestatic idx, 3, .int y :: .int x :: st => (match zMS.lookup (zC i, idx) with
    | some (_, 8, _) => bif Nat.ble 1 (zFr i) && Nat.ble 40 (zLo i) && Nat.ble ((st.map (fun v : Value => v.category)).sum) 8 then some (.int (if x < y then y else x) :: st, h) else none
    | some (_, 9, _) => bif Nat.ble 1 (zFr i) && Nat.ble 40 (zLo i) && Nat.ble ((st.map (fun v : Value => v.category)).sum) 8 then some (.int (if y < x then y else x) :: st, h) else none
    | _ => none)
  | _, _, _ => none
/-- every reference is one of a made cell -/
def zWv (n : Nat) (v : Value) : Bool := match v with
  | .ref a => Nat.blt a n
  | _ => true
def zWo (n : Nat) (v : Option Value) : Bool := match v with
  | some v => zWv n v
  | none => true
def zWr (n : Nat) (r : List (List (Option Nat))) : Bool := r.all (fun q => q.all (fun o => match o with
  | some a => Nat.blt a n
  | none => true))
def zWf (n : Nat) (ls : zLs) (st : List Value) (r : List (List (Option Nat))) : Bool := ls.all (zWo n) && st.all (zWv n) && zWr n r && Nat.beq r.length n
def zNew (h : zH) (t n : Nat) : zH := (h.1 ++ [(t, n)], h.2.1 ++ [bif Nat.beq t 10 || Nat.beq t 11 then [] else List.replicate n none], (fun a b => if a = h.1.length then 0 else h.2.2.1 a b), (fun a => if a = h.1.length then 0 else h.2.2.2 a))
def zAlI (i : Nat) (ins : Instr) (len : Nat) (st : List Value) (h : zH) : Option (List Value × zH) := match ins, len, st with
  | .new idx, 3, st => (match zCS.lookup (zC i, idx) with
    | some (c, _) => some (.ref h.1.length :: st, zNew h c (zNF c))
    | none => none)
  | .newarray .int, 2, .int n :: st => bif !(decide (n < 0)) && Nat.ble n.toNatClampNeg 500 then some (.ref h.1.length :: st, zNew h 10 n.toNatClampNeg) else none
  | .newarray .boolean, 2, .int n :: st => bif !(decide (n < 0)) && Nat.ble n.toNatClampNeg 500 then some (.ref h.1.length :: st, zNew h 11 n.toNatClampNeg) else none
  | .anewarray idx, 3, .int n :: st => bif !(decide (n < 0)) && Nat.ble n.toNatClampNeg 500 then (match zCS.lookup (zC i, idx) with
    | some (1, _) => some (.ref h.1.length :: st, zNew h 12 n.toNatClampNeg)
    | some (6, _) => some (.ref h.1.length :: st, zNew h 13 n.toNatClampNeg)
    | _ => none) else none
  | _, _, _ => none
def zAlC (i n0 : Nat) (ls : zLs) (st : List Value) (h : zH) : Bool := zWf h.1.length ls st h.2.1 && Nat.blt h.1.length (n0 + zMc i)
def zAl (i n0 : Nat) (ins : Instr) (len : Nat) (ls : zLs) (st : List Value) (h : zH) : Option (List Value × zH) := match ins with
  | .new idx => bif zAlC i n0 ls st h then zAlI i (.new idx) len st h else none
  | .newarray t => bif zAlC i n0 ls st h then zAlI i (.newarray t) len st h else none
  | .anewarray idx => bif zAlC i n0 ls st h then zAlI i (.anewarray idx) len st h else none
  | _ => none
def zArgs (vs : List Value) (n : Nat) : zLs := let f := vs.flatMap (fun v => if v.category = 2 then [some v, none] else [some v]); f ++ List.replicate (n - f.length) none
/-- a call: the method, its arguments, the stack below -/
def zSite (i : Nat) (ins : Instr) (len : Nat) : Option (Nat × Nat) := match ins, len with
  | .invokevirtual idx, 3 => (zMS.lookup (zC i, idx)).bind (fun q => bif Nat.blt q.2.1 2 then some (q.1, 1) else none)
  | .invokestatic idx, 3 => (zMS.lookup (zC i, idx)).bind (fun q => bif Nat.beq q.2.1 2 then some (q.1, 0) else none)
  | .invokespecial idx, 3 => (zMS.lookup (zC i, idx)).bind (fun q => bif Nat.beq q.2.1 4 || Nat.beq q.2.1 5 then some (q.1, 2) else none)
  | _, _ => none
def zNA (j kd : Nat) : Nat := (zMD j).2.2.2.2.2 + (bif Nat.beq kd 0 then 0 else 1)
def zRcv (j : Nat) (h : zH) (as : List Value) : Bool := match as with
  | .ref k :: _ => (match h.1[k]? with
    | some (t, _) => Nat.beq t (zC j)
    | none => false)
  | _ => false
def zCan (i j n0 na : Nat) (ls : zLs) (st : List Value) (h : zH) : Bool := Nat.ble na st.length && Nat.ble (h.1.length + zMc j) (n0 + zMc i) && Nat.ble (zFr j + 1) (zFr i) && Nat.ble (8 + (zML j + 11) + zLo j) (zLo i) && (Nat.beq (zMc j) 0 || zWf h.1.length ls st h.2.1) && Nat.ble (((st.drop na).map (fun v : Value => v.category)).sum) 8
def zCall (i n0 : Nat) (ins : Instr) (len : Nat) (ls : zLs) (st : List Value) (h : zH) : Option (Nat × List Value × List Value) := match zSite i ins len with
  | some (j, kd) => bif zCan i j n0 (zNA j kd) ls st h && Nat.ble (zArgs (st.take (zNA j kd)).reverse 0).length (zML j) && (Nat.beq kd 0 || zRcv j h (st.take (zNA j kd)).reverse) then some (j, (st.take (zNA j kd)).reverse, st.drop (zNA j kd)) else none
  | none => none
def zRt (i n0 n : Nat) (ins : Instr) (len : Nat) (st : List Value) : Option (Option Value) := bif Nat.beq n (n0 + zMc i) || Nat.beq i zLaw then (match zRet i, ins, len, st with
  | some .int, .ireturn, 1, [.int x] => some (some (.int x))
  | some .boolean, .ireturn, 1, [.int x] => bif decide (x = 0) || decide (x = 1) then some (some (.int x)) else none
  | some .long, .lreturn, 1, [.long x] => some (some (.long x))
  | some (.object _), .areturn, 1, [.ref a] => some (some (.ref a))
  | none, .return_, 1, [] => some none
  | _, _, _, _ => none) else none
abbrev zRes : Type := (Nat × zLs × List Value × zH) ⊕ (Option Value) ⊕ (Nat × List Value × List Value)
def zStep (i n0 L : Nat) (xs : Nat → Int32) (ins : Instr) (len pc : Nat) (ls : zLs) (st : List Value) (h : zH) : Option zRes :=
  match zCon (zC i) ins len with
  | some v => some (.inl (pc + len, ls, v :: st, h))
  | none => match zLd ins len with
    | some (k, kd) => (zGet ls k kd).map (fun v => .inl (pc + len, ls, v :: st, h))
    | none => match zSt ins len, st with
      | some (k, kd), v :: st' => (zPut ls k kd v).map (fun ls' => .inl (pc + len, ls', st', h))
      | some _, [] => none
      | none, _ => match ins, len, st with
        | .iinc k n, 3, st => (match ls[k]? with
          | some (some (.int x)) => some (.inl (pc + 3, ls.set k (some (.int (x + Int32.ofInt n))), st, h))
          | _ => none)
        | .dup, 1, .int x :: st => some (.inl (pc + 1, ls, .int x :: .int x :: st, h))
        | .dup, 1, .ref x :: st => some (.inl (pc + 1, ls, .ref x :: .ref x :: st, h))
        | .dup2, 1, .int x :: .ref y :: st => some (.inl (pc + 1, ls, .int x :: .ref y :: .int x :: .ref y :: st, h))
        | .pop, 1, .int _ :: st => some (.inl (pc + 1, ls, st, h))
        | ins, len, st => match zOp ins len st with
          | some st' => some (.inl (pc + 1, ls, st', h))
          | none => match zBr pc ins len st with
            | some (t, st') => some (.inl (t, ls, st', h))
            | none => match zMem i L xs ins len st h with
              | some (st', h') => some (.inl (pc + len, ls, st', h'))
              | none => match zAl i n0 ins len ls st h with
                | some (st', h') => some (.inl (pc + len, ls, st', h'))
                | none => match zRt i n0 h.1.length ins len st with
                  | some v => some (.inr (.inl v))
                  | none => match zCall i n0 ins len ls st h with
                    | some q => some (.inr (.inr q))
                    | none => none
def ev (L : Nat) (xs : Nat → Int32) : Nat → Nat → Nat → Nat → zLs → List Value → zH → Option (Option Value × zH)
  | 0, _, _, _, _, _, _ => none
  | n + 1, i, n0, pc, ls, st, h => match decode (zB i) pc with
    | .ok (ins, len) => (match zStep i n0 L xs ins len pc ls st h with
      | some (.inl (pc', ls', st', h')) => ev L xs n i n0 pc' ls' st' h'
      | some (.inr (.inl v)) => some (v, h)
      | some (.inr (.inr (j, as, rest))) => (match ev L xs n j h.1.length 0 (zArgs as (zML j)) [] h with
        | some (v, h') => ev L xs n i n0 (pc + 3) ls (v.toList ++ rest) h'
        | none => none)
      | none => none)
    | _ => none
