/-! A small machine over flat memory: cells are rows of ints, rows of references, or objects; a reference is a cell's number; what lies outside (the script, static rows, String constants) is a number too, written .retAddr n. -/
abbrev mm_C : Type := List Int32 ⊕ ((Nat × List (Option Nat)) ⊕ (Nat × List Value))
abbrev mm_M : Type := List mm_C
/-- instruction, its length, three payloads: two numbers and a value; the places of its words -/
abbrev mm_I : Type := Instr × Nat × Nat × Nat × Value × List Nat
abbrev mm_L : Type := List (Option Value)
abbrev mm_S : Type := Nat × mm_L × List Value × mm_M
/-- outside: rows of ints or bytes, and objects' fields -/
abbrev mm_X : Type := Nat → Option (List Int32 ⊕ List Value)
def mm_size (c : mm_C) : Nat := match c with
  | .inl xs => xs.length
  | .inr (.inl (_, rs)) => rs.length
  | .inr (.inr (_, fs)) => fs.length
def mm_sl (M : mm_M) : Nat := (M.map mm_size).sum
def mm_isL (o : Option (Option Value)) : Bool := match o with
  | some (some (.long _)) => true
  | some (some (.double _)) => true
  | _ => false
def mm_clr (L : mm_L) (i : Nat) : mm_L := match i with
  | 0 => L
  | j + 1 => if mm_isL L[j]? then L.set j none else L
def mm_sto1 (L : mm_L) (i : Nat) (v : Value) : mm_L := (mm_clr L i).set i (some v)
def mm_sto2 (L : mm_L) (i : Nat) (v : Value) : mm_L := ((mm_clr L i).set i (some v)).set (i + 1) none
def mm_at (xs : List Int32) (i : Int32) : Option Int32 := if i < 0 then none else xs[i.toNatClampNeg]?
def mm_atq (rs : List (Option Nat)) (i : Int32) : Option (Option Nat) := if i < 0 then none else rs[i.toNatClampNeg]?
def mm_row (X : mm_X) (M : mm_M) (v : Value) : Option (List Int32) := match v with
  | .ref k => (match M[k]? with | some (.inl xs) => some xs | _ => none)
  | .retAddr n => if n < 50 then (match X n with | some (.inl xs) => some xs | _ => none) else none
  | _ => none
def mm_fld (X : mm_X) (M : mm_M) (v : Value) (ci k : Nat) : Option Value := match v with
  | .ref a => (match M[a]? with | some (.inr (.inr (c, fs))) => if c = ci then fs[k]? else none | _ => none)
  | .retAddr n => (match X n with | some (.inr fs) => if ci = 99 then fs[k]? else none | _ => none)
  | _ => none
/-- a value that a field of this type takes as it is -/
def mm_okf (ty : FieldType) (v : Value) : Bool := match ty, v with
  | .int, .int _ => true
  | .boolean, .int x => x == 0 || x == 1
  | .object _, .ref _ => true
  | .object _, .retAddr _ => true
  | .array _, .ref _ => true
  | _, _ => false
def mm_put (fty : Nat → Nat → FieldType) (M : mm_M) (o : Value) (v : Value) (ci k : Nat) : Option mm_M := match o with
  | .ref a => (match M[a]? with | some (.inr (.inr (c, fs))) => if c = ci ∧ k < fs.length ∧ mm_okf (fty ci k) v = true then some (M.set a (.inr (.inr (c, fs.set k v)))) else none | _ => none)
  | _ => none
def mm_sti (M : mm_M) (o : Value) (i x : Int32) : Option mm_M := match o with
  | .ref a => (match M[a]? with | some (.inl xs) => if i < 0 then none else if i.toNatClampNeg < xs.length then some (M.set a (.inl (xs.set i.toNatClampNeg x))) else none | _ => none)
  | _ => none
def mm_rf (r : Option Nat) : Value := match r with
  | some k => .ref k
  | none => .null
/-- one instruction that is neither a call nor a return nor a making -/
def mm_step (fty : Nat → Nat → FieldType) (X : mm_X) (i : mm_I) (pc : Nat) (L : mm_L) (st : List Value) (M : mm_M) : Option mm_S :=
  match i with
  | (.iconst n, _) => some (pc + 1, L, .int (Int32.ofInt n) :: st, M)
  | (.bipush n, _) => some (pc + 2, L, .int (Int8.ofInt n).toInt32 :: st, M)
  | (.sipush n, _) => some (pc + 3, L, .int (Int16.ofInt n).toInt32 :: st, M)
  | (.lconst n, _) => some (pc + 1, L, .long (Int64.ofNat n) :: st, M)
  | (.ldc _, _, _, _, v, _) => some (pc + 2, L, v :: st, M)
  | (.ldc_w _, _, _, _, v, _) => some (pc + 3, L, v :: st, M)
  | (.ldc2_w _, _, _, _, v, _) => some (pc + 3, L, v :: st, M)
  | (.getstatic _, _, _, _, v, _) => some (pc + 3, L, v :: st, M)
  | (.iload k, _) => (match L[k]? with | some (some (.int x)) => some (pc + 2, L, .int x :: st, M) | _ => none)
  | (.iload_n k, _) => (match L[(k : Nat)]? with | some (some (.int x)) => some (pc + 1, L, .int x :: st, M) | _ => none)
  | (.lload k, _) => (match L[k]? with | some (some (.long x)) => some (pc + 2, L, .long x :: st, M) | _ => none)
  | (.lload_n k, _) => (match L[(k : Nat)]? with | some (some (.long x)) => some (pc + 1, L, .long x :: st, M) | _ => none)
  | (.aload k, _) => (match L[k]? with | some (some (.ref x)) => some (pc + 2, L, .ref x :: st, M) | some (some (.retAddr x)) => some (pc + 2, L, .retAddr x :: st, M) | _ => none)
  | (.aload_n k, _) => (match L[(k : Nat)]? with | some (some (.ref x)) => some (pc + 1, L, .ref x :: st, M) | some (some (.retAddr x)) => some (pc + 1, L, .retAddr x :: st, M) | _ => none)
  | (.istore k, _) => (match st with | .int x :: st => if k < L.length then some (pc + 2, mm_sto1 L k (.int x), st, M) else none | _ => none)
  | (.istore_n k, _) => (match st with | .int x :: st => if (k : Nat) < L.length then some (pc + 1, mm_sto1 L k (.int x), st, M) else none | _ => none)
  | (.lstore k, _) => (match st with | .long x :: st => if k + 1 < L.length then some (pc + 2, mm_sto2 L k (.long x), st, M) else none | _ => none)
  | (.lstore_n k, _) => (match st with | .long x :: st => if (k : Nat) + 1 < L.length then some (pc + 1, mm_sto2 L k (.long x), st, M) else none | _ => none)
  | (.astore k, _) => (match st with | .ref x :: st => if k < L.length then some (pc + 2, mm_sto1 L k (.ref x), st, M) else none | .retAddr x :: st => if k < L.length then some (pc + 2, mm_sto1 L k (.retAddr x), st, M) else none | _ => none)
  | (.astore_n k, _) => (match st with | .ref x :: st => if (k : Nat) < L.length then some (pc + 1, mm_sto1 L k (.ref x), st, M) else none | .retAddr x :: st => if (k : Nat) < L.length then some (pc + 1, mm_sto1 L k (.retAddr x), st, M) else none | _ => none)
  | (.iinc k n, _) => (match L[k]? with | some (some (.int x)) => if k < L.length then some (pc + 3, mm_sto1 L k (.int (x + Int32.ofInt n)), st, M) else none | _ => none)
  | (.iadd, _) => (match st with | .int y :: .int x :: st => some (pc + 1, L, .int (x + y) :: st, M) | _ => none)
  | (.isub, _) => (match st with | .int y :: .int x :: st => some (pc + 1, L, .int (x - y) :: st, M) | _ => none)
  | (.imul, _) => (match st with | .int y :: .int x :: st => some (pc + 1, L, .int (x * y) :: st, M) | _ => none)
  | (.iand, _) => (match st with | .int y :: .int x :: st => some (pc + 1, L, .int (x &&& y) :: st, M) | _ => none)
  | (.ior, _) => (match st with | .int y :: .int x :: st => some (pc + 1, L, .int (x ||| y) :: st, M) | _ => none)
  | (.ixor, _) => (match st with | .int y :: .int x :: st => some (pc + 1, L, .int (x ^^^ y) :: st, M) | _ => none)
  | (.ishl, _) => (match st with | .int y :: .int x :: st => some (pc + 1, L, .int (x <<< (y &&& 31)) :: st, M) | _ => none)
  | (.ishr, _) => (match st with | .int y :: .int x :: st => some (pc + 1, L, .int (x >>> (y &&& 31)) :: st, M) | _ => none)
  | (.idiv, _) => (match st with | .int y :: .int x :: st => if y = 0 then none else some (pc + 1, L, .int (x / y) :: st, M) | _ => none)
  | (.irem, _) => (match st with | .int y :: .int x :: st => if y = 0 then none else some (pc + 1, L, .int (x - x / y * y) :: st, M) | _ => none)
  | (.ineg, _) => (match st with | .int x :: st => some (pc + 1, L, .int (-x) :: st, M) | _ => none)
  | (.iushr, _) => (match st with | .int y :: .int x :: st => some (pc + 1, L, .int (x.toUInt32 >>> (y.toUInt32 &&& Int32.toUInt32 31)).toInt32 :: st, M) | _ => none)
  | (.i2b, _) => (match st with | .int x :: st => some (pc + 1, L, .int x.toInt8.toInt32 :: st, M) | _ => none)
  | (.i2l, _) => (match st with | .int x :: st => some (pc + 1, L, .long x.toInt64 :: st, M) | _ => none)
  | (.i2c, _) => (match st with | .int x :: st => some (pc + 1, L, .int (x.toUInt32 % 65536).toInt32 :: st, M) | _ => none)
  | (.ladd, _) => (match st with | .long y :: .long x :: st => some (pc + 1, L, .long (x + y) :: st, M) | _ => none)
  | (.lsub, _) => (match st with | .long y :: .long x :: st => some (pc + 1, L, .long (x - y) :: st, M) | _ => none)
  | (.lmul, _) => (match st with | .long y :: .long x :: st => some (pc + 1, L, .long (x * y) :: st, M) | _ => none)
  | (.ldiv, _) => (match st with | .long y :: .long x :: st => if y = 0 then none else some (pc + 1, L, .long (x / y) :: st, M) | _ => none)
  | (.lrem, _) => (match st with | .long y :: .long x :: st => if y = 0 then none else some (pc + 1, L, .long (x - x / y * y) :: st, M) | _ => none)
  | (.lcmp, _) => (match st with | .long y :: .long x :: st => some (pc + 1, L, .int (lg_cmp x y) :: st, M) | _ => none)
  | (.dup, _) => (match st with | .int x :: st => some (pc + 1, L, .int x :: .int x :: st, M) | .ref x :: st => some (pc + 1, L, .ref x :: .ref x :: st, M) | _ => none)
  | (.dup2, _) => (match st with | .int y :: .ref x :: st => some (pc + 1, L, .int y :: .ref x :: .int y :: .ref x :: st, M) | _ => none)
  | (.pop, _) => (match st with | .int x :: st => some (pc + 1, L, st, M) | _ => none)
  | (.goto _, _, a, _) => some (a, L, st, M)
  | (.ifCond .eq _, _, a, _) => (match st with | .int x :: st => some (if x = 0 then a else pc + 3, L, st, M) | _ => none)
  | (.ifCond .ne _, _, a, _) => (match st with | .int x :: st => some (if ¬ x = 0 then a else pc + 3, L, st, M) | _ => none)
  | (.ifCond .lt _, _, a, _) => (match st with | .int x :: st => some (if x < 0 then a else pc + 3, L, st, M) | _ => none)
  | (.ifCond .ge _, _, a, _) => (match st with | .int x :: st => some (if 0 ≤ x then a else pc + 3, L, st, M) | _ => none)
  | (.ifCond .gt _, _, a, _) => (match st with | .int x :: st => some (if 0 < x then a else pc + 3, L, st, M) | _ => none)
  | (.ifCond .le _, _, a, _) => (match st with | .int x :: st => some (if x ≤ 0 then a else pc + 3, L, st, M) | _ => none)
  | (.if_icmp .eq _, _, a, _) => (match st with | .int y :: .int x :: st => some (if x = y then a else pc + 3, L, st, M) | _ => none)
  | (.if_icmp .ne _, _, a, _) => (match st with | .int y :: .int x :: st => some (if ¬ x = y then a else pc + 3, L, st, M) | _ => none)
  | (.if_icmp .lt _, _, a, _) => (match st with | .int y :: .int x :: st => some (if x < y then a else pc + 3, L, st, M) | _ => none)
  | (.if_icmp .ge _, _, a, _) => (match st with | .int y :: .int x :: st => some (if y ≤ x then a else pc + 3, L, st, M) | _ => none)
  | (.if_icmp .gt _, _, a, _) => (match st with | .int y :: .int x :: st => some (if y < x then a else pc + 3, L, st, M) | _ => none)
  | (.if_icmp .le _, _, a, _) => (match st with | .int y :: .int x :: st => some (if x ≤ y then a else pc + 3, L, st, M) | _ => none)
  | (.tableswitch d lo hi os, _) => (match st with | .int x :: st => if x.toInt < lo ∨ hi < x.toInt then some (((pc : Int) + d).toNat, L, st, M) else (match os[(x.toInt - lo).toNat]? with | some o => some (((pc : Int) + o).toNat, L, st, M) | none => none) | _ => none)
  | (.lookupswitch d ps, _) => (match st with | .int x :: st => some (((pc : Int) + Op.lookupswitch.offset ps.toList d x.toInt).toNat, L, st, M) | _ => none)
  | (.getfield _, _, a, b, _) => (match st with | o :: st => (match mm_fld X M o a b with | some v => some (pc + 3, L, v :: st, M) | none => none) | _ => none)
  | (.putfield _, _, a, b, _) => (match st with | v :: o :: st => (match mm_put fty M o v a b with | some M1 => some (pc + 3, L, st, M1) | none => none) | _ => none)
  | (.iaload, _) => (match st with | .int j :: o :: st => (match mm_row X M o with | some xs => (match mm_at xs j with | some x => some (pc + 1, L, .int x :: st, M) | none => none) | none => none) | _ => none)
  | (.baload, _) => (match st with | .int j :: .retAddr n :: st => if n < 50 then none else (match X n with | some (.inl xs) => (match mm_at xs j with | some x => some (pc + 1, L, .int x :: st, M) | none => none) | _ => none) | _ => none)
  | (.iastore, _) => (match st with | .int x :: .int j :: o :: st => (match mm_sti M o j x with | some M1 => some (pc + 1, L, st, M1) | none => none) | _ => none)
  | (.aaload, _) => (match st with | .int j :: .ref a :: st => (match M[a]? with | some (.inr (.inl (t, rs))) => if t = 1 ∨ t = 2 then (match mm_atq rs j with | some r => some (pc + 1, L, mm_rf r :: st, M) | none => none) else none | _ => none) | _ => none)
  | (.arraylength, _) => (match st with | .retAddr n :: st => (match X n with | some (.inl xs) => some (pc + 1, L, .int (Int32.ofNat xs.length) :: st, M) | _ => none) | _ => none)
  | _ => none
