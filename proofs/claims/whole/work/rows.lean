section
/-! A small machine over flat memory: cells are rows of ints, rows of references, or objects; a reference is a cell's number; what lies outside (the script, static rows, String constants) is a number too, written .retAddr n. -/
abbrev mm_C : Type := List Int32 ⊕ ((Nat × List (Option Nat)) ⊕ (Nat × List Value))
abbrev mm_M : Type := List mm_C
/-- instruction, its length, three payloads: two numbers and a value; the places of its words -/
abbrev mm_I : Type := Instr × Nat × Nat × Nat × Value × List Nat
abbrev mm_L : Type := List (Option Value)
abbrev mm_S : Type := Nat × mm_L × List Value × mm_M
/-- outside: rows of ints or bytes, and objects' fields -/
abbrev mm_X : Type := Nat → Option (List Int32 ⊕ List Value)
def mm_size (c : mm_C) : Nat := match c with
  | .inl xs => xs.length
  | .inr (.inl (_, rs)) => rs.length
  | .inr (.inr (_, fs)) => fs.length
def mm_sl (M : mm_M) : Nat := (M.map mm_size).sum
def mm_isL (o : Option (Option Value)) : Bool := match o with
  | some (some (.long _)) => true
  | some (some (.double _)) => true
  | _ => false
def mm_clr (L : mm_L) (i : Nat) : mm_L := match i with
  | 0 => L
  | j + 1 => if mm_isL L[j]? then L.set j none else L
def mm_sto1 (L : mm_L) (i : Nat) (v : Value) : mm_L := (mm_clr L i).set i (some v)
def mm_sto2 (L : mm_L) (i : Nat) (v : Value) : mm_L := ((mm_clr L i).set i (some v)).set (i + 1) none
def mm_at (xs : List Int32) (i : Int32) : Option Int32 := if i < 0 then none else xs[i.toNatClampNeg]?
def mm_atq (rs : List (Option Nat)) (i : Int32) : Option (Option Nat) := if i < 0 then none else rs[i.toNatClampNeg]?
def mm_row (X : mm_X) (M : mm_M) (v : Value) : Option (List Int32) := match v with
  | .ref k => (match M[k]? with | some (.inl xs) => some xs | _ => none)
  | .retAddr n => if n < 50 then (match X n with | some (.inl xs) => some xs | _ => none) else none
  | _ => none
def mm_fld (X : mm_X) (M : mm_M) (v : Value) (ci k : Nat) : Option Value := match v with
  | .ref a => (match M[a]? with | some (.inr (.inr (c, fs))) => if c = ci then fs[k]? else none | _ => none)
  | .retAddr n => (match X n with | some (.inr fs) => if ci = 99 then fs[k]? else none | _ => none)
  | _ => none
/-- a value that a field of this type takes as it is -/
def mm_okf (ty : FieldType) (v : Value) : Bool := match ty, v with
  | .int, .int _ => true
  | .boolean, .int x => x == 0 || x == 1
  | .object _, .ref _ => true
  | .object _, .retAddr _ => true
  | .array _, .ref _ => true
  | _, _ => false
def mm_put (fty : Nat → Nat → FieldType) (M : mm_M) (o : Value) (v : Value) (ci k : Nat) : Option mm_M := match o with
  | .ref a => (match M[a]? with | some (.inr (.inr (c, fs))) => if c = ci ∧ k < fs.length ∧ mm_okf (fty ci k) v = true then some (M.set a (.inr (.inr (c, fs.set k v)))) else none | _ => none)
  | _ => none
def mm_sti (M : mm_M) (o : Value) (i x : Int32) : Option mm_M := match o with
  | .ref a => (match M[a]? with | some (.inl xs) => if i < 0 then none else if i.toNatClampNeg < xs.length then some (M.set a (.inl (xs.set i.toNatClampNeg x))) else none | _ => none)
  | _ => none
def mm_rf (r : Option Nat) : Value := match r with
  | some k => .ref k
  | none => .null
/-- one instruction that is neither a call nor a return nor a making -/
def mm_step (fty : Nat → Nat → FieldType) (X : mm_X) (i : mm_I) (pc : Nat) (L : mm_L) (st : List Value) (M : mm_M) : Option mm_S :=
  match i with
  | (.iconst n, _) => some (pc + 1, L, .int (Int32.ofInt n) :: st, M)
  | (.bipush n, _) => some (pc + 2, L, .int (Int8.ofInt n).toInt32 :: st, M)
  | (.sipush n, _) => some (pc + 3, L, .int (Int16.ofInt n).toInt32 :: st, M)
  | (.lconst n, _) => some (pc + 1, L, .long (Int64.ofNat n) :: st, M)
  | (.ldc _, _, _, _, v, _) => some (pc + 2, L, v :: st, M)
  | (.ldc_w _, _, _, _, v, _) => some (pc + 3, L, v :: st, M)
  | (.ldc2_w _, _, _, _, v, _) => some (pc + 3, L, v :: st, M)
  | (.getstatic _, _, _, _, v, _) => some (pc + 3, L, v :: st, M)
  | (.iload k, _) => (match L[k]? with | some (some (.int x)) => some (pc + 2, L, .int x :: st, M) | _ => none)
  | (.iload_n k, _) => (match L[(k : Nat)]? with | some (some (.int x)) => some (pc + 1, L, .int x :: st, M) | _ => none)
  | (.lload k, _) => (match L[k]? with | some (some (.long x)) => some (pc + 2, L, .long x :: st, M) | _ => none)
  | (.lload_n k, _) => (match L[(k : Nat)]? with | some (some (.long x)) => some (pc + 1, L, .long x :: st, M) | _ => none)
  | (.aload k, _) => (match L[k]? with | some (some (.ref x)) => some (pc + 2, L, .ref x :: st, M) | some (some (.retAddr x)) => some (pc + 2, L, .retAddr x :: st, M) | _ => none)
  | (.aload_n k, _) => (match L[(k : Nat)]? with | some (some (.ref x)) => some (pc + 1, L, .ref x :: st, M) | some (some (.retAddr x)) => some (pc + 1, L, .retAddr x :: st, M) | _ => none)
  | (.istore k, _) => (match st with | .int x :: st => if k < L.length then some (pc + 2, mm_sto1 L k (.int x), st, M) else none | _ => none)
  | (.istore_n k, _) => (match st with | .int x :: st => if (k : Nat) < L.length then some (pc + 1, mm_sto1 L k (.int x), st, M) else none | _ => none)
  | (.lstore k, _) => (match st with | .long x :: st => if k + 1 < L.length then some (pc + 2, mm_sto2 L k (.long x), st, M) else none | _ => none)
  | (.lstore_n k, _) => (match st with | .long x :: st => if (k : Nat) + 1 < L.length then some (pc + 1, mm_sto2 L k (.long x), st, M) else none | _ => none)
  | (.astore k, _) => (match st with | .ref x :: st => if k < L.length then some (pc + 2, mm_sto1 L k (.ref x), st, M) else none | .retAddr x :: st => if k < L.length then some (pc + 2, mm_sto1 L k (.retAddr x), st, M) else none | _ => none)
  | (.astore_n k, _) => (match st with | .ref x :: st => if (k : Nat) < L.length then some (pc + 1, mm_sto1 L k (.ref x), st, M) else none | .retAddr x :: st => if (k : Nat) < L.length then some (pc + 1, mm_sto1 L k (.retAddr x), st, M) else none | _ => none)
  | (.iinc k n, _) => (match L[k]? with | some (some (.int x)) => if k < L.length then some (pc + 3, mm_sto1 L k (.int (x + Int32.ofInt n)), st, M) else none | _ => none)
  | (.iadd, _) => (match st with | .int y :: .int x :: st => some (pc + 1, L, .int (x + y) :: st, M) | _ => none)
  | (.isub, _) => (match st with | .int y :: .int x :: st => some (pc + 1, L, .int (x - y) :: st, M) | _ => none)
  | (.imul, _) => (match st with | .int y :: .int x :: st => some (pc + 1, L, .int (x * y) :: st, M) | _ => none)
  | (.iand, _) => (match st with | .int y :: .int x :: st => some (pc + 1, L, .int (x &&& y) :: st, M) | _ => none)
  | (.ior, _) => (match st with | .int y :: .int x :: st => some (pc + 1, L, .int (x ||| y) :: st, M) | _ => none)
  | (.ixor, _) => (match st with | .int y :: .int x :: st => some (pc + 1, L, .int (x ^^^ y) :: st, M) | _ => none)
  | (.ishl, _) => (match st with | .int y :: .int x :: st => some (pc + 1, L, .int (x <<< (y &&& 31)) :: st, M) | _ => none)
  | (.ishr, _) => (match st with | .int y :: .int x :: st => some (pc + 1, L, .int (x >>> (y &&& 31)) :: st, M) | _ => none)
  | (.idiv, _) => (match st with | .int y :: .int x :: st => if y = 0 then none else some (pc + 1, L, .int (x / y) :: st, M) | _ => none)
  | (.irem, _) => (match st with | .int y :: .int x :: st => if y = 0 then none else some (pc + 1, L, .int (x - x / y * y) :: st, M) | _ => none)
  | (.ineg, _) => (match st with | .int x :: st => some (pc + 1, L, .int (-x) :: st, M) | _ => none)
  | (.iushr, _) => (match st with | .int y :: .int x :: st => some (pc + 1, L, .int (x.toUInt32 >>> (y.toUInt32 &&& Int32.toUInt32 31)).toInt32 :: st, M) | _ => none)
  | (.i2b, _) => (match st with | .int x :: st => some (pc + 1, L, .int x.toInt8.toInt32 :: st, M) | _ => none)
  | (.i2l, _) => (match st with | .int x :: st => some (pc + 1, L, .long x.toInt64 :: st, M) | _ => none)
  | (.i2c, _) => (match st with | .int x :: st => some (pc + 1, L, .int (x.toUInt32 % 65536).toInt32 :: st, M) | _ => none)
  | (.ladd, _) => (match st with | .long y :: .long x :: st => some (pc + 1, L, .long (x + y) :: st, M) | _ => none)
  | (.lsub, _) => (match st with | .long y :: .long x :: st => some (pc + 1, L, .long (x - y) :: st, M) | _ => none)
  | (.lmul, _) => (match st with | .long y :: .long x :: st => some (pc + 1, L, .long (x * y) :: st, M) | _ => none)
  | (.ldiv, _) => (match st with | .long y :: .long x :: st => if y = 0 then none else some (pc + 1, L, .long (x / y) :: st, M) | _ => none)
  | (.lrem, _) => (match st with | .long y :: .long x :: st => if y = 0 then none else some (pc + 1, L, .long (x - x / y * y) :: st, M) | _ => none)
  | (.lcmp, _) => (match st with | .long y :: .long x :: st => some (pc + 1, L, .int (lg_cmp x y) :: st, M) | _ => none)
  | (.dup, _) => (match st with | .int x :: st => some (pc + 1, L, .int x :: .int x :: st, M) | .ref x :: st => some (pc + 1, L, .ref x :: .ref x :: st, M) | _ => none)
  | (.dup2, _) => (match st with | .int y :: .ref x :: st => some (pc + 1, L, .int y :: .ref x :: .int y :: .ref x :: st, M) | _ => none)
  | (.pop, _) => (match st with | .int x :: st => some (pc + 1, L, st, M) | _ => none)
  | (.goto _, _, a, _) => some (a, L, st, M)
  | (.ifCond .eq _, _, a, _) => (match st with | .int x :: st => some (if x = 0 then a else pc + 3, L, st, M) | _ => none)
  | (.ifCond .ne _, _, a, _) => (match st with | .int x :: st => some (if ¬ x = 0 then a else pc + 3, L, st, M) | _ => none)
  | (.ifCond .lt _, _, a, _) => (match st with | .int x :: st => some (if x < 0 then a else pc + 3, L, st, M) | _ => none)
  | (.ifCond .ge _, _, a, _) => (match st with | .int x :: st => some (if 0 ≤ x then a else pc + 3, L, st, M) | _ => none)
  | (.ifCond .gt _, _, a, _) => (match st with | .int x :: st => some (if 0 < x then a else pc + 3, L, st, M) | _ => none)
  | (.ifCond .le _, _, a, _) => (match st with | .int x :: st => some (if x ≤ 0 then a else pc + 3, L, st, M) | _ => none)
  | (.if_icmp .eq _, _, a, _) => (match st with | .int y :: .int x :: st => some (if x = y then a else pc + 3, L, st, M) | _ => none)
  | (.if_icmp .ne _, _, a, _) => (match st with | .int y :: .int x :: st => some (if ¬ x = y then a else pc + 3, L, st, M) | _ => none)
  | (.if_icmp .lt _, _, a, _) => (match st with | .int y :: .int x :: st => some (if x < y then a else pc + 3, L, st, M) | _ => none)
  | (.if_icmp .ge _, _, a, _) => (match st with | .int y :: .int x :: st => some (if y ≤ x then a else pc + 3, L, st, M) | _ => none)
  | (.if_icmp .gt _, _, a, _) => (match st with | .int y :: .int x :: st => some (if y < x then a else pc + 3, L, st, M) | _ => none)
  | (.if_icmp .le _, _, a, _) => (match st with | .int y :: .int x :: st => some (if x ≤ y then a else pc + 3, L, st, M) | _ => none)
  | (.tableswitch d lo hi os, _) => (match st with | .int x :: st => if x.toInt < lo ∨ hi < x.toInt then some (((pc : Int) + d).toNat, L, st, M) else (match os[(x.toInt - lo).toNat]? with | some o => some (((pc : Int) + o).toNat, L, st, M) | none => none) | _ => none)
  | (.lookupswitch d ps, _) => (match st with | .int x :: st => some (((pc : Int) + Op.lookupswitch.offset ps.toList d x.toInt).toNat, L, st, M) | _ => none)
  | (.getfield _, _, a, b, _) => (match st with | o :: st => (match mm_fld X M o a b with | some v => some (pc + 3, L, v :: st, M) | none => none) | _ => none)
  | (.putfield _, _, a, b, _) => (match st with | v :: o :: st => (match mm_put fty M o v a b with | some M1 => some (pc + 3, L, st, M1) | none => none) | _ => none)
  | (.iaload, _) => (match st with | .int j :: o :: st => (match mm_row X M o with | some xs => (match mm_at xs j with | some x => some (pc + 1, L, .int x :: st, M) | none => none) | none => none) | _ => none)
  | (.baload, _) => (match st with | .int j :: .retAddr n :: st => if n < 50 then none else (match X n with | some (.inl xs) => (match mm_at xs j with | some x => some (pc + 1, L, .int x :: st, M) | none => none) | _ => none) | _ => none)
  | (.iastore, _) => (match st with | .int x :: .int j :: o :: st => (match mm_sti M o j x with | some M1 => some (pc + 1, L, st, M1) | none => none) | _ => none)
  | (.aaload, _) => (match st with | .int j :: .ref a :: st => (match M[a]? with | some (.inr (.inl (t, rs))) => if t = 1 ∨ t = 2 then (match mm_atq rs j with | some r => some (pc + 1, L, mm_rf r :: st, M) | none => none) else none | _ => none) | _ => none)
  | (.arraylength, _) => (match st with | .retAddr n :: st => (match X n with | some (.inl xs) => some (pc + 1, L, .int (Int32.ofNat xs.length) :: st, M) | _ => none) | _ => none)
  | _ => none
end
section
/-! the small machine's values and cells as the true machine's -/
section MM1
variable (base : Nat) (ext : Nat → Option Nat) (cA : Nat → ClassId)
def mm_en (v : Value) : Value := match v with
  | .ref k => .ref (base + k)
  | .retAddr n => va_rf (ext n)
  | v => v
def mm_ec (c : mm_C) : va_E := match c with
  | .inl xs => .inl (cA 0, xs.length, .inl (fun j => xs.getD j 0))
  | .inr (.inl (t, rs)) => .inl (cA t, rs.length, .inr (.inr (.inr (.inr (fun j => (rs.getD j none).map (fun k => base + k))))))
  | .inr (.inr (ci, fs)) => .inr (ci, fs.map (mm_en base ext))
def mm_ws (M : mm_M) : va_W := M.mapIdx (fun k c => (base + k, mm_ec base ext cA c))
def mm_asc : mm_L → Nat → List (Nat × Value)
  | [], _ => []
  | none :: L, i => mm_asc L (i + 1)
  | some v :: L, i => (i, mm_en base ext v) :: mm_asc L (i + 1)
def mm_LH (ls : Array Slot) (L : mm_L) : Prop := lv_has ls L.length (mm_asc base ext L 0)
def mm_A (base : Nat) : Nat → Prop := fun q => base ≤ q
def mm_Wd (D : va_G) (cl : List vw_C) (M : mm_M) (H : Heap) : Prop := va_P D cl (mm_ws base ext cA M) H
def mm_xt (n : Nat) : FieldType := if n < 50 then .int else .byte
theorem mm_en_cat (v : Value) : (mm_en base ext v).category = v.category := by
  cases v <;> simp [mm_en, Value.category]
  rename_i n
  cases h : ext n <;> simp [va_rf]
theorem mm_ws_get (M : mm_M) (k : Nat) : (mm_ws base ext cA M)[k]? = (M[k]?).map (fun c => (base + k, mm_ec base ext cA c)) := by
  simp [mm_ws]
theorem mm_ws_at {M : mm_M} {k : Nat} {c : mm_C} (h : M[k]? = some c) : (mm_ws base ext cA M)[k]? = some (base + k, mm_ec base ext cA c) := by
  rw [mm_ws_get, h]; rfl
theorem mm_ws_set (M : mm_M) (k : Nat) (c : mm_C) : mm_ws base ext cA (M.set k c) = (mm_ws base ext cA M).set k (base + k, mm_ec base ext cA c) := by
  simp [mm_ws, List.mapIdx_set]
theorem mm_ws_app (M : mm_M) (c : mm_C) : mm_ws base ext cA (M ++ [c]) = mm_ws base ext cA M ++ [(base + M.length, mm_ec base ext cA c)] := by
  simp [mm_ws, List.mapIdx_append]
theorem mm_D (M : mm_M) : va_D (mm_A base) (mm_ws base ext cA M) := by
  refine ⟨fun i j p q hi hj hpq => ?_, fun k q hk => ?_⟩
  · rw [mm_ws_get] at hi hj
    cases h1 : M[i]? with
    | none => rw [h1] at hi; cases hi
    | some a =>
      cases h2 : M[j]? with
      | none => rw [h2] at hj; cases hj
      | some b =>
        rw [h1] at hi; rw [h2] at hj
        cases hi; cases hj
        have : base + i = base + j := hpq
        omega
  · rw [mm_ws_get] at hk
    cases h1 : M[k]? with
    | none => rw [h1] at hk; cases hk
    | some a =>
      rw [h1] at hk
      cases hk
      exact Nat.le_add_right _ _
theorem mm_asc_mem (L : mm_L) : ∀ (i j : Nat) (w : Value), (j, w) ∈ mm_asc base ext L i ↔ ∃ v, i ≤ j ∧ L[j - i]? = some (some v) ∧ w = mm_en base ext v := by
  induction L with
  | nil => intro i j w; simp [mm_asc]
  | cons o L ih =>
    intro i j w
    cases o with
    | none =>
      simp only [mm_asc, ih]
      constructor
      · rintro ⟨v, h1, h2, h3⟩
        refine ⟨v, by omega, ?_, h3⟩
        rw [show j - i = (j - (i + 1)) + 1 by omega, List.getElem?_cons_succ]
        exact h2
      · rintro ⟨v, h1, h2, h3⟩
        have hj : j ≠ i := by
          rintro rfl
          rw [Nat.sub_self] at h2
          simp at h2
        refine ⟨v, by omega, ?_, h3⟩
        rw [show j - i = (j - (i + 1)) + 1 by omega, List.getElem?_cons_succ] at h2
        exact h2
    | some u =>
      simp only [mm_asc, List.mem_cons, Prod.mk.injEq, ih]
      constructor
      · rintro (⟨rfl, rfl⟩ | ⟨v, h1, h2, h3⟩)
        · exact ⟨u, Nat.le_refl _, by simp, rfl⟩
        · refine ⟨v, by omega, ?_, h3⟩
          rw [show j - i = (j - (i + 1)) + 1 by omega, List.getElem?_cons_succ]
          exact h2
      · rintro ⟨v, h1, h2, h3⟩
        by_cases hj : j = i
        · subst hj
          rw [Nat.sub_self] at h2
          simp at h2
          subst h2
          exact Or.inl ⟨rfl, h3⟩
        · right
          refine ⟨v, by omega, ?_, h3⟩
          rw [show j - i = (j - (i + 1)) + 1 by omega, List.getElem?_cons_succ] at h2
          exact h2
theorem mm_LH_at {ls : Array Slot} {L : mm_L} (h : mm_LH base ext ls L) {i : Nat} {v : Value} (hi : L[i]? = some (some v)) : ls[i]? = some (.val (mm_en base ext v)) :=
  h.2.2 (i, mm_en base ext v) ((mm_asc_mem base ext L 0 i _).mpr ⟨v, Nat.zero_le _, by simpa using hi, rfl⟩)
theorem mm_clr_len (L : mm_L) (i : Nat) : (mm_clr L i).length = L.length := by
  cases i with
  | zero => rfl
  | succ j => simp only [mm_clr]; split <;> simp
theorem mm_clr_at {L : mm_L} {i j : Nat} {u : Value} (hj : j ≠ i) (h : (mm_clr L i)[j]? = some (some u)) : L[j]? = some (some u) ∧ ¬ (j + 1 = i ∧ u.category = 2) := by
  cases i with
  | zero => exact ⟨h, by omega⟩
  | succ k =>
    simp only [mm_clr] at h
    split at h
    · by_cases hk : k = j
      · subst hk
        by_cases hl : k < L.length
        · rw [List.getElem?_set_self hl] at h; cases h
        · rw [List.getElem?_eq_none (by simp; omega)] at h; cases h
      · rw [List.getElem?_set_ne hk] at h
        exact ⟨h, by omega⟩
    · rename_i hn
      refine ⟨h, ?_⟩
      rintro ⟨h1, h2⟩
      have : j = k := by omega
      subst this
      rw [h] at hn
      cases u <;> simp [Value.category] at h2 <;> exact hn rfl
theorem mm_LH_mono {ls : Array Slot} {n : Nat} {l : List (Nat × Value)} {L : mm_L} (h : lv_has ls n l) (hn : L.length = n) (hm : ∀ (j : Nat) (u : Value), L[j]? = some (some u) → (j, mm_en base ext u) ∈ l) : mm_LH base ext ls L := by
  refine ⟨by rw [hn]; exact h.1, h.2.1, fun q hq => ?_⟩
  obtain ⟨j, w⟩ := q
  obtain ⟨v, -, h2, rfl⟩ := (mm_asc_mem base ext L 0 j w).mp hq
  exact h.2.2 _ (hm j v (by simpa using h2))
theorem mm_LH_sto1 {ls : Array Slot} {L : mm_L} {i : Nat} {v : Value} (hi : i < L.length)
    (h : lv_has ls L.length ((i, mm_en base ext v) :: (mm_asc base ext L 0).filter (fun q => !(q.1 == i) && !(q.1 + 1 == i && q.2.category == 2)))) : mm_LH base ext ls (mm_sto1 L i v) := by
  refine mm_LH_mono base ext h (by simp [mm_sto1, mm_clr_len]) (fun j u hj => ?_)
  by_cases hji : i = j
  · subst hji
    rw [mm_sto1, List.getElem?_set_self (by rw [mm_clr_len]; exact hi)] at hj
    cases hj
    exact List.mem_cons_self
  · rw [mm_sto1, List.getElem?_set_ne hji] at hj
    obtain ⟨h1, h2⟩ := mm_clr_at (Ne.symm hji) hj
    refine List.mem_cons_of_mem _ (List.mem_filter.mpr ⟨(mm_asc_mem base ext L 0 j _).mpr ⟨u, Nat.zero_le _, by simpa using h1, rfl⟩, ?_⟩)
    have h3 : ¬ (j + 1 = i ∧ (mm_en base ext u).category = 2) := by rw [mm_en_cat]; exact h2
    have h4 : ¬ j = i := fun e => hji e.symm
    by_cases h5 : j + 1 = i <;> by_cases h6 : (mm_en base ext u).category = 2 <;> simp_all
theorem mm_LH_sto2 {ls : Array Slot} {L : mm_L} {i : Nat} {v : Value} (hi : i + 1 < L.length)
    (h : lv_has ls L.length ((i, mm_en base ext v) :: (mm_asc base ext L 0).filter (fun q => !(q.1 == i) && (!(q.1 == i + 1) && !(q.1 + 1 == i && q.2.category == 2))))) : mm_LH base ext ls (mm_sto2 L i v) := by
  refine mm_LH_mono base ext h (by simp [mm_sto2, mm_clr_len]) (fun j u hj => ?_)
  by_cases hj1 : i + 1 = j
  · subst hj1
    rw [mm_sto2, List.getElem?_set_self (by simp [mm_clr_len]; exact hi)] at hj
    cases hj
  · rw [mm_sto2, List.getElem?_set_ne hj1] at hj
    by_cases hji : i = j
    · subst hji
      rw [List.getElem?_set_self (by rw [mm_clr_len]; omega)] at hj
      cases hj
      exact List.mem_cons_self
    · rw [List.getElem?_set_ne hji] at hj
      obtain ⟨h1, h2⟩ := mm_clr_at (Ne.symm hji) hj
      refine List.mem_cons_of_mem _ (List.mem_filter.mpr ⟨(mm_asc_mem base ext L 0 j _).mpr ⟨u, Nat.zero_le _, by simpa using h1, rfl⟩, ?_⟩)
      have h3 : ¬ (j + 1 = i ∧ (mm_en base ext u).category = 2) := by rw [mm_en_cat]; exact h2
      have h4 : ¬ j = i := fun e => hji e.symm
      have h7 : ¬ j = i + 1 := fun e => hj1 e.symm
      by_cases h5 : j + 1 = i <;> by_cases h6 : (mm_en base ext u).category = 2 <;> simp_all
end MM1
end
section
section MM2
variable (base : Nat) (ext : Nat → Option Nat) (cA : Nat → ClassId) (D : va_G) (cl : List vw_C) (tb : List Cond) (X : mm_X) (sf : Nat → String × String) (sts : List (String × String × String × Value)) (sks : List (String × Nat × String × Nat)) (nws : List Cond) (lay : String) (fty : Nat → Nat → FieldType)
/-- what a state must hold beside the memory: the tables, and what lies outside -/
def mm_Ks (U : State) : Prop :=
  va_K D cl [(cA 0, .int), (cA 1, .object lay), (cA 2, .array .int)] U ∧
  (∀ (n : Nat) (xs : List Int32), X n = some (.inl xs) → ∃ t : Nat, ext n = some t ∧ va_T (mm_xt n) t xs.length (fun j => .int (xs.getD j 0)) (mm_A base) U U.heap) ∧
  (∀ (n : Nat) (fs : List Value), X n = some (.inr fs) → ∃ t : Nat, ext n = some t ∧ va_O "java/lang/String" t (mm_A base) U U.heap ∧ ∀ (k : Nat) (v : Value), fs[k]? = some v → va_OF "java/lang/String" (sf k).1 (sf k).2 (mm_en base ext v) t (mm_A base) U U.heap) ∧
  (∀ w ∈ sts, va_Z w.1 w.2.1 w.2.2.1 (mm_en base ext w.2.2.2) (mm_A base) U U.heap) ∧
  (∀ w ∈ sks, ∃ t : Nat, ext w.2.2.2 = some t ∧ vk_R w.1 w.2.1 w.2.2.1 t U) ∧
  (∀ (own : String) (i : Nat) (C f d host : String), Cond.fieldLinkNest own i C f d host ∈ nws → va_Nw (.fieldLinkNest own i C f d host) U) ∧
  (∀ (own : String) (i : Nat) (y : MethodName) (host : String), Cond.methodLinkNest own i y host ∈ nws → va_Nw (.methodLinkNest own i y host) U) ∧
  va_AO lay U ∧ (Cond.arrayOver (.array .int)).before #[] U = true
def mm_len (i : Instr) : Nat := match i with
  | .iconst _ | .lconst _ | .iload_n _ | .lload_n _ | .aload_n _ | .istore_n _ | .lstore_n _ | .astore_n _ => 1
  | .iadd | .isub | .imul | .iand | .ior | .ixor | .ishl | .ishr | .iushr | .idiv | .irem | .ineg | .i2l | .i2c | .i2b | .ladd | .lsub | .lmul | .ldiv | .lrem | .lcmp | .dup | .dup2 | .pop => 1
  | .iaload | .baload | .aaload | .iastore | .aastore | .arraylength | .ireturn | .lreturn | .areturn | .return_ => 1
  | .bipush _ | .ldc _ | .iload _ | .lload _ | .aload _ | .istore _ | .lstore _ | .astore _ | .newarray _ => 2
  | .multianewarray _ _ => 4
  | _ => 3
/-- that an entry of a method's table is what its bytes say, and what it needs of the words -/
def mm_okI (own nm : String) (cc : ByteArray) (pc : Nat) (i : mm_I) : Prop :=
  decode cc pc = .ok (i.1, i.2.1) ∧ match i with
  | (.ldc idx, n, _, _, v, _) => n = 2 ∧ ((∃ x : Int32, v = .int x ∧ Cond.constant own idx x ∈ tb) ∨ (∃ (tx : String) (k : Nat), v = .retAddr k ∧ (own, idx, tx, k) ∈ sks))
  | (.ldc_w idx, n, _, _, v, _) => n = 3 ∧ ∃ x : Int32, v = .int x ∧ Cond.constant own idx x ∈ tb
  | (.ldc2_w idx, n, _, _, v, _) => n = 3 ∧ ∃ x : Int64, v = .long x ∧ Cond.constantLong own idx x ∈ tb
  | (.getstatic idx, n, _, _, v, _) => n = 3 ∧ ∃ C f d : String, (C, f, d, v) ∈ sts ∧ (Cond.fieldLink own idx C f d ∈ tb ∨ ∃ host : String, Cond.fieldLinkNest own idx C f d host ∈ nws)
  | (.goto off, n, a, _) => n = 3 ∧ (pc : Int) + off = (a : Int)
  | (.ifCond _ off, n, a, _) => n = 3 ∧ (pc : Int) + off = (a : Int)
  | (.if_icmp _ off, n, a, _) => n = 3 ∧ (pc : Int) + off = (a : Int)
  | (.tableswitch d _ _ os, _) => 0 ≤ (pc : Int) + d ∧ ∀ o ∈ os.toList, 0 ≤ (pc : Int) + o
  | (.lookupswitch d ps, _) => (∀ x : Int, 0 ≤ (pc : Int) + Op.lookupswitch.offset ps.toList d x) ∧ (ps.toList.zip (ps.toList.drop 1)).all (fun (a, next) => a.1 < next.1) = true
  | (.getfield idx, n, a, b, _) => n = 3 ∧ ((a = 99 ∧ cl[a]? = none ∧ Cond.fieldLink own idx "java/lang/String" (sf b).1 (sf b).2 ∈ tb) ∨ ∃ q : vw_C, cl[a]? = some q ∧ ¬ a = 99 ∧ b < q.2.2 ∧ (Cond.fieldLink own idx (q.2.1 b).1 (q.2.1 b).2.1 (q.2.1 b).2.2.1 ∈ tb ∨ ∃ host : String, Cond.fieldLinkNest own idx (q.2.1 b).1 (q.2.1 b).2.1 (q.2.1 b).2.2.1 host ∈ nws))
  | (.putfield idx, n, a, b, _) => n = 3 ∧ ∃ q : vw_C, cl[a]? = some q ∧ b < q.2.2 ∧ (((q.2.1 b).2.2.2 = false ∧ (Cond.fieldLink own idx (q.2.1 b).1 (q.2.1 b).2.1 (q.2.1 b).2.2.1 ∈ tb ∨ ∃ host : String, Cond.fieldLinkNest own idx (q.2.1 b).1 (q.2.1 b).2.1 (q.2.1 b).2.2.1 host ∈ nws)) ∨ ((q.2.1 b).2.2.2 = true ∧ Cond.fieldLink own idx (q.2.1 b).1 (q.2.1 b).2.1 (q.2.1 b).2.2.1 ∈ tb ∧ nm = "<init>" ∧ (q.2.1 b).1 = own))
  | (ins, n, _) => n = mm_len ins
/-- the words of the kinds of objects -/
def mm_okC : Prop := ∀ (ci : Nat) (q : vw_C), cl[ci]? = some q → (∀ w ∈ u_ws q.1 q.2.1 q.2.2, w ∈ tb) ∧ (∀ k, k < q.2.2 → parseFieldDescriptor (q.2.1 k).2.2.1 = some (fty ci k)) ∧ (∀ a, a < q.2.2 → ∀ b, b < q.2.2 → a ≠ b → (q.2.1 a).2.1 ≠ (q.2.1 b).2.1)
theorem mm_okf_spec {ty : FieldType} {v : Value} (h : mm_okf ty v = true) : narrow ty (mm_en base ext v) = mm_en base ext v ∧ fits ty (mm_en base ext v) = true := by
  unfold mm_okf at h
  split at h
  · exact ⟨rfl, rfl⟩
  · rename_i x
    have hx : x = 0 ∨ x = 1 := by simpa using h
    rcases hx with rfl | rfl
    · show narrow .boolean (.int 0) = .int 0 ∧ fits .boolean (.int 0) = true
      decide +kernel
    · show narrow .boolean (.int 1) = .int 1 ∧ fits .boolean (.int 1) = true
      decide +kernel
  · exact ⟨rfl, rfl⟩
  · rename_i n
    show narrow _ (va_rf (ext n)) = va_rf (ext n) ∧ fits _ (va_rf (ext n)) = true
    cases ext n <;> exact ⟨rfl, rfl⟩
  · exact ⟨rfl, rfl⟩
  · cases h
theorem mm_at_spec {xs : List Int32} {i x : Int32} (h : mm_at xs i = some x) : vp_in i xs.length ∧ xs.getD i.toNatClampNeg 0 = x := by
  unfold mm_at at h
  split at h
  · cases h
  · rename_i hn
    obtain ⟨hl, he⟩ := List.getElem?_eq_some_iff.mp h
    refine ⟨fun q => ?_, ?_⟩
    · rcases q with q | q
      · exact hn q
      · omega
    · rw [List.getD_eq_getElem?_getD, h]; rfl
theorem mm_atq_spec {rs : List (Option Nat)} {i : Int32} {r : Option Nat} (h : mm_atq rs i = some r) : vp_in i rs.length ∧ rs.getD i.toNatClampNeg none = r := by
  unfold mm_atq at h
  split at h
  · cases h
  · rename_i hn
    obtain ⟨hl, he⟩ := List.getElem?_eq_some_iff.mp h
    refine ⟨fun q => ?_, ?_⟩
    · rcases q with q | q
      · exact hn q
      · omega
    · rw [List.getD_eq_getElem?_getD, h]; rfl
theorem mm_upd {xs : List Int32} {i : Nat} {x : Int32} (h : i < xs.length) : (fun j => (xs.set i x).getD j 0) = upd (fun j => xs.getD j 0) i x := by
  funext j
  show (xs.set i x).getD j 0 = if j = i then x else xs.getD j 0
  rw [List.getD_eq_getElem?_getD, List.getD_eq_getElem?_getD]
  by_cases hj : j = i
  · subst hj
    rw [List.getElem?_set_self h, if_pos rfl]; rfl
  · rw [List.getElem?_set_ne (Ne.symm hj), if_neg hj]
variable {p : Program} {l : Launch} {e : Env} {R : Room} {s : State} {m : MethodId} {args : Array Value} {below : List Frame} {meth : Method} {c : Code} {Q : State → Prop}
set_option maxHeartbeats 4000000 in
theorem mm_step_snd (hcl : mm_okC cl tb fty) {own nm : String} {cc : ByteArray} (hx : p.tables.exec = Jvm.exec) (hb : c.code = cc) (hown : s.vm.findClass own = some m.cls) (hts : ∀ w ∈ tb, w.before args s = true) (hname : meth.name = nm) (hKs : mm_Ks base ext cA D cl X sf sts sks nws lay s)
    {i : mm_I} {pc pc' : Nat} {L L' : mm_L} {st st' : List Value} {M M' : mm_M} (hi : mm_okI cl tb sf sts sks nws own nm cc pc i) (h : mm_step fty X i pc L st M = some (pc', L', st', M')) {H : Heap} {locs : List Loc} {cells slots : Nat} {ls : Array Slot} (hW : mm_Wd base ext cA D cl M H) (hS : va_S (mm_A base) s.heap H locs) (hL : mm_LH base ext ls L)
    (kk : ∀ (H' : Heap) (locs' : List Loc) (ls' : Array Slot), mm_Wd base ext cA D cl M' H' → va_S (mm_A base) s.heap H' locs' → mm_LH base ext ls' L' → W p l e R s m args below meth c H' locs' cells slots Q (F0 m pc' ls' (st'.map (mm_en base ext)))) :
    W p l e R s m args below meth c H locs cells slots Q (F0 m pc ls (st.map (mm_en base ext))) := by
  obtain ⟨ins, n, a, b, v, pl⟩ := i
  obtain ⟨hd, hi⟩ := hi
  cases ins with
  | iconst k =>
    simp only [mm_okI, mm_len] at hi
    subst hi
    simp only [mm_step] at h
    cases h
    exact lv_iconst hx hb hd rfl (kk _ _ _ hW hS hL)
  | bipush k =>
    simp only [mm_okI, mm_len] at hi
    subst hi
    simp only [mm_step] at h
    cases h
    exact lv_bipush hx hb hd rfl (kk _ _ _ hW hS hL)
  | sipush k =>
    simp only [mm_okI, mm_len] at hi
    subst hi
    simp only [mm_step] at h
    cases h
    exact lv_sipush hx hb hd rfl (kk _ _ _ hW hS hL)
  | lconst k =>
    simp only [mm_okI, mm_len] at hi
    subst hi
    simp only [mm_step] at h
    cases h
    exact lv_lconst hx hb hd rfl (kk _ _ _ hW hS hL)
  | ldc idx =>
    obtain ⟨rfl, hi⟩ := hi
    simp only [mm_step] at h
    cases h
    rcases hi with ⟨x, rfl, hw⟩ | ⟨tx, k, rfl, hw⟩
    · exact lv_ldc hx hb hown (hts _ hw) hd (kk _ _ _ hW hS hL)
    · obtain ⟨t, ht, hR⟩ := hKs.2.2.2.2.1 _ hw
      have hk := kk _ _ _ hW hS hL
      simp only [List.map_cons, mm_en, ht, va_rf] at hk
      exact va_ldcS hx hb hown hR hd hk
  | ldc_w idx =>
    obtain ⟨rfl, x, rfl, hw⟩ := hi
    simp only [mm_step] at h
    cases h
    exact lv_ldcw hx hb hown (hts _ hw) hd (kk _ _ _ hW hS hL)
  | ldc2_w idx =>
    obtain ⟨rfl, x, rfl, hw⟩ := hi
    simp only [mm_step] at h
    cases h
    exact lv_ldc2 hx hb hown (hts _ hw) hd (kk _ _ _ hW hS hL)
  | getstatic idx =>
    obtain ⟨rfl, C, f, d, hw, hl⟩ := hi
    simp only [mm_step] at h
    cases h
    rcases hl with hl | ⟨host, hl⟩
    · exact va_gets hx hb (hKs.2.2.2.1 _ hw) hS hown (hts _ hl) (fun _ q => q) hd (kk _ _ _ hW hS hL)
    · exact va_getsN hx hb (hKs.2.2.2.1 _ hw) hS hown (va_Nw.use rfl (hKs.2.2.2.2.2.1 _ _ _ _ _ _ hl)) (fun _ q => q) hd (kk _ _ _ hW hS hL)
  | iload k =>
    simp only [mm_okI, mm_len] at hi
    subst hi
    simp only [mm_step] at h
    split at h
    · rename_i x hk
      cases h
      exact lv_iload hx hb hd (mm_LH_at base ext hL hk) (kk _ _ _ hW hS hL)
    · cases h
  | iload_n k =>
    simp only [mm_okI, mm_len] at hi
    subst hi
    simp only [mm_step] at h
    split at h
    · rename_i x hk
      cases h
      exact lv_iload_n hx hb hd rfl (mm_LH_at base ext hL hk) (kk _ _ _ hW hS hL)
    · cases h
  | lload k =>
    simp only [mm_okI, mm_len] at hi
    subst hi
    simp only [mm_step] at h
    split at h
    · rename_i x hk
      cases h
      exact lv_lload hx hb hd (mm_LH_at base ext hL hk) (kk _ _ _ hW hS hL)
    · cases h
  | lload_n k =>
    simp only [mm_okI, mm_len] at hi
    subst hi
    simp only [mm_step] at h
    split at h
    · rename_i x hk
      cases h
      exact lv_lload_n hx hb hd rfl (mm_LH_at base ext hL hk) (kk _ _ _ hW hS hL)
    · cases h
  | aload k =>
    simp only [mm_okI, mm_len] at hi
    subst hi
    simp only [mm_step] at h
    split at h
    · rename_i x hk
      cases h
      exact lv_aload hx hb hd (mm_LH_at base ext hL hk) (kk _ _ _ hW hS hL)
    · rename_i x hk
      cases h
      have hk2 := mm_LH_at base ext hL hk
      have hkk := kk _ _ _ hW hS hL
      simp only [List.map_cons, mm_en] at hkk hk2
      cases hx9 : ext x with
      | none => rw [hx9] at hkk hk2; exact lv_aloadN hx hb hd hk2 hkk
      | some t => rw [hx9] at hkk hk2; exact lv_aload hx hb hd hk2 hkk
    · cases h
  | aload_n k =>
    simp only [mm_okI, mm_len] at hi
    subst hi
    simp only [mm_step] at h
    split at h
    · rename_i x hk
      cases h
      exact lv_aload_n hx hb hd rfl (mm_LH_at base ext hL hk) (kk _ _ _ hW hS hL)
    · rename_i x hk
      cases h
      have hk2 := mm_LH_at base ext hL hk
      have hkk := kk _ _ _ hW hS hL
      simp only [List.map_cons, mm_en] at hkk hk2
      cases hx9 : ext x with
      | none => rw [hx9] at hkk hk2; exact lv_aload_nN hx hb hd rfl hk2 hkk
      | some t => rw [hx9] at hkk hk2; exact lv_aload_n hx hb hd rfl hk2 hkk
    · cases h
  | istore k =>
    simp only [mm_okI, mm_len] at hi
    subst hi
    simp only [mm_step] at h
    split at h
    · split at h
      · rename_i hk
        cases h
        exact lv_istore hx hb hd hL hk rfl (fun ls' hl' => kk _ _ _ hW hS (mm_LH_sto1 base ext hk hl'))
      · cases h
    · cases h
  | istore_n k =>
    simp only [mm_okI, mm_len] at hi
    subst hi
    simp only [mm_step] at h
    split at h
    · split at h
      · rename_i hk
        cases h
        exact lv_istore_n hx hb hd rfl hL hk rfl (fun ls' hl' => kk _ _ _ hW hS (mm_LH_sto1 base ext hk hl'))
      · cases h
    · cases h
  | lstore k =>
    simp only [mm_okI, mm_len] at hi
    subst hi
    simp only [mm_step] at h
    split at h
    · split at h
      · rename_i hk
        cases h
        exact lv_lstore hx hb hd hL hk rfl (fun ls' hl' => kk _ _ _ hW hS (mm_LH_sto2 base ext hk hl'))
      · cases h
    · cases h
  | lstore_n k =>
    simp only [mm_okI, mm_len] at hi
    subst hi
    simp only [mm_step] at h
    split at h
    · split at h
      · rename_i hk
        cases h
        exact lv_lstore_n hx hb hd rfl hL hk rfl (fun ls' hl' => kk _ _ _ hW hS (mm_LH_sto2 base ext hk hl'))
      · cases h
    · cases h
  | astore k =>
    simp only [mm_okI, mm_len] at hi
    subst hi
    simp only [mm_step] at h
    split at h
    · split at h
      · rename_i hk
        cases h
        exact lv_astore hx hb hd hL hk rfl (fun ls' hl' => kk _ _ _ hW hS (mm_LH_sto1 base ext hk hl'))
      · cases h
    · split at h
      · rename_i x st0 hk
        cases h
        have kk2 : ∀ ls', lv_has ls' L.length ((_, mm_en base ext (.retAddr x)) :: (mm_asc base ext L 0).filter (fun q => !(q.1 == _) && !(q.1 + 1 == _ && q.2.category == 2))) → _ := fun ls' hl' => kk _ _ ls' hW hS (mm_LH_sto1 base ext hk hl')
        simp only [List.map_cons, mm_en] at kk2 ⊢
        cases hx9 : ext x with
        | none => rw [hx9] at kk2; exact lv_astoreN hx hb hd hL hk rfl kk2
        | some t => rw [hx9] at kk2; exact lv_astore hx hb hd hL hk rfl kk2
      · cases h
    · cases h
  | astore_n k =>
    simp only [mm_okI, mm_len] at hi
    subst hi
    simp only [mm_step] at h
    split at h
    · split at h
      · rename_i hk
        cases h
        exact lv_astore_n hx hb hd rfl hL hk rfl (fun ls' hl' => kk _ _ _ hW hS (mm_LH_sto1 base ext hk hl'))
      · cases h
    · split at h
      · rename_i x st0 hk
        cases h
        have kk2 : ∀ ls', lv_has ls' L.length ((_, mm_en base ext (.retAddr x)) :: (mm_asc base ext L 0).filter (fun q => !(q.1 == _) && !(q.1 + 1 == _ && q.2.category == 2))) → _ := fun ls' hl' => kk _ _ ls' hW hS (mm_LH_sto1 base ext hk hl')
        simp only [List.map_cons, mm_en] at kk2 ⊢
        cases hx9 : ext x with
        | none => rw [hx9] at kk2; exact lv_astore_nN hx hb hd rfl hL hk rfl kk2
        | some t => rw [hx9] at kk2; exact lv_astore_n hx hb hd rfl hL hk rfl kk2
      · cases h
    · cases h
  | iinc k n9 =>
    simp only [mm_okI, mm_len] at hi
    subst hi
    simp only [mm_step] at h
    split at h
    · rename_i x hk
      split at h
      · rename_i hk2
        cases h
        obtain ⟨j, hj⟩ := List.getElem?_of_mem ((mm_asc_mem base ext L 0 k (.int x)).mpr ⟨.int x, Nat.zero_le _, by simpa using hk, rfl⟩)
        exact lv_iinc hx hb hd hL hj rfl hk2 rfl (fun ls' hl' => kk _ _ _ hW hS (mm_LH_sto1 base ext (v := .int (x + Int32.ofInt n9)) hk2 hl'))
      · cases h
    · cases h
  | iadd =>
    simp only [mm_okI, mm_len] at hi
    subst hi
    simp only [mm_step] at h
    split at h
    · cases h
      exact lv_iadd hx hb hd (kk _ _ _ hW hS hL)
    · cases h
  | isub =>
    simp only [mm_okI, mm_len] at hi
    subst hi
    simp only [mm_step] at h
    split at h
    · cases h
      exact lv_isub hx hb hd (kk _ _ _ hW hS hL)
    · cases h
  | imul =>
    simp only [mm_okI, mm_len] at hi
    subst hi
    simp only [mm_step] at h
    split at h
    · cases h
      exact lv_imul hx hb hd (kk _ _ _ hW hS hL)
    · cases h
  | iand =>
    simp only [mm_okI, mm_len] at hi
    subst hi
    simp only [mm_step] at h
    split at h
    · cases h
      exact lv_iand hx hb hd (kk _ _ _ hW hS hL)
    · cases h
  | ior =>
    simp only [mm_okI, mm_len] at hi
    subst hi
    simp only [mm_step] at h
    split at h
    · cases h
      exact lv_ior hx hb hd (kk _ _ _ hW hS hL)
    · cases h
  | ixor =>
    simp only [mm_okI, mm_len] at hi
    subst hi
    simp only [mm_step] at h
    split at h
    · cases h
      exact lv_ixor hx hb hd (kk _ _ _ hW hS hL)
    · cases h
  | ishl =>
    simp only [mm_okI, mm_len] at hi
    subst hi
    simp only [mm_step] at h
    split at h
    · cases h
      exact lv_ishl hx hb hd (kk _ _ _ hW hS hL)
    · cases h
  | ishr =>
    simp only [mm_okI, mm_len] at hi
    subst hi
    simp only [mm_step] at h
    split at h
    · cases h
      exact lv_ishr hx hb hd (kk _ _ _ hW hS hL)
    · cases h
  | ladd =>
    simp only [mm_okI, mm_len] at hi
    subst hi
    simp only [mm_step] at h
    split at h
    · cases h
      exact lv_ladd hx hb hd (kk _ _ _ hW hS hL)
    · cases h
  | lsub =>
    simp only [mm_okI, mm_len] at hi
    subst hi
    simp only [mm_step] at h
    split at h
    · cases h
      exact lv_lsub hx hb hd (kk _ _ _ hW hS hL)
    · cases h
  | lmul =>
    simp only [mm_okI, mm_len] at hi
    subst hi
    simp only [mm_step] at h
    split at h
    · cases h
      exact lv_lmul hx hb hd (kk _ _ _ hW hS hL)
    · cases h
  | ineg =>
    simp only [mm_okI, mm_len] at hi
    subst hi
    simp only [mm_step] at h
    split at h
    · cases h
      exact lv_ineg hx hb hd (kk _ _ _ hW hS hL)
    · cases h
  | lcmp =>
    simp only [mm_okI, mm_len] at hi
    subst hi
    simp only [mm_step] at h
    split at h
    · cases h
      exact W.lcmp hx hb hd (kk _ _ _ hW hS hL)
    · cases h
  | i2l =>
    simp only [mm_okI, mm_len] at hi
    subst hi
    simp only [mm_step] at h
    split at h
    · cases h
      exact lv_i2l hx hb hd rfl (kk _ _ _ hW hS hL)
    · cases h
  | i2c =>
    simp only [mm_okI, mm_len] at hi
    subst hi
    simp only [mm_step] at h
    split at h
    · cases h
      exact lv_i2c hx hb hd rfl (kk _ _ _ hW hS hL)
    · cases h
  | i2b =>
    simp only [mm_okI, mm_len] at hi
    subst hi
    simp only [mm_step] at h
    split at h
    · cases h
      exact lv_i2b hx hb hd rfl (kk _ _ _ hW hS hL)
    · cases h
  | iushr =>
    simp only [mm_okI, mm_len] at hi
    subst hi
    simp only [mm_step] at h
    split at h
    · cases h
      exact lv_iushr hx hb hd rfl (kk _ _ _ hW hS hL)
    · cases h
  | idiv =>
    simp only [mm_okI, mm_len] at hi
    subst hi
    simp only [mm_step] at h
    split at h
    · split at h
      · cases h
      · rename_i hne
        cases h
        exact lv_idiv hx hb hd hne (kk _ _ _ hW hS hL)
    · cases h
  | irem =>
    simp only [mm_okI, mm_len] at hi
    subst hi
    simp only [mm_step] at h
    split at h
    · split at h
      · cases h
      · rename_i hne
        cases h
        exact lv_irem hx hb hd hne (kk _ _ _ hW hS hL)
    · cases h
  | ldiv =>
    simp only [mm_okI, mm_len] at hi
    subst hi
    simp only [mm_step] at h
    split at h
    · split at h
      · cases h
      · rename_i hne
        cases h
        exact lv_ldiv hx hb hd hne (kk _ _ _ hW hS hL)
    · cases h
  | lrem =>
    simp only [mm_okI, mm_len] at hi
    subst hi
    simp only [mm_step] at h
    split at h
    · split at h
      · cases h
      · rename_i hne
        cases h
        exact lv_lrem hx hb hd hne (kk _ _ _ hW hS hL)
    · cases h
  | dup =>
    simp only [mm_okI, mm_len] at hi
    subst hi
    simp only [mm_step] at h
    split at h
    · cases h
      exact lv_dup hx hb hd rfl (kk _ _ _ hW hS hL)
    · cases h
      exact lv_dup hx hb hd rfl (kk _ _ _ hW hS hL)
    · cases h
  | dup2 =>
    simp only [mm_okI, mm_len] at hi
    subst hi
    simp only [mm_step] at h
    split at h
    · cases h
      exact lv_dup2_11 hx hb hd rfl rfl (kk _ _ _ hW hS hL)
    · cases h
  | pop =>
    simp only [mm_okI, mm_len] at hi
    subst hi
    simp only [mm_step] at h
    split at h
    · cases h
      exact lv_pop hx hb hd rfl (kk _ _ _ hW hS hL)
    · cases h
  | goto off =>
    obtain ⟨rfl, hi⟩ := hi
    simp only [mm_step] at h
    cases h
    exact lv_goto hx hb hd hi (kk _ _ _ hW hS hL)
  | ifCond cnd off =>
    obtain ⟨rfl, hi⟩ := hi
    cases cnd with
    | eq =>
      simp only [mm_step] at h
      split at h
      · cases h
        refine lv_if_eq hx hb hd hi (fun q => ?_) (fun q => ?_)
        · have hk := kk _ _ _ hW hS hL
          rw [if_pos q] at hk
          exact hk
        · have hk := kk _ _ _ hW hS hL
          rw [if_neg q] at hk
          exact hk
      · cases h
    | ne =>
      simp only [mm_step] at h
      split at h
      · cases h
        refine lv_if_ne hx hb hd hi (fun q => ?_) (fun q => ?_)
        · have hk := kk _ _ _ hW hS hL
          rw [if_pos q] at hk
          exact hk
        · have hk := kk _ _ _ hW hS hL
          rw [if_neg (fun z => z q)] at hk
          exact hk
      · cases h
    | lt =>
      simp only [mm_step] at h
      split at h
      · cases h
        refine lv_if_lt hx hb hd hi (fun q => ?_) (fun q => ?_)
        · have hk := kk _ _ _ hW hS hL
          rw [if_pos q] at hk
          exact hk
        · have hk := kk _ _ _ hW hS hL
          rw [if_neg q] at hk
          exact hk
      · cases h
    | ge =>
      simp only [mm_step] at h
      split at h
      · cases h
        refine lv_if_ge hx hb hd hi (fun q => ?_) (fun q => ?_)
        · have hk := kk _ _ _ hW hS hL
          rw [if_pos q] at hk
          exact hk
        · have hk := kk _ _ _ hW hS hL
          rw [if_neg q] at hk
          exact hk
      · cases h
    | gt =>
      simp only [mm_step] at h
      split at h
      · cases h
        refine lv_if_gt hx hb hd hi (fun q => ?_) (fun q => ?_)
        · have hk := kk _ _ _ hW hS hL
          rw [if_pos q] at hk
          exact hk
        · have hk := kk _ _ _ hW hS hL
          rw [if_neg q] at hk
          exact hk
      · cases h
    | le =>
      simp only [mm_step] at h
      split at h
      · cases h
        refine lv_if_le hx hb hd hi (fun q => ?_) (fun q => ?_)
        · have hk := kk _ _ _ hW hS hL
          rw [if_pos q] at hk
          exact hk
        · have hk := kk _ _ _ hW hS hL
          rw [if_neg q] at hk
          exact hk
      · cases h
  | if_icmp cnd off =>
    obtain ⟨rfl, hi⟩ := hi
    cases cnd with
    | eq =>
      simp only [mm_step] at h
      split at h
      · cases h
        refine lv_icmp_eq hx hb hd hi (fun q => ?_) (fun q => ?_)
        · have hk := kk _ _ _ hW hS hL
          rw [if_pos q] at hk
          exact hk
        · have hk := kk _ _ _ hW hS hL
          rw [if_neg q] at hk
          exact hk
      · cases h
    | ne =>
      simp only [mm_step] at h
      split at h
      · cases h
        refine lv_icmp_ne hx hb hd hi (fun q => ?_) (fun q => ?_)
        · have hk := kk _ _ _ hW hS hL
          rw [if_pos q] at hk
          exact hk
        · have hk := kk _ _ _ hW hS hL
          rw [if_neg (fun z => z q)] at hk
          exact hk
      · cases h
    | lt =>
      simp only [mm_step] at h
      split at h
      · cases h
        refine lv_icmp_lt hx hb hd hi (fun q => ?_) (fun q => ?_)
        · have hk := kk _ _ _ hW hS hL
          rw [if_pos q] at hk
          exact hk
        · have hk := kk _ _ _ hW hS hL
          rw [if_neg q] at hk
          exact hk
      · cases h
    | ge =>
      simp only [mm_step] at h
      split at h
      · cases h
        refine lv_icmp_ge hx hb hd hi (fun q => ?_) (fun q => ?_)
        · have hk := kk _ _ _ hW hS hL
          rw [if_pos q] at hk
          exact hk
        · have hk := kk _ _ _ hW hS hL
          rw [if_neg q] at hk
          exact hk
      · cases h
    | gt =>
      simp only [mm_step] at h
      split at h
      · cases h
        refine lv_icmp_gt hx hb hd hi (fun q => ?_) (fun q => ?_)
        · have hk := kk _ _ _ hW hS hL
          rw [if_pos q] at hk
          exact hk
        · have hk := kk _ _ _ hW hS hL
          rw [if_neg q] at hk
          exact hk
      · cases h
    | le =>
      simp only [mm_step] at h
      split at h
      · cases h
        refine lv_icmp_le hx hb hd hi (fun q => ?_) (fun q => ?_)
        · have hk := kk _ _ _ hW hS hL
          rw [if_pos q] at hk
          exact hk
        · have hk := kk _ _ _ hW hS hL
          rw [if_neg q] at hk
          exact hk
      · cases h
  | tableswitch d lo hi9 os =>
    simp only [mm_step] at h
    obtain ⟨hi1, hi2⟩ := hi
    split at h
    · rename_i x st0
      split at h
      · rename_i hq
        cases h
        exact lv_tableOut hx hb hd hq (Int.toNat_of_nonneg hi1).symm (kk _ _ _ hW hS hL)
      · rename_i hq
        split at h
        · rename_i off ho
          cases h
          exact lv_tableIn hx hb hd (fun z => hq (Or.inl z)) (fun z => hq (Or.inr z)) ho (Int.toNat_of_nonneg (hi2 off (Array.mem_toList_iff.mpr (Array.mem_of_getElem? ho)))).symm (kk _ _ _ hW hS hL)
        · cases h
    · cases h
  | lookupswitch d ps =>
    simp only [mm_step] at h
    obtain ⟨hi1, hi2⟩ := hi
    split at h
    · rename_i x st0
      cases h
      exact lv_lookup hx hb hd hi2 rfl (Int.toNat_of_nonneg (hi1 x.toInt)).symm (kk _ _ _ hW hS hL)
    · cases h
  | getfield idx =>
    obtain ⟨rfl, hi⟩ := hi
    simp only [mm_step] at h
    split at h
    · rename_i o st0
      split at h
      · rename_i v9 hf
        cases h
        have hkk := kk _ _ _ hW hS hL
        unfold mm_fld at hf
        split at hf
        · rename_i k
          split at hf
          · rename_i c9 fs hM
            split at hf
            · rename_i hc9
              subst hc9
              have hg := hW k _ (mm_ws_at base ext cA hM)
              have hg' := hg
              obtain ⟨r, hr, -⟩ := hg'
              rcases hi with ⟨h99, hno, hl⟩ | ⟨q, hq, h99, hbq, hl⟩
              · rw [hno] at hr; cases hr
              · obtain ⟨g1, g2, g3⟩ := hcl _ q hq
                have hv : (fs.map (mm_en base ext))[b]? = some (mm_en base ext v9) := by rw [List.getElem?_map, hf]; rfl
                rcases hl with hl | ⟨host, hl⟩
                · exact va_get (C := q.1) (T := q.2.1) (N := q.2.2) hx hb hts g1 hown hKs.1 hW k (mm_ws_at base ext cA hM) hq b hbq (hts _ hl) (fun _ z => z) hv hd hkk
                · exact va_getN (C := q.1) (T := q.2.1) (N := q.2.2) hx hb hts g1 hown hKs.1 hW k (mm_ws_at base ext cA hM) hq b hbq (va_Nw.use rfl (hKs.2.2.2.2.2.1 _ _ _ _ _ _ hl)) (fun _ z => z) hv hd hkk
            · cases hf
          · cases hf
        · rename_i n9
          split at hf
          · rename_i fs hX9
            split at hf
            · rename_i h99
              obtain ⟨t, ht, -, hOF⟩ := hKs.2.2.1 _ _ hX9
              rcases hi with ⟨-, -, hl⟩ | ⟨q, hq, hn99, -⟩
              · simp only [List.map_cons, mm_en, ht, va_rf]
                exact vk_getf hx hb (hOF b v9 hf) hS hown (hts _ hl) (fun _ z => z) hd hkk
              · exact absurd h99 hn99
            · cases hf
          · cases hf
        · cases hf
      · cases h
    · cases h
  | putfield idx =>
    obtain ⟨rfl, q, hq, hbq, hi⟩ := hi
    simp only [mm_step] at h
    split at h
    · rename_i v9 o st0
      split at h
      · rename_i M1 hf
        cases h
        unfold mm_put at hf
        split at hf
        · rename_i k
          split at hf
          · rename_i c9 fs hM
            split at hf
            · rename_i hc9
              obtain ⟨rfl, hlen, hok⟩ := hc9
              cases hf
              obtain ⟨g1, g2, g3⟩ := hcl _ q hq
              obtain ⟨n1, n2⟩ := mm_okf_spec base ext hok
              have hlen' : b < (fs.map (mm_en base ext)).length := by simpa using hlen
              have key : ∀ (H1 : Heap) (locs1 : List Loc), va_P D cl ((mm_ws base ext cA M).set k (base + k, .inr (c9, (fs.map (mm_en base ext)).set b (mm_en base ext v9)))) H1 → va_D (mm_A base) ((mm_ws base ext cA M).set k (base + k, .inr (c9, (fs.map (mm_en base ext)).set b (mm_en base ext v9)))) → va_S (mm_A base) s.heap H1 locs1 → W p l e R s m args below meth c H1 locs1 cells slots Q (F0 m (pc + 3) ls (st'.map (mm_en base ext))) := by
                intro H1 locs1 hP1 _ hS1
                refine kk H1 locs1 ls ?_ hS1 hL
                unfold mm_Wd
                rw [mm_ws_set]
                simpa [mm_ec, List.map_set] using hP1
              rcases hi with ⟨hfin, hl | ⟨host, hl⟩⟩ | ⟨hfin, hl, hini, hdecl⟩
              · exact va_put (C := q.1) (T := q.2.1) (N := q.2.2) hx hb hts g1 (fty c9) g2 g3 hown hKs.1 hW (mm_D base ext cA M) hS k (mm_ws_at base ext cA hM) hq b hbq (hts _ hl) (fun _ z => z) hfin (g2 b hbq) n1 n2 hlen' hd key
              · exact va_putN (C := q.1) (T := q.2.1) (N := q.2.2) hx hb hts g1 (fty c9) g2 g3 hown hKs.1 hW (mm_D base ext cA M) hS k (mm_ws_at base ext cA hM) hq b hbq (va_Nw.use rfl (hKs.2.2.2.2.2.1 _ _ _ _ _ _ hl)) (fun _ z => z) hfin (g2 b hbq) n1 n2 hlen' hd key
              · exact va_putF (C := q.1) (T := q.2.1) (N := q.2.2) hx hb hts g1 (fty c9) g2 g3 hown hKs.1 hW (mm_D base ext cA M) hS k (mm_ws_at base ext cA hM) hq b hbq (hts _ hl) (fun _ z => z) hfin (hname.trans hini) hdecl (g2 b hbq) n1 n2 hlen' hd key
            · cases hf
          · cases hf
        · cases hf
      · cases h
    · cases h
  | iaload =>
    simp only [mm_okI, mm_len] at hi
    subst hi
    simp only [mm_step] at h
    split at h
    · rename_i j o st0
      split at h
      · rename_i xs hr
        split at h
        · rename_i x hxj
          cases h
          obtain ⟨a1, a2⟩ := mm_at_spec hxj
          have hkk := kk _ _ _ hW hS hL
          unfold mm_row at hr
          split at hr
          · rename_i k
            split at hr
            · rename_i xs9 hM
              cases hr
              refine va_iald hx hb hKs.1 hW k 0 (mm_ws_at base ext cA hM) rfl a1 hd ?_
              rw [a2]
              exact hkk
            · cases hr
          · rename_i n9
            split at hr
            · rename_i h50
              split at hr
              · rename_i xs9 hX9
                cases hr
                obtain ⟨t, ht, cell, t1, t2, t3, t4, t5, t6, t7⟩ := hKs.2.1 _ _ hX9
                simp only [List.map_cons, mm_en, ht, va_rf]
                have hlt : j.toNatClampNeg < xs.length := Nat.not_le.mp fun q => a1 (Or.inr q)
                have hty : mm_xt n9 = .int := if_pos h50
                rw [hty] at t2
                exact W.iald (v := .int x) hx hb (by rw [hS.2.1 t (Array.getElem?_eq_some_iff.mp t1).1 t7]; exact t1) t2 t3 (fun q => by rcases q with q | q; exact a1 (Or.inl q); omega) (by rw [t6 _ hlt]; show some (Value.int (xs.getD _ 0)) = _; rw [a2]) rfl rfl hd hkk
              · cases hr
            · cases hr
          · cases hr
        · cases h
      · cases h
    · cases h
  | baload =>
    simp only [mm_okI, mm_len] at hi
    subst hi
    simp only [mm_step] at h
    split at h
    · rename_i j n9 st0
      split at h
      · cases h
      · rename_i h50
        split at h
        · rename_i xs hX9
          split at h
          · rename_i x hxj
            cases h
            obtain ⟨a1, a2⟩ := mm_at_spec hxj
            have hkk := kk _ _ _ hW hS hL
            obtain ⟨t, ht, cell, t1, t2, t3, t4, t5, t6, t7⟩ := hKs.2.1 _ _ hX9
            simp only [List.map_cons, mm_en, ht, va_rf]
            have hlt : j.toNatClampNeg < xs.length := Nat.not_le.mp fun q => a1 (Or.inr q)
            have hty : mm_xt n9 = .byte := if_neg h50
            rw [hty] at t2
            exact W.bald (v := .int x) hx hb (by rw [hS.2.1 t (Array.getElem?_eq_some_iff.mp t1).1 t7]; exact t1) t2 t3 (fun q => by rcases q with q | q; exact a1 (Or.inl q); omega) (by rw [t6 _ hlt]; show some (Value.int (xs.getD _ 0)) = _; rw [a2]) rfl rfl hd hkk
          · cases h
        · cases h
    · cases h
  | iastore =>
    simp only [mm_okI, mm_len] at hi
    subst hi
    simp only [mm_step] at h
    split at h
    · rename_i x j o st0
      split at h
      · rename_i M1 hf
        cases h
        unfold mm_sti at hf
        split at hf
        · rename_i k
          split at hf
          · rename_i xs hM
            split at hf
            · cases hf
            · rename_i hn
              split at hf
              · rename_i hlt
                cases hf
                have a1 : vp_in j xs.length := fun q => by
                  rcases q with q | q
                  · exact hn q
                  · omega
                refine va_iast hx hb hKs.1 hW (mm_D base ext cA M) hS k 0 (mm_ws_at base ext cA hM) rfl a1 hd (fun H1 locs1 hP1 _ hS1 => ?_)
                refine kk H1 locs1 ls ?_ hS1 hL
                · unfold mm_Wd
                  rw [mm_ws_set]
                  have e1 : mm_ec base ext cA (.inl (xs.set j.toNatClampNeg x)) = .inl (cA 0, xs.length, .inl (upd (fun j => xs.getD j 0) j.toNatClampNeg x)) := by
                    simp only [mm_ec, List.length_set, mm_upd hlt]
                  rw [e1]
                  exact hP1
              · cases hf
          · cases hf
        · cases hf
      · cases h
    · cases h
  | aaload =>
    simp only [mm_okI, mm_len] at hi
    subst hi
    simp only [mm_step] at h
    split at h
    · rename_i j k st0
      split at h
      · rename_i t9 rs hM
        split at h
        · rename_i ht9
          split at h
          · rename_i r hxj
            cases h
            obtain ⟨a1, a2⟩ := mm_atq_spec hxj
            have hkk := kk _ _ _ hW hS hL
            have e9 : mm_en base ext (mm_rf r) = va_rf (r.map (fun k => base + k)) := by cases r <;> rfl
            rw [List.map_cons, e9, ← a2] at hkk
            have hlt : j.toNatClampNeg < rs.length := Nat.not_le.mp fun q => a1 (Or.inr q)
            rcases ht9 with rfl | rfl
            · exact W.aald (ty := .object lay) (v := va_rf ((rs.getD j.toNatClampNeg none).map (fun k => base + k))) hx hb (hW k _ (mm_ws_at base ext cA hM)) ((hKs.1.2 1 _ rfl).1 rs.length (fun j => va_rf ((rs.getD j none).map (fun k => base + k)))) rfl (fun q => by cases q) (by show ¬ (j < 0 ∨ (arrV _ _ _).slots.size ≤ _); rw [arrV_size]; exact a1) (by show (arrV _ _ _).slots[_]? = _; rw [arrV_read _ _ hlt]) rfl rfl hd hkk
            · exact W.aald (ty := .array .int) (v := va_rf ((rs.getD j.toNatClampNeg none).map (fun k => base + k))) hx hb (hW k _ (mm_ws_at base ext cA hM)) ((hKs.1.2 2 _ rfl).1 rs.length (fun j => va_rf ((rs.getD j none).map (fun k => base + k)))) rfl (fun q => by cases q) (by show ¬ (j < 0 ∨ (arrV _ _ _).slots.size ≤ _); rw [arrV_size]; exact a1) (by show (arrV _ _ _).slots[_]? = _; rw [arrV_read _ _ hlt]) rfl rfl hd hkk
          · cases h
        · cases h
      · cases h
    · cases h
  | arraylength =>
    simp only [mm_okI, mm_len] at hi
    subst hi
    simp only [mm_step] at h
    split at h
    · rename_i n9 st0
      split at h
      · rename_i xs hX9
        cases h
        have hkk := kk _ _ _ hW hS hL
        obtain ⟨t, ht, cell, t1, t2, t3, t4, t5, t6, t7⟩ := hKs.2.1 _ _ hX9
        simp only [List.map_cons, mm_en, ht, va_rf]
        exact W.alen (n := Int32.ofNat xs.length) hx hb (by rw [hS.2.1 t (Array.getElem?_eq_some_iff.mp t1).1 t7]; exact t1) t2 t5 rfl rfl hd hkk
      · cases h
    · cases h
  | _ => simp [mm_step] at h
end MM2
end
section
section MM3
variable (base : Nat) (ext : Nat → Option Nat) (cA : Nat → ClassId) (D : va_G) (cl : List vw_C) (lay : String)
theorem mm_outer (c : ClassId) (N h0 : Nat) : ∀ i : Nat, Jvm.Free.Multi.outerC c N h0 i = arrV c N (fun j => va_rf (if j < i then some (h0 + 1 + j) else none)) := by
  intro i
  induction i with
  | zero =>
    show ({ cls := c, slots := Array.replicate N .null, vm := .none } : Cell) = _
    rw [arrV_new]
    refine congrArg (arrV c N) (funext fun j => ?_)
    simp [va_rf]
  | succ i ih =>
    show (Jvm.Free.Multi.outerC c N h0 i).setSlot i (.ref (h0 + 1 + i)) = _
    rw [ih, arrV_store]
    refine congrArg (arrV c N) (funext fun j => ?_)
    by_cases e : j = i
    · subst e
      simp [updV, va_rf]
    · by_cases h : j < i
      · simp [updV, e, h, Nat.lt_succ_of_lt h]
      · simp [updV, e, h, show ¬ j < i + 1 by omega]
def mm_multi (M : mm_M) (N K : Nat) : mm_M := M ++ (.inr (.inl (2, (List.range N).map (fun j => some (M.length + 1 + j)))) :: List.replicate N (.inl (List.replicate K 0)))
variable {p : Program} {l : Launch} {e : Env} {R : Room} {s : State} {m : MethodId} {args : Array Value} {below : List Frame} {meth : Method} {c : Code} {Q : State → Prop}
theorem mm_mna {cc : ByteArray} (hx : p.tables.exec = Jvm.exec) (hb : c.code = cc) {own : String} {index : Nat} (hown : s.vm.findClass own = some m.cls) (hclink : (Cond.classLink own index ("[" ++ (FieldType.array .int).toString)).before args s = true) (hover : (Cond.arrayOver (.array .int)).before args s = true) (harr : (Cond.arrayClass .int).before args s = true)
    (hK : va_K D cl [(cA 0, .int), (cA 1, .object lay), (cA 2, .array .int)] s) {M : mm_M} {H : Heap} {locs : List Loc} {cells slots pc : Nat} {ls : Array Slot} {rest : List Value} (hW : mm_Wd base ext cA D cl M H) (hsz : H.size = base + M.length) (hS : va_S (mm_A base) s.heap H locs) {n k : Int32} (hn : ¬ n < 0) (hk : ¬ k < 0) (hb1 : n.toNatClampNeg * 4 ≤ 536870912) (hb2 : k.toNatClampNeg * 4 ≤ 536870912)
    (hcells : cells + (1 + n.toNatClampNeg) ≤ R.cells) (hslots : slots + (n.toNatClampNeg + n.toNatClampNeg * k.toNatClampNeg) ≤ R.slots) (hdg : decode cc pc = .ok (.multianewarray index 2, 4))
    (kk : ∀ H1 : Heap, mm_Wd base ext cA D cl (mm_multi M n.toNatClampNeg k.toNatClampNeg) H1 → va_S (mm_A base) s.heap H1 locs → W p l e R s m args below meth c H1 locs (cells + 1 + n.toNatClampNeg) (slots + n.toNatClampNeg + n.toNatClampNeg * k.toNatClampNeg) Q (F0 m (pc + 4) ls (.ref (base + M.length) :: rest))) : W p l e R s m args below meth c H locs cells slots Q (F0 m pc ls (.int k :: .int n :: rest)) := by
  intro T hT Xs
  obtain ⟨vm₁, cB, comp, -, fA, fC, hO, -, X', step⟩ := Xs.multianewarray2F hx hown hclink hover harr (g := F0 m pc ls (.int k :: .int n :: rest)) rfl (by rw [hb]; exact hdg) rfl hn hk hb1 hb2 (by omega) rfl rfl hcells hslots
  have e2 : cB = cA 2 := Option.some.inj (fA.symm.trans (hK.2 2 _ rfl).2)
  have e0 : comp = cA 0 := Option.some.inj (fC.symm.trans (hK.2 0 _ rfl).2)
  subst e2
  subst e0
  generalize hF : Jvm.Free.Multi.fill (T.setVm vm₁) (cA 2) (cA 0) n.toNatClampNeg k.toNatClampNeg (defaultValue .int) n.toNatClampNeg = F at X' step
  have hTh : (T.setVm vm₁).heap = H := hT
  obtain ⟨f1, f2, -, -⟩ := Jvm.Free.Multi.fill_facts (T.setVm vm₁) (cA 2) (cA 0) n.toNatClampNeg k.toNatClampNeg (defaultValue .int) n.toNatClampNeg
  rw [hF, hTh] at f1 f2
  have hold : ∀ x : Nat, x < H.size → F.heap[x]? = H[x]? := fun x hx => by
    have := Jvm.Free.Multi.fill_old (T.setVm vm₁) (cA 2) (cA 0) n.toNatClampNeg k.toNatClampNeg (defaultValue .int) (a := x) (by rw [hTh]; exact hx) n.toNatClampNeg
    rw [hF, hTh] at this
    exact this
  have hrow : ∀ j : Nat, j < n.toNatClampNeg → F.heap[H.size + 1 + j]? = some (Jvm.Free.Multi.innerC (cA 0) k.toNatClampNeg (defaultValue .int)) := fun j hj => by
    have := Jvm.Free.Multi.fill_inner (T.setVm vm₁) (cA 2) (cA 0) n.toNatClampNeg k.toNatClampNeg (defaultValue .int) n.toNatClampNeg j hj
    rw [hF, hTh] at this
    exact this
  have hWn : mm_Wd base ext cA D cl (mm_multi M n.toNatClampNeg k.toNatClampNeg) F.heap := by
    intro i q hq
    rw [mm_ws_get] at hq
    unfold mm_multi at hq
    by_cases h1 : i < M.length
    · rw [List.getElem?_append_left h1] at hq
      have hq' : (mm_ws base ext cA M)[i]? = some q := by rw [mm_ws_get]; exact hq
      have h3 := hW i q hq'
      exact h3.kept (hold q.1 h3.lt)
    · rw [List.getElem?_append_right (by omega)] at hq
      cases h2 : i - M.length with
      | zero =>
        rw [h2] at hq
        simp only [List.getElem?_cons_zero, Option.map_some, Option.some.injEq] at hq
        subst hq
        have hi : base + i = H.size := by omega
        show F.heap[base + i]? = some (vp_cell _ _)
        rw [hi, f2, mm_outer]
        simp only [mm_ec, vp_cell, List.length_map, List.length_range]
        congr 2
        funext j
        by_cases hj : j < n.toNatClampNeg
        · have e8 : H.size + 1 + j = base + (M.length + 1 + j) := by omega
          simp [hj, List.getD_eq_getElem?_getD, e8]
        · simp [hj, List.getD_eq_getElem?_getD]
      | succ j =>
        rw [h2] at hq
        simp only [List.getElem?_cons_succ] at hq
        by_cases hj : j < n.toNatClampNeg
        · rw [List.getElem?_replicate_of_lt hj] at hq
          simp only [Option.map_some, Option.some.injEq] at hq
          subst hq
          have hi : base + i = H.size + 1 + j := by omega
          show F.heap[base + i]? = some (vp_cell _ _)
          rw [hi, hrow j hj]
          simp only [mm_ec, vp_cell, List.length_replicate]
          congr 1
          have e9 : (fun j => Value.int ((List.replicate k.toNatClampNeg (0 : Int32)).getD j 0)) = fun _ => defaultValue .int := by
            funext j9
            by_cases h9 : j9 < k.toNatClampNeg
            · simp [List.getD_eq_getElem?_getD, h9, defaultValue]
            · simp [List.getD_eq_getElem?_getD, h9, defaultValue]
          rw [e9]
          exact arrV_new _ _ _
        · rw [List.getElem?_eq_none (by simp; omega)] at hq
          cases hq
  obtain ⟨t, a1, b1⟩ := kk F.heap hWn ⟨by rw [f1]; have := hS.1; omega, fun x h1 h2 => (hold x (Nat.lt_of_lt_of_le h1 hS.1)).trans (hS.2.1 x h1 h2), hS.2.2⟩ F rfl X'
  refine ⟨t, step t ?_, b1⟩
  have e : T.heap.size = base + M.length := by rw [hT, hsz]
  rw [e]
  exact a1
end MM3
end
section
/-! calls, returns, makings; the run of a method's body -/
abbrev mm_Mt : Type := MethodName × ByteArray × Nat × Option FieldType × Nat × (Nat → Option mm_I)
def mm_nar (ty : FieldType) (v : Int32) : Bool := match ty with
  | .int => true
  | .boolean => v == 0 || v == 1
  | .char => (v.toUInt32 % 65536).toInt32 == v
  | .byte => v.toInt8.toInt32 == v
  | _ => false
def mm_isRt (ret : Option FieldType) : Bool := match ret with
  | some (.object _) => true
  | some (.array _) => true
  | _ => false
def mm_ret (ret : Option FieldType) (i : mm_I) (st : List Value) : Option (Option Value) := match i with
  | (.ireturn, _) => (match st with | [.int v] => (match ret with | some ty => if mm_nar ty v = true then some (some (.int v)) else none | none => none) | _ => none)
  | (.lreturn, _) => (match st with | [.long v] => (match ret with | some .long => some (some (.long v)) | _ => none) | _ => none)
  | (.areturn, _) => (match st with | [.ref v] => if mm_isRt ret = true then some (some (.ref v)) else none | [.retAddr v] => if mm_isRt ret = true then some (some (.retAddr v)) else none | _ => none)
  | (.return_, _) => (match st with | [] => (match ret with | none => some none | _ => none) | _ => none)
  | _ => none
def mm_inv (i : mm_I) : Option (Nat × Nat × Nat) := match i with
  | (.invokevirtual _, _, k, n, _) => some (0, k, n)
  | (.invokespecial _, _, k, n, _) => if k = 999 then none else some (1, k, n)
  | (.invokestatic _, _, k, n, _) => if k = 997 ∨ k = 998 then none else some (2, k, n)
  | _ => none
def mm_rok (X : mm_X) (M : mm_M) (kd ci : Nat) (as : List Value) : Bool := match kd with
  | 0 => (match as with
    | .ref b :: _ => (match M[b]? with | some (.inr (.inr (c, _))) => c == ci && !(ci == 99) | _ => false)
    | .retAddr n :: _ => (match X n with | some (.inr _) => ci == 99 | _ => false)
    | _ => false)
  | 1 => (match as with
    | .ref _ :: _ => true
    | _ => false)
  | 2 => true
  | _ => false
def mm_make (nf : Nat → List Value) (li : Nat) (i : mm_I) (pc : Nat) (st : List Value) (M : mm_M) : Option (Nat × List Value × mm_M) := match i with
  | (.new _, _, a, _) => some (pc + 3, .ref M.length :: st, M ++ [.inr (.inr (a, nf a))])
  | (.newarray .int, _) => (match st with | .int n :: st => if n < 0 ∨ 1000 < n.toNatClampNeg then none else some (pc + 2, .ref M.length :: st, M ++ [.inl (List.replicate n.toNatClampNeg 0)]) | _ => none)
  | (.anewarray _, _) => (match st with | .int n :: st => if n < 0 ∨ 1000 < n.toNatClampNeg then none else some (pc + 3, .ref M.length :: st, M ++ [.inr (.inl (1, List.replicate n.toNatClampNeg none))]) | _ => none)
  | (.multianewarray _ 2, _) => (match st with | .int k :: .int n :: st => if (n < 0 ∨ k < 0) ∨ 1000 < n.toNatClampNeg ∨ 1000 < k.toNatClampNeg then none else some (pc + 4, .ref M.length :: st, mm_multi M n.toNatClampNeg k.toNatClampNeg) | _ => none)
  | (.aastore, _) => (match st with
    | .ref v :: .int j :: .ref a :: st => (match M[a]? with
      | some (.inr (.inl (1, rs))) => (match M[v]? with
        | some (.inr (.inr (ci, _))) => if ci = li ∧ ¬ j < 0 ∧ j.toNatClampNeg < rs.length then some (pc + 1, st, M.set a (.inr (.inl (1, rs.set j.toNatClampNeg (some v))))) else none
        | _ => none)
      | _ => none)
    | _ => none)
  | (.invokespecial _, _, k, _) => if k = 999 then (match st with | .ref _ :: st => if (st.map Value.category).sum ≤ 8 then some (pc + 3, st, M) else none | _ => none) else none
  | (.invokestatic _, _, k, _) => if k = 997 then (match st with | .int y :: .int x :: st => if (st.map Value.category).sum ≤ 8 then some (pc + 3, .int (if x < y then y else x) :: st, M) else none | _ => none) else if k = 998 then (match st with | .int y :: .int x :: st => if (st.map Value.category).sum ≤ 8 then some (pc + 3, .int (if y < x then y else x) :: st, M) else none | _ => none) else none
  | _ => none
def mm_run (fty : Nat → Nat → FieldType) (X : mm_X) (nf : Nat → List Value) (li : Nat) (cls : Nat → Nat) (call : Nat → List Value → mm_M → Option (Option Value × mm_M)) (ret : Option FieldType) (code : Nat → Option mm_I) : Nat → Nat → mm_L → List Value → mm_M → Option (Option Value × mm_M)
  | 0, _, _, _, _ => none
  | f + 1, pc, L, st, M => match code pc with
    | none => none
    | some i => match mm_ret ret i st with
      | some r => some (r, M)
      | none => match mm_inv i with
        | some (kd, k, n) => if n ≤ st.length ∧ mm_rok X M kd (cls k) (st.take n).reverse = true ∧ ((st.drop n).map Value.category).sum ≤ 8 then
            (match call k (st.take n).reverse M with
            | some (r, M1) => mm_run fty X nf li cls call ret code f (pc + 3) L (r.toList ++ st.drop n) M1
            | none => none) else none
        | none => match mm_make nf li i pc st M with
          | some (pc1, st1, M1) => mm_run fty X nf li cls call ret code f pc1 L st1 M1
          | none => match mm_step fty X i pc L st M with
            | some (pc1, L1, st1, M1) => mm_run fty X nf li cls call ret code f pc1 L1 st1 M1
            | none => none
def mm_ent : List Value → mm_L
  | [] => []
  | .long x :: vs => some (.long x) :: none :: mm_ent vs
  | .double x :: vs => some (.double x) :: none :: mm_ent vs
  | v :: vs => some v :: mm_ent vs
def mm_entry (as : List Value) (n : Nat) : mm_L := mm_ent as ++ List.replicate (n - (mm_ent as).length) none
def mm_cls (P : Nat → Option mm_Mt) (k : Nat) : Nat := match P k with
  | some (_, _, _, _, ci, _) => ci
  | none => 0
/-- F: the most instructions of one body; the depth of calls counts down -/
def mm_ev (fty : Nat → Nat → FieldType) (X : mm_X) (nf : Nat → List Value) (li : Nat) (P : Nat → Option mm_Mt) (F : Nat) : Nat → Nat → List Value → mm_M → Option (Option Value × mm_M)
  | 0, _, _, _ => none
  | d + 1, k, as, M => match P k with
    | none => none
    | some (_, _, n, ret, _, code) => if (mm_ent as).length ≤ n then mm_run fty X nf li (mm_cls P) (mm_ev fty X nf li P F d) ret code F 0 (mm_entry as n) [] M else none
theorem mm_sl_set {M : mm_M} {k : Nat} {c c1 : mm_C} (h : M[k]? = some c) (hs : mm_size c1 = mm_size c) : mm_sl (M.set k c1) = mm_sl M := by
  unfold mm_sl
  rw [List.map_set]
  congr 1
  have h2 : (M.map mm_size)[k]? = some (mm_size c1) := by rw [List.getElem?_map, h, hs]; rfl
  obtain ⟨hl, he⟩ := List.getElem?_eq_some_iff.mp h2
  rw [← he]
  exact List.set_getElem_self hl
theorem mm_sl_app (M N : mm_M) : mm_sl (M ++ N) = mm_sl M + mm_sl N := by
  unfold mm_sl
  rw [List.map_append, List.sum_append]
theorem mm_put_len {fty : Nat → Nat → FieldType} {M M1 : mm_M} {o v : Value} {ci k : Nat} (h : mm_put fty M o v ci k = some M1) : M1.length = M.length ∧ mm_sl M1 = mm_sl M := by
  unfold mm_put at h
  split at h
  · split at h
    · rename_i hM
      split at h
      · cases h
        exact ⟨by simp, mm_sl_set hM (by simp [mm_size])⟩
      · cases h
    · cases h
  · cases h
theorem mm_sti_len {M M1 : mm_M} {o : Value} {i x : Int32} (h : mm_sti M o i x = some M1) : M1.length = M.length ∧ mm_sl M1 = mm_sl M := by
  unfold mm_sti at h
  split at h
  · split at h
    · rename_i hM
      split at h
      · cases h
      · split at h
        · cases h
          exact ⟨by simp, mm_sl_set hM (by simp [mm_size])⟩
        · cases h
    · cases h
  · cases h
theorem mm_sto1_len (L : mm_L) (i : Nat) (v : Value) : (mm_sto1 L i v).length = L.length := by simp [mm_sto1, mm_clr_len]
theorem mm_sto2_len (L : mm_L) (i : Nat) (v : Value) : (mm_sto2 L i v).length = L.length := by simp [mm_sto2, mm_clr_len]
set_option maxHeartbeats 4000000 in
theorem mm_step_len {fty : Nat → Nat → FieldType} {X : mm_X} {i : mm_I} {pc pc' : Nat} {L L' : mm_L} {st st' : List Value} {M M' : mm_M} (h : mm_step fty X i pc L st M = some (pc', L', st', M')) : L'.length = L.length ∧ M'.length = M.length ∧ mm_sl M' = mm_sl M := by
  unfold mm_step at h
  (repeat' (first | (cases h; done) | (cases h; exact ⟨rfl, rfl, rfl⟩) | (cases h; exact ⟨mm_sto1_len _ _ _, rfl, rfl⟩) | (cases h; exact ⟨mm_sto2_len _ _ _, rfl, rfl⟩) | (rename_i hq; cases h; exact ⟨rfl, mm_put_len hq⟩) | (rename_i hq; cases h; exact ⟨rfl, mm_sti_len hq⟩) | split at h))
theorem mm_make_len {nf : Nat → List Value} {li : Nat} {i : mm_I} {pc pc' : Nat} {st st' : List Value} {M M' : mm_M} (h : mm_make nf li i pc st M = some (pc', st', M')) : M.length ≤ M'.length ∧ mm_sl M ≤ mm_sl M' := by
  unfold mm_make at h
  (repeat' (first | (cases h; done) | (cases h; exact ⟨Nat.le_refl _, Nat.le_refl _⟩) | (cases h; exact ⟨by simp, by rw [mm_sl_app]; omega⟩) | (cases h; exact ⟨by simp [mm_multi], by unfold mm_multi; rw [mm_sl_app]; omega⟩) | (rename_i hq _ _ _ _ _; cases h; exact ⟨by simp, Nat.le_of_eq (mm_sl_set hq (by simp [mm_size])).symm⟩) | split at h))
end
section
section MM5
variable (base : Nat) (ext : Nat → Option Nat) (cA : Nat → ClassId) (D : va_G) (cl : List vw_C) (tb : List Cond) (X : mm_X) (sf : Nat → String × String) (sts : List (String × String × String × Value)) (sks : List (String × Nat × String × Nat)) (nws : List Cond) (lay : String) (fty : Nat → Nat → FieldType) (nf : Nat → List Value) (li : Nat) (P : Nat → Option mm_Mt)
/-- what a making or a call needs of the words -/
def mm_okJ (own : String) (i : mm_I) : Prop := match i with
  | (.new idx, n, a, _) => n = 3 ∧ ∃ q : vw_C, cl[a]? = some q ∧ Cond.classLink own idx q.1 ∈ tb ∧ Cond.instantiable q.1 q.2.2 ∈ tb ∧ Cond.initialized q.1 ∈ tb ∧ (nf a).length = q.2.2 ∧ ∀ j, j < q.2.2 → (nf a)[j]? = some (defaultValue (fty a j))
  | (.newarray _, _) => Cond.arrayClass .int ∈ tb
  | (.anewarray idx, _) => Cond.classLink own idx lay ∈ tb
  | (.multianewarray idx _, _) => Cond.classLink own idx ("[" ++ (FieldType.array .int).toString) ∈ tb ∧ Cond.arrayClass .int ∈ tb
  | (.aastore, _) => ∃ q : vw_C, cl[li]? = some q ∧ q.1 = lay
  | (.invokevirtual idx, n, k, na, _) => n = 3 ∧ ∃ (y : MethodName) (b : ByteArray) (mL : Nat) (rt : Option FieldType) (ci : Nat) (co : Nat → Option mm_I), P k = some (y, b, mL, rt, ci, co) ∧ Cond.methodLink own idx y ∈ tb ∧ Cond.instanceMethod y ∈ tb ∧ Cond.selects y.cls y y ∈ tb ∧ Cond.initialized y.cls ∈ tb ∧ y.cls ≠ "java/lang/invoke/MethodHandle" ∧ y.cls ≠ "java/lang/invoke/VarHandle" ∧ 0 < na ∧ (parseMethodDescriptor y.desc).map (fun d => d.parameters.length) = some (na - 1) ∧ ((ci = 99 ∧ y.cls = "java/lang/String") ∨ ∃ q : vw_C, cl[ci]? = some q ∧ q.1 = y.cls ∧ ¬ ci = 99)
  | (.invokespecial idx, n, k, na, _) => n = 3 ∧ ((k = 999 ∧ Cond.methodLink own idx Lib.objectInit ∈ tb ∧ Cond.instanceMethod Lib.objectInit ∈ tb ∧ Cond.code Lib.objectInit ⟨#[0xb1]⟩ 1 none ∈ tb) ∨ (¬ k = 999 ∧ ∃ (y : MethodName) (b : ByteArray) (mL : Nat) (ci : Nat) (co : Nat → Option mm_I), P k = some (y, b, mL, none, ci, co) ∧ (Cond.methodLink own idx y ∈ tb ∨ ∃ host : String, Cond.methodLinkNest own idx y host ∈ nws) ∧ Cond.instanceMethod y ∈ tb ∧ Cond.initialized y.cls ∈ tb ∧ y.name = "<init>" ∧ y.cls ≠ "java/lang/invoke/MethodHandle" ∧ y.cls ≠ "java/lang/invoke/VarHandle" ∧ 0 < na ∧ (parseMethodDescriptor y.desc).map (fun d => d.parameters.length) = some (na - 1)))
  | (.invokestatic idx, n, k, na, _) => n = 3 ∧ ((k = 997 ∧ Cond.methodLink own idx Lib.Math.max.name ∈ tb ∧ Cond.static Lib.Math.max.name ∈ tb ∧ Cond.initialized "java/lang/Math" ∈ tb ∧ Cond.code Lib.Math.max.name Lib.Math.max.code 2 (some .int) ∈ tb) ∨ (k = 998 ∧ Cond.methodLink own idx Lib.Math.min.name ∈ tb ∧ Cond.static Lib.Math.min.name ∈ tb ∧ Cond.initialized "java/lang/Math" ∈ tb ∧ Cond.code Lib.Math.min.name Lib.Math.min.code 2 (some .int) ∈ tb) ∨ (¬ (k = 997 ∨ k = 998) ∧ ∃ (y : MethodName) (b : ByteArray) (mL : Nat) (rt : Option FieldType) (ci : Nat) (co : Nat → Option mm_I), P k = some (y, b, mL, rt, ci, co) ∧ (Cond.methodLink own idx y ∈ tb ∨ ∃ host : String, Cond.methodLinkNest own idx y host ∈ nws) ∧ Cond.static y ∈ tb ∧ Cond.initialized y.cls ∈ tb ∧ y.cls ≠ "java/lang/invoke/MethodHandle" ∧ y.cls ≠ "java/lang/invoke/VarHandle" ∧ (parseMethodDescriptor y.desc).map (fun d => d.parameters.length) = some na))
  | _ => True
variable {p : Program} {l : Launch} {e : Env} {R : Room} {s : State} {m : MethodId} {args : Array Value} {below : List Frame} {meth : Method} {c : Code} {Q : State → Prop}
theorem mm_Wd_lo {M : mm_M} {H : Heap} (hW : mm_Wd base ext cA D cl M H) (hb : base ≤ H.size) : base + M.length ≤ H.size := by
  cases hM : M.length with
  | zero => omega
  | succ n =>
    have hl : n < M.length := by omega
    have h1 := hW n _ (mm_ws_at base ext cA (List.getElem?_eq_getElem hl))
    have h2 : base + n < H.size := h1.lt
    omega
theorem mm_W_size {M : mm_M} {H : Heap} {locs : List Loc} {cells slots : Nat} {g : JFrame} (hW : mm_Wd base ext cA D cl M H) (hb : base ≤ H.size) (hz : s.heap.size + cells = base + M.length) (kk : H.size = base + M.length → W p l e R s m args below meth c H locs cells slots Q g) : W p l e R s m args below meth c H locs cells slots Q g := by
  intro T hT Xs
  have h1 := Xs.heapSize
  rw [hT] at h1
  have h2 := mm_Wd_lo base ext cA D cl hW hb
  exact kk (by omega) T hT Xs
theorem mm_W_new {M : mm_M} {H : Heap} {locs : List Loc} {cells slots q : Nat} {ce : va_E} {g : JFrame} (hP : va_P D cl (mm_ws base ext cA M ++ [(q, ce)]) H) (hD : va_D (mm_A base) (mm_ws base ext cA M ++ [(q, ce)])) (hz : s.heap.size + cells = base + M.length + 1) (kk : q = base + M.length → W p l e R s m args below meth c H locs cells slots Q g) : W p l e R s m args below meth c H locs cells slots Q g := by
  intro T hT Xs
  have h1 := Xs.heapSize
  rw [hT] at h1
  have hlen : (mm_ws base ext cA M).length = M.length := by simp [mm_ws]
  have hq : (mm_ws base ext cA M ++ [(q, ce)])[M.length]? = some (q, ce) := by
    rw [List.getElem?_append_right (by omega), hlen, Nat.sub_self]; rfl
  have h2 : q < H.size := (hP _ _ hq).lt
  have h3 : base ≤ q := hD.2 _ _ hq
  have h4 : ¬ q < base + M.length := by
    intro hlt
    have hl : q - base < M.length := by omega
    have hk : (mm_ws base ext cA M ++ [(q, ce)])[q - base]? = some (base + (q - base), mm_ec base ext cA M[q - base]) := by
      rw [List.getElem?_append_left (by omega)]
      exact mm_ws_at base ext cA (List.getElem?_eq_getElem hl)
    have := hD.1 _ _ _ _ hk hq (by show base + (q - base) = q; omega)
    omega
  exact kk (by omega) T hT Xs
theorem mm_en_def (ty : FieldType) : mm_en base ext (defaultValue ty) = defaultValue ty := by
  cases ty <;> rfl
set_option maxHeartbeats 4000000 in
theorem mm_make_snd (hcl : mm_okC cl tb fty) {own nm : String} {cc : ByteArray} (hx : p.tables.exec = Jvm.exec) (hb : c.code = cc) (hown : s.vm.findClass own = some m.cls) (hts : ∀ w ∈ tb, w.before args s = true) (hKs : mm_Ks base ext cA D cl X sf sts sks nws lay s)
    {i : mm_I} {pc pc' : Nat} {st st' : List Value} {M M' : mm_M} (hi : mm_okI cl tb sf sts sks nws own nm cc pc i) (hj : mm_okJ cl tb nws lay fty nf li P own i) (h : mm_make nf li i pc st M = some (pc', st', M')) {H : Heap} {locs : List Loc} {cells slots : Nat} {ls : Array Slot} (hW : mm_Wd base ext cA D cl M H) (hS : va_S (mm_A base) s.heap H locs)
    (hz : s.heap.size + cells = base + M.length) (hbs : base ≤ s.heap.size) (hcells : cells + (M'.length - M.length) ≤ R.cells) (hslots : slots + (mm_sl M' - mm_sl M) ≤ R.slots) (hls : ls.size = c.maxLocals) (hfr : 1 ≤ R.frames) (hlo : 30 ≤ R.locals)
    (kk : ∀ (H' : Heap) (locs' : List Loc), mm_Wd base ext cA D cl M' H' → va_S (mm_A base) s.heap H' locs' → W p l e R s m args below meth c H' locs' (cells + (M'.length - M.length)) (slots + (mm_sl M' - mm_sl M)) Q (F0 m pc' ls (st'.map (mm_en base ext)))) :
    W p l e R s m args below meth c H locs cells slots Q (F0 m pc ls (st.map (mm_en base ext))) := by
  obtain ⟨ins, n, a, b, v, pl⟩ := i
  obtain ⟨hd, hi⟩ := hi
  have hA : ∀ q, s.heap.size ≤ q → mm_A base q := fun q h => Nat.le_trans hbs h
  cases ins with
  | new idx =>
    simp only [mm_make] at h
    obtain ⟨rfl, q, hq, w1, w2, w3, hlen, hdf⟩ := hj
    obtain ⟨g1, g2, g3⟩ := hcl _ q hq
    cases h
    have e1 : (M ++ [(.inr (.inr (a, nf a)) : mm_C)]).length - M.length = 1 := by simp
    have e2 : mm_sl (M ++ [(.inr (.inr (a, nf a)) : mm_C)]) - mm_sl M = q.2.2 := by
      rw [mm_sl_app]
      simp [mm_sl, mm_size, hlen]
    rw [e1] at hcells kk
    rw [e2] at hslots kk
    refine va_new (C := q.1) (T := q.2.1) (N := q.2.2) (fs := (nf a).map (mm_en base ext)) hx hb hts g1 (fty a) g2 hown (hts _ w1) (hts _ w2) (hts _ w3) hKs.1 hW (mm_D base ext cA M) hS hA hq (fun j hj => ?_) hcells hslots hd (fun q0 H1 hP1 hD1 hS1 => ?_)
    · rw [vp_V, List.getD_eq_getElem?_getD, List.getElem?_map, hdf j hj]
      exact (mm_en_def base ext _).symm
    · refine mm_W_new base ext cA D cl hP1 hD1 (by omega) (fun hq0 => ?_)
      subst hq0
      refine kk H1 locs ?_ hS1
      unfold mm_Wd
      rw [mm_ws_app]
      exact hP1
  | newarray t =>
    cases t with
    | int =>
      simp only [mm_make] at h
      have hn2 : n = 2 := hi
      subst hn2
      split at h
      · rename_i k st0
        split at h
        · cases h
        · rename_i hk
          cases h
          have hk1 : ¬ k < 0 := fun z => hk (Or.inl z)
          have hk2 : k.toNatClampNeg ≤ 1000 := Nat.not_lt.mp fun z => hk (Or.inr z)
          have e1 : (M ++ [(.inl (List.replicate k.toNatClampNeg 0) : mm_C)]).length - M.length = 1 := by simp
          have e2 : mm_sl (M ++ [(.inl (List.replicate k.toNatClampNeg 0) : mm_C)]) - mm_sl M = k.toNatClampNeg := by
            rw [mm_sl_app]
            simp [mm_sl, mm_size]
          rw [e1] at hcells kk
          rw [e2] at hslots kk
          refine va_newa (atype := .int) (ty := .int) (a0 := (k.toNatClampNeg, .inl (fun j => (List.replicate k.toNatClampNeg (0 : Int32)).getD j 0))) hx hb (hts _ hj) rfl hKs.1 hW (mm_D base ext cA M) hS hA (fun cB => ?_) hk1 rfl (by show _ * 4 ≤ _; omega) hcells hslots hd (fun q0 cB H1 hK1 hP1 hD1 hS1 => ?_)
          · rw [vp_cell_i]
            congr 1
            funext j9
            by_cases h9 : j9 < k.toNatClampNeg
            · simp [List.getD_eq_getElem?_getD, h9, defaultValue]
            · simp [List.getD_eq_getElem?_getD, h9, defaultValue]
          · have ecB : cB = cA 0 := Option.some.inj ((hK1.2 3 _ rfl).2.symm.trans (hKs.1.2 0 _ rfl).2)
            subst ecB
            refine mm_W_new base ext cA D cl hP1 hD1 (by omega) (fun hq0 => ?_)
            subst hq0
            refine kk H1 locs ?_ hS1
            unfold mm_Wd
            rw [mm_ws_app]
            simpa [mm_ec] using hP1
      · cases h
    | _ => simp [mm_make] at h
  | anewarray idx =>
    simp only [mm_make] at h
    have hn3 : n = 3 := hi
    subst hn3
    have w1 := hj
    split at h
    · rename_i k st0
      split at h
      · cases h
      · rename_i hk
        cases h
        have hk1 : ¬ k < 0 := fun z => hk (Or.inl z)
        have hk2 : k.toNatClampNeg ≤ 1000 := Nat.not_lt.mp fun z => hk (Or.inr z)
        have e1 : (M ++ [(.inr (.inl (1, List.replicate k.toNatClampNeg none)) : mm_C)]).length - M.length = 1 := by simp
        have e2 : mm_sl (M ++ [(.inr (.inl (1, List.replicate k.toNatClampNeg none)) : mm_C)]) - mm_sl M = k.toNatClampNeg := by
          rw [mm_sl_app]
          simp [mm_sl, mm_size]
        rw [e1] at hcells kk
        rw [e2] at hslots kk
        refine va_newq hx hb hown (hts _ w1) hKs.2.2.2.2.2.2.2.1 hKs.1 hW (mm_D base ext cA M) hS hA hk1 rfl (by omega) hcells hslots hd (fun q0 cB H1 hK1 hP1 hD1 hS1 => ?_)
        have ecB : cB = cA 1 := by
          obtain ⟨_, _, _, _, _, z1⟩ := (hK1.2 3 _ rfl).2
          obtain ⟨_, _, _, _, _, z2⟩ := (hKs.1.2 1 _ rfl).2
          exact Option.some.inj (z1.symm.trans z2)
        subst ecB
        refine mm_W_new base ext cA D cl hP1 hD1 (by omega) (fun hq0 => ?_)
        subst hq0
        refine kk H1 locs ?_ hS1
        unfold mm_Wd
        rw [mm_ws_app]
        have e3 : mm_ec base ext cA (.inr (.inl (1, List.replicate k.toNatClampNeg none))) = .inl (cA 1, k.toNatClampNeg, .inr (.inr (.inr (.inr (fun _ => none))))) := by
          simp only [mm_ec, List.length_replicate]
          have e4 : (fun j => Option.map (fun k => base + k) ((List.replicate k.toNatClampNeg (none : Option Nat)).getD j none)) = fun _ => none := by
            funext j9
            by_cases h9 : j9 < k.toNatClampNeg <;> simp [List.getD_eq_getElem?_getD, h9]
          rw [e4]
        rw [e3]
        exact hP1
    · cases h
  | multianewarray idx dd =>
    have hn4 : n = 4 := hi
    subst hn4
    by_cases h2 : dd = 2
    · subst h2
      simp only [mm_make] at h
      obtain ⟨w1, w3⟩ := hj
      split at h
      · rename_i k j st0
        split at h
        · cases h
        · rename_i hk
          cases h
          have hk1 : ¬ j < 0 := fun z => hk (Or.inl (Or.inl z))
          have hk2 : ¬ k < 0 := fun z => hk (Or.inl (Or.inr z))
          have hk3 : j.toNatClampNeg ≤ 1000 := Nat.not_lt.mp fun z => hk (Or.inr (Or.inl z))
          have hk4 : k.toNatClampNeg ≤ 1000 := Nat.not_lt.mp fun z => hk (Or.inr (Or.inr z))
          have e1 : (mm_multi M j.toNatClampNeg k.toNatClampNeg).length - M.length = 1 + j.toNatClampNeg := by simp [mm_multi]; omega
          have e2 : mm_sl (mm_multi M j.toNatClampNeg k.toNatClampNeg) - mm_sl M = j.toNatClampNeg + j.toNatClampNeg * k.toNatClampNeg := by
            unfold mm_multi
            rw [mm_sl_app]
            simp [mm_sl, mm_size]
          rw [e1] at hcells kk
          rw [e2] at hslots kk
          refine mm_W_size base ext cA D cl hW (Nat.le_trans hbs hS.1) hz (fun hsz => ?_)
          refine mm_mna base ext cA D cl lay hx hb hown (hts _ w1) hKs.2.2.2.2.2.2.2.2 (hts _ w3) hKs.1 hW hsz hS hk1 hk2 (by omega) (by omega) hcells hslots hd (fun H1 hW1 hS1 => ?_)
          have h9 := kk H1 locs hW1 hS1
          rw [show cells + 1 + j.toNatClampNeg = cells + (1 + j.toNatClampNeg) by omega, show slots + j.toNatClampNeg + j.toNatClampNeg * k.toNatClampNeg = slots + (j.toNatClampNeg + j.toNatClampNeg * k.toNatClampNeg) by omega]
          exact h9
      · cases h
    · unfold mm_make at h
      split at h <;> simp_all
  | aastore =>
    simp only [mm_make] at h
    have hn1 : n = 1 := hi
    subst hn1
    obtain ⟨q, hq, hql⟩ := hj
    split at h
    · rename_i v9 j a9 st0
      split at h
      · rename_i rs hM
        split at h
        · rename_i ci fs hV
          split at h
          · rename_i hc
            obtain ⟨rfl, hj0, hjl⟩ := hc
            cases h
            have hin : vp_in j rs.length := fun z => by
              rcases z with z | z
              · exact hj0 z
              · omega
            have e1 : (M.set a9 (.inr (.inl (1, rs.set j.toNatClampNeg (some v9))))).length - M.length = 0 := by simp
            have e2 : mm_sl (M.set a9 (.inr (.inl (1, rs.set j.toNatClampNeg (some v9))))) - mm_sl M = 0 := by
              rw [mm_sl_set hM (by simp [mm_size])]; omega
            rw [e1] at kk
            rw [e2] at kk
            subst hql
            refine va_astq (r := q) (vs := fs.map (mm_en base ext)) hx hb hKs.1 hW (mm_D base ext cA M) hS a9 1 v9 ci (mm_ws_at base ext cA hM) rfl (mm_ws_at base ext cA hV) hq hin hd (fun H1 locs1 hP1 hD1 hS1 => ?_)
            refine kk H1 locs1 ?_ hS1
            unfold mm_Wd
            rw [mm_ws_set]
            have e3 : mm_ec base ext cA (.inr (.inl (1, rs.set j.toNatClampNeg (some v9)))) = .inl (cA 1, rs.length, .inr (.inr (.inr (.inr (va_up (fun j => Option.map (fun k => base + k) (rs.getD j none)) j.toNatClampNeg (some (base + v9))))))) := by
              simp only [mm_ec, List.length_set]
              have e4 : (fun j9 => Option.map (fun k => base + k) ((rs.set j.toNatClampNeg (some v9)).getD j9 none)) = va_up (fun j => Option.map (fun k => base + k) (rs.getD j none)) j.toNatClampNeg (some (base + v9)) := by
                funext j9
                show Option.map (fun k => base + k) ((rs.set j.toNatClampNeg (some v9)).getD j9 none) = if j9 = j.toNatClampNeg then some (base + v9) else Option.map (fun k => base + k) (rs.getD j9 none)
                rw [List.getD_eq_getElem?_getD, List.getD_eq_getElem?_getD]
                by_cases h9 : j9 = j.toNatClampNeg
                · subst h9
                  rw [List.getElem?_set_self hjl, if_pos rfl]; rfl
                · rw [List.getElem?_set_ne (Ne.symm h9), if_neg h9]
              rw [e4]
            rw [e3]
            exact hP1
          · cases h
        · cases h
      · cases h
    · cases h
  | invokespecial idx =>
    simp only [mm_make] at h
    obtain ⟨rfl, hj⟩ := hj
    split at h
    · rename_i hk
      rcases hj with ⟨-, w1, w2, w3⟩ | ⟨hk2, -⟩
      · split at h
        · rename_i v9 st0
          split at h
          · rename_i hsum
            cases h
            rw [Nat.sub_self, Nat.sub_self] at kk
            have hcat : ((List.map (mm_en base ext) st').map fun v => v.category).sum ≤ 8 := by
              rw [List.map_map]
              have : ((fun v => v.category) ∘ mm_en base ext) = Value.category := by funext z; exact mm_en_cat base ext z
              rw [this]
              exact hsum
            exact W.objInit hx hb hown (hts _ w1) (hts _ w2) (hts _ w3) rfl hls rfl hd hfr (by have h8 := hcat; show 2 * 0 + _ + 12 ≤ _; omega) (kk H locs hW hS)
          · cases h
        · cases h
      · exact absurd hk hk2
    · cases h
  | invokestatic idx =>
    simp only [mm_make] at h
    obtain ⟨rfl, hj⟩ := hj
    have hcat : ∀ st9 : List Value, (st9.map Value.category).sum ≤ 8 → ((List.map (mm_en base ext) st9).map fun v => v.category).sum + 13 ≤ R.locals := by
      intro st9 hsum
      rw [List.map_map]
      have : ((fun v => v.category) ∘ mm_en base ext) = Value.category := by funext z; exact mm_en_cat base ext z
      rw [this]
      omega
    split at h
    · rename_i hk
      rcases hj with ⟨-, w1, w2, w3, w4⟩ | ⟨hk2, -⟩ | ⟨hk2, -⟩
      · split at h
        · split at h
          · rename_i hsum
            cases h
            rw [Nat.sub_self, Nat.sub_self] at kk
            exact va_mmax hx hb hls.symm hown (hts _ w1) (hts _ w2) (hts _ w3) (hts _ w4) hfr (hcat _ hsum) (by omega) (by omega) hd (kk H locs hW hS)
          · cases h
        · cases h
      · omega
      · exact absurd (Or.inl hk) hk2
    · rename_i hk7
      split at h
      · rename_i hk
        rcases hj with ⟨hk2, -⟩ | ⟨-, w1, w2, w3, w4⟩ | ⟨hk2, -⟩
        · exact absurd hk2 hk7
        · split at h
          · split at h
            · rename_i hsum
              cases h
              rw [Nat.sub_self, Nat.sub_self] at kk
              exact va_mmin hx hb hls.symm hown (hts _ w1) (hts _ w2) (hts _ w3) (hts _ w4) hfr (hcat _ hsum) (by omega) (by omega) hd (kk H locs hW hS)
            · cases h
          · cases h
        · exact absurd (Or.inr hk) hk2
      · cases h
  | _ => simp [mm_make] at h
end MM5
end
section
section MM6
variable (base : Nat) (ext : Nat → Option Nat) (cA : Nat → ClassId) (D : va_G) (cl : List vw_C) (tb : List Cond) (X : mm_X) (sf : Nat → String × String) (sts : List (String × String × String × Value)) (sks : List (String × Nat × String × Nat)) (nws : List Cond) (lay : String) (fty : Nat → Nat → FieldType) (nf : Nat → List Value) (li : Nat) (P : Nat → Option mm_Mt)
def mm_Pc (as : List Value) (M : mm_M) : Array Value → State → Prop := fun v U => v = (as.map (mm_en base ext)).toArray ∧ U.heap.size = base + M.length ∧ mm_Wd base ext cA D cl M U.heap ∧ mm_Ks base ext cA D cl X sf sts sks nws lay U
def mm_Qc (r : Option Value) (M' : mm_M) : Array Value → State → Outcome → State → Prop := fun _ st oc t => oc = .returned (r.map (mm_en base ext)) ∧ mm_Wd base ext cA D cl M' t.heap ∧ va_F (mm_A base) st t
def mm_rm (d mc ms : Nat) : Room := { frames := d, cells := mc, slots := ms, locals := 60 * d }
/-- a method's contract at depth d for these arguments and this memory -/
def mm_Met (l : Launch) (d : Nat) (as : List Value) (M : mm_M) (r : Option Value) (M' : mm_M) (y : MethodName) (b : ByteArray) (mL : Nat) (rt : Option FieldType) : Prop :=
  Met l y (.code y b mL rt :: tb) (mm_rm d (M'.length - M.length) (mm_sl M' - mm_sl M)) (mm_Pc base ext cA D cl X sf sts sks nws lay as M) (mm_Qc base ext cA D cl r M') (M'.length - M.length) (mm_sl M' - mm_sl M) (mm_A base)
theorem mm_Ks_moved {s U : State} {H : Heap} {locs : List Loc} (h : mm_Ks base ext cA D cl X sf sts sks nws lay s) (hS : va_S (mm_A base) s.heap H locs) (hH : U.heap = H) (hW : s.WarmedH U.vm) : mm_Ks base ext cA D cl X sf sts sks nws lay U := by
  subst hH
  refine ⟨va_K.moved hW.alike h.1, fun n xs hX => ?_, fun n fs hX => ?_, fun w hw => ?_, fun w hw => ?_, fun a b c d e f hw => (h.2.2.2.2.2.1 _ _ _ _ _ _ hw).warmF hW, fun a b c d hw => (h.2.2.2.2.2.2.1 _ _ _ _ hw).warmM hW, h.2.2.2.2.2.2.2.1.moved hW.alike, arrayOver_alikeB hW.alike h.2.2.2.2.2.2.2.2⟩
  · obtain ⟨t, ht, hT⟩ := h.2.1 n xs hX
    exact ⟨t, ht, (hT.moved hW.alike).kept hS.2.1⟩
  · obtain ⟨t, ht, hO, hF⟩ := h.2.2.1 n fs hX
    exact ⟨t, ht, (hO.moved hW.alike).kept hS.2.1, fun k v hv => ((hF k v hv).moved hW.alike).kept hS.2.1⟩
  · exact ((h.2.2.2.1 w hw).moved hW.alike).kept hS.2.1
  · obtain ⟨t, ht, hR⟩ := h.2.2.2.2.1 w hw
    exact ⟨t, ht, hR.warm hW⟩
theorem mm_Ks_calling {U : State} {g : JFrame} {mk : MethodId} {a : Array Value} (h : mm_Ks base ext cA D cl X sf sts sks nws lay U) : mm_Ks base ext cA D cl X sf sts sks nws lay (U.calling g mk a) := by
  refine ⟨va_K.moved (u := U) (Vm.Alike.refl U.vm) h.1, fun n xs hX => ?_, fun n fs hX => ?_, fun w hw => ?_, fun w hw => ?_, fun a b c d e f hw => va_Nw.same (u := U) rfl rfl (h.2.2.2.2.2.1 _ _ _ _ _ _ hw), fun a b c d hw => va_Nw.same (u := U) rfl rfl (h.2.2.2.2.2.2.1 _ _ _ _ hw), va_AO.moved (u := U) (Vm.Alike.refl U.vm) h.2.2.2.2.2.2.2.1, arrayOver_alikeB (s := U) (Vm.Alike.refl U.vm) h.2.2.2.2.2.2.2.2⟩
  · obtain ⟨t, ht, hT⟩ := h.2.1 n xs hX
    exact ⟨t, ht, va_T.moved (u := U) (Vm.Alike.refl U.vm) hT⟩
  · obtain ⟨t, ht, hO, hF⟩ := h.2.2.1 n fs hX
    exact ⟨t, ht, va_O.moved (u := U) (Vm.Alike.refl U.vm) hO, fun k v hv => va_OF.moved (u := U) (Vm.Alike.refl U.vm) (hF k v hv)⟩
  · exact va_Z.moved (u := U) (Vm.Alike.refl U.vm) (h.2.2.2.1 w hw)
  · obtain ⟨t, ht, hR⟩ := h.2.2.2.2.1 w hw
    exact ⟨t, ht, vk_R.same (u := U) rfl hR⟩
theorem mm_blind (as : List Value) (M : mm_M) : FrameBlind (mm_Pc base ext cA D cl X sf sts sks nws lay as M) := by
  intro a U g mk h
  obtain ⟨h1, h2, h3, h4⟩ := h
  exact ⟨h1, h2, h3, mm_Ks_calling base ext cA D cl X sf sts sks nws lay h4⟩
variable {p : Program} {l : Launch} {e : Env} {R : Room} {s : State} {m : MethodId} {args : Array Value} {below : List Frame} {meth : Method} {c : Code} {Q : State → Prop}
theorem mm_callR {H : Heap} {locs : List Loc} {cells slots mc ms pc : Nat} {ls : Array Slot} {st0 rest : List Value} {a : Array Value} {r : Option Value} {M' : mm_M} (hr : va_Run p l e R s m args below meth c H locs cells slots mc ms (F0 m pc ls st0) rest (mm_Qc base ext cA D cl r M' a) (mm_A base)) (hS : va_S (mm_A base) s.heap H locs)
    (kk : ∀ (H1 : Heap) (locs1 : List Loc), mm_Wd base ext cA D cl M' H1 → va_S (mm_A base) s.heap H1 locs1 → W p l e R s m args below meth c H1 locs1 (cells + mc) (slots + ms) Q (F0 m (pc + 3) ls ((r.map (mm_en base ext)).toList ++ rest))) : W p l e R s m args below meth c H locs cells slots Q (F0 m pc ls st0) := by
  intro T hT Xs
  obtain ⟨v, st₀, t, T', L, h0, X', hL, e1, e2, ⟨hv, hw, hz, hk⟩, st⟩ := hr T hT Xs
  cases hv
  rw [h0] at hz hk
  obtain ⟨t2, a1, b1⟩ := kk T'.heap (locs ++ L) (by rw [e1]; exact hw)
    ⟨Nat.le_trans hS.1 (by rw [e1]; exact hz), fun q h1 h2 => by rw [e1, hk q (Nat.lt_of_lt_of_le h1 hS.1) h2]; exact hS.2.1 q h1 h2, fun q hq => by
      rcases List.mem_append.mp hq with h | h
      · exact hS.2.2 q h
      · exact hL q h⟩ T' rfl X'
  exact ⟨t2, st t2 a1, b1⟩
theorem mm_good {Ts ws : List Cond} {cw : Cond} (hT : ∀ w ∈ tb, w ∈ Ts) (hg : ∀ w ∈ tb, goodWord w = true) (hc : cw ∈ tb) (hws : ∀ w ∈ ws, w = cw ∨ w ∈ tb) : GoodIn Ts ws := by
  intro w hw
  have : w ∈ tb := by
    rcases hws w hw with h | h
    · rw [h]; exact hc
    · exact h
  exact ⟨hT w this, good_of_word (hg w this)⟩
end MM6
end
section
section MM7
variable (base : Nat) (ext : Nat → Option Nat) (cA : Nat → ClassId) (D : va_G) (cl : List vw_C) (tb : List Cond) (X : mm_X) (sf : Nat → String × String) (sts : List (String × String × String × Value)) (sks : List (String × Nat × String × Nat)) (nws : List Cond) (lay : String) (fty : Nat → Nat → FieldType) (nf : Nat → List Value) (li : Nat) (P : Nat → Option mm_Mt)
/-- every method's table is right -/
def mm_okP : Prop := ∀ (k : Nat) (y : MethodName) (b : ByteArray) (mL : Nat) (rt : Option FieldType) (ci : Nat) (co : Nat → Option mm_I), P k = some (y, b, mL, rt, ci, co) →
  plainName y.cls = true ∧ mL ≤ 41 ∧ Cond.code y b mL rt ∈ tb ∧ ∀ (pc : Nat) (i : mm_I), co pc = some i → mm_okI cl tb sf sts sks nws y.cls y.name b pc i ∧ mm_okJ cl tb nws lay fty nf li P y.cls i
theorem mm_run_mono {cls : Nat → Nat} {call : Nat → List Value → mm_M → Option (Option Value × mm_M)} (hc : ∀ (k : Nat) (as : List Value) (M : mm_M) (r : Option Value) (M' : mm_M), call k as M = some (r, M') → M.length ≤ M'.length ∧ mm_sl M ≤ mm_sl M') {ret : Option FieldType} {code : Nat → Option mm_I} {r : Option Value} {M' : mm_M} :
    ∀ (f pc : Nat) (L : mm_L) (st : List Value) (M : mm_M), mm_run fty X nf li cls call ret code f pc L st M = some (r, M') → M.length ≤ M'.length ∧ mm_sl M ≤ mm_sl M' := by
  intro f
  induction f with
  | zero => intro pc L st M h; simp [mm_run] at h
  | succ f ih =>
    intro pc L st M h
    simp only [mm_run] at h
    split at h
    · cases h
    · split at h
      · cases h
        exact ⟨Nat.le_refl _, Nat.le_refl _⟩
      · split at h
        · split at h
          · split at h
            · rename_i hq
              have h1 := hc _ _ _ _ _ hq
              have h2 := ih _ _ _ _ h
              exact ⟨Nat.le_trans h1.1 h2.1, Nat.le_trans h1.2 h2.2⟩
            · cases h
          · cases h
        · split at h
          · rename_i hq
            have h1 := mm_make_len hq
            have h2 := ih _ _ _ _ h
            exact ⟨Nat.le_trans h1.1 h2.1, Nat.le_trans h1.2 h2.2⟩
          · split at h
            · rename_i hq
              have h1 := mm_step_len hq
              have h2 := ih _ _ _ _ h
              rw [h1.2.1, h1.2.2] at h2
              exact h2
            · cases h
theorem mm_ev_mono (F : Nat) : ∀ (d k : Nat) (as : List Value) (M : mm_M) (r : Option Value) (M' : mm_M), mm_ev fty X nf li P F d k as M = some (r, M') → M.length ≤ M'.length ∧ mm_sl M ≤ mm_sl M' := by
  intro d
  induction d with
  | zero => intro k as M r M' h; simp [mm_ev] at h
  | succ d ih =>
    intro k as M r M' h
    simp only [mm_ev] at h
    split at h
    · cases h
    · split at h
      · exact mm_run_mono X fty nf li ih _ _ _ _ _ h
      · cases h
variable {p : Program} {l : Launch} {e : Env} {R : Room} {s : State} {m : MethodId} {args : Array Value} {below : List Frame} {meth : Method} {c : Code} {Q : State → Prop}
theorem mm_cat (st : List Value) : ((st.map (mm_en base ext)).map fun v => v.category).sum = (st.map Value.category).sum := by
  rw [List.map_map]
  have : ((fun v => v.category) ∘ mm_en base ext) = Value.category := by funext z; exact mm_en_cat base ext z
  rw [this]
theorem mm_cut {st as : List Value} {n : Nat} {v : Value} (h : (st.take n).reverse = v :: as) : st.map (mm_en base ext) = (as.map (mm_en base ext)).reverse ++ mm_en base ext v :: (st.drop n).map (mm_en base ext) := by
  have h1 : st.take n = as.reverse ++ [v] := by rw [← List.reverse_reverse (st.take n), h]; simp
  conv => lhs; rw [← List.take_append_drop n st, h1]
  simp
theorem mm_cut0 {st : List Value} {n : Nat} : st.map (mm_en base ext) = (((st.take n).reverse).map (mm_en base ext)).reverse ++ (st.drop n).map (mm_en base ext) := by
  conv => lhs; rw [← List.take_append_drop n st]
  simp
set_option maxHeartbeats 4000000 in
theorem mm_inv_snd (hg : ∀ w ∈ tb, goodWord w = true) (hPk : mm_okP cl tb sf sts sks nws lay fty nf li P) {own nm : String} {cc : ByteArray} (hx : p.tables.exec = Jvm.exec) (hb : c.code = cc) (hown : s.vm.findClass own = some m.cls) (hts : ∀ w ∈ tb, w.before args s = true) (hKs : mm_Ks base ext cA D cl X sf sts sks nws lay s) {d : Nat} (hRf : d + 1 ≤ R.frames) (hRl : 60 * (d + 1) ≤ R.locals)
    {i : mm_I} {kd k n pc : Nat} {st : List Value} {M M1 : mm_M} {r : Option Value} (hinv : mm_inv i = some (kd, k, n)) (hi : mm_okI cl tb sf sts sks nws own nm cc pc i) (hj : mm_okJ cl tb nws lay fty nf li P own i) (hn : n ≤ st.length) (hrok : mm_rok X M kd (mm_cls P k) (st.take n).reverse = true) (hsum : ((st.drop n).map Value.category).sum ≤ 8)
    (hM : ∀ (y : MethodName) (b : ByteArray) (mL : Nat) (rt : Option FieldType) (ci : Nat) (co : Nat → Option mm_I), P k = some (y, b, mL, rt, ci, co) → mm_Met base ext cA D cl tb X sf sts sks nws lay l d (st.take n).reverse M r M1 y b mL rt)
    {H : Heap} {locs : List Loc} {cells slots : Nat} {ls : Array Slot} (hW : mm_Wd base ext cA D cl M H) (hsz : H.size = base + M.length) (hS : va_S (mm_A base) s.heap H locs) (hls : ls.size = c.maxLocals) (hcells : cells + (M1.length - M.length) ≤ R.cells) (hslots : slots + (mm_sl M1 - mm_sl M) ≤ R.slots) :
    va_Run p l e R s m args below meth c H locs cells slots (M1.length - M.length) (mm_sl M1 - mm_sl M) (F0 m pc ls (st.map (mm_en base ext))) ((st.drop n).map (mm_en base ext)) (mm_Qc base ext cA D cl r M1 ((st.take n).reverse.map (mm_en base ext)).toArray) (mm_A base) := by
  obtain ⟨ins, len, a, b9, v, pl⟩ := i
  obtain ⟨hd, hi⟩ := hi
  have hsum' : 2 * (F0 m pc ls (st.map (mm_en base ext))).monitorRoom + (((st.drop n).map (mm_en base ext)).map fun v => v.category).sum ≤ 8 := lv_room (by rw [mm_cat]; exact hsum)
  have hPre : ∀ U : State, U.heap = H → s.WarmedH U.vm → mm_Pc base ext cA D cl X sf sts sks nws lay (st.take n).reverse M (((st.take n).reverse).map (mm_en base ext)).toArray U := fun U hU hWm => ⟨rfl, by rw [hU]; exact hsz, by rw [hU]; exact hW, mm_Ks_moved base ext cA D cl X sf sts sks nws lay hKs hS hU hWm⟩
  have hbl := mm_blind base ext cA D cl X sf sts sks nws lay (st.take n).reverse M
  have hroom : ∀ mL, mL ≤ 41 → (mm_rm d (M1.length - M.length) (mm_sl M1 - mm_sl M)).frames + 1 ≤ R.frames ∧ 8 + (mL + 11) + (mm_rm d (M1.length - M.length) (mm_sl M1 - mm_sl M)).locals ≤ R.locals := fun mL hmL => ⟨hRf, by show 8 + (mL + 11) + 60 * d ≤ R.locals; omega⟩
  have hGood : ∀ (cw : Cond), cw ∈ tb → GoodIn tb (cw :: tb) := fun cw hcw => mm_good tb (fun _ h => h) hg hcw (fun w hw => List.mem_cons.mp hw)
  have hFix : CallFix p m c cc c.maxLocals s args tb own := ⟨hx, hb, rfl, hown, hts⟩
  have htl : ((st.take n).reverse).length = n := by simp; omega
  cases ins with
  | invokevirtual idx =>
    simp only [mm_inv, Option.some.injEq, Prod.mk.injEq] at hinv
    obtain ⟨rfl, rfl, rfl⟩ := hinv
    obtain ⟨rfl, y, b, mL, rt, ci, co, hP1, w1, w2, w3, w4, w5, w6, w7, w8, w9⟩ := hj
    obtain ⟨o1, o2, o3, -⟩ := hPk _ _ _ _ _ _ _ hP1
    have hcls : mm_cls P a = ci := by simp [mm_cls, hP1]
    rw [hcls] at hrok
    have hMet := hM _ _ _ _ _ _ hP1
    have hGV : GoodIn tb (wsV own idx y.cls y (.code y b mL rt :: tb)) := by
      intro w hw
      unfold wsV at hw
      rcases List.mem_append.mp hw with h | h
      · have : w ∈ tb := by
          simp only [List.mem_cons, List.not_mem_nil, or_false] at h
          rcases h with h | h | h | h <;> (subst h; assumption)
        exact ⟨this, good_of_word (hg w this)⟩
      · exact hGood _ o3 w h
    simp only [mm_rok] at hrok
    split at hrok
    · rename_i b0 as0 has
      split at hrok
      · rename_i c9 fs hMb
        simp only [Bool.and_eq_true, beq_iff_eq, Bool.not_eq_true', beq_eq_false_iff_ne] at hrok
        obtain ⟨rfl, h99⟩ := hrok
        rcases w9 with ⟨h9, -⟩ | ⟨q, hq, hqy, -⟩
        · exact absurd h9 h99
        · have hcut := mm_cut base ext has
          rw [has] at hMet hPre hbl ⊢
          exact va_runV (C := y.cls) (As := as0.map (mm_en base ext)) (b := base + b0) hFix hMet (cwV _ hts hGV rfl rfl rfl ⟨rfl, w5, w6, w8⟩ (hroom mL o2)) ⟨hbl, by rw [← hqy]; exact va_recv hKs.1 hW (ci := c9) (q0 := b0) hq (mm_ws_at base ext cA hMb), hPre⟩ rfl (by have := congrArg List.length has; rw [htl] at this; simp at this ⊢; omega) hls hcut hsum' hd ⟨hcells, hslots⟩
      · cases hrok
    · rename_i n0 as0 has
      split at hrok
      · rename_i fs hXn
        have h99 : ci = 99 := by simpa using hrok
        obtain ⟨t, ht, hO, -⟩ := hKs.2.2.1 _ _ hXn
        rcases w9 with ⟨-, hys⟩ | ⟨q, hq, hqy, hn99⟩
        · have hcut := mm_cut base ext has
          have hen : mm_en base ext (.retAddr n0) = .ref t := by simp [mm_en, ht, va_rf]
          rw [has] at hMet hPre hbl ⊢
          rw [List.map_cons, hen] at hPre ⊢
          rw [hen] at hcut
          exact va_runV (C := y.cls) (As := as0.map (mm_en base ext)) (b := t) hFix hMet (cwV _ hts hGV rfl rfl rfl ⟨rfl, w5, w6, w8⟩ (hroom mL o2)) ⟨hbl, by
            rw [hys]
            obtain ⟨cell, z1, z2, z3, -⟩ := hO.kept hS.2.1
            exact ⟨cell, z1, z2, z3⟩, hPre⟩ rfl (by have := congrArg List.length has; rw [htl] at this; simp at this ⊢; omega) hls hcut hsum' hd ⟨hcells, hslots⟩
        · exact absurd h99 hn99
      · cases hrok
    · cases hrok
  | invokespecial idx =>
    simp only [mm_inv] at hinv
    split at hinv
    · cases hinv
    · simp only [Option.some.injEq, Prod.mk.injEq] at hinv
      obtain ⟨rfl, rfl, rfl⟩ := hinv
      obtain ⟨rfl, ⟨h999, -⟩ | ⟨-, y, b, mL, ci, co, hP1, w1, w2, w3, w4, w5, w6, w7, w8⟩⟩ := hj
      · exact absurd h999 ‹_›
      · obtain ⟨o1, o2, o3, -⟩ := hPk _ _ _ _ _ _ _ hP1
        have hMet := hM _ _ _ _ _ _ hP1
        simp only [mm_rok] at hrok
        split at hrok
        · rename_i b0 as0 has
          have hcut := mm_cut base ext has
          rw [has] at hMet hPre hbl ⊢
          rcases w1 with w1 | ⟨host, w1⟩
          · exact va_runI (As := as0.map (mm_en base ext)) (b := base + b0) hFix hMet (cwI _ hts (hGood _ o3) rfl rfl rfl (hts _ w3) (hts _ w1) (hts _ w2) w4 ⟨w5, w6, w8⟩ (hroom mL o2)) ⟨hbl, hPre⟩ rfl (by have := congrArg List.length has; rw [htl] at this; simp at this ⊢; omega) hls hcut hsum' hd ⟨hcells, hslots⟩
          · exact va_runIN (As := as0.map (mm_en base ext)) (b := base + b0) hFix hMet ⟨va_cnB _ hts (hGood _ o3) rfl rfl rfl (hKs.2.2.2.2.2.2.1 _ _ _ _ w1) (hts _ w3) ⟨w5, w6, w8⟩ (hroom mL o2), w4, hts _ w2⟩ ⟨hbl, hPre⟩ rfl (by have := congrArg List.length has; rw [htl] at this; simp at this ⊢; omega) hls hcut hsum' hd ⟨hcells, hslots⟩
        · cases hrok
  | invokestatic idx =>
    simp only [mm_inv] at hinv
    split at hinv
    · cases hinv
    rename_i hk78
    simp only [Option.some.injEq, Prod.mk.injEq] at hinv
    obtain ⟨rfl, rfl, rfl⟩ := hinv
    obtain ⟨rfl, ⟨hk7, -⟩ | ⟨hk8, -⟩ | ⟨-, y, b, mL, rt, ci, co, hP1, w1, w2, w3, w5, w6, w8⟩⟩ := hj
    · exact absurd (Or.inl hk7) hk78
    · exact absurd (Or.inr hk8) hk78
    obtain ⟨o1, o2, o3, -⟩ := hPk _ _ _ _ _ _ _ hP1
    have hMet := hM _ _ _ _ _ _ hP1
    rcases w1 with w1 | ⟨host, w1⟩
    · have hGS : GoodIn tb (va_wsS own idx y (.code y b mL rt :: tb)) := by
        intro w hw
        unfold va_wsS at hw
        rcases List.mem_append.mp hw with h | h
        · have : w ∈ tb := by
            simp only [List.mem_cons, List.not_mem_nil, or_false] at h
            rcases h with h | h | h <;> (subst h; assumption)
          exact ⟨this, good_of_word (hg w this)⟩
        · exact hGood _ o3 w h
      exact va_runS (As := ((st.take _).reverse).map (mm_en base ext)) hFix hMet (va_cwS _ hts hGS rfl rfl rfl ⟨w5, w6, w8⟩ (hroom mL o2)) ⟨hbl, hPre⟩ rfl (by simp; omega) hls (mm_cut0 base ext) hsum' hd ⟨hcells, hslots⟩
    · exact va_runSN (As := ((st.take _).reverse).map (mm_en base ext)) hFix hMet ⟨va_cnB _ hts (hGood _ o3) rfl rfl rfl (hKs.2.2.2.2.2.2.1 _ _ _ _ w1) (hts _ w3) ⟨w5, w6, w8⟩ (hroom mL o2), hts _ w2, trivial⟩ ⟨hbl, hPre⟩ rfl (by simp; omega) hls (mm_cut0 base ext) hsum' hd ⟨hcells, hslots⟩
  | _ => simp [mm_inv] at hinv
end MM7
end
section
section MM8
variable (base : Nat) (ext : Nat → Option Nat) (cA : Nat → ClassId) (D : va_G) (cl : List vw_C) (tb : List Cond) (X : mm_X) (sf : Nat → String × String) (sts : List (String × String × String × Value)) (sks : List (String × Nat × String × Nat)) (nws : List Cond) (lay : String) (fty : Nat → Nat → FieldType) (nf : Nat → List Value) (li : Nat) (P : Nat → Option mm_Mt)
variable {p : Program} {l : Launch} {e : Env} {R : Room} {s : State} {m : MethodId} {args : Array Value} {below : List Frame} {meth : Method} {c : Code} {Q : State → Prop}
set_option maxHeartbeats 4000000 in
/-- a body's run on the small machine is one of the true machine, up to its return -/
theorem mm_run_snd (hcl : mm_okC cl tb fty) (hg : ∀ w ∈ tb, goodWord w = true) (hPk : mm_okP cl tb sf sts sks nws lay fty nf li P) {own nm : String} {cc : ByteArray} (hx : p.tables.exec = Jvm.exec) (hb : c.code = cc) (hown : s.vm.findClass own = some m.cls) (hts : ∀ w ∈ tb, w.before args s = true) (hname : meth.name = nm) (hKs : mm_Ks base ext cA D cl X sf sts sks nws lay s) {d : Nat} (hRf : d + 1 ≤ R.frames) (hRl : 60 * (d + 1) ≤ R.locals) (hbs : base ≤ s.heap.size)
    {call : Nat → List Value → mm_M → Option (Option Value × mm_M)} (hmono : ∀ (k : Nat) (as : List Value) (M : mm_M) (r : Option Value) (M' : mm_M), call k as M = some (r, M') → M.length ≤ M'.length ∧ mm_sl M ≤ mm_sl M')
    (hcall : ∀ (k : Nat) (as : List Value) (M : mm_M) (r : Option Value) (M' : mm_M), call k as M = some (r, M') → ∀ (y : MethodName) (b : ByteArray) (mL : Nat) (rt : Option FieldType) (ci : Nat) (co : Nat → Option mm_I), P k = some (y, b, mL, rt, ci, co) → mm_Met base ext cA D cl tb X sf sts sks nws lay l d as M r M' y b mL rt)
    {ret : Option FieldType} {code : Nat → Option mm_I} (hcode : ∀ (pc : Nat) (i : mm_I), code pc = some i → mm_okI cl tb sf sts sks nws own nm cc pc i ∧ mm_okJ cl tb nws lay fty nf li P own i) {r : Option Value} {M' : mm_M} {s0 : Nat} (hRc : base + M'.length ≤ s.heap.size + R.cells) (hRs : mm_sl M' ≤ R.slots + s0)
    (hend : ∀ (pc : Nat) (i : mm_I) (ls : Array Slot) (st : List Value) (H : Heap) (locs : List Loc) (cells slots : Nat), code pc = some i → mm_ret ret i st = some r → mm_Wd base ext cA D cl M' H → va_S (mm_A base) s.heap H locs → s.heap.size + cells = base + M'.length → slots + s0 = mm_sl M' → W p l e R s m args below meth c H locs cells slots Q (F0 m pc ls (st.map (mm_en base ext)))) :
    ∀ (f pc : Nat) (L : mm_L) (st : List Value) (M : mm_M), mm_run fty X nf li (mm_cls P) call ret code f pc L st M = some (r, M') → ∀ (H : Heap) (locs : List Loc) (cells slots : Nat) (ls : Array Slot), mm_Wd base ext cA D cl M H → va_S (mm_A base) s.heap H locs → mm_LH base ext ls L → L.length = c.maxLocals → s.heap.size + cells = base + M.length → slots + s0 = mm_sl M →
      W p l e R s m args below meth c H locs cells slots Q (F0 m pc ls (st.map (mm_en base ext))) := by
  intro f
  induction f with
  | zero => intro pc L st M h; simp [mm_run] at h
  | succ f ih =>
    intro pc L st M h H locs cells slots ls hW hS hL hLm hz hs0
    simp only [mm_run] at h
    split at h
    · cases h
    · rename_i i hi
      obtain ⟨hI, hJ⟩ := hcode pc i hi
      split at h
      · rename_i r1 hr
        cases h
        exact hend pc i ls st H locs cells slots hi hr hW hS hz hs0
      · split at h
        · rename_i kd k n hinv
          split at h
          · rename_i hcond
            obtain ⟨c1, c2, c3⟩ := hcond
            split at h
            · rename_i r1 M1 hc1
              have m1 := hmono _ _ _ _ _ hc1
              have m2 := mm_run_mono X fty nf li hmono _ _ _ _ _ h
              refine mm_W_size base ext cA D cl hW (Nat.le_trans hbs hS.1) hz (fun hsz => ?_)
              have hls : ls.size = c.maxLocals := hL.1.trans hLm
              refine mm_callR base ext cA D cl (mm_inv_snd base ext cA D cl tb X sf sts sks nws lay fty nf li P hg hPk hx hb hown hts hKs hRf hRl hinv hI hJ c1 c2 c3 (hcall _ _ _ _ _ hc1) hW hsz hS hls (by omega) (by omega)) hS (fun H1 locs1 hW1 hS1 => ?_)
              have h9 := ih _ _ _ _ h H1 locs1 (cells + (M1.length - M.length)) (slots + (mm_sl M1 - mm_sl M)) ls hW1 hS1 hL hLm (by omega) (by omega)
              rw [List.map_append] at h9
              have e9 : (r1.toList).map (mm_en base ext) = (r1.map (mm_en base ext)).toList := by cases r1 <;> rfl
              rw [e9] at h9
              exact h9
            · cases h
          · cases h
        · split at h
          · rename_i pc1 st1 M1 hmk
            have m1 := mm_make_len hmk
            have m2 := mm_run_mono X fty nf li hmono _ _ _ _ _ h
            refine mm_make_snd base ext cA D cl tb X sf sts sks nws lay fty nf li P hcl hx hb hown hts hKs hI hJ hmk hW hS hz hbs (by omega) (by omega) (hL.1.trans hLm) (by omega) (by omega) (fun H1 locs1 hW1 hS1 => ?_)
            exact ih _ _ _ _ h H1 locs1 _ _ ls hW1 hS1 hL hLm (by omega) (by omega)
          · split at h
            · rename_i pc1 L1 st1 M1 hst
              obtain ⟨q1, q2, q3⟩ := mm_step_len hst
              refine mm_step_snd base ext cA D cl tb X sf sts sks nws lay fty hcl hx hb hown hts hname hKs hI hst hW hS hL (fun H1 locs1 ls1 hW1 hS1 hL1 => ?_)
              exact ih _ _ _ _ h H1 locs1 cells slots ls1 hW1 hS1 hL1 (q1.trans hLm) (by omega) (by omega)
            · cases h
theorem mm_ent_sl (as : List Value) : (lg_sl (as.map (mm_en base ext))).length = (mm_ent as).length := by
  induction as with
  | nil => rfl
  | cons v vs ih =>
    unfold lg_sl at ih ⊢
    rw [List.map_cons, List.flatMap_cons, List.length_append, ih, mm_en_cat]
    cases v <;> simp [Value.category, mm_ent] <;> omega
theorem mm_ent_at (as : List Value) : ∀ (i j : Nat) (u : Value), (mm_ent as)[j]? = some (some u) → (i + j, mm_en base ext u) ∈ lv_args i (as.map (mm_en base ext)) := by
  induction as with
  | nil => intro i j u h; simp [mm_ent] at h
  | cons v vs ih =>
    intro i j u h
    rw [List.map_cons, lv_args, mm_en_cat]
    have one : v.category = 1 → mm_ent (v :: vs) = some v :: mm_ent vs → (i + j, mm_en base ext u) ∈ (i, mm_en base ext v) :: lv_args (if v.category = 2 then i + 2 else i + 1) (vs.map (mm_en base ext)) := by
      intro h1 h2
      rw [h2] at h
      rw [if_neg (by omega)]
      cases j with
      | zero => simp at h; subst h; exact List.mem_cons_self
      | succ j =>
        rw [List.getElem?_cons_succ] at h
        have := ih (i + 1) j u h
        rw [show i + (j + 1) = i + 1 + j by omega]
        exact List.mem_cons_of_mem _ this
    have two : v.category = 2 → mm_ent (v :: vs) = some v :: none :: mm_ent vs → (i + j, mm_en base ext u) ∈ (i, mm_en base ext v) :: lv_args (if v.category = 2 then i + 2 else i + 1) (vs.map (mm_en base ext)) := by
      intro h1 h2
      rw [h2] at h
      rw [if_pos h1]
      cases j with
      | zero => simp at h; subst h; exact List.mem_cons_self
      | succ j =>
        cases j with
        | zero => simp at h
        | succ j =>
          rw [List.getElem?_cons_succ, List.getElem?_cons_succ] at h
          have := ih (i + 2) j u h
          rw [show i + (j + 1 + 1) = i + 2 + j by omega]
          exact List.mem_cons_of_mem _ this
    cases v
    · exact one rfl rfl
    · exact two rfl rfl
    · exact one rfl rfl
    · exact two rfl rfl
    · exact one rfl rfl
    · exact one rfl rfl
    · exact one rfl rfl
theorem mm_entry_LH {as : List Value} {n : Nat} (h : (mm_ent as).length ≤ n) : mm_LH base ext ((lg_sl (as.map (mm_en base ext)) ++ List.replicate (n - (lg_sl (as.map (mm_en base ext))).length) Slot.unset).toArray) (mm_entry as n) := by
  refine mm_LH_mono base ext (lv_entry (as.map (mm_en base ext)) (n := n) (by rw [mm_ent_sl]; exact h)) (by simp [mm_entry]; omega) (fun j u hj => ?_)
  unfold mm_entry at hj
  by_cases hl : j < (mm_ent as).length
  · rw [List.getElem?_append_left hl] at hj
    have := mm_ent_at base ext as 0 j u hj
    rw [Nat.zero_add] at this
    exact this
  · rw [List.getElem?_append_right (by omega), List.getElem?_replicate] at hj
    split at hj <;> cases hj
theorem mm_nar_spec {ty : FieldType} {v : Int32} (h : mm_nar ty v = true) : narrow ty (.int v) = .int v := by
  unfold mm_nar at h
  split at h
  · rfl
  · have hv : v = 0 ∨ v = 1 := by simpa using h
    rcases hv with rfl | rfl <;> decide +kernel
  · have hv : (v.toUInt32 % 65536).toInt32 = v := by simpa using h
    rw [← hv]
    exact pk_nc v
  · have hv : v.toInt8.toInt32 = v := by simpa using h
    rw [← hv]
    exact pk_nb v
  · cases h
set_option maxHeartbeats 4000000 in
theorem mm_ev_snd (hcl : mm_okC cl tb fty) (hg : ∀ w ∈ tb, goodWord w = true) (hPk : mm_okP cl tb sf sts sks nws lay fty nf li P) (l : Launch) (F : Nat) : ∀ (d k : Nat) (as : List Value) (M : mm_M) (r : Option Value) (M' : mm_M), mm_ev fty X nf li P F d k as M = some (r, M') → ∀ (y : MethodName) (b : ByteArray) (mL : Nat) (rt : Option FieldType) (ci : Nat) (co : Nat → Option mm_I), P k = some (y, b, mL, rt, ci, co) → mm_Met base ext cA D cl tb X sf sts sks nws lay l d as M r M' y b mL rt := by
  intro d
  induction d with
  | zero => intro k as M r M' h; simp [mm_ev] at h
  | succ d ih =>
    intro k as M r M' h y b mL rt ci co hP1
    simp only [mm_ev, hP1] at h
    split at h
    · rename_i hent
      obtain ⟨o1, o2, o3, o4⟩ := hPk _ _ _ _ _ _ _ hP1
      have hmono := mm_ev_mono X fty nf li P F d
      have mm := mm_run_mono X fty nf li hmono _ _ _ _ _ h
      refine Met.ofW (cc := b) (maxL := mL) (ret := rt) o1 rfl ?_
      intro p e s m args below meth c s₁ B hml hv
      obtain ⟨rfl, hsz, hW, hKs⟩ := hv
      have hx := B.exec
      have hb := B.bytes
      have hr := B.returns
      have hts := atoms_spec (ws := .code y b mL rt :: tb) B.pre
      have hts' : ∀ w ∈ tb, w.before (as.map (mm_en base ext)).toArray s = true := fun w hw => hts w (List.mem_cons_of_mem _ hw)
      have hown : s.vm.findClass y.cls = some m.cls := findClass_of_methodNamed B.named
      have hlocks := B.notSynchronized
      have hnm : meth.name = y.name := (name_of_methodNamed B.named B.method).1
      have hS : va_S (mm_A base) s.heap s.heap [] := va_S.rf
      rw [lg_entry_eq]
      refine mm_run_snd base ext cA D cl tb X sf sts sks nws lay fty nf li P hcl hg hPk hx hb hown hts' hnm hKs (d := d) (Nat.le_refl _) (Nat.le_refl _) (by omega) hmono ih o4 (s0 := mm_sl M) (by show base + M'.length ≤ s.heap.size + (M'.length - M.length); omega) (by show mm_sl M' ≤ (mm_sl M' - mm_sl M) + mm_sl M; omega) ?_ F 0 (mm_entry as mL) [] M h s.heap [] 0 0 _ hW hS (mm_entry_LH base ext hent) (by rw [hml]; simp [mm_entry]; omega) (by omega) (by omega)
      intro pc i ls st H locs cells slots hi hret hW1 hS1 hz hs0
      have hc1 : cells = M'.length - M.length := by omega
      have hs1 : slots = mm_sl M' - mm_sl M := by omega
      subst hc1
      subst hs1
      obtain ⟨hI, -⟩ := o4 pc i hi
      obtain ⟨ins, n, a9, b9, v9, pl⟩ := i
      obtain ⟨hd, hI⟩ := hI
      have hq : ∀ t : State, t.heap = H → s.WarmedH t.vm → mm_Qc base ext cA D cl r M' (as.map (mm_en base ext)).toArray s (.returned (r.map (mm_en base ext))) t := fun t ht _ => ⟨rfl, by rw [ht]; exact hW1, hS1.F ht⟩
      have hf : ∀ q ∈ locs, mm_A base q.base := hS1.2.2
      cases ins with
      | ireturn =>
        have hn : n = 1 := hI
        subst hn
        simp only [mm_ret] at hret
        split at hret
        · split at hret
          · split at hret
            · rename_i hnar
              cases hret
              exact W.zret hx hb hr (mm_nar_spec hnar) hq hf hd
            · cases hret
          · cases hret
        · cases hret
      | lreturn =>
        have hn : n = 1 := hI
        subst hn
        simp only [mm_ret] at hret
        split at hret
        · split at hret
          · cases hret
            exact W.lret hx hb hr hq hf hd
          · cases hret
        · cases hret
      | areturn =>
        have hn : n = 1 := hI
        subst hn
        have hrt : mm_isRt rt = true → ∃ ty, rt = some ty ∧ ((∃ n, ty = .object n) ∨ ∃ t, ty = .array t) := by
          intro hh
          unfold mm_isRt at hh
          split at hh
          · exact ⟨_, rfl, Or.inl ⟨_, rfl⟩⟩
          · exact ⟨_, rfl, Or.inr ⟨_, rfl⟩⟩
          · cases hh
        simp only [mm_ret] at hret
        split at hret
        · split at hret
          · rename_i hh
            obtain ⟨ty, rfl, hty⟩ := hrt hh
            cases hret
            exact W.aret hx hb hr hty (Or.inr ⟨_, rfl⟩) hq hf hd
          · cases hret
        · split at hret
          · rename_i v8 hh
            obtain ⟨ty, rfl, hty⟩ := hrt hh
            cases hret
            refine W.aret (v := mm_en base ext (.retAddr v8)) hx hb hr hty ?_ hq hf hd
            show va_rf (ext v8) = .null ∨ ∃ a, va_rf (ext v8) = .ref a
            cases ext v8 with
            | none => exact Or.inl rfl
            | some t => exact Or.inr ⟨t, rfl⟩
          · cases hret
        · cases hret
      | return_ =>
        have hn : n = 1 := hI
        subst hn
        simp only [mm_ret] at hret
        split at hret
        · split at hret
          · cases hret
            exact W.vret hx hb hr hq hf hd
          · cases hret
        · cases hret
      | _ => simp [mm_ret] at hret
    · cases h
end MM8
end
section
-- ===== PART A: goes FIRST, ahead of the names: the tables' words, and 'selects' of the private methods out of them =====
/-- a private method of a class that the tables say can be made, by its rows of tables_1 -/
def lw_okq (q : MethodName × Nat) : Prop := (q.1.cls ≠ "java/lang/invoke/MethodHandle" ∧ q.1.cls ≠ "java/lang/invoke/VarHandle") ∧ Cond.instantiable q.1.cls q.2 ∈ tables_1 ∧ Cond.privateMethod q.1 ∈ tables_1 ∧ Cond.instanceMethod q.1 ∈ tables_1
theorem lw_p0 : lw_okq (⟨"SmallerInTheShop", "refuse", "(I)I"⟩, 10) := ⟨⟨by decide +kernel, by decide +kernel⟩, List.mem_of_getElem? (i := 17) (by decide +kernel), List.mem_of_getElem? (i := 205) (by decide +kernel), List.mem_of_getElem? (i := 206) (by decide +kernel)⟩
theorem lw_p1 : lw_okq (⟨"SmallerInTheShop", "doStatements", "()I"⟩, 10) := ⟨⟨by decide +kernel, by decide +kernel⟩, List.mem_of_getElem? (i := 17) (by decide +kernel), List.mem_of_getElem? (i := 358) (by decide +kernel), List.mem_of_getElem? (i := 359) (by decide +kernel)⟩
theorem lw_p2 : lw_okq (⟨"SmallerInTheShop", "doStatement", "(I)Z"⟩, 10) := ⟨⟨by decide +kernel, by decide +kernel⟩, List.mem_of_getElem? (i := 17) (by decide +kernel), List.mem_of_getElem? (i := 374) (by decide +kernel), List.mem_of_getElem? (i := 375) (by decide +kernel)⟩
theorem lw_p3 : lw_okq (⟨"SmallerInTheShop", "tellKind", "(III)Z"⟩, 10) := ⟨⟨by decide +kernel, by decide +kernel⟩, List.mem_of_getElem? (i := 17) (by decide +kernel), List.mem_of_getElem? (i := 387) (by decide +kernel), List.mem_of_getElem? (i := 388) (by decide +kernel)⟩
theorem lw_p4 : lw_okq (⟨"SmallerInTheShop", "tellWorn", "(II)Z"⟩, 10) := ⟨⟨by decide +kernel, by decide +kernel⟩, List.mem_of_getElem? (i := 17) (by decide +kernel), List.mem_of_getElem? (i := 394) (by decide +kernel), List.mem_of_getElem? (i := 395) (by decide +kernel)⟩
theorem lw_p5 : lw_okq (⟨"SmallerInTheShop", "tellFold", "(II)Z"⟩, 10) := ⟨⟨by decide +kernel, by decide +kernel⟩, List.mem_of_getElem? (i := 17) (by decide +kernel), List.mem_of_getElem? (i := 398) (by decide +kernel), List.mem_of_getElem? (i := 399) (by decide +kernel)⟩
theorem lw_p6 : lw_okq (⟨"SmallerInTheShop$Layout", "movePanels", "(LSmallerInTheShop$Layout;ZIZZ)V"⟩, 9) := ⟨⟨by decide +kernel, by decide +kernel⟩, List.mem_of_getElem? (i := 32) (by decide +kernel), List.mem_of_getElem? (i := 422) (by decide +kernel), List.mem_of_getElem? (i := 423) (by decide +kernel)⟩
theorem lw_p7 : lw_okq (⟨"SmallerInTheShop$Layout", "heapAt", "(ZII)I"⟩, 9) := ⟨⟨by decide +kernel, by decide +kernel⟩, List.mem_of_getElem? (i := 32) (by decide +kernel), List.mem_of_getElem? (i := 428) (by decide +kernel), List.mem_of_getElem? (i := 429) (by decide +kernel)⟩
theorem lw_p8 : lw_okq (⟨"SmallerInTheShop$Layout", "countHeaps", "()V"⟩, 9) := ⟨⟨by decide +kernel, by decide +kernel⟩, List.mem_of_getElem? (i := 32) (by decide +kernel), List.mem_of_getElem? (i := 433) (by decide +kernel), List.mem_of_getElem? (i := 434) (by decide +kernel)⟩
theorem lw_p9 : lw_okq (⟨"SmallerInTheShop$Layout", "cellOf", "(I)I"⟩, 9) := ⟨⟨by decide +kernel, by decide +kernel⟩, List.mem_of_getElem? (i := 32) (by decide +kernel), List.mem_of_getElem? (i := 437) (by decide +kernel), List.mem_of_getElem? (i := 438) (by decide +kernel)⟩
theorem lw_p10 : lw_okq (⟨"SmallerInTheShop$Layout", "foldCreases", "(LSmallerInTheShop$Layout;ZIZ)V"⟩, 9) := ⟨⟨by decide +kernel, by decide +kernel⟩, List.mem_of_getElem? (i := 32) (by decide +kernel), List.mem_of_getElem? (i := 441) (by decide +kernel), List.mem_of_getElem? (i := 442) (by decide +kernel)⟩
theorem lw_p11 : lw_okq (⟨"SmallerInTheShop$Layout", "liesAcross", "(IZI)Z"⟩, 9) := ⟨⟨by decide +kernel, by decide +kernel⟩, List.mem_of_getElem? (i := 32) (by decide +kernel), List.mem_of_getElem? (i := 445) (by decide +kernel), List.mem_of_getElem? (i := 446) (by decide +kernel)⟩
theorem lw_p12 : lw_okq (⟨"SmallerInTheShop$Sheet", "wearDown", "(LSmallerInTheShop$Layout;)V"⟩, 6) := ⟨⟨by decide +kernel, by decide +kernel⟩, List.mem_of_getElem? (i := 25) (by decide +kernel), List.mem_of_getElem? (i := 470) (by decide +kernel), List.mem_of_getElem? (i := 471) (by decide +kernel)⟩
theorem lw_p13 : lw_okq (⟨"SmallerInTheShop$Sheet", "wornBehind", "(ILSmallerInTheShop$Layout;)I"⟩, 6) := ⟨⟨by decide +kernel, by decide +kernel⟩, List.mem_of_getElem? (i := 25) (by decide +kernel), List.mem_of_getElem? (i := 474) (by decide +kernel), List.mem_of_getElem? (i := 475) (by decide +kernel)⟩
theorem lw_p14 : lw_okq (⟨"SmallerInTheShop", "tellCover", "(I)Z"⟩, 10) := ⟨⟨by decide +kernel, by decide +kernel⟩, List.mem_of_getElem? (i := 17) (by decide +kernel), List.mem_of_getElem? (i := 489) (by decide +kernel), List.mem_of_getElem? (i := 490) (by decide +kernel)⟩
theorem lw_p15 : lw_okq (⟨"SmallerInTheShop", "refusalOfFold", "(II)I"⟩, 10) := ⟨⟨by decide +kernel, by decide +kernel⟩, List.mem_of_getElem? (i := 17) (by decide +kernel), List.mem_of_getElem? (i := 525) (by decide +kernel), List.mem_of_getElem? (i := 526) (by decide +kernel)⟩
def lw_privs_1 : List (MethodName × Nat) := [(⟨"SmallerInTheShop", "refuse", "(I)I"⟩, 10), (⟨"SmallerInTheShop", "doStatements", "()I"⟩, 10), (⟨"SmallerInTheShop", "doStatement", "(I)Z"⟩, 10), (⟨"SmallerInTheShop", "tellKind", "(III)Z"⟩, 10), (⟨"SmallerInTheShop", "tellWorn", "(II)Z"⟩, 10), (⟨"SmallerInTheShop", "tellFold", "(II)Z"⟩, 10), (⟨"SmallerInTheShop$Layout", "movePanels", "(LSmallerInTheShop$Layout;ZIZZ)V"⟩, 9), (⟨"SmallerInTheShop$Layout", "heapAt", "(ZII)I"⟩, 9), (⟨"SmallerInTheShop$Layout", "countHeaps", "()V"⟩, 9), (⟨"SmallerInTheShop$Layout", "cellOf", "(I)I"⟩, 9), (⟨"SmallerInTheShop$Layout", "foldCreases", "(LSmallerInTheShop$Layout;ZIZ)V"⟩, 9), (⟨"SmallerInTheShop$Layout", "liesAcross", "(IZI)Z"⟩, 9), (⟨"SmallerInTheShop$Sheet", "wearDown", "(LSmallerInTheShop$Layout;)V"⟩, 6), (⟨"SmallerInTheShop$Sheet", "wornBehind", "(ILSmallerInTheShop$Layout;)I"⟩, 6), (⟨"SmallerInTheShop", "tellCover", "(I)Z"⟩, 10), (⟨"SmallerInTheShop", "refusalOfFold", "(II)I"⟩, 10)]
theorem lw_r1 : ∀ q ∈ lw_privs_1, lw_okq q := List.forall_mem_cons.mpr ⟨lw_p0, List.forall_mem_cons.mpr ⟨lw_p1, List.forall_mem_cons.mpr ⟨lw_p2, List.forall_mem_cons.mpr ⟨lw_p3, List.forall_mem_cons.mpr ⟨lw_p4, List.forall_mem_cons.mpr ⟨lw_p5, List.forall_mem_cons.mpr ⟨lw_p6, List.forall_mem_cons.mpr ⟨lw_p7, List.forall_mem_cons.mpr ⟨lw_p8, List.forall_mem_cons.mpr ⟨lw_p9, List.forall_mem_cons.mpr ⟨lw_p10, List.forall_mem_cons.mpr ⟨lw_p11, List.forall_mem_cons.mpr ⟨lw_p12, List.forall_mem_cons.mpr ⟨lw_p13, List.forall_mem_cons.mpr ⟨lw_p14, List.forall_mem_cons.mpr ⟨lw_p15, fun _ h => absurd h List.not_mem_nil⟩⟩⟩⟩⟩⟩⟩⟩⟩⟩⟩⟩⟩⟩⟩⟩
theorem lw_p16 : lw_okq (⟨"SmallerInTheShop$Search", "explore", "(LSmallerInTheShop$Sheet;III)V"⟩, 8) := ⟨⟨by decide +kernel, by decide +kernel⟩, List.mem_of_getElem? (i := 106) (by decide +kernel), List.mem_of_getElem? (i := 598) (by decide +kernel), List.mem_of_getElem? (i := 599) (by decide +kernel)⟩
theorem lw_p17 : lw_okq (⟨"SmallerInTheShop$Search", "isReached", "(LSmallerInTheShop$Sheet;LSmallerInTheShop$Layout;)Z"⟩, 8) := ⟨⟨by decide +kernel, by decide +kernel⟩, List.mem_of_getElem? (i := 106) (by decide +kernel), List.mem_of_getElem? (i := 602) (by decide +kernel), List.mem_of_getElem? (i := 603) (by decide +kernel)⟩
theorem lw_p18 : lw_okq (⟨"SmallerInTheShop$Search", "liesAsWanted", "(LSmallerInTheShop$Layout;)Z"⟩, 8) := ⟨⟨by decide +kernel, by decide +kernel⟩, List.mem_of_getElem? (i := 106) (by decide +kernel), List.mem_of_getElem? (i := 615) (by decide +kernel), List.mem_of_getElem? (i := 616) (by decide +kernel)⟩
theorem lw_p19 : lw_okq (⟨"SmallerInTheShop$Search", "costOf", "(LSmallerInTheShop$Layout;II)I"⟩, 8) := ⟨⟨by decide +kernel, by decide +kernel⟩, List.mem_of_getElem? (i := 106) (by decide +kernel), List.mem_of_getElem? (i := 620) (by decide +kernel), List.mem_of_getElem? (i := 621) (by decide +kernel)⟩
theorem lw_p20 : lw_okq (⟨"SmallerInTheShop$Search", "offer", "(II)V"⟩, 8) := ⟨⟨by decide +kernel, by decide +kernel⟩, List.mem_of_getElem? (i := 106) (by decide +kernel), List.mem_of_getElem? (i := 630) (by decide +kernel), List.mem_of_getElem? (i := 631) (by decide +kernel)⟩
theorem lw_p21 : lw_okq (⟨"SmallerInTheShop$Search", "isHopeless", "(I)Z"⟩, 8) := ⟨⟨by decide +kernel, by decide +kernel⟩, List.mem_of_getElem? (i := 106) (by decide +kernel), List.mem_of_getElem? (i := 634) (by decide +kernel), List.mem_of_getElem? (i := 635) (by decide +kernel)⟩
theorem lw_p22 : lw_okq (⟨"SmallerInTheShop$Search", "waysToTry", "(LSmallerInTheShop$Layout;)I"⟩, 8) := ⟨⟨by decide +kernel, by decide +kernel⟩, List.mem_of_getElem? (i := 106) (by decide +kernel), List.mem_of_getElem? (i := 638) (by decide +kernel), List.mem_of_getElem? (i := 639) (by decide +kernel)⟩
theorem lw_p23 : lw_okq (⟨"SmallerInTheShop", "tellsAllPanels", "()Z"⟩, 10) := ⟨⟨by decide +kernel, by decide +kernel⟩, List.mem_of_getElem? (i := 17) (by decide +kernel), List.mem_of_getElem? (i := 672) (by decide +kernel), List.mem_of_getElem? (i := 673) (by decide +kernel)⟩
theorem lw_p24 : lw_okq (⟨"SmallerInTheShop", "effortOfTwo", "(IIII)I"⟩, 10) := ⟨⟨by decide +kernel, by decide +kernel⟩, List.mem_of_getElem? (i := 17) (by decide +kernel), List.mem_of_getElem? (i := 704) (by decide +kernel), List.mem_of_getElem? (i := 705) (by decide +kernel)⟩
theorem lw_p25 : lw_okq (⟨"SmallerInTheShop", "refuseLong", "(I)J"⟩, 10) := ⟨⟨by decide +kernel, by decide +kernel⟩, List.mem_of_getElem? (i := 17) (by decide +kernel), List.mem_of_getElem? (i := 722) (by decide +kernel), List.mem_of_getElem? (i := 723) (by decide +kernel)⟩
theorem lw_p26 : lw_okq (⟨"SmallerInTheShop", "firstImpossible", "()I"⟩, 10) := ⟨⟨by decide +kernel, by decide +kernel⟩, List.mem_of_getElem? (i := 17) (by decide +kernel), List.mem_of_getElem? (i := 727) (by decide +kernel), List.mem_of_getElem? (i := 728) (by decide +kernel)⟩
theorem lw_p27 : lw_okq (⟨"SmallerInTheShop", "isCoverOutBy", "(I)Z"⟩, 10) := ⟨⟨by decide +kernel, by decide +kernel⟩, List.mem_of_getElem? (i := 17) (by decide +kernel), List.mem_of_getElem? (i := 735) (by decide +kernel), List.mem_of_getElem? (i := 736) (by decide +kernel)⟩
theorem lw_p28 : lw_okq (⟨"SmallerInTheShop", "kindsThatFit", "(I)I"⟩, 10) := ⟨⟨by decide +kernel, by decide +kernel⟩, List.mem_of_getElem? (i := 17) (by decide +kernel), List.mem_of_getElem? (i := 755) (by decide +kernel), List.mem_of_getElem? (i := 756) (by decide +kernel)⟩
theorem lw_p29 : lw_okq (⟨"SmallerInTheShop", "fitsAllPairs", "(II)Z"⟩, 10) := ⟨⟨by decide +kernel, by decide +kernel⟩, List.mem_of_getElem? (i := 17) (by decide +kernel), List.mem_of_getElem? (i := 759) (by decide +kernel), List.mem_of_getElem? (i := 760) (by decide +kernel)⟩
theorem lw_p30 : lw_okq (⟨"SmallerInTheShop", "figuresThatFit", "(I)I"⟩, 10) := ⟨⟨by decide +kernel, by decide +kernel⟩, List.mem_of_getElem? (i := 17) (by decide +kernel), List.mem_of_getElem? (i := 764) (by decide +kernel), List.mem_of_getElem? (i := 765) (by decide +kernel)⟩
theorem lw_p31 : lw_okq (⟨"SmallerInTheShop", "shutByLot", "()I"⟩, 10) := ⟨⟨by decide +kernel, by decide +kernel⟩, List.mem_of_getElem? (i := 17) (by decide +kernel), List.mem_of_getElem? (i := 784) (by decide +kernel), List.mem_of_getElem? (i := 785) (by decide +kernel)⟩
def lw_privs_2 : List (MethodName × Nat) := [(⟨"SmallerInTheShop$Search", "explore", "(LSmallerInTheShop$Sheet;III)V"⟩, 8), (⟨"SmallerInTheShop$Search", "isReached", "(LSmallerInTheShop$Sheet;LSmallerInTheShop$Layout;)Z"⟩, 8), (⟨"SmallerInTheShop$Search", "liesAsWanted", "(LSmallerInTheShop$Layout;)Z"⟩, 8), (⟨"SmallerInTheShop$Search", "costOf", "(LSmallerInTheShop$Layout;II)I"⟩, 8), (⟨"SmallerInTheShop$Search", "offer", "(II)V"⟩, 8), (⟨"SmallerInTheShop$Search", "isHopeless", "(I)Z"⟩, 8), (⟨"SmallerInTheShop$Search", "waysToTry", "(LSmallerInTheShop$Layout;)I"⟩, 8), (⟨"SmallerInTheShop", "tellsAllPanels", "()Z"⟩, 10), (⟨"SmallerInTheShop", "effortOfTwo", "(IIII)I"⟩, 10), (⟨"SmallerInTheShop", "refuseLong", "(I)J"⟩, 10), (⟨"SmallerInTheShop", "firstImpossible", "()I"⟩, 10), (⟨"SmallerInTheShop", "isCoverOutBy", "(I)Z"⟩, 10), (⟨"SmallerInTheShop", "kindsThatFit", "(I)I"⟩, 10), (⟨"SmallerInTheShop", "fitsAllPairs", "(II)Z"⟩, 10), (⟨"SmallerInTheShop", "figuresThatFit", "(I)I"⟩, 10), (⟨"SmallerInTheShop", "shutByLot", "()I"⟩, 10)]
theorem lw_r2 : ∀ q ∈ lw_privs_2, lw_okq q := List.forall_mem_cons.mpr ⟨lw_p16, List.forall_mem_cons.mpr ⟨lw_p17, List.forall_mem_cons.mpr ⟨lw_p18, List.forall_mem_cons.mpr ⟨lw_p19, List.forall_mem_cons.mpr ⟨lw_p20, List.forall_mem_cons.mpr ⟨lw_p21, List.forall_mem_cons.mpr ⟨lw_p22, List.forall_mem_cons.mpr ⟨lw_p23, List.forall_mem_cons.mpr ⟨lw_p24, List.forall_mem_cons.mpr ⟨lw_p25, List.forall_mem_cons.mpr ⟨lw_p26, List.forall_mem_cons.mpr ⟨lw_p27, List.forall_mem_cons.mpr ⟨lw_p28, List.forall_mem_cons.mpr ⟨lw_p29, List.forall_mem_cons.mpr ⟨lw_p30, List.forall_mem_cons.mpr ⟨lw_p31, fun _ h => absurd h List.not_mem_nil⟩⟩⟩⟩⟩⟩⟩⟩⟩⟩⟩⟩⟩⟩⟩⟩
theorem lw_p32 : lw_okq (⟨"SmallerInTheShop", "countOfRefusals", "(I)I"⟩, 10) := ⟨⟨by decide +kernel, by decide +kernel⟩, List.mem_of_getElem? (i := 17) (by decide +kernel), List.mem_of_getElem? (i := 817) (by decide +kernel), List.mem_of_getElem? (i := 818) (by decide +kernel)⟩
theorem lw_p33 : lw_okq (⟨"SmallerInTheShopModel", "refused", "(I)I"⟩, 19) := ⟨⟨by decide +kernel, by decide +kernel⟩, List.mem_of_getElem? (i := 821) (by decide +kernel), List.mem_of_getElem? (i := 892) (by decide +kernel), List.mem_of_getElem? (i := 893) (by decide +kernel)⟩
theorem lw_p34 : lw_okq (⟨"SmallerInTheShopModel", "faultOf", "(I)I"⟩, 19) := ⟨⟨by decide +kernel, by decide +kernel⟩, List.mem_of_getElem? (i := 821) (by decide +kernel), List.mem_of_getElem? (i := 900) (by decide +kernel), List.mem_of_getElem? (i := 901) (by decide +kernel)⟩
theorem lw_p35 : lw_okq (⟨"SmallerInTheShopModel", "fits", "(III)Z"⟩, 19) := ⟨⟨by decide +kernel, by decide +kernel⟩, List.mem_of_getElem? (i := 821) (by decide +kernel), List.mem_of_getElem? (i := 907) (by decide +kernel), List.mem_of_getElem? (i := 908) (by decide +kernel)⟩
theorem lw_p36 : lw_okq (⟨"SmallerInTheShopModel", "comes", "([II)Z"⟩, 19) := ⟨⟨by decide +kernel, by decide +kernel⟩, List.mem_of_getElem? (i := 821) (by decide +kernel), List.mem_of_getElem? (i := 920) (by decide +kernel), List.mem_of_getElem? (i := 921) (by decide +kernel)⟩
theorem lw_p37 : lw_okq (⟨"SmallerInTheShopModel", "digit", "(I)I"⟩, 19) := ⟨⟨by decide +kernel, by decide +kernel⟩, List.mem_of_getElem? (i := 821) (by decide +kernel), List.mem_of_getElem? (i := 924) (by decide +kernel), List.mem_of_getElem? (i := 925) (by decide +kernel)⟩
theorem lw_p38 : lw_okq (⟨"SmallerInTheShopModel", "folds", "([III)I"⟩, 19) := ⟨⟨by decide +kernel, by decide +kernel⟩, List.mem_of_getElem? (i := 821) (by decide +kernel), List.mem_of_getElem? (i := 936) (by decide +kernel), List.mem_of_getElem? (i := 937) (by decide +kernel)⟩
theorem lw_p39 : lw_okq (⟨"SmallerInTheShopModel", "lays", "([III)V"⟩, 19) := ⟨⟨by decide +kernel, by decide +kernel⟩, List.mem_of_getElem? (i := 821) (by decide +kernel), List.mem_of_getElem? (i := 968) (by decide +kernel), List.mem_of_getElem? (i := 969) (by decide +kernel)⟩
theorem lw_p40 : lw_okq (⟨"SmallerInTheShopModel", "flat", "()I"⟩, 19) := ⟨⟨by decide +kernel, by decide +kernel⟩, List.mem_of_getElem? (i := 821) (by decide +kernel), List.mem_of_getElem? (i := 1050) (by decide +kernel), List.mem_of_getElem? (i := 1051) (by decide +kernel)⟩
theorem lw_p41 : lw_okq (⟨"SmallerInTheShopModel", "seek", "(III)V"⟩, 19) := ⟨⟨by decide +kernel, by decide +kernel⟩, List.mem_of_getElem? (i := 821) (by decide +kernel), List.mem_of_getElem? (i := 1058) (by decide +kernel), List.mem_of_getElem? (i := 1059) (by decide +kernel)⟩
theorem lw_p42 : lw_okq (⟨"SmallerInTheShopModel", "seeks", "(III)V"⟩, 19) := ⟨⟨by decide +kernel, by decide +kernel⟩, List.mem_of_getElem? (i := 821) (by decide +kernel), List.mem_of_getElem? (i := 1062) (by decide +kernel), List.mem_of_getElem? (i := 1063) (by decide +kernel)⟩
theorem lw_p43 : lw_okq (⟨"SmallerInTheShopModel", "meets", "([IIII)V"⟩, 19) := ⟨⟨by decide +kernel, by decide +kernel⟩, List.mem_of_getElem? (i := 821) (by decide +kernel), List.mem_of_getElem? (i := 1066) (by decide +kernel), List.mem_of_getElem? (i := 1067) (by decide +kernel)⟩
theorem lw_p44 : lw_okq (⟨"SmallerInTheShopModel", "better", "(II)V"⟩, 19) := ⟨⟨by decide +kernel, by decide +kernel⟩, List.mem_of_getElem? (i := 821) (by decide +kernel), List.mem_of_getElem? (i := 1073) (by decide +kernel), List.mem_of_getElem? (i := 1074) (by decide +kernel)⟩
theorem lw_p45 : lw_okq (⟨"SmallerInTheShopModel", "isAsTheRow", "([I)Z"⟩, 19) := ⟨⟨by decide +kernel, by decide +kernel⟩, List.mem_of_getElem? (i := 821) (by decide +kernel), List.mem_of_getElem? (i := 1078) (by decide +kernel), List.mem_of_getElem? (i := 1079) (by decide +kernel)⟩
theorem lw_p46 : lw_okq (⟨"SmallerInTheShopModel", "tellsAll", "()Z"⟩, 19) := ⟨⟨by decide +kernel, by decide +kernel⟩, List.mem_of_getElem? (i := 821) (by decide +kernel), List.mem_of_getElem? (i := 1100) (by decide +kernel), List.mem_of_getElem? (i := 1101) (by decide +kernel)⟩
theorem lw_p47 : lw_okq (⟨"SmallerInTheShopModel", "times", "(II)I"⟩, 19) := ⟨⟨by decide +kernel, by decide +kernel⟩, List.mem_of_getElem? (i := 821) (by decide +kernel), List.mem_of_getElem? (i := 1108) (by decide +kernel), List.mem_of_getElem? (i := 1109) (by decide +kernel)⟩
def lw_privs_3 : List (MethodName × Nat) := [(⟨"SmallerInTheShop", "countOfRefusals", "(I)I"⟩, 10), (⟨"SmallerInTheShopModel", "refused", "(I)I"⟩, 19), (⟨"SmallerInTheShopModel", "faultOf", "(I)I"⟩, 19), (⟨"SmallerInTheShopModel", "fits", "(III)Z"⟩, 19), (⟨"SmallerInTheShopModel", "comes", "([II)Z"⟩, 19), (⟨"SmallerInTheShopModel", "digit", "(I)I"⟩, 19), (⟨"SmallerInTheShopModel", "folds", "([III)I"⟩, 19), (⟨"SmallerInTheShopModel", "lays", "([III)V"⟩, 19), (⟨"SmallerInTheShopModel", "flat", "()I"⟩, 19), (⟨"SmallerInTheShopModel", "seek", "(III)V"⟩, 19), (⟨"SmallerInTheShopModel", "seeks", "(III)V"⟩, 19), (⟨"SmallerInTheShopModel", "meets", "([IIII)V"⟩, 19), (⟨"SmallerInTheShopModel", "better", "(II)V"⟩, 19), (⟨"SmallerInTheShopModel", "isAsTheRow", "([I)Z"⟩, 19), (⟨"SmallerInTheShopModel", "tellsAll", "()Z"⟩, 19), (⟨"SmallerInTheShopModel", "times", "(II)I"⟩, 19)]
theorem lw_r3 : ∀ q ∈ lw_privs_3, lw_okq q := List.forall_mem_cons.mpr ⟨lw_p32, List.forall_mem_cons.mpr ⟨lw_p33, List.forall_mem_cons.mpr ⟨lw_p34, List.forall_mem_cons.mpr ⟨lw_p35, List.forall_mem_cons.mpr ⟨lw_p36, List.forall_mem_cons.mpr ⟨lw_p37, List.forall_mem_cons.mpr ⟨lw_p38, List.forall_mem_cons.mpr ⟨lw_p39, List.forall_mem_cons.mpr ⟨lw_p40, List.forall_mem_cons.mpr ⟨lw_p41, List.forall_mem_cons.mpr ⟨lw_p42, List.forall_mem_cons.mpr ⟨lw_p43, List.forall_mem_cons.mpr ⟨lw_p44, List.forall_mem_cons.mpr ⟨lw_p45, List.forall_mem_cons.mpr ⟨lw_p46, List.forall_mem_cons.mpr ⟨lw_p47, fun _ h => absurd h List.not_mem_nil⟩⟩⟩⟩⟩⟩⟩⟩⟩⟩⟩⟩⟩⟩⟩⟩
theorem lw_p48 : lw_okq (⟨"SmallerInTheShopModel", "both", "(IIII)I"⟩, 19) := ⟨⟨by decide +kernel, by decide +kernel⟩, List.mem_of_getElem? (i := 821) (by decide +kernel), List.mem_of_getElem? (i := 1126) (by decide +kernel), List.mem_of_getElem? (i := 1127) (by decide +kernel)⟩
theorem lw_p49 : lw_okq (⟨"SmallerInTheShopModel", "refusedLong", "(I)J"⟩, 19) := ⟨⟨by decide +kernel, by decide +kernel⟩, List.mem_of_getElem? (i := 821) (by decide +kernel), List.mem_of_getElem? (i := 1143) (by decide +kernel), List.mem_of_getElem? (i := 1144) (by decide +kernel)⟩
theorem lw_p50 : lw_okq (⟨"SmallerInTheShopModel", "goes", "(I)I"⟩, 19) := ⟨⟨by decide +kernel, by decide +kernel⟩, List.mem_of_getElem? (i := 821) (by decide +kernel), List.mem_of_getElem? (i := 1148) (by decide +kernel), List.mem_of_getElem? (i := 1149) (by decide +kernel)⟩
theorem lw_p51 : lw_okq (⟨"SmallerInTheShopModel", "isSo", "(II)Z"⟩, 19) := ⟨⟨by decide +kernel, by decide +kernel⟩, List.mem_of_getElem? (i := 821) (by decide +kernel), List.mem_of_getElem? (i := 1164) (by decide +kernel), List.mem_of_getElem? (i := 1165) (by decide +kernel)⟩
theorem lw_p52 : lw_okq (⟨"SmallerInTheShopModel", "shutsByLot", "()I"⟩, 19) := ⟨⟨by decide +kernel, by decide +kernel⟩, List.mem_of_getElem? (i := 821) (by decide +kernel), List.mem_of_getElem? (i := 1184) (by decide +kernel), List.mem_of_getElem? (i := 1185) (by decide +kernel)⟩
theorem lw_p53 : lw_okq (⟨"SmallerInTheShopModel", "draw", "(I)I"⟩, 19) := ⟨⟨by decide +kernel, by decide +kernel⟩, List.mem_of_getElem? (i := 821) (by decide +kernel), List.mem_of_getElem? (i := 1188) (by decide +kernel), List.mem_of_getElem? (i := 1189) (by decide +kernel)⟩
def lw_privs_4 : List (MethodName × Nat) := [(⟨"SmallerInTheShopModel", "both", "(IIII)I"⟩, 19), (⟨"SmallerInTheShopModel", "refusedLong", "(I)J"⟩, 19), (⟨"SmallerInTheShopModel", "goes", "(I)I"⟩, 19), (⟨"SmallerInTheShopModel", "isSo", "(II)Z"⟩, 19), (⟨"SmallerInTheShopModel", "shutsByLot", "()I"⟩, 19), (⟨"SmallerInTheShopModel", "draw", "(I)I"⟩, 19)]
theorem lw_r4 : ∀ q ∈ lw_privs_4, lw_okq q := List.forall_mem_cons.mpr ⟨lw_p48, List.forall_mem_cons.mpr ⟨lw_p49, List.forall_mem_cons.mpr ⟨lw_p50, List.forall_mem_cons.mpr ⟨lw_p51, List.forall_mem_cons.mpr ⟨lw_p52, List.forall_mem_cons.mpr ⟨lw_p53, fun _ h => absurd h List.not_mem_nil⟩⟩⟩⟩⟩⟩
def lw_privs : List (MethodName × Nat) := lw_privs_1 ++ (lw_privs_2 ++ (lw_privs_3 ++ (lw_privs_4)))
def lw_tbl : List Cond := k2_sels lw_privs ++ tables_1
theorem lw_privs_ok : ∀ q ∈ lw_privs, lw_okq q := by
  show ∀ q ∈ lw_privs_1 ++ (lw_privs_2 ++ (lw_privs_3 ++ (lw_privs_4))), lw_okq q
  exact List.forall_mem_append.mpr ⟨lw_r1, List.forall_mem_append.mpr ⟨lw_r2, List.forall_mem_append.mpr ⟨lw_r3, lw_r4⟩⟩⟩
-- ===== end of PART A; then your names; then what follows =====
end
section
/-! the tables of the program: kinds of objects, methods (printed by a program of mine out of the words of the tables and of the code) -/
def mc_T (l : List (String × String × String × Bool)) : u_T := fun k => l.getD k ("", "", "", false)
def mc_cl : List vw_C := [("SmallerInTheShop$Draws", mc_T [("SmallerInTheShop$Draws", "seed", "I", false), ("SmallerInTheShop$Draws", "depth", "I", false)], 2),
  ("SmallerInTheShop$Layout", mc_T [("SmallerInTheShop$Layout", "columnOf", "[I", true), ("SmallerInTheShop$Layout", "rowOf", "[I", true), ("SmallerInTheShop$Layout", "layerOf", "[I", true), ("SmallerInTheShop$Layout", "downOf", "[I", true), ("SmallerInTheShop$Layout", "sideOf", "[I", true), ("SmallerInTheShop$Layout", "heapIn", "[I", true), ("SmallerInTheShop$Layout", "width", "I", false), ("SmallerInTheShop$Layout", "height", "I", false), ("SmallerInTheShop$Layout", "fresh", "I", false)], 9),
  ("SmallerInTheShop$Letters", mc_T [("SmallerInTheShop$Letters", "signs", "[I", true), ("SmallerInTheShop$Letters", "size", "I", false)], 2),
  ("SmallerInTheShop$Search", mc_T [("SmallerInTheShop$Search", "layerWanted", "[I", true), ("SmallerInTheShop$Search", "hitsWith", "[I", true), ("SmallerInTheShop$Search", "goal", "I", false), ("SmallerInTheShop$Search", "pocket", "I", false), ("SmallerInTheShop$Search", "set", "I", false), ("SmallerInTheShop$Search", "found", "Z", false), ("SmallerInTheShop$Search", "leastCost", "I", false), ("SmallerInTheShop$Search", "leastWay", "I", false)], 8),
  ("SmallerInTheShop$Sheet", mc_T [("SmallerInTheShop$Sheet", "layouts", "[LSmallerInTheShop$Layout;", true), ("SmallerInTheShop$Sheet", "kindOf", "[I", true), ("SmallerInTheShop$Sheet", "figureOf", "[I", true), ("SmallerInTheShop$Sheet", "wornOf", "[I", true), ("SmallerInTheShop$Sheet", "foldCount", "I", false), ("SmallerInTheShop$Sheet", "coverPanel", "I", false)], 6),
  ("SmallerInTheShop", mc_T [("SmallerInTheShop", "now", "LSmallerInTheShop$Sheet;", true), ("SmallerInTheShop", "taken", "LSmallerInTheShop$Sheet;", true), ("SmallerInTheShop", "trial", "LSmallerInTheShop$Sheet;", true), ("SmallerInTheShop", "search", "LSmallerInTheShop$Search;", true), ("SmallerInTheShop", "letters", "LSmallerInTheShop$Letters;", true), ("SmallerInTheShop", "draws", "LSmallerInTheShop$Draws;", true), ("SmallerInTheShop", "told", "[I", true), ("SmallerInTheShop", "refusals", "[I", true), ("SmallerInTheShop", "toldCount", "I", false), ("SmallerInTheShop", "hasTaken", "Z", false)], 10),
  ("SmallerInTheShopModel", mc_T [("SmallerInTheShopModel", "now", "[I", true), ("SmallerInTheShopModel", "kept", "[I", true), ("SmallerInTheShopModel", "deep", "[[I", true), ("SmallerInTheShopModel", "hasImage", "Z", false), ("SmallerInTheShopModel", "refusals", "[I", true), ("SmallerInTheShopModel", "row", "[I", true), ("SmallerInTheShopModel", "rows", "I", false), ("SmallerInTheShopModel", "letters", "[I", true), ("SmallerInTheShopModel", "lettered", "I", false), ("SmallerInTheShopModel", "was", "[I", true), ("SmallerInTheShopModel", "kinds", "Ljava/lang/String;", true), ("SmallerInTheShopModel", "aim", "I", false), ("SmallerInTheShopModel", "aimA", "I", false), ("SmallerInTheShopModel", "aimB", "I", false), ("SmallerInTheShopModel", "bestWay", "I", false), ("SmallerInTheShopModel", "bestEffort", "I", false), ("SmallerInTheShopModel", "fewest", "I", false), ("SmallerInTheShopModel", "many", "I", false), ("SmallerInTheShopModel", "z", "I", false)], 19)]
def mc_ty : List (List FieldType) := [[.int, .int],
  [.array .int, .array .int, .array .int, .array .int, .array .int, .array .int, .int, .int, .int],
  [.array .int, .int],
  [.array .int, .array .int, .int, .int, .int, .boolean, .int, .int],
  [.array (.object "SmallerInTheShop$Layout"), .array .int, .array .int, .array .int, .int, .int],
  [.object "SmallerInTheShop$Sheet", .object "SmallerInTheShop$Sheet", .object "SmallerInTheShop$Sheet", .object "SmallerInTheShop$Search", .object "SmallerInTheShop$Letters", .object "SmallerInTheShop$Draws", .array .int, .array .int, .int, .boolean],
  [.array .int, .array .int, .array (.array .int), .boolean, .array .int, .array .int, .int, .array .int, .int, .array .int, .object "java/lang/String", .int, .int, .int, .int, .int, .int, .int, .int]]
def mc_fty (ci k : Nat) : FieldType := (mc_ty.getD ci []).getD k .int
def mc_nf (ci : Nat) : List Value := (mc_ty.getD ci []).map defaultValue
def mc_lay : String := "SmallerInTheShop$Layout"
def mc_sf (k : Nat) : String × String := if k = 0 then ("value", "[B") else ("coder", "B")
def mc_sts : List (String × String × String × Value) := [("SmallerInTheShop", "CREASE_START", "[I", .retAddr 1), ("SmallerInTheShop", "CREASE_END", "[I", .retAddr 2), ("java/lang/String", "COMPACT_STRINGS", "Z", .int 1), ("jdk/internal/util/Preconditions", "SIOOBE_FORMATTER", "Ljava/util/function/BiFunction;", .retAddr 20)]
def mc_sks : List (String × Nat × String × Nat) := [("SmallerInTheShop$Letters", 23, "cmvsto", 30), ("SmallerInTheShop$Letters", 59, "0k0;", 31), ("SmallerInTheShop$Letters", 61, "000;", 32), ("SmallerInTheShop$Letters", 63, "00;", 33), ("SmallerInTheShop$Letters", 65, ";", 34), ("SmallerInTheShop$Letters", 67, "0;", 35), ("SmallerInTheShop$Letters", 69, "", 36), ("SmallerInTheShopModel", 33, "cmvsto", 37)]
def mc_X (scr : List Int32) : mm_X := fun n => match n with
  | 0 => some (.inl scr)
  | 1 => some (.inl [0, 1, 2, 4, 5, 6, 0, 1, 2, 3])
  | 2 => some (.inl [1, 2, 3, 5, 6, 7, 4, 5, 6, 7])
  | 30 => some (.inr [.retAddr 60, .int 0])
  | 31 => some (.inr [.retAddr 61, .int 0])
  | 32 => some (.inr [.retAddr 62, .int 0])
  | 33 => some (.inr [.retAddr 63, .int 0])
  | 34 => some (.inr [.retAddr 64, .int 0])
  | 35 => some (.inr [.retAddr 65, .int 0])
  | 36 => some (.inr [.retAddr 66, .int 0])
  | 37 => some (.inr [.retAddr 67, .int 0])
  | 60 => some (.inl [99, 109, 118, 115, 116, 111])
  | 61 => some (.inl [48, 107, 48, 59])
  | 62 => some (.inl [48, 48, 48, 59])
  | 63 => some (.inl [48, 48, 59])
  | 64 => some (.inl [59])
  | 65 => some (.inl [48, 59])
  | 66 => some (.inl [])
  | 67 => some (.inl [99, 109, 118, 115, 116, 111])
  | _ => none
def mc_co (l : List (Nat × mm_I)) (pc : Nat) : Option mm_I := l.lookup pc
/-- java/lang/Integer bitCount (I)I -/
def mp_0 : List (Nat × mm_I) := [(0, .iload_n 0, 1, 0, 0, .null, []), (1, .iload_n 0, 1, 0, 0, .null, []), (2, .iconst 1, 1, 0, 0, .null, []), (3, .iushr, 1, 0, 0, .null, []), (4, .ldc_w 265, 3, 0, 0, .int (1431655765), [680]), (7, .iand, 1, 0, 0, .null, []),
  (8, .isub, 1, 0, 0, .null, []), (9, .istore_n 0, 1, 0, 0, .null, []), (10, .iload_n 0, 1, 0, 0, .null, []), (11, .ldc_w 266, 3, 0, 0, .int (858993459), [681]), (14, .iand, 1, 0, 0, .null, []), (15, .iload_n 0, 1, 0, 0, .null, []),
  (16, .iconst 2, 1, 0, 0, .null, []), (17, .iushr, 1, 0, 0, .null, []), (18, .ldc_w 266, 3, 0, 0, .int (858993459), [681]), (21, .iand, 1, 0, 0, .null, []), (22, .iadd, 1, 0, 0, .null, []), (23, .istore_n 0, 1, 0, 0, .null, []),
  (24, .iload_n 0, 1, 0, 0, .null, []), (25, .iload_n 0, 1, 0, 0, .null, []), (26, .iconst 4, 1, 0, 0, .null, []), (27, .iushr, 1, 0, 0, .null, []), (28, .iadd, 1, 0, 0, .null, []), (29, .ldc_w 267, 3, 0, 0, .int (252645135), [682]),
  (32, .iand, 1, 0, 0, .null, []), (33, .istore_n 0, 1, 0, 0, .null, []), (34, .iload_n 0, 1, 0, 0, .null, []), (35, .iload_n 0, 1, 0, 0, .null, []), (36, .bipush 8, 2, 0, 0, .null, []), (38, .iushr, 1, 0, 0, .null, []),
  (39, .iadd, 1, 0, 0, .null, []), (40, .istore_n 0, 1, 0, 0, .null, []), (41, .iload_n 0, 1, 0, 0, .null, []), (42, .iload_n 0, 1, 0, 0, .null, []), (43, .bipush 16, 2, 0, 0, .null, []), (45, .iushr, 1, 0, 0, .null, []),
  (46, .iadd, 1, 0, 0, .null, []), (47, .istore_n 0, 1, 0, 0, .null, []), (48, .iload_n 0, 1, 0, 0, .null, []), (49, .bipush 63, 2, 0, 0, .null, []), (51, .iand, 1, 0, 0, .null, []), (52, .ireturn, 1, 0, 0, .null, [])]
/-- java/lang/String isEmpty ()Z -/
def mp_1 : List (Nat × mm_I) := [(0, .aload_n 0, 1, 0, 0, .null, []), (1, .getfield 9, 3, 99, 0, .null, [1262, 0]), (4, .arraylength, 1, 0, 0, .null, []), (5, .ifCond .ne 7, 3, 12, 0, .null, []), (8, .iconst 1, 1, 0, 0, .null, []), (9, .goto 4, 3, 13, 0, .null, []),
  (12, .iconst 0, 1, 0, 0, .null, []), (13, .ireturn, 1, 0, 0, .null, [])]
/-- java/lang/String length ()I -/
def mp_2 : List (Nat × mm_I) := [(0, .aload_n 0, 1, 0, 0, .null, []), (1, .getfield 9, 3, 99, 0, .null, [1262, 0]), (4, .arraylength, 1, 0, 0, .null, []), (5, .aload_n 0, 1, 0, 0, .null, []), (6, .invokevirtual 335, 3, 3, 1, .null, [299, 0, 300, 62, 301]), (9, .ishr, 1, 0, 0, .null, []),
  (10, .ireturn, 1, 0, 0, .null, [])]
/-- java/lang/String coder ()B -/
def mp_3 : List (Nat × mm_I) := [(0, .getstatic 38, 3, 0, 0, .int 1, [303, 0, 2]), (3, .ifCond .eq 10, 3, 13, 0, .null, []), (6, .aload_n 0, 1, 0, 0, .null, []), (7, .getfield 15, 3, 99, 1, .null, [1263, 0]), (10, .goto 4, 3, 14, 0, .null, []), (13, .iconst 1, 1, 0, 0, .null, []),
  (14, .ireturn, 1, 0, 0, .null, [])]
/-- java/lang/String charAt (I)C -/
def mp_4 : List (Nat × mm_I) := [(0, .aload_n 0, 1, 0, 0, .null, []), (1, .invokevirtual 492, 3, 5, 1, .null, [309, 0, 310, 62, 311]), (4, .ifCond .eq 12, 3, 16, 0, .null, []), (7, .aload_n 0, 1, 0, 0, .null, []), (8, .getfield 9, 3, 99, 0, .null, [1262, 0]), (11, .iload_n 1, 1, 0, 0, .null, []),
  (12, .invokestatic 495, 3, 9, 2, .null, [313, 0, 314, 63]), (15, .ireturn, 1, 0, 0, .null, []), (16, .aload_n 0, 1, 0, 0, .null, []), (17, .getfield 9, 3, 99, 0, .null, [1262, 0]), (20, .iload_n 1, 1, 0, 0, .null, []), (24, .ireturn, 1, 0, 0, .null, [])]
/-- java/lang/String isLatin1 ()Z -/
def mp_5 : List (Nat × mm_I) := [(0, .getstatic 38, 3, 0, 0, .int 1, [303, 0, 2]), (3, .ifCond .eq 14, 3, 17, 0, .null, []), (6, .aload_n 0, 1, 0, 0, .null, []), (7, .getfield 15, 3, 99, 1, .null, [1263, 0]), (10, .ifCond .ne 7, 3, 17, 0, .null, []), (13, .iconst 1, 1, 0, 0, .null, []),
  (14, .goto 4, 3, 18, 0, .null, []), (17, .iconst 0, 1, 0, 0, .null, []), (18, .ireturn, 1, 0, 0, .null, [])]
/-- java/lang/String checkIndex (II)V -/
def mp_6 : List (Nat × mm_I) := [(0, .iload_n 0, 1, 0, 0, .null, []), (1, .iload_n 1, 1, 0, 0, .null, []), (2, .getstatic 1053, 3, 0, 0, .retAddr 20, [319, 0, 3]), (5, .invokestatic 1059, 3, 13, 3, .null, [321, 0, 322, 64]), (8, .pop, 1, 0, 0, .null, []), (9, .return_, 1, 0, 0, .null, [])]
/-- java/lang/String indexOf (I)I -/
def mp_7 : List (Nat × mm_I) := [(0, .aload_n 0, 1, 0, 0, .null, []), (1, .iload_n 1, 1, 0, 0, .null, []), (2, .iconst 0, 1, 0, 0, .null, []), (3, .invokevirtual 633, 3, 8, 3, .null, [351, 0, 352, 62, 353]), (6, .ireturn, 1, 0, 0, .null, [])]
/-- java/lang/String indexOf (II)I -/
def mp_8 : List (Nat × mm_I) := [(0, .aload_n 0, 1, 0, 0, .null, []), (1, .invokevirtual 492, 3, 5, 1, .null, [309, 0, 310, 62, 311]), (4, .ifCond .eq 19, 3, 23, 0, .null, []), (7, .aload_n 0, 1, 0, 0, .null, []), (8, .getfield 9, 3, 99, 0, .null, [1262, 0]), (11, .iload_n 1, 1, 0, 0, .null, []),
  (12, .iload_n 2, 1, 0, 0, .null, []), (13, .aload_n 0, 1, 0, 0, .null, []), (14, .invokevirtual 505, 3, 2, 1, .null, [355, 0, 296, 62, 297]), (17, .invokestatic 637, 3, 10, 4, .null, [356, 0, 357, 63]), (20, .goto 16, 3, 36, 0, .null, []), (23, .aload_n 0, 1, 0, 0, .null, []),
  (24, .getfield 9, 3, 99, 0, .null, [1262, 0]), (27, .iload_n 1, 1, 0, 0, .null, []), (28, .iload_n 2, 1, 0, 0, .null, []), (29, .aload_n 0, 1, 0, 0, .null, []), (30, .invokevirtual 505, 3, 2, 1, .null, [355, 0, 296, 62, 297]), (36, .ireturn, 1, 0, 0, .null, [])]
/-- java/lang/StringLatin1 charAt ([BI)C -/
def mp_9 : List (Nat × mm_I) := [(0, .iload_n 1, 1, 0, 0, .null, []), (1, .aload_n 0, 1, 0, 0, .null, []), (2, .arraylength, 1, 0, 0, .null, []), (3, .invokestatic 9, 3, 6, 2, .null, [316, 0, 317, 62]), (6, .aload_n 0, 1, 0, 0, .null, []), (7, .iload_n 1, 1, 0, 0, .null, []),
  (8, .baload, 1, 0, 0, .null, []), (9, .sipush 255, 3, 0, 0, .null, []), (12, .iand, 1, 0, 0, .null, []), (13, .i2c, 1, 0, 0, .null, []), (14, .ireturn, 1, 0, 0, .null, [])]
/-- java/lang/StringLatin1 indexOf ([BIII)I -/
def mp_10 : List (Nat × mm_I) := [(0, .iload_n 1, 1, 0, 0, .null, []), (1, .invokestatic 88, 3, 11, 1, .null, [359, 0, 360, 63]), (4, .ifCond .ne 5, 3, 9, 0, .null, []), (7, .iconst (-1), 1, 0, 0, .null, []), (8, .ireturn, 1, 0, 0, .null, []), (9, .iload_n 2, 1, 0, 0, .null, []),
  (10, .iconst 0, 1, 0, 0, .null, []), (11, .invokestatic 92, 3, 997, 2, .null, [362, 0, 363, 66, 364]), (14, .istore_n 2, 1, 0, 0, .null, []), (15, .iload_n 3, 1, 0, 0, .null, []), (16, .aload_n 0, 1, 0, 0, .null, []), (17, .arraylength, 1, 0, 0, .null, []),
  (18, .invokestatic 38, 3, 998, 2, .null, [365, 0, 366, 66, 367]), (21, .istore_n 3, 1, 0, 0, .null, []), (22, .iload_n 2, 1, 0, 0, .null, []), (23, .iload_n 3, 1, 0, 0, .null, []), (24, .if_icmp .lt 5, 3, 29, 0, .null, []), (27, .iconst (-1), 1, 0, 0, .null, []),
  (28, .ireturn, 1, 0, 0, .null, []), (29, .aload_n 0, 1, 0, 0, .null, []), (30, .iload_n 1, 1, 0, 0, .null, []), (31, .iload_n 2, 1, 0, 0, .null, []), (32, .iload_n 3, 1, 0, 0, .null, []), (33, .invokestatic 95, 3, 12, 4, .null, [368, 0, 369, 63]),
  (36, .ireturn, 1, 0, 0, .null, [])]
/-- java/lang/StringLatin1 canEncode (I)Z -/
def mp_11 : List (Nat × mm_I) := [(0, .iload_n 0, 1, 0, 0, .null, []), (1, .ifCond .lt 14, 3, 15, 0, .null, []), (4, .iload_n 0, 1, 0, 0, .null, []), (5, .sipush 255, 3, 0, 0, .null, []), (8, .if_icmp .gt 7, 3, 15, 0, .null, []), (11, .iconst 1, 1, 0, 0, .null, []),
  (12, .goto 4, 3, 16, 0, .null, []), (15, .iconst 0, 1, 0, 0, .null, []), (16, .ireturn, 1, 0, 0, .null, [])]
/-- java/lang/StringLatin1 indexOfChar ([BIII)I -/
def mp_12 : List (Nat × mm_I) := [(0, .iload_n 1, 1, 0, 0, .null, []), (1, .i2b, 1, 0, 0, .null, []), (2, .istore 4, 2, 0, 0, .null, []), (4, .iload_n 2, 1, 0, 0, .null, []), (5, .istore 5, 2, 0, 0, .null, []), (7, .iload 5, 2, 0, 0, .null, []),
  (9, .iload_n 3, 1, 0, 0, .null, []), (10, .if_icmp .ge 21, 3, 31, 0, .null, []), (13, .aload_n 0, 1, 0, 0, .null, []), (14, .iload 5, 2, 0, 0, .null, []), (16, .baload, 1, 0, 0, .null, []), (17, .iload 4, 2, 0, 0, .null, []),
  (19, .if_icmp .ne 6, 3, 25, 0, .null, []), (22, .iload 5, 2, 0, 0, .null, []), (24, .ireturn, 1, 0, 0, .null, []), (25, .iinc 5 1, 3, 0, 0, .null, []), (28, .goto (-21), 3, 7, 0, .null, []), (31, .iconst (-1), 1, 0, 0, .null, []),
  (32, .ireturn, 1, 0, 0, .null, [])]
/-- jdk/internal/util/Preconditions checkIndex (IILjava/util/function/BiFunction;)I -/
def mp_13 : List (Nat × mm_I) := [(0, .iload_n 0, 1, 0, 0, .null, []), (1, .ifCond .lt 8, 3, 9, 0, .null, []), (4, .iload_n 0, 1, 0, 0, .null, []), (5, .iload_n 1, 1, 0, 0, .null, []), (6, .if_icmp .lt 10, 3, 16, 0, .null, []), (9, .aload_n 2, 1, 0, 0, .null, []),
  (10, .iload_n 0, 1, 0, 0, .null, []), (11, .iload_n 1, 1, 0, 0, .null, []), (16, .iload_n 0, 1, 0, 0, .null, []), (17, .ireturn, 1, 0, 0, .null, [])]
/-- SmallerInTheShop$Draws <init> ()V -/
def mp_14 : List (Nat × mm_I) := [(0, .aload_n 0, 1, 0, 0, .null, []), (1, .invokespecial 1, 3, 999, 1, .null, [213, 76, 77]), (4, .aload_n 0, 1, 0, 0, .null, []), (5, .iconst 0, 1, 0, 0, .null, []), (6, .putfield 7, 3, 0, 0, .null, [214, 0]), (9, .aload_n 0, 1, 0, 0, .null, []),
  (10, .iconst 0, 1, 0, 0, .null, []), (11, .putfield 13, 3, 0, 1, .null, [216, 0]), (14, .return_, 1, 0, 0, .null, [])]
/-- SmallerInTheShop$Draws drawBelow (I)I -/
def mp_15 : List (Nat × mm_I) := [(0, .aload_n 0, 1, 0, 0, .null, []), (1, .aload_n 0, 1, 0, 0, .null, []), (2, .getfield 7, 3, 0, 0, .null, [214, 0]), (5, .ldc 16, 2, 0, 0, .int (1664525), [850]), (7, .imul, 1, 0, 0, .null, []), (8, .ldc 17, 2, 0, 0, .int (1013904223), [851]),
  (10, .iadd, 1, 0, 0, .null, []), (11, .putfield 7, 3, 0, 0, .null, [214, 0]), (14, .iload_n 1, 1, 0, 0, .null, []), (15, .iconst 1, 1, 0, 0, .null, []), (16, .if_icmp .ge 7, 3, 23, 0, .null, []), (19, .iconst 0, 1, 0, 0, .null, []),
  (20, .goto 16, 3, 36, 0, .null, []), (23, .aload_n 0, 1, 0, 0, .null, []), (24, .getfield 7, 3, 0, 0, .null, [214, 0]), (27, .ldc 18, 2, 0, 0, .int (2147483647), [852]), (29, .iand, 1, 0, 0, .null, []), (30, .sipush 256, 3, 0, 0, .null, []),
  (33, .idiv, 1, 0, 0, .null, []), (34, .iload_n 1, 1, 0, 0, .null, []), (35, .irem, 1, 0, 0, .null, []), (36, .ireturn, 1, 0, 0, .null, [])]
/-- SmallerInTheShop$Kinds effort (IIII)I -/
def mp_16 : List (Nat × mm_I) := [(0, .iload_n 0, 1, 0, 0, .null, []), (1, .tableswitch 72 1 5 #[35, 42, 49, 60, 63], 35, 0, 0, .null, []), (36, .iconst 2, 1, 0, 0, .null, []), (37, .iload_n 1, 1, 0, 0, .null, []), (38, .iload_n 3, 1, 0, 0, .null, []), (39, .invokestatic 9, 3, 17, 3, .null, [513, 0, 514, 68]),
  (42, .ireturn, 1, 0, 0, .null, []), (43, .iconst 1, 1, 0, 0, .null, []), (44, .iload_n 1, 1, 0, 0, .null, []), (45, .iload_n 3, 1, 0, 0, .null, []), (46, .invokestatic 9, 3, 17, 3, .null, [513, 0, 514, 68]), (49, .ireturn, 1, 0, 0, .null, []),
  (50, .iconst 2, 1, 0, 0, .null, []), (51, .iload_n 1, 1, 0, 0, .null, []), (52, .iload_n 2, 1, 0, 0, .null, []), (53, .iload_n 3, 1, 0, 0, .null, []), (54, .invokestatic 15, 3, 18, 2, .null, [516, 0, 517, 68]), (57, .invokestatic 9, 3, 17, 3, .null, [513, 0, 514, 68]),
  (60, .ireturn, 1, 0, 0, .null, []), (61, .bipush 7, 2, 0, 0, .null, []), (63, .ireturn, 1, 0, 0, .null, []), (64, .iconst 1, 1, 0, 0, .null, []), (65, .iload_n 1, 1, 0, 0, .null, []), (66, .iload_n 3, 1, 0, 0, .null, []),
  (67, .invokestatic 9, 3, 17, 3, .null, [513, 0, 514, 68]), (70, .iconst 2, 1, 0, 0, .null, []), (71, .idiv, 1, 0, 0, .null, []), (72, .ireturn, 1, 0, 0, .null, []), (73, .iconst 3, 1, 0, 0, .null, []), (74, .ireturn, 1, 0, 0, .null, [])]
/-- SmallerInTheShop$Kinds effortAgainst (III)I -/
def mp_17 : List (Nat × mm_I) := [(0, .iload_n 2, 1, 0, 0, .null, []), (1, .iload_n 0, 1, 0, 0, .null, []), (2, .if_icmp .ne 9, 3, 11, 0, .null, []), (5, .iconst 3, 1, 0, 0, .null, []), (6, .iload_n 1, 1, 0, 0, .null, []), (7, .iadd, 1, 0, 0, .null, []),
  (8, .goto 4, 3, 12, 0, .null, []), (11, .iconst 3, 1, 0, 0, .null, []), (12, .ireturn, 1, 0, 0, .null, [])]
/-- SmallerInTheShop$Kinds sprungSide (II)I -/
def mp_18 : List (Nat × mm_I) := [(0, .iload_n 0, 1, 0, 0, .null, []), (1, .bipush 10, 2, 0, 0, .null, []), (3, .if_icmp .ge 5, 3, 8, 0, .null, []), (6, .iload_n 1, 1, 0, 0, .null, []), (7, .ireturn, 1, 0, 0, .null, []), (8, .iload_n 1, 1, 0, 0, .null, []),
  (9, .iconst 1, 1, 0, 0, .null, []), (10, .if_icmp .ne 7, 3, 17, 0, .null, []), (13, .iconst 2, 1, 0, 0, .null, []), (14, .goto 4, 3, 18, 0, .null, []), (17, .iconst 1, 1, 0, 0, .null, []), (18, .ireturn, 1, 0, 0, .null, [])]
/-- SmallerInTheShop$Kinds wear (III)I -/
def mp_19 : List (Nat × mm_I) := [(0, .iload_n 0, 1, 0, 0, .null, []), (1, .tableswitch 67 1 5 #[35, 41, 47, 57, 59], 35, 0, 0, .null, []), (36, .iconst 2, 1, 0, 0, .null, []), (37, .iload_n 2, 1, 0, 0, .null, []), (38, .invokestatic 19, 3, 20, 2, .null, [534, 0, 535, 68]), (41, .ireturn, 1, 0, 0, .null, []),
  (42, .iconst 1, 1, 0, 0, .null, []), (43, .iload_n 2, 1, 0, 0, .null, []), (44, .invokestatic 19, 3, 20, 2, .null, [534, 0, 535, 68]), (47, .ireturn, 1, 0, 0, .null, []), (48, .iconst 2, 1, 0, 0, .null, []), (49, .iload_n 1, 1, 0, 0, .null, []),
  (50, .iload_n 2, 1, 0, 0, .null, []), (51, .invokestatic 15, 3, 18, 2, .null, [516, 0, 517, 68]), (54, .invokestatic 19, 3, 20, 2, .null, [534, 0, 535, 68]), (57, .ireturn, 1, 0, 0, .null, []), (58, .iconst 0, 1, 0, 0, .null, []), (59, .ireturn, 1, 0, 0, .null, []),
  (60, .iconst 1, 1, 0, 0, .null, []), (61, .iload_n 2, 1, 0, 0, .null, []), (62, .invokestatic 19, 3, 20, 2, .null, [534, 0, 535, 68]), (65, .iconst 1, 1, 0, 0, .null, []), (66, .iadd, 1, 0, 0, .null, []), (67, .ireturn, 1, 0, 0, .null, []),
  (68, .iconst 1, 1, 0, 0, .null, []), (69, .ireturn, 1, 0, 0, .null, [])]
/-- SmallerInTheShop$Kinds wearAgainst (II)I -/
def mp_20 : List (Nat × mm_I) := [(0, .iload_n 1, 1, 0, 0, .null, []), (1, .iload_n 0, 1, 0, 0, .null, []), (2, .if_icmp .ne 7, 3, 9, 0, .null, []), (5, .iconst 2, 1, 0, 0, .null, []), (6, .goto 4, 3, 10, 0, .null, []), (9, .iconst 1, 1, 0, 0, .null, []),
  (10, .ireturn, 1, 0, 0, .null, [])]
/-- SmallerInTheShop$Layout <init> ()V -/
def mp_21 : List (Nat × mm_I) := [(0, .aload_n 0, 1, 0, 0, .null, []), (1, .invokespecial 3, 3, 999, 1, .null, [90, 76, 77]), (4, .aload_n 0, 1, 0, 0, .null, []), (5, .bipush 8, 2, 0, 0, .null, []), (7, .newarray .int, 2, 0, 0, .null, [130]), (9, .putfield 9, 3, 1, 0, .null, [91, 0]),
  (12, .aload_n 0, 1, 0, 0, .null, []), (13, .bipush 8, 2, 0, 0, .null, []), (15, .newarray .int, 2, 0, 0, .null, [130]), (17, .putfield 15, 3, 1, 1, .null, [93, 0]), (20, .aload_n 0, 1, 0, 0, .null, []), (21, .bipush 8, 2, 0, 0, .null, []),
  (23, .newarray .int, 2, 0, 0, .null, [130]), (25, .putfield 18, 3, 1, 2, .null, [95, 0]), (28, .aload_n 0, 1, 0, 0, .null, []), (29, .bipush 8, 2, 0, 0, .null, []), (31, .newarray .int, 2, 0, 0, .null, [130]), (33, .putfield 21, 3, 1, 3, .null, [98, 0]),
  (36, .aload_n 0, 1, 0, 0, .null, []), (37, .bipush 10, 2, 0, 0, .null, []), (39, .newarray .int, 2, 0, 0, .null, [130]), (41, .putfield 24, 3, 1, 4, .null, [100, 0]), (44, .aload_n 0, 1, 0, 0, .null, []), (45, .bipush 8, 2, 0, 0, .null, []),
  (47, .newarray .int, 2, 0, 0, .null, [130]), (49, .putfield 27, 3, 1, 5, .null, [103, 0]), (52, .aload_n 0, 1, 0, 0, .null, []), (53, .iconst 4, 1, 0, 0, .null, []), (54, .putfield 30, 3, 1, 6, .null, [104, 0]), (57, .aload_n 0, 1, 0, 0, .null, []),
  (58, .iconst 2, 1, 0, 0, .null, []), (59, .putfield 34, 3, 1, 7, .null, [106, 0]), (62, .aload_n 0, 1, 0, 0, .null, []), (63, .iconst 0, 1, 0, 0, .null, []), (64, .putfield 37, 3, 1, 8, .null, [108, 0]), (67, .iconst 0, 1, 0, 0, .null, []),
  (68, .istore_n 1, 1, 0, 0, .null, []), (69, .iload_n 1, 1, 0, 0, .null, []), (70, .bipush 8, 2, 0, 0, .null, []), (72, .if_icmp .ge 34, 3, 106, 0, .null, []), (75, .aload_n 0, 1, 0, 0, .null, []), (76, .getfield 9, 3, 1, 0, .null, [91, 0]),
  (79, .iload_n 1, 1, 0, 0, .null, []), (80, .iload_n 1, 1, 0, 0, .null, []), (81, .iconst 4, 1, 0, 0, .null, []), (82, .irem, 1, 0, 0, .null, []), (83, .iastore, 1, 0, 0, .null, []), (84, .aload_n 0, 1, 0, 0, .null, []),
  (85, .getfield 15, 3, 1, 1, .null, [93, 0]), (88, .iload_n 1, 1, 0, 0, .null, []), (89, .iload_n 1, 1, 0, 0, .null, []), (90, .iconst 4, 1, 0, 0, .null, []), (91, .idiv, 1, 0, 0, .null, []), (92, .iastore, 1, 0, 0, .null, []),
  (93, .aload_n 0, 1, 0, 0, .null, []), (94, .getfield 27, 3, 1, 5, .null, [103, 0]), (97, .iload_n 1, 1, 0, 0, .null, []), (98, .iconst 1, 1, 0, 0, .null, []), (99, .iastore, 1, 0, 0, .null, []), (100, .iinc 1 1, 3, 0, 0, .null, []),
  (103, .goto (-34), 3, 69, 0, .null, []), (106, .return_, 1, 0, 0, .null, [])]
/-- SmallerInTheShop$Layout copyLayout (LSmallerInTheShop$Layout;)V -/
def mp_22 : List (Nat × mm_I) := [(0, .iconst 0, 1, 0, 0, .null, []), (1, .istore_n 2, 1, 0, 0, .null, []), (2, .iload_n 2, 1, 0, 0, .null, []), (3, .bipush 8, 2, 0, 0, .null, []), (5, .if_icmp .ge 69, 3, 74, 0, .null, []), (8, .aload_n 0, 1, 0, 0, .null, []),
  (9, .getfield 9, 3, 1, 0, .null, [91, 0]), (12, .iload_n 2, 1, 0, 0, .null, []), (13, .aload_n 1, 1, 0, 0, .null, []), (14, .getfield 9, 3, 1, 0, .null, [91, 0]), (17, .iload_n 2, 1, 0, 0, .null, []), (18, .iaload, 1, 0, 0, .null, []),
  (19, .iastore, 1, 0, 0, .null, []), (20, .aload_n 0, 1, 0, 0, .null, []), (21, .getfield 15, 3, 1, 1, .null, [93, 0]), (24, .iload_n 2, 1, 0, 0, .null, []), (25, .aload_n 1, 1, 0, 0, .null, []), (26, .getfield 15, 3, 1, 1, .null, [93, 0]),
  (29, .iload_n 2, 1, 0, 0, .null, []), (30, .iaload, 1, 0, 0, .null, []), (31, .iastore, 1, 0, 0, .null, []), (32, .aload_n 0, 1, 0, 0, .null, []), (33, .getfield 18, 3, 1, 2, .null, [95, 0]), (36, .iload_n 2, 1, 0, 0, .null, []),
  (37, .aload_n 1, 1, 0, 0, .null, []), (38, .getfield 18, 3, 1, 2, .null, [95, 0]), (41, .iload_n 2, 1, 0, 0, .null, []), (42, .iaload, 1, 0, 0, .null, []), (43, .iastore, 1, 0, 0, .null, []), (44, .aload_n 0, 1, 0, 0, .null, []),
  (45, .getfield 21, 3, 1, 3, .null, [98, 0]), (48, .iload_n 2, 1, 0, 0, .null, []), (49, .aload_n 1, 1, 0, 0, .null, []), (50, .getfield 21, 3, 1, 3, .null, [98, 0]), (53, .iload_n 2, 1, 0, 0, .null, []), (54, .iaload, 1, 0, 0, .null, []),
  (55, .iastore, 1, 0, 0, .null, []), (56, .aload_n 0, 1, 0, 0, .null, []), (57, .getfield 27, 3, 1, 5, .null, [103, 0]), (60, .iload_n 2, 1, 0, 0, .null, []), (61, .aload_n 1, 1, 0, 0, .null, []), (62, .getfield 27, 3, 1, 5, .null, [103, 0]),
  (65, .iload_n 2, 1, 0, 0, .null, []), (66, .iaload, 1, 0, 0, .null, []), (67, .iastore, 1, 0, 0, .null, []), (68, .iinc 2 1, 3, 0, 0, .null, []), (71, .goto (-69), 3, 2, 0, .null, []), (74, .iconst 0, 1, 0, 0, .null, []),
  (75, .istore_n 2, 1, 0, 0, .null, []), (76, .iload_n 2, 1, 0, 0, .null, []), (77, .bipush 10, 2, 0, 0, .null, []), (79, .if_icmp .ge 21, 3, 100, 0, .null, []), (82, .aload_n 0, 1, 0, 0, .null, []), (83, .getfield 24, 3, 1, 4, .null, [100, 0]),
  (86, .iload_n 2, 1, 0, 0, .null, []), (87, .aload_n 1, 1, 0, 0, .null, []), (88, .getfield 24, 3, 1, 4, .null, [100, 0]), (91, .iload_n 2, 1, 0, 0, .null, []), (92, .iaload, 1, 0, 0, .null, []), (93, .iastore, 1, 0, 0, .null, []),
  (94, .iinc 2 1, 3, 0, 0, .null, []), (97, .goto (-21), 3, 76, 0, .null, []), (100, .aload_n 0, 1, 0, 0, .null, []), (101, .aload_n 1, 1, 0, 0, .null, []), (102, .getfield 30, 3, 1, 6, .null, [104, 0]), (105, .putfield 30, 3, 1, 6, .null, [104, 0]),
  (108, .aload_n 0, 1, 0, 0, .null, []), (109, .aload_n 1, 1, 0, 0, .null, []), (110, .getfield 34, 3, 1, 7, .null, [106, 0]), (113, .putfield 34, 3, 1, 7, .null, [106, 0]), (116, .aload_n 0, 1, 0, 0, .null, []), (117, .aload_n 1, 1, 0, 0, .null, []),
  (118, .getfield 37, 3, 1, 8, .null, [108, 0]), (121, .putfield 37, 3, 1, 8, .null, [108, 0]), (124, .return_, 1, 0, 0, .null, [])]
/-- SmallerInTheShop$Layout hasLine (I)Z -/
def mp_23 : List (Nat × mm_I) := [(0, .iload_n 1, 1, 0, 0, .null, []), (1, .iconst 4, 1, 0, 0, .null, []), (2, .if_icmp .ne 19, 3, 21, 0, .null, []), (5, .aload_n 0, 1, 0, 0, .null, []), (6, .getfield 34, 3, 1, 7, .null, [106, 0]), (9, .iconst 2, 1, 0, 0, .null, []),
  (10, .if_icmp .ne 7, 3, 17, 0, .null, []), (13, .iconst 1, 1, 0, 0, .null, []), (14, .goto 25, 3, 39, 0, .null, []), (17, .iconst 0, 1, 0, 0, .null, []), (18, .goto 21, 3, 39, 0, .null, []), (21, .iload_n 1, 1, 0, 0, .null, []),
  (22, .iconst 1, 1, 0, 0, .null, []), (23, .if_icmp .lt 15, 3, 38, 0, .null, []), (26, .iload_n 1, 1, 0, 0, .null, []), (27, .aload_n 0, 1, 0, 0, .null, []), (28, .getfield 30, 3, 1, 6, .null, [104, 0]), (31, .if_icmp .ge 7, 3, 38, 0, .null, []),
  (34, .iconst 1, 1, 0, 0, .null, []), (35, .goto 4, 3, 39, 0, .null, []), (38, .iconst 0, 1, 0, 0, .null, []), (39, .ireturn, 1, 0, 0, .null, [])]
/-- SmallerInTheShop$Layout becomeFolded (LSmallerInTheShop$Layout;II)V -/
def mp_24 : List (Nat × mm_I) := [(0, .iload_n 2, 1, 0, 0, .null, []), (1, .iconst 4, 1, 0, 0, .null, []), (2, .if_icmp .ne 7, 3, 9, 0, .null, []), (5, .iconst 1, 1, 0, 0, .null, []), (6, .goto 4, 3, 10, 0, .null, []), (9, .iconst 0, 1, 0, 0, .null, []),
  (10, .istore 4, 2, 0, 0, .null, []), (12, .iload 4, 2, 0, 0, .null, []), (14, .ifCond .eq 7, 3, 21, 0, .null, []), (17, .iconst 1, 1, 0, 0, .null, []), (18, .goto 4, 3, 22, 0, .null, []), (21, .iload_n 2, 1, 0, 0, .null, []),
  (22, .istore 5, 2, 0, 0, .null, []), (24, .iload_n 3, 1, 0, 0, .null, []), (25, .iconst 2, 1, 0, 0, .null, []), (26, .irem, 1, 0, 0, .null, []), (27, .ifCond .ne 7, 3, 34, 0, .null, []), (30, .iconst 1, 1, 0, 0, .null, []),
  (31, .goto 4, 3, 35, 0, .null, []), (34, .iconst 0, 1, 0, 0, .null, []), (35, .istore 6, 2, 0, 0, .null, []), (37, .aload_n 0, 1, 0, 0, .null, []), (38, .aload_n 1, 1, 0, 0, .null, []), (39, .iload 4, 2, 0, 0, .null, []),
  (41, .iload 5, 2, 0, 0, .null, []), (43, .iload_n 3, 1, 0, 0, .null, []), (44, .iconst 2, 1, 0, 0, .null, []), (45, .if_icmp .ge 7, 3, 52, 0, .null, []), (48, .iconst 1, 1, 0, 0, .null, []), (49, .goto 4, 3, 53, 0, .null, []),
  (52, .iconst 0, 1, 0, 0, .null, []), (53, .iload 6, 2, 0, 0, .null, []), (55, .invokevirtual 57, 3, 25, 6, .null, [475, 0, 477, 57, 6]), (58, .aload_n 0, 1, 0, 0, .null, []), (59, .iload 4, 2, 0, 0, .null, []), (61, .ifCond .eq 10, 3, 71, 0, .null, []),
  (64, .aload_n 1, 1, 0, 0, .null, []), (65, .getfield 30, 3, 1, 6, .null, [104, 0]), (68, .goto 15, 3, 83, 0, .null, []), (71, .iload 5, 2, 0, 0, .null, []), (73, .aload_n 1, 1, 0, 0, .null, []), (74, .getfield 30, 3, 1, 6, .null, [104, 0]),
  (77, .iload 5, 2, 0, 0, .null, []), (79, .isub, 1, 0, 0, .null, []), (80, .invokestatic 51, 3, 997, 2, .null, [485, 0, 363, 66, 364]), (83, .putfield 30, 3, 1, 6, .null, [104, 0]), (86, .aload_n 0, 1, 0, 0, .null, []), (87, .iload 4, 2, 0, 0, .null, []),
  (89, .ifCond .eq 7, 3, 96, 0, .null, []), (92, .iconst 1, 1, 0, 0, .null, []), (93, .goto 7, 3, 100, 0, .null, []), (96, .aload_n 1, 1, 0, 0, .null, []), (97, .getfield 34, 3, 1, 7, .null, [106, 0]), (100, .putfield 34, 3, 1, 7, .null, [106, 0]),
  (103, .aload_n 0, 1, 0, 0, .null, []), (104, .invokevirtual 61, 3, 27, 1, .null, [486, 0, 488, 57, 8]), (107, .aload_n 0, 1, 0, 0, .null, []), (108, .aload_n 1, 1, 0, 0, .null, []), (109, .iload 4, 2, 0, 0, .null, []), (111, .iload 5, 2, 0, 0, .null, []),
  (113, .iload 6, 2, 0, 0, .null, []), (115, .invokevirtual 64, 3, 29, 5, .null, [494, 0, 496, 57, 10]), (118, .return_, 1, 0, 0, .null, [])]
/-- SmallerInTheShop$Layout movePanels (LSmallerInTheShop$Layout;ZIZZ)V -/
def mp_25 : List (Nat × mm_I) := [(0, .iload_n 2, 1, 0, 0, .null, []), (1, .ifCond .eq 10, 3, 11, 0, .null, []), (4, .aload_n 1, 1, 0, 0, .null, []), (5, .getfield 34, 3, 1, 7, .null, [106, 0]), (8, .goto 7, 3, 15, 0, .null, []), (11, .aload_n 1, 1, 0, 0, .null, []),
  (12, .getfield 30, 3, 1, 6, .null, [104, 0]), (15, .istore 6, 2, 0, 0, .null, []), (17, .iload 4, 2, 0, 0, .null, []), (19, .ifCond .eq 7, 3, 26, 0, .null, []), (22, .iload_n 3, 1, 0, 0, .null, []), (23, .goto 13, 3, 36, 0, .null, []),
  (26, .iconst 0, 1, 0, 0, .null, []), (27, .iconst 2, 1, 0, 0, .null, []), (28, .iload_n 3, 1, 0, 0, .null, []), (29, .imul, 1, 0, 0, .null, []), (30, .iload 6, 2, 0, 0, .null, []), (32, .isub, 1, 0, 0, .null, []),
  (33, .invokestatic 68, 3, 998, 2, .null, [479, 0, 366, 66, 367]), (36, .istore 7, 2, 0, 0, .null, []), (38, .iconst 0, 1, 0, 0, .null, []), (39, .istore 8, 2, 0, 0, .null, []), (41, .iload 8, 2, 0, 0, .null, []), (43, .bipush 8, 2, 0, 0, .null, []),
  (45, .if_icmp .ge 273, 3, 318, 0, .null, []), (48, .iload_n 2, 1, 0, 0, .null, []), (49, .ifCond .eq 13, 3, 62, 0, .null, []), (52, .aload_n 1, 1, 0, 0, .null, []), (53, .getfield 15, 3, 1, 1, .null, [93, 0]), (56, .iload 8, 2, 0, 0, .null, []),
  (58, .iaload, 1, 0, 0, .null, []), (59, .goto 10, 3, 69, 0, .null, []), (62, .aload_n 1, 1, 0, 0, .null, []), (63, .getfield 9, 3, 1, 0, .null, [91, 0]), (66, .iload 8, 2, 0, 0, .null, []), (68, .iaload, 1, 0, 0, .null, []),
  (69, .istore 9, 2, 0, 0, .null, []), (71, .iconst 2, 1, 0, 0, .null, []), (72, .iload_n 3, 1, 0, 0, .null, []), (73, .imul, 1, 0, 0, .null, []), (74, .iconst 1, 1, 0, 0, .null, []), (75, .isub, 1, 0, 0, .null, []),
  (76, .iload 9, 2, 0, 0, .null, []), (78, .isub, 1, 0, 0, .null, []), (79, .istore 10, 2, 0, 0, .null, []), (81, .iload_n 2, 1, 0, 0, .null, []), (82, .ifCond .eq 13, 3, 95, 0, .null, []), (85, .aload_n 1, 1, 0, 0, .null, []),
  (86, .getfield 9, 3, 1, 0, .null, [91, 0]), (89, .iload 8, 2, 0, 0, .null, []), (91, .iaload, 1, 0, 0, .null, []), (92, .goto 10, 3, 102, 0, .null, []), (95, .aload_n 1, 1, 0, 0, .null, []), (96, .getfield 15, 3, 1, 1, .null, [93, 0]),
  (99, .iload 8, 2, 0, 0, .null, []), (101, .iaload, 1, 0, 0, .null, []), (102, .istore 11, 2, 0, 0, .null, []), (104, .iload 10, 2, 0, 0, .null, []), (106, .iload 6, 2, 0, 0, .null, []), (108, .invokestatic 71, 3, 89, 2, .null, [480, 1, 445, 55]),
  (111, .ifCond .eq 15, 3, 126, 0, .null, []), (114, .aload_n 1, 1, 0, 0, .null, []), (115, .iload_n 2, 1, 0, 0, .null, []), (116, .iload 10, 2, 0, 0, .null, []), (118, .iload 11, 2, 0, 0, .null, []), (120, .invokevirtual 75, 3, 26, 4, .null, [481, 0, 483, 57, 7]),
  (123, .goto 4, 3, 127, 0, .null, []), (126, .iconst 0, 1, 0, 0, .null, []), (127, .istore 12, 2, 0, 0, .null, []), (129, .iload 9, 2, 0, 0, .null, []), (131, .iload_n 3, 1, 0, 0, .null, []), (132, .if_icmp .ge 7, 3, 139, 0, .null, []),
  (135, .iconst 1, 1, 0, 0, .null, []), (136, .goto 4, 3, 140, 0, .null, []), (139, .iconst 0, 1, 0, 0, .null, []), (140, .iload 4, 2, 0, 0, .null, []), (142, .if_icmp .ne 7, 3, 149, 0, .null, []), (145, .iconst 1, 1, 0, 0, .null, []),
  (146, .goto 4, 3, 150, 0, .null, []), (149, .iconst 0, 1, 0, 0, .null, []), (150, .istore 13, 2, 0, 0, .null, []), (152, .iload 13, 2, 0, 0, .null, []), (154, .ifCond .eq 48, 3, 202, 0, .null, []), (157, .aload_n 1, 1, 0, 0, .null, []),
  (158, .iload_n 2, 1, 0, 0, .null, []), (159, .iload 9, 2, 0, 0, .null, []), (161, .iload 11, 2, 0, 0, .null, []), (163, .invokevirtual 75, 3, 26, 4, .null, [481, 0, 483, 57, 7]), (166, .iconst 1, 1, 0, 0, .null, []), (167, .isub, 1, 0, 0, .null, []),
  (168, .aload_n 1, 1, 0, 0, .null, []), (169, .getfield 18, 3, 1, 2, .null, [95, 0]), (172, .iload 8, 2, 0, 0, .null, []), (174, .iaload, 1, 0, 0, .null, []), (175, .isub, 1, 0, 0, .null, []), (176, .istore 14, 2, 0, 0, .null, []),
  (178, .aload_n 0, 1, 0, 0, .null, []), (179, .getfield 18, 3, 1, 2, .null, [95, 0]), (182, .iload 8, 2, 0, 0, .null, []), (184, .iload 14, 2, 0, 0, .null, []), (186, .iload 5, 2, 0, 0, .null, []), (188, .ifCond .eq 8, 3, 196, 0, .null, []),
  (191, .iload 12, 2, 0, 0, .null, []), (193, .goto 4, 3, 197, 0, .null, []), (196, .iconst 0, 1, 0, 0, .null, []), (197, .iadd, 1, 0, 0, .null, []), (198, .iastore, 1, 0, 0, .null, []), (199, .goto 29, 3, 228, 0, .null, []),
  (202, .aload_n 0, 1, 0, 0, .null, []), (203, .getfield 18, 3, 1, 2, .null, [95, 0]), (206, .iload 8, 2, 0, 0, .null, []), (208, .aload_n 1, 1, 0, 0, .null, []), (209, .getfield 18, 3, 1, 2, .null, [95, 0]), (212, .iload 8, 2, 0, 0, .null, []),
  (214, .iaload, 1, 0, 0, .null, []), (215, .iload 5, 2, 0, 0, .null, []), (217, .ifCond .eq 7, 3, 224, 0, .null, []), (220, .iconst 0, 1, 0, 0, .null, []), (221, .goto 5, 3, 226, 0, .null, []), (224, .iload 12, 2, 0, 0, .null, []),
  (226, .iadd, 1, 0, 0, .null, []), (227, .iastore, 1, 0, 0, .null, []), (228, .aload_n 0, 1, 0, 0, .null, []), (229, .getfield 21, 3, 1, 3, .null, [98, 0]), (232, .iload 8, 2, 0, 0, .null, []), (234, .iload 13, 2, 0, 0, .null, []),
  (236, .ifCond .eq 15, 3, 251, 0, .null, []), (239, .iconst 1, 1, 0, 0, .null, []), (240, .aload_n 1, 1, 0, 0, .null, []), (241, .getfield 21, 3, 1, 3, .null, [98, 0]), (244, .iload 8, 2, 0, 0, .null, []), (246, .iaload, 1, 0, 0, .null, []),
  (247, .isub, 1, 0, 0, .null, []), (248, .goto 10, 3, 258, 0, .null, []), (251, .aload_n 1, 1, 0, 0, .null, []), (252, .getfield 21, 3, 1, 3, .null, [98, 0]), (255, .iload 8, 2, 0, 0, .null, []), (257, .iaload, 1, 0, 0, .null, []),
  (258, .iastore, 1, 0, 0, .null, []), (259, .iload 13, 2, 0, 0, .null, []), (261, .ifCond .eq 8, 3, 269, 0, .null, []), (264, .iload 10, 2, 0, 0, .null, []), (266, .goto 5, 3, 271, 0, .null, []), (269, .iload 9, 2, 0, 0, .null, []),
  (271, .iload 7, 2, 0, 0, .null, []), (273, .isub, 1, 0, 0, .null, []), (274, .istore 14, 2, 0, 0, .null, []), (276, .aload_n 0, 1, 0, 0, .null, []), (277, .getfield 9, 3, 1, 0, .null, [91, 0]), (280, .iload 8, 2, 0, 0, .null, []),
  (282, .iload_n 2, 1, 0, 0, .null, []), (283, .ifCond .eq 8, 3, 291, 0, .null, []), (286, .iload 11, 2, 0, 0, .null, []), (288, .goto 5, 3, 293, 0, .null, []), (291, .iload 14, 2, 0, 0, .null, []), (293, .iastore, 1, 0, 0, .null, []),
  (294, .aload_n 0, 1, 0, 0, .null, []), (295, .getfield 15, 3, 1, 1, .null, [93, 0]), (298, .iload 8, 2, 0, 0, .null, []), (300, .iload_n 2, 1, 0, 0, .null, []), (301, .ifCond .eq 8, 3, 309, 0, .null, []), (304, .iload 14, 2, 0, 0, .null, []),
  (306, .goto 5, 3, 311, 0, .null, []), (309, .iload 11, 2, 0, 0, .null, []), (311, .iastore, 1, 0, 0, .null, []), (312, .iinc 8 1, 3, 0, 0, .null, []), (315, .goto (-274), 3, 41, 0, .null, []), (318, .return_, 1, 0, 0, .null, [])]
/-- SmallerInTheShop$Layout heapAt (ZII)I -/
def mp_26 : List (Nat × mm_I) := [(0, .aload_n 0, 1, 0, 0, .null, []), (1, .getfield 27, 3, 1, 5, .null, [103, 0]), (4, .iload_n 1, 1, 0, 0, .null, []), (5, .ifCond .eq 11, 3, 16, 0, .null, []), (8, .iconst 4, 1, 0, 0, .null, []), (9, .iload_n 2, 1, 0, 0, .null, []),
  (10, .imul, 1, 0, 0, .null, []), (11, .iload_n 3, 1, 0, 0, .null, []), (12, .iadd, 1, 0, 0, .null, []), (13, .goto 8, 3, 21, 0, .null, []), (16, .iconst 4, 1, 0, 0, .null, []), (17, .iload_n 3, 1, 0, 0, .null, []),
  (18, .imul, 1, 0, 0, .null, []), (19, .iload_n 2, 1, 0, 0, .null, []), (20, .iadd, 1, 0, 0, .null, []), (21, .iaload, 1, 0, 0, .null, []), (22, .ireturn, 1, 0, 0, .null, [])]
/-- SmallerInTheShop$Layout countHeaps ()V -/
def mp_27 : List (Nat × mm_I) := [(0, .iconst 0, 1, 0, 0, .null, []), (1, .istore_n 1, 1, 0, 0, .null, []), (2, .iload_n 1, 1, 0, 0, .null, []), (3, .bipush 8, 2, 0, 0, .null, []), (5, .if_icmp .ge 16, 3, 21, 0, .null, []), (8, .aload_n 0, 1, 0, 0, .null, []),
  (9, .getfield 27, 3, 1, 5, .null, [103, 0]), (12, .iload_n 1, 1, 0, 0, .null, []), (13, .iconst 0, 1, 0, 0, .null, []), (14, .iastore, 1, 0, 0, .null, []), (15, .iinc 1 1, 3, 0, 0, .null, []), (18, .goto (-16), 3, 2, 0, .null, []),
  (21, .iconst 0, 1, 0, 0, .null, []), (22, .istore_n 1, 1, 0, 0, .null, []), (23, .iload_n 1, 1, 0, 0, .null, []), (24, .bipush 8, 2, 0, 0, .null, []), (26, .if_icmp .ge 23, 3, 49, 0, .null, []), (29, .aload_n 0, 1, 0, 0, .null, []),
  (30, .getfield 27, 3, 1, 5, .null, [103, 0]), (33, .aload_n 0, 1, 0, 0, .null, []), (34, .iload_n 1, 1, 0, 0, .null, []), (35, .invokevirtual 40, 3, 28, 2, .null, [490, 0, 492, 57, 9]), (38, .dup2, 1, 0, 0, .null, []), (39, .iaload, 1, 0, 0, .null, []),
  (40, .iconst 1, 1, 0, 0, .null, []), (41, .iadd, 1, 0, 0, .null, []), (42, .iastore, 1, 0, 0, .null, []), (43, .iinc 1 1, 3, 0, 0, .null, []), (46, .goto (-23), 3, 23, 0, .null, []), (49, .return_, 1, 0, 0, .null, [])]
/-- SmallerInTheShop$Layout cellOf (I)I -/
def mp_28 : List (Nat × mm_I) := [(0, .iconst 4, 1, 0, 0, .null, []), (1, .aload_n 0, 1, 0, 0, .null, []), (2, .getfield 15, 3, 1, 1, .null, [93, 0]), (5, .iload_n 1, 1, 0, 0, .null, []), (6, .iaload, 1, 0, 0, .null, []), (7, .imul, 1, 0, 0, .null, []),
  (8, .aload_n 0, 1, 0, 0, .null, []), (9, .getfield 9, 3, 1, 0, .null, [91, 0]), (12, .iload_n 1, 1, 0, 0, .null, []), (13, .iaload, 1, 0, 0, .null, []), (14, .iadd, 1, 0, 0, .null, []), (15, .ireturn, 1, 0, 0, .null, [])]
/-- SmallerInTheShop$Layout foldCreases (LSmallerInTheShop$Layout;ZIZ)V -/
def mp_29 : List (Nat × mm_I) := [(0, .aload_n 0, 1, 0, 0, .null, []), (1, .iconst 0, 1, 0, 0, .null, []), (2, .putfield 37, 3, 1, 8, .null, [108, 0]), (5, .iconst 0, 1, 0, 0, .null, []), (6, .istore 5, 2, 0, 0, .null, []), (8, .iload 5, 2, 0, 0, .null, []),
  (10, .bipush 10, 2, 0, 0, .null, []), (12, .if_icmp .ge 97, 3, 109, 0, .null, []), (15, .aload_n 0, 1, 0, 0, .null, []), (16, .getfield 24, 3, 1, 4, .null, [100, 0]), (19, .iload 5, 2, 0, 0, .null, []), (21, .aload_n 1, 1, 0, 0, .null, []),
  (22, .getfield 24, 3, 1, 4, .null, [100, 0]), (25, .iload 5, 2, 0, 0, .null, []), (27, .iaload, 1, 0, 0, .null, []), (28, .iastore, 1, 0, 0, .null, []), (29, .aload_n 0, 1, 0, 0, .null, []), (30, .getfield 24, 3, 1, 4, .null, [100, 0]),
  (33, .iload 5, 2, 0, 0, .null, []), (35, .iaload, 1, 0, 0, .null, []), (36, .ifCond .ne 67, 3, 103, 0, .null, []), (39, .aload_n 1, 1, 0, 0, .null, []), (40, .iload 5, 2, 0, 0, .null, []), (42, .iload_n 2, 1, 0, 0, .null, []),
  (43, .iload_n 3, 1, 0, 0, .null, []), (44, .invokevirtual 79, 3, 30, 4, .null, [498, 0, 500, 57, 11]), (47, .ifCond .eq 56, 3, 103, 0, .null, []), (50, .aload_n 1, 1, 0, 0, .null, []), (51, .getfield 21, 3, 1, 3, .null, [98, 0]), (54, .getstatic 83, 3, 0, 0, .retAddr 1, [502, 1, 0]),
  (57, .iload 5, 2, 0, 0, .null, []), (59, .iaload, 1, 0, 0, .null, []), (60, .iaload, 1, 0, 0, .null, []), (61, .ifCond .ne 7, 3, 68, 0, .null, []), (64, .iconst 1, 1, 0, 0, .null, []), (65, .goto 4, 3, 69, 0, .null, []),
  (68, .iconst 0, 1, 0, 0, .null, []), (69, .istore 6, 2, 0, 0, .null, []), (71, .aload_n 0, 1, 0, 0, .null, []), (72, .getfield 24, 3, 1, 4, .null, [100, 0]), (75, .iload 5, 2, 0, 0, .null, []), (77, .iload 6, 2, 0, 0, .null, []),
  (79, .iload 4, 2, 0, 0, .null, []), (81, .if_icmp .ne 7, 3, 88, 0, .null, []), (84, .iconst 2, 1, 0, 0, .null, []), (85, .goto 4, 3, 89, 0, .null, []), (88, .iconst 1, 1, 0, 0, .null, []), (89, .iastore, 1, 0, 0, .null, []),
  (90, .aload_n 0, 1, 0, 0, .null, []), (91, .dup, 1, 0, 0, .null, []), (92, .getfield 37, 3, 1, 8, .null, [108, 0]), (95, .iconst 1, 1, 0, 0, .null, []), (96, .iload 5, 2, 0, 0, .null, []), (98, .ishl, 1, 0, 0, .null, []),
  (99, .ior, 1, 0, 0, .null, []), (100, .putfield 37, 3, 1, 8, .null, [108, 0]), (103, .iinc 5 1, 3, 0, 0, .null, []), (106, .goto (-98), 3, 8, 0, .null, []), (109, .return_, 1, 0, 0, .null, [])]
/-- SmallerInTheShop$Layout liesAcross (IZI)Z -/
def mp_30 : List (Nat × mm_I) := [(0, .getstatic 83, 3, 0, 0, .retAddr 1, [502, 1, 0]), (3, .iload_n 1, 1, 0, 0, .null, []), (4, .iaload, 1, 0, 0, .null, []), (5, .istore 4, 2, 0, 0, .null, []), (7, .getstatic 86, 3, 0, 0, .retAddr 2, [504, 1, 1]), (10, .iload_n 1, 1, 0, 0, .null, []),
  (11, .iaload, 1, 0, 0, .null, []), (12, .istore 5, 2, 0, 0, .null, []), (14, .iload_n 2, 1, 0, 0, .null, []), (15, .ifCond .eq 10, 3, 25, 0, .null, []), (18, .aload_n 0, 1, 0, 0, .null, []), (19, .getfield 15, 3, 1, 1, .null, [93, 0]),
  (22, .goto 7, 3, 29, 0, .null, []), (25, .aload_n 0, 1, 0, 0, .null, []), (26, .getfield 9, 3, 1, 0, .null, [91, 0]), (29, .astore 6, 2, 0, 0, .null, []), (31, .iload_n 2, 1, 0, 0, .null, []), (32, .ifCond .eq 10, 3, 42, 0, .null, []),
  (35, .aload_n 0, 1, 0, 0, .null, []), (36, .getfield 9, 3, 1, 0, .null, [91, 0]), (39, .goto 7, 3, 46, 0, .null, []), (42, .aload_n 0, 1, 0, 0, .null, []), (43, .getfield 15, 3, 1, 1, .null, [93, 0]), (46, .astore 7, 2, 0, 0, .null, []),
  (48, .aload 7, 2, 0, 0, .null, []), (50, .iload 4, 2, 0, 0, .null, []), (52, .iaload, 1, 0, 0, .null, []), (53, .aload 7, 2, 0, 0, .null, []), (55, .iload 5, 2, 0, 0, .null, []), (57, .iaload, 1, 0, 0, .null, []),
  (58, .if_icmp .ne 43, 3, 101, 0, .null, []), (61, .aload 6, 2, 0, 0, .null, []), (63, .iload 4, 2, 0, 0, .null, []), (65, .iaload, 1, 0, 0, .null, []), (66, .aload 6, 2, 0, 0, .null, []), (68, .iload 5, 2, 0, 0, .null, []),
  (70, .iaload, 1, 0, 0, .null, []), (71, .invokestatic 68, 3, 998, 2, .null, [479, 0, 366, 66, 367]), (74, .iload_n 3, 1, 0, 0, .null, []), (75, .iconst 1, 1, 0, 0, .null, []), (76, .isub, 1, 0, 0, .null, []), (77, .if_icmp .ne 24, 3, 101, 0, .null, []),
  (80, .aload 6, 2, 0, 0, .null, []), (82, .iload 4, 2, 0, 0, .null, []), (84, .iaload, 1, 0, 0, .null, []), (85, .aload 6, 2, 0, 0, .null, []), (87, .iload 5, 2, 0, 0, .null, []), (89, .iaload, 1, 0, 0, .null, []),
  (90, .invokestatic 51, 3, 997, 2, .null, [485, 0, 363, 66, 364]), (93, .iload_n 3, 1, 0, 0, .null, []), (94, .if_icmp .ne 7, 3, 101, 0, .null, []), (97, .iconst 1, 1, 0, 0, .null, []), (98, .goto 4, 3, 102, 0, .null, []), (101, .iconst 0, 1, 0, 0, .null, []),
  (102, .ireturn, 1, 0, 0, .null, [])]
/-- SmallerInTheShop$Layout isRead (I)Z -/
def mp_31 : List (Nat × mm_I) := [(0, .aload_n 0, 1, 0, 0, .null, []), (1, .getfield 21, 3, 1, 3, .null, [98, 0]), (4, .iload_n 1, 1, 0, 0, .null, []), (5, .iaload, 1, 0, 0, .null, []), (6, .ifCond .ne 19, 3, 25, 0, .null, []), (9, .aload_n 0, 1, 0, 0, .null, []),
  (10, .iload_n 1, 1, 0, 0, .null, []), (11, .invokevirtual 44, 3, 32, 2, .null, [566, 0, 567, 57, 568]), (14, .ifCond .ne 7, 3, 21, 0, .null, []), (17, .iconst 1, 1, 0, 0, .null, []), (18, .goto 21, 3, 39, 0, .null, []), (21, .iconst 0, 1, 0, 0, .null, []),
  (22, .goto 17, 3, 39, 0, .null, []), (25, .aload_n 0, 1, 0, 0, .null, []), (26, .getfield 18, 3, 1, 2, .null, [95, 0]), (29, .iload_n 1, 1, 0, 0, .null, []), (30, .iaload, 1, 0, 0, .null, []), (31, .ifCond .ne 7, 3, 38, 0, .null, []),
  (34, .iconst 1, 1, 0, 0, .null, []), (35, .goto 4, 3, 39, 0, .null, []), (38, .iconst 0, 1, 0, 0, .null, []), (39, .ireturn, 1, 0, 0, .null, [])]
/-- SmallerInTheShop$Layout countAbove (I)I -/
def mp_32 : List (Nat × mm_I) := [(0, .aload_n 0, 1, 0, 0, .null, []), (1, .getfield 27, 3, 1, 5, .null, [103, 0]), (4, .aload_n 0, 1, 0, 0, .null, []), (5, .iload_n 1, 1, 0, 0, .null, []), (6, .invokevirtual 40, 3, 28, 2, .null, [490, 0, 492, 57, 9]), (9, .iaload, 1, 0, 0, .null, []),
  (10, .iconst 1, 1, 0, 0, .null, []), (11, .isub, 1, 0, 0, .null, []), (12, .aload_n 0, 1, 0, 0, .null, []), (13, .getfield 18, 3, 1, 2, .null, [95, 0]), (16, .iload_n 1, 1, 0, 0, .null, []), (17, .iaload, 1, 0, 0, .null, []),
  (18, .isub, 1, 0, 0, .null, []), (19, .ireturn, 1, 0, 0, .null, [])]
/-- SmallerInTheShop$Layout liesAbove (II)Z -/
def mp_33 : List (Nat × mm_I) := [(0, .aload_n 0, 1, 0, 0, .null, []), (1, .iload_n 1, 1, 0, 0, .null, []), (2, .invokevirtual 40, 3, 28, 2, .null, [490, 0, 492, 57, 9]), (5, .aload_n 0, 1, 0, 0, .null, []), (6, .iload_n 2, 1, 0, 0, .null, []), (7, .invokevirtual 40, 3, 28, 2, .null, [490, 0, 492, 57, 9]),
  (10, .if_icmp .ne 22, 3, 32, 0, .null, []), (13, .aload_n 0, 1, 0, 0, .null, []), (14, .getfield 18, 3, 1, 2, .null, [95, 0]), (17, .iload_n 1, 1, 0, 0, .null, []), (18, .iaload, 1, 0, 0, .null, []), (19, .aload_n 0, 1, 0, 0, .null, []),
  (20, .getfield 18, 3, 1, 2, .null, [95, 0]), (23, .iload_n 2, 1, 0, 0, .null, []), (24, .iaload, 1, 0, 0, .null, []), (25, .if_icmp .le 7, 3, 32, 0, .null, []), (28, .iconst 1, 1, 0, 0, .null, []), (29, .goto 4, 3, 33, 0, .null, []),
  (32, .iconst 0, 1, 0, 0, .null, []), (33, .ireturn, 1, 0, 0, .null, [])]
/-- SmallerInTheShop$Layout thickness ()I -/
def mp_34 : List (Nat × mm_I) := [(0, .iconst 0, 1, 0, 0, .null, []), (1, .istore_n 1, 1, 0, 0, .null, []), (2, .iconst 0, 1, 0, 0, .null, []), (3, .istore_n 2, 1, 0, 0, .null, []), (4, .iload_n 2, 1, 0, 0, .null, []), (5, .bipush 8, 2, 0, 0, .null, []),
  (7, .if_icmp .ge 20, 3, 27, 0, .null, []), (10, .iload_n 1, 1, 0, 0, .null, []), (11, .aload_n 0, 1, 0, 0, .null, []), (12, .getfield 27, 3, 1, 5, .null, [103, 0]), (15, .iload_n 2, 1, 0, 0, .null, []), (16, .iaload, 1, 0, 0, .null, []),
  (17, .invokestatic 51, 3, 997, 2, .null, [485, 0, 363, 66, 364]), (20, .istore_n 1, 1, 0, 0, .null, []), (21, .iinc 2 1, 3, 0, 0, .null, []), (24, .goto (-20), 3, 4, 0, .null, []), (27, .iload_n 1, 1, 0, 0, .null, []), (28, .ireturn, 1, 0, 0, .null, [])]
/-- SmallerInTheShop$Layout readPanels ()I -/
def mp_35 : List (Nat × mm_I) := [(0, .iconst 0, 1, 0, 0, .null, []), (1, .istore_n 1, 1, 0, 0, .null, []), (2, .iconst 0, 1, 0, 0, .null, []), (3, .istore_n 2, 1, 0, 0, .null, []), (4, .iload_n 2, 1, 0, 0, .null, []), (5, .bipush 8, 2, 0, 0, .null, []),
  (7, .if_icmp .ge 23, 3, 30, 0, .null, []), (10, .aload_n 0, 1, 0, 0, .null, []), (11, .iload_n 2, 1, 0, 0, .null, []), (12, .invokevirtual 47, 3, 31, 2, .null, [630, 0, 563, 57, 564]), (15, .ifCond .eq 9, 3, 24, 0, .null, []), (18, .iload_n 1, 1, 0, 0, .null, []),
  (19, .iconst 1, 1, 0, 0, .null, []), (20, .iload_n 2, 1, 0, 0, .null, []), (21, .ishl, 1, 0, 0, .null, []), (22, .ior, 1, 0, 0, .null, []), (23, .istore_n 1, 1, 0, 0, .null, []), (24, .iinc 2 1, 3, 0, 0, .null, []),
  (27, .goto (-23), 3, 4, 0, .null, []), (30, .iload_n 1, 1, 0, 0, .null, []), (31, .ireturn, 1, 0, 0, .null, [])]
/-- SmallerInTheShop$Layout showsBack (I)Z -/
def mp_36 : List (Nat × mm_I) := [(0, .aload_n 0, 1, 0, 0, .null, []), (1, .getfield 21, 3, 1, 3, .null, [98, 0]), (4, .iload_n 1, 1, 0, 0, .null, []), (5, .iaload, 1, 0, 0, .null, []), (6, .ifCond .ne 20, 3, 26, 0, .null, []), (9, .aload_n 0, 1, 0, 0, .null, []),
  (10, .getfield 18, 3, 1, 2, .null, [95, 0]), (13, .iload_n 1, 1, 0, 0, .null, []), (14, .iaload, 1, 0, 0, .null, []), (15, .ifCond .ne 7, 3, 22, 0, .null, []), (18, .iconst 1, 1, 0, 0, .null, []), (19, .goto 20, 3, 39, 0, .null, []),
  (22, .iconst 0, 1, 0, 0, .null, []), (23, .goto 16, 3, 39, 0, .null, []), (26, .aload_n 0, 1, 0, 0, .null, []), (27, .iload_n 1, 1, 0, 0, .null, []), (28, .invokevirtual 44, 3, 32, 2, .null, [566, 0, 567, 57, 568]), (31, .ifCond .ne 7, 3, 38, 0, .null, []),
  (34, .iconst 1, 1, 0, 0, .null, []), (35, .goto 4, 3, 39, 0, .null, []), (38, .iconst 0, 1, 0, 0, .null, []), (39, .ireturn, 1, 0, 0, .null, [])]
/-- SmallerInTheShop$Layout foldedCreases ()I -/
def mp_37 : List (Nat × mm_I) := [(0, .iconst 0, 1, 0, 0, .null, []), (1, .istore_n 1, 1, 0, 0, .null, []), (2, .iconst 0, 1, 0, 0, .null, []), (3, .istore_n 2, 1, 0, 0, .null, []), (4, .iload_n 2, 1, 0, 0, .null, []), (5, .bipush 10, 2, 0, 0, .null, []),
  (7, .if_icmp .ge 24, 3, 31, 0, .null, []), (10, .aload_n 0, 1, 0, 0, .null, []), (11, .getfield 24, 3, 1, 4, .null, [100, 0]), (14, .iload_n 2, 1, 0, 0, .null, []), (15, .iaload, 1, 0, 0, .null, []), (16, .ifCond .eq 9, 3, 25, 0, .null, []),
  (19, .iload_n 1, 1, 0, 0, .null, []), (20, .iconst 1, 1, 0, 0, .null, []), (21, .iload_n 2, 1, 0, 0, .null, []), (22, .ishl, 1, 0, 0, .null, []), (23, .ior, 1, 0, 0, .null, []), (24, .istore_n 1, 1, 0, 0, .null, []),
  (25, .iinc 2 1, 3, 0, 0, .null, []), (28, .goto (-24), 3, 4, 0, .null, []), (31, .iload_n 1, 1, 0, 0, .null, []), (32, .ireturn, 1, 0, 0, .null, [])]
/-- SmallerInTheShop$Layout cells ()I -/
def mp_38 : List (Nat × mm_I) := [(0, .aload_n 0, 1, 0, 0, .null, []), (1, .getfield 30, 3, 1, 6, .null, [104, 0]), (4, .aload_n 0, 1, 0, 0, .null, []), (5, .getfield 34, 3, 1, 7, .null, [106, 0]), (8, .imul, 1, 0, 0, .null, []), (9, .ireturn, 1, 0, 0, .null, [])]
/-- SmallerInTheShop$Layout isShut ()Z -/
def mp_39 : List (Nat × mm_I) := [(0, .aload_n 0, 1, 0, 0, .null, []), (1, .getfield 30, 3, 1, 6, .null, [104, 0]), (4, .iconst 1, 1, 0, 0, .null, []), (5, .if_icmp .ne 15, 3, 20, 0, .null, []), (8, .aload_n 0, 1, 0, 0, .null, []), (9, .getfield 34, 3, 1, 7, .null, [106, 0]),
  (12, .iconst 1, 1, 0, 0, .null, []), (13, .if_icmp .ne 7, 3, 20, 0, .null, []), (16, .iconst 1, 1, 0, 0, .null, []), (17, .goto 4, 3, 21, 0, .null, []), (20, .iconst 0, 1, 0, 0, .null, []), (21, .ireturn, 1, 0, 0, .null, [])]
/-- SmallerInTheShop$Layout countLines ()I -/
def mp_40 : List (Nat × mm_I) := [(0, .aload_n 0, 1, 0, 0, .null, []), (1, .getfield 30, 3, 1, 6, .null, [104, 0]), (4, .iconst 1, 1, 0, 0, .null, []), (5, .isub, 1, 0, 0, .null, []), (6, .aload_n 0, 1, 0, 0, .null, []), (7, .getfield 34, 3, 1, 7, .null, [106, 0]),
  (10, .iadd, 1, 0, 0, .null, []), (11, .iconst 1, 1, 0, 0, .null, []), (12, .isub, 1, 0, 0, .null, []), (13, .ireturn, 1, 0, 0, .null, [])]
/-- SmallerInTheShop$Layout lineOfNumber (I)I -/
def mp_41 : List (Nat × mm_I) := [(0, .iload_n 1, 1, 0, 0, .null, []), (1, .aload_n 0, 1, 0, 0, .null, []), (2, .getfield 30, 3, 1, 6, .null, [104, 0]), (5, .iconst 1, 1, 0, 0, .null, []), (6, .isub, 1, 0, 0, .null, []), (7, .if_icmp .ge 9, 3, 16, 0, .null, []),
  (10, .iload_n 1, 1, 0, 0, .null, []), (11, .iconst 1, 1, 0, 0, .null, []), (12, .iadd, 1, 0, 0, .null, []), (13, .goto 4, 3, 17, 0, .null, []), (16, .iconst 4, 1, 0, 0, .null, []), (17, .ireturn, 1, 0, 0, .null, [])]
/-- SmallerInTheShop$Letters <init> ()V -/
def mp_42 : List (Nat × mm_I) := [(0, .aload_n 0, 1, 0, 0, .null, []), (1, .invokespecial 3, 3, 999, 1, .null, [199, 76, 77]), (4, .aload_n 0, 1, 0, 0, .null, []), (5, .bipush 96, 2, 0, 0, .null, []), (7, .newarray .int, 2, 0, 0, .null, [130]), (9, .putfield 9, 3, 2, 0, .null, [200, 0]),
  (12, .aload_n 0, 1, 0, 0, .null, []), (13, .iconst 0, 1, 0, 0, .null, []), (14, .putfield 15, 3, 2, 1, .null, [201, 0]), (17, .return_, 1, 0, 0, .null, [])]
/-- SmallerInTheShop$Letters isFull ()Z -/
def mp_43 : List (Nat × mm_I) := [(0, .aload_n 0, 1, 0, 0, .null, []), (1, .getfield 15, 3, 2, 1, .null, [201, 0]), (4, .bipush 96, 2, 0, 0, .null, []), (6, .if_icmp .lt 7, 3, 13, 0, .null, []), (9, .iconst 1, 1, 0, 0, .null, []), (10, .goto 4, 3, 14, 0, .null, []),
  (13, .iconst 0, 1, 0, 0, .null, []), (14, .ireturn, 1, 0, 0, .null, [])]
/-- SmallerInTheShop$Letters addLetter (I)I -/
def mp_44 : List (Nat × mm_I) := [(0, .aload_n 0, 1, 0, 0, .null, []), (1, .getfield 15, 3, 2, 1, .null, [201, 0]), (4, .bipush 96, 2, 0, 0, .null, []), (6, .if_icmp .ge 23, 3, 29, 0, .null, []), (9, .aload_n 0, 1, 0, 0, .null, []), (10, .getfield 9, 3, 2, 0, .null, [200, 0]),
  (13, .aload_n 0, 1, 0, 0, .null, []), (14, .getfield 15, 3, 2, 1, .null, [201, 0]), (17, .iload_n 1, 1, 0, 0, .null, []), (18, .iastore, 1, 0, 0, .null, []), (19, .aload_n 0, 1, 0, 0, .null, []), (20, .dup, 1, 0, 0, .null, []),
  (21, .getfield 15, 3, 2, 1, .null, [201, 0]), (24, .iconst 1, 1, 0, 0, .null, []), (25, .iadd, 1, 0, 0, .null, []), (26, .putfield 15, 3, 2, 1, .null, [201, 0]), (29, .aload_n 0, 1, 0, 0, .null, []), (30, .getfield 15, 3, 2, 1, .null, [201, 0]),
  (33, .ireturn, 1, 0, 0, .null, [])]
/-- SmallerInTheShop$Letters firstWrongPlace ()I -/
def mp_45 : List (Nat × mm_I) := [(0, .aload_n 0, 1, 0, 0, .null, []), (1, .getfield 15, 3, 2, 1, .null, [201, 0]), (4, .ifCond .ne 5, 3, 9, 0, .null, []), (7, .iconst 0, 1, 0, 0, .null, []), (8, .ireturn, 1, 0, 0, .null, []), (9, .iconst 0, 1, 0, 0, .null, []),
  (10, .istore_n 1, 1, 0, 0, .null, []), (11, .iload_n 1, 1, 0, 0, .null, []), (12, .aload_n 0, 1, 0, 0, .null, []), (13, .getfield 15, 3, 2, 1, .null, [201, 0]), (16, .if_icmp .ge 94, 3, 110, 0, .null, []), (19, .aload_n 0, 1, 0, 0, .null, []),
  (20, .iload_n 1, 1, 0, 0, .null, []), (21, .invokevirtual 19, 3, 46, 2, .null, [278, 0, 279, 59, 280]), (24, .invokestatic 30, 3, 47, 1, .null, [282, 0, 283, 59]), (27, .astore_n 2, 1, 0, 0, .null, []), (28, .aload_n 2, 1, 0, 0, .null, []), (29, .invokevirtual 38, 3, 1, 1, .null, [291, 0, 292, 62, 293]),
  (32, .ifCond .eq 5, 3, 37, 0, .null, []), (35, .iload_n 1, 1, 0, 0, .null, []), (36, .ireturn, 1, 0, 0, .null, []), (37, .iconst 0, 1, 0, 0, .null, []), (38, .istore_n 3, 1, 0, 0, .null, []), (39, .iload_n 3, 1, 0, 0, .null, []),
  (40, .aload_n 2, 1, 0, 0, .null, []), (41, .invokevirtual 34, 3, 2, 1, .null, [295, 0, 296, 62, 297]), (44, .if_icmp .ge 53, 3, 97, 0, .null, []), (47, .iload_n 1, 1, 0, 0, .null, []), (48, .iconst 1, 1, 0, 0, .null, []), (49, .iadd, 1, 0, 0, .null, []),
  (50, .iload_n 3, 1, 0, 0, .null, []), (51, .iadd, 1, 0, 0, .null, []), (52, .istore 4, 2, 0, 0, .null, []), (54, .iload 4, 2, 0, 0, .null, []), (56, .aload_n 0, 1, 0, 0, .null, []), (57, .getfield 15, 3, 2, 1, .null, [201, 0]),
  (60, .if_icmp .ge 21, 3, 81, 0, .null, []), (63, .aload_n 0, 1, 0, 0, .null, []), (64, .getfield 9, 3, 2, 0, .null, [200, 0]), (67, .iload 4, 2, 0, 0, .null, []), (69, .iaload, 1, 0, 0, .null, []), (70, .aload_n 2, 1, 0, 0, .null, []),
  (71, .iload_n 3, 1, 0, 0, .null, []), (72, .invokevirtual 42, 3, 4, 2, .null, [305, 0, 306, 62, 307]), (75, .invokestatic 46, 3, 48, 2, .null, [343, 0, 344, 59]), (78, .ifCond .ne 13, 3, 91, 0, .null, []), (81, .iload 4, 2, 0, 0, .null, []), (83, .aload_n 0, 1, 0, 0, .null, []),
  (84, .getfield 15, 3, 2, 1, .null, [201, 0]), (87, .invokestatic 50, 3, 998, 2, .null, [406, 0, 366, 66, 367]), (90, .ireturn, 1, 0, 0, .null, []), (91, .iinc 3 1, 3, 0, 0, .null, []), (94, .goto (-55), 3, 39, 0, .null, []), (97, .iload_n 1, 1, 0, 0, .null, []),
  (98, .iconst 1, 1, 0, 0, .null, []), (99, .aload_n 0, 1, 0, 0, .null, []), (100, .iload_n 1, 1, 0, 0, .null, []), (101, .invokevirtual 56, 3, 49, 2, .null, [407, 0, 408, 59, 409]), (104, .iadd, 1, 0, 0, .null, []), (105, .iadd, 1, 0, 0, .null, []),
  (106, .istore_n 1, 1, 0, 0, .null, []), (107, .goto (-96), 3, 11, 0, .null, []), (110, .iconst (-1), 1, 0, 0, .null, []), (111, .ireturn, 1, 0, 0, .null, [])]
/-- SmallerInTheShop$Letters signAt (I)I -/
def mp_46 : List (Nat × mm_I) := [(0, .iload_n 1, 1, 0, 0, .null, []), (1, .ifCond .lt 20, 3, 21, 0, .null, []), (4, .iload_n 1, 1, 0, 0, .null, []), (5, .aload_n 0, 1, 0, 0, .null, []), (6, .getfield 15, 3, 2, 1, .null, [201, 0]), (9, .if_icmp .ge 12, 3, 21, 0, .null, []),
  (12, .aload_n 0, 1, 0, 0, .null, []), (13, .getfield 9, 3, 2, 0, .null, [200, 0]), (16, .iload_n 1, 1, 0, 0, .null, []), (17, .iaload, 1, 0, 0, .null, []), (18, .goto 4, 3, 22, 0, .null, []), (21, .iconst 0, 1, 0, 0, .null, []),
  (22, .ireturn, 1, 0, 0, .null, [])]
/-- SmallerInTheShop$Letters shapeBehind (I)Ljava/lang/String; -/
def mp_47 : List (Nat × mm_I) := [(0, .iload_n 0, 1, 0, 0, .null, []), (1, .lookupswitch 66 #[(99, 63), (102, 57), (107, 51), (111, 60), (119, 54)], 51, 0, 0, .null, []), (52, .ldc 59, 2, 0, 0, .retAddr 31, []), (54, .areturn, 1, 0, 0, .null, []), (55, .ldc 61, 2, 0, 0, .retAddr 32, []), (57, .areturn, 1, 0, 0, .null, []),
  (58, .ldc 63, 2, 0, 0, .retAddr 33, []), (60, .areturn, 1, 0, 0, .null, []), (61, .ldc 65, 2, 0, 0, .retAddr 34, []), (63, .areturn, 1, 0, 0, .null, []), (64, .ldc 67, 2, 0, 0, .retAddr 35, []), (66, .areturn, 1, 0, 0, .null, []),
  (67, .ldc 69, 2, 0, 0, .retAddr 36, []), (69, .areturn, 1, 0, 0, .null, [])]
/-- SmallerInTheShop$Letters fits (IC)Z -/
def mp_48 : List (Nat × mm_I) := [(0, .iload_n 1, 1, 0, 0, .null, []), (1, .bipush 48, 2, 0, 0, .null, []), (3, .if_icmp .ne 21, 3, 24, 0, .null, []), (6, .iload_n 0, 1, 0, 0, .null, []), (7, .bipush 48, 2, 0, 0, .null, []), (9, .if_icmp .lt 13, 3, 22, 0, .null, []),
  (12, .iload_n 0, 1, 0, 0, .null, []), (13, .bipush 57, 2, 0, 0, .null, []), (15, .if_icmp .gt 7, 3, 22, 0, .null, []), (18, .iconst 1, 1, 0, 0, .null, []), (19, .goto 4, 3, 23, 0, .null, []), (22, .iconst 0, 1, 0, 0, .null, []),
  (23, .ireturn, 1, 0, 0, .null, []), (24, .iload_n 1, 1, 0, 0, .null, []), (25, .bipush 107, 2, 0, 0, .null, []), (27, .if_icmp .ne 21, 3, 48, 0, .null, []), (30, .ldc 23, 2, 0, 0, .retAddr 30, []), (32, .iload_n 0, 1, 0, 0, .null, []),
  (33, .i2c, 1, 0, 0, .null, []), (34, .invokevirtual 25, 3, 7, 2, .null, [347, 0, 348, 62, 349]), (37, .ifCond .lt 7, 3, 44, 0, .null, []), (40, .iconst 1, 1, 0, 0, .null, []), (41, .goto 17, 3, 58, 0, .null, []), (44, .iconst 0, 1, 0, 0, .null, []),
  (45, .goto 13, 3, 58, 0, .null, []), (48, .iload_n 0, 1, 0, 0, .null, []), (49, .iload_n 1, 1, 0, 0, .null, []), (50, .if_icmp .ne 7, 3, 57, 0, .null, []), (53, .iconst 1, 1, 0, 0, .null, []), (54, .goto 4, 3, 58, 0, .null, []),
  (57, .iconst 0, 1, 0, 0, .null, []), (58, .ireturn, 1, 0, 0, .null, [])]
/-- SmallerInTheShop$Letters lengthBehind (I)I -/
def mp_49 : List (Nat × mm_I) := [(0, .aload_n 0, 1, 0, 0, .null, []), (1, .iload_n 1, 1, 0, 0, .null, []), (2, .invokevirtual 19, 3, 46, 2, .null, [278, 0, 279, 59, 280]), (5, .invokestatic 30, 3, 47, 1, .null, [282, 0, 283, 59]), (8, .invokevirtual 34, 3, 2, 1, .null, [295, 0, 296, 62, 297]), (11, .ireturn, 1, 0, 0, .null, [])]
/-- SmallerInTheShop$Letters digitAt (I)I -/
def mp_50 : List (Nat × mm_I) := [(0, .aload_n 0, 1, 0, 0, .null, []), (1, .iload_n 1, 1, 0, 0, .null, []), (2, .invokevirtual 19, 3, 46, 2, .null, [278, 0, 279, 59, 280]), (5, .bipush 48, 2, 0, 0, .null, []), (7, .isub, 1, 0, 0, .null, []), (8, .ireturn, 1, 0, 0, .null, [])]
/-- SmallerInTheShop$Letters kindAt (I)I -/
def mp_51 : List (Nat × mm_I) := [(0, .ldc 23, 2, 0, 0, .retAddr 30, []), (2, .aload_n 0, 1, 0, 0, .null, []), (3, .iload_n 1, 1, 0, 0, .null, []), (4, .invokevirtual 19, 3, 46, 2, .null, [278, 0, 279, 59, 280]), (7, .i2c, 1, 0, 0, .null, []), (8, .invokevirtual 25, 3, 7, 2, .null, [347, 0, 348, 62, 349]),
  (11, .ireturn, 1, 0, 0, .null, [])]
/-- SmallerInTheShop$Letters forget ()V -/
def mp_52 : List (Nat × mm_I) := [(0, .aload_n 0, 1, 0, 0, .null, []), (1, .iconst 0, 1, 0, 0, .null, []), (2, .putfield 15, 3, 2, 1, .null, [201, 0]), (5, .return_, 1, 0, 0, .null, [])]
/-- SmallerInTheShop$Search <init> ()V -/
def mp_53 : List (Nat × mm_I) := [(0, .aload_n 0, 1, 0, 0, .null, []), (1, .invokespecial 3, 3, 999, 1, .null, [164, 76, 77]), (4, .aload_n 0, 1, 0, 0, .null, []), (5, .bipush 8, 2, 0, 0, .null, []), (7, .newarray .int, 2, 0, 0, .null, [130]), (9, .putfield 9, 3, 3, 0, .null, [165, 0]),
  (12, .aload_n 0, 1, 0, 0, .null, []), (13, .iconst 5, 1, 0, 0, .null, []), (14, .newarray .int, 2, 0, 0, .null, [130]), (16, .putfield 15, 3, 3, 1, .null, [167, 0]), (19, .return_, 1, 0, 0, .null, [])]
/-- SmallerInTheShop$Search begin (I)V -/
def mp_54 : List (Nat × mm_I) := [(0, .aload_n 0, 1, 0, 0, .null, []), (1, .iload_n 1, 1, 0, 0, .null, []), (2, .putfield 18, 3, 3, 2, .null, [168, 0]), (5, .aload_n 0, 1, 0, 0, .null, []), (6, .iconst 1, 1, 0, 0, .null, []), (7, .putfield 22, 3, 3, 3, .null, [169, 0]),
  (10, .aload_n 0, 1, 0, 0, .null, []), (11, .iconst 0, 1, 0, 0, .null, []), (12, .putfield 25, 3, 3, 4, .null, [171, 0]), (15, .aload_n 0, 1, 0, 0, .null, []), (16, .iconst 0, 1, 0, 0, .null, []), (17, .putfield 28, 3, 3, 5, .null, [173, 0]),
  (20, .aload_n 0, 1, 0, 0, .null, []), (21, .iconst 0, 1, 0, 0, .null, []), (22, .putfield 32, 3, 3, 6, .null, [175, 0]), (25, .aload_n 0, 1, 0, 0, .null, []), (26, .iconst 0, 1, 0, 0, .null, []), (27, .putfield 35, 3, 3, 7, .null, [176, 0]),
  (30, .iconst 0, 1, 0, 0, .null, []), (31, .istore_n 2, 1, 0, 0, .null, []), (32, .iload_n 2, 1, 0, 0, .null, []), (33, .iconst 4, 1, 0, 0, .null, []), (34, .if_icmp .gt 16, 3, 50, 0, .null, []), (37, .aload_n 0, 1, 0, 0, .null, []),
  (38, .getfield 15, 3, 3, 1, .null, [167, 0]), (41, .iload_n 2, 1, 0, 0, .null, []), (42, .iconst 0, 1, 0, 0, .null, []), (43, .iastore, 1, 0, 0, .null, []), (44, .iinc 2 1, 3, 0, 0, .null, []), (47, .goto (-15), 3, 32, 0, .null, []),
  (50, .return_, 1, 0, 0, .null, [])]
/-- SmallerInTheShop$Search run (LSmallerInTheShop$Sheet;)V -/
def mp_55 : List (Nat × mm_I) := [(0, .aload_n 0, 1, 0, 0, .null, []), (1, .aload_n 1, 1, 0, 0, .null, []), (2, .aload_n 1, 1, 0, 0, .null, []), (3, .getfield 38, 3, 4, 4, .null, [141, 1]), (6, .iconst 0, 1, 0, 0, .null, []), (7, .iconst 0, 1, 0, 0, .null, []),
  (8, .invokevirtual 43, 3, 56, 5, .null, [651, 0, 653, 58, 16]), (11, .return_, 1, 0, 0, .null, [])]
/-- SmallerInTheShop$Search explore (LSmallerInTheShop$Sheet;III)V -/
def mp_56 : List (Nat × mm_I) := [(0, .iload_n 2, 1, 0, 0, .null, []), (1, .aload_n 1, 1, 0, 0, .null, []), (2, .getfield 38, 3, 4, 4, .null, [141, 1]), (5, .if_icmp .lt 8, 3, 13, 0, .null, []), (8, .iload_n 2, 1, 0, 0, .null, []), (9, .iconst 4, 1, 0, 0, .null, []),
  (10, .if_icmp .le 4, 3, 14, 0, .null, []), (13, .return_, 1, 0, 0, .null, []), (14, .aload_n 1, 1, 0, 0, .null, []), (15, .getfield 47, 3, 4, 0, .null, [132, 1]), (18, .iload_n 2, 1, 0, 0, .null, []), (19, .aaload, 1, 0, 0, .null, []),
  (20, .astore 5, 2, 0, 0, .null, []), (22, .iload_n 2, 1, 0, 0, .null, []), (23, .aload_n 1, 1, 0, 0, .null, []), (24, .getfield 38, 3, 4, 4, .null, [141, 1]), (27, .isub, 1, 0, 0, .null, []), (28, .istore 6, 2, 0, 0, .null, []),
  (30, .aload_n 0, 1, 0, 0, .null, []), (31, .aload_n 1, 1, 0, 0, .null, []), (32, .aload 5, 2, 0, 0, .null, []), (34, .invokevirtual 51, 3, 57, 3, .null, [655, 0, 657, 58, 17]), (37, .ifCond .eq 29, 3, 66, 0, .null, []), (40, .aload_n 0, 1, 0, 0, .null, []),
  (41, .getfield 15, 3, 3, 1, .null, [167, 0]), (44, .iload 6, 2, 0, 0, .null, []), (46, .dup2, 1, 0, 0, .null, []), (47, .iaload, 1, 0, 0, .null, []), (48, .iconst 1, 1, 0, 0, .null, []), (49, .iadd, 1, 0, 0, .null, []),
  (50, .iastore, 1, 0, 0, .null, []), (51, .aload_n 0, 1, 0, 0, .null, []), (52, .aload_n 0, 1, 0, 0, .null, []), (53, .aload 5, 2, 0, 0, .null, []), (55, .iload 6, 2, 0, 0, .null, []), (57, .iload_n 3, 1, 0, 0, .null, []),
  (58, .invokevirtual 55, 3, 59, 4, .null, [673, 0, 675, 58, 19]), (61, .iload 4, 2, 0, 0, .null, []), (63, .invokevirtual 59, 3, 60, 3, .null, [683, 0, 685, 58, 20]), (66, .aload_n 0, 1, 0, 0, .null, []), (67, .iload_n 3, 1, 0, 0, .null, []), (68, .invokevirtual 63, 3, 61, 2, .null, [687, 0, 689, 58, 21]),
  (71, .ifCond .eq 4, 3, 75, 0, .null, []), (74, .return_, 1, 0, 0, .null, []), (75, .iconst 1, 1, 0, 0, .null, []), (76, .istore 7, 2, 0, 0, .null, []), (78, .iload 7, 2, 0, 0, .null, []), (80, .iconst 4, 1, 0, 0, .null, []),
  (81, .if_icmp .gt 76, 3, 157, 0, .null, []), (84, .iconst 0, 1, 0, 0, .null, []), (85, .istore 8, 2, 0, 0, .null, []), (87, .iload 8, 2, 0, 0, .null, []), (89, .aload_n 0, 1, 0, 0, .null, []), (90, .aload 5, 2, 0, 0, .null, []),
  (92, .invokevirtual 67, 3, 62, 2, .null, [691, 0, 693, 58, 22]), (95, .if_icmp .ge 56, 3, 151, 0, .null, []), (98, .aload_n 1, 1, 0, 0, .null, []), (99, .iload_n 2, 1, 0, 0, .null, []), (100, .iload 7, 2, 0, 0, .null, []), (102, .invokevirtual 71, 3, 69, 3, .null, [695, 0, 456, 56, 457]),
  (105, .ifCond .eq 46, 3, 151, 0, .null, []), (108, .aload_n 1, 1, 0, 0, .null, []), (109, .iload_n 2, 1, 0, 0, .null, []), (110, .iload 7, 2, 0, 0, .null, []), (112, .iload 8, 2, 0, 0, .null, []), (114, .invokevirtual 75, 3, 71, 4, .null, [696, 0, 468, 56, 469]),
  (117, .istore 9, 2, 0, 0, .null, []), (119, .aload_n 0, 1, 0, 0, .null, []), (120, .aload_n 1, 1, 0, 0, .null, []), (121, .iload_n 2, 1, 0, 0, .null, []), (122, .iconst 1, 1, 0, 0, .null, []), (123, .iadd, 1, 0, 0, .null, []),
  (124, .iload_n 3, 1, 0, 0, .null, []), (125, .iload 9, 2, 0, 0, .null, []), (127, .iadd, 1, 0, 0, .null, []), (128, .bipush 100, 2, 0, 0, .null, []), (130, .iload 4, 2, 0, 0, .null, []), (132, .imul, 1, 0, 0, .null, []),
  (133, .bipush 10, 2, 0, 0, .null, []), (135, .iload 7, 2, 0, 0, .null, []), (137, .imul, 1, 0, 0, .null, []), (138, .iadd, 1, 0, 0, .null, []), (139, .iload 8, 2, 0, 0, .null, []), (141, .iadd, 1, 0, 0, .null, []),
  (142, .invokevirtual 43, 3, 56, 5, .null, [651, 0, 653, 58, 16]), (145, .iinc 8 1, 3, 0, 0, .null, []), (148, .goto (-61), 3, 87, 0, .null, []), (151, .iinc 7 1, 3, 0, 0, .null, []), (154, .goto (-76), 3, 78, 0, .null, []), (157, .return_, 1, 0, 0, .null, [])]
/-- SmallerInTheShop$Search isReached (LSmallerInTheShop$Sheet;LSmallerInTheShop$Layout;)Z -/
def mp_57 : List (Nat × mm_I) := [(0, .aload_n 0, 1, 0, 0, .null, []), (1, .getfield 18, 3, 3, 2, .null, [168, 0]), (4, .tableswitch 99 2 4 #[28, 61, 78], 28, 0, 0, .null, []), (32, .aload_n 2, 1, 0, 0, .null, []), (33, .invokevirtual 79, 3, 38, 1, .null, [659, 0, 660, 57, 661]), (36, .aload_n 0, 1, 0, 0, .null, []),
  (37, .getfield 22, 3, 3, 3, .null, [169, 0]), (40, .if_icmp .gt 23, 3, 63, 0, .null, []), (43, .aload_n 2, 1, 0, 0, .null, []), (44, .invokevirtual 85, 3, 35, 1, .null, [663, 0, 627, 57, 628]), (47, .aload_n 0, 1, 0, 0, .null, []), (48, .getfield 25, 3, 3, 4, .null, [171, 0]),
  (51, .iand, 1, 0, 0, .null, []), (52, .aload_n 0, 1, 0, 0, .null, []), (53, .getfield 25, 3, 3, 4, .null, [171, 0]), (56, .if_icmp .ne 7, 3, 63, 0, .null, []), (59, .iconst 1, 1, 0, 0, .null, []), (60, .goto 4, 3, 64, 0, .null, []),
  (63, .iconst 0, 1, 0, 0, .null, []), (64, .ireturn, 1, 0, 0, .null, []), (65, .aload_n 2, 1, 0, 0, .null, []), (66, .invokevirtual 79, 3, 38, 1, .null, [659, 0, 660, 57, 661]), (69, .aload_n 0, 1, 0, 0, .null, []), (70, .getfield 22, 3, 3, 3, .null, [169, 0]),
  (73, .if_icmp .gt 7, 3, 80, 0, .null, []), (76, .iconst 1, 1, 0, 0, .null, []), (77, .goto 4, 3, 81, 0, .null, []), (80, .iconst 0, 1, 0, 0, .null, []), (81, .ireturn, 1, 0, 0, .null, []), (82, .aload_n 2, 1, 0, 0, .null, []),
  (83, .invokevirtual 88, 3, 39, 1, .null, [664, 0, 665, 57, 666]), (86, .ifCond .eq 15, 3, 101, 0, .null, []), (89, .aload_n 0, 1, 0, 0, .null, []), (90, .aload_n 2, 1, 0, 0, .null, []), (91, .invokevirtual 92, 3, 58, 2, .null, [668, 0, 670, 58, 18]), (94, .ifCond .eq 7, 3, 101, 0, .null, []),
  (97, .iconst 1, 1, 0, 0, .null, []), (98, .goto 4, 3, 102, 0, .null, []), (101, .iconst 0, 1, 0, 0, .null, []), (102, .ireturn, 1, 0, 0, .null, []), (103, .aload_n 2, 1, 0, 0, .null, []), (104, .invokevirtual 88, 3, 39, 1, .null, [664, 0, 665, 57, 666]),
  (107, .ifCond .eq 18, 3, 125, 0, .null, []), (110, .aload_n 2, 1, 0, 0, .null, []), (111, .aload_n 1, 1, 0, 0, .null, []), (112, .getfield 96, 3, 4, 5, .null, [145, 1]), (115, .invokevirtual 99, 3, 36, 2, .null, [672, 0, 632, 57, 633]), (118, .ifCond .eq 7, 3, 125, 0, .null, []),
  (121, .iconst 1, 1, 0, 0, .null, []), (122, .goto 4, 3, 126, 0, .null, []), (125, .iconst 0, 1, 0, 0, .null, []), (126, .ireturn, 1, 0, 0, .null, [])]
/-- SmallerInTheShop$Search liesAsWanted (LSmallerInTheShop$Layout;)Z -/
def mp_58 : List (Nat × mm_I) := [(0, .iconst 0, 1, 0, 0, .null, []), (1, .istore_n 2, 1, 0, 0, .null, []), (2, .iload_n 2, 1, 0, 0, .null, []), (3, .bipush 8, 2, 0, 0, .null, []), (5, .if_icmp .ge 26, 3, 31, 0, .null, []), (8, .aload_n 1, 1, 0, 0, .null, []),
  (9, .getfield 102, 3, 1, 2, .null, [97, 1]), (12, .iload_n 2, 1, 0, 0, .null, []), (13, .iaload, 1, 0, 0, .null, []), (14, .aload_n 0, 1, 0, 0, .null, []), (15, .getfield 9, 3, 3, 0, .null, [165, 0]), (18, .iload_n 2, 1, 0, 0, .null, []),
  (19, .iaload, 1, 0, 0, .null, []), (20, .if_icmp .eq 5, 3, 25, 0, .null, []), (23, .iconst 0, 1, 0, 0, .null, []), (24, .ireturn, 1, 0, 0, .null, []), (25, .iinc 2 1, 3, 0, 0, .null, []), (28, .goto (-26), 3, 2, 0, .null, []),
  (31, .iconst 1, 1, 0, 0, .null, []), (32, .ireturn, 1, 0, 0, .null, [])]
/-- SmallerInTheShop$Search costOf (LSmallerInTheShop$Layout;II)I -/
def mp_59 : List (Nat × mm_I) := [(0, .aload_n 0, 1, 0, 0, .null, []), (1, .getfield 18, 3, 3, 2, .null, [168, 0]), (4, .lookupswitch 46 #[(1, 28), (3, 30)], 28, 0, 0, .null, []), (32, .iload_n 2, 1, 0, 0, .null, []), (33, .ireturn, 1, 0, 0, .null, []), (34, .bipush 8, 2, 0, 0, .null, []),
  (36, .aload_n 1, 1, 0, 0, .null, []), (37, .invokevirtual 85, 3, 35, 1, .null, [663, 0, 627, 57, 628]), (40, .aload_n 0, 1, 0, 0, .null, []), (41, .getfield 25, 3, 3, 4, .null, [171, 0]), (44, .iand, 1, 0, 0, .null, []), (45, .invokestatic 105, 3, 0, 1, .null, [677, 0, 678, 69]),
  (48, .isub, 1, 0, 0, .null, []), (49, .ireturn, 1, 0, 0, .null, []), (50, .iload_n 3, 1, 0, 0, .null, []), (51, .ireturn, 1, 0, 0, .null, [])]
/-- SmallerInTheShop$Search offer (II)V -/
def mp_60 : List (Nat × mm_I) := [(0, .aload_n 0, 1, 0, 0, .null, []), (1, .getfield 28, 3, 3, 5, .null, [173, 0]), (4, .ifCond .eq 27, 3, 31, 0, .null, []), (7, .iload_n 1, 1, 0, 0, .null, []), (8, .aload_n 0, 1, 0, 0, .null, []), (9, .getfield 32, 3, 3, 6, .null, [175, 0]),
  (12, .if_icmp .lt 19, 3, 31, 0, .null, []), (15, .iload_n 1, 1, 0, 0, .null, []), (16, .aload_n 0, 1, 0, 0, .null, []), (17, .getfield 32, 3, 3, 6, .null, [175, 0]), (20, .if_icmp .ne 26, 3, 46, 0, .null, []), (23, .iload_n 2, 1, 0, 0, .null, []),
  (24, .aload_n 0, 1, 0, 0, .null, []), (25, .getfield 35, 3, 3, 7, .null, [176, 0]), (28, .if_icmp .ge 18, 3, 46, 0, .null, []), (31, .aload_n 0, 1, 0, 0, .null, []), (32, .iconst 1, 1, 0, 0, .null, []), (33, .putfield 28, 3, 3, 5, .null, [173, 0]),
  (36, .aload_n 0, 1, 0, 0, .null, []), (37, .iload_n 1, 1, 0, 0, .null, []), (38, .putfield 32, 3, 3, 6, .null, [175, 0]), (41, .aload_n 0, 1, 0, 0, .null, []), (42, .iload_n 2, 1, 0, 0, .null, []), (43, .putfield 35, 3, 3, 7, .null, [176, 0]),
  (46, .return_, 1, 0, 0, .null, [])]
/-- SmallerInTheShop$Search isHopeless (I)Z -/
def mp_61 : List (Nat × mm_I) := [(0, .aload_n 0, 1, 0, 0, .null, []), (1, .getfield 18, 3, 3, 2, .null, [168, 0]), (4, .iconst 1, 1, 0, 0, .null, []), (5, .if_icmp .eq 15, 3, 20, 0, .null, []), (8, .aload_n 0, 1, 0, 0, .null, []), (9, .getfield 18, 3, 3, 2, .null, [168, 0]),
  (12, .iconst 3, 1, 0, 0, .null, []), (13, .if_icmp .eq 7, 3, 20, 0, .null, []), (16, .iconst 1, 1, 0, 0, .null, []), (17, .goto 4, 3, 21, 0, .null, []), (20, .iconst 0, 1, 0, 0, .null, []), (21, .istore_n 2, 1, 0, 0, .null, []),
  (22, .iload_n 2, 1, 0, 0, .null, []), (23, .ifCond .eq 22, 3, 45, 0, .null, []), (26, .aload_n 0, 1, 0, 0, .null, []), (27, .getfield 28, 3, 3, 5, .null, [173, 0]), (30, .ifCond .eq 15, 3, 45, 0, .null, []), (33, .iload_n 1, 1, 0, 0, .null, []),
  (34, .aload_n 0, 1, 0, 0, .null, []), (35, .getfield 32, 3, 3, 6, .null, [175, 0]), (38, .if_icmp .le 7, 3, 45, 0, .null, []), (41, .iconst 1, 1, 0, 0, .null, []), (42, .goto 4, 3, 46, 0, .null, []), (45, .iconst 0, 1, 0, 0, .null, []),
  (46, .ireturn, 1, 0, 0, .null, [])]
/-- SmallerInTheShop$Search waysToTry (LSmallerInTheShop$Layout;)I -/
def mp_62 : List (Nat × mm_I) := [(0, .aload_n 0, 1, 0, 0, .null, []), (1, .getfield 18, 3, 3, 2, .null, [168, 0]), (4, .iconst 4, 1, 0, 0, .null, []), (5, .if_icmp .ne 15, 3, 20, 0, .null, []), (8, .aload_n 1, 1, 0, 0, .null, []), (9, .invokevirtual 79, 3, 38, 1, .null, [659, 0, 660, 57, 661]),
  (12, .iconst 2, 1, 0, 0, .null, []), (13, .if_icmp .ne 7, 3, 20, 0, .null, []), (16, .iconst 4, 1, 0, 0, .null, []), (17, .goto 4, 3, 21, 0, .null, []), (20, .iconst 2, 1, 0, 0, .null, []), (21, .ireturn, 1, 0, 0, .null, [])]
/-- SmallerInTheShop$Search wayFound ()I -/
def mp_63 : List (Nat × mm_I) := [(0, .aload_n 0, 1, 0, 0, .null, []), (1, .getfield 28, 3, 3, 5, .null, [173, 0]), (4, .ifCond .eq 10, 3, 14, 0, .null, []), (7, .aload_n 0, 1, 0, 0, .null, []), (8, .getfield 35, 3, 3, 7, .null, [176, 0]), (11, .goto 5, 3, 16, 0, .null, []),
  (14, .bipush (-9), 2, 0, 0, .null, []), (16, .ireturn, 1, 0, 0, .null, [])]
/-- SmallerInTheShop$Search costFound ()I -/
def mp_64 : List (Nat × mm_I) := [(0, .aload_n 0, 1, 0, 0, .null, []), (1, .getfield 28, 3, 3, 5, .null, [173, 0]), (4, .ifCond .eq 10, 3, 14, 0, .null, []), (7, .aload_n 0, 1, 0, 0, .null, []), (8, .getfield 32, 3, 3, 6, .null, [175, 0]), (11, .goto 5, 3, 16, 0, .null, []),
  (14, .bipush (-9), 2, 0, 0, .null, []), (16, .ireturn, 1, 0, 0, .null, [])]
/-- SmallerInTheShop$Search waysWith (I)I -/
def mp_65 : List (Nat × mm_I) := [(0, .iload_n 1, 1, 0, 0, .null, []), (1, .ifCond .lt 19, 3, 20, 0, .null, []), (4, .iload_n 1, 1, 0, 0, .null, []), (5, .iconst 4, 1, 0, 0, .null, []), (6, .if_icmp .gt 14, 3, 20, 0, .null, []), (9, .aload_n 0, 1, 0, 0, .null, []),
  (10, .getfield 15, 3, 3, 1, .null, [167, 0]), (13, .iload_n 1, 1, 0, 0, .null, []), (14, .iaload, 1, 0, 0, .null, []), (15, .iload_n 1, 1, 0, 0, .null, []), (16, .ishl, 1, 0, 0, .null, []), (17, .goto 4, 3, 21, 0, .null, []),
  (20, .iconst 0, 1, 0, 0, .null, []), (21, .ireturn, 1, 0, 0, .null, [])]
/-- SmallerInTheShop$Sheet <init> ()V -/
def mp_66 : List (Nat × mm_I) := [(0, .aload_n 0, 1, 0, 0, .null, []), (1, .invokespecial 3, 3, 999, 1, .null, [83, 76, 77]), (4, .aload_n 0, 1, 0, 0, .null, []), (5, .iconst 5, 1, 0, 0, .null, []), (6, .anewarray 9, 3, 0, 0, .null, [84, 85]), (9, .putfield 11, 3, 4, 0, .null, [131, 0]),
  (12, .aload_n 0, 1, 0, 0, .null, []), (13, .bipush 10, 2, 0, 0, .null, []), (15, .newarray .int, 2, 0, 0, .null, [130]), (17, .putfield 17, 3, 4, 1, .null, [134, 0]), (20, .aload_n 0, 1, 0, 0, .null, []), (21, .bipush 10, 2, 0, 0, .null, []),
  (23, .newarray .int, 2, 0, 0, .null, [130]), (25, .putfield 21, 3, 4, 2, .null, [136, 0]), (28, .aload_n 0, 1, 0, 0, .null, []), (29, .bipush 10, 2, 0, 0, .null, []), (31, .newarray .int, 2, 0, 0, .null, [130]), (33, .putfield 24, 3, 4, 3, .null, [138, 0]),
  (36, .iconst 0, 1, 0, 0, .null, []), (37, .istore_n 1, 1, 0, 0, .null, []), (38, .iload_n 1, 1, 0, 0, .null, []), (39, .iconst 4, 1, 0, 0, .null, []), (40, .if_icmp .gt 22, 3, 62, 0, .null, []), (43, .aload_n 0, 1, 0, 0, .null, []),
  (44, .getfield 11, 3, 4, 0, .null, [131, 0]), (47, .iload_n 1, 1, 0, 0, .null, []), (48, .new 9, 3, 1, 0, .null, [84, 86, 57]), (51, .dup, 1, 0, 0, .null, []), (52, .invokespecial 27, 3, 21, 1, .null, [87, 0, 88, 57]), (55, .aastore, 1, 0, 0, .null, []),
  (56, .iinc 1 1, 3, 0, 0, .null, []), (59, .goto (-21), 3, 38, 0, .null, []), (62, .aload_n 0, 1, 0, 0, .null, []), (63, .iconst 0, 1, 0, 0, .null, []), (64, .putfield 28, 3, 4, 4, .null, [140, 0]), (67, .aload_n 0, 1, 0, 0, .null, []),
  (68, .iconst 0, 1, 0, 0, .null, []), (69, .putfield 32, 3, 4, 5, .null, [143, 0]), (72, .return_, 1, 0, 0, .null, [])]
/-- SmallerInTheShop$Sheet copyFrom (LSmallerInTheShop$Sheet;)V -/
def mp_67 : List (Nat × mm_I) := [(0, .aload_n 0, 1, 0, 0, .null, []), (1, .aload_n 1, 1, 0, 0, .null, []), (2, .invokevirtual 35, 3, 68, 2, .null, [419, 0, 420, 56, 421]), (5, .aload_n 0, 1, 0, 0, .null, []), (6, .aload_n 1, 1, 0, 0, .null, []), (7, .getfield 28, 3, 4, 4, .null, [140, 0]),
  (10, .putfield 28, 3, 4, 4, .null, [140, 0]), (13, .aload_n 0, 1, 0, 0, .null, []), (14, .aload_n 1, 1, 0, 0, .null, []), (15, .getfield 32, 3, 4, 5, .null, [143, 0]), (18, .putfield 32, 3, 4, 5, .null, [143, 0]), (21, .iconst 1, 1, 0, 0, .null, []),
  (22, .istore_n 2, 1, 0, 0, .null, []), (23, .iload_n 2, 1, 0, 0, .null, []), (24, .aload_n 0, 1, 0, 0, .null, []), (25, .getfield 28, 3, 4, 4, .null, [140, 0]), (28, .if_icmp .gt 29, 3, 57, 0, .null, []), (31, .iload_n 2, 1, 0, 0, .null, []),
  (32, .iconst 4, 1, 0, 0, .null, []), (33, .if_icmp .gt 24, 3, 57, 0, .null, []), (36, .aload_n 0, 1, 0, 0, .null, []), (37, .getfield 11, 3, 4, 0, .null, [131, 0]), (40, .iload_n 2, 1, 0, 0, .null, []), (41, .aaload, 1, 0, 0, .null, []),
  (42, .aload_n 1, 1, 0, 0, .null, []), (43, .getfield 11, 3, 4, 0, .null, [131, 0]), (46, .iload_n 2, 1, 0, 0, .null, []), (47, .aaload, 1, 0, 0, .null, []), (48, .invokevirtual 39, 3, 22, 2, .null, [423, 0, 424, 57, 425]), (51, .iinc 2 1, 3, 0, 0, .null, []),
  (54, .goto (-31), 3, 23, 0, .null, []), (57, .return_, 1, 0, 0, .null, [])]
/-- SmallerInTheShop$Sheet copyCreasesFrom (LSmallerInTheShop$Sheet;)V -/
def mp_68 : List (Nat × mm_I) := [(0, .iconst 0, 1, 0, 0, .null, []), (1, .istore_n 2, 1, 0, 0, .null, []), (2, .iload_n 2, 1, 0, 0, .null, []), (3, .bipush 10, 2, 0, 0, .null, []), (5, .if_icmp .ge 45, 3, 50, 0, .null, []), (8, .aload_n 0, 1, 0, 0, .null, []),
  (9, .getfield 17, 3, 4, 1, .null, [134, 0]), (12, .iload_n 2, 1, 0, 0, .null, []), (13, .aload_n 1, 1, 0, 0, .null, []), (14, .getfield 17, 3, 4, 1, .null, [134, 0]), (17, .iload_n 2, 1, 0, 0, .null, []), (18, .iaload, 1, 0, 0, .null, []),
  (19, .iastore, 1, 0, 0, .null, []), (20, .aload_n 0, 1, 0, 0, .null, []), (21, .getfield 21, 3, 4, 2, .null, [136, 0]), (24, .iload_n 2, 1, 0, 0, .null, []), (25, .aload_n 1, 1, 0, 0, .null, []), (26, .getfield 21, 3, 4, 2, .null, [136, 0]),
  (29, .iload_n 2, 1, 0, 0, .null, []), (30, .iaload, 1, 0, 0, .null, []), (31, .iastore, 1, 0, 0, .null, []), (32, .aload_n 0, 1, 0, 0, .null, []), (33, .getfield 24, 3, 4, 3, .null, [138, 0]), (36, .iload_n 2, 1, 0, 0, .null, []),
  (37, .aload_n 1, 1, 0, 0, .null, []), (38, .getfield 24, 3, 4, 3, .null, [138, 0]), (41, .iload_n 2, 1, 0, 0, .null, []), (42, .iaload, 1, 0, 0, .null, []), (43, .iastore, 1, 0, 0, .null, []), (44, .iinc 2 1, 3, 0, 0, .null, []),
  (47, .goto (-45), 3, 2, 0, .null, []), (50, .return_, 1, 0, 0, .null, [])]
/-- SmallerInTheShop$Sheet canFold (II)Z -/
def mp_69 : List (Nat × mm_I) := [(0, .iload_n 1, 1, 0, 0, .null, []), (1, .iconst 4, 1, 0, 0, .null, []), (2, .if_icmp .ge 20, 3, 22, 0, .null, []), (5, .aload_n 0, 1, 0, 0, .null, []), (6, .getfield 11, 3, 4, 0, .null, [131, 0]), (9, .iload_n 1, 1, 0, 0, .null, []),
  (10, .aaload, 1, 0, 0, .null, []), (11, .iload_n 2, 1, 0, 0, .null, []), (12, .invokevirtual 43, 3, 23, 2, .null, [459, 0, 460, 57, 461]), (15, .ifCond .eq 7, 3, 22, 0, .null, []), (18, .iconst 1, 1, 0, 0, .null, []), (19, .goto 4, 3, 23, 0, .null, []),
  (22, .iconst 0, 1, 0, 0, .null, []), (23, .ireturn, 1, 0, 0, .null, [])]
/-- SmallerInTheShop$Sheet makeFold (II)I -/
def mp_70 : List (Nat × mm_I) := [(0, .aload_n 0, 1, 0, 0, .null, []), (1, .aload_n 0, 1, 0, 0, .null, []), (2, .getfield 28, 3, 4, 4, .null, [140, 0]), (5, .iload_n 1, 1, 0, 0, .null, []), (6, .iload_n 2, 1, 0, 0, .null, []), (7, .invokevirtual 61, 3, 71, 4, .null, [467, 0, 468, 56, 469]),
  (10, .istore_n 3, 1, 0, 0, .null, []), (11, .aload_n 0, 1, 0, 0, .null, []), (12, .dup, 1, 0, 0, .null, []), (13, .getfield 28, 3, 4, 4, .null, [140, 0]), (16, .iconst 1, 1, 0, 0, .null, []), (17, .iadd, 1, 0, 0, .null, []),
  (18, .putfield 28, 3, 4, 4, .null, [140, 0]), (21, .aload_n 0, 1, 0, 0, .null, []), (22, .aload_n 0, 1, 0, 0, .null, []), (23, .invokevirtual 65, 3, 73, 1, .null, [519, 0, 520, 56, 521]), (26, .invokevirtual 69, 3, 74, 2, .null, [523, 0, 525, 56, 12]), (29, .iload_n 3, 1, 0, 0, .null, []),
  (30, .ireturn, 1, 0, 0, .null, [])]
/-- SmallerInTheShop$Sheet tryFold (III)I -/
def mp_71 : List (Nat × mm_I) := [(0, .aload_n 0, 1, 0, 0, .null, []), (1, .getfield 11, 3, 4, 0, .null, [131, 0]), (4, .iload_n 1, 1, 0, 0, .null, []), (5, .iconst 1, 1, 0, 0, .null, []), (6, .iadd, 1, 0, 0, .null, []), (7, .aaload, 1, 0, 0, .null, []),
  (8, .astore 4, 2, 0, 0, .null, []), (10, .aload 4, 2, 0, 0, .null, []), (12, .aload_n 0, 1, 0, 0, .null, []), (13, .getfield 11, 3, 4, 0, .null, [131, 0]), (16, .iload_n 1, 1, 0, 0, .null, []), (17, .aaload, 1, 0, 0, .null, []),
  (18, .iload_n 2, 1, 0, 0, .null, []), (19, .iload_n 3, 1, 0, 0, .null, []), (20, .invokevirtual 47, 3, 24, 4, .null, [471, 0, 472, 57, 473]), (23, .iconst 0, 1, 0, 0, .null, []), (24, .istore 5, 2, 0, 0, .null, []), (26, .iconst 0, 1, 0, 0, .null, []),
  (27, .istore 6, 2, 0, 0, .null, []), (29, .iload 6, 2, 0, 0, .null, []), (31, .bipush 10, 2, 0, 0, .null, []), (33, .if_icmp .ge 41, 3, 74, 0, .null, []), (36, .aload 4, 2, 0, 0, .null, []), (38, .getfield 51, 3, 1, 8, .null, [109, 1]),
  (41, .iload 6, 2, 0, 0, .null, []), (43, .ishr, 1, 0, 0, .null, []), (44, .iconst 1, 1, 0, 0, .null, []), (45, .iand, 1, 0, 0, .null, []), (46, .ifCond .eq 22, 3, 68, 0, .null, []), (49, .iload 5, 2, 0, 0, .null, []),
  (51, .aload_n 0, 1, 0, 0, .null, []), (52, .iload 6, 2, 0, 0, .null, []), (54, .aload 4, 2, 0, 0, .null, []), (56, .getfield 54, 3, 1, 4, .null, [102, 1]), (59, .iload 6, 2, 0, 0, .null, []), (61, .iaload, 1, 0, 0, .null, []),
  (62, .invokevirtual 57, 3, 72, 3, .null, [506, 0, 507, 56, 508]), (65, .iadd, 1, 0, 0, .null, []), (66, .istore 5, 2, 0, 0, .null, []), (68, .iinc 6 1, 3, 0, 0, .null, []), (71, .goto (-42), 3, 29, 0, .null, []), (74, .iload 5, 2, 0, 0, .null, []),
  (76, .ireturn, 1, 0, 0, .null, [])]
/-- SmallerInTheShop$Sheet effortOn (II)I -/
def mp_72 : List (Nat × mm_I) := [(0, .aload_n 0, 1, 0, 0, .null, []), (1, .getfield 17, 3, 4, 1, .null, [134, 0]), (4, .iload_n 1, 1, 0, 0, .null, []), (5, .iaload, 1, 0, 0, .null, []), (6, .aload_n 0, 1, 0, 0, .null, []), (7, .getfield 21, 3, 4, 2, .null, [136, 0]),
  (10, .iload_n 1, 1, 0, 0, .null, []), (11, .iaload, 1, 0, 0, .null, []), (12, .aload_n 0, 1, 0, 0, .null, []), (13, .getfield 24, 3, 4, 3, .null, [138, 0]), (16, .iload_n 1, 1, 0, 0, .null, []), (17, .iaload, 1, 0, 0, .null, []),
  (18, .iload_n 2, 1, 0, 0, .null, []), (19, .invokestatic 72, 3, 16, 4, .null, [510, 0, 511, 68]), (22, .ireturn, 1, 0, 0, .null, [])]
/-- SmallerInTheShop$Sheet top ()LSmallerInTheShop$Layout; -/
def mp_73 : List (Nat × mm_I) := [(0, .aload_n 0, 1, 0, 0, .null, []), (1, .getfield 11, 3, 4, 0, .null, [131, 0]), (4, .aload_n 0, 1, 0, 0, .null, []), (5, .getfield 28, 3, 4, 4, .null, [140, 0]), (8, .aaload, 1, 0, 0, .null, []), (9, .areturn, 1, 0, 0, .null, [])]
/-- SmallerInTheShop$Sheet wearDown (LSmallerInTheShop$Layout;)V -/
def mp_74 : List (Nat × mm_I) := [(0, .iconst 0, 1, 0, 0, .null, []), (1, .istore_n 2, 1, 0, 0, .null, []), (2, .iload_n 2, 1, 0, 0, .null, []), (3, .bipush 10, 2, 0, 0, .null, []), (5, .if_icmp .ge 21, 3, 26, 0, .null, []), (8, .aload_n 0, 1, 0, 0, .null, []),
  (9, .getfield 24, 3, 4, 3, .null, [138, 0]), (12, .iload_n 2, 1, 0, 0, .null, []), (13, .aload_n 0, 1, 0, 0, .null, []), (14, .iload_n 2, 1, 0, 0, .null, []), (15, .aload_n 1, 1, 0, 0, .null, []), (16, .invokevirtual 78, 3, 75, 3, .null, [527, 0, 529, 56, 13]),
  (19, .iastore, 1, 0, 0, .null, []), (20, .iinc 2 1, 3, 0, 0, .null, []), (23, .goto (-21), 3, 2, 0, .null, []), (26, .return_, 1, 0, 0, .null, [])]
/-- SmallerInTheShop$Sheet wornBehind (ILSmallerInTheShop$Layout;)I -/
def mp_75 : List (Nat × mm_I) := [(0, .aload_n 2, 1, 0, 0, .null, []), (1, .getfield 51, 3, 1, 8, .null, [109, 1]), (4, .iload_n 1, 1, 0, 0, .null, []), (5, .ishr, 1, 0, 0, .null, []), (6, .iconst 1, 1, 0, 0, .null, []), (7, .iand, 1, 0, 0, .null, []),
  (8, .ifCond .ne 10, 3, 18, 0, .null, []), (11, .aload_n 0, 1, 0, 0, .null, []), (12, .getfield 24, 3, 4, 3, .null, [138, 0]), (15, .iload_n 1, 1, 0, 0, .null, []), (16, .iaload, 1, 0, 0, .null, []), (17, .ireturn, 1, 0, 0, .null, []),
  (18, .aload_n 0, 1, 0, 0, .null, []), (19, .getfield 17, 3, 4, 1, .null, [134, 0]), (22, .iload_n 1, 1, 0, 0, .null, []), (23, .iaload, 1, 0, 0, .null, []), (24, .aload_n 0, 1, 0, 0, .null, []), (25, .getfield 24, 3, 4, 3, .null, [138, 0]),
  (28, .iload_n 1, 1, 0, 0, .null, []), (29, .iaload, 1, 0, 0, .null, []), (30, .aload_n 2, 1, 0, 0, .null, []), (31, .getfield 54, 3, 1, 4, .null, [102, 1]), (34, .iload_n 1, 1, 0, 0, .null, []), (35, .iaload, 1, 0, 0, .null, []),
  (36, .invokestatic 82, 3, 19, 3, .null, [531, 0, 532, 68]), (39, .istore_n 3, 1, 0, 0, .null, []), (40, .bipush 99, 2, 0, 0, .null, []), (42, .aload_n 0, 1, 0, 0, .null, []), (43, .getfield 24, 3, 4, 3, .null, [138, 0]), (46, .iload_n 1, 1, 0, 0, .null, []),
  (47, .iaload, 1, 0, 0, .null, []), (48, .iload_n 3, 1, 0, 0, .null, []), (49, .iadd, 1, 0, 0, .null, []), (50, .invokestatic 85, 3, 998, 2, .null, [537, 0, 366, 66, 367]), (53, .ireturn, 1, 0, 0, .null, [])]
/-- SmallerInTheShop$Sheet openLast ()Z -/
def mp_76 : List (Nat × mm_I) := [(0, .aload_n 0, 1, 0, 0, .null, []), (1, .getfield 28, 3, 4, 4, .null, [140, 0]), (4, .ifCond .ne 5, 3, 9, 0, .null, []), (7, .iconst 0, 1, 0, 0, .null, []), (8, .ireturn, 1, 0, 0, .null, []), (9, .aload_n 0, 1, 0, 0, .null, []),
  (10, .dup, 1, 0, 0, .null, []), (11, .getfield 28, 3, 4, 4, .null, [140, 0]), (14, .iconst 1, 1, 0, 0, .null, []), (15, .isub, 1, 0, 0, .null, []), (16, .putfield 28, 3, 4, 4, .null, [140, 0]), (19, .iconst 1, 1, 0, 0, .null, []),
  (20, .ireturn, 1, 0, 0, .null, [])]
/-- SmallerInTheShop$Sheet wearOf (LSmallerInTheShop$Layout;)I -/
def mp_77 : List (Nat × mm_I) := [(0, .iconst 0, 1, 0, 0, .null, []), (1, .istore_n 2, 1, 0, 0, .null, []), (2, .iconst 0, 1, 0, 0, .null, []), (3, .istore_n 3, 1, 0, 0, .null, []), (4, .iload_n 3, 1, 0, 0, .null, []), (5, .bipush 10, 2, 0, 0, .null, []),
  (7, .if_icmp .ge 25, 3, 32, 0, .null, []), (10, .iload_n 2, 1, 0, 0, .null, []), (11, .aload_n 0, 1, 0, 0, .null, []), (12, .iload_n 3, 1, 0, 0, .null, []), (13, .aload_n 1, 1, 0, 0, .null, []), (14, .invokevirtual 78, 3, 75, 3, .null, [527, 0, 529, 56, 13]),
  (17, .aload_n 0, 1, 0, 0, .null, []), (18, .getfield 24, 3, 4, 3, .null, [138, 0]), (21, .iload_n 3, 1, 0, 0, .null, []), (22, .iaload, 1, 0, 0, .null, []), (23, .isub, 1, 0, 0, .null, []), (24, .iadd, 1, 0, 0, .null, []),
  (25, .istore_n 2, 1, 0, 0, .null, []), (26, .iinc 3 1, 3, 0, 0, .null, []), (29, .goto (-25), 3, 4, 0, .null, []), (32, .iload_n 2, 1, 0, 0, .null, []), (33, .ireturn, 1, 0, 0, .null, [])]
/-- SmallerInTheShop$Sheet lastsUnder (LSmallerInTheShop$Layout;)I -/
def mp_78 : List (Nat × mm_I) := [(0, .aload_n 0, 1, 0, 0, .null, []), (1, .invokevirtual 94, 3, 79, 1, .null, [738, 0, 739, 56, 740]), (4, .istore_n 2, 1, 0, 0, .null, []), (5, .iconst 1, 1, 0, 0, .null, []), (6, .istore_n 3, 1, 0, 0, .null, []), (7, .iload_n 3, 1, 0, 0, .null, []),
  (8, .bipush 99, 2, 0, 0, .null, []), (10, .if_icmp .ge 24, 3, 34, 0, .null, []), (13, .aload_n 0, 1, 0, 0, .null, []), (14, .aload_n 1, 1, 0, 0, .null, []), (15, .invokevirtual 69, 3, 74, 2, .null, [523, 0, 525, 56, 12]), (18, .aload_n 0, 1, 0, 0, .null, []),
  (19, .invokevirtual 94, 3, 79, 1, .null, [738, 0, 739, 56, 740]), (22, .iload_n 2, 1, 0, 0, .null, []), (23, .if_icmp .eq 5, 3, 28, 0, .null, []), (26, .iload_n 3, 1, 0, 0, .null, []), (27, .ireturn, 1, 0, 0, .null, []), (28, .iinc 3 1, 3, 0, 0, .null, []),
  (31, .goto (-24), 3, 7, 0, .null, []), (34, .bipush 99, 2, 0, 0, .null, []), (36, .ireturn, 1, 0, 0, .null, [])]
/-- SmallerInTheShop$Sheet holes ()I -/
def mp_79 : List (Nat × mm_I) := [(0, .iconst 0, 1, 0, 0, .null, []), (1, .istore_n 1, 1, 0, 0, .null, []), (2, .iconst 0, 1, 0, 0, .null, []), (3, .istore_n 2, 1, 0, 0, .null, []), (4, .iload_n 2, 1, 0, 0, .null, []), (5, .iconst 3, 1, 0, 0, .null, []),
  (6, .if_icmp .ge 25, 3, 31, 0, .null, []), (9, .aload_n 0, 1, 0, 0, .null, []), (10, .iload_n 2, 1, 0, 0, .null, []), (11, .invokevirtual 90, 3, 80, 2, .null, [742, 0, 743, 56, 744]), (14, .bipush 40, 2, 0, 0, .null, []), (16, .if_icmp .lt 9, 3, 25, 0, .null, []),
  (19, .iload_n 1, 1, 0, 0, .null, []), (20, .iconst 1, 1, 0, 0, .null, []), (21, .iload_n 2, 1, 0, 0, .null, []), (22, .ishl, 1, 0, 0, .null, []), (23, .ior, 1, 0, 0, .null, []), (24, .istore_n 1, 1, 0, 0, .null, []),
  (25, .iinc 2 1, 3, 0, 0, .null, []), (28, .goto (-24), 3, 4, 0, .null, []), (31, .iload_n 1, 1, 0, 0, .null, []), (32, .ireturn, 1, 0, 0, .null, [])]
/-- SmallerInTheShop$Sheet wornAt (I)I -/
def mp_80 : List (Nat × mm_I) := [(0, .aload_n 0, 1, 0, 0, .null, []), (1, .getfield 24, 3, 4, 3, .null, [138, 0]), (4, .iload_n 1, 1, 0, 0, .null, []), (5, .iaload, 1, 0, 0, .null, []), (6, .aload_n 0, 1, 0, 0, .null, []), (7, .getfield 24, 3, 4, 3, .null, [138, 0]),
  (10, .iload_n 1, 1, 0, 0, .null, []), (11, .iconst 3, 1, 0, 0, .null, []), (12, .iadd, 1, 0, 0, .null, []), (13, .iaload, 1, 0, 0, .null, []), (14, .iadd, 1, 0, 0, .null, []), (15, .aload_n 0, 1, 0, 0, .null, []),
  (16, .getfield 24, 3, 4, 3, .null, [138, 0]), (19, .iload_n 1, 1, 0, 0, .null, []), (20, .bipush 6, 2, 0, 0, .null, []), (22, .iadd, 1, 0, 0, .null, []), (23, .iaload, 1, 0, 0, .null, []), (24, .iadd, 1, 0, 0, .null, []),
  (25, .aload_n 0, 1, 0, 0, .null, []), (26, .getfield 24, 3, 4, 3, .null, [138, 0]), (29, .iload_n 1, 1, 0, 0, .null, []), (30, .bipush 7, 2, 0, 0, .null, []), (32, .iadd, 1, 0, 0, .null, []), (33, .iaload, 1, 0, 0, .null, []),
  (34, .iadd, 1, 0, 0, .null, []), (35, .ireturn, 1, 0, 0, .null, [])]
/-- SmallerInTheShop$Sheet wornOfAll ()I -/
def mp_81 : List (Nat × mm_I) := [(0, .iconst 0, 1, 0, 0, .null, []), (1, .istore_n 1, 1, 0, 0, .null, []), (2, .iconst 0, 1, 0, 0, .null, []), (3, .istore_n 2, 1, 0, 0, .null, []), (4, .iload_n 2, 1, 0, 0, .null, []), (5, .bipush 10, 2, 0, 0, .null, []),
  (7, .if_icmp .ge 18, 3, 25, 0, .null, []), (10, .iload_n 1, 1, 0, 0, .null, []), (11, .aload_n 0, 1, 0, 0, .null, []), (12, .getfield 24, 3, 4, 3, .null, [138, 0]), (15, .iload_n 2, 1, 0, 0, .null, []), (16, .iaload, 1, 0, 0, .null, []),
  (17, .iadd, 1, 0, 0, .null, []), (18, .istore_n 1, 1, 0, 0, .null, []), (19, .iinc 2 1, 3, 0, 0, .null, []), (22, .goto (-18), 3, 4, 0, .null, []), (25, .iload_n 1, 1, 0, 0, .null, []), (26, .ireturn, 1, 0, 0, .null, [])]
/-- SmallerInTheShop <init> ()V -/
def mp_82 : List (Nat × mm_I) := [(0, .aload_n 0, 1, 0, 0, .null, []), (1, .invokespecial 1, 3, 999, 1, .null, [75, 76, 77]), (4, .aload_n 0, 1, 0, 0, .null, []), (5, .new 7, 3, 4, 0, .null, [78, 79, 56]), (8, .dup, 1, 0, 0, .null, []), (9, .invokespecial 9, 3, 66, 1, .null, [80, 0, 81, 56]),
  (12, .putfield 10, 3, 5, 0, .null, [223, 0]), (15, .aload_n 0, 1, 0, 0, .null, []), (16, .new 7, 3, 4, 0, .null, [78, 79, 56]), (19, .dup, 1, 0, 0, .null, []), (20, .invokespecial 9, 3, 66, 1, .null, [80, 0, 81, 56]), (23, .putfield 16, 3, 5, 1, .null, [224, 0]),
  (26, .aload_n 0, 1, 0, 0, .null, []), (27, .new 7, 3, 4, 0, .null, [78, 79, 56]), (30, .dup, 1, 0, 0, .null, []), (31, .invokespecial 9, 3, 66, 1, .null, [80, 0, 81, 56]), (34, .putfield 19, 3, 5, 2, .null, [225, 0]), (37, .aload_n 0, 1, 0, 0, .null, []),
  (38, .new 22, 3, 3, 0, .null, [159, 160, 58]), (41, .dup, 1, 0, 0, .null, []), (42, .invokespecial 24, 3, 53, 1, .null, [161, 1, 162, 58]), (45, .putfield 25, 3, 5, 3, .null, [226, 0]), (48, .aload_n 0, 1, 0, 0, .null, []), (49, .new 29, 3, 2, 0, .null, [194, 195, 59]),
  (52, .dup, 1, 0, 0, .null, []), (53, .invokespecial 31, 3, 42, 1, .null, [196, 0, 197, 59]), (56, .putfield 32, 3, 5, 4, .null, [227, 0]), (59, .aload_n 0, 1, 0, 0, .null, []), (60, .new 36, 3, 0, 0, .null, [208, 209, 60]), (63, .dup, 1, 0, 0, .null, []),
  (64, .invokespecial 38, 3, 14, 1, .null, [210, 0, 211, 60]), (67, .putfield 39, 3, 5, 5, .null, [228, 0]), (70, .aload_n 0, 1, 0, 0, .null, []), (71, .bipush 16, 2, 0, 0, .null, []), (73, .newarray .int, 2, 0, 0, .null, [130]), (75, .putfield 43, 3, 5, 6, .null, [229, 0]),
  (78, .aload_n 0, 1, 0, 0, .null, []), (79, .bipush 7, 2, 0, 0, .null, []), (81, .newarray .int, 2, 0, 0, .null, [130]), (83, .putfield 47, 3, 5, 7, .null, [230, 0]), (86, .aload_n 0, 1, 0, 0, .null, []), (87, .iconst 0, 1, 0, 0, .null, []),
  (88, .putfield 50, 3, 5, 8, .null, [231, 0]), (91, .aload_n 0, 1, 0, 0, .null, []), (92, .iconst 0, 1, 0, 0, .null, []), (93, .putfield 54, 3, 5, 9, .null, [232, 0]), (96, .return_, 1, 0, 0, .null, [])]
/-- SmallerInTheShop letter (I)I -/
def mp_83 : List (Nat × mm_I) := [(0, .iload_n 1, 1, 0, 0, .null, []), (1, .ifCond .ge 10, 3, 11, 0, .null, []), (4, .aload_n 0, 1, 0, 0, .null, []), (5, .bipush (-4), 2, 0, 0, .null, []), (7, .invokevirtual 58, 3, 84, 2, .null, [258, 0, 260, 55, 0]), (10, .ireturn, 1, 0, 0, .null, []),
  (11, .iload_n 1, 1, 0, 0, .null, []), (12, .sipush 255, 3, 0, 0, .null, []), (15, .if_icmp .gt 13, 3, 28, 0, .null, []), (18, .aload_n 0, 1, 0, 0, .null, []), (19, .getfield 32, 3, 5, 4, .null, [227, 0]), (22, .invokevirtual 62, 3, 43, 1, .null, [262, 0, 263, 59, 264]),
  (25, .ifCond .eq 10, 3, 35, 0, .null, []), (28, .aload_n 0, 1, 0, 0, .null, []), (29, .bipush (-6), 2, 0, 0, .null, []), (31, .invokevirtual 58, 3, 84, 2, .null, [258, 0, 260, 55, 0]), (34, .ireturn, 1, 0, 0, .null, []), (35, .aload_n 0, 1, 0, 0, .null, []),
  (36, .getfield 32, 3, 5, 4, .null, [227, 0]), (39, .iload_n 1, 1, 0, 0, .null, []), (40, .invokevirtual 66, 3, 44, 2, .null, [266, 0, 267, 59, 268]), (43, .ireturn, 1, 0, 0, .null, [])]
/-- SmallerInTheShop refuse (I)I -/
def mp_84 : List (Nat × mm_I) := [(0, .iload_n 1, 1, 0, 0, .null, []), (1, .ineg, 1, 0, 0, .null, []), (2, .istore_n 2, 1, 0, 0, .null, []), (3, .iload_n 2, 1, 0, 0, .null, []), (4, .iconst 1, 1, 0, 0, .null, []), (5, .if_icmp .lt 19, 3, 24, 0, .null, []),
  (8, .iload_n 2, 1, 0, 0, .null, []), (9, .bipush 6, 2, 0, 0, .null, []), (11, .if_icmp .gt 13, 3, 24, 0, .null, []), (14, .aload_n 0, 1, 0, 0, .null, []), (15, .getfield 47, 3, 5, 7, .null, [230, 0]), (18, .iload_n 2, 1, 0, 0, .null, []),
  (19, .dup2, 1, 0, 0, .null, []), (20, .iaload, 1, 0, 0, .null, []), (21, .iconst 1, 1, 0, 0, .null, []), (22, .iadd, 1, 0, 0, .null, []), (23, .iastore, 1, 0, 0, .null, []), (24, .iload_n 1, 1, 0, 0, .null, []),
  (25, .ireturn, 1, 0, 0, .null, [])]
/-- SmallerInTheShop map ()I -/
def mp_85 : List (Nat × mm_I) := [(0, .aload_n 0, 1, 0, 0, .null, []), (1, .getfield 32, 3, 5, 4, .null, [227, 0]), (4, .invokevirtual 69, 3, 45, 1, .null, [274, 0, 275, 59, 276]), (7, .istore_n 1, 1, 0, 0, .null, []), (8, .iload_n 1, 1, 0, 0, .null, []), (9, .ifCond .lt 11, 3, 20, 0, .null, []),
  (12, .sipush (-1000), 3, 0, 0, .null, []), (15, .iload_n 1, 1, 0, 0, .null, []), (16, .isub, 1, 0, 0, .null, []), (17, .goto 7, 3, 24, 0, .null, []), (20, .aload_n 0, 1, 0, 0, .null, []), (21, .invokevirtual 73, 3, 86, 1, .null, [411, 0, 413, 55, 1]),
  (24, .istore_n 2, 1, 0, 0, .null, []), (25, .aload_n 0, 1, 0, 0, .null, []), (26, .getfield 32, 3, 5, 4, .null, [227, 0]), (29, .invokevirtual 76, 3, 52, 1, .null, [547, 0, 548, 59, 549]), (32, .iload_n 2, 1, 0, 0, .null, []), (33, .ireturn, 1, 0, 0, .null, [])]
/-- SmallerInTheShop doStatements ()I -/
def mp_86 : List (Nat × mm_I) := [(0, .aload_n 0, 1, 0, 0, .null, []), (1, .getfield 19, 3, 5, 2, .null, [225, 0]), (4, .aload_n 0, 1, 0, 0, .null, []), (5, .getfield 10, 3, 5, 0, .null, [223, 0]), (8, .invokevirtual 276, 3, 67, 2, .null, [415, 0, 416, 56, 417]), (11, .iconst 0, 1, 0, 0, .null, []),
  (12, .istore_n 1, 1, 0, 0, .null, []), (13, .iconst 0, 1, 0, 0, .null, []), (14, .istore_n 2, 1, 0, 0, .null, []), (15, .iload_n 2, 1, 0, 0, .null, []), (16, .aload_n 0, 1, 0, 0, .null, []), (17, .getfield 32, 3, 5, 4, .null, [227, 0]),
  (20, .getfield 282, 3, 2, 1, .null, [202, 1]), (23, .if_icmp .ge 36, 3, 59, 0, .null, []), (26, .aload_n 0, 1, 0, 0, .null, []), (27, .iload_n 2, 1, 0, 0, .null, []), (28, .invokevirtual 293, 3, 87, 2, .null, [427, 0, 429, 55, 2]), (31, .ifCond .ne 9, 3, 40, 0, .null, []),
  (34, .sipush (-2000), 3, 0, 0, .null, []), (37, .iload_n 2, 1, 0, 0, .null, []), (38, .isub, 1, 0, 0, .null, []), (39, .ireturn, 1, 0, 0, .null, []), (40, .iinc 1 1, 3, 0, 0, .null, []), (43, .iload_n 2, 1, 0, 0, .null, []),
  (44, .iconst 1, 1, 0, 0, .null, []), (45, .aload_n 0, 1, 0, 0, .null, []), (46, .getfield 32, 3, 5, 4, .null, [227, 0]), (49, .iload_n 2, 1, 0, 0, .null, []), (50, .invokevirtual 296, 3, 49, 2, .null, [546, 0, 408, 59, 409]), (53, .iadd, 1, 0, 0, .null, []),
  (54, .iadd, 1, 0, 0, .null, []), (55, .istore_n 2, 1, 0, 0, .null, []), (56, .goto (-41), 3, 15, 0, .null, []), (59, .aload_n 0, 1, 0, 0, .null, []), (60, .getfield 10, 3, 5, 0, .null, [223, 0]), (63, .aload_n 0, 1, 0, 0, .null, []),
  (64, .getfield 19, 3, 5, 2, .null, [225, 0]), (67, .invokevirtual 276, 3, 67, 2, .null, [415, 0, 416, 56, 417]), (70, .iload_n 1, 1, 0, 0, .null, []), (71, .ireturn, 1, 0, 0, .null, [])]
/-- SmallerInTheShop doStatement (I)Z -/
def mp_87 : List (Nat × mm_I) := [(0, .aload_n 0, 1, 0, 0, .null, []), (1, .getfield 32, 3, 5, 4, .null, [227, 0]), (4, .iload_n 1, 1, 0, 0, .null, []), (5, .iconst 1, 1, 0, 0, .null, []), (6, .iadd, 1, 0, 0, .null, []), (7, .invokevirtual 299, 3, 50, 2, .null, [431, 0, 432, 59, 433]),
  (10, .istore_n 2, 1, 0, 0, .null, []), (11, .aload_n 0, 1, 0, 0, .null, []), (12, .getfield 32, 3, 5, 4, .null, [227, 0]), (15, .iload_n 1, 1, 0, 0, .null, []), (16, .invokevirtual 302, 3, 46, 2, .null, [435, 0, 279, 59, 280]), (19, .lookupswitch 135 #[(99, 129), (102, 105), (107, 49), (111, 121), (119, 75)], 49, 0, 0, .null, []),
  (68, .aload_n 0, 1, 0, 0, .null, []), (69, .iload_n 2, 1, 0, 0, .null, []), (70, .aload_n 0, 1, 0, 0, .null, []), (71, .getfield 32, 3, 5, 4, .null, [227, 0]), (74, .iload_n 1, 1, 0, 0, .null, []), (75, .iconst 2, 1, 0, 0, .null, []),
  (76, .iadd, 1, 0, 0, .null, []), (77, .invokevirtual 305, 3, 51, 2, .null, [436, 0, 437, 59, 438]), (80, .aload_n 0, 1, 0, 0, .null, []), (81, .getfield 32, 3, 5, 4, .null, [227, 0]), (84, .iload_n 1, 1, 0, 0, .null, []), (85, .iconst 3, 1, 0, 0, .null, []),
  (86, .iadd, 1, 0, 0, .null, []), (87, .invokevirtual 299, 3, 50, 2, .null, [431, 0, 432, 59, 433]), (90, .invokevirtual 308, 3, 88, 4, .null, [440, 0, 442, 55, 3]), (93, .ireturn, 1, 0, 0, .null, []), (94, .aload_n 0, 1, 0, 0, .null, []), (95, .iload_n 2, 1, 0, 0, .null, []),
  (96, .bipush 10, 2, 0, 0, .null, []), (98, .aload_n 0, 1, 0, 0, .null, []), (99, .getfield 32, 3, 5, 4, .null, [227, 0]), (102, .iload_n 1, 1, 0, 0, .null, []), (103, .iconst 2, 1, 0, 0, .null, []), (104, .iadd, 1, 0, 0, .null, []),
  (105, .invokevirtual 299, 3, 50, 2, .null, [431, 0, 432, 59, 433]), (108, .imul, 1, 0, 0, .null, []), (109, .aload_n 0, 1, 0, 0, .null, []), (110, .getfield 32, 3, 5, 4, .null, [227, 0]), (113, .iload_n 1, 1, 0, 0, .null, []), (114, .iconst 3, 1, 0, 0, .null, []),
  (115, .iadd, 1, 0, 0, .null, []), (116, .invokevirtual 299, 3, 50, 2, .null, [431, 0, 432, 59, 433]), (119, .iadd, 1, 0, 0, .null, []), (120, .invokevirtual 312, 3, 90, 3, .null, [447, 0, 449, 55, 4]), (123, .ireturn, 1, 0, 0, .null, []), (124, .aload_n 0, 1, 0, 0, .null, []),
  (125, .iload_n 2, 1, 0, 0, .null, []), (126, .aload_n 0, 1, 0, 0, .null, []), (127, .getfield 32, 3, 5, 4, .null, [227, 0]), (130, .iload_n 1, 1, 0, 0, .null, []), (131, .iconst 2, 1, 0, 0, .null, []), (132, .iadd, 1, 0, 0, .null, []),
  (133, .invokevirtual 299, 3, 50, 2, .null, [431, 0, 432, 59, 433]), (136, .invokevirtual 315, 3, 91, 3, .null, [451, 0, 453, 55, 5]), (139, .ireturn, 1, 0, 0, .null, []), (140, .aload_n 0, 1, 0, 0, .null, []), (141, .getfield 19, 3, 5, 2, .null, [225, 0]), (144, .invokevirtual 134, 3, 76, 1, .null, [538, 0, 539, 56, 540]),
  (147, .ireturn, 1, 0, 0, .null, []), (148, .aload_n 0, 1, 0, 0, .null, []), (149, .iload_n 2, 1, 0, 0, .null, []), (150, .invokevirtual 318, 3, 92, 2, .null, [542, 0, 544, 55, 14]), (153, .ireturn, 1, 0, 0, .null, []), (154, .iconst 0, 1, 0, 0, .null, []),
  (155, .ireturn, 1, 0, 0, .null, [])]
/-- SmallerInTheShop tellKind (III)Z -/
def mp_88 : List (Nat × mm_I) := [(0, .iload_n 1, 1, 0, 0, .null, []), (1, .bipush 10, 2, 0, 0, .null, []), (3, .invokestatic 79, 3, 89, 2, .null, [444, 0, 445, 55]), (6, .ifCond .ne 5, 3, 11, 0, .null, []), (9, .iconst 0, 1, 0, 0, .null, []), (10, .ireturn, 1, 0, 0, .null, []),
  (11, .aload_n 0, 1, 0, 0, .null, []), (12, .getfield 19, 3, 5, 2, .null, [225, 0]), (15, .getfield 83, 3, 4, 1, .null, [135, 1]), (18, .iload_n 1, 1, 0, 0, .null, []), (19, .iload_n 2, 1, 0, 0, .null, []), (20, .iastore, 1, 0, 0, .null, []),
  (21, .aload_n 0, 1, 0, 0, .null, []), (22, .getfield 19, 3, 5, 2, .null, [225, 0]), (25, .getfield 86, 3, 4, 2, .null, [137, 1]), (28, .iload_n 1, 1, 0, 0, .null, []), (29, .iload_n 3, 1, 0, 0, .null, []), (30, .iastore, 1, 0, 0, .null, []),
  (31, .iconst 1, 1, 0, 0, .null, []), (32, .ireturn, 1, 0, 0, .null, [])]
/-- SmallerInTheShop isBelow (II)Z -/
def mp_89 : List (Nat × mm_I) := [(0, .iload_n 0, 1, 0, 0, .null, []), (1, .ifCond .lt 12, 3, 13, 0, .null, []), (4, .iload_n 0, 1, 0, 0, .null, []), (5, .iload_n 1, 1, 0, 0, .null, []), (6, .if_icmp .ge 7, 3, 13, 0, .null, []), (9, .iconst 1, 1, 0, 0, .null, []),
  (10, .goto 4, 3, 14, 0, .null, []), (13, .iconst 0, 1, 0, 0, .null, []), (14, .ireturn, 1, 0, 0, .null, [])]
/-- SmallerInTheShop tellWorn (II)Z -/
def mp_90 : List (Nat × mm_I) := [(0, .iload_n 1, 1, 0, 0, .null, []), (1, .bipush 10, 2, 0, 0, .null, []), (3, .invokestatic 79, 3, 89, 2, .null, [444, 0, 445, 55]), (6, .ifCond .ne 5, 3, 11, 0, .null, []), (9, .iconst 0, 1, 0, 0, .null, []), (10, .ireturn, 1, 0, 0, .null, []),
  (11, .aload_n 0, 1, 0, 0, .null, []), (12, .getfield 19, 3, 5, 2, .null, [225, 0]), (15, .getfield 89, 3, 4, 3, .null, [139, 1]), (18, .iload_n 1, 1, 0, 0, .null, []), (19, .iload_n 2, 1, 0, 0, .null, []), (20, .iastore, 1, 0, 0, .null, []),
  (21, .iconst 1, 1, 0, 0, .null, []), (22, .ireturn, 1, 0, 0, .null, [])]
/-- SmallerInTheShop tellFold (II)Z -/
def mp_91 : List (Nat × mm_I) := [(0, .aload_n 0, 1, 0, 0, .null, []), (1, .getfield 19, 3, 5, 2, .null, [225, 0]), (4, .aload_n 0, 1, 0, 0, .null, []), (5, .getfield 19, 3, 5, 2, .null, [225, 0]), (8, .getfield 137, 3, 4, 4, .null, [142, 1]), (11, .iload_n 1, 1, 0, 0, .null, []),
  (12, .invokevirtual 290, 3, 69, 3, .null, [455, 0, 456, 56, 457]), (15, .ifCond .eq 11, 3, 26, 0, .null, []), (18, .iload_n 2, 1, 0, 0, .null, []), (19, .iconst 4, 1, 0, 0, .null, []), (20, .invokestatic 79, 3, 89, 2, .null, [444, 0, 445, 55]), (23, .ifCond .ne 5, 3, 28, 0, .null, []),
  (26, .iconst 0, 1, 0, 0, .null, []), (27, .ireturn, 1, 0, 0, .null, []), (28, .aload_n 0, 1, 0, 0, .null, []), (29, .getfield 19, 3, 5, 2, .null, [225, 0]), (32, .iload_n 1, 1, 0, 0, .null, []), (33, .iload_n 2, 1, 0, 0, .null, []),
  (34, .invokevirtual 131, 3, 70, 3, .null, [463, 0, 464, 56, 465]), (37, .pop, 1, 0, 0, .null, []), (38, .iconst 1, 1, 0, 0, .null, []), (39, .ireturn, 1, 0, 0, .null, [])]
/-- SmallerInTheShop tellCover (I)Z -/
def mp_92 : List (Nat × mm_I) := [(0, .iload_n 1, 1, 0, 0, .null, []), (1, .bipush 8, 2, 0, 0, .null, []), (3, .invokestatic 79, 3, 89, 2, .null, [444, 0, 445, 55]), (6, .ifCond .ne 5, 3, 11, 0, .null, []), (9, .iconst 0, 1, 0, 0, .null, []), (10, .ireturn, 1, 0, 0, .null, []),
  (11, .aload_n 0, 1, 0, 0, .null, []), (12, .getfield 19, 3, 5, 2, .null, [225, 0]), (15, .iload_n 1, 1, 0, 0, .null, []), (16, .putfield 140, 3, 4, 5, .null, [144, 1]), (19, .iconst 1, 1, 0, 0, .null, []), (20, .ireturn, 1, 0, 0, .null, [])]
/-- SmallerInTheShop crease (II)I -/
def mp_93 : List (Nat × mm_I) := [(0, .iload_n 1, 1, 0, 0, .null, []), (1, .bipush 10, 2, 0, 0, .null, []), (3, .invokestatic 79, 3, 89, 2, .null, [444, 0, 445, 55]), (6, .ifCond .ne 9, 3, 15, 0, .null, []), (9, .aload_n 0, 1, 0, 0, .null, []), (10, .iconst (-1), 1, 0, 0, .null, []),
  (11, .invokevirtual 58, 3, 84, 2, .null, [258, 0, 260, 55, 0]), (14, .ireturn, 1, 0, 0, .null, []), (15, .iload_n 2, 1, 0, 0, .null, []), (16, .tableswitch 103 0 5 #[40, 50, 60, 70, 83, 93], 40, 0, 0, .null, []), (56, .aload_n 0, 1, 0, 0, .null, []), (57, .getfield 10, 3, 5, 0, .null, [223, 0]),
  (60, .getfield 83, 3, 4, 1, .null, [135, 1]), (63, .iload_n 1, 1, 0, 0, .null, []), (64, .iaload, 1, 0, 0, .null, []), (65, .ireturn, 1, 0, 0, .null, []), (66, .aload_n 0, 1, 0, 0, .null, []), (67, .getfield 10, 3, 5, 0, .null, [223, 0]),
  (70, .getfield 86, 3, 4, 2, .null, [137, 1]), (73, .iload_n 1, 1, 0, 0, .null, []), (74, .iaload, 1, 0, 0, .null, []), (75, .ireturn, 1, 0, 0, .null, []), (76, .aload_n 0, 1, 0, 0, .null, []), (77, .getfield 10, 3, 5, 0, .null, [223, 0]),
  (80, .getfield 89, 3, 4, 3, .null, [139, 1]), (83, .iload_n 1, 1, 0, 0, .null, []), (84, .iaload, 1, 0, 0, .null, []), (85, .ireturn, 1, 0, 0, .null, []), (86, .aload_n 0, 1, 0, 0, .null, []), (87, .getfield 10, 3, 5, 0, .null, [223, 0]),
  (90, .invokevirtual 92, 3, 73, 1, .null, [556, 0, 520, 56, 521]), (93, .getfield 96, 3, 1, 4, .null, [101, 1]), (96, .iload_n 1, 1, 0, 0, .null, []), (97, .iaload, 1, 0, 0, .null, []), (98, .ireturn, 1, 0, 0, .null, []), (99, .aload_n 0, 1, 0, 0, .null, []),
  (100, .getfield 10, 3, 5, 0, .null, [223, 0]), (103, .iload_n 1, 1, 0, 0, .null, []), (104, .iconst 1, 1, 0, 0, .null, []), (105, .invokevirtual 101, 3, 72, 3, .null, [557, 0, 507, 56, 508]), (108, .ireturn, 1, 0, 0, .null, []), (109, .aload_n 0, 1, 0, 0, .null, []),
  (110, .getfield 10, 3, 5, 0, .null, [223, 0]), (113, .iload_n 1, 1, 0, 0, .null, []), (114, .iconst 2, 1, 0, 0, .null, []), (115, .invokevirtual 101, 3, 72, 3, .null, [557, 0, 507, 56, 508]), (118, .ireturn, 1, 0, 0, .null, []), (119, .aload_n 0, 1, 0, 0, .null, []),
  (120, .bipush (-2), 2, 0, 0, .null, []), (122, .invokevirtual 58, 3, 84, 2, .null, [258, 0, 260, 55, 0]), (125, .ireturn, 1, 0, 0, .null, [])]
/-- SmallerInTheShop panel (II)I -/
def mp_94 : List (Nat × mm_I) := [(0, .iload_n 1, 1, 0, 0, .null, []), (1, .bipush 8, 2, 0, 0, .null, []), (3, .invokestatic 79, 3, 89, 2, .null, [444, 0, 445, 55]), (6, .ifCond .ne 9, 3, 15, 0, .null, []), (9, .aload_n 0, 1, 0, 0, .null, []), (10, .iconst (-1), 1, 0, 0, .null, []),
  (11, .invokevirtual 58, 3, 84, 2, .null, [258, 0, 260, 55, 0]), (14, .ireturn, 1, 0, 0, .null, []), (15, .aload_n 0, 1, 0, 0, .null, []), (16, .getfield 10, 3, 5, 0, .null, [223, 0]), (19, .invokevirtual 92, 3, 73, 1, .null, [556, 0, 520, 56, 521]), (22, .astore_n 3, 1, 0, 0, .null, []),
  (23, .iload_n 2, 1, 0, 0, .null, []), (24, .tableswitch 83 0 5 #[40, 47, 54, 61, 68, 77], 40, 0, 0, .null, []), (64, .aload_n 3, 1, 0, 0, .null, []), (65, .getfield 105, 3, 1, 0, .null, [92, 1]), (68, .iload_n 1, 1, 0, 0, .null, []), (69, .iaload, 1, 0, 0, .null, []),
  (70, .ireturn, 1, 0, 0, .null, []), (71, .aload_n 3, 1, 0, 0, .null, []), (72, .getfield 108, 3, 1, 1, .null, [94, 1]), (75, .iload_n 1, 1, 0, 0, .null, []), (76, .iaload, 1, 0, 0, .null, []), (77, .ireturn, 1, 0, 0, .null, []),
  (78, .aload_n 3, 1, 0, 0, .null, []), (79, .getfield 111, 3, 1, 2, .null, [96, 1]), (82, .iload_n 1, 1, 0, 0, .null, []), (83, .iaload, 1, 0, 0, .null, []), (84, .ireturn, 1, 0, 0, .null, []), (85, .aload_n 3, 1, 0, 0, .null, []),
  (86, .getfield 114, 3, 1, 3, .null, [99, 1]), (89, .iload_n 1, 1, 0, 0, .null, []), (90, .iaload, 1, 0, 0, .null, []), (91, .ireturn, 1, 0, 0, .null, []), (92, .aload_n 3, 1, 0, 0, .null, []), (93, .iload_n 1, 1, 0, 0, .null, []),
  (94, .invokevirtual 117, 3, 31, 2, .null, [562, 0, 563, 57, 564]), (97, .invokestatic 121, 3, 95, 1, .null, [570, 0, 571, 55]), (100, .ireturn, 1, 0, 0, .null, []), (101, .aload_n 3, 1, 0, 0, .null, []), (102, .iload_n 1, 1, 0, 0, .null, []), (103, .invokevirtual 125, 3, 32, 2, .null, [573, 0, 567, 57, 568]),
  (106, .ireturn, 1, 0, 0, .null, []), (107, .aload_n 0, 1, 0, 0, .null, []), (108, .bipush (-2), 2, 0, 0, .null, []), (110, .invokevirtual 58, 3, 84, 2, .null, [258, 0, 260, 55, 0]), (113, .ireturn, 1, 0, 0, .null, [])]
/-- SmallerInTheShop asNumber (Z)I -/
def mp_95 : List (Nat × mm_I) := [(0, .iload_n 0, 1, 0, 0, .null, []), (1, .ifCond .eq 7, 3, 8, 0, .null, []), (4, .iconst 1, 1, 0, 0, .null, []), (5, .goto 4, 3, 9, 0, .null, []), (8, .iconst 0, 1, 0, 0, .null, []), (9, .ireturn, 1, 0, 0, .null, [])]
/-- SmallerInTheShop fold (II)I -/
def mp_96 : List (Nat × mm_I) := [(0, .aload_n 0, 1, 0, 0, .null, []), (1, .iload_n 1, 1, 0, 0, .null, []), (2, .iload_n 2, 1, 0, 0, .null, []), (3, .invokevirtual 128, 3, 97, 3, .null, [578, 0, 580, 55, 15]), (6, .istore_n 3, 1, 0, 0, .null, []), (7, .iload_n 3, 1, 0, 0, .null, []),
  (8, .ifCond .ge 11, 3, 19, 0, .null, []), (11, .aload_n 0, 1, 0, 0, .null, []), (12, .iload_n 3, 1, 0, 0, .null, []), (13, .invokevirtual 58, 3, 84, 2, .null, [258, 0, 260, 55, 0]), (16, .goto 12, 3, 28, 0, .null, []), (19, .aload_n 0, 1, 0, 0, .null, []),
  (20, .getfield 10, 3, 5, 0, .null, [223, 0]), (23, .iload_n 1, 1, 0, 0, .null, []), (24, .iload_n 2, 1, 0, 0, .null, []), (25, .invokevirtual 131, 3, 70, 3, .null, [463, 0, 464, 56, 465]), (28, .ireturn, 1, 0, 0, .null, [])]
/-- SmallerInTheShop refusalOfFold (II)I -/
def mp_97 : List (Nat × mm_I) := [(0, .aload_n 0, 1, 0, 0, .null, []), (1, .getfield 10, 3, 5, 0, .null, [223, 0]), (4, .aload_n 0, 1, 0, 0, .null, []), (5, .getfield 10, 3, 5, 0, .null, [223, 0]), (8, .getfield 137, 3, 4, 4, .null, [142, 1]), (11, .iload_n 1, 1, 0, 0, .null, []),
  (12, .invokevirtual 290, 3, 69, 3, .null, [455, 0, 456, 56, 457]), (15, .ifCond .ne 5, 3, 20, 0, .null, []), (18, .iconst (-1), 1, 0, 0, .null, []), (19, .ireturn, 1, 0, 0, .null, []), (20, .iload_n 2, 1, 0, 0, .null, []), (21, .iconst 4, 1, 0, 0, .null, []),
  (22, .invokestatic 79, 3, 89, 2, .null, [444, 0, 445, 55]), (25, .ifCond .eq 7, 3, 32, 0, .null, []), (28, .iconst 0, 1, 0, 0, .null, []), (29, .goto 5, 3, 34, 0, .null, []), (32, .bipush (-2), 2, 0, 0, .null, []), (34, .ireturn, 1, 0, 0, .null, [])]
/-- SmallerInTheShop opens ()I -/
def mp_98 : List (Nat × mm_I) := [(0, .aload_n 0, 1, 0, 0, .null, []), (1, .getfield 10, 3, 5, 0, .null, [223, 0]), (4, .invokevirtual 134, 3, 76, 1, .null, [538, 0, 539, 56, 540]), (7, .ifCond .eq 13, 3, 20, 0, .null, []), (10, .aload_n 0, 1, 0, 0, .null, []), (11, .getfield 10, 3, 5, 0, .null, [223, 0]),
  (14, .getfield 137, 3, 4, 4, .null, [142, 1]), (17, .goto 9, 3, 26, 0, .null, []), (20, .aload_n 0, 1, 0, 0, .null, []), (21, .bipush (-3), 2, 0, 0, .null, []), (23, .invokevirtual 58, 3, 84, 2, .null, [258, 0, 260, 55, 0]), (26, .ireturn, 1, 0, 0, .null, [])]
/-- SmallerInTheShop wears (II)I -/
def mp_99 : List (Nat × mm_I) := [(0, .iload_n 1, 1, 0, 0, .null, []), (1, .bipush 10, 2, 0, 0, .null, []), (3, .invokestatic 79, 3, 89, 2, .null, [444, 0, 445, 55]), (6, .ifCond .ne 9, 3, 15, 0, .null, []), (9, .aload_n 0, 1, 0, 0, .null, []), (10, .iconst (-1), 1, 0, 0, .null, []),
  (11, .invokevirtual 58, 3, 84, 2, .null, [258, 0, 260, 55, 0]), (14, .ireturn, 1, 0, 0, .null, []), (15, .iload_n 2, 1, 0, 0, .null, []), (16, .ifCond .ge 10, 3, 26, 0, .null, []), (19, .aload_n 0, 1, 0, 0, .null, []), (20, .bipush (-4), 2, 0, 0, .null, []),
  (22, .invokevirtual 58, 3, 84, 2, .null, [258, 0, 260, 55, 0]), (25, .ireturn, 1, 0, 0, .null, []), (26, .iload_n 2, 1, 0, 0, .null, []), (27, .bipush 99, 2, 0, 0, .null, []), (29, .if_icmp .le 10, 3, 39, 0, .null, []), (32, .aload_n 0, 1, 0, 0, .null, []),
  (33, .bipush (-6), 2, 0, 0, .null, []), (35, .invokevirtual 58, 3, 84, 2, .null, [258, 0, 260, 55, 0]), (38, .ireturn, 1, 0, 0, .null, []), (39, .aload_n 0, 1, 0, 0, .null, []), (40, .getfield 10, 3, 5, 0, .null, [223, 0]), (43, .getfield 89, 3, 4, 3, .null, [139, 1]),
  (46, .iload_n 1, 1, 0, 0, .null, []), (47, .iaload, 1, 0, 0, .null, []), (48, .istore_n 3, 1, 0, 0, .null, []), (49, .aload_n 0, 1, 0, 0, .null, []), (50, .getfield 10, 3, 5, 0, .null, [223, 0]), (53, .getfield 89, 3, 4, 3, .null, [139, 1]),
  (56, .iload_n 1, 1, 0, 0, .null, []), (57, .iload_n 2, 1, 0, 0, .null, []), (58, .iastore, 1, 0, 0, .null, []), (59, .iload_n 3, 1, 0, 0, .null, []), (60, .ireturn, 1, 0, 0, .null, [])]
/-- SmallerInTheShop turn (III)I -/
def mp_100 : List (Nat × mm_I) := [(0, .iload_n 1, 1, 0, 0, .null, []), (1, .bipush 10, 2, 0, 0, .null, []), (3, .invokestatic 79, 3, 89, 2, .null, [444, 0, 445, 55]), (6, .ifCond .ne 9, 3, 15, 0, .null, []), (9, .aload_n 0, 1, 0, 0, .null, []), (10, .iconst (-1), 1, 0, 0, .null, []),
  (11, .invokevirtual 58, 3, 84, 2, .null, [258, 0, 260, 55, 0]), (14, .ireturn, 1, 0, 0, .null, []), (15, .iload_n 2, 1, 0, 0, .null, []), (16, .bipush 6, 2, 0, 0, .null, []), (18, .invokestatic 79, 3, 89, 2, .null, [444, 0, 445, 55]), (21, .ifCond .ne 10, 3, 31, 0, .null, []),
  (24, .aload_n 0, 1, 0, 0, .null, []), (25, .bipush (-2), 2, 0, 0, .null, []), (27, .invokevirtual 58, 3, 84, 2, .null, [258, 0, 260, 55, 0]), (30, .ireturn, 1, 0, 0, .null, []), (31, .iload_n 3, 1, 0, 0, .null, []), (32, .ifCond .ge 10, 3, 42, 0, .null, []),
  (35, .aload_n 0, 1, 0, 0, .null, []), (36, .bipush (-4), 2, 0, 0, .null, []), (38, .invokevirtual 58, 3, 84, 2, .null, [258, 0, 260, 55, 0]), (41, .ireturn, 1, 0, 0, .null, []), (42, .iload_n 3, 1, 0, 0, .null, []), (43, .bipush 9, 2, 0, 0, .null, []),
  (45, .if_icmp .le 10, 3, 55, 0, .null, []), (48, .aload_n 0, 1, 0, 0, .null, []), (49, .bipush (-6), 2, 0, 0, .null, []), (51, .invokevirtual 58, 3, 84, 2, .null, [258, 0, 260, 55, 0]), (54, .ireturn, 1, 0, 0, .null, []), (55, .bipush 10, 2, 0, 0, .null, []),
  (57, .aload_n 0, 1, 0, 0, .null, []), (58, .getfield 10, 3, 5, 0, .null, [223, 0]), (61, .getfield 83, 3, 4, 1, .null, [135, 1]), (64, .iload_n 1, 1, 0, 0, .null, []), (65, .iaload, 1, 0, 0, .null, []), (66, .imul, 1, 0, 0, .null, []),
  (67, .aload_n 0, 1, 0, 0, .null, []), (68, .getfield 10, 3, 5, 0, .null, [223, 0]), (71, .getfield 86, 3, 4, 2, .null, [137, 1]), (74, .iload_n 1, 1, 0, 0, .null, []), (75, .iaload, 1, 0, 0, .null, []), (76, .iadd, 1, 0, 0, .null, []),
  (77, .istore 4, 2, 0, 0, .null, []), (79, .aload_n 0, 1, 0, 0, .null, []), (80, .getfield 10, 3, 5, 0, .null, [223, 0]), (83, .getfield 83, 3, 4, 1, .null, [135, 1]), (86, .iload_n 1, 1, 0, 0, .null, []), (87, .iload_n 2, 1, 0, 0, .null, []),
  (88, .iastore, 1, 0, 0, .null, []), (89, .aload_n 0, 1, 0, 0, .null, []), (90, .getfield 10, 3, 5, 0, .null, [223, 0]), (93, .getfield 86, 3, 4, 2, .null, [137, 1]), (96, .iload_n 1, 1, 0, 0, .null, []), (97, .iload_n 3, 1, 0, 0, .null, []),
  (98, .iastore, 1, 0, 0, .null, []), (99, .iload 4, 2, 0, 0, .null, []), (101, .ireturn, 1, 0, 0, .null, [])]
/-- SmallerInTheShop cover (I)I -/
def mp_101 : List (Nat × mm_I) := [(0, .iload_n 1, 1, 0, 0, .null, []), (1, .bipush 8, 2, 0, 0, .null, []), (3, .invokestatic 79, 3, 89, 2, .null, [444, 0, 445, 55]), (6, .ifCond .ne 9, 3, 15, 0, .null, []), (9, .aload_n 0, 1, 0, 0, .null, []), (10, .iconst (-1), 1, 0, 0, .null, []),
  (11, .invokevirtual 58, 3, 84, 2, .null, [258, 0, 260, 55, 0]), (14, .ireturn, 1, 0, 0, .null, []), (15, .aload_n 0, 1, 0, 0, .null, []), (16, .getfield 10, 3, 5, 0, .null, [223, 0]), (19, .getfield 140, 3, 4, 5, .null, [144, 1]), (22, .istore_n 2, 1, 0, 0, .null, []),
  (23, .aload_n 0, 1, 0, 0, .null, []), (24, .getfield 10, 3, 5, 0, .null, [223, 0]), (27, .iload_n 1, 1, 0, 0, .null, []), (28, .putfield 140, 3, 4, 5, .null, [144, 1]), (31, .iload_n 2, 1, 0, 0, .null, []), (32, .ireturn, 1, 0, 0, .null, [])]
/-- SmallerInTheShop hurts (III)I -/
def mp_102 : List (Nat × mm_I) := [(0, .aload_n 0, 1, 0, 0, .null, []), (1, .iload_n 1, 1, 0, 0, .null, []), (2, .iload_n 2, 1, 0, 0, .null, []), (3, .invokevirtual 128, 3, 97, 3, .null, [578, 0, 580, 55, 15]), (6, .istore 4, 2, 0, 0, .null, []), (8, .iload 4, 2, 0, 0, .null, []),
  (10, .ifCond .ge 10, 3, 20, 0, .null, []), (13, .aload_n 0, 1, 0, 0, .null, []), (14, .iload 4, 2, 0, 0, .null, []), (16, .invokevirtual 58, 3, 84, 2, .null, [258, 0, 260, 55, 0]), (19, .ireturn, 1, 0, 0, .null, []), (20, .iload_n 3, 1, 0, 0, .null, []),
  (21, .iconst 3, 1, 0, 0, .null, []), (22, .invokestatic 79, 3, 89, 2, .null, [444, 0, 445, 55]), (25, .ifCond .ne 10, 3, 35, 0, .null, []), (28, .aload_n 0, 1, 0, 0, .null, []), (29, .bipush (-2), 2, 0, 0, .null, []), (31, .invokevirtual 58, 3, 84, 2, .null, [258, 0, 260, 55, 0]),
  (34, .ireturn, 1, 0, 0, .null, []), (35, .aload_n 0, 1, 0, 0, .null, []), (36, .getfield 10, 3, 5, 0, .null, [223, 0]), (39, .aload_n 0, 1, 0, 0, .null, []), (40, .getfield 10, 3, 5, 0, .null, [223, 0]), (43, .getfield 137, 3, 4, 4, .null, [142, 1]),
  (46, .iload_n 1, 1, 0, 0, .null, []), (47, .iload_n 2, 1, 0, 0, .null, []), (48, .invokevirtual 143, 3, 71, 4, .null, [602, 0, 468, 56, 469]), (51, .istore 5, 2, 0, 0, .null, []), (53, .iload_n 3, 1, 0, 0, .null, []), (54, .ifCond .ne 6, 3, 60, 0, .null, []),
  (57, .iload 5, 2, 0, 0, .null, []), (59, .ireturn, 1, 0, 0, .null, []), (60, .aload_n 0, 1, 0, 0, .null, []), (61, .getfield 10, 3, 5, 0, .null, [223, 0]), (64, .getfield 147, 3, 4, 0, .null, [133, 1]), (67, .aload_n 0, 1, 0, 0, .null, []),
  (68, .getfield 10, 3, 5, 0, .null, [223, 0]), (71, .getfield 137, 3, 4, 4, .null, [142, 1]), (74, .iconst 1, 1, 0, 0, .null, []), (75, .iadd, 1, 0, 0, .null, []), (76, .aaload, 1, 0, 0, .null, []), (77, .astore 6, 2, 0, 0, .null, []),
  (79, .iload_n 3, 1, 0, 0, .null, []), (80, .iconst 1, 1, 0, 0, .null, []), (81, .if_icmp .ne 11, 3, 92, 0, .null, []), (84, .aload 6, 2, 0, 0, .null, []), (86, .getfield 151, 3, 1, 8, .null, [110, 1]), (89, .goto 12, 3, 101, 0, .null, []),
  (92, .aload_n 0, 1, 0, 0, .null, []), (93, .getfield 10, 3, 5, 0, .null, [223, 0]), (96, .aload 6, 2, 0, 0, .null, []), (98, .invokevirtual 154, 3, 77, 2, .null, [603, 0, 604, 56, 605]), (101, .ireturn, 1, 0, 0, .null, [])]
/-- SmallerInTheShop over (II)I -/
def mp_103 : List (Nat × mm_I) := [(0, .iload_n 1, 1, 0, 0, .null, []), (1, .iload_n 2, 1, 0, 0, .null, []), (2, .invokestatic 158, 3, 104, 2, .null, [611, 0, 612, 55]), (5, .ifCond .ne 9, 3, 14, 0, .null, []), (8, .aload_n 0, 1, 0, 0, .null, []), (9, .iconst (-1), 1, 0, 0, .null, []),
  (10, .invokevirtual 58, 3, 84, 2, .null, [258, 0, 260, 55, 0]), (13, .ireturn, 1, 0, 0, .null, []), (14, .aload_n 0, 1, 0, 0, .null, []), (15, .getfield 10, 3, 5, 0, .null, [223, 0]), (18, .invokevirtual 92, 3, 73, 1, .null, [556, 0, 520, 56, 521]), (21, .iload_n 1, 1, 0, 0, .null, []),
  (22, .iload_n 2, 1, 0, 0, .null, []), (23, .invokevirtual 161, 3, 33, 3, .null, [614, 0, 615, 57, 616]), (26, .invokestatic 121, 3, 95, 1, .null, [570, 0, 571, 55]), (29, .ireturn, 1, 0, 0, .null, [])]
/-- SmallerInTheShop arePair (II)Z -/
def mp_104 : List (Nat × mm_I) := [(0, .iload_n 0, 1, 0, 0, .null, []), (1, .bipush 8, 2, 0, 0, .null, []), (3, .invokestatic 79, 3, 89, 2, .null, [444, 0, 445, 55]), (6, .ifCond .eq 21, 3, 27, 0, .null, []), (9, .iload_n 1, 1, 0, 0, .null, []), (10, .bipush 8, 2, 0, 0, .null, []),
  (12, .invokestatic 79, 3, 89, 2, .null, [444, 0, 445, 55]), (15, .ifCond .eq 12, 3, 27, 0, .null, []), (18, .iload_n 0, 1, 0, 0, .null, []), (19, .iload_n 1, 1, 0, 0, .null, []), (20, .if_icmp .eq 7, 3, 27, 0, .null, []), (23, .iconst 1, 1, 0, 0, .null, []),
  (24, .goto 4, 3, 28, 0, .null, []), (27, .iconst 0, 1, 0, 0, .null, []), (28, .ireturn, 1, 0, 0, .null, [])]
/-- SmallerInTheShop wad (I)I -/
def mp_105 : List (Nat × mm_I) := [(0, .aload_n 0, 1, 0, 0, .null, []), (1, .getfield 10, 3, 5, 0, .null, [223, 0]), (4, .invokevirtual 92, 3, 73, 1, .null, [556, 0, 520, 56, 521]), (7, .astore_n 2, 1, 0, 0, .null, []), (8, .iload_n 1, 1, 0, 0, .null, []), (9, .tableswitch 95 0 6 #[43, 48, 53, 58, 63, 78, 86], 43, 0, 0, .null, []),
  (52, .aload_n 2, 1, 0, 0, .null, []), (53, .getfield 164, 3, 1, 6, .null, [105, 1]), (56, .ireturn, 1, 0, 0, .null, []), (57, .aload_n 2, 1, 0, 0, .null, []), (58, .getfield 167, 3, 1, 7, .null, [107, 1]), (61, .ireturn, 1, 0, 0, .null, []),
  (62, .aload_n 2, 1, 0, 0, .null, []), (63, .invokevirtual 170, 3, 34, 1, .null, [622, 0, 623, 57, 624]), (66, .ireturn, 1, 0, 0, .null, []), (67, .aload_n 2, 1, 0, 0, .null, []), (68, .invokevirtual 173, 3, 35, 1, .null, [626, 0, 627, 57, 628]), (71, .ireturn, 1, 0, 0, .null, []),
  (72, .aload_n 2, 1, 0, 0, .null, []), (73, .aload_n 0, 1, 0, 0, .null, []), (74, .getfield 10, 3, 5, 0, .null, [223, 0]), (77, .getfield 140, 3, 4, 5, .null, [144, 1]), (80, .invokevirtual 176, 3, 36, 2, .null, [631, 0, 632, 57, 633]), (83, .invokestatic 121, 3, 95, 1, .null, [570, 0, 571, 55]),
  (86, .ireturn, 1, 0, 0, .null, []), (87, .aload_n 0, 1, 0, 0, .null, []), (88, .getfield 10, 3, 5, 0, .null, [223, 0]), (91, .getfield 137, 3, 4, 4, .null, [142, 1]), (94, .ireturn, 1, 0, 0, .null, []), (95, .sipush 1023, 3, 0, 0, .null, []),
  (98, .aload_n 2, 1, 0, 0, .null, []), (99, .invokevirtual 179, 3, 37, 1, .null, [635, 0, 636, 57, 637]), (102, .isub, 1, 0, 0, .null, []), (103, .ireturn, 1, 0, 0, .null, []), (104, .aload_n 0, 1, 0, 0, .null, []), (105, .bipush (-2), 2, 0, 0, .null, []),
  (107, .invokevirtual 58, 3, 84, 2, .null, [258, 0, 260, 55, 0]), (110, .ireturn, 1, 0, 0, .null, [])]
/-- SmallerInTheShop shut (I)I -/
def mp_106 : List (Nat × mm_I) := [(0, .iload_n 1, 1, 0, 0, .null, []), (1, .iconst 3, 1, 0, 0, .null, []), (2, .invokestatic 79, 3, 89, 2, .null, [444, 0, 445, 55]), (5, .ifCond .ne 10, 3, 15, 0, .null, []), (8, .aload_n 0, 1, 0, 0, .null, []), (9, .bipush (-2), 2, 0, 0, .null, []),
  (11, .invokevirtual 58, 3, 84, 2, .null, [258, 0, 260, 55, 0]), (14, .ireturn, 1, 0, 0, .null, []), (15, .aload_n 0, 1, 0, 0, .null, []), (16, .getfield 25, 3, 5, 3, .null, [226, 0]), (19, .iload_n 1, 1, 0, 0, .null, []), (20, .iconst 2, 1, 0, 0, .null, []),
  (21, .if_icmp .ne 7, 3, 28, 0, .null, []), (24, .iconst 1, 1, 0, 0, .null, []), (25, .goto 4, 3, 29, 0, .null, []), (28, .iconst 0, 1, 0, 0, .null, []), (29, .invokevirtual 182, 3, 54, 2, .null, [643, 0, 644, 58, 645]), (32, .aload_n 0, 1, 0, 0, .null, []),
  (33, .getfield 25, 3, 5, 3, .null, [226, 0]), (36, .aload_n 0, 1, 0, 0, .null, []), (37, .getfield 10, 3, 5, 0, .null, [223, 0]), (40, .invokevirtual 186, 3, 55, 2, .null, [647, 0, 648, 58, 649]), (43, .iload_n 1, 1, 0, 0, .null, []), (44, .ifCond .ne 13, 3, 57, 0, .null, []),
  (47, .aload_n 0, 1, 0, 0, .null, []), (48, .getfield 25, 3, 5, 3, .null, [226, 0]), (51, .invokevirtual 190, 3, 63, 1, .null, [697, 0, 698, 58, 699]), (54, .goto 10, 3, 64, 0, .null, []), (57, .aload_n 0, 1, 0, 0, .null, []), (58, .getfield 25, 3, 5, 3, .null, [226, 0]),
  (61, .invokevirtual 193, 3, 64, 1, .null, [701, 0, 702, 58, 703]), (64, .ireturn, 1, 0, 0, .null, [])]
/-- SmallerInTheShop ways (I)I -/
def mp_107 : List (Nat × mm_I) := [(0, .iload_n 1, 1, 0, 0, .null, []), (1, .ifCond .ge 10, 3, 11, 0, .null, []), (4, .aload_n 0, 1, 0, 0, .null, []), (5, .bipush (-4), 2, 0, 0, .null, []), (7, .invokevirtual 58, 3, 84, 2, .null, [258, 0, 260, 55, 0]), (10, .ireturn, 1, 0, 0, .null, []),
  (11, .iload_n 1, 1, 0, 0, .null, []), (12, .iconst 4, 1, 0, 0, .null, []), (13, .if_icmp .le 10, 3, 23, 0, .null, []), (16, .aload_n 0, 1, 0, 0, .null, []), (17, .bipush (-6), 2, 0, 0, .null, []), (19, .invokevirtual 58, 3, 84, 2, .null, [258, 0, 260, 55, 0]),
  (22, .ireturn, 1, 0, 0, .null, []), (23, .aload_n 0, 1, 0, 0, .null, []), (24, .getfield 25, 3, 5, 3, .null, [226, 0]), (27, .iconst 1, 1, 0, 0, .null, []), (28, .invokevirtual 182, 3, 54, 2, .null, [643, 0, 644, 58, 645]), (31, .aload_n 0, 1, 0, 0, .null, []),
  (32, .getfield 25, 3, 5, 3, .null, [226, 0]), (35, .aload_n 0, 1, 0, 0, .null, []), (36, .getfield 10, 3, 5, 0, .null, [223, 0]), (39, .invokevirtual 186, 3, 55, 2, .null, [647, 0, 648, 58, 649]), (42, .aload_n 0, 1, 0, 0, .null, []), (43, .getfield 25, 3, 5, 3, .null, [226, 0]),
  (46, .iload_n 1, 1, 0, 0, .null, []), (47, .invokevirtual 196, 3, 65, 2, .null, [709, 0, 710, 58, 711]), (50, .ireturn, 1, 0, 0, .null, [])]
/-- SmallerInTheShop up (IIII)I -/
def mp_108 : List (Nat × mm_I) := [(0, .iload_n 1, 1, 0, 0, .null, []), (1, .iload_n 2, 1, 0, 0, .null, []), (2, .invokestatic 158, 3, 104, 2, .null, [611, 0, 612, 55]), (5, .ifCond .ne 9, 3, 14, 0, .null, []), (8, .aload_n 0, 1, 0, 0, .null, []), (9, .iconst (-1), 1, 0, 0, .null, []),
  (10, .invokevirtual 58, 3, 84, 2, .null, [258, 0, 260, 55, 0]), (13, .ireturn, 1, 0, 0, .null, []), (14, .iload_n 3, 1, 0, 0, .null, []), (15, .iconst 1, 1, 0, 0, .null, []), (16, .if_icmp .ge 10, 3, 26, 0, .null, []), (19, .aload_n 0, 1, 0, 0, .null, []),
  (20, .bipush (-4), 2, 0, 0, .null, []), (22, .invokevirtual 58, 3, 84, 2, .null, [258, 0, 260, 55, 0]), (25, .ireturn, 1, 0, 0, .null, []), (26, .iload_n 3, 1, 0, 0, .null, []), (27, .bipush 8, 2, 0, 0, .null, []), (29, .if_icmp .le 10, 3, 39, 0, .null, []),
  (32, .aload_n 0, 1, 0, 0, .null, []), (33, .bipush (-6), 2, 0, 0, .null, []), (35, .invokevirtual 58, 3, 84, 2, .null, [258, 0, 260, 55, 0]), (38, .ireturn, 1, 0, 0, .null, []), (39, .iload 4, 2, 0, 0, .null, []), (41, .iconst 2, 1, 0, 0, .null, []),
  (42, .invokestatic 79, 3, 89, 2, .null, [444, 0, 445, 55]), (45, .ifCond .ne 10, 3, 55, 0, .null, []), (48, .aload_n 0, 1, 0, 0, .null, []), (49, .bipush (-2), 2, 0, 0, .null, []), (51, .invokevirtual 58, 3, 84, 2, .null, [258, 0, 260, 55, 0]), (54, .ireturn, 1, 0, 0, .null, []),
  (55, .aload_n 0, 1, 0, 0, .null, []), (56, .getfield 25, 3, 5, 3, .null, [226, 0]), (59, .iconst 2, 1, 0, 0, .null, []), (60, .invokevirtual 182, 3, 54, 2, .null, [643, 0, 644, 58, 645]), (63, .aload_n 0, 1, 0, 0, .null, []), (64, .getfield 25, 3, 5, 3, .null, [226, 0]),
  (67, .iload_n 3, 1, 0, 0, .null, []), (68, .putfield 199, 3, 3, 3, .null, [170, 1]), (71, .aload_n 0, 1, 0, 0, .null, []), (72, .getfield 25, 3, 5, 3, .null, [226, 0]), (75, .iconst 1, 1, 0, 0, .null, []), (76, .iload_n 1, 1, 0, 0, .null, []),
  (77, .ishl, 1, 0, 0, .null, []), (78, .iconst 1, 1, 0, 0, .null, []), (79, .iload_n 2, 1, 0, 0, .null, []), (80, .ishl, 1, 0, 0, .null, []), (81, .ior, 1, 0, 0, .null, []), (82, .putfield 202, 3, 3, 4, .null, [172, 1]),
  (85, .aload_n 0, 1, 0, 0, .null, []), (86, .getfield 25, 3, 5, 3, .null, [226, 0]), (89, .aload_n 0, 1, 0, 0, .null, []), (90, .getfield 10, 3, 5, 0, .null, [223, 0]), (93, .invokevirtual 186, 3, 55, 2, .null, [647, 0, 648, 58, 649]), (96, .iload 4, 2, 0, 0, .null, []),
  (98, .ifCond .ne 13, 3, 111, 0, .null, []), (101, .aload_n 0, 1, 0, 0, .null, []), (102, .getfield 25, 3, 5, 3, .null, [226, 0]), (105, .invokevirtual 190, 3, 63, 1, .null, [697, 0, 698, 58, 699]), (108, .goto 10, 3, 118, 0, .null, []), (111, .aload_n 0, 1, 0, 0, .null, []),
  (112, .getfield 25, 3, 5, 3, .null, [226, 0]), (115, .invokevirtual 193, 3, 64, 1, .null, [701, 0, 702, 58, 703]), (118, .ireturn, 1, 0, 0, .null, [])]
/-- SmallerInTheShop most (III)I -/
def mp_109 : List (Nat × mm_I) := [(0, .iload_n 1, 1, 0, 0, .null, []), (1, .ifCond .lt 8, 3, 9, 0, .null, []), (4, .iload_n 2, 1, 0, 0, .null, []), (5, .iconst 1, 1, 0, 0, .null, []), (6, .if_icmp .ge 10, 3, 16, 0, .null, []), (9, .aload_n 0, 1, 0, 0, .null, []),
  (10, .bipush (-4), 2, 0, 0, .null, []), (12, .invokevirtual 58, 3, 84, 2, .null, [258, 0, 260, 55, 0]), (15, .ireturn, 1, 0, 0, .null, []), (16, .iload_n 1, 1, 0, 0, .null, []), (17, .sipush 255, 3, 0, 0, .null, []), (20, .if_icmp .gt 9, 3, 29, 0, .null, []),
  (23, .iload_n 2, 1, 0, 0, .null, []), (24, .bipush 8, 2, 0, 0, .null, []), (26, .if_icmp .le 10, 3, 36, 0, .null, []), (29, .aload_n 0, 1, 0, 0, .null, []), (30, .bipush (-6), 2, 0, 0, .null, []), (32, .invokevirtual 58, 3, 84, 2, .null, [258, 0, 260, 55, 0]),
  (35, .ireturn, 1, 0, 0, .null, []), (36, .iload_n 3, 1, 0, 0, .null, []), (37, .iconst 2, 1, 0, 0, .null, []), (38, .invokestatic 79, 3, 89, 2, .null, [444, 0, 445, 55]), (41, .ifCond .ne 10, 3, 51, 0, .null, []), (44, .aload_n 0, 1, 0, 0, .null, []),
  (45, .bipush (-2), 2, 0, 0, .null, []), (47, .invokevirtual 58, 3, 84, 2, .null, [258, 0, 260, 55, 0]), (50, .ireturn, 1, 0, 0, .null, []), (51, .aload_n 0, 1, 0, 0, .null, []), (52, .getfield 25, 3, 5, 3, .null, [226, 0]), (55, .iconst 3, 1, 0, 0, .null, []),
  (56, .invokevirtual 182, 3, 54, 2, .null, [643, 0, 644, 58, 645]), (59, .aload_n 0, 1, 0, 0, .null, []), (60, .getfield 25, 3, 5, 3, .null, [226, 0]), (63, .iload_n 2, 1, 0, 0, .null, []), (64, .putfield 199, 3, 3, 3, .null, [170, 1]), (67, .aload_n 0, 1, 0, 0, .null, []),
  (68, .getfield 25, 3, 5, 3, .null, [226, 0]), (71, .iload_n 1, 1, 0, 0, .null, []), (72, .putfield 202, 3, 3, 4, .null, [172, 1]), (75, .aload_n 0, 1, 0, 0, .null, []), (76, .getfield 25, 3, 5, 3, .null, [226, 0]), (79, .aload_n 0, 1, 0, 0, .null, []),
  (80, .getfield 10, 3, 5, 0, .null, [223, 0]), (83, .invokevirtual 186, 3, 55, 2, .null, [647, 0, 648, 58, 649]), (86, .iload_n 3, 1, 0, 0, .null, []), (87, .iconst 1, 1, 0, 0, .null, []), (88, .if_icmp .eq 13, 3, 101, 0, .null, []), (91, .aload_n 0, 1, 0, 0, .null, []),
  (92, .getfield 25, 3, 5, 3, .null, [226, 0]), (95, .getfield 205, 3, 3, 5, .null, [174, 1]), (98, .ifCond .ne 11, 3, 109, 0, .null, []), (101, .aload_n 0, 1, 0, 0, .null, []), (102, .getfield 25, 3, 5, 3, .null, [226, 0]), (105, .invokevirtual 190, 3, 63, 1, .null, [697, 0, 698, 58, 699]),
  (108, .ireturn, 1, 0, 0, .null, []), (109, .bipush 8, 2, 0, 0, .null, []), (111, .aload_n 0, 1, 0, 0, .null, []), (112, .getfield 25, 3, 5, 3, .null, [226, 0]), (115, .invokevirtual 193, 3, 64, 1, .null, [701, 0, 702, 58, 703]), (118, .isub, 1, 0, 0, .null, []),
  (119, .ireturn, 1, 0, 0, .null, [])]
/-- SmallerInTheShop layers ()I -/
def mp_110 : List (Nat × mm_I) := [(0, .aload_n 0, 1, 0, 0, .null, []), (1, .invokevirtual 208, 3, 111, 1, .null, [725, 0, 727, 55, 23]), (4, .ifCond .ne 6, 3, 10, 0, .null, []), (7, .bipush (-9), 2, 0, 0, .null, []), (9, .ireturn, 1, 0, 0, .null, []), (10, .aload_n 0, 1, 0, 0, .null, []),
  (11, .getfield 25, 3, 5, 3, .null, [226, 0]), (14, .iconst 4, 1, 0, 0, .null, []), (15, .invokevirtual 182, 3, 54, 2, .null, [643, 0, 644, 58, 645]), (18, .iconst 0, 1, 0, 0, .null, []), (19, .istore_n 1, 1, 0, 0, .null, []), (20, .iload_n 1, 1, 0, 0, .null, []),
  (21, .bipush 8, 2, 0, 0, .null, []), (23, .if_icmp .ge 27, 3, 50, 0, .null, []), (26, .aload_n 0, 1, 0, 0, .null, []), (27, .getfield 25, 3, 5, 3, .null, [226, 0]), (30, .getfield 211, 3, 3, 0, .null, [166, 1]), (33, .aload_n 0, 1, 0, 0, .null, []),
  (34, .getfield 43, 3, 5, 6, .null, [229, 0]), (37, .iload_n 1, 1, 0, 0, .null, []), (38, .iaload, 1, 0, 0, .null, []), (39, .bipush 7, 2, 0, 0, .null, []), (41, .iload_n 1, 1, 0, 0, .null, []), (42, .isub, 1, 0, 0, .null, []),
  (43, .iastore, 1, 0, 0, .null, []), (44, .iinc 1 1, 3, 0, 0, .null, []), (47, .goto (-27), 3, 20, 0, .null, []), (50, .aload_n 0, 1, 0, 0, .null, []), (51, .getfield 25, 3, 5, 3, .null, [226, 0]), (54, .aload_n 0, 1, 0, 0, .null, []),
  (55, .getfield 10, 3, 5, 0, .null, [223, 0]), (58, .invokevirtual 186, 3, 55, 2, .null, [647, 0, 648, 58, 649]), (61, .aload_n 0, 1, 0, 0, .null, []), (62, .getfield 25, 3, 5, 3, .null, [226, 0]), (65, .invokevirtual 190, 3, 63, 1, .null, [697, 0, 698, 58, 699]), (68, .ireturn, 1, 0, 0, .null, [])]
/-- SmallerInTheShop tellsAllPanels ()Z -/
def mp_111 : List (Nat × mm_I) := [(0, .aload_n 0, 1, 0, 0, .null, []), (1, .getfield 50, 3, 5, 8, .null, [231, 0]), (4, .bipush 8, 2, 0, 0, .null, []), (6, .if_icmp .eq 5, 3, 11, 0, .null, []), (9, .iconst 0, 1, 0, 0, .null, []), (10, .ireturn, 1, 0, 0, .null, []),
  (11, .iconst 0, 1, 0, 0, .null, []), (12, .istore_n 1, 1, 0, 0, .null, []), (13, .iconst 0, 1, 0, 0, .null, []), (14, .istore_n 2, 1, 0, 0, .null, []), (15, .iload_n 2, 1, 0, 0, .null, []), (16, .bipush 8, 2, 0, 0, .null, []),
  (18, .if_icmp .ge 36, 3, 54, 0, .null, []), (21, .aload_n 0, 1, 0, 0, .null, []), (22, .getfield 43, 3, 5, 6, .null, [229, 0]), (25, .iload_n 2, 1, 0, 0, .null, []), (26, .iaload, 1, 0, 0, .null, []), (27, .bipush 8, 2, 0, 0, .null, []),
  (29, .invokestatic 79, 3, 89, 2, .null, [444, 0, 445, 55]), (32, .ifCond .ne 5, 3, 37, 0, .null, []), (35, .iconst 0, 1, 0, 0, .null, []), (36, .ireturn, 1, 0, 0, .null, []), (37, .iload_n 1, 1, 0, 0, .null, []), (38, .iconst 1, 1, 0, 0, .null, []),
  (39, .aload_n 0, 1, 0, 0, .null, []), (40, .getfield 43, 3, 5, 6, .null, [229, 0]), (43, .iload_n 2, 1, 0, 0, .null, []), (44, .iaload, 1, 0, 0, .null, []), (45, .ishl, 1, 0, 0, .null, []), (46, .ior, 1, 0, 0, .null, []),
  (47, .istore_n 1, 1, 0, 0, .null, []), (48, .iinc 2 1, 3, 0, 0, .null, []), (51, .goto (-36), 3, 15, 0, .null, []), (54, .iload_n 1, 1, 0, 0, .null, []), (55, .sipush 255, 3, 0, 0, .null, []), (58, .if_icmp .ne 7, 3, 65, 0, .null, []),
  (61, .iconst 1, 1, 0, 0, .null, []), (62, .goto 4, 3, 66, 0, .null, []), (65, .iconst 0, 1, 0, 0, .null, []), (66, .ireturn, 1, 0, 0, .null, [])]
/-- SmallerInTheShop lasts (II)I -/
def mp_112 : List (Nat × mm_I) := [(0, .aload_n 0, 1, 0, 0, .null, []), (1, .iload_n 1, 1, 0, 0, .null, []), (2, .iload_n 2, 1, 0, 0, .null, []), (3, .invokevirtual 128, 3, 97, 3, .null, [578, 0, 580, 55, 15]), (6, .istore_n 3, 1, 0, 0, .null, []), (7, .iload_n 3, 1, 0, 0, .null, []),
  (8, .ifCond .ge 9, 3, 17, 0, .null, []), (11, .aload_n 0, 1, 0, 0, .null, []), (12, .iload_n 3, 1, 0, 0, .null, []), (13, .invokevirtual 58, 3, 84, 2, .null, [258, 0, 260, 55, 0]), (16, .ireturn, 1, 0, 0, .null, []), (17, .aload_n 0, 1, 0, 0, .null, []),
  (18, .getfield 10, 3, 5, 0, .null, [223, 0]), (21, .aload_n 0, 1, 0, 0, .null, []), (22, .getfield 10, 3, 5, 0, .null, [223, 0]), (25, .getfield 137, 3, 4, 4, .null, [142, 1]), (28, .iload_n 1, 1, 0, 0, .null, []), (29, .iload_n 2, 1, 0, 0, .null, []),
  (30, .invokevirtual 143, 3, 71, 4, .null, [602, 0, 468, 56, 469]), (33, .pop, 1, 0, 0, .null, []), (34, .aload_n 0, 1, 0, 0, .null, []), (35, .getfield 19, 3, 5, 2, .null, [225, 0]), (38, .aload_n 0, 1, 0, 0, .null, []), (39, .getfield 10, 3, 5, 0, .null, [223, 0]),
  (42, .invokevirtual 214, 3, 68, 2, .null, [733, 0, 420, 56, 421]), (45, .aload_n 0, 1, 0, 0, .null, []), (46, .getfield 19, 3, 5, 2, .null, [225, 0]), (49, .aload_n 0, 1, 0, 0, .null, []), (50, .getfield 10, 3, 5, 0, .null, [223, 0]), (53, .getfield 147, 3, 4, 0, .null, [133, 1]),
  (56, .aload_n 0, 1, 0, 0, .null, []), (57, .getfield 10, 3, 5, 0, .null, [223, 0]), (60, .getfield 137, 3, 4, 4, .null, [142, 1]), (63, .iconst 1, 1, 0, 0, .null, []), (64, .iadd, 1, 0, 0, .null, []), (65, .aaload, 1, 0, 0, .null, []),
  (66, .invokevirtual 217, 3, 78, 2, .null, [734, 0, 735, 56, 736]), (69, .ireturn, 1, 0, 0, .null, [])]
/-- SmallerInTheShop tape (II)I -/
def mp_113 : List (Nat × mm_I) := [(0, .aload_n 0, 1, 0, 0, .null, []), (1, .iload_n 1, 1, 0, 0, .null, []), (2, .iload_n 2, 1, 0, 0, .null, []), (3, .invokevirtual 128, 3, 97, 3, .null, [578, 0, 580, 55, 15]), (6, .istore_n 3, 1, 0, 0, .null, []), (7, .iload_n 3, 1, 0, 0, .null, []),
  (8, .ifCond .ge 9, 3, 17, 0, .null, []), (11, .aload_n 0, 1, 0, 0, .null, []), (12, .iload_n 3, 1, 0, 0, .null, []), (13, .invokevirtual 58, 3, 84, 2, .null, [258, 0, 260, 55, 0]), (16, .ireturn, 1, 0, 0, .null, []), (17, .aload_n 0, 1, 0, 0, .null, []),
  (18, .getfield 10, 3, 5, 0, .null, [223, 0]), (21, .aload_n 0, 1, 0, 0, .null, []), (22, .getfield 10, 3, 5, 0, .null, [223, 0]), (25, .getfield 137, 3, 4, 4, .null, [142, 1]), (28, .iload_n 1, 1, 0, 0, .null, []), (29, .iload_n 2, 1, 0, 0, .null, []),
  (30, .invokevirtual 143, 3, 71, 4, .null, [602, 0, 468, 56, 469]), (33, .pop, 1, 0, 0, .null, []), (34, .aload_n 0, 1, 0, 0, .null, []), (35, .getfield 10, 3, 5, 0, .null, [223, 0]), (38, .getfield 147, 3, 4, 0, .null, [133, 1]), (41, .aload_n 0, 1, 0, 0, .null, []),
  (42, .getfield 10, 3, 5, 0, .null, [223, 0]), (45, .getfield 137, 3, 4, 4, .null, [142, 1]), (48, .iconst 1, 1, 0, 0, .null, []), (49, .iadd, 1, 0, 0, .null, []), (50, .aaload, 1, 0, 0, .null, []), (51, .astore 4, 2, 0, 0, .null, []),
  (53, .aload_n 0, 1, 0, 0, .null, []), (54, .getfield 19, 3, 5, 2, .null, [225, 0]), (57, .aload_n 0, 1, 0, 0, .null, []), (58, .getfield 10, 3, 5, 0, .null, [223, 0]), (61, .invokevirtual 214, 3, 68, 2, .null, [733, 0, 420, 56, 421]), (64, .aload_n 0, 1, 0, 0, .null, []),
  (65, .getfield 19, 3, 5, 2, .null, [225, 0]), (68, .aload 4, 2, 0, 0, .null, []), (70, .invokevirtual 217, 3, 78, 2, .null, [734, 0, 735, 56, 736]), (73, .istore 5, 2, 0, 0, .null, []), (75, .bipush (-9), 2, 0, 0, .null, []), (77, .istore 6, 2, 0, 0, .null, []),
  (79, .iconst 0, 1, 0, 0, .null, []), (80, .istore 7, 2, 0, 0, .null, []), (82, .iload 7, 2, 0, 0, .null, []), (84, .bipush 10, 2, 0, 0, .null, []), (86, .if_icmp .ge 57, 3, 143, 0, .null, []), (89, .aload_n 0, 1, 0, 0, .null, []),
  (90, .getfield 19, 3, 5, 2, .null, [225, 0]), (93, .aload_n 0, 1, 0, 0, .null, []), (94, .getfield 10, 3, 5, 0, .null, [223, 0]), (97, .invokevirtual 214, 3, 68, 2, .null, [733, 0, 420, 56, 421]), (100, .aload_n 0, 1, 0, 0, .null, []), (101, .getfield 19, 3, 5, 2, .null, [225, 0]),
  (104, .getfield 83, 3, 4, 1, .null, [135, 1]), (107, .iload 7, 2, 0, 0, .null, []), (109, .iconst 4, 1, 0, 0, .null, []), (110, .iastore, 1, 0, 0, .null, []), (111, .aload_n 0, 1, 0, 0, .null, []), (112, .getfield 19, 3, 5, 2, .null, [225, 0]),
  (115, .aload 4, 2, 0, 0, .null, []), (117, .invokevirtual 217, 3, 78, 2, .null, [734, 0, 735, 56, 736]), (120, .istore 8, 2, 0, 0, .null, []), (122, .iload 8, 2, 0, 0, .null, []), (124, .iload 5, 2, 0, 0, .null, []), (126, .if_icmp .le 11, 3, 137, 0, .null, []),
  (129, .iload 8, 2, 0, 0, .null, []), (131, .istore 5, 2, 0, 0, .null, []), (133, .iload 7, 2, 0, 0, .null, []), (135, .istore 6, 2, 0, 0, .null, []), (137, .iinc 7 1, 3, 0, 0, .null, []), (140, .goto (-58), 3, 82, 0, .null, []),
  (143, .iload 6, 2, 0, 0, .null, []), (145, .ireturn, 1, 0, 0, .null, [])]
/-- SmallerInTheShop first (IIII)I -/
def mp_114 : List (Nat × mm_I) := [(0, .iload_n 1, 1, 0, 0, .null, []), (1, .invokestatic 220, 3, 115, 1, .null, [754, 0, 755, 55]), (4, .ifCond .eq 10, 3, 14, 0, .null, []), (7, .iload_n 3, 1, 0, 0, .null, []), (8, .invokestatic 220, 3, 115, 1, .null, [754, 0, 755, 55]), (11, .ifCond .ne 9, 3, 20, 0, .null, []),
  (14, .aload_n 0, 1, 0, 0, .null, []), (15, .iconst (-1), 1, 0, 0, .null, []), (16, .invokevirtual 58, 3, 84, 2, .null, [258, 0, 260, 55, 0]), (19, .ireturn, 1, 0, 0, .null, []), (20, .iload_n 2, 1, 0, 0, .null, []), (21, .iconst 4, 1, 0, 0, .null, []),
  (22, .invokestatic 79, 3, 89, 2, .null, [444, 0, 445, 55]), (25, .ifCond .eq 12, 3, 37, 0, .null, []), (28, .iload 4, 2, 0, 0, .null, []), (30, .iconst 4, 1, 0, 0, .null, []), (31, .invokestatic 79, 3, 89, 2, .null, [444, 0, 445, 55]), (34, .ifCond .ne 10, 3, 44, 0, .null, []),
  (37, .aload_n 0, 1, 0, 0, .null, []), (38, .bipush (-2), 2, 0, 0, .null, []), (40, .invokevirtual 58, 3, 84, 2, .null, [258, 0, 260, 55, 0]), (43, .ireturn, 1, 0, 0, .null, []), (44, .aload_n 0, 1, 0, 0, .null, []), (45, .iload_n 1, 1, 0, 0, .null, []),
  (46, .iload_n 2, 1, 0, 0, .null, []), (47, .iload_n 3, 1, 0, 0, .null, []), (48, .iload 4, 2, 0, 0, .null, []), (50, .invokevirtual 223, 3, 116, 5, .null, [757, 0, 759, 55, 24]), (53, .istore 5, 2, 0, 0, .null, []), (55, .aload_n 0, 1, 0, 0, .null, []),
  (56, .iload_n 3, 1, 0, 0, .null, []), (57, .iload 4, 2, 0, 0, .null, []), (59, .iload_n 1, 1, 0, 0, .null, []), (60, .iload_n 2, 1, 0, 0, .null, []), (61, .invokevirtual 223, 3, 116, 5, .null, [757, 0, 759, 55, 24]), (64, .istore 6, 2, 0, 0, .null, []),
  (66, .iload 5, 2, 0, 0, .null, []), (68, .iload 6, 2, 0, 0, .null, []), (70, .if_icmp .ne 6, 3, 76, 0, .null, []), (73, .bipush (-9), 2, 0, 0, .null, []), (75, .ireturn, 1, 0, 0, .null, []), (76, .iload 5, 2, 0, 0, .null, []),
  (78, .ifCond .ge 5, 3, 83, 0, .null, []), (81, .iconst 1, 1, 0, 0, .null, []), (82, .ireturn, 1, 0, 0, .null, []), (83, .iload 6, 2, 0, 0, .null, []), (85, .ifCond .lt 10, 3, 95, 0, .null, []), (88, .iload 5, 2, 0, 0, .null, []),
  (90, .iload 6, 2, 0, 0, .null, []), (92, .if_icmp .ge 7, 3, 99, 0, .null, []), (95, .iconst 0, 1, 0, 0, .null, []), (96, .goto 4, 3, 100, 0, .null, []), (99, .iconst 1, 1, 0, 0, .null, []), (100, .ireturn, 1, 0, 0, .null, [])]
/-- SmallerInTheShop isLine (I)Z -/
def mp_115 : List (Nat × mm_I) := [(0, .iload_n 0, 1, 0, 0, .null, []), (1, .iconst 1, 1, 0, 0, .null, []), (2, .if_icmp .lt 12, 3, 14, 0, .null, []), (5, .iload_n 0, 1, 0, 0, .null, []), (6, .iconst 4, 1, 0, 0, .null, []), (7, .if_icmp .gt 7, 3, 14, 0, .null, []),
  (10, .iconst 1, 1, 0, 0, .null, []), (11, .goto 4, 3, 15, 0, .null, []), (14, .iconst 0, 1, 0, 0, .null, []), (15, .ireturn, 1, 0, 0, .null, [])]
/-- SmallerInTheShop effortOfTwo (IIII)I -/
def mp_116 : List (Nat × mm_I) := [(0, .aload_n 0, 1, 0, 0, .null, []), (1, .getfield 10, 3, 5, 0, .null, [223, 0]), (4, .getfield 137, 3, 4, 4, .null, [142, 1]), (7, .istore 5, 2, 0, 0, .null, []), (9, .aload_n 0, 1, 0, 0, .null, []), (10, .getfield 10, 3, 5, 0, .null, [223, 0]),
  (13, .iload 5, 2, 0, 0, .null, []), (15, .iload_n 1, 1, 0, 0, .null, []), (16, .invokevirtual 290, 3, 69, 3, .null, [455, 0, 456, 56, 457]), (19, .ifCond .ne 5, 3, 24, 0, .null, []), (22, .iconst (-1), 1, 0, 0, .null, []), (23, .ireturn, 1, 0, 0, .null, []),
  (24, .aload_n 0, 1, 0, 0, .null, []), (25, .getfield 10, 3, 5, 0, .null, [223, 0]), (28, .iload 5, 2, 0, 0, .null, []), (30, .iload_n 1, 1, 0, 0, .null, []), (31, .iload_n 2, 1, 0, 0, .null, []), (32, .invokevirtual 143, 3, 71, 4, .null, [602, 0, 468, 56, 469]),
  (35, .istore 6, 2, 0, 0, .null, []), (37, .aload_n 0, 1, 0, 0, .null, []), (38, .getfield 10, 3, 5, 0, .null, [223, 0]), (41, .iload 5, 2, 0, 0, .null, []), (43, .iconst 1, 1, 0, 0, .null, []), (44, .iadd, 1, 0, 0, .null, []),
  (45, .iload_n 3, 1, 0, 0, .null, []), (46, .invokevirtual 290, 3, 69, 3, .null, [455, 0, 456, 56, 457]), (49, .ifCond .ne 5, 3, 54, 0, .null, []), (52, .iconst (-1), 1, 0, 0, .null, []), (53, .ireturn, 1, 0, 0, .null, []), (54, .iload 6, 2, 0, 0, .null, []),
  (56, .aload_n 0, 1, 0, 0, .null, []), (57, .getfield 10, 3, 5, 0, .null, [223, 0]), (60, .iload 5, 2, 0, 0, .null, []), (62, .iconst 1, 1, 0, 0, .null, []), (63, .iadd, 1, 0, 0, .null, []), (64, .iload_n 3, 1, 0, 0, .null, []),
  (65, .iload 4, 2, 0, 0, .null, []), (67, .invokevirtual 143, 3, 71, 4, .null, [602, 0, 468, 56, 469]), (70, .iadd, 1, 0, 0, .null, []), (71, .ireturn, 1, 0, 0, .null, [])]
/-- SmallerInTheShop hole (II)I -/
def mp_117 : List (Nat × mm_I) := [(0, .iload_n 1, 1, 0, 0, .null, []), (1, .iconst 3, 1, 0, 0, .null, []), (2, .invokestatic 79, 3, 89, 2, .null, [444, 0, 445, 55]), (5, .ifCond .ne 9, 3, 14, 0, .null, []), (8, .aload_n 0, 1, 0, 0, .null, []), (9, .iconst (-1), 1, 0, 0, .null, []),
  (10, .invokevirtual 58, 3, 84, 2, .null, [258, 0, 260, 55, 0]), (13, .ireturn, 1, 0, 0, .null, []), (14, .iload_n 2, 1, 0, 0, .null, []), (15, .iconst 2, 1, 0, 0, .null, []), (16, .invokestatic 79, 3, 89, 2, .null, [444, 0, 445, 55]), (19, .ifCond .ne 10, 3, 29, 0, .null, []),
  (22, .aload_n 0, 1, 0, 0, .null, []), (23, .bipush (-2), 2, 0, 0, .null, []), (25, .invokevirtual 58, 3, 84, 2, .null, [258, 0, 260, 55, 0]), (28, .ireturn, 1, 0, 0, .null, []), (29, .aload_n 0, 1, 0, 0, .null, []), (30, .getfield 10, 3, 5, 0, .null, [223, 0]),
  (33, .iload_n 1, 1, 0, 0, .null, []), (34, .invokevirtual 227, 3, 80, 2, .null, [765, 0, 743, 56, 744]), (37, .istore_n 3, 1, 0, 0, .null, []), (38, .iload_n 2, 1, 0, 0, .null, []), (39, .ifCond .ne 7, 3, 46, 0, .null, []), (42, .iload_n 3, 1, 0, 0, .null, []),
  (43, .goto 17, 3, 60, 0, .null, []), (46, .iload_n 3, 1, 0, 0, .null, []), (47, .bipush 40, 2, 0, 0, .null, []), (49, .if_icmp .lt 7, 3, 56, 0, .null, []), (52, .iconst 1, 1, 0, 0, .null, []), (53, .goto 4, 3, 57, 0, .null, []),
  (56, .iconst 0, 1, 0, 0, .null, []), (57, .invokestatic 121, 3, 95, 1, .null, [570, 0, 571, 55]), (60, .ireturn, 1, 0, 0, .null, [])]
/-- SmallerInTheShop weakest (I)I -/
def mp_118 : List (Nat × mm_I) := [(0, .iload_n 1, 1, 0, 0, .null, []), (1, .iconst 3, 1, 0, 0, .null, []), (2, .invokestatic 79, 3, 89, 2, .null, [444, 0, 445, 55]), (5, .ifCond .ne 10, 3, 15, 0, .null, []), (8, .aload_n 0, 1, 0, 0, .null, []), (9, .bipush (-2), 2, 0, 0, .null, []),
  (11, .invokevirtual 58, 3, 84, 2, .null, [258, 0, 260, 55, 0]), (14, .ireturn, 1, 0, 0, .null, []), (15, .iload_n 1, 1, 0, 0, .null, []), (16, .iconst 2, 1, 0, 0, .null, []), (17, .if_icmp .ne 11, 3, 28, 0, .null, []), (20, .aload_n 0, 1, 0, 0, .null, []),
  (21, .getfield 10, 3, 5, 0, .null, [223, 0]), (24, .invokevirtual 230, 3, 79, 1, .null, [770, 0, 739, 56, 740]), (27, .ireturn, 1, 0, 0, .null, []), (28, .iconst 0, 1, 0, 0, .null, []), (29, .istore_n 2, 1, 0, 0, .null, []), (30, .iconst 1, 1, 0, 0, .null, []),
  (31, .istore_n 3, 1, 0, 0, .null, []), (32, .iload_n 3, 1, 0, 0, .null, []), (33, .iconst 3, 1, 0, 0, .null, []), (34, .if_icmp .ge 30, 3, 64, 0, .null, []), (37, .aload_n 0, 1, 0, 0, .null, []), (38, .getfield 10, 3, 5, 0, .null, [223, 0]),
  (41, .iload_n 3, 1, 0, 0, .null, []), (42, .invokevirtual 227, 3, 80, 2, .null, [765, 0, 743, 56, 744]), (45, .aload_n 0, 1, 0, 0, .null, []), (46, .getfield 10, 3, 5, 0, .null, [223, 0]), (49, .iload_n 2, 1, 0, 0, .null, []), (50, .invokevirtual 227, 3, 80, 2, .null, [765, 0, 743, 56, 744]),
  (53, .if_icmp .le 5, 3, 58, 0, .null, []), (56, .iload_n 3, 1, 0, 0, .null, []), (57, .istore_n 2, 1, 0, 0, .null, []), (58, .iinc 3 1, 3, 0, 0, .null, []), (61, .goto (-29), 3, 32, 0, .null, []), (64, .iload_n 1, 1, 0, 0, .null, []),
  (65, .ifCond .ne 7, 3, 72, 0, .null, []), (68, .iload_n 2, 1, 0, 0, .null, []), (69, .goto 11, 3, 80, 0, .null, []), (72, .aload_n 0, 1, 0, 0, .null, []), (73, .getfield 10, 3, 5, 0, .null, [223, 0]), (76, .iload_n 2, 1, 0, 0, .null, []),
  (77, .invokevirtual 227, 3, 80, 2, .null, [765, 0, 743, 56, 744]), (80, .ireturn, 1, 0, 0, .null, [])]
/-- SmallerInTheShop wind (II)J -/
def mp_119 : List (Nat × mm_I) := [(0, .iload_n 1, 1, 0, 0, .null, []), (1, .iconst 2, 1, 0, 0, .null, []), (2, .if_icmp .ge 10, 3, 12, 0, .null, []), (5, .aload_n 0, 1, 0, 0, .null, []), (6, .bipush (-4), 2, 0, 0, .null, []), (8, .invokevirtual 233, 3, 120, 2, .null, [775, 0, 777, 55, 25]),
  (11, .lreturn, 1, 0, 0, .null, []), (12, .iload_n 1, 1, 0, 0, .null, []), (13, .bipush 20, 2, 0, 0, .null, []), (15, .if_icmp .le 10, 3, 25, 0, .null, []), (18, .aload_n 0, 1, 0, 0, .null, []), (19, .bipush (-6), 2, 0, 0, .null, []),
  (21, .invokevirtual 233, 3, 120, 2, .null, [775, 0, 777, 55, 25]), (24, .lreturn, 1, 0, 0, .null, []), (25, .aload_n 0, 1, 0, 0, .null, []), (26, .getfield 50, 3, 5, 8, .null, [231, 0]), (29, .iconst 4, 1, 0, 0, .null, []), (30, .if_icmp .gt 10, 3, 40, 0, .null, []),
  (33, .aload_n 0, 1, 0, 0, .null, []), (34, .invokevirtual 237, 3, 121, 1, .null, [780, 0, 782, 55, 26]), (37, .ifCond .lt 10, 3, 47, 0, .null, []), (40, .aload_n 0, 1, 0, 0, .null, []), (41, .bipush (-3), 2, 0, 0, .null, []), (43, .invokevirtual 233, 3, 120, 2, .null, [775, 0, 777, 55, 25]),
  (46, .lreturn, 1, 0, 0, .null, []), (47, .iload_n 2, 1, 0, 0, .null, []), (48, .iconst 2, 1, 0, 0, .null, []), (49, .invokestatic 79, 3, 89, 2, .null, [444, 0, 445, 55]), (52, .ifCond .ne 10, 3, 62, 0, .null, []), (55, .aload_n 0, 1, 0, 0, .null, []),
  (56, .bipush (-2), 2, 0, 0, .null, []), (58, .invokevirtual 233, 3, 120, 2, .null, [775, 0, 777, 55, 25]), (61, .lreturn, 1, 0, 0, .null, []), (62, .lconst 0, 1, 0, 0, .null, []), (63, .lstore_n 3, 1, 0, 0, .null, []), (64, .lconst 0, 1, 0, 0, .null, []),
  (65, .lstore 5, 2, 0, 0, .null, []), (67, .iconst 0, 1, 0, 0, .null, []), (68, .istore 7, 2, 0, 0, .null, []), (70, .iload 7, 2, 0, 0, .null, []), (72, .iconst 1, 1, 0, 0, .null, []), (73, .aload_n 0, 1, 0, 0, .null, []),
  (74, .getfield 50, 3, 5, 8, .null, [231, 0]), (77, .ishl, 1, 0, 0, .null, []), (78, .if_icmp .ge 49, 3, 127, 0, .null, []), (81, .iload_n 1, 1, 0, 0, .null, []), (82, .iconst 1, 1, 0, 0, .null, []), (83, .isub, 1, 0, 0, .null, []),
  (84, .i2l, 1, 0, 0, .null, []), (85, .aload_n 0, 1, 0, 0, .null, []), (86, .getfield 50, 3, 5, 8, .null, [231, 0]), (89, .iload 7, 2, 0, 0, .null, []), (91, .invokestatic 240, 3, 0, 1, .null, [784, 0, 678, 69]), (94, .isub, 1, 0, 0, .null, []),
  (95, .invokestatic 245, 3, 122, 2, .null, [785, 0, 786, 55]), (98, .lstore 8, 2, 0, 0, .null, []), (100, .lload 5, 2, 0, 0, .null, []), (102, .lload 8, 2, 0, 0, .null, []), (104, .ladd, 1, 0, 0, .null, []), (105, .lstore 5, 2, 0, 0, .null, []),
  (107, .aload_n 0, 1, 0, 0, .null, []), (108, .iload 7, 2, 0, 0, .null, []), (110, .invokevirtual 249, 3, 123, 2, .null, [788, 0, 790, 55, 27]), (113, .ifCond .eq 8, 3, 121, 0, .null, []), (116, .lload_n 3, 1, 0, 0, .null, []), (117, .lload 8, 2, 0, 0, .null, []),
  (119, .ladd, 1, 0, 0, .null, []), (120, .lstore_n 3, 1, 0, 0, .null, []), (121, .iinc 7 1, 3, 0, 0, .null, []), (124, .goto (-54), 3, 70, 0, .null, []), (127, .lload_n 3, 1, 0, 0, .null, []), (128, .lload 5, 2, 0, 0, .null, []),
  (130, .iload_n 2, 1, 0, 0, .null, []), (131, .invokestatic 252, 3, 124, 3, .null, [792, 0, 793, 55]), (134, .lreturn, 1, 0, 0, .null, [])]
/-- SmallerInTheShop refuseLong (I)J -/
def mp_120 : List (Nat × mm_I) := [(0, .ldc2_w 288, 3, 0, 0, .long (4000000000000000000), [779]), (3, .aload_n 0, 1, 0, 0, .null, []), (4, .iload_n 1, 1, 0, 0, .null, []), (5, .invokevirtual 58, 3, 84, 2, .null, [258, 0, 260, 55, 0]), (8, .i2l, 1, 0, 0, .null, []), (9, .lsub, 1, 0, 0, .null, []),
  (10, .lreturn, 1, 0, 0, .null, [])]
/-- SmallerInTheShop firstImpossible ()I -/
def mp_121 : List (Nat × mm_I) := [(0, .aload_n 0, 1, 0, 0, .null, []), (1, .getfield 10, 3, 5, 0, .null, [223, 0]), (4, .getfield 137, 3, 4, 4, .null, [142, 1]), (7, .istore_n 1, 1, 0, 0, .null, []), (8, .iconst 0, 1, 0, 0, .null, []), (9, .istore_n 2, 1, 0, 0, .null, []),
  (10, .iload_n 2, 1, 0, 0, .null, []), (11, .aload_n 0, 1, 0, 0, .null, []), (12, .getfield 50, 3, 5, 8, .null, [231, 0]), (15, .if_icmp .ge 65, 3, 80, 0, .null, []), (18, .aload_n 0, 1, 0, 0, .null, []), (19, .getfield 43, 3, 5, 6, .null, [229, 0]),
  (22, .iload_n 2, 1, 0, 0, .null, []), (23, .iaload, 1, 0, 0, .null, []), (24, .bipush 10, 2, 0, 0, .null, []), (26, .idiv, 1, 0, 0, .null, []), (27, .istore_n 3, 1, 0, 0, .null, []), (28, .aload_n 0, 1, 0, 0, .null, []),
  (29, .getfield 43, 3, 5, 6, .null, [229, 0]), (32, .iload_n 2, 1, 0, 0, .null, []), (33, .iaload, 1, 0, 0, .null, []), (34, .bipush 10, 2, 0, 0, .null, []), (36, .irem, 1, 0, 0, .null, []), (37, .istore 4, 2, 0, 0, .null, []),
  (39, .aload_n 0, 1, 0, 0, .null, []), (40, .getfield 10, 3, 5, 0, .null, [223, 0]), (43, .iload_n 1, 1, 0, 0, .null, []), (44, .iload_n 3, 1, 0, 0, .null, []), (45, .invokevirtual 290, 3, 69, 3, .null, [455, 0, 456, 56, 457]), (48, .ifCond .eq 9, 3, 57, 0, .null, []),
  (51, .iload 4, 2, 0, 0, .null, []), (53, .iconst 4, 1, 0, 0, .null, []), (54, .if_icmp .lt 5, 3, 59, 0, .null, []), (57, .iload_n 2, 1, 0, 0, .null, []), (58, .ireturn, 1, 0, 0, .null, []), (59, .aload_n 0, 1, 0, 0, .null, []),
  (60, .getfield 10, 3, 5, 0, .null, [223, 0]), (63, .iload_n 1, 1, 0, 0, .null, []), (64, .iload_n 3, 1, 0, 0, .null, []), (65, .iload 4, 2, 0, 0, .null, []), (67, .invokevirtual 143, 3, 71, 4, .null, [602, 0, 468, 56, 469]), (70, .pop, 1, 0, 0, .null, []),
  (71, .iinc 1 1, 3, 0, 0, .null, []), (74, .iinc 2 1, 3, 0, 0, .null, []), (77, .goto (-67), 3, 10, 0, .null, []), (80, .iconst (-1), 1, 0, 0, .null, []), (81, .ireturn, 1, 0, 0, .null, [])]
/-- SmallerInTheShop power (JI)J -/
def mp_122 : List (Nat × mm_I) := [(0, .lconst 1, 1, 0, 0, .null, []), (1, .lstore_n 3, 1, 0, 0, .null, []), (2, .iconst 0, 1, 0, 0, .null, []), (3, .istore 5, 2, 0, 0, .null, []), (5, .iload 5, 2, 0, 0, .null, []), (7, .iload_n 2, 1, 0, 0, .null, []),
  (8, .if_icmp .ge 13, 3, 21, 0, .null, []), (11, .lload_n 3, 1, 0, 0, .null, []), (12, .lload_n 0, 1, 0, 0, .null, []), (13, .lmul, 1, 0, 0, .null, []), (14, .lstore_n 3, 1, 0, 0, .null, []), (15, .iinc 5 1, 3, 0, 0, .null, []),
  (18, .goto (-13), 3, 5, 0, .null, []), (21, .lload_n 3, 1, 0, 0, .null, []), (22, .lreturn, 1, 0, 0, .null, [])]
/-- SmallerInTheShop isCoverOutBy (I)Z -/
def mp_123 : List (Nat × mm_I) := [(0, .aload_n 0, 1, 0, 0, .null, []), (1, .getfield 10, 3, 5, 0, .null, [223, 0]), (4, .getfield 137, 3, 4, 4, .null, [142, 1]), (7, .istore_n 2, 1, 0, 0, .null, []), (8, .iconst 0, 1, 0, 0, .null, []), (9, .istore_n 3, 1, 0, 0, .null, []),
  (10, .iload_n 3, 1, 0, 0, .null, []), (11, .aload_n 0, 1, 0, 0, .null, []), (12, .getfield 50, 3, 5, 8, .null, [231, 0]), (15, .if_icmp .ge 66, 3, 81, 0, .null, []), (18, .aload_n 0, 1, 0, 0, .null, []), (19, .getfield 43, 3, 5, 6, .null, [229, 0]),
  (22, .iload_n 3, 1, 0, 0, .null, []), (23, .iaload, 1, 0, 0, .null, []), (24, .bipush 10, 2, 0, 0, .null, []), (26, .idiv, 1, 0, 0, .null, []), (27, .istore 4, 2, 0, 0, .null, []), (29, .aload_n 0, 1, 0, 0, .null, []),
  (30, .getfield 43, 3, 5, 6, .null, [229, 0]), (33, .iload_n 3, 1, 0, 0, .null, []), (34, .iaload, 1, 0, 0, .null, []), (35, .bipush 10, 2, 0, 0, .null, []), (37, .irem, 1, 0, 0, .null, []), (38, .iload_n 1, 1, 0, 0, .null, []),
  (39, .iload_n 3, 1, 0, 0, .null, []), (40, .ishr, 1, 0, 0, .null, []), (41, .iconst 1, 1, 0, 0, .null, []), (42, .iand, 1, 0, 0, .null, []), (43, .ixor, 1, 0, 0, .null, []), (44, .istore 5, 2, 0, 0, .null, []),
  (46, .aload_n 0, 1, 0, 0, .null, []), (47, .getfield 10, 3, 5, 0, .null, [223, 0]), (50, .iload_n 2, 1, 0, 0, .null, []), (51, .iload 4, 2, 0, 0, .null, []), (53, .invokevirtual 290, 3, 69, 3, .null, [455, 0, 456, 56, 457]), (56, .ifCond .eq 19, 3, 75, 0, .null, []),
  (59, .aload_n 0, 1, 0, 0, .null, []), (60, .getfield 10, 3, 5, 0, .null, [223, 0]), (63, .iload_n 2, 1, 0, 0, .null, []), (64, .iload 4, 2, 0, 0, .null, []), (66, .iload 5, 2, 0, 0, .null, []), (68, .invokevirtual 143, 3, 71, 4, .null, [602, 0, 468, 56, 469]),
  (71, .pop, 1, 0, 0, .null, []), (72, .iinc 2 1, 3, 0, 0, .null, []), (75, .iinc 3 1, 3, 0, 0, .null, []), (78, .goto (-68), 3, 10, 0, .null, []), (81, .aload_n 0, 1, 0, 0, .null, []), (82, .getfield 10, 3, 5, 0, .null, [223, 0]),
  (85, .getfield 147, 3, 4, 0, .null, [133, 1]), (88, .iload_n 2, 1, 0, 0, .null, []), (89, .aaload, 1, 0, 0, .null, []), (90, .aload_n 0, 1, 0, 0, .null, []), (91, .getfield 10, 3, 5, 0, .null, [223, 0]), (94, .getfield 140, 3, 4, 5, .null, [144, 1]),
  (97, .invokevirtual 176, 3, 36, 2, .null, [631, 0, 632, 57, 633]), (100, .ireturn, 1, 0, 0, .null, [])]
/-- SmallerInTheShop partOfFraction (JJI)J -/
def mp_124 : List (Nat × mm_I) := [(0, .lload_n 2, 1, 0, 0, .null, []), (1, .lstore 5, 2, 0, 0, .null, []), (3, .lload_n 0, 1, 0, 0, .null, []), (4, .lstore 7, 2, 0, 0, .null, []), (6, .iconst 0, 1, 0, 0, .null, []), (7, .istore 9, 2, 0, 0, .null, []),
  (9, .iload 9, 2, 0, 0, .null, []), (11, .bipush 100, 2, 0, 0, .null, []), (13, .if_icmp .ge 31, 3, 44, 0, .null, []), (16, .lload 7, 2, 0, 0, .null, []), (18, .lconst 0, 1, 0, 0, .null, []), (19, .lcmp, 1, 0, 0, .null, []),
  (20, .ifCond .eq 24, 3, 44, 0, .null, []), (23, .lload 5, 2, 0, 0, .null, []), (25, .lload 7, 2, 0, 0, .null, []), (27, .lrem, 1, 0, 0, .null, []), (28, .lstore 10, 2, 0, 0, .null, []), (30, .lload 7, 2, 0, 0, .null, []),
  (32, .lstore 5, 2, 0, 0, .null, []), (34, .lload 10, 2, 0, 0, .null, []), (36, .lstore 7, 2, 0, 0, .null, []), (38, .iinc 9 1, 3, 0, 0, .null, []), (41, .goto (-32), 3, 9, 0, .null, []), (44, .lload 5, 2, 0, 0, .null, []),
  (46, .lconst 0, 1, 0, 0, .null, []), (47, .lcmp, 1, 0, 0, .null, []), (48, .ifCond .ne 7, 3, 55, 0, .null, []), (51, .iload 4, 2, 0, 0, .null, []), (53, .i2l, 1, 0, 0, .null, []), (54, .lreturn, 1, 0, 0, .null, []),
  (55, .iload 4, 2, 0, 0, .null, []), (57, .ifCond .ne 10, 3, 67, 0, .null, []), (60, .lload_n 0, 1, 0, 0, .null, []), (61, .lload 5, 2, 0, 0, .null, []), (63, .ldiv, 1, 0, 0, .null, []), (64, .goto 7, 3, 71, 0, .null, []),
  (67, .lload_n 2, 1, 0, 0, .null, []), (68, .lload 5, 2, 0, 0, .null, []), (70, .ldiv, 1, 0, 0, .null, []), (71, .lreturn, 1, 0, 0, .null, [])]
/-- SmallerInTheShop mean (I)J -/
def mp_125 : List (Nat × mm_I) := [(0, .iload_n 1, 1, 0, 0, .null, []), (1, .iconst 2, 1, 0, 0, .null, []), (2, .invokestatic 79, 3, 89, 2, .null, [444, 0, 445, 55]), (5, .ifCond .ne 10, 3, 15, 0, .null, []), (8, .aload_n 0, 1, 0, 0, .null, []), (9, .bipush (-2), 2, 0, 0, .null, []),
  (11, .invokevirtual 233, 3, 120, 2, .null, [775, 0, 777, 55, 25]), (14, .lreturn, 1, 0, 0, .null, []), (15, .aload_n 0, 1, 0, 0, .null, []), (16, .getfield 10, 3, 5, 0, .null, [223, 0]), (19, .invokevirtual 256, 3, 81, 1, .null, [799, 0, 800, 56, 801]), (22, .i2l, 1, 0, 0, .null, []),
  (23, .ldc2_w 259, 3, 0, 0, .long (10), [803]), (26, .iload_n 1, 1, 0, 0, .null, []), (27, .invokestatic 252, 3, 124, 3, .null, [792, 0, 793, 55]), (30, .lreturn, 1, 0, 0, .null, [])]
/-- SmallerInTheShop whatIs (II)I -/
def mp_126 : List (Nat × mm_I) := [(0, .iload_n 1, 1, 0, 0, .null, []), (1, .bipush 10, 2, 0, 0, .null, []), (3, .invokestatic 79, 3, 89, 2, .null, [444, 0, 445, 55]), (6, .ifCond .ne 9, 3, 15, 0, .null, []), (9, .aload_n 0, 1, 0, 0, .null, []), (10, .iconst (-1), 1, 0, 0, .null, []),
  (11, .invokevirtual 58, 3, 84, 2, .null, [258, 0, 260, 55, 0]), (14, .ireturn, 1, 0, 0, .null, []), (15, .iload_n 2, 1, 0, 0, .null, []), (16, .iconst 2, 1, 0, 0, .null, []), (17, .invokestatic 79, 3, 89, 2, .null, [444, 0, 445, 55]), (20, .ifCond .ne 10, 3, 30, 0, .null, []),
  (23, .aload_n 0, 1, 0, 0, .null, []), (24, .bipush (-2), 2, 0, 0, .null, []), (26, .invokevirtual 58, 3, 84, 2, .null, [258, 0, 260, 55, 0]), (29, .ireturn, 1, 0, 0, .null, []), (30, .aload_n 0, 1, 0, 0, .null, []), (31, .getfield 50, 3, 5, 8, .null, [231, 0]),
  (34, .iconst 2, 1, 0, 0, .null, []), (35, .irem, 1, 0, 0, .null, []), (36, .ifCond .eq 10, 3, 46, 0, .null, []), (39, .aload_n 0, 1, 0, 0, .null, []), (40, .bipush (-3), 2, 0, 0, .null, []), (42, .invokevirtual 58, 3, 84, 2, .null, [258, 0, 260, 55, 0]),
  (45, .ireturn, 1, 0, 0, .null, []), (46, .iload_n 2, 1, 0, 0, .null, []), (47, .ifCond .ne 19, 3, 66, 0, .null, []), (50, .aload_n 0, 1, 0, 0, .null, []), (51, .aload_n 0, 1, 0, 0, .null, []), (52, .getfield 10, 3, 5, 0, .null, [223, 0]),
  (55, .getfield 86, 3, 4, 2, .null, [137, 1]), (58, .iload_n 1, 1, 0, 0, .null, []), (59, .iaload, 1, 0, 0, .null, []), (60, .invokevirtual 261, 3, 127, 2, .null, [808, 0, 810, 55, 28]), (63, .goto 16, 3, 79, 0, .null, []), (66, .aload_n 0, 1, 0, 0, .null, []),
  (67, .aload_n 0, 1, 0, 0, .null, []), (68, .getfield 10, 3, 5, 0, .null, [223, 0]), (71, .getfield 83, 3, 4, 1, .null, [135, 1]), (74, .iload_n 1, 1, 0, 0, .null, []), (75, .iaload, 1, 0, 0, .null, []), (76, .invokevirtual 264, 3, 129, 2, .null, [817, 0, 819, 55, 30]),
  (79, .ireturn, 1, 0, 0, .null, [])]
/-- SmallerInTheShop kindsThatFit (I)I -/
def mp_127 : List (Nat × mm_I) := [(0, .iconst 0, 1, 0, 0, .null, []), (1, .istore_n 2, 1, 0, 0, .null, []), (2, .iconst 0, 1, 0, 0, .null, []), (3, .istore_n 3, 1, 0, 0, .null, []), (4, .iload_n 3, 1, 0, 0, .null, []), (5, .bipush 6, 2, 0, 0, .null, []),
  (7, .if_icmp .ge 24, 3, 31, 0, .null, []), (10, .aload_n 0, 1, 0, 0, .null, []), (11, .iload_n 3, 1, 0, 0, .null, []), (12, .iload_n 1, 1, 0, 0, .null, []), (13, .invokevirtual 321, 3, 128, 3, .null, [812, 0, 814, 55, 29]), (16, .ifCond .eq 9, 3, 25, 0, .null, []),
  (19, .iload_n 2, 1, 0, 0, .null, []), (20, .iconst 1, 1, 0, 0, .null, []), (21, .iload_n 3, 1, 0, 0, .null, []), (22, .ishl, 1, 0, 0, .null, []), (23, .ior, 1, 0, 0, .null, []), (24, .istore_n 2, 1, 0, 0, .null, []),
  (25, .iinc 3 1, 3, 0, 0, .null, []), (28, .goto (-24), 3, 4, 0, .null, []), (31, .iload_n 2, 1, 0, 0, .null, []), (32, .ireturn, 1, 0, 0, .null, [])]
/-- SmallerInTheShop fitsAllPairs (II)Z -/
def mp_128 : List (Nat × mm_I) := [(0, .iconst 0, 1, 0, 0, .null, []), (1, .istore_n 3, 1, 0, 0, .null, []), (2, .iload_n 3, 1, 0, 0, .null, []), (3, .iconst 1, 1, 0, 0, .null, []), (4, .iadd, 1, 0, 0, .null, []), (5, .aload_n 0, 1, 0, 0, .null, []),
  (6, .getfield 50, 3, 5, 8, .null, [231, 0]), (9, .if_icmp .ge 34, 3, 43, 0, .null, []), (12, .iload_n 1, 1, 0, 0, .null, []), (13, .iload_n 2, 1, 0, 0, .null, []), (14, .aload_n 0, 1, 0, 0, .null, []), (15, .getfield 43, 3, 5, 6, .null, [229, 0]),
  (18, .iload_n 3, 1, 0, 0, .null, []), (19, .iaload, 1, 0, 0, .null, []), (20, .iconst 1, 1, 0, 0, .null, []), (21, .invokestatic 324, 3, 16, 4, .null, [816, 0, 511, 68]), (24, .aload_n 0, 1, 0, 0, .null, []), (25, .getfield 43, 3, 5, 6, .null, [229, 0]),
  (28, .iload_n 3, 1, 0, 0, .null, []), (29, .iconst 1, 1, 0, 0, .null, []), (30, .iadd, 1, 0, 0, .null, []), (31, .iaload, 1, 0, 0, .null, []), (32, .if_icmp .eq 5, 3, 37, 0, .null, []), (35, .iconst 0, 1, 0, 0, .null, []),
  (36, .ireturn, 1, 0, 0, .null, []), (37, .iinc 3 2, 3, 0, 0, .null, []), (40, .goto (-38), 3, 2, 0, .null, []), (43, .iconst 1, 1, 0, 0, .null, []), (44, .ireturn, 1, 0, 0, .null, [])]
/-- SmallerInTheShop figuresThatFit (I)I -/
def mp_129 : List (Nat × mm_I) := [(0, .iconst 0, 1, 0, 0, .null, []), (1, .istore_n 2, 1, 0, 0, .null, []), (2, .iconst 0, 1, 0, 0, .null, []), (3, .istore_n 3, 1, 0, 0, .null, []), (4, .iload_n 3, 1, 0, 0, .null, []), (5, .bipush 9, 2, 0, 0, .null, []),
  (7, .if_icmp .gt 24, 3, 31, 0, .null, []), (10, .aload_n 0, 1, 0, 0, .null, []), (11, .iload_n 1, 1, 0, 0, .null, []), (12, .iload_n 3, 1, 0, 0, .null, []), (13, .invokevirtual 321, 3, 128, 3, .null, [812, 0, 814, 55, 29]), (16, .ifCond .eq 9, 3, 25, 0, .null, []),
  (19, .iload_n 2, 1, 0, 0, .null, []), (20, .iconst 1, 1, 0, 0, .null, []), (21, .iload_n 3, 1, 0, 0, .null, []), (22, .ishl, 1, 0, 0, .null, []), (23, .ior, 1, 0, 0, .null, []), (24, .istore_n 2, 1, 0, 0, .null, []),
  (25, .iinc 3 1, 3, 0, 0, .null, []), (28, .goto (-24), 3, 4, 0, .null, []), (31, .iload_n 2, 1, 0, 0, .null, []), (32, .ireturn, 1, 0, 0, .null, [])]
/-- SmallerInTheShop row (I)I -/
def mp_130 : List (Nat × mm_I) := [(0, .iload_n 1, 1, 0, 0, .null, []), (1, .ifCond .ge 10, 3, 11, 0, .null, []), (4, .aload_n 0, 1, 0, 0, .null, []), (5, .bipush (-4), 2, 0, 0, .null, []), (7, .invokevirtual 58, 3, 84, 2, .null, [258, 0, 260, 55, 0]), (10, .ireturn, 1, 0, 0, .null, []),
  (11, .iload_n 1, 1, 0, 0, .null, []), (12, .bipush 99, 2, 0, 0, .null, []), (14, .if_icmp .gt 12, 3, 26, 0, .null, []), (17, .aload_n 0, 1, 0, 0, .null, []), (18, .getfield 50, 3, 5, 8, .null, [231, 0]), (21, .bipush 16, 2, 0, 0, .null, []),
  (23, .if_icmp .lt 10, 3, 33, 0, .null, []), (26, .aload_n 0, 1, 0, 0, .null, []), (27, .bipush (-6), 2, 0, 0, .null, []), (29, .invokevirtual 58, 3, 84, 2, .null, [258, 0, 260, 55, 0]), (32, .ireturn, 1, 0, 0, .null, []), (33, .aload_n 0, 1, 0, 0, .null, []),
  (34, .getfield 43, 3, 5, 6, .null, [229, 0]), (37, .aload_n 0, 1, 0, 0, .null, []), (38, .getfield 50, 3, 5, 8, .null, [231, 0]), (41, .iload_n 1, 1, 0, 0, .null, []), (42, .iastore, 1, 0, 0, .null, []), (43, .aload_n 0, 1, 0, 0, .null, []),
  (44, .dup, 1, 0, 0, .null, []), (45, .getfield 50, 3, 5, 8, .null, [231, 0]), (48, .iconst 1, 1, 0, 0, .null, []), (49, .iadd, 1, 0, 0, .null, []), (50, .putfield 50, 3, 5, 8, .null, [231, 0]), (53, .aload_n 0, 1, 0, 0, .null, []),
  (54, .getfield 50, 3, 5, 8, .null, [231, 0]), (57, .ireturn, 1, 0, 0, .null, [])]
/-- SmallerInTheShop judge ()I -/
def mp_131 : List (Nat × mm_I) := [(0, .aload_n 0, 1, 0, 0, .null, []), (1, .invokevirtual 237, 3, 121, 1, .null, [780, 0, 782, 55, 26]), (4, .istore_n 1, 1, 0, 0, .null, []), (5, .aload_n 0, 1, 0, 0, .null, []), (6, .iconst 0, 1, 0, 0, .null, []), (7, .putfield 50, 3, 5, 8, .null, [231, 0]),
  (10, .iload_n 1, 1, 0, 0, .null, []), (11, .ifCond .ge 8, 3, 19, 0, .null, []), (14, .bipush (-9), 2, 0, 0, .null, []), (16, .goto 4, 3, 20, 0, .null, []), (19, .iload_n 1, 1, 0, 0, .null, []), (20, .ireturn, 1, 0, 0, .null, [])]
/-- SmallerInTheShop clear ()I -/
def mp_132 : List (Nat × mm_I) := [(0, .aload_n 0, 1, 0, 0, .null, []), (1, .getfield 50, 3, 5, 8, .null, [231, 0]), (4, .istore_n 1, 1, 0, 0, .null, []), (5, .aload_n 0, 1, 0, 0, .null, []), (6, .iconst 0, 1, 0, 0, .null, []), (7, .putfield 50, 3, 5, 8, .null, [231, 0]),
  (10, .iload_n 1, 1, 0, 0, .null, []), (11, .ireturn, 1, 0, 0, .null, [])]
/-- SmallerInTheShop lots (III)I -/
def mp_133 : List (Nat × mm_I) := [(0, .iload_n 1, 1, 0, 0, .null, []), (1, .iconst 1, 1, 0, 0, .null, []), (2, .if_icmp .ge 10, 3, 12, 0, .null, []), (5, .aload_n 0, 1, 0, 0, .null, []), (6, .bipush (-4), 2, 0, 0, .null, []), (8, .invokevirtual 58, 3, 84, 2, .null, [258, 0, 260, 55, 0]),
  (11, .ireturn, 1, 0, 0, .null, []), (12, .iload_n 1, 1, 0, 0, .null, []), (13, .bipush 20, 2, 0, 0, .null, []), (15, .if_icmp .le 10, 3, 25, 0, .null, []), (18, .aload_n 0, 1, 0, 0, .null, []), (19, .bipush (-6), 2, 0, 0, .null, []),
  (21, .invokevirtual 58, 3, 84, 2, .null, [258, 0, 260, 55, 0]), (24, .ireturn, 1, 0, 0, .null, []), (25, .iload_n 3, 1, 0, 0, .null, []), (26, .iconst 2, 1, 0, 0, .null, []), (27, .invokestatic 79, 3, 89, 2, .null, [444, 0, 445, 55]), (30, .ifCond .ne 10, 3, 40, 0, .null, []),
  (33, .aload_n 0, 1, 0, 0, .null, []), (34, .bipush (-2), 2, 0, 0, .null, []), (36, .invokevirtual 58, 3, 84, 2, .null, [258, 0, 260, 55, 0]), (39, .ireturn, 1, 0, 0, .null, []), (40, .aload_n 0, 1, 0, 0, .null, []), (41, .getfield 39, 3, 5, 5, .null, [228, 0]),
  (44, .iload_n 2, 1, 0, 0, .null, []), (45, .putfield 267, 3, 0, 0, .null, [215, 1]), (48, .iconst 0, 1, 0, 0, .null, []), (49, .istore 4, 2, 0, 0, .null, []), (51, .iconst 0, 1, 0, 0, .null, []), (52, .istore 5, 2, 0, 0, .null, []),
  (54, .iconst 0, 1, 0, 0, .null, []), (55, .istore 6, 2, 0, 0, .null, []), (57, .iload 6, 2, 0, 0, .null, []), (59, .iload_n 1, 1, 0, 0, .null, []), (60, .if_icmp .ge 51, 3, 111, 0, .null, []), (63, .iload 4, 2, 0, 0, .null, []),
  (65, .aload_n 0, 1, 0, 0, .null, []), (66, .invokevirtual 270, 3, 134, 1, .null, [837, 0, 839, 55, 31]), (69, .iadd, 1, 0, 0, .null, []), (70, .istore 4, 2, 0, 0, .null, []), (72, .iload 5, 2, 0, 0, .null, []), (74, .aload_n 0, 1, 0, 0, .null, []),
  (75, .getfield 10, 3, 5, 0, .null, [223, 0]), (78, .getfield 147, 3, 4, 0, .null, [133, 1]), (81, .aload_n 0, 1, 0, 0, .null, []), (82, .getfield 39, 3, 5, 5, .null, [228, 0]), (85, .getfield 273, 3, 0, 1, .null, [217, 1]), (88, .aaload, 1, 0, 0, .null, []),
  (89, .aload_n 0, 1, 0, 0, .null, []), (90, .getfield 10, 3, 5, 0, .null, [223, 0]), (93, .getfield 140, 3, 4, 5, .null, [144, 1]), (96, .invokevirtual 176, 3, 36, 2, .null, [631, 0, 632, 57, 633]), (99, .invokestatic 121, 3, 95, 1, .null, [570, 0, 571, 55]), (102, .iadd, 1, 0, 0, .null, []),
  (103, .istore 5, 2, 0, 0, .null, []), (105, .iinc 6 1, 3, 0, 0, .null, []), (108, .goto (-51), 3, 57, 0, .null, []), (111, .iload_n 3, 1, 0, 0, .null, []), (112, .ifCond .ne 8, 3, 120, 0, .null, []), (115, .iload 4, 2, 0, 0, .null, []),
  (117, .goto 5, 3, 122, 0, .null, []), (120, .iload 5, 2, 0, 0, .null, []), (122, .ireturn, 1, 0, 0, .null, [])]
/-- SmallerInTheShop shutByLot ()I -/
def mp_134 : List (Nat × mm_I) := [(0, .iconst 0, 1, 0, 0, .null, []), (1, .istore_n 1, 1, 0, 0, .null, []), (2, .aload_n 0, 1, 0, 0, .null, []), (3, .getfield 39, 3, 5, 5, .null, [228, 0]), (6, .aload_n 0, 1, 0, 0, .null, []), (7, .getfield 10, 3, 5, 0, .null, [223, 0]),
  (10, .getfield 137, 3, 4, 4, .null, [142, 1]), (13, .putfield 273, 3, 0, 1, .null, [217, 1]), (16, .iconst 0, 1, 0, 0, .null, []), (17, .istore_n 2, 1, 0, 0, .null, []), (18, .iload_n 2, 1, 0, 0, .null, []), (19, .iconst 4, 1, 0, 0, .null, []),
  (20, .if_icmp .ge 126, 3, 146, 0, .null, []), (23, .aload_n 0, 1, 0, 0, .null, []), (24, .getfield 10, 3, 5, 0, .null, [223, 0]), (27, .getfield 147, 3, 4, 0, .null, [133, 1]), (30, .aload_n 0, 1, 0, 0, .null, []), (31, .getfield 39, 3, 5, 5, .null, [228, 0]),
  (34, .getfield 273, 3, 0, 1, .null, [217, 1]), (37, .aaload, 1, 0, 0, .null, []), (38, .invokevirtual 329, 3, 39, 1, .null, [841, 0, 665, 57, 666]), (41, .ifCond .ne 105, 3, 146, 0, .null, []), (44, .aload_n 0, 1, 0, 0, .null, []), (45, .getfield 10, 3, 5, 0, .null, [223, 0]),
  (48, .getfield 147, 3, 4, 0, .null, [133, 1]), (51, .aload_n 0, 1, 0, 0, .null, []), (52, .getfield 39, 3, 5, 5, .null, [228, 0]), (55, .getfield 273, 3, 0, 1, .null, [217, 1]), (58, .aaload, 1, 0, 0, .null, []), (59, .astore_n 3, 1, 0, 0, .null, []),
  (60, .aload_n 3, 1, 0, 0, .null, []), (61, .aload_n 0, 1, 0, 0, .null, []), (62, .getfield 39, 3, 5, 5, .null, [228, 0]), (65, .aload_n 3, 1, 0, 0, .null, []), (66, .invokevirtual 332, 3, 40, 1, .null, [842, 0, 843, 57, 844]), (69, .invokevirtual 335, 3, 15, 2, .null, [846, 0, 847, 60, 848]),
  (72, .invokevirtual 338, 3, 41, 2, .null, [853, 0, 854, 57, 855]), (75, .istore 4, 2, 0, 0, .null, []), (77, .aload_n 0, 1, 0, 0, .null, []), (78, .getfield 39, 3, 5, 5, .null, [228, 0]), (81, .iconst 4, 1, 0, 0, .null, []), (82, .invokevirtual 335, 3, 15, 2, .null, [846, 0, 847, 60, 848]),
  (85, .istore 5, 2, 0, 0, .null, []), (87, .aload_n 0, 1, 0, 0, .null, []), (88, .getfield 10, 3, 5, 0, .null, [223, 0]), (91, .aload_n 0, 1, 0, 0, .null, []), (92, .getfield 39, 3, 5, 5, .null, [228, 0]), (95, .getfield 273, 3, 0, 1, .null, [217, 1]),
  (98, .iload 4, 2, 0, 0, .null, []), (100, .invokevirtual 290, 3, 69, 3, .null, [455, 0, 456, 56, 457]), (103, .ifCond .eq 37, 3, 140, 0, .null, []), (106, .iload_n 1, 1, 0, 0, .null, []), (107, .aload_n 0, 1, 0, 0, .null, []), (108, .getfield 10, 3, 5, 0, .null, [223, 0]),
  (111, .aload_n 0, 1, 0, 0, .null, []), (112, .getfield 39, 3, 5, 5, .null, [228, 0]), (115, .getfield 273, 3, 0, 1, .null, [217, 1]), (118, .iload 4, 2, 0, 0, .null, []), (120, .iload 5, 2, 0, 0, .null, []), (122, .invokevirtual 143, 3, 71, 4, .null, [602, 0, 468, 56, 469]),
  (125, .iadd, 1, 0, 0, .null, []), (126, .istore_n 1, 1, 0, 0, .null, []), (127, .aload_n 0, 1, 0, 0, .null, []), (128, .getfield 39, 3, 5, 5, .null, [228, 0]), (131, .dup, 1, 0, 0, .null, []), (132, .getfield 273, 3, 0, 1, .null, [217, 1]),
  (135, .iconst 1, 1, 0, 0, .null, []), (136, .iadd, 1, 0, 0, .null, []), (137, .putfield 273, 3, 0, 1, .null, [217, 1]), (140, .iinc 2 1, 3, 0, 0, .null, []), (143, .goto (-125), 3, 18, 0, .null, []), (146, .iload_n 1, 1, 0, 0, .null, []),
  (147, .ireturn, 1, 0, 0, .null, [])]
/-- SmallerInTheShop image ()I -/
def mp_135 : List (Nat × mm_I) := [(0, .aload_n 0, 1, 0, 0, .null, []), (1, .getfield 16, 3, 5, 1, .null, [224, 0]), (4, .aload_n 0, 1, 0, 0, .null, []), (5, .getfield 10, 3, 5, 0, .null, [223, 0]), (8, .invokevirtual 276, 3, 67, 2, .null, [415, 0, 416, 56, 417]), (11, .aload_n 0, 1, 0, 0, .null, []),
  (12, .iconst 1, 1, 0, 0, .null, []), (13, .putfield 54, 3, 5, 9, .null, [232, 0]), (16, .aload_n 0, 1, 0, 0, .null, []), (17, .getfield 16, 3, 5, 1, .null, [224, 0]), (20, .getfield 137, 3, 4, 4, .null, [142, 1]), (23, .ireturn, 1, 0, 0, .null, [])]
/-- SmallerInTheShop on ()I -/
def mp_136 : List (Nat × mm_I) := [(0, .aload_n 0, 1, 0, 0, .null, []), (1, .getfield 54, 3, 5, 9, .null, [232, 0]), (4, .ifCond .ne 10, 3, 14, 0, .null, []), (7, .aload_n 0, 1, 0, 0, .null, []), (8, .bipush (-3), 2, 0, 0, .null, []), (10, .invokevirtual 58, 3, 84, 2, .null, [258, 0, 260, 55, 0]),
  (13, .ireturn, 1, 0, 0, .null, []), (14, .aload_n 0, 1, 0, 0, .null, []), (15, .getfield 10, 3, 5, 0, .null, [223, 0]), (18, .aload_n 0, 1, 0, 0, .null, []), (19, .getfield 16, 3, 5, 1, .null, [224, 0]), (22, .invokevirtual 276, 3, 67, 2, .null, [415, 0, 416, 56, 417]),
  (25, .aload_n 0, 1, 0, 0, .null, []), (26, .getfield 10, 3, 5, 0, .null, [223, 0]), (29, .getfield 137, 3, 4, 4, .null, [142, 1]), (32, .ireturn, 1, 0, 0, .null, [])]
/-- SmallerInTheShop count (I)I -/
def mp_137 : List (Nat × mm_I) := [(0, .iload_n 1, 1, 0, 0, .null, []), (1, .tableswitch 117 0 7 #[47, 55, 63, 74, 82, 93, 104, 109], 47, 0, 0, .null, []), (48, .aload_n 0, 1, 0, 0, .null, []), (49, .getfield 10, 3, 5, 0, .null, [223, 0]), (52, .getfield 137, 3, 4, 4, .null, [142, 1]), (55, .ireturn, 1, 0, 0, .null, []),
  (56, .aload_n 0, 1, 0, 0, .null, []), (57, .getfield 10, 3, 5, 0, .null, [223, 0]), (60, .invokevirtual 256, 3, 81, 1, .null, [799, 0, 800, 56, 801]), (63, .ireturn, 1, 0, 0, .null, []), (64, .aload_n 0, 1, 0, 0, .null, []), (65, .getfield 10, 3, 5, 0, .null, [223, 0]),
  (68, .invokevirtual 92, 3, 73, 1, .null, [556, 0, 520, 56, 521]), (71, .invokevirtual 179, 3, 37, 1, .null, [635, 0, 636, 57, 637]), (74, .ireturn, 1, 0, 0, .null, []), (75, .aload_n 0, 1, 0, 0, .null, []), (76, .getfield 10, 3, 5, 0, .null, [223, 0]), (79, .getfield 140, 3, 4, 5, .null, [144, 1]),
  (82, .ireturn, 1, 0, 0, .null, []), (83, .aload_n 0, 1, 0, 0, .null, []), (84, .getfield 10, 3, 5, 0, .null, [223, 0]), (87, .invokevirtual 92, 3, 73, 1, .null, [556, 0, 520, 56, 521]), (90, .invokevirtual 279, 3, 38, 1, .null, [869, 0, 660, 57, 661]), (93, .ireturn, 1, 0, 0, .null, []),
  (94, .aload_n 0, 1, 0, 0, .null, []), (95, .getfield 10, 3, 5, 0, .null, [223, 0]), (98, .invokevirtual 92, 3, 73, 1, .null, [556, 0, 520, 56, 521]), (101, .invokevirtual 170, 3, 34, 1, .null, [622, 0, 623, 57, 624]), (104, .ireturn, 1, 0, 0, .null, []), (105, .aload_n 0, 1, 0, 0, .null, []),
  (106, .getfield 50, 3, 5, 8, .null, [231, 0]), (109, .ireturn, 1, 0, 0, .null, []), (110, .aload_n 0, 1, 0, 0, .null, []), (111, .getfield 32, 3, 5, 4, .null, [227, 0]), (114, .getfield 282, 3, 2, 1, .null, [202, 1]), (117, .ireturn, 1, 0, 0, .null, []),
  (118, .aload_n 0, 1, 0, 0, .null, []), (119, .iload_n 1, 1, 0, 0, .null, []), (120, .bipush 10, 2, 0, 0, .null, []), (122, .isub, 1, 0, 0, .null, []), (123, .invokevirtual 285, 3, 138, 2, .null, [870, 0, 872, 55, 32]), (126, .ireturn, 1, 0, 0, .null, [])]
/-- SmallerInTheShop countOfRefusals (I)I -/
def mp_138 : List (Nat × mm_I) := [(0, .iload_n 1, 1, 0, 0, .null, []), (1, .iconst 1, 1, 0, 0, .null, []), (2, .if_icmp .lt 18, 3, 20, 0, .null, []), (5, .iload_n 1, 1, 0, 0, .null, []), (6, .bipush 6, 2, 0, 0, .null, []), (8, .if_icmp .gt 12, 3, 20, 0, .null, []),
  (11, .aload_n 0, 1, 0, 0, .null, []), (12, .getfield 47, 3, 5, 7, .null, [230, 0]), (15, .iload_n 1, 1, 0, 0, .null, []), (16, .iaload, 1, 0, 0, .null, []), (17, .goto 5, 3, 22, 0, .null, []), (20, .bipush (-9), 2, 0, 0, .null, []),
  (22, .ireturn, 1, 0, 0, .null, [])]
/-- SmallerInTheShopModel <init> ()V -/
def mp_139 : List (Nat × mm_I) := [(0, .aload_n 0, 1, 0, 0, .null, []), (1, .invokespecial 1, 3, 999, 1, .null, [879, 76, 77]), (4, .aload_n 0, 1, 0, 0, .null, []), (5, .sipush 206, 3, 0, 0, .null, []), (8, .newarray .int, 2, 0, 0, .null, [130]), (10, .putfield 9, 3, 6, 0, .null, [883, 0]),
  (13, .aload_n 0, 1, 0, 0, .null, []), (14, .sipush 206, 3, 0, 0, .null, []), (17, .newarray .int, 2, 0, 0, .null, [130]), (19, .putfield 13, 3, 6, 1, .null, [884, 0]), (22, .aload_n 0, 1, 0, 0, .null, []), (23, .bipush 6, 2, 0, 0, .null, []),
  (25, .sipush 206, 3, 0, 0, .null, []), (28, .multianewarray 16 2, 4, 0, 0, .null, [880, 881, 130]), (32, .putfield 18, 3, 6, 2, .null, [885, 0]), (35, .aload_n 0, 1, 0, 0, .null, []), (36, .bipush 7, 2, 0, 0, .null, []), (38, .newarray .int, 2, 0, 0, .null, [130]),
  (40, .putfield 21, 3, 6, 4, .null, [887, 0]), (43, .aload_n 0, 1, 0, 0, .null, []), (44, .bipush 16, 2, 0, 0, .null, []), (46, .newarray .int, 2, 0, 0, .null, [130]), (48, .putfield 24, 3, 6, 5, .null, [888, 0]), (51, .aload_n 0, 1, 0, 0, .null, []),
  (52, .bipush 96, 2, 0, 0, .null, []), (54, .newarray .int, 2, 0, 0, .null, [130]), (56, .putfield 27, 3, 6, 7, .null, [890, 0]), (59, .aload_n 0, 1, 0, 0, .null, []), (60, .bipush 32, 2, 0, 0, .null, []), (62, .newarray .int, 2, 0, 0, .null, [130]),
  (64, .putfield 30, 3, 6, 9, .null, [892, 0]), (67, .aload_n 0, 1, 0, 0, .null, []), (68, .ldc 33, 2, 0, 0, .retAddr 37, []), (70, .putfield 35, 3, 6, 10, .null, [893, 0]), (73, .iconst 0, 1, 0, 0, .null, []), (74, .istore_n 1, 1, 0, 0, .null, []),
  (75, .iload_n 1, 1, 0, 0, .null, []), (76, .bipush 8, 2, 0, 0, .null, []), (78, .if_icmp .ge 39, 3, 117, 0, .null, []), (81, .aload_n 0, 1, 0, 0, .null, []), (82, .getfield 9, 3, 6, 0, .null, [883, 0]), (85, .bipush 40, 2, 0, 0, .null, []),
  (87, .iconst 4, 1, 0, 0, .null, []), (88, .iload_n 1, 1, 0, 0, .null, []), (89, .imul, 1, 0, 0, .null, []), (90, .iadd, 1, 0, 0, .null, []), (91, .iload_n 1, 1, 0, 0, .null, []), (92, .iconst 4, 1, 0, 0, .null, []),
  (93, .irem, 1, 0, 0, .null, []), (94, .iastore, 1, 0, 0, .null, []), (95, .aload_n 0, 1, 0, 0, .null, []), (96, .getfield 9, 3, 6, 0, .null, [883, 0]), (99, .bipush 40, 2, 0, 0, .null, []), (101, .iconst 4, 1, 0, 0, .null, []),
  (102, .iload_n 1, 1, 0, 0, .null, []), (103, .imul, 1, 0, 0, .null, []), (104, .iadd, 1, 0, 0, .null, []), (105, .iconst 1, 1, 0, 0, .null, []), (106, .iadd, 1, 0, 0, .null, []), (107, .iload_n 1, 1, 0, 0, .null, []),
  (108, .iconst 4, 1, 0, 0, .null, []), (109, .idiv, 1, 0, 0, .null, []), (110, .iastore, 1, 0, 0, .null, []), (111, .iinc 1 1, 3, 0, 0, .null, []), (114, .goto (-39), 3, 75, 0, .null, []), (117, .return_, 1, 0, 0, .null, [])]
/-- SmallerInTheShopModel letter (I)I -/
def mp_140 : List (Nat × mm_I) := [(0, .iload_n 1, 1, 0, 0, .null, []), (1, .ifCond .ge 10, 3, 11, 0, .null, []), (4, .aload_n 0, 1, 0, 0, .null, []), (5, .bipush (-4), 2, 0, 0, .null, []), (7, .invokevirtual 41, 3, 141, 2, .null, [945, 0, 947, 61, 33]), (10, .ireturn, 1, 0, 0, .null, []),
  (11, .iload_n 1, 1, 0, 0, .null, []), (12, .sipush 255, 3, 0, 0, .null, []), (15, .if_icmp .gt 12, 3, 27, 0, .null, []), (18, .aload_n 0, 1, 0, 0, .null, []), (19, .getfield 109, 3, 6, 8, .null, [891, 0]), (22, .bipush 96, 2, 0, 0, .null, []),
  (24, .if_icmp .ne 10, 3, 34, 0, .null, []), (27, .aload_n 0, 1, 0, 0, .null, []), (28, .bipush (-6), 2, 0, 0, .null, []), (30, .invokevirtual 41, 3, 141, 2, .null, [945, 0, 947, 61, 33]), (33, .ireturn, 1, 0, 0, .null, []), (34, .aload_n 0, 1, 0, 0, .null, []),
  (35, .getfield 27, 3, 6, 7, .null, [890, 0]), (38, .aload_n 0, 1, 0, 0, .null, []), (39, .getfield 109, 3, 6, 8, .null, [891, 0]), (42, .iload_n 1, 1, 0, 0, .null, []), (43, .iastore, 1, 0, 0, .null, []), (44, .aload_n 0, 1, 0, 0, .null, []),
  (45, .dup, 1, 0, 0, .null, []), (46, .getfield 109, 3, 6, 8, .null, [891, 0]), (49, .iconst 1, 1, 0, 0, .null, []), (50, .iadd, 1, 0, 0, .null, []), (51, .putfield 109, 3, 6, 8, .null, [891, 0]), (54, .aload_n 0, 1, 0, 0, .null, []),
  (55, .getfield 109, 3, 6, 8, .null, [891, 0]), (58, .ireturn, 1, 0, 0, .null, [])]
/-- SmallerInTheShopModel refused (I)I -/
def mp_141 : List (Nat × mm_I) := [(0, .aload_n 0, 1, 0, 0, .null, []), (1, .getfield 21, 3, 6, 4, .null, [887, 0]), (4, .iload_n 1, 1, 0, 0, .null, []), (5, .ineg, 1, 0, 0, .null, []), (6, .dup2, 1, 0, 0, .null, []), (7, .iaload, 1, 0, 0, .null, []),
  (8, .iconst 1, 1, 0, 0, .null, []), (9, .iadd, 1, 0, 0, .null, []), (10, .iastore, 1, 0, 0, .null, []), (11, .iload_n 1, 1, 0, 0, .null, []), (12, .ireturn, 1, 0, 0, .null, [])]
/-- SmallerInTheShopModel map ()I -/
def mp_142 : List (Nat × mm_I) := [(0, .aload_n 0, 1, 0, 0, .null, []), (1, .getfield 109, 3, 6, 8, .null, [891, 0]), (4, .istore_n 1, 1, 0, 0, .null, []), (5, .aload_n 0, 1, 0, 0, .null, []), (6, .iconst 0, 1, 0, 0, .null, []), (7, .putfield 109, 3, 6, 8, .null, [891, 0]),
  (10, .aload_n 0, 1, 0, 0, .null, []), (11, .iload_n 1, 1, 0, 0, .null, []), (12, .invokevirtual 143, 3, 143, 2, .null, [953, 0, 955, 61, 34]), (15, .istore_n 2, 1, 0, 0, .null, []), (16, .iload_n 2, 1, 0, 0, .null, []), (17, .ifCond .lt 9, 3, 26, 0, .null, []),
  (20, .sipush (-1000), 3, 0, 0, .null, []), (23, .iload_n 2, 1, 0, 0, .null, []), (24, .isub, 1, 0, 0, .null, []), (25, .ireturn, 1, 0, 0, .null, []), (26, .aload_n 0, 1, 0, 0, .null, []), (27, .getfield 9, 3, 6, 0, .null, [883, 0]),
  (30, .aload_n 0, 1, 0, 0, .null, []), (31, .getfield 18, 3, 6, 2, .null, [885, 0]), (34, .iconst 0, 1, 0, 0, .null, []), (35, .aaload, 1, 0, 0, .null, []), (36, .invokestatic 146, 3, 147, 2, .null, [970, 0, 971, 61]), (39, .iconst 0, 1, 0, 0, .null, []),
  (40, .istore_n 3, 1, 0, 0, .null, []), (41, .iconst 0, 1, 0, 0, .null, []), (42, .istore 4, 2, 0, 0, .null, []), (44, .iload 4, 2, 0, 0, .null, []), (46, .iload_n 1, 1, 0, 0, .null, []), (47, .if_icmp .ge 48, 3, 95, 0, .null, []),
  (50, .aload_n 0, 1, 0, 0, .null, []), (51, .aload_n 0, 1, 0, 0, .null, []), (52, .getfield 18, 3, 6, 2, .null, [885, 0]), (55, .iconst 0, 1, 0, 0, .null, []), (56, .aaload, 1, 0, 0, .null, []), (57, .iload 4, 2, 0, 0, .null, []),
  (59, .invokevirtual 150, 3, 148, 3, .null, [973, 0, 975, 61, 36]), (62, .ifCond .ne 10, 3, 72, 0, .null, []), (65, .sipush (-2000), 3, 0, 0, .null, []), (68, .iload 4, 2, 0, 0, .null, []), (70, .isub, 1, 0, 0, .null, []), (71, .ireturn, 1, 0, 0, .null, []),
  (72, .iload 4, 2, 0, 0, .null, []), (74, .aload_n 0, 1, 0, 0, .null, []), (75, .getfield 27, 3, 6, 7, .null, [890, 0]), (78, .iload 4, 2, 0, 0, .null, []), (80, .iaload, 1, 0, 0, .null, []), (81, .invokestatic 122, 3, 144, 1, .null, [957, 0, 958, 61]),
  (84, .iconst 1, 1, 0, 0, .null, []), (85, .iadd, 1, 0, 0, .null, []), (86, .iadd, 1, 0, 0, .null, []), (87, .istore 4, 2, 0, 0, .null, []), (89, .iinc 3 1, 3, 0, 0, .null, []), (92, .goto (-48), 3, 44, 0, .null, []),
  (95, .aload_n 0, 1, 0, 0, .null, []), (96, .getfield 18, 3, 6, 2, .null, [885, 0]), (99, .iconst 0, 1, 0, 0, .null, []), (100, .aaload, 1, 0, 0, .null, []), (101, .aload_n 0, 1, 0, 0, .null, []), (102, .getfield 9, 3, 6, 0, .null, [883, 0]),
  (105, .invokestatic 146, 3, 147, 2, .null, [970, 0, 971, 61]), (108, .iload_n 3, 1, 0, 0, .null, []), (109, .ireturn, 1, 0, 0, .null, [])]
/-- SmallerInTheShopModel faultOf (I)I -/
def mp_143 : List (Nat × mm_I) := [(0, .iconst 0, 1, 0, 0, .null, []), (1, .istore_n 2, 1, 0, 0, .null, []), (2, .iload_n 2, 1, 0, 0, .null, []), (3, .iload_n 1, 1, 0, 0, .null, []), (4, .if_icmp .ge 61, 3, 65, 0, .null, []), (7, .aload_n 0, 1, 0, 0, .null, []),
  (8, .getfield 27, 3, 6, 7, .null, [890, 0]), (11, .iload_n 2, 1, 0, 0, .null, []), (12, .iaload, 1, 0, 0, .null, []), (13, .invokestatic 122, 3, 144, 1, .null, [957, 0, 958, 61]), (16, .istore_n 3, 1, 0, 0, .null, []), (17, .iconst 0, 1, 0, 0, .null, []),
  (18, .istore 4, 2, 0, 0, .null, []), (20, .iload 4, 2, 0, 0, .null, []), (22, .iload_n 3, 1, 0, 0, .null, []), (23, .if_icmp .gt 33, 3, 56, 0, .null, []), (26, .iload_n 2, 1, 0, 0, .null, []), (27, .iload 4, 2, 0, 0, .null, []),
  (29, .iadd, 1, 0, 0, .null, []), (30, .iload_n 1, 1, 0, 0, .null, []), (31, .if_icmp .eq 14, 3, 45, 0, .null, []), (34, .aload_n 0, 1, 0, 0, .null, []), (35, .iload_n 2, 1, 0, 0, .null, []), (36, .iload 4, 2, 0, 0, .null, []),
  (38, .iload_n 3, 1, 0, 0, .null, []), (39, .invokevirtual 125, 3, 145, 4, .null, [960, 0, 962, 61, 35]), (42, .ifCond .ne 8, 3, 50, 0, .null, []), (45, .iload_n 2, 1, 0, 0, .null, []), (46, .iload 4, 2, 0, 0, .null, []), (48, .iadd, 1, 0, 0, .null, []),
  (49, .ireturn, 1, 0, 0, .null, []), (50, .iinc 4 1, 3, 0, 0, .null, []), (53, .goto (-33), 3, 20, 0, .null, []), (56, .iload_n 2, 1, 0, 0, .null, []), (57, .iload_n 3, 1, 0, 0, .null, []), (58, .iconst 1, 1, 0, 0, .null, []),
  (59, .iadd, 1, 0, 0, .null, []), (60, .iadd, 1, 0, 0, .null, []), (61, .istore_n 2, 1, 0, 0, .null, []), (62, .goto (-60), 3, 2, 0, .null, []), (65, .iload_n 1, 1, 0, 0, .null, []), (66, .ifCond .ne 7, 3, 73, 0, .null, []),
  (69, .iconst 0, 1, 0, 0, .null, []), (70, .goto 4, 3, 74, 0, .null, []), (73, .iconst (-1), 1, 0, 0, .null, []), (74, .ireturn, 1, 0, 0, .null, [])]
/-- SmallerInTheShopModel sizeOf (I)I -/
def mp_144 : List (Nat × mm_I) := [(0, .iload_n 0, 1, 0, 0, .null, []), (1, .bipush 107, 2, 0, 0, .null, []), (3, .if_icmp .eq 9, 3, 12, 0, .null, []), (6, .iload_n 0, 1, 0, 0, .null, []), (7, .bipush 119, 2, 0, 0, .null, []), (9, .if_icmp .ne 7, 3, 16, 0, .null, []),
  (12, .iconst 4, 1, 0, 0, .null, []), (13, .goto 24, 3, 37, 0, .null, []), (16, .iload_n 0, 1, 0, 0, .null, []), (17, .bipush 102, 2, 0, 0, .null, []), (19, .if_icmp .ne 7, 3, 26, 0, .null, []), (22, .iconst 3, 1, 0, 0, .null, []),
  (23, .goto 14, 3, 37, 0, .null, []), (26, .iload_n 0, 1, 0, 0, .null, []), (27, .bipush 111, 2, 0, 0, .null, []), (29, .if_icmp .ne 7, 3, 36, 0, .null, []), (32, .iconst 1, 1, 0, 0, .null, []), (33, .goto 4, 3, 37, 0, .null, []),
  (36, .iconst 2, 1, 0, 0, .null, []), (37, .ireturn, 1, 0, 0, .null, [])]
/-- SmallerInTheShopModel fits (III)Z -/
def mp_145 : List (Nat × mm_I) := [(0, .aload_n 0, 1, 0, 0, .null, []), (1, .getfield 27, 3, 6, 7, .null, [890, 0]), (4, .iload_n 1, 1, 0, 0, .null, []), (5, .iload_n 2, 1, 0, 0, .null, []), (6, .iadd, 1, 0, 0, .null, []), (7, .iaload, 1, 0, 0, .null, []),
  (8, .istore 4, 2, 0, 0, .null, []), (10, .iload_n 2, 1, 0, 0, .null, []), (11, .ifCond .ne 44, 3, 55, 0, .null, []), (14, .iload 4, 2, 0, 0, .null, []), (16, .bipush 107, 2, 0, 0, .null, []), (18, .if_icmp .eq 31, 3, 49, 0, .null, []),
  (21, .iload 4, 2, 0, 0, .null, []), (23, .bipush 119, 2, 0, 0, .null, []), (25, .if_icmp .eq 24, 3, 49, 0, .null, []), (28, .iload 4, 2, 0, 0, .null, []), (30, .bipush 102, 2, 0, 0, .null, []), (32, .if_icmp .eq 17, 3, 49, 0, .null, []),
  (35, .iload 4, 2, 0, 0, .null, []), (37, .bipush 111, 2, 0, 0, .null, []), (39, .if_icmp .eq 10, 3, 49, 0, .null, []), (42, .iload 4, 2, 0, 0, .null, []), (44, .bipush 99, 2, 0, 0, .null, []), (46, .if_icmp .ne 7, 3, 53, 0, .null, []),
  (49, .iconst 1, 1, 0, 0, .null, []), (50, .goto 4, 3, 54, 0, .null, []), (53, .iconst 0, 1, 0, 0, .null, []), (54, .ireturn, 1, 0, 0, .null, []), (55, .iload_n 2, 1, 0, 0, .null, []), (56, .iload_n 3, 1, 0, 0, .null, []),
  (57, .if_icmp .ne 16, 3, 73, 0, .null, []), (60, .iload 4, 2, 0, 0, .null, []), (62, .bipush 59, 2, 0, 0, .null, []), (64, .if_icmp .ne 7, 3, 71, 0, .null, []), (67, .iconst 1, 1, 0, 0, .null, []), (68, .goto 4, 3, 72, 0, .null, []),
  (71, .iconst 0, 1, 0, 0, .null, []), (72, .ireturn, 1, 0, 0, .null, []), (73, .aload_n 0, 1, 0, 0, .null, []), (74, .getfield 27, 3, 6, 7, .null, [890, 0]), (77, .iload_n 1, 1, 0, 0, .null, []), (78, .iaload, 1, 0, 0, .null, []),
  (79, .bipush 107, 2, 0, 0, .null, []), (81, .if_icmp .ne 26, 3, 107, 0, .null, []), (84, .iload_n 2, 1, 0, 0, .null, []), (85, .iconst 2, 1, 0, 0, .null, []), (86, .if_icmp .ne 21, 3, 107, 0, .null, []), (89, .ldc 33, 2, 0, 0, .retAddr 37, []),
  (91, .iload 4, 2, 0, 0, .null, []), (93, .invokevirtual 113, 3, 7, 2, .null, [964, 0, 348, 62, 349]), (96, .ifCond .lt 7, 3, 103, 0, .null, []), (99, .iconst 1, 1, 0, 0, .null, []), (100, .goto 19, 3, 119, 0, .null, []), (103, .iconst 0, 1, 0, 0, .null, []),
  (104, .goto 15, 3, 119, 0, .null, []), (107, .iload 4, 2, 0, 0, .null, []), (109, .i2l, 1, 0, 0, .null, []), (110, .ldc2_w 118, 3, 0, 0, .long (48), [965]), (113, .ldc2_w 120, 3, 0, 0, .long (57), [966]), (116, .invokestatic 57, 3, 146, 3, .null, [967, 0, 968, 61]),
  (119, .ireturn, 1, 0, 0, .null, [])]
/-- SmallerInTheShopModel in (JJJ)Z -/
def mp_146 : List (Nat × mm_I) := [(0, .lload_n 0, 1, 0, 0, .null, []), (1, .lload_n 2, 1, 0, 0, .null, []), (2, .lcmp, 1, 0, 0, .null, []), (3, .ifCond .lt 14, 3, 17, 0, .null, []), (6, .lload_n 0, 1, 0, 0, .null, []), (7, .lload 4, 2, 0, 0, .null, []),
  (9, .lcmp, 1, 0, 0, .null, []), (10, .ifCond .gt 7, 3, 17, 0, .null, []), (13, .iconst 1, 1, 0, 0, .null, []), (14, .goto 4, 3, 18, 0, .null, []), (17, .iconst 0, 1, 0, 0, .null, []), (18, .ireturn, 1, 0, 0, .null, [])]
/-- SmallerInTheShopModel copies ([I[I)V -/
def mp_147 : List (Nat × mm_I) := [(0, .iconst 0, 1, 0, 0, .null, []), (1, .istore_n 2, 1, 0, 0, .null, []), (2, .iload_n 2, 1, 0, 0, .null, []), (3, .sipush 206, 3, 0, 0, .null, []), (6, .if_icmp .ge 15, 3, 21, 0, .null, []), (9, .aload_n 1, 1, 0, 0, .null, []),
  (10, .iload_n 2, 1, 0, 0, .null, []), (11, .aload_n 0, 1, 0, 0, .null, []), (12, .iload_n 2, 1, 0, 0, .null, []), (13, .iaload, 1, 0, 0, .null, []), (14, .iastore, 1, 0, 0, .null, []), (15, .iinc 2 1, 3, 0, 0, .null, []),
  (18, .goto (-16), 3, 2, 0, .null, []), (21, .return_, 1, 0, 0, .null, [])]
/-- SmallerInTheShopModel comes ([II)Z -/
def mp_148 : List (Nat × mm_I) := [(0, .aload_n 0, 1, 0, 0, .null, []), (1, .getfield 27, 3, 6, 7, .null, [890, 0]), (4, .iload_n 2, 1, 0, 0, .null, []), (5, .iaload, 1, 0, 0, .null, []), (6, .lookupswitch 183 #[(102, 119), (107, 42), (111, 168), (119, 87)], 42, 0, 0, .null, []), (48, .aload_n 1, 1, 0, 0, .null, []),
  (49, .iconst 0, 1, 0, 0, .null, []), (50, .aload_n 0, 1, 0, 0, .null, []), (51, .iload_n 2, 1, 0, 0, .null, []), (52, .iconst 1, 1, 0, 0, .null, []), (53, .iadd, 1, 0, 0, .null, []), (54, .invokevirtual 129, 3, 149, 2, .null, [977, 0, 979, 61, 37]),
  (57, .iadd, 1, 0, 0, .null, []), (58, .ldc 33, 2, 0, 0, .retAddr 37, []), (60, .aload_n 0, 1, 0, 0, .null, []), (61, .getfield 27, 3, 6, 7, .null, [890, 0]), (64, .iload_n 2, 1, 0, 0, .null, []), (65, .iconst 2, 1, 0, 0, .null, []),
  (66, .iadd, 1, 0, 0, .null, []), (67, .iaload, 1, 0, 0, .null, []), (68, .invokevirtual 113, 3, 7, 2, .null, [964, 0, 348, 62, 349]), (71, .iastore, 1, 0, 0, .null, []), (72, .aload_n 1, 1, 0, 0, .null, []), (73, .bipush 10, 2, 0, 0, .null, []),
  (75, .aload_n 0, 1, 0, 0, .null, []), (76, .iload_n 2, 1, 0, 0, .null, []), (77, .iconst 1, 1, 0, 0, .null, []), (78, .iadd, 1, 0, 0, .null, []), (79, .invokevirtual 129, 3, 149, 2, .null, [977, 0, 979, 61, 37]), (82, .iadd, 1, 0, 0, .null, []),
  (83, .aload_n 0, 1, 0, 0, .null, []), (84, .iload_n 2, 1, 0, 0, .null, []), (85, .iconst 3, 1, 0, 0, .null, []), (86, .iadd, 1, 0, 0, .null, []), (87, .invokevirtual 129, 3, 149, 2, .null, [977, 0, 979, 61, 37]), (90, .iastore, 1, 0, 0, .null, []),
  (91, .iconst 1, 1, 0, 0, .null, []), (92, .ireturn, 1, 0, 0, .null, []), (93, .aload_n 1, 1, 0, 0, .null, []), (94, .bipush 20, 2, 0, 0, .null, []), (96, .aload_n 0, 1, 0, 0, .null, []), (97, .iload_n 2, 1, 0, 0, .null, []),
  (98, .iconst 1, 1, 0, 0, .null, []), (99, .iadd, 1, 0, 0, .null, []), (100, .invokevirtual 129, 3, 149, 2, .null, [977, 0, 979, 61, 37]), (103, .iadd, 1, 0, 0, .null, []), (104, .bipush 10, 2, 0, 0, .null, []), (106, .aload_n 0, 1, 0, 0, .null, []),
  (107, .iload_n 2, 1, 0, 0, .null, []), (108, .iconst 2, 1, 0, 0, .null, []), (109, .iadd, 1, 0, 0, .null, []), (110, .invokevirtual 129, 3, 149, 2, .null, [977, 0, 979, 61, 37]), (113, .imul, 1, 0, 0, .null, []), (114, .aload_n 0, 1, 0, 0, .null, []),
  (115, .iload_n 2, 1, 0, 0, .null, []), (116, .iconst 3, 1, 0, 0, .null, []), (117, .iadd, 1, 0, 0, .null, []), (118, .invokevirtual 129, 3, 149, 2, .null, [977, 0, 979, 61, 37]), (121, .iadd, 1, 0, 0, .null, []), (122, .iastore, 1, 0, 0, .null, []),
  (123, .iconst 1, 1, 0, 0, .null, []), (124, .ireturn, 1, 0, 0, .null, []), (125, .aload_n 1, 1, 0, 0, .null, []), (126, .aload_n 0, 1, 0, 0, .null, []), (127, .iload_n 2, 1, 0, 0, .null, []), (128, .iconst 1, 1, 0, 0, .null, []),
  (129, .iadd, 1, 0, 0, .null, []), (130, .invokevirtual 129, 3, 149, 2, .null, [977, 0, 979, 61, 37]), (133, .invokestatic 132, 3, 150, 2, .null, [981, 0, 982, 61]), (136, .ifCond .eq 14, 3, 150, 0, .null, []), (139, .aload_n 0, 1, 0, 0, .null, []), (140, .iload_n 2, 1, 0, 0, .null, []),
  (141, .iconst 2, 1, 0, 0, .null, []), (142, .iadd, 1, 0, 0, .null, []), (143, .invokevirtual 129, 3, 149, 2, .null, [977, 0, 979, 61, 37]), (146, .iconst 3, 1, 0, 0, .null, []), (147, .if_icmp .le 5, 3, 152, 0, .null, []), (150, .iconst 0, 1, 0, 0, .null, []),
  (151, .ireturn, 1, 0, 0, .null, []), (152, .aload_n 0, 1, 0, 0, .null, []), (153, .aload_n 1, 1, 0, 0, .null, []), (154, .aload_n 0, 1, 0, 0, .null, []), (155, .iload_n 2, 1, 0, 0, .null, []), (156, .iconst 1, 1, 0, 0, .null, []),
  (157, .iadd, 1, 0, 0, .null, []), (158, .invokevirtual 129, 3, 149, 2, .null, [977, 0, 979, 61, 37]), (161, .aload_n 0, 1, 0, 0, .null, []), (162, .iload_n 2, 1, 0, 0, .null, []), (163, .iconst 2, 1, 0, 0, .null, []), (164, .iadd, 1, 0, 0, .null, []),
  (165, .invokevirtual 129, 3, 149, 2, .null, [977, 0, 979, 61, 37]), (168, .invokevirtual 136, 3, 152, 4, .null, [989, 0, 991, 61, 38]), (171, .istore_n 3, 1, 0, 0, .null, []), (172, .iconst 1, 1, 0, 0, .null, []), (173, .ireturn, 1, 0, 0, .null, []), (174, .aload_n 1, 1, 0, 0, .null, []),
  (175, .bipush 73, 2, 0, 0, .null, []), (177, .iaload, 1, 0, 0, .null, []), (178, .ifCond .ne 5, 3, 183, 0, .null, []), (181, .iconst 0, 1, 0, 0, .null, []), (182, .ireturn, 1, 0, 0, .null, []), (183, .aload_n 1, 1, 0, 0, .null, []),
  (184, .invokestatic 139, 3, 164, 1, .null, [1028, 0, 1029, 61]), (187, .iconst 1, 1, 0, 0, .null, []), (188, .ireturn, 1, 0, 0, .null, []), (189, .aload_n 0, 1, 0, 0, .null, []), (190, .iload_n 2, 1, 0, 0, .null, []), (191, .iconst 1, 1, 0, 0, .null, []),
  (192, .iadd, 1, 0, 0, .null, []), (193, .invokevirtual 129, 3, 149, 2, .null, [977, 0, 979, 61, 37]), (196, .bipush 7, 2, 0, 0, .null, []), (198, .if_icmp .le 5, 3, 203, 0, .null, []), (201, .iconst 0, 1, 0, 0, .null, []), (202, .ireturn, 1, 0, 0, .null, []),
  (203, .aload_n 1, 1, 0, 0, .null, []), (204, .bipush 72, 2, 0, 0, .null, []), (206, .aload_n 0, 1, 0, 0, .null, []), (207, .iload_n 2, 1, 0, 0, .null, []), (208, .iconst 1, 1, 0, 0, .null, []), (209, .iadd, 1, 0, 0, .null, []),
  (210, .invokevirtual 129, 3, 149, 2, .null, [977, 0, 979, 61, 37]), (213, .iastore, 1, 0, 0, .null, []), (214, .iconst 1, 1, 0, 0, .null, []), (215, .ireturn, 1, 0, 0, .null, [])]
/-- SmallerInTheShopModel digit (I)I -/
def mp_149 : List (Nat × mm_I) := [(0, .aload_n 0, 1, 0, 0, .null, []), (1, .getfield 27, 3, 6, 7, .null, [890, 0]), (4, .iload_n 1, 1, 0, 0, .null, []), (5, .iaload, 1, 0, 0, .null, []), (6, .bipush 48, 2, 0, 0, .null, []), (8, .isub, 1, 0, 0, .null, []),
  (9, .ireturn, 1, 0, 0, .null, [])]
/-- SmallerInTheShopModel isLine ([II)Z -/
def mp_150 : List (Nat × mm_I) := [(0, .iload_n 1, 1, 0, 0, .null, []), (1, .i2l, 1, 0, 0, .null, []), (2, .lconst 1, 1, 0, 0, .null, []), (3, .ldc2_w 55, 3, 0, 0, .long (3), [984]), (6, .invokestatic 57, 3, 146, 3, .null, [967, 0, 968, 61]), (9, .ifCond .eq 12, 3, 21, 0, .null, []),
  (12, .iload_n 1, 1, 0, 0, .null, []), (13, .aload_n 0, 1, 0, 0, .null, []), (14, .iconst 0, 1, 0, 0, .null, []), (15, .invokestatic 61, 3, 151, 2, .null, [985, 0, 986, 61]), (18, .if_icmp .lt 17, 3, 35, 0, .null, []), (21, .iload_n 1, 1, 0, 0, .null, []),
  (22, .iconst 4, 1, 0, 0, .null, []), (23, .if_icmp .ne 16, 3, 39, 0, .null, []), (26, .aload_n 0, 1, 0, 0, .null, []), (27, .iconst 1, 1, 0, 0, .null, []), (28, .invokestatic 61, 3, 151, 2, .null, [985, 0, 986, 61]), (31, .iconst 2, 1, 0, 0, .null, []),
  (32, .if_icmp .ne 7, 3, 39, 0, .null, []), (35, .iconst 1, 1, 0, 0, .null, []), (36, .goto 4, 3, 40, 0, .null, []), (39, .iconst 0, 1, 0, 0, .null, []), (40, .ireturn, 1, 0, 0, .null, [])]
/-- SmallerInTheShopModel wide ([II)I -/
def mp_151 : List (Nat × mm_I) := [(0, .iconst 0, 1, 0, 0, .null, []), (1, .istore_n 2, 1, 0, 0, .null, []), (2, .iconst 0, 1, 0, 0, .null, []), (3, .istore_n 3, 1, 0, 0, .null, []), (4, .iload_n 3, 1, 0, 0, .null, []), (5, .bipush 8, 2, 0, 0, .null, []),
  (7, .if_icmp .ge 24, 3, 31, 0, .null, []), (10, .iload_n 2, 1, 0, 0, .null, []), (11, .aload_n 0, 1, 0, 0, .null, []), (12, .bipush 40, 2, 0, 0, .null, []), (14, .iconst 4, 1, 0, 0, .null, []), (15, .iload_n 3, 1, 0, 0, .null, []),
  (16, .imul, 1, 0, 0, .null, []), (17, .iadd, 1, 0, 0, .null, []), (18, .iload_n 1, 1, 0, 0, .null, []), (19, .iadd, 1, 0, 0, .null, []), (20, .iaload, 1, 0, 0, .null, []), (21, .invokestatic 49, 3, 997, 2, .null, [988, 0, 363, 66, 364]),
  (24, .istore_n 2, 1, 0, 0, .null, []), (25, .iinc 3 1, 3, 0, 0, .null, []), (28, .goto (-24), 3, 4, 0, .null, []), (31, .iload_n 2, 1, 0, 0, .null, []), (32, .iconst 1, 1, 0, 0, .null, []), (33, .iadd, 1, 0, 0, .null, []),
  (34, .ireturn, 1, 0, 0, .null, [])]
/-- SmallerInTheShopModel folds ([III)I -/
def mp_152 : List (Nat × mm_I) := [(0, .aload_n 1, 1, 0, 0, .null, []), (1, .iload_n 2, 1, 0, 0, .null, []), (2, .invokestatic 84, 3, 153, 2, .null, [993, 0, 994, 61]), (5, .istore 4, 2, 0, 0, .null, []), (7, .aload_n 1, 1, 0, 0, .null, []), (8, .iload_n 2, 1, 0, 0, .null, []),
  (9, .iload_n 3, 1, 0, 0, .null, []), (10, .invokestatic 94, 3, 156, 3, .null, [1003, 0, 1004, 61]), (13, .istore 5, 2, 0, 0, .null, []), (15, .aload_n 1, 1, 0, 0, .null, []), (16, .iload 4, 2, 0, 0, .null, []), (18, .invokestatic 97, 3, 160, 2, .null, [1015, 0, 1016, 61]),
  (21, .iconst 0, 1, 0, 0, .null, []), (22, .istore 6, 2, 0, 0, .null, []), (24, .iload 6, 2, 0, 0, .null, []), (26, .bipush 10, 2, 0, 0, .null, []), (28, .if_icmp .ge 76, 3, 104, 0, .null, []), (31, .iload 4, 2, 0, 0, .null, []),
  (33, .iload 6, 2, 0, 0, .null, []), (35, .ishr, 1, 0, 0, .null, []), (36, .iconst 1, 1, 0, 0, .null, []), (37, .iand, 1, 0, 0, .null, []), (38, .iconst 1, 1, 0, 0, .null, []), (39, .if_icmp .ne 59, 3, 98, 0, .null, []),
  (42, .aload_n 1, 1, 0, 0, .null, []), (43, .iload 6, 2, 0, 0, .null, []), (45, .iload_n 3, 1, 0, 0, .null, []), (46, .invokestatic 87, 3, 157, 3, .null, [1006, 0, 1007, 61]), (49, .istore 7, 2, 0, 0, .null, []), (51, .aload_n 1, 1, 0, 0, .null, []),
  (52, .bipush 30, 2, 0, 0, .null, []), (54, .iload 6, 2, 0, 0, .null, []), (56, .iadd, 1, 0, 0, .null, []), (57, .iload 7, 2, 0, 0, .null, []), (59, .iastore, 1, 0, 0, .null, []), (60, .aload_n 1, 1, 0, 0, .null, []),
  (61, .bipush 20, 2, 0, 0, .null, []), (63, .iload 6, 2, 0, 0, .null, []), (65, .iadd, 1, 0, 0, .null, []), (66, .bipush 99, 2, 0, 0, .null, []), (68, .aload_n 1, 1, 0, 0, .null, []), (69, .bipush 20, 2, 0, 0, .null, []),
  (71, .iload 6, 2, 0, 0, .null, []), (73, .iadd, 1, 0, 0, .null, []), (74, .iaload, 1, 0, 0, .null, []), (75, .aload_n 1, 1, 0, 0, .null, []), (76, .iconst 0, 1, 0, 0, .null, []), (77, .iload 6, 2, 0, 0, .null, []),
  (79, .iadd, 1, 0, 0, .null, []), (80, .iaload, 1, 0, 0, .null, []), (81, .aload_n 1, 1, 0, 0, .null, []), (82, .bipush 20, 2, 0, 0, .null, []), (84, .iload 6, 2, 0, 0, .null, []), (86, .iadd, 1, 0, 0, .null, []),
  (87, .iaload, 1, 0, 0, .null, []), (88, .iload 7, 2, 0, 0, .null, []), (90, .invokestatic 101, 3, 161, 3, .null, [1018, 0, 1019, 61]), (93, .iadd, 1, 0, 0, .null, []), (94, .invokestatic 81, 3, 998, 2, .null, [1002, 0, 366, 66, 367]), (97, .iastore, 1, 0, 0, .null, []),
  (98, .iinc 6 1, 3, 0, 0, .null, []), (101, .goto (-77), 3, 24, 0, .null, []), (104, .aload_n 0, 1, 0, 0, .null, []), (105, .aload_n 1, 1, 0, 0, .null, []), (106, .iload_n 2, 1, 0, 0, .null, []), (107, .iload_n 3, 1, 0, 0, .null, []),
  (108, .invokevirtual 105, 3, 162, 4, .null, [1021, 0, 1023, 61, 39]), (111, .iload 5, 2, 0, 0, .null, []), (113, .ireturn, 1, 0, 0, .null, [])]
/-- SmallerInTheShopModel creases ([II)I -/
def mp_153 : List (Nat × mm_I) := [(0, .iload_n 1, 1, 0, 0, .null, []), (1, .iconst 4, 1, 0, 0, .null, []), (2, .if_icmp .ne 7, 3, 9, 0, .null, []), (5, .iconst 1, 1, 0, 0, .null, []), (6, .goto 4, 3, 10, 0, .null, []), (9, .iconst 0, 1, 0, 0, .null, []),
  (10, .istore_n 2, 1, 0, 0, .null, []), (11, .iload_n 1, 1, 0, 0, .null, []), (12, .iconst 4, 1, 0, 0, .null, []), (13, .if_icmp .ne 7, 3, 20, 0, .null, []), (16, .iconst 1, 1, 0, 0, .null, []), (17, .goto 4, 3, 21, 0, .null, []),
  (20, .iload_n 1, 1, 0, 0, .null, []), (21, .istore_n 3, 1, 0, 0, .null, []), (22, .iconst 0, 1, 0, 0, .null, []), (23, .istore 4, 2, 0, 0, .null, []), (25, .iconst 0, 1, 0, 0, .null, []), (26, .istore 5, 2, 0, 0, .null, []),
  (28, .iload 5, 2, 0, 0, .null, []), (30, .bipush 10, 2, 0, 0, .null, []), (32, .if_icmp .ge 127, 3, 159, 0, .null, []), (35, .bipush 40, 2, 0, 0, .null, []), (37, .iconst 4, 1, 0, 0, .null, []), (38, .iload 5, 2, 0, 0, .null, []),
  (40, .invokestatic 75, 3, 154, 1, .null, [996, 0, 997, 61]), (43, .imul, 1, 0, 0, .null, []), (44, .iadd, 1, 0, 0, .null, []), (45, .istore 6, 2, 0, 0, .null, []), (47, .bipush 40, 2, 0, 0, .null, []), (49, .iconst 4, 1, 0, 0, .null, []),
  (50, .iload 5, 2, 0, 0, .null, []), (52, .invokestatic 78, 3, 155, 1, .null, [999, 0, 1000, 61]), (55, .imul, 1, 0, 0, .null, []), (56, .iadd, 1, 0, 0, .null, []), (57, .istore 7, 2, 0, 0, .null, []), (59, .aload_n 0, 1, 0, 0, .null, []),
  (60, .iload 6, 2, 0, 0, .null, []), (62, .iconst 1, 1, 0, 0, .null, []), (63, .iadd, 1, 0, 0, .null, []), (64, .iload_n 2, 1, 0, 0, .null, []), (65, .isub, 1, 0, 0, .null, []), (66, .iaload, 1, 0, 0, .null, []),
  (67, .aload_n 0, 1, 0, 0, .null, []), (68, .iload 7, 2, 0, 0, .null, []), (70, .iconst 1, 1, 0, 0, .null, []), (71, .iadd, 1, 0, 0, .null, []), (72, .iload_n 2, 1, 0, 0, .null, []), (73, .isub, 1, 0, 0, .null, []),
  (74, .iaload, 1, 0, 0, .null, []), (75, .if_icmp .ne 47, 3, 122, 0, .null, []), (78, .aload_n 0, 1, 0, 0, .null, []), (79, .iload 6, 2, 0, 0, .null, []), (81, .iload_n 2, 1, 0, 0, .null, []), (82, .iadd, 1, 0, 0, .null, []),
  (83, .iaload, 1, 0, 0, .null, []), (84, .aload_n 0, 1, 0, 0, .null, []), (85, .iload 7, 2, 0, 0, .null, []), (87, .iload_n 2, 1, 0, 0, .null, []), (88, .iadd, 1, 0, 0, .null, []), (89, .iaload, 1, 0, 0, .null, []),
  (90, .invokestatic 81, 3, 998, 2, .null, [1002, 0, 366, 66, 367]), (93, .iload_n 3, 1, 0, 0, .null, []), (94, .iconst 1, 1, 0, 0, .null, []), (95, .isub, 1, 0, 0, .null, []), (96, .if_icmp .ne 26, 3, 122, 0, .null, []), (99, .aload_n 0, 1, 0, 0, .null, []),
  (100, .iload 6, 2, 0, 0, .null, []), (102, .iload_n 2, 1, 0, 0, .null, []), (103, .iadd, 1, 0, 0, .null, []), (104, .iaload, 1, 0, 0, .null, []), (105, .aload_n 0, 1, 0, 0, .null, []), (106, .iload 7, 2, 0, 0, .null, []),
  (108, .iload_n 2, 1, 0, 0, .null, []), (109, .iadd, 1, 0, 0, .null, []), (110, .iaload, 1, 0, 0, .null, []), (111, .invokestatic 49, 3, 997, 2, .null, [988, 0, 363, 66, 364]), (114, .iload_n 3, 1, 0, 0, .null, []), (115, .if_icmp .ne 7, 3, 122, 0, .null, []),
  (118, .iconst 1, 1, 0, 0, .null, []), (119, .goto 4, 3, 123, 0, .null, []), (122, .iconst 0, 1, 0, 0, .null, []), (123, .istore 8, 2, 0, 0, .null, []), (125, .iload 4, 2, 0, 0, .null, []), (127, .iload 8, 2, 0, 0, .null, []),
  (129, .ifCond .eq 20, 3, 149, 0, .null, []), (132, .aload_n 0, 1, 0, 0, .null, []), (133, .bipush 30, 2, 0, 0, .null, []), (135, .iload 5, 2, 0, 0, .null, []), (137, .iadd, 1, 0, 0, .null, []), (138, .iaload, 1, 0, 0, .null, []),
  (139, .ifCond .ne 10, 3, 149, 0, .null, []), (142, .iconst 1, 1, 0, 0, .null, []), (143, .iload 5, 2, 0, 0, .null, []), (145, .ishl, 1, 0, 0, .null, []), (146, .goto 4, 3, 150, 0, .null, []), (149, .iconst 0, 1, 0, 0, .null, []),
  (150, .ior, 1, 0, 0, .null, []), (151, .istore 4, 2, 0, 0, .null, []), (153, .iinc 5 1, 3, 0, 0, .null, []), (156, .goto (-128), 3, 28, 0, .null, []), (159, .iload 4, 2, 0, 0, .null, []), (161, .ireturn, 1, 0, 0, .null, [])]
/-- SmallerInTheShopModel one (I)I -/
def mp_154 : List (Nat × mm_I) := [(0, .iload_n 0, 1, 0, 0, .null, []), (1, .iconst 3, 1, 0, 0, .null, []), (2, .if_icmp .ge 7, 3, 9, 0, .null, []), (5, .iload_n 0, 1, 0, 0, .null, []), (6, .goto 19, 3, 25, 0, .null, []), (9, .iload_n 0, 1, 0, 0, .null, []),
  (10, .bipush 6, 2, 0, 0, .null, []), (12, .if_icmp .ge 9, 3, 21, 0, .null, []), (15, .iload_n 0, 1, 0, 0, .null, []), (16, .iconst 1, 1, 0, 0, .null, []), (17, .iadd, 1, 0, 0, .null, []), (18, .goto 7, 3, 25, 0, .null, []),
  (21, .iload_n 0, 1, 0, 0, .null, []), (22, .bipush 6, 2, 0, 0, .null, []), (24, .isub, 1, 0, 0, .null, []), (25, .ireturn, 1, 0, 0, .null, [])]
/-- SmallerInTheShopModel other (I)I -/
def mp_155 : List (Nat × mm_I) := [(0, .iload_n 0, 1, 0, 0, .null, []), (1, .iconst 3, 1, 0, 0, .null, []), (2, .if_icmp .ge 9, 3, 11, 0, .null, []), (5, .iload_n 0, 1, 0, 0, .null, []), (6, .iconst 1, 1, 0, 0, .null, []), (7, .iadd, 1, 0, 0, .null, []),
  (8, .goto 18, 3, 26, 0, .null, []), (11, .iload_n 0, 1, 0, 0, .null, []), (12, .bipush 6, 2, 0, 0, .null, []), (14, .if_icmp .ge 9, 3, 23, 0, .null, []), (17, .iload_n 0, 1, 0, 0, .null, []), (18, .iconst 2, 1, 0, 0, .null, []),
  (19, .iadd, 1, 0, 0, .null, []), (20, .goto 6, 3, 26, 0, .null, []), (23, .iload_n 0, 1, 0, 0, .null, []), (24, .iconst 2, 1, 0, 0, .null, []), (25, .isub, 1, 0, 0, .null, []), (26, .ireturn, 1, 0, 0, .null, [])]
/-- SmallerInTheShopModel effortBy ([III)I -/
def mp_156 : List (Nat × mm_I) := [(0, .aload_n 0, 1, 0, 0, .null, []), (1, .iload_n 1, 1, 0, 0, .null, []), (2, .invokestatic 84, 3, 153, 2, .null, [993, 0, 994, 61]), (5, .istore_n 3, 1, 0, 0, .null, []), (6, .iconst 0, 1, 0, 0, .null, []), (7, .istore 4, 2, 0, 0, .null, []),
  (9, .iconst 0, 1, 0, 0, .null, []), (10, .istore 5, 2, 0, 0, .null, []), (12, .iload 5, 2, 0, 0, .null, []), (14, .bipush 10, 2, 0, 0, .null, []), (16, .if_icmp .ge 41, 3, 57, 0, .null, []), (19, .iload 4, 2, 0, 0, .null, []),
  (21, .iload_n 3, 1, 0, 0, .null, []), (22, .iload 5, 2, 0, 0, .null, []), (24, .ishr, 1, 0, 0, .null, []), (25, .iconst 1, 1, 0, 0, .null, []), (26, .iand, 1, 0, 0, .null, []), (27, .iconst 1, 1, 0, 0, .null, []),
  (28, .if_icmp .ne 19, 3, 47, 0, .null, []), (31, .aload_n 0, 1, 0, 0, .null, []), (32, .iload 5, 2, 0, 0, .null, []), (34, .aload_n 0, 1, 0, 0, .null, []), (35, .iload 5, 2, 0, 0, .null, []), (37, .iload_n 2, 1, 0, 0, .null, []),
  (38, .invokestatic 87, 3, 157, 3, .null, [1006, 0, 1007, 61]), (41, .invokestatic 91, 3, 158, 3, .null, [1009, 0, 1010, 61]), (44, .goto 4, 3, 48, 0, .null, []), (47, .iconst 0, 1, 0, 0, .null, []), (48, .iadd, 1, 0, 0, .null, []), (49, .istore 4, 2, 0, 0, .null, []),
  (51, .iinc 5 1, 3, 0, 0, .null, []), (54, .goto (-42), 3, 12, 0, .null, []), (57, .iload 4, 2, 0, 0, .null, []), (59, .ireturn, 1, 0, 0, .null, [])]
/-- SmallerInTheShopModel sideOf ([III)I -/
def mp_157 : List (Nat × mm_I) := [(0, .aload_n 0, 1, 0, 0, .null, []), (1, .bipush 40, 2, 0, 0, .null, []), (3, .iconst 4, 1, 0, 0, .null, []), (4, .iload_n 1, 1, 0, 0, .null, []), (5, .invokestatic 75, 3, 154, 1, .null, [996, 0, 997, 61]), (8, .imul, 1, 0, 0, .null, []),
  (9, .iadd, 1, 0, 0, .null, []), (10, .iconst 3, 1, 0, 0, .null, []), (11, .iadd, 1, 0, 0, .null, []), (12, .iaload, 1, 0, 0, .null, []), (13, .ifCond .ne 7, 3, 20, 0, .null, []), (16, .iconst 1, 1, 0, 0, .null, []),
  (17, .goto 4, 3, 21, 0, .null, []), (20, .iconst 0, 1, 0, 0, .null, []), (21, .istore_n 3, 1, 0, 0, .null, []), (22, .iload_n 3, 1, 0, 0, .null, []), (23, .iload_n 2, 1, 0, 0, .null, []), (24, .iconst 2, 1, 0, 0, .null, []),
  (25, .irem, 1, 0, 0, .null, []), (26, .ifCond .ne 7, 3, 33, 0, .null, []), (29, .iconst 1, 1, 0, 0, .null, []), (30, .goto 4, 3, 34, 0, .null, []), (33, .iconst 0, 1, 0, 0, .null, []), (34, .if_icmp .ne 7, 3, 41, 0, .null, []),
  (37, .iconst 2, 1, 0, 0, .null, []), (38, .goto 4, 3, 42, 0, .null, []), (41, .iconst 1, 1, 0, 0, .null, []), (42, .ireturn, 1, 0, 0, .null, [])]
/-- SmallerInTheShopModel effortOf ([III)I -/
def mp_158 : List (Nat × mm_I) := [(0, .aload_n 0, 1, 0, 0, .null, []), (1, .iconst 0, 1, 0, 0, .null, []), (2, .iload_n 1, 1, 0, 0, .null, []), (3, .iadd, 1, 0, 0, .null, []), (4, .iaload, 1, 0, 0, .null, []), (5, .aload_n 0, 1, 0, 0, .null, []),
  (6, .bipush 10, 2, 0, 0, .null, []), (8, .iload_n 1, 1, 0, 0, .null, []), (9, .iadd, 1, 0, 0, .null, []), (10, .iaload, 1, 0, 0, .null, []), (11, .aload_n 0, 1, 0, 0, .null, []), (12, .bipush 20, 2, 0, 0, .null, []),
  (14, .iload_n 1, 1, 0, 0, .null, []), (15, .iadd, 1, 0, 0, .null, []), (16, .iaload, 1, 0, 0, .null, []), (17, .iload_n 2, 1, 0, 0, .null, []), (18, .invokestatic 45, 3, 159, 4, .null, [1012, 0, 1013, 61]), (21, .ireturn, 1, 0, 0, .null, [])]
/-- SmallerInTheShopModel effort (IIII)I -/
def mp_159 : List (Nat × mm_I) := [(0, .iload_n 0, 1, 0, 0, .null, []), (1, .iconst 3, 1, 0, 0, .null, []), (2, .if_icmp .ne 15, 3, 17, 0, .null, []), (5, .iload_n 2, 1, 0, 0, .null, []), (6, .bipush 10, 2, 0, 0, .null, []), (8, .if_icmp .lt 9, 3, 17, 0, .null, []),
  (11, .iconst 3, 1, 0, 0, .null, []), (12, .iload_n 3, 1, 0, 0, .null, []), (13, .isub, 1, 0, 0, .null, []), (14, .goto 4, 3, 18, 0, .null, []), (17, .iload_n 3, 1, 0, 0, .null, []), (18, .istore 4, 2, 0, 0, .null, []),
  (20, .iload_n 0, 1, 0, 0, .null, []), (21, .tableswitch 80 1 5 #[35, 49, 35, 62, 65], 35, 0, 0, .null, []), (56, .iload 4, 2, 0, 0, .null, []), (58, .iconst 2, 1, 0, 0, .null, []), (59, .if_icmp .ne 9, 3, 68, 0, .null, []), (62, .iconst 3, 1, 0, 0, .null, []),
  (63, .iload_n 1, 1, 0, 0, .null, []), (64, .iadd, 1, 0, 0, .null, []), (65, .goto 4, 3, 69, 0, .null, []), (68, .iconst 3, 1, 0, 0, .null, []), (69, .ireturn, 1, 0, 0, .null, []), (70, .iload_n 3, 1, 0, 0, .null, []),
  (71, .iconst 1, 1, 0, 0, .null, []), (72, .if_icmp .ne 9, 3, 81, 0, .null, []), (75, .iconst 3, 1, 0, 0, .null, []), (76, .iload_n 1, 1, 0, 0, .null, []), (77, .iadd, 1, 0, 0, .null, []), (78, .goto 4, 3, 82, 0, .null, []),
  (81, .iconst 3, 1, 0, 0, .null, []), (82, .ireturn, 1, 0, 0, .null, []), (83, .bipush 7, 2, 0, 0, .null, []), (85, .ireturn, 1, 0, 0, .null, []), (86, .iload_n 3, 1, 0, 0, .null, []), (87, .iconst 1, 1, 0, 0, .null, []),
  (88, .if_icmp .ne 9, 3, 97, 0, .null, []), (91, .iconst 3, 1, 0, 0, .null, []), (92, .iload_n 1, 1, 0, 0, .null, []), (93, .iadd, 1, 0, 0, .null, []), (94, .goto 4, 3, 98, 0, .null, []), (97, .iconst 3, 1, 0, 0, .null, []),
  (98, .iconst 2, 1, 0, 0, .null, []), (99, .idiv, 1, 0, 0, .null, []), (100, .ireturn, 1, 0, 0, .null, []), (101, .iconst 3, 1, 0, 0, .null, []), (102, .ireturn, 1, 0, 0, .null, [])]
/-- SmallerInTheShopModel keepsAhead ([II)V -/
def mp_160 : List (Nat × mm_I) := [(0, .bipush 74, 2, 0, 0, .null, []), (2, .bipush 33, 2, 0, 0, .null, []), (4, .aload_n 0, 1, 0, 0, .null, []), (5, .bipush 73, 2, 0, 0, .null, []), (7, .iaload, 1, 0, 0, .null, []), (8, .imul, 1, 0, 0, .null, []),
  (9, .iadd, 1, 0, 0, .null, []), (10, .istore_n 2, 1, 0, 0, .null, []), (11, .iconst 0, 1, 0, 0, .null, []), (12, .istore_n 3, 1, 0, 0, .null, []), (13, .iload_n 3, 1, 0, 0, .null, []), (14, .bipush 32, 2, 0, 0, .null, []),
  (16, .if_icmp .ge 20, 3, 36, 0, .null, []), (19, .aload_n 0, 1, 0, 0, .null, []), (20, .iload_n 2, 1, 0, 0, .null, []), (21, .iload_n 3, 1, 0, 0, .null, []), (22, .iadd, 1, 0, 0, .null, []), (23, .aload_n 0, 1, 0, 0, .null, []),
  (24, .bipush 40, 2, 0, 0, .null, []), (26, .iload_n 3, 1, 0, 0, .null, []), (27, .iadd, 1, 0, 0, .null, []), (28, .iaload, 1, 0, 0, .null, []), (29, .iastore, 1, 0, 0, .null, []), (30, .iinc 3 1, 3, 0, 0, .null, []),
  (33, .goto (-20), 3, 13, 0, .null, []), (36, .aload_n 0, 1, 0, 0, .null, []), (37, .iload_n 2, 1, 0, 0, .null, []), (38, .bipush 32, 2, 0, 0, .null, []), (40, .iadd, 1, 0, 0, .null, []), (41, .iload_n 1, 1, 0, 0, .null, []),
  (42, .iastore, 1, 0, 0, .null, []), (43, .aload_n 0, 1, 0, 0, .null, []), (44, .bipush 73, 2, 0, 0, .null, []), (46, .dup2, 1, 0, 0, .null, []), (47, .iaload, 1, 0, 0, .null, []), (48, .iconst 1, 1, 0, 0, .null, []),
  (49, .iadd, 1, 0, 0, .null, []), (50, .iastore, 1, 0, 0, .null, []), (51, .return_, 1, 0, 0, .null, [])]
/-- SmallerInTheShopModel wear (III)I -/
def mp_161 : List (Nat × mm_I) := [(0, .iload_n 0, 1, 0, 0, .null, []), (1, .iconst 3, 1, 0, 0, .null, []), (2, .if_icmp .ne 15, 3, 17, 0, .null, []), (5, .iload_n 1, 1, 0, 0, .null, []), (6, .bipush 10, 2, 0, 0, .null, []), (8, .if_icmp .lt 9, 3, 17, 0, .null, []),
  (11, .iconst 3, 1, 0, 0, .null, []), (12, .iload_n 2, 1, 0, 0, .null, []), (13, .isub, 1, 0, 0, .null, []), (14, .goto 4, 3, 18, 0, .null, []), (17, .iload_n 2, 1, 0, 0, .null, []), (18, .istore_n 3, 1, 0, 0, .null, []),
  (19, .iload_n 0, 1, 0, 0, .null, []), (20, .tableswitch 71 1 5 #[36, 47, 36, 58, 60], 36, 0, 0, .null, []), (56, .iload_n 3, 1, 0, 0, .null, []), (57, .iconst 2, 1, 0, 0, .null, []), (58, .if_icmp .ne 7, 3, 65, 0, .null, []), (61, .iconst 2, 1, 0, 0, .null, []),
  (62, .goto 4, 3, 66, 0, .null, []), (65, .iconst 1, 1, 0, 0, .null, []), (66, .ireturn, 1, 0, 0, .null, []), (67, .iload_n 2, 1, 0, 0, .null, []), (68, .iconst 1, 1, 0, 0, .null, []), (69, .if_icmp .ne 7, 3, 76, 0, .null, []),
  (72, .iconst 2, 1, 0, 0, .null, []), (73, .goto 4, 3, 77, 0, .null, []), (76, .iconst 1, 1, 0, 0, .null, []), (77, .ireturn, 1, 0, 0, .null, []), (78, .iconst 0, 1, 0, 0, .null, []), (79, .ireturn, 1, 0, 0, .null, []),
  (80, .iload_n 2, 1, 0, 0, .null, []), (81, .iconst 1, 1, 0, 0, .null, []), (82, .if_icmp .ne 7, 3, 89, 0, .null, []), (85, .iconst 3, 1, 0, 0, .null, []), (86, .goto 4, 3, 90, 0, .null, []), (89, .iconst 2, 1, 0, 0, .null, []),
  (90, .ireturn, 1, 0, 0, .null, []), (91, .iconst 1, 1, 0, 0, .null, []), (92, .ireturn, 1, 0, 0, .null, [])]
/-- SmallerInTheShopModel lays ([III)V -/
def mp_162 : List (Nat × mm_I) := [(0, .iload_n 2, 1, 0, 0, .null, []), (1, .iconst 4, 1, 0, 0, .null, []), (2, .if_icmp .ne 7, 3, 9, 0, .null, []), (5, .iconst 1, 1, 0, 0, .null, []), (6, .goto 4, 3, 10, 0, .null, []), (9, .iconst 0, 1, 0, 0, .null, []),
  (10, .istore 4, 2, 0, 0, .null, []), (12, .iload_n 2, 1, 0, 0, .null, []), (13, .iconst 4, 1, 0, 0, .null, []), (14, .if_icmp .ne 7, 3, 21, 0, .null, []), (17, .iconst 1, 1, 0, 0, .null, []), (18, .goto 4, 3, 22, 0, .null, []),
  (21, .iload_n 2, 1, 0, 0, .null, []), (22, .istore 5, 2, 0, 0, .null, []), (24, .iload_n 3, 1, 0, 0, .null, []), (25, .iconst 1, 1, 0, 0, .null, []), (26, .if_icmp .le 7, 3, 33, 0, .null, []), (29, .iconst 1, 1, 0, 0, .null, []),
  (30, .goto 4, 3, 34, 0, .null, []), (33, .iconst 0, 1, 0, 0, .null, []), (34, .istore 6, 2, 0, 0, .null, []), (36, .iload_n 3, 1, 0, 0, .null, []), (37, .iconst 2, 1, 0, 0, .null, []), (38, .irem, 1, 0, 0, .null, []),
  (39, .ifCond .ne 7, 3, 46, 0, .null, []), (42, .iconst 1, 1, 0, 0, .null, []), (43, .goto 4, 3, 47, 0, .null, []), (46, .iconst 0, 1, 0, 0, .null, []), (47, .istore 7, 2, 0, 0, .null, []), (49, .iconst 0, 1, 0, 0, .null, []),
  (50, .istore 8, 2, 0, 0, .null, []), (52, .iload 8, 2, 0, 0, .null, []), (54, .bipush 32, 2, 0, 0, .null, []), (56, .if_icmp .ge 23, 3, 79, 0, .null, []), (59, .aload_n 0, 1, 0, 0, .null, []), (60, .getfield 30, 3, 6, 9, .null, [892, 0]),
  (63, .iload 8, 2, 0, 0, .null, []), (65, .aload_n 1, 1, 0, 0, .null, []), (66, .bipush 40, 2, 0, 0, .null, []), (68, .iload 8, 2, 0, 0, .null, []), (70, .iadd, 1, 0, 0, .null, []), (71, .iaload, 1, 0, 0, .null, []),
  (72, .iastore, 1, 0, 0, .null, []), (73, .iinc 8 1, 3, 0, 0, .null, []), (76, .goto (-24), 3, 52, 0, .null, []), (79, .iconst 0, 1, 0, 0, .null, []), (80, .istore 8, 2, 0, 0, .null, []), (82, .iload 8, 2, 0, 0, .null, []),
  (84, .bipush 8, 2, 0, 0, .null, []), (86, .if_icmp .ge 91, 3, 177, 0, .null, []), (89, .aload_n 0, 1, 0, 0, .null, []), (90, .getfield 30, 3, 6, 9, .null, [892, 0]), (93, .iconst 4, 1, 0, 0, .null, []), (94, .iload 8, 2, 0, 0, .null, []),
  (96, .imul, 1, 0, 0, .null, []), (97, .iload 4, 2, 0, 0, .null, []), (99, .iadd, 1, 0, 0, .null, []), (100, .iaload, 1, 0, 0, .null, []), (101, .iload 5, 2, 0, 0, .null, []), (103, .if_icmp .lt 7, 3, 110, 0, .null, []),
  (106, .iconst 1, 1, 0, 0, .null, []), (107, .goto 4, 3, 111, 0, .null, []), (110, .iconst 0, 1, 0, 0, .null, []), (111, .iload 6, 2, 0, 0, .null, []), (113, .if_icmp .ne 58, 3, 171, 0, .null, []), (116, .aload_n 1, 1, 0, 0, .null, []),
  (117, .bipush 40, 2, 0, 0, .null, []), (119, .iconst 4, 1, 0, 0, .null, []), (120, .iload 8, 2, 0, 0, .null, []), (122, .imul, 1, 0, 0, .null, []), (123, .iadd, 1, 0, 0, .null, []), (124, .iload 4, 2, 0, 0, .null, []),
  (126, .iadd, 1, 0, 0, .null, []), (127, .iconst 2, 1, 0, 0, .null, []), (128, .iload 5, 2, 0, 0, .null, []), (130, .imul, 1, 0, 0, .null, []), (131, .iconst 1, 1, 0, 0, .null, []), (132, .isub, 1, 0, 0, .null, []),
  (133, .aload_n 0, 1, 0, 0, .null, []), (134, .getfield 30, 3, 6, 9, .null, [892, 0]), (137, .iconst 4, 1, 0, 0, .null, []), (138, .iload 8, 2, 0, 0, .null, []), (140, .imul, 1, 0, 0, .null, []), (141, .iload 4, 2, 0, 0, .null, []),
  (143, .iadd, 1, 0, 0, .null, []), (144, .iaload, 1, 0, 0, .null, []), (145, .isub, 1, 0, 0, .null, []), (146, .iastore, 1, 0, 0, .null, []), (147, .aload_n 1, 1, 0, 0, .null, []), (148, .bipush 40, 2, 0, 0, .null, []),
  (150, .iconst 4, 1, 0, 0, .null, []), (151, .iload 8, 2, 0, 0, .null, []), (153, .imul, 1, 0, 0, .null, []), (154, .iadd, 1, 0, 0, .null, []), (155, .iconst 3, 1, 0, 0, .null, []), (156, .iadd, 1, 0, 0, .null, []),
  (157, .iconst 1, 1, 0, 0, .null, []), (158, .aload_n 0, 1, 0, 0, .null, []), (159, .getfield 30, 3, 6, 9, .null, [892, 0]), (162, .iconst 4, 1, 0, 0, .null, []), (163, .iload 8, 2, 0, 0, .null, []), (165, .imul, 1, 0, 0, .null, []),
  (166, .iconst 3, 1, 0, 0, .null, []), (167, .iadd, 1, 0, 0, .null, []), (168, .iaload, 1, 0, 0, .null, []), (169, .isub, 1, 0, 0, .null, []), (170, .iastore, 1, 0, 0, .null, []), (171, .iinc 8 1, 3, 0, 0, .null, []),
  (174, .goto (-92), 3, 82, 0, .null, []), (177, .iconst 0, 1, 0, 0, .null, []), (178, .istore 8, 2, 0, 0, .null, []), (180, .iload 8, 2, 0, 0, .null, []), (182, .bipush 8, 2, 0, 0, .null, []), (184, .if_icmp .ge 206, 3, 390, 0, .null, []),
  (187, .aload_n 0, 1, 0, 0, .null, []), (188, .getfield 30, 3, 6, 9, .null, [892, 0]), (191, .iconst 4, 1, 0, 0, .null, []), (192, .iload 8, 2, 0, 0, .null, []), (194, .imul, 1, 0, 0, .null, []), (195, .iload 4, 2, 0, 0, .null, []),
  (197, .iadd, 1, 0, 0, .null, []), (198, .iaload, 1, 0, 0, .null, []), (199, .iload 5, 2, 0, 0, .null, []), (201, .if_icmp .lt 7, 3, 208, 0, .null, []), (204, .iconst 1, 1, 0, 0, .null, []), (205, .goto 4, 3, 209, 0, .null, []),
  (208, .iconst 0, 1, 0, 0, .null, []), (209, .iload 6, 2, 0, 0, .null, []), (211, .if_icmp .ne 7, 3, 218, 0, .null, []), (214, .iconst 1, 1, 0, 0, .null, []), (215, .goto 4, 3, 219, 0, .null, []), (218, .iconst 0, 1, 0, 0, .null, []),
  (219, .istore 9, 2, 0, 0, .null, []), (221, .iconst 0, 1, 0, 0, .null, []), (222, .istore 10, 2, 0, 0, .null, []), (224, .iconst 0, 1, 0, 0, .null, []), (225, .istore 11, 2, 0, 0, .null, []), (227, .iload 11, 2, 0, 0, .null, []),
  (229, .bipush 8, 2, 0, 0, .null, []), (231, .if_icmp .ge 140, 3, 371, 0, .null, []), (234, .aload_n 0, 1, 0, 0, .null, []), (235, .getfield 30, 3, 6, 9, .null, [892, 0]), (238, .iconst 4, 1, 0, 0, .null, []), (239, .iload 11, 2, 0, 0, .null, []),
  (241, .imul, 1, 0, 0, .null, []), (242, .iload 4, 2, 0, 0, .null, []), (244, .iadd, 1, 0, 0, .null, []), (245, .iaload, 1, 0, 0, .null, []), (246, .iload 5, 2, 0, 0, .null, []), (248, .if_icmp .lt 7, 3, 255, 0, .null, []),
  (251, .iconst 1, 1, 0, 0, .null, []), (252, .goto 4, 3, 256, 0, .null, []), (255, .iconst 0, 1, 0, 0, .null, []), (256, .iload 6, 2, 0, 0, .null, []), (258, .if_icmp .ne 7, 3, 265, 0, .null, []), (261, .iconst 1, 1, 0, 0, .null, []),
  (262, .goto 4, 3, 266, 0, .null, []), (265, .iconst 0, 1, 0, 0, .null, []), (266, .istore 12, 2, 0, 0, .null, []), (268, .iload 9, 2, 0, 0, .null, []), (270, .iload 12, 2, 0, 0, .null, []), (272, .if_icmp .ne 46, 3, 318, 0, .null, []),
  (275, .iload 9, 2, 0, 0, .null, []), (277, .aload_n 0, 1, 0, 0, .null, []), (278, .getfield 30, 3, 6, 9, .null, [892, 0]), (281, .iconst 4, 1, 0, 0, .null, []), (282, .iload 11, 2, 0, 0, .null, []), (284, .imul, 1, 0, 0, .null, []),
  (285, .iconst 2, 1, 0, 0, .null, []), (286, .iadd, 1, 0, 0, .null, []), (287, .iaload, 1, 0, 0, .null, []), (288, .aload_n 0, 1, 0, 0, .null, []), (289, .getfield 30, 3, 6, 9, .null, [892, 0]), (292, .iconst 4, 1, 0, 0, .null, []),
  (293, .iload 8, 2, 0, 0, .null, []), (295, .imul, 1, 0, 0, .null, []), (296, .iconst 2, 1, 0, 0, .null, []), (297, .iadd, 1, 0, 0, .null, []), (298, .iaload, 1, 0, 0, .null, []), (299, .if_icmp .ge 7, 3, 306, 0, .null, []),
  (302, .iconst 1, 1, 0, 0, .null, []), (303, .goto 4, 3, 307, 0, .null, []), (306, .iconst 0, 1, 0, 0, .null, []), (307, .if_icmp .eq 7, 3, 314, 0, .null, []), (310, .iconst 1, 1, 0, 0, .null, []), (311, .goto 19, 3, 330, 0, .null, []),
  (314, .iconst 0, 1, 0, 0, .null, []), (315, .goto 15, 3, 330, 0, .null, []), (318, .iload 9, 2, 0, 0, .null, []), (320, .iload 7, 2, 0, 0, .null, []), (322, .if_icmp .ne 7, 3, 329, 0, .null, []), (325, .iconst 1, 1, 0, 0, .null, []),
  (326, .goto 4, 3, 330, 0, .null, []), (329, .iconst 0, 1, 0, 0, .null, []), (330, .istore 13, 2, 0, 0, .null, []), (332, .iload 10, 2, 0, 0, .null, []), (334, .iload 11, 2, 0, 0, .null, []), (336, .iload 8, 2, 0, 0, .null, []),
  (338, .if_icmp .eq 23, 3, 361, 0, .null, []), (341, .aload_n 1, 1, 0, 0, .null, []), (342, .iload 8, 2, 0, 0, .null, []), (344, .iload 11, 2, 0, 0, .null, []), (346, .invokestatic 65, 3, 163, 3, .null, [1025, 0, 1026, 61]), (349, .ifCond .eq 12, 3, 361, 0, .null, []),
  (352, .iload 13, 2, 0, 0, .null, []), (354, .ifCond .eq 7, 3, 361, 0, .null, []), (357, .iconst 1, 1, 0, 0, .null, []), (358, .goto 4, 3, 362, 0, .null, []), (361, .iconst 0, 1, 0, 0, .null, []), (362, .iadd, 1, 0, 0, .null, []),
  (363, .istore 10, 2, 0, 0, .null, []), (365, .iinc 11 1, 3, 0, 0, .null, []), (368, .goto (-141), 3, 227, 0, .null, []), (371, .aload_n 1, 1, 0, 0, .null, []), (372, .bipush 40, 2, 0, 0, .null, []), (374, .iconst 4, 1, 0, 0, .null, []),
  (375, .iload 8, 2, 0, 0, .null, []), (377, .imul, 1, 0, 0, .null, []), (378, .iadd, 1, 0, 0, .null, []), (379, .iconst 2, 1, 0, 0, .null, []), (380, .iadd, 1, 0, 0, .null, []), (381, .iload 10, 2, 0, 0, .null, []),
  (383, .iastore, 1, 0, 0, .null, []), (384, .iinc 8 1, 3, 0, 0, .null, []), (387, .goto (-207), 3, 180, 0, .null, []), (390, .bipush 9, 2, 0, 0, .null, []), (392, .istore 8, 2, 0, 0, .null, []), (394, .iconst 0, 1, 0, 0, .null, []),
  (395, .istore 9, 2, 0, 0, .null, []), (397, .iload 9, 2, 0, 0, .null, []), (399, .bipush 8, 2, 0, 0, .null, []), (401, .if_icmp .ge 28, 3, 429, 0, .null, []), (404, .iload 8, 2, 0, 0, .null, []), (406, .aload_n 1, 1, 0, 0, .null, []),
  (407, .bipush 40, 2, 0, 0, .null, []), (409, .iconst 4, 1, 0, 0, .null, []), (410, .iload 9, 2, 0, 0, .null, []), (412, .imul, 1, 0, 0, .null, []), (413, .iadd, 1, 0, 0, .null, []), (414, .iload 4, 2, 0, 0, .null, []),
  (416, .iadd, 1, 0, 0, .null, []), (417, .iaload, 1, 0, 0, .null, []), (418, .invokestatic 81, 3, 998, 2, .null, [1002, 0, 366, 66, 367]), (421, .istore 8, 2, 0, 0, .null, []), (423, .iinc 9 1, 3, 0, 0, .null, []), (426, .goto (-29), 3, 397, 0, .null, []),
  (429, .iconst 0, 1, 0, 0, .null, []), (430, .istore 9, 2, 0, 0, .null, []), (432, .iload 9, 2, 0, 0, .null, []), (434, .bipush 8, 2, 0, 0, .null, []), (436, .if_icmp .ge 26, 3, 462, 0, .null, []), (439, .aload_n 1, 1, 0, 0, .null, []),
  (440, .bipush 40, 2, 0, 0, .null, []), (442, .iconst 4, 1, 0, 0, .null, []), (443, .iload 9, 2, 0, 0, .null, []), (445, .imul, 1, 0, 0, .null, []), (446, .iadd, 1, 0, 0, .null, []), (447, .iload 4, 2, 0, 0, .null, []),
  (449, .iadd, 1, 0, 0, .null, []), (450, .dup2, 1, 0, 0, .null, []), (451, .iaload, 1, 0, 0, .null, []), (452, .iload 8, 2, 0, 0, .null, []), (454, .isub, 1, 0, 0, .null, []), (455, .iastore, 1, 0, 0, .null, []),
  (456, .iinc 9 1, 3, 0, 0, .null, []), (459, .goto (-27), 3, 432, 0, .null, []), (462, .return_, 1, 0, 0, .null, [])]
/-- SmallerInTheShopModel isOneCell ([III)Z -/
def mp_163 : List (Nat × mm_I) := [(0, .aload_n 0, 1, 0, 0, .null, []), (1, .bipush 40, 2, 0, 0, .null, []), (3, .iconst 4, 1, 0, 0, .null, []), (4, .iload_n 1, 1, 0, 0, .null, []), (5, .imul, 1, 0, 0, .null, []), (6, .iadd, 1, 0, 0, .null, []),
  (7, .iaload, 1, 0, 0, .null, []), (8, .aload_n 0, 1, 0, 0, .null, []), (9, .bipush 40, 2, 0, 0, .null, []), (11, .iconst 4, 1, 0, 0, .null, []), (12, .iload_n 2, 1, 0, 0, .null, []), (13, .imul, 1, 0, 0, .null, []),
  (14, .iadd, 1, 0, 0, .null, []), (15, .iaload, 1, 0, 0, .null, []), (16, .if_icmp .ne 30, 3, 46, 0, .null, []), (19, .aload_n 0, 1, 0, 0, .null, []), (20, .bipush 40, 2, 0, 0, .null, []), (22, .iconst 4, 1, 0, 0, .null, []),
  (23, .iload_n 1, 1, 0, 0, .null, []), (24, .imul, 1, 0, 0, .null, []), (25, .iadd, 1, 0, 0, .null, []), (26, .iconst 1, 1, 0, 0, .null, []), (27, .iadd, 1, 0, 0, .null, []), (28, .iaload, 1, 0, 0, .null, []),
  (29, .aload_n 0, 1, 0, 0, .null, []), (30, .bipush 40, 2, 0, 0, .null, []), (32, .iconst 4, 1, 0, 0, .null, []), (33, .iload_n 2, 1, 0, 0, .null, []), (34, .imul, 1, 0, 0, .null, []), (35, .iadd, 1, 0, 0, .null, []),
  (36, .iconst 1, 1, 0, 0, .null, []), (37, .iadd, 1, 0, 0, .null, []), (38, .iaload, 1, 0, 0, .null, []), (39, .if_icmp .ne 7, 3, 46, 0, .null, []), (42, .iconst 1, 1, 0, 0, .null, []), (43, .goto 4, 3, 47, 0, .null, []),
  (46, .iconst 0, 1, 0, 0, .null, []), (47, .ireturn, 1, 0, 0, .null, [])]
/-- SmallerInTheShopModel opened ([I)V -/
def mp_164 : List (Nat × mm_I) := [(0, .aload_n 0, 1, 0, 0, .null, []), (1, .bipush 73, 2, 0, 0, .null, []), (3, .dup2, 1, 0, 0, .null, []), (4, .iaload, 1, 0, 0, .null, []), (5, .iconst 1, 1, 0, 0, .null, []), (6, .isub, 1, 0, 0, .null, []),
  (7, .iastore, 1, 0, 0, .null, []), (8, .bipush 74, 2, 0, 0, .null, []), (10, .bipush 33, 2, 0, 0, .null, []), (12, .aload_n 0, 1, 0, 0, .null, []), (13, .bipush 73, 2, 0, 0, .null, []), (15, .iaload, 1, 0, 0, .null, []),
  (16, .imul, 1, 0, 0, .null, []), (17, .iadd, 1, 0, 0, .null, []), (18, .istore_n 1, 1, 0, 0, .null, []), (19, .iconst 0, 1, 0, 0, .null, []), (20, .istore_n 2, 1, 0, 0, .null, []), (21, .iload_n 2, 1, 0, 0, .null, []),
  (22, .bipush 32, 2, 0, 0, .null, []), (24, .if_icmp .ge 20, 3, 44, 0, .null, []), (27, .aload_n 0, 1, 0, 0, .null, []), (28, .bipush 40, 2, 0, 0, .null, []), (30, .iload_n 2, 1, 0, 0, .null, []), (31, .iadd, 1, 0, 0, .null, []),
  (32, .aload_n 0, 1, 0, 0, .null, []), (33, .iload_n 1, 1, 0, 0, .null, []), (34, .iload_n 2, 1, 0, 0, .null, []), (35, .iadd, 1, 0, 0, .null, []), (36, .iaload, 1, 0, 0, .null, []), (37, .iastore, 1, 0, 0, .null, []),
  (38, .iinc 2 1, 3, 0, 0, .null, []), (41, .goto (-20), 3, 21, 0, .null, []), (44, .iconst 0, 1, 0, 0, .null, []), (45, .istore_n 2, 1, 0, 0, .null, []), (46, .iload_n 2, 1, 0, 0, .null, []), (47, .bipush 10, 2, 0, 0, .null, []),
  (49, .if_icmp .ge 39, 3, 88, 0, .null, []), (52, .aload_n 0, 1, 0, 0, .null, []), (53, .bipush 30, 2, 0, 0, .null, []), (55, .iload_n 2, 1, 0, 0, .null, []), (56, .iadd, 1, 0, 0, .null, []), (57, .aload_n 0, 1, 0, 0, .null, []),
  (58, .iload_n 1, 1, 0, 0, .null, []), (59, .bipush 32, 2, 0, 0, .null, []), (61, .iadd, 1, 0, 0, .null, []), (62, .iaload, 1, 0, 0, .null, []), (63, .iload_n 2, 1, 0, 0, .null, []), (64, .ishr, 1, 0, 0, .null, []),
  (65, .iconst 1, 1, 0, 0, .null, []), (66, .iand, 1, 0, 0, .null, []), (67, .iconst 1, 1, 0, 0, .null, []), (68, .if_icmp .ne 7, 3, 75, 0, .null, []), (71, .iconst 0, 1, 0, 0, .null, []), (72, .goto 9, 3, 81, 0, .null, []),
  (75, .aload_n 0, 1, 0, 0, .null, []), (76, .bipush 30, 2, 0, 0, .null, []), (78, .iload_n 2, 1, 0, 0, .null, []), (79, .iadd, 1, 0, 0, .null, []), (80, .iaload, 1, 0, 0, .null, []), (81, .iastore, 1, 0, 0, .null, []),
  (82, .iinc 2 1, 3, 0, 0, .null, []), (85, .goto (-39), 3, 46, 0, .null, []), (88, .return_, 1, 0, 0, .null, [])]
/-- SmallerInTheShopModel crease (II)I -/
def mp_165 : List (Nat × mm_I) := [(0, .iload_n 1, 1, 0, 0, .null, []), (1, .invokestatic 157, 3, 166, 1, .null, [1035, 0, 1036, 61]), (4, .ifCond .ne 9, 3, 13, 0, .null, []), (7, .aload_n 0, 1, 0, 0, .null, []), (8, .iconst (-1), 1, 0, 0, .null, []), (9, .invokevirtual 41, 3, 141, 2, .null, [945, 0, 947, 61, 33]),
  (12, .ireturn, 1, 0, 0, .null, []), (13, .iload_n 2, 1, 0, 0, .null, []), (14, .i2l, 1, 0, 0, .null, []), (15, .lconst 0, 1, 0, 0, .null, []), (16, .ldc2_w 161, 3, 0, 0, .long (5), [1039]), (19, .invokestatic 57, 3, 146, 3, .null, [967, 0, 968, 61]),
  (22, .ifCond .ne 10, 3, 32, 0, .null, []), (25, .aload_n 0, 1, 0, 0, .null, []), (26, .bipush (-2), 2, 0, 0, .null, []), (28, .invokevirtual 41, 3, 141, 2, .null, [945, 0, 947, 61, 33]), (31, .ireturn, 1, 0, 0, .null, []), (32, .iload_n 2, 1, 0, 0, .null, []),
  (33, .iconst 4, 1, 0, 0, .null, []), (34, .if_icmp .ge 17, 3, 51, 0, .null, []), (37, .aload_n 0, 1, 0, 0, .null, []), (38, .getfield 9, 3, 6, 0, .null, [883, 0]), (41, .bipush 10, 2, 0, 0, .null, []), (43, .iload_n 2, 1, 0, 0, .null, []),
  (44, .imul, 1, 0, 0, .null, []), (45, .iload_n 1, 1, 0, 0, .null, []), (46, .iadd, 1, 0, 0, .null, []), (47, .iaload, 1, 0, 0, .null, []), (48, .goto 14, 3, 62, 0, .null, []), (51, .aload_n 0, 1, 0, 0, .null, []),
  (52, .getfield 9, 3, 6, 0, .null, [883, 0]), (55, .iload_n 1, 1, 0, 0, .null, []), (56, .iload_n 2, 1, 0, 0, .null, []), (57, .iconst 3, 1, 0, 0, .null, []), (58, .isub, 1, 0, 0, .null, []), (59, .invokestatic 91, 3, 158, 3, .null, [1009, 0, 1010, 61]),
  (62, .ireturn, 1, 0, 0, .null, [])]
/-- SmallerInTheShopModel isCrease (I)Z -/
def mp_166 : List (Nat × mm_I) := [(0, .iload_n 0, 1, 0, 0, .null, []), (1, .i2l, 1, 0, 0, .null, []), (2, .lconst 0, 1, 0, 0, .null, []), (3, .ldc2_w 153, 3, 0, 0, .long (9), [1038]), (6, .invokestatic 57, 3, 146, 3, .null, [967, 0, 968, 61]), (9, .ireturn, 1, 0, 0, .null, [])]
/-- SmallerInTheShopModel panel (II)I -/
def mp_167 : List (Nat × mm_I) := [(0, .iload_n 1, 1, 0, 0, .null, []), (1, .invokestatic 163, 3, 168, 1, .null, [1044, 0, 1045, 61]), (4, .ifCond .ne 9, 3, 13, 0, .null, []), (7, .aload_n 0, 1, 0, 0, .null, []), (8, .iconst (-1), 1, 0, 0, .null, []), (9, .invokevirtual 41, 3, 141, 2, .null, [945, 0, 947, 61, 33]),
  (12, .ireturn, 1, 0, 0, .null, []), (13, .iload_n 2, 1, 0, 0, .null, []), (14, .i2l, 1, 0, 0, .null, []), (15, .lconst 0, 1, 0, 0, .null, []), (16, .ldc2_w 161, 3, 0, 0, .long (5), [1039]), (19, .invokestatic 57, 3, 146, 3, .null, [967, 0, 968, 61]),
  (22, .ifCond .ne 10, 3, 32, 0, .null, []), (25, .aload_n 0, 1, 0, 0, .null, []), (26, .bipush (-2), 2, 0, 0, .null, []), (28, .invokevirtual 41, 3, 141, 2, .null, [945, 0, 947, 61, 33]), (31, .ireturn, 1, 0, 0, .null, []), (32, .iload_n 2, 1, 0, 0, .null, []),
  (33, .iconst 4, 1, 0, 0, .null, []), (34, .if_icmp .ge 19, 3, 53, 0, .null, []), (37, .aload_n 0, 1, 0, 0, .null, []), (38, .getfield 9, 3, 6, 0, .null, [883, 0]), (41, .bipush 40, 2, 0, 0, .null, []), (43, .iconst 4, 1, 0, 0, .null, []),
  (44, .iload_n 1, 1, 0, 0, .null, []), (45, .imul, 1, 0, 0, .null, []), (46, .iadd, 1, 0, 0, .null, []), (47, .iload_n 2, 1, 0, 0, .null, []), (48, .iadd, 1, 0, 0, .null, []), (49, .iaload, 1, 0, 0, .null, []),
  (50, .goto 35, 3, 85, 0, .null, []), (53, .iload_n 2, 1, 0, 0, .null, []), (54, .iconst 4, 1, 0, 0, .null, []), (55, .if_icmp .ne 22, 3, 77, 0, .null, []), (58, .aload_n 0, 1, 0, 0, .null, []), (59, .getfield 9, 3, 6, 0, .null, [883, 0]),
  (62, .iload_n 1, 1, 0, 0, .null, []), (63, .invokestatic 166, 3, 169, 2, .null, [1048, 0, 1049, 61]), (66, .ifCond .eq 7, 3, 73, 0, .null, []), (69, .iconst 1, 1, 0, 0, .null, []), (70, .goto 15, 3, 85, 0, .null, []), (73, .iconst 0, 1, 0, 0, .null, []),
  (74, .goto 11, 3, 85, 0, .null, []), (77, .aload_n 0, 1, 0, 0, .null, []), (78, .getfield 9, 3, 6, 0, .null, [883, 0]), (81, .iload_n 1, 1, 0, 0, .null, []), (82, .invokestatic 69, 3, 171, 2, .null, [1054, 0, 1055, 61]), (85, .ireturn, 1, 0, 0, .null, [])]
/-- SmallerInTheShopModel isPanel (I)Z -/
def mp_168 : List (Nat × mm_I) := [(0, .iload_n 0, 1, 0, 0, .null, []), (1, .i2l, 1, 0, 0, .null, []), (2, .lconst 0, 1, 0, 0, .null, []), (3, .ldc2_w 155, 3, 0, 0, .long (7), [1047]), (6, .invokestatic 57, 3, 146, 3, .null, [967, 0, 968, 61]), (9, .ireturn, 1, 0, 0, .null, [])]
/-- SmallerInTheShopModel isRead ([II)Z -/
def mp_169 : List (Nat × mm_I) := [(0, .aload_n 0, 1, 0, 0, .null, []), (1, .iload_n 1, 1, 0, 0, .null, []), (2, .iconst 0, 1, 0, 0, .null, []), (3, .invokestatic 72, 3, 170, 3, .null, [1051, 0, 1052, 61]), (6, .ireturn, 1, 0, 0, .null, [])]
/-- SmallerInTheShopModel shows ([III)Z -/
def mp_170 : List (Nat × mm_I) := [(0, .aload_n 0, 1, 0, 0, .null, []), (1, .bipush 40, 2, 0, 0, .null, []), (3, .iconst 4, 1, 0, 0, .null, []), (4, .iload_n 1, 1, 0, 0, .null, []), (5, .imul, 1, 0, 0, .null, []), (6, .iadd, 1, 0, 0, .null, []),
  (7, .iconst 3, 1, 0, 0, .null, []), (8, .iadd, 1, 0, 0, .null, []), (9, .iaload, 1, 0, 0, .null, []), (10, .iload_n 2, 1, 0, 0, .null, []), (11, .if_icmp .ne 7, 3, 18, 0, .null, []), (14, .iconst 1, 1, 0, 0, .null, []),
  (15, .goto 4, 3, 19, 0, .null, []), (18, .iconst 0, 1, 0, 0, .null, []), (19, .istore_n 3, 1, 0, 0, .null, []), (20, .iload_n 3, 1, 0, 0, .null, []), (21, .ifCond .eq 11, 3, 32, 0, .null, []), (24, .aload_n 0, 1, 0, 0, .null, []),
  (25, .iload_n 1, 1, 0, 0, .null, []), (26, .invokestatic 69, 3, 171, 2, .null, [1054, 0, 1055, 61]), (29, .ifCond .eq 20, 3, 49, 0, .null, []), (32, .iload_n 3, 1, 0, 0, .null, []), (33, .ifCond .ne 20, 3, 53, 0, .null, []), (36, .aload_n 0, 1, 0, 0, .null, []),
  (37, .bipush 40, 2, 0, 0, .null, []), (39, .iconst 4, 1, 0, 0, .null, []), (40, .iload_n 1, 1, 0, 0, .null, []), (41, .imul, 1, 0, 0, .null, []), (42, .iadd, 1, 0, 0, .null, []), (43, .iconst 2, 1, 0, 0, .null, []),
  (44, .iadd, 1, 0, 0, .null, []), (45, .iaload, 1, 0, 0, .null, []), (46, .ifCond .ne 7, 3, 53, 0, .null, []), (49, .iconst 1, 1, 0, 0, .null, []), (50, .goto 4, 3, 54, 0, .null, []), (53, .iconst 0, 1, 0, 0, .null, []),
  (54, .ireturn, 1, 0, 0, .null, [])]
/-- SmallerInTheShopModel above ([II)I -/
def mp_171 : List (Nat × mm_I) := [(0, .iconst 0, 1, 0, 0, .null, []), (1, .istore_n 2, 1, 0, 0, .null, []), (2, .iconst 0, 1, 0, 0, .null, []), (3, .istore_n 3, 1, 0, 0, .null, []), (4, .iload_n 3, 1, 0, 0, .null, []), (5, .bipush 8, 2, 0, 0, .null, []),
  (7, .if_icmp .ge 54, 3, 61, 0, .null, []), (10, .iload_n 2, 1, 0, 0, .null, []), (11, .iload_n 3, 1, 0, 0, .null, []), (12, .iload_n 1, 1, 0, 0, .null, []), (13, .if_icmp .eq 39, 3, 52, 0, .null, []), (16, .aload_n 0, 1, 0, 0, .null, []),
  (17, .iload_n 1, 1, 0, 0, .null, []), (18, .iload_n 3, 1, 0, 0, .null, []), (19, .invokestatic 65, 3, 163, 3, .null, [1025, 0, 1026, 61]), (22, .ifCond .eq 30, 3, 52, 0, .null, []), (25, .aload_n 0, 1, 0, 0, .null, []), (26, .bipush 40, 2, 0, 0, .null, []),
  (28, .iconst 4, 1, 0, 0, .null, []), (29, .iload_n 3, 1, 0, 0, .null, []), (30, .imul, 1, 0, 0, .null, []), (31, .iadd, 1, 0, 0, .null, []), (32, .iconst 2, 1, 0, 0, .null, []), (33, .iadd, 1, 0, 0, .null, []),
  (34, .iaload, 1, 0, 0, .null, []), (35, .aload_n 0, 1, 0, 0, .null, []), (36, .bipush 40, 2, 0, 0, .null, []), (38, .iconst 4, 1, 0, 0, .null, []), (39, .iload_n 1, 1, 0, 0, .null, []), (40, .imul, 1, 0, 0, .null, []),
  (41, .iadd, 1, 0, 0, .null, []), (42, .iconst 2, 1, 0, 0, .null, []), (43, .iadd, 1, 0, 0, .null, []), (44, .iaload, 1, 0, 0, .null, []), (45, .if_icmp .le 7, 3, 52, 0, .null, []), (48, .iconst 1, 1, 0, 0, .null, []),
  (49, .goto 4, 3, 53, 0, .null, []), (52, .iconst 0, 1, 0, 0, .null, []), (53, .iadd, 1, 0, 0, .null, []), (54, .istore_n 2, 1, 0, 0, .null, []), (55, .iinc 3 1, 3, 0, 0, .null, []), (58, .goto (-54), 3, 4, 0, .null, []),
  (61, .iload_n 2, 1, 0, 0, .null, []), (62, .ireturn, 1, 0, 0, .null, [])]
/-- SmallerInTheShopModel fold (II)I -/
def mp_172 : List (Nat × mm_I) := [(0, .aload_n 0, 1, 0, 0, .null, []), (1, .getfield 9, 3, 6, 0, .null, [883, 0]), (4, .iload_n 1, 1, 0, 0, .null, []), (5, .invokestatic 132, 3, 150, 2, .null, [981, 0, 982, 61]), (8, .ifCond .ne 9, 3, 17, 0, .null, []), (11, .aload_n 0, 1, 0, 0, .null, []),
  (12, .iconst (-1), 1, 0, 0, .null, []), (13, .invokevirtual 41, 3, 141, 2, .null, [945, 0, 947, 61, 33]), (16, .ireturn, 1, 0, 0, .null, []), (17, .iload_n 2, 1, 0, 0, .null, []), (18, .i2l, 1, 0, 0, .null, []), (19, .lconst 0, 1, 0, 0, .null, []),
  (20, .ldc2_w 55, 3, 0, 0, .long (3), [984]), (23, .invokestatic 57, 3, 146, 3, .null, [967, 0, 968, 61]), (26, .ifCond .eq 16, 3, 42, 0, .null, []), (29, .aload_n 0, 1, 0, 0, .null, []), (30, .aload_n 0, 1, 0, 0, .null, []), (31, .getfield 9, 3, 6, 0, .null, [883, 0]),
  (34, .iload_n 1, 1, 0, 0, .null, []), (35, .iload_n 2, 1, 0, 0, .null, []), (36, .invokevirtual 136, 3, 152, 4, .null, [989, 0, 991, 61, 38]), (39, .goto 9, 3, 48, 0, .null, []), (42, .aload_n 0, 1, 0, 0, .null, []), (43, .bipush (-2), 2, 0, 0, .null, []),
  (45, .invokevirtual 41, 3, 141, 2, .null, [945, 0, 947, 61, 33]), (48, .ireturn, 1, 0, 0, .null, [])]
/-- SmallerInTheShopModel opens ()I -/
def mp_173 : List (Nat × mm_I) := [(0, .aload_n 0, 1, 0, 0, .null, []), (1, .getfield 9, 3, 6, 0, .null, [883, 0]), (4, .bipush 73, 2, 0, 0, .null, []), (6, .iaload, 1, 0, 0, .null, []), (7, .ifCond .ne 10, 3, 17, 0, .null, []), (10, .aload_n 0, 1, 0, 0, .null, []),
  (11, .bipush (-3), 2, 0, 0, .null, []), (13, .invokevirtual 41, 3, 141, 2, .null, [945, 0, 947, 61, 33]), (16, .ireturn, 1, 0, 0, .null, []), (17, .aload_n 0, 1, 0, 0, .null, []), (18, .getfield 9, 3, 6, 0, .null, [883, 0]), (21, .invokestatic 139, 3, 164, 1, .null, [1028, 0, 1029, 61]),
  (24, .aload_n 0, 1, 0, 0, .null, []), (25, .getfield 9, 3, 6, 0, .null, [883, 0]), (28, .bipush 73, 2, 0, 0, .null, []), (30, .iaload, 1, 0, 0, .null, []), (31, .ireturn, 1, 0, 0, .null, [])]
/-- SmallerInTheShopModel wears (II)I -/
def mp_174 : List (Nat × mm_I) := [(0, .iload_n 1, 1, 0, 0, .null, []), (1, .invokestatic 157, 3, 166, 1, .null, [1035, 0, 1036, 61]), (4, .ifCond .ne 9, 3, 13, 0, .null, []), (7, .aload_n 0, 1, 0, 0, .null, []), (8, .iconst (-1), 1, 0, 0, .null, []), (9, .invokevirtual 41, 3, 141, 2, .null, [945, 0, 947, 61, 33]),
  (12, .ireturn, 1, 0, 0, .null, []), (13, .iload_n 2, 1, 0, 0, .null, []), (14, .i2l, 1, 0, 0, .null, []), (15, .lconst 0, 1, 0, 0, .null, []), (16, .ldc2_w 169, 3, 0, 0, .long (99), [1069]), (19, .invokestatic 57, 3, 146, 3, .null, [967, 0, 968, 61]),
  (22, .ifCond .ne 19, 3, 41, 0, .null, []), (25, .aload_n 0, 1, 0, 0, .null, []), (26, .iload_n 2, 1, 0, 0, .null, []), (27, .ifCond .ge 8, 3, 35, 0, .null, []), (30, .bipush (-4), 2, 0, 0, .null, []), (32, .goto 5, 3, 37, 0, .null, []),
  (35, .bipush (-6), 2, 0, 0, .null, []), (37, .invokevirtual 41, 3, 141, 2, .null, [945, 0, 947, 61, 33]), (40, .ireturn, 1, 0, 0, .null, []), (41, .aload_n 0, 1, 0, 0, .null, []), (42, .getfield 9, 3, 6, 0, .null, [883, 0]), (45, .bipush 20, 2, 0, 0, .null, []),
  (47, .iload_n 1, 1, 0, 0, .null, []), (48, .iadd, 1, 0, 0, .null, []), (49, .iaload, 1, 0, 0, .null, []), (50, .istore_n 3, 1, 0, 0, .null, []), (51, .aload_n 0, 1, 0, 0, .null, []), (52, .getfield 9, 3, 6, 0, .null, [883, 0]),
  (55, .bipush 20, 2, 0, 0, .null, []), (57, .iload_n 1, 1, 0, 0, .null, []), (58, .iadd, 1, 0, 0, .null, []), (59, .iload_n 2, 1, 0, 0, .null, []), (60, .iastore, 1, 0, 0, .null, []), (61, .iload_n 3, 1, 0, 0, .null, []),
  (62, .ireturn, 1, 0, 0, .null, [])]
/-- SmallerInTheShopModel turn (III)I -/
def mp_175 : List (Nat × mm_I) := [(0, .iload_n 1, 1, 0, 0, .null, []), (1, .invokestatic 157, 3, 166, 1, .null, [1035, 0, 1036, 61]), (4, .ifCond .ne 9, 3, 13, 0, .null, []), (7, .aload_n 0, 1, 0, 0, .null, []), (8, .iconst (-1), 1, 0, 0, .null, []), (9, .invokevirtual 41, 3, 141, 2, .null, [945, 0, 947, 61, 33]),
  (12, .ireturn, 1, 0, 0, .null, []), (13, .iload_n 2, 1, 0, 0, .null, []), (14, .i2l, 1, 0, 0, .null, []), (15, .lconst 0, 1, 0, 0, .null, []), (16, .ldc2_w 161, 3, 0, 0, .long (5), [1039]), (19, .invokestatic 57, 3, 146, 3, .null, [967, 0, 968, 61]),
  (22, .ifCond .ne 10, 3, 32, 0, .null, []), (25, .aload_n 0, 1, 0, 0, .null, []), (26, .bipush (-2), 2, 0, 0, .null, []), (28, .invokevirtual 41, 3, 141, 2, .null, [945, 0, 947, 61, 33]), (31, .ireturn, 1, 0, 0, .null, []), (32, .iload_n 3, 1, 0, 0, .null, []),
  (33, .i2l, 1, 0, 0, .null, []), (34, .lconst 0, 1, 0, 0, .null, []), (35, .ldc2_w 153, 3, 0, 0, .long (9), [1038]), (38, .invokestatic 57, 3, 146, 3, .null, [967, 0, 968, 61]), (41, .ifCond .ne 19, 3, 60, 0, .null, []), (44, .aload_n 0, 1, 0, 0, .null, []),
  (45, .iload_n 3, 1, 0, 0, .null, []), (46, .ifCond .ge 8, 3, 54, 0, .null, []), (49, .bipush (-4), 2, 0, 0, .null, []), (51, .goto 5, 3, 56, 0, .null, []), (54, .bipush (-6), 2, 0, 0, .null, []), (56, .invokevirtual 41, 3, 141, 2, .null, [945, 0, 947, 61, 33]),
  (59, .ireturn, 1, 0, 0, .null, []), (60, .bipush 10, 2, 0, 0, .null, []), (62, .aload_n 0, 1, 0, 0, .null, []), (63, .getfield 9, 3, 6, 0, .null, [883, 0]), (66, .iconst 0, 1, 0, 0, .null, []), (67, .iload_n 1, 1, 0, 0, .null, []),
  (68, .iadd, 1, 0, 0, .null, []), (69, .iaload, 1, 0, 0, .null, []), (70, .imul, 1, 0, 0, .null, []), (71, .aload_n 0, 1, 0, 0, .null, []), (72, .getfield 9, 3, 6, 0, .null, [883, 0]), (75, .bipush 10, 2, 0, 0, .null, []),
  (77, .iload_n 1, 1, 0, 0, .null, []), (78, .iadd, 1, 0, 0, .null, []), (79, .iaload, 1, 0, 0, .null, []), (80, .iadd, 1, 0, 0, .null, []), (81, .istore 4, 2, 0, 0, .null, []), (83, .aload_n 0, 1, 0, 0, .null, []),
  (84, .getfield 9, 3, 6, 0, .null, [883, 0]), (87, .iconst 0, 1, 0, 0, .null, []), (88, .iload_n 1, 1, 0, 0, .null, []), (89, .iadd, 1, 0, 0, .null, []), (90, .iload_n 2, 1, 0, 0, .null, []), (91, .iastore, 1, 0, 0, .null, []),
  (92, .aload_n 0, 1, 0, 0, .null, []), (93, .getfield 9, 3, 6, 0, .null, [883, 0]), (96, .bipush 10, 2, 0, 0, .null, []), (98, .iload_n 1, 1, 0, 0, .null, []), (99, .iadd, 1, 0, 0, .null, []), (100, .iload_n 3, 1, 0, 0, .null, []),
  (101, .iastore, 1, 0, 0, .null, []), (102, .iload 4, 2, 0, 0, .null, []), (104, .ireturn, 1, 0, 0, .null, [])]
/-- SmallerInTheShopModel cover (I)I -/
def mp_176 : List (Nat × mm_I) := [(0, .iload_n 1, 1, 0, 0, .null, []), (1, .invokestatic 163, 3, 168, 1, .null, [1044, 0, 1045, 61]), (4, .ifCond .ne 9, 3, 13, 0, .null, []), (7, .aload_n 0, 1, 0, 0, .null, []), (8, .iconst (-1), 1, 0, 0, .null, []), (9, .invokevirtual 41, 3, 141, 2, .null, [945, 0, 947, 61, 33]),
  (12, .ireturn, 1, 0, 0, .null, []), (13, .aload_n 0, 1, 0, 0, .null, []), (14, .getfield 9, 3, 6, 0, .null, [883, 0]), (17, .bipush 72, 2, 0, 0, .null, []), (19, .iaload, 1, 0, 0, .null, []), (20, .istore_n 2, 1, 0, 0, .null, []),
  (21, .aload_n 0, 1, 0, 0, .null, []), (22, .getfield 9, 3, 6, 0, .null, [883, 0]), (25, .bipush 72, 2, 0, 0, .null, []), (27, .iload_n 1, 1, 0, 0, .null, []), (28, .iastore, 1, 0, 0, .null, []), (29, .iload_n 2, 1, 0, 0, .null, []),
  (30, .ireturn, 1, 0, 0, .null, [])]
/-- SmallerInTheShopModel hurts (III)I -/
def mp_177 : List (Nat × mm_I) := [(0, .aload_n 0, 1, 0, 0, .null, []), (1, .getfield 9, 3, 6, 0, .null, [883, 0]), (4, .iload_n 1, 1, 0, 0, .null, []), (5, .invokestatic 132, 3, 150, 2, .null, [981, 0, 982, 61]), (8, .ifCond .ne 9, 3, 17, 0, .null, []), (11, .aload_n 0, 1, 0, 0, .null, []),
  (12, .iconst (-1), 1, 0, 0, .null, []), (13, .invokevirtual 41, 3, 141, 2, .null, [945, 0, 947, 61, 33]), (16, .ireturn, 1, 0, 0, .null, []), (17, .iload_n 2, 1, 0, 0, .null, []), (18, .i2l, 1, 0, 0, .null, []), (19, .lconst 0, 1, 0, 0, .null, []),
  (20, .ldc2_w 55, 3, 0, 0, .long (3), [984]), (23, .invokestatic 57, 3, 146, 3, .null, [967, 0, 968, 61]), (26, .ifCond .eq 15, 3, 41, 0, .null, []), (29, .iload_n 3, 1, 0, 0, .null, []), (30, .i2l, 1, 0, 0, .null, []), (31, .lconst 0, 1, 0, 0, .null, []),
  (32, .ldc2_w 171, 3, 0, 0, .long (2), [1082]), (35, .invokestatic 57, 3, 146, 3, .null, [967, 0, 968, 61]), (38, .ifCond .ne 10, 3, 48, 0, .null, []), (41, .aload_n 0, 1, 0, 0, .null, []), (42, .bipush (-2), 2, 0, 0, .null, []), (44, .invokevirtual 41, 3, 141, 2, .null, [945, 0, 947, 61, 33]),
  (47, .ireturn, 1, 0, 0, .null, []), (48, .aload_n 0, 1, 0, 0, .null, []), (49, .getfield 9, 3, 6, 0, .null, [883, 0]), (52, .aload_n 0, 1, 0, 0, .null, []), (53, .getfield 18, 3, 6, 2, .null, [885, 0]), (56, .iconst 0, 1, 0, 0, .null, []),
  (57, .aaload, 1, 0, 0, .null, []), (58, .invokestatic 146, 3, 147, 2, .null, [970, 0, 971, 61]), (61, .aload_n 0, 1, 0, 0, .null, []), (62, .aload_n 0, 1, 0, 0, .null, []), (63, .getfield 18, 3, 6, 2, .null, [885, 0]), (66, .iconst 0, 1, 0, 0, .null, []),
  (67, .aaload, 1, 0, 0, .null, []), (68, .iload_n 1, 1, 0, 0, .null, []), (69, .iload_n 2, 1, 0, 0, .null, []), (70, .invokevirtual 136, 3, 152, 4, .null, [989, 0, 991, 61, 38]), (73, .istore 4, 2, 0, 0, .null, []), (75, .iload_n 3, 1, 0, 0, .null, []),
  (76, .ifCond .ne 8, 3, 84, 0, .null, []), (79, .iload 4, 2, 0, 0, .null, []), (81, .goto 36, 3, 117, 0, .null, []), (84, .iload_n 3, 1, 0, 0, .null, []), (85, .iconst 1, 1, 0, 0, .null, []), (86, .if_icmp .ne 14, 3, 100, 0, .null, []),
  (89, .aload_n 0, 1, 0, 0, .null, []), (90, .getfield 9, 3, 6, 0, .null, [883, 0]), (93, .iload_n 1, 1, 0, 0, .null, []), (94, .invokestatic 84, 3, 153, 2, .null, [993, 0, 994, 61]), (97, .goto 20, 3, 117, 0, .null, []), (100, .aload_n 0, 1, 0, 0, .null, []),
  (101, .getfield 18, 3, 6, 2, .null, [885, 0]), (104, .iconst 0, 1, 0, 0, .null, []), (105, .aaload, 1, 0, 0, .null, []), (106, .invokestatic 173, 3, 178, 1, .null, [1083, 0, 1084, 61]), (109, .aload_n 0, 1, 0, 0, .null, []), (110, .getfield 9, 3, 6, 0, .null, [883, 0]),
  (113, .invokestatic 173, 3, 178, 1, .null, [1083, 0, 1084, 61]), (116, .isub, 1, 0, 0, .null, []), (117, .ireturn, 1, 0, 0, .null, [])]
/-- SmallerInTheShopModel wornAll ([I)I -/
def mp_178 : List (Nat × mm_I) := [(0, .iconst 0, 1, 0, 0, .null, []), (1, .istore_n 1, 1, 0, 0, .null, []), (2, .iconst 0, 1, 0, 0, .null, []), (3, .istore_n 2, 1, 0, 0, .null, []), (4, .iload_n 2, 1, 0, 0, .null, []), (5, .bipush 10, 2, 0, 0, .null, []),
  (7, .if_icmp .ge 18, 3, 25, 0, .null, []), (10, .iload_n 1, 1, 0, 0, .null, []), (11, .aload_n 0, 1, 0, 0, .null, []), (12, .bipush 20, 2, 0, 0, .null, []), (14, .iload_n 2, 1, 0, 0, .null, []), (15, .iadd, 1, 0, 0, .null, []),
  (16, .iaload, 1, 0, 0, .null, []), (17, .iadd, 1, 0, 0, .null, []), (18, .istore_n 1, 1, 0, 0, .null, []), (19, .iinc 2 1, 3, 0, 0, .null, []), (22, .goto (-18), 3, 4, 0, .null, []), (25, .iload_n 1, 1, 0, 0, .null, []),
  (26, .ireturn, 1, 0, 0, .null, [])]
/-- SmallerInTheShopModel over (II)I -/
def mp_179 : List (Nat × mm_I) := [(0, .iload_n 1, 1, 0, 0, .null, []), (1, .invokestatic 163, 3, 168, 1, .null, [1044, 0, 1045, 61]), (4, .ifCond .eq 15, 3, 19, 0, .null, []), (7, .iload_n 2, 1, 0, 0, .null, []), (8, .invokestatic 163, 3, 168, 1, .null, [1044, 0, 1045, 61]), (11, .ifCond .eq 8, 3, 19, 0, .null, []),
  (14, .iload_n 1, 1, 0, 0, .null, []), (15, .iload_n 2, 1, 0, 0, .null, []), (16, .if_icmp .ne 9, 3, 25, 0, .null, []), (19, .aload_n 0, 1, 0, 0, .null, []), (20, .iconst (-1), 1, 0, 0, .null, []), (21, .invokevirtual 41, 3, 141, 2, .null, [945, 0, 947, 61, 33]),
  (24, .ireturn, 1, 0, 0, .null, []), (25, .aload_n 0, 1, 0, 0, .null, []), (26, .getfield 9, 3, 6, 0, .null, [883, 0]), (29, .iload_n 1, 1, 0, 0, .null, []), (30, .iload_n 2, 1, 0, 0, .null, []), (31, .invokestatic 65, 3, 163, 3, .null, [1025, 0, 1026, 61]),
  (34, .ifCond .eq 36, 3, 70, 0, .null, []), (37, .aload_n 0, 1, 0, 0, .null, []), (38, .getfield 9, 3, 6, 0, .null, [883, 0]), (41, .bipush 40, 2, 0, 0, .null, []), (43, .iconst 4, 1, 0, 0, .null, []), (44, .iload_n 1, 1, 0, 0, .null, []),
  (45, .imul, 1, 0, 0, .null, []), (46, .iadd, 1, 0, 0, .null, []), (47, .iconst 2, 1, 0, 0, .null, []), (48, .iadd, 1, 0, 0, .null, []), (49, .iaload, 1, 0, 0, .null, []), (50, .aload_n 0, 1, 0, 0, .null, []),
  (51, .getfield 9, 3, 6, 0, .null, [883, 0]), (54, .bipush 40, 2, 0, 0, .null, []), (56, .iconst 4, 1, 0, 0, .null, []), (57, .iload_n 2, 1, 0, 0, .null, []), (58, .imul, 1, 0, 0, .null, []), (59, .iadd, 1, 0, 0, .null, []),
  (60, .iconst 2, 1, 0, 0, .null, []), (61, .iadd, 1, 0, 0, .null, []), (62, .iaload, 1, 0, 0, .null, []), (63, .if_icmp .le 7, 3, 70, 0, .null, []), (66, .iconst 1, 1, 0, 0, .null, []), (67, .goto 4, 3, 71, 0, .null, []),
  (70, .iconst 0, 1, 0, 0, .null, []), (71, .ireturn, 1, 0, 0, .null, [])]
/-- SmallerInTheShopModel wad (I)I -/
def mp_180 : List (Nat × mm_I) := [(0, .iload_n 1, 1, 0, 0, .null, []), (1, .tableswitch 106 0 6 #[43, 52, 61, 69, 77, 93, 101], 43, 0, 0, .null, []), (44, .aload_n 0, 1, 0, 0, .null, []), (45, .getfield 9, 3, 6, 0, .null, [883, 0]), (48, .iconst 0, 1, 0, 0, .null, []), (49, .invokestatic 61, 3, 151, 2, .null, [985, 0, 986, 61]),
  (52, .ireturn, 1, 0, 0, .null, []), (53, .aload_n 0, 1, 0, 0, .null, []), (54, .getfield 9, 3, 6, 0, .null, [883, 0]), (57, .iconst 1, 1, 0, 0, .null, []), (58, .invokestatic 61, 3, 151, 2, .null, [985, 0, 986, 61]), (61, .ireturn, 1, 0, 0, .null, []),
  (62, .aload_n 0, 1, 0, 0, .null, []), (63, .getfield 9, 3, 6, 0, .null, [883, 0]), (66, .invokestatic 177, 3, 181, 1, .null, [1094, 0, 1095, 61]), (69, .ireturn, 1, 0, 0, .null, []), (70, .aload_n 0, 1, 0, 0, .null, []), (71, .getfield 9, 3, 6, 0, .null, [883, 0]),
  (74, .invokestatic 180, 3, 182, 1, .null, [1097, 0, 1098, 61]), (77, .ireturn, 1, 0, 0, .null, []), (78, .aload_n 0, 1, 0, 0, .null, []), (79, .getfield 9, 3, 6, 0, .null, [883, 0]), (82, .invokestatic 183, 3, 183, 1, .null, [1100, 0, 1101, 61]), (85, .ifCond .eq 7, 3, 92, 0, .null, []),
  (88, .iconst 1, 1, 0, 0, .null, []), (89, .goto 4, 3, 93, 0, .null, []), (92, .iconst 0, 1, 0, 0, .null, []), (93, .ireturn, 1, 0, 0, .null, []), (94, .aload_n 0, 1, 0, 0, .null, []), (95, .getfield 9, 3, 6, 0, .null, [883, 0]),
  (98, .bipush 73, 2, 0, 0, .null, []), (100, .iaload, 1, 0, 0, .null, []), (101, .ireturn, 1, 0, 0, .null, []), (102, .aload_n 0, 1, 0, 0, .null, []), (103, .invokevirtual 187, 3, 184, 1, .null, [1103, 0, 1105, 61, 40]), (106, .ireturn, 1, 0, 0, .null, []),
  (107, .aload_n 0, 1, 0, 0, .null, []), (108, .bipush (-2), 2, 0, 0, .null, []), (110, .invokevirtual 41, 3, 141, 2, .null, [945, 0, 947, 61, 33]), (113, .ireturn, 1, 0, 0, .null, [])]
/-- SmallerInTheShopModel thickness ([I)I -/
def mp_181 : List (Nat × mm_I) := [(0, .iconst 0, 1, 0, 0, .null, []), (1, .istore_n 1, 1, 0, 0, .null, []), (2, .iconst 0, 1, 0, 0, .null, []), (3, .istore_n 2, 1, 0, 0, .null, []), (4, .iload_n 2, 1, 0, 0, .null, []), (5, .bipush 8, 2, 0, 0, .null, []),
  (7, .if_icmp .ge 51, 3, 58, 0, .null, []), (10, .iconst 0, 1, 0, 0, .null, []), (11, .istore_n 3, 1, 0, 0, .null, []), (12, .iconst 0, 1, 0, 0, .null, []), (13, .istore 4, 2, 0, 0, .null, []), (15, .iload 4, 2, 0, 0, .null, []),
  (17, .bipush 8, 2, 0, 0, .null, []), (19, .if_icmp .ge 27, 3, 46, 0, .null, []), (22, .iload_n 3, 1, 0, 0, .null, []), (23, .aload_n 0, 1, 0, 0, .null, []), (24, .iload_n 2, 1, 0, 0, .null, []), (25, .iload 4, 2, 0, 0, .null, []),
  (27, .invokestatic 65, 3, 163, 3, .null, [1025, 0, 1026, 61]), (30, .ifCond .eq 7, 3, 37, 0, .null, []), (33, .iconst 1, 1, 0, 0, .null, []), (34, .goto 4, 3, 38, 0, .null, []), (37, .iconst 0, 1, 0, 0, .null, []), (38, .iadd, 1, 0, 0, .null, []),
  (39, .istore_n 3, 1, 0, 0, .null, []), (40, .iinc 4 1, 3, 0, 0, .null, []), (43, .goto (-28), 3, 15, 0, .null, []), (46, .iload_n 1, 1, 0, 0, .null, []), (47, .iload_n 3, 1, 0, 0, .null, []), (48, .invokestatic 49, 3, 997, 2, .null, [988, 0, 363, 66, 364]),
  (51, .istore_n 1, 1, 0, 0, .null, []), (52, .iinc 2 1, 3, 0, 0, .null, []), (55, .goto (-51), 3, 4, 0, .null, []), (58, .iload_n 1, 1, 0, 0, .null, []), (59, .ireturn, 1, 0, 0, .null, [])]
/-- SmallerInTheShopModel readSet ([I)I -/
def mp_182 : List (Nat × mm_I) := [(0, .iconst 0, 1, 0, 0, .null, []), (1, .istore_n 1, 1, 0, 0, .null, []), (2, .iconst 0, 1, 0, 0, .null, []), (3, .istore_n 2, 1, 0, 0, .null, []), (4, .iload_n 2, 1, 0, 0, .null, []), (5, .bipush 8, 2, 0, 0, .null, []),
  (7, .if_icmp .ge 27, 3, 34, 0, .null, []), (10, .iload_n 1, 1, 0, 0, .null, []), (11, .aload_n 0, 1, 0, 0, .null, []), (12, .iload_n 2, 1, 0, 0, .null, []), (13, .invokestatic 166, 3, 169, 2, .null, [1048, 0, 1049, 61]), (16, .ifCond .eq 9, 3, 25, 0, .null, []),
  (19, .iconst 1, 1, 0, 0, .null, []), (20, .iload_n 2, 1, 0, 0, .null, []), (21, .ishl, 1, 0, 0, .null, []), (22, .goto 4, 3, 26, 0, .null, []), (25, .iconst 0, 1, 0, 0, .null, []), (26, .ior, 1, 0, 0, .null, []),
  (27, .istore_n 1, 1, 0, 0, .null, []), (28, .iinc 2 1, 3, 0, 0, .null, []), (31, .goto (-27), 3, 4, 0, .null, []), (34, .iload_n 1, 1, 0, 0, .null, []), (35, .ireturn, 1, 0, 0, .null, [])]
/-- SmallerInTheShopModel isOut ([I)Z -/
def mp_183 : List (Nat × mm_I) := [(0, .aload_n 0, 1, 0, 0, .null, []), (1, .aload_n 0, 1, 0, 0, .null, []), (2, .bipush 72, 2, 0, 0, .null, []), (4, .iaload, 1, 0, 0, .null, []), (5, .iconst 1, 1, 0, 0, .null, []), (6, .invokestatic 72, 3, 170, 3, .null, [1051, 0, 1052, 61]),
  (9, .ireturn, 1, 0, 0, .null, [])]
/-- SmallerInTheShopModel flat ()I -/
def mp_184 : List (Nat × mm_I) := [(0, .iconst 0, 1, 0, 0, .null, []), (1, .istore_n 1, 1, 0, 0, .null, []), (2, .iconst 0, 1, 0, 0, .null, []), (3, .istore_n 2, 1, 0, 0, .null, []), (4, .iload_n 2, 1, 0, 0, .null, []), (5, .bipush 10, 2, 0, 0, .null, []),
  (7, .if_icmp .ge 31, 3, 38, 0, .null, []), (10, .iload_n 1, 1, 0, 0, .null, []), (11, .aload_n 0, 1, 0, 0, .null, []), (12, .getfield 9, 3, 6, 0, .null, [883, 0]), (15, .bipush 30, 2, 0, 0, .null, []), (17, .iload_n 2, 1, 0, 0, .null, []),
  (18, .iadd, 1, 0, 0, .null, []), (19, .iaload, 1, 0, 0, .null, []), (20, .ifCond .ne 9, 3, 29, 0, .null, []), (23, .iconst 1, 1, 0, 0, .null, []), (24, .iload_n 2, 1, 0, 0, .null, []), (25, .ishl, 1, 0, 0, .null, []),
  (26, .goto 4, 3, 30, 0, .null, []), (29, .iconst 0, 1, 0, 0, .null, []), (30, .ior, 1, 0, 0, .null, []), (31, .istore_n 1, 1, 0, 0, .null, []), (32, .iinc 2 1, 3, 0, 0, .null, []), (35, .goto (-31), 3, 4, 0, .null, []),
  (38, .iload_n 1, 1, 0, 0, .null, []), (39, .ireturn, 1, 0, 0, .null, [])]
/-- SmallerInTheShopModel shut (I)I -/
def mp_185 : List (Nat × mm_I) := [(0, .iload_n 1, 1, 0, 0, .null, []), (1, .i2l, 1, 0, 0, .null, []), (2, .lconst 0, 1, 0, 0, .null, []), (3, .ldc2_w 171, 3, 0, 0, .long (2), [1082]), (6, .invokestatic 57, 3, 146, 3, .null, [967, 0, 968, 61]), (9, .ifCond .ne 10, 3, 19, 0, .null, []),
  (12, .aload_n 0, 1, 0, 0, .null, []), (13, .bipush (-2), 2, 0, 0, .null, []), (15, .invokevirtual 41, 3, 141, 2, .null, [945, 0, 947, 61, 33]), (18, .ireturn, 1, 0, 0, .null, []), (19, .aload_n 0, 1, 0, 0, .null, []), (20, .iconst 0, 1, 0, 0, .null, []),
  (21, .iconst 0, 1, 0, 0, .null, []), (22, .iconst 0, 1, 0, 0, .null, []), (23, .invokevirtual 235, 3, 186, 4, .null, [1111, 0, 1113, 61, 41]), (26, .iload_n 1, 1, 0, 0, .null, []), (27, .ifCond .ne 10, 3, 37, 0, .null, []), (30, .aload_n 0, 1, 0, 0, .null, []),
  (31, .getfield 191, 3, 6, 14, .null, [897, 0]), (34, .goto 19, 3, 53, 0, .null, []), (37, .iload_n 1, 1, 0, 0, .null, []), (38, .iconst 1, 1, 0, 0, .null, []), (39, .if_icmp .ne 10, 3, 49, 0, .null, []), (42, .aload_n 0, 1, 0, 0, .null, []),
  (43, .getfield 194, 3, 6, 15, .null, [898, 0]), (46, .goto 7, 3, 53, 0, .null, []), (49, .aload_n 0, 1, 0, 0, .null, []), (50, .getfield 210, 3, 6, 16, .null, [899, 0]), (53, .ireturn, 1, 0, 0, .null, [])]
/-- SmallerInTheShopModel seek (III)V -/
def mp_186 : List (Nat × mm_I) := [(0, .aload_n 0, 1, 0, 0, .null, []), (1, .iload_n 1, 1, 0, 0, .null, []), (2, .putfield 203, 3, 6, 11, .null, [894, 0]), (5, .aload_n 0, 1, 0, 0, .null, []), (6, .iload_n 2, 1, 0, 0, .null, []), (7, .putfield 213, 3, 6, 12, .null, [895, 0]),
  (10, .aload_n 0, 1, 0, 0, .null, []), (11, .iload_n 3, 1, 0, 0, .null, []), (12, .putfield 200, 3, 6, 13, .null, [896, 0]), (15, .aload_n 0, 1, 0, 0, .null, []), (16, .bipush (-9), 2, 0, 0, .null, []), (18, .putfield 191, 3, 6, 14, .null, [897, 0]),
  (21, .aload_n 0, 1, 0, 0, .null, []), (22, .bipush (-9), 2, 0, 0, .null, []), (24, .putfield 194, 3, 6, 15, .null, [898, 0]), (27, .aload_n 0, 1, 0, 0, .null, []), (28, .bipush (-9), 2, 0, 0, .null, []), (30, .putfield 210, 3, 6, 16, .null, [899, 0]),
  (33, .aload_n 0, 1, 0, 0, .null, []), (34, .iconst 0, 1, 0, 0, .null, []), (35, .putfield 216, 3, 6, 17, .null, [900, 0]), (38, .aload_n 0, 1, 0, 0, .null, []), (39, .getfield 9, 3, 6, 0, .null, [883, 0]), (42, .aload_n 0, 1, 0, 0, .null, []),
  (43, .getfield 18, 3, 6, 2, .null, [885, 0]), (46, .iconst 0, 1, 0, 0, .null, []), (47, .aaload, 1, 0, 0, .null, []), (48, .invokestatic 146, 3, 147, 2, .null, [970, 0, 971, 61]), (51, .aload_n 0, 1, 0, 0, .null, []), (52, .iconst 0, 1, 0, 0, .null, []),
  (53, .iconst 0, 1, 0, 0, .null, []), (54, .iconst 0, 1, 0, 0, .null, []), (55, .invokevirtual 231, 3, 187, 4, .null, [1115, 0, 1117, 61, 42]), (58, .return_, 1, 0, 0, .null, [])]
/-- SmallerInTheShopModel seeks (III)V -/
def mp_187 : List (Nat × mm_I) := [(0, .aload_n 0, 1, 0, 0, .null, []), (1, .aload_n 0, 1, 0, 0, .null, []), (2, .getfield 18, 3, 6, 2, .null, [885, 0]), (5, .iload_n 1, 1, 0, 0, .null, []), (6, .aaload, 1, 0, 0, .null, []), (7, .iload_n 1, 1, 0, 0, .null, []),
  (8, .iload_n 2, 1, 0, 0, .null, []), (9, .iload_n 3, 1, 0, 0, .null, []), (10, .invokevirtual 227, 3, 188, 5, .null, [1119, 0, 1121, 61, 43]), (13, .iconst 1, 1, 0, 0, .null, []), (14, .istore 4, 2, 0, 0, .null, []), (16, .iload 4, 2, 0, 0, .null, []),
  (18, .iconst 5, 1, 0, 0, .null, []), (19, .if_icmp .ge 97, 3, 116, 0, .null, []), (22, .iconst 0, 1, 0, 0, .null, []), (23, .istore 5, 2, 0, 0, .null, []), (25, .iload 5, 2, 0, 0, .null, []), (27, .iconst 4, 1, 0, 0, .null, []),
  (28, .if_icmp .ge 82, 3, 110, 0, .null, []), (31, .aload_n 0, 1, 0, 0, .null, []), (32, .getfield 18, 3, 6, 2, .null, [885, 0]), (35, .iload_n 1, 1, 0, 0, .null, []), (36, .aaload, 1, 0, 0, .null, []), (37, .iload 4, 2, 0, 0, .null, []),
  (39, .invokestatic 132, 3, 150, 2, .null, [981, 0, 982, 61]), (42, .ifCond .eq 68, 3, 110, 0, .null, []), (45, .aload_n 0, 1, 0, 0, .null, []), (46, .getfield 18, 3, 6, 2, .null, [885, 0]), (49, .iload_n 1, 1, 0, 0, .null, []), (50, .aaload, 1, 0, 0, .null, []),
  (51, .aload_n 0, 1, 0, 0, .null, []), (52, .getfield 18, 3, 6, 2, .null, [885, 0]), (55, .iload_n 1, 1, 0, 0, .null, []), (56, .iconst 1, 1, 0, 0, .null, []), (57, .iadd, 1, 0, 0, .null, []), (58, .aaload, 1, 0, 0, .null, []),
  (59, .invokestatic 146, 3, 147, 2, .null, [970, 0, 971, 61]), (62, .aload_n 0, 1, 0, 0, .null, []), (63, .aload_n 0, 1, 0, 0, .null, []), (64, .getfield 18, 3, 6, 2, .null, [885, 0]), (67, .iload_n 1, 1, 0, 0, .null, []), (68, .iconst 1, 1, 0, 0, .null, []),
  (69, .iadd, 1, 0, 0, .null, []), (70, .aaload, 1, 0, 0, .null, []), (71, .iload 4, 2, 0, 0, .null, []), (73, .iload 5, 2, 0, 0, .null, []), (75, .invokevirtual 136, 3, 152, 4, .null, [989, 0, 991, 61, 38]), (78, .istore 6, 2, 0, 0, .null, []),
  (80, .aload_n 0, 1, 0, 0, .null, []), (81, .iload_n 1, 1, 0, 0, .null, []), (82, .iconst 1, 1, 0, 0, .null, []), (83, .iadd, 1, 0, 0, .null, []), (84, .bipush 100, 2, 0, 0, .null, []), (86, .iload_n 2, 1, 0, 0, .null, []),
  (87, .imul, 1, 0, 0, .null, []), (88, .bipush 10, 2, 0, 0, .null, []), (90, .iload 4, 2, 0, 0, .null, []), (92, .imul, 1, 0, 0, .null, []), (93, .iadd, 1, 0, 0, .null, []), (94, .iload 5, 2, 0, 0, .null, []),
  (96, .iadd, 1, 0, 0, .null, []), (97, .iload_n 3, 1, 0, 0, .null, []), (98, .iload 6, 2, 0, 0, .null, []), (100, .iadd, 1, 0, 0, .null, []), (101, .invokevirtual 231, 3, 187, 4, .null, [1115, 0, 1117, 61, 42]), (104, .iinc 5 1, 3, 0, 0, .null, []),
  (107, .goto (-82), 3, 25, 0, .null, []), (110, .iinc 4 1, 3, 0, 0, .null, []), (113, .goto (-97), 3, 16, 0, .null, []), (116, .return_, 1, 0, 0, .null, [])]
/-- SmallerInTheShopModel meets ([IIII)V -/
def mp_188 : List (Nat × mm_I) := [(0, .aload_n 1, 1, 0, 0, .null, []), (1, .iconst 0, 1, 0, 0, .null, []), (2, .invokestatic 61, 3, 151, 2, .null, [985, 0, 986, 61]), (5, .aload_n 1, 1, 0, 0, .null, []), (6, .iconst 1, 1, 0, 0, .null, []), (7, .invokestatic 61, 3, 151, 2, .null, [985, 0, 986, 61]),
  (10, .imul, 1, 0, 0, .null, []), (11, .aload_n 0, 1, 0, 0, .null, []), (12, .getfield 200, 3, 6, 13, .null, [896, 0]), (15, .if_icmp .gt 7, 3, 22, 0, .null, []), (18, .iconst 1, 1, 0, 0, .null, []), (19, .goto 4, 3, 23, 0, .null, []),
  (22, .iconst 0, 1, 0, 0, .null, []), (23, .istore 5, 2, 0, 0, .null, []), (25, .aload_n 0, 1, 0, 0, .null, []), (26, .getfield 203, 3, 6, 11, .null, [894, 0]), (29, .ifCond .ne 52, 3, 81, 0, .null, []), (32, .aload_n 1, 1, 0, 0, .null, []),
  (33, .invokestatic 197, 3, 189, 1, .null, [1123, 0, 1124, 61]), (36, .ifCond .eq 45, 3, 81, 0, .null, []), (39, .aload_n 1, 1, 0, 0, .null, []), (40, .invokestatic 183, 3, 183, 1, .null, [1100, 0, 1101, 61]), (43, .ifCond .eq 38, 3, 81, 0, .null, []), (46, .aload_n 0, 1, 0, 0, .null, []),
  (47, .iload_n 3, 1, 0, 0, .null, []), (48, .iload 4, 2, 0, 0, .null, []), (50, .invokevirtual 206, 3, 190, 3, .null, [1126, 0, 1128, 61, 44]), (53, .aload_n 0, 1, 0, 0, .null, []), (54, .aload_n 0, 1, 0, 0, .null, []), (55, .getfield 210, 3, 6, 16, .null, [899, 0]),
  (58, .bipush (-9), 2, 0, 0, .null, []), (60, .if_icmp .ne 7, 3, 67, 0, .null, []), (63, .iload_n 2, 1, 0, 0, .null, []), (64, .goto 11, 3, 75, 0, .null, []), (67, .aload_n 0, 1, 0, 0, .null, []), (68, .getfield 210, 3, 6, 16, .null, [899, 0]),
  (71, .iload_n 2, 1, 0, 0, .null, []), (72, .invokestatic 81, 3, 998, 2, .null, [1002, 0, 366, 66, 367]), (75, .putfield 210, 3, 6, 16, .null, [899, 0]), (78, .goto 142, 3, 220, 0, .null, []), (81, .aload_n 0, 1, 0, 0, .null, []), (82, .getfield 203, 3, 6, 11, .null, [894, 0]),
  (85, .iconst 1, 1, 0, 0, .null, []), (86, .if_icmp .ne 38, 3, 124, 0, .null, []), (89, .iload_n 2, 1, 0, 0, .null, []), (90, .aload_n 0, 1, 0, 0, .null, []), (91, .getfield 213, 3, 6, 12, .null, [895, 0]), (94, .if_icmp .ne 30, 3, 124, 0, .null, []),
  (97, .aload_n 1, 1, 0, 0, .null, []), (98, .invokestatic 197, 3, 189, 1, .null, [1123, 0, 1124, 61]), (101, .ifCond .eq 23, 3, 124, 0, .null, []), (104, .aload_n 1, 1, 0, 0, .null, []), (105, .invokestatic 183, 3, 183, 1, .null, [1100, 0, 1101, 61]), (108, .ifCond .eq 16, 3, 124, 0, .null, []),
  (111, .aload_n 0, 1, 0, 0, .null, []), (112, .dup, 1, 0, 0, .null, []), (113, .getfield 216, 3, 6, 17, .null, [900, 0]), (116, .iconst 1, 1, 0, 0, .null, []), (117, .iadd, 1, 0, 0, .null, []), (118, .putfield 216, 3, 6, 17, .null, [900, 0]),
  (121, .goto 99, 3, 220, 0, .null, []), (124, .aload_n 0, 1, 0, 0, .null, []), (125, .getfield 203, 3, 6, 11, .null, [894, 0]), (128, .iconst 2, 1, 0, 0, .null, []), (129, .if_icmp .ne 34, 3, 163, 0, .null, []), (132, .iload 5, 2, 0, 0, .null, []),
  (134, .ifCond .eq 29, 3, 163, 0, .null, []), (137, .aload_n 1, 1, 0, 0, .null, []), (138, .invokestatic 180, 3, 182, 1, .null, [1097, 0, 1098, 61]), (141, .aload_n 0, 1, 0, 0, .null, []), (142, .getfield 213, 3, 6, 12, .null, [895, 0]), (145, .iand, 1, 0, 0, .null, []),
  (146, .aload_n 0, 1, 0, 0, .null, []), (147, .getfield 213, 3, 6, 12, .null, [895, 0]), (150, .if_icmp .ne 13, 3, 163, 0, .null, []), (153, .aload_n 0, 1, 0, 0, .null, []), (154, .iload_n 3, 1, 0, 0, .null, []), (155, .iload 4, 2, 0, 0, .null, []),
  (157, .invokevirtual 206, 3, 190, 3, .null, [1126, 0, 1128, 61, 44]), (160, .goto 60, 3, 220, 0, .null, []), (163, .aload_n 0, 1, 0, 0, .null, []), (164, .getfield 203, 3, 6, 11, .null, [894, 0]), (167, .iconst 3, 1, 0, 0, .null, []), (168, .if_icmp .ne 29, 3, 197, 0, .null, []),
  (171, .iload 5, 2, 0, 0, .null, []), (173, .ifCond .eq 24, 3, 197, 0, .null, []), (176, .aload_n 0, 1, 0, 0, .null, []), (177, .iload_n 3, 1, 0, 0, .null, []), (178, .aload_n 1, 1, 0, 0, .null, []), (179, .invokestatic 180, 3, 182, 1, .null, [1097, 0, 1098, 61]),
  (182, .aload_n 0, 1, 0, 0, .null, []), (183, .getfield 213, 3, 6, 12, .null, [895, 0]), (186, .iand, 1, 0, 0, .null, []), (187, .invokestatic 219, 3, 0, 1, .null, [1130, 0, 678, 69]), (190, .ineg, 1, 0, 0, .null, []), (191, .invokevirtual 206, 3, 190, 3, .null, [1126, 0, 1128, 61, 44]),
  (194, .goto 26, 3, 220, 0, .null, []), (197, .aload_n 0, 1, 0, 0, .null, []), (198, .getfield 203, 3, 6, 11, .null, [894, 0]), (201, .iconst 4, 1, 0, 0, .null, []), (202, .if_icmp .ne 18, 3, 220, 0, .null, []), (205, .aload_n 0, 1, 0, 0, .null, []),
  (206, .aload_n 1, 1, 0, 0, .null, []), (207, .invokevirtual 224, 3, 191, 2, .null, [1131, 0, 1133, 61, 45]), (210, .ifCond .eq 10, 3, 220, 0, .null, []), (213, .aload_n 0, 1, 0, 0, .null, []), (214, .iload_n 3, 1, 0, 0, .null, []), (215, .iload 4, 2, 0, 0, .null, []),
  (217, .invokevirtual 206, 3, 190, 3, .null, [1126, 0, 1128, 61, 44]), (220, .return_, 1, 0, 0, .null, [])]
/-- SmallerInTheShopModel isShut ([I)Z -/
def mp_189 : List (Nat × mm_I) := [(0, .aload_n 0, 1, 0, 0, .null, []), (1, .iconst 0, 1, 0, 0, .null, []), (2, .invokestatic 61, 3, 151, 2, .null, [985, 0, 986, 61]), (5, .iconst 1, 1, 0, 0, .null, []), (6, .if_icmp .ne 16, 3, 22, 0, .null, []), (9, .aload_n 0, 1, 0, 0, .null, []),
  (10, .iconst 1, 1, 0, 0, .null, []), (11, .invokestatic 61, 3, 151, 2, .null, [985, 0, 986, 61]), (14, .iconst 1, 1, 0, 0, .null, []), (15, .if_icmp .ne 7, 3, 22, 0, .null, []), (18, .iconst 1, 1, 0, 0, .null, []), (19, .goto 4, 3, 23, 0, .null, []),
  (22, .iconst 0, 1, 0, 0, .null, []), (23, .ireturn, 1, 0, 0, .null, [])]
/-- SmallerInTheShopModel better (II)V -/
def mp_190 : List (Nat × mm_I) := [(0, .aload_n 0, 1, 0, 0, .null, []), (1, .getfield 191, 3, 6, 14, .null, [897, 0]), (4, .bipush (-9), 2, 0, 0, .null, []), (6, .if_icmp .eq 27, 3, 33, 0, .null, []), (9, .iload_n 2, 1, 0, 0, .null, []), (10, .aload_n 0, 1, 0, 0, .null, []),
  (11, .getfield 194, 3, 6, 15, .null, [898, 0]), (14, .if_icmp .lt 19, 3, 33, 0, .null, []), (17, .iload_n 2, 1, 0, 0, .null, []), (18, .aload_n 0, 1, 0, 0, .null, []), (19, .getfield 194, 3, 6, 15, .null, [898, 0]), (22, .if_icmp .ne 21, 3, 43, 0, .null, []),
  (25, .iload_n 1, 1, 0, 0, .null, []), (26, .aload_n 0, 1, 0, 0, .null, []), (27, .getfield 191, 3, 6, 14, .null, [897, 0]), (30, .if_icmp .ge 13, 3, 43, 0, .null, []), (33, .aload_n 0, 1, 0, 0, .null, []), (34, .iload_n 1, 1, 0, 0, .null, []),
  (35, .putfield 191, 3, 6, 14, .null, [897, 0]), (38, .aload_n 0, 1, 0, 0, .null, []), (39, .iload_n 2, 1, 0, 0, .null, []), (40, .putfield 194, 3, 6, 15, .null, [898, 0]), (43, .return_, 1, 0, 0, .null, [])]
/-- SmallerInTheShopModel isAsTheRow ([I)Z -/
def mp_191 : List (Nat × mm_I) := [(0, .iconst 0, 1, 0, 0, .null, []), (1, .istore_n 2, 1, 0, 0, .null, []), (2, .iload_n 2, 1, 0, 0, .null, []), (3, .bipush 8, 2, 0, 0, .null, []), (5, .if_icmp .ge 64, 3, 69, 0, .null, []), (8, .iconst 0, 1, 0, 0, .null, []),
  (9, .istore_n 3, 1, 0, 0, .null, []), (10, .iconst 0, 1, 0, 0, .null, []), (11, .istore 4, 2, 0, 0, .null, []), (13, .iload 4, 2, 0, 0, .null, []), (15, .bipush 8, 2, 0, 0, .null, []), (17, .if_icmp .ge 40, 3, 57, 0, .null, []),
  (20, .iload_n 3, 1, 0, 0, .null, []), (21, .ifCond .ne 24, 3, 45, 0, .null, []), (24, .aload_n 0, 1, 0, 0, .null, []), (25, .getfield 24, 3, 6, 5, .null, [888, 0]), (28, .iload 4, 2, 0, 0, .null, []), (30, .iaload, 1, 0, 0, .null, []),
  (31, .iload_n 2, 1, 0, 0, .null, []), (32, .if_icmp .ne 17, 3, 49, 0, .null, []), (35, .aload_n 1, 1, 0, 0, .null, []), (36, .iload_n 2, 1, 0, 0, .null, []), (37, .invokestatic 69, 3, 171, 2, .null, [1054, 0, 1055, 61]), (40, .iload 4, 2, 0, 0, .null, []),
  (42, .if_icmp .ne 7, 3, 49, 0, .null, []), (45, .iconst 1, 1, 0, 0, .null, []), (46, .goto 4, 3, 50, 0, .null, []), (49, .iconst 0, 1, 0, 0, .null, []), (50, .istore_n 3, 1, 0, 0, .null, []), (51, .iinc 4 1, 3, 0, 0, .null, []),
  (54, .goto (-41), 3, 13, 0, .null, []), (57, .iload_n 3, 1, 0, 0, .null, []), (58, .ifCond .ne 5, 3, 63, 0, .null, []), (61, .iconst 0, 1, 0, 0, .null, []), (62, .ireturn, 1, 0, 0, .null, []), (63, .iinc 2 1, 3, 0, 0, .null, []),
  (66, .goto (-64), 3, 2, 0, .null, []), (69, .aload_n 1, 1, 0, 0, .null, []), (70, .invokestatic 197, 3, 189, 1, .null, [1123, 0, 1124, 61]), (73, .ireturn, 1, 0, 0, .null, [])]
/-- SmallerInTheShopModel ways (I)I -/
def mp_192 : List (Nat × mm_I) := [(0, .iload_n 1, 1, 0, 0, .null, []), (1, .i2l, 1, 0, 0, .null, []), (2, .lconst 0, 1, 0, 0, .null, []), (3, .ldc2_w 238, 3, 0, 0, .long (4), [1139]), (6, .invokestatic 57, 3, 146, 3, .null, [967, 0, 968, 61]), (9, .ifCond .ne 19, 3, 28, 0, .null, []),
  (12, .aload_n 0, 1, 0, 0, .null, []), (13, .iload_n 1, 1, 0, 0, .null, []), (14, .ifCond .ge 8, 3, 22, 0, .null, []), (17, .bipush (-4), 2, 0, 0, .null, []), (19, .goto 5, 3, 24, 0, .null, []), (22, .bipush (-6), 2, 0, 0, .null, []),
  (24, .invokevirtual 41, 3, 141, 2, .null, [945, 0, 947, 61, 33]), (27, .ireturn, 1, 0, 0, .null, []), (28, .aload_n 0, 1, 0, 0, .null, []), (29, .iconst 1, 1, 0, 0, .null, []), (30, .iload_n 1, 1, 0, 0, .null, []), (31, .iconst 0, 1, 0, 0, .null, []),
  (32, .invokevirtual 235, 3, 186, 4, .null, [1111, 0, 1113, 61, 41]), (35, .aload_n 0, 1, 0, 0, .null, []), (36, .getfield 216, 3, 6, 17, .null, [900, 0]), (39, .ireturn, 1, 0, 0, .null, [])]
/-- SmallerInTheShopModel up (IIII)I -/
def mp_193 : List (Nat × mm_I) := [(0, .iload_n 1, 1, 0, 0, .null, []), (1, .invokestatic 163, 3, 168, 1, .null, [1044, 0, 1045, 61]), (4, .ifCond .eq 15, 3, 19, 0, .null, []), (7, .iload_n 2, 1, 0, 0, .null, []), (8, .invokestatic 163, 3, 168, 1, .null, [1044, 0, 1045, 61]), (11, .ifCond .eq 8, 3, 19, 0, .null, []),
  (14, .iload_n 1, 1, 0, 0, .null, []), (15, .iload_n 2, 1, 0, 0, .null, []), (16, .if_icmp .ne 9, 3, 25, 0, .null, []), (19, .aload_n 0, 1, 0, 0, .null, []), (20, .iconst (-1), 1, 0, 0, .null, []), (21, .invokevirtual 41, 3, 141, 2, .null, [945, 0, 947, 61, 33]),
  (24, .ireturn, 1, 0, 0, .null, []), (25, .iload_n 3, 1, 0, 0, .null, []), (26, .i2l, 1, 0, 0, .null, []), (27, .lconst 1, 1, 0, 0, .null, []), (28, .ldc2_w 240, 3, 0, 0, .long (8), [1144]), (31, .invokestatic 57, 3, 146, 3, .null, [967, 0, 968, 61]),
  (34, .ifCond .ne 20, 3, 54, 0, .null, []), (37, .aload_n 0, 1, 0, 0, .null, []), (38, .iload_n 3, 1, 0, 0, .null, []), (39, .iconst 1, 1, 0, 0, .null, []), (40, .if_icmp .ge 8, 3, 48, 0, .null, []), (43, .bipush (-4), 2, 0, 0, .null, []),
  (45, .goto 5, 3, 50, 0, .null, []), (48, .bipush (-6), 2, 0, 0, .null, []), (50, .invokevirtual 41, 3, 141, 2, .null, [945, 0, 947, 61, 33]), (53, .ireturn, 1, 0, 0, .null, []), (54, .iload 4, 2, 0, 0, .null, []), (56, .i2l, 1, 0, 0, .null, []),
  (57, .lconst 0, 1, 0, 0, .null, []), (58, .lconst 1, 1, 0, 0, .null, []), (59, .invokestatic 57, 3, 146, 3, .null, [967, 0, 968, 61]), (62, .ifCond .ne 10, 3, 72, 0, .null, []), (65, .aload_n 0, 1, 0, 0, .null, []), (66, .bipush (-2), 2, 0, 0, .null, []),
  (68, .invokevirtual 41, 3, 141, 2, .null, [945, 0, 947, 61, 33]), (71, .ireturn, 1, 0, 0, .null, []), (72, .aload_n 0, 1, 0, 0, .null, []), (73, .iconst 2, 1, 0, 0, .null, []), (74, .iconst 1, 1, 0, 0, .null, []), (75, .iload_n 1, 1, 0, 0, .null, []),
  (76, .ishl, 1, 0, 0, .null, []), (77, .iconst 1, 1, 0, 0, .null, []), (78, .iload_n 2, 1, 0, 0, .null, []), (79, .ishl, 1, 0, 0, .null, []), (80, .ior, 1, 0, 0, .null, []), (81, .iload_n 3, 1, 0, 0, .null, []),
  (82, .invokevirtual 235, 3, 186, 4, .null, [1111, 0, 1113, 61, 41]), (85, .iload 4, 2, 0, 0, .null, []), (87, .ifCond .ne 10, 3, 97, 0, .null, []), (90, .aload_n 0, 1, 0, 0, .null, []), (91, .getfield 191, 3, 6, 14, .null, [897, 0]), (94, .goto 7, 3, 101, 0, .null, []),
  (97, .aload_n 0, 1, 0, 0, .null, []), (98, .getfield 194, 3, 6, 15, .null, [898, 0]), (101, .ireturn, 1, 0, 0, .null, [])]
/-- SmallerInTheShopModel most (III)I -/
def mp_194 : List (Nat × mm_I) := [(0, .iload_n 1, 1, 0, 0, .null, []), (1, .ifCond .lt 8, 3, 9, 0, .null, []), (4, .iload_n 2, 1, 0, 0, .null, []), (5, .iconst 1, 1, 0, 0, .null, []), (6, .if_icmp .ge 10, 3, 16, 0, .null, []), (9, .aload_n 0, 1, 0, 0, .null, []),
  (10, .bipush (-4), 2, 0, 0, .null, []), (12, .invokevirtual 41, 3, 141, 2, .null, [945, 0, 947, 61, 33]), (15, .ireturn, 1, 0, 0, .null, []), (16, .iload_n 1, 1, 0, 0, .null, []), (17, .sipush 255, 3, 0, 0, .null, []), (20, .if_icmp .gt 9, 3, 29, 0, .null, []),
  (23, .iload_n 2, 1, 0, 0, .null, []), (24, .bipush 8, 2, 0, 0, .null, []), (26, .if_icmp .le 10, 3, 36, 0, .null, []), (29, .aload_n 0, 1, 0, 0, .null, []), (30, .bipush (-6), 2, 0, 0, .null, []), (32, .invokevirtual 41, 3, 141, 2, .null, [945, 0, 947, 61, 33]),
  (35, .ireturn, 1, 0, 0, .null, []), (36, .iload_n 3, 1, 0, 0, .null, []), (37, .i2l, 1, 0, 0, .null, []), (38, .lconst 0, 1, 0, 0, .null, []), (39, .lconst 1, 1, 0, 0, .null, []), (40, .invokestatic 57, 3, 146, 3, .null, [967, 0, 968, 61]),
  (43, .ifCond .ne 10, 3, 53, 0, .null, []), (46, .aload_n 0, 1, 0, 0, .null, []), (47, .bipush (-2), 2, 0, 0, .null, []), (49, .invokevirtual 41, 3, 141, 2, .null, [945, 0, 947, 61, 33]), (52, .ireturn, 1, 0, 0, .null, []), (53, .aload_n 0, 1, 0, 0, .null, []),
  (54, .iconst 3, 1, 0, 0, .null, []), (55, .iload_n 1, 1, 0, 0, .null, []), (56, .iload_n 2, 1, 0, 0, .null, []), (57, .invokevirtual 235, 3, 186, 4, .null, [1111, 0, 1113, 61, 41]), (60, .iload_n 3, 1, 0, 0, .null, []), (61, .iconst 1, 1, 0, 0, .null, []),
  (62, .if_icmp .eq 12, 3, 74, 0, .null, []), (65, .aload_n 0, 1, 0, 0, .null, []), (66, .getfield 191, 3, 6, 14, .null, [897, 0]), (69, .bipush (-9), 2, 0, 0, .null, []), (71, .if_icmp .ne 10, 3, 81, 0, .null, []), (74, .aload_n 0, 1, 0, 0, .null, []),
  (75, .getfield 191, 3, 6, 14, .null, [897, 0]), (78, .goto 8, 3, 86, 0, .null, []), (81, .aload_n 0, 1, 0, 0, .null, []), (82, .getfield 194, 3, 6, 15, .null, [898, 0]), (85, .ineg, 1, 0, 0, .null, []), (86, .ireturn, 1, 0, 0, .null, [])]
/-- SmallerInTheShopModel layers ()I -/
def mp_195 : List (Nat × mm_I) := [(0, .aload_n 0, 1, 0, 0, .null, []), (1, .invokevirtual 245, 3, 196, 1, .null, [1153, 0, 1155, 61, 46]), (4, .ifCond .ne 6, 3, 10, 0, .null, []), (7, .bipush (-9), 2, 0, 0, .null, []), (9, .ireturn, 1, 0, 0, .null, []), (10, .aload_n 0, 1, 0, 0, .null, []),
  (11, .iconst 4, 1, 0, 0, .null, []), (12, .iconst 0, 1, 0, 0, .null, []), (13, .iconst 0, 1, 0, 0, .null, []), (14, .invokevirtual 235, 3, 186, 4, .null, [1111, 0, 1113, 61, 41]), (17, .aload_n 0, 1, 0, 0, .null, []), (18, .getfield 191, 3, 6, 14, .null, [897, 0]),
  (21, .ireturn, 1, 0, 0, .null, [])]
/-- SmallerInTheShopModel tellsAll ()Z -/
def mp_196 : List (Nat × mm_I) := [(0, .iconst 0, 1, 0, 0, .null, []), (1, .istore_n 1, 1, 0, 0, .null, []), (2, .iconst 0, 1, 0, 0, .null, []), (3, .istore_n 2, 1, 0, 0, .null, []), (4, .iload_n 2, 1, 0, 0, .null, []), (5, .aload_n 0, 1, 0, 0, .null, []),
  (6, .getfield 242, 3, 6, 6, .null, [889, 0]), (9, .if_icmp .ge 35, 3, 44, 0, .null, []), (12, .iload_n 1, 1, 0, 0, .null, []), (13, .aload_n 0, 1, 0, 0, .null, []), (14, .getfield 24, 3, 6, 5, .null, [888, 0]), (17, .iload_n 2, 1, 0, 0, .null, []),
  (18, .iaload, 1, 0, 0, .null, []), (19, .bipush 8, 2, 0, 0, .null, []), (21, .if_icmp .ge 14, 3, 35, 0, .null, []), (24, .iconst 1, 1, 0, 0, .null, []), (25, .aload_n 0, 1, 0, 0, .null, []), (26, .getfield 24, 3, 6, 5, .null, [888, 0]),
  (29, .iload_n 2, 1, 0, 0, .null, []), (30, .iaload, 1, 0, 0, .null, []), (31, .ishl, 1, 0, 0, .null, []), (32, .goto 4, 3, 36, 0, .null, []), (35, .iconst 0, 1, 0, 0, .null, []), (36, .ior, 1, 0, 0, .null, []),
  (37, .istore_n 1, 1, 0, 0, .null, []), (38, .iinc 2 1, 3, 0, 0, .null, []), (41, .goto (-37), 3, 4, 0, .null, []), (44, .aload_n 0, 1, 0, 0, .null, []), (45, .getfield 242, 3, 6, 6, .null, [889, 0]), (48, .bipush 8, 2, 0, 0, .null, []),
  (50, .if_icmp .ne 14, 3, 64, 0, .null, []), (53, .iload_n 1, 1, 0, 0, .null, []), (54, .sipush 255, 3, 0, 0, .null, []), (57, .if_icmp .ne 7, 3, 64, 0, .null, []), (60, .iconst 1, 1, 0, 0, .null, []), (61, .goto 4, 3, 65, 0, .null, []),
  (64, .iconst 0, 1, 0, 0, .null, []), (65, .ireturn, 1, 0, 0, .null, [])]
/-- SmallerInTheShopModel lasts (II)I -/
def mp_197 : List (Nat × mm_I) := [(0, .aload_n 0, 1, 0, 0, .null, []), (1, .getfield 9, 3, 6, 0, .null, [883, 0]), (4, .iload_n 1, 1, 0, 0, .null, []), (5, .invokestatic 132, 3, 150, 2, .null, [981, 0, 982, 61]), (8, .ifCond .ne 9, 3, 17, 0, .null, []), (11, .aload_n 0, 1, 0, 0, .null, []),
  (12, .iconst (-1), 1, 0, 0, .null, []), (13, .invokevirtual 41, 3, 141, 2, .null, [945, 0, 947, 61, 33]), (16, .ireturn, 1, 0, 0, .null, []), (17, .iload_n 2, 1, 0, 0, .null, []), (18, .i2l, 1, 0, 0, .null, []), (19, .lconst 0, 1, 0, 0, .null, []),
  (20, .ldc2_w 55, 3, 0, 0, .long (3), [984]), (23, .invokestatic 57, 3, 146, 3, .null, [967, 0, 968, 61]), (26, .ifCond .ne 10, 3, 36, 0, .null, []), (29, .aload_n 0, 1, 0, 0, .null, []), (30, .bipush (-2), 2, 0, 0, .null, []), (32, .invokevirtual 41, 3, 141, 2, .null, [945, 0, 947, 61, 33]),
  (35, .ireturn, 1, 0, 0, .null, []), (36, .aload_n 0, 1, 0, 0, .null, []), (37, .getfield 9, 3, 6, 0, .null, [883, 0]), (40, .aload_n 0, 1, 0, 0, .null, []), (41, .getfield 18, 3, 6, 2, .null, [885, 0]), (44, .iconst 1, 1, 0, 0, .null, []),
  (45, .aaload, 1, 0, 0, .null, []), (46, .invokestatic 146, 3, 147, 2, .null, [970, 0, 971, 61]), (49, .aload_n 0, 1, 0, 0, .null, []), (50, .iload_n 1, 1, 0, 0, .null, []), (51, .iload_n 2, 1, 0, 0, .null, []), (52, .invokevirtual 255, 3, 198, 3, .null, [1161, 0, 1163, 61, 47]),
  (55, .ireturn, 1, 0, 0, .null, [])]
/-- SmallerInTheShopModel times (II)I -/
def mp_198 : List (Nat × mm_I) := [(0, .aload_n 0, 1, 0, 0, .null, []), (1, .getfield 18, 3, 6, 2, .null, [885, 0]), (4, .iconst 1, 1, 0, 0, .null, []), (5, .aaload, 1, 0, 0, .null, []), (6, .invokestatic 252, 3, 199, 1, .null, [1165, 0, 1166, 61]), (9, .invokestatic 219, 3, 0, 1, .null, [1130, 0, 678, 69]),
  (12, .istore_n 3, 1, 0, 0, .null, []), (13, .iconst 1, 1, 0, 0, .null, []), (14, .istore 4, 2, 0, 0, .null, []), (16, .iload 4, 2, 0, 0, .null, []), (18, .bipush 99, 2, 0, 0, .null, []), (20, .if_icmp .ge 51, 3, 71, 0, .null, []),
  (23, .aload_n 0, 1, 0, 0, .null, []), (24, .aload_n 0, 1, 0, 0, .null, []), (25, .getfield 18, 3, 6, 2, .null, [885, 0]), (28, .iconst 1, 1, 0, 0, .null, []), (29, .aaload, 1, 0, 0, .null, []), (30, .iload_n 1, 1, 0, 0, .null, []),
  (31, .iload_n 2, 1, 0, 0, .null, []), (32, .invokevirtual 136, 3, 152, 4, .null, [989, 0, 991, 61, 38]), (35, .istore 5, 2, 0, 0, .null, []), (37, .aload_n 0, 1, 0, 0, .null, []), (38, .getfield 18, 3, 6, 2, .null, [885, 0]), (41, .iconst 1, 1, 0, 0, .null, []),
  (42, .aaload, 1, 0, 0, .null, []), (43, .invokestatic 139, 3, 164, 1, .null, [1028, 0, 1029, 61]), (46, .aload_n 0, 1, 0, 0, .null, []), (47, .getfield 18, 3, 6, 2, .null, [885, 0]), (50, .iconst 1, 1, 0, 0, .null, []), (51, .aaload, 1, 0, 0, .null, []),
  (52, .invokestatic 252, 3, 199, 1, .null, [1165, 0, 1166, 61]), (55, .invokestatic 219, 3, 0, 1, .null, [1130, 0, 678, 69]), (58, .iload_n 3, 1, 0, 0, .null, []), (59, .if_icmp .le 6, 3, 65, 0, .null, []), (62, .iload 4, 2, 0, 0, .null, []), (64, .ireturn, 1, 0, 0, .null, []),
  (65, .iinc 4 1, 3, 0, 0, .null, []), (68, .goto (-52), 3, 16, 0, .null, []), (71, .bipush 99, 2, 0, 0, .null, []), (73, .ireturn, 1, 0, 0, .null, [])]
/-- SmallerInTheShopModel holes ([I)I -/
def mp_199 : List (Nat × mm_I) := [(0, .iconst 0, 1, 0, 0, .null, []), (1, .istore_n 1, 1, 0, 0, .null, []), (2, .iconst 0, 1, 0, 0, .null, []), (3, .istore_n 2, 1, 0, 0, .null, []), (4, .iload_n 2, 1, 0, 0, .null, []), (5, .iconst 3, 1, 0, 0, .null, []),
  (6, .if_icmp .ge 29, 3, 35, 0, .null, []), (9, .iload_n 1, 1, 0, 0, .null, []), (10, .aload_n 0, 1, 0, 0, .null, []), (11, .iload_n 2, 1, 0, 0, .null, []), (12, .invokestatic 249, 3, 200, 2, .null, [1168, 0, 1169, 61]), (15, .bipush 40, 2, 0, 0, .null, []),
  (17, .if_icmp .lt 9, 3, 26, 0, .null, []), (20, .iconst 1, 1, 0, 0, .null, []), (21, .iload_n 2, 1, 0, 0, .null, []), (22, .ishl, 1, 0, 0, .null, []), (23, .goto 4, 3, 27, 0, .null, []), (26, .iconst 0, 1, 0, 0, .null, []),
  (27, .ior, 1, 0, 0, .null, []), (28, .istore_n 1, 1, 0, 0, .null, []), (29, .iinc 2 1, 3, 0, 0, .null, []), (32, .goto (-28), 3, 4, 0, .null, []), (35, .iload_n 1, 1, 0, 0, .null, []), (36, .ireturn, 1, 0, 0, .null, [])]
/-- SmallerInTheShopModel wornAt ([II)I -/
def mp_200 : List (Nat × mm_I) := [(0, .aload_n 0, 1, 0, 0, .null, []), (1, .bipush 20, 2, 0, 0, .null, []), (3, .iload_n 1, 1, 0, 0, .null, []), (4, .iadd, 1, 0, 0, .null, []), (5, .iaload, 1, 0, 0, .null, []), (6, .aload_n 0, 1, 0, 0, .null, []),
  (7, .bipush 23, 2, 0, 0, .null, []), (9, .iload_n 1, 1, 0, 0, .null, []), (10, .iadd, 1, 0, 0, .null, []), (11, .iaload, 1, 0, 0, .null, []), (12, .iadd, 1, 0, 0, .null, []), (13, .aload_n 0, 1, 0, 0, .null, []),
  (14, .bipush 26, 2, 0, 0, .null, []), (16, .iload_n 1, 1, 0, 0, .null, []), (17, .iadd, 1, 0, 0, .null, []), (18, .iaload, 1, 0, 0, .null, []), (19, .iadd, 1, 0, 0, .null, []), (20, .aload_n 0, 1, 0, 0, .null, []),
  (21, .bipush 27, 2, 0, 0, .null, []), (23, .iload_n 1, 1, 0, 0, .null, []), (24, .iadd, 1, 0, 0, .null, []), (25, .iaload, 1, 0, 0, .null, []), (26, .iadd, 1, 0, 0, .null, []), (27, .ireturn, 1, 0, 0, .null, [])]
/-- SmallerInTheShopModel tape (II)I -/
def mp_201 : List (Nat × mm_I) := [(0, .aload_n 0, 1, 0, 0, .null, []), (1, .getfield 9, 3, 6, 0, .null, [883, 0]), (4, .iload_n 1, 1, 0, 0, .null, []), (5, .invokestatic 132, 3, 150, 2, .null, [981, 0, 982, 61]), (8, .ifCond .ne 9, 3, 17, 0, .null, []), (11, .aload_n 0, 1, 0, 0, .null, []),
  (12, .iconst (-1), 1, 0, 0, .null, []), (13, .invokevirtual 41, 3, 141, 2, .null, [945, 0, 947, 61, 33]), (16, .ireturn, 1, 0, 0, .null, []), (17, .iload_n 2, 1, 0, 0, .null, []), (18, .i2l, 1, 0, 0, .null, []), (19, .lconst 0, 1, 0, 0, .null, []),
  (20, .ldc2_w 55, 3, 0, 0, .long (3), [984]), (23, .invokestatic 57, 3, 146, 3, .null, [967, 0, 968, 61]), (26, .ifCond .ne 10, 3, 36, 0, .null, []), (29, .aload_n 0, 1, 0, 0, .null, []), (30, .bipush (-2), 2, 0, 0, .null, []), (32, .invokevirtual 41, 3, 141, 2, .null, [945, 0, 947, 61, 33]),
  (35, .ireturn, 1, 0, 0, .null, []), (36, .aload_n 0, 1, 0, 0, .null, []), (37, .getfield 9, 3, 6, 0, .null, [883, 0]), (40, .aload_n 0, 1, 0, 0, .null, []), (41, .getfield 18, 3, 6, 2, .null, [885, 0]), (44, .iconst 1, 1, 0, 0, .null, []),
  (45, .aaload, 1, 0, 0, .null, []), (46, .invokestatic 146, 3, 147, 2, .null, [970, 0, 971, 61]), (49, .bipush (-9), 2, 0, 0, .null, []), (51, .istore_n 3, 1, 0, 0, .null, []), (52, .aload_n 0, 1, 0, 0, .null, []), (53, .iload_n 1, 1, 0, 0, .null, []),
  (54, .iload_n 2, 1, 0, 0, .null, []), (55, .invokevirtual 255, 3, 198, 3, .null, [1161, 0, 1163, 61, 47]), (58, .istore 4, 2, 0, 0, .null, []), (60, .iconst 0, 1, 0, 0, .null, []), (61, .istore 5, 2, 0, 0, .null, []), (63, .iload 5, 2, 0, 0, .null, []),
  (65, .bipush 10, 2, 0, 0, .null, []), (67, .if_icmp .ge 65, 3, 132, 0, .null, []), (70, .aload_n 0, 1, 0, 0, .null, []), (71, .getfield 9, 3, 6, 0, .null, [883, 0]), (74, .aload_n 0, 1, 0, 0, .null, []), (75, .getfield 18, 3, 6, 2, .null, [885, 0]),
  (78, .iconst 1, 1, 0, 0, .null, []), (79, .aaload, 1, 0, 0, .null, []), (80, .invokestatic 146, 3, 147, 2, .null, [970, 0, 971, 61]), (83, .aload_n 0, 1, 0, 0, .null, []), (84, .getfield 18, 3, 6, 2, .null, [885, 0]), (87, .iconst 1, 1, 0, 0, .null, []),
  (88, .aaload, 1, 0, 0, .null, []), (89, .iconst 0, 1, 0, 0, .null, []), (90, .iload 5, 2, 0, 0, .null, []), (92, .iadd, 1, 0, 0, .null, []), (93, .iconst 4, 1, 0, 0, .null, []), (94, .iastore, 1, 0, 0, .null, []),
  (95, .aload_n 0, 1, 0, 0, .null, []), (96, .iload_n 1, 1, 0, 0, .null, []), (97, .iload_n 2, 1, 0, 0, .null, []), (98, .invokevirtual 255, 3, 198, 3, .null, [1161, 0, 1163, 61, 47]), (101, .istore 6, 2, 0, 0, .null, []), (103, .iload 6, 2, 0, 0, .null, []),
  (105, .iload 4, 2, 0, 0, .null, []), (107, .if_icmp .le 8, 3, 115, 0, .null, []), (110, .iload 5, 2, 0, 0, .null, []), (112, .goto 4, 3, 116, 0, .null, []), (115, .iload_n 3, 1, 0, 0, .null, []), (116, .istore_n 3, 1, 0, 0, .null, []),
  (117, .iload 4, 2, 0, 0, .null, []), (119, .iload 6, 2, 0, 0, .null, []), (121, .invokestatic 49, 3, 997, 2, .null, [988, 0, 363, 66, 364]), (124, .istore 4, 2, 0, 0, .null, []), (126, .iinc 5 1, 3, 0, 0, .null, []), (129, .goto (-66), 3, 63, 0, .null, []),
  (132, .iload_n 3, 1, 0, 0, .null, []), (133, .ireturn, 1, 0, 0, .null, [])]
/-- SmallerInTheShopModel first (IIII)I -/
def mp_202 : List (Nat × mm_I) := [(0, .iload_n 1, 1, 0, 0, .null, []), (1, .i2l, 1, 0, 0, .null, []), (2, .lconst 1, 1, 0, 0, .null, []), (3, .ldc2_w 238, 3, 0, 0, .long (4), [1139]), (6, .invokestatic 57, 3, 146, 3, .null, [967, 0, 968, 61]), (9, .ifCond .eq 15, 3, 24, 0, .null, []),
  (12, .iload_n 3, 1, 0, 0, .null, []), (13, .i2l, 1, 0, 0, .null, []), (14, .lconst 1, 1, 0, 0, .null, []), (15, .ldc2_w 238, 3, 0, 0, .long (4), [1139]), (18, .invokestatic 57, 3, 146, 3, .null, [967, 0, 968, 61]), (21, .ifCond .ne 9, 3, 30, 0, .null, []),
  (24, .aload_n 0, 1, 0, 0, .null, []), (25, .iconst (-1), 1, 0, 0, .null, []), (26, .invokevirtual 41, 3, 141, 2, .null, [945, 0, 947, 61, 33]), (29, .ireturn, 1, 0, 0, .null, []), (30, .iload_n 2, 1, 0, 0, .null, []), (31, .i2l, 1, 0, 0, .null, []),
  (32, .lconst 0, 1, 0, 0, .null, []), (33, .ldc2_w 55, 3, 0, 0, .long (3), [984]), (36, .invokestatic 57, 3, 146, 3, .null, [967, 0, 968, 61]), (39, .ifCond .eq 16, 3, 55, 0, .null, []), (42, .iload 4, 2, 0, 0, .null, []), (44, .i2l, 1, 0, 0, .null, []),
  (45, .lconst 0, 1, 0, 0, .null, []), (46, .ldc2_w 55, 3, 0, 0, .long (3), [984]), (49, .invokestatic 57, 3, 146, 3, .null, [967, 0, 968, 61]), (52, .ifCond .ne 10, 3, 62, 0, .null, []), (55, .aload_n 0, 1, 0, 0, .null, []), (56, .bipush (-2), 2, 0, 0, .null, []),
  (58, .invokevirtual 41, 3, 141, 2, .null, [945, 0, 947, 61, 33]), (61, .ireturn, 1, 0, 0, .null, []), (62, .aload_n 0, 1, 0, 0, .null, []), (63, .iload_n 1, 1, 0, 0, .null, []), (64, .iload_n 2, 1, 0, 0, .null, []), (65, .iload_n 3, 1, 0, 0, .null, []),
  (66, .iload 4, 2, 0, 0, .null, []), (68, .invokevirtual 258, 3, 203, 5, .null, [1179, 0, 1181, 61, 48]), (71, .istore 5, 2, 0, 0, .null, []), (73, .aload_n 0, 1, 0, 0, .null, []), (74, .iload_n 3, 1, 0, 0, .null, []), (75, .iload 4, 2, 0, 0, .null, []),
  (77, .iload_n 1, 1, 0, 0, .null, []), (78, .iload_n 2, 1, 0, 0, .null, []), (79, .invokevirtual 258, 3, 203, 5, .null, [1179, 0, 1181, 61, 48]), (82, .istore 6, 2, 0, 0, .null, []), (84, .iload 5, 2, 0, 0, .null, []), (86, .iload 6, 2, 0, 0, .null, []),
  (88, .if_icmp .ne 6, 3, 94, 0, .null, []), (91, .bipush (-9), 2, 0, 0, .null, []), (93, .ireturn, 1, 0, 0, .null, []), (94, .iload 6, 2, 0, 0, .null, []), (96, .bipush (-9), 2, 0, 0, .null, []), (98, .if_icmp .eq 17, 3, 115, 0, .null, []),
  (101, .iload 5, 2, 0, 0, .null, []), (103, .bipush (-9), 2, 0, 0, .null, []), (105, .if_icmp .eq 14, 3, 119, 0, .null, []), (108, .iload 5, 2, 0, 0, .null, []), (110, .iload 6, 2, 0, 0, .null, []), (112, .if_icmp .ge 7, 3, 119, 0, .null, []),
  (115, .iconst 0, 1, 0, 0, .null, []), (116, .goto 4, 3, 120, 0, .null, []), (119, .iconst 1, 1, 0, 0, .null, []), (120, .ireturn, 1, 0, 0, .null, [])]
/-- SmallerInTheShopModel both (IIII)I -/
def mp_203 : List (Nat × mm_I) := [(0, .aload_n 0, 1, 0, 0, .null, []), (1, .getfield 9, 3, 6, 0, .null, [883, 0]), (4, .iload_n 1, 1, 0, 0, .null, []), (5, .invokestatic 132, 3, 150, 2, .null, [981, 0, 982, 61]), (8, .ifCond .ne 6, 3, 14, 0, .null, []), (11, .bipush (-9), 2, 0, 0, .null, []),
  (13, .ireturn, 1, 0, 0, .null, []), (14, .aload_n 0, 1, 0, 0, .null, []), (15, .getfield 9, 3, 6, 0, .null, [883, 0]), (18, .aload_n 0, 1, 0, 0, .null, []), (19, .getfield 18, 3, 6, 2, .null, [885, 0]), (22, .iconst 0, 1, 0, 0, .null, []),
  (23, .aaload, 1, 0, 0, .null, []), (24, .invokestatic 146, 3, 147, 2, .null, [970, 0, 971, 61]), (27, .aload_n 0, 1, 0, 0, .null, []), (28, .aload_n 0, 1, 0, 0, .null, []), (29, .getfield 18, 3, 6, 2, .null, [885, 0]), (32, .iconst 0, 1, 0, 0, .null, []),
  (33, .aaload, 1, 0, 0, .null, []), (34, .iload_n 1, 1, 0, 0, .null, []), (35, .iload_n 2, 1, 0, 0, .null, []), (36, .invokevirtual 136, 3, 152, 4, .null, [989, 0, 991, 61, 38]), (39, .istore 5, 2, 0, 0, .null, []), (41, .aload_n 0, 1, 0, 0, .null, []),
  (42, .getfield 18, 3, 6, 2, .null, [885, 0]), (45, .iconst 0, 1, 0, 0, .null, []), (46, .aaload, 1, 0, 0, .null, []), (47, .iload_n 3, 1, 0, 0, .null, []), (48, .invokestatic 132, 3, 150, 2, .null, [981, 0, 982, 61]), (51, .ifCond .eq 22, 3, 73, 0, .null, []),
  (54, .iload 5, 2, 0, 0, .null, []), (56, .aload_n 0, 1, 0, 0, .null, []), (57, .aload_n 0, 1, 0, 0, .null, []), (58, .getfield 18, 3, 6, 2, .null, [885, 0]), (61, .iconst 0, 1, 0, 0, .null, []), (62, .aaload, 1, 0, 0, .null, []),
  (63, .iload_n 3, 1, 0, 0, .null, []), (64, .iload 4, 2, 0, 0, .null, []), (66, .invokevirtual 136, 3, 152, 4, .null, [989, 0, 991, 61, 38]), (69, .iadd, 1, 0, 0, .null, []), (70, .goto 5, 3, 75, 0, .null, []), (73, .bipush (-9), 2, 0, 0, .null, []),
  (75, .ireturn, 1, 0, 0, .null, [])]
/-- SmallerInTheShopModel hole (II)I -/
def mp_204 : List (Nat × mm_I) := [(0, .iload_n 1, 1, 0, 0, .null, []), (1, .i2l, 1, 0, 0, .null, []), (2, .lconst 0, 1, 0, 0, .null, []), (3, .ldc2_w 171, 3, 0, 0, .long (2), [1082]), (6, .invokestatic 57, 3, 146, 3, .null, [967, 0, 968, 61]), (9, .ifCond .ne 9, 3, 18, 0, .null, []),
  (12, .aload_n 0, 1, 0, 0, .null, []), (13, .iconst (-1), 1, 0, 0, .null, []), (14, .invokevirtual 41, 3, 141, 2, .null, [945, 0, 947, 61, 33]), (17, .ireturn, 1, 0, 0, .null, []), (18, .iload_n 2, 1, 0, 0, .null, []), (19, .i2l, 1, 0, 0, .null, []),
  (20, .lconst 0, 1, 0, 0, .null, []), (21, .lconst 1, 1, 0, 0, .null, []), (22, .invokestatic 57, 3, 146, 3, .null, [967, 0, 968, 61]), (25, .ifCond .ne 10, 3, 35, 0, .null, []), (28, .aload_n 0, 1, 0, 0, .null, []), (29, .bipush (-2), 2, 0, 0, .null, []),
  (31, .invokevirtual 41, 3, 141, 2, .null, [945, 0, 947, 61, 33]), (34, .ireturn, 1, 0, 0, .null, []), (35, .iload_n 2, 1, 0, 0, .null, []), (36, .ifCond .ne 14, 3, 50, 0, .null, []), (39, .aload_n 0, 1, 0, 0, .null, []), (40, .getfield 9, 3, 6, 0, .null, [883, 0]),
  (43, .iload_n 1, 1, 0, 0, .null, []), (44, .invokestatic 249, 3, 200, 2, .null, [1168, 0, 1169, 61]), (47, .goto 14, 3, 61, 0, .null, []), (50, .aload_n 0, 1, 0, 0, .null, []), (51, .getfield 9, 3, 6, 0, .null, [883, 0]), (54, .invokestatic 252, 3, 199, 1, .null, [1165, 0, 1166, 61]),
  (57, .iload_n 1, 1, 0, 0, .null, []), (58, .ishr, 1, 0, 0, .null, []), (59, .iconst 1, 1, 0, 0, .null, []), (60, .iand, 1, 0, 0, .null, []), (61, .ireturn, 1, 0, 0, .null, [])]
/-- SmallerInTheShopModel weakest (I)I -/
def mp_205 : List (Nat × mm_I) := [(0, .iload_n 1, 1, 0, 0, .null, []), (1, .i2l, 1, 0, 0, .null, []), (2, .lconst 0, 1, 0, 0, .null, []), (3, .ldc2_w 171, 3, 0, 0, .long (2), [1082]), (6, .invokestatic 57, 3, 146, 3, .null, [967, 0, 968, 61]), (9, .ifCond .ne 10, 3, 19, 0, .null, []),
  (12, .aload_n 0, 1, 0, 0, .null, []), (13, .bipush (-2), 2, 0, 0, .null, []), (15, .invokevirtual 41, 3, 141, 2, .null, [945, 0, 947, 61, 33]), (18, .ireturn, 1, 0, 0, .null, []), (19, .iconst 0, 1, 0, 0, .null, []), (20, .istore_n 2, 1, 0, 0, .null, []),
  (21, .iconst 1, 1, 0, 0, .null, []), (22, .istore_n 3, 1, 0, 0, .null, []), (23, .iload_n 3, 1, 0, 0, .null, []), (24, .iconst 3, 1, 0, 0, .null, []), (25, .if_icmp .ge 34, 3, 59, 0, .null, []), (28, .aload_n 0, 1, 0, 0, .null, []),
  (29, .getfield 9, 3, 6, 0, .null, [883, 0]), (32, .iload_n 3, 1, 0, 0, .null, []), (33, .invokestatic 249, 3, 200, 2, .null, [1168, 0, 1169, 61]), (36, .aload_n 0, 1, 0, 0, .null, []), (37, .getfield 9, 3, 6, 0, .null, [883, 0]), (40, .iload_n 2, 1, 0, 0, .null, []),
  (41, .invokestatic 249, 3, 200, 2, .null, [1168, 0, 1169, 61]), (44, .if_icmp .le 7, 3, 51, 0, .null, []), (47, .iload_n 3, 1, 0, 0, .null, []), (48, .goto 4, 3, 52, 0, .null, []), (51, .iload_n 2, 1, 0, 0, .null, []), (52, .istore_n 2, 1, 0, 0, .null, []),
  (53, .iinc 3 1, 3, 0, 0, .null, []), (56, .goto (-33), 3, 23, 0, .null, []), (59, .iload_n 1, 1, 0, 0, .null, []), (60, .ifCond .ne 7, 3, 67, 0, .null, []), (63, .iload_n 2, 1, 0, 0, .null, []), (64, .goto 26, 3, 90, 0, .null, []),
  (67, .iload_n 1, 1, 0, 0, .null, []), (68, .iconst 1, 1, 0, 0, .null, []), (69, .if_icmp .ne 14, 3, 83, 0, .null, []), (72, .aload_n 0, 1, 0, 0, .null, []), (73, .getfield 9, 3, 6, 0, .null, [883, 0]), (76, .iload_n 2, 1, 0, 0, .null, []),
  (77, .invokestatic 249, 3, 200, 2, .null, [1168, 0, 1169, 61]), (80, .goto 10, 3, 90, 0, .null, []), (83, .aload_n 0, 1, 0, 0, .null, []), (84, .getfield 9, 3, 6, 0, .null, [883, 0]), (87, .invokestatic 252, 3, 199, 1, .null, [1165, 0, 1166, 61]), (90, .ireturn, 1, 0, 0, .null, [])]
/-- SmallerInTheShopModel wind (II)J -/
def mp_206 : List (Nat × mm_I) := [(0, .iload_n 1, 1, 0, 0, .null, []), (1, .i2l, 1, 0, 0, .null, []), (2, .ldc2_w 171, 3, 0, 0, .long (2), [1082]), (5, .ldc2_w 261, 3, 0, 0, .long (20), [1195]), (8, .invokestatic 57, 3, 146, 3, .null, [967, 0, 968, 61]), (11, .ifCond .ne 20, 3, 31, 0, .null, []),
  (14, .aload_n 0, 1, 0, 0, .null, []), (15, .iload_n 1, 1, 0, 0, .null, []), (16, .iconst 2, 1, 0, 0, .null, []), (17, .if_icmp .ge 8, 3, 25, 0, .null, []), (20, .bipush (-4), 2, 0, 0, .null, []), (22, .goto 5, 3, 27, 0, .null, []),
  (25, .bipush (-6), 2, 0, 0, .null, []), (27, .invokevirtual 263, 3, 207, 2, .null, [1196, 0, 1198, 61, 49]), (30, .lreturn, 1, 0, 0, .null, []), (31, .aload_n 0, 1, 0, 0, .null, []), (32, .getfield 242, 3, 6, 6, .null, [889, 0]), (35, .iconst 4, 1, 0, 0, .null, []),
  (36, .if_icmp .gt 11, 3, 47, 0, .null, []), (39, .aload_n 0, 1, 0, 0, .null, []), (40, .iconst 0, 1, 0, 0, .null, []), (41, .invokevirtual 267, 3, 208, 2, .null, [1201, 0, 1203, 61, 50]), (44, .ifCond .lt 10, 3, 54, 0, .null, []), (47, .aload_n 0, 1, 0, 0, .null, []),
  (48, .bipush (-3), 2, 0, 0, .null, []), (50, .invokevirtual 263, 3, 207, 2, .null, [1196, 0, 1198, 61, 49]), (53, .lreturn, 1, 0, 0, .null, []), (54, .iload_n 2, 1, 0, 0, .null, []), (55, .i2l, 1, 0, 0, .null, []), (56, .lconst 0, 1, 0, 0, .null, []),
  (57, .lconst 1, 1, 0, 0, .null, []), (58, .invokestatic 57, 3, 146, 3, .null, [967, 0, 968, 61]), (61, .ifCond .ne 10, 3, 71, 0, .null, []), (64, .aload_n 0, 1, 0, 0, .null, []), (65, .bipush (-2), 2, 0, 0, .null, []), (67, .invokevirtual 263, 3, 207, 2, .null, [1196, 0, 1198, 61, 49]),
  (70, .lreturn, 1, 0, 0, .null, []), (71, .lconst 0, 1, 0, 0, .null, []), (72, .lstore_n 3, 1, 0, 0, .null, []), (73, .lconst 1, 1, 0, 0, .null, []), (74, .lstore 5, 2, 0, 0, .null, []), (76, .iconst 0, 1, 0, 0, .null, []),
  (77, .istore 7, 2, 0, 0, .null, []), (79, .iload 7, 2, 0, 0, .null, []), (81, .aload_n 0, 1, 0, 0, .null, []), (82, .getfield 242, 3, 6, 6, .null, [889, 0]), (85, .if_icmp .ge 16, 3, 101, 0, .null, []), (88, .lload 5, 2, 0, 0, .null, []),
  (90, .iload_n 1, 1, 0, 0, .null, []), (91, .i2l, 1, 0, 0, .null, []), (92, .lmul, 1, 0, 0, .null, []), (93, .lstore 5, 2, 0, 0, .null, []), (95, .iinc 7 1, 3, 0, 0, .null, []), (98, .goto (-19), 3, 79, 0, .null, []),
  (101, .iconst 0, 1, 0, 0, .null, []), (102, .istore 7, 2, 0, 0, .null, []), (104, .iload 7, 2, 0, 0, .null, []), (106, .iconst 1, 1, 0, 0, .null, []), (107, .aload_n 0, 1, 0, 0, .null, []), (108, .getfield 242, 3, 6, 6, .null, [889, 0]),
  (111, .ishl, 1, 0, 0, .null, []), (112, .if_icmp .ge 83, 3, 195, 0, .null, []), (115, .aload_n 0, 1, 0, 0, .null, []), (116, .iload 7, 2, 0, 0, .null, []), (118, .invokevirtual 267, 3, 208, 2, .null, [1201, 0, 1203, 61, 50]), (121, .istore 8, 2, 0, 0, .null, []),
  (123, .lconst 1, 1, 0, 0, .null, []), (124, .lstore 9, 2, 0, 0, .null, []), (126, .iconst 0, 1, 0, 0, .null, []), (127, .istore 11, 2, 0, 0, .null, []), (129, .iload 11, 2, 0, 0, .null, []), (131, .aload_n 0, 1, 0, 0, .null, []),
  (132, .getfield 242, 3, 6, 6, .null, [889, 0]), (135, .if_icmp .ge 33, 3, 168, 0, .null, []), (138, .lload 9, 2, 0, 0, .null, []), (140, .iload 7, 2, 0, 0, .null, []), (142, .iload 11, 2, 0, 0, .null, []), (144, .ishr, 1, 0, 0, .null, []),
  (145, .iconst 1, 1, 0, 0, .null, []), (146, .iand, 1, 0, 0, .null, []), (147, .iconst 1, 1, 0, 0, .null, []), (148, .if_icmp .ne 7, 3, 155, 0, .null, []), (151, .lconst 1, 1, 0, 0, .null, []), (152, .goto 7, 3, 159, 0, .null, []),
  (155, .iload_n 1, 1, 0, 0, .null, []), (156, .i2l, 1, 0, 0, .null, []), (157, .lconst 1, 1, 0, 0, .null, []), (158, .lsub, 1, 0, 0, .null, []), (159, .lmul, 1, 0, 0, .null, []), (160, .lstore 9, 2, 0, 0, .null, []),
  (162, .iinc 11 1, 3, 0, 0, .null, []), (165, .goto (-36), 3, 129, 0, .null, []), (168, .lload_n 3, 1, 0, 0, .null, []), (169, .aload_n 0, 1, 0, 0, .null, []), (170, .getfield 18, 3, 6, 2, .null, [885, 0]), (173, .iconst 0, 1, 0, 0, .null, []),
  (174, .aaload, 1, 0, 0, .null, []), (175, .invokestatic 183, 3, 183, 1, .null, [1100, 0, 1101, 61]), (178, .ifCond .eq 8, 3, 186, 0, .null, []), (181, .lload 9, 2, 0, 0, .null, []), (183, .goto 4, 3, 187, 0, .null, []), (186, .lconst 0, 1, 0, 0, .null, []),
  (187, .ladd, 1, 0, 0, .null, []), (188, .lstore_n 3, 1, 0, 0, .null, []), (189, .iinc 7 1, 3, 0, 0, .null, []), (192, .goto (-88), 3, 104, 0, .null, []), (195, .lload_n 3, 1, 0, 0, .null, []), (196, .lload 5, 2, 0, 0, .null, []),
  (198, .iload_n 2, 1, 0, 0, .null, []), (199, .invokestatic 270, 3, 209, 3, .null, [1205, 0, 1206, 61]), (202, .lreturn, 1, 0, 0, .null, [])]
/-- SmallerInTheShopModel refusedLong (I)J -/
def mp_207 : List (Nat × mm_I) := [(0, .ldc2_w 39, 3, 0, 0, .long (4000000000000000000), [1200]), (3, .aload_n 0, 1, 0, 0, .null, []), (4, .iload_n 1, 1, 0, 0, .null, []), (5, .invokevirtual 41, 3, 141, 2, .null, [945, 0, 947, 61, 33]), (8, .i2l, 1, 0, 0, .null, []), (9, .lsub, 1, 0, 0, .null, []),
  (10, .lreturn, 1, 0, 0, .null, [])]
/-- SmallerInTheShopModel goes (I)I -/
def mp_208 : List (Nat × mm_I) := [(0, .aload_n 0, 1, 0, 0, .null, []), (1, .getfield 9, 3, 6, 0, .null, [883, 0]), (4, .aload_n 0, 1, 0, 0, .null, []), (5, .getfield 18, 3, 6, 2, .null, [885, 0]), (8, .iconst 0, 1, 0, 0, .null, []), (9, .aaload, 1, 0, 0, .null, []),
  (10, .invokestatic 146, 3, 147, 2, .null, [970, 0, 971, 61]), (13, .iconst 0, 1, 0, 0, .null, []), (14, .istore_n 2, 1, 0, 0, .null, []), (15, .iload_n 2, 1, 0, 0, .null, []), (16, .aload_n 0, 1, 0, 0, .null, []), (17, .getfield 242, 3, 6, 6, .null, [889, 0]),
  (20, .if_icmp .ge 84, 3, 104, 0, .null, []), (23, .aload_n 0, 1, 0, 0, .null, []), (24, .getfield 24, 3, 6, 5, .null, [888, 0]), (27, .iload_n 2, 1, 0, 0, .null, []), (28, .iaload, 1, 0, 0, .null, []), (29, .bipush 10, 2, 0, 0, .null, []),
  (31, .irem, 1, 0, 0, .null, []), (32, .istore_n 3, 1, 0, 0, .null, []), (33, .aload_n 0, 1, 0, 0, .null, []), (34, .getfield 18, 3, 6, 2, .null, [885, 0]), (37, .iconst 0, 1, 0, 0, .null, []), (38, .aaload, 1, 0, 0, .null, []),
  (39, .aload_n 0, 1, 0, 0, .null, []), (40, .getfield 24, 3, 6, 5, .null, [888, 0]), (43, .iload_n 2, 1, 0, 0, .null, []), (44, .iaload, 1, 0, 0, .null, []), (45, .bipush 10, 2, 0, 0, .null, []), (47, .idiv, 1, 0, 0, .null, []),
  (48, .invokestatic 132, 3, 150, 2, .null, [981, 0, 982, 61]), (51, .ifCond .eq 8, 3, 59, 0, .null, []), (54, .iload_n 3, 1, 0, 0, .null, []), (55, .iconst 3, 1, 0, 0, .null, []), (56, .if_icmp .le 5, 3, 61, 0, .null, []), (59, .iload_n 2, 1, 0, 0, .null, []),
  (60, .ireturn, 1, 0, 0, .null, []), (61, .aload_n 0, 1, 0, 0, .null, []), (62, .aload_n 0, 1, 0, 0, .null, []), (63, .getfield 18, 3, 6, 2, .null, [885, 0]), (66, .iconst 0, 1, 0, 0, .null, []), (67, .aaload, 1, 0, 0, .null, []),
  (68, .aload_n 0, 1, 0, 0, .null, []), (69, .getfield 24, 3, 6, 5, .null, [888, 0]), (72, .iload_n 2, 1, 0, 0, .null, []), (73, .iaload, 1, 0, 0, .null, []), (74, .bipush 10, 2, 0, 0, .null, []), (76, .idiv, 1, 0, 0, .null, []),
  (77, .iload_n 1, 1, 0, 0, .null, []), (78, .iload_n 2, 1, 0, 0, .null, []), (79, .ishr, 1, 0, 0, .null, []), (80, .iconst 1, 1, 0, 0, .null, []), (81, .iand, 1, 0, 0, .null, []), (82, .iconst 1, 1, 0, 0, .null, []),
  (83, .if_icmp .ne 9, 3, 92, 0, .null, []), (86, .iload_n 3, 1, 0, 0, .null, []), (87, .iconst 1, 1, 0, 0, .null, []), (88, .ixor, 1, 0, 0, .null, []), (89, .goto 4, 3, 93, 0, .null, []), (92, .iload_n 3, 1, 0, 0, .null, []),
  (93, .invokevirtual 136, 3, 152, 4, .null, [989, 0, 991, 61, 38]), (96, .istore 4, 2, 0, 0, .null, []), (98, .iinc 2 1, 3, 0, 0, .null, []), (101, .goto (-86), 3, 15, 0, .null, []), (104, .bipush (-9), 2, 0, 0, .null, []), (106, .ireturn, 1, 0, 0, .null, [])]
/-- SmallerInTheShopModel lowest (JJI)J -/
def mp_209 : List (Nat × mm_I) := [(0, .lload_n 0, 1, 0, 0, .null, []), (1, .lstore 5, 2, 0, 0, .null, []), (3, .lload_n 2, 1, 0, 0, .null, []), (4, .lstore 7, 2, 0, 0, .null, []), (6, .lload 7, 2, 0, 0, .null, []), (8, .lconst 0, 1, 0, 0, .null, []),
  (9, .lcmp, 1, 0, 0, .null, []), (10, .ifCond .eq 21, 3, 31, 0, .null, []), (13, .lload 5, 2, 0, 0, .null, []), (15, .lload 7, 2, 0, 0, .null, []), (17, .lrem, 1, 0, 0, .null, []), (18, .lstore 9, 2, 0, 0, .null, []),
  (20, .lload 7, 2, 0, 0, .null, []), (22, .lstore 5, 2, 0, 0, .null, []), (24, .lload 9, 2, 0, 0, .null, []), (26, .lstore 7, 2, 0, 0, .null, []), (28, .goto (-22), 3, 6, 0, .null, []), (31, .iload 4, 2, 0, 0, .null, []),
  (33, .ifCond .ne 7, 3, 40, 0, .null, []), (36, .lload_n 0, 1, 0, 0, .null, []), (37, .goto 4, 3, 41, 0, .null, []), (40, .lload_n 2, 1, 0, 0, .null, []), (41, .lload 5, 2, 0, 0, .null, []), (43, .ldiv, 1, 0, 0, .null, []),
  (44, .lreturn, 1, 0, 0, .null, [])]
/-- SmallerInTheShopModel mean (I)J -/
def mp_210 : List (Nat × mm_I) := [(0, .iload_n 1, 1, 0, 0, .null, []), (1, .i2l, 1, 0, 0, .null, []), (2, .lconst 0, 1, 0, 0, .null, []), (3, .lconst 1, 1, 0, 0, .null, []), (4, .invokestatic 57, 3, 146, 3, .null, [967, 0, 968, 61]), (7, .ifCond .eq 21, 3, 28, 0, .null, []),
  (10, .aload_n 0, 1, 0, 0, .null, []), (11, .getfield 9, 3, 6, 0, .null, [883, 0]), (14, .invokestatic 173, 3, 178, 1, .null, [1083, 0, 1084, 61]), (17, .i2l, 1, 0, 0, .null, []), (18, .ldc2_w 274, 3, 0, 0, .long (10), [1212]), (21, .iload_n 1, 1, 0, 0, .null, []),
  (22, .invokestatic 270, 3, 209, 3, .null, [1205, 0, 1206, 61]), (25, .goto 9, 3, 34, 0, .null, []), (28, .aload_n 0, 1, 0, 0, .null, []), (29, .bipush (-2), 2, 0, 0, .null, []), (31, .invokevirtual 263, 3, 207, 2, .null, [1196, 0, 1198, 61, 49]), (34, .lreturn, 1, 0, 0, .null, [])]
/-- SmallerInTheShopModel whatIs (II)I -/
def mp_211 : List (Nat × mm_I) := [(0, .iload_n 1, 1, 0, 0, .null, []), (1, .invokestatic 157, 3, 166, 1, .null, [1035, 0, 1036, 61]), (4, .ifCond .ne 9, 3, 13, 0, .null, []), (7, .aload_n 0, 1, 0, 0, .null, []), (8, .iconst (-1), 1, 0, 0, .null, []), (9, .invokevirtual 41, 3, 141, 2, .null, [945, 0, 947, 61, 33]),
  (12, .ireturn, 1, 0, 0, .null, []), (13, .iload_n 2, 1, 0, 0, .null, []), (14, .i2l, 1, 0, 0, .null, []), (15, .lconst 0, 1, 0, 0, .null, []), (16, .lconst 1, 1, 0, 0, .null, []), (17, .invokestatic 57, 3, 146, 3, .null, [967, 0, 968, 61]),
  (20, .ifCond .ne 10, 3, 30, 0, .null, []), (23, .aload_n 0, 1, 0, 0, .null, []), (24, .bipush (-2), 2, 0, 0, .null, []), (26, .invokevirtual 41, 3, 141, 2, .null, [945, 0, 947, 61, 33]), (29, .ireturn, 1, 0, 0, .null, []), (30, .aload_n 0, 1, 0, 0, .null, []),
  (31, .getfield 242, 3, 6, 6, .null, [889, 0]), (34, .iconst 2, 1, 0, 0, .null, []), (35, .irem, 1, 0, 0, .null, []), (36, .iconst 1, 1, 0, 0, .null, []), (37, .if_icmp .ne 10, 3, 47, 0, .null, []), (40, .aload_n 0, 1, 0, 0, .null, []),
  (41, .bipush (-3), 2, 0, 0, .null, []), (43, .invokevirtual 41, 3, 141, 2, .null, [945, 0, 947, 61, 33]), (46, .ireturn, 1, 0, 0, .null, []), (47, .iconst 0, 1, 0, 0, .null, []), (48, .istore_n 3, 1, 0, 0, .null, []), (49, .iconst 0, 1, 0, 0, .null, []),
  (50, .istore 4, 2, 0, 0, .null, []), (52, .iload 4, 2, 0, 0, .null, []), (54, .iload_n 2, 1, 0, 0, .null, []), (55, .ifCond .ne 8, 3, 63, 0, .null, []), (58, .bipush 6, 2, 0, 0, .null, []), (60, .goto 5, 3, 65, 0, .null, []),
  (63, .bipush 10, 2, 0, 0, .null, []), (65, .if_icmp .ge 63, 3, 128, 0, .null, []), (68, .iload_n 2, 1, 0, 0, .null, []), (69, .ifCond .ne 21, 3, 90, 0, .null, []), (72, .aload_n 0, 1, 0, 0, .null, []), (73, .iload 4, 2, 0, 0, .null, []),
  (75, .aload_n 0, 1, 0, 0, .null, []), (76, .getfield 9, 3, 6, 0, .null, [883, 0]), (79, .bipush 10, 2, 0, 0, .null, []), (81, .iload_n 1, 1, 0, 0, .null, []), (82, .iadd, 1, 0, 0, .null, []), (83, .iaload, 1, 0, 0, .null, []),
  (84, .invokevirtual 276, 3, 212, 3, .null, [1217, 0, 1219, 61, 51]), (87, .goto 17, 3, 104, 0, .null, []), (90, .aload_n 0, 1, 0, 0, .null, []), (91, .aload_n 0, 1, 0, 0, .null, []), (92, .getfield 9, 3, 6, 0, .null, [883, 0]), (95, .iconst 0, 1, 0, 0, .null, []),
  (96, .iload_n 1, 1, 0, 0, .null, []), (97, .iadd, 1, 0, 0, .null, []), (98, .iaload, 1, 0, 0, .null, []), (99, .iload 4, 2, 0, 0, .null, []), (101, .invokevirtual 276, 3, 212, 3, .null, [1217, 0, 1219, 61, 51]), (104, .istore 5, 2, 0, 0, .null, []),
  (106, .iload_n 3, 1, 0, 0, .null, []), (107, .iload 5, 2, 0, 0, .null, []), (109, .ifCond .eq 10, 3, 119, 0, .null, []), (112, .iconst 1, 1, 0, 0, .null, []), (113, .iload 4, 2, 0, 0, .null, []), (115, .ishl, 1, 0, 0, .null, []),
  (116, .goto 4, 3, 120, 0, .null, []), (119, .iconst 0, 1, 0, 0, .null, []), (120, .ior, 1, 0, 0, .null, []), (121, .istore_n 3, 1, 0, 0, .null, []), (122, .iinc 4 1, 3, 0, 0, .null, []), (125, .goto (-73), 3, 52, 0, .null, []),
  (128, .iload_n 3, 1, 0, 0, .null, []), (129, .ireturn, 1, 0, 0, .null, [])]
/-- SmallerInTheShopModel isSo (II)Z -/
def mp_212 : List (Nat × mm_I) := [(0, .iconst 0, 1, 0, 0, .null, []), (1, .istore_n 3, 1, 0, 0, .null, []), (2, .iload_n 3, 1, 0, 0, .null, []), (3, .aload_n 0, 1, 0, 0, .null, []), (4, .getfield 242, 3, 6, 6, .null, [889, 0]), (7, .if_icmp .ge 34, 3, 41, 0, .null, []),
  (10, .iload_n 1, 1, 0, 0, .null, []), (11, .iload_n 2, 1, 0, 0, .null, []), (12, .aload_n 0, 1, 0, 0, .null, []), (13, .getfield 24, 3, 6, 5, .null, [888, 0]), (16, .iload_n 3, 1, 0, 0, .null, []), (17, .iaload, 1, 0, 0, .null, []),
  (18, .iconst 1, 1, 0, 0, .null, []), (19, .invokestatic 45, 3, 159, 4, .null, [1012, 0, 1013, 61]), (22, .aload_n 0, 1, 0, 0, .null, []), (23, .getfield 24, 3, 6, 5, .null, [888, 0]), (26, .iload_n 3, 1, 0, 0, .null, []), (27, .iconst 1, 1, 0, 0, .null, []),
  (28, .iadd, 1, 0, 0, .null, []), (29, .iaload, 1, 0, 0, .null, []), (30, .if_icmp .eq 5, 3, 35, 0, .null, []), (33, .iconst 0, 1, 0, 0, .null, []), (34, .ireturn, 1, 0, 0, .null, []), (35, .iinc 3 2, 3, 0, 0, .null, []),
  (38, .goto (-36), 3, 2, 0, .null, []), (41, .iconst 1, 1, 0, 0, .null, []), (42, .ireturn, 1, 0, 0, .null, [])]
/-- SmallerInTheShopModel row (I)I -/
def mp_213 : List (Nat × mm_I) := [(0, .iload_n 1, 1, 0, 0, .null, []), (1, .ifCond .ge 10, 3, 11, 0, .null, []), (4, .aload_n 0, 1, 0, 0, .null, []), (5, .bipush (-4), 2, 0, 0, .null, []), (7, .invokevirtual 41, 3, 141, 2, .null, [945, 0, 947, 61, 33]), (10, .ireturn, 1, 0, 0, .null, []),
  (11, .iload_n 1, 1, 0, 0, .null, []), (12, .bipush 99, 2, 0, 0, .null, []), (14, .if_icmp .gt 12, 3, 26, 0, .null, []), (17, .aload_n 0, 1, 0, 0, .null, []), (18, .getfield 242, 3, 6, 6, .null, [889, 0]), (21, .bipush 16, 2, 0, 0, .null, []),
  (23, .if_icmp .ne 10, 3, 33, 0, .null, []), (26, .aload_n 0, 1, 0, 0, .null, []), (27, .bipush (-6), 2, 0, 0, .null, []), (29, .invokevirtual 41, 3, 141, 2, .null, [945, 0, 947, 61, 33]), (32, .ireturn, 1, 0, 0, .null, []), (33, .aload_n 0, 1, 0, 0, .null, []),
  (34, .getfield 24, 3, 6, 5, .null, [888, 0]), (37, .aload_n 0, 1, 0, 0, .null, []), (38, .getfield 242, 3, 6, 6, .null, [889, 0]), (41, .iload_n 1, 1, 0, 0, .null, []), (42, .iastore, 1, 0, 0, .null, []), (43, .aload_n 0, 1, 0, 0, .null, []),
  (44, .dup, 1, 0, 0, .null, []), (45, .getfield 242, 3, 6, 6, .null, [889, 0]), (48, .iconst 1, 1, 0, 0, .null, []), (49, .iadd, 1, 0, 0, .null, []), (50, .putfield 242, 3, 6, 6, .null, [889, 0]), (53, .aload_n 0, 1, 0, 0, .null, []),
  (54, .getfield 242, 3, 6, 6, .null, [889, 0]), (57, .ireturn, 1, 0, 0, .null, [])]
/-- SmallerInTheShopModel judge ()I -/
def mp_214 : List (Nat × mm_I) := [(0, .aload_n 0, 1, 0, 0, .null, []), (1, .iconst 0, 1, 0, 0, .null, []), (2, .invokevirtual 267, 3, 208, 2, .null, [1201, 0, 1203, 61, 50]), (5, .istore_n 1, 1, 0, 0, .null, []), (6, .aload_n 0, 1, 0, 0, .null, []), (7, .iconst 0, 1, 0, 0, .null, []),
  (8, .putfield 242, 3, 6, 6, .null, [889, 0]), (11, .iload_n 1, 1, 0, 0, .null, []), (12, .ireturn, 1, 0, 0, .null, [])]
/-- SmallerInTheShopModel clear ()I -/
def mp_215 : List (Nat × mm_I) := [(0, .aload_n 0, 1, 0, 0, .null, []), (1, .getfield 242, 3, 6, 6, .null, [889, 0]), (4, .istore_n 1, 1, 0, 0, .null, []), (5, .aload_n 0, 1, 0, 0, .null, []), (6, .iconst 0, 1, 0, 0, .null, []), (7, .putfield 242, 3, 6, 6, .null, [889, 0]),
  (10, .iload_n 1, 1, 0, 0, .null, []), (11, .ireturn, 1, 0, 0, .null, [])]
/-- SmallerInTheShopModel lots (III)I -/
def mp_216 : List (Nat × mm_I) := [(0, .iload_n 1, 1, 0, 0, .null, []), (1, .i2l, 1, 0, 0, .null, []), (2, .lconst 1, 1, 0, 0, .null, []), (3, .ldc2_w 261, 3, 0, 0, .long (20), [1195]), (6, .invokestatic 57, 3, 146, 3, .null, [967, 0, 968, 61]), (9, .ifCond .ne 20, 3, 29, 0, .null, []),
  (12, .aload_n 0, 1, 0, 0, .null, []), (13, .iload_n 1, 1, 0, 0, .null, []), (14, .iconst 1, 1, 0, 0, .null, []), (15, .if_icmp .ge 8, 3, 23, 0, .null, []), (18, .bipush (-4), 2, 0, 0, .null, []), (20, .goto 5, 3, 25, 0, .null, []),
  (23, .bipush (-6), 2, 0, 0, .null, []), (25, .invokevirtual 41, 3, 141, 2, .null, [945, 0, 947, 61, 33]), (28, .ireturn, 1, 0, 0, .null, []), (29, .iload_n 3, 1, 0, 0, .null, []), (30, .i2l, 1, 0, 0, .null, []), (31, .lconst 0, 1, 0, 0, .null, []),
  (32, .lconst 1, 1, 0, 0, .null, []), (33, .invokestatic 57, 3, 146, 3, .null, [967, 0, 968, 61]), (36, .ifCond .ne 10, 3, 46, 0, .null, []), (39, .aload_n 0, 1, 0, 0, .null, []), (40, .bipush (-2), 2, 0, 0, .null, []), (42, .invokevirtual 41, 3, 141, 2, .null, [945, 0, 947, 61, 33]),
  (45, .ireturn, 1, 0, 0, .null, []), (46, .aload_n 0, 1, 0, 0, .null, []), (47, .iload_n 2, 1, 0, 0, .null, []), (48, .putfield 280, 3, 6, 18, .null, [901, 0]), (51, .iconst 0, 1, 0, 0, .null, []), (52, .istore 4, 2, 0, 0, .null, []),
  (54, .iconst 0, 1, 0, 0, .null, []), (55, .istore 5, 2, 0, 0, .null, []), (57, .iconst 0, 1, 0, 0, .null, []), (58, .istore 6, 2, 0, 0, .null, []), (60, .iload 6, 2, 0, 0, .null, []), (62, .iload_n 1, 1, 0, 0, .null, []),
  (63, .if_icmp .ge 40, 3, 103, 0, .null, []), (66, .iload 4, 2, 0, 0, .null, []), (68, .aload_n 0, 1, 0, 0, .null, []), (69, .invokevirtual 289, 3, 217, 1, .null, [1237, 0, 1239, 61, 52]), (72, .iadd, 1, 0, 0, .null, []), (73, .istore 4, 2, 0, 0, .null, []),
  (75, .iload 5, 2, 0, 0, .null, []), (77, .aload_n 0, 1, 0, 0, .null, []), (78, .getfield 18, 3, 6, 2, .null, [885, 0]), (81, .iconst 0, 1, 0, 0, .null, []), (82, .aaload, 1, 0, 0, .null, []), (83, .invokestatic 183, 3, 183, 1, .null, [1100, 0, 1101, 61]),
  (86, .ifCond .eq 7, 3, 93, 0, .null, []), (89, .iconst 1, 1, 0, 0, .null, []), (90, .goto 4, 3, 94, 0, .null, []), (93, .iconst 0, 1, 0, 0, .null, []), (94, .iadd, 1, 0, 0, .null, []), (95, .istore 5, 2, 0, 0, .null, []),
  (97, .iinc 6 1, 3, 0, 0, .null, []), (100, .goto (-40), 3, 60, 0, .null, []), (103, .iload_n 3, 1, 0, 0, .null, []), (104, .ifCond .ne 8, 3, 112, 0, .null, []), (107, .iload 4, 2, 0, 0, .null, []), (109, .goto 5, 3, 114, 0, .null, []),
  (112, .iload 5, 2, 0, 0, .null, []), (114, .ireturn, 1, 0, 0, .null, [])]
/-- SmallerInTheShopModel shutsByLot ()I -/
def mp_217 : List (Nat × mm_I) := [(0, .aload_n 0, 1, 0, 0, .null, []), (1, .getfield 9, 3, 6, 0, .null, [883, 0]), (4, .aload_n 0, 1, 0, 0, .null, []), (5, .getfield 18, 3, 6, 2, .null, [885, 0]), (8, .iconst 0, 1, 0, 0, .null, []), (9, .aaload, 1, 0, 0, .null, []),
  (10, .invokestatic 146, 3, 147, 2, .null, [970, 0, 971, 61]), (13, .iconst 0, 1, 0, 0, .null, []), (14, .istore_n 1, 1, 0, 0, .null, []), (15, .aload_n 0, 1, 0, 0, .null, []), (16, .getfield 18, 3, 6, 2, .null, [885, 0]), (19, .iconst 0, 1, 0, 0, .null, []),
  (20, .aaload, 1, 0, 0, .null, []), (21, .invokestatic 197, 3, 189, 1, .null, [1123, 0, 1124, 61]), (24, .ifCond .ne 83, 3, 107, 0, .null, []), (27, .aload_n 0, 1, 0, 0, .null, []), (28, .getfield 18, 3, 6, 2, .null, [885, 0]), (31, .iconst 0, 1, 0, 0, .null, []),
  (32, .aaload, 1, 0, 0, .null, []), (33, .iconst 0, 1, 0, 0, .null, []), (34, .invokestatic 61, 3, 151, 2, .null, [985, 0, 986, 61]), (37, .iconst 1, 1, 0, 0, .null, []), (38, .isub, 1, 0, 0, .null, []), (39, .aload_n 0, 1, 0, 0, .null, []),
  (40, .getfield 18, 3, 6, 2, .null, [885, 0]), (43, .iconst 0, 1, 0, 0, .null, []), (44, .aaload, 1, 0, 0, .null, []), (45, .iconst 1, 1, 0, 0, .null, []), (46, .invokestatic 61, 3, 151, 2, .null, [985, 0, 986, 61]), (49, .iconst 1, 1, 0, 0, .null, []),
  (50, .isub, 1, 0, 0, .null, []), (51, .iadd, 1, 0, 0, .null, []), (52, .istore_n 2, 1, 0, 0, .null, []), (53, .aload_n 0, 1, 0, 0, .null, []), (54, .iload_n 2, 1, 0, 0, .null, []), (55, .invokevirtual 286, 3, 218, 2, .null, [1241, 0, 1243, 61, 53]),
  (58, .istore_n 3, 1, 0, 0, .null, []), (59, .iload_n 3, 1, 0, 0, .null, []), (60, .aload_n 0, 1, 0, 0, .null, []), (61, .getfield 18, 3, 6, 2, .null, [885, 0]), (64, .iconst 0, 1, 0, 0, .null, []), (65, .aaload, 1, 0, 0, .null, []),
  (66, .iconst 0, 1, 0, 0, .null, []), (67, .invokestatic 61, 3, 151, 2, .null, [985, 0, 986, 61]), (70, .iconst 1, 1, 0, 0, .null, []), (71, .isub, 1, 0, 0, .null, []), (72, .if_icmp .ge 9, 3, 81, 0, .null, []), (75, .iload_n 3, 1, 0, 0, .null, []),
  (76, .iconst 1, 1, 0, 0, .null, []), (77, .iadd, 1, 0, 0, .null, []), (78, .goto 4, 3, 82, 0, .null, []), (81, .iconst 4, 1, 0, 0, .null, []), (82, .istore 4, 2, 0, 0, .null, []), (84, .iload_n 1, 1, 0, 0, .null, []),
  (85, .aload_n 0, 1, 0, 0, .null, []), (86, .aload_n 0, 1, 0, 0, .null, []), (87, .getfield 18, 3, 6, 2, .null, [885, 0]), (90, .iconst 0, 1, 0, 0, .null, []), (91, .aaload, 1, 0, 0, .null, []), (92, .iload 4, 2, 0, 0, .null, []),
  (94, .aload_n 0, 1, 0, 0, .null, []), (95, .iconst 4, 1, 0, 0, .null, []), (96, .invokevirtual 286, 3, 218, 2, .null, [1241, 0, 1243, 61, 53]), (99, .invokevirtual 136, 3, 152, 4, .null, [989, 0, 991, 61, 38]), (102, .iadd, 1, 0, 0, .null, []), (103, .istore_n 1, 1, 0, 0, .null, []),
  (104, .goto (-89), 3, 15, 0, .null, []), (107, .iload_n 1, 1, 0, 0, .null, []), (108, .ireturn, 1, 0, 0, .null, [])]
/-- SmallerInTheShopModel draw (I)I -/
def mp_218 : List (Nat × mm_I) := [(0, .aload_n 0, 1, 0, 0, .null, []), (1, .aload_n 0, 1, 0, 0, .null, []), (2, .getfield 280, 3, 6, 18, .null, [901, 0]), (5, .ldc_w 283, 3, 0, 0, .int (1664525), [1245]), (8, .imul, 1, 0, 0, .null, []), (9, .ldc_w 284, 3, 0, 0, .int (1013904223), [1246]),
  (12, .iadd, 1, 0, 0, .null, []), (13, .putfield 280, 3, 6, 18, .null, [901, 0]), (16, .aload_n 0, 1, 0, 0, .null, []), (17, .getfield 280, 3, 6, 18, .null, [901, 0]), (20, .ldc_w 285, 3, 0, 0, .int (2147483647), [1247]), (23, .iand, 1, 0, 0, .null, []),
  (24, .sipush 256, 3, 0, 0, .null, []), (27, .idiv, 1, 0, 0, .null, []), (28, .iload_n 1, 1, 0, 0, .null, []), (29, .irem, 1, 0, 0, .null, []), (30, .ireturn, 1, 0, 0, .null, [])]
/-- SmallerInTheShopModel image ()I -/
def mp_219 : List (Nat × mm_I) := [(0, .aload_n 0, 1, 0, 0, .null, []), (1, .getfield 9, 3, 6, 0, .null, [883, 0]), (4, .aload_n 0, 1, 0, 0, .null, []), (5, .getfield 13, 3, 6, 1, .null, [884, 0]), (8, .invokestatic 146, 3, 147, 2, .null, [970, 0, 971, 61]), (11, .aload_n 0, 1, 0, 0, .null, []),
  (12, .iconst 1, 1, 0, 0, .null, []), (13, .putfield 292, 3, 6, 3, .null, [886, 0]), (16, .aload_n 0, 1, 0, 0, .null, []), (17, .getfield 9, 3, 6, 0, .null, [883, 0]), (20, .bipush 73, 2, 0, 0, .null, []), (22, .iaload, 1, 0, 0, .null, []),
  (23, .ireturn, 1, 0, 0, .null, [])]
/-- SmallerInTheShopModel on ()I -/
def mp_220 : List (Nat × mm_I) := [(0, .aload_n 0, 1, 0, 0, .null, []), (1, .getfield 292, 3, 6, 3, .null, [886, 0]), (4, .ifCond .ne 10, 3, 14, 0, .null, []), (7, .aload_n 0, 1, 0, 0, .null, []), (8, .bipush (-3), 2, 0, 0, .null, []), (10, .invokevirtual 41, 3, 141, 2, .null, [945, 0, 947, 61, 33]),
  (13, .ireturn, 1, 0, 0, .null, []), (14, .aload_n 0, 1, 0, 0, .null, []), (15, .getfield 13, 3, 6, 1, .null, [884, 0]), (18, .aload_n 0, 1, 0, 0, .null, []), (19, .getfield 9, 3, 6, 0, .null, [883, 0]), (22, .invokestatic 146, 3, 147, 2, .null, [970, 0, 971, 61]),
  (25, .aload_n 0, 1, 0, 0, .null, []), (26, .getfield 9, 3, 6, 0, .null, [883, 0]), (29, .bipush 73, 2, 0, 0, .null, []), (31, .iaload, 1, 0, 0, .null, []), (32, .ireturn, 1, 0, 0, .null, [])]
/-- SmallerInTheShopModel count (I)I -/
def mp_221 : List (Nat × mm_I) := [(0, .iload_n 1, 1, 0, 0, .null, []), (1, .tableswitch 118 0 7 #[47, 55, 63, 74, 82, 100, 108, 113], 47, 0, 0, .null, []), (48, .aload_n 0, 1, 0, 0, .null, []), (49, .getfield 9, 3, 6, 0, .null, [883, 0]), (52, .bipush 73, 2, 0, 0, .null, []), (54, .iaload, 1, 0, 0, .null, []),
  (55, .ireturn, 1, 0, 0, .null, []), (56, .aload_n 0, 1, 0, 0, .null, []), (57, .getfield 9, 3, 6, 0, .null, [883, 0]), (60, .invokestatic 173, 3, 178, 1, .null, [1083, 0, 1084, 61]), (63, .ireturn, 1, 0, 0, .null, []), (64, .sipush 1023, 3, 0, 0, .null, []),
  (67, .aload_n 0, 1, 0, 0, .null, []), (68, .invokevirtual 187, 3, 184, 1, .null, [1103, 0, 1105, 61, 40]), (71, .iconst (-1), 1, 0, 0, .null, []), (72, .ixor, 1, 0, 0, .null, []), (73, .iand, 1, 0, 0, .null, []), (74, .ireturn, 1, 0, 0, .null, []),
  (75, .aload_n 0, 1, 0, 0, .null, []), (76, .getfield 9, 3, 6, 0, .null, [883, 0]), (79, .bipush 72, 2, 0, 0, .null, []), (81, .iaload, 1, 0, 0, .null, []), (82, .ireturn, 1, 0, 0, .null, []), (83, .aload_n 0, 1, 0, 0, .null, []),
  (84, .getfield 9, 3, 6, 0, .null, [883, 0]), (87, .iconst 0, 1, 0, 0, .null, []), (88, .invokestatic 61, 3, 151, 2, .null, [985, 0, 986, 61]), (91, .aload_n 0, 1, 0, 0, .null, []), (92, .getfield 9, 3, 6, 0, .null, [883, 0]), (95, .iconst 1, 1, 0, 0, .null, []),
  (96, .invokestatic 61, 3, 151, 2, .null, [985, 0, 986, 61]), (99, .imul, 1, 0, 0, .null, []), (100, .ireturn, 1, 0, 0, .null, []), (101, .aload_n 0, 1, 0, 0, .null, []), (102, .getfield 9, 3, 6, 0, .null, [883, 0]), (105, .invokestatic 177, 3, 181, 1, .null, [1094, 0, 1095, 61]),
  (108, .ireturn, 1, 0, 0, .null, []), (109, .aload_n 0, 1, 0, 0, .null, []), (110, .getfield 242, 3, 6, 6, .null, [889, 0]), (113, .ireturn, 1, 0, 0, .null, []), (114, .aload_n 0, 1, 0, 0, .null, []), (115, .getfield 109, 3, 6, 8, .null, [891, 0]),
  (118, .ireturn, 1, 0, 0, .null, []), (119, .iload_n 1, 1, 0, 0, .null, []), (120, .i2l, 1, 0, 0, .null, []), (121, .ldc2_w 296, 3, 0, 0, .long (11), [1260]), (124, .ldc2_w 298, 3, 0, 0, .long (16), [1261]), (127, .invokestatic 57, 3, 146, 3, .null, [967, 0, 968, 61]),
  (130, .ifCond .eq 15, 3, 145, 0, .null, []), (133, .aload_n 0, 1, 0, 0, .null, []), (134, .getfield 21, 3, 6, 4, .null, [887, 0]), (137, .iload_n 1, 1, 0, 0, .null, []), (138, .bipush 10, 2, 0, 0, .null, []), (140, .isub, 1, 0, 0, .null, []),
  (141, .iaload, 1, 0, 0, .null, []), (142, .goto 5, 3, 147, 0, .null, []), (145, .bipush (-9), 2, 0, 0, .null, []), (147, .ireturn, 1, 0, 0, .null, [])]
/-- the law -/
def mp_law : List (Nat × mm_I) := [(0, .new 7, 3, 5, 0, .null, [70, 71, 55]), (3, .dup, 1, 0, 0, .null, []), (4, .invokespecial 9, 3, 82, 1, .null, [72, 0, 73, 55]), (7, .astore_n 1, 1, 0, 0, .null, []), (8, .new 10, 3, 6, 0, .null, [874, 875, 61]), (11, .dup, 1, 0, 0, .null, []),
  (12, .invokespecial 12, 3, 139, 1, .null, [876, 0, 877, 61]), (15, .astore_n 2, 1, 0, 0, .null, []), (16, .iconst 0, 1, 0, 0, .null, []), (17, .istore_n 3, 1, 0, 0, .null, []), (18, .iload_n 3, 1, 0, 0, .null, []), (19, .aload_n 0, 1, 0, 0, .null, []),
  (20, .arraylength, 1, 0, 0, .null, []), (21, .iconst 5, 1, 0, 0, .null, []), (22, .isub, 1, 0, 0, .null, []), (23, .if_icmp .gt 1067, 3, 1090, 0, .null, []), (26, .aload_n 0, 1, 0, 0, .null, []), (27, .iload_n 3, 1, 0, 0, .null, []),
  (28, .iaload, 1, 0, 0, .null, []), (29, .bipush 31, 2, 0, 0, .null, []), (31, .iand, 1, 0, 0, .null, []), (32, .tableswitch 1052 0 31 #[144, 167, 180, 213, 246, 279, 292, 325, 368, 391, 434, 467, 490, 513, 536, 589, 632, 645, 678, 711, 764, 797, 820, 854, 878, 911, 934, 947, 960, 1003, 1016, 1029], 144, 0, 0, .null, []), (176, .aload_n 1, 1, 0, 0, .null, []), (177, .aload_n 0, 1, 0, 0, .null, []),
  (178, .iload_n 3, 1, 0, 0, .null, []), (179, .iconst 1, 1, 0, 0, .null, []), (180, .iadd, 1, 0, 0, .null, []), (181, .iaload, 1, 0, 0, .null, []), (182, .invokevirtual 13, 3, 83, 2, .null, [254, 0, 255, 55, 256]), (185, .aload_n 2, 1, 0, 0, .null, []),
  (186, .aload_n 0, 1, 0, 0, .null, []), (187, .iload_n 3, 1, 0, 0, .null, []), (188, .iconst 1, 1, 0, 0, .null, []), (189, .iadd, 1, 0, 0, .null, []), (190, .iaload, 1, 0, 0, .null, []), (191, .invokevirtual 17, 3, 140, 2, .null, [941, 0, 942, 61, 943]),
  (194, .if_icmp .eq 890, 3, 1084, 0, .null, []), (197, .iconst 0, 1, 0, 0, .null, []), (198, .ireturn, 1, 0, 0, .null, []), (199, .aload_n 1, 1, 0, 0, .null, []), (200, .invokevirtual 18, 3, 85, 1, .null, [270, 0, 271, 55, 272]), (203, .aload_n 2, 1, 0, 0, .null, []),
  (204, .invokevirtual 22, 3, 142, 1, .null, [949, 0, 950, 61, 951]), (207, .if_icmp .eq 877, 3, 1084, 0, .null, []), (210, .iconst 0, 1, 0, 0, .null, []), (211, .ireturn, 1, 0, 0, .null, []), (212, .aload_n 1, 1, 0, 0, .null, []), (213, .aload_n 0, 1, 0, 0, .null, []),
  (214, .iload_n 3, 1, 0, 0, .null, []), (215, .iconst 1, 1, 0, 0, .null, []), (216, .iadd, 1, 0, 0, .null, []), (217, .iaload, 1, 0, 0, .null, []), (218, .aload_n 0, 1, 0, 0, .null, []), (219, .iload_n 3, 1, 0, 0, .null, []),
  (220, .iconst 2, 1, 0, 0, .null, []), (221, .iadd, 1, 0, 0, .null, []), (222, .iaload, 1, 0, 0, .null, []), (223, .invokevirtual 23, 3, 93, 3, .null, [552, 0, 553, 55, 554]), (226, .aload_n 2, 1, 0, 0, .null, []), (227, .aload_n 0, 1, 0, 0, .null, []),
  (228, .iload_n 3, 1, 0, 0, .null, []), (229, .iconst 1, 1, 0, 0, .null, []), (230, .iadd, 1, 0, 0, .null, []), (231, .iaload, 1, 0, 0, .null, []), (232, .aload_n 0, 1, 0, 0, .null, []), (233, .iload_n 3, 1, 0, 0, .null, []),
  (234, .iconst 2, 1, 0, 0, .null, []), (235, .iadd, 1, 0, 0, .null, []), (236, .iaload, 1, 0, 0, .null, []), (237, .invokevirtual 27, 3, 165, 3, .null, [1031, 0, 1032, 61, 1033]), (240, .if_icmp .eq 844, 3, 1084, 0, .null, []), (243, .iconst 0, 1, 0, 0, .null, []),
  (244, .ireturn, 1, 0, 0, .null, []), (245, .aload_n 1, 1, 0, 0, .null, []), (246, .aload_n 0, 1, 0, 0, .null, []), (247, .iload_n 3, 1, 0, 0, .null, []), (248, .iconst 1, 1, 0, 0, .null, []), (249, .iadd, 1, 0, 0, .null, []),
  (250, .iaload, 1, 0, 0, .null, []), (251, .aload_n 0, 1, 0, 0, .null, []), (252, .iload_n 3, 1, 0, 0, .null, []), (253, .iconst 2, 1, 0, 0, .null, []), (254, .iadd, 1, 0, 0, .null, []), (255, .iaload, 1, 0, 0, .null, []),
  (256, .invokevirtual 28, 3, 94, 3, .null, [558, 0, 559, 55, 560]), (259, .aload_n 2, 1, 0, 0, .null, []), (260, .aload_n 0, 1, 0, 0, .null, []), (261, .iload_n 3, 1, 0, 0, .null, []), (262, .iconst 1, 1, 0, 0, .null, []), (263, .iadd, 1, 0, 0, .null, []),
  (264, .iaload, 1, 0, 0, .null, []), (265, .aload_n 0, 1, 0, 0, .null, []), (266, .iload_n 3, 1, 0, 0, .null, []), (267, .iconst 2, 1, 0, 0, .null, []), (268, .iadd, 1, 0, 0, .null, []), (269, .iaload, 1, 0, 0, .null, []),
  (270, .invokevirtual 31, 3, 167, 3, .null, [1040, 0, 1041, 61, 1042]), (273, .if_icmp .eq 811, 3, 1084, 0, .null, []), (276, .iconst 0, 1, 0, 0, .null, []), (277, .ireturn, 1, 0, 0, .null, []), (278, .aload_n 1, 1, 0, 0, .null, []), (279, .aload_n 0, 1, 0, 0, .null, []),
  (280, .iload_n 3, 1, 0, 0, .null, []), (281, .iconst 1, 1, 0, 0, .null, []), (282, .iadd, 1, 0, 0, .null, []), (283, .iaload, 1, 0, 0, .null, []), (284, .aload_n 0, 1, 0, 0, .null, []), (285, .iload_n 3, 1, 0, 0, .null, []),
  (286, .iconst 2, 1, 0, 0, .null, []), (287, .iadd, 1, 0, 0, .null, []), (288, .iaload, 1, 0, 0, .null, []), (289, .invokevirtual 32, 3, 96, 3, .null, [574, 0, 575, 55, 576]), (292, .aload_n 2, 1, 0, 0, .null, []), (293, .aload_n 0, 1, 0, 0, .null, []),
  (294, .iload_n 3, 1, 0, 0, .null, []), (295, .iconst 1, 1, 0, 0, .null, []), (296, .iadd, 1, 0, 0, .null, []), (297, .iaload, 1, 0, 0, .null, []), (298, .aload_n 0, 1, 0, 0, .null, []), (299, .iload_n 3, 1, 0, 0, .null, []),
  (300, .iconst 2, 1, 0, 0, .null, []), (301, .iadd, 1, 0, 0, .null, []), (302, .iaload, 1, 0, 0, .null, []), (303, .invokevirtual 35, 3, 172, 3, .null, [1057, 0, 1058, 61, 1059]), (306, .if_icmp .eq 778, 3, 1084, 0, .null, []), (309, .iconst 0, 1, 0, 0, .null, []),
  (310, .ireturn, 1, 0, 0, .null, []), (311, .aload_n 1, 1, 0, 0, .null, []), (312, .invokevirtual 36, 3, 98, 1, .null, [582, 0, 583, 55, 584]), (315, .aload_n 2, 1, 0, 0, .null, []), (316, .invokevirtual 39, 3, 173, 1, .null, [1061, 0, 1062, 61, 1063]), (319, .if_icmp .eq 765, 3, 1084, 0, .null, []),
  (322, .iconst 0, 1, 0, 0, .null, []), (323, .ireturn, 1, 0, 0, .null, []), (324, .aload_n 1, 1, 0, 0, .null, []), (325, .aload_n 0, 1, 0, 0, .null, []), (326, .iload_n 3, 1, 0, 0, .null, []), (327, .iconst 1, 1, 0, 0, .null, []),
  (328, .iadd, 1, 0, 0, .null, []), (329, .iaload, 1, 0, 0, .null, []), (330, .aload_n 0, 1, 0, 0, .null, []), (331, .iload_n 3, 1, 0, 0, .null, []), (332, .iconst 2, 1, 0, 0, .null, []), (333, .iadd, 1, 0, 0, .null, []),
  (334, .iaload, 1, 0, 0, .null, []), (335, .invokevirtual 40, 3, 99, 3, .null, [586, 0, 587, 55, 588]), (338, .aload_n 2, 1, 0, 0, .null, []), (339, .aload_n 0, 1, 0, 0, .null, []), (340, .iload_n 3, 1, 0, 0, .null, []), (341, .iconst 1, 1, 0, 0, .null, []),
  (342, .iadd, 1, 0, 0, .null, []), (343, .iaload, 1, 0, 0, .null, []), (344, .aload_n 0, 1, 0, 0, .null, []), (345, .iload_n 3, 1, 0, 0, .null, []), (346, .iconst 2, 1, 0, 0, .null, []), (347, .iadd, 1, 0, 0, .null, []),
  (348, .iaload, 1, 0, 0, .null, []), (349, .invokevirtual 43, 3, 174, 3, .null, [1065, 0, 1066, 61, 1067]), (352, .if_icmp .eq 732, 3, 1084, 0, .null, []), (355, .iconst 0, 1, 0, 0, .null, []), (356, .ireturn, 1, 0, 0, .null, []), (357, .aload_n 1, 1, 0, 0, .null, []),
  (358, .aload_n 0, 1, 0, 0, .null, []), (359, .iload_n 3, 1, 0, 0, .null, []), (360, .iconst 1, 1, 0, 0, .null, []), (361, .iadd, 1, 0, 0, .null, []), (362, .iaload, 1, 0, 0, .null, []), (363, .aload_n 0, 1, 0, 0, .null, []),
  (364, .iload_n 3, 1, 0, 0, .null, []), (365, .iconst 2, 1, 0, 0, .null, []), (366, .iadd, 1, 0, 0, .null, []), (367, .iaload, 1, 0, 0, .null, []), (368, .aload_n 0, 1, 0, 0, .null, []), (369, .iload_n 3, 1, 0, 0, .null, []),
  (370, .iconst 3, 1, 0, 0, .null, []), (371, .iadd, 1, 0, 0, .null, []), (372, .iaload, 1, 0, 0, .null, []), (373, .invokevirtual 44, 3, 100, 4, .null, [590, 0, 591, 55, 592]), (376, .aload_n 2, 1, 0, 0, .null, []), (377, .aload_n 0, 1, 0, 0, .null, []),
  (378, .iload_n 3, 1, 0, 0, .null, []), (379, .iconst 1, 1, 0, 0, .null, []), (380, .iadd, 1, 0, 0, .null, []), (381, .iaload, 1, 0, 0, .null, []), (382, .aload_n 0, 1, 0, 0, .null, []), (383, .iload_n 3, 1, 0, 0, .null, []),
  (384, .iconst 2, 1, 0, 0, .null, []), (385, .iadd, 1, 0, 0, .null, []), (386, .iaload, 1, 0, 0, .null, []), (387, .aload_n 0, 1, 0, 0, .null, []), (388, .iload_n 3, 1, 0, 0, .null, []), (389, .iconst 3, 1, 0, 0, .null, []),
  (390, .iadd, 1, 0, 0, .null, []), (391, .iaload, 1, 0, 0, .null, []), (392, .invokevirtual 48, 3, 175, 4, .null, [1070, 0, 1071, 61, 1072]), (395, .if_icmp .eq 689, 3, 1084, 0, .null, []), (398, .iconst 0, 1, 0, 0, .null, []), (399, .ireturn, 1, 0, 0, .null, []),
  (400, .aload_n 1, 1, 0, 0, .null, []), (401, .aload_n 0, 1, 0, 0, .null, []), (402, .iload_n 3, 1, 0, 0, .null, []), (403, .iconst 1, 1, 0, 0, .null, []), (404, .iadd, 1, 0, 0, .null, []), (405, .iaload, 1, 0, 0, .null, []),
  (406, .invokevirtual 49, 3, 101, 2, .null, [594, 0, 595, 55, 596]), (409, .aload_n 2, 1, 0, 0, .null, []), (410, .aload_n 0, 1, 0, 0, .null, []), (411, .iload_n 3, 1, 0, 0, .null, []), (412, .iconst 1, 1, 0, 0, .null, []), (413, .iadd, 1, 0, 0, .null, []),
  (414, .iaload, 1, 0, 0, .null, []), (415, .invokevirtual 52, 3, 176, 2, .null, [1074, 0, 1075, 61, 1076]), (418, .if_icmp .eq 666, 3, 1084, 0, .null, []), (421, .iconst 0, 1, 0, 0, .null, []), (422, .ireturn, 1, 0, 0, .null, []), (423, .aload_n 1, 1, 0, 0, .null, []),
  (424, .aload_n 0, 1, 0, 0, .null, []), (425, .iload_n 3, 1, 0, 0, .null, []), (426, .iconst 1, 1, 0, 0, .null, []), (427, .iadd, 1, 0, 0, .null, []), (428, .iaload, 1, 0, 0, .null, []), (429, .aload_n 0, 1, 0, 0, .null, []),
  (430, .iload_n 3, 1, 0, 0, .null, []), (431, .iconst 2, 1, 0, 0, .null, []), (432, .iadd, 1, 0, 0, .null, []), (433, .iaload, 1, 0, 0, .null, []), (434, .aload_n 0, 1, 0, 0, .null, []), (435, .iload_n 3, 1, 0, 0, .null, []),
  (436, .iconst 3, 1, 0, 0, .null, []), (437, .iadd, 1, 0, 0, .null, []), (438, .iaload, 1, 0, 0, .null, []), (439, .invokevirtual 53, 3, 102, 4, .null, [598, 0, 599, 55, 600]), (442, .aload_n 2, 1, 0, 0, .null, []), (443, .aload_n 0, 1, 0, 0, .null, []),
  (444, .iload_n 3, 1, 0, 0, .null, []), (445, .iconst 1, 1, 0, 0, .null, []), (446, .iadd, 1, 0, 0, .null, []), (447, .iaload, 1, 0, 0, .null, []), (448, .aload_n 0, 1, 0, 0, .null, []), (449, .iload_n 3, 1, 0, 0, .null, []),
  (450, .iconst 2, 1, 0, 0, .null, []), (451, .iadd, 1, 0, 0, .null, []), (452, .iaload, 1, 0, 0, .null, []), (453, .aload_n 0, 1, 0, 0, .null, []), (454, .iload_n 3, 1, 0, 0, .null, []), (455, .iconst 3, 1, 0, 0, .null, []),
  (456, .iadd, 1, 0, 0, .null, []), (457, .iaload, 1, 0, 0, .null, []), (458, .invokevirtual 56, 3, 177, 4, .null, [1078, 0, 1079, 61, 1080]), (461, .if_icmp .eq 623, 3, 1084, 0, .null, []), (464, .iconst 0, 1, 0, 0, .null, []), (465, .ireturn, 1, 0, 0, .null, []),
  (466, .aload_n 1, 1, 0, 0, .null, []), (467, .aload_n 0, 1, 0, 0, .null, []), (468, .iload_n 3, 1, 0, 0, .null, []), (469, .iconst 1, 1, 0, 0, .null, []), (470, .iadd, 1, 0, 0, .null, []), (471, .iaload, 1, 0, 0, .null, []),
  (472, .aload_n 0, 1, 0, 0, .null, []), (473, .iload_n 3, 1, 0, 0, .null, []), (474, .iconst 2, 1, 0, 0, .null, []), (475, .iadd, 1, 0, 0, .null, []), (476, .iaload, 1, 0, 0, .null, []), (477, .invokevirtual 57, 3, 103, 3, .null, [607, 0, 608, 55, 609]),
  (480, .aload_n 2, 1, 0, 0, .null, []), (481, .aload_n 0, 1, 0, 0, .null, []), (482, .iload_n 3, 1, 0, 0, .null, []), (483, .iconst 1, 1, 0, 0, .null, []), (484, .iadd, 1, 0, 0, .null, []), (485, .iaload, 1, 0, 0, .null, []),
  (486, .aload_n 0, 1, 0, 0, .null, []), (487, .iload_n 3, 1, 0, 0, .null, []), (488, .iconst 2, 1, 0, 0, .null, []), (489, .iadd, 1, 0, 0, .null, []), (490, .iaload, 1, 0, 0, .null, []), (491, .invokevirtual 60, 3, 179, 3, .null, [1086, 0, 1087, 61, 1088]),
  (494, .if_icmp .eq 590, 3, 1084, 0, .null, []), (497, .iconst 0, 1, 0, 0, .null, []), (498, .ireturn, 1, 0, 0, .null, []), (499, .aload_n 1, 1, 0, 0, .null, []), (500, .aload_n 0, 1, 0, 0, .null, []), (501, .iload_n 3, 1, 0, 0, .null, []),
  (502, .iconst 1, 1, 0, 0, .null, []), (503, .iadd, 1, 0, 0, .null, []), (504, .iaload, 1, 0, 0, .null, []), (505, .invokevirtual 61, 3, 105, 2, .null, [618, 0, 619, 55, 620]), (508, .aload_n 2, 1, 0, 0, .null, []), (509, .aload_n 0, 1, 0, 0, .null, []),
  (510, .iload_n 3, 1, 0, 0, .null, []), (511, .iconst 1, 1, 0, 0, .null, []), (512, .iadd, 1, 0, 0, .null, []), (513, .iaload, 1, 0, 0, .null, []), (514, .invokevirtual 64, 3, 180, 2, .null, [1090, 0, 1091, 61, 1092]), (517, .if_icmp .eq 567, 3, 1084, 0, .null, []),
  (520, .iconst 0, 1, 0, 0, .null, []), (521, .ireturn, 1, 0, 0, .null, []), (522, .aload_n 1, 1, 0, 0, .null, []), (523, .aload_n 0, 1, 0, 0, .null, []), (524, .iload_n 3, 1, 0, 0, .null, []), (525, .iconst 1, 1, 0, 0, .null, []),
  (526, .iadd, 1, 0, 0, .null, []), (527, .iaload, 1, 0, 0, .null, []), (528, .invokevirtual 65, 3, 106, 2, .null, [639, 0, 640, 55, 641]), (531, .aload_n 2, 1, 0, 0, .null, []), (532, .aload_n 0, 1, 0, 0, .null, []), (533, .iload_n 3, 1, 0, 0, .null, []),
  (534, .iconst 1, 1, 0, 0, .null, []), (535, .iadd, 1, 0, 0, .null, []), (536, .iaload, 1, 0, 0, .null, []), (537, .invokevirtual 68, 3, 185, 2, .null, [1107, 0, 1108, 61, 1109]), (540, .if_icmp .eq 544, 3, 1084, 0, .null, []), (543, .iconst 0, 1, 0, 0, .null, []),
  (544, .ireturn, 1, 0, 0, .null, []), (545, .aload_n 1, 1, 0, 0, .null, []), (546, .aload_n 0, 1, 0, 0, .null, []), (547, .iload_n 3, 1, 0, 0, .null, []), (548, .iconst 1, 1, 0, 0, .null, []), (549, .iadd, 1, 0, 0, .null, []),
  (550, .iaload, 1, 0, 0, .null, []), (551, .invokevirtual 69, 3, 107, 2, .null, [705, 0, 706, 55, 707]), (554, .aload_n 2, 1, 0, 0, .null, []), (555, .aload_n 0, 1, 0, 0, .null, []), (556, .iload_n 3, 1, 0, 0, .null, []), (557, .iconst 1, 1, 0, 0, .null, []),
  (558, .iadd, 1, 0, 0, .null, []), (559, .iaload, 1, 0, 0, .null, []), (560, .invokevirtual 72, 3, 192, 2, .null, [1135, 0, 1136, 61, 1137]), (563, .if_icmp .eq 521, 3, 1084, 0, .null, []), (566, .iconst 0, 1, 0, 0, .null, []), (567, .ireturn, 1, 0, 0, .null, []),
  (568, .aload_n 1, 1, 0, 0, .null, []), (569, .aload_n 0, 1, 0, 0, .null, []), (570, .iload_n 3, 1, 0, 0, .null, []), (571, .iconst 1, 1, 0, 0, .null, []), (572, .iadd, 1, 0, 0, .null, []), (573, .iaload, 1, 0, 0, .null, []),
  (574, .aload_n 0, 1, 0, 0, .null, []), (575, .iload_n 3, 1, 0, 0, .null, []), (576, .iconst 2, 1, 0, 0, .null, []), (577, .iadd, 1, 0, 0, .null, []), (578, .iaload, 1, 0, 0, .null, []), (579, .aload_n 0, 1, 0, 0, .null, []),
  (580, .iload_n 3, 1, 0, 0, .null, []), (581, .iconst 3, 1, 0, 0, .null, []), (582, .iadd, 1, 0, 0, .null, []), (583, .iaload, 1, 0, 0, .null, []), (584, .aload_n 0, 1, 0, 0, .null, []), (585, .iload_n 3, 1, 0, 0, .null, []),
  (586, .iconst 4, 1, 0, 0, .null, []), (587, .iadd, 1, 0, 0, .null, []), (588, .iaload, 1, 0, 0, .null, []), (589, .invokevirtual 73, 3, 108, 5, .null, [713, 0, 714, 55, 715]), (592, .aload_n 2, 1, 0, 0, .null, []), (593, .aload_n 0, 1, 0, 0, .null, []),
  (594, .iload_n 3, 1, 0, 0, .null, []), (595, .iconst 1, 1, 0, 0, .null, []), (596, .iadd, 1, 0, 0, .null, []), (597, .iaload, 1, 0, 0, .null, []), (598, .aload_n 0, 1, 0, 0, .null, []), (599, .iload_n 3, 1, 0, 0, .null, []),
  (600, .iconst 2, 1, 0, 0, .null, []), (601, .iadd, 1, 0, 0, .null, []), (602, .iaload, 1, 0, 0, .null, []), (603, .aload_n 0, 1, 0, 0, .null, []), (604, .iload_n 3, 1, 0, 0, .null, []), (605, .iconst 3, 1, 0, 0, .null, []),
  (606, .iadd, 1, 0, 0, .null, []), (607, .iaload, 1, 0, 0, .null, []), (608, .aload_n 0, 1, 0, 0, .null, []), (609, .iload_n 3, 1, 0, 0, .null, []), (610, .iconst 4, 1, 0, 0, .null, []), (611, .iadd, 1, 0, 0, .null, []),
  (612, .iaload, 1, 0, 0, .null, []), (613, .invokevirtual 77, 3, 193, 5, .null, [1140, 0, 1141, 61, 1142]), (616, .if_icmp .eq 468, 3, 1084, 0, .null, []), (619, .iconst 0, 1, 0, 0, .null, []), (620, .ireturn, 1, 0, 0, .null, []), (621, .aload_n 1, 1, 0, 0, .null, []),
  (622, .aload_n 0, 1, 0, 0, .null, []), (623, .iload_n 3, 1, 0, 0, .null, []), (624, .iconst 1, 1, 0, 0, .null, []), (625, .iadd, 1, 0, 0, .null, []), (626, .iaload, 1, 0, 0, .null, []), (627, .aload_n 0, 1, 0, 0, .null, []),
  (628, .iload_n 3, 1, 0, 0, .null, []), (629, .iconst 2, 1, 0, 0, .null, []), (630, .iadd, 1, 0, 0, .null, []), (631, .iaload, 1, 0, 0, .null, []), (632, .aload_n 0, 1, 0, 0, .null, []), (633, .iload_n 3, 1, 0, 0, .null, []),
  (634, .iconst 3, 1, 0, 0, .null, []), (635, .iadd, 1, 0, 0, .null, []), (636, .iaload, 1, 0, 0, .null, []), (637, .invokevirtual 78, 3, 109, 4, .null, [717, 0, 718, 55, 719]), (640, .aload_n 2, 1, 0, 0, .null, []), (641, .aload_n 0, 1, 0, 0, .null, []),
  (642, .iload_n 3, 1, 0, 0, .null, []), (643, .iconst 1, 1, 0, 0, .null, []), (644, .iadd, 1, 0, 0, .null, []), (645, .iaload, 1, 0, 0, .null, []), (646, .aload_n 0, 1, 0, 0, .null, []), (647, .iload_n 3, 1, 0, 0, .null, []),
  (648, .iconst 2, 1, 0, 0, .null, []), (649, .iadd, 1, 0, 0, .null, []), (650, .iaload, 1, 0, 0, .null, []), (651, .aload_n 0, 1, 0, 0, .null, []), (652, .iload_n 3, 1, 0, 0, .null, []), (653, .iconst 3, 1, 0, 0, .null, []),
  (654, .iadd, 1, 0, 0, .null, []), (655, .iaload, 1, 0, 0, .null, []), (656, .invokevirtual 81, 3, 194, 4, .null, [1145, 0, 1146, 61, 1147]), (659, .if_icmp .eq 425, 3, 1084, 0, .null, []), (662, .iconst 0, 1, 0, 0, .null, []), (663, .ireturn, 1, 0, 0, .null, []),
  (664, .aload_n 1, 1, 0, 0, .null, []), (665, .invokevirtual 82, 3, 110, 1, .null, [721, 0, 722, 55, 723]), (668, .aload_n 2, 1, 0, 0, .null, []), (669, .invokevirtual 85, 3, 195, 1, .null, [1149, 0, 1150, 61, 1151]), (672, .if_icmp .eq 412, 3, 1084, 0, .null, []), (675, .iconst 0, 1, 0, 0, .null, []),
  (676, .ireturn, 1, 0, 0, .null, []), (677, .aload_n 1, 1, 0, 0, .null, []), (678, .aload_n 0, 1, 0, 0, .null, []), (679, .iload_n 3, 1, 0, 0, .null, []), (680, .iconst 1, 1, 0, 0, .null, []), (681, .iadd, 1, 0, 0, .null, []),
  (682, .iaload, 1, 0, 0, .null, []), (683, .aload_n 0, 1, 0, 0, .null, []), (684, .iload_n 3, 1, 0, 0, .null, []), (685, .iconst 2, 1, 0, 0, .null, []), (686, .iadd, 1, 0, 0, .null, []), (687, .iaload, 1, 0, 0, .null, []),
  (688, .invokevirtual 86, 3, 112, 3, .null, [729, 0, 730, 55, 731]), (691, .aload_n 2, 1, 0, 0, .null, []), (692, .aload_n 0, 1, 0, 0, .null, []), (693, .iload_n 3, 1, 0, 0, .null, []), (694, .iconst 1, 1, 0, 0, .null, []), (695, .iadd, 1, 0, 0, .null, []),
  (696, .iaload, 1, 0, 0, .null, []), (697, .aload_n 0, 1, 0, 0, .null, []), (698, .iload_n 3, 1, 0, 0, .null, []), (699, .iconst 2, 1, 0, 0, .null, []), (700, .iadd, 1, 0, 0, .null, []), (701, .iaload, 1, 0, 0, .null, []),
  (702, .invokevirtual 89, 3, 197, 3, .null, [1157, 0, 1158, 61, 1159]), (705, .if_icmp .eq 379, 3, 1084, 0, .null, []), (708, .iconst 0, 1, 0, 0, .null, []), (709, .ireturn, 1, 0, 0, .null, []), (710, .aload_n 1, 1, 0, 0, .null, []), (711, .aload_n 0, 1, 0, 0, .null, []),
  (712, .iload_n 3, 1, 0, 0, .null, []), (713, .iconst 1, 1, 0, 0, .null, []), (714, .iadd, 1, 0, 0, .null, []), (715, .iaload, 1, 0, 0, .null, []), (716, .aload_n 0, 1, 0, 0, .null, []), (717, .iload_n 3, 1, 0, 0, .null, []),
  (718, .iconst 2, 1, 0, 0, .null, []), (719, .iadd, 1, 0, 0, .null, []), (720, .iaload, 1, 0, 0, .null, []), (721, .invokevirtual 90, 3, 113, 3, .null, [746, 0, 747, 55, 748]), (724, .aload_n 2, 1, 0, 0, .null, []), (725, .aload_n 0, 1, 0, 0, .null, []),
  (726, .iload_n 3, 1, 0, 0, .null, []), (727, .iconst 1, 1, 0, 0, .null, []), (728, .iadd, 1, 0, 0, .null, []), (729, .iaload, 1, 0, 0, .null, []), (730, .aload_n 0, 1, 0, 0, .null, []), (731, .iload_n 3, 1, 0, 0, .null, []),
  (732, .iconst 2, 1, 0, 0, .null, []), (733, .iadd, 1, 0, 0, .null, []), (734, .iaload, 1, 0, 0, .null, []), (735, .invokevirtual 93, 3, 201, 3, .null, [1171, 0, 1172, 61, 1173]), (738, .if_icmp .eq 346, 3, 1084, 0, .null, []), (741, .iconst 0, 1, 0, 0, .null, []),
  (742, .ireturn, 1, 0, 0, .null, []), (743, .aload_n 1, 1, 0, 0, .null, []), (744, .aload_n 0, 1, 0, 0, .null, []), (745, .iload_n 3, 1, 0, 0, .null, []), (746, .iconst 1, 1, 0, 0, .null, []), (747, .iadd, 1, 0, 0, .null, []),
  (748, .iaload, 1, 0, 0, .null, []), (749, .aload_n 0, 1, 0, 0, .null, []), (750, .iload_n 3, 1, 0, 0, .null, []), (751, .iconst 2, 1, 0, 0, .null, []), (752, .iadd, 1, 0, 0, .null, []), (753, .iaload, 1, 0, 0, .null, []),
  (754, .aload_n 0, 1, 0, 0, .null, []), (755, .iload_n 3, 1, 0, 0, .null, []), (756, .iconst 3, 1, 0, 0, .null, []), (757, .iadd, 1, 0, 0, .null, []), (758, .iaload, 1, 0, 0, .null, []), (759, .aload_n 0, 1, 0, 0, .null, []),
  (760, .iload_n 3, 1, 0, 0, .null, []), (761, .iconst 4, 1, 0, 0, .null, []), (762, .iadd, 1, 0, 0, .null, []), (763, .iaload, 1, 0, 0, .null, []), (764, .invokevirtual 94, 3, 114, 5, .null, [750, 0, 751, 55, 752]), (767, .aload_n 2, 1, 0, 0, .null, []),
  (768, .aload_n 0, 1, 0, 0, .null, []), (769, .iload_n 3, 1, 0, 0, .null, []), (770, .iconst 1, 1, 0, 0, .null, []), (771, .iadd, 1, 0, 0, .null, []), (772, .iaload, 1, 0, 0, .null, []), (773, .aload_n 0, 1, 0, 0, .null, []),
  (774, .iload_n 3, 1, 0, 0, .null, []), (775, .iconst 2, 1, 0, 0, .null, []), (776, .iadd, 1, 0, 0, .null, []), (777, .iaload, 1, 0, 0, .null, []), (778, .aload_n 0, 1, 0, 0, .null, []), (779, .iload_n 3, 1, 0, 0, .null, []),
  (780, .iconst 3, 1, 0, 0, .null, []), (781, .iadd, 1, 0, 0, .null, []), (782, .iaload, 1, 0, 0, .null, []), (783, .aload_n 0, 1, 0, 0, .null, []), (784, .iload_n 3, 1, 0, 0, .null, []), (785, .iconst 4, 1, 0, 0, .null, []),
  (786, .iadd, 1, 0, 0, .null, []), (787, .iaload, 1, 0, 0, .null, []), (788, .invokevirtual 97, 3, 202, 5, .null, [1175, 0, 1176, 61, 1177]), (791, .if_icmp .eq 293, 3, 1084, 0, .null, []), (794, .iconst 0, 1, 0, 0, .null, []), (795, .ireturn, 1, 0, 0, .null, []),
  (796, .aload_n 1, 1, 0, 0, .null, []), (797, .aload_n 0, 1, 0, 0, .null, []), (798, .iload_n 3, 1, 0, 0, .null, []), (799, .iconst 1, 1, 0, 0, .null, []), (800, .iadd, 1, 0, 0, .null, []), (801, .iaload, 1, 0, 0, .null, []),
  (802, .aload_n 0, 1, 0, 0, .null, []), (803, .iload_n 3, 1, 0, 0, .null, []), (804, .iconst 2, 1, 0, 0, .null, []), (805, .iadd, 1, 0, 0, .null, []), (806, .iaload, 1, 0, 0, .null, []), (807, .invokevirtual 98, 3, 117, 3, .null, [761, 0, 762, 55, 763]),
  (810, .aload_n 2, 1, 0, 0, .null, []), (811, .aload_n 0, 1, 0, 0, .null, []), (812, .iload_n 3, 1, 0, 0, .null, []), (813, .iconst 1, 1, 0, 0, .null, []), (814, .iadd, 1, 0, 0, .null, []), (815, .iaload, 1, 0, 0, .null, []),
  (816, .aload_n 0, 1, 0, 0, .null, []), (817, .iload_n 3, 1, 0, 0, .null, []), (818, .iconst 2, 1, 0, 0, .null, []), (819, .iadd, 1, 0, 0, .null, []), (820, .iaload, 1, 0, 0, .null, []), (821, .invokevirtual 101, 3, 204, 3, .null, [1183, 0, 1184, 61, 1185]),
  (824, .if_icmp .eq 260, 3, 1084, 0, .null, []), (827, .iconst 0, 1, 0, 0, .null, []), (828, .ireturn, 1, 0, 0, .null, []), (829, .aload_n 1, 1, 0, 0, .null, []), (830, .aload_n 0, 1, 0, 0, .null, []), (831, .iload_n 3, 1, 0, 0, .null, []),
  (832, .iconst 1, 1, 0, 0, .null, []), (833, .iadd, 1, 0, 0, .null, []), (834, .iaload, 1, 0, 0, .null, []), (835, .invokevirtual 102, 3, 118, 2, .null, [766, 0, 767, 55, 768]), (838, .aload_n 2, 1, 0, 0, .null, []), (839, .aload_n 0, 1, 0, 0, .null, []),
  (840, .iload_n 3, 1, 0, 0, .null, []), (841, .iconst 1, 1, 0, 0, .null, []), (842, .iadd, 1, 0, 0, .null, []), (843, .iaload, 1, 0, 0, .null, []), (844, .invokevirtual 105, 3, 205, 2, .null, [1187, 0, 1188, 61, 1189]), (847, .if_icmp .eq 237, 3, 1084, 0, .null, []),
  (850, .iconst 0, 1, 0, 0, .null, []), (851, .ireturn, 1, 0, 0, .null, []), (852, .aload_n 1, 1, 0, 0, .null, []), (853, .aload_n 0, 1, 0, 0, .null, []), (854, .iload_n 3, 1, 0, 0, .null, []), (855, .iconst 1, 1, 0, 0, .null, []),
  (856, .iadd, 1, 0, 0, .null, []), (857, .iaload, 1, 0, 0, .null, []), (858, .aload_n 0, 1, 0, 0, .null, []), (859, .iload_n 3, 1, 0, 0, .null, []), (860, .iconst 2, 1, 0, 0, .null, []), (861, .iadd, 1, 0, 0, .null, []),
  (862, .iaload, 1, 0, 0, .null, []), (863, .invokevirtual 106, 3, 119, 3, .null, [771, 0, 772, 55, 773]), (866, .aload_n 2, 1, 0, 0, .null, []), (867, .aload_n 0, 1, 0, 0, .null, []), (868, .iload_n 3, 1, 0, 0, .null, []), (869, .iconst 1, 1, 0, 0, .null, []),
  (870, .iadd, 1, 0, 0, .null, []), (871, .iaload, 1, 0, 0, .null, []), (872, .aload_n 0, 1, 0, 0, .null, []), (873, .iload_n 3, 1, 0, 0, .null, []), (874, .iconst 2, 1, 0, 0, .null, []), (875, .iadd, 1, 0, 0, .null, []),
  (876, .iaload, 1, 0, 0, .null, []), (877, .invokevirtual 110, 3, 206, 3, .null, [1191, 0, 1192, 61, 1193]), (880, .lcmp, 1, 0, 0, .null, []), (881, .ifCond .eq 203, 3, 1084, 0, .null, []), (884, .iconst 0, 1, 0, 0, .null, []), (885, .ireturn, 1, 0, 0, .null, []),
  (886, .aload_n 1, 1, 0, 0, .null, []), (887, .aload_n 0, 1, 0, 0, .null, []), (888, .iload_n 3, 1, 0, 0, .null, []), (889, .iconst 1, 1, 0, 0, .null, []), (890, .iadd, 1, 0, 0, .null, []), (891, .iaload, 1, 0, 0, .null, []),
  (892, .invokevirtual 111, 3, 125, 2, .null, [795, 0, 796, 55, 797]), (895, .aload_n 2, 1, 0, 0, .null, []), (896, .aload_n 0, 1, 0, 0, .null, []), (897, .iload_n 3, 1, 0, 0, .null, []), (898, .iconst 1, 1, 0, 0, .null, []), (899, .iadd, 1, 0, 0, .null, []),
  (900, .iaload, 1, 0, 0, .null, []), (901, .invokevirtual 115, 3, 210, 2, .null, [1208, 0, 1209, 61, 1210]), (904, .lcmp, 1, 0, 0, .null, []), (905, .ifCond .eq 179, 3, 1084, 0, .null, []), (908, .iconst 0, 1, 0, 0, .null, []), (909, .ireturn, 1, 0, 0, .null, []),
  (910, .aload_n 1, 1, 0, 0, .null, []), (911, .aload_n 0, 1, 0, 0, .null, []), (912, .iload_n 3, 1, 0, 0, .null, []), (913, .iconst 1, 1, 0, 0, .null, []), (914, .iadd, 1, 0, 0, .null, []), (915, .iaload, 1, 0, 0, .null, []),
  (916, .aload_n 0, 1, 0, 0, .null, []), (917, .iload_n 3, 1, 0, 0, .null, []), (918, .iconst 2, 1, 0, 0, .null, []), (919, .iadd, 1, 0, 0, .null, []), (920, .iaload, 1, 0, 0, .null, []), (921, .invokevirtual 116, 3, 126, 3, .null, [804, 0, 805, 55, 806]),
  (924, .aload_n 2, 1, 0, 0, .null, []), (925, .aload_n 0, 1, 0, 0, .null, []), (926, .iload_n 3, 1, 0, 0, .null, []), (927, .iconst 1, 1, 0, 0, .null, []), (928, .iadd, 1, 0, 0, .null, []), (929, .iaload, 1, 0, 0, .null, []),
  (930, .aload_n 0, 1, 0, 0, .null, []), (931, .iload_n 3, 1, 0, 0, .null, []), (932, .iconst 2, 1, 0, 0, .null, []), (933, .iadd, 1, 0, 0, .null, []), (934, .iaload, 1, 0, 0, .null, []), (935, .invokevirtual 119, 3, 211, 3, .null, [1213, 0, 1214, 61, 1215]),
  (938, .if_icmp .eq 146, 3, 1084, 0, .null, []), (941, .iconst 0, 1, 0, 0, .null, []), (942, .ireturn, 1, 0, 0, .null, []), (943, .aload_n 1, 1, 0, 0, .null, []), (944, .aload_n 0, 1, 0, 0, .null, []), (945, .iload_n 3, 1, 0, 0, .null, []),
  (946, .iconst 1, 1, 0, 0, .null, []), (947, .iadd, 1, 0, 0, .null, []), (948, .iaload, 1, 0, 0, .null, []), (949, .invokevirtual 120, 3, 130, 2, .null, [821, 0, 822, 55, 823]), (952, .aload_n 2, 1, 0, 0, .null, []), (953, .aload_n 0, 1, 0, 0, .null, []),
  (954, .iload_n 3, 1, 0, 0, .null, []), (955, .iconst 1, 1, 0, 0, .null, []), (956, .iadd, 1, 0, 0, .null, []), (957, .iaload, 1, 0, 0, .null, []), (958, .invokevirtual 123, 3, 213, 2, .null, [1221, 0, 1222, 61, 1223]), (961, .if_icmp .eq 123, 3, 1084, 0, .null, []),
  (964, .iconst 0, 1, 0, 0, .null, []), (965, .ireturn, 1, 0, 0, .null, []), (966, .aload_n 1, 1, 0, 0, .null, []), (967, .invokevirtual 124, 3, 131, 1, .null, [825, 0, 826, 55, 827]), (970, .aload_n 2, 1, 0, 0, .null, []), (971, .invokevirtual 127, 3, 214, 1, .null, [1225, 0, 1226, 61, 1227]),
  (974, .if_icmp .eq 110, 3, 1084, 0, .null, []), (977, .iconst 0, 1, 0, 0, .null, []), (978, .ireturn, 1, 0, 0, .null, []), (979, .aload_n 1, 1, 0, 0, .null, []), (980, .invokevirtual 128, 3, 132, 1, .null, [829, 0, 830, 55, 831]), (983, .aload_n 2, 1, 0, 0, .null, []),
  (984, .invokevirtual 131, 3, 215, 1, .null, [1229, 0, 1230, 61, 1231]), (987, .if_icmp .eq 97, 3, 1084, 0, .null, []), (990, .iconst 0, 1, 0, 0, .null, []), (991, .ireturn, 1, 0, 0, .null, []), (992, .aload_n 1, 1, 0, 0, .null, []), (993, .aload_n 0, 1, 0, 0, .null, []),
  (994, .iload_n 3, 1, 0, 0, .null, []), (995, .iconst 1, 1, 0, 0, .null, []), (996, .iadd, 1, 0, 0, .null, []), (997, .iaload, 1, 0, 0, .null, []), (998, .aload_n 0, 1, 0, 0, .null, []), (999, .iload_n 3, 1, 0, 0, .null, []),
  (1000, .iconst 2, 1, 0, 0, .null, []), (1001, .iadd, 1, 0, 0, .null, []), (1002, .iaload, 1, 0, 0, .null, []), (1003, .aload_n 0, 1, 0, 0, .null, []), (1004, .iload_n 3, 1, 0, 0, .null, []), (1005, .iconst 3, 1, 0, 0, .null, []),
  (1006, .iadd, 1, 0, 0, .null, []), (1007, .iaload, 1, 0, 0, .null, []), (1008, .invokevirtual 132, 3, 133, 4, .null, [833, 0, 834, 55, 835]), (1011, .aload_n 2, 1, 0, 0, .null, []), (1012, .aload_n 0, 1, 0, 0, .null, []), (1013, .iload_n 3, 1, 0, 0, .null, []),
  (1014, .iconst 1, 1, 0, 0, .null, []), (1015, .iadd, 1, 0, 0, .null, []), (1016, .iaload, 1, 0, 0, .null, []), (1017, .aload_n 0, 1, 0, 0, .null, []), (1018, .iload_n 3, 1, 0, 0, .null, []), (1019, .iconst 2, 1, 0, 0, .null, []),
  (1020, .iadd, 1, 0, 0, .null, []), (1021, .iaload, 1, 0, 0, .null, []), (1022, .aload_n 0, 1, 0, 0, .null, []), (1023, .iload_n 3, 1, 0, 0, .null, []), (1024, .iconst 3, 1, 0, 0, .null, []), (1025, .iadd, 1, 0, 0, .null, []),
  (1026, .iaload, 1, 0, 0, .null, []), (1027, .invokevirtual 135, 3, 216, 4, .null, [1233, 0, 1234, 61, 1235]), (1030, .if_icmp .eq 54, 3, 1084, 0, .null, []), (1033, .iconst 0, 1, 0, 0, .null, []), (1034, .ireturn, 1, 0, 0, .null, []), (1035, .aload_n 1, 1, 0, 0, .null, []),
  (1036, .invokevirtual 136, 3, 135, 1, .null, [857, 0, 858, 55, 859]), (1039, .aload_n 2, 1, 0, 0, .null, []), (1040, .invokevirtual 139, 3, 219, 1, .null, [1248, 0, 1249, 61, 1250]), (1043, .if_icmp .eq 41, 3, 1084, 0, .null, []), (1046, .iconst 0, 1, 0, 0, .null, []), (1047, .ireturn, 1, 0, 0, .null, []),
  (1048, .aload_n 1, 1, 0, 0, .null, []), (1049, .invokevirtual 140, 3, 136, 1, .null, [861, 0, 862, 55, 863]), (1052, .aload_n 2, 1, 0, 0, .null, []), (1053, .invokevirtual 143, 3, 220, 1, .null, [1252, 0, 1253, 61, 1254]), (1056, .if_icmp .eq 28, 3, 1084, 0, .null, []), (1059, .iconst 0, 1, 0, 0, .null, []),
  (1060, .ireturn, 1, 0, 0, .null, []), (1061, .aload_n 1, 1, 0, 0, .null, []), (1062, .aload_n 0, 1, 0, 0, .null, []), (1063, .iload_n 3, 1, 0, 0, .null, []), (1064, .iconst 1, 1, 0, 0, .null, []), (1065, .iadd, 1, 0, 0, .null, []),
  (1066, .iaload, 1, 0, 0, .null, []), (1067, .invokevirtual 144, 3, 137, 2, .null, [865, 0, 866, 55, 867]), (1070, .aload_n 2, 1, 0, 0, .null, []), (1071, .aload_n 0, 1, 0, 0, .null, []), (1072, .iload_n 3, 1, 0, 0, .null, []), (1073, .iconst 1, 1, 0, 0, .null, []),
  (1074, .iadd, 1, 0, 0, .null, []), (1075, .iaload, 1, 0, 0, .null, []), (1076, .invokevirtual 147, 3, 221, 2, .null, [1256, 0, 1257, 61, 1258]), (1079, .if_icmp .eq 5, 3, 1084, 0, .null, []), (1082, .iconst 0, 1, 0, 0, .null, []), (1083, .ireturn, 1, 0, 0, .null, []),
  (1084, .iinc 3 5, 3, 0, 0, .null, []), (1087, .goto (-1069), 3, 18, 0, .null, []), (1090, .iconst 1, 1, 0, 0, .null, []), (1091, .ireturn, 1, 0, 0, .null, [])]
def mc_P0 : List mm_Mt := [(⟨"java/lang/Integer", "bitCount", "(I)I"⟩, prog_11_method_49_code, 1, (Option.some FieldType.int), 98, mc_co mp_0),
  (⟨"java/lang/String", "isEmpty", "()Z"⟩, prog_13_method_55_code, 1, (Option.some FieldType.boolean), 99, mc_co mp_1),
  (⟨"java/lang/String", "length", "()I"⟩, prog_13_method_54_code, 1, (Option.some FieldType.int), 99, mc_co mp_2),
  (⟨"java/lang/String", "coder", "()B"⟩, prog_13_method_152_code, 1, (Option.some FieldType.byte), 99, mc_co mp_3),
  (⟨"java/lang/String", "charAt", "(I)C"⟩, prog_13_method_56_code, 2, (Option.some FieldType.char), 99, mc_co mp_4),
  (⟨"java/lang/String", "isLatin1", "()Z"⟩, prog_13_method_154_code, 1, (Option.some FieldType.boolean), 99, mc_co mp_5),
  (⟨"java/lang/String", "checkIndex", "(II)V"⟩, prog_13_method_155_code, 2, (Option.none : Option FieldType), 99, mc_co mp_6),
  (⟨"java/lang/String", "indexOf", "(I)I"⟩, prog_13_method_79_code, 2, (Option.some FieldType.int), 99, mc_co mp_7),
  (⟨"java/lang/String", "indexOf", "(II)I"⟩, prog_13_method_80_code, 3, (Option.some FieldType.int), 99, mc_co mp_8),
  (⟨"java/lang/StringLatin1", "charAt", "([BI)C"⟩, prog_14_method_2_code, 2, (Option.some FieldType.char), 98, mc_co mp_9),
  (⟨"java/lang/StringLatin1", "indexOf", "([BIII)I"⟩, prog_14_method_22_code, 4, (Option.some FieldType.int), 98, mc_co mp_10),
  (⟨"java/lang/StringLatin1", "canEncode", "(I)Z"⟩, prog_14_method_4_code, 1, (Option.some FieldType.boolean), 98, mc_co mp_11),
  (⟨"java/lang/StringLatin1", "indexOfChar", "([BIII)I"⟩, prog_14_method_23_code, 6, (Option.some FieldType.int), 98, mc_co mp_12),
  (⟨"jdk/internal/util/Preconditions", "checkIndex", "(IILjava/util/function/BiFunction;)I"⟩, prog_16_method_11_code, 3, (Option.some FieldType.int), 98, mc_co mp_13),
  (⟨"SmallerInTheShop$Draws", "<init>", "()V"⟩, prog_2_method_1_code, 1, (Option.none : Option FieldType), 0, mc_co mp_14),
  (⟨"SmallerInTheShop$Draws", "drawBelow", "(I)I"⟩, prog_2_method_2_code, 2, (Option.some FieldType.int), 0, mc_co mp_15),
  (⟨"SmallerInTheShop$Kinds", "effort", "(IIII)I"⟩, prog_3_method_2_code, 4, (Option.some FieldType.int), 98, mc_co mp_16),
  (⟨"SmallerInTheShop$Kinds", "effortAgainst", "(III)I"⟩, prog_3_method_4_code, 3, (Option.some FieldType.int), 98, mc_co mp_17),
  (⟨"SmallerInTheShop$Kinds", "sprungSide", "(II)I"⟩, prog_3_method_6_code, 2, (Option.some FieldType.int), 98, mc_co mp_18),
  (⟨"SmallerInTheShop$Kinds", "wear", "(III)I"⟩, prog_3_method_3_code, 3, (Option.some FieldType.int), 98, mc_co mp_19),
  (⟨"SmallerInTheShop$Kinds", "wearAgainst", "(II)I"⟩, prog_3_method_5_code, 2, (Option.some FieldType.int), 98, mc_co mp_20),
  (⟨"SmallerInTheShop$Layout", "<init>", "()V"⟩, prog_4_method_1_code, 2, (Option.none : Option FieldType), 1, mc_co mp_21),
  (⟨"SmallerInTheShop$Layout", "copyLayout", "(LSmallerInTheShop$Layout;)V"⟩, prog_4_method_2_code, 3, (Option.none : Option FieldType), 1, mc_co mp_22),
  (⟨"SmallerInTheShop$Layout", "hasLine", "(I)Z"⟩, prog_4_method_3_code, 2, (Option.some FieldType.boolean), 1, mc_co mp_23),
  (⟨"SmallerInTheShop$Layout", "becomeFolded", "(LSmallerInTheShop$Layout;II)V"⟩, prog_4_method_15_code, 7, (Option.none : Option FieldType), 1, mc_co mp_24),
  (⟨"SmallerInTheShop$Layout", "movePanels", "(LSmallerInTheShop$Layout;ZIZZ)V"⟩, prog_4_method_16_code, 15, (Option.none : Option FieldType), 1, mc_co mp_25),
  (⟨"SmallerInTheShop$Layout", "heapAt", "(ZII)I"⟩, prog_4_method_20_code, 4, (Option.some FieldType.int), 1, mc_co mp_26),
  (⟨"SmallerInTheShop$Layout", "countHeaps", "()V"⟩, prog_4_method_19_code, 2, (Option.none : Option FieldType), 1, mc_co mp_27),
  (⟨"SmallerInTheShop$Layout", "cellOf", "(I)I"⟩, prog_4_method_21_code, 2, (Option.some FieldType.int), 1, mc_co mp_28),
  (⟨"SmallerInTheShop$Layout", "foldCreases", "(LSmallerInTheShop$Layout;ZIZ)V"⟩, prog_4_method_17_code, 7, (Option.none : Option FieldType), 1, mc_co mp_29),
  (⟨"SmallerInTheShop$Layout", "liesAcross", "(IZI)Z"⟩, prog_4_method_18_code, 8, (Option.some FieldType.boolean), 1, mc_co mp_30),
  (⟨"SmallerInTheShop$Layout", "isRead", "(I)Z"⟩, prog_4_method_9_code, 2, (Option.some FieldType.boolean), 1, mc_co mp_31),
  (⟨"SmallerInTheShop$Layout", "countAbove", "(I)I"⟩, prog_4_method_8_code, 2, (Option.some FieldType.int), 1, mc_co mp_32),
  (⟨"SmallerInTheShop$Layout", "liesAbove", "(II)Z"⟩, prog_4_method_14_code, 3, (Option.some FieldType.boolean), 1, mc_co mp_33),
  (⟨"SmallerInTheShop$Layout", "thickness", "()I"⟩, prog_4_method_13_code, 3, (Option.some FieldType.int), 1, mc_co mp_34),
  (⟨"SmallerInTheShop$Layout", "readPanels", "()I"⟩, prog_4_method_11_code, 3, (Option.some FieldType.int), 1, mc_co mp_35),
  (⟨"SmallerInTheShop$Layout", "showsBack", "(I)Z"⟩, prog_4_method_10_code, 2, (Option.some FieldType.boolean), 1, mc_co mp_36),
  (⟨"SmallerInTheShop$Layout", "foldedCreases", "()I"⟩, prog_4_method_12_code, 3, (Option.some FieldType.int), 1, mc_co mp_37),
  (⟨"SmallerInTheShop$Layout", "cells", "()I"⟩, prog_4_method_6_code, 1, (Option.some FieldType.int), 1, mc_co mp_38),
  (⟨"SmallerInTheShop$Layout", "isShut", "()Z"⟩, prog_4_method_7_code, 1, (Option.some FieldType.boolean), 1, mc_co mp_39)]
def mc_P1 : List mm_Mt := [(⟨"SmallerInTheShop$Layout", "countLines", "()I"⟩, prog_4_method_4_code, 1, (Option.some FieldType.int), 1, mc_co mp_40),
  (⟨"SmallerInTheShop$Layout", "lineOfNumber", "(I)I"⟩, prog_4_method_5_code, 2, (Option.some FieldType.int), 1, mc_co mp_41),
  (⟨"SmallerInTheShop$Letters", "<init>", "()V"⟩, prog_5_method_1_code, 1, (Option.none : Option FieldType), 2, mc_co mp_42),
  (⟨"SmallerInTheShop$Letters", "isFull", "()Z"⟩, prog_5_method_2_code, 1, (Option.some FieldType.boolean), 2, mc_co mp_43),
  (⟨"SmallerInTheShop$Letters", "addLetter", "(I)I"⟩, prog_5_method_3_code, 2, (Option.some FieldType.int), 2, mc_co mp_44),
  (⟨"SmallerInTheShop$Letters", "firstWrongPlace", "()I"⟩, prog_5_method_9_code, 5, (Option.some FieldType.int), 2, mc_co mp_45),
  (⟨"SmallerInTheShop$Letters", "signAt", "(I)I"⟩, prog_5_method_5_code, 2, (Option.some FieldType.int), 2, mc_co mp_46),
  (⟨"SmallerInTheShop$Letters", "shapeBehind", "(I)Ljava/lang/String;"⟩, prog_5_method_10_code, 1, (Option.some (FieldType.object "java/lang/String")), 2, mc_co mp_47),
  (⟨"SmallerInTheShop$Letters", "fits", "(IC)Z"⟩, prog_5_method_11_code, 2, (Option.some FieldType.boolean), 2, mc_co mp_48),
  (⟨"SmallerInTheShop$Letters", "lengthBehind", "(I)I"⟩, prog_5_method_8_code, 2, (Option.some FieldType.int), 2, mc_co mp_49),
  (⟨"SmallerInTheShop$Letters", "digitAt", "(I)I"⟩, prog_5_method_6_code, 2, (Option.some FieldType.int), 2, mc_co mp_50),
  (⟨"SmallerInTheShop$Letters", "kindAt", "(I)I"⟩, prog_5_method_7_code, 2, (Option.some FieldType.int), 2, mc_co mp_51),
  (⟨"SmallerInTheShop$Letters", "forget", "()V"⟩, prog_5_method_4_code, 1, (Option.none : Option FieldType), 2, mc_co mp_52),
  (⟨"SmallerInTheShop$Search", "<init>", "()V"⟩, prog_6_method_1_code, 1, (Option.none : Option FieldType), 3, mc_co mp_53),
  (⟨"SmallerInTheShop$Search", "begin", "(I)V"⟩, prog_6_method_2_code, 3, (Option.none : Option FieldType), 3, mc_co mp_54),
  (⟨"SmallerInTheShop$Search", "run", "(LSmallerInTheShop$Sheet;)V"⟩, prog_6_method_3_code, 2, (Option.none : Option FieldType), 3, mc_co mp_55),
  (⟨"SmallerInTheShop$Search", "explore", "(LSmallerInTheShop$Sheet;III)V"⟩, prog_6_method_7_code, 10, (Option.none : Option FieldType), 3, mc_co mp_56),
  (⟨"SmallerInTheShop$Search", "isReached", "(LSmallerInTheShop$Sheet;LSmallerInTheShop$Layout;)Z"⟩, prog_6_method_10_code, 3, (Option.some FieldType.boolean), 3, mc_co mp_57),
  (⟨"SmallerInTheShop$Search", "liesAsWanted", "(LSmallerInTheShop$Layout;)Z"⟩, prog_6_method_11_code, 3, (Option.some FieldType.boolean), 3, mc_co mp_58),
  (⟨"SmallerInTheShop$Search", "costOf", "(LSmallerInTheShop$Layout;II)I"⟩, prog_6_method_12_code, 4, (Option.some FieldType.int), 3, mc_co mp_59),
  (⟨"SmallerInTheShop$Search", "offer", "(II)V"⟩, prog_6_method_13_code, 3, (Option.none : Option FieldType), 3, mc_co mp_60),
  (⟨"SmallerInTheShop$Search", "isHopeless", "(I)Z"⟩, prog_6_method_9_code, 3, (Option.some FieldType.boolean), 3, mc_co mp_61),
  (⟨"SmallerInTheShop$Search", "waysToTry", "(LSmallerInTheShop$Layout;)I"⟩, prog_6_method_8_code, 2, (Option.some FieldType.int), 3, mc_co mp_62),
  (⟨"SmallerInTheShop$Search", "wayFound", "()I"⟩, prog_6_method_4_code, 1, (Option.some FieldType.int), 3, mc_co mp_63),
  (⟨"SmallerInTheShop$Search", "costFound", "()I"⟩, prog_6_method_5_code, 1, (Option.some FieldType.int), 3, mc_co mp_64),
  (⟨"SmallerInTheShop$Search", "waysWith", "(I)I"⟩, prog_6_method_6_code, 2, (Option.some FieldType.int), 3, mc_co mp_65),
  (⟨"SmallerInTheShop$Sheet", "<init>", "()V"⟩, prog_7_method_1_code, 2, (Option.none : Option FieldType), 4, mc_co mp_66),
  (⟨"SmallerInTheShop$Sheet", "copyFrom", "(LSmallerInTheShop$Sheet;)V"⟩, prog_7_method_2_code, 3, (Option.none : Option FieldType), 4, mc_co mp_67),
  (⟨"SmallerInTheShop$Sheet", "copyCreasesFrom", "(LSmallerInTheShop$Sheet;)V"⟩, prog_7_method_3_code, 3, (Option.none : Option FieldType), 4, mc_co mp_68),
  (⟨"SmallerInTheShop$Sheet", "canFold", "(II)Z"⟩, prog_7_method_5_code, 3, (Option.some FieldType.boolean), 4, mc_co mp_69),
  (⟨"SmallerInTheShop$Sheet", "makeFold", "(II)I"⟩, prog_7_method_7_code, 4, (Option.some FieldType.int), 4, mc_co mp_70),
  (⟨"SmallerInTheShop$Sheet", "tryFold", "(III)I"⟩, prog_7_method_6_code, 7, (Option.some FieldType.int), 4, mc_co mp_71),
  (⟨"SmallerInTheShop$Sheet", "effortOn", "(II)I"⟩, prog_7_method_9_code, 3, (Option.some FieldType.int), 4, mc_co mp_72),
  (⟨"SmallerInTheShop$Sheet", "top", "()LSmallerInTheShop$Layout;"⟩, prog_7_method_4_code, 1, (Option.some (FieldType.object "SmallerInTheShop$Layout")), 4, mc_co mp_73),
  (⟨"SmallerInTheShop$Sheet", "wearDown", "(LSmallerInTheShop$Layout;)V"⟩, prog_7_method_11_code, 3, (Option.none : Option FieldType), 4, mc_co mp_74),
  (⟨"SmallerInTheShop$Sheet", "wornBehind", "(ILSmallerInTheShop$Layout;)I"⟩, prog_7_method_12_code, 4, (Option.some FieldType.int), 4, mc_co mp_75),
  (⟨"SmallerInTheShop$Sheet", "openLast", "()Z"⟩, prog_7_method_8_code, 1, (Option.some FieldType.boolean), 4, mc_co mp_76),
  (⟨"SmallerInTheShop$Sheet", "wearOf", "(LSmallerInTheShop$Layout;)I"⟩, prog_7_method_10_code, 4, (Option.some FieldType.int), 4, mc_co mp_77),
  (⟨"SmallerInTheShop$Sheet", "lastsUnder", "(LSmallerInTheShop$Layout;)I"⟩, prog_7_method_16_code, 4, (Option.some FieldType.int), 4, mc_co mp_78),
  (⟨"SmallerInTheShop$Sheet", "holes", "()I"⟩, prog_7_method_15_code, 3, (Option.some FieldType.int), 4, mc_co mp_79)]
def mc_P2 : List mm_Mt := [(⟨"SmallerInTheShop$Sheet", "wornAt", "(I)I"⟩, prog_7_method_14_code, 2, (Option.some FieldType.int), 4, mc_co mp_80),
  (⟨"SmallerInTheShop$Sheet", "wornOfAll", "()I"⟩, prog_7_method_13_code, 3, (Option.some FieldType.int), 4, mc_co mp_81),
  (⟨"SmallerInTheShop", "<init>", "()V"⟩, prog_1_method_1_code, 1, (Option.none : Option FieldType), 5, mc_co mp_82),
  (⟨"SmallerInTheShop", "letter", "(I)I"⟩, prog_1_method_2_code, 2, (Option.some FieldType.int), 5, mc_co mp_83),
  (⟨"SmallerInTheShop", "refuse", "(I)I"⟩, prog_1_method_35_code, 3, (Option.some FieldType.int), 5, mc_co mp_84),
  (⟨"SmallerInTheShop", "map", "()I"⟩, prog_1_method_3_code, 3, (Option.some FieldType.int), 5, mc_co mp_85),
  (⟨"SmallerInTheShop", "doStatements", "()I"⟩, prog_1_method_42_code, 3, (Option.some FieldType.int), 5, mc_co mp_86),
  (⟨"SmallerInTheShop", "doStatement", "(I)Z"⟩, prog_1_method_43_code, 3, (Option.some FieldType.boolean), 5, mc_co mp_87),
  (⟨"SmallerInTheShop", "tellKind", "(III)Z"⟩, prog_1_method_44_code, 4, (Option.some FieldType.boolean), 5, mc_co mp_88),
  (⟨"SmallerInTheShop", "isBelow", "(II)Z"⟩, prog_1_method_38_code, 2, (Option.some FieldType.boolean), 5, mc_co mp_89),
  (⟨"SmallerInTheShop", "tellWorn", "(II)Z"⟩, prog_1_method_45_code, 3, (Option.some FieldType.boolean), 5, mc_co mp_90),
  (⟨"SmallerInTheShop", "tellFold", "(II)Z"⟩, prog_1_method_46_code, 3, (Option.some FieldType.boolean), 5, mc_co mp_91),
  (⟨"SmallerInTheShop", "tellCover", "(I)Z"⟩, prog_1_method_47_code, 2, (Option.some FieldType.boolean), 5, mc_co mp_92),
  (⟨"SmallerInTheShop", "crease", "(II)I"⟩, prog_1_method_4_code, 3, (Option.some FieldType.int), 5, mc_co mp_93),
  (⟨"SmallerInTheShop", "panel", "(II)I"⟩, prog_1_method_5_code, 4, (Option.some FieldType.int), 5, mc_co mp_94),
  (⟨"SmallerInTheShop", "asNumber", "(Z)I"⟩, prog_1_method_41_code, 1, (Option.some FieldType.int), 5, mc_co mp_95),
  (⟨"SmallerInTheShop", "fold", "(II)I"⟩, prog_1_method_6_code, 4, (Option.some FieldType.int), 5, mc_co mp_96),
  (⟨"SmallerInTheShop", "refusalOfFold", "(II)I"⟩, prog_1_method_37_code, 3, (Option.some FieldType.int), 5, mc_co mp_97),
  (⟨"SmallerInTheShop", "opens", "()I"⟩, prog_1_method_7_code, 1, (Option.some FieldType.int), 5, mc_co mp_98),
  (⟨"SmallerInTheShop", "wears", "(II)I"⟩, prog_1_method_8_code, 4, (Option.some FieldType.int), 5, mc_co mp_99),
  (⟨"SmallerInTheShop", "turn", "(III)I"⟩, prog_1_method_9_code, 5, (Option.some FieldType.int), 5, mc_co mp_100),
  (⟨"SmallerInTheShop", "cover", "(I)I"⟩, prog_1_method_10_code, 3, (Option.some FieldType.int), 5, mc_co mp_101),
  (⟨"SmallerInTheShop", "hurts", "(III)I"⟩, prog_1_method_11_code, 7, (Option.some FieldType.int), 5, mc_co mp_102),
  (⟨"SmallerInTheShop", "over", "(II)I"⟩, prog_1_method_12_code, 3, (Option.some FieldType.int), 5, mc_co mp_103),
  (⟨"SmallerInTheShop", "arePair", "(II)Z"⟩, prog_1_method_40_code, 2, (Option.some FieldType.boolean), 5, mc_co mp_104),
  (⟨"SmallerInTheShop", "wad", "(I)I"⟩, prog_1_method_13_code, 3, (Option.some FieldType.int), 5, mc_co mp_105),
  (⟨"SmallerInTheShop", "shut", "(I)I"⟩, prog_1_method_14_code, 2, (Option.some FieldType.int), 5, mc_co mp_106),
  (⟨"SmallerInTheShop", "ways", "(I)I"⟩, prog_1_method_15_code, 2, (Option.some FieldType.int), 5, mc_co mp_107),
  (⟨"SmallerInTheShop", "up", "(IIII)I"⟩, prog_1_method_16_code, 5, (Option.some FieldType.int), 5, mc_co mp_108),
  (⟨"SmallerInTheShop", "most", "(III)I"⟩, prog_1_method_17_code, 4, (Option.some FieldType.int), 5, mc_co mp_109),
  (⟨"SmallerInTheShop", "layers", "()I"⟩, prog_1_method_18_code, 2, (Option.some FieldType.int), 5, mc_co mp_110),
  (⟨"SmallerInTheShop", "tellsAllPanels", "()Z"⟩, prog_1_method_48_code, 3, (Option.some FieldType.boolean), 5, mc_co mp_111),
  (⟨"SmallerInTheShop", "lasts", "(II)I"⟩, prog_1_method_19_code, 4, (Option.some FieldType.int), 5, mc_co mp_112),
  (⟨"SmallerInTheShop", "tape", "(II)I"⟩, prog_1_method_20_code, 9, (Option.some FieldType.int), 5, mc_co mp_113),
  (⟨"SmallerInTheShop", "first", "(IIII)I"⟩, prog_1_method_21_code, 7, (Option.some FieldType.int), 5, mc_co mp_114),
  (⟨"SmallerInTheShop", "isLine", "(I)Z"⟩, prog_1_method_39_code, 1, (Option.some FieldType.boolean), 5, mc_co mp_115),
  (⟨"SmallerInTheShop", "effortOfTwo", "(IIII)I"⟩, prog_1_method_49_code, 7, (Option.some FieldType.int), 5, mc_co mp_116),
  (⟨"SmallerInTheShop", "hole", "(II)I"⟩, prog_1_method_22_code, 4, (Option.some FieldType.int), 5, mc_co mp_117),
  (⟨"SmallerInTheShop", "weakest", "(I)I"⟩, prog_1_method_23_code, 4, (Option.some FieldType.int), 5, mc_co mp_118),
  (⟨"SmallerInTheShop", "wind", "(II)J"⟩, prog_1_method_24_code, 10, (Option.some FieldType.long), 5, mc_co mp_119)]
def mc_P3 : List mm_Mt := [(⟨"SmallerInTheShop", "refuseLong", "(I)J"⟩, prog_1_method_36_code, 2, (Option.some FieldType.long), 5, mc_co mp_120),
  (⟨"SmallerInTheShop", "firstImpossible", "()I"⟩, prog_1_method_50_code, 5, (Option.some FieldType.int), 5, mc_co mp_121),
  (⟨"SmallerInTheShop", "power", "(JI)J"⟩, prog_1_method_52_code, 6, (Option.some FieldType.long), 5, mc_co mp_122),
  (⟨"SmallerInTheShop", "isCoverOutBy", "(I)Z"⟩, prog_1_method_51_code, 6, (Option.some FieldType.boolean), 5, mc_co mp_123),
  (⟨"SmallerInTheShop", "partOfFraction", "(JJI)J"⟩, prog_1_method_53_code, 12, (Option.some FieldType.long), 5, mc_co mp_124),
  (⟨"SmallerInTheShop", "mean", "(I)J"⟩, prog_1_method_25_code, 2, (Option.some FieldType.long), 5, mc_co mp_125),
  (⟨"SmallerInTheShop", "whatIs", "(II)I"⟩, prog_1_method_26_code, 3, (Option.some FieldType.int), 5, mc_co mp_126),
  (⟨"SmallerInTheShop", "kindsThatFit", "(I)I"⟩, prog_1_method_54_code, 4, (Option.some FieldType.int), 5, mc_co mp_127),
  (⟨"SmallerInTheShop", "fitsAllPairs", "(II)Z"⟩, prog_1_method_56_code, 4, (Option.some FieldType.boolean), 5, mc_co mp_128),
  (⟨"SmallerInTheShop", "figuresThatFit", "(I)I"⟩, prog_1_method_55_code, 4, (Option.some FieldType.int), 5, mc_co mp_129),
  (⟨"SmallerInTheShop", "row", "(I)I"⟩, prog_1_method_27_code, 2, (Option.some FieldType.int), 5, mc_co mp_130),
  (⟨"SmallerInTheShop", "judge", "()I"⟩, prog_1_method_28_code, 2, (Option.some FieldType.int), 5, mc_co mp_131),
  (⟨"SmallerInTheShop", "clear", "()I"⟩, prog_1_method_29_code, 2, (Option.some FieldType.int), 5, mc_co mp_132),
  (⟨"SmallerInTheShop", "lots", "(III)I"⟩, prog_1_method_30_code, 7, (Option.some FieldType.int), 5, mc_co mp_133),
  (⟨"SmallerInTheShop", "shutByLot", "()I"⟩, prog_1_method_57_code, 6, (Option.some FieldType.int), 5, mc_co mp_134),
  (⟨"SmallerInTheShop", "image", "()I"⟩, prog_1_method_31_code, 1, (Option.some FieldType.int), 5, mc_co mp_135),
  (⟨"SmallerInTheShop", "on", "()I"⟩, prog_1_method_32_code, 1, (Option.some FieldType.int), 5, mc_co mp_136),
  (⟨"SmallerInTheShop", "count", "(I)I"⟩, prog_1_method_33_code, 2, (Option.some FieldType.int), 5, mc_co mp_137),
  (⟨"SmallerInTheShop", "countOfRefusals", "(I)I"⟩, prog_1_method_34_code, 2, (Option.some FieldType.int), 5, mc_co mp_138),
  (⟨"SmallerInTheShopModel", "<init>", "()V"⟩, prog_9_method_1_code, 2, (Option.none : Option FieldType), 6, mc_co mp_139),
  (⟨"SmallerInTheShopModel", "letter", "(I)I"⟩, prog_9_method_27_code, 2, (Option.some FieldType.int), 6, mc_co mp_140),
  (⟨"SmallerInTheShopModel", "refused", "(I)I"⟩, prog_9_method_3_code, 2, (Option.some FieldType.int), 6, mc_co mp_141),
  (⟨"SmallerInTheShopModel", "map", "()I"⟩, prog_9_method_33_code, 5, (Option.some FieldType.int), 6, mc_co mp_142),
  (⟨"SmallerInTheShopModel", "faultOf", "(I)I"⟩, prog_9_method_30_code, 5, (Option.some FieldType.int), 6, mc_co mp_143),
  (⟨"SmallerInTheShopModel", "sizeOf", "(I)I"⟩, prog_9_method_29_code, 1, (Option.some FieldType.int), 6, mc_co mp_144),
  (⟨"SmallerInTheShopModel", "fits", "(III)Z"⟩, prog_9_method_28_code, 5, (Option.some FieldType.boolean), 6, mc_co mp_145),
  (⟨"SmallerInTheShopModel", "in", "(JJJ)Z"⟩, prog_9_method_2_code, 6, (Option.some FieldType.boolean), 6, mc_co mp_146),
  (⟨"SmallerInTheShopModel", "copies", "([I[I)V"⟩, prog_9_method_5_code, 3, (Option.none : Option FieldType), 6, mc_co mp_147),
  (⟨"SmallerInTheShopModel", "comes", "([II)Z"⟩, prog_9_method_32_code, 4, (Option.some FieldType.boolean), 6, mc_co mp_148),
  (⟨"SmallerInTheShopModel", "digit", "(I)I"⟩, prog_9_method_31_code, 2, (Option.some FieldType.int), 6, mc_co mp_149),
  (⟨"SmallerInTheShopModel", "isLine", "([II)Z"⟩, prog_9_method_12_code, 2, (Option.some FieldType.boolean), 6, mc_co mp_150),
  (⟨"SmallerInTheShopModel", "wide", "([II)I"⟩, prog_9_method_11_code, 4, (Option.some FieldType.int), 6, mc_co mp_151),
  (⟨"SmallerInTheShopModel", "folds", "([III)I"⟩, prog_9_method_25_code, 8, (Option.some FieldType.int), 6, mc_co mp_152),
  (⟨"SmallerInTheShopModel", "creases", "([II)I"⟩, prog_9_method_20_code, 9, (Option.some FieldType.int), 6, mc_co mp_153),
  (⟨"SmallerInTheShopModel", "one", "(I)I"⟩, prog_9_method_9_code, 1, (Option.some FieldType.int), 6, mc_co mp_154),
  (⟨"SmallerInTheShopModel", "other", "(I)I"⟩, prog_9_method_10_code, 1, (Option.some FieldType.int), 6, mc_co mp_155),
  (⟨"SmallerInTheShopModel", "effortBy", "([III)I"⟩, prog_9_method_22_code, 6, (Option.some FieldType.int), 6, mc_co mp_156),
  (⟨"SmallerInTheShopModel", "sideOf", "([III)I"⟩, prog_9_method_21_code, 4, (Option.some FieldType.int), 6, mc_co mp_157),
  (⟨"SmallerInTheShopModel", "effortOf", "([III)I"⟩, prog_9_method_8_code, 3, (Option.some FieldType.int), 6, mc_co mp_158),
  (⟨"SmallerInTheShopModel", "effort", "(IIII)I"⟩, prog_9_method_6_code, 5, (Option.some FieldType.int), 6, mc_co mp_159)]
def mc_P4 : List mm_Mt := [(⟨"SmallerInTheShopModel", "keepsAhead", "([II)V"⟩, prog_9_method_23_code, 4, (Option.none : Option FieldType), 6, mc_co mp_160),
  (⟨"SmallerInTheShopModel", "wear", "(III)I"⟩, prog_9_method_7_code, 4, (Option.some FieldType.int), 6, mc_co mp_161),
  (⟨"SmallerInTheShopModel", "lays", "([III)V"⟩, prog_9_method_24_code, 14, (Option.none : Option FieldType), 6, mc_co mp_162),
  (⟨"SmallerInTheShopModel", "isOneCell", "([III)Z"⟩, prog_9_method_13_code, 3, (Option.some FieldType.boolean), 6, mc_co mp_163),
  (⟨"SmallerInTheShopModel", "opened", "([I)V"⟩, prog_9_method_26_code, 3, (Option.none : Option FieldType), 6, mc_co mp_164),
  (⟨"SmallerInTheShopModel", "crease", "(II)I"⟩, prog_9_method_36_code, 3, (Option.some FieldType.int), 6, mc_co mp_165),
  (⟨"SmallerInTheShopModel", "isCrease", "(I)Z"⟩, prog_9_method_34_code, 1, (Option.some FieldType.boolean), 6, mc_co mp_166),
  (⟨"SmallerInTheShopModel", "panel", "(II)I"⟩, prog_9_method_37_code, 3, (Option.some FieldType.int), 6, mc_co mp_167),
  (⟨"SmallerInTheShopModel", "isPanel", "(I)Z"⟩, prog_9_method_35_code, 1, (Option.some FieldType.boolean), 6, mc_co mp_168),
  (⟨"SmallerInTheShopModel", "isRead", "([II)Z"⟩, prog_9_method_16_code, 2, (Option.some FieldType.boolean), 6, mc_co mp_169),
  (⟨"SmallerInTheShopModel", "shows", "([III)Z"⟩, prog_9_method_15_code, 4, (Option.some FieldType.boolean), 6, mc_co mp_170),
  (⟨"SmallerInTheShopModel", "above", "([II)I"⟩, prog_9_method_14_code, 4, (Option.some FieldType.int), 6, mc_co mp_171),
  (⟨"SmallerInTheShopModel", "fold", "(II)I"⟩, prog_9_method_38_code, 3, (Option.some FieldType.int), 6, mc_co mp_172),
  (⟨"SmallerInTheShopModel", "opens", "()I"⟩, prog_9_method_39_code, 1, (Option.some FieldType.int), 6, mc_co mp_173),
  (⟨"SmallerInTheShopModel", "wears", "(II)I"⟩, prog_9_method_40_code, 4, (Option.some FieldType.int), 6, mc_co mp_174),
  (⟨"SmallerInTheShopModel", "turn", "(III)I"⟩, prog_9_method_41_code, 5, (Option.some FieldType.int), 6, mc_co mp_175),
  (⟨"SmallerInTheShopModel", "cover", "(I)I"⟩, prog_9_method_42_code, 3, (Option.some FieldType.int), 6, mc_co mp_176),
  (⟨"SmallerInTheShopModel", "hurts", "(III)I"⟩, prog_9_method_44_code, 5, (Option.some FieldType.int), 6, mc_co mp_177),
  (⟨"SmallerInTheShopModel", "wornAll", "([I)I"⟩, prog_9_method_43_code, 3, (Option.some FieldType.int), 6, mc_co mp_178),
  (⟨"SmallerInTheShopModel", "over", "(II)I"⟩, prog_9_method_45_code, 3, (Option.some FieldType.int), 6, mc_co mp_179),
  (⟨"SmallerInTheShopModel", "wad", "(I)I"⟩, prog_9_method_48_code, 2, (Option.some FieldType.int), 6, mc_co mp_180),
  (⟨"SmallerInTheShopModel", "thickness", "([I)I"⟩, prog_9_method_19_code, 5, (Option.some FieldType.int), 6, mc_co mp_181),
  (⟨"SmallerInTheShopModel", "readSet", "([I)I"⟩, prog_9_method_46_code, 3, (Option.some FieldType.int), 6, mc_co mp_182),
  (⟨"SmallerInTheShopModel", "isOut", "([I)Z"⟩, prog_9_method_17_code, 1, (Option.some FieldType.boolean), 6, mc_co mp_183),
  (⟨"SmallerInTheShopModel", "flat", "()I"⟩, prog_9_method_47_code, 3, (Option.some FieldType.int), 6, mc_co mp_184),
  (⟨"SmallerInTheShopModel", "shut", "(I)I"⟩, prog_9_method_54_code, 2, (Option.some FieldType.int), 6, mc_co mp_185),
  (⟨"SmallerInTheShopModel", "seek", "(III)V"⟩, prog_9_method_53_code, 4, (Option.none : Option FieldType), 6, mc_co mp_186),
  (⟨"SmallerInTheShopModel", "seeks", "(III)V"⟩, prog_9_method_52_code, 7, (Option.none : Option FieldType), 6, mc_co mp_187),
  (⟨"SmallerInTheShopModel", "meets", "([IIII)V"⟩, prog_9_method_51_code, 6, (Option.none : Option FieldType), 6, mc_co mp_188),
  (⟨"SmallerInTheShopModel", "isShut", "([I)Z"⟩, prog_9_method_18_code, 1, (Option.some FieldType.boolean), 6, mc_co mp_189),
  (⟨"SmallerInTheShopModel", "better", "(II)V"⟩, prog_9_method_49_code, 3, (Option.none : Option FieldType), 6, mc_co mp_190),
  (⟨"SmallerInTheShopModel", "isAsTheRow", "([I)Z"⟩, prog_9_method_50_code, 5, (Option.some FieldType.boolean), 6, mc_co mp_191),
  (⟨"SmallerInTheShopModel", "ways", "(I)I"⟩, prog_9_method_55_code, 2, (Option.some FieldType.int), 6, mc_co mp_192),
  (⟨"SmallerInTheShopModel", "up", "(IIII)I"⟩, prog_9_method_56_code, 5, (Option.some FieldType.int), 6, mc_co mp_193),
  (⟨"SmallerInTheShopModel", "most", "(III)I"⟩, prog_9_method_57_code, 4, (Option.some FieldType.int), 6, mc_co mp_194),
  (⟨"SmallerInTheShopModel", "layers", "()I"⟩, prog_9_method_59_code, 1, (Option.some FieldType.int), 6, mc_co mp_195),
  (⟨"SmallerInTheShopModel", "tellsAll", "()Z"⟩, prog_9_method_58_code, 3, (Option.some FieldType.boolean), 6, mc_co mp_196),
  (⟨"SmallerInTheShopModel", "lasts", "(II)I"⟩, prog_9_method_63_code, 3, (Option.some FieldType.int), 6, mc_co mp_197),
  (⟨"SmallerInTheShopModel", "times", "(II)I"⟩, prog_9_method_62_code, 6, (Option.some FieldType.int), 6, mc_co mp_198),
  (⟨"SmallerInTheShopModel", "holes", "([I)I"⟩, prog_9_method_61_code, 3, (Option.some FieldType.int), 6, mc_co mp_199)]
def mc_P5 : List mm_Mt := [(⟨"SmallerInTheShopModel", "wornAt", "([II)I"⟩, prog_9_method_60_code, 2, (Option.some FieldType.int), 6, mc_co mp_200),
  (⟨"SmallerInTheShopModel", "tape", "(II)I"⟩, prog_9_method_64_code, 7, (Option.some FieldType.int), 6, mc_co mp_201),
  (⟨"SmallerInTheShopModel", "first", "(IIII)I"⟩, prog_9_method_66_code, 7, (Option.some FieldType.int), 6, mc_co mp_202),
  (⟨"SmallerInTheShopModel", "both", "(IIII)I"⟩, prog_9_method_65_code, 6, (Option.some FieldType.int), 6, mc_co mp_203),
  (⟨"SmallerInTheShopModel", "hole", "(II)I"⟩, prog_9_method_67_code, 3, (Option.some FieldType.int), 6, mc_co mp_204),
  (⟨"SmallerInTheShopModel", "weakest", "(I)I"⟩, prog_9_method_68_code, 4, (Option.some FieldType.int), 6, mc_co mp_205),
  (⟨"SmallerInTheShopModel", "wind", "(II)J"⟩, prog_9_method_71_code, 12, (Option.some FieldType.long), 6, mc_co mp_206),
  (⟨"SmallerInTheShopModel", "refusedLong", "(I)J"⟩, prog_9_method_4_code, 2, (Option.some FieldType.long), 6, mc_co mp_207),
  (⟨"SmallerInTheShopModel", "goes", "(I)I"⟩, prog_9_method_70_code, 5, (Option.some FieldType.int), 6, mc_co mp_208),
  (⟨"SmallerInTheShopModel", "lowest", "(JJI)J"⟩, prog_9_method_69_code, 11, (Option.some FieldType.long), 6, mc_co mp_209),
  (⟨"SmallerInTheShopModel", "mean", "(I)J"⟩, prog_9_method_72_code, 2, (Option.some FieldType.long), 6, mc_co mp_210),
  (⟨"SmallerInTheShopModel", "whatIs", "(II)I"⟩, prog_9_method_74_code, 6, (Option.some FieldType.int), 6, mc_co mp_211),
  (⟨"SmallerInTheShopModel", "isSo", "(II)Z"⟩, prog_9_method_73_code, 4, (Option.some FieldType.boolean), 6, mc_co mp_212),
  (⟨"SmallerInTheShopModel", "row", "(I)I"⟩, prog_9_method_75_code, 2, (Option.some FieldType.int), 6, mc_co mp_213),
  (⟨"SmallerInTheShopModel", "judge", "()I"⟩, prog_9_method_76_code, 2, (Option.some FieldType.int), 6, mc_co mp_214),
  (⟨"SmallerInTheShopModel", "clear", "()I"⟩, prog_9_method_77_code, 2, (Option.some FieldType.int), 6, mc_co mp_215),
  (⟨"SmallerInTheShopModel", "lots", "(III)I"⟩, prog_9_method_80_code, 7, (Option.some FieldType.int), 6, mc_co mp_216),
  (⟨"SmallerInTheShopModel", "shutsByLot", "()I"⟩, prog_9_method_79_code, 5, (Option.some FieldType.int), 6, mc_co mp_217),
  (⟨"SmallerInTheShopModel", "draw", "(I)I"⟩, prog_9_method_78_code, 2, (Option.some FieldType.int), 6, mc_co mp_218),
  (⟨"SmallerInTheShopModel", "image", "()I"⟩, prog_9_method_81_code, 1, (Option.some FieldType.int), 6, mc_co mp_219),
  (⟨"SmallerInTheShopModel", "on", "()I"⟩, prog_9_method_82_code, 1, (Option.some FieldType.int), 6, mc_co mp_220),
  (⟨"SmallerInTheShopModel", "count", "(I)I"⟩, prog_9_method_83_code, 2, (Option.some FieldType.int), 6, mc_co mp_221)]
def mc_PL : List mm_Mt := mc_P0 ++ (mc_P1 ++ (mc_P2 ++ (mc_P3 ++ (mc_P4 ++ (mc_P5)))))
def mc_P (k : Nat) : Option mm_Mt := mc_PL[k]?
end
section
/-! the tables' entries checked by a program, and what that gives -/
def mc_tb : List Cond := lw_tbl.filter goodWord
def mk_w (j : Nat) (w : Cond) : Bool := decide (lw_tbl[j]? = some w) && goodWord w
theorem mk_w_in {j : Nat} {w : Cond} (h : mk_w j w = true) : w ∈ mc_tb := by
  unfold mk_w at h
  rw [Bool.and_eq_true, decide_eq_true_eq] at h
  exact List.mem_filter.mpr ⟨List.mem_of_getElem? h.1, h.2⟩
def mc_isN (w : Cond) : Bool := match w with
  | .fieldLinkNest .. => true
  | .methodLinkNest .. => true
  | _ => false
def mc_nws : List Cond := lw_tbl.filter mc_isN
def mk_n (j : Nat) (w : Cond) : Bool := decide (lw_tbl[j]? = some w) && mc_isN w
theorem mk_n_in {j : Nat} {w : Cond} (h : mk_n j w = true) : w ∈ mc_nws := by
  unfold mk_n at h
  rw [Bool.and_eq_true, decide_eq_true_eq] at h
  exact List.mem_filter.mpr ⟨List.mem_of_getElem? h.1, h.2⟩
def mk_p (p : List Nat) (i : Nat) : Nat := p.getD i 0
def mk_host : String := "SmallerInTheShop"
/-- a field's link, plain or of a nest mate -/
def mk_f (own : String) (idx : Nat) (p : List Nat) (C f d : String) : Bool := if mk_p p 1 = 0 then mk_w (mk_p p 0) (.fieldLink own idx C f d) else mk_n (mk_p p 0) (.fieldLinkNest own idx C f d mk_host)
theorem mk_f_in {own : String} {idx : Nat} {p : List Nat} {C f d : String} (h : mk_f own idx p C f d = true) : Cond.fieldLink own idx C f d ∈ mc_tb ∨ ∃ host : String, Cond.fieldLinkNest own idx C f d host ∈ mc_nws := by
  unfold mk_f at h
  split at h
  · exact Or.inl (mk_w_in h)
  · exact Or.inr ⟨_, mk_n_in h⟩
def mk_m (own : String) (idx : Nat) (p : List Nat) (y : MethodName) : Bool := if mk_p p 1 = 0 then mk_w (mk_p p 0) (.methodLink own idx y) else mk_n (mk_p p 0) (.methodLinkNest own idx y mk_host)
theorem mk_m_in {own : String} {idx : Nat} {p : List Nat} {y : MethodName} (h : mk_m own idx p y = true) : Cond.methodLink own idx y ∈ mc_tb ∨ ∃ host : String, Cond.methodLinkNest own idx y host ∈ mc_nws := by
  unfold mk_m at h
  split at h
  · exact Or.inl (mk_w_in h)
  · exact Or.inr ⟨_, mk_n_in h⟩
def mk_I (own nm : String) (cc : ByteArray) (pc : Nat) (i : mm_I) : Bool := decide (decode cc pc = .ok (i.1, i.2.1)) && match i with
  | (.ldc idx, n, _, _, v, p) => n == 2 && (match v with
    | .int x => mk_w (mk_p p 0) (.constant own idx x)
    | .retAddr k => mc_sks.any (fun w => w.1 == own && w.2.1 == idx && w.2.2.2 == k)
    | _ => false)
  | (.ldc_w idx, n, _, _, v, p) => n == 3 && (match v with | .int x => mk_w (mk_p p 0) (.constant own idx x) | _ => false)
  | (.ldc2_w idx, n, _, _, v, p) => n == 3 && (match v with | .long x => mk_w (mk_p p 0) (.constantLong own idx x) | _ => false)
  | (.getstatic idx, n, _, _, v, p) => n == 3 && (match mc_sts[mk_p p 2]? with | some (C, f, d, v1) => decide (v1 = v) && mk_f own idx p C f d | none => false)
  | (.goto off, n, a, _) => n == 3 && decide ((pc : Int) + off = (a : Int))
  | (.ifCond _ off, n, a, _) => n == 3 && decide ((pc : Int) + off = (a : Int))
  | (.if_icmp _ off, n, a, _) => n == 3 && decide ((pc : Int) + off = (a : Int))
  | (.tableswitch d _ _ os, _) => decide (0 ≤ (pc : Int) + d) && os.toList.all (fun o => decide (0 ≤ (pc : Int) + o))
  | (.lookupswitch d ps, _) => decide (0 ≤ (pc : Int) + d) && ps.toList.all (fun o => decide (0 ≤ (pc : Int) + o.2)) && (ps.toList.zip (ps.toList.drop 1)).all (fun (a, next) => a.1 < next.1)
  | (.getfield idx, n, a, b, _, p) => n == 3 && (if a = 99 then mk_w (mk_p p 0) (.fieldLink own idx "java/lang/String" (mc_sf b).1 (mc_sf b).2) else (match mc_cl[a]? with | some q => decide (b < q.2.2) && mk_f own idx p (q.2.1 b).1 (q.2.1 b).2.1 (q.2.1 b).2.2.1 | none => false))
  | (.putfield idx, n, a, b, _, p) => n == 3 && (match mc_cl[a]? with | some q => decide (b < q.2.2) && (if (q.2.1 b).2.2.2 = false then mk_f own idx p (q.2.1 b).1 (q.2.1 b).2.1 (q.2.1 b).2.2.1 else mk_w (mk_p p 0) (.fieldLink own idx (q.2.1 b).1 (q.2.1 b).2.1 (q.2.1 b).2.2.1) && decide (nm = "<init>") && decide ((q.2.1 b).1 = own)) | none => false)
  | (ins, n, _) => n == mm_len ins
theorem mk_off {ps : List (Int × Int)} {d x pc : Int} (h0 : 0 ≤ pc + d) (h : ps.all (fun o => decide (0 ≤ pc + o.2)) = true) : 0 ≤ pc + Op.lookupswitch.offset ps d x := by
  induction ps with
  | nil => simpa [Op.lookupswitch.offset] using h0
  | cons q ps ih =>
    simp only [List.all_cons, Bool.and_eq_true, decide_eq_true_eq] at h
    have h2 := ih h.2
    obtain ⟨a, b⟩ := q
    simp only [Op.lookupswitch.offset] at h2 ⊢
    split <;> simp_all
set_option maxHeartbeats 4000000 in
theorem mk_I_ok {own nm : String} {cc : ByteArray} {pc : Nat} {i : mm_I} (h : mk_I own nm cc pc i = true) : mm_okI mc_cl mc_tb mc_sf mc_sts mc_sks mc_nws own nm cc pc i := by
  obtain ⟨ins, n, a, b, v, p⟩ := i
  unfold mk_I at h
  rw [Bool.and_eq_true, decide_eq_true_eq] at h
  obtain ⟨hd, h⟩ := h
  refine ⟨hd, ?_⟩
  cases ins with
  | ldc idx =>
    simp only [Bool.and_eq_true, beq_iff_eq] at h
    obtain ⟨h1, h2⟩ := h
    refine ⟨h1, ?_⟩
    split at h2
    · exact Or.inl ⟨_, rfl, mk_w_in h2⟩
    · rename_i k
      right
      obtain ⟨w, hw, h3⟩ := List.any_eq_true.mp h2
      simp only [Bool.and_eq_true, beq_iff_eq] at h3
      obtain ⟨w1, w2, w3, w4⟩ := w
      obtain ⟨⟨rfl, rfl⟩, rfl⟩ := h3
      exact ⟨w3, _, rfl, hw⟩
    · cases h2
  | ldc_w idx =>
    simp only [Bool.and_eq_true, beq_iff_eq] at h
    obtain ⟨h1, h2⟩ := h
    refine ⟨h1, ?_⟩
    split at h2
    · exact ⟨_, rfl, mk_w_in h2⟩
    · cases h2
  | ldc2_w idx =>
    simp only [Bool.and_eq_true, beq_iff_eq] at h
    obtain ⟨h1, h2⟩ := h
    refine ⟨h1, ?_⟩
    split at h2
    · exact ⟨_, rfl, mk_w_in h2⟩
    · cases h2
  | getstatic idx =>
    simp only [Bool.and_eq_true, beq_iff_eq] at h
    obtain ⟨h1, h2⟩ := h
    refine ⟨h1, ?_⟩
    split at h2
    · rename_i C f d v1 hs
      simp only [Bool.and_eq_true, decide_eq_true_eq] at h2
      obtain ⟨rfl, h3⟩ := h2
      exact ⟨C, f, d, List.mem_of_getElem? hs, mk_f_in h3⟩
    · cases h2
  | goto off =>
    simp only [Bool.and_eq_true, beq_iff_eq, decide_eq_true_eq] at h
    exact h
  | ifCond cnd off =>
    simp only [Bool.and_eq_true, beq_iff_eq, decide_eq_true_eq] at h
    exact h
  | if_icmp cnd off =>
    simp only [Bool.and_eq_true, beq_iff_eq, decide_eq_true_eq] at h
    exact h
  | tableswitch d lo hi os =>
    simp only [Bool.and_eq_true, decide_eq_true_eq, List.all_eq_true] at h
    exact h
  | lookupswitch d ps =>
    rw [Bool.and_eq_true, Bool.and_eq_true, decide_eq_true_eq] at h
    exact ⟨fun x => mk_off h.1.1 h.1.2, h.2⟩
  | getfield idx =>
    simp only [Bool.and_eq_true, beq_iff_eq] at h
    obtain ⟨h1, h2⟩ := h
    refine ⟨h1, ?_⟩
    split at h2
    · rename_i h99
      exact Or.inl ⟨h99, by rw [h99]; rfl, mk_w_in h2⟩
    · rename_i h99
      split at h2
      · rename_i q hq
        simp only [Bool.and_eq_true, decide_eq_true_eq] at h2
        exact Or.inr ⟨q, hq, h99, h2.1, mk_f_in h2.2⟩
      · cases h2
  | putfield idx =>
    simp only [Bool.and_eq_true, beq_iff_eq] at h
    obtain ⟨h1, h2⟩ := h
    refine ⟨h1, ?_⟩
    split at h2
    · rename_i q hq
      simp only [Bool.and_eq_true, decide_eq_true_eq] at h2
      obtain ⟨h3, h4⟩ := h2
      refine ⟨q, hq, h3, ?_⟩
      split at h4
      · rename_i hf
        exact Or.inl ⟨hf, mk_f_in h4⟩
      · rename_i hf
        simp only [Bool.and_eq_true, decide_eq_true_eq] at h4
        exact Or.inr ⟨by simpa using hf, mk_w_in h4.1.1, h4.1.2, h4.2⟩
    · cases h2
  | _ => exact (beq_iff_eq.mp h)
def mk_par (y : MethodName) (n : Nat) : Bool := decide ((parseMethodDescriptor y.desc).map (fun d => d.parameters.length) = some n)
def mk_y (y : MethodName) : Bool := decide (y.cls ≠ "java/lang/invoke/MethodHandle") && decide (y.cls ≠ "java/lang/invoke/VarHandle")
def mk_J (own : String) (i : mm_I) : Bool := match i with
  | (.new idx, n, a, _, _, p) => n == 3 && (match mc_cl[a]? with | some q => mk_w (mk_p p 0) (.classLink own idx q.1) && mk_w (mk_p p 1) (.instantiable q.1 q.2.2) && mk_w (mk_p p 2) (.initialized q.1) && decide ((mc_nf a).length = q.2.2) && (List.range q.2.2).all (fun j => decide ((mc_nf a)[j]? = some (defaultValue (mc_fty a j)))) | none => false)
  | (.newarray _, _, _, _, _, p) => mk_w (mk_p p 0) (.arrayClass .int)
  | (.anewarray idx, _, _, _, _, p) => mk_w (mk_p p 0) (.classLink own idx mc_lay)
  | (.multianewarray idx _, _, _, _, _, p) => mk_w (mk_p p 0) (.classLink own idx ("[" ++ (FieldType.array .int).toString)) && mk_w (mk_p p 2) (.arrayClass .int)
  | (.invokevirtual idx, n, k, na, _, p) => n == 3 && (match mc_P k with
    | some (y, _, _, _, ci, _) => mk_w (mk_p p 0) (.methodLink own idx y) && mk_w (mk_p p 2) (.instanceMethod y) && mk_w (mk_p p 4) (.selects y.cls y y) && mk_w (mk_p p 3) (.initialized y.cls) && mk_y y && decide (0 < na) && mk_par y (na - 1) && (if ci = 99 then decide (y.cls = "java/lang/String") else (match mc_cl[ci]? with | some q => decide (q.1 = y.cls) | none => false))
    | none => false)
  | (.invokespecial idx, n, k, na, _, p) => n == 3 && (if k = 999 then mk_w (mk_p p 0) (.methodLink own idx Lib.objectInit) && mk_w (mk_p p 1) (.instanceMethod Lib.objectInit) && mk_w (mk_p p 2) (.code Lib.objectInit ⟨#[0xb1]⟩ 1 none) else (match mc_P k with
    | some (y, _, _, rt, _, _) => decide (rt = none) && mk_m own idx p y && mk_w (mk_p p 2) (.instanceMethod y) && mk_w (mk_p p 3) (.initialized y.cls) && decide (y.name = "<init>") && mk_y y && decide (0 < na) && mk_par y (na - 1)
    | none => false))
  | (.invokestatic idx, n, k, na, _, p) => n == 3 && (if k = 997 then mk_w (mk_p p 0) (.methodLink own idx Lib.Math.max.name) && mk_w (mk_p p 2) (.static Lib.Math.max.name) && mk_w (mk_p p 3) (.initialized "java/lang/Math") && mk_w (mk_p p 4) (.code Lib.Math.max.name Lib.Math.max.code 2 (some .int)) else if k = 998 then mk_w (mk_p p 0) (.methodLink own idx Lib.Math.min.name) && mk_w (mk_p p 2) (.static Lib.Math.min.name) && mk_w (mk_p p 3) (.initialized "java/lang/Math") && mk_w (mk_p p 4) (.code Lib.Math.min.name Lib.Math.min.code 2 (some .int)) else match mc_P k with
    | some (y, _, _, _, _, _) => mk_m own idx p y && mk_w (mk_p p 2) (.static y) && mk_w (mk_p p 3) (.initialized y.cls) && mk_y y && mk_par y na
    | none => false)
  | _ => true
theorem mk_y_ok {y : MethodName} (h : mk_y y = true) : y.cls ≠ "java/lang/invoke/MethodHandle" ∧ y.cls ≠ "java/lang/invoke/VarHandle" := by
  unfold mk_y at h
  simpa only [Bool.and_eq_true, decide_eq_true_eq] using h
set_option maxHeartbeats 4000000 in
theorem mk_J_ok {own : String} {i : mm_I} (h : mk_J own i = true) : mm_okJ mc_cl mc_tb mc_nws mc_lay mc_fty mc_nf 1 mc_P own i := by
  obtain ⟨ins, n, a, b, v, p⟩ := i
  unfold mk_J at h
  cases ins with
  | new idx =>
    simp only [Bool.and_eq_true, beq_iff_eq] at h
    obtain ⟨h1, h2⟩ := h
    refine ⟨h1, ?_⟩
    split at h2
    · rename_i q hq
      simp only [Bool.and_eq_true, decide_eq_true_eq, List.all_eq_true, List.mem_range] at h2
      exact ⟨q, hq, mk_w_in h2.1.1.1.1, mk_w_in h2.1.1.1.2, mk_w_in h2.1.1.2, h2.1.2, h2.2⟩
    · cases h2
  | newarray t => exact mk_w_in h
  | anewarray idx => exact mk_w_in h
  | multianewarray idx dd =>
    simp only [Bool.and_eq_true] at h
    exact ⟨mk_w_in h.1, mk_w_in h.2⟩
  | aastore => exact ⟨_, rfl, rfl⟩
  | invokevirtual idx =>
    simp only [Bool.and_eq_true, beq_iff_eq] at h
    obtain ⟨h1, h2⟩ := h
    refine ⟨h1, ?_⟩
    split at h2
    · rename_i y b9 mL rt ci co hP
      simp only [Bool.and_eq_true, decide_eq_true_eq] at h2
      obtain ⟨⟨⟨⟨⟨⟨⟨g1, g2⟩, g3⟩, g4⟩, g5⟩, g6⟩, g7⟩, g8⟩ := h2
      refine ⟨y, b9, mL, rt, ci, co, hP, mk_w_in g1, mk_w_in g2, mk_w_in g3, mk_w_in g4, (mk_y_ok g5).1, (mk_y_ok g5).2, g6, of_decide_eq_true g7, ?_⟩
      split at g8
      · rename_i h99
        exact Or.inl ⟨h99, of_decide_eq_true g8⟩
      · rename_i h99
        split at g8
        · rename_i q hq
          exact Or.inr ⟨q, hq, of_decide_eq_true g8, h99⟩
        · cases g8
    · cases h2
  | invokespecial idx =>
    simp only [Bool.and_eq_true, beq_iff_eq] at h
    obtain ⟨h1, h2⟩ := h
    refine ⟨h1, ?_⟩
    split at h2
    · rename_i h999
      simp only [Bool.and_eq_true] at h2
      exact Or.inl ⟨h999, mk_w_in h2.1.1, mk_w_in h2.1.2, mk_w_in h2.2⟩
    · rename_i h999
      split at h2
      · rename_i y b9 mL rt ci co hP
        simp only [Bool.and_eq_true, decide_eq_true_eq] at h2
        obtain ⟨⟨⟨⟨⟨⟨⟨g0, g1⟩, g2⟩, g3⟩, g4⟩, g5⟩, g6⟩, g7⟩ := h2
        subst g0
        exact Or.inr ⟨h999, y, b9, mL, ci, co, hP, mk_m_in g1, mk_w_in g2, mk_w_in g3, g4, (mk_y_ok g5).1, (mk_y_ok g5).2, g6, of_decide_eq_true g7⟩
      · cases h2
  | invokestatic idx =>
    simp only [Bool.and_eq_true, beq_iff_eq] at h
    obtain ⟨h1, h2⟩ := h
    refine ⟨h1, ?_⟩
    split at h2
    · rename_i hk7
      simp only [Bool.and_eq_true] at h2
      exact Or.inl ⟨hk7, mk_w_in h2.1.1.1, mk_w_in h2.1.1.2, mk_w_in h2.1.2, mk_w_in h2.2⟩
    rename_i hk7
    split at h2
    · rename_i hk8
      simp only [Bool.and_eq_true] at h2
      exact Or.inr (Or.inl ⟨hk8, mk_w_in h2.1.1.1, mk_w_in h2.1.1.2, mk_w_in h2.1.2, mk_w_in h2.2⟩)
    rename_i hk8
    split at h2
    · rename_i y b9 mL rt ci co hP
      simp only [Bool.and_eq_true, decide_eq_true_eq] at h2
      obtain ⟨⟨⟨⟨g1, g2⟩, g3⟩, g5⟩, g7⟩ := h2
      refine Or.inr (Or.inr ⟨fun z => z.elim hk7 hk8, ?_⟩)
      exact ⟨y, b9, mL, rt, ci, co, hP, mk_m_in g1, mk_w_in g2, mk_w_in g3, (mk_y_ok g5).1, (mk_y_ok g5).2, of_decide_eq_true g7⟩
    · cases h2
  | _ => trivial
/-- a method's table, entry by entry -/
def mk_T (own nm : String) (cc : ByteArray) (l : List (Nat × mm_I)) : Bool := l.all (fun q => mk_I own nm cc q.1 q.2 && mk_J own q.2)
theorem mk_lookup {l : List (Nat × mm_I)} {pc : Nat} {i : mm_I} (h : l.lookup pc = some i) : (pc, i) ∈ l := by
  induction l with
  | nil => simp at h
  | cons q l ih =>
    obtain ⟨k, v⟩ := q
    rw [List.lookup_cons] at h
    split at h
    · rename_i hk
      have : pc = k := by simpa using hk
      subst this
      cases h
      exact List.mem_cons_self
    · exact List.mem_cons_of_mem _ (ih h)
theorem mk_T_ok {own nm : String} {cc : ByteArray} {l : List (Nat × mm_I)} (h : mk_T own nm cc l = true) : ∀ (pc : Nat) (i : mm_I), mc_co l pc = some i → mm_okI mc_cl mc_tb mc_sf mc_sts mc_sks mc_nws own nm cc pc i ∧ mm_okJ mc_cl mc_tb mc_nws mc_lay mc_fty mc_nf 1 mc_P own i := by
  intro pc i hi
  have h1 := List.all_eq_true.mp h _ (mk_lookup hi)
  rw [Bool.and_eq_true] at h1
  exact ⟨mk_I_ok h1.1, mk_J_ok h1.2⟩
/-- a whole method -/
def mk_Mt (q : mm_Mt) : Prop := plainName q.1.cls = true ∧ q.2.2.1 ≤ 41 ∧ Cond.code q.1 q.2.1 q.2.2.1 q.2.2.2.1 ∈ mc_tb ∧ ∀ (pc : Nat) (i : mm_I), q.2.2.2.2.2 pc = some i → mm_okI mc_cl mc_tb mc_sf mc_sts mc_sks mc_nws q.1.cls q.1.name q.2.1 pc i ∧ mm_okJ mc_cl mc_tb mc_nws mc_lay mc_fty mc_nf 1 mc_P q.1.cls i
theorem mk_Mt_ok {y : MethodName} {b : ByteArray} {mL : Nat} {rt : Option FieldType} {ci j : Nat} {l : List (Nat × mm_I)} (h1 : plainName y.cls = true) (h2 : decide (mL ≤ 41) = true) (h3 : mk_w j (.code y b mL rt) = true) (h4 : mk_T y.cls y.name b l = true) : mk_Mt (y, b, mL, rt, ci, mc_co l) := ⟨h1, of_decide_eq_true h2, mk_w_in h3, mk_T_ok h4⟩
end
section
set_option maxRecDepth 100000 in
theorem mq_0 : mk_Mt (⟨"java/lang/Integer", "bitCount", "(I)I"⟩, prog_11_method_49_code, 1, (Option.some FieldType.int), 98, mc_co mp_0) := mk_Mt_ok (j := 679) (by decide +kernel) (by decide +kernel) (by decide +kernel) (by decide +kernel)
set_option maxRecDepth 100000 in
theorem mq_1 : mk_Mt (⟨"java/lang/String", "isEmpty", "()Z"⟩, prog_13_method_55_code, 1, (Option.some FieldType.boolean), 99, mc_co mp_1) := mk_Mt_ok (j := 294) (by decide +kernel) (by decide +kernel) (by decide +kernel) (by decide +kernel)
set_option maxRecDepth 100000 in
theorem mq_2 : mk_Mt (⟨"java/lang/String", "length", "()I"⟩, prog_13_method_54_code, 1, (Option.some FieldType.int), 99, mc_co mp_2) := mk_Mt_ok (j := 298) (by decide +kernel) (by decide +kernel) (by decide +kernel) (by decide +kernel)
set_option maxRecDepth 100000 in
theorem mq_3 : mk_Mt (⟨"java/lang/String", "coder", "()B"⟩, prog_13_method_152_code, 1, (Option.some FieldType.byte), 99, mc_co mp_3) := mk_Mt_ok (j := 302) (by decide +kernel) (by decide +kernel) (by decide +kernel) (by decide +kernel)
set_option maxRecDepth 100000 in
theorem mq_4 : mk_Mt (⟨"java/lang/String", "charAt", "(I)C"⟩, prog_13_method_56_code, 2, (Option.some FieldType.char), 99, mc_co mp_4) := mk_Mt_ok (j := 308) (by decide +kernel) (by decide +kernel) (by decide +kernel) (by decide +kernel)
set_option maxRecDepth 100000 in
theorem mq_5 : mk_Mt (⟨"java/lang/String", "isLatin1", "()Z"⟩, prog_13_method_154_code, 1, (Option.some FieldType.boolean), 99, mc_co mp_5) := mk_Mt_ok (j := 312) (by decide +kernel) (by decide +kernel) (by decide +kernel) (by decide +kernel)
set_option maxRecDepth 100000 in
theorem mq_6 : mk_Mt (⟨"java/lang/String", "checkIndex", "(II)V"⟩, prog_13_method_155_code, 2, (Option.none : Option FieldType), 99, mc_co mp_6) := mk_Mt_ok (j := 318) (by decide +kernel) (by decide +kernel) (by decide +kernel) (by decide +kernel)
set_option maxRecDepth 100000 in
theorem mq_7 : mk_Mt (⟨"java/lang/String", "indexOf", "(I)I"⟩, prog_13_method_79_code, 2, (Option.some FieldType.int), 99, mc_co mp_7) := mk_Mt_ok (j := 350) (by decide +kernel) (by decide +kernel) (by decide +kernel) (by decide +kernel)
set_option maxRecDepth 100000 in
theorem mq_8 : mk_Mt (⟨"java/lang/String", "indexOf", "(II)I"⟩, prog_13_method_80_code, 3, (Option.some FieldType.int), 99, mc_co mp_8) := mk_Mt_ok (j := 354) (by decide +kernel) (by decide +kernel) (by decide +kernel) (by decide +kernel)
set_option maxRecDepth 100000 in
theorem mq_9 : mk_Mt (⟨"java/lang/StringLatin1", "charAt", "([BI)C"⟩, prog_14_method_2_code, 2, (Option.some FieldType.char), 98, mc_co mp_9) := mk_Mt_ok (j := 315) (by decide +kernel) (by decide +kernel) (by decide +kernel) (by decide +kernel)
set_option maxRecDepth 100000 in
theorem mq_10 : mk_Mt (⟨"java/lang/StringLatin1", "indexOf", "([BIII)I"⟩, prog_14_method_22_code, 4, (Option.some FieldType.int), 98, mc_co mp_10) := mk_Mt_ok (j := 358) (by decide +kernel) (by decide +kernel) (by decide +kernel) (by decide +kernel)
set_option maxRecDepth 100000 in
theorem mq_11 : mk_Mt (⟨"java/lang/StringLatin1", "canEncode", "(I)Z"⟩, prog_14_method_4_code, 1, (Option.some FieldType.boolean), 98, mc_co mp_11) := mk_Mt_ok (j := 361) (by decide +kernel) (by decide +kernel) (by decide +kernel) (by decide +kernel)
set_option maxRecDepth 100000 in
theorem mq_12 : mk_Mt (⟨"java/lang/StringLatin1", "indexOfChar", "([BIII)I"⟩, prog_14_method_23_code, 6, (Option.some FieldType.int), 98, mc_co mp_12) := mk_Mt_ok (j := 370) (by decide +kernel) (by decide +kernel) (by decide +kernel) (by decide +kernel)
set_option maxRecDepth 100000 in
theorem mq_13 : mk_Mt (⟨"jdk/internal/util/Preconditions", "checkIndex", "(IILjava/util/function/BiFunction;)I"⟩, prog_16_method_11_code, 3, (Option.some FieldType.int), 98, mc_co mp_13) := mk_Mt_ok (j := 323) (by decide +kernel) (by decide +kernel) (by decide +kernel) (by decide +kernel)
set_option maxRecDepth 100000 in
theorem mq_14 : mk_Mt (⟨"SmallerInTheShop$Draws", "<init>", "()V"⟩, prog_2_method_1_code, 1, (Option.none : Option FieldType), 0, mc_co mp_14) := mk_Mt_ok (j := 212) (by decide +kernel) (by decide +kernel) (by decide +kernel) (by decide +kernel)
set_option maxRecDepth 100000 in
theorem mq_15 : mk_Mt (⟨"SmallerInTheShop$Draws", "drawBelow", "(I)I"⟩, prog_2_method_2_code, 2, (Option.some FieldType.int), 0, mc_co mp_15) := mk_Mt_ok (j := 849) (by decide +kernel) (by decide +kernel) (by decide +kernel) (by decide +kernel)
set_option maxRecDepth 100000 in
theorem mq_16 : mk_Mt (⟨"SmallerInTheShop$Kinds", "effort", "(IIII)I"⟩, prog_3_method_2_code, 4, (Option.some FieldType.int), 98, mc_co mp_16) := mk_Mt_ok (j := 512) (by decide +kernel) (by decide +kernel) (by decide +kernel) (by decide +kernel)
set_option maxRecDepth 100000 in
theorem mq_17 : mk_Mt (⟨"SmallerInTheShop$Kinds", "effortAgainst", "(III)I"⟩, prog_3_method_4_code, 3, (Option.some FieldType.int), 98, mc_co mp_17) := mk_Mt_ok (j := 515) (by decide +kernel) (by decide +kernel) (by decide +kernel) (by decide +kernel)
set_option maxRecDepth 100000 in
theorem mq_18 : mk_Mt (⟨"SmallerInTheShop$Kinds", "sprungSide", "(II)I"⟩, prog_3_method_6_code, 2, (Option.some FieldType.int), 98, mc_co mp_18) := mk_Mt_ok (j := 518) (by decide +kernel) (by decide +kernel) (by decide +kernel) (by decide +kernel)
set_option maxRecDepth 100000 in
theorem mq_19 : mk_Mt (⟨"SmallerInTheShop$Kinds", "wear", "(III)I"⟩, prog_3_method_3_code, 3, (Option.some FieldType.int), 98, mc_co mp_19) := mk_Mt_ok (j := 533) (by decide +kernel) (by decide +kernel) (by decide +kernel) (by decide +kernel)
set_option maxRecDepth 100000 in
theorem mq_20 : mk_Mt (⟨"SmallerInTheShop$Kinds", "wearAgainst", "(II)I"⟩, prog_3_method_5_code, 2, (Option.some FieldType.int), 98, mc_co mp_20) := mk_Mt_ok (j := 536) (by decide +kernel) (by decide +kernel) (by decide +kernel) (by decide +kernel)
set_option maxRecDepth 100000 in
theorem mq_21 : mk_Mt (⟨"SmallerInTheShop$Layout", "<init>", "()V"⟩, prog_4_method_1_code, 2, (Option.none : Option FieldType), 1, mc_co mp_21) := mk_Mt_ok (j := 89) (by decide +kernel) (by decide +kernel) (by decide +kernel) (by decide +kernel)
set_option maxRecDepth 100000 in
theorem mq_22 : mk_Mt (⟨"SmallerInTheShop$Layout", "copyLayout", "(LSmallerInTheShop$Layout;)V"⟩, prog_4_method_2_code, 3, (Option.none : Option FieldType), 1, mc_co mp_22) := mk_Mt_ok (j := 426) (by decide +kernel) (by decide +kernel) (by decide +kernel) (by decide +kernel)
set_option maxRecDepth 100000 in
theorem mq_23 : mk_Mt (⟨"SmallerInTheShop$Layout", "hasLine", "(I)Z"⟩, prog_4_method_3_code, 2, (Option.some FieldType.boolean), 1, mc_co mp_23) := mk_Mt_ok (j := 462) (by decide +kernel) (by decide +kernel) (by decide +kernel) (by decide +kernel)
set_option maxRecDepth 100000 in
theorem mq_24 : mk_Mt (⟨"SmallerInTheShop$Layout", "becomeFolded", "(LSmallerInTheShop$Layout;II)V"⟩, prog_4_method_15_code, 7, (Option.none : Option FieldType), 1, mc_co mp_24) := mk_Mt_ok (j := 474) (by decide +kernel) (by decide +kernel) (by decide +kernel) (by decide +kernel)
set_option maxRecDepth 100000 in
theorem mq_25 : mk_Mt (⟨"SmallerInTheShop$Layout", "movePanels", "(LSmallerInTheShop$Layout;ZIZZ)V"⟩, prog_4_method_16_code, 15, (Option.none : Option FieldType), 1, mc_co mp_25) := mk_Mt_ok (j := 478) (by decide +kernel) (by decide +kernel) (by decide +kernel) (by decide +kernel)
set_option maxRecDepth 100000 in
theorem mq_26 : mk_Mt (⟨"SmallerInTheShop$Layout", "heapAt", "(ZII)I"⟩, prog_4_method_20_code, 4, (Option.some FieldType.int), 1, mc_co mp_26) := mk_Mt_ok (j := 484) (by decide +kernel) (by decide +kernel) (by decide +kernel) (by decide +kernel)
set_option maxRecDepth 100000 in
theorem mq_27 : mk_Mt (⟨"SmallerInTheShop$Layout", "countHeaps", "()V"⟩, prog_4_method_19_code, 2, (Option.none : Option FieldType), 1, mc_co mp_27) := mk_Mt_ok (j := 489) (by decide +kernel) (by decide +kernel) (by decide +kernel) (by decide +kernel)
set_option maxRecDepth 100000 in
theorem mq_28 : mk_Mt (⟨"SmallerInTheShop$Layout", "cellOf", "(I)I"⟩, prog_4_method_21_code, 2, (Option.some FieldType.int), 1, mc_co mp_28) := mk_Mt_ok (j := 493) (by decide +kernel) (by decide +kernel) (by decide +kernel) (by decide +kernel)
set_option maxRecDepth 100000 in
theorem mq_29 : mk_Mt (⟨"SmallerInTheShop$Layout", "foldCreases", "(LSmallerInTheShop$Layout;ZIZ)V"⟩, prog_4_method_17_code, 7, (Option.none : Option FieldType), 1, mc_co mp_29) := mk_Mt_ok (j := 497) (by decide +kernel) (by decide +kernel) (by decide +kernel) (by decide +kernel)
set_option maxRecDepth 100000 in
theorem mq_30 : mk_Mt (⟨"SmallerInTheShop$Layout", "liesAcross", "(IZI)Z"⟩, prog_4_method_18_code, 8, (Option.some FieldType.boolean), 1, mc_co mp_30) := mk_Mt_ok (j := 501) (by decide +kernel) (by decide +kernel) (by decide +kernel) (by decide +kernel)
set_option maxRecDepth 100000 in
theorem mq_31 : mk_Mt (⟨"SmallerInTheShop$Layout", "isRead", "(I)Z"⟩, prog_4_method_9_code, 2, (Option.some FieldType.boolean), 1, mc_co mp_31) := mk_Mt_ok (j := 565) (by decide +kernel) (by decide +kernel) (by decide +kernel) (by decide +kernel)
set_option maxRecDepth 100000 in
theorem mq_32 : mk_Mt (⟨"SmallerInTheShop$Layout", "countAbove", "(I)I"⟩, prog_4_method_8_code, 2, (Option.some FieldType.int), 1, mc_co mp_32) := mk_Mt_ok (j := 569) (by decide +kernel) (by decide +kernel) (by decide +kernel) (by decide +kernel)
set_option maxRecDepth 100000 in
theorem mq_33 : mk_Mt (⟨"SmallerInTheShop$Layout", "liesAbove", "(II)Z"⟩, prog_4_method_14_code, 3, (Option.some FieldType.boolean), 1, mc_co mp_33) := mk_Mt_ok (j := 617) (by decide +kernel) (by decide +kernel) (by decide +kernel) (by decide +kernel)
set_option maxRecDepth 100000 in
theorem mq_34 : mk_Mt (⟨"SmallerInTheShop$Layout", "thickness", "()I"⟩, prog_4_method_13_code, 3, (Option.some FieldType.int), 1, mc_co mp_34) := mk_Mt_ok (j := 625) (by decide +kernel) (by decide +kernel) (by decide +kernel) (by decide +kernel)
set_option maxRecDepth 100000 in
theorem mq_35 : mk_Mt (⟨"SmallerInTheShop$Layout", "readPanels", "()I"⟩, prog_4_method_11_code, 3, (Option.some FieldType.int), 1, mc_co mp_35) := mk_Mt_ok (j := 629) (by decide +kernel) (by decide +kernel) (by decide +kernel) (by decide +kernel)
set_option maxRecDepth 100000 in
theorem mq_36 : mk_Mt (⟨"SmallerInTheShop$Layout", "showsBack", "(I)Z"⟩, prog_4_method_10_code, 2, (Option.some FieldType.boolean), 1, mc_co mp_36) := mk_Mt_ok (j := 634) (by decide +kernel) (by decide +kernel) (by decide +kernel) (by decide +kernel)
set_option maxRecDepth 100000 in
theorem mq_37 : mk_Mt (⟨"SmallerInTheShop$Layout", "foldedCreases", "()I"⟩, prog_4_method_12_code, 3, (Option.some FieldType.int), 1, mc_co mp_37) := mk_Mt_ok (j := 638) (by decide +kernel) (by decide +kernel) (by decide +kernel) (by decide +kernel)
set_option maxRecDepth 100000 in
theorem mq_38 : mk_Mt (⟨"SmallerInTheShop$Layout", "cells", "()I"⟩, prog_4_method_6_code, 1, (Option.some FieldType.int), 1, mc_co mp_38) := mk_Mt_ok (j := 662) (by decide +kernel) (by decide +kernel) (by decide +kernel) (by decide +kernel)
set_option maxRecDepth 100000 in
theorem mq_39 : mk_Mt (⟨"SmallerInTheShop$Layout", "isShut", "()Z"⟩, prog_4_method_7_code, 1, (Option.some FieldType.boolean), 1, mc_co mp_39) := mk_Mt_ok (j := 667) (by decide +kernel) (by decide +kernel) (by decide +kernel) (by decide +kernel)
theorem mr_0 : ∀ q ∈ mc_P0, mk_Mt q := List.forall_mem_cons.mpr ⟨mq_0, List.forall_mem_cons.mpr ⟨mq_1, List.forall_mem_cons.mpr ⟨mq_2, List.forall_mem_cons.mpr ⟨mq_3, List.forall_mem_cons.mpr ⟨mq_4, List.forall_mem_cons.mpr ⟨mq_5, List.forall_mem_cons.mpr ⟨mq_6, List.forall_mem_cons.mpr ⟨mq_7, List.forall_mem_cons.mpr ⟨mq_8, List.forall_mem_cons.mpr ⟨mq_9, List.forall_mem_cons.mpr ⟨mq_10, List.forall_mem_cons.mpr ⟨mq_11, List.forall_mem_cons.mpr ⟨mq_12, List.forall_mem_cons.mpr ⟨mq_13, List.forall_mem_cons.mpr ⟨mq_14, List.forall_mem_cons.mpr ⟨mq_15, List.forall_mem_cons.mpr ⟨mq_16, List.forall_mem_cons.mpr ⟨mq_17, List.forall_mem_cons.mpr ⟨mq_18, List.forall_mem_cons.mpr ⟨mq_19, List.forall_mem_cons.mpr ⟨mq_20, List.forall_mem_cons.mpr ⟨mq_21, List.forall_mem_cons.mpr ⟨mq_22, List.forall_mem_cons.mpr ⟨mq_23, List.forall_mem_cons.mpr ⟨mq_24, List.forall_mem_cons.mpr ⟨mq_25, List.forall_mem_cons.mpr ⟨mq_26, List.forall_mem_cons.mpr ⟨mq_27, List.forall_mem_cons.mpr ⟨mq_28, List.forall_mem_cons.mpr ⟨mq_29, List.forall_mem_cons.mpr ⟨mq_30, List.forall_mem_cons.mpr ⟨mq_31, List.forall_mem_cons.mpr ⟨mq_32, List.forall_mem_cons.mpr ⟨mq_33, List.forall_mem_cons.mpr ⟨mq_34, List.forall_mem_cons.mpr ⟨mq_35, List.forall_mem_cons.mpr ⟨mq_36, List.forall_mem_cons.mpr ⟨mq_37, List.forall_mem_cons.mpr ⟨mq_38, List.forall_mem_cons.mpr ⟨mq_39, fun _ h => absurd h List.not_mem_nil⟩⟩⟩⟩⟩⟩⟩⟩⟩⟩⟩⟩⟩⟩⟩⟩⟩⟩⟩⟩⟩⟩⟩⟩⟩⟩⟩⟩⟩⟩⟩⟩⟩⟩⟩⟩⟩⟩⟩⟩
end
section
set_option maxRecDepth 100000 in
theorem mq_40 : mk_Mt (⟨"SmallerInTheShop$Layout", "countLines", "()I"⟩, prog_4_method_4_code, 1, (Option.some FieldType.int), 1, mc_co mp_40) := mk_Mt_ok (j := 845) (by decide +kernel) (by decide +kernel) (by decide +kernel) (by decide +kernel)
set_option maxRecDepth 100000 in
theorem mq_41 : mk_Mt (⟨"SmallerInTheShop$Layout", "lineOfNumber", "(I)I"⟩, prog_4_method_5_code, 2, (Option.some FieldType.int), 1, mc_co mp_41) := mk_Mt_ok (j := 856) (by decide +kernel) (by decide +kernel) (by decide +kernel) (by decide +kernel)
set_option maxRecDepth 100000 in
theorem mq_42 : mk_Mt (⟨"SmallerInTheShop$Letters", "<init>", "()V"⟩, prog_5_method_1_code, 1, (Option.none : Option FieldType), 2, mc_co mp_42) := mk_Mt_ok (j := 198) (by decide +kernel) (by decide +kernel) (by decide +kernel) (by decide +kernel)
set_option maxRecDepth 100000 in
theorem mq_43 : mk_Mt (⟨"SmallerInTheShop$Letters", "isFull", "()Z"⟩, prog_5_method_2_code, 1, (Option.some FieldType.boolean), 2, mc_co mp_43) := mk_Mt_ok (j := 265) (by decide +kernel) (by decide +kernel) (by decide +kernel) (by decide +kernel)
set_option maxRecDepth 100000 in
theorem mq_44 : mk_Mt (⟨"SmallerInTheShop$Letters", "addLetter", "(I)I"⟩, prog_5_method_3_code, 2, (Option.some FieldType.int), 2, mc_co mp_44) := mk_Mt_ok (j := 269) (by decide +kernel) (by decide +kernel) (by decide +kernel) (by decide +kernel)
set_option maxRecDepth 100000 in
theorem mq_45 : mk_Mt (⟨"SmallerInTheShop$Letters", "firstWrongPlace", "()I"⟩, prog_5_method_9_code, 5, (Option.some FieldType.int), 2, mc_co mp_45) := mk_Mt_ok (j := 277) (by decide +kernel) (by decide +kernel) (by decide +kernel) (by decide +kernel)
set_option maxRecDepth 100000 in
theorem mq_46 : mk_Mt (⟨"SmallerInTheShop$Letters", "signAt", "(I)I"⟩, prog_5_method_5_code, 2, (Option.some FieldType.int), 2, mc_co mp_46) := mk_Mt_ok (j := 281) (by decide +kernel) (by decide +kernel) (by decide +kernel) (by decide +kernel)
set_option maxRecDepth 100000 in
theorem mq_47 : mk_Mt (⟨"SmallerInTheShop$Letters", "shapeBehind", "(I)Ljava/lang/String;"⟩, prog_5_method_10_code, 1, (Option.some (FieldType.object "java/lang/String")), 2, mc_co mp_47) := mk_Mt_ok (j := 284) (by decide +kernel) (by decide +kernel) (by decide +kernel) (by decide +kernel)
set_option maxRecDepth 100000 in
theorem mq_48 : mk_Mt (⟨"SmallerInTheShop$Letters", "fits", "(IC)Z"⟩, prog_5_method_11_code, 2, (Option.some FieldType.boolean), 2, mc_co mp_48) := mk_Mt_ok (j := 345) (by decide +kernel) (by decide +kernel) (by decide +kernel) (by decide +kernel)
set_option maxRecDepth 100000 in
theorem mq_49 : mk_Mt (⟨"SmallerInTheShop$Letters", "lengthBehind", "(I)I"⟩, prog_5_method_8_code, 2, (Option.some FieldType.int), 2, mc_co mp_49) := mk_Mt_ok (j := 410) (by decide +kernel) (by decide +kernel) (by decide +kernel) (by decide +kernel)
set_option maxRecDepth 100000 in
theorem mq_50 : mk_Mt (⟨"SmallerInTheShop$Letters", "digitAt", "(I)I"⟩, prog_5_method_6_code, 2, (Option.some FieldType.int), 2, mc_co mp_50) := mk_Mt_ok (j := 434) (by decide +kernel) (by decide +kernel) (by decide +kernel) (by decide +kernel)
set_option maxRecDepth 100000 in
theorem mq_51 : mk_Mt (⟨"SmallerInTheShop$Letters", "kindAt", "(I)I"⟩, prog_5_method_7_code, 2, (Option.some FieldType.int), 2, mc_co mp_51) := mk_Mt_ok (j := 439) (by decide +kernel) (by decide +kernel) (by decide +kernel) (by decide +kernel)
set_option maxRecDepth 100000 in
theorem mq_52 : mk_Mt (⟨"SmallerInTheShop$Letters", "forget", "()V"⟩, prog_5_method_4_code, 1, (Option.none : Option FieldType), 2, mc_co mp_52) := mk_Mt_ok (j := 550) (by decide +kernel) (by decide +kernel) (by decide +kernel) (by decide +kernel)
set_option maxRecDepth 100000 in
theorem mq_53 : mk_Mt (⟨"SmallerInTheShop$Search", "<init>", "()V"⟩, prog_6_method_1_code, 1, (Option.none : Option FieldType), 3, mc_co mp_53) := mk_Mt_ok (j := 163) (by decide +kernel) (by decide +kernel) (by decide +kernel) (by decide +kernel)
set_option maxRecDepth 100000 in
theorem mq_54 : mk_Mt (⟨"SmallerInTheShop$Search", "begin", "(I)V"⟩, prog_6_method_2_code, 3, (Option.none : Option FieldType), 3, mc_co mp_54) := mk_Mt_ok (j := 646) (by decide +kernel) (by decide +kernel) (by decide +kernel) (by decide +kernel)
set_option maxRecDepth 100000 in
theorem mq_55 : mk_Mt (⟨"SmallerInTheShop$Search", "run", "(LSmallerInTheShop$Sheet;)V"⟩, prog_6_method_3_code, 2, (Option.none : Option FieldType), 3, mc_co mp_55) := mk_Mt_ok (j := 650) (by decide +kernel) (by decide +kernel) (by decide +kernel) (by decide +kernel)
set_option maxRecDepth 100000 in
theorem mq_56 : mk_Mt (⟨"SmallerInTheShop$Search", "explore", "(LSmallerInTheShop$Sheet;III)V"⟩, prog_6_method_7_code, 10, (Option.none : Option FieldType), 3, mc_co mp_56) := mk_Mt_ok (j := 654) (by decide +kernel) (by decide +kernel) (by decide +kernel) (by decide +kernel)
set_option maxRecDepth 100000 in
theorem mq_57 : mk_Mt (⟨"SmallerInTheShop$Search", "isReached", "(LSmallerInTheShop$Sheet;LSmallerInTheShop$Layout;)Z"⟩, prog_6_method_10_code, 3, (Option.some FieldType.boolean), 3, mc_co mp_57) := mk_Mt_ok (j := 658) (by decide +kernel) (by decide +kernel) (by decide +kernel) (by decide +kernel)
set_option maxRecDepth 100000 in
theorem mq_58 : mk_Mt (⟨"SmallerInTheShop$Search", "liesAsWanted", "(LSmallerInTheShop$Layout;)Z"⟩, prog_6_method_11_code, 3, (Option.some FieldType.boolean), 3, mc_co mp_58) := mk_Mt_ok (j := 671) (by decide +kernel) (by decide +kernel) (by decide +kernel) (by decide +kernel)
set_option maxRecDepth 100000 in
theorem mq_59 : mk_Mt (⟨"SmallerInTheShop$Search", "costOf", "(LSmallerInTheShop$Layout;II)I"⟩, prog_6_method_12_code, 4, (Option.some FieldType.int), 3, mc_co mp_59) := mk_Mt_ok (j := 676) (by decide +kernel) (by decide +kernel) (by decide +kernel) (by decide +kernel)
set_option maxRecDepth 100000 in
theorem mq_60 : mk_Mt (⟨"SmallerInTheShop$Search", "offer", "(II)V"⟩, prog_6_method_13_code, 3, (Option.none : Option FieldType), 3, mc_co mp_60) := mk_Mt_ok (j := 686) (by decide +kernel) (by decide +kernel) (by decide +kernel) (by decide +kernel)
set_option maxRecDepth 100000 in
theorem mq_61 : mk_Mt (⟨"SmallerInTheShop$Search", "isHopeless", "(I)Z"⟩, prog_6_method_9_code, 3, (Option.some FieldType.boolean), 3, mc_co mp_61) := mk_Mt_ok (j := 690) (by decide +kernel) (by decide +kernel) (by decide +kernel) (by decide +kernel)
set_option maxRecDepth 100000 in
theorem mq_62 : mk_Mt (⟨"SmallerInTheShop$Search", "waysToTry", "(LSmallerInTheShop$Layout;)I"⟩, prog_6_method_8_code, 2, (Option.some FieldType.int), 3, mc_co mp_62) := mk_Mt_ok (j := 694) (by decide +kernel) (by decide +kernel) (by decide +kernel) (by decide +kernel)
set_option maxRecDepth 100000 in
theorem mq_63 : mk_Mt (⟨"SmallerInTheShop$Search", "wayFound", "()I"⟩, prog_6_method_4_code, 1, (Option.some FieldType.int), 3, mc_co mp_63) := mk_Mt_ok (j := 700) (by decide +kernel) (by decide +kernel) (by decide +kernel) (by decide +kernel)
set_option maxRecDepth 100000 in
theorem mq_64 : mk_Mt (⟨"SmallerInTheShop$Search", "costFound", "()I"⟩, prog_6_method_5_code, 1, (Option.some FieldType.int), 3, mc_co mp_64) := mk_Mt_ok (j := 704) (by decide +kernel) (by decide +kernel) (by decide +kernel) (by decide +kernel)
set_option maxRecDepth 100000 in
theorem mq_65 : mk_Mt (⟨"SmallerInTheShop$Search", "waysWith", "(I)I"⟩, prog_6_method_6_code, 2, (Option.some FieldType.int), 3, mc_co mp_65) := mk_Mt_ok (j := 712) (by decide +kernel) (by decide +kernel) (by decide +kernel) (by decide +kernel)
set_option maxRecDepth 100000 in
theorem mq_66 : mk_Mt (⟨"SmallerInTheShop$Sheet", "<init>", "()V"⟩, prog_7_method_1_code, 2, (Option.none : Option FieldType), 4, mc_co mp_66) := mk_Mt_ok (j := 82) (by decide +kernel) (by decide +kernel) (by decide +kernel) (by decide +kernel)
set_option maxRecDepth 100000 in
theorem mq_67 : mk_Mt (⟨"SmallerInTheShop$Sheet", "copyFrom", "(LSmallerInTheShop$Sheet;)V"⟩, prog_7_method_2_code, 3, (Option.none : Option FieldType), 4, mc_co mp_67) := mk_Mt_ok (j := 418) (by decide +kernel) (by decide +kernel) (by decide +kernel) (by decide +kernel)
set_option maxRecDepth 100000 in
theorem mq_68 : mk_Mt (⟨"SmallerInTheShop$Sheet", "copyCreasesFrom", "(LSmallerInTheShop$Sheet;)V"⟩, prog_7_method_3_code, 3, (Option.none : Option FieldType), 4, mc_co mp_68) := mk_Mt_ok (j := 422) (by decide +kernel) (by decide +kernel) (by decide +kernel) (by decide +kernel)
set_option maxRecDepth 100000 in
theorem mq_69 : mk_Mt (⟨"SmallerInTheShop$Sheet", "canFold", "(II)Z"⟩, prog_7_method_5_code, 3, (Option.some FieldType.boolean), 4, mc_co mp_69) := mk_Mt_ok (j := 458) (by decide +kernel) (by decide +kernel) (by decide +kernel) (by decide +kernel)
set_option maxRecDepth 100000 in
theorem mq_70 : mk_Mt (⟨"SmallerInTheShop$Sheet", "makeFold", "(II)I"⟩, prog_7_method_7_code, 4, (Option.some FieldType.int), 4, mc_co mp_70) := mk_Mt_ok (j := 466) (by decide +kernel) (by decide +kernel) (by decide +kernel) (by decide +kernel)
set_option maxRecDepth 100000 in
theorem mq_71 : mk_Mt (⟨"SmallerInTheShop$Sheet", "tryFold", "(III)I"⟩, prog_7_method_6_code, 7, (Option.some FieldType.int), 4, mc_co mp_71) := mk_Mt_ok (j := 470) (by decide +kernel) (by decide +kernel) (by decide +kernel) (by decide +kernel)
set_option maxRecDepth 100000 in
theorem mq_72 : mk_Mt (⟨"SmallerInTheShop$Sheet", "effortOn", "(II)I"⟩, prog_7_method_9_code, 3, (Option.some FieldType.int), 4, mc_co mp_72) := mk_Mt_ok (j := 509) (by decide +kernel) (by decide +kernel) (by decide +kernel) (by decide +kernel)
set_option maxRecDepth 100000 in
theorem mq_73 : mk_Mt (⟨"SmallerInTheShop$Sheet", "top", "()LSmallerInTheShop$Layout;"⟩, prog_7_method_4_code, 1, (Option.some (FieldType.object "SmallerInTheShop$Layout")), 4, mc_co mp_73) := mk_Mt_ok (j := 522) (by decide +kernel) (by decide +kernel) (by decide +kernel) (by decide +kernel)
set_option maxRecDepth 100000 in
theorem mq_74 : mk_Mt (⟨"SmallerInTheShop$Sheet", "wearDown", "(LSmallerInTheShop$Layout;)V"⟩, prog_7_method_11_code, 3, (Option.none : Option FieldType), 4, mc_co mp_74) := mk_Mt_ok (j := 526) (by decide +kernel) (by decide +kernel) (by decide +kernel) (by decide +kernel)
set_option maxRecDepth 100000 in
theorem mq_75 : mk_Mt (⟨"SmallerInTheShop$Sheet", "wornBehind", "(ILSmallerInTheShop$Layout;)I"⟩, prog_7_method_12_code, 4, (Option.some FieldType.int), 4, mc_co mp_75) := mk_Mt_ok (j := 530) (by decide +kernel) (by decide +kernel) (by decide +kernel) (by decide +kernel)
set_option maxRecDepth 100000 in
theorem mq_76 : mk_Mt (⟨"SmallerInTheShop$Sheet", "openLast", "()Z"⟩, prog_7_method_8_code, 1, (Option.some FieldType.boolean), 4, mc_co mp_76) := mk_Mt_ok (j := 541) (by decide +kernel) (by decide +kernel) (by decide +kernel) (by decide +kernel)
set_option maxRecDepth 100000 in
theorem mq_77 : mk_Mt (⟨"SmallerInTheShop$Sheet", "wearOf", "(LSmallerInTheShop$Layout;)I"⟩, prog_7_method_10_code, 4, (Option.some FieldType.int), 4, mc_co mp_77) := mk_Mt_ok (j := 606) (by decide +kernel) (by decide +kernel) (by decide +kernel) (by decide +kernel)
set_option maxRecDepth 100000 in
theorem mq_78 : mk_Mt (⟨"SmallerInTheShop$Sheet", "lastsUnder", "(LSmallerInTheShop$Layout;)I"⟩, prog_7_method_16_code, 4, (Option.some FieldType.int), 4, mc_co mp_78) := mk_Mt_ok (j := 737) (by decide +kernel) (by decide +kernel) (by decide +kernel) (by decide +kernel)
set_option maxRecDepth 100000 in
theorem mq_79 : mk_Mt (⟨"SmallerInTheShop$Sheet", "holes", "()I"⟩, prog_7_method_15_code, 3, (Option.some FieldType.int), 4, mc_co mp_79) := mk_Mt_ok (j := 741) (by decide +kernel) (by decide +kernel) (by decide +kernel) (by decide +kernel)
theorem mr_1 : ∀ q ∈ mc_P1, mk_Mt q := List.forall_mem_cons.mpr ⟨mq_40, List.forall_mem_cons.mpr ⟨mq_41, List.forall_mem_cons.mpr ⟨mq_42, List.forall_mem_cons.mpr ⟨mq_43, List.forall_mem_cons.mpr ⟨mq_44, List.forall_mem_cons.mpr ⟨mq_45, List.forall_mem_cons.mpr ⟨mq_46, List.forall_mem_cons.mpr ⟨mq_47, List.forall_mem_cons.mpr ⟨mq_48, List.forall_mem_cons.mpr ⟨mq_49, List.forall_mem_cons.mpr ⟨mq_50, List.forall_mem_cons.mpr ⟨mq_51, List.forall_mem_cons.mpr ⟨mq_52, List.forall_mem_cons.mpr ⟨mq_53, List.forall_mem_cons.mpr ⟨mq_54, List.forall_mem_cons.mpr ⟨mq_55, List.forall_mem_cons.mpr ⟨mq_56, List.forall_mem_cons.mpr ⟨mq_57, List.forall_mem_cons.mpr ⟨mq_58, List.forall_mem_cons.mpr ⟨mq_59, List.forall_mem_cons.mpr ⟨mq_60, List.forall_mem_cons.mpr ⟨mq_61, List.forall_mem_cons.mpr ⟨mq_62, List.forall_mem_cons.mpr ⟨mq_63, List.forall_mem_cons.mpr ⟨mq_64, List.forall_mem_cons.mpr ⟨mq_65, List.forall_mem_cons.mpr ⟨mq_66, List.forall_mem_cons.mpr ⟨mq_67, List.forall_mem_cons.mpr ⟨mq_68, List.forall_mem_cons.mpr ⟨mq_69, List.forall_mem_cons.mpr ⟨mq_70, List.forall_mem_cons.mpr ⟨mq_71, List.forall_mem_cons.mpr ⟨mq_72, List.forall_mem_cons.mpr ⟨mq_73, List.forall_mem_cons.mpr ⟨mq_74, List.forall_mem_cons.mpr ⟨mq_75, List.forall_mem_cons.mpr ⟨mq_76, List.forall_mem_cons.mpr ⟨mq_77, List.forall_mem_cons.mpr ⟨mq_78, List.forall_mem_cons.mpr ⟨mq_79, fun _ h => absurd h List.not_mem_nil⟩⟩⟩⟩⟩⟩⟩⟩⟩⟩⟩⟩⟩⟩⟩⟩⟩⟩⟩⟩⟩⟩⟩⟩⟩⟩⟩⟩⟩⟩⟩⟩⟩⟩⟩⟩⟩⟩⟩⟩
end
section
set_option maxRecDepth 100000 in
theorem mq_80 : mk_Mt (⟨"SmallerInTheShop$Sheet", "wornAt", "(I)I"⟩, prog_7_method_14_code, 2, (Option.some FieldType.int), 4, mc_co mp_80) := mk_Mt_ok (j := 745) (by decide +kernel) (by decide +kernel) (by decide +kernel) (by decide +kernel)
set_option maxRecDepth 100000 in
theorem mq_81 : mk_Mt (⟨"SmallerInTheShop$Sheet", "wornOfAll", "()I"⟩, prog_7_method_13_code, 3, (Option.some FieldType.int), 4, mc_co mp_81) := mk_Mt_ok (j := 802) (by decide +kernel) (by decide +kernel) (by decide +kernel) (by decide +kernel)
set_option maxRecDepth 100000 in
theorem mq_82 : mk_Mt (⟨"SmallerInTheShop", "<init>", "()V"⟩, prog_1_method_1_code, 1, (Option.none : Option FieldType), 5, mc_co mp_82) := mk_Mt_ok (j := 74) (by decide +kernel) (by decide +kernel) (by decide +kernel) (by decide +kernel)
set_option maxRecDepth 100000 in
theorem mq_83 : mk_Mt (⟨"SmallerInTheShop", "letter", "(I)I"⟩, prog_1_method_2_code, 2, (Option.some FieldType.int), 5, mc_co mp_83) := mk_Mt_ok (j := 257) (by decide +kernel) (by decide +kernel) (by decide +kernel) (by decide +kernel)
set_option maxRecDepth 100000 in
theorem mq_84 : mk_Mt (⟨"SmallerInTheShop", "refuse", "(I)I"⟩, prog_1_method_35_code, 3, (Option.some FieldType.int), 5, mc_co mp_84) := mk_Mt_ok (j := 261) (by decide +kernel) (by decide +kernel) (by decide +kernel) (by decide +kernel)
set_option maxRecDepth 100000 in
theorem mq_85 : mk_Mt (⟨"SmallerInTheShop", "map", "()I"⟩, prog_1_method_3_code, 3, (Option.some FieldType.int), 5, mc_co mp_85) := mk_Mt_ok (j := 273) (by decide +kernel) (by decide +kernel) (by decide +kernel) (by decide +kernel)
set_option maxRecDepth 100000 in
theorem mq_86 : mk_Mt (⟨"SmallerInTheShop", "doStatements", "()I"⟩, prog_1_method_42_code, 3, (Option.some FieldType.int), 5, mc_co mp_86) := mk_Mt_ok (j := 414) (by decide +kernel) (by decide +kernel) (by decide +kernel) (by decide +kernel)
set_option maxRecDepth 100000 in
theorem mq_87 : mk_Mt (⟨"SmallerInTheShop", "doStatement", "(I)Z"⟩, prog_1_method_43_code, 3, (Option.some FieldType.boolean), 5, mc_co mp_87) := mk_Mt_ok (j := 430) (by decide +kernel) (by decide +kernel) (by decide +kernel) (by decide +kernel)
set_option maxRecDepth 100000 in
theorem mq_88 : mk_Mt (⟨"SmallerInTheShop", "tellKind", "(III)Z"⟩, prog_1_method_44_code, 4, (Option.some FieldType.boolean), 5, mc_co mp_88) := mk_Mt_ok (j := 443) (by decide +kernel) (by decide +kernel) (by decide +kernel) (by decide +kernel)
set_option maxRecDepth 100000 in
theorem mq_89 : mk_Mt (⟨"SmallerInTheShop", "isBelow", "(II)Z"⟩, prog_1_method_38_code, 2, (Option.some FieldType.boolean), 5, mc_co mp_89) := mk_Mt_ok (j := 446) (by decide +kernel) (by decide +kernel) (by decide +kernel) (by decide +kernel)
set_option maxRecDepth 100000 in
theorem mq_90 : mk_Mt (⟨"SmallerInTheShop", "tellWorn", "(II)Z"⟩, prog_1_method_45_code, 3, (Option.some FieldType.boolean), 5, mc_co mp_90) := mk_Mt_ok (j := 450) (by decide +kernel) (by decide +kernel) (by decide +kernel) (by decide +kernel)
set_option maxRecDepth 100000 in
theorem mq_91 : mk_Mt (⟨"SmallerInTheShop", "tellFold", "(II)Z"⟩, prog_1_method_46_code, 3, (Option.some FieldType.boolean), 5, mc_co mp_91) := mk_Mt_ok (j := 454) (by decide +kernel) (by decide +kernel) (by decide +kernel) (by decide +kernel)
set_option maxRecDepth 100000 in
theorem mq_92 : mk_Mt (⟨"SmallerInTheShop", "tellCover", "(I)Z"⟩, prog_1_method_47_code, 2, (Option.some FieldType.boolean), 5, mc_co mp_92) := mk_Mt_ok (j := 545) (by decide +kernel) (by decide +kernel) (by decide +kernel) (by decide +kernel)
set_option maxRecDepth 100000 in
theorem mq_93 : mk_Mt (⟨"SmallerInTheShop", "crease", "(II)I"⟩, prog_1_method_4_code, 3, (Option.some FieldType.int), 5, mc_co mp_93) := mk_Mt_ok (j := 555) (by decide +kernel) (by decide +kernel) (by decide +kernel) (by decide +kernel)
set_option maxRecDepth 100000 in
theorem mq_94 : mk_Mt (⟨"SmallerInTheShop", "panel", "(II)I"⟩, prog_1_method_5_code, 4, (Option.some FieldType.int), 5, mc_co mp_94) := mk_Mt_ok (j := 561) (by decide +kernel) (by decide +kernel) (by decide +kernel) (by decide +kernel)
set_option maxRecDepth 100000 in
theorem mq_95 : mk_Mt (⟨"SmallerInTheShop", "asNumber", "(Z)I"⟩, prog_1_method_41_code, 1, (Option.some FieldType.int), 5, mc_co mp_95) := mk_Mt_ok (j := 572) (by decide +kernel) (by decide +kernel) (by decide +kernel) (by decide +kernel)
set_option maxRecDepth 100000 in
theorem mq_96 : mk_Mt (⟨"SmallerInTheShop", "fold", "(II)I"⟩, prog_1_method_6_code, 4, (Option.some FieldType.int), 5, mc_co mp_96) := mk_Mt_ok (j := 577) (by decide +kernel) (by decide +kernel) (by decide +kernel) (by decide +kernel)
set_option maxRecDepth 100000 in
theorem mq_97 : mk_Mt (⟨"SmallerInTheShop", "refusalOfFold", "(II)I"⟩, prog_1_method_37_code, 3, (Option.some FieldType.int), 5, mc_co mp_97) := mk_Mt_ok (j := 581) (by decide +kernel) (by decide +kernel) (by decide +kernel) (by decide +kernel)
set_option maxRecDepth 100000 in
theorem mq_98 : mk_Mt (⟨"SmallerInTheShop", "opens", "()I"⟩, prog_1_method_7_code, 1, (Option.some FieldType.int), 5, mc_co mp_98) := mk_Mt_ok (j := 585) (by decide +kernel) (by decide +kernel) (by decide +kernel) (by decide +kernel)
set_option maxRecDepth 100000 in
theorem mq_99 : mk_Mt (⟨"SmallerInTheShop", "wears", "(II)I"⟩, prog_1_method_8_code, 4, (Option.some FieldType.int), 5, mc_co mp_99) := mk_Mt_ok (j := 589) (by decide +kernel) (by decide +kernel) (by decide +kernel) (by decide +kernel)
set_option maxRecDepth 100000 in
theorem mq_100 : mk_Mt (⟨"SmallerInTheShop", "turn", "(III)I"⟩, prog_1_method_9_code, 5, (Option.some FieldType.int), 5, mc_co mp_100) := mk_Mt_ok (j := 593) (by decide +kernel) (by decide +kernel) (by decide +kernel) (by decide +kernel)
set_option maxRecDepth 100000 in
theorem mq_101 : mk_Mt (⟨"SmallerInTheShop", "cover", "(I)I"⟩, prog_1_method_10_code, 3, (Option.some FieldType.int), 5, mc_co mp_101) := mk_Mt_ok (j := 597) (by decide +kernel) (by decide +kernel) (by decide +kernel) (by decide +kernel)
set_option maxRecDepth 100000 in
theorem mq_102 : mk_Mt (⟨"SmallerInTheShop", "hurts", "(III)I"⟩, prog_1_method_11_code, 7, (Option.some FieldType.int), 5, mc_co mp_102) := mk_Mt_ok (j := 601) (by decide +kernel) (by decide +kernel) (by decide +kernel) (by decide +kernel)
set_option maxRecDepth 100000 in
theorem mq_103 : mk_Mt (⟨"SmallerInTheShop", "over", "(II)I"⟩, prog_1_method_12_code, 3, (Option.some FieldType.int), 5, mc_co mp_103) := mk_Mt_ok (j := 610) (by decide +kernel) (by decide +kernel) (by decide +kernel) (by decide +kernel)
set_option maxRecDepth 100000 in
theorem mq_104 : mk_Mt (⟨"SmallerInTheShop", "arePair", "(II)Z"⟩, prog_1_method_40_code, 2, (Option.some FieldType.boolean), 5, mc_co mp_104) := mk_Mt_ok (j := 613) (by decide +kernel) (by decide +kernel) (by decide +kernel) (by decide +kernel)
set_option maxRecDepth 100000 in
theorem mq_105 : mk_Mt (⟨"SmallerInTheShop", "wad", "(I)I"⟩, prog_1_method_13_code, 3, (Option.some FieldType.int), 5, mc_co mp_105) := mk_Mt_ok (j := 621) (by decide +kernel) (by decide +kernel) (by decide +kernel) (by decide +kernel)
set_option maxRecDepth 100000 in
theorem mq_106 : mk_Mt (⟨"SmallerInTheShop", "shut", "(I)I"⟩, prog_1_method_14_code, 2, (Option.some FieldType.int), 5, mc_co mp_106) := mk_Mt_ok (j := 642) (by decide +kernel) (by decide +kernel) (by decide +kernel) (by decide +kernel)
set_option maxRecDepth 100000 in
theorem mq_107 : mk_Mt (⟨"SmallerInTheShop", "ways", "(I)I"⟩, prog_1_method_15_code, 2, (Option.some FieldType.int), 5, mc_co mp_107) := mk_Mt_ok (j := 708) (by decide +kernel) (by decide +kernel) (by decide +kernel) (by decide +kernel)
set_option maxRecDepth 100000 in
theorem mq_108 : mk_Mt (⟨"SmallerInTheShop", "up", "(IIII)I"⟩, prog_1_method_16_code, 5, (Option.some FieldType.int), 5, mc_co mp_108) := mk_Mt_ok (j := 716) (by decide +kernel) (by decide +kernel) (by decide +kernel) (by decide +kernel)
set_option maxRecDepth 100000 in
theorem mq_109 : mk_Mt (⟨"SmallerInTheShop", "most", "(III)I"⟩, prog_1_method_17_code, 4, (Option.some FieldType.int), 5, mc_co mp_109) := mk_Mt_ok (j := 720) (by decide +kernel) (by decide +kernel) (by decide +kernel) (by decide +kernel)
set_option maxRecDepth 100000 in
theorem mq_110 : mk_Mt (⟨"SmallerInTheShop", "layers", "()I"⟩, prog_1_method_18_code, 2, (Option.some FieldType.int), 5, mc_co mp_110) := mk_Mt_ok (j := 724) (by decide +kernel) (by decide +kernel) (by decide +kernel) (by decide +kernel)
set_option maxRecDepth 100000 in
theorem mq_111 : mk_Mt (⟨"SmallerInTheShop", "tellsAllPanels", "()Z"⟩, prog_1_method_48_code, 3, (Option.some FieldType.boolean), 5, mc_co mp_111) := mk_Mt_ok (j := 728) (by decide +kernel) (by decide +kernel) (by decide +kernel) (by decide +kernel)
set_option maxRecDepth 100000 in
theorem mq_112 : mk_Mt (⟨"SmallerInTheShop", "lasts", "(II)I"⟩, prog_1_method_19_code, 4, (Option.some FieldType.int), 5, mc_co mp_112) := mk_Mt_ok (j := 732) (by decide +kernel) (by decide +kernel) (by decide +kernel) (by decide +kernel)
set_option maxRecDepth 100000 in
theorem mq_113 : mk_Mt (⟨"SmallerInTheShop", "tape", "(II)I"⟩, prog_1_method_20_code, 9, (Option.some FieldType.int), 5, mc_co mp_113) := mk_Mt_ok (j := 749) (by decide +kernel) (by decide +kernel) (by decide +kernel) (by decide +kernel)
set_option maxRecDepth 100000 in
theorem mq_114 : mk_Mt (⟨"SmallerInTheShop", "first", "(IIII)I"⟩, prog_1_method_21_code, 7, (Option.some FieldType.int), 5, mc_co mp_114) := mk_Mt_ok (j := 753) (by decide +kernel) (by decide +kernel) (by decide +kernel) (by decide +kernel)
set_option maxRecDepth 100000 in
theorem mq_115 : mk_Mt (⟨"SmallerInTheShop", "isLine", "(I)Z"⟩, prog_1_method_39_code, 1, (Option.some FieldType.boolean), 5, mc_co mp_115) := mk_Mt_ok (j := 756) (by decide +kernel) (by decide +kernel) (by decide +kernel) (by decide +kernel)
set_option maxRecDepth 100000 in
theorem mq_116 : mk_Mt (⟨"SmallerInTheShop", "effortOfTwo", "(IIII)I"⟩, prog_1_method_49_code, 7, (Option.some FieldType.int), 5, mc_co mp_116) := mk_Mt_ok (j := 760) (by decide +kernel) (by decide +kernel) (by decide +kernel) (by decide +kernel)
set_option maxRecDepth 100000 in
theorem mq_117 : mk_Mt (⟨"SmallerInTheShop", "hole", "(II)I"⟩, prog_1_method_22_code, 4, (Option.some FieldType.int), 5, mc_co mp_117) := mk_Mt_ok (j := 764) (by decide +kernel) (by decide +kernel) (by decide +kernel) (by decide +kernel)
set_option maxRecDepth 100000 in
theorem mq_118 : mk_Mt (⟨"SmallerInTheShop", "weakest", "(I)I"⟩, prog_1_method_23_code, 4, (Option.some FieldType.int), 5, mc_co mp_118) := mk_Mt_ok (j := 769) (by decide +kernel) (by decide +kernel) (by decide +kernel) (by decide +kernel)
set_option maxRecDepth 100000 in
theorem mq_119 : mk_Mt (⟨"SmallerInTheShop", "wind", "(II)J"⟩, prog_1_method_24_code, 10, (Option.some FieldType.long), 5, mc_co mp_119) := mk_Mt_ok (j := 774) (by decide +kernel) (by decide +kernel) (by decide +kernel) (by decide +kernel)
theorem mr_2 : ∀ q ∈ mc_P2, mk_Mt q := List.forall_mem_cons.mpr ⟨mq_80, List.forall_mem_cons.mpr ⟨mq_81, List.forall_mem_cons.mpr ⟨mq_82, List.forall_mem_cons.mpr ⟨mq_83, List.forall_mem_cons.mpr ⟨mq_84, List.forall_mem_cons.mpr ⟨mq_85, List.forall_mem_cons.mpr ⟨mq_86, List.forall_mem_cons.mpr ⟨mq_87, List.forall_mem_cons.mpr ⟨mq_88, List.forall_mem_cons.mpr ⟨mq_89, List.forall_mem_cons.mpr ⟨mq_90, List.forall_mem_cons.mpr ⟨mq_91, List.forall_mem_cons.mpr ⟨mq_92, List.forall_mem_cons.mpr ⟨mq_93, List.forall_mem_cons.mpr ⟨mq_94, List.forall_mem_cons.mpr ⟨mq_95, List.forall_mem_cons.mpr ⟨mq_96, List.forall_mem_cons.mpr ⟨mq_97, List.forall_mem_cons.mpr ⟨mq_98, List.forall_mem_cons.mpr ⟨mq_99, List.forall_mem_cons.mpr ⟨mq_100, List.forall_mem_cons.mpr ⟨mq_101, List.forall_mem_cons.mpr ⟨mq_102, List.forall_mem_cons.mpr ⟨mq_103, List.forall_mem_cons.mpr ⟨mq_104, List.forall_mem_cons.mpr ⟨mq_105, List.forall_mem_cons.mpr ⟨mq_106, List.forall_mem_cons.mpr ⟨mq_107, List.forall_mem_cons.mpr ⟨mq_108, List.forall_mem_cons.mpr ⟨mq_109, List.forall_mem_cons.mpr ⟨mq_110, List.forall_mem_cons.mpr ⟨mq_111, List.forall_mem_cons.mpr ⟨mq_112, List.forall_mem_cons.mpr ⟨mq_113, List.forall_mem_cons.mpr ⟨mq_114, List.forall_mem_cons.mpr ⟨mq_115, List.forall_mem_cons.mpr ⟨mq_116, List.forall_mem_cons.mpr ⟨mq_117, List.forall_mem_cons.mpr ⟨mq_118, List.forall_mem_cons.mpr ⟨mq_119, fun _ h => absurd h List.not_mem_nil⟩⟩⟩⟩⟩⟩⟩⟩⟩⟩⟩⟩⟩⟩⟩⟩⟩⟩⟩⟩⟩⟩⟩⟩⟩⟩⟩⟩⟩⟩⟩⟩⟩⟩⟩⟩⟩⟩⟩⟩
end
section
set_option maxRecDepth 100000 in
theorem mq_120 : mk_Mt (⟨"SmallerInTheShop", "refuseLong", "(I)J"⟩, prog_1_method_36_code, 2, (Option.some FieldType.long), 5, mc_co mp_120) := mk_Mt_ok (j := 778) (by decide +kernel) (by decide +kernel) (by decide +kernel) (by decide +kernel)
set_option maxRecDepth 100000 in
theorem mq_121 : mk_Mt (⟨"SmallerInTheShop", "firstImpossible", "()I"⟩, prog_1_method_50_code, 5, (Option.some FieldType.int), 5, mc_co mp_121) := mk_Mt_ok (j := 783) (by decide +kernel) (by decide +kernel) (by decide +kernel) (by decide +kernel)
set_option maxRecDepth 100000 in
theorem mq_122 : mk_Mt (⟨"SmallerInTheShop", "power", "(JI)J"⟩, prog_1_method_52_code, 6, (Option.some FieldType.long), 5, mc_co mp_122) := mk_Mt_ok (j := 787) (by decide +kernel) (by decide +kernel) (by decide +kernel) (by decide +kernel)
set_option maxRecDepth 100000 in
theorem mq_123 : mk_Mt (⟨"SmallerInTheShop", "isCoverOutBy", "(I)Z"⟩, prog_1_method_51_code, 6, (Option.some FieldType.boolean), 5, mc_co mp_123) := mk_Mt_ok (j := 791) (by decide +kernel) (by decide +kernel) (by decide +kernel) (by decide +kernel)
set_option maxRecDepth 100000 in
theorem mq_124 : mk_Mt (⟨"SmallerInTheShop", "partOfFraction", "(JJI)J"⟩, prog_1_method_53_code, 12, (Option.some FieldType.long), 5, mc_co mp_124) := mk_Mt_ok (j := 794) (by decide +kernel) (by decide +kernel) (by decide +kernel) (by decide +kernel)
set_option maxRecDepth 100000 in
theorem mq_125 : mk_Mt (⟨"SmallerInTheShop", "mean", "(I)J"⟩, prog_1_method_25_code, 2, (Option.some FieldType.long), 5, mc_co mp_125) := mk_Mt_ok (j := 798) (by decide +kernel) (by decide +kernel) (by decide +kernel) (by decide +kernel)
set_option maxRecDepth 100000 in
theorem mq_126 : mk_Mt (⟨"SmallerInTheShop", "whatIs", "(II)I"⟩, prog_1_method_26_code, 3, (Option.some FieldType.int), 5, mc_co mp_126) := mk_Mt_ok (j := 807) (by decide +kernel) (by decide +kernel) (by decide +kernel) (by decide +kernel)
set_option maxRecDepth 100000 in
theorem mq_127 : mk_Mt (⟨"SmallerInTheShop", "kindsThatFit", "(I)I"⟩, prog_1_method_54_code, 4, (Option.some FieldType.int), 5, mc_co mp_127) := mk_Mt_ok (j := 811) (by decide +kernel) (by decide +kernel) (by decide +kernel) (by decide +kernel)
set_option maxRecDepth 100000 in
theorem mq_128 : mk_Mt (⟨"SmallerInTheShop", "fitsAllPairs", "(II)Z"⟩, prog_1_method_56_code, 4, (Option.some FieldType.boolean), 5, mc_co mp_128) := mk_Mt_ok (j := 815) (by decide +kernel) (by decide +kernel) (by decide +kernel) (by decide +kernel)
set_option maxRecDepth 100000 in
theorem mq_129 : mk_Mt (⟨"SmallerInTheShop", "figuresThatFit", "(I)I"⟩, prog_1_method_55_code, 4, (Option.some FieldType.int), 5, mc_co mp_129) := mk_Mt_ok (j := 820) (by decide +kernel) (by decide +kernel) (by decide +kernel) (by decide +kernel)
set_option maxRecDepth 100000 in
theorem mq_130 : mk_Mt (⟨"SmallerInTheShop", "row", "(I)I"⟩, prog_1_method_27_code, 2, (Option.some FieldType.int), 5, mc_co mp_130) := mk_Mt_ok (j := 824) (by decide +kernel) (by decide +kernel) (by decide +kernel) (by decide +kernel)
set_option maxRecDepth 100000 in
theorem mq_131 : mk_Mt (⟨"SmallerInTheShop", "judge", "()I"⟩, prog_1_method_28_code, 2, (Option.some FieldType.int), 5, mc_co mp_131) := mk_Mt_ok (j := 828) (by decide +kernel) (by decide +kernel) (by decide +kernel) (by decide +kernel)
set_option maxRecDepth 100000 in
theorem mq_132 : mk_Mt (⟨"SmallerInTheShop", "clear", "()I"⟩, prog_1_method_29_code, 2, (Option.some FieldType.int), 5, mc_co mp_132) := mk_Mt_ok (j := 832) (by decide +kernel) (by decide +kernel) (by decide +kernel) (by decide +kernel)
set_option maxRecDepth 100000 in
theorem mq_133 : mk_Mt (⟨"SmallerInTheShop", "lots", "(III)I"⟩, prog_1_method_30_code, 7, (Option.some FieldType.int), 5, mc_co mp_133) := mk_Mt_ok (j := 836) (by decide +kernel) (by decide +kernel) (by decide +kernel) (by decide +kernel)
set_option maxRecDepth 100000 in
theorem mq_134 : mk_Mt (⟨"SmallerInTheShop", "shutByLot", "()I"⟩, prog_1_method_57_code, 6, (Option.some FieldType.int), 5, mc_co mp_134) := mk_Mt_ok (j := 840) (by decide +kernel) (by decide +kernel) (by decide +kernel) (by decide +kernel)
set_option maxRecDepth 100000 in
theorem mq_135 : mk_Mt (⟨"SmallerInTheShop", "image", "()I"⟩, prog_1_method_31_code, 1, (Option.some FieldType.int), 5, mc_co mp_135) := mk_Mt_ok (j := 860) (by decide +kernel) (by decide +kernel) (by decide +kernel) (by decide +kernel)
set_option maxRecDepth 100000 in
theorem mq_136 : mk_Mt (⟨"SmallerInTheShop", "on", "()I"⟩, prog_1_method_32_code, 1, (Option.some FieldType.int), 5, mc_co mp_136) := mk_Mt_ok (j := 864) (by decide +kernel) (by decide +kernel) (by decide +kernel) (by decide +kernel)
set_option maxRecDepth 100000 in
theorem mq_137 : mk_Mt (⟨"SmallerInTheShop", "count", "(I)I"⟩, prog_1_method_33_code, 2, (Option.some FieldType.int), 5, mc_co mp_137) := mk_Mt_ok (j := 868) (by decide +kernel) (by decide +kernel) (by decide +kernel) (by decide +kernel)
set_option maxRecDepth 100000 in
theorem mq_138 : mk_Mt (⟨"SmallerInTheShop", "countOfRefusals", "(I)I"⟩, prog_1_method_34_code, 2, (Option.some FieldType.int), 5, mc_co mp_138) := mk_Mt_ok (j := 873) (by decide +kernel) (by decide +kernel) (by decide +kernel) (by decide +kernel)
set_option maxRecDepth 100000 in
theorem mq_139 : mk_Mt (⟨"SmallerInTheShopModel", "<init>", "()V"⟩, prog_9_method_1_code, 2, (Option.none : Option FieldType), 6, mc_co mp_139) := mk_Mt_ok (j := 878) (by decide +kernel) (by decide +kernel) (by decide +kernel) (by decide +kernel)
set_option maxRecDepth 100000 in
theorem mq_140 : mk_Mt (⟨"SmallerInTheShopModel", "letter", "(I)I"⟩, prog_9_method_27_code, 2, (Option.some FieldType.int), 6, mc_co mp_140) := mk_Mt_ok (j := 944) (by decide +kernel) (by decide +kernel) (by decide +kernel) (by decide +kernel)
set_option maxRecDepth 100000 in
theorem mq_141 : mk_Mt (⟨"SmallerInTheShopModel", "refused", "(I)I"⟩, prog_9_method_3_code, 2, (Option.some FieldType.int), 6, mc_co mp_141) := mk_Mt_ok (j := 948) (by decide +kernel) (by decide +kernel) (by decide +kernel) (by decide +kernel)
set_option maxRecDepth 100000 in
theorem mq_142 : mk_Mt (⟨"SmallerInTheShopModel", "map", "()I"⟩, prog_9_method_33_code, 5, (Option.some FieldType.int), 6, mc_co mp_142) := mk_Mt_ok (j := 952) (by decide +kernel) (by decide +kernel) (by decide +kernel) (by decide +kernel)
set_option maxRecDepth 100000 in
theorem mq_143 : mk_Mt (⟨"SmallerInTheShopModel", "faultOf", "(I)I"⟩, prog_9_method_30_code, 5, (Option.some FieldType.int), 6, mc_co mp_143) := mk_Mt_ok (j := 956) (by decide +kernel) (by decide +kernel) (by decide +kernel) (by decide +kernel)
set_option maxRecDepth 100000 in
theorem mq_144 : mk_Mt (⟨"SmallerInTheShopModel", "sizeOf", "(I)I"⟩, prog_9_method_29_code, 1, (Option.some FieldType.int), 6, mc_co mp_144) := mk_Mt_ok (j := 959) (by decide +kernel) (by decide +kernel) (by decide +kernel) (by decide +kernel)
set_option maxRecDepth 100000 in
theorem mq_145 : mk_Mt (⟨"SmallerInTheShopModel", "fits", "(III)Z"⟩, prog_9_method_28_code, 5, (Option.some FieldType.boolean), 6, mc_co mp_145) := mk_Mt_ok (j := 963) (by decide +kernel) (by decide +kernel) (by decide +kernel) (by decide +kernel)
set_option maxRecDepth 100000 in
theorem mq_146 : mk_Mt (⟨"SmallerInTheShopModel", "in", "(JJJ)Z"⟩, prog_9_method_2_code, 6, (Option.some FieldType.boolean), 6, mc_co mp_146) := mk_Mt_ok (j := 969) (by decide +kernel) (by decide +kernel) (by decide +kernel) (by decide +kernel)
set_option maxRecDepth 100000 in
theorem mq_147 : mk_Mt (⟨"SmallerInTheShopModel", "copies", "([I[I)V"⟩, prog_9_method_5_code, 3, (Option.none : Option FieldType), 6, mc_co mp_147) := mk_Mt_ok (j := 972) (by decide +kernel) (by decide +kernel) (by decide +kernel) (by decide +kernel)
set_option maxRecDepth 100000 in
theorem mq_148 : mk_Mt (⟨"SmallerInTheShopModel", "comes", "([II)Z"⟩, prog_9_method_32_code, 4, (Option.some FieldType.boolean), 6, mc_co mp_148) := mk_Mt_ok (j := 976) (by decide +kernel) (by decide +kernel) (by decide +kernel) (by decide +kernel)
set_option maxRecDepth 100000 in
theorem mq_149 : mk_Mt (⟨"SmallerInTheShopModel", "digit", "(I)I"⟩, prog_9_method_31_code, 2, (Option.some FieldType.int), 6, mc_co mp_149) := mk_Mt_ok (j := 980) (by decide +kernel) (by decide +kernel) (by decide +kernel) (by decide +kernel)
set_option maxRecDepth 100000 in
theorem mq_150 : mk_Mt (⟨"SmallerInTheShopModel", "isLine", "([II)Z"⟩, prog_9_method_12_code, 2, (Option.some FieldType.boolean), 6, mc_co mp_150) := mk_Mt_ok (j := 983) (by decide +kernel) (by decide +kernel) (by decide +kernel) (by decide +kernel)
set_option maxRecDepth 100000 in
theorem mq_151 : mk_Mt (⟨"SmallerInTheShopModel", "wide", "([II)I"⟩, prog_9_method_11_code, 4, (Option.some FieldType.int), 6, mc_co mp_151) := mk_Mt_ok (j := 987) (by decide +kernel) (by decide +kernel) (by decide +kernel) (by decide +kernel)
set_option maxRecDepth 100000 in
theorem mq_152 : mk_Mt (⟨"SmallerInTheShopModel", "folds", "([III)I"⟩, prog_9_method_25_code, 8, (Option.some FieldType.int), 6, mc_co mp_152) := mk_Mt_ok (j := 992) (by decide +kernel) (by decide +kernel) (by decide +kernel) (by decide +kernel)
set_option maxRecDepth 100000 in
theorem mq_153 : mk_Mt (⟨"SmallerInTheShopModel", "creases", "([II)I"⟩, prog_9_method_20_code, 9, (Option.some FieldType.int), 6, mc_co mp_153) := mk_Mt_ok (j := 995) (by decide +kernel) (by decide +kernel) (by decide +kernel) (by decide +kernel)
set_option maxRecDepth 100000 in
theorem mq_154 : mk_Mt (⟨"SmallerInTheShopModel", "one", "(I)I"⟩, prog_9_method_9_code, 1, (Option.some FieldType.int), 6, mc_co mp_154) := mk_Mt_ok (j := 998) (by decide +kernel) (by decide +kernel) (by decide +kernel) (by decide +kernel)
set_option maxRecDepth 100000 in
theorem mq_155 : mk_Mt (⟨"SmallerInTheShopModel", "other", "(I)I"⟩, prog_9_method_10_code, 1, (Option.some FieldType.int), 6, mc_co mp_155) := mk_Mt_ok (j := 1001) (by decide +kernel) (by decide +kernel) (by decide +kernel) (by decide +kernel)
set_option maxRecDepth 100000 in
theorem mq_156 : mk_Mt (⟨"SmallerInTheShopModel", "effortBy", "([III)I"⟩, prog_9_method_22_code, 6, (Option.some FieldType.int), 6, mc_co mp_156) := mk_Mt_ok (j := 1005) (by decide +kernel) (by decide +kernel) (by decide +kernel) (by decide +kernel)
set_option maxRecDepth 100000 in
theorem mq_157 : mk_Mt (⟨"SmallerInTheShopModel", "sideOf", "([III)I"⟩, prog_9_method_21_code, 4, (Option.some FieldType.int), 6, mc_co mp_157) := mk_Mt_ok (j := 1008) (by decide +kernel) (by decide +kernel) (by decide +kernel) (by decide +kernel)
set_option maxRecDepth 100000 in
theorem mq_158 : mk_Mt (⟨"SmallerInTheShopModel", "effortOf", "([III)I"⟩, prog_9_method_8_code, 3, (Option.some FieldType.int), 6, mc_co mp_158) := mk_Mt_ok (j := 1011) (by decide +kernel) (by decide +kernel) (by decide +kernel) (by decide +kernel)
set_option maxRecDepth 100000 in
theorem mq_159 : mk_Mt (⟨"SmallerInTheShopModel", "effort", "(IIII)I"⟩, prog_9_method_6_code, 5, (Option.some FieldType.int), 6, mc_co mp_159) := mk_Mt_ok (j := 1014) (by decide +kernel) (by decide +kernel) (by decide +kernel) (by decide +kernel)
theorem mr_3 : ∀ q ∈ mc_P3, mk_Mt q := List.forall_mem_cons.mpr ⟨mq_120, List.forall_mem_cons.mpr ⟨mq_121, List.forall_mem_cons.mpr ⟨mq_122, List.forall_mem_cons.mpr ⟨mq_123, List.forall_mem_cons.mpr ⟨mq_124, List.forall_mem_cons.mpr ⟨mq_125, List.forall_mem_cons.mpr ⟨mq_126, List.forall_mem_cons.mpr ⟨mq_127, List.forall_mem_cons.mpr ⟨mq_128, List.forall_mem_cons.mpr ⟨mq_129, List.forall_mem_cons.mpr ⟨mq_130, List.forall_mem_cons.mpr ⟨mq_131, List.forall_mem_cons.mpr ⟨mq_132, List.forall_mem_cons.mpr ⟨mq_133, List.forall_mem_cons.mpr ⟨mq_134, List.forall_mem_cons.mpr ⟨mq_135, List.forall_mem_cons.mpr ⟨mq_136, List.forall_mem_cons.mpr ⟨mq_137, List.forall_mem_cons.mpr ⟨mq_138, List.forall_mem_cons.mpr ⟨mq_139, List.forall_mem_cons.mpr ⟨mq_140, List.forall_mem_cons.mpr ⟨mq_141, List.forall_mem_cons.mpr ⟨mq_142, List.forall_mem_cons.mpr ⟨mq_143, List.forall_mem_cons.mpr ⟨mq_144, List.forall_mem_cons.mpr ⟨mq_145, List.forall_mem_cons.mpr ⟨mq_146, List.forall_mem_cons.mpr ⟨mq_147, List.forall_mem_cons.mpr ⟨mq_148, List.forall_mem_cons.mpr ⟨mq_149, List.forall_mem_cons.mpr ⟨mq_150, List.forall_mem_cons.mpr ⟨mq_151, List.forall_mem_cons.mpr ⟨mq_152, List.forall_mem_cons.mpr ⟨mq_153, List.forall_mem_cons.mpr ⟨mq_154, List.forall_mem_cons.mpr ⟨mq_155, List.forall_mem_cons.mpr ⟨mq_156, List.forall_mem_cons.mpr ⟨mq_157, List.forall_mem_cons.mpr ⟨mq_158, List.forall_mem_cons.mpr ⟨mq_159, fun _ h => absurd h List.not_mem_nil⟩⟩⟩⟩⟩⟩⟩⟩⟩⟩⟩⟩⟩⟩⟩⟩⟩⟩⟩⟩⟩⟩⟩⟩⟩⟩⟩⟩⟩⟩⟩⟩⟩⟩⟩⟩⟩⟩⟩⟩
end
section
set_option maxRecDepth 100000 in
theorem mq_160 : mk_Mt (⟨"SmallerInTheShopModel", "keepsAhead", "([II)V"⟩, prog_9_method_23_code, 4, (Option.none : Option FieldType), 6, mc_co mp_160) := mk_Mt_ok (j := 1017) (by decide +kernel) (by decide +kernel) (by decide +kernel) (by decide +kernel)
set_option maxRecDepth 100000 in
theorem mq_161 : mk_Mt (⟨"SmallerInTheShopModel", "wear", "(III)I"⟩, prog_9_method_7_code, 4, (Option.some FieldType.int), 6, mc_co mp_161) := mk_Mt_ok (j := 1020) (by decide +kernel) (by decide +kernel) (by decide +kernel) (by decide +kernel)
set_option maxRecDepth 100000 in
theorem mq_162 : mk_Mt (⟨"SmallerInTheShopModel", "lays", "([III)V"⟩, prog_9_method_24_code, 14, (Option.none : Option FieldType), 6, mc_co mp_162) := mk_Mt_ok (j := 1024) (by decide +kernel) (by decide +kernel) (by decide +kernel) (by decide +kernel)
set_option maxRecDepth 100000 in
theorem mq_163 : mk_Mt (⟨"SmallerInTheShopModel", "isOneCell", "([III)Z"⟩, prog_9_method_13_code, 3, (Option.some FieldType.boolean), 6, mc_co mp_163) := mk_Mt_ok (j := 1027) (by decide +kernel) (by decide +kernel) (by decide +kernel) (by decide +kernel)
set_option maxRecDepth 100000 in
theorem mq_164 : mk_Mt (⟨"SmallerInTheShopModel", "opened", "([I)V"⟩, prog_9_method_26_code, 3, (Option.none : Option FieldType), 6, mc_co mp_164) := mk_Mt_ok (j := 1030) (by decide +kernel) (by decide +kernel) (by decide +kernel) (by decide +kernel)
set_option maxRecDepth 100000 in
theorem mq_165 : mk_Mt (⟨"SmallerInTheShopModel", "crease", "(II)I"⟩, prog_9_method_36_code, 3, (Option.some FieldType.int), 6, mc_co mp_165) := mk_Mt_ok (j := 1034) (by decide +kernel) (by decide +kernel) (by decide +kernel) (by decide +kernel)
set_option maxRecDepth 100000 in
theorem mq_166 : mk_Mt (⟨"SmallerInTheShopModel", "isCrease", "(I)Z"⟩, prog_9_method_34_code, 1, (Option.some FieldType.boolean), 6, mc_co mp_166) := mk_Mt_ok (j := 1037) (by decide +kernel) (by decide +kernel) (by decide +kernel) (by decide +kernel)
set_option maxRecDepth 100000 in
theorem mq_167 : mk_Mt (⟨"SmallerInTheShopModel", "panel", "(II)I"⟩, prog_9_method_37_code, 3, (Option.some FieldType.int), 6, mc_co mp_167) := mk_Mt_ok (j := 1043) (by decide +kernel) (by decide +kernel) (by decide +kernel) (by decide +kernel)
set_option maxRecDepth 100000 in
theorem mq_168 : mk_Mt (⟨"SmallerInTheShopModel", "isPanel", "(I)Z"⟩, prog_9_method_35_code, 1, (Option.some FieldType.boolean), 6, mc_co mp_168) := mk_Mt_ok (j := 1046) (by decide +kernel) (by decide +kernel) (by decide +kernel) (by decide +kernel)
set_option maxRecDepth 100000 in
theorem mq_169 : mk_Mt (⟨"SmallerInTheShopModel", "isRead", "([II)Z"⟩, prog_9_method_16_code, 2, (Option.some FieldType.boolean), 6, mc_co mp_169) := mk_Mt_ok (j := 1050) (by decide +kernel) (by decide +kernel) (by decide +kernel) (by decide +kernel)
set_option maxRecDepth 100000 in
theorem mq_170 : mk_Mt (⟨"SmallerInTheShopModel", "shows", "([III)Z"⟩, prog_9_method_15_code, 4, (Option.some FieldType.boolean), 6, mc_co mp_170) := mk_Mt_ok (j := 1053) (by decide +kernel) (by decide +kernel) (by decide +kernel) (by decide +kernel)
set_option maxRecDepth 100000 in
theorem mq_171 : mk_Mt (⟨"SmallerInTheShopModel", "above", "([II)I"⟩, prog_9_method_14_code, 4, (Option.some FieldType.int), 6, mc_co mp_171) := mk_Mt_ok (j := 1056) (by decide +kernel) (by decide +kernel) (by decide +kernel) (by decide +kernel)
set_option maxRecDepth 100000 in
theorem mq_172 : mk_Mt (⟨"SmallerInTheShopModel", "fold", "(II)I"⟩, prog_9_method_38_code, 3, (Option.some FieldType.int), 6, mc_co mp_172) := mk_Mt_ok (j := 1060) (by decide +kernel) (by decide +kernel) (by decide +kernel) (by decide +kernel)
set_option maxRecDepth 100000 in
theorem mq_173 : mk_Mt (⟨"SmallerInTheShopModel", "opens", "()I"⟩, prog_9_method_39_code, 1, (Option.some FieldType.int), 6, mc_co mp_173) := mk_Mt_ok (j := 1064) (by decide +kernel) (by decide +kernel) (by decide +kernel) (by decide +kernel)
set_option maxRecDepth 100000 in
theorem mq_174 : mk_Mt (⟨"SmallerInTheShopModel", "wears", "(II)I"⟩, prog_9_method_40_code, 4, (Option.some FieldType.int), 6, mc_co mp_174) := mk_Mt_ok (j := 1068) (by decide +kernel) (by decide +kernel) (by decide +kernel) (by decide +kernel)
set_option maxRecDepth 100000 in
theorem mq_175 : mk_Mt (⟨"SmallerInTheShopModel", "turn", "(III)I"⟩, prog_9_method_41_code, 5, (Option.some FieldType.int), 6, mc_co mp_175) := mk_Mt_ok (j := 1073) (by decide +kernel) (by decide +kernel) (by decide +kernel) (by decide +kernel)
set_option maxRecDepth 100000 in
theorem mq_176 : mk_Mt (⟨"SmallerInTheShopModel", "cover", "(I)I"⟩, prog_9_method_42_code, 3, (Option.some FieldType.int), 6, mc_co mp_176) := mk_Mt_ok (j := 1077) (by decide +kernel) (by decide +kernel) (by decide +kernel) (by decide +kernel)
set_option maxRecDepth 100000 in
theorem mq_177 : mk_Mt (⟨"SmallerInTheShopModel", "hurts", "(III)I"⟩, prog_9_method_44_code, 5, (Option.some FieldType.int), 6, mc_co mp_177) := mk_Mt_ok (j := 1081) (by decide +kernel) (by decide +kernel) (by decide +kernel) (by decide +kernel)
set_option maxRecDepth 100000 in
theorem mq_178 : mk_Mt (⟨"SmallerInTheShopModel", "wornAll", "([I)I"⟩, prog_9_method_43_code, 3, (Option.some FieldType.int), 6, mc_co mp_178) := mk_Mt_ok (j := 1085) (by decide +kernel) (by decide +kernel) (by decide +kernel) (by decide +kernel)
set_option maxRecDepth 100000 in
theorem mq_179 : mk_Mt (⟨"SmallerInTheShopModel", "over", "(II)I"⟩, prog_9_method_45_code, 3, (Option.some FieldType.int), 6, mc_co mp_179) := mk_Mt_ok (j := 1089) (by decide +kernel) (by decide +kernel) (by decide +kernel) (by decide +kernel)
set_option maxRecDepth 100000 in
theorem mq_180 : mk_Mt (⟨"SmallerInTheShopModel", "wad", "(I)I"⟩, prog_9_method_48_code, 2, (Option.some FieldType.int), 6, mc_co mp_180) := mk_Mt_ok (j := 1093) (by decide +kernel) (by decide +kernel) (by decide +kernel) (by decide +kernel)
set_option maxRecDepth 100000 in
theorem mq_181 : mk_Mt (⟨"SmallerInTheShopModel", "thickness", "([I)I"⟩, prog_9_method_19_code, 5, (Option.some FieldType.int), 6, mc_co mp_181) := mk_Mt_ok (j := 1096) (by decide +kernel) (by decide +kernel) (by decide +kernel) (by decide +kernel)
set_option maxRecDepth 100000 in
theorem mq_182 : mk_Mt (⟨"SmallerInTheShopModel", "readSet", "([I)I"⟩, prog_9_method_46_code, 3, (Option.some FieldType.int), 6, mc_co mp_182) := mk_Mt_ok (j := 1099) (by decide +kernel) (by decide +kernel) (by decide +kernel) (by decide +kernel)
set_option maxRecDepth 100000 in
theorem mq_183 : mk_Mt (⟨"SmallerInTheShopModel", "isOut", "([I)Z"⟩, prog_9_method_17_code, 1, (Option.some FieldType.boolean), 6, mc_co mp_183) := mk_Mt_ok (j := 1102) (by decide +kernel) (by decide +kernel) (by decide +kernel) (by decide +kernel)
set_option maxRecDepth 100000 in
theorem mq_184 : mk_Mt (⟨"SmallerInTheShopModel", "flat", "()I"⟩, prog_9_method_47_code, 3, (Option.some FieldType.int), 6, mc_co mp_184) := mk_Mt_ok (j := 1106) (by decide +kernel) (by decide +kernel) (by decide +kernel) (by decide +kernel)
set_option maxRecDepth 100000 in
theorem mq_185 : mk_Mt (⟨"SmallerInTheShopModel", "shut", "(I)I"⟩, prog_9_method_54_code, 2, (Option.some FieldType.int), 6, mc_co mp_185) := mk_Mt_ok (j := 1110) (by decide +kernel) (by decide +kernel) (by decide +kernel) (by decide +kernel)
set_option maxRecDepth 100000 in
theorem mq_186 : mk_Mt (⟨"SmallerInTheShopModel", "seek", "(III)V"⟩, prog_9_method_53_code, 4, (Option.none : Option FieldType), 6, mc_co mp_186) := mk_Mt_ok (j := 1114) (by decide +kernel) (by decide +kernel) (by decide +kernel) (by decide +kernel)
set_option maxRecDepth 100000 in
theorem mq_187 : mk_Mt (⟨"SmallerInTheShopModel", "seeks", "(III)V"⟩, prog_9_method_52_code, 7, (Option.none : Option FieldType), 6, mc_co mp_187) := mk_Mt_ok (j := 1118) (by decide +kernel) (by decide +kernel) (by decide +kernel) (by decide +kernel)
set_option maxRecDepth 100000 in
theorem mq_188 : mk_Mt (⟨"SmallerInTheShopModel", "meets", "([IIII)V"⟩, prog_9_method_51_code, 6, (Option.none : Option FieldType), 6, mc_co mp_188) := mk_Mt_ok (j := 1122) (by decide +kernel) (by decide +kernel) (by decide +kernel) (by decide +kernel)
set_option maxRecDepth 100000 in
theorem mq_189 : mk_Mt (⟨"SmallerInTheShopModel", "isShut", "([I)Z"⟩, prog_9_method_18_code, 1, (Option.some FieldType.boolean), 6, mc_co mp_189) := mk_Mt_ok (j := 1125) (by decide +kernel) (by decide +kernel) (by decide +kernel) (by decide +kernel)
set_option maxRecDepth 100000 in
theorem mq_190 : mk_Mt (⟨"SmallerInTheShopModel", "better", "(II)V"⟩, prog_9_method_49_code, 3, (Option.none : Option FieldType), 6, mc_co mp_190) := mk_Mt_ok (j := 1129) (by decide +kernel) (by decide +kernel) (by decide +kernel) (by decide +kernel)
set_option maxRecDepth 100000 in
theorem mq_191 : mk_Mt (⟨"SmallerInTheShopModel", "isAsTheRow", "([I)Z"⟩, prog_9_method_50_code, 5, (Option.some FieldType.boolean), 6, mc_co mp_191) := mk_Mt_ok (j := 1134) (by decide +kernel) (by decide +kernel) (by decide +kernel) (by decide +kernel)
set_option maxRecDepth 100000 in
theorem mq_192 : mk_Mt (⟨"SmallerInTheShopModel", "ways", "(I)I"⟩, prog_9_method_55_code, 2, (Option.some FieldType.int), 6, mc_co mp_192) := mk_Mt_ok (j := 1138) (by decide +kernel) (by decide +kernel) (by decide +kernel) (by decide +kernel)
set_option maxRecDepth 100000 in
theorem mq_193 : mk_Mt (⟨"SmallerInTheShopModel", "up", "(IIII)I"⟩, prog_9_method_56_code, 5, (Option.some FieldType.int), 6, mc_co mp_193) := mk_Mt_ok (j := 1143) (by decide +kernel) (by decide +kernel) (by decide +kernel) (by decide +kernel)
set_option maxRecDepth 100000 in
theorem mq_194 : mk_Mt (⟨"SmallerInTheShopModel", "most", "(III)I"⟩, prog_9_method_57_code, 4, (Option.some FieldType.int), 6, mc_co mp_194) := mk_Mt_ok (j := 1148) (by decide +kernel) (by decide +kernel) (by decide +kernel) (by decide +kernel)
set_option maxRecDepth 100000 in
theorem mq_195 : mk_Mt (⟨"SmallerInTheShopModel", "layers", "()I"⟩, prog_9_method_59_code, 1, (Option.some FieldType.int), 6, mc_co mp_195) := mk_Mt_ok (j := 1152) (by decide +kernel) (by decide +kernel) (by decide +kernel) (by decide +kernel)
set_option maxRecDepth 100000 in
theorem mq_196 : mk_Mt (⟨"SmallerInTheShopModel", "tellsAll", "()Z"⟩, prog_9_method_58_code, 3, (Option.some FieldType.boolean), 6, mc_co mp_196) := mk_Mt_ok (j := 1156) (by decide +kernel) (by decide +kernel) (by decide +kernel) (by decide +kernel)
set_option maxRecDepth 100000 in
theorem mq_197 : mk_Mt (⟨"SmallerInTheShopModel", "lasts", "(II)I"⟩, prog_9_method_63_code, 3, (Option.some FieldType.int), 6, mc_co mp_197) := mk_Mt_ok (j := 1160) (by decide +kernel) (by decide +kernel) (by decide +kernel) (by decide +kernel)
set_option maxRecDepth 100000 in
theorem mq_198 : mk_Mt (⟨"SmallerInTheShopModel", "times", "(II)I"⟩, prog_9_method_62_code, 6, (Option.some FieldType.int), 6, mc_co mp_198) := mk_Mt_ok (j := 1164) (by decide +kernel) (by decide +kernel) (by decide +kernel) (by decide +kernel)
set_option maxRecDepth 100000 in
theorem mq_199 : mk_Mt (⟨"SmallerInTheShopModel", "holes", "([I)I"⟩, prog_9_method_61_code, 3, (Option.some FieldType.int), 6, mc_co mp_199) := mk_Mt_ok (j := 1167) (by decide +kernel) (by decide +kernel) (by decide +kernel) (by decide +kernel)
theorem mr_4 : ∀ q ∈ mc_P4, mk_Mt q := List.forall_mem_cons.mpr ⟨mq_160, List.forall_mem_cons.mpr ⟨mq_161, List.forall_mem_cons.mpr ⟨mq_162, List.forall_mem_cons.mpr ⟨mq_163, List.forall_mem_cons.mpr ⟨mq_164, List.forall_mem_cons.mpr ⟨mq_165, List.forall_mem_cons.mpr ⟨mq_166, List.forall_mem_cons.mpr ⟨mq_167, List.forall_mem_cons.mpr ⟨mq_168, List.forall_mem_cons.mpr ⟨mq_169, List.forall_mem_cons.mpr ⟨mq_170, List.forall_mem_cons.mpr ⟨mq_171, List.forall_mem_cons.mpr ⟨mq_172, List.forall_mem_cons.mpr ⟨mq_173, List.forall_mem_cons.mpr ⟨mq_174, List.forall_mem_cons.mpr ⟨mq_175, List.forall_mem_cons.mpr ⟨mq_176, List.forall_mem_cons.mpr ⟨mq_177, List.forall_mem_cons.mpr ⟨mq_178, List.forall_mem_cons.mpr ⟨mq_179, List.forall_mem_cons.mpr ⟨mq_180, List.forall_mem_cons.mpr ⟨mq_181, List.forall_mem_cons.mpr ⟨mq_182, List.forall_mem_cons.mpr ⟨mq_183, List.forall_mem_cons.mpr ⟨mq_184, List.forall_mem_cons.mpr ⟨mq_185, List.forall_mem_cons.mpr ⟨mq_186, List.forall_mem_cons.mpr ⟨mq_187, List.forall_mem_cons.mpr ⟨mq_188, List.forall_mem_cons.mpr ⟨mq_189, List.forall_mem_cons.mpr ⟨mq_190, List.forall_mem_cons.mpr ⟨mq_191, List.forall_mem_cons.mpr ⟨mq_192, List.forall_mem_cons.mpr ⟨mq_193, List.forall_mem_cons.mpr ⟨mq_194, List.forall_mem_cons.mpr ⟨mq_195, List.forall_mem_cons.mpr ⟨mq_196, List.forall_mem_cons.mpr ⟨mq_197, List.forall_mem_cons.mpr ⟨mq_198, List.forall_mem_cons.mpr ⟨mq_199, fun _ h => absurd h List.not_mem_nil⟩⟩⟩⟩⟩⟩⟩⟩⟩⟩⟩⟩⟩⟩⟩⟩⟩⟩⟩⟩⟩⟩⟩⟩⟩⟩⟩⟩⟩⟩⟩⟩⟩⟩⟩⟩⟩⟩⟩⟩
end
section
set_option maxRecDepth 100000 in
theorem mq_200 : mk_Mt (⟨"SmallerInTheShopModel", "wornAt", "([II)I"⟩, prog_9_method_60_code, 2, (Option.some FieldType.int), 6, mc_co mp_200) := mk_Mt_ok (j := 1170) (by decide +kernel) (by decide +kernel) (by decide +kernel) (by decide +kernel)
set_option maxRecDepth 100000 in
theorem mq_201 : mk_Mt (⟨"SmallerInTheShopModel", "tape", "(II)I"⟩, prog_9_method_64_code, 7, (Option.some FieldType.int), 6, mc_co mp_201) := mk_Mt_ok (j := 1174) (by decide +kernel) (by decide +kernel) (by decide +kernel) (by decide +kernel)
set_option maxRecDepth 100000 in
theorem mq_202 : mk_Mt (⟨"SmallerInTheShopModel", "first", "(IIII)I"⟩, prog_9_method_66_code, 7, (Option.some FieldType.int), 6, mc_co mp_202) := mk_Mt_ok (j := 1178) (by decide +kernel) (by decide +kernel) (by decide +kernel) (by decide +kernel)
set_option maxRecDepth 100000 in
theorem mq_203 : mk_Mt (⟨"SmallerInTheShopModel", "both", "(IIII)I"⟩, prog_9_method_65_code, 6, (Option.some FieldType.int), 6, mc_co mp_203) := mk_Mt_ok (j := 1182) (by decide +kernel) (by decide +kernel) (by decide +kernel) (by decide +kernel)
set_option maxRecDepth 100000 in
theorem mq_204 : mk_Mt (⟨"SmallerInTheShopModel", "hole", "(II)I"⟩, prog_9_method_67_code, 3, (Option.some FieldType.int), 6, mc_co mp_204) := mk_Mt_ok (j := 1186) (by decide +kernel) (by decide +kernel) (by decide +kernel) (by decide +kernel)
set_option maxRecDepth 100000 in
theorem mq_205 : mk_Mt (⟨"SmallerInTheShopModel", "weakest", "(I)I"⟩, prog_9_method_68_code, 4, (Option.some FieldType.int), 6, mc_co mp_205) := mk_Mt_ok (j := 1190) (by decide +kernel) (by decide +kernel) (by decide +kernel) (by decide +kernel)
set_option maxRecDepth 100000 in
theorem mq_206 : mk_Mt (⟨"SmallerInTheShopModel", "wind", "(II)J"⟩, prog_9_method_71_code, 12, (Option.some FieldType.long), 6, mc_co mp_206) := mk_Mt_ok (j := 1194) (by decide +kernel) (by decide +kernel) (by decide +kernel) (by decide +kernel)
set_option maxRecDepth 100000 in
theorem mq_207 : mk_Mt (⟨"SmallerInTheShopModel", "refusedLong", "(I)J"⟩, prog_9_method_4_code, 2, (Option.some FieldType.long), 6, mc_co mp_207) := mk_Mt_ok (j := 1199) (by decide +kernel) (by decide +kernel) (by decide +kernel) (by decide +kernel)
set_option maxRecDepth 100000 in
theorem mq_208 : mk_Mt (⟨"SmallerInTheShopModel", "goes", "(I)I"⟩, prog_9_method_70_code, 5, (Option.some FieldType.int), 6, mc_co mp_208) := mk_Mt_ok (j := 1204) (by decide +kernel) (by decide +kernel) (by decide +kernel) (by decide +kernel)
set_option maxRecDepth 100000 in
theorem mq_209 : mk_Mt (⟨"SmallerInTheShopModel", "lowest", "(JJI)J"⟩, prog_9_method_69_code, 11, (Option.some FieldType.long), 6, mc_co mp_209) := mk_Mt_ok (j := 1207) (by decide +kernel) (by decide +kernel) (by decide +kernel) (by decide +kernel)
set_option maxRecDepth 100000 in
theorem mq_210 : mk_Mt (⟨"SmallerInTheShopModel", "mean", "(I)J"⟩, prog_9_method_72_code, 2, (Option.some FieldType.long), 6, mc_co mp_210) := mk_Mt_ok (j := 1211) (by decide +kernel) (by decide +kernel) (by decide +kernel) (by decide +kernel)
set_option maxRecDepth 100000 in
theorem mq_211 : mk_Mt (⟨"SmallerInTheShopModel", "whatIs", "(II)I"⟩, prog_9_method_74_code, 6, (Option.some FieldType.int), 6, mc_co mp_211) := mk_Mt_ok (j := 1216) (by decide +kernel) (by decide +kernel) (by decide +kernel) (by decide +kernel)
set_option maxRecDepth 100000 in
theorem mq_212 : mk_Mt (⟨"SmallerInTheShopModel", "isSo", "(II)Z"⟩, prog_9_method_73_code, 4, (Option.some FieldType.boolean), 6, mc_co mp_212) := mk_Mt_ok (j := 1220) (by decide +kernel) (by decide +kernel) (by decide +kernel) (by decide +kernel)
set_option maxRecDepth 100000 in
theorem mq_213 : mk_Mt (⟨"SmallerInTheShopModel", "row", "(I)I"⟩, prog_9_method_75_code, 2, (Option.some FieldType.int), 6, mc_co mp_213) := mk_Mt_ok (j := 1224) (by decide +kernel) (by decide +kernel) (by decide +kernel) (by decide +kernel)
set_option maxRecDepth 100000 in
theorem mq_214 : mk_Mt (⟨"SmallerInTheShopModel", "judge", "()I"⟩, prog_9_method_76_code, 2, (Option.some FieldType.int), 6, mc_co mp_214) := mk_Mt_ok (j := 1228) (by decide +kernel) (by decide +kernel) (by decide +kernel) (by decide +kernel)
set_option maxRecDepth 100000 in
theorem mq_215 : mk_Mt (⟨"SmallerInTheShopModel", "clear", "()I"⟩, prog_9_method_77_code, 2, (Option.some FieldType.int), 6, mc_co mp_215) := mk_Mt_ok (j := 1232) (by decide +kernel) (by decide +kernel) (by decide +kernel) (by decide +kernel)
set_option maxRecDepth 100000 in
theorem mq_216 : mk_Mt (⟨"SmallerInTheShopModel", "lots", "(III)I"⟩, prog_9_method_80_code, 7, (Option.some FieldType.int), 6, mc_co mp_216) := mk_Mt_ok (j := 1236) (by decide +kernel) (by decide +kernel) (by decide +kernel) (by decide +kernel)
set_option maxRecDepth 100000 in
theorem mq_217 : mk_Mt (⟨"SmallerInTheShopModel", "shutsByLot", "()I"⟩, prog_9_method_79_code, 5, (Option.some FieldType.int), 6, mc_co mp_217) := mk_Mt_ok (j := 1240) (by decide +kernel) (by decide +kernel) (by decide +kernel) (by decide +kernel)
set_option maxRecDepth 100000 in
theorem mq_218 : mk_Mt (⟨"SmallerInTheShopModel", "draw", "(I)I"⟩, prog_9_method_78_code, 2, (Option.some FieldType.int), 6, mc_co mp_218) := mk_Mt_ok (j := 1244) (by decide +kernel) (by decide +kernel) (by decide +kernel) (by decide +kernel)
set_option maxRecDepth 100000 in
theorem mq_219 : mk_Mt (⟨"SmallerInTheShopModel", "image", "()I"⟩, prog_9_method_81_code, 1, (Option.some FieldType.int), 6, mc_co mp_219) := mk_Mt_ok (j := 1251) (by decide +kernel) (by decide +kernel) (by decide +kernel) (by decide +kernel)
set_option maxRecDepth 100000 in
theorem mq_220 : mk_Mt (⟨"SmallerInTheShopModel", "on", "()I"⟩, prog_9_method_82_code, 1, (Option.some FieldType.int), 6, mc_co mp_220) := mk_Mt_ok (j := 1255) (by decide +kernel) (by decide +kernel) (by decide +kernel) (by decide +kernel)
set_option maxRecDepth 100000 in
theorem mq_221 : mk_Mt (⟨"SmallerInTheShopModel", "count", "(I)I"⟩, prog_9_method_83_code, 2, (Option.some FieldType.int), 6, mc_co mp_221) := mk_Mt_ok (j := 1259) (by decide +kernel) (by decide +kernel) (by decide +kernel) (by decide +kernel)
theorem mr_5 : ∀ q ∈ mc_P5, mk_Mt q := List.forall_mem_cons.mpr ⟨mq_200, List.forall_mem_cons.mpr ⟨mq_201, List.forall_mem_cons.mpr ⟨mq_202, List.forall_mem_cons.mpr ⟨mq_203, List.forall_mem_cons.mpr ⟨mq_204, List.forall_mem_cons.mpr ⟨mq_205, List.forall_mem_cons.mpr ⟨mq_206, List.forall_mem_cons.mpr ⟨mq_207, List.forall_mem_cons.mpr ⟨mq_208, List.forall_mem_cons.mpr ⟨mq_209, List.forall_mem_cons.mpr ⟨mq_210, List.forall_mem_cons.mpr ⟨mq_211, List.forall_mem_cons.mpr ⟨mq_212, List.forall_mem_cons.mpr ⟨mq_213, List.forall_mem_cons.mpr ⟨mq_214, List.forall_mem_cons.mpr ⟨mq_215, List.forall_mem_cons.mpr ⟨mq_216, List.forall_mem_cons.mpr ⟨mq_217, List.forall_mem_cons.mpr ⟨mq_218, List.forall_mem_cons.mpr ⟨mq_219, List.forall_mem_cons.mpr ⟨mq_220, List.forall_mem_cons.mpr ⟨mq_221, fun _ h => absurd h List.not_mem_nil⟩⟩⟩⟩⟩⟩⟩⟩⟩⟩⟩⟩⟩⟩⟩⟩⟩⟩⟩⟩⟩⟩
theorem mc_all : ∀ q ∈ mc_PL, mk_Mt q := List.forall_mem_append.mpr ⟨mr_0, List.forall_mem_append.mpr ⟨mr_1, List.forall_mem_append.mpr ⟨mr_2, List.forall_mem_append.mpr ⟨mr_3, List.forall_mem_append.mpr ⟨mr_4, mr_5⟩⟩⟩⟩⟩
theorem mc_okP : mm_okP mc_cl mc_tb mc_sf mc_sts mc_sks mc_nws mc_lay mc_fty mc_nf 1 mc_P := by
  intro k y b mL rt ci co h
  exact mc_all _ (List.mem_of_getElem? h)
end
section
/-! weakest preconditions over the small machine: no fuel is seen; n is the depth of calls that is left -/
theorem mm_run_le {fty : Nat → Nat → FieldType} {X : mm_X} {nf : Nat → List Value} {li : Nat} {cls : Nat → Nat} {call call' : Nat → List Value → mm_M → Option (Option Value × mm_M)} (hc : ∀ k as M x, call k as M = some x → call' k as M = some x) {ret : Option FieldType} {code : Nat → Option mm_I} {x : Option Value × mm_M} :
    ∀ (f f' pc : Nat) (L : mm_L) (st : List Value) (M : mm_M), f ≤ f' → mm_run fty X nf li cls call ret code f pc L st M = some x → mm_run fty X nf li cls call' ret code f' pc L st M = some x := by
  intro f
  induction f with
  | zero => intro f' pc L st M _ h; simp [mm_run] at h
  | succ f ih =>
    intro f' pc L st M hf h
    obtain ⟨g, rfl⟩ : ∃ g, f' = g + 1 := ⟨f' - 1, by omega⟩
    have hg : f ≤ g := by omega
    simp only [mm_run] at h ⊢
    cases hco : code pc with
    | none => rw [hco] at h; cases h
    | some i =>
      rw [hco] at h
      dsimp only at h ⊢
      cases hr : mm_ret ret i st with
      | some r => rw [hr] at h; exact h
      | none =>
        rw [hr] at h
        dsimp only at h ⊢
        cases hi : mm_inv i with
        | some q =>
          obtain ⟨kd, k, n⟩ := q
          rw [hi] at h
          dsimp only at h ⊢
          split at h
          · rename_i hcd
            rw [if_pos hcd]
            cases hq : call k (st.take n).reverse M with
            | none => rw [hq] at h; cases h
            | some q =>
              rw [hq] at h
              rw [hc _ _ _ _ hq]
              exact ih g _ _ _ _ hg h
          · cases h
        | none =>
          rw [hi] at h
          dsimp only at h ⊢
          cases hm : mm_make nf li i pc st M with
          | some q =>
            rw [hm] at h
            exact ih g _ _ _ _ hg h
          | none =>
            rw [hm] at h
            dsimp only at h ⊢
            cases hs : mm_step fty X i pc L st M with
            | some q =>
              rw [hs] at h
              exact ih g _ _ _ _ hg h
            | none => rw [hs] at h; cases h
theorem mm_ev_le {fty : Nat → Nat → FieldType} {X : mm_X} {nf : Nat → List Value} {li : Nat} {P : Nat → Option mm_Mt} {F F' : Nat} (hF : F ≤ F') : ∀ (d d' : Nat), d ≤ d' → ∀ (k : Nat) (as : List Value) (M : mm_M) (x : Option Value × mm_M), mm_ev fty X nf li P F d k as M = some x → mm_ev fty X nf li P F' d' k as M = some x := by
  intro d
  induction d with
  | zero => intro d' _ k as M x h; simp [mm_ev] at h
  | succ d ih =>
    intro d' hd k as M x h
    obtain ⟨g, rfl⟩ : ∃ g, d' = g + 1 := ⟨d' - 1, by omega⟩
    simp only [mm_ev] at h ⊢
    cases hP : P k with
    | none => rw [hP] at h; cases h
    | some q =>
      rw [hP] at h
      dsimp only at h ⊢
      split at h
      · rename_i hl
        rw [if_pos hl]
        exact mm_run_le (ih g (by omega)) _ _ _ _ _ _ hF h
      · cases h
abbrev mw_B : Type := Option FieldType × List (Nat × mm_I)
def Wp (scr : List Int32) (n k : Nat) (as : List Value) (M : mm_M) (Q : Option Value → mm_M → Prop) : Prop := ∃ F r M', mm_ev mc_fty (mc_X scr) mc_nf 1 mc_P F n k as M = some (r, M') ∧ Q r M'
def wp (scr : List Int32) (n : Nat) (c : mw_B) (pc : Nat) (L : mm_L) (st : List Value) (M : mm_M) (Q : Option Value → mm_M → Prop) : Prop := ∃ F f r M', mm_run mc_fty (mc_X scr) mc_nf 1 (mm_cls mc_P) (mm_ev mc_fty (mc_X scr) mc_nf 1 mc_P F n) c.1 (mc_co c.2) f pc L st M = some (r, M') ∧ Q r M'
def mw_o {α : Type} (o : Option α) (Φ : α → Prop) : Prop := match o with
  | some v => Φ v
  | none => False
theorem mw_os {α : Type} {v : α} {Φ : α → Prop} : mw_o (some v) Φ ↔ Φ v := Iff.rfl
theorem mw_oe {α : Type} {o : Option α} {v : α} {Φ : α → Prop} (h : o = some v) : mw_o o Φ ↔ Φ v := by rw [h]; exact Iff.rfl
def mm_ld (X : mm_X) (M : mm_M) (o : Value) (j : Int32) : Option Int32 := (mm_row X M o).bind (fun xs => mm_at xs j)
def mm_lda (M : mm_M) (a : Nat) (j : Int32) : Option Value := match M[a]? with
  | some (.inr (.inl (t, rs))) => if t = 1 ∨ t = 2 then (mm_atq rs j).map mm_rf else none
  | _ => none
section MW
variable {scr : List Int32} {n : Nat} {c : mw_B} {pc pc' : Nat} {L L' : mm_L} {st st' : List Value} {M M' : mm_M} {Q : Option Value → mm_M → Prop} {i : mm_I}
theorem wp_step (hc : mc_co c.2 pc = some i) (h1 : mm_ret c.1 i st = none) (h2 : mm_inv i = none) (h3 : mm_make mc_nf 1 i pc st M = none) (hs : mm_step mc_fty (mc_X scr) i pc L st M = some (pc', L', st', M')) : wp scr n c pc L st M Q ↔ wp scr n c pc' L' st' M' Q := by
  constructor
  · rintro ⟨F, f, r, M2, h, hq⟩
    cases f with
    | zero => simp [mm_run] at h
    | succ f =>
      simp only [mm_run, hc, h1, h2, h3, hs] at h
      exact ⟨F, f, r, M2, h, hq⟩
  · rintro ⟨F, f, r, M2, h, hq⟩
    exact ⟨F, f + 1, r, M2, by simp only [mm_run, hc, h1, h2, h3, hs]; exact h, hq⟩
theorem wp_none (hc : mc_co c.2 pc = some i) (h1 : mm_ret c.1 i st = none) (h2 : mm_inv i = none) (h3 : mm_make mc_nf 1 i pc st M = none) (hs : mm_step mc_fty (mc_X scr) i pc L st M = none) : ¬ wp scr n c pc L st M Q := by
  rintro ⟨F, f, r, M2, h, hq⟩
  cases f with
  | zero => simp [mm_run] at h
  | succ f => simp [mm_run, hc, h1, h2, h3, hs] at h
theorem wp_make (hc : mc_co c.2 pc = some i) (h1 : mm_ret c.1 i st = none) (h2 : mm_inv i = none) (h3 : mm_make mc_nf 1 i pc st M = some (pc', st', M')) : wp scr n c pc L st M Q ↔ wp scr n c pc' L st' M' Q := by
  constructor
  · rintro ⟨F, f, r, M2, h, hq⟩
    cases f with
    | zero => simp [mm_run] at h
    | succ f =>
      simp only [mm_run, hc, h1, h2, h3] at h
      exact ⟨F, f, r, M2, h, hq⟩
  · rintro ⟨F, f, r, M2, h, hq⟩
    exact ⟨F, f + 1, r, M2, by simp only [mm_run, hc, h1, h2, h3]; exact h, hq⟩
theorem wp_ret {r : Option Value} (hc : mc_co c.2 pc = some i) (h1 : mm_ret c.1 i st = some r) : wp scr n c pc L st M Q ↔ Q r M := by
  constructor
  · rintro ⟨F, f, r2, M2, h, hq⟩
    cases f with
    | zero => simp [mm_run] at h
    | succ f =>
      simp only [mm_run, hc, h1] at h
      cases h
      exact hq
  · intro hq
    exact ⟨0, 1, r, M, by simp only [mm_run, hc, h1], hq⟩
theorem wp_call {kd k na : Nat} (hc : mc_co c.2 pc = some i) (h1 : mm_ret c.1 i st = none) (h2 : mm_inv i = some (kd, k, na)) (h3 : na ≤ st.length) (h4 : mm_rok (mc_X scr) M kd (mm_cls mc_P k) (st.take na).reverse = true) (h5 : ((st.drop na).map Value.category).sum ≤ 8) :
    wp scr n c pc L st M Q ↔ Wp scr n k (st.take na).reverse M (fun r1 M1 => wp scr n c (pc + 3) L (r1.toList ++ st.drop na) M1 Q) := by
  constructor
  · rintro ⟨F, f, r, M2, h, hq⟩
    cases f with
    | zero => simp [mm_run] at h
    | succ f =>
      simp only [mm_run, hc, h1, h2, if_pos (And.intro h3 (And.intro h4 h5))] at h
      split at h
      · rename_i r1 M1 hcl
        exact ⟨F, r1, M1, hcl, F, f, r, M2, h, hq⟩
      · cases h
  · rintro ⟨F1, r1, M1, hcl, F2, f, r, M2, h, hq⟩
    refine ⟨max F1 F2, f + 1, r, M2, ?_, hq⟩
    simp only [mm_run, hc, h1, h2, if_pos (And.intro h3 (And.intro h4 h5))]
    rw [mm_ev_le (Nat.le_max_left F1 F2) n n (Nat.le_refl _) _ _ _ _ hcl]
    exact mm_run_le (mm_ev_le (Nat.le_max_right F1 F2) n n (Nat.le_refl _)) _ _ _ _ _ _ (Nat.le_refl _) h
theorem wp_ite {p : Prop} {hp : Decidable p} {a b : Nat} : wp scr n c (@ite Nat p hp a b) L st M Q ↔ @ite Prop p hp (wp scr n c a L st M Q) (wp scr n c b L st M Q) := by
  split <;> exact Iff.rfl
theorem Wp_body {k : Nat} {as : List Value} {y : MethodName} {b : ByteArray} {mL ci : Nat} (hP : mc_P k = some (y, b, mL, c.1, ci, mc_co c.2)) (he : (mm_ent as).length ≤ mL) : Wp scr (n + 1) k as M Q ↔ wp scr n c 0 (mm_entry as mL) [] M Q := by
  constructor
  · rintro ⟨F, r, M2, h, hq⟩
    simp only [mm_ev, hP, if_pos he] at h
    exact ⟨F, F, r, M2, h, hq⟩
  · rintro ⟨F, f, r, M2, h, hq⟩
    refine ⟨max F f, r, M2, ?_, hq⟩
    simp only [mm_ev, hP, if_pos he]
    exact mm_run_le (mm_ev_le (Nat.le_max_left F f) n n (Nat.le_refl _)) _ _ _ _ _ _ (Nat.le_max_right F f) h
theorem Wp_mono {k n n' : Nat} {as : List Value} (hn : n ≤ n') {Q' : Option Value → mm_M → Prop} (hQ : ∀ r M, Q r M → Q' r M) (h : Wp scr n k as M Q) : Wp scr n' k as M Q' := by
  obtain ⟨F, r, M2, h1, h2⟩ := h
  exact ⟨F, r, M2, mm_ev_le (Nat.le_refl _) _ _ hn _ _ _ _ h1, hQ _ _ h2⟩
theorem wp_mono {Q' : Option Value → mm_M → Prop} (hQ : ∀ r M, Q r M → Q' r M) (h : wp scr n c pc L st M Q) : wp scr n c pc L st M Q' := by
  obtain ⟨F, f, r, M2, h1, h2⟩ := h
  exact ⟨F, f, r, M2, h1, hQ _ _ h2⟩
/-- one instruction that reads a field -/
theorem wp_getf {idx len a b : Nat} {v : Value} {p : List Nat} {o : Value} (hc : mc_co c.2 pc = some (.getfield idx, len, a, b, v, p)) : wp scr n c pc L (o :: st) M Q ↔ mw_o (mm_fld (mc_X scr) M o a b) (fun v => wp scr n c (pc + 3) L (v :: st) M Q) := by
  cases h : mm_fld (mc_X scr) M o a b with
  | some v => exact wp_step hc rfl rfl rfl (by simp only [mm_step, h])
  | none => exact ⟨fun z => wp_none hc rfl rfl rfl (by simp only [mm_step, h]) z, fun z => z.elim⟩
theorem wp_putf {idx len a b : Nat} {v0 : Value} {p : List Nat} {o v : Value} (hc : mc_co c.2 pc = some (.putfield idx, len, a, b, v0, p)) : wp scr n c pc L (v :: o :: st) M Q ↔ mw_o (mm_put mc_fty M o v a b) (fun M1 => wp scr n c (pc + 3) L st M1 Q) := by
  cases h : mm_put mc_fty M o v a b with
  | some v => exact wp_step hc rfl rfl rfl (by simp only [mm_step, h])
  | none => exact ⟨fun z => wp_none hc rfl rfl rfl (by simp only [mm_step, h]) z, fun z => z.elim⟩
theorem wp_iald {t : Nat × Nat × Nat × Value × List Nat} {o : Value} {j : Int32} (hc : mc_co c.2 pc = some (.iaload, t)) : wp scr n c pc L (.int j :: o :: st) M Q ↔ mw_o (mm_ld (mc_X scr) M o j) (fun x => wp scr n c (pc + 1) L (.int x :: st) M Q) := by
  unfold mm_ld
  cases h : mm_row (mc_X scr) M o with
  | some xs =>
    rw [Option.bind_some]
    cases h2 : mm_at xs j with
    | some x => exact wp_step hc rfl rfl rfl (by simp only [mm_step, h, h2])
    | none => exact ⟨fun z => wp_none hc rfl rfl rfl (by simp only [mm_step, h, h2]) z, fun z => z.elim⟩
  | none => exact ⟨fun z => wp_none hc rfl rfl rfl (by simp only [mm_step, h]) z, fun z => z.elim⟩
theorem wp_iast {t : Nat × Nat × Nat × Value × List Nat} {o : Value} {j x : Int32} (hc : mc_co c.2 pc = some (.iastore, t)) : wp scr n c pc L (.int x :: .int j :: o :: st) M Q ↔ mw_o (mm_sti M o j x) (fun M1 => wp scr n c (pc + 1) L st M1 Q) := by
  cases h : mm_sti M o j x with
  | some v => exact wp_step hc rfl rfl rfl (by simp only [mm_step, h])
  | none => exact ⟨fun z => wp_none hc rfl rfl rfl (by simp only [mm_step, h]) z, fun z => z.elim⟩
theorem wp_aald {t : Nat × Nat × Nat × Value × List Nat} {a : Nat} {j : Int32} (hc : mc_co c.2 pc = some (.aaload, t)) : wp scr n c pc L (.int j :: .ref a :: st) M Q ↔ mw_o (mm_lda M a j) (fun v => wp scr n c (pc + 1) L (v :: st) M Q) := by
  unfold mm_lda
  split
  · rename_i t9 rs hM
    split
    · rename_i ht
      cases h2 : mm_atq rs j with
      | some r => exact wp_step hc rfl rfl rfl (by simp only [mm_step, hM, h2, if_pos ht])
      | none => exact ⟨fun z => wp_none hc rfl rfl rfl (by simp only [mm_step, hM, h2, if_pos ht]) z, fun z => z.elim⟩
    · rename_i ht
      exact ⟨fun z => wp_none hc rfl rfl rfl (by simp only [mm_step, hM, if_neg ht]) z, fun z => z.elim⟩
  · rename_i hM
    refine ⟨fun z => wp_none hc rfl rfl rfl ?_ z, fun z => z.elim⟩
    simp only [mm_step]
theorem wp_bald {t : Nat × Nat × Nat × Value × List Nat} {a : Nat} {j : Int32} (hc : mc_co c.2 pc = some (.baload, t)) : wp scr n c pc L (.int j :: .retAddr a :: st) M Q ↔ mw_o (if a < 50 then none else (match mc_X scr a with | some (.inl xs) => mm_at xs j | _ => none)) (fun x => wp scr n c (pc + 1) L (.int x :: st) M Q) := by
  by_cases h50 : a < 50
  · rw [if_pos h50]
    exact ⟨fun z => wp_none hc rfl rfl rfl (by simp only [mm_step, if_pos h50]) z, fun z => z.elim⟩
  · rw [if_neg h50]
    split
    · rename_i xs hX
      cases h2 : mm_at xs j with
      | some x => exact wp_step hc rfl rfl rfl (by simp only [mm_step, if_neg h50, hX, h2])
      | none => exact ⟨fun z => wp_none hc rfl rfl rfl (by simp only [mm_step, if_neg h50, hX, h2]) z, fun z => z.elim⟩
    · rename_i hX
      refine ⟨fun z => wp_none hc rfl rfl rfl ?_ z, fun z => z.elim⟩
      simp only [mm_step, if_neg h50]
theorem wp_alen {t : Nat × Nat × Nat × Value × List Nat} {a : Nat} (hc : mc_co c.2 pc = some (.arraylength, t)) : wp scr n c pc L (.retAddr a :: st) M Q ↔ mw_o (match mc_X scr a with | some (.inl xs) => some (Int32.ofNat xs.length) | _ => none) (fun x => wp scr n c (pc + 1) L (.int x :: st) M Q) := by
  split
  · rename_i xs hX
    exact wp_step hc rfl rfl rfl (by simp only [mm_step, hX])
  · rename_i hX
    refine ⟨fun z => wp_none hc rfl rfl rfl ?_ z, fun z => z.elim⟩
    simp only [mm_step]
theorem wp_idiv {t : Nat × Nat × Nat × Value × List Nat} {x y : Int32} (hc : mc_co c.2 pc = some (.idiv, t)) : wp scr n c pc L (.int y :: .int x :: st) M Q ↔ (if y = 0 then False else wp scr n c (pc + 1) L (.int (x / y) :: st) M Q) := by
  split
  · rename_i h
    exact ⟨fun z => wp_none hc rfl rfl rfl (by simp only [mm_step, if_pos h]) z, fun z => z.elim⟩
  · rename_i h
    exact wp_step hc rfl rfl rfl (by simp only [mm_step, if_neg h])
theorem wp_irem {t : Nat × Nat × Nat × Value × List Nat} {x y : Int32} (hc : mc_co c.2 pc = some (.irem, t)) : wp scr n c pc L (.int y :: .int x :: st) M Q ↔ (if y = 0 then False else wp scr n c (pc + 1) L (.int (x - x / y * y) :: st) M Q) := by
  split
  · rename_i h
    exact ⟨fun z => wp_none hc rfl rfl rfl (by simp only [mm_step, if_pos h]) z, fun z => z.elim⟩
  · rename_i h
    exact wp_step hc rfl rfl rfl (by simp only [mm_step, if_neg h])
theorem wp_ldiv {t : Nat × Nat × Nat × Value × List Nat} {x y : Int64} (hc : mc_co c.2 pc = some (.ldiv, t)) : wp scr n c pc L (.long y :: .long x :: st) M Q ↔ (if y = 0 then False else wp scr n c (pc + 1) L (.long (x / y) :: st) M Q) := by
  split
  · rename_i h
    exact ⟨fun z => wp_none hc rfl rfl rfl (by simp only [mm_step, if_pos h]) z, fun z => z.elim⟩
  · rename_i h
    exact wp_step hc rfl rfl rfl (by simp only [mm_step, if_neg h])
theorem wp_lrem {t : Nat × Nat × Nat × Value × List Nat} {x y : Int64} (hc : mc_co c.2 pc = some (.lrem, t)) : wp scr n c pc L (.long y :: .long x :: st) M Q ↔ (if y = 0 then False else wp scr n c (pc + 1) L (.long (x - x / y * y) :: st) M Q) := by
  split
  · rename_i h
    exact ⟨fun z => wp_none hc rfl rfl rfl (by simp only [mm_step, if_pos h]) z, fun z => z.elim⟩
  · rename_i h
    exact wp_step hc rfl rfl rfl (by simp only [mm_step, if_neg h])
/-- .. a switch -/
theorem wp_tab {d lo hi : Int} {os : Array Int} {t : Nat × Nat × Nat × Value × List Nat} {x : Int32} (hc : mc_co c.2 pc = some (.tableswitch d lo hi os, t)) : wp scr n c pc L (.int x :: st) M Q ↔ (if x.toInt < lo ∨ hi < x.toInt then wp scr n c ((pc : Int) + d).toNat L st M Q else mw_o os[(x.toInt - lo).toNat]? (fun o => wp scr n c ((pc : Int) + o).toNat L st M Q)) := by
  split
  · rename_i h
    exact wp_step hc rfl rfl rfl (by simp only [mm_step, if_pos h])
  · rename_i h
    cases h2 : os[(x.toInt - lo).toNat]? with
    | some o => exact wp_step hc rfl rfl rfl (by simp only [mm_step, if_neg h, h2])
    | none => exact ⟨fun z => wp_none hc rfl rfl rfl (by simp only [mm_step, if_neg h, h2]) z, fun z => z.elim⟩
end MW
end
section
def mw_st (st : List Value) : Prop := (st.map Value.category).sum ≤ 8
/-- an object of this kind lies there -/
def mw_r (M : mm_M) (a ci : Nat) : Prop := ∃ fs : List Value, M[a]? = some (.inr (.inr (ci, fs)))
def mw_x (scr : List Int32) (a : Nat) : Prop := ∃ fs : List Value, mc_X scr a = some (.inr fs)
section MW2
variable {scr : List Int32} {n : Nat} {c : mw_B} {pc pc' : Nat} {L L' : mm_L} {st st' : List Value} {M M' : mm_M} {Q : Option Value → mm_M → Prop} {i : mm_I}
theorem wp_iten {p : Prop} {hp : Decidable (¬ p)} {hp2 : Decidable p} {a b : Nat} : wp scr n c (@ite Nat (¬ p) hp a b) L st M Q ↔ @ite Prop p hp2 (wp scr n c b L st M Q) (wp scr n c a L st M Q) := by
  by_cases h : p
  · rw [if_pos h, if_neg (fun z => z h)]
  · rw [if_neg h, if_pos h]
theorem wp_retN {r : Option Value} (hc : mc_co c.2 pc = some i) (h1 : mm_ret c.1 i st = none) (h2 : mm_inv i = none) (h3 : mm_make mc_nf 1 i pc st M = none) (hs : mm_step mc_fty (mc_X scr) i pc L st M = none) : wp scr n c pc L st M Q ↔ False := ⟨wp_none hc h1 h2 h3 hs, fun z => z.elim⟩
theorem wp_retb {t : Nat × Nat × Nat × Value × List Nat} {x : Int32} (hc : mc_co c.2 pc = some (.ireturn, t)) (hr : c.1 = some .boolean) : wp scr n c pc L [.int x] M Q ↔ ((x = 0 ∨ x = 1) ∧ Q (some (.int x)) M) := by
  by_cases h : x = 0 ∨ x = 1
  · refine (wp_ret hc ?_).trans ⟨fun z => ⟨h, z⟩, fun z => z.2⟩
    have h2 : mm_nar .boolean x = true := by simpa [mm_nar] using h
    simp only [mm_ret, hr, h2, if_true]
  · refine (wp_retN (r := none) hc ?_ rfl rfl rfl).trans ⟨fun z => z.elim, fun z => h z.1⟩
    have h2 : ¬ mm_nar .boolean x = true := by simpa [mm_nar] using h
    simp only [mm_ret, hr, if_neg h2]
theorem wp_reti8 {t : Nat × Nat × Nat × Value × List Nat} {x : Int32} (hc : mc_co c.2 pc = some (.ireturn, t)) (hr : c.1 = some .byte) : wp scr n c pc L [.int x] M Q ↔ (x.toInt8.toInt32 = x ∧ Q (some (.int x)) M) := by
  by_cases h : x.toInt8.toInt32 = x
  · refine (wp_ret hc ?_).trans ⟨fun z => ⟨h, z⟩, fun z => z.2⟩
    have h2 : mm_nar .byte x = true := by simpa [mm_nar] using h
    simp only [mm_ret, hr, h2, if_true]
  · refine (wp_retN (r := none) hc ?_ rfl rfl rfl).trans ⟨fun z => z.elim, fun z => h z.1⟩
    have h2 : ¬ mm_nar .byte x = true := by simpa [mm_nar] using h
    simp only [mm_ret, hr, if_neg h2]
theorem wp_retc {t : Nat × Nat × Nat × Value × List Nat} {x : Int32} (hc : mc_co c.2 pc = some (.ireturn, t)) (hr : c.1 = some .char) : wp scr n c pc L [.int x] M Q ↔ ((x.toUInt32 % 65536).toInt32 = x ∧ Q (some (.int x)) M) := by
  by_cases h : (x.toUInt32 % 65536).toInt32 = x
  · refine (wp_ret hc ?_).trans ⟨fun z => ⟨h, z⟩, fun z => z.2⟩
    have h2 : mm_nar .char x = true := by simp only [mm_nar, h, beq_self_eq_true]
    simp only [mm_ret, hr, h2, if_true]
  · refine (wp_retN (r := none) hc ?_ rfl rfl rfl).trans ⟨fun z => z.elim, fun z => h z.1⟩
    have h2 : ¬ mm_nar .char x = true := by
      simp only [mm_nar, beq_iff_eq]
      exact h
    simp only [mm_ret, hr, if_neg h2]
theorem wp_math997 {idx len na : Nat} {v : Value} {p : List Nat} {x y : Int32} (hc : mc_co c.2 pc = some (.invokestatic idx, len, 997, na, v, p)) : wp scr n c pc L (.int y :: .int x :: st) M Q ↔ (mw_st st ∧ wp scr n c (pc + 3) L (.int (if x < y then y else x) :: st) M Q) := by
  by_cases h : mw_st st
  · exact (wp_make hc rfl rfl (by show (if (st.map Value.category).sum ≤ 8 then _ else _) = _; rw [if_pos (show (st.map Value.category).sum ≤ 8 from h)])).trans ⟨fun z => ⟨h, z⟩, fun z => z.2⟩
  · exact (wp_retN (r := none) hc rfl rfl (by show (if (st.map Value.category).sum ≤ 8 then _ else _) = _; rw [if_neg (show ¬ (st.map Value.category).sum ≤ 8 from h)]) rfl).trans ⟨fun z => z.elim, fun z => h z.1⟩
theorem wp_math998 {idx len na : Nat} {v : Value} {p : List Nat} {x y : Int32} (hc : mc_co c.2 pc = some (.invokestatic idx, len, 998, na, v, p)) : wp scr n c pc L (.int y :: .int x :: st) M Q ↔ (mw_st st ∧ wp scr n c (pc + 3) L (.int (if y < x then y else x) :: st) M Q) := by
  by_cases h : mw_st st
  · exact (wp_make hc rfl rfl (by show (if (st.map Value.category).sum ≤ 8 then _ else _) = _; rw [if_pos (show (st.map Value.category).sum ≤ 8 from h)])).trans ⟨fun z => ⟨h, z⟩, fun z => z.2⟩
  · exact (wp_retN (r := none) hc rfl rfl (by show (if (st.map Value.category).sum ≤ 8 then _ else _) = _; rw [if_neg (show ¬ (st.map Value.category).sum ≤ 8 from h)]) rfl).trans ⟨fun z => z.elim, fun z => h z.1⟩
theorem wp_callC {kd k na : Nat} {as stk : List Value} (hc : mc_co c.2 pc = some i) (h1 : mm_ret c.1 i stk = none) (h2 : mm_inv i = some (kd, k, na)) (hs : stk = as.reverse ++ st) (hn : as.length = na) {C : Prop} (hC : mm_rok (mc_X scr) M kd (mm_cls mc_P k) as = true ↔ C) :
    wp scr n c pc L stk M Q ↔ ((C ∧ mw_st st) ∧ Wp scr n k as M (fun r1 M1 => wp scr n c (pc + 3) L (r1.toList ++ st) M1 Q)) := by
  have e1 : (stk.take na).reverse = as := by rw [hs, ← hn, List.take_left' (by simp), List.reverse_reverse]
  have e2 : stk.drop na = st := by rw [hs, ← hn, List.drop_left' (by simp)]
  have e3 : na ≤ stk.length := by rw [hs, ← hn]; simp
  by_cases h : C ∧ mw_st st
  · refine (wp_call hc h1 h2 e3 (by rw [e1]; exact hC.mpr h.1) (by rw [e2]; exact h.2)).trans ?_
    rw [e1, e2]
    exact ⟨fun z => ⟨h, z⟩, fun z => z.2⟩
  · refine ⟨fun z => ?_, fun z => absurd z.1 h⟩
    obtain ⟨F, f, r, M2, hh, hq⟩ := z
    cases f with
    | zero => simp [mm_run] at hh
    | succ f =>
      simp only [mm_run, hc, h1, h2] at hh
      rw [if_neg (fun z => h ⟨hC.mp (by rw [← e1]; exact z.2.1), by unfold mw_st; rw [← e2]; exact z.2.2⟩)] at hh
      cases hh
theorem wp_sta {idx len k na : Nat} {v : Value} {p : List Nat} {as stk : List Value} (hc : mc_co c.2 pc = some (.invokestatic idx, len, k, na, v, p)) (hs : stk = as.reverse ++ st) (hn : as.length = na) (hk : (decide (k = 997 ∨ k = 998)) = false) : wp scr n c pc L stk M Q ↔ (mw_st st ∧ Wp scr n k as M (fun r1 M1 => wp scr n c (pc + 3) L (r1.toList ++ st) M1 Q)) :=
  (wp_callC (kd := 2) (k := k) (C := True) hc rfl (by simp only [mm_inv, if_neg (of_decide_eq_false hk)]) hs hn (by simp [mm_rok])).trans (by simp)
theorem wp_vir {idx len k na ci b : Nat} {v : Value} {p : List Nat} {as stk : List Value} (hc : mc_co c.2 pc = some (.invokevirtual idx, len, k, na, v, p)) (hs : stk = (.ref b :: as).reverse ++ st) (hn : (Value.ref b :: as).length = na) (hk : mm_cls mc_P k = ci) (h99 : (ci == 99) = false) : wp scr n c pc L stk M Q ↔ ((mw_r M b ci ∧ mw_st st) ∧ Wp scr n k (.ref b :: as) M (fun r1 M1 => wp scr n c (pc + 3) L (r1.toList ++ st) M1 Q)) := by
  refine wp_callC hc rfl rfl hs hn ?_
  rw [hk]
  unfold mw_r
  simp only [mm_rok]
  constructor
  · intro h
    split at h
    · rename_i c9 fs hM
      simp only [Bool.and_eq_true, beq_iff_eq] at h
      exact ⟨fs, by rw [hM, h.1]⟩
    · cases h
  · rintro ⟨fs, hM⟩
    rw [hM]
    simp [h99]
theorem wp_virX {idx len k na b : Nat} {v : Value} {p : List Nat} {as stk : List Value} (hc : mc_co c.2 pc = some (.invokevirtual idx, len, k, na, v, p)) (hs : stk = (.retAddr b :: as).reverse ++ st) (hn : (Value.retAddr b :: as).length = na) (hk : mm_cls mc_P k = 99) : wp scr n c pc L stk M Q ↔ ((mw_x scr b ∧ mw_st st) ∧ Wp scr n k (.retAddr b :: as) M (fun r1 M1 => wp scr n c (pc + 3) L (r1.toList ++ st) M1 Q)) := by
  refine wp_callC hc rfl rfl hs hn ?_
  rw [hk]
  unfold mw_x
  simp only [mm_rok]
  constructor
  · intro h
    split at h
    · rename_i fs hM
      exact ⟨fs, hM⟩
    · cases h
  · rintro ⟨fs, hM⟩
    rw [hM]
    rfl
end MW2
end
section
def mw_sw (x : Int32) (ks : List (Int32 × Nat)) (d : Nat) : Nat := match ks with
  | [] => d
  | q :: ks => if x = q.1 then q.2 else mw_sw x ks d
def mw_up (lo : Int) (pc : Int) : List Int → List (Int × Int)
  | [] => []
  | o :: os => (lo, pc + o) :: mw_up (lo + 1) pc os
theorem mw_tab_eq (Φ : Nat → Prop) (x : Int32) (pc : Int) (d : Nat) : ∀ (l : List Int) (lo hi : Int) (ks : List (Int32 × Nat)), hi = lo + l.length - 1 → ks.map (fun q => (q.1.toInt, (q.2 : Int))) = mw_up lo pc l → ((if x.toInt < lo ∨ hi < x.toInt then Φ d else mw_o l[(x.toInt - lo).toNat]? (fun o => Φ (pc + o).toNat)) ↔ Φ (mw_sw x ks d)) := by
  intro l
  induction l with
  | nil =>
    intro lo hi ks h hk
    have : ks = [] := by simpa [mw_up] using hk
    subst this
    rw [if_pos (by simp at h; omega)]
    exact Iff.rfl
  | cons o l ih =>
    intro lo hi ks h hk
    cases ks with
    | nil => simp [mw_up] at hk
    | cons q ks =>
      simp only [mw_up, List.map_cons, List.cons.injEq, Prod.mk.injEq] at hk
      obtain ⟨⟨h1, h2⟩, h3⟩ := hk
      have h4 := ih (lo + 1) hi ks (by simp at h; omega) h3
      simp only [mw_sw]
      by_cases hx : x = q.1
      · rw [if_pos hx]
        have hx2 : x.toInt = lo := by rw [hx]; exact h1
        have hlen : (0 : Int) ≤ l.length := Int.natCast_nonneg _
        rw [if_neg (by simp at h; omega), hx2, Int.sub_self]
        show Φ (pc + o).toNat ↔ Φ q.2
        rw [← h2, Int.toNat_natCast]
      · rw [if_neg hx, ← h4]
        have hx2 : ¬ x.toInt = lo := fun z => hx (Int32.toInt_inj.mp (z.trans h1.symm))
        by_cases hr : x.toInt < lo ∨ hi < x.toInt
        · rw [if_pos hr, if_pos (by omega)]
        · rw [if_neg hr, if_neg (by omega)]
          have e1 : (x.toInt - lo).toNat = (x.toInt - (lo + 1)).toNat + 1 := by omega
          rw [e1, List.getElem?_cons_succ]
theorem mw_look_eq (x : Int32) (pc d : Int) (d' : Nat) (hd : pc + d = (d' : Int)) : ∀ (ps : List (Int × Int)) (ks : List (Int32 × Nat)), ks.map (fun q => (q.1.toInt, (q.2 : Int))) = ps.map (fun q => (q.1, pc + q.2)) → (pc + Op.lookupswitch.offset ps d x.toInt).toNat = mw_sw x ks d' := by
  intro ps
  induction ps with
  | nil =>
    intro ks hk
    have : ks = [] := by simpa using hk
    subst this
    simp only [Op.lookupswitch.offset, mw_sw, hd, Int.toNat_natCast]
  | cons p ps ih =>
    intro ks hk
    cases ks with
    | nil => simp at hk
    | cons q ks =>
      obtain ⟨k, o⟩ := p
      simp only [List.map_cons, List.cons.injEq, Prod.mk.injEq] at hk
      obtain ⟨⟨h1, h2⟩, h3⟩ := hk
      simp only [mw_sw, ← ih ks h3, Op.lookupswitch.offset]
      by_cases hx : x = q.1
      · have hx2 : x.toInt = k := by rw [hx]; exact h1
        simp [hx, hx2, ← h1, ← h2]
      · have hx2 : ¬ x.toInt = k := fun z => hx (Int32.toInt_inj.mp (z.trans h1.symm))
        have hx3 : ¬ k = x.toInt := fun z => hx2 z.symm
        simp [hx, hx2, hx3]
section MW3
variable {scr : List Int32} {n : Nat} {c : mw_B} {pc : Nat} {L : mm_L} {st : List Value} {M : mm_M} {Q : Option Value → mm_M → Prop}
theorem wp_tabS {d lo hi : Int} {os : Array Int} {t : Nat × Nat × Nat × Value × List Nat} {x : Int32} {ks : List (Int32 × Nat)} {d' : Nat} (hc : mc_co c.2 pc = some (.tableswitch d lo hi os, t)) (h1 : decide (hi = lo + os.toList.length - 1) = true) (h2 : decide (ks.map (fun q => (q.1.toInt, (q.2 : Int))) = mw_up lo pc os.toList) = true) (h3 : decide (((pc : Int) + d).toNat = d') = true) : wp scr n c pc L (.int x :: st) M Q ↔ wp scr n c (mw_sw x ks d') L st M Q := by
  refine (wp_tab hc).trans ?_
  rw [of_decide_eq_true h3]
  have := mw_tab_eq (fun q => wp scr n c q L st M Q) x pc d' os.toList lo hi ks (of_decide_eq_true h1) (of_decide_eq_true h2)
  rw [← this]
  rw [Array.getElem?_toList]
theorem wp_lookS {d : Int} {ps : Array (Int × Int)} {t : Nat × Nat × Nat × Value × List Nat} {x : Int32} {ks : List (Int32 × Nat)} {d' : Nat} (hc : mc_co c.2 pc = some (.lookupswitch d ps, t)) (h1 : decide ((pc : Int) + d = (d' : Int)) = true) (h2 : decide (ks.map (fun q => (q.1.toInt, (q.2 : Int))) = ps.toList.map (fun q => (q.1, (pc : Int) + q.2))) = true) : wp scr n c pc L (.int x :: st) M Q ↔ wp scr n c (mw_sw x ks d') L st M Q := by
  rw [← mw_look_eq x pc d d' (of_decide_eq_true h1) ps.toList ks (of_decide_eq_true h2)]
  exact wp_step hc rfl rfl rfl rfl
end MW3
end
section
section MU
variable {scr : List Int32} {n : Nat} {L : mm_L} {st : List Value} {M : mm_M} {Q : Option Value → mm_M → Prop} {x y : Int32} {z w : Int64} {a : Nat} {o v a1 a2 a3 a4 a5 a6 : Value} {l0 l1 l2 l3 l4 l5 l6 l7 l8 l9 l10 l11 l12 l13 l14 : Option Value}
/-- java/lang/Integer bitCount (I)I -/
def mb_0 : mw_B := ((Option.some FieldType.int), mp_0)
theorem u0_0 : wp scr n mb_0 0 [some (.int x)] st M Q ↔ wp scr n mb_0 1 [some (.int x)] (.int x :: st) M Q := wp_step rfl rfl rfl rfl rfl
theorem u0_1 : wp scr n mb_0 1 [some (.int x)] st M Q ↔ wp scr n mb_0 2 [some (.int x)] (.int x :: st) M Q := wp_step rfl rfl rfl rfl rfl
theorem u0_2 : wp scr n mb_0 2 L st M Q ↔ wp scr n mb_0 3 L (.int 1 :: st) M Q := wp_step rfl rfl rfl rfl rfl
theorem u0_3 : wp scr n mb_0 3 L (.int y :: .int x :: st) M Q ↔ wp scr n mb_0 4 L (.int (x.toUInt32 >>> (y.toUInt32 &&& Int32.toUInt32 31)).toInt32 :: st) M Q := wp_step rfl rfl rfl rfl rfl
theorem u0_4 : wp scr n mb_0 4 L st M Q ↔ wp scr n mb_0 7 L (.int (1431655765) :: st) M Q := wp_step rfl rfl rfl rfl rfl
theorem u0_7 : wp scr n mb_0 7 L (.int y :: .int x :: st) M Q ↔ wp scr n mb_0 8 L (.int (x &&& y) :: st) M Q := wp_step rfl rfl rfl rfl rfl
theorem u0_8 : wp scr n mb_0 8 L (.int y :: .int x :: st) M Q ↔ wp scr n mb_0 9 L (.int (x - y) :: st) M Q := wp_step rfl rfl rfl rfl rfl
theorem u0_9 : wp scr n mb_0 9 [l0] (.int x :: st) M Q ↔ wp scr n mb_0 10 [some (.int x)] st M Q := wp_step rfl rfl rfl rfl rfl
theorem u0_10 : wp scr n mb_0 10 [some (.int x)] st M Q ↔ wp scr n mb_0 11 [some (.int x)] (.int x :: st) M Q := wp_step rfl rfl rfl rfl rfl
theorem u0_11 : wp scr n mb_0 11 L st M Q ↔ wp scr n mb_0 14 L (.int (858993459) :: st) M Q := wp_step rfl rfl rfl rfl rfl
theorem u0_14 : wp scr n mb_0 14 L (.int y :: .int x :: st) M Q ↔ wp scr n mb_0 15 L (.int (x &&& y) :: st) M Q := wp_step rfl rfl rfl rfl rfl
theorem u0_15 : wp scr n mb_0 15 [some (.int x)] st M Q ↔ wp scr n mb_0 16 [some (.int x)] (.int x :: st) M Q := wp_step rfl rfl rfl rfl rfl
theorem u0_16 : wp scr n mb_0 16 L st M Q ↔ wp scr n mb_0 17 L (.int 2 :: st) M Q := wp_step rfl rfl rfl rfl rfl
theorem u0_17 : wp scr n mb_0 17 L (.int y :: .int x :: st) M Q ↔ wp scr n mb_0 18 L (.int (x.toUInt32 >>> (y.toUInt32 &&& Int32.toUInt32 31)).toInt32 :: st) M Q := wp_step rfl rfl rfl rfl rfl
theorem u0_18 : wp scr n mb_0 18 L st M Q ↔ wp scr n mb_0 21 L (.int (858993459) :: st) M Q := wp_step rfl rfl rfl rfl rfl
theorem u0_21 : wp scr n mb_0 21 L (.int y :: .int x :: st) M Q ↔ wp scr n mb_0 22 L (.int (x &&& y) :: st) M Q := wp_step rfl rfl rfl rfl rfl
theorem u0_22 : wp scr n mb_0 22 L (.int y :: .int x :: st) M Q ↔ wp scr n mb_0 23 L (.int (x + y) :: st) M Q := wp_step rfl rfl rfl rfl rfl
theorem u0_23 : wp scr n mb_0 23 [l0] (.int x :: st) M Q ↔ wp scr n mb_0 24 [some (.int x)] st M Q := wp_step rfl rfl rfl rfl rfl
theorem u0_24 : wp scr n mb_0 24 [some (.int x)] st M Q ↔ wp scr n mb_0 25 [some (.int x)] (.int x :: st) M Q := wp_step rfl rfl rfl rfl rfl
theorem u0_25 : wp scr n mb_0 25 [some (.int x)] st M Q ↔ wp scr n mb_0 26 [some (.int x)] (.int x :: st) M Q := wp_step rfl rfl rfl rfl rfl
theorem u0_26 : wp scr n mb_0 26 L st M Q ↔ wp scr n mb_0 27 L (.int 4 :: st) M Q := wp_step rfl rfl rfl rfl rfl
theorem u0_27 : wp scr n mb_0 27 L (.int y :: .int x :: st) M Q ↔ wp scr n mb_0 28 L (.int (x.toUInt32 >>> (y.toUInt32 &&& Int32.toUInt32 31)).toInt32 :: st) M Q := wp_step rfl rfl rfl rfl rfl
theorem u0_28 : wp scr n mb_0 28 L (.int y :: .int x :: st) M Q ↔ wp scr n mb_0 29 L (.int (x + y) :: st) M Q := wp_step rfl rfl rfl rfl rfl
theorem u0_29 : wp scr n mb_0 29 L st M Q ↔ wp scr n mb_0 32 L (.int (252645135) :: st) M Q := wp_step rfl rfl rfl rfl rfl
theorem u0_32 : wp scr n mb_0 32 L (.int y :: .int x :: st) M Q ↔ wp scr n mb_0 33 L (.int (x &&& y) :: st) M Q := wp_step rfl rfl rfl rfl rfl
theorem u0_33 : wp scr n mb_0 33 [l0] (.int x :: st) M Q ↔ wp scr n mb_0 34 [some (.int x)] st M Q := wp_step rfl rfl rfl rfl rfl
theorem u0_34 : wp scr n mb_0 34 [some (.int x)] st M Q ↔ wp scr n mb_0 35 [some (.int x)] (.int x :: st) M Q := wp_step rfl rfl rfl rfl rfl
theorem u0_35 : wp scr n mb_0 35 [some (.int x)] st M Q ↔ wp scr n mb_0 36 [some (.int x)] (.int x :: st) M Q := wp_step rfl rfl rfl rfl rfl
theorem u0_36 : wp scr n mb_0 36 L st M Q ↔ wp scr n mb_0 38 L (.int 8 :: st) M Q := wp_step rfl rfl rfl rfl rfl
theorem u0_38 : wp scr n mb_0 38 L (.int y :: .int x :: st) M Q ↔ wp scr n mb_0 39 L (.int (x.toUInt32 >>> (y.toUInt32 &&& Int32.toUInt32 31)).toInt32 :: st) M Q := wp_step rfl rfl rfl rfl rfl
theorem u0_39 : wp scr n mb_0 39 L (.int y :: .int x :: st) M Q ↔ wp scr n mb_0 40 L (.int (x + y) :: st) M Q := wp_step rfl rfl rfl rfl rfl
theorem u0_40 : wp scr n mb_0 40 [l0] (.int x :: st) M Q ↔ wp scr n mb_0 41 [some (.int x)] st M Q := wp_step rfl rfl rfl rfl rfl
theorem u0_41 : wp scr n mb_0 41 [some (.int x)] st M Q ↔ wp scr n mb_0 42 [some (.int x)] (.int x :: st) M Q := wp_step rfl rfl rfl rfl rfl
theorem u0_42 : wp scr n mb_0 42 [some (.int x)] st M Q ↔ wp scr n mb_0 43 [some (.int x)] (.int x :: st) M Q := wp_step rfl rfl rfl rfl rfl
theorem u0_43 : wp scr n mb_0 43 L st M Q ↔ wp scr n mb_0 45 L (.int 16 :: st) M Q := wp_step rfl rfl rfl rfl rfl
theorem u0_45 : wp scr n mb_0 45 L (.int y :: .int x :: st) M Q ↔ wp scr n mb_0 46 L (.int (x.toUInt32 >>> (y.toUInt32 &&& Int32.toUInt32 31)).toInt32 :: st) M Q := wp_step rfl rfl rfl rfl rfl
theorem u0_46 : wp scr n mb_0 46 L (.int y :: .int x :: st) M Q ↔ wp scr n mb_0 47 L (.int (x + y) :: st) M Q := wp_step rfl rfl rfl rfl rfl
theorem u0_47 : wp scr n mb_0 47 [l0] (.int x :: st) M Q ↔ wp scr n mb_0 48 [some (.int x)] st M Q := wp_step rfl rfl rfl rfl rfl
theorem u0_48 : wp scr n mb_0 48 [some (.int x)] st M Q ↔ wp scr n mb_0 49 [some (.int x)] (.int x :: st) M Q := wp_step rfl rfl rfl rfl rfl
theorem u0_49 : wp scr n mb_0 49 L st M Q ↔ wp scr n mb_0 51 L (.int 63 :: st) M Q := wp_step rfl rfl rfl rfl rfl
theorem u0_51 : wp scr n mb_0 51 L (.int y :: .int x :: st) M Q ↔ wp scr n mb_0 52 L (.int (x &&& y) :: st) M Q := wp_step rfl rfl rfl rfl rfl
theorem u0_52 : wp scr n mb_0 52 L [.int x] M Q ↔ Q (some (.int x)) M := wp_ret rfl rfl
/-- java/lang/String isEmpty ()Z -/
def mb_1 : mw_B := ((Option.some FieldType.boolean), mp_1)
theorem u1_0 : wp scr n mb_1 0 [some (.ref a)] st M Q ↔ wp scr n mb_1 1 [some (.ref a)] (.ref a :: st) M Q := wp_step rfl rfl rfl rfl rfl
theorem u1_0b : wp scr n mb_1 0 [some (.retAddr a)] st M Q ↔ wp scr n mb_1 1 [some (.retAddr a)] (.retAddr a :: st) M Q := wp_step rfl rfl rfl rfl rfl
theorem u1_1 : wp scr n mb_1 1 L (o :: st) M Q ↔ mw_o (mm_fld (mc_X scr) M o 99 0) (fun v => wp scr n mb_1 4 L (v :: st) M Q) := wp_getf rfl
theorem u1_4 : wp scr n mb_1 4 L (.retAddr a :: st) M Q ↔ mw_o (match mc_X scr a with | some (.inl xs) => some (Int32.ofNat xs.length) | _ => none) (fun x => wp scr n mb_1 5 L (.int x :: st) M Q) := wp_alen rfl
theorem u1_5 : wp scr n mb_1 5 L (.int x :: st) M Q ↔ (if x = 0 then wp scr n mb_1 8 L st M Q else wp scr n mb_1 12 L st M Q) := (wp_step rfl rfl rfl rfl rfl).trans wp_iten
theorem u1_8 : wp scr n mb_1 8 L st M Q ↔ wp scr n mb_1 9 L (.int 1 :: st) M Q := wp_step rfl rfl rfl rfl rfl
theorem u1_9 : wp scr n mb_1 9 L st M Q ↔ wp scr n mb_1 13 L st M Q := wp_step rfl rfl rfl rfl rfl
theorem u1_12 : wp scr n mb_1 12 L st M Q ↔ wp scr n mb_1 13 L (.int 0 :: st) M Q := wp_step rfl rfl rfl rfl rfl
theorem u1_13 : wp scr n mb_1 13 L [.int x] M Q ↔ ((x = 0 ∨ x = 1) ∧ Q (some (.int x)) M) := wp_retb rfl rfl
/-- java/lang/String length ()I -/
def mb_2 : mw_B := ((Option.some FieldType.int), mp_2)
theorem u2_0 : wp scr n mb_2 0 [some (.ref a)] st M Q ↔ wp scr n mb_2 1 [some (.ref a)] (.ref a :: st) M Q := wp_step rfl rfl rfl rfl rfl
theorem u2_0b : wp scr n mb_2 0 [some (.retAddr a)] st M Q ↔ wp scr n mb_2 1 [some (.retAddr a)] (.retAddr a :: st) M Q := wp_step rfl rfl rfl rfl rfl
theorem u2_1 : wp scr n mb_2 1 L (o :: st) M Q ↔ mw_o (mm_fld (mc_X scr) M o 99 0) (fun v => wp scr n mb_2 4 L (v :: st) M Q) := wp_getf rfl
theorem u2_4 : wp scr n mb_2 4 L (.retAddr a :: st) M Q ↔ mw_o (match mc_X scr a with | some (.inl xs) => some (Int32.ofNat xs.length) | _ => none) (fun x => wp scr n mb_2 5 L (.int x :: st) M Q) := wp_alen rfl
theorem u2_5 : wp scr n mb_2 5 [some (.ref a)] st M Q ↔ wp scr n mb_2 6 [some (.ref a)] (.ref a :: st) M Q := wp_step rfl rfl rfl rfl rfl
theorem u2_5b : wp scr n mb_2 5 [some (.retAddr a)] st M Q ↔ wp scr n mb_2 6 [some (.retAddr a)] (.retAddr a :: st) M Q := wp_step rfl rfl rfl rfl rfl
theorem u2_6 : wp scr n mb_2 6 L (.retAddr a :: st) M Q ↔ ((mw_x scr a ∧ mw_st st) ∧ Wp scr n 3 [.retAddr a] M (fun r1 M1 => wp scr n mb_2 9 L (r1.toList ++ st) M1 Q)) := wp_virX rfl rfl rfl rfl
theorem u2_9 : wp scr n mb_2 9 L (.int y :: .int x :: st) M Q ↔ wp scr n mb_2 10 L (.int (x >>> (y &&& 31)) :: st) M Q := wp_step rfl rfl rfl rfl rfl
theorem u2_10 : wp scr n mb_2 10 L [.int x] M Q ↔ Q (some (.int x)) M := wp_ret rfl rfl
/-- java/lang/String coder ()B -/
def mb_3 : mw_B := ((Option.some FieldType.byte), mp_3)
theorem u3_0 : wp scr n mb_3 0 L st M Q ↔ wp scr n mb_3 3 L (.int 1 :: st) M Q := wp_step rfl rfl rfl rfl rfl
theorem u3_3 : wp scr n mb_3 3 L (.int x :: st) M Q ↔ (if x = 0 then wp scr n mb_3 13 L st M Q else wp scr n mb_3 6 L st M Q) := (wp_step rfl rfl rfl rfl rfl).trans wp_ite
theorem u3_6 : wp scr n mb_3 6 [some (.ref a)] st M Q ↔ wp scr n mb_3 7 [some (.ref a)] (.ref a :: st) M Q := wp_step rfl rfl rfl rfl rfl
theorem u3_6b : wp scr n mb_3 6 [some (.retAddr a)] st M Q ↔ wp scr n mb_3 7 [some (.retAddr a)] (.retAddr a :: st) M Q := wp_step rfl rfl rfl rfl rfl
theorem u3_7 : wp scr n mb_3 7 L (o :: st) M Q ↔ mw_o (mm_fld (mc_X scr) M o 99 1) (fun v => wp scr n mb_3 10 L (v :: st) M Q) := wp_getf rfl
theorem u3_10 : wp scr n mb_3 10 L st M Q ↔ wp scr n mb_3 14 L st M Q := wp_step rfl rfl rfl rfl rfl
theorem u3_13 : wp scr n mb_3 13 L st M Q ↔ wp scr n mb_3 14 L (.int 1 :: st) M Q := wp_step rfl rfl rfl rfl rfl
theorem u3_14 : wp scr n mb_3 14 L [.int x] M Q ↔ (x.toInt8.toInt32 = x ∧ Q (some (.int x)) M) := wp_reti8 rfl rfl
/-- java/lang/String charAt (I)C -/
def mb_4 : mw_B := ((Option.some FieldType.char), mp_4)
theorem u4_0 : wp scr n mb_4 0 [some (.ref a), l1] st M Q ↔ wp scr n mb_4 1 [some (.ref a), l1] (.ref a :: st) M Q := wp_step rfl rfl rfl rfl rfl
theorem u4_0b : wp scr n mb_4 0 [some (.retAddr a), l1] st M Q ↔ wp scr n mb_4 1 [some (.retAddr a), l1] (.retAddr a :: st) M Q := wp_step rfl rfl rfl rfl rfl
theorem u4_1 : wp scr n mb_4 1 L (.retAddr a :: st) M Q ↔ ((mw_x scr a ∧ mw_st st) ∧ Wp scr n 5 [.retAddr a] M (fun r1 M1 => wp scr n mb_4 4 L (r1.toList ++ st) M1 Q)) := wp_virX rfl rfl rfl rfl
theorem u4_4 : wp scr n mb_4 4 L (.int x :: st) M Q ↔ (if x = 0 then wp scr n mb_4 16 L st M Q else wp scr n mb_4 7 L st M Q) := (wp_step rfl rfl rfl rfl rfl).trans wp_ite
theorem u4_7 : wp scr n mb_4 7 [some (.ref a), l1] st M Q ↔ wp scr n mb_4 8 [some (.ref a), l1] (.ref a :: st) M Q := wp_step rfl rfl rfl rfl rfl
theorem u4_7b : wp scr n mb_4 7 [some (.retAddr a), l1] st M Q ↔ wp scr n mb_4 8 [some (.retAddr a), l1] (.retAddr a :: st) M Q := wp_step rfl rfl rfl rfl rfl
theorem u4_8 : wp scr n mb_4 8 L (o :: st) M Q ↔ mw_o (mm_fld (mc_X scr) M o 99 0) (fun v => wp scr n mb_4 11 L (v :: st) M Q) := wp_getf rfl
theorem u4_11 : wp scr n mb_4 11 [l0, some (.int x)] st M Q ↔ wp scr n mb_4 12 [l0, some (.int x)] (.int x :: st) M Q := wp_step rfl rfl rfl rfl rfl
theorem u4_12 : wp scr n mb_4 12 L (a2 :: a1 :: st) M Q ↔ (mw_st st ∧ Wp scr n 9 [a1, a2] M (fun r1 M1 => wp scr n mb_4 15 L (r1.toList ++ st) M1 Q)) := wp_sta rfl rfl rfl rfl
theorem u4_15 : wp scr n mb_4 15 L [.int x] M Q ↔ ((x.toUInt32 % 65536).toInt32 = x ∧ Q (some (.int x)) M) := wp_retc rfl rfl
theorem u4_16 : wp scr n mb_4 16 [some (.ref a), l1] st M Q ↔ wp scr n mb_4 17 [some (.ref a), l1] (.ref a :: st) M Q := wp_step rfl rfl rfl rfl rfl
theorem u4_16b : wp scr n mb_4 16 [some (.retAddr a), l1] st M Q ↔ wp scr n mb_4 17 [some (.retAddr a), l1] (.retAddr a :: st) M Q := wp_step rfl rfl rfl rfl rfl
theorem u4_17 : wp scr n mb_4 17 L (o :: st) M Q ↔ mw_o (mm_fld (mc_X scr) M o 99 0) (fun v => wp scr n mb_4 20 L (v :: st) M Q) := wp_getf rfl
theorem u4_20 : wp scr n mb_4 20 [l0, some (.int x)] st M Q ↔ wp scr n mb_4 21 [l0, some (.int x)] (.int x :: st) M Q := wp_step rfl rfl rfl rfl rfl
theorem u4_24 : wp scr n mb_4 24 L [.int x] M Q ↔ ((x.toUInt32 % 65536).toInt32 = x ∧ Q (some (.int x)) M) := wp_retc rfl rfl
/-- java/lang/String isLatin1 ()Z -/
def mb_5 : mw_B := ((Option.some FieldType.boolean), mp_5)
theorem u5_0 : wp scr n mb_5 0 L st M Q ↔ wp scr n mb_5 3 L (.int 1 :: st) M Q := wp_step rfl rfl rfl rfl rfl
theorem u5_3 : wp scr n mb_5 3 L (.int x :: st) M Q ↔ (if x = 0 then wp scr n mb_5 17 L st M Q else wp scr n mb_5 6 L st M Q) := (wp_step rfl rfl rfl rfl rfl).trans wp_ite
theorem u5_6 : wp scr n mb_5 6 [some (.ref a)] st M Q ↔ wp scr n mb_5 7 [some (.ref a)] (.ref a :: st) M Q := wp_step rfl rfl rfl rfl rfl
theorem u5_6b : wp scr n mb_5 6 [some (.retAddr a)] st M Q ↔ wp scr n mb_5 7 [some (.retAddr a)] (.retAddr a :: st) M Q := wp_step rfl rfl rfl rfl rfl
theorem u5_7 : wp scr n mb_5 7 L (o :: st) M Q ↔ mw_o (mm_fld (mc_X scr) M o 99 1) (fun v => wp scr n mb_5 10 L (v :: st) M Q) := wp_getf rfl
theorem u5_10 : wp scr n mb_5 10 L (.int x :: st) M Q ↔ (if x = 0 then wp scr n mb_5 13 L st M Q else wp scr n mb_5 17 L st M Q) := (wp_step rfl rfl rfl rfl rfl).trans wp_iten
theorem u5_13 : wp scr n mb_5 13 L st M Q ↔ wp scr n mb_5 14 L (.int 1 :: st) M Q := wp_step rfl rfl rfl rfl rfl
theorem u5_14 : wp scr n mb_5 14 L st M Q ↔ wp scr n mb_5 18 L st M Q := wp_step rfl rfl rfl rfl rfl
theorem u5_17 : wp scr n mb_5 17 L st M Q ↔ wp scr n mb_5 18 L (.int 0 :: st) M Q := wp_step rfl rfl rfl rfl rfl
theorem u5_18 : wp scr n mb_5 18 L [.int x] M Q ↔ ((x = 0 ∨ x = 1) ∧ Q (some (.int x)) M) := wp_retb rfl rfl
/-- java/lang/String checkIndex (II)V -/
def mb_6 : mw_B := ((Option.none : Option FieldType), mp_6)
theorem u6_0 : wp scr n mb_6 0 [some (.int x), l1] st M Q ↔ wp scr n mb_6 1 [some (.int x), l1] (.int x :: st) M Q := wp_step rfl rfl rfl rfl rfl
theorem u6_1 : wp scr n mb_6 1 [l0, some (.int x)] st M Q ↔ wp scr n mb_6 2 [l0, some (.int x)] (.int x :: st) M Q := wp_step rfl rfl rfl rfl rfl
theorem u6_2 : wp scr n mb_6 2 L st M Q ↔ wp scr n mb_6 5 L (.retAddr 20 :: st) M Q := wp_step rfl rfl rfl rfl rfl
theorem u6_5 : wp scr n mb_6 5 L (a3 :: a2 :: a1 :: st) M Q ↔ (mw_st st ∧ Wp scr n 13 [a1, a2, a3] M (fun r1 M1 => wp scr n mb_6 8 L (r1.toList ++ st) M1 Q)) := wp_sta rfl rfl rfl rfl
theorem u6_8 : wp scr n mb_6 8 L (.int x :: st) M Q ↔ wp scr n mb_6 9 L st M Q := wp_step rfl rfl rfl rfl rfl
theorem u6_9 : wp scr n mb_6 9 L [] M Q ↔ Q none M := wp_ret rfl rfl
/-- java/lang/String indexOf (I)I -/
def mb_7 : mw_B := ((Option.some FieldType.int), mp_7)
theorem u7_0 : wp scr n mb_7 0 [some (.ref a), l1] st M Q ↔ wp scr n mb_7 1 [some (.ref a), l1] (.ref a :: st) M Q := wp_step rfl rfl rfl rfl rfl
theorem u7_0b : wp scr n mb_7 0 [some (.retAddr a), l1] st M Q ↔ wp scr n mb_7 1 [some (.retAddr a), l1] (.retAddr a :: st) M Q := wp_step rfl rfl rfl rfl rfl
theorem u7_1 : wp scr n mb_7 1 [l0, some (.int x)] st M Q ↔ wp scr n mb_7 2 [l0, some (.int x)] (.int x :: st) M Q := wp_step rfl rfl rfl rfl rfl
theorem u7_2 : wp scr n mb_7 2 L st M Q ↔ wp scr n mb_7 3 L (.int 0 :: st) M Q := wp_step rfl rfl rfl rfl rfl
theorem u7_3 : wp scr n mb_7 3 L (a3 :: a2 :: .retAddr a :: st) M Q ↔ ((mw_x scr a ∧ mw_st st) ∧ Wp scr n 8 [.retAddr a, a2, a3] M (fun r1 M1 => wp scr n mb_7 6 L (r1.toList ++ st) M1 Q)) := wp_virX rfl rfl rfl rfl
theorem u7_6 : wp scr n mb_7 6 L [.int x] M Q ↔ Q (some (.int x)) M := wp_ret rfl rfl
/-- java/lang/String indexOf (II)I -/
def mb_8 : mw_B := ((Option.some FieldType.int), mp_8)
theorem u8_0 : wp scr n mb_8 0 [some (.ref a), l1, l2] st M Q ↔ wp scr n mb_8 1 [some (.ref a), l1, l2] (.ref a :: st) M Q := wp_step rfl rfl rfl rfl rfl
theorem u8_0b : wp scr n mb_8 0 [some (.retAddr a), l1, l2] st M Q ↔ wp scr n mb_8 1 [some (.retAddr a), l1, l2] (.retAddr a :: st) M Q := wp_step rfl rfl rfl rfl rfl
theorem u8_1 : wp scr n mb_8 1 L (.retAddr a :: st) M Q ↔ ((mw_x scr a ∧ mw_st st) ∧ Wp scr n 5 [.retAddr a] M (fun r1 M1 => wp scr n mb_8 4 L (r1.toList ++ st) M1 Q)) := wp_virX rfl rfl rfl rfl
theorem u8_4 : wp scr n mb_8 4 L (.int x :: st) M Q ↔ (if x = 0 then wp scr n mb_8 23 L st M Q else wp scr n mb_8 7 L st M Q) := (wp_step rfl rfl rfl rfl rfl).trans wp_ite
theorem u8_7 : wp scr n mb_8 7 [some (.ref a), l1, l2] st M Q ↔ wp scr n mb_8 8 [some (.ref a), l1, l2] (.ref a :: st) M Q := wp_step rfl rfl rfl rfl rfl
theorem u8_7b : wp scr n mb_8 7 [some (.retAddr a), l1, l2] st M Q ↔ wp scr n mb_8 8 [some (.retAddr a), l1, l2] (.retAddr a :: st) M Q := wp_step rfl rfl rfl rfl rfl
theorem u8_8 : wp scr n mb_8 8 L (o :: st) M Q ↔ mw_o (mm_fld (mc_X scr) M o 99 0) (fun v => wp scr n mb_8 11 L (v :: st) M Q) := wp_getf rfl
theorem u8_11 : wp scr n mb_8 11 [l0, some (.int x), l2] st M Q ↔ wp scr n mb_8 12 [l0, some (.int x), l2] (.int x :: st) M Q := wp_step rfl rfl rfl rfl rfl
theorem u8_12 : wp scr n mb_8 12 [l0, l1, some (.int x)] st M Q ↔ wp scr n mb_8 13 [l0, l1, some (.int x)] (.int x :: st) M Q := wp_step rfl rfl rfl rfl rfl
theorem u8_13 : wp scr n mb_8 13 [some (.ref a), l1, l2] st M Q ↔ wp scr n mb_8 14 [some (.ref a), l1, l2] (.ref a :: st) M Q := wp_step rfl rfl rfl rfl rfl
theorem u8_13b : wp scr n mb_8 13 [some (.retAddr a), l1, l2] st M Q ↔ wp scr n mb_8 14 [some (.retAddr a), l1, l2] (.retAddr a :: st) M Q := wp_step rfl rfl rfl rfl rfl
theorem u8_14 : wp scr n mb_8 14 L (.retAddr a :: st) M Q ↔ ((mw_x scr a ∧ mw_st st) ∧ Wp scr n 2 [.retAddr a] M (fun r1 M1 => wp scr n mb_8 17 L (r1.toList ++ st) M1 Q)) := wp_virX rfl rfl rfl rfl
theorem u8_17 : wp scr n mb_8 17 L (a4 :: a3 :: a2 :: a1 :: st) M Q ↔ (mw_st st ∧ Wp scr n 10 [a1, a2, a3, a4] M (fun r1 M1 => wp scr n mb_8 20 L (r1.toList ++ st) M1 Q)) := wp_sta rfl rfl rfl rfl
theorem u8_20 : wp scr n mb_8 20 L st M Q ↔ wp scr n mb_8 36 L st M Q := wp_step rfl rfl rfl rfl rfl
theorem u8_23 : wp scr n mb_8 23 [some (.ref a), l1, l2] st M Q ↔ wp scr n mb_8 24 [some (.ref a), l1, l2] (.ref a :: st) M Q := wp_step rfl rfl rfl rfl rfl
theorem u8_23b : wp scr n mb_8 23 [some (.retAddr a), l1, l2] st M Q ↔ wp scr n mb_8 24 [some (.retAddr a), l1, l2] (.retAddr a :: st) M Q := wp_step rfl rfl rfl rfl rfl
theorem u8_24 : wp scr n mb_8 24 L (o :: st) M Q ↔ mw_o (mm_fld (mc_X scr) M o 99 0) (fun v => wp scr n mb_8 27 L (v :: st) M Q) := wp_getf rfl
theorem u8_27 : wp scr n mb_8 27 [l0, some (.int x), l2] st M Q ↔ wp scr n mb_8 28 [l0, some (.int x), l2] (.int x :: st) M Q := wp_step rfl rfl rfl rfl rfl
theorem u8_28 : wp scr n mb_8 28 [l0, l1, some (.int x)] st M Q ↔ wp scr n mb_8 29 [l0, l1, some (.int x)] (.int x :: st) M Q := wp_step rfl rfl rfl rfl rfl
theorem u8_29 : wp scr n mb_8 29 [some (.ref a), l1, l2] st M Q ↔ wp scr n mb_8 30 [some (.ref a), l1, l2] (.ref a :: st) M Q := wp_step rfl rfl rfl rfl rfl
theorem u8_29b : wp scr n mb_8 29 [some (.retAddr a), l1, l2] st M Q ↔ wp scr n mb_8 30 [some (.retAddr a), l1, l2] (.retAddr a :: st) M Q := wp_step rfl rfl rfl rfl rfl
theorem u8_30 : wp scr n mb_8 30 L (.retAddr a :: st) M Q ↔ ((mw_x scr a ∧ mw_st st) ∧ Wp scr n 2 [.retAddr a] M (fun r1 M1 => wp scr n mb_8 33 L (r1.toList ++ st) M1 Q)) := wp_virX rfl rfl rfl rfl
theorem u8_36 : wp scr n mb_8 36 L [.int x] M Q ↔ Q (some (.int x)) M := wp_ret rfl rfl
/-- java/lang/StringLatin1 charAt ([BI)C -/
def mb_9 : mw_B := ((Option.some FieldType.char), mp_9)
theorem u9_0 : wp scr n mb_9 0 [l0, some (.int x)] st M Q ↔ wp scr n mb_9 1 [l0, some (.int x)] (.int x :: st) M Q := wp_step rfl rfl rfl rfl rfl
theorem u9_1 : wp scr n mb_9 1 [some (.ref a), l1] st M Q ↔ wp scr n mb_9 2 [some (.ref a), l1] (.ref a :: st) M Q := wp_step rfl rfl rfl rfl rfl
theorem u9_1b : wp scr n mb_9 1 [some (.retAddr a), l1] st M Q ↔ wp scr n mb_9 2 [some (.retAddr a), l1] (.retAddr a :: st) M Q := wp_step rfl rfl rfl rfl rfl
theorem u9_2 : wp scr n mb_9 2 L (.retAddr a :: st) M Q ↔ mw_o (match mc_X scr a with | some (.inl xs) => some (Int32.ofNat xs.length) | _ => none) (fun x => wp scr n mb_9 3 L (.int x :: st) M Q) := wp_alen rfl
theorem u9_3 : wp scr n mb_9 3 L (a2 :: a1 :: st) M Q ↔ (mw_st st ∧ Wp scr n 6 [a1, a2] M (fun r1 M1 => wp scr n mb_9 6 L (r1.toList ++ st) M1 Q)) := wp_sta rfl rfl rfl rfl
theorem u9_6 : wp scr n mb_9 6 [some (.ref a), l1] st M Q ↔ wp scr n mb_9 7 [some (.ref a), l1] (.ref a :: st) M Q := wp_step rfl rfl rfl rfl rfl
theorem u9_6b : wp scr n mb_9 6 [some (.retAddr a), l1] st M Q ↔ wp scr n mb_9 7 [some (.retAddr a), l1] (.retAddr a :: st) M Q := wp_step rfl rfl rfl rfl rfl
theorem u9_7 : wp scr n mb_9 7 [l0, some (.int x)] st M Q ↔ wp scr n mb_9 8 [l0, some (.int x)] (.int x :: st) M Q := wp_step rfl rfl rfl rfl rfl
theorem u9_8 : wp scr n mb_9 8 L (.int y :: .retAddr a :: st) M Q ↔ mw_o (if a < 50 then none else (match mc_X scr a with | some (.inl xs) => mm_at xs y | _ => none)) (fun x => wp scr n mb_9 9 L (.int x :: st) M Q) := wp_bald rfl
theorem u9_9 : wp scr n mb_9 9 L st M Q ↔ wp scr n mb_9 12 L (.int 255 :: st) M Q := wp_step rfl rfl rfl rfl rfl
theorem u9_12 : wp scr n mb_9 12 L (.int y :: .int x :: st) M Q ↔ wp scr n mb_9 13 L (.int (x &&& y) :: st) M Q := wp_step rfl rfl rfl rfl rfl
theorem u9_13 : wp scr n mb_9 13 L (.int x :: st) M Q ↔ wp scr n mb_9 14 L (.int (x.toUInt32 % 65536).toInt32 :: st) M Q := wp_step rfl rfl rfl rfl rfl
theorem u9_14 : wp scr n mb_9 14 L [.int x] M Q ↔ ((x.toUInt32 % 65536).toInt32 = x ∧ Q (some (.int x)) M) := wp_retc rfl rfl
/-- java/lang/StringLatin1 indexOf ([BIII)I -/
def mb_10 : mw_B := ((Option.some FieldType.int), mp_10)
theorem u10_0 : wp scr n mb_10 0 [l0, some (.int x), l2, l3] st M Q ↔ wp scr n mb_10 1 [l0, some (.int x), l2, l3] (.int x :: st) M Q := wp_step rfl rfl rfl rfl rfl
theorem u10_1 : wp scr n mb_10 1 L (a1 :: st) M Q ↔ (mw_st st ∧ Wp scr n 11 [a1] M (fun r1 M1 => wp scr n mb_10 4 L (r1.toList ++ st) M1 Q)) := wp_sta rfl rfl rfl rfl
theorem u10_4 : wp scr n mb_10 4 L (.int x :: st) M Q ↔ (if x = 0 then wp scr n mb_10 7 L st M Q else wp scr n mb_10 9 L st M Q) := (wp_step rfl rfl rfl rfl rfl).trans wp_iten
theorem u10_7 : wp scr n mb_10 7 L st M Q ↔ wp scr n mb_10 8 L (.int (-1) :: st) M Q := wp_step rfl rfl rfl rfl rfl
theorem u10_8 : wp scr n mb_10 8 L [.int x] M Q ↔ Q (some (.int x)) M := wp_ret rfl rfl
theorem u10_9 : wp scr n mb_10 9 [l0, l1, some (.int x), l3] st M Q ↔ wp scr n mb_10 10 [l0, l1, some (.int x), l3] (.int x :: st) M Q := wp_step rfl rfl rfl rfl rfl
theorem u10_10 : wp scr n mb_10 10 L st M Q ↔ wp scr n mb_10 11 L (.int 0 :: st) M Q := wp_step rfl rfl rfl rfl rfl
theorem u10_11 : wp scr n mb_10 11 L (.int y :: .int x :: st) M Q ↔ (mw_st st ∧ wp scr n mb_10 14 L (.int (if x < y then y else x) :: st) M Q) := wp_math997 rfl
theorem u10_14 : wp scr n mb_10 14 [l0, l1, l2, l3] (.int x :: st) M Q ↔ wp scr n mb_10 15 (mm_sto1 [l0, l1, l2, l3] 2 (.int x)) st M Q := wp_step rfl rfl rfl rfl rfl
theorem u10_15 : wp scr n mb_10 15 [l0, l1, l2, some (.int x)] st M Q ↔ wp scr n mb_10 16 [l0, l1, l2, some (.int x)] (.int x :: st) M Q := wp_step rfl rfl rfl rfl rfl
theorem u10_16 : wp scr n mb_10 16 [some (.ref a), l1, l2, l3] st M Q ↔ wp scr n mb_10 17 [some (.ref a), l1, l2, l3] (.ref a :: st) M Q := wp_step rfl rfl rfl rfl rfl
theorem u10_16b : wp scr n mb_10 16 [some (.retAddr a), l1, l2, l3] st M Q ↔ wp scr n mb_10 17 [some (.retAddr a), l1, l2, l3] (.retAddr a :: st) M Q := wp_step rfl rfl rfl rfl rfl
theorem u10_17 : wp scr n mb_10 17 L (.retAddr a :: st) M Q ↔ mw_o (match mc_X scr a with | some (.inl xs) => some (Int32.ofNat xs.length) | _ => none) (fun x => wp scr n mb_10 18 L (.int x :: st) M Q) := wp_alen rfl
theorem u10_18 : wp scr n mb_10 18 L (.int y :: .int x :: st) M Q ↔ (mw_st st ∧ wp scr n mb_10 21 L (.int (if y < x then y else x) :: st) M Q) := wp_math998 rfl
theorem u10_21 : wp scr n mb_10 21 [l0, l1, l2, l3] (.int x :: st) M Q ↔ wp scr n mb_10 22 (mm_sto1 [l0, l1, l2, l3] 3 (.int x)) st M Q := wp_step rfl rfl rfl rfl rfl
theorem u10_22 : wp scr n mb_10 22 [l0, l1, some (.int x), l3] st M Q ↔ wp scr n mb_10 23 [l0, l1, some (.int x), l3] (.int x :: st) M Q := wp_step rfl rfl rfl rfl rfl
theorem u10_23 : wp scr n mb_10 23 [l0, l1, l2, some (.int x)] st M Q ↔ wp scr n mb_10 24 [l0, l1, l2, some (.int x)] (.int x :: st) M Q := wp_step rfl rfl rfl rfl rfl
theorem u10_24 : wp scr n mb_10 24 L (.int y :: .int x :: st) M Q ↔ (if x < y then wp scr n mb_10 29 L st M Q else wp scr n mb_10 27 L st M Q) := (wp_step rfl rfl rfl rfl rfl).trans wp_ite
theorem u10_27 : wp scr n mb_10 27 L st M Q ↔ wp scr n mb_10 28 L (.int (-1) :: st) M Q := wp_step rfl rfl rfl rfl rfl
theorem u10_28 : wp scr n mb_10 28 L [.int x] M Q ↔ Q (some (.int x)) M := wp_ret rfl rfl
theorem u10_29 : wp scr n mb_10 29 [some (.ref a), l1, l2, l3] st M Q ↔ wp scr n mb_10 30 [some (.ref a), l1, l2, l3] (.ref a :: st) M Q := wp_step rfl rfl rfl rfl rfl
theorem u10_29b : wp scr n mb_10 29 [some (.retAddr a), l1, l2, l3] st M Q ↔ wp scr n mb_10 30 [some (.retAddr a), l1, l2, l3] (.retAddr a :: st) M Q := wp_step rfl rfl rfl rfl rfl
theorem u10_30 : wp scr n mb_10 30 [l0, some (.int x), l2, l3] st M Q ↔ wp scr n mb_10 31 [l0, some (.int x), l2, l3] (.int x :: st) M Q := wp_step rfl rfl rfl rfl rfl
theorem u10_31 : wp scr n mb_10 31 [l0, l1, some (.int x), l3] st M Q ↔ wp scr n mb_10 32 [l0, l1, some (.int x), l3] (.int x :: st) M Q := wp_step rfl rfl rfl rfl rfl
theorem u10_32 : wp scr n mb_10 32 [l0, l1, l2, some (.int x)] st M Q ↔ wp scr n mb_10 33 [l0, l1, l2, some (.int x)] (.int x :: st) M Q := wp_step rfl rfl rfl rfl rfl
theorem u10_33 : wp scr n mb_10 33 L (a4 :: a3 :: a2 :: a1 :: st) M Q ↔ (mw_st st ∧ Wp scr n 12 [a1, a2, a3, a4] M (fun r1 M1 => wp scr n mb_10 36 L (r1.toList ++ st) M1 Q)) := wp_sta rfl rfl rfl rfl
theorem u10_36 : wp scr n mb_10 36 L [.int x] M Q ↔ Q (some (.int x)) M := wp_ret rfl rfl
/-- java/lang/StringLatin1 canEncode (I)Z -/
def mb_11 : mw_B := ((Option.some FieldType.boolean), mp_11)
theorem u11_0 : wp scr n mb_11 0 [some (.int x)] st M Q ↔ wp scr n mb_11 1 [some (.int x)] (.int x :: st) M Q := wp_step rfl rfl rfl rfl rfl
theorem u11_1 : wp scr n mb_11 1 L (.int x :: st) M Q ↔ (if x < 0 then wp scr n mb_11 15 L st M Q else wp scr n mb_11 4 L st M Q) := (wp_step rfl rfl rfl rfl rfl).trans wp_ite
theorem u11_4 : wp scr n mb_11 4 [some (.int x)] st M Q ↔ wp scr n mb_11 5 [some (.int x)] (.int x :: st) M Q := wp_step rfl rfl rfl rfl rfl
theorem u11_5 : wp scr n mb_11 5 L st M Q ↔ wp scr n mb_11 8 L (.int 255 :: st) M Q := wp_step rfl rfl rfl rfl rfl
theorem u11_8 : wp scr n mb_11 8 L (.int y :: .int x :: st) M Q ↔ (if y < x then wp scr n mb_11 15 L st M Q else wp scr n mb_11 11 L st M Q) := (wp_step rfl rfl rfl rfl rfl).trans wp_ite
theorem u11_11 : wp scr n mb_11 11 L st M Q ↔ wp scr n mb_11 12 L (.int 1 :: st) M Q := wp_step rfl rfl rfl rfl rfl
theorem u11_12 : wp scr n mb_11 12 L st M Q ↔ wp scr n mb_11 16 L st M Q := wp_step rfl rfl rfl rfl rfl
theorem u11_15 : wp scr n mb_11 15 L st M Q ↔ wp scr n mb_11 16 L (.int 0 :: st) M Q := wp_step rfl rfl rfl rfl rfl
theorem u11_16 : wp scr n mb_11 16 L [.int x] M Q ↔ ((x = 0 ∨ x = 1) ∧ Q (some (.int x)) M) := wp_retb rfl rfl
/-- java/lang/StringLatin1 indexOfChar ([BIII)I -/
def mb_12 : mw_B := ((Option.some FieldType.int), mp_12)
theorem u12_0 : wp scr n mb_12 0 [l0, some (.int x), l2, l3, l4, l5] st M Q ↔ wp scr n mb_12 1 [l0, some (.int x), l2, l3, l4, l5] (.int x :: st) M Q := wp_step rfl rfl rfl rfl rfl
theorem u12_1 : wp scr n mb_12 1 L (.int x :: st) M Q ↔ wp scr n mb_12 2 L (.int x.toInt8.toInt32 :: st) M Q := wp_step rfl rfl rfl rfl rfl
theorem u12_2 : wp scr n mb_12 2 [l0, l1, l2, l3, l4, l5] (.int x :: st) M Q ↔ wp scr n mb_12 4 (mm_sto1 [l0, l1, l2, l3, l4, l5] 4 (.int x)) st M Q := wp_step rfl rfl rfl rfl rfl
theorem u12_4 : wp scr n mb_12 4 [l0, l1, some (.int x), l3, l4, l5] st M Q ↔ wp scr n mb_12 5 [l0, l1, some (.int x), l3, l4, l5] (.int x :: st) M Q := wp_step rfl rfl rfl rfl rfl
theorem u12_5 : wp scr n mb_12 5 [l0, l1, l2, l3, l4, l5] (.int x :: st) M Q ↔ wp scr n mb_12 7 (mm_sto1 [l0, l1, l2, l3, l4, l5] 5 (.int x)) st M Q := wp_step rfl rfl rfl rfl rfl
theorem u12_7 : wp scr n mb_12 7 [l0, l1, l2, l3, l4, some (.int x)] st M Q ↔ wp scr n mb_12 9 [l0, l1, l2, l3, l4, some (.int x)] (.int x :: st) M Q := wp_step rfl rfl rfl rfl rfl
theorem u12_9 : wp scr n mb_12 9 [l0, l1, l2, some (.int x), l4, l5] st M Q ↔ wp scr n mb_12 10 [l0, l1, l2, some (.int x), l4, l5] (.int x :: st) M Q := wp_step rfl rfl rfl rfl rfl
theorem u12_10 : wp scr n mb_12 10 L (.int y :: .int x :: st) M Q ↔ (if y ≤ x then wp scr n mb_12 31 L st M Q else wp scr n mb_12 13 L st M Q) := (wp_step rfl rfl rfl rfl rfl).trans wp_ite
theorem u12_13 : wp scr n mb_12 13 [some (.ref a), l1, l2, l3, l4, l5] st M Q ↔ wp scr n mb_12 14 [some (.ref a), l1, l2, l3, l4, l5] (.ref a :: st) M Q := wp_step rfl rfl rfl rfl rfl
theorem u12_13b : wp scr n mb_12 13 [some (.retAddr a), l1, l2, l3, l4, l5] st M Q ↔ wp scr n mb_12 14 [some (.retAddr a), l1, l2, l3, l4, l5] (.retAddr a :: st) M Q := wp_step rfl rfl rfl rfl rfl
theorem u12_14 : wp scr n mb_12 14 [l0, l1, l2, l3, l4, some (.int x)] st M Q ↔ wp scr n mb_12 16 [l0, l1, l2, l3, l4, some (.int x)] (.int x :: st) M Q := wp_step rfl rfl rfl rfl rfl
theorem u12_16 : wp scr n mb_12 16 L (.int y :: .retAddr a :: st) M Q ↔ mw_o (if a < 50 then none else (match mc_X scr a with | some (.inl xs) => mm_at xs y | _ => none)) (fun x => wp scr n mb_12 17 L (.int x :: st) M Q) := wp_bald rfl
theorem u12_17 : wp scr n mb_12 17 [l0, l1, l2, l3, some (.int x), l5] st M Q ↔ wp scr n mb_12 19 [l0, l1, l2, l3, some (.int x), l5] (.int x :: st) M Q := wp_step rfl rfl rfl rfl rfl
theorem u12_19 : wp scr n mb_12 19 L (.int y :: .int x :: st) M Q ↔ (if x = y then wp scr n mb_12 22 L st M Q else wp scr n mb_12 25 L st M Q) := (wp_step rfl rfl rfl rfl rfl).trans wp_iten
theorem u12_22 : wp scr n mb_12 22 [l0, l1, l2, l3, l4, some (.int x)] st M Q ↔ wp scr n mb_12 24 [l0, l1, l2, l3, l4, some (.int x)] (.int x :: st) M Q := wp_step rfl rfl rfl rfl rfl
theorem u12_24 : wp scr n mb_12 24 L [.int x] M Q ↔ Q (some (.int x)) M := wp_ret rfl rfl
theorem u12_25 : wp scr n mb_12 25 [l0, l1, l2, l3, l4, some (.int x)] st M Q ↔ wp scr n mb_12 28 (mm_sto1 [l0, l1, l2, l3, l4, some (.int x)] 5 (.int (x + 1))) st M Q := wp_step rfl rfl rfl rfl rfl
theorem u12_28 : wp scr n mb_12 28 L st M Q ↔ wp scr n mb_12 7 L st M Q := wp_step rfl rfl rfl rfl rfl
theorem u12_31 : wp scr n mb_12 31 L st M Q ↔ wp scr n mb_12 32 L (.int (-1) :: st) M Q := wp_step rfl rfl rfl rfl rfl
theorem u12_32 : wp scr n mb_12 32 L [.int x] M Q ↔ Q (some (.int x)) M := wp_ret rfl rfl
/-- jdk/internal/util/Preconditions checkIndex (IILjava/util/function/BiFunction;)I -/
def mb_13 : mw_B := ((Option.some FieldType.int), mp_13)
theorem u13_0 : wp scr n mb_13 0 [some (.int x), l1, l2] st M Q ↔ wp scr n mb_13 1 [some (.int x), l1, l2] (.int x :: st) M Q := wp_step rfl rfl rfl rfl rfl
theorem u13_1 : wp scr n mb_13 1 L (.int x :: st) M Q ↔ (if x < 0 then wp scr n mb_13 9 L st M Q else wp scr n mb_13 4 L st M Q) := (wp_step rfl rfl rfl rfl rfl).trans wp_ite
theorem u13_4 : wp scr n mb_13 4 [some (.int x), l1, l2] st M Q ↔ wp scr n mb_13 5 [some (.int x), l1, l2] (.int x :: st) M Q := wp_step rfl rfl rfl rfl rfl
theorem u13_5 : wp scr n mb_13 5 [l0, some (.int x), l2] st M Q ↔ wp scr n mb_13 6 [l0, some (.int x), l2] (.int x :: st) M Q := wp_step rfl rfl rfl rfl rfl
theorem u13_6 : wp scr n mb_13 6 L (.int y :: .int x :: st) M Q ↔ (if x < y then wp scr n mb_13 16 L st M Q else wp scr n mb_13 9 L st M Q) := (wp_step rfl rfl rfl rfl rfl).trans wp_ite
theorem u13_9 : wp scr n mb_13 9 [l0, l1, some (.ref a)] st M Q ↔ wp scr n mb_13 10 [l0, l1, some (.ref a)] (.ref a :: st) M Q := wp_step rfl rfl rfl rfl rfl
theorem u13_9b : wp scr n mb_13 9 [l0, l1, some (.retAddr a)] st M Q ↔ wp scr n mb_13 10 [l0, l1, some (.retAddr a)] (.retAddr a :: st) M Q := wp_step rfl rfl rfl rfl rfl
theorem u13_10 : wp scr n mb_13 10 [some (.int x), l1, l2] st M Q ↔ wp scr n mb_13 11 [some (.int x), l1, l2] (.int x :: st) M Q := wp_step rfl rfl rfl rfl rfl
theorem u13_11 : wp scr n mb_13 11 [l0, some (.int x), l2] st M Q ↔ wp scr n mb_13 12 [l0, some (.int x), l2] (.int x :: st) M Q := wp_step rfl rfl rfl rfl rfl
theorem u13_16 : wp scr n mb_13 16 [some (.int x), l1, l2] st M Q ↔ wp scr n mb_13 17 [some (.int x), l1, l2] (.int x :: st) M Q := wp_step rfl rfl rfl rfl rfl
theorem u13_17 : wp scr n mb_13 17 L [.int x] M Q ↔ Q (some (.int x)) M := wp_ret rfl rfl
/-- SmallerInTheShop$Draws drawBelow (I)I -/
def mb_15 : mw_B := ((Option.some FieldType.int), mp_15)
theorem u15_0 : wp scr n mb_15 0 [some (.ref a), l1] st M Q ↔ wp scr n mb_15 1 [some (.ref a), l1] (.ref a :: st) M Q := wp_step rfl rfl rfl rfl rfl
theorem u15_1 : wp scr n mb_15 1 [some (.ref a), l1] st M Q ↔ wp scr n mb_15 2 [some (.ref a), l1] (.ref a :: st) M Q := wp_step rfl rfl rfl rfl rfl
theorem u15_2 : wp scr n mb_15 2 L (o :: st) M Q ↔ mw_o (mm_fld (mc_X scr) M o 0 0) (fun v => wp scr n mb_15 5 L (v :: st) M Q) := wp_getf rfl
theorem u15_5 : wp scr n mb_15 5 L st M Q ↔ wp scr n mb_15 7 L (.int (1664525) :: st) M Q := wp_step rfl rfl rfl rfl rfl
theorem u15_7 : wp scr n mb_15 7 L (.int y :: .int x :: st) M Q ↔ wp scr n mb_15 8 L (.int (x * y) :: st) M Q := wp_step rfl rfl rfl rfl rfl
theorem u15_8 : wp scr n mb_15 8 L st M Q ↔ wp scr n mb_15 10 L (.int (1013904223) :: st) M Q := wp_step rfl rfl rfl rfl rfl
theorem u15_10 : wp scr n mb_15 10 L (.int y :: .int x :: st) M Q ↔ wp scr n mb_15 11 L (.int (x + y) :: st) M Q := wp_step rfl rfl rfl rfl rfl
theorem u15_11 : wp scr n mb_15 11 L (v :: o :: st) M Q ↔ mw_o (mm_put mc_fty M o v 0 0) (fun M1 => wp scr n mb_15 14 L st M1 Q) := wp_putf rfl
theorem u15_14 : wp scr n mb_15 14 [l0, some (.int x)] st M Q ↔ wp scr n mb_15 15 [l0, some (.int x)] (.int x :: st) M Q := wp_step rfl rfl rfl rfl rfl
theorem u15_15 : wp scr n mb_15 15 L st M Q ↔ wp scr n mb_15 16 L (.int 1 :: st) M Q := wp_step rfl rfl rfl rfl rfl
theorem u15_16 : wp scr n mb_15 16 L (.int y :: .int x :: st) M Q ↔ (if y ≤ x then wp scr n mb_15 23 L st M Q else wp scr n mb_15 19 L st M Q) := (wp_step rfl rfl rfl rfl rfl).trans wp_ite
theorem u15_19 : wp scr n mb_15 19 L st M Q ↔ wp scr n mb_15 20 L (.int 0 :: st) M Q := wp_step rfl rfl rfl rfl rfl
theorem u15_20 : wp scr n mb_15 20 L st M Q ↔ wp scr n mb_15 36 L st M Q := wp_step rfl rfl rfl rfl rfl
theorem u15_23 : wp scr n mb_15 23 [some (.ref a), l1] st M Q ↔ wp scr n mb_15 24 [some (.ref a), l1] (.ref a :: st) M Q := wp_step rfl rfl rfl rfl rfl
theorem u15_24 : wp scr n mb_15 24 L (o :: st) M Q ↔ mw_o (mm_fld (mc_X scr) M o 0 0) (fun v => wp scr n mb_15 27 L (v :: st) M Q) := wp_getf rfl
theorem u15_27 : wp scr n mb_15 27 L st M Q ↔ wp scr n mb_15 29 L (.int (2147483647) :: st) M Q := wp_step rfl rfl rfl rfl rfl
theorem u15_29 : wp scr n mb_15 29 L (.int y :: .int x :: st) M Q ↔ wp scr n mb_15 30 L (.int (x &&& y) :: st) M Q := wp_step rfl rfl rfl rfl rfl
theorem u15_30 : wp scr n mb_15 30 L st M Q ↔ wp scr n mb_15 33 L (.int 256 :: st) M Q := wp_step rfl rfl rfl rfl rfl
theorem u15_33 : wp scr n mb_15 33 L (.int y :: .int x :: st) M Q ↔ (if y = 0 then False else wp scr n mb_15 34 L (.int (x / y) :: st) M Q) := wp_idiv rfl
theorem u15_34 : wp scr n mb_15 34 [l0, some (.int x)] st M Q ↔ wp scr n mb_15 35 [l0, some (.int x)] (.int x :: st) M Q := wp_step rfl rfl rfl rfl rfl
theorem u15_35 : wp scr n mb_15 35 L (.int y :: .int x :: st) M Q ↔ (if y = 0 then False else wp scr n mb_15 36 L (.int (x - x / y * y) :: st) M Q) := wp_irem rfl
theorem u15_36 : wp scr n mb_15 36 L [.int x] M Q ↔ Q (some (.int x)) M := wp_ret rfl rfl
/-- SmallerInTheShop$Kinds effort (IIII)I -/
def mb_16 : mw_B := ((Option.some FieldType.int), mp_16)
theorem u16_0 : wp scr n mb_16 0 [some (.int x), l1, l2, l3] st M Q ↔ wp scr n mb_16 1 [some (.int x), l1, l2, l3] (.int x :: st) M Q := wp_step rfl rfl rfl rfl rfl
theorem u16_1 : wp scr n mb_16 1 L (.int x :: st) M Q ↔ wp scr n mb_16 (mw_sw x [(1, 36), (2, 43), (3, 50), (4, 61), (5, 64)] 73) L st M Q := wp_tabS (d := 72) (lo := 1) (hi := 5) (os := #[35, 42, 49, 60, 63]) rfl (by decide +kernel) (by decide +kernel) (by decide +kernel)
theorem u16_36 : wp scr n mb_16 36 L st M Q ↔ wp scr n mb_16 37 L (.int 2 :: st) M Q := wp_step rfl rfl rfl rfl rfl
theorem u16_37 : wp scr n mb_16 37 [l0, some (.int x), l2, l3] st M Q ↔ wp scr n mb_16 38 [l0, some (.int x), l2, l3] (.int x :: st) M Q := wp_step rfl rfl rfl rfl rfl
theorem u16_38 : wp scr n mb_16 38 [l0, l1, l2, some (.int x)] st M Q ↔ wp scr n mb_16 39 [l0, l1, l2, some (.int x)] (.int x :: st) M Q := wp_step rfl rfl rfl rfl rfl
theorem u16_39 : wp scr n mb_16 39 L (a3 :: a2 :: a1 :: st) M Q ↔ (mw_st st ∧ Wp scr n 17 [a1, a2, a3] M (fun r1 M1 => wp scr n mb_16 42 L (r1.toList ++ st) M1 Q)) := wp_sta rfl rfl rfl rfl
theorem u16_42 : wp scr n mb_16 42 L [.int x] M Q ↔ Q (some (.int x)) M := wp_ret rfl rfl
theorem u16_43 : wp scr n mb_16 43 L st M Q ↔ wp scr n mb_16 44 L (.int 1 :: st) M Q := wp_step rfl rfl rfl rfl rfl
theorem u16_44 : wp scr n mb_16 44 [l0, some (.int x), l2, l3] st M Q ↔ wp scr n mb_16 45 [l0, some (.int x), l2, l3] (.int x :: st) M Q := wp_step rfl rfl rfl rfl rfl
theorem u16_45 : wp scr n mb_16 45 [l0, l1, l2, some (.int x)] st M Q ↔ wp scr n mb_16 46 [l0, l1, l2, some (.int x)] (.int x :: st) M Q := wp_step rfl rfl rfl rfl rfl
theorem u16_46 : wp scr n mb_16 46 L (a3 :: a2 :: a1 :: st) M Q ↔ (mw_st st ∧ Wp scr n 17 [a1, a2, a3] M (fun r1 M1 => wp scr n mb_16 49 L (r1.toList ++ st) M1 Q)) := wp_sta rfl rfl rfl rfl
theorem u16_49 : wp scr n mb_16 49 L [.int x] M Q ↔ Q (some (.int x)) M := wp_ret rfl rfl
theorem u16_50 : wp scr n mb_16 50 L st M Q ↔ wp scr n mb_16 51 L (.int 2 :: st) M Q := wp_step rfl rfl rfl rfl rfl
theorem u16_51 : wp scr n mb_16 51 [l0, some (.int x), l2, l3] st M Q ↔ wp scr n mb_16 52 [l0, some (.int x), l2, l3] (.int x :: st) M Q := wp_step rfl rfl rfl rfl rfl
theorem u16_52 : wp scr n mb_16 52 [l0, l1, some (.int x), l3] st M Q ↔ wp scr n mb_16 53 [l0, l1, some (.int x), l3] (.int x :: st) M Q := wp_step rfl rfl rfl rfl rfl
theorem u16_53 : wp scr n mb_16 53 [l0, l1, l2, some (.int x)] st M Q ↔ wp scr n mb_16 54 [l0, l1, l2, some (.int x)] (.int x :: st) M Q := wp_step rfl rfl rfl rfl rfl
theorem u16_54 : wp scr n mb_16 54 L (a2 :: a1 :: st) M Q ↔ (mw_st st ∧ Wp scr n 18 [a1, a2] M (fun r1 M1 => wp scr n mb_16 57 L (r1.toList ++ st) M1 Q)) := wp_sta rfl rfl rfl rfl
theorem u16_57 : wp scr n mb_16 57 L (a3 :: a2 :: a1 :: st) M Q ↔ (mw_st st ∧ Wp scr n 17 [a1, a2, a3] M (fun r1 M1 => wp scr n mb_16 60 L (r1.toList ++ st) M1 Q)) := wp_sta rfl rfl rfl rfl
theorem u16_60 : wp scr n mb_16 60 L [.int x] M Q ↔ Q (some (.int x)) M := wp_ret rfl rfl
theorem u16_61 : wp scr n mb_16 61 L st M Q ↔ wp scr n mb_16 63 L (.int 7 :: st) M Q := wp_step rfl rfl rfl rfl rfl
theorem u16_63 : wp scr n mb_16 63 L [.int x] M Q ↔ Q (some (.int x)) M := wp_ret rfl rfl
theorem u16_64 : wp scr n mb_16 64 L st M Q ↔ wp scr n mb_16 65 L (.int 1 :: st) M Q := wp_step rfl rfl rfl rfl rfl
theorem u16_65 : wp scr n mb_16 65 [l0, some (.int x), l2, l3] st M Q ↔ wp scr n mb_16 66 [l0, some (.int x), l2, l3] (.int x :: st) M Q := wp_step rfl rfl rfl rfl rfl
theorem u16_66 : wp scr n mb_16 66 [l0, l1, l2, some (.int x)] st M Q ↔ wp scr n mb_16 67 [l0, l1, l2, some (.int x)] (.int x :: st) M Q := wp_step rfl rfl rfl rfl rfl
theorem u16_67 : wp scr n mb_16 67 L (a3 :: a2 :: a1 :: st) M Q ↔ (mw_st st ∧ Wp scr n 17 [a1, a2, a3] M (fun r1 M1 => wp scr n mb_16 70 L (r1.toList ++ st) M1 Q)) := wp_sta rfl rfl rfl rfl
theorem u16_70 : wp scr n mb_16 70 L st M Q ↔ wp scr n mb_16 71 L (.int 2 :: st) M Q := wp_step rfl rfl rfl rfl rfl
theorem u16_71 : wp scr n mb_16 71 L (.int y :: .int x :: st) M Q ↔ (if y = 0 then False else wp scr n mb_16 72 L (.int (x / y) :: st) M Q) := wp_idiv rfl
theorem u16_72 : wp scr n mb_16 72 L [.int x] M Q ↔ Q (some (.int x)) M := wp_ret rfl rfl
theorem u16_73 : wp scr n mb_16 73 L st M Q ↔ wp scr n mb_16 74 L (.int 3 :: st) M Q := wp_step rfl rfl rfl rfl rfl
theorem u16_74 : wp scr n mb_16 74 L [.int x] M Q ↔ Q (some (.int x)) M := wp_ret rfl rfl
/-- SmallerInTheShop$Kinds effortAgainst (III)I -/
def mb_17 : mw_B := ((Option.some FieldType.int), mp_17)
theorem u17_0 : wp scr n mb_17 0 [l0, l1, some (.int x)] st M Q ↔ wp scr n mb_17 1 [l0, l1, some (.int x)] (.int x :: st) M Q := wp_step rfl rfl rfl rfl rfl
theorem u17_1 : wp scr n mb_17 1 [some (.int x), l1, l2] st M Q ↔ wp scr n mb_17 2 [some (.int x), l1, l2] (.int x :: st) M Q := wp_step rfl rfl rfl rfl rfl
theorem u17_2 : wp scr n mb_17 2 L (.int y :: .int x :: st) M Q ↔ (if x = y then wp scr n mb_17 5 L st M Q else wp scr n mb_17 11 L st M Q) := (wp_step rfl rfl rfl rfl rfl).trans wp_iten
theorem u17_5 : wp scr n mb_17 5 L st M Q ↔ wp scr n mb_17 6 L (.int 3 :: st) M Q := wp_step rfl rfl rfl rfl rfl
theorem u17_6 : wp scr n mb_17 6 [l0, some (.int x), l2] st M Q ↔ wp scr n mb_17 7 [l0, some (.int x), l2] (.int x :: st) M Q := wp_step rfl rfl rfl rfl rfl
theorem u17_7 : wp scr n mb_17 7 L (.int y :: .int x :: st) M Q ↔ wp scr n mb_17 8 L (.int (x + y) :: st) M Q := wp_step rfl rfl rfl rfl rfl
theorem u17_8 : wp scr n mb_17 8 L st M Q ↔ wp scr n mb_17 12 L st M Q := wp_step rfl rfl rfl rfl rfl
theorem u17_11 : wp scr n mb_17 11 L st M Q ↔ wp scr n mb_17 12 L (.int 3 :: st) M Q := wp_step rfl rfl rfl rfl rfl
theorem u17_12 : wp scr n mb_17 12 L [.int x] M Q ↔ Q (some (.int x)) M := wp_ret rfl rfl
/-- SmallerInTheShop$Kinds sprungSide (II)I -/
def mb_18 : mw_B := ((Option.some FieldType.int), mp_18)
theorem u18_0 : wp scr n mb_18 0 [some (.int x), l1] st M Q ↔ wp scr n mb_18 1 [some (.int x), l1] (.int x :: st) M Q := wp_step rfl rfl rfl rfl rfl
theorem u18_1 : wp scr n mb_18 1 L st M Q ↔ wp scr n mb_18 3 L (.int 10 :: st) M Q := wp_step rfl rfl rfl rfl rfl
theorem u18_3 : wp scr n mb_18 3 L (.int y :: .int x :: st) M Q ↔ (if y ≤ x then wp scr n mb_18 8 L st M Q else wp scr n mb_18 6 L st M Q) := (wp_step rfl rfl rfl rfl rfl).trans wp_ite
theorem u18_6 : wp scr n mb_18 6 [l0, some (.int x)] st M Q ↔ wp scr n mb_18 7 [l0, some (.int x)] (.int x :: st) M Q := wp_step rfl rfl rfl rfl rfl
theorem u18_7 : wp scr n mb_18 7 L [.int x] M Q ↔ Q (some (.int x)) M := wp_ret rfl rfl
theorem u18_8 : wp scr n mb_18 8 [l0, some (.int x)] st M Q ↔ wp scr n mb_18 9 [l0, some (.int x)] (.int x :: st) M Q := wp_step rfl rfl rfl rfl rfl
theorem u18_9 : wp scr n mb_18 9 L st M Q ↔ wp scr n mb_18 10 L (.int 1 :: st) M Q := wp_step rfl rfl rfl rfl rfl
theorem u18_10 : wp scr n mb_18 10 L (.int y :: .int x :: st) M Q ↔ (if x = y then wp scr n mb_18 13 L st M Q else wp scr n mb_18 17 L st M Q) := (wp_step rfl rfl rfl rfl rfl).trans wp_iten
theorem u18_13 : wp scr n mb_18 13 L st M Q ↔ wp scr n mb_18 14 L (.int 2 :: st) M Q := wp_step rfl rfl rfl rfl rfl
theorem u18_14 : wp scr n mb_18 14 L st M Q ↔ wp scr n mb_18 18 L st M Q := wp_step rfl rfl rfl rfl rfl
theorem u18_17 : wp scr n mb_18 17 L st M Q ↔ wp scr n mb_18 18 L (.int 1 :: st) M Q := wp_step rfl rfl rfl rfl rfl
theorem u18_18 : wp scr n mb_18 18 L [.int x] M Q ↔ Q (some (.int x)) M := wp_ret rfl rfl
/-- SmallerInTheShop$Kinds wear (III)I -/
def mb_19 : mw_B := ((Option.some FieldType.int), mp_19)
theorem u19_0 : wp scr n mb_19 0 [some (.int x), l1, l2] st M Q ↔ wp scr n mb_19 1 [some (.int x), l1, l2] (.int x :: st) M Q := wp_step rfl rfl rfl rfl rfl
theorem u19_1 : wp scr n mb_19 1 L (.int x :: st) M Q ↔ wp scr n mb_19 (mw_sw x [(1, 36), (2, 42), (3, 48), (4, 58), (5, 60)] 68) L st M Q := wp_tabS (d := 67) (lo := 1) (hi := 5) (os := #[35, 41, 47, 57, 59]) rfl (by decide +kernel) (by decide +kernel) (by decide +kernel)
theorem u19_36 : wp scr n mb_19 36 L st M Q ↔ wp scr n mb_19 37 L (.int 2 :: st) M Q := wp_step rfl rfl rfl rfl rfl
theorem u19_37 : wp scr n mb_19 37 [l0, l1, some (.int x)] st M Q ↔ wp scr n mb_19 38 [l0, l1, some (.int x)] (.int x :: st) M Q := wp_step rfl rfl rfl rfl rfl
theorem u19_38 : wp scr n mb_19 38 L (a2 :: a1 :: st) M Q ↔ (mw_st st ∧ Wp scr n 20 [a1, a2] M (fun r1 M1 => wp scr n mb_19 41 L (r1.toList ++ st) M1 Q)) := wp_sta rfl rfl rfl rfl
theorem u19_41 : wp scr n mb_19 41 L [.int x] M Q ↔ Q (some (.int x)) M := wp_ret rfl rfl
theorem u19_42 : wp scr n mb_19 42 L st M Q ↔ wp scr n mb_19 43 L (.int 1 :: st) M Q := wp_step rfl rfl rfl rfl rfl
theorem u19_43 : wp scr n mb_19 43 [l0, l1, some (.int x)] st M Q ↔ wp scr n mb_19 44 [l0, l1, some (.int x)] (.int x :: st) M Q := wp_step rfl rfl rfl rfl rfl
theorem u19_44 : wp scr n mb_19 44 L (a2 :: a1 :: st) M Q ↔ (mw_st st ∧ Wp scr n 20 [a1, a2] M (fun r1 M1 => wp scr n mb_19 47 L (r1.toList ++ st) M1 Q)) := wp_sta rfl rfl rfl rfl
theorem u19_47 : wp scr n mb_19 47 L [.int x] M Q ↔ Q (some (.int x)) M := wp_ret rfl rfl
theorem u19_48 : wp scr n mb_19 48 L st M Q ↔ wp scr n mb_19 49 L (.int 2 :: st) M Q := wp_step rfl rfl rfl rfl rfl
theorem u19_49 : wp scr n mb_19 49 [l0, some (.int x), l2] st M Q ↔ wp scr n mb_19 50 [l0, some (.int x), l2] (.int x :: st) M Q := wp_step rfl rfl rfl rfl rfl
theorem u19_50 : wp scr n mb_19 50 [l0, l1, some (.int x)] st M Q ↔ wp scr n mb_19 51 [l0, l1, some (.int x)] (.int x :: st) M Q := wp_step rfl rfl rfl rfl rfl
theorem u19_51 : wp scr n mb_19 51 L (a2 :: a1 :: st) M Q ↔ (mw_st st ∧ Wp scr n 18 [a1, a2] M (fun r1 M1 => wp scr n mb_19 54 L (r1.toList ++ st) M1 Q)) := wp_sta rfl rfl rfl rfl
theorem u19_54 : wp scr n mb_19 54 L (a2 :: a1 :: st) M Q ↔ (mw_st st ∧ Wp scr n 20 [a1, a2] M (fun r1 M1 => wp scr n mb_19 57 L (r1.toList ++ st) M1 Q)) := wp_sta rfl rfl rfl rfl
theorem u19_57 : wp scr n mb_19 57 L [.int x] M Q ↔ Q (some (.int x)) M := wp_ret rfl rfl
theorem u19_58 : wp scr n mb_19 58 L st M Q ↔ wp scr n mb_19 59 L (.int 0 :: st) M Q := wp_step rfl rfl rfl rfl rfl
theorem u19_59 : wp scr n mb_19 59 L [.int x] M Q ↔ Q (some (.int x)) M := wp_ret rfl rfl
theorem u19_60 : wp scr n mb_19 60 L st M Q ↔ wp scr n mb_19 61 L (.int 1 :: st) M Q := wp_step rfl rfl rfl rfl rfl
theorem u19_61 : wp scr n mb_19 61 [l0, l1, some (.int x)] st M Q ↔ wp scr n mb_19 62 [l0, l1, some (.int x)] (.int x :: st) M Q := wp_step rfl rfl rfl rfl rfl
theorem u19_62 : wp scr n mb_19 62 L (a2 :: a1 :: st) M Q ↔ (mw_st st ∧ Wp scr n 20 [a1, a2] M (fun r1 M1 => wp scr n mb_19 65 L (r1.toList ++ st) M1 Q)) := wp_sta rfl rfl rfl rfl
theorem u19_65 : wp scr n mb_19 65 L st M Q ↔ wp scr n mb_19 66 L (.int 1 :: st) M Q := wp_step rfl rfl rfl rfl rfl
theorem u19_66 : wp scr n mb_19 66 L (.int y :: .int x :: st) M Q ↔ wp scr n mb_19 67 L (.int (x + y) :: st) M Q := wp_step rfl rfl rfl rfl rfl
theorem u19_67 : wp scr n mb_19 67 L [.int x] M Q ↔ Q (some (.int x)) M := wp_ret rfl rfl
theorem u19_68 : wp scr n mb_19 68 L st M Q ↔ wp scr n mb_19 69 L (.int 1 :: st) M Q := wp_step rfl rfl rfl rfl rfl
theorem u19_69 : wp scr n mb_19 69 L [.int x] M Q ↔ Q (some (.int x)) M := wp_ret rfl rfl
/-- SmallerInTheShop$Kinds wearAgainst (II)I -/
def mb_20 : mw_B := ((Option.some FieldType.int), mp_20)
theorem u20_0 : wp scr n mb_20 0 [l0, some (.int x)] st M Q ↔ wp scr n mb_20 1 [l0, some (.int x)] (.int x :: st) M Q := wp_step rfl rfl rfl rfl rfl
theorem u20_1 : wp scr n mb_20 1 [some (.int x), l1] st M Q ↔ wp scr n mb_20 2 [some (.int x), l1] (.int x :: st) M Q := wp_step rfl rfl rfl rfl rfl
theorem u20_2 : wp scr n mb_20 2 L (.int y :: .int x :: st) M Q ↔ (if x = y then wp scr n mb_20 5 L st M Q else wp scr n mb_20 9 L st M Q) := (wp_step rfl rfl rfl rfl rfl).trans wp_iten
theorem u20_5 : wp scr n mb_20 5 L st M Q ↔ wp scr n mb_20 6 L (.int 2 :: st) M Q := wp_step rfl rfl rfl rfl rfl
theorem u20_6 : wp scr n mb_20 6 L st M Q ↔ wp scr n mb_20 10 L st M Q := wp_step rfl rfl rfl rfl rfl
theorem u20_9 : wp scr n mb_20 9 L st M Q ↔ wp scr n mb_20 10 L (.int 1 :: st) M Q := wp_step rfl rfl rfl rfl rfl
theorem u20_10 : wp scr n mb_20 10 L [.int x] M Q ↔ Q (some (.int x)) M := wp_ret rfl rfl
/-- SmallerInTheShop$Layout copyLayout (LSmallerInTheShop$Layout;)V -/
def mb_22 : mw_B := ((Option.none : Option FieldType), mp_22)
theorem u22_0 : wp scr n mb_22 0 L st M Q ↔ wp scr n mb_22 1 L (.int 0 :: st) M Q := wp_step rfl rfl rfl rfl rfl
theorem u22_1 : wp scr n mb_22 1 [l0, l1, l2] (.int x :: st) M Q ↔ wp scr n mb_22 2 (mm_sto1 [l0, l1, l2] 2 (.int x)) st M Q := wp_step rfl rfl rfl rfl rfl
theorem u22_2 : wp scr n mb_22 2 [l0, l1, some (.int x)] st M Q ↔ wp scr n mb_22 3 [l0, l1, some (.int x)] (.int x :: st) M Q := wp_step rfl rfl rfl rfl rfl
theorem u22_3 : wp scr n mb_22 3 L st M Q ↔ wp scr n mb_22 5 L (.int 8 :: st) M Q := wp_step rfl rfl rfl rfl rfl
theorem u22_5 : wp scr n mb_22 5 L (.int y :: .int x :: st) M Q ↔ (if y ≤ x then wp scr n mb_22 74 L st M Q else wp scr n mb_22 8 L st M Q) := (wp_step rfl rfl rfl rfl rfl).trans wp_ite
theorem u22_8 : wp scr n mb_22 8 [some (.ref a), l1, l2] st M Q ↔ wp scr n mb_22 9 [some (.ref a), l1, l2] (.ref a :: st) M Q := wp_step rfl rfl rfl rfl rfl
theorem u22_9 : wp scr n mb_22 9 L (o :: st) M Q ↔ mw_o (mm_fld (mc_X scr) M o 1 0) (fun v => wp scr n mb_22 12 L (v :: st) M Q) := wp_getf rfl
theorem u22_12 : wp scr n mb_22 12 [l0, l1, some (.int x)] st M Q ↔ wp scr n mb_22 13 [l0, l1, some (.int x)] (.int x :: st) M Q := wp_step rfl rfl rfl rfl rfl
theorem u22_13 : wp scr n mb_22 13 [l0, some (.ref a), l2] st M Q ↔ wp scr n mb_22 14 [l0, some (.ref a), l2] (.ref a :: st) M Q := wp_step rfl rfl rfl rfl rfl
theorem u22_14 : wp scr n mb_22 14 L (o :: st) M Q ↔ mw_o (mm_fld (mc_X scr) M o 1 0) (fun v => wp scr n mb_22 17 L (v :: st) M Q) := wp_getf rfl
theorem u22_17 : wp scr n mb_22 17 [l0, l1, some (.int x)] st M Q ↔ wp scr n mb_22 18 [l0, l1, some (.int x)] (.int x :: st) M Q := wp_step rfl rfl rfl rfl rfl
theorem u22_18 : wp scr n mb_22 18 L (.int y :: o :: st) M Q ↔ mw_o (mm_ld (mc_X scr) M o y) (fun x => wp scr n mb_22 19 L (.int x :: st) M Q) := wp_iald rfl
theorem u22_19 : wp scr n mb_22 19 L (.int x :: .int y :: o :: st) M Q ↔ mw_o (mm_sti M o y x) (fun M1 => wp scr n mb_22 20 L st M1 Q) := wp_iast rfl
theorem u22_20 : wp scr n mb_22 20 [some (.ref a), l1, l2] st M Q ↔ wp scr n mb_22 21 [some (.ref a), l1, l2] (.ref a :: st) M Q := wp_step rfl rfl rfl rfl rfl
theorem u22_21 : wp scr n mb_22 21 L (o :: st) M Q ↔ mw_o (mm_fld (mc_X scr) M o 1 1) (fun v => wp scr n mb_22 24 L (v :: st) M Q) := wp_getf rfl
theorem u22_24 : wp scr n mb_22 24 [l0, l1, some (.int x)] st M Q ↔ wp scr n mb_22 25 [l0, l1, some (.int x)] (.int x :: st) M Q := wp_step rfl rfl rfl rfl rfl
theorem u22_25 : wp scr n mb_22 25 [l0, some (.ref a), l2] st M Q ↔ wp scr n mb_22 26 [l0, some (.ref a), l2] (.ref a :: st) M Q := wp_step rfl rfl rfl rfl rfl
theorem u22_26 : wp scr n mb_22 26 L (o :: st) M Q ↔ mw_o (mm_fld (mc_X scr) M o 1 1) (fun v => wp scr n mb_22 29 L (v :: st) M Q) := wp_getf rfl
theorem u22_29 : wp scr n mb_22 29 [l0, l1, some (.int x)] st M Q ↔ wp scr n mb_22 30 [l0, l1, some (.int x)] (.int x :: st) M Q := wp_step rfl rfl rfl rfl rfl
theorem u22_30 : wp scr n mb_22 30 L (.int y :: o :: st) M Q ↔ mw_o (mm_ld (mc_X scr) M o y) (fun x => wp scr n mb_22 31 L (.int x :: st) M Q) := wp_iald rfl
theorem u22_31 : wp scr n mb_22 31 L (.int x :: .int y :: o :: st) M Q ↔ mw_o (mm_sti M o y x) (fun M1 => wp scr n mb_22 32 L st M1 Q) := wp_iast rfl
theorem u22_32 : wp scr n mb_22 32 [some (.ref a), l1, l2] st M Q ↔ wp scr n mb_22 33 [some (.ref a), l1, l2] (.ref a :: st) M Q := wp_step rfl rfl rfl rfl rfl
theorem u22_33 : wp scr n mb_22 33 L (o :: st) M Q ↔ mw_o (mm_fld (mc_X scr) M o 1 2) (fun v => wp scr n mb_22 36 L (v :: st) M Q) := wp_getf rfl
theorem u22_36 : wp scr n mb_22 36 [l0, l1, some (.int x)] st M Q ↔ wp scr n mb_22 37 [l0, l1, some (.int x)] (.int x :: st) M Q := wp_step rfl rfl rfl rfl rfl
theorem u22_37 : wp scr n mb_22 37 [l0, some (.ref a), l2] st M Q ↔ wp scr n mb_22 38 [l0, some (.ref a), l2] (.ref a :: st) M Q := wp_step rfl rfl rfl rfl rfl
theorem u22_38 : wp scr n mb_22 38 L (o :: st) M Q ↔ mw_o (mm_fld (mc_X scr) M o 1 2) (fun v => wp scr n mb_22 41 L (v :: st) M Q) := wp_getf rfl
theorem u22_41 : wp scr n mb_22 41 [l0, l1, some (.int x)] st M Q ↔ wp scr n mb_22 42 [l0, l1, some (.int x)] (.int x :: st) M Q := wp_step rfl rfl rfl rfl rfl
theorem u22_42 : wp scr n mb_22 42 L (.int y :: o :: st) M Q ↔ mw_o (mm_ld (mc_X scr) M o y) (fun x => wp scr n mb_22 43 L (.int x :: st) M Q) := wp_iald rfl
theorem u22_43 : wp scr n mb_22 43 L (.int x :: .int y :: o :: st) M Q ↔ mw_o (mm_sti M o y x) (fun M1 => wp scr n mb_22 44 L st M1 Q) := wp_iast rfl
theorem u22_44 : wp scr n mb_22 44 [some (.ref a), l1, l2] st M Q ↔ wp scr n mb_22 45 [some (.ref a), l1, l2] (.ref a :: st) M Q := wp_step rfl rfl rfl rfl rfl
theorem u22_45 : wp scr n mb_22 45 L (o :: st) M Q ↔ mw_o (mm_fld (mc_X scr) M o 1 3) (fun v => wp scr n mb_22 48 L (v :: st) M Q) := wp_getf rfl
theorem u22_48 : wp scr n mb_22 48 [l0, l1, some (.int x)] st M Q ↔ wp scr n mb_22 49 [l0, l1, some (.int x)] (.int x :: st) M Q := wp_step rfl rfl rfl rfl rfl
theorem u22_49 : wp scr n mb_22 49 [l0, some (.ref a), l2] st M Q ↔ wp scr n mb_22 50 [l0, some (.ref a), l2] (.ref a :: st) M Q := wp_step rfl rfl rfl rfl rfl
theorem u22_50 : wp scr n mb_22 50 L (o :: st) M Q ↔ mw_o (mm_fld (mc_X scr) M o 1 3) (fun v => wp scr n mb_22 53 L (v :: st) M Q) := wp_getf rfl
theorem u22_53 : wp scr n mb_22 53 [l0, l1, some (.int x)] st M Q ↔ wp scr n mb_22 54 [l0, l1, some (.int x)] (.int x :: st) M Q := wp_step rfl rfl rfl rfl rfl
theorem u22_54 : wp scr n mb_22 54 L (.int y :: o :: st) M Q ↔ mw_o (mm_ld (mc_X scr) M o y) (fun x => wp scr n mb_22 55 L (.int x :: st) M Q) := wp_iald rfl
theorem u22_55 : wp scr n mb_22 55 L (.int x :: .int y :: o :: st) M Q ↔ mw_o (mm_sti M o y x) (fun M1 => wp scr n mb_22 56 L st M1 Q) := wp_iast rfl
theorem u22_56 : wp scr n mb_22 56 [some (.ref a), l1, l2] st M Q ↔ wp scr n mb_22 57 [some (.ref a), l1, l2] (.ref a :: st) M Q := wp_step rfl rfl rfl rfl rfl
theorem u22_57 : wp scr n mb_22 57 L (o :: st) M Q ↔ mw_o (mm_fld (mc_X scr) M o 1 5) (fun v => wp scr n mb_22 60 L (v :: st) M Q) := wp_getf rfl
theorem u22_60 : wp scr n mb_22 60 [l0, l1, some (.int x)] st M Q ↔ wp scr n mb_22 61 [l0, l1, some (.int x)] (.int x :: st) M Q := wp_step rfl rfl rfl rfl rfl
theorem u22_61 : wp scr n mb_22 61 [l0, some (.ref a), l2] st M Q ↔ wp scr n mb_22 62 [l0, some (.ref a), l2] (.ref a :: st) M Q := wp_step rfl rfl rfl rfl rfl
theorem u22_62 : wp scr n mb_22 62 L (o :: st) M Q ↔ mw_o (mm_fld (mc_X scr) M o 1 5) (fun v => wp scr n mb_22 65 L (v :: st) M Q) := wp_getf rfl
theorem u22_65 : wp scr n mb_22 65 [l0, l1, some (.int x)] st M Q ↔ wp scr n mb_22 66 [l0, l1, some (.int x)] (.int x :: st) M Q := wp_step rfl rfl rfl rfl rfl
theorem u22_66 : wp scr n mb_22 66 L (.int y :: o :: st) M Q ↔ mw_o (mm_ld (mc_X scr) M o y) (fun x => wp scr n mb_22 67 L (.int x :: st) M Q) := wp_iald rfl
theorem u22_67 : wp scr n mb_22 67 L (.int x :: .int y :: o :: st) M Q ↔ mw_o (mm_sti M o y x) (fun M1 => wp scr n mb_22 68 L st M1 Q) := wp_iast rfl
theorem u22_68 : wp scr n mb_22 68 [l0, l1, some (.int x)] st M Q ↔ wp scr n mb_22 71 (mm_sto1 [l0, l1, some (.int x)] 2 (.int (x + 1))) st M Q := wp_step rfl rfl rfl rfl rfl
theorem u22_71 : wp scr n mb_22 71 L st M Q ↔ wp scr n mb_22 2 L st M Q := wp_step rfl rfl rfl rfl rfl
theorem u22_74 : wp scr n mb_22 74 L st M Q ↔ wp scr n mb_22 75 L (.int 0 :: st) M Q := wp_step rfl rfl rfl rfl rfl
theorem u22_75 : wp scr n mb_22 75 [l0, l1, l2] (.int x :: st) M Q ↔ wp scr n mb_22 76 (mm_sto1 [l0, l1, l2] 2 (.int x)) st M Q := wp_step rfl rfl rfl rfl rfl
theorem u22_76 : wp scr n mb_22 76 [l0, l1, some (.int x)] st M Q ↔ wp scr n mb_22 77 [l0, l1, some (.int x)] (.int x :: st) M Q := wp_step rfl rfl rfl rfl rfl
theorem u22_77 : wp scr n mb_22 77 L st M Q ↔ wp scr n mb_22 79 L (.int 10 :: st) M Q := wp_step rfl rfl rfl rfl rfl
theorem u22_79 : wp scr n mb_22 79 L (.int y :: .int x :: st) M Q ↔ (if y ≤ x then wp scr n mb_22 100 L st M Q else wp scr n mb_22 82 L st M Q) := (wp_step rfl rfl rfl rfl rfl).trans wp_ite
theorem u22_82 : wp scr n mb_22 82 [some (.ref a), l1, l2] st M Q ↔ wp scr n mb_22 83 [some (.ref a), l1, l2] (.ref a :: st) M Q := wp_step rfl rfl rfl rfl rfl
theorem u22_83 : wp scr n mb_22 83 L (o :: st) M Q ↔ mw_o (mm_fld (mc_X scr) M o 1 4) (fun v => wp scr n mb_22 86 L (v :: st) M Q) := wp_getf rfl
theorem u22_86 : wp scr n mb_22 86 [l0, l1, some (.int x)] st M Q ↔ wp scr n mb_22 87 [l0, l1, some (.int x)] (.int x :: st) M Q := wp_step rfl rfl rfl rfl rfl
theorem u22_87 : wp scr n mb_22 87 [l0, some (.ref a), l2] st M Q ↔ wp scr n mb_22 88 [l0, some (.ref a), l2] (.ref a :: st) M Q := wp_step rfl rfl rfl rfl rfl
theorem u22_88 : wp scr n mb_22 88 L (o :: st) M Q ↔ mw_o (mm_fld (mc_X scr) M o 1 4) (fun v => wp scr n mb_22 91 L (v :: st) M Q) := wp_getf rfl
theorem u22_91 : wp scr n mb_22 91 [l0, l1, some (.int x)] st M Q ↔ wp scr n mb_22 92 [l0, l1, some (.int x)] (.int x :: st) M Q := wp_step rfl rfl rfl rfl rfl
theorem u22_92 : wp scr n mb_22 92 L (.int y :: o :: st) M Q ↔ mw_o (mm_ld (mc_X scr) M o y) (fun x => wp scr n mb_22 93 L (.int x :: st) M Q) := wp_iald rfl
theorem u22_93 : wp scr n mb_22 93 L (.int x :: .int y :: o :: st) M Q ↔ mw_o (mm_sti M o y x) (fun M1 => wp scr n mb_22 94 L st M1 Q) := wp_iast rfl
theorem u22_94 : wp scr n mb_22 94 [l0, l1, some (.int x)] st M Q ↔ wp scr n mb_22 97 (mm_sto1 [l0, l1, some (.int x)] 2 (.int (x + 1))) st M Q := wp_step rfl rfl rfl rfl rfl
theorem u22_97 : wp scr n mb_22 97 L st M Q ↔ wp scr n mb_22 76 L st M Q := wp_step rfl rfl rfl rfl rfl
theorem u22_100 : wp scr n mb_22 100 [some (.ref a), l1, l2] st M Q ↔ wp scr n mb_22 101 [some (.ref a), l1, l2] (.ref a :: st) M Q := wp_step rfl rfl rfl rfl rfl
theorem u22_101 : wp scr n mb_22 101 [l0, some (.ref a), l2] st M Q ↔ wp scr n mb_22 102 [l0, some (.ref a), l2] (.ref a :: st) M Q := wp_step rfl rfl rfl rfl rfl
theorem u22_102 : wp scr n mb_22 102 L (o :: st) M Q ↔ mw_o (mm_fld (mc_X scr) M o 1 6) (fun v => wp scr n mb_22 105 L (v :: st) M Q) := wp_getf rfl
theorem u22_105 : wp scr n mb_22 105 L (v :: o :: st) M Q ↔ mw_o (mm_put mc_fty M o v 1 6) (fun M1 => wp scr n mb_22 108 L st M1 Q) := wp_putf rfl
theorem u22_108 : wp scr n mb_22 108 [some (.ref a), l1, l2] st M Q ↔ wp scr n mb_22 109 [some (.ref a), l1, l2] (.ref a :: st) M Q := wp_step rfl rfl rfl rfl rfl
theorem u22_109 : wp scr n mb_22 109 [l0, some (.ref a), l2] st M Q ↔ wp scr n mb_22 110 [l0, some (.ref a), l2] (.ref a :: st) M Q := wp_step rfl rfl rfl rfl rfl
theorem u22_110 : wp scr n mb_22 110 L (o :: st) M Q ↔ mw_o (mm_fld (mc_X scr) M o 1 7) (fun v => wp scr n mb_22 113 L (v :: st) M Q) := wp_getf rfl
theorem u22_113 : wp scr n mb_22 113 L (v :: o :: st) M Q ↔ mw_o (mm_put mc_fty M o v 1 7) (fun M1 => wp scr n mb_22 116 L st M1 Q) := wp_putf rfl
theorem u22_116 : wp scr n mb_22 116 [some (.ref a), l1, l2] st M Q ↔ wp scr n mb_22 117 [some (.ref a), l1, l2] (.ref a :: st) M Q := wp_step rfl rfl rfl rfl rfl
theorem u22_117 : wp scr n mb_22 117 [l0, some (.ref a), l2] st M Q ↔ wp scr n mb_22 118 [l0, some (.ref a), l2] (.ref a :: st) M Q := wp_step rfl rfl rfl rfl rfl
theorem u22_118 : wp scr n mb_22 118 L (o :: st) M Q ↔ mw_o (mm_fld (mc_X scr) M o 1 8) (fun v => wp scr n mb_22 121 L (v :: st) M Q) := wp_getf rfl
theorem u22_121 : wp scr n mb_22 121 L (v :: o :: st) M Q ↔ mw_o (mm_put mc_fty M o v 1 8) (fun M1 => wp scr n mb_22 124 L st M1 Q) := wp_putf rfl
theorem u22_124 : wp scr n mb_22 124 L [] M Q ↔ Q none M := wp_ret rfl rfl
/-- SmallerInTheShop$Layout hasLine (I)Z -/
def mb_23 : mw_B := ((Option.some FieldType.boolean), mp_23)
theorem u23_0 : wp scr n mb_23 0 [l0, some (.int x)] st M Q ↔ wp scr n mb_23 1 [l0, some (.int x)] (.int x :: st) M Q := wp_step rfl rfl rfl rfl rfl
theorem u23_1 : wp scr n mb_23 1 L st M Q ↔ wp scr n mb_23 2 L (.int 4 :: st) M Q := wp_step rfl rfl rfl rfl rfl
theorem u23_2 : wp scr n mb_23 2 L (.int y :: .int x :: st) M Q ↔ (if x = y then wp scr n mb_23 5 L st M Q else wp scr n mb_23 21 L st M Q) := (wp_step rfl rfl rfl rfl rfl).trans wp_iten
theorem u23_5 : wp scr n mb_23 5 [some (.ref a), l1] st M Q ↔ wp scr n mb_23 6 [some (.ref a), l1] (.ref a :: st) M Q := wp_step rfl rfl rfl rfl rfl
theorem u23_6 : wp scr n mb_23 6 L (o :: st) M Q ↔ mw_o (mm_fld (mc_X scr) M o 1 7) (fun v => wp scr n mb_23 9 L (v :: st) M Q) := wp_getf rfl
theorem u23_9 : wp scr n mb_23 9 L st M Q ↔ wp scr n mb_23 10 L (.int 2 :: st) M Q := wp_step rfl rfl rfl rfl rfl
theorem u23_10 : wp scr n mb_23 10 L (.int y :: .int x :: st) M Q ↔ (if x = y then wp scr n mb_23 13 L st M Q else wp scr n mb_23 17 L st M Q) := (wp_step rfl rfl rfl rfl rfl).trans wp_iten
theorem u23_13 : wp scr n mb_23 13 L st M Q ↔ wp scr n mb_23 14 L (.int 1 :: st) M Q := wp_step rfl rfl rfl rfl rfl
theorem u23_14 : wp scr n mb_23 14 L st M Q ↔ wp scr n mb_23 39 L st M Q := wp_step rfl rfl rfl rfl rfl
theorem u23_17 : wp scr n mb_23 17 L st M Q ↔ wp scr n mb_23 18 L (.int 0 :: st) M Q := wp_step rfl rfl rfl rfl rfl
theorem u23_18 : wp scr n mb_23 18 L st M Q ↔ wp scr n mb_23 39 L st M Q := wp_step rfl rfl rfl rfl rfl
theorem u23_21 : wp scr n mb_23 21 [l0, some (.int x)] st M Q ↔ wp scr n mb_23 22 [l0, some (.int x)] (.int x :: st) M Q := wp_step rfl rfl rfl rfl rfl
theorem u23_22 : wp scr n mb_23 22 L st M Q ↔ wp scr n mb_23 23 L (.int 1 :: st) M Q := wp_step rfl rfl rfl rfl rfl
theorem u23_23 : wp scr n mb_23 23 L (.int y :: .int x :: st) M Q ↔ (if x < y then wp scr n mb_23 38 L st M Q else wp scr n mb_23 26 L st M Q) := (wp_step rfl rfl rfl rfl rfl).trans wp_ite
theorem u23_26 : wp scr n mb_23 26 [l0, some (.int x)] st M Q ↔ wp scr n mb_23 27 [l0, some (.int x)] (.int x :: st) M Q := wp_step rfl rfl rfl rfl rfl
theorem u23_27 : wp scr n mb_23 27 [some (.ref a), l1] st M Q ↔ wp scr n mb_23 28 [some (.ref a), l1] (.ref a :: st) M Q := wp_step rfl rfl rfl rfl rfl
theorem u23_28 : wp scr n mb_23 28 L (o :: st) M Q ↔ mw_o (mm_fld (mc_X scr) M o 1 6) (fun v => wp scr n mb_23 31 L (v :: st) M Q) := wp_getf rfl
theorem u23_31 : wp scr n mb_23 31 L (.int y :: .int x :: st) M Q ↔ (if y ≤ x then wp scr n mb_23 38 L st M Q else wp scr n mb_23 34 L st M Q) := (wp_step rfl rfl rfl rfl rfl).trans wp_ite
theorem u23_34 : wp scr n mb_23 34 L st M Q ↔ wp scr n mb_23 35 L (.int 1 :: st) M Q := wp_step rfl rfl rfl rfl rfl
theorem u23_35 : wp scr n mb_23 35 L st M Q ↔ wp scr n mb_23 39 L st M Q := wp_step rfl rfl rfl rfl rfl
theorem u23_38 : wp scr n mb_23 38 L st M Q ↔ wp scr n mb_23 39 L (.int 0 :: st) M Q := wp_step rfl rfl rfl rfl rfl
theorem u23_39 : wp scr n mb_23 39 L [.int x] M Q ↔ ((x = 0 ∨ x = 1) ∧ Q (some (.int x)) M) := wp_retb rfl rfl
/-- SmallerInTheShop$Layout becomeFolded (LSmallerInTheShop$Layout;II)V -/
def mb_24 : mw_B := ((Option.none : Option FieldType), mp_24)
theorem u24_0 : wp scr n mb_24 0 [l0, l1, some (.int x), l3, l4, l5, l6] st M Q ↔ wp scr n mb_24 1 [l0, l1, some (.int x), l3, l4, l5, l6] (.int x :: st) M Q := wp_step rfl rfl rfl rfl rfl
theorem u24_1 : wp scr n mb_24 1 L st M Q ↔ wp scr n mb_24 2 L (.int 4 :: st) M Q := wp_step rfl rfl rfl rfl rfl
theorem u24_2 : wp scr n mb_24 2 L (.int y :: .int x :: st) M Q ↔ (if x = y then wp scr n mb_24 5 L st M Q else wp scr n mb_24 9 L st M Q) := (wp_step rfl rfl rfl rfl rfl).trans wp_iten
theorem u24_5 : wp scr n mb_24 5 L st M Q ↔ wp scr n mb_24 6 L (.int 1 :: st) M Q := wp_step rfl rfl rfl rfl rfl
theorem u24_6 : wp scr n mb_24 6 L st M Q ↔ wp scr n mb_24 10 L st M Q := wp_step rfl rfl rfl rfl rfl
theorem u24_9 : wp scr n mb_24 9 L st M Q ↔ wp scr n mb_24 10 L (.int 0 :: st) M Q := wp_step rfl rfl rfl rfl rfl
theorem u24_10 : wp scr n mb_24 10 [l0, l1, l2, l3, l4, l5, l6] (.int x :: st) M Q ↔ wp scr n mb_24 12 (mm_sto1 [l0, l1, l2, l3, l4, l5, l6] 4 (.int x)) st M Q := wp_step rfl rfl rfl rfl rfl
theorem u24_12 : wp scr n mb_24 12 [l0, l1, l2, l3, some (.int x), l5, l6] st M Q ↔ wp scr n mb_24 14 [l0, l1, l2, l3, some (.int x), l5, l6] (.int x :: st) M Q := wp_step rfl rfl rfl rfl rfl
theorem u24_14 : wp scr n mb_24 14 L (.int x :: st) M Q ↔ (if x = 0 then wp scr n mb_24 21 L st M Q else wp scr n mb_24 17 L st M Q) := (wp_step rfl rfl rfl rfl rfl).trans wp_ite
theorem u24_17 : wp scr n mb_24 17 L st M Q ↔ wp scr n mb_24 18 L (.int 1 :: st) M Q := wp_step rfl rfl rfl rfl rfl
theorem u24_18 : wp scr n mb_24 18 L st M Q ↔ wp scr n mb_24 22 L st M Q := wp_step rfl rfl rfl rfl rfl
theorem u24_21 : wp scr n mb_24 21 [l0, l1, some (.int x), l3, l4, l5, l6] st M Q ↔ wp scr n mb_24 22 [l0, l1, some (.int x), l3, l4, l5, l6] (.int x :: st) M Q := wp_step rfl rfl rfl rfl rfl
theorem u24_22 : wp scr n mb_24 22 [l0, l1, l2, l3, l4, l5, l6] (.int x :: st) M Q ↔ wp scr n mb_24 24 (mm_sto1 [l0, l1, l2, l3, l4, l5, l6] 5 (.int x)) st M Q := wp_step rfl rfl rfl rfl rfl
theorem u24_24 : wp scr n mb_24 24 [l0, l1, l2, some (.int x), l4, l5, l6] st M Q ↔ wp scr n mb_24 25 [l0, l1, l2, some (.int x), l4, l5, l6] (.int x :: st) M Q := wp_step rfl rfl rfl rfl rfl
theorem u24_25 : wp scr n mb_24 25 L st M Q ↔ wp scr n mb_24 26 L (.int 2 :: st) M Q := wp_step rfl rfl rfl rfl rfl
theorem u24_26 : wp scr n mb_24 26 L (.int y :: .int x :: st) M Q ↔ (if y = 0 then False else wp scr n mb_24 27 L (.int (x - x / y * y) :: st) M Q) := wp_irem rfl
theorem u24_27 : wp scr n mb_24 27 L (.int x :: st) M Q ↔ (if x = 0 then wp scr n mb_24 30 L st M Q else wp scr n mb_24 34 L st M Q) := (wp_step rfl rfl rfl rfl rfl).trans wp_iten
theorem u24_30 : wp scr n mb_24 30 L st M Q ↔ wp scr n mb_24 31 L (.int 1 :: st) M Q := wp_step rfl rfl rfl rfl rfl
theorem u24_31 : wp scr n mb_24 31 L st M Q ↔ wp scr n mb_24 35 L st M Q := wp_step rfl rfl rfl rfl rfl
theorem u24_34 : wp scr n mb_24 34 L st M Q ↔ wp scr n mb_24 35 L (.int 0 :: st) M Q := wp_step rfl rfl rfl rfl rfl
theorem u24_35 : wp scr n mb_24 35 [l0, l1, l2, l3, l4, l5, l6] (.int x :: st) M Q ↔ wp scr n mb_24 37 (mm_sto1 [l0, l1, l2, l3, l4, l5, l6] 6 (.int x)) st M Q := wp_step rfl rfl rfl rfl rfl
theorem u24_37 : wp scr n mb_24 37 [some (.ref a), l1, l2, l3, l4, l5, l6] st M Q ↔ wp scr n mb_24 38 [some (.ref a), l1, l2, l3, l4, l5, l6] (.ref a :: st) M Q := wp_step rfl rfl rfl rfl rfl
theorem u24_38 : wp scr n mb_24 38 [l0, some (.ref a), l2, l3, l4, l5, l6] st M Q ↔ wp scr n mb_24 39 [l0, some (.ref a), l2, l3, l4, l5, l6] (.ref a :: st) M Q := wp_step rfl rfl rfl rfl rfl
theorem u24_39 : wp scr n mb_24 39 [l0, l1, l2, l3, some (.int x), l5, l6] st M Q ↔ wp scr n mb_24 41 [l0, l1, l2, l3, some (.int x), l5, l6] (.int x :: st) M Q := wp_step rfl rfl rfl rfl rfl
theorem u24_41 : wp scr n mb_24 41 [l0, l1, l2, l3, l4, some (.int x), l6] st M Q ↔ wp scr n mb_24 43 [l0, l1, l2, l3, l4, some (.int x), l6] (.int x :: st) M Q := wp_step rfl rfl rfl rfl rfl
theorem u24_43 : wp scr n mb_24 43 [l0, l1, l2, some (.int x), l4, l5, l6] st M Q ↔ wp scr n mb_24 44 [l0, l1, l2, some (.int x), l4, l5, l6] (.int x :: st) M Q := wp_step rfl rfl rfl rfl rfl
theorem u24_44 : wp scr n mb_24 44 L st M Q ↔ wp scr n mb_24 45 L (.int 2 :: st) M Q := wp_step rfl rfl rfl rfl rfl
theorem u24_45 : wp scr n mb_24 45 L (.int y :: .int x :: st) M Q ↔ (if y ≤ x then wp scr n mb_24 52 L st M Q else wp scr n mb_24 48 L st M Q) := (wp_step rfl rfl rfl rfl rfl).trans wp_ite
theorem u24_48 : wp scr n mb_24 48 L st M Q ↔ wp scr n mb_24 49 L (.int 1 :: st) M Q := wp_step rfl rfl rfl rfl rfl
theorem u24_49 : wp scr n mb_24 49 L st M Q ↔ wp scr n mb_24 53 L st M Q := wp_step rfl rfl rfl rfl rfl
theorem u24_52 : wp scr n mb_24 52 L st M Q ↔ wp scr n mb_24 53 L (.int 0 :: st) M Q := wp_step rfl rfl rfl rfl rfl
theorem u24_53 : wp scr n mb_24 53 [l0, l1, l2, l3, l4, l5, some (.int x)] st M Q ↔ wp scr n mb_24 55 [l0, l1, l2, l3, l4, l5, some (.int x)] (.int x :: st) M Q := wp_step rfl rfl rfl rfl rfl
theorem u24_55 : wp scr n mb_24 55 L (a6 :: a5 :: a4 :: a3 :: a2 :: .ref a :: st) M Q ↔ ((mw_r M a 1 ∧ mw_st st) ∧ Wp scr n 25 [.ref a, a2, a3, a4, a5, a6] M (fun r1 M1 => wp scr n mb_24 58 L (r1.toList ++ st) M1 Q)) := wp_vir rfl rfl rfl rfl rfl
theorem u24_58 : wp scr n mb_24 58 [some (.ref a), l1, l2, l3, l4, l5, l6] st M Q ↔ wp scr n mb_24 59 [some (.ref a), l1, l2, l3, l4, l5, l6] (.ref a :: st) M Q := wp_step rfl rfl rfl rfl rfl
theorem u24_59 : wp scr n mb_24 59 [l0, l1, l2, l3, some (.int x), l5, l6] st M Q ↔ wp scr n mb_24 61 [l0, l1, l2, l3, some (.int x), l5, l6] (.int x :: st) M Q := wp_step rfl rfl rfl rfl rfl
theorem u24_61 : wp scr n mb_24 61 L (.int x :: st) M Q ↔ (if x = 0 then wp scr n mb_24 71 L st M Q else wp scr n mb_24 64 L st M Q) := (wp_step rfl rfl rfl rfl rfl).trans wp_ite
theorem u24_64 : wp scr n mb_24 64 [l0, some (.ref a), l2, l3, l4, l5, l6] st M Q ↔ wp scr n mb_24 65 [l0, some (.ref a), l2, l3, l4, l5, l6] (.ref a :: st) M Q := wp_step rfl rfl rfl rfl rfl
theorem u24_65 : wp scr n mb_24 65 L (o :: st) M Q ↔ mw_o (mm_fld (mc_X scr) M o 1 6) (fun v => wp scr n mb_24 68 L (v :: st) M Q) := wp_getf rfl
theorem u24_68 : wp scr n mb_24 68 L st M Q ↔ wp scr n mb_24 83 L st M Q := wp_step rfl rfl rfl rfl rfl
theorem u24_71 : wp scr n mb_24 71 [l0, l1, l2, l3, l4, some (.int x), l6] st M Q ↔ wp scr n mb_24 73 [l0, l1, l2, l3, l4, some (.int x), l6] (.int x :: st) M Q := wp_step rfl rfl rfl rfl rfl
theorem u24_73 : wp scr n mb_24 73 [l0, some (.ref a), l2, l3, l4, l5, l6] st M Q ↔ wp scr n mb_24 74 [l0, some (.ref a), l2, l3, l4, l5, l6] (.ref a :: st) M Q := wp_step rfl rfl rfl rfl rfl
theorem u24_74 : wp scr n mb_24 74 L (o :: st) M Q ↔ mw_o (mm_fld (mc_X scr) M o 1 6) (fun v => wp scr n mb_24 77 L (v :: st) M Q) := wp_getf rfl
theorem u24_77 : wp scr n mb_24 77 [l0, l1, l2, l3, l4, some (.int x), l6] st M Q ↔ wp scr n mb_24 79 [l0, l1, l2, l3, l4, some (.int x), l6] (.int x :: st) M Q := wp_step rfl rfl rfl rfl rfl
theorem u24_79 : wp scr n mb_24 79 L (.int y :: .int x :: st) M Q ↔ wp scr n mb_24 80 L (.int (x - y) :: st) M Q := wp_step rfl rfl rfl rfl rfl
theorem u24_80 : wp scr n mb_24 80 L (.int y :: .int x :: st) M Q ↔ (mw_st st ∧ wp scr n mb_24 83 L (.int (if x < y then y else x) :: st) M Q) := wp_math997 rfl
theorem u24_83 : wp scr n mb_24 83 L (v :: o :: st) M Q ↔ mw_o (mm_put mc_fty M o v 1 6) (fun M1 => wp scr n mb_24 86 L st M1 Q) := wp_putf rfl
theorem u24_86 : wp scr n mb_24 86 [some (.ref a), l1, l2, l3, l4, l5, l6] st M Q ↔ wp scr n mb_24 87 [some (.ref a), l1, l2, l3, l4, l5, l6] (.ref a :: st) M Q := wp_step rfl rfl rfl rfl rfl
theorem u24_87 : wp scr n mb_24 87 [l0, l1, l2, l3, some (.int x), l5, l6] st M Q ↔ wp scr n mb_24 89 [l0, l1, l2, l3, some (.int x), l5, l6] (.int x :: st) M Q := wp_step rfl rfl rfl rfl rfl
theorem u24_89 : wp scr n mb_24 89 L (.int x :: st) M Q ↔ (if x = 0 then wp scr n mb_24 96 L st M Q else wp scr n mb_24 92 L st M Q) := (wp_step rfl rfl rfl rfl rfl).trans wp_ite
theorem u24_92 : wp scr n mb_24 92 L st M Q ↔ wp scr n mb_24 93 L (.int 1 :: st) M Q := wp_step rfl rfl rfl rfl rfl
theorem u24_93 : wp scr n mb_24 93 L st M Q ↔ wp scr n mb_24 100 L st M Q := wp_step rfl rfl rfl rfl rfl
theorem u24_96 : wp scr n mb_24 96 [l0, some (.ref a), l2, l3, l4, l5, l6] st M Q ↔ wp scr n mb_24 97 [l0, some (.ref a), l2, l3, l4, l5, l6] (.ref a :: st) M Q := wp_step rfl rfl rfl rfl rfl
theorem u24_97 : wp scr n mb_24 97 L (o :: st) M Q ↔ mw_o (mm_fld (mc_X scr) M o 1 7) (fun v => wp scr n mb_24 100 L (v :: st) M Q) := wp_getf rfl
theorem u24_100 : wp scr n mb_24 100 L (v :: o :: st) M Q ↔ mw_o (mm_put mc_fty M o v 1 7) (fun M1 => wp scr n mb_24 103 L st M1 Q) := wp_putf rfl
theorem u24_103 : wp scr n mb_24 103 [some (.ref a), l1, l2, l3, l4, l5, l6] st M Q ↔ wp scr n mb_24 104 [some (.ref a), l1, l2, l3, l4, l5, l6] (.ref a :: st) M Q := wp_step rfl rfl rfl rfl rfl
theorem u24_104 : wp scr n mb_24 104 L (.ref a :: st) M Q ↔ ((mw_r M a 1 ∧ mw_st st) ∧ Wp scr n 27 [.ref a] M (fun r1 M1 => wp scr n mb_24 107 L (r1.toList ++ st) M1 Q)) := wp_vir rfl rfl rfl rfl rfl
theorem u24_107 : wp scr n mb_24 107 [some (.ref a), l1, l2, l3, l4, l5, l6] st M Q ↔ wp scr n mb_24 108 [some (.ref a), l1, l2, l3, l4, l5, l6] (.ref a :: st) M Q := wp_step rfl rfl rfl rfl rfl
theorem u24_108 : wp scr n mb_24 108 [l0, some (.ref a), l2, l3, l4, l5, l6] st M Q ↔ wp scr n mb_24 109 [l0, some (.ref a), l2, l3, l4, l5, l6] (.ref a :: st) M Q := wp_step rfl rfl rfl rfl rfl
theorem u24_109 : wp scr n mb_24 109 [l0, l1, l2, l3, some (.int x), l5, l6] st M Q ↔ wp scr n mb_24 111 [l0, l1, l2, l3, some (.int x), l5, l6] (.int x :: st) M Q := wp_step rfl rfl rfl rfl rfl
theorem u24_111 : wp scr n mb_24 111 [l0, l1, l2, l3, l4, some (.int x), l6] st M Q ↔ wp scr n mb_24 113 [l0, l1, l2, l3, l4, some (.int x), l6] (.int x :: st) M Q := wp_step rfl rfl rfl rfl rfl
theorem u24_113 : wp scr n mb_24 113 [l0, l1, l2, l3, l4, l5, some (.int x)] st M Q ↔ wp scr n mb_24 115 [l0, l1, l2, l3, l4, l5, some (.int x)] (.int x :: st) M Q := wp_step rfl rfl rfl rfl rfl
theorem u24_115 : wp scr n mb_24 115 L (a5 :: a4 :: a3 :: a2 :: .ref a :: st) M Q ↔ ((mw_r M a 1 ∧ mw_st st) ∧ Wp scr n 29 [.ref a, a2, a3, a4, a5] M (fun r1 M1 => wp scr n mb_24 118 L (r1.toList ++ st) M1 Q)) := wp_vir rfl rfl rfl rfl rfl
theorem u24_118 : wp scr n mb_24 118 L [] M Q ↔ Q none M := wp_ret rfl rfl
/-- SmallerInTheShop$Layout movePanels (LSmallerInTheShop$Layout;ZIZZ)V -/
def mb_25 : mw_B := ((Option.none : Option FieldType), mp_25)
theorem u25_0 : wp scr n mb_25 0 [l0, l1, some (.int x), l3, l4, l5, l6, l7, l8, l9, l10, l11, l12, l13, l14] st M Q ↔ wp scr n mb_25 1 [l0, l1, some (.int x), l3, l4, l5, l6, l7, l8, l9, l10, l11, l12, l13, l14] (.int x :: st) M Q := wp_step rfl rfl rfl rfl rfl
theorem u25_1 : wp scr n mb_25 1 L (.int x :: st) M Q ↔ (if x = 0 then wp scr n mb_25 11 L st M Q else wp scr n mb_25 4 L st M Q) := (wp_step rfl rfl rfl rfl rfl).trans wp_ite
theorem u25_4 : wp scr n mb_25 4 [l0, some (.ref a), l2, l3, l4, l5, l6, l7, l8, l9, l10, l11, l12, l13, l14] st M Q ↔ wp scr n mb_25 5 [l0, some (.ref a), l2, l3, l4, l5, l6, l7, l8, l9, l10, l11, l12, l13, l14] (.ref a :: st) M Q := wp_step rfl rfl rfl rfl rfl
theorem u25_5 : wp scr n mb_25 5 L (o :: st) M Q ↔ mw_o (mm_fld (mc_X scr) M o 1 7) (fun v => wp scr n mb_25 8 L (v :: st) M Q) := wp_getf rfl
theorem u25_8 : wp scr n mb_25 8 L st M Q ↔ wp scr n mb_25 15 L st M Q := wp_step rfl rfl rfl rfl rfl
theorem u25_11 : wp scr n mb_25 11 [l0, some (.ref a), l2, l3, l4, l5, l6, l7, l8, l9, l10, l11, l12, l13, l14] st M Q ↔ wp scr n mb_25 12 [l0, some (.ref a), l2, l3, l4, l5, l6, l7, l8, l9, l10, l11, l12, l13, l14] (.ref a :: st) M Q := wp_step rfl rfl rfl rfl rfl
theorem u25_12 : wp scr n mb_25 12 L (o :: st) M Q ↔ mw_o (mm_fld (mc_X scr) M o 1 6) (fun v => wp scr n mb_25 15 L (v :: st) M Q) := wp_getf rfl
theorem u25_15 : wp scr n mb_25 15 [l0, l1, l2, l3, l4, l5, l6, l7, l8, l9, l10, l11, l12, l13, l14] (.int x :: st) M Q ↔ wp scr n mb_25 17 (mm_sto1 [l0, l1, l2, l3, l4, l5, l6, l7, l8, l9, l10, l11, l12, l13, l14] 6 (.int x)) st M Q := wp_step rfl rfl rfl rfl rfl
theorem u25_17 : wp scr n mb_25 17 [l0, l1, l2, l3, some (.int x), l5, l6, l7, l8, l9, l10, l11, l12, l13, l14] st M Q ↔ wp scr n mb_25 19 [l0, l1, l2, l3, some (.int x), l5, l6, l7, l8, l9, l10, l11, l12, l13, l14] (.int x :: st) M Q := wp_step rfl rfl rfl rfl rfl
theorem u25_19 : wp scr n mb_25 19 L (.int x :: st) M Q ↔ (if x = 0 then wp scr n mb_25 26 L st M Q else wp scr n mb_25 22 L st M Q) := (wp_step rfl rfl rfl rfl rfl).trans wp_ite
theorem u25_22 : wp scr n mb_25 22 [l0, l1, l2, some (.int x), l4, l5, l6, l7, l8, l9, l10, l11, l12, l13, l14] st M Q ↔ wp scr n mb_25 23 [l0, l1, l2, some (.int x), l4, l5, l6, l7, l8, l9, l10, l11, l12, l13, l14] (.int x :: st) M Q := wp_step rfl rfl rfl rfl rfl
theorem u25_23 : wp scr n mb_25 23 L st M Q ↔ wp scr n mb_25 36 L st M Q := wp_step rfl rfl rfl rfl rfl
theorem u25_26 : wp scr n mb_25 26 L st M Q ↔ wp scr n mb_25 27 L (.int 0 :: st) M Q := wp_step rfl rfl rfl rfl rfl
theorem u25_27 : wp scr n mb_25 27 L st M Q ↔ wp scr n mb_25 28 L (.int 2 :: st) M Q := wp_step rfl rfl rfl rfl rfl
theorem u25_28 : wp scr n mb_25 28 [l0, l1, l2, some (.int x), l4, l5, l6, l7, l8, l9, l10, l11, l12, l13, l14] st M Q ↔ wp scr n mb_25 29 [l0, l1, l2, some (.int x), l4, l5, l6, l7, l8, l9, l10, l11, l12, l13, l14] (.int x :: st) M Q := wp_step rfl rfl rfl rfl rfl
theorem u25_29 : wp scr n mb_25 29 L (.int y :: .int x :: st) M Q ↔ wp scr n mb_25 30 L (.int (x * y) :: st) M Q := wp_step rfl rfl rfl rfl rfl
theorem u25_30 : wp scr n mb_25 30 [l0, l1, l2, l3, l4, l5, some (.int x), l7, l8, l9, l10, l11, l12, l13, l14] st M Q ↔ wp scr n mb_25 32 [l0, l1, l2, l3, l4, l5, some (.int x), l7, l8, l9, l10, l11, l12, l13, l14] (.int x :: st) M Q := wp_step rfl rfl rfl rfl rfl
theorem u25_32 : wp scr n mb_25 32 L (.int y :: .int x :: st) M Q ↔ wp scr n mb_25 33 L (.int (x - y) :: st) M Q := wp_step rfl rfl rfl rfl rfl
theorem u25_33 : wp scr n mb_25 33 L (.int y :: .int x :: st) M Q ↔ (mw_st st ∧ wp scr n mb_25 36 L (.int (if y < x then y else x) :: st) M Q) := wp_math998 rfl
theorem u25_36 : wp scr n mb_25 36 [l0, l1, l2, l3, l4, l5, l6, l7, l8, l9, l10, l11, l12, l13, l14] (.int x :: st) M Q ↔ wp scr n mb_25 38 (mm_sto1 [l0, l1, l2, l3, l4, l5, l6, l7, l8, l9, l10, l11, l12, l13, l14] 7 (.int x)) st M Q := wp_step rfl rfl rfl rfl rfl
theorem u25_38 : wp scr n mb_25 38 L st M Q ↔ wp scr n mb_25 39 L (.int 0 :: st) M Q := wp_step rfl rfl rfl rfl rfl
theorem u25_39 : wp scr n mb_25 39 [l0, l1, l2, l3, l4, l5, l6, l7, l8, l9, l10, l11, l12, l13, l14] (.int x :: st) M Q ↔ wp scr n mb_25 41 (mm_sto1 [l0, l1, l2, l3, l4, l5, l6, l7, l8, l9, l10, l11, l12, l13, l14] 8 (.int x)) st M Q := wp_step rfl rfl rfl rfl rfl
theorem u25_41 : wp scr n mb_25 41 [l0, l1, l2, l3, l4, l5, l6, l7, some (.int x), l9, l10, l11, l12, l13, l14] st M Q ↔ wp scr n mb_25 43 [l0, l1, l2, l3, l4, l5, l6, l7, some (.int x), l9, l10, l11, l12, l13, l14] (.int x :: st) M Q := wp_step rfl rfl rfl rfl rfl
theorem u25_43 : wp scr n mb_25 43 L st M Q ↔ wp scr n mb_25 45 L (.int 8 :: st) M Q := wp_step rfl rfl rfl rfl rfl
theorem u25_45 : wp scr n mb_25 45 L (.int y :: .int x :: st) M Q ↔ (if y ≤ x then wp scr n mb_25 318 L st M Q else wp scr n mb_25 48 L st M Q) := (wp_step rfl rfl rfl rfl rfl).trans wp_ite
theorem u25_48 : wp scr n mb_25 48 [l0, l1, some (.int x), l3, l4, l5, l6, l7, l8, l9, l10, l11, l12, l13, l14] st M Q ↔ wp scr n mb_25 49 [l0, l1, some (.int x), l3, l4, l5, l6, l7, l8, l9, l10, l11, l12, l13, l14] (.int x :: st) M Q := wp_step rfl rfl rfl rfl rfl
theorem u25_49 : wp scr n mb_25 49 L (.int x :: st) M Q ↔ (if x = 0 then wp scr n mb_25 62 L st M Q else wp scr n mb_25 52 L st M Q) := (wp_step rfl rfl rfl rfl rfl).trans wp_ite
theorem u25_52 : wp scr n mb_25 52 [l0, some (.ref a), l2, l3, l4, l5, l6, l7, l8, l9, l10, l11, l12, l13, l14] st M Q ↔ wp scr n mb_25 53 [l0, some (.ref a), l2, l3, l4, l5, l6, l7, l8, l9, l10, l11, l12, l13, l14] (.ref a :: st) M Q := wp_step rfl rfl rfl rfl rfl
theorem u25_53 : wp scr n mb_25 53 L (o :: st) M Q ↔ mw_o (mm_fld (mc_X scr) M o 1 1) (fun v => wp scr n mb_25 56 L (v :: st) M Q) := wp_getf rfl
theorem u25_56 : wp scr n mb_25 56 [l0, l1, l2, l3, l4, l5, l6, l7, some (.int x), l9, l10, l11, l12, l13, l14] st M Q ↔ wp scr n mb_25 58 [l0, l1, l2, l3, l4, l5, l6, l7, some (.int x), l9, l10, l11, l12, l13, l14] (.int x :: st) M Q := wp_step rfl rfl rfl rfl rfl
theorem u25_58 : wp scr n mb_25 58 L (.int y :: o :: st) M Q ↔ mw_o (mm_ld (mc_X scr) M o y) (fun x => wp scr n mb_25 59 L (.int x :: st) M Q) := wp_iald rfl
theorem u25_59 : wp scr n mb_25 59 L st M Q ↔ wp scr n mb_25 69 L st M Q := wp_step rfl rfl rfl rfl rfl
theorem u25_62 : wp scr n mb_25 62 [l0, some (.ref a), l2, l3, l4, l5, l6, l7, l8, l9, l10, l11, l12, l13, l14] st M Q ↔ wp scr n mb_25 63 [l0, some (.ref a), l2, l3, l4, l5, l6, l7, l8, l9, l10, l11, l12, l13, l14] (.ref a :: st) M Q := wp_step rfl rfl rfl rfl rfl
theorem u25_63 : wp scr n mb_25 63 L (o :: st) M Q ↔ mw_o (mm_fld (mc_X scr) M o 1 0) (fun v => wp scr n mb_25 66 L (v :: st) M Q) := wp_getf rfl
theorem u25_66 : wp scr n mb_25 66 [l0, l1, l2, l3, l4, l5, l6, l7, some (.int x), l9, l10, l11, l12, l13, l14] st M Q ↔ wp scr n mb_25 68 [l0, l1, l2, l3, l4, l5, l6, l7, some (.int x), l9, l10, l11, l12, l13, l14] (.int x :: st) M Q := wp_step rfl rfl rfl rfl rfl
theorem u25_68 : wp scr n mb_25 68 L (.int y :: o :: st) M Q ↔ mw_o (mm_ld (mc_X scr) M o y) (fun x => wp scr n mb_25 69 L (.int x :: st) M Q) := wp_iald rfl
theorem u25_69 : wp scr n mb_25 69 [l0, l1, l2, l3, l4, l5, l6, l7, l8, l9, l10, l11, l12, l13, l14] (.int x :: st) M Q ↔ wp scr n mb_25 71 (mm_sto1 [l0, l1, l2, l3, l4, l5, l6, l7, l8, l9, l10, l11, l12, l13, l14] 9 (.int x)) st M Q := wp_step rfl rfl rfl rfl rfl
theorem u25_71 : wp scr n mb_25 71 L st M Q ↔ wp scr n mb_25 72 L (.int 2 :: st) M Q := wp_step rfl rfl rfl rfl rfl
theorem u25_72 : wp scr n mb_25 72 [l0, l1, l2, some (.int x), l4, l5, l6, l7, l8, l9, l10, l11, l12, l13, l14] st M Q ↔ wp scr n mb_25 73 [l0, l1, l2, some (.int x), l4, l5, l6, l7, l8, l9, l10, l11, l12, l13, l14] (.int x :: st) M Q := wp_step rfl rfl rfl rfl rfl
theorem u25_73 : wp scr n mb_25 73 L (.int y :: .int x :: st) M Q ↔ wp scr n mb_25 74 L (.int (x * y) :: st) M Q := wp_step rfl rfl rfl rfl rfl
theorem u25_74 : wp scr n mb_25 74 L st M Q ↔ wp scr n mb_25 75 L (.int 1 :: st) M Q := wp_step rfl rfl rfl rfl rfl
theorem u25_75 : wp scr n mb_25 75 L (.int y :: .int x :: st) M Q ↔ wp scr n mb_25 76 L (.int (x - y) :: st) M Q := wp_step rfl rfl rfl rfl rfl
theorem u25_76 : wp scr n mb_25 76 [l0, l1, l2, l3, l4, l5, l6, l7, l8, some (.int x), l10, l11, l12, l13, l14] st M Q ↔ wp scr n mb_25 78 [l0, l1, l2, l3, l4, l5, l6, l7, l8, some (.int x), l10, l11, l12, l13, l14] (.int x :: st) M Q := wp_step rfl rfl rfl rfl rfl
theorem u25_78 : wp scr n mb_25 78 L (.int y :: .int x :: st) M Q ↔ wp scr n mb_25 79 L (.int (x - y) :: st) M Q := wp_step rfl rfl rfl rfl rfl
theorem u25_79 : wp scr n mb_25 79 [l0, l1, l2, l3, l4, l5, l6, l7, l8, l9, l10, l11, l12, l13, l14] (.int x :: st) M Q ↔ wp scr n mb_25 81 (mm_sto1 [l0, l1, l2, l3, l4, l5, l6, l7, l8, l9, l10, l11, l12, l13, l14] 10 (.int x)) st M Q := wp_step rfl rfl rfl rfl rfl
theorem u25_81 : wp scr n mb_25 81 [l0, l1, some (.int x), l3, l4, l5, l6, l7, l8, l9, l10, l11, l12, l13, l14] st M Q ↔ wp scr n mb_25 82 [l0, l1, some (.int x), l3, l4, l5, l6, l7, l8, l9, l10, l11, l12, l13, l14] (.int x :: st) M Q := wp_step rfl rfl rfl rfl rfl
theorem u25_82 : wp scr n mb_25 82 L (.int x :: st) M Q ↔ (if x = 0 then wp scr n mb_25 95 L st M Q else wp scr n mb_25 85 L st M Q) := (wp_step rfl rfl rfl rfl rfl).trans wp_ite
theorem u25_85 : wp scr n mb_25 85 [l0, some (.ref a), l2, l3, l4, l5, l6, l7, l8, l9, l10, l11, l12, l13, l14] st M Q ↔ wp scr n mb_25 86 [l0, some (.ref a), l2, l3, l4, l5, l6, l7, l8, l9, l10, l11, l12, l13, l14] (.ref a :: st) M Q := wp_step rfl rfl rfl rfl rfl
theorem u25_86 : wp scr n mb_25 86 L (o :: st) M Q ↔ mw_o (mm_fld (mc_X scr) M o 1 0) (fun v => wp scr n mb_25 89 L (v :: st) M Q) := wp_getf rfl
theorem u25_89 : wp scr n mb_25 89 [l0, l1, l2, l3, l4, l5, l6, l7, some (.int x), l9, l10, l11, l12, l13, l14] st M Q ↔ wp scr n mb_25 91 [l0, l1, l2, l3, l4, l5, l6, l7, some (.int x), l9, l10, l11, l12, l13, l14] (.int x :: st) M Q := wp_step rfl rfl rfl rfl rfl
theorem u25_91 : wp scr n mb_25 91 L (.int y :: o :: st) M Q ↔ mw_o (mm_ld (mc_X scr) M o y) (fun x => wp scr n mb_25 92 L (.int x :: st) M Q) := wp_iald rfl
theorem u25_92 : wp scr n mb_25 92 L st M Q ↔ wp scr n mb_25 102 L st M Q := wp_step rfl rfl rfl rfl rfl
theorem u25_95 : wp scr n mb_25 95 [l0, some (.ref a), l2, l3, l4, l5, l6, l7, l8, l9, l10, l11, l12, l13, l14] st M Q ↔ wp scr n mb_25 96 [l0, some (.ref a), l2, l3, l4, l5, l6, l7, l8, l9, l10, l11, l12, l13, l14] (.ref a :: st) M Q := wp_step rfl rfl rfl rfl rfl
theorem u25_96 : wp scr n mb_25 96 L (o :: st) M Q ↔ mw_o (mm_fld (mc_X scr) M o 1 1) (fun v => wp scr n mb_25 99 L (v :: st) M Q) := wp_getf rfl
theorem u25_99 : wp scr n mb_25 99 [l0, l1, l2, l3, l4, l5, l6, l7, some (.int x), l9, l10, l11, l12, l13, l14] st M Q ↔ wp scr n mb_25 101 [l0, l1, l2, l3, l4, l5, l6, l7, some (.int x), l9, l10, l11, l12, l13, l14] (.int x :: st) M Q := wp_step rfl rfl rfl rfl rfl
theorem u25_101 : wp scr n mb_25 101 L (.int y :: o :: st) M Q ↔ mw_o (mm_ld (mc_X scr) M o y) (fun x => wp scr n mb_25 102 L (.int x :: st) M Q) := wp_iald rfl
theorem u25_102 : wp scr n mb_25 102 [l0, l1, l2, l3, l4, l5, l6, l7, l8, l9, l10, l11, l12, l13, l14] (.int x :: st) M Q ↔ wp scr n mb_25 104 (mm_sto1 [l0, l1, l2, l3, l4, l5, l6, l7, l8, l9, l10, l11, l12, l13, l14] 11 (.int x)) st M Q := wp_step rfl rfl rfl rfl rfl
theorem u25_104 : wp scr n mb_25 104 [l0, l1, l2, l3, l4, l5, l6, l7, l8, l9, some (.int x), l11, l12, l13, l14] st M Q ↔ wp scr n mb_25 106 [l0, l1, l2, l3, l4, l5, l6, l7, l8, l9, some (.int x), l11, l12, l13, l14] (.int x :: st) M Q := wp_step rfl rfl rfl rfl rfl
theorem u25_106 : wp scr n mb_25 106 [l0, l1, l2, l3, l4, l5, some (.int x), l7, l8, l9, l10, l11, l12, l13, l14] st M Q ↔ wp scr n mb_25 108 [l0, l1, l2, l3, l4, l5, some (.int x), l7, l8, l9, l10, l11, l12, l13, l14] (.int x :: st) M Q := wp_step rfl rfl rfl rfl rfl
theorem u25_108 : wp scr n mb_25 108 L (a2 :: a1 :: st) M Q ↔ (mw_st st ∧ Wp scr n 89 [a1, a2] M (fun r1 M1 => wp scr n mb_25 111 L (r1.toList ++ st) M1 Q)) := wp_sta rfl rfl rfl rfl
theorem u25_111 : wp scr n mb_25 111 L (.int x :: st) M Q ↔ (if x = 0 then wp scr n mb_25 126 L st M Q else wp scr n mb_25 114 L st M Q) := (wp_step rfl rfl rfl rfl rfl).trans wp_ite
theorem u25_114 : wp scr n mb_25 114 [l0, some (.ref a), l2, l3, l4, l5, l6, l7, l8, l9, l10, l11, l12, l13, l14] st M Q ↔ wp scr n mb_25 115 [l0, some (.ref a), l2, l3, l4, l5, l6, l7, l8, l9, l10, l11, l12, l13, l14] (.ref a :: st) M Q := wp_step rfl rfl rfl rfl rfl
theorem u25_115 : wp scr n mb_25 115 [l0, l1, some (.int x), l3, l4, l5, l6, l7, l8, l9, l10, l11, l12, l13, l14] st M Q ↔ wp scr n mb_25 116 [l0, l1, some (.int x), l3, l4, l5, l6, l7, l8, l9, l10, l11, l12, l13, l14] (.int x :: st) M Q := wp_step rfl rfl rfl rfl rfl
theorem u25_116 : wp scr n mb_25 116 [l0, l1, l2, l3, l4, l5, l6, l7, l8, l9, some (.int x), l11, l12, l13, l14] st M Q ↔ wp scr n mb_25 118 [l0, l1, l2, l3, l4, l5, l6, l7, l8, l9, some (.int x), l11, l12, l13, l14] (.int x :: st) M Q := wp_step rfl rfl rfl rfl rfl
theorem u25_118 : wp scr n mb_25 118 [l0, l1, l2, l3, l4, l5, l6, l7, l8, l9, l10, some (.int x), l12, l13, l14] st M Q ↔ wp scr n mb_25 120 [l0, l1, l2, l3, l4, l5, l6, l7, l8, l9, l10, some (.int x), l12, l13, l14] (.int x :: st) M Q := wp_step rfl rfl rfl rfl rfl
theorem u25_120 : wp scr n mb_25 120 L (a4 :: a3 :: a2 :: .ref a :: st) M Q ↔ ((mw_r M a 1 ∧ mw_st st) ∧ Wp scr n 26 [.ref a, a2, a3, a4] M (fun r1 M1 => wp scr n mb_25 123 L (r1.toList ++ st) M1 Q)) := wp_vir rfl rfl rfl rfl rfl
theorem u25_123 : wp scr n mb_25 123 L st M Q ↔ wp scr n mb_25 127 L st M Q := wp_step rfl rfl rfl rfl rfl
theorem u25_126 : wp scr n mb_25 126 L st M Q ↔ wp scr n mb_25 127 L (.int 0 :: st) M Q := wp_step rfl rfl rfl rfl rfl
theorem u25_127 : wp scr n mb_25 127 [l0, l1, l2, l3, l4, l5, l6, l7, l8, l9, l10, l11, l12, l13, l14] (.int x :: st) M Q ↔ wp scr n mb_25 129 (mm_sto1 [l0, l1, l2, l3, l4, l5, l6, l7, l8, l9, l10, l11, l12, l13, l14] 12 (.int x)) st M Q := wp_step rfl rfl rfl rfl rfl
theorem u25_129 : wp scr n mb_25 129 [l0, l1, l2, l3, l4, l5, l6, l7, l8, some (.int x), l10, l11, l12, l13, l14] st M Q ↔ wp scr n mb_25 131 [l0, l1, l2, l3, l4, l5, l6, l7, l8, some (.int x), l10, l11, l12, l13, l14] (.int x :: st) M Q := wp_step rfl rfl rfl rfl rfl
theorem u25_131 : wp scr n mb_25 131 [l0, l1, l2, some (.int x), l4, l5, l6, l7, l8, l9, l10, l11, l12, l13, l14] st M Q ↔ wp scr n mb_25 132 [l0, l1, l2, some (.int x), l4, l5, l6, l7, l8, l9, l10, l11, l12, l13, l14] (.int x :: st) M Q := wp_step rfl rfl rfl rfl rfl
theorem u25_132 : wp scr n mb_25 132 L (.int y :: .int x :: st) M Q ↔ (if y ≤ x then wp scr n mb_25 139 L st M Q else wp scr n mb_25 135 L st M Q) := (wp_step rfl rfl rfl rfl rfl).trans wp_ite
theorem u25_135 : wp scr n mb_25 135 L st M Q ↔ wp scr n mb_25 136 L (.int 1 :: st) M Q := wp_step rfl rfl rfl rfl rfl
theorem u25_136 : wp scr n mb_25 136 L st M Q ↔ wp scr n mb_25 140 L st M Q := wp_step rfl rfl rfl rfl rfl
theorem u25_139 : wp scr n mb_25 139 L st M Q ↔ wp scr n mb_25 140 L (.int 0 :: st) M Q := wp_step rfl rfl rfl rfl rfl
theorem u25_140 : wp scr n mb_25 140 [l0, l1, l2, l3, some (.int x), l5, l6, l7, l8, l9, l10, l11, l12, l13, l14] st M Q ↔ wp scr n mb_25 142 [l0, l1, l2, l3, some (.int x), l5, l6, l7, l8, l9, l10, l11, l12, l13, l14] (.int x :: st) M Q := wp_step rfl rfl rfl rfl rfl
theorem u25_142 : wp scr n mb_25 142 L (.int y :: .int x :: st) M Q ↔ (if x = y then wp scr n mb_25 145 L st M Q else wp scr n mb_25 149 L st M Q) := (wp_step rfl rfl rfl rfl rfl).trans wp_iten
theorem u25_145 : wp scr n mb_25 145 L st M Q ↔ wp scr n mb_25 146 L (.int 1 :: st) M Q := wp_step rfl rfl rfl rfl rfl
theorem u25_146 : wp scr n mb_25 146 L st M Q ↔ wp scr n mb_25 150 L st M Q := wp_step rfl rfl rfl rfl rfl
theorem u25_149 : wp scr n mb_25 149 L st M Q ↔ wp scr n mb_25 150 L (.int 0 :: st) M Q := wp_step rfl rfl rfl rfl rfl
theorem u25_150 : wp scr n mb_25 150 [l0, l1, l2, l3, l4, l5, l6, l7, l8, l9, l10, l11, l12, l13, l14] (.int x :: st) M Q ↔ wp scr n mb_25 152 (mm_sto1 [l0, l1, l2, l3, l4, l5, l6, l7, l8, l9, l10, l11, l12, l13, l14] 13 (.int x)) st M Q := wp_step rfl rfl rfl rfl rfl
theorem u25_152 : wp scr n mb_25 152 [l0, l1, l2, l3, l4, l5, l6, l7, l8, l9, l10, l11, l12, some (.int x), l14] st M Q ↔ wp scr n mb_25 154 [l0, l1, l2, l3, l4, l5, l6, l7, l8, l9, l10, l11, l12, some (.int x), l14] (.int x :: st) M Q := wp_step rfl rfl rfl rfl rfl
theorem u25_154 : wp scr n mb_25 154 L (.int x :: st) M Q ↔ (if x = 0 then wp scr n mb_25 202 L st M Q else wp scr n mb_25 157 L st M Q) := (wp_step rfl rfl rfl rfl rfl).trans wp_ite
theorem u25_157 : wp scr n mb_25 157 [l0, some (.ref a), l2, l3, l4, l5, l6, l7, l8, l9, l10, l11, l12, l13, l14] st M Q ↔ wp scr n mb_25 158 [l0, some (.ref a), l2, l3, l4, l5, l6, l7, l8, l9, l10, l11, l12, l13, l14] (.ref a :: st) M Q := wp_step rfl rfl rfl rfl rfl
theorem u25_158 : wp scr n mb_25 158 [l0, l1, some (.int x), l3, l4, l5, l6, l7, l8, l9, l10, l11, l12, l13, l14] st M Q ↔ wp scr n mb_25 159 [l0, l1, some (.int x), l3, l4, l5, l6, l7, l8, l9, l10, l11, l12, l13, l14] (.int x :: st) M Q := wp_step rfl rfl rfl rfl rfl
theorem u25_159 : wp scr n mb_25 159 [l0, l1, l2, l3, l4, l5, l6, l7, l8, some (.int x), l10, l11, l12, l13, l14] st M Q ↔ wp scr n mb_25 161 [l0, l1, l2, l3, l4, l5, l6, l7, l8, some (.int x), l10, l11, l12, l13, l14] (.int x :: st) M Q := wp_step rfl rfl rfl rfl rfl
theorem u25_161 : wp scr n mb_25 161 [l0, l1, l2, l3, l4, l5, l6, l7, l8, l9, l10, some (.int x), l12, l13, l14] st M Q ↔ wp scr n mb_25 163 [l0, l1, l2, l3, l4, l5, l6, l7, l8, l9, l10, some (.int x), l12, l13, l14] (.int x :: st) M Q := wp_step rfl rfl rfl rfl rfl
theorem u25_163 : wp scr n mb_25 163 L (a4 :: a3 :: a2 :: .ref a :: st) M Q ↔ ((mw_r M a 1 ∧ mw_st st) ∧ Wp scr n 26 [.ref a, a2, a3, a4] M (fun r1 M1 => wp scr n mb_25 166 L (r1.toList ++ st) M1 Q)) := wp_vir rfl rfl rfl rfl rfl
theorem u25_166 : wp scr n mb_25 166 L st M Q ↔ wp scr n mb_25 167 L (.int 1 :: st) M Q := wp_step rfl rfl rfl rfl rfl
theorem u25_167 : wp scr n mb_25 167 L (.int y :: .int x :: st) M Q ↔ wp scr n mb_25 168 L (.int (x - y) :: st) M Q := wp_step rfl rfl rfl rfl rfl
theorem u25_168 : wp scr n mb_25 168 [l0, some (.ref a), l2, l3, l4, l5, l6, l7, l8, l9, l10, l11, l12, l13, l14] st M Q ↔ wp scr n mb_25 169 [l0, some (.ref a), l2, l3, l4, l5, l6, l7, l8, l9, l10, l11, l12, l13, l14] (.ref a :: st) M Q := wp_step rfl rfl rfl rfl rfl
theorem u25_169 : wp scr n mb_25 169 L (o :: st) M Q ↔ mw_o (mm_fld (mc_X scr) M o 1 2) (fun v => wp scr n mb_25 172 L (v :: st) M Q) := wp_getf rfl
theorem u25_172 : wp scr n mb_25 172 [l0, l1, l2, l3, l4, l5, l6, l7, some (.int x), l9, l10, l11, l12, l13, l14] st M Q ↔ wp scr n mb_25 174 [l0, l1, l2, l3, l4, l5, l6, l7, some (.int x), l9, l10, l11, l12, l13, l14] (.int x :: st) M Q := wp_step rfl rfl rfl rfl rfl
theorem u25_174 : wp scr n mb_25 174 L (.int y :: o :: st) M Q ↔ mw_o (mm_ld (mc_X scr) M o y) (fun x => wp scr n mb_25 175 L (.int x :: st) M Q) := wp_iald rfl
theorem u25_175 : wp scr n mb_25 175 L (.int y :: .int x :: st) M Q ↔ wp scr n mb_25 176 L (.int (x - y) :: st) M Q := wp_step rfl rfl rfl rfl rfl
theorem u25_176 : wp scr n mb_25 176 [l0, l1, l2, l3, l4, l5, l6, l7, l8, l9, l10, l11, l12, l13, l14] (.int x :: st) M Q ↔ wp scr n mb_25 178 (mm_sto1 [l0, l1, l2, l3, l4, l5, l6, l7, l8, l9, l10, l11, l12, l13, l14] 14 (.int x)) st M Q := wp_step rfl rfl rfl rfl rfl
theorem u25_178 : wp scr n mb_25 178 [some (.ref a), l1, l2, l3, l4, l5, l6, l7, l8, l9, l10, l11, l12, l13, l14] st M Q ↔ wp scr n mb_25 179 [some (.ref a), l1, l2, l3, l4, l5, l6, l7, l8, l9, l10, l11, l12, l13, l14] (.ref a :: st) M Q := wp_step rfl rfl rfl rfl rfl
theorem u25_179 : wp scr n mb_25 179 L (o :: st) M Q ↔ mw_o (mm_fld (mc_X scr) M o 1 2) (fun v => wp scr n mb_25 182 L (v :: st) M Q) := wp_getf rfl
theorem u25_182 : wp scr n mb_25 182 [l0, l1, l2, l3, l4, l5, l6, l7, some (.int x), l9, l10, l11, l12, l13, l14] st M Q ↔ wp scr n mb_25 184 [l0, l1, l2, l3, l4, l5, l6, l7, some (.int x), l9, l10, l11, l12, l13, l14] (.int x :: st) M Q := wp_step rfl rfl rfl rfl rfl
theorem u25_184 : wp scr n mb_25 184 [l0, l1, l2, l3, l4, l5, l6, l7, l8, l9, l10, l11, l12, l13, some (.int x)] st M Q ↔ wp scr n mb_25 186 [l0, l1, l2, l3, l4, l5, l6, l7, l8, l9, l10, l11, l12, l13, some (.int x)] (.int x :: st) M Q := wp_step rfl rfl rfl rfl rfl
theorem u25_186 : wp scr n mb_25 186 [l0, l1, l2, l3, l4, some (.int x), l6, l7, l8, l9, l10, l11, l12, l13, l14] st M Q ↔ wp scr n mb_25 188 [l0, l1, l2, l3, l4, some (.int x), l6, l7, l8, l9, l10, l11, l12, l13, l14] (.int x :: st) M Q := wp_step rfl rfl rfl rfl rfl
theorem u25_188 : wp scr n mb_25 188 L (.int x :: st) M Q ↔ (if x = 0 then wp scr n mb_25 196 L st M Q else wp scr n mb_25 191 L st M Q) := (wp_step rfl rfl rfl rfl rfl).trans wp_ite
theorem u25_191 : wp scr n mb_25 191 [l0, l1, l2, l3, l4, l5, l6, l7, l8, l9, l10, l11, some (.int x), l13, l14] st M Q ↔ wp scr n mb_25 193 [l0, l1, l2, l3, l4, l5, l6, l7, l8, l9, l10, l11, some (.int x), l13, l14] (.int x :: st) M Q := wp_step rfl rfl rfl rfl rfl
theorem u25_193 : wp scr n mb_25 193 L st M Q ↔ wp scr n mb_25 197 L st M Q := wp_step rfl rfl rfl rfl rfl
theorem u25_196 : wp scr n mb_25 196 L st M Q ↔ wp scr n mb_25 197 L (.int 0 :: st) M Q := wp_step rfl rfl rfl rfl rfl
theorem u25_197 : wp scr n mb_25 197 L (.int y :: .int x :: st) M Q ↔ wp scr n mb_25 198 L (.int (x + y) :: st) M Q := wp_step rfl rfl rfl rfl rfl
theorem u25_198 : wp scr n mb_25 198 L (.int x :: .int y :: o :: st) M Q ↔ mw_o (mm_sti M o y x) (fun M1 => wp scr n mb_25 199 L st M1 Q) := wp_iast rfl
theorem u25_199 : wp scr n mb_25 199 L st M Q ↔ wp scr n mb_25 228 L st M Q := wp_step rfl rfl rfl rfl rfl
theorem u25_202 : wp scr n mb_25 202 [some (.ref a), l1, l2, l3, l4, l5, l6, l7, l8, l9, l10, l11, l12, l13, l14] st M Q ↔ wp scr n mb_25 203 [some (.ref a), l1, l2, l3, l4, l5, l6, l7, l8, l9, l10, l11, l12, l13, l14] (.ref a :: st) M Q := wp_step rfl rfl rfl rfl rfl
theorem u25_203 : wp scr n mb_25 203 L (o :: st) M Q ↔ mw_o (mm_fld (mc_X scr) M o 1 2) (fun v => wp scr n mb_25 206 L (v :: st) M Q) := wp_getf rfl
theorem u25_206 : wp scr n mb_25 206 [l0, l1, l2, l3, l4, l5, l6, l7, some (.int x), l9, l10, l11, l12, l13, l14] st M Q ↔ wp scr n mb_25 208 [l0, l1, l2, l3, l4, l5, l6, l7, some (.int x), l9, l10, l11, l12, l13, l14] (.int x :: st) M Q := wp_step rfl rfl rfl rfl rfl
theorem u25_208 : wp scr n mb_25 208 [l0, some (.ref a), l2, l3, l4, l5, l6, l7, l8, l9, l10, l11, l12, l13, l14] st M Q ↔ wp scr n mb_25 209 [l0, some (.ref a), l2, l3, l4, l5, l6, l7, l8, l9, l10, l11, l12, l13, l14] (.ref a :: st) M Q := wp_step rfl rfl rfl rfl rfl
theorem u25_209 : wp scr n mb_25 209 L (o :: st) M Q ↔ mw_o (mm_fld (mc_X scr) M o 1 2) (fun v => wp scr n mb_25 212 L (v :: st) M Q) := wp_getf rfl
theorem u25_212 : wp scr n mb_25 212 [l0, l1, l2, l3, l4, l5, l6, l7, some (.int x), l9, l10, l11, l12, l13, l14] st M Q ↔ wp scr n mb_25 214 [l0, l1, l2, l3, l4, l5, l6, l7, some (.int x), l9, l10, l11, l12, l13, l14] (.int x :: st) M Q := wp_step rfl rfl rfl rfl rfl
theorem u25_214 : wp scr n mb_25 214 L (.int y :: o :: st) M Q ↔ mw_o (mm_ld (mc_X scr) M o y) (fun x => wp scr n mb_25 215 L (.int x :: st) M Q) := wp_iald rfl
theorem u25_215 : wp scr n mb_25 215 [l0, l1, l2, l3, l4, some (.int x), l6, l7, l8, l9, l10, l11, l12, l13, l14] st M Q ↔ wp scr n mb_25 217 [l0, l1, l2, l3, l4, some (.int x), l6, l7, l8, l9, l10, l11, l12, l13, l14] (.int x :: st) M Q := wp_step rfl rfl rfl rfl rfl
theorem u25_217 : wp scr n mb_25 217 L (.int x :: st) M Q ↔ (if x = 0 then wp scr n mb_25 224 L st M Q else wp scr n mb_25 220 L st M Q) := (wp_step rfl rfl rfl rfl rfl).trans wp_ite
theorem u25_220 : wp scr n mb_25 220 L st M Q ↔ wp scr n mb_25 221 L (.int 0 :: st) M Q := wp_step rfl rfl rfl rfl rfl
theorem u25_221 : wp scr n mb_25 221 L st M Q ↔ wp scr n mb_25 226 L st M Q := wp_step rfl rfl rfl rfl rfl
theorem u25_224 : wp scr n mb_25 224 [l0, l1, l2, l3, l4, l5, l6, l7, l8, l9, l10, l11, some (.int x), l13, l14] st M Q ↔ wp scr n mb_25 226 [l0, l1, l2, l3, l4, l5, l6, l7, l8, l9, l10, l11, some (.int x), l13, l14] (.int x :: st) M Q := wp_step rfl rfl rfl rfl rfl
theorem u25_226 : wp scr n mb_25 226 L (.int y :: .int x :: st) M Q ↔ wp scr n mb_25 227 L (.int (x + y) :: st) M Q := wp_step rfl rfl rfl rfl rfl
theorem u25_227 : wp scr n mb_25 227 L (.int x :: .int y :: o :: st) M Q ↔ mw_o (mm_sti M o y x) (fun M1 => wp scr n mb_25 228 L st M1 Q) := wp_iast rfl
theorem u25_228 : wp scr n mb_25 228 [some (.ref a), l1, l2, l3, l4, l5, l6, l7, l8, l9, l10, l11, l12, l13, l14] st M Q ↔ wp scr n mb_25 229 [some (.ref a), l1, l2, l3, l4, l5, l6, l7, l8, l9, l10, l11, l12, l13, l14] (.ref a :: st) M Q := wp_step rfl rfl rfl rfl rfl
theorem u25_229 : wp scr n mb_25 229 L (o :: st) M Q ↔ mw_o (mm_fld (mc_X scr) M o 1 3) (fun v => wp scr n mb_25 232 L (v :: st) M Q) := wp_getf rfl
theorem u25_232 : wp scr n mb_25 232 [l0, l1, l2, l3, l4, l5, l6, l7, some (.int x), l9, l10, l11, l12, l13, l14] st M Q ↔ wp scr n mb_25 234 [l0, l1, l2, l3, l4, l5, l6, l7, some (.int x), l9, l10, l11, l12, l13, l14] (.int x :: st) M Q := wp_step rfl rfl rfl rfl rfl
theorem u25_234 : wp scr n mb_25 234 [l0, l1, l2, l3, l4, l5, l6, l7, l8, l9, l10, l11, l12, some (.int x), l14] st M Q ↔ wp scr n mb_25 236 [l0, l1, l2, l3, l4, l5, l6, l7, l8, l9, l10, l11, l12, some (.int x), l14] (.int x :: st) M Q := wp_step rfl rfl rfl rfl rfl
theorem u25_236 : wp scr n mb_25 236 L (.int x :: st) M Q ↔ (if x = 0 then wp scr n mb_25 251 L st M Q else wp scr n mb_25 239 L st M Q) := (wp_step rfl rfl rfl rfl rfl).trans wp_ite
theorem u25_239 : wp scr n mb_25 239 L st M Q ↔ wp scr n mb_25 240 L (.int 1 :: st) M Q := wp_step rfl rfl rfl rfl rfl
theorem u25_240 : wp scr n mb_25 240 [l0, some (.ref a), l2, l3, l4, l5, l6, l7, l8, l9, l10, l11, l12, l13, l14] st M Q ↔ wp scr n mb_25 241 [l0, some (.ref a), l2, l3, l4, l5, l6, l7, l8, l9, l10, l11, l12, l13, l14] (.ref a :: st) M Q := wp_step rfl rfl rfl rfl rfl
theorem u25_241 : wp scr n mb_25 241 L (o :: st) M Q ↔ mw_o (mm_fld (mc_X scr) M o 1 3) (fun v => wp scr n mb_25 244 L (v :: st) M Q) := wp_getf rfl
theorem u25_244 : wp scr n mb_25 244 [l0, l1, l2, l3, l4, l5, l6, l7, some (.int x), l9, l10, l11, l12, l13, l14] st M Q ↔ wp scr n mb_25 246 [l0, l1, l2, l3, l4, l5, l6, l7, some (.int x), l9, l10, l11, l12, l13, l14] (.int x :: st) M Q := wp_step rfl rfl rfl rfl rfl
theorem u25_246 : wp scr n mb_25 246 L (.int y :: o :: st) M Q ↔ mw_o (mm_ld (mc_X scr) M o y) (fun x => wp scr n mb_25 247 L (.int x :: st) M Q) := wp_iald rfl
theorem u25_247 : wp scr n mb_25 247 L (.int y :: .int x :: st) M Q ↔ wp scr n mb_25 248 L (.int (x - y) :: st) M Q := wp_step rfl rfl rfl rfl rfl
theorem u25_248 : wp scr n mb_25 248 L st M Q ↔ wp scr n mb_25 258 L st M Q := wp_step rfl rfl rfl rfl rfl
theorem u25_251 : wp scr n mb_25 251 [l0, some (.ref a), l2, l3, l4, l5, l6, l7, l8, l9, l10, l11, l12, l13, l14] st M Q ↔ wp scr n mb_25 252 [l0, some (.ref a), l2, l3, l4, l5, l6, l7, l8, l9, l10, l11, l12, l13, l14] (.ref a :: st) M Q := wp_step rfl rfl rfl rfl rfl
theorem u25_252 : wp scr n mb_25 252 L (o :: st) M Q ↔ mw_o (mm_fld (mc_X scr) M o 1 3) (fun v => wp scr n mb_25 255 L (v :: st) M Q) := wp_getf rfl
theorem u25_255 : wp scr n mb_25 255 [l0, l1, l2, l3, l4, l5, l6, l7, some (.int x), l9, l10, l11, l12, l13, l14] st M Q ↔ wp scr n mb_25 257 [l0, l1, l2, l3, l4, l5, l6, l7, some (.int x), l9, l10, l11, l12, l13, l14] (.int x :: st) M Q := wp_step rfl rfl rfl rfl rfl
theorem u25_257 : wp scr n mb_25 257 L (.int y :: o :: st) M Q ↔ mw_o (mm_ld (mc_X scr) M o y) (fun x => wp scr n mb_25 258 L (.int x :: st) M Q) := wp_iald rfl
theorem u25_258 : wp scr n mb_25 258 L (.int x :: .int y :: o :: st) M Q ↔ mw_o (mm_sti M o y x) (fun M1 => wp scr n mb_25 259 L st M1 Q) := wp_iast rfl
theorem u25_259 : wp scr n mb_25 259 [l0, l1, l2, l3, l4, l5, l6, l7, l8, l9, l10, l11, l12, some (.int x), l14] st M Q ↔ wp scr n mb_25 261 [l0, l1, l2, l3, l4, l5, l6, l7, l8, l9, l10, l11, l12, some (.int x), l14] (.int x :: st) M Q := wp_step rfl rfl rfl rfl rfl
theorem u25_261 : wp scr n mb_25 261 L (.int x :: st) M Q ↔ (if x = 0 then wp scr n mb_25 269 L st M Q else wp scr n mb_25 264 L st M Q) := (wp_step rfl rfl rfl rfl rfl).trans wp_ite
theorem u25_264 : wp scr n mb_25 264 [l0, l1, l2, l3, l4, l5, l6, l7, l8, l9, some (.int x), l11, l12, l13, l14] st M Q ↔ wp scr n mb_25 266 [l0, l1, l2, l3, l4, l5, l6, l7, l8, l9, some (.int x), l11, l12, l13, l14] (.int x :: st) M Q := wp_step rfl rfl rfl rfl rfl
theorem u25_266 : wp scr n mb_25 266 L st M Q ↔ wp scr n mb_25 271 L st M Q := wp_step rfl rfl rfl rfl rfl
theorem u25_269 : wp scr n mb_25 269 [l0, l1, l2, l3, l4, l5, l6, l7, l8, some (.int x), l10, l11, l12, l13, l14] st M Q ↔ wp scr n mb_25 271 [l0, l1, l2, l3, l4, l5, l6, l7, l8, some (.int x), l10, l11, l12, l13, l14] (.int x :: st) M Q := wp_step rfl rfl rfl rfl rfl
theorem u25_271 : wp scr n mb_25 271 [l0, l1, l2, l3, l4, l5, l6, some (.int x), l8, l9, l10, l11, l12, l13, l14] st M Q ↔ wp scr n mb_25 273 [l0, l1, l2, l3, l4, l5, l6, some (.int x), l8, l9, l10, l11, l12, l13, l14] (.int x :: st) M Q := wp_step rfl rfl rfl rfl rfl
theorem u25_273 : wp scr n mb_25 273 L (.int y :: .int x :: st) M Q ↔ wp scr n mb_25 274 L (.int (x - y) :: st) M Q := wp_step rfl rfl rfl rfl rfl
theorem u25_274 : wp scr n mb_25 274 [l0, l1, l2, l3, l4, l5, l6, l7, l8, l9, l10, l11, l12, l13, l14] (.int x :: st) M Q ↔ wp scr n mb_25 276 (mm_sto1 [l0, l1, l2, l3, l4, l5, l6, l7, l8, l9, l10, l11, l12, l13, l14] 14 (.int x)) st M Q := wp_step rfl rfl rfl rfl rfl
theorem u25_276 : wp scr n mb_25 276 [some (.ref a), l1, l2, l3, l4, l5, l6, l7, l8, l9, l10, l11, l12, l13, l14] st M Q ↔ wp scr n mb_25 277 [some (.ref a), l1, l2, l3, l4, l5, l6, l7, l8, l9, l10, l11, l12, l13, l14] (.ref a :: st) M Q := wp_step rfl rfl rfl rfl rfl
theorem u25_277 : wp scr n mb_25 277 L (o :: st) M Q ↔ mw_o (mm_fld (mc_X scr) M o 1 0) (fun v => wp scr n mb_25 280 L (v :: st) M Q) := wp_getf rfl
theorem u25_280 : wp scr n mb_25 280 [l0, l1, l2, l3, l4, l5, l6, l7, some (.int x), l9, l10, l11, l12, l13, l14] st M Q ↔ wp scr n mb_25 282 [l0, l1, l2, l3, l4, l5, l6, l7, some (.int x), l9, l10, l11, l12, l13, l14] (.int x :: st) M Q := wp_step rfl rfl rfl rfl rfl
theorem u25_282 : wp scr n mb_25 282 [l0, l1, some (.int x), l3, l4, l5, l6, l7, l8, l9, l10, l11, l12, l13, l14] st M Q ↔ wp scr n mb_25 283 [l0, l1, some (.int x), l3, l4, l5, l6, l7, l8, l9, l10, l11, l12, l13, l14] (.int x :: st) M Q := wp_step rfl rfl rfl rfl rfl
theorem u25_283 : wp scr n mb_25 283 L (.int x :: st) M Q ↔ (if x = 0 then wp scr n mb_25 291 L st M Q else wp scr n mb_25 286 L st M Q) := (wp_step rfl rfl rfl rfl rfl).trans wp_ite
theorem u25_286 : wp scr n mb_25 286 [l0, l1, l2, l3, l4, l5, l6, l7, l8, l9, l10, some (.int x), l12, l13, l14] st M Q ↔ wp scr n mb_25 288 [l0, l1, l2, l3, l4, l5, l6, l7, l8, l9, l10, some (.int x), l12, l13, l14] (.int x :: st) M Q := wp_step rfl rfl rfl rfl rfl
theorem u25_288 : wp scr n mb_25 288 L st M Q ↔ wp scr n mb_25 293 L st M Q := wp_step rfl rfl rfl rfl rfl
theorem u25_291 : wp scr n mb_25 291 [l0, l1, l2, l3, l4, l5, l6, l7, l8, l9, l10, l11, l12, l13, some (.int x)] st M Q ↔ wp scr n mb_25 293 [l0, l1, l2, l3, l4, l5, l6, l7, l8, l9, l10, l11, l12, l13, some (.int x)] (.int x :: st) M Q := wp_step rfl rfl rfl rfl rfl
theorem u25_293 : wp scr n mb_25 293 L (.int x :: .int y :: o :: st) M Q ↔ mw_o (mm_sti M o y x) (fun M1 => wp scr n mb_25 294 L st M1 Q) := wp_iast rfl
theorem u25_294 : wp scr n mb_25 294 [some (.ref a), l1, l2, l3, l4, l5, l6, l7, l8, l9, l10, l11, l12, l13, l14] st M Q ↔ wp scr n mb_25 295 [some (.ref a), l1, l2, l3, l4, l5, l6, l7, l8, l9, l10, l11, l12, l13, l14] (.ref a :: st) M Q := wp_step rfl rfl rfl rfl rfl
theorem u25_295 : wp scr n mb_25 295 L (o :: st) M Q ↔ mw_o (mm_fld (mc_X scr) M o 1 1) (fun v => wp scr n mb_25 298 L (v :: st) M Q) := wp_getf rfl
theorem u25_298 : wp scr n mb_25 298 [l0, l1, l2, l3, l4, l5, l6, l7, some (.int x), l9, l10, l11, l12, l13, l14] st M Q ↔ wp scr n mb_25 300 [l0, l1, l2, l3, l4, l5, l6, l7, some (.int x), l9, l10, l11, l12, l13, l14] (.int x :: st) M Q := wp_step rfl rfl rfl rfl rfl
theorem u25_300 : wp scr n mb_25 300 [l0, l1, some (.int x), l3, l4, l5, l6, l7, l8, l9, l10, l11, l12, l13, l14] st M Q ↔ wp scr n mb_25 301 [l0, l1, some (.int x), l3, l4, l5, l6, l7, l8, l9, l10, l11, l12, l13, l14] (.int x :: st) M Q := wp_step rfl rfl rfl rfl rfl
theorem u25_301 : wp scr n mb_25 301 L (.int x :: st) M Q ↔ (if x = 0 then wp scr n mb_25 309 L st M Q else wp scr n mb_25 304 L st M Q) := (wp_step rfl rfl rfl rfl rfl).trans wp_ite
theorem u25_304 : wp scr n mb_25 304 [l0, l1, l2, l3, l4, l5, l6, l7, l8, l9, l10, l11, l12, l13, some (.int x)] st M Q ↔ wp scr n mb_25 306 [l0, l1, l2, l3, l4, l5, l6, l7, l8, l9, l10, l11, l12, l13, some (.int x)] (.int x :: st) M Q := wp_step rfl rfl rfl rfl rfl
theorem u25_306 : wp scr n mb_25 306 L st M Q ↔ wp scr n mb_25 311 L st M Q := wp_step rfl rfl rfl rfl rfl
theorem u25_309 : wp scr n mb_25 309 [l0, l1, l2, l3, l4, l5, l6, l7, l8, l9, l10, some (.int x), l12, l13, l14] st M Q ↔ wp scr n mb_25 311 [l0, l1, l2, l3, l4, l5, l6, l7, l8, l9, l10, some (.int x), l12, l13, l14] (.int x :: st) M Q := wp_step rfl rfl rfl rfl rfl
theorem u25_311 : wp scr n mb_25 311 L (.int x :: .int y :: o :: st) M Q ↔ mw_o (mm_sti M o y x) (fun M1 => wp scr n mb_25 312 L st M1 Q) := wp_iast rfl
theorem u25_312 : wp scr n mb_25 312 [l0, l1, l2, l3, l4, l5, l6, l7, some (.int x), l9, l10, l11, l12, l13, l14] st M Q ↔ wp scr n mb_25 315 (mm_sto1 [l0, l1, l2, l3, l4, l5, l6, l7, some (.int x), l9, l10, l11, l12, l13, l14] 8 (.int (x + 1))) st M Q := wp_step rfl rfl rfl rfl rfl
theorem u25_315 : wp scr n mb_25 315 L st M Q ↔ wp scr n mb_25 41 L st M Q := wp_step rfl rfl rfl rfl rfl
theorem u25_318 : wp scr n mb_25 318 L [] M Q ↔ Q none M := wp_ret rfl rfl
/-- SmallerInTheShop$Layout heapAt (ZII)I -/
def mb_26 : mw_B := ((Option.some FieldType.int), mp_26)
theorem u26_0 : wp scr n mb_26 0 [some (.ref a), l1, l2, l3] st M Q ↔ wp scr n mb_26 1 [some (.ref a), l1, l2, l3] (.ref a :: st) M Q := wp_step rfl rfl rfl rfl rfl
theorem u26_1 : wp scr n mb_26 1 L (o :: st) M Q ↔ mw_o (mm_fld (mc_X scr) M o 1 5) (fun v => wp scr n mb_26 4 L (v :: st) M Q) := wp_getf rfl
theorem u26_4 : wp scr n mb_26 4 [l0, some (.int x), l2, l3] st M Q ↔ wp scr n mb_26 5 [l0, some (.int x), l2, l3] (.int x :: st) M Q := wp_step rfl rfl rfl rfl rfl
theorem u26_5 : wp scr n mb_26 5 L (.int x :: st) M Q ↔ (if x = 0 then wp scr n mb_26 16 L st M Q else wp scr n mb_26 8 L st M Q) := (wp_step rfl rfl rfl rfl rfl).trans wp_ite
theorem u26_8 : wp scr n mb_26 8 L st M Q ↔ wp scr n mb_26 9 L (.int 4 :: st) M Q := wp_step rfl rfl rfl rfl rfl
theorem u26_9 : wp scr n mb_26 9 [l0, l1, some (.int x), l3] st M Q ↔ wp scr n mb_26 10 [l0, l1, some (.int x), l3] (.int x :: st) M Q := wp_step rfl rfl rfl rfl rfl
theorem u26_10 : wp scr n mb_26 10 L (.int y :: .int x :: st) M Q ↔ wp scr n mb_26 11 L (.int (x * y) :: st) M Q := wp_step rfl rfl rfl rfl rfl
theorem u26_11 : wp scr n mb_26 11 [l0, l1, l2, some (.int x)] st M Q ↔ wp scr n mb_26 12 [l0, l1, l2, some (.int x)] (.int x :: st) M Q := wp_step rfl rfl rfl rfl rfl
theorem u26_12 : wp scr n mb_26 12 L (.int y :: .int x :: st) M Q ↔ wp scr n mb_26 13 L (.int (x + y) :: st) M Q := wp_step rfl rfl rfl rfl rfl
theorem u26_13 : wp scr n mb_26 13 L st M Q ↔ wp scr n mb_26 21 L st M Q := wp_step rfl rfl rfl rfl rfl
theorem u26_16 : wp scr n mb_26 16 L st M Q ↔ wp scr n mb_26 17 L (.int 4 :: st) M Q := wp_step rfl rfl rfl rfl rfl
theorem u26_17 : wp scr n mb_26 17 [l0, l1, l2, some (.int x)] st M Q ↔ wp scr n mb_26 18 [l0, l1, l2, some (.int x)] (.int x :: st) M Q := wp_step rfl rfl rfl rfl rfl
theorem u26_18 : wp scr n mb_26 18 L (.int y :: .int x :: st) M Q ↔ wp scr n mb_26 19 L (.int (x * y) :: st) M Q := wp_step rfl rfl rfl rfl rfl
theorem u26_19 : wp scr n mb_26 19 [l0, l1, some (.int x), l3] st M Q ↔ wp scr n mb_26 20 [l0, l1, some (.int x), l3] (.int x :: st) M Q := wp_step rfl rfl rfl rfl rfl
theorem u26_20 : wp scr n mb_26 20 L (.int y :: .int x :: st) M Q ↔ wp scr n mb_26 21 L (.int (x + y) :: st) M Q := wp_step rfl rfl rfl rfl rfl
theorem u26_21 : wp scr n mb_26 21 L (.int y :: o :: st) M Q ↔ mw_o (mm_ld (mc_X scr) M o y) (fun x => wp scr n mb_26 22 L (.int x :: st) M Q) := wp_iald rfl
theorem u26_22 : wp scr n mb_26 22 L [.int x] M Q ↔ Q (some (.int x)) M := wp_ret rfl rfl
/-- SmallerInTheShop$Layout countHeaps ()V -/
def mb_27 : mw_B := ((Option.none : Option FieldType), mp_27)
theorem u27_0 : wp scr n mb_27 0 L st M Q ↔ wp scr n mb_27 1 L (.int 0 :: st) M Q := wp_step rfl rfl rfl rfl rfl
theorem u27_1 : wp scr n mb_27 1 [l0, l1] (.int x :: st) M Q ↔ wp scr n mb_27 2 (mm_sto1 [l0, l1] 1 (.int x)) st M Q := wp_step rfl rfl rfl rfl rfl
theorem u27_2 : wp scr n mb_27 2 [l0, some (.int x)] st M Q ↔ wp scr n mb_27 3 [l0, some (.int x)] (.int x :: st) M Q := wp_step rfl rfl rfl rfl rfl
theorem u27_3 : wp scr n mb_27 3 L st M Q ↔ wp scr n mb_27 5 L (.int 8 :: st) M Q := wp_step rfl rfl rfl rfl rfl
theorem u27_5 : wp scr n mb_27 5 L (.int y :: .int x :: st) M Q ↔ (if y ≤ x then wp scr n mb_27 21 L st M Q else wp scr n mb_27 8 L st M Q) := (wp_step rfl rfl rfl rfl rfl).trans wp_ite
theorem u27_8 : wp scr n mb_27 8 [some (.ref a), l1] st M Q ↔ wp scr n mb_27 9 [some (.ref a), l1] (.ref a :: st) M Q := wp_step rfl rfl rfl rfl rfl
theorem u27_9 : wp scr n mb_27 9 L (o :: st) M Q ↔ mw_o (mm_fld (mc_X scr) M o 1 5) (fun v => wp scr n mb_27 12 L (v :: st) M Q) := wp_getf rfl
theorem u27_12 : wp scr n mb_27 12 [l0, some (.int x)] st M Q ↔ wp scr n mb_27 13 [l0, some (.int x)] (.int x :: st) M Q := wp_step rfl rfl rfl rfl rfl
theorem u27_13 : wp scr n mb_27 13 L st M Q ↔ wp scr n mb_27 14 L (.int 0 :: st) M Q := wp_step rfl rfl rfl rfl rfl
theorem u27_14 : wp scr n mb_27 14 L (.int x :: .int y :: o :: st) M Q ↔ mw_o (mm_sti M o y x) (fun M1 => wp scr n mb_27 15 L st M1 Q) := wp_iast rfl
theorem u27_15 : wp scr n mb_27 15 [l0, some (.int x)] st M Q ↔ wp scr n mb_27 18 (mm_sto1 [l0, some (.int x)] 1 (.int (x + 1))) st M Q := wp_step rfl rfl rfl rfl rfl
theorem u27_18 : wp scr n mb_27 18 L st M Q ↔ wp scr n mb_27 2 L st M Q := wp_step rfl rfl rfl rfl rfl
theorem u27_21 : wp scr n mb_27 21 L st M Q ↔ wp scr n mb_27 22 L (.int 0 :: st) M Q := wp_step rfl rfl rfl rfl rfl
theorem u27_22 : wp scr n mb_27 22 [l0, l1] (.int x :: st) M Q ↔ wp scr n mb_27 23 (mm_sto1 [l0, l1] 1 (.int x)) st M Q := wp_step rfl rfl rfl rfl rfl
theorem u27_23 : wp scr n mb_27 23 [l0, some (.int x)] st M Q ↔ wp scr n mb_27 24 [l0, some (.int x)] (.int x :: st) M Q := wp_step rfl rfl rfl rfl rfl
theorem u27_24 : wp scr n mb_27 24 L st M Q ↔ wp scr n mb_27 26 L (.int 8 :: st) M Q := wp_step rfl rfl rfl rfl rfl
theorem u27_26 : wp scr n mb_27 26 L (.int y :: .int x :: st) M Q ↔ (if y ≤ x then wp scr n mb_27 49 L st M Q else wp scr n mb_27 29 L st M Q) := (wp_step rfl rfl rfl rfl rfl).trans wp_ite
theorem u27_29 : wp scr n mb_27 29 [some (.ref a), l1] st M Q ↔ wp scr n mb_27 30 [some (.ref a), l1] (.ref a :: st) M Q := wp_step rfl rfl rfl rfl rfl
theorem u27_30 : wp scr n mb_27 30 L (o :: st) M Q ↔ mw_o (mm_fld (mc_X scr) M o 1 5) (fun v => wp scr n mb_27 33 L (v :: st) M Q) := wp_getf rfl
theorem u27_33 : wp scr n mb_27 33 [some (.ref a), l1] st M Q ↔ wp scr n mb_27 34 [some (.ref a), l1] (.ref a :: st) M Q := wp_step rfl rfl rfl rfl rfl
theorem u27_34 : wp scr n mb_27 34 [l0, some (.int x)] st M Q ↔ wp scr n mb_27 35 [l0, some (.int x)] (.int x :: st) M Q := wp_step rfl rfl rfl rfl rfl
theorem u27_35 : wp scr n mb_27 35 L (a2 :: .ref a :: st) M Q ↔ ((mw_r M a 1 ∧ mw_st st) ∧ Wp scr n 28 [.ref a, a2] M (fun r1 M1 => wp scr n mb_27 38 L (r1.toList ++ st) M1 Q)) := wp_vir rfl rfl rfl rfl rfl
theorem u27_38 : wp scr n mb_27 38 L (.int y :: .ref a :: st) M Q ↔ wp scr n mb_27 39 L (.int y :: .ref a :: .int y :: .ref a :: st) M Q := wp_step rfl rfl rfl rfl rfl
theorem u27_39 : wp scr n mb_27 39 L (.int y :: o :: st) M Q ↔ mw_o (mm_ld (mc_X scr) M o y) (fun x => wp scr n mb_27 40 L (.int x :: st) M Q) := wp_iald rfl
theorem u27_40 : wp scr n mb_27 40 L st M Q ↔ wp scr n mb_27 41 L (.int 1 :: st) M Q := wp_step rfl rfl rfl rfl rfl
theorem u27_41 : wp scr n mb_27 41 L (.int y :: .int x :: st) M Q ↔ wp scr n mb_27 42 L (.int (x + y) :: st) M Q := wp_step rfl rfl rfl rfl rfl
theorem u27_42 : wp scr n mb_27 42 L (.int x :: .int y :: o :: st) M Q ↔ mw_o (mm_sti M o y x) (fun M1 => wp scr n mb_27 43 L st M1 Q) := wp_iast rfl
theorem u27_43 : wp scr n mb_27 43 [l0, some (.int x)] st M Q ↔ wp scr n mb_27 46 (mm_sto1 [l0, some (.int x)] 1 (.int (x + 1))) st M Q := wp_step rfl rfl rfl rfl rfl
theorem u27_46 : wp scr n mb_27 46 L st M Q ↔ wp scr n mb_27 23 L st M Q := wp_step rfl rfl rfl rfl rfl
theorem u27_49 : wp scr n mb_27 49 L [] M Q ↔ Q none M := wp_ret rfl rfl
/-- SmallerInTheShop$Layout cellOf (I)I -/
def mb_28 : mw_B := ((Option.some FieldType.int), mp_28)
theorem u28_0 : wp scr n mb_28 0 L st M Q ↔ wp scr n mb_28 1 L (.int 4 :: st) M Q := wp_step rfl rfl rfl rfl rfl
theorem u28_1 : wp scr n mb_28 1 [some (.ref a), l1] st M Q ↔ wp scr n mb_28 2 [some (.ref a), l1] (.ref a :: st) M Q := wp_step rfl rfl rfl rfl rfl
theorem u28_2 : wp scr n mb_28 2 L (o :: st) M Q ↔ mw_o (mm_fld (mc_X scr) M o 1 1) (fun v => wp scr n mb_28 5 L (v :: st) M Q) := wp_getf rfl
theorem u28_5 : wp scr n mb_28 5 [l0, some (.int x)] st M Q ↔ wp scr n mb_28 6 [l0, some (.int x)] (.int x :: st) M Q := wp_step rfl rfl rfl rfl rfl
theorem u28_6 : wp scr n mb_28 6 L (.int y :: o :: st) M Q ↔ mw_o (mm_ld (mc_X scr) M o y) (fun x => wp scr n mb_28 7 L (.int x :: st) M Q) := wp_iald rfl
theorem u28_7 : wp scr n mb_28 7 L (.int y :: .int x :: st) M Q ↔ wp scr n mb_28 8 L (.int (x * y) :: st) M Q := wp_step rfl rfl rfl rfl rfl
theorem u28_8 : wp scr n mb_28 8 [some (.ref a), l1] st M Q ↔ wp scr n mb_28 9 [some (.ref a), l1] (.ref a :: st) M Q := wp_step rfl rfl rfl rfl rfl
theorem u28_9 : wp scr n mb_28 9 L (o :: st) M Q ↔ mw_o (mm_fld (mc_X scr) M o 1 0) (fun v => wp scr n mb_28 12 L (v :: st) M Q) := wp_getf rfl
theorem u28_12 : wp scr n mb_28 12 [l0, some (.int x)] st M Q ↔ wp scr n mb_28 13 [l0, some (.int x)] (.int x :: st) M Q := wp_step rfl rfl rfl rfl rfl
theorem u28_13 : wp scr n mb_28 13 L (.int y :: o :: st) M Q ↔ mw_o (mm_ld (mc_X scr) M o y) (fun x => wp scr n mb_28 14 L (.int x :: st) M Q) := wp_iald rfl
theorem u28_14 : wp scr n mb_28 14 L (.int y :: .int x :: st) M Q ↔ wp scr n mb_28 15 L (.int (x + y) :: st) M Q := wp_step rfl rfl rfl rfl rfl
theorem u28_15 : wp scr n mb_28 15 L [.int x] M Q ↔ Q (some (.int x)) M := wp_ret rfl rfl
/-- SmallerInTheShop$Layout foldCreases (LSmallerInTheShop$Layout;ZIZ)V -/
def mb_29 : mw_B := ((Option.none : Option FieldType), mp_29)
theorem u29_0 : wp scr n mb_29 0 [some (.ref a), l1, l2, l3, l4, l5, l6] st M Q ↔ wp scr n mb_29 1 [some (.ref a), l1, l2, l3, l4, l5, l6] (.ref a :: st) M Q := wp_step rfl rfl rfl rfl rfl
theorem u29_1 : wp scr n mb_29 1 L st M Q ↔ wp scr n mb_29 2 L (.int 0 :: st) M Q := wp_step rfl rfl rfl rfl rfl
theorem u29_2 : wp scr n mb_29 2 L (v :: o :: st) M Q ↔ mw_o (mm_put mc_fty M o v 1 8) (fun M1 => wp scr n mb_29 5 L st M1 Q) := wp_putf rfl
theorem u29_5 : wp scr n mb_29 5 L st M Q ↔ wp scr n mb_29 6 L (.int 0 :: st) M Q := wp_step rfl rfl rfl rfl rfl
theorem u29_6 : wp scr n mb_29 6 [l0, l1, l2, l3, l4, l5, l6] (.int x :: st) M Q ↔ wp scr n mb_29 8 (mm_sto1 [l0, l1, l2, l3, l4, l5, l6] 5 (.int x)) st M Q := wp_step rfl rfl rfl rfl rfl
theorem u29_8 : wp scr n mb_29 8 [l0, l1, l2, l3, l4, some (.int x), l6] st M Q ↔ wp scr n mb_29 10 [l0, l1, l2, l3, l4, some (.int x), l6] (.int x :: st) M Q := wp_step rfl rfl rfl rfl rfl
theorem u29_10 : wp scr n mb_29 10 L st M Q ↔ wp scr n mb_29 12 L (.int 10 :: st) M Q := wp_step rfl rfl rfl rfl rfl
theorem u29_12 : wp scr n mb_29 12 L (.int y :: .int x :: st) M Q ↔ (if y ≤ x then wp scr n mb_29 109 L st M Q else wp scr n mb_29 15 L st M Q) := (wp_step rfl rfl rfl rfl rfl).trans wp_ite
theorem u29_15 : wp scr n mb_29 15 [some (.ref a), l1, l2, l3, l4, l5, l6] st M Q ↔ wp scr n mb_29 16 [some (.ref a), l1, l2, l3, l4, l5, l6] (.ref a :: st) M Q := wp_step rfl rfl rfl rfl rfl
theorem u29_16 : wp scr n mb_29 16 L (o :: st) M Q ↔ mw_o (mm_fld (mc_X scr) M o 1 4) (fun v => wp scr n mb_29 19 L (v :: st) M Q) := wp_getf rfl
theorem u29_19 : wp scr n mb_29 19 [l0, l1, l2, l3, l4, some (.int x), l6] st M Q ↔ wp scr n mb_29 21 [l0, l1, l2, l3, l4, some (.int x), l6] (.int x :: st) M Q := wp_step rfl rfl rfl rfl rfl
theorem u29_21 : wp scr n mb_29 21 [l0, some (.ref a), l2, l3, l4, l5, l6] st M Q ↔ wp scr n mb_29 22 [l0, some (.ref a), l2, l3, l4, l5, l6] (.ref a :: st) M Q := wp_step rfl rfl rfl rfl rfl
theorem u29_22 : wp scr n mb_29 22 L (o :: st) M Q ↔ mw_o (mm_fld (mc_X scr) M o 1 4) (fun v => wp scr n mb_29 25 L (v :: st) M Q) := wp_getf rfl
theorem u29_25 : wp scr n mb_29 25 [l0, l1, l2, l3, l4, some (.int x), l6] st M Q ↔ wp scr n mb_29 27 [l0, l1, l2, l3, l4, some (.int x), l6] (.int x :: st) M Q := wp_step rfl rfl rfl rfl rfl
theorem u29_27 : wp scr n mb_29 27 L (.int y :: o :: st) M Q ↔ mw_o (mm_ld (mc_X scr) M o y) (fun x => wp scr n mb_29 28 L (.int x :: st) M Q) := wp_iald rfl
theorem u29_28 : wp scr n mb_29 28 L (.int x :: .int y :: o :: st) M Q ↔ mw_o (mm_sti M o y x) (fun M1 => wp scr n mb_29 29 L st M1 Q) := wp_iast rfl
theorem u29_29 : wp scr n mb_29 29 [some (.ref a), l1, l2, l3, l4, l5, l6] st M Q ↔ wp scr n mb_29 30 [some (.ref a), l1, l2, l3, l4, l5, l6] (.ref a :: st) M Q := wp_step rfl rfl rfl rfl rfl
theorem u29_30 : wp scr n mb_29 30 L (o :: st) M Q ↔ mw_o (mm_fld (mc_X scr) M o 1 4) (fun v => wp scr n mb_29 33 L (v :: st) M Q) := wp_getf rfl
theorem u29_33 : wp scr n mb_29 33 [l0, l1, l2, l3, l4, some (.int x), l6] st M Q ↔ wp scr n mb_29 35 [l0, l1, l2, l3, l4, some (.int x), l6] (.int x :: st) M Q := wp_step rfl rfl rfl rfl rfl
theorem u29_35 : wp scr n mb_29 35 L (.int y :: o :: st) M Q ↔ mw_o (mm_ld (mc_X scr) M o y) (fun x => wp scr n mb_29 36 L (.int x :: st) M Q) := wp_iald rfl
theorem u29_36 : wp scr n mb_29 36 L (.int x :: st) M Q ↔ (if x = 0 then wp scr n mb_29 39 L st M Q else wp scr n mb_29 103 L st M Q) := (wp_step rfl rfl rfl rfl rfl).trans wp_iten
theorem u29_39 : wp scr n mb_29 39 [l0, some (.ref a), l2, l3, l4, l5, l6] st M Q ↔ wp scr n mb_29 40 [l0, some (.ref a), l2, l3, l4, l5, l6] (.ref a :: st) M Q := wp_step rfl rfl rfl rfl rfl
theorem u29_40 : wp scr n mb_29 40 [l0, l1, l2, l3, l4, some (.int x), l6] st M Q ↔ wp scr n mb_29 42 [l0, l1, l2, l3, l4, some (.int x), l6] (.int x :: st) M Q := wp_step rfl rfl rfl rfl rfl
theorem u29_42 : wp scr n mb_29 42 [l0, l1, some (.int x), l3, l4, l5, l6] st M Q ↔ wp scr n mb_29 43 [l0, l1, some (.int x), l3, l4, l5, l6] (.int x :: st) M Q := wp_step rfl rfl rfl rfl rfl
theorem u29_43 : wp scr n mb_29 43 [l0, l1, l2, some (.int x), l4, l5, l6] st M Q ↔ wp scr n mb_29 44 [l0, l1, l2, some (.int x), l4, l5, l6] (.int x :: st) M Q := wp_step rfl rfl rfl rfl rfl
theorem u29_44 : wp scr n mb_29 44 L (a4 :: a3 :: a2 :: .ref a :: st) M Q ↔ ((mw_r M a 1 ∧ mw_st st) ∧ Wp scr n 30 [.ref a, a2, a3, a4] M (fun r1 M1 => wp scr n mb_29 47 L (r1.toList ++ st) M1 Q)) := wp_vir rfl rfl rfl rfl rfl
theorem u29_47 : wp scr n mb_29 47 L (.int x :: st) M Q ↔ (if x = 0 then wp scr n mb_29 103 L st M Q else wp scr n mb_29 50 L st M Q) := (wp_step rfl rfl rfl rfl rfl).trans wp_ite
theorem u29_50 : wp scr n mb_29 50 [l0, some (.ref a), l2, l3, l4, l5, l6] st M Q ↔ wp scr n mb_29 51 [l0, some (.ref a), l2, l3, l4, l5, l6] (.ref a :: st) M Q := wp_step rfl rfl rfl rfl rfl
theorem u29_51 : wp scr n mb_29 51 L (o :: st) M Q ↔ mw_o (mm_fld (mc_X scr) M o 1 3) (fun v => wp scr n mb_29 54 L (v :: st) M Q) := wp_getf rfl
theorem u29_54 : wp scr n mb_29 54 L st M Q ↔ wp scr n mb_29 57 L (.retAddr 1 :: st) M Q := wp_step rfl rfl rfl rfl rfl
theorem u29_57 : wp scr n mb_29 57 [l0, l1, l2, l3, l4, some (.int x), l6] st M Q ↔ wp scr n mb_29 59 [l0, l1, l2, l3, l4, some (.int x), l6] (.int x :: st) M Q := wp_step rfl rfl rfl rfl rfl
theorem u29_59 : wp scr n mb_29 59 L (.int y :: o :: st) M Q ↔ mw_o (mm_ld (mc_X scr) M o y) (fun x => wp scr n mb_29 60 L (.int x :: st) M Q) := wp_iald rfl
theorem u29_60 : wp scr n mb_29 60 L (.int y :: o :: st) M Q ↔ mw_o (mm_ld (mc_X scr) M o y) (fun x => wp scr n mb_29 61 L (.int x :: st) M Q) := wp_iald rfl
theorem u29_61 : wp scr n mb_29 61 L (.int x :: st) M Q ↔ (if x = 0 then wp scr n mb_29 64 L st M Q else wp scr n mb_29 68 L st M Q) := (wp_step rfl rfl rfl rfl rfl).trans wp_iten
theorem u29_64 : wp scr n mb_29 64 L st M Q ↔ wp scr n mb_29 65 L (.int 1 :: st) M Q := wp_step rfl rfl rfl rfl rfl
theorem u29_65 : wp scr n mb_29 65 L st M Q ↔ wp scr n mb_29 69 L st M Q := wp_step rfl rfl rfl rfl rfl
theorem u29_68 : wp scr n mb_29 68 L st M Q ↔ wp scr n mb_29 69 L (.int 0 :: st) M Q := wp_step rfl rfl rfl rfl rfl
theorem u29_69 : wp scr n mb_29 69 [l0, l1, l2, l3, l4, l5, l6] (.int x :: st) M Q ↔ wp scr n mb_29 71 (mm_sto1 [l0, l1, l2, l3, l4, l5, l6] 6 (.int x)) st M Q := wp_step rfl rfl rfl rfl rfl
theorem u29_71 : wp scr n mb_29 71 [some (.ref a), l1, l2, l3, l4, l5, l6] st M Q ↔ wp scr n mb_29 72 [some (.ref a), l1, l2, l3, l4, l5, l6] (.ref a :: st) M Q := wp_step rfl rfl rfl rfl rfl
theorem u29_72 : wp scr n mb_29 72 L (o :: st) M Q ↔ mw_o (mm_fld (mc_X scr) M o 1 4) (fun v => wp scr n mb_29 75 L (v :: st) M Q) := wp_getf rfl
theorem u29_75 : wp scr n mb_29 75 [l0, l1, l2, l3, l4, some (.int x), l6] st M Q ↔ wp scr n mb_29 77 [l0, l1, l2, l3, l4, some (.int x), l6] (.int x :: st) M Q := wp_step rfl rfl rfl rfl rfl
theorem u29_77 : wp scr n mb_29 77 [l0, l1, l2, l3, l4, l5, some (.int x)] st M Q ↔ wp scr n mb_29 79 [l0, l1, l2, l3, l4, l5, some (.int x)] (.int x :: st) M Q := wp_step rfl rfl rfl rfl rfl
theorem u29_79 : wp scr n mb_29 79 [l0, l1, l2, l3, some (.int x), l5, l6] st M Q ↔ wp scr n mb_29 81 [l0, l1, l2, l3, some (.int x), l5, l6] (.int x :: st) M Q := wp_step rfl rfl rfl rfl rfl
theorem u29_81 : wp scr n mb_29 81 L (.int y :: .int x :: st) M Q ↔ (if x = y then wp scr n mb_29 84 L st M Q else wp scr n mb_29 88 L st M Q) := (wp_step rfl rfl rfl rfl rfl).trans wp_iten
theorem u29_84 : wp scr n mb_29 84 L st M Q ↔ wp scr n mb_29 85 L (.int 2 :: st) M Q := wp_step rfl rfl rfl rfl rfl
theorem u29_85 : wp scr n mb_29 85 L st M Q ↔ wp scr n mb_29 89 L st M Q := wp_step rfl rfl rfl rfl rfl
theorem u29_88 : wp scr n mb_29 88 L st M Q ↔ wp scr n mb_29 89 L (.int 1 :: st) M Q := wp_step rfl rfl rfl rfl rfl
theorem u29_89 : wp scr n mb_29 89 L (.int x :: .int y :: o :: st) M Q ↔ mw_o (mm_sti M o y x) (fun M1 => wp scr n mb_29 90 L st M1 Q) := wp_iast rfl
theorem u29_90 : wp scr n mb_29 90 [some (.ref a), l1, l2, l3, l4, l5, l6] st M Q ↔ wp scr n mb_29 91 [some (.ref a), l1, l2, l3, l4, l5, l6] (.ref a :: st) M Q := wp_step rfl rfl rfl rfl rfl
theorem u29_91 : wp scr n mb_29 91 L (.ref a :: st) M Q ↔ wp scr n mb_29 92 L (.ref a :: .ref a :: st) M Q := wp_step rfl rfl rfl rfl rfl
theorem u29_92 : wp scr n mb_29 92 L (o :: st) M Q ↔ mw_o (mm_fld (mc_X scr) M o 1 8) (fun v => wp scr n mb_29 95 L (v :: st) M Q) := wp_getf rfl
theorem u29_95 : wp scr n mb_29 95 L st M Q ↔ wp scr n mb_29 96 L (.int 1 :: st) M Q := wp_step rfl rfl rfl rfl rfl
theorem u29_96 : wp scr n mb_29 96 [l0, l1, l2, l3, l4, some (.int x), l6] st M Q ↔ wp scr n mb_29 98 [l0, l1, l2, l3, l4, some (.int x), l6] (.int x :: st) M Q := wp_step rfl rfl rfl rfl rfl
theorem u29_98 : wp scr n mb_29 98 L (.int y :: .int x :: st) M Q ↔ wp scr n mb_29 99 L (.int (x <<< (y &&& 31)) :: st) M Q := wp_step rfl rfl rfl rfl rfl
theorem u29_99 : wp scr n mb_29 99 L (.int y :: .int x :: st) M Q ↔ wp scr n mb_29 100 L (.int (x ||| y) :: st) M Q := wp_step rfl rfl rfl rfl rfl
theorem u29_100 : wp scr n mb_29 100 L (v :: o :: st) M Q ↔ mw_o (mm_put mc_fty M o v 1 8) (fun M1 => wp scr n mb_29 103 L st M1 Q) := wp_putf rfl
theorem u29_103 : wp scr n mb_29 103 [l0, l1, l2, l3, l4, some (.int x), l6] st M Q ↔ wp scr n mb_29 106 (mm_sto1 [l0, l1, l2, l3, l4, some (.int x), l6] 5 (.int (x + 1))) st M Q := wp_step rfl rfl rfl rfl rfl
theorem u29_106 : wp scr n mb_29 106 L st M Q ↔ wp scr n mb_29 8 L st M Q := wp_step rfl rfl rfl rfl rfl
theorem u29_109 : wp scr n mb_29 109 L [] M Q ↔ Q none M := wp_ret rfl rfl
/-- SmallerInTheShop$Layout liesAcross (IZI)Z -/
def mb_30 : mw_B := ((Option.some FieldType.boolean), mp_30)
theorem u30_0 : wp scr n mb_30 0 L st M Q ↔ wp scr n mb_30 3 L (.retAddr 1 :: st) M Q := wp_step rfl rfl rfl rfl rfl
theorem u30_3 : wp scr n mb_30 3 [l0, some (.int x), l2, l3, l4, l5, l6, l7] st M Q ↔ wp scr n mb_30 4 [l0, some (.int x), l2, l3, l4, l5, l6, l7] (.int x :: st) M Q := wp_step rfl rfl rfl rfl rfl
theorem u30_4 : wp scr n mb_30 4 L (.int y :: o :: st) M Q ↔ mw_o (mm_ld (mc_X scr) M o y) (fun x => wp scr n mb_30 5 L (.int x :: st) M Q) := wp_iald rfl
theorem u30_5 : wp scr n mb_30 5 [l0, l1, l2, l3, l4, l5, l6, l7] (.int x :: st) M Q ↔ wp scr n mb_30 7 (mm_sto1 [l0, l1, l2, l3, l4, l5, l6, l7] 4 (.int x)) st M Q := wp_step rfl rfl rfl rfl rfl
theorem u30_7 : wp scr n mb_30 7 L st M Q ↔ wp scr n mb_30 10 L (.retAddr 2 :: st) M Q := wp_step rfl rfl rfl rfl rfl
theorem u30_10 : wp scr n mb_30 10 [l0, some (.int x), l2, l3, l4, l5, l6, l7] st M Q ↔ wp scr n mb_30 11 [l0, some (.int x), l2, l3, l4, l5, l6, l7] (.int x :: st) M Q := wp_step rfl rfl rfl rfl rfl
theorem u30_11 : wp scr n mb_30 11 L (.int y :: o :: st) M Q ↔ mw_o (mm_ld (mc_X scr) M o y) (fun x => wp scr n mb_30 12 L (.int x :: st) M Q) := wp_iald rfl
theorem u30_12 : wp scr n mb_30 12 [l0, l1, l2, l3, l4, l5, l6, l7] (.int x :: st) M Q ↔ wp scr n mb_30 14 (mm_sto1 [l0, l1, l2, l3, l4, l5, l6, l7] 5 (.int x)) st M Q := wp_step rfl rfl rfl rfl rfl
theorem u30_14 : wp scr n mb_30 14 [l0, l1, some (.int x), l3, l4, l5, l6, l7] st M Q ↔ wp scr n mb_30 15 [l0, l1, some (.int x), l3, l4, l5, l6, l7] (.int x :: st) M Q := wp_step rfl rfl rfl rfl rfl
theorem u30_15 : wp scr n mb_30 15 L (.int x :: st) M Q ↔ (if x = 0 then wp scr n mb_30 25 L st M Q else wp scr n mb_30 18 L st M Q) := (wp_step rfl rfl rfl rfl rfl).trans wp_ite
theorem u30_18 : wp scr n mb_30 18 [some (.ref a), l1, l2, l3, l4, l5, l6, l7] st M Q ↔ wp scr n mb_30 19 [some (.ref a), l1, l2, l3, l4, l5, l6, l7] (.ref a :: st) M Q := wp_step rfl rfl rfl rfl rfl
theorem u30_19 : wp scr n mb_30 19 L (o :: st) M Q ↔ mw_o (mm_fld (mc_X scr) M o 1 1) (fun v => wp scr n mb_30 22 L (v :: st) M Q) := wp_getf rfl
theorem u30_22 : wp scr n mb_30 22 L st M Q ↔ wp scr n mb_30 29 L st M Q := wp_step rfl rfl rfl rfl rfl
theorem u30_25 : wp scr n mb_30 25 [some (.ref a), l1, l2, l3, l4, l5, l6, l7] st M Q ↔ wp scr n mb_30 26 [some (.ref a), l1, l2, l3, l4, l5, l6, l7] (.ref a :: st) M Q := wp_step rfl rfl rfl rfl rfl
theorem u30_26 : wp scr n mb_30 26 L (o :: st) M Q ↔ mw_o (mm_fld (mc_X scr) M o 1 0) (fun v => wp scr n mb_30 29 L (v :: st) M Q) := wp_getf rfl
theorem u30_29 : wp scr n mb_30 29 [l0, l1, l2, l3, l4, l5, l6, l7] (.ref a :: st) M Q ↔ wp scr n mb_30 31 (mm_sto1 [l0, l1, l2, l3, l4, l5, l6, l7] 6 (.ref a)) st M Q := wp_step rfl rfl rfl rfl rfl
theorem u30_31 : wp scr n mb_30 31 [l0, l1, some (.int x), l3, l4, l5, l6, l7] st M Q ↔ wp scr n mb_30 32 [l0, l1, some (.int x), l3, l4, l5, l6, l7] (.int x :: st) M Q := wp_step rfl rfl rfl rfl rfl
theorem u30_32 : wp scr n mb_30 32 L (.int x :: st) M Q ↔ (if x = 0 then wp scr n mb_30 42 L st M Q else wp scr n mb_30 35 L st M Q) := (wp_step rfl rfl rfl rfl rfl).trans wp_ite
theorem u30_35 : wp scr n mb_30 35 [some (.ref a), l1, l2, l3, l4, l5, l6, l7] st M Q ↔ wp scr n mb_30 36 [some (.ref a), l1, l2, l3, l4, l5, l6, l7] (.ref a :: st) M Q := wp_step rfl rfl rfl rfl rfl
theorem u30_36 : wp scr n mb_30 36 L (o :: st) M Q ↔ mw_o (mm_fld (mc_X scr) M o 1 0) (fun v => wp scr n mb_30 39 L (v :: st) M Q) := wp_getf rfl
theorem u30_39 : wp scr n mb_30 39 L st M Q ↔ wp scr n mb_30 46 L st M Q := wp_step rfl rfl rfl rfl rfl
theorem u30_42 : wp scr n mb_30 42 [some (.ref a), l1, l2, l3, l4, l5, l6, l7] st M Q ↔ wp scr n mb_30 43 [some (.ref a), l1, l2, l3, l4, l5, l6, l7] (.ref a :: st) M Q := wp_step rfl rfl rfl rfl rfl
theorem u30_43 : wp scr n mb_30 43 L (o :: st) M Q ↔ mw_o (mm_fld (mc_X scr) M o 1 1) (fun v => wp scr n mb_30 46 L (v :: st) M Q) := wp_getf rfl
theorem u30_46 : wp scr n mb_30 46 [l0, l1, l2, l3, l4, l5, l6, l7] (.ref a :: st) M Q ↔ wp scr n mb_30 48 (mm_sto1 [l0, l1, l2, l3, l4, l5, l6, l7] 7 (.ref a)) st M Q := wp_step rfl rfl rfl rfl rfl
theorem u30_48 : wp scr n mb_30 48 [l0, l1, l2, l3, l4, l5, l6, some (.ref a)] st M Q ↔ wp scr n mb_30 50 [l0, l1, l2, l3, l4, l5, l6, some (.ref a)] (.ref a :: st) M Q := wp_step rfl rfl rfl rfl rfl
theorem u30_50 : wp scr n mb_30 50 [l0, l1, l2, l3, some (.int x), l5, l6, l7] st M Q ↔ wp scr n mb_30 52 [l0, l1, l2, l3, some (.int x), l5, l6, l7] (.int x :: st) M Q := wp_step rfl rfl rfl rfl rfl
theorem u30_52 : wp scr n mb_30 52 L (.int y :: o :: st) M Q ↔ mw_o (mm_ld (mc_X scr) M o y) (fun x => wp scr n mb_30 53 L (.int x :: st) M Q) := wp_iald rfl
theorem u30_53 : wp scr n mb_30 53 [l0, l1, l2, l3, l4, l5, l6, some (.ref a)] st M Q ↔ wp scr n mb_30 55 [l0, l1, l2, l3, l4, l5, l6, some (.ref a)] (.ref a :: st) M Q := wp_step rfl rfl rfl rfl rfl
theorem u30_55 : wp scr n mb_30 55 [l0, l1, l2, l3, l4, some (.int x), l6, l7] st M Q ↔ wp scr n mb_30 57 [l0, l1, l2, l3, l4, some (.int x), l6, l7] (.int x :: st) M Q := wp_step rfl rfl rfl rfl rfl
theorem u30_57 : wp scr n mb_30 57 L (.int y :: o :: st) M Q ↔ mw_o (mm_ld (mc_X scr) M o y) (fun x => wp scr n mb_30 58 L (.int x :: st) M Q) := wp_iald rfl
theorem u30_58 : wp scr n mb_30 58 L (.int y :: .int x :: st) M Q ↔ (if x = y then wp scr n mb_30 61 L st M Q else wp scr n mb_30 101 L st M Q) := (wp_step rfl rfl rfl rfl rfl).trans wp_iten
theorem u30_61 : wp scr n mb_30 61 [l0, l1, l2, l3, l4, l5, some (.ref a), l7] st M Q ↔ wp scr n mb_30 63 [l0, l1, l2, l3, l4, l5, some (.ref a), l7] (.ref a :: st) M Q := wp_step rfl rfl rfl rfl rfl
theorem u30_63 : wp scr n mb_30 63 [l0, l1, l2, l3, some (.int x), l5, l6, l7] st M Q ↔ wp scr n mb_30 65 [l0, l1, l2, l3, some (.int x), l5, l6, l7] (.int x :: st) M Q := wp_step rfl rfl rfl rfl rfl
theorem u30_65 : wp scr n mb_30 65 L (.int y :: o :: st) M Q ↔ mw_o (mm_ld (mc_X scr) M o y) (fun x => wp scr n mb_30 66 L (.int x :: st) M Q) := wp_iald rfl
theorem u30_66 : wp scr n mb_30 66 [l0, l1, l2, l3, l4, l5, some (.ref a), l7] st M Q ↔ wp scr n mb_30 68 [l0, l1, l2, l3, l4, l5, some (.ref a), l7] (.ref a :: st) M Q := wp_step rfl rfl rfl rfl rfl
theorem u30_68 : wp scr n mb_30 68 [l0, l1, l2, l3, l4, some (.int x), l6, l7] st M Q ↔ wp scr n mb_30 70 [l0, l1, l2, l3, l4, some (.int x), l6, l7] (.int x :: st) M Q := wp_step rfl rfl rfl rfl rfl
theorem u30_70 : wp scr n mb_30 70 L (.int y :: o :: st) M Q ↔ mw_o (mm_ld (mc_X scr) M o y) (fun x => wp scr n mb_30 71 L (.int x :: st) M Q) := wp_iald rfl
theorem u30_71 : wp scr n mb_30 71 L (.int y :: .int x :: st) M Q ↔ (mw_st st ∧ wp scr n mb_30 74 L (.int (if y < x then y else x) :: st) M Q) := wp_math998 rfl
theorem u30_74 : wp scr n mb_30 74 [l0, l1, l2, some (.int x), l4, l5, l6, l7] st M Q ↔ wp scr n mb_30 75 [l0, l1, l2, some (.int x), l4, l5, l6, l7] (.int x :: st) M Q := wp_step rfl rfl rfl rfl rfl
theorem u30_75 : wp scr n mb_30 75 L st M Q ↔ wp scr n mb_30 76 L (.int 1 :: st) M Q := wp_step rfl rfl rfl rfl rfl
theorem u30_76 : wp scr n mb_30 76 L (.int y :: .int x :: st) M Q ↔ wp scr n mb_30 77 L (.int (x - y) :: st) M Q := wp_step rfl rfl rfl rfl rfl
theorem u30_77 : wp scr n mb_30 77 L (.int y :: .int x :: st) M Q ↔ (if x = y then wp scr n mb_30 80 L st M Q else wp scr n mb_30 101 L st M Q) := (wp_step rfl rfl rfl rfl rfl).trans wp_iten
theorem u30_80 : wp scr n mb_30 80 [l0, l1, l2, l3, l4, l5, some (.ref a), l7] st M Q ↔ wp scr n mb_30 82 [l0, l1, l2, l3, l4, l5, some (.ref a), l7] (.ref a :: st) M Q := wp_step rfl rfl rfl rfl rfl
theorem u30_82 : wp scr n mb_30 82 [l0, l1, l2, l3, some (.int x), l5, l6, l7] st M Q ↔ wp scr n mb_30 84 [l0, l1, l2, l3, some (.int x), l5, l6, l7] (.int x :: st) M Q := wp_step rfl rfl rfl rfl rfl
theorem u30_84 : wp scr n mb_30 84 L (.int y :: o :: st) M Q ↔ mw_o (mm_ld (mc_X scr) M o y) (fun x => wp scr n mb_30 85 L (.int x :: st) M Q) := wp_iald rfl
theorem u30_85 : wp scr n mb_30 85 [l0, l1, l2, l3, l4, l5, some (.ref a), l7] st M Q ↔ wp scr n mb_30 87 [l0, l1, l2, l3, l4, l5, some (.ref a), l7] (.ref a :: st) M Q := wp_step rfl rfl rfl rfl rfl
theorem u30_87 : wp scr n mb_30 87 [l0, l1, l2, l3, l4, some (.int x), l6, l7] st M Q ↔ wp scr n mb_30 89 [l0, l1, l2, l3, l4, some (.int x), l6, l7] (.int x :: st) M Q := wp_step rfl rfl rfl rfl rfl
theorem u30_89 : wp scr n mb_30 89 L (.int y :: o :: st) M Q ↔ mw_o (mm_ld (mc_X scr) M o y) (fun x => wp scr n mb_30 90 L (.int x :: st) M Q) := wp_iald rfl
theorem u30_90 : wp scr n mb_30 90 L (.int y :: .int x :: st) M Q ↔ (mw_st st ∧ wp scr n mb_30 93 L (.int (if x < y then y else x) :: st) M Q) := wp_math997 rfl
theorem u30_93 : wp scr n mb_30 93 [l0, l1, l2, some (.int x), l4, l5, l6, l7] st M Q ↔ wp scr n mb_30 94 [l0, l1, l2, some (.int x), l4, l5, l6, l7] (.int x :: st) M Q := wp_step rfl rfl rfl rfl rfl
theorem u30_94 : wp scr n mb_30 94 L (.int y :: .int x :: st) M Q ↔ (if x = y then wp scr n mb_30 97 L st M Q else wp scr n mb_30 101 L st M Q) := (wp_step rfl rfl rfl rfl rfl).trans wp_iten
theorem u30_97 : wp scr n mb_30 97 L st M Q ↔ wp scr n mb_30 98 L (.int 1 :: st) M Q := wp_step rfl rfl rfl rfl rfl
theorem u30_98 : wp scr n mb_30 98 L st M Q ↔ wp scr n mb_30 102 L st M Q := wp_step rfl rfl rfl rfl rfl
theorem u30_101 : wp scr n mb_30 101 L st M Q ↔ wp scr n mb_30 102 L (.int 0 :: st) M Q := wp_step rfl rfl rfl rfl rfl
theorem u30_102 : wp scr n mb_30 102 L [.int x] M Q ↔ ((x = 0 ∨ x = 1) ∧ Q (some (.int x)) M) := wp_retb rfl rfl
/-- SmallerInTheShop$Layout isRead (I)Z -/
def mb_31 : mw_B := ((Option.some FieldType.boolean), mp_31)
theorem u31_0 : wp scr n mb_31 0 [some (.ref a), l1] st M Q ↔ wp scr n mb_31 1 [some (.ref a), l1] (.ref a :: st) M Q := wp_step rfl rfl rfl rfl rfl
theorem u31_1 : wp scr n mb_31 1 L (o :: st) M Q ↔ mw_o (mm_fld (mc_X scr) M o 1 3) (fun v => wp scr n mb_31 4 L (v :: st) M Q) := wp_getf rfl
theorem u31_4 : wp scr n mb_31 4 [l0, some (.int x)] st M Q ↔ wp scr n mb_31 5 [l0, some (.int x)] (.int x :: st) M Q := wp_step rfl rfl rfl rfl rfl
theorem u31_5 : wp scr n mb_31 5 L (.int y :: o :: st) M Q ↔ mw_o (mm_ld (mc_X scr) M o y) (fun x => wp scr n mb_31 6 L (.int x :: st) M Q) := wp_iald rfl
theorem u31_6 : wp scr n mb_31 6 L (.int x :: st) M Q ↔ (if x = 0 then wp scr n mb_31 9 L st M Q else wp scr n mb_31 25 L st M Q) := (wp_step rfl rfl rfl rfl rfl).trans wp_iten
theorem u31_9 : wp scr n mb_31 9 [some (.ref a), l1] st M Q ↔ wp scr n mb_31 10 [some (.ref a), l1] (.ref a :: st) M Q := wp_step rfl rfl rfl rfl rfl
theorem u31_10 : wp scr n mb_31 10 [l0, some (.int x)] st M Q ↔ wp scr n mb_31 11 [l0, some (.int x)] (.int x :: st) M Q := wp_step rfl rfl rfl rfl rfl
theorem u31_11 : wp scr n mb_31 11 L (a2 :: .ref a :: st) M Q ↔ ((mw_r M a 1 ∧ mw_st st) ∧ Wp scr n 32 [.ref a, a2] M (fun r1 M1 => wp scr n mb_31 14 L (r1.toList ++ st) M1 Q)) := wp_vir rfl rfl rfl rfl rfl
theorem u31_14 : wp scr n mb_31 14 L (.int x :: st) M Q ↔ (if x = 0 then wp scr n mb_31 17 L st M Q else wp scr n mb_31 21 L st M Q) := (wp_step rfl rfl rfl rfl rfl).trans wp_iten
theorem u31_17 : wp scr n mb_31 17 L st M Q ↔ wp scr n mb_31 18 L (.int 1 :: st) M Q := wp_step rfl rfl rfl rfl rfl
theorem u31_18 : wp scr n mb_31 18 L st M Q ↔ wp scr n mb_31 39 L st M Q := wp_step rfl rfl rfl rfl rfl
theorem u31_21 : wp scr n mb_31 21 L st M Q ↔ wp scr n mb_31 22 L (.int 0 :: st) M Q := wp_step rfl rfl rfl rfl rfl
theorem u31_22 : wp scr n mb_31 22 L st M Q ↔ wp scr n mb_31 39 L st M Q := wp_step rfl rfl rfl rfl rfl
theorem u31_25 : wp scr n mb_31 25 [some (.ref a), l1] st M Q ↔ wp scr n mb_31 26 [some (.ref a), l1] (.ref a :: st) M Q := wp_step rfl rfl rfl rfl rfl
theorem u31_26 : wp scr n mb_31 26 L (o :: st) M Q ↔ mw_o (mm_fld (mc_X scr) M o 1 2) (fun v => wp scr n mb_31 29 L (v :: st) M Q) := wp_getf rfl
theorem u31_29 : wp scr n mb_31 29 [l0, some (.int x)] st M Q ↔ wp scr n mb_31 30 [l0, some (.int x)] (.int x :: st) M Q := wp_step rfl rfl rfl rfl rfl
theorem u31_30 : wp scr n mb_31 30 L (.int y :: o :: st) M Q ↔ mw_o (mm_ld (mc_X scr) M o y) (fun x => wp scr n mb_31 31 L (.int x :: st) M Q) := wp_iald rfl
theorem u31_31 : wp scr n mb_31 31 L (.int x :: st) M Q ↔ (if x = 0 then wp scr n mb_31 34 L st M Q else wp scr n mb_31 38 L st M Q) := (wp_step rfl rfl rfl rfl rfl).trans wp_iten
theorem u31_34 : wp scr n mb_31 34 L st M Q ↔ wp scr n mb_31 35 L (.int 1 :: st) M Q := wp_step rfl rfl rfl rfl rfl
theorem u31_35 : wp scr n mb_31 35 L st M Q ↔ wp scr n mb_31 39 L st M Q := wp_step rfl rfl rfl rfl rfl
theorem u31_38 : wp scr n mb_31 38 L st M Q ↔ wp scr n mb_31 39 L (.int 0 :: st) M Q := wp_step rfl rfl rfl rfl rfl
theorem u31_39 : wp scr n mb_31 39 L [.int x] M Q ↔ ((x = 0 ∨ x = 1) ∧ Q (some (.int x)) M) := wp_retb rfl rfl
/-- SmallerInTheShop$Layout countAbove (I)I -/
def mb_32 : mw_B := ((Option.some FieldType.int), mp_32)
theorem u32_0 : wp scr n mb_32 0 [some (.ref a), l1] st M Q ↔ wp scr n mb_32 1 [some (.ref a), l1] (.ref a :: st) M Q := wp_step rfl rfl rfl rfl rfl
theorem u32_1 : wp scr n mb_32 1 L (o :: st) M Q ↔ mw_o (mm_fld (mc_X scr) M o 1 5) (fun v => wp scr n mb_32 4 L (v :: st) M Q) := wp_getf rfl
theorem u32_4 : wp scr n mb_32 4 [some (.ref a), l1] st M Q ↔ wp scr n mb_32 5 [some (.ref a), l1] (.ref a :: st) M Q := wp_step rfl rfl rfl rfl rfl
theorem u32_5 : wp scr n mb_32 5 [l0, some (.int x)] st M Q ↔ wp scr n mb_32 6 [l0, some (.int x)] (.int x :: st) M Q := wp_step rfl rfl rfl rfl rfl
theorem u32_6 : wp scr n mb_32 6 L (a2 :: .ref a :: st) M Q ↔ ((mw_r M a 1 ∧ mw_st st) ∧ Wp scr n 28 [.ref a, a2] M (fun r1 M1 => wp scr n mb_32 9 L (r1.toList ++ st) M1 Q)) := wp_vir rfl rfl rfl rfl rfl
theorem u32_9 : wp scr n mb_32 9 L (.int y :: o :: st) M Q ↔ mw_o (mm_ld (mc_X scr) M o y) (fun x => wp scr n mb_32 10 L (.int x :: st) M Q) := wp_iald rfl
theorem u32_10 : wp scr n mb_32 10 L st M Q ↔ wp scr n mb_32 11 L (.int 1 :: st) M Q := wp_step rfl rfl rfl rfl rfl
theorem u32_11 : wp scr n mb_32 11 L (.int y :: .int x :: st) M Q ↔ wp scr n mb_32 12 L (.int (x - y) :: st) M Q := wp_step rfl rfl rfl rfl rfl
theorem u32_12 : wp scr n mb_32 12 [some (.ref a), l1] st M Q ↔ wp scr n mb_32 13 [some (.ref a), l1] (.ref a :: st) M Q := wp_step rfl rfl rfl rfl rfl
theorem u32_13 : wp scr n mb_32 13 L (o :: st) M Q ↔ mw_o (mm_fld (mc_X scr) M o 1 2) (fun v => wp scr n mb_32 16 L (v :: st) M Q) := wp_getf rfl
theorem u32_16 : wp scr n mb_32 16 [l0, some (.int x)] st M Q ↔ wp scr n mb_32 17 [l0, some (.int x)] (.int x :: st) M Q := wp_step rfl rfl rfl rfl rfl
theorem u32_17 : wp scr n mb_32 17 L (.int y :: o :: st) M Q ↔ mw_o (mm_ld (mc_X scr) M o y) (fun x => wp scr n mb_32 18 L (.int x :: st) M Q) := wp_iald rfl
theorem u32_18 : wp scr n mb_32 18 L (.int y :: .int x :: st) M Q ↔ wp scr n mb_32 19 L (.int (x - y) :: st) M Q := wp_step rfl rfl rfl rfl rfl
theorem u32_19 : wp scr n mb_32 19 L [.int x] M Q ↔ Q (some (.int x)) M := wp_ret rfl rfl
/-- SmallerInTheShop$Layout liesAbove (II)Z -/
def mb_33 : mw_B := ((Option.some FieldType.boolean), mp_33)
theorem u33_0 : wp scr n mb_33 0 [some (.ref a), l1, l2] st M Q ↔ wp scr n mb_33 1 [some (.ref a), l1, l2] (.ref a :: st) M Q := wp_step rfl rfl rfl rfl rfl
theorem u33_1 : wp scr n mb_33 1 [l0, some (.int x), l2] st M Q ↔ wp scr n mb_33 2 [l0, some (.int x), l2] (.int x :: st) M Q := wp_step rfl rfl rfl rfl rfl
theorem u33_2 : wp scr n mb_33 2 L (a2 :: .ref a :: st) M Q ↔ ((mw_r M a 1 ∧ mw_st st) ∧ Wp scr n 28 [.ref a, a2] M (fun r1 M1 => wp scr n mb_33 5 L (r1.toList ++ st) M1 Q)) := wp_vir rfl rfl rfl rfl rfl
theorem u33_5 : wp scr n mb_33 5 [some (.ref a), l1, l2] st M Q ↔ wp scr n mb_33 6 [some (.ref a), l1, l2] (.ref a :: st) M Q := wp_step rfl rfl rfl rfl rfl
theorem u33_6 : wp scr n mb_33 6 [l0, l1, some (.int x)] st M Q ↔ wp scr n mb_33 7 [l0, l1, some (.int x)] (.int x :: st) M Q := wp_step rfl rfl rfl rfl rfl
theorem u33_7 : wp scr n mb_33 7 L (a2 :: .ref a :: st) M Q ↔ ((mw_r M a 1 ∧ mw_st st) ∧ Wp scr n 28 [.ref a, a2] M (fun r1 M1 => wp scr n mb_33 10 L (r1.toList ++ st) M1 Q)) := wp_vir rfl rfl rfl rfl rfl
theorem u33_10 : wp scr n mb_33 10 L (.int y :: .int x :: st) M Q ↔ (if x = y then wp scr n mb_33 13 L st M Q else wp scr n mb_33 32 L st M Q) := (wp_step rfl rfl rfl rfl rfl).trans wp_iten
theorem u33_13 : wp scr n mb_33 13 [some (.ref a), l1, l2] st M Q ↔ wp scr n mb_33 14 [some (.ref a), l1, l2] (.ref a :: st) M Q := wp_step rfl rfl rfl rfl rfl
theorem u33_14 : wp scr n mb_33 14 L (o :: st) M Q ↔ mw_o (mm_fld (mc_X scr) M o 1 2) (fun v => wp scr n mb_33 17 L (v :: st) M Q) := wp_getf rfl
theorem u33_17 : wp scr n mb_33 17 [l0, some (.int x), l2] st M Q ↔ wp scr n mb_33 18 [l0, some (.int x), l2] (.int x :: st) M Q := wp_step rfl rfl rfl rfl rfl
theorem u33_18 : wp scr n mb_33 18 L (.int y :: o :: st) M Q ↔ mw_o (mm_ld (mc_X scr) M o y) (fun x => wp scr n mb_33 19 L (.int x :: st) M Q) := wp_iald rfl
theorem u33_19 : wp scr n mb_33 19 [some (.ref a), l1, l2] st M Q ↔ wp scr n mb_33 20 [some (.ref a), l1, l2] (.ref a :: st) M Q := wp_step rfl rfl rfl rfl rfl
theorem u33_20 : wp scr n mb_33 20 L (o :: st) M Q ↔ mw_o (mm_fld (mc_X scr) M o 1 2) (fun v => wp scr n mb_33 23 L (v :: st) M Q) := wp_getf rfl
theorem u33_23 : wp scr n mb_33 23 [l0, l1, some (.int x)] st M Q ↔ wp scr n mb_33 24 [l0, l1, some (.int x)] (.int x :: st) M Q := wp_step rfl rfl rfl rfl rfl
theorem u33_24 : wp scr n mb_33 24 L (.int y :: o :: st) M Q ↔ mw_o (mm_ld (mc_X scr) M o y) (fun x => wp scr n mb_33 25 L (.int x :: st) M Q) := wp_iald rfl
theorem u33_25 : wp scr n mb_33 25 L (.int y :: .int x :: st) M Q ↔ (if x ≤ y then wp scr n mb_33 32 L st M Q else wp scr n mb_33 28 L st M Q) := (wp_step rfl rfl rfl rfl rfl).trans wp_ite
theorem u33_28 : wp scr n mb_33 28 L st M Q ↔ wp scr n mb_33 29 L (.int 1 :: st) M Q := wp_step rfl rfl rfl rfl rfl
theorem u33_29 : wp scr n mb_33 29 L st M Q ↔ wp scr n mb_33 33 L st M Q := wp_step rfl rfl rfl rfl rfl
theorem u33_32 : wp scr n mb_33 32 L st M Q ↔ wp scr n mb_33 33 L (.int 0 :: st) M Q := wp_step rfl rfl rfl rfl rfl
theorem u33_33 : wp scr n mb_33 33 L [.int x] M Q ↔ ((x = 0 ∨ x = 1) ∧ Q (some (.int x)) M) := wp_retb rfl rfl
/-- SmallerInTheShop$Layout thickness ()I -/
def mb_34 : mw_B := ((Option.some FieldType.int), mp_34)
theorem u34_0 : wp scr n mb_34 0 L st M Q ↔ wp scr n mb_34 1 L (.int 0 :: st) M Q := wp_step rfl rfl rfl rfl rfl
theorem u34_1 : wp scr n mb_34 1 [l0, l1, l2] (.int x :: st) M Q ↔ wp scr n mb_34 2 (mm_sto1 [l0, l1, l2] 1 (.int x)) st M Q := wp_step rfl rfl rfl rfl rfl
theorem u34_2 : wp scr n mb_34 2 L st M Q ↔ wp scr n mb_34 3 L (.int 0 :: st) M Q := wp_step rfl rfl rfl rfl rfl
theorem u34_3 : wp scr n mb_34 3 [l0, l1, l2] (.int x :: st) M Q ↔ wp scr n mb_34 4 (mm_sto1 [l0, l1, l2] 2 (.int x)) st M Q := wp_step rfl rfl rfl rfl rfl
theorem u34_4 : wp scr n mb_34 4 [l0, l1, some (.int x)] st M Q ↔ wp scr n mb_34 5 [l0, l1, some (.int x)] (.int x :: st) M Q := wp_step rfl rfl rfl rfl rfl
theorem u34_5 : wp scr n mb_34 5 L st M Q ↔ wp scr n mb_34 7 L (.int 8 :: st) M Q := wp_step rfl rfl rfl rfl rfl
theorem u34_7 : wp scr n mb_34 7 L (.int y :: .int x :: st) M Q ↔ (if y ≤ x then wp scr n mb_34 27 L st M Q else wp scr n mb_34 10 L st M Q) := (wp_step rfl rfl rfl rfl rfl).trans wp_ite
theorem u34_10 : wp scr n mb_34 10 [l0, some (.int x), l2] st M Q ↔ wp scr n mb_34 11 [l0, some (.int x), l2] (.int x :: st) M Q := wp_step rfl rfl rfl rfl rfl
theorem u34_11 : wp scr n mb_34 11 [some (.ref a), l1, l2] st M Q ↔ wp scr n mb_34 12 [some (.ref a), l1, l2] (.ref a :: st) M Q := wp_step rfl rfl rfl rfl rfl
theorem u34_12 : wp scr n mb_34 12 L (o :: st) M Q ↔ mw_o (mm_fld (mc_X scr) M o 1 5) (fun v => wp scr n mb_34 15 L (v :: st) M Q) := wp_getf rfl
theorem u34_15 : wp scr n mb_34 15 [l0, l1, some (.int x)] st M Q ↔ wp scr n mb_34 16 [l0, l1, some (.int x)] (.int x :: st) M Q := wp_step rfl rfl rfl rfl rfl
theorem u34_16 : wp scr n mb_34 16 L (.int y :: o :: st) M Q ↔ mw_o (mm_ld (mc_X scr) M o y) (fun x => wp scr n mb_34 17 L (.int x :: st) M Q) := wp_iald rfl
theorem u34_17 : wp scr n mb_34 17 L (.int y :: .int x :: st) M Q ↔ (mw_st st ∧ wp scr n mb_34 20 L (.int (if x < y then y else x) :: st) M Q) := wp_math997 rfl
theorem u34_20 : wp scr n mb_34 20 [l0, l1, l2] (.int x :: st) M Q ↔ wp scr n mb_34 21 (mm_sto1 [l0, l1, l2] 1 (.int x)) st M Q := wp_step rfl rfl rfl rfl rfl
theorem u34_21 : wp scr n mb_34 21 [l0, l1, some (.int x)] st M Q ↔ wp scr n mb_34 24 (mm_sto1 [l0, l1, some (.int x)] 2 (.int (x + 1))) st M Q := wp_step rfl rfl rfl rfl rfl
theorem u34_24 : wp scr n mb_34 24 L st M Q ↔ wp scr n mb_34 4 L st M Q := wp_step rfl rfl rfl rfl rfl
theorem u34_27 : wp scr n mb_34 27 [l0, some (.int x), l2] st M Q ↔ wp scr n mb_34 28 [l0, some (.int x), l2] (.int x :: st) M Q := wp_step rfl rfl rfl rfl rfl
theorem u34_28 : wp scr n mb_34 28 L [.int x] M Q ↔ Q (some (.int x)) M := wp_ret rfl rfl
/-- SmallerInTheShop$Layout readPanels ()I -/
def mb_35 : mw_B := ((Option.some FieldType.int), mp_35)
theorem u35_0 : wp scr n mb_35 0 L st M Q ↔ wp scr n mb_35 1 L (.int 0 :: st) M Q := wp_step rfl rfl rfl rfl rfl
theorem u35_1 : wp scr n mb_35 1 [l0, l1, l2] (.int x :: st) M Q ↔ wp scr n mb_35 2 (mm_sto1 [l0, l1, l2] 1 (.int x)) st M Q := wp_step rfl rfl rfl rfl rfl
theorem u35_2 : wp scr n mb_35 2 L st M Q ↔ wp scr n mb_35 3 L (.int 0 :: st) M Q := wp_step rfl rfl rfl rfl rfl
theorem u35_3 : wp scr n mb_35 3 [l0, l1, l2] (.int x :: st) M Q ↔ wp scr n mb_35 4 (mm_sto1 [l0, l1, l2] 2 (.int x)) st M Q := wp_step rfl rfl rfl rfl rfl
theorem u35_4 : wp scr n mb_35 4 [l0, l1, some (.int x)] st M Q ↔ wp scr n mb_35 5 [l0, l1, some (.int x)] (.int x :: st) M Q := wp_step rfl rfl rfl rfl rfl
theorem u35_5 : wp scr n mb_35 5 L st M Q ↔ wp scr n mb_35 7 L (.int 8 :: st) M Q := wp_step rfl rfl rfl rfl rfl
theorem u35_7 : wp scr n mb_35 7 L (.int y :: .int x :: st) M Q ↔ (if y ≤ x then wp scr n mb_35 30 L st M Q else wp scr n mb_35 10 L st M Q) := (wp_step rfl rfl rfl rfl rfl).trans wp_ite
theorem u35_10 : wp scr n mb_35 10 [some (.ref a), l1, l2] st M Q ↔ wp scr n mb_35 11 [some (.ref a), l1, l2] (.ref a :: st) M Q := wp_step rfl rfl rfl rfl rfl
theorem u35_11 : wp scr n mb_35 11 [l0, l1, some (.int x)] st M Q ↔ wp scr n mb_35 12 [l0, l1, some (.int x)] (.int x :: st) M Q := wp_step rfl rfl rfl rfl rfl
theorem u35_12 : wp scr n mb_35 12 L (a2 :: .ref a :: st) M Q ↔ ((mw_r M a 1 ∧ mw_st st) ∧ Wp scr n 31 [.ref a, a2] M (fun r1 M1 => wp scr n mb_35 15 L (r1.toList ++ st) M1 Q)) := wp_vir rfl rfl rfl rfl rfl
theorem u35_15 : wp scr n mb_35 15 L (.int x :: st) M Q ↔ (if x = 0 then wp scr n mb_35 24 L st M Q else wp scr n mb_35 18 L st M Q) := (wp_step rfl rfl rfl rfl rfl).trans wp_ite
theorem u35_18 : wp scr n mb_35 18 [l0, some (.int x), l2] st M Q ↔ wp scr n mb_35 19 [l0, some (.int x), l2] (.int x :: st) M Q := wp_step rfl rfl rfl rfl rfl
theorem u35_19 : wp scr n mb_35 19 L st M Q ↔ wp scr n mb_35 20 L (.int 1 :: st) M Q := wp_step rfl rfl rfl rfl rfl
theorem u35_20 : wp scr n mb_35 20 [l0, l1, some (.int x)] st M Q ↔ wp scr n mb_35 21 [l0, l1, some (.int x)] (.int x :: st) M Q := wp_step rfl rfl rfl rfl rfl
theorem u35_21 : wp scr n mb_35 21 L (.int y :: .int x :: st) M Q ↔ wp scr n mb_35 22 L (.int (x <<< (y &&& 31)) :: st) M Q := wp_step rfl rfl rfl rfl rfl
theorem u35_22 : wp scr n mb_35 22 L (.int y :: .int x :: st) M Q ↔ wp scr n mb_35 23 L (.int (x ||| y) :: st) M Q := wp_step rfl rfl rfl rfl rfl
theorem u35_23 : wp scr n mb_35 23 [l0, l1, l2] (.int x :: st) M Q ↔ wp scr n mb_35 24 (mm_sto1 [l0, l1, l2] 1 (.int x)) st M Q := wp_step rfl rfl rfl rfl rfl
theorem u35_24 : wp scr n mb_35 24 [l0, l1, some (.int x)] st M Q ↔ wp scr n mb_35 27 (mm_sto1 [l0, l1, some (.int x)] 2 (.int (x + 1))) st M Q := wp_step rfl rfl rfl rfl rfl
theorem u35_27 : wp scr n mb_35 27 L st M Q ↔ wp scr n mb_35 4 L st M Q := wp_step rfl rfl rfl rfl rfl
theorem u35_30 : wp scr n mb_35 30 [l0, some (.int x), l2] st M Q ↔ wp scr n mb_35 31 [l0, some (.int x), l2] (.int x :: st) M Q := wp_step rfl rfl rfl rfl rfl
theorem u35_31 : wp scr n mb_35 31 L [.int x] M Q ↔ Q (some (.int x)) M := wp_ret rfl rfl
/-- SmallerInTheShop$Layout showsBack (I)Z -/
def mb_36 : mw_B := ((Option.some FieldType.boolean), mp_36)
theorem u36_0 : wp scr n mb_36 0 [some (.ref a), l1] st M Q ↔ wp scr n mb_36 1 [some (.ref a), l1] (.ref a :: st) M Q := wp_step rfl rfl rfl rfl rfl
theorem u36_1 : wp scr n mb_36 1 L (o :: st) M Q ↔ mw_o (mm_fld (mc_X scr) M o 1 3) (fun v => wp scr n mb_36 4 L (v :: st) M Q) := wp_getf rfl
theorem u36_4 : wp scr n mb_36 4 [l0, some (.int x)] st M Q ↔ wp scr n mb_36 5 [l0, some (.int x)] (.int x :: st) M Q := wp_step rfl rfl rfl rfl rfl
theorem u36_5 : wp scr n mb_36 5 L (.int y :: o :: st) M Q ↔ mw_o (mm_ld (mc_X scr) M o y) (fun x => wp scr n mb_36 6 L (.int x :: st) M Q) := wp_iald rfl
theorem u36_6 : wp scr n mb_36 6 L (.int x :: st) M Q ↔ (if x = 0 then wp scr n mb_36 9 L st M Q else wp scr n mb_36 26 L st M Q) := (wp_step rfl rfl rfl rfl rfl).trans wp_iten
theorem u36_9 : wp scr n mb_36 9 [some (.ref a), l1] st M Q ↔ wp scr n mb_36 10 [some (.ref a), l1] (.ref a :: st) M Q := wp_step rfl rfl rfl rfl rfl
theorem u36_10 : wp scr n mb_36 10 L (o :: st) M Q ↔ mw_o (mm_fld (mc_X scr) M o 1 2) (fun v => wp scr n mb_36 13 L (v :: st) M Q) := wp_getf rfl
theorem u36_13 : wp scr n mb_36 13 [l0, some (.int x)] st M Q ↔ wp scr n mb_36 14 [l0, some (.int x)] (.int x :: st) M Q := wp_step rfl rfl rfl rfl rfl
theorem u36_14 : wp scr n mb_36 14 L (.int y :: o :: st) M Q ↔ mw_o (mm_ld (mc_X scr) M o y) (fun x => wp scr n mb_36 15 L (.int x :: st) M Q) := wp_iald rfl
theorem u36_15 : wp scr n mb_36 15 L (.int x :: st) M Q ↔ (if x = 0 then wp scr n mb_36 18 L st M Q else wp scr n mb_36 22 L st M Q) := (wp_step rfl rfl rfl rfl rfl).trans wp_iten
theorem u36_18 : wp scr n mb_36 18 L st M Q ↔ wp scr n mb_36 19 L (.int 1 :: st) M Q := wp_step rfl rfl rfl rfl rfl
theorem u36_19 : wp scr n mb_36 19 L st M Q ↔ wp scr n mb_36 39 L st M Q := wp_step rfl rfl rfl rfl rfl
theorem u36_22 : wp scr n mb_36 22 L st M Q ↔ wp scr n mb_36 23 L (.int 0 :: st) M Q := wp_step rfl rfl rfl rfl rfl
theorem u36_23 : wp scr n mb_36 23 L st M Q ↔ wp scr n mb_36 39 L st M Q := wp_step rfl rfl rfl rfl rfl
theorem u36_26 : wp scr n mb_36 26 [some (.ref a), l1] st M Q ↔ wp scr n mb_36 27 [some (.ref a), l1] (.ref a :: st) M Q := wp_step rfl rfl rfl rfl rfl
theorem u36_27 : wp scr n mb_36 27 [l0, some (.int x)] st M Q ↔ wp scr n mb_36 28 [l0, some (.int x)] (.int x :: st) M Q := wp_step rfl rfl rfl rfl rfl
theorem u36_28 : wp scr n mb_36 28 L (a2 :: .ref a :: st) M Q ↔ ((mw_r M a 1 ∧ mw_st st) ∧ Wp scr n 32 [.ref a, a2] M (fun r1 M1 => wp scr n mb_36 31 L (r1.toList ++ st) M1 Q)) := wp_vir rfl rfl rfl rfl rfl
theorem u36_31 : wp scr n mb_36 31 L (.int x :: st) M Q ↔ (if x = 0 then wp scr n mb_36 34 L st M Q else wp scr n mb_36 38 L st M Q) := (wp_step rfl rfl rfl rfl rfl).trans wp_iten
theorem u36_34 : wp scr n mb_36 34 L st M Q ↔ wp scr n mb_36 35 L (.int 1 :: st) M Q := wp_step rfl rfl rfl rfl rfl
theorem u36_35 : wp scr n mb_36 35 L st M Q ↔ wp scr n mb_36 39 L st M Q := wp_step rfl rfl rfl rfl rfl
theorem u36_38 : wp scr n mb_36 38 L st M Q ↔ wp scr n mb_36 39 L (.int 0 :: st) M Q := wp_step rfl rfl rfl rfl rfl
theorem u36_39 : wp scr n mb_36 39 L [.int x] M Q ↔ ((x = 0 ∨ x = 1) ∧ Q (some (.int x)) M) := wp_retb rfl rfl
/-- SmallerInTheShop$Layout foldedCreases ()I -/
def mb_37 : mw_B := ((Option.some FieldType.int), mp_37)
theorem u37_0 : wp scr n mb_37 0 L st M Q ↔ wp scr n mb_37 1 L (.int 0 :: st) M Q := wp_step rfl rfl rfl rfl rfl
theorem u37_1 : wp scr n mb_37 1 [l0, l1, l2] (.int x :: st) M Q ↔ wp scr n mb_37 2 (mm_sto1 [l0, l1, l2] 1 (.int x)) st M Q := wp_step rfl rfl rfl rfl rfl
theorem u37_2 : wp scr n mb_37 2 L st M Q ↔ wp scr n mb_37 3 L (.int 0 :: st) M Q := wp_step rfl rfl rfl rfl rfl
theorem u37_3 : wp scr n mb_37 3 [l0, l1, l2] (.int x :: st) M Q ↔ wp scr n mb_37 4 (mm_sto1 [l0, l1, l2] 2 (.int x)) st M Q := wp_step rfl rfl rfl rfl rfl
theorem u37_4 : wp scr n mb_37 4 [l0, l1, some (.int x)] st M Q ↔ wp scr n mb_37 5 [l0, l1, some (.int x)] (.int x :: st) M Q := wp_step rfl rfl rfl rfl rfl
theorem u37_5 : wp scr n mb_37 5 L st M Q ↔ wp scr n mb_37 7 L (.int 10 :: st) M Q := wp_step rfl rfl rfl rfl rfl
theorem u37_7 : wp scr n mb_37 7 L (.int y :: .int x :: st) M Q ↔ (if y ≤ x then wp scr n mb_37 31 L st M Q else wp scr n mb_37 10 L st M Q) := (wp_step rfl rfl rfl rfl rfl).trans wp_ite
theorem u37_10 : wp scr n mb_37 10 [some (.ref a), l1, l2] st M Q ↔ wp scr n mb_37 11 [some (.ref a), l1, l2] (.ref a :: st) M Q := wp_step rfl rfl rfl rfl rfl
theorem u37_11 : wp scr n mb_37 11 L (o :: st) M Q ↔ mw_o (mm_fld (mc_X scr) M o 1 4) (fun v => wp scr n mb_37 14 L (v :: st) M Q) := wp_getf rfl
theorem u37_14 : wp scr n mb_37 14 [l0, l1, some (.int x)] st M Q ↔ wp scr n mb_37 15 [l0, l1, some (.int x)] (.int x :: st) M Q := wp_step rfl rfl rfl rfl rfl
theorem u37_15 : wp scr n mb_37 15 L (.int y :: o :: st) M Q ↔ mw_o (mm_ld (mc_X scr) M o y) (fun x => wp scr n mb_37 16 L (.int x :: st) M Q) := wp_iald rfl
theorem u37_16 : wp scr n mb_37 16 L (.int x :: st) M Q ↔ (if x = 0 then wp scr n mb_37 25 L st M Q else wp scr n mb_37 19 L st M Q) := (wp_step rfl rfl rfl rfl rfl).trans wp_ite
theorem u37_19 : wp scr n mb_37 19 [l0, some (.int x), l2] st M Q ↔ wp scr n mb_37 20 [l0, some (.int x), l2] (.int x :: st) M Q := wp_step rfl rfl rfl rfl rfl
theorem u37_20 : wp scr n mb_37 20 L st M Q ↔ wp scr n mb_37 21 L (.int 1 :: st) M Q := wp_step rfl rfl rfl rfl rfl
theorem u37_21 : wp scr n mb_37 21 [l0, l1, some (.int x)] st M Q ↔ wp scr n mb_37 22 [l0, l1, some (.int x)] (.int x :: st) M Q := wp_step rfl rfl rfl rfl rfl
theorem u37_22 : wp scr n mb_37 22 L (.int y :: .int x :: st) M Q ↔ wp scr n mb_37 23 L (.int (x <<< (y &&& 31)) :: st) M Q := wp_step rfl rfl rfl rfl rfl
theorem u37_23 : wp scr n mb_37 23 L (.int y :: .int x :: st) M Q ↔ wp scr n mb_37 24 L (.int (x ||| y) :: st) M Q := wp_step rfl rfl rfl rfl rfl
theorem u37_24 : wp scr n mb_37 24 [l0, l1, l2] (.int x :: st) M Q ↔ wp scr n mb_37 25 (mm_sto1 [l0, l1, l2] 1 (.int x)) st M Q := wp_step rfl rfl rfl rfl rfl
theorem u37_25 : wp scr n mb_37 25 [l0, l1, some (.int x)] st M Q ↔ wp scr n mb_37 28 (mm_sto1 [l0, l1, some (.int x)] 2 (.int (x + 1))) st M Q := wp_step rfl rfl rfl rfl rfl
theorem u37_28 : wp scr n mb_37 28 L st M Q ↔ wp scr n mb_37 4 L st M Q := wp_step rfl rfl rfl rfl rfl
theorem u37_31 : wp scr n mb_37 31 [l0, some (.int x), l2] st M Q ↔ wp scr n mb_37 32 [l0, some (.int x), l2] (.int x :: st) M Q := wp_step rfl rfl rfl rfl rfl
theorem u37_32 : wp scr n mb_37 32 L [.int x] M Q ↔ Q (some (.int x)) M := wp_ret rfl rfl
/-- SmallerInTheShop$Layout cells ()I -/
def mb_38 : mw_B := ((Option.some FieldType.int), mp_38)
theorem u38_0 : wp scr n mb_38 0 [some (.ref a)] st M Q ↔ wp scr n mb_38 1 [some (.ref a)] (.ref a :: st) M Q := wp_step rfl rfl rfl rfl rfl
theorem u38_1 : wp scr n mb_38 1 L (o :: st) M Q ↔ mw_o (mm_fld (mc_X scr) M o 1 6) (fun v => wp scr n mb_38 4 L (v :: st) M Q) := wp_getf rfl
theorem u38_4 : wp scr n mb_38 4 [some (.ref a)] st M Q ↔ wp scr n mb_38 5 [some (.ref a)] (.ref a :: st) M Q := wp_step rfl rfl rfl rfl rfl
theorem u38_5 : wp scr n mb_38 5 L (o :: st) M Q ↔ mw_o (mm_fld (mc_X scr) M o 1 7) (fun v => wp scr n mb_38 8 L (v :: st) M Q) := wp_getf rfl
theorem u38_8 : wp scr n mb_38 8 L (.int y :: .int x :: st) M Q ↔ wp scr n mb_38 9 L (.int (x * y) :: st) M Q := wp_step rfl rfl rfl rfl rfl
theorem u38_9 : wp scr n mb_38 9 L [.int x] M Q ↔ Q (some (.int x)) M := wp_ret rfl rfl
/-- SmallerInTheShop$Layout isShut ()Z -/
def mb_39 : mw_B := ((Option.some FieldType.boolean), mp_39)
theorem u39_0 : wp scr n mb_39 0 [some (.ref a)] st M Q ↔ wp scr n mb_39 1 [some (.ref a)] (.ref a :: st) M Q := wp_step rfl rfl rfl rfl rfl
theorem u39_1 : wp scr n mb_39 1 L (o :: st) M Q ↔ mw_o (mm_fld (mc_X scr) M o 1 6) (fun v => wp scr n mb_39 4 L (v :: st) M Q) := wp_getf rfl
theorem u39_4 : wp scr n mb_39 4 L st M Q ↔ wp scr n mb_39 5 L (.int 1 :: st) M Q := wp_step rfl rfl rfl rfl rfl
theorem u39_5 : wp scr n mb_39 5 L (.int y :: .int x :: st) M Q ↔ (if x = y then wp scr n mb_39 8 L st M Q else wp scr n mb_39 20 L st M Q) := (wp_step rfl rfl rfl rfl rfl).trans wp_iten
theorem u39_8 : wp scr n mb_39 8 [some (.ref a)] st M Q ↔ wp scr n mb_39 9 [some (.ref a)] (.ref a :: st) M Q := wp_step rfl rfl rfl rfl rfl
theorem u39_9 : wp scr n mb_39 9 L (o :: st) M Q ↔ mw_o (mm_fld (mc_X scr) M o 1 7) (fun v => wp scr n mb_39 12 L (v :: st) M Q) := wp_getf rfl
theorem u39_12 : wp scr n mb_39 12 L st M Q ↔ wp scr n mb_39 13 L (.int 1 :: st) M Q := wp_step rfl rfl rfl rfl rfl
theorem u39_13 : wp scr n mb_39 13 L (.int y :: .int x :: st) M Q ↔ (if x = y then wp scr n mb_39 16 L st M Q else wp scr n mb_39 20 L st M Q) := (wp_step rfl rfl rfl rfl rfl).trans wp_iten
theorem u39_16 : wp scr n mb_39 16 L st M Q ↔ wp scr n mb_39 17 L (.int 1 :: st) M Q := wp_step rfl rfl rfl rfl rfl
theorem u39_17 : wp scr n mb_39 17 L st M Q ↔ wp scr n mb_39 21 L st M Q := wp_step rfl rfl rfl rfl rfl
theorem u39_20 : wp scr n mb_39 20 L st M Q ↔ wp scr n mb_39 21 L (.int 0 :: st) M Q := wp_step rfl rfl rfl rfl rfl
theorem u39_21 : wp scr n mb_39 21 L [.int x] M Q ↔ ((x = 0 ∨ x = 1) ∧ Q (some (.int x)) M) := wp_retb rfl rfl
/-- SmallerInTheShop$Layout countLines ()I -/
def mb_40 : mw_B := ((Option.some FieldType.int), mp_40)
theorem u40_0 : wp scr n mb_40 0 [some (.ref a)] st M Q ↔ wp scr n mb_40 1 [some (.ref a)] (.ref a :: st) M Q := wp_step rfl rfl rfl rfl rfl
theorem u40_1 : wp scr n mb_40 1 L (o :: st) M Q ↔ mw_o (mm_fld (mc_X scr) M o 1 6) (fun v => wp scr n mb_40 4 L (v :: st) M Q) := wp_getf rfl
theorem u40_4 : wp scr n mb_40 4 L st M Q ↔ wp scr n mb_40 5 L (.int 1 :: st) M Q := wp_step rfl rfl rfl rfl rfl
theorem u40_5 : wp scr n mb_40 5 L (.int y :: .int x :: st) M Q ↔ wp scr n mb_40 6 L (.int (x - y) :: st) M Q := wp_step rfl rfl rfl rfl rfl
theorem u40_6 : wp scr n mb_40 6 [some (.ref a)] st M Q ↔ wp scr n mb_40 7 [some (.ref a)] (.ref a :: st) M Q := wp_step rfl rfl rfl rfl rfl
theorem u40_7 : wp scr n mb_40 7 L (o :: st) M Q ↔ mw_o (mm_fld (mc_X scr) M o 1 7) (fun v => wp scr n mb_40 10 L (v :: st) M Q) := wp_getf rfl
theorem u40_10 : wp scr n mb_40 10 L (.int y :: .int x :: st) M Q ↔ wp scr n mb_40 11 L (.int (x + y) :: st) M Q := wp_step rfl rfl rfl rfl rfl
theorem u40_11 : wp scr n mb_40 11 L st M Q ↔ wp scr n mb_40 12 L (.int 1 :: st) M Q := wp_step rfl rfl rfl rfl rfl
theorem u40_12 : wp scr n mb_40 12 L (.int y :: .int x :: st) M Q ↔ wp scr n mb_40 13 L (.int (x - y) :: st) M Q := wp_step rfl rfl rfl rfl rfl
theorem u40_13 : wp scr n mb_40 13 L [.int x] M Q ↔ Q (some (.int x)) M := wp_ret rfl rfl
/-- SmallerInTheShop$Layout lineOfNumber (I)I -/
def mb_41 : mw_B := ((Option.some FieldType.int), mp_41)
theorem u41_0 : wp scr n mb_41 0 [l0, some (.int x)] st M Q ↔ wp scr n mb_41 1 [l0, some (.int x)] (.int x :: st) M Q := wp_step rfl rfl rfl rfl rfl
theorem u41_1 : wp scr n mb_41 1 [some (.ref a), l1] st M Q ↔ wp scr n mb_41 2 [some (.ref a), l1] (.ref a :: st) M Q := wp_step rfl rfl rfl rfl rfl
theorem u41_2 : wp scr n mb_41 2 L (o :: st) M Q ↔ mw_o (mm_fld (mc_X scr) M o 1 6) (fun v => wp scr n mb_41 5 L (v :: st) M Q) := wp_getf rfl
theorem u41_5 : wp scr n mb_41 5 L st M Q ↔ wp scr n mb_41 6 L (.int 1 :: st) M Q := wp_step rfl rfl rfl rfl rfl
theorem u41_6 : wp scr n mb_41 6 L (.int y :: .int x :: st) M Q ↔ wp scr n mb_41 7 L (.int (x - y) :: st) M Q := wp_step rfl rfl rfl rfl rfl
theorem u41_7 : wp scr n mb_41 7 L (.int y :: .int x :: st) M Q ↔ (if y ≤ x then wp scr n mb_41 16 L st M Q else wp scr n mb_41 10 L st M Q) := (wp_step rfl rfl rfl rfl rfl).trans wp_ite
theorem u41_10 : wp scr n mb_41 10 [l0, some (.int x)] st M Q ↔ wp scr n mb_41 11 [l0, some (.int x)] (.int x :: st) M Q := wp_step rfl rfl rfl rfl rfl
theorem u41_11 : wp scr n mb_41 11 L st M Q ↔ wp scr n mb_41 12 L (.int 1 :: st) M Q := wp_step rfl rfl rfl rfl rfl
theorem u41_12 : wp scr n mb_41 12 L (.int y :: .int x :: st) M Q ↔ wp scr n mb_41 13 L (.int (x + y) :: st) M Q := wp_step rfl rfl rfl rfl rfl
theorem u41_13 : wp scr n mb_41 13 L st M Q ↔ wp scr n mb_41 17 L st M Q := wp_step rfl rfl rfl rfl rfl
theorem u41_16 : wp scr n mb_41 16 L st M Q ↔ wp scr n mb_41 17 L (.int 4 :: st) M Q := wp_step rfl rfl rfl rfl rfl
theorem u41_17 : wp scr n mb_41 17 L [.int x] M Q ↔ Q (some (.int x)) M := wp_ret rfl rfl
/-- SmallerInTheShop$Letters isFull ()Z -/
def mb_43 : mw_B := ((Option.some FieldType.boolean), mp_43)
theorem u43_0 : wp scr n mb_43 0 [some (.ref a)] st M Q ↔ wp scr n mb_43 1 [some (.ref a)] (.ref a :: st) M Q := wp_step rfl rfl rfl rfl rfl
theorem u43_0b : wp scr n mb_43 0 [some (.retAddr a)] st M Q ↔ wp scr n mb_43 1 [some (.retAddr a)] (.retAddr a :: st) M Q := wp_step rfl rfl rfl rfl rfl
theorem u43_1 : wp scr n mb_43 1 L (o :: st) M Q ↔ mw_o (mm_fld (mc_X scr) M o 2 1) (fun v => wp scr n mb_43 4 L (v :: st) M Q) := wp_getf rfl
theorem u43_4 : wp scr n mb_43 4 L st M Q ↔ wp scr n mb_43 6 L (.int 96 :: st) M Q := wp_step rfl rfl rfl rfl rfl
theorem u43_6 : wp scr n mb_43 6 L (.int y :: .int x :: st) M Q ↔ (if x < y then wp scr n mb_43 13 L st M Q else wp scr n mb_43 9 L st M Q) := (wp_step rfl rfl rfl rfl rfl).trans wp_ite
theorem u43_9 : wp scr n mb_43 9 L st M Q ↔ wp scr n mb_43 10 L (.int 1 :: st) M Q := wp_step rfl rfl rfl rfl rfl
theorem u43_10 : wp scr n mb_43 10 L st M Q ↔ wp scr n mb_43 14 L st M Q := wp_step rfl rfl rfl rfl rfl
theorem u43_13 : wp scr n mb_43 13 L st M Q ↔ wp scr n mb_43 14 L (.int 0 :: st) M Q := wp_step rfl rfl rfl rfl rfl
theorem u43_14 : wp scr n mb_43 14 L [.int x] M Q ↔ ((x = 0 ∨ x = 1) ∧ Q (some (.int x)) M) := wp_retb rfl rfl
/-- SmallerInTheShop$Letters addLetter (I)I -/
def mb_44 : mw_B := ((Option.some FieldType.int), mp_44)
theorem u44_0 : wp scr n mb_44 0 [some (.ref a), l1] st M Q ↔ wp scr n mb_44 1 [some (.ref a), l1] (.ref a :: st) M Q := wp_step rfl rfl rfl rfl rfl
theorem u44_0b : wp scr n mb_44 0 [some (.retAddr a), l1] st M Q ↔ wp scr n mb_44 1 [some (.retAddr a), l1] (.retAddr a :: st) M Q := wp_step rfl rfl rfl rfl rfl
theorem u44_1 : wp scr n mb_44 1 L (o :: st) M Q ↔ mw_o (mm_fld (mc_X scr) M o 2 1) (fun v => wp scr n mb_44 4 L (v :: st) M Q) := wp_getf rfl
theorem u44_4 : wp scr n mb_44 4 L st M Q ↔ wp scr n mb_44 6 L (.int 96 :: st) M Q := wp_step rfl rfl rfl rfl rfl
theorem u44_6 : wp scr n mb_44 6 L (.int y :: .int x :: st) M Q ↔ (if y ≤ x then wp scr n mb_44 29 L st M Q else wp scr n mb_44 9 L st M Q) := (wp_step rfl rfl rfl rfl rfl).trans wp_ite
theorem u44_9 : wp scr n mb_44 9 [some (.ref a), l1] st M Q ↔ wp scr n mb_44 10 [some (.ref a), l1] (.ref a :: st) M Q := wp_step rfl rfl rfl rfl rfl
theorem u44_9b : wp scr n mb_44 9 [some (.retAddr a), l1] st M Q ↔ wp scr n mb_44 10 [some (.retAddr a), l1] (.retAddr a :: st) M Q := wp_step rfl rfl rfl rfl rfl
theorem u44_10 : wp scr n mb_44 10 L (o :: st) M Q ↔ mw_o (mm_fld (mc_X scr) M o 2 0) (fun v => wp scr n mb_44 13 L (v :: st) M Q) := wp_getf rfl
theorem u44_13 : wp scr n mb_44 13 [some (.ref a), l1] st M Q ↔ wp scr n mb_44 14 [some (.ref a), l1] (.ref a :: st) M Q := wp_step rfl rfl rfl rfl rfl
theorem u44_13b : wp scr n mb_44 13 [some (.retAddr a), l1] st M Q ↔ wp scr n mb_44 14 [some (.retAddr a), l1] (.retAddr a :: st) M Q := wp_step rfl rfl rfl rfl rfl
theorem u44_14 : wp scr n mb_44 14 L (o :: st) M Q ↔ mw_o (mm_fld (mc_X scr) M o 2 1) (fun v => wp scr n mb_44 17 L (v :: st) M Q) := wp_getf rfl
theorem u44_17 : wp scr n mb_44 17 [l0, some (.int x)] st M Q ↔ wp scr n mb_44 18 [l0, some (.int x)] (.int x :: st) M Q := wp_step rfl rfl rfl rfl rfl
theorem u44_18 : wp scr n mb_44 18 L (.int x :: .int y :: o :: st) M Q ↔ mw_o (mm_sti M o y x) (fun M1 => wp scr n mb_44 19 L st M1 Q) := wp_iast rfl
theorem u44_19 : wp scr n mb_44 19 [some (.ref a), l1] st M Q ↔ wp scr n mb_44 20 [some (.ref a), l1] (.ref a :: st) M Q := wp_step rfl rfl rfl rfl rfl
theorem u44_19b : wp scr n mb_44 19 [some (.retAddr a), l1] st M Q ↔ wp scr n mb_44 20 [some (.retAddr a), l1] (.retAddr a :: st) M Q := wp_step rfl rfl rfl rfl rfl
theorem u44_20 : wp scr n mb_44 20 L (.ref a :: st) M Q ↔ wp scr n mb_44 21 L (.ref a :: .ref a :: st) M Q := wp_step rfl rfl rfl rfl rfl
theorem u44_21 : wp scr n mb_44 21 L (o :: st) M Q ↔ mw_o (mm_fld (mc_X scr) M o 2 1) (fun v => wp scr n mb_44 24 L (v :: st) M Q) := wp_getf rfl
theorem u44_24 : wp scr n mb_44 24 L st M Q ↔ wp scr n mb_44 25 L (.int 1 :: st) M Q := wp_step rfl rfl rfl rfl rfl
theorem u44_25 : wp scr n mb_44 25 L (.int y :: .int x :: st) M Q ↔ wp scr n mb_44 26 L (.int (x + y) :: st) M Q := wp_step rfl rfl rfl rfl rfl
theorem u44_26 : wp scr n mb_44 26 L (v :: o :: st) M Q ↔ mw_o (mm_put mc_fty M o v 2 1) (fun M1 => wp scr n mb_44 29 L st M1 Q) := wp_putf rfl
theorem u44_29 : wp scr n mb_44 29 [some (.ref a), l1] st M Q ↔ wp scr n mb_44 30 [some (.ref a), l1] (.ref a :: st) M Q := wp_step rfl rfl rfl rfl rfl
theorem u44_29b : wp scr n mb_44 29 [some (.retAddr a), l1] st M Q ↔ wp scr n mb_44 30 [some (.retAddr a), l1] (.retAddr a :: st) M Q := wp_step rfl rfl rfl rfl rfl
theorem u44_30 : wp scr n mb_44 30 L (o :: st) M Q ↔ mw_o (mm_fld (mc_X scr) M o 2 1) (fun v => wp scr n mb_44 33 L (v :: st) M Q) := wp_getf rfl
theorem u44_33 : wp scr n mb_44 33 L [.int x] M Q ↔ Q (some (.int x)) M := wp_ret rfl rfl
/-- SmallerInTheShop$Letters firstWrongPlace ()I -/
def mb_45 : mw_B := ((Option.some FieldType.int), mp_45)
theorem u45_0 : wp scr n mb_45 0 [some (.ref a), l1, l2, l3, l4] st M Q ↔ wp scr n mb_45 1 [some (.ref a), l1, l2, l3, l4] (.ref a :: st) M Q := wp_step rfl rfl rfl rfl rfl
theorem u45_0b : wp scr n mb_45 0 [some (.retAddr a), l1, l2, l3, l4] st M Q ↔ wp scr n mb_45 1 [some (.retAddr a), l1, l2, l3, l4] (.retAddr a :: st) M Q := wp_step rfl rfl rfl rfl rfl
theorem u45_1 : wp scr n mb_45 1 L (o :: st) M Q ↔ mw_o (mm_fld (mc_X scr) M o 2 1) (fun v => wp scr n mb_45 4 L (v :: st) M Q) := wp_getf rfl
theorem u45_4 : wp scr n mb_45 4 L (.int x :: st) M Q ↔ (if x = 0 then wp scr n mb_45 7 L st M Q else wp scr n mb_45 9 L st M Q) := (wp_step rfl rfl rfl rfl rfl).trans wp_iten
theorem u45_7 : wp scr n mb_45 7 L st M Q ↔ wp scr n mb_45 8 L (.int 0 :: st) M Q := wp_step rfl rfl rfl rfl rfl
theorem u45_8 : wp scr n mb_45 8 L [.int x] M Q ↔ Q (some (.int x)) M := wp_ret rfl rfl
theorem u45_9 : wp scr n mb_45 9 L st M Q ↔ wp scr n mb_45 10 L (.int 0 :: st) M Q := wp_step rfl rfl rfl rfl rfl
theorem u45_10 : wp scr n mb_45 10 [l0, l1, l2, l3, l4] (.int x :: st) M Q ↔ wp scr n mb_45 11 (mm_sto1 [l0, l1, l2, l3, l4] 1 (.int x)) st M Q := wp_step rfl rfl rfl rfl rfl
theorem u45_11 : wp scr n mb_45 11 [l0, some (.int x), l2, l3, l4] st M Q ↔ wp scr n mb_45 12 [l0, some (.int x), l2, l3, l4] (.int x :: st) M Q := wp_step rfl rfl rfl rfl rfl
theorem u45_12 : wp scr n mb_45 12 [some (.ref a), l1, l2, l3, l4] st M Q ↔ wp scr n mb_45 13 [some (.ref a), l1, l2, l3, l4] (.ref a :: st) M Q := wp_step rfl rfl rfl rfl rfl
theorem u45_12b : wp scr n mb_45 12 [some (.retAddr a), l1, l2, l3, l4] st M Q ↔ wp scr n mb_45 13 [some (.retAddr a), l1, l2, l3, l4] (.retAddr a :: st) M Q := wp_step rfl rfl rfl rfl rfl
theorem u45_13 : wp scr n mb_45 13 L (o :: st) M Q ↔ mw_o (mm_fld (mc_X scr) M o 2 1) (fun v => wp scr n mb_45 16 L (v :: st) M Q) := wp_getf rfl
theorem u45_16 : wp scr n mb_45 16 L (.int y :: .int x :: st) M Q ↔ (if y ≤ x then wp scr n mb_45 110 L st M Q else wp scr n mb_45 19 L st M Q) := (wp_step rfl rfl rfl rfl rfl).trans wp_ite
theorem u45_19 : wp scr n mb_45 19 [some (.ref a), l1, l2, l3, l4] st M Q ↔ wp scr n mb_45 20 [some (.ref a), l1, l2, l3, l4] (.ref a :: st) M Q := wp_step rfl rfl rfl rfl rfl
theorem u45_19b : wp scr n mb_45 19 [some (.retAddr a), l1, l2, l3, l4] st M Q ↔ wp scr n mb_45 20 [some (.retAddr a), l1, l2, l3, l4] (.retAddr a :: st) M Q := wp_step rfl rfl rfl rfl rfl
theorem u45_20 : wp scr n mb_45 20 [l0, some (.int x), l2, l3, l4] st M Q ↔ wp scr n mb_45 21 [l0, some (.int x), l2, l3, l4] (.int x :: st) M Q := wp_step rfl rfl rfl rfl rfl
theorem u45_21 : wp scr n mb_45 21 L (a2 :: .ref a :: st) M Q ↔ ((mw_r M a 2 ∧ mw_st st) ∧ Wp scr n 46 [.ref a, a2] M (fun r1 M1 => wp scr n mb_45 24 L (r1.toList ++ st) M1 Q)) := wp_vir rfl rfl rfl rfl rfl
theorem u45_24 : wp scr n mb_45 24 L (a1 :: st) M Q ↔ (mw_st st ∧ Wp scr n 47 [a1] M (fun r1 M1 => wp scr n mb_45 27 L (r1.toList ++ st) M1 Q)) := wp_sta rfl rfl rfl rfl
theorem u45_27 : wp scr n mb_45 27 [l0, l1, l2, l3, l4] (.ref a :: st) M Q ↔ wp scr n mb_45 28 (mm_sto1 [l0, l1, l2, l3, l4] 2 (.ref a)) st M Q := wp_step rfl rfl rfl rfl rfl
theorem u45_27b : wp scr n mb_45 27 [l0, l1, l2, l3, l4] (.retAddr a :: st) M Q ↔ wp scr n mb_45 28 (mm_sto1 [l0, l1, l2, l3, l4] 2 (.retAddr a)) st M Q := wp_step rfl rfl rfl rfl rfl
theorem u45_28 : wp scr n mb_45 28 [l0, l1, some (.ref a), l3, l4] st M Q ↔ wp scr n mb_45 29 [l0, l1, some (.ref a), l3, l4] (.ref a :: st) M Q := wp_step rfl rfl rfl rfl rfl
theorem u45_28b : wp scr n mb_45 28 [l0, l1, some (.retAddr a), l3, l4] st M Q ↔ wp scr n mb_45 29 [l0, l1, some (.retAddr a), l3, l4] (.retAddr a :: st) M Q := wp_step rfl rfl rfl rfl rfl
theorem u45_29 : wp scr n mb_45 29 L (.retAddr a :: st) M Q ↔ ((mw_x scr a ∧ mw_st st) ∧ Wp scr n 1 [.retAddr a] M (fun r1 M1 => wp scr n mb_45 32 L (r1.toList ++ st) M1 Q)) := wp_virX rfl rfl rfl rfl
theorem u45_32 : wp scr n mb_45 32 L (.int x :: st) M Q ↔ (if x = 0 then wp scr n mb_45 37 L st M Q else wp scr n mb_45 35 L st M Q) := (wp_step rfl rfl rfl rfl rfl).trans wp_ite
theorem u45_35 : wp scr n mb_45 35 [l0, some (.int x), l2, l3, l4] st M Q ↔ wp scr n mb_45 36 [l0, some (.int x), l2, l3, l4] (.int x :: st) M Q := wp_step rfl rfl rfl rfl rfl
theorem u45_36 : wp scr n mb_45 36 L [.int x] M Q ↔ Q (some (.int x)) M := wp_ret rfl rfl
theorem u45_37 : wp scr n mb_45 37 L st M Q ↔ wp scr n mb_45 38 L (.int 0 :: st) M Q := wp_step rfl rfl rfl rfl rfl
theorem u45_38 : wp scr n mb_45 38 [l0, l1, l2, l3, l4] (.int x :: st) M Q ↔ wp scr n mb_45 39 (mm_sto1 [l0, l1, l2, l3, l4] 3 (.int x)) st M Q := wp_step rfl rfl rfl rfl rfl
theorem u45_39 : wp scr n mb_45 39 [l0, l1, l2, some (.int x), l4] st M Q ↔ wp scr n mb_45 40 [l0, l1, l2, some (.int x), l4] (.int x :: st) M Q := wp_step rfl rfl rfl rfl rfl
theorem u45_40 : wp scr n mb_45 40 [l0, l1, some (.ref a), l3, l4] st M Q ↔ wp scr n mb_45 41 [l0, l1, some (.ref a), l3, l4] (.ref a :: st) M Q := wp_step rfl rfl rfl rfl rfl
theorem u45_40b : wp scr n mb_45 40 [l0, l1, some (.retAddr a), l3, l4] st M Q ↔ wp scr n mb_45 41 [l0, l1, some (.retAddr a), l3, l4] (.retAddr a :: st) M Q := wp_step rfl rfl rfl rfl rfl
theorem u45_41 : wp scr n mb_45 41 L (.retAddr a :: st) M Q ↔ ((mw_x scr a ∧ mw_st st) ∧ Wp scr n 2 [.retAddr a] M (fun r1 M1 => wp scr n mb_45 44 L (r1.toList ++ st) M1 Q)) := wp_virX rfl rfl rfl rfl
theorem u45_44 : wp scr n mb_45 44 L (.int y :: .int x :: st) M Q ↔ (if y ≤ x then wp scr n mb_45 97 L st M Q else wp scr n mb_45 47 L st M Q) := (wp_step rfl rfl rfl rfl rfl).trans wp_ite
theorem u45_47 : wp scr n mb_45 47 [l0, some (.int x), l2, l3, l4] st M Q ↔ wp scr n mb_45 48 [l0, some (.int x), l2, l3, l4] (.int x :: st) M Q := wp_step rfl rfl rfl rfl rfl
theorem u45_48 : wp scr n mb_45 48 L st M Q ↔ wp scr n mb_45 49 L (.int 1 :: st) M Q := wp_step rfl rfl rfl rfl rfl
theorem u45_49 : wp scr n mb_45 49 L (.int y :: .int x :: st) M Q ↔ wp scr n mb_45 50 L (.int (x + y) :: st) M Q := wp_step rfl rfl rfl rfl rfl
theorem u45_50 : wp scr n mb_45 50 [l0, l1, l2, some (.int x), l4] st M Q ↔ wp scr n mb_45 51 [l0, l1, l2, some (.int x), l4] (.int x :: st) M Q := wp_step rfl rfl rfl rfl rfl
theorem u45_51 : wp scr n mb_45 51 L (.int y :: .int x :: st) M Q ↔ wp scr n mb_45 52 L (.int (x + y) :: st) M Q := wp_step rfl rfl rfl rfl rfl
theorem u45_52 : wp scr n mb_45 52 [l0, l1, l2, l3, l4] (.int x :: st) M Q ↔ wp scr n mb_45 54 (mm_sto1 [l0, l1, l2, l3, l4] 4 (.int x)) st M Q := wp_step rfl rfl rfl rfl rfl
theorem u45_54 : wp scr n mb_45 54 [l0, l1, l2, l3, some (.int x)] st M Q ↔ wp scr n mb_45 56 [l0, l1, l2, l3, some (.int x)] (.int x :: st) M Q := wp_step rfl rfl rfl rfl rfl
theorem u45_56 : wp scr n mb_45 56 [some (.ref a), l1, l2, l3, l4] st M Q ↔ wp scr n mb_45 57 [some (.ref a), l1, l2, l3, l4] (.ref a :: st) M Q := wp_step rfl rfl rfl rfl rfl
theorem u45_56b : wp scr n mb_45 56 [some (.retAddr a), l1, l2, l3, l4] st M Q ↔ wp scr n mb_45 57 [some (.retAddr a), l1, l2, l3, l4] (.retAddr a :: st) M Q := wp_step rfl rfl rfl rfl rfl
theorem u45_57 : wp scr n mb_45 57 L (o :: st) M Q ↔ mw_o (mm_fld (mc_X scr) M o 2 1) (fun v => wp scr n mb_45 60 L (v :: st) M Q) := wp_getf rfl
theorem u45_60 : wp scr n mb_45 60 L (.int y :: .int x :: st) M Q ↔ (if y ≤ x then wp scr n mb_45 81 L st M Q else wp scr n mb_45 63 L st M Q) := (wp_step rfl rfl rfl rfl rfl).trans wp_ite
theorem u45_63 : wp scr n mb_45 63 [some (.ref a), l1, l2, l3, l4] st M Q ↔ wp scr n mb_45 64 [some (.ref a), l1, l2, l3, l4] (.ref a :: st) M Q := wp_step rfl rfl rfl rfl rfl
theorem u45_63b : wp scr n mb_45 63 [some (.retAddr a), l1, l2, l3, l4] st M Q ↔ wp scr n mb_45 64 [some (.retAddr a), l1, l2, l3, l4] (.retAddr a :: st) M Q := wp_step rfl rfl rfl rfl rfl
theorem u45_64 : wp scr n mb_45 64 L (o :: st) M Q ↔ mw_o (mm_fld (mc_X scr) M o 2 0) (fun v => wp scr n mb_45 67 L (v :: st) M Q) := wp_getf rfl
theorem u45_67 : wp scr n mb_45 67 [l0, l1, l2, l3, some (.int x)] st M Q ↔ wp scr n mb_45 69 [l0, l1, l2, l3, some (.int x)] (.int x :: st) M Q := wp_step rfl rfl rfl rfl rfl
theorem u45_69 : wp scr n mb_45 69 L (.int y :: o :: st) M Q ↔ mw_o (mm_ld (mc_X scr) M o y) (fun x => wp scr n mb_45 70 L (.int x :: st) M Q) := wp_iald rfl
theorem u45_70 : wp scr n mb_45 70 [l0, l1, some (.ref a), l3, l4] st M Q ↔ wp scr n mb_45 71 [l0, l1, some (.ref a), l3, l4] (.ref a :: st) M Q := wp_step rfl rfl rfl rfl rfl
theorem u45_70b : wp scr n mb_45 70 [l0, l1, some (.retAddr a), l3, l4] st M Q ↔ wp scr n mb_45 71 [l0, l1, some (.retAddr a), l3, l4] (.retAddr a :: st) M Q := wp_step rfl rfl rfl rfl rfl
theorem u45_71 : wp scr n mb_45 71 [l0, l1, l2, some (.int x), l4] st M Q ↔ wp scr n mb_45 72 [l0, l1, l2, some (.int x), l4] (.int x :: st) M Q := wp_step rfl rfl rfl rfl rfl
theorem u45_72 : wp scr n mb_45 72 L (a2 :: .retAddr a :: st) M Q ↔ ((mw_x scr a ∧ mw_st st) ∧ Wp scr n 4 [.retAddr a, a2] M (fun r1 M1 => wp scr n mb_45 75 L (r1.toList ++ st) M1 Q)) := wp_virX rfl rfl rfl rfl
theorem u45_75 : wp scr n mb_45 75 L (a2 :: a1 :: st) M Q ↔ (mw_st st ∧ Wp scr n 48 [a1, a2] M (fun r1 M1 => wp scr n mb_45 78 L (r1.toList ++ st) M1 Q)) := wp_sta rfl rfl rfl rfl
theorem u45_78 : wp scr n mb_45 78 L (.int x :: st) M Q ↔ (if x = 0 then wp scr n mb_45 81 L st M Q else wp scr n mb_45 91 L st M Q) := (wp_step rfl rfl rfl rfl rfl).trans wp_iten
theorem u45_81 : wp scr n mb_45 81 [l0, l1, l2, l3, some (.int x)] st M Q ↔ wp scr n mb_45 83 [l0, l1, l2, l3, some (.int x)] (.int x :: st) M Q := wp_step rfl rfl rfl rfl rfl
theorem u45_83 : wp scr n mb_45 83 [some (.ref a), l1, l2, l3, l4] st M Q ↔ wp scr n mb_45 84 [some (.ref a), l1, l2, l3, l4] (.ref a :: st) M Q := wp_step rfl rfl rfl rfl rfl
theorem u45_83b : wp scr n mb_45 83 [some (.retAddr a), l1, l2, l3, l4] st M Q ↔ wp scr n mb_45 84 [some (.retAddr a), l1, l2, l3, l4] (.retAddr a :: st) M Q := wp_step rfl rfl rfl rfl rfl
theorem u45_84 : wp scr n mb_45 84 L (o :: st) M Q ↔ mw_o (mm_fld (mc_X scr) M o 2 1) (fun v => wp scr n mb_45 87 L (v :: st) M Q) := wp_getf rfl
theorem u45_87 : wp scr n mb_45 87 L (.int y :: .int x :: st) M Q ↔ (mw_st st ∧ wp scr n mb_45 90 L (.int (if y < x then y else x) :: st) M Q) := wp_math998 rfl
theorem u45_90 : wp scr n mb_45 90 L [.int x] M Q ↔ Q (some (.int x)) M := wp_ret rfl rfl
theorem u45_91 : wp scr n mb_45 91 [l0, l1, l2, some (.int x), l4] st M Q ↔ wp scr n mb_45 94 (mm_sto1 [l0, l1, l2, some (.int x), l4] 3 (.int (x + 1))) st M Q := wp_step rfl rfl rfl rfl rfl
theorem u45_94 : wp scr n mb_45 94 L st M Q ↔ wp scr n mb_45 39 L st M Q := wp_step rfl rfl rfl rfl rfl
theorem u45_97 : wp scr n mb_45 97 [l0, some (.int x), l2, l3, l4] st M Q ↔ wp scr n mb_45 98 [l0, some (.int x), l2, l3, l4] (.int x :: st) M Q := wp_step rfl rfl rfl rfl rfl
theorem u45_98 : wp scr n mb_45 98 L st M Q ↔ wp scr n mb_45 99 L (.int 1 :: st) M Q := wp_step rfl rfl rfl rfl rfl
theorem u45_99 : wp scr n mb_45 99 [some (.ref a), l1, l2, l3, l4] st M Q ↔ wp scr n mb_45 100 [some (.ref a), l1, l2, l3, l4] (.ref a :: st) M Q := wp_step rfl rfl rfl rfl rfl
theorem u45_99b : wp scr n mb_45 99 [some (.retAddr a), l1, l2, l3, l4] st M Q ↔ wp scr n mb_45 100 [some (.retAddr a), l1, l2, l3, l4] (.retAddr a :: st) M Q := wp_step rfl rfl rfl rfl rfl
theorem u45_100 : wp scr n mb_45 100 [l0, some (.int x), l2, l3, l4] st M Q ↔ wp scr n mb_45 101 [l0, some (.int x), l2, l3, l4] (.int x :: st) M Q := wp_step rfl rfl rfl rfl rfl
theorem u45_101 : wp scr n mb_45 101 L (a2 :: .ref a :: st) M Q ↔ ((mw_r M a 2 ∧ mw_st st) ∧ Wp scr n 49 [.ref a, a2] M (fun r1 M1 => wp scr n mb_45 104 L (r1.toList ++ st) M1 Q)) := wp_vir rfl rfl rfl rfl rfl
theorem u45_104 : wp scr n mb_45 104 L (.int y :: .int x :: st) M Q ↔ wp scr n mb_45 105 L (.int (x + y) :: st) M Q := wp_step rfl rfl rfl rfl rfl
theorem u45_105 : wp scr n mb_45 105 L (.int y :: .int x :: st) M Q ↔ wp scr n mb_45 106 L (.int (x + y) :: st) M Q := wp_step rfl rfl rfl rfl rfl
theorem u45_106 : wp scr n mb_45 106 [l0, l1, l2, l3, l4] (.int x :: st) M Q ↔ wp scr n mb_45 107 (mm_sto1 [l0, l1, l2, l3, l4] 1 (.int x)) st M Q := wp_step rfl rfl rfl rfl rfl
theorem u45_107 : wp scr n mb_45 107 L st M Q ↔ wp scr n mb_45 11 L st M Q := wp_step rfl rfl rfl rfl rfl
theorem u45_110 : wp scr n mb_45 110 L st M Q ↔ wp scr n mb_45 111 L (.int (-1) :: st) M Q := wp_step rfl rfl rfl rfl rfl
theorem u45_111 : wp scr n mb_45 111 L [.int x] M Q ↔ Q (some (.int x)) M := wp_ret rfl rfl
/-- SmallerInTheShop$Letters signAt (I)I -/
def mb_46 : mw_B := ((Option.some FieldType.int), mp_46)
theorem u46_0 : wp scr n mb_46 0 [l0, some (.int x)] st M Q ↔ wp scr n mb_46 1 [l0, some (.int x)] (.int x :: st) M Q := wp_step rfl rfl rfl rfl rfl
theorem u46_1 : wp scr n mb_46 1 L (.int x :: st) M Q ↔ (if x < 0 then wp scr n mb_46 21 L st M Q else wp scr n mb_46 4 L st M Q) := (wp_step rfl rfl rfl rfl rfl).trans wp_ite
theorem u46_4 : wp scr n mb_46 4 [l0, some (.int x)] st M Q ↔ wp scr n mb_46 5 [l0, some (.int x)] (.int x :: st) M Q := wp_step rfl rfl rfl rfl rfl
theorem u46_5 : wp scr n mb_46 5 [some (.ref a), l1] st M Q ↔ wp scr n mb_46 6 [some (.ref a), l1] (.ref a :: st) M Q := wp_step rfl rfl rfl rfl rfl
theorem u46_5b : wp scr n mb_46 5 [some (.retAddr a), l1] st M Q ↔ wp scr n mb_46 6 [some (.retAddr a), l1] (.retAddr a :: st) M Q := wp_step rfl rfl rfl rfl rfl
theorem u46_6 : wp scr n mb_46 6 L (o :: st) M Q ↔ mw_o (mm_fld (mc_X scr) M o 2 1) (fun v => wp scr n mb_46 9 L (v :: st) M Q) := wp_getf rfl
theorem u46_9 : wp scr n mb_46 9 L (.int y :: .int x :: st) M Q ↔ (if y ≤ x then wp scr n mb_46 21 L st M Q else wp scr n mb_46 12 L st M Q) := (wp_step rfl rfl rfl rfl rfl).trans wp_ite
theorem u46_12 : wp scr n mb_46 12 [some (.ref a), l1] st M Q ↔ wp scr n mb_46 13 [some (.ref a), l1] (.ref a :: st) M Q := wp_step rfl rfl rfl rfl rfl
theorem u46_12b : wp scr n mb_46 12 [some (.retAddr a), l1] st M Q ↔ wp scr n mb_46 13 [some (.retAddr a), l1] (.retAddr a :: st) M Q := wp_step rfl rfl rfl rfl rfl
theorem u46_13 : wp scr n mb_46 13 L (o :: st) M Q ↔ mw_o (mm_fld (mc_X scr) M o 2 0) (fun v => wp scr n mb_46 16 L (v :: st) M Q) := wp_getf rfl
theorem u46_16 : wp scr n mb_46 16 [l0, some (.int x)] st M Q ↔ wp scr n mb_46 17 [l0, some (.int x)] (.int x :: st) M Q := wp_step rfl rfl rfl rfl rfl
theorem u46_17 : wp scr n mb_46 17 L (.int y :: o :: st) M Q ↔ mw_o (mm_ld (mc_X scr) M o y) (fun x => wp scr n mb_46 18 L (.int x :: st) M Q) := wp_iald rfl
theorem u46_18 : wp scr n mb_46 18 L st M Q ↔ wp scr n mb_46 22 L st M Q := wp_step rfl rfl rfl rfl rfl
theorem u46_21 : wp scr n mb_46 21 L st M Q ↔ wp scr n mb_46 22 L (.int 0 :: st) M Q := wp_step rfl rfl rfl rfl rfl
theorem u46_22 : wp scr n mb_46 22 L [.int x] M Q ↔ Q (some (.int x)) M := wp_ret rfl rfl
/-- SmallerInTheShop$Letters shapeBehind (I)Ljava/lang/String; -/
def mb_47 : mw_B := ((Option.some (FieldType.object "java/lang/String")), mp_47)
theorem u47_0 : wp scr n mb_47 0 [some (.int x)] st M Q ↔ wp scr n mb_47 1 [some (.int x)] (.int x :: st) M Q := wp_step rfl rfl rfl rfl rfl
theorem u47_1 : wp scr n mb_47 1 L (.int x :: st) M Q ↔ wp scr n mb_47 (mw_sw x [(99, 64), (102, 58), (107, 52), (111, 61), (119, 55)] 67) L st M Q := wp_lookS (d := 66) (ps := #[(99, 63), (102, 57), (107, 51), (111, 60), (119, 54)]) rfl (by decide +kernel) (by decide +kernel)
theorem u47_52 : wp scr n mb_47 52 L st M Q ↔ wp scr n mb_47 54 L (.retAddr 31 :: st) M Q := wp_step rfl rfl rfl rfl rfl
theorem u47_54 : wp scr n mb_47 54 L [.retAddr a] M Q ↔ Q (some (.retAddr a)) M := wp_ret rfl rfl
theorem u47_55 : wp scr n mb_47 55 L st M Q ↔ wp scr n mb_47 57 L (.retAddr 32 :: st) M Q := wp_step rfl rfl rfl rfl rfl
theorem u47_57 : wp scr n mb_47 57 L [.retAddr a] M Q ↔ Q (some (.retAddr a)) M := wp_ret rfl rfl
theorem u47_58 : wp scr n mb_47 58 L st M Q ↔ wp scr n mb_47 60 L (.retAddr 33 :: st) M Q := wp_step rfl rfl rfl rfl rfl
theorem u47_60 : wp scr n mb_47 60 L [.retAddr a] M Q ↔ Q (some (.retAddr a)) M := wp_ret rfl rfl
theorem u47_61 : wp scr n mb_47 61 L st M Q ↔ wp scr n mb_47 63 L (.retAddr 34 :: st) M Q := wp_step rfl rfl rfl rfl rfl
theorem u47_63 : wp scr n mb_47 63 L [.retAddr a] M Q ↔ Q (some (.retAddr a)) M := wp_ret rfl rfl
theorem u47_64 : wp scr n mb_47 64 L st M Q ↔ wp scr n mb_47 66 L (.retAddr 35 :: st) M Q := wp_step rfl rfl rfl rfl rfl
theorem u47_66 : wp scr n mb_47 66 L [.retAddr a] M Q ↔ Q (some (.retAddr a)) M := wp_ret rfl rfl
theorem u47_67 : wp scr n mb_47 67 L st M Q ↔ wp scr n mb_47 69 L (.retAddr 36 :: st) M Q := wp_step rfl rfl rfl rfl rfl
theorem u47_69 : wp scr n mb_47 69 L [.retAddr a] M Q ↔ Q (some (.retAddr a)) M := wp_ret rfl rfl
/-- SmallerInTheShop$Letters fits (IC)Z -/
def mb_48 : mw_B := ((Option.some FieldType.boolean), mp_48)
theorem u48_0 : wp scr n mb_48 0 [l0, some (.int x)] st M Q ↔ wp scr n mb_48 1 [l0, some (.int x)] (.int x :: st) M Q := wp_step rfl rfl rfl rfl rfl
theorem u48_1 : wp scr n mb_48 1 L st M Q ↔ wp scr n mb_48 3 L (.int 48 :: st) M Q := wp_step rfl rfl rfl rfl rfl
theorem u48_3 : wp scr n mb_48 3 L (.int y :: .int x :: st) M Q ↔ (if x = y then wp scr n mb_48 6 L st M Q else wp scr n mb_48 24 L st M Q) := (wp_step rfl rfl rfl rfl rfl).trans wp_iten
theorem u48_6 : wp scr n mb_48 6 [some (.int x), l1] st M Q ↔ wp scr n mb_48 7 [some (.int x), l1] (.int x :: st) M Q := wp_step rfl rfl rfl rfl rfl
theorem u48_7 : wp scr n mb_48 7 L st M Q ↔ wp scr n mb_48 9 L (.int 48 :: st) M Q := wp_step rfl rfl rfl rfl rfl
theorem u48_9 : wp scr n mb_48 9 L (.int y :: .int x :: st) M Q ↔ (if x < y then wp scr n mb_48 22 L st M Q else wp scr n mb_48 12 L st M Q) := (wp_step rfl rfl rfl rfl rfl).trans wp_ite
theorem u48_12 : wp scr n mb_48 12 [some (.int x), l1] st M Q ↔ wp scr n mb_48 13 [some (.int x), l1] (.int x :: st) M Q := wp_step rfl rfl rfl rfl rfl
theorem u48_13 : wp scr n mb_48 13 L st M Q ↔ wp scr n mb_48 15 L (.int 57 :: st) M Q := wp_step rfl rfl rfl rfl rfl
theorem u48_15 : wp scr n mb_48 15 L (.int y :: .int x :: st) M Q ↔ (if y < x then wp scr n mb_48 22 L st M Q else wp scr n mb_48 18 L st M Q) := (wp_step rfl rfl rfl rfl rfl).trans wp_ite
theorem u48_18 : wp scr n mb_48 18 L st M Q ↔ wp scr n mb_48 19 L (.int 1 :: st) M Q := wp_step rfl rfl rfl rfl rfl
theorem u48_19 : wp scr n mb_48 19 L st M Q ↔ wp scr n mb_48 23 L st M Q := wp_step rfl rfl rfl rfl rfl
theorem u48_22 : wp scr n mb_48 22 L st M Q ↔ wp scr n mb_48 23 L (.int 0 :: st) M Q := wp_step rfl rfl rfl rfl rfl
theorem u48_23 : wp scr n mb_48 23 L [.int x] M Q ↔ ((x = 0 ∨ x = 1) ∧ Q (some (.int x)) M) := wp_retb rfl rfl
theorem u48_24 : wp scr n mb_48 24 [l0, some (.int x)] st M Q ↔ wp scr n mb_48 25 [l0, some (.int x)] (.int x :: st) M Q := wp_step rfl rfl rfl rfl rfl
theorem u48_25 : wp scr n mb_48 25 L st M Q ↔ wp scr n mb_48 27 L (.int 107 :: st) M Q := wp_step rfl rfl rfl rfl rfl
theorem u48_27 : wp scr n mb_48 27 L (.int y :: .int x :: st) M Q ↔ (if x = y then wp scr n mb_48 30 L st M Q else wp scr n mb_48 48 L st M Q) := (wp_step rfl rfl rfl rfl rfl).trans wp_iten
theorem u48_30 : wp scr n mb_48 30 L st M Q ↔ wp scr n mb_48 32 L (.retAddr 30 :: st) M Q := wp_step rfl rfl rfl rfl rfl
theorem u48_32 : wp scr n mb_48 32 [some (.int x), l1] st M Q ↔ wp scr n mb_48 33 [some (.int x), l1] (.int x :: st) M Q := wp_step rfl rfl rfl rfl rfl
theorem u48_33 : wp scr n mb_48 33 L (.int x :: st) M Q ↔ wp scr n mb_48 34 L (.int (x.toUInt32 % 65536).toInt32 :: st) M Q := wp_step rfl rfl rfl rfl rfl
theorem u48_34 : wp scr n mb_48 34 L (a2 :: .retAddr a :: st) M Q ↔ ((mw_x scr a ∧ mw_st st) ∧ Wp scr n 7 [.retAddr a, a2] M (fun r1 M1 => wp scr n mb_48 37 L (r1.toList ++ st) M1 Q)) := wp_virX rfl rfl rfl rfl
theorem u48_37 : wp scr n mb_48 37 L (.int x :: st) M Q ↔ (if x < 0 then wp scr n mb_48 44 L st M Q else wp scr n mb_48 40 L st M Q) := (wp_step rfl rfl rfl rfl rfl).trans wp_ite
theorem u48_40 : wp scr n mb_48 40 L st M Q ↔ wp scr n mb_48 41 L (.int 1 :: st) M Q := wp_step rfl rfl rfl rfl rfl
theorem u48_41 : wp scr n mb_48 41 L st M Q ↔ wp scr n mb_48 58 L st M Q := wp_step rfl rfl rfl rfl rfl
theorem u48_44 : wp scr n mb_48 44 L st M Q ↔ wp scr n mb_48 45 L (.int 0 :: st) M Q := wp_step rfl rfl rfl rfl rfl
theorem u48_45 : wp scr n mb_48 45 L st M Q ↔ wp scr n mb_48 58 L st M Q := wp_step rfl rfl rfl rfl rfl
theorem u48_48 : wp scr n mb_48 48 [some (.int x), l1] st M Q ↔ wp scr n mb_48 49 [some (.int x), l1] (.int x :: st) M Q := wp_step rfl rfl rfl rfl rfl
theorem u48_49 : wp scr n mb_48 49 [l0, some (.int x)] st M Q ↔ wp scr n mb_48 50 [l0, some (.int x)] (.int x :: st) M Q := wp_step rfl rfl rfl rfl rfl
theorem u48_50 : wp scr n mb_48 50 L (.int y :: .int x :: st) M Q ↔ (if x = y then wp scr n mb_48 53 L st M Q else wp scr n mb_48 57 L st M Q) := (wp_step rfl rfl rfl rfl rfl).trans wp_iten
theorem u48_53 : wp scr n mb_48 53 L st M Q ↔ wp scr n mb_48 54 L (.int 1 :: st) M Q := wp_step rfl rfl rfl rfl rfl
theorem u48_54 : wp scr n mb_48 54 L st M Q ↔ wp scr n mb_48 58 L st M Q := wp_step rfl rfl rfl rfl rfl
theorem u48_57 : wp scr n mb_48 57 L st M Q ↔ wp scr n mb_48 58 L (.int 0 :: st) M Q := wp_step rfl rfl rfl rfl rfl
theorem u48_58 : wp scr n mb_48 58 L [.int x] M Q ↔ ((x = 0 ∨ x = 1) ∧ Q (some (.int x)) M) := wp_retb rfl rfl
/-- SmallerInTheShop$Letters lengthBehind (I)I -/
def mb_49 : mw_B := ((Option.some FieldType.int), mp_49)
theorem u49_0 : wp scr n mb_49 0 [some (.ref a), l1] st M Q ↔ wp scr n mb_49 1 [some (.ref a), l1] (.ref a :: st) M Q := wp_step rfl rfl rfl rfl rfl
theorem u49_0b : wp scr n mb_49 0 [some (.retAddr a), l1] st M Q ↔ wp scr n mb_49 1 [some (.retAddr a), l1] (.retAddr a :: st) M Q := wp_step rfl rfl rfl rfl rfl
theorem u49_1 : wp scr n mb_49 1 [l0, some (.int x)] st M Q ↔ wp scr n mb_49 2 [l0, some (.int x)] (.int x :: st) M Q := wp_step rfl rfl rfl rfl rfl
theorem u49_2 : wp scr n mb_49 2 L (a2 :: .ref a :: st) M Q ↔ ((mw_r M a 2 ∧ mw_st st) ∧ Wp scr n 46 [.ref a, a2] M (fun r1 M1 => wp scr n mb_49 5 L (r1.toList ++ st) M1 Q)) := wp_vir rfl rfl rfl rfl rfl
theorem u49_5 : wp scr n mb_49 5 L (a1 :: st) M Q ↔ (mw_st st ∧ Wp scr n 47 [a1] M (fun r1 M1 => wp scr n mb_49 8 L (r1.toList ++ st) M1 Q)) := wp_sta rfl rfl rfl rfl
theorem u49_8 : wp scr n mb_49 8 L (.retAddr a :: st) M Q ↔ ((mw_x scr a ∧ mw_st st) ∧ Wp scr n 2 [.retAddr a] M (fun r1 M1 => wp scr n mb_49 11 L (r1.toList ++ st) M1 Q)) := wp_virX rfl rfl rfl rfl
theorem u49_11 : wp scr n mb_49 11 L [.int x] M Q ↔ Q (some (.int x)) M := wp_ret rfl rfl
/-- SmallerInTheShop$Letters digitAt (I)I -/
def mb_50 : mw_B := ((Option.some FieldType.int), mp_50)
theorem u50_0 : wp scr n mb_50 0 [some (.ref a), l1] st M Q ↔ wp scr n mb_50 1 [some (.ref a), l1] (.ref a :: st) M Q := wp_step rfl rfl rfl rfl rfl
theorem u50_0b : wp scr n mb_50 0 [some (.retAddr a), l1] st M Q ↔ wp scr n mb_50 1 [some (.retAddr a), l1] (.retAddr a :: st) M Q := wp_step rfl rfl rfl rfl rfl
theorem u50_1 : wp scr n mb_50 1 [l0, some (.int x)] st M Q ↔ wp scr n mb_50 2 [l0, some (.int x)] (.int x :: st) M Q := wp_step rfl rfl rfl rfl rfl
theorem u50_2 : wp scr n mb_50 2 L (a2 :: .ref a :: st) M Q ↔ ((mw_r M a 2 ∧ mw_st st) ∧ Wp scr n 46 [.ref a, a2] M (fun r1 M1 => wp scr n mb_50 5 L (r1.toList ++ st) M1 Q)) := wp_vir rfl rfl rfl rfl rfl
theorem u50_5 : wp scr n mb_50 5 L st M Q ↔ wp scr n mb_50 7 L (.int 48 :: st) M Q := wp_step rfl rfl rfl rfl rfl
theorem u50_7 : wp scr n mb_50 7 L (.int y :: .int x :: st) M Q ↔ wp scr n mb_50 8 L (.int (x - y) :: st) M Q := wp_step rfl rfl rfl rfl rfl
theorem u50_8 : wp scr n mb_50 8 L [.int x] M Q ↔ Q (some (.int x)) M := wp_ret rfl rfl
/-- SmallerInTheShop$Letters kindAt (I)I -/
def mb_51 : mw_B := ((Option.some FieldType.int), mp_51)
theorem u51_0 : wp scr n mb_51 0 L st M Q ↔ wp scr n mb_51 2 L (.retAddr 30 :: st) M Q := wp_step rfl rfl rfl rfl rfl
theorem u51_2 : wp scr n mb_51 2 [some (.ref a), l1] st M Q ↔ wp scr n mb_51 3 [some (.ref a), l1] (.ref a :: st) M Q := wp_step rfl rfl rfl rfl rfl
theorem u51_2b : wp scr n mb_51 2 [some (.retAddr a), l1] st M Q ↔ wp scr n mb_51 3 [some (.retAddr a), l1] (.retAddr a :: st) M Q := wp_step rfl rfl rfl rfl rfl
theorem u51_3 : wp scr n mb_51 3 [l0, some (.int x)] st M Q ↔ wp scr n mb_51 4 [l0, some (.int x)] (.int x :: st) M Q := wp_step rfl rfl rfl rfl rfl
theorem u51_4 : wp scr n mb_51 4 L (a2 :: .ref a :: st) M Q ↔ ((mw_r M a 2 ∧ mw_st st) ∧ Wp scr n 46 [.ref a, a2] M (fun r1 M1 => wp scr n mb_51 7 L (r1.toList ++ st) M1 Q)) := wp_vir rfl rfl rfl rfl rfl
theorem u51_7 : wp scr n mb_51 7 L (.int x :: st) M Q ↔ wp scr n mb_51 8 L (.int (x.toUInt32 % 65536).toInt32 :: st) M Q := wp_step rfl rfl rfl rfl rfl
theorem u51_8 : wp scr n mb_51 8 L (a2 :: .retAddr a :: st) M Q ↔ ((mw_x scr a ∧ mw_st st) ∧ Wp scr n 7 [.retAddr a, a2] M (fun r1 M1 => wp scr n mb_51 11 L (r1.toList ++ st) M1 Q)) := wp_virX rfl rfl rfl rfl
theorem u51_11 : wp scr n mb_51 11 L [.int x] M Q ↔ Q (some (.int x)) M := wp_ret rfl rfl
/-- SmallerInTheShop$Letters forget ()V -/
def mb_52 : mw_B := ((Option.none : Option FieldType), mp_52)
theorem u52_0 : wp scr n mb_52 0 [some (.ref a)] st M Q ↔ wp scr n mb_52 1 [some (.ref a)] (.ref a :: st) M Q := wp_step rfl rfl rfl rfl rfl
theorem u52_0b : wp scr n mb_52 0 [some (.retAddr a)] st M Q ↔ wp scr n mb_52 1 [some (.retAddr a)] (.retAddr a :: st) M Q := wp_step rfl rfl rfl rfl rfl
theorem u52_1 : wp scr n mb_52 1 L st M Q ↔ wp scr n mb_52 2 L (.int 0 :: st) M Q := wp_step rfl rfl rfl rfl rfl
theorem u52_2 : wp scr n mb_52 2 L (v :: o :: st) M Q ↔ mw_o (mm_put mc_fty M o v 2 1) (fun M1 => wp scr n mb_52 5 L st M1 Q) := wp_putf rfl
theorem u52_5 : wp scr n mb_52 5 L [] M Q ↔ Q none M := wp_ret rfl rfl
/-- SmallerInTheShop$Search begin (I)V -/
def mb_54 : mw_B := ((Option.none : Option FieldType), mp_54)
theorem u54_0 : wp scr n mb_54 0 [some (.ref a), l1, l2] st M Q ↔ wp scr n mb_54 1 [some (.ref a), l1, l2] (.ref a :: st) M Q := wp_step rfl rfl rfl rfl rfl
theorem u54_1 : wp scr n mb_54 1 [l0, some (.int x), l2] st M Q ↔ wp scr n mb_54 2 [l0, some (.int x), l2] (.int x :: st) M Q := wp_step rfl rfl rfl rfl rfl
theorem u54_2 : wp scr n mb_54 2 L (v :: o :: st) M Q ↔ mw_o (mm_put mc_fty M o v 3 2) (fun M1 => wp scr n mb_54 5 L st M1 Q) := wp_putf rfl
theorem u54_5 : wp scr n mb_54 5 [some (.ref a), l1, l2] st M Q ↔ wp scr n mb_54 6 [some (.ref a), l1, l2] (.ref a :: st) M Q := wp_step rfl rfl rfl rfl rfl
theorem u54_6 : wp scr n mb_54 6 L st M Q ↔ wp scr n mb_54 7 L (.int 1 :: st) M Q := wp_step rfl rfl rfl rfl rfl
theorem u54_7 : wp scr n mb_54 7 L (v :: o :: st) M Q ↔ mw_o (mm_put mc_fty M o v 3 3) (fun M1 => wp scr n mb_54 10 L st M1 Q) := wp_putf rfl
theorem u54_10 : wp scr n mb_54 10 [some (.ref a), l1, l2] st M Q ↔ wp scr n mb_54 11 [some (.ref a), l1, l2] (.ref a :: st) M Q := wp_step rfl rfl rfl rfl rfl
theorem u54_11 : wp scr n mb_54 11 L st M Q ↔ wp scr n mb_54 12 L (.int 0 :: st) M Q := wp_step rfl rfl rfl rfl rfl
theorem u54_12 : wp scr n mb_54 12 L (v :: o :: st) M Q ↔ mw_o (mm_put mc_fty M o v 3 4) (fun M1 => wp scr n mb_54 15 L st M1 Q) := wp_putf rfl
theorem u54_15 : wp scr n mb_54 15 [some (.ref a), l1, l2] st M Q ↔ wp scr n mb_54 16 [some (.ref a), l1, l2] (.ref a :: st) M Q := wp_step rfl rfl rfl rfl rfl
theorem u54_16 : wp scr n mb_54 16 L st M Q ↔ wp scr n mb_54 17 L (.int 0 :: st) M Q := wp_step rfl rfl rfl rfl rfl
theorem u54_17 : wp scr n mb_54 17 L (v :: o :: st) M Q ↔ mw_o (mm_put mc_fty M o v 3 5) (fun M1 => wp scr n mb_54 20 L st M1 Q) := wp_putf rfl
theorem u54_20 : wp scr n mb_54 20 [some (.ref a), l1, l2] st M Q ↔ wp scr n mb_54 21 [some (.ref a), l1, l2] (.ref a :: st) M Q := wp_step rfl rfl rfl rfl rfl
theorem u54_21 : wp scr n mb_54 21 L st M Q ↔ wp scr n mb_54 22 L (.int 0 :: st) M Q := wp_step rfl rfl rfl rfl rfl
theorem u54_22 : wp scr n mb_54 22 L (v :: o :: st) M Q ↔ mw_o (mm_put mc_fty M o v 3 6) (fun M1 => wp scr n mb_54 25 L st M1 Q) := wp_putf rfl
theorem u54_25 : wp scr n mb_54 25 [some (.ref a), l1, l2] st M Q ↔ wp scr n mb_54 26 [some (.ref a), l1, l2] (.ref a :: st) M Q := wp_step rfl rfl rfl rfl rfl
theorem u54_26 : wp scr n mb_54 26 L st M Q ↔ wp scr n mb_54 27 L (.int 0 :: st) M Q := wp_step rfl rfl rfl rfl rfl
theorem u54_27 : wp scr n mb_54 27 L (v :: o :: st) M Q ↔ mw_o (mm_put mc_fty M o v 3 7) (fun M1 => wp scr n mb_54 30 L st M1 Q) := wp_putf rfl
theorem u54_30 : wp scr n mb_54 30 L st M Q ↔ wp scr n mb_54 31 L (.int 0 :: st) M Q := wp_step rfl rfl rfl rfl rfl
theorem u54_31 : wp scr n mb_54 31 [l0, l1, l2] (.int x :: st) M Q ↔ wp scr n mb_54 32 (mm_sto1 [l0, l1, l2] 2 (.int x)) st M Q := wp_step rfl rfl rfl rfl rfl
theorem u54_32 : wp scr n mb_54 32 [l0, l1, some (.int x)] st M Q ↔ wp scr n mb_54 33 [l0, l1, some (.int x)] (.int x :: st) M Q := wp_step rfl rfl rfl rfl rfl
theorem u54_33 : wp scr n mb_54 33 L st M Q ↔ wp scr n mb_54 34 L (.int 4 :: st) M Q := wp_step rfl rfl rfl rfl rfl
theorem u54_34 : wp scr n mb_54 34 L (.int y :: .int x :: st) M Q ↔ (if y < x then wp scr n mb_54 50 L st M Q else wp scr n mb_54 37 L st M Q) := (wp_step rfl rfl rfl rfl rfl).trans wp_ite
theorem u54_37 : wp scr n mb_54 37 [some (.ref a), l1, l2] st M Q ↔ wp scr n mb_54 38 [some (.ref a), l1, l2] (.ref a :: st) M Q := wp_step rfl rfl rfl rfl rfl
theorem u54_38 : wp scr n mb_54 38 L (o :: st) M Q ↔ mw_o (mm_fld (mc_X scr) M o 3 1) (fun v => wp scr n mb_54 41 L (v :: st) M Q) := wp_getf rfl
theorem u54_41 : wp scr n mb_54 41 [l0, l1, some (.int x)] st M Q ↔ wp scr n mb_54 42 [l0, l1, some (.int x)] (.int x :: st) M Q := wp_step rfl rfl rfl rfl rfl
theorem u54_42 : wp scr n mb_54 42 L st M Q ↔ wp scr n mb_54 43 L (.int 0 :: st) M Q := wp_step rfl rfl rfl rfl rfl
theorem u54_43 : wp scr n mb_54 43 L (.int x :: .int y :: o :: st) M Q ↔ mw_o (mm_sti M o y x) (fun M1 => wp scr n mb_54 44 L st M1 Q) := wp_iast rfl
theorem u54_44 : wp scr n mb_54 44 [l0, l1, some (.int x)] st M Q ↔ wp scr n mb_54 47 (mm_sto1 [l0, l1, some (.int x)] 2 (.int (x + 1))) st M Q := wp_step rfl rfl rfl rfl rfl
theorem u54_47 : wp scr n mb_54 47 L st M Q ↔ wp scr n mb_54 32 L st M Q := wp_step rfl rfl rfl rfl rfl
theorem u54_50 : wp scr n mb_54 50 L [] M Q ↔ Q none M := wp_ret rfl rfl
end MU
end
