section
/-! A small machine over flat memory: cells are rows of ints, rows of references, or objects; a reference is a cell's number; what lies outside (the script, static rows, String constants) is a number too, written .retAddr n. -/
abbrev mm_C : Type := List Int32 ⊕ ((Nat × List (Option Nat)) ⊕ (Nat × List Value))
abbrev mm_M : Type := List mm_C
/-- instruction, its length, three payloads: two numbers and a value; the places of its words -/
abbrev mm_I : Type := Instr × Nat × Nat × Nat × Value × List Nat
abbrev mm_L : Type := List (Option Value)
abbrev mm_S : Type := Nat × mm_L × List Value × mm_M
/-- outside: rows of ints or bytes, and objects' fields -/
abbrev mm_X : Type := Nat → Option (List Int32 ⊕ List Value)
def mm_size (c : mm_C) : Nat := match c with
  | .inl xs => xs.length
  | .inr (.inl (_, rs)) => rs.length
  | .inr (.inr (_, fs)) => fs.length
def mm_sl (M : mm_M) : Nat := (M.map mm_size).sum
def mm_isL (o : Option (Option Value)) : Bool := match o with
  | some (some (.long _)) => true
  | some (some (.double _)) => true
  | _ => false
def mm_clr (L : mm_L) (i : Nat) : mm_L := match i with
  | 0 => L
  | j + 1 => if mm_isL L[j]? then L.set j none else L
def mm_sto1 (L : mm_L) (i : Nat) (v : Value) : mm_L := (mm_clr L i).set i (some v)
def mm_sto2 (L : mm_L) (i : Nat) (v : Value) : mm_L := ((mm_clr L i).set i (some v)).set (i + 1) none
def mm_at (xs : List Int32) (i : Int32) : Option Int32 := if i < 0 then none else xs[i.toNatClampNeg]?
def mm_atq (rs : List (Option Nat)) (i : Int32) : Option (Option Nat) := if i < 0 then none else rs[i.toNatClampNeg]?
def mm_row (X : mm_X) (M : mm_M) (v : Value) : Option (List Int32) := match v with
  | .ref k => (match M[k]? with | some (.inl xs) => some xs | _ => none)
  | .retAddr n => if n < 50 then (match X n with | some (.inl xs) => some xs | _ => none) else none
  | _ => none
def mm_fld (X : mm_X) (M : mm_M) (v : Value) (ci k : Nat) : Option Value := match v with
  | .ref a => (match M[a]? with | some (.inr (.inr (c, fs))) => if c = ci then fs[k]? else none | _ => none)
  | .retAddr n => (match X n with | some (.inr fs) => if ci = 99 then fs[k]? else none | _ => none)
  | _ => none
/-- a value that a field of this type takes as it is -/
def mm_okf (ty : FieldType) (v : Value) : Bool := match ty, v with
  | .int, .int _ => true
  | .boolean, .int x => x == 0 || x == 1
  | .object _, .ref _ => true
  | .object _, .retAddr _ => true
  | .array _, .ref _ => true
  | _, _ => false
def mm_put (fty : Nat → Nat → FieldType) (M : mm_M) (o : Value) (v : Value) (ci k : Nat) : Option mm_M := match o with
  | .ref a => (match M[a]? with | some (.inr (.inr (c, fs))) => if c = ci ∧ k < fs.length ∧ mm_okf (fty ci k) v = true then some (M.set a (.inr (.inr (c, fs.set k v)))) else none | _ => none)
  | _ => none
def mm_sti (M : mm_M) (o : Value) (i x : Int32) : Option mm_M := match o with
  | .ref a => (match M[a]? with | some (.inl xs) => if i < 0 then none else if i.toNatClampNeg < xs.length then some (M.set a (.inl (xs.set i.toNatClampNeg x))) else none | _ => none)
  | _ => none
def mm_rf (r : Option Nat) : Value := match r with
  | some k => .ref k
  | none => .null
/-- one instruction that is neither a call nor a return nor a making -/
def mm_step (fty : Nat → Nat → FieldType) (X : mm_X) (i : mm_I) (pc : Nat) (L : mm_L) (st : List Value) (M : mm_M) : Option mm_S :=
  match i with
  | (.iconst n, _) => some (pc + 1, L, .int (Int32.ofInt n) :: st, M)
  | (.bipush n, _) => some (pc + 2, L, .int (Int8.ofInt n).toInt32 :: st, M)
  | (.sipush n, _) => some (pc + 3, L, .int (Int16.ofInt n).toInt32 :: st, M)
  | (.lconst n, _) => some (pc + 1, L, .long (Int64.ofNat n) :: st, M)
  | (.ldc _, _, _, _, v, _) => some (pc + 2, L, v :: st, M)
  | (.ldc_w _, _, _, _, v, _) => some (pc + 3, L, v :: st, M)
  | (.ldc2_w _, _, _, _, v, _) => some (pc + 3, L, v :: st, M)
  | (.getstatic _, _, _, _, v, _) => some (pc + 3, L, v :: st, M)
  | (.iload k, _) => (match L[k]? with | some (some (.int x)) => some (pc + 2, L, .int x :: st, M) | _ => none)
  | (.iload_n k, _) => (match L[(k : Nat)]? with | some (some (.int x)) => some (pc + 1, L, .int x :: st, M) | _ => none)
  | (.lload k, _) => (match L[k]? with | some (some (.long x)) => some (pc + 2, L, .long x :: st, M) | _ => none)
  | (.lload_n k, _) => (match L[(k : Nat)]? with | some (some (.long x)) => some (pc + 1, L, .long x :: st, M) | _ => none)
  | (.aload k, _) => (match L[k]? with | some (some (.ref x)) => some (pc + 2, L, .ref x :: st, M) | some (some (.retAddr x)) => some (pc + 2, L, .retAddr x :: st, M) | _ => none)
  | (.aload_n k, _) => (match L[(k : Nat)]? with | some (some (.ref x)) => some (pc + 1, L, .ref x :: st, M) | some (some (.retAddr x)) => some (pc + 1, L, .retAddr x :: st, M) | _ => none)
  | (.istore k, _) => (match st with | .int x :: st => if k < L.length then some (pc + 2, mm_sto1 L k (.int x), st, M) else none | _ => none)
  | (.istore_n k, _) => (match st with | .int x :: st => if (k : Nat) < L.length then some (pc + 1, mm_sto1 L k (.int x), st, M) else none | _ => none)
  | (.lstore k, _) => (match st with | .long x :: st => if k + 1 < L.length then some (pc + 2, mm_sto2 L k (.long x), st, M) else none | _ => none)
  | (.lstore_n k, _) => (match st with | .long x :: st => if (k : Nat) + 1 < L.length then some (pc + 1, mm_sto2 L k (.long x), st, M) else none | _ => none)
  | (.astore k, _) => (match st with | .ref x :: st => if k < L.length then some (pc + 2, mm_sto1 L k (.ref x), st, M) else none | .retAddr x :: st => if k < L.length then some (pc + 2, mm_sto1 L k (.retAddr x), st, M) else none | _ => none)
  | (.astore_n k, _) => (match st with | .ref x :: st => if (k : Nat) < L.length then some (pc + 1, mm_sto1 L k (.ref x), st, M) else none | .retAddr x :: st => if (k : Nat) < L.length then some (pc + 1, mm_sto1 L k (.retAddr x), st, M) else none | _ => none)
  | (.iinc k n, _) => (match L[k]? with | some (some (.int x)) => if k < L.length then some (pc + 3, mm_sto1 L k (.int (x + Int32.ofInt n)), st, M) else none | _ => none)
  | (.iadd, _) => (match st with | .int y :: .int x :: st => some (pc + 1, L, .int (x + y) :: st, M) | _ => none)
  | (.isub, _) => (match st with | .int y :: .int x :: st => some (pc + 1, L, .int (x - y) :: st, M) | _ => none)
  | (.imul, _) => (match st with | .int y :: .int x :: st => some (pc + 1, L, .int (x * y) :: st, M) | _ => none)
  | (.iand, _) => (match st with | .int y :: .int x :: st => some (pc + 1, L, .int (x &&& y) :: st, M) | _ => none)
  | (.ior, _) => (match st with | .int y :: .int x :: st => some (pc + 1, L, .int (x ||| y) :: st, M) | _ => none)
  | (.ixor, _) => (match st with | .int y :: .int x :: st => some (pc + 1, L, .int (x ^^^ y) :: st, M) | _ => none)
  | (.ishl, _) => (match st with | .int y :: .int x :: st => some (pc + 1, L, .int (x <<< (y &&& 31)) :: st, M) | _ => none)
  | (.ishr, _) => (match st with | .int y :: .int x :: st => some (pc + 1, L, .int (x >>> (y &&& 31)) :: st, M) | _ => none)
  | (.idiv, _) => (match st with | .int y :: .int x :: st => if y = 0 then none else some (pc + 1, L, .int (x / y) :: st, M) | _ => none)
  | (.irem, _) => (match st with | .int y :: .int x :: st => if y = 0 then none else some (pc + 1, L, .int (x - x / y * y) :: st, M) | _ => none)
  | (.ineg, _) => (match st with | .int x :: st => some (pc + 1, L, .int (-x) :: st, M) | _ => none)
  | (.iushr, _) => (match st with | .int y :: .int x :: st => some (pc + 1, L, .int (x.toUInt32 >>> (y.toUInt32 &&& Int32.toUInt32 31)).toInt32 :: st, M) | _ => none)
  | (.i2b, _) => (match st with | .int x :: st => some (pc + 1, L, .int x.toInt8.toInt32 :: st, M) | _ => none)
  | (.i2l, _) => (match st with | .int x :: st => some (pc + 1, L, .long x.toInt64 :: st, M) | _ => none)
  | (.i2c, _) => (match st with | .int x :: st => some (pc + 1, L, .int (x.toUInt32 % 65536).toInt32 :: st, M) | _ => none)
  | (.ladd, _) => (match st with | .long y :: .long x :: st => some (pc + 1, L, .long (x + y) :: st, M) | _ => none)
  | (.lsub, _) => (match st with | .long y :: .long x :: st => some (pc + 1, L, .long (x - y) :: st, M) | _ => none)
  | (.lmul, _) => (match st with | .long y :: .long x :: st => some (pc + 1, L, .long (x * y) :: st, M) | _ => none)
  | (.ldiv, _) => (match st with | .long y :: .long x :: st => if y = 0 then none else some (pc + 1, L, .long (x / y) :: st, M) | _ => none)
  | (.lrem, _) => (match st with | .long y :: .long x :: st => if y = 0 then none else some (pc + 1, L, .long (x - x / y * y) :: st, M) | _ => none)
  | (.lcmp, _) => (match st with | .long y :: .long x :: st => some (pc + 1, L, .int (lg_cmp x y) :: st, M) | _ => none)
  | (.dup, _) => (match st with | .int x :: st => some (pc + 1, L, .int x :: .int x :: st, M) | .ref x :: st => some (pc + 1, L, .ref x :: .ref x :: st, M) | _ => none)
  | (.dup2, _) => (match st with | .int y :: .ref x :: st => some (pc + 1, L, .int y :: .ref x :: .int y :: .ref x :: st, M) | _ => none)
  | (.pop, _) => (match st with | .int x :: st => some (pc + 1, L, st, M) | _ => none)
  | (.goto _, _, a, _) => some (a, L, st, M)
  | (.ifCond .eq _, _, a, _) => (match st with | .int x :: st => some (if x = 0 then a else pc + 3, L, st, M) | _ => none)
  | (.ifCond .ne _, _, a, _) => (match st with | .int x :: st => some (if ¬ x = 0 then a else pc + 3, L, st, M) | _ => none)
  | (.ifCond .lt _, _, a, _) => (match st with | .int x :: st => some (if x < 0 then a else pc + 3, L, st, M) | _ => none)
  | (.ifCond .ge _, _, a, _) => (match st with | .int x :: st => some (if 0 ≤ x then a else pc + 3, L, st, M) | _ => none)
  | (.ifCond .gt _, _, a, _) => (match st with | .int x :: st => some (if 0 < x then a else pc + 3, L, st, M) | _ => none)
  | (.ifCond .le _, _, a, _) => (match st with | .int x :: st => some (if x ≤ 0 then a else pc + 3, L, st, M) | _ => none)
  | (.if_icmp .eq _, _, a, _) => (match st with | .int y :: .int x :: st => some (if x = y then a else pc + 3, L, st, M) | _ => none)
  | (.if_icmp .ne _, _, a, _) => (match st with | .int y :: .int x :: st => some (if ¬ x = y then a else pc + 3, L, st, M) | _ => none)
  | (.if_icmp .lt _, _, a, _) => (match st with | .int y :: .int x :: st => some (if x < y then a else pc + 3, L, st, M) | _ => none)
  | (.if_icmp .ge _, _, a, _) => (match st with | .int y :: .int x :: st => some (if y ≤ x then a else pc + 3, L, st, M) | _ => none)
  | (.if_icmp .gt _, _, a, _) => (match st with | .int y :: .int x :: st => some (if y < x then a else pc + 3, L, st, M) | _ => none)
  | (.if_icmp .le _, _, a, _) => (match st with | .int y :: .int x :: st => some (if x ≤ y then a else pc + 3, L, st, M) | _ => none)
  | (.tableswitch d lo hi os, _) => (match st with | .int x :: st => if x.toInt < lo ∨ hi < x.toInt then some (((pc : Int) + d).toNat, L, st, M) else (match os[(x.toInt - lo).toNat]? with | some o => some (((pc : Int) + o).toNat, L, st, M) | none => none) | _ => none)
  | (.lookupswitch d ps, _) => (match st with | .int x :: st => some (((pc : Int) + Op.lookupswitch.offset ps.toList d x.toInt).toNat, L, st, M) | _ => none)
  | (.getfield _, _, a, b, _) => (match st with | o :: st => (match mm_fld X M o a b with | some v => some (pc + 3, L, v :: st, M) | none => none) | _ => none)
  | (.putfield _, _, a, b, _) => (match st with | v :: o :: st => (match mm_put fty M o v a b with | some M1 => some (pc + 3, L, st, M1) | none => none) | _ => none)
  | (.iaload, _) => (match st with | .int j :: o :: st => (match mm_row X M o with | some xs => (match mm_at xs j with | some x => some (pc + 1, L, .int x :: st, M) | none => none) | none => none) | _ => none)
  | (.baload, _) => (match st with | .int j :: .retAddr n :: st => if n < 50 then none else (match X n with | some (.inl xs) => (match mm_at xs j with | some x => some (pc + 1, L, .int x :: st, M) | none => none) | _ => none) | _ => none)
  | (.iastore, _) => (match st with | .int x :: .int j :: o :: st => (match mm_sti M o j x with | some M1 => some (pc + 1, L, st, M1) | none => none) | _ => none)
  | (.aaload, _) => (match st with | .int j :: .ref a :: st => (match M[a]? with | some (.inr (.inl (t, rs))) => if t = 1 ∨ t = 2 then (match mm_atq rs j with | some r => some (pc + 1, L, mm_rf r :: st, M) | none => none) else none | _ => none) | _ => none)
  | (.arraylength, _) => (match st with | .retAddr n :: st => (match X n with | some (.inl xs) => some (pc + 1, L, .int (Int32.ofNat xs.length) :: st, M) | _ => none) | _ => none)
  | _ => none
end
section
/-! the small machine's values and cells as the true machine's -/
section MM1
variable (base : Nat) (ext : Nat → Option Nat) (cA : Nat → ClassId)
def mm_en (v : Value) : Value := match v with
  | .ref k => .ref (base + k)
  | .retAddr n => va_rf (ext n)
  | v => v
def mm_ec (c : mm_C) : va_E := match c with
  | .inl xs => .inl (cA 0, xs.length, .inl (fun j => xs.getD j 0))
  | .inr (.inl (t, rs)) => .inl (cA t, rs.length, .inr (.inr (.inr (.inr (fun j => (rs.getD j none).map (fun k => base + k))))))
  | .inr (.inr (ci, fs)) => .inr (ci, fs.map (mm_en base ext))
def mm_ws (M : mm_M) : va_W := M.mapIdx (fun k c => (base + k, mm_ec base ext cA c))
def mm_asc : mm_L → Nat → List (Nat × Value)
  | [], _ => []
  | none :: L, i => mm_asc L (i + 1)
  | some v :: L, i => (i, mm_en base ext v) :: mm_asc L (i + 1)
def mm_LH (ls : Array Slot) (L : mm_L) : Prop := lv_has ls L.length (mm_asc base ext L 0)
def mm_A (base : Nat) : Nat → Prop := fun q => base ≤ q
def mm_Wd (D : va_G) (cl : List vw_C) (M : mm_M) (H : Heap) : Prop := va_P D cl (mm_ws base ext cA M) H
def mm_xt (n : Nat) : FieldType := if n < 50 then .int else .byte
theorem mm_en_cat (v : Value) : (mm_en base ext v).category = v.category := by
  cases v <;> simp [mm_en, Value.category]
  rename_i n
  cases h : ext n <;> simp [va_rf]
theorem mm_ws_get (M : mm_M) (k : Nat) : (mm_ws base ext cA M)[k]? = (M[k]?).map (fun c => (base + k, mm_ec base ext cA c)) := by
  simp [mm_ws]
theorem mm_ws_at {M : mm_M} {k : Nat} {c : mm_C} (h : M[k]? = some c) : (mm_ws base ext cA M)[k]? = some (base + k, mm_ec base ext cA c) := by
  rw [mm_ws_get, h]; rfl
theorem mm_ws_set (M : mm_M) (k : Nat) (c : mm_C) : mm_ws base ext cA (M.set k c) = (mm_ws base ext cA M).set k (base + k, mm_ec base ext cA c) := by
  simp [mm_ws, List.mapIdx_set]
theorem mm_ws_app (M : mm_M) (c : mm_C) : mm_ws base ext cA (M ++ [c]) = mm_ws base ext cA M ++ [(base + M.length, mm_ec base ext cA c)] := by
  simp [mm_ws, List.mapIdx_append]
theorem mm_D (M : mm_M) : va_D (mm_A base) (mm_ws base ext cA M) := by
  refine ⟨fun i j p q hi hj hpq => ?_, fun k q hk => ?_⟩
  · rw [mm_ws_get] at hi hj
    cases h1 : M[i]? with
    | none => rw [h1] at hi; cases hi
    | some a =>
      cases h2 : M[j]? with
      | none => rw [h2] at hj; cases hj
      | some b =>
        rw [h1] at hi; rw [h2] at hj
        cases hi; cases hj
        have : base + i = base + j := hpq
        omega
  · rw [mm_ws_get] at hk
    cases h1 : M[k]? with
    | none => rw [h1] at hk; cases hk
    | some a =>
      rw [h1] at hk
      cases hk
      exact Nat.le_add_right _ _
theorem mm_asc_mem (L : mm_L) : ∀ (i j : Nat) (w : Value), (j, w) ∈ mm_asc base ext L i ↔ ∃ v, i ≤ j ∧ L[j - i]? = some (some v) ∧ w = mm_en base ext v := by
  induction L with
  | nil => intro i j w; simp [mm_asc]
  | cons o L ih =>
    intro i j w
    cases o with
    | none =>
      simp only [mm_asc, ih]
      constructor
      · rintro ⟨v, h1, h2, h3⟩
        refine ⟨v, by omega, ?_, h3⟩
        rw [show j - i = (j - (i + 1)) + 1 by omega, List.getElem?_cons_succ]
        exact h2
      · rintro ⟨v, h1, h2, h3⟩
        have hj : j ≠ i := by
          rintro rfl
          rw [Nat.sub_self] at h2
          simp at h2
        refine ⟨v, by omega, ?_, h3⟩
        rw [show j - i = (j - (i + 1)) + 1 by omega, List.getElem?_cons_succ] at h2
        exact h2
    | some u =>
      simp only [mm_asc, List.mem_cons, Prod.mk.injEq, ih]
      constructor
      · rintro (⟨rfl, rfl⟩ | ⟨v, h1, h2, h3⟩)
        · exact ⟨u, Nat.le_refl _, by simp, rfl⟩
        · refine ⟨v, by omega, ?_, h3⟩
          rw [show j - i = (j - (i + 1)) + 1 by omega, List.getElem?_cons_succ]
          exact h2
      · rintro ⟨v, h1, h2, h3⟩
        by_cases hj : j = i
        · subst hj
          rw [Nat.sub_self] at h2
          simp at h2
          subst h2
          exact Or.inl ⟨rfl, h3⟩
        · right
          refine ⟨v, by omega, ?_, h3⟩
          rw [show j - i = (j - (i + 1)) + 1 by omega, List.getElem?_cons_succ] at h2
          exact h2
theorem mm_LH_at {ls : Array Slot} {L : mm_L} (h : mm_LH base ext ls L) {i : Nat} {v : Value} (hi : L[i]? = some (some v)) : ls[i]? = some (.val (mm_en base ext v)) :=
  h.2.2 (i, mm_en base ext v) ((mm_asc_mem base ext L 0 i _).mpr ⟨v, Nat.zero_le _, by simpa using hi, rfl⟩)
theorem mm_clr_len (L : mm_L) (i : Nat) : (mm_clr L i).length = L.length := by
  cases i with
  | zero => rfl
  | succ j => simp only [mm_clr]; split <;> simp
theorem mm_clr_at {L : mm_L} {i j : Nat} {u : Value} (hj : j ≠ i) (h : (mm_clr L i)[j]? = some (some u)) : L[j]? = some (some u) ∧ ¬ (j + 1 = i ∧ u.category = 2) := by
  cases i with
  | zero => exact ⟨h, by omega⟩
  | succ k =>
    simp only [mm_clr] at h
    split at h
    · by_cases hk : k = j
      · subst hk
        by_cases hl : k < L.length
        · rw [List.getElem?_set_self hl] at h; cases h
        · rw [List.getElem?_eq_none (by simp; omega)] at h; cases h
      · rw [List.getElem?_set_ne hk] at h
        exact ⟨h, by omega⟩
    · rename_i hn
      refine ⟨h, ?_⟩
      rintro ⟨h1, h2⟩
      have : j = k := by omega
      subst this
      rw [h] at hn
      cases u <;> simp [Value.category] at h2 <;> exact hn rfl
theorem mm_LH_mono {ls : Array Slot} {n : Nat} {l : List (Nat × Value)} {L : mm_L} (h : lv_has ls n l) (hn : L.length = n) (hm : ∀ (j : Nat) (u : Value), L[j]? = some (some u) → (j, mm_en base ext u) ∈ l) : mm_LH base ext ls L := by
  refine ⟨by rw [hn]; exact h.1, h.2.1, fun q hq => ?_⟩
  obtain ⟨j, w⟩ := q
  obtain ⟨v, -, h2, rfl⟩ := (mm_asc_mem base ext L 0 j w).mp hq
  exact h.2.2 _ (hm j v (by simpa using h2))
theorem mm_LH_sto1 {ls : Array Slot} {L : mm_L} {i : Nat} {v : Value} (hi : i < L.length)
    (h : lv_has ls L.length ((i, mm_en base ext v) :: (mm_asc base ext L 0).filter (fun q => !(q.1 == i) && !(q.1 + 1 == i && q.2.category == 2)))) : mm_LH base ext ls (mm_sto1 L i v) := by
  refine mm_LH_mono base ext h (by simp [mm_sto1, mm_clr_len]) (fun j u hj => ?_)
  by_cases hji : i = j
  · subst hji
    rw [mm_sto1, List.getElem?_set_self (by rw [mm_clr_len]; exact hi)] at hj
    cases hj
    exact List.mem_cons_self
  · rw [mm_sto1, List.getElem?_set_ne hji] at hj
    obtain ⟨h1, h2⟩ := mm_clr_at (Ne.symm hji) hj
    refine List.mem_cons_of_mem _ (List.mem_filter.mpr ⟨(mm_asc_mem base ext L 0 j _).mpr ⟨u, Nat.zero_le _, by simpa using h1, rfl⟩, ?_⟩)
    have h3 : ¬ (j + 1 = i ∧ (mm_en base ext u).category = 2) := by rw [mm_en_cat]; exact h2
    have h4 : ¬ j = i := fun e => hji e.symm
    by_cases h5 : j + 1 = i <;> by_cases h6 : (mm_en base ext u).category = 2 <;> simp_all
theorem mm_LH_sto2 {ls : Array Slot} {L : mm_L} {i : Nat} {v : Value} (hi : i + 1 < L.length)
    (h : lv_has ls L.length ((i, mm_en base ext v) :: (mm_asc base ext L 0).filter (fun q => !(q.1 == i) && (!(q.1 == i + 1) && !(q.1 + 1 == i && q.2.category == 2))))) : mm_LH base ext ls (mm_sto2 L i v) := by
  refine mm_LH_mono base ext h (by simp [mm_sto2, mm_clr_len]) (fun j u hj => ?_)
  by_cases hj1 : i + 1 = j
  · subst hj1
    rw [mm_sto2, List.getElem?_set_self (by simp [mm_clr_len]; exact hi)] at hj
    cases hj
  · rw [mm_sto2, List.getElem?_set_ne hj1] at hj
    by_cases hji : i = j
    · subst hji
      rw [List.getElem?_set_self (by rw [mm_clr_len]; omega)] at hj
      cases hj
      exact List.mem_cons_self
    · rw [List.getElem?_set_ne hji] at hj
      obtain ⟨h1, h2⟩ := mm_clr_at (Ne.symm hji) hj
      refine List.mem_cons_of_mem _ (List.mem_filter.mpr ⟨(mm_asc_mem base ext L 0 j _).mpr ⟨u, Nat.zero_le _, by simpa using h1, rfl⟩, ?_⟩)
      have h3 : ¬ (j + 1 = i ∧ (mm_en base ext u).category = 2) := by rw [mm_en_cat]; exact h2
      have h4 : ¬ j = i := fun e => hji e.symm
      have h7 : ¬ j = i + 1 := fun e => hj1 e.symm
      by_cases h5 : j + 1 = i <;> by_cases h6 : (mm_en base ext u).category = 2 <;> simp_all
end MM1
end
section
section MM2
variable (base : Nat) (ext : Nat → Option Nat) (cA : Nat → ClassId) (D : va_G) (cl : List vw_C) (tb : List Cond) (X : mm_X) (sf : Nat → String × String) (sts : List (String × String × String × Value)) (sks : List (String × Nat × String × Nat)) (nws : List Cond) (lay : String) (fty : Nat → Nat → FieldType)
/-- what a state must hold beside the memory: the tables, and what lies outside -/
def mm_Ks (U : State) : Prop :=
  va_K D cl [(cA 0, .int), (cA 1, .object lay), (cA 2, .array .int)] U ∧
  (∀ (n : Nat) (xs : List Int32), X n = some (.inl xs) → ∃ t : Nat, ext n = some t ∧ va_T (mm_xt n) t xs.length (fun j => .int (xs.getD j 0)) (mm_A base) U U.heap) ∧
  (∀ (n : Nat) (fs : List Value), X n = some (.inr fs) → ∃ t : Nat, ext n = some t ∧ va_O "java/lang/String" t (mm_A base) U U.heap ∧ ∀ (k : Nat) (v : Value), fs[k]? = some v → va_OF "java/lang/String" (sf k).1 (sf k).2 (mm_en base ext v) t (mm_A base) U U.heap) ∧
  (∀ w ∈ sts, va_Z w.1 w.2.1 w.2.2.1 (mm_en base ext w.2.2.2) (mm_A base) U U.heap) ∧
  (∀ w ∈ sks, ∃ t : Nat, ext w.2.2.2 = some t ∧ vk_R w.1 w.2.1 w.2.2.1 t U) ∧
  (∀ (own : String) (i : Nat) (C f d host : String), Cond.fieldLinkNest own i C f d host ∈ nws → va_Nw (.fieldLinkNest own i C f d host) U) ∧
  (∀ (own : String) (i : Nat) (y : MethodName) (host : String), Cond.methodLinkNest own i y host ∈ nws → va_Nw (.methodLinkNest own i y host) U) ∧
  va_AO lay U ∧ (Cond.arrayOver (.array .int)).before #[] U = true
def mm_len (i : Instr) : Nat := match i with
  | .iconst _ | .lconst _ | .iload_n _ | .lload_n _ | .aload_n _ | .istore_n _ | .lstore_n _ | .astore_n _ => 1
  | .iadd | .isub | .imul | .iand | .ior | .ixor | .ishl | .ishr | .iushr | .idiv | .irem | .ineg | .i2l | .i2c | .i2b | .ladd | .lsub | .lmul | .ldiv | .lrem | .lcmp | .dup | .dup2 | .pop => 1
  | .iaload | .baload | .aaload | .iastore | .aastore | .arraylength | .ireturn | .lreturn | .areturn | .return_ => 1
  | .bipush _ | .ldc _ | .iload _ | .lload _ | .aload _ | .istore _ | .lstore _ | .astore _ | .newarray _ => 2
  | .multianewarray _ _ => 4
  | _ => 3
/-- that an entry of a method's table is what its bytes say, and what it needs of the words -/
def mm_okI (own nm : String) (cc : ByteArray) (pc : Nat) (i : mm_I) : Prop :=
  decode cc pc = .ok (i.1, i.2.1) ∧ match i with
  | (.ldc idx, n, _, _, v, _) => n = 2 ∧ ((∃ x : Int32, v = .int x ∧ Cond.constant own idx x ∈ tb) ∨ (∃ (tx : String) (k : Nat), v = .retAddr k ∧ (own, idx, tx, k) ∈ sks))
  | (.ldc_w idx, n, _, _, v, _) => n = 3 ∧ ∃ x : Int32, v = .int x ∧ Cond.constant own idx x ∈ tb
  | (.ldc2_w idx, n, _, _, v, _) => n = 3 ∧ ∃ x : Int64, v = .long x ∧ Cond.constantLong own idx x ∈ tb
  | (.getstatic idx, n, _, _, v, _) => n = 3 ∧ ∃ C f d : String, (C, f, d, v) ∈ sts ∧ (Cond.fieldLink own idx C f d ∈ tb ∨ ∃ host : String, Cond.fieldLinkNest own idx C f d host ∈ nws)
  | (.goto off, n, a, _) => n = 3 ∧ (pc : Int) + off = (a : Int)
  | (.ifCond _ off, n, a, _) => n = 3 ∧ (pc : Int) + off = (a : Int)
  | (.if_icmp _ off, n, a, _) => n = 3 ∧ (pc : Int) + off = (a : Int)
  | (.tableswitch d _ _ os, _) => 0 ≤ (pc : Int) + d ∧ ∀ o ∈ os.toList, 0 ≤ (pc : Int) + o
  | (.lookupswitch d ps, _) => (∀ x : Int, 0 ≤ (pc : Int) + Op.lookupswitch.offset ps.toList d x) ∧ (ps.toList.zip (ps.toList.drop 1)).all (fun (a, next) => a.1 < next.1) = true
  | (.getfield idx, n, a, b, _) => n = 3 ∧ ((a = 99 ∧ cl[a]? = none ∧ Cond.fieldLink own idx "java/lang/String" (sf b).1 (sf b).2 ∈ tb) ∨ ∃ q : vw_C, cl[a]? = some q ∧ ¬ a = 99 ∧ b < q.2.2 ∧ (Cond.fieldLink own idx (q.2.1 b).1 (q.2.1 b).2.1 (q.2.1 b).2.2.1 ∈ tb ∨ ∃ host : String, Cond.fieldLinkNest own idx (q.2.1 b).1 (q.2.1 b).2.1 (q.2.1 b).2.2.1 host ∈ nws))
  | (.putfield idx, n, a, b, _) => n = 3 ∧ ∃ q : vw_C, cl[a]? = some q ∧ b < q.2.2 ∧ (((q.2.1 b).2.2.2 = false ∧ (Cond.fieldLink own idx (q.2.1 b).1 (q.2.1 b).2.1 (q.2.1 b).2.2.1 ∈ tb ∨ ∃ host : String, Cond.fieldLinkNest own idx (q.2.1 b).1 (q.2.1 b).2.1 (q.2.1 b).2.2.1 host ∈ nws)) ∨ ((q.2.1 b).2.2.2 = true ∧ Cond.fieldLink own idx (q.2.1 b).1 (q.2.1 b).2.1 (q.2.1 b).2.2.1 ∈ tb ∧ nm = "<init>" ∧ (q.2.1 b).1 = own))
  | (ins, n, _) => n = mm_len ins
/-- the words of the kinds of objects -/
def mm_okC : Prop := ∀ (ci : Nat) (q : vw_C), cl[ci]? = some q → (∀ w ∈ u_ws q.1 q.2.1 q.2.2, w ∈ tb) ∧ (∀ k, k < q.2.2 → parseFieldDescriptor (q.2.1 k).2.2.1 = some (fty ci k)) ∧ (∀ a, a < q.2.2 → ∀ b, b < q.2.2 → a ≠ b → (q.2.1 a).2.1 ≠ (q.2.1 b).2.1)
theorem mm_okf_spec {ty : FieldType} {v : Value} (h : mm_okf ty v = true) : narrow ty (mm_en base ext v) = mm_en base ext v ∧ fits ty (mm_en base ext v) = true := by
  unfold mm_okf at h
  split at h
  · exact ⟨rfl, rfl⟩
  · rename_i x
    have hx : x = 0 ∨ x = 1 := by simpa using h
    rcases hx with rfl | rfl
    · show narrow .boolean (.int 0) = .int 0 ∧ fits .boolean (.int 0) = true
      decide +kernel
    · show narrow .boolean (.int 1) = .int 1 ∧ fits .boolean (.int 1) = true
      decide +kernel
  · exact ⟨rfl, rfl⟩
  · rename_i n
    show narrow _ (va_rf (ext n)) = va_rf (ext n) ∧ fits _ (va_rf (ext n)) = true
    cases ext n <;> exact ⟨rfl, rfl⟩
  · exact ⟨rfl, rfl⟩
  · cases h
theorem mm_at_spec {xs : List Int32} {i x : Int32} (h : mm_at xs i = some x) : vp_in i xs.length ∧ xs.getD i.toNatClampNeg 0 = x := by
  unfold mm_at at h
  split at h
  · cases h
  · rename_i hn
    obtain ⟨hl, he⟩ := List.getElem?_eq_some_iff.mp h
    refine ⟨fun q => ?_, ?_⟩
    · rcases q with q | q
      · exact hn q
      · omega
    · rw [List.getD_eq_getElem?_getD, h]; rfl
theorem mm_atq_spec {rs : List (Option Nat)} {i : Int32} {r : Option Nat} (h : mm_atq rs i = some r) : vp_in i rs.length ∧ rs.getD i.toNatClampNeg none = r := by
  unfold mm_atq at h
  split at h
  · cases h
  · rename_i hn
    obtain ⟨hl, he⟩ := List.getElem?_eq_some_iff.mp h
    refine ⟨fun q => ?_, ?_⟩
    · rcases q with q | q
      · exact hn q
      · omega
    · rw [List.getD_eq_getElem?_getD, h]; rfl
theorem mm_upd {xs : List Int32} {i : Nat} {x : Int32} (h : i < xs.length) : (fun j => (xs.set i x).getD j 0) = upd (fun j => xs.getD j 0) i x := by
  funext j
  show (xs.set i x).getD j 0 = if j = i then x else xs.getD j 0
  rw [List.getD_eq_getElem?_getD, List.getD_eq_getElem?_getD]
  by_cases hj : j = i
  · subst hj
    rw [List.getElem?_set_self h, if_pos rfl]; rfl
  · rw [List.getElem?_set_ne (Ne.symm hj), if_neg hj]
variable {p : Program} {l : Launch} {e : Env} {R : Room} {s : State} {m : MethodId} {args : Array Value} {below : List Frame} {meth : Method} {c : Code} {Q : State → Prop}
set_option maxHeartbeats 4000000 in
theorem mm_step_snd (hcl : mm_okC cl tb fty) {own nm : String} {cc : ByteArray} (hx : p.tables.exec = Jvm.exec) (hb : c.code = cc) (hown : s.vm.findClass own = some m.cls) (hts : ∀ w ∈ tb, w.before args s = true) (hname : meth.name = nm) (hKs : mm_Ks base ext cA D cl X sf sts sks nws lay s)
    {i : mm_I} {pc pc' : Nat} {L L' : mm_L} {st st' : List Value} {M M' : mm_M} (hi : mm_okI cl tb sf sts sks nws own nm cc pc i) (h : mm_step fty X i pc L st M = some (pc', L', st', M')) {H : Heap} {locs : List Loc} {cells slots : Nat} {ls : Array Slot} (hW : mm_Wd base ext cA D cl M H) (hS : va_S (mm_A base) s.heap H locs) (hL : mm_LH base ext ls L)
    (kk : ∀ (H' : Heap) (locs' : List Loc) (ls' : Array Slot), mm_Wd base ext cA D cl M' H' → va_S (mm_A base) s.heap H' locs' → mm_LH base ext ls' L' → W p l e R s m args below meth c H' locs' cells slots Q (F0 m pc' ls' (st'.map (mm_en base ext)))) :
    W p l e R s m args below meth c H locs cells slots Q (F0 m pc ls (st.map (mm_en base ext))) := by
  obtain ⟨ins, n, a, b, v, pl⟩ := i
  obtain ⟨hd, hi⟩ := hi
  cases ins with
  | iconst k =>
    simp only [mm_okI, mm_len] at hi
    subst hi
    simp only [mm_step] at h
    cases h
    exact lv_iconst hx hb hd rfl (kk _ _ _ hW hS hL)
  | bipush k =>
    simp only [mm_okI, mm_len] at hi
    subst hi
    simp only [mm_step] at h
    cases h
    exact lv_bipush hx hb hd rfl (kk _ _ _ hW hS hL)
  | sipush k =>
    simp only [mm_okI, mm_len] at hi
    subst hi
    simp only [mm_step] at h
    cases h
    exact lv_sipush hx hb hd rfl (kk _ _ _ hW hS hL)
  | lconst k =>
    simp only [mm_okI, mm_len] at hi
    subst hi
    simp only [mm_step] at h
    cases h
    exact lv_lconst hx hb hd rfl (kk _ _ _ hW hS hL)
  | ldc idx =>
    obtain ⟨rfl, hi⟩ := hi
    simp only [mm_step] at h
    cases h
    rcases hi with ⟨x, rfl, hw⟩ | ⟨tx, k, rfl, hw⟩
    · exact lv_ldc hx hb hown (hts _ hw) hd (kk _ _ _ hW hS hL)
    · obtain ⟨t, ht, hR⟩ := hKs.2.2.2.2.1 _ hw
      have hk := kk _ _ _ hW hS hL
      simp only [List.map_cons, mm_en, ht, va_rf] at hk
      exact va_ldcS hx hb hown hR hd hk
  | ldc_w idx =>
    obtain ⟨rfl, x, rfl, hw⟩ := hi
    simp only [mm_step] at h
    cases h
    exact lv_ldcw hx hb hown (hts _ hw) hd (kk _ _ _ hW hS hL)
  | ldc2_w idx =>
    obtain ⟨rfl, x, rfl, hw⟩ := hi
    simp only [mm_step] at h
    cases h
    exact lv_ldc2 hx hb hown (hts _ hw) hd (kk _ _ _ hW hS hL)
  | getstatic idx =>
    obtain ⟨rfl, C, f, d, hw, hl⟩ := hi
    simp only [mm_step] at h
    cases h
    rcases hl with hl | ⟨host, hl⟩
    · exact va_gets hx hb (hKs.2.2.2.1 _ hw) hS hown (hts _ hl) (fun _ q => q) hd (kk _ _ _ hW hS hL)
    · exact va_getsN hx hb (hKs.2.2.2.1 _ hw) hS hown (va_Nw.use rfl (hKs.2.2.2.2.2.1 _ _ _ _ _ _ hl)) (fun _ q => q) hd (kk _ _ _ hW hS hL)
  | iload k =>
    simp only [mm_okI, mm_len] at hi
    subst hi
    simp only [mm_step] at h
    split at h
    · rename_i x hk
      cases h
      exact lv_iload hx hb hd (mm_LH_at base ext hL hk) (kk _ _ _ hW hS hL)
    · cases h
  | iload_n k =>
    simp only [mm_okI, mm_len] at hi
    subst hi
    simp only [mm_step] at h
    split at h
    · rename_i x hk
      cases h
      exact lv_iload_n hx hb hd rfl (mm_LH_at base ext hL hk) (kk _ _ _ hW hS hL)
    · cases h
  | lload k =>
    simp only [mm_okI, mm_len] at hi
    subst hi
    simp only [mm_step] at h
    split at h
    · rename_i x hk
      cases h
      exact lv_lload hx hb hd (mm_LH_at base ext hL hk) (kk _ _ _ hW hS hL)
    · cases h
  | lload_n k =>
    simp only [mm_okI, mm_len] at hi
    subst hi
    simp only [mm_step] at h
    split at h
    · rename_i x hk
      cases h
      exact lv_lload_n hx hb hd rfl (mm_LH_at base ext hL hk) (kk _ _ _ hW hS hL)
    · cases h
  | aload k =>
    simp only [mm_okI, mm_len] at hi
    subst hi
    simp only [mm_step] at h
    split at h
    · rename_i x hk
      cases h
      exact lv_aload hx hb hd (mm_LH_at base ext hL hk) (kk _ _ _ hW hS hL)
    · rename_i x hk
      cases h
      have hk2 := mm_LH_at base ext hL hk
      have hkk := kk _ _ _ hW hS hL
      simp only [List.map_cons, mm_en] at hkk hk2
      cases hx9 : ext x with
      | none => rw [hx9] at hkk hk2; exact lv_aloadN hx hb hd hk2 hkk
      | some t => rw [hx9] at hkk hk2; exact lv_aload hx hb hd hk2 hkk
    · cases h
  | aload_n k =>
    simp only [mm_okI, mm_len] at hi
    subst hi
    simp only [mm_step] at h
    split at h
    · rename_i x hk
      cases h
      exact lv_aload_n hx hb hd rfl (mm_LH_at base ext hL hk) (kk _ _ _ hW hS hL)
    · rename_i x hk
      cases h
      have hk2 := mm_LH_at base ext hL hk
      have hkk := kk _ _ _ hW hS hL
      simp only [List.map_cons, mm_en] at hkk hk2
      cases hx9 : ext x with
      | none => rw [hx9] at hkk hk2; exact lv_aload_nN hx hb hd rfl hk2 hkk
      | some t => rw [hx9] at hkk hk2; exact lv_aload_n hx hb hd rfl hk2 hkk
    · cases h
  | istore k =>
    simp only [mm_okI, mm_len] at hi
    subst hi
    simp only [mm_step] at h
    split at h
    · split at h
      · rename_i hk
        cases h
        exact lv_istore hx hb hd hL hk rfl (fun ls' hl' => kk _ _ _ hW hS (mm_LH_sto1 base ext hk hl'))
      · cases h
    · cases h
  | istore_n k =>
    simp only [mm_okI, mm_len] at hi
    subst hi
    simp only [mm_step] at h
    split at h
    · split at h
      · rename_i hk
        cases h
        exact lv_istore_n hx hb hd rfl hL hk rfl (fun ls' hl' => kk _ _ _ hW hS (mm_LH_sto1 base ext hk hl'))
      · cases h
    · cases h
  | lstore k =>
    simp only [mm_okI, mm_len] at hi
    subst hi
    simp only [mm_step] at h
    split at h
    · split at h
      · rename_i hk
        cases h
        exact lv_lstore hx hb hd hL hk rfl (fun ls' hl' => kk _ _ _ hW hS (mm_LH_sto2 base ext hk hl'))
      · cases h
    · cases h
  | lstore_n k =>
    simp only [mm_okI, mm_len] at hi
    subst hi
    simp only [mm_step] at h
    split at h
    · split at h
      · rename_i hk
        cases h
        exact lv_lstore_n hx hb hd rfl hL hk rfl (fun ls' hl' => kk _ _ _ hW hS (mm_LH_sto2 base ext hk hl'))
      · cases h
    · cases h
  | astore k =>
    simp only [mm_okI, mm_len] at hi
    subst hi
    simp only [mm_step] at h
    split at h
    · split at h
      · rename_i hk
        cases h
        exact lv_astore hx hb hd hL hk rfl (fun ls' hl' => kk _ _ _ hW hS (mm_LH_sto1 base ext hk hl'))
      · cases h
    · split at h
      · rename_i x st0 hk
        cases h
        have kk2 : ∀ ls', lv_has ls' L.length ((_, mm_en base ext (.retAddr x)) :: (mm_asc base ext L 0).filter (fun q => !(q.1 == _) && !(q.1 + 1 == _ && q.2.category == 2))) → _ := fun ls' hl' => kk _ _ ls' hW hS (mm_LH_sto1 base ext hk hl')
        simp only [List.map_cons, mm_en] at kk2 ⊢
        cases hx9 : ext x with
        | none => rw [hx9] at kk2; exact lv_astoreN hx hb hd hL hk rfl kk2
        | some t => rw [hx9] at kk2; exact lv_astore hx hb hd hL hk rfl kk2
      · cases h
    · cases h
  | astore_n k =>
    simp only [mm_okI, mm_len] at hi
    subst hi
    simp only [mm_step] at h
    split at h
    · split at h
      · rename_i hk
        cases h
        exact lv_astore_n hx hb hd rfl hL hk rfl (fun ls' hl' => kk _ _ _ hW hS (mm_LH_sto1 base ext hk hl'))
      · cases h
    · split at h
      · rename_i x st0 hk
        cases h
        have kk2 : ∀ ls', lv_has ls' L.length ((_, mm_en base ext (.retAddr x)) :: (mm_asc base ext L 0).filter (fun q => !(q.1 == _) && !(q.1 + 1 == _ && q.2.category == 2))) → _ := fun ls' hl' => kk _ _ ls' hW hS (mm_LH_sto1 base ext hk hl')
        simp only [List.map_cons, mm_en] at kk2 ⊢
        cases hx9 : ext x with
        | none => rw [hx9] at kk2; exact lv_astore_nN hx hb hd rfl hL hk rfl kk2
        | some t => rw [hx9] at kk2; exact lv_astore_n hx hb hd rfl hL hk rfl kk2
      · cases h
    · cases h
  | iinc k n9 =>
    simp only [mm_okI, mm_len] at hi
    subst hi
    simp only [mm_step] at h
    split at h
    · rename_i x hk
      split at h
      · rename_i hk2
        cases h
        obtain ⟨j, hj⟩ := List.getElem?_of_mem ((mm_asc_mem base ext L 0 k (.int x)).mpr ⟨.int x, Nat.zero_le _, by simpa using hk, rfl⟩)
        exact lv_iinc hx hb hd hL hj rfl hk2 rfl (fun ls' hl' => kk _ _ _ hW hS (mm_LH_sto1 base ext (v := .int (x + Int32.ofInt n9)) hk2 hl'))
      · cases h
    · cases h
  | iadd =>
    simp only [mm_okI, mm_len] at hi
    subst hi
    simp only [mm_step] at h
    split at h
    · cases h
      exact lv_iadd hx hb hd (kk _ _ _ hW hS hL)
    · cases h
  | isub =>
    simp only [mm_okI, mm_len] at hi
    subst hi
    simp only [mm_step] at h
    split at h
    · cases h
      exact lv_isub hx hb hd (kk _ _ _ hW hS hL)
    · cases h
  | imul =>
    simp only [mm_okI, mm_len] at hi
    subst hi
    simp only [mm_step] at h
    split at h
    · cases h
      exact lv_imul hx hb hd (kk _ _ _ hW hS hL)
    · cases h
  | iand =>
    simp only [mm_okI, mm_len] at hi
    subst hi
    simp only [mm_step] at h
    split at h
    · cases h
      exact lv_iand hx hb hd (kk _ _ _ hW hS hL)
    · cases h
  | ior =>
    simp only [mm_okI, mm_len] at hi
    subst hi
    simp only [mm_step] at h
    split at h
    · cases h
      exact lv_ior hx hb hd (kk _ _ _ hW hS hL)
    · cases h
  | ixor =>
    simp only [mm_okI, mm_len] at hi
    subst hi
    simp only [mm_step] at h
    split at h
    · cases h
      exact lv_ixor hx hb hd (kk _ _ _ hW hS hL)
    · cases h
  | ishl =>
    simp only [mm_okI, mm_len] at hi
    subst hi
    simp only [mm_step] at h
    split at h
    · cases h
      exact lv_ishl hx hb hd (kk _ _ _ hW hS hL)
    · cases h
  | ishr =>
    simp only [mm_okI, mm_len] at hi
    subst hi
    simp only [mm_step] at h
    split at h
    · cases h
      exact lv_ishr hx hb hd (kk _ _ _ hW hS hL)
    · cases h
  | ladd =>
    simp only [mm_okI, mm_len] at hi
    subst hi
    simp only [mm_step] at h
    split at h
    · cases h
      exact lv_ladd hx hb hd (kk _ _ _ hW hS hL)
    · cases h
  | lsub =>
    simp only [mm_okI, mm_len] at hi
    subst hi
    simp only [mm_step] at h
    split at h
    · cases h
      exact lv_lsub hx hb hd (kk _ _ _ hW hS hL)
    · cases h
  | lmul =>
    simp only [mm_okI, mm_len] at hi
    subst hi
    simp only [mm_step] at h
    split at h
    · cases h
      exact lv_lmul hx hb hd (kk _ _ _ hW hS hL)
    · cases h
  | ineg =>
    simp only [mm_okI, mm_len] at hi
    subst hi
    simp only [mm_step] at h
    split at h
    · cases h
      exact lv_ineg hx hb hd (kk _ _ _ hW hS hL)
    · cases h
  | lcmp =>
    simp only [mm_okI, mm_len] at hi
    subst hi
    simp only [mm_step] at h
    split at h
    · cases h
      exact W.lcmp hx hb hd (kk _ _ _ hW hS hL)
    · cases h
  | i2l =>
    simp only [mm_okI, mm_len] at hi
    subst hi
    simp only [mm_step] at h
    split at h
    · cases h
      exact lv_i2l hx hb hd rfl (kk _ _ _ hW hS hL)
    · cases h
  | i2c =>
    simp only [mm_okI, mm_len] at hi
    subst hi
    simp only [mm_step] at h
    split at h
    · cases h
      exact lv_i2c hx hb hd rfl (kk _ _ _ hW hS hL)
    · cases h
  | i2b =>
    simp only [mm_okI, mm_len] at hi
    subst hi
    simp only [mm_step] at h
    split at h
    · cases h
      exact lv_i2b hx hb hd rfl (kk _ _ _ hW hS hL)
    · cases h
  | iushr =>
    simp only [mm_okI, mm_len] at hi
    subst hi
    simp only [mm_step] at h
    split at h
    · cases h
      exact lv_iushr hx hb hd rfl (kk _ _ _ hW hS hL)
    · cases h
  | idiv =>
    simp only [mm_okI, mm_len] at hi
    subst hi
    simp only [mm_step] at h
    split at h
    · split at h
      · cases h
      · rename_i hne
        cases h
        exact lv_idiv hx hb hd hne (kk _ _ _ hW hS hL)
    · cases h
  | irem =>
    simp only [mm_okI, mm_len] at hi
    subst hi
    simp only [mm_step] at h
    split at h
    · split at h
      · cases h
      · rename_i hne
        cases h
        exact lv_irem hx hb hd hne (kk _ _ _ hW hS hL)
    · cases h
  | ldiv =>
    simp only [mm_okI, mm_len] at hi
    subst hi
    simp only [mm_step] at h
    split at h
    · split at h
      · cases h
      · rename_i hne
        cases h
        exact lv_ldiv hx hb hd hne (kk _ _ _ hW hS hL)
    · cases h
  | lrem =>
    simp only [mm_okI, mm_len] at hi
    subst hi
    simp only [mm_step] at h
    split at h
    · split at h
      · cases h
      · rename_i hne
        cases h
        exact lv_lrem hx hb hd hne (kk _ _ _ hW hS hL)
    · cases h
  | dup =>
    simp only [mm_okI, mm_len] at hi
    subst hi
    simp only [mm_step] at h
    split at h
    · cases h
      exact lv_dup hx hb hd rfl (kk _ _ _ hW hS hL)
    · cases h
      exact lv_dup hx hb hd rfl (kk _ _ _ hW hS hL)
    · cases h
  | dup2 =>
    simp only [mm_okI, mm_len] at hi
    subst hi
    simp only [mm_step] at h
    split at h
    · cases h
      exact lv_dup2_11 hx hb hd rfl rfl (kk _ _ _ hW hS hL)
    · cases h
  | pop =>
    simp only [mm_okI, mm_len] at hi
    subst hi
    simp only [mm_step] at h
    split at h
    · cases h
      exact lv_pop hx hb hd rfl (kk _ _ _ hW hS hL)
    · cases h
  | goto off =>
    obtain ⟨rfl, hi⟩ := hi
    simp only [mm_step] at h
    cases h
    exact lv_goto hx hb hd hi (kk _ _ _ hW hS hL)
  | ifCond cnd off =>
    obtain ⟨rfl, hi⟩ := hi
    cases cnd with
    | eq =>
      simp only [mm_step] at h
      split at h
      · cases h
        refine lv_if_eq hx hb hd hi (fun q => ?_) (fun q => ?_)
        · have hk := kk _ _ _ hW hS hL
          rw [if_pos q] at hk
          exact hk
        · have hk := kk _ _ _ hW hS hL
          rw [if_neg q] at hk
          exact hk
      · cases h
    | ne =>
      simp only [mm_step] at h
      split at h
      · cases h
        refine lv_if_ne hx hb hd hi (fun q => ?_) (fun q => ?_)
        · have hk := kk _ _ _ hW hS hL
          rw [if_pos q] at hk
          exact hk
        · have hk := kk _ _ _ hW hS hL
          rw [if_neg (fun z => z q)] at hk
          exact hk
      · cases h
    | lt =>
      simp only [mm_step] at h
      split at h
      · cases h
        refine lv_if_lt hx hb hd hi (fun q => ?_) (fun q => ?_)
        · have hk := kk _ _ _ hW hS hL
          rw [if_pos q] at hk
          exact hk
        · have hk := kk _ _ _ hW hS hL
          rw [if_neg q] at hk
          exact hk
      · cases h
    | ge =>
      simp only [mm_step] at h
      split at h
      · cases h
        refine lv_if_ge hx hb hd hi (fun q => ?_) (fun q => ?_)
        · have hk := kk _ _ _ hW hS hL
          rw [if_pos q] at hk
          exact hk
        · have hk := kk _ _ _ hW hS hL
          rw [if_neg q] at hk
          exact hk
      · cases h
    | gt =>
      simp only [mm_step] at h
      split at h
      · cases h
        refine lv_if_gt hx hb hd hi (fun q => ?_) (fun q => ?_)
        · have hk := kk _ _ _ hW hS hL
          rw [if_pos q] at hk
          exact hk
        · have hk := kk _ _ _ hW hS hL
          rw [if_neg q] at hk
          exact hk
      · cases h
    | le =>
      simp only [mm_step] at h
      split at h
      · cases h
        refine lv_if_le hx hb hd hi (fun q => ?_) (fun q => ?_)
        · have hk := kk _ _ _ hW hS hL
          rw [if_pos q] at hk
          exact hk
        · have hk := kk _ _ _ hW hS hL
          rw [if_neg q] at hk
          exact hk
      · cases h
  | if_icmp cnd off =>
    obtain ⟨rfl, hi⟩ := hi
    cases cnd with
    | eq =>
      simp only [mm_step] at h
      split at h
      · cases h
        refine lv_icmp_eq hx hb hd hi (fun q => ?_) (fun q => ?_)
        · have hk := kk _ _ _ hW hS hL
          rw [if_pos q] at hk
          exact hk
        · have hk := kk _ _ _ hW hS hL
          rw [if_neg q] at hk
          exact hk
      · cases h
    | ne =>
      simp only [mm_step] at h
      split at h
      · cases h
        refine lv_icmp_ne hx hb hd hi (fun q => ?_) (fun q => ?_)
        · have hk := kk _ _ _ hW hS hL
          rw [if_pos q] at hk
          exact hk
        · have hk := kk _ _ _ hW hS hL
          rw [if_neg (fun z => z q)] at hk
          exact hk
      · cases h
    | lt =>
      simp only [mm_step] at h
      split at h
      · cases h
        refine lv_icmp_lt hx hb hd hi (fun q => ?_) (fun q => ?_)
        · have hk := kk _ _ _ hW hS hL
          rw [if_pos q] at hk
          exact hk
        · have hk := kk _ _ _ hW hS hL
          rw [if_neg q] at hk
          exact hk
      · cases h
    | ge =>
      simp only [mm_step] at h
      split at h
      · cases h
        refine lv_icmp_ge hx hb hd hi (fun q => ?_) (fun q => ?_)
        · have hk := kk _ _ _ hW hS hL
          rw [if_pos q] at hk
          exact hk
        · have hk := kk _ _ _ hW hS hL
          rw [if_neg q] at hk
          exact hk
      · cases h
    | gt =>
      simp only [mm_step] at h
      split at h
      · cases h
        refine lv_icmp_gt hx hb hd hi (fun q => ?_) (fun q => ?_)
        · have hk := kk _ _ _ hW hS hL
          rw [if_pos q] at hk
          exact hk
        · have hk := kk _ _ _ hW hS hL
          rw [if_neg q] at hk
          exact hk
      · cases h
    | le =>
      simp only [mm_step] at h
      split at h
      · cases h
        refine lv_icmp_le hx hb hd hi (fun q => ?_) (fun q => ?_)
        · have hk := kk _ _ _ hW hS hL
          rw [if_pos q] at hk
          exact hk
        · have hk := kk _ _ _ hW hS hL
          rw [if_neg q] at hk
          exact hk
      · cases h
  | tableswitch d lo hi9 os =>
    simp only [mm_step] at h
    obtain ⟨hi1, hi2⟩ := hi
    split at h
    · rename_i x st0
      split at h
      · rename_i hq
        cases h
        exact lv_tableOut hx hb hd hq (Int.toNat_of_nonneg hi1).symm (kk _ _ _ hW hS hL)
      · rename_i hq
        split at h
        · rename_i off ho
          cases h
          exact lv_tableIn hx hb hd (fun z => hq (Or.inl z)) (fun z => hq (Or.inr z)) ho (Int.toNat_of_nonneg (hi2 off (Array.mem_toList_iff.mpr (Array.mem_of_getElem? ho)))).symm (kk _ _ _ hW hS hL)
        · cases h
    · cases h
  | lookupswitch d ps =>
    simp only [mm_step] at h
    obtain ⟨hi1, hi2⟩ := hi
    split at h
    · rename_i x st0
      cases h
      exact lv_lookup hx hb hd hi2 rfl (Int.toNat_of_nonneg (hi1 x.toInt)).symm (kk _ _ _ hW hS hL)
    · cases h
  | getfield idx =>
    obtain ⟨rfl, hi⟩ := hi
    simp only [mm_step] at h
    split at h
    · rename_i o st0
      split at h
      · rename_i v9 hf
        cases h
        have hkk := kk _ _ _ hW hS hL
        unfold mm_fld at hf
        split at hf
        · rename_i k
          split at hf
          · rename_i c9 fs hM
            split at hf
            · rename_i hc9
              subst hc9
              have hg := hW k _ (mm_ws_at base ext cA hM)
              have hg' := hg
              obtain ⟨r, hr, -⟩ := hg'
              rcases hi with ⟨h99, hno, hl⟩ | ⟨q, hq, h99, hbq, hl⟩
              · rw [hno] at hr; cases hr
              · obtain ⟨g1, g2, g3⟩ := hcl _ q hq
                have hv : (fs.map (mm_en base ext))[b]? = some (mm_en base ext v9) := by rw [List.getElem?_map, hf]; rfl
                rcases hl with hl | ⟨host, hl⟩
                · exact va_get (C := q.1) (T := q.2.1) (N := q.2.2) hx hb hts g1 hown hKs.1 hW k (mm_ws_at base ext cA hM) hq b hbq (hts _ hl) (fun _ z => z) hv hd hkk
                · exact va_getN (C := q.1) (T := q.2.1) (N := q.2.2) hx hb hts g1 hown hKs.1 hW k (mm_ws_at base ext cA hM) hq b hbq (va_Nw.use rfl (hKs.2.2.2.2.2.1 _ _ _ _ _ _ hl)) (fun _ z => z) hv hd hkk
            · cases hf
          · cases hf
        · rename_i n9
          split at hf
          · rename_i fs hX9
            split at hf
            · rename_i h99
              obtain ⟨t, ht, -, hOF⟩ := hKs.2.2.1 _ _ hX9
              rcases hi with ⟨-, -, hl⟩ | ⟨q, hq, hn99, -⟩
              · simp only [List.map_cons, mm_en, ht, va_rf]
                exact vk_getf hx hb (hOF b v9 hf) hS hown (hts _ hl) (fun _ z => z) hd hkk
              · exact absurd h99 hn99
            · cases hf
          · cases hf
        · cases hf
      · cases h
    · cases h
  | putfield idx =>
    obtain ⟨rfl, q, hq, hbq, hi⟩ := hi
    simp only [mm_step] at h
    split at h
    · rename_i v9 o st0
      split at h
      · rename_i M1 hf
        cases h
        unfold mm_put at hf
        split at hf
        · rename_i k
          split at hf
          · rename_i c9 fs hM
            split at hf
            · rename_i hc9
              obtain ⟨rfl, hlen, hok⟩ := hc9
              cases hf
              obtain ⟨g1, g2, g3⟩ := hcl _ q hq
              obtain ⟨n1, n2⟩ := mm_okf_spec base ext hok
              have hlen' : b < (fs.map (mm_en base ext)).length := by simpa using hlen
              have key : ∀ (H1 : Heap) (locs1 : List Loc), va_P D cl ((mm_ws base ext cA M).set k (base + k, .inr (c9, (fs.map (mm_en base ext)).set b (mm_en base ext v9)))) H1 → va_D (mm_A base) ((mm_ws base ext cA M).set k (base + k, .inr (c9, (fs.map (mm_en base ext)).set b (mm_en base ext v9)))) → va_S (mm_A base) s.heap H1 locs1 → W p l e R s m args below meth c H1 locs1 cells slots Q (F0 m (pc + 3) ls (st'.map (mm_en base ext))) := by
                intro H1 locs1 hP1 _ hS1
                refine kk H1 locs1 ls ?_ hS1 hL
                unfold mm_Wd
                rw [mm_ws_set]
                simpa [mm_ec, List.map_set] using hP1
              rcases hi with ⟨hfin, hl | ⟨host, hl⟩⟩ | ⟨hfin, hl, hini, hdecl⟩
              · exact va_put (C := q.1) (T := q.2.1) (N := q.2.2) hx hb hts g1 (fty c9) g2 g3 hown hKs.1 hW (mm_D base ext cA M) hS k (mm_ws_at base ext cA hM) hq b hbq (hts _ hl) (fun _ z => z) hfin (g2 b hbq) n1 n2 hlen' hd key
              · exact va_putN (C := q.1) (T := q.2.1) (N := q.2.2) hx hb hts g1 (fty c9) g2 g3 hown hKs.1 hW (mm_D base ext cA M) hS k (mm_ws_at base ext cA hM) hq b hbq (va_Nw.use rfl (hKs.2.2.2.2.2.1 _ _ _ _ _ _ hl)) (fun _ z => z) hfin (g2 b hbq) n1 n2 hlen' hd key
              · exact va_putF (C := q.1) (T := q.2.1) (N := q.2.2) hx hb hts g1 (fty c9) g2 g3 hown hKs.1 hW (mm_D base ext cA M) hS k (mm_ws_at base ext cA hM) hq b hbq (hts _ hl) (fun _ z => z) hfin (hname.trans hini) hdecl (g2 b hbq) n1 n2 hlen' hd key
            · cases hf
          · cases hf
        · cases hf
      · cases h
    · cases h
  | iaload =>
    simp only [mm_okI, mm_len] at hi
    subst hi
    simp only [mm_step] at h
    split at h
    · rename_i j o st0
      split at h
      · rename_i xs hr
        split at h
        · rename_i x hxj
          cases h
          obtain ⟨a1, a2⟩ := mm_at_spec hxj
          have hkk := kk _ _ _ hW hS hL
          unfold mm_row at hr
          split at hr
          · rename_i k
            split at hr
            · rename_i xs9 hM
              cases hr
              refine va_iald hx hb hKs.1 hW k 0 (mm_ws_at base ext cA hM) rfl a1 hd ?_
              rw [a2]
              exact hkk
            · cases hr
          · rename_i n9
            split at hr
            · rename_i h50
              split at hr
              · rename_i xs9 hX9
                cases hr
                obtain ⟨t, ht, cell, t1, t2, t3, t4, t5, t6, t7⟩ := hKs.2.1 _ _ hX9
                simp only [List.map_cons, mm_en, ht, va_rf]
                have hlt : j.toNatClampNeg < xs.length := Nat.not_le.mp fun q => a1 (Or.inr q)
                have hty : mm_xt n9 = .int := if_pos h50
                rw [hty] at t2
                exact W.iald (v := .int x) hx hb (by rw [hS.2.1 t (Array.getElem?_eq_some_iff.mp t1).1 t7]; exact t1) t2 t3 (fun q => by rcases q with q | q; exact a1 (Or.inl q); omega) (by rw [t6 _ hlt]; show some (Value.int (xs.getD _ 0)) = _; rw [a2]) rfl rfl hd hkk
              · cases hr
            · cases hr
          · cases hr
        · cases h
      · cases h
    · cases h
  | baload =>
    simp only [mm_okI, mm_len] at hi
    subst hi
    simp only [mm_step] at h
    split at h
    · rename_i j n9 st0
      split at h
      · cases h
      · rename_i h50
        split at h
        · rename_i xs hX9
          split at h
          · rename_i x hxj
            cases h
            obtain ⟨a1, a2⟩ := mm_at_spec hxj
            have hkk := kk _ _ _ hW hS hL
            obtain ⟨t, ht, cell, t1, t2, t3, t4, t5, t6, t7⟩ := hKs.2.1 _ _ hX9
            simp only [List.map_cons, mm_en, ht, va_rf]
            have hlt : j.toNatClampNeg < xs.length := Nat.not_le.mp fun q => a1 (Or.inr q)
            have hty : mm_xt n9 = .byte := if_neg h50
            rw [hty] at t2
            exact W.bald (v := .int x) hx hb (by rw [hS.2.1 t (Array.getElem?_eq_some_iff.mp t1).1 t7]; exact t1) t2 t3 (fun q => by rcases q with q | q; exact a1 (Or.inl q); omega) (by rw [t6 _ hlt]; show some (Value.int (xs.getD _ 0)) = _; rw [a2]) rfl rfl hd hkk
          · cases h
        · cases h
    · cases h
  | iastore =>
    simp only [mm_okI, mm_len] at hi
    subst hi
    simp only [mm_step] at h
    split at h
    · rename_i x j o st0
      split at h
      · rename_i M1 hf
        cases h
        unfold mm_sti at hf
        split at hf
        · rename_i k
          split at hf
          · rename_i xs hM
            split at hf
            · cases hf
            · rename_i hn
              split at hf
              · rename_i hlt
                cases hf
                have a1 : vp_in j xs.length := fun q => by
                  rcases q with q | q
                  · exact hn q
                  · omega
                refine va_iast hx hb hKs.1 hW (mm_D base ext cA M) hS k 0 (mm_ws_at base ext cA hM) rfl a1 hd (fun H1 locs1 hP1 _ hS1 => ?_)
                refine kk H1 locs1 ls ?_ hS1 hL
                · unfold mm_Wd
                  rw [mm_ws_set]
                  have e1 : mm_ec base ext cA (.inl (xs.set j.toNatClampNeg x)) = .inl (cA 0, xs.length, .inl (upd (fun j => xs.getD j 0) j.toNatClampNeg x)) := by
                    simp only [mm_ec, List.length_set, mm_upd hlt]
                  rw [e1]
                  exact hP1
              · cases hf
          · cases hf
        · cases hf
      · cases h
    · cases h
  | aaload =>
    simp only [mm_okI, mm_len] at hi
    subst hi
    simp only [mm_step] at h
    split at h
    · rename_i j k st0
      split at h
      · rename_i t9 rs hM
        split at h
        · rename_i ht9
          split at h
          · rename_i r hxj
            cases h
            obtain ⟨a1, a2⟩ := mm_atq_spec hxj
            have hkk := kk _ _ _ hW hS hL
            have e9 : mm_en base ext (mm_rf r) = va_rf (r.map (fun k => base + k)) := by cases r <;> rfl
            rw [List.map_cons, e9, ← a2] at hkk
            have hlt : j.toNatClampNeg < rs.length := Nat.not_le.mp fun q => a1 (Or.inr q)
            rcases ht9 with rfl | rfl
            · exact W.aald (ty := .object lay) (v := va_rf ((rs.getD j.toNatClampNeg none).map (fun k => base + k))) hx hb (hW k _ (mm_ws_at base ext cA hM)) ((hKs.1.2 1 _ rfl).1 rs.length (fun j => va_rf ((rs.getD j none).map (fun k => base + k)))) rfl (fun q => by cases q) (by show ¬ (j < 0 ∨ (arrV _ _ _).slots.size ≤ _); rw [arrV_size]; exact a1) (by show (arrV _ _ _).slots[_]? = _; rw [arrV_read _ _ hlt]) rfl rfl hd hkk
            · exact W.aald (ty := .array .int) (v := va_rf ((rs.getD j.toNatClampNeg none).map (fun k => base + k))) hx hb (hW k _ (mm_ws_at base ext cA hM)) ((hKs.1.2 2 _ rfl).1 rs.length (fun j => va_rf ((rs.getD j none).map (fun k => base + k)))) rfl (fun q => by cases q) (by show ¬ (j < 0 ∨ (arrV _ _ _).slots.size ≤ _); rw [arrV_size]; exact a1) (by show (arrV _ _ _).slots[_]? = _; rw [arrV_read _ _ hlt]) rfl rfl hd hkk
          · cases h
        · cases h
      · cases h
    · cases h
  | arraylength =>
    simp only [mm_okI, mm_len] at hi
    subst hi
    simp only [mm_step] at h
    split at h
    · rename_i n9 st0
      split at h
      · rename_i xs hX9
        cases h
        have hkk := kk _ _ _ hW hS hL
        obtain ⟨t, ht, cell, t1, t2, t3, t4, t5, t6, t7⟩ := hKs.2.1 _ _ hX9
        simp only [List.map_cons, mm_en, ht, va_rf]
        exact W.alen (n := Int32.ofNat xs.length) hx hb (by rw [hS.2.1 t (Array.getElem?_eq_some_iff.mp t1).1 t7]; exact t1) t2 t5 rfl rfl hd hkk
      · cases h
    · cases h
  | _ => simp [mm_step] at h
end MM2
end
section
section MM3
variable (base : Nat) (ext : Nat → Option Nat) (cA : Nat → ClassId) (D : va_G) (cl : List vw_C) (lay : String)
theorem mm_outer (c : ClassId) (N h0 : Nat) : ∀ i : Nat, Jvm.Free.Multi.outerC c N h0 i = arrV c N (fun j => va_rf (if j < i then some (h0 + 1 + j) else none)) := by
  intro i
  induction i with
  | zero =>
    show ({ cls := c, slots := Array.replicate N .null, vm := .none } : Cell) = _
    rw [arrV_new]
    refine congrArg (arrV c N) (funext fun j => ?_)
    simp [va_rf]
  | succ i ih =>
    show (Jvm.Free.Multi.outerC c N h0 i).setSlot i (.ref (h0 + 1 + i)) = _
    rw [ih, arrV_store]
    refine congrArg (arrV c N) (funext fun j => ?_)
    by_cases e : j = i
    · subst e
      simp [updV, va_rf]
    · by_cases h : j < i
      · simp [updV, e, h, Nat.lt_succ_of_lt h]
      · simp [updV, e, h, show ¬ j < i + 1 by omega]
def mm_multi (M : mm_M) (N K : Nat) : mm_M := M ++ (.inr (.inl (2, (List.range N).map (fun j => some (M.length + 1 + j)))) :: List.replicate N (.inl (List.replicate K 0)))
variable {p : Program} {l : Launch} {e : Env} {R : Room} {s : State} {m : MethodId} {args : Array Value} {below : List Frame} {meth : Method} {c : Code} {Q : State → Prop}
theorem mm_mna {cc : ByteArray} (hx : p.tables.exec = Jvm.exec) (hb : c.code = cc) {own : String} {index : Nat} (hown : s.vm.findClass own = some m.cls) (hclink : (Cond.classLink own index ("[" ++ (FieldType.array .int).toString)).before args s = true) (hover : (Cond.arrayOver (.array .int)).before args s = true) (harr : (Cond.arrayClass .int).before args s = true)
    (hK : va_K D cl [(cA 0, .int), (cA 1, .object lay), (cA 2, .array .int)] s) {M : mm_M} {H : Heap} {locs : List Loc} {cells slots pc : Nat} {ls : Array Slot} {rest : List Value} (hW : mm_Wd base ext cA D cl M H) (hsz : H.size = base + M.length) (hS : va_S (mm_A base) s.heap H locs) {n k : Int32} (hn : ¬ n < 0) (hk : ¬ k < 0) (hb1 : n.toNatClampNeg * 4 ≤ 536870912) (hb2 : k.toNatClampNeg * 4 ≤ 536870912)
    (hcells : cells + (1 + n.toNatClampNeg) ≤ R.cells) (hslots : slots + (n.toNatClampNeg + n.toNatClampNeg * k.toNatClampNeg) ≤ R.slots) (hdg : decode cc pc = .ok (.multianewarray index 2, 4))
    (kk : ∀ H1 : Heap, mm_Wd base ext cA D cl (mm_multi M n.toNatClampNeg k.toNatClampNeg) H1 → va_S (mm_A base) s.heap H1 locs → W p l e R s m args below meth c H1 locs (cells + 1 + n.toNatClampNeg) (slots + n.toNatClampNeg + n.toNatClampNeg * k.toNatClampNeg) Q (F0 m (pc + 4) ls (.ref (base + M.length) :: rest))) : W p l e R s m args below meth c H locs cells slots Q (F0 m pc ls (.int k :: .int n :: rest)) := by
  intro T hT Xs
  obtain ⟨vm₁, cB, comp, -, fA, fC, hO, -, X', step⟩ := Xs.multianewarray2F hx hown hclink hover harr (g := F0 m pc ls (.int k :: .int n :: rest)) rfl (by rw [hb]; exact hdg) rfl hn hk hb1 hb2 (by omega) rfl rfl hcells hslots
  have e2 : cB = cA 2 := Option.some.inj (fA.symm.trans (hK.2 2 _ rfl).2)
  have e0 : comp = cA 0 := Option.some.inj (fC.symm.trans (hK.2 0 _ rfl).2)
  subst e2
  subst e0
  generalize hF : Jvm.Free.Multi.fill (T.setVm vm₁) (cA 2) (cA 0) n.toNatClampNeg k.toNatClampNeg (defaultValue .int) n.toNatClampNeg = F at X' step
  have hTh : (T.setVm vm₁).heap = H := hT
  obtain ⟨f1, f2, -, -⟩ := Jvm.Free.Multi.fill_facts (T.setVm vm₁) (cA 2) (cA 0) n.toNatClampNeg k.toNatClampNeg (defaultValue .int) n.toNatClampNeg
  rw [hF, hTh] at f1 f2
  have hold : ∀ x : Nat, x < H.size → F.heap[x]? = H[x]? := fun x hx => by
    have := Jvm.Free.Multi.fill_old (T.setVm vm₁) (cA 2) (cA 0) n.toNatClampNeg k.toNatClampNeg (defaultValue .int) (a := x) (by rw [hTh]; exact hx) n.toNatClampNeg
    rw [hF, hTh] at this
    exact this
  have hrow : ∀ j : Nat, j < n.toNatClampNeg → F.heap[H.size + 1 + j]? = some (Jvm.Free.Multi.innerC (cA 0) k.toNatClampNeg (defaultValue .int)) := fun j hj => by
    have := Jvm.Free.Multi.fill_inner (T.setVm vm₁) (cA 2) (cA 0) n.toNatClampNeg k.toNatClampNeg (defaultValue .int) n.toNatClampNeg j hj
    rw [hF, hTh] at this
    exact this
  have hWn : mm_Wd base ext cA D cl (mm_multi M n.toNatClampNeg k.toNatClampNeg) F.heap := by
    intro i q hq
    rw [mm_ws_get] at hq
    unfold mm_multi at hq
    by_cases h1 : i < M.length
    · rw [List.getElem?_append_left h1] at hq
      have hq' : (mm_ws base ext cA M)[i]? = some q := by rw [mm_ws_get]; exact hq
      have h3 := hW i q hq'
      exact h3.kept (hold q.1 h3.lt)
    · rw [List.getElem?_append_right (by omega)] at hq
      cases h2 : i - M.length with
      | zero =>
        rw [h2] at hq
        simp only [List.getElem?_cons_zero, Option.map_some, Option.some.injEq] at hq
        subst hq
        have hi : base + i = H.size := by omega
        show F.heap[base + i]? = some (vp_cell _ _)
        rw [hi, f2, mm_outer]
        simp only [mm_ec, vp_cell, List.length_map, List.length_range]
        congr 2
        funext j
        by_cases hj : j < n.toNatClampNeg
        · have e8 : H.size + 1 + j = base + (M.length + 1 + j) := by omega
          simp [hj, List.getD_eq_getElem?_getD, e8]
        · simp [hj, List.getD_eq_getElem?_getD]
      | succ j =>
        rw [h2] at hq
        simp only [List.getElem?_cons_succ] at hq
        by_cases hj : j < n.toNatClampNeg
        · rw [List.getElem?_replicate_of_lt hj] at hq
          simp only [Option.map_some, Option.some.injEq] at hq
          subst hq
          have hi : base + i = H.size + 1 + j := by omega
          show F.heap[base + i]? = some (vp_cell _ _)
          rw [hi, hrow j hj]
          simp only [mm_ec, vp_cell, List.length_replicate]
          congr 1
          have e9 : (fun j => Value.int ((List.replicate k.toNatClampNeg (0 : Int32)).getD j 0)) = fun _ => defaultValue .int := by
            funext j9
            by_cases h9 : j9 < k.toNatClampNeg
            · simp [List.getD_eq_getElem?_getD, h9, defaultValue]
            · simp [List.getD_eq_getElem?_getD, h9, defaultValue]
          rw [e9]
          exact arrV_new _ _ _
        · rw [List.getElem?_eq_none (by simp; omega)] at hq
          cases hq
  obtain ⟨t, a1, b1⟩ := kk F.heap hWn ⟨by rw [f1]; have := hS.1; omega, fun x h1 h2 => (hold x (Nat.lt_of_lt_of_le h1 hS.1)).trans (hS.2.1 x h1 h2), hS.2.2⟩ F rfl X'
  refine ⟨t, step t ?_, b1⟩
  have e : T.heap.size = base + M.length := by rw [hT, hsz]
  rw [e]
  exact a1
end MM3
end
section
/-! calls, returns, makings; the run of a method's body -/
abbrev mm_Mt : Type := MethodName × ByteArray × Nat × Option FieldType × Nat × (Nat → Option mm_I)
def mm_nar (ty : FieldType) (v : Int32) : Bool := match ty with
  | .int => true
  | .boolean => v == 0 || v == 1
  | .char => (v.toUInt32 % 65536).toInt32 == v
  | .byte => v.toInt8.toInt32 == v
  | _ => false
def mm_isRt (ret : Option FieldType) : Bool := match ret with
  | some (.object _) => true
  | some (.array _) => true
  | _ => false
def mm_ret (ret : Option FieldType) (i : mm_I) (st : List Value) : Option (Option Value) := match i with
  | (.ireturn, _) => (match st with | [.int v] => (match ret with | some ty => if mm_nar ty v = true then some (some (.int v)) else none | none => none) | _ => none)
  | (.lreturn, _) => (match st with | [.long v] => (match ret with | some .long => some (some (.long v)) | _ => none) | _ => none)
  | (.areturn, _) => (match st with | [.ref v] => if mm_isRt ret = true then some (some (.ref v)) else none | [.retAddr v] => if mm_isRt ret = true then some (some (.retAddr v)) else none | _ => none)
  | (.return_, _) => (match st with | [] => (match ret with | none => some none | _ => none) | _ => none)
  | _ => none
def mm_inv (i : mm_I) : Option (Nat × Nat × Nat) := match i with
  | (.invokevirtual _, _, k, n, _) => some (0, k, n)
  | (.invokespecial _, _, k, n, _) => if k = 999 then none else some (1, k, n)
  | (.invokestatic _, _, k, n, _) => if k = 997 ∨ k = 998 then none else some (2, k, n)
  | _ => none
def mm_rok (X : mm_X) (M : mm_M) (kd ci : Nat) (as : List Value) : Bool := match kd with
  | 0 => (match as with
    | .ref b :: _ => (match M[b]? with | some (.inr (.inr (c, _))) => c == ci && !(ci == 99) | _ => false)
    | .retAddr n :: _ => (match X n with | some (.inr _) => ci == 99 | _ => false)
    | _ => false)
  | 1 => (match as with
    | .ref _ :: _ => true
    | _ => false)
  | 2 => true
  | _ => false
def mm_make (nf : Nat → List Value) (li : Nat) (i : mm_I) (pc : Nat) (st : List Value) (M : mm_M) : Option (Nat × List Value × mm_M) := match i with
  | (.new _, _, a, _) => some (pc + 3, .ref M.length :: st, M ++ [.inr (.inr (a, nf a))])
  | (.newarray .int, _) => (match st with | .int n :: st => if n < 0 ∨ 1000 < n.toNatClampNeg then none else some (pc + 2, .ref M.length :: st, M ++ [.inl (List.replicate n.toNatClampNeg 0)]) | _ => none)
  | (.anewarray _, _) => (match st with | .int n :: st => if n < 0 ∨ 1000 < n.toNatClampNeg then none else some (pc + 3, .ref M.length :: st, M ++ [.inr (.inl (1, List.replicate n.toNatClampNeg none))]) | _ => none)
  | (.multianewarray _ 2, _) => (match st with | .int k :: .int n :: st => if (n < 0 ∨ k < 0) ∨ 1000 < n.toNatClampNeg ∨ 1000 < k.toNatClampNeg then none else some (pc + 4, .ref M.length :: st, mm_multi M n.toNatClampNeg k.toNatClampNeg) | _ => none)
  | (.aastore, _) => (match st with
    | .ref v :: .int j :: .ref a :: st => (match M[a]? with
      | some (.inr (.inl (1, rs))) => (match M[v]? with
        | some (.inr (.inr (ci, _))) => if ci = li ∧ ¬ j < 0 ∧ j.toNatClampNeg < rs.length then some (pc + 1, st, M.set a (.inr (.inl (1, rs.set j.toNatClampNeg (some v))))) else none
        | _ => none)
      | _ => none)
    | _ => none)
  | (.invokespecial _, _, k, _) => if k = 999 then (match st with | .ref _ :: st => if (st.map Value.category).sum ≤ 8 then some (pc + 3, st, M) else none | _ => none) else none
  | (.invokestatic _, _, k, _) => if k = 997 then (match st with | .int y :: .int x :: st => if (st.map Value.category).sum ≤ 8 then some (pc + 3, .int (if x < y then y else x) :: st, M) else none | _ => none) else if k = 998 then (match st with | .int y :: .int x :: st => if (st.map Value.category).sum ≤ 8 then some (pc + 3, .int (if y < x then y else x) :: st, M) else none | _ => none) else none
  | _ => none
def mm_run (fty : Nat → Nat → FieldType) (X : mm_X) (nf : Nat → List Value) (li : Nat) (cls : Nat → Nat) (call : Nat → List Value → mm_M → Option (Option Value × mm_M)) (ret : Option FieldType) (code : Nat → Option mm_I) : Nat → Nat → mm_L → List Value → mm_M → Option (Option Value × mm_M)
  | 0, _, _, _, _ => none
  | f + 1, pc, L, st, M => match code pc with
    | none => none
    | some i => match mm_ret ret i st with
      | some r => some (r, M)
      | none => match mm_inv i with
        | some (kd, k, n) => if n ≤ st.length ∧ mm_rok X M kd (cls k) (st.take n).reverse = true ∧ ((st.drop n).map Value.category).sum ≤ 8 then
            (match call k (st.take n).reverse M with
            | some (r, M1) => mm_run fty X nf li cls call ret code f (pc + 3) L (r.toList ++ st.drop n) M1
            | none => none) else none
        | none => match mm_make nf li i pc st M with
          | some (pc1, st1, M1) => mm_run fty X nf li cls call ret code f pc1 L st1 M1
          | none => match mm_step fty X i pc L st M with
            | some (pc1, L1, st1, M1) => mm_run fty X nf li cls call ret code f pc1 L1 st1 M1
            | none => none
def mm_ent : List Value → mm_L
  | [] => []
  | .long x :: vs => some (.long x) :: none :: mm_ent vs
  | .double x :: vs => some (.double x) :: none :: mm_ent vs
  | v :: vs => some v :: mm_ent vs
def mm_entry (as : List Value) (n : Nat) : mm_L := mm_ent as ++ List.replicate (n - (mm_ent as).length) none
def mm_cls (P : Nat → Option mm_Mt) (k : Nat) : Nat := match P k with
  | some (_, _, _, _, ci, _) => ci
  | none => 0
/-- F: the most instructions of one body; the depth of calls counts down -/
def mm_ev (fty : Nat → Nat → FieldType) (X : mm_X) (nf : Nat → List Value) (li : Nat) (P : Nat → Option mm_Mt) (F : Nat) : Nat → Nat → List Value → mm_M → Option (Option Value × mm_M)
  | 0, _, _, _ => none
  | d + 1, k, as, M => match P k with
    | none => none
    | some (_, _, n, ret, _, code) => if (mm_ent as).length ≤ n then mm_run fty X nf li (mm_cls P) (mm_ev fty X nf li P F d) ret code F 0 (mm_entry as n) [] M else none
theorem mm_sl_set {M : mm_M} {k : Nat} {c c1 : mm_C} (h : M[k]? = some c) (hs : mm_size c1 = mm_size c) : mm_sl (M.set k c1) = mm_sl M := by
  unfold mm_sl
  rw [List.map_set]
  congr 1
  have h2 : (M.map mm_size)[k]? = some (mm_size c1) := by rw [List.getElem?_map, h, hs]; rfl
  obtain ⟨hl, he⟩ := List.getElem?_eq_some_iff.mp h2
  rw [← he]
  exact List.set_getElem_self hl
theorem mm_sl_app (M N : mm_M) : mm_sl (M ++ N) = mm_sl M + mm_sl N := by
  unfold mm_sl
  rw [List.map_append, List.sum_append]
theorem mm_put_len {fty : Nat → Nat → FieldType} {M M1 : mm_M} {o v : Value} {ci k : Nat} (h : mm_put fty M o v ci k = some M1) : M1.length = M.length ∧ mm_sl M1 = mm_sl M := by
  unfold mm_put at h
  split at h
  · split at h
    · rename_i hM
      split at h
      · cases h
        exact ⟨by simp, mm_sl_set hM (by simp [mm_size])⟩
      · cases h
    · cases h
  · cases h
theorem mm_sti_len {M M1 : mm_M} {o : Value} {i x : Int32} (h : mm_sti M o i x = some M1) : M1.length = M.length ∧ mm_sl M1 = mm_sl M := by
  unfold mm_sti at h
  split at h
  · split at h
    · rename_i hM
      split at h
      · cases h
      · split at h
        · cases h
          exact ⟨by simp, mm_sl_set hM (by simp [mm_size])⟩
        · cases h
    · cases h
  · cases h
theorem mm_sto1_len (L : mm_L) (i : Nat) (v : Value) : (mm_sto1 L i v).length = L.length := by simp [mm_sto1, mm_clr_len]
theorem mm_sto2_len (L : mm_L) (i : Nat) (v : Value) : (mm_sto2 L i v).length = L.length := by simp [mm_sto2, mm_clr_len]
set_option maxHeartbeats 4000000 in
theorem mm_step_len {fty : Nat → Nat → FieldType} {X : mm_X} {i : mm_I} {pc pc' : Nat} {L L' : mm_L} {st st' : List Value} {M M' : mm_M} (h : mm_step fty X i pc L st M = some (pc', L', st', M')) : L'.length = L.length ∧ M'.length = M.length ∧ mm_sl M' = mm_sl M := by
  unfold mm_step at h
  (repeat' (first | (cases h; done) | (cases h; exact ⟨rfl, rfl, rfl⟩) | (cases h; exact ⟨mm_sto1_len _ _ _, rfl, rfl⟩) | (cases h; exact ⟨mm_sto2_len _ _ _, rfl, rfl⟩) | (rename_i hq; cases h; exact ⟨rfl, mm_put_len hq⟩) | (rename_i hq; cases h; exact ⟨rfl, mm_sti_len hq⟩) | split at h))
theorem mm_make_len {nf : Nat → List Value} {li : Nat} {i : mm_I} {pc pc' : Nat} {st st' : List Value} {M M' : mm_M} (h : mm_make nf li i pc st M = some (pc', st', M')) : M.length ≤ M'.length ∧ mm_sl M ≤ mm_sl M' := by
  unfold mm_make at h
  (repeat' (first | (cases h; done) | (cases h; exact ⟨Nat.le_refl _, Nat.le_refl _⟩) | (cases h; exact ⟨by simp, by rw [mm_sl_app]; omega⟩) | (cases h; exact ⟨by simp [mm_multi], by unfold mm_multi; rw [mm_sl_app]; omega⟩) | (rename_i hq _ _ _ _ _; cases h; exact ⟨by simp, Nat.le_of_eq (mm_sl_set hq (by simp [mm_size])).symm⟩) | split at h))
end
section
section MM5
variable (base : Nat) (ext : Nat → Option Nat) (cA : Nat → ClassId) (D : va_G) (cl : List vw_C) (tb : List Cond) (X : mm_X) (sf : Nat → String × String) (sts : List (String × String × String × Value)) (sks : List (String × Nat × String × Nat)) (nws : List Cond) (lay : String) (fty : Nat → Nat → FieldType) (nf : Nat → List Value) (li : Nat) (P : Nat → Option mm_Mt)
/-- what a making or a call needs of the words -/
def mm_okJ (own : String) (i : mm_I) : Prop := match i with
  | (.new idx, n, a, _) => n = 3 ∧ ∃ q : vw_C, cl[a]? = some q ∧ Cond.classLink own idx q.1 ∈ tb ∧ Cond.instantiable q.1 q.2.2 ∈ tb ∧ Cond.initialized q.1 ∈ tb ∧ (nf a).length = q.2.2 ∧ ∀ j, j < q.2.2 → (nf a)[j]? = some (defaultValue (fty a j))
  | (.newarray _, _) => Cond.arrayClass .int ∈ tb
  | (.anewarray idx, _) => Cond.classLink own idx lay ∈ tb
  | (.multianewarray idx _, _) => Cond.classLink own idx ("[" ++ (FieldType.array .int).toString) ∈ tb ∧ Cond.arrayClass .int ∈ tb
  | (.aastore, _) => ∃ q : vw_C, cl[li]? = some q ∧ q.1 = lay
  | (.invokevirtual idx, n, k, na, _) => n = 3 ∧ ∃ (y : MethodName) (b : ByteArray) (mL : Nat) (rt : Option FieldType) (ci : Nat) (co : Nat → Option mm_I), P k = some (y, b, mL, rt, ci, co) ∧ Cond.methodLink own idx y ∈ tb ∧ Cond.instanceMethod y ∈ tb ∧ Cond.selects y.cls y y ∈ tb ∧ Cond.initialized y.cls ∈ tb ∧ y.cls ≠ "java/lang/invoke/MethodHandle" ∧ y.cls ≠ "java/lang/invoke/VarHandle" ∧ 0 < na ∧ (parseMethodDescriptor y.desc).map (fun d => d.parameters.length) = some (na - 1) ∧ ((ci = 99 ∧ y.cls = "java/lang/String") ∨ ∃ q : vw_C, cl[ci]? = some q ∧ q.1 = y.cls ∧ ¬ ci = 99)
  | (.invokespecial idx, n, k, na, _) => n = 3 ∧ ((k = 999 ∧ Cond.methodLink own idx Lib.objectInit ∈ tb ∧ Cond.instanceMethod Lib.objectInit ∈ tb ∧ Cond.code Lib.objectInit ⟨#[0xb1]⟩ 1 none ∈ tb) ∨ (¬ k = 999 ∧ ∃ (y : MethodName) (b : ByteArray) (mL : Nat) (ci : Nat) (co : Nat → Option mm_I), P k = some (y, b, mL, none, ci, co) ∧ (Cond.methodLink own idx y ∈ tb ∨ ∃ host : String, Cond.methodLinkNest own idx y host ∈ nws) ∧ Cond.instanceMethod y ∈ tb ∧ Cond.initialized y.cls ∈ tb ∧ y.name = "<init>" ∧ y.cls ≠ "java/lang/invoke/MethodHandle" ∧ y.cls ≠ "java/lang/invoke/VarHandle" ∧ 0 < na ∧ (parseMethodDescriptor y.desc).map (fun d => d.parameters.length) = some (na - 1)))
  | (.invokestatic idx, n, k, na, _) => n = 3 ∧ ((k = 997 ∧ Cond.methodLink own idx Lib.Math.max.name ∈ tb ∧ Cond.static Lib.Math.max.name ∈ tb ∧ Cond.initialized "java/lang/Math" ∈ tb ∧ Cond.code Lib.Math.max.name Lib.Math.max.code 2 (some .int) ∈ tb) ∨ (k = 998 ∧ Cond.methodLink own idx Lib.Math.min.name ∈ tb ∧ Cond.static Lib.Math.min.name ∈ tb ∧ Cond.initialized "java/lang/Math" ∈ tb ∧ Cond.code Lib.Math.min.name Lib.Math.min.code 2 (some .int) ∈ tb) ∨ (¬ (k = 997 ∨ k = 998) ∧ ∃ (y : MethodName) (b : ByteArray) (mL : Nat) (rt : Option FieldType) (ci : Nat) (co : Nat → Option mm_I), P k = some (y, b, mL, rt, ci, co) ∧ (Cond.methodLink own idx y ∈ tb ∨ ∃ host : String, Cond.methodLinkNest own idx y host ∈ nws) ∧ Cond.static y ∈ tb ∧ Cond.initialized y.cls ∈ tb ∧ y.cls ≠ "java/lang/invoke/MethodHandle" ∧ y.cls ≠ "java/lang/invoke/VarHandle" ∧ (parseMethodDescriptor y.desc).map (fun d => d.parameters.length) = some na))
  | _ => True
variable {p : Program} {l : Launch} {e : Env} {R : Room} {s : State} {m : MethodId} {args : Array Value} {below : List Frame} {meth : Method} {c : Code} {Q : State → Prop}
theorem mm_Wd_lo {M : mm_M} {H : Heap} (hW : mm_Wd base ext cA D cl M H) (hb : base ≤ H.size) : base + M.length ≤ H.size := by
  cases hM : M.length with
  | zero => omega
  | succ n =>
    have hl : n < M.length := by omega
    have h1 := hW n _ (mm_ws_at base ext cA (List.getElem?_eq_getElem hl))
    have h2 : base + n < H.size := h1.lt
    omega
theorem mm_W_size {M : mm_M} {H : Heap} {locs : List Loc} {cells slots : Nat} {g : JFrame} (hW : mm_Wd base ext cA D cl M H) (hb : base ≤ H.size) (hz : s.heap.size + cells = base + M.length) (kk : H.size = base + M.length → W p l e R s m args below meth c H locs cells slots Q g) : W p l e R s m args below meth c H locs cells slots Q g := by
  intro T hT Xs
  have h1 := Xs.heapSize
  rw [hT] at h1
  have h2 := mm_Wd_lo base ext cA D cl hW hb
  exact kk (by omega) T hT Xs
theorem mm_W_new {M : mm_M} {H : Heap} {locs : List Loc} {cells slots q : Nat} {ce : va_E} {g : JFrame} (hP : va_P D cl (mm_ws base ext cA M ++ [(q, ce)]) H) (hD : va_D (mm_A base) (mm_ws base ext cA M ++ [(q, ce)])) (hz : s.heap.size + cells = base + M.length + 1) (kk : q = base + M.length → W p l e R s m args below meth c H locs cells slots Q g) : W p l e R s m args below meth c H locs cells slots Q g := by
  intro T hT Xs
  have h1 := Xs.heapSize
  rw [hT] at h1
  have hlen : (mm_ws base ext cA M).length = M.length := by simp [mm_ws]
  have hq : (mm_ws base ext cA M ++ [(q, ce)])[M.length]? = some (q, ce) := by
    rw [List.getElem?_append_right (by omega), hlen, Nat.sub_self]; rfl
  have h2 : q < H.size := (hP _ _ hq).lt
  have h3 : base ≤ q := hD.2 _ _ hq
  have h4 : ¬ q < base + M.length := by
    intro hlt
    have hl : q - base < M.length := by omega
    have hk : (mm_ws base ext cA M ++ [(q, ce)])[q - base]? = some (base + (q - base), mm_ec base ext cA M[q - base]) := by
      rw [List.getElem?_append_left (by omega)]
      exact mm_ws_at base ext cA (List.getElem?_eq_getElem hl)
    have := hD.1 _ _ _ _ hk hq (by show base + (q - base) = q; omega)
    omega
  exact kk (by omega) T hT Xs
theorem mm_en_def (ty : FieldType) : mm_en base ext (defaultValue ty) = defaultValue ty := by
  cases ty <;> rfl
set_option maxHeartbeats 4000000 in
theorem mm_make_snd (hcl : mm_okC cl tb fty) {own nm : String} {cc : ByteArray} (hx : p.tables.exec = Jvm.exec) (hb : c.code = cc) (hown : s.vm.findClass own = some m.cls) (hts : ∀ w ∈ tb, w.before args s = true) (hKs : mm_Ks base ext cA D cl X sf sts sks nws lay s)
    {i : mm_I} {pc pc' : Nat} {st st' : List Value} {M M' : mm_M} (hi : mm_okI cl tb sf sts sks nws own nm cc pc i) (hj : mm_okJ cl tb nws lay fty nf li P own i) (h : mm_make nf li i pc st M = some (pc', st', M')) {H : Heap} {locs : List Loc} {cells slots : Nat} {ls : Array Slot} (hW : mm_Wd base ext cA D cl M H) (hS : va_S (mm_A base) s.heap H locs)
    (hz : s.heap.size + cells = base + M.length) (hbs : base ≤ s.heap.size) (hcells : cells + (M'.length - M.length) ≤ R.cells) (hslots : slots + (mm_sl M' - mm_sl M) ≤ R.slots) (hls : ls.size = c.maxLocals) (hfr : 1 ≤ R.frames) (hlo : 30 ≤ R.locals)
    (kk : ∀ (H' : Heap) (locs' : List Loc), mm_Wd base ext cA D cl M' H' → va_S (mm_A base) s.heap H' locs' → W p l e R s m args below meth c H' locs' (cells + (M'.length - M.length)) (slots + (mm_sl M' - mm_sl M)) Q (F0 m pc' ls (st'.map (mm_en base ext)))) :
    W p l e R s m args below meth c H locs cells slots Q (F0 m pc ls (st.map (mm_en base ext))) := by
  obtain ⟨ins, n, a, b, v, pl⟩ := i
  obtain ⟨hd, hi⟩ := hi
  have hA : ∀ q, s.heap.size ≤ q → mm_A base q := fun q h => Nat.le_trans hbs h
  cases ins with
  | new idx =>
    simp only [mm_make] at h
    obtain ⟨rfl, q, hq, w1, w2, w3, hlen, hdf⟩ := hj
    obtain ⟨g1, g2, g3⟩ := hcl _ q hq
    cases h
    have e1 : (M ++ [(.inr (.inr (a, nf a)) : mm_C)]).length - M.length = 1 := by simp
    have e2 : mm_sl (M ++ [(.inr (.inr (a, nf a)) : mm_C)]) - mm_sl M = q.2.2 := by
      rw [mm_sl_app]
      simp [mm_sl, mm_size, hlen]
    rw [e1] at hcells kk
    rw [e2] at hslots kk
    refine va_new (C := q.1) (T := q.2.1) (N := q.2.2) (fs := (nf a).map (mm_en base ext)) hx hb hts g1 (fty a) g2 hown (hts _ w1) (hts _ w2) (hts _ w3) hKs.1 hW (mm_D base ext cA M) hS hA hq (fun j hj => ?_) hcells hslots hd (fun q0 H1 hP1 hD1 hS1 => ?_)
    · rw [vp_V, List.getD_eq_getElem?_getD, List.getElem?_map, hdf j hj]
      exact (mm_en_def base ext _).symm
    · refine mm_W_new base ext cA D cl hP1 hD1 (by omega) (fun hq0 => ?_)
      subst hq0
      refine kk H1 locs ?_ hS1
      unfold mm_Wd
      rw [mm_ws_app]
      exact hP1
  | newarray t =>
    cases t with
    | int =>
      simp only [mm_make] at h
      have hn2 : n = 2 := hi
      subst hn2
      split at h
      · rename_i k st0
        split at h
        · cases h
        · rename_i hk
          cases h
          have hk1 : ¬ k < 0 := fun z => hk (Or.inl z)
          have hk2 : k.toNatClampNeg ≤ 1000 := Nat.not_lt.mp fun z => hk (Or.inr z)
          have e1 : (M ++ [(.inl (List.replicate k.toNatClampNeg 0) : mm_C)]).length - M.length = 1 := by simp
          have e2 : mm_sl (M ++ [(.inl (List.replicate k.toNatClampNeg 0) : mm_C)]) - mm_sl M = k.toNatClampNeg := by
            rw [mm_sl_app]
            simp [mm_sl, mm_size]
          rw [e1] at hcells kk
          rw [e2] at hslots kk
          refine va_newa (atype := .int) (ty := .int) (a0 := (k.toNatClampNeg, .inl (fun j => (List.replicate k.toNatClampNeg (0 : Int32)).getD j 0))) hx hb (hts _ hj) rfl hKs.1 hW (mm_D base ext cA M) hS hA (fun cB => ?_) hk1 rfl (by show _ * 4 ≤ _; omega) hcells hslots hd (fun q0 cB H1 hK1 hP1 hD1 hS1 => ?_)
          · rw [vp_cell_i]
            congr 1
            funext j9
            by_cases h9 : j9 < k.toNatClampNeg
            · simp [List.getD_eq_getElem?_getD, h9, defaultValue]
            · simp [List.getD_eq_getElem?_getD, h9, defaultValue]
          · have ecB : cB = cA 0 := Option.some.inj ((hK1.2 3 _ rfl).2.symm.trans (hKs.1.2 0 _ rfl).2)
            subst ecB
            refine mm_W_new base ext cA D cl hP1 hD1 (by omega) (fun hq0 => ?_)
            subst hq0
            refine kk H1 locs ?_ hS1
            unfold mm_Wd
            rw [mm_ws_app]
            simpa [mm_ec] using hP1
      · cases h
    | _ => simp [mm_make] at h
  | anewarray idx =>
    simp only [mm_make] at h
    have hn3 : n = 3 := hi
    subst hn3
    have w1 := hj
    split at h
    · rename_i k st0
      split at h
      · cases h
      · rename_i hk
        cases h
        have hk1 : ¬ k < 0 := fun z => hk (Or.inl z)
        have hk2 : k.toNatClampNeg ≤ 1000 := Nat.not_lt.mp fun z => hk (Or.inr z)
        have e1 : (M ++ [(.inr (.inl (1, List.replicate k.toNatClampNeg none)) : mm_C)]).length - M.length = 1 := by simp
        have e2 : mm_sl (M ++ [(.inr (.inl (1, List.replicate k.toNatClampNeg none)) : mm_C)]) - mm_sl M = k.toNatClampNeg := by
          rw [mm_sl_app]
          simp [mm_sl, mm_size]
        rw [e1] at hcells kk
        rw [e2] at hslots kk
        refine va_newq hx hb hown (hts _ w1) hKs.2.2.2.2.2.2.2.1 hKs.1 hW (mm_D base ext cA M) hS hA hk1 rfl (by omega) hcells hslots hd (fun q0 cB H1 hK1 hP1 hD1 hS1 => ?_)
        have ecB : cB = cA 1 := by
          obtain ⟨_, _, _, _, _, z1⟩ := (hK1.2 3 _ rfl).2
          obtain ⟨_, _, _, _, _, z2⟩ := (hKs.1.2 1 _ rfl).2
          exact Option.some.inj (z1.symm.trans z2)
        subst ecB
        refine mm_W_new base ext cA D cl hP1 hD1 (by omega) (fun hq0 => ?_)
        subst hq0
        refine kk H1 locs ?_ hS1
        unfold mm_Wd
        rw [mm_ws_app]
        have e3 : mm_ec base ext cA (.inr (.inl (1, List.replicate k.toNatClampNeg none))) = .inl (cA 1, k.toNatClampNeg, .inr (.inr (.inr (.inr (fun _ => none))))) := by
          simp only [mm_ec, List.length_replicate]
          have e4 : (fun j => Option.map (fun k => base + k) ((List.replicate k.toNatClampNeg (none : Option Nat)).getD j none)) = fun _ => none := by
            funext j9
            by_cases h9 : j9 < k.toNatClampNeg <;> simp [List.getD_eq_getElem?_getD, h9]
          rw [e4]
        rw [e3]
        exact hP1
    · cases h
  | multianewarray idx dd =>
    have hn4 : n = 4 := hi
    subst hn4
    by_cases h2 : dd = 2
    · subst h2
      simp only [mm_make] at h
      obtain ⟨w1, w3⟩ := hj
      split at h
      · rename_i k j st0
        split at h
        · cases h
        · rename_i hk
          cases h
          have hk1 : ¬ j < 0 := fun z => hk (Or.inl (Or.inl z))
          have hk2 : ¬ k < 0 := fun z => hk (Or.inl (Or.inr z))
          have hk3 : j.toNatClampNeg ≤ 1000 := Nat.not_lt.mp fun z => hk (Or.inr (Or.inl z))
          have hk4 : k.toNatClampNeg ≤ 1000 := Nat.not_lt.mp fun z => hk (Or.inr (Or.inr z))
          have e1 : (mm_multi M j.toNatClampNeg k.toNatClampNeg).length - M.length = 1 + j.toNatClampNeg := by simp [mm_multi]; omega
          have e2 : mm_sl (mm_multi M j.toNatClampNeg k.toNatClampNeg) - mm_sl M = j.toNatClampNeg + j.toNatClampNeg * k.toNatClampNeg := by
            unfold mm_multi
            rw [mm_sl_app]
            simp [mm_sl, mm_size]
          rw [e1] at hcells kk
          rw [e2] at hslots kk
          refine mm_W_size base ext cA D cl hW (Nat.le_trans hbs hS.1) hz (fun hsz => ?_)
          refine mm_mna base ext cA D cl lay hx hb hown (hts _ w1) hKs.2.2.2.2.2.2.2.2 (hts _ w3) hKs.1 hW hsz hS hk1 hk2 (by omega) (by omega) hcells hslots hd (fun H1 hW1 hS1 => ?_)
          have h9 := kk H1 locs hW1 hS1
          rw [show cells + 1 + j.toNatClampNeg = cells + (1 + j.toNatClampNeg) by omega, show slots + j.toNatClampNeg + j.toNatClampNeg * k.toNatClampNeg = slots + (j.toNatClampNeg + j.toNatClampNeg * k.toNatClampNeg) by omega]
          exact h9
      · cases h
    · unfold mm_make at h
      split at h <;> simp_all
  | aastore =>
    simp only [mm_make] at h
    have hn1 : n = 1 := hi
    subst hn1
    obtain ⟨q, hq, hql⟩ := hj
    split at h
    · rename_i v9 j a9 st0
      split at h
      · rename_i rs hM
        split at h
        · rename_i ci fs hV
          split at h
          · rename_i hc
            obtain ⟨rfl, hj0, hjl⟩ := hc
            cases h
            have hin : vp_in j rs.length := fun z => by
              rcases z with z | z
              · exact hj0 z
              · omega
            have e1 : (M.set a9 (.inr (.inl (1, rs.set j.toNatClampNeg (some v9))))).length - M.length = 0 := by simp
            have e2 : mm_sl (M.set a9 (.inr (.inl (1, rs.set j.toNatClampNeg (some v9))))) - mm_sl M = 0 := by
              rw [mm_sl_set hM (by simp [mm_size])]; omega
            rw [e1] at kk
            rw [e2] at kk
            subst hql
            refine va_astq (r := q) (vs := fs.map (mm_en base ext)) hx hb hKs.1 hW (mm_D base ext cA M) hS a9 1 v9 ci (mm_ws_at base ext cA hM) rfl (mm_ws_at base ext cA hV) hq hin hd (fun H1 locs1 hP1 hD1 hS1 => ?_)
            refine kk H1 locs1 ?_ hS1
            unfold mm_Wd
            rw [mm_ws_set]
            have e3 : mm_ec base ext cA (.inr (.inl (1, rs.set j.toNatClampNeg (some v9)))) = .inl (cA 1, rs.length, .inr (.inr (.inr (.inr (va_up (fun j => Option.map (fun k => base + k) (rs.getD j none)) j.toNatClampNeg (some (base + v9))))))) := by
              simp only [mm_ec, List.length_set]
              have e4 : (fun j9 => Option.map (fun k => base + k) ((rs.set j.toNatClampNeg (some v9)).getD j9 none)) = va_up (fun j => Option.map (fun k => base + k) (rs.getD j none)) j.toNatClampNeg (some (base + v9)) := by
                funext j9
                show Option.map (fun k => base + k) ((rs.set j.toNatClampNeg (some v9)).getD j9 none) = if j9 = j.toNatClampNeg then some (base + v9) else Option.map (fun k => base + k) (rs.getD j9 none)
                rw [List.getD_eq_getElem?_getD, List.getD_eq_getElem?_getD]
                by_cases h9 : j9 = j.toNatClampNeg
                · subst h9
                  rw [List.getElem?_set_self hjl, if_pos rfl]; rfl
                · rw [List.getElem?_set_ne (Ne.symm h9), if_neg h9]
              rw [e4]
            rw [e3]
            exact hP1
          · cases h
        · cases h
      · cases h
    · cases h
  | invokespecial idx =>
    simp only [mm_make] at h
    obtain ⟨rfl, hj⟩ := hj
    split at h
    · rename_i hk
      rcases hj with ⟨-, w1, w2, w3⟩ | ⟨hk2, -⟩
      · split at h
        · rename_i v9 st0
          split at h
          · rename_i hsum
            cases h
            rw [Nat.sub_self, Nat.sub_self] at kk
            have hcat : ((List.map (mm_en base ext) st').map fun v => v.category).sum ≤ 8 := by
              rw [List.map_map]
              have : ((fun v => v.category) ∘ mm_en base ext) = Value.category := by funext z; exact mm_en_cat base ext z
              rw [this]
              exact hsum
            exact W.objInit hx hb hown (hts _ w1) (hts _ w2) (hts _ w3) rfl hls rfl hd hfr (by have h8 := hcat; show 2 * 0 + _ + 12 ≤ _; omega) (kk H locs hW hS)
          · cases h
        · cases h
      · exact absurd hk hk2
    · cases h
  | invokestatic idx =>
    simp only [mm_make] at h
    obtain ⟨rfl, hj⟩ := hj
    have hcat : ∀ st9 : List Value, (st9.map Value.category).sum ≤ 8 → ((List.map (mm_en base ext) st9).map fun v => v.category).sum + 13 ≤ R.locals := by
      intro st9 hsum
      rw [List.map_map]
      have : ((fun v => v.category) ∘ mm_en base ext) = Value.category := by funext z; exact mm_en_cat base ext z
      rw [this]
      omega
    split at h
    · rename_i hk
      rcases hj with ⟨-, w1, w2, w3, w4⟩ | ⟨hk2, -⟩ | ⟨hk2, -⟩
      · split at h
        · split at h
          · rename_i hsum
            cases h
            rw [Nat.sub_self, Nat.sub_self] at kk
            exact va_mmax hx hb hls.symm hown (hts _ w1) (hts _ w2) (hts _ w3) (hts _ w4) hfr (hcat _ hsum) (by omega) (by omega) hd (kk H locs hW hS)
          · cases h
        · cases h
      · omega
      · exact absurd (Or.inl hk) hk2
    · rename_i hk7
      split at h
      · rename_i hk
        rcases hj with ⟨hk2, -⟩ | ⟨-, w1, w2, w3, w4⟩ | ⟨hk2, -⟩
        · exact absurd hk2 hk7
        · split at h
          · split at h
            · rename_i hsum
              cases h
              rw [Nat.sub_self, Nat.sub_self] at kk
              exact va_mmin hx hb hls.symm hown (hts _ w1) (hts _ w2) (hts _ w3) (hts _ w4) hfr (hcat _ hsum) (by omega) (by omega) hd (kk H locs hW hS)
            · cases h
          · cases h
        · exact absurd (Or.inr hk) hk2
      · cases h
  | _ => simp [mm_make] at h
end MM5
end
section
section MM6
variable (base : Nat) (ext : Nat → Option Nat) (cA : Nat → ClassId) (D : va_G) (cl : List vw_C) (tb : List Cond) (X : mm_X) (sf : Nat → String × String) (sts : List (String × String × String × Value)) (sks : List (String × Nat × String × Nat)) (nws : List Cond) (lay : String) (fty : Nat → Nat → FieldType) (nf : Nat → List Value) (li : Nat) (P : Nat → Option mm_Mt)
def mm_Pc (as : List Value) (M : mm_M) : Array Value → State → Prop := fun v U => v = (as.map (mm_en base ext)).toArray ∧ U.heap.size = base + M.length ∧ mm_Wd base ext cA D cl M U.heap ∧ mm_Ks base ext cA D cl X sf sts sks nws lay U
def mm_Qc (r : Option Value) (M' : mm_M) : Array Value → State → Outcome → State → Prop := fun _ st oc t => oc = .returned (r.map (mm_en base ext)) ∧ mm_Wd base ext cA D cl M' t.heap ∧ va_F (mm_A base) st t
def mm_rm (d mc ms : Nat) : Room := { frames := d, cells := mc, slots := ms, locals := 60 * d }
/-- a method's contract at depth d for these arguments and this memory -/
def mm_Met (l : Launch) (d : Nat) (as : List Value) (M : mm_M) (r : Option Value) (M' : mm_M) (y : MethodName) (b : ByteArray) (mL : Nat) (rt : Option FieldType) : Prop :=
  Met l y (.code y b mL rt :: tb) (mm_rm d (M'.length - M.length) (mm_sl M' - mm_sl M)) (mm_Pc base ext cA D cl X sf sts sks nws lay as M) (mm_Qc base ext cA D cl r M') (M'.length - M.length) (mm_sl M' - mm_sl M) (mm_A base)
theorem mm_Ks_moved {s U : State} {H : Heap} {locs : List Loc} (h : mm_Ks base ext cA D cl X sf sts sks nws lay s) (hS : va_S (mm_A base) s.heap H locs) (hH : U.heap = H) (hW : s.WarmedH U.vm) : mm_Ks base ext cA D cl X sf sts sks nws lay U := by
  subst hH
  refine ⟨va_K.moved hW.alike h.1, fun n xs hX => ?_, fun n fs hX => ?_, fun w hw => ?_, fun w hw => ?_, fun a b c d e f hw => (h.2.2.2.2.2.1 _ _ _ _ _ _ hw).warmF hW, fun a b c d hw => (h.2.2.2.2.2.2.1 _ _ _ _ hw).warmM hW, h.2.2.2.2.2.2.2.1.moved hW.alike, arrayOver_alikeB hW.alike h.2.2.2.2.2.2.2.2⟩
  · obtain ⟨t, ht, hT⟩ := h.2.1 n xs hX
    exact ⟨t, ht, (hT.moved hW.alike).kept hS.2.1⟩
  · obtain ⟨t, ht, hO, hF⟩ := h.2.2.1 n fs hX
    exact ⟨t, ht, (hO.moved hW.alike).kept hS.2.1, fun k v hv => ((hF k v hv).moved hW.alike).kept hS.2.1⟩
  · exact ((h.2.2.2.1 w hw).moved hW.alike).kept hS.2.1
  · obtain ⟨t, ht, hR⟩ := h.2.2.2.2.1 w hw
    exact ⟨t, ht, hR.warm hW⟩
theorem mm_Ks_calling {U : State} {g : JFrame} {mk : MethodId} {a : Array Value} (h : mm_Ks base ext cA D cl X sf sts sks nws lay U) : mm_Ks base ext cA D cl X sf sts sks nws lay (U.calling g mk a) := by
  refine ⟨va_K.moved (u := U) (Vm.Alike.refl U.vm) h.1, fun n xs hX => ?_, fun n fs hX => ?_, fun w hw => ?_, fun w hw => ?_, fun a b c d e f hw => va_Nw.same (u := U) rfl rfl (h.2.2.2.2.2.1 _ _ _ _ _ _ hw), fun a b c d hw => va_Nw.same (u := U) rfl rfl (h.2.2.2.2.2.2.1 _ _ _ _ hw), va_AO.moved (u := U) (Vm.Alike.refl U.vm) h.2.2.2.2.2.2.2.1, arrayOver_alikeB (s := U) (Vm.Alike.refl U.vm) h.2.2.2.2.2.2.2.2⟩
  · obtain ⟨t, ht, hT⟩ := h.2.1 n xs hX
    exact ⟨t, ht, va_T.moved (u := U) (Vm.Alike.refl U.vm) hT⟩
  · obtain ⟨t, ht, hO, hF⟩ := h.2.2.1 n fs hX
    exact ⟨t, ht, va_O.moved (u := U) (Vm.Alike.refl U.vm) hO, fun k v hv => va_OF.moved (u := U) (Vm.Alike.refl U.vm) (hF k v hv)⟩
  · exact va_Z.moved (u := U) (Vm.Alike.refl U.vm) (h.2.2.2.1 w hw)
  · obtain ⟨t, ht, hR⟩ := h.2.2.2.2.1 w hw
    exact ⟨t, ht, vk_R.same (u := U) rfl hR⟩
theorem mm_blind (as : List Value) (M : mm_M) : FrameBlind (mm_Pc base ext cA D cl X sf sts sks nws lay as M) := by
  intro a U g mk h
  obtain ⟨h1, h2, h3, h4⟩ := h
  exact ⟨h1, h2, h3, mm_Ks_calling base ext cA D cl X sf sts sks nws lay h4⟩
variable {p : Program} {l : Launch} {e : Env} {R : Room} {s : State} {m : MethodId} {args : Array Value} {below : List Frame} {meth : Method} {c : Code} {Q : State → Prop}
theorem mm_callR {H : Heap} {locs : List Loc} {cells slots mc ms pc : Nat} {ls : Array Slot} {st0 rest : List Value} {a : Array Value} {r : Option Value} {M' : mm_M} (hr : va_Run p l e R s m args below meth c H locs cells slots mc ms (F0 m pc ls st0) rest (mm_Qc base ext cA D cl r M' a) (mm_A base)) (hS : va_S (mm_A base) s.heap H locs)
    (kk : ∀ (H1 : Heap) (locs1 : List Loc), mm_Wd base ext cA D cl M' H1 → va_S (mm_A base) s.heap H1 locs1 → W p l e R s m args below meth c H1 locs1 (cells + mc) (slots + ms) Q (F0 m (pc + 3) ls ((r.map (mm_en base ext)).toList ++ rest))) : W p l e R s m args below meth c H locs cells slots Q (F0 m pc ls st0) := by
  intro T hT Xs
  obtain ⟨v, st₀, t, T', L, h0, X', hL, e1, e2, ⟨hv, hw, hz, hk⟩, st⟩ := hr T hT Xs
  cases hv
  rw [h0] at hz hk
  obtain ⟨t2, a1, b1⟩ := kk T'.heap (locs ++ L) (by rw [e1]; exact hw)
    ⟨Nat.le_trans hS.1 (by rw [e1]; exact hz), fun q h1 h2 => by rw [e1, hk q (Nat.lt_of_lt_of_le h1 hS.1) h2]; exact hS.2.1 q h1 h2, fun q hq => by
      rcases List.mem_append.mp hq with h | h
      · exact hS.2.2 q h
      · exact hL q h⟩ T' rfl X'
  exact ⟨t2, st t2 a1, b1⟩
theorem mm_good {Ts ws : List Cond} {cw : Cond} (hT : ∀ w ∈ tb, w ∈ Ts) (hg : ∀ w ∈ tb, goodWord w = true) (hc : cw ∈ tb) (hws : ∀ w ∈ ws, w = cw ∨ w ∈ tb) : GoodIn Ts ws := by
  intro w hw
  have : w ∈ tb := by
    rcases hws w hw with h | h
    · rw [h]; exact hc
    · exact h
  exact ⟨hT w this, good_of_word (hg w this)⟩
end MM6
end
section
section MM7
variable (base : Nat) (ext : Nat → Option Nat) (cA : Nat → ClassId) (D : va_G) (cl : List vw_C) (tb : List Cond) (X : mm_X) (sf : Nat → String × String) (sts : List (String × String × String × Value)) (sks : List (String × Nat × String × Nat)) (nws : List Cond) (lay : String) (fty : Nat → Nat → FieldType) (nf : Nat → List Value) (li : Nat) (P : Nat → Option mm_Mt)
/-- every method's table is right -/
def mm_okP : Prop := ∀ (k : Nat) (y : MethodName) (b : ByteArray) (mL : Nat) (rt : Option FieldType) (ci : Nat) (co : Nat → Option mm_I), P k = some (y, b, mL, rt, ci, co) →
  plainName y.cls = true ∧ mL ≤ 41 ∧ Cond.code y b mL rt ∈ tb ∧ ∀ (pc : Nat) (i : mm_I), co pc = some i → mm_okI cl tb sf sts sks nws y.cls y.name b pc i ∧ mm_okJ cl tb nws lay fty nf li P y.cls i
theorem mm_run_mono {cls : Nat → Nat} {call : Nat → List Value → mm_M → Option (Option Value × mm_M)} (hc : ∀ (k : Nat) (as : List Value) (M : mm_M) (r : Option Value) (M' : mm_M), call k as M = some (r, M') → M.length ≤ M'.length ∧ mm_sl M ≤ mm_sl M') {ret : Option FieldType} {code : Nat → Option mm_I} {r : Option Value} {M' : mm_M} :
    ∀ (f pc : Nat) (L : mm_L) (st : List Value) (M : mm_M), mm_run fty X nf li cls call ret code f pc L st M = some (r, M') → M.length ≤ M'.length ∧ mm_sl M ≤ mm_sl M' := by
  intro f
  induction f with
  | zero => intro pc L st M h; simp [mm_run] at h
  | succ f ih =>
    intro pc L st M h
    simp only [mm_run] at h
    split at h
    · cases h
    · split at h
      · cases h
        exact ⟨Nat.le_refl _, Nat.le_refl _⟩
      · split at h
        · split at h
          · split at h
            · rename_i hq
              have h1 := hc _ _ _ _ _ hq
              have h2 := ih _ _ _ _ h
              exact ⟨Nat.le_trans h1.1 h2.1, Nat.le_trans h1.2 h2.2⟩
            · cases h
          · cases h
        · split at h
          · rename_i hq
            have h1 := mm_make_len hq
            have h2 := ih _ _ _ _ h
            exact ⟨Nat.le_trans h1.1 h2.1, Nat.le_trans h1.2 h2.2⟩
          · split at h
            · rename_i hq
              have h1 := mm_step_len hq
              have h2 := ih _ _ _ _ h
              rw [h1.2.1, h1.2.2] at h2
              exact h2
            · cases h
theorem mm_ev_mono (F : Nat) : ∀ (d k : Nat) (as : List Value) (M : mm_M) (r : Option Value) (M' : mm_M), mm_ev fty X nf li P F d k as M = some (r, M') → M.length ≤ M'.length ∧ mm_sl M ≤ mm_sl M' := by
  intro d
  induction d with
  | zero => intro k as M r M' h; simp [mm_ev] at h
  | succ d ih =>
    intro k as M r M' h
    simp only [mm_ev] at h
    split at h
    · cases h
    · split at h
      · exact mm_run_mono X fty nf li ih _ _ _ _ _ h
      · cases h
variable {p : Program} {l : Launch} {e : Env} {R : Room} {s : State} {m : MethodId} {args : Array Value} {below : List Frame} {meth : Method} {c : Code} {Q : State → Prop}
theorem mm_cat (st : List Value) : ((st.map (mm_en base ext)).map fun v => v.category).sum = (st.map Value.category).sum := by
  rw [List.map_map]
  have : ((fun v => v.category) ∘ mm_en base ext) = Value.category := by funext z; exact mm_en_cat base ext z
  rw [this]
theorem mm_cut {st as : List Value} {n : Nat} {v : Value} (h : (st.take n).reverse = v :: as) : st.map (mm_en base ext) = (as.map (mm_en base ext)).reverse ++ mm_en base ext v :: (st.drop n).map (mm_en base ext) := by
  have h1 : st.take n = as.reverse ++ [v] := by rw [← List.reverse_reverse (st.take n), h]; simp
  conv => lhs; rw [← List.take_append_drop n st, h1]
  simp
theorem mm_cut0 {st : List Value} {n : Nat} : st.map (mm_en base ext) = (((st.take n).reverse).map (mm_en base ext)).reverse ++ (st.drop n).map (mm_en base ext) := by
  conv => lhs; rw [← List.take_append_drop n st]
  simp
set_option maxHeartbeats 4000000 in
theorem mm_inv_snd (hg : ∀ w ∈ tb, goodWord w = true) (hPk : mm_okP cl tb sf sts sks nws lay fty nf li P) {own nm : String} {cc : ByteArray} (hx : p.tables.exec = Jvm.exec) (hb : c.code = cc) (hown : s.vm.findClass own = some m.cls) (hts : ∀ w ∈ tb, w.before args s = true) (hKs : mm_Ks base ext cA D cl X sf sts sks nws lay s) {d : Nat} (hRf : d + 1 ≤ R.frames) (hRl : 60 * (d + 1) ≤ R.locals)
    {i : mm_I} {kd k n pc : Nat} {st : List Value} {M M1 : mm_M} {r : Option Value} (hinv : mm_inv i = some (kd, k, n)) (hi : mm_okI cl tb sf sts sks nws own nm cc pc i) (hj : mm_okJ cl tb nws lay fty nf li P own i) (hn : n ≤ st.length) (hrok : mm_rok X M kd (mm_cls P k) (st.take n).reverse = true) (hsum : ((st.drop n).map Value.category).sum ≤ 8)
    (hM : ∀ (y : MethodName) (b : ByteArray) (mL : Nat) (rt : Option FieldType) (ci : Nat) (co : Nat → Option mm_I), P k = some (y, b, mL, rt, ci, co) → mm_Met base ext cA D cl tb X sf sts sks nws lay l d (st.take n).reverse M r M1 y b mL rt)
    {H : Heap} {locs : List Loc} {cells slots : Nat} {ls : Array Slot} (hW : mm_Wd base ext cA D cl M H) (hsz : H.size = base + M.length) (hS : va_S (mm_A base) s.heap H locs) (hls : ls.size = c.maxLocals) (hcells : cells + (M1.length - M.length) ≤ R.cells) (hslots : slots + (mm_sl M1 - mm_sl M) ≤ R.slots) :
    va_Run p l e R s m args below meth c H locs cells slots (M1.length - M.length) (mm_sl M1 - mm_sl M) (F0 m pc ls (st.map (mm_en base ext))) ((st.drop n).map (mm_en base ext)) (mm_Qc base ext cA D cl r M1 ((st.take n).reverse.map (mm_en base ext)).toArray) (mm_A base) := by
  obtain ⟨ins, len, a, b9, v, pl⟩ := i
  obtain ⟨hd, hi⟩ := hi
  have hsum' : 2 * (F0 m pc ls (st.map (mm_en base ext))).monitorRoom + (((st.drop n).map (mm_en base ext)).map fun v => v.category).sum ≤ 8 := lv_room (by rw [mm_cat]; exact hsum)
  have hPre : ∀ U : State, U.heap = H → s.WarmedH U.vm → mm_Pc base ext cA D cl X sf sts sks nws lay (st.take n).reverse M (((st.take n).reverse).map (mm_en base ext)).toArray U := fun U hU hWm => ⟨rfl, by rw [hU]; exact hsz, by rw [hU]; exact hW, mm_Ks_moved base ext cA D cl X sf sts sks nws lay hKs hS hU hWm⟩
  have hbl := mm_blind base ext cA D cl X sf sts sks nws lay (st.take n).reverse M
  have hroom : ∀ mL, mL ≤ 41 → (mm_rm d (M1.length - M.length) (mm_sl M1 - mm_sl M)).frames + 1 ≤ R.frames ∧ 8 + (mL + 11) + (mm_rm d (M1.length - M.length) (mm_sl M1 - mm_sl M)).locals ≤ R.locals := fun mL hmL => ⟨hRf, by show 8 + (mL + 11) + 60 * d ≤ R.locals; omega⟩
  have hGood : ∀ (cw : Cond), cw ∈ tb → GoodIn tb (cw :: tb) := fun cw hcw => mm_good tb (fun _ h => h) hg hcw (fun w hw => List.mem_cons.mp hw)
  have hFix : CallFix p m c cc c.maxLocals s args tb own := ⟨hx, hb, rfl, hown, hts⟩
  have htl : ((st.take n).reverse).length = n := by simp; omega
  cases ins with
  | invokevirtual idx =>
    simp only [mm_inv, Option.some.injEq, Prod.mk.injEq] at hinv
    obtain ⟨rfl, rfl, rfl⟩ := hinv
    obtain ⟨rfl, y, b, mL, rt, ci, co, hP1, w1, w2, w3, w4, w5, w6, w7, w8, w9⟩ := hj
    obtain ⟨o1, o2, o3, -⟩ := hPk _ _ _ _ _ _ _ hP1
    have hcls : mm_cls P a = ci := by simp [mm_cls, hP1]
    rw [hcls] at hrok
    have hMet := hM _ _ _ _ _ _ hP1
    have hGV : GoodIn tb (wsV own idx y.cls y (.code y b mL rt :: tb)) := by
      intro w hw
      unfold wsV at hw
      rcases List.mem_append.mp hw with h | h
      · have : w ∈ tb := by
          simp only [List.mem_cons, List.not_mem_nil, or_false] at h
          rcases h with h | h | h | h <;> (subst h; assumption)
        exact ⟨this, good_of_word (hg w this)⟩
      · exact hGood _ o3 w h
    simp only [mm_rok] at hrok
    split at hrok
    · rename_i b0 as0 has
      split at hrok
      · rename_i c9 fs hMb
        simp only [Bool.and_eq_true, beq_iff_eq, Bool.not_eq_true', beq_eq_false_iff_ne] at hrok
        obtain ⟨rfl, h99⟩ := hrok
        rcases w9 with ⟨h9, -⟩ | ⟨q, hq, hqy, -⟩
        · exact absurd h9 h99
        · have hcut := mm_cut base ext has
          rw [has] at hMet hPre hbl ⊢
          exact va_runV (C := y.cls) (As := as0.map (mm_en base ext)) (b := base + b0) hFix hMet (cwV _ hts hGV rfl rfl rfl ⟨rfl, w5, w6, w8⟩ (hroom mL o2)) ⟨hbl, by rw [← hqy]; exact va_recv hKs.1 hW (ci := c9) (q0 := b0) hq (mm_ws_at base ext cA hMb), hPre⟩ rfl (by have := congrArg List.length has; rw [htl] at this; simp at this ⊢; omega) hls hcut hsum' hd ⟨hcells, hslots⟩
      · cases hrok
    · rename_i n0 as0 has
      split at hrok
      · rename_i fs hXn
        have h99 : ci = 99 := by simpa using hrok
        obtain ⟨t, ht, hO, -⟩ := hKs.2.2.1 _ _ hXn
        rcases w9 with ⟨-, hys⟩ | ⟨q, hq, hqy, hn99⟩
        · have hcut := mm_cut base ext has
          have hen : mm_en base ext (.retAddr n0) = .ref t := by simp [mm_en, ht, va_rf]
          rw [has] at hMet hPre hbl ⊢
          rw [List.map_cons, hen] at hPre ⊢
          rw [hen] at hcut
          exact va_runV (C := y.cls) (As := as0.map (mm_en base ext)) (b := t) hFix hMet (cwV _ hts hGV rfl rfl rfl ⟨rfl, w5, w6, w8⟩ (hroom mL o2)) ⟨hbl, by
            rw [hys]
            obtain ⟨cell, z1, z2, z3, -⟩ := hO.kept hS.2.1
            exact ⟨cell, z1, z2, z3⟩, hPre⟩ rfl (by have := congrArg List.length has; rw [htl] at this; simp at this ⊢; omega) hls hcut hsum' hd ⟨hcells, hslots⟩
        · exact absurd h99 hn99
      · cases hrok
    · cases hrok
  | invokespecial idx =>
    simp only [mm_inv] at hinv
    split at hinv
    · cases hinv
    · simp only [Option.some.injEq, Prod.mk.injEq] at hinv
      obtain ⟨rfl, rfl, rfl⟩ := hinv
      obtain ⟨rfl, ⟨h999, -⟩ | ⟨-, y, b, mL, ci, co, hP1, w1, w2, w3, w4, w5, w6, w7, w8⟩⟩ := hj
      · exact absurd h999 ‹_›
      · obtain ⟨o1, o2, o3, -⟩ := hPk _ _ _ _ _ _ _ hP1
        have hMet := hM _ _ _ _ _ _ hP1
        simp only [mm_rok] at hrok
        split at hrok
        · rename_i b0 as0 has
          have hcut := mm_cut base ext has
          rw [has] at hMet hPre hbl ⊢
          rcases w1 with w1 | ⟨host, w1⟩
          · exact va_runI (As := as0.map (mm_en base ext)) (b := base + b0) hFix hMet (cwI _ hts (hGood _ o3) rfl rfl rfl (hts _ w3) (hts _ w1) (hts _ w2) w4 ⟨w5, w6, w8⟩ (hroom mL o2)) ⟨hbl, hPre⟩ rfl (by have := congrArg List.length has; rw [htl] at this; simp at this ⊢; omega) hls hcut hsum' hd ⟨hcells, hslots⟩
          · exact va_runIN (As := as0.map (mm_en base ext)) (b := base + b0) hFix hMet ⟨va_cnB _ hts (hGood _ o3) rfl rfl rfl (hKs.2.2.2.2.2.2.1 _ _ _ _ w1) (hts _ w3) ⟨w5, w6, w8⟩ (hroom mL o2), w4, hts _ w2⟩ ⟨hbl, hPre⟩ rfl (by have := congrArg List.length has; rw [htl] at this; simp at this ⊢; omega) hls hcut hsum' hd ⟨hcells, hslots⟩
        · cases hrok
  | invokestatic idx =>
    simp only [mm_inv] at hinv
    split at hinv
    · cases hinv
    rename_i hk78
    simp only [Option.some.injEq, Prod.mk.injEq] at hinv
    obtain ⟨rfl, rfl, rfl⟩ := hinv
    obtain ⟨rfl, ⟨hk7, -⟩ | ⟨hk8, -⟩ | ⟨-, y, b, mL, rt, ci, co, hP1, w1, w2, w3, w5, w6, w8⟩⟩ := hj
    · exact absurd (Or.inl hk7) hk78
    · exact absurd (Or.inr hk8) hk78
    obtain ⟨o1, o2, o3, -⟩ := hPk _ _ _ _ _ _ _ hP1
    have hMet := hM _ _ _ _ _ _ hP1
    rcases w1 with w1 | ⟨host, w1⟩
    · have hGS : GoodIn tb (va_wsS own idx y (.code y b mL rt :: tb)) := by
        intro w hw
        unfold va_wsS at hw
        rcases List.mem_append.mp hw with h | h
        · have : w ∈ tb := by
            simp only [List.mem_cons, List.not_mem_nil, or_false] at h
            rcases h with h | h | h <;> (subst h; assumption)
          exact ⟨this, good_of_word (hg w this)⟩
        · exact hGood _ o3 w h
      exact va_runS (As := ((st.take _).reverse).map (mm_en base ext)) hFix hMet (va_cwS _ hts hGS rfl rfl rfl ⟨w5, w6, w8⟩ (hroom mL o2)) ⟨hbl, hPre⟩ rfl (by simp; omega) hls (mm_cut0 base ext) hsum' hd ⟨hcells, hslots⟩
    · exact va_runSN (As := ((st.take _).reverse).map (mm_en base ext)) hFix hMet ⟨va_cnB _ hts (hGood _ o3) rfl rfl rfl (hKs.2.2.2.2.2.2.1 _ _ _ _ w1) (hts _ w3) ⟨w5, w6, w8⟩ (hroom mL o2), hts _ w2, trivial⟩ ⟨hbl, hPre⟩ rfl (by simp; omega) hls (mm_cut0 base ext) hsum' hd ⟨hcells, hslots⟩
  | _ => simp [mm_inv] at hinv
end MM7
end
section
section MM8
variable (base : Nat) (ext : Nat → Option Nat) (cA : Nat → ClassId) (D : va_G) (cl : List vw_C) (tb : List Cond) (X : mm_X) (sf : Nat → String × String) (sts : List (String × String × String × Value)) (sks : List (String × Nat × String × Nat)) (nws : List Cond) (lay : String) (fty : Nat → Nat → FieldType) (nf : Nat → List Value) (li : Nat) (P : Nat → Option mm_Mt)
variable {p : Program} {l : Launch} {e : Env} {R : Room} {s : State} {m : MethodId} {args : Array Value} {below : List Frame} {meth : Method} {c : Code} {Q : State → Prop}
set_option maxHeartbeats 4000000 in
/-- a body's run on the small machine is one of the true machine, up to its return -/
theorem mm_run_snd (hcl : mm_okC cl tb fty) (hg : ∀ w ∈ tb, goodWord w = true) (hPk : mm_okP cl tb sf sts sks nws lay fty nf li P) {own nm : String} {cc : ByteArray} (hx : p.tables.exec = Jvm.exec) (hb : c.code = cc) (hown : s.vm.findClass own = some m.cls) (hts : ∀ w ∈ tb, w.before args s = true) (hname : meth.name = nm) (hKs : mm_Ks base ext cA D cl X sf sts sks nws lay s) {d : Nat} (hRf : d + 1 ≤ R.frames) (hRl : 60 * (d + 1) ≤ R.locals) (hbs : base ≤ s.heap.size)
    {call : Nat → List Value → mm_M → Option (Option Value × mm_M)} (hmono : ∀ (k : Nat) (as : List Value) (M : mm_M) (r : Option Value) (M' : mm_M), call k as M = some (r, M') → M.length ≤ M'.length ∧ mm_sl M ≤ mm_sl M')
    (hcall : ∀ (k : Nat) (as : List Value) (M : mm_M) (r : Option Value) (M' : mm_M), call k as M = some (r, M') → ∀ (y : MethodName) (b : ByteArray) (mL : Nat) (rt : Option FieldType) (ci : Nat) (co : Nat → Option mm_I), P k = some (y, b, mL, rt, ci, co) → mm_Met base ext cA D cl tb X sf sts sks nws lay l d as M r M' y b mL rt)
    {ret : Option FieldType} {code : Nat → Option mm_I} (hcode : ∀ (pc : Nat) (i : mm_I), code pc = some i → mm_okI cl tb sf sts sks nws own nm cc pc i ∧ mm_okJ cl tb nws lay fty nf li P own i) {r : Option Value} {M' : mm_M} {s0 : Nat} (hRc : base + M'.length ≤ s.heap.size + R.cells) (hRs : mm_sl M' ≤ R.slots + s0)
    (hend : ∀ (pc : Nat) (i : mm_I) (ls : Array Slot) (st : List Value) (H : Heap) (locs : List Loc) (cells slots : Nat), code pc = some i → mm_ret ret i st = some r → mm_Wd base ext cA D cl M' H → va_S (mm_A base) s.heap H locs → s.heap.size + cells = base + M'.length → slots + s0 = mm_sl M' → W p l e R s m args below meth c H locs cells slots Q (F0 m pc ls (st.map (mm_en base ext)))) :
    ∀ (f pc : Nat) (L : mm_L) (st : List Value) (M : mm_M), mm_run fty X nf li (mm_cls P) call ret code f pc L st M = some (r, M') → ∀ (H : Heap) (locs : List Loc) (cells slots : Nat) (ls : Array Slot), mm_Wd base ext cA D cl M H → va_S (mm_A base) s.heap H locs → mm_LH base ext ls L → L.length = c.maxLocals → s.heap.size + cells = base + M.length → slots + s0 = mm_sl M →
      W p l e R s m args below meth c H locs cells slots Q (F0 m pc ls (st.map (mm_en base ext))) := by
  intro f
  induction f with
  | zero => intro pc L st M h; simp [mm_run] at h
  | succ f ih =>
    intro pc L st M h H locs cells slots ls hW hS hL hLm hz hs0
    simp only [mm_run] at h
    split at h
    · cases h
    · rename_i i hi
      obtain ⟨hI, hJ⟩ := hcode pc i hi
      split at h
      · rename_i r1 hr
        cases h
        exact hend pc i ls st H locs cells slots hi hr hW hS hz hs0
      · split at h
        · rename_i kd k n hinv
          split at h
          · rename_i hcond
            obtain ⟨c1, c2, c3⟩ := hcond
            split at h
            · rename_i r1 M1 hc1
              have m1 := hmono _ _ _ _ _ hc1
              have m2 := mm_run_mono X fty nf li hmono _ _ _ _ _ h
              refine mm_W_size base ext cA D cl hW (Nat.le_trans hbs hS.1) hz (fun hsz => ?_)
              have hls : ls.size = c.maxLocals := hL.1.trans hLm
              refine mm_callR base ext cA D cl (mm_inv_snd base ext cA D cl tb X sf sts sks nws lay fty nf li P hg hPk hx hb hown hts hKs hRf hRl hinv hI hJ c1 c2 c3 (hcall _ _ _ _ _ hc1) hW hsz hS hls (by omega) (by omega)) hS (fun H1 locs1 hW1 hS1 => ?_)
              have h9 := ih _ _ _ _ h H1 locs1 (cells + (M1.length - M.length)) (slots + (mm_sl M1 - mm_sl M)) ls hW1 hS1 hL hLm (by omega) (by omega)
              rw [List.map_append] at h9
              have e9 : (r1.toList).map (mm_en base ext) = (r1.map (mm_en base ext)).toList := by cases r1 <;> rfl
              rw [e9] at h9
              exact h9
            · cases h
          · cases h
        · split at h
          · rename_i pc1 st1 M1 hmk
            have m1 := mm_make_len hmk
            have m2 := mm_run_mono X fty nf li hmono _ _ _ _ _ h
            refine mm_make_snd base ext cA D cl tb X sf sts sks nws lay fty nf li P hcl hx hb hown hts hKs hI hJ hmk hW hS hz hbs (by omega) (by omega) (hL.1.trans hLm) (by omega) (by omega) (fun H1 locs1 hW1 hS1 => ?_)
            exact ih _ _ _ _ h H1 locs1 _ _ ls hW1 hS1 hL hLm (by omega) (by omega)
          · split at h
            · rename_i pc1 L1 st1 M1 hst
              obtain ⟨q1, q2, q3⟩ := mm_step_len hst
              refine mm_step_snd base ext cA D cl tb X sf sts sks nws lay fty hcl hx hb hown hts hname hKs hI hst hW hS hL (fun H1 locs1 ls1 hW1 hS1 hL1 => ?_)
              exact ih _ _ _ _ h H1 locs1 cells slots ls1 hW1 hS1 hL1 (q1.trans hLm) (by omega) (by omega)
            · cases h
theorem mm_ent_sl (as : List Value) : (lg_sl (as.map (mm_en base ext))).length = (mm_ent as).length := by
  induction as with
  | nil => rfl
  | cons v vs ih =>
    unfold lg_sl at ih ⊢
    rw [List.map_cons, List.flatMap_cons, List.length_append, ih, mm_en_cat]
    cases v <;> simp [Value.category, mm_ent] <;> omega
theorem mm_ent_at (as : List Value) : ∀ (i j : Nat) (u : Value), (mm_ent as)[j]? = some (some u) → (i + j, mm_en base ext u) ∈ lv_args i (as.map (mm_en base ext)) := by
  induction as with
  | nil => intro i j u h; simp [mm_ent] at h
  | cons v vs ih =>
    intro i j u h
    rw [List.map_cons, lv_args, mm_en_cat]
    have one : v.category = 1 → mm_ent (v :: vs) = some v :: mm_ent vs → (i + j, mm_en base ext u) ∈ (i, mm_en base ext v) :: lv_args (if v.category = 2 then i + 2 else i + 1) (vs.map (mm_en base ext)) := by
      intro h1 h2
      rw [h2] at h
      rw [if_neg (by omega)]
      cases j with
      | zero => simp at h; subst h; exact List.mem_cons_self
      | succ j =>
        rw [List.getElem?_cons_succ] at h
        have := ih (i + 1) j u h
        rw [show i + (j + 1) = i + 1 + j by omega]
        exact List.mem_cons_of_mem _ this
    have two : v.category = 2 → mm_ent (v :: vs) = some v :: none :: mm_ent vs → (i + j, mm_en base ext u) ∈ (i, mm_en base ext v) :: lv_args (if v.category = 2 then i + 2 else i + 1) (vs.map (mm_en base ext)) := by
      intro h1 h2
      rw [h2] at h
      rw [if_pos h1]
      cases j with
      | zero => simp at h; subst h; exact List.mem_cons_self
      | succ j =>
        cases j with
        | zero => simp at h
        | succ j =>
          rw [List.getElem?_cons_succ, List.getElem?_cons_succ] at h
          have := ih (i + 2) j u h
          rw [show i + (j + 1 + 1) = i + 2 + j by omega]
          exact List.mem_cons_of_mem _ this
    cases v
    · exact one rfl rfl
    · exact two rfl rfl
    · exact one rfl rfl
    · exact two rfl rfl
    · exact one rfl rfl
    · exact one rfl rfl
    · exact one rfl rfl
theorem mm_entry_LH {as : List Value} {n : Nat} (h : (mm_ent as).length ≤ n) : mm_LH base ext ((lg_sl (as.map (mm_en base ext)) ++ List.replicate (n - (lg_sl (as.map (mm_en base ext))).length) Slot.unset).toArray) (mm_entry as n) := by
  refine mm_LH_mono base ext (lv_entry (as.map (mm_en base ext)) (n := n) (by rw [mm_ent_sl]; exact h)) (by simp [mm_entry]; omega) (fun j u hj => ?_)
  unfold mm_entry at hj
  by_cases hl : j < (mm_ent as).length
  · rw [List.getElem?_append_left hl] at hj
    have := mm_ent_at base ext as 0 j u hj
    rw [Nat.zero_add] at this
    exact this
  · rw [List.getElem?_append_right (by omega), List.getElem?_replicate] at hj
    split at hj <;> cases hj
theorem mm_nar_spec {ty : FieldType} {v : Int32} (h : mm_nar ty v = true) : narrow ty (.int v) = .int v := by
  unfold mm_nar at h
  split at h
  · rfl
  · have hv : v = 0 ∨ v = 1 := by simpa using h
    rcases hv with rfl | rfl <;> decide +kernel
  · have hv : (v.toUInt32 % 65536).toInt32 = v := by simpa using h
    rw [← hv]
    exact pk_nc v
  · have hv : v.toInt8.toInt32 = v := by simpa using h
    rw [← hv]
    exact pk_nb v
  · cases h
set_option maxHeartbeats 4000000 in
theorem mm_ev_snd (hcl : mm_okC cl tb fty) (hg : ∀ w ∈ tb, goodWord w = true) (hPk : mm_okP cl tb sf sts sks nws lay fty nf li P) (l : Launch) (F : Nat) : ∀ (d k : Nat) (as : List Value) (M : mm_M) (r : Option Value) (M' : mm_M), mm_ev fty X nf li P F d k as M = some (r, M') → ∀ (y : MethodName) (b : ByteArray) (mL : Nat) (rt : Option FieldType) (ci : Nat) (co : Nat → Option mm_I), P k = some (y, b, mL, rt, ci, co) → mm_Met base ext cA D cl tb X sf sts sks nws lay l d as M r M' y b mL rt := by
  intro d
  induction d with
  | zero => intro k as M r M' h; simp [mm_ev] at h
  | succ d ih =>
    intro k as M r M' h y b mL rt ci co hP1
    simp only [mm_ev, hP1] at h
    split at h
    · rename_i hent
      obtain ⟨o1, o2, o3, o4⟩ := hPk _ _ _ _ _ _ _ hP1
      have hmono := mm_ev_mono X fty nf li P F d
      have mm := mm_run_mono X fty nf li hmono _ _ _ _ _ h
      refine Met.ofW (cc := b) (maxL := mL) (ret := rt) o1 rfl ?_
      intro p e s m args below meth c s₁ B hml hv
      obtain ⟨rfl, hsz, hW, hKs⟩ := hv
      have hx := B.exec
      have hb := B.bytes
      have hr := B.returns
      have hts := atoms_spec (ws := .code y b mL rt :: tb) B.pre
      have hts' : ∀ w ∈ tb, w.before (as.map (mm_en base ext)).toArray s = true := fun w hw => hts w (List.mem_cons_of_mem _ hw)
      have hown : s.vm.findClass y.cls = some m.cls := findClass_of_methodNamed B.named
      have hlocks := B.notSynchronized
      have hnm : meth.name = y.name := (name_of_methodNamed B.named B.method).1
      have hS : va_S (mm_A base) s.heap s.heap [] := va_S.rf
      rw [lg_entry_eq]
      refine mm_run_snd base ext cA D cl tb X sf sts sks nws lay fty nf li P hcl hg hPk hx hb hown hts' hnm hKs (d := d) (Nat.le_refl _) (Nat.le_refl _) (by omega) hmono ih o4 (s0 := mm_sl M) (by show base + M'.length ≤ s.heap.size + (M'.length - M.length); omega) (by show mm_sl M' ≤ (mm_sl M' - mm_sl M) + mm_sl M; omega) ?_ F 0 (mm_entry as mL) [] M h s.heap [] 0 0 _ hW hS (mm_entry_LH base ext hent) (by rw [hml]; simp [mm_entry]; omega) (by omega) (by omega)
      intro pc i ls st H locs cells slots hi hret hW1 hS1 hz hs0
      have hc1 : cells = M'.length - M.length := by omega
      have hs1 : slots = mm_sl M' - mm_sl M := by omega
      subst hc1
      subst hs1
      obtain ⟨hI, -⟩ := o4 pc i hi
      obtain ⟨ins, n, a9, b9, v9, pl⟩ := i
      obtain ⟨hd, hI⟩ := hI
      have hq : ∀ t : State, t.heap = H → s.WarmedH t.vm → mm_Qc base ext cA D cl r M' (as.map (mm_en base ext)).toArray s (.returned (r.map (mm_en base ext))) t := fun t ht _ => ⟨rfl, by rw [ht]; exact hW1, hS1.F ht⟩
      have hf : ∀ q ∈ locs, mm_A base q.base := hS1.2.2
      cases ins with
      | ireturn =>
        have hn : n = 1 := hI
        subst hn
        simp only [mm_ret] at hret
        split at hret
        · split at hret
          · split at hret
            · rename_i hnar
              cases hret
              exact W.zret hx hb hr (mm_nar_spec hnar) hq hf hd
            · cases hret
          · cases hret
        · cases hret
      | lreturn =>
        have hn : n = 1 := hI
        subst hn
        simp only [mm_ret] at hret
        split at hret
        · split at hret
          · cases hret
            exact W.lret hx hb hr hq hf hd
          · cases hret
        · cases hret
      | areturn =>
        have hn : n = 1 := hI
        subst hn
        have hrt : mm_isRt rt = true → ∃ ty, rt = some ty ∧ ((∃ n, ty = .object n) ∨ ∃ t, ty = .array t) := by
          intro hh
          unfold mm_isRt at hh
          split at hh
          · exact ⟨_, rfl, Or.inl ⟨_, rfl⟩⟩
          · exact ⟨_, rfl, Or.inr ⟨_, rfl⟩⟩
          · cases hh
        simp only [mm_ret] at hret
        split at hret
        · split at hret
          · rename_i hh
            obtain ⟨ty, rfl, hty⟩ := hrt hh
            cases hret
            exact W.aret hx hb hr hty (Or.inr ⟨_, rfl⟩) hq hf hd
          · cases hret
        · split at hret
          · rename_i v8 hh
            obtain ⟨ty, rfl, hty⟩ := hrt hh
            cases hret
            refine W.aret (v := mm_en base ext (.retAddr v8)) hx hb hr hty ?_ hq hf hd
            show va_rf (ext v8) = .null ∨ ∃ a, va_rf (ext v8) = .ref a
            cases ext v8 with
            | none => exact Or.inl rfl
            | some t => exact Or.inr ⟨t, rfl⟩
          · cases hret
        · cases hret
      | return_ =>
        have hn : n = 1 := hI
        subst hn
        simp only [mm_ret] at hret
        split at hret
        · split at hret
          · cases hret
            exact W.vret hx hb hr hq hf hd
          · cases hret
        · cases hret
      | _ => simp [mm_ret] at hret
    · cases h
end MM8
end
