/-! calls, returns, makings; the run of a method's body -/
abbrev mm_Mt : Type := MethodName × ByteArray × Nat × Option FieldType × Nat × (Nat → Option mm_I)
def mm_nar (ty : FieldType) (v : Int32) : Bool := match ty with
  | .int => true
  | .boolean => v == 0 || v == 1
  | .char => (v.toUInt32 % 65536).toInt32 == v
  | .byte => v.toInt8.toInt32 == v
  | _ => false
def mm_isRt (ret : Option FieldType) : Bool := match ret with
  | some (.object _) => true
  | some (.array _) => true
  | _ => false
def mm_ret (ret : Option FieldType) (i : mm_I) (st : List Value) : Option (Option Value) := match i with
  | (.ireturn, _) => (match st with | [.int v] => (match ret with | some ty => if mm_nar ty v = true then some (some (.int v)) else none | none => none) | _ => none)
  | (.lreturn, _) => (match st with | [.long v] => (match ret with | some .long => some (some (.long v)) | _ => none) | _ => none)
  | (.areturn, _) => (match st with | [.ref v] => if mm_isRt ret = true then some (some (.ref v)) else none | [.retAddr v] => if mm_isRt ret = true then some (some (.retAddr v)) else none | _ => none)
  | (.return_, _) => (match st with | [] => (match ret with | none => some none | _ => none) | _ => none)
  | _ => none
def mm_inv (i : mm_I) : Option (Nat × Nat × Nat) := match i with
  | (.invokevirtual _, _, k, n, _) => some (0, k, n)
  | (.invokespecial _, _, k, n, _) => if k = 999 then none else some (1, k, n)
  | (.invokestatic _, _, k, n, _) => if k = 997 ∨ k = 998 then none else some (2, k, n)
  | _ => none
def mm_rok (X : mm_X) (M : mm_M) (kd ci : Nat) (as : List Value) : Bool := match kd with
  | 0 => (match as with
    | .ref b :: _ => (match M[b]? with | some (.inr (.inr (c, _))) => c == ci && !(ci == 99) | _ => false)
    | .retAddr n :: _ => (match X n with | some (.inr _) => ci == 99 | _ => false)
    | _ => false)
  | 1 => (match as with
    | .ref _ :: _ => true
    | _ => false)
  | 2 => true
  | _ => false
def mm_make (nf : Nat → List Value) (li : Nat) (i : mm_I) (pc : Nat) (st : List Value) (M : mm_M) : Option (Nat × List Value × mm_M) := match i with
  | (.new _, _, a, _) => some (pc + 3, .ref M.length :: st, M ++ [.inr (.inr (a, nf a))])
  | (.newarray .int, _) => (match st with | .int n :: st => if n < 0 ∨ 1000 < n.toNatClampNeg then none else some (pc + 2, .ref M.length :: st, M ++ [.inl (List.replicate n.toNatClampNeg 0)]) | _ => none)
  | (.anewarray _, _) => (match st with | .int n :: st => if n < 0 ∨ 1000 < n.toNatClampNeg then none else some (pc + 3, .ref M.length :: st, M ++ [.inr (.inl (1, List.replicate n.toNatClampNeg none))]) | _ => none)
  | (.multianewarray _ 2, _) => (match st with | .int k :: .int n :: st => if (n < 0 ∨ k < 0) ∨ 1000 < n.toNatClampNeg ∨ 1000 < k.toNatClampNeg then none else some (pc + 4, .ref M.length :: st, mm_multi M n.toNatClampNeg k.toNatClampNeg) | _ => none)
  | (.aastore, _) => (match st with
    | .ref v :: .int j :: .ref a :: st => (match M[a]? with
      | some (.inr (.inl (1, rs))) => (match M[v]? with
        | some (.inr (.inr (ci, _))) => if ci = li ∧ ¬ j < 0 ∧ j.toNatClampNeg < rs.length then some (pc + 1, st, M.set a (.inr (.inl (1, rs.set j.toNatClampNeg (some v))))) else none
        | _ => none)
      | _ => none)
    | _ => none)
  | (.invokespecial _, _, k, _) => if k = 999 then (match st with | .ref _ :: st => if (st.map Value.category).sum ≤ 8 then some (pc + 3, st, M) else none | _ => none) else none
  | (.invokestatic _, _, k, _) => if k = 997 then (match st with | .int y :: .int x :: st => if (st.map Value.category).sum ≤ 8 then some (pc + 3, .int (if x < y then y else x) :: st, M) else none | _ => none) else if k = 998 then (match st with | .int y :: .int x :: st => if (st.map Value.category).sum ≤ 8 then some (pc + 3, .int (if y < x then y else x) :: st, M) else none | _ => none) else none
  | _ => none
def mm_run (fty : Nat → Nat → FieldType) (X : mm_X) (nf : Nat → List Value) (li : Nat) (cls : Nat → Nat) (call : Nat → List Value → mm_M → Option (Option Value × mm_M)) (ret : Option FieldType) (code : Nat → Option mm_I) : Nat → Nat → mm_L → List Value → mm_M → Option (Option Value × mm_M)
  | 0, _, _, _, _ => none
  | f + 1, pc, L, st, M => match code pc with
    | none => none
    | some i => match mm_ret ret i st with
      | some r => some (r, M)
      | none => match mm_inv i with
        | some (kd, k, n) => if n ≤ st.length ∧ mm_rok X M kd (cls k) (st.take n).reverse = true ∧ ((st.drop n).map Value.category).sum ≤ 8 then
            (match call k (st.take n).reverse M with
            | some (r, M1) => mm_run fty X nf li cls call ret code f (pc + 3) L (r.toList ++ st.drop n) M1
            | none => none) else none
        | none => match mm_make nf li i pc st M with
          | some (pc1, st1, M1) => mm_run fty X nf li cls call ret code f pc1 L st1 M1
          | none => match mm_step fty X i pc L st M with
            | some (pc1, L1, st1, M1) => mm_run fty X nf li cls call ret code f pc1 L1 st1 M1
            | none => none
def mm_ent : List Value → mm_L
  | [] => []
  | .long x :: vs => some (.long x) :: none :: mm_ent vs
  | .double x :: vs => some (.double x) :: none :: mm_ent vs
  | v :: vs => some v :: mm_ent vs
def mm_entry (as : List Value) (n : Nat) : mm_L := mm_ent as ++ List.replicate (n - (mm_ent as).length) none
def mm_cls (P : Nat → Option mm_Mt) (k : Nat) : Nat := match P k with
  | some (_, _, _, _, ci, _) => ci
  | none => 0
/-- F: the most instructions of one body; the depth of calls counts down -/
def mm_ev (fty : Nat → Nat → FieldType) (X : mm_X) (nf : Nat → List Value) (li : Nat) (P : Nat → Option mm_Mt) (F : Nat) : Nat → Nat → List Value → mm_M → Option (Option Value × mm_M)
  | 0, _, _, _ => none
  | d + 1, k, as, M => match P k with
    | none => none
    | some (_, _, n, ret, _, code) => if (mm_ent as).length ≤ n then mm_run fty X nf li (mm_cls P) (mm_ev fty X nf li P F d) ret code F 0 (mm_entry as n) [] M else none
theorem mm_sl_set {M : mm_M} {k : Nat} {c c1 : mm_C} (h : M[k]? = some c) (hs : mm_size c1 = mm_size c) : mm_sl (M.set k c1) = mm_sl M := by
  unfold mm_sl
  rw [List.map_set]
  congr 1
  have h2 : (M.map mm_size)[k]? = some (mm_size c1) := by rw [List.getElem?_map, h, hs]; rfl
  obtain ⟨hl, he⟩ := List.getElem?_eq_some_iff.mp h2
  rw [← he]
  exact List.set_getElem_self hl
theorem mm_sl_app (M N : mm_M) : mm_sl (M ++ N) = mm_sl M + mm_sl N := by
  unfold mm_sl
  rw [List.map_append, List.sum_append]
theorem mm_put_len {fty : Nat → Nat → FieldType} {M M1 : mm_M} {o v : Value} {ci k : Nat} (h : mm_put fty M o v ci k = some M1) : M1.length = M.length ∧ mm_sl M1 = mm_sl M := by
  unfold mm_put at h
  split at h
  · split at h
    · rename_i hM
      split at h
      · cases h
        exact ⟨by simp, mm_sl_set hM (by simp [mm_size])⟩
      · cases h
    · cases h
  · cases h
theorem mm_sti_len {M M1 : mm_M} {o : Value} {i x : Int32} (h : mm_sti M o i x = some M1) : M1.length = M.length ∧ mm_sl M1 = mm_sl M := by
  unfold mm_sti at h
  split at h
  · split at h
    · rename_i hM
      split at h
      · cases h
      · split at h
        · cases h
          exact ⟨by simp, mm_sl_set hM (by simp [mm_size])⟩
        · cases h
    · cases h
  · cases h
theorem mm_sto1_len (L : mm_L) (i : Nat) (v : Value) : (mm_sto1 L i v).length = L.length := by simp [mm_sto1, mm_clr_len]
theorem mm_sto2_len (L : mm_L) (i : Nat) (v : Value) : (mm_sto2 L i v).length = L.length := by simp [mm_sto2, mm_clr_len]
set_option maxHeartbeats 4000000 in
theorem mm_step_len {fty : Nat → Nat → FieldType} {X : mm_X} {i : mm_I} {pc pc' : Nat} {L L' : mm_L} {st st' : List Value} {M M' : mm_M} (h : mm_step fty X i pc L st M = some (pc', L', st', M')) : L'.length = L.length ∧ M'.length = M.length ∧ mm_sl M' = mm_sl M := by
  unfold mm_step at h
  (repeat' (first | (cases h; done) | (cases h; exact ⟨rfl, rfl, rfl⟩) | (cases h; exact ⟨mm_sto1_len _ _ _, rfl, rfl⟩) | (cases h; exact ⟨mm_sto2_len _ _ _, rfl, rfl⟩) | (rename_i hq; cases h; exact ⟨rfl, mm_put_len hq⟩) | (rename_i hq; cases h; exact ⟨rfl, mm_sti_len hq⟩) | split at h))
theorem mm_make_len {nf : Nat → List Value} {li : Nat} {i : mm_I} {pc pc' : Nat} {st st' : List Value} {M M' : mm_M} (h : mm_make nf li i pc st M = some (pc', st', M')) : M.length ≤ M'.length ∧ mm_sl M ≤ mm_sl M' := by
  unfold mm_make at h
  (repeat' (first | (cases h; done) | (cases h; exact ⟨Nat.le_refl _, Nat.le_refl _⟩) | (cases h; exact ⟨by simp, by rw [mm_sl_app]; omega⟩) | (cases h; exact ⟨by simp [mm_multi], by unfold mm_multi; rw [mm_sl_app]; omega⟩) | (rename_i hq _ _ _ _ _; cases h; exact ⟨by simp, Nat.le_of_eq (mm_sl_set hq (by simp [mm_size])).symm⟩) | split at h))
