/-! the small machine's values and cells as the true machine's -/
section MM1
variable (base : Nat) (ext : Nat → Option Nat) (cA : Nat → ClassId)
def mm_en (v : Value) : Value := match v with
  | .ref k => .ref (base + k)
  | .retAddr n => va_rf (ext n)
  | v => v
def mm_ec (c : mm_C) : va_E := match c with
  | .inl xs => .inl (cA 0, xs.length, .inl (fun j => xs.getD j 0))
  | .inr (.inl (t, rs)) => .inl (cA t, rs.length, .inr (.inr (.inr (.inr (fun j => (rs.getD j none).map (fun k => base + k))))))
  | .inr (.inr (ci, fs)) => .inr (ci, fs.map (mm_en base ext))
def mm_ws (M : mm_M) : va_W := M.mapIdx (fun k c => (base + k, mm_ec base ext cA c))
def mm_asc : mm_L → Nat → List (Nat × Value)
  | [], _ => []
  | none :: L, i => mm_asc L (i + 1)
  | some v :: L, i => (i, mm_en base ext v) :: mm_asc L (i + 1)
def mm_LH (ls : Array Slot) (L : mm_L) : Prop := lv_has ls L.length (mm_asc base ext L 0)
def mm_A (base : Nat) : Nat → Prop := fun q => base ≤ q
def mm_Wd (D : va_G) (cl : List vw_C) (M : mm_M) (H : Heap) : Prop := va_P D cl (mm_ws base ext cA M) H
def mm_xt (n : Nat) : FieldType := if n < 50 then .int else .byte
theorem mm_en_cat (v : Value) : (mm_en base ext v).category = v.category := by
  cases v <;> simp [mm_en, Value.category]
  rename_i n
  cases h : ext n <;> simp [va_rf]
theorem mm_ws_get (M : mm_M) (k : Nat) : (mm_ws base ext cA M)[k]? = (M[k]?).map (fun c => (base + k, mm_ec base ext cA c)) := by
  simp [mm_ws]
theorem mm_ws_at {M : mm_M} {k : Nat} {c : mm_C} (h : M[k]? = some c) : (mm_ws base ext cA M)[k]? = some (base + k, mm_ec base ext cA c) := by
  rw [mm_ws_get, h]; rfl
theorem mm_ws_set (M : mm_M) (k : Nat) (c : mm_C) : mm_ws base ext cA (M.set k c) = (mm_ws base ext cA M).set k (base + k, mm_ec base ext cA c) := by
  simp [mm_ws, List.mapIdx_set]
theorem mm_ws_app (M : mm_M) (c : mm_C) : mm_ws base ext cA (M ++ [c]) = mm_ws base ext cA M ++ [(base + M.length, mm_ec base ext cA c)] := by
  simp [mm_ws, List.mapIdx_append]
theorem mm_D (M : mm_M) : va_D (mm_A base) (mm_ws base ext cA M) := by
  refine ⟨fun i j p q hi hj hpq => ?_, fun k q hk => ?_⟩
  · rw [mm_ws_get] at hi hj
    cases h1 : M[i]? with
    | none => rw [h1] at hi; cases hi
    | some a =>
      cases h2 : M[j]? with
      | none => rw [h2] at hj; cases hj
      | some b =>
        rw [h1] at hi; rw [h2] at hj
        cases hi; cases hj
        have : base + i = base + j := hpq
        omega
  · rw [mm_ws_get] at hk
    cases h1 : M[k]? with
    | none => rw [h1] at hk; cases hk
    | some a =>
      rw [h1] at hk
      cases hk
      exact Nat.le_add_right _ _
theorem mm_asc_mem (L : mm_L) : ∀ (i j : Nat) (w : Value), (j, w) ∈ mm_asc base ext L i ↔ ∃ v, i ≤ j ∧ L[j - i]? = some (some v) ∧ w = mm_en base ext v := by
  induction L with
  | nil => intro i j w; simp [mm_asc]
  | cons o L ih =>
    intro i j w
    cases o with
    | none =>
      simp only [mm_asc, ih]
      constructor
      · rintro ⟨v, h1, h2, h3⟩
        refine ⟨v, by omega, ?_, h3⟩
        rw [show j - i = (j - (i + 1)) + 1 by omega, List.getElem?_cons_succ]
        exact h2
      · rintro ⟨v, h1, h2, h3⟩
        have hj : j ≠ i := by
          rintro rfl
          rw [Nat.sub_self] at h2
          simp at h2
        refine ⟨v, by omega, ?_, h3⟩
        rw [show j - i = (j - (i + 1)) + 1 by omega, List.getElem?_cons_succ] at h2
        exact h2
    | some u =>
      simp only [mm_asc, List.mem_cons, Prod.mk.injEq, ih]
      constructor
      · rintro (⟨rfl, rfl⟩ | ⟨v, h1, h2, h3⟩)
        · exact ⟨u, Nat.le_refl _, by simp, rfl⟩
        · refine ⟨v, by omega, ?_, h3⟩
          rw [show j - i = (j - (i + 1)) + 1 by omega, List.getElem?_cons_succ]
          exact h2
      · rintro ⟨v, h1, h2, h3⟩
        by_cases hj : j = i
        · subst hj
          rw [Nat.sub_self] at h2
          simp at h2
          subst h2
          exact Or.inl ⟨rfl, h3⟩
        · right
          refine ⟨v, by omega, ?_, h3⟩
          rw [show j - i = (j - (i + 1)) + 1 by omega, List.getElem?_cons_succ] at h2
          exact h2
theorem mm_LH_at {ls : Array Slot} {L : mm_L} (h : mm_LH base ext ls L) {i : Nat} {v : Value} (hi : L[i]? = some (some v)) : ls[i]? = some (.val (mm_en base ext v)) :=
  h.2.2 (i, mm_en base ext v) ((mm_asc_mem base ext L 0 i _).mpr ⟨v, Nat.zero_le _, by simpa using hi, rfl⟩)
theorem mm_clr_len (L : mm_L) (i : Nat) : (mm_clr L i).length = L.length := by
  cases i with
  | zero => rfl
  | succ j => simp only [mm_clr]; split <;> simp
theorem mm_clr_at {L : mm_L} {i j : Nat} {u : Value} (hj : j ≠ i) (h : (mm_clr L i)[j]? = some (some u)) : L[j]? = some (some u) ∧ ¬ (j + 1 = i ∧ u.category = 2) := by
  cases i with
  | zero => exact ⟨h, by omega⟩
  | succ k =>
    simp only [mm_clr] at h
    split at h
    · by_cases hk : k = j
      · subst hk
        by_cases hl : k < L.length
        · rw [List.getElem?_set_self hl] at h; cases h
        · rw [List.getElem?_eq_none (by simp; omega)] at h; cases h
      · rw [List.getElem?_set_ne hk] at h
        exact ⟨h, by omega⟩
    · rename_i hn
      refine ⟨h, ?_⟩
      rintro ⟨h1, h2⟩
      have : j = k := by omega
      subst this
      rw [h] at hn
      cases u <;> simp [Value.category] at h2 <;> exact hn rfl
theorem mm_LH_mono {ls : Array Slot} {n : Nat} {l : List (Nat × Value)} {L : mm_L} (h : lv_has ls n l) (hn : L.length = n) (hm : ∀ (j : Nat) (u : Value), L[j]? = some (some u) → (j, mm_en base ext u) ∈ l) : mm_LH base ext ls L := by
  refine ⟨by rw [hn]; exact h.1, h.2.1, fun q hq => ?_⟩
  obtain ⟨j, w⟩ := q
  obtain ⟨v, -, h2, rfl⟩ := (mm_asc_mem base ext L 0 j w).mp hq
  exact h.2.2 _ (hm j v (by simpa using h2))
theorem mm_LH_sto1 {ls : Array Slot} {L : mm_L} {i : Nat} {v : Value} (hi : i < L.length)
    (h : lv_has ls L.length ((i, mm_en base ext v) :: (mm_asc base ext L 0).filter (fun q => !(q.1 == i) && !(q.1 + 1 == i && q.2.category == 2)))) : mm_LH base ext ls (mm_sto1 L i v) := by
  refine mm_LH_mono base ext h (by simp [mm_sto1, mm_clr_len]) (fun j u hj => ?_)
  by_cases hji : i = j
  · subst hji
    rw [mm_sto1, List.getElem?_set_self (by rw [mm_clr_len]; exact hi)] at hj
    cases hj
    exact List.mem_cons_self
  · rw [mm_sto1, List.getElem?_set_ne hji] at hj
    obtain ⟨h1, h2⟩ := mm_clr_at (Ne.symm hji) hj
    refine List.mem_cons_of_mem _ (List.mem_filter.mpr ⟨(mm_asc_mem base ext L 0 j _).mpr ⟨u, Nat.zero_le _, by simpa using h1, rfl⟩, ?_⟩)
    have h3 : ¬ (j + 1 = i ∧ (mm_en base ext u).category = 2) := by rw [mm_en_cat]; exact h2
    have h4 : ¬ j = i := fun e => hji e.symm
    by_cases h5 : j + 1 = i <;> by_cases h6 : (mm_en base ext u).category = 2 <;> simp_all
theorem mm_LH_sto2 {ls : Array Slot} {L : mm_L} {i : Nat} {v : Value} (hi : i + 1 < L.length)
    (h : lv_has ls L.length ((i, mm_en base ext v) :: (mm_asc base ext L 0).filter (fun q => !(q.1 == i) && (!(q.1 == i + 1) && !(q.1 + 1 == i && q.2.category == 2))))) : mm_LH base ext ls (mm_sto2 L i v) := by
  refine mm_LH_mono base ext h (by simp [mm_sto2, mm_clr_len]) (fun j u hj => ?_)
  by_cases hj1 : i + 1 = j
  · subst hj1
    rw [mm_sto2, List.getElem?_set_self (by simp [mm_clr_len]; exact hi)] at hj
    cases hj
  · rw [mm_sto2, List.getElem?_set_ne hj1] at hj
    by_cases hji : i = j
    · subst hji
      rw [List.getElem?_set_self (by rw [mm_clr_len]; omega)] at hj
      cases hj
      exact List.mem_cons_self
    · rw [List.getElem?_set_ne hji] at hj
      obtain ⟨h1, h2⟩ := mm_clr_at (Ne.symm hji) hj
      refine List.mem_cons_of_mem _ (List.mem_filter.mpr ⟨(mm_asc_mem base ext L 0 j _).mpr ⟨u, Nat.zero_le _, by simpa using h1, rfl⟩, ?_⟩)
      have h3 : ¬ (j + 1 = i ∧ (mm_en base ext u).category = 2) := by rw [mm_en_cat]; exact h2
      have h4 : ¬ j = i := fun e => hji e.symm
      have h7 : ¬ j = i + 1 := fun e => hj1 e.symm
      by_cases h5 : j + 1 = i <;> by_cases h6 : (mm_en base ext u).category = 2 <;> simp_all
end MM1
