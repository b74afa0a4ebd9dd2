/-! what nothing outside is needed for; the slots that a run may make -/
section XM
variable {fty : Nat → Nat → FieldType} {X : mm_X} {nf : Nat → List Value} {li : Nat} {P : Nat → Option mm_Mt}
def mm_X0 : mm_X := fun _ => none
theorem mm_fld_X {M : mm_M} {v w : Value} {a b : Nat} (h : mm_fld mm_X0 M v a b = some w) : mm_fld X M v a b = some w := by
  cases v <;> first | exact h | (cases h)
theorem mm_row_X {M : mm_M} {v : Value} {w : List Int32} (h : mm_row mm_X0 M v = some w) : mm_row X M v = some w := by
  cases v <;> first | exact h | skip
  simp [mm_row, mm_X0] at h
theorem mm_step_X {i : mm_I} {pc : Nat} {L : mm_L} {st : List Value} {M : mm_M} {y : mm_S} (h : mm_step fty mm_X0 i pc L st M = some y) : mm_step fty X i pc L st M = some y := by
  obtain ⟨ins, len, a, b, v, p⟩ := i
  cases ins with
  | getfield k =>
    cases st with
    | nil => exact h
    | cons o st =>
      simp only [mm_step] at h ⊢
      cases hf : mm_fld mm_X0 M o a b with
      | none => rw [hf] at h; cases h
      | some w => rw [hf] at h; rw [mm_fld_X hf]; exact h
  | iaload =>
    simp only [mm_step] at h ⊢
    split at h
    · rename_i j o st
      cases hf : mm_row mm_X0 M o with
      | none => rw [hf] at h; cases h
      | some w => rw [hf] at h; rw [mm_row_X hf]; exact h
    · cases h
  | baload =>
    simp only [mm_step, mm_X0] at h
    split at h
    · split at h <;> cases h
    · cases h
  | arraylength =>
    simp only [mm_step, mm_X0] at h
    split at h <;> cases h
  | ifCond c o => cases c <;> exact h
  | if_icmp c o => cases c <;> exact h
  | _ => exact h
theorem mm_rok_X {M : mm_M} {kd ci : Nat} {as : List Value} (h : mm_rok mm_X0 M kd ci as = true) : mm_rok X M kd ci as = true := by
  unfold mm_rok at h ⊢
  split at h
  · split at h
    · exact h
    · simp [mm_X0] at h
    · cases h
  · exact h
  · rfl
  · cases h
theorem mm_run_X {cls : Nat → Nat} {call call' : Nat → List Value → mm_M → Option (Option Value × mm_M)} (hc : ∀ k as M x, call k as M = some x → call' k as M = some x) {ret : Option FieldType} {code : Nat → Option mm_I} {x : Option Value × mm_M} :
    ∀ (f pc : Nat) (L : mm_L) (st : List Value) (M : mm_M), mm_run fty mm_X0 nf li cls call ret code f pc L st M = some x → mm_run fty X nf li cls call' ret code f pc L st M = some x := by
  intro f
  induction f with
  | zero => intro pc L st M h; simp [mm_run] at h
  | succ f ih =>
    intro pc L st M h
    simp only [mm_run] at h ⊢
    cases hco : code pc with
    | none => rw [hco] at h; cases h
    | some i =>
      rw [hco] at h
      dsimp only at h ⊢
      cases hr : mm_ret ret i st with
      | some r => rw [hr] at h; exact h
      | none =>
        rw [hr] at h
        dsimp only at h ⊢
        cases hi : mm_inv i with
        | some q =>
          obtain ⟨kd, k, n⟩ := q
          rw [hi] at h
          dsimp only at h ⊢
          split at h
          · rename_i hcd
            rw [if_pos ⟨hcd.1, mm_rok_X hcd.2.1, hcd.2.2⟩]
            cases hq : call k (st.take n).reverse M with
            | none => rw [hq] at h; cases h
            | some q =>
              rw [hq] at h
              rw [hc _ _ _ _ hq]
              exact ih _ _ _ _ h
          · cases h
        | none =>
          rw [hi] at h
          dsimp only at h ⊢
          cases hm : mm_make nf li i pc st M with
          | some q =>
            rw [hm] at h
            exact ih _ _ _ _ h
          | none =>
            rw [hm] at h
            dsimp only at h ⊢
            cases hs : mm_step fty mm_X0 i pc L st M with
            | some q =>
              rw [hs] at h
              rw [mm_step_X hs]
              exact ih _ _ _ _ h
            | none => rw [hs] at h; cases h
theorem mm_ev_X {F : Nat} : ∀ (d : Nat) (k : Nat) (as : List Value) (M : mm_M) (x : Option Value × mm_M), mm_ev fty mm_X0 nf li P F d k as M = some x → mm_ev fty X nf li P F d k as M = some x := by
  intro d
  induction d with
  | zero => intro k as M x h; simp [mm_ev] at h
  | succ d ih =>
    intro k as M x h
    simp only [mm_ev] at h ⊢
    cases hP : P k with
    | none => rw [hP] at h; cases h
    | some q =>
      rw [hP] at h
      dsimp only at h ⊢
      split at h
      · rename_i hl
        rw [if_pos hl]
        exact mm_run_X (ih) _ _ _ _ _ h
      · cases h
theorem mm_multi_sl {M : mm_M} {n k : Nat} (hn : n ≤ 1000) (hk : k ≤ 1000) : mm_sl (mm_multi M n k) + 1000 * M.length ≤ mm_sl M + 1000 * (mm_multi M n k).length := by
  unfold mm_multi
  rw [mm_sl_app]
  have h : mm_sl (List.replicate n (.inl (List.replicate k 0) : mm_C)) ≤ 1000 * n := by
    unfold mm_sl
    rw [List.map_replicate, List.sum_replicate_nat]
    have : mm_size (.inl (List.replicate k 0) : mm_C) = k := by simp [mm_size]
    rw [this, Nat.mul_comm]
    exact Nat.mul_le_mul_right _ hk
  simp [mm_sl, mm_size] at h ⊢
  omega
theorem mm_make_sl (hnf : ∀ a, (nf a).length ≤ 1000) {i : mm_I} {pc pc' : Nat} {st st' : List Value} {M M' : mm_M} (h : mm_make nf li i pc st M = some (pc', st', M')) : mm_sl M' + 1000 * M.length ≤ mm_sl M + 1000 * M'.length := by
  unfold mm_make at h
  (repeat' (first | (cases h; done) | (cases h; exact Nat.le_refl _) | (cases h; (rw [mm_sl_app]; simp [mm_sl, mm_size]; have := hnf (by assumption); omega)) | (cases h; (rw [mm_sl_app]; simp [mm_sl, mm_size]; omega)) | (cases h; exact mm_multi_sl (by omega) (by omega)) | (rename_i hq _ _ _ _ _; cases h; rw [mm_sl_set hq (by simp [mm_size])]; simp) | split at h))
theorem mm_run_sl (hnf : ∀ a, (nf a).length ≤ 1000) {cls : Nat → Nat} {call : Nat → List Value → mm_M → Option (Option Value × mm_M)} (hc : ∀ (k : Nat) (as : List Value) (M : mm_M) (r : Option Value) (M' : mm_M), call k as M = some (r, M') → mm_sl M' + 1000 * M.length ≤ mm_sl M + 1000 * M'.length) {ret : Option FieldType} {code : Nat → Option mm_I} {r : Option Value} {M' : mm_M} :
    ∀ (f pc : Nat) (L : mm_L) (st : List Value) (M : mm_M), mm_run fty X nf li cls call ret code f pc L st M = some (r, M') → mm_sl M' + 1000 * M.length ≤ mm_sl M + 1000 * M'.length := by
  intro f
  induction f with
  | zero => intro pc L st M h; simp [mm_run] at h
  | succ f ih =>
    intro pc L st M h
    simp only [mm_run] at h
    split at h
    · cases h
    · split at h
      · cases h
        exact Nat.le_refl _
      · split at h
        · split at h
          · split at h
            · rename_i hq
              have h1 := hc _ _ _ _ _ hq
              have h2 := ih _ _ _ _ h
              omega
            · cases h
          · cases h
        · split at h
          · rename_i hq
            have h1 := mm_make_sl hnf hq
            have h2 := ih _ _ _ _ h
            omega
          · split at h
            · rename_i hq
              have h1 := mm_step_len hq
              have h2 := ih _ _ _ _ h
              rw [h1.2.1, h1.2.2] at h2
              exact h2
            · cases h
theorem mm_ev_sl (hnf : ∀ a, (nf a).length ≤ 1000) (F : Nat) : ∀ (d k : Nat) (as : List Value) (M : mm_M) (r : Option Value) (M' : mm_M), mm_ev fty X nf li P F d k as M = some (r, M') → mm_sl M' + 1000 * M.length ≤ mm_sl M + 1000 * M'.length := by
  intro d
  induction d with
  | zero => intro k as M r M' h; simp [mm_ev] at h
  | succ d ih =>
    intro k as M r M' h
    simp only [mm_ev] at h
    split at h
    · cases h
    · split at h
      · exact mm_run_sl hnf ih _ _ _ _ _ h
      · cases h
theorem mc_nf_le (a : Nat) : (mc_nf a).length ≤ 1000 := by
  unfold mc_nf
  rw [List.length_map, List.getD_eq_getElem?_getD]
  cases h : mc_ty[a]? with
  | none => decide
  | some q =>
    have h1 : ∀ q ∈ mc_ty, q.length ≤ 1000 := by decide +kernel
    exact h1 q (List.mem_of_getElem? h)
end XM
