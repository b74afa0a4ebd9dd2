/-! weakest preconditions over the small machine: no fuel is seen; n is the depth of calls that is left -/
theorem mm_run_le {fty : Nat → Nat → FieldType} {X : mm_X} {nf : Nat → List Value} {li : Nat} {cls : Nat → Nat} {call call' : Nat → List Value → mm_M → Option (Option Value × mm_M)} (hc : ∀ k as M x, call k as M = some x → call' k as M = some x) {ret : Option FieldType} {code : Nat → Option mm_I} {x : Option Value × mm_M} :
    ∀ (f f' pc : Nat) (L : mm_L) (st : List Value) (M : mm_M), f ≤ f' → mm_run fty X nf li cls call ret code f pc L st M = some x → mm_run fty X nf li cls call' ret code f' pc L st M = some x := by
  intro f
  induction f with
  | zero => intro f' pc L st M _ h; simp [mm_run] at h
  | succ f ih =>
    intro f' pc L st M hf h
    obtain ⟨g, rfl⟩ : ∃ g, f' = g + 1 := ⟨f' - 1, by omega⟩
    have hg : f ≤ g := by omega
    simp only [mm_run] at h ⊢
    cases hco : code pc with
    | none => rw [hco] at h; cases h
    | some i =>
      rw [hco] at h
      dsimp only at h ⊢
      cases hr : mm_ret ret i st with
      | some r => rw [hr] at h; exact h
      | none =>
        rw [hr] at h
        dsimp only at h ⊢
        cases hi : mm_inv i with
        | some q =>
          obtain ⟨kd, k, n⟩ := q
          rw [hi] at h
          dsimp only at h ⊢
          split at h
          · rename_i hcd
            rw [if_pos hcd]
            cases hq : call k (st.take n).reverse M with
            | none => rw [hq] at h; cases h
            | some q =>
              rw [hq] at h
              rw [hc _ _ _ _ hq]
              exact ih g _ _ _ _ hg h
          · cases h
        | none =>
          rw [hi] at h
          dsimp only at h ⊢
          cases hm : mm_make nf li i pc st M with
          | some q =>
            rw [hm] at h
            exact ih g _ _ _ _ hg h
          | none =>
            rw [hm] at h
            dsimp only at h ⊢
            cases hs : mm_step fty X i pc L st M with
            | some q =>
              rw [hs] at h
              exact ih g _ _ _ _ hg h
            | none => rw [hs] at h; cases h
theorem mm_ev_le {fty : Nat → Nat → FieldType} {X : mm_X} {nf : Nat → List Value} {li : Nat} {P : Nat → Option mm_Mt} {F F' : Nat} (hF : F ≤ F') : ∀ (d d' : Nat), d ≤ d' → ∀ (k : Nat) (as : List Value) (M : mm_M) (x : Option Value × mm_M), mm_ev fty X nf li P F d k as M = some x → mm_ev fty X nf li P F' d' k as M = some x := by
  intro d
  induction d with
  | zero => intro d' _ k as M x h; simp [mm_ev] at h
  | succ d ih =>
    intro d' hd k as M x h
    obtain ⟨g, rfl⟩ : ∃ g, d' = g + 1 := ⟨d' - 1, by omega⟩
    simp only [mm_ev] at h ⊢
    cases hP : P k with
    | none => rw [hP] at h; cases h
    | some q =>
      rw [hP] at h
      dsimp only at h ⊢
      split at h
      · rename_i hl
        rw [if_pos hl]
        exact mm_run_le (ih g (by omega)) _ _ _ _ _ _ hF h
      · cases h
abbrev mw_B : Type := Option FieldType × List (Nat × mm_I)
def Wp (scr : List Int32) (n k : Nat) (as : List Value) (M : mm_M) (Q : Option Value → mm_M → Prop) : Prop := ∃ F r M', mm_ev mc_fty (mc_X scr) mc_nf 1 mc_P F n k as M = some (r, M') ∧ Q r M'
def wp (scr : List Int32) (n : Nat) (c : mw_B) (pc : Nat) (L : mm_L) (st : List Value) (M : mm_M) (Q : Option Value → mm_M → Prop) : Prop := ∃ F f r M', mm_run mc_fty (mc_X scr) mc_nf 1 (mm_cls mc_P) (mm_ev mc_fty (mc_X scr) mc_nf 1 mc_P F n) c.1 (mc_co c.2) f pc L st M = some (r, M') ∧ Q r M'
def mw_o {α : Type} (o : Option α) (Φ : α → Prop) : Prop := match o with
  | some v => Φ v
  | none => False
theorem mw_os {α : Type} {v : α} {Φ : α → Prop} : mw_o (some v) Φ ↔ Φ v := Iff.rfl
theorem mw_oe {α : Type} {o : Option α} {v : α} {Φ : α → Prop} (h : o = some v) : mw_o o Φ ↔ Φ v := by rw [h]; exact Iff.rfl
def mm_ld (X : mm_X) (M : mm_M) (o : Value) (j : Int32) : Option Int32 := (mm_row X M o).bind (fun xs => mm_at xs j)
def mm_lda (M : mm_M) (a : Nat) (j : Int32) : Option Value := match M[a]? with
  | some (.inr (.inl (t, rs))) => if t = 1 ∨ t = 2 then (mm_atq rs j).map mm_rf else none
  | _ => none
section MW
variable {scr : List Int32} {n : Nat} {c : mw_B} {pc pc' : Nat} {L L' : mm_L} {st st' : List Value} {M M' : mm_M} {Q : Option Value → mm_M → Prop} {i : mm_I}
theorem wp_step (hc : mc_co c.2 pc = some i) (h1 : mm_ret c.1 i st = none) (h2 : mm_inv i = none) (h3 : mm_make mc_nf 1 i pc st M = none) (hs : mm_step mc_fty (mc_X scr) i pc L st M = some (pc', L', st', M')) : wp scr n c pc L st M Q ↔ wp scr n c pc' L' st' M' Q := by
  constructor
  · rintro ⟨F, f, r, M2, h, hq⟩
    cases f with
    | zero => simp [mm_run] at h
    | succ f =>
      simp only [mm_run, hc, h1, h2, h3, hs] at h
      exact ⟨F, f, r, M2, h, hq⟩
  · rintro ⟨F, f, r, M2, h, hq⟩
    exact ⟨F, f + 1, r, M2, by simp only [mm_run, hc, h1, h2, h3, hs]; exact h, hq⟩
theorem wp_none (hc : mc_co c.2 pc = some i) (h1 : mm_ret c.1 i st = none) (h2 : mm_inv i = none) (h3 : mm_make mc_nf 1 i pc st M = none) (hs : mm_step mc_fty (mc_X scr) i pc L st M = none) : ¬ wp scr n c pc L st M Q := by
  rintro ⟨F, f, r, M2, h, hq⟩
  cases f with
  | zero => simp [mm_run] at h
  | succ f => simp [mm_run, hc, h1, h2, h3, hs] at h
theorem wp_make (hc : mc_co c.2 pc = some i) (h1 : mm_ret c.1 i st = none) (h2 : mm_inv i = none) (h3 : mm_make mc_nf 1 i pc st M = some (pc', st', M')) : wp scr n c pc L st M Q ↔ wp scr n c pc' L st' M' Q := by
  constructor
  · rintro ⟨F, f, r, M2, h, hq⟩
    cases f with
    | zero => simp [mm_run] at h
    | succ f =>
      simp only [mm_run, hc, h1, h2, h3] at h
      exact ⟨F, f, r, M2, h, hq⟩
  · rintro ⟨F, f, r, M2, h, hq⟩
    exact ⟨F, f + 1, r, M2, by simp only [mm_run, hc, h1, h2, h3]; exact h, hq⟩
theorem wp_ret {r : Option Value} (hc : mc_co c.2 pc = some i) (h1 : mm_ret c.1 i st = some r) : wp scr n c pc L st M Q ↔ Q r M := by
  constructor
  · rintro ⟨F, f, r2, M2, h, hq⟩
    cases f with
    | zero => simp [mm_run] at h
    | succ f =>
      simp only [mm_run, hc, h1] at h
      cases h
      exact hq
  · intro hq
    exact ⟨0, 1, r, M, by simp only [mm_run, hc, h1], hq⟩
theorem wp_call {kd k na : Nat} (hc : mc_co c.2 pc = some i) (h1 : mm_ret c.1 i st = none) (h2 : mm_inv i = some (kd, k, na)) (h3 : na ≤ st.length) (h4 : mm_rok (mc_X scr) M kd (mm_cls mc_P k) (st.take na).reverse = true) (h5 : ((st.drop na).map Value.category).sum ≤ 8) :
    wp scr n c pc L st M Q ↔ Wp scr n k (st.take na).reverse M (fun r1 M1 => wp scr n c (pc + 3) L (r1.toList ++ st.drop na) M1 Q) := by
  constructor
  · rintro ⟨F, f, r, M2, h, hq⟩
    cases f with
    | zero => simp [mm_run] at h
    | succ f =>
      simp only [mm_run, hc, h1, h2, if_pos (And.intro h3 (And.intro h4 h5))] at h
      split at h
      · rename_i r1 M1 hcl
        exact ⟨F, r1, M1, hcl, F, f, r, M2, h, hq⟩
      · cases h
  · rintro ⟨F1, r1, M1, hcl, F2, f, r, M2, h, hq⟩
    refine ⟨max F1 F2, f + 1, r, M2, ?_, hq⟩
    simp only [mm_run, hc, h1, h2, if_pos (And.intro h3 (And.intro h4 h5))]
    rw [mm_ev_le (Nat.le_max_left F1 F2) n n (Nat.le_refl _) _ _ _ _ hcl]
    exact mm_run_le (mm_ev_le (Nat.le_max_right F1 F2) n n (Nat.le_refl _)) _ _ _ _ _ _ (Nat.le_refl _) h
theorem wp_ite {p : Prop} {hp : Decidable p} {a b : Nat} : wp scr n c (@ite Nat p hp a b) L st M Q ↔ @ite Prop p hp (wp scr n c a L st M Q) (wp scr n c b L st M Q) := by
  split <;> exact Iff.rfl
theorem Wp_body {k : Nat} {as : List Value} {y : MethodName} {b : ByteArray} {mL ci : Nat} (hP : mc_P k = some (y, b, mL, c.1, ci, mc_co c.2)) (he : (mm_ent as).length ≤ mL) : Wp scr (n + 1) k as M Q ↔ wp scr n c 0 (mm_entry as mL) [] M Q := by
  constructor
  · rintro ⟨F, r, M2, h, hq⟩
    simp only [mm_ev, hP, if_pos he] at h
    exact ⟨F, F, r, M2, h, hq⟩
  · rintro ⟨F, f, r, M2, h, hq⟩
    refine ⟨max F f, r, M2, ?_, hq⟩
    simp only [mm_ev, hP, if_pos he]
    exact mm_run_le (mm_ev_le (Nat.le_max_left F f) n n (Nat.le_refl _)) _ _ _ _ _ _ (Nat.le_max_right F f) h
theorem Wp_mono {k n n' : Nat} {as : List Value} (hn : n ≤ n') {Q' : Option Value → mm_M → Prop} (hQ : ∀ r M, Q r M → Q' r M) (h : Wp scr n k as M Q) : Wp scr n' k as M Q' := by
  obtain ⟨F, r, M2, h1, h2⟩ := h
  exact ⟨F, r, M2, mm_ev_le (Nat.le_refl _) _ _ hn _ _ _ _ h1, hQ _ _ h2⟩
theorem wp_mono {Q' : Option Value → mm_M → Prop} (hQ : ∀ r M, Q r M → Q' r M) (h : wp scr n c pc L st M Q) : wp scr n c pc L st M Q' := by
  obtain ⟨F, f, r, M2, h1, h2⟩ := h
  exact ⟨F, f, r, M2, h1, hQ _ _ h2⟩
/-- one instruction that reads a field -/
theorem wp_getf {idx len a b : Nat} {v : Value} {p : List Nat} {o : Value} (hc : mc_co c.2 pc = some (.getfield idx, len, a, b, v, p)) : wp scr n c pc L (o :: st) M Q ↔ mw_o (mm_fld (mc_X scr) M o a b) (fun v => wp scr n c (pc + 3) L (v :: st) M Q) := by
  cases h : mm_fld (mc_X scr) M o a b with
  | some v => exact wp_step hc rfl rfl rfl (by simp only [mm_step, h])
  | none => exact ⟨fun z => wp_none hc rfl rfl rfl (by simp only [mm_step, h]) z, fun z => z.elim⟩
theorem wp_putf {idx len a b : Nat} {v0 : Value} {p : List Nat} {o v : Value} (hc : mc_co c.2 pc = some (.putfield idx, len, a, b, v0, p)) : wp scr n c pc L (v :: o :: st) M Q ↔ mw_o (mm_put mc_fty M o v a b) (fun M1 => wp scr n c (pc + 3) L st M1 Q) := by
  cases h : mm_put mc_fty M o v a b with
  | some v => exact wp_step hc rfl rfl rfl (by simp only [mm_step, h])
  | none => exact ⟨fun z => wp_none hc rfl rfl rfl (by simp only [mm_step, h]) z, fun z => z.elim⟩
theorem wp_iald {t : Nat × Nat × Nat × Value × List Nat} {o : Value} {j : Int32} (hc : mc_co c.2 pc = some (.iaload, t)) : wp scr n c pc L (.int j :: o :: st) M Q ↔ mw_o (mm_ld (mc_X scr) M o j) (fun x => wp scr n c (pc + 1) L (.int x :: st) M Q) := by
  unfold mm_ld
  cases h : mm_row (mc_X scr) M o with
  | some xs =>
    rw [Option.bind_some]
    cases h2 : mm_at xs j with
    | some x => exact wp_step hc rfl rfl rfl (by simp only [mm_step, h, h2])
    | none => exact ⟨fun z => wp_none hc rfl rfl rfl (by simp only [mm_step, h, h2]) z, fun z => z.elim⟩
  | none => exact ⟨fun z => wp_none hc rfl rfl rfl (by simp only [mm_step, h]) z, fun z => z.elim⟩
theorem wp_iast {t : Nat × Nat × Nat × Value × List Nat} {o : Value} {j x : Int32} (hc : mc_co c.2 pc = some (.iastore, t)) : wp scr n c pc L (.int x :: .int j :: o :: st) M Q ↔ mw_o (mm_sti M o j x) (fun M1 => wp scr n c (pc + 1) L st M1 Q) := by
  cases h : mm_sti M o j x with
  | some v => exact wp_step hc rfl rfl rfl (by simp only [mm_step, h])
  | none => exact ⟨fun z => wp_none hc rfl rfl rfl (by simp only [mm_step, h]) z, fun z => z.elim⟩
theorem wp_aald {t : Nat × Nat × Nat × Value × List Nat} {a : Nat} {j : Int32} (hc : mc_co c.2 pc = some (.aaload, t)) : wp scr n c pc L (.int j :: .ref a :: st) M Q ↔ mw_o (mm_lda M a j) (fun v => wp scr n c (pc + 1) L (v :: st) M Q) := by
  unfold mm_lda
  split
  · rename_i t9 rs hM
    split
    · rename_i ht
      cases h2 : mm_atq rs j with
      | some r => exact wp_step hc rfl rfl rfl (by simp only [mm_step, hM, h2, if_pos ht])
      | none => exact ⟨fun z => wp_none hc rfl rfl rfl (by simp only [mm_step, hM, h2, if_pos ht]) z, fun z => z.elim⟩
    · rename_i ht
      exact ⟨fun z => wp_none hc rfl rfl rfl (by simp only [mm_step, hM, if_neg ht]) z, fun z => z.elim⟩
  · rename_i hM
    refine ⟨fun z => wp_none hc rfl rfl rfl ?_ z, fun z => z.elim⟩
    simp only [mm_step]
theorem wp_bald {t : Nat × Nat × Nat × Value × List Nat} {a : Nat} {j : Int32} (hc : mc_co c.2 pc = some (.baload, t)) : wp scr n c pc L (.int j :: .retAddr a :: st) M Q ↔ mw_o (if a < 50 then none else (match mc_X scr a with | some (.inl xs) => mm_at xs j | _ => none)) (fun x => wp scr n c (pc + 1) L (.int x :: st) M Q) := by
  by_cases h50 : a < 50
  · rw [if_pos h50]
    exact ⟨fun z => wp_none hc rfl rfl rfl (by simp only [mm_step, if_pos h50]) z, fun z => z.elim⟩
  · rw [if_neg h50]
    split
    · rename_i xs hX
      cases h2 : mm_at xs j with
      | some x => exact wp_step hc rfl rfl rfl (by simp only [mm_step, if_neg h50, hX, h2])
      | none => exact ⟨fun z => wp_none hc rfl rfl rfl (by simp only [mm_step, if_neg h50, hX, h2]) z, fun z => z.elim⟩
    · rename_i hX
      refine ⟨fun z => wp_none hc rfl rfl rfl ?_ z, fun z => z.elim⟩
      simp only [mm_step, if_neg h50]
theorem wp_alen {t : Nat × Nat × Nat × Value × List Nat} {a : Nat} (hc : mc_co c.2 pc = some (.arraylength, t)) : wp scr n c pc L (.retAddr a :: st) M Q ↔ mw_o (match mc_X scr a with | some (.inl xs) => some (Int32.ofNat xs.length) | _ => none) (fun x => wp scr n c (pc + 1) L (.int x :: st) M Q) := by
  split
  · rename_i xs hX
    exact wp_step hc rfl rfl rfl (by simp only [mm_step, hX])
  · rename_i hX
    refine ⟨fun z => wp_none hc rfl rfl rfl ?_ z, fun z => z.elim⟩
    simp only [mm_step]
theorem wp_idiv {t : Nat × Nat × Nat × Value × List Nat} {x y : Int32} (hc : mc_co c.2 pc = some (.idiv, t)) : wp scr n c pc L (.int y :: .int x :: st) M Q ↔ (if y = 0 then False else wp scr n c (pc + 1) L (.int (x / y) :: st) M Q) := by
  split
  · rename_i h
    exact ⟨fun z => wp_none hc rfl rfl rfl (by simp only [mm_step, if_pos h]) z, fun z => z.elim⟩
  · rename_i h
    exact wp_step hc rfl rfl rfl (by simp only [mm_step, if_neg h])
theorem wp_irem {t : Nat × Nat × Nat × Value × List Nat} {x y : Int32} (hc : mc_co c.2 pc = some (.irem, t)) : wp scr n c pc L (.int y :: .int x :: st) M Q ↔ (if y = 0 then False else wp scr n c (pc + 1) L (.int (x - x / y * y) :: st) M Q) := by
  split
  · rename_i h
    exact ⟨fun z => wp_none hc rfl rfl rfl (by simp only [mm_step, if_pos h]) z, fun z => z.elim⟩
  · rename_i h
    exact wp_step hc rfl rfl rfl (by simp only [mm_step, if_neg h])
theorem wp_ldiv {t : Nat × Nat × Nat × Value × List Nat} {x y : Int64} (hc : mc_co c.2 pc = some (.ldiv, t)) : wp scr n c pc L (.long y :: .long x :: st) M Q ↔ (if y = 0 then False else wp scr n c (pc + 1) L (.long (x / y) :: st) M Q) := by
  split
  · rename_i h
    exact ⟨fun z => wp_none hc rfl rfl rfl (by simp only [mm_step, if_pos h]) z, fun z => z.elim⟩
  · rename_i h
    exact wp_step hc rfl rfl rfl (by simp only [mm_step, if_neg h])
theorem wp_lrem {t : Nat × Nat × Nat × Value × List Nat} {x y : Int64} (hc : mc_co c.2 pc = some (.lrem, t)) : wp scr n c pc L (.long y :: .long x :: st) M Q ↔ (if y = 0 then False else wp scr n c (pc + 1) L (.long (x - x / y * y) :: st) M Q) := by
  split
  · rename_i h
    exact ⟨fun z => wp_none hc rfl rfl rfl (by simp only [mm_step, if_pos h]) z, fun z => z.elim⟩
  · rename_i h
    exact wp_step hc rfl rfl rfl (by simp only [mm_step, if_neg h])
/-- .. a switch -/
theorem wp_tab {d lo hi : Int} {os : Array Int} {t : Nat × Nat × Nat × Value × List Nat} {x : Int32} (hc : mc_co c.2 pc = some (.tableswitch d lo hi os, t)) : wp scr n c pc L (.int x :: st) M Q ↔ (if x.toInt < lo ∨ hi < x.toInt then wp scr n c ((pc : Int) + d).toNat L st M Q else mw_o os[(x.toInt - lo).toNat]? (fun o => wp scr n c ((pc : Int) + o).toNat L st M Q)) := by
  split
  · rename_i h
    exact wp_step hc rfl rfl rfl (by simp only [mm_step, if_pos h])
  · rename_i h
    cases h2 : os[(x.toInt - lo).toNat]? with
    | some o => exact wp_step hc rfl rfl rfl (by simp only [mm_step, if_neg h, h2])
    | none => exact ⟨fun z => wp_none hc rfl rfl rfl (by simp only [mm_step, if_neg h, h2]) z, fun z => z.elim⟩
end MW
