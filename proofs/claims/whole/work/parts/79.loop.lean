/-! the loop over the script, and the law from its start -/
section LP
variable {scr : List Int32} {n : Nat} {M : mm_M} {Q : Option Value → mm_M → Prop} {g : SG}
theorem lwR_at {j : Nat} (hl : scr.length ≤ 2560) (hj : j < scr.length) : lwR scr (nI j) (gi scr (nI j)) := by
  intro M
  show mm_at scr (nI j) = _
  exact gi_atN hj (by omega)
theorem law_20 {L : mm_L} {st : List Value} : wp scr n mb_law 20 L (.retAddr 0 :: st) M Q ↔ wp scr n mb_law 21 L (.int (nI scr.length) :: st) M Q := ulaw_20.trans Iff.rfl
theorem law_end {i len : Nat} (hl : len ≤ 2560) (hi : i ≤ len) : (nI len - 5 < nI i) ↔ len < i + 5 := by
  by_cases h5 : 5 ≤ len
  · have e : nI len - 5 = nI (len - 5) := nI_sub' (b := 5) h5
    rw [e]
    constructor
    · intro h
      apply Classical.byContradiction
      intro hn
      exact nI_nlt (a := len - 5) (b := i) (by omega) (by omega) h
    · intro h
      exact nI_lt (by omega) (by omega)
  · refine iff_of_true ?_ (by omega)
    have key : ∀ a, a < 5 → ∀ b, b < 5 → nI a - 5 < nI b := by decide +kernel
    exact key len (by omega) i (by omega)
theorem law_loop (hl : scr.length ≤ 2560) : ∀ (f i : Nat) (g : SG) (M : mm_M), SGOK g → CS M g → MS M g → i ≤ scr.length → scr.length ≤ i + f → wp scr (n + 40) mb_law 18 (lwL (nI i)) [] M (fun r M' => r = some (.int 1) ∧ M'.length = 143) := by
  intro f
  induction f with
  | zero =>
    intro i g M hg hC hM h1 h2
    simp only [lwL, ulaw_18, ulaw_19b, law_20, ulaw_21, ulaw_22, ulaw_23, if_pos ((law_end hl h1).mpr (by omega)), ulaw_1090, ulaw_1091]
    exact ⟨Or.inr trivial, trivial, hC.1.1⟩
  | succ f ih =>
    intro i g M hg hC hM h1 h2
    by_cases h5 : scr.length < i + 5
    · simp only [lwL, ulaw_18, ulaw_19b, law_20, ulaw_21, ulaw_22, ulaw_23, if_pos ((law_end hl h1).mpr h5), ulaw_1090, ulaw_1091]
      exact ⟨Or.inr trivial, trivial, hC.1.1⟩
    · have hK : ∀ M' g', SGOK g' → CS M' g' → MS M' g' → wp scr (n + 40) mb_law 1084 (lwL (nI i)) [] M' (fun r M' => r = some (.int 1) ∧ M'.length = 143) := by
        intro M' g' a b c
        have := ih (i + 5) g' M' a b c (by omega) (by omega)
        have e5 : nI i + 5 = nI (i + 5) := nI_add i 5
        simp only [lwL, ulaw_1084, ulaw_1087, mm_sto1, mm_clr, mm_isL, List.getElem?_cons_zero, List.getElem?_cons_succ, List.set_cons_zero, List.set_cons_succ, Bool.false_eq_true, e5]
        exact this
      have r0 := lwR_at (j := i) hl (by omega)
      have r1 : lwR scr (nI i + 1) (gi scr (nI (i + 1))) := by have := lwR_at (j := i + 1) hl (by omega); rw [← nI_add i 1] at this ⊢; exact this
      have r2 : lwR scr (nI i + 2) (gi scr (nI (i + 2))) := by have := lwR_at (j := i + 2) hl (by omega); rw [← nI_add i 2] at this ⊢; exact this
      have r3 : lwR scr (nI i + 3) (gi scr (nI (i + 3))) := by have := lwR_at (j := i + 3) hl (by omega); rw [← nI_add i 3] at this ⊢; exact this
      have r4 : lwR scr (nI i + 4) (gi scr (nI (i + 4))) := by have := lwR_at (j := i + 4) hl (by omega); rw [← nI_add i 4] at this ⊢; exact this
      simp only [lwL, ulaw_18, ulaw_19b, law_20, ulaw_21, ulaw_22, ulaw_23, if_neg (fun z => h5 ((law_end hl h1).mp z)), ulaw_26b, ulaw_27, ulaw_28, r0 _, mw_os, ulaw_29, ulaw_31, ulaw_32]
      generalize gi scr (nI i) &&& 31 = z
      simp only [mw_sw]
      by_cases h_0 : z = 0
      · rw [if_pos h_0]
        exact law_letter hg hC hM r1 hK
      rw [if_neg h_0]
      by_cases h_1 : z = 1
      · rw [if_pos h_1]
        exact law_map hg hC hM hK
      rw [if_neg h_1]
      by_cases h_2 : z = 2
      · rw [if_pos h_2]
        exact law_crease hg hC hM r1 r2 hK
      rw [if_neg h_2]
      by_cases h_3 : z = 3
      · rw [if_pos h_3]
        exact law_panel hg hC hM r1 r2 hK
      rw [if_neg h_3]
      by_cases h_4 : z = 4
      · rw [if_pos h_4]
        exact law_fold hg hC hM r1 r2 hK
      rw [if_neg h_4]
      by_cases h_5 : z = 5
      · rw [if_pos h_5]
        exact law_opens hg hC hM hK
      rw [if_neg h_5]
      by_cases h_6 : z = 6
      · rw [if_pos h_6]
        exact law_wears hg hC hM r1 r2 hK
      rw [if_neg h_6]
      by_cases h_7 : z = 7
      · rw [if_pos h_7]
        exact law_turn hg hC hM r1 r2 r3 hK
      rw [if_neg h_7]
      by_cases h_8 : z = 8
      · rw [if_pos h_8]
        exact law_cover hg hC hM r1 hK
      rw [if_neg h_8]
      by_cases h_9 : z = 9
      · rw [if_pos h_9]
        exact law_hurts hg hC hM r1 r2 r3 hK
      rw [if_neg h_9]
      by_cases h_10 : z = 10
      · rw [if_pos h_10]
        exact law_over hg hC hM r1 r2 hK
      rw [if_neg h_10]
      by_cases h_11 : z = 11
      · rw [if_pos h_11]
        exact law_wad hg hC hM r1 hK
      rw [if_neg h_11]
      by_cases h_12 : z = 12
      · rw [if_pos h_12]
        exact law_shut hg hC hM r1 hK
      rw [if_neg h_12]
      by_cases h_13 : z = 13
      · rw [if_pos h_13]
        exact law_ways hg hC hM r1 hK
      rw [if_neg h_13]
      by_cases h_14 : z = 14
      · rw [if_pos h_14]
        exact law_up hg hC hM r1 r2 r3 r4 hK
      rw [if_neg h_14]
      by_cases h_15 : z = 15
      · rw [if_pos h_15]
        exact law_most hg hC hM r1 r2 r3 hK
      rw [if_neg h_15]
      by_cases h_16 : z = 16
      · rw [if_pos h_16]
        exact law_layers hg hC hM hK
      rw [if_neg h_16]
      by_cases h_17 : z = 17
      · rw [if_pos h_17]
        exact law_lasts hg hC hM r1 r2 hK
      rw [if_neg h_17]
      by_cases h_18 : z = 18
      · rw [if_pos h_18]
        exact law_tape hg hC hM r1 r2 hK
      rw [if_neg h_18]
      by_cases h_19 : z = 19
      · rw [if_pos h_19]
        exact law_first hg hC hM r1 r2 r3 r4 hK
      rw [if_neg h_19]
      by_cases h_20 : z = 20
      · rw [if_pos h_20]
        exact law_hole hg hC hM r1 r2 hK
      rw [if_neg h_20]
      by_cases h_21 : z = 21
      · rw [if_pos h_21]
        exact law_weakest hg hC hM r1 hK
      rw [if_neg h_21]
      by_cases h_22 : z = 22
      · rw [if_pos h_22]
        exact law_wind hg hC hM r1 r2 hK
      rw [if_neg h_22]
      by_cases h_23 : z = 23
      · rw [if_pos h_23]
        exact law_mean hg hC hM r1 hK
      rw [if_neg h_23]
      by_cases h_24 : z = 24
      · rw [if_pos h_24]
        exact law_whatIs hg hC hM r1 r2 hK
      rw [if_neg h_24]
      by_cases h_25 : z = 25
      · rw [if_pos h_25]
        exact law_row hg hC hM r1 hK
      rw [if_neg h_25]
      by_cases h_26 : z = 26
      · rw [if_pos h_26]
        exact law_judge hg hC hM hK
      rw [if_neg h_26]
      by_cases h_27 : z = 27
      · rw [if_pos h_27]
        exact law_clear hg hC hM hK
      rw [if_neg h_27]
      by_cases h_28 : z = 28
      · rw [if_pos h_28]
        exact law_lots hg hC hM r1 r2 r3 hK
      rw [if_neg h_28]
      by_cases h_29 : z = 29
      · rw [if_pos h_29]
        exact law_image hg hC hM hK
      rw [if_neg h_29]
      by_cases h_30 : z = 30
      · rw [if_pos h_30]
        exact law_on hg hC hM hK
      rw [if_neg h_30]
      by_cases h_31 : z = 31
      · rw [if_pos h_31]
        exact law_count hg hC hM r1 hK
      rw [if_neg h_31]
      exact hK M g hg hC hM
/-- the law, from nothing made to its answer -/
theorem law_run (hl : scr.length ≤ 2560) : wp scr 40 mb_law 0 [some (.retAddr 0), none, none, none] [] [] (fun r M' => r = some (.int 1) ∧ M'.length = 143) := by
  refine (wp_make (pc' := 3) (st' := [.ref 0]) (M' := [.inr (.inr (5, mc_nf 5))]) rfl rfl rfl rfl).mpr ?_
  rw [ulaw_3]
  refine (wp_call (i := _) (kd := 1) (k := 82) (na := 1) rfl rfl rfl (by decide) rfl (by decide)).mpr ?_
  refine Wp_mono (n := 4) (Q := fun r M' => r = none ∧ M' = mI_c) (by decide) ?_ ⟨400, none, mI_c, mm_ev_X _ _ _ _ _ mI_82, rfl, rfl⟩
  rintro r M' ⟨rfl, rfl⟩
  have e7 : wp scr 40 mb_law 7 [some (.retAddr 0), none, none, none] [.ref 0] mI_c (fun r M' => r = some (.int 1) ∧ M'.length = 143) := by
    simp only [ulaw_7, mm_sto1, mm_clr, mm_isL, List.getElem?_cons_zero, List.getElem?_cons_succ, List.set_cons_zero, List.set_cons_succ, Bool.false_eq_true]
    refine (wp_make (pc' := 11) (st' := [.ref 129]) (M' := mI_c ++ [.inr (.inr (6, mc_nf 6))]) rfl rfl rfl ?_).mpr ?_
    · have hlen : mI_c.length = 129 := by decide +kernel
      show some (8 + 3, [Value.ref mI_c.length], mI_c ++ [.inr (.inr (6, mc_nf 6))]) = _
      rw [hlen]
    rw [ulaw_11]
    refine (wp_call (i := _) (kd := 1) (k := 139) (na := 1) rfl rfl rfl (by decide) rfl (by decide)).mpr ?_
    refine Wp_mono (n := 4) (Q := fun r M' => r = none ∧ M' = mI) (by decide) ?_ ⟨400, none, mI, mm_ev_X _ _ _ _ _ mI_139, rfl, rfl⟩
    rintro r M' ⟨rfl, rfl⟩
    have e15 : wp scr 40 mb_law 15 [some (.retAddr 0), some (.ref 0), none, none] [.ref 129] mI (fun r M' => r = some (.int 1) ∧ M'.length = 143) := by
      simp only [ulaw_15, ulaw_16, ulaw_17, mm_sto1, mm_clr, mm_isL, List.getElem?_cons_zero, List.getElem?_cons_succ, List.set_cons_zero, List.set_cons_succ, Bool.false_eq_true, if_false]
      exact law_loop (n := 0) hl scr.length 0 g00 mI g00_ok mI_CS mI_MS (by omega) (by omega)
    exact e15
  exact e7
end LP
