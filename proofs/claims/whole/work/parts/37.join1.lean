/-! a call on both: one answer, one state behind it -/
def JO (scr : List Int32) (k1 k2 : Nat) (as : List Value) (g : SG) : Prop := ∃ r g', SGOK g' ∧ (∀ n M Q, CS M g → CPost M g' r Q → Wp scr (n + 40) k1 (.ref 0 :: as) M Q) ∧ (∀ n M Q, MS M g → MPost M g' r Q → Wp scr (n + 40) k2 (.ref 129 :: as) M Q)
theorem ixc (x : Int32) {N : Nat} (hN : N < 2 ^ 31) : (∃ j, j < N ∧ x = nI j) ∨ ¬ (0 ≤ x ∧ x < nI N) := by
  rcases pk_ix x hN with h | h | ⟨j, h1, h2⟩
  · exact Or.inr (fun z => Int32.not_lt.mpr z.1 h)
  · exact Or.inr (fun z => Int32.not_lt.mpr h z.2)
  · exact Or.inl ⟨j, h1, h2⟩
theorem ib_t {j N : Nat} (h : j < N) (hN : N < 2 ^ 31) : decide (0 ≤ nI j ∧ nI j < nI N) = true := decide_eq_true ⟨nI_pos' (by omega), nI_lt h hN⟩
theorem ib_f {x : Int32} {N : Nat} (h : ¬ (0 ≤ x ∧ x < nI N)) : decide (0 ≤ x ∧ x < nI N) = false := decide_eq_false h
theorem il_t {j N : Nat} (h : j < N + 1) (hN : N < 2 ^ 31) : decide (0 ≤ nI j ∧ nI j ≤ nI N) = true := decide_eq_true ⟨nI_pos' (by omega), nI_le (by omega) hN⟩
theorem il_f {x : Int32} {N : Nat} (hN : N + 1 < 2 ^ 31) (h : ¬ (0 ≤ x ∧ x < nI (N + 1))) : decide (0 ≤ x ∧ x ≤ nI N) = false := by
  refine decide_eq_false (fun z => h ⟨z.1, ?_⟩)
  refine Int32.lt_of_le_of_lt z.2 (nI_lt (by omega) hN)
section J1
variable {scr : List Int32} {n : Nat} {M : mm_M} {Q : Option Value → mm_M → Prop} {g : SG} {x : Int32} {j : Nat}
theorem W166 : Wp scr (n + 2) 166 [.int x] M Q ↔ Q (some (.int (bi (decide (0 ≤ x ∧ x ≤ 9))))) M := by
  have hi : inB x.toInt64 0 9 = decide ((0 : Int32) ≤ x ∧ x ≤ 9) := inB_eq x 0 9
  simp only [e166, u166_0, u166_1, u166_2, u166_3, u166_6, u166_9, mw_os, wp_ite, mw_sw, Option.toList_some, Option.toList_none, List.cons_append, List.nil_append, true_and, and_true, if_true, if_false, mw_s_, mw_s_i, mw_s_r, mw_s_ii, mw_s_ir, mw_s_ri, mw_s_rr, mw_s_iii, mw_s_iir, mw_s_iri, mw_s_irr, mw_s_rii, mw_s_rir, mw_s_rri, mw_s_rrr, mw_s_iiii, mw_s_iiir, mw_s_iiri, mw_s_iirr, mw_s_irii, mw_s_irir, mw_s_irri, mw_s_irrr, mw_s_riii, mw_s_riir, mw_s_riri, mw_s_rirr, mw_s_rrii, mw_s_rrir, mw_s_rrri, mw_s_rrrr, W146, hi, bi_01]
theorem W168 : Wp scr (n + 2) 168 [.int x] M Q ↔ Q (some (.int (bi (decide (0 ≤ x ∧ x ≤ 7))))) M := by
  have hi : inB x.toInt64 0 7 = decide ((0 : Int32) ≤ x ∧ x ≤ 7) := inB_eq x 0 7
  simp only [e168, u168_0, u168_1, u168_2, u168_3, u168_6, u168_9, mw_os, wp_ite, mw_sw, Option.toList_some, Option.toList_none, List.cons_append, List.nil_append, true_and, and_true, if_true, if_false, mw_s_, mw_s_i, mw_s_r, mw_s_ii, mw_s_ir, mw_s_ri, mw_s_rr, mw_s_iii, mw_s_iir, mw_s_iri, mw_s_irr, mw_s_rii, mw_s_rir, mw_s_rri, mw_s_rrr, mw_s_iiii, mw_s_iiir, mw_s_iiri, mw_s_iirr, mw_s_irii, mw_s_irir, mw_s_irri, mw_s_irrr, mw_s_riii, mw_s_riir, mw_s_riri, mw_s_rirr, mw_s_rrii, mw_s_rrir, mw_s_rrri, mw_s_rrrr, W146, hi, bi_01]
theorem W95 {b : Bool} : Wp scr (n + 1) 95 [.int (bi b)] M Q ↔ Q (some (.int (bi b))) M := by
  simp only [e95, u95_0, u95_1, u95_4, u95_5, u95_8, u95_9, mw_os, wp_ite, mw_sw, Option.toList_some, Option.toList_none, List.cons_append, List.nil_append, true_and, and_true, if_true, if_false, mw_s_, mw_s_i, mw_s_r, mw_s_ii, mw_s_ir, mw_s_ri, mw_s_rr, mw_s_iii, mw_s_iir, mw_s_iri, mw_s_irr, mw_s_rii, mw_s_rir, mw_s_rri, mw_s_rrr, mw_s_iiii, mw_s_iiir, mw_s_iiri, mw_s_iirr, mw_s_irii, mw_s_irir, mw_s_irri, mw_s_irrr, mw_s_riii, mw_s_riir, mw_s_riri, mw_s_rirr, mw_s_rrii, mw_s_rrir, mw_s_rrri, mw_s_rrrr, bi_eq0]
  cases b <;> simp [bi]
/-! the sheet now -/
theorem NS (h : CS M g) : SA M 1 (gN g).1 := h.2.1.1
theorem NS_0 (h : CS M g) : mm_fld (mc_X scr) M (.ref 1) 4 0 = some (.ref 2) := SA_0 h.2.1.1
theorem NS_1 (h : CS M g) : mm_fld (mc_X scr) M (.ref 1) 4 1 = some (.ref 3) := SA_1 h.2.1.1
theorem NS_2 (h : CS M g) : mm_fld (mc_X scr) M (.ref 1) 4 2 = some (.ref 4) := SA_2 h.2.1.1
theorem NS_3 (h : CS M g) : mm_fld (mc_X scr) M (.ref 1) 4 3 = some (.ref 5) := SA_3 h.2.1.1
theorem NS_4 (h : CS M g) (hg : SGOK g) : mm_fld (mc_X scr) M (.ref 1) 4 4 = some (.int (nI (gN g).2.1)) := (SA_4 h.2.1.1).trans (by rw [hg.1.2.1])
theorem NS_5 (h : CS M g) : mm_fld (mc_X scr) M (.ref 1) 4 5 = some (.int (sCv (gN g).1)) := SA_5 h.2.1.1
theorem NS_k (h : CS M g) : mm_ld (mc_X scr) M (.ref 3) x = mm_at (sK (gN g).1) x := SA_k h.2.1.1
theorem NS_f (h : CS M g) : mm_ld (mc_X scr) M (.ref 4) x = mm_at (sF (gN g).1) x := SA_f h.2.1.1
theorem NS_w (h : CS M g) : mm_ld (mc_X scr) M (.ref 5) x = mm_at (sWo (gN g).1) x := SA_w h.2.1.1
theorem NS_x (h : CS M g) : mw_r M 1 4 ↔ True := SA_x h.2.1.1
/-- the layout now -/
def gU (g : SG) : LV := (gN g).2.2 (gN g).2.1
theorem NL (h : CS M g) : LA M (la 1 (gN g).2.1) (gU g) := h.2.1.2.1 _ (Nat.le_refl _)
theorem gU_GT (hg : SGOK g) : ∃ y, GT y (gU g) ∧ rk y.1 + (gN g).2.1 ≤ 6 := HOK_GT hg.1 _ (Nat.le_refl _)
theorem gU_ok (hg : SGOK g) : LOK (gU g) := by
  obtain ⟨y, h, _⟩ := gU_GT hg
  exact (GT_N h).1
theorem gCv (hg : SGOK g) : ∃ c, c < 8 ∧ sCv (gN g).1 = nI c := by
  obtain ⟨c, h1, h2⟩ := hg.1.2.2.2.1
  exact ⟨c, by omega, h2⟩
theorem CW73 (h : CS M g) (hg : SGOK g) : Wp scr (n + 1) 73 [.ref 1] M Q ↔ Q (some (.ref (la 1 (gN g).2.1))) M := W73 (s := 1) h.2.1.1 (by have := hg.1.2.2.1; omega) hg.1.2.1
theorem gSOK (hg : SGOK g) : SOK (gN g).1 := hg.1.1
theorem gK_at (hg : SGOK g) (hj : j < 10) : mm_at (sK (gN g).1) (nI j) = some (gi (sK (gN g).1) (nI j)) := gi_atN (by rw [(gSOK hg).1]; exact hj) (by omega)
theorem gF_at (hg : SGOK g) (hj : j < 10) : mm_at (sF (gN g).1) (nI j) = some (gi (sF (gN g).1) (nI j)) := gi_atN (by rw [(gSOK hg).2.1]; exact hj) (by omega)
theorem gW_at (hg : SGOK g) (hj : j < 10) : mm_at (sWo (gN g).1) (nI j) = some (gi (sWo (gN g).1) (nI j)) := gi_atN (by rw [(gSOK hg).2.2]; exact hj) (by omega)
theorem uS_at (hg : SGOK g) (hj : j < 10) : mm_at (vS (gU g)) (nI j) = some (gi (vS (gU g)) (nI j)) := gi_atN (by rw [(gU_ok hg).2.2.2.2.1]; exact hj) (by omega)
/-! panels, read off the reference's row -/
theorem pan_c (u : LV) {p : Nat} (h : p < 8) : gi (panL u) (nI (4 * p)) = gi (vC u) (nI p) := by
  rcases (show p = 0 ∨ p = 1 ∨ p = 2 ∨ p = 3 ∨ p = 4 ∨ p = 5 ∨ p = 6 ∨ p = 7 by omega) with rfl | rfl | rfl | rfl | rfl | rfl | rfl | rfl <;> rfl
theorem pan_r (u : LV) {p : Nat} (h : p < 8) : gi (panL u) (nI (4 * p + 1)) = gi (vR u) (nI p) := by
  rcases (show p = 0 ∨ p = 1 ∨ p = 2 ∨ p = 3 ∨ p = 4 ∨ p = 5 ∨ p = 6 ∨ p = 7 by omega) with rfl | rfl | rfl | rfl | rfl | rfl | rfl | rfl <;> rfl
theorem pan_l (u : LV) {p : Nat} (h : p < 8) : gi (panL u) (nI (4 * p + 2)) = gi (vL u) (nI p) := by
  rcases (show p = 0 ∨ p = 1 ∨ p = 2 ∨ p = 3 ∨ p = 4 ∨ p = 5 ∨ p = 6 ∨ p = 7 by omega) with rfl | rfl | rfl | rfl | rfl | rfl | rfl | rfl <;> rfl
theorem pan_d (u : LV) {p : Nat} (h : p < 8) : gi (panL u) (nI (4 * p + 3)) = gi (vD u) (nI p) := by
  rcases (show p = 0 ∨ p = 1 ∨ p = 2 ∨ p = 3 ∨ p = 4 ∨ p = 5 ∨ p = 6 ∨ p = 7 by omega) with rfl | rfl | rfl | rfl | rfl | rfl | rfl | rfl <;> rfl
theorem pan_len (u : LV) : (panL u).length = 32 := rfl
theorem mEf_eq {k f w s : Int32} (h : s = 1 ∨ s = 2) : mEf k f w s = sEf k f w s := by
  unfold mEf sEf mOt sSS
  by_cases h3 : k = 3
  · subst h3
    by_cases hw : 10 ≤ w
    · rcases h with rfl | rfl <;> simp [hw] <;> rfl
    · simp [hw]
  · simp [h3]
theorem mWr_eq {k w s : Int32} (h : s = 1 ∨ s = 2) : mWr k w s = sWr k w s := by
  unfold mWr sWr mOt sSS
  by_cases h3 : k = 3
  · subst h3
    by_cases hw : 10 ≤ w
    · rcases h with rfl | rfl <;> simp [hw] <;> rfl
    · simp [hw]
  · by_cases h5 : k = 5
    · subst h5
      simp only [sWA]
      by_cases hs : s = 1 <;> simp [hs] <;> rfl
    · simp [h3, h5]
theorem GT_rd {y : tbE} {u : LV} {p : Nat} (h : GT y u) (hp : p < 8) : mSh (panL u) p 0 = vRd u (nI p) := by
  obtain ⟨_, _, _, _, h5, h6, _⟩ := GT_N h
  unfold mSh vRd
  rw [pan_d u hp, pan_l u hp, h5 p hp]
  split <;> rfl
theorem GT_out {y : tbE} {u : LV} {p : Nat} (h : GT y u) (hp : p < 8) : mSh (panL u) p 1 = vSb u (nI p) := by
  obtain ⟨_, _, _, _, h5, h6, _⟩ := GT_N h
  unfold mSh vSb
  rw [pan_d u hp, pan_l u hp, h5 p hp]
  rcases h6 p hp with h | h
  · rw [h, if_neg (by decide), if_pos rfl]; rfl
  · rw [h, if_pos rfl, if_neg (by decide)]; rfl
theorem GT_rs {y : tbE} {u : LV} (h : GT y u) : mRs (panL u) = vRs u := by
  unfold mRs vRs
  have e : ∀ (l : List Nat) (s : Int32), (∀ p, p ∈ l → p < 8) → l.foldl (fun s p => s ||| (if mSh (panL u) p 0 = true then ((1 : Int32) <<< (nI p &&& 31)) else 0)) s = l.foldl (fun s i => if vRd u (nI i) = true then s ||| ((1 : Int32) <<< (nI i &&& 31)) else s) s := by
    intro l
    induction l with
    | nil => intro s _; rfl
    | cons p l ih =>
      intro s hl
      rw [List.foldl_cons, List.foldl_cons, ih _ (fun q hq => hl q (List.mem_cons_of_mem _ hq)), GT_rd h (hl p (List.mem_cons_self ..))]
      congr 1
      split
      · rfl
      · exact Int32.or_zero
  exact e _ _ (fun p hp => by rw [List.mem_range'_1] at hp; omega)
theorem GT_shut {y : tbE} {u : LV} (h : GT y u) : decide (mWd (panL u) 0 = 1 ∧ mWd (panL u) 1 = 1) = decide (vW u = 1 ∧ vT u = 1) := by
  obtain ⟨_, h2, h3, _⟩ := GT_N h
  rw [h2, h3]
/-- a line of both -/
theorem GT_line {y : tbE} {u : LV} {l : Int32} (h : GT y u) : mIL (panL u) l = hasL u l := by
  obtain ⟨_, h2, h3, _⟩ := GT_N h
  obtain ⟨e1, e2, a1, a2, a3, a4⟩ := GT_wt h
  unfold mIL hasL
  rw [h2, h3]
  by_cases h4 : l = 4
  · subst h4
    have : ¬ ((4 : Int32) ≤ 3) := by decide
    simp [this]
  · rw [if_neg h4]
    by_cases hw : 1 ≤ l ∧ l < vW u
    · have : l ≤ 3 := by
        have h5 : l < nI 4 := Int32.lt_of_lt_of_le hw.2 (by rw [e1]; exact nI_le a2 (by omega))
        have h6 : l.toInt < 4 := h5 |> Int32.lt_iff_toInt_lt.mp
        exact Int32.le_iff_toInt_le.mpr (show l.toInt ≤ 3 by omega)
      simp [hw.1, hw.2, this, h4]
    · rcases Decidable.not_and_iff_or_not.mp hw with h5 | h5
      · simp [h5, h4]
      · simp [h5, h4]
end J1
