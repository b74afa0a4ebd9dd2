/-! one fold more, of both -/
def hU (h : HV) : LV := h.2.2 h.2.1
def hF (h : HV) (l w : Int32) : HV := (xW (xN h.1 (nI (h.2.1 + 1))) (wdOf h.1 (fC (hU h) l w)), h.2.1 + 1, fun i => if i = h.2.1 + 1 then fC (hU h) l w else h.2.2 i)
theorem hF_U {h : HV} {l w : Int32} : hU (hF h l w) = fC (hU h) l w := if_pos rfl
theorem hU_GT {h : HV} (hh : HOK h) : ∃ x, GT x (hU h) ∧ rk x.1 + h.2.1 ≤ 6 := HOK_GT hh _ (Nat.le_refl _)
theorem and1 (y : Int32) : y &&& 1 = 0 ∨ y &&& 1 = 1 := by
  obtain ⟨j, h1, h2⟩ := pk_andE y (m := 1) 1 (by decide)
  rcases (show j = 0 ∨ j = 1 by omega) with rfl | rfl
  · exact Or.inl h2
  · exact Or.inr h2
theorem foB_0 {se : Int32} {i : Nat} (h : foB se i = false) : (se >>> (nI i &&& 31)) &&& 1 = 0 := by
  unfold foB at h
  rcases and1 (se >>> (nI i &&& 31)) with k | k
  · exact k
  · rw [k] at h; exact absurd h (by decide)
theorem foB_1 {se : Int32} {i : Nat} (h : foB se i = true) : (se >>> (nI i &&& 31)) &&& 1 = 1 := of_decide_eq_true h
theorem foB_n0 {se : Int32} {i : Nat} (h : foB se i = true) : ¬ (se >>> (nI i &&& 31)) &&& 1 = 0 := by
  rw [foB_1 h]; decide
theorem fold_cg {σ : Type} {f g : σ → Nat → σ} : ∀ (l : List Nat) (s : σ), (∀ s i, i ∈ l → f s i = g s i) → l.foldl f s = l.foldl g s := by
  intro l
  induction l with
  | nil => intro s _; rfl
  | cons a l ih =>
    intro s h
    rw [List.foldl_cons, List.foldl_cons, h s a (List.mem_cons_self ..), ih _ (fun s i hi => h s i (List.mem_cons_of_mem _ hi))]
theorem gi_ext {N : Nat} {a b : List Int32} (ha : a.length = N) (hb : b.length = N) (hN : N < 2 ^ 31) (h : ∀ i, i < N → gi a (nI i) = gi b (nI i)) : a = b := by
  rw [← map_gi ha hN, ← map_gi hb hN]
  exact List.map_congr_left (fun i hi => h i (List.mem_range.mp hi))
theorem fold_pt {f : List Int32 → Nat → Int32} {xs : List Int32} (hf : ∀ t i, i < 10 → gi t (nI i) = gi xs (nI i) → f t i = f xs i) : ∀ (k i : Nat) (t : List Int32), i + k = 10 → t.length = 10 → (∀ j, i ≤ j → j < 10 → gi t (nI j) = gi xs (nI j)) → ((List.range' i k).foldl (fun t i => t.set i (f t i)) t).length = 10 ∧ ∀ j, j < 10 → gi ((List.range' i k).foldl (fun t i => t.set i (f t i)) t) (nI j) = if i ≤ j then f xs j else gi t (nI j) := by
  intro k
  induction k with
  | zero =>
    intro i t hi hl ht
    refine ⟨hl, fun j hj => ?_⟩
    rw [if_neg (by omega)]
    rfl
  | succ k ih =>
    intro i t hi hl ht
    rw [List.range'_succ, List.foldl_cons]
    have e := hf t i (by omega) (ht i (Nat.le_refl _) (by omega))
    obtain ⟨r1, r2⟩ := ih (i + 1) (t.set i (f t i)) (by omega) (by rw [List.length_set]; exact hl) (fun j h1 h2 => by
      rw [gi_st (by omega) (by omega), if_neg (by omega)]
      exact ht j (by omega) h2)
    refine ⟨r1, fun j hj => ?_⟩
    rw [r2 j hj, gi_st (by omega) (by omega)]
    by_cases h1 : i + 1 ≤ j
    · rw [if_pos h1, if_pos (by omega)]
    · rw [if_neg h1]
      by_cases h2 : i = j
      · subst h2
        rw [if_pos rfl, if_pos (Nat.le_refl _), e]
      · rw [if_neg h2, if_neg (by omega)]
theorem wd_gi {v : SV} {u : LV} (hv : (sWo v).length = 10) : (wdOf v u).length = 10 ∧ ∀ j, j < 10 → gi (wdOf v u) (nI j) = wbO v u j := by
  have := fold_pt (f := fun t i => wbO (xW v t) u i) (xs := sWo v) (fun t i hi h => by
    unfold wbO
    show (if _ then gi t (nI i) else mn 99 (gi t (nI i) + sWr (gi (sK v) (nI i)) (gi t (nI i)) (gi (vS u) (nI i)))) = (if _ then gi (sWo v) (nI i) else mn 99 (gi (sWo v) (nI i) + sWr (gi (sK v) (nI i)) (gi (sWo v) (nI i)) (gi (vS u) (nI i))))
    rw [h]) 10 0 (sWo v) rfl hv (fun j _ _ => rfl)
  refine ⟨this.1, fun j hj => ?_⟩
  have h2 := this.2 j hj
  rw [if_pos (Nat.zero_le _)] at h2
  exact h2
section MF
variable {r : RV} {d : Nat} {l w : Int32}
theorem mFo_K : rK (mFo r d l w) = rK r := by unfold mFo; simp only [rK_yK, rK_yF, rK_yO, rK_yS, rK_yP, rK_yA, rK_yC, rK_yN, rF_yK, rF_yF, rF_yO, rF_yS, rF_yP, rF_yA, rF_yC, rF_yN, rO_yK, rO_yF, rO_yO, rO_yS, rO_yP, rO_yA, rO_yC, rO_yN, rS_yK, rS_yF, rS_yO, rS_yS, rS_yP, rS_yA, rS_yC, rS_yN, rP_yK, rP_yF, rP_yO, rP_yS, rP_yP, rP_yA, rP_yC, rP_yN, rA_yK, rA_yF, rA_yO, rA_yS, rA_yP, rA_yA, rA_yC, rA_yN, rC_yK, rC_yF, rC_yO, rC_yS, rC_yP, rC_yA, rC_yC, rC_yN, rN_yK, rN_yF, rN_yO, rN_yS, rN_yP, rN_yA, rN_yC, rN_yN]
theorem mFo_F : rF (mFo r d l w) = rF r := by unfold mFo; simp only [rK_yK, rK_yF, rK_yO, rK_yS, rK_yP, rK_yA, rK_yC, rK_yN, rF_yK, rF_yF, rF_yO, rF_yS, rF_yP, rF_yA, rF_yC, rF_yN, rO_yK, rO_yF, rO_yO, rO_yS, rO_yP, rO_yA, rO_yC, rO_yN, rS_yK, rS_yF, rS_yO, rS_yS, rS_yP, rS_yA, rS_yC, rS_yN, rP_yK, rP_yF, rP_yO, rP_yS, rP_yP, rP_yA, rP_yC, rP_yN, rA_yK, rA_yF, rA_yO, rA_yS, rA_yP, rA_yA, rA_yC, rA_yN, rC_yK, rC_yF, rC_yO, rC_yS, rC_yP, rC_yA, rC_yC, rC_yN, rN_yK, rN_yF, rN_yO, rN_yS, rN_yP, rN_yA, rN_yC, rN_yN]
theorem mFo_O : rO (mFo r d l w) = foO r (mCr (rP r) (rS r) (bfR l) (bfC l)) (bfO w) := by unfold mFo; simp only [rK_yK, rK_yF, rK_yO, rK_yS, rK_yP, rK_yA, rK_yC, rK_yN, rF_yK, rF_yF, rF_yO, rF_yS, rF_yP, rF_yA, rF_yC, rF_yN, rO_yK, rO_yF, rO_yO, rO_yS, rO_yP, rO_yA, rO_yC, rO_yN, rS_yK, rS_yF, rS_yO, rS_yS, rS_yP, rS_yA, rS_yC, rS_yN, rP_yK, rP_yF, rP_yO, rP_yS, rP_yP, rP_yA, rP_yC, rP_yN, rA_yK, rA_yF, rA_yO, rA_yS, rA_yP, rA_yA, rA_yC, rA_yN, rC_yK, rC_yF, rC_yO, rC_yS, rC_yP, rC_yA, rC_yC, rC_yN, rN_yK, rN_yF, rN_yO, rN_yS, rN_yP, rN_yA, rN_yC, rN_yN]
theorem mFo_S : rS (mFo r d l w) = foS r (mCr (rP r) (rS r) (bfR l) (bfC l)) (bfO w) := by unfold mFo; simp only [rK_yK, rK_yF, rK_yO, rK_yS, rK_yP, rK_yA, rK_yC, rK_yN, rF_yK, rF_yF, rF_yO, rF_yS, rF_yP, rF_yA, rF_yC, rF_yN, rO_yK, rO_yF, rO_yO, rO_yS, rO_yP, rO_yA, rO_yC, rO_yN, rS_yK, rS_yF, rS_yO, rS_yS, rS_yP, rS_yA, rS_yC, rS_yN, rP_yK, rP_yF, rP_yO, rP_yS, rP_yP, rP_yA, rP_yC, rP_yN, rA_yK, rA_yF, rA_yO, rA_yS, rA_yP, rA_yA, rA_yC, rA_yN, rC_yK, rC_yF, rC_yO, rC_yS, rC_yP, rC_yA, rC_yC, rC_yN, rN_yK, rN_yF, rN_yO, rN_yS, rN_yP, rN_yA, rN_yC, rN_yN]
theorem mFo_P : rP (mFo r d l w) = mLays (rP r) l w := by unfold mFo; simp only [rK_yK, rK_yF, rK_yO, rK_yS, rK_yP, rK_yA, rK_yC, rK_yN, rF_yK, rF_yF, rF_yO, rF_yS, rF_yP, rF_yA, rF_yC, rF_yN, rO_yK, rO_yF, rO_yO, rO_yS, rO_yP, rO_yA, rO_yC, rO_yN, rS_yK, rS_yF, rS_yO, rS_yS, rS_yP, rS_yA, rS_yC, rS_yN, rP_yK, rP_yF, rP_yO, rP_yS, rP_yP, rP_yA, rP_yC, rP_yN, rA_yK, rA_yF, rA_yO, rA_yS, rA_yP, rA_yA, rA_yC, rA_yN, rC_yK, rC_yF, rC_yO, rC_yS, rC_yP, rC_yA, rC_yC, rC_yN, rN_yK, rN_yF, rN_yO, rN_yS, rN_yP, rN_yA, rN_yC, rN_yN]
theorem mFo_A : rA (mFo r d l w) = kaA (rA r) (rP r) d (mCr (rP r) (rS r) (bfR l) (bfC l)) := by unfold mFo; simp only [rK_yK, rK_yF, rK_yO, rK_yS, rK_yP, rK_yA, rK_yC, rK_yN, rF_yK, rF_yF, rF_yO, rF_yS, rF_yP, rF_yA, rF_yC, rF_yN, rO_yK, rO_yF, rO_yO, rO_yS, rO_yP, rO_yA, rO_yC, rO_yN, rS_yK, rS_yF, rS_yO, rS_yS, rS_yP, rS_yA, rS_yC, rS_yN, rP_yK, rP_yF, rP_yO, rP_yS, rP_yP, rP_yA, rP_yC, rP_yN, rA_yK, rA_yF, rA_yO, rA_yS, rA_yP, rA_yA, rA_yC, rA_yN, rC_yK, rC_yF, rC_yO, rC_yS, rC_yP, rC_yA, rC_yC, rC_yN, rN_yK, rN_yF, rN_yO, rN_yS, rN_yP, rN_yA, rN_yC, rN_yN]
theorem mFo_C : rC (mFo r d l w) = rC r := by unfold mFo; simp only [rK_yK, rK_yF, rK_yO, rK_yS, rK_yP, rK_yA, rK_yC, rK_yN, rF_yK, rF_yF, rF_yO, rF_yS, rF_yP, rF_yA, rF_yC, rF_yN, rO_yK, rO_yF, rO_yO, rO_yS, rO_yP, rO_yA, rO_yC, rO_yN, rS_yK, rS_yF, rS_yO, rS_yS, rS_yP, rS_yA, rS_yC, rS_yN, rP_yK, rP_yF, rP_yO, rP_yS, rP_yP, rP_yA, rP_yC, rP_yN, rA_yK, rA_yF, rA_yO, rA_yS, rA_yP, rA_yA, rA_yC, rA_yN, rC_yK, rC_yF, rC_yO, rC_yS, rC_yP, rC_yA, rC_yC, rC_yN, rN_yK, rN_yF, rN_yO, rN_yS, rN_yP, rN_yA, rN_yC, rN_yN]
theorem mFo_N : rN (mFo r d l w) = nI (d + 1) := by unfold mFo; simp only [rK_yK, rK_yF, rK_yO, rK_yS, rK_yP, rK_yA, rK_yC, rK_yN, rF_yK, rF_yF, rF_yO, rF_yS, rF_yP, rF_yA, rF_yC, rF_yN, rO_yK, rO_yF, rO_yO, rO_yS, rO_yP, rO_yA, rO_yC, rO_yN, rS_yK, rS_yF, rS_yO, rS_yS, rS_yP, rS_yA, rS_yC, rS_yN, rP_yK, rP_yF, rP_yO, rP_yS, rP_yP, rP_yA, rP_yC, rP_yN, rA_yK, rA_yF, rA_yO, rA_yS, rA_yP, rA_yA, rA_yC, rA_yN, rC_yK, rC_yF, rC_yO, rC_yS, rC_yP, rC_yA, rC_yC, rC_yN, rN_yK, rN_yF, rN_yO, rN_yS, rN_yP, rN_yA, rN_yC, rN_yN]
end MF
theorem kaA_gi {A P : List Int32} {d : Nat} {se : Int32} (hA : A.length = 132) (hd : d < 4) {j : Nat} (hj : j < 132) : gi (kaA A P d se) (nI j) = if j = 33 * d + 32 then se else if 33 * d ≤ j ∧ j < 33 * d + 32 then gi P (nI (j - 33 * d)) else gi A (nI j) := by
  have hl : ((List.range' 0 32).foldl (fun s k => s.set (33 * d + k) (gi P (nI k))) A).length = 132 := ka_len.trans hA
  unfold kaA
  rw [gi_st (by omega) (by omega)]
  by_cases h1 : 33 * d + 32 = j
  · rw [if_pos h1, if_pos h1.symm]
  · have g1 : ∀ X : List Int32, gi X (nI j) = (X[j]?).getD 0 := fun X => by rw [gi_n (by omega), List.getD_eq_getElem?_getD]
    rw [if_neg h1, if_neg (fun z => h1 z.symm), g1, fs_off, g1]
    by_cases h2 : 33 * d ≤ j ∧ j < 33 * d + 32
    · rw [if_pos h2, if_pos ⟨h2.1, h2.2, by omega⟩]; rfl
    · rw [if_neg h2, if_neg (fun z => h2 ⟨z.1, z.2.1⟩)]
theorem mSd_12 {P : List Int32} {i : Nat} {o : Bool} : mSd P i o = 1 ∨ mSd P i o = 2 := by
  unfold mSd
  split
  · exact Or.inr rfl
  · exact Or.inl rfl
theorem vF_fC {u : LV} {l w : Int32} : vF (fC u l w) = fcF u (bfR l) (bfC l) := rfl
section HF
variable {h : HV} {r : RV} {l w : Nat}
/-- what one fold does, crease by crease -/
theorem fold_at (hh : HOK h) (h1 : 1 ≤ l) (h4 : l ≤ 4) (hl : hasL (hU h) (nI l) = true) (hw : w < 4) : h.2.1 < 4 ∧ MOK (hU h) (bfR (nI l)) (bfC (nI l)) ∧ LOK (hU h) ∧ LOK (fC (hU h) (nI l) (nI w)) ∧ (∃ y, GT y (fC (hU h) (nI l) (nI w)) ∧ rk y.1 + (h.2.1 + 1) ≤ 6) ∧ mCr (panL (hU h)) (vS (hU h)) (bfR (nI l)) (bfC (nI l)) = vF (fC (hU h) (nI l) (nI w)) ∧ mLays (panL (hU h)) (nI l) (nI w) = panL (fC (hU h) (nI l) (nI w)) ∧ (∀ i, i < 10 → gi (vS (fC (hU h) (nI l) (nI w))) (nI i) = if foB (vF (fC (hU h) (nI l) (nI w))) i = true then mSd (panL (hU h)) i (bfO (nI w)) else gi (vS (hU h)) (nI i)) ∧ (∀ i, i < 10 → foB (vF (fC (hU h) (nI l) (nI w))) i = true → gi (vS (hU h)) (nI i) = 0) := by
  obtain ⟨x, hG, hrk⟩ := hU_GT hh
  have hd : h.2.1 < 4 := by
    by_cases h3 : rk x.1 ≤ 2
    · rw [hasL_0 hG h3 l h1 h4] at hl; cases hl
    · omega
  obtain ⟨hm, e1, e2, k⟩ := GT_L hG h1 h4 hl
  obtain ⟨y, y1, y2, y3, y4, y5⟩ := k w hw
  have ef : mCr (panL (hU h)) (vS (hU h)) (bfR (nI l)) (bfC (nI l)) = vF (fC (hU h) (nI l) (nI w)) := by rw [e1, vF_fC, e2]
  refine ⟨hd, hm, (GT_N hG).1, (GT_N y1).1, ⟨y, y1, by omega⟩, ef, y4, fun i hi => ?_, fun i hi hb => ?_⟩
  · rw [← y5, gi_map hi (by omega), vF_fC, e2]
  · rw [← ef, mCr_bit hi] at hb
    exact (of_decide_eq_true hb).2
theorem sWr_rg {k w s : Int32} : rgI (sWr k w s) 3 := by
  unfold sWr sWA
  repeat' split
  all_goals first
    | exact ⟨0, by omega, rfl⟩
    | exact ⟨1, by omega, rfl⟩
    | exact ⟨2, by omega, rfl⟩
    | exact ⟨3, by omega, rfl⟩
theorem wbO_rg {v : SV} {u : LV} {i : Nat} (hw : rgI (gi (sWo v) (nI i)) 99) : rgI (wbO v u i) 99 := by
  unfold wbO
  split
  · exact hw
  · obtain ⟨a, a1, a2⟩ := hw
    obtain ⟨b, b1, b2⟩ := sWr_rg (k := gi (sK v) (nI i)) (w := gi (sWo v) (nI i)) (s := gi (vS u) (nI i))
    rw [b2, a2, nI_add]
    unfold mn
    split
    · rename_i hlt
      have := (nI_ltI (a := a + b) (b := 99) (by omega) (by decide)).mp hlt
      exact ⟨a + b, by omega, rfl⟩
    · exact ⟨99, by omega, rfl⟩
theorem HOK_hF (hh : HOK h) (h1 : 1 ≤ l) (h4 : l ≤ 4) (hl : hasL (hU h) (nI l) = true) (hw : w < 4) : HOK (hF h (nI l) (nI w)) := by
  obtain ⟨hd, _⟩ := fold_at hh h1 h4 hl hw
  have hg := wd_gi (v := h.1) (u := fC (hU h) (nI l) (nI w)) hh.1.2.2
  refine ⟨⟨hh.1.1, hh.1.2.1, hg.1⟩, rfl, hd, hh.2.2.2.1, ?_, fun i hi => ?_, fun i hi => ⟨(hh.2.2.2.2.2.2 i hi).1, (hh.2.2.2.2.2.2 i hi).2.1, ?_⟩⟩
  · show (if 0 = h.2.1 + 1 then fC (hU h) (nI l) (nI w) else h.2.2 0) = L0
    rw [if_neg (by omega)]
    exact hh.2.2.2.2.1
  · have hi' : i < h.2.1 + 1 := hi
    show ∃ l' w', 1 ≤ l' ∧ l' ≤ 4 ∧ w' < 4 ∧ hasL (if i = h.2.1 + 1 then fC (hU h) (nI l) (nI w) else h.2.2 i) (nI l') = true ∧ (if i + 1 = h.2.1 + 1 then fC (hU h) (nI l) (nI w) else h.2.2 (i + 1)) = fC (if i = h.2.1 + 1 then fC (hU h) (nI l) (nI w) else h.2.2 i) (nI l') (nI w')
    rw [if_neg (by omega)]
    by_cases he : i = h.2.1
    · subst he
      refine ⟨l, w, h1, h4, hw, hl, ?_⟩
      rw [if_pos rfl]; rfl
    · rw [if_neg (by omega)]
      exact hh.2.2.2.2.2.1 i (by omega)
  · show rgI (gi (wdOf h.1 (fC (hU h) (nI l) (nI w))) (nI i)) 99
    rw [hg.2 i hi]
    exact wbO_rg (hh.2.2.2.2.2.2 i hi).2.2
theorem MR_hF (hh : HOK h) (hr : MR r h) (h1 : 1 ≤ l) (h4 : l ≤ 4) (hl : hasL (hU h) (nI l) = true) (hw : w < 4) : MR (mFo r h.2.1 (nI l) (nI w)) (hF h (nI l) (nI w)) := by
  obtain ⟨hd, _, _, _, _, e1, e2, e3, _⟩ := fold_at hh h1 h4 hl hw
  obtain ⟨q0, q1, q2, q3, q4, q5, q6, q7, q8⟩ := hr
  have q4' : rS r = vS (hU h) := q4
  have q5' : rP r = panL (hU h) := q5
  have se : mCr (rP r) (rS r) (bfR (nI l)) (bfC (nI l)) = vF (fC (hU h) (nI l) (nI w)) := by rw [q5', q4', e1]
  have hg := wd_gi (v := h.1) (u := fC (hU h) (nI l) (nI w)) hh.1.2.2
  refine ⟨mFo_ok q0, mFo_K.trans q1, mFo_F.trans q2, ?_, ?_, ?_, mFo_C.trans q6, mFo_N, fun j hj => ?_⟩
  · rw [mFo_O, se]
    show _ = wdOf h.1 (fC (hU h) (nI l) (nI w))
    refine gi_ext (N := 10) (by unfold foO; simp) hg.1 (by decide) (fun i hi => ?_)
    rw [hg.2 i hi]
    unfold foO
    rw [gi_map hi (by omega)]
    unfold wbO foX
    cases hb : foB (vF (fC (hU h) (nI l) (nI w))) i
    · rw [if_neg (by simp), if_pos (foB_0 hb), q3]
    · rw [if_pos rfl, if_neg (foB_n0 hb), e3 i hi, if_pos hb, q3, q1, q5', mWr_eq mSd_12]
  · rw [mFo_S, se]
    show _ = vS (hU (hF h (nI l) (nI w)))
    rw [hF_U]
    obtain ⟨_, _, _, hok, _⟩ := fold_at hh h1 h4 hl hw
    refine gi_ext (N := 10) (by unfold foS; simp) hok.2.2.2.2.1 (by decide) (fun i hi => ?_)
    unfold foS
    rw [gi_map hi (by omega), e3 i hi, q5', q4']
  · rw [mFo_P, q5', e2]
    show _ = panL (hU (hF h (nI l) (nI w)))
    rw [hF_U]
  · have hj' : j < h.2.1 + 1 := hj
    have hA := q0.2.2.2.2.2
    show (∀ k, k < 32 → gi (rA (mFo r h.2.1 (nI l) (nI w))) (nI (33 * j + k)) = gi (panL (if j = h.2.1 + 1 then fC (hU h) (nI l) (nI w) else h.2.2 j)) (nI k)) ∧ gi (rA (mFo r h.2.1 (nI l) (nI w))) (nI (33 * j + 32)) = vF (if j + 1 = h.2.1 + 1 then fC (hU h) (nI l) (nI w) else h.2.2 (j + 1))
    rw [mFo_A, se, if_neg (by omega)]
    by_cases he : j = h.2.1
    · subst he
      refine ⟨fun k hk => ?_, ?_⟩
      · rw [kaA_gi hA hd (by omega), if_neg (by omega), if_pos (by omega), q5', Nat.add_sub_cancel_left]; rfl
      · rw [kaA_gi hA hd (by omega), if_pos rfl, if_pos rfl]
    · refine ⟨fun k hk => ?_, ?_⟩
      · rw [kaA_gi hA hd (by omega), if_neg (by omega), if_neg (by omega)]
        exact (q8 j (by omega)).1 k hk
      · rw [kaA_gi hA hd (by omega), if_neg (by omega), if_neg (by omega), if_neg (by omega)]
        exact (q8 j (by omega)).2
theorem mFe_hF (hh : HOK h) (hr : MR r h) (h1 : 1 ≤ l) (h4 : l ≤ 4) (hl : hasL (hU h) (nI l) = true) (hw : w < 4) : mFe r (nI l) (nI w) = tfE h.1 (fC (hU h) (nI l) (nI w)) := by
  obtain ⟨hd, _, _, _, _, e1, e2, e3, _⟩ := fold_at hh h1 h4 hl hw
  obtain ⟨q0, q1, q2, q3, q4, q5, q6, q7, q8⟩ := hr
  have q4' : rS r = vS (hU h) := q4
  have q5' : rP r = panL (hU h) := q5
  unfold mFe mEb tfE
  rw [q5', q4', e1]
  refine fold_cg _ _ (fun s i hi => ?_)
  have hi' : i < 10 := by rw [List.mem_range'_1] at hi; omega
  unfold mEbs tfStep
  cases hb : foB (vF (fC (hU h) (nI l) (nI w))) i
  · have h0 := foB_0 hb
    rw [if_pos h0, if_neg (by rw [h0]; decide)]
    exact Int32.add_zero s
  · rw [if_neg (foB_n0 hb), if_pos (foB_1 hb), e3 i hi', if_pos hb]
    unfold mEo efO
    rw [q1, q2, q3, q5', mEf_eq mSd_12]
/-- opened again -/
def hO (h : HV) (e : Nat) : HV := (xN h.1 (nI e), e, h.2.2)
theorem HOK_hO {e : Nat} (hh : HOK h) (he : h.2.1 = e + 1) : HOK (hO h e) := ⟨hh.1, rfl, by have := hh.2.2.1; show e ≤ 4; omega, hh.2.2.2.1, hh.2.2.2.2.1, fun i hi => hh.2.2.2.2.2.1 i (by have : i < e := hi; omega), hh.2.2.2.2.2.2⟩
def mOp (r : RV) (e : Nat) : RV := yS (yP (yN r (nI e)) (opP (rA r) e)) (opS (rS r) (gi (rA r) (nI (33 * e + 32))))
theorem MR_hO {e : Nat} (hh : HOK h) (hr : MR r h) (he : h.2.1 = e + 1) : MR (mOp r e) (hO h e) := by
  obtain ⟨q0, q1, q2, q3, q4, q5, q6, q7, q8⟩ := hr
  obtain ⟨a1, a2⟩ := q8 e (by omega)
  obtain ⟨l, w, b1, b2, b3, b4, b5⟩ := hh.2.2.2.2.2.1 e (by omega)
  have hk := HOK_hO hh he
  obtain ⟨_, _, hlo, _, _, _, _, e3, e4⟩ := fold_at (h := hO h e) hk b1 b2 b4 b3
  have hs : (opS (rS r) (gi (rA r) (nI (33 * e + 32)))) = vS (h.2.2 e) := by
    refine gi_ext (N := 10) (by unfold opS; simp) hlo.2.2.2.2.1 (by decide) (fun i hi => ?_)
    unfold opS
    rw [gi_map hi (by omega), a2, q4, he]
    have f3 := e3 i hi
    have f4 := e4 i hi
    rw [show fC (hU (hO h e)) (nI l) (nI w) = h.2.2 (e + 1) from b5.symm] at f3 f4
    cases hb : foB (vF (h.2.2 (e + 1))) i
    · rw [if_neg (by rw [foB_0 hb]; decide), f3, if_neg (by rw [hb]; decide)]; rfl
    · rw [if_pos (foB_1 hb)]
      exact (f4 hb).symm
  have hp : opP (rA r) e = panL (h.2.2 e) := by
    refine gi_ext (N := 32) (by unfold opP; simp) (pan_len _) (by decide) (fun i hi => ?_)
    unfold opP
    rw [gi_map hi (by omega)]
    exact a1 i hi
  refine ⟨ROK_yS (ROK_yP (ROK_yN q0) (by rw [hp]; exact pan_len _)) (by rw [hs]; exact hlo.2.2.2.2.1), q1, q2, q3, ?_, ?_, q6, rfl, fun j hj => q8 j (by have : j < e := hj; omega)⟩
  · show rS (mOp r e) = _
    unfold mOp
    rw [hs]; rfl
  · show rP (mOp r e) = _
    unfold mOp
    rw [hp]; rfl
end HF
