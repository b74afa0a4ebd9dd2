/-! what holds of every map that can be folded -/
def TB : List tbE := tgs.flatten.flatten
theorem TB_ok {x : tbE} (h : x ∈ TB) : okD x = true := by
  unfold TB at h
  rw [List.mem_flatten] at h
  obtain ⟨l, h1, h2⟩ := h
  rw [List.mem_flatten] at h1
  obtain ⟨g, h3, h4⟩ := h1
  have key : ∀ g, g ∈ tgs → ∀ l, l ∈ g → l.all okD = true := by
    have e : ∀ (a : List (List tbE)) (b : List (List (List tbE))), (∀ l, l ∈ a → l.all okD = true) → (∀ g, g ∈ b → ∀ l, l ∈ g → l.all okD = true) → ∀ g, g ∈ a :: b → ∀ l, l ∈ g → l.all okD = true := fun a b h1 h2 => List.forall_mem_cons.mpr ⟨h1, h2⟩
    have e2 : ∀ (a : List tbE) (b : List (List tbE)), a.all okD = true → (∀ l, l ∈ b → l.all okD = true) → ∀ l, l ∈ a :: b → l.all okD = true := fun a b h1 h2 => List.forall_mem_cons.mpr ⟨h1, h2⟩
    have z : ∀ l, l ∈ ([] : List (List tbE)) → l.all okD = true := fun l h => absurd h (List.not_mem_nil)
    have zz : ∀ g, g ∈ ([] : List (List (List tbE))) → ∀ l, l ∈ g → l.all okD = true := fun l h => absurd h (List.not_mem_nil)
    exact (e _ _ (e2 _ _ tb0_ok (e2 _ _ tb1_ok (e2 _ _ tb2_ok (e2 _ _ tb3_ok (e2 _ _ tb4_ok (e2 _ _ tb5_ok (e2 _ _ tb6_ok z))))))) (e _ _ (e2 _ _ tb7_ok (e2 _ _ tb8_ok (e2 _ _ tb9_ok (e2 _ _ tb10_ok (e2 _ _ tb11_ok (e2 _ _ tb12_ok (e2 _ _ tb13_ok z))))))) (e _ _ (e2 _ _ tb14_ok (e2 _ _ tb15_ok (e2 _ _ tb16_ok (e2 _ _ tb17_ok (e2 _ _ tb18_ok (e2 _ _ tb19_ok (e2 _ _ tb20_ok z))))))) (e _ _ (e2 _ _ tb21_ok (e2 _ _ tb22_ok (e2 _ _ tb23_ok (e2 _ _ tb24_ok (e2 _ _ tb25_ok (e2 _ _ tb26_ok (e2 _ _ tb27_ok z))))))) (e _ _ (e2 _ _ tb28_ok (e2 _ _ tb29_ok (e2 _ _ tb30_ok (e2 _ _ tb31_ok (e2 _ _ tb32_ok (e2 _ _ tb33_ok (e2 _ _ tb34_ok z))))))) (e _ _ (e2 _ _ tb35_ok (e2 _ _ tb36_ok (e2 _ _ tb37_ok (e2 _ _ tb38_ok (e2 _ _ tb39_ok (e2 _ _ tb40_ok (e2 _ _ tb41_ok z))))))) (e _ _ (e2 _ _ tb42_ok (e2 _ _ tb43_ok (e2 _ _ tb44_ok (e2 _ _ tb45_ok (e2 _ _ tb46_ok (e2 _ _ tb47_ok (e2 _ _ tb48_ok z))))))) (e _ _ (e2 _ _ tb49_ok (e2 _ _ tb50_ok (e2 _ _ tb51_ok (e2 _ _ tb52_ok (e2 _ _ tb53_ok (e2 _ _ tb54_ok z)))))) zz))))))))
  exact List.all_eq_true.mp (key g h3 l h4) x h2
theorem clT_mem {xs : List tbE} : ∀ {ws : List (List Nat)}, clT xs ws = true → ∀ x, x ∈ xs → ∃ w, clOK x w = true := by
  induction xs with
  | nil => intro ws _ x hx; cases hx
  | cons y xs ih =>
    intro ws h x hx
    cases ws with
    | nil => cases h
    | cons w ws =>
      simp only [clT, Bool.and_eq_true] at h
      rcases List.mem_cons.mp hx with rfl | hx
      · exact ⟨w, h.1⟩
      · exact ih h.2 x hx
theorem TB_cl {x : tbE} (h : x ∈ TB) : ∃ w, clOK x w = true := by
  unfold TB at h
  rw [List.mem_flatten] at h
  obtain ⟨l, h1, h2⟩ := h
  rw [List.mem_flatten] at h1
  obtain ⟨g, h3, h4⟩ := h1
  have key : ∀ g, g ∈ tgs → ∀ l, l ∈ g → ∀ x, x ∈ l → ∃ w, clOK x w = true := by
    have e : ∀ (a : List (List tbE)) (b : List (List (List tbE))), (∀ l, l ∈ a → ∀ x, x ∈ l → ∃ w, clOK x w = true) → (∀ g, g ∈ b → ∀ l, l ∈ g → ∀ x, x ∈ l → ∃ w, clOK x w = true) → ∀ g, g ∈ a :: b → ∀ l, l ∈ g → ∀ x, x ∈ l → ∃ w, clOK x w = true := fun a b h1 h2 => List.forall_mem_cons.mpr ⟨h1, h2⟩
    have e2 : ∀ (a : List tbE) (b : List (List tbE)), (∀ x, x ∈ a → ∃ w, clOK x w = true) → (∀ l, l ∈ b → ∀ x, x ∈ l → ∃ w, clOK x w = true) → ∀ l, l ∈ a :: b → ∀ x, x ∈ l → ∃ w, clOK x w = true := fun a b h1 h2 => List.forall_mem_cons.mpr ⟨h1, h2⟩
    have z : ∀ l, l ∈ ([] : List (List tbE)) → ∀ x, x ∈ l → ∃ w, clOK x w = true := fun l h => absurd h (List.not_mem_nil)
    have zz : ∀ g, g ∈ ([] : List (List (List tbE))) → ∀ l, l ∈ g → ∀ x, x ∈ l → ∃ w, clOK x w = true := fun l h => absurd h (List.not_mem_nil)
    exact (e _ _ (e2 _ _ (clT_mem cl0) (e2 _ _ (clT_mem cl1) (e2 _ _ (clT_mem cl2) (e2 _ _ (clT_mem cl3) (e2 _ _ (clT_mem cl4) (e2 _ _ (clT_mem cl5) (e2 _ _ (clT_mem cl6) z))))))) (e _ _ (e2 _ _ (clT_mem cl7) (e2 _ _ (clT_mem cl8) (e2 _ _ (clT_mem cl9) (e2 _ _ (clT_mem cl10) (e2 _ _ (clT_mem cl11) (e2 _ _ (clT_mem cl12) (e2 _ _ (clT_mem cl13) z))))))) (e _ _ (e2 _ _ (clT_mem cl14) (e2 _ _ (clT_mem cl15) (e2 _ _ (clT_mem cl16) (e2 _ _ (clT_mem cl17) (e2 _ _ (clT_mem cl18) (e2 _ _ (clT_mem cl19) (e2 _ _ (clT_mem cl20) z))))))) (e _ _ (e2 _ _ (clT_mem cl21) (e2 _ _ (clT_mem cl22) (e2 _ _ (clT_mem cl23) (e2 _ _ (clT_mem cl24) (e2 _ _ (clT_mem cl25) (e2 _ _ (clT_mem cl26) (e2 _ _ (clT_mem cl27) z))))))) (e _ _ (e2 _ _ (clT_mem cl28) (e2 _ _ (clT_mem cl29) (e2 _ _ (clT_mem cl30) (e2 _ _ (clT_mem cl31) (e2 _ _ (clT_mem cl32) (e2 _ _ (clT_mem cl33) (e2 _ _ (clT_mem cl34) z))))))) (e _ _ (e2 _ _ (clT_mem cl35) (e2 _ _ (clT_mem cl36) (e2 _ _ (clT_mem cl37) (e2 _ _ (clT_mem cl38) (e2 _ _ (clT_mem cl39) (e2 _ _ (clT_mem cl40) (e2 _ _ (clT_mem cl41) z))))))) (e _ _ (e2 _ _ (clT_mem cl42) (e2 _ _ (clT_mem cl43) (e2 _ _ (clT_mem cl44) (e2 _ _ (clT_mem cl45) (e2 _ _ (clT_mem cl46) (e2 _ _ (clT_mem cl47) (e2 _ _ (clT_mem cl48) z))))))) (e _ _ (e2 _ _ (clT_mem cl49) (e2 _ _ (clT_mem cl50) (e2 _ _ (clT_mem cl51) (e2 _ _ (clT_mem cl52) (e2 _ _ (clT_mem cl53) (e2 _ _ (clT_mem cl54) z)))))) zz))))))))
  exact key g h3 l h4 x h2
theorem getD_or {α : Type} {l : List α} {i : Nat} {d : α} : l.getD i d ∈ l ∨ l.getD i d = d := by
  rw [List.getD_eq_getElem?_getD]
  cases h : l[i]? with
  | none => exact Or.inr rfl
  | some z => exact Or.inl (List.mem_of_getElem? h)
theorem tAt_mem {w : Nat} (h : (tAt w).1 ≠ 0) : tAt w ∈ TB := by
  unfold tAt at h ⊢
  rcases getD_or (l := (tgs.getD (w / 256) []).getD (w / 16 % 16) []) (i := w % 16) (d := ((0, 0, 0, [], []) : tbE)) with h1 | h1
  · rcases getD_or (l := tgs.getD (w / 256) []) (i := w / 16 % 16) (d := ([] : List tbE)) with h2 | h2
    · rcases getD_or (l := tgs) (i := w / 256) (d := ([] : List (List tbE))) with h3 | h3
      · exact List.mem_flatten.mpr ⟨_, List.mem_flatten.mpr ⟨_, h3, h2⟩, h1⟩
      · rw [h3] at h2; cases h2
    · rw [h2] at h1; cases h1
  · rw [h1] at h; exact absurd rfl h
theorem clZ_mem {r : Nat} {ss : List Nat} : ∀ {ws : List Nat}, clZ r ss ws = true → ∀ s, s ∈ ss → s ≠ 0 → (∃ y ∈ TB, y.1 = s) ∧ rk s < r := by
  induction ss with
  | nil => intro ws _ s hs; cases hs
  | cons t ss ih =>
    intro ws h s hs h0
    cases ws with
    | nil => cases h
    | cons w ws =>
      simp only [clZ, Bool.and_eq_true] at h
      rcases List.mem_cons.mp hs with rfl | hs
      · have h1 := h.1
        simp only [clS, Bool.or_eq_true, Bool.and_eq_true] at h1
        rcases h1 with h1 | ⟨h1, h2⟩
        · exact absurd (Nat.eq_of_beq_eq_true h1) h0
        · have e := Nat.eq_of_beq_eq_true h1
          exact ⟨⟨tAt w, tAt_mem (by rw [e]; exact h0), e⟩, Nat.le_of_ble_eq_true h2⟩
      · exact ih h.2 s hs h0
def GT (x : tbE) (u : LV) : Prop := x ∈ TB ∧ eqV u (dec x.1) = true
theorem eqV_eq {u v : LV} (h : eqV u v = true) : u = uF v (vF u) := by
  simp only [eqV, Bool.and_eq_true, decide_eq_true_eq] at h
  obtain ⟨⟨⟨⟨⟨⟨⟨h1, h2⟩, h3⟩, h4⟩, h5⟩, h6⟩, h7⟩, h8⟩ := h
  unfold uF
  rw [← h1, ← h2, ← h3, ← h4, ← h5, ← h6, ← h7, ← h8]
  rfl
theorem eqV_rf {v : LV} {f : Int32} : eqV (uF v f) v = true := by
  simp only [eqV, Bool.and_eq_true, decide_eq_true_eq]
  exact ⟨⟨⟨⟨⟨⟨⟨rfl, rfl⟩, rfl⟩, rfl⟩, rfl⟩, rfl⟩, rfl⟩, rfl⟩
theorem inQ_in {x : Int32} {n : Nat} (h : inQ x n = true) : vp_in x n := by
  simp only [inQ, Bool.and_eq_true, Bool.not_eq_true', decide_eq_false_iff_not, decide_eq_true_eq] at h
  rintro (z | z)
  · exact h.1 z
  · omega
theorem lokQ_ok {u : LV} (h : lokQ u = true) : LOK u := by
  simp only [lokQ, Bool.and_eq_true, beq_iff_eq, List.all_eq_true, List.mem_range] at h
  obtain ⟨⟨⟨⟨⟨⟨h1, h2⟩, h3⟩, h4⟩, h5⟩, h6⟩, h7⟩ := h
  exact ⟨h1, h2, h3, h4, h5, h6, fun i hi => inQ_in (h7 i hi)⟩
section GTs
variable {x : tbE} {u : LV}
/-- all that was looked at, of the map itself -/
theorem GT_N (h : GT x u) : LOK u ∧ mWd (panL u) 0 = vW u ∧ mWd (panL u) 1 = vT u ∧ mTh (panL u) = vTh u ∧ (∀ p, p < 8 → mAb (panL u) p = vU u (nI p)) ∧ (∀ p, p < 8 → gi (vD u) (nI p) = 0 ∨ gi (vD u) (nI p) = 1) ∧ vRs u = nI x.2.1 ∧ (∀ p, p < 8 → vSb u (nI p) = x.2.2.1.testBit p) := by
  have ho := TB_ok h.1
  rw [eqV_eq h.2]
  generalize vF u = f
  simp only [okD, okN, Bool.and_eq_true, decide_eq_true_eq, List.all_eq_true, List.mem_range, Bool.or_eq_true, beq_iff_eq] at ho
  obtain ⟨⟨⟨⟨⟨⟨⟨a1, a2⟩, a3⟩, a4⟩, a5⟩, a6⟩, a7⟩, a8⟩ := ho
  exact ⟨lokQ_ok a1, a2, a3, a4, fun p hp => (a5 p hp).1, fun p hp => (a5 p hp).2, a6, a7⟩
theorem GT_wt (h : GT x u) : vW u = nI (dgt x.1 50) ∧ vT u = nI (dgt x.1 51) ∧ 1 ≤ dgt x.1 50 ∧ dgt x.1 50 ≤ 4 ∧ 1 ≤ dgt x.1 51 ∧ dgt x.1 51 ≤ 2 := by
  obtain ⟨ws, ho⟩ := TB_cl h.1
  rw [eqV_eq h.2]
  simp only [clOK, Bool.and_eq_true, Nat.ble_eq] at ho
  exact ⟨rfl, rfl, ho.1.1.1.1, ho.1.1.1.2, ho.1.1.2, ho.1.2⟩
theorem okM_MOK {l : Int32} (h : okM u l = true) : MOK u (bfR l) (bfC l) := by
  intro i hi
  simp only [okM, List.all_eq_true, List.mem_range, Bool.and_eq_true, Bool.or_eq_true, Bool.not_eq_true', decide_eq_false_iff_not] at h
  obtain ⟨h1, h2⟩ := h i hi
  refine ⟨inQ_in h1, fun z1 z2 => ?_⟩
  rcases h2 with h2 | h2
  · exact absurd ⟨z1, z2⟩ h2
  · exact inQ_in h2
/-- .. and of a fold -/
theorem GT_L {l : Nat} (h : GT x u) (h1 : 1 ≤ l) (h4 : l ≤ 4) (hl : hasL u (nI l) = true) : MOK u (bfR (nI l)) (bfC (nI l)) ∧ mCr (panL u) (vS u) (bfR (nI l)) (bfC (nI l)) = nI (x.2.2.2.1.getD (l - 1) 0) ∧ fcF u (bfR (nI l)) (bfC (nI l)) = nI (x.2.2.2.1.getD (l - 1) 0) ∧ ∀ w, w < 4 → ∃ y, GT y (fC u (nI l) (nI w)) ∧ y.1 = x.2.2.2.2.getD (4 * (l - 1) + w) 0 ∧ rk y.1 < rk x.1 ∧ mLays (panL u) (nI l) (nI w) = panL (fC u (nI l) (nI w)) ∧ (List.range 10).map (fun i => if foB (nI (x.2.2.2.1.getD (l - 1) 0)) i = true then mSd (panL u) i (bfO (nI w)) else gi (vS u) (nI i)) = vS (fC u (nI l) (nI w)) := by
  have ho := TB_ok h.1
  obtain ⟨ws, hc⟩ := TB_cl h.1
  have e0 := eqV_eq h.2
  generalize vF u = f at e0
  subst e0
  simp only [okD, Bool.and_eq_true, List.all_eq_true] at ho
  have hl' : hasL (dec x.1) (nI l) = true := hl
  have o1 := ho.2 l (by rw [List.mem_range'_1]; omega)
  rw [hl'] at o1
  simp only [Bool.not_true, Bool.false_or, okL, Bool.and_eq_true, decide_eq_true_eq, List.all_eq_true, List.mem_range] at o1
  obtain ⟨⟨⟨b1, b2⟩, b3⟩, b4⟩ := o1
  refine ⟨okM_MOK b1, b2, b3, fun w hw => ?_⟩
  have b5 := b4 w hw
  simp only [okS, Bool.and_eq_true, decide_eq_true_eq] at b5
  obtain ⟨⟨c1, c2⟩, c3⟩ := b5
  simp only [clOK, Bool.and_eq_true] at hc
  generalize hs : x.2.2.2.2.getD (4 * (l - 1) + w) 0 = s at c1 c2 c3 ⊢
  have c1' : eqV (fC (uF (dec x.1) f) (nI l) (nI w)) (dec s) = true := c1
  generalize fC (uF (dec x.1) f) (nI l) (nI w) = u' at c1' ⊢
  have hs0 : s ≠ 0 := by
    rintro rfl
    have hwt := GT_wt (u := uF (dec x.1) 0) ⟨h.1, eqV_rf⟩
    simp only [eqV, Bool.and_eq_true, decide_eq_true_eq] at c1
    have q2 : (if bfR (nI l) = true then (1 : Int32) else nI (dgt x.1 51)) = nI 0 := c1.2
    split at q2
    · exact absurd q2 (by decide)
    · rw [nI_eq (by omega) (by decide)] at q2
      omega
  have hm : s ∈ x.2.2.2.2 := by
    rw [List.getD_eq_getElem?_getD] at hs
    cases hq : x.2.2.2.2[4 * (l - 1) + w]? with
    | none => rw [hq] at hs; exact absurd hs.symm hs0
    | some z =>
      rw [hq] at hs
      have : z = s := hs
      subst this
      exact List.mem_of_getElem? hq
  obtain ⟨⟨y, hy1, hy2⟩, hr⟩ := clZ_mem hc.2 s hm hs0
  refine ⟨y, ⟨hy1, by rw [hy2]; exact c1'⟩, hy2, by rw [hy2]; exact hr, ?_, ?_⟩
  · rw [eqV_eq c1']; exact c2
  · rw [eqV_eq c1']; exact c3
theorem hasL_0 (h : GT x u) (hr : rk x.1 ≤ 2) (l : Nat) (h1 : 1 ≤ l) (h4 : l ≤ 4) : hasL u (nI l) = false := by
  obtain ⟨e1, e2, a1, a2, a3, a4⟩ := GT_wt h
  unfold rk at hr
  have w1 : dgt x.1 50 = 1 := by omega
  have t1 : dgt x.1 51 = 1 := by omega
  unfold hasL
  rw [e1, e2, w1, t1]
  split
  · decide
  · rw [decide_eq_false_iff_not]
    rintro ⟨_, z⟩
    exact nI_nlt (a := l) (b := 1) h1 (by omega) z
theorem GT_LYK : ∀ (f : Nat) {x : tbE} {u : LV}, GT x u → rk x.1 ≤ f + 2 → LYK f u := by
  intro f
  induction f with
  | zero => intro x u h hr; exact ⟨(GT_N h).1, fun l h1 h4 => hasL_0 h hr l h1 h4⟩
  | succ f ih =>
    intro x u h hr
    refine ⟨(GT_N h).1, fun l h1 h4 hl => ?_⟩
    obtain ⟨m, _, _, k⟩ := GT_L h h1 h4 hl
    refine ⟨m, fun w hw => ?_⟩
    obtain ⟨y, y1, _, y3, _⟩ := k w hw
    exact ih y1 (by omega)
theorem L0_in : ∃ x, GT x L0 ∧ rk x.1 = 6 := by
  refine ⟨tb0.getD 0 (0, 0, 0, [], []), ⟨?_, ?_⟩, ?_⟩
  · exact List.mem_flatten.mpr ⟨tb0, List.mem_flatten.mpr ⟨tg0, List.mem_cons_self .., List.mem_cons_self ..⟩, List.mem_cons_self ..⟩
  · decide +kernel
  · decide +kernel
end GTs
