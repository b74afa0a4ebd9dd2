/-! maps that are each other's, turned over -/
def FL (u v : LV) : Prop := ∃ x z, GT x u ∧ GT z v ∧ ((dgt x.1 50 ≤ 3 ∧ pcC x z = true) ∨ (dgt x.1 51 = 1 ∧ pcR x z = true))
section FLs
variable {u v : LV} {x z : tbE} {l w p : Nat}
theorem pcC_B (h : pcC x z = true) : flB x z = true := by
  simp only [pcC, Bool.and_eq_true] at h
  exact h.1.2
theorem pcR_B (h : pcR x z = true) : flB x z = true := by
  simp only [pcR, Bool.and_eq_true] at h
  exact h.1.2
theorem FL_B (h : FL u v) : ∃ x z, GT x u ∧ GT z v ∧ flB x z = true := by
  obtain ⟨x, z, h1, h2, h3⟩ := h
  rcases h3 with h3 | h3
  · exact ⟨x, z, h1, h2, pcC_B h3.2⟩
  · exact ⟨x, z, h1, h2, pcR_B h3.2⟩
theorem FL_all (h : FL u v) : vW v = vW u ∧ vT v = vT u ∧ vRs v = vRs u ∧ (∀ p, p < 8 → vSb v (nI p) = vSb u (nI p)) ∧ vS v = vS u := by
  obtain ⟨x, z, h1, h2, h3⟩ := FL_B h
  simp only [flB, Bool.and_eq_true, List.all_eq_true] at h3
  obtain ⟨⟨⟨⟨a1, a2⟩, a3⟩, a4⟩, a5⟩ := h3
  have a1 := Nat.eq_of_beq_eq_true a1
  have a2 := Nat.eq_of_beq_eq_true a2
  have a3 := Nat.eq_of_beq_eq_true a3
  have a4 := Nat.eq_of_beq_eq_true a4
  obtain ⟨e1, e2, _⟩ := GT_wt h1
  obtain ⟨f1, f2, _⟩ := GT_wt h2
  obtain ⟨_, _, _, _, _, _, n1, n2⟩ := GT_N h1
  obtain ⟨_, _, _, _, _, _, m1, m2⟩ := GT_N h2
  refine ⟨by rw [e1, f1, a3], by rw [e2, f2, a4], by rw [n1, m1, a1], fun p hp => by rw [n2 p hp, m2 p hp, a2], ?_⟩
  rw [eqV_eq h1.2, eqV_eq h2.2]
  show (List.range 10).map (fun i => dg z.1 (32 + i)) = (List.range 10).map (fun i => dg x.1 (32 + i))
  refine List.map_congr_left (fun i hi => ?_)
  have := Nat.eq_of_beq_eq_true (a5 i hi)
  show nI (dgt z.1 (32 + i)) = nI (dgt x.1 (32 + i))
  rw [this]
theorem GT_vl (h : GT x u) (h1 : 1 ≤ l) (h4 : l ≤ 4) : hasL u (nI l) = vlN x.1 l := by
  obtain ⟨e1, e2, a1, a2, a3, a4⟩ := GT_wt h
  unfold hasL vlN
  rw [e1, e2]
  by_cases hl : l = 4
  · subst hl
    rw [if_pos (show nI 4 = 4 from rfl), if_pos (show Nat.beq 4 4 = true from rfl)]
    by_cases h2 : dgt x.1 51 = 2
    · rw [h2]; rfl
    · rw [show Nat.beq (dgt x.1 51) 2 = false by rw [← Bool.not_eq_true, Nat.beq_eq]; exact h2]
      exact decide_eq_false (fun z => h2 ((nI_eq (b := 2) (by omega) (by decide)).mp z))
  · have hn : ¬ nI l = 4 := fun z => hl ((nI_eq (b := 4) (by omega) (by decide)).mp z)
    rw [if_neg hn, if_neg (by rw [Nat.beq_eq]; exact hl)]
    by_cases h2 : l < dgt x.1 50
    · rw [show Nat.blt l (dgt x.1 50) = true from Nat.blt_eq.mpr h2]
      exact decide_eq_true ⟨nI_le (a := 1) (by omega) (by omega), nI_lt h2 (by omega)⟩
    · rw [show Nat.blt l (dgt x.1 50) = false by rw [← Bool.not_eq_true, Nat.blt_eq]; exact h2]
      exact decide_eq_false (fun z => h2 ((nI_ltI (by omega) (by omega)).mp z.2))
theorem GT_code {y z : tbE} (h : GT y u) (hz : z ∈ TB) (he : z.1 = y.1) : GT z u := ⟨hz, by rw [he]; exact h.2⟩
/-- the maps behind folds, by their codes -/
theorem GT_sx (h : GT x u) (h1 : 1 ≤ l) (h4 : l ≤ 4) (hl : hasL u (nI l) = true) (hw : w < 4) : ∃ y, GT y (fC u (nI l) (nI w)) ∧ y.1 = sx x l w ∧ vF (fC u (nI l) (nI w)) = nI (fx x l) := by
  obtain ⟨_, _, e2, k⟩ := GT_L h h1 h4 hl
  obtain ⟨y, y1, y2, _⟩ := k w hw
  exact ⟨y, y1, y2, by rw [vF_fC, e2]; rfl⟩
theorem GT_same {y y' : tbE} {a b : LV} (h : GT y a) (h' : GT y' b) (he : y.1 = y'.1) (hf : vF a = vF b) : a = b := by
  rw [eqV_eq h.2, eqV_eq h'.2, he, hf]
theorem FLC_step (hx : GT x u) (hz : GT z v) (h3 : dgt x.1 50 ≤ 3) (hp : pcC x z = true) (h1 : 1 ≤ l) (h4 : l ≤ 4) (hl : hasL v (nI l) = true) (hw : w < 4) : 1 ≤ fpL x.1 l ∧ fpL x.1 l ≤ 4 ∧ fpW l w < 4 ∧ hasL u (nI (fpL x.1 l)) = true ∧ FL (fC u (nI (fpL x.1 l)) (nI (fpW l w))) (fC v (nI l) (nI w)) ∧ vF (fC v (nI l) (nI w)) = vF (fC u (nI (fpL x.1 l)) (nI (fpW l w))) ∧ (vW (fC v (nI l) (nI w)) = 1 ∧ vT (fC v (nI l) (nI w)) = 1 → ∃ w2, w2 < 4 ∧ fC v (nI l) (nI w) = fC u (nI (fpL x.1 l)) (nI w2)) := by
  obtain ⟨y, y1, y2, y3⟩ := GT_sx hz h1 h4 hl hw
  have hvl := hl
  rw [GT_vl hz h1 h4] at hvl
  have shut : vW (fC v (nI l) (nI w)) = 1 ∧ vT (fC v (nI l) (nI w)) = 1 → rk (sx z l w) = 2 := by
    intro hs
    obtain ⟨e1, e2, _, _, _, _⟩ := GT_wt y1
    have a1 := (nI_eq (a := dgt y.1 50) (b := 1) (Nat.lt_of_lt_of_le (Nat.mod_lt _ (by decide)) (by decide)) (by decide)).mp (e1.symm.trans hs.1)
    have a2 := (nI_eq (a := dgt y.1 51) (b := 1) (Nat.lt_of_lt_of_le (Nat.mod_lt _ (by decide)) (by decide)) (by decide)).mp (e2.symm.trans hs.2)
    rw [← y2]
    unfold rk
    omega
  have hmem : l ∈ List.range' 1 4 := by rw [List.mem_range'_1]; omega
  have hp' := hp
  simp only [pcC, Bool.and_eq_true, List.all_eq_true] at hp'
  have k := hp'.2 l hmem
  simp only [hvl, Bool.not_true, Bool.false_or, Bool.and_eq_true, List.all_eq_true] at k
  obtain ⟨⟨k1, k2⟩, k3⟩ := k
  have k4 := k3 w (List.mem_range.mpr hw)
  simp only [Bool.and_eq_true, Bool.or_eq_true, Bool.not_eq_true'] at k4
  obtain ⟨⟨k5, k6⟩, k7⟩ := k4
  have hl' : 1 ≤ fpL x.1 l ∧ fpL x.1 l ≤ 4 := by
    unfold fpL
    by_cases he : l = 4
    · rw [if_pos he]; omega
    · rw [if_neg he]
      have hw1 := (GT_wt hx).2.2.2.1
      unfold vlN at hvl
      rw [if_neg (by rw [Nat.beq_eq]; exact he), Nat.blt_eq] at hvl
      simp only [flB, Bool.and_eq_true] at hp'
      have := Nat.eq_of_beq_eq_true hp'.1.2.1.1.2
      omega
  have hw' : fpW l w < 4 := by
    unfold fpW
    rcases (show w = 0 ∨ w = 1 ∨ w = 2 ∨ w = 3 by omega) with rfl | rfl | rfl | rfl <;> by_cases he : l = 4 <;> simp [he]
  have hw2 : Nat.xor (fpW l w) 2 < 4 := by
    rcases (show fpW l w = 0 ∨ fpW l w = 1 ∨ fpW l w = 2 ∨ fpW l w = 3 by omega) with e | e | e | e <;> rw [e] <;> decide
  have hul : hasL u (nI (fpL x.1 l)) = true := by rw [GT_vl hx hl'.1 hl'.2]; exact k1
  obtain ⟨y', y1', y2', y3'⟩ := GT_sx hx hl'.1 hl'.2 hul hw'
  have hfx := Nat.eq_of_beq_eq_true k2
  have hcode := Nat.eq_of_beq_eq_true k5
  have hW' : dgt y'.1 50 ≤ 3 := by
    obtain ⟨e1, _, _, a2, _⟩ := GT_wt y1'
    obtain ⟨f1, _, _, _, _⟩ := GT_wt y1
    have hle := Nat.le_of_ble_eq_true k6
    have : vW (fC u (nI (fpL x.1 l)) (nI (fpW l w))) = vW (fC v (nI l) (nI w)) := by
      obtain ⟨g1, g2, _⟩ := GT_wt hx
      obtain ⟨q1, q2, _⟩ := GT_wt hz
      simp only [flB, Bool.and_eq_true] at hp'
      have e50 := Nat.eq_of_beq_eq_true hp'.1.2.1.1.2
      show fcW u (bfR (nI (fpL x.1 l))) (bfC (nI (fpL x.1 l))) = fcW v (bfR (nI l)) (bfC (nI l))
      have hWuv : vW v = vW u := by rw [g1, q1, e50]
      by_cases he : l = 4
      · subst he
        rw [show fpL x.1 4 = 4 from if_pos rfl]
        show (if bfR (nI 4) = true then vW u else _) = (if bfR (nI 4) = true then vW v else _)
        rw [if_pos (show bfR (nI 4) = true from rfl), if_pos (show bfR (nI 4) = true from rfl), hWuv]
      · have hn : ∀ m, m ≤ 4 → m ≠ 4 → bfR (nI m) = false ∧ bfC (nI m) = nI m := fun m hm hm4 => by
          have : ¬ nI m = 4 := fun z => hm4 ((nI_eq (b := 4) (by omega) (by decide)).mp z)
          exact ⟨decide_eq_false this, if_neg this⟩
        unfold vlN at hvl
        rw [if_neg (by rw [Nat.beq_eq]; exact he), Nat.blt_eq, e50] at hvl
        have hfp : fpL x.1 l = dgt x.1 50 - l := if_neg he
        obtain ⟨r1, r2⟩ := hn (fpL x.1 l) hl'.2 (by omega)
        obtain ⟨r3, r4⟩ := hn l h4 he
        unfold fcW
        rw [r1, r2, r3, r4, if_neg (by decide), if_neg (by decide), g1, q1, e50, pk_sub (by omega), pk_sub (by omega), hfp]
        unfold mx
        rcases (show dgt x.1 50 = 2 ∧ l = 1 ∨ dgt x.1 50 = 3 ∧ l = 1 ∨ dgt x.1 50 = 3 ∧ l = 2 by omega) with ⟨c1, c2⟩ | ⟨c1, c2⟩ | ⟨c1, c2⟩ <;> rw [c1, c2] <;> decide +kernel
    rw [e1, f1] at this
    have := (nI_eq (by omega) (Nat.lt_of_lt_of_le (Nat.mod_lt _ (by decide)) (by decide))).mp this
    rw [this, y2]
    exact hle
  obtain ⟨z', hz', hpz⟩ := TB_C y1'.1 hW'
  have hzc : z'.1 = y.1 := by
    have : z'.1 = flC y'.1 := by
      simp only [pcC, Bool.and_eq_true] at hpz
      exact Nat.eq_of_beq_eq_true hpz.1.1
    rw [this, y2', y2, hcode]
  refine ⟨hl'.1, hl'.2, hw', hul, ⟨y', z', y1', GT_code y1 hz' hzc, Or.inl ⟨hW', hpz⟩⟩, by rw [y3, y3', hfx], fun hs => ?_⟩
  have hrk := shut hs
  rcases k7 with k7 | k7
  · rw [hrk] at k7; cases k7
  · obtain ⟨y'', y1'', y2'', y3''⟩ := GT_sx hx hl'.1 hl'.2 hul hw2
    exact ⟨_, hw2, GT_same y1 y1'' (by rw [y2, y2'']; exact Nat.eq_of_beq_eq_true k7) (by rw [y3, y3'', hfx])⟩
theorem FLR_step (hx : GT x u) (hz : GT z v) (h3 : dgt x.1 51 = 1) (hp : pcR x z = true) (h1 : 1 ≤ l) (h4 : l ≤ 4) (hl : hasL v (nI l) = true) (hw : w < 4) : 1 ≤ l ∧ l ≤ 4 ∧ Nat.xor w 1 < 4 ∧ hasL u (nI (l)) = true ∧ FL (fC u (nI (l)) (nI (Nat.xor w 1))) (fC v (nI l) (nI w)) ∧ vF (fC v (nI l) (nI w)) = vF (fC u (nI (l)) (nI (Nat.xor w 1))) ∧ (vW (fC v (nI l) (nI w)) = 1 ∧ vT (fC v (nI l) (nI w)) = 1 → ∃ w2, w2 < 4 ∧ fC v (nI l) (nI w) = fC u (nI (l)) (nI w2)) := by
  obtain ⟨y, y1, y2, y3⟩ := GT_sx hz h1 h4 hl hw
  have hvl := hl
  rw [GT_vl hz h1 h4] at hvl
  have shut : vW (fC v (nI l) (nI w)) = 1 ∧ vT (fC v (nI l) (nI w)) = 1 → rk (sx z l w) = 2 := by
    intro hs
    obtain ⟨e1, e2, _, _, _, _⟩ := GT_wt y1
    have a1 := (nI_eq (a := dgt y.1 50) (b := 1) (Nat.lt_of_lt_of_le (Nat.mod_lt _ (by decide)) (by decide)) (by decide)).mp (e1.symm.trans hs.1)
    have a2 := (nI_eq (a := dgt y.1 51) (b := 1) (Nat.lt_of_lt_of_le (Nat.mod_lt _ (by decide)) (by decide)) (by decide)).mp (e2.symm.trans hs.2)
    rw [← y2]
    unfold rk
    omega
  have hmem : l ∈ List.range' 1 4 := by rw [List.mem_range'_1]; omega
  have hp' := hp
  simp only [pcR, Bool.and_eq_true, List.all_eq_true] at hp'
  have k := hp'.2 l hmem
  simp only [hvl, Bool.not_true, Bool.false_or, Bool.and_eq_true, List.all_eq_true] at k
  obtain ⟨⟨k1, k2⟩, k3⟩ := k
  have k4 := k3 w (List.mem_range.mpr hw)
  simp only [Bool.and_eq_true, Bool.or_eq_true, Bool.not_eq_true'] at k4
  obtain ⟨⟨k5, k6⟩, k7⟩ := k4
  have hw' : Nat.xor w 1 < 4 := by
    rcases (show w = 0 ∨ w = 1 ∨ w = 2 ∨ w = 3 by omega) with rfl | rfl | rfl | rfl <;> decide
  have hw2 : Nat.xor (Nat.xor w 1) 2 < 4 := by
    rcases (show w = 0 ∨ w = 1 ∨ w = 2 ∨ w = 3 by omega) with rfl | rfl | rfl | rfl <;> decide
  have hul : hasL u (nI l) = true := by rw [GT_vl hx h1 h4]; exact k1
  obtain ⟨y', y1', y2', y3'⟩ := GT_sx hx h1 h4 hul hw'
  have hfx := Nat.eq_of_beq_eq_true k2
  have hcode := Nat.eq_of_beq_eq_true k5
  have hT' : dgt y'.1 51 = 1 := by
    obtain ⟨_, e2, _, _, _, a4⟩ := GT_wt y1'
    obtain ⟨_, g2, _⟩ := GT_wt hx
    have : vT (fC u (nI l) (nI (Nat.xor w 1))) = 1 := by
      show fcT u (bfR (nI l)) = 1
      unfold fcT
      split
      · rfl
      · rw [g2, h3]; rfl
    rw [e2] at this
    exact (nI_eq (b := 1) (by omega) (by decide)).mp this
  obtain ⟨z', hz', hpz⟩ := TB_R y1'.1 hT'
  have hzc : z'.1 = y.1 := by
    have : z'.1 = flR y'.1 := by
      simp only [pcR, Bool.and_eq_true] at hpz
      exact Nat.eq_of_beq_eq_true hpz.1.1
    rw [this, y2', y2, hcode]
  refine ⟨h1, h4, hw', hul, ⟨y', z', y1', GT_code y1 hz' hzc, Or.inr ⟨hT', hpz⟩⟩, by rw [y3, y3', hfx], fun hs => ?_⟩
  have hrk := shut hs
  rcases k7 with k7 | k7
  · rw [hrk] at k7; cases k7
  · obtain ⟨y'', y1'', y2'', y3''⟩ := GT_sx hx h1 h4 hul hw2
    exact ⟨_, hw2, GT_same y1 y1'' (by rw [y2, y2'']; exact Nat.eq_of_beq_eq_true k7) (by rw [y3, y3'', hfx])⟩
/-- one fold on both -/
theorem FL_step (h : FL u v) (h1 : 1 ≤ l) (h4 : l ≤ 4) (hl : hasL v (nI l) = true) (hw : w < 4) : ∃ l' w', 1 ≤ l' ∧ l' ≤ 4 ∧ w' < 4 ∧ hasL u (nI l') = true ∧ FL (fC u (nI l') (nI w')) (fC v (nI l) (nI w)) ∧ vF (fC v (nI l) (nI w)) = vF (fC u (nI l') (nI w')) ∧ (vW (fC v (nI l) (nI w)) = 1 ∧ vT (fC v (nI l) (nI w)) = 1 → ∃ w2, w2 < 4 ∧ fC v (nI l) (nI w) = fC u (nI l') (nI w2)) := by
  obtain ⟨x, z, hx, hz, h3⟩ := h
  rcases h3 with ⟨h3, hp⟩ | ⟨h3, hp⟩
  · exact ⟨_, _, FLC_step hx hz h3 hp h1 h4 hl hw⟩
  · exact ⟨_, _, FLR_step hx hz h3 hp h1 h4 hl hw⟩
/-- the greater part: the lesser's, turned over -/
theorem FL_own (hx : GT x u) (h1 : 1 ≤ l) (h4 : l ≤ 4) (hl : hasL u (nI l) = true) (hw : w < 2) : FL (fC u (nI l) (nI w)) (fC u (nI l) (nI (w + 2))) ∧ vF (fC u (nI l) (nI (w + 2))) = vF (fC u (nI l) (nI w)) := by
  have hvl := hl
  rw [GT_vl hx h1 h4] at hvl
  obtain ⟨y, y1, y2, y3⟩ := GT_sx hx h1 h4 hl (show w < 4 by omega)
  obtain ⟨y', y1', y2', y3'⟩ := GT_sx hx h1 h4 hl (show w + 2 < 4 by omega)
  have hp := TB_O hx.1
  simp only [pcO, List.all_eq_true] at hp
  have k := hp l (by rw [List.mem_range'_1]; omega)
  simp only [hvl, Bool.not_true, Bool.false_or, List.all_eq_true] at k
  have k := k w (List.mem_range.mpr hw)
  refine ⟨?_, by rw [y3, y3']⟩
  by_cases he : l = 4
  · subst he
    simp only [show Nat.beq 4 4 = true from rfl, if_true, Bool.and_eq_true] at k
    have k1 := Nat.eq_of_beq_eq_true k.1
    have k2 := Nat.eq_of_beq_eq_true k.2
    obtain ⟨z', hz', hpz⟩ := TB_R y1.1 (by rw [y2]; exact k2)
    have hzc : z'.1 = y'.1 := by
      have : z'.1 = flR y.1 := by
        simp only [pcR, Bool.and_eq_true] at hpz
        exact Nat.eq_of_beq_eq_true hpz.1.1
      rw [this, y2', y2, k1]
    exact ⟨y, z', y1, GT_code y1' hz' hzc, Or.inr ⟨by rw [y2]; exact k2, hpz⟩⟩
  · rw [if_neg (by rw [Nat.beq_eq]; exact he)] at k
    simp only [Bool.and_eq_true] at k
    have k1 := Nat.eq_of_beq_eq_true k.1
    have k2 := Nat.le_of_ble_eq_true k.2
    obtain ⟨z', hz', hpz⟩ := TB_C y1.1 (by rw [y2]; exact k2)
    have hzc : z'.1 = y'.1 := by
      have : z'.1 = flC y.1 := by
        simp only [pcC, Bool.and_eq_true] at hpz
        exact Nat.eq_of_beq_eq_true hpz.1.1
      rw [this, y2', y2, k1]
    exact ⟨y, z', y1, GT_code y1' hz' hzc, Or.inl ⟨by rw [y2]; exact k2, hpz⟩⟩
end FLs
