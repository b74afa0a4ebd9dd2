section LB1
variable {scr : List Int32} {n : Nat} {M : mm_M} {Q : Option Value → mm_M → Prop} {a b : Nat} {u v : LV}
theorem clN {i : Nat} (h : i < 10) : (nI i).toNatClampNeg = i := nI_clamp (by omega)
theorem bi_t : bi true = 1 := rfl
theorem bi_f : bi false = 0 := rfl
theorem i10 : ((1 : Int32) = 0) ↔ False := by decide
theorem i01 : ((0 : Int32) = 1) ↔ False := by decide
theorem uH_uH {s t : List Int32} : uH (uH v s) t = uH v t := rfl
theorem vH_uH {s : List Int32} : vH (uH v s) = s := rfl
theorem W89 {x1 x2 : Int32} : Wp scr (n + 1) 89 [.int x1, .int x2] M Q ↔ Q (some (.int (bi (decide (0 ≤ x1 ∧ x1 < x2))))) M := by
  simp only [e89, u89_0, u89_1, u89_4, u89_5, u89_6, u89_9, u89_10, u89_13, u89_14, mw_os, wp_ite, mw_sw, Option.toList_some, Option.toList_none, List.cons_append, List.nil_append, true_and, and_true, if_true, if_false, mw_s_, mw_s_i, mw_s_r, mw_s_ii, mw_s_ir, mw_s_ri, mw_s_rr, mw_s_iii, mw_s_iir, mw_s_iri, mw_s_irr, mw_s_rii, mw_s_rir, mw_s_rri, mw_s_rrr, mw_s_iiii, mw_s_iiir, mw_s_iiri, mw_s_iirr, mw_s_irii, mw_s_irir, mw_s_irri, mw_s_irrr, mw_s_riii, mw_s_riir, mw_s_riri, mw_s_rirr, mw_s_rrii, mw_s_rrir, mw_s_rrri, mw_s_rrrr]
  by_cases h1 : x1 < 0
  · have h2 : ¬ 0 ≤ x1 := Int32.not_le.mpr h1
    simp [h1, h2, bi]
  · have h2 : 0 ≤ x1 := Int32.not_lt.mp h1
    by_cases h3 : x1 < x2
    · have h4 : ¬ x2 ≤ x1 := Int32.not_le.mpr h3
      simp [h1, h2, h3, h4, bi]
    · have h4 : x2 ≤ x1 := Int32.not_lt.mp h3
      simp [h1, h2, h3, h4, bi]
def hIx (r : Bool) (al as : Int32) : Int32 := if r = true then 4 * al + as else 4 * as + al
theorem W26 {r : Bool} {x2 x3 : Int32} (h : LA M b u) (hl : (vH u).length = 8) (hi : vp_in (hIx r x2 x3) 8) : Wp scr (n + 1) 26 [.ref b, .int (bi r), .int x2, .int x3] M Q ↔ Q (some (.int (gi (vH u) (hIx r x2 x3)))) M := by
  have hi' : vp_in (hIx r x2 x3) (vH u).length := by rw [hl]; exact hi
  cases r
  · have hg : mm_at (vH u) (4 * x3 + x2) = some (gi (vH u) (4 * x3 + x2)) := gi_at hi'
    simp only [e26, u26_0, u26_1, u26_4, u26_5, u26_8, u26_9, u26_10, u26_11, u26_12, u26_13, u26_16, u26_17, u26_18, u26_19, u26_20, u26_21, u26_22, mw_os, wp_ite, mw_sw, Option.toList_some, Option.toList_none, List.cons_append, List.nil_append, true_and, and_true, if_true, if_false, mw_s_, mw_s_i, mw_s_r, mw_s_ii, mw_s_ir, mw_s_ri, mw_s_rr, mw_s_iii, mw_s_iir, mw_s_iri, mw_s_irr, mw_s_rii, mw_s_rir, mw_s_rri, mw_s_rrr, mw_s_iiii, mw_s_iiir, mw_s_iiri, mw_s_iirr, mw_s_irii, mw_s_irir, mw_s_irri, mw_s_irrr, mw_s_riii, mw_s_riir, mw_s_riri, mw_s_rirr, mw_s_rrii, mw_s_rrir, mw_s_rrri, mw_s_rrrr, LA_5 h, LA_h h, bi_f, hg]
    exact Iff.rfl
  · have hg : mm_at (vH u) (4 * x2 + x3) = some (gi (vH u) (4 * x2 + x3)) := gi_at hi'
    simp only [e26, u26_0, u26_1, u26_4, u26_5, u26_8, u26_9, u26_10, u26_11, u26_12, u26_13, u26_16, u26_17, u26_18, u26_19, u26_20, u26_21, u26_22, mw_os, wp_ite, mw_sw, Option.toList_some, Option.toList_none, List.cons_append, List.nil_append, true_and, and_true, if_true, if_false, mw_s_, mw_s_i, mw_s_r, mw_s_ii, mw_s_ir, mw_s_ri, mw_s_rr, mw_s_iii, mw_s_iir, mw_s_iri, mw_s_irr, mw_s_rii, mw_s_rir, mw_s_rri, mw_s_rrr, mw_s_iiii, mw_s_iiir, mw_s_iiri, mw_s_iirr, mw_s_irii, mw_s_irir, mw_s_irri, mw_s_irrr, mw_s_riii, mw_s_riir, mw_s_riri, mw_s_rirr, mw_s_rrii, mw_s_rrir, mw_s_rrri, mw_s_rrrr, LA_5 h, LA_h h, bi_t, i10, hg]
    exact Iff.rfl
/-- the heaps, counted -/
def hpZ (s : List Int32) : List Int32 := (List.range' 0 8).foldl (fun s i => s.set i 0) s
def hpC (v : LV) (s : List Int32) : List Int32 := (List.range' 0 8).foldl (fun s i => s.set (vX v (nI i)).toNatClampNeg (gi s (vX v (nI i)) + 1)) s
theorem LOK_uH {s : List Int32} (hv : LOK v) (hs : s.length = 8) : LOK (uH v s) := ⟨hv.1, hv.2.1, hv.2.2.1, hv.2.2.2.1, hv.2.2.2.2.1, hs, hv.2.2.2.2.2.2⟩
theorem W27 (hM : a + 6 < M.length) (hv : LOK v) : Wp scr (n + 2) 27 [.ref a] (pl M a v) Q ↔ Q none (pl M a (uH v (hpC v (hpZ (vH v))))) := by
  have key1 := nf_loopI (N := 8) (Φ := fun i (s : List Int32) => wp scr (n + 1) mb_27 2 [some (.ref a), some (.int (nI i))] [] (pl M a (uH v s)) Q) (Ψ := fun s => wp scr (n + 1) mb_27 23 [some (.ref a), some (.int (nI 0))] [] (pl M a (uH v s)) Q) (step := fun s i => s.set i 0) (I := fun _ s => s.length = 8)
    (fun i s _ hs => by rw [List.length_set]; exact hs)
    (fun i s hi hs => u27_2.trans (by
      simp only [e27, u27_0, u27_1, u27_3, u27_5, u27_8, u27_9, u27_12, u27_13, u27_14, u27_15, u27_18, u27_21, u27_22, u27_23, u27_24, u27_26, u27_29, u27_30, u27_33, u27_34, u27_35, u27_38, u27_39, u27_40, u27_41, u27_42, u27_43, u27_46, u27_49, mw_os, wp_ite, mw_sw, Option.toList_some, Option.toList_none, List.cons_append, List.nil_append, true_and, and_true, if_true, if_false, mw_s_, mw_s_i, mw_s_r, mw_s_ii, mw_s_ir, mw_s_ri, mw_s_rr, mw_s_iii, mw_s_iir, mw_s_iri, mw_s_irr, mw_s_rii, mw_s_rir, mw_s_rri, mw_s_rrr, mw_s_iiii, mw_s_iiir, mw_s_iiri, mw_s_iirr, mw_s_irii, mw_s_irir, mw_s_irri, mw_s_irrr, mw_s_riii, mw_s_riir, mw_s_riri, mw_s_rirr, mw_s_rrii, mw_s_rrir, mw_s_rrri, mw_s_rrrr, mm_sto1, mm_clr, mm_isL, List.getElem?_cons_zero, List.getElem?_cons_succ, List.set_cons_zero, List.set_cons_succ, Bool.false_eq_true, LA_5 (pl_LA hM), pl_stH hM (v := uH v s) (j := nI i) (by rw [vH_uH, hs]; exact nI_in8 hi), nle8 hi, nI_1, uH_uH, vH_uH, clN (Nat.lt_trans hi (by decide))]))
    (fun s hs => u27_2.trans (by simp only [u27_3, u27_5, u27_21, u27_22, mw_os, wp_ite, mw_sw, Option.toList_some, Option.toList_none, List.cons_append, List.nil_append, true_and, and_true, if_true, if_false, mw_s_, mw_s_i, mw_s_r, mw_s_ii, mw_s_ir, mw_s_ri, mw_s_rr, mw_s_iii, mw_s_iir, mw_s_iri, mw_s_irr, mw_s_rii, mw_s_rir, mw_s_rri, mw_s_rrr, mw_s_iiii, mw_s_iiir, mw_s_iiri, mw_s_iirr, mw_s_irii, mw_s_irir, mw_s_irri, mw_s_irrr, mw_s_riii, mw_s_riir, mw_s_riri, mw_s_rirr, mw_s_rrii, mw_s_rrir, mw_s_rrri, mw_s_rrrr, mm_sto1, mm_clr, mm_isL, List.getElem?_cons_zero, List.getElem?_cons_succ, List.set_cons_zero, List.set_cons_succ, Bool.false_eq_true, nle8e, nI_0])) 8 0 (vH v) rfl hv.2.2.2.2.2.1
  have hz : (hpZ (vH v)).length = 8 := key1.2
  have key2 := nf_loopI (N := 8) (Φ := fun i (s : List Int32) => wp scr (n + 1) mb_27 23 [some (.ref a), some (.int (nI i))] [] (pl M a (uH v s)) Q) (Ψ := fun s => Q none (pl M a (uH v s))) (step := fun s i => s.set (vX v (nI i)).toNatClampNeg (gi s (vX v (nI i)) + 1)) (I := fun _ s => s.length = 8)
    (fun i s _ hs => by rw [List.length_set]; exact hs)
    (fun i s hi hs => u27_23.trans (by
      have hx : vp_in (vX (uH v s) (nI i)) 8 := hv.2.2.2.2.2.2 i hi
      have hx2 : vp_in (vX (uH v s) (nI i)) (vH (uH v s)).length := by rw [vH_uH, hs]; exact hx
      have hx3 : mm_at s (vX (uH v s) (nI i)) = some (gi s (vX (uH v s) (nI i))) := gi_at hx2
      simp only [e27, u27_0, u27_1, u27_3, u27_5, u27_8, u27_9, u27_12, u27_13, u27_14, u27_15, u27_18, u27_21, u27_22, u27_24, u27_26, u27_29, u27_30, u27_33, u27_34, u27_35, u27_38, u27_39, u27_40, u27_41, u27_42, u27_43, u27_46, u27_49, mw_os, wp_ite, mw_sw, Option.toList_some, Option.toList_none, List.cons_append, List.nil_append, true_and, and_true, if_true, if_false, mw_s_, mw_s_i, mw_s_r, mw_s_ii, mw_s_ir, mw_s_ri, mw_s_rr, mw_s_iii, mw_s_iir, mw_s_iri, mw_s_irr, mw_s_rii, mw_s_rir, mw_s_rri, mw_s_rrr, mw_s_iiii, mw_s_iiir, mw_s_iiri, mw_s_iirr, mw_s_irii, mw_s_irir, mw_s_irri, mw_s_irrr, mw_s_riii, mw_s_riir, mw_s_riri, mw_s_rirr, mw_s_rrii, mw_s_rrir, mw_s_rrri, mw_s_rrrr, mm_sto1, mm_clr, mm_isL, List.getElem?_cons_zero, List.getElem?_cons_succ, List.set_cons_zero, List.set_cons_succ, Bool.false_eq_true, LA_5 (pl_LA hM), LA_x (pl_LA hM), W28 (pl_LA hM) (LOK_uH hv hs) (nI_in8 hi), LA_h (pl_LA hM), hx3, pl_stH hM hx2, nle8 hi, nI_1, uH_uH, vH_uH]
      exact Iff.rfl))
    (fun s hs => u27_23.trans (by simp only [u27_24, u27_26, u27_49, mw_os, wp_ite, mw_sw, Option.toList_some, Option.toList_none, List.cons_append, List.nil_append, true_and, and_true, if_true, if_false, mw_s_, mw_s_i, mw_s_r, mw_s_ii, mw_s_ir, mw_s_ri, mw_s_rr, mw_s_iii, mw_s_iir, mw_s_iri, mw_s_irr, mw_s_rii, mw_s_rir, mw_s_rri, mw_s_rrr, mw_s_iiii, mw_s_iiir, mw_s_iiri, mw_s_iirr, mw_s_irii, mw_s_irir, mw_s_irri, mw_s_irrr, mw_s_riii, mw_s_riir, mw_s_riri, mw_s_rirr, mw_s_rrii, mw_s_rrir, mw_s_rrri, mw_s_rrrr, nle8e])) 8 0 (hpZ (vH v)) rfl hz
  rw [hpC, ← key2.1, hpZ, ← key1.1]
  simp only [e27, u27_0, u27_1, mm_sto1, mm_clr, mm_isL, List.getElem?_cons_zero, List.getElem?_cons_succ, List.set_cons_zero, List.set_cons_succ, Bool.false_eq_true, mw_os, wp_ite, mw_sw, Option.toList_some, Option.toList_none, List.cons_append, List.nil_append, true_and, and_true, if_true, if_false, mw_s_, mw_s_i, mw_s_r, mw_s_ii, mw_s_ir, mw_s_ri, mw_s_rr, mw_s_iii, mw_s_iir, mw_s_iri, mw_s_irr, mw_s_rii, mw_s_rir, mw_s_rri, mw_s_rrr, mw_s_iiii, mw_s_iiir, mw_s_iiri, mw_s_iirr, mw_s_irii, mw_s_irir, mw_s_irri, mw_s_irrr, mw_s_riii, mw_s_riir, mw_s_riri, mw_s_rirr, mw_s_rrii, mw_s_rrir, mw_s_rrri, mw_s_rrrr]
  exact Iff.rfl
/-! creases -/
def cS : List Int32 := [0, 1, 2, 4, 5, 6, 0, 1, 2, 3]
def cE : List Int32 := [1, 2, 3, 5, 6, 7, 4, 5, 6, 7]
theorem cS_in {i : Nat} (h : i < 10) : vp_in (gi cS (nI i)) 8 := (show ∀ i, i < 10 → ¬ (gi cS (nI i) < 0 ∨ 8 ≤ (gi cS (nI i)).toNatClampNeg) by decide +kernel) i h
theorem cE_in {i : Nat} (h : i < 10) : vp_in (gi cE (nI i)) 8 := (show ∀ i, i < 10 → ¬ (gi cE (nI i) < 0 ∨ 8 ≤ (gi cE (nI i)).toNatClampNeg) by decide +kernel) i h
theorem ld_cS {i : Nat} (h : i < 10) : mm_ld (mc_X scr) M (.retAddr 1) (nI i) = some (gi cS (nI i)) := gi_at (xs := cS) (nI_in10 h)
theorem ld_cE {i : Nat} (h : i < 10) : mm_ld (mc_X scr) M (.retAddr 2) (nI i) = some (gi cE (nI i)) := gi_at (xs := cE) (nI_in10 h)
def mn (x y : Int32) : Int32 := if y < x then y else x
def mx (x y : Int32) : Int32 := if x < y then y else x
def lAc (u : LV) (r : Bool) (cut : Int32) (i : Nat) : Bool :=
  decide (gi (if r = true then vC u else vR u) (gi cS (nI i)) = gi (if r = true then vC u else vR u) (gi cE (nI i)) ∧ mn (gi (if r = true then vR u else vC u) (gi cS (nI i))) (gi (if r = true then vR u else vC u) (gi cE (nI i))) = cut - 1 ∧ mx (gi (if r = true then vR u else vC u) (gi cS (nI i))) (gi (if r = true then vR u else vC u) (gi cE (nI i))) = cut)
theorem W30 {r : Bool} {x3 : Int32} {i : Nat} (h : LA M b u) (hv : LOK u) (hi : i < 10) : Wp scr (n + 1) 30 [.ref b, .int (nI i), .int (bi r), .int x3] M Q ↔ Q (some (.int (bi (lAc u r x3 i)))) M := by
  obtain ⟨l1, l2, l3, l4, l5, l6, l7⟩ := hv
  have c1 := gi_at (l1.symm ▸ cS_in hi : vp_in (gi cS (nI i)) (vC u).length)
  have c2 := gi_at (l1.symm ▸ cE_in hi : vp_in (gi cE (nI i)) (vC u).length)
  have r1 := gi_at (l2.symm ▸ cS_in hi : vp_in (gi cS (nI i)) (vR u).length)
  have r2 := gi_at (l2.symm ▸ cE_in hi : vp_in (gi cE (nI i)) (vR u).length)
  cases r
  · simp only [e30, u30_0, u30_3, u30_4, u30_5, u30_7, u30_10, u30_11, u30_12, u30_14, u30_15, u30_18, u30_19, u30_22, u30_25, u30_26, u30_29, u30_31, u30_32, u30_35, u30_36, u30_39, u30_42, u30_43, u30_46, u30_48, u30_50, u30_52, u30_53, u30_55, u30_57, u30_58, u30_61, u30_63, u30_65, u30_66, u30_68, u30_70, u30_71, u30_74, u30_75, u30_76, u30_77, u30_80, u30_82, u30_84, u30_85, u30_87, u30_89, u30_90, u30_93, u30_94, u30_97, u30_98, u30_101, u30_102, mw_os, wp_ite, mw_sw, Option.toList_some, Option.toList_none, List.cons_append, List.nil_append, true_and, and_true, if_true, if_false, mw_s_, mw_s_i, mw_s_r, mw_s_ii, mw_s_ir, mw_s_ri, mw_s_rr, mw_s_iii, mw_s_iir, mw_s_iri, mw_s_irr, mw_s_rii, mw_s_rir, mw_s_rri, mw_s_rrr, mw_s_iiii, mw_s_iiir, mw_s_iiri, mw_s_iirr, mw_s_irii, mw_s_irir, mw_s_irri, mw_s_irrr, mw_s_riii, mw_s_riir, mw_s_riri, mw_s_rirr, mw_s_rrii, mw_s_rrir, mw_s_rrri, mw_s_rrrr, mm_sto1, mm_clr, mm_isL, List.getElem?_cons_zero, List.getElem?_cons_succ, List.set_cons_zero, List.set_cons_succ, Bool.false_eq_true, ld_cS hi, ld_cE hi, LA_0 h, LA_1 h, LA_c h, LA_r h, c1, c2, r1, r2, bi_f, lAc, mn, mx, reduceCtorEq]
    by_cases q1 : gi (vR u) (gi cS (nI i)) = gi (vR u) (gi cE (nI i))
    · by_cases q2 : (if gi (vC u) (gi cE (nI i)) < gi (vC u) (gi cS (nI i)) then gi (vC u) (gi cE (nI i)) else gi (vC u) (gi cS (nI i))) = x3 - 1
      · by_cases q3 : (if gi (vC u) (gi cS (nI i)) < gi (vC u) (gi cE (nI i)) then gi (vC u) (gi cE (nI i)) else gi (vC u) (gi cS (nI i))) = x3
        · simp only [q1, q2, q3]; simp [bi]
        · simp only [q1, q2, q3]; simp [bi]
      · simp only [q1, q2]; simp [bi]
    · simp only [q1]; simp [bi]
  · simp only [e30, u30_0, u30_3, u30_4, u30_5, u30_7, u30_10, u30_11, u30_12, u30_14, u30_15, u30_18, u30_19, u30_22, u30_25, u30_26, u30_29, u30_31, u30_32, u30_35, u30_36, u30_39, u30_42, u30_43, u30_46, u30_48, u30_50, u30_52, u30_53, u30_55, u30_57, u30_58, u30_61, u30_63, u30_65, u30_66, u30_68, u30_70, u30_71, u30_74, u30_75, u30_76, u30_77, u30_80, u30_82, u30_84, u30_85, u30_87, u30_89, u30_90, u30_93, u30_94, u30_97, u30_98, u30_101, u30_102, mw_os, wp_ite, mw_sw, Option.toList_some, Option.toList_none, List.cons_append, List.nil_append, true_and, and_true, if_true, if_false, mw_s_, mw_s_i, mw_s_r, mw_s_ii, mw_s_ir, mw_s_ri, mw_s_rr, mw_s_iii, mw_s_iir, mw_s_iri, mw_s_irr, mw_s_rii, mw_s_rir, mw_s_rri, mw_s_rrr, mw_s_iiii, mw_s_iiir, mw_s_iiri, mw_s_iirr, mw_s_irii, mw_s_irir, mw_s_irri, mw_s_irrr, mw_s_riii, mw_s_riir, mw_s_riri, mw_s_rirr, mw_s_rrii, mw_s_rrir, mw_s_rrri, mw_s_rrrr, mm_sto1, mm_clr, mm_isL, List.getElem?_cons_zero, List.getElem?_cons_succ, List.set_cons_zero, List.set_cons_succ, Bool.false_eq_true, ld_cS hi, ld_cE hi, LA_0 h, LA_1 h, LA_c h, LA_r h, c1, c2, r1, r2, bi_t, i10, lAc, mn, mx]
    by_cases q1 : gi (vC u) (gi cS (nI i)) = gi (vC u) (gi cE (nI i))
    · by_cases q2 : (if gi (vR u) (gi cE (nI i)) < gi (vR u) (gi cS (nI i)) then gi (vR u) (gi cE (nI i)) else gi (vR u) (gi cS (nI i))) = x3 - 1
      · by_cases q3 : (if gi (vR u) (gi cS (nI i)) < gi (vR u) (gi cE (nI i)) then gi (vR u) (gi cE (nI i)) else gi (vR u) (gi cS (nI i))) = x3
        · simp only [q1, q2, q3]; simp [bi]
        · simp only [q1, q2, q3]; simp [bi]
      · simp only [q1, q2]; simp [bi]
    · simp only [q1]; simp [bi]
end LB1
