section LT2
variable {scr : List Int32} {n : Nat} {M M0 : mm_M} {Q : Option Value → mm_M → Prop} {g : SG} {z dd : Int32}
theorem C134 (hg : SGOK g) (hc : CTh M0 M g (gN g)) (hd : DR M z dd) (hQ : ∀ M', CTh M0 M' g (ltF (gN g).1 4 (gN g) z 0).1 → Th (gN g) (ltF (gN g).1 4 (gN g) z 0).1 → DR M' (ltF (gN g).1 4 (gN g) z 0).2.1 (nI (ltF (gN g).1 4 (gN g) z 0).1.2.1) → Q (some (.int (nI (ltF (gN g).1 4 (gN g) z 0).2.2))) M') : Wp scr (n + 5) 134 [.ref 0] M Q := by
  have hC := hc.2.2.1
  obtain ⟨y, hG, hr⟩ := gU_GT hg
  have p1 := DR_p1 (x := nI (gN g).2.1) hd
  simp only [e134, u134_0, u134_1, u134_2, u134_3, u134_6, u134_7, u134_10, u134_13, u134_16, u134_17, mw_os, wp_ite, mw_sw, Option.toList_some, Option.toList_none, List.cons_append, List.nil_append, true_and, and_true, if_true, if_false, mw_s_, mw_s_i, mw_s_r, mw_s_ii, mw_s_ir, mw_s_ri, mw_s_rr, mw_s_iii, mw_s_iir, mw_s_iri, mw_s_irr, mw_s_rii, mw_s_rir, mw_s_rri, mw_s_rrr, mw_s_iiii, mw_s_iiir, mw_s_iiri, mw_s_iirr, mw_s_irii, mw_s_irir, mw_s_irri, mw_s_irrr, mw_s_riii, mw_s_riir, mw_s_riri, mw_s_rirr, mw_s_rrii, mw_s_rrir, mw_s_rrri, mw_s_rrrr, mm_sto1, mm_clr, mm_isL, List.getElem?_cons_zero, List.getElem?_cons_succ, List.set_cons_zero, List.set_cons_succ, Bool.false_eq_true, CS_5 hC, CS_0 hC, NS_4 hC hg, p1]
  exact C134l hg 4 0 (gN g) z 0 _ ⟨y, hG, by omega⟩ (by omega) (by omega) (CTh_dr hc hg hg.1.2.2.1) (Th_rf hg.1) (DR_set hd) hQ none none none
theorem M217 (hg : SGOK g) {b : _} {σ : St} (hl : M.length = M0.length) (ha : Ag M0 M 0 129) (hC : MS M g) (hO : OA M (oG g, b, σ, z)) (hQ : ∀ M', MTh M0 M' g 0 (ltF (gN g).1 4 (gN g) z 0).1 → Th (gN g) (ltF (gN g).1 4 (gN g) z 0).1 → OA M' (oG g, b, σ, (ltF (gN g).1 4 (gN g) z 0).2.1) → Q (some (.int (nI (ltF (gN g).1 4 (gN g) z 0).2.2))) M') : Wp scr (n + 5) 217 [.ref 129] M Q := by
  obtain ⟨y, hG, hr⟩ := gU_GT hg
  have d0 : mm_lda M 132 0 = some (.ref 133) := DPk (k := 0) hC (by decide)
  simp only [e217, u217_0, u217_1, u217_4, u217_5, u217_8, u217_9, u217_10, mw_os, wp_ite, mw_sw, Option.toList_some, Option.toList_none, List.cons_append, List.nil_append, true_and, and_true, if_true, if_false, mw_s_, mw_s_i, mw_s_r, mw_s_ii, mw_s_ir, mw_s_ri, mw_s_rr, mw_s_iii, mw_s_iir, mw_s_iri, mw_s_irr, mw_s_rii, mw_s_rir, mw_s_rri, mw_s_rrr, mw_s_iiii, mw_s_iiir, mw_s_iiri, mw_s_iirr, mw_s_irii, mw_s_irir, mw_s_irri, mw_s_irrr, mw_s_riii, mw_s_riir, mw_s_riri, mw_s_rirr, mw_s_rrii, mw_s_rrir, mw_s_rrri, mw_s_rrrr, mm_sto1, mm_clr, mm_isL, List.getElem?_cons_zero, List.getElem?_cons_succ, List.set_cons_zero, List.set_cons_succ, Bool.false_eq_true, OA_0 hO, OA_2 hO, d0]
  refine MT147o (k := 0) (n := n + 3) hl ha hC (by decide) (fun M1 hm1 ho1 => ?_)
  have hO1 : OA M1 (oG g, b, σ, z) := ho1.trans hO
  simp only [u217_13, u217_14, mw_os, wp_ite, mw_sw, Option.toList_some, Option.toList_none, List.cons_append, List.nil_append, true_and, and_true, if_true, if_false, mw_s_, mw_s_i, mw_s_r, mw_s_ii, mw_s_ir, mw_s_ri, mw_s_rr, mw_s_iii, mw_s_iir, mw_s_iri, mw_s_irr, mw_s_rii, mw_s_rir, mw_s_rri, mw_s_rrr, mw_s_iiii, mw_s_iiir, mw_s_iiri, mw_s_iirr, mw_s_irii, mw_s_irir, mw_s_irri, mw_s_irrr, mw_s_riii, mw_s_riir, mw_s_riri, mw_s_rirr, mw_s_rrii, mw_s_rrir, mw_s_rrri, mw_s_rrrr, mm_sto1, mm_clr, mm_isL, List.getElem?_cons_zero, List.getElem?_cons_succ, List.set_cons_zero, List.set_cons_succ, Bool.false_eq_true]
  exact M217l hg 4 (gN g) z 0 M1 ⟨y, hG, by omega⟩ (by omega) hm1 (Th_rf hg.1) hO1 hQ none none none
def ltS (g : SG) (p : Int32 × Nat × Nat) (_ : Nat) : Int32 × Nat × Nat := ((ltF (gN g).1 4 (gN g) p.1 0).2.1, p.2.1 + (ltF (gN g).1 4 (gN g) p.1 0).2.2, p.2.2 + (if vSb (hU (ltF (gN g).1 4 (gN g) p.1 0).1) (sCv (gN g).1) = true then 1 else 0))
theorem J_lots (hg : SGOK g) (x1 x2 x3 : Int32) : JO scr 133 216 [.int x1, .int x2, .int x3] g := by
  obtain ⟨c, hc8, hcv⟩ := gCv hg
  by_cases hlo : x1 < 1
  · have m1 : ((1 : Int32) ≤ x1) ↔ False := iff_false_intro (fun z => Int32.not_lt.mpr z hlo)
    have mi : inB x1.toInt64 1 20 = false := (inB_eq x1 1 20).trans (decide_eq_false (fun z => Int32.not_lt.mpr z.1 hlo))
    refine ⟨.int (-nI 4), gRf g 4, gRf_ok hg, fun n M Q hC hQ => ?_, fun n M Q hC hQ => ?_⟩
    · simp only [u133_0, u133_1, u133_2, u133_5, u133_6, u133_8, e133, mw_os, wp_ite, mw_sw, Option.toList_some, Option.toList_none, List.cons_append, List.nil_append, true_and, and_true, if_true, if_false, mw_s_, mw_s_i, mw_s_r, mw_s_ii, mw_s_ir, mw_s_ri, mw_s_rr, mw_s_iii, mw_s_iir, mw_s_iri, mw_s_irr, mw_s_rii, mw_s_rir, mw_s_rri, mw_s_rrr, mw_s_iiii, mw_s_iiir, mw_s_iiri, mw_s_iirr, mw_s_irii, mw_s_irir, mw_s_irri, mw_s_irrr, mw_s_riii, mw_s_riir, mw_s_riri, mw_s_rirr, mw_s_rrii, mw_s_rrir, mw_s_rrri, mw_s_rrrr, m1, CS_x hC]
      refine CW84 (k := 4) hC hg (by decide) (by decide) (fun M' hl ha hc => ?_)
      simp only [u133_11, Option.toList_some, List.cons_append, List.nil_append]
      exact hQ M' hl ha hc
    · obtain ⟨o, r, hO, _, hR, hA⟩ := MSu hC
      simp only [u216_0, u216_1, u216_2, u216_3, u216_6, u216_9, u216_12, u216_13, u216_14, u216_15, u216_18, u216_20, u216_23, u216_25, e216, mw_os, wp_ite, mw_sw, Option.toList_some, Option.toList_none, List.cons_append, List.nil_append, true_and, and_true, if_true, if_false, mw_s_, mw_s_i, mw_s_r, mw_s_ii, mw_s_ir, mw_s_ri, mw_s_rr, mw_s_iii, mw_s_iir, mw_s_iri, mw_s_irr, mw_s_rii, mw_s_rir, mw_s_rri, mw_s_rrr, mw_s_iiii, mw_s_iiir, mw_s_iiri, mw_s_iirr, mw_s_irii, mw_s_irir, mw_s_irri, mw_s_irrr, mw_s_riii, mw_s_riir, mw_s_riri, mw_s_rirr, mw_s_rrii, mw_s_rrir, mw_s_rrri, mw_s_rrrr, W146, mi, bi_eq0, not_true, m1, OA_x hO]
      refine MW141 (k := 4) hC hg (by decide) (by decide) (fun M' hl ha hc => ?_)
      simp only [u216_28, Option.toList_some, List.cons_append, List.nil_append]
      exact hQ M' hl ha hc
  · have m1 : ((1 : Int32) ≤ x1) ↔ True := iff_true_intro (Int32.not_lt.mp hlo)
    by_cases hhi : 20 < x1
    · have m2 : (x1 ≤ 20) ↔ False := iff_false_intro (fun z => Int32.not_lt.mpr z hhi)
      have mi : inB x1.toInt64 1 20 = false := (inB_eq x1 1 20).trans (decide_eq_false (fun z => Int32.not_lt.mpr z.2 hhi))
      refine ⟨.int (-nI 6), gRf g 6, gRf_ok hg, fun n M Q hC hQ => ?_, fun n M Q hC hQ => ?_⟩
      · simp only [u133_0, u133_1, u133_2, u133_12, u133_13, u133_15, u133_18, u133_19, u133_21, e133, mw_os, wp_ite, mw_sw, Option.toList_some, Option.toList_none, List.cons_append, List.nil_append, true_and, and_true, if_true, if_false, mw_s_, mw_s_i, mw_s_r, mw_s_ii, mw_s_ir, mw_s_ri, mw_s_rr, mw_s_iii, mw_s_iir, mw_s_iri, mw_s_irr, mw_s_rii, mw_s_rir, mw_s_rri, mw_s_rrr, mw_s_iiii, mw_s_iiir, mw_s_iiri, mw_s_iirr, mw_s_irii, mw_s_irir, mw_s_irri, mw_s_irrr, mw_s_riii, mw_s_riir, mw_s_riri, mw_s_rirr, mw_s_rrii, mw_s_rrir, mw_s_rrri, mw_s_rrrr, m1, m2, CS_x hC]
        refine CW84 (k := 6) hC hg (by decide) (by decide) (fun M' hl ha hc => ?_)
        simp only [u133_24, Option.toList_some, List.cons_append, List.nil_append]
        exact hQ M' hl ha hc
      · obtain ⟨o, r, hO, _, hR, hA⟩ := MSu hC
        simp only [u216_0, u216_1, u216_2, u216_3, u216_6, u216_9, u216_12, u216_13, u216_14, u216_15, u216_18, u216_20, u216_23, u216_25, e216, mw_os, wp_ite, mw_sw, Option.toList_some, Option.toList_none, List.cons_append, List.nil_append, true_and, and_true, if_true, if_false, mw_s_, mw_s_i, mw_s_r, mw_s_ii, mw_s_ir, mw_s_ri, mw_s_rr, mw_s_iii, mw_s_iir, mw_s_iri, mw_s_irr, mw_s_rii, mw_s_rir, mw_s_rri, mw_s_rrr, mw_s_iiii, mw_s_iiir, mw_s_iiri, mw_s_iirr, mw_s_irii, mw_s_irir, mw_s_irri, mw_s_irrr, mw_s_riii, mw_s_riir, mw_s_riri, mw_s_rirr, mw_s_rrii, mw_s_rrir, mw_s_rrri, mw_s_rrrr, W146, mi, bi_eq0, not_true, m1, OA_x hO]
        refine MW141 (k := 6) hC hg (by decide) (by decide) (fun M' hl ha hc => ?_)
        simp only [u216_28, Option.toList_some, List.cons_append, List.nil_append]
        exact hQ M' hl ha hc
    · have m2 : (x1 ≤ 20) ↔ True := iff_true_intro (Int32.not_lt.mp hhi)
      have mi : inB x1.toInt64 1 20 = true := (inB_eq x1 1 20).trans (decide_eq_true ⟨Int32.not_lt.mp hlo, Int32.not_lt.mp hhi⟩)
      obtain ⟨tv, tv1, tv20, rfl⟩ : ∃ t, 1 ≤ t ∧ t ≤ 20 ∧ x1 = nI t := by
        rcases pk_ix x1 (n := 21) (by decide) with h | h | ⟨j, j1, rfl⟩
        · exact absurd (Int32.lt_trans h (by decide)) hlo
        · exact absurd (Int32.lt_of_lt_of_le (a := 20) (b := nI 21) (by decide +kernel) h) hhi
        · refine ⟨j, ?_, by omega, rfl⟩
          exact (nI_leI (a := 1) (b := j) (by decide) (by omega)).mp (Int32.not_lt.mp hlo)
      rcases two x3 with h2 | hy
      · have k1 : decide ((0 : Int32) ≤ x3 ∧ x3 < 2) = true := by rcases h2 with rfl | rfl <;> decide
        have k2 : inB x3.toInt64 0 1 = true := (inB_eq x3 0 1).trans (by rcases h2 with rfl | rfl <;> decide)
        obtain ⟨F, hF'⟩ : ∃ F : (Int32 × Nat × Nat) → Nat → (Int32 × Nat × Nat), F = ltS g := ⟨_, rfl⟩
        refine ⟨.int (if x3 = 0 then nI ((List.range' 0 tv).foldl F (x2, 0, 0)).2.1 else nI ((List.range' 0 tv).foldl F (x2, 0, 0)).2.2), g, hg, fun n M Q hC hQ => ?_, fun n M Q hC hQ => ?_⟩
        · obtain ⟨za, zb, hz⟩ := hC.2.2.2.2.2.2.1
          have hd0 : DR M za zb := hz
          have p0 := DR_p0 (x := x2) hd0
          have hd1 : DR (M.set 126 (dr_o x2 zb)) x2 zb := DR_set hd0
          have hc1 := CTh_dr (x := x2) (y := zb) (CTh_rf hC) hg hg.1.2.2.1
          simp only [u133_0, u133_1, u133_2, u133_12, u133_13, u133_15, u133_25, u133_26, u133_27, u133_30, u133_40, u133_41, u133_44, u133_45, u133_48, u133_49, u133_51, u133_52, u133_54, u133_55, e133, mw_os, wp_ite, mw_sw, Option.toList_some, Option.toList_none, List.cons_append, List.nil_append, true_and, and_true, if_true, if_false, mw_s_, mw_s_i, mw_s_r, mw_s_ii, mw_s_ir, mw_s_ri, mw_s_rr, mw_s_iii, mw_s_iir, mw_s_iri, mw_s_irr, mw_s_rii, mw_s_rir, mw_s_rri, mw_s_rrr, mw_s_iiii, mw_s_iiir, mw_s_iiri, mw_s_iirr, mw_s_irii, mw_s_irir, mw_s_irri, mw_s_irrr, mw_s_riii, mw_s_riir, mw_s_riri, mw_s_rirr, mw_s_rrii, mw_s_rrir, mw_s_rrri, mw_s_rrrr, mm_sto1, mm_clr, mm_isL, List.getElem?_cons_zero, List.getElem?_cons_succ, List.set_cons_zero, List.set_cons_succ, Bool.false_eq_true, m1, m2, W89, k1, bi_eq0, reduceCtorEq, not_false_eq_true, CS_5 hC, p0]
          have loop : ∀ (k i : Nat) (Mc : mm_M) (p : Int32 × Nat × Nat) (d : Int32), i + k = tv → CTh M Mc g (gN g) → DR Mc p.1 d → (∀ M', CTh M M' g (gN g) → Q (some (.int (if x3 = 0 then nI ((List.range' i k).foldl F p).2.1 else nI ((List.range' i k).foldl F p).2.2))) M') → wp scr (n + 39) mb_133 57 [some (.ref 0), some (.int (nI tv)), some (.int x2), some (.int x3), some (.int (nI p.2.1)), some (.int (nI p.2.2)), some (.int (nI i))] [] Mc Q := by
            intro k
            induction k with
            | zero =>
              intro i Mc p d hi hc hd hq
              have : i = tv := by omega
              subst this
              have hle : (nI i ≤ nI i) ↔ True := iff_true_intro (nI_le (Nat.le_refl _) (by omega))
              have hq' := hq Mc hc
              refine u133_57.mpr ?_
              simp only [u133_59, u133_60, u133_111, u133_112, u133_115, u133_117, u133_120, u133_122, mw_os, wp_ite, mw_sw, Option.toList_some, Option.toList_none, List.cons_append, List.nil_append, true_and, and_true, if_true, if_false, mw_s_, mw_s_i, mw_s_r, mw_s_ii, mw_s_ir, mw_s_ri, mw_s_rr, mw_s_iii, mw_s_iir, mw_s_iri, mw_s_irr, mw_s_rii, mw_s_rir, mw_s_rri, mw_s_rrr, mw_s_iiii, mw_s_iiir, mw_s_iiri, mw_s_iirr, mw_s_irii, mw_s_irir, mw_s_irri, mw_s_irrr, mw_s_riii, mw_s_riir, mw_s_riri, mw_s_rirr, mw_s_rrii, mw_s_rrir, mw_s_rrri, mw_s_rrrr, mm_sto1, mm_clr, mm_isL, List.getElem?_cons_zero, List.getElem?_cons_succ, List.set_cons_zero, List.set_cons_succ, Bool.false_eq_true, hle]
              rcases h2 with rfl | rfl <;> exact hq'
            | succ k ih =>
              intro i Mc p d hi hc hd hq
              have hle : (nI tv ≤ nI i) ↔ False := iff_false_intro (nI_ge (by omega) (by omega))
              rw [show List.range' i (k + 1) = i :: List.range' (i + 1) k from rfl, List.foldl_cons] at hq
              refine u133_57.mpr ?_
              simp only [u133_59, u133_60, u133_63, u133_65, u133_66, mw_os, wp_ite, mw_sw, Option.toList_some, Option.toList_none, List.cons_append, List.nil_append, true_and, and_true, if_true, if_false, mw_s_, mw_s_i, mw_s_r, mw_s_ii, mw_s_ir, mw_s_ri, mw_s_rr, mw_s_iii, mw_s_iir, mw_s_iri, mw_s_irr, mw_s_rii, mw_s_rir, mw_s_rri, mw_s_rrr, mw_s_iiii, mw_s_iiir, mw_s_iiri, mw_s_iirr, mw_s_irii, mw_s_irir, mw_s_irri, mw_s_irrr, mw_s_riii, mw_s_riir, mw_s_riri, mw_s_rirr, mw_s_rrii, mw_s_rrir, mw_s_rrri, mw_s_rrrr, mm_sto1, mm_clr, mm_isL, List.getElem?_cons_zero, List.getElem?_cons_succ, List.set_cons_zero, List.set_cons_succ, Bool.false_eq_true, hle, CS_x hc.2.2.1]
              refine C134 (n := n + 34) hg hc hd (fun M2 hc2 ht2 hd2 => ?_)
              have hC2 := hc2.2.2.1
              have hd4 := ht2.1.2.2.1
              have hLA := hc2.2.2.2 _ (Nat.le_refl (ltF (gN g).1 4 (gN g) p.1 0).1.2.1)
              obtain ⟨y, hG, _⟩ := hU_GT ht2.1
              have w36 : ∀ Q : Option Value → mm_M → Prop, Wp scr (n + 39) 36 [.ref (la 1 (ltF (gN g).1 4 (gN g) p.1 0).1.2.1), .int (sCv (gN g).1)] M2 Q ↔ Q (some (.int (bi (vSb (hU (ltF (gN g).1 4 (gN g) p.1 0).1) (sCv (gN g).1))))) M2 := fun Q => W36 hLA (GT_N hG).1 (by rw [hcv]; exact nI_in8 hc8)
              have eF : F p i = ((ltF (gN g).1 4 (gN g) p.1 0).2.1, p.2.1 + (ltF (gN g).1 4 (gN g) p.1 0).2.2, p.2.2 + (if vSb (hU (ltF (gN g).1 4 (gN g) p.1 0).1) (sCv (gN g).1) = true then 1 else 0)) := by rw [hF']; rfl
              rw [eF] at hq
              have eb : ∀ b : Bool, bi b = nI (if b = true then 1 else 0) := fun b => by cases b <;> rfl
              have f5 : mm_fld (mc_X scr) M2 (.ref 126) 0 1 = some (.int (nI (ltF (gN g).1 4 (gN g) p.1 0).1.2.1)) := DR_1 hd2
              have hd2' := hd2
              have hll := NS_l hC2 (show (ltF (gN g).1 4 (gN g) p.1 0).1.2.1 < 5 by omega)
              have hLx := LA_x hLA
              generalize ltF (gN g).1 4 (gN g) p.1 0 = R at hc2 hd2 hLA w36 hq f5 hll hLx
              generalize hv : vSb (hU R.1) (sCv (gN g).1) = vb at w36 hq
              simp only [u133_69, u133_70, u133_72, u133_74, u133_75, u133_78, u133_81, u133_82, u133_85, u133_88, u133_89, u133_90, u133_93, u133_96, u133_99, u133_102, u133_103, u133_105, u133_108, mw_os, wp_ite, mw_sw, Option.toList_some, Option.toList_none, List.cons_append, List.nil_append, true_and, and_true, if_true, if_false, mw_s_, mw_s_i, mw_s_r, mw_s_ii, mw_s_ir, mw_s_ri, mw_s_rr, mw_s_iii, mw_s_iir, mw_s_iri, mw_s_irr, mw_s_rii, mw_s_rir, mw_s_rri, mw_s_rrr, mw_s_iiii, mw_s_iiir, mw_s_iiri, mw_s_iirr, mw_s_irii, mw_s_irir, mw_s_irri, mw_s_irrr, mw_s_riii, mw_s_riir, mw_s_riri, mw_s_rirr, mw_s_rrii, mw_s_rrir, mw_s_rrri, mw_s_rrrr, mm_sto1, mm_clr, mm_isL, List.getElem?_cons_zero, List.getElem?_cons_succ, List.set_cons_zero, List.set_cons_succ, Bool.false_eq_true, nI_add, CS_0 hC2, CS_5 hC2, NS_0 hC2, NS_5 hC2, f5, hll, hLx, w36, W95, nI_1]
              rw [eb, nI_add]
              exact ih (i + 1) M2 (R.2.1, p.2.1 + R.2.2, p.2.2 + (if vb = true then 1 else 0)) _ (by omega) (CTh_dn hc2) hd2 hq
          exact loop tv 0 _ (x2, 0, 0) zb (by omega) hc1 hd1 (fun M' hc' => CT_end hc' hQ)
        · obtain ⟨⟨b, σ, z9⟩, hO⟩ := MS_oG hC
          have p18 : mm_put mc_fty M (.ref 129) (.int x2) 6 18 = some (so M (oG g, b, σ, x2)) := OA_pu18 hO
          have hO1 : OA (so M (oG g, b, σ, x2)) (oG g, b, σ, x2) := so_OA hO
          have hC1 : MS (so M (oG g, b, σ, x2)) g := MS_so hC
          simp only [u216_0, u216_1, u216_2, u216_3, u216_6, u216_9, u216_29, u216_30, u216_31, u216_32, u216_33, u216_36, u216_46, u216_47, u216_48, u216_51, u216_52, u216_54, u216_55, u216_57, u216_58, e216, mw_os, wp_ite, mw_sw, Option.toList_some, Option.toList_none, List.cons_append, List.nil_append, true_and, and_true, if_true, if_false, mw_s_, mw_s_i, mw_s_r, mw_s_ii, mw_s_ir, mw_s_ri, mw_s_rr, mw_s_iii, mw_s_iir, mw_s_iri, mw_s_irr, mw_s_rii, mw_s_rir, mw_s_rri, mw_s_rrr, mw_s_iiii, mw_s_iiir, mw_s_iiri, mw_s_iirr, mw_s_irii, mw_s_irir, mw_s_irri, mw_s_irrr, mw_s_riii, mw_s_riir, mw_s_riri, mw_s_rirr, mw_s_rrii, mw_s_rrir, mw_s_rrri, mw_s_rrrr, mm_sto1, mm_clr, mm_isL, List.getElem?_cons_zero, List.getElem?_cons_succ, List.set_cons_zero, List.set_cons_succ, Bool.false_eq_true, W146, mi, k2, bi_eq0, reduceCtorEq, not_false_eq_true, p18]
          have loop : ∀ (k i : Nat) (Mc : mm_M) (p : Int32 × Nat × Nat), i + k = tv → Mc.length = M.length → Ag M Mc 0 129 → MS Mc g → OA Mc (oG g, b, σ, p.1) → (∀ M', M'.length = M.length → Ag M M' 0 129 → MS M' g → Q (some (.int (if x3 = 0 then nI ((List.range' i k).foldl F p).2.1 else nI ((List.range' i k).foldl F p).2.2))) M') → wp scr (n + 39) mb_216 60 [some (.ref 129), some (.int (nI tv)), some (.int x2), some (.int x3), some (.int (nI p.2.1)), some (.int (nI p.2.2)), some (.int (nI i))] [] Mc Q := by
            intro k
            induction k with
            | zero =>
              intro i Mc p hi hl ha hc ho hq
              have : i = tv := by omega
              subst this
              have hle : (nI i ≤ nI i) ↔ True := iff_true_intro (nI_le (Nat.le_refl _) (by omega))
              have hq' := hq Mc hl ha hc
              refine u216_60.mpr ?_
              simp only [u216_62, u216_63, u216_103, u216_104, u216_107, u216_109, u216_112, u216_114, mw_os, wp_ite, mw_sw, Option.toList_some, Option.toList_none, List.cons_append, List.nil_append, true_and, and_true, if_true, if_false, mw_s_, mw_s_i, mw_s_r, mw_s_ii, mw_s_ir, mw_s_ri, mw_s_rr, mw_s_iii, mw_s_iir, mw_s_iri, mw_s_irr, mw_s_rii, mw_s_rir, mw_s_rri, mw_s_rrr, mw_s_iiii, mw_s_iiir, mw_s_iiri, mw_s_iirr, mw_s_irii, mw_s_irir, mw_s_irri, mw_s_irrr, mw_s_riii, mw_s_riir, mw_s_riri, mw_s_rirr, mw_s_rrii, mw_s_rrir, mw_s_rrri, mw_s_rrrr, mm_sto1, mm_clr, mm_isL, List.getElem?_cons_zero, List.getElem?_cons_succ, List.set_cons_zero, List.set_cons_succ, Bool.false_eq_true, hle]
              rcases h2 with rfl | rfl <;> exact hq'
            | succ k ih =>
              intro i Mc p hi hl ha hc ho hq
              have hle : (nI tv ≤ nI i) ↔ False := iff_false_intro (nI_ge (by omega) (by omega))
              rw [show List.range' i (k + 1) = i :: List.range' (i + 1) k from rfl, List.foldl_cons] at hq
              refine u216_60.mpr ?_
              simp only [u216_62, u216_63, u216_66, u216_68, u216_69, mw_os, wp_ite, mw_sw, Option.toList_some, Option.toList_none, List.cons_append, List.nil_append, true_and, and_true, if_true, if_false, mw_s_, mw_s_i, mw_s_r, mw_s_ii, mw_s_ir, mw_s_ri, mw_s_rr, mw_s_iii, mw_s_iir, mw_s_iri, mw_s_irr, mw_s_rii, mw_s_rir, mw_s_rri, mw_s_rrr, mw_s_iiii, mw_s_iiir, mw_s_iiri, mw_s_iirr, mw_s_irii, mw_s_irir, mw_s_irri, mw_s_irrr, mw_s_riii, mw_s_riir, mw_s_riri, mw_s_rirr, mw_s_rrii, mw_s_rrir, mw_s_rrri, mw_s_rrrr, mm_sto1, mm_clr, mm_isL, List.getElem?_cons_zero, List.getElem?_cons_succ, List.set_cons_zero, List.set_cons_succ, Bool.false_eq_true, hle, OA_x ho]
              refine M217 (n := n + 34) (M0 := M) hg hl ha hc ho (fun M2 hm2 ht2 ho2 => ?_)
              have d2 : mm_lda M2 132 0 = some (.ref 133) := DPk (k := 0) hm2.2.2.1 (by decide)
              obtain ⟨r3, hR3, hA3⟩ := hm2.2.2.2
              obtain ⟨y, hG, _⟩ := hU_GT ht2.1
              have hrc : rC r3 = nI c := by rw [hR3.2.2.2.2.2.2.1, ht2.2.2.2.2.2.1, hcv]
              have w183 : ∀ Q : Option Value → mm_M → Prop, Wp scr (n + 39) 183 [.ref 133] M2 Q ↔ Q (some (.int (bi (vSb (hU (ltF (gN g).1 4 (gN g) p.1 0).1) (sCv (gN g).1))))) M2 := fun Q => by
                have := W183 (scr := scr) (n := n + 35) (Q := Q) hA3 hR3.1 hrc hc8
                rw [show rP r3 = panL (hU (ltF (gN g).1 4 (gN g) p.1 0).1) from hR3.2.2.2.2.2.1, GT_out hG hc8, ← hcv] at this
                exact this
              have eF : F p i = ((ltF (gN g).1 4 (gN g) p.1 0).2.1, p.2.1 + (ltF (gN g).1 4 (gN g) p.1 0).2.2, p.2.2 + (if vSb (hU (ltF (gN g).1 4 (gN g) p.1 0).1) (sCv (gN g).1) = true then 1 else 0)) := by rw [hF']; rfl
              rw [eF] at hq
              generalize ltF (gN g).1 4 (gN g) p.1 0 = R at hm2 ho2 w183 hq
              generalize hv : vSb (hU R.1) (sCv (gN g).1) = vb at w183 hq
              have a0 : nI p.2.2 + 0 = nI (p.2.2 + 0) := nI_add _ 0
              cases vb
              · simp only [u216_72, u216_73, u216_75, u216_77, u216_78, u216_81, u216_82, u216_83, u216_86, u216_93, u216_94, u216_95, u216_97, u216_100, mw_os, wp_ite, mw_sw, Option.toList_some, Option.toList_none, List.cons_append, List.nil_append, true_and, and_true, if_true, if_false, mw_s_, mw_s_i, mw_s_r, mw_s_ii, mw_s_ir, mw_s_ri, mw_s_rr, mw_s_iii, mw_s_iir, mw_s_iri, mw_s_irr, mw_s_rii, mw_s_rir, mw_s_rri, mw_s_rrr, mw_s_iiii, mw_s_iiir, mw_s_iiri, mw_s_iirr, mw_s_irii, mw_s_irir, mw_s_irri, mw_s_irrr, mw_s_riii, mw_s_riir, mw_s_riri, mw_s_rirr, mw_s_rrii, mw_s_rrir, mw_s_rrri, mw_s_rrrr, mm_sto1, mm_clr, mm_isL, List.getElem?_cons_zero, List.getElem?_cons_succ, List.set_cons_zero, List.set_cons_succ, Bool.false_eq_true, nI_add, OA_2 ho2, d2, w183, bi_eq0, nI_1, a0]
                exact ih (i + 1) M2 (R.2.1, p.2.1 + R.2.2, p.2.2 + 0) (by omega) hm2.1 hm2.2.1 hm2.2.2.1 ho2 hq
              · simp only [u216_72, u216_73, u216_75, u216_77, u216_78, u216_81, u216_82, u216_83, u216_86, u216_89, u216_90, u216_94, u216_95, u216_97, u216_100, mw_os, wp_ite, mw_sw, Option.toList_some, Option.toList_none, List.cons_append, List.nil_append, true_and, and_true, if_true, if_false, mw_s_, mw_s_i, mw_s_r, mw_s_ii, mw_s_ir, mw_s_ri, mw_s_rr, mw_s_iii, mw_s_iir, mw_s_iri, mw_s_irr, mw_s_rii, mw_s_rir, mw_s_rri, mw_s_rrr, mw_s_iiii, mw_s_iiir, mw_s_iiri, mw_s_iirr, mw_s_irii, mw_s_irir, mw_s_irri, mw_s_irrr, mw_s_riii, mw_s_riir, mw_s_riri, mw_s_rirr, mw_s_rrii, mw_s_rrir, mw_s_rrri, mw_s_rrrr, mm_sto1, mm_clr, mm_isL, List.getElem?_cons_zero, List.getElem?_cons_succ, List.set_cons_zero, List.set_cons_succ, Bool.false_eq_true, nI_add, OA_2 ho2, d2, w183, bi_eq0, reduceCtorEq, nI_1]
                exact ih (i + 1) M2 (R.2.1, p.2.1 + R.2.2, p.2.2 + 1) (by omega) hm2.1 hm2.2.1 hm2.2.2.1 ho2 hq
          exact loop tv 0 _ (x2, 0, 0) (by omega) so_len Ag_so hC1 hO1 hQ
      · have k1 : decide ((0 : Int32) ≤ x3 ∧ x3 < 2) = false := ib_f (N := 2) hy
        have k2 : inB x3.toInt64 0 1 = false := (inB_eq x3 0 1).trans (il_f (N := 1) (by decide) hy)
        refine ⟨.int (-nI 2), gRf g 2, gRf_ok hg, fun n M Q hC hQ => ?_, fun n M Q hC hQ => ?_⟩
        · simp only [u133_0, u133_1, u133_2, u133_12, u133_13, u133_15, u133_25, u133_26, u133_27, u133_30, u133_33, u133_34, u133_36, e133, mw_os, wp_ite, mw_sw, Option.toList_some, Option.toList_none, List.cons_append, List.nil_append, true_and, and_true, if_true, if_false, mw_s_, mw_s_i, mw_s_r, mw_s_ii, mw_s_ir, mw_s_ri, mw_s_rr, mw_s_iii, mw_s_iir, mw_s_iri, mw_s_irr, mw_s_rii, mw_s_rir, mw_s_rri, mw_s_rrr, mw_s_iiii, mw_s_iiir, mw_s_iiri, mw_s_iirr, mw_s_irii, mw_s_irir, mw_s_irri, mw_s_irrr, mw_s_riii, mw_s_riir, mw_s_riri, mw_s_rirr, mw_s_rrii, mw_s_rrir, mw_s_rrri, mw_s_rrrr, m1, m2, W89, k1, bi_eq0, not_true, CS_x hC]
          refine CW84 (k := 2) hC hg (by decide) (by decide) (fun M' hl ha hc => ?_)
          simp only [u133_39, Option.toList_some, List.cons_append, List.nil_append]
          exact hQ M' hl ha hc
        · obtain ⟨o, r, hO, _, hR, hA⟩ := MSu hC
          simp only [u216_0, u216_1, u216_2, u216_3, u216_6, u216_9, u216_29, u216_30, u216_31, u216_32, u216_33, u216_36, u216_39, u216_40, u216_42, e216, mw_os, wp_ite, mw_sw, Option.toList_some, Option.toList_none, List.cons_append, List.nil_append, true_and, and_true, if_true, if_false, mw_s_, mw_s_i, mw_s_r, mw_s_ii, mw_s_ir, mw_s_ri, mw_s_rr, mw_s_iii, mw_s_iir, mw_s_iri, mw_s_irr, mw_s_rii, mw_s_rir, mw_s_rri, mw_s_rrr, mw_s_iiii, mw_s_iiir, mw_s_iiri, mw_s_iirr, mw_s_irii, mw_s_irir, mw_s_irri, mw_s_irrr, mw_s_riii, mw_s_riir, mw_s_riri, mw_s_rirr, mw_s_rrii, mw_s_rrir, mw_s_rrri, mw_s_rrrr, W146, mi, k2, bi_eq0, reduceCtorEq, not_false_eq_true, not_true, OA_x hO]
          refine MW141 (k := 2) hC hg (by decide) (by decide) (fun M' hl ha hc => ?_)
          simp only [u216_45, Option.toList_some, List.cons_append, List.nil_append]
          exact hQ M' hl ha hc
end LT2
