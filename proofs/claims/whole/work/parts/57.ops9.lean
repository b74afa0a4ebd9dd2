section JU
variable {scr : List Int32} {n : Nat} {M : mm_M} {Q : Option Value → mm_M → Prop} {g : SG} {τ τ' : QV} {s : Nat}
theorem B4_cg (h4 : ¬ qG τ = 4) (e1 : qG τ' = qG τ) (e2 : qP τ' = qP τ) (e3 : qS τ' = qS τ) : B4 g τ' = B4 g τ := by
  unfold B4
  have a1 : hR τ' (sCv (gN g).1) = hR τ (sCv (gN g).1) := by
    funext x
    unfold hR qRe
    rw [e1, if_neg h4, if_neg h4, e2, e3]
  have a2 : hC τ' = hC τ := by
    funext x
    unfold hC
    rw [e1, e3]
  rw [a1, a2]
theorem bits2 : ∀ i, i < 8 → ∀ j, j < 8 → ((1 : Int32) <<< (nI i &&& 31)) ||| ((1 : Int32) <<< (nI j &&& 31)) = nI (2 ^ i ||| 2 ^ j) := by decide +kernel
/-- the class's search with a pocket and a set -/
def gQ (τ : QV) (k m x : Int32) : QV := tS (tP (bgQ τ k) m) x
theorem gQ_ok {k m x : Int32} (h : QOK τ) : QOK (gQ τ k m x) := bgQ_ok (x := k) h
def tX (k m x : Int32) : QV := (([], []), (k, m, x, 0, 0, 0))
theorem runQ (hC : CS M g) (hg : SGOK g) (hk : QOK τ) (hq : QA M 121 τ) {k m x : Int32} (hk4 : ¬ k = 4) (hs : x = nI s) (hQ : ∀ M' T, M'.length = M.length → Ag M M' 129 143 → CS M' g → QA M' 121 T → QB T (B4 g (tX k m x)) → Q none M') : Wp scr (n + 11) 55 [.ref 121, .ref 1] (pq M 121 (gQ τ k m x)) Q := by
  refine CW55 (CS_pq hC hg (gQ_ok hk)) hg (pq_QA (QA_len hq)) (gQ_ok hk) (fun M' hl ha hC' hq' => ?_)
  refine hQ M' _ (hl.trans (pq_len ..)) (Ag_tr (Ag_pq (by omega)) ha) hC' hq' ?_
  rw [show B4 g (tX k m x) = B4 g (gQ τ k m x) from B4_cg (τ := gQ τ k m x) hk4 rfl rfl rfl]
  exact class_2 (s := s) hg hk4 hs rfl
theorem J_up (hg : SGOK g) (x1 x2 x3 x4 : Int32) : JO scr 108 193 [.int x1, .int x2, .int x3, .int x4] g := by
  have rf : ∀ (d1 : decide ((0 ≤ x1 ∧ x1 < 8) ∧ (0 ≤ x2 ∧ x2 < 8) ∧ ¬ x1 = x2) = false) (hm : decide ((0 : Int32) ≤ x1 ∧ x1 ≤ 7) = false ∨ decide ((0 : Int32) ≤ x2 ∧ x2 ≤ 7) = false ∨ x1 = x2), JO scr 108 193 [.int x1, .int x2, .int x3, .int x4] g := by
    intro d1 hm
    refine ⟨.int (-nI 1), gRf g 1, gRf_ok hg, fun n M Q hC hQ => ?_, fun n M Q hC hQ => ?_⟩
    · simp only [e108, u108_0, u108_1, u108_2, u108_5, u108_8, u108_9, u108_10, u108_14, u108_15, u108_16, u108_19, u108_20, u108_22, u108_25, u108_26, u108_27, u108_29, u108_32, u108_33, u108_35, u108_38, u108_39, u108_41, u108_42, u108_45, u108_48, u108_49, u108_51, u108_54, u108_55, u108_56, u108_59, u108_60, u108_63, u108_64, u108_67, u108_68, u108_71, u108_72, u108_75, u108_76, u108_77, u108_78, u108_79, u108_80, u108_81, u108_82, u108_85, u108_86, u108_89, u108_90, u108_93, u108_96, u108_98, u108_101, u108_102, u108_105, u108_108, u108_111, u108_112, u108_115, u108_118, mw_os, wp_ite, mw_sw, Option.toList_some, Option.toList_none, List.cons_append, List.nil_append, true_and, and_true, if_true, if_false, mw_s_, mw_s_i, mw_s_r, mw_s_ii, mw_s_ir, mw_s_ri, mw_s_rr, mw_s_iii, mw_s_iir, mw_s_iri, mw_s_irr, mw_s_rii, mw_s_rir, mw_s_rri, mw_s_rrr, mw_s_iiii, mw_s_iiir, mw_s_iiri, mw_s_iirr, mw_s_irii, mw_s_irir, mw_s_irri, mw_s_irrr, mw_s_riii, mw_s_riir, mw_s_riri, mw_s_rirr, mw_s_rrii, mw_s_rrir, mw_s_rrri, mw_s_rrrr, W104, d1, bi_eq0, CS_x hC, not_true]
      refine CW84 (k := 1) hC hg (by decide) (by decide) (fun M' hl ha hc => ?_)
      simp only [u108_13, Option.toList_some, List.cons_append, List.nil_append]
      exact hQ M' hl ha hc
    · obtain ⟨o, r, hO, _, hR, hA⟩ := MSu hC
      have key : Wp scr (n + 39) 141 [.ref 129, .int (-1)] M (fun r' M' => wp scr (n + 39) mb_193 24 [some (.ref 129), some (.int x1), some (.int x2), some (.int x3), some (.int x4)] (r'.toList ++ []) M' Q) := by
        refine MW141 (k := 1) hC hg (by decide) (by decide) (fun M' hl ha hc => ?_)
        simp only [u193_24, Option.toList_some, List.cons_append, List.nil_append]
        exact hQ M' hl ha hc
      cases e1 : decide ((0 : Int32) ≤ x1 ∧ x1 ≤ 7)
      · simp only [e193, u193_0, u193_1, u193_4, u193_7, u193_8, u193_11, u193_14, u193_15, u193_16, u193_19, u193_20, u193_21, u193_25, u193_26, u193_27, u193_28, u193_31, u193_34, u193_37, u193_38, u193_39, u193_40, u193_43, u193_45, u193_48, u193_50, u193_53, u193_54, u193_56, u193_57, u193_58, u193_59, u193_62, u193_65, u193_66, u193_68, u193_71, u193_72, u193_73, u193_74, u193_75, u193_76, u193_77, u193_78, u193_79, u193_80, u193_81, u193_82, u193_85, u193_87, u193_90, u193_91, u193_94, u193_97, u193_98, u193_101, mw_os, wp_ite, mw_sw, Option.toList_some, Option.toList_none, List.cons_append, List.nil_append, true_and, and_true, if_true, if_false, mw_s_, mw_s_i, mw_s_r, mw_s_ii, mw_s_ir, mw_s_ri, mw_s_rr, mw_s_iii, mw_s_iir, mw_s_iri, mw_s_irr, mw_s_rii, mw_s_rir, mw_s_rri, mw_s_rrr, mw_s_iiii, mw_s_iiir, mw_s_iiri, mw_s_iirr, mw_s_irii, mw_s_irir, mw_s_irri, mw_s_irrr, mw_s_riii, mw_s_riir, mw_s_riri, mw_s_rirr, mw_s_rrii, mw_s_rrir, mw_s_rrri, mw_s_rrrr, W168, e1, bi_eq0, OA_x hO]
        exact key
      · cases e2 : decide ((0 : Int32) ≤ x2 ∧ x2 ≤ 7)
        · simp only [e193, u193_0, u193_1, u193_4, u193_7, u193_8, u193_11, u193_14, u193_15, u193_16, u193_19, u193_20, u193_21, u193_25, u193_26, u193_27, u193_28, u193_31, u193_34, u193_37, u193_38, u193_39, u193_40, u193_43, u193_45, u193_48, u193_50, u193_53, u193_54, u193_56, u193_57, u193_58, u193_59, u193_62, u193_65, u193_66, u193_68, u193_71, u193_72, u193_73, u193_74, u193_75, u193_76, u193_77, u193_78, u193_79, u193_80, u193_81, u193_82, u193_85, u193_87, u193_90, u193_91, u193_94, u193_97, u193_98, u193_101, mw_os, wp_ite, mw_sw, Option.toList_some, Option.toList_none, List.cons_append, List.nil_append, true_and, and_true, if_true, if_false, mw_s_, mw_s_i, mw_s_r, mw_s_ii, mw_s_ir, mw_s_ri, mw_s_rr, mw_s_iii, mw_s_iir, mw_s_iri, mw_s_irr, mw_s_rii, mw_s_rir, mw_s_rri, mw_s_rrr, mw_s_iiii, mw_s_iiir, mw_s_iiri, mw_s_iirr, mw_s_irii, mw_s_irir, mw_s_irri, mw_s_irrr, mw_s_riii, mw_s_riir, mw_s_riri, mw_s_rirr, mw_s_rrii, mw_s_rrir, mw_s_rrri, mw_s_rrrr, W168, e1, e2, bi_eq0, OA_x hO, reduceCtorEq]
          exact key
        · rcases hm with hm | hm | hm
          · rw [e1] at hm; cases hm
          · rw [e2] at hm; cases hm
          · simp only [e193, u193_0, u193_1, u193_4, u193_7, u193_8, u193_11, u193_14, u193_15, u193_16, u193_19, u193_20, u193_21, u193_25, u193_26, u193_27, u193_28, u193_31, u193_34, u193_37, u193_38, u193_39, u193_40, u193_43, u193_45, u193_48, u193_50, u193_53, u193_54, u193_56, u193_57, u193_58, u193_59, u193_62, u193_65, u193_66, u193_68, u193_71, u193_72, u193_73, u193_74, u193_75, u193_76, u193_77, u193_78, u193_79, u193_80, u193_81, u193_82, u193_85, u193_87, u193_90, u193_91, u193_94, u193_97, u193_98, u193_101, mw_os, wp_ite, mw_sw, Option.toList_some, Option.toList_none, List.cons_append, List.nil_append, true_and, and_true, if_true, if_false, mw_s_, mw_s_i, mw_s_r, mw_s_ii, mw_s_ir, mw_s_ri, mw_s_rr, mw_s_iii, mw_s_iir, mw_s_iri, mw_s_irr, mw_s_rii, mw_s_rir, mw_s_rri, mw_s_rrr, mw_s_iiii, mw_s_iiir, mw_s_iiri, mw_s_iirr, mw_s_irii, mw_s_irir, mw_s_irri, mw_s_irrr, mw_s_riii, mw_s_riir, mw_s_riri, mw_s_rirr, mw_s_rrii, mw_s_rrir, mw_s_rrri, mw_s_rrrr, W168, e1, e2, bi_eq0, OA_x hO, reduceCtorEq, hm, not_true]
            subst hm
            exact key
  rcases ixc x1 (N := 8) (by decide) with ⟨i, hi, rfl⟩ | hx
  · rcases ixc x2 (N := 8) (by decide) with ⟨j, hj, rfl⟩ | hy
    · have a1 : (0 : Int32) ≤ nI i ∧ nI i < 8 := of_decide_eq_true (ib_t (N := 8) hi (by decide))
      have a2 : (0 : Int32) ≤ nI j ∧ nI j < 8 := of_decide_eq_true (ib_t (N := 8) hj (by decide))
      by_cases hij : i = j
      · subst hij
        exact rf (decide_eq_false (fun z => z.2.2 rfl)) (Or.inr (Or.inr rfl))
      · have hne : ¬ nI i = nI j := fun z => hij ((nI_eq8 hi hj).mp z)
        have d1 : decide ((0 ≤ nI i ∧ nI i < 8) ∧ (0 ≤ nI j ∧ nI j < 8) ∧ ¬ nI i = nI j) = true := decide_eq_true ⟨a1, a2, hne⟩
        have b1 : decide ((0 : Int32) ≤ nI i ∧ nI i ≤ 7) = true := il_t (N := 7) hi (by decide)
        have b2 : decide ((0 : Int32) ≤ nI j ∧ nI j ≤ 7) = true := il_t (N := 7) hj (by decide)
        by_cases hm1 : x3 < 1
        · have m1 : ((1 : Int32) ≤ x3) ↔ False := iff_false_intro (fun z => Int32.not_lt.mpr z hm1)
          have mi : inB x3.toInt64 1 8 = false := (inB_eq x3 1 8).trans (decide_eq_false (fun z => Int32.not_lt.mpr z.1 hm1))
          refine ⟨.int (-nI 4), gRf g 4, gRf_ok hg, fun n M Q hC hQ => ?_, fun n M Q hC hQ => ?_⟩
          · simp only [e108, u108_0, u108_1, u108_2, u108_5, u108_8, u108_9, u108_10, u108_13, u108_14, u108_15, u108_16, u108_19, u108_20, u108_22, u108_26, u108_27, u108_29, u108_32, u108_33, u108_35, u108_38, u108_39, u108_41, u108_42, u108_45, u108_48, u108_49, u108_51, u108_54, u108_55, u108_56, u108_59, u108_60, u108_63, u108_64, u108_67, u108_68, u108_71, u108_72, u108_75, u108_76, u108_77, u108_78, u108_79, u108_80, u108_81, u108_82, u108_85, u108_86, u108_89, u108_90, u108_93, u108_96, u108_98, u108_101, u108_102, u108_105, u108_108, u108_111, u108_112, u108_115, u108_118, mw_os, wp_ite, mw_sw, Option.toList_some, Option.toList_none, List.cons_append, List.nil_append, true_and, and_true, if_true, if_false, mw_s_, mw_s_i, mw_s_r, mw_s_ii, mw_s_ir, mw_s_ri, mw_s_rr, mw_s_iii, mw_s_iir, mw_s_iri, mw_s_irr, mw_s_rii, mw_s_rir, mw_s_rri, mw_s_rrr, mw_s_iiii, mw_s_iiir, mw_s_iiri, mw_s_iirr, mw_s_irii, mw_s_irir, mw_s_irri, mw_s_irrr, mw_s_riii, mw_s_riir, mw_s_riri, mw_s_rirr, mw_s_rrii, mw_s_rrir, mw_s_rrri, mw_s_rrrr, W104, d1, bi_eq0, reduceCtorEq, not_false_eq_true, CS_x hC, m1, hm1]
            refine CW84 (k := 4) hC hg (by decide) (by decide) (fun M' hl ha hc => ?_)
            simp only [u108_25, Option.toList_some, List.cons_append, List.nil_append]
            exact hQ M' hl ha hc
          · obtain ⟨o, r, hO, _, hR, hA⟩ := MSu hC
            simp only [e193, u193_0, u193_1, u193_4, u193_7, u193_8, u193_11, u193_14, u193_15, u193_16, u193_19, u193_20, u193_21, u193_24, u193_25, u193_26, u193_27, u193_28, u193_31, u193_34, u193_37, u193_38, u193_39, u193_40, u193_43, u193_45, u193_48, u193_50, u193_54, u193_56, u193_57, u193_58, u193_59, u193_62, u193_65, u193_66, u193_68, u193_71, u193_72, u193_73, u193_74, u193_75, u193_76, u193_77, u193_78, u193_79, u193_80, u193_81, u193_82, u193_85, u193_87, u193_90, u193_91, u193_94, u193_97, u193_98, u193_101, mw_os, wp_ite, mw_sw, Option.toList_some, Option.toList_none, List.cons_append, List.nil_append, true_and, and_true, if_true, if_false, mw_s_, mw_s_i, mw_s_r, mw_s_ii, mw_s_ir, mw_s_ri, mw_s_rr, mw_s_iii, mw_s_iir, mw_s_iri, mw_s_irr, mw_s_rii, mw_s_rir, mw_s_rri, mw_s_rrr, mw_s_iiii, mw_s_iiir, mw_s_iiri, mw_s_iirr, mw_s_irii, mw_s_irir, mw_s_irri, mw_s_irrr, mw_s_riii, mw_s_riir, mw_s_riri, mw_s_rirr, mw_s_rrii, mw_s_rrir, mw_s_rrri, mw_s_rrrr, W168, b1, b2, bi_eq0, reduceCtorEq, not_false_eq_true, hne, W146, mi, OA_x hO, m1, hm1, not_true]
            refine MW141 (k := 4) hC hg (by decide) (by decide) (fun M' hl ha hc => ?_)
            simp only [u193_53, Option.toList_some, List.cons_append, List.nil_append]
            exact hQ M' hl ha hc
        · have m1 : ((1 : Int32) ≤ x3) ↔ True := iff_true_intro (Int32.not_lt.mp hm1)
          by_cases hm8 : 8 < x3
          · have m8 : (x3 ≤ 8) ↔ False := iff_false_intro (fun z => Int32.not_lt.mpr z hm8)
            have mi : inB x3.toInt64 1 8 = false := (inB_eq x3 1 8).trans (decide_eq_false (fun z => Int32.not_lt.mpr z.2 hm8))
            refine ⟨.int (-nI 6), gRf g 6, gRf_ok hg, fun n M Q hC hQ => ?_, fun n M Q hC hQ => ?_⟩
            · simp only [e108, u108_0, u108_1, u108_2, u108_5, u108_8, u108_9, u108_10, u108_13, u108_14, u108_15, u108_16, u108_19, u108_20, u108_22, u108_25, u108_26, u108_27, u108_29, u108_32, u108_33, u108_35, u108_39, u108_41, u108_42, u108_45, u108_48, u108_49, u108_51, u108_54, u108_55, u108_56, u108_59, u108_60, u108_63, u108_64, u108_67, u108_68, u108_71, u108_72, u108_75, u108_76, u108_77, u108_78, u108_79, u108_80, u108_81, u108_82, u108_85, u108_86, u108_89, u108_90, u108_93, u108_96, u108_98, u108_101, u108_102, u108_105, u108_108, u108_111, u108_112, u108_115, u108_118, mw_os, wp_ite, mw_sw, Option.toList_some, Option.toList_none, List.cons_append, List.nil_append, true_and, and_true, if_true, if_false, mw_s_, mw_s_i, mw_s_r, mw_s_ii, mw_s_ir, mw_s_ri, mw_s_rr, mw_s_iii, mw_s_iir, mw_s_iri, mw_s_irr, mw_s_rii, mw_s_rir, mw_s_rri, mw_s_rrr, mw_s_iiii, mw_s_iiir, mw_s_iiri, mw_s_iirr, mw_s_irii, mw_s_irir, mw_s_irri, mw_s_irrr, mw_s_riii, mw_s_riir, mw_s_riri, mw_s_rirr, mw_s_rrii, mw_s_rrir, mw_s_rrri, mw_s_rrrr, W104, d1, bi_eq0, reduceCtorEq, not_false_eq_true, CS_x hC, m1, hm1, m8, hm8]
              refine CW84 (k := 6) hC hg (by decide) (by decide) (fun M' hl ha hc => ?_)
              simp only [u108_38, Option.toList_some, List.cons_append, List.nil_append]
              exact hQ M' hl ha hc
            · obtain ⟨o, r, hO, _, hR, hA⟩ := MSu hC
              simp only [e193, u193_0, u193_1, u193_4, u193_7, u193_8, u193_11, u193_14, u193_15, u193_16, u193_19, u193_20, u193_21, u193_24, u193_25, u193_26, u193_27, u193_28, u193_31, u193_34, u193_37, u193_38, u193_39, u193_40, u193_43, u193_45, u193_48, u193_50, u193_54, u193_56, u193_57, u193_58, u193_59, u193_62, u193_65, u193_66, u193_68, u193_71, u193_72, u193_73, u193_74, u193_75, u193_76, u193_77, u193_78, u193_79, u193_80, u193_81, u193_82, u193_85, u193_87, u193_90, u193_91, u193_94, u193_97, u193_98, u193_101, mw_os, wp_ite, mw_sw, Option.toList_some, Option.toList_none, List.cons_append, List.nil_append, true_and, and_true, if_true, if_false, mw_s_, mw_s_i, mw_s_r, mw_s_ii, mw_s_ir, mw_s_ri, mw_s_rr, mw_s_iii, mw_s_iir, mw_s_iri, mw_s_irr, mw_s_rii, mw_s_rir, mw_s_rri, mw_s_rrr, mw_s_iiii, mw_s_iiir, mw_s_iiri, mw_s_iirr, mw_s_irii, mw_s_irir, mw_s_irri, mw_s_irrr, mw_s_riii, mw_s_riir, mw_s_riri, mw_s_rirr, mw_s_rrii, mw_s_rrir, mw_s_rrri, mw_s_rrrr, W168, b1, b2, bi_eq0, reduceCtorEq, not_false_eq_true, hne, W146, mi, OA_x hO, m1, hm1, not_true]
              refine MW141 (k := 6) hC hg (by decide) (by decide) (fun M' hl ha hc => ?_)
              simp only [u193_53, Option.toList_some, List.cons_append, List.nil_append]
              exact hQ M' hl ha hc
          · have m8 : (x3 ≤ 8) ↔ True := iff_true_intro (Int32.not_lt.mp hm8)
            have mi : inB x3.toInt64 1 8 = true := (inB_eq x3 1 8).trans (decide_eq_true ⟨Int32.not_lt.mp hm1, Int32.not_lt.mp hm8⟩)
            rcases two x4 with h2 | hy
            · have k1 : decide ((0 : Int32) ≤ x4 ∧ x4 < 2) = true := by rcases h2 with rfl | rfl <;> decide
              have k2 : inB x4.toInt64 0 1 = true := (inB_eq x4 0 1).trans (by rcases h2 with rfl | rfl <;> decide)
              have hb2 := bits2 i hi j hj
              refine ⟨.int (if x4 = 0 then wyV (B4 g (tX 2 x3 (nI (2 ^ i ||| 2 ^ j)))) else csV (B4 g (tX 2 x3 (nI (2 ^ i ||| 2 ^ j))))), g, hg, fun n M Q hC hQ => ?_, fun n M Q hC hQ => ?_⟩
              · obtain ⟨τ, hk, hq⟩ := CQ hC
                have hM := QA_len hq
                have hC1 : CS (pq M 121 (bgQ τ 2)) g := CS_pq hC hg (bgQ_ok hk)
                have hC2 : CS (pq M 121 (tP (bgQ τ 2) x3)) g := CS_pq hC hg (bgQ_ok (x := 2) hk)
                have hC3 : CS (pq M 121 (gQ τ 2 x3 (nI (2 ^ i ||| 2 ^ j)))) g := CS_pq hC hg (gQ_ok hk)
                have p1 : mm_put mc_fty (pq M 121 (bgQ τ 2)) (.ref 121) (.int x3) 3 3 = some (pq M 121 (tP (bgQ τ 2) x3)) := pq_puP hM
                have p2 : mm_put mc_fty (pq M 121 (tP (bgQ τ 2) x3)) (.ref 121) (.int (nI (2 ^ i ||| 2 ^ j))) 3 4 = some (pq M 121 (gQ τ 2 x3 (nI (2 ^ i ||| 2 ^ j)))) := pq_puS hM
                have hq3 : QA (pq M 121 (gQ τ 2 x3 (nI (2 ^ i ||| 2 ^ j)))) 121 (gQ τ 2 x3 (nI (2 ^ i ||| 2 ^ j))) := pq_QA hM
                simp only [u108_0, u108_1, u108_2, u108_5, u108_14, u108_15, u108_16, u108_26, u108_27, u108_29, u108_39, u108_41, u108_42, u108_45, u108_55, u108_56, u108_59, u108_60, u108_63, u108_64, u108_67, u108_68, u108_71, u108_72, u108_75, u108_76, u108_77, u108_78, u108_79, u108_80, u108_81, u108_82, u108_85, u108_86, u108_89, u108_90, u108_93, e108, mw_os, wp_ite, mw_sw, Option.toList_some, Option.toList_none, List.cons_append, List.nil_append, true_and, and_true, if_true, if_false, mw_s_, mw_s_i, mw_s_r, mw_s_ii, mw_s_ir, mw_s_ri, mw_s_rr, mw_s_iii, mw_s_iir, mw_s_iri, mw_s_irr, mw_s_rii, mw_s_rir, mw_s_rri, mw_s_rrr, mw_s_iiii, mw_s_iiir, mw_s_iiri, mw_s_iirr, mw_s_irii, mw_s_irir, mw_s_irri, mw_s_irrr, mw_s_riii, mw_s_riir, mw_s_riri, mw_s_rirr, mw_s_rrii, mw_s_rrir, mw_s_rrri, mw_s_rrrr, mm_sto1, mm_clr, mm_isL, List.getElem?_cons_zero, List.getElem?_cons_succ, List.set_cons_zero, List.set_cons_succ, Bool.false_eq_true, W104, d1, bi_eq0, reduceCtorEq, not_false_eq_true, m1, hm1, m8, hm8, W89, k1, CS_3 hC, QA_x hq, W54 hq hk, CS_3 hC1, p1, CS_3 hC2, hb2, p2, CS_3 hC3, CS_0 hC3, QA_x hq3]
                refine runQ (n := n + 28) hC hg hk hq (by decide) rfl (fun M' T hl ha hC' hq' hb => ?_)
                have hQ' := hQ M' hl ha hC'
                simp only [u108_96, u108_98, u108_101, u108_102, u108_105, u108_108, u108_111, u108_112, u108_115, u108_118, mw_os, wp_ite, mw_sw, Option.toList_some, Option.toList_none, List.cons_append, List.nil_append, true_and, and_true, if_true, if_false, mw_s_, mw_s_i, mw_s_r, mw_s_ii, mw_s_ir, mw_s_ri, mw_s_rr, mw_s_iii, mw_s_iir, mw_s_iri, mw_s_irr, mw_s_rii, mw_s_rir, mw_s_rri, mw_s_rrr, mw_s_iiii, mw_s_iiir, mw_s_iiri, mw_s_iirr, mw_s_irii, mw_s_irir, mw_s_irri, mw_s_irrr, mw_s_riii, mw_s_riir, mw_s_riri, mw_s_rirr, mw_s_rrii, mw_s_rrir, mw_s_rrri, mw_s_rrrr, mm_sto1, mm_clr, mm_isL, List.getElem?_cons_zero, List.getElem?_cons_succ, List.set_cons_zero, List.set_cons_succ, Bool.false_eq_true, CS_3 hC', QA_x hq', W63 hq', W64 hq', QB_way hb, QB_cost hb]
                rcases h2 with rfl | rfl <;> exact hQ'
              · obtain ⟨o, r, hO, _, hR', hA⟩ := MSu hC
                simp only [u193_0, u193_1, u193_4, u193_7, u193_8, u193_11, u193_14, u193_15, u193_16, u193_25, u193_26, u193_27, u193_28, u193_31, u193_34, u193_54, u193_56, u193_57, u193_58, u193_59, u193_62, u193_72, u193_73, u193_74, u193_75, u193_76, u193_77, u193_78, u193_79, u193_80, u193_81, u193_82, e193, mw_os, wp_ite, mw_sw, Option.toList_some, Option.toList_none, List.cons_append, List.nil_append, true_and, and_true, if_true, if_false, mw_s_, mw_s_i, mw_s_r, mw_s_ii, mw_s_ir, mw_s_ri, mw_s_rr, mw_s_iii, mw_s_iir, mw_s_iri, mw_s_irr, mw_s_rii, mw_s_rir, mw_s_rri, mw_s_rrr, mw_s_iiii, mw_s_iiir, mw_s_iiri, mw_s_iirr, mw_s_irii, mw_s_irir, mw_s_irri, mw_s_irrr, mw_s_riii, mw_s_riir, mw_s_riri, mw_s_rirr, mw_s_rrii, mw_s_rrir, mw_s_rrri, mw_s_rrrr, mm_sto1, mm_clr, mm_isL, List.getElem?_cons_zero, List.getElem?_cons_succ, List.set_cons_zero, List.set_cons_succ, Bool.false_eq_true, W168, b1, b2, bi_eq0, reduceCtorEq, not_false_eq_true, hne, W146, mi, k2, hb2, OA_x hO]
                refine W186 (n := n + 26) hg (Or.inr (Or.inr (Or.inl rfl))) hC (fun M' z9 hl ha hC' hO' => ?_)
                have r0 := ref_2 (τ := tX 2 x3 (nI (2 ^ i ||| 2 ^ j))) hg rfl
                have m1 := MB_way r0
                have m2 := MB_cost r0
                change ((nds q4 (gN g).1 4 0 0 0 (gU g)).foldl (mV 2 (nI (2 ^ i ||| 2 ^ j)) x3 (sCv (gN g).1) (gT g)) (-9, -9, -9, 0)).1 = _ at m1
                change ((nds q4 (gN g).1 4 0 0 0 (gU g)).foldl (mV 2 (nI (2 ^ i ||| 2 ^ j)) x3 (sCv (gN g).1) (gT g)) (-9, -9, -9, 0)).2.1 = _ at m2
                generalize (nds q4 (gN g).1 4 0 0 0 (gU g)).foldl (mV 2 (nI (2 ^ i ||| 2 ^ j)) x3 (sCv (gN g).1) (gT g)) (-9, -9, -9, 0) = σ at hO' m1 m2
                have f14 : mm_fld (mc_X scr) M' (.ref 129) 6 14 = some (.int σ.1) := OA_14 hO'
                have f15 : mm_fld (mc_X scr) M' (.ref 129) 6 15 = some (.int σ.2.1) := OA_15 hO'
                have hQ' := hQ M' hl ha hC'
                simp only [u193_85, u193_87, u193_90, u193_91, u193_94, u193_97, u193_98, u193_101, mw_os, wp_ite, mw_sw, Option.toList_some, Option.toList_none, List.cons_append, List.nil_append, true_and, and_true, if_true, if_false, mw_s_, mw_s_i, mw_s_r, mw_s_ii, mw_s_ir, mw_s_ri, mw_s_rr, mw_s_iii, mw_s_iir, mw_s_iri, mw_s_irr, mw_s_rii, mw_s_rir, mw_s_rri, mw_s_rrr, mw_s_iiii, mw_s_iiir, mw_s_iiri, mw_s_iirr, mw_s_irii, mw_s_irir, mw_s_irri, mw_s_irrr, mw_s_riii, mw_s_riir, mw_s_riri, mw_s_rirr, mw_s_rrii, mw_s_rrir, mw_s_rrri, mw_s_rrrr, mm_sto1, mm_clr, mm_isL, List.getElem?_cons_zero, List.getElem?_cons_succ, List.set_cons_zero, List.set_cons_succ, Bool.false_eq_true, f14, f15, m1, m2]
                rcases h2 with rfl | rfl <;> exact hQ'
            · have k1 : decide ((0 : Int32) ≤ x4 ∧ x4 < 2) = false := ib_f (N := 2) hy
              have k2 : inB x4.toInt64 0 1 = false := (inB_eq x4 0 1).trans (il_f (N := 1) (by decide) hy)
              refine ⟨.int (-nI 2), gRf g 2, gRf_ok hg, fun n M Q hC hQ => ?_, fun n M Q hC hQ => ?_⟩
              · simp only [e108, u108_0, u108_1, u108_2, u108_5, u108_8, u108_9, u108_10, u108_13, u108_14, u108_15, u108_16, u108_19, u108_20, u108_22, u108_25, u108_26, u108_27, u108_29, u108_32, u108_33, u108_35, u108_38, u108_39, u108_41, u108_42, u108_45, u108_48, u108_49, u108_51, u108_55, u108_56, u108_59, u108_60, u108_63, u108_64, u108_67, u108_68, u108_71, u108_72, u108_75, u108_76, u108_77, u108_78, u108_79, u108_80, u108_81, u108_82, u108_85, u108_86, u108_89, u108_90, u108_93, u108_96, u108_98, u108_101, u108_102, u108_105, u108_108, u108_111, u108_112, u108_115, u108_118, mw_os, wp_ite, mw_sw, Option.toList_some, Option.toList_none, List.cons_append, List.nil_append, true_and, and_true, if_true, if_false, mw_s_, mw_s_i, mw_s_r, mw_s_ii, mw_s_ir, mw_s_ri, mw_s_rr, mw_s_iii, mw_s_iir, mw_s_iri, mw_s_irr, mw_s_rii, mw_s_rir, mw_s_rri, mw_s_rrr, mw_s_iiii, mw_s_iiir, mw_s_iiri, mw_s_iirr, mw_s_irii, mw_s_irir, mw_s_irri, mw_s_irrr, mw_s_riii, mw_s_riir, mw_s_riri, mw_s_rirr, mw_s_rrii, mw_s_rrir, mw_s_rrri, mw_s_rrrr, W104, d1, bi_eq0, reduceCtorEq, not_false_eq_true, CS_x hC, m1, hm1, m8, hm8, W89, k1, not_true]
                refine CW84 (k := 2) hC hg (by decide) (by decide) (fun M' hl ha hc => ?_)
                simp only [u108_54, Option.toList_some, List.cons_append, List.nil_append]
                exact hQ M' hl ha hc
              · obtain ⟨o, r, hO, _, hR, hA⟩ := MSu hC
                simp only [e193, u193_0, u193_1, u193_4, u193_7, u193_8, u193_11, u193_14, u193_15, u193_16, u193_19, u193_20, u193_21, u193_24, u193_25, u193_26, u193_27, u193_28, u193_31, u193_34, u193_37, u193_38, u193_39, u193_40, u193_43, u193_45, u193_48, u193_50, u193_53, u193_54, u193_56, u193_57, u193_58, u193_59, u193_62, u193_65, u193_66, u193_68, u193_72, u193_73, u193_74, u193_75, u193_76, u193_77, u193_78, u193_79, u193_80, u193_81, u193_82, u193_85, u193_87, u193_90, u193_91, u193_94, u193_97, u193_98, u193_101, mw_os, wp_ite, mw_sw, Option.toList_some, Option.toList_none, List.cons_append, List.nil_append, true_and, and_true, if_true, if_false, mw_s_, mw_s_i, mw_s_r, mw_s_ii, mw_s_ir, mw_s_ri, mw_s_rr, mw_s_iii, mw_s_iir, mw_s_iri, mw_s_irr, mw_s_rii, mw_s_rir, mw_s_rri, mw_s_rrr, mw_s_iiii, mw_s_iiir, mw_s_iiri, mw_s_iirr, mw_s_irii, mw_s_irir, mw_s_irri, mw_s_irrr, mw_s_riii, mw_s_riir, mw_s_riri, mw_s_rirr, mw_s_rrii, mw_s_rrir, mw_s_rrri, mw_s_rrrr, W168, b1, b2, bi_eq0, reduceCtorEq, not_false_eq_true, hne, W146, mi, k2, OA_x hO, not_true]
                refine MW141 (k := 2) hC hg (by decide) (by decide) (fun M' hl ha hc => ?_)
                simp only [u193_71, Option.toList_some, List.cons_append, List.nil_append]
                exact hQ M' hl ha hc
    · exact rf (decide_eq_false (fun z => hy z.2.1)) (Or.inr (Or.inl (il_f (N := 7) (by decide) hy)))
  · exact rf (decide_eq_false (fun z => hx z.1)) (Or.inl (il_f (N := 7) (by decide) hx))
def msV (b : Option (Nat × Nat)) : Int32 := match b with
  | none => -9
  | some p => 8 - nI p.1
theorem J_most (hg : SGOK g) (x1 x2 x3 : Int32) : JO scr 109 194 [.int x1, .int x2, .int x3] g := by
  have z9 : ((1 : Int32) = 0) ↔ False := by decide
  have z01 : ((0 : Int32) = 1) ↔ False := by decide
  by_cases hlow : x1 < 0 ∨ x2 < 1
  · refine ⟨.int (-nI 4), gRf g 4, gRf_ok hg, fun n M Q hC hQ => ?_, fun n M Q hC hQ => ?_⟩
    · have key : Wp scr (n + 39) 84 [.ref 0, .int (-4)] M (fun r' M' => wp scr (n + 39) mb_109 15 [some (.ref 0), some (.int x1), some (.int x2), some (.int x3)] (r'.toList ++ []) M' Q) := by
        refine CW84 (k := 4) hC hg (by decide) (by decide) (fun M' hl ha hc => ?_)
        simp only [u109_15, Option.toList_some, List.cons_append, List.nil_append]
        exact hQ M' hl ha hc
      by_cases h1 : x1 < 0
      · simp only [e109, u109_0, u109_1, u109_4, u109_5, u109_6, u109_9, u109_10, u109_12, u109_16, u109_17, u109_20, u109_23, u109_24, u109_26, u109_29, u109_30, u109_32, u109_35, u109_36, u109_37, u109_38, u109_41, u109_44, u109_45, u109_47, u109_50, u109_51, u109_52, u109_55, u109_56, u109_59, u109_60, u109_63, u109_64, u109_67, u109_68, u109_71, u109_72, u109_75, u109_76, u109_79, u109_80, u109_83, u109_86, u109_87, u109_88, u109_91, u109_92, u109_95, u109_98, u109_101, u109_102, u109_105, u109_108, u109_109, u109_111, u109_112, u109_115, u109_118, u109_119, mw_os, wp_ite, mw_sw, Option.toList_some, Option.toList_none, List.cons_append, List.nil_append, true_and, and_true, if_true, if_false, mw_s_, mw_s_i, mw_s_r, mw_s_ii, mw_s_ir, mw_s_ri, mw_s_rr, mw_s_iii, mw_s_iir, mw_s_iri, mw_s_irr, mw_s_rii, mw_s_rir, mw_s_rri, mw_s_rrr, mw_s_iiii, mw_s_iiir, mw_s_iiri, mw_s_iirr, mw_s_irii, mw_s_irir, mw_s_irri, mw_s_irrr, mw_s_riii, mw_s_riir, mw_s_riri, mw_s_rirr, mw_s_rrii, mw_s_rrir, mw_s_rrri, mw_s_rrrr, CS_x hC, h1]
        exact key
      · have h2 : x2 < 1 := hlow.resolve_left h1
        have h3 : ((1 : Int32) ≤ x2) ↔ False := iff_false_intro (fun z => Int32.not_lt.mpr z h2)
        simp only [e109, u109_0, u109_1, u109_4, u109_5, u109_6, u109_9, u109_10, u109_12, u109_16, u109_17, u109_20, u109_23, u109_24, u109_26, u109_29, u109_30, u109_32, u109_35, u109_36, u109_37, u109_38, u109_41, u109_44, u109_45, u109_47, u109_50, u109_51, u109_52, u109_55, u109_56, u109_59, u109_60, u109_63, u109_64, u109_67, u109_68, u109_71, u109_72, u109_75, u109_76, u109_79, u109_80, u109_83, u109_86, u109_87, u109_88, u109_91, u109_92, u109_95, u109_98, u109_101, u109_102, u109_105, u109_108, u109_109, u109_111, u109_112, u109_115, u109_118, u109_119, mw_os, wp_ite, mw_sw, Option.toList_some, Option.toList_none, List.cons_append, List.nil_append, true_and, and_true, if_true, if_false, mw_s_, mw_s_i, mw_s_r, mw_s_ii, mw_s_ir, mw_s_ri, mw_s_rr, mw_s_iii, mw_s_iir, mw_s_iri, mw_s_irr, mw_s_rii, mw_s_rir, mw_s_rri, mw_s_rrr, mw_s_iiii, mw_s_iiir, mw_s_iiri, mw_s_iirr, mw_s_irii, mw_s_irir, mw_s_irri, mw_s_irrr, mw_s_riii, mw_s_riir, mw_s_riri, mw_s_rirr, mw_s_rrii, mw_s_rrir, mw_s_rrri, mw_s_rrrr, CS_x hC, h1, h2, h3]
        exact key
    · obtain ⟨o, r, hO, _, hR, hA⟩ := MSu hC
      have key : Wp scr (n + 39) 141 [.ref 129, .int (-4)] M (fun r' M' => wp scr (n + 39) mb_194 15 [some (.ref 129), some (.int x1), some (.int x2), some (.int x3)] (r'.toList ++ []) M' Q) := by
        refine MW141 (k := 4) hC hg (by decide) (by decide) (fun M' hl ha hc => ?_)
        simp only [u194_15, Option.toList_some, List.cons_append, List.nil_append]
        exact hQ M' hl ha hc
      by_cases h1 : x1 < 0
      · simp only [e194, u194_0, u194_1, u194_4, u194_5, u194_6, u194_9, u194_10, u194_12, u194_16, u194_17, u194_20, u194_23, u194_24, u194_26, u194_29, u194_30, u194_32, u194_35, u194_36, u194_37, u194_38, u194_39, u194_40, u194_43, u194_46, u194_47, u194_49, u194_52, u194_53, u194_54, u194_55, u194_56, u194_57, u194_60, u194_61, u194_62, u194_65, u194_66, u194_69, u194_71, u194_74, u194_75, u194_78, u194_81, u194_82, u194_85, u194_86, mw_os, wp_ite, mw_sw, Option.toList_some, Option.toList_none, List.cons_append, List.nil_append, true_and, and_true, if_true, if_false, mw_s_, mw_s_i, mw_s_r, mw_s_ii, mw_s_ir, mw_s_ri, mw_s_rr, mw_s_iii, mw_s_iir, mw_s_iri, mw_s_irr, mw_s_rii, mw_s_rir, mw_s_rri, mw_s_rrr, mw_s_iiii, mw_s_iiir, mw_s_iiri, mw_s_iirr, mw_s_irii, mw_s_irir, mw_s_irri, mw_s_irrr, mw_s_riii, mw_s_riir, mw_s_riri, mw_s_rirr, mw_s_rrii, mw_s_rrir, mw_s_rrri, mw_s_rrrr, OA_x hO, h1]
        exact key
      · have h2 : x2 < 1 := hlow.resolve_left h1
        have h3 : ((1 : Int32) ≤ x2) ↔ False := iff_false_intro (fun z => Int32.not_lt.mpr z h2)
        simp only [e194, u194_0, u194_1, u194_4, u194_5, u194_6, u194_9, u194_10, u194_12, u194_16, u194_17, u194_20, u194_23, u194_24, u194_26, u194_29, u194_30, u194_32, u194_35, u194_36, u194_37, u194_38, u194_39, u194_40, u194_43, u194_46, u194_47, u194_49, u194_52, u194_53, u194_54, u194_55, u194_56, u194_57, u194_60, u194_61, u194_62, u194_65, u194_66, u194_69, u194_71, u194_74, u194_75, u194_78, u194_81, u194_82, u194_85, u194_86, mw_os, wp_ite, mw_sw, Option.toList_some, Option.toList_none, List.cons_append, List.nil_append, true_and, and_true, if_true, if_false, mw_s_, mw_s_i, mw_s_r, mw_s_ii, mw_s_ir, mw_s_ri, mw_s_rr, mw_s_iii, mw_s_iir, mw_s_iri, mw_s_irr, mw_s_rii, mw_s_rir, mw_s_rri, mw_s_rrr, mw_s_iiii, mw_s_iiir, mw_s_iiri, mw_s_iirr, mw_s_irii, mw_s_irir, mw_s_irri, mw_s_irrr, mw_s_riii, mw_s_riir, mw_s_riri, mw_s_rirr, mw_s_rrii, mw_s_rrir, mw_s_rrri, mw_s_rrrr, OA_x hO, h1, h2, h3]
        exact key
  · have l1 : ¬ x1 < 0 := fun z => hlow (Or.inl z)
    have l2 : ¬ x2 < 1 := fun z => hlow (Or.inr z)
    have l3 : ((1 : Int32) ≤ x2) ↔ True := iff_true_intro (Int32.not_lt.mp l2)
    by_cases hhi : 255 < x1 ∨ 8 < x2
    · refine ⟨.int (-nI 6), gRf g 6, gRf_ok hg, fun n M Q hC hQ => ?_, fun n M Q hC hQ => ?_⟩
      · have key : Wp scr (n + 39) 84 [.ref 0, .int (-6)] M (fun r' M' => wp scr (n + 39) mb_109 35 [some (.ref 0), some (.int x1), some (.int x2), some (.int x3)] (r'.toList ++ []) M' Q) := by
          refine CW84 (k := 6) hC hg (by decide) (by decide) (fun M' hl ha hc => ?_)
          simp only [u109_35, Option.toList_some, List.cons_append, List.nil_append]
          exact hQ M' hl ha hc
        by_cases h1 : 255 < x1
        · simp only [e109, u109_0, u109_1, u109_4, u109_5, u109_6, u109_9, u109_10, u109_12, u109_15, u109_16, u109_17, u109_20, u109_23, u109_24, u109_26, u109_29, u109_30, u109_32, u109_36, u109_37, u109_38, u109_41, u109_44, u109_45, u109_47, u109_50, u109_51, u109_52, u109_55, u109_56, u109_59, u109_60, u109_63, u109_64, u109_67, u109_68, u109_71, u109_72, u109_75, u109_76, u109_79, u109_80, u109_83, u109_86, u109_87, u109_88, u109_91, u109_92, u109_95, u109_98, u109_101, u109_102, u109_105, u109_108, u109_109, u109_111, u109_112, u109_115, u109_118, u109_119, mw_os, wp_ite, mw_sw, Option.toList_some, Option.toList_none, List.cons_append, List.nil_append, true_and, and_true, if_true, if_false, mw_s_, mw_s_i, mw_s_r, mw_s_ii, mw_s_ir, mw_s_ri, mw_s_rr, mw_s_iii, mw_s_iir, mw_s_iri, mw_s_irr, mw_s_rii, mw_s_rir, mw_s_rri, mw_s_rrr, mw_s_iiii, mw_s_iiir, mw_s_iiri, mw_s_iirr, mw_s_irii, mw_s_irir, mw_s_irri, mw_s_irrr, mw_s_riii, mw_s_riir, mw_s_riri, mw_s_rirr, mw_s_rrii, mw_s_rrir, mw_s_rrri, mw_s_rrrr, CS_x hC, l1, l2, l3, h1]
          exact key
        · have h2 : 8 < x2 := hhi.resolve_left h1
          have h3 : (x2 ≤ 8) ↔ False := iff_false_intro (fun z => Int32.not_lt.mpr z h2)
          simp only [e109, u109_0, u109_1, u109_4, u109_5, u109_6, u109_9, u109_10, u109_12, u109_15, u109_16, u109_17, u109_20, u109_23, u109_24, u109_26, u109_29, u109_30, u109_32, u109_36, u109_37, u109_38, u109_41, u109_44, u109_45, u109_47, u109_50, u109_51, u109_52, u109_55, u109_56, u109_59, u109_60, u109_63, u109_64, u109_67, u109_68, u109_71, u109_72, u109_75, u109_76, u109_79, u109_80, u109_83, u109_86, u109_87, u109_88, u109_91, u109_92, u109_95, u109_98, u109_101, u109_102, u109_105, u109_108, u109_109, u109_111, u109_112, u109_115, u109_118, u109_119, mw_os, wp_ite, mw_sw, Option.toList_some, Option.toList_none, List.cons_append, List.nil_append, true_and, and_true, if_true, if_false, mw_s_, mw_s_i, mw_s_r, mw_s_ii, mw_s_ir, mw_s_ri, mw_s_rr, mw_s_iii, mw_s_iir, mw_s_iri, mw_s_irr, mw_s_rii, mw_s_rir, mw_s_rri, mw_s_rrr, mw_s_iiii, mw_s_iiir, mw_s_iiri, mw_s_iirr, mw_s_irii, mw_s_irir, mw_s_irri, mw_s_irrr, mw_s_riii, mw_s_riir, mw_s_riri, mw_s_rirr, mw_s_rrii, mw_s_rrir, mw_s_rrri, mw_s_rrrr, CS_x hC, l1, l2, l3, h1, h2, h3]
          exact key
      · obtain ⟨o, r, hO, _, hR, hA⟩ := MSu hC
        have key : Wp scr (n + 39) 141 [.ref 129, .int (-6)] M (fun r' M' => wp scr (n + 39) mb_194 35 [some (.ref 129), some (.int x1), some (.int x2), some (.int x3)] (r'.toList ++ []) M' Q) := by
          refine MW141 (k := 6) hC hg (by decide) (by decide) (fun M' hl ha hc => ?_)
          simp only [u194_35, Option.toList_some, List.cons_append, List.nil_append]
          exact hQ M' hl ha hc
        by_cases h1 : 255 < x1
        · simp only [e194, u194_0, u194_1, u194_4, u194_5, u194_6, u194_9, u194_10, u194_12, u194_15, u194_16, u194_17, u194_20, u194_23, u194_24, u194_26, u194_29, u194_30, u194_32, u194_36, u194_37, u194_38, u194_39, u194_40, u194_43, u194_46, u194_47, u194_49, u194_52, u194_53, u194_54, u194_55, u194_56, u194_57, u194_60, u194_61, u194_62, u194_65, u194_66, u194_69, u194_71, u194_74, u194_75, u194_78, u194_81, u194_82, u194_85, u194_86, mw_os, wp_ite, mw_sw, Option.toList_some, Option.toList_none, List.cons_append, List.nil_append, true_and, and_true, if_true, if_false, mw_s_, mw_s_i, mw_s_r, mw_s_ii, mw_s_ir, mw_s_ri, mw_s_rr, mw_s_iii, mw_s_iir, mw_s_iri, mw_s_irr, mw_s_rii, mw_s_rir, mw_s_rri, mw_s_rrr, mw_s_iiii, mw_s_iiir, mw_s_iiri, mw_s_iirr, mw_s_irii, mw_s_irir, mw_s_irri, mw_s_irrr, mw_s_riii, mw_s_riir, mw_s_riri, mw_s_rirr, mw_s_rrii, mw_s_rrir, mw_s_rrri, mw_s_rrrr, OA_x hO, l1, l2, l3, h1]
          exact key
        · have h2 : 8 < x2 := hhi.resolve_left h1
          have h3 : (x2 ≤ 8) ↔ False := iff_false_intro (fun z => Int32.not_lt.mpr z h2)
          simp only [e194, u194_0, u194_1, u194_4, u194_5, u194_6, u194_9, u194_10, u194_12, u194_15, u194_16, u194_17, u194_20, u194_23, u194_24, u194_26, u194_29, u194_30, u194_32, u194_36, u194_37, u194_38, u194_39, u194_40, u194_43, u194_46, u194_47, u194_49, u194_52, u194_53, u194_54, u194_55, u194_56, u194_57, u194_60, u194_61, u194_62, u194_65, u194_66, u194_69, u194_71, u194_74, u194_75, u194_78, u194_81, u194_82, u194_85, u194_86, mw_os, wp_ite, mw_sw, Option.toList_some, Option.toList_none, List.cons_append, List.nil_append, true_and, and_true, if_true, if_false, mw_s_, mw_s_i, mw_s_r, mw_s_ii, mw_s_ir, mw_s_ri, mw_s_rr, mw_s_iii, mw_s_iir, mw_s_iri, mw_s_irr, mw_s_rii, mw_s_rir, mw_s_rri, mw_s_rrr, mw_s_iiii, mw_s_iiir, mw_s_iiri, mw_s_iirr, mw_s_irii, mw_s_irir, mw_s_irri, mw_s_irrr, mw_s_riii, mw_s_riir, mw_s_riri, mw_s_rirr, mw_s_rrii, mw_s_rrir, mw_s_rrri, mw_s_rrrr, OA_x hO, l1, l2, l3, h1, h2, h3]
          exact key
    · have g1 : ¬ 255 < x1 := fun z => hhi (Or.inl z)
      have g2 : ¬ 8 < x2 := fun z => hhi (Or.inr z)
      have g3 : (x2 ≤ 8) ↔ True := iff_true_intro (Int32.not_lt.mp g2)
      obtain ⟨s, hs1, rfl⟩ := nI_of l1
      rcases two x3 with h2 | hy
      · have k1 : decide ((0 : Int32) ≤ x3 ∧ x3 < 2) = true := by rcases h2 with rfl | rfl <;> decide
        have k2 : inB x3.toInt64 0 1 = true := (inB_eq x3 0 1).trans (by rcases h2 with rfl | rfl <;> decide)
        refine ⟨.int (if x3 = 1 then wyV (B4 g (tX 3 x2 (nI s))) else msV (B4 g (tX 3 x2 (nI s)))), g, hg, fun n M Q hC hQ => ?_, fun n M Q hC hQ => ?_⟩
        · obtain ⟨τ, hk, hq⟩ := CQ hC
          have hM := QA_len hq
          have hC1 : CS (pq M 121 (bgQ τ 3)) g := CS_pq hC hg (bgQ_ok hk)
          have hC2 : CS (pq M 121 (tP (bgQ τ 3) x2)) g := CS_pq hC hg (bgQ_ok (x := 3) hk)
          have hC3 : CS (pq M 121 (gQ τ 3 x2 (nI s))) g := CS_pq hC hg (gQ_ok hk)
          have p1 : mm_put mc_fty (pq M 121 (bgQ τ 3)) (.ref 121) (.int x2) 3 3 = some (pq M 121 (tP (bgQ τ 3) x2)) := pq_puP hM
          have p2 : mm_put mc_fty (pq M 121 (tP (bgQ τ 3) x2)) (.ref 121) (.int (nI s)) 3 4 = some (pq M 121 (gQ τ 3 x2 (nI s))) := pq_puS hM
          have hq3 : QA (pq M 121 (gQ τ 3 x2 (nI s))) 121 (gQ τ 3 x2 (nI s)) := pq_QA hM
          simp only [u109_0, u109_1, u109_4, u109_5, u109_6, u109_16, u109_17, u109_20, u109_23, u109_24, u109_26, u109_36, u109_37, u109_38, u109_41, u109_51, u109_52, u109_55, u109_56, u109_59, u109_60, u109_63, u109_64, u109_67, u109_68, u109_71, u109_72, u109_75, u109_76, u109_79, u109_80, u109_83, e109, mw_os, wp_ite, mw_sw, Option.toList_some, Option.toList_none, List.cons_append, List.nil_append, true_and, and_true, if_true, if_false, mw_s_, mw_s_i, mw_s_r, mw_s_ii, mw_s_ir, mw_s_ri, mw_s_rr, mw_s_iii, mw_s_iir, mw_s_iri, mw_s_irr, mw_s_rii, mw_s_rir, mw_s_rri, mw_s_rrr, mw_s_iiii, mw_s_iiir, mw_s_iiri, mw_s_iirr, mw_s_irii, mw_s_irir, mw_s_irri, mw_s_irrr, mw_s_riii, mw_s_riir, mw_s_riri, mw_s_rirr, mw_s_rrii, mw_s_rrir, mw_s_rrri, mw_s_rrrr, mm_sto1, mm_clr, mm_isL, List.getElem?_cons_zero, List.getElem?_cons_succ, List.set_cons_zero, List.set_cons_succ, Bool.false_eq_true, l1, l2, l3, g1, g2, g3, W89, k1, bi_eq0, reduceCtorEq, not_false_eq_true, CS_3 hC, QA_x hq, W54 hq hk, CS_3 hC1, p1, CS_3 hC2, p2, CS_3 hC3, CS_0 hC3, QA_x hq3]
          refine runQ (n := n + 28) hC hg hk hq (by decide) rfl (fun M' T hl ha hC' hq' hb => ?_)
          have hQ' := hQ M' hl ha hC'
          have hw := QB_way hb
          have hcs := QB_cost hb
          have f5 : mm_fld (mc_X scr) M' (.ref 121) 3 5 = some (.int (qF T)) := QA_5 hq'
          simp only [u109_86, u109_87, u109_88, u109_91, u109_92, u109_95, u109_98, u109_101, u109_102, u109_105, u109_108, u109_109, u109_111, u109_112, u109_115, u109_118, u109_119, mw_os, wp_ite, mw_sw, Option.toList_some, Option.toList_none, List.cons_append, List.nil_append, true_and, and_true, if_true, if_false, mw_s_, mw_s_i, mw_s_r, mw_s_ii, mw_s_ir, mw_s_ri, mw_s_rr, mw_s_iii, mw_s_iir, mw_s_iri, mw_s_irr, mw_s_rii, mw_s_rir, mw_s_rri, mw_s_rrr, mw_s_iiii, mw_s_iiir, mw_s_iiri, mw_s_iirr, mw_s_irii, mw_s_irir, mw_s_irri, mw_s_irrr, mw_s_riii, mw_s_riir, mw_s_riri, mw_s_rirr, mw_s_rrii, mw_s_rrir, mw_s_rrri, mw_s_rrrr, mm_sto1, mm_clr, mm_isL, List.getElem?_cons_zero, List.getElem?_cons_succ, List.set_cons_zero, List.set_cons_succ, Bool.false_eq_true, CS_3 hC', QA_x hq', f5, W63 hq', W64 hq', hw, hcs]
          rcases h2 with rfl | rfl
          · simp only [z01, if_false] at hQ' ⊢
            rcases hb with ⟨h1, e⟩ | ⟨c, y, h1, e, _⟩
            · rw [e] at hQ' ⊢
              rw [if_pos h1]
              exact hQ'
            · rw [e] at hQ' ⊢
              rw [if_neg (by rw [h1]; decide)]
              exact hQ'
          · simp only [if_true] at hQ' ⊢
            exact hQ'
        · obtain ⟨o, r, hO, _, hR', hA⟩ := MSu hC
          simp only [u194_0, u194_1, u194_4, u194_5, u194_6, u194_16, u194_17, u194_20, u194_23, u194_24, u194_26, u194_36, u194_37, u194_38, u194_39, u194_40, u194_43, u194_53, u194_54, u194_55, u194_56, u194_57, e194, mw_os, wp_ite, mw_sw, Option.toList_some, Option.toList_none, List.cons_append, List.nil_append, true_and, and_true, if_true, if_false, mw_s_, mw_s_i, mw_s_r, mw_s_ii, mw_s_ir, mw_s_ri, mw_s_rr, mw_s_iii, mw_s_iir, mw_s_iri, mw_s_irr, mw_s_rii, mw_s_rir, mw_s_rri, mw_s_rrr, mw_s_iiii, mw_s_iiir, mw_s_iiri, mw_s_iirr, mw_s_irii, mw_s_irir, mw_s_irri, mw_s_irrr, mw_s_riii, mw_s_riir, mw_s_riri, mw_s_rirr, mw_s_rrii, mw_s_rrir, mw_s_rrri, mw_s_rrrr, mm_sto1, mm_clr, mm_isL, List.getElem?_cons_zero, List.getElem?_cons_succ, List.set_cons_zero, List.set_cons_succ, Bool.false_eq_true, l1, l2, l3, g1, g2, g3, W146, k2, bi_eq0, reduceCtorEq, not_false_eq_true, OA_x hO]
          refine W186 (n := n + 26) hg (Or.inr (Or.inr (Or.inr (Or.inl rfl)))) hC (fun M' z9' hl ha hC' hO' => ?_)
          have r0 := ref_3 (τ := tX 3 x2 (nI s)) hg rfl rfl
          change MB 8 ((nds q4 (gN g).1 4 0 0 0 (gU g)).foldl (mV 3 (nI s) x2 (sCv (gN g).1) (gT g)) (-9, -9, -9, 0)) _ at r0
          generalize (nds q4 (gN g).1 4 0 0 0 (gU g)).foldl (mV 3 (nI s) x2 (sCv (gN g).1) (gT g)) (-9, -9, -9, 0) = σ at hO' r0
          have f14 : mm_fld (mc_X scr) M' (.ref 129) 6 14 = some (.int σ.1) := OA_14 hO'
          have f15 : mm_fld (mc_X scr) M' (.ref 129) 6 15 = some (.int σ.2.1) := OA_15 hO'
          have hQ' := hQ M' hl ha hC'
          have hw := MB_way r0
          simp only [u194_60, u194_61, u194_62, u194_65, u194_66, u194_69, u194_71, u194_74, u194_75, u194_78, u194_81, u194_82, u194_85, u194_86, mw_os, wp_ite, mw_sw, Option.toList_some, Option.toList_none, List.cons_append, List.nil_append, true_and, and_true, if_true, if_false, mw_s_, mw_s_i, mw_s_r, mw_s_ii, mw_s_ir, mw_s_ri, mw_s_rr, mw_s_iii, mw_s_iir, mw_s_iri, mw_s_irr, mw_s_rii, mw_s_rir, mw_s_rri, mw_s_rrr, mw_s_iiii, mw_s_iiir, mw_s_iiri, mw_s_iirr, mw_s_irii, mw_s_irir, mw_s_irri, mw_s_irrr, mw_s_riii, mw_s_riir, mw_s_riri, mw_s_rirr, mw_s_rrii, mw_s_rrir, mw_s_rrri, mw_s_rrrr, mm_sto1, mm_clr, mm_isL, List.getElem?_cons_zero, List.getElem?_cons_succ, List.set_cons_zero, List.set_cons_succ, Bool.false_eq_true, f14, f15]
          rcases h2 with rfl | rfl
          · simp only [z01, if_false] at hQ' ⊢
            rcases r0 with ⟨h1, _, e⟩ | ⟨c, y, e, h3, h4, h5, h6⟩
            · rw [e] at hQ'
              rw [if_pos h1, h1]
              exact hQ'
            · rw [e] at hQ'
              have hn9 : ¬ σ.1 = -9 := by rw [h3]; exact nI_n9 h6
              rw [if_neg hn9, h4, show -(nI c - nI 8) = 8 - nI c from Int32.neg_sub]
              exact hQ'
          · simp only [if_true] at hQ' ⊢
            rw [hw]
            exact hQ'
      · have k1 : decide ((0 : Int32) ≤ x3 ∧ x3 < 2) = false := ib_f (N := 2) hy
        have k2 : inB x3.toInt64 0 1 = false := (inB_eq x3 0 1).trans (il_f (N := 1) (by decide) hy)
        refine ⟨.int (-nI 2), gRf g 2, gRf_ok hg, fun n M Q hC hQ => ?_, fun n M Q hC hQ => ?_⟩
        · simp only [e109, u109_0, u109_1, u109_4, u109_5, u109_6, u109_9, u109_10, u109_12, u109_15, u109_16, u109_17, u109_20, u109_23, u109_24, u109_26, u109_29, u109_30, u109_32, u109_35, u109_36, u109_37, u109_38, u109_41, u109_44, u109_45, u109_47, u109_51, u109_52, u109_55, u109_56, u109_59, u109_60, u109_63, u109_64, u109_67, u109_68, u109_71, u109_72, u109_75, u109_76, u109_79, u109_80, u109_83, u109_86, u109_87, u109_88, u109_91, u109_92, u109_95, u109_98, u109_101, u109_102, u109_105, u109_108, u109_109, u109_111, u109_112, u109_115, u109_118, u109_119, mw_os, wp_ite, mw_sw, Option.toList_some, Option.toList_none, List.cons_append, List.nil_append, true_and, and_true, if_true, if_false, mw_s_, mw_s_i, mw_s_r, mw_s_ii, mw_s_ir, mw_s_ri, mw_s_rr, mw_s_iii, mw_s_iir, mw_s_iri, mw_s_irr, mw_s_rii, mw_s_rir, mw_s_rri, mw_s_rrr, mw_s_iiii, mw_s_iiir, mw_s_iiri, mw_s_iirr, mw_s_irii, mw_s_irir, mw_s_irri, mw_s_irrr, mw_s_riii, mw_s_riir, mw_s_riri, mw_s_rirr, mw_s_rrii, mw_s_rrir, mw_s_rrri, mw_s_rrrr, CS_x hC, l1, l2, l3, g1, g2, g3, W89, k1, bi_eq0, not_true]
          refine CW84 (k := 2) hC hg (by decide) (by decide) (fun M' hl ha hc => ?_)
          simp only [u109_50, Option.toList_some, List.cons_append, List.nil_append]
          exact hQ M' hl ha hc
        · obtain ⟨o, r, hO, _, hR, hA⟩ := MSu hC
          simp only [e194, u194_0, u194_1, u194_4, u194_5, u194_6, u194_9, u194_10, u194_12, u194_15, u194_16, u194_17, u194_20, u194_23, u194_24, u194_26, u194_29, u194_30, u194_32, u194_35, u194_36, u194_37, u194_38, u194_39, u194_40, u194_43, u194_46, u194_47, u194_49, u194_53, u194_54, u194_55, u194_56, u194_57, u194_60, u194_61, u194_62, u194_65, u194_66, u194_69, u194_71, u194_74, u194_75, u194_78, u194_81, u194_82, u194_85, u194_86, mw_os, wp_ite, mw_sw, Option.toList_some, Option.toList_none, List.cons_append, List.nil_append, true_and, and_true, if_true, if_false, mw_s_, mw_s_i, mw_s_r, mw_s_ii, mw_s_ir, mw_s_ri, mw_s_rr, mw_s_iii, mw_s_iir, mw_s_iri, mw_s_irr, mw_s_rii, mw_s_rir, mw_s_rri, mw_s_rrr, mw_s_iiii, mw_s_iiir, mw_s_iiri, mw_s_iirr, mw_s_irii, mw_s_irir, mw_s_irri, mw_s_irrr, mw_s_riii, mw_s_riir, mw_s_riri, mw_s_rirr, mw_s_rrii, mw_s_rrir, mw_s_rrri, mw_s_rrrr, l1, l2, l3, g1, g2, g3, W146, k2, bi_eq0, OA_x hO, not_true]
          refine MW141 (k := 2) hC hg (by decide) (by decide) (fun M' hl ha hc => ?_)
          simp only [u194_52, Option.toList_some, List.cons_append, List.nil_append]
          exact hQ M' hl ha hc
end JU
