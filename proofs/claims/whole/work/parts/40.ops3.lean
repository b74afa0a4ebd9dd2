section O3
variable {scr : List Int32} {n : Nat} {M : mm_M} {Q : Option Value → mm_M → Prop} {g : SG} {x1 x2 : Int32}
theorem J_turn (hg : SGOK g) (x1 x2 x3 : Int32) : JO scr 100 175 [.int x1, .int x2, .int x3] g := by
  rcases ixc x1 (N := 10) (by decide) with ⟨j, hj, rfl⟩ | hx
  · have b1 : decide ((0 : Int32) ≤ nI j ∧ nI j < 10) = true := ib_t hj (by decide)
    have b2 : decide ((0 : Int32) ≤ nI j ∧ nI j ≤ 9) = true := il_t (N := 9) hj (by decide)
    rcases ixc x2 (N := 6) (by decide) with ⟨k, hk, rfl⟩ | hk
    · have k1 : decide ((0 : Int32) ≤ nI k ∧ nI k < 6) = true := ib_t hk (by decide)
      have k2 : inB (nI k).toInt64 0 5 = true := (inB_eq (nI k) 0 5).trans (il_t (N := 5) hk (by decide))
      rcases pk_ix x3 (n := 10) (by decide) with hy | hy | ⟨m, hm, rfl⟩
      · have hi : inB x3.toInt64 0 9 = false := (inB_eq x3 0 9).trans (decide_eq_false (fun z => Int32.not_lt.mpr z.1 hy))
        have n0 : ((0 : Int32) ≤ x3) ↔ False := iff_false_intro (fun z => Int32.not_lt.mpr z hy)
        refine ⟨.int (-nI 4), gRf g 4, gRf_ok hg, fun n M Q hC hQ => ?_, fun n M Q hC hQ => ?_⟩
        · simp only [e100, u100_0, u100_1, u100_3, u100_6, u100_9, u100_10, u100_11, u100_14, u100_15, u100_16, u100_18, u100_21, u100_24, u100_25, u100_27, u100_30, u100_31, u100_32, u100_35, u100_36, u100_38, u100_42, u100_43, u100_45, u100_48, u100_49, u100_51, u100_54, u100_55, u100_57, u100_58, u100_61, u100_64, u100_65, u100_66, u100_67, u100_68, u100_71, u100_74, u100_75, u100_76, u100_77, u100_79, u100_80, u100_83, u100_86, u100_87, u100_88, u100_89, u100_90, u100_93, u100_96, u100_97, u100_98, u100_99, u100_101, mw_os, wp_ite, mw_sw, Option.toList_some, Option.toList_none, List.cons_append, List.nil_append, true_and, and_true, if_true, if_false, mw_s_, mw_s_i, mw_s_r, mw_s_ii, mw_s_ir, mw_s_ri, mw_s_rr, mw_s_iii, mw_s_iir, mw_s_iri, mw_s_irr, mw_s_rii, mw_s_rir, mw_s_rri, mw_s_rrr, mw_s_iiii, mw_s_iiir, mw_s_iiri, mw_s_iirr, mw_s_irii, mw_s_irir, mw_s_irri, mw_s_irrr, mw_s_riii, mw_s_riir, mw_s_riri, mw_s_rirr, mw_s_rrii, mw_s_rrir, mw_s_rrri, mw_s_rrrr, W89, b1, k1, bi_eq0, reduceCtorEq, CS_x hC, not_false_eq_true, hy, n0]
          refine CW84 (k := 4) hC hg (by decide) (by decide) (fun M' hl ha hc => ?_)
          simp only [u100_41, Option.toList_some, List.cons_append, List.nil_append]
          exact hQ M' hl ha hc
        · obtain ⟨o, r, hO, _, hR, hA⟩ := MSu hC
          simp only [e175, u175_0, u175_1, u175_4, u175_7, u175_8, u175_9, u175_12, u175_13, u175_14, u175_15, u175_16, u175_19, u175_22, u175_25, u175_26, u175_28, u175_31, u175_32, u175_33, u175_34, u175_35, u175_38, u175_41, u175_44, u175_45, u175_46, u175_49, u175_51, u175_54, u175_56, u175_60, u175_62, u175_63, u175_66, u175_67, u175_68, u175_69, u175_70, u175_71, u175_72, u175_75, u175_77, u175_78, u175_79, u175_80, u175_81, u175_83, u175_84, u175_87, u175_88, u175_89, u175_90, u175_91, u175_92, u175_93, u175_96, u175_98, u175_99, u175_100, u175_101, u175_102, u175_104, mw_os, wp_ite, mw_sw, Option.toList_some, Option.toList_none, List.cons_append, List.nil_append, true_and, and_true, if_true, if_false, mw_s_, mw_s_i, mw_s_r, mw_s_ii, mw_s_ir, mw_s_ri, mw_s_rr, mw_s_iii, mw_s_iir, mw_s_iri, mw_s_irr, mw_s_rii, mw_s_rir, mw_s_rri, mw_s_rrr, mw_s_iiii, mw_s_iiir, mw_s_iiri, mw_s_iirr, mw_s_irii, mw_s_irir, mw_s_irri, mw_s_irrr, mw_s_riii, mw_s_riir, mw_s_riri, mw_s_rirr, mw_s_rrii, mw_s_rrir, mw_s_rrri, mw_s_rrrr, W166, b2, W146, hi, k2, bi_eq0, reduceCtorEq, OA_x hO, not_false_eq_true, not_true, hy, n0]
          refine MW141 (k := 4) hC hg (by decide) (by decide) (fun M' hl ha hc => ?_)
          simp only [u175_59, Option.toList_some, List.cons_append, List.nil_append]
          exact hQ M' hl ha hc
      · have h99 : (9 : Int32) < x3 := Int32.lt_of_lt_of_le (b := nI 10) (by decide +kernel) hy
        have hi : inB x3.toInt64 0 9 = false := (inB_eq x3 0 9).trans (decide_eq_false (fun z => Int32.not_lt.mpr z.2 h99))
        have n0 : (x3 < 0) ↔ False := iff_false_intro (fun z => absurd (Int32.lt_trans h99 z) (by decide))
        have n0' : ((0 : Int32) ≤ x3) ↔ True := iff_true_intro (Int32.not_lt.mp (fun z => absurd (Int32.lt_trans h99 z) (by decide)))
        have n1 : (x3 ≤ 9) ↔ False := iff_false_intro (fun z => Int32.not_lt.mpr z h99)
        refine ⟨.int (-nI 6), gRf g 6, gRf_ok hg, fun n M Q hC hQ => ?_, fun n M Q hC hQ => ?_⟩
        · simp only [e100, u100_0, u100_1, u100_3, u100_6, u100_9, u100_10, u100_11, u100_14, u100_15, u100_16, u100_18, u100_21, u100_24, u100_25, u100_27, u100_30, u100_31, u100_32, u100_35, u100_36, u100_38, u100_41, u100_42, u100_43, u100_45, u100_48, u100_49, u100_51, u100_55, u100_57, u100_58, u100_61, u100_64, u100_65, u100_66, u100_67, u100_68, u100_71, u100_74, u100_75, u100_76, u100_77, u100_79, u100_80, u100_83, u100_86, u100_87, u100_88, u100_89, u100_90, u100_93, u100_96, u100_97, u100_98, u100_99, u100_101, mw_os, wp_ite, mw_sw, Option.toList_some, Option.toList_none, List.cons_append, List.nil_append, true_and, and_true, if_true, if_false, mw_s_, mw_s_i, mw_s_r, mw_s_ii, mw_s_ir, mw_s_ri, mw_s_rr, mw_s_iii, mw_s_iir, mw_s_iri, mw_s_irr, mw_s_rii, mw_s_rir, mw_s_rri, mw_s_rrr, mw_s_iiii, mw_s_iiir, mw_s_iiri, mw_s_iirr, mw_s_irii, mw_s_irir, mw_s_irri, mw_s_irrr, mw_s_riii, mw_s_riir, mw_s_riri, mw_s_rirr, mw_s_rrii, mw_s_rrir, mw_s_rrri, mw_s_rrrr, W89, b1, k1, bi_eq0, reduceCtorEq, CS_x hC, not_false_eq_true, n0, n0', n1, h99]
          refine CW84 (k := 6) hC hg (by decide) (by decide) (fun M' hl ha hc => ?_)
          simp only [u100_54, Option.toList_some, List.cons_append, List.nil_append]
          exact hQ M' hl ha hc
        · obtain ⟨o, r, hO, _, hR, hA⟩ := MSu hC
          simp only [e175, u175_0, u175_1, u175_4, u175_7, u175_8, u175_9, u175_12, u175_13, u175_14, u175_15, u175_16, u175_19, u175_22, u175_25, u175_26, u175_28, u175_31, u175_32, u175_33, u175_34, u175_35, u175_38, u175_41, u175_44, u175_45, u175_46, u175_49, u175_51, u175_54, u175_56, u175_60, u175_62, u175_63, u175_66, u175_67, u175_68, u175_69, u175_70, u175_71, u175_72, u175_75, u175_77, u175_78, u175_79, u175_80, u175_81, u175_83, u175_84, u175_87, u175_88, u175_89, u175_90, u175_91, u175_92, u175_93, u175_96, u175_98, u175_99, u175_100, u175_101, u175_102, u175_104, mw_os, wp_ite, mw_sw, Option.toList_some, Option.toList_none, List.cons_append, List.nil_append, true_and, and_true, if_true, if_false, mw_s_, mw_s_i, mw_s_r, mw_s_ii, mw_s_ir, mw_s_ri, mw_s_rr, mw_s_iii, mw_s_iir, mw_s_iri, mw_s_irr, mw_s_rii, mw_s_rir, mw_s_rri, mw_s_rrr, mw_s_iiii, mw_s_iiir, mw_s_iiri, mw_s_iirr, mw_s_irii, mw_s_irir, mw_s_irri, mw_s_irrr, mw_s_riii, mw_s_riir, mw_s_riri, mw_s_rirr, mw_s_rrii, mw_s_rrir, mw_s_rrri, mw_s_rrrr, W166, b2, W146, hi, k2, bi_eq0, reduceCtorEq, OA_x hO, not_false_eq_true, not_true, n0, n0']
          refine MW141 (k := 6) hC hg (by decide) (by decide) (fun M' hl ha hc => ?_)
          simp only [u175_59, Option.toList_some, List.cons_append, List.nil_append]
          exact hQ M' hl ha hc
      · have hi : inB (nI m).toInt64 0 9 = true := (inB_eq (nI m) 0 9).trans (il_t (N := 9) hm (by decide))
        have n0 : (nI m < 0) ↔ False := iff_false_intro (nI_pos (by omega))
        have n0' : ((0 : Int32) ≤ nI m) ↔ True := iff_true_intro (nI_pos' (by omega))
        have n1 : ((9 : Int32) < nI m) ↔ False := iff_false_intro (nI_nlt (a := 9) (b := m) (by omega) (by decide))
        have n1' : (nI m ≤ 9) ↔ True := iff_true_intro (nI_le (a := m) (b := 9) (by omega) (by decide))
        have hK := (gSOK hg).1
        have hF := (gSOK hg).2.1
        have hok : HOK (xF (xK (gN g).1 ((sK (gN g).1).set j (nI k))) ((sF (gN g).1).set j (nI m)), (gN g).2) := HOK_F (h := (xK (gN g).1 ((sK (gN g).1).set j (nI k)), (gN g).2)) (HOK_K hg.1 (by rw [List.length_set]; exact hK) (rgI_set hK (fun i hi => (hg.1.2.2.2.2.2.2 i hi).1) ⟨k, by omega, rfl⟩ (by decide))) (by rw [List.length_set]; exact hF) (rgI_set hF (fun i hi => (hg.1.2.2.2.2.2.2 i hi).2.1) ⟨m, by omega, rfl⟩ (by decide))
        refine ⟨.int (10 * gi (sK (gN g).1) (nI j) + gi (sF (gN g).1) (nI j)), gW g (xF (xK (gN g).1 ((sK (gN g).1).set j (nI k))) ((sF (gN g).1).set j (nI m)), (gN g).2), gW_ok hg hok, fun n M Q hC hQ => ?_, fun n M Q hC hQ => ?_⟩
        · have s1 : mm_sti M (.ref 3) (nI j) (nI k) = some (ph M 1 (xK (gN g).1 ((sK (gN g).1).set j (nI k)))) := (SA_stK (NS hC) (by rw [hK]; exact nI_in10 hj)).trans (by rw [clN hj])
          have s2 : mm_sti (ph M 1 (xK (gN g).1 ((sK (gN g).1).set j (nI k)))) (.ref 4) (nI j) (nI m) = some (ph M 1 (xF (xK (gN g).1 ((sK (gN g).1).set j (nI k))) ((sF (gN g).1).set j (nI m)))) := (ph_stF (SA_len (NS hC)) (by show vp_in (nI j) (sF (gN g).1).length; rw [hF]; exact nI_in10 hj)).trans (by rw [clN hj]; rfl)
          have hC' := CS_ph (v := xK (gN g).1 ((sK (gN g).1).set j (nI k))) hC hg
          have f0 := CS_0 (scr := scr) hC'
          have f2 := NS_2 (scr := scr) hC'
          simp only [e100, u100_0, u100_1, u100_3, u100_6, u100_9, u100_10, u100_11, u100_14, u100_15, u100_16, u100_18, u100_21, u100_24, u100_25, u100_27, u100_30, u100_31, u100_32, u100_35, u100_36, u100_38, u100_41, u100_42, u100_43, u100_45, u100_48, u100_49, u100_51, u100_54, u100_55, u100_57, u100_58, u100_61, u100_64, u100_65, u100_66, u100_67, u100_68, u100_71, u100_74, u100_75, u100_76, u100_77, u100_79, u100_80, u100_83, u100_86, u100_87, u100_88, u100_89, u100_90, u100_93, u100_96, u100_97, u100_98, u100_99, u100_101, mw_os, wp_ite, mw_sw, Option.toList_some, Option.toList_none, List.cons_append, List.nil_append, true_and, and_true, if_true, if_false, mw_s_, mw_s_i, mw_s_r, mw_s_ii, mw_s_ir, mw_s_ri, mw_s_rr, mw_s_iii, mw_s_iir, mw_s_iri, mw_s_irr, mw_s_rii, mw_s_rir, mw_s_rri, mw_s_rrr, mw_s_iiii, mw_s_iiir, mw_s_iiri, mw_s_iirr, mw_s_irii, mw_s_irir, mw_s_irri, mw_s_irrr, mw_s_riii, mw_s_riir, mw_s_riri, mw_s_rirr, mw_s_rrii, mw_s_rrir, mw_s_rrri, mw_s_rrrr, mm_sto1, mm_clr, mm_isL, List.getElem?_cons_zero, List.getElem?_cons_succ, List.set_cons_zero, List.set_cons_succ, Bool.false_eq_true, W89, b1, k1, bi_eq0, reduceCtorEq, not_false_eq_true, n0, n0', n1, n1', CS_0 hC, NS_1 hC, NS_2 hC, NS_k hC, NS_f hC, gK_at hg hj, gF_at hg hj, s1, s2, f0, f2]
          exact CPh hC hg hQ
        · obtain ⟨o, r, hO, _, hR, hA⟩ := MSu hC
          have st : mm_sti M (.ref 130) (nI j) (nI k) = some (sr M 130 (rowL (yK r ((rK r).set j (nI k))))) := by
            have := RA_st (x := nI k) (k := j) hA (by rw [rowL_len hR.1]; omega) (by omega)
            rw [st_K hR.1 hj] at this
            exact this
          have hl : 130 < M.length := RA_lt hA
          have hR1 : MR (yK r ((rK r).set j (nI k))) (xK (gN g).1 ((sK (gN g).1).set j (nI k)), (gN g).2) := by
            rw [hR.2.1]
            exact MR_K hR (by rw [List.length_set]; exact hK)
          have st2 : mm_sti (sr M 130 (rowL (yK r ((rK r).set j (nI k))))) (.ref 130) (nI (10 + j)) (nI m) = some (sr M 130 (rowL (yF (yK r ((rK r).set j (nI k))) ((rF r).set j (nI m))))) := by
            have := RA_st (x := nI m) (k := 10 + j) (sr_RA (w := rowL (yK r ((rK r).set j (nI k)))) hl) (by rw [rowL_len hR1.1]; omega) (by omega)
            rw [st_F hR1.1 hj, sr_sr] at this
            exact this
          have rK' : mm_at (rowL r) (nI j) = some (gi (sK (gN g).1) (nI j)) := (rd_K hR.1 hj).trans (by rw [hR.2.1])
          have rF' : mm_at (rowL r) (nI (10 + j)) = some (gi (sF (gN g).1) (nI j)) := (rd_F hR.1 hj).trans (by rw [hR.2.2.1])
          simp only [e175, u175_0, u175_1, u175_4, u175_7, u175_8, u175_9, u175_12, u175_13, u175_14, u175_15, u175_16, u175_19, u175_22, u175_25, u175_26, u175_28, u175_31, u175_32, u175_33, u175_34, u175_35, u175_38, u175_41, u175_44, u175_45, u175_46, u175_49, u175_51, u175_54, u175_56, u175_59, u175_60, u175_62, u175_63, u175_66, u175_67, u175_68, u175_69, u175_70, u175_71, u175_72, u175_75, u175_77, u175_78, u175_79, u175_80, u175_81, u175_83, u175_84, u175_87, u175_88, u175_89, u175_90, u175_91, u175_92, u175_93, u175_96, u175_98, u175_99, u175_100, u175_101, u175_102, u175_104, mw_os, wp_ite, mw_sw, Option.toList_some, Option.toList_none, List.cons_append, List.nil_append, true_and, and_true, if_true, if_false, mw_s_, mw_s_i, mw_s_r, mw_s_ii, mw_s_ir, mw_s_ri, mw_s_rr, mw_s_iii, mw_s_iir, mw_s_iri, mw_s_irr, mw_s_rii, mw_s_rir, mw_s_rri, mw_s_rrr, mw_s_iiii, mw_s_iiir, mw_s_iiri, mw_s_iirr, mw_s_irii, mw_s_irir, mw_s_irri, mw_s_irrr, mw_s_riii, mw_s_riir, mw_s_riri, mw_s_rirr, mw_s_rrii, mw_s_rrir, mw_s_rrri, mw_s_rrrr, mm_sto1, mm_clr, mm_isL, List.getElem?_cons_zero, List.getElem?_cons_succ, List.set_cons_zero, List.set_cons_succ, Bool.false_eq_true, W166, b2, W146, hi, k2, bi_eq0, reduceCtorEq, not_false_eq_true, OA_0 hO, OA_0 (OA_sr hO (show (130 : Nat) ≠ 129 by decide)), RA_ld hA, c0, c10, rK', rF', st, st2]
          refine MPn hC ?_ hQ
          rw [hR.2.2.1]
          exact MR_F hR1 (by rw [List.length_set]; exact hF)
    · have k1 : decide ((0 : Int32) ≤ x2 ∧ x2 < 6) = false := ib_f (N := 6) hk
      have k2 : inB x2.toInt64 0 5 = false := (inB_eq x2 0 5).trans (il_f (N := 5) (by decide) hk)
      refine ⟨.int (-nI 2), gRf g 2, gRf_ok hg, fun n M Q hC hQ => ?_, fun n M Q hC hQ => ?_⟩
      · simp only [e100, u100_0, u100_1, u100_3, u100_6, u100_9, u100_10, u100_11, u100_14, u100_15, u100_16, u100_18, u100_21, u100_24, u100_25, u100_27, u100_31, u100_32, u100_35, u100_36, u100_38, u100_41, u100_42, u100_43, u100_45, u100_48, u100_49, u100_51, u100_54, u100_55, u100_57, u100_58, u100_61, u100_64, u100_65, u100_66, u100_67, u100_68, u100_71, u100_74, u100_75, u100_76, u100_77, u100_79, u100_80, u100_83, u100_86, u100_87, u100_88, u100_89, u100_90, u100_93, u100_96, u100_97, u100_98, u100_99, u100_101, mw_os, wp_ite, mw_sw, Option.toList_some, Option.toList_none, List.cons_append, List.nil_append, true_and, and_true, if_true, if_false, mw_s_, mw_s_i, mw_s_r, mw_s_ii, mw_s_ir, mw_s_ri, mw_s_rr, mw_s_iii, mw_s_iir, mw_s_iri, mw_s_irr, mw_s_rii, mw_s_rir, mw_s_rri, mw_s_rrr, mw_s_iiii, mw_s_iiir, mw_s_iiri, mw_s_iirr, mw_s_irii, mw_s_irir, mw_s_irri, mw_s_irrr, mw_s_riii, mw_s_riir, mw_s_riri, mw_s_rirr, mw_s_rrii, mw_s_rrir, mw_s_rrri, mw_s_rrrr, W89, b1, k1, bi_eq0, reduceCtorEq, CS_x hC, not_false_eq_true, not_true]
        refine CW84 (k := 2) hC hg (by decide) (by decide) (fun M' hl ha hc => ?_)
        simp only [u100_30, Option.toList_some, List.cons_append, List.nil_append]
        exact hQ M' hl ha hc
      · obtain ⟨o, r, hO, _, hR, hA⟩ := MSu hC
        simp only [e175, u175_0, u175_1, u175_4, u175_7, u175_8, u175_9, u175_12, u175_13, u175_14, u175_15, u175_16, u175_19, u175_22, u175_25, u175_26, u175_28, u175_32, u175_33, u175_34, u175_35, u175_38, u175_41, u175_44, u175_45, u175_46, u175_49, u175_51, u175_54, u175_56, u175_59, u175_60, u175_62, u175_63, u175_66, u175_67, u175_68, u175_69, u175_70, u175_71, u175_72, u175_75, u175_77, u175_78, u175_79, u175_80, u175_81, u175_83, u175_84, u175_87, u175_88, u175_89, u175_90, u175_91, u175_92, u175_93, u175_96, u175_98, u175_99, u175_100, u175_101, u175_102, u175_104, mw_os, wp_ite, mw_sw, Option.toList_some, Option.toList_none, List.cons_append, List.nil_append, true_and, and_true, if_true, if_false, mw_s_, mw_s_i, mw_s_r, mw_s_ii, mw_s_ir, mw_s_ri, mw_s_rr, mw_s_iii, mw_s_iir, mw_s_iri, mw_s_irr, mw_s_rii, mw_s_rir, mw_s_rri, mw_s_rrr, mw_s_iiii, mw_s_iiir, mw_s_iiri, mw_s_iirr, mw_s_irii, mw_s_irir, mw_s_irri, mw_s_irrr, mw_s_riii, mw_s_riir, mw_s_riri, mw_s_rirr, mw_s_rrii, mw_s_rrir, mw_s_rrri, mw_s_rrrr, W166, b2, W146, k2, bi_eq0, reduceCtorEq, OA_x hO, not_false_eq_true, not_true]
        refine MW141 (k := 2) hC hg (by decide) (by decide) (fun M' hl ha hc => ?_)
        simp only [u175_31, Option.toList_some, List.cons_append, List.nil_append]
        exact hQ M' hl ha hc
  · have b1 : decide ((0 : Int32) ≤ x1 ∧ x1 < 10) = false := ib_f (N := 10) hx
    have b2 : decide ((0 : Int32) ≤ x1 ∧ x1 ≤ 9) = false := il_f (N := 9) (by decide) hx
    refine ⟨.int (-nI 1), gRf g 1, gRf_ok hg, fun n M Q hC hQ => ?_, fun n M Q hC hQ => ?_⟩
    · simp only [e100, u100_0, u100_1, u100_3, u100_6, u100_9, u100_10, u100_11, u100_15, u100_16, u100_18, u100_21, u100_24, u100_25, u100_27, u100_30, u100_31, u100_32, u100_35, u100_36, u100_38, u100_41, u100_42, u100_43, u100_45, u100_48, u100_49, u100_51, u100_54, u100_55, u100_57, u100_58, u100_61, u100_64, u100_65, u100_66, u100_67, u100_68, u100_71, u100_74, u100_75, u100_76, u100_77, u100_79, u100_80, u100_83, u100_86, u100_87, u100_88, u100_89, u100_90, u100_93, u100_96, u100_97, u100_98, u100_99, u100_101, mw_os, wp_ite, mw_sw, Option.toList_some, Option.toList_none, List.cons_append, List.nil_append, true_and, and_true, if_true, if_false, mw_s_, mw_s_i, mw_s_r, mw_s_ii, mw_s_ir, mw_s_ri, mw_s_rr, mw_s_iii, mw_s_iir, mw_s_iri, mw_s_irr, mw_s_rii, mw_s_rir, mw_s_rri, mw_s_rrr, mw_s_iiii, mw_s_iiir, mw_s_iiri, mw_s_iirr, mw_s_irii, mw_s_irir, mw_s_irri, mw_s_irrr, mw_s_riii, mw_s_riir, mw_s_riri, mw_s_rirr, mw_s_rrii, mw_s_rrir, mw_s_rrri, mw_s_rrrr, W89, b1, bi_eq0, CS_x hC, not_true]
      refine CW84 (k := 1) hC hg (by decide) (by decide) (fun M' hl ha hc => ?_)
      simp only [u100_14, Option.toList_some, List.cons_append, List.nil_append]
      exact hQ M' hl ha hc
    · obtain ⟨o, r, hO, _, hR, hA⟩ := MSu hC
      simp only [e175, u175_0, u175_1, u175_4, u175_7, u175_8, u175_9, u175_13, u175_14, u175_15, u175_16, u175_19, u175_22, u175_25, u175_26, u175_28, u175_31, u175_32, u175_33, u175_34, u175_35, u175_38, u175_41, u175_44, u175_45, u175_46, u175_49, u175_51, u175_54, u175_56, u175_59, u175_60, u175_62, u175_63, u175_66, u175_67, u175_68, u175_69, u175_70, u175_71, u175_72, u175_75, u175_77, u175_78, u175_79, u175_80, u175_81, u175_83, u175_84, u175_87, u175_88, u175_89, u175_90, u175_91, u175_92, u175_93, u175_96, u175_98, u175_99, u175_100, u175_101, u175_102, u175_104, mw_os, wp_ite, mw_sw, Option.toList_some, Option.toList_none, List.cons_append, List.nil_append, true_and, and_true, if_true, if_false, mw_s_, mw_s_i, mw_s_r, mw_s_ii, mw_s_ir, mw_s_ri, mw_s_rr, mw_s_iii, mw_s_iir, mw_s_iri, mw_s_irr, mw_s_rii, mw_s_rir, mw_s_rri, mw_s_rrr, mw_s_iiii, mw_s_iiir, mw_s_iiri, mw_s_iirr, mw_s_irii, mw_s_irir, mw_s_irri, mw_s_irrr, mw_s_riii, mw_s_riir, mw_s_riri, mw_s_rirr, mw_s_rrii, mw_s_rrir, mw_s_rrri, mw_s_rrrr, W166, b2, bi_eq0, OA_x hO, not_true]
      refine MW141 (k := 1) hC hg (by decide) (by decide) (fun M' hl ha hc => ?_)
      simp only [u175_12, Option.toList_some, List.cons_append, List.nil_append]
      exact hQ M' hl ha hc
theorem W104 : Wp scr (n + 2) 104 [.int x1, .int x2] M Q ↔ Q (some (.int (bi (decide ((0 ≤ x1 ∧ x1 < 8) ∧ (0 ≤ x2 ∧ x2 < 8) ∧ ¬ x1 = x2))))) M := by
  simp only [e104, u104_0, u104_1, u104_3, u104_6, u104_9, u104_10, u104_12, u104_15, u104_18, u104_19, u104_20, u104_23, u104_24, u104_27, u104_28, mw_os, wp_ite, mw_sw, Option.toList_some, Option.toList_none, List.cons_append, List.nil_append, true_and, and_true, if_true, if_false, mw_s_, mw_s_i, mw_s_r, mw_s_ii, mw_s_ir, mw_s_ri, mw_s_rr, mw_s_iii, mw_s_iir, mw_s_iri, mw_s_irr, mw_s_rii, mw_s_rir, mw_s_rri, mw_s_rrr, mw_s_iiii, mw_s_iiir, mw_s_iiri, mw_s_iirr, mw_s_irii, mw_s_irir, mw_s_irri, mw_s_irrr, mw_s_riii, mw_s_riir, mw_s_riri, mw_s_rirr, mw_s_rrii, mw_s_rrir, mw_s_rrri, mw_s_rrrr, W89, bi_eq0]
  by_cases h1 : (0 ≤ x1 ∧ x1 < 8) <;> by_cases h2 : (0 ≤ x2 ∧ x2 < 8) <;> by_cases h3 : x1 = x2 <;> simp [h1, h2, h3, bi]
/-! the places of panels -/
def okP8 (x : tbE) : Bool := (List.range 8).all (fun p => Nat.blt (dgt x.1 p) 4 && Nat.blt (dgt x.1 (8 + p)) 2)
set_option maxRecDepth 100000 in
theorem TB_p8 : (tgs.all (fun a => a.all (fun b => b.all okP8))) = true := by decide +kernel
theorem TB_at8 {x : tbE} (h : x ∈ TB) : okP8 x = true := by
  unfold TB at h
  rw [List.mem_flatten] at h
  obtain ⟨l, h1, h2⟩ := h
  rw [List.mem_flatten] at h1
  obtain ⟨a, h3, h4⟩ := h1
  exact List.all_eq_true.mp (List.all_eq_true.mp (List.all_eq_true.mp TB_p8 a h3) l h4) x h2
theorem GT_cr {y : tbE} {u : LV} {p : Nat} (h : GT y u) (hp : p < 8) : ∃ c r, c < 4 ∧ r < 2 ∧ gi (vC u) (nI p) = nI c ∧ gi (vR u) (nI p) = nI r := by
  have h8 := TB_at8 h.1
  have h9 := List.all_eq_true.mp h8 p (List.mem_range.mpr hp)
  rw [Bool.and_eq_true, Nat.blt_eq, Nat.blt_eq] at h9
  refine ⟨_, _, h9.1, h9.2, ?_, ?_⟩
  · rw [eqV_eq h.2]
    show gi ((List.range 8).map (fun i => dg y.1 (0 + i))) (nI p) = _
    rw [gi_map hp (by omega), Nat.zero_add]; rfl
  · rw [eqV_eq h.2]
    show gi ((List.range 8).map (fun i => dg y.1 (8 + i))) (nI p) = _
    rw [gi_map hp (by omega)]; rfl
theorem GT_oc {y : tbE} {u : LV} {p q : Nat} (h : GT y u) (hp : p < 8) (hq : q < 8) : mOC (panL u) p q = decide (vX u (nI p) = vX u (nI q)) := by
  obtain ⟨c, r, h1, h2, h3, h4⟩ := GT_cr h hp
  obtain ⟨c', r', k1, k2, k3, k4⟩ := GT_cr h hq
  unfold mOC vX
  rw [pan_c _ hp, pan_c _ hq, pan_r _ hp, pan_r _ hq, h3, h4, k3, k4, m4n, m4n, nI_add, nI_add]
  rw [decide_eq_decide, nI_eq (by omega) (by omega), nI_eq (by omega) (by omega), nI_eq (by omega) (by omega)]
  omega
theorem J_over (hg : SGOK g) (x1 x2 : Int32) : JO scr 103 179 [.int x1, .int x2] g := by
  have rf : ∀ (d1 : decide ((0 ≤ x1 ∧ x1 < 8) ∧ (0 ≤ x2 ∧ x2 < 8) ∧ ¬ x1 = x2) = false) (hm : decide ((0 : Int32) ≤ x1 ∧ x1 ≤ 7) = false ∨ decide ((0 : Int32) ≤ x2 ∧ x2 ≤ 7) = false ∨ x1 = x2), JO scr 103 179 [.int x1, .int x2] g := by
    intro d1 hm
    refine ⟨.int (-nI 1), gRf g 1, gRf_ok hg, fun n M Q hC hQ => ?_, fun n M Q hC hQ => ?_⟩
    · simp only [e103, u103_0, u103_1, u103_2, u103_5, u103_8, u103_9, u103_10, u103_14, u103_15, u103_18, u103_21, u103_22, u103_23, u103_26, u103_29, mw_os, wp_ite, mw_sw, Option.toList_some, Option.toList_none, List.cons_append, List.nil_append, true_and, and_true, if_true, if_false, mw_s_, mw_s_i, mw_s_r, mw_s_ii, mw_s_ir, mw_s_ri, mw_s_rr, mw_s_iii, mw_s_iir, mw_s_iri, mw_s_irr, mw_s_rii, mw_s_rir, mw_s_rri, mw_s_rrr, mw_s_iiii, mw_s_iiir, mw_s_iiri, mw_s_iirr, mw_s_irii, mw_s_irir, mw_s_irri, mw_s_irrr, mw_s_riii, mw_s_riir, mw_s_riri, mw_s_rirr, mw_s_rrii, mw_s_rrir, mw_s_rrri, mw_s_rrrr, W104, d1, bi_eq0, CS_x hC, not_true]
      refine CW84 (k := 1) hC hg (by decide) (by decide) (fun M' hl ha hc => ?_)
      simp only [u103_13, Option.toList_some, List.cons_append, List.nil_append]
      exact hQ M' hl ha hc
    · obtain ⟨o, r, hO, _, hR, hA⟩ := MSu hC
      have key : Wp scr (n + 39) 141 [.ref 129, .int (-1)] M (fun r' M' => wp scr (n + 39) mb_179 24 [some (.ref 129), some (.int x1), some (.int x2)] (r'.toList ++ []) M' Q) := by
        refine MW141 (k := 1) hC hg (by decide) (by decide) (fun M' hl ha hc => ?_)
        simp only [u179_24, Option.toList_some, List.cons_append, List.nil_append]
        exact hQ M' hl ha hc
      cases e1 : decide ((0 : Int32) ≤ x1 ∧ x1 ≤ 7)
      · simp only [e179, u179_0, u179_1, u179_4, u179_7, u179_8, u179_11, u179_14, u179_15, u179_16, u179_19, u179_20, u179_21, u179_25, u179_26, u179_29, u179_30, u179_31, u179_34, u179_37, u179_38, u179_41, u179_43, u179_44, u179_45, u179_46, u179_47, u179_48, u179_49, u179_50, u179_51, u179_54, u179_56, u179_57, u179_58, u179_59, u179_60, u179_61, u179_62, u179_63, u179_66, u179_67, u179_70, u179_71, mw_os, wp_ite, mw_sw, Option.toList_some, Option.toList_none, List.cons_append, List.nil_append, true_and, and_true, if_true, if_false, mw_s_, mw_s_i, mw_s_r, mw_s_ii, mw_s_ir, mw_s_ri, mw_s_rr, mw_s_iii, mw_s_iir, mw_s_iri, mw_s_irr, mw_s_rii, mw_s_rir, mw_s_rri, mw_s_rrr, mw_s_iiii, mw_s_iiir, mw_s_iiri, mw_s_iirr, mw_s_irii, mw_s_irir, mw_s_irri, mw_s_irrr, mw_s_riii, mw_s_riir, mw_s_riri, mw_s_rirr, mw_s_rrii, mw_s_rrir, mw_s_rrri, mw_s_rrrr, W168, e1, bi_eq0, OA_x hO]
        exact key
      · cases e2 : decide ((0 : Int32) ≤ x2 ∧ x2 ≤ 7)
        · simp only [e179, u179_0, u179_1, u179_4, u179_7, u179_8, u179_11, u179_14, u179_15, u179_16, u179_19, u179_20, u179_21, u179_25, u179_26, u179_29, u179_30, u179_31, u179_34, u179_37, u179_38, u179_41, u179_43, u179_44, u179_45, u179_46, u179_47, u179_48, u179_49, u179_50, u179_51, u179_54, u179_56, u179_57, u179_58, u179_59, u179_60, u179_61, u179_62, u179_63, u179_66, u179_67, u179_70, u179_71, mw_os, wp_ite, mw_sw, Option.toList_some, Option.toList_none, List.cons_append, List.nil_append, true_and, and_true, if_true, if_false, mw_s_, mw_s_i, mw_s_r, mw_s_ii, mw_s_ir, mw_s_ri, mw_s_rr, mw_s_iii, mw_s_iir, mw_s_iri, mw_s_irr, mw_s_rii, mw_s_rir, mw_s_rri, mw_s_rrr, mw_s_iiii, mw_s_iiir, mw_s_iiri, mw_s_iirr, mw_s_irii, mw_s_irir, mw_s_irri, mw_s_irrr, mw_s_riii, mw_s_riir, mw_s_riri, mw_s_rirr, mw_s_rrii, mw_s_rrir, mw_s_rrri, mw_s_rrrr, W168, e1, e2, bi_eq0, OA_x hO, reduceCtorEq]
          exact key
        · rcases hm with hm | hm | hm
          · rw [e1] at hm; cases hm
          · rw [e2] at hm; cases hm
          · simp only [e179, u179_0, u179_1, u179_4, u179_7, u179_8, u179_11, u179_14, u179_15, u179_16, u179_19, u179_20, u179_21, u179_25, u179_26, u179_29, u179_30, u179_31, u179_34, u179_37, u179_38, u179_41, u179_43, u179_44, u179_45, u179_46, u179_47, u179_48, u179_49, u179_50, u179_51, u179_54, u179_56, u179_57, u179_58, u179_59, u179_60, u179_61, u179_62, u179_63, u179_66, u179_67, u179_70, u179_71, mw_os, wp_ite, mw_sw, Option.toList_some, Option.toList_none, List.cons_append, List.nil_append, true_and, and_true, if_true, if_false, mw_s_, mw_s_i, mw_s_r, mw_s_ii, mw_s_ir, mw_s_ri, mw_s_rr, mw_s_iii, mw_s_iir, mw_s_iri, mw_s_irr, mw_s_rii, mw_s_rir, mw_s_rri, mw_s_rrr, mw_s_iiii, mw_s_iiir, mw_s_iiri, mw_s_iirr, mw_s_irii, mw_s_irir, mw_s_irri, mw_s_irrr, mw_s_riii, mw_s_riir, mw_s_riri, mw_s_rirr, mw_s_rrii, mw_s_rrir, mw_s_rrri, mw_s_rrrr, W168, e1, e2, bi_eq0, OA_x hO, reduceCtorEq, hm, not_true]
            subst hm
            exact key
  rcases ixc x1 (N := 8) (by decide) with ⟨i, hi, rfl⟩ | hx
  · rcases ixc x2 (N := 8) (by decide) with ⟨j, hj, rfl⟩ | hy
    · have a1 : (0 : Int32) ≤ nI i ∧ nI i < 8 := of_decide_eq_true (ib_t (N := 8) hi (by decide))
      have a2 : (0 : Int32) ≤ nI j ∧ nI j < 8 := of_decide_eq_true (ib_t (N := 8) hj (by decide))
      by_cases hij : i = j
      · subst hij
        exact rf (decide_eq_false (fun z => z.2.2 rfl)) (Or.inr (Or.inr rfl))
      · have hne : ¬ nI i = nI j := fun z => hij ((nI_eq8 hi hj).mp z)
        have d1 : decide ((0 ≤ nI i ∧ nI i < 8) ∧ (0 ≤ nI j ∧ nI j < 8) ∧ ¬ nI i = nI j) = true := decide_eq_true ⟨a1, a2, hne⟩
        have b1 : decide ((0 : Int32) ≤ nI i ∧ nI i ≤ 7) = true := il_t (N := 7) hi (by decide)
        have b2 : decide ((0 : Int32) ≤ nI j ∧ nI j ≤ 7) = true := il_t (N := 7) hj (by decide)
        refine ⟨.int (bi (decide (vX (gU g) (nI i) = vX (gU g) (nI j) ∧ gi (vL (gU g)) (nI j) < gi (vL (gU g)) (nI i)))), g, hg, fun n M Q hC hQ => ?_, fun n M Q hC hQ => ?_⟩
        · have hq := Csame hC hQ
          have w33 : ∀ Q : Option Value → mm_M → Prop, Wp scr (n + 39) 33 [.ref (la 1 (gN g).2.1), .int (nI i), .int (nI j)] M Q ↔ Q (some (.int (bi (decide (vX (gU g) (nI i) = vX (gU g) (nI j) ∧ gi (vL (gU g)) (nI j) < gi (vL (gU g)) (nI i)))))) M := fun Q => (W33 (n := n + 37) (NL hC) (gU_ok hg) (nI_in8 hi) (nI_in8 hj)).trans (by unfold bi; simp only [decide_eq_true_eq])
          simp only [e103, u103_0, u103_1, u103_2, u103_5, u103_8, u103_9, u103_10, u103_13, u103_14, u103_15, u103_18, u103_21, u103_22, u103_23, u103_26, u103_29, mw_os, wp_ite, mw_sw, Option.toList_some, Option.toList_none, List.cons_append, List.nil_append, true_and, and_true, if_true, if_false, mw_s_, mw_s_i, mw_s_r, mw_s_ii, mw_s_ir, mw_s_ri, mw_s_rr, mw_s_iii, mw_s_iir, mw_s_iri, mw_s_irr, mw_s_rii, mw_s_rir, mw_s_rri, mw_s_rrr, mw_s_iiii, mw_s_iiir, mw_s_iiri, mw_s_iirr, mw_s_irii, mw_s_irir, mw_s_irri, mw_s_irrr, mw_s_riii, mw_s_riir, mw_s_riri, mw_s_rirr, mw_s_rrii, mw_s_rrir, mw_s_rrri, mw_s_rrrr, mm_sto1, mm_clr, mm_isL, List.getElem?_cons_zero, List.getElem?_cons_succ, List.set_cons_zero, List.set_cons_succ, Bool.false_eq_true, W104, d1, bi_eq0, reduceCtorEq, not_false_eq_true, CS_0 hC, NS_x hC, CW73 hC hg, LA_x (NL hC), w33, W95]
          exact hq
        · have hq := Msame hC hQ
          obtain ⟨o, r, hO, _, hR, hA⟩ := MSu hC
          obtain ⟨y, hG, _⟩ := gU_GT hg
          have hP : rP r = panL (gU g) := hR.2.2.2.2.2.1
          have i2 : (40 : Int32) + 4 * nI i + 2 = nI (40 + (4 * i + 2)) := by rw [m4n, c40]; exact nI_add _ 2
          have j2 : (40 : Int32) + 4 * nI j + 2 = nI (40 + (4 * j + 2)) := by rw [m4n, c40]; exact nI_add _ 2
          have p1 : mm_at (rowL r) (nI (40 + (4 * i + 2))) = some (gi (vL (gU g)) (nI i)) := (rd_P hR.1 (by omega)).trans (by rw [hP, pan_l _ hi])
          have p2 : mm_at (rowL r) (nI (40 + (4 * j + 2))) = some (gi (vL (gU g)) (nI j)) := (rd_P hR.1 (by omega)).trans (by rw [hP, pan_l _ hj])
          have oc : mOC (rP r) i j = decide (vX (gU g) (nI i) = vX (gU g) (nI j)) := by rw [hP]; exact GT_oc hG hi hj
          simp only [e179, u179_0, u179_1, u179_4, u179_7, u179_8, u179_11, u179_14, u179_15, u179_16, u179_19, u179_20, u179_21, u179_24, u179_25, u179_26, u179_29, u179_30, u179_31, u179_34, u179_37, u179_38, u179_41, u179_43, u179_44, u179_45, u179_46, u179_47, u179_48, u179_49, u179_50, u179_51, u179_54, u179_56, u179_57, u179_58, u179_59, u179_60, u179_61, u179_62, u179_63, u179_66, u179_67, u179_70, u179_71, mw_os, wp_ite, mw_sw, Option.toList_some, Option.toList_none, List.cons_append, List.nil_append, true_and, and_true, if_true, if_false, mw_s_, mw_s_i, mw_s_r, mw_s_ii, mw_s_ir, mw_s_ri, mw_s_rr, mw_s_iii, mw_s_iir, mw_s_iri, mw_s_irr, mw_s_rii, mw_s_rir, mw_s_rri, mw_s_rrr, mw_s_iiii, mw_s_iiir, mw_s_iiri, mw_s_iirr, mw_s_irii, mw_s_irir, mw_s_irri, mw_s_irrr, mw_s_riii, mw_s_riir, mw_s_riri, mw_s_rirr, mw_s_rrii, mw_s_rrir, mw_s_rrri, mw_s_rrrr, W168, b1, b2, bi_eq0, reduceCtorEq, not_false_eq_true, hne, OA_0 hO, W163 hA hR.1 hi hj, oc, RA_ld hA, i2, j2, p1, p2]
          by_cases e1 : vX (gU g) (nI i) = vX (gU g) (nI j)
          · by_cases e2 : gi (vL (gU g)) (nI j) < gi (vL (gU g)) (nI i)
            · have e3 : ¬ gi (vL (gU g)) (nI i) ≤ gi (vL (gU g)) (nI j) := fun z => Int32.not_lt.mpr z e2
              simp only [e1, e2, e3, and_true, decide_true, bi_t, reduceCtorEq, if_false, true_and] at hq ⊢
              exact hq
            · have e3 : gi (vL (gU g)) (nI i) ≤ gi (vL (gU g)) (nI j) := Int32.not_lt.mp e2
              simp only [e1, e2, e3, and_false, decide_true, decide_false, bi_f, reduceCtorEq, if_false, if_true] at hq ⊢
              exact hq
          · simp only [e1, false_and, decide_false, bi_f, if_true] at hq ⊢
            exact hq
    · exact rf (decide_eq_false (fun z => hy z.2.1)) (Or.inr (Or.inl (il_f (N := 7) (by decide) hy)))
  · exact rf (decide_eq_false (fun z => hx z.1)) (Or.inl (il_f (N := 7) (by decide) hx))
end O3
