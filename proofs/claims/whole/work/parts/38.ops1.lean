section O1
variable {scr : List Int32} {n : Nat} {M : mm_M} {Q : Option Value → mm_M → Prop} {g : SG}
theorem MSu (h : MS M g) : ∃ o r, OA M o ∧ o.1 = (gH g, nI (gTc g), nI (gZn g)) ∧ MR r (gN g) ∧ RA M 130 (rowL r) := by
  obtain ⟨⟨_, o, a2, a3⟩, ⟨r, a4, a5⟩, _⟩ := h
  exact ⟨o, r, a2, a3, a4, a5⟩
/-- the state is as it was -/
theorem Csame {r : Value} (hC : CS M g) (hQ : CPost M g r Q) : Q (some r) M := hQ M rfl Ag_rf hC
theorem Msame {r : Value} (hC : MS M g) (hQ : MPost M g r Q) : Q (some r) M := hQ M rfl Ag_rf hC
theorem six (x : Int32) : (x = 0 ∨ x = 1 ∨ x = 2 ∨ x = 3 ∨ x = 4 ∨ x = 5) ∨ ¬ (0 ≤ x ∧ x < nI 6) := by
  rcases ixc x (N := 6) (by decide) with ⟨j, h1, h2⟩ | h
  · left
    subst h2
    rcases (show j = 0 ∨ j = 1 ∨ j = 2 ∨ j = 3 ∨ j = 4 ∨ j = 5 by omega) with rfl | rfl | rfl | rfl | rfl | rfl
    · exact Or.inl rfl
    · exact Or.inr (Or.inl rfl)
    · exact Or.inr (Or.inr (Or.inl rfl))
    · exact Or.inr (Or.inr (Or.inr (Or.inl rfl)))
    · exact Or.inr (Or.inr (Or.inr (Or.inr (Or.inl rfl))))
    · exact Or.inr (Or.inr (Or.inr (Or.inr (Or.inr rfl))))
  · exact Or.inr h
theorem ne_of_out {x : Int32} {N j : Nat} (h : ¬ (0 ≤ x ∧ x < nI N)) (hj : j < N) (hN : N < 2 ^ 31) : ¬ x = nI j := fun z => h ⟨by rw [z]; exact nI_pos' (by omega), by rw [z]; exact nI_lt hj hN⟩
theorem i_in5 : decide ((0 : Int32) ≤ 0 ∧ (0 : Int32) ≤ 5) = true := by decide
theorem J_crease (hg : SGOK g) (x1 x2 : Int32) : JO scr 93 165 [.int x1, .int x2] g := by
  rcases ixc x1 (N := 10) (by decide) with ⟨j, hj, rfl⟩ | hx
  · have b1 : decide ((0 : Int32) ≤ nI j ∧ nI j < 10) = true := ib_t hj (by decide)
    have b2 : decide ((0 : Int32) ≤ nI j ∧ nI j ≤ 9) = true := il_t (N := 9) hj (by decide)
    rcases six x2 with h6 | hy
    · have d1 : decide ((0 : Int32) ≤ x2 ∧ x2 ≤ 5) = true := by rcases h6 with rfl | rfl | rfl | rfl | rfl | rfl <;> decide
      have hi : inB x2.toInt64 0 5 = true := (inB_eq x2 0 5).trans d1
      have e20 : (10 : Int32) * 2 = 20 := by decide
      have e30 : (10 : Int32) * 3 = 30 := by decide
      have e10 : (10 : Int32) * 1 = 10 := by decide
      have e00 : (10 : Int32) * 0 = 0 := by decide
      refine ⟨.int (if x2 = 0 then gi (sK (gN g).1) (nI j) else if x2 = 1 then gi (sF (gN g).1) (nI j) else if x2 = 2 then gi (sWo (gN g).1) (nI j) else if x2 = 3 then gi (vS (gU g)) (nI j) else if x2 = 4 then efO (gN g).1 j 1 else efO (gN g).1 j 2), g, hg, fun n M Q hC hQ => ?_, fun n M Q hC hQ => ?_⟩
      · have hq := Csame hC hQ
        simp only [e93, u93_0, u93_1, u93_3, u93_6, u93_9, u93_10, u93_11, u93_14, u93_15, u93_16, u93_56, u93_57, u93_60, u93_63, u93_64, u93_65, u93_66, u93_67, u93_70, u93_73, u93_74, u93_75, u93_76, u93_77, u93_80, u93_83, u93_84, u93_85, u93_86, u93_87, u93_90, u93_93, u93_96, u93_97, u93_98, u93_99, u93_100, u93_103, u93_104, u93_105, u93_108, u93_109, u93_110, u93_113, u93_114, u93_115, u93_118, u93_119, u93_120, u93_122, u93_125, mw_os, wp_ite, mw_sw, Option.toList_some, Option.toList_none, List.cons_append, List.nil_append, true_and, and_true, if_true, if_false, mw_s_, mw_s_i, mw_s_r, mw_s_ii, mw_s_ir, mw_s_ri, mw_s_rr, mw_s_iii, mw_s_iir, mw_s_iri, mw_s_irr, mw_s_rii, mw_s_rir, mw_s_rri, mw_s_rrr, mw_s_iiii, mw_s_iiir, mw_s_iiri, mw_s_iirr, mw_s_irii, mw_s_irir, mw_s_irri, mw_s_irrr, mw_s_riii, mw_s_riir, mw_s_riri, mw_s_rirr, mw_s_rrii, mw_s_rrir, mw_s_rrri, mw_s_rrrr, W89, b1, bi_eq0, reduceCtorEq, CS_0 hC, NS_1 hC, NS_2 hC, NS_3 hC, NS_k hC, NS_f hC, NS_w hC, NS_x hC, CW73 hC hg, LA_4 (NL hC), LA_s (NL hC), gK_at hg hj, gF_at hg hj, gW_at hg hj, uS_at hg hj, W72 (s := 1) (NS hC) (gSOK hg) hj, not_false_eq_true]
        rcases h6 with rfl | rfl | rfl | rfl | rfl | rfl <;> exact hq
      · have hq := Msame hC hQ
        obtain ⟨o, r, hO, _, hR, hA⟩ := MSu hC
        have hv := hR.1
        have f1 := mEf_eq (k := gi (sK (gN g).1) (nI j)) (f := gi (sF (gN g).1) (nI j)) (w := gi (sWo (gN g).1) (nI j)) (Or.inl rfl)
        have f2 := mEf_eq (k := gi (sK (gN g).1) (nI j)) (f := gi (sF (gN g).1) (nI j)) (w := gi (sWo (gN g).1) (nI j)) (Or.inr rfl)
        have rK' : mm_at (rowL r) (nI j) = some (gi (sK (gN g).1) (nI j)) := (rd_K hv hj).trans (by rw [hR.2.1])
        have rF' : mm_at (rowL r) (nI (10 + j)) = some (gi (sF (gN g).1) (nI j)) := (rd_F hv hj).trans (by rw [hR.2.2.1])
        have rO' : mm_at (rowL r) (nI (20 + j)) = some (gi (sWo (gN g).1) (nI j)) := (rd_O hv hj).trans (by rw [hR.2.2.2.1])
        have rS' : mm_at (rowL r) (nI (30 + j)) = some (gi (vS (gU g)) (nI j)) := (rd_S hv hj).trans (by rw [hR.2.2.2.2.1]; rfl)
        have w1 : ∀ Q : Option Value → mm_M → Prop, Wp scr (n + 39) 158 [.ref 130, .int (nI j), .int 1] M Q ↔ Q (some (.int (efO (gN g).1 j 1))) M := fun Q => by
          have := W158 (scr := scr) (n := n + 37) (Q := Q) (x3 := 1) hA hv hj
          unfold mEo at this
          rw [hR.2.1, hR.2.2.1, hR.2.2.2.1, f1] at this
          exact this
        have w2 : ∀ Q : Option Value → mm_M → Prop, Wp scr (n + 39) 158 [.ref 130, .int (nI j), .int 2] M Q ↔ Q (some (.int (efO (gN g).1 j 2))) M := fun Q => by
          have := W158 (scr := scr) (n := n + 37) (Q := Q) (x3 := 2) hA hv hj
          unfold mEo at this
          rw [hR.2.1, hR.2.2.1, hR.2.2.2.1, f2] at this
          exact this
        rcases h6 with rfl | rfl | rfl | rfl | rfl | rfl
        · simp only [e165, u165_0, u165_1, u165_4, u165_7, u165_8, u165_9, u165_12, u165_13, u165_14, u165_15, u165_16, u165_19, u165_22, u165_25, u165_26, u165_28, u165_31, u165_32, u165_33, u165_34, u165_37, u165_38, u165_41, u165_43, u165_44, u165_45, u165_46, u165_47, u165_48, u165_51, u165_52, u165_55, u165_56, u165_57, u165_58, u165_59, u165_62, mw_os, wp_ite, mw_sw, Option.toList_some, Option.toList_none, List.cons_append, List.nil_append, true_and, and_true, if_true, if_false, mw_s_, mw_s_i, mw_s_r, mw_s_ii, mw_s_ir, mw_s_ri, mw_s_rr, mw_s_iii, mw_s_iir, mw_s_iri, mw_s_irr, mw_s_rii, mw_s_rir, mw_s_rri, mw_s_rrr, mw_s_iiii, mw_s_iiir, mw_s_iiri, mw_s_iirr, mw_s_irii, mw_s_irir, mw_s_irri, mw_s_irrr, mw_s_riii, mw_s_riir, mw_s_riri, mw_s_rirr, mw_s_rrii, mw_s_rrir, mw_s_rrri, mw_s_rrrr, W166, b2, W146, hi, bi_eq0, reduceCtorEq, OA_0 hO, RA_ld hA, not_false_eq_true, show ((4 : Int32) ≤ 0) ↔ False by decide, e00, c0, rK']
          exact hq
        · simp only [e165, u165_0, u165_1, u165_4, u165_7, u165_8, u165_9, u165_12, u165_13, u165_14, u165_15, u165_16, u165_19, u165_22, u165_25, u165_26, u165_28, u165_31, u165_32, u165_33, u165_34, u165_37, u165_38, u165_41, u165_43, u165_44, u165_45, u165_46, u165_47, u165_48, u165_51, u165_52, u165_55, u165_56, u165_57, u165_58, u165_59, u165_62, mw_os, wp_ite, mw_sw, Option.toList_some, Option.toList_none, List.cons_append, List.nil_append, true_and, and_true, if_true, if_false, mw_s_, mw_s_i, mw_s_r, mw_s_ii, mw_s_ir, mw_s_ri, mw_s_rr, mw_s_iii, mw_s_iir, mw_s_iri, mw_s_irr, mw_s_rii, mw_s_rir, mw_s_rri, mw_s_rrr, mw_s_iiii, mw_s_iiir, mw_s_iiri, mw_s_iirr, mw_s_irii, mw_s_irir, mw_s_irri, mw_s_irrr, mw_s_riii, mw_s_riir, mw_s_riri, mw_s_rirr, mw_s_rrii, mw_s_rrir, mw_s_rrri, mw_s_rrrr, W166, b2, W146, hi, bi_eq0, reduceCtorEq, OA_0 hO, RA_ld hA, not_false_eq_true, show ((4 : Int32) ≤ 1) ↔ False by decide, e10, c10, rF']
          exact hq
        · simp only [e165, u165_0, u165_1, u165_4, u165_7, u165_8, u165_9, u165_12, u165_13, u165_14, u165_15, u165_16, u165_19, u165_22, u165_25, u165_26, u165_28, u165_31, u165_32, u165_33, u165_34, u165_37, u165_38, u165_41, u165_43, u165_44, u165_45, u165_46, u165_47, u165_48, u165_51, u165_52, u165_55, u165_56, u165_57, u165_58, u165_59, u165_62, mw_os, wp_ite, mw_sw, Option.toList_some, Option.toList_none, List.cons_append, List.nil_append, true_and, and_true, if_true, if_false, mw_s_, mw_s_i, mw_s_r, mw_s_ii, mw_s_ir, mw_s_ri, mw_s_rr, mw_s_iii, mw_s_iir, mw_s_iri, mw_s_irr, mw_s_rii, mw_s_rir, mw_s_rri, mw_s_rrr, mw_s_iiii, mw_s_iiir, mw_s_iiri, mw_s_iirr, mw_s_irii, mw_s_irir, mw_s_irri, mw_s_irrr, mw_s_riii, mw_s_riir, mw_s_riri, mw_s_rirr, mw_s_rrii, mw_s_rrir, mw_s_rrri, mw_s_rrrr, W166, b2, W146, hi, bi_eq0, reduceCtorEq, OA_0 hO, RA_ld hA, not_false_eq_true, show ((4 : Int32) ≤ 2) ↔ False by decide, e20, c20, rO']
          exact hq
        · simp only [e165, u165_0, u165_1, u165_4, u165_7, u165_8, u165_9, u165_12, u165_13, u165_14, u165_15, u165_16, u165_19, u165_22, u165_25, u165_26, u165_28, u165_31, u165_32, u165_33, u165_34, u165_37, u165_38, u165_41, u165_43, u165_44, u165_45, u165_46, u165_47, u165_48, u165_51, u165_52, u165_55, u165_56, u165_57, u165_58, u165_59, u165_62, mw_os, wp_ite, mw_sw, Option.toList_some, Option.toList_none, List.cons_append, List.nil_append, true_and, and_true, if_true, if_false, mw_s_, mw_s_i, mw_s_r, mw_s_ii, mw_s_ir, mw_s_ri, mw_s_rr, mw_s_iii, mw_s_iir, mw_s_iri, mw_s_irr, mw_s_rii, mw_s_rir, mw_s_rri, mw_s_rrr, mw_s_iiii, mw_s_iiir, mw_s_iiri, mw_s_iirr, mw_s_irii, mw_s_irir, mw_s_irri, mw_s_irrr, mw_s_riii, mw_s_riir, mw_s_riri, mw_s_rirr, mw_s_rrii, mw_s_rrir, mw_s_rrri, mw_s_rrrr, W166, b2, W146, hi, bi_eq0, reduceCtorEq, OA_0 hO, RA_ld hA, not_false_eq_true, show ((4 : Int32) ≤ 3) ↔ False by decide, e30, c30, rS']
          exact hq
        · simp only [e165, u165_0, u165_1, u165_4, u165_7, u165_8, u165_9, u165_12, u165_13, u165_14, u165_15, u165_16, u165_19, u165_22, u165_25, u165_26, u165_28, u165_31, u165_32, u165_33, u165_34, u165_37, u165_38, u165_41, u165_43, u165_44, u165_45, u165_46, u165_47, u165_48, u165_51, u165_52, u165_55, u165_56, u165_57, u165_58, u165_59, u165_62, mw_os, wp_ite, mw_sw, Option.toList_some, Option.toList_none, List.cons_append, List.nil_append, true_and, and_true, if_true, if_false, mw_s_, mw_s_i, mw_s_r, mw_s_ii, mw_s_ir, mw_s_ri, mw_s_rr, mw_s_iii, mw_s_iir, mw_s_iri, mw_s_irr, mw_s_rii, mw_s_rir, mw_s_rri, mw_s_rrr, mw_s_iiii, mw_s_iiir, mw_s_iiri, mw_s_iirr, mw_s_irii, mw_s_irir, mw_s_irri, mw_s_irrr, mw_s_riii, mw_s_riir, mw_s_riri, mw_s_rirr, mw_s_rrii, mw_s_rrir, mw_s_rrri, mw_s_rrrr, W166, b2, W146, hi, bi_eq0, reduceCtorEq, OA_0 hO, RA_ld hA, not_false_eq_true, show ((4 : Int32) ≤ 4) ↔ True by decide, show (4 : Int32) - 3 = 1 by decide, w1]
          exact hq
        · simp only [e165, u165_0, u165_1, u165_4, u165_7, u165_8, u165_9, u165_12, u165_13, u165_14, u165_15, u165_16, u165_19, u165_22, u165_25, u165_26, u165_28, u165_31, u165_32, u165_33, u165_34, u165_37, u165_38, u165_41, u165_43, u165_44, u165_45, u165_46, u165_47, u165_48, u165_51, u165_52, u165_55, u165_56, u165_57, u165_58, u165_59, u165_62, mw_os, wp_ite, mw_sw, Option.toList_some, Option.toList_none, List.cons_append, List.nil_append, true_and, and_true, if_true, if_false, mw_s_, mw_s_i, mw_s_r, mw_s_ii, mw_s_ir, mw_s_ri, mw_s_rr, mw_s_iii, mw_s_iir, mw_s_iri, mw_s_irr, mw_s_rii, mw_s_rir, mw_s_rri, mw_s_rrr, mw_s_iiii, mw_s_iiir, mw_s_iiri, mw_s_iirr, mw_s_irii, mw_s_irir, mw_s_irri, mw_s_irrr, mw_s_riii, mw_s_riir, mw_s_riri, mw_s_rirr, mw_s_rrii, mw_s_rrir, mw_s_rrri, mw_s_rrrr, W166, b2, W146, hi, bi_eq0, reduceCtorEq, OA_0 hO, RA_ld hA, not_false_eq_true, show ((4 : Int32) ≤ 5) ↔ True by decide, show (5 : Int32) - 3 = 2 by decide, w2]
          exact hq
    · have d1 : decide ((0 : Int32) ≤ x2 ∧ x2 ≤ 5) = false := il_f (N := 5) (by decide) hy
      have hi : inB x2.toInt64 0 5 = false := (inB_eq x2 0 5).trans d1
      have n0 : ¬ x2 = 0 := ne_of_out (j := 0) hy (by decide) (by decide)
      have n1 : ¬ x2 = 1 := ne_of_out (j := 1) hy (by decide) (by decide)
      have n2 : ¬ x2 = 2 := ne_of_out (j := 2) hy (by decide) (by decide)
      have n3 : ¬ x2 = 3 := ne_of_out (j := 3) hy (by decide) (by decide)
      have n4 : ¬ x2 = 4 := ne_of_out (j := 4) hy (by decide) (by decide)
      have n5 : ¬ x2 = 5 := ne_of_out (j := 5) hy (by decide) (by decide)
      refine ⟨.int (-nI 2), gRf g 2, gRf_ok hg, fun n M Q hC hQ => ?_, fun n M Q hC hQ => ?_⟩
      · simp only [e93, u93_0, u93_1, u93_3, u93_6, u93_9, u93_10, u93_11, u93_14, u93_15, u93_16, u93_56, u93_57, u93_60, u93_63, u93_64, u93_65, u93_66, u93_67, u93_70, u93_73, u93_74, u93_75, u93_76, u93_77, u93_80, u93_83, u93_84, u93_85, u93_86, u93_87, u93_90, u93_93, u93_96, u93_97, u93_98, u93_99, u93_100, u93_103, u93_104, u93_105, u93_108, u93_109, u93_110, u93_113, u93_114, u93_115, u93_118, u93_119, u93_120, u93_122, mw_os, wp_ite, mw_sw, Option.toList_some, Option.toList_none, List.cons_append, List.nil_append, true_and, and_true, if_true, if_false, mw_s_, mw_s_i, mw_s_r, mw_s_ii, mw_s_ir, mw_s_ri, mw_s_rr, mw_s_iii, mw_s_iir, mw_s_iri, mw_s_irr, mw_s_rii, mw_s_rir, mw_s_rri, mw_s_rrr, mw_s_iiii, mw_s_iiir, mw_s_iiri, mw_s_iirr, mw_s_irii, mw_s_irir, mw_s_irri, mw_s_irrr, mw_s_riii, mw_s_riir, mw_s_riri, mw_s_rirr, mw_s_rrii, mw_s_rrir, mw_s_rrri, mw_s_rrrr, W89, b1, bi_eq0, reduceCtorEq, CS_x hC, not_false_eq_true, n0, n1, n2, n3, n4, n5]
        refine CW84 (k := 2) hC hg (by decide) (by decide) (fun M' hl ha hc => ?_)
        simp only [u93_125, Option.toList_some, List.cons_append, List.nil_append]
        exact hQ M' hl ha hc
      · obtain ⟨o, r, hO, _, hR, hA⟩ := MSu hC
        simp only [e165, u165_0, u165_1, u165_4, u165_7, u165_8, u165_9, u165_12, u165_13, u165_14, u165_15, u165_16, u165_19, u165_22, u165_25, u165_26, u165_28, u165_32, u165_33, u165_34, u165_37, u165_38, u165_41, u165_43, u165_44, u165_45, u165_46, u165_47, u165_48, u165_51, u165_52, u165_55, u165_56, u165_57, u165_58, u165_59, u165_62, mw_os, wp_ite, mw_sw, Option.toList_some, Option.toList_none, List.cons_append, List.nil_append, true_and, and_true, if_true, if_false, mw_s_, mw_s_i, mw_s_r, mw_s_ii, mw_s_ir, mw_s_ri, mw_s_rr, mw_s_iii, mw_s_iir, mw_s_iri, mw_s_irr, mw_s_rii, mw_s_rir, mw_s_rri, mw_s_rrr, mw_s_iiii, mw_s_iiir, mw_s_iiri, mw_s_iirr, mw_s_irii, mw_s_irir, mw_s_irri, mw_s_irrr, mw_s_riii, mw_s_riir, mw_s_riri, mw_s_rirr, mw_s_rrii, mw_s_rrir, mw_s_rrri, mw_s_rrrr, W166, b2, W146, hi, bi_eq0, reduceCtorEq, OA_x hO, not_false_eq_true, not_true]
        refine MW141 (k := 2) hC hg (by decide) (by decide) (fun M' hl ha hc => ?_)
        simp only [u165_31, Option.toList_some, List.cons_append, List.nil_append]
        exact hQ M' hl ha hc
  · have b1 : decide ((0 : Int32) ≤ x1 ∧ x1 < 10) = false := ib_f (N := 10) hx
    have b2 : decide ((0 : Int32) ≤ x1 ∧ x1 ≤ 9) = false := il_f (N := 9) (by decide) hx
    refine ⟨.int (-nI 1), gRf g 1, gRf_ok hg, fun n M Q hC hQ => ?_, fun n M Q hC hQ => ?_⟩
    · simp only [e93, u93_0, u93_1, u93_3, u93_6, u93_9, u93_10, u93_11, u93_15, u93_16, u93_56, u93_57, u93_60, u93_63, u93_64, u93_65, u93_66, u93_67, u93_70, u93_73, u93_74, u93_75, u93_76, u93_77, u93_80, u93_83, u93_84, u93_85, u93_86, u93_87, u93_90, u93_93, u93_96, u93_97, u93_98, u93_99, u93_100, u93_103, u93_104, u93_105, u93_108, u93_109, u93_110, u93_113, u93_114, u93_115, u93_118, u93_119, u93_120, u93_122, u93_125, mw_os, wp_ite, mw_sw, Option.toList_some, Option.toList_none, List.cons_append, List.nil_append, true_and, and_true, if_true, if_false, mw_s_, mw_s_i, mw_s_r, mw_s_ii, mw_s_ir, mw_s_ri, mw_s_rr, mw_s_iii, mw_s_iir, mw_s_iri, mw_s_irr, mw_s_rii, mw_s_rir, mw_s_rri, mw_s_rrr, mw_s_iiii, mw_s_iiir, mw_s_iiri, mw_s_iirr, mw_s_irii, mw_s_irir, mw_s_irri, mw_s_irrr, mw_s_riii, mw_s_riir, mw_s_riri, mw_s_rirr, mw_s_rrii, mw_s_rrir, mw_s_rrri, mw_s_rrrr, W89, b1, bi_eq0, CS_x hC, not_true]
      refine CW84 (k := 1) hC hg (by decide) (by decide) (fun M' hl ha hc => ?_)
      simp only [u93_14, Option.toList_some, List.cons_append, List.nil_append]
      exact hQ M' hl ha hc
    · obtain ⟨o, r, hO, _, hR, hA⟩ := MSu hC
      simp only [e165, u165_0, u165_1, u165_4, u165_7, u165_8, u165_9, u165_13, u165_14, u165_15, u165_16, u165_19, u165_22, u165_25, u165_26, u165_28, u165_31, u165_32, u165_33, u165_34, u165_37, u165_38, u165_41, u165_43, u165_44, u165_45, u165_46, u165_47, u165_48, u165_51, u165_52, u165_55, u165_56, u165_57, u165_58, u165_59, u165_62, mw_os, wp_ite, mw_sw, Option.toList_some, Option.toList_none, List.cons_append, List.nil_append, true_and, and_true, if_true, if_false, mw_s_, mw_s_i, mw_s_r, mw_s_ii, mw_s_ir, mw_s_ri, mw_s_rr, mw_s_iii, mw_s_iir, mw_s_iri, mw_s_irr, mw_s_rii, mw_s_rir, mw_s_rri, mw_s_rrr, mw_s_iiii, mw_s_iiir, mw_s_iiri, mw_s_iirr, mw_s_irii, mw_s_irir, mw_s_irri, mw_s_irrr, mw_s_riii, mw_s_riir, mw_s_riri, mw_s_rirr, mw_s_rrii, mw_s_rrir, mw_s_rrri, mw_s_rrrr, W166, b2, bi_eq0, OA_x hO, not_true]
      refine MW141 (k := 1) hC hg (by decide) (by decide) (fun M' hl ha hc => ?_)
      simp only [u165_12, Option.toList_some, List.cons_append, List.nil_append]
      exact hQ M' hl ha hc
end O1
