/-! two folds, one behind the other -/
def efT (h : HV) (l1 w1 l2 w2 : Nat) : Option Nat := if hasL (hU h) (nI l1) = true then (if hasL (fC (hU h) (nI l1) (nI w1)) (nI l2) = true then some (tn h.1 (fC (hU h) (nI l1) (nI w1)) + tn h.1 (fC (fC (hU h) (nI l1) (nI w1)) (nI l2) (nI w2))) else none) else none
def oI (d : Int32) (o : Option Nat) : Int32 := match o with
  | none => d
  | some k => nI k
section FI
variable {scr : List Int32} {n : Nat} {M M0 : mm_M} {Q : Option Value → mm_M → Prop} {g : SG} {h : HV} {l1 w1 l2 w2 : Nat}
theorem CTh_dn (hc : CTh M0 M g h) : CTh M0 M g (gN g) := ⟨hc.1, hc.2.1, hc.2.2.1, hc.2.2.1.2.1.2.1⟩
theorem efT_le (hg : SGOK g) {e : Nat} (h : efT (gN g) l1 w1 l2 w2 = some e) : e ≤ 240 := by
  unfold efT at h
  by_cases c1 : hasL (hU (gN g)) (nI l1) = true
  · rw [if_pos c1] at h
    by_cases c2 : hasL (fC (hU (gN g)) (nI l1) (nI w1)) (nI l2) = true
    · rw [if_pos c2] at h
      have a := (tn_eq (x := fC (hU (gN g)) (nI l1) (nI w1)) (F9 hg)).2
      have b := (tn_eq (x := fC (fC (hU (gN g)) (nI l1) (nI w1)) (nI l2) (nI w2)) (F9 hg)).2
      cases h
      omega
    · rw [if_neg c2] at h; cases h
  · rw [if_neg c1] at h; cases h
theorem C116 (hg : SGOK g) (hc : CTh M0 M g (gN g)) (a1 : 1 ≤ l1) (a2 : l1 ≤ 4) (b1 : w1 < 4) (a3 : 1 ≤ l2) (a4 : l2 ≤ 4) (b2 : w2 < 4) (hQ : ∀ M', CTh M0 M' g (gN g) → Q (some (.int (oI (-1) (efT (gN g) l1 w1 l2 w2)))) M') : Wp scr (n + 5) 116 [.ref 0, .int (nI l1), .int (nI w1), .int (nI l2), .int (nI w2)] M Q := by
  have hC := hc.2.2.1
  have hT := Th_rf hg.1
  unfold efT at hQ
  cases c1 : hasL (hU (gN g)) (nI l1)
  · rw [c1, if_neg (by decide)] at hQ
    simp only [e116, u116_0, u116_1, u116_4, u116_7, u116_9, u116_10, u116_13, u116_15, u116_16, u116_19, u116_22, u116_23, u116_24, u116_25, u116_28, u116_30, u116_31, u116_32, u116_35, u116_37, u116_38, u116_41, u116_43, u116_44, u116_45, u116_46, u116_49, u116_52, u116_53, u116_54, u116_56, u116_57, u116_60, u116_62, u116_63, u116_64, u116_65, u116_67, u116_70, u116_71, mw_os, wp_ite, mw_sw, Option.toList_some, Option.toList_none, List.cons_append, List.nil_append, true_and, and_true, if_true, if_false, mw_s_, mw_s_i, mw_s_r, mw_s_ii, mw_s_ir, mw_s_ri, mw_s_rr, mw_s_iii, mw_s_iir, mw_s_iri, mw_s_irr, mw_s_rii, mw_s_rir, mw_s_rri, mw_s_rrr, mw_s_iiii, mw_s_iiir, mw_s_iiri, mw_s_iirr, mw_s_irii, mw_s_irir, mw_s_irri, mw_s_irrr, mw_s_riii, mw_s_riir, mw_s_riri, mw_s_rirr, mw_s_rrii, mw_s_rrir, mw_s_rrri, mw_s_rrrr, mm_sto1, mm_clr, mm_isL, List.getElem?_cons_zero, List.getElem?_cons_succ, List.set_cons_zero, List.set_cons_succ, Bool.false_eq_true, CS_0 hC, NS_4 hC hg, NS_x hC, CT69 hc hg.1, c1, bi_eq0, not_true]
    exact hQ M hc
  · rw [c1, if_pos rfl] at hQ
    have hc' := CTh_F hc hg hT a1 a2 c1 b1
    have hT' := Th_F hT a1 a2 c1 b1
    have w71 : ∀ Q : Option Value → mm_M → Prop, Wp scr (n + 4) 71 [.ref 1, .int (nI (gN g).2.1), .int (nI l1), .int (nI w1)] M Q ↔ Q (some (.int (tfE (gN g).1 (fC (hU (gN g)) (nI l1) (nI w1))))) (pl M (la 1 ((gN g).2.1 + 1)) (fC (hU (gN g)) (nI l1) (nI w1))) := fun Q => CT71 hc hg hT a1 a2 c1 b1
    generalize pl M (la 1 ((gN g).2.1 + 1)) (fC (hU (gN g)) (nI l1) (nI w1)) = M1 at hc' w71
    have hC' := hc'.2.2.1
    have w69 : ∀ Q : Option Value → mm_M → Prop, Wp scr (n + 4) 69 [.ref 1, .int (nI ((gN g).2.1 + 1)), .int (nI l2)] M1 Q ↔ Q (some (.int (bi (hasL (fC (hU (gN g)) (nI l1) (nI w1)) (nI l2))))) M1 := fun Q => by
      have := CT69 (scr := scr) (n := n + 2) (Q := Q) (x1 := nI l2) hc' hT'.1
      rw [hF_U] at this
      exact this
    cases c2 : hasL (fC (hU (gN g)) (nI l1) (nI w1)) (nI l2)
    · rw [c2, if_neg (by decide)] at hQ
      simp only [e116, u116_0, u116_1, u116_4, u116_7, u116_9, u116_10, u116_13, u116_15, u116_16, u116_19, u116_22, u116_23, u116_24, u116_25, u116_28, u116_30, u116_31, u116_32, u116_35, u116_37, u116_38, u116_41, u116_43, u116_44, u116_45, u116_46, u116_49, u116_52, u116_53, u116_54, u116_56, u116_57, u116_60, u116_62, u116_63, u116_64, u116_65, u116_67, u116_70, u116_71, mw_os, wp_ite, mw_sw, Option.toList_some, Option.toList_none, List.cons_append, List.nil_append, true_and, and_true, if_true, if_false, mw_s_, mw_s_i, mw_s_r, mw_s_ii, mw_s_ir, mw_s_ri, mw_s_rr, mw_s_iii, mw_s_iir, mw_s_iri, mw_s_irr, mw_s_rii, mw_s_rir, mw_s_rri, mw_s_rrr, mw_s_iiii, mw_s_iiir, mw_s_iiri, mw_s_iirr, mw_s_irii, mw_s_irir, mw_s_irri, mw_s_irrr, mw_s_riii, mw_s_riir, mw_s_riri, mw_s_rirr, mw_s_rrii, mw_s_rrir, mw_s_rrri, mw_s_rrrr, mm_sto1, mm_clr, mm_isL, List.getElem?_cons_zero, List.getElem?_cons_succ, List.set_cons_zero, List.set_cons_succ, Bool.false_eq_true, CS_0 hC, NS_4 hC hg, NS_x hC, CT69 hc hg.1, c1, bi_eq0, reduceCtorEq, not_false_eq_true, w71, CS_0 hC', NS_x hC', nI_1, w69, c2, not_true]
      exact hQ M1 (CTh_dn hc')
    · rw [c2, if_pos rfl] at hQ
      have c2' : hasL (hU (hF (gN g) (nI l1) (nI w1))) (nI l2) = true := by rw [hF_U]; exact c2
      have hc'' := CTh_F hc' hg hT' a3 a4 c2' b2
      have w71' : ∀ Q : Option Value → mm_M → Prop, Wp scr (n + 4) 71 [.ref 1, .int (nI ((gN g).2.1 + 1)), .int (nI l2), .int (nI w2)] M1 Q ↔ Q (some (.int (tfE (gN g).1 (fC (fC (hU (gN g)) (nI l1) (nI w1)) (nI l2) (nI w2))))) (pl M1 (la 1 ((hF (gN g) (nI l1) (nI w1)).2.1 + 1)) (fC (hU (hF (gN g) (nI l1) (nI w1))) (nI l2) (nI w2))) := fun Q => by
        have := CT71 (scr := scr) (n := n) (Q := Q) hc' hg hT' a3 a4 c2' b2
        rw [hF_U] at this ⊢
        exact this
      generalize pl M1 (la 1 ((hF (gN g) (nI l1) (nI w1)).2.1 + 1)) (fC (hU (hF (gN g) (nI l1) (nI w1))) (nI l2) (nI w2)) = M2 at hc'' w71'
      have t1 := (tn_eq (x := fC (hU (gN g)) (nI l1) (nI w1)) (F9 hg)).1
      have t2 := (tn_eq (x := fC (fC (hU (gN g)) (nI l1) (nI w1)) (nI l2) (nI w2)) (F9 hg)).1
      simp only [e116, u116_0, u116_1, u116_4, u116_7, u116_9, u116_10, u116_13, u116_15, u116_16, u116_19, u116_22, u116_23, u116_24, u116_25, u116_28, u116_30, u116_31, u116_32, u116_35, u116_37, u116_38, u116_41, u116_43, u116_44, u116_45, u116_46, u116_49, u116_52, u116_53, u116_54, u116_56, u116_57, u116_60, u116_62, u116_63, u116_64, u116_65, u116_67, u116_70, u116_71, mw_os, wp_ite, mw_sw, Option.toList_some, Option.toList_none, List.cons_append, List.nil_append, true_and, and_true, if_true, if_false, mw_s_, mw_s_i, mw_s_r, mw_s_ii, mw_s_ir, mw_s_ri, mw_s_rr, mw_s_iii, mw_s_iir, mw_s_iri, mw_s_irr, mw_s_rii, mw_s_rir, mw_s_rri, mw_s_rrr, mw_s_iiii, mw_s_iiir, mw_s_iiri, mw_s_iirr, mw_s_irii, mw_s_irir, mw_s_irri, mw_s_irrr, mw_s_riii, mw_s_riir, mw_s_riri, mw_s_rirr, mw_s_rrii, mw_s_rrir, mw_s_rrri, mw_s_rrrr, mm_sto1, mm_clr, mm_isL, List.getElem?_cons_zero, List.getElem?_cons_succ, List.set_cons_zero, List.set_cons_succ, Bool.false_eq_true, CS_0 hC, NS_4 hC hg, NS_x hC, CT69 hc hg.1, c1, bi_eq0, reduceCtorEq, not_false_eq_true, w71, CS_0 hC', NS_x hC', nI_1, w69, c2, w71', t1, t2, nI_add]
      exact hQ M2 (CTh_dn hc'')
theorem M203 (hg : SGOK g) (hl : M.length = M0.length) (ha : Ag M0 M 0 129) (hC : MS M g) (a1 : 1 ≤ l1) (a2 : l1 ≤ 4) (b1 : w1 < 4) (a3 : 1 ≤ l2) (a4 : l2 ≤ 4) (b2 : w2 < 4) (hQ : ∀ M', M'.length = M0.length → Ag M0 M' 0 129 → MS M' g → Q (some (.int (oI (-9) (efT (gN g) l1 w1 l2 w2)))) M') : Wp scr (n + 5) 203 [.ref 129, .int (nI l1), .int (nI w1), .int (nI l2), .int (nI w2)] M Q := by
  obtain ⟨o, r, hO, _, hR, hA⟩ := MSu hC
  obtain ⟨y, hG, _⟩ := gU_GT hg
  have hP : rP r = panL (gU g) := hR.2.2.2.2.2.1
  have hT := Th_rf hg.1
  have w150 : ∀ Q : Option Value → mm_M → Prop, Wp scr (n + 4) 150 [.ref 130, .int (nI l1)] M Q ↔ Q (some (.int (bi (hasL (hU (gN g)) (nI l1))))) M := fun Q => by
    have := W150 (scr := scr) (n := n + 2) (Q := Q) (l := nI l1) hA hR.1
    rw [hP, GT_line hG] at this
    exact this
  unfold efT at hQ
  cases c1 : hasL (hU (gN g)) (nI l1)
  · rw [c1, if_neg (by decide)] at hQ
    simp only [e203, u203_0, u203_1, u203_4, u203_5, u203_8, u203_11, u203_13, u203_14, u203_15, u203_18, u203_19, u203_22, u203_23, u203_24, u203_27, u203_28, u203_29, u203_32, u203_33, u203_34, u203_35, u203_36, u203_39, u203_41, u203_42, u203_45, u203_46, u203_47, u203_48, u203_51, u203_54, u203_56, u203_57, u203_58, u203_61, u203_62, u203_63, u203_64, u203_66, u203_69, u203_70, u203_73, u203_75, mw_os, wp_ite, mw_sw, Option.toList_some, Option.toList_none, List.cons_append, List.nil_append, true_and, and_true, if_true, if_false, mw_s_, mw_s_i, mw_s_r, mw_s_ii, mw_s_ir, mw_s_ri, mw_s_rr, mw_s_iii, mw_s_iir, mw_s_iri, mw_s_irr, mw_s_rii, mw_s_rir, mw_s_rri, mw_s_rrr, mw_s_iiii, mw_s_iiir, mw_s_iiri, mw_s_iirr, mw_s_irii, mw_s_irir, mw_s_irri, mw_s_irrr, mw_s_riii, mw_s_riir, mw_s_riri, mw_s_rirr, mw_s_rrii, mw_s_rrir, mw_s_rrri, mw_s_rrrr, mm_sto1, mm_clr, mm_isL, List.getElem?_cons_zero, List.getElem?_cons_succ, List.set_cons_zero, List.set_cons_succ, Bool.false_eq_true, OA_0 hO, w150, c1, bi_eq0, not_true]
    exact hQ M hl ha hC
  · rw [c1, if_pos rfl] at hQ
    have d0 : mm_lda M 132 0 = some (.ref 133) := DPk (k := 0) hC (by decide)
    simp only [u203_0, u203_1, u203_4, u203_5, u203_8, u203_14, u203_15, u203_18, u203_19, u203_22, u203_23, u203_24, e203, mw_os, wp_ite, mw_sw, Option.toList_some, Option.toList_none, List.cons_append, List.nil_append, true_and, and_true, if_true, if_false, mw_s_, mw_s_i, mw_s_r, mw_s_ii, mw_s_ir, mw_s_ri, mw_s_rr, mw_s_iii, mw_s_iir, mw_s_iri, mw_s_irr, mw_s_rii, mw_s_rir, mw_s_rri, mw_s_rrr, mw_s_iiii, mw_s_iiir, mw_s_iiri, mw_s_iirr, mw_s_irii, mw_s_irir, mw_s_irri, mw_s_irrr, mw_s_riii, mw_s_riir, mw_s_riri, mw_s_rirr, mw_s_rrii, mw_s_rrir, mw_s_rrri, mw_s_rrrr, mm_sto1, mm_clr, mm_isL, List.getElem?_cons_zero, List.getElem?_cons_succ, List.set_cons_zero, List.set_cons_succ, Bool.false_eq_true, OA_0 hO, OA_2 hO, w150, c1, bi_eq0, reduceCtorEq, not_false_eq_true, d0]
    refine MT147 (k := 0) (n := n + 3) hl ha hC (by decide) (fun M1 hm1 => ?_)
    obtain ⟨o1, hO1, _⟩ := MT_o hm1
    have d1 : mm_lda M1 132 0 = some (.ref 133) := DPk (k := 0) hm1.2.2.1 (by decide)
    simp only [u203_27, u203_28, u203_29, u203_32, u203_33, u203_34, u203_35, u203_36, mw_os, wp_ite, mw_sw, Option.toList_some, Option.toList_none, List.cons_append, List.nil_append, true_and, and_true, if_true, if_false, mw_s_, mw_s_i, mw_s_r, mw_s_ii, mw_s_ir, mw_s_ri, mw_s_rr, mw_s_iii, mw_s_iir, mw_s_iri, mw_s_irr, mw_s_rii, mw_s_rir, mw_s_rri, mw_s_rrr, mw_s_iiii, mw_s_iiir, mw_s_iiri, mw_s_iirr, mw_s_irii, mw_s_irir, mw_s_irri, mw_s_irrr, mw_s_riii, mw_s_riir, mw_s_riri, mw_s_rirr, mw_s_rrii, mw_s_rrir, mw_s_rrri, mw_s_rrrr, mm_sto1, mm_clr, mm_isL, List.getElem?_cons_zero, List.getElem?_cons_succ, List.set_cons_zero, List.set_cons_succ, Bool.false_eq_true, OA_2 hO1, OA_x hO1, d1]
    refine MT152 (k := 0) hm1 (by decide) hg.1 a1 a2 c1 b1 (fun M2 hm2 _ _ => ?_)
    have hT' := Th_F hT a1 a2 c1 b1
    obtain ⟨o2, hO2, _⟩ := MT_o hm2
    have d2 : mm_lda M2 132 0 = some (.ref 133) := DPk (k := 0) hm2.2.2.1 (by decide)
    have w150' : ∀ Q : Option Value → mm_M → Prop, Wp scr (n + 4) 150 [.ref 133, .int (nI l2)] M2 Q ↔ Q (some (.int (bi (hasL (fC (hU (gN g)) (nI l1) (nI w1)) (nI l2))))) M2 := fun Q => by
      have := MT150 (scr := scr) (n := n + 2) (Q := Q) (x1 := nI l2) hm2 hT'.1
      rw [hF_U] at this
      exact this
    cases c2 : hasL (fC (hU (gN g)) (nI l1) (nI w1)) (nI l2)
    · rw [c2, if_neg (by decide)] at hQ
      simp only [u203_39, u203_41, u203_42, u203_45, u203_46, u203_47, u203_48, u203_51, u203_73, u203_75, mw_os, wp_ite, mw_sw, Option.toList_some, Option.toList_none, List.cons_append, List.nil_append, true_and, and_true, if_true, if_false, mw_s_, mw_s_i, mw_s_r, mw_s_ii, mw_s_ir, mw_s_ri, mw_s_rr, mw_s_iii, mw_s_iir, mw_s_iri, mw_s_irr, mw_s_rii, mw_s_rir, mw_s_rri, mw_s_rrr, mw_s_iiii, mw_s_iiir, mw_s_iiri, mw_s_iirr, mw_s_irii, mw_s_irir, mw_s_irri, mw_s_irrr, mw_s_riii, mw_s_riir, mw_s_riri, mw_s_rirr, mw_s_rrii, mw_s_rrir, mw_s_rrri, mw_s_rrrr, mm_sto1, mm_clr, mm_isL, List.getElem?_cons_zero, List.getElem?_cons_succ, List.set_cons_zero, List.set_cons_succ, Bool.false_eq_true, OA_2 hO2, d2, w150', c2, bi_eq0]
      exact hQ M2 hm2.1 hm2.2.1 hm2.2.2.1
    · rw [c2, if_pos rfl] at hQ
      have c2' : hasL (hU (hF (gN g) (nI l1) (nI w1))) (nI l2) = true := by rw [hF_U]; exact c2
      have t1 := (tn_eq (x := fC (hU (gN g)) (nI l1) (nI w1)) (F9 hg)).1
      have t2 := (tn_eq (x := fC (fC (hU (gN g)) (nI l1) (nI w1)) (nI l2) (nI w2)) (F9 hg)).1
      simp only [u203_39, u203_41, u203_42, u203_45, u203_46, u203_47, u203_48, u203_51, u203_54, u203_56, u203_57, u203_58, u203_61, u203_62, u203_63, u203_64, u203_66, mw_os, wp_ite, mw_sw, Option.toList_some, Option.toList_none, List.cons_append, List.nil_append, true_and, and_true, if_true, if_false, mw_s_, mw_s_i, mw_s_r, mw_s_ii, mw_s_ir, mw_s_ri, mw_s_rr, mw_s_iii, mw_s_iir, mw_s_iri, mw_s_irr, mw_s_rii, mw_s_rir, mw_s_rri, mw_s_rrr, mw_s_iiii, mw_s_iiir, mw_s_iiri, mw_s_iirr, mw_s_irii, mw_s_irir, mw_s_irri, mw_s_irrr, mw_s_riii, mw_s_riir, mw_s_riri, mw_s_rirr, mw_s_rrii, mw_s_rrir, mw_s_rrri, mw_s_rrrr, mm_sto1, mm_clr, mm_isL, List.getElem?_cons_zero, List.getElem?_cons_succ, List.set_cons_zero, List.set_cons_succ, Bool.false_eq_true, OA_2 hO2, OA_x hO2, d2, w150', c2, bi_eq0, reduceCtorEq]
      refine MT152 (k := 0) hm2 (by decide) hT'.1 a3 a4 c2' b2 (fun M3 hm3 _ _ => ?_)
      rw [Th_tf hT' a3 a4 c2' b2, hF_U, t1, t2]
      simp only [u203_69, u203_70, u203_75, mw_os, wp_ite, mw_sw, Option.toList_some, Option.toList_none, List.cons_append, List.nil_append, true_and, and_true, if_true, if_false, mw_s_, mw_s_i, mw_s_r, mw_s_ii, mw_s_ir, mw_s_ri, mw_s_rr, mw_s_iii, mw_s_iir, mw_s_iri, mw_s_irr, mw_s_rii, mw_s_rir, mw_s_rri, mw_s_rrr, mw_s_iiii, mw_s_iiir, mw_s_iiri, mw_s_iirr, mw_s_irii, mw_s_irir, mw_s_irri, mw_s_irrr, mw_s_riii, mw_s_riir, mw_s_riri, mw_s_rirr, mw_s_rrii, mw_s_rrir, mw_s_rrri, mw_s_rrrr, mm_sto1, mm_clr, mm_isL, List.getElem?_cons_zero, List.getElem?_cons_succ, List.set_cons_zero, List.set_cons_succ, Bool.false_eq_true, nI_add]
      exact hQ M3 hm3.1 hm3.2.1 hm3.2.2.1
theorem W115 {x1 : Int32} : Wp scr (n + 1) 115 [.int x1] M Q ↔ Q (some (.int (bi (decide (1 ≤ x1 ∧ x1 ≤ 4))))) M := by
  by_cases h1 : x1 < 1
  · have h2 : ¬ 1 ≤ x1 := fun z => Int32.not_lt.mpr z h1
    simp only [e115, u115_0, u115_1, u115_2, u115_5, u115_6, u115_7, u115_10, u115_11, u115_14, u115_15, mw_os, wp_ite, mw_sw, Option.toList_some, Option.toList_none, List.cons_append, List.nil_append, true_and, and_true, if_true, if_false, mw_s_, mw_s_i, mw_s_r, mw_s_ii, mw_s_ir, mw_s_ri, mw_s_rr, mw_s_iii, mw_s_iir, mw_s_iri, mw_s_irr, mw_s_rii, mw_s_rir, mw_s_rri, mw_s_rrr, mw_s_iiii, mw_s_iiir, mw_s_iiri, mw_s_iirr, mw_s_irii, mw_s_irir, mw_s_irri, mw_s_irrr, mw_s_riii, mw_s_riir, mw_s_riri, mw_s_rirr, mw_s_rrii, mw_s_rrir, mw_s_rrri, mw_s_rrrr, h1]
    simp [h2, bi]
  · have h2 : 1 ≤ x1 := Int32.not_lt.mp h1
    by_cases h3 : 4 < x1
    · have h4 : ¬ x1 ≤ 4 := fun z => Int32.not_lt.mpr z h3
      simp only [e115, u115_0, u115_1, u115_2, u115_5, u115_6, u115_7, u115_10, u115_11, u115_14, u115_15, mw_os, wp_ite, mw_sw, Option.toList_some, Option.toList_none, List.cons_append, List.nil_append, true_and, and_true, if_true, if_false, mw_s_, mw_s_i, mw_s_r, mw_s_ii, mw_s_ir, mw_s_ri, mw_s_rr, mw_s_iii, mw_s_iir, mw_s_iri, mw_s_irr, mw_s_rii, mw_s_rir, mw_s_rri, mw_s_rrr, mw_s_iiii, mw_s_iiir, mw_s_iiri, mw_s_iirr, mw_s_irii, mw_s_irir, mw_s_irri, mw_s_irrr, mw_s_riii, mw_s_riir, mw_s_riri, mw_s_rirr, mw_s_rrii, mw_s_rrir, mw_s_rrri, mw_s_rrrr, h1, h3]
      simp [h4, bi]
    · have h4 : x1 ≤ 4 := Int32.not_lt.mp h3
      simp only [e115, u115_0, u115_1, u115_2, u115_5, u115_6, u115_7, u115_10, u115_11, u115_14, u115_15, mw_os, wp_ite, mw_sw, Option.toList_some, Option.toList_none, List.cons_append, List.nil_append, true_and, and_true, if_true, if_false, mw_s_, mw_s_i, mw_s_r, mw_s_ii, mw_s_ir, mw_s_ri, mw_s_rr, mw_s_iii, mw_s_iir, mw_s_iri, mw_s_irr, mw_s_rii, mw_s_rir, mw_s_rri, mw_s_rrr, mw_s_iiii, mw_s_iiir, mw_s_iiri, mw_s_iirr, mw_s_irii, mw_s_irir, mw_s_irri, mw_s_irrr, mw_s_riii, mw_s_riir, mw_s_riri, mw_s_rirr, mw_s_rrii, mw_s_rrir, mw_s_rrri, mw_s_rrrr, h1, h3]
      simp [h2, h4, bi]
theorem ln_cases (x : Int32) : (∃ l, 1 ≤ l ∧ l ≤ 4 ∧ x = nI l) ∨ ¬ (1 ≤ x ∧ x ≤ 4) := by
  rcases pk_ix x (n := 5) (by decide) with h | h | ⟨j, h1, rfl⟩
  · exact Or.inr (fun z => absurd (Int32.lt_of_le_of_lt z.1 h) (by decide))
  · exact Or.inr (fun z => absurd (Int32.lt_of_lt_of_le (b := nI 5) (a := 4) (by decide +kernel) h) (Int32.not_lt.mpr z.2))
  · by_cases h0 : j = 0
    · subst h0
      exact Or.inr (fun z => absurd z.1 (by decide +kernel))
    · exact Or.inl ⟨j, by omega, by omega, rfl⟩
def fsV (a b : Option Nat) : Int32 := match a, b with
  | none, none => -9
  | none, some _ => 1
  | some _, none => 0
  | some x, some y => if x = y then -9 else if x < y then 0 else 1
theorem J_first (hg : SGOK g) (x1 x2 x3 x4 : Int32) : JO scr 114 202 [.int x1, .int x2, .int x3, .int x4] g := by
  have rf1 : (decide (1 ≤ x1 ∧ x1 ≤ 4) = false ∨ decide (1 ≤ x3 ∧ x3 ≤ 4) = false) → JO scr 114 202 [.int x1, .int x2, .int x3, .int x4] g := by
    intro hm
    have i1 : inB x1.toInt64 1 4 = decide (1 ≤ x1 ∧ x1 ≤ 4) := inB_eq x1 1 4
    have i3 : inB x3.toInt64 1 4 = decide (1 ≤ x3 ∧ x3 ≤ 4) := inB_eq x3 1 4
    refine ⟨.int (-nI 1), gRf g 1, gRf_ok hg, fun n M Q hC hQ => ?_, fun n M Q hC hQ => ?_⟩
    · have key : Wp scr (n + 39) 84 [.ref 0, .int (-1)] M (fun r' M' => wp scr (n + 39) mb_114 19 [some (.ref 0), some (.int x1), some (.int x2), some (.int x3), some (.int x4), none, none] (r'.toList ++ []) M' Q) := by
        refine CW84 (k := 1) hC hg (by decide) (by decide) (fun M' hl ha hc => ?_)
        simp only [u114_19, Option.toList_some, List.cons_append, List.nil_append]
        exact hQ M' hl ha hc
      cases e1 : decide (1 ≤ x1 ∧ x1 ≤ 4)
      · simp only [u114_0, u114_1, u114_4, u114_14, u114_15, u114_16, e114, mw_os, wp_ite, mw_sw, Option.toList_some, Option.toList_none, List.cons_append, List.nil_append, true_and, and_true, if_true, if_false, mw_s_, mw_s_i, mw_s_r, mw_s_ii, mw_s_ir, mw_s_ri, mw_s_rr, mw_s_iii, mw_s_iir, mw_s_iri, mw_s_irr, mw_s_rii, mw_s_rir, mw_s_rri, mw_s_rrr, mw_s_iiii, mw_s_iiir, mw_s_iiri, mw_s_iirr, mw_s_irii, mw_s_irir, mw_s_irri, mw_s_irrr, mw_s_riii, mw_s_riir, mw_s_riri, mw_s_rirr, mw_s_rrii, mw_s_rrir, mw_s_rrri, mw_s_rrrr, W115, e1, bi_eq0, CS_x hC]
        exact key
      · have e3 : decide (1 ≤ x3 ∧ x3 ≤ 4) = false := hm.resolve_left (by rw [e1]; decide)
        simp only [u114_0, u114_1, u114_4, u114_7, u114_8, u114_11, u114_14, u114_15, u114_16, e114, mw_os, wp_ite, mw_sw, Option.toList_some, Option.toList_none, List.cons_append, List.nil_append, true_and, and_true, if_true, if_false, mw_s_, mw_s_i, mw_s_r, mw_s_ii, mw_s_ir, mw_s_ri, mw_s_rr, mw_s_iii, mw_s_iir, mw_s_iri, mw_s_irr, mw_s_rii, mw_s_rir, mw_s_rri, mw_s_rrr, mw_s_iiii, mw_s_iiir, mw_s_iiri, mw_s_iirr, mw_s_irii, mw_s_irir, mw_s_irri, mw_s_irrr, mw_s_riii, mw_s_riir, mw_s_riri, mw_s_rirr, mw_s_rrii, mw_s_rrir, mw_s_rrri, mw_s_rrrr, W115, e1, e3, bi_eq0, CS_x hC, reduceCtorEq, not_true]
        exact key
    · obtain ⟨o, r, hO, _, hR, hA⟩ := MSu hC
      have key : Wp scr (n + 39) 141 [.ref 129, .int (-1)] M (fun r' M' => wp scr (n + 39) mb_202 29 [some (.ref 129), some (.int x1), some (.int x2), some (.int x3), some (.int x4), none, none] (r'.toList ++ []) M' Q) := by
        refine MW141 (k := 1) hC hg (by decide) (by decide) (fun M' hl ha hc => ?_)
        simp only [u202_29, Option.toList_some, List.cons_append, List.nil_append]
        exact hQ M' hl ha hc
      cases e1 : decide (1 ≤ x1 ∧ x1 ≤ 4)
      · simp only [u202_0, u202_1, u202_2, u202_3, u202_6, u202_9, u202_24, u202_25, u202_26, e202, mw_os, wp_ite, mw_sw, Option.toList_some, Option.toList_none, List.cons_append, List.nil_append, true_and, and_true, if_true, if_false, mw_s_, mw_s_i, mw_s_r, mw_s_ii, mw_s_ir, mw_s_ri, mw_s_rr, mw_s_iii, mw_s_iir, mw_s_iri, mw_s_irr, mw_s_rii, mw_s_rir, mw_s_rri, mw_s_rrr, mw_s_iiii, mw_s_iiir, mw_s_iiri, mw_s_iirr, mw_s_irii, mw_s_irir, mw_s_irri, mw_s_irrr, mw_s_riii, mw_s_riir, mw_s_riri, mw_s_rirr, mw_s_rrii, mw_s_rrir, mw_s_rrri, mw_s_rrrr, W146, i1, e1, bi_eq0, OA_x hO]
        exact key
      · have e3 : decide (1 ≤ x3 ∧ x3 ≤ 4) = false := hm.resolve_left (by rw [e1]; decide)
        simp only [u202_0, u202_1, u202_2, u202_3, u202_6, u202_9, u202_12, u202_13, u202_14, u202_15, u202_18, u202_21, u202_24, u202_25, u202_26, e202, mw_os, wp_ite, mw_sw, Option.toList_some, Option.toList_none, List.cons_append, List.nil_append, true_and, and_true, if_true, if_false, mw_s_, mw_s_i, mw_s_r, mw_s_ii, mw_s_ir, mw_s_ri, mw_s_rr, mw_s_iii, mw_s_iir, mw_s_iri, mw_s_irr, mw_s_rii, mw_s_rir, mw_s_rri, mw_s_rrr, mw_s_iiii, mw_s_iiir, mw_s_iiri, mw_s_iirr, mw_s_irii, mw_s_irir, mw_s_irri, mw_s_irrr, mw_s_riii, mw_s_riir, mw_s_riri, mw_s_rirr, mw_s_rrii, mw_s_rrir, mw_s_rrri, mw_s_rrrr, W146, i1, i3, e1, e3, bi_eq0, OA_x hO, reduceCtorEq, not_true]
        exact key
  rcases ln_cases x1 with ⟨l1, a1, a2, rfl⟩ | hx1
  · rcases ln_cases x3 with ⟨l2, a3, a4, rfl⟩ | hx3
    · have d1 : decide ((1 : Int32) ≤ nI l1 ∧ nI l1 ≤ 4) = true := decide_eq_true ⟨nI_le (a := 1) a1 (by omega), nI_le (b := 4) a2 (by decide)⟩
      have d3 : decide ((1 : Int32) ≤ nI l2 ∧ nI l2 ≤ 4) = true := decide_eq_true ⟨nI_le (a := 1) a3 (by omega), nI_le (b := 4) a4 (by decide)⟩
      have i1 : inB (nI l1).toInt64 1 4 = true := (inB_eq (nI l1) 1 4).trans d1
      have i3 : inB (nI l2).toInt64 1 4 = true := (inB_eq (nI l2) 1 4).trans d3
      have rf2 : (decide ((0 : Int32) ≤ x2 ∧ x2 < 4) = false ∧ inB x2.toInt64 0 3 = false ∨ (decide ((0 : Int32) ≤ x2 ∧ x2 < 4) = true ∧ inB x2.toInt64 0 3 = true) ∧ decide ((0 : Int32) ≤ x4 ∧ x4 < 4) = false ∧ inB x4.toInt64 0 3 = false) → JO scr 114 202 [.int (nI l1), .int x2, .int (nI l2), .int x4] g := by
        intro hm
        refine ⟨.int (-nI 2), gRf g 2, gRf_ok hg, fun n M Q hC hQ => ?_, fun n M Q hC hQ => ?_⟩
        · have key : Wp scr (n + 39) 84 [.ref 0, .int (-2)] M (fun r' M' => wp scr (n + 39) mb_114 43 [some (.ref 0), some (.int (nI l1)), some (.int x2), some (.int (nI l2)), some (.int x4), none, none] (r'.toList ++ []) M' Q) := by
            refine CW84 (k := 2) hC hg (by decide) (by decide) (fun M' hl ha hc => ?_)
            simp only [u114_43, Option.toList_some, List.cons_append, List.nil_append]
            exact hQ M' hl ha hc
          rcases hm with hm | hm
          · simp only [e114, u114_0, u114_1, u114_4, u114_7, u114_8, u114_11, u114_14, u114_15, u114_16, u114_19, u114_20, u114_21, u114_22, u114_25, u114_28, u114_30, u114_31, u114_34, u114_37, u114_38, u114_40, u114_44, u114_45, u114_46, u114_47, u114_48, u114_50, u114_53, u114_55, u114_56, u114_57, u114_59, u114_60, u114_61, u114_64, u114_66, u114_68, u114_70, u114_73, u114_75, u114_76, u114_78, u114_81, u114_82, u114_83, u114_85, u114_88, u114_90, u114_92, u114_95, u114_96, u114_99, u114_100, mw_os, wp_ite, mw_sw, Option.toList_some, Option.toList_none, List.cons_append, List.nil_append, true_and, and_true, if_true, if_false, mw_s_, mw_s_i, mw_s_r, mw_s_ii, mw_s_ir, mw_s_ri, mw_s_rr, mw_s_iii, mw_s_iir, mw_s_iri, mw_s_irr, mw_s_rii, mw_s_rir, mw_s_rri, mw_s_rrr, mw_s_iiii, mw_s_iiir, mw_s_iiri, mw_s_iirr, mw_s_irii, mw_s_irir, mw_s_irri, mw_s_irrr, mw_s_riii, mw_s_riir, mw_s_riri, mw_s_rirr, mw_s_rrii, mw_s_rrir, mw_s_rrri, mw_s_rrrr, W115, d1, d3, W89, hm.1, bi_eq0, reduceCtorEq, not_false_eq_true, CS_x hC]
            exact key
          · simp only [e114, u114_0, u114_1, u114_4, u114_7, u114_8, u114_11, u114_14, u114_15, u114_16, u114_19, u114_20, u114_21, u114_22, u114_25, u114_28, u114_30, u114_31, u114_34, u114_37, u114_38, u114_40, u114_44, u114_45, u114_46, u114_47, u114_48, u114_50, u114_53, u114_55, u114_56, u114_57, u114_59, u114_60, u114_61, u114_64, u114_66, u114_68, u114_70, u114_73, u114_75, u114_76, u114_78, u114_81, u114_82, u114_83, u114_85, u114_88, u114_90, u114_92, u114_95, u114_96, u114_99, u114_100, mw_os, wp_ite, mw_sw, Option.toList_some, Option.toList_none, List.cons_append, List.nil_append, true_and, and_true, if_true, if_false, mw_s_, mw_s_i, mw_s_r, mw_s_ii, mw_s_ir, mw_s_ri, mw_s_rr, mw_s_iii, mw_s_iir, mw_s_iri, mw_s_irr, mw_s_rii, mw_s_rir, mw_s_rri, mw_s_rrr, mw_s_iiii, mw_s_iiir, mw_s_iiri, mw_s_iirr, mw_s_irii, mw_s_irir, mw_s_irri, mw_s_irrr, mw_s_riii, mw_s_riir, mw_s_riri, mw_s_rirr, mw_s_rrii, mw_s_rrir, mw_s_rrri, mw_s_rrrr, W115, d1, d3, W89, hm.1.1, hm.2.1, bi_eq0, reduceCtorEq, not_false_eq_true, not_true, CS_x hC]
            exact key
        · obtain ⟨o, r, hO, _, hR, hA⟩ := MSu hC
          have key : Wp scr (n + 39) 141 [.ref 129, .int (-2)] M (fun r' M' => wp scr (n + 39) mb_202 61 [some (.ref 129), some (.int (nI l1)), some (.int x2), some (.int (nI l2)), some (.int x4), none, none] (r'.toList ++ []) M' Q) := by
            refine MW141 (k := 2) hC hg (by decide) (by decide) (fun M' hl ha hc => ?_)
            simp only [u202_61, Option.toList_some, List.cons_append, List.nil_append]
            exact hQ M' hl ha hc
          rcases hm with hm | hm
          · simp only [e202, u202_0, u202_1, u202_2, u202_3, u202_6, u202_9, u202_12, u202_13, u202_14, u202_15, u202_18, u202_21, u202_24, u202_25, u202_26, u202_29, u202_30, u202_31, u202_32, u202_33, u202_36, u202_39, u202_42, u202_44, u202_45, u202_46, u202_49, u202_52, u202_55, u202_56, u202_58, u202_62, u202_63, u202_64, u202_65, u202_66, u202_68, u202_71, u202_73, u202_74, u202_75, u202_77, u202_78, u202_79, u202_82, u202_84, u202_86, u202_88, u202_91, u202_93, u202_94, u202_96, u202_98, u202_101, u202_103, u202_105, u202_108, u202_110, u202_112, u202_115, u202_116, u202_119, u202_120, mw_os, wp_ite, mw_sw, Option.toList_some, Option.toList_none, List.cons_append, List.nil_append, true_and, and_true, if_true, if_false, mw_s_, mw_s_i, mw_s_r, mw_s_ii, mw_s_ir, mw_s_ri, mw_s_rr, mw_s_iii, mw_s_iir, mw_s_iri, mw_s_irr, mw_s_rii, mw_s_rir, mw_s_rri, mw_s_rrr, mw_s_iiii, mw_s_iiir, mw_s_iiri, mw_s_iirr, mw_s_irii, mw_s_irir, mw_s_irri, mw_s_irrr, mw_s_riii, mw_s_riir, mw_s_riri, mw_s_rirr, mw_s_rrii, mw_s_rrir, mw_s_rrri, mw_s_rrrr, W146, i1, i3, hm.2, bi_eq0, reduceCtorEq, not_false_eq_true, OA_x hO]
            exact key
          · simp only [e202, u202_0, u202_1, u202_2, u202_3, u202_6, u202_9, u202_12, u202_13, u202_14, u202_15, u202_18, u202_21, u202_24, u202_25, u202_26, u202_29, u202_30, u202_31, u202_32, u202_33, u202_36, u202_39, u202_42, u202_44, u202_45, u202_46, u202_49, u202_52, u202_55, u202_56, u202_58, u202_62, u202_63, u202_64, u202_65, u202_66, u202_68, u202_71, u202_73, u202_74, u202_75, u202_77, u202_78, u202_79, u202_82, u202_84, u202_86, u202_88, u202_91, u202_93, u202_94, u202_96, u202_98, u202_101, u202_103, u202_105, u202_108, u202_110, u202_112, u202_115, u202_116, u202_119, u202_120, mw_os, wp_ite, mw_sw, Option.toList_some, Option.toList_none, List.cons_append, List.nil_append, true_and, and_true, if_true, if_false, mw_s_, mw_s_i, mw_s_r, mw_s_ii, mw_s_ir, mw_s_ri, mw_s_rr, mw_s_iii, mw_s_iir, mw_s_iri, mw_s_irr, mw_s_rii, mw_s_rir, mw_s_rri, mw_s_rrr, mw_s_iiii, mw_s_iiir, mw_s_iiri, mw_s_iirr, mw_s_irii, mw_s_irir, mw_s_irri, mw_s_irrr, mw_s_riii, mw_s_riir, mw_s_riri, mw_s_rirr, mw_s_rrii, mw_s_rrir, mw_s_rrri, mw_s_rrrr, W146, i1, i3, hm.1.2, hm.2.2, bi_eq0, reduceCtorEq, not_false_eq_true, not_true, OA_x hO]
            exact key
      rcases ixc x2 (N := 4) (by decide) with ⟨w1, b1, rfl⟩ | hy
      · have p1 : decide ((0 : Int32) ≤ nI w1 ∧ nI w1 < 4) = true := ib_t b1 (by decide)
        have q1 : inB (nI w1).toInt64 0 3 = true := (inB_eq (nI w1) 0 3).trans (il_t (N := 3) b1 (by decide))
        rcases ixc x4 (N := 4) (by decide) with ⟨w2, b2, rfl⟩ | hy
        · have p2 : decide ((0 : Int32) ≤ nI w2 ∧ nI w2 < 4) = true := ib_t b2 (by decide)
          have q2 : inB (nI w2).toInt64 0 3 = true := (inB_eq (nI w2) 0 3).trans (il_t (N := 3) b2 (by decide))
          refine ⟨.int (fsV (efT (gN g) l1 w1 l2 w2) (efT (gN g) l2 w2 l1 w1)), g, hg, fun n M Q hC hQ => ?_, fun n M Q hC hQ => ?_⟩
          · simp only [u114_0, u114_1, u114_4, u114_7, u114_8, u114_11, u114_20, u114_21, u114_22, u114_25, u114_28, u114_30, u114_31, u114_34, u114_44, u114_45, u114_46, u114_47, u114_48, u114_50, e114, mw_os, wp_ite, mw_sw, Option.toList_some, Option.toList_none, List.cons_append, List.nil_append, true_and, and_true, if_true, if_false, mw_s_, mw_s_i, mw_s_r, mw_s_ii, mw_s_ir, mw_s_ri, mw_s_rr, mw_s_iii, mw_s_iir, mw_s_iri, mw_s_irr, mw_s_rii, mw_s_rir, mw_s_rri, mw_s_rrr, mw_s_iiii, mw_s_iiir, mw_s_iiri, mw_s_iirr, mw_s_irii, mw_s_irir, mw_s_irri, mw_s_irrr, mw_s_riii, mw_s_riir, mw_s_riri, mw_s_rirr, mw_s_rrii, mw_s_rrir, mw_s_rrri, mw_s_rrrr, mm_sto1, mm_clr, mm_isL, List.getElem?_cons_zero, List.getElem?_cons_succ, List.set_cons_zero, List.set_cons_succ, Bool.false_eq_true, W115, d1, d3, W89, p1, p2, bi_eq0, reduceCtorEq, not_false_eq_true, CS_x hC]
            refine C116 (n := n + 34) hg (CTh_rf hC) a1 a2 b1 a3 a4 b2 (fun M1 hc1 => ?_)
            simp only [u114_53, u114_55, u114_56, u114_57, u114_59, u114_60, u114_61, mw_os, wp_ite, mw_sw, Option.toList_some, Option.toList_none, List.cons_append, List.nil_append, true_and, and_true, if_true, if_false, mw_s_, mw_s_i, mw_s_r, mw_s_ii, mw_s_ir, mw_s_ri, mw_s_rr, mw_s_iii, mw_s_iir, mw_s_iri, mw_s_irr, mw_s_rii, mw_s_rir, mw_s_rri, mw_s_rrr, mw_s_iiii, mw_s_iiir, mw_s_iiri, mw_s_iirr, mw_s_irii, mw_s_irir, mw_s_irri, mw_s_irrr, mw_s_riii, mw_s_riir, mw_s_riri, mw_s_rirr, mw_s_rrii, mw_s_rrir, mw_s_rrri, mw_s_rrrr, mm_sto1, mm_clr, mm_isL, List.getElem?_cons_zero, List.getElem?_cons_succ, List.set_cons_zero, List.set_cons_succ, Bool.false_eq_true, CS_x hc1.2.2.1]
            refine C116 (n := n + 34) hg hc1 a3 a4 b2 a1 a2 b1 (fun M2 hc2 => ?_)
            have hq := CT_end hc2 hQ
            have l1' := fun e he => efT_le (l1 := l1) (w1 := w1) (l2 := l2) (w2 := w2) hg (e := e) he
            have l2' := fun e he => efT_le (l1 := l2) (w1 := w2) (l2 := l1) (w2 := w1) hg (e := e) he
            generalize efT (gN g) l1 w1 l2 w2 = A at hq l1' ⊢
            generalize efT (gN g) l2 w2 l1 w1 = B at hq l2' ⊢
            have n1 : ∀ k : Nat, k ≤ 240 → ((0 : Int32) ≤ nI k) = True := fun k hk => eq_true (nI_pos' (by omega))
            have n1' : ∀ k : Nat, k ≤ 240 → (nI k < (0 : Int32)) = False := fun k hk => eq_false (nI_pos (by omega))
            have nm : ∀ k : Nat, k ≤ 240 → ¬ nI k = -1 := fun k hk z => absurd (by rw [← z]; exact nI_pos' (by omega) : (0 : Int32) ≤ -1) (by decide)
            simp only [u114_64, u114_66, u114_68, u114_70, u114_73, u114_75, u114_76, u114_78, u114_81, u114_82, u114_83, u114_85, u114_88, u114_90, u114_92, u114_95, u114_96, u114_99, u114_100, mw_os, wp_ite, mw_sw, Option.toList_some, Option.toList_none, List.cons_append, List.nil_append, true_and, and_true, if_true, if_false, mw_s_, mw_s_i, mw_s_r, mw_s_ii, mw_s_ir, mw_s_ri, mw_s_rr, mw_s_iii, mw_s_iir, mw_s_iri, mw_s_irr, mw_s_rii, mw_s_rir, mw_s_rri, mw_s_rrr, mw_s_iiii, mw_s_iiir, mw_s_iiri, mw_s_iirr, mw_s_irii, mw_s_irir, mw_s_irri, mw_s_irrr, mw_s_riii, mw_s_riir, mw_s_riri, mw_s_rirr, mw_s_rrii, mw_s_rrir, mw_s_rrri, mw_s_rrrr, mm_sto1, mm_clr, mm_isL, List.getElem?_cons_zero, List.getElem?_cons_succ, List.set_cons_zero, List.set_cons_succ, Bool.false_eq_true]
            cases A with
            | none =>
              cases B with
              | none => exact hq
              | some b =>
                have hb := l2' b rfl
                rw [if_neg (show ¬ oI (-1) none = oI (-1) (some b) from fun z => nm b hb z.symm)]
                exact hq
            | some a =>
              have ha := l1' a rfl
              cases B with
              | none =>
                rw [if_neg (show ¬ oI (-1) (some a) = oI (-1) none from nm a ha)]
                rw [if_pos (show (0 : Int32) ≤ oI (-1) (some a) from nI_pos' (by omega)), if_pos (show oI (-1) none < (0 : Int32) by decide)]
                exact hq
              | some b =>
                have hb := l2' b rfl
                show (if nI a = nI b then _ else (if (0 : Int32) ≤ nI a then (if nI b < 0 then _ else if nI b ≤ nI a then _ else _) else _))
                change Q (some (.int (if a = b then -9 else if a < b then 0 else 1))) M2 at hq
                by_cases e : a = b
                · rw [if_pos e] at hq
                  rw [if_pos (by rw [e])]
                  exact hq
                · rw [if_neg e] at hq
                  rw [if_neg (fun z => e ((nI_eq (by omega) (by omega)).mp z)), if_pos (nI_pos' (by omega)), if_neg (nI_pos (by omega))]
                  by_cases f : a < b
                  · rw [if_pos f] at hq
                    rw [if_neg (nI_ge f (by omega))]
                    exact hq
                  · rw [if_neg f] at hq
                    rw [if_pos (nI_le (by omega) (by omega))]
                    exact hq
          · obtain ⟨o, r, hO, _, hR, hA⟩ := MSu hC
            simp only [u202_0, u202_1, u202_2, u202_3, u202_6, u202_9, u202_12, u202_13, u202_14, u202_15, u202_18, u202_21, u202_30, u202_31, u202_32, u202_33, u202_36, u202_39, u202_42, u202_44, u202_45, u202_46, u202_49, u202_52, u202_62, u202_63, u202_64, u202_65, u202_66, u202_68, e202, mw_os, wp_ite, mw_sw, Option.toList_some, Option.toList_none, List.cons_append, List.nil_append, true_and, and_true, if_true, if_false, mw_s_, mw_s_i, mw_s_r, mw_s_ii, mw_s_ir, mw_s_ri, mw_s_rr, mw_s_iii, mw_s_iir, mw_s_iri, mw_s_irr, mw_s_rii, mw_s_rir, mw_s_rri, mw_s_rrr, mw_s_iiii, mw_s_iiir, mw_s_iiri, mw_s_iirr, mw_s_irii, mw_s_irir, mw_s_irri, mw_s_irrr, mw_s_riii, mw_s_riir, mw_s_riri, mw_s_rirr, mw_s_rrii, mw_s_rrir, mw_s_rrri, mw_s_rrrr, mm_sto1, mm_clr, mm_isL, List.getElem?_cons_zero, List.getElem?_cons_succ, List.set_cons_zero, List.set_cons_succ, Bool.false_eq_true, W146, i1, i3, q1, q2, bi_eq0, reduceCtorEq, not_false_eq_true, OA_x hO]
            refine M203 (n := n + 34) (M0 := M) hg rfl Ag_rf hC a1 a2 b1 a3 a4 b2 (fun M1 hl1 ha1 hC1 => ?_)
            obtain ⟨o1, r1, hO1, _, hR1, hA1⟩ := MSu hC1
            simp only [u202_71, u202_73, u202_74, u202_75, u202_77, u202_78, u202_79, mw_os, wp_ite, mw_sw, Option.toList_some, Option.toList_none, List.cons_append, List.nil_append, true_and, and_true, if_true, if_false, mw_s_, mw_s_i, mw_s_r, mw_s_ii, mw_s_ir, mw_s_ri, mw_s_rr, mw_s_iii, mw_s_iir, mw_s_iri, mw_s_irr, mw_s_rii, mw_s_rir, mw_s_rri, mw_s_rrr, mw_s_iiii, mw_s_iiir, mw_s_iiri, mw_s_iirr, mw_s_irii, mw_s_irir, mw_s_irri, mw_s_irrr, mw_s_riii, mw_s_riir, mw_s_riri, mw_s_rirr, mw_s_rrii, mw_s_rrir, mw_s_rrri, mw_s_rrrr, mm_sto1, mm_clr, mm_isL, List.getElem?_cons_zero, List.getElem?_cons_succ, List.set_cons_zero, List.set_cons_succ, Bool.false_eq_true, OA_x hO1]
            refine M203 (n := n + 34) (M0 := M) hg hl1 ha1 hC1 a3 a4 b2 a1 a2 b1 (fun M2 hl2 ha2 hC2 => ?_)
            have hq := hQ M2 hl2 ha2 hC2
            have l1' := fun e he => efT_le (l1 := l1) (w1 := w1) (l2 := l2) (w2 := w2) hg (e := e) he
            have l2' := fun e he => efT_le (l1 := l2) (w1 := w2) (l2 := l1) (w2 := w1) hg (e := e) he
            generalize efT (gN g) l1 w1 l2 w2 = A at hq l1' ⊢
            generalize efT (gN g) l2 w2 l1 w1 = B at hq l2' ⊢
            simp only [u202_82, u202_84, u202_86, u202_88, u202_91, u202_93, u202_94, u202_96, u202_98, u202_101, u202_103, u202_105, u202_108, u202_110, u202_112, u202_115, u202_116, u202_119, u202_120, mw_os, wp_ite, mw_sw, Option.toList_some, Option.toList_none, List.cons_append, List.nil_append, true_and, and_true, if_true, if_false, mw_s_, mw_s_i, mw_s_r, mw_s_ii, mw_s_ir, mw_s_ri, mw_s_rr, mw_s_iii, mw_s_iir, mw_s_iri, mw_s_irr, mw_s_rii, mw_s_rir, mw_s_rri, mw_s_rrr, mw_s_iiii, mw_s_iiir, mw_s_iiri, mw_s_iirr, mw_s_irii, mw_s_irir, mw_s_irri, mw_s_irrr, mw_s_riii, mw_s_riir, mw_s_riri, mw_s_rirr, mw_s_rrii, mw_s_rrir, mw_s_rrri, mw_s_rrrr, mm_sto1, mm_clr, mm_isL, List.getElem?_cons_zero, List.getElem?_cons_succ, List.set_cons_zero, List.set_cons_succ, Bool.false_eq_true]
            cases A with
            | none =>
              cases B with
              | none => exact hq
              | some b =>
                have hb := l2' b rfl
                rw [if_neg (show ¬ oI (-9) none = oI (-9) (some b) from fun z => nI_n9 (by omega) z.symm), if_neg (show ¬ oI (-9) (some b) = -9 from nI_n9 (by omega))]
                exact hq
            | some a =>
              have ha := l1' a rfl
              cases B with
              | none =>
                rw [if_neg (show ¬ oI (-9) (some a) = oI (-9) none from nI_n9 (by omega))]
                exact hq
              | some b =>
                have hb := l2' b rfl
                change Q (some (.int (if a = b then -9 else if a < b then 0 else 1))) M2 at hq
                show (if nI a = nI b then _ else (if nI b = -9 then _ else (if nI a = -9 then _ else if nI b ≤ nI a then _ else _)))
                by_cases e : a = b
                · rw [if_pos e] at hq
                  rw [if_pos (by rw [e])]
                  exact hq
                · rw [if_neg e] at hq
                  rw [if_neg (fun z => e ((nI_eq (by omega) (by omega)).mp z)), if_neg (nI_n9 (by omega)), if_neg (nI_n9 (by omega))]
                  by_cases f : a < b
                  · rw [if_pos f] at hq
                    rw [if_neg (nI_ge f (by omega))]
                    exact hq
                  · rw [if_neg f] at hq
                    rw [if_pos (nI_le (by omega) (by omega))]
                    exact hq
        · exact rf2 (Or.inr ⟨⟨p1, q1⟩, ib_f (N := 4) hy, (inB_eq x4 0 3).trans (il_f (N := 3) (by decide) hy)⟩)
      · exact rf2 (Or.inl ⟨ib_f (N := 4) hy, (inB_eq x2 0 3).trans (il_f (N := 3) (by decide) hy)⟩)
    · exact rf1 (Or.inr (decide_eq_false hx3))
  · exact rf1 (Or.inl (decide_eq_false hx1))
end FI
