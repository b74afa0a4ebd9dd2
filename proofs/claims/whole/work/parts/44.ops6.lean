section O6
variable {scr : List Int32} {n : Nat} {M : mm_M} {Q : Option Value → mm_M → Prop} {g : SG} {x1 x2 : Int32}
theorem hasL_n {y : tbE} {u : LV} {x : Int32} (hG : GT y u) (hl : hasL u x = true) : ∃ l, 1 ≤ l ∧ l ≤ 4 ∧ x = nI l := by
  unfold hasL at hl
  by_cases h4 : x = 4
  · exact ⟨4, by omega, by omega, h4⟩
  · rw [if_neg h4] at hl
    have hl := of_decide_eq_true hl
    obtain ⟨e1, _, _, a4, _⟩ := GT_wt hG
    rcases pk_ix x (n := 5) (by decide) with h | h | ⟨j, h1, h2⟩
    · exact absurd (Int32.lt_of_le_of_lt hl.1 h) (by decide)
    · have := Int32.lt_of_le_of_lt h hl.2
      rw [e1] at this
      exact absurd this (nI_nlt (a := 5) (by omega) (by decide))
    · refine ⟨j, ?_, by omega, h2⟩
      have h3 := hl.1
      rw [h2] at h3
      exact (nI_leI (a := 1) (b := j) (by decide) (by omega)).mp h3
theorem hasL_4 {h : HV} {x : Int32} (hh : HOK h) (hd : h.2.1 = 4) : hasL (hU h) x = false := by
  obtain ⟨y, hG, hr⟩ := hU_GT hh
  cases hl : hasL (hU h) x
  · rfl
  · obtain ⟨l, h1, h4, rfl⟩ := hasL_n hG hl
    rw [hasL_0 hG (by omega) l h1 h4] at hl
    cases hl
theorem CW69 (h : CS M g) (hg : SGOK g) : Wp scr (n + 2) 69 [.ref 1, .int (nI (gN g).2.1), .int x1] M Q ↔ Q (some (.int (bi (hasL (gU g) x1)))) M := by
  by_cases hd : (gN g).2.1 = 4
  · rw [show hasL (gU g) x1 = false from hasL_4 hg.1 hd, hd]
    exact W69n
  · exact W69 (NS h) (NL h) (by have := hg.1.2.2.1; omega)
theorem W97 (h : CS M g) (hg : SGOK g) : Wp scr (n + 3) 97 [.ref 0, .int x1, .int x2] M Q ↔ Q (some (.int (if hasL (gU g) x1 = true then (if decide (0 ≤ x2 ∧ x2 < 4) = true then 0 else -2) else -1))) M := by
  simp only [e97, u97_0, u97_1, u97_4, u97_5, u97_8, u97_11, u97_12, u97_15, u97_18, u97_19, u97_20, u97_21, u97_22, u97_25, u97_28, u97_29, u97_32, u97_34, mw_os, wp_ite, mw_sw, Option.toList_some, Option.toList_none, List.cons_append, List.nil_append, true_and, and_true, if_true, if_false, mw_s_, mw_s_i, mw_s_r, mw_s_ii, mw_s_ir, mw_s_ri, mw_s_rr, mw_s_iii, mw_s_iir, mw_s_iri, mw_s_irr, mw_s_rii, mw_s_rir, mw_s_rri, mw_s_rrr, mw_s_iiii, mw_s_iiir, mw_s_iiri, mw_s_iirr, mw_s_irii, mw_s_irir, mw_s_irri, mw_s_irrr, mw_s_riii, mw_s_riir, mw_s_riri, mw_s_rirr, mw_s_rrii, mw_s_rrir, mw_s_rrri, mw_s_rrrr, mm_sto1, mm_clr, mm_isL, List.getElem?_cons_zero, List.getElem?_cons_succ, List.set_cons_zero, List.set_cons_succ, Bool.false_eq_true, CS_0 h, NS_4 h hg, NS_x h, CW69 h hg, W89, bi_eq0]
  cases h1 : hasL (gU g) x1
  · simp
  · cases h2 : decide (0 ≤ x2 ∧ x2 < 4) <;> simp
theorem SH_fold {s : Nat} {h : HV} {x : LV} {v : SV} (hs : SH M s h) (hd : h.2.1 < 4) : SH (ph (pl M (la s (h.2.1 + 1)) x) s v) s (v, h.2.1 + 1, fun i => if i = h.2.1 + 1 then x else h.2.2 i) := by
  have hl : la s (h.2.1 + 1) + 6 < M.length := by
    obtain ⟨y, y1, y2⟩ := hs.2.2 (h.2.1 + 1) (by omega) (by omega)
    exact LA_len y2
  have hlen := SA_len hs.1
  refine ⟨ph_SA (by rw [pl_len]; exact hlen), fun i hi => ?_, fun i h1 h2 => ?_⟩
  · have hi' : i ≤ h.2.1 + 1 := hi
    show LA _ (la s i) (if i = h.2.1 + 1 then x else h.2.2 i)
    by_cases he : i = h.2.1 + 1
    · rw [if_pos he, he]
      exact LA_ph (pl_LA hl) (by unfold la; omega)
    · rw [if_neg he]
      exact LA_ph (pl_other (hs.2.1 i (by omega)) (by unfold la; omega)) (by unfold la; omega)
  · have h1' : h.2.1 + 1 < i := h1
    obtain ⟨y, y1, y2⟩ := hs.2.2 i (by omega) h2
    exact ⟨y, y1, LA_ph (pl_other y2 (by unfold la; omega)) (by unfold la; omega)⟩
theorem MS_142 {w : List Int32} (hc : MS M g) (hw : w.length = 32) : MS (sr M 142 w) g := by
  obtain ⟨⟨a1, o, a2, a3⟩, ⟨r0, a4, a5⟩, ⟨w1, a6, a7, a8⟩, a9, a10, a11, a12, a13, ⟨w2, a14, a15⟩⟩ := hc
  refine ⟨⟨sr_len.trans a1, o, (sr_ne (by decide)).trans a2, a3⟩, ⟨r0, a4, (sr_ne (by decide)).trans a5⟩, ⟨w1, a6, (sr_ne (by decide)).trans a7, a8⟩, (sr_ne (by decide)).trans a9, fun k hk => ?_, (sr_ne (by decide)).trans a11, (sr_ne (by decide)).trans a12, (sr_ne (by decide)).trans a13, ⟨w, hw, sr_RA (by omega)⟩⟩
  obtain ⟨w3, b1, b2⟩ := a10 k hk
  exact ⟨w3, b1, (sr_ne (by omega)).trans b2⟩
theorem MS_sc (hc : MS M g) : ∃ w, w.length = 32 ∧ RA M 142 w := hc.2.2.2.2.2.2.2.2
theorem J_fold (hg : SGOK g) (x1 x2 : Int32) : JO scr 96 172 [.int x1, .int x2] g := by
  obtain ⟨y, hG, _⟩ := gU_GT hg
  have z1 : ((0 : Int32) ≤ -1) ↔ False := by decide
  have z2 : ((0 : Int32) ≤ -2) ↔ False := by decide
  have z0 : ((0 : Int32) ≤ 0) ↔ True := by decide
  cases hl : hasL (gU g) x1
  · refine ⟨.int (-nI 1), gRf g 1, gRf_ok hg, fun n M Q hC hQ => ?_, fun n M Q hC hQ => ?_⟩
    · simp only [e96, u96_0, u96_1, u96_2, u96_3, u96_6, u96_7, u96_8, u96_11, u96_12, u96_13, u96_19, u96_20, u96_23, u96_24, u96_25, u96_28, mw_os, wp_ite, mw_sw, Option.toList_some, Option.toList_none, List.cons_append, List.nil_append, true_and, and_true, if_true, if_false, mw_s_, mw_s_i, mw_s_r, mw_s_ii, mw_s_ir, mw_s_ri, mw_s_rr, mw_s_iii, mw_s_iir, mw_s_iri, mw_s_irr, mw_s_rii, mw_s_rir, mw_s_rri, mw_s_rrr, mw_s_iiii, mw_s_iiir, mw_s_iiri, mw_s_iirr, mw_s_irii, mw_s_irir, mw_s_irri, mw_s_irrr, mw_s_riii, mw_s_riir, mw_s_riri, mw_s_rirr, mw_s_rrii, mw_s_rrir, mw_s_rrri, mw_s_rrrr, mm_sto1, mm_clr, mm_isL, List.getElem?_cons_zero, List.getElem?_cons_succ, List.set_cons_zero, List.set_cons_succ, Bool.false_eq_true, W97 hC hg, hl, z1, CS_x hC, reduceCtorEq]
      refine CW84 (k := 1) hC hg (by decide) (by decide) (fun M' hl ha hc => ?_)
      simp only [u96_16, u96_28, Option.toList_some, List.cons_append, List.nil_append]
      exact hQ M' hl ha hc
    · obtain ⟨o, r, hO, _, hR, hA⟩ := MSu hC
      have hP : rP r = panL (gU g) := hR.2.2.2.2.2.1
      simp only [e172, u172_0, u172_1, u172_4, u172_5, u172_8, u172_11, u172_12, u172_13, u172_17, u172_18, u172_19, u172_20, u172_23, u172_26, u172_29, u172_30, u172_31, u172_34, u172_35, u172_36, u172_39, u172_42, u172_43, u172_45, u172_48, mw_os, wp_ite, mw_sw, Option.toList_some, Option.toList_none, List.cons_append, List.nil_append, true_and, and_true, if_true, if_false, mw_s_, mw_s_i, mw_s_r, mw_s_ii, mw_s_ir, mw_s_ri, mw_s_rr, mw_s_iii, mw_s_iir, mw_s_iri, mw_s_irr, mw_s_rii, mw_s_rir, mw_s_rri, mw_s_rrr, mw_s_iiii, mw_s_iiir, mw_s_iiri, mw_s_iirr, mw_s_irii, mw_s_irir, mw_s_irri, mw_s_irrr, mw_s_riii, mw_s_riir, mw_s_riri, mw_s_rirr, mw_s_rrii, mw_s_rrir, mw_s_rrri, mw_s_rrrr, mm_sto1, mm_clr, mm_isL, List.getElem?_cons_zero, List.getElem?_cons_succ, List.set_cons_zero, List.set_cons_succ, Bool.false_eq_true, OA_0 hO, W150 hA hR.1, hP, GT_line hG, hl, bi_eq0, OA_x hO, not_true]
      refine MW141 (k := 1) hC hg (by decide) (by decide) (fun M' hl ha hc => ?_)
      simp only [u172_16, Option.toList_some, List.cons_append, List.nil_append]
      exact hQ M' hl ha hc
  · obtain ⟨l, h1, h4, rfl⟩ := hasL_n hG hl
    rcases ixc x2 (N := 4) (by decide) with ⟨w, hw, rfl⟩ | hy
    · have b1 : decide ((0 : Int32) ≤ nI w ∧ nI w < 4) = true := ib_t hw (by decide)
      have b2 : inB (nI w).toInt64 0 3 = true := (inB_eq (nI w) 0 3).trans (il_t (N := 3) hw (by decide))
      obtain ⟨hd, hm, hu, hn, _⟩ := fold_at hg.1 h1 h4 hl hw
      refine ⟨.int (tfE (gN g).1 (fC (gU g) (nI l) (nI w))), gW g (hF (gN g) (nI l) (nI w)), gW_ok hg (HOK_hF hg.1 h1 h4 hl hw), fun n M Q hC hQ => ?_, fun n M Q hC hQ => ?_⟩
      · obtain ⟨z, zl, za⟩ := hC.2.1.2.2 ((gN g).2.1 + 1) (by omega) (by omega)
        simp only [e96, u96_0, u96_1, u96_2, u96_3, u96_6, u96_7, u96_8, u96_11, u96_12, u96_13, u96_16, u96_19, u96_20, u96_23, u96_24, u96_25, u96_28, mw_os, wp_ite, mw_sw, Option.toList_some, Option.toList_none, List.cons_append, List.nil_append, true_and, and_true, if_true, if_false, mw_s_, mw_s_i, mw_s_r, mw_s_ii, mw_s_ir, mw_s_ri, mw_s_rr, mw_s_iii, mw_s_iir, mw_s_iri, mw_s_irr, mw_s_rii, mw_s_rir, mw_s_rri, mw_s_rrr, mw_s_iiii, mw_s_iiir, mw_s_iiri, mw_s_iirr, mw_s_irii, mw_s_irir, mw_s_irri, mw_s_irrr, mw_s_riii, mw_s_riir, mw_s_riri, mw_s_rirr, mw_s_rrii, mw_s_rrir, mw_s_rrri, mw_s_rrrr, mm_sto1, mm_clr, mm_isL, List.getElem?_cons_zero, List.getElem?_cons_succ, List.set_cons_zero, List.set_cons_succ, Bool.false_eq_true, W97 hC hg, hl, b1, z0, CS_x hC, CS_0 hC, NS_x hC, W70 (NS hC) (gSOK hg) hd hg.1.2.1 (NL hC) za hu hm zl hn]
        have ha : Ag M (ph (pl M (la 1 ((gN g).2.1 + 1)) (fC (gU g) (nI l) (nI w))) 1 (xW (xN (gN g).1 (nI ((gN g).2.1 + 1))) (wdOf (gN g).1 (fC (gU g) (nI l) (nI w))))) 41 143 := Ag_tr (M' := pl M (la 1 ((gN g).2.1 + 1)) (fC (gU g) (nI l) (nI w))) (Ag_pl (by unfold la; omega)) (Ag_ph (by omega))
        refine hQ _ ((ph_len ..).trans (pl_len ..)) (Ag_sub ha (by omega) (by omega)) ?_
        refine CS_now hC hg ((ph_len ..).trans (pl_len ..)) ((ph_out (by omega)).trans (pl_out (by unfold la; omega))) (Ag_sub ha (by omega) (by omega)) ?_
        exact SH_fold hC.2.1 hd
      · obtain ⟨o, r, hO, _, hR, hA⟩ := MSu hC
        obtain ⟨w0, hw0, hW⟩ := MS_sc hC
        have hP : rP r = panL (gU g) := hR.2.2.2.2.2.1
        simp only [e172, u172_0, u172_1, u172_4, u172_5, u172_8, u172_11, u172_12, u172_13, u172_16, u172_17, u172_18, u172_19, u172_20, u172_23, u172_26, u172_29, u172_30, u172_31, u172_34, u172_35, u172_36, u172_39, u172_42, u172_43, u172_45, u172_48, mw_os, wp_ite, mw_sw, Option.toList_some, Option.toList_none, List.cons_append, List.nil_append, true_and, and_true, if_true, if_false, mw_s_, mw_s_i, mw_s_r, mw_s_ii, mw_s_ir, mw_s_ri, mw_s_rr, mw_s_iii, mw_s_iir, mw_s_iri, mw_s_irr, mw_s_rii, mw_s_rir, mw_s_rri, mw_s_rrr, mw_s_iiii, mw_s_iiir, mw_s_iiri, mw_s_iirr, mw_s_irii, mw_s_irir, mw_s_irri, mw_s_irrr, mw_s_riii, mw_s_riir, mw_s_riri, mw_s_rirr, mw_s_rrii, mw_s_rrir, mw_s_rrri, mw_s_rrrr, mm_sto1, mm_clr, mm_isL, List.getElem?_cons_zero, List.getElem?_cons_succ, List.set_cons_zero, List.set_cons_succ, Bool.false_eq_true, OA_0 hO, W150 hA hR.1, hP, GT_line hG, hl, bi_eq0, OA_x hO, reduceCtorEq, not_false_eq_true, W146, b2, W152 (RA_lt hA) (by decide) (by decide) hO hW hw0 hR.1 hA hR.2.2.2.2.2.2.2.1 hd, mFe_hF hg.1 hR h1 h4 hl hw]
        refine hQ _ (sr_len.trans sr_len) (Ag_tr (Ag_sr (by omega)) (Ag_sr (by omega))) ?_
        exact MS_now (MS_142 hC (pan_len _)) (MR_hF hg.1 hR h1 h4 hl hw)
    · have b1 : decide ((0 : Int32) ≤ x2 ∧ x2 < 4) = false := ib_f (N := 4) hy
      have b2 : inB x2.toInt64 0 3 = false := (inB_eq x2 0 3).trans (il_f (N := 3) (by decide) hy)
      refine ⟨.int (-nI 2), gRf g 2, gRf_ok hg, fun n M Q hC hQ => ?_, fun n M Q hC hQ => ?_⟩
      · simp only [e96, u96_0, u96_1, u96_2, u96_3, u96_6, u96_7, u96_8, u96_11, u96_12, u96_13, u96_19, u96_20, u96_23, u96_24, u96_25, u96_28, mw_os, wp_ite, mw_sw, Option.toList_some, Option.toList_none, List.cons_append, List.nil_append, true_and, and_true, if_true, if_false, mw_s_, mw_s_i, mw_s_r, mw_s_ii, mw_s_ir, mw_s_ri, mw_s_rr, mw_s_iii, mw_s_iir, mw_s_iri, mw_s_irr, mw_s_rii, mw_s_rir, mw_s_rri, mw_s_rrr, mw_s_iiii, mw_s_iiir, mw_s_iiri, mw_s_iirr, mw_s_irii, mw_s_irir, mw_s_irri, mw_s_irrr, mw_s_riii, mw_s_riir, mw_s_riri, mw_s_rirr, mw_s_rrii, mw_s_rrir, mw_s_rrri, mw_s_rrrr, mm_sto1, mm_clr, mm_isL, List.getElem?_cons_zero, List.getElem?_cons_succ, List.set_cons_zero, List.set_cons_succ, Bool.false_eq_true, W97 hC hg, hl, b1, z2, CS_x hC, reduceCtorEq]
        refine CW84 (k := 2) hC hg (by decide) (by decide) (fun M' hl ha hc => ?_)
        simp only [u96_16, u96_28, Option.toList_some, List.cons_append, List.nil_append]
        exact hQ M' hl ha hc
      · obtain ⟨o, r, hO, _, hR, hA⟩ := MSu hC
        have hP : rP r = panL (gU g) := hR.2.2.2.2.2.1
        simp only [e172, u172_0, u172_1, u172_4, u172_5, u172_8, u172_11, u172_12, u172_13, u172_16, u172_17, u172_18, u172_19, u172_20, u172_23, u172_26, u172_29, u172_30, u172_31, u172_34, u172_35, u172_36, u172_39, u172_42, u172_43, u172_45, mw_os, wp_ite, mw_sw, Option.toList_some, Option.toList_none, List.cons_append, List.nil_append, true_and, and_true, if_true, if_false, mw_s_, mw_s_i, mw_s_r, mw_s_ii, mw_s_ir, mw_s_ri, mw_s_rr, mw_s_iii, mw_s_iir, mw_s_iri, mw_s_irr, mw_s_rii, mw_s_rir, mw_s_rri, mw_s_rrr, mw_s_iiii, mw_s_iiir, mw_s_iiri, mw_s_iirr, mw_s_irii, mw_s_irir, mw_s_irri, mw_s_irrr, mw_s_riii, mw_s_riir, mw_s_riri, mw_s_rirr, mw_s_rrii, mw_s_rrir, mw_s_rrri, mw_s_rrrr, mm_sto1, mm_clr, mm_isL, List.getElem?_cons_zero, List.getElem?_cons_succ, List.set_cons_zero, List.set_cons_succ, Bool.false_eq_true, OA_0 hO, W150 hA hR.1, hP, GT_line hG, hl, W146, b2, bi_eq0, OA_x hO, reduceCtorEq, not_false_eq_true]
        refine MW141 (k := 2) hC hg (by decide) (by decide) (fun M' hl ha hc => ?_)
        simp only [u172_48, Option.toList_some, List.cons_append, List.nil_append]
        exact hQ M' hl ha hc
theorem J_opens (hg : SGOK g) : JO scr 98 173 [] g := by
  have hN := hg.1.2.1
  have z1 : ((1 : Int32) = 0) ↔ False := by decide
  cases hd : (gN g).2.1 with
  | zero =>
    have e0 : sN (gN g).1 = 0 := by rw [hN, hd]; exact nI_0
    refine ⟨.int (-nI 3), gRf g 3, gRf_ok hg, fun n M Q hC hQ => ?_, fun n M Q hC hQ => ?_⟩
    · have w76 : ∀ Q : Option Value → mm_M → Prop, Wp scr (n + 39) 76 [.ref 1] M Q ↔ Q (some (.int 0)) M := fun Q => by
        have := W76 (scr := scr) (n := n + 38) (Q := Q) (M := M) (s := 1) (v := (gN g).1) (SA_len (NS hC))
        rw [ph_self (NS hC), if_pos e0] at this
        exact this
      simp only [e98, u98_0, u98_1, u98_4, u98_7, u98_10, u98_11, u98_14, u98_17, u98_20, u98_21, u98_23, mw_os, wp_ite, mw_sw, Option.toList_some, Option.toList_none, List.cons_append, List.nil_append, true_and, and_true, if_true, if_false, mw_s_, mw_s_i, mw_s_r, mw_s_ii, mw_s_ir, mw_s_ri, mw_s_rr, mw_s_iii, mw_s_iir, mw_s_iri, mw_s_irr, mw_s_rii, mw_s_rir, mw_s_rri, mw_s_rrr, mw_s_iiii, mw_s_iiir, mw_s_iiri, mw_s_iirr, mw_s_irii, mw_s_irir, mw_s_irri, mw_s_irrr, mw_s_riii, mw_s_riir, mw_s_riri, mw_s_rirr, mw_s_rrii, mw_s_rrir, mw_s_rrri, mw_s_rrrr, mm_sto1, mm_clr, mm_isL, List.getElem?_cons_zero, List.getElem?_cons_succ, List.set_cons_zero, List.set_cons_succ, Bool.false_eq_true, CS_0 hC, NS_x hC, w76, CS_x hC]
      refine CW84 (k := 3) hC hg (by decide) (by decide) (fun M' hl ha hc => ?_)
      simp only [u98_26, Option.toList_some, List.cons_append, List.nil_append]
      exact hQ M' hl ha hc
    · obtain ⟨o, r, hO, _, hR, hA⟩ := MSu hC
      have r5 : mm_at (rowL r) 73 = some 0 := (rd_N hR.1).trans (by rw [hR.2.2.2.2.2.2.2.1, hd, nI_0])
      simp only [e173, u173_0, u173_1, u173_4, u173_6, u173_7, u173_10, u173_11, u173_13, u173_17, u173_18, u173_21, u173_24, u173_25, u173_28, u173_30, u173_31, mw_os, wp_ite, mw_sw, Option.toList_some, Option.toList_none, List.cons_append, List.nil_append, true_and, and_true, if_true, if_false, mw_s_, mw_s_i, mw_s_r, mw_s_ii, mw_s_ir, mw_s_ri, mw_s_rr, mw_s_iii, mw_s_iir, mw_s_iri, mw_s_irr, mw_s_rii, mw_s_rir, mw_s_rri, mw_s_rrr, mw_s_iiii, mw_s_iiir, mw_s_iiri, mw_s_iirr, mw_s_irii, mw_s_irir, mw_s_irri, mw_s_irrr, mw_s_riii, mw_s_riir, mw_s_riri, mw_s_rirr, mw_s_rrii, mw_s_rrir, mw_s_rrri, mw_s_rrrr, mm_sto1, mm_clr, mm_isL, List.getElem?_cons_zero, List.getElem?_cons_succ, List.set_cons_zero, List.set_cons_succ, Bool.false_eq_true, OA_0 hO, RA_ld hA, r5, OA_x hO, not_true]
      refine MW141 (k := 3) hC hg (by decide) (by decide) (fun M' hl ha hc => ?_)
      simp only [u173_16, Option.toList_some, List.cons_append, List.nil_append]
      exact hQ M' hl ha hc
  | succ e =>
    have hd4 := hg.1.2.2.1
    have e0 : ¬ sN (gN g).1 = 0 := by rw [hN, hd]; exact nI_ne0 (by omega) (by omega)
    have e1 : sN (gN g).1 - 1 = nI e := by rw [hN, hd, nI_pred]
    refine ⟨.int (nI e), gW g (hO (gN g) e), gW_ok hg (HOK_hO hg.1 hd), fun n M Q hC hQ => ?_, fun n M Q hC hQ => ?_⟩
    · have w76 : ∀ Q : Option Value → mm_M → Prop, Wp scr (n + 39) 76 [.ref 1] M Q ↔ Q (some (.int 1)) (ph M 1 (xN (gN g).1 (nI e))) := fun Q => by
        have := W76 (scr := scr) (n := n + 38) (Q := Q) (M := M) (s := 1) (v := (gN g).1) (SA_len (NS hC))
        rw [ph_self (NS hC), if_neg e0, e1] at this
        exact this
      have hs : SH (ph M 1 (xN (gN g).1 (nI e))) 1 (hO (gN g) e) := by
        have h1 := SH_ph (v := xN (gN g).1 (nI e)) hC.2.1 hd4
        refine ⟨h1.1, fun i hi => h1.2.1 i (by show i ≤ (gN g).2.1; have : i ≤ e := hi; omega), fun i h2 h3 => ?_⟩
        have h2' : e < i := h2
        by_cases he : i = e + 1
        · obtain ⟨x, hx, _⟩ := HOK_GT hg.1 i (by omega)
          exact ⟨_, LOK_LEN (GT_N hx).1, h1.2.1 i (by show i ≤ (gN g).2.1; omega)⟩
        · exact h1.2.2 i (by show (gN g).2.1 < i; omega) h3
      have hC' : CS (ph M 1 (xN (gN g).1 (nI e))) (gW g (hO (gN g) e)) := CS_now hC hg (ph_len ..) (ph_out (by omega)) (Ag_ph (by omega)) hs
      have f4 : mm_fld (mc_X scr) (ph M 1 (xN (gN g).1 (nI e))) (.ref 1) 4 4 = some (.int (nI e)) := SA_4 (ph_SA (SA_len (NS hC)))
      simp only [e98, u98_0, u98_1, u98_4, u98_7, u98_10, u98_11, u98_14, u98_17, u98_20, u98_21, u98_23, u98_26, mw_os, wp_ite, mw_sw, Option.toList_some, Option.toList_none, List.cons_append, List.nil_append, true_and, and_true, if_true, if_false, mw_s_, mw_s_i, mw_s_r, mw_s_ii, mw_s_ir, mw_s_ri, mw_s_rr, mw_s_iii, mw_s_iir, mw_s_iri, mw_s_irr, mw_s_rii, mw_s_rir, mw_s_rri, mw_s_rrr, mw_s_iiii, mw_s_iiir, mw_s_iiri, mw_s_iirr, mw_s_irii, mw_s_irir, mw_s_irri, mw_s_irrr, mw_s_riii, mw_s_riir, mw_s_riri, mw_s_rirr, mw_s_rrii, mw_s_rrir, mw_s_rrri, mw_s_rrrr, mm_sto1, mm_clr, mm_isL, List.getElem?_cons_zero, List.getElem?_cons_succ, List.set_cons_zero, List.set_cons_succ, Bool.false_eq_true, CS_0 hC, NS_x hC, w76, CS_0 hC', f4, z1]
      exact hQ _ (ph_len ..) (Ag_ph (by omega)) hC'
    · obtain ⟨o, r, hO', _, hR, hA⟩ := MSu hC
      have e0' : ¬ nI (e + 1) = 0 := nI_ne0 (by omega) (by omega)
      have r5 : mm_at (rowL r) 73 = some (nI (e + 1)) := (rd_N hR.1).trans (by rw [hR.2.2.2.2.2.2.2.1, hd])
      have hrn : rN r = nI (e + 1) := by rw [hR.2.2.2.2.2.2.2.1, hd]
      have w164 : ∀ Q : Option Value → mm_M → Prop, Wp scr (n + 39) 164 [.ref 130] M Q ↔ Q none (sr M 130 (rowL (mOp r e))) := fun Q => by
        have := W164 (scr := scr) (n := n + 38) (Q := Q) (RA_lt hA) hR.1 hrn (by omega)
        rw [sr_self hA] at this
        exact this
      have hR' := MR_hO hg.1 hR hd
      have r6 : mm_at (rowL (mOp r e)) 73 = some (nI e) := (rd_N hR'.1).trans (by rw [hR'.2.2.2.2.2.2.2.1]; rfl)
      simp only [e173, u173_0, u173_1, u173_4, u173_6, u173_7, u173_10, u173_11, u173_13, u173_16, u173_17, u173_18, u173_21, u173_24, u173_25, u173_28, u173_30, u173_31, mw_os, wp_ite, mw_sw, Option.toList_some, Option.toList_none, List.cons_append, List.nil_append, true_and, and_true, if_true, if_false, mw_s_, mw_s_i, mw_s_r, mw_s_ii, mw_s_ir, mw_s_ri, mw_s_rr, mw_s_iii, mw_s_iir, mw_s_iri, mw_s_irr, mw_s_rii, mw_s_rir, mw_s_rri, mw_s_rrr, mw_s_iiii, mw_s_iiir, mw_s_iiri, mw_s_iirr, mw_s_irii, mw_s_irir, mw_s_irri, mw_s_irrr, mw_s_riii, mw_s_riir, mw_s_riri, mw_s_rirr, mw_s_rrii, mw_s_rrir, mw_s_rrri, mw_s_rrrr, mm_sto1, mm_clr, mm_isL, List.getElem?_cons_zero, List.getElem?_cons_succ, List.set_cons_zero, List.set_cons_succ, Bool.false_eq_true, OA_0 hO', RA_ld hA, r5, e0', not_false_eq_true, w164, OA_0 (OA_sr hO' (show (130 : Nat) ≠ 129 by decide)), RA_ld (sr_RA (w := rowL (mOp r e)) (RA_lt hA)), r6]
      exact MPn hC hR' hQ
/-! images -/
def gIm (g : SG) : SG := (gN g, (gT g, gTc g), (gZ g, gZn g), gR g, (1, gN g))
theorem cpL_at {s : Nat} {U : Nat → LV} {i : Nat} : ∀ (d : Nat), 1 ≤ i → i ≤ d → la s d + 6 < M.length → LA (cpL M s U d) (la s i) (U i) := by
  intro d
  induction d with
  | zero => intro h1 h2; omega
  | succ d ih =>
    intro h1 h2 h3
    rw [cpL]
    by_cases he : i = d + 1
    · subst he
      exact pl_LA (by rw [cpL_len]; exact h3)
    · exact pl_other (ih h1 (by omega) (by unfold la at h3 ⊢; omega)) (by unfold la; omega)
theorem SH_all {s : Nat} {h : HV} (hs : SH M s h) (hh : HOK h) : ∃ Y : Nat → LV, (∀ i, i < 5 → LEN (Y i) ∧ LA M (la s i) (Y i)) ∧ Y 0 = L0 := by
  have : ∀ i, ∃ y, (i < 5 → LEN y ∧ LA M (la s i) y) ∧ (i = 0 → y = L0) := by
    intro i
    by_cases h1 : i ≤ h.2.1
    · obtain ⟨x, hx, _⟩ := HOK_GT hh i h1
      refine ⟨h.2.2 i, fun _ => ⟨LOK_LEN (GT_N hx).1, hs.2.1 i h1⟩, fun h0 => ?_⟩
      rw [h0]
      exact hh.2.2.2.2.1
    · by_cases h5 : i < 5
      · obtain ⟨y, y1, y2⟩ := hs.2.2 i (by omega) h5
        exact ⟨y, fun _ => ⟨y1, y2⟩, fun h0 => by omega⟩
      · exact ⟨L0, fun z => absurd z h5, fun _ => rfl⟩
  obtain ⟨Y, hY⟩ := Classical.axiomOfChoice this
  exact ⟨Y, fun i hi => (hY i).1 hi, (hY 0).2 rfl⟩
/-- a sheet copied to another -/
theorem cp_SH {s t : Nat} {h h' : HV} {Y : Nat → LV} (hs : SH M t h) (hh : HOK h) (hv : SA M s h'.1) (hY : ∀ i, i < 5 → LEN (Y i) ∧ LA M (la s i) (Y i)) (hY0 : Y 0 = L0) (hlen : s + 40 ≤ M.length) : SH (cpL (ph M s h.1) s h.2.2 h.2.1) s h := by
  have hd := hh.2.2.1
  refine ⟨SA_keep (ph_SA (by omega)) (fun q hq => cpL_out _ (by omega)), fun i hi => ?_, fun i h1 h2 => ?_⟩
  · by_cases h0 : i = 0
    · subst h0
      rw [hh.2.2.2.2.1, ← hY0]
      exact LA_keep (LA_ph (hY 0 (by omega)).2 (by unfold la; omega)) (fun q hq => cpL_out _ (by unfold la; omega))
    · exact cpL_at _ (by omega) hi (by rw [ph_len]; unfold la; omega)
  · exact ⟨Y i, (hY i h2).1, LA_keep (LA_ph (hY i h2).2 (by unfold la; omega)) (fun q hq => cpL_out _ (by unfold la; omega))⟩
theorem Ag_cp {s a b d : Nat} {v : SV} {U : Nat → LV} (hd : d ≤ 4) (h : s + 40 ≤ a ∨ b ≤ s) : Ag M (cpL (ph M s v) s U d) a b := fun i h3 h4 => (cpL_out _ (by omega)).trans (ph_out (by omega))
theorem CW67 {s t : Nat} {h h' : HV} (hs : SH M t h) (hh : HOK h) (hv : SH M s h') (hh' : HOK h') (hd : t + 40 ≤ s ∨ s + 40 ≤ t) : Wp scr (n + 2) 67 [.ref s, .ref t] M Q ↔ Q none (cpL (ph M s h.1) s h.2.2 h.2.1) := by
  obtain ⟨Y, hY, _⟩ := SH_all hv hh'
  refine W67 hv.1 hh'.1 hh.1 hs.1 (by have := hh.2.2.1; omega) hh.2.1 hd (fun i hi => hs.2.1 i hi) (fun i hi => ?_) (fun i hi => (hY i hi).2) (fun i hi => (hY i hi).1)
  obtain ⟨x, hx, _⟩ := HOK_GT hh i hi
  exact LOK_LEN (GT_N hx).1
theorem J_image (hg : SGOK g) : JO scr 135 219 [] g := by
  refine ⟨.int (nI (gN g).2.1), gIm g, ⟨hg.1, hg.1, hg.2.2.1, hg.2.2.2.1, hg.2.2.2.2.1, Or.inr rfl⟩, fun n M Q hC hQ => ?_, fun n M Q hC hQ => ?_⟩
  · have hd4 := hg.1.2.2.1
    obtain ⟨Y, hY, hY0⟩ := SH_all hC.2.2.1 hg.2.1
    have hs := cp_SH (s := 41) hC.2.1 hg.1 hC.2.2.1.1 hY hY0 (by rw [hC.1.1]; decide)
    have hlen : (cpL (ph M 41 (gN g).1) 41 (gN g).2.2 (gN g).2.1).length = M.length := (cpL_len _).trans (ph_len ..)
    have hA := Ag_cp (M := M) (s := 41) (v := (gN g).1) (U := (gN g).2.2) (a := 0) (b := 41) hd4 (by omega)
    have hB := Ag_cp (M := M) (s := 41) (v := (gN g).1) (U := (gN g).2.2) (a := 81) (b := 143) hd4 (by omega)
    generalize hM1 : cpL (ph M 41 (gN g).1) 41 (gN g).2.2 (gN g).2.1 = M1 at hs hlen hA hB
    have x0 : M1[0]? = some (xo (gTc g) (gH g)) := (hA 0 (by omega) (by omega)).trans hC.1.2
    have p9 : mm_put mc_fty M1 (.ref 0) (.int 1) 5 9 = some (M1.set 0 (xo (gTc g) 1)) := by simp only [mm_put, x0, xo]; rfl
    have hA2 : Ag M (M1.set 0 (xo (gTc g) 1)) 1 41 := Ag_tr (Ag_sub hA (by omega) (by omega)) (Ag_set (by omega))
    have hB2 : Ag M (M1.set 0 (xo (gTc g) 1)) 81 143 := Ag_tr hB (Ag_set (by omega))
    have hs2 : SH (M1.set 0 (xo (gTc g) 1)) 41 (gN g) := SH_kp hs (Ag_set (by omega)) hd4
    have hlen2 : (M1.set 0 (xo (gTc g) 1)).length = M.length := List.length_set.trans hlen
    have x02 : (M1.set 0 (xo (gTc g) 1))[0]? = some (xo (gTc g) 1) := List.getElem?_set_self (by rw [hlen, hC.1.1]; decide)
    have f1 : mm_fld (mc_X scr) (M1.set 0 (xo (gTc g) 1)) (.ref 0) 5 1 = some (.ref 41) := by simp only [mm_fld]; rw [x02]; rfl
    have f4 : mm_fld (mc_X scr) (M1.set 0 (xo (gTc g) 1)) (.ref 41) 4 4 = some (.int (nI (gN g).2.1)) := (SA_4 hs2.1).trans (by rw [hg.1.2.1])
    simp only [e135, u135_0, u135_1, u135_4, u135_5, u135_8, u135_11, u135_12, u135_13, u135_16, u135_17, u135_20, u135_23, mw_os, wp_ite, mw_sw, Option.toList_some, Option.toList_none, List.cons_append, List.nil_append, true_and, and_true, if_true, if_false, mw_s_, mw_s_i, mw_s_r, mw_s_ii, mw_s_ir, mw_s_ri, mw_s_rr, mw_s_iii, mw_s_iir, mw_s_iri, mw_s_irr, mw_s_rii, mw_s_rir, mw_s_rri, mw_s_rrr, mw_s_iiii, mw_s_iiir, mw_s_iiri, mw_s_iirr, mw_s_irii, mw_s_irir, mw_s_irri, mw_s_irrr, mw_s_riii, mw_s_riir, mw_s_riri, mw_s_rirr, mw_s_rrii, mw_s_rrir, mw_s_rrri, mw_s_rrrr, mm_sto1, mm_clr, mm_isL, List.getElem?_cons_zero, List.getElem?_cons_succ, List.set_cons_zero, List.set_cons_succ, Bool.false_eq_true, CS_0 hC, CS_1 hC, SA_x hC.2.2.1.1, CW67 hC.2.1 hg.1 hC.2.2.1 hg.2.1 (show 1 + 40 ≤ 41 ∨ 41 + 40 ≤ 1 by omega), hM1, p9, f1, f4]
    refine hQ _ hlen2 (Ag_sub hB2 (by omega) (by omega)) ?_
    obtain ⟨⟨a1, a2⟩, a3, a4, a5, ⟨τ, a6, a7⟩, ⟨a8, a9⟩, ⟨x, y, a10⟩, a11, a12⟩ := hC
    exact ⟨⟨hlen2.trans a1, x02⟩, SH_kp a3 hA2 hd4, hs2, TR_kp a5 (Ag_sub hB2 (by omega) (by omega)), ⟨τ, a6, QA_keep a7 (fun j hj => hB2 _ (by omega) (by omega))⟩, ⟨(hB2 124 (by omega) (by omega)).trans a8, (hB2 125 (by omega) (by omega)).trans a9⟩, ⟨x, y, (hB2 126 (by omega) (by omega)).trans a10⟩, (hB2 127 (by omega) (by omega)).trans a11, (hB2 128 (by omega) (by omega)).trans a12⟩
  · obtain ⟨o, r, hO, h1, hR, hA⟩ := MSu hC
    obtain ⟨w1, l1, hK, _⟩ := hC.2.2.1
    have hO' := OA_sr (a := 131) (w := rowL r) hO (by decide)
    have hA' : RA (so (sr M 131 (rowL r)) ((1, o.1.2.1, o.1.2.2), o.2)) 130 (rowL r) := RA_so (sr_other hA (by decide)) (by decide)
    have r5 : mm_at (rowL r) 73 = some (nI (gN g).2.1) := (rd_N hR.1).trans (by rw [hR.2.2.2.2.2.2.2.1])
    simp only [e219, u219_0, u219_1, u219_4, u219_5, u219_8, u219_11, u219_12, u219_13, u219_16, u219_17, u219_20, u219_22, u219_23, mw_os, wp_ite, mw_sw, Option.toList_some, Option.toList_none, List.cons_append, List.nil_append, true_and, and_true, if_true, if_false, mw_s_, mw_s_i, mw_s_r, mw_s_ii, mw_s_ir, mw_s_ri, mw_s_rr, mw_s_iii, mw_s_iir, mw_s_iri, mw_s_irr, mw_s_rii, mw_s_rir, mw_s_rri, mw_s_rrr, mw_s_iiii, mw_s_iiir, mw_s_iiri, mw_s_iirr, mw_s_irii, mw_s_irir, mw_s_irri, mw_s_irrr, mw_s_riii, mw_s_riir, mw_s_riri, mw_s_rirr, mw_s_rrii, mw_s_rrir, mw_s_rrri, mw_s_rrrr, mm_sto1, mm_clr, mm_isL, List.getElem?_cons_zero, List.getElem?_cons_succ, List.set_cons_zero, List.set_cons_succ, Bool.false_eq_true, OA_0 hO, OA_1 hO, W147 (show (130 : Nat) ≠ 131 by decide) hA hK (rowL_len hR.1) l1, OA_pu3 hO', OA_0 (so_OA hO'), RA_ld hA', r5]
    refine hQ _ (so_len.trans sr_len) (Ag_tr (Ag_sr (by omega)) Ag_so) ?_
    have hl : M.length = 143 := hC.1.1
    obtain ⟨⟨a1, o', a2, a3⟩, ⟨r0, a4, a5⟩, ⟨w1, a6, a7, a8⟩, a9, a10, a11, a12, a13, ⟨w2, a14, a15⟩⟩ := hC
    refine ⟨⟨so_len.trans (sr_len.trans a1), _, so_OA hO', by rw [h1]; rfl⟩, ⟨r, hR, hA'⟩, ⟨rowL r, rowL_len hR.1, RA_so (sr_RA (by omega)) (by decide), fun _ => ⟨r, hR, rfl⟩⟩, (so_ne (by decide)).trans ((sr_ne (by decide)).trans a9), fun k hk => ?_, RA_so (sr_other a11 (by decide)) (by decide), RA_so (sr_other a12 (by decide)) (by decide), RA_so (sr_other a13 (by decide)) (by decide), ⟨w2, a14, RA_so (sr_other a15 (by decide)) (by decide)⟩⟩
    obtain ⟨w3, b1, b2⟩ := a10 k hk
    exact ⟨w3, b1, RA_so (sr_other b2 (by omega)) (by omega)⟩
theorem J_on (hg : SGOK g) : JO scr 136 220 [] g := by
  rcases hg.2.2.2.2.2 with hH | hH
  · refine ⟨.int (-nI 3), gRf g 3, gRf_ok hg, fun n M Q hC hQ => ?_, fun n M Q hC hQ => ?_⟩
    · simp only [e136, u136_0, u136_1, u136_4, u136_7, u136_8, u136_10, u136_14, u136_15, u136_18, u136_19, u136_22, u136_25, u136_26, u136_29, u136_32, mw_os, wp_ite, mw_sw, Option.toList_some, Option.toList_none, List.cons_append, List.nil_append, true_and, and_true, if_true, if_false, mw_s_, mw_s_i, mw_s_r, mw_s_ii, mw_s_ir, mw_s_ri, mw_s_rr, mw_s_iii, mw_s_iir, mw_s_iri, mw_s_irr, mw_s_rii, mw_s_rir, mw_s_rri, mw_s_rrr, mw_s_iiii, mw_s_iiir, mw_s_iiri, mw_s_iirr, mw_s_irii, mw_s_irir, mw_s_irri, mw_s_irrr, mw_s_riii, mw_s_riir, mw_s_riri, mw_s_rirr, mw_s_rrii, mw_s_rrir, mw_s_rrri, mw_s_rrrr, mm_sto1, mm_clr, mm_isL, List.getElem?_cons_zero, List.getElem?_cons_succ, List.set_cons_zero, List.set_cons_succ, Bool.false_eq_true, CS_9 hC, hH, CS_x hC]
      refine CW84 (k := 3) hC hg (by decide) (by decide) (fun M' hl ha hc => ?_)
      simp only [u136_13, Option.toList_some, List.cons_append, List.nil_append]
      exact hQ M' hl ha hc
    · obtain ⟨o, r, hO, h1, hR, hA⟩ := MSu hC
      have e3 : o.1.1 = 0 := by rw [h1]; exact hH
      simp only [e220, u220_0, u220_1, u220_4, u220_7, u220_8, u220_10, u220_14, u220_15, u220_18, u220_19, u220_22, u220_25, u220_26, u220_29, u220_31, u220_32, mw_os, wp_ite, mw_sw, Option.toList_some, Option.toList_none, List.cons_append, List.nil_append, true_and, and_true, if_true, if_false, mw_s_, mw_s_i, mw_s_r, mw_s_ii, mw_s_ir, mw_s_ri, mw_s_rr, mw_s_iii, mw_s_iir, mw_s_iri, mw_s_irr, mw_s_rii, mw_s_rir, mw_s_rri, mw_s_rrr, mw_s_iiii, mw_s_iiir, mw_s_iiri, mw_s_iirr, mw_s_irii, mw_s_irir, mw_s_irri, mw_s_irrr, mw_s_riii, mw_s_riir, mw_s_riri, mw_s_rirr, mw_s_rrii, mw_s_rrir, mw_s_rrri, mw_s_rrrr, mm_sto1, mm_clr, mm_isL, List.getElem?_cons_zero, List.getElem?_cons_succ, List.set_cons_zero, List.set_cons_succ, Bool.false_eq_true, OA_3 hO, e3, OA_x hO]
      refine MW141 (k := 3) hC hg (by decide) (by decide) (fun M' hl ha hc => ?_)
      simp only [u220_13, Option.toList_some, List.cons_append, List.nil_append]
      exact hQ M' hl ha hc
  · have z1 : ((1 : Int32) = 0) ↔ False := by decide
    refine ⟨.int (nI (gI g).2.1), gW g (gI g), gW_ok hg hg.2.1, fun n M Q hC hQ => ?_, fun n M Q hC hQ => ?_⟩
    · have hd4 := hg.2.1.2.2.1
      obtain ⟨Y, hY, hY0⟩ := SH_all hC.2.1 hg.1
      have hs := cp_SH (s := 1) hC.2.2.1 hg.2.1 hC.2.1.1 hY hY0 (by rw [hC.1.1]; decide)
      have hlen : (cpL (ph M 1 (gI g).1) 1 (gI g).2.2 (gI g).2.1).length = M.length := (cpL_len _).trans (ph_len ..)
      have hA := Ag_cp (M := M) (s := 1) (v := (gI g).1) (U := (gI g).2.2) (a := 0) (b := 1) hd4 (by omega)
      have hB := Ag_cp (M := M) (s := 1) (v := (gI g).1) (U := (gI g).2.2) (a := 41) (b := 143) hd4 (by omega)
      generalize hM1 : cpL (ph M 1 (gI g).1) 1 (gI g).2.2 (gI g).2.1 = M1 at hs hlen hA hB
      have hC' : CS M1 (gW g (gI g)) := CS_now hC hg hlen (hA 0 (by omega) (by omega)) (Ag_sub hB (by omega) (by omega)) hs
      have f4 : mm_fld (mc_X scr) M1 (.ref 1) 4 4 = some (.int (nI (gI g).2.1)) := (SA_4 hs.1).trans (by rw [hg.2.1.2.1])
      simp only [e136, u136_0, u136_1, u136_4, u136_7, u136_8, u136_10, u136_13, u136_14, u136_15, u136_18, u136_19, u136_22, u136_25, u136_26, u136_29, u136_32, mw_os, wp_ite, mw_sw, Option.toList_some, Option.toList_none, List.cons_append, List.nil_append, true_and, and_true, if_true, if_false, mw_s_, mw_s_i, mw_s_r, mw_s_ii, mw_s_ir, mw_s_ri, mw_s_rr, mw_s_iii, mw_s_iir, mw_s_iri, mw_s_irr, mw_s_rii, mw_s_rir, mw_s_rri, mw_s_rrr, mw_s_iiii, mw_s_iiir, mw_s_iiri, mw_s_iirr, mw_s_irii, mw_s_irir, mw_s_irri, mw_s_irrr, mw_s_riii, mw_s_riir, mw_s_riri, mw_s_rirr, mw_s_rrii, mw_s_rrir, mw_s_rrri, mw_s_rrrr, mm_sto1, mm_clr, mm_isL, List.getElem?_cons_zero, List.getElem?_cons_succ, List.set_cons_zero, List.set_cons_succ, Bool.false_eq_true, CS_9 hC, hH, z1, CS_0 hC, CS_1 hC, NS_x hC, CW67 hC.2.2.1 hg.2.1 hC.2.1 hg.1 (show 41 + 40 ≤ 1 ∨ 1 + 40 ≤ 41 by omega), hM1, CS_0 hC', f4]
      exact hQ _ hlen (Ag_sub hB (by omega) (by omega)) hC'
    · obtain ⟨o, r, hO, h1, hR, hA⟩ := MSu hC
      obtain ⟨w1, l1, hK, hk2⟩ := hC.2.2.1
      obtain ⟨r', hR', rfl⟩ := hk2 hH
      have e3 : o.1.1 = 1 := by rw [h1]; exact hH
      have r5 : mm_at (rowL r') 73 = some (nI (gI g).2.1) := (rd_N hR'.1).trans (by rw [hR'.2.2.2.2.2.2.2.1])
      simp only [e220, u220_0, u220_1, u220_4, u220_7, u220_8, u220_10, u220_13, u220_14, u220_15, u220_18, u220_19, u220_22, u220_25, u220_26, u220_29, u220_31, u220_32, mw_os, wp_ite, mw_sw, Option.toList_some, Option.toList_none, List.cons_append, List.nil_append, true_and, and_true, if_true, if_false, mw_s_, mw_s_i, mw_s_r, mw_s_ii, mw_s_ir, mw_s_ri, mw_s_rr, mw_s_iii, mw_s_iir, mw_s_iri, mw_s_irr, mw_s_rii, mw_s_rir, mw_s_rri, mw_s_rrr, mw_s_iiii, mw_s_iiir, mw_s_iiri, mw_s_iirr, mw_s_irii, mw_s_irir, mw_s_irri, mw_s_irrr, mw_s_riii, mw_s_riir, mw_s_riri, mw_s_rirr, mw_s_rrii, mw_s_rrir, mw_s_rrri, mw_s_rrrr, mm_sto1, mm_clr, mm_isL, List.getElem?_cons_zero, List.getElem?_cons_succ, List.set_cons_zero, List.set_cons_succ, Bool.false_eq_true, OA_3 hO, e3, z1, OA_0 hO, OA_1 hO, W147 (show (131 : Nat) ≠ 130 by decide) hK hA l1 (rowL_len hR.1), OA_0 (OA_sr hO (show (130 : Nat) ≠ 129 by decide)), RA_ld (sr_RA (w := rowL r') (RA_lt hA)), r5]
      exact MPn hC hR' hQ
end O6
