/-! told folds, one behind the other -/
def wv (b : Bool) (w : Nat) : Nat := if b = true then Nat.xor w 1 else w
def gsF (T : Nat → Nat) (tb : Nat → Bool) : Nat → Nat → HV → Option Nat × HV
  | 0, _, h => (none, h)
  | m + 1, k, h => if hasL (hU h) (nI (T k / 10)) = true ∧ T k % 10 < 4 then gsF T tb m (k + 1) (hF h (nI (T k / 10)) (nI (wv (tb k) (T k % 10)))) else (some k, h)
theorem wv_lt {b : Bool} {w : Nat} (h : w < 4) : wv b w < 4 := by
  unfold wv
  split
  · rcases (show w = 0 ∨ w = 1 ∨ w = 2 ∨ w = 3 by omega) with rfl | rfl | rfl | rfl <;> decide
  · exact h
theorem xor1 : ∀ w, w < 4 → nI w ^^^ 1 = nI (Nat.xor w 1) := by decide +kernel
theorem gsF_cg {T : Nat → Nat} {tb tb' : Nat → Bool} : ∀ (m k : Nat) (h : HV), (∀ i, k ≤ i → i < k + m → tb i = tb' i) → gsF T tb m k h = gsF T tb' m k h := by
  intro m
  induction m with
  | zero => intro k h _; rfl
  | succ m ih =>
    intro k h hh
    rw [gsF, gsF, hh k (Nat.le_refl _) (by omega)]
    split
    · exact ih _ _ (fun i h1 h2 => hh i (by omega) (by omega))
    · rfl
section GO
variable {scr : List Int32} {n : Nat} {M M0 : mm_M} {Q : Option Value → mm_M → Prop} {g : SG}
theorem ln_ok {h : HV} {t : Nat} (hh : HOK h) (ht : t ≤ 99) (hl : hasL (hU h) (nI (t / 10)) = true) : 1 ≤ t / 10 ∧ t / 10 ≤ 4 := by
  obtain ⟨y, hG, _⟩ := hU_GT hh
  obtain ⟨l, h1, h4, he⟩ := hasL_n hG hl
  have := (nI_eq (by omega) (by omega)).mp he
  omega
theorem C121l (hg : SGOK g) : ∀ (m k : Nat) (h : HV) (M : mm_M), k + m = gTc g → CTh M0 M g h → Th (gN g) h → (∀ M', CTh M0 M' g (gsF (tN g) (fun _ => false) m k h).2 → Q (some (.int (oI (-1) (gsF (tN g) (fun _ => false) m k h).1))) M') → ∀ l3 l4, wp scr (n + 4) mb_121 10 [some (.ref 0), some (.int (nI h.2.1)), some (.int (nI k)), l3, l4] [] M Q := by
  have hc16 := hg.2.2.1.2.1
  have hTl := hg.2.2.1.1
  have d10 : ((10 : Int32) = 0) ↔ False := by decide
  intro m
  induction m with
  | zero =>
    intro k h M hk hc ht hQ l3 l4
    have hle : (nI (gTc g) ≤ nI k) ↔ True := iff_true_intro (nI_le (by omega) (by omega))
    refine u121_10.mpr ?_
    simp only [u121_11, u121_12, u121_15, u121_80, u121_81, mw_os, wp_ite, mw_sw, Option.toList_some, Option.toList_none, List.cons_append, List.nil_append, true_and, and_true, if_true, if_false, mw_s_, mw_s_i, mw_s_r, mw_s_ii, mw_s_ir, mw_s_ri, mw_s_rr, mw_s_iii, mw_s_iir, mw_s_iri, mw_s_irr, mw_s_rii, mw_s_rir, mw_s_rri, mw_s_rrr, mw_s_iiii, mw_s_iiir, mw_s_iiri, mw_s_iirr, mw_s_irii, mw_s_irir, mw_s_irri, mw_s_irrr, mw_s_riii, mw_s_riir, mw_s_riri, mw_s_rirr, mw_s_rrii, mw_s_rrir, mw_s_rrri, mw_s_rrrr, mm_sto1, mm_clr, mm_isL, List.getElem?_cons_zero, List.getElem?_cons_succ, List.set_cons_zero, List.set_cons_succ, Bool.false_eq_true, CS_8 hc.2.2.1, hle]
    exact hQ M hc
  | succ m ih =>
    intro k h M hk hc ht hQ l3 l4
    have hC := hc.2.2.1
    have hle : (nI (gTc g) ≤ nI k) ↔ False := iff_false_intro (nI_ge (by omega) (by omega))
    obtain ⟨t1, t2⟩ := tN_eq hg (k := k) (by omega)
    have a8 : mm_at (gT g) (nI k) = some (nI (tN g k)) := (gi_atN (by omega) (by omega)).trans (by rw [t1])
    have dv : nI (tN g k) / 10 = nI (tN g k / 10) := pk_div (d := 10) (by omega) (by omega) (by omega)
    have rm : nI (tN g k) - nI (tN g k) / 10 * 10 = nI (tN g k % 10) := pk_rem (d := 10) (by omega) (by omega) (by omega)
    rw [dv] at rm
    refine u121_10.mpr ?_
    rw [gsF] at hQ
    cases hl : hasL (hU h) (nI (tN g k / 10))
    · rw [if_neg (fun z => absurd z.1 (by rw [hl]; decide))] at hQ
      simp only [u121_11, u121_12, u121_15, u121_18, u121_19, u121_22, u121_23, u121_24, u121_26, u121_27, u121_28, u121_29, u121_32, u121_33, u121_34, u121_36, u121_37, u121_39, u121_40, u121_43, u121_44, u121_45, u121_48, u121_57, u121_58, mw_os, wp_ite, mw_sw, Option.toList_some, Option.toList_none, List.cons_append, List.nil_append, true_and, and_true, if_true, if_false, mw_s_, mw_s_i, mw_s_r, mw_s_ii, mw_s_ir, mw_s_ri, mw_s_rr, mw_s_iii, mw_s_iir, mw_s_iri, mw_s_irr, mw_s_rii, mw_s_rir, mw_s_rri, mw_s_rrr, mw_s_iiii, mw_s_iiir, mw_s_iiri, mw_s_iirr, mw_s_irii, mw_s_irir, mw_s_irri, mw_s_irrr, mw_s_riii, mw_s_riir, mw_s_riri, mw_s_rirr, mw_s_rrii, mw_s_rrir, mw_s_rrri, mw_s_rrrr, mm_sto1, mm_clr, mm_isL, List.getElem?_cons_zero, List.getElem?_cons_succ, List.set_cons_zero, List.set_cons_succ, Bool.false_eq_true, CS_8 hC, hle, CS_6 hC, RA_ld (CT hC), a8, d10, dv, rm, CS_0 hC, NS_x hC, CT69 hc ht.1, hl, bi_eq0]
      exact hQ M hc
    · by_cases h4 : tN g k % 10 < 4
      · rw [if_pos ⟨hl, h4⟩] at hQ
        obtain ⟨q1, q2⟩ := ln_ok ht.1 t2 hl
        have c4 : (nI (tN g k % 10) < 4) ↔ True := iff_true_intro (nI_lt (b := 4) h4 (by decide))
        have c4' : ((4 : Int32) ≤ nI (tN g k % 10)) ↔ False := nle4 h4
        have w71 : ∀ Q : Option Value → mm_M → Prop, Wp scr (n + 4) 71 [.ref 1, .int (nI h.2.1), .int (nI (tN g k / 10)), .int (nI (tN g k % 10))] M Q ↔ Q (some (.int (tfE (gN g).1 (fC (hU h) (nI (tN g k / 10)) (nI (tN g k % 10)))))) (pl M (la 1 (h.2.1 + 1)) (fC (hU h) (nI (tN g k / 10)) (nI (tN g k % 10)))) := fun Q => CT71 hc hg ht q1 q2 hl h4
        simp only [u121_11, u121_12, u121_15, u121_18, u121_19, u121_22, u121_23, u121_24, u121_26, u121_27, u121_28, u121_29, u121_32, u121_33, u121_34, u121_36, u121_37, u121_39, u121_40, u121_43, u121_44, u121_45, u121_48, u121_51, u121_53, u121_54, u121_59, u121_60, u121_63, u121_64, u121_65, u121_67, u121_70, u121_71, u121_74, u121_77, mw_os, wp_ite, mw_sw, Option.toList_some, Option.toList_none, List.cons_append, List.nil_append, true_and, and_true, if_true, if_false, mw_s_, mw_s_i, mw_s_r, mw_s_ii, mw_s_ir, mw_s_ri, mw_s_rr, mw_s_iii, mw_s_iir, mw_s_iri, mw_s_irr, mw_s_rii, mw_s_rir, mw_s_rri, mw_s_rrr, mw_s_iiii, mw_s_iiir, mw_s_iiri, mw_s_iirr, mw_s_irii, mw_s_irir, mw_s_irri, mw_s_irrr, mw_s_riii, mw_s_riir, mw_s_riri, mw_s_rirr, mw_s_rrii, mw_s_rrir, mw_s_rrri, mw_s_rrrr, mm_sto1, mm_clr, mm_isL, List.getElem?_cons_zero, List.getElem?_cons_succ, List.set_cons_zero, List.set_cons_succ, Bool.false_eq_true, CS_8 hC, hle, CS_6 hC, RA_ld (CT hC), a8, d10, dv, rm, CS_0 hC, NS_x hC, CT69 hc ht.1, hl, bi_eq0, reduceCtorEq, c4, c4', w71, nI_1]
        exact ih (k + 1) (hF h (nI (tN g k / 10)) (nI (tN g k % 10))) _ (by omega) (CTh_F hc hg ht q1 q2 hl h4) (Th_F ht q1 q2 hl h4) hQ _ _
      · rw [if_neg (fun z => h4 z.2)] at hQ
        have c4 : (nI (tN g k % 10) < 4) ↔ False := iff_false_intro (fun z => h4 ((nI_ltI (b := 4) (by omega) (by decide)).mp z))
        have c4' : ((4 : Int32) ≤ nI (tN g k % 10)) ↔ True := iff_true_intro (nI_le (a := 4) (by omega) (by omega))
        simp only [u121_11, u121_12, u121_15, u121_18, u121_19, u121_22, u121_23, u121_24, u121_26, u121_27, u121_28, u121_29, u121_32, u121_33, u121_34, u121_36, u121_37, u121_39, u121_40, u121_43, u121_44, u121_45, u121_48, u121_51, u121_53, u121_54, u121_57, u121_58, mw_os, wp_ite, mw_sw, Option.toList_some, Option.toList_none, List.cons_append, List.nil_append, true_and, and_true, if_true, if_false, mw_s_, mw_s_i, mw_s_r, mw_s_ii, mw_s_ir, mw_s_ri, mw_s_rr, mw_s_iii, mw_s_iir, mw_s_iri, mw_s_irr, mw_s_rii, mw_s_rir, mw_s_rri, mw_s_rrr, mw_s_iiii, mw_s_iiir, mw_s_iiri, mw_s_iirr, mw_s_irii, mw_s_irir, mw_s_irri, mw_s_irrr, mw_s_riii, mw_s_riir, mw_s_riri, mw_s_rirr, mw_s_rrii, mw_s_rrir, mw_s_rrri, mw_s_rrrr, mm_sto1, mm_clr, mm_isL, List.getElem?_cons_zero, List.getElem?_cons_succ, List.set_cons_zero, List.set_cons_succ, Bool.false_eq_true, CS_8 hC, hle, CS_6 hC, RA_ld (CT hC), a8, d10, dv, rm, CS_0 hC, NS_x hC, CT69 hc ht.1, hl, bi_eq0, reduceCtorEq, c4, c4']
        exact hQ M hc
theorem C121 (hg : SGOK g) (hc : CTh M0 M g (gN g)) (hQ : ∀ M', CTh M0 M' g (gN g) → Q (some (.int (oI (-1) (gsF (tN g) (fun _ => false) (gTc g) 0 (gN g)).1))) M') : Wp scr (n + 5) 121 [.ref 0] M Q := by
  have hC := hc.2.2.1
  simp only [e121, u121_0, u121_1, u121_4, u121_7, u121_8, u121_9, mw_os, wp_ite, mw_sw, Option.toList_some, Option.toList_none, List.cons_append, List.nil_append, true_and, and_true, if_true, if_false, mw_s_, mw_s_i, mw_s_r, mw_s_ii, mw_s_ir, mw_s_ri, mw_s_rr, mw_s_iii, mw_s_iir, mw_s_iri, mw_s_irr, mw_s_rii, mw_s_rir, mw_s_rri, mw_s_rrr, mw_s_iiii, mw_s_iiir, mw_s_iiri, mw_s_iirr, mw_s_irii, mw_s_irir, mw_s_irri, mw_s_irrr, mw_s_riii, mw_s_riir, mw_s_riri, mw_s_rirr, mw_s_rrii, mw_s_rrir, mw_s_rrri, mw_s_rrrr, mm_sto1, mm_clr, mm_isL, List.getElem?_cons_zero, List.getElem?_cons_succ, List.set_cons_zero, List.set_cons_succ, Bool.false_eq_true, CS_0 hC, NS_4 hC hg]
  exact C121l hg (gTc g) 0 (gN g) M (by omega) hc (Th_rf hg.1) (fun M' h' => hQ M' (CTh_dn h')) none none
theorem M208l (hg : SGOK g) {x1 : Int32} : ∀ (m k : Nat) (h : HV) (M : mm_M), k + m = gTc g → MTh M0 M g 0 h → Th (gN g) h → (∀ M', MTh M0 M' g 0 (gsF (tN g) (foB x1) m k h).2 → Th (gN g) (gsF (tN g) (foB x1) m k h).2 → Q (some (.int (oI (-9) (gsF (tN g) (foB x1) m k h).1))) M') → ∀ l3 l4, wp scr (n + 4) mb_208 15 [some (.ref 129), some (.int x1), some (.int (nI k)), l3, l4] [] M Q := by
  have hc16 := hg.2.2.1.2.1
  have hTl := hg.2.2.1.1
  have d10 : ((10 : Int32) = 0) ↔ False := by decide
  intro m
  induction m with
  | zero =>
    intro k h M hk hm ht hQ l3 l4
    obtain ⟨o, hO, h1⟩ := MT_o hm
    have e6 : o.1.2.1 = nI (gTc g) := by rw [h1]
    have hle : (nI (gTc g) ≤ nI k) ↔ True := iff_true_intro (nI_le (by omega) (by omega))
    refine u208_15.mpr ?_
    simp only [u208_16, u208_17, u208_20, u208_104, u208_106, mw_os, wp_ite, mw_sw, Option.toList_some, Option.toList_none, List.cons_append, List.nil_append, true_and, and_true, if_true, if_false, mw_s_, mw_s_i, mw_s_r, mw_s_ii, mw_s_ir, mw_s_ri, mw_s_rr, mw_s_iii, mw_s_iir, mw_s_iri, mw_s_irr, mw_s_rii, mw_s_rir, mw_s_rri, mw_s_rrr, mw_s_iiii, mw_s_iiir, mw_s_iiri, mw_s_iirr, mw_s_irii, mw_s_irir, mw_s_irri, mw_s_irrr, mw_s_riii, mw_s_riir, mw_s_riri, mw_s_rirr, mw_s_rrii, mw_s_rrir, mw_s_rrri, mw_s_rrrr, mm_sto1, mm_clr, mm_isL, List.getElem?_cons_zero, List.getElem?_cons_succ, List.set_cons_zero, List.set_cons_succ, Bool.false_eq_true, OA_6 hO, e6, hle]
    exact hQ M hm ht
  | succ m ih =>
    intro k h M hk hm ht hQ l3 l4
    obtain ⟨o, hO, h1⟩ := MT_o hm
    have e6 : o.1.2.1 = nI (gTc g) := by rw [h1]
    have hle : (nI (gTc g) ≤ nI k) ↔ False := iff_false_intro (nI_ge (by omega) (by omega))
    obtain ⟨t1, t2⟩ := tN_eq hg (k := k) (by omega)
    have a8 : mm_at (gT g) (nI k) = some (nI (tN g k)) := (gi_atN (by omega) (by omega)).trans (by rw [t1])
    have dv : nI (tN g k) / 10 = nI (tN g k / 10) := pk_div (d := 10) (by omega) (by omega) (by omega)
    have rm : nI (tN g k) - nI (tN g k) / 10 * 10 = nI (tN g k % 10) := pk_rem (d := 10) (by omega) (by omega) (by omega)
    rw [dv] at rm
    have d0 : mm_lda M 132 0 = some (.ref 133) := DPk (k := 0) hm.2.2.1 (by decide)
    have w150 : ∀ Q : Option Value → mm_M → Prop, Wp scr (n + 4) 150 [.ref 133, .int (nI (tN g k / 10))] M Q ↔ Q (some (.int (bi (hasL (hU h) (nI (tN g k / 10)))))) M := fun Q => MT150 (k := 0) (n := n + 2) hm ht.1
    refine u208_15.mpr ?_
    rw [gsF] at hQ
    cases hl : hasL (hU h) (nI (tN g k / 10))
    · rw [if_neg (fun z => absurd z.1 (by rw [hl]; decide))] at hQ
      simp only [u208_16, u208_17, u208_20, u208_23, u208_24, u208_27, u208_28, u208_29, u208_31, u208_32, u208_33, u208_34, u208_37, u208_38, u208_39, u208_40, u208_43, u208_44, u208_45, u208_47, u208_48, u208_51, u208_59, u208_60, mw_os, wp_ite, mw_sw, Option.toList_some, Option.toList_none, List.cons_append, List.nil_append, true_and, and_true, if_true, if_false, mw_s_, mw_s_i, mw_s_r, mw_s_ii, mw_s_ir, mw_s_ri, mw_s_rr, mw_s_iii, mw_s_iir, mw_s_iri, mw_s_irr, mw_s_rii, mw_s_rir, mw_s_rri, mw_s_rrr, mw_s_iiii, mw_s_iiir, mw_s_iiri, mw_s_iirr, mw_s_irii, mw_s_irir, mw_s_irri, mw_s_irrr, mw_s_riii, mw_s_riir, mw_s_riri, mw_s_rirr, mw_s_rrii, mw_s_rrir, mw_s_rrri, mw_s_rrrr, mm_sto1, mm_clr, mm_isL, List.getElem?_cons_zero, List.getElem?_cons_succ, List.set_cons_zero, List.set_cons_succ, Bool.false_eq_true, OA_2 hO, OA_5 hO, OA_6 hO, e6, hle, RA_ld (MT hm.2.2.1), a8, d10, dv, rm, d0, w150, hl, bi_eq0]
      exact hQ M hm ht
    · by_cases h4 : tN g k % 10 < 4
      · rw [if_pos ⟨hl, h4⟩] at hQ
        obtain ⟨q1, q2⟩ := ln_ok ht.1 t2 hl
        have c4 : (nI (tN g k % 10) ≤ 3) ↔ True := iff_true_intro (nI_le (b := 3) (by omega) (by decide))
        have c4' : ((3 : Int32) < nI (tN g k % 10)) ↔ False := iff_false_intro (nI_nlt (a := 3) (by omega) (by decide))
        have fin : Wp scr (n + 4) 152 [.ref 129, .ref 133, .int (nI (tN g k / 10)), .int (nI (wv (foB x1 k) (tN g k % 10)))] M (fun r1 M1 => wp scr (n + 4) mb_208 96 [some (.ref 129), some (.int x1), some (.int (nI k)), some (.int (nI (tN g k % 10))), l4] (r1.toList ++ []) M1 Q) := by
          refine MT152 (k := 0) hm (by decide) ht.1 q1 q2 hl (wv_lt h4) (fun M2 hm2 _ _ => ?_)
          simp only [u208_96, u208_98, u208_101, mw_os, wp_ite, mw_sw, Option.toList_some, Option.toList_none, List.cons_append, List.nil_append, true_and, and_true, if_true, if_false, mw_s_, mw_s_i, mw_s_r, mw_s_ii, mw_s_ir, mw_s_ri, mw_s_rr, mw_s_iii, mw_s_iir, mw_s_iri, mw_s_irr, mw_s_rii, mw_s_rir, mw_s_rri, mw_s_rrr, mw_s_iiii, mw_s_iiir, mw_s_iiri, mw_s_iirr, mw_s_irii, mw_s_irir, mw_s_irri, mw_s_irrr, mw_s_riii, mw_s_riir, mw_s_riri, mw_s_rirr, mw_s_rrii, mw_s_rrir, mw_s_rrri, mw_s_rrrr, mm_sto1, mm_clr, mm_isL, List.getElem?_cons_zero, List.getElem?_cons_succ, List.set_cons_zero, List.set_cons_succ, Bool.false_eq_true, nI_1]
          exact ih (k + 1) _ M2 (by omega) hm2 (Th_F ht q1 q2 hl (wv_lt h4)) hQ _ _
        simp only [u208_16, u208_17, u208_20, u208_23, u208_24, u208_27, u208_28, u208_29, u208_31, u208_32, u208_33, u208_34, u208_37, u208_38, u208_39, u208_40, u208_43, u208_44, u208_45, u208_47, u208_48, u208_51, u208_54, u208_55, u208_56, u208_61, u208_62, u208_63, u208_66, u208_67, u208_68, u208_69, u208_72, u208_73, u208_74, u208_76, u208_77, u208_78, u208_79, u208_80, u208_81, u208_82, u208_83, u208_86, u208_87, u208_88, u208_89, u208_92, u208_93, mw_os, wp_ite, mw_sw, Option.toList_some, Option.toList_none, List.cons_append, List.nil_append, true_and, and_true, if_true, if_false, mw_s_, mw_s_i, mw_s_r, mw_s_ii, mw_s_ir, mw_s_ri, mw_s_rr, mw_s_iii, mw_s_iir, mw_s_iri, mw_s_irr, mw_s_rii, mw_s_rir, mw_s_rri, mw_s_rrr, mw_s_iiii, mw_s_iiir, mw_s_iiri, mw_s_iirr, mw_s_irii, mw_s_irir, mw_s_irri, mw_s_irrr, mw_s_riii, mw_s_riir, mw_s_riri, mw_s_rirr, mw_s_rrii, mw_s_rrir, mw_s_rrri, mw_s_rrrr, mm_sto1, mm_clr, mm_isL, List.getElem?_cons_zero, List.getElem?_cons_succ, List.set_cons_zero, List.set_cons_succ, Bool.false_eq_true, OA_2 hO, OA_5 hO, OA_6 hO, e6, hle, RA_ld (MT hm.2.2.1), a8, d10, dv, rm, d0, w150, hl, bi_eq0, reduceCtorEq, c4, c4', xor1 _ h4, OA_x hO]
        cases hb : foB x1 k
        · have hb0 : ¬ (x1 >>> (nI k &&& 31)) &&& 1 = 1 := of_decide_eq_false hb
          rw [hb] at fin
          simp only [hb0, if_false]
          exact fin
        · have hb0 : (x1 >>> (nI k &&& 31)) &&& 1 = 1 := of_decide_eq_true hb
          rw [hb] at fin
          simp only [hb0, if_true]
          exact fin
      · rw [if_neg (fun z => h4 z.2)] at hQ
        have c4 : (nI (tN g k % 10) ≤ 3) ↔ False := iff_false_intro (fun z => h4 (by have := (nI_leI (b := 3) (by omega) (by decide)).mp z; omega))
        have c4' : ((3 : Int32) < nI (tN g k % 10)) ↔ True := iff_true_intro (nI_lt (a := 3) (by omega) (by omega))
        simp only [u208_16, u208_17, u208_20, u208_23, u208_24, u208_27, u208_28, u208_29, u208_31, u208_32, u208_33, u208_34, u208_37, u208_38, u208_39, u208_40, u208_43, u208_44, u208_45, u208_47, u208_48, u208_51, u208_54, u208_55, u208_56, u208_59, u208_60, mw_os, wp_ite, mw_sw, Option.toList_some, Option.toList_none, List.cons_append, List.nil_append, true_and, and_true, if_true, if_false, mw_s_, mw_s_i, mw_s_r, mw_s_ii, mw_s_ir, mw_s_ri, mw_s_rr, mw_s_iii, mw_s_iir, mw_s_iri, mw_s_irr, mw_s_rii, mw_s_rir, mw_s_rri, mw_s_rrr, mw_s_iiii, mw_s_iiir, mw_s_iiri, mw_s_iirr, mw_s_irii, mw_s_irir, mw_s_irri, mw_s_irrr, mw_s_riii, mw_s_riir, mw_s_riri, mw_s_rirr, mw_s_rrii, mw_s_rrir, mw_s_rrri, mw_s_rrrr, mm_sto1, mm_clr, mm_isL, List.getElem?_cons_zero, List.getElem?_cons_succ, List.set_cons_zero, List.set_cons_succ, Bool.false_eq_true, OA_2 hO, OA_5 hO, OA_6 hO, e6, hle, RA_ld (MT hm.2.2.1), a8, d10, dv, rm, d0, w150, hl, bi_eq0, reduceCtorEq, c4, c4']
        exact hQ M hm ht
theorem M208 (hg : SGOK g) {x1 : Int32} (hl : M.length = M0.length) (ha : Ag M0 M 0 129) (hC : MS M g) (hQ : ∀ M', MTh M0 M' g 0 (gsF (tN g) (foB x1) (gTc g) 0 (gN g)).2 → Th (gN g) (gsF (tN g) (foB x1) (gTc g) 0 (gN g)).2 → Q (some (.int (oI (-9) (gsF (tN g) (foB x1) (gTc g) 0 (gN g)).1))) M') : Wp scr (n + 5) 208 [.ref 129, .int x1] M Q := by
  obtain ⟨o, r, hO, _, hR, hA⟩ := MSu hC
  have d0 : mm_lda M 132 0 = some (.ref 133) := DPk (k := 0) hC (by decide)
  simp only [e208, u208_0, u208_1, u208_4, u208_5, u208_8, u208_9, u208_10, mw_os, wp_ite, mw_sw, Option.toList_some, Option.toList_none, List.cons_append, List.nil_append, true_and, and_true, if_true, if_false, mw_s_, mw_s_i, mw_s_r, mw_s_ii, mw_s_ir, mw_s_ri, mw_s_rr, mw_s_iii, mw_s_iir, mw_s_iri, mw_s_irr, mw_s_rii, mw_s_rir, mw_s_rri, mw_s_rrr, mw_s_iiii, mw_s_iiir, mw_s_iiri, mw_s_iirr, mw_s_irii, mw_s_irir, mw_s_irri, mw_s_irrr, mw_s_riii, mw_s_riir, mw_s_riri, mw_s_rirr, mw_s_rrii, mw_s_rrir, mw_s_rrri, mw_s_rrrr, mm_sto1, mm_clr, mm_isL, List.getElem?_cons_zero, List.getElem?_cons_succ, List.set_cons_zero, List.set_cons_succ, Bool.false_eq_true, OA_0 hO, OA_2 hO, d0]
  refine MT147 (k := 0) (n := n + 3) hl ha hC (by decide) (fun M1 hm1 => ?_)
  simp only [u208_13, u208_14, mw_os, wp_ite, mw_sw, Option.toList_some, Option.toList_none, List.cons_append, List.nil_append, true_and, and_true, if_true, if_false, mw_s_, mw_s_i, mw_s_r, mw_s_ii, mw_s_ir, mw_s_ri, mw_s_rr, mw_s_iii, mw_s_iir, mw_s_iri, mw_s_irr, mw_s_rii, mw_s_rir, mw_s_rri, mw_s_rrr, mw_s_iiii, mw_s_iiir, mw_s_iiri, mw_s_iirr, mw_s_irii, mw_s_irir, mw_s_irri, mw_s_irrr, mw_s_riii, mw_s_riir, mw_s_riri, mw_s_rirr, mw_s_rrii, mw_s_rrir, mw_s_rrri, mw_s_rrrr, mm_sto1, mm_clr, mm_isL, List.getElem?_cons_zero, List.getElem?_cons_succ, List.set_cons_zero, List.set_cons_succ, Bool.false_eq_true]
  exact M208l hg (gTc g) 0 (gN g) M1 (by omega) hm1 (Th_rf hg.1) hQ none none
theorem foB0 : ∀ k, k < 16 → foB 0 k = false := by decide +kernel
theorem gsF0 (hg : SGOK g) : gsF (tN g) (foB 0) (gTc g) 0 (gN g) = gsF (tN g) (fun _ => false) (gTc g) 0 (gN g) := gsF_cg _ _ _ (fun i _ h2 => foB0 i (by have := hg.2.2.1.2.1; omega))
theorem gsF_lt {T : Nat → Nat} {tb : Nat → Bool} : ∀ (m k : Nat) (h : HV) (j : Nat), (gsF T tb m k h).1 = some j → j < k + m := by
  intro m
  induction m with
  | zero => intro k h j hj; cases hj
  | succ m ih =>
    intro k h j hj
    rw [gsF] at hj
    split at hj
    · have := ih _ _ _ hj
      omega
    · cases hj; omega
theorem J_judge (hg : SGOK g) : JO scr 131 214 [] g := by
  have hc16 := hg.2.2.1.2.1
  refine ⟨.int (oI (-9) (gsF (tN g) (fun _ => false) (gTc g) 0 (gN g)).1), gTl g (gT g) 0, gTl_ok hg hg.2.2.1.1 (by omega) (fun i hi => absurd hi (by omega)), fun n M Q hC hQ => ?_, fun n M Q hC hQ => ?_⟩
  · simp only [e131, u131_0, u131_1, mw_os, wp_ite, mw_sw, Option.toList_some, Option.toList_none, List.cons_append, List.nil_append, true_and, and_true, if_true, if_false, mw_s_, mw_s_i, mw_s_r, mw_s_ii, mw_s_ir, mw_s_ri, mw_s_rr, mw_s_iii, mw_s_iir, mw_s_iri, mw_s_irr, mw_s_rii, mw_s_rir, mw_s_rri, mw_s_rrr, mw_s_iiii, mw_s_iiir, mw_s_iiri, mw_s_iirr, mw_s_irii, mw_s_irir, mw_s_irri, mw_s_irrr, mw_s_riii, mw_s_riir, mw_s_riri, mw_s_rirr, mw_s_rrii, mw_s_rrir, mw_s_rrri, mw_s_rrrr, mm_sto1, mm_clr, mm_isL, List.getElem?_cons_zero, List.getElem?_cons_succ, List.set_cons_zero, List.set_cons_succ, Bool.false_eq_true, CS_x hC]
    refine C121 (n := n + 34) hg (CTh_rf hC) (fun M1 hc1 => ?_)
    have hC1 := hc1.2.2.1
    have p8 : mm_put mc_fty M1 (.ref 0) (.int 0) 5 8 = some (M1.set 0 (xo 0 (gH g))) := CS_pu8 (c := 0) hC1
    have hC2 : CS (M1.set 0 (xo 0 (gH g))) (gTl g (gT g) 0) := by
      have := CS_told (ts := gT g) (c := 0) hC1 hg
      rw [sr_self (CT hC1)] at this
      exact this
    have hq := hQ _ (List.length_set.trans hc1.1) (Ag_tr hc1.2.1 (Ag_set (by omega))) hC2
    simp only [u131_4, u131_5, u131_6, u131_7, u131_10, u131_11, u131_14, u131_16, u131_19, u131_20, mw_os, wp_ite, mw_sw, Option.toList_some, Option.toList_none, List.cons_append, List.nil_append, true_and, and_true, if_true, if_false, mw_s_, mw_s_i, mw_s_r, mw_s_ii, mw_s_ir, mw_s_ri, mw_s_rr, mw_s_iii, mw_s_iir, mw_s_iri, mw_s_irr, mw_s_rii, mw_s_rir, mw_s_rri, mw_s_rrr, mw_s_iiii, mw_s_iiir, mw_s_iiri, mw_s_iirr, mw_s_irii, mw_s_irir, mw_s_irri, mw_s_irrr, mw_s_riii, mw_s_riir, mw_s_riri, mw_s_rirr, mw_s_rrii, mw_s_rrir, mw_s_rrri, mw_s_rrrr, mm_sto1, mm_clr, mm_isL, List.getElem?_cons_zero, List.getElem?_cons_succ, List.set_cons_zero, List.set_cons_succ, Bool.false_eq_true, p8]
    cases ho : (gsF (tN g) (fun _ => false) (gTc g) 0 (gN g)).1 with
    | none =>
      rw [ho] at hq
      rw [if_neg (show ¬ (0 : Int32) ≤ oI (-1) none by decide)]
      exact hq
    | some j =>
      rw [ho] at hq
      have hj := gsF_lt _ _ _ _ ho
      rw [if_pos (show (0 : Int32) ≤ oI (-1) (some j) from nI_pos' (by omega))]
      exact hq
  · obtain ⟨o, r, hO, _, hR, hA⟩ := MSu hC
    simp only [e214, u214_0, u214_1, u214_2, mw_os, wp_ite, mw_sw, Option.toList_some, Option.toList_none, List.cons_append, List.nil_append, true_and, and_true, if_true, if_false, mw_s_, mw_s_i, mw_s_r, mw_s_ii, mw_s_ir, mw_s_ri, mw_s_rr, mw_s_iii, mw_s_iir, mw_s_iri, mw_s_irr, mw_s_rii, mw_s_rir, mw_s_rri, mw_s_rrr, mw_s_iiii, mw_s_iiir, mw_s_iiri, mw_s_iirr, mw_s_irii, mw_s_irir, mw_s_irri, mw_s_irrr, mw_s_riii, mw_s_riir, mw_s_riri, mw_s_rirr, mw_s_rrii, mw_s_rrir, mw_s_rrri, mw_s_rrrr, mm_sto1, mm_clr, mm_isL, List.getElem?_cons_zero, List.getElem?_cons_succ, List.set_cons_zero, List.set_cons_succ, Bool.false_eq_true, OA_x hO]
    refine M208 (n := n + 34) (M0 := M) hg rfl Ag_rf hC (fun M1 hm1 _ => ?_)
    obtain ⟨o1, hO1, h1⟩ := MT_o hm1
    simp only [u214_5, u214_6, u214_7, u214_8, u214_11, u214_12, mw_os, wp_ite, mw_sw, Option.toList_some, Option.toList_none, List.cons_append, List.nil_append, true_and, and_true, if_true, if_false, mw_s_, mw_s_i, mw_s_r, mw_s_ii, mw_s_ir, mw_s_ri, mw_s_rr, mw_s_iii, mw_s_iir, mw_s_iri, mw_s_irr, mw_s_rii, mw_s_rir, mw_s_rri, mw_s_rrr, mw_s_iiii, mw_s_iiir, mw_s_iiri, mw_s_iirr, mw_s_irii, mw_s_irir, mw_s_irri, mw_s_irrr, mw_s_riii, mw_s_riir, mw_s_riri, mw_s_rirr, mw_s_rrii, mw_s_rrir, mw_s_rrri, mw_s_rrrr, mm_sto1, mm_clr, mm_isL, List.getElem?_cons_zero, List.getElem?_cons_succ, List.set_cons_zero, List.set_cons_succ, Bool.false_eq_true, OA_pu6 hO1]
    rw [gsF0 hg]
    refine hQ _ (so_len.trans hm1.1) (Ag_tr hm1.2.1 Ag_so) ?_
    have := MS_told (ts := gT g) (c := 0) (o2 := o1.2) hm1.2.2.1 hO1 h1
    rw [sr_self (MT hm1.2.2.1)] at this
    exact this
end GO
