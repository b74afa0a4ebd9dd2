/-! where to tape -/
def tpS (L : Nat → Int32) (p : Int32 × Int32) (c : Nat) : Int32 × Int32 := if p.2 < L c then (nI c, L c) else p
def tpK (s : SV) (c : Nat) : SV := xK s ((sK s).set c 4)
def tpL (s : SV) (x : LV) (c : Nat) : Int32 := (lsF (tpK s c) x (hlO (sWo s)) 98 1 (sWo s)).1
section TP
variable {scr : List Int32} {n : Nat} {M M0 : mm_M} {Q : Option Value → mm_M → Prop} {g : SG} {h : HV} {l w k : Nat}
theorem ls_len {v : SV} {x : LV} {old : Int32} : ∀ (j t : Nat) (wo : List Int32), wo.length = 10 → (lsF v x old j t wo).2.length = 10 := by
  intro j
  induction j with
  | zero => intro t wo h; exact h
  | succ j ih =>
    intro t wo h
    rw [lsF]
    split
    · exact ih _ _ (wd_gi (v := xW v wo) h).1
    · exact (wd_gi (v := xW v wo) h).1
/-- what the class's trial sheet lasts -/
theorem C78 {v : SV} {x : LV} {b : Nat} (hc : CTh M0 M g h) (hg : SGOK g) (hd : h.2.1 ≤ 4) (hM : 81 + 4 < M.length) (hv : SOK v) (hl : LA M b x) (hx : LOK x) (hb : b + 7 ≤ 81 ∨ 81 + 5 ≤ b) (hQ : ∀ M', CTh M0 M' g h → LA M' b x → Q (some (.int (lsF v x (hlO (sWo v)) 98 1 (sWo v)).1)) M') : Wp scr (n + 5) 78 [.ref 81, .ref b] (ph M 81 v) Q := by
  rw [W78 hM hv hl hx hb]
  exact hQ _ (CTh_tr hc hg hd (SOK_xW hv (ls_len 98 1 _ hv.2.2))) (LA_ph hl (by omega))
theorem J_tape (hg : SGOK g) (x1 x2 : Int32) : JO scr 113 201 [.int x1, .int x2] g := by
  obtain ⟨y, hG, _⟩ := gU_GT hg
  have z1 : ((0 : Int32) ≤ -1) ↔ False := by decide
  have z2 : ((0 : Int32) ≤ -2) ↔ False := by decide
  have z0 : ((0 : Int32) ≤ 0) ↔ True := by decide
  cases hl : hasL (gU g) x1
  · refine ⟨.int (-nI 1), gRf g 1, gRf_ok hg, fun n M Q hC hQ => ?_, fun n M Q hC hQ => ?_⟩
    · simp only [u113_0, u113_1, u113_2, u113_3, u113_6, u113_7, u113_8, u113_11, u113_12, u113_13, e113, mw_os, wp_ite, mw_sw, Option.toList_some, Option.toList_none, List.cons_append, List.nil_append, true_and, and_true, if_true, if_false, mw_s_, mw_s_i, mw_s_r, mw_s_ii, mw_s_ir, mw_s_ri, mw_s_rr, mw_s_iii, mw_s_iir, mw_s_iri, mw_s_irr, mw_s_rii, mw_s_rir, mw_s_rri, mw_s_rrr, mw_s_iiii, mw_s_iiir, mw_s_iiri, mw_s_iirr, mw_s_irii, mw_s_irir, mw_s_irri, mw_s_irrr, mw_s_riii, mw_s_riir, mw_s_riri, mw_s_rirr, mw_s_rrii, mw_s_rrir, mw_s_rrri, mw_s_rrrr, mm_sto1, mm_clr, mm_isL, List.getElem?_cons_zero, List.getElem?_cons_succ, List.set_cons_zero, List.set_cons_succ, Bool.false_eq_true, W97 hC hg, hl, z1, CS_x hC, reduceCtorEq]
      refine CW84 (k := 1) hC hg (by decide) (by decide) (fun M' hl ha hc => ?_)
      simp only [u113_16, Option.toList_some, List.cons_append, List.nil_append]
      exact hQ M' hl ha hc
    · obtain ⟨o, r, hO, _, hR, hA⟩ := MSu hC
      have hP : rP r = panL (gU g) := hR.2.2.2.2.2.1
      simp only [u201_0, u201_1, u201_4, u201_5, u201_8, u201_11, u201_12, u201_13, e201, mw_os, wp_ite, mw_sw, Option.toList_some, Option.toList_none, List.cons_append, List.nil_append, true_and, and_true, if_true, if_false, mw_s_, mw_s_i, mw_s_r, mw_s_ii, mw_s_ir, mw_s_ri, mw_s_rr, mw_s_iii, mw_s_iir, mw_s_iri, mw_s_irr, mw_s_rii, mw_s_rir, mw_s_rri, mw_s_rrr, mw_s_iiii, mw_s_iiir, mw_s_iiri, mw_s_iirr, mw_s_irii, mw_s_irir, mw_s_irri, mw_s_irrr, mw_s_riii, mw_s_riir, mw_s_riri, mw_s_rirr, mw_s_rrii, mw_s_rrir, mw_s_rrri, mw_s_rrrr, mm_sto1, mm_clr, mm_isL, List.getElem?_cons_zero, List.getElem?_cons_succ, List.set_cons_zero, List.set_cons_succ, Bool.false_eq_true, OA_0 hO, W150 hA hR.1, hP, GT_line hG, hl, bi_eq0, OA_x hO, not_true]
      refine MW141 (k := 1) hC hg (by decide) (by decide) (fun M' hl ha hc => ?_)
      simp only [u201_16, Option.toList_some, List.cons_append, List.nil_append]
      exact hQ M' hl ha hc
  · obtain ⟨l, h1, h4, rfl⟩ := hasL_n hG hl
    rcases ixc x2 (N := 4) (by decide) with ⟨w, hw, rfl⟩ | hy
    · have b1 : decide ((0 : Int32) ≤ nI w ∧ nI w < 4) = true := ib_t hw (by decide)
      have b2 : inB (nI w).toInt64 0 3 = true := (inB_eq (nI w) 0 3).trans (il_t (N := 3) hw (by decide))
      obtain ⟨hd, hm, hu, hn, _⟩ := fold_at hg.1 h1 h4 hl hw
      have hT := Th_rf hg.1
      have hK10 := (gSOK hg).1
      obtain ⟨L, hL⟩ : ∃ L : Nat → Int32, L = tpL (gN g).1 (fC (gU g) (nI l) (nI w)) := ⟨_, rfl⟩
      obtain ⟨m0, hm0⟩ : ∃ m : Int32, m = (lsF (gN g).1 (fC (gU g) (nI l) (nI w)) (hlO (sWo (gN g).1)) 98 1 (sWo (gN g).1)).1 := ⟨_, rfl⟩
      refine ⟨.int ((List.range' 0 10).foldl (tpS L) (-9, m0)).1, g, hg, fun n M Q hC hQ => ?_, fun n M Q hC hQ => ?_⟩
      · have hc := CTh_rf hC
        have hc1 := CTh_F hc hg hT h1 h4 hl hw
        have w71 : ∀ Q : Option Value → mm_M → Prop, Wp scr (n + 39) 71 [.ref 1, .int (nI (gN g).2.1), .int (nI l), .int (nI w)] M Q ↔ Q (some (.int (tfE (gN g).1 (fC (gU g) (nI l) (nI w))))) (pl M (la 1 ((gN g).2.1 + 1)) (fC (gU g) (nI l) (nI w))) := fun Q => CT71 hc hg hT h1 h4 hl hw
        have hbd : la 1 ((gN g).2.1 + 1) + 7 ≤ 81 ∨ 81 + 5 ≤ la 1 ((gN g).2.1 + 1) := by unfold la; omega
        have hLA : LA (pl M (la 1 ((gN g).2.1 + 1)) (fC (gU g) (nI l) (nI w))) (la 1 ((gN g).2.1 + 1)) (fC (gU g) (nI l) (nI w)) := by
          have := hc1.2.2.2 ((gN g).2.1 + 1) (Nat.le_refl _)
          rw [show (hF (gN g) (nI l) (nI w)).2.2 ((gN g).2.1 + 1) = fC (gU g) (nI l) (nI w) from hF_U] at this
          exact this
        change CTh M (pl M (la 1 ((gN g).2.1 + 1)) (fC (gU g) (nI l) (nI w))) g _ at hc1
        generalize pl M (la 1 ((gN g).2.1 + 1)) (fC (gU g) (nI l) (nI w)) = M1 at hc1 w71 hLA
        have hd1 : (hF (gN g) (nI l) (nI w)).2.1 ≤ 4 := by show (gN g).2.1 + 1 ≤ 4; omega
        generalize hF (gN g) (nI l) (nI w) = h1' at hc1 hd1
        have hC1 := hc1.2.2.1
        obtain ⟨v, hv, hs⟩ := TRu hC1
        have hvc : SOK (cpV (gN g).1 v) := gSOK hg
        have s2 : SA (ph M1 81 (cpV (gN g).1 v)) 81 (cpV (gN g).1 v) := ph_SA (SA_len hs)
        have hC2 : CS (ph M1 81 (cpV (gN g).1 v)) g := CS_tr hC1 hg hvc
        simp only [u113_0, u113_1, u113_2, u113_3, u113_6, u113_7, u113_8, u113_17, u113_18, u113_21, u113_22, u113_25, u113_28, u113_29, u113_30, u113_33, u113_34, u113_35, u113_38, u113_41, u113_42, u113_45, u113_48, u113_49, u113_50, u113_51, u113_53, u113_54, u113_57, u113_58, u113_61, u113_64, u113_65, u113_68, u113_70, e113, mw_os, wp_ite, mw_sw, Option.toList_some, Option.toList_none, List.cons_append, List.nil_append, true_and, and_true, if_true, if_false, mw_s_, mw_s_i, mw_s_r, mw_s_ii, mw_s_ir, mw_s_ri, mw_s_rr, mw_s_iii, mw_s_iir, mw_s_iri, mw_s_irr, mw_s_rii, mw_s_rir, mw_s_rri, mw_s_rrr, mw_s_iiii, mw_s_iiir, mw_s_iiri, mw_s_iirr, mw_s_irii, mw_s_irir, mw_s_irri, mw_s_irrr, mw_s_riii, mw_s_riir, mw_s_riri, mw_s_rirr, mw_s_rrii, mw_s_rrir, mw_s_rrri, mw_s_rrrr, mm_sto1, mm_clr, mm_isL, List.getElem?_cons_zero, List.getElem?_cons_succ, List.set_cons_zero, List.set_cons_succ, Bool.false_eq_true, W97 hC hg, hl, b1, z0, CS_x hC, CS_0 hC, NS_x hC, NS_4 hC hg, w71, CS_0 hC1, CS_2 hC1, NS_0 hC1, NS_4 hC1 hg, nI_1, NS_l hC1 (show (gN g).2.1 + 1 < 5 by omega), SA_x hs, CW68 hC1 hg hv hs, CS_2 hC2, SA_x s2]
        refine C78 (n := n + 34) hc1 hg hd1 (SA_len hs) hvc hLA hn hbd (fun M2 hc2 hLA2 => ?_)
        rw [show sWo (cpV (gN g).1 v) = sWo (gN g).1 from rfl, lsF_cg (v := cpV (gN g).1 v) (v' := (gN g).1) rfl, ← hm0]
        simp only [u113_73, u113_75, u113_77, u113_79, u113_80, mw_os, wp_ite, mw_sw, Option.toList_some, Option.toList_none, List.cons_append, List.nil_append, true_and, and_true, if_true, if_false, mw_s_, mw_s_i, mw_s_r, mw_s_ii, mw_s_ir, mw_s_ri, mw_s_rr, mw_s_iii, mw_s_iir, mw_s_iri, mw_s_irr, mw_s_rii, mw_s_rir, mw_s_rri, mw_s_rrr, mw_s_iiii, mw_s_iiir, mw_s_iiri, mw_s_iirr, mw_s_irii, mw_s_irir, mw_s_irri, mw_s_irrr, mw_s_riii, mw_s_riir, mw_s_riri, mw_s_rirr, mw_s_rrii, mw_s_rrir, mw_s_rrri, mw_s_rrrr, mm_sto1, mm_clr, mm_isL, List.getElem?_cons_zero, List.getElem?_cons_succ, List.set_cons_zero, List.set_cons_succ, Bool.false_eq_true]
        have loop : ∀ (k c : Nat) (Mc : mm_M) (p : Int32 × Int32), c + k = 10 → CTh M Mc g h1' → LA Mc (la 1 ((gN g).2.1 + 1)) (fC (gU g) (nI l) (nI w)) → (∀ M', CTh M M' g h1' → Q (some (.int ((List.range' c k).foldl (tpS L) p).1)) M') → ∀ l8, wp scr (n + 39) mb_113 82 [some (.ref 0), some (.int (nI l)), some (.int (nI w)), some (.int 0), some (.ref (la 1 ((gN g).2.1 + 1))), some (.int p.2), some (.int p.1), some (.int (nI c)), l8] [] Mc Q := by
          intro k
          induction k with
          | zero =>
            intro c Mc p hk hc _ hq l8
            have : c = 10 := by omega
            subst this
            refine u113_82.mpr ?_
            simp only [u113_84, u113_86, u113_143, u113_145, mw_os, wp_ite, mw_sw, Option.toList_some, Option.toList_none, List.cons_append, List.nil_append, true_and, and_true, if_true, if_false, mw_s_, mw_s_i, mw_s_r, mw_s_ii, mw_s_ir, mw_s_ri, mw_s_rr, mw_s_iii, mw_s_iir, mw_s_iri, mw_s_irr, mw_s_rii, mw_s_rir, mw_s_rri, mw_s_rrr, mw_s_iiii, mw_s_iiir, mw_s_iiri, mw_s_iirr, mw_s_irii, mw_s_irir, mw_s_irri, mw_s_irrr, mw_s_riii, mw_s_riir, mw_s_riri, mw_s_rirr, mw_s_rrii, mw_s_rrir, mw_s_rrri, mw_s_rrrr, mm_sto1, mm_clr, mm_isL, List.getElem?_cons_zero, List.getElem?_cons_succ, List.set_cons_zero, List.set_cons_succ, Bool.false_eq_true, nle10e]
            exact hq Mc hc
          | succ k ih =>
            intro c Mc p hk hc hLA hq l8
            have hC := hc.2.2.1
            obtain ⟨v, hv, hs⟩ := TRu hC
            have hC2 : CS (ph Mc 81 (cpV (gN g).1 v)) g := CS_tr hC hg hvc
            have s2 : SA (ph Mc 81 (cpV (gN g).1 v)) 81 (cpV (gN g).1 v) := ph_SA (SA_len hs)
            have hv3 : SOK (xK (cpV (gN g).1 v) ((sK (gN g).1).set c 4)) := ⟨by show ((sK (gN g).1).set c 4).length = 10; rw [List.length_set]; exact hK10, (gSOK hg).2.1, (gSOK hg).2.2⟩
            have hC3 : CS (ph Mc 81 (xK (cpV (gN g).1 v) ((sK (gN g).1).set c 4))) g := CS_tr hC hg hv3
            have s3 : SA (ph Mc 81 (xK (cpV (gN g).1 v) ((sK (gN g).1).set c 4))) 81 (xK (cpV (gN g).1 v) ((sK (gN g).1).set c 4)) := ph_SA (SA_len hs)
            have f1 : mm_fld (mc_X scr) (ph Mc 81 (cpV (gN g).1 v)) (.ref 81) 4 1 = some (.ref 83) := SA_1 s2
            have st : mm_sti (ph Mc 81 (cpV (gN g).1 v)) (.ref 83) (nI c) 4 = some (ph Mc 81 (xK (cpV (gN g).1 v) ((sK (gN g).1).set c 4))) := (ph_stK (SA_len hs) (by show vp_in (nI c) (sK (gN g).1).length; rw [hK10]; exact nI_in10 (by omega))).trans (by rw [clN (by omega)]; rfl)
            refine u113_82.mpr ?_
            simp only [u113_84, u113_86, u113_89, u113_90, u113_93, u113_94, u113_97, u113_100, u113_101, u113_104, u113_107, u113_109, u113_110, u113_111, u113_112, u113_115, u113_117, mw_os, wp_ite, mw_sw, Option.toList_some, Option.toList_none, List.cons_append, List.nil_append, true_and, and_true, if_true, if_false, mw_s_, mw_s_i, mw_s_r, mw_s_ii, mw_s_ir, mw_s_ri, mw_s_rr, mw_s_iii, mw_s_iir, mw_s_iri, mw_s_irr, mw_s_rii, mw_s_rir, mw_s_rri, mw_s_rrr, mw_s_iiii, mw_s_iiir, mw_s_iiri, mw_s_iirr, mw_s_irii, mw_s_irir, mw_s_irri, mw_s_irrr, mw_s_riii, mw_s_riir, mw_s_riri, mw_s_rirr, mw_s_rrii, mw_s_rrir, mw_s_rrri, mw_s_rrrr, mm_sto1, mm_clr, mm_isL, List.getElem?_cons_zero, List.getElem?_cons_succ, List.set_cons_zero, List.set_cons_succ, Bool.false_eq_true, nle10 (show c < 10 by omega), CS_0 hC, CS_2 hC, SA_x hs, CW68 hC hg hv hs, CS_2 hC2, f1, st, CS_2 hC3, SA_x s3]
            refine C78 (n := n + 34) hc hg hd1 (SA_len hs) hv3 hLA hn hbd (fun M2 hc2 hLA2 => ?_)
            have eL : (lsF (xK (cpV (gN g).1 v) ((sK (gN g).1).set c 4)) (fC (gU g) (nI l) (nI w)) (hlO (sWo (xK (cpV (gN g).1 v) ((sK (gN g).1).set c 4)))) 98 1 (sWo (xK (cpV (gN g).1 v) ((sK (gN g).1).set c 4)))).1 = L c := by
              rw [hL]
              unfold tpL
              rw [show sWo (xK (cpV (gN g).1 v) ((sK (gN g).1).set c 4)) = sWo (gN g).1 from rfl, lsF_cg (v := xK (cpV (gN g).1 v) ((sK (gN g).1).set c 4)) (v' := tpK (gN g).1 c) rfl]
            rw [eL]
            rw [show List.range' c (k + 1) = c :: List.range' (c + 1) k from rfl, List.foldl_cons] at hq
            by_cases hlt : p.2 < L c
            · have hle : (L c ≤ p.2) ↔ False := iff_false_intro (Int32.not_le.mpr hlt)
              rw [show tpS L p c = (nI c, L c) from if_pos hlt] at hq
              simp only [u113_120, u113_122, u113_124, u113_126, u113_129, u113_131, u113_133, u113_135, u113_137, u113_140, mw_os, wp_ite, mw_sw, Option.toList_some, Option.toList_none, List.cons_append, List.nil_append, true_and, and_true, if_true, if_false, mw_s_, mw_s_i, mw_s_r, mw_s_ii, mw_s_ir, mw_s_ri, mw_s_rr, mw_s_iii, mw_s_iir, mw_s_iri, mw_s_irr, mw_s_rii, mw_s_rir, mw_s_rri, mw_s_rrr, mw_s_iiii, mw_s_iiir, mw_s_iiri, mw_s_iirr, mw_s_irii, mw_s_irir, mw_s_irri, mw_s_irrr, mw_s_riii, mw_s_riir, mw_s_riri, mw_s_rirr, mw_s_rrii, mw_s_rrir, mw_s_rrri, mw_s_rrrr, mm_sto1, mm_clr, mm_isL, List.getElem?_cons_zero, List.getElem?_cons_succ, List.set_cons_zero, List.set_cons_succ, Bool.false_eq_true, hle, nI_1]
              exact ih (c + 1) M2 (nI c, L c) (by omega) hc2 hLA2 hq _
            · have hle : (L c ≤ p.2) ↔ True := iff_true_intro (Int32.not_lt.mp hlt)
              rw [show tpS L p c = p from if_neg hlt] at hq
              simp only [u113_120, u113_122, u113_124, u113_126, u113_137, u113_140, mw_os, wp_ite, mw_sw, Option.toList_some, Option.toList_none, List.cons_append, List.nil_append, true_and, and_true, if_true, if_false, mw_s_, mw_s_i, mw_s_r, mw_s_ii, mw_s_ir, mw_s_ri, mw_s_rr, mw_s_iii, mw_s_iir, mw_s_iri, mw_s_irr, mw_s_rii, mw_s_rir, mw_s_rri, mw_s_rrr, mw_s_iiii, mw_s_iiir, mw_s_iiri, mw_s_iirr, mw_s_irii, mw_s_irir, mw_s_irri, mw_s_irrr, mw_s_riii, mw_s_riir, mw_s_riri, mw_s_rirr, mw_s_rrii, mw_s_rrir, mw_s_rrri, mw_s_rrrr, mm_sto1, mm_clr, mm_isL, List.getElem?_cons_zero, List.getElem?_cons_succ, List.set_cons_zero, List.set_cons_succ, Bool.false_eq_true, hle, nI_1]
              exact ih (c + 1) M2 p (by omega) hc2 hLA2 hq _
        exact loop 10 0 M2 (-9, m0) rfl hc2 hLA2 (fun M' hc' => CT_end hc' hQ) none
      · obtain ⟨o, r, hO, _, hR, hA⟩ := MSu hC
        have hP : rP r = panL (gU g) := hR.2.2.2.2.2.1
        have d0 : mm_lda M 132 1 = some (.ref 134) := DPk (k := 1) hC (by decide)
        simp only [u201_0, u201_1, u201_4, u201_5, u201_8, u201_17, u201_18, u201_19, u201_20, u201_23, u201_26, u201_36, u201_37, u201_40, u201_41, u201_44, u201_45, u201_46, e201, mw_os, wp_ite, mw_sw, Option.toList_some, Option.toList_none, List.cons_append, List.nil_append, true_and, and_true, if_true, if_false, mw_s_, mw_s_i, mw_s_r, mw_s_ii, mw_s_ir, mw_s_ri, mw_s_rr, mw_s_iii, mw_s_iir, mw_s_iri, mw_s_irr, mw_s_rii, mw_s_rir, mw_s_rri, mw_s_rrr, mw_s_iiii, mw_s_iiir, mw_s_iiri, mw_s_iirr, mw_s_irii, mw_s_irir, mw_s_irri, mw_s_irrr, mw_s_riii, mw_s_riir, mw_s_riri, mw_s_rirr, mw_s_rrii, mw_s_rrir, mw_s_rrri, mw_s_rrrr, mm_sto1, mm_clr, mm_isL, List.getElem?_cons_zero, List.getElem?_cons_succ, List.set_cons_zero, List.set_cons_succ, Bool.false_eq_true, OA_0 hO, OA_2 hO, W150 hA hR.1, hP, GT_line hG, hl, bi_eq0, reduceCtorEq, not_false_eq_true, W146, b2, d0]
        refine MT147 (k := 1) (n := n + 38) (M0 := M) rfl Ag_rf hC (by decide) (fun M1 hm1 => ?_)
        obtain ⟨o1, hO1, _⟩ := MT_o hm1
        simp only [u201_49, u201_51, u201_52, u201_53, u201_54, u201_55, mw_os, wp_ite, mw_sw, Option.toList_some, Option.toList_none, List.cons_append, List.nil_append, true_and, and_true, if_true, if_false, mw_s_, mw_s_i, mw_s_r, mw_s_ii, mw_s_ir, mw_s_ri, mw_s_rr, mw_s_iii, mw_s_iir, mw_s_iri, mw_s_irr, mw_s_rii, mw_s_rir, mw_s_rri, mw_s_rrr, mw_s_iiii, mw_s_iiir, mw_s_iiri, mw_s_iirr, mw_s_irii, mw_s_irir, mw_s_irri, mw_s_irrr, mw_s_riii, mw_s_riir, mw_s_riri, mw_s_rirr, mw_s_rrii, mw_s_rrir, mw_s_rrri, mw_s_rrrr, mm_sto1, mm_clr, mm_isL, List.getElem?_cons_zero, List.getElem?_cons_succ, List.set_cons_zero, List.set_cons_succ, Bool.false_eq_true, OA_x hO1]
        refine M198 (n := n + 34) hg.1 hm1 h1 h4 hl hw (fun M2 x hm2 => ?_)
        rw [show (lsF (gN g).1 (fC (hU (gN g)) (nI l) (nI w)) (hlO (sWo (gN g).1)) 98 1 (sWo (gN g).1)).1 = m0 from hm0.symm]
        simp only [u201_58, u201_60, u201_61, mw_os, wp_ite, mw_sw, Option.toList_some, Option.toList_none, List.cons_append, List.nil_append, true_and, and_true, if_true, if_false, mw_s_, mw_s_i, mw_s_r, mw_s_ii, mw_s_ir, mw_s_ri, mw_s_rr, mw_s_iii, mw_s_iir, mw_s_iri, mw_s_irr, mw_s_rii, mw_s_rir, mw_s_rri, mw_s_rrr, mw_s_iiii, mw_s_iiir, mw_s_iiri, mw_s_iirr, mw_s_irii, mw_s_irir, mw_s_irri, mw_s_irrr, mw_s_riii, mw_s_riir, mw_s_riri, mw_s_rirr, mw_s_rrii, mw_s_rrir, mw_s_rrri, mw_s_rrrr, mm_sto1, mm_clr, mm_isL, List.getElem?_cons_zero, List.getElem?_cons_succ, List.set_cons_zero, List.set_cons_succ, Bool.false_eq_true]
        have loop : ∀ (k c : Nat) (M2 : mm_M) (x : HV) (p : Int32 × Int32), c + k = 10 → MTh M M2 g 1 x → (∀ M' x, MTh M M' g 1 x → Q (some (.int ((List.range' c k).foldl (tpS L) p).1)) M') → ∀ l6, wp scr (n + 39) mb_201 63 [some (.ref 129), some (.int (nI l)), some (.int (nI w)), some (.int p.1), some (.int p.2), some (.int (nI c)), l6] [] M2 Q := by
          intro k
          induction k with
          | zero =>
            intro c M2 x p hk hm hq l6
            have : c = 10 := by omega
            subst this
            refine u201_63.mpr ?_
            simp only [u201_65, u201_67, u201_132, u201_133, mw_os, wp_ite, mw_sw, Option.toList_some, Option.toList_none, List.cons_append, List.nil_append, true_and, and_true, if_true, if_false, mw_s_, mw_s_i, mw_s_r, mw_s_ii, mw_s_ir, mw_s_ri, mw_s_rr, mw_s_iii, mw_s_iir, mw_s_iri, mw_s_irr, mw_s_rii, mw_s_rir, mw_s_rri, mw_s_rrr, mw_s_iiii, mw_s_iiir, mw_s_iiri, mw_s_iirr, mw_s_irii, mw_s_irir, mw_s_irri, mw_s_irrr, mw_s_riii, mw_s_riir, mw_s_riri, mw_s_rirr, mw_s_rrii, mw_s_rrir, mw_s_rrri, mw_s_rrrr, mm_sto1, mm_clr, mm_isL, List.getElem?_cons_zero, List.getElem?_cons_succ, List.set_cons_zero, List.set_cons_succ, Bool.false_eq_true, nle10e]
            exact hq M2 x hm
          | succ k ih =>
            intro c M2 x p hk hm hq l6
            have hc10 : c < 10 := by omega
            obtain ⟨o2, hO2, _⟩ := MT_o hm
            have d2 : mm_lda M2 132 1 = some (.ref 134) := DPk (k := 1) hm.2.2.1 (by decide)
            refine u201_63.mpr ?_
            simp only [u201_65, u201_67, u201_70, u201_71, u201_74, u201_75, u201_78, u201_79, u201_80, mw_os, wp_ite, mw_sw, Option.toList_some, Option.toList_none, List.cons_append, List.nil_append, true_and, and_true, if_true, if_false, mw_s_, mw_s_i, mw_s_r, mw_s_ii, mw_s_ir, mw_s_ri, mw_s_rr, mw_s_iii, mw_s_iir, mw_s_iri, mw_s_irr, mw_s_rii, mw_s_rir, mw_s_rri, mw_s_rrr, mw_s_iiii, mw_s_iiir, mw_s_iiri, mw_s_iirr, mw_s_irii, mw_s_irir, mw_s_irri, mw_s_irrr, mw_s_riii, mw_s_riir, mw_s_riri, mw_s_rirr, mw_s_rrii, mw_s_rrir, mw_s_rrri, mw_s_rrrr, mm_sto1, mm_clr, mm_isL, List.getElem?_cons_zero, List.getElem?_cons_succ, List.set_cons_zero, List.set_cons_succ, Bool.false_eq_true, nle10 hc10, OA_0 hO2, OA_2 hO2, d2]
            refine MT147 (k := 1) (n := n + 38) (M0 := M) hm.1 hm.2.1 hm.2.2.1 (by decide) (fun M3 hm3 => ?_)
            obtain ⟨o3, hO3, _⟩ := MT_o hm3
            have d3 : mm_lda M3 132 1 = some (.ref 134) := DPk (k := 1) hm3.2.2.1 (by decide)
            obtain ⟨c1, c2, c3, r3, hR3, hA3⟩ := hm3
            have st : mm_sti M3 (.ref 134) (nI c) 4 = some (sr M3 134 (rowL (yK r3 ((rK r3).set c 4)))) := by
              have := RA_st (x := 4) (k := c) hA3 (by rw [rowL_len hR3.1]; omega) (by omega)
              rw [st_K hR3.1 hc10] at this
              exact this
            have hR4 : MR (yK r3 ((rK r3).set c 4)) (tpK (gN g).1 c, (gN g).2) := by
              rw [hR3.2.1]
              exact MR_K hR3 (by rw [List.length_set]; exact hK10)
            have hok : HOK (tpK (gN g).1 c, (gN g).2) := HOK_K hg.1 (by rw [List.length_set]; exact hK10) (rgI_set hK10 (fun i hi => (hg.1.2.2.2.2.2.2 i hi).1) ⟨4, by omega, rfl⟩ (by decide))
            have hm4 : MTh M (sr M3 134 (rowL (yK r3 ((rK r3).set c 4)))) g 1 (tpK (gN g).1 c, (gN g).2) := ⟨sr_len.trans c1, Ag_tr c2 (Ag_sr (by omega)), MS_deep (k := 1) c3 (by decide) (rowL_len hR4.1), _, hR4, sr_RA (RA_lt hA3)⟩
            have hO4 := OA_sr (a := 134) (w := rowL (yK r3 ((rK r3).set c 4))) hO3 (by decide)
            simp only [u201_83, u201_84, u201_87, u201_88, u201_89, u201_90, u201_92, u201_93, u201_94, u201_95, u201_96, u201_97, u201_98, mw_os, wp_ite, mw_sw, Option.toList_some, Option.toList_none, List.cons_append, List.nil_append, true_and, and_true, if_true, if_false, mw_s_, mw_s_i, mw_s_r, mw_s_ii, mw_s_ir, mw_s_ri, mw_s_rr, mw_s_iii, mw_s_iir, mw_s_iri, mw_s_irr, mw_s_rii, mw_s_rir, mw_s_rri, mw_s_rrr, mw_s_iiii, mw_s_iiir, mw_s_iiri, mw_s_iirr, mw_s_irii, mw_s_irir, mw_s_irri, mw_s_irrr, mw_s_riii, mw_s_riir, mw_s_riri, mw_s_rirr, mw_s_rrii, mw_s_rrir, mw_s_rrri, mw_s_rrrr, mm_sto1, mm_clr, mm_isL, List.getElem?_cons_zero, List.getElem?_cons_succ, List.set_cons_zero, List.set_cons_succ, Bool.false_eq_true, OA_2 hO3, d3, c0, st, OA_x hO4]
            refine M198 (n := n + 34) (h := (tpK (gN g).1 c, (gN g).2)) hok hm4 h1 h4 hl hw (fun M5 x5 hm5 => ?_)
            have eL : (lsF (tpK (gN g).1 c) (fC (hU (tpK (gN g).1 c, (gN g).2)) (nI l) (nI w)) (hlO (sWo (tpK (gN g).1 c))) 98 1 (sWo (tpK (gN g).1 c))).1 = L c := by rw [hL]; rfl
            rw [eL]
            change wp scr (n + 39) mb_201 101 [some (.ref 129), some (.int (nI l)), some (.int (nI w)), some (.int p.1), some (.int p.2), some (.int (nI c)), l6] [.int (L c)] M5 Q
            rw [show List.range' c (k + 1) = c :: List.range' (c + 1) k from rfl, List.foldl_cons] at hq
            by_cases hlt : p.2 < L c
            · have hle : (L c ≤ p.2) ↔ False := iff_false_intro (Int32.not_le.mpr hlt)
              rw [show tpS L p c = (nI c, L c) from if_pos hlt] at hq
              simp only [u201_101, u201_103, u201_105, u201_107, u201_110, u201_112, u201_115, u201_116, u201_117, u201_119, u201_121, u201_124, u201_126, u201_129, mw_os, wp_ite, mw_sw, Option.toList_some, Option.toList_none, List.cons_append, List.nil_append, true_and, and_true, if_true, if_false, mw_s_, mw_s_i, mw_s_r, mw_s_ii, mw_s_ir, mw_s_ri, mw_s_rr, mw_s_iii, mw_s_iir, mw_s_iri, mw_s_irr, mw_s_rii, mw_s_rir, mw_s_rri, mw_s_rrr, mw_s_iiii, mw_s_iiir, mw_s_iiri, mw_s_iirr, mw_s_irii, mw_s_irir, mw_s_irri, mw_s_irrr, mw_s_riii, mw_s_riir, mw_s_riri, mw_s_rirr, mw_s_rrii, mw_s_rrir, mw_s_rrri, mw_s_rrrr, mm_sto1, mm_clr, mm_isL, List.getElem?_cons_zero, List.getElem?_cons_succ, List.set_cons_zero, List.set_cons_succ, Bool.false_eq_true, hle, hlt, nI_1]
              exact ih (c + 1) M5 x5 (nI c, L c) (by omega) hm5 hq _
            · have hle : (L c ≤ p.2) ↔ True := iff_true_intro (Int32.not_lt.mp hlt)
              rw [show tpS L p c = p from if_neg hlt] at hq
              simp only [u201_101, u201_103, u201_105, u201_107, u201_110, u201_112, u201_115, u201_116, u201_117, u201_119, u201_121, u201_124, u201_126, u201_129, mw_os, wp_ite, mw_sw, Option.toList_some, Option.toList_none, List.cons_append, List.nil_append, true_and, and_true, if_true, if_false, mw_s_, mw_s_i, mw_s_r, mw_s_ii, mw_s_ir, mw_s_ri, mw_s_rr, mw_s_iii, mw_s_iir, mw_s_iri, mw_s_irr, mw_s_rii, mw_s_rir, mw_s_rri, mw_s_rrr, mw_s_iiii, mw_s_iiir, mw_s_iiri, mw_s_iirr, mw_s_irii, mw_s_irir, mw_s_irri, mw_s_irrr, mw_s_riii, mw_s_riir, mw_s_riri, mw_s_rirr, mw_s_rrii, mw_s_rrir, mw_s_rrri, mw_s_rrrr, mm_sto1, mm_clr, mm_isL, List.getElem?_cons_zero, List.getElem?_cons_succ, List.set_cons_zero, List.set_cons_succ, Bool.false_eq_true, hle, hlt, nI_1]
              exact ih (c + 1) M5 x5 p (by omega) hm5 hq _
        exact loop 10 0 M2 x (-9, m0) rfl hm2 (fun M' x' hm' => MT_end hm' hQ) none
    · have b1 : decide ((0 : Int32) ≤ x2 ∧ x2 < 4) = false := ib_f (N := 4) hy
      have b2 : inB x2.toInt64 0 3 = false := (inB_eq x2 0 3).trans (il_f (N := 3) (by decide) hy)
      refine ⟨.int (-nI 2), gRf g 2, gRf_ok hg, fun n M Q hC hQ => ?_, fun n M Q hC hQ => ?_⟩
      · simp only [u113_0, u113_1, u113_2, u113_3, u113_6, u113_7, u113_8, u113_11, u113_12, u113_13, e113, mw_os, wp_ite, mw_sw, Option.toList_some, Option.toList_none, List.cons_append, List.nil_append, true_and, and_true, if_true, if_false, mw_s_, mw_s_i, mw_s_r, mw_s_ii, mw_s_ir, mw_s_ri, mw_s_rr, mw_s_iii, mw_s_iir, mw_s_iri, mw_s_irr, mw_s_rii, mw_s_rir, mw_s_rri, mw_s_rrr, mw_s_iiii, mw_s_iiir, mw_s_iiri, mw_s_iirr, mw_s_irii, mw_s_irir, mw_s_irri, mw_s_irrr, mw_s_riii, mw_s_riir, mw_s_riri, mw_s_rirr, mw_s_rrii, mw_s_rrir, mw_s_rrri, mw_s_rrrr, mm_sto1, mm_clr, mm_isL, List.getElem?_cons_zero, List.getElem?_cons_succ, List.set_cons_zero, List.set_cons_succ, Bool.false_eq_true, W97 hC hg, hl, b1, z2, CS_x hC, reduceCtorEq]
        refine CW84 (k := 2) hC hg (by decide) (by decide) (fun M' hl ha hc => ?_)
        simp only [u113_16, Option.toList_some, List.cons_append, List.nil_append]
        exact hQ M' hl ha hc
      · obtain ⟨o, r, hO, _, hR, hA⟩ := MSu hC
        have hP : rP r = panL (gU g) := hR.2.2.2.2.2.1
        simp only [u201_0, u201_1, u201_4, u201_5, u201_8, u201_17, u201_18, u201_19, u201_20, u201_23, u201_26, u201_29, u201_30, u201_32, e201, mw_os, wp_ite, mw_sw, Option.toList_some, Option.toList_none, List.cons_append, List.nil_append, true_and, and_true, if_true, if_false, mw_s_, mw_s_i, mw_s_r, mw_s_ii, mw_s_ir, mw_s_ri, mw_s_rr, mw_s_iii, mw_s_iir, mw_s_iri, mw_s_irr, mw_s_rii, mw_s_rir, mw_s_rri, mw_s_rrr, mw_s_iiii, mw_s_iiir, mw_s_iiri, mw_s_iirr, mw_s_irii, mw_s_irir, mw_s_irri, mw_s_irrr, mw_s_riii, mw_s_riir, mw_s_riri, mw_s_rirr, mw_s_rrii, mw_s_rrir, mw_s_rrri, mw_s_rrrr, mm_sto1, mm_clr, mm_isL, List.getElem?_cons_zero, List.getElem?_cons_succ, List.set_cons_zero, List.set_cons_succ, Bool.false_eq_true, OA_0 hO, W150 hA hR.1, hP, GT_line hG, hl, W146, b2, bi_eq0, OA_x hO, reduceCtorEq, not_false_eq_true, not_true]
        refine MW141 (k := 2) hC hg (by decide) (by decide) (fun M' hl ha hc => ?_)
        simp only [u201_35, Option.toList_some, List.cons_append, List.nil_append]
        exact hQ M' hl ha hc
end TP
