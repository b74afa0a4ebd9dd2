/-! folds in thought -/
def Th (h0 h : HV) : Prop := HOK h ∧ h0.2.1 ≤ h.2.1 ∧ (∀ i, i ≤ h0.2.1 → h.2.2 i = h0.2.2 i) ∧ sK h.1 = sK h0.1 ∧ sF h.1 = sF h0.1 ∧ sCv h.1 = sCv h0.1 ∧ ∀ i, i < 10 → gi (vS (hU h)) (nI i) = 0 → gi (sWo h.1) (nI i) = gi (sWo h0.1) (nI i)
section TH
variable {h h0 : HV} {l w : Nat}
theorem Th_rf (hh : HOK h) : Th h h := ⟨hh, Nat.le_refl _, fun _ _ => rfl, rfl, rfl, rfl, fun _ _ _ => rfl⟩
theorem Th_tf (ht : Th h0 h) (h1 : 1 ≤ l) (h4 : l ≤ 4) (hl : hasL (hU h) (nI l) = true) (hw : w < 4) : tfE h.1 (fC (hU h) (nI l) (nI w)) = tfE h0.1 (fC (hU h) (nI l) (nI w)) := by
  obtain ⟨_, _, _, _, _, _, _, _, e4⟩ := fold_at ht.1 h1 h4 hl hw
  unfold tfE
  refine fold_cg _ _ (fun s i hi => ?_)
  have hi' : i < 10 := by rw [List.mem_range'_1] at hi; omega
  unfold tfStep
  cases hb : foB (vF (fC (hU h) (nI l) (nI w))) i
  · rw [if_pos (foB_0 hb), if_pos (foB_0 hb)]
  · rw [if_neg (foB_n0 hb), if_neg (foB_n0 hb)]
    unfold efO
    rw [ht.2.2.2.1, ht.2.2.2.2.1, ht.2.2.2.2.2.2 i hi' (e4 i hi' hb)]
theorem Th_F (ht : Th h0 h) (h1 : 1 ≤ l) (h4 : l ≤ 4) (hl : hasL (hU h) (nI l) = true) (hw : w < 4) : Th h0 (hF h (nI l) (nI w)) := by
  obtain ⟨_, _, _, _, _, _, _, e3, e4⟩ := fold_at ht.1 h1 h4 hl hw
  have hg := wd_gi (v := h.1) (u := fC (hU h) (nI l) (nI w)) ht.1.1.2.2
  refine ⟨HOK_hF ht.1 h1 h4 hl hw, Nat.le_succ_of_le ht.2.1, fun i hi => ?_, ht.2.2.2.1, ht.2.2.2.2.1, ht.2.2.2.2.2.1, fun i hi hs => ?_⟩
  · show (if i = h.2.1 + 1 then fC (hU h) (nI l) (nI w) else h.2.2 i) = _
    have := ht.2.1
    rw [if_neg (by omega)]
    exact ht.2.2.1 i hi
  · rw [hF_U, e3 i hi] at hs
    show gi (wdOf h.1 (fC (hU h) (nI l) (nI w))) (nI i) = _
    rw [hg.2 i hi]
    unfold wbO
    cases hb : foB (vF (fC (hU h) (nI l) (nI w))) i
    · rw [if_pos (foB_0 hb)]
      rw [if_neg (by rw [hb]; decide)] at hs
      exact ht.2.2.2.2.2.2 i hi hs
    · rw [if_pos hb] at hs
      rcases mSd_12 (P := panL (hU h)) (i := i) (o := bfO (nI w)) with z | z
      · rw [z] at hs; exact absurd hs (by decide)
      · rw [z] at hs; exact absurd hs (by decide)
end TH
def CTh (M0 M : mm_M) (g : SG) (h : HV) : Prop := M.length = M0.length ∧ Ag M0 M 129 143 ∧ CS M g ∧ ∀ i, i ≤ h.2.1 → LA M (la 1 i) (h.2.2 i)
def MTh (M0 M : mm_M) (g : SG) (k : Nat) (h : HV) : Prop := M.length = M0.length ∧ Ag M0 M 0 129 ∧ MS M g ∧ ∃ r, MR r h ∧ RA M (133 + k) (rowL r)
section TH2
variable {scr : List Int32} {n : Nat} {M M0 : mm_M} {Q : Option Value → mm_M → Prop} {g : SG} {x1 x2 : Int32} {h : HV} {l w k : Nat}
theorem NS_l {d : Nat} (h : CS M g) (hd : d < 5) : mm_lda M 2 (nI d) = some (.ref (la 1 d)) := SA_l h.2.1.1 hd
theorem CTh_rf (hc : CS M g) : CTh M M g (gN g) := ⟨rfl, Ag_rf, hc, hc.2.1.2.1⟩
theorem CT_end {r : Value} (hc : CTh M0 M g h) (hQ : CPost M0 g r Q) : Q (some r) M := hQ M hc.1 hc.2.1 hc.2.2.1
theorem MT_end {r : Value} (hc : MTh M0 M g k h) (hQ : MPost M0 g r Q) : Q (some r) M := hQ M hc.1 hc.2.1 hc.2.2.1
theorem CT69 (hc : CTh M0 M g h) (hh : HOK h) : Wp scr (n + 2) 69 [.ref 1, .int (nI h.2.1), .int x1] M Q ↔ Q (some (.int (bi (hasL (hU h) x1)))) M := by
  by_cases hd : h.2.1 = 4
  · rw [hasL_4 hh hd, hd]
    exact W69n
  · exact W69 (NS hc.2.2.1) (hc.2.2.2 _ (Nat.le_refl _)) (by have := hh.2.2.1; omega)
theorem CT71 (hc : CTh M0 M g h) (hg : SGOK g) (ht : Th (gN g) h) (h1 : 1 ≤ l) (h4 : l ≤ 4) (hl : hasL (hU h) (nI l) = true) (hw : w < 4) : Wp scr (n + 4) 71 [.ref 1, .int (nI h.2.1), .int (nI l), .int (nI w)] M Q ↔ Q (some (.int (tfE (gN g).1 (fC (hU h) (nI l) (nI w))))) (pl M (la 1 (h.2.1 + 1)) (fC (hU h) (nI l) (nI w))) := by
  obtain ⟨hd, hm, hu, hn, _⟩ := fold_at ht.1 h1 h4 hl hw
  obtain ⟨z, zl, za⟩ := hc.2.2.1.2.1.2.2 (h.2.1 + 1) (by have := ht.2.1; omega) (by omega)
  exact W71 (NS hc.2.2.1) (gSOK hg) hd (hc.2.2.2 _ (Nat.le_refl _)) za hu hm zl hn
theorem CTh_F (hc : CTh M0 M g h) (hg : SGOK g) (ht : Th (gN g) h) (h1 : 1 ≤ l) (h4 : l ≤ 4) (hl : hasL (hU h) (nI l) = true) (hw : w < 4) : CTh M0 (pl M (la 1 (h.2.1 + 1)) (fC (hU h) (nI l) (nI w))) g (hF h (nI l) (nI w)) := by
  obtain ⟨hd, hm, hu, hn, _⟩ := fold_at ht.1 h1 h4 hl hw
  obtain ⟨z, zl, za⟩ := hc.2.2.1.2.1.2.2 (h.2.1 + 1) (by have := ht.2.1; omega) (by omega)
  have hle := ht.2.1
  have hS := hc.2.2.1.2.1
  refine ⟨(pl_len ..).trans hc.1, Ag_tr hc.2.1 (Ag_pl (by unfold la; omega)), ?_, fun i hi => ?_⟩
  · refine CS_now (h := gN g) hc.2.2.1 hg (pl_len ..) (pl_out (by unfold la; omega)) (Ag_pl (by unfold la; omega)) ⟨SA_pl hS.1 (by unfold la; omega), fun i hi => pl_other (hS.2.1 i hi) (by unfold la; omega), fun i h2 h3 => ?_⟩
    by_cases he : i = h.2.1 + 1
    · subst he
      exact ⟨_, LOK_LEN hn, pl_LA (LA_len za)⟩
    · obtain ⟨y, y1, y2⟩ := hS.2.2 i h2 h3
      exact ⟨y, y1, pl_other y2 (by unfold la; omega)⟩
  · have hi' : i ≤ h.2.1 + 1 := hi
    show LA _ (la 1 i) (if i = h.2.1 + 1 then fC (hU h) (nI l) (nI w) else h.2.2 i)
    by_cases he : i = h.2.1 + 1
    · rw [if_pos he, he]
      exact pl_LA (LA_len za)
    · rw [if_neg he]
      exact pl_other (hc.2.2.2 i (by omega)) (by unfold la; omega)
theorem DPk (hc : MS M g) (hk : k < 6) : mm_lda M 132 (nI k) = some (.ref (133 + k)) := by
  have h9 := hc.2.2.2.1
  rcases (show k = 0 ∨ k = 1 ∨ k = 2 ∨ k = 3 ∨ k = 4 ∨ k = 5 by omega) with rfl | rfl | rfl | rfl | rfl | rfl <;> (simp only [mm_lda, h9, dp_o]; rfl)
theorem MT_o (hc : MTh M0 M g k h) : ∃ o, OA M o ∧ o.1 = (gH g, nI (gTc g), nI (gZn g)) := hc.2.2.1.1.2
theorem MT150 (hc : MTh M0 M g k h) (hh : HOK h) : Wp scr (n + 2) 150 [.ref (133 + k), .int x1] M Q ↔ Q (some (.int (bi (hasL (hU h) x1)))) M := by
  obtain ⟨_, _, _, r, hR, hA⟩ := hc
  obtain ⟨y, hG, _⟩ := hU_GT hh
  have hP : rP r = panL (hU h) := hR.2.2.2.2.2.1
  have := W150 (scr := scr) (n := n) (Q := Q) (l := x1) hA hR.1
  rw [hP, GT_line hG] at this
  exact this
theorem MS_deep {w : List Int32} (hc : MS M g) (hk : k < 6) (hw : w.length = 206) : MS (sr M (133 + k) w) g := by
  obtain ⟨⟨a1, o, a2, a3⟩, ⟨r0, a4, a5⟩, ⟨w1, a6, a7, a8⟩, a9, a10, a11, a12, a13, ⟨w2, a14, a15⟩⟩ := hc
  refine ⟨⟨sr_len.trans a1, o, (sr_ne (by omega)).trans a2, a3⟩, ⟨r0, a4, (sr_ne (by omega)).trans a5⟩, ⟨w1, a6, (sr_ne (by omega)).trans a7, a8⟩, (sr_ne (by omega)).trans a9, fun j hj => ?_, (sr_ne (by omega)).trans a11, (sr_ne (by omega)).trans a12, (sr_ne (by omega)).trans a13, ⟨w2, a14, (sr_ne (by omega)).trans a15⟩⟩
  by_cases he : j = k
  · subst he
    exact ⟨w, hw, sr_RA (by omega)⟩
  · obtain ⟨w3, b1, b2⟩ := a10 j hj
    exact ⟨w3, b1, (sr_ne (by omega)).trans b2⟩
/-- the map now is copied to a deep row -/
theorem MT147 (hl : M.length = M0.length) (ha : Ag M0 M 0 129) (hc : MS M g) (hk : k < 6) (hQ : ∀ M', MTh M0 M' g k (gN g) → Q none M') : Wp scr (n + 1) 147 [.ref 130, .ref (133 + k)] M Q := by
  obtain ⟨r, hR, hA⟩ := hc.2.1
  obtain ⟨w, hw, hB⟩ := hc.2.2.2.2.1 k hk
  rw [W147 (by omega) hA hB (rowL_len hR.1) hw]
  exact hQ _ ⟨sr_len.trans hl, Ag_tr ha (Ag_sr (by omega)), MS_deep hc hk (rowL_len hR.1), r, hR, sr_RA (RA_lt hB)⟩
theorem MT152 (hc : MTh M0 M g k h) (hk : k < 6) (hh : HOK h) (h1 : 1 ≤ l) (h4 : l ≤ 4) (hl : hasL (hU h) (nI l) = true) (hw : w < 4) (hQ : ∀ M', MTh M0 M' g k (hF h (nI l) (nI w)) → (∀ j, j < 6 → j ≠ k → M'[133 + j]? = M[133 + j]?) → M'[129]? = M[129]? → Q (some (.int (tfE h.1 (fC (hU h) (nI l) (nI w))))) M') : Wp scr (n + 4) 152 [.ref 129, .ref (133 + k), .int (nI l), .int (nI w)] M Q := by
  obtain ⟨c1, c2, c3, r, hR, hA⟩ := hc
  obtain ⟨w0, hw0, hW⟩ := MS_sc c3
  obtain ⟨o, hO, _⟩ := c3.1.2
  obtain ⟨hd, _⟩ := fold_at hh h1 h4 hl hw
  rw [W152 (RA_lt hA) (by omega) (by omega) hO hW hw0 hR.1 hA hR.2.2.2.2.2.2.2.1 hd, mFe_hF hh hR h1 h4 hl hw]
  have hR' := MR_hF hh hR h1 h4 hl hw
  refine hQ _ ⟨(sr_len.trans sr_len).trans c1, Ag_tr c2 (Ag_tr (Ag_sr (by omega)) (Ag_sr (by omega))), MS_deep (MS_142 c3 (by rw [hR.2.2.2.2.2.1]; exact pan_len _)) hk (rowL_len hR'.1), _, hR', sr_RA (by rw [sr_len]; exact RA_lt hA)⟩ (fun j hj hne => ?_) ?_
  · exact (sr_ne (by omega)).trans (sr_ne (by omega))
  · exact (sr_ne (by omega)).trans (sr_ne (by omega))
/-! sums -/
theorem i32_4 (a b c d : Int32) : a - b + (c - d) = a + c - (b + d) := by
  simp only [Int32.sub_eq_add_neg, Int32.neg_add]
  ac_rfl
theorem sum_dif {a b : Nat → Int32} : ∀ (ls : List Nat) (x y : Int32), ls.foldl (fun r i => r + (a i - b i)) (x - y) = ls.foldl (fun r i => r + a i) x - ls.foldl (fun r i => r + b i) y := by
  intro ls
  induction ls with
  | nil => intro x y; rfl
  | cons i ls ih =>
    intro x y
    rw [List.foldl_cons, List.foldl_cons, List.foldl_cons, i32_4, ih]
theorem woO_eq {v : SV} {u : LV} (hv : (sWo v).length = 10) : woO v u = waO (wdOf v u) - waO (sWo v) := by
  have hg := wd_gi (u := u) hv
  have h1 : waO (wdOf v u) = (List.range' 0 10).foldl (fun r i => r + wbO v u i) 0 := by
    unfold waO
    refine fold_cg _ _ (fun s i hi => ?_)
    rw [hg.2 i (by rw [List.mem_range'_1] at hi; omega)]
  rw [h1]
  have := sum_dif (a := fun i => wbO v u i) (b := fun i => gi (sWo v) (nI i)) (List.range' 0 10) 0 0
  rw [Int32.sub_self] at this
  exact this
theorem J_hurts (hg : SGOK g) (x1 x2 x3 : Int32) : JO scr 102 177 [.int x1, .int x2, .int x3] g := by
  obtain ⟨y, hG, _⟩ := gU_GT hg
  have z1 : ((0 : Int32) ≤ -1) ↔ False := by decide
  have z2 : ((0 : Int32) ≤ -2) ↔ False := by decide
  have z0 : ((0 : Int32) ≤ 0) ↔ True := by decide
  cases hl : hasL (gU g) x1
  · refine ⟨.int (-nI 1), gRf g 1, gRf_ok hg, fun n M Q hC hQ => ?_, fun n M Q hC hQ => ?_⟩
    · simp only [e102, u102_0, u102_1, u102_2, u102_3, u102_6, u102_8, u102_10, u102_13, u102_14, u102_16, u102_20, u102_21, u102_22, u102_25, u102_28, u102_29, u102_31, u102_34, u102_35, u102_36, u102_39, u102_40, u102_43, u102_46, u102_47, u102_48, u102_51, u102_53, u102_54, u102_57, u102_59, u102_60, u102_61, u102_64, u102_67, u102_68, u102_71, u102_74, u102_75, u102_76, u102_77, u102_79, u102_80, u102_81, u102_84, u102_86, u102_89, u102_92, u102_93, u102_96, u102_98, u102_101, mw_os, wp_ite, mw_sw, Option.toList_some, Option.toList_none, List.cons_append, List.nil_append, true_and, and_true, if_true, if_false, mw_s_, mw_s_i, mw_s_r, mw_s_ii, mw_s_ir, mw_s_ri, mw_s_rr, mw_s_iii, mw_s_iir, mw_s_iri, mw_s_irr, mw_s_rii, mw_s_rir, mw_s_rri, mw_s_rrr, mw_s_iiii, mw_s_iiir, mw_s_iiri, mw_s_iirr, mw_s_irii, mw_s_irir, mw_s_irri, mw_s_irrr, mw_s_riii, mw_s_riir, mw_s_riri, mw_s_rirr, mw_s_rrii, mw_s_rrir, mw_s_rrri, mw_s_rrrr, mm_sto1, mm_clr, mm_isL, List.getElem?_cons_zero, List.getElem?_cons_succ, List.set_cons_zero, List.set_cons_succ, Bool.false_eq_true, W97 hC hg, hl, z1, CS_x hC, reduceCtorEq]
      refine CW84 (k := 1) hC hg (by decide) (by decide) (fun M' hl ha hc => ?_)
      simp only [u102_19, Option.toList_some, List.cons_append, List.nil_append]
      exact hQ M' hl ha hc
    · obtain ⟨o, r, hO, _, hR, hA⟩ := MSu hC
      have hP : rP r = panL (gU g) := hR.2.2.2.2.2.1
      simp only [e177, u177_0, u177_1, u177_4, u177_5, u177_8, u177_11, u177_12, u177_13, u177_17, u177_18, u177_19, u177_20, u177_23, u177_26, u177_29, u177_30, u177_31, u177_32, u177_35, u177_38, u177_41, u177_42, u177_44, u177_47, u177_48, u177_49, u177_52, u177_53, u177_56, u177_57, u177_58, u177_61, u177_62, u177_63, u177_66, u177_67, u177_68, u177_69, u177_70, u177_73, u177_75, u177_76, u177_79, u177_81, u177_84, u177_85, u177_86, u177_89, u177_90, u177_93, u177_94, u177_97, u177_100, u177_101, u177_104, u177_105, u177_106, u177_109, u177_110, u177_113, u177_116, u177_117, mw_os, wp_ite, mw_sw, Option.toList_some, Option.toList_none, List.cons_append, List.nil_append, true_and, and_true, if_true, if_false, mw_s_, mw_s_i, mw_s_r, mw_s_ii, mw_s_ir, mw_s_ri, mw_s_rr, mw_s_iii, mw_s_iir, mw_s_iri, mw_s_irr, mw_s_rii, mw_s_rir, mw_s_rri, mw_s_rrr, mw_s_iiii, mw_s_iiir, mw_s_iiri, mw_s_iirr, mw_s_irii, mw_s_irir, mw_s_irri, mw_s_irrr, mw_s_riii, mw_s_riir, mw_s_riri, mw_s_rirr, mw_s_rrii, mw_s_rrir, mw_s_rrri, mw_s_rrrr, mm_sto1, mm_clr, mm_isL, List.getElem?_cons_zero, List.getElem?_cons_succ, List.set_cons_zero, List.set_cons_succ, Bool.false_eq_true, OA_0 hO, W150 hA hR.1, hP, GT_line hG, hl, bi_eq0, OA_x hO, not_true]
      refine MW141 (k := 1) hC hg (by decide) (by decide) (fun M' hl ha hc => ?_)
      simp only [u177_16, Option.toList_some, List.cons_append, List.nil_append]
      exact hQ M' hl ha hc
  · obtain ⟨l, h1, h4, rfl⟩ := hasL_n hG hl
    rcases ixc x2 (N := 4) (by decide) with ⟨w, hw, rfl⟩ | hy
    · have b1 : decide ((0 : Int32) ≤ nI w ∧ nI w < 4) = true := ib_t hw (by decide)
      have b2 : inB (nI w).toInt64 0 3 = true := (inB_eq (nI w) 0 3).trans (il_t (N := 3) hw (by decide))
      rcases thr x3 with h3 | hz
      · have k1 : decide ((0 : Int32) ≤ x3 ∧ x3 < 3) = true := by rcases h3 with rfl | rfl | rfl <;> decide
        have k2 : inB x3.toInt64 0 2 = true := (inB_eq x3 0 2).trans (by rcases h3 with rfl | rfl | rfl <;> decide)
        obtain ⟨hd, hm, hu, hn, _, ef, _⟩ := fold_at hg.1 h1 h4 hl hw
        have hT := Th_rf hg.1
        refine ⟨.int (if x3 = 0 then tfE (gN g).1 (fC (gU g) (nI l) (nI w)) else if x3 = 1 then vF (fC (gU g) (nI l) (nI w)) else woO (gN g).1 (fC (gU g) (nI l) (nI w))), g, hg, fun n M Q hC hQ => ?_, fun n M Q hC hQ => ?_⟩
        · have hc := CTh_rf hC
          have hc' := CTh_F hc hg hT h1 h4 hl hw
          have w71 : ∀ Q : Option Value → mm_M → Prop, Wp scr (n + 39) 71 [.ref 1, .int (nI (gN g).2.1), .int (nI l), .int (nI w)] M Q ↔ Q (some (.int (tfE (gN g).1 (fC (gU g) (nI l) (nI w))))) (pl M (la 1 ((gN g).2.1 + 1)) (fC (gU g) (nI l) (nI w))) := fun Q => CT71 hc hg hT h1 h4 hl hw
          have hq := CT_end hc' hQ
          have hC' : CS (pl M (la 1 ((gN g).2.1 + 1)) (fC (gU g) (nI l) (nI w))) g := hc'.2.2.1
          have hLA : LA (pl M (la 1 ((gN g).2.1 + 1)) (fC (gU g) (nI l) (nI w))) (la 1 ((gN g).2.1 + 1)) (fC (gU g) (nI l) (nI w)) := by
            have := hc'.2.2.2 ((gN g).2.1 + 1) (Nat.le_refl _)
            rw [show (hF (gN g) (nI l) (nI w)).2.2 ((gN g).2.1 + 1) = fC (gU g) (nI l) (nI w) from hF_U] at this
            exact this
          have hq' : Q (some (.int (if x3 = 0 then tfE (gN g).1 (fC (gU g) (nI l) (nI w)) else if x3 = 1 then vF (fC (gU g) (nI l) (nI w)) else woO (gN g).1 (fC (gU g) (nI l) (nI w))))) (pl M (la 1 ((gN g).2.1 + 1)) (fC (gU g) (nI l) (nI w))) := hq
          clear hq hc' hc
          generalize pl M (la 1 ((gN g).2.1 + 1)) (fC (gU g) (nI l) (nI w)) = M1 at *
          simp only [e102, u102_0, u102_1, u102_2, u102_3, u102_6, u102_8, u102_10, u102_13, u102_14, u102_16, u102_19, u102_20, u102_21, u102_22, u102_25, u102_28, u102_29, u102_31, u102_34, u102_35, u102_36, u102_39, u102_40, u102_43, u102_46, u102_47, u102_48, u102_51, u102_53, u102_54, u102_57, u102_59, u102_60, u102_61, u102_64, u102_67, u102_68, u102_71, u102_74, u102_75, u102_76, u102_77, u102_79, u102_80, u102_81, u102_84, u102_86, u102_89, u102_92, u102_93, u102_96, u102_98, u102_101, mw_os, wp_ite, mw_sw, Option.toList_some, Option.toList_none, List.cons_append, List.nil_append, true_and, and_true, if_true, if_false, mw_s_, mw_s_i, mw_s_r, mw_s_ii, mw_s_ir, mw_s_ri, mw_s_rr, mw_s_iii, mw_s_iir, mw_s_iri, mw_s_irr, mw_s_rii, mw_s_rir, mw_s_rri, mw_s_rrr, mw_s_iiii, mw_s_iiir, mw_s_iiri, mw_s_iirr, mw_s_irii, mw_s_irir, mw_s_irri, mw_s_irrr, mw_s_riii, mw_s_riir, mw_s_riri, mw_s_rirr, mw_s_rrii, mw_s_rrir, mw_s_rrri, mw_s_rrrr, mm_sto1, mm_clr, mm_isL, List.getElem?_cons_zero, List.getElem?_cons_succ, List.set_cons_zero, List.set_cons_succ, Bool.false_eq_true, W97 hC hg, hl, b1, z0, CS_x hC, W89, k1, bi_eq0, reduceCtorEq, not_false_eq_true, CS_0 hC, NS_x hC, NS_4 hC hg, w71, CS_0 hC', NS_0 hC', NS_4 hC' hg, NS_x hC', nI_1, NS_l hC' (show (gN g).2.1 + 1 < 5 by omega), LA_8 hLA, W77 (NS hC') (gSOK hg) hLA hn]
          rcases h3 with rfl | rfl | rfl
          · exact hq'
          · exact hq'
          · exact hq'
        · obtain ⟨o, r, hO, _, hR, hA⟩ := MSu hC
          have hP : rP r = panL (gU g) := hR.2.2.2.2.2.1
          have d0 : mm_lda M 132 0 = some (.ref 133) := DPk (k := 0) hC (by decide)
          simp only [e177, u177_0, u177_1, u177_4, u177_5, u177_8, u177_11, u177_12, u177_13, u177_16, u177_17, u177_18, u177_19, u177_20, u177_23, u177_26, u177_29, u177_30, u177_31, u177_32, u177_35, u177_38, u177_41, u177_42, u177_44, u177_47, u177_48, u177_49, u177_52, u177_53, u177_56, u177_57, u177_58, u177_62, u177_63, u177_66, u177_67, u177_68, u177_69, u177_70, u177_73, u177_75, u177_76, u177_79, u177_81, u177_84, u177_85, u177_86, u177_89, u177_90, u177_93, u177_94, u177_97, u177_100, u177_101, u177_104, u177_105, u177_106, u177_109, u177_110, u177_113, u177_116, u177_117, mw_os, wp_ite, mw_sw, Option.toList_some, Option.toList_none, List.cons_append, List.nil_append, true_and, and_true, if_true, if_false, mw_s_, mw_s_i, mw_s_r, mw_s_ii, mw_s_ir, mw_s_ri, mw_s_rr, mw_s_iii, mw_s_iir, mw_s_iri, mw_s_irr, mw_s_rii, mw_s_rir, mw_s_rri, mw_s_rrr, mw_s_iiii, mw_s_iiir, mw_s_iiri, mw_s_iirr, mw_s_irii, mw_s_irir, mw_s_irri, mw_s_irrr, mw_s_riii, mw_s_riir, mw_s_riri, mw_s_rirr, mw_s_rrii, mw_s_rrir, mw_s_rrri, mw_s_rrrr, mm_sto1, mm_clr, mm_isL, List.getElem?_cons_zero, List.getElem?_cons_succ, List.set_cons_zero, List.set_cons_succ, Bool.false_eq_true, OA_0 hO, OA_2 hO, W150 hA hR.1, hP, GT_line hG, hl, bi_eq0, OA_x hO, reduceCtorEq, not_false_eq_true, W146, b2, k2, d0]
          refine MT147 (k := 0) rfl Ag_rf hC (by decide) (fun M1 hc => ?_)
          obtain ⟨o1, hO1, _⟩ := MT_o hc
          have d1 : mm_lda M1 132 0 = some (.ref 133) := DPk (k := 0) hc.2.2.1 (by decide)
          simp only [u177_61, u177_62, u177_63, u177_66, u177_67, u177_68, u177_69, u177_70, mw_os, wp_ite, mw_sw, Option.toList_some, Option.toList_none, List.cons_append, List.nil_append, true_and, and_true, if_true, if_false, mw_s_, mw_s_i, mw_s_r, mw_s_ii, mw_s_ir, mw_s_ri, mw_s_rr, mw_s_iii, mw_s_iir, mw_s_iri, mw_s_irr, mw_s_rii, mw_s_rir, mw_s_rri, mw_s_rrr, mw_s_iiii, mw_s_iiir, mw_s_iiri, mw_s_iirr, mw_s_irii, mw_s_irir, mw_s_irri, mw_s_irrr, mw_s_riii, mw_s_riir, mw_s_riri, mw_s_rirr, mw_s_rrii, mw_s_rrir, mw_s_rrri, mw_s_rrrr, mm_sto1, mm_clr, mm_isL, List.getElem?_cons_zero, List.getElem?_cons_succ, List.set_cons_zero, List.set_cons_succ, Bool.false_eq_true, OA_2 hO1, OA_x hO1, d1]
          refine MT152 (k := 0) hc (by decide) hg.1 h1 h4 hl hw (fun M2 hc2 _ _ => ?_)
          have hq := MT_end hc2 hQ
          obtain ⟨o2, hO2, _⟩ := MT_o hc2
          have d2 : mm_lda M2 132 0 = some (.ref 133) := DPk (k := 0) hc2.2.2.1 (by decide)
          obtain ⟨_, _, c3, r2, hR2, hA2⟩ := hc2
          obtain ⟨r3, hR3, hA3⟩ := c3.2.1
          have w153 : ∀ Q : Option Value → mm_M → Prop, Wp scr (n + 39) 153 [.ref 130, .int (nI l)] M2 Q ↔ Q (some (.int (vF (fC (gU g) (nI l) (nI w))))) M2 := fun Q => by
            have := W153 (scr := scr) (n := n + 37) (Q := Q) (l := nI l) hA3 hR3.1
            rw [show rP r3 = panL (gU g) from hR3.2.2.2.2.2.1, show rS r3 = vS (gU g) from hR3.2.2.2.2.1, show mCr (panL (gU g)) (vS (gU g)) (bfR (nI l)) (bfC (nI l)) = vF (fC (gU g) (nI l) (nI w)) from ef] at this
            exact this
          have w178 : ∀ Q : Option Value → mm_M → Prop, Wp scr (n + 39) 178 [.ref 130] M2 Q ↔ Q (some (.int (waO (sWo (gN g).1)))) M2 := fun Q => by rw [← hR3.2.2.2.1]; exact W178 hA3 hR3.1
          have w178' : ∀ Q : Option Value → mm_M → Prop, Wp scr (n + 39) 178 [.ref 133] M2 Q ↔ Q (some (.int (waO (wdOf (gN g).1 (fC (gU g) (nI l) (nI w)))))) M2 := fun Q => by
            have := W178 (scr := scr) (n := n + 38) (Q := Q) hA2 hR2.1
            rw [hR2.2.2.2.1] at this
            exact this
          have ew := woO_eq (v := (gN g).1) (u := fC (gU g) (nI l) (nI w)) (gSOK hg).2.2
          have eu : hU (gN g) = gU g := rfl
          simp only [eu] at hq ⊢
          simp only [u177_73, u177_75, u177_76, u177_79, u177_81, u177_84, u177_85, u177_86, u177_89, u177_90, u177_93, u177_94, u177_97, u177_100, u177_101, u177_104, u177_105, u177_106, u177_109, u177_110, u177_113, u177_116, u177_117, mw_os, wp_ite, mw_sw, Option.toList_some, Option.toList_none, List.cons_append, List.nil_append, true_and, and_true, if_true, if_false, mw_s_, mw_s_i, mw_s_r, mw_s_ii, mw_s_ir, mw_s_ri, mw_s_rr, mw_s_iii, mw_s_iir, mw_s_iri, mw_s_irr, mw_s_rii, mw_s_rir, mw_s_rri, mw_s_rrr, mw_s_iiii, mw_s_iiir, mw_s_iiri, mw_s_iirr, mw_s_irii, mw_s_irir, mw_s_irri, mw_s_irrr, mw_s_riii, mw_s_riir, mw_s_riri, mw_s_rirr, mw_s_rrii, mw_s_rrir, mw_s_rrri, mw_s_rrrr, mm_sto1, mm_clr, mm_isL, List.getElem?_cons_zero, List.getElem?_cons_succ, List.set_cons_zero, List.set_cons_succ, Bool.false_eq_true, OA_0 hO2, OA_2 hO2, d2, w153, w178, w178', ← ew]
          rcases h3 with rfl | rfl | rfl
          · exact hq
          · exact hq
          · exact hq
      · have k1 : decide ((0 : Int32) ≤ x3 ∧ x3 < 3) = false := ib_f (N := 3) hz
        have k2 : inB x3.toInt64 0 2 = false := (inB_eq x3 0 2).trans (il_f (N := 2) (by decide) hz)
        refine ⟨.int (-nI 2), gRf g 2, gRf_ok hg, fun n M Q hC hQ => ?_, fun n M Q hC hQ => ?_⟩
        · simp only [e102, u102_0, u102_1, u102_2, u102_3, u102_6, u102_8, u102_10, u102_13, u102_14, u102_16, u102_19, u102_20, u102_21, u102_22, u102_25, u102_28, u102_29, u102_31, u102_35, u102_36, u102_39, u102_40, u102_43, u102_46, u102_47, u102_48, u102_51, u102_53, u102_54, u102_57, u102_59, u102_60, u102_61, u102_64, u102_67, u102_68, u102_71, u102_74, u102_75, u102_76, u102_77, u102_79, u102_80, u102_81, u102_84, u102_86, u102_89, u102_92, u102_93, u102_96, u102_98, u102_101, mw_os, wp_ite, mw_sw, Option.toList_some, Option.toList_none, List.cons_append, List.nil_append, true_and, and_true, if_true, if_false, mw_s_, mw_s_i, mw_s_r, mw_s_ii, mw_s_ir, mw_s_ri, mw_s_rr, mw_s_iii, mw_s_iir, mw_s_iri, mw_s_irr, mw_s_rii, mw_s_rir, mw_s_rri, mw_s_rrr, mw_s_iiii, mw_s_iiir, mw_s_iiri, mw_s_iirr, mw_s_irii, mw_s_irir, mw_s_irri, mw_s_irrr, mw_s_riii, mw_s_riir, mw_s_riri, mw_s_rirr, mw_s_rrii, mw_s_rrir, mw_s_rrri, mw_s_rrrr, mm_sto1, mm_clr, mm_isL, List.getElem?_cons_zero, List.getElem?_cons_succ, List.set_cons_zero, List.set_cons_succ, Bool.false_eq_true, W97 hC hg, hl, b1, z0, W89, k1, bi_eq0, CS_x hC, reduceCtorEq, not_true]
          refine CW84 (k := 2) hC hg (by decide) (by decide) (fun M' hl ha hc => ?_)
          simp only [u102_34, Option.toList_some, List.cons_append, List.nil_append]
          exact hQ M' hl ha hc
        · obtain ⟨o, r, hO, _, hR, hA⟩ := MSu hC
          have hP : rP r = panL (gU g) := hR.2.2.2.2.2.1
          simp only [e177, u177_0, u177_1, u177_4, u177_5, u177_8, u177_11, u177_12, u177_13, u177_16, u177_17, u177_18, u177_19, u177_20, u177_23, u177_26, u177_29, u177_30, u177_31, u177_32, u177_35, u177_38, u177_41, u177_42, u177_44, u177_48, u177_49, u177_52, u177_53, u177_56, u177_57, u177_58, u177_61, u177_62, u177_63, u177_66, u177_67, u177_68, u177_69, u177_70, u177_73, u177_75, u177_76, u177_79, u177_81, u177_84, u177_85, u177_86, u177_89, u177_90, u177_93, u177_94, u177_97, u177_100, u177_101, u177_104, u177_105, u177_106, u177_109, u177_110, u177_113, u177_116, u177_117, mw_os, wp_ite, mw_sw, Option.toList_some, Option.toList_none, List.cons_append, List.nil_append, true_and, and_true, if_true, if_false, mw_s_, mw_s_i, mw_s_r, mw_s_ii, mw_s_ir, mw_s_ri, mw_s_rr, mw_s_iii, mw_s_iir, mw_s_iri, mw_s_irr, mw_s_rii, mw_s_rir, mw_s_rri, mw_s_rrr, mw_s_iiii, mw_s_iiir, mw_s_iiri, mw_s_iirr, mw_s_irii, mw_s_irir, mw_s_irri, mw_s_irrr, mw_s_riii, mw_s_riir, mw_s_riri, mw_s_rirr, mw_s_rrii, mw_s_rrir, mw_s_rrri, mw_s_rrrr, mm_sto1, mm_clr, mm_isL, List.getElem?_cons_zero, List.getElem?_cons_succ, List.set_cons_zero, List.set_cons_succ, Bool.false_eq_true, OA_0 hO, W150 hA hR.1, hP, GT_line hG, hl, W146, b2, k2, bi_eq0, OA_x hO, reduceCtorEq, not_false_eq_true, not_true]
          refine MW141 (k := 2) hC hg (by decide) (by decide) (fun M' hl ha hc => ?_)
          simp only [u177_47, Option.toList_some, List.cons_append, List.nil_append]
          exact hQ M' hl ha hc
    · have b1 : decide ((0 : Int32) ≤ x2 ∧ x2 < 4) = false := ib_f (N := 4) hy
      have b2 : inB x2.toInt64 0 3 = false := (inB_eq x2 0 3).trans (il_f (N := 3) (by decide) hy)
      refine ⟨.int (-nI 2), gRf g 2, gRf_ok hg, fun n M Q hC hQ => ?_, fun n M Q hC hQ => ?_⟩
      · simp only [e102, u102_0, u102_1, u102_2, u102_3, u102_6, u102_8, u102_10, u102_13, u102_14, u102_16, u102_20, u102_21, u102_22, u102_25, u102_28, u102_29, u102_31, u102_34, u102_35, u102_36, u102_39, u102_40, u102_43, u102_46, u102_47, u102_48, u102_51, u102_53, u102_54, u102_57, u102_59, u102_60, u102_61, u102_64, u102_67, u102_68, u102_71, u102_74, u102_75, u102_76, u102_77, u102_79, u102_80, u102_81, u102_84, u102_86, u102_89, u102_92, u102_93, u102_96, u102_98, u102_101, mw_os, wp_ite, mw_sw, Option.toList_some, Option.toList_none, List.cons_append, List.nil_append, true_and, and_true, if_true, if_false, mw_s_, mw_s_i, mw_s_r, mw_s_ii, mw_s_ir, mw_s_ri, mw_s_rr, mw_s_iii, mw_s_iir, mw_s_iri, mw_s_irr, mw_s_rii, mw_s_rir, mw_s_rri, mw_s_rrr, mw_s_iiii, mw_s_iiir, mw_s_iiri, mw_s_iirr, mw_s_irii, mw_s_irir, mw_s_irri, mw_s_irrr, mw_s_riii, mw_s_riir, mw_s_riri, mw_s_rirr, mw_s_rrii, mw_s_rrir, mw_s_rrri, mw_s_rrrr, mm_sto1, mm_clr, mm_isL, List.getElem?_cons_zero, List.getElem?_cons_succ, List.set_cons_zero, List.set_cons_succ, Bool.false_eq_true, W97 hC hg, hl, b1, z2, CS_x hC, reduceCtorEq]
        refine CW84 (k := 2) hC hg (by decide) (by decide) (fun M' hl ha hc => ?_)
        simp only [u102_19, Option.toList_some, List.cons_append, List.nil_append]
        exact hQ M' hl ha hc
      · obtain ⟨o, r, hO, _, hR, hA⟩ := MSu hC
        have hP : rP r = panL (gU g) := hR.2.2.2.2.2.1
        simp only [e177, u177_0, u177_1, u177_4, u177_5, u177_8, u177_11, u177_12, u177_13, u177_16, u177_17, u177_18, u177_19, u177_20, u177_23, u177_26, u177_29, u177_30, u177_31, u177_32, u177_35, u177_38, u177_41, u177_42, u177_44, u177_48, u177_49, u177_52, u177_53, u177_56, u177_57, u177_58, u177_61, u177_62, u177_63, u177_66, u177_67, u177_68, u177_69, u177_70, u177_73, u177_75, u177_76, u177_79, u177_81, u177_84, u177_85, u177_86, u177_89, u177_90, u177_93, u177_94, u177_97, u177_100, u177_101, u177_104, u177_105, u177_106, u177_109, u177_110, u177_113, u177_116, u177_117, mw_os, wp_ite, mw_sw, Option.toList_some, Option.toList_none, List.cons_append, List.nil_append, true_and, and_true, if_true, if_false, mw_s_, mw_s_i, mw_s_r, mw_s_ii, mw_s_ir, mw_s_ri, mw_s_rr, mw_s_iii, mw_s_iir, mw_s_iri, mw_s_irr, mw_s_rii, mw_s_rir, mw_s_rri, mw_s_rrr, mw_s_iiii, mw_s_iiir, mw_s_iiri, mw_s_iirr, mw_s_irii, mw_s_irir, mw_s_irri, mw_s_irrr, mw_s_riii, mw_s_riir, mw_s_riri, mw_s_rirr, mw_s_rrii, mw_s_rrir, mw_s_rrri, mw_s_rrrr, mm_sto1, mm_clr, mm_isL, List.getElem?_cons_zero, List.getElem?_cons_succ, List.set_cons_zero, List.set_cons_succ, Bool.false_eq_true, OA_0 hO, W150 hA hR.1, hP, GT_line hG, hl, W146, b2, bi_eq0, OA_x hO, reduceCtorEq, not_false_eq_true]
        refine MW141 (k := 2) hC hg (by decide) (by decide) (fun M' hl ha hc => ?_)
        simp only [u177_47, Option.toList_some, List.cons_append, List.nil_append]
        exact hQ M' hl ha hc
end TH2
