/-! worn again and again -/
def h3x (a : Bool) : Int32 := if a = true then (0 : Int32) ||| ((1 : Int32) <<< (nI 0 &&& 31)) else 0
def h3y (a b : Bool) : Int32 := if b = true then h3x a ||| ((1 : Int32) <<< (nI 1 &&& 31)) else h3x a
def h3 (a b c : Bool) : Int32 := if c = true then h3y a b ||| ((1 : Int32) <<< (nI 2 &&& 31)) else h3y a b
theorem h3_mono : ∀ a b c a' b' c' : Bool, (a = true → a' = true) → (b = true → b' = true) → (c = true → c' = true) → (bcI (h3 a b c) < bcI (h3 a' b' c') ↔ ¬ h3 a' b' c' = h3 a b c) := by decide +kernel
theorem hlO_h3 (w : List Int32) : hlO w = h3 (!decide (wAt w 0 < 40)) (!decide (wAt w 1 < 40)) (!decide (wAt w 2 < 40)) := by
  unfold hlO
  rw [show List.range' 0 3 = [0, 1, 2] from rfl]
  simp only [List.foldl, hlStep]
  unfold h3 h3y h3x
  by_cases h0 : wAt w 0 < 40 <;> by_cases h1 : wAt w 1 < 40 <;> by_cases h2 : wAt w 2 < 40 <;> simp only [h0, h1, h2, if_true, if_false, decide_true, decide_false, Bool.not_true, Bool.not_false, reduceCtorEq]
def LE10 (w w' : List Int32) : Prop := ∀ i, i < 10 → ∃ a b, a ≤ b ∧ b ≤ 99 ∧ gi w (nI i) = nI a ∧ gi w' (nI i) = nI b
theorem LE10_rf {w : List Int32} (h : ∀ i, i < 10 → rgI (gi w (nI i)) 99) : LE10 w w := fun i hi => by
  obtain ⟨a, h1, h2⟩ := h i hi
  exact ⟨a, a, Nat.le_refl _, h1, h2, h2⟩
theorem LE10_tr {u v w : List Int32} (h : LE10 u v) (k : LE10 v w) : LE10 u w := fun i hi => by
  obtain ⟨a, b, h1, h2, h3, h4⟩ := h i hi
  obtain ⟨c, d, k1, k2, k3, k4⟩ := k i hi
  have := (nI_eq (a := b) (b := c) (by omega) (by omega)).mp (h4.symm.trans k3)
  exact ⟨a, d, by omega, k2, h3, k4⟩
theorem LE10_wd {v : SV} {u : LV} (hv : (sWo v).length = 10) (h : ∀ i, i < 10 → rgI (gi (sWo v) (nI i)) 99) : LE10 (sWo v) (wdOf v u) := fun i hi => by
  obtain ⟨a, h1, h2⟩ := h i hi
  rw [(wd_gi hv).2 i hi]
  unfold wbO
  split
  · exact ⟨a, a, Nat.le_refl _, h1, h2, h2⟩
  · obtain ⟨b, b1, b2⟩ := sWr_rg (k := gi (sK v) (nI i)) (w := gi (sWo v) (nI i)) (s := gi (vS u) (nI i))
    rw [b2, h2, nI_add]
    unfold mn
    split
    · rename_i hlt
      have := (nI_ltI (a := a + b) (b := 99) (by omega) (by decide)).mp hlt
      exact ⟨a, a + b, by omega, by omega, rfl, rfl⟩
    · exact ⟨a, 99, h1, by omega, rfl, rfl⟩
theorem wAt_mono {w w' : List Int32} (h : LE10 w w') {k : Nat} (hk : k < 3) (hn : ¬ wAt w k < 40) : ¬ wAt w' k < 40 := by
  obtain ⟨a0, b0, p0, q0, r0, s0⟩ := h k (by omega)
  obtain ⟨a1, b1, p1, q1, r1, s1⟩ := h (k + 3) (by omega)
  obtain ⟨a2, b2, p2, q2, r2, s2⟩ := h (k + 6) (by omega)
  obtain ⟨a3, b3, p3, q3, r3, s3⟩ := h (k + 7) (by omega)
  unfold wAt at hn ⊢
  rw [r0, r1, r2, r3, nI_add, nI_add, nI_add] at hn
  rw [s0, s1, s2, s3, nI_add, nI_add, nI_add]
  intro z
  have z := (nI_ltI (b := 40) (by omega) (by decide)).mp z
  exact hn (nI_lt (b := 40) (by omega) (by decide))
theorem hl_mono {w w' : List Int32} (h : LE10 w w') : bcI (hlO w) < bcI (hlO w') ↔ ¬ hlO w' = hlO w := by
  rw [hlO_h3 w, hlO_h3 w']
  have st : ∀ k, k < 3 → (!decide (wAt w k < 40)) = true → (!decide (wAt w' k < 40)) = true := fun k hk hh => by
    rw [Bool.not_eq_true', decide_eq_false_iff_not] at hh ⊢
    exact wAt_mono h hk hh
  exact h3_mono _ _ _ _ _ _ (st 0 (by omega)) (st 1 (by omega)) (st 2 (by omega))
theorem wdOf_cg {v v' : SV} {u : LV} (h1 : sK v = sK v') (h2 : sWo v = sWo v') : wdOf v u = wdOf v' u := by
  unfold wdOf
  rw [h2]
  congr 1
  funext t i
  unfold wdStep wbO
  rw [show sK (xW v t) = sK v from rfl, show sK (xW v' t) = sK v' from rfl, h1]
  rfl
theorem lsF_cg {v v' : SV} {u : LV} {old : Int32} (h1 : sK v = sK v') : ∀ (j t : Nat) (w : List Int32), lsF v u old j t w = lsF v' u old j t w := by
  intro j
  induction j with
  | zero => intro t w; rfl
  | succ j ih =>
    intro t w
    rw [lsF, lsF, wdOf_cg (v := xW v w) (v' := xW v' w) h1 rfl, ih]
section LS
variable {scr : List Int32} {n : Nat} {M M0 : mm_M} {Q : Option Value → mm_M → Prop} {g : SG} {h : HV} {l w k : Nat}
theorem MR_cg {r : RV} {h h' : HV} (hr : MR r h) (e1 : h'.1 = h.1) (e2 : h'.2.1 = h.2.1) (e3 : ∀ i, i ≤ h.2.1 → h'.2.2 i = h.2.2 i) : MR r h' := by
  obtain ⟨q0, q1, q2, q3, q4, q5, q6, q7, q8⟩ := hr
  refine ⟨q0, by rw [e1]; exact q1, by rw [e1]; exact q2, by rw [e1]; exact q3, by rw [e2, e3 _ (Nat.le_refl _)]; exact q4, by rw [e2, e3 _ (Nat.le_refl _)]; exact q5, by rw [e1]; exact q6, by rw [e2]; exact q7, fun j hj => ?_⟩
  rw [e2] at hj
  rw [e3 j (by omega), e3 (j + 1) (by omega)]
  exact q8 j hj
theorem MT164 {h' : HV} {e : Nat} (hc : MTh M0 M g k h') (hk : k < 6) (hh : HOK h') (he : h'.2.1 = e + 1) (hQ : ∀ M', MTh M0 M' g k (hO h' e) → Q none M') : Wp scr (n + 1) 164 [.ref (133 + k)] M Q := by
  obtain ⟨c1, c2, c3, r, hR, hA⟩ := hc
  have hd4 := hh.2.2.1
  have hrn : rN r = nI (e + 1) := by rw [hR.2.2.2.2.2.2.2.1, he]
  have w164 : Wp scr (n + 1) 164 [.ref (133 + k)] M Q ↔ Q none (sr M (133 + k) (rowL (mOp r e))) := by
    have := W164 (scr := scr) (n := n) (Q := Q) (RA_lt hA) hR.1 hrn (by omega)
    rw [sr_self hA] at this
    exact this
  have hR' := MR_hO hh hR he
  rw [w164]
  exact hQ _ ⟨sr_len.trans c1, Ag_tr c2 (Ag_sr (by omega)), MS_deep c3 hk (rowL_len hR'.1), _, hR', sr_RA (RA_lt hA)⟩
/-- worn, all else as it was -/
def hWo (h : HV) (wo : List Int32) : HV := (xW h.1 wo, h.2)
theorem hWo_ok {wo : List Int32} (hh : HOK h) (h1 : wo.length = 10) (h2 : LE10 (sWo h.1) wo) : HOK (hWo h wo) := HOK_W hh h1 (fun i hi => by
  obtain ⟨a, b, _, h3, _, h4⟩ := h2 i hi
  exact ⟨b, h3, h4⟩)
theorem M198l (hh : HOK h) (h1 : 1 ≤ l) (h4 : l ≤ 4) (hl : hasL (hU h) (nI l) = true) (hw : w < 4) (hQ : ∀ M' x, MTh M0 M' g 1 x → Q (some (.int (lsF h.1 (fC (hU h) (nI l) (nI w)) (hlO (sWo h.1)) 98 1 (sWo h.1)).1)) M') : ∀ (j t : Nat) (wo : List Int32) (M : mm_M), t + j = 99 → wo.length = 10 → LE10 (sWo h.1) wo → MTh M0 M g 1 (hWo h wo) → lsF h.1 (fC (hU h) (nI l) (nI w)) (hlO (sWo h.1)) 98 1 (sWo h.1) = lsF h.1 (fC (hU h) (nI l) (nI w)) (hlO (sWo h.1)) j t wo → ∀ l5, wp scr (n + 4) mb_198 16 [some (.ref 129), some (.int (nI l)), some (.int (nI w)), some (.int (bcI (hlO (sWo h.1)))), some (.int (nI t)), l5] [] M Q := by
  intro j
  induction j with
  | zero =>
    intro t wo M ht hwl hle hm he l5
    have : t = 99 := by omega
    subst this
    have c99 : ((99 : Int32) ≤ nI 99) ↔ True := iff_true_intro (by decide +kernel)
    refine u198_16.mpr ?_
    simp only [u198_18, u198_20, u198_71, u198_73, mw_os, wp_ite, mw_sw, Option.toList_some, Option.toList_none, List.cons_append, List.nil_append, true_and, and_true, if_true, if_false, mw_s_, mw_s_i, mw_s_r, mw_s_ii, mw_s_ir, mw_s_ri, mw_s_rr, mw_s_iii, mw_s_iir, mw_s_iri, mw_s_irr, mw_s_rii, mw_s_rir, mw_s_rri, mw_s_rrr, mw_s_iiii, mw_s_iiir, mw_s_iiri, mw_s_iirr, mw_s_irii, mw_s_irir, mw_s_irri, mw_s_irrr, mw_s_riii, mw_s_riir, mw_s_riri, mw_s_rirr, mw_s_rrii, mw_s_rrir, mw_s_rrri, mw_s_rrrr, c99]
    have := hQ M _ hm
    rw [he] at this
    exact this
  | succ j ih =>
    intro t wo M ht hwl hle hm he l5
    have c99 : ((99 : Int32) ≤ nI t) ↔ False := iff_false_intro (nI_ge (b := 99) (by omega) (by decide))
    have hk := hWo_ok hh hwl hle
    have hd := (fold_at hh h1 h4 hl hw).1
    obtain ⟨o, hO', _⟩ := MT_o hm
    have d1 : mm_lda M 132 1 = some (.ref 134) := DPk (k := 1) hm.2.2.1 (by decide)
    refine u198_16.mpr ?_
    simp only [u198_18, u198_20, u198_23, u198_24, u198_25, u198_28, u198_29, u198_30, u198_31, u198_32, mw_os, wp_ite, mw_sw, Option.toList_some, Option.toList_none, List.cons_append, List.nil_append, true_and, and_true, if_true, if_false, mw_s_, mw_s_i, mw_s_r, mw_s_ii, mw_s_ir, mw_s_ri, mw_s_rr, mw_s_iii, mw_s_iir, mw_s_iri, mw_s_irr, mw_s_rii, mw_s_rir, mw_s_rri, mw_s_rrr, mw_s_iiii, mw_s_iiir, mw_s_iiri, mw_s_iirr, mw_s_irii, mw_s_irir, mw_s_irri, mw_s_irrr, mw_s_riii, mw_s_riir, mw_s_riri, mw_s_rirr, mw_s_rrii, mw_s_rrir, mw_s_rrri, mw_s_rrrr, mm_sto1, mm_clr, mm_isL, List.getElem?_cons_zero, List.getElem?_cons_succ, List.set_cons_zero, List.set_cons_succ, Bool.false_eq_true, c99, OA_2 hO', OA_x hO', d1]
    refine MT152 (k := 1) hm (by decide) hk h1 h4 hl hw (fun M2 hm2 _ _ => ?_)
    obtain ⟨o2, hO2, _⟩ := MT_o hm2
    have d2 : mm_lda M2 132 1 = some (.ref 134) := DPk (k := 1) hm2.2.2.1 (by decide)
    simp only [u198_35, u198_37, u198_38, u198_41, u198_42, u198_43, mw_os, wp_ite, mw_sw, Option.toList_some, Option.toList_none, List.cons_append, List.nil_append, true_and, and_true, if_true, if_false, mw_s_, mw_s_i, mw_s_r, mw_s_ii, mw_s_ir, mw_s_ri, mw_s_rr, mw_s_iii, mw_s_iir, mw_s_iri, mw_s_irr, mw_s_rii, mw_s_rir, mw_s_rri, mw_s_rrr, mw_s_iiii, mw_s_iiir, mw_s_iiri, mw_s_iirr, mw_s_irii, mw_s_irir, mw_s_irri, mw_s_irrr, mw_s_riii, mw_s_riir, mw_s_riri, mw_s_rirr, mw_s_rrii, mw_s_rrir, mw_s_rrri, mw_s_rrrr, mm_sto1, mm_clr, mm_isL, List.getElem?_cons_zero, List.getElem?_cons_succ, List.set_cons_zero, List.set_cons_succ, Bool.false_eq_true, OA_2 hO2, d2]
    refine MT164 (k := 1) (n := n + 3) hm2 (by decide) (HOK_hF hk h1 h4 hl hw) rfl (fun M3 hm3 => ?_)
    obtain ⟨o3, hO3, _⟩ := MT_o hm3
    have d3 : mm_lda M3 132 1 = some (.ref 134) := DPk (k := 1) hm3.2.2.1 (by decide)
    have hm4 : MTh M0 M3 g 1 (hWo h (wdOf (xW h.1 wo) (fC (hU h) (nI l) (nI w)))) := by
      obtain ⟨c1, c2, c3, r, hR, hA⟩ := hm3
      refine ⟨c1, c2, c3, r, MR_cg hR ?_ rfl (fun i hi => ?_), hA⟩
      · show xW h.1 (wdOf (xW h.1 wo) (fC (hU h) (nI l) (nI w))) = _
        show ((sK h.1, sF h.1, wdOf (xW h.1 wo) (fC (hU h) (nI l) (nI w))), (sN h.1, sCv h.1)) = ((sK h.1, sF h.1, wdOf (xW h.1 wo) (fC (hU h) (nI l) (nI w))), (nI h.2.1, sCv h.1))
        rw [hh.2.1]
      · have hi' : i ≤ h.2.1 := hi
        show h.2.2 i = if i = h.2.1 + 1 then _ else h.2.2 i
        rw [if_neg (by omega)]
    obtain ⟨r4, hR4, hA4⟩ := hm4.2.2.2
    have w199 : ∀ Q : Option Value → mm_M → Prop, Wp scr (n + 4) 199 [.ref 134] M3 Q ↔ Q (some (.int (hlO (wdOf (xW h.1 wo) (fC (hU h) (nI l) (nI w)))))) M3 := fun Q => by
      have := W199 (scr := scr) (n := n + 2) (Q := Q) hA4 hR4.1
      rw [hR4.2.2.2.1] at this
      exact this
    have hle2 : LE10 wo (wdOf (xW h.1 wo) (fC (hU h) (nI l) (nI w))) := LE10_wd (v := xW h.1 wo) hwl (fun i hi => (hk.2.2.2.2.2.2 i hi).2.2)
    have hle3 := LE10_tr hle hle2
    have hmn := hl_mono hle3
    have eqs : lsF h.1 (fC (hU h) (nI l) (nI w)) (hlO (sWo h.1)) (j + 1) t wo = if hlO (wdOf (xW h.1 wo) (fC (hU h) (nI l) (nI w))) = hlO (sWo h.1) then lsF h.1 (fC (hU h) (nI l) (nI w)) (hlO (sWo h.1)) j (t + 1) (wdOf (xW h.1 wo) (fC (hU h) (nI l) (nI w))) else (nI t, wdOf (xW h.1 wo) (fC (hU h) (nI l) (nI w))) := by rw [lsF]
    rw [eqs] at he
    by_cases hc : hlO (wdOf (xW h.1 wo) (fC (hU h) (nI l) (nI w))) = hlO (sWo h.1)
    · rw [if_pos hc] at he
      have hlt : (bcI (hlO (wdOf (xW h.1 wo) (fC (hU h) (nI l) (nI w)))) ≤ bcI (hlO (sWo h.1))) ↔ True := iff_true_intro (Int32.not_lt.mp (fun z => hmn.mp z hc))
      simp only [u198_46, u198_47, u198_50, u198_51, u198_52, u198_55, u198_58, u198_59, u198_65, u198_68, mw_os, wp_ite, mw_sw, Option.toList_some, Option.toList_none, List.cons_append, List.nil_append, true_and, and_true, if_true, if_false, mw_s_, mw_s_i, mw_s_r, mw_s_ii, mw_s_ir, mw_s_ri, mw_s_rr, mw_s_iii, mw_s_iir, mw_s_iri, mw_s_irr, mw_s_rii, mw_s_rir, mw_s_rri, mw_s_rrr, mw_s_iiii, mw_s_iiir, mw_s_iiri, mw_s_iirr, mw_s_irii, mw_s_irir, mw_s_irri, mw_s_irrr, mw_s_riii, mw_s_riir, mw_s_riri, mw_s_rirr, mw_s_rrii, mw_s_rrir, mw_s_rrri, mw_s_rrrr, mm_sto1, mm_clr, mm_isL, List.getElem?_cons_zero, List.getElem?_cons_succ, List.set_cons_zero, List.set_cons_succ, Bool.false_eq_true, OA_2 hO3, d3, w199, W0, hlt, nI_1]
      exact ih (t + 1) _ M3 (by omega) (wd_gi (v := xW h.1 wo) hwl).1 hle3 hm4 he _
    · rw [if_neg hc] at he
      have hlt : (bcI (hlO (wdOf (xW h.1 wo) (fC (hU h) (nI l) (nI w)))) ≤ bcI (hlO (sWo h.1))) ↔ False := iff_false_intro (Int32.not_le.mpr (hmn.mpr hc))
      simp only [u198_46, u198_47, u198_50, u198_51, u198_52, u198_55, u198_58, u198_59, u198_62, u198_64, mw_os, wp_ite, mw_sw, Option.toList_some, Option.toList_none, List.cons_append, List.nil_append, true_and, and_true, if_true, if_false, mw_s_, mw_s_i, mw_s_r, mw_s_ii, mw_s_ir, mw_s_ri, mw_s_rr, mw_s_iii, mw_s_iir, mw_s_iri, mw_s_irr, mw_s_rii, mw_s_rir, mw_s_rri, mw_s_rrr, mw_s_iiii, mw_s_iiir, mw_s_iiri, mw_s_iirr, mw_s_irii, mw_s_irir, mw_s_irri, mw_s_irrr, mw_s_riii, mw_s_riir, mw_s_riri, mw_s_rirr, mw_s_rrii, mw_s_rrir, mw_s_rrri, mw_s_rrrr, mm_sto1, mm_clr, mm_isL, List.getElem?_cons_zero, List.getElem?_cons_succ, List.set_cons_zero, List.set_cons_succ, Bool.false_eq_true, OA_2 hO3, d3, w199, W0, hlt]
      have := hQ M3 _ hm4
      rw [he] at this
      exact this
theorem M198 (hh : HOK h) (hm : MTh M0 M g 1 h) (h1 : 1 ≤ l) (h4 : l ≤ 4) (hl : hasL (hU h) (nI l) = true) (hw : w < 4) (hQ : ∀ M' x, MTh M0 M' g 1 x → Q (some (.int (lsF h.1 (fC (hU h) (nI l) (nI w)) (hlO (sWo h.1)) 98 1 (sWo h.1)).1)) M') : Wp scr (n + 5) 198 [.ref 129, .int (nI l), .int (nI w)] M Q := by
  obtain ⟨o, hO', _⟩ := MT_o hm
  obtain ⟨r, hR, hA⟩ := hm.2.2.2
  have d1 : mm_lda M 132 1 = some (.ref 134) := DPk (k := 1) hm.2.2.1 (by decide)
  have w199 : ∀ Q : Option Value → mm_M → Prop, Wp scr (n + 4) 199 [.ref 134] M Q ↔ Q (some (.int (hlO (sWo h.1)))) M := fun Q => by
    have := W199 (scr := scr) (n := n + 2) (Q := Q) hA hR.1
    rw [hR.2.2.2.1] at this
    exact this
  simp only [e198, u198_0, u198_1, u198_4, u198_5, u198_6, u198_9, u198_12, u198_13, u198_14, mw_os, wp_ite, mw_sw, Option.toList_some, Option.toList_none, List.cons_append, List.nil_append, true_and, and_true, if_true, if_false, mw_s_, mw_s_i, mw_s_r, mw_s_ii, mw_s_ir, mw_s_ri, mw_s_rr, mw_s_iii, mw_s_iir, mw_s_iri, mw_s_irr, mw_s_rii, mw_s_rir, mw_s_rri, mw_s_rrr, mw_s_iiii, mw_s_iiir, mw_s_iiri, mw_s_iirr, mw_s_irii, mw_s_irir, mw_s_irri, mw_s_irrr, mw_s_riii, mw_s_riir, mw_s_riri, mw_s_rirr, mw_s_rrii, mw_s_rrir, mw_s_rrri, mw_s_rrrr, mm_sto1, mm_clr, mm_isL, List.getElem?_cons_zero, List.getElem?_cons_succ, List.set_cons_zero, List.set_cons_succ, Bool.false_eq_true, OA_2 hO', d1, w199, W0]
  exact M198l hh h1 h4 hl hw hQ 98 1 (sWo h.1) M rfl hh.1.2.2 (LE10_rf (fun i hi => (hh.2.2.2.2.2.2 i hi).2.2)) hm rfl none
/-! the trial sheet -/
theorem CS_tr {v : SV} (hc : CS M g) (hg : SGOK g) (hv : SOK v) : CS (ph M 81 v) g := by
  obtain ⟨⟨a1, a2⟩, a3, a4, ⟨⟨v0, b1, b2, b3⟩, b4⟩, ⟨τ, a6, a7⟩, ⟨a8, a9⟩, ⟨x, y, a10⟩, a11, a12⟩ := hc
  refine ⟨⟨(ph_len ..).trans a1, (ph_out (by omega)).trans a2⟩, SH_kp a3 (Ag_ph (by omega)) hg.1.2.2.1, SH_kp a4 (Ag_ph (by omega)) hg.2.1.2.2.1, ⟨⟨v, hv, ph_SA (SA_len b2), fun i hi => ?_⟩, LA_ph b4 (by unfold la; omega)⟩, ⟨τ, a6, QA_keep a7 (fun j hj => ph_out (by omega))⟩, ⟨(ph_out (by omega)).trans a8, (ph_out (by omega)).trans a9⟩, ⟨x, y, (ph_out (by omega)).trans a10⟩, (ph_out (by omega)).trans a11, (ph_out (by omega)).trans a12⟩
  obtain ⟨y, y1, y2⟩ := b3 i hi
  exact ⟨y, y1, LA_ph y2 (by unfold la; omega)⟩
theorem CTh_tr {v : SV} (hc : CTh M0 M g h) (hg : SGOK g) (hd : h.2.1 ≤ 4) (hv : SOK v) : CTh M0 (ph M 81 v) g h := ⟨(ph_len ..).trans hc.1, Ag_tr hc.2.1 (Ag_ph (by omega)), CS_tr hc.2.2.1 hg hv, fun i hi => LA_ph (hc.2.2.2 i hi) (by unfold la; omega)⟩
theorem TRu (hC : CS M g) : ∃ v, SOK v ∧ SA M 81 v := by
  obtain ⟨⟨v, h1, h2, _⟩, _⟩ := hC.2.2.2.1
  exact ⟨v, h1, h2⟩
def cpV (s v : SV) : SV := ((sK s, sF s, sWo s), (sN v, sCv v))
theorem CW68 {v : SV} (hC : CS M g) (hg : SGOK g) (hv : SOK v) (hs : SA M 81 v) : Wp scr (n + 1) 68 [.ref 81, .ref 1] M Q ↔ Q none (ph M 81 (cpV (gN g).1 v)) := by
  have := W68 (scr := scr) (n := n) (Q := Q) (M := M) (s := 81) (t := 1) (SA_len hs) hv (gSOK hg) (NS hC) (Or.inl (by omega))
  rw [ph_self hs] at this
  exact this
theorem J_lasts (hg : SGOK g) (x1 x2 : Int32) : JO scr 112 197 [.int x1, .int x2] g := by
  obtain ⟨y, hG, _⟩ := gU_GT hg
  have z1 : ((0 : Int32) ≤ -1) ↔ False := by decide
  have z2 : ((0 : Int32) ≤ -2) ↔ False := by decide
  have z0 : ((0 : Int32) ≤ 0) ↔ True := by decide
  cases hl : hasL (gU g) x1
  · refine ⟨.int (-nI 1), gRf g 1, gRf_ok hg, fun n M Q hC hQ => ?_, fun n M Q hC hQ => ?_⟩
    · simp only [u112_0, u112_1, u112_2, u112_3, u112_6, u112_7, u112_8, u112_11, u112_12, u112_13, e112, mw_os, wp_ite, mw_sw, Option.toList_some, Option.toList_none, List.cons_append, List.nil_append, true_and, and_true, if_true, if_false, mw_s_, mw_s_i, mw_s_r, mw_s_ii, mw_s_ir, mw_s_ri, mw_s_rr, mw_s_iii, mw_s_iir, mw_s_iri, mw_s_irr, mw_s_rii, mw_s_rir, mw_s_rri, mw_s_rrr, mw_s_iiii, mw_s_iiir, mw_s_iiri, mw_s_iirr, mw_s_irii, mw_s_irir, mw_s_irri, mw_s_irrr, mw_s_riii, mw_s_riir, mw_s_riri, mw_s_rirr, mw_s_rrii, mw_s_rrir, mw_s_rrri, mw_s_rrrr, mm_sto1, mm_clr, mm_isL, List.getElem?_cons_zero, List.getElem?_cons_succ, List.set_cons_zero, List.set_cons_succ, Bool.false_eq_true, W97 hC hg, hl, z1, CS_x hC, reduceCtorEq]
      refine CW84 (k := 1) hC hg (by decide) (by decide) (fun M' hl ha hc => ?_)
      simp only [u112_16, Option.toList_some, List.cons_append, List.nil_append]
      exact hQ M' hl ha hc
    · obtain ⟨o, r, hO, _, hR, hA⟩ := MSu hC
      have hP : rP r = panL (gU g) := hR.2.2.2.2.2.1
      simp only [u197_0, u197_1, u197_4, u197_5, u197_8, u197_11, u197_12, u197_13, e197, mw_os, wp_ite, mw_sw, Option.toList_some, Option.toList_none, List.cons_append, List.nil_append, true_and, and_true, if_true, if_false, mw_s_, mw_s_i, mw_s_r, mw_s_ii, mw_s_ir, mw_s_ri, mw_s_rr, mw_s_iii, mw_s_iir, mw_s_iri, mw_s_irr, mw_s_rii, mw_s_rir, mw_s_rri, mw_s_rrr, mw_s_iiii, mw_s_iiir, mw_s_iiri, mw_s_iirr, mw_s_irii, mw_s_irir, mw_s_irri, mw_s_irrr, mw_s_riii, mw_s_riir, mw_s_riri, mw_s_rirr, mw_s_rrii, mw_s_rrir, mw_s_rrri, mw_s_rrrr, mm_sto1, mm_clr, mm_isL, List.getElem?_cons_zero, List.getElem?_cons_succ, List.set_cons_zero, List.set_cons_succ, Bool.false_eq_true, OA_0 hO, W150 hA hR.1, hP, GT_line hG, hl, bi_eq0, OA_x hO, not_true]
      refine MW141 (k := 1) hC hg (by decide) (by decide) (fun M' hl ha hc => ?_)
      simp only [u197_16, Option.toList_some, List.cons_append, List.nil_append]
      exact hQ M' hl ha hc
  · obtain ⟨l, h1, h4, rfl⟩ := hasL_n hG hl
    rcases ixc x2 (N := 4) (by decide) with ⟨w, hw, rfl⟩ | hy
    · have b1 : decide ((0 : Int32) ≤ nI w ∧ nI w < 4) = true := ib_t hw (by decide)
      have b2 : inB (nI w).toInt64 0 3 = true := (inB_eq (nI w) 0 3).trans (il_t (N := 3) hw (by decide))
      obtain ⟨hd, hm, hu, hn, _⟩ := fold_at hg.1 h1 h4 hl hw
      have hT := Th_rf hg.1
      refine ⟨.int (lsF (gN g).1 (fC (gU g) (nI l) (nI w)) (hlO (sWo (gN g).1)) 98 1 (sWo (gN g).1)).1, g, hg, fun n M Q hC hQ => ?_, fun n M Q hC hQ => ?_⟩
      · have hc := CTh_rf hC
        have hc1 := CTh_F hc hg hT h1 h4 hl hw
        have w71 : ∀ Q : Option Value → mm_M → Prop, Wp scr (n + 39) 71 [.ref 1, .int (nI (gN g).2.1), .int (nI l), .int (nI w)] M Q ↔ Q (some (.int (tfE (gN g).1 (fC (gU g) (nI l) (nI w))))) (pl M (la 1 ((gN g).2.1 + 1)) (fC (gU g) (nI l) (nI w))) := fun Q => CT71 hc hg hT h1 h4 hl hw
        change CTh M (pl M (la 1 ((gN g).2.1 + 1)) (fC (gU g) (nI l) (nI w))) g _ at hc1
        generalize pl M (la 1 ((gN g).2.1 + 1)) (fC (gU g) (nI l) (nI w)) = M1 at hc1 w71
        have hC1 := hc1.2.2.1
        obtain ⟨v, hv, hs⟩ := TRu hC1
        have hvc : SOK (cpV (gN g).1 v) := gSOK hg
        have hc2 := CTh_tr (v := cpV (gN g).1 v) hc1 hg (by show (gN g).2.1 + 1 ≤ 4; omega) hvc
        have hLA : LA M1 (la 1 ((gN g).2.1 + 1)) (fC (gU g) (nI l) (nI w)) := by
          have := hc1.2.2.2 ((gN g).2.1 + 1) (Nat.le_refl _)
          rw [show (hF (gN g) (nI l) (nI w)).2.2 ((gN g).2.1 + 1) = fC (gU g) (nI l) (nI w) from hF_U] at this
          exact this
        have hC2 := hc2.2.2.1
        have s2 : SA (ph M1 81 (cpV (gN g).1 v)) 81 (cpV (gN g).1 v) := ph_SA (SA_len hs)
        simp only [u112_0, u112_1, u112_2, u112_3, u112_6, u112_7, u112_8, u112_17, u112_18, u112_21, u112_22, u112_25, u112_28, u112_29, u112_30, u112_33, u112_34, u112_35, u112_38, u112_39, u112_42, u112_45, u112_46, u112_49, u112_50, u112_53, u112_56, u112_57, u112_60, u112_63, u112_64, u112_65, u112_66, u112_69, e112, mw_os, wp_ite, mw_sw, Option.toList_some, Option.toList_none, List.cons_append, List.nil_append, true_and, and_true, if_true, if_false, mw_s_, mw_s_i, mw_s_r, mw_s_ii, mw_s_ir, mw_s_ri, mw_s_rr, mw_s_iii, mw_s_iir, mw_s_iri, mw_s_irr, mw_s_rii, mw_s_rir, mw_s_rri, mw_s_rrr, mw_s_iiii, mw_s_iiir, mw_s_iiri, mw_s_iirr, mw_s_irii, mw_s_irir, mw_s_irri, mw_s_irrr, mw_s_riii, mw_s_riir, mw_s_riri, mw_s_rirr, mw_s_rrii, mw_s_rrir, mw_s_rrri, mw_s_rrrr, mm_sto1, mm_clr, mm_isL, List.getElem?_cons_zero, List.getElem?_cons_succ, List.set_cons_zero, List.set_cons_succ, Bool.false_eq_true, W97 hC hg, hl, b1, z0, CS_x hC, CS_0 hC, NS_x hC, NS_4 hC hg, w71, CS_0 hC1, CS_2 hC1, SA_x hs, CW68 hC1 hg hv hs, CS_0 hC2, CS_2 hC2, NS_0 hC2, NS_4 hC2 hg, nI_1, NS_l hC2 (show (gN g).2.1 + 1 < 5 by omega), SA_x s2, W78 (SA_len hs) hvc hLA hn (show la 1 ((gN g).2.1 + 1) + 7 ≤ 81 ∨ 81 + 5 ≤ la 1 ((gN g).2.1 + 1) by unfold la; omega)]
        rw [show sWo (cpV (gN g).1 v) = sWo (gN g).1 from rfl, lsF_cg (v := cpV (gN g).1 v) (v' := (gN g).1) rfl]
        have hwl : ∀ (j t : Nat) (wo : List Int32), wo.length = 10 → (lsF (gN g).1 (fC (gU g) (nI l) (nI w)) (hlO (sWo (gN g).1)) j t wo).2.length = 10 := by
          intro j
          induction j with
          | zero => intro t wo h; exact h
          | succ j ih =>
            intro t wo h
            rw [lsF]
            split
            · exact ih _ _ (wd_gi (v := xW (gN g).1 wo) h).1
            · exact (wd_gi (v := xW (gN g).1 wo) h).1
        have hc3 := CTh_tr (v := xW (cpV (gN g).1 v) (lsF (gN g).1 (fC (gU g) (nI l) (nI w)) (hlO (sWo (gN g).1)) 98 1 (sWo (gN g).1)).2) hc1 hg (by show (gN g).2.1 + 1 ≤ 4; omega) (SOK_xW hvc (hwl 98 1 _ (gSOK hg).2.2))
        exact CT_end hc3 hQ
      · obtain ⟨o, r, hO, _, hR, hA⟩ := MSu hC
        have hP : rP r = panL (gU g) := hR.2.2.2.2.2.1
        have d0 : mm_lda M 132 1 = some (.ref 134) := DPk (k := 1) hC (by decide)
        simp only [u197_0, u197_1, u197_4, u197_5, u197_8, u197_17, u197_18, u197_19, u197_20, u197_23, u197_26, u197_36, u197_37, u197_40, u197_41, u197_44, u197_45, u197_46, e197, mw_os, wp_ite, mw_sw, Option.toList_some, Option.toList_none, List.cons_append, List.nil_append, true_and, and_true, if_true, if_false, mw_s_, mw_s_i, mw_s_r, mw_s_ii, mw_s_ir, mw_s_ri, mw_s_rr, mw_s_iii, mw_s_iir, mw_s_iri, mw_s_irr, mw_s_rii, mw_s_rir, mw_s_rri, mw_s_rrr, mw_s_iiii, mw_s_iiir, mw_s_iiri, mw_s_iirr, mw_s_irii, mw_s_irir, mw_s_irri, mw_s_irrr, mw_s_riii, mw_s_riir, mw_s_riri, mw_s_rirr, mw_s_rrii, mw_s_rrir, mw_s_rrri, mw_s_rrrr, mm_sto1, mm_clr, mm_isL, List.getElem?_cons_zero, List.getElem?_cons_succ, List.set_cons_zero, List.set_cons_succ, Bool.false_eq_true, OA_0 hO, OA_2 hO, W150 hA hR.1, hP, GT_line hG, hl, bi_eq0, reduceCtorEq, not_false_eq_true, W146, b2, d0]
        refine MT147 (k := 1) (n := n + 38) rfl Ag_rf hC (by decide) (fun M1 hm1 => ?_)
        obtain ⟨o1, hO1, _⟩ := MT_o hm1
        simp only [u197_49, u197_50, u197_51, u197_52, mw_os, wp_ite, mw_sw, Option.toList_some, Option.toList_none, List.cons_append, List.nil_append, true_and, and_true, if_true, if_false, mw_s_, mw_s_i, mw_s_r, mw_s_ii, mw_s_ir, mw_s_ri, mw_s_rr, mw_s_iii, mw_s_iir, mw_s_iri, mw_s_irr, mw_s_rii, mw_s_rir, mw_s_rri, mw_s_rrr, mw_s_iiii, mw_s_iiir, mw_s_iiri, mw_s_iirr, mw_s_irii, mw_s_irir, mw_s_irri, mw_s_irrr, mw_s_riii, mw_s_riir, mw_s_riri, mw_s_rirr, mw_s_rrii, mw_s_rrir, mw_s_rrri, mw_s_rrrr, mm_sto1, mm_clr, mm_isL, List.getElem?_cons_zero, List.getElem?_cons_succ, List.set_cons_zero, List.set_cons_succ, Bool.false_eq_true, OA_x hO1]
        refine M198 (n := n + 34) hg.1 hm1 h1 h4 hl hw (fun M2 x hm2 => ?_)
        simp only [u197_55, mw_os, wp_ite, mw_sw, Option.toList_some, Option.toList_none, List.cons_append, List.nil_append, true_and, and_true, if_true, if_false, mw_s_, mw_s_i, mw_s_r, mw_s_ii, mw_s_ir, mw_s_ri, mw_s_rr, mw_s_iii, mw_s_iir, mw_s_iri, mw_s_irr, mw_s_rii, mw_s_rir, mw_s_rri, mw_s_rrr, mw_s_iiii, mw_s_iiir, mw_s_iiri, mw_s_iirr, mw_s_irii, mw_s_irir, mw_s_irri, mw_s_irrr, mw_s_riii, mw_s_riir, mw_s_riri, mw_s_rirr, mw_s_rrii, mw_s_rrir, mw_s_rrri, mw_s_rrrr]
        exact MT_end hm2 hQ
    · have b1 : decide ((0 : Int32) ≤ x2 ∧ x2 < 4) = false := ib_f (N := 4) hy
      have b2 : inB x2.toInt64 0 3 = false := (inB_eq x2 0 3).trans (il_f (N := 3) (by decide) hy)
      refine ⟨.int (-nI 2), gRf g 2, gRf_ok hg, fun n M Q hC hQ => ?_, fun n M Q hC hQ => ?_⟩
      · simp only [u112_0, u112_1, u112_2, u112_3, u112_6, u112_7, u112_8, u112_11, u112_12, u112_13, e112, mw_os, wp_ite, mw_sw, Option.toList_some, Option.toList_none, List.cons_append, List.nil_append, true_and, and_true, if_true, if_false, mw_s_, mw_s_i, mw_s_r, mw_s_ii, mw_s_ir, mw_s_ri, mw_s_rr, mw_s_iii, mw_s_iir, mw_s_iri, mw_s_irr, mw_s_rii, mw_s_rir, mw_s_rri, mw_s_rrr, mw_s_iiii, mw_s_iiir, mw_s_iiri, mw_s_iirr, mw_s_irii, mw_s_irir, mw_s_irri, mw_s_irrr, mw_s_riii, mw_s_riir, mw_s_riri, mw_s_rirr, mw_s_rrii, mw_s_rrir, mw_s_rrri, mw_s_rrrr, mm_sto1, mm_clr, mm_isL, List.getElem?_cons_zero, List.getElem?_cons_succ, List.set_cons_zero, List.set_cons_succ, Bool.false_eq_true, W97 hC hg, hl, b1, z2, CS_x hC, reduceCtorEq]
        refine CW84 (k := 2) hC hg (by decide) (by decide) (fun M' hl ha hc => ?_)
        simp only [u112_16, Option.toList_some, List.cons_append, List.nil_append]
        exact hQ M' hl ha hc
      · obtain ⟨o, r, hO, _, hR, hA⟩ := MSu hC
        have hP : rP r = panL (gU g) := hR.2.2.2.2.2.1
        simp only [u197_0, u197_1, u197_4, u197_5, u197_8, u197_17, u197_18, u197_19, u197_20, u197_23, u197_26, u197_29, u197_30, u197_32, e197, mw_os, wp_ite, mw_sw, Option.toList_some, Option.toList_none, List.cons_append, List.nil_append, true_and, and_true, if_true, if_false, mw_s_, mw_s_i, mw_s_r, mw_s_ii, mw_s_ir, mw_s_ri, mw_s_rr, mw_s_iii, mw_s_iir, mw_s_iri, mw_s_irr, mw_s_rii, mw_s_rir, mw_s_rri, mw_s_rrr, mw_s_iiii, mw_s_iiir, mw_s_iiri, mw_s_iirr, mw_s_irii, mw_s_irir, mw_s_irri, mw_s_irrr, mw_s_riii, mw_s_riir, mw_s_riri, mw_s_rirr, mw_s_rrii, mw_s_rrir, mw_s_rrri, mw_s_rrrr, mm_sto1, mm_clr, mm_isL, List.getElem?_cons_zero, List.getElem?_cons_succ, List.set_cons_zero, List.set_cons_succ, Bool.false_eq_true, OA_0 hO, W150 hA hR.1, hP, GT_line hG, hl, W146, b2, bi_eq0, OA_x hO, reduceCtorEq, not_false_eq_true, not_true]
        refine MW141 (k := 2) hC hg (by decide) (by decide) (fun M' hl ha hc => ?_)
        simp only [u197_35, Option.toList_some, List.cons_append, List.nil_append]
        exact hQ M' hl ha hc
end LS
