def oG (g : SG) : Int32 × Int32 × Int32 := (gH g, nI (gTc g), nI (gZn g))
def mV (aim A B cv : Int32) (T : List Int32) (σ : St) (x : ND) : St := mtV aim A B cv T (nI x.1) (nI x.2.2.1) (nI x.2.1) x.2.2.2 σ
section SK2
variable {scr : List Int32} {M M0 : mm_M} {g : SG} {h : HV} {k : Nat}
theorem MS_so (hc : MS M g) {x : _} : MS (so M (oG g, x)) g := by
  obtain ⟨⟨a1, o', a2, a3⟩, ⟨r0, a4, a5⟩, ⟨w1, a6, a7, a8⟩, a9, a10, a11, a12, a13, ⟨w2, a14, a15⟩⟩ := hc
  refine ⟨⟨so_len.trans a1, _, so_OA a2, rfl⟩, ⟨r0, a4, RA_so a5 (by decide)⟩, ⟨w1, a6, RA_so a7 (by decide), a8⟩, (so_ne (by decide)).trans a9, fun k hk => ?_, RA_so a11 (by decide), RA_so a12 (by decide), RA_so a13 (by decide), ⟨w2, a14, RA_so a15 (by decide)⟩⟩
  obtain ⟨w3, b1, b2⟩ := a10 k hk
  exact ⟨w3, b1, RA_so b2 (by omega)⟩
theorem MTh_so (hc : MTh M0 M g k h) {x : _} : MTh M0 (so M (oG g, x)) g k h := by
  obtain ⟨c1, c2, c3, r, c4, c5⟩ := hc
  exact ⟨so_len.trans c1, Ag_tr c2 Ag_so, MS_so c3, r, c4, RA_so c5 (by omega)⟩
theorem MS_oG (hc : MS M g) : ∃ x, OA M (oG g, x) := by
  obtain ⟨o, h1, h2⟩ := hc.1.2
  refine ⟨o.2, ?_⟩
  have : o = (oG g, o.2) := by rw [show oG g = o.1 from h2.symm]
  rw [← this]
  exact h1
/-- a deep row is copied to the next -/
theorem MT147d {n : Nat} {Q : Option Value → mm_M → Prop} (hc : MTh M0 M g k h) (hk : k < 5) (hQ : ∀ M', MTh M0 M' g (k + 1) h → MTh M0 M' g k h → (∀ j, j ≤ k → M'[133 + j]? = M[133 + j]?) → M'[129]? = M[129]? → Q none M') : Wp scr (n + 1) 147 [.ref (133 + k), .ref (133 + (k + 1))] M Q := by
  obtain ⟨c1, c2, c3, r, c4, c5⟩ := hc
  obtain ⟨w, hw, hB⟩ := c3.2.2.2.2.1 (k + 1) (by omega)
  rw [W147 (by omega) c5 hB (rowL_len c4.1) hw]
  have hms := MS_deep (k := k + 1) c3 (by omega) (rowL_len c4.1)
  refine hQ _ ⟨sr_len.trans c1, Ag_tr c2 (Ag_sr (by omega)), hms, r, c4, sr_RA (RA_lt hB)⟩ ⟨sr_len.trans c1, Ag_tr c2 (Ag_sr (by omega)), hms, r, c4, sr_other c5 (by omega)⟩ (fun j hj => sr_ne (by omega)) (sr_ne (by omega))
theorem MT_keep {M' : mm_M} {j : Nat} {h' : HV} (hc : MTh M0 M g k h) (hc' : MTh M0 M' g j h') (he : M'[133 + k]? = M[133 + k]?) : MTh M0 M' g k h := by
  obtain ⟨_, _, _, r, c4, c5⟩ := hc
  exact ⟨hc'.1, hc'.2.1, hc'.2.2.1, r, c4, he.trans c5⟩
theorem nle5 {d : Nat} (h : d < 5) : ((5 : Int32) ≤ nI d) ↔ False := iff_false_intro (nI_ge h (by decide))
theorem nle5e : ((5 : Int32) ≤ nI 5) ↔ True := iff_true_intro (by decide +kernel)
theorem nle4e : ((4 : Int32) ≤ nI 4) ↔ True := iff_true_intro (by decide +kernel)
set_option maxHeartbeats 4000000 in
theorem W187 (hg : SGOK g) {aim A B z9 : Int32} (haim : aim = 0 ∨ aim = 1 ∨ aim = 2 ∨ aim = 3 ∨ aim = 4) : ∀ (f n nn e y : Nat) (h : HV) (M : mm_M) (σ : St) (Q : Option Value → mm_M → Prop), (∃ x, GT x (hU h) ∧ rk x.1 ≤ f + 2) → Th (gN g) h → nn + f ≤ 4 → MTh M0 M g nn h → OA M (oG g, (aim, A, B), σ, z9) → (∀ M', MTh M0 M' g nn h → (∀ j, j ≤ nn → M'[133 + j]? = M[133 + j]?) → OA M' (oG g, (aim, A, B), (nds q4 (gN g).1 f nn e y (hU h)).foldl (mV aim A B (sCv (gN g).1) (gT g)) σ, z9) → Q none M') → Wp scr (n + 8 + f) 187 [.ref 129, .int (nI nn), .int (nI y), .int (nI e)] M Q := by
  have hTl := hg.2.2.1.1
  obtain ⟨c, hc8, hcv⟩ := gCv hg
  intro f
  induction f with
  | zero =>
    intro n nn e y h M σ Q hx ht hnn hm hO hQ
    obtain ⟨x, hG, hrk⟩ := hx
    obtain ⟨r, hR, hA⟩ := hm.2.2.2
    have hcc : sCv h.1 = nI c := by rw [ht.2.2.2.2.2.1]; exact hcv
    have w188 : ∀ Q : Option Value → mm_M → Prop, Wp scr (n + 7) 188 [.ref 129, .ref (133 + nn), .int (nI nn), .int (nI y), .int (nI e)] M Q ↔ Q none (so M (oG g, (aim, A, B), mtV aim A B (nI c) (gT g) (nI nn) (nI y) (nI e) (hU h) σ, z9)) := fun Q => W188 (n := n + 1) haim hO hA hR hG (MT hm.2.2.1) hTl hcc hc8
    simp only [e187, u187_0, u187_1, u187_2, u187_5, u187_6, u187_7, u187_8, u187_9, u187_10, u187_13, u187_14, mw_os, wp_ite, mw_sw, Option.toList_some, Option.toList_none, List.cons_append, List.nil_append, true_and, and_true, if_true, if_false, mw_s_, mw_s_i, mw_s_r, mw_s_ii, mw_s_ir, mw_s_ri, mw_s_rr, mw_s_iii, mw_s_iir, mw_s_iri, mw_s_irr, mw_s_rii, mw_s_rir, mw_s_rri, mw_s_rrr, mw_s_iiii, mw_s_iiir, mw_s_iiri, mw_s_iirr, mw_s_irii, mw_s_irir, mw_s_irri, mw_s_irrr, mw_s_riii, mw_s_riir, mw_s_riri, mw_s_rirr, mw_s_rrii, mw_s_rrir, mw_s_rrri, mw_s_rrrr, mm_sto1, mm_clr, mm_isL, List.getElem?_cons_zero, List.getElem?_cons_succ, List.set_cons_zero, List.set_cons_succ, Bool.false_eq_true, OA_2 hO, DPk hm.2.2.1 (show nn < 6 by omega), OA_x hO, w188]
    have hO1 : OA (so M (oG g, (aim, A, B), mtV aim A B (nI c) (gT g) (nI nn) (nI y) (nI e) (hU h) σ, z9)) (oG g, (aim, A, B), mtV aim A B (nI c) (gT g) (nI nn) (nI y) (nI e) (hU h) σ, z9) := so_OA hO
    have hm1 := MTh_so (x := ((aim, A, B), mtV aim A B (nI c) (gT g) (nI nn) (nI y) (nI e) (hU h) σ, z9)) hm
    have hk1 : ∀ j, j ≤ nn → (so M (oG g, (aim, A, B), mtV aim A B (nI c) (gT g) (nI nn) (nI y) (nI e) (hU h) σ, z9))[133 + j]? = M[133 + j]? := fun j hj => so_ne (by omega)
    have hQ1 := hQ _ hm1 hk1 (by rw [hcv]; exact hO1)
    have lines : ∀ (k l : Nat), 1 ≤ l → l + k = 5 → ∀ l5 l6, wp scr (n + 7) mb_187 16 [some (.ref 129), some (.int (nI nn)), some (.int (nI y)), some (.int (nI e)), some (.int (nI l)), l5, l6] [] (so M (oG g, (aim, A, B), mtV aim A B (nI c) (gT g) (nI nn) (nI y) (nI e) (hU h) σ, z9)) Q := by
      intro k
      induction k with
      | zero =>
        intro l h1 hl l5 l6
        have : l = 5 := by omega
        subst this
        refine u187_16.mpr ?_
        simp only [u187_18, u187_19, u187_116, mw_os, wp_ite, mw_sw, Option.toList_some, Option.toList_none, List.cons_append, List.nil_append, true_and, and_true, if_true, if_false, mw_s_, mw_s_i, mw_s_r, mw_s_ii, mw_s_ir, mw_s_ri, mw_s_rr, mw_s_iii, mw_s_iir, mw_s_iri, mw_s_irr, mw_s_rii, mw_s_rir, mw_s_rri, mw_s_rrr, mw_s_iiii, mw_s_iiir, mw_s_iiri, mw_s_iirr, mw_s_irii, mw_s_irir, mw_s_irri, mw_s_irrr, mw_s_riii, mw_s_riir, mw_s_riri, mw_s_rirr, mw_s_rrii, mw_s_rrir, mw_s_rrri, mw_s_rrrr, nle5e]
        exact hQ1
      | succ k ih =>
        intro l h1 hl l5 l6
        have h40 : ((4 : Int32) ≤ 0) ↔ False := by decide
        have hno := hasL_0 hG (by omega) l h1 (by omega)
        have w150 : ∀ Q : Option Value → mm_M → Prop, Wp scr (n + 7) 150 [.ref (133 + nn), .int (nI l)] (so M (oG g, (aim, A, B), mtV aim A B (nI c) (gT g) (nI nn) (nI y) (nI e) (hU h) σ, z9)) Q ↔ Q (some (.int 0)) (so M (oG g, (aim, A, B), mtV aim A B (nI c) (gT g) (nI nn) (nI y) (nI e) (hU h) σ, z9)) := fun Q => by
          have := MT150 (scr := scr) (n := n + 5) (Q := Q) (x1 := nI l) hm1 ht.1
          rw [hno] at this
          exact this
        refine u187_16.mpr ?_
        simp only [u187_18, u187_19, u187_22, u187_23, u187_25, u187_27, u187_28, u187_31, u187_32, u187_35, u187_36, u187_37, u187_39, u187_42, u187_110, u187_113, mw_os, wp_ite, mw_sw, Option.toList_some, Option.toList_none, List.cons_append, List.nil_append, true_and, and_true, if_true, if_false, mw_s_, mw_s_i, mw_s_r, mw_s_ii, mw_s_ir, mw_s_ri, mw_s_rr, mw_s_iii, mw_s_iir, mw_s_iri, mw_s_irr, mw_s_rii, mw_s_rir, mw_s_rri, mw_s_rrr, mw_s_iiii, mw_s_iiir, mw_s_iiri, mw_s_iirr, mw_s_irii, mw_s_irir, mw_s_irri, mw_s_irrr, mw_s_riii, mw_s_riir, mw_s_riri, mw_s_rirr, mw_s_rrii, mw_s_rrir, mw_s_rrri, mw_s_rrrr, mm_sto1, mm_clr, mm_isL, List.getElem?_cons_zero, List.getElem?_cons_succ, List.set_cons_zero, List.set_cons_succ, Bool.false_eq_true, nle5 (show l < 5 by omega), h40, OA_2 hO1, DPk hm1.2.2.1 (show nn < 6 by omega), w150, nI_1]
        exact ih (l + 1) (by omega) (by omega) _ _
    exact lines 4 1 (by omega) rfl none none
  | succ f ih =>
    intro n nn e y h M σ Q hx ht hnn hm hO hQ
    obtain ⟨x, hG, hrk⟩ := hx
    obtain ⟨r, hR, hA⟩ := hm.2.2.2
    have hF9 : ∀ i, i < 10 → rgI (gi (sF (gN g).1) (nI i)) 9 := fun i hi => (hg.1.2.2.2.2.2.2 i hi).2.1
    have hcc : sCv h.1 = nI c := by rw [ht.2.2.2.2.2.1]; exact hcv
    have w188 : ∀ Q : Option Value → mm_M → Prop, Wp scr (n + 8 + f) 188 [.ref 129, .ref (133 + nn), .int (nI nn), .int (nI y), .int (nI e)] M Q ↔ Q none (so M (oG g, (aim, A, B), mtV aim A B (nI c) (gT g) (nI nn) (nI y) (nI e) (hU h) σ, z9)) := fun Q => by
      rw [show n + 8 + f = (n + 2 + f) + 6 by omega]
      exact W188 haim hO hA hR hG (MT hm.2.2.1) hTl hcc hc8
    rw [show n + 8 + (f + 1) = (n + 8 + f) + 1 by omega]
    simp only [e187, u187_0, u187_1, u187_2, u187_5, u187_6, u187_7, u187_8, u187_9, u187_10, u187_13, u187_14, mw_os, wp_ite, mw_sw, Option.toList_some, Option.toList_none, List.cons_append, List.nil_append, true_and, and_true, if_true, if_false, mw_s_, mw_s_i, mw_s_r, mw_s_ii, mw_s_ir, mw_s_ri, mw_s_rr, mw_s_iii, mw_s_iir, mw_s_iri, mw_s_irr, mw_s_rii, mw_s_rir, mw_s_rri, mw_s_rrr, mw_s_iiii, mw_s_iiir, mw_s_iiri, mw_s_iirr, mw_s_irii, mw_s_irir, mw_s_irri, mw_s_irrr, mw_s_riii, mw_s_riir, mw_s_riri, mw_s_rirr, mw_s_rrii, mw_s_rrir, mw_s_rrri, mw_s_rrrr, mm_sto1, mm_clr, mm_isL, List.getElem?_cons_zero, List.getElem?_cons_succ, List.set_cons_zero, List.set_cons_succ, Bool.false_eq_true, OA_2 hO, DPk hm.2.2.1 (show nn < 6 by omega), OA_x hO, w188]
    rw [nds_fold] at hQ
    have hm1 := MTh_so (x := ((aim, A, B), mtV aim A B (nI c) (gT g) (nI nn) (nI y) (nI e) (hU h) σ, z9)) hm
    have hk1 : ∀ j, j ≤ nn → (so M (oG g, (aim, A, B), mtV aim A B (nI c) (gT g) (nI nn) (nI y) (nI e) (hU h) σ, z9))[133 + j]? = M[133 + j]? := fun j hj => so_ne (by omega)
    have hO1 : OA (so M (oG g, (aim, A, B), mtV aim A B (nI c) (gT g) (nI nn) (nI y) (nI e) (hU h) σ, z9)) (oG g, (aim, A, B), mV aim A B (sCv (gN g).1) (gT g) σ (nn, e, y, hU h), z9) := by
      rw [hcv]; exact so_OA hO
    generalize so M (oG g, (aim, A, B), mtV aim A B (nI c) (gT g) (nI nn) (nI y) (nI e) (hU h) σ, z9) = M1 at hm1 hk1 hO1
    generalize mV aim A B (sCv (gN g).1) (gT g) σ (nn, e, y, hU h) = σ1 at hO1 hQ
    have inner : ∀ (l : Nat), 1 ≤ l → l ≤ 4 → hasL (hU h) (nI l) = true → ∀ (k hw : Nat), hw + k = 4 → ∀ (M2 : mm_M) (σ2 : St), MTh M0 M2 g nn h → (∀ j, j ≤ nn → M2[133 + j]? = M[133 + j]?) → OA M2 (oG g, (aim, A, B), σ2, z9) → (∀ M3 l5 l6, MTh M0 M3 g nn h → (∀ j, j ≤ nn → M3[133 + j]? = M[133 + j]?) → OA M3 (oG g, (aim, A, B), (List.range' hw k).foldl (fun s i => (nds q4 (gN g).1 f (nn + 1) (e + tn (gN g).1 (fC (hU h) (nI l) (nI i))) (100 * y + 10 * l + i) (fC (hU h) (nI l) (nI i))).foldl (mV aim A B (sCv (gN g).1) (gT g)) s) σ2, z9) → wp scr (n + 8 + f) mb_187 110 [some (.ref 129), some (.int (nI nn)), some (.int (nI y)), some (.int (nI e)), some (.int (nI l)), l5, l6] [] M3 Q) → ∀ l6, wp scr (n + 8 + f) mb_187 25 [some (.ref 129), some (.int (nI nn)), some (.int (nI y)), some (.int (nI e)), some (.int (nI l)), some (.int (nI hw)), l6] [] M2 Q := by
      intro l hl1 hl4 hhl k
      induction k with
      | zero =>
        intro hw hk M2 σ2 hm2 hk2 hO2 cont l6
        have : hw = 4 := by omega
        subst this
        refine u187_25.mpr ?_
        simp only [u187_27, u187_28, mw_os, wp_ite, mw_sw, Option.toList_some, Option.toList_none, List.cons_append, List.nil_append, true_and, and_true, if_true, if_false, mw_s_, mw_s_i, mw_s_r, mw_s_ii, mw_s_ir, mw_s_ri, mw_s_rr, mw_s_iii, mw_s_iir, mw_s_iri, mw_s_irr, mw_s_rii, mw_s_rir, mw_s_rri, mw_s_rrr, mw_s_iiii, mw_s_iiir, mw_s_iiri, mw_s_iirr, mw_s_irii, mw_s_irir, mw_s_irri, mw_s_irrr, mw_s_riii, mw_s_riir, mw_s_riri, mw_s_rirr, mw_s_rrii, mw_s_rrir, mw_s_rrri, mw_s_rrrr, nle4e]
        exact cont M2 _ _ hm2 hk2 hO2
      | succ k ihk =>
        intro hw hk M2 σ2 hm2 hk2 hO2 cont l6
        have hw4 : hw < 4 := by omega
        have w150 : ∀ Q : Option Value → mm_M → Prop, Wp scr (n + 8 + f) 150 [.ref (133 + nn), .int (nI l)] M2 Q ↔ Q (some (.int 1)) M2 := fun Q => by
          have := MT150 (scr := scr) (n := n + 6 + f) (Q := Q) (x1 := nI l) hm2 ht.1
          rw [hhl] at this
          rw [show n + 8 + f = n + 6 + f + 2 by omega]
          exact this
        refine u187_25.mpr ?_
        simp only [u187_27, u187_28, u187_31, u187_32, u187_35, u187_36, u187_37, u187_39, u187_42, u187_45, u187_46, u187_49, u187_50, u187_51, u187_52, u187_55, u187_56, u187_57, u187_58, u187_59, mw_os, wp_ite, mw_sw, Option.toList_some, Option.toList_none, List.cons_append, List.nil_append, true_and, and_true, if_true, if_false, mw_s_, mw_s_i, mw_s_r, mw_s_ii, mw_s_ir, mw_s_ri, mw_s_rr, mw_s_iii, mw_s_iir, mw_s_iri, mw_s_irr, mw_s_rii, mw_s_rir, mw_s_rri, mw_s_rrr, mw_s_iiii, mw_s_iiir, mw_s_iiri, mw_s_iirr, mw_s_irii, mw_s_irir, mw_s_irri, mw_s_irrr, mw_s_riii, mw_s_riir, mw_s_riri, mw_s_rirr, mw_s_rrii, mw_s_rrir, mw_s_rrri, mw_s_rrrr, mm_sto1, mm_clr, mm_isL, List.getElem?_cons_zero, List.getElem?_cons_succ, List.set_cons_zero, List.set_cons_succ, Bool.false_eq_true, nle4 hw4, OA_2 hO2, DPk hm2.2.2.1 (show nn < 6 by omega), w150, i10, nI_1, DPk hm2.2.2.1 (show nn + 1 < 6 by omega)]
        rw [show n + 8 + f = (n + 7 + f) + 1 by omega]
        refine MT147d hm2 (by omega) (fun M3 hm3 hm3' hk3 ho3 => ?_)
        have hO3 : OA M3 (oG g, (aim, A, B), σ2, z9) := ho3.trans hO2
        simp only [u187_62, u187_63, u187_64, u187_67, u187_68, u187_69, u187_70, u187_71, u187_73, u187_75, mw_os, wp_ite, mw_sw, Option.toList_some, Option.toList_none, List.cons_append, List.nil_append, true_and, and_true, if_true, if_false, mw_s_, mw_s_i, mw_s_r, mw_s_ii, mw_s_ir, mw_s_ri, mw_s_rr, mw_s_iii, mw_s_iir, mw_s_iri, mw_s_irr, mw_s_rii, mw_s_rir, mw_s_rri, mw_s_rrr, mw_s_iiii, mw_s_iiir, mw_s_iiri, mw_s_iirr, mw_s_irii, mw_s_irir, mw_s_irri, mw_s_irrr, mw_s_riii, mw_s_riir, mw_s_riri, mw_s_rirr, mw_s_rrii, mw_s_rrir, mw_s_rrri, mw_s_rrrr, mm_sto1, mm_clr, mm_isL, List.getElem?_cons_zero, List.getElem?_cons_succ, List.set_cons_zero, List.set_cons_succ, Bool.false_eq_true, OA_2 hO3, nI_1, DPk hm3.2.2.1 (show nn + 1 < 6 by omega), OA_x hO3]
        rw [show n + 7 + f + 1 = (n + 4 + f) + 4 by omega]
        refine MT152 hm3 (by omega) ht.1 hl1 hl4 hhl hw4 (fun M4 hm4 hk4 ho4 => ?_)
        have hO4 : OA M4 (oG g, (aim, A, B), σ2, z9) := ho4.trans hO3
        obtain ⟨t1, t2⟩ := tn_eq (v := (gN g).1) (x := fC (hU h) (nI l) (nI hw)) hF9
        have ew : 100 * nI y + 10 * nI l + nI hw = nI (100 * y + 10 * l + hw) := by
          rw [show (100 : Int32) * nI y = nI (100 * y) from pk_mul 100 y, show (10 : Int32) * nI l = nI (10 * l) from pk_mul 10 l, nI_add, nI_add]
        rw [Th_tf ht hl1 hl4 hhl hw4, t1]
        simp only [u187_78, u187_80, u187_81, u187_82, u187_83, u187_84, u187_86, u187_87, u187_88, u187_90, u187_92, u187_93, u187_94, u187_96, u187_97, u187_98, u187_100, u187_101, mw_os, wp_ite, mw_sw, Option.toList_some, Option.toList_none, List.cons_append, List.nil_append, true_and, and_true, if_true, if_false, mw_s_, mw_s_i, mw_s_r, mw_s_ii, mw_s_ir, mw_s_ri, mw_s_rr, mw_s_iii, mw_s_iir, mw_s_iri, mw_s_irr, mw_s_rii, mw_s_rir, mw_s_rri, mw_s_rrr, mw_s_iiii, mw_s_iiir, mw_s_iiri, mw_s_iirr, mw_s_irii, mw_s_irir, mw_s_irri, mw_s_irrr, mw_s_riii, mw_s_riir, mw_s_riri, mw_s_rirr, mw_s_rrii, mw_s_rrir, mw_s_rrri, mw_s_rrrr, mm_sto1, mm_clr, mm_isL, List.getElem?_cons_zero, List.getElem?_cons_succ, List.set_cons_zero, List.set_cons_succ, Bool.false_eq_true, OA_x hO4, nI_1, ew, nI_add]
        rw [show n + 4 + f + 4 = n + 8 + f by omega]
        obtain ⟨y', hy', hyc, _⟩ := GT_sx hG hl1 hl4 hhl hw4
        obtain ⟨_, _, _, kk⟩ := GT_L hG hl1 hl4 hhl
        obtain ⟨y2, hy2, _, hr2, _⟩ := kk hw hw4
        refine ih n (nn + 1) _ _ (hF h (nI l) (nI hw)) M4 σ2 _ ⟨y2, by rw [hF_U]; exact hy2, by omega⟩ (Th_F ht hl1 hl4 hhl hw4) (by omega) hm4 hO4 (fun M5 hm5 hk5 hO5 => ?_)
        simp only [u187_104, u187_107, mw_os, wp_ite, mw_sw, Option.toList_some, Option.toList_none, List.cons_append, List.nil_append, true_and, and_true, if_true, if_false, mw_s_, mw_s_i, mw_s_r, mw_s_ii, mw_s_ir, mw_s_ri, mw_s_rr, mw_s_iii, mw_s_iir, mw_s_iri, mw_s_irr, mw_s_rii, mw_s_rir, mw_s_rri, mw_s_rrr, mw_s_iiii, mw_s_iiir, mw_s_iiri, mw_s_iirr, mw_s_irii, mw_s_irir, mw_s_irri, mw_s_irrr, mw_s_riii, mw_s_riir, mw_s_riri, mw_s_rirr, mw_s_rrii, mw_s_rrir, mw_s_rrri, mw_s_rrrr, mm_sto1, mm_clr, mm_isL, List.getElem?_cons_zero, List.getElem?_cons_succ, List.set_cons_zero, List.set_cons_succ, Bool.false_eq_true, nI_1]
        rw [hF_U] at hO5
        have hk5' : ∀ j, j ≤ nn → M5[133 + j]? = M[133 + j]? := fun j hj => (hk5 j (by omega)).trans ((hk4 j (by omega) (by omega)).trans ((hk3 j hj).trans (hk2 j hj)))
        refine ihk (hw + 1) (by omega) M5 _ (MT_keep hm hm5 (hk5' nn (Nat.le_refl _))) hk5' hO5 ?_ _
        intro M6 l5 l6' hm6 hk6 hO6
        exact cont M6 l5 l6' hm6 hk6 hO6
    have lines : ∀ (k l : Nat), 1 ≤ l → l + k = 5 → ∀ (M2 : mm_M) (σ2 : St), MTh M0 M2 g nn h → (∀ j, j ≤ nn → M2[133 + j]? = M[133 + j]?) → OA M2 (oG g, (aim, A, B), σ2, z9) → (∀ M3, MTh M0 M3 g nn h → (∀ j, j ≤ nn → M3[133 + j]? = M[133 + j]?) → OA M3 (oG g, (aim, A, B), (List.range' l k).foldl (fun s l => if hasL (hU h) (nI l) = true then (List.range' 0 (q4 (hU h))).foldl (fun s i => (nds q4 (gN g).1 f (nn + 1) (e + tn (gN g).1 (fC (hU h) (nI l) (nI i))) (100 * y + 10 * l + i) (fC (hU h) (nI l) (nI i))).foldl (mV aim A B (sCv (gN g).1) (gT g)) s) s else s) σ2, z9) → Q none M3) → ∀ l5 l6, wp scr (n + 8 + f) mb_187 16 [some (.ref 129), some (.int (nI nn)), some (.int (nI y)), some (.int (nI e)), some (.int (nI l)), l5, l6] [] M2 Q := by
      intro k
      induction k with
      | zero =>
        intro l h1 hl M2 σ2 hm2 hk2 hO2 cont l5 l6
        have : l = 5 := by omega
        subst this
        refine u187_16.mpr ?_
        simp only [u187_18, u187_19, u187_116, mw_os, wp_ite, mw_sw, Option.toList_some, Option.toList_none, List.cons_append, List.nil_append, true_and, and_true, if_true, if_false, mw_s_, mw_s_i, mw_s_r, mw_s_ii, mw_s_ir, mw_s_ri, mw_s_rr, mw_s_iii, mw_s_iir, mw_s_iri, mw_s_irr, mw_s_rii, mw_s_rir, mw_s_rri, mw_s_rrr, mw_s_iiii, mw_s_iiir, mw_s_iiri, mw_s_iirr, mw_s_irii, mw_s_irir, mw_s_irri, mw_s_irrr, mw_s_riii, mw_s_riir, mw_s_riri, mw_s_rirr, mw_s_rrii, mw_s_rrir, mw_s_rrri, mw_s_rrrr, nle5e]
        exact cont M2 hm2 hk2 hO2
      | succ k ihk =>
        intro l h1 hl M2 σ2 hm2 hk2 hO2 cont l5 l6
        have h40 : ((4 : Int32) ≤ 0) ↔ False := by decide
        refine u187_16.mpr ?_
        rw [show List.range' l (k + 1) = l :: List.range' (l + 1) k from rfl, List.foldl_cons] at cont
        cases hhl : hasL (hU h) (nI l)
        · have w150 : ∀ Q : Option Value → mm_M → Prop, Wp scr (n + 8 + f) 150 [.ref (133 + nn), .int (nI l)] M2 Q ↔ Q (some (.int 0)) M2 := fun Q => by
            have := MT150 (scr := scr) (n := n + 6 + f) (Q := Q) (x1 := nI l) hm2 ht.1
            rw [hhl] at this
            rw [show n + 8 + f = n + 6 + f + 2 by omega]
            exact this
          rw [hhl, if_neg (by decide)] at cont
          simp only [u187_18, u187_19, u187_22, u187_23, u187_25, u187_27, u187_28, u187_31, u187_32, u187_35, u187_36, u187_37, u187_39, u187_42, u187_110, u187_113, mw_os, wp_ite, mw_sw, Option.toList_some, Option.toList_none, List.cons_append, List.nil_append, true_and, and_true, if_true, if_false, mw_s_, mw_s_i, mw_s_r, mw_s_ii, mw_s_ir, mw_s_ri, mw_s_rr, mw_s_iii, mw_s_iir, mw_s_iri, mw_s_irr, mw_s_rii, mw_s_rir, mw_s_rri, mw_s_rrr, mw_s_iiii, mw_s_iiir, mw_s_iiri, mw_s_iirr, mw_s_irii, mw_s_irir, mw_s_irri, mw_s_irrr, mw_s_riii, mw_s_riir, mw_s_riri, mw_s_rirr, mw_s_rrii, mw_s_rrir, mw_s_rrri, mw_s_rrrr, mm_sto1, mm_clr, mm_isL, List.getElem?_cons_zero, List.getElem?_cons_succ, List.set_cons_zero, List.set_cons_succ, Bool.false_eq_true, nle5 (show l < 5 by omega), h40, OA_2 hO2, DPk hm2.2.2.1 (show nn < 6 by omega), w150, nI_1]
          exact ihk (l + 1) (by omega) (by omega) M2 σ2 hm2 hk2 hO2 cont _ _
        · rw [hhl, if_pos rfl] at cont
          simp only [u187_18, u187_19, u187_22, u187_23, mw_os, wp_ite, mw_sw, Option.toList_some, Option.toList_none, List.cons_append, List.nil_append, true_and, and_true, if_true, if_false, mw_s_, mw_s_i, mw_s_r, mw_s_ii, mw_s_ir, mw_s_ri, mw_s_rr, mw_s_iii, mw_s_iir, mw_s_iri, mw_s_irr, mw_s_rii, mw_s_rir, mw_s_rri, mw_s_rrr, mw_s_iiii, mw_s_iiir, mw_s_iiri, mw_s_iirr, mw_s_irii, mw_s_irir, mw_s_irri, mw_s_irrr, mw_s_riii, mw_s_riir, mw_s_riri, mw_s_rirr, mw_s_rrii, mw_s_rrir, mw_s_rrri, mw_s_rrrr, mm_sto1, mm_clr, mm_isL, List.getElem?_cons_zero, List.getElem?_cons_succ, List.set_cons_zero, List.set_cons_succ, Bool.false_eq_true, nle5 (show l < 5 by omega)]
          refine inner l h1 (by omega) hhl 4 0 rfl M2 σ2 hm2 hk2 hO2 (fun M3 l5' l6' hm3 hk3 hO3 => ?_) l6
          simp only [u187_110, u187_113, mw_os, wp_ite, mw_sw, Option.toList_some, Option.toList_none, List.cons_append, List.nil_append, true_and, and_true, if_true, if_false, mw_s_, mw_s_i, mw_s_r, mw_s_ii, mw_s_ir, mw_s_ri, mw_s_rr, mw_s_iii, mw_s_iir, mw_s_iri, mw_s_irr, mw_s_rii, mw_s_rir, mw_s_rri, mw_s_rrr, mw_s_iiii, mw_s_iiir, mw_s_iiri, mw_s_iirr, mw_s_irii, mw_s_irir, mw_s_irri, mw_s_irrr, mw_s_riii, mw_s_riir, mw_s_riri, mw_s_rirr, mw_s_rrii, mw_s_rrir, mw_s_rrri, mw_s_rrrr, mm_sto1, mm_clr, mm_isL, List.getElem?_cons_zero, List.getElem?_cons_succ, List.set_cons_zero, List.set_cons_succ, Bool.false_eq_true, nI_1]
          exact ihk (l + 1) (by omega) (by omega) M3 _ hm3 hk3 hO3 cont _ _
    exact lines 4 1 (by omega) rfl M1 σ1 hm1 hk1 hO1 hQ none none
/-- the map now is copied to a deep row; the object stays -/
theorem MT147o {n : Nat} {Q : Option Value → mm_M → Prop} (hl : M.length = M0.length) (ha : Ag M0 M 0 129) (hc : MS M g) (hk : k < 6) (hQ : ∀ M', MTh M0 M' g k (gN g) → M'[129]? = M[129]? → Q none M') : Wp scr (n + 1) 147 [.ref 130, .ref (133 + k)] M Q := by
  obtain ⟨r, hR, hA⟩ := hc.2.1
  obtain ⟨w, hw, hB⟩ := hc.2.2.2.2.1 k hk
  rw [W147 (by omega) hA hB (rowL_len hR.1) hw]
  exact hQ _ ⟨sr_len.trans hl, Ag_tr ha (Ag_sr (by omega)), MS_deep hc hk (rowL_len hR.1), r, hR, sr_RA (RA_lt hB)⟩ (sr_ne (by omega))
theorem W186 {n : Nat} {Q : Option Value → mm_M → Prop} {aim A B : Int32} (hg : SGOK g) (haim : aim = 0 ∨ aim = 1 ∨ aim = 2 ∨ aim = 3 ∨ aim = 4) (hC : MS M g) (hQ : ∀ M' z9, M'.length = M.length → Ag M M' 0 129 → MS M' g → OA M' (oG g, (aim, A, B), (nds q4 (gN g).1 4 0 0 0 (gU g)).foldl (mV aim A B (sCv (gN g).1) (gT g)) (-9, -9, -9, 0), z9) → Q none M') : Wp scr (n + 13) 186 [.ref 129, .int aim, .int A, .int B] M Q := by
  obtain ⟨⟨b, ⟨bw, be, fw, mm⟩, z9⟩, hO⟩ := MS_oG hC
  obtain ⟨ba, bA, bB⟩ := b
  have p1 : mm_put mc_fty M (.ref 129) (.int aim) 6 11 = some (so M (oG g, (aim, bA, bB), (bw, be, fw, mm), z9)) := OA_pu11 hO
  have p2 : mm_put mc_fty (so M (oG g, (aim, bA, bB), (bw, be, fw, mm), z9)) (.ref 129) (.int A) 6 12 = some (so M (oG g, (aim, A, bB), (bw, be, fw, mm), z9)) := (OA_pu12 (so_OA hO)).trans (by rw [so_so])
  have p3 : mm_put mc_fty (so M (oG g, (aim, A, bB), (bw, be, fw, mm), z9)) (.ref 129) (.int B) 6 13 = some (so M (oG g, (aim, A, B), (bw, be, fw, mm), z9)) := (OA_pu13 (so_OA hO)).trans (by rw [so_so])
  have p4 : mm_put mc_fty (so M (oG g, (aim, A, B), (bw, be, fw, mm), z9)) (.ref 129) (.int (-9)) 6 14 = some (so M (oG g, (aim, A, B), (-9, be, fw, mm), z9)) := (OA_pu14 (so_OA hO)).trans (by rw [so_so]; rfl)
  have p5 : mm_put mc_fty (so M (oG g, (aim, A, B), (-9, be, fw, mm), z9)) (.ref 129) (.int (-9)) 6 15 = some (so M (oG g, (aim, A, B), (-9, -9, fw, mm), z9)) := (OA_pu15 (so_OA hO)).trans (by rw [so_so]; rfl)
  have p6 : mm_put mc_fty (so M (oG g, (aim, A, B), (-9, -9, fw, mm), z9)) (.ref 129) (.int (-9)) 6 16 = some (so M (oG g, (aim, A, B), (-9, -9, -9, mm), z9)) := (OA_pu16 (so_OA hO)).trans (by rw [so_so]; rfl)
  have p7 : mm_put mc_fty (so M (oG g, (aim, A, B), (-9, -9, -9, mm), z9)) (.ref 129) (.int 0) 6 17 = some (so M (oG g, (aim, A, B), (-9, -9, -9, 0), z9)) := (OA_pu17 (so_OA hO)).trans (by rw [so_so]; rfl)
  have hO1 : OA (so M (oG g, (aim, A, B), (-9, -9, -9, 0), z9)) (oG g, (aim, A, B), (-9, -9, -9, 0), z9) := so_OA hO
  have hC1 : MS (so M (oG g, (aim, A, B), (-9, -9, -9, 0), z9)) g := MS_so hC
  have d0 : mm_lda (so M (oG g, (aim, A, B), (-9, -9, -9, 0), z9)) 132 0 = some (.ref 133) := DPk (k := 0) hC1 (by decide)
  simp only [e186, u186_0, u186_1, u186_2, u186_5, u186_6, u186_7, u186_10, u186_11, u186_12, u186_15, u186_16, u186_18, u186_21, u186_22, u186_24, u186_27, u186_28, u186_30, u186_33, u186_34, u186_35, u186_38, u186_39, u186_42, u186_43, u186_46, u186_47, u186_48, u186_52, u186_53, u186_54, u186_55, u186_58, mw_os, wp_ite, mw_sw, Option.toList_some, Option.toList_none, List.cons_append, List.nil_append, true_and, and_true, if_true, if_false, mw_s_, mw_s_i, mw_s_r, mw_s_ii, mw_s_ir, mw_s_ri, mw_s_rr, mw_s_iii, mw_s_iir, mw_s_iri, mw_s_irr, mw_s_rii, mw_s_rir, mw_s_rri, mw_s_rrr, mw_s_iiii, mw_s_iiir, mw_s_iiri, mw_s_iirr, mw_s_irii, mw_s_irir, mw_s_irri, mw_s_irrr, mw_s_riii, mw_s_riir, mw_s_riri, mw_s_rirr, mw_s_rrii, mw_s_rrir, mw_s_rrri, mw_s_rrrr, mm_sto1, mm_clr, mm_isL, List.getElem?_cons_zero, List.getElem?_cons_succ, List.set_cons_zero, List.set_cons_succ, Bool.false_eq_true, p1, p2, p3, p4, p5, p6, p7, OA_0 hO1, OA_2 hO1, d0]
  refine MT147o (k := 0) (n := n + 11) (M0 := M) so_len Ag_so hC1 (by decide) (fun M2 hm2 ho2 => ?_)
  have hO2 : OA M2 (oG g, (aim, A, B), (-9, -9, -9, 0), z9) := ho2.trans hO1
  simp only [u186_51, u186_52, u186_53, u186_54, u186_55, mw_os, wp_ite, mw_sw, Option.toList_some, Option.toList_none, List.cons_append, List.nil_append, true_and, and_true, if_true, if_false, mw_s_, mw_s_i, mw_s_r, mw_s_ii, mw_s_ir, mw_s_ri, mw_s_rr, mw_s_iii, mw_s_iir, mw_s_iri, mw_s_irr, mw_s_rii, mw_s_rir, mw_s_rri, mw_s_rrr, mw_s_iiii, mw_s_iiir, mw_s_iiri, mw_s_iirr, mw_s_irii, mw_s_irir, mw_s_irri, mw_s_irrr, mw_s_riii, mw_s_riir, mw_s_riri, mw_s_rirr, mw_s_rrii, mw_s_rrir, mw_s_rrri, mw_s_rrrr, mm_sto1, mm_clr, mm_isL, List.getElem?_cons_zero, List.getElem?_cons_succ, List.set_cons_zero, List.set_cons_succ, Bool.false_eq_true, OA_x hO2]
  obtain ⟨x, hG, hrk⟩ := gU_GT hg
  refine W187 hg haim 4 n 0 0 0 (gN g) M2 _ _ ⟨x, hG, by omega⟩ (Th_rf hg.1) (by omega) hm2 hO2 (fun M3 hm3 _ hO3 => ?_)
  simp only [u186_58, mw_os, wp_ite, mw_sw, Option.toList_some, Option.toList_none, List.cons_append, List.nil_append, true_and, and_true, if_true, if_false, mw_s_, mw_s_i, mw_s_r, mw_s_ii, mw_s_ir, mw_s_ri, mw_s_rr, mw_s_iii, mw_s_iir, mw_s_iri, mw_s_irr, mw_s_rii, mw_s_rir, mw_s_rri, mw_s_rrr, mw_s_iiii, mw_s_iiir, mw_s_iiri, mw_s_iirr, mw_s_irii, mw_s_irir, mw_s_irri, mw_s_irrr, mw_s_riii, mw_s_riir, mw_s_riri, mw_s_rirr, mw_s_rrii, mw_s_rrir, mw_s_rrri, mw_s_rrrr]
  exact hQ M3 z9 hm3.1 hm3.2.1 hm3.2.2.1 hO3
end SK2
