/-! the search itself -/
def LYK : Nat → LV → Prop
  | 0, u => LOK u ∧ ∀ l, 1 ≤ l → l ≤ 4 → hasL u (nI l) = false
  | f + 1, u => LOK u ∧ ∀ l, 1 ≤ l → l ≤ 4 → hasL u (nI l) = true → MOK u (bfR (nI l)) (bfC (nI l)) ∧ ∀ h, h < 4 → LYK f (fC u (nI l) (nI h))
theorem LYK_ok {f : Nat} {u : LV} (h : LYK f u) : LOK u := by
  cases f with
  | zero => exact h.1
  | succ f => exact h.1
def exHit (w : SV) (u : LV) (made : Nat) (eff way : Int32) (τ : QV) : QV :=
  if qRe τ u (sCv w) = true then qOf (tH τ ((qH τ).set made (gi (qH τ) (nI made) + 1))) (if qG τ = 1 then nI made else if qG τ = 3 then 8 - bcI (vRs u &&& qS τ) else eff) way else τ
def exW (u : LV) (g : Int32) : Nat := if g = 4 ∧ vW u * vT u = 2 then 4 else 2
def exV (w : SV) : Nat → LV → Nat → Int32 → Int32 → QV → QV
  | 0, u, made, eff, way, τ => exHit w u made eff way τ
  | f + 1, u, made, eff, way, τ =>
    let τ1 := exHit w u made eff way τ
    if qHo τ1 eff = true then τ1 else
      (List.range' 1 4).foldl (fun τ l => if hasL u (nI l) = true then (List.range' 0 (exW u (qG τ1))).foldl (fun τ h => exV w f (fC u (nI l) (nI h)) (made + 1) (eff + tfE w (fC u (nI l) (nI h))) (100 * way + 10 * nI l + nI h) τ) τ else τ) τ1
def Same (τ τ' : QV) : Prop := qG τ' = qG τ ∧ qP τ' = qP τ ∧ qS τ' = qS τ ∧ qW τ' = qW τ ∧ (qH τ').length = (qH τ).length
theorem Same.rf {τ : QV} : Same τ τ := ⟨rfl, rfl, rfl, rfl, rfl⟩
theorem Same.tr {a b c : QV} (h : Same a b) (h2 : Same b c) : Same a c := ⟨h2.1.trans h.1, h2.2.1.trans h.2.1, h2.2.2.1.trans h.2.2.1, h2.2.2.2.1.trans h.2.2.2.1, h2.2.2.2.2.trans h.2.2.2.2⟩
theorem Same.ok {a b : QV} (h : Same a b) (ha : QOK a) : QOK b := ⟨by rw [h.2.2.2.1]; exact ha.1, by rw [h.2.2.2.2]; exact ha.2⟩
theorem qOf_same {v : QV} {c y : Int32} : Same v (qOf v c y) := by
  unfold qOf
  split
  · exact ⟨rfl, rfl, rfl, rfl, rfl⟩
  · exact Same.rf
theorem exHit_same {w : SV} {u : LV} {made : Nat} {eff way : Int32} {τ : QV} : Same τ (exHit w u made eff way τ) := by
  unfold exHit
  by_cases h : qRe τ u (sCv w) = true
  · rw [if_pos h]
    exact Same.tr (b := tH τ ((qH τ).set made (gi (qH τ) (nI made) + 1))) ⟨rfl, rfl, rfl, rfl, List.length_set⟩ qOf_same
  · rw [if_neg h]
    exact Same.rf
theorem fold_same {α : Type} {l : List α} {g : QV → α → QV} (h : ∀ τ a, Same τ (g τ a)) : ∀ τ, Same τ (l.foldl g τ) := by
  induction l with
  | nil => intro τ; exact Same.rf
  | cons x l ih => intro τ; rw [List.foldl_cons]; exact (h τ x).tr (ih _)
theorem exV_same {w : SV} : ∀ (f : Nat) {u : LV} {made : Nat} {eff way : Int32} {τ : QV}, Same τ (exV w f u made eff way τ) := by
  intro f
  induction f with
  | zero => intro u made eff way τ; exact exHit_same
  | succ f ih =>
    intro u made eff way τ
    simp only [exV]
    split
    · exact exHit_same
    · refine exHit_same.tr (fold_same (fun τ l => ?_) _)
      split
      · exact fold_same (fun τ h => ih) _
      · exact Same.rf
/-- M is M0 but for the Layouts above depth d and the Search's cells -/
def XR (M0 M : mm_M) (s d q : Nat) : Prop := M.length = M0.length ∧ (∀ i, ¬ (la s (d + 1) ≤ i ∧ i < la s 5) → ¬ (q ≤ i ∧ i < q + 3) → M[i]? = M0[i]?) ∧ (∀ j, d < j → j < 5 → ∃ y, LEN y ∧ LA M (la s j) y)
section EXP
variable {scr : List Int32} {s q : Nat} {w : SV}
theorem XR_SA {M0 M : mm_M} {d : Nat} {v : SV} (h : XR M0 M s d q) (hs : SA M0 s v) (hq : q + 3 ≤ s ∨ s + 40 ≤ q) : SA M s v := SA_keep hs (fun j hj => h.2.1 _ (by unfold la; omega) (by omega))
theorem XR_LA {M0 M : mm_M} {d j : Nat} {u : LV} (h : XR M0 M s d q) (hj : j ≤ d) (hd : d < 5) (hl : LA M0 (la s j) u) (hq : q + 3 ≤ s ∨ s + 40 ≤ q) : LA M (la s j) u := LA_keep hl (fun i hi => h.2.1 _ (by unfold la; omega) (by unfold la; omega))
theorem SA_pq {M : mm_M} {v : SV} {τ : QV} (h : SA M s v) (hq : q + 3 ≤ s ∨ s + 40 ≤ q) : SA (pq M q τ) s v := SA_keep h (fun j hj => pq_out (by omega))
theorem LA_pq {M : mm_M} {d : Nat} {u : LV} {τ : QV} (h : LA M (la s d) u) (hd : d < 5) (hq : q + 3 ≤ s ∨ s + 40 ≤ q) : LA (pq M q τ) (la s d) u := LA_keep h (fun j hj => pq_out (by unfold la; omega))
theorem QA_pl {M : mm_M} {d : Nat} {u : LV} {τ : QV} (h : QA M q τ) (hd : d < 5) (hq : q + 3 ≤ s ∨ s + 40 ≤ q) : QA (pl M (la s d) u) q τ := QA_keep h (fun j hj => pl_out (by unfold la; omega))
theorem nI_sub' {a b : Nat} (h : b ≤ a) : nI a - nI b = nI (a - b) := pk_sub h
/-- up to the end of the look at this very Layout -/
theorem W56h {n d d0 : Nat} {u : LV} {M : mm_M} {τ : QV} {eff way : Int32} {Q : Option Value → mm_M → Prop} (hq : q + 3 ≤ s ∨ s + 40 ≤ q) (hc : vp_in (sCv w) 8) (hN : sN w = nI d0) (hd : d < 5) (hd0 : d0 ≤ d) (hS : SA M s w) (hL : LA M (la s d) u) (hu : LOK u) (hQA : QA M q τ) (hQO : QOK τ) : Wp scr (n + 6) 56 [.ref q, .ref s, .int (nI d), .int eff, .int way] M Q ↔ wp scr (n + 5) mb_56 66 [some (.ref q), some (.ref s), some (.int (nI d)), some (.int eff), some (.int way), some (.ref (la s d)), some (.int (nI (d - d0))), none, none, none] [] (pq M q (exHit w u (d - d0) eff way τ)) Q := by
  have hM := QA_len hQA
  have h1 : (nI d < nI d0) ↔ False := iff_false_intro (nI_nlt hd0 (by omega))
  have h2 : (nI d ≤ (4 : Int32)) ↔ True := iff_true_intro (nI_le (a := d) (b := 4) (by omega) (by decide))
  have hin : vp_in (nI (d - d0)) (qH τ).length := by rw [hQO.2]; exact nI_in5 (by omega)
  have e0 : pq M q τ = M := pq_self hQA
  have st1 : ∀ x, mm_sti M (.ref (q + 2)) (nI (d - d0)) x = some (pq M q (tH τ ((qH τ).set (d - d0) x))) := fun x => by
    have := pq_stH (v := τ) (j := nI (d - d0)) (x := x) hM hin
    rw [e0, nI_clamp (by omega)] at this
    exact this
  have lq : ∀ T : QV, LA (pq M q T) (la s d) u := fun T => LA_pq hL hd hq
  have sq : ∀ T : QV, SA (pq M q T) s w := fun T => SA_pq hS hq
  have cst : ∀ (X : List Int32) (Q : Option Value → mm_M → Prop), Wp scr (n + 5) 59 [.ref q, .ref (la s d), .int (nI (d - d0)), .int eff] (pq M q (tH τ X)) Q ↔ Q (some (.int (if qG τ = 1 then nI (d - d0) else if qG τ = 3 then 8 - bcI (vRs u &&& qS τ) else eff))) (pq M q (tH τ X)) := fun X Q => W59 (v := tH τ X) (pq_QA hM) (lq _) hu
  have off : ∀ (X : List Int32) (c : Int32) (Q : Option Value → mm_M → Prop), Wp scr (n + 5) 60 [.ref q, .int c, .int way] (pq M q (tH τ X)) Q ↔ Q none (pq M q (qOf (tH τ X) c way)) := fun X c Q => W60 (n := n + 4) hM
  have rea : ∀ (Q : Option Value → mm_M → Prop), Wp scr (n + 5) 57 [.ref q, .ref s, .ref (la s d)] M Q ↔ Q (some (.int (bi (qRe τ u (sCv w))))) M := fun Q => W57 hQA hQO hL hu hS hc
  unfold exHit
  simp only [e56, u56_0, u56_1, u56_2, u56_5, u56_8, u56_9, u56_10, u56_14, u56_15, u56_18, u56_19, u56_20, u56_22, u56_23, u56_24, u56_27, u56_28, u56_30, u56_31, u56_32, u56_34, u56_37, u56_40, u56_41, u56_44, u56_46, u56_47, u56_48, u56_49, u56_50, u56_51, u56_52, u56_53, u56_55, u56_57, u56_58, u56_61, u56_63, mw_os, wp_ite, mw_sw, Option.toList_some, Option.toList_none, List.cons_append, List.nil_append, true_and, and_true, if_true, if_false, mw_s_, mw_s_i, mw_s_r, mw_s_ii, mw_s_ir, mw_s_ri, mw_s_rr, mw_s_iii, mw_s_iir, mw_s_iri, mw_s_irr, mw_s_rii, mw_s_rir, mw_s_rri, mw_s_rrr, mw_s_iiii, mw_s_iiir, mw_s_iiri, mw_s_iirr, mw_s_irii, mw_s_irir, mw_s_irri, mw_s_irrr, mw_s_riii, mw_s_riir, mw_s_riri, mw_s_rirr, mw_s_rrii, mw_s_rrir, mw_s_rrri, mw_s_rrrr, mm_sto1, mm_clr, mm_isL, List.getElem?_cons_zero, List.getElem?_cons_succ, List.set_cons_zero, List.set_cons_succ, Bool.false_eq_true, SA_4 hS, SA_0 hS, hN, h1, h2, SA_l hS hd, nI_sub' hd0, QA_x hQA, QA_1 hQA, QA_h hQA, gi_at hin, rea, st1, QA_x (pq_QA hM), cst, off, bi_eq0]
  cases hr : qRe τ u (sCv w)
  · simp [e0]
  · simp
/-- the lines, one by one; none can be folded -/
theorem W56z {n : Nat} {u : LV} {M : mm_M} {τ : QV} {eff way : Int32} {x6 : Int32} {Q : Option Value → mm_M → Prop} (hL : LA M (la s 4) u) (hQA : QA M q τ) (hS : SA M s w) (hQ : Q none M) : ∀ (k l : Nat), l + k = 5 → ∀ l8 l9, wp scr (n + 5) mb_56 78 [some (.ref q), some (.ref s), some (.int (nI 4)), some (.int eff), some (.int way), some (.ref (la s 4)), some (.int x6), some (.int (nI l)), l8, l9] [] M Q := by
  intro k
  induction k with
  | zero =>
    intro l hl l8 l9
    have : l = 5 := by omega
    subst this
    have h5 : ((4 : Int32) < nI 5) ↔ True := iff_true_intro (by decide +kernel)
    refine u56_78.mpr ?_
    simp only [u56_80, u56_81, u56_157, mw_os, wp_ite, mw_sw, Option.toList_some, Option.toList_none, List.cons_append, List.nil_append, true_and, and_true, if_true, if_false, mw_s_, mw_s_i, mw_s_r, mw_s_ii, mw_s_ir, mw_s_ri, mw_s_rr, mw_s_iii, mw_s_iir, mw_s_iri, mw_s_irr, mw_s_rii, mw_s_rir, mw_s_rri, mw_s_rrr, mw_s_iiii, mw_s_iiir, mw_s_iiri, mw_s_iirr, mw_s_irii, mw_s_irir, mw_s_irri, mw_s_irrr, mw_s_riii, mw_s_riir, mw_s_riri, mw_s_rirr, mw_s_rrii, mw_s_rrir, mw_s_rrri, mw_s_rrrr, h5]
    exact hQ
  | succ k ih =>
    intro l hl l8 l9
    have h5 : ((4 : Int32) < nI l) ↔ False := iff_false_intro (nI_nlt (a := 4) (b := l) (by omega) (by omega))
    have h40 : ((4 : Int32) ≤ 0) ↔ False := by decide
    have h20 : ((2 : Int32) ≤ 0) ↔ False := by decide
    have w62 : ∀ (Q : Option Value → mm_M → Prop), Wp scr (n + 5) 62 [.ref q, .ref (la s 4)] M Q ↔ Q (some (.int (if qG τ = 4 ∧ vW u * vT u = 2 then 4 else 2))) M := fun Q => W62 (n := n + 3) hQA hL
    have w69 : ∀ (Q : Option Value → mm_M → Prop), Wp scr (n + 5) 69 [.ref s, .int (nI 4), .int (nI l)] M Q ↔ Q (some (.int 0)) M := fun Q => W69n (n := n + 3)
    refine u56_78.mpr ?_
    have fin := ih (l + 1) (by omega)
    by_cases c : qG τ = 4 ∧ vW u * vT u = 2
    · simp only [u56_80, u56_81, u56_84, u56_85, u56_87, u56_89, u56_90, u56_92, u56_95, u56_98, u56_99, u56_100, u56_102, u56_105, u56_151, u56_154, mw_os, wp_ite, mw_sw, Option.toList_some, Option.toList_none, List.cons_append, List.nil_append, true_and, and_true, if_true, if_false, mw_s_, mw_s_i, mw_s_r, mw_s_ii, mw_s_ir, mw_s_ri, mw_s_rr, mw_s_iii, mw_s_iir, mw_s_iri, mw_s_irr, mw_s_rii, mw_s_rir, mw_s_rri, mw_s_rrr, mw_s_iiii, mw_s_iiir, mw_s_iiri, mw_s_iirr, mw_s_irii, mw_s_irir, mw_s_irri, mw_s_irrr, mw_s_riii, mw_s_riir, mw_s_riri, mw_s_rirr, mw_s_rrii, mw_s_rrir, mw_s_rrri, mw_s_rrrr, mm_sto1, mm_clr, mm_isL, List.getElem?_cons_zero, List.getElem?_cons_succ, List.set_cons_zero, List.set_cons_succ, Bool.false_eq_true, h5, QA_x hQA, SA_x hS, w62, w69, if_pos c, h40, nI_1]
      exact fin _ _
    · simp only [u56_80, u56_81, u56_84, u56_85, u56_87, u56_89, u56_90, u56_92, u56_95, u56_98, u56_99, u56_100, u56_102, u56_105, u56_151, u56_154, mw_os, wp_ite, mw_sw, Option.toList_some, Option.toList_none, List.cons_append, List.nil_append, true_and, and_true, if_true, if_false, mw_s_, mw_s_i, mw_s_r, mw_s_ii, mw_s_ir, mw_s_ri, mw_s_rr, mw_s_iii, mw_s_iir, mw_s_iri, mw_s_irr, mw_s_rii, mw_s_rir, mw_s_rri, mw_s_rrr, mw_s_iiii, mw_s_iiir, mw_s_iiri, mw_s_iirr, mw_s_irii, mw_s_irir, mw_s_irri, mw_s_irrr, mw_s_riii, mw_s_riir, mw_s_riri, mw_s_rirr, mw_s_rrii, mw_s_rrir, mw_s_rrri, mw_s_rrrr, mm_sto1, mm_clr, mm_isL, List.getElem?_cons_zero, List.getElem?_cons_succ, List.set_cons_zero, List.set_cons_succ, Bool.false_eq_true, h5, QA_x hQA, SA_x hS, w62, w69, if_neg c, h20, nI_1]
      exact fin _ _
theorem XR_rf {M : mm_M} {d : Nat} {τ τ' : QV} (h : QA M q τ) (hA : ∀ j, d < j → j < 5 → ∃ y, LEN y ∧ LA M (la s j) y) (hq : q + 3 ≤ s ∨ s + 40 ≤ q) : XR M (pq M q τ') s d q := by
  refine ⟨pq_len _ _ _, fun i _ h2 => pq_out (by omega), fun j h1 h2 => ?_⟩
  obtain ⟨y, y1, y2⟩ := hA j h1 h2
  exact ⟨y, y1, LA_pq y2 h2 hq⟩
/-- one fold more, and back -/
theorem XR_step {M Mc M' : mm_M} {d : Nat} {x : LV} (h : XR M Mc s d q) (hd : d < 4) (hx : LEN x) (hq : q + 3 ≤ s ∨ s + 40 ≤ q) (h2 : XR (pl Mc (la s (d + 1)) x) M' s (d + 1) q) (hl : LA (pl Mc (la s (d + 1)) x) (la s (d + 1)) x) : XR M M' s d q := by
  refine ⟨by rw [h2.1, pl_len, h.1], fun i h3 h4 => ?_, fun j h5 h6 => ?_⟩
  · rw [h2.2.1 i (by unfold la at h3 ⊢; omega) h4, pl_out (by unfold la at h3 ⊢; omega)]
    exact h.2.1 i h3 h4
  · by_cases hj : j = d + 1
    · subst hj
      exact ⟨x, hx, XR_LA h2 (Nat.le_refl _) (by omega) hl hq⟩
    · exact h2.2.2 j (by omega) h6
theorem LYK_sub {f : Nat} {u : LV} {l h : Nat} (hY : LYK (f + 1) u) (h1 : 1 ≤ l) (h2 : l ≤ 4) (h3 : hasL u (nI l) = true) (h4 : h < 4) : MOK u (bfR (nI l)) (bfC (nI l)) ∧ LYK f (fC u (nI l) (nI h)) := ⟨(hY.2 l h1 h2 h3).1, (hY.2 l h1 h2 h3).2 h h4⟩
set_option maxHeartbeats 4000000 in
theorem W56 (hw : SOK w) (hc : vp_in (sCv w) 8) (hq : q + 3 ≤ s ∨ s + 40 ≤ q) {d0 : Nat} (hN : sN w = nI d0) : ∀ (f n d : Nat) (u : LV) (M : mm_M) (τ : QV) (eff way : Int32) (Q : Option Value → mm_M → Prop), d + f = 4 → d0 ≤ d → SA M s w → LA M (la s d) u → LYK f u → (∀ j, d < j → j < 5 → ∃ y, LEN y ∧ LA M (la s j) y) → QA M q τ → QOK τ → (∀ M', XR M M' s d q → QA M' q (exV w f u (d - d0) eff way τ) → Q none M') → Wp scr (n + 6 + f) 56 [.ref q, .ref s, .int (nI d), .int eff, .int way] M Q := by
  intro f
  induction f with
  | zero =>
    intro n d u M τ eff way Q hdf hd0 hS hL hY hA hQA hQO hQ
    have hd4 : d = 4 := by omega
    subst hd4
    have hM := QA_len hQA
    refine (W56h (n := n) hq hc hN (by omega) hd0 hS hL (LYK_ok hY) hQA hQO).mpr ?_
    have hfin : Q none (pq M q (exHit w u (4 - d0) eff way τ)) := hQ _ (XR_rf hQA hA hq) (pq_QA hM)
    have w61 : ∀ (Q : Option Value → mm_M → Prop), _ := fun Q => W61 (scr := scr) (n := n + 4) (Q := Q) (x := eff) (pq_QA (v := exHit w u (4 - d0) eff way τ) hM)
    have lines := W56z (scr := scr) (n := n) (eff := eff) (way := way) (x6 := nI (4 - d0)) (LA_pq (τ := exHit w u (4 - d0) eff way τ) hL (by omega) hq) (pq_QA hM) (SA_pq hS hq) hfin 4 1 rfl none none
    simp only [u56_66, u56_67, u56_68, u56_71, u56_74, u56_75, u56_76, mw_os, wp_ite, mw_sw, Option.toList_some, Option.toList_none, List.cons_append, List.nil_append, true_and, and_true, if_true, if_false, mw_s_, mw_s_i, mw_s_r, mw_s_ii, mw_s_ir, mw_s_ri, mw_s_rr, mw_s_iii, mw_s_iir, mw_s_iri, mw_s_irr, mw_s_rii, mw_s_rir, mw_s_rri, mw_s_rrr, mw_s_iiii, mw_s_iiir, mw_s_iiri, mw_s_iirr, mw_s_irii, mw_s_irir, mw_s_irri, mw_s_irrr, mw_s_riii, mw_s_riir, mw_s_riri, mw_s_rirr, mw_s_rrii, mw_s_rrir, mw_s_rrri, mw_s_rrrr, mm_sto1, mm_clr, mm_isL, List.getElem?_cons_zero, List.getElem?_cons_succ, List.set_cons_zero, List.set_cons_succ, Bool.false_eq_true, QA_x (pq_QA hM), w61, bi_eq0]
    split
    · exact lines
    · exact hfin
  | succ f ih =>
    intro n d u M τ eff way Q hdf hd0 hS hL hY hA hQA hQO hQ
    have hM := QA_len hQA
    have hd : d < 4 := by omega
    have hu := LYK_ok hY
    rw [show n + 6 + (f + 1) = (n + f + 1) + 6 by omega]
    refine (W56h (n := n + f + 1) hq hc hN (by omega) hd0 hS hL hu hQA hQO).mpr ?_
    generalize hτ1 : exHit w u (d - d0) eff way τ = τ1 at hQ ⊢
    have hsm : Same τ τ1 := by rw [← hτ1]; exact exHit_same
    simp only [exV, hτ1] at hQ
    have w61 : ∀ (Q : Option Value → mm_M → Prop), _ := fun Q => W61 (scr := scr) (n := n + f + 1 + 4) (Q := Q) (x := eff) (pq_QA (v := τ1) hM)
    simp only [u56_66, u56_67, u56_68, u56_71, u56_74, u56_75, u56_76, mw_os, wp_ite, mw_sw, Option.toList_some, Option.toList_none, List.cons_append, List.nil_append, true_and, and_true, if_true, if_false, mw_s_, mw_s_i, mw_s_r, mw_s_ii, mw_s_ir, mw_s_ri, mw_s_rr, mw_s_iii, mw_s_iir, mw_s_iri, mw_s_irr, mw_s_rii, mw_s_rir, mw_s_rri, mw_s_rrr, mw_s_iiii, mw_s_iiir, mw_s_iiri, mw_s_iirr, mw_s_irii, mw_s_irir, mw_s_irri, mw_s_irrr, mw_s_riii, mw_s_riir, mw_s_riri, mw_s_rirr, mw_s_rrii, mw_s_rrir, mw_s_rrri, mw_s_rrrr, mm_sto1, mm_clr, mm_isL, List.getElem?_cons_zero, List.getElem?_cons_succ, List.set_cons_zero, List.set_cons_succ, Bool.false_eq_true, QA_x (pq_QA hM), w61, bi_eq0]
    have hX0 : XR M (pq M q τ1) s d q := XR_rf hQA hA hq
    cases hh : qHo τ1 eff with
    | true =>
      simp only [hh, reduceCtorEq, if_false]
      rw [hh, if_pos rfl] at hQ
      exact hQ _ hX0 (pq_QA hM)
    | false =>
      simp only [hh, if_true]
      rw [hh, if_neg (by decide)] at hQ
      have hWn : ∀ T : QV, Same τ1 T → (if qG T = 4 ∧ vW u * vT u = 2 then (4 : Int32) else 2) = nI (exW u (qG τ1)) := fun T hT => by
        rw [hT.1]
        unfold exW
        split <;> rfl
      have hW4 : exW u (qG τ1) ≤ 4 := by unfold exW; split <;> omega
      have inner : ∀ (l : Nat), 1 ≤ l → l ≤ 4 → hasL u (nI l) = true → ∀ (k h : Nat), h + k = exW u (qG τ1) → ∀ (Mc : mm_M) (T : QV), XR M Mc s d q → QA Mc q T → Same τ1 T → (∀ M' l9, XR M M' s d q → QA M' q ((List.range' h k).foldl (fun τ h => exV w f (fC u (nI l) (nI h)) (d - d0 + 1) (eff + tfE w (fC u (nI l) (nI h))) (100 * way + 10 * nI l + nI h) τ) T) → wp scr (n + f + 1 + 5) mb_56 151 [some (.ref q), some (.ref s), some (.int (nI d)), some (.int eff), some (.int way), some (.ref (la s d)), some (.int (nI (d - d0))), some (.int (nI l)), some (.int (nI (exW u (qG τ1)))), l9] [] M' Q) → ∀ l9, wp scr (n + f + 1 + 5) mb_56 87 [some (.ref q), some (.ref s), some (.int (nI d)), some (.int eff), some (.int way), some (.ref (la s d)), some (.int (nI (d - d0))), some (.int (nI l)), some (.int (nI h)), l9] [] Mc Q := by
        intro l hl1 hl4 hhl k
        induction k with
        | zero =>
          intro h hk Mc T hX hT hSm cont l9
          have : h = exW u (qG τ1) := by omega
          subst this
          have w62 : ∀ (Q : Option Value → mm_M → Prop), Wp scr (n + f + 1 + 5) 62 [.ref q, .ref (la s d)] Mc Q ↔ Q (some (.int (nI (exW u (qG τ1))))) Mc := fun Q => by
            rw [← hWn T hSm]
            exact W62 (n := n + f + 1 + 3) hT (XR_LA hX (Nat.le_refl _) (by omega) hL hq)
          have hle : (nI (exW u (qG τ1)) ≤ nI (exW u (qG τ1))) ↔ True := iff_true_intro (nI_le (Nat.le_refl _) (by omega))
          refine u56_87.mpr ?_
          simp only [u56_89, u56_90, u56_92, u56_95, mw_os, wp_ite, mw_sw, Option.toList_some, Option.toList_none, List.cons_append, List.nil_append, true_and, and_true, if_true, if_false, mw_s_, mw_s_i, mw_s_r, mw_s_ii, mw_s_ir, mw_s_ri, mw_s_rr, mw_s_iii, mw_s_iir, mw_s_iri, mw_s_irr, mw_s_rii, mw_s_rir, mw_s_rri, mw_s_rrr, mw_s_iiii, mw_s_iiir, mw_s_iiri, mw_s_iirr, mw_s_irii, mw_s_irir, mw_s_irri, mw_s_irrr, mw_s_riii, mw_s_riir, mw_s_riri, mw_s_rirr, mw_s_rrii, mw_s_rrir, mw_s_rrri, mw_s_rrrr, QA_x hT, w62, hle]
          exact cont Mc l9 hX hT
        | succ k ihk =>
          intro h hk Mc T hX hT hSm cont l9
          have hLc : LA Mc (la s d) u := XR_LA hX (Nat.le_refl _) (by omega) hL hq
          have hSc : SA Mc s w := XR_SA hX hS hq
          have w62 : ∀ (Q : Option Value → mm_M → Prop), Wp scr (n + f + 1 + 5) 62 [.ref q, .ref (la s d)] Mc Q ↔ Q (some (.int (nI (exW u (qG τ1))))) Mc := fun Q => by
            rw [← hWn T hSm]
            exact W62 (n := n + f + 1 + 3) hT hLc
          have hle : (nI (exW u (qG τ1)) ≤ nI h) ↔ False := iff_false_intro (nI_ge (by omega) (by omega))
          obtain ⟨hmok, hsub⟩ := LYK_sub hY hl1 hl4 hhl (show h < 4 by omega)
          obtain ⟨y, hy1, hy2⟩ := hX.2.2 (d + 1) (by omega) (by omega)
          have hxk := LYK_ok hsub
          have w69 : ∀ (Q : Option Value → mm_M → Prop), Wp scr (n + f + 1 + 5) 69 [.ref s, .int (nI d), .int (nI l)] Mc Q ↔ Q (some (.int 1)) Mc := fun Q => by
            have := W69 (scr := scr) (n := n + f + 1 + 3) (Q := Q) (line := nI l) hSc hLc hd
            rw [hhl] at this
            exact this
          have w71 : ∀ (Q : Option Value → mm_M → Prop), Wp scr (n + f + 1 + 5) 71 [.ref s, .int (nI d), .int (nI l), .int (nI h)] Mc Q ↔ Q (some (.int (tfE w (fC u (nI l) (nI h))))) (pl Mc (la s (d + 1)) (fC u (nI l) (nI h))) := fun Q => W71 (n := n + f + 1 + 1) hSc hw hd hLc hy2 hu hmok hy1 hxk
          have hLn : LA (pl Mc (la s (d + 1)) (fC u (nI l) (nI h))) (la s (d + 1)) (fC u (nI l) (nI h)) := pl_LA (LA_len hy2)
          have hTn : QA (pl Mc (la s (d + 1)) (fC u (nI l) (nI h))) q T := QA_pl hT (by omega) hq
          refine u56_87.mpr ?_
          simp only [u56_89, u56_90, u56_92, u56_95, u56_98, u56_99, u56_100, u56_102, u56_105, u56_108, u56_109, u56_110, u56_112, u56_114, u56_117, u56_119, u56_120, u56_121, u56_122, u56_123, u56_124, u56_125, u56_127, u56_128, u56_130, u56_132, u56_133, u56_135, u56_137, u56_138, u56_139, u56_141, u56_142, mw_os, wp_ite, mw_sw, Option.toList_some, Option.toList_none, List.cons_append, List.nil_append, true_and, and_true, if_true, if_false, mw_s_, mw_s_i, mw_s_r, mw_s_ii, mw_s_ir, mw_s_ri, mw_s_rr, mw_s_iii, mw_s_iir, mw_s_iri, mw_s_irr, mw_s_rii, mw_s_rir, mw_s_rri, mw_s_rrr, mw_s_iiii, mw_s_iiir, mw_s_iiri, mw_s_iirr, mw_s_irii, mw_s_irir, mw_s_irri, mw_s_irrr, mw_s_riii, mw_s_riir, mw_s_riri, mw_s_rirr, mw_s_rrii, mw_s_rrir, mw_s_rrri, mw_s_rrrr, mm_sto1, mm_clr, mm_isL, List.getElem?_cons_zero, List.getElem?_cons_succ, List.set_cons_zero, List.set_cons_succ, Bool.false_eq_true, QA_x hT, SA_x hSc, w62, hle, w69, i10, w71, QA_x hTn, nI_1]
          rw [show n + f + 1 + 5 = n + 6 + f by omega]
          refine ih n (d + 1) _ _ T _ _ _ (by omega) (by omega) (SA_pl hSc (Or.inr (by unfold la; omega))) hLn hsub (fun j h1 h2 => ?_) hTn (hSm.ok (hsm.ok hQO)) (fun M' hX2 hT2 => ?_)
          · obtain ⟨z, z1, z2⟩ := hX.2.2 j (by omega) h2
            exact ⟨z, z1, pl_other z2 (by unfold la; omega)⟩
          · simp only [u56_145, u56_148, mw_os, wp_ite, mw_sw, Option.toList_some, Option.toList_none, List.cons_append, List.nil_append, true_and, and_true, if_true, if_false, mw_s_, mw_s_i, mw_s_r, mw_s_ii, mw_s_ir, mw_s_ri, mw_s_rr, mw_s_iii, mw_s_iir, mw_s_iri, mw_s_irr, mw_s_rii, mw_s_rir, mw_s_rri, mw_s_rrr, mw_s_iiii, mw_s_iiir, mw_s_iiri, mw_s_iirr, mw_s_irii, mw_s_irir, mw_s_irri, mw_s_irrr, mw_s_riii, mw_s_riir, mw_s_riri, mw_s_rirr, mw_s_rrii, mw_s_rrir, mw_s_rrri, mw_s_rrrr, mm_sto1, mm_clr, mm_isL, List.getElem?_cons_zero, List.getElem?_cons_succ, List.set_cons_zero, List.set_cons_succ, Bool.false_eq_true, nI_1]
            rw [show n + 6 + f = n + f + 1 + 5 by omega]
            rw [show d + 1 - d0 = d - d0 + 1 by omega] at hT2
            refine ihk (h + 1) (by omega) M' _ (XR_step hX hd (LOK_LEN hxk) hq hX2 hLn) hT2 (hSm.tr (exV_same f)) (fun M'' l9' hX3 hT3 => cont M'' l9' hX3 ?_) _
            rw [List.range'_succ, List.foldl_cons]
            exact hT3
      have outer : ∀ (k l : Nat), l + k = 5 → 1 ≤ l → ∀ (Mc : mm_M) (T : QV), XR M Mc s d q → QA Mc q T → Same τ1 T → (∀ M', XR M M' s d q → QA M' q ((List.range' l k).foldl (fun τ l => if hasL u (nI l) = true then (List.range' 0 (exW u (qG τ1))).foldl (fun τ h => exV w f (fC u (nI l) (nI h)) (d - d0 + 1) (eff + tfE w (fC u (nI l) (nI h))) (100 * way + 10 * nI l + nI h) τ) τ else τ) T) → Q none M') → ∀ l8 l9, wp scr (n + f + 1 + 5) mb_56 78 [some (.ref q), some (.ref s), some (.int (nI d)), some (.int eff), some (.int way), some (.ref (la s d)), some (.int (nI (d - d0))), some (.int (nI l)), l8, l9] [] Mc Q := by
        intro k
        induction k with
        | zero =>
          intro l hl hl1 Mc T hX hT hSm cont l8 l9
          have : l = 5 := by omega
          subst this
          have h5 : ((4 : Int32) < nI 5) ↔ True := iff_true_intro (by decide +kernel)
          refine u56_78.mpr ?_
          simp only [u56_80, u56_81, u56_157, mw_os, wp_ite, mw_sw, Option.toList_some, Option.toList_none, List.cons_append, List.nil_append, true_and, and_true, if_true, if_false, mw_s_, mw_s_i, mw_s_r, mw_s_ii, mw_s_ir, mw_s_ri, mw_s_rr, mw_s_iii, mw_s_iir, mw_s_iri, mw_s_irr, mw_s_rii, mw_s_rir, mw_s_rri, mw_s_rrr, mw_s_iiii, mw_s_iiir, mw_s_iiri, mw_s_iirr, mw_s_irii, mw_s_irir, mw_s_irri, mw_s_irrr, mw_s_riii, mw_s_riir, mw_s_riri, mw_s_rirr, mw_s_rrii, mw_s_rrir, mw_s_rrri, mw_s_rrrr, h5]
          exact cont Mc hX hT
        | succ k ihk =>
          intro l hl hl1 Mc T hX hT hSm cont l8 l9
          have h5 : ((4 : Int32) < nI l) ↔ False := iff_false_intro (nI_nlt (a := 4) (b := l) (by omega) (by omega))
          have hLc : LA Mc (la s d) u := XR_LA hX (Nat.le_refl _) (by omega) hL hq
          have hSc : SA Mc s w := XR_SA hX hS hq
          rw [List.range'_succ, List.foldl_cons] at cont
          refine u56_78.mpr ?_
          simp only [u56_80, u56_81, u56_84, u56_85, mw_os, wp_ite, mw_sw, Option.toList_some, Option.toList_none, List.cons_append, List.nil_append, true_and, and_true, if_true, if_false, mw_s_, mw_s_i, mw_s_r, mw_s_ii, mw_s_ir, mw_s_ri, mw_s_rr, mw_s_iii, mw_s_iir, mw_s_iri, mw_s_irr, mw_s_rii, mw_s_rir, mw_s_rri, mw_s_rrr, mw_s_iiii, mw_s_iiir, mw_s_iiri, mw_s_iirr, mw_s_irii, mw_s_irir, mw_s_irri, mw_s_irrr, mw_s_riii, mw_s_riir, mw_s_riri, mw_s_rirr, mw_s_rrii, mw_s_rrir, mw_s_rrri, mw_s_rrrr, mm_sto1, mm_clr, mm_isL, List.getElem?_cons_zero, List.getElem?_cons_succ, List.set_cons_zero, List.set_cons_succ, Bool.false_eq_true, h5]
          cases hhl : hasL u (nI l) with
          | true =>
            rw [hhl, if_pos rfl] at cont
            refine inner l hl1 (by omega) hhl (exW u (qG τ1)) 0 (by omega) Mc T hX hT hSm (fun M' l9' hX2 hT2 => ?_) _
            simp only [u56_151, u56_154, mw_os, wp_ite, mw_sw, Option.toList_some, Option.toList_none, List.cons_append, List.nil_append, true_and, and_true, if_true, if_false, mw_s_, mw_s_i, mw_s_r, mw_s_ii, mw_s_ir, mw_s_ri, mw_s_rr, mw_s_iii, mw_s_iir, mw_s_iri, mw_s_irr, mw_s_rii, mw_s_rir, mw_s_rri, mw_s_rrr, mw_s_iiii, mw_s_iiir, mw_s_iiri, mw_s_iirr, mw_s_irii, mw_s_irir, mw_s_irri, mw_s_irrr, mw_s_riii, mw_s_riir, mw_s_riri, mw_s_rirr, mw_s_rrii, mw_s_rrir, mw_s_rrri, mw_s_rrrr, mm_sto1, mm_clr, mm_isL, List.getElem?_cons_zero, List.getElem?_cons_succ, List.set_cons_zero, List.set_cons_succ, Bool.false_eq_true, nI_1]
            exact ihk (l + 1) (by omega) (by omega) M' _ hX2 hT2 (hSm.tr (fold_same (fun τ h => exV_same f) _)) cont _ _
          | false =>
            rw [hhl, if_neg (by decide)] at cont
            have w62 : ∀ (Q : Option Value → mm_M → Prop), Wp scr (n + f + 1 + 5) 62 [.ref q, .ref (la s d)] Mc Q ↔ Q (some (.int (nI (exW u (qG τ1))))) Mc := fun Q => by
              rw [← hWn T hSm]
              exact W62 (n := n + f + 1 + 3) hT hLc
            have hW2 : 0 < exW u (qG τ1) := by unfold exW; split <;> omega
            have hle : (nI (exW u (qG τ1)) ≤ 0) ↔ False := iff_false_intro (by rw [← nI_0]; exact nI_ge hW2 (by omega))
            have w69 : ∀ (Q : Option Value → mm_M → Prop), Wp scr (n + f + 1 + 5) 69 [.ref s, .int (nI d), .int (nI l)] Mc Q ↔ Q (some (.int 0)) Mc := fun Q => by
              have := W69 (scr := scr) (n := n + f + 1 + 3) (Q := Q) (line := nI l) hSc hLc hd
              rw [hhl] at this
              exact this
            simp only [u56_87, u56_89, u56_90, u56_92, u56_95, u56_98, u56_99, u56_100, u56_102, u56_105, u56_151, u56_154, mw_os, wp_ite, mw_sw, Option.toList_some, Option.toList_none, List.cons_append, List.nil_append, true_and, and_true, if_true, if_false, mw_s_, mw_s_i, mw_s_r, mw_s_ii, mw_s_ir, mw_s_ri, mw_s_rr, mw_s_iii, mw_s_iir, mw_s_iri, mw_s_irr, mw_s_rii, mw_s_rir, mw_s_rri, mw_s_rrr, mw_s_iiii, mw_s_iiir, mw_s_iiri, mw_s_iirr, mw_s_irii, mw_s_irir, mw_s_irri, mw_s_irrr, mw_s_riii, mw_s_riir, mw_s_riri, mw_s_rirr, mw_s_rrii, mw_s_rrir, mw_s_rrri, mw_s_rrrr, mm_sto1, mm_clr, mm_isL, List.getElem?_cons_zero, List.getElem?_cons_succ, List.set_cons_zero, List.set_cons_succ, Bool.false_eq_true, QA_x hT, SA_x hSc, w62, hle, w69, nI_1]
            exact ihk (l + 1) (by omega) (by omega) Mc T hX hT hSm cont _ _
      exact outer 4 1 rfl (Nat.le_refl _) (pq M q τ1) τ1 hX0 (pq_QA hM) Same.rf hQ none none
end EXP
