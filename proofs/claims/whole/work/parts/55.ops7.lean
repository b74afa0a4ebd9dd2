/-! the searches, both -/
def B4 (g : SG) (τ : QV) : Option (Nat × Nat) := (nds q4 (gN g).1 4 0 0 0 (gU g)).foldl (hV (hR τ (sCv (gN g).1)) (hC τ)) none
def wyV (b : Option (Nat × Nat)) : Int32 := match b with
  | none => -9
  | some p => nI p.2
def csV (b : Option (Nat × Nat)) : Int32 := match b with
  | none => -9
  | some p => nI p.1
theorem QB_way {τ : QV} {b : Option (Nat × Nat)} (h : QB τ b) : (if qF τ = 0 then -9 else qY τ) = wyV b := by
  rcases h with ⟨h1, rfl⟩ | ⟨c, y, h1, rfl, h3, h4, _⟩
  · rw [if_pos h1]; rfl
  · rw [h1, if_neg (by decide), h4]; rfl
theorem QB_cost {τ : QV} {b : Option (Nat × Nat)} (h : QB τ b) : (if qF τ = 0 then -9 else qC τ) = csV b := by
  rcases h with ⟨h1, rfl⟩ | ⟨c, y, h1, rfl, h3, h4, _⟩
  · rw [if_pos h1]; rfl
  · rw [h1, if_neg (by decide), h3]; rfl
theorem MB_way {d : Nat} {σ : St} {b : Option (Nat × Nat)} (h : MB d σ b) : σ.1 = wyV b := by
  rcases h with ⟨h1, _, rfl⟩ | ⟨c, y, rfl, h3, _⟩
  · rw [h1]; rfl
  · rw [h3]; rfl
theorem sub0 (x : Int32) : x - nI 0 = x := by rw [nI_0]; exact Int32.sub_zero x
theorem MB_cost {σ : St} {b : Option (Nat × Nat)} (h : MB 0 σ b) : σ.2.1 = csV b := by
  rcases h with ⟨_, h1, rfl⟩ | ⟨c, y, rfl, _, h3, _⟩
  · rw [h1]; rfl
  · rw [h3, sub0]; rfl
theorem FW_cost {fw : Int32} {b : Option (Nat × Nat)} (h : FW fw b) : fw = csV b := by
  rcases h with ⟨h1, rfl⟩ | ⟨c, y, rfl, h3, _⟩
  · rw [h1]; rfl
  · rw [h3]; rfl
theorem inv_2 {τ : QV} {c : Nat} (h4 : ¬ qG τ = 4) (hc : c < 8) (x x' : ND) (h1 : x'.1 = x.1) (h2 : x'.2.1 = x.2.1) (hL : Lk x'.2.2.2 x.2.2.2) : hR τ (nI c) x' = hR τ (nI c) x ∧ (hR τ (nI c) x = true → hC τ x' = hC τ x) := by
  unfold hR qRe hC
  rw [if_neg h4, if_neg h4, hL.1, hL.2.1, hL.2.2.1, hL.2.2.2 c hc, h1, h2]
  exact ⟨rfl, fun _ => rfl⟩
section JS
variable {scr : List Int32} {n : Nat} {M : mm_M} {Q : Option Value → mm_M → Prop} {g : SG} {τ : QV} {s : Nat}
theorem nds_4 (hg : SGOK g) {q : LV → Nat} (hq : ∀ u, q u ≤ 4) : nds q (gN g).1 (4 - (gN g).2.1) 0 0 0 (gU g) = nds q (gN g).1 4 0 0 0 (gU g) := by
  obtain ⟨x, hG, hrk⟩ := gU_GT hg
  have hd := hg.1.2.2.1
  have := nds_fuel (w := (gN g).1) hq (m := 0) (e := 0) (y := 0) hG (gN g).2.1 (4 - (gN g).2.1) (by omega)
  rw [← this]
  congr 1
  omega
theorem F9 (hg : SGOK g) : ∀ i, i < 10 → rgI (gi (sF (gN g).1) (nI i)) 9 := fun i hi => (hg.1.2.2.2.2.2.2 i hi).2.1
/-- the class finds the least of all -/
theorem class_2 (hg : SGOK g) (h4 : ¬ qG τ = 4) (hs : qS τ = nI s) (h0 : qF τ = 0) : QB (exV (gN g).1 (4 - (gN g).2.1) (gU g) 0 0 0 τ) (B4 g τ) := by
  obtain ⟨x, hG, hrk⟩ := gU_GT hg
  obtain ⟨c, hc8, hcv⟩ := gCv hg
  have h := exV_best (w := (gN g).1) (τ0 := τ) (F9 hg) hs (4 - (gN g).2.1) 0 0 0 (gU g) τ none ⟨x, hG⟩ Same.rf (by omega) (by omega) (by decide) (Or.inl ⟨h0, rfl⟩)
  have e2 : (fun u => exW u (qG τ)) = q2 := by
    funext u
    exact if_neg (fun z => h4 z.1)
  rw [e2, nds_4 hg (fun _ => by show 2 ≤ 4; omega)] at h
  have e4 : B4 g τ = (nds q2 (gN g).1 4 0 0 0 (gU g)).foldl (hV (hR τ (sCv (gN g).1)) (hC τ)) none := by
    unfold B4
    rw [← hts_fold, ← hts_fold]
    refine best_2 ⟨x, hG⟩ (fun x x' a b c => ?_)
    rw [hcv]
    exact inv_2 h4 hc8 x x' a b c
  rw [e4]
  exact h
/-- nodes are small -/
theorem nd_sm (hg : SGOK g) {x : ND} (hx : x ∈ nds q4 (gN g).1 4 0 0 0 (gU g)) : (∃ z, GT z x.2.2.2) ∧ x.1 ≤ 4 ∧ x.2.1 ≤ 480 ∧ x.2.2.1 < 100 ^ 4 := by
  obtain ⟨z, hG, hrk⟩ := gU_GT hg
  obtain ⟨a1, a2, a3⟩ := nds_GT (q := q4) (fun _ => Nat.le_refl _) 4 0 0 0 (gU g) ⟨z, hG⟩ x hx
  have a4 := nds_e (F9 hg) 4 0 0 0 (gU g) x hx
  exact ⟨a1, by omega, by omega, by omega⟩
theorem ref_0 (hg : SGOK g) (h0 : qG τ = 0) {A B : Int32} : MB 0 ((nds q4 (gN g).1 4 0 0 0 (gU g)).foldl (mV 0 A B (sCv (gN g).1) (gT g)) (-9, -9, -9, 0)) (B4 g τ) := by
  refine MB_all (by decide) _ _ _ (fun σ x hx => ?_) (Or.inl ⟨rfl, rfl, rfl⟩)
  obtain ⟨_, b1, b2, b3⟩ := nd_sm hg hx
  have eR : hR τ (sCv (gN g).1) x = shO x.2.2.2 (sCv (gN g).1) := by
    unfold hR qRe
    rw [h0]; rfl
  have eC : hC τ x = x.2.1 := by
    unfold hC
    rw [h0]; rfl
  rw [eR, eC, sub0]
  unfold mV mtV
  rw [if_pos rfl]
  refine ⟨fun hr => ?_, fun hr => ?_, by omega, by omega⟩
  · rw [if_pos hr]; exact ⟨rfl, rfl⟩
  · rw [if_neg hr]; exact ⟨rfl, rfl⟩
theorem ref_f (hg : SGOK g) (h0 : qG τ = 1) {A B : Int32} : FW ((nds q4 (gN g).1 4 0 0 0 (gU g)).foldl (mV 0 A B (sCv (gN g).1) (gT g)) (-9, -9, -9, 0)).2.2.1 (B4 g τ) := by
  have e : B4 g τ = (nds q4 (gN g).1 4 0 0 0 (gU g)).foldl (hV (hR τ (sCv (gN g).1)) (fun x => x.1)) none := by
    unfold B4
    congr 1
    have : hC τ = fun x => x.1 := by
      funext x
      unfold hC
      rw [if_pos h0]
    rw [this]
  rw [e]
  refine FW_all _ _ _ (fun σ x hx => ?_) (Or.inl ⟨rfl, rfl⟩)
  obtain ⟨_, b1, b2, b3⟩ := nd_sm hg hx
  have eR : hR τ (sCv (gN g).1) x = shO x.2.2.2 (sCv (gN g).1) := by
    unfold hR qRe
    rw [h0]; rfl
  rw [eR]
  unfold mV mtV
  rw [if_pos rfl]
  refine ⟨fun hr => ?_, fun hr => ?_, by omega⟩
  · rw [if_pos hr]
  · rw [if_neg hr]
theorem ref_2 (hg : SGOK g) (h0 : qG τ = 2) : MB 0 ((nds q4 (gN g).1 4 0 0 0 (gU g)).foldl (mV 2 (qS τ) (qP τ) (sCv (gN g).1) (gT g)) (-9, -9, -9, 0)) (B4 g τ) := by
  refine MB_all (by decide) _ _ _ (fun σ x hx => ?_) (Or.inl ⟨rfl, rfl, rfl⟩)
  obtain ⟨_, b1, b2, b3⟩ := nd_sm hg hx
  have eR : hR τ (sCv (gN g).1) x = decide (¬ qP τ < vW x.2.2.2 * vT x.2.2.2 ∧ vRs x.2.2.2 &&& qS τ = qS τ) := by
    unfold hR qRe
    rw [if_pos h0]
    simp only [Int32.not_lt]
  have eC : hC τ x = x.2.1 := by
    unfold hC
    rw [h0]; rfl
  rw [eR, eC, sub0]
  unfold mV mtV
  rw [if_neg (by decide), if_neg (by decide), if_pos rfl]
  refine ⟨fun hr => ?_, fun hr => ?_, by omega, by omega⟩
  · rw [if_pos (of_decide_eq_true hr)]; exact ⟨rfl, rfl⟩
  · rw [if_neg (fun z => hr (decide_eq_true z))]; exact ⟨rfl, rfl⟩
theorem ref_3 (hg : SGOK g) (h0 : qG τ = 3) (hs : qS τ = nI s) : MB 8 ((nds q4 (gN g).1 4 0 0 0 (gU g)).foldl (mV 3 (qS τ) (qP τ) (sCv (gN g).1) (gT g)) (-9, -9, -9, 0)) (B4 g τ) := by
  refine MB_all (by decide) _ _ _ (fun σ x hx => ?_) (Or.inl ⟨rfl, rfl, rfl⟩)
  obtain ⟨⟨z, hz⟩, b1, b2, b3⟩ := nd_sm hg hx
  have eR : hR τ (sCv (gN g).1) x = decide (¬ qP τ < vW x.2.2.2 * vT x.2.2.2) := by
    unfold hR qRe
    rw [if_neg (by rw [h0]; decide), if_pos h0]
    simp only [Int32.not_lt]
  have hr := (GT_N hz).2.2.2.2.2.2.1
  obtain ⟨c1, c2⟩ := bc_all (z.2.1 &&& s) (and_lt8 (TB_lt hz.1))
  have eb : bcI (vRs x.2.2.2 &&& qS τ) = nI (bcN (z.2.1 &&& s)) := by rw [hr, hs, nI_and, c1]
  have e8 : 8 - bcI (vRs x.2.2.2 &&& qS τ) = nI (8 - bcN (z.2.1 &&& s)) := by
    rw [eb]
    exact pk_sub (a := 8) c2
  have eC : hC τ x = 8 - bcN (z.2.1 &&& s) := by
    unfold hC
    rw [if_neg (by rw [h0]; decide), if_pos h0, e8, nI_clamp (by omega)]
  have en : -bcI (vRs x.2.2.2 &&& qS τ) = nI (8 - bcN (z.2.1 &&& s)) - nI 8 := by
    rw [← e8, show nI 8 = 8 from rfl, Int32.sub_eq_add_neg 8, Int32.add_comm 8, Int32.add_sub_cancel]
  rw [eR, eC, ← en]
  unfold mV mtV
  rw [if_neg (by decide), if_neg (by decide), if_neg (by decide), if_pos rfl]
  refine ⟨fun hr => ?_, fun hr => ?_, by omega, by omega⟩
  · rw [if_pos (of_decide_eq_true hr)]; exact ⟨rfl, rfl⟩
  · rw [if_neg (fun z => hr (decide_eq_true z))]; exact ⟨rfl, rfl⟩
theorem J_shut (hg : SGOK g) (x1 : Int32) : JO scr 106 185 [.int x1] g := by
  have z1 : ((1 : Int32) = 0) ↔ False := by decide
  have z2 : ((2 : Int32) = 0) ↔ False := by decide
  have z3 : ((2 : Int32) = 1) ↔ False := by decide
  have z4 : ((0 : Int32) = 2) ↔ False := by decide
  have z5 : ((1 : Int32) = 2) ↔ False := by decide
  rcases thr x1 with h3 | hx
  · have b1 : decide ((0 : Int32) ≤ x1 ∧ x1 < 3) = true := by rcases h3 with rfl | rfl | rfl <;> decide
    have b2 : inB x1.toInt64 0 2 = true := (inB_eq x1 0 2).trans (by rcases h3 with rfl | rfl | rfl <;> decide)
    let τx : Int32 → QV := fun k => (([], []), (k, 1, 0, 0, 0, 0))
    have eB : ∀ (τ : QV) (k : Int32), ¬ k = 4 → B4 g (bgQ τ k) = B4 g (τx k) := fun τ k hk => by
      unfold B4
      have e1 : hR (bgQ τ k) (sCv (gN g).1) = hR (τx k) (sCv (gN g).1) := by
        funext x
        unfold hR qRe
        rw [if_neg (show ¬ qG (bgQ τ k) = 4 from hk), if_neg (show ¬ qG (τx k) = 4 from hk)]
        rfl
      rw [e1]
      rfl
    refine ⟨.int (if x1 = 0 then wyV (B4 g (τx 0)) else if x1 = 1 then csV (B4 g (τx 0)) else csV (B4 g (τx 1))), g, hg, fun n M Q hC hQ => ?_, fun n M Q hC hQ => ?_⟩
    · obtain ⟨τ, hk, hq⟩ := CQ hC
      have run : ∀ (k : Int32), ¬ k = 4 → ∀ (Q' : Option Value → mm_M → Prop), (∀ M' T, M'.length = M.length → Ag M M' 129 143 → CS M' g → QA M' 121 T → QB T (B4 g (τx k)) → Q' none M') → Wp scr (n + 39) 55 [.ref 121, .ref 1] (pq M 121 (bgQ τ k)) Q' := fun k hk4 Q' hQ' => by
        refine CW55 (n := n + 28) (CS_pq hC hg (bgQ_ok hk)) hg (pq_QA (QA_len hq)) (bgQ_ok hk) (fun M' hl ha hC' hq' => ?_)
        refine hQ' M' _ (hl.trans (pq_len ..)) (Ag_tr (Ag_pq (by omega)) ha) hC' hq' ?_
        rw [← eB τ k hk4]
        exact class_2 (s := 0) hg hk4 rfl rfl
      have hC1 : ∀ k, CS (pq M 121 (bgQ τ k)) g := fun k => CS_pq hC hg (bgQ_ok hk)
      have hq1 : ∀ k, QA (pq M 121 (bgQ τ k)) 121 (bgQ τ k) := fun k => pq_QA (QA_len hq)
      rcases h3 with rfl | rfl | rfl
      · simp only [u106_0, u106_1, u106_2, u106_5, u106_15, u106_16, u106_19, u106_20, u106_21, u106_28, u106_29, u106_32, u106_33, u106_36, u106_37, u106_40, e106, mw_os, wp_ite, mw_sw, Option.toList_some, Option.toList_none, List.cons_append, List.nil_append, true_and, and_true, if_true, if_false, mw_s_, mw_s_i, mw_s_r, mw_s_ii, mw_s_ir, mw_s_ri, mw_s_rr, mw_s_iii, mw_s_iir, mw_s_iri, mw_s_irr, mw_s_rii, mw_s_rir, mw_s_rri, mw_s_rrr, mw_s_iiii, mw_s_iiir, mw_s_iiri, mw_s_iirr, mw_s_irii, mw_s_irir, mw_s_irri, mw_s_irrr, mw_s_riii, mw_s_riir, mw_s_riri, mw_s_rirr, mw_s_rrii, mw_s_rrir, mw_s_rrri, mw_s_rrrr, mm_sto1, mm_clr, mm_isL, List.getElem?_cons_zero, List.getElem?_cons_succ, List.set_cons_zero, List.set_cons_succ, Bool.false_eq_true, W89, b1, bi_eq0, reduceCtorEq, not_false_eq_true, z4, CS_3 hC, QA_x hq, W54 hq hk, CS_3 (hC1 _), CS_0 (hC1 _), QA_x (hq1 _)]
        refine run 0 (by decide) _ (fun M' T hl ha hC' hq' hb => ?_)
        simp only [u106_43, u106_44, u106_47, u106_48, u106_51, u106_54, u106_64, mw_os, wp_ite, mw_sw, Option.toList_some, Option.toList_none, List.cons_append, List.nil_append, true_and, and_true, if_true, if_false, mw_s_, mw_s_i, mw_s_r, mw_s_ii, mw_s_ir, mw_s_ri, mw_s_rr, mw_s_iii, mw_s_iir, mw_s_iri, mw_s_irr, mw_s_rii, mw_s_rir, mw_s_rri, mw_s_rrr, mw_s_iiii, mw_s_iiir, mw_s_iiri, mw_s_iirr, mw_s_irii, mw_s_irir, mw_s_irri, mw_s_irrr, mw_s_riii, mw_s_riir, mw_s_riri, mw_s_rirr, mw_s_rrii, mw_s_rrir, mw_s_rrri, mw_s_rrrr, mm_sto1, mm_clr, mm_isL, List.getElem?_cons_zero, List.getElem?_cons_succ, List.set_cons_zero, List.set_cons_succ, Bool.false_eq_true, CS_3 hC', QA_x hq', W63 hq', QB_way hb]
        exact hQ M' hl ha hC'
      · simp only [u106_0, u106_1, u106_2, u106_5, u106_15, u106_16, u106_19, u106_20, u106_21, u106_28, u106_29, u106_32, u106_33, u106_36, u106_37, u106_40, e106, mw_os, wp_ite, mw_sw, Option.toList_some, Option.toList_none, List.cons_append, List.nil_append, true_and, and_true, if_true, if_false, mw_s_, mw_s_i, mw_s_r, mw_s_ii, mw_s_ir, mw_s_ri, mw_s_rr, mw_s_iii, mw_s_iir, mw_s_iri, mw_s_irr, mw_s_rii, mw_s_rir, mw_s_rri, mw_s_rrr, mw_s_iiii, mw_s_iiir, mw_s_iiri, mw_s_iirr, mw_s_irii, mw_s_irir, mw_s_irri, mw_s_irrr, mw_s_riii, mw_s_riir, mw_s_riri, mw_s_rirr, mw_s_rrii, mw_s_rrir, mw_s_rrri, mw_s_rrrr, mm_sto1, mm_clr, mm_isL, List.getElem?_cons_zero, List.getElem?_cons_succ, List.set_cons_zero, List.set_cons_succ, Bool.false_eq_true, W89, b1, bi_eq0, reduceCtorEq, not_false_eq_true, z5, CS_3 hC, QA_x hq, W54 hq hk, CS_3 (hC1 _), CS_0 (hC1 _), QA_x (hq1 _)]
        refine run 0 (by decide) _ (fun M' T hl ha hC' hq' hb => ?_)
        simp only [u106_43, u106_44, u106_57, u106_58, u106_61, u106_64, mw_os, wp_ite, mw_sw, Option.toList_some, Option.toList_none, List.cons_append, List.nil_append, true_and, and_true, if_true, if_false, mw_s_, mw_s_i, mw_s_r, mw_s_ii, mw_s_ir, mw_s_ri, mw_s_rr, mw_s_iii, mw_s_iir, mw_s_iri, mw_s_irr, mw_s_rii, mw_s_rir, mw_s_rri, mw_s_rrr, mw_s_iiii, mw_s_iiir, mw_s_iiri, mw_s_iirr, mw_s_irii, mw_s_irir, mw_s_irri, mw_s_irrr, mw_s_riii, mw_s_riir, mw_s_riri, mw_s_rirr, mw_s_rrii, mw_s_rrir, mw_s_rrri, mw_s_rrrr, mm_sto1, mm_clr, mm_isL, List.getElem?_cons_zero, List.getElem?_cons_succ, List.set_cons_zero, List.set_cons_succ, Bool.false_eq_true, z1, CS_3 hC', QA_x hq', W64 hq', QB_cost hb]
        exact hQ M' hl ha hC'
      · simp only [u106_0, u106_1, u106_2, u106_5, u106_15, u106_16, u106_19, u106_20, u106_21, u106_24, u106_25, u106_28, u106_29, u106_32, u106_33, u106_36, u106_37, u106_40, e106, mw_os, wp_ite, mw_sw, Option.toList_some, Option.toList_none, List.cons_append, List.nil_append, true_and, and_true, if_true, if_false, mw_s_, mw_s_i, mw_s_r, mw_s_ii, mw_s_ir, mw_s_ri, mw_s_rr, mw_s_iii, mw_s_iir, mw_s_iri, mw_s_irr, mw_s_rii, mw_s_rir, mw_s_rri, mw_s_rrr, mw_s_iiii, mw_s_iiir, mw_s_iiri, mw_s_iirr, mw_s_irii, mw_s_irir, mw_s_irri, mw_s_irrr, mw_s_riii, mw_s_riir, mw_s_riri, mw_s_rirr, mw_s_rrii, mw_s_rrir, mw_s_rrri, mw_s_rrrr, mm_sto1, mm_clr, mm_isL, List.getElem?_cons_zero, List.getElem?_cons_succ, List.set_cons_zero, List.set_cons_succ, Bool.false_eq_true, W89, b1, bi_eq0, reduceCtorEq, not_false_eq_true, CS_3 hC, QA_x hq, W54 hq hk, CS_3 (hC1 _), CS_0 (hC1 _), QA_x (hq1 _)]
        refine run 1 (by decide) _ (fun M' T hl ha hC' hq' hb => ?_)
        simp only [u106_43, u106_44, u106_57, u106_58, u106_61, u106_64, mw_os, wp_ite, mw_sw, Option.toList_some, Option.toList_none, List.cons_append, List.nil_append, true_and, and_true, if_true, if_false, mw_s_, mw_s_i, mw_s_r, mw_s_ii, mw_s_ir, mw_s_ri, mw_s_rr, mw_s_iii, mw_s_iir, mw_s_iri, mw_s_irr, mw_s_rii, mw_s_rir, mw_s_rri, mw_s_rrr, mw_s_iiii, mw_s_iiir, mw_s_iiri, mw_s_iirr, mw_s_irii, mw_s_irir, mw_s_irri, mw_s_irrr, mw_s_riii, mw_s_riir, mw_s_riri, mw_s_rirr, mw_s_rrii, mw_s_rrir, mw_s_rrri, mw_s_rrrr, mm_sto1, mm_clr, mm_isL, List.getElem?_cons_zero, List.getElem?_cons_succ, List.set_cons_zero, List.set_cons_succ, Bool.false_eq_true, z2, CS_3 hC', QA_x hq', W64 hq', QB_cost hb]
        exact hQ M' hl ha hC'
    · obtain ⟨o, r, hO, _, hR', hA⟩ := MSu hC
      simp only [u185_0, u185_1, u185_2, u185_3, u185_6, u185_9, u185_19, u185_20, u185_21, u185_22, u185_23, e185, mw_os, wp_ite, mw_sw, Option.toList_some, Option.toList_none, List.cons_append, List.nil_append, true_and, and_true, if_true, if_false, mw_s_, mw_s_i, mw_s_r, mw_s_ii, mw_s_ir, mw_s_ri, mw_s_rr, mw_s_iii, mw_s_iir, mw_s_iri, mw_s_irr, mw_s_rii, mw_s_rir, mw_s_rri, mw_s_rrr, mw_s_iiii, mw_s_iiir, mw_s_iiri, mw_s_iirr, mw_s_irii, mw_s_irir, mw_s_irri, mw_s_irrr, mw_s_riii, mw_s_riir, mw_s_riri, mw_s_rirr, mw_s_rrii, mw_s_rrir, mw_s_rrri, mw_s_rrrr, mm_sto1, mm_clr, mm_isL, List.getElem?_cons_zero, List.getElem?_cons_succ, List.set_cons_zero, List.set_cons_succ, Bool.false_eq_true, W146, b2, bi_eq0, reduceCtorEq, not_false_eq_true, OA_x hO]
      refine W186 (n := n + 26) hg (Or.inl rfl) hC (fun M' z9 hl ha hC' hO' => ?_)
      have r0 := ref_0 (A := 0) (B := 0) hg (show qG (τx 0) = 0 from rfl)
      have rf := ref_f (A := 0) (B := 0) hg (show qG (τx 1) = 1 from rfl)
      have m1 := MB_way r0
      have m2 := MB_cost r0
      have m3 := FW_cost rf
      generalize (nds q4 (gN g).1 4 0 0 0 (gU g)).foldl (mV 0 0 0 (sCv (gN g).1) (gT g)) (-9, -9, -9, 0) = σ at hO' m1 m2 m3
      have f14 : mm_fld (mc_X scr) M' (.ref 129) 6 14 = some (.int σ.1) := OA_14 hO'
      have f15 : mm_fld (mc_X scr) M' (.ref 129) 6 15 = some (.int σ.2.1) := OA_15 hO'
      have f16 : mm_fld (mc_X scr) M' (.ref 129) 6 16 = some (.int σ.2.2.1) := OA_16 hO'
      have hq := hQ M' hl ha hC'
      simp only [u185_26, u185_27, u185_30, u185_31, u185_34, u185_37, u185_38, u185_39, u185_42, u185_43, u185_46, u185_49, u185_50, u185_53, mw_os, wp_ite, mw_sw, Option.toList_some, Option.toList_none, List.cons_append, List.nil_append, true_and, and_true, if_true, if_false, mw_s_, mw_s_i, mw_s_r, mw_s_ii, mw_s_ir, mw_s_ri, mw_s_rr, mw_s_iii, mw_s_iir, mw_s_iri, mw_s_irr, mw_s_rii, mw_s_rir, mw_s_rri, mw_s_rrr, mw_s_iiii, mw_s_iiir, mw_s_iiri, mw_s_iirr, mw_s_irii, mw_s_irir, mw_s_irri, mw_s_irrr, mw_s_riii, mw_s_riir, mw_s_riri, mw_s_rirr, mw_s_rrii, mw_s_rrir, mw_s_rrri, mw_s_rrrr, mm_sto1, mm_clr, mm_isL, List.getElem?_cons_zero, List.getElem?_cons_succ, List.set_cons_zero, List.set_cons_succ, Bool.false_eq_true, f14, f15, f16, m1, m2, m3]
      rcases h3 with rfl | rfl | rfl <;> exact hq
  · have b1 : decide ((0 : Int32) ≤ x1 ∧ x1 < 3) = false := ib_f (N := 3) hx
    have b2 : inB x1.toInt64 0 2 = false := (inB_eq x1 0 2).trans (il_f (N := 2) (by decide) hx)
    refine ⟨.int (-nI 2), gRf g 2, gRf_ok hg, fun n M Q hC hQ => ?_, fun n M Q hC hQ => ?_⟩
    · simp only [e106, u106_0, u106_1, u106_2, u106_5, u106_8, u106_9, u106_11, u106_15, u106_16, u106_19, u106_20, u106_21, u106_24, u106_25, u106_28, u106_29, u106_32, u106_33, u106_36, u106_37, u106_40, u106_43, u106_44, u106_47, u106_48, u106_51, u106_54, u106_57, u106_58, u106_61, u106_64, mw_os, wp_ite, mw_sw, Option.toList_some, Option.toList_none, List.cons_append, List.nil_append, true_and, and_true, if_true, if_false, mw_s_, mw_s_i, mw_s_r, mw_s_ii, mw_s_ir, mw_s_ri, mw_s_rr, mw_s_iii, mw_s_iir, mw_s_iri, mw_s_irr, mw_s_rii, mw_s_rir, mw_s_rri, mw_s_rrr, mw_s_iiii, mw_s_iiir, mw_s_iiri, mw_s_iirr, mw_s_irii, mw_s_irir, mw_s_irri, mw_s_irrr, mw_s_riii, mw_s_riir, mw_s_riri, mw_s_rirr, mw_s_rrii, mw_s_rrir, mw_s_rrri, mw_s_rrrr, W89, b1, bi_eq0, CS_x hC, not_true]
      refine CW84 (k := 2) hC hg (by decide) (by decide) (fun M' hl ha hc => ?_)
      simp only [u106_14, Option.toList_some, List.cons_append, List.nil_append]
      exact hQ M' hl ha hc
    · obtain ⟨o, r, hO, _, hR, hA⟩ := MSu hC
      simp only [e185, u185_0, u185_1, u185_2, u185_3, u185_6, u185_9, u185_12, u185_13, u185_15, u185_19, u185_20, u185_21, u185_22, u185_23, u185_26, u185_27, u185_30, u185_31, u185_34, u185_37, u185_38, u185_39, u185_42, u185_43, u185_46, u185_49, u185_50, u185_53, mw_os, wp_ite, mw_sw, Option.toList_some, Option.toList_none, List.cons_append, List.nil_append, true_and, and_true, if_true, if_false, mw_s_, mw_s_i, mw_s_r, mw_s_ii, mw_s_ir, mw_s_ri, mw_s_rr, mw_s_iii, mw_s_iir, mw_s_iri, mw_s_irr, mw_s_rii, mw_s_rir, mw_s_rri, mw_s_rrr, mw_s_iiii, mw_s_iiir, mw_s_iiri, mw_s_iirr, mw_s_irii, mw_s_irir, mw_s_irri, mw_s_irrr, mw_s_riii, mw_s_riir, mw_s_riri, mw_s_rirr, mw_s_rrii, mw_s_rrir, mw_s_rrri, mw_s_rrrr, W146, b2, bi_eq0, OA_x hO, not_true]
      refine MW141 (k := 2) hC hg (by decide) (by decide) (fun M' hl ha hc => ?_)
      simp only [u185_18, Option.toList_some, List.cons_append, List.nil_append]
      exact hQ M' hl ha hc
end JS
