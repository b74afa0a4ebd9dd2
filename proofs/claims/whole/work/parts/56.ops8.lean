theorem cn_le {R : LV → Bool} : ∀ (f n : Nat) (u : LV), cn q2 R f n u ≤ 8 ^ n := by
  intro f
  induction f with
  | zero =>
    intro n u
    cases n with
    | zero => rw [cn_0]; split <;> decide
    | succ n => rw [cn_z]; exact Nat.zero_le _
  | succ f ih =>
    intro n u
    cases n with
    | zero => rw [cn_0]; split <;> decide
    | succ n =>
      have st : ∀ l, cnS q2 R f n u l ≤ 2 * 8 ^ n := by
        intro l
        cases hl : hasL u (nI l)
        · rw [cnS_n hl]; exact Nat.zero_le _
        · rw [cnS_2 hl]
          have h0 := ih n (fC u (nI l) (nI 0))
          have h1 := ih n (fC u (nI l) (nI 1))
          omega
      rw [cn_s, Nat.pow_succ]
      have h1 := st 1
      have h2 := st 2
      have h3 := st 3
      have h4 := st 4
      omega
section JW
variable {scr : List Int32} {n : Nat} {M : mm_M} {Q : Option Value → mm_M → Prop} {g : SG} {τ : QV} {s : Nat}
def cR (g : SG) : LV → Bool := fun u => shO u (sCv (gN g).1)
theorem cR_inv (hg : SGOK g) : ∀ u v, Lk u v → cR g v = cR g u := fun u v h => by
  obtain ⟨c, hc8, hcv⟩ := gCv hg
  unfold cR shO
  rw [hcv, h.1, h.2.1, h.2.2.2 c hc8]
theorem class_H (hg : SGOK g) (hk : QOK τ) {k : Nat} (hk4 : k ≤ 4) : gi (qH (exV (gN g).1 (4 - (gN g).2.1) (gU g) 0 0 0 (bgQ τ 1))) (nI k) = nI (cn q2 (cR g) 4 k (gU g)) := by
  have h0 : QHn (bgQ τ 1) (fun _ => 0) := ⟨(bgQ_ok hk).2, fun n hn => by
    show gi ((List.range 5).map (fun _ => 0)) (nI n) = nI 0
    rw [gi_map hn (by omega)]; rfl⟩
  have h := exV_H (w := (gN g).1) (τ0 := bgQ τ 1) rfl (4 - (gN g).2.1) 0 0 0 0 0 (gU g) (bgQ τ 1) (fun _ => 0) Same.rf (by omega) h0
  rw [nds_4 hg (fun _ => by show 2 ≤ 4; omega)] at h
  rw [h.2 k (by omega), hK_cnt, ← nds_cn (w := (gN g).1) 4 k 0 0 0 (gU g), Nat.zero_add, Nat.zero_add]
  congr 1
theorem J_ways (hg : SGOK g) (x1 : Int32) : JO scr 107 192 [.int x1] g := by
  rcases pk_ix x1 (n := 5) (by decide) with hy | hy | ⟨m, hm, rfl⟩
  · have hi : inB x1.toInt64 0 4 = false := (inB_eq x1 0 4).trans (decide_eq_false (fun z => Int32.not_lt.mpr z.1 hy))
    have n0 : ((0 : Int32) ≤ x1) ↔ False := iff_false_intro (fun z => Int32.not_lt.mpr z hy)
    refine ⟨.int (-nI 4), gRf g 4, gRf_ok hg, fun n M Q hC hQ => ?_, fun n M Q hC hQ => ?_⟩
    · simp only [e107, u107_0, u107_1, u107_4, u107_5, u107_7, u107_11, u107_12, u107_13, u107_16, u107_17, u107_19, u107_22, u107_23, u107_24, u107_27, u107_28, u107_31, u107_32, u107_35, u107_36, u107_39, u107_42, u107_43, u107_46, u107_47, u107_50, mw_os, wp_ite, mw_sw, Option.toList_some, Option.toList_none, List.cons_append, List.nil_append, true_and, and_true, if_true, if_false, mw_s_, mw_s_i, mw_s_r, mw_s_ii, mw_s_ir, mw_s_ri, mw_s_rr, mw_s_iii, mw_s_iir, mw_s_iri, mw_s_irr, mw_s_rii, mw_s_rir, mw_s_rri, mw_s_rrr, mw_s_iiii, mw_s_iiir, mw_s_iiri, mw_s_iirr, mw_s_irii, mw_s_irir, mw_s_irri, mw_s_irrr, mw_s_riii, mw_s_riir, mw_s_riri, mw_s_rirr, mw_s_rrii, mw_s_rrir, mw_s_rrri, mw_s_rrrr, CS_x hC, n0, hy]
      refine CW84 (k := 4) hC hg (by decide) (by decide) (fun M' hl ha hc => ?_)
      simp only [u107_10, Option.toList_some, List.cons_append, List.nil_append]
      exact hQ M' hl ha hc
    · obtain ⟨o, r, hO, _, hR, hA⟩ := MSu hC
      simp only [e192, u192_0, u192_1, u192_2, u192_3, u192_6, u192_9, u192_12, u192_13, u192_14, u192_17, u192_19, u192_22, u192_24, u192_28, u192_29, u192_30, u192_31, u192_32, u192_35, u192_36, u192_39, mw_os, wp_ite, mw_sw, Option.toList_some, Option.toList_none, List.cons_append, List.nil_append, true_and, and_true, if_true, if_false, mw_s_, mw_s_i, mw_s_r, mw_s_ii, mw_s_ir, mw_s_ri, mw_s_rr, mw_s_iii, mw_s_iir, mw_s_iri, mw_s_irr, mw_s_rii, mw_s_rir, mw_s_rri, mw_s_rrr, mw_s_iiii, mw_s_iiir, mw_s_iiri, mw_s_iirr, mw_s_irii, mw_s_irir, mw_s_irri, mw_s_irrr, mw_s_riii, mw_s_riir, mw_s_riri, mw_s_rirr, mw_s_rrii, mw_s_rrir, mw_s_rrri, mw_s_rrrr, W146, hi, bi_eq0, OA_x hO, n0, hy, not_true]
      refine MW141 (k := 4) hC hg (by decide) (by decide) (fun M' hl ha hc => ?_)
      simp only [u192_27, Option.toList_some, List.cons_append, List.nil_append]
      exact hQ M' hl ha hc
  · have h99 : (4 : Int32) < x1 := Int32.lt_of_lt_of_le (b := nI 5) (by decide +kernel) hy
    have hi : inB x1.toInt64 0 4 = false := (inB_eq x1 0 4).trans (decide_eq_false (fun z => Int32.not_lt.mpr z.2 h99))
    have n0 : (x1 < 0) ↔ False := iff_false_intro (fun z => absurd (Int32.lt_trans h99 z) (by decide))
    have n0' : ((0 : Int32) ≤ x1) ↔ True := iff_true_intro (Int32.not_lt.mp (fun z => absurd (Int32.lt_trans h99 z) (by decide)))
    have n1 : (x1 ≤ 4) ↔ False := iff_false_intro (fun z => Int32.not_lt.mpr z h99)
    refine ⟨.int (-nI 6), gRf g 6, gRf_ok hg, fun n M Q hC hQ => ?_, fun n M Q hC hQ => ?_⟩
    · simp only [e107, u107_0, u107_1, u107_4, u107_5, u107_7, u107_10, u107_11, u107_12, u107_13, u107_16, u107_17, u107_19, u107_23, u107_24, u107_27, u107_28, u107_31, u107_32, u107_35, u107_36, u107_39, u107_42, u107_43, u107_46, u107_47, u107_50, mw_os, wp_ite, mw_sw, Option.toList_some, Option.toList_none, List.cons_append, List.nil_append, true_and, and_true, if_true, if_false, mw_s_, mw_s_i, mw_s_r, mw_s_ii, mw_s_ir, mw_s_ri, mw_s_rr, mw_s_iii, mw_s_iir, mw_s_iri, mw_s_irr, mw_s_rii, mw_s_rir, mw_s_rri, mw_s_rrr, mw_s_iiii, mw_s_iiir, mw_s_iiri, mw_s_iirr, mw_s_irii, mw_s_irir, mw_s_irri, mw_s_irrr, mw_s_riii, mw_s_riir, mw_s_riri, mw_s_rirr, mw_s_rrii, mw_s_rrir, mw_s_rrri, mw_s_rrrr, CS_x hC, n0, n0', n1, h99]
      refine CW84 (k := 6) hC hg (by decide) (by decide) (fun M' hl ha hc => ?_)
      simp only [u107_22, Option.toList_some, List.cons_append, List.nil_append]
      exact hQ M' hl ha hc
    · obtain ⟨o, r, hO, _, hR, hA⟩ := MSu hC
      simp only [e192, u192_0, u192_1, u192_2, u192_3, u192_6, u192_9, u192_12, u192_13, u192_14, u192_17, u192_19, u192_22, u192_24, u192_28, u192_29, u192_30, u192_31, u192_32, u192_35, u192_36, u192_39, mw_os, wp_ite, mw_sw, Option.toList_some, Option.toList_none, List.cons_append, List.nil_append, true_and, and_true, if_true, if_false, mw_s_, mw_s_i, mw_s_r, mw_s_ii, mw_s_ir, mw_s_ri, mw_s_rr, mw_s_iii, mw_s_iir, mw_s_iri, mw_s_irr, mw_s_rii, mw_s_rir, mw_s_rri, mw_s_rrr, mw_s_iiii, mw_s_iiir, mw_s_iiri, mw_s_iirr, mw_s_irii, mw_s_irir, mw_s_irri, mw_s_irrr, mw_s_riii, mw_s_riir, mw_s_riri, mw_s_rirr, mw_s_rrii, mw_s_rrir, mw_s_rrri, mw_s_rrrr, W146, hi, bi_eq0, OA_x hO, n0, n0', not_true]
      refine MW141 (k := 6) hC hg (by decide) (by decide) (fun M' hl ha hc => ?_)
      simp only [u192_27, Option.toList_some, List.cons_append, List.nil_append]
      exact hQ M' hl ha hc
  · have hi : inB (nI m).toInt64 0 4 = true := (inB_eq (nI m) 0 4).trans (il_t (N := 4) hm (by decide))
    have n0 : (nI m < 0) ↔ False := iff_false_intro (nI_pos (by omega))
    have n0' : ((0 : Int32) ≤ nI m) ↔ True := iff_true_intro (nI_pos' (by omega))
    have n1 : ((4 : Int32) < nI m) ↔ False := iff_false_intro (nI_nlt (a := 4) (b := m) (by omega) (by decide))
    have n1' : (nI m ≤ 4) ↔ True := iff_true_intro (nI_le (a := m) (b := 4) (by omega) (by decide))
    obtain ⟨x, hG, _⟩ := gU_GT hg
    have hcn := cn_2 (cR_inv hg) 4 m (gU g) ⟨x, hG⟩
    have hle := cn_le (R := cR g) 4 m (gU g)
    have hp8 : 8 ^ m ≤ 8 ^ 4 := Nat.pow_le_pow_right (by decide) (by omega)
    have hp2 : 2 ^ m ≤ 2 ^ 4 := Nat.pow_le_pow_right (by decide) (by omega)
    have hbd : cn q2 (cR g) 4 m (gU g) * 2 ^ m < 2 ^ 32 := Nat.lt_of_le_of_lt (Nat.mul_le_mul (Nat.le_trans hle hp8) hp2) (by decide)
    have hsh : nI (cn q2 (cR g) 4 m (gU g)) <<< (nI m &&& 31) = nI (cn q4 (cR g) 4 m (gU g)) := by
      rw [hcn, Nat.mul_comm]
      exact pk_shlN _ m (by rcases (show m = 0 ∨ m = 1 ∨ m = 2 ∨ m = 3 ∨ m = 4 by omega) with rfl | rfl | rfl | rfl | rfl <;> decide +kernel) hbd
    refine ⟨.int (nI (cn q4 (cR g) 4 m (gU g))), g, hg, fun n M Q hC hQ => ?_, fun n M Q hC hQ => ?_⟩
    · obtain ⟨τ, hk, hq⟩ := CQ hC
      have hC1 : CS (pq M 121 (bgQ τ 1)) g := CS_pq hC hg (bgQ_ok hk)
      have hq1 : QA (pq M 121 (bgQ τ 1)) 121 (bgQ τ 1) := pq_QA (QA_len hq)
      simp only [u107_0, u107_1, u107_11, u107_12, u107_13, u107_23, u107_24, u107_27, u107_28, u107_31, u107_32, u107_35, u107_36, u107_39, e107, mw_os, wp_ite, mw_sw, Option.toList_some, Option.toList_none, List.cons_append, List.nil_append, true_and, and_true, if_true, if_false, mw_s_, mw_s_i, mw_s_r, mw_s_ii, mw_s_ir, mw_s_ri, mw_s_rr, mw_s_iii, mw_s_iir, mw_s_iri, mw_s_irr, mw_s_rii, mw_s_rir, mw_s_rri, mw_s_rrr, mw_s_iiii, mw_s_iiir, mw_s_iiri, mw_s_iirr, mw_s_irii, mw_s_irir, mw_s_irri, mw_s_irrr, mw_s_riii, mw_s_riir, mw_s_riri, mw_s_rirr, mw_s_rrii, mw_s_rrir, mw_s_rrri, mw_s_rrrr, mm_sto1, mm_clr, mm_isL, List.getElem?_cons_zero, List.getElem?_cons_succ, List.set_cons_zero, List.set_cons_succ, Bool.false_eq_true, n0, n0', n1, n1', CS_3 hC, QA_x hq, W54 hq hk, CS_3 hC1, CS_0 hC1, QA_x hq1]
      refine CW55 (n := n + 28) hC1 hg hq1 (bgQ_ok hk) (fun M' hl ha hC' hq' => ?_)
      simp only [u107_42, u107_43, u107_46, u107_47, u107_50, mw_os, wp_ite, mw_sw, Option.toList_some, Option.toList_none, List.cons_append, List.nil_append, true_and, and_true, if_true, if_false, mw_s_, mw_s_i, mw_s_r, mw_s_ii, mw_s_ir, mw_s_ri, mw_s_rr, mw_s_iii, mw_s_iir, mw_s_iri, mw_s_irr, mw_s_rii, mw_s_rir, mw_s_rri, mw_s_rrr, mw_s_iiii, mw_s_iiir, mw_s_iiri, mw_s_iirr, mw_s_irii, mw_s_irir, mw_s_irri, mw_s_irrr, mw_s_riii, mw_s_riir, mw_s_riri, mw_s_rirr, mw_s_rrii, mw_s_rrir, mw_s_rrri, mw_s_rrrr, mm_sto1, mm_clr, mm_isL, List.getElem?_cons_zero, List.getElem?_cons_succ, List.set_cons_zero, List.set_cons_succ, Bool.false_eq_true, CS_3 hC', QA_x hq', W65 hq' ((exV_same _).ok (bgQ_ok hk)) hm, class_H hg hk (show m ≤ 4 by omega), hsh]
      exact hQ M' (hl.trans (pq_len ..)) (Ag_tr (Ag_pq (by omega)) ha) hC'
    · obtain ⟨o, r, hO, _, hR', hA⟩ := MSu hC
      simp only [u192_0, u192_1, u192_2, u192_3, u192_6, u192_9, u192_28, u192_29, u192_30, u192_31, u192_32, e192, mw_os, wp_ite, mw_sw, Option.toList_some, Option.toList_none, List.cons_append, List.nil_append, true_and, and_true, if_true, if_false, mw_s_, mw_s_i, mw_s_r, mw_s_ii, mw_s_ir, mw_s_ri, mw_s_rr, mw_s_iii, mw_s_iir, mw_s_iri, mw_s_irr, mw_s_rii, mw_s_rir, mw_s_rri, mw_s_rrr, mw_s_iiii, mw_s_iiir, mw_s_iiri, mw_s_iirr, mw_s_irii, mw_s_irir, mw_s_irri, mw_s_irrr, mw_s_riii, mw_s_riir, mw_s_riri, mw_s_rirr, mw_s_rrii, mw_s_rrir, mw_s_rrri, mw_s_rrrr, mm_sto1, mm_clr, mm_isL, List.getElem?_cons_zero, List.getElem?_cons_succ, List.set_cons_zero, List.set_cons_succ, Bool.false_eq_true, W146, hi, bi_eq0, reduceCtorEq, not_false_eq_true, OA_x hO]
      refine W186 (n := n + 26) hg (Or.inr (Or.inl rfl)) hC (fun M' z9 hl ha hC' hO' => ?_)
      have hmany : ((nds q4 (gN g).1 4 0 0 0 (gU g)).foldl (mV 1 (nI m) 0 (sCv (gN g).1) (gT g)) (-9, -9, -9, 0)).2.2.2 = nI (cn q4 (cR g) 4 m (gU g)) := by
        rw [MN_all (p := fun x => decide (x.1 = 0 + m) && cR g x.2.2.2) (nds q4 (gN g).1 4 0 0 0 (gU g)) (-9, -9, -9, 0) 0 (fun σ x hx => ?_) rfl, nds_cn, Nat.zero_add]
        have hb := (nd_sm hg hx).2.1
        have hiff : (nI x.1 = nI m) ↔ x.1 = 0 + m := by rw [nI_eq (by omega) (by omega), Nat.zero_add]
        unfold mV mtV
        rw [if_neg (by decide), if_pos rfl]
        by_cases hh : nI x.1 = nI m ∧ shO x.2.2.2 (sCv (gN g).1) = true
        · rw [if_pos hh, if_pos (by rw [decide_eq_true (hiff.mp hh.1)]; exact hh.2)]
        · rw [if_neg hh, if_neg (fun z => by
            rw [Bool.and_eq_true] at z
            exact hh ⟨hiff.mpr (of_decide_eq_true z.1), z.2⟩)]
      have f17 : mm_fld (mc_X scr) M' (.ref 129) 6 17 = some (.int (nI (cn q4 (cR g) 4 m (gU g)))) := (OA_17 hO').trans (by
        show some (Value.int (((nds q4 (gN g).1 4 0 0 0 (gU g)).foldl (mV 1 (nI m) 0 (sCv (gN g).1) (gT g)) (-9, -9, -9, 0)).2.2.2)) = _
        rw [hmany])
      simp only [u192_35, u192_36, u192_39, mw_os, wp_ite, mw_sw, Option.toList_some, Option.toList_none, List.cons_append, List.nil_append, true_and, and_true, if_true, if_false, mw_s_, mw_s_i, mw_s_r, mw_s_ii, mw_s_ir, mw_s_ri, mw_s_rr, mw_s_iii, mw_s_iir, mw_s_iri, mw_s_irr, mw_s_rii, mw_s_rir, mw_s_rri, mw_s_rrr, mw_s_iiii, mw_s_iiir, mw_s_iiri, mw_s_iirr, mw_s_irii, mw_s_irir, mw_s_irri, mw_s_irrr, mw_s_riii, mw_s_riir, mw_s_riri, mw_s_rirr, mw_s_rrii, mw_s_rrir, mw_s_rrri, mw_s_rrrr, mm_sto1, mm_clr, mm_isL, List.getElem?_cons_zero, List.getElem?_cons_succ, List.set_cons_zero, List.set_cons_succ, Bool.false_eq_true, f17]
      exact hQ M' hl ha hC'
end JW
