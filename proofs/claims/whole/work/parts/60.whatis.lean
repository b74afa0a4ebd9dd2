/-! what a crease is, by its efforts -/
def ftB (g : SG) (K F : Int32) (j : Nat) : Bool := decide (sEf K F (gi (gT g) (nI (2 * j))) 1 = gi (gT g) (nI (2 * j + 1)))
def fit (g : SG) (K F : Int32) : Bool := (List.range' 0 (gTc g / 2)).all (ftB g K F)
def ftO (b : Nat → Bool) (N : Nat) : Int32 := (List.range' 0 N).foldl (fun s v => if b v = true then s ||| ((1 : Int32) <<< (nI v &&& 31)) else s) 0
section WI
variable {scr : List Int32} {n : Nat} {M : mm_M} {Q : Option Value → mm_M → Prop} {g : SG} {K F : Int32}
theorem nI_2p (i : Nat) : nI i + 2 = nI (i + 2) := nI_add i 2
theorem W128 (hC : CS M g) (hg : SGOK g) (he : gTc g % 2 = 0) : Wp scr (n + 3) 128 [.ref 0, .int K, .int F] M Q ↔ Q (some (.int (bi (fit g K F)))) M := by
  have hc16 := hg.2.2.1.2.1
  have hTl := hg.2.2.1.1
  have key : ∀ (k j : Nat), j + k = gTc g / 2 → (wp scr (n + 2) mb_128 2 [some (.ref 0), some (.int K), some (.int F), some (.int (nI (2 * j)))] [] M Q ↔ Q (some (.int (bi ((List.range' j k).all (ftB g K F))))) M) := by
    intro k
    induction k with
    | zero =>
      intro j hj
      have hle : (nI (gTc g) ≤ nI (2 * j + 1)) ↔ True := iff_true_intro (nI_le (by omega) (by omega))
      refine u128_2.trans ?_
      simp only [u128_3, u128_4, u128_5, u128_6, u128_9, u128_43, u128_44, mw_os, wp_ite, mw_sw, Option.toList_some, Option.toList_none, List.cons_append, List.nil_append, true_and, and_true, if_true, if_false, mw_s_, mw_s_i, mw_s_r, mw_s_ii, mw_s_ir, mw_s_ri, mw_s_rr, mw_s_iii, mw_s_iir, mw_s_iri, mw_s_irr, mw_s_rii, mw_s_rir, mw_s_rri, mw_s_rrr, mw_s_iiii, mw_s_iiir, mw_s_iiri, mw_s_iirr, mw_s_irii, mw_s_irir, mw_s_irri, mw_s_irrr, mw_s_riii, mw_s_riir, mw_s_riri, mw_s_rirr, mw_s_rrii, mw_s_rrir, mw_s_rrri, mw_s_rrrr, mm_sto1, mm_clr, mm_isL, List.getElem?_cons_zero, List.getElem?_cons_succ, List.set_cons_zero, List.set_cons_succ, Bool.false_eq_true, nI_1, CS_8 hC, hle]
      show _ ↔ Q (some (.int 1)) M
      simp
    | succ k ih =>
      intro j hj
      have hle : (nI (gTc g) ≤ nI (2 * j + 1)) ↔ False := iff_false_intro (nI_ge (by omega) (by omega))
      have a0 : mm_at (gT g) (nI (2 * j)) = some (gi (gT g) (nI (2 * j))) := gi_atN (by omega) (by omega)
      have a1 : mm_at (gT g) (nI (2 * j + 1)) = some (gi (gT g) (nI (2 * j + 1))) := gi_atN (by omega) (by omega)
      refine u128_2.trans ?_
      rw [show List.range' j (k + 1) = j :: List.range' (j + 1) k from rfl, List.all_cons]
      have hi2 := ih (j + 1) (by omega)
      rw [show 2 * (j + 1) = 2 * j + 2 by omega] at hi2
      cases hb : ftB g K F j
      · have hne : ¬ sEf K F (gi (gT g) (nI (2 * j))) 1 = gi (gT g) (nI (2 * j + 1)) := of_decide_eq_false hb
        simp only [u128_3, u128_4, u128_5, u128_6, u128_9, u128_12, u128_13, u128_14, u128_15, u128_18, u128_19, u128_20, u128_21, u128_24, u128_25, u128_28, u128_29, u128_30, u128_31, u128_32, u128_35, u128_36, mw_os, wp_ite, mw_sw, Option.toList_some, Option.toList_none, List.cons_append, List.nil_append, true_and, and_true, if_true, if_false, mw_s_, mw_s_i, mw_s_r, mw_s_ii, mw_s_ir, mw_s_ri, mw_s_rr, mw_s_iii, mw_s_iir, mw_s_iri, mw_s_irr, mw_s_rii, mw_s_rir, mw_s_rri, mw_s_rrr, mw_s_iiii, mw_s_iiir, mw_s_iiri, mw_s_iirr, mw_s_irii, mw_s_irir, mw_s_irri, mw_s_irrr, mw_s_riii, mw_s_riir, mw_s_riri, mw_s_rirr, mw_s_rrii, mw_s_rrir, mw_s_rrri, mw_s_rrrr, mm_sto1, mm_clr, mm_isL, List.getElem?_cons_zero, List.getElem?_cons_succ, List.set_cons_zero, List.set_cons_succ, Bool.false_eq_true, nI_1, CS_8 hC, hle, CS_6 hC, RA_ld (CT hC), a0, a1, W16, hne, Bool.false_and]
        simp [bi]
      · have hee : sEf K F (gi (gT g) (nI (2 * j))) 1 = gi (gT g) (nI (2 * j + 1)) := of_decide_eq_true hb
        simp only [u128_3, u128_4, u128_5, u128_6, u128_9, u128_12, u128_13, u128_14, u128_15, u128_18, u128_19, u128_20, u128_21, u128_24, u128_25, u128_28, u128_29, u128_30, u128_31, u128_32, u128_37, u128_40, mw_os, wp_ite, mw_sw, Option.toList_some, Option.toList_none, List.cons_append, List.nil_append, true_and, and_true, if_true, if_false, mw_s_, mw_s_i, mw_s_r, mw_s_ii, mw_s_ir, mw_s_ri, mw_s_rr, mw_s_iii, mw_s_iir, mw_s_iri, mw_s_irr, mw_s_rii, mw_s_rir, mw_s_rri, mw_s_rrr, mw_s_iiii, mw_s_iiir, mw_s_iiri, mw_s_iirr, mw_s_irii, mw_s_irir, mw_s_irri, mw_s_irrr, mw_s_riii, mw_s_riir, mw_s_riri, mw_s_rirr, mw_s_rrii, mw_s_rrir, mw_s_rrri, mw_s_rrrr, mm_sto1, mm_clr, mm_isL, List.getElem?_cons_zero, List.getElem?_cons_succ, List.set_cons_zero, List.set_cons_succ, Bool.false_eq_true, nI_1, CS_8 hC, hle, CS_6 hC, RA_ld (CT hC), a0, a1, W16, hee, Bool.true_and, nI_2p]
        exact hi2
  simp only [e128, u128_0, u128_1, mw_os, wp_ite, mw_sw, Option.toList_some, Option.toList_none, List.cons_append, List.nil_append, true_and, and_true, if_true, if_false, mw_s_, mw_s_i, mw_s_r, mw_s_ii, mw_s_ir, mw_s_ri, mw_s_rr, mw_s_iii, mw_s_iir, mw_s_iri, mw_s_irr, mw_s_rii, mw_s_rir, mw_s_rri, mw_s_rrr, mw_s_iiii, mw_s_iiir, mw_s_iiri, mw_s_iirr, mw_s_irii, mw_s_irir, mw_s_irri, mw_s_irrr, mw_s_riii, mw_s_riir, mw_s_riri, mw_s_rirr, mw_s_rrii, mw_s_rrir, mw_s_rrri, mw_s_rrrr, mm_sto1, mm_clr, mm_isL, List.getElem?_cons_zero, List.getElem?_cons_succ, List.set_cons_zero, List.set_cons_succ, Bool.false_eq_true]
  exact key (gTc g / 2) 0 (by omega)
theorem W212 (hC : MS M g) (hg : SGOK g) (he : gTc g % 2 = 0) : Wp scr (n + 3) 212 [.ref 129, .int K, .int F] M Q ↔ Q (some (.int (bi (fit g K F)))) M := by
  obtain ⟨o, r, hO, h1, hR, hA⟩ := MSu hC
  have e6 : o.1.2.1 = nI (gTc g) := by rw [h1]
  have hc16 := hg.2.2.1.2.1
  have hTl := hg.2.2.1.1
  have key : ∀ (k j : Nat), j + k = gTc g / 2 → (wp scr (n + 2) mb_212 2 [some (.ref 129), some (.int K), some (.int F), some (.int (nI (2 * j)))] [] M Q ↔ Q (some (.int (bi ((List.range' j k).all (ftB g K F))))) M) := by
    intro k
    induction k with
    | zero =>
      intro j hj
      have hle : (nI (gTc g) ≤ nI (2 * j)) ↔ True := iff_true_intro (nI_le (by omega) (by omega))
      refine u212_2.trans ?_
      simp only [u212_3, u212_4, u212_7, u212_41, u212_42, mw_os, wp_ite, mw_sw, Option.toList_some, Option.toList_none, List.cons_append, List.nil_append, true_and, and_true, if_true, if_false, mw_s_, mw_s_i, mw_s_r, mw_s_ii, mw_s_ir, mw_s_ri, mw_s_rr, mw_s_iii, mw_s_iir, mw_s_iri, mw_s_irr, mw_s_rii, mw_s_rir, mw_s_rri, mw_s_rrr, mw_s_iiii, mw_s_iiir, mw_s_iiri, mw_s_iirr, mw_s_irii, mw_s_irir, mw_s_irri, mw_s_irrr, mw_s_riii, mw_s_riir, mw_s_riri, mw_s_rirr, mw_s_rrii, mw_s_rrir, mw_s_rrri, mw_s_rrrr, mm_sto1, mm_clr, mm_isL, List.getElem?_cons_zero, List.getElem?_cons_succ, List.set_cons_zero, List.set_cons_succ, Bool.false_eq_true, OA_6 hO, e6, hle]
      show _ ↔ Q (some (.int 1)) M
      simp
    | succ k ih =>
      intro j hj
      have hle : (nI (gTc g) ≤ nI (2 * j)) ↔ False := iff_false_intro (nI_ge (by omega) (by omega))
      have a0 : mm_at (gT g) (nI (2 * j)) = some (gi (gT g) (nI (2 * j))) := gi_atN (by omega) (by omega)
      have a1 : mm_at (gT g) (nI (2 * j + 1)) = some (gi (gT g) (nI (2 * j + 1))) := gi_atN (by omega) (by omega)
      have w159 : ∀ Q : Option Value → mm_M → Prop, Wp scr (n + 2) 159 [.int K, .int F, .int (gi (gT g) (nI (2 * j))), .int 1] M Q ↔ Q (some (.int (sEf K F (gi (gT g) (nI (2 * j))) 1))) M := fun Q => by
        rw [← mEf_eq (Or.inl rfl)]
        exact W159
      refine u212_2.trans ?_
      rw [show List.range' j (k + 1) = j :: List.range' (j + 1) k from rfl, List.all_cons]
      have hi2 := ih (j + 1) (by omega)
      rw [show 2 * (j + 1) = 2 * j + 2 by omega] at hi2
      cases hb : ftB g K F j
      · have hne : ¬ sEf K F (gi (gT g) (nI (2 * j))) 1 = gi (gT g) (nI (2 * j + 1)) := of_decide_eq_false hb
        simp only [u212_3, u212_4, u212_7, u212_10, u212_11, u212_12, u212_13, u212_16, u212_17, u212_18, u212_19, u212_22, u212_23, u212_26, u212_27, u212_28, u212_29, u212_30, u212_33, u212_34, mw_os, wp_ite, mw_sw, Option.toList_some, Option.toList_none, List.cons_append, List.nil_append, true_and, and_true, if_true, if_false, mw_s_, mw_s_i, mw_s_r, mw_s_ii, mw_s_ir, mw_s_ri, mw_s_rr, mw_s_iii, mw_s_iir, mw_s_iri, mw_s_irr, mw_s_rii, mw_s_rir, mw_s_rri, mw_s_rrr, mw_s_iiii, mw_s_iiir, mw_s_iiri, mw_s_iirr, mw_s_irii, mw_s_irir, mw_s_irri, mw_s_irrr, mw_s_riii, mw_s_riir, mw_s_riri, mw_s_rirr, mw_s_rrii, mw_s_rrir, mw_s_rrri, mw_s_rrrr, mm_sto1, mm_clr, mm_isL, List.getElem?_cons_zero, List.getElem?_cons_succ, List.set_cons_zero, List.set_cons_succ, Bool.false_eq_true, OA_5 hO, OA_6 hO, e6, hle, RA_ld (MT hC), a0, a1, w159, nI_1, hne, Bool.false_and]
        simp [bi]
      · have hee : sEf K F (gi (gT g) (nI (2 * j))) 1 = gi (gT g) (nI (2 * j + 1)) := of_decide_eq_true hb
        simp only [u212_3, u212_4, u212_7, u212_10, u212_11, u212_12, u212_13, u212_16, u212_17, u212_18, u212_19, u212_22, u212_23, u212_26, u212_27, u212_28, u212_29, u212_30, u212_35, u212_38, mw_os, wp_ite, mw_sw, Option.toList_some, Option.toList_none, List.cons_append, List.nil_append, true_and, and_true, if_true, if_false, mw_s_, mw_s_i, mw_s_r, mw_s_ii, mw_s_ir, mw_s_ri, mw_s_rr, mw_s_iii, mw_s_iir, mw_s_iri, mw_s_irr, mw_s_rii, mw_s_rir, mw_s_rri, mw_s_rrr, mw_s_iiii, mw_s_iiir, mw_s_iiri, mw_s_iirr, mw_s_irii, mw_s_irir, mw_s_irri, mw_s_irrr, mw_s_riii, mw_s_riir, mw_s_riri, mw_s_rirr, mw_s_rrii, mw_s_rrir, mw_s_rrri, mw_s_rrrr, mm_sto1, mm_clr, mm_isL, List.getElem?_cons_zero, List.getElem?_cons_succ, List.set_cons_zero, List.set_cons_succ, Bool.false_eq_true, OA_5 hO, OA_6 hO, e6, hle, RA_ld (MT hC), a0, a1, w159, nI_1, hee, Bool.true_and, nI_2p]
        exact hi2
  simp only [e212, u212_0, u212_1, mw_os, wp_ite, mw_sw, Option.toList_some, Option.toList_none, List.cons_append, List.nil_append, true_and, and_true, if_true, if_false, mw_s_, mw_s_i, mw_s_r, mw_s_ii, mw_s_ir, mw_s_ri, mw_s_rr, mw_s_iii, mw_s_iir, mw_s_iri, mw_s_irr, mw_s_rii, mw_s_rir, mw_s_rri, mw_s_rrr, mw_s_iiii, mw_s_iiir, mw_s_iiri, mw_s_iirr, mw_s_irii, mw_s_irir, mw_s_irri, mw_s_irrr, mw_s_riii, mw_s_riir, mw_s_riri, mw_s_rirr, mw_s_rrii, mw_s_rrir, mw_s_rrri, mw_s_rrrr, mm_sto1, mm_clr, mm_isL, List.getElem?_cons_zero, List.getElem?_cons_succ, List.set_cons_zero, List.set_cons_succ, Bool.false_eq_true]
  exact key (gTc g / 2) 0 (by omega)
theorem W127 (hC : CS M g) (hg : SGOK g) (he : gTc g % 2 = 0) : Wp scr (n + 4) 127 [.ref 0, .int F] M Q ↔ Q (some (.int (ftO (fun v => fit g (nI v) F) 6))) M := by
  have key := nf_loop (N := 6) (Φ := fun i (s : Int32) => wp scr (n + 3) mb_127 4 [some (.ref 0), some (.int F), some (.int s), some (.int (nI i))] [] M Q) (Ψ := fun s => Q (some (.int s)) M) (step := fun s v => if fit g (nI v) F = true then s ||| ((1 : Int32) <<< (nI v &&& 31)) else s)
    (fun i s hi => u127_4.trans (by
      have h6 : ((6 : Int32) ≤ nI i) ↔ False := iff_false_intro (nI_ge hi (by decide))
      simp only [e127, u127_0, u127_1, u127_2, u127_3, u127_5, u127_7, u127_10, u127_11, u127_12, u127_13, u127_16, u127_19, u127_20, u127_21, u127_22, u127_23, u127_24, u127_25, u127_28, u127_31, u127_32, mw_os, wp_ite, mw_sw, Option.toList_some, Option.toList_none, List.cons_append, List.nil_append, true_and, and_true, if_true, if_false, mw_s_, mw_s_i, mw_s_r, mw_s_ii, mw_s_ir, mw_s_ri, mw_s_rr, mw_s_iii, mw_s_iir, mw_s_iri, mw_s_irr, mw_s_rii, mw_s_rir, mw_s_rri, mw_s_rrr, mw_s_iiii, mw_s_iiir, mw_s_iiri, mw_s_iirr, mw_s_irii, mw_s_irir, mw_s_irri, mw_s_irrr, mw_s_riii, mw_s_riir, mw_s_riri, mw_s_rirr, mw_s_rrii, mw_s_rrir, mw_s_rrri, mw_s_rrrr, mm_sto1, mm_clr, mm_isL, List.getElem?_cons_zero, List.getElem?_cons_succ, List.set_cons_zero, List.set_cons_succ, Bool.false_eq_true, h6, CS_x hC, W128 hC hg he, bi_eq0, nI_1]
      cases fit g (nI i) F <;> simp))
    (fun s => u127_4.trans (by
      have h6 : ((6 : Int32) ≤ nI 6) ↔ True := iff_true_intro (by decide +kernel)
      simp only [e127, u127_0, u127_1, u127_2, u127_3, u127_5, u127_7, u127_10, u127_11, u127_12, u127_13, u127_16, u127_19, u127_20, u127_21, u127_22, u127_23, u127_24, u127_25, u127_28, u127_31, u127_32, mw_os, wp_ite, mw_sw, Option.toList_some, Option.toList_none, List.cons_append, List.nil_append, true_and, and_true, if_true, if_false, mw_s_, mw_s_i, mw_s_r, mw_s_ii, mw_s_ir, mw_s_ri, mw_s_rr, mw_s_iii, mw_s_iir, mw_s_iri, mw_s_irr, mw_s_rii, mw_s_rir, mw_s_rri, mw_s_rrr, mw_s_iiii, mw_s_iiir, mw_s_iiri, mw_s_iirr, mw_s_irii, mw_s_irir, mw_s_irri, mw_s_irrr, mw_s_riii, mw_s_riir, mw_s_riri, mw_s_rirr, mw_s_rrii, mw_s_rrir, mw_s_rrri, mw_s_rrrr, h6])) 6 0 0 rfl
  unfold ftO
  rw [← key]
  simp only [e127, u127_0, u127_1, u127_2, u127_3, mm_sto1, mm_clr, mm_isL, List.getElem?_cons_zero, List.getElem?_cons_succ, List.set_cons_zero, List.set_cons_succ, Bool.false_eq_true, mw_os, wp_ite, mw_sw, Option.toList_some, Option.toList_none, List.cons_append, List.nil_append, true_and, and_true, if_true, if_false, mw_s_, mw_s_i, mw_s_r, mw_s_ii, mw_s_ir, mw_s_ri, mw_s_rr, mw_s_iii, mw_s_iir, mw_s_iri, mw_s_irr, mw_s_rii, mw_s_rir, mw_s_rri, mw_s_rrr, mw_s_iiii, mw_s_iiir, mw_s_iiri, mw_s_iirr, mw_s_irii, mw_s_irir, mw_s_irri, mw_s_irrr, mw_s_riii, mw_s_riir, mw_s_riri, mw_s_rirr, mw_s_rrii, mw_s_rrir, mw_s_rrri, mw_s_rrrr]
  exact Iff.rfl
theorem W129 (hC : CS M g) (hg : SGOK g) (he : gTc g % 2 = 0) : Wp scr (n + 4) 129 [.ref 0, .int K] M Q ↔ Q (some (.int (ftO (fun v => fit g K (nI v)) 10))) M := by
  have key := nf_loop (N := 10) (Φ := fun i (s : Int32) => wp scr (n + 3) mb_129 4 [some (.ref 0), some (.int K), some (.int s), some (.int (nI i))] [] M Q) (Ψ := fun s => Q (some (.int s)) M) (step := fun s v => if fit g K (nI v) = true then s ||| ((1 : Int32) <<< (nI v &&& 31)) else s)
    (fun i s hi => u129_4.trans (by
      have h6 : ((9 : Int32) < nI i) ↔ False := iff_false_intro (nI_nlt (a := 9) (b := i) (by omega) (by decide))
      simp only [e129, u129_0, u129_1, u129_2, u129_3, u129_5, u129_7, u129_10, u129_11, u129_12, u129_13, u129_16, u129_19, u129_20, u129_21, u129_22, u129_23, u129_24, u129_25, u129_28, u129_31, u129_32, mw_os, wp_ite, mw_sw, Option.toList_some, Option.toList_none, List.cons_append, List.nil_append, true_and, and_true, if_true, if_false, mw_s_, mw_s_i, mw_s_r, mw_s_ii, mw_s_ir, mw_s_ri, mw_s_rr, mw_s_iii, mw_s_iir, mw_s_iri, mw_s_irr, mw_s_rii, mw_s_rir, mw_s_rri, mw_s_rrr, mw_s_iiii, mw_s_iiir, mw_s_iiri, mw_s_iirr, mw_s_irii, mw_s_irir, mw_s_irri, mw_s_irrr, mw_s_riii, mw_s_riir, mw_s_riri, mw_s_rirr, mw_s_rrii, mw_s_rrir, mw_s_rrri, mw_s_rrrr, mm_sto1, mm_clr, mm_isL, List.getElem?_cons_zero, List.getElem?_cons_succ, List.set_cons_zero, List.set_cons_succ, Bool.false_eq_true, h6, CS_x hC, W128 hC hg he, bi_eq0, nI_1]
      cases fit g K (nI i) <;> simp))
    (fun s => u129_4.trans (by
      have h6 : ((9 : Int32) < nI 10) ↔ True := iff_true_intro (by decide +kernel)
      simp only [e129, u129_0, u129_1, u129_2, u129_3, u129_5, u129_7, u129_10, u129_11, u129_12, u129_13, u129_16, u129_19, u129_20, u129_21, u129_22, u129_23, u129_24, u129_25, u129_28, u129_31, u129_32, mw_os, wp_ite, mw_sw, Option.toList_some, Option.toList_none, List.cons_append, List.nil_append, true_and, and_true, if_true, if_false, mw_s_, mw_s_i, mw_s_r, mw_s_ii, mw_s_ir, mw_s_ri, mw_s_rr, mw_s_iii, mw_s_iir, mw_s_iri, mw_s_irr, mw_s_rii, mw_s_rir, mw_s_rri, mw_s_rrr, mw_s_iiii, mw_s_iiir, mw_s_iiri, mw_s_iirr, mw_s_irii, mw_s_irir, mw_s_irri, mw_s_irrr, mw_s_riii, mw_s_riir, mw_s_riri, mw_s_rirr, mw_s_rrii, mw_s_rrir, mw_s_rrri, mw_s_rrrr, h6])) 10 0 0 rfl
  unfold ftO
  rw [← key]
  simp only [e129, u129_0, u129_1, u129_2, u129_3, mm_sto1, mm_clr, mm_isL, List.getElem?_cons_zero, List.getElem?_cons_succ, List.set_cons_zero, List.set_cons_succ, Bool.false_eq_true, mw_os, wp_ite, mw_sw, Option.toList_some, Option.toList_none, List.cons_append, List.nil_append, true_and, and_true, if_true, if_false, mw_s_, mw_s_i, mw_s_r, mw_s_ii, mw_s_ir, mw_s_ri, mw_s_rr, mw_s_iii, mw_s_iir, mw_s_iri, mw_s_irr, mw_s_rii, mw_s_rir, mw_s_rri, mw_s_rrr, mw_s_iiii, mw_s_iiir, mw_s_iiri, mw_s_iirr, mw_s_irii, mw_s_irir, mw_s_irri, mw_s_irrr, mw_s_riii, mw_s_riir, mw_s_riri, mw_s_rirr, mw_s_rrii, mw_s_rrir, mw_s_rrri, mw_s_rrrr]
  exact Iff.rfl
theorem J_whatIs (hg : SGOK g) (x1 x2 : Int32) : JO scr 126 211 [.int x1, .int x2] g := by
  have z1 : ((1 : Int32) = 0) ↔ False := by decide
  have z01 : ((0 : Int32) = 1) ↔ False := by decide
  have hc16 := hg.2.2.1.2.1
  have hrem : nI (gTc g) - nI (gTc g) / 2 * 2 = nI (gTc g % 2) := pk_rem (d := 2) (by omega) (by omega) (by omega)
  rcases ixc x1 (N := 10) (by decide) with ⟨j, hj, rfl⟩ | hx
  · have b1 : decide ((0 : Int32) ≤ nI j ∧ nI j < 10) = true := ib_t hj (by decide)
    have b2 : decide ((0 : Int32) ≤ nI j ∧ nI j ≤ 9) = true := il_t (N := 9) hj (by decide)
    rcases two x2 with h2 | hy
    · have k1 : decide ((0 : Int32) ≤ x2 ∧ x2 < 2) = true := by rcases h2 with rfl | rfl <;> decide
      have k2 : inB x2.toInt64 0 1 = true := (inB_eq x2 0 1).trans (by rcases h2 with rfl | rfl <;> decide)
      by_cases he : gTc g % 2 = 0
      · have hr0 : nI (gTc g) - nI (gTc g) / 2 * 2 = 0 := by rw [hrem, he]; rfl
        refine ⟨.int (if x2 = 0 then ftO (fun v => fit g (nI v) (gi (sF (gN g).1) (nI j))) 6 else ftO (fun v => fit g (gi (sK (gN g).1) (nI j)) (nI v)) 10), g, hg, fun n M Q hC hQ => ?_, fun n M Q hC hQ => ?_⟩
        · have hq := Csame hC hQ
          have d2 : ((2 : Int32) = 0) ↔ False := by decide
          simp only [e126, u126_0, u126_1, u126_3, u126_6, u126_9, u126_10, u126_11, u126_14, u126_15, u126_16, u126_17, u126_20, u126_23, u126_24, u126_26, u126_29, u126_30, u126_31, u126_34, u126_35, u126_36, u126_39, u126_40, u126_42, u126_45, u126_46, u126_47, u126_50, u126_51, u126_52, u126_55, u126_58, u126_59, u126_60, u126_63, u126_66, u126_67, u126_68, u126_71, u126_74, u126_75, u126_76, u126_79, mw_os, wp_ite, mw_sw, Option.toList_some, Option.toList_none, List.cons_append, List.nil_append, true_and, and_true, if_true, if_false, mw_s_, mw_s_i, mw_s_r, mw_s_ii, mw_s_ir, mw_s_ri, mw_s_rr, mw_s_iii, mw_s_iir, mw_s_iri, mw_s_irr, mw_s_rii, mw_s_rir, mw_s_rri, mw_s_rrr, mw_s_iiii, mw_s_iiir, mw_s_iiri, mw_s_iirr, mw_s_irii, mw_s_irir, mw_s_irri, mw_s_irrr, mw_s_riii, mw_s_riir, mw_s_riri, mw_s_rirr, mw_s_rrii, mw_s_rrir, mw_s_rrri, mw_s_rrrr, mm_sto1, mm_clr, mm_isL, List.getElem?_cons_zero, List.getElem?_cons_succ, List.set_cons_zero, List.set_cons_succ, Bool.false_eq_true, W89, b1, k1, bi_eq0, reduceCtorEq, not_false_eq_true, not_true, CS_x hC, CS_8 hC, d2, hr0, CS_0 hC, NS_1 hC, NS_2 hC, NS_k hC, NS_f hC, gK_at hg hj, gF_at hg hj, W127 hC hg he, W129 hC hg he]
          rcases h2 with rfl | rfl <;> exact hq
        · have hq := Msame hC hQ
          obtain ⟨o, r, hO, h1, hR, hA⟩ := MSu hC
          have e6 : o.1.2.1 = nI (gTc g) := by rw [h1]
          have d2 : ((2 : Int32) = 0) ↔ False := by decide
          have rK' : mm_at (rowL r) (nI j) = some (gi (sK (gN g).1) (nI j)) := (rd_K hR.1 hj).trans (by rw [hR.2.1])
          have rF' : mm_at (rowL r) (nI (10 + j)) = some (gi (sF (gN g).1) (nI j)) := (rd_F hR.1 hj).trans (by rw [hR.2.2.1])
          simp only [u211_0, u211_1, u211_4, u211_13, u211_14, u211_15, u211_16, u211_17, u211_20, u211_30, u211_31, u211_34, u211_35, u211_36, u211_37, u211_47, u211_48, u211_49, u211_50, e211, mw_os, wp_ite, mw_sw, Option.toList_some, Option.toList_none, List.cons_append, List.nil_append, true_and, and_true, if_true, if_false, mw_s_, mw_s_i, mw_s_r, mw_s_ii, mw_s_ir, mw_s_ri, mw_s_rr, mw_s_iii, mw_s_iir, mw_s_iri, mw_s_irr, mw_s_rii, mw_s_rir, mw_s_rri, mw_s_rrr, mw_s_iiii, mw_s_iiir, mw_s_iiri, mw_s_iirr, mw_s_irii, mw_s_irir, mw_s_irri, mw_s_irrr, mw_s_riii, mw_s_riir, mw_s_riri, mw_s_rirr, mw_s_rrii, mw_s_rrir, mw_s_rrri, mw_s_rrrr, mm_sto1, mm_clr, mm_isL, List.getElem?_cons_zero, List.getElem?_cons_succ, List.set_cons_zero, List.set_cons_succ, Bool.false_eq_true, W166, b2, W146, k2, bi_eq0, reduceCtorEq, not_false_eq_true, OA_6 hO, e6, d2, hr0, z01]
          have loop : ∀ (N : Nat) (b : Nat → Bool), (∀ i s, i < N → ∀ l5, (wp scr (n + 39) mb_211 52 [some (.ref 129), some (.int (nI j)), some (.int x2), some (.int s), some (.int (nI i)), l5] [] M Q ↔ wp scr (n + 39) mb_211 52 [some (.ref 129), some (.int (nI j)), some (.int x2), some (.int (if b i = true then s ||| ((1 : Int32) <<< (nI i &&& 31)) else s)), some (.int (nI (i + 1))), some (.int (bi (b i)))] [] M Q)) → (∀ s l5, wp scr (n + 39) mb_211 52 [some (.ref 129), some (.int (nI j)), some (.int x2), some (.int s), some (.int (nI N)), l5] [] M Q ↔ Q (some (.int s)) M) → ∀ (k i : Nat) (s : Int32) l5, i + k = N → (wp scr (n + 39) mb_211 52 [some (.ref 129), some (.int (nI j)), some (.int x2), some (.int s), some (.int (nI i)), l5] [] M Q ↔ Q (some (.int ((List.range' i k).foldl (fun s v => if b v = true then s ||| ((1 : Int32) <<< (nI v &&& 31)) else s) s))) M) := by
            intro N b hs he' k
            induction k with
            | zero =>
              intro i s l5 hi
              have : i = N := by omega
              subst this
              exact he' s l5
            | succ k ih =>
              intro i s l5 hi
              rw [show List.range' i (k + 1) = i :: List.range' (i + 1) k from rfl, List.foldl_cons]
              exact (hs i s (by omega) l5).trans (ih (i + 1) _ _ (by omega))
          rcases h2 with rfl | rfl
          · refine (loop 6 (fun v => fit g (nI v) (gi (sF (gN g).1) (nI j))) (fun i s hi l5 => ?_) (fun s l5 => ?_) 6 0 0 none rfl).mpr hq
            · have h6 : ((6 : Int32) ≤ nI i) ↔ False := iff_false_intro (nI_ge hi (by decide))
              refine u211_52.trans ?_
              simp only [u211_54, u211_55, u211_58, u211_60, u211_65, u211_68, u211_69, u211_72, u211_73, u211_75, u211_76, u211_79, u211_81, u211_82, u211_83, u211_84, u211_87, u211_104, u211_106, u211_107, u211_109, u211_112, u211_113, u211_115, u211_116, u211_119, u211_120, u211_121, u211_122, u211_125, mw_os, wp_ite, mw_sw, Option.toList_some, Option.toList_none, List.cons_append, List.nil_append, true_and, and_true, if_true, if_false, mw_s_, mw_s_i, mw_s_r, mw_s_ii, mw_s_ir, mw_s_ri, mw_s_rr, mw_s_iii, mw_s_iir, mw_s_iri, mw_s_irr, mw_s_rii, mw_s_rir, mw_s_rri, mw_s_rrr, mw_s_iiii, mw_s_iiir, mw_s_iiri, mw_s_iirr, mw_s_irii, mw_s_irir, mw_s_irri, mw_s_irrr, mw_s_riii, mw_s_riir, mw_s_riri, mw_s_rirr, mw_s_rrii, mw_s_rrir, mw_s_rrri, mw_s_rrrr, mm_sto1, mm_clr, mm_isL, List.getElem?_cons_zero, List.getElem?_cons_succ, List.set_cons_zero, List.set_cons_succ, Bool.false_eq_true, h6, not_true, OA_0 hO, OA_x hO, RA_ld hA, c10, rF', W212 hC hg he, bi_eq0, nI_1]
              cases fit g (nI i) (gi (sF (gN g).1) (nI j)) <;> simp
            · have h6 : ((6 : Int32) ≤ nI 6) ↔ True := iff_true_intro (by decide +kernel)
              refine u211_52.trans ?_
              simp only [u211_54, u211_55, u211_58, u211_60, u211_65, u211_128, u211_129, mw_os, wp_ite, mw_sw, Option.toList_some, Option.toList_none, List.cons_append, List.nil_append, true_and, and_true, if_true, if_false, mw_s_, mw_s_i, mw_s_r, mw_s_ii, mw_s_ir, mw_s_ri, mw_s_rr, mw_s_iii, mw_s_iir, mw_s_iri, mw_s_irr, mw_s_rii, mw_s_rir, mw_s_rri, mw_s_rrr, mw_s_iiii, mw_s_iiir, mw_s_iiri, mw_s_iirr, mw_s_irii, mw_s_irir, mw_s_irri, mw_s_irrr, mw_s_riii, mw_s_riir, mw_s_riri, mw_s_rirr, mw_s_rrii, mw_s_rrir, mw_s_rrri, mw_s_rrrr, mm_sto1, mm_clr, mm_isL, List.getElem?_cons_zero, List.getElem?_cons_succ, List.set_cons_zero, List.set_cons_succ, Bool.false_eq_true, h6, not_true]
          · refine (loop 10 (fun v => fit g (gi (sK (gN g).1) (nI j)) (nI v)) (fun i s hi l5 => ?_) (fun s l5 => ?_) 10 0 0 none rfl).mpr hq
            · refine u211_52.trans ?_
              simp only [u211_54, u211_55, u211_63, u211_65, u211_68, u211_69, u211_90, u211_91, u211_92, u211_95, u211_96, u211_97, u211_98, u211_99, u211_101, u211_104, u211_106, u211_107, u211_109, u211_112, u211_113, u211_115, u211_116, u211_119, u211_120, u211_121, u211_122, u211_125, mw_os, wp_ite, mw_sw, Option.toList_some, Option.toList_none, List.cons_append, List.nil_append, true_and, and_true, if_true, if_false, mw_s_, mw_s_i, mw_s_r, mw_s_ii, mw_s_ir, mw_s_ri, mw_s_rr, mw_s_iii, mw_s_iir, mw_s_iri, mw_s_irr, mw_s_rii, mw_s_rir, mw_s_rri, mw_s_rrr, mw_s_iiii, mw_s_iiir, mw_s_iiri, mw_s_iirr, mw_s_irii, mw_s_irir, mw_s_irri, mw_s_irrr, mw_s_riii, mw_s_riir, mw_s_riri, mw_s_rirr, mw_s_rrii, mw_s_rrir, mw_s_rrri, mw_s_rrrr, mm_sto1, mm_clr, mm_isL, List.getElem?_cons_zero, List.getElem?_cons_succ, List.set_cons_zero, List.set_cons_succ, Bool.false_eq_true, nle10 hi, z1, not_false_eq_true, OA_0 hO, OA_x hO, RA_ld hA, c0, rK', W212 hC hg he, bi_eq0, nI_1]
              cases fit g (gi (sK (gN g).1) (nI j)) (nI i) <;> simp
            · refine u211_52.trans ?_
              simp only [u211_54, u211_55, u211_63, u211_65, u211_128, u211_129, mw_os, wp_ite, mw_sw, Option.toList_some, Option.toList_none, List.cons_append, List.nil_append, true_and, and_true, if_true, if_false, mw_s_, mw_s_i, mw_s_r, mw_s_ii, mw_s_ir, mw_s_ri, mw_s_rr, mw_s_iii, mw_s_iir, mw_s_iri, mw_s_irr, mw_s_rii, mw_s_rir, mw_s_rri, mw_s_rrr, mw_s_iiii, mw_s_iiir, mw_s_iiri, mw_s_iirr, mw_s_irii, mw_s_irir, mw_s_irri, mw_s_irrr, mw_s_riii, mw_s_riir, mw_s_riri, mw_s_rirr, mw_s_rrii, mw_s_rrir, mw_s_rrri, mw_s_rrrr, mm_sto1, mm_clr, mm_isL, List.getElem?_cons_zero, List.getElem?_cons_succ, List.set_cons_zero, List.set_cons_succ, Bool.false_eq_true, nle10e, z1, not_false_eq_true]
      · have h1c : gTc g % 2 = 1 := by omega
        have hr1 : nI (gTc g) - nI (gTc g) / 2 * 2 = 1 := by rw [hrem, h1c]; rfl
        have d2 : ((2 : Int32) = 0) ↔ False := by decide
        refine ⟨.int (-nI 3), gRf g 3, gRf_ok hg, fun n M Q hC hQ => ?_, fun n M Q hC hQ => ?_⟩
        · simp only [e126, u126_0, u126_1, u126_3, u126_6, u126_9, u126_10, u126_11, u126_14, u126_15, u126_16, u126_17, u126_20, u126_23, u126_24, u126_26, u126_29, u126_30, u126_31, u126_34, u126_35, u126_36, u126_39, u126_40, u126_42, u126_46, u126_47, u126_50, u126_51, u126_52, u126_55, u126_58, u126_59, u126_60, u126_63, u126_66, u126_67, u126_68, u126_71, u126_74, u126_75, u126_76, u126_79, mw_os, wp_ite, mw_sw, Option.toList_some, Option.toList_none, List.cons_append, List.nil_append, true_and, and_true, if_true, if_false, mw_s_, mw_s_i, mw_s_r, mw_s_ii, mw_s_ir, mw_s_ri, mw_s_rr, mw_s_iii, mw_s_iir, mw_s_iri, mw_s_irr, mw_s_rii, mw_s_rir, mw_s_rri, mw_s_rrr, mw_s_iiii, mw_s_iiir, mw_s_iiri, mw_s_iirr, mw_s_irii, mw_s_irir, mw_s_irri, mw_s_irrr, mw_s_riii, mw_s_riir, mw_s_riri, mw_s_rirr, mw_s_rrii, mw_s_rrir, mw_s_rrri, mw_s_rrrr, mm_sto1, mm_clr, mm_isL, List.getElem?_cons_zero, List.getElem?_cons_succ, List.set_cons_zero, List.set_cons_succ, Bool.false_eq_true, W89, b1, k1, bi_eq0, reduceCtorEq, not_false_eq_true, CS_x hC, CS_8 hC, d2, hr1, z1]
          refine CW84 (k := 3) hC hg (by decide) (by decide) (fun M' hl ha hc => ?_)
          simp only [u126_45, Option.toList_some, List.cons_append, List.nil_append]
          exact hQ M' hl ha hc
        · obtain ⟨o, r, hO, h1, hR, hA⟩ := MSu hC
          have e6 : o.1.2.1 = nI (gTc g) := by rw [h1]
          simp only [u211_0, u211_1, u211_4, u211_13, u211_14, u211_15, u211_16, u211_17, u211_20, u211_30, u211_31, u211_34, u211_35, u211_36, u211_37, u211_40, u211_41, u211_43, e211, mw_os, wp_ite, mw_sw, Option.toList_some, Option.toList_none, List.cons_append, List.nil_append, true_and, and_true, if_true, if_false, mw_s_, mw_s_i, mw_s_r, mw_s_ii, mw_s_ir, mw_s_ri, mw_s_rr, mw_s_iii, mw_s_iir, mw_s_iri, mw_s_irr, mw_s_rii, mw_s_rir, mw_s_rri, mw_s_rrr, mw_s_iiii, mw_s_iiir, mw_s_iiri, mw_s_iirr, mw_s_irii, mw_s_irir, mw_s_irri, mw_s_irrr, mw_s_riii, mw_s_riir, mw_s_riri, mw_s_rirr, mw_s_rrii, mw_s_rrir, mw_s_rrri, mw_s_rrrr, mm_sto1, mm_clr, mm_isL, List.getElem?_cons_zero, List.getElem?_cons_succ, List.set_cons_zero, List.set_cons_succ, Bool.false_eq_true, W166, b2, W146, k2, bi_eq0, reduceCtorEq, not_false_eq_true, OA_6 hO, e6, d2, hr1, not_true, OA_x hO]
          refine MW141 (k := 3) hC hg (by decide) (by decide) (fun M' hl ha hc => ?_)
          simp only [u211_46, Option.toList_some, List.cons_append, List.nil_append]
          exact hQ M' hl ha hc
    · have k1 : decide ((0 : Int32) ≤ x2 ∧ x2 < 2) = false := ib_f (N := 2) hy
      have k2 : inB x2.toInt64 0 1 = false := (inB_eq x2 0 1).trans (il_f (N := 1) (by decide) hy)
      refine ⟨.int (-nI 2), gRf g 2, gRf_ok hg, fun n M Q hC hQ => ?_, fun n M Q hC hQ => ?_⟩
      · simp only [e126, u126_0, u126_1, u126_3, u126_6, u126_9, u126_10, u126_11, u126_14, u126_15, u126_16, u126_17, u126_20, u126_23, u126_24, u126_26, u126_30, u126_31, u126_34, u126_35, u126_36, u126_39, u126_40, u126_42, u126_45, u126_46, u126_47, u126_50, u126_51, u126_52, u126_55, u126_58, u126_59, u126_60, u126_63, u126_66, u126_67, u126_68, u126_71, u126_74, u126_75, u126_76, u126_79, mw_os, wp_ite, mw_sw, Option.toList_some, Option.toList_none, List.cons_append, List.nil_append, true_and, and_true, if_true, if_false, mw_s_, mw_s_i, mw_s_r, mw_s_ii, mw_s_ir, mw_s_ri, mw_s_rr, mw_s_iii, mw_s_iir, mw_s_iri, mw_s_irr, mw_s_rii, mw_s_rir, mw_s_rri, mw_s_rrr, mw_s_iiii, mw_s_iiir, mw_s_iiri, mw_s_iirr, mw_s_irii, mw_s_irir, mw_s_irri, mw_s_irrr, mw_s_riii, mw_s_riir, mw_s_riri, mw_s_rirr, mw_s_rrii, mw_s_rrir, mw_s_rrri, mw_s_rrrr, mm_sto1, mm_clr, mm_isL, List.getElem?_cons_zero, List.getElem?_cons_succ, List.set_cons_zero, List.set_cons_succ, Bool.false_eq_true, W89, b1, k1, bi_eq0, reduceCtorEq, not_false_eq_true, CS_x hC, not_true]
        refine CW84 (k := 2) hC hg (by decide) (by decide) (fun M' hl ha hc => ?_)
        simp only [u126_29, Option.toList_some, List.cons_append, List.nil_append]
        exact hQ M' hl ha hc
      · obtain ⟨o, r, hO, h1, hR, hA⟩ := MSu hC
        simp only [u211_0, u211_1, u211_4, u211_13, u211_14, u211_15, u211_16, u211_17, u211_20, u211_23, u211_24, u211_26, e211, mw_os, wp_ite, mw_sw, Option.toList_some, Option.toList_none, List.cons_append, List.nil_append, true_and, and_true, if_true, if_false, mw_s_, mw_s_i, mw_s_r, mw_s_ii, mw_s_ir, mw_s_ri, mw_s_rr, mw_s_iii, mw_s_iir, mw_s_iri, mw_s_irr, mw_s_rii, mw_s_rir, mw_s_rri, mw_s_rrr, mw_s_iiii, mw_s_iiir, mw_s_iiri, mw_s_iirr, mw_s_irii, mw_s_irir, mw_s_irri, mw_s_irrr, mw_s_riii, mw_s_riir, mw_s_riri, mw_s_rirr, mw_s_rrii, mw_s_rrir, mw_s_rrri, mw_s_rrrr, mm_sto1, mm_clr, mm_isL, List.getElem?_cons_zero, List.getElem?_cons_succ, List.set_cons_zero, List.set_cons_succ, Bool.false_eq_true, W166, b2, W146, k2, bi_eq0, reduceCtorEq, not_false_eq_true, OA_x hO, not_true]
        refine MW141 (k := 2) hC hg (by decide) (by decide) (fun M' hl ha hc => ?_)
        simp only [u211_29, Option.toList_some, List.cons_append, List.nil_append]
        exact hQ M' hl ha hc
  · have b1 : decide ((0 : Int32) ≤ x1 ∧ x1 < 10) = false := ib_f (N := 10) hx
    have b2 : decide ((0 : Int32) ≤ x1 ∧ x1 ≤ 9) = false := il_f (N := 9) (by decide) hx
    refine ⟨.int (-nI 1), gRf g 1, gRf_ok hg, fun n M Q hC hQ => ?_, fun n M Q hC hQ => ?_⟩
    · simp only [e126, u126_0, u126_1, u126_3, u126_6, u126_9, u126_10, u126_11, u126_15, u126_16, u126_17, u126_20, u126_23, u126_24, u126_26, u126_29, u126_30, u126_31, u126_34, u126_35, u126_36, u126_39, u126_40, u126_42, u126_45, u126_46, u126_47, u126_50, u126_51, u126_52, u126_55, u126_58, u126_59, u126_60, u126_63, u126_66, u126_67, u126_68, u126_71, u126_74, u126_75, u126_76, u126_79, mw_os, wp_ite, mw_sw, Option.toList_some, Option.toList_none, List.cons_append, List.nil_append, true_and, and_true, if_true, if_false, mw_s_, mw_s_i, mw_s_r, mw_s_ii, mw_s_ir, mw_s_ri, mw_s_rr, mw_s_iii, mw_s_iir, mw_s_iri, mw_s_irr, mw_s_rii, mw_s_rir, mw_s_rri, mw_s_rrr, mw_s_iiii, mw_s_iiir, mw_s_iiri, mw_s_iirr, mw_s_irii, mw_s_irir, mw_s_irri, mw_s_irrr, mw_s_riii, mw_s_riir, mw_s_riri, mw_s_rirr, mw_s_rrii, mw_s_rrir, mw_s_rrri, mw_s_rrrr, mm_sto1, mm_clr, mm_isL, List.getElem?_cons_zero, List.getElem?_cons_succ, List.set_cons_zero, List.set_cons_succ, Bool.false_eq_true, W89, b1, bi_eq0, CS_x hC, not_true]
      refine CW84 (k := 1) hC hg (by decide) (by decide) (fun M' hl ha hc => ?_)
      simp only [u126_14, Option.toList_some, List.cons_append, List.nil_append]
      exact hQ M' hl ha hc
    · obtain ⟨o, r, hO, h1, hR, hA⟩ := MSu hC
      simp only [u211_0, u211_1, u211_4, u211_7, u211_8, u211_9, e211, mw_os, wp_ite, mw_sw, Option.toList_some, Option.toList_none, List.cons_append, List.nil_append, true_and, and_true, if_true, if_false, mw_s_, mw_s_i, mw_s_r, mw_s_ii, mw_s_ir, mw_s_ri, mw_s_rr, mw_s_iii, mw_s_iir, mw_s_iri, mw_s_irr, mw_s_rii, mw_s_rir, mw_s_rri, mw_s_rrr, mw_s_iiii, mw_s_iiir, mw_s_iiri, mw_s_iirr, mw_s_irii, mw_s_irir, mw_s_irri, mw_s_irrr, mw_s_riii, mw_s_riir, mw_s_riri, mw_s_rirr, mw_s_rrii, mw_s_rrir, mw_s_rrri, mw_s_rrrr, mm_sto1, mm_clr, mm_isL, List.getElem?_cons_zero, List.getElem?_cons_succ, List.set_cons_zero, List.set_cons_succ, Bool.false_eq_true, W166, b2, bi_eq0, OA_x hO, not_true]
      refine MW141 (k := 1) hC hg (by decide) (by decide) (fun M' hl ha hc => ?_)
      simp only [u211_12, Option.toList_some, List.cons_append, List.nil_append]
      exact hQ M' hl ha hc
end WI
