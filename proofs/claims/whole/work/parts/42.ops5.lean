/-! ten bits -/
def flA (bs : List Bool) : Int32 := (List.range' 0 10).foldl (fun s i => s ||| (if bs.getD i false = true then ((1 : Int32) <<< (nI i &&& 31)) else 0)) 0
def fcA (bs : List Bool) : Int32 := (List.range' 0 10).foldl (fun s i => if bs.getD i false = true then s else s ||| ((1 : Int32) <<< (nI i &&& 31))) 0
def flQ (bs : List Bool) : Bool := decide (flA bs = 1023 - fcA bs) && decide (1023 &&& (flA bs ^^^ (-1)) = fcA bs) && (List.range 10).all (fun k => foB (flA bs) k == bs.getD k false)
set_option maxRecDepth 100000 in
theorem fl_all : ∀ b0 b1 b2 b3 b4 b5 b6 b7 b8 b9 : Bool, flQ [b0, b1, b2, b3, b4, b5, b6, b7, b8, b9] = true := by decide +kernel
def b10 (f : Nat → Bool) : List Bool := [f 0, f 1, f 2, f 3, f 4, f 5, f 6, f 7, f 8, f 9]
theorem b10_q (f : Nat → Bool) : flQ (b10 f) = true := fl_all ..
theorem b10_bit (f : Nat → Bool) {k : Nat} (hk : k < 10) : foB (flA (b10 f)) k = f k := by
  have h := b10_q f
  unfold flQ at h
  rw [Bool.and_eq_true, Bool.and_eq_true] at h
  have h2 := List.all_eq_true.mp h.2 k (List.mem_range.mpr hk)
  rw [eq_of_beq h2]
  rcases (show k = 0 ∨ k = 1 ∨ k = 2 ∨ k = 3 ∨ k = 4 ∨ k = 5 ∨ k = 6 ∨ k = 7 ∨ k = 8 ∨ k = 9 by omega) with rfl | rfl | rfl | rfl | rfl | rfl | rfl | rfl | rfl | rfl <;> rfl
theorem r10 : List.range' 0 10 = [0, 1, 2, 3, 4, 5, 6, 7, 8, 9] := rfl
theorem flA_eq (f : Nat → Bool) : (List.range' 0 10).foldl (fun (s : Int32) i => s ||| (if f i = true then ((1 : Int32) <<< (nI i &&& 31)) else 0)) 0 = flA (b10 f) := by
  unfold flA
  rw [r10]
  rfl
theorem fcA_eq (f : Nat → Bool) : (List.range' 0 10).foldl (fun (s : Int32) i => if f i = true then s else s ||| ((1 : Int32) <<< (nI i &&& 31))) 0 = fcA (b10 f) := by
  unfold fcA
  rw [r10]
  rfl
def mFl (S : List Int32) : Int32 := (List.range' 0 10).foldl (fun s i => s ||| (if gi S (nI i) = 0 then ((1 : Int32) <<< (nI i &&& 31)) else 0)) 0
theorem mFl_eq (S : List Int32) : mFl S = flA (b10 (fun i => decide (gi S (nI i) = 0))) := by
  rw [← flA_eq]
  unfold mFl
  simp only [decide_eq_true_eq]
theorem vFc_eq (u : LV) : vFc u = fcA (b10 (fun i => decide (gi (vS u) (nI i) = 0))) := by
  rw [← fcA_eq]
  unfold vFc
  simp only [decide_eq_true_eq]
theorem mFl_1 (u : LV) : mFl (vS u) = 1023 - vFc u := by
  have h := b10_q (fun i => decide (gi (vS u) (nI i) = 0))
  unfold flQ at h
  rw [Bool.and_eq_true, Bool.and_eq_true] at h
  rw [mFl_eq, vFc_eq]
  exact of_decide_eq_true h.1.1
theorem mFl_2 (u : LV) : 1023 &&& (mFl (vS u) ^^^ (-1)) = vFc u := by
  have h := b10_q (fun i => decide (gi (vS u) (nI i) = 0))
  unfold flQ at h
  rw [Bool.and_eq_true, Bool.and_eq_true] at h
  rw [mFl_eq, vFc_eq]
  exact of_decide_eq_true h.1.2
theorem mCr_bit {P S : List Int32} {r : Bool} {cut : Int32} {k : Nat} (hk : k < 10) : foB (mCr P S r cut) k = decide (mMe P r cut k = true ∧ gi S (nI k) = 0) := by
  have : mCr P S r cut = flA (b10 (fun i => decide (mMe P r cut i = true ∧ gi S (nI i) = 0))) := by
    rw [← flA_eq]
    unfold mCr mCrs
    simp only [decide_eq_true_eq]
  rw [this, b10_bit _ hk]
section O5
variable {scr : List Int32} {n : Nat} {M : mm_M} {Q : Option Value → mm_M → Prop} {g : SG} {x1 x2 : Int32}
theorem W184 {o : OV} {r : RV} (hO : OA M o) (hA : RA M 130 (rowL r)) (hr : ROK r) : Wp scr (n + 1) 184 [.ref 129] M Q ↔ Q (some (.int (mFl (rS r)))) M := by
  have key := nf_loop (N := 10) (Φ := fun i (s : Int32) => wp scr n mb_184 4 [some (.ref 129), some (.int s), some (.int (nI i))] [] M Q) (Ψ := fun s => Q (some (.int s)) M) (step := fun s i => s ||| (if gi (rS r) (nI i) = 0 then ((1 : Int32) <<< (nI i &&& 31)) else 0))
    (fun i s hi => u184_4.trans (by
      simp only [e184, u184_0, u184_1, u184_2, u184_3, u184_5, u184_7, u184_10, u184_11, u184_12, u184_15, u184_17, u184_18, u184_19, u184_20, u184_23, u184_24, u184_25, u184_26, u184_29, u184_30, u184_31, u184_32, u184_35, u184_38, u184_39, mw_os, wp_ite, mw_sw, Option.toList_some, Option.toList_none, List.cons_append, List.nil_append, true_and, and_true, if_true, if_false, mw_s_, mw_s_i, mw_s_r, mw_s_ii, mw_s_ir, mw_s_ri, mw_s_rr, mw_s_iii, mw_s_iir, mw_s_iri, mw_s_irr, mw_s_rii, mw_s_rir, mw_s_rri, mw_s_rrr, mw_s_iiii, mw_s_iiir, mw_s_iiri, mw_s_iirr, mw_s_irii, mw_s_irir, mw_s_irri, mw_s_irrr, mw_s_riii, mw_s_riir, mw_s_riri, mw_s_rirr, mw_s_rrii, mw_s_rrir, mw_s_rrri, mw_s_rrrr, mm_sto1, mm_clr, mm_isL, List.getElem?_cons_zero, List.getElem?_cons_succ, List.set_cons_zero, List.set_cons_succ, Bool.false_eq_true, nle10 hi, OA_0 hO, RA_ld hA, c30, rd_S hr hi, nI_1]
      by_cases h : gi (rS r) (nI i) = 0 <;> simp [h]))
    (fun s => u184_4.trans (by simp only [e184, u184_0, u184_1, u184_2, u184_3, u184_5, u184_7, u184_10, u184_11, u184_12, u184_15, u184_17, u184_18, u184_19, u184_20, u184_23, u184_24, u184_25, u184_26, u184_29, u184_30, u184_31, u184_32, u184_35, u184_38, u184_39, mw_os, wp_ite, mw_sw, Option.toList_some, Option.toList_none, List.cons_append, List.nil_append, true_and, and_true, if_true, if_false, mw_s_, mw_s_i, mw_s_r, mw_s_ii, mw_s_ir, mw_s_ri, mw_s_rr, mw_s_iii, mw_s_iir, mw_s_iri, mw_s_irr, mw_s_rii, mw_s_rir, mw_s_rri, mw_s_rrr, mw_s_iiii, mw_s_iiir, mw_s_iiri, mw_s_iirr, mw_s_irii, mw_s_irir, mw_s_irri, mw_s_irrr, mw_s_riii, mw_s_riir, mw_s_riri, mw_s_rirr, mw_s_rrii, mw_s_rrir, mw_s_rrri, mw_s_rrrr, nle10e])) 10 0 0 rfl
  unfold mFl
  rw [← key]
  simp only [e184, u184_0, u184_1, u184_2, u184_3, mm_sto1, mm_clr, mm_isL, List.getElem?_cons_zero, List.getElem?_cons_succ, List.set_cons_zero, List.set_cons_succ, Bool.false_eq_true, mw_os, wp_ite, mw_sw, Option.toList_some, Option.toList_none, List.cons_append, List.nil_append, true_and, and_true, if_true, if_false, mw_s_, mw_s_i, mw_s_r, mw_s_ii, mw_s_ir, mw_s_ri, mw_s_rr, mw_s_iii, mw_s_iir, mw_s_iri, mw_s_irr, mw_s_rii, mw_s_rir, mw_s_rri, mw_s_rrr, mw_s_iiii, mw_s_iiir, mw_s_iiri, mw_s_iirr, mw_s_irii, mw_s_irir, mw_s_irri, mw_s_irrr, mw_s_riii, mw_s_riir, mw_s_riri, mw_s_rirr, mw_s_rrii, mw_s_rrir, mw_s_rrri, mw_s_rrrr]
  exact Iff.rfl
theorem J_weakest (hg : SGOK g) (x1 : Int32) : JO scr 118 205 [.int x1] g := by
  have l1 : ((3 : Int32) ≤ 1) ↔ False := by decide
  have l2 : ((3 : Int32) ≤ 2) ↔ False := by decide
  have l3 : ((3 : Int32) ≤ 3) ↔ True := by decide
  have p1 : (1 : Int32) + 1 = 2 := by decide
  have p2 : (2 : Int32) + 1 = 3 := by decide
  rcases thr x1 with h3 | hx
  · have b1 : decide ((0 : Int32) ≤ x1 ∧ x1 < 3) = true := by rcases h3 with rfl | rfl | rfl <;> decide
    have b2 : inB x1.toInt64 0 2 = true := (inB_eq x1 0 2).trans (by rcases h3 with rfl | rfl | rfl <;> decide)
    refine ⟨.int (if x1 = 2 then hlO (sWo (gN g).1) else if x1 = 0 then (if wAt (sWo (gN g).1) 0 < wAt (sWo (gN g).1) 1 then (if wAt (sWo (gN g).1) 1 < wAt (sWo (gN g).1) 2 then 2 else 1) else (if wAt (sWo (gN g).1) 0 < wAt (sWo (gN g).1) 2 then 2 else 0)) else (if wAt (sWo (gN g).1) 0 < wAt (sWo (gN g).1) 1 then (if wAt (sWo (gN g).1) 1 < wAt (sWo (gN g).1) 2 then wAt (sWo (gN g).1) 2 else wAt (sWo (gN g).1) 1) else (if wAt (sWo (gN g).1) 0 < wAt (sWo (gN g).1) 2 then wAt (sWo (gN g).1) 2 else wAt (sWo (gN g).1) 0))), g, hg, fun n M Q hC hQ => ?_, fun n M Q hC hQ => ?_⟩
    · have hq := Csame hC hQ
      have w0 : ∀ Q : Option Value → mm_M → Prop, Wp scr (n + 39) 80 [.ref 1, .int 0] M Q ↔ Q (some (.int (wAt (sWo (gN g).1) 0))) M := fun Q => W80 (i := 0) (NS hC) (gSOK hg) (by decide)
      have w1 : ∀ Q : Option Value → mm_M → Prop, Wp scr (n + 39) 80 [.ref 1, .int 1] M Q ↔ Q (some (.int (wAt (sWo (gN g).1) 1))) M := fun Q => W80 (i := 1) (NS hC) (gSOK hg) (by decide)
      have w2 : ∀ Q : Option Value → mm_M → Prop, Wp scr (n + 39) 80 [.ref 1, .int 2] M Q ↔ Q (some (.int (wAt (sWo (gN g).1) 2))) M := fun Q => W80 (i := 2) (NS hC) (gSOK hg) (by decide)
      have w3 : ∀ Q : Option Value → mm_M → Prop, Wp scr (n + 39) 79 [.ref 1] M Q ↔ Q (some (.int (hlO (sWo (gN g).1)))) M := fun Q => W79 (NS hC) (gSOK hg)
      generalize wAt (sWo (gN g).1) 0 = A at *
      generalize wAt (sWo (gN g).1) 1 = B at *
      generalize wAt (sWo (gN g).1) 2 = D at *
      by_cases c1 : A < B
      · have c1' : ¬ B ≤ A := Int32.not_le.mpr c1
        by_cases c2 : B < D
        · have c2' : ¬ D ≤ B := Int32.not_le.mpr c2
          simp only [e118, u118_0, u118_1, u118_2, u118_5, u118_8, u118_9, u118_11, u118_14, u118_15, u118_16, u118_17, u118_20, u118_21, u118_24, u118_27, u118_28, u118_29, u118_30, u118_31, u118_32, u118_33, u118_34, u118_37, u118_38, u118_41, u118_42, u118_45, u118_46, u118_49, u118_50, u118_53, u118_56, u118_57, u118_58, u118_61, u118_64, u118_65, u118_68, u118_69, u118_72, u118_73, u118_76, u118_77, u118_80, mw_os, wp_ite, mw_sw, Option.toList_some, Option.toList_none, List.cons_append, List.nil_append, true_and, and_true, if_true, if_false, mw_s_, mw_s_i, mw_s_r, mw_s_ii, mw_s_ir, mw_s_ri, mw_s_rr, mw_s_iii, mw_s_iir, mw_s_iri, mw_s_irr, mw_s_rii, mw_s_rir, mw_s_rri, mw_s_rrr, mw_s_iiii, mw_s_iiir, mw_s_iiri, mw_s_iirr, mw_s_irii, mw_s_irir, mw_s_irri, mw_s_irrr, mw_s_riii, mw_s_riir, mw_s_riri, mw_s_rirr, mw_s_rrii, mw_s_rrir, mw_s_rrri, mw_s_rrrr, mm_sto1, mm_clr, mm_isL, List.getElem?_cons_zero, List.getElem?_cons_succ, List.set_cons_zero, List.set_cons_succ, Bool.false_eq_true, W89, b1, bi_eq0, reduceCtorEq, not_false_eq_true, CS_0 hC, NS_x hC, l1, l2, l3, p1, p2, w0, w1, w2, w3, c1, c1', c2, c2'] at hq ⊢
          rcases h3 with rfl | rfl | rfl <;> exact hq
        · have c2' : D ≤ B := Int32.not_lt.mp c2
          simp only [e118, u118_0, u118_1, u118_2, u118_5, u118_8, u118_9, u118_11, u118_14, u118_15, u118_16, u118_17, u118_20, u118_21, u118_24, u118_27, u118_28, u118_29, u118_30, u118_31, u118_32, u118_33, u118_34, u118_37, u118_38, u118_41, u118_42, u118_45, u118_46, u118_49, u118_50, u118_53, u118_56, u118_57, u118_58, u118_61, u118_64, u118_65, u118_68, u118_69, u118_72, u118_73, u118_76, u118_77, u118_80, mw_os, wp_ite, mw_sw, Option.toList_some, Option.toList_none, List.cons_append, List.nil_append, true_and, and_true, if_true, if_false, mw_s_, mw_s_i, mw_s_r, mw_s_ii, mw_s_ir, mw_s_ri, mw_s_rr, mw_s_iii, mw_s_iir, mw_s_iri, mw_s_irr, mw_s_rii, mw_s_rir, mw_s_rri, mw_s_rrr, mw_s_iiii, mw_s_iiir, mw_s_iiri, mw_s_iirr, mw_s_irii, mw_s_irir, mw_s_irri, mw_s_irrr, mw_s_riii, mw_s_riir, mw_s_riri, mw_s_rirr, mw_s_rrii, mw_s_rrir, mw_s_rrri, mw_s_rrrr, mm_sto1, mm_clr, mm_isL, List.getElem?_cons_zero, List.getElem?_cons_succ, List.set_cons_zero, List.set_cons_succ, Bool.false_eq_true, W89, b1, bi_eq0, reduceCtorEq, not_false_eq_true, CS_0 hC, NS_x hC, l1, l2, l3, p1, p2, w0, w1, w2, w3, c1, c1', c2, c2'] at hq ⊢
          rcases h3 with rfl | rfl | rfl <;> exact hq
      · have c1' : B ≤ A := Int32.not_lt.mp c1
        by_cases c2 : A < D
        · have c2' : ¬ D ≤ A := Int32.not_le.mpr c2
          simp only [e118, u118_0, u118_1, u118_2, u118_5, u118_8, u118_9, u118_11, u118_14, u118_15, u118_16, u118_17, u118_20, u118_21, u118_24, u118_27, u118_28, u118_29, u118_30, u118_31, u118_32, u118_33, u118_34, u118_37, u118_38, u118_41, u118_42, u118_45, u118_46, u118_49, u118_50, u118_53, u118_56, u118_57, u118_58, u118_61, u118_64, u118_65, u118_68, u118_69, u118_72, u118_73, u118_76, u118_77, u118_80, mw_os, wp_ite, mw_sw, Option.toList_some, Option.toList_none, List.cons_append, List.nil_append, true_and, and_true, if_true, if_false, mw_s_, mw_s_i, mw_s_r, mw_s_ii, mw_s_ir, mw_s_ri, mw_s_rr, mw_s_iii, mw_s_iir, mw_s_iri, mw_s_irr, mw_s_rii, mw_s_rir, mw_s_rri, mw_s_rrr, mw_s_iiii, mw_s_iiir, mw_s_iiri, mw_s_iirr, mw_s_irii, mw_s_irir, mw_s_irri, mw_s_irrr, mw_s_riii, mw_s_riir, mw_s_riri, mw_s_rirr, mw_s_rrii, mw_s_rrir, mw_s_rrri, mw_s_rrrr, mm_sto1, mm_clr, mm_isL, List.getElem?_cons_zero, List.getElem?_cons_succ, List.set_cons_zero, List.set_cons_succ, Bool.false_eq_true, W89, b1, bi_eq0, reduceCtorEq, not_false_eq_true, CS_0 hC, NS_x hC, l1, l2, l3, p1, p2, w0, w1, w2, w3, c1, c1', c2, c2'] at hq ⊢
          rcases h3 with rfl | rfl | rfl <;> exact hq
        · have c2' : D ≤ A := Int32.not_lt.mp c2
          simp only [e118, u118_0, u118_1, u118_2, u118_5, u118_8, u118_9, u118_11, u118_14, u118_15, u118_16, u118_17, u118_20, u118_21, u118_24, u118_27, u118_28, u118_29, u118_30, u118_31, u118_32, u118_33, u118_34, u118_37, u118_38, u118_41, u118_42, u118_45, u118_46, u118_49, u118_50, u118_53, u118_56, u118_57, u118_58, u118_61, u118_64, u118_65, u118_68, u118_69, u118_72, u118_73, u118_76, u118_77, u118_80, mw_os, wp_ite, mw_sw, Option.toList_some, Option.toList_none, List.cons_append, List.nil_append, true_and, and_true, if_true, if_false, mw_s_, mw_s_i, mw_s_r, mw_s_ii, mw_s_ir, mw_s_ri, mw_s_rr, mw_s_iii, mw_s_iir, mw_s_iri, mw_s_irr, mw_s_rii, mw_s_rir, mw_s_rri, mw_s_rrr, mw_s_iiii, mw_s_iiir, mw_s_iiri, mw_s_iirr, mw_s_irii, mw_s_irir, mw_s_irri, mw_s_irrr, mw_s_riii, mw_s_riir, mw_s_riri, mw_s_rirr, mw_s_rrii, mw_s_rrir, mw_s_rrri, mw_s_rrrr, mm_sto1, mm_clr, mm_isL, List.getElem?_cons_zero, List.getElem?_cons_succ, List.set_cons_zero, List.set_cons_succ, Bool.false_eq_true, W89, b1, bi_eq0, reduceCtorEq, not_false_eq_true, CS_0 hC, NS_x hC, l1, l2, l3, p1, p2, w0, w1, w2, w3, c1, c1', c2, c2'] at hq ⊢
          rcases h3 with rfl | rfl | rfl <;> exact hq
    · have hq := Msame hC hQ
      obtain ⟨o, r, hO, _, hR, hA⟩ := MSu hC
      have hO2 := hR.2.2.2.1
      have w0 : ∀ Q : Option Value → mm_M → Prop, Wp scr (n + 39) 200 [.ref 130, .int 0] M Q ↔ Q (some (.int (wAt (sWo (gN g).1) 0))) M := fun Q => by rw [← hO2]; exact W200 (i := 0) hA hR.1 (by decide)
      have w1 : ∀ Q : Option Value → mm_M → Prop, Wp scr (n + 39) 200 [.ref 130, .int 1] M Q ↔ Q (some (.int (wAt (sWo (gN g).1) 1))) M := fun Q => by rw [← hO2]; exact W200 (i := 1) hA hR.1 (by decide)
      have w2 : ∀ Q : Option Value → mm_M → Prop, Wp scr (n + 39) 200 [.ref 130, .int 2] M Q ↔ Q (some (.int (wAt (sWo (gN g).1) 2))) M := fun Q => by rw [← hO2]; exact W200 (i := 2) hA hR.1 (by decide)
      have w3 : ∀ Q : Option Value → mm_M → Prop, Wp scr (n + 39) 199 [.ref 130] M Q ↔ Q (some (.int (hlO (sWo (gN g).1)))) M := fun Q => by rw [← hO2]; exact W199 hA hR.1
      generalize wAt (sWo (gN g).1) 0 = A at *
      generalize wAt (sWo (gN g).1) 1 = B at *
      generalize wAt (sWo (gN g).1) 2 = D at *
      by_cases c1 : A < B
      · have c1' : ¬ B ≤ A := Int32.not_le.mpr c1
        by_cases c2 : B < D
        · have c2' : ¬ D ≤ B := Int32.not_le.mpr c2
          simp only [e205, u205_0, u205_1, u205_2, u205_3, u205_6, u205_9, u205_12, u205_13, u205_15, u205_18, u205_19, u205_20, u205_21, u205_22, u205_23, u205_24, u205_25, u205_28, u205_29, u205_32, u205_33, u205_36, u205_37, u205_40, u205_41, u205_44, u205_47, u205_48, u205_51, u205_52, u205_53, u205_56, u205_59, u205_60, u205_63, u205_64, u205_67, u205_68, u205_69, u205_72, u205_73, u205_76, u205_77, u205_80, u205_83, u205_84, u205_87, u205_90, mw_os, wp_ite, mw_sw, Option.toList_some, Option.toList_none, List.cons_append, List.nil_append, true_and, and_true, if_true, if_false, mw_s_, mw_s_i, mw_s_r, mw_s_ii, mw_s_ir, mw_s_ri, mw_s_rr, mw_s_iii, mw_s_iir, mw_s_iri, mw_s_irr, mw_s_rii, mw_s_rir, mw_s_rri, mw_s_rrr, mw_s_iiii, mw_s_iiir, mw_s_iiri, mw_s_iirr, mw_s_irii, mw_s_irir, mw_s_irri, mw_s_irrr, mw_s_riii, mw_s_riir, mw_s_riri, mw_s_rirr, mw_s_rrii, mw_s_rrir, mw_s_rrri, mw_s_rrrr, mm_sto1, mm_clr, mm_isL, List.getElem?_cons_zero, List.getElem?_cons_succ, List.set_cons_zero, List.set_cons_succ, Bool.false_eq_true, W146, b2, bi_eq0, reduceCtorEq, not_false_eq_true, OA_0 hO, l1, l2, l3, p1, p2, w0, w1, w2, w3, c1, c1', c2, c2'] at hq ⊢
          rcases h3 with rfl | rfl | rfl <;> exact hq
        · have c2' : D ≤ B := Int32.not_lt.mp c2
          simp only [e205, u205_0, u205_1, u205_2, u205_3, u205_6, u205_9, u205_12, u205_13, u205_15, u205_18, u205_19, u205_20, u205_21, u205_22, u205_23, u205_24, u205_25, u205_28, u205_29, u205_32, u205_33, u205_36, u205_37, u205_40, u205_41, u205_44, u205_47, u205_48, u205_51, u205_52, u205_53, u205_56, u205_59, u205_60, u205_63, u205_64, u205_67, u205_68, u205_69, u205_72, u205_73, u205_76, u205_77, u205_80, u205_83, u205_84, u205_87, u205_90, mw_os, wp_ite, mw_sw, Option.toList_some, Option.toList_none, List.cons_append, List.nil_append, true_and, and_true, if_true, if_false, mw_s_, mw_s_i, mw_s_r, mw_s_ii, mw_s_ir, mw_s_ri, mw_s_rr, mw_s_iii, mw_s_iir, mw_s_iri, mw_s_irr, mw_s_rii, mw_s_rir, mw_s_rri, mw_s_rrr, mw_s_iiii, mw_s_iiir, mw_s_iiri, mw_s_iirr, mw_s_irii, mw_s_irir, mw_s_irri, mw_s_irrr, mw_s_riii, mw_s_riir, mw_s_riri, mw_s_rirr, mw_s_rrii, mw_s_rrir, mw_s_rrri, mw_s_rrrr, mm_sto1, mm_clr, mm_isL, List.getElem?_cons_zero, List.getElem?_cons_succ, List.set_cons_zero, List.set_cons_succ, Bool.false_eq_true, W146, b2, bi_eq0, reduceCtorEq, not_false_eq_true, OA_0 hO, l1, l2, l3, p1, p2, w0, w1, w2, w3, c1, c1', c2, c2'] at hq ⊢
          rcases h3 with rfl | rfl | rfl <;> exact hq
      · have c1' : B ≤ A := Int32.not_lt.mp c1
        by_cases c2 : A < D
        · have c2' : ¬ D ≤ A := Int32.not_le.mpr c2
          simp only [e205, u205_0, u205_1, u205_2, u205_3, u205_6, u205_9, u205_12, u205_13, u205_15, u205_18, u205_19, u205_20, u205_21, u205_22, u205_23, u205_24, u205_25, u205_28, u205_29, u205_32, u205_33, u205_36, u205_37, u205_40, u205_41, u205_44, u205_47, u205_48, u205_51, u205_52, u205_53, u205_56, u205_59, u205_60, u205_63, u205_64, u205_67, u205_68, u205_69, u205_72, u205_73, u205_76, u205_77, u205_80, u205_83, u205_84, u205_87, u205_90, mw_os, wp_ite, mw_sw, Option.toList_some, Option.toList_none, List.cons_append, List.nil_append, true_and, and_true, if_true, if_false, mw_s_, mw_s_i, mw_s_r, mw_s_ii, mw_s_ir, mw_s_ri, mw_s_rr, mw_s_iii, mw_s_iir, mw_s_iri, mw_s_irr, mw_s_rii, mw_s_rir, mw_s_rri, mw_s_rrr, mw_s_iiii, mw_s_iiir, mw_s_iiri, mw_s_iirr, mw_s_irii, mw_s_irir, mw_s_irri, mw_s_irrr, mw_s_riii, mw_s_riir, mw_s_riri, mw_s_rirr, mw_s_rrii, mw_s_rrir, mw_s_rrri, mw_s_rrrr, mm_sto1, mm_clr, mm_isL, List.getElem?_cons_zero, List.getElem?_cons_succ, List.set_cons_zero, List.set_cons_succ, Bool.false_eq_true, W146, b2, bi_eq0, reduceCtorEq, not_false_eq_true, OA_0 hO, l1, l2, l3, p1, p2, w0, w1, w2, w3, c1, c1', c2, c2'] at hq ⊢
          rcases h3 with rfl | rfl | rfl <;> exact hq
        · have c2' : D ≤ A := Int32.not_lt.mp c2
          simp only [e205, u205_0, u205_1, u205_2, u205_3, u205_6, u205_9, u205_12, u205_13, u205_15, u205_18, u205_19, u205_20, u205_21, u205_22, u205_23, u205_24, u205_25, u205_28, u205_29, u205_32, u205_33, u205_36, u205_37, u205_40, u205_41, u205_44, u205_47, u205_48, u205_51, u205_52, u205_53, u205_56, u205_59, u205_60, u205_63, u205_64, u205_67, u205_68, u205_69, u205_72, u205_73, u205_76, u205_77, u205_80, u205_83, u205_84, u205_87, u205_90, mw_os, wp_ite, mw_sw, Option.toList_some, Option.toList_none, List.cons_append, List.nil_append, true_and, and_true, if_true, if_false, mw_s_, mw_s_i, mw_s_r, mw_s_ii, mw_s_ir, mw_s_ri, mw_s_rr, mw_s_iii, mw_s_iir, mw_s_iri, mw_s_irr, mw_s_rii, mw_s_rir, mw_s_rri, mw_s_rrr, mw_s_iiii, mw_s_iiir, mw_s_iiri, mw_s_iirr, mw_s_irii, mw_s_irir, mw_s_irri, mw_s_irrr, mw_s_riii, mw_s_riir, mw_s_riri, mw_s_rirr, mw_s_rrii, mw_s_rrir, mw_s_rrri, mw_s_rrrr, mm_sto1, mm_clr, mm_isL, List.getElem?_cons_zero, List.getElem?_cons_succ, List.set_cons_zero, List.set_cons_succ, Bool.false_eq_true, W146, b2, bi_eq0, reduceCtorEq, not_false_eq_true, OA_0 hO, l1, l2, l3, p1, p2, w0, w1, w2, w3, c1, c1', c2, c2'] at hq ⊢
          rcases h3 with rfl | rfl | rfl <;> exact hq
  · have b1 : decide ((0 : Int32) ≤ x1 ∧ x1 < 3) = false := ib_f (N := 3) hx
    have b2 : inB x1.toInt64 0 2 = false := (inB_eq x1 0 2).trans (il_f (N := 2) (by decide) hx)
    refine ⟨.int (-nI 2), gRf g 2, gRf_ok hg, fun n M Q hC hQ => ?_, fun n M Q hC hQ => ?_⟩
    · simp only [e118, u118_0, u118_1, u118_2, u118_5, u118_8, u118_9, u118_11, u118_15, u118_16, u118_17, u118_20, u118_21, u118_24, u118_27, u118_28, u118_29, u118_30, u118_31, u118_32, u118_33, u118_34, u118_37, u118_38, u118_41, u118_42, u118_45, u118_46, u118_49, u118_50, u118_53, u118_56, u118_57, u118_58, u118_61, u118_64, u118_65, u118_68, u118_69, u118_72, u118_73, u118_76, u118_77, u118_80, mw_os, wp_ite, mw_sw, Option.toList_some, Option.toList_none, List.cons_append, List.nil_append, true_and, and_true, if_true, if_false, mw_s_, mw_s_i, mw_s_r, mw_s_ii, mw_s_ir, mw_s_ri, mw_s_rr, mw_s_iii, mw_s_iir, mw_s_iri, mw_s_irr, mw_s_rii, mw_s_rir, mw_s_rri, mw_s_rrr, mw_s_iiii, mw_s_iiir, mw_s_iiri, mw_s_iirr, mw_s_irii, mw_s_irir, mw_s_irri, mw_s_irrr, mw_s_riii, mw_s_riir, mw_s_riri, mw_s_rirr, mw_s_rrii, mw_s_rrir, mw_s_rrri, mw_s_rrrr, W89, b1, bi_eq0, CS_x hC, not_true]
      refine CW84 (k := 2) hC hg (by decide) (by decide) (fun M' hl ha hc => ?_)
      simp only [u118_14, Option.toList_some, List.cons_append, List.nil_append]
      exact hQ M' hl ha hc
    · obtain ⟨o, r, hO, _, hR, hA⟩ := MSu hC
      simp only [e205, u205_0, u205_1, u205_2, u205_3, u205_6, u205_9, u205_12, u205_13, u205_15, u205_19, u205_20, u205_21, u205_22, u205_23, u205_24, u205_25, u205_28, u205_29, u205_32, u205_33, u205_36, u205_37, u205_40, u205_41, u205_44, u205_47, u205_48, u205_51, u205_52, u205_53, u205_56, u205_59, u205_60, u205_63, u205_64, u205_67, u205_68, u205_69, u205_72, u205_73, u205_76, u205_77, u205_80, u205_83, u205_84, u205_87, u205_90, mw_os, wp_ite, mw_sw, Option.toList_some, Option.toList_none, List.cons_append, List.nil_append, true_and, and_true, if_true, if_false, mw_s_, mw_s_i, mw_s_r, mw_s_ii, mw_s_ir, mw_s_ri, mw_s_rr, mw_s_iii, mw_s_iir, mw_s_iri, mw_s_irr, mw_s_rii, mw_s_rir, mw_s_rri, mw_s_rrr, mw_s_iiii, mw_s_iiir, mw_s_iiri, mw_s_iirr, mw_s_irii, mw_s_irir, mw_s_irri, mw_s_irrr, mw_s_riii, mw_s_riir, mw_s_riri, mw_s_rirr, mw_s_rrii, mw_s_rrir, mw_s_rrri, mw_s_rrrr, W146, b2, bi_eq0, OA_x hO, not_true]
      refine MW141 (k := 2) hC hg (by decide) (by decide) (fun M' hl ha hc => ?_)
      simp only [u205_18, Option.toList_some, List.cons_append, List.nil_append]
      exact hQ M' hl ha hc
theorem eight (x : Int32) : (x = 0 ∨ x = 1 ∨ x = 2 ∨ x = 3 ∨ x = 4 ∨ x = 5 ∨ x = 6 ∨ x = 7) ∨ ¬ (0 ≤ x ∧ x < nI 8) := by
  rcases ixc x (N := 8) (by decide) with ⟨j, h1, h2⟩ | h
  · left
    subst h2
    rcases (show j = 0 ∨ j = 1 ∨ j = 2 ∨ j = 3 ∨ j = 4 ∨ j = 5 ∨ j = 6 ∨ j = 7 by omega) with rfl | rfl | rfl | rfl | rfl | rfl | rfl | rfl
    · exact Or.inl rfl
    · exact Or.inr (Or.inl rfl)
    · exact Or.inr (Or.inr (Or.inl rfl))
    · exact Or.inr (Or.inr (Or.inr (Or.inl rfl)))
    · exact Or.inr (Or.inr (Or.inr (Or.inr (Or.inl rfl))))
    · exact Or.inr (Or.inr (Or.inr (Or.inr (Or.inr (Or.inl rfl)))))
    · exact Or.inr (Or.inr (Or.inr (Or.inr (Or.inr (Or.inr (Or.inl rfl))))))
    · exact Or.inr (Or.inr (Or.inr (Or.inr (Or.inr (Or.inr (Or.inr rfl))))))
  · exact Or.inr h
theorem bi_ite {b : Bool} {P : Int32 → Prop} (h : P (bi b)) : if b = false then P 0 else P 1 := by
  cases b
  · exact h
  · exact h
theorem J_wad (hg : SGOK g) (x1 : Int32) : JO scr 105 180 [.int x1] g := by
  obtain ⟨c, hc, ec⟩ := gCv hg
  obtain ⟨y, hG, _⟩ := gU_GT hg
  have hu := gU_ok hg
  have rf : (∀ k : Nat, k < 7 → ¬ x1 = nI k) → JO scr 105 180 [.int x1] g := by
    intro hx
    have n0 : ¬ x1 = 0 := hx 0 (by decide)
    have n1 : ¬ x1 = 1 := hx 1 (by decide)
    have n2 : ¬ x1 = 2 := hx 2 (by decide)
    have n3 : ¬ x1 = 3 := hx 3 (by decide)
    have n4 : ¬ x1 = 4 := hx 4 (by decide)
    have n5 : ¬ x1 = 5 := hx 5 (by decide)
    have n6 : ¬ x1 = 6 := hx 6 (by decide)
    refine ⟨.int (-nI 2), gRf g 2, gRf_ok hg, fun n M Q hC hQ => ?_, fun n M Q hC hQ => ?_⟩
    · simp only [e105, u105_0, u105_1, u105_4, u105_7, u105_8, u105_9, u105_52, u105_53, u105_56, u105_57, u105_58, u105_61, u105_62, u105_63, u105_66, u105_67, u105_68, u105_71, u105_72, u105_73, u105_74, u105_77, u105_80, u105_83, u105_86, u105_87, u105_88, u105_91, u105_94, u105_95, u105_98, u105_99, u105_102, u105_103, u105_104, u105_105, u105_107, mw_os, wp_ite, mw_sw, Option.toList_some, Option.toList_none, List.cons_append, List.nil_append, true_and, and_true, if_true, if_false, mw_s_, mw_s_i, mw_s_r, mw_s_ii, mw_s_ir, mw_s_ri, mw_s_rr, mw_s_iii, mw_s_iir, mw_s_iri, mw_s_irr, mw_s_rii, mw_s_rir, mw_s_rri, mw_s_rrr, mw_s_iiii, mw_s_iiir, mw_s_iiri, mw_s_iirr, mw_s_irii, mw_s_irir, mw_s_irri, mw_s_irrr, mw_s_riii, mw_s_riir, mw_s_riri, mw_s_rirr, mw_s_rrii, mw_s_rrir, mw_s_rrri, mw_s_rrrr, mm_sto1, mm_clr, mm_isL, List.getElem?_cons_zero, List.getElem?_cons_succ, List.set_cons_zero, List.set_cons_succ, Bool.false_eq_true, CS_0 hC, NS_x hC, CW73 hC hg, CS_x hC, n0, n1, n2, n3, n4, n5, n6]
      refine CW84 (k := 2) hC hg (by decide) (by decide) (fun M' hl ha hc => ?_)
      simp only [u105_110, Option.toList_some, List.cons_append, List.nil_append]
      exact hQ M' hl ha hc
    · obtain ⟨o, r, hO, _, hR, hA⟩ := MSu hC
      simp only [e180, u180_0, u180_1, u180_44, u180_45, u180_48, u180_49, u180_52, u180_53, u180_54, u180_57, u180_58, u180_61, u180_62, u180_63, u180_66, u180_69, u180_70, u180_71, u180_74, u180_77, u180_78, u180_79, u180_82, u180_85, u180_88, u180_89, u180_92, u180_93, u180_94, u180_95, u180_98, u180_100, u180_101, u180_102, u180_103, u180_106, u180_107, u180_108, u180_110, mw_os, wp_ite, mw_sw, Option.toList_some, Option.toList_none, List.cons_append, List.nil_append, true_and, and_true, if_true, if_false, mw_s_, mw_s_i, mw_s_r, mw_s_ii, mw_s_ir, mw_s_ri, mw_s_rr, mw_s_iii, mw_s_iir, mw_s_iri, mw_s_irr, mw_s_rii, mw_s_rir, mw_s_rri, mw_s_rrr, mw_s_iiii, mw_s_iiir, mw_s_iiri, mw_s_iirr, mw_s_irii, mw_s_irir, mw_s_irri, mw_s_irrr, mw_s_riii, mw_s_riir, mw_s_riri, mw_s_rirr, mw_s_rrii, mw_s_rrir, mw_s_rrri, mw_s_rrrr, mm_sto1, mm_clr, mm_isL, List.getElem?_cons_zero, List.getElem?_cons_succ, List.set_cons_zero, List.set_cons_succ, Bool.false_eq_true, OA_x hO, n0, n1, n2, n3, n4, n5, n6]
      refine MW141 (k := 2) hC hg (by decide) (by decide) (fun M' hl ha hc => ?_)
      simp only [u180_113, Option.toList_some, List.cons_append, List.nil_append]
      exact hQ M' hl ha hc
  rcases eight x1 with h8 | hx
  · by_cases h7 : x1 = 7
    · subst h7
      exact rf (fun k hk z => absurd ((nI_eq (a := 7) (b := k) (by decide) (by omega)).mp z) (by omega))
    · refine ⟨.int (if x1 = 0 then vW (gU g) else if x1 = 1 then vT (gU g) else if x1 = 2 then vTh (gU g) else if x1 = 3 then vRs (gU g) else if x1 = 4 then bi (vSb (gU g) (nI c)) else if x1 = 5 then nI (gN g).2.1 else 1023 - vFc (gU g)), g, hg, fun n M Q hC hQ => ?_, fun n M Q hC hQ => ?_⟩
      · have hq := Csame hC hQ
        have e5 : mm_fld (mc_X scr) M (.ref 1) 4 5 = some (.int (nI c)) := (NS_5 hC).trans (by rw [ec])
        simp only [e105, u105_0, u105_1, u105_4, u105_7, u105_8, u105_9, u105_52, u105_53, u105_56, u105_57, u105_58, u105_61, u105_62, u105_63, u105_66, u105_67, u105_68, u105_71, u105_72, u105_73, u105_74, u105_77, u105_80, u105_83, u105_86, u105_87, u105_88, u105_91, u105_94, u105_95, u105_98, u105_99, u105_102, u105_103, u105_104, u105_105, u105_107, u105_110, mw_os, wp_ite, mw_sw, Option.toList_some, Option.toList_none, List.cons_append, List.nil_append, true_and, and_true, if_true, if_false, mw_s_, mw_s_i, mw_s_r, mw_s_ii, mw_s_ir, mw_s_ri, mw_s_rr, mw_s_iii, mw_s_iir, mw_s_iri, mw_s_irr, mw_s_rii, mw_s_rir, mw_s_rri, mw_s_rrr, mw_s_iiii, mw_s_iiir, mw_s_iiri, mw_s_iirr, mw_s_irii, mw_s_irir, mw_s_irri, mw_s_irrr, mw_s_riii, mw_s_riir, mw_s_riri, mw_s_rirr, mw_s_rrii, mw_s_rrir, mw_s_rrri, mw_s_rrrr, mm_sto1, mm_clr, mm_isL, List.getElem?_cons_zero, List.getElem?_cons_succ, List.set_cons_zero, List.set_cons_succ, Bool.false_eq_true, CS_0 hC, NS_x hC, CW73 hC hg, LA_6 (NL hC), LA_7 (NL hC), LA_x (NL hC), W34 (NL hC) hu, W35 (NL hC) hu, e5, W36 (NL hC) hu (nI_in8 hc), W95, NS_4 hC hg, W37 (NL hC) hu]
        rcases h8 with rfl | rfl | rfl | rfl | rfl | rfl | rfl | h8
        · exact hq
        · exact hq
        · exact hq
        · exact hq
        · exact hq
        · exact hq
        · exact hq
        · exact absurd h8 h7
      · have hq := Msame hC hQ
        obtain ⟨o, r, hO, _, hR, hA⟩ := MSu hC
        have hP : rP r = panL (gU g) := hR.2.2.2.2.2.1
        have hN := GT_N hG
        have hrc : rC r = nI c := by rw [hR.2.2.2.2.2.2.1, ec]
        have w0 : ∀ Q : Option Value → mm_M → Prop, Wp scr (n + 39) 151 [.ref 130, .int 0] M Q ↔ Q (some (.int (vW (gU g)))) M := fun Q => by rw [← hN.2.1, ← hP]; exact W151 (j := 0) hA hR.1 (by decide)
        have w1 : ∀ Q : Option Value → mm_M → Prop, Wp scr (n + 39) 151 [.ref 130, .int 1] M Q ↔ Q (some (.int (vT (gU g)))) M := fun Q => by rw [← hN.2.2.1, ← hP]; exact W151 (j := 1) hA hR.1 (by decide)
        have w2 : ∀ Q : Option Value → mm_M → Prop, Wp scr (n + 39) 181 [.ref 130] M Q ↔ Q (some (.int (vTh (gU g)))) M := fun Q => by rw [← hN.2.2.2.1, ← hP]; exact W181 hA hR.1
        have w3 : ∀ Q : Option Value → mm_M → Prop, Wp scr (n + 39) 182 [.ref 130] M Q ↔ Q (some (.int (vRs (gU g)))) M := fun Q => by rw [← GT_rs hG, ← hP]; exact W182 hA hR.1
        have w4 : ∀ Q : Option Value → mm_M → Prop, Wp scr (n + 39) 183 [.ref 130] M Q ↔ Q (some (.int (bi (vSb (gU g) (nI c))))) M := fun Q => by rw [← GT_out hG hc, ← hP]; exact W183 hA hR.1 hrc hc
        have w6 : ∀ Q : Option Value → mm_M → Prop, Wp scr (n + 39) 184 [.ref 129] M Q ↔ Q (some (.int (1023 - vFc (gU g)))) M := fun Q => by rw [← mFl_1, show vS (gU g) = rS r from hR.2.2.2.2.1.symm]; exact W184 hO hA hR.1
        have r5 : mm_at (rowL r) 73 = some (nI (gN g).2.1) := (rd_N hR.1).trans (by rw [hR.2.2.2.2.2.2.2.1])
        simp only [e180, u180_0, u180_1, u180_44, u180_45, u180_48, u180_49, u180_52, u180_53, u180_54, u180_57, u180_58, u180_61, u180_62, u180_63, u180_66, u180_69, u180_70, u180_71, u180_74, u180_77, u180_78, u180_79, u180_82, u180_85, u180_88, u180_89, u180_92, u180_93, u180_94, u180_95, u180_98, u180_100, u180_101, u180_102, u180_103, u180_106, u180_107, u180_108, u180_110, u180_113, mw_os, wp_ite, mw_sw, Option.toList_some, Option.toList_none, List.cons_append, List.nil_append, true_and, and_true, if_true, if_false, mw_s_, mw_s_i, mw_s_r, mw_s_ii, mw_s_ir, mw_s_ri, mw_s_rr, mw_s_iii, mw_s_iir, mw_s_iri, mw_s_irr, mw_s_rii, mw_s_rir, mw_s_rri, mw_s_rrr, mw_s_iiii, mw_s_iiir, mw_s_iiri, mw_s_iirr, mw_s_irii, mw_s_irir, mw_s_irri, mw_s_irrr, mw_s_riii, mw_s_riir, mw_s_riri, mw_s_rirr, mw_s_rrii, mw_s_rrir, mw_s_rrri, mw_s_rrrr, mm_sto1, mm_clr, mm_isL, List.getElem?_cons_zero, List.getElem?_cons_succ, List.set_cons_zero, List.set_cons_succ, Bool.false_eq_true, OA_0 hO, OA_x hO, w0, w1, w2, w3, w4, w6, RA_ld hA, r5, bi_eq0]
        rcases h8 with rfl | rfl | rfl | rfl | rfl | rfl | rfl | h8
        · exact hq
        · exact hq
        · exact hq
        · exact hq
        · exact bi_ite (P := fun z => Q (some (.int z)) M) hq
        · exact hq
        · exact hq
        · exact absurd h8 h7
  · exact rf (fun k hk => ne_of_out (j := k) hx (by omega) (by decide))
theorem J_count (hg : SGOK g) (x1 : Int32) : JO scr 137 221 [.int x1] g := by
  obtain ⟨c, hc, ec⟩ := gCv hg
  obtain ⟨y, hG, _⟩ := gU_GT hg
  have hu := gU_ok hg
  rcases eight x1 with h8 | hx
  · refine ⟨.int (if x1 = 0 then nI (gN g).2.1 else if x1 = 1 then waO (sWo (gN g).1) else if x1 = 2 then vFc (gU g) else if x1 = 3 then sCv (gN g).1 else if x1 = 4 then vW (gU g) * vT (gU g) else if x1 = 5 then vTh (gU g) else if x1 = 6 then nI (gTc g) else nI (gZn g)), g, hg, fun n M Q hC hQ => ?_, fun n M Q hC hQ => ?_⟩
    · have hq := Csame hC hQ
      simp only [e137, u137_0, u137_1, u137_48, u137_49, u137_52, u137_55, u137_56, u137_57, u137_60, u137_63, u137_64, u137_65, u137_68, u137_71, u137_74, u137_75, u137_76, u137_79, u137_82, u137_83, u137_84, u137_87, u137_90, u137_93, u137_94, u137_95, u137_98, u137_101, u137_104, u137_105, u137_106, u137_109, u137_110, u137_111, u137_114, u137_117, u137_118, u137_119, u137_120, u137_122, u137_123, u137_126, mw_os, wp_ite, mw_sw, Option.toList_some, Option.toList_none, List.cons_append, List.nil_append, true_and, and_true, if_true, if_false, mw_s_, mw_s_i, mw_s_r, mw_s_ii, mw_s_ir, mw_s_ri, mw_s_rr, mw_s_iii, mw_s_iir, mw_s_iri, mw_s_irr, mw_s_rii, mw_s_rir, mw_s_rri, mw_s_rrr, mw_s_iiii, mw_s_iiir, mw_s_iiri, mw_s_iirr, mw_s_irii, mw_s_irir, mw_s_irri, mw_s_irrr, mw_s_riii, mw_s_riir, mw_s_riri, mw_s_rirr, mw_s_rrii, mw_s_rrir, mw_s_rrri, mw_s_rrrr, mm_sto1, mm_clr, mm_isL, List.getElem?_cons_zero, List.getElem?_cons_succ, List.set_cons_zero, List.set_cons_succ, Bool.false_eq_true, CS_0 hC, CS_4 hC, CS_8 hC, CS_x hC, CZ_1 hC, NS_x hC, CW73 hC hg, LA_x (NL hC), W34 (NL hC) hu, W37 (NL hC) hu, W38 (NL hC), NS_4 hC hg, NS_5 hC, W81 (NS hC) (gSOK hg)]
      rcases h8 with rfl | rfl | rfl | rfl | rfl | rfl | rfl | rfl <;> exact hq
    · have hq := Msame hC hQ
      obtain ⟨o, r, hO, h1, hR, hA⟩ := MSu hC
      have hP : rP r = panL (gU g) := hR.2.2.2.2.2.1
      have hN := GT_N hG
      have w0 : ∀ Q : Option Value → mm_M → Prop, Wp scr (n + 39) 151 [.ref 130, .int 0] M Q ↔ Q (some (.int (vW (gU g)))) M := fun Q => by rw [← hN.2.1, ← hP]; exact W151 (j := 0) hA hR.1 (by decide)
      have w1 : ∀ Q : Option Value → mm_M → Prop, Wp scr (n + 39) 151 [.ref 130, .int 1] M Q ↔ Q (some (.int (vT (gU g)))) M := fun Q => by rw [← hN.2.2.1, ← hP]; exact W151 (j := 1) hA hR.1 (by decide)
      have w2 : ∀ Q : Option Value → mm_M → Prop, Wp scr (n + 39) 181 [.ref 130] M Q ↔ Q (some (.int (vTh (gU g)))) M := fun Q => by rw [← hN.2.2.2.1, ← hP]; exact W181 hA hR.1
      have w3 : ∀ Q : Option Value → mm_M → Prop, Wp scr (n + 39) 178 [.ref 130] M Q ↔ Q (some (.int (waO (sWo (gN g).1)))) M := fun Q => by rw [← hR.2.2.2.1]; exact W178 hA hR.1
      have w6 : ∀ Q : Option Value → mm_M → Prop, Wp scr (n + 39) 184 [.ref 129] M Q ↔ Q (some (.int (mFl (vS (gU g))))) M := fun Q => by rw [show vS (gU g) = rS r from hR.2.2.2.2.1.symm]; exact W184 hO hA hR.1
      have r5 : mm_at (rowL r) 73 = some (nI (gN g).2.1) := (rd_N hR.1).trans (by rw [hR.2.2.2.2.2.2.2.1])
      have r3 : mm_at (rowL r) 72 = some (sCv (gN g).1) := (rd_C hR.1).trans (by rw [hR.2.2.2.2.2.2.1])
      have e6 : o.1.2.1 = nI (gTc g) := by rw [h1]
      have e8 : o.1.2.2 = nI (gZn g) := by rw [h1]
      have m2 := mFl_2 (gU g)
      simp only [e221, u221_0, u221_1, u221_48, u221_49, u221_52, u221_54, u221_55, u221_56, u221_57, u221_60, u221_63, u221_64, u221_67, u221_68, u221_71, u221_72, u221_73, u221_74, u221_75, u221_76, u221_79, u221_81, u221_82, u221_83, u221_84, u221_87, u221_88, u221_91, u221_92, u221_95, u221_96, u221_99, u221_100, u221_101, u221_102, u221_105, u221_108, u221_109, u221_110, u221_113, u221_114, u221_115, u221_118, u221_119, u221_120, u221_121, u221_124, u221_127, u221_130, u221_133, u221_134, u221_137, u221_138, u221_140, u221_141, u221_142, u221_145, u221_147, mw_os, wp_ite, mw_sw, Option.toList_some, Option.toList_none, List.cons_append, List.nil_append, true_and, and_true, if_true, if_false, mw_s_, mw_s_i, mw_s_r, mw_s_ii, mw_s_ir, mw_s_ri, mw_s_rr, mw_s_iii, mw_s_iir, mw_s_iri, mw_s_irr, mw_s_rii, mw_s_rir, mw_s_rri, mw_s_rrr, mw_s_iiii, mw_s_iiir, mw_s_iiri, mw_s_iirr, mw_s_irii, mw_s_irir, mw_s_irri, mw_s_irrr, mw_s_riii, mw_s_riir, mw_s_riri, mw_s_rirr, mw_s_rrii, mw_s_rrir, mw_s_rrri, mw_s_rrrr, mm_sto1, mm_clr, mm_isL, List.getElem?_cons_zero, List.getElem?_cons_succ, List.set_cons_zero, List.set_cons_succ, Bool.false_eq_true, OA_0 hO, OA_x hO, OA_6 hO, OA_8 hO, e6, e8, w0, w1, w2, w3, w6, m2, RA_ld hA, r5, r3]
      rcases h8 with rfl | rfl | rfl | rfl | rfl | rfl | rfl | rfl <;> exact hq
  · have n0 : ¬ x1 = 0 := ne_of_out (j := 0) hx (by decide) (by decide)
    have n1 : ¬ x1 = 1 := ne_of_out (j := 1) hx (by decide) (by decide)
    have n2 : ¬ x1 = 2 := ne_of_out (j := 2) hx (by decide) (by decide)
    have n3 : ¬ x1 = 3 := ne_of_out (j := 3) hx (by decide) (by decide)
    have n4 : ¬ x1 = 4 := ne_of_out (j := 4) hx (by decide) (by decide)
    have n5 : ¬ x1 = 5 := ne_of_out (j := 5) hx (by decide) (by decide)
    have n6 : ¬ x1 = 6 := ne_of_out (j := 6) hx (by decide) (by decide)
    have n7 : ¬ x1 = 7 := ne_of_out (j := 7) hx (by decide) (by decide)
    have hl := hg.2.2.2.2.1
    by_cases hk : ∃ k, 1 ≤ k ∧ k ≤ 6 ∧ x1 - 10 = nI k
    · obtain ⟨k, k1, k6, ek⟩ := hk
      have ex : x1 = nI (k + 10) := by
        have : x1 - 10 + 10 = x1 := Int32.sub_add_cancel _ _
        rw [ek] at this
        rw [← this]
        exact nI_add k 10
      have hi : inB x1.toInt64 11 16 = true := (inB_eq x1 11 16).trans (by
        rw [ex]
        exact decide_eq_true ⟨nI_le (a := 11) (b := k + 10) (by omega) (by omega), nI_le (a := k + 10) (b := 16) (by omega) (by omega)⟩)
      have c1 : (nI k < 1) ↔ False := iff_false_intro (nI_nlt (a := k) (b := 1) k1 (by omega))
      have c2 : ((6 : Int32) < nI k) ↔ False := iff_false_intro (nI_nlt (a := 6) (b := k) k6 (by omega))
      have hr : mm_at (gR g) (nI k) = some (gi (gR g) (nI k)) := gi_atN (by omega) (by omega)
      refine ⟨.int (gi (gR g) (nI k)), g, hg, fun n M Q hC hQ => ?_, fun n M Q hC hQ => ?_⟩
      · have hq := Csame hC hQ
        simp only [e137, u137_0, u137_1, u137_48, u137_49, u137_52, u137_55, u137_56, u137_57, u137_60, u137_63, u137_64, u137_65, u137_68, u137_71, u137_74, u137_75, u137_76, u137_79, u137_82, u137_83, u137_84, u137_87, u137_90, u137_93, u137_94, u137_95, u137_98, u137_101, u137_104, u137_105, u137_106, u137_109, u137_110, u137_111, u137_114, u137_117, u137_118, u137_119, u137_120, u137_122, u137_123, u137_126, e138, u138_0, u138_1, u138_2, u138_5, u138_6, u138_8, u138_11, u138_12, u138_15, u138_16, u138_17, u138_20, u138_22, mw_os, wp_ite, mw_sw, Option.toList_some, Option.toList_none, List.cons_append, List.nil_append, true_and, and_true, if_true, if_false, mw_s_, mw_s_i, mw_s_r, mw_s_ii, mw_s_ir, mw_s_ri, mw_s_rr, mw_s_iii, mw_s_iir, mw_s_iri, mw_s_irr, mw_s_rii, mw_s_rir, mw_s_rri, mw_s_rrr, mw_s_iiii, mw_s_iiir, mw_s_iiri, mw_s_iirr, mw_s_irii, mw_s_irir, mw_s_irri, mw_s_irrr, mw_s_riii, mw_s_riir, mw_s_riri, mw_s_rirr, mw_s_rrii, mw_s_rrir, mw_s_rrri, mw_s_rrrr, mm_sto1, mm_clr, mm_isL, List.getElem?_cons_zero, List.getElem?_cons_succ, List.set_cons_zero, List.set_cons_succ, Bool.false_eq_true, CS_x hC, n0, n1, n2, n3, n4, n5, n6, n7, ek, c1, c2, CS_7 hC, RA_ld hC.2.2.2.2.2.2.2.2, hr]
        exact hq
      · have hq := Msame hC hQ
        obtain ⟨o, r, hO, h1, hR, hA⟩ := MSu hC
        simp only [e221, u221_0, u221_1, u221_48, u221_49, u221_52, u221_54, u221_55, u221_56, u221_57, u221_60, u221_63, u221_64, u221_67, u221_68, u221_71, u221_72, u221_73, u221_74, u221_75, u221_76, u221_79, u221_81, u221_82, u221_83, u221_84, u221_87, u221_88, u221_91, u221_92, u221_95, u221_96, u221_99, u221_100, u221_101, u221_102, u221_105, u221_108, u221_109, u221_110, u221_113, u221_114, u221_115, u221_118, u221_119, u221_120, u221_121, u221_124, u221_127, u221_130, u221_133, u221_134, u221_137, u221_138, u221_140, u221_141, u221_142, u221_145, u221_147, mw_os, wp_ite, mw_sw, Option.toList_some, Option.toList_none, List.cons_append, List.nil_append, true_and, and_true, if_true, if_false, mw_s_, mw_s_i, mw_s_r, mw_s_ii, mw_s_ir, mw_s_ri, mw_s_rr, mw_s_iii, mw_s_iir, mw_s_iri, mw_s_irr, mw_s_rii, mw_s_rir, mw_s_rri, mw_s_rrr, mw_s_iiii, mw_s_iiir, mw_s_iiri, mw_s_iirr, mw_s_irii, mw_s_irir, mw_s_irri, mw_s_irrr, mw_s_riii, mw_s_riir, mw_s_riri, mw_s_rirr, mw_s_rrii, mw_s_rrir, mw_s_rrri, mw_s_rrrr, mm_sto1, mm_clr, mm_isL, List.getElem?_cons_zero, List.getElem?_cons_succ, List.set_cons_zero, List.set_cons_succ, Bool.false_eq_true, OA_x hO, n0, n1, n2, n3, n4, n5, n6, n7, W146, hi, bi_eq0, reduceCtorEq, OA_4 hO, ek, RA_ld hC.2.2.2.2.2.1, hr]
        exact hq
    · have cc : x1 - 10 < 1 ∨ (6 : Int32) < x1 - 10 := by
        rcases pk_ix (x1 - 10) (n := 7) (by decide) with h | h | ⟨k, h1, h2⟩
        · exact Or.inl (Int32.lt_trans h (by decide))
        · exact Or.inr (Int32.lt_of_lt_of_le (b := nI 7) (by decide +kernel) h)
        · by_cases h0 : k = 0
          · subst h0
            exact Or.inl (by rw [h2]; decide +kernel)
          · exact absurd ⟨k, by omega, by omega, h2⟩ hk
      have hi : inB x1.toInt64 11 16 = false := (inB_eq x1 11 16).trans (decide_eq_false (fun z => by
        rcases pk_ix x1 (n := 17) (by decide) with h | h | ⟨k, h1, h2⟩
        · exact absurd (Int32.lt_of_le_of_lt z.1 h) (by decide)
        · exact absurd (Int32.lt_of_lt_of_le (a := 16) (b := nI 17) (by decide +kernel) h) (Int32.not_lt.mpr z.2)
        · have h11 : 11 ≤ k := by
            rw [h2] at z
            exact (nI_leI (a := 11) (b := k) (by decide) (by omega)).mp z.1
          exact hk ⟨k - 10, by omega, by omega, by rw [h2]; exact pk_sub (a := k) (b := 10) (by omega)⟩))
      refine ⟨.int (-9), g, hg, fun n M Q hC hQ => ?_, fun n M Q hC hQ => ?_⟩
      · have hq := Csame hC hQ
        rcases cc with cc | cc
        · simp only [e137, u137_0, u137_1, u137_48, u137_49, u137_52, u137_55, u137_56, u137_57, u137_60, u137_63, u137_64, u137_65, u137_68, u137_71, u137_74, u137_75, u137_76, u137_79, u137_82, u137_83, u137_84, u137_87, u137_90, u137_93, u137_94, u137_95, u137_98, u137_101, u137_104, u137_105, u137_106, u137_109, u137_110, u137_111, u137_114, u137_117, u137_118, u137_119, u137_120, u137_122, u137_123, u137_126, e138, u138_0, u138_1, u138_2, u138_5, u138_6, u138_8, u138_11, u138_12, u138_15, u138_16, u138_17, u138_20, u138_22, mw_os, wp_ite, mw_sw, Option.toList_some, Option.toList_none, List.cons_append, List.nil_append, true_and, and_true, if_true, if_false, mw_s_, mw_s_i, mw_s_r, mw_s_ii, mw_s_ir, mw_s_ri, mw_s_rr, mw_s_iii, mw_s_iir, mw_s_iri, mw_s_irr, mw_s_rii, mw_s_rir, mw_s_rri, mw_s_rrr, mw_s_iiii, mw_s_iiir, mw_s_iiri, mw_s_iirr, mw_s_irii, mw_s_irir, mw_s_irri, mw_s_irrr, mw_s_riii, mw_s_riir, mw_s_riri, mw_s_rirr, mw_s_rrii, mw_s_rrir, mw_s_rrri, mw_s_rrrr, mm_sto1, mm_clr, mm_isL, List.getElem?_cons_zero, List.getElem?_cons_succ, List.set_cons_zero, List.set_cons_succ, Bool.false_eq_true, CS_x hC, n0, n1, n2, n3, n4, n5, n6, n7, cc]
          exact hq
        · by_cases c3 : x1 - 10 < 1
          · simp only [e137, u137_0, u137_1, u137_48, u137_49, u137_52, u137_55, u137_56, u137_57, u137_60, u137_63, u137_64, u137_65, u137_68, u137_71, u137_74, u137_75, u137_76, u137_79, u137_82, u137_83, u137_84, u137_87, u137_90, u137_93, u137_94, u137_95, u137_98, u137_101, u137_104, u137_105, u137_106, u137_109, u137_110, u137_111, u137_114, u137_117, u137_118, u137_119, u137_120, u137_122, u137_123, u137_126, e138, u138_0, u138_1, u138_2, u138_5, u138_6, u138_8, u138_11, u138_12, u138_15, u138_16, u138_17, u138_20, u138_22, mw_os, wp_ite, mw_sw, Option.toList_some, Option.toList_none, List.cons_append, List.nil_append, true_and, and_true, if_true, if_false, mw_s_, mw_s_i, mw_s_r, mw_s_ii, mw_s_ir, mw_s_ri, mw_s_rr, mw_s_iii, mw_s_iir, mw_s_iri, mw_s_irr, mw_s_rii, mw_s_rir, mw_s_rri, mw_s_rrr, mw_s_iiii, mw_s_iiir, mw_s_iiri, mw_s_iirr, mw_s_irii, mw_s_irir, mw_s_irri, mw_s_irrr, mw_s_riii, mw_s_riir, mw_s_riri, mw_s_rirr, mw_s_rrii, mw_s_rrir, mw_s_rrri, mw_s_rrrr, mm_sto1, mm_clr, mm_isL, List.getElem?_cons_zero, List.getElem?_cons_succ, List.set_cons_zero, List.set_cons_succ, Bool.false_eq_true, CS_x hC, n0, n1, n2, n3, n4, n5, n6, n7, c3]
            exact hq
          · simp only [e137, u137_0, u137_1, u137_48, u137_49, u137_52, u137_55, u137_56, u137_57, u137_60, u137_63, u137_64, u137_65, u137_68, u137_71, u137_74, u137_75, u137_76, u137_79, u137_82, u137_83, u137_84, u137_87, u137_90, u137_93, u137_94, u137_95, u137_98, u137_101, u137_104, u137_105, u137_106, u137_109, u137_110, u137_111, u137_114, u137_117, u137_118, u137_119, u137_120, u137_122, u137_123, u137_126, e138, u138_0, u138_1, u138_2, u138_5, u138_6, u138_8, u138_11, u138_12, u138_15, u138_16, u138_17, u138_20, u138_22, mw_os, wp_ite, mw_sw, Option.toList_some, Option.toList_none, List.cons_append, List.nil_append, true_and, and_true, if_true, if_false, mw_s_, mw_s_i, mw_s_r, mw_s_ii, mw_s_ir, mw_s_ri, mw_s_rr, mw_s_iii, mw_s_iir, mw_s_iri, mw_s_irr, mw_s_rii, mw_s_rir, mw_s_rri, mw_s_rrr, mw_s_iiii, mw_s_iiir, mw_s_iiri, mw_s_iirr, mw_s_irii, mw_s_irir, mw_s_irri, mw_s_irrr, mw_s_riii, mw_s_riir, mw_s_riri, mw_s_rirr, mw_s_rrii, mw_s_rrir, mw_s_rrri, mw_s_rrrr, mm_sto1, mm_clr, mm_isL, List.getElem?_cons_zero, List.getElem?_cons_succ, List.set_cons_zero, List.set_cons_succ, Bool.false_eq_true, CS_x hC, n0, n1, n2, n3, n4, n5, n6, n7, c3, cc]
            exact hq
      · have hq := Msame hC hQ
        obtain ⟨o, r, hO, h1, hR, hA⟩ := MSu hC
        simp only [e221, u221_0, u221_1, u221_48, u221_49, u221_52, u221_54, u221_55, u221_56, u221_57, u221_60, u221_63, u221_64, u221_67, u221_68, u221_71, u221_72, u221_73, u221_74, u221_75, u221_76, u221_79, u221_81, u221_82, u221_83, u221_84, u221_87, u221_88, u221_91, u221_92, u221_95, u221_96, u221_99, u221_100, u221_101, u221_102, u221_105, u221_108, u221_109, u221_110, u221_113, u221_114, u221_115, u221_118, u221_119, u221_120, u221_121, u221_124, u221_127, u221_130, u221_133, u221_134, u221_137, u221_138, u221_140, u221_141, u221_142, u221_145, u221_147, mw_os, wp_ite, mw_sw, Option.toList_some, Option.toList_none, List.cons_append, List.nil_append, true_and, and_true, if_true, if_false, mw_s_, mw_s_i, mw_s_r, mw_s_ii, mw_s_ir, mw_s_ri, mw_s_rr, mw_s_iii, mw_s_iir, mw_s_iri, mw_s_irr, mw_s_rii, mw_s_rir, mw_s_rri, mw_s_rrr, mw_s_iiii, mw_s_iiir, mw_s_iiri, mw_s_iirr, mw_s_irii, mw_s_irir, mw_s_irri, mw_s_irrr, mw_s_riii, mw_s_riir, mw_s_riri, mw_s_rirr, mw_s_rrii, mw_s_rrir, mw_s_rrri, mw_s_rrrr, mm_sto1, mm_clr, mm_isL, List.getElem?_cons_zero, List.getElem?_cons_succ, List.set_cons_zero, List.set_cons_succ, Bool.false_eq_true, OA_x hO, n0, n1, n2, n3, n4, n5, n6, n7, W146, hi, bi_eq0]
        exact hq
end O5
