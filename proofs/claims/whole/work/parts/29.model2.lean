/-! the reference's reading methods, as functions of the row's parts -/
section MR1
variable {scr : List Int32} {n : Nat} {M : mm_M} {Q : Option Value → mm_M → Prop} {a : Nat} {v : RV} {i j : Nat}
def inB (x lo hi : Int64) : Bool := decide (lo ≤ x ∧ x ≤ hi)
theorem lgc (x y : Int64) : (lg_cmp x y < 0 ↔ x < y) ∧ ((0 : Int32) < lg_cmp x y ↔ y < x) := by
  unfold lg_cmp
  by_cases h1 : y < x
  · have h2 : ¬ x < y := fun z => Int64.lt_irrefl (Int64.lt_trans h1 z)
    simp only [h1, h2, if_true]
    decide
  · by_cases h2 : x = y
    · subst h2
      simp only [h1, if_true, if_false]
      decide
    · have h3 : x < y := Int64.lt_of_le_of_ne (Int64.not_lt.mp h1) h2
      simp only [h1, h2, h3, if_false]
      decide
theorem bi_01 {b : Bool} : (bi b = 0 ∨ bi b = 1) ↔ True := by cases b <;> decide
theorem W146 {x lo hi : Int64} : Wp scr (n + 1) 146 [.long x, .long lo, .long hi] M Q ↔ Q (some (.int (bi (inB x lo hi)))) M := by
  simp only [e146, u146_0, u146_1, u146_2, u146_3, u146_6, u146_7, u146_9, u146_10, u146_13, u146_14, u146_17, u146_18, mw_os, wp_ite, mw_sw, Option.toList_some, Option.toList_none, List.cons_append, List.nil_append, true_and, and_true, if_true, if_false, mw_s_, mw_s_i, mw_s_r, mw_s_ii, mw_s_ir, mw_s_ri, mw_s_rr, mw_s_iii, mw_s_iir, mw_s_iri, mw_s_irr, mw_s_rii, mw_s_rir, mw_s_rri, mw_s_rrr, mw_s_iiii, mw_s_iiir, mw_s_iiri, mw_s_iirr, mw_s_irii, mw_s_irir, mw_s_irri, mw_s_irrr, mw_s_riii, mw_s_riir, mw_s_riri, mw_s_rirr, mw_s_rrii, mw_s_rrir, mw_s_rrri, mw_s_rrrr, (lgc _ _).1, (lgc _ _).2]
  unfold inB bi
  by_cases h1 : x < lo
  · have h2 : ¬ lo ≤ x := Int64.not_le.mpr h1
    simp [h1, h2]
  · have h2 : lo ≤ x := Int64.not_lt.mp h1
    by_cases h3 : hi < x
    · have h4 : ¬ x ≤ hi := Int64.not_le.mpr h3
      simp [h1, h2, h3, h4]
    · have h4 : x ≤ hi := Int64.not_lt.mp h3
      simp [h1, h2, h3, h4]
theorem inB_eq (x lo hi : Int32) : inB x.toInt64 lo.toInt64 hi.toInt64 = decide (lo ≤ x ∧ x ≤ hi) := by
  unfold inB
  congr 1
  simp only [Int64.le_iff_toInt_le, Int32.le_iff_toInt_le, Int32.toInt_toInt64]
/-! wide, isLine, one cell, above -/
def mWd (P : List Int32) (j : Nat) : Int32 := (List.range' 0 8).foldl (fun s p => mx s (gi P (nI (4 * p + j)))) 0 + 1
theorem W151 (h : RA M a (rowL v)) (hv : ROK v) (hj : j < 2) : Wp scr (n + 1) 151 [.ref a, .int (nI j)] M Q ↔ Q (some (.int (mWd (rP v) j))) M := by
  have key := nf_loop (N := 8) (Φ := fun p (s : Int32) => wp scr n mb_151 4 [some (.ref a), some (.int (nI j)), some (.int s), some (.int (nI p))] [] M Q) (Ψ := fun s => Q (some (.int (s + 1))) M) (step := fun s p => mx s (gi (rP v) (nI (4 * p + j))))
    (fun p s hp => u151_4.trans (by
      simp only [e151, u151_0, u151_1, u151_2, u151_3, u151_5, u151_7, u151_10, u151_11, u151_12, u151_14, u151_15, u151_16, u151_17, u151_18, u151_19, u151_20, u151_21, u151_24, u151_25, u151_28, u151_31, u151_32, u151_33, u151_34, mw_os, wp_ite, mw_sw, Option.toList_some, Option.toList_none, List.cons_append, List.nil_append, true_and, and_true, if_true, if_false, mw_s_, mw_s_i, mw_s_r, mw_s_ii, mw_s_ir, mw_s_ri, mw_s_rr, mw_s_iii, mw_s_iir, mw_s_iri, mw_s_irr, mw_s_rii, mw_s_rir, mw_s_rri, mw_s_rrr, mw_s_iiii, mw_s_iiir, mw_s_iiri, mw_s_iirr, mw_s_irii, mw_s_irir, mw_s_irri, mw_s_irrr, mw_s_riii, mw_s_riir, mw_s_riri, mw_s_rirr, mw_s_rrii, mw_s_rrir, mw_s_rrri, mw_s_rrrr, mm_sto1, mm_clr, mm_isL, List.getElem?_cons_zero, List.getElem?_cons_succ, List.set_cons_zero, List.set_cons_succ, Bool.false_eq_true, RA_ld h, m4n, c40, nI_add, Nat.add_assoc, rd_P hv (show 4 * p + j < 32 by omega), nle8 hp, nI_1]
      exact Iff.rfl))
    (fun s => u151_4.trans (by simp only [e151, u151_0, u151_1, u151_2, u151_3, u151_5, u151_7, u151_10, u151_11, u151_12, u151_14, u151_15, u151_16, u151_17, u151_18, u151_19, u151_20, u151_21, u151_24, u151_25, u151_28, u151_31, u151_32, u151_33, u151_34, mw_os, wp_ite, mw_sw, Option.toList_some, Option.toList_none, List.cons_append, List.nil_append, true_and, and_true, if_true, if_false, mw_s_, mw_s_i, mw_s_r, mw_s_ii, mw_s_ir, mw_s_ri, mw_s_rr, mw_s_iii, mw_s_iir, mw_s_iri, mw_s_irr, mw_s_rii, mw_s_rir, mw_s_rri, mw_s_rrr, mw_s_iiii, mw_s_iiir, mw_s_iiri, mw_s_iirr, mw_s_irii, mw_s_irir, mw_s_irri, mw_s_irrr, mw_s_riii, mw_s_riir, mw_s_riri, mw_s_rirr, mw_s_rrii, mw_s_rrir, mw_s_rrri, mw_s_rrrr, nle8e])) 8 0 0 rfl
  rw [mWd, ← key]
  simp only [e151, u151_0, u151_1, u151_2, u151_3, mw_os, wp_ite, mw_sw, Option.toList_some, Option.toList_none, List.cons_append, List.nil_append, true_and, and_true, if_true, if_false, mw_s_, mw_s_i, mw_s_r, mw_s_ii, mw_s_ir, mw_s_ri, mw_s_rr, mw_s_iii, mw_s_iir, mw_s_iri, mw_s_irr, mw_s_rii, mw_s_rir, mw_s_rri, mw_s_rrr, mw_s_iiii, mw_s_iiir, mw_s_iiri, mw_s_iirr, mw_s_irii, mw_s_irir, mw_s_irri, mw_s_irrr, mw_s_riii, mw_s_riir, mw_s_riri, mw_s_rirr, mw_s_rrii, mw_s_rrir, mw_s_rrri, mw_s_rrrr, mm_sto1, mm_clr, mm_isL, List.getElem?_cons_zero, List.getElem?_cons_succ, List.set_cons_zero, List.set_cons_succ, Bool.false_eq_true]
  exact Iff.rfl
def mIL (P : List Int32) (l : Int32) : Bool := decide ((1 ≤ l ∧ l ≤ 3) ∧ l < mWd P 0) || decide (l = 4 ∧ mWd P 1 = 2)
theorem W150 {l : Int32} (h : RA M a (rowL v)) (hv : ROK v) : Wp scr (n + 2) 150 [.ref a, .int l] M Q ↔ Q (some (.int (bi (mIL (rP v) l)))) M := by
  have w0 : ∀ Q : Option Value → mm_M → Prop, Wp scr (n + 1) 151 [.ref a, .int 0] M Q ↔ Q (some (.int (mWd (rP v) 0))) M := fun Q => W151 (j := 0) h hv (by decide)
  have w1 : ∀ Q : Option Value → mm_M → Prop, Wp scr (n + 1) 151 [.ref a, .int 1] M Q ↔ Q (some (.int (mWd (rP v) 1))) M := fun Q => W151 (j := 1) h hv (by decide)
  have hi : inB l.toInt64 1 3 = decide ((1 : Int32) ≤ l ∧ l ≤ 3) := inB_eq l 1 3
  simp only [e150, u150_0, u150_1, u150_2, u150_3, u150_6, u150_9, u150_12, u150_13, u150_14, u150_15, u150_18, u150_21, u150_22, u150_23, u150_26, u150_27, u150_28, u150_31, u150_32, u150_35, u150_36, u150_39, u150_40, mw_os, wp_ite, mw_sw, Option.toList_some, Option.toList_none, List.cons_append, List.nil_append, true_and, and_true, if_true, if_false, mw_s_, mw_s_i, mw_s_r, mw_s_ii, mw_s_ir, mw_s_ri, mw_s_rr, mw_s_iii, mw_s_iir, mw_s_iri, mw_s_irr, mw_s_rii, mw_s_rir, mw_s_rri, mw_s_rrr, mw_s_iiii, mw_s_iiir, mw_s_iiri, mw_s_iirr, mw_s_irii, mw_s_irir, mw_s_irri, mw_s_irrr, mw_s_riii, mw_s_riir, mw_s_riri, mw_s_rirr, mw_s_rrii, mw_s_rrir, mw_s_rrri, mw_s_rrrr, W146, hi, w0, w1, bi_eq0]
  unfold mIL bi
  by_cases h1 : (1 : Int32) ≤ l ∧ l ≤ 3
  · by_cases h2 : l < mWd (rP v) 0
    · simp [h1, h2]
    · by_cases h3 : l = 4
      · by_cases h4 : mWd (rP v) 1 = 2 <;> simp [h2, h3, h4]
      · simp [h2, h3]
  · by_cases h3 : l = 4
    · by_cases h4 : mWd (rP v) 1 = 2 <;> simp [h1, h3, h4]
    · simp [h1, h3]
def mOC (P : List Int32) (p q : Nat) : Bool := decide (gi P (nI (4 * p)) = gi P (nI (4 * q)) ∧ gi P (nI (4 * p + 1)) = gi P (nI (4 * q + 1)))
theorem W163 (h : RA M a (rowL v)) (hv : ROK v) (hi : i < 8) (hj : j < 8) : Wp scr (n + 1) 163 [.ref a, .int (nI i), .int (nI j)] M Q ↔ Q (some (.int (bi (mOC (rP v) i j)))) M := by
  simp only [e163, u163_0, u163_1, u163_3, u163_4, u163_5, u163_6, u163_7, u163_8, u163_9, u163_11, u163_12, u163_13, u163_14, u163_15, u163_16, u163_19, u163_20, u163_22, u163_23, u163_24, u163_25, u163_26, u163_27, u163_28, u163_29, u163_30, u163_32, u163_33, u163_34, u163_35, u163_36, u163_37, u163_38, u163_39, u163_42, u163_43, u163_46, u163_47, mw_os, wp_ite, mw_sw, Option.toList_some, Option.toList_none, List.cons_append, List.nil_append, true_and, and_true, if_true, if_false, mw_s_, mw_s_i, mw_s_r, mw_s_ii, mw_s_ir, mw_s_ri, mw_s_rr, mw_s_iii, mw_s_iir, mw_s_iri, mw_s_irr, mw_s_rii, mw_s_rir, mw_s_rri, mw_s_rrr, mw_s_iiii, mw_s_iiir, mw_s_iiri, mw_s_iirr, mw_s_irii, mw_s_irir, mw_s_irri, mw_s_irrr, mw_s_riii, mw_s_riir, mw_s_riri, mw_s_rirr, mw_s_rrii, mw_s_rrir, mw_s_rrri, mw_s_rrrr, RA_ld h, m4n, c40, nI_1, Nat.add_assoc, rd_P hv (show 4 * i < 32 by omega), rd_P hv (show 4 * j < 32 by omega), rd_P hv (show 4 * i + 1 < 32 by omega), rd_P hv (show 4 * j + 1 < 32 by omega)]
  unfold mOC bi
  by_cases h1 : gi (rP v) (nI (4 * i)) = gi (rP v) (nI (4 * j))
  · by_cases h2 : gi (rP v) (nI (4 * i + 1)) = gi (rP v) (nI (4 * j + 1)) <;> simp [h1, h2]
  · simp [h1]
def mAbs (P : List Int32) (p : Nat) (s : Int32) (q : Nat) : Int32 := s + (if q ≠ p ∧ mOC P p q = true ∧ gi P (nI (4 * p + 2)) < gi P (nI (4 * q + 2)) then 1 else 0)
def mAb (P : List Int32) (p : Nat) : Int32 := (List.range' 0 8).foldl (mAbs P p) 0
theorem nI_eq8 {i j : Nat} (hi : i < 8) (hj : j < 8) : (nI i = nI j) ↔ i = j := nI_eq (by omega) (by omega)
theorem W171 (h : RA M a (rowL v)) (hv : ROK v) (hi : i < 8) : Wp scr (n + 2) 171 [.ref a, .int (nI i)] M Q ↔ Q (some (.int (mAb (rP v) i))) M := by
  have key := nf_loop (N := 8) (Φ := fun q (s : Int32) => wp scr (n + 1) mb_171 4 [some (.ref a), some (.int (nI i)), some (.int s), some (.int (nI q))] [] M Q) (Ψ := fun s => Q (some (.int s)) M) (step := mAbs (rP v) i)
    (fun q s hq => u171_4.trans (by
      simp only [e171, u171_0, u171_1, u171_2, u171_3, u171_5, u171_7, u171_10, u171_11, u171_12, u171_13, u171_16, u171_17, u171_18, u171_19, u171_22, u171_25, u171_26, u171_28, u171_29, u171_30, u171_31, u171_32, u171_33, u171_34, u171_35, u171_36, u171_38, u171_39, u171_40, u171_41, u171_42, u171_43, u171_44, u171_45, u171_48, u171_49, u171_52, u171_53, u171_54, u171_55, u171_58, u171_61, u171_62, mw_os, wp_ite, mw_sw, Option.toList_some, Option.toList_none, List.cons_append, List.nil_append, true_and, and_true, if_true, if_false, mw_s_, mw_s_i, mw_s_r, mw_s_ii, mw_s_ir, mw_s_ri, mw_s_rr, mw_s_iii, mw_s_iir, mw_s_iri, mw_s_irr, mw_s_rii, mw_s_rir, mw_s_rri, mw_s_rrr, mw_s_iiii, mw_s_iiir, mw_s_iiri, mw_s_iirr, mw_s_irii, mw_s_irir, mw_s_irri, mw_s_irrr, mw_s_riii, mw_s_riir, mw_s_riri, mw_s_rirr, mw_s_rrii, mw_s_rrir, mw_s_rrri, mw_s_rrrr, mm_sto1, mm_clr, mm_isL, List.getElem?_cons_zero, List.getElem?_cons_succ, List.set_cons_zero, List.set_cons_succ, Bool.false_eq_true, RA_ld h, m4n, c40, n_2, Nat.add_assoc, rd_P hv (show 4 * q + 2 < 32 by omega), rd_P hv (show 4 * i + 2 < 32 by omega), W163 h hv hi hq, bi_eq0, nI_eq8 hq hi, nle8 hq, nI_1]
      unfold mAbs
      by_cases h1 : q = i
      · simp [h1]
      · cases h2 : mOC (rP v) i q
        · simp [h1]
        · by_cases h3 : gi (rP v) (nI (4 * i + 2)) < gi (rP v) (nI (4 * q + 2))
          · have h4 : ¬ gi (rP v) (nI (4 * q + 2)) ≤ gi (rP v) (nI (4 * i + 2)) := Int32.not_le.mpr h3
            simp [h1, h3, h4]
          · have h4 : gi (rP v) (nI (4 * q + 2)) ≤ gi (rP v) (nI (4 * i + 2)) := Int32.not_lt.mp h3
            simp [h1, h3, h4]))
    (fun s => u171_4.trans (by simp only [e171, u171_0, u171_1, u171_2, u171_3, u171_5, u171_7, u171_10, u171_11, u171_12, u171_13, u171_16, u171_17, u171_18, u171_19, u171_22, u171_25, u171_26, u171_28, u171_29, u171_30, u171_31, u171_32, u171_33, u171_34, u171_35, u171_36, u171_38, u171_39, u171_40, u171_41, u171_42, u171_43, u171_44, u171_45, u171_48, u171_49, u171_52, u171_53, u171_54, u171_55, u171_58, u171_61, u171_62, mw_os, wp_ite, mw_sw, Option.toList_some, Option.toList_none, List.cons_append, List.nil_append, true_and, and_true, if_true, if_false, mw_s_, mw_s_i, mw_s_r, mw_s_ii, mw_s_ir, mw_s_ri, mw_s_rr, mw_s_iii, mw_s_iir, mw_s_iri, mw_s_irr, mw_s_rii, mw_s_rir, mw_s_rri, mw_s_rrr, mw_s_iiii, mw_s_iiir, mw_s_iiri, mw_s_iirr, mw_s_irii, mw_s_irir, mw_s_irri, mw_s_irrr, mw_s_riii, mw_s_riir, mw_s_riri, mw_s_rirr, mw_s_rrii, mw_s_rrir, mw_s_rrri, mw_s_rrrr, nle8e])) 8 0 0 rfl
  rw [mAb, ← key]
  simp only [e171, u171_0, u171_1, u171_2, u171_3, mw_os, wp_ite, mw_sw, Option.toList_some, Option.toList_none, List.cons_append, List.nil_append, true_and, and_true, if_true, if_false, mw_s_, mw_s_i, mw_s_r, mw_s_ii, mw_s_ir, mw_s_ri, mw_s_rr, mw_s_iii, mw_s_iir, mw_s_iri, mw_s_irr, mw_s_rii, mw_s_rir, mw_s_rri, mw_s_rrr, mw_s_iiii, mw_s_iiir, mw_s_iiri, mw_s_iirr, mw_s_irii, mw_s_irir, mw_s_irri, mw_s_irrr, mw_s_riii, mw_s_riir, mw_s_riri, mw_s_rirr, mw_s_rrii, mw_s_rrir, mw_s_rrri, mw_s_rrrr, mm_sto1, mm_clr, mm_isL, List.getElem?_cons_zero, List.getElem?_cons_succ, List.set_cons_zero, List.set_cons_succ, Bool.false_eq_true]
  exact Iff.rfl
def mSh (P : List Int32) (p : Nat) (f : Int32) : Bool := if gi P (nI (4 * p + 3)) = f then decide (mAb P p = 0) else decide (gi P (nI (4 * p + 2)) = 0)
theorem W170 {f : Int32} (h : RA M a (rowL v)) (hv : ROK v) (hi : i < 8) : Wp scr (n + 3) 170 [.ref a, .int (nI i), .int f] M Q ↔ Q (some (.int (bi (mSh (rP v) i f)))) M := by
  simp only [e170, u170_0, u170_1, u170_3, u170_4, u170_5, u170_6, u170_7, u170_8, u170_9, u170_10, u170_11, u170_14, u170_15, u170_18, u170_19, u170_20, u170_21, u170_24, u170_25, u170_26, u170_29, u170_32, u170_33, u170_36, u170_37, u170_39, u170_40, u170_41, u170_42, u170_43, u170_44, u170_45, u170_46, u170_49, u170_50, u170_53, u170_54, mw_os, wp_ite, mw_sw, Option.toList_some, Option.toList_none, List.cons_append, List.nil_append, true_and, and_true, if_true, if_false, mw_s_, mw_s_i, mw_s_r, mw_s_ii, mw_s_ir, mw_s_ri, mw_s_rr, mw_s_iii, mw_s_iir, mw_s_iri, mw_s_irr, mw_s_rii, mw_s_rir, mw_s_rri, mw_s_rrr, mw_s_iiii, mw_s_iiir, mw_s_iiri, mw_s_iirr, mw_s_irii, mw_s_irir, mw_s_irri, mw_s_irrr, mw_s_riii, mw_s_riir, mw_s_riri, mw_s_rirr, mw_s_rrii, mw_s_rrir, mw_s_rrri, mw_s_rrrr, mm_sto1, mm_clr, mm_isL, List.getElem?_cons_zero, List.getElem?_cons_succ, List.set_cons_zero, List.set_cons_succ, Bool.false_eq_true, RA_ld h, m4n, c40, n_2, n_3, Nat.add_assoc, rd_P hv (show 4 * i + 2 < 32 by omega), rd_P hv (show 4 * i + 3 < 32 by omega), W171 h hv hi]
  unfold mSh bi
  by_cases h1 : gi (rP v) (nI (4 * i + 3)) = f
  · by_cases h2 : mAb (rP v) i = 0 <;> simp [h1, h2, i10]
  · by_cases h2 : gi (rP v) (nI (4 * i + 2)) = 0 <;> simp [h1, h2, i10]
theorem W169 (h : RA M a (rowL v)) (hv : ROK v) (hi : i < 8) : Wp scr (n + 4) 169 [.ref a, .int (nI i)] M Q ↔ Q (some (.int (bi (mSh (rP v) i 0)))) M := by
  simp only [e169, u169_0, u169_1, u169_2, u169_3, u169_6, mw_os, wp_ite, mw_sw, Option.toList_some, Option.toList_none, List.cons_append, List.nil_append, true_and, and_true, if_true, if_false, mw_s_, mw_s_i, mw_s_r, mw_s_ii, mw_s_ir, mw_s_ri, mw_s_rr, mw_s_iii, mw_s_iir, mw_s_iri, mw_s_irr, mw_s_rii, mw_s_rir, mw_s_rri, mw_s_rrr, mw_s_iiii, mw_s_iiir, mw_s_iiri, mw_s_iirr, mw_s_irii, mw_s_irir, mw_s_irri, mw_s_irrr, mw_s_riii, mw_s_riir, mw_s_riri, mw_s_rirr, mw_s_rrii, mw_s_rrir, mw_s_rrri, mw_s_rrrr, W170 h hv hi, bi_01]
theorem W183 (h : RA M a (rowL v)) (hv : ROK v) (hc : rC v = nI i) (hi : i < 8) : Wp scr (n + 4) 183 [.ref a] M Q ↔ Q (some (.int (bi (mSh (rP v) i 1)))) M := by
  simp only [e183, u183_0, u183_1, u183_2, u183_4, u183_5, u183_6, u183_9, mw_os, wp_ite, mw_sw, Option.toList_some, Option.toList_none, List.cons_append, List.nil_append, true_and, and_true, if_true, if_false, mw_s_, mw_s_i, mw_s_r, mw_s_ii, mw_s_ir, mw_s_ri, mw_s_rr, mw_s_iii, mw_s_iir, mw_s_iri, mw_s_irr, mw_s_rii, mw_s_rir, mw_s_rri, mw_s_rrr, mw_s_iiii, mw_s_iiir, mw_s_iiri, mw_s_iirr, mw_s_irii, mw_s_irir, mw_s_irri, mw_s_irrr, mw_s_riii, mw_s_riir, mw_s_riri, mw_s_rirr, mw_s_rrii, mw_s_rrir, mw_s_rrri, mw_s_rrrr, RA_ld h, rd_C hv, hc, W170 h hv hi, bi_01]
theorem W189 (h : RA M a (rowL v)) (hv : ROK v) : Wp scr (n + 2) 189 [.ref a] M Q ↔ Q (some (.int (bi (decide (mWd (rP v) 0 = 1 ∧ mWd (rP v) 1 = 1))))) M := by
  have w0 : ∀ Q : Option Value → mm_M → Prop, Wp scr (n + 1) 151 [.ref a, .int 0] M Q ↔ Q (some (.int (mWd (rP v) 0))) M := fun Q => W151 (j := 0) h hv (by decide)
  have w1 : ∀ Q : Option Value → mm_M → Prop, Wp scr (n + 1) 151 [.ref a, .int 1] M Q ↔ Q (some (.int (mWd (rP v) 1))) M := fun Q => W151 (j := 1) h hv (by decide)
  simp only [e189, u189_0, u189_1, u189_2, u189_5, u189_6, u189_9, u189_10, u189_11, u189_14, u189_15, u189_18, u189_19, u189_22, u189_23, mw_os, wp_ite, mw_sw, Option.toList_some, Option.toList_none, List.cons_append, List.nil_append, true_and, and_true, if_true, if_false, mw_s_, mw_s_i, mw_s_r, mw_s_ii, mw_s_ir, mw_s_ri, mw_s_rr, mw_s_iii, mw_s_iir, mw_s_iri, mw_s_irr, mw_s_rii, mw_s_rir, mw_s_rri, mw_s_rrr, mw_s_iiii, mw_s_iiir, mw_s_iiri, mw_s_iirr, mw_s_irii, mw_s_irir, mw_s_irri, mw_s_irrr, mw_s_riii, mw_s_riir, mw_s_riri, mw_s_rirr, mw_s_rrii, mw_s_rrir, mw_s_rrri, mw_s_rrrr, w0, w1]
  unfold bi
  by_cases h1 : mWd (rP v) 0 = 1 <;> by_cases h2 : mWd (rP v) 1 = 1 <;> simp [h1, h2]
def mRs (P : List Int32) : Int32 := (List.range' 0 8).foldl (fun s p => s ||| (if mSh P p 0 = true then ((1 : Int32) <<< (nI p &&& 31)) else 0)) 0
theorem W182 (h : RA M a (rowL v)) (hv : ROK v) : Wp scr (n + 5) 182 [.ref a] M Q ↔ Q (some (.int (mRs (rP v)))) M := by
  have key := nf_loop (N := 8) (Φ := fun p (s : Int32) => wp scr (n + 4) mb_182 4 [some (.ref a), some (.int s), some (.int (nI p))] [] M Q) (Ψ := fun s => Q (some (.int s)) M) (step := fun s p => s ||| (if mSh (rP v) p 0 = true then ((1 : Int32) <<< (nI p &&& 31)) else 0))
    (fun p s hp => u182_4.trans (by
      simp only [e182, u182_0, u182_1, u182_2, u182_3, u182_5, u182_7, u182_10, u182_11, u182_12, u182_13, u182_16, u182_19, u182_20, u182_21, u182_22, u182_25, u182_26, u182_27, u182_28, u182_31, u182_34, u182_35, mw_os, wp_ite, mw_sw, Option.toList_some, Option.toList_none, List.cons_append, List.nil_append, true_and, and_true, if_true, if_false, mw_s_, mw_s_i, mw_s_r, mw_s_ii, mw_s_ir, mw_s_ri, mw_s_rr, mw_s_iii, mw_s_iir, mw_s_iri, mw_s_irr, mw_s_rii, mw_s_rir, mw_s_rri, mw_s_rrr, mw_s_iiii, mw_s_iiir, mw_s_iiri, mw_s_iirr, mw_s_irii, mw_s_irir, mw_s_irri, mw_s_irrr, mw_s_riii, mw_s_riir, mw_s_riri, mw_s_rirr, mw_s_rrii, mw_s_rrir, mw_s_rrri, mw_s_rrrr, mm_sto1, mm_clr, mm_isL, List.getElem?_cons_zero, List.getElem?_cons_succ, List.set_cons_zero, List.set_cons_succ, Bool.false_eq_true, W169 h hv hp, bi_eq0, nle8 hp, nI_1]
      cases mSh (rP v) p 0 <;> simp))
    (fun s => u182_4.trans (by simp only [e182, u182_0, u182_1, u182_2, u182_3, u182_5, u182_7, u182_10, u182_11, u182_12, u182_13, u182_16, u182_19, u182_20, u182_21, u182_22, u182_25, u182_26, u182_27, u182_28, u182_31, u182_34, u182_35, mw_os, wp_ite, mw_sw, Option.toList_some, Option.toList_none, List.cons_append, List.nil_append, true_and, and_true, if_true, if_false, mw_s_, mw_s_i, mw_s_r, mw_s_ii, mw_s_ir, mw_s_ri, mw_s_rr, mw_s_iii, mw_s_iir, mw_s_iri, mw_s_irr, mw_s_rii, mw_s_rir, mw_s_rri, mw_s_rrr, mw_s_iiii, mw_s_iiir, mw_s_iiri, mw_s_iirr, mw_s_irii, mw_s_irir, mw_s_irri, mw_s_irrr, mw_s_riii, mw_s_riir, mw_s_riri, mw_s_rirr, mw_s_rrii, mw_s_rrir, mw_s_rrri, mw_s_rrrr, nle8e])) 8 0 0 rfl
  rw [mRs, ← key]
  simp only [e182, u182_0, u182_1, u182_2, u182_3, mw_os, wp_ite, mw_sw, Option.toList_some, Option.toList_none, List.cons_append, List.nil_append, true_and, and_true, if_true, if_false, mw_s_, mw_s_i, mw_s_r, mw_s_ii, mw_s_ir, mw_s_ri, mw_s_rr, mw_s_iii, mw_s_iir, mw_s_iri, mw_s_irr, mw_s_rii, mw_s_rir, mw_s_rri, mw_s_rrr, mw_s_iiii, mw_s_iiir, mw_s_iiri, mw_s_iirr, mw_s_irii, mw_s_irir, mw_s_irri, mw_s_irrr, mw_s_riii, mw_s_riir, mw_s_riri, mw_s_rirr, mw_s_rrii, mw_s_rrir, mw_s_rrri, mw_s_rrrr, mm_sto1, mm_clr, mm_isL, List.getElem?_cons_zero, List.getElem?_cons_succ, List.set_cons_zero, List.set_cons_succ, Bool.false_eq_true]
  exact Iff.rfl
def mTc (P : List Int32) (p : Nat) : Int32 := (List.range' 0 8).foldl (fun s q => s + (if mOC P p q = true then 1 else 0)) 0
def mTh (P : List Int32) : Int32 := (List.range' 0 8).foldl (fun s p => mx s (mTc P p)) 0
theorem W181 (h : RA M a (rowL v)) (hv : ROK v) : Wp scr (n + 2) 181 [.ref a] M Q ↔ Q (some (.int (mTh (rP v)))) M := by
  refine Wp_det (fun Q hQ => ?_)
  have key := nf_imp (N := 8) (Φ := fun p (s : Int32) => ∀ l3 l4, wp scr (n + 1) mb_181 4 [some (.ref a), some (.int s), some (.int (nI p)), l3, l4] [] M Q) (Ψ := fun s => Q (some (.int s)) M) (step := fun s p => mx s (mTc (rP v) p)) (I := fun _ _ => True)
    (fun _ _ _ _ => trivial)
    (fun p s hp _ hΦ l3 l4 => by
      have inn := nf_loop (N := 8) (Φ := fun q (t : Int32) => wp scr (n + 1) mb_181 15 [some (.ref a), some (.int s), some (.int (nI p)), some (.int t), some (.int (nI q))] [] M Q) (Ψ := fun t => wp scr (n + 1) mb_181 4 [some (.ref a), some (.int (mx s t)), some (.int (nI (p + 1))), some (.int t), some (.int (nI 8))] [] M Q) (step := fun t q => t + (if mOC (rP v) p q = true then 1 else 0))
        (fun q t hq => u181_15.trans (by
          simp only [e181, u181_0, u181_1, u181_2, u181_3, u181_5, u181_7, u181_10, u181_11, u181_12, u181_13, u181_17, u181_19, u181_22, u181_23, u181_24, u181_25, u181_27, u181_30, u181_33, u181_34, u181_37, u181_38, u181_39, u181_40, u181_43, u181_46, u181_47, u181_48, u181_51, u181_52, u181_55, u181_58, u181_59, mw_os, wp_ite, mw_sw, Option.toList_some, Option.toList_none, List.cons_append, List.nil_append, true_and, and_true, if_true, if_false, mw_s_, mw_s_i, mw_s_r, mw_s_ii, mw_s_ir, mw_s_ri, mw_s_rr, mw_s_iii, mw_s_iir, mw_s_iri, mw_s_irr, mw_s_rii, mw_s_rir, mw_s_rri, mw_s_rrr, mw_s_iiii, mw_s_iiir, mw_s_iiri, mw_s_iirr, mw_s_irii, mw_s_irir, mw_s_irri, mw_s_irrr, mw_s_riii, mw_s_riir, mw_s_riri, mw_s_rirr, mw_s_rrii, mw_s_rrir, mw_s_rrri, mw_s_rrrr, mm_sto1, mm_clr, mm_isL, List.getElem?_cons_zero, List.getElem?_cons_succ, List.set_cons_zero, List.set_cons_succ, Bool.false_eq_true, W163 h hv hp hq, bi_eq0, nle8 hq, nI_1]
          cases mOC (rP v) p q <;> simp))
        (fun t => u181_15.trans (by
          simp only [e181, u181_0, u181_1, u181_2, u181_3, u181_5, u181_7, u181_10, u181_11, u181_12, u181_13, u181_17, u181_19, u181_22, u181_23, u181_24, u181_25, u181_27, u181_30, u181_33, u181_34, u181_37, u181_38, u181_39, u181_40, u181_43, u181_46, u181_47, u181_48, u181_51, u181_52, u181_55, u181_58, u181_59, mw_os, wp_ite, mw_sw, Option.toList_some, Option.toList_none, List.cons_append, List.nil_append, true_and, and_true, if_true, if_false, mw_s_, mw_s_i, mw_s_r, mw_s_ii, mw_s_ir, mw_s_ri, mw_s_rr, mw_s_iii, mw_s_iir, mw_s_iri, mw_s_irr, mw_s_rii, mw_s_rir, mw_s_rri, mw_s_rrr, mw_s_iiii, mw_s_iiir, mw_s_iiri, mw_s_iirr, mw_s_irii, mw_s_irir, mw_s_irri, mw_s_irrr, mw_s_riii, mw_s_riir, mw_s_riri, mw_s_rirr, mw_s_rrii, mw_s_rrir, mw_s_rrri, mw_s_rrrr, mm_sto1, mm_clr, mm_isL, List.getElem?_cons_zero, List.getElem?_cons_succ, List.set_cons_zero, List.set_cons_succ, Bool.false_eq_true, nle8e, nI_1]
          exact Iff.rfl)) 8 0 0 rfl
      refine u181_4.mpr ?_
      simp only [u181_5, u181_7, u181_10, u181_11, u181_12, u181_13, mw_os, wp_ite, mw_sw, Option.toList_some, Option.toList_none, List.cons_append, List.nil_append, true_and, and_true, if_true, if_false, mw_s_, mw_s_i, mw_s_r, mw_s_ii, mw_s_ir, mw_s_ri, mw_s_rr, mw_s_iii, mw_s_iir, mw_s_iri, mw_s_irr, mw_s_rii, mw_s_rir, mw_s_rri, mw_s_rrr, mw_s_iiii, mw_s_iiir, mw_s_iiri, mw_s_iirr, mw_s_irii, mw_s_irir, mw_s_irri, mw_s_irrr, mw_s_riii, mw_s_riir, mw_s_riri, mw_s_rirr, mw_s_rrii, mw_s_rrir, mw_s_rrri, mw_s_rrrr, mm_sto1, mm_clr, mm_isL, List.getElem?_cons_zero, List.getElem?_cons_succ, List.set_cons_zero, List.set_cons_succ, Bool.false_eq_true, nle8 hp]
      exact inn.mpr (hΦ _ _))
    (fun s _ hQ l3 l4 => u181_4.mpr (by simp only [u181_5, u181_7, u181_58, u181_59, mw_os, wp_ite, mw_sw, Option.toList_some, Option.toList_none, List.cons_append, List.nil_append, true_and, and_true, if_true, if_false, mw_s_, mw_s_i, mw_s_r, mw_s_ii, mw_s_ir, mw_s_ri, mw_s_rr, mw_s_iii, mw_s_iir, mw_s_iri, mw_s_irr, mw_s_rii, mw_s_rir, mw_s_rri, mw_s_rrr, mw_s_iiii, mw_s_iiir, mw_s_iiri, mw_s_iirr, mw_s_irii, mw_s_irir, mw_s_irri, mw_s_irrr, mw_s_riii, mw_s_riir, mw_s_riri, mw_s_rirr, mw_s_rrii, mw_s_rrir, mw_s_rrri, mw_s_rrrr, nle8e]; exact hQ)) 8 0 0 rfl trivial
  simp only [e181, u181_0, u181_1, u181_2, u181_3, mw_os, wp_ite, mw_sw, Option.toList_some, Option.toList_none, List.cons_append, List.nil_append, true_and, and_true, if_true, if_false, mw_s_, mw_s_i, mw_s_r, mw_s_ii, mw_s_ir, mw_s_ri, mw_s_rr, mw_s_iii, mw_s_iir, mw_s_iri, mw_s_irr, mw_s_rii, mw_s_rir, mw_s_rri, mw_s_rrr, mw_s_iiii, mw_s_iiir, mw_s_iiri, mw_s_iirr, mw_s_irii, mw_s_irir, mw_s_irri, mw_s_irrr, mw_s_riii, mw_s_riir, mw_s_riri, mw_s_rirr, mw_s_rrii, mw_s_rrir, mw_s_rrri, mw_s_rrrr, mm_sto1, mm_clr, mm_isL, List.getElem?_cons_zero, List.getElem?_cons_succ, List.set_cons_zero, List.set_cons_succ, Bool.false_eq_true]
  exact key.1 hQ _ _
end MR1
