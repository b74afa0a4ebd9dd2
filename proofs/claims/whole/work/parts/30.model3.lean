/-! the reference's creases, efforts, wear -/
section MR2
variable {scr : List Int32} {n : Nat} {M : mm_M} {Q : Option Value → mm_M → Prop} {a : Nat} {v : RV} {i j : Nat} {x1 x2 x3 x4 : Int32}
def mOt (k w s : Int32) : Int32 := if k = 3 ∧ 10 ≤ w then 3 - s else s
def mEf (k f w s : Int32) : Int32 := if k = 1 then sEA 2 f (mOt k w s) else if k = 2 then sEA 1 f s else if k = 3 then sEA 2 f (mOt k w s) else if k = 4 then 7 else if k = 5 then sEA 1 f s / 2 else 3
def mWr (k w s : Int32) : Int32 := if k = 1 then sWA 2 (mOt k w s) else if k = 2 then sWA 1 s else if k = 3 then sWA 2 (mOt k w s) else if k = 4 then 0 else if k = 5 then (if s = 1 then 3 else 2) else 1
theorem W159 : Wp scr (n + 1) 159 [.int x1, .int x2, .int x3, .int x4] M Q ↔ Q (some (.int (mEf x1 x2 x3 x4))) M := by
  simp only [e159, u159_0, u159_1, u159_2, u159_5, u159_6, u159_8, u159_11, u159_12, u159_13, u159_14, u159_17, u159_18, u159_20, u159_21, u159_56, u159_58, u159_59, u159_62, u159_63, u159_64, u159_65, u159_68, u159_69, u159_70, u159_71, u159_72, u159_75, u159_76, u159_77, u159_78, u159_81, u159_82, u159_83, u159_85, u159_86, u159_87, u159_88, u159_91, u159_92, u159_93, u159_94, u159_97, u159_98, u159_99, u159_100, u159_101, u159_102, mw_os, wp_ite, mw_sw, Option.toList_some, Option.toList_none, List.cons_append, List.nil_append, true_and, and_true, if_true, if_false, mw_s_, mw_s_i, mw_s_r, mw_s_ii, mw_s_ir, mw_s_ri, mw_s_rr, mw_s_iii, mw_s_iir, mw_s_iri, mw_s_irr, mw_s_rii, mw_s_rir, mw_s_rri, mw_s_rrr, mw_s_iiii, mw_s_iiir, mw_s_iiri, mw_s_iirr, mw_s_irii, mw_s_irir, mw_s_irri, mw_s_irrr, mw_s_riii, mw_s_riir, mw_s_riri, mw_s_rirr, mw_s_rrii, mw_s_rrir, mw_s_rrri, mw_s_rrrr, mm_sto1, mm_clr, mm_isL, List.getElem?_cons_zero, List.getElem?_cons_succ, List.set_cons_zero, List.set_cons_succ, Bool.false_eq_true]
  unfold mEf mOt sEA
  by_cases h3 : x1 = 3
  · by_cases hw : x3 < 10
    · have hw2 : ¬ 10 ≤ x3 := Int32.not_le.mpr hw
      subst h3
      simp only [hw, hw2, if_true, if_false, and_false]
      by_cases h : x4 = 2 <;> simp [h]
    · have hw2 : 10 ≤ x3 := Int32.not_lt.mp hw
      subst h3
      simp only [hw, hw2, if_true, if_false, and_true]
      by_cases h : 3 - x4 = 2 <;> simp [h]
  · simp only [h3, if_false, if_true, not_false_eq_true, false_and]
    repeat' split
    all_goals first | rfl | simp_all
theorem W161 : Wp scr (n + 1) 161 [.int x1, .int x2, .int x3] M Q ↔ Q (some (.int (mWr x1 x2 x3))) M := by
  simp only [e161, u161_0, u161_1, u161_2, u161_5, u161_6, u161_8, u161_11, u161_12, u161_13, u161_14, u161_17, u161_18, u161_19, u161_20, u161_56, u161_57, u161_58, u161_61, u161_62, u161_65, u161_66, u161_67, u161_68, u161_69, u161_72, u161_73, u161_76, u161_77, u161_78, u161_79, u161_80, u161_81, u161_82, u161_85, u161_86, u161_89, u161_90, u161_91, u161_92, mw_os, wp_ite, mw_sw, Option.toList_some, Option.toList_none, List.cons_append, List.nil_append, true_and, and_true, if_true, if_false, mw_s_, mw_s_i, mw_s_r, mw_s_ii, mw_s_ir, mw_s_ri, mw_s_rr, mw_s_iii, mw_s_iir, mw_s_iri, mw_s_irr, mw_s_rii, mw_s_rir, mw_s_rri, mw_s_rrr, mw_s_iiii, mw_s_iiir, mw_s_iiri, mw_s_iirr, mw_s_irii, mw_s_irir, mw_s_irri, mw_s_irrr, mw_s_riii, mw_s_riir, mw_s_riri, mw_s_rirr, mw_s_rrii, mw_s_rrir, mw_s_rrri, mw_s_rrrr, mm_sto1, mm_clr, mm_isL, List.getElem?_cons_zero, List.getElem?_cons_succ, List.set_cons_zero, List.set_cons_succ, Bool.false_eq_true]
  unfold mWr mOt sWA
  by_cases h3 : x1 = 3
  · by_cases hw : x2 < 10
    · have hw2 : ¬ 10 ≤ x2 := Int32.not_le.mpr hw
      subst h3
      simp only [hw, hw2, if_true, if_false, and_false]
      by_cases h : x3 = 2 <;> simp [h]
    · have hw2 : 10 ≤ x2 := Int32.not_lt.mp hw
      subst h3
      simp only [hw, hw2, if_true, if_false, and_true]
      by_cases h : 3 - x3 = 2 <;> simp [h]
  · simp only [h3, if_false, if_true, not_false_eq_true, false_and]
    repeat' split
    all_goals first | rfl | simp_all
def mEo (v : RV) (i : Nat) (s : Int32) : Int32 := mEf (gi (rK v) (nI i)) (gi (rF v) (nI i)) (gi (rO v) (nI i)) s
theorem W158 (h : RA M a (rowL v)) (hv : ROK v) (hi : i < 10) : Wp scr (n + 2) 158 [.ref a, .int (nI i), .int x3] M Q ↔ Q (some (.int (mEo v i x3))) M := by
  simp only [e158, u158_0, u158_1, u158_2, u158_3, u158_4, u158_5, u158_6, u158_8, u158_9, u158_10, u158_11, u158_12, u158_14, u158_15, u158_16, u158_17, u158_18, u158_21, mw_os, wp_ite, mw_sw, Option.toList_some, Option.toList_none, List.cons_append, List.nil_append, true_and, and_true, if_true, if_false, mw_s_, mw_s_i, mw_s_r, mw_s_ii, mw_s_ir, mw_s_ri, mw_s_rr, mw_s_iii, mw_s_iir, mw_s_iri, mw_s_irr, mw_s_rii, mw_s_rir, mw_s_rri, mw_s_rrr, mw_s_iiii, mw_s_iiir, mw_s_iiri, mw_s_iirr, mw_s_irii, mw_s_irir, mw_s_irri, mw_s_irrr, mw_s_riii, mw_s_riir, mw_s_riri, mw_s_rirr, mw_s_rrii, mw_s_rrir, mw_s_rrri, mw_s_rrrr, RA_ld h, c0, c10, c20, rd_K hv hi, rd_F hv hi, rd_O hv hi, W159]
  exact Iff.rfl
/-- a crease's panels, numbers -/
def cs (i : Nat) : Nat := [0, 1, 2, 4, 5, 6, 0, 1, 2, 3].getD i 0
def ce (i : Nat) : Nat := [1, 2, 3, 5, 6, 7, 4, 5, 6, 7].getD i 0
theorem cs_lt {i : Nat} (h : i < 10) : cs i < 8 := (show ∀ i, i < 10 → cs i < 8 by decide) i h
theorem ce_lt {i : Nat} (h : i < 10) : ce i < 8 := (show ∀ i, i < 10 → ce i < 8 by decide) i h
theorem cS_cs {i : Nat} (h : i < 10) : gi cS (nI i) = nI (cs i) := (show ∀ i, i < 10 → gi cS (nI i) = nI (cs i) by decide +kernel) i h
theorem cE_ce {i : Nat} (h : i < 10) : gi cE (nI i) = nI (ce i) := (show ∀ i, i < 10 → gi cE (nI i) = nI (ce i) by decide +kernel) i h
theorem W154 (hi : i < 10) : Wp scr (n + 1) 154 [.int (nI i)] M Q ↔ Q (some (.int (nI (cs i)))) M := by
  have e : (if (3 : Int32) ≤ nI i then (if (6 : Int32) ≤ nI i then nI i - 6 else nI i + 1) else nI i) = nI (cs i) := (show ∀ i, i < 10 → (if (3 : Int32) ≤ nI i then (if (6 : Int32) ≤ nI i then nI i - 6 else nI i + 1) else nI i) = nI (cs i) by decide +kernel) i hi
  rw [← e]
  simp only [e154, u154_0, u154_1, u154_2, u154_5, u154_6, u154_9, u154_10, u154_12, u154_15, u154_16, u154_17, u154_18, u154_21, u154_22, u154_24, u154_25, mw_os, wp_ite, mw_sw, Option.toList_some, Option.toList_none, List.cons_append, List.nil_append, true_and, and_true, if_true, if_false, mw_s_, mw_s_i, mw_s_r, mw_s_ii, mw_s_ir, mw_s_ri, mw_s_rr, mw_s_iii, mw_s_iir, mw_s_iri, mw_s_irr, mw_s_rii, mw_s_rir, mw_s_rri, mw_s_rrr, mw_s_iiii, mw_s_iiir, mw_s_iiri, mw_s_iirr, mw_s_irii, mw_s_irir, mw_s_irri, mw_s_irrr, mw_s_riii, mw_s_riir, mw_s_riri, mw_s_rirr, mw_s_rrii, mw_s_rrir, mw_s_rrri, mw_s_rrrr]
  repeat' split
  all_goals rfl
theorem W155 (hi : i < 10) : Wp scr (n + 1) 155 [.int (nI i)] M Q ↔ Q (some (.int (nI (ce i)))) M := by
  have e : (if (3 : Int32) ≤ nI i then (if (6 : Int32) ≤ nI i then nI i - 2 else nI i + 2) else nI i + 1) = nI (ce i) := (show ∀ i, i < 10 → (if (3 : Int32) ≤ nI i then (if (6 : Int32) ≤ nI i then nI i - 2 else nI i + 2) else nI i + 1) = nI (ce i) by decide +kernel) i hi
  rw [← e]
  simp only [e155, u155_0, u155_1, u155_2, u155_5, u155_6, u155_7, u155_8, u155_11, u155_12, u155_14, u155_17, u155_18, u155_19, u155_20, u155_23, u155_24, u155_25, u155_26, mw_os, wp_ite, mw_sw, Option.toList_some, Option.toList_none, List.cons_append, List.nil_append, true_and, and_true, if_true, if_false, mw_s_, mw_s_i, mw_s_r, mw_s_ii, mw_s_ir, mw_s_ri, mw_s_rr, mw_s_iii, mw_s_iir, mw_s_iri, mw_s_irr, mw_s_rii, mw_s_rir, mw_s_rri, mw_s_rrr, mw_s_iiii, mw_s_iiir, mw_s_iiri, mw_s_iirr, mw_s_irii, mw_s_irir, mw_s_irri, mw_s_irrr, mw_s_riii, mw_s_riir, mw_s_riri, mw_s_rirr, mw_s_rrii, mw_s_rrir, mw_s_rrri, mw_s_rrrr]
  repeat' split
  all_goals rfl
/-- the creases along a line -/
def mAl (P : List Int32) (r : Bool) (k : Nat) : Int32 := if r = true then gi P (nI (4 * k + 1)) else gi P (nI (4 * k))
def mAs (P : List Int32) (r : Bool) (k : Nat) : Int32 := if r = true then gi P (nI (4 * k)) else gi P (nI (4 * k + 1))
def mMe (P : List Int32) (r : Bool) (cut : Int32) (i : Nat) : Bool := decide (mAs P r (cs i) = mAs P r (ce i) ∧ mn (mAl P r (cs i)) (mAl P r (ce i)) = cut - 1 ∧ mx (mAl P r (cs i)) (mAl P r (ce i)) = cut)
def mCrs (P S : List Int32) (r : Bool) (cut : Int32) (s : Int32) (i : Nat) : Int32 := s ||| (if mMe P r cut i = true ∧ gi S (nI i) = 0 then ((1 : Int32) <<< (nI i &&& 31)) else 0)
def mCr (P S : List Int32) (r : Bool) (cut : Int32) : Int32 := (List.range' 0 10).foldl (mCrs P S r cut) 0
theorem i41 : ((1 : Int32) = 4) ↔ False := by decide
theorem W153m {r : Bool} {cut : Int32} (h : RA M a (rowL v)) (hv : ROK v) (hQ : Q (some (.int (mCr (rP v) (rS v) r cut))) M) : ∀ l1 l6 l7 l8, wp scr (n + 1) mb_153 28 [some (.ref a), l1, some (.int (bi r)), some (.int cut), some (.int 0), some (.int (nI 0)), l6, l7, l8] [] M Q := by
  have key := nf_imp (N := 10) (Φ := fun i (s : Int32) => ∀ l1 l6 l7 l8, wp scr (n + 1) mb_153 28 [some (.ref a), l1, some (.int (bi r)), some (.int cut), some (.int s), some (.int (nI i)), l6, l7, l8] [] M Q) (Ψ := fun s => Q (some (.int s)) M) (step := mCrs (rP v) (rS v) r cut) (I := fun _ _ => True)
    (fun _ _ _ _ => trivial)
    (fun i s hi _ hΦ l1 l6 l7 l8 => by
      have k1 := cs_lt hi
      have k2 := ce_lt hi
      refine u153_28.mpr ?_
      have hs : wp scr (n + 1) mb_153 123 [some (.ref a), l1, some (.int (bi r)), some (.int cut), some (.int s), some (.int (nI i)), some (.int (nI (40 + 4 * cs i))), some (.int (nI (40 + 4 * ce i))), l8] [.int (bi (mMe (rP v) r cut i))] M Q := by
        have := hΦ l1 (some (.int (nI (40 + 4 * cs i)))) (some (.int (nI (40 + 4 * ce i)))) (some (.int (bi (mMe (rP v) r cut i))))
        unfold mCrs at this
        simp only [e153, u153_0, u153_1, u153_2, u153_5, u153_6, u153_9, u153_10, u153_11, u153_12, u153_13, u153_16, u153_17, u153_20, u153_21, u153_22, u153_23, u153_25, u153_26, u153_30, u153_32, u153_35, u153_37, u153_38, u153_40, u153_43, u153_44, u153_45, u153_47, u153_49, u153_50, u153_52, u153_55, u153_56, u153_57, u153_59, u153_60, u153_62, u153_63, u153_64, u153_65, u153_66, u153_67, u153_68, u153_70, u153_71, u153_72, u153_73, u153_74, u153_75, u153_78, u153_79, u153_81, u153_82, u153_83, u153_84, u153_85, u153_87, u153_88, u153_89, u153_90, u153_93, u153_94, u153_95, u153_96, u153_99, u153_100, u153_102, u153_103, u153_104, u153_105, u153_106, u153_108, u153_109, u153_110, u153_111, u153_114, u153_115, u153_118, u153_119, u153_122, u153_123, u153_125, u153_127, u153_129, u153_132, u153_133, u153_135, u153_137, u153_138, u153_139, u153_142, u153_143, u153_145, u153_146, u153_149, u153_150, u153_151, u153_153, u153_156, u153_159, u153_161, mw_os, wp_ite, mw_sw, Option.toList_some, Option.toList_none, List.cons_append, List.nil_append, true_and, and_true, if_true, if_false, mw_s_, mw_s_i, mw_s_r, mw_s_ii, mw_s_ir, mw_s_ri, mw_s_rr, mw_s_iii, mw_s_iir, mw_s_iri, mw_s_irr, mw_s_rii, mw_s_rir, mw_s_rri, mw_s_rrr, mw_s_iiii, mw_s_iiir, mw_s_iiri, mw_s_iirr, mw_s_irii, mw_s_irir, mw_s_irri, mw_s_irrr, mw_s_riii, mw_s_riir, mw_s_riri, mw_s_rirr, mw_s_rrii, mw_s_rrir, mw_s_rrri, mw_s_rrrr, mm_sto1, mm_clr, mm_isL, List.getElem?_cons_zero, List.getElem?_cons_succ, List.set_cons_zero, List.set_cons_succ, Bool.false_eq_true, RA_ld h, c30, rd_S hv hi, bi_eq0, nI_1]
        cases hm : mMe (rP v) r cut i
        · simp only [hm, bi_f] at this ⊢
          simpa using this
        · simp only [hm, bi_t] at this ⊢
          by_cases hz : gi (rS v) (nI i) = 0
          · simpa [hz] using this
          · simpa [hz] using this
      unfold mMe mAs mAl mn mx at hs
      cases r
      · simp only [e153, u153_0, u153_1, u153_2, u153_5, u153_6, u153_9, u153_10, u153_11, u153_12, u153_13, u153_16, u153_17, u153_20, u153_21, u153_22, u153_23, u153_25, u153_26, u153_30, u153_32, u153_35, u153_37, u153_38, u153_40, u153_43, u153_44, u153_45, u153_47, u153_49, u153_50, u153_52, u153_55, u153_56, u153_57, u153_59, u153_60, u153_62, u153_63, u153_64, u153_65, u153_66, u153_67, u153_68, u153_70, u153_71, u153_72, u153_73, u153_74, u153_75, u153_78, u153_79, u153_81, u153_82, u153_83, u153_84, u153_85, u153_87, u153_88, u153_89, u153_90, u153_93, u153_94, u153_95, u153_96, u153_99, u153_100, u153_102, u153_103, u153_104, u153_105, u153_106, u153_108, u153_109, u153_110, u153_111, u153_114, u153_115, u153_118, u153_119, u153_122, u153_125, u153_127, u153_129, u153_132, u153_133, u153_135, u153_137, u153_138, u153_139, u153_142, u153_143, u153_145, u153_146, u153_149, u153_150, u153_151, u153_153, u153_156, u153_159, u153_161, mw_os, wp_ite, mw_sw, Option.toList_some, Option.toList_none, List.cons_append, List.nil_append, true_and, and_true, if_true, if_false, mw_s_, mw_s_i, mw_s_r, mw_s_ii, mw_s_ir, mw_s_ri, mw_s_rr, mw_s_iii, mw_s_iir, mw_s_iri, mw_s_irr, mw_s_rii, mw_s_rir, mw_s_rri, mw_s_rrr, mw_s_iiii, mw_s_iiir, mw_s_iiri, mw_s_iirr, mw_s_irii, mw_s_irir, mw_s_irri, mw_s_irrr, mw_s_riii, mw_s_riir, mw_s_riri, mw_s_rirr, mw_s_rrii, mw_s_rrir, mw_s_rrri, mw_s_rrrr, mm_sto1, mm_clr, mm_isL, List.getElem?_cons_zero, List.getElem?_cons_succ, List.set_cons_zero, List.set_cons_succ, Bool.false_eq_true, RA_ld h, W154 hi, W155 hi, bi_f, m4n, c40, nI_1, Nat.add_assoc, Int32.sub_zero, Int32.add_zero, nle10 hi, rd_P hv (show 4 * cs i < 32 by omega), rd_P hv (show 4 * ce i < 32 by omega), rd_P hv (show 4 * cs i + 1 < 32 by omega), rd_P hv (show 4 * ce i + 1 < 32 by omega)]
        simp only [reduceCtorEq, if_false, bi_f] at hs
        by_cases q1 : gi (rP v) (nI (4 * cs i + 1)) = gi (rP v) (nI (4 * ce i + 1))
        · by_cases q2 : (if gi (rP v) (nI (4 * ce i)) < gi (rP v) (nI (4 * cs i)) then gi (rP v) (nI (4 * ce i)) else gi (rP v) (nI (4 * cs i))) = cut - 1
          · by_cases q3 : (if gi (rP v) (nI (4 * cs i)) < gi (rP v) (nI (4 * ce i)) then gi (rP v) (nI (4 * ce i)) else gi (rP v) (nI (4 * cs i))) = cut
            · simp only [q1, q2, q3, not_true, if_false]
              simpa [q1, q2, q3, bi] using hs
            · simp only [q1, q2, q3, not_true, not_false_eq_true, if_true, if_false]
              simpa [q1, q2, q3, bi] using hs
          · simp only [q1, q2, not_true, not_false_eq_true, if_true, if_false]
            simpa [q1, q2, bi] using hs
        · simp only [q1, not_false_eq_true, if_true]
          simpa [q1, bi] using hs
      · have e1 : ∀ k, nI (40 + (4 * k + 1)) - 1 = nI (40 + 4 * k) := fun k => nI_pred (40 + 4 * k)
        simp only [e153, u153_0, u153_1, u153_2, u153_5, u153_6, u153_9, u153_10, u153_11, u153_12, u153_13, u153_16, u153_17, u153_20, u153_21, u153_22, u153_23, u153_25, u153_26, u153_30, u153_32, u153_35, u153_37, u153_38, u153_40, u153_43, u153_44, u153_45, u153_47, u153_49, u153_50, u153_52, u153_55, u153_56, u153_57, u153_59, u153_60, u153_62, u153_63, u153_64, u153_65, u153_66, u153_67, u153_68, u153_70, u153_71, u153_72, u153_73, u153_74, u153_75, u153_78, u153_79, u153_81, u153_82, u153_83, u153_84, u153_85, u153_87, u153_88, u153_89, u153_90, u153_93, u153_94, u153_95, u153_96, u153_99, u153_100, u153_102, u153_103, u153_104, u153_105, u153_106, u153_108, u153_109, u153_110, u153_111, u153_114, u153_115, u153_118, u153_119, u153_122, u153_125, u153_127, u153_129, u153_132, u153_133, u153_135, u153_137, u153_138, u153_139, u153_142, u153_143, u153_145, u153_146, u153_149, u153_150, u153_151, u153_153, u153_156, u153_159, u153_161, mw_os, wp_ite, mw_sw, Option.toList_some, Option.toList_none, List.cons_append, List.nil_append, true_and, and_true, if_true, if_false, mw_s_, mw_s_i, mw_s_r, mw_s_ii, mw_s_ir, mw_s_ri, mw_s_rr, mw_s_iii, mw_s_iir, mw_s_iri, mw_s_irr, mw_s_rii, mw_s_rir, mw_s_rri, mw_s_rrr, mw_s_iiii, mw_s_iiir, mw_s_iiri, mw_s_iirr, mw_s_irii, mw_s_irir, mw_s_irri, mw_s_irrr, mw_s_riii, mw_s_riir, mw_s_riri, mw_s_rirr, mw_s_rrii, mw_s_rrir, mw_s_rrri, mw_s_rrrr, mm_sto1, mm_clr, mm_isL, List.getElem?_cons_zero, List.getElem?_cons_succ, List.set_cons_zero, List.set_cons_succ, Bool.false_eq_true, RA_ld h, W154 hi, W155 hi, bi_t, m4n, c40, nI_1, Nat.add_assoc, e1, nle10 hi, rd_P hv (show 4 * cs i < 32 by omega), rd_P hv (show 4 * ce i < 32 by omega), rd_P hv (show 4 * cs i + 1 < 32 by omega), rd_P hv (show 4 * ce i + 1 < 32 by omega)]
        simp only [if_true, bi_t] at hs
        by_cases q1 : gi (rP v) (nI (4 * cs i)) = gi (rP v) (nI (4 * ce i))
        · by_cases q2 : (if gi (rP v) (nI (4 * ce i + 1)) < gi (rP v) (nI (4 * cs i + 1)) then gi (rP v) (nI (4 * ce i + 1)) else gi (rP v) (nI (4 * cs i + 1))) = cut - 1
          · by_cases q3 : (if gi (rP v) (nI (4 * cs i + 1)) < gi (rP v) (nI (4 * ce i + 1)) then gi (rP v) (nI (4 * ce i + 1)) else gi (rP v) (nI (4 * cs i + 1))) = cut
            · simp only [q1, q2, q3, not_true, if_false]
              simpa [q1, q2, q3, bi] using hs
            · simp only [q1, q2, q3, not_true, not_false_eq_true, if_true, if_false]
              simpa [q1, q2, q3, bi] using hs
          · simp only [q1, q2, not_true, not_false_eq_true, if_true, if_false]
            simpa [q1, q2, bi] using hs
        · simp only [q1, not_false_eq_true, if_true]
          simpa [q1, bi] using hs)
    (fun s _ hQ l1 l6 l7 l8 => u153_28.mpr (by simp only [u153_30, u153_32, u153_159, u153_161, mw_os, wp_ite, mw_sw, Option.toList_some, Option.toList_none, List.cons_append, List.nil_append, true_and, and_true, if_true, if_false, mw_s_, mw_s_i, mw_s_r, mw_s_ii, mw_s_ir, mw_s_ri, mw_s_rr, mw_s_iii, mw_s_iir, mw_s_iri, mw_s_irr, mw_s_rii, mw_s_rir, mw_s_rri, mw_s_rrr, mw_s_iiii, mw_s_iiir, mw_s_iiri, mw_s_iirr, mw_s_irii, mw_s_irir, mw_s_irri, mw_s_irrr, mw_s_riii, mw_s_riir, mw_s_riri, mw_s_rirr, mw_s_rrii, mw_s_rrir, mw_s_rrri, mw_s_rrrr, nle10e]; exact hQ)) 10 0 0 rfl trivial
  exact key.1 hQ
theorem W153 {l : Int32} (h : RA M a (rowL v)) (hv : ROK v) : Wp scr (n + 2) 153 [.ref a, .int l] M Q ↔ Q (some (.int (mCr (rP v) (rS v) (bfR l) (bfC l)))) M := by
  refine Wp_det (fun Q hQ => ?_)
  have m := W153m (scr := scr) (n := n) (r := bfR l) (cut := bfC l) h hv hQ (some (.int l)) none none none
  unfold bfR bfC at m
  by_cases h4 : l = 4
  · simp only [h4, decide_true, if_true, bi_t, nI_0] at m
    simp only [e153, u153_0, u153_1, u153_2, u153_5, u153_6, u153_9, u153_10, u153_11, u153_12, u153_13, u153_16, u153_17, u153_20, u153_21, u153_22, u153_23, u153_25, u153_26, mw_os, wp_ite, mw_sw, Option.toList_some, Option.toList_none, List.cons_append, List.nil_append, true_and, and_true, if_true, if_false, mw_s_, mw_s_i, mw_s_r, mw_s_ii, mw_s_ir, mw_s_ri, mw_s_rr, mw_s_iii, mw_s_iir, mw_s_iri, mw_s_irr, mw_s_rii, mw_s_rir, mw_s_rri, mw_s_rrr, mw_s_iiii, mw_s_iiir, mw_s_iiri, mw_s_iirr, mw_s_irii, mw_s_irir, mw_s_irri, mw_s_irrr, mw_s_riii, mw_s_riir, mw_s_riri, mw_s_rirr, mw_s_rrii, mw_s_rrir, mw_s_rrri, mw_s_rrrr, mm_sto1, mm_clr, mm_isL, List.getElem?_cons_zero, List.getElem?_cons_succ, List.set_cons_zero, List.set_cons_succ, Bool.false_eq_true, h4, not_true]
    exact m
  · simp only [h4, decide_false, if_false, bi_f, nI_0] at m
    simp only [e153, u153_0, u153_1, u153_2, u153_5, u153_6, u153_9, u153_10, u153_11, u153_12, u153_13, u153_16, u153_17, u153_20, u153_21, u153_22, u153_23, u153_25, u153_26, mw_os, wp_ite, mw_sw, Option.toList_some, Option.toList_none, List.cons_append, List.nil_append, true_and, and_true, if_true, if_false, mw_s_, mw_s_i, mw_s_r, mw_s_ii, mw_s_ir, mw_s_ri, mw_s_rr, mw_s_iii, mw_s_iir, mw_s_iri, mw_s_irr, mw_s_rii, mw_s_rir, mw_s_rri, mw_s_rrr, mw_s_iiii, mw_s_iiir, mw_s_iiri, mw_s_iirr, mw_s_irii, mw_s_irir, mw_s_irri, mw_s_irrr, mw_s_riii, mw_s_riir, mw_s_riri, mw_s_rirr, mw_s_rrii, mw_s_rrir, mw_s_rrri, mw_s_rrrr, mm_sto1, mm_clr, mm_isL, List.getElem?_cons_zero, List.getElem?_cons_succ, List.set_cons_zero, List.set_cons_succ, Bool.false_eq_true, h4, not_false_eq_true]
    exact m
def mSd (P : List Int32) (i : Nat) (o : Bool) : Int32 := if decide (gi P (nI (4 * cs i + 3)) = 0) = o then 2 else 1
theorem W157 {w : Int32} (h : RA M a (rowL v)) (hv : ROK v) (hi : i < 10) : Wp scr (n + 2) 157 [.ref a, .int (nI i), .int w] M Q ↔ Q (some (.int (mSd (rP v) i (bfO w)))) M := by
  have k1 := cs_lt hi
  simp only [e157, u157_0, u157_1, u157_3, u157_4, u157_5, u157_8, u157_9, u157_10, u157_11, u157_12, u157_13, u157_16, u157_17, u157_20, u157_21, u157_22, u157_23, u157_24, u157_25, u157_26, u157_29, u157_30, u157_33, u157_34, u157_37, u157_38, u157_41, u157_42, mw_os, wp_ite, mw_sw, Option.toList_some, Option.toList_none, List.cons_append, List.nil_append, true_and, and_true, if_true, if_false, mw_s_, mw_s_i, mw_s_r, mw_s_ii, mw_s_ir, mw_s_ri, mw_s_rr, mw_s_iii, mw_s_iir, mw_s_iri, mw_s_irr, mw_s_rii, mw_s_rir, mw_s_rri, mw_s_rrr, mw_s_iiii, mw_s_iiir, mw_s_iiri, mw_s_iirr, mw_s_irii, mw_s_irir, mw_s_irri, mw_s_irrr, mw_s_riii, mw_s_riir, mw_s_riri, mw_s_rirr, mw_s_rrii, mw_s_rrir, mw_s_rrri, mw_s_rrrr, mm_sto1, mm_clr, mm_isL, List.getElem?_cons_zero, List.getElem?_cons_succ, List.set_cons_zero, List.set_cons_succ, Bool.false_eq_true, RA_ld h, W154 hi, m4n, c40, n_3, Nat.add_assoc, rd_P hv (show 4 * cs i + 3 < 32 by omega), i20]
  unfold mSd bfO
  by_cases h1 : gi (rP v) (nI (4 * cs i + 3)) = 0 <;> by_cases h2 : w - w / 2 * 2 = 0 <;> simp [h1, h2, i10, i01]
def mEbs (v : RV) (set : Int32) (o : Bool) (s : Int32) (i : Nat) : Int32 := s + (if (set >>> (nI i &&& 31)) &&& 1 = 1 then mEo v i (mSd (rP v) i o) else 0)
def mEb (v : RV) (set : Int32) (o : Bool) : Int32 := (List.range' 0 10).foldl (mEbs v set o) 0
theorem W156 {l w : Int32} (h : RA M a (rowL v)) (hv : ROK v) : Wp scr (n + 3) 156 [.ref a, .int l, .int w] M Q ↔ Q (some (.int (mEb v (mCr (rP v) (rS v) (bfR l) (bfC l)) (bfO w)))) M := by
  have key := nf_loop (N := 10) (Φ := fun i (s : Int32) => wp scr (n + 2) mb_156 12 [some (.ref a), some (.int l), some (.int w), some (.int (mCr (rP v) (rS v) (bfR l) (bfC l))), some (.int s), some (.int (nI i))] [] M Q) (Ψ := fun s => Q (some (.int s)) M) (step := mEbs v (mCr (rP v) (rS v) (bfR l) (bfC l)) (bfO w))
    (fun i s hi => u156_12.trans (by
      simp only [e156, u156_0, u156_1, u156_2, u156_5, u156_6, u156_7, u156_9, u156_10, u156_14, u156_16, u156_19, u156_21, u156_22, u156_24, u156_25, u156_26, u156_27, u156_28, u156_31, u156_32, u156_34, u156_35, u156_37, u156_38, u156_41, u156_44, u156_47, u156_48, u156_49, u156_51, u156_54, u156_57, u156_59, mw_os, wp_ite, mw_sw, Option.toList_some, Option.toList_none, List.cons_append, List.nil_append, true_and, and_true, if_true, if_false, mw_s_, mw_s_i, mw_s_r, mw_s_ii, mw_s_ir, mw_s_ri, mw_s_rr, mw_s_iii, mw_s_iir, mw_s_iri, mw_s_irr, mw_s_rii, mw_s_rir, mw_s_rri, mw_s_rrr, mw_s_iiii, mw_s_iiir, mw_s_iiri, mw_s_iirr, mw_s_irii, mw_s_irir, mw_s_irri, mw_s_irrr, mw_s_riii, mw_s_riir, mw_s_riri, mw_s_rirr, mw_s_rrii, mw_s_rrir, mw_s_rrri, mw_s_rrrr, mm_sto1, mm_clr, mm_isL, List.getElem?_cons_zero, List.getElem?_cons_succ, List.set_cons_zero, List.set_cons_succ, Bool.false_eq_true, W157 h hv hi, W158 h hv hi, nle10 hi, nI_1]
      unfold mEbs
      by_cases q : (mCr (rP v) (rS v) (bfR l) (bfC l) >>> (nI i &&& 31)) &&& 1 = 1 <;> simp [q]))
    (fun s => u156_12.trans (by simp only [e156, u156_0, u156_1, u156_2, u156_5, u156_6, u156_7, u156_9, u156_10, u156_14, u156_16, u156_19, u156_21, u156_22, u156_24, u156_25, u156_26, u156_27, u156_28, u156_31, u156_32, u156_34, u156_35, u156_37, u156_38, u156_41, u156_44, u156_47, u156_48, u156_49, u156_51, u156_54, u156_57, u156_59, mw_os, wp_ite, mw_sw, Option.toList_some, Option.toList_none, List.cons_append, List.nil_append, true_and, and_true, if_true, if_false, mw_s_, mw_s_i, mw_s_r, mw_s_ii, mw_s_ir, mw_s_ri, mw_s_rr, mw_s_iii, mw_s_iir, mw_s_iri, mw_s_irr, mw_s_rii, mw_s_rir, mw_s_rri, mw_s_rrr, mw_s_iiii, mw_s_iiir, mw_s_iiri, mw_s_iirr, mw_s_irii, mw_s_irir, mw_s_irri, mw_s_irrr, mw_s_riii, mw_s_riir, mw_s_riri, mw_s_rirr, mw_s_rrii, mw_s_rrir, mw_s_rrri, mw_s_rrrr, nle10e])) 10 0 0 rfl
  rw [mEb, ← key]
  simp only [e156, u156_0, u156_1, u156_2, u156_5, u156_6, u156_7, u156_9, u156_10, mw_os, wp_ite, mw_sw, Option.toList_some, Option.toList_none, List.cons_append, List.nil_append, true_and, and_true, if_true, if_false, mw_s_, mw_s_i, mw_s_r, mw_s_ii, mw_s_ir, mw_s_ri, mw_s_rr, mw_s_iii, mw_s_iir, mw_s_iri, mw_s_irr, mw_s_rii, mw_s_rir, mw_s_rri, mw_s_rrr, mw_s_iiii, mw_s_iiir, mw_s_iiri, mw_s_iirr, mw_s_irii, mw_s_irir, mw_s_irri, mw_s_irrr, mw_s_riii, mw_s_riir, mw_s_riri, mw_s_rirr, mw_s_rrii, mw_s_rrir, mw_s_rrri, mw_s_rrrr, mm_sto1, mm_clr, mm_isL, List.getElem?_cons_zero, List.getElem?_cons_succ, List.set_cons_zero, List.set_cons_succ, Bool.false_eq_true, W153 h hv]
  exact Iff.rfl
theorem W178 (h : RA M a (rowL v)) (hv : ROK v) : Wp scr (n + 1) 178 [.ref a] M Q ↔ Q (some (.int (waO (rO v)))) M := by
  have key := nf_loop (N := 10) (Φ := fun i (s : Int32) => wp scr n mb_178 4 [some (.ref a), some (.int s), some (.int (nI i))] [] M Q) (Ψ := fun s => Q (some (.int s)) M) (step := fun r i => r + gi (rO v) (nI i))
    (fun i s hi => u178_4.trans (by
      simp only [e178, u178_0, u178_1, u178_2, u178_3, u178_5, u178_7, u178_10, u178_11, u178_12, u178_14, u178_15, u178_16, u178_17, u178_18, u178_19, u178_22, u178_25, u178_26, mw_os, wp_ite, mw_sw, Option.toList_some, Option.toList_none, List.cons_append, List.nil_append, true_and, and_true, if_true, if_false, mw_s_, mw_s_i, mw_s_r, mw_s_ii, mw_s_ir, mw_s_ri, mw_s_rr, mw_s_iii, mw_s_iir, mw_s_iri, mw_s_irr, mw_s_rii, mw_s_rir, mw_s_rri, mw_s_rrr, mw_s_iiii, mw_s_iiir, mw_s_iiri, mw_s_iirr, mw_s_irii, mw_s_irir, mw_s_irri, mw_s_irrr, mw_s_riii, mw_s_riir, mw_s_riri, mw_s_rirr, mw_s_rrii, mw_s_rrir, mw_s_rrri, mw_s_rrrr, mm_sto1, mm_clr, mm_isL, List.getElem?_cons_zero, List.getElem?_cons_succ, List.set_cons_zero, List.set_cons_succ, Bool.false_eq_true, RA_ld h, c20, rd_O hv hi, nle10 hi, nI_1]))
    (fun s => u178_4.trans (by simp only [e178, u178_0, u178_1, u178_2, u178_3, u178_5, u178_7, u178_10, u178_11, u178_12, u178_14, u178_15, u178_16, u178_17, u178_18, u178_19, u178_22, u178_25, u178_26, mw_os, wp_ite, mw_sw, Option.toList_some, Option.toList_none, List.cons_append, List.nil_append, true_and, and_true, if_true, if_false, mw_s_, mw_s_i, mw_s_r, mw_s_ii, mw_s_ir, mw_s_ri, mw_s_rr, mw_s_iii, mw_s_iir, mw_s_iri, mw_s_irr, mw_s_rii, mw_s_rir, mw_s_rri, mw_s_rrr, mw_s_iiii, mw_s_iiir, mw_s_iiri, mw_s_iirr, mw_s_irii, mw_s_irir, mw_s_irri, mw_s_irrr, mw_s_riii, mw_s_riir, mw_s_riri, mw_s_rirr, mw_s_rrii, mw_s_rrir, mw_s_rrri, mw_s_rrrr, nle10e])) 10 0 0 rfl
  rw [waO, ← key]
  simp only [e178, u178_0, u178_1, u178_2, u178_3, mw_os, wp_ite, mw_sw, Option.toList_some, Option.toList_none, List.cons_append, List.nil_append, true_and, and_true, if_true, if_false, mw_s_, mw_s_i, mw_s_r, mw_s_ii, mw_s_ir, mw_s_ri, mw_s_rr, mw_s_iii, mw_s_iir, mw_s_iri, mw_s_irr, mw_s_rii, mw_s_rir, mw_s_rri, mw_s_rrr, mw_s_iiii, mw_s_iiir, mw_s_iiri, mw_s_iirr, mw_s_irii, mw_s_irir, mw_s_irri, mw_s_irrr, mw_s_riii, mw_s_riir, mw_s_riri, mw_s_rirr, mw_s_rrii, mw_s_rrir, mw_s_rrri, mw_s_rrrr, mm_sto1, mm_clr, mm_isL, List.getElem?_cons_zero, List.getElem?_cons_succ, List.set_cons_zero, List.set_cons_succ, Bool.false_eq_true]
  exact Iff.rfl
theorem W200 (h : RA M a (rowL v)) (hv : ROK v) (hi : i < 3) : Wp scr (n + 1) 200 [.ref a, .int (nI i)] M Q ↔ Q (some (.int (wAt (rO v) i))) M := by
  have c23 : (23 : Int32) + nI i = nI (20 + (i + 3)) := (nI_add 23 i).trans (congrArg nI (by omega))
  have c26 : (26 : Int32) + nI i = nI (20 + (i + 6)) := (nI_add 26 i).trans (congrArg nI (by omega))
  have c27 : (27 : Int32) + nI i = nI (20 + (i + 7)) := (nI_add 27 i).trans (congrArg nI (by omega))
  simp only [e200, u200_0, u200_1, u200_3, u200_4, u200_5, u200_6, u200_7, u200_9, u200_10, u200_11, u200_12, u200_13, u200_14, u200_16, u200_17, u200_18, u200_19, u200_20, u200_21, u200_23, u200_24, u200_25, u200_26, u200_27, mw_os, wp_ite, mw_sw, Option.toList_some, Option.toList_none, List.cons_append, List.nil_append, true_and, and_true, if_true, if_false, mw_s_, mw_s_i, mw_s_r, mw_s_ii, mw_s_ir, mw_s_ri, mw_s_rr, mw_s_iii, mw_s_iir, mw_s_iri, mw_s_irr, mw_s_rii, mw_s_rir, mw_s_rri, mw_s_rrr, mw_s_iiii, mw_s_iiir, mw_s_iiri, mw_s_iirr, mw_s_irii, mw_s_irir, mw_s_irri, mw_s_irrr, mw_s_riii, mw_s_riir, mw_s_riri, mw_s_rirr, mw_s_rrii, mw_s_rrir, mw_s_rrri, mw_s_rrrr, RA_ld h, c20, c23, c26, c27, rd_O hv (show i < 10 by omega), rd_O hv (show i + 3 < 10 by omega), rd_O hv (show i + 6 < 10 by omega), rd_O hv (show i + 7 < 10 by omega)]
  exact Iff.rfl
theorem W199 (h : RA M a (rowL v)) (hv : ROK v) : Wp scr (n + 2) 199 [.ref a] M Q ↔ Q (some (.int (hlO (rO v)))) M := by
  have key := nf_loop (N := 3) (Φ := fun i (s : Int32) => wp scr (n + 1) mb_199 4 [some (.ref a), some (.int s), some (.int (nI i))] [] M Q) (Ψ := fun s => Q (some (.int s)) M) (step := hlStep (rO v))
    (fun i s hi => u199_4.trans (by
      simp only [e199, u199_0, u199_1, u199_2, u199_3, u199_5, u199_6, u199_9, u199_10, u199_11, u199_12, u199_15, u199_17, u199_20, u199_21, u199_22, u199_23, u199_26, u199_27, u199_28, u199_29, u199_32, u199_35, u199_36, mw_os, wp_ite, mw_sw, Option.toList_some, Option.toList_none, List.cons_append, List.nil_append, true_and, and_true, if_true, if_false, mw_s_, mw_s_i, mw_s_r, mw_s_ii, mw_s_ir, mw_s_ri, mw_s_rr, mw_s_iii, mw_s_iir, mw_s_iri, mw_s_irr, mw_s_rii, mw_s_rir, mw_s_rri, mw_s_rrr, mw_s_iiii, mw_s_iiir, mw_s_iiri, mw_s_iirr, mw_s_irii, mw_s_irir, mw_s_irri, mw_s_irrr, mw_s_riii, mw_s_riir, mw_s_riri, mw_s_rirr, mw_s_rrii, mw_s_rrir, mw_s_rrri, mw_s_rrrr, mm_sto1, mm_clr, mm_isL, List.getElem?_cons_zero, List.getElem?_cons_succ, List.set_cons_zero, List.set_cons_succ, Bool.false_eq_true, W200 h hv hi, nle3 hi, nI_1]
      unfold hlStep
      by_cases q : wAt (rO v) i < 40 <;> simp [q]))
    (fun s => u199_4.trans (by simp only [e199, u199_0, u199_1, u199_2, u199_3, u199_5, u199_6, u199_9, u199_10, u199_11, u199_12, u199_15, u199_17, u199_20, u199_21, u199_22, u199_23, u199_26, u199_27, u199_28, u199_29, u199_32, u199_35, u199_36, mw_os, wp_ite, mw_sw, Option.toList_some, Option.toList_none, List.cons_append, List.nil_append, true_and, and_true, if_true, if_false, mw_s_, mw_s_i, mw_s_r, mw_s_ii, mw_s_ir, mw_s_ri, mw_s_rr, mw_s_iii, mw_s_iir, mw_s_iri, mw_s_irr, mw_s_rii, mw_s_rir, mw_s_rri, mw_s_rrr, mw_s_iiii, mw_s_iiir, mw_s_iiri, mw_s_iirr, mw_s_irii, mw_s_irir, mw_s_irri, mw_s_irrr, mw_s_riii, mw_s_riir, mw_s_riri, mw_s_rirr, mw_s_rrii, mw_s_rrir, mw_s_rrri, mw_s_rrrr, nle3e])) 3 0 0 rfl
  rw [hlO, ← key]
  simp only [e199, u199_0, u199_1, u199_2, u199_3, mw_os, wp_ite, mw_sw, Option.toList_some, Option.toList_none, List.cons_append, List.nil_append, true_and, and_true, if_true, if_false, mw_s_, mw_s_i, mw_s_r, mw_s_ii, mw_s_ir, mw_s_ri, mw_s_rr, mw_s_iii, mw_s_iir, mw_s_iri, mw_s_irr, mw_s_rii, mw_s_rir, mw_s_rri, mw_s_rrr, mw_s_iiii, mw_s_iiir, mw_s_iiri, mw_s_iirr, mw_s_irii, mw_s_irir, mw_s_irri, mw_s_irrr, mw_s_riii, mw_s_riir, mw_s_riri, mw_s_rirr, mw_s_rrii, mw_s_rrir, mw_s_rrri, mw_s_rrrr, mm_sto1, mm_clr, mm_isL, List.getElem?_cons_zero, List.getElem?_cons_succ, List.set_cons_zero, List.set_cons_succ, Bool.false_eq_true]
  exact Iff.rfl
end MR2
