/-! a Layout as a value -/
abbrev LV : Type := (List Int32 × List Int32 × List Int32 × List Int32 × List Int32 × List Int32) × (Int32 × Int32 × Int32)
def vC (v : LV) : List Int32 := v.1.1
def vR (v : LV) : List Int32 := v.1.2.1
def vL (v : LV) : List Int32 := v.1.2.2.1
def vD (v : LV) : List Int32 := v.1.2.2.2.1
def vS (v : LV) : List Int32 := v.1.2.2.2.2.1
def vH (v : LV) : List Int32 := v.1.2.2.2.2.2
def vW (v : LV) : Int32 := v.2.1
def vT (v : LV) : Int32 := v.2.2.1
def vF (v : LV) : Int32 := v.2.2.2
/-- the Layout's object -/
def lo_o (a : Nat) (w h f : Int32) : mm_C := .inr (.inr (1, [.ref (a + 1), .ref (a + 2), .ref (a + 3), .ref (a + 4), .ref (a + 5), .ref (a + 6), .int w, .int h, .int f]))
def LA (M : mm_M) (a : Nat) (v : LV) : Prop := M[a]? = some (lo_o a (vW v) (vT v) (vF v)) ∧ M[a + 1]? = some (.inl (vC v)) ∧ M[a + 2]? = some (.inl (vR v)) ∧ M[a + 3]? = some (.inl (vL v)) ∧ M[a + 4]? = some (.inl (vD v)) ∧ M[a + 5]? = some (.inl (vS v)) ∧ M[a + 6]? = some (.inl (vH v))
/-- the int at a place -/
def gi (xs : List Int32) (p : Int32) : Int32 := xs.getD p.toNatClampNeg 0
theorem gi_at {xs : List Int32} {p : Int32} (h : vp_in p xs.length) : mm_at xs p = some (gi xs p) := by
  have h0 : ¬ p < 0 := fun z => h (Or.inl z)
  have h1 : p.toNatClampNeg < xs.length := Nat.not_le.mp fun z => h (Or.inr z)
  unfold mm_at gi
  rw [if_neg h0, List.getD_eq_getElem?_getD, List.getElem?_eq_getElem h1]
  rfl
/-- the place of a panel's cell -/
def vX (v : LV) (p : Int32) : Int32 := 4 * gi (vR v) p + gi (vC v) p
/-- lengths, and cells in range -/
def LOK (v : LV) : Prop := (vC v).length = 8 ∧ (vR v).length = 8 ∧ (vL v).length = 8 ∧ (vD v).length = 8 ∧ (vS v).length = 10 ∧ (vH v).length = 8 ∧ ∀ i, i < 8 → vp_in (vX v (nI i)) 8
section LA1
variable {scr : List Int32} {n : Nat} {M : mm_M} {Q : Option Value → mm_M → Prop} {a : Nat} {v : LV}
theorem LA_0 (h : LA M a v) : mm_fld (mc_X scr) M (.ref a) 1 0 = some (.ref (a + 1)) := by simp only [mm_fld, h.1, lo_o]; rfl
theorem LA_1 (h : LA M a v) : mm_fld (mc_X scr) M (.ref a) 1 1 = some (.ref (a + 2)) := by simp only [mm_fld, h.1, lo_o]; rfl
theorem LA_2 (h : LA M a v) : mm_fld (mc_X scr) M (.ref a) 1 2 = some (.ref (a + 3)) := by simp only [mm_fld, h.1, lo_o]; rfl
theorem LA_3 (h : LA M a v) : mm_fld (mc_X scr) M (.ref a) 1 3 = some (.ref (a + 4)) := by simp only [mm_fld, h.1, lo_o]; rfl
theorem LA_4 (h : LA M a v) : mm_fld (mc_X scr) M (.ref a) 1 4 = some (.ref (a + 5)) := by simp only [mm_fld, h.1, lo_o]; rfl
theorem LA_5 (h : LA M a v) : mm_fld (mc_X scr) M (.ref a) 1 5 = some (.ref (a + 6)) := by simp only [mm_fld, h.1, lo_o]; rfl
theorem LA_6 (h : LA M a v) : mm_fld (mc_X scr) M (.ref a) 1 6 = some (.int (vW v)) := by simp only [mm_fld, h.1, lo_o]; rfl
theorem LA_7 (h : LA M a v) : mm_fld (mc_X scr) M (.ref a) 1 7 = some (.int (vT v)) := by simp only [mm_fld, h.1, lo_o]; rfl
theorem LA_8 (h : LA M a v) : mm_fld (mc_X scr) M (.ref a) 1 8 = some (.int (vF v)) := by simp only [mm_fld, h.1, lo_o]; rfl
theorem LA_c {j : Int32} (h : LA M a v) : mm_ld (mc_X scr) M (.ref (a + 1)) j = mm_at (vC v) j := by simp only [mm_ld, mm_row, h.2.1]; rfl
theorem LA_r {j : Int32} (h : LA M a v) : mm_ld (mc_X scr) M (.ref (a + 2)) j = mm_at (vR v) j := by simp only [mm_ld, mm_row, h.2.2.1]; rfl
theorem LA_l {j : Int32} (h : LA M a v) : mm_ld (mc_X scr) M (.ref (a + 3)) j = mm_at (vL v) j := by simp only [mm_ld, mm_row, h.2.2.2.1]; rfl
theorem LA_d {j : Int32} (h : LA M a v) : mm_ld (mc_X scr) M (.ref (a + 4)) j = mm_at (vD v) j := by simp only [mm_ld, mm_row, h.2.2.2.2.1]; rfl
theorem LA_s {j : Int32} (h : LA M a v) : mm_ld (mc_X scr) M (.ref (a + 5)) j = mm_at (vS v) j := by simp only [mm_ld, mm_row, h.2.2.2.2.2.1]; rfl
theorem LA_h {j : Int32} (h : LA M a v) : mm_ld (mc_X scr) M (.ref (a + 6)) j = mm_at (vH v) j := by simp only [mm_ld, mm_row, h.2.2.2.2.2.2]; rfl
theorem LA_x (h : LA M a v) : mw_r M a 1 ↔ True := iff_true_intro ⟨_, h.1⟩
end LA1
section LA2
variable {scr : List Int32} {n : Nat} {M : mm_M} {Q : Option Value → mm_M → Prop} {a : Nat} {v : LV}
theorem W23 {x1 : Int32} (h : LA M a v) : Wp scr (n + 1) 23 [.ref a, .int x1] M Q ↔ Q (some (.int (if x1 = 4 then (if vT v = 2 then 1 else 0) else if 1 ≤ x1 ∧ x1 < vW v then 1 else 0))) M := by
  simp only [e23, u23_0, u23_1, u23_2, u23_5, u23_6, u23_9, u23_10, u23_13, u23_14, u23_17, u23_18, u23_21, u23_22, u23_23, u23_26, u23_27, u23_28, u23_31, u23_34, u23_35, u23_38, u23_39, mw_os, wp_ite, mw_sw, Option.toList_some, Option.toList_none, List.cons_append, List.nil_append, true_and, and_true, if_true, if_false, mw_s_, mw_s_i, mw_s_r, mw_s_ii, mw_s_ir, mw_s_ri, mw_s_rr, mw_s_iii, mw_s_iir, mw_s_iri, mw_s_irr, mw_s_rii, mw_s_rir, mw_s_rri, mw_s_rrr, mw_s_iiii, mw_s_iiir, mw_s_iiri, mw_s_iirr, mw_s_irii, mw_s_irir, mw_s_irri, mw_s_irrr, mw_s_riii, mw_s_riir, mw_s_riri, mw_s_rirr, mw_s_rrii, mw_s_rrir, mw_s_rrri, mw_s_rrrr, LA_6 h, LA_7 h]
  by_cases h1 : x1 = 4
  · by_cases h2 : vT v = 2 <;> simp [h1, h2]
  · by_cases h2 : x1 < 1
    · have h3 : ¬ 1 ≤ x1 := by rw [Int32.not_le]; exact h2
      simp [h1, h2, h3]
    · have h3 : 1 ≤ x1 := by rw [← Int32.not_lt]; exact h2
      by_cases h4 : x1 < vW v
      · have h5 : ¬ vW v ≤ x1 := by rw [Int32.not_le]; exact h4
        simp [h1, h2, h3, h4, h5]
      · have h5 : vW v ≤ x1 := by rw [← Int32.not_lt]; exact h4
        simp [h1, h2, h3, h4, h5]
theorem W40 (h : LA M a v) : Wp scr (n + 1) 40 [.ref a] M Q ↔ Q (some (.int (vW v - 1 + vT v - 1))) M := by
  simp only [e40, u40_0, u40_1, u40_4, u40_5, u40_6, u40_7, u40_10, u40_11, u40_12, u40_13, mw_os, wp_ite, mw_sw, Option.toList_some, Option.toList_none, List.cons_append, List.nil_append, true_and, and_true, if_true, if_false, mw_s_, mw_s_i, mw_s_r, mw_s_ii, mw_s_ir, mw_s_ri, mw_s_rr, mw_s_iii, mw_s_iir, mw_s_iri, mw_s_irr, mw_s_rii, mw_s_rir, mw_s_rri, mw_s_rrr, mw_s_iiii, mw_s_iiir, mw_s_iiri, mw_s_iirr, mw_s_irii, mw_s_irir, mw_s_irri, mw_s_irrr, mw_s_riii, mw_s_riir, mw_s_riri, mw_s_rirr, mw_s_rrii, mw_s_rrir, mw_s_rrri, mw_s_rrrr, LA_6 h, LA_7 h]
theorem W41 {x1 : Int32} (h : LA M a v) : Wp scr (n + 1) 41 [.ref a, .int x1] M Q ↔ Q (some (.int (if vW v - 1 ≤ x1 then 4 else x1 + 1))) M := by
  simp only [e41, u41_0, u41_1, u41_2, u41_5, u41_6, u41_7, u41_10, u41_11, u41_12, u41_13, u41_16, u41_17, mw_os, wp_ite, mw_sw, Option.toList_some, Option.toList_none, List.cons_append, List.nil_append, true_and, and_true, if_true, if_false, mw_s_, mw_s_i, mw_s_r, mw_s_ii, mw_s_ir, mw_s_ri, mw_s_rr, mw_s_iii, mw_s_iir, mw_s_iri, mw_s_irr, mw_s_rii, mw_s_rir, mw_s_rri, mw_s_rrr, mw_s_iiii, mw_s_iiir, mw_s_iiri, mw_s_iirr, mw_s_irii, mw_s_irir, mw_s_irri, mw_s_irrr, mw_s_riii, mw_s_riir, mw_s_riri, mw_s_rirr, mw_s_rrii, mw_s_rrir, mw_s_rrri, mw_s_rrrr, LA_6 h, LA_7 h]
  split <;> rfl
theorem W38 (h : LA M a v) : Wp scr (n + 1) 38 [.ref a] M Q ↔ Q (some (.int (vW v * vT v))) M := by
  simp only [e38, u38_0, u38_1, u38_4, u38_5, u38_8, u38_9, mw_os, wp_ite, mw_sw, Option.toList_some, Option.toList_none, List.cons_append, List.nil_append, true_and, and_true, if_true, if_false, mw_s_, mw_s_i, mw_s_r, mw_s_ii, mw_s_ir, mw_s_ri, mw_s_rr, mw_s_iii, mw_s_iir, mw_s_iri, mw_s_irr, mw_s_rii, mw_s_rir, mw_s_rri, mw_s_rrr, mw_s_iiii, mw_s_iiir, mw_s_iiri, mw_s_iirr, mw_s_irii, mw_s_irir, mw_s_irri, mw_s_irrr, mw_s_riii, mw_s_riir, mw_s_riri, mw_s_rirr, mw_s_rrii, mw_s_rrir, mw_s_rrri, mw_s_rrrr, LA_6 h, LA_7 h]
theorem W39 (h : LA M a v) : Wp scr (n + 1) 39 [.ref a] M Q ↔ Q (some (.int (if vW v = 1 ∧ vT v = 1 then 1 else 0))) M := by
  simp only [e39, u39_0, u39_1, u39_4, u39_5, u39_8, u39_9, u39_12, u39_13, u39_16, u39_17, u39_20, u39_21, mw_os, wp_ite, mw_sw, Option.toList_some, Option.toList_none, List.cons_append, List.nil_append, true_and, and_true, if_true, if_false, mw_s_, mw_s_i, mw_s_r, mw_s_ii, mw_s_ir, mw_s_ri, mw_s_rr, mw_s_iii, mw_s_iir, mw_s_iri, mw_s_irr, mw_s_rii, mw_s_rir, mw_s_rri, mw_s_rrr, mw_s_iiii, mw_s_iiir, mw_s_iiri, mw_s_iirr, mw_s_irii, mw_s_irir, mw_s_irri, mw_s_irrr, mw_s_riii, mw_s_riir, mw_s_riri, mw_s_rirr, mw_s_rrii, mw_s_rrir, mw_s_rrri, mw_s_rrrr, LA_6 h, LA_7 h]
  by_cases h1 : vW v = 1 <;> by_cases h2 : vT v = 1 <;> simp [h1, h2]
theorem W28 {p : Int32} (h : LA M a v) (hv : LOK v) (hp : vp_in p 8) : Wp scr (n + 1) 28 [.ref a, .int p] M Q ↔ Q (some (.int (vX v p))) M := by
  obtain ⟨l1, l2, l3, l4, l5, l6, l7⟩ := hv
  simp only [e28, u28_0, u28_1, u28_2, u28_5, u28_6, u28_7, u28_8, u28_9, u28_12, u28_13, u28_14, u28_15, mw_os, wp_ite, mw_sw, Option.toList_some, Option.toList_none, List.cons_append, List.nil_append, true_and, and_true, if_true, if_false, mw_s_, mw_s_i, mw_s_r, mw_s_ii, mw_s_ir, mw_s_ri, mw_s_rr, mw_s_iii, mw_s_iir, mw_s_iri, mw_s_irr, mw_s_rii, mw_s_rir, mw_s_rri, mw_s_rrr, mw_s_iiii, mw_s_iiir, mw_s_iiri, mw_s_iirr, mw_s_irii, mw_s_irir, mw_s_irri, mw_s_irrr, mw_s_riii, mw_s_riir, mw_s_riri, mw_s_rirr, mw_s_rrii, mw_s_rrir, mw_s_rrri, mw_s_rrrr, LA_0 h, LA_1 h, LA_c h, LA_r h, gi_at (l1.symm ▸ hp : vp_in p (vC v).length), gi_at (l2.symm ▸ hp : vp_in p (vR v).length)]
  rfl
/-- how many lie above -/
def vU (v : LV) (p : Int32) : Int32 := gi (vH v) (vX v p) - 1 - gi (vL v) p
theorem LOK_x {p : Int32} (hv : LOK v) (hp : vp_in p 8) : vp_in (vX v p) 8 := by
  obtain ⟨j, hj, rfl⟩ := vp_in_of hp (by decide)
  exact hv.2.2.2.2.2.2 j hj
theorem W32 {p : Int32} (h : LA M a v) (hv : LOK v) (hp : vp_in p 8) : Wp scr (n + 2) 32 [.ref a, .int p] M Q ↔ Q (some (.int (vU v p))) M := by
  have hx := LOK_x hv hp
  have hv' := hv
  obtain ⟨l1, l2, l3, l4, l5, l6, l7⟩ := hv
  simp only [e32, u32_0, u32_1, u32_4, u32_5, u32_6, u32_9, u32_10, u32_11, u32_12, u32_13, u32_16, u32_17, u32_18, u32_19, mw_os, wp_ite, mw_sw, Option.toList_some, Option.toList_none, List.cons_append, List.nil_append, true_and, and_true, if_true, if_false, mw_s_, mw_s_i, mw_s_r, mw_s_ii, mw_s_ir, mw_s_ri, mw_s_rr, mw_s_iii, mw_s_iir, mw_s_iri, mw_s_irr, mw_s_rii, mw_s_rir, mw_s_rri, mw_s_rrr, mw_s_iiii, mw_s_iiir, mw_s_iiri, mw_s_iirr, mw_s_irii, mw_s_irir, mw_s_irri, mw_s_irrr, mw_s_riii, mw_s_riir, mw_s_riri, mw_s_rirr, mw_s_rrii, mw_s_rrir, mw_s_rrri, mw_s_rrrr, LA_5 h, LA_2 h, LA_x h, W28 h hv' hp, LA_h h, LA_l h, gi_at (l6.symm ▸ hx : vp_in (vX v p) (vH v).length), gi_at (l3.symm ▸ hp : vp_in p (vL v).length)]
  rfl
def vRd (v : LV) (p : Int32) : Bool := if gi (vD v) p = 0 then vU v p == 0 else gi (vL v) p == 0
def vSb (v : LV) (p : Int32) : Bool := if gi (vD v) p = 0 then gi (vL v) p == 0 else vU v p == 0
def bi (b : Bool) : Int32 := if b = true then 1 else 0
theorem W31 {p : Int32} (h : LA M a v) (hv : LOK v) (hp : vp_in p 8) : Wp scr (n + 3) 31 [.ref a, .int p] M Q ↔ Q (some (.int (bi (vRd v p)))) M := by
  have hv' := hv
  obtain ⟨l1, l2, l3, l4, l5, l6, l7⟩ := hv
  simp only [e31, u31_0, u31_1, u31_4, u31_5, u31_6, u31_9, u31_10, u31_11, u31_14, u31_17, u31_18, u31_21, u31_22, u31_25, u31_26, u31_29, u31_30, u31_31, u31_34, u31_35, u31_38, u31_39, mw_os, wp_ite, mw_sw, Option.toList_some, Option.toList_none, List.cons_append, List.nil_append, true_and, and_true, if_true, if_false, mw_s_, mw_s_i, mw_s_r, mw_s_ii, mw_s_ir, mw_s_ri, mw_s_rr, mw_s_iii, mw_s_iir, mw_s_iri, mw_s_irr, mw_s_rii, mw_s_rir, mw_s_rri, mw_s_rrr, mw_s_iiii, mw_s_iiir, mw_s_iiri, mw_s_iirr, mw_s_irii, mw_s_irir, mw_s_irri, mw_s_irrr, mw_s_riii, mw_s_riir, mw_s_riri, mw_s_rirr, mw_s_rrii, mw_s_rrir, mw_s_rrri, mw_s_rrrr, LA_3 h, LA_2 h, LA_x h, W32 h hv' hp, LA_d h, LA_l h, gi_at (l4.symm ▸ hp : vp_in p (vD v).length), gi_at (l3.symm ▸ hp : vp_in p (vL v).length)]
  unfold vRd bi
  by_cases h1 : gi (vD v) p = 0
  · by_cases h2 : vU v p = 0 <;> simp [h1, h2]
  · by_cases h2 : gi (vL v) p = 0 <;> simp [h1, h2]
theorem W36 {p : Int32} (h : LA M a v) (hv : LOK v) (hp : vp_in p 8) : Wp scr (n + 3) 36 [.ref a, .int p] M Q ↔ Q (some (.int (bi (vSb v p)))) M := by
  have hv' := hv
  obtain ⟨l1, l2, l3, l4, l5, l6, l7⟩ := hv
  simp only [e36, u36_0, u36_1, u36_4, u36_5, u36_6, u36_9, u36_10, u36_13, u36_14, u36_15, u36_18, u36_19, u36_22, u36_23, u36_26, u36_27, u36_28, u36_31, u36_34, u36_35, u36_38, u36_39, mw_os, wp_ite, mw_sw, Option.toList_some, Option.toList_none, List.cons_append, List.nil_append, true_and, and_true, if_true, if_false, mw_s_, mw_s_i, mw_s_r, mw_s_ii, mw_s_ir, mw_s_ri, mw_s_rr, mw_s_iii, mw_s_iir, mw_s_iri, mw_s_irr, mw_s_rii, mw_s_rir, mw_s_rri, mw_s_rrr, mw_s_iiii, mw_s_iiir, mw_s_iiri, mw_s_iirr, mw_s_irii, mw_s_irir, mw_s_irri, mw_s_irrr, mw_s_riii, mw_s_riir, mw_s_riri, mw_s_rirr, mw_s_rrii, mw_s_rrir, mw_s_rrri, mw_s_rrrr, LA_3 h, LA_2 h, LA_x h, W32 h hv' hp, LA_d h, LA_l h, gi_at (l4.symm ▸ hp : vp_in p (vD v).length), gi_at (l3.symm ▸ hp : vp_in p (vL v).length)]
  unfold vSb bi
  by_cases h1 : gi (vD v) p = 0
  · by_cases h2 : gi (vL v) p = 0 <;> simp [h1, h2]
  · by_cases h2 : vU v p = 0 <;> simp [h1, h2]
theorem W33 {p q : Int32} (h : LA M a v) (hv : LOK v) (hp : vp_in p 8) (hq : vp_in q 8) : Wp scr (n + 2) 33 [.ref a, .int p, .int q] M Q ↔ Q (some (.int (if vX v p = vX v q ∧ gi (vL v) q < gi (vL v) p then 1 else 0))) M := by
  have hv' := hv
  obtain ⟨l1, l2, l3, l4, l5, l6, l7⟩ := hv
  simp only [e33, u33_0, u33_1, u33_2, u33_5, u33_6, u33_7, u33_10, u33_13, u33_14, u33_17, u33_18, u33_19, u33_20, u33_23, u33_24, u33_25, u33_28, u33_29, u33_32, u33_33, mw_os, wp_ite, mw_sw, Option.toList_some, Option.toList_none, List.cons_append, List.nil_append, true_and, and_true, if_true, if_false, mw_s_, mw_s_i, mw_s_r, mw_s_ii, mw_s_ir, mw_s_ri, mw_s_rr, mw_s_iii, mw_s_iir, mw_s_iri, mw_s_irr, mw_s_rii, mw_s_rir, mw_s_rri, mw_s_rrr, mw_s_iiii, mw_s_iiir, mw_s_iiri, mw_s_iirr, mw_s_irii, mw_s_irir, mw_s_irri, mw_s_irrr, mw_s_riii, mw_s_riir, mw_s_riri, mw_s_rirr, mw_s_rrii, mw_s_rrir, mw_s_rrri, mw_s_rrrr, LA_2 h, LA_x h, W28 h hv' hp, W28 h hv' hq, LA_l h, gi_at (l3.symm ▸ hp : vp_in p (vL v).length), gi_at (l3.symm ▸ hq : vp_in q (vL v).length)]
  by_cases h1 : vX v p = vX v q
  · by_cases h2 : gi (vL v) q < gi (vL v) p
    · have h3 : ¬ gi (vL v) p ≤ gi (vL v) q := by rw [Int32.not_le]; exact h2
      simp [h1, h2, h3]
    · have h3 : gi (vL v) p ≤ gi (vL v) q := by rw [← Int32.not_lt]; exact h2
      simp [h1, h2, h3]
  · simp [h1]
end LA2
