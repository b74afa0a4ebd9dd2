/-! the Search object: q, its rows q + 1 (wanted), q + 2 (hits) -/
abbrev QV : Type := (List Int32 × List Int32) × (Int32 × Int32 × Int32 × Int32 × Int32 × Int32)
def qW (v : QV) : List Int32 := v.1.1
def qH (v : QV) : List Int32 := v.1.2
def qG (v : QV) : Int32 := v.2.1
def qP (v : QV) : Int32 := v.2.2.1
def qS (v : QV) : Int32 := v.2.2.2.1
def qF (v : QV) : Int32 := v.2.2.2.2.1
def qC (v : QV) : Int32 := v.2.2.2.2.2.1
def qY (v : QV) : Int32 := v.2.2.2.2.2.2
def qo_c (q : Nat) (v : QV) (j : Nat) : mm_C := match j with
  | 0 => .inr (.inr (3, [.ref (q + 1), .ref (q + 2), .int (qG v), .int (qP v), .int (qS v), .int (qF v), .int (qC v), .int (qY v)]))
  | 1 => .inl (qW v)
  | _ => .inl (qH v)
def QA (M : mm_M) (q : Nat) (v : QV) : Prop := M[q]? = some (qo_c q v 0) ∧ M[q + 1]? = some (qo_c q v 1) ∧ M[q + 2]? = some (qo_c q v 2)
def QOK (v : QV) : Prop := (qW v).length = 8 ∧ (qH v).length = 5
def pq (M : mm_M) (q : Nat) (v : QV) : mm_M := M.mapIdx (fun i c => if q ≤ i ∧ i < q + 3 then qo_c q v (i - q) else c)
def tH (v : QV) (x : List Int32) : QV := ((qW v, x), v.2)
def tWn (v : QV) (x : List Int32) : QV := ((x, qH v), v.2)
def tG (v : QV) (x : Int32) : QV := (v.1, (x, qP v, qS v, qF v, qC v, qY v))
def tP (v : QV) (x : Int32) : QV := (v.1, (qG v, x, qS v, qF v, qC v, qY v))
def tS (v : QV) (x : Int32) : QV := (v.1, (qG v, qP v, x, qF v, qC v, qY v))
def tF (v : QV) (x : Int32) : QV := (v.1, (qG v, qP v, qS v, x, qC v, qY v))
def tC (v : QV) (x : Int32) : QV := (v.1, (qG v, qP v, qS v, qF v, x, qY v))
def tY (v : QV) (x : Int32) : QV := (v.1, (qG v, qP v, qS v, qF v, qC v, x))
theorem pq_get (M : mm_M) (q : Nat) (v : QV) (i : Nat) : (pq M q v)[i]? = (M[i]?).map (fun c => if q ≤ i ∧ i < q + 3 then qo_c q v (i - q) else c) := by simp [pq]
theorem pq_len (M : mm_M) (q : Nat) (v : QV) : (pq M q v).length = M.length := by simp [pq]
theorem pq_in {M : mm_M} {q : Nat} {v : QV} (hM : q + 2 < M.length) (j : Nat) (hj : j < 3) : (pq M q v)[q + j]? = some (qo_c q v j) := by
  rw [pq_get, List.getElem?_eq_getElem (show q + j < M.length by omega), Option.map_some, if_pos (by omega), show q + j - q = j by omega]
theorem pq_QA {M : mm_M} {q : Nat} {v : QV} (hM : q + 2 < M.length) : QA (pq M q v) q v := ⟨pq_in hM 0 (by decide), pq_in hM 1 (by decide), pq_in hM 2 (by decide)⟩
theorem pq_out {M : mm_M} {q : Nat} {v : QV} {i : Nat} (h : i < q ∨ q + 3 ≤ i) : (pq M q v)[i]? = M[i]? := by
  rw [pq_get]
  cases M[i]? with
  | none => rfl
  | some c => rw [Option.map_some, if_neg (by omega)]
theorem QA_len {M : mm_M} {q : Nat} {v : QV} (h : QA M q v) : q + 2 < M.length := (List.getElem?_eq_some_iff.mp h.2.2).1
theorem QA_keep {M M' : mm_M} {q : Nat} {v : QV} (h : QA M q v) (hk : ∀ j, j < 3 → M'[q + j]? = M[q + j]?) : QA M' q v := ⟨(hk 0 (by decide)).trans h.1, (hk 1 (by decide)).trans h.2.1, (hk 2 (by decide)).trans h.2.2⟩
theorem pq_self {M : mm_M} {q : Nat} {v : QV} (h : QA M q v) : pq M q v = M := by
  apply List.ext_getElem?
  intro i
  by_cases hi : q ≤ i ∧ i < q + 3
  · obtain ⟨h0, h1, h2⟩ := h
    have hM : q + 2 < M.length := (List.getElem?_eq_some_iff.mp h2).1
    rcases (show i = q ∨ i = q + 1 ∨ i = q + 2 by omega) with rfl | rfl | rfl
    · rw [h0]; exact pq_in hM 0 (by decide)
    · rw [h1]; exact pq_in hM 1 (by decide)
    · rw [h2]; exact pq_in hM 2 (by decide)
  · exact pq_out (by omega)
theorem pq_pq (M : mm_M) (q : Nat) (v v' : QV) : pq (pq M q v) q v' = pq M q v' := by
  apply List.ext_getElem?
  intro i
  rw [pq_get, pq_get, pq_get]
  cases M[i]? with
  | none => rfl
  | some c =>
    simp only [Option.map_some]
    by_cases hi : q ≤ i ∧ i < q + 3
    · rw [if_pos hi, if_pos hi]
    · rw [if_neg hi, if_neg hi, if_neg hi]
theorem pq_set {M : mm_M} {q : Nat} {v v' : QV} {j : Nat} {c : mm_C} (hM : q + 2 < M.length) (hj : j < 3) (hc : qo_c q v' j = c) (ho : ∀ i, i < 3 → i ≠ j → qo_c q v' i = qo_c q v i) : (pq M q v).set (q + j) c = pq M q v' := by
  apply List.ext_getElem?
  intro i
  by_cases hi : i = q + j
  · subst hi
    rw [List.getElem?_set_self (by rw [pq_len]; omega), pq_in hM j hj, hc]
  · rw [List.getElem?_set_ne (Ne.symm hi), pq_get, pq_get]
    cases M[i]? with
    | none => rfl
    | some d =>
      simp only [Option.map_some]
      by_cases hr : q ≤ i ∧ i < q + 3
      · rw [if_pos hr, if_pos hr, ho (i - q) (by omega) (by omega)]
      · rw [if_neg hr, if_neg hr]
theorem tri {P : Nat → Prop} (h0 : P 0) (h1 : P 1) (h2 : P 2) : ∀ i, i < 3 → P i := by
  intro i hi
  rcases (show i = 0 ∨ i = 1 ∨ i = 2 by omega) with rfl | rfl | rfl <;> assumption
section QW
variable {scr : List Int32} {n : Nat} {M : mm_M} {q : Nat} {v : QV} {j x : Int32}
theorem pq_stH (hM : q + 2 < M.length) (hj : vp_in j (qH v).length) : mm_sti (pq M q v) (.ref (q + 2)) j x = some (pq M q (tH v ((qH v).set j.toNatClampNeg x))) := by
  have h0 : ¬ j < 0 := fun z => hj (Or.inl z)
  have h1 : j.toNatClampNeg < (qH v).length := Nat.not_le.mp fun z => hj (Or.inr z)
  simp only [mm_sti, pq_in hM 2 (by decide), qo_c, if_neg h0, if_pos h1]
  exact congrArg some (pq_set (j := 2) hM (by decide) rfl (tri (fun _ => rfl) (fun _ => rfl) (fun z => absurd rfl z)))
theorem pq_stW (hM : q + 2 < M.length) (hj : vp_in j (qW v).length) : mm_sti (pq M q v) (.ref (q + 1)) j x = some (pq M q (tWn v ((qW v).set j.toNatClampNeg x))) := by
  have h0 : ¬ j < 0 := fun z => hj (Or.inl z)
  have h1 : j.toNatClampNeg < (qW v).length := Nat.not_le.mp fun z => hj (Or.inr z)
  simp only [mm_sti, pq_in hM 1 (by decide), qo_c, if_neg h0, if_pos h1]
  exact congrArg some (pq_set (j := 1) hM (by decide) rfl (tri (fun _ => rfl) (fun z => absurd rfl z) (fun _ => rfl)))
theorem pq_0 (hM : q + 2 < M.length) : (pq M q v)[q]? = some (qo_c q v 0) := pq_in hM 0 (by decide)
theorem pq_puG (hM : q + 2 < M.length) : mm_put mc_fty (pq M q v) (.ref q) (.int x) 3 2 = some (pq M q (tG v x)) := by
  simp only [mm_put, pq_0 hM, qo_c]
  exact congrArg some (pq_set (j := 0) hM (by decide) rfl (tri (fun z => absurd rfl z) (fun _ => rfl) (fun _ => rfl)))
theorem pq_puP (hM : q + 2 < M.length) : mm_put mc_fty (pq M q v) (.ref q) (.int x) 3 3 = some (pq M q (tP v x)) := by
  simp only [mm_put, pq_0 hM, qo_c]
  exact congrArg some (pq_set (j := 0) hM (by decide) rfl (tri (fun z => absurd rfl z) (fun _ => rfl) (fun _ => rfl)))
theorem pq_puS (hM : q + 2 < M.length) : mm_put mc_fty (pq M q v) (.ref q) (.int x) 3 4 = some (pq M q (tS v x)) := by
  simp only [mm_put, pq_0 hM, qo_c]
  exact congrArg some (pq_set (j := 0) hM (by decide) rfl (tri (fun z => absurd rfl z) (fun _ => rfl) (fun _ => rfl)))
theorem pq_puF0 (hM : q + 2 < M.length) : mm_put mc_fty (pq M q v) (.ref q) (.int 0) 3 5 = some (pq M q (tF v 0)) := by
  simp only [mm_put, pq_0 hM, qo_c]
  exact congrArg some (pq_set (j := 0) hM (by decide) rfl (tri (fun z => absurd rfl z) (fun _ => rfl) (fun _ => rfl)))
theorem pq_puF1 (hM : q + 2 < M.length) : mm_put mc_fty (pq M q v) (.ref q) (.int 1) 3 5 = some (pq M q (tF v 1)) := by
  simp only [mm_put, pq_0 hM, qo_c]
  exact congrArg some (pq_set (j := 0) hM (by decide) rfl (tri (fun z => absurd rfl z) (fun _ => rfl) (fun _ => rfl)))
theorem pq_puC (hM : q + 2 < M.length) : mm_put mc_fty (pq M q v) (.ref q) (.int x) 3 6 = some (pq M q (tC v x)) := by
  simp only [mm_put, pq_0 hM, qo_c]
  exact congrArg some (pq_set (j := 0) hM (by decide) rfl (tri (fun z => absurd rfl z) (fun _ => rfl) (fun _ => rfl)))
theorem pq_puY (hM : q + 2 < M.length) : mm_put mc_fty (pq M q v) (.ref q) (.int x) 3 7 = some (pq M q (tY v x)) := by
  simp only [mm_put, pq_0 hM, qo_c]
  exact congrArg some (pq_set (j := 0) hM (by decide) rfl (tri (fun z => absurd rfl z) (fun _ => rfl) (fun _ => rfl)))
theorem QA_0 (h : QA M q v) : mm_fld (mc_X scr) M (.ref q) 3 0 = some (.ref (q + 1)) := by simp only [mm_fld, h.1, qo_c]; rfl
theorem QA_1 (h : QA M q v) : mm_fld (mc_X scr) M (.ref q) 3 1 = some (.ref (q + 2)) := by simp only [mm_fld, h.1, qo_c]; rfl
theorem QA_2 (h : QA M q v) : mm_fld (mc_X scr) M (.ref q) 3 2 = some (.int (qG v)) := by simp only [mm_fld, h.1, qo_c]; rfl
theorem QA_3 (h : QA M q v) : mm_fld (mc_X scr) M (.ref q) 3 3 = some (.int (qP v)) := by simp only [mm_fld, h.1, qo_c]; rfl
theorem QA_4 (h : QA M q v) : mm_fld (mc_X scr) M (.ref q) 3 4 = some (.int (qS v)) := by simp only [mm_fld, h.1, qo_c]; rfl
theorem QA_5 (h : QA M q v) : mm_fld (mc_X scr) M (.ref q) 3 5 = some (.int (qF v)) := by simp only [mm_fld, h.1, qo_c]; rfl
theorem QA_6 (h : QA M q v) : mm_fld (mc_X scr) M (.ref q) 3 6 = some (.int (qC v)) := by simp only [mm_fld, h.1, qo_c]; rfl
theorem QA_7 (h : QA M q v) : mm_fld (mc_X scr) M (.ref q) 3 7 = some (.int (qY v)) := by simp only [mm_fld, h.1, qo_c]; rfl
theorem QA_w (h : QA M q v) : mm_ld (mc_X scr) M (.ref (q + 1)) j = mm_at (qW v) j := by simp only [mm_ld, mm_row, h.2.1, qo_c]; rfl
theorem QA_h (h : QA M q v) : mm_ld (mc_X scr) M (.ref (q + 2)) j = mm_at (qH v) j := by simp only [mm_ld, mm_row, h.2.2, qo_c]; rfl
theorem QA_x (h : QA M q v) : mw_r M q 3 ↔ True := iff_true_intro ⟨_, h.1⟩
end QW
section SR1
variable {scr : List Int32} {n : Nat} {M : mm_M} {Q : Option Value → mm_M → Prop} {q s a : Nat} {v : QV} {u : LV} {w : SV}
theorem W63 (h : QA M q v) : Wp scr (n + 1) 63 [.ref q] M Q ↔ Q (some (.int (if qF v = 0 then -9 else qY v))) M := by
  simp only [e63, u63_0, u63_1, u63_4, u63_7, u63_8, u63_11, u63_14, u63_16, mw_os, wp_ite, mw_sw, Option.toList_some, Option.toList_none, List.cons_append, List.nil_append, true_and, and_true, if_true, if_false, mw_s_, mw_s_i, mw_s_r, mw_s_ii, mw_s_ir, mw_s_ri, mw_s_rr, mw_s_iii, mw_s_iir, mw_s_iri, mw_s_irr, mw_s_rii, mw_s_rir, mw_s_rri, mw_s_rrr, mw_s_iiii, mw_s_iiir, mw_s_iiri, mw_s_iirr, mw_s_irii, mw_s_irir, mw_s_irri, mw_s_irrr, mw_s_riii, mw_s_riir, mw_s_riri, mw_s_rirr, mw_s_rrii, mw_s_rrir, mw_s_rrri, mw_s_rrrr, QA_5 h, QA_7 h]
  split <;> rfl
theorem W64 (h : QA M q v) : Wp scr (n + 1) 64 [.ref q] M Q ↔ Q (some (.int (if qF v = 0 then -9 else qC v))) M := by
  simp only [e64, u64_0, u64_1, u64_4, u64_7, u64_8, u64_11, u64_14, u64_16, mw_os, wp_ite, mw_sw, Option.toList_some, Option.toList_none, List.cons_append, List.nil_append, true_and, and_true, if_true, if_false, mw_s_, mw_s_i, mw_s_r, mw_s_ii, mw_s_ir, mw_s_ri, mw_s_rr, mw_s_iii, mw_s_iir, mw_s_iri, mw_s_irr, mw_s_rii, mw_s_rir, mw_s_rri, mw_s_rrr, mw_s_iiii, mw_s_iiir, mw_s_iiri, mw_s_iirr, mw_s_irii, mw_s_irir, mw_s_irri, mw_s_irrr, mw_s_riii, mw_s_riir, mw_s_riri, mw_s_rirr, mw_s_rrii, mw_s_rrir, mw_s_rrri, mw_s_rrrr, QA_5 h, QA_6 h]
  split <;> rfl
theorem nI_in5 {i : Nat} (h : i < 5) : vp_in (nI i) 5 := vp_in_nI h (by decide)
theorem W65 {i : Nat} (h : QA M q v) (hv : QOK v) (hi : i < 5) : Wp scr (n + 1) 65 [.ref q, .int (nI i)] M Q ↔ Q (some (.int (gi (qH v) (nI i) <<< (nI i &&& 31)))) M := by
  have h1 : (nI i < 0) ↔ False := iff_false_intro (nI_pos (by omega))
  have h2 : ((4 : Int32) < nI i) ↔ False := iff_false_intro (nI_nlt (a := 4) (b := i) (by omega) (by omega))
  simp only [e65, u65_0, u65_1, u65_4, u65_5, u65_6, u65_9, u65_10, u65_13, u65_14, u65_15, u65_16, u65_17, u65_20, u65_21, mw_os, wp_ite, mw_sw, Option.toList_some, Option.toList_none, List.cons_append, List.nil_append, true_and, and_true, if_true, if_false, mw_s_, mw_s_i, mw_s_r, mw_s_ii, mw_s_ir, mw_s_ri, mw_s_rr, mw_s_iii, mw_s_iir, mw_s_iri, mw_s_irr, mw_s_rii, mw_s_rir, mw_s_rri, mw_s_rrr, mw_s_iiii, mw_s_iiir, mw_s_iiri, mw_s_iirr, mw_s_irii, mw_s_irir, mw_s_irri, mw_s_irrr, mw_s_riii, mw_s_riir, mw_s_riri, mw_s_rirr, mw_s_rrii, mw_s_rrir, mw_s_rrri, mw_s_rrrr, QA_1 h, QA_h h, h1, h2, gi_at (hv.2.symm ▸ nI_in5 hi : vp_in (nI i) (qH v).length)]
theorem W62 (h : QA M q v) (hl : LA M a u) : Wp scr (n + 2) 62 [.ref q, .ref a] M Q ↔ Q (some (.int (if qG v = 4 ∧ vW u * vT u = 2 then 4 else 2))) M := by
  simp only [e62, u62_0, u62_1, u62_4, u62_5, u62_8, u62_9, u62_12, u62_13, u62_16, u62_17, u62_20, u62_21, mw_os, wp_ite, mw_sw, Option.toList_some, Option.toList_none, List.cons_append, List.nil_append, true_and, and_true, if_true, if_false, mw_s_, mw_s_i, mw_s_r, mw_s_ii, mw_s_ir, mw_s_ri, mw_s_rr, mw_s_iii, mw_s_iir, mw_s_iri, mw_s_irr, mw_s_rii, mw_s_rir, mw_s_rri, mw_s_rrr, mw_s_iiii, mw_s_iiir, mw_s_iiri, mw_s_iirr, mw_s_irii, mw_s_irir, mw_s_irri, mw_s_irrr, mw_s_riii, mw_s_riir, mw_s_riri, mw_s_rirr, mw_s_rrii, mw_s_rrir, mw_s_rrri, mw_s_rrrr, QA_2 h, LA_x hl, W38 hl]
  by_cases h1 : qG v = 4 <;> by_cases h2 : vW u * vT u = 2 <;> simp [h1, h2]
def qHo (v : QV) (e : Int32) : Bool := decide (¬ qG v = 1 ∧ ¬ qG v = 3 ∧ ¬ qF v = 0 ∧ qC v < e)
theorem W61 {x : Int32} (h : QA M q v) : Wp scr (n + 1) 61 [.ref q, .int x] M Q ↔ Q (some (.int (bi (qHo v x)))) M := by
  simp only [e61, u61_0, u61_1, u61_4, u61_5, u61_8, u61_9, u61_12, u61_13, u61_16, u61_17, u61_20, u61_21, u61_22, u61_23, u61_26, u61_27, u61_30, u61_33, u61_34, u61_35, u61_38, u61_41, u61_42, u61_45, u61_46, mw_os, wp_ite, mw_sw, Option.toList_some, Option.toList_none, List.cons_append, List.nil_append, true_and, and_true, if_true, if_false, mw_s_, mw_s_i, mw_s_r, mw_s_ii, mw_s_ir, mw_s_ri, mw_s_rr, mw_s_iii, mw_s_iir, mw_s_iri, mw_s_irr, mw_s_rii, mw_s_rir, mw_s_rri, mw_s_rrr, mw_s_iiii, mw_s_iiir, mw_s_iiri, mw_s_iirr, mw_s_irii, mw_s_irir, mw_s_irri, mw_s_irrr, mw_s_riii, mw_s_riir, mw_s_riri, mw_s_rirr, mw_s_rrii, mw_s_rrir, mw_s_rrri, mw_s_rrrr, mm_sto1, mm_clr, mm_isL, List.getElem?_cons_zero, List.getElem?_cons_succ, List.set_cons_zero, List.set_cons_succ, Bool.false_eq_true, QA_2 h, QA_5 h, QA_6 h]
  unfold qHo
  by_cases h1 : qG v = 1
  · simp [h1, bi]
  · by_cases h2 : qG v = 3
    · simp [h2, bi]
    · by_cases h3 : qF v = 0
      · simp [h1, h2, h3, bi]
      · by_cases h4 : x ≤ qC v
        · have h5 : ¬ qC v < x := Int32.not_lt.mpr h4
          simp [h1, h2, h3, h4, h5, bi]
        · have h5 : qC v < x := Int32.not_le.mp h4
          simp [h1, h2, h3, h4, h5, bi]
def qOf (v : QV) (c y : Int32) : QV := if qF v = 0 ∨ c < qC v ∨ (c = qC v ∧ y < qY v) then tY (tC (tF v 1) c) y else v
theorem W60 {c y : Int32} (hM : q + 2 < M.length) : Wp scr (n + 1) 60 [.ref q, .int c, .int y] (pq M q v) Q ↔ Q none (pq M q (qOf v c y)) := by
  simp only [e60, u60_0, u60_1, u60_4, u60_7, u60_8, u60_9, u60_12, u60_15, u60_16, u60_17, u60_20, u60_23, u60_24, u60_25, u60_28, u60_31, u60_32, u60_33, u60_36, u60_37, u60_38, u60_41, u60_42, u60_43, u60_46, mw_os, wp_ite, mw_sw, Option.toList_some, Option.toList_none, List.cons_append, List.nil_append, true_and, and_true, if_true, if_false, mw_s_, mw_s_i, mw_s_r, mw_s_ii, mw_s_ir, mw_s_ri, mw_s_rr, mw_s_iii, mw_s_iir, mw_s_iri, mw_s_irr, mw_s_rii, mw_s_rir, mw_s_rri, mw_s_rrr, mw_s_iiii, mw_s_iiir, mw_s_iiri, mw_s_iirr, mw_s_irii, mw_s_irir, mw_s_irri, mw_s_irrr, mw_s_riii, mw_s_riir, mw_s_riri, mw_s_rirr, mw_s_rrii, mw_s_rrir, mw_s_rrri, mw_s_rrrr, QA_5 (pq_QA hM), QA_6 (pq_QA hM), QA_7 (pq_QA hM), pq_puF1 hM, pq_puC hM, pq_puY hM]
  unfold qOf
  by_cases h1 : qF v = 0
  · simp [h1]
  · by_cases h2 : c < qC v
    · simp [h1, h2]
    · by_cases h3 : c = qC v
      · by_cases h4 : y < qY v
        · have h5 : ¬ qY v ≤ y := Int32.not_le.mpr h4
          simp [h1, h2, h3, h4, h5]
        · have h5 : qY v ≤ y := Int32.not_lt.mp h4
          simp [h1, h3, h4, h5]
      · simp [h1, h2, h3]
/-- bits that are set -/
def bcI (x : Int32) : Int32 :=
  let a := x - ((x.toUInt32 >>> ((1 : Int32).toUInt32 &&& Int32.toUInt32 31)).toInt32 &&& 1431655765)
  let b := (a &&& 858993459) + ((a.toUInt32 >>> ((2 : Int32).toUInt32 &&& Int32.toUInt32 31)).toInt32 &&& 858993459)
  let c := (b + (b.toUInt32 >>> ((4 : Int32).toUInt32 &&& Int32.toUInt32 31)).toInt32) &&& 252645135
  let d := c + (c.toUInt32 >>> ((8 : Int32).toUInt32 &&& Int32.toUInt32 31)).toInt32
  let e := d + (d.toUInt32 >>> ((16 : Int32).toUInt32 &&& Int32.toUInt32 31)).toInt32
  e &&& 63
theorem W0 {x : Int32} : Wp scr (n + 1) 0 [.int x] M Q ↔ Q (some (.int (bcI x))) M := by
  simp only [e0, u0_0, u0_1, u0_2, u0_3, u0_4, u0_7, u0_8, u0_9, u0_10, u0_11, u0_14, u0_15, u0_16, u0_17, u0_18, u0_21, u0_22, u0_23, u0_24, u0_25, u0_26, u0_27, u0_28, u0_29, u0_32, u0_33, u0_34, u0_35, u0_36, u0_38, u0_39, u0_40, u0_41, u0_42, u0_43, u0_45, u0_46, u0_47, u0_48, u0_49, u0_51, u0_52, mw_os, wp_ite, mw_sw, Option.toList_some, Option.toList_none, List.cons_append, List.nil_append, true_and, and_true, if_true, if_false, mw_s_, mw_s_i, mw_s_r, mw_s_ii, mw_s_ir, mw_s_ri, mw_s_rr, mw_s_iii, mw_s_iir, mw_s_iri, mw_s_irr, mw_s_rii, mw_s_rir, mw_s_rri, mw_s_rrr, mw_s_iiii, mw_s_iiir, mw_s_iiri, mw_s_iirr, mw_s_irii, mw_s_irir, mw_s_irri, mw_s_irrr, mw_s_riii, mw_s_riir, mw_s_riri, mw_s_rirr, mw_s_rrii, mw_s_rrir, mw_s_rrri, mw_s_rrrr]
  exact Iff.rfl
theorem W59 {x y : Int32} (h : QA M q v) (hl : LA M a u) (hu : LOK u) : Wp scr (n + 5) 59 [.ref q, .ref a, .int x, .int y] M Q ↔ Q (some (.int (if qG v = 1 then x else if qG v = 3 then 8 - bcI (vRs u &&& qS v) else y))) M := by
  simp only [e59, u59_0, u59_1, u59_4, u59_32, u59_33, u59_34, u59_36, u59_37, u59_40, u59_41, u59_44, u59_45, u59_48, u59_49, u59_50, u59_51, mw_os, wp_ite, mw_sw, Option.toList_some, Option.toList_none, List.cons_append, List.nil_append, true_and, and_true, if_true, if_false, mw_s_, mw_s_i, mw_s_r, mw_s_ii, mw_s_ir, mw_s_ri, mw_s_rr, mw_s_iii, mw_s_iir, mw_s_iri, mw_s_irr, mw_s_rii, mw_s_rir, mw_s_rri, mw_s_rrr, mw_s_iiii, mw_s_iiir, mw_s_iiri, mw_s_iirr, mw_s_irii, mw_s_irir, mw_s_irri, mw_s_irrr, mw_s_riii, mw_s_riir, mw_s_riri, mw_s_rirr, mw_s_rrii, mw_s_rrir, mw_s_rrri, mw_s_rrrr, QA_2 h, QA_4 h, LA_x hl, W35 hl hu, W0]
  by_cases h1 : qG v = 1
  · simp only [h1, if_true, u59_32, u59_33]
  · by_cases h2 : qG v = 3
    · rw [if_neg h1, if_pos h2, if_neg h1, if_pos h2]
    · rw [if_neg h1, if_neg h2, if_neg h1, if_neg h2]
def qLw (v : QV) (u : LV) : Bool := (List.range 8).all (fun i => decide (gi (vL u) (nI i) = gi (qW v) (nI i)))
theorem W58 (h : QA M q v) (hv : QOK v) (hl : LA M a u) (hu : LOK u) : Wp scr (n + 1) 58 [.ref q, .ref a] M Q ↔ Q (some (.int (bi (qLw v u)))) M := by
  have key : ∀ (k i : Nat), i + k = 8 → (wp scr n mb_58 2 [some (.ref q), some (.ref a), some (.int (nI i))] [] M Q ↔ Q (some (.int (bi ((List.range' i k).all (fun i => decide (gi (vL u) (nI i) = gi (qW v) (nI i))))))) M) := by
    intro k
    induction k with
    | zero =>
      intro i hi
      have : i = 8 := by omega
      subst this
      refine u58_2.trans ?_
      simp only [u58_3, u58_5, u58_31, u58_32, mw_os, wp_ite, mw_sw, Option.toList_some, Option.toList_none, List.cons_append, List.nil_append, true_and, and_true, if_true, if_false, mw_s_, mw_s_i, mw_s_r, mw_s_ii, mw_s_ir, mw_s_ri, mw_s_rr, mw_s_iii, mw_s_iir, mw_s_iri, mw_s_irr, mw_s_rii, mw_s_rir, mw_s_rri, mw_s_rrr, mw_s_iiii, mw_s_iiir, mw_s_iiri, mw_s_iirr, mw_s_irii, mw_s_irir, mw_s_irri, mw_s_irrr, mw_s_riii, mw_s_riir, mw_s_riri, mw_s_rirr, mw_s_rrii, mw_s_rrir, mw_s_rrri, mw_s_rrrr, nle8e]
      simp [bi]
    | succ k ih =>
      intro i hi
      have hi8 : i < 8 := by omega
      refine u58_2.trans ?_
      simp only [e58, u58_0, u58_1, u58_3, u58_5, u58_8, u58_9, u58_12, u58_13, u58_14, u58_15, u58_18, u58_19, u58_20, u58_23, u58_24, u58_25, u58_28, u58_31, u58_32, mw_os, wp_ite, mw_sw, Option.toList_some, Option.toList_none, List.cons_append, List.nil_append, true_and, and_true, if_true, if_false, mw_s_, mw_s_i, mw_s_r, mw_s_ii, mw_s_ir, mw_s_ri, mw_s_rr, mw_s_iii, mw_s_iir, mw_s_iri, mw_s_irr, mw_s_rii, mw_s_rir, mw_s_rri, mw_s_rrr, mw_s_iiii, mw_s_iiir, mw_s_iiri, mw_s_iirr, mw_s_irii, mw_s_irir, mw_s_irri, mw_s_irrr, mw_s_riii, mw_s_riir, mw_s_riri, mw_s_rirr, mw_s_rrii, mw_s_rrir, mw_s_rrri, mw_s_rrrr, mm_sto1, mm_clr, mm_isL, List.getElem?_cons_zero, List.getElem?_cons_succ, List.set_cons_zero, List.set_cons_succ, Bool.false_eq_true, LA_2 hl, LA_l hl, QA_0 h, QA_w h, gi_at (hu.2.2.1.symm ▸ nI_in8 hi8 : vp_in (nI i) (vL u).length), gi_at (hv.1.symm ▸ nI_in8 hi8 : vp_in (nI i) (qW v).length), nle8 hi8, nI_1, ih (i + 1) (by omega)]
      rw [List.range'_succ, List.all_cons]
      by_cases q1 : gi (vL u) (nI i) = gi (qW v) (nI i)
      · rw [if_pos q1, decide_eq_true q1, Bool.true_and]
      · rw [if_neg q1, decide_eq_false q1, Bool.false_and]
        simp [bi]
  have k0 := key 8 0 rfl
  simp only [e58, u58_0, u58_1, mw_os, wp_ite, mw_sw, Option.toList_some, Option.toList_none, List.cons_append, List.nil_append, true_and, and_true, if_true, if_false, mw_s_, mw_s_i, mw_s_r, mw_s_ii, mw_s_ir, mw_s_ri, mw_s_rr, mw_s_iii, mw_s_iir, mw_s_iri, mw_s_irr, mw_s_rii, mw_s_rir, mw_s_rri, mw_s_rrr, mw_s_iiii, mw_s_iiir, mw_s_iiri, mw_s_iirr, mw_s_irii, mw_s_irir, mw_s_irri, mw_s_irrr, mw_s_riii, mw_s_riir, mw_s_riri, mw_s_rirr, mw_s_rrii, mw_s_rrir, mw_s_rrri, mw_s_rrrr, mm_sto1, mm_clr, mm_isL, List.getElem?_cons_zero, List.getElem?_cons_succ, List.set_cons_zero, List.set_cons_succ, Bool.false_eq_true]
  exact k0
def qRe (v : QV) (u : LV) (c : Int32) : Bool := if qG v = 2 then decide (vW u * vT u ≤ qP v ∧ vRs u &&& qS v = qS v) else if qG v = 3 then decide (vW u * vT u ≤ qP v) else if qG v = 4 then decide (vW u = 1 ∧ vT u = 1) && qLw v u else decide (vW u = 1 ∧ vT u = 1) && vSb u c
theorem W57 (h : QA M q v) (hv : QOK v) (hl : LA M a u) (hu : LOK u) (hs : SA M s w) (hc : vp_in (sCv w) 8) : Wp scr (n + 5) 57 [.ref q, .ref s, .ref a] M Q ↔ Q (some (.int (bi (qRe v u (sCv w))))) M := by
  simp only [e57, u57_0, u57_1, u57_4, u57_32, u57_33, u57_36, u57_37, u57_40, u57_43, u57_44, u57_47, u57_48, u57_51, u57_52, u57_53, u57_56, u57_59, u57_60, u57_63, u57_64, u57_65, u57_66, u57_69, u57_70, u57_73, u57_76, u57_77, u57_80, u57_81, u57_82, u57_83, u57_86, u57_89, u57_90, u57_91, u57_94, u57_97, u57_98, u57_101, u57_102, u57_103, u57_104, u57_107, u57_110, u57_111, u57_112, u57_115, u57_118, u57_121, u57_122, u57_125, u57_126, mw_os, wp_ite, mw_sw, Option.toList_some, Option.toList_none, List.cons_append, List.nil_append, true_and, and_true, if_true, if_false, mw_s_, mw_s_i, mw_s_r, mw_s_ii, mw_s_ir, mw_s_ri, mw_s_rr, mw_s_iii, mw_s_iir, mw_s_iri, mw_s_irr, mw_s_rii, mw_s_rir, mw_s_rri, mw_s_rrr, mw_s_iiii, mw_s_iiir, mw_s_iiri, mw_s_iirr, mw_s_irii, mw_s_irir, mw_s_irri, mw_s_irrr, mw_s_riii, mw_s_riir, mw_s_riri, mw_s_rirr, mw_s_rrii, mw_s_rrir, mw_s_rrri, mw_s_rrrr, QA_2 h, QA_3 h, QA_4 h, LA_x hl, SA_x hs, QA_x h, W38 hl, W35 hl hu, W39 hl, W58 h hv hl hu, W36 hl hu hc, SA_5 hs, bi_eq0]
  unfold qRe
  by_cases g2 : qG v = 2
  · rw [if_pos g2, if_pos g2]
    by_cases h1 : qP v < vW u * vT u
    · have h2 : ¬ vW u * vT u ≤ qP v := Int32.not_le.mpr h1
      simp [h1, h2, bi]
    · have h2 : vW u * vT u ≤ qP v := Int32.not_lt.mp h1
      by_cases h3 : vRs u &&& qS v = qS v <;> simp [h1, h2, h3, bi]
  · rw [if_neg g2, if_neg g2]
    by_cases g3 : qG v = 3
    · rw [if_pos g3, if_pos g3]
      by_cases h1 : qP v < vW u * vT u
      · have h2 : ¬ vW u * vT u ≤ qP v := Int32.not_le.mpr h1
        simp [h1, h2, bi]
      · have h2 : vW u * vT u ≤ qP v := Int32.not_lt.mp h1
        simp [h1, h2, bi]
    · rw [if_neg g3, if_neg g3]
      by_cases g4 : qG v = 4
      · rw [if_pos g4, if_pos g4]
        by_cases h1 : vW u = 1 ∧ vT u = 1
        · cases h2 : qLw v u <;> simp [h1, bi]
        · simp [h1, bi]
      · rw [if_neg g4, if_neg g4]
        by_cases h1 : vW u = 1 ∧ vT u = 1
        · cases h2 : vSb u (sCv w) <;> simp [h1, bi]
        · simp [h1, bi]
end SR1
