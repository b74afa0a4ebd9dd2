/-! the reference's search -/
abbrev St : Type := Int32 × Int32 × Int32 × Int32
def oS (o : OV) (σ : St) : OV := (o.1, o.2.1, σ, o.2.2.2)
def btS (way eff : Int32) (σ : St) : St := if σ.1 = -9 ∨ eff < σ.2.1 ∨ (eff = σ.2.1 ∧ way < σ.1) then (way, eff, σ.2.2.1, σ.2.2.2) else σ
section SKp
variable {scr : List Int32} {n : Nat} {M : mm_M} {Q : Option Value → mm_M → Prop} {o : OV} {x : Int32}
theorem so_self (h : OA M o) : so M o = M := by
  unfold so
  have h' : M[129]? = some (oo o) := h
  obtain ⟨hl, he⟩ := List.getElem?_eq_some_iff.mp h'
  rw [← he]
  exact List.set_getElem_self hl
theorem OA_pu11 (h : OA M o) : mm_put mc_fty M (.ref 129) (.int x) 6 11 = some (so M (o.1, (x, o.2.1.2.1, o.2.1.2.2), o.2.2)) := by
  have h' : M[129]? = some (oo o) := h
  simp only [mm_put, h', oo]; rfl
theorem OA_pu12 (h : OA M o) : mm_put mc_fty M (.ref 129) (.int x) 6 12 = some (so M (o.1, (o.2.1.1, x, o.2.1.2.2), o.2.2)) := by
  have h' : M[129]? = some (oo o) := h
  simp only [mm_put, h', oo]; rfl
theorem OA_pu13 (h : OA M o) : mm_put mc_fty M (.ref 129) (.int x) 6 13 = some (so M (o.1, (o.2.1.1, o.2.1.2.1, x), o.2.2)) := by
  have h' : M[129]? = some (oo o) := h
  simp only [mm_put, h', oo]; rfl
theorem OA_pu14 (h : OA M o) : mm_put mc_fty M (.ref 129) (.int x) 6 14 = some (so M (oS o (x, o.2.2.1.2.1, o.2.2.1.2.2.1, o.2.2.1.2.2.2))) := by
  have h' : M[129]? = some (oo o) := h
  simp only [mm_put, h', oo]; rfl
theorem OA_pu15 (h : OA M o) : mm_put mc_fty M (.ref 129) (.int x) 6 15 = some (so M (oS o (o.2.2.1.1, x, o.2.2.1.2.2.1, o.2.2.1.2.2.2))) := by
  have h' : M[129]? = some (oo o) := h
  simp only [mm_put, h', oo]; rfl
theorem OA_pu16 (h : OA M o) : mm_put mc_fty M (.ref 129) (.int x) 6 16 = some (so M (oS o (o.2.2.1.1, o.2.2.1.2.1, x, o.2.2.1.2.2.2))) := by
  have h' : M[129]? = some (oo o) := h
  simp only [mm_put, h', oo]; rfl
theorem OA_pu17 (h : OA M o) : mm_put mc_fty M (.ref 129) (.int x) 6 17 = some (so M (oS o (o.2.2.1.1, o.2.2.1.2.1, o.2.2.1.2.2.1, x))) := by
  have h' : M[129]? = some (oo o) := h
  simp only [mm_put, h', oo]; rfl
theorem OA_pu18 (h : OA M o) : mm_put mc_fty M (.ref 129) (.int x) 6 18 = some (so M (o.1, o.2.1, o.2.2.1, x)) := by
  have h' : M[129]? = some (oo o) := h
  simp only [mm_put, h', oo]; rfl
theorem oS_oS {a b : St} : oS (oS o a) b = oS o b := rfl
theorem W190 {a b : _} {bw be fw mm z x1 x2 : Int32} (h : OA M (a, b, (bw, be, fw, mm), z)) : Wp scr (n + 1) 190 [.ref 129, .int x1, .int x2] M Q ↔ Q none (so M (a, b, btS x1 x2 (bw, be, fw, mm), z)) := by
  have f14 : mm_fld (mc_X scr) M (.ref 129) 6 14 = some (.int bw) := OA_14 h
  have f15 : mm_fld (mc_X scr) M (.ref 129) 6 15 = some (.int be) := OA_15 h
  have p14 : mm_put mc_fty M (.ref 129) (.int x1) 6 14 = some (so M (a, b, (x1, be, fw, mm), z)) := OA_pu14 h
  have p15 : mm_put mc_fty (so M (a, b, (x1, be, fw, mm), z)) (.ref 129) (.int x2) 6 15 = some (so M (a, b, (x1, x2, fw, mm), z)) := (OA_pu15 (so_OA h)).trans (by rw [so_so]; rfl)
  have same : so M (a, b, (bw, be, fw, mm), z) = M := so_self h
  unfold btS
  by_cases c1 : bw = -9
  · rw [if_pos (Or.inl c1)]
    simp only [e190, u190_0, u190_1, u190_4, u190_6, u190_9, u190_10, u190_11, u190_14, u190_17, u190_18, u190_19, u190_22, u190_25, u190_26, u190_27, u190_30, u190_33, u190_34, u190_35, u190_38, u190_39, u190_40, u190_43, mw_os, wp_ite, mw_sw, Option.toList_some, Option.toList_none, List.cons_append, List.nil_append, true_and, and_true, if_true, if_false, mw_s_, mw_s_i, mw_s_r, mw_s_ii, mw_s_ir, mw_s_ri, mw_s_rr, mw_s_iii, mw_s_iir, mw_s_iri, mw_s_irr, mw_s_rii, mw_s_rir, mw_s_rri, mw_s_rrr, mw_s_iiii, mw_s_iiir, mw_s_iiri, mw_s_iirr, mw_s_irii, mw_s_irir, mw_s_irri, mw_s_irrr, mw_s_riii, mw_s_riir, mw_s_riri, mw_s_rirr, mw_s_rrii, mw_s_rrir, mw_s_rrri, mw_s_rrrr, mm_sto1, mm_clr, mm_isL, List.getElem?_cons_zero, List.getElem?_cons_succ, List.set_cons_zero, List.set_cons_succ, Bool.false_eq_true, f14, f15, c1, p14, p15]
  · by_cases c2 : x2 < be
    · rw [if_pos (Or.inr (Or.inl c2))]
      simp only [e190, u190_0, u190_1, u190_4, u190_6, u190_9, u190_10, u190_11, u190_14, u190_17, u190_18, u190_19, u190_22, u190_25, u190_26, u190_27, u190_30, u190_33, u190_34, u190_35, u190_38, u190_39, u190_40, u190_43, mw_os, wp_ite, mw_sw, Option.toList_some, Option.toList_none, List.cons_append, List.nil_append, true_and, and_true, if_true, if_false, mw_s_, mw_s_i, mw_s_r, mw_s_ii, mw_s_ir, mw_s_ri, mw_s_rr, mw_s_iii, mw_s_iir, mw_s_iri, mw_s_irr, mw_s_rii, mw_s_rir, mw_s_rri, mw_s_rrr, mw_s_iiii, mw_s_iiir, mw_s_iiri, mw_s_iirr, mw_s_irii, mw_s_irir, mw_s_irri, mw_s_irrr, mw_s_riii, mw_s_riir, mw_s_riri, mw_s_rirr, mw_s_rrii, mw_s_rrir, mw_s_rrri, mw_s_rrrr, mm_sto1, mm_clr, mm_isL, List.getElem?_cons_zero, List.getElem?_cons_succ, List.set_cons_zero, List.set_cons_succ, Bool.false_eq_true, f14, f15, c1, c2, p14, p15]
    · by_cases c5 : x2 = be
      · subst c5
        by_cases c3 : x1 < bw
        · have c4 : ¬ bw ≤ x1 := Int32.not_le.mpr c3
          rw [if_pos (Or.inr (Or.inr ⟨rfl, c3⟩))]
          simp only [e190, u190_0, u190_1, u190_4, u190_6, u190_9, u190_10, u190_11, u190_14, u190_17, u190_18, u190_19, u190_22, u190_25, u190_26, u190_27, u190_30, u190_33, u190_34, u190_35, u190_38, u190_39, u190_40, u190_43, mw_os, wp_ite, mw_sw, Option.toList_some, Option.toList_none, List.cons_append, List.nil_append, true_and, and_true, if_true, if_false, mw_s_, mw_s_i, mw_s_r, mw_s_ii, mw_s_ir, mw_s_ri, mw_s_rr, mw_s_iii, mw_s_iir, mw_s_iri, mw_s_irr, mw_s_rii, mw_s_rir, mw_s_rri, mw_s_rrr, mw_s_iiii, mw_s_iiir, mw_s_iiri, mw_s_iirr, mw_s_irii, mw_s_irir, mw_s_irri, mw_s_irrr, mw_s_riii, mw_s_riir, mw_s_riri, mw_s_rirr, mw_s_rrii, mw_s_rrir, mw_s_rrri, mw_s_rrrr, mm_sto1, mm_clr, mm_isL, List.getElem?_cons_zero, List.getElem?_cons_succ, List.set_cons_zero, List.set_cons_succ, Bool.false_eq_true, f14, f15, c1, c2, c4, p14, p15, not_true]
        · have c4 : bw ≤ x1 := Int32.not_lt.mp c3
          rw [if_neg (fun z => z.elim c1 (fun z => z.elim c2 (fun z => c3 z.2))), same]
          simp only [e190, u190_0, u190_1, u190_4, u190_6, u190_9, u190_10, u190_11, u190_14, u190_17, u190_18, u190_19, u190_22, u190_25, u190_26, u190_27, u190_30, u190_33, u190_34, u190_35, u190_38, u190_39, u190_40, u190_43, mw_os, wp_ite, mw_sw, Option.toList_some, Option.toList_none, List.cons_append, List.nil_append, true_and, and_true, if_true, if_false, mw_s_, mw_s_i, mw_s_r, mw_s_ii, mw_s_ir, mw_s_ri, mw_s_rr, mw_s_iii, mw_s_iir, mw_s_iri, mw_s_irr, mw_s_rii, mw_s_rir, mw_s_rri, mw_s_rrr, mw_s_iiii, mw_s_iiir, mw_s_iiri, mw_s_iirr, mw_s_irii, mw_s_irir, mw_s_irri, mw_s_irrr, mw_s_riii, mw_s_riir, mw_s_riri, mw_s_rirr, mw_s_rrii, mw_s_rrir, mw_s_rrri, mw_s_rrrr, mm_sto1, mm_clr, mm_isL, List.getElem?_cons_zero, List.getElem?_cons_succ, List.set_cons_zero, List.set_cons_succ, Bool.false_eq_true, f14, f15, c1, c2, c4, not_true]
      · rw [if_neg (fun z => z.elim c1 (fun z => z.elim c2 (fun z => c5 z.1))), same]
        simp only [e190, u190_0, u190_1, u190_4, u190_6, u190_9, u190_10, u190_11, u190_14, u190_17, u190_18, u190_19, u190_22, u190_25, u190_26, u190_27, u190_30, u190_33, u190_34, u190_35, u190_38, u190_39, u190_40, u190_43, mw_os, wp_ite, mw_sw, Option.toList_some, Option.toList_none, List.cons_append, List.nil_append, true_and, and_true, if_true, if_false, mw_s_, mw_s_i, mw_s_r, mw_s_ii, mw_s_ir, mw_s_ri, mw_s_rr, mw_s_iii, mw_s_iir, mw_s_iri, mw_s_irr, mw_s_rii, mw_s_rir, mw_s_rri, mw_s_rrr, mw_s_iiii, mw_s_iiir, mw_s_iiri, mw_s_iirr, mw_s_irii, mw_s_irir, mw_s_irri, mw_s_irrr, mw_s_riii, mw_s_riir, mw_s_riri, mw_s_rirr, mw_s_rrii, mw_s_rrir, mw_s_rrri, mw_s_rrrr, mm_sto1, mm_clr, mm_isL, List.getElem?_cons_zero, List.getElem?_cons_succ, List.set_cons_zero, List.set_cons_succ, Bool.false_eq_true, f14, f15, c1, c2, c5, not_false_eq_true]
end SKp
