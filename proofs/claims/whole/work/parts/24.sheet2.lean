section SH2
variable {scr : List Int32} {n : Nat} {M : mm_M} {Q : Option Value → mm_M → Prop} {s t a b : Nat} {v w : SV} {u : LV}
theorem W76 (hM : s + 4 < M.length) : Wp scr (n + 1) 76 [.ref s] (ph M s v) Q ↔ (if sN v = 0 then Q (some (.int 0)) (ph M s v) else Q (some (.int 1)) (ph M s (xN v (sN v - 1)))) := by
  simp only [e76, u76_0, u76_1, u76_4, u76_7, u76_8, u76_9, u76_10, u76_11, u76_14, u76_15, u76_16, u76_19, u76_20, mw_os, wp_ite, mw_sw, Option.toList_some, Option.toList_none, List.cons_append, List.nil_append, true_and, and_true, if_true, if_false, mw_s_, mw_s_i, mw_s_r, mw_s_ii, mw_s_ir, mw_s_ri, mw_s_rr, mw_s_iii, mw_s_iir, mw_s_iri, mw_s_irr, mw_s_rii, mw_s_rir, mw_s_rri, mw_s_rrr, mw_s_iiii, mw_s_iiir, mw_s_iiri, mw_s_iirr, mw_s_irii, mw_s_irir, mw_s_irri, mw_s_irrr, mw_s_riii, mw_s_riir, mw_s_riri, mw_s_rirr, mw_s_rrii, mw_s_rrir, mw_s_rrri, mw_s_rrrr, SA_4 (ph_SA hM), ph_puN hM]
  split <;> simp
def woStep (v : SV) (u : LV) (r : Int32) (i : Nat) : Int32 := r + (wbO v u i - gi (sWo v) (nI i))
def woO (v : SV) (u : LV) : Int32 := (List.range' 0 10).foldl (woStep v u) 0
theorem W77 (h : SA M s v) (hv : SOK v) (hl : LA M b u) (hu : LOK u) : Wp scr (n + 4) 77 [.ref s, .ref b] M Q ↔ Q (some (.int (woO v u))) M := by
  have key := nf_loop (N := 10) (Φ := fun i (r : Int32) => wp scr (n + 3) mb_77 4 [some (.ref s), some (.ref b), some (.int r), some (.int (nI i))] [] M Q) (Ψ := fun r => Q (some (.int r)) M) (step := woStep v u)
    (fun i r hi => u77_4.trans (by
      simp only [e77, u77_0, u77_1, u77_2, u77_3, u77_5, u77_7, u77_10, u77_11, u77_12, u77_13, u77_14, u77_17, u77_18, u77_21, u77_22, u77_23, u77_24, u77_25, u77_26, u77_29, u77_32, u77_33, mw_os, wp_ite, mw_sw, Option.toList_some, Option.toList_none, List.cons_append, List.nil_append, true_and, and_true, if_true, if_false, mw_s_, mw_s_i, mw_s_r, mw_s_ii, mw_s_ir, mw_s_ri, mw_s_rr, mw_s_iii, mw_s_iir, mw_s_iri, mw_s_irr, mw_s_rii, mw_s_rir, mw_s_rri, mw_s_rrr, mw_s_iiii, mw_s_iiir, mw_s_iiri, mw_s_iirr, mw_s_irii, mw_s_irir, mw_s_irri, mw_s_irrr, mw_s_riii, mw_s_riir, mw_s_riri, mw_s_rirr, mw_s_rrii, mw_s_rrir, mw_s_rrri, mw_s_rrrr, mm_sto1, mm_clr, mm_isL, List.getElem?_cons_zero, List.getElem?_cons_succ, List.set_cons_zero, List.set_cons_succ, Bool.false_eq_true, SA_3 h, SA_w h, SA_x h, W75 h hv hl hu hi, gi_at (hv.2.2.symm ▸ nI_in10 hi : vp_in (nI i) (sWo v).length), nle10 hi, nI_1]
      exact Iff.rfl))
    (fun r => u77_4.trans (by simp only [u77_5, u77_7, u77_32, u77_33, mw_os, wp_ite, mw_sw, Option.toList_some, Option.toList_none, List.cons_append, List.nil_append, true_and, and_true, if_true, if_false, mw_s_, mw_s_i, mw_s_r, mw_s_ii, mw_s_ir, mw_s_ri, mw_s_rr, mw_s_iii, mw_s_iir, mw_s_iri, mw_s_irr, mw_s_rii, mw_s_rir, mw_s_rri, mw_s_rrr, mw_s_iiii, mw_s_iiir, mw_s_iiri, mw_s_iirr, mw_s_irii, mw_s_irir, mw_s_irri, mw_s_irrr, mw_s_riii, mw_s_riir, mw_s_riri, mw_s_rirr, mw_s_rrii, mw_s_rrir, mw_s_rrri, mw_s_rrrr, nle10e])) 10 0 0 rfl
  rw [woO, ← key]
  simp only [e77, u77_0, u77_1, u77_2, u77_3, mw_os, wp_ite, mw_sw, Option.toList_some, Option.toList_none, List.cons_append, List.nil_append, true_and, and_true, if_true, if_false, mw_s_, mw_s_i, mw_s_r, mw_s_ii, mw_s_ir, mw_s_ri, mw_s_rr, mw_s_iii, mw_s_iir, mw_s_iri, mw_s_irr, mw_s_rii, mw_s_rir, mw_s_rri, mw_s_rrr, mw_s_iiii, mw_s_iiir, mw_s_iiri, mw_s_iirr, mw_s_irii, mw_s_irir, mw_s_irri, mw_s_irrr, mw_s_riii, mw_s_riir, mw_s_riri, mw_s_rirr, mw_s_rrii, mw_s_rrir, mw_s_rrri, mw_s_rrrr, mm_sto1, mm_clr, mm_isL, List.getElem?_cons_zero, List.getElem?_cons_succ, List.set_cons_zero, List.set_cons_succ, Bool.false_eq_true]
  exact Iff.rfl
def waO (w : List Int32) : Int32 := (List.range' 0 10).foldl (fun r i => r + gi w (nI i)) 0
theorem W81 (h : SA M s v) (hv : SOK v) : Wp scr (n + 1) 81 [.ref s] M Q ↔ Q (some (.int (waO (sWo v)))) M := by
  have key := nf_loop (N := 10) (Φ := fun i (r : Int32) => wp scr n mb_81 4 [some (.ref s), some (.int r), some (.int (nI i))] [] M Q) (Ψ := fun r => Q (some (.int r)) M) (step := fun r i => r + gi (sWo v) (nI i))
    (fun i r hi => u81_4.trans (by
      simp only [e81, u81_0, u81_1, u81_2, u81_3, u81_5, u81_7, u81_10, u81_11, u81_12, u81_15, u81_16, u81_17, u81_18, u81_19, u81_22, u81_25, u81_26, mw_os, wp_ite, mw_sw, Option.toList_some, Option.toList_none, List.cons_append, List.nil_append, true_and, and_true, if_true, if_false, mw_s_, mw_s_i, mw_s_r, mw_s_ii, mw_s_ir, mw_s_ri, mw_s_rr, mw_s_iii, mw_s_iir, mw_s_iri, mw_s_irr, mw_s_rii, mw_s_rir, mw_s_rri, mw_s_rrr, mw_s_iiii, mw_s_iiir, mw_s_iiri, mw_s_iirr, mw_s_irii, mw_s_irir, mw_s_irri, mw_s_irrr, mw_s_riii, mw_s_riir, mw_s_riri, mw_s_rirr, mw_s_rrii, mw_s_rrir, mw_s_rrri, mw_s_rrrr, mm_sto1, mm_clr, mm_isL, List.getElem?_cons_zero, List.getElem?_cons_succ, List.set_cons_zero, List.set_cons_succ, Bool.false_eq_true, SA_3 h, SA_w h, gi_at (hv.2.2.symm ▸ nI_in10 hi : vp_in (nI i) (sWo v).length), nle10 hi, nI_1]))
    (fun r => u81_4.trans (by simp only [u81_5, u81_7, u81_25, u81_26, mw_os, wp_ite, mw_sw, Option.toList_some, Option.toList_none, List.cons_append, List.nil_append, true_and, and_true, if_true, if_false, mw_s_, mw_s_i, mw_s_r, mw_s_ii, mw_s_ir, mw_s_ri, mw_s_rr, mw_s_iii, mw_s_iir, mw_s_iri, mw_s_irr, mw_s_rii, mw_s_rir, mw_s_rri, mw_s_rrr, mw_s_iiii, mw_s_iiir, mw_s_iiri, mw_s_iirr, mw_s_irii, mw_s_irir, mw_s_irri, mw_s_irrr, mw_s_riii, mw_s_riir, mw_s_riri, mw_s_rirr, mw_s_rrii, mw_s_rrir, mw_s_rrri, mw_s_rrrr, nle10e])) 10 0 0 rfl
  rw [waO, ← key]
  simp only [e81, u81_0, u81_1, u81_2, u81_3, mw_os, wp_ite, mw_sw, Option.toList_some, Option.toList_none, List.cons_append, List.nil_append, true_and, and_true, if_true, if_false, mw_s_, mw_s_i, mw_s_r, mw_s_ii, mw_s_ir, mw_s_ri, mw_s_rr, mw_s_iii, mw_s_iir, mw_s_iri, mw_s_irr, mw_s_rii, mw_s_rir, mw_s_rri, mw_s_rrr, mw_s_iiii, mw_s_iiir, mw_s_iiri, mw_s_iirr, mw_s_irii, mw_s_irir, mw_s_irri, mw_s_irrr, mw_s_riii, mw_s_riir, mw_s_riri, mw_s_rirr, mw_s_rrii, mw_s_rrir, mw_s_rrri, mw_s_rrrr, mm_sto1, mm_clr, mm_isL, List.getElem?_cons_zero, List.getElem?_cons_succ, List.set_cons_zero, List.set_cons_succ, Bool.false_eq_true]
  exact Iff.rfl
theorem n_3 (i : Nat) : nI i + 3 = nI (i + 3) := nI_add i 3
theorem n_6 (i : Nat) : nI i + 6 = nI (i + 6) := nI_add i 6
theorem n_7 (i : Nat) : nI i + 7 = nI (i + 7) := nI_add i 7
def wAt (w : List Int32) (i : Nat) : Int32 := gi w (nI i) + gi w (nI (i + 3)) + gi w (nI (i + 6)) + gi w (nI (i + 7))
theorem W80 {i : Nat} (h : SA M s v) (hv : SOK v) (hi : i < 3) : Wp scr (n + 1) 80 [.ref s, .int (nI i)] M Q ↔ Q (some (.int (wAt (sWo v) i))) M := by
  have l3 := hv.2.2
  simp only [e80, u80_0, u80_1, u80_4, u80_5, u80_6, u80_7, u80_10, u80_11, u80_12, u80_13, u80_14, u80_15, u80_16, u80_19, u80_20, u80_22, u80_23, u80_24, u80_25, u80_26, u80_29, u80_30, u80_32, u80_33, u80_34, u80_35, mw_os, wp_ite, mw_sw, Option.toList_some, Option.toList_none, List.cons_append, List.nil_append, true_and, and_true, if_true, if_false, mw_s_, mw_s_i, mw_s_r, mw_s_ii, mw_s_ir, mw_s_ri, mw_s_rr, mw_s_iii, mw_s_iir, mw_s_iri, mw_s_irr, mw_s_rii, mw_s_rir, mw_s_rri, mw_s_rrr, mw_s_iiii, mw_s_iiir, mw_s_iiri, mw_s_iirr, mw_s_irii, mw_s_irir, mw_s_irri, mw_s_irrr, mw_s_riii, mw_s_riir, mw_s_riri, mw_s_rirr, mw_s_rrii, mw_s_rrir, mw_s_rrri, mw_s_rrrr, SA_3 h, SA_w h, n_3, n_6, n_7, gi_at (l3.symm ▸ nI_in10 (show i < 10 by omega) : vp_in (nI i) (sWo v).length), gi_at (l3.symm ▸ nI_in10 (show i + 3 < 10 by omega) : vp_in (nI (i + 3)) (sWo v).length), gi_at (l3.symm ▸ nI_in10 (show i + 6 < 10 by omega) : vp_in (nI (i + 6)) (sWo v).length), gi_at (l3.symm ▸ nI_in10 (show i + 7 < 10 by omega) : vp_in (nI (i + 7)) (sWo v).length)]
  rfl
theorem nle3 {d : Nat} (h : d < 3) : ((3 : Int32) ≤ nI d) ↔ False := iff_false_intro (nI_ge h (by decide))
theorem nle3e : ((3 : Int32) ≤ nI 3) ↔ True := iff_true_intro (by decide +kernel)
def hlStep (w : List Int32) (r : Int32) (i : Nat) : Int32 := if wAt w i < 40 then r else r ||| ((1 : Int32) <<< (nI i &&& 31))
def hlO (w : List Int32) : Int32 := (List.range' 0 3).foldl (hlStep w) 0
theorem W79 (h : SA M s v) (hv : SOK v) : Wp scr (n + 2) 79 [.ref s] M Q ↔ Q (some (.int (hlO (sWo v)))) M := by
  have key := nf_loop (N := 3) (Φ := fun i (r : Int32) => wp scr (n + 1) mb_79 4 [some (.ref s), some (.int r), some (.int (nI i))] [] M Q) (Ψ := fun r => Q (some (.int r)) M) (step := hlStep (sWo v))
    (fun i r hi => u79_4.trans (by
      simp only [e79, u79_0, u79_1, u79_2, u79_3, u79_5, u79_6, u79_9, u79_10, u79_11, u79_14, u79_16, u79_19, u79_20, u79_21, u79_22, u79_23, u79_24, u79_25, u79_28, u79_31, u79_32, mw_os, wp_ite, mw_sw, Option.toList_some, Option.toList_none, List.cons_append, List.nil_append, true_and, and_true, if_true, if_false, mw_s_, mw_s_i, mw_s_r, mw_s_ii, mw_s_ir, mw_s_ri, mw_s_rr, mw_s_iii, mw_s_iir, mw_s_iri, mw_s_irr, mw_s_rii, mw_s_rir, mw_s_rri, mw_s_rrr, mw_s_iiii, mw_s_iiir, mw_s_iiri, mw_s_iirr, mw_s_irii, mw_s_irir, mw_s_irri, mw_s_irrr, mw_s_riii, mw_s_riir, mw_s_riri, mw_s_rirr, mw_s_rrii, mw_s_rrir, mw_s_rrri, mw_s_rrrr, mm_sto1, mm_clr, mm_isL, List.getElem?_cons_zero, List.getElem?_cons_succ, List.set_cons_zero, List.set_cons_succ, Bool.false_eq_true, SA_x h, W80 h hv hi, nle3 hi, nI_1]
      unfold hlStep
      split <;> rfl))
    (fun r => u79_4.trans (by simp only [u79_5, u79_6, u79_31, u79_32, mw_os, wp_ite, mw_sw, Option.toList_some, Option.toList_none, List.cons_append, List.nil_append, true_and, and_true, if_true, if_false, mw_s_, mw_s_i, mw_s_r, mw_s_ii, mw_s_ir, mw_s_ri, mw_s_rr, mw_s_iii, mw_s_iir, mw_s_iri, mw_s_irr, mw_s_rii, mw_s_rir, mw_s_rri, mw_s_rrr, mw_s_iiii, mw_s_iiir, mw_s_iiri, mw_s_iirr, mw_s_irii, mw_s_irir, mw_s_irri, mw_s_irrr, mw_s_riii, mw_s_riir, mw_s_riri, mw_s_rirr, mw_s_rrii, mw_s_rrir, mw_s_rrri, mw_s_rrrr, nle3e])) 3 0 0 rfl
  rw [hlO, ← key]
  simp only [e79, u79_0, u79_1, u79_2, u79_3, mw_os, wp_ite, mw_sw, Option.toList_some, Option.toList_none, List.cons_append, List.nil_append, true_and, and_true, if_true, if_false, mw_s_, mw_s_i, mw_s_r, mw_s_ii, mw_s_ir, mw_s_ri, mw_s_rr, mw_s_iii, mw_s_iir, mw_s_iri, mw_s_irr, mw_s_rii, mw_s_rir, mw_s_rri, mw_s_rrr, mw_s_iiii, mw_s_iiir, mw_s_iiri, mw_s_iirr, mw_s_irii, mw_s_irir, mw_s_irri, mw_s_irrr, mw_s_riii, mw_s_riir, mw_s_riri, mw_s_rirr, mw_s_rrii, mw_s_rrir, mw_s_rrri, mw_s_rrrr, mm_sto1, mm_clr, mm_isL, List.getElem?_cons_zero, List.getElem?_cons_succ, List.set_cons_zero, List.set_cons_succ, Bool.false_eq_true]
  exact Iff.rfl
/-- how often till there is another hole: the answer, and how worn it is then -/
def lsF (v : SV) (u : LV) (old : Int32) : Nat → Nat → List Int32 → Int32 × List Int32
  | 0, _, w => (99, w)
  | j + 1, t, w => if hlO (wdOf (xW v w) u) = old then lsF v u old j (t + 1) (wdOf (xW v w) u) else (nI t, wdOf (xW v w) u)
theorem wd_len {v : SV} {u : LV} (hv : (sWo v).length = 10) : (wdOf v u).length = 10 := by
  unfold wdOf
  have : ∀ (l : List Nat) (t : List Int32), t.length = 10 → (l.foldl (wdStep v u) t).length = 10 := by
    intro l
    induction l with
    | nil => intro t ht; exact ht
    | cons x l ih => intro t ht; rw [List.foldl_cons]; exact ih _ (by unfold wdStep; rw [List.length_set]; exact ht)
  exact this _ _ hv
theorem W78 (hM : s + 4 < M.length) (hv : SOK v) (hl : LA M b u) (hu : LOK u) (hd : b + 7 ≤ s ∨ s + 5 ≤ b) : Wp scr (n + 5) 78 [.ref s, .ref b] (ph M s v) Q ↔ Q (some (.int (lsF v u (hlO (sWo v)) 98 1 (sWo v)).1)) (ph M s (xW v (lsF v u (hlO (sWo v)) 98 1 (sWo v)).2)) := by
  have hb : ∀ w : SV, LA (ph M s w) b u := fun w => LA_ph hl hd
  have key : ∀ (j t : Nat) (w : List Int32) (old : Int32), j + t = 99 → w.length = 10 → (wp scr (n + 4) mb_78 7 [some (.ref s), some (.ref b), some (.int old), some (.int (nI t))] [] (ph M s (xW v w)) Q ↔ Q (some (.int (lsF v u old j t w).1)) (ph M s (xW v (lsF v u old j t w).2))) := by
    intro j
    induction j with
    | zero =>
      intro t w old ht hw
      have : t = 99 := by omega
      subst this
      have h99 : ((99 : Int32) ≤ nI 99) ↔ True := iff_true_intro (by decide +kernel)
      refine u78_7.trans ?_
      simp only [u78_8, u78_10, u78_34, u78_36, mw_os, wp_ite, mw_sw, Option.toList_some, Option.toList_none, List.cons_append, List.nil_append, true_and, and_true, if_true, if_false, mw_s_, mw_s_i, mw_s_r, mw_s_ii, mw_s_ir, mw_s_ri, mw_s_rr, mw_s_iii, mw_s_iir, mw_s_iri, mw_s_irr, mw_s_rii, mw_s_rir, mw_s_rri, mw_s_rrr, mw_s_iiii, mw_s_iiir, mw_s_iiri, mw_s_iirr, mw_s_irii, mw_s_irir, mw_s_irri, mw_s_irrr, mw_s_riii, mw_s_riir, mw_s_riri, mw_s_rirr, mw_s_rrii, mw_s_rrir, mw_s_rrri, mw_s_rrrr, h99]
      exact Iff.rfl
    | succ j ih =>
      intro t w old ht hw
      have h99 : ((99 : Int32) ≤ nI t) ↔ False := iff_false_intro (nI_ge (show t < 99 by omega) (by decide))
      have hw2 : (wdOf (xW v w) u).length = 10 := wd_len hw
      have w74 : ∀ Q : Option Value → mm_M → Prop, Wp scr (n + 4) 74 [.ref s, .ref b] (ph M s (xW v w)) Q ↔ Q none (ph M s (xW v (wdOf (xW v w) u))) := fun Q => W74 (v := xW v w) hM (SOK_xW hv hw) hl hu hd
      refine u78_7.trans ?_
      simp only [e78, u78_0, u78_1, u78_4, u78_5, u78_6, u78_8, u78_10, u78_13, u78_14, u78_15, u78_18, u78_19, u78_22, u78_23, u78_26, u78_27, u78_28, u78_31, u78_34, u78_36, mw_os, wp_ite, mw_sw, Option.toList_some, Option.toList_none, List.cons_append, List.nil_append, true_and, and_true, if_true, if_false, mw_s_, mw_s_i, mw_s_r, mw_s_ii, mw_s_ir, mw_s_ri, mw_s_rr, mw_s_iii, mw_s_iir, mw_s_iri, mw_s_irr, mw_s_rii, mw_s_rir, mw_s_rri, mw_s_rrr, mw_s_iiii, mw_s_iiir, mw_s_iiri, mw_s_iirr, mw_s_irii, mw_s_irir, mw_s_irri, mw_s_irrr, mw_s_riii, mw_s_riir, mw_s_riri, mw_s_rirr, mw_s_rrii, mw_s_rrir, mw_s_rrri, mw_s_rrrr, mm_sto1, mm_clr, mm_isL, List.getElem?_cons_zero, List.getElem?_cons_succ, List.set_cons_zero, List.set_cons_succ, Bool.false_eq_true, SA_x (ph_SA hM), w74, W79 (ph_SA hM) (SOK_xW hv hw2), h99, nI_1]
      simp only [lsF]
      rw [show sWo (xW v (wdOf (xW v w) u)) = wdOf (xW v w) u from rfl]
      split
      · exact ih (t + 1) _ old (by omega) hw2
      · exact Iff.rfl
  have k1 := key 98 1 (sWo v) (hlO (sWo v)) rfl hv.2.2
  rw [← k1]
  simp only [e78, u78_0, u78_1, u78_4, u78_5, u78_6, mw_os, wp_ite, mw_sw, Option.toList_some, Option.toList_none, List.cons_append, List.nil_append, true_and, and_true, if_true, if_false, mw_s_, mw_s_i, mw_s_r, mw_s_ii, mw_s_ir, mw_s_ri, mw_s_rr, mw_s_iii, mw_s_iir, mw_s_iri, mw_s_irr, mw_s_rii, mw_s_rir, mw_s_rri, mw_s_rrr, mw_s_iiii, mw_s_iiir, mw_s_iiri, mw_s_iirr, mw_s_irii, mw_s_irir, mw_s_irri, mw_s_irrr, mw_s_riii, mw_s_riir, mw_s_riri, mw_s_rirr, mw_s_rrii, mw_s_rrir, mw_s_rrri, mw_s_rrrr, mm_sto1, mm_clr, mm_isL, List.getElem?_cons_zero, List.getElem?_cons_succ, List.set_cons_zero, List.set_cons_succ, Bool.false_eq_true, SA_x (ph_SA hM), W79 (ph_SA hM) hv]
  exact Iff.rfl
theorem map_gi10 {l : List Int32} (h : l.length = 10) : (List.range 10).map (fun i => gi l (nI i)) = l := by
  match l, h with
  | [_, _, _, _, _, _, _, _, _, _], _ => rfl
theorem map_gi8 {l : List Int32} (h : l.length = 8) : (List.range 8).map (fun i => gi l (nI i)) = l := by
  match l, h with
  | [_, _, _, _, _, _, _, _], _ => rfl
/-- the creases of another sheet come -/
theorem W68 (hM : s + 4 < M.length) (hv : SOK v) (hw : SOK w) (ht : SA M t w) (hd : t + 5 ≤ s ∨ s + 5 ≤ t) : Wp scr (n + 1) 68 [.ref s, .ref t] (ph M s v) Q ↔ Q none (ph M s ((sK w, sF w, sWo w), (sN v, sCv v))) := by
  have hb : ∀ x : SV, SA (ph M s x) t w := fun x => SA_ph ht (by omega)
  have key := nf_loopI (N := 10) (Φ := fun i (x : List Int32 × List Int32 × List Int32) => wp scr n mb_68 2 [some (.ref s), some (.ref t), some (.int (nI i))] [] (ph M s (x, (sN v, sCv v))) Q) (Ψ := fun x => Q none (ph M s (x, (sN v, sCv v)))) (step := fun x i => (x.1.set i (gi (sK w) (nI i)), x.2.1.set i (gi (sF w) (nI i)), x.2.2.set i (gi (sWo w) (nI i)))) (I := fun _ x => x.1.length = 10 ∧ x.2.1.length = 10 ∧ x.2.2.length = 10)
    (fun i x _ h => ⟨by rw [List.length_set]; exact h.1, by rw [List.length_set]; exact h.2.1, by rw [List.length_set]; exact h.2.2⟩)
    (fun i x hi h => u68_2.trans (by
      obtain ⟨x1, x2, x3⟩ := x
      obtain ⟨h1, h2, h3⟩ := h
      have a1 : ∀ y, mm_sti (ph M s ((x1, x2, x3), (sN v, sCv v))) (.ref (s + 2)) (nI i) y = some (ph M s ((x1.set i y, x2, x3), (sN v, sCv v))) := fun y => by
        rw [ph_stK hM (by show vp_in (nI i) x1.length; rw [h1]; exact nI_in10 hi), clN hi]; rfl
      have a2 : ∀ y z, mm_sti (ph M s ((z, x2, x3), (sN v, sCv v))) (.ref (s + 3)) (nI i) y = some (ph M s ((z, x2.set i y, x3), (sN v, sCv v))) := fun y z => by
        rw [ph_stF hM (by show vp_in (nI i) x2.length; rw [h2]; exact nI_in10 hi), clN hi]; rfl
      have a3 : ∀ y z z2, mm_sti (ph M s ((z, z2, x3), (sN v, sCv v))) (.ref (s + 4)) (nI i) y = some (ph M s ((z, z2, x3.set i y), (sN v, sCv v))) := fun y z z2 => by
        rw [ph_stW hM (by show vp_in (nI i) x3.length; rw [h3]; exact nI_in10 hi), clN hi]; rfl
      simp only [e68, u68_0, u68_1, u68_3, u68_5, u68_8, u68_9, u68_12, u68_13, u68_14, u68_17, u68_18, u68_19, u68_20, u68_21, u68_24, u68_25, u68_26, u68_29, u68_30, u68_31, u68_32, u68_33, u68_36, u68_37, u68_38, u68_41, u68_42, u68_43, u68_44, u68_47, u68_50, mw_os, wp_ite, mw_sw, Option.toList_some, Option.toList_none, List.cons_append, List.nil_append, true_and, and_true, if_true, if_false, mw_s_, mw_s_i, mw_s_r, mw_s_ii, mw_s_ir, mw_s_ri, mw_s_rr, mw_s_iii, mw_s_iir, mw_s_iri, mw_s_irr, mw_s_rii, mw_s_rir, mw_s_rri, mw_s_rrr, mw_s_iiii, mw_s_iiir, mw_s_iiri, mw_s_iirr, mw_s_irii, mw_s_irir, mw_s_irri, mw_s_irrr, mw_s_riii, mw_s_riir, mw_s_riri, mw_s_rirr, mw_s_rrii, mw_s_rrir, mw_s_rrri, mw_s_rrrr, mm_sto1, mm_clr, mm_isL, List.getElem?_cons_zero, List.getElem?_cons_succ, List.set_cons_zero, List.set_cons_succ, Bool.false_eq_true, SA_1 (ph_SA hM), SA_2 (ph_SA hM), SA_3 (ph_SA hM), SA_1 (hb _), SA_2 (hb _), SA_3 (hb _), SA_k (hb _), SA_f (hb _), SA_w (hb _), gi_at (hw.1.symm ▸ nI_in10 hi : vp_in (nI i) (sK w).length), gi_at (hw.2.1.symm ▸ nI_in10 hi : vp_in (nI i) (sF w).length), gi_at (hw.2.2.symm ▸ nI_in10 hi : vp_in (nI i) (sWo w).length), a1, a2, a3, nle10 hi, nI_1]))
    (fun x h => u68_2.trans (by simp only [u68_3, u68_5, u68_50, mw_os, wp_ite, mw_sw, Option.toList_some, Option.toList_none, List.cons_append, List.nil_append, true_and, and_true, if_true, if_false, mw_s_, mw_s_i, mw_s_r, mw_s_ii, mw_s_ir, mw_s_ri, mw_s_rr, mw_s_iii, mw_s_iir, mw_s_iri, mw_s_irr, mw_s_rii, mw_s_rir, mw_s_rri, mw_s_rrr, mw_s_iiii, mw_s_iiir, mw_s_iiri, mw_s_iirr, mw_s_irii, mw_s_irir, mw_s_irri, mw_s_irrr, mw_s_riii, mw_s_riir, mw_s_riri, mw_s_rirr, mw_s_rrii, mw_s_rrir, mw_s_rrri, mw_s_rrrr, nle10e])) 10 0 (sK v, sF v, sWo v) rfl hv
  have e1 : (List.range' 0 10).foldl (fun (x : List Int32 × List Int32 × List Int32) i => (x.1.set i (gi (sK w) (nI i)), x.2.1.set i (gi (sF w) (nI i)), x.2.2.set i (gi (sWo w) (nI i)))) (sK v, sF v, sWo v) = (sK w, sF w, sWo w) := by
    refine (fold_fst (f := fun (x : List Int32) i => x.set i (gi (sK w) (nI i))) (g := fun (x : List Int32 × List Int32) i => (x.1.set i (gi (sF w) (nI i)), x.2.set i (gi (sWo w) (nI i))))).trans ?_
    rw [set10 hv.1, map_gi10 hw.1]
    refine congrArg (Prod.mk (sK w)) ?_
    refine (fold_fst (f := fun (x : List Int32) i => x.set i (gi (sF w) (nI i))) (g := fun (x : List Int32) i => x.set i (gi (sWo w) (nI i)))).trans ?_
    rw [set10 hv.2.1, map_gi10 hw.2.1, set10 hv.2.2, map_gi10 hw.2.2]
  have k1 := key.1
  rw [e1] at k1
  rw [← k1]
  simp only [e68, u68_0, u68_1, mw_os, wp_ite, mw_sw, Option.toList_some, Option.toList_none, List.cons_append, List.nil_append, true_and, and_true, if_true, if_false, mw_s_, mw_s_i, mw_s_r, mw_s_ii, mw_s_ir, mw_s_ri, mw_s_rr, mw_s_iii, mw_s_iir, mw_s_iri, mw_s_irr, mw_s_rii, mw_s_rir, mw_s_rri, mw_s_rrr, mw_s_iiii, mw_s_iiir, mw_s_iiri, mw_s_iirr, mw_s_irii, mw_s_irir, mw_s_irri, mw_s_irrr, mw_s_riii, mw_s_riir, mw_s_riri, mw_s_rirr, mw_s_rrii, mw_s_rrir, mw_s_rrri, mw_s_rrrr, mm_sto1, mm_clr, mm_isL, List.getElem?_cons_zero, List.getElem?_cons_succ, List.set_cons_zero, List.set_cons_succ, Bool.false_eq_true]
  exact Iff.rfl
end SH2
