theorem two (x : Int32) : (x = 0 ∨ x = 1) ∨ ¬ (0 ≤ x ∧ x < nI 2) := by
  rcases ixc x (N := 2) (by decide) with ⟨j, h1, h2⟩ | h
  · left
    subst h2
    rcases (show j = 0 ∨ j = 1 by omega) with rfl | rfl
    · exact Or.inl rfl
    · exact Or.inr rfl
  · exact Or.inr h
theorem thr (x : Int32) : (x = 0 ∨ x = 1 ∨ x = 2) ∨ ¬ (0 ≤ x ∧ x < nI 3) := by
  rcases ixc x (N := 3) (by decide) with ⟨j, h1, h2⟩ | h
  · left
    subst h2
    rcases (show j = 0 ∨ j = 1 ∨ j = 2 by omega) with rfl | rfl | rfl
    · exact Or.inl rfl
    · exact Or.inr (Or.inl rfl)
    · exact Or.inr (Or.inr rfl)
  · exact Or.inr h
theorem hl_bit {w : List Int32} {i : Nat} (hi : i < 3) : (hlO w >>> (nI i &&& 31)) &&& 1 = bi (!decide (wAt w i < 40)) := by
  unfold hlO
  rw [show List.range' 0 3 = [0, 1, 2] from rfl]
  simp only [List.foldl, hlStep]
  rcases (show i = 0 ∨ i = 1 ∨ i = 2 by omega) with rfl | rfl | rfl
  · by_cases h0 : wAt w 0 < 40 <;> by_cases h1 : wAt w 1 < 40 <;> by_cases h2 : wAt w 2 < 40 <;> simp only [h0, h1, h2, if_true, if_false, decide_true, decide_false] <;> decide +kernel
  · by_cases h0 : wAt w 0 < 40 <;> by_cases h1 : wAt w 1 < 40 <;> by_cases h2 : wAt w 2 < 40 <;> simp only [h0, h1, h2, if_true, if_false, decide_true, decide_false] <;> decide +kernel
  · by_cases h0 : wAt w 0 < 40 <;> by_cases h1 : wAt w 1 < 40 <;> by_cases h2 : wAt w 2 < 40 <;> simp only [h0, h1, h2, if_true, if_false, decide_true, decide_false] <;> decide +kernel
section PU
variable {scr : List Int32} {M : mm_M} {o : OV} {x : Int32} {g : SG} {c : Nat}
theorem so_OA (h : OA M o) {o' : OV} : OA (so M o') o' := List.getElem?_set_self (List.getElem?_eq_some_iff.mp h).1
theorem so_len {o' : OV} : (so M o').length = M.length := List.length_set
theorem so_ne {o' : OV} {b : Nat} (h : b ≠ 129) : (so M o')[b]? = M[b]? := List.getElem?_set_ne (fun z => h z.symm)
theorem so_so {a b : OV} : so (so M a) b = so M b := List.set_set ..
theorem RA_so {o' : OV} {b : Nat} {w : List Int32} (h : RA M b w) (hb : b ≠ 129) : RA (so M o') b w := (so_ne hb).trans h
theorem OA_pu6 (h : OA M o) : mm_put mc_fty M (.ref 129) (.int x) 6 6 = some (so M ((o.1.1, x, o.1.2.2), o.2)) := by
  have h' : M[129]? = some (oo o) := h
  simp only [mm_put, h', oo]; rfl
theorem OA_pu8 (h : OA M o) : mm_put mc_fty M (.ref 129) (.int x) 6 8 = some (so M ((o.1.1, o.1.2.1, x), o.2)) := by
  have h' : M[129]? = some (oo o) := h
  simp only [mm_put, h', oo]; rfl
theorem OA_pu3 (h : OA M o) : mm_put mc_fty M (.ref 129) (.int 1) 6 3 = some (so M ((1, o.1.2.1, o.1.2.2), o.2)) := by
  have h' : M[129]? = some (oo o) := h
  simp only [mm_put, h', oo]; rfl
theorem CS_pu8 (h : CS M g) : mm_put mc_fty M (.ref 0) (.int (nI c)) 5 8 = some (M.set 0 (xo c (gH g))) := by
  simp only [mm_put, h.1.2, xo]; rfl
theorem CS_pu9 (h : CS M g) : mm_put mc_fty M (.ref 0) (.int 1) 5 9 = some (M.set 0 (xo (gTc g) 1)) := by
  simp only [mm_put, h.1.2, xo]; rfl
end PU
/-! what is told -/
def gTl (g : SG) (ts : List Int32) (c : Nat) : SG := (gN g, (ts, c), (gZ g, gZn g), gR g, (gH g, gI g))
theorem gTl_ok {g : SG} {ts : List Int32} {c : Nat} (hg : SGOK g) (h1 : ts.length = 16) (h2 : c ≤ 16) (h3 : ∀ i, i < c → rgI (gi ts (nI i)) 99) : SGOK (gTl g ts c) := ⟨hg.1, hg.2.1, ⟨h1, h2, h3⟩, hg.2.2.2⟩
def gZl (g : SG) (ts : List Int32) (c : Nat) : SG := (gN g, (gT g, gTc g), (ts, c), gR g, (gH g, gI g))
theorem gZl_ok {g : SG} {ts : List Int32} {c : Nat} (hg : SGOK g) (h1 : ts.length = 96) (h2 : c ≤ 96) (h3 : ∀ i, i < c → rgI (gi ts (nI i)) 255) : SGOK (gZl g ts c) := ⟨hg.1, hg.2.1, hg.2.2.1, ⟨h1, h2, h3⟩, hg.2.2.2.2⟩
section TL
variable {scr : List Int32} {n : Nat} {M M' : mm_M} {Q : Option Value → mm_M → Prop} {g : SG} {ts : List Int32} {c : Nat}
theorem CS_told (h : CS M g) (hg : SGOK g) : CS ((sr M 127 ts).set 0 (xo c (gH g))) (gTl g ts c) := by
  have hA : Ag M ((sr M 127 ts).set 0 (xo c (gH g))) 1 127 := Ag_tr (Ag_sr (by omega)) (Ag_set (by omega))
  have hl : ((sr M 127 ts).set 0 (xo c (gH g))).length = M.length := List.length_set.trans sr_len
  obtain ⟨⟨a1, a2⟩, a3, a4, a5, ⟨τ, a6, a7⟩, ⟨a8, a9⟩, ⟨x, y, a10⟩, a11, a12⟩ := h
  exact ⟨⟨hl.trans a1, List.getElem?_set_self (by rw [sr_len]; omega)⟩, SH_kp a3 (Ag_sub hA (by omega) (by omega)) hg.1.2.2.1, SH_kp a4 (Ag_sub hA (by omega) (by omega)) hg.2.1.2.2.1, TR_kp a5 (Ag_sub hA (by omega) (by omega)), ⟨τ, a6, QA_keep a7 (fun j hj => hA _ (by omega) (by omega))⟩, ⟨(hA 124 (by omega) (by omega)).trans a8, (hA 125 (by omega) (by omega)).trans a9⟩, ⟨x, y, (hA 126 (by omega) (by omega)).trans a10⟩, (List.getElem?_set_ne (by decide)).trans (sr_RA (by omega)), (List.getElem?_set_ne (by decide)).trans ((sr_ne (by decide)).trans a12)⟩
theorem CPt (h : CS M g) (hg : SGOK g) {r : Value} (hQ : CPost M (gTl g ts c) r Q) : Q (some r) ((sr M 127 ts).set 0 (xo c (gH g))) := hQ _ (List.length_set.trans sr_len) (Ag_tr (Ag_sr (by omega)) (Ag_set (by omega))) (CS_told h hg)
/-- the same row, another count -/
theorem CPt0 (h : CS M g) (hg : SGOK g) {r : Value} (hQ : CPost M (gTl g (gT g) c) r Q) : Q (some r) (M.set 0 (xo c (gH g))) := by
  have := CPt (ts := gT g) h hg hQ
  rw [sr_self h.2.2.2.2.2.2.2.1] at this
  exact this
theorem MS_told {o : OV} (h : MS M g) (ho : OA M o) (ho1 : o.1 = (gH g, nI (gTc g), nI (gZn g))) {o2 : _} : MS (so (sr M 140 ts) ((o.1.1, nI c, o.1.2.2), o2)) (gTl g ts c) := by
  obtain ⟨⟨a1, o', a2, a3⟩, ⟨r0, a4, a5⟩, ⟨w1, a6, a7, a8⟩, a9, a10, a11, a12, a13, ⟨w2, a14, a15⟩⟩ := h
  refine ⟨⟨so_len.trans (sr_len.trans a1), _, so_OA (OA_sr ho (by decide)), by rw [ho1]; rfl⟩, ⟨r0, a4, RA_so (sr_other a5 (by decide)) (by decide)⟩, ⟨w1, a6, RA_so (sr_other a7 (by decide)) (by decide), a8⟩, (so_ne (by decide)).trans ((sr_ne (by decide)).trans a9), fun k hk => ?_, RA_so (sr_other a11 (by decide)) (by decide), RA_so (sr_RA (by omega)) (by decide), RA_so (sr_other a13 (by decide)) (by decide), ⟨w2, a14, RA_so (sr_other a15 (by decide)) (by decide)⟩⟩
  obtain ⟨w3, b1, b2⟩ := a10 k hk
  exact ⟨w3, b1, RA_so (sr_other b2 (by omega)) (by omega)⟩
theorem Ag_so {o' : OV} : Ag M (so M o') 0 129 := fun i _ h => so_ne (by omega)
theorem MPt {o : OV} (h : MS M g) (ho : OA M o) (ho1 : o.1 = (gH g, nI (gTc g), nI (gZn g))) {o2 : _} {r : Value} (hQ : MPost M (gTl g ts c) r Q) : Q (some r) (so (sr M 140 ts) ((o.1.1, nI c, o.1.2.2), o2)) := hQ _ (so_len.trans sr_len) (Ag_tr (Ag_sr (by omega)) Ag_so) (MS_told h ho ho1)
theorem MPt0 {o : OV} (h : MS M g) (ho : OA M o) (ho1 : o.1 = (gH g, nI (gTc g), nI (gZn g))) {o2 : _} {r : Value} (hQ : MPost M (gTl g (gT g) c) r Q) : Q (some r) (so M ((o.1.1, nI c, o.1.2.2), o2)) := by
  have := MPt (ts := gT g) (o2 := o2) h ho ho1 hQ
  rw [sr_self h.2.2.2.2.2.2.1] at this
  exact this
theorem CT (h : CS M g) : RA M 127 (gT g) := h.2.2.2.2.2.2.2.1
theorem MT (h : MS M g) : RA M 140 (gT g) := h.2.2.2.2.2.2.1
theorem MZ (h : MS M g) : RA M 141 (gZ g) := h.2.2.2.2.2.2.2.1
theorem CZ (h : CS M g) : RA M 125 (gZ g) := h.2.2.2.2.2.1.2
theorem CZ_0 (h : CS M g) : mm_fld (mc_X scr) M (.ref 124) 2 0 = some (.ref 125) := by simp only [mm_fld, h.2.2.2.2.2.1.1, lt_o]; rfl
theorem CZ_1 (h : CS M g) : mm_fld (mc_X scr) M (.ref 124) 2 1 = some (.int (nI (gZn g))) := by simp only [mm_fld, h.2.2.2.2.2.1.1, lt_o]; rfl
theorem CZ_x (h : CS M g) : mw_r M 124 2 ↔ True := iff_true_intro ⟨_, h.2.2.2.2.2.1.1⟩
theorem CZ_pu {x : Int32} (h : CS M g) : mm_put mc_fty M (.ref 124) (.int (nI c)) 2 1 = some (M.set 124 (lt_o c)) := by
  simp only [mm_put, h.2.2.2.2.2.1.1, lt_o]; rfl
theorem CS_ltd (h : CS M g) (hg : SGOK g) : CS ((sr M 125 ts).set 124 (lt_o c)) (gZl g ts c) := by
  have hA : Ag M ((sr M 125 ts).set 124 (lt_o c)) 0 124 := Ag_tr (Ag_sr (by omega)) (Ag_set (by omega))
  have hB : Ag M ((sr M 125 ts).set 124 (lt_o c)) 126 129 := Ag_tr (Ag_sr (by omega)) (Ag_set (by omega))
  have hl : ((sr M 125 ts).set 124 (lt_o c)).length = M.length := List.length_set.trans sr_len
  obtain ⟨⟨a1, a2⟩, a3, a4, a5, ⟨τ, a6, a7⟩, ⟨a8, a9⟩, ⟨x, y, a10⟩, a11, a12⟩ := h
  exact ⟨⟨hl.trans a1, (hA 0 (by omega) (by omega)).trans a2⟩, SH_kp a3 (Ag_sub hA (by omega) (by omega)) hg.1.2.2.1, SH_kp a4 (Ag_sub hA (by omega) (by omega)) hg.2.1.2.2.1, TR_kp a5 (Ag_sub hA (by omega) (by omega)), ⟨τ, a6, QA_keep a7 (fun j hj => hA _ (by omega) (by omega))⟩, ⟨List.getElem?_set_self (by rw [sr_len]; omega), (List.getElem?_set_ne (by decide)).trans (sr_RA (by omega))⟩, ⟨x, y, (hB 126 (by omega) (by omega)).trans a10⟩, (hB 127 (by omega) (by omega)).trans a11, (hB 128 (by omega) (by omega)).trans a12⟩
theorem CPz (h : CS M g) (hg : SGOK g) {r : Value} (hQ : CPost M (gZl g ts c) r Q) : Q (some r) ((sr M 125 ts).set 124 (lt_o c)) := hQ _ (List.length_set.trans sr_len) (Ag_tr (Ag_sr (by omega)) (Ag_set (by omega))) (CS_ltd h hg)
theorem MS_ltd {o : OV} (h : MS M g) (ho : OA M o) (ho1 : o.1 = (gH g, nI (gTc g), nI (gZn g))) {o2 : _} : MS (so (sr M 141 ts) ((o.1.1, o.1.2.1, nI c), o2)) (gZl g ts c) := by
  obtain ⟨⟨a1, o', a2, a3⟩, ⟨r0, a4, a5⟩, ⟨w1, a6, a7, a8⟩, a9, a10, a11, a12, a13, ⟨w2, a14, a15⟩⟩ := h
  refine ⟨⟨so_len.trans (sr_len.trans a1), _, so_OA (OA_sr ho (by decide)), by rw [ho1]; rfl⟩, ⟨r0, a4, RA_so (sr_other a5 (by decide)) (by decide)⟩, ⟨w1, a6, RA_so (sr_other a7 (by decide)) (by decide), a8⟩, (so_ne (by decide)).trans ((sr_ne (by decide)).trans a9), fun k hk => ?_, RA_so (sr_other a11 (by decide)) (by decide), RA_so (sr_other a12 (by decide)) (by decide), RA_so (sr_RA (by omega)) (by decide), ⟨w2, a14, RA_so (sr_other a15 (by decide)) (by decide)⟩⟩
  obtain ⟨w3, b1, b2⟩ := a10 k hk
  exact ⟨w3, b1, RA_so (sr_other b2 (by omega)) (by omega)⟩
theorem MPz {o : OV} (h : MS M g) (ho : OA M o) (ho1 : o.1 = (gH g, nI (gTc g), nI (gZn g))) {o2 : _} {r : Value} (hQ : MPost M (gZl g ts c) r Q) : Q (some r) (so (sr M 141 ts) ((o.1.1, o.1.2.1, nI c), o2)) := hQ _ (so_len.trans sr_len) (Ag_tr (Ag_sr (by omega)) Ag_so) (MS_ltd h ho ho1)
end TL
section O4
variable {scr : List Int32} {n : Nat} {M : mm_M} {Q : Option Value → mm_M → Prop} {g : SG} {x1 x2 : Int32}
theorem W95_1 : Wp scr (n + 1) 95 [.int 1] M Q ↔ Q (some (.int 1)) M := W95 (b := true)
theorem W95_0 : Wp scr (n + 1) 95 [.int 0] M Q ↔ Q (some (.int 0)) M := W95 (b := false)
theorem J_clear (hg : SGOK g) : JO scr 132 215 [] g := by
  refine ⟨.int (nI (gTc g)), gTl g (gT g) 0, gTl_ok hg hg.2.2.1.1 (by omega) (fun i hi => absurd hi (by omega)), fun n M Q hC hQ => ?_, fun n M Q hC hQ => ?_⟩
  · simp only [e132, u132_0, u132_1, u132_4, u132_5, u132_6, u132_7, u132_10, u132_11, mw_os, wp_ite, mw_sw, Option.toList_some, Option.toList_none, List.cons_append, List.nil_append, true_and, and_true, if_true, if_false, mw_s_, mw_s_i, mw_s_r, mw_s_ii, mw_s_ir, mw_s_ri, mw_s_rr, mw_s_iii, mw_s_iir, mw_s_iri, mw_s_irr, mw_s_rii, mw_s_rir, mw_s_rri, mw_s_rrr, mw_s_iiii, mw_s_iiir, mw_s_iiri, mw_s_iirr, mw_s_irii, mw_s_irir, mw_s_irri, mw_s_irrr, mw_s_riii, mw_s_riir, mw_s_riri, mw_s_rirr, mw_s_rrii, mw_s_rrir, mw_s_rrri, mw_s_rrrr, mm_sto1, mm_clr, mm_isL, List.getElem?_cons_zero, List.getElem?_cons_succ, List.set_cons_zero, List.set_cons_succ, Bool.false_eq_true, CS_8 hC, show mm_put mc_fty M (.ref 0) (.int 0) 5 8 = _ from CS_pu8 (c := 0) hC]
    exact CPt0 hC hg hQ
  · obtain ⟨o, r, hO, h1, hR, hA⟩ := MSu hC
    simp only [e215, u215_0, u215_1, u215_4, u215_5, u215_6, u215_7, u215_10, u215_11, mw_os, wp_ite, mw_sw, Option.toList_some, Option.toList_none, List.cons_append, List.nil_append, true_and, and_true, if_true, if_false, mw_s_, mw_s_i, mw_s_r, mw_s_ii, mw_s_ir, mw_s_ri, mw_s_rr, mw_s_iii, mw_s_iir, mw_s_iri, mw_s_irr, mw_s_rii, mw_s_rir, mw_s_rri, mw_s_rrr, mw_s_iiii, mw_s_iiir, mw_s_iiri, mw_s_iirr, mw_s_irii, mw_s_irir, mw_s_irri, mw_s_irrr, mw_s_riii, mw_s_riir, mw_s_riri, mw_s_rirr, mw_s_rrii, mw_s_rrir, mw_s_rrri, mw_s_rrrr, mm_sto1, mm_clr, mm_isL, List.getElem?_cons_zero, List.getElem?_cons_succ, List.set_cons_zero, List.set_cons_succ, Bool.false_eq_true, OA_6 hO, OA_pu6 hO]
    rw [h1]
    have := MPt0 (o2 := o.2) hC hO h1 hQ
    rw [h1] at this
    exact this
theorem J_row (hg : SGOK g) (x1 : Int32) : JO scr 130 213 [.int x1] g := by
  obtain ⟨t1, t2, t3⟩ := hg.2.2.1
  rcases pk_ix x1 (n := 100) (by decide) with hy | hy | ⟨m, hm, rfl⟩
  · have n0 : ((0 : Int32) ≤ x1) ↔ False := iff_false_intro (fun z => Int32.not_lt.mpr z hy)
    refine ⟨.int (-nI 4), gRf g 4, gRf_ok hg, fun n M Q hC hQ => ?_, fun n M Q hC hQ => ?_⟩
    · simp only [e130, u130_0, u130_1, u130_4, u130_5, u130_7, u130_11, u130_12, u130_14, u130_17, u130_18, u130_21, u130_23, u130_26, u130_27, u130_29, u130_32, u130_33, u130_34, u130_37, u130_38, u130_41, u130_42, u130_43, u130_44, u130_45, u130_48, u130_49, u130_50, u130_53, u130_54, u130_57, mw_os, wp_ite, mw_sw, Option.toList_some, Option.toList_none, List.cons_append, List.nil_append, true_and, and_true, if_true, if_false, mw_s_, mw_s_i, mw_s_r, mw_s_ii, mw_s_ir, mw_s_ri, mw_s_rr, mw_s_iii, mw_s_iir, mw_s_iri, mw_s_irr, mw_s_rii, mw_s_rir, mw_s_rri, mw_s_rrr, mw_s_iiii, mw_s_iiir, mw_s_iiri, mw_s_iirr, mw_s_irii, mw_s_irir, mw_s_irri, mw_s_irrr, mw_s_riii, mw_s_riir, mw_s_riri, mw_s_rirr, mw_s_rrii, mw_s_rrir, mw_s_rrri, mw_s_rrrr, CS_x hC, n0, hy]
      refine CW84 (k := 4) hC hg (by decide) (by decide) (fun M' hl ha hc => ?_)
      simp only [u130_10, Option.toList_some, List.cons_append, List.nil_append]
      exact hQ M' hl ha hc
    · obtain ⟨o, r, hO, _, hR, hA⟩ := MSu hC
      simp only [e213, u213_0, u213_1, u213_4, u213_5, u213_7, u213_11, u213_12, u213_14, u213_17, u213_18, u213_21, u213_23, u213_26, u213_27, u213_29, u213_32, u213_33, u213_34, u213_37, u213_38, u213_41, u213_42, u213_43, u213_44, u213_45, u213_48, u213_49, u213_50, u213_53, u213_54, u213_57, mw_os, wp_ite, mw_sw, Option.toList_some, Option.toList_none, List.cons_append, List.nil_append, true_and, and_true, if_true, if_false, mw_s_, mw_s_i, mw_s_r, mw_s_ii, mw_s_ir, mw_s_ri, mw_s_rr, mw_s_iii, mw_s_iir, mw_s_iri, mw_s_irr, mw_s_rii, mw_s_rir, mw_s_rri, mw_s_rrr, mw_s_iiii, mw_s_iiir, mw_s_iiri, mw_s_iirr, mw_s_irii, mw_s_irir, mw_s_irri, mw_s_irrr, mw_s_riii, mw_s_riir, mw_s_riri, mw_s_rirr, mw_s_rrii, mw_s_rrir, mw_s_rrri, mw_s_rrrr, OA_x hO, n0, hy]
      refine MW141 (k := 4) hC hg (by decide) (by decide) (fun M' hl ha hc => ?_)
      simp only [u213_10, Option.toList_some, List.cons_append, List.nil_append]
      exact hQ M' hl ha hc
  · have h99 : (99 : Int32) < x1 := Int32.lt_of_lt_of_le (b := nI 100) (by decide +kernel) hy
    have n0 : (x1 < 0) ↔ False := iff_false_intro (fun z => absurd (Int32.lt_trans h99 z) (by decide))
    have n0' : ((0 : Int32) ≤ x1) ↔ True := iff_true_intro (Int32.not_lt.mp (fun z => absurd (Int32.lt_trans h99 z) (by decide)))
    refine ⟨.int (-nI 6), gRf g 6, gRf_ok hg, fun n M Q hC hQ => ?_, fun n M Q hC hQ => ?_⟩
    · simp only [e130, u130_0, u130_1, u130_4, u130_5, u130_7, u130_10, u130_11, u130_12, u130_14, u130_17, u130_18, u130_21, u130_23, u130_26, u130_27, u130_29, u130_33, u130_34, u130_37, u130_38, u130_41, u130_42, u130_43, u130_44, u130_45, u130_48, u130_49, u130_50, u130_53, u130_54, u130_57, mw_os, wp_ite, mw_sw, Option.toList_some, Option.toList_none, List.cons_append, List.nil_append, true_and, and_true, if_true, if_false, mw_s_, mw_s_i, mw_s_r, mw_s_ii, mw_s_ir, mw_s_ri, mw_s_rr, mw_s_iii, mw_s_iir, mw_s_iri, mw_s_irr, mw_s_rii, mw_s_rir, mw_s_rri, mw_s_rrr, mw_s_iiii, mw_s_iiir, mw_s_iiri, mw_s_iirr, mw_s_irii, mw_s_irir, mw_s_irri, mw_s_irrr, mw_s_riii, mw_s_riir, mw_s_riri, mw_s_rirr, mw_s_rrii, mw_s_rrir, mw_s_rrri, mw_s_rrrr, CS_x hC, n0, n0', h99]
      refine CW84 (k := 6) hC hg (by decide) (by decide) (fun M' hl ha hc => ?_)
      simp only [u130_32, Option.toList_some, List.cons_append, List.nil_append]
      exact hQ M' hl ha hc
    · obtain ⟨o, r, hO, _, hR, hA⟩ := MSu hC
      simp only [e213, u213_0, u213_1, u213_4, u213_5, u213_7, u213_10, u213_11, u213_12, u213_14, u213_17, u213_18, u213_21, u213_23, u213_26, u213_27, u213_29, u213_33, u213_34, u213_37, u213_38, u213_41, u213_42, u213_43, u213_44, u213_45, u213_48, u213_49, u213_50, u213_53, u213_54, u213_57, mw_os, wp_ite, mw_sw, Option.toList_some, Option.toList_none, List.cons_append, List.nil_append, true_and, and_true, if_true, if_false, mw_s_, mw_s_i, mw_s_r, mw_s_ii, mw_s_ir, mw_s_ri, mw_s_rr, mw_s_iii, mw_s_iir, mw_s_iri, mw_s_irr, mw_s_rii, mw_s_rir, mw_s_rri, mw_s_rrr, mw_s_iiii, mw_s_iiir, mw_s_iiri, mw_s_iirr, mw_s_irii, mw_s_irir, mw_s_irri, mw_s_irrr, mw_s_riii, mw_s_riir, mw_s_riri, mw_s_rirr, mw_s_rrii, mw_s_rrir, mw_s_rrri, mw_s_rrrr, OA_x hO, n0, n0', h99]
      refine MW141 (k := 6) hC hg (by decide) (by decide) (fun M' hl ha hc => ?_)
      simp only [u213_32, Option.toList_some, List.cons_append, List.nil_append]
      exact hQ M' hl ha hc
  · have n0 : (nI m < 0) ↔ False := iff_false_intro (nI_pos (by omega))
    have n0' : ((0 : Int32) ≤ nI m) ↔ True := iff_true_intro (nI_pos' (by omega))
    have n1 : ((99 : Int32) < nI m) ↔ False := iff_false_intro (nI_nlt (a := 99) (b := m) (by omega) (by decide))
    by_cases hf : gTc g = 16
    · have f1 : (nI (gTc g) < 16) ↔ False := by rw [hf]; exact iff_false_intro (by decide +kernel)
      have f2 : (nI (gTc g) = 16) ↔ True := by rw [hf]; exact iff_true_intro (by decide +kernel)
      refine ⟨.int (-nI 6), gRf g 6, gRf_ok hg, fun n M Q hC hQ => ?_, fun n M Q hC hQ => ?_⟩
      · simp only [e130, u130_0, u130_1, u130_4, u130_5, u130_7, u130_10, u130_11, u130_12, u130_14, u130_17, u130_18, u130_21, u130_23, u130_26, u130_27, u130_29, u130_33, u130_34, u130_37, u130_38, u130_41, u130_42, u130_43, u130_44, u130_45, u130_48, u130_49, u130_50, u130_53, u130_54, u130_57, mw_os, wp_ite, mw_sw, Option.toList_some, Option.toList_none, List.cons_append, List.nil_append, true_and, and_true, if_true, if_false, mw_s_, mw_s_i, mw_s_r, mw_s_ii, mw_s_ir, mw_s_ri, mw_s_rr, mw_s_iii, mw_s_iir, mw_s_iri, mw_s_irr, mw_s_rii, mw_s_rir, mw_s_rri, mw_s_rrr, mw_s_iiii, mw_s_iiir, mw_s_iiri, mw_s_iirr, mw_s_irii, mw_s_irir, mw_s_irri, mw_s_irrr, mw_s_riii, mw_s_riir, mw_s_riri, mw_s_rirr, mw_s_rrii, mw_s_rrir, mw_s_rrri, mw_s_rrrr, CS_x hC, n0, n0', n1, CS_8 hC, f1]
        refine CW84 (k := 6) hC hg (by decide) (by decide) (fun M' hl ha hc => ?_)
        simp only [u130_32, Option.toList_some, List.cons_append, List.nil_append]
        exact hQ M' hl ha hc
      · obtain ⟨o, r, hO, h1, hR, hA⟩ := MSu hC
        have e6 : o.1.2.1 = nI (gTc g) := by rw [h1]
        simp only [e213, u213_0, u213_1, u213_4, u213_5, u213_7, u213_10, u213_11, u213_12, u213_14, u213_17, u213_18, u213_21, u213_23, u213_26, u213_27, u213_29, u213_33, u213_34, u213_37, u213_38, u213_41, u213_42, u213_43, u213_44, u213_45, u213_48, u213_49, u213_50, u213_53, u213_54, u213_57, mw_os, wp_ite, mw_sw, Option.toList_some, Option.toList_none, List.cons_append, List.nil_append, true_and, and_true, if_true, if_false, mw_s_, mw_s_i, mw_s_r, mw_s_ii, mw_s_ir, mw_s_ri, mw_s_rr, mw_s_iii, mw_s_iir, mw_s_iri, mw_s_irr, mw_s_rii, mw_s_rir, mw_s_rri, mw_s_rrr, mw_s_iiii, mw_s_iiir, mw_s_iiri, mw_s_iirr, mw_s_irii, mw_s_irir, mw_s_irri, mw_s_irrr, mw_s_riii, mw_s_riir, mw_s_riri, mw_s_rirr, mw_s_rrii, mw_s_rrir, mw_s_rrri, mw_s_rrrr, OA_x hO, n0, n0', n1, OA_6 hO, e6, f2, not_true]
        refine MW141 (k := 6) hC hg (by decide) (by decide) (fun M' hl ha hc => ?_)
        simp only [u213_32, Option.toList_some, List.cons_append, List.nil_append]
        exact hQ M' hl ha hc
    · have f1 : (nI (gTc g) < 16) ↔ True := iff_true_intro (nI_lt (a := gTc g) (b := 16) (by omega) (by decide))
      have f2 : (nI (gTc g) = 16) ↔ False := iff_false_intro (fun z => hf ((nI_eq (a := gTc g) (b := 16) (by omega) (by decide)).mp z))
      refine ⟨.int (nI (gTc g + 1)), gTl g ((gT g).set (gTc g) (nI m)) (gTc g + 1), gTl_ok hg (by rw [List.length_set]; exact t1) (by omega) (fun i hi => ?_), fun n M Q hC hQ => ?_, fun n M Q hC hQ => ?_⟩
      · rw [gi_st (by omega) (by omega)]
        split
        · exact ⟨m, by omega, rfl⟩
        · exact t3 i (by omega)
      · have s1 : mm_sti M (.ref 127) (nI (gTc g)) (nI m) = some (sr M 127 ((gT g).set (gTc g) (nI m))) := RA_st (CT hC) (by omega) (by omega)
        have hC' : mm_fld (mc_X scr) (sr M 127 ((gT g).set (gTc g) (nI m))) (.ref 0) 5 8 = some (.int (nI (gTc g))) := by
          simp only [mm_fld, sr_ne (show (127 : Nat) ≠ 0 by decide), hC.1.2, xo]; rfl
        have p1 : mm_put mc_fty (sr M 127 ((gT g).set (gTc g) (nI m))) (.ref 0) (.int (nI (gTc g + 1))) 5 8 = some ((sr M 127 ((gT g).set (gTc g) (nI m))).set 0 (xo (gTc g + 1) (gH g))) := by
          simp only [mm_put, sr_ne (show (127 : Nat) ≠ 0 by decide), hC.1.2, xo]; rfl
        have hC'' : mm_fld (mc_X scr) ((sr M 127 ((gT g).set (gTc g) (nI m))).set 0 (xo (gTc g + 1) (gH g))) (.ref 0) 5 8 = some (.int (nI (gTc g + 1))) := CS_8 (CS_told hC hg)
        simp only [e130, u130_0, u130_1, u130_4, u130_5, u130_7, u130_10, u130_11, u130_12, u130_14, u130_17, u130_18, u130_21, u130_23, u130_26, u130_27, u130_29, u130_32, u130_33, u130_34, u130_37, u130_38, u130_41, u130_42, u130_43, u130_44, u130_45, u130_48, u130_49, u130_50, u130_53, u130_54, u130_57, mw_os, wp_ite, mw_sw, Option.toList_some, Option.toList_none, List.cons_append, List.nil_append, true_and, and_true, if_true, if_false, mw_s_, mw_s_i, mw_s_r, mw_s_ii, mw_s_ir, mw_s_ri, mw_s_rr, mw_s_iii, mw_s_iir, mw_s_iri, mw_s_irr, mw_s_rii, mw_s_rir, mw_s_rri, mw_s_rrr, mw_s_iiii, mw_s_iiir, mw_s_iiri, mw_s_iirr, mw_s_irii, mw_s_irir, mw_s_irri, mw_s_irrr, mw_s_riii, mw_s_riir, mw_s_riri, mw_s_rirr, mw_s_rrii, mw_s_rrir, mw_s_rrri, mw_s_rrrr, mm_sto1, mm_clr, mm_isL, List.getElem?_cons_zero, List.getElem?_cons_succ, List.set_cons_zero, List.set_cons_succ, Bool.false_eq_true, n0, n0', n1, CS_6 hC, CS_8 hC, f1, s1, hC', nI_1, p1, hC'']
        exact CPt hC hg hQ
      · obtain ⟨o, r, hO, h1, hR, hA⟩ := MSu hC
        have e6 : o.1.2.1 = nI (gTc g) := by rw [h1]
        have s1 : mm_sti M (.ref 140) (nI (gTc g)) (nI m) = some (sr M 140 ((gT g).set (gTc g) (nI m))) := RA_st (MT hC) (by omega) (by omega)
        have hO' := OA_sr (a := 140) (w := (gT g).set (gTc g) (nI m)) hO (by decide)
        simp only [e213, u213_0, u213_1, u213_4, u213_5, u213_7, u213_10, u213_11, u213_12, u213_14, u213_17, u213_18, u213_21, u213_23, u213_26, u213_27, u213_29, u213_32, u213_33, u213_34, u213_37, u213_38, u213_41, u213_42, u213_43, u213_44, u213_45, u213_48, u213_49, u213_50, u213_53, u213_54, u213_57, mw_os, wp_ite, mw_sw, Option.toList_some, Option.toList_none, List.cons_append, List.nil_append, true_and, and_true, if_true, if_false, mw_s_, mw_s_i, mw_s_r, mw_s_ii, mw_s_ir, mw_s_ri, mw_s_rr, mw_s_iii, mw_s_iir, mw_s_iri, mw_s_irr, mw_s_rii, mw_s_rir, mw_s_rri, mw_s_rrr, mw_s_iiii, mw_s_iiir, mw_s_iiri, mw_s_iirr, mw_s_irii, mw_s_irir, mw_s_irri, mw_s_irrr, mw_s_riii, mw_s_riir, mw_s_riri, mw_s_rirr, mw_s_rrii, mw_s_rrir, mw_s_rrri, mw_s_rrrr, mm_sto1, mm_clr, mm_isL, List.getElem?_cons_zero, List.getElem?_cons_succ, List.set_cons_zero, List.set_cons_succ, Bool.false_eq_true, OA_x hO, n0, n0', n1, OA_5 hO, OA_6 hO, e6, f2, not_false_eq_true, s1, OA_6 hO', nI_1, OA_pu6 hO', OA_6 (so_OA hO')]
        exact MPt hC hO h1 hQ
theorem W43 (h : CS M g) (hg : SGOK g) : Wp scr (n + 1) 43 [.ref 124] M Q ↔ Q (some (.int (bi (decide (gZn g = 96))))) M := by
  have hz := hg.2.2.2.1.2.1
  by_cases h1 : gZn g = 96
  · have f : (nI (gZn g) < 96) ↔ False := by rw [h1]; exact iff_false_intro (by decide +kernel)
    simp only [e43, u43_0, u43_0b, u43_1, u43_4, u43_6, u43_9, u43_10, u43_13, u43_14, mw_os, wp_ite, mw_sw, Option.toList_some, Option.toList_none, List.cons_append, List.nil_append, true_and, and_true, if_true, if_false, mw_s_, mw_s_i, mw_s_r, mw_s_ii, mw_s_ir, mw_s_ri, mw_s_rr, mw_s_iii, mw_s_iir, mw_s_iri, mw_s_irr, mw_s_rii, mw_s_rir, mw_s_rri, mw_s_rrr, mw_s_iiii, mw_s_iiir, mw_s_iiri, mw_s_iirr, mw_s_irii, mw_s_irir, mw_s_irri, mw_s_irrr, mw_s_riii, mw_s_riir, mw_s_riri, mw_s_rirr, mw_s_rrii, mw_s_rrir, mw_s_rrri, mw_s_rrrr, CZ_1 h, f]
    simp [h1, bi]
  · have f : (nI (gZn g) < 96) ↔ True := iff_true_intro (nI_lt (a := gZn g) (b := 96) (by omega) (by decide))
    simp only [e43, u43_0, u43_0b, u43_1, u43_4, u43_6, u43_9, u43_10, u43_13, u43_14, mw_os, wp_ite, mw_sw, Option.toList_some, Option.toList_none, List.cons_append, List.nil_append, true_and, and_true, if_true, if_false, mw_s_, mw_s_i, mw_s_r, mw_s_ii, mw_s_ir, mw_s_ri, mw_s_rr, mw_s_iii, mw_s_iir, mw_s_iri, mw_s_irr, mw_s_rii, mw_s_rir, mw_s_rri, mw_s_rrr, mw_s_iiii, mw_s_iiir, mw_s_iiri, mw_s_iirr, mw_s_irii, mw_s_irir, mw_s_irri, mw_s_irrr, mw_s_riii, mw_s_riir, mw_s_riri, mw_s_rirr, mw_s_rrii, mw_s_rrir, mw_s_rrri, mw_s_rrrr, CZ_1 h, f]
    simp [h1, bi]
theorem J_letter (hg : SGOK g) (x1 : Int32) : JO scr 83 140 [.int x1] g := by
  obtain ⟨t1, t2, t3⟩ := hg.2.2.2.1
  rcases pk_ix x1 (n := 256) (by decide) with hy | hy | ⟨m, hm, rfl⟩
  · have n0 : ((0 : Int32) ≤ x1) ↔ False := iff_false_intro (fun z => Int32.not_lt.mpr z hy)
    refine ⟨.int (-nI 4), gRf g 4, gRf_ok hg, fun n M Q hC hQ => ?_, fun n M Q hC hQ => ?_⟩
    · simp only [e83, u83_0, u83_1, u83_4, u83_5, u83_7, u83_11, u83_12, u83_15, u83_18, u83_19, u83_22, u83_25, u83_28, u83_29, u83_31, u83_34, u83_35, u83_36, u83_39, u83_40, u83_43, mw_os, wp_ite, mw_sw, Option.toList_some, Option.toList_none, List.cons_append, List.nil_append, true_and, and_true, if_true, if_false, mw_s_, mw_s_i, mw_s_r, mw_s_ii, mw_s_ir, mw_s_ri, mw_s_rr, mw_s_iii, mw_s_iir, mw_s_iri, mw_s_irr, mw_s_rii, mw_s_rir, mw_s_rri, mw_s_rrr, mw_s_iiii, mw_s_iiir, mw_s_iiri, mw_s_iirr, mw_s_irii, mw_s_irir, mw_s_irri, mw_s_irrr, mw_s_riii, mw_s_riir, mw_s_riri, mw_s_rirr, mw_s_rrii, mw_s_rrir, mw_s_rrri, mw_s_rrrr, CS_x hC, n0, hy]
      refine CW84 (k := 4) hC hg (by decide) (by decide) (fun M' hl ha hc => ?_)
      simp only [u83_10, Option.toList_some, List.cons_append, List.nil_append]
      exact hQ M' hl ha hc
    · obtain ⟨o, r, hO, _, hR, hA⟩ := MSu hC
      simp only [e140, u140_0, u140_1, u140_4, u140_5, u140_7, u140_11, u140_12, u140_15, u140_18, u140_19, u140_22, u140_24, u140_27, u140_28, u140_30, u140_33, u140_34, u140_35, u140_38, u140_39, u140_42, u140_43, u140_44, u140_45, u140_46, u140_49, u140_50, u140_51, u140_54, u140_55, u140_58, mw_os, wp_ite, mw_sw, Option.toList_some, Option.toList_none, List.cons_append, List.nil_append, true_and, and_true, if_true, if_false, mw_s_, mw_s_i, mw_s_r, mw_s_ii, mw_s_ir, mw_s_ri, mw_s_rr, mw_s_iii, mw_s_iir, mw_s_iri, mw_s_irr, mw_s_rii, mw_s_rir, mw_s_rri, mw_s_rrr, mw_s_iiii, mw_s_iiir, mw_s_iiri, mw_s_iirr, mw_s_irii, mw_s_irir, mw_s_irri, mw_s_irrr, mw_s_riii, mw_s_riir, mw_s_riri, mw_s_rirr, mw_s_rrii, mw_s_rrir, mw_s_rrri, mw_s_rrrr, OA_x hO, n0, hy]
      refine MW141 (k := 4) hC hg (by decide) (by decide) (fun M' hl ha hc => ?_)
      simp only [u140_10, Option.toList_some, List.cons_append, List.nil_append]
      exact hQ M' hl ha hc
  · have h99 : (255 : Int32) < x1 := Int32.lt_of_lt_of_le (b := nI 256) (by decide +kernel) hy
    have n0 : (x1 < 0) ↔ False := iff_false_intro (fun z => absurd (Int32.lt_trans h99 z) (by decide))
    have n0' : ((0 : Int32) ≤ x1) ↔ True := iff_true_intro (Int32.not_lt.mp (fun z => absurd (Int32.lt_trans h99 z) (by decide)))
    refine ⟨.int (-nI 6), gRf g 6, gRf_ok hg, fun n M Q hC hQ => ?_, fun n M Q hC hQ => ?_⟩
    · simp only [e83, u83_0, u83_1, u83_4, u83_5, u83_7, u83_10, u83_11, u83_12, u83_15, u83_18, u83_19, u83_22, u83_25, u83_28, u83_29, u83_31, u83_35, u83_36, u83_39, u83_40, u83_43, mw_os, wp_ite, mw_sw, Option.toList_some, Option.toList_none, List.cons_append, List.nil_append, true_and, and_true, if_true, if_false, mw_s_, mw_s_i, mw_s_r, mw_s_ii, mw_s_ir, mw_s_ri, mw_s_rr, mw_s_iii, mw_s_iir, mw_s_iri, mw_s_irr, mw_s_rii, mw_s_rir, mw_s_rri, mw_s_rrr, mw_s_iiii, mw_s_iiir, mw_s_iiri, mw_s_iirr, mw_s_irii, mw_s_irir, mw_s_irri, mw_s_irrr, mw_s_riii, mw_s_riir, mw_s_riri, mw_s_rirr, mw_s_rrii, mw_s_rrir, mw_s_rrri, mw_s_rrrr, CS_x hC, n0, n0', h99]
      refine CW84 (k := 6) hC hg (by decide) (by decide) (fun M' hl ha hc => ?_)
      simp only [u83_34, Option.toList_some, List.cons_append, List.nil_append]
      exact hQ M' hl ha hc
    · obtain ⟨o, r, hO, _, hR, hA⟩ := MSu hC
      simp only [e140, u140_0, u140_1, u140_4, u140_5, u140_7, u140_10, u140_11, u140_12, u140_15, u140_18, u140_19, u140_22, u140_24, u140_27, u140_28, u140_30, u140_34, u140_35, u140_38, u140_39, u140_42, u140_43, u140_44, u140_45, u140_46, u140_49, u140_50, u140_51, u140_54, u140_55, u140_58, mw_os, wp_ite, mw_sw, Option.toList_some, Option.toList_none, List.cons_append, List.nil_append, true_and, and_true, if_true, if_false, mw_s_, mw_s_i, mw_s_r, mw_s_ii, mw_s_ir, mw_s_ri, mw_s_rr, mw_s_iii, mw_s_iir, mw_s_iri, mw_s_irr, mw_s_rii, mw_s_rir, mw_s_rri, mw_s_rrr, mw_s_iiii, mw_s_iiir, mw_s_iiri, mw_s_iirr, mw_s_irii, mw_s_irir, mw_s_irri, mw_s_irrr, mw_s_riii, mw_s_riir, mw_s_riri, mw_s_rirr, mw_s_rrii, mw_s_rrir, mw_s_rrri, mw_s_rrrr, OA_x hO, n0, n0', h99]
      refine MW141 (k := 6) hC hg (by decide) (by decide) (fun M' hl ha hc => ?_)
      simp only [u140_33, Option.toList_some, List.cons_append, List.nil_append]
      exact hQ M' hl ha hc
  · have n0 : (nI m < 0) ↔ False := iff_false_intro (nI_pos (by omega))
    have n0' : ((0 : Int32) ≤ nI m) ↔ True := iff_true_intro (nI_pos' (by omega))
    have n1 : ((255 : Int32) < nI m) ↔ False := iff_false_intro (nI_nlt (a := 255) (b := m) (by omega) (by decide))
    by_cases hf : gZn g = 96
    · have f2 : (nI (gZn g) = 96) ↔ True := by rw [hf]; exact iff_true_intro (by decide +kernel)
      refine ⟨.int (-nI 6), gRf g 6, gRf_ok hg, fun n M Q hC hQ => ?_, fun n M Q hC hQ => ?_⟩
      · simp only [e83, u83_0, u83_1, u83_4, u83_5, u83_7, u83_10, u83_11, u83_12, u83_15, u83_18, u83_19, u83_22, u83_25, u83_28, u83_29, u83_31, u83_35, u83_36, u83_39, u83_40, u83_43, mw_os, wp_ite, mw_sw, Option.toList_some, Option.toList_none, List.cons_append, List.nil_append, true_and, and_true, if_true, if_false, mw_s_, mw_s_i, mw_s_r, mw_s_ii, mw_s_ir, mw_s_ri, mw_s_rr, mw_s_iii, mw_s_iir, mw_s_iri, mw_s_irr, mw_s_rii, mw_s_rir, mw_s_rri, mw_s_rrr, mw_s_iiii, mw_s_iiir, mw_s_iiri, mw_s_iirr, mw_s_irii, mw_s_irir, mw_s_irri, mw_s_irrr, mw_s_riii, mw_s_riir, mw_s_riri, mw_s_rirr, mw_s_rrii, mw_s_rrir, mw_s_rrri, mw_s_rrrr, CS_x hC, n0, n0', n1, CS_4 hC, CZ_x hC, W43 hC hg, hf, decide_true, bi_eq0, reduceCtorEq]
        refine CW84 (k := 6) hC hg (by decide) (by decide) (fun M' hl ha hc => ?_)
        simp only [u83_34, Option.toList_some, List.cons_append, List.nil_append]
        exact hQ M' hl ha hc
      · obtain ⟨o, r, hO, h1, hR, hA⟩ := MSu hC
        have e6 : o.1.2.2 = nI (gZn g) := by rw [h1]
        simp only [e140, u140_0, u140_1, u140_4, u140_5, u140_7, u140_10, u140_11, u140_12, u140_15, u140_18, u140_19, u140_22, u140_24, u140_27, u140_28, u140_30, u140_34, u140_35, u140_38, u140_39, u140_42, u140_43, u140_44, u140_45, u140_46, u140_49, u140_50, u140_51, u140_54, u140_55, u140_58, mw_os, wp_ite, mw_sw, Option.toList_some, Option.toList_none, List.cons_append, List.nil_append, true_and, and_true, if_true, if_false, mw_s_, mw_s_i, mw_s_r, mw_s_ii, mw_s_ir, mw_s_ri, mw_s_rr, mw_s_iii, mw_s_iir, mw_s_iri, mw_s_irr, mw_s_rii, mw_s_rir, mw_s_rri, mw_s_rrr, mw_s_iiii, mw_s_iiir, mw_s_iiri, mw_s_iirr, mw_s_irii, mw_s_irir, mw_s_irri, mw_s_irrr, mw_s_riii, mw_s_riir, mw_s_riri, mw_s_rirr, mw_s_rrii, mw_s_rrir, mw_s_rrri, mw_s_rrrr, OA_x hO, n0, n0', n1, OA_8 hO, e6, f2, not_true]
        refine MW141 (k := 6) hC hg (by decide) (by decide) (fun M' hl ha hc => ?_)
        simp only [u140_33, Option.toList_some, List.cons_append, List.nil_append]
        exact hQ M' hl ha hc
    · have f1 : ((96 : Int32) ≤ nI (gZn g)) ↔ False := iff_false_intro (nI_ge (a := gZn g) (b := 96) (by omega) (by decide))
      have f2 : (nI (gZn g) = 96) ↔ False := iff_false_intro (fun z => hf ((nI_eq (a := gZn g) (b := 96) (by omega) (by decide)).mp z))
      refine ⟨.int (nI (gZn g + 1)), gZl g ((gZ g).set (gZn g) (nI m)) (gZn g + 1), gZl_ok hg (by rw [List.length_set]; exact t1) (by omega) (fun i hi => ?_), fun n M Q hC hQ => ?_, fun n M Q hC hQ => ?_⟩
      · rw [gi_st (by omega) (by omega)]
        split
        · exact ⟨m, by omega, rfl⟩
        · exact t3 i (by omega)
      · have s1 : mm_sti M (.ref 125) (nI (gZn g)) (nI m) = some (sr M 125 ((gZ g).set (gZn g) (nI m))) := RA_st (CZ hC) (by omega) (by omega)
        have hC' : mm_fld (mc_X scr) (sr M 125 ((gZ g).set (gZn g) (nI m))) (.ref 124) 2 1 = some (.int (nI (gZn g))) := by
          simp only [mm_fld, sr_ne (show (125 : Nat) ≠ 124 by decide), hC.2.2.2.2.2.1.1, lt_o]; rfl
        have p1 : mm_put mc_fty (sr M 125 ((gZ g).set (gZn g) (nI m))) (.ref 124) (.int (nI (gZn g + 1))) 2 1 = some ((sr M 125 ((gZ g).set (gZn g) (nI m))).set 124 (lt_o (gZn g + 1))) := by
          simp only [mm_put, sr_ne (show (125 : Nat) ≠ 124 by decide), hC.2.2.2.2.2.1.1, lt_o]; rfl
        have hC'' : mm_fld (mc_X scr) ((sr M 125 ((gZ g).set (gZn g) (nI m))).set 124 (lt_o (gZn g + 1))) (.ref 124) 2 1 = some (.int (nI (gZn g + 1))) := CZ_1 (CS_ltd hC hg)
        simp only [e83, u83_0, u83_1, u83_4, u83_5, u83_7, u83_10, u83_11, u83_12, u83_15, u83_18, u83_19, u83_22, u83_25, u83_28, u83_29, u83_31, u83_34, u83_35, u83_36, u83_39, u83_40, u83_43, e44, u44_0, u44_0b, u44_1, u44_4, u44_6, u44_9, u44_9b, u44_10, u44_13, u44_13b, u44_14, u44_17, u44_18, u44_19, u44_19b, u44_20, u44_21, u44_24, u44_25, u44_26, u44_29, u44_29b, u44_30, u44_33, mw_os, wp_ite, mw_sw, Option.toList_some, Option.toList_none, List.cons_append, List.nil_append, true_and, and_true, if_true, if_false, mw_s_, mw_s_i, mw_s_r, mw_s_ii, mw_s_ir, mw_s_ri, mw_s_rr, mw_s_iii, mw_s_iir, mw_s_iri, mw_s_irr, mw_s_rii, mw_s_rir, mw_s_rri, mw_s_rrr, mw_s_iiii, mw_s_iiir, mw_s_iiri, mw_s_iirr, mw_s_irii, mw_s_irir, mw_s_irri, mw_s_irrr, mw_s_riii, mw_s_riir, mw_s_riri, mw_s_rirr, mw_s_rrii, mw_s_rrir, mw_s_rrri, mw_s_rrrr, mm_sto1, mm_clr, mm_isL, List.getElem?_cons_zero, List.getElem?_cons_succ, List.set_cons_zero, List.set_cons_succ, Bool.false_eq_true, n0, n0', n1, CS_4 hC, CZ_x hC, W43 hC hg, hf, decide_false, bi_eq0, CZ_0 hC, CZ_1 hC, f1, s1, hC', nI_1, p1, hC'']
        exact CPz hC hg hQ
      · obtain ⟨o, r, hO, h1, hR, hA⟩ := MSu hC
        have e6 : o.1.2.2 = nI (gZn g) := by rw [h1]
        have s1 : mm_sti M (.ref 141) (nI (gZn g)) (nI m) = some (sr M 141 ((gZ g).set (gZn g) (nI m))) := RA_st (MZ hC) (by omega) (by omega)
        have hO' := OA_sr (a := 141) (w := (gZ g).set (gZn g) (nI m)) hO (by decide)
        simp only [e140, u140_0, u140_1, u140_4, u140_5, u140_7, u140_10, u140_11, u140_12, u140_15, u140_18, u140_19, u140_22, u140_24, u140_27, u140_28, u140_30, u140_33, u140_34, u140_35, u140_38, u140_39, u140_42, u140_43, u140_44, u140_45, u140_46, u140_49, u140_50, u140_51, u140_54, u140_55, u140_58, mw_os, wp_ite, mw_sw, Option.toList_some, Option.toList_none, List.cons_append, List.nil_append, true_and, and_true, if_true, if_false, mw_s_, mw_s_i, mw_s_r, mw_s_ii, mw_s_ir, mw_s_ri, mw_s_rr, mw_s_iii, mw_s_iir, mw_s_iri, mw_s_irr, mw_s_rii, mw_s_rir, mw_s_rri, mw_s_rrr, mw_s_iiii, mw_s_iiir, mw_s_iiri, mw_s_iirr, mw_s_irii, mw_s_irir, mw_s_irri, mw_s_irrr, mw_s_riii, mw_s_riir, mw_s_riri, mw_s_rirr, mw_s_rrii, mw_s_rrir, mw_s_rrri, mw_s_rrrr, mm_sto1, mm_clr, mm_isL, List.getElem?_cons_zero, List.getElem?_cons_succ, List.set_cons_zero, List.set_cons_succ, Bool.false_eq_true, OA_x hO, n0, n0', n1, OA_7 hO, OA_8 hO, e6, f2, not_false_eq_true, s1, OA_8 hO', nI_1, OA_pu8 hO', OA_8 (so_OA hO')]
        exact MPz hC hO h1 hQ
theorem J_hole (hg : SGOK g) (x1 x2 : Int32) : JO scr 117 204 [.int x1, .int x2] g := by
  rcases ixc x1 (N := 3) (by decide) with ⟨j, hj, rfl⟩ | hx
  · have b1 : decide ((0 : Int32) ≤ nI j ∧ nI j < 3) = true := ib_t hj (by decide)
    have b2 : inB (nI j).toInt64 0 2 = true := (inB_eq (nI j) 0 2).trans (il_t (N := 2) hj (by decide))
    rcases two x2 with h2 | hy
    · have k1 : decide ((0 : Int32) ≤ x2 ∧ x2 < 2) = true := by rcases h2 with rfl | rfl <;> decide
      have k2 : inB x2.toInt64 0 1 = true := (inB_eq x2 0 1).trans (by rcases h2 with rfl | rfl <;> decide)
      refine ⟨.int (if x2 = 0 then wAt (sWo (gN g).1) j else bi (!decide (wAt (sWo (gN g).1) j < 40))), g, hg, fun n M Q hC hQ => ?_, fun n M Q hC hQ => ?_⟩
      · have hq := Csame hC hQ
        simp only [e117, u117_0, u117_1, u117_2, u117_5, u117_8, u117_9, u117_10, u117_13, u117_14, u117_15, u117_16, u117_19, u117_22, u117_23, u117_25, u117_28, u117_29, u117_30, u117_33, u117_34, u117_37, u117_38, u117_39, u117_42, u117_43, u117_46, u117_47, u117_49, u117_52, u117_53, u117_56, u117_57, u117_60, mw_os, wp_ite, mw_sw, Option.toList_some, Option.toList_none, List.cons_append, List.nil_append, true_and, and_true, if_true, if_false, mw_s_, mw_s_i, mw_s_r, mw_s_ii, mw_s_ir, mw_s_ri, mw_s_rr, mw_s_iii, mw_s_iir, mw_s_iri, mw_s_irr, mw_s_rii, mw_s_rir, mw_s_rri, mw_s_rrr, mw_s_iiii, mw_s_iiir, mw_s_iiri, mw_s_iirr, mw_s_irii, mw_s_irir, mw_s_irri, mw_s_irrr, mw_s_riii, mw_s_riir, mw_s_riri, mw_s_rirr, mw_s_rrii, mw_s_rrir, mw_s_rrri, mw_s_rrrr, mm_sto1, mm_clr, mm_isL, List.getElem?_cons_zero, List.getElem?_cons_succ, List.set_cons_zero, List.set_cons_succ, Bool.false_eq_true, W89, b1, k1, bi_eq0, reduceCtorEq, not_false_eq_true, CS_0 hC, NS_x hC, W80 (NS hC) (gSOK hg) hj, W95_1, W95_0]
        rcases h2 with rfl | rfl
        · simp only [not_true, if_false]; exact hq
        · simp only [show ¬ ((1 : Int32) = 0) by decide, not_false_eq_true, if_true, if_false] at hq ⊢
          by_cases h40 : wAt (sWo (gN g).1) j < 40
          · simp only [h40, if_true, decide_true, Bool.not_true, bi_f] at hq ⊢; exact hq
          · simp only [h40, if_false, decide_false, Bool.not_false, bi_t] at hq ⊢; exact hq
      · have hq := Msame hC hQ
        obtain ⟨o, r, hO, _, hR, hA⟩ := MSu hC
        have hb := hl_bit (w := sWo (gN g).1) hj
        have w1 : ∀ Q : Option Value → mm_M → Prop, Wp scr (n + 39) 200 [.ref 130, .int (nI j)] M Q ↔ Q (some (.int (wAt (sWo (gN g).1) j))) M := fun Q => by
          have := W200 (scr := scr) (n := n + 38) (Q := Q) hA hR.1 hj
          rw [hR.2.2.2.1] at this
          exact this
        have w2 : ∀ Q : Option Value → mm_M → Prop, Wp scr (n + 39) 199 [.ref 130] M Q ↔ Q (some (.int (hlO (sWo (gN g).1)))) M := fun Q => by
          have := W199 (scr := scr) (n := n + 37) (Q := Q) hA hR.1
          rw [hR.2.2.2.1] at this
          exact this
        simp only [e204, u204_0, u204_1, u204_2, u204_3, u204_6, u204_9, u204_12, u204_13, u204_14, u204_17, u204_18, u204_19, u204_20, u204_21, u204_22, u204_25, u204_28, u204_29, u204_31, u204_34, u204_35, u204_36, u204_39, u204_40, u204_43, u204_44, u204_47, u204_50, u204_51, u204_54, u204_57, u204_58, u204_59, u204_60, u204_61, mw_os, wp_ite, mw_sw, Option.toList_some, Option.toList_none, List.cons_append, List.nil_append, true_and, and_true, if_true, if_false, mw_s_, mw_s_i, mw_s_r, mw_s_ii, mw_s_ir, mw_s_ri, mw_s_rr, mw_s_iii, mw_s_iir, mw_s_iri, mw_s_irr, mw_s_rii, mw_s_rir, mw_s_rri, mw_s_rrr, mw_s_iiii, mw_s_iiir, mw_s_iiri, mw_s_iirr, mw_s_irii, mw_s_irir, mw_s_irri, mw_s_irrr, mw_s_riii, mw_s_riir, mw_s_riri, mw_s_rirr, mw_s_rrii, mw_s_rrir, mw_s_rrri, mw_s_rrrr, mm_sto1, mm_clr, mm_isL, List.getElem?_cons_zero, List.getElem?_cons_succ, List.set_cons_zero, List.set_cons_succ, Bool.false_eq_true, W146, b2, k2, bi_eq0, reduceCtorEq, not_false_eq_true, OA_0 hO, w1, w2, hb]
        rcases h2 with rfl | rfl
        · simp only [not_true, if_false]; exact hq
        · simp only [show ¬ ((1 : Int32) = 0) by decide, not_false_eq_true, if_true, if_false] at hq ⊢
          exact hq
    · have k1 : decide ((0 : Int32) ≤ x2 ∧ x2 < 2) = false := ib_f (N := 2) hy
      have k2 : inB x2.toInt64 0 1 = false := (inB_eq x2 0 1).trans (il_f (N := 1) (by decide) hy)
      refine ⟨.int (-nI 2), gRf g 2, gRf_ok hg, fun n M Q hC hQ => ?_, fun n M Q hC hQ => ?_⟩
      · simp only [e117, u117_0, u117_1, u117_2, u117_5, u117_8, u117_9, u117_10, u117_13, u117_14, u117_15, u117_16, u117_19, u117_22, u117_23, u117_25, u117_29, u117_30, u117_33, u117_34, u117_37, u117_38, u117_39, u117_42, u117_43, u117_46, u117_47, u117_49, u117_52, u117_53, u117_56, u117_57, u117_60, mw_os, wp_ite, mw_sw, Option.toList_some, Option.toList_none, List.cons_append, List.nil_append, true_and, and_true, if_true, if_false, mw_s_, mw_s_i, mw_s_r, mw_s_ii, mw_s_ir, mw_s_ri, mw_s_rr, mw_s_iii, mw_s_iir, mw_s_iri, mw_s_irr, mw_s_rii, mw_s_rir, mw_s_rri, mw_s_rrr, mw_s_iiii, mw_s_iiir, mw_s_iiri, mw_s_iirr, mw_s_irii, mw_s_irir, mw_s_irri, mw_s_irrr, mw_s_riii, mw_s_riir, mw_s_riri, mw_s_rirr, mw_s_rrii, mw_s_rrir, mw_s_rrri, mw_s_rrrr, W89, b1, k1, bi_eq0, reduceCtorEq, CS_x hC, not_false_eq_true, not_true]
        refine CW84 (k := 2) hC hg (by decide) (by decide) (fun M' hl ha hc => ?_)
        simp only [u117_28, Option.toList_some, List.cons_append, List.nil_append]
        exact hQ M' hl ha hc
      · obtain ⟨o, r, hO, _, hR, hA⟩ := MSu hC
        simp only [e204, u204_0, u204_1, u204_2, u204_3, u204_6, u204_9, u204_12, u204_13, u204_14, u204_17, u204_18, u204_19, u204_20, u204_21, u204_22, u204_25, u204_28, u204_29, u204_31, u204_35, u204_36, u204_39, u204_40, u204_43, u204_44, u204_47, u204_50, u204_51, u204_54, u204_57, u204_58, u204_59, u204_60, u204_61, mw_os, wp_ite, mw_sw, Option.toList_some, Option.toList_none, List.cons_append, List.nil_append, true_and, and_true, if_true, if_false, mw_s_, mw_s_i, mw_s_r, mw_s_ii, mw_s_ir, mw_s_ri, mw_s_rr, mw_s_iii, mw_s_iir, mw_s_iri, mw_s_irr, mw_s_rii, mw_s_rir, mw_s_rri, mw_s_rrr, mw_s_iiii, mw_s_iiir, mw_s_iiri, mw_s_iirr, mw_s_irii, mw_s_irir, mw_s_irri, mw_s_irrr, mw_s_riii, mw_s_riir, mw_s_riri, mw_s_rirr, mw_s_rrii, mw_s_rrir, mw_s_rrri, mw_s_rrrr, W146, b2, k2, bi_eq0, reduceCtorEq, OA_x hO, not_false_eq_true, not_true]
        refine MW141 (k := 2) hC hg (by decide) (by decide) (fun M' hl ha hc => ?_)
        simp only [u204_34, Option.toList_some, List.cons_append, List.nil_append]
        exact hQ M' hl ha hc
  · have b1 : decide ((0 : Int32) ≤ x1 ∧ x1 < 3) = false := ib_f (N := 3) hx
    have b2 : inB x1.toInt64 0 2 = false := (inB_eq x1 0 2).trans (il_f (N := 2) (by decide) hx)
    refine ⟨.int (-nI 1), gRf g 1, gRf_ok hg, fun n M Q hC hQ => ?_, fun n M Q hC hQ => ?_⟩
    · simp only [e117, u117_0, u117_1, u117_2, u117_5, u117_8, u117_9, u117_10, u117_14, u117_15, u117_16, u117_19, u117_22, u117_23, u117_25, u117_28, u117_29, u117_30, u117_33, u117_34, u117_37, u117_38, u117_39, u117_42, u117_43, u117_46, u117_47, u117_49, u117_52, u117_53, u117_56, u117_57, u117_60, mw_os, wp_ite, mw_sw, Option.toList_some, Option.toList_none, List.cons_append, List.nil_append, true_and, and_true, if_true, if_false, mw_s_, mw_s_i, mw_s_r, mw_s_ii, mw_s_ir, mw_s_ri, mw_s_rr, mw_s_iii, mw_s_iir, mw_s_iri, mw_s_irr, mw_s_rii, mw_s_rir, mw_s_rri, mw_s_rrr, mw_s_iiii, mw_s_iiir, mw_s_iiri, mw_s_iirr, mw_s_irii, mw_s_irir, mw_s_irri, mw_s_irrr, mw_s_riii, mw_s_riir, mw_s_riri, mw_s_rirr, mw_s_rrii, mw_s_rrir, mw_s_rrri, mw_s_rrrr, W89, b1, bi_eq0, CS_x hC, not_true]
      refine CW84 (k := 1) hC hg (by decide) (by decide) (fun M' hl ha hc => ?_)
      simp only [u117_13, Option.toList_some, List.cons_append, List.nil_append]
      exact hQ M' hl ha hc
    · obtain ⟨o, r, hO, _, hR, hA⟩ := MSu hC
      simp only [e204, u204_0, u204_1, u204_2, u204_3, u204_6, u204_9, u204_12, u204_13, u204_14, u204_18, u204_19, u204_20, u204_21, u204_22, u204_25, u204_28, u204_29, u204_31, u204_34, u204_35, u204_36, u204_39, u204_40, u204_43, u204_44, u204_47, u204_50, u204_51, u204_54, u204_57, u204_58, u204_59, u204_60, u204_61, mw_os, wp_ite, mw_sw, Option.toList_some, Option.toList_none, List.cons_append, List.nil_append, true_and, and_true, if_true, if_false, mw_s_, mw_s_i, mw_s_r, mw_s_ii, mw_s_ir, mw_s_ri, mw_s_rr, mw_s_iii, mw_s_iir, mw_s_iri, mw_s_irr, mw_s_rii, mw_s_rir, mw_s_rri, mw_s_rrr, mw_s_iiii, mw_s_iiir, mw_s_iiri, mw_s_iirr, mw_s_irii, mw_s_irir, mw_s_irri, mw_s_irrr, mw_s_riii, mw_s_riir, mw_s_riri, mw_s_rirr, mw_s_rrii, mw_s_rrir, mw_s_rrri, mw_s_rrrr, W146, b2, bi_eq0, OA_x hO, not_true]
      refine MW141 (k := 1) hC hg (by decide) (by decide) (fun M' hl ha hc => ?_)
      simp only [u204_17, Option.toList_some, List.cons_append, List.nil_append]
      exact hQ M' hl ha hc
end O4
