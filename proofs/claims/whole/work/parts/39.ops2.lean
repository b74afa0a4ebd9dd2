/-! what a call leaves of the map now -/
def gW (g : SG) (h : HV) : SG := (h, g.2)
theorem gW_ok {g : SG} {h : HV} (hg : SGOK g) (hh : HOK h) : SGOK (gW g h) := ⟨hh, hg.2⟩
theorem gW_same {g : SG} : gW g (gN g) = g := rfl
theorem gi_st {xs : List Int32} {i j : Nat} {x : Int32} (hi : i < xs.length) (hb : i < 2 ^ 31) : gi (xs.set j x) (nI i) = if j = i then x else gi xs (nI i) := by
  rw [gi_n hb, gi_n hb, List.getD_eq_getElem?_getD, List.getD_eq_getElem?_getD, List.getElem?_set]
  by_cases h : j = i
  · subst h; simp [hi]
  · simp [h]
theorem rgI_set {xs : List Int32} {n : Nat} {j N : Nat} {x : Int32} (hn : xs.length = n) (h : ∀ i, i < n → rgI (gi xs (nI i)) N) (hx : rgI x N) (hn2 : n < 2 ^ 31) : ∀ i, i < n → rgI (gi (xs.set j x) (nI i)) N := by
  intro i hi
  rw [gi_st (by omega) (by omega)]
  split
  · exact hx
  · exact h i hi
section UP
variable {scr : List Int32} {n : Nat} {M M' : mm_M} {Q : Option Value → mm_M → Prop} {g : SG} {h : HV} {s : Nat} {v : SV} {x j : Int32}
theorem SA_puC (h : SA M s v) : mm_put mc_fty M (.ref s) (.int x) 4 5 = some (ph M s (xC v x)) := by
  have := ph_puC (M := M) (s := s) (v := v) (x := x) (SA_len h); rw [ph_self h] at this; exact this
theorem SA_puN (h : SA M s v) : mm_put mc_fty M (.ref s) (.int x) 4 4 = some (ph M s (xN v x)) := by
  have := ph_puN (M := M) (s := s) (v := v) (x := x) (SA_len h); rw [ph_self h] at this; exact this
theorem SA_stK (h : SA M s v) (hj : vp_in j (sK v).length) : mm_sti M (.ref (s + 2)) j x = some (ph M s (xK v ((sK v).set j.toNatClampNeg x))) := by
  have := ph_stK (M := M) (s := s) (v := v) (x := x) (SA_len h) hj; rw [ph_self h] at this; exact this
theorem SA_stF (h : SA M s v) (hj : vp_in j (sF v).length) : mm_sti M (.ref (s + 3)) j x = some (ph M s (xF v ((sF v).set j.toNatClampNeg x))) := by
  have := ph_stF (M := M) (s := s) (v := v) (x := x) (SA_len h) hj; rw [ph_self h] at this; exact this
theorem SA_stW (h : SA M s v) (hj : vp_in j (sWo v).length) : mm_sti M (.ref (s + 4)) j x = some (ph M s (xW v ((sWo v).set j.toNatClampNeg x))) := by
  have := ph_stW (M := M) (s := s) (v := v) (x := x) (SA_len h) hj; rw [ph_self h] at this; exact this
/-- the map now is another -/
theorem CS_now (hc : CS M g) (hg : SGOK g) (hl : M'.length = M.length) (h0 : M'[0]? = M[0]?) (ha : Ag M M' 41 129) (hs : SH M' 1 h) : CS M' (gW g h) := by
  obtain ⟨⟨a1, a2⟩, a3, a4, a5, ⟨τ, a6, a7⟩, ⟨a8, a9⟩, ⟨x, y, a10⟩, a11, a12⟩ := hc
  exact ⟨⟨hl.trans a1, h0.trans a2⟩, hs, SH_kp a4 (Ag_sub ha (by omega) (by omega)) hg.2.1.2.2.1, TR_kp a5 (Ag_sub ha (by omega) (by omega)), ⟨τ, a6, QA_keep a7 (fun j hj => ha _ (by omega) (by omega))⟩, ⟨(ha 124 (by omega) (by omega)).trans a8, (ha 125 (by omega) (by omega)).trans a9⟩, ⟨x, y, (ha 126 (by omega) (by omega)).trans a10⟩, (ha 127 (by omega) (by omega)).trans a11, (ha 128 (by omega) (by omega)).trans a12⟩
theorem SH_ph (hs : SH M s h) (hd : h.2.1 ≤ 4) : SH (ph M s v) s (v, h.2) := by
  refine ⟨ph_SA (SA_len hs.1), fun i hi => LA_ph (hs.2.1 i hi) (by unfold la; omega), fun i h1 h2 => ?_⟩
  obtain ⟨y, y1, y2⟩ := hs.2.2 i h1 h2
  exact ⟨y, y1, LA_ph y2 (by unfold la; omega)⟩
theorem CS_ph (hc : CS M g) (hg : SGOK g) : CS (ph M 1 v) (gW g (v, (gN g).2)) := CS_now hc hg (ph_len ..) (ph_out (by omega)) (Ag_ph (by omega)) (SH_ph hc.2.1 hg.1.2.2.1)
theorem CPh (hc : CS M g) (hg : SGOK g) {r : Value} (hQ : CPost M (gW g (v, (gN g).2)) r Q) : Q (some r) (ph M 1 v) := hQ _ (ph_len ..) (Ag_ph (by omega)) (CS_ph hc hg)
theorem MS_now (hc : MS M g) {r : RV} (hr : MR r h) : MS (sr M 130 (rowL r)) (gW g h) := by
  obtain ⟨⟨a1, o, a2, a3⟩, ⟨r0, a4, a5⟩, ⟨w1, a6, a7, a8⟩, a9, a10, a11, a12, a13, ⟨w2, a14, a15⟩⟩ := hc
  refine ⟨⟨sr_len.trans a1, o, (sr_ne (by decide)).trans a2, a3⟩, ⟨r, hr, sr_RA (by omega)⟩, ⟨w1, a6, (sr_ne (by decide)).trans a7, a8⟩, (sr_ne (by decide)).trans a9, fun k hk => ?_, (sr_ne (by decide)).trans a11, (sr_ne (by decide)).trans a12, (sr_ne (by decide)).trans a13, ⟨w2, a14, (sr_ne (by decide)).trans a15⟩⟩
  obtain ⟨w3, b1, b2⟩ := a10 k hk
  exact ⟨w3, b1, (sr_ne (by omega)).trans b2⟩
theorem MPn (hc : MS M g) {r : RV} (hr : MR r h) {x : Value} (hQ : MPost M (gW g h) x Q) : Q (some x) (sr M 130 (rowL r)) := hQ _ sr_len (Ag_sr (by omega)) (MS_now hc hr)
end UP
section MRs
variable {r : RV} {h : HV} {x : List Int32} {c : Int32}
theorem MR_O (hr : MR r h) (hx : x.length = 10) : MR (yO r x) (xW h.1 x, h.2) := ⟨ROK_yO hr.1 hx, hr.2.1, hr.2.2.1, rfl, hr.2.2.2.2⟩
theorem ROK_yK (hv : ROK r) (hx : x.length = 10) : ROK (yK r x) := ⟨hx, hv.2.1, hv.2.2.1, hv.2.2.2.1, hv.2.2.2.2.1, hv.2.2.2.2.2⟩
theorem ROK_yF (hv : ROK r) (hx : x.length = 10) : ROK (yF r x) := ⟨hv.1, hx, hv.2.2.1, hv.2.2.2.1, hv.2.2.2.2.1, hv.2.2.2.2.2⟩
theorem ROK_yC (hv : ROK r) : ROK (yC r c) := ⟨hv.1, hv.2.1, hv.2.2.1, hv.2.2.2.1, hv.2.2.2.2.1, hv.2.2.2.2.2⟩
theorem MR_K (hr : MR r h) (hx : x.length = 10) : MR (yK r x) (xK h.1 x, h.2) := ⟨ROK_yK hr.1 hx, rfl, hr.2.2⟩
theorem MR_F (hr : MR r h) (hx : x.length = 10) : MR (yF r x) (xF h.1 x, h.2) := ⟨ROK_yF hr.1 hx, hr.2.1, rfl, hr.2.2.2⟩
theorem MR_C (hr : MR r h) : MR (yC r c) (xC h.1 c, h.2) := ⟨ROK_yC hr.1, hr.2.1, hr.2.2.1, hr.2.2.2.1, hr.2.2.2.2.1, hr.2.2.2.2.2.1, rfl, hr.2.2.2.2.2.2.2⟩
theorem HOK_W (hh : HOK h) (hx : x.length = 10) (hr : ∀ i, i < 10 → rgI (gi x (nI i)) 99) : HOK (xW h.1 x, h.2) := ⟨⟨hh.1.1, hh.1.2.1, hx⟩, hh.2.1, hh.2.2.1, hh.2.2.2.1, hh.2.2.2.2.1, hh.2.2.2.2.2.1, fun i hi => ⟨(hh.2.2.2.2.2.2 i hi).1, (hh.2.2.2.2.2.2 i hi).2.1, hr i hi⟩⟩
theorem HOK_K (hh : HOK h) (hx : x.length = 10) (hr : ∀ i, i < 10 → rgI (gi x (nI i)) 5) : HOK (xK h.1 x, h.2) := ⟨⟨hx, hh.1.2.1, hh.1.2.2⟩, hh.2.1, hh.2.2.1, hh.2.2.2.1, hh.2.2.2.2.1, hh.2.2.2.2.2.1, fun i hi => ⟨hr i hi, (hh.2.2.2.2.2.2 i hi).2.1, (hh.2.2.2.2.2.2 i hi).2.2⟩⟩
theorem HOK_F (hh : HOK h) (hx : x.length = 10) (hr : ∀ i, i < 10 → rgI (gi x (nI i)) 9) : HOK (xF h.1 x, h.2) := ⟨⟨hh.1.1, hx, hh.1.2.2⟩, hh.2.1, hh.2.2.1, hh.2.2.2.1, hh.2.2.2.2.1, hh.2.2.2.2.2.1, fun i hi => ⟨(hh.2.2.2.2.2.2 i hi).1, hr i hi, (hh.2.2.2.2.2.2 i hi).2.2⟩⟩
theorem HOK_C (hh : HOK h) (hr : rgI c 7) : HOK (xC h.1 c, h.2) := ⟨hh.1, hh.2.1, hh.2.2.1, hr, hh.2.2.2.2.1, hh.2.2.2.2.2.1, hh.2.2.2.2.2.2⟩
end MRs
theorem i4_0 : ((4 : Int32) ≤ 0) ↔ False := by decide
theorem i4_1 : ((4 : Int32) ≤ 1) ↔ False := by decide
theorem i4_2 : ((4 : Int32) ≤ 2) ↔ False := by decide
theorem i4_3 : ((4 : Int32) ≤ 3) ↔ False := by decide
theorem i4_4 : ((4 : Int32) ≤ 4) ↔ True := by decide
theorem i4_5 : ((4 : Int32) ≤ 5) ↔ True := by decide
theorem e5_4 : ((5 : Int32) = 4) ↔ False := by decide
section O2
variable {scr : List Int32} {n : Nat} {M : mm_M} {Q : Option Value → mm_M → Prop} {g : SG}
theorem J_cover (hg : SGOK g) (x1 : Int32) : JO scr 101 176 [.int x1] g := by
  rcases ixc x1 (N := 8) (by decide) with ⟨j, hj, rfl⟩ | hx
  · have b1 : decide ((0 : Int32) ≤ nI j ∧ nI j < 8) = true := ib_t hj (by decide)
    have b2 : decide ((0 : Int32) ≤ nI j ∧ nI j ≤ 7) = true := il_t (N := 7) hj (by decide)
    refine ⟨.int (sCv (gN g).1), gW g (xC (gN g).1 (nI j), (gN g).2), gW_ok hg (HOK_C hg.1 ⟨j, by omega, rfl⟩), fun n M Q hC hQ => ?_, fun n M Q hC hQ => ?_⟩
    · simp only [e101, u101_0, u101_1, u101_3, u101_6, u101_9, u101_10, u101_11, u101_14, u101_15, u101_16, u101_19, u101_22, u101_23, u101_24, u101_27, u101_28, u101_31, u101_32, mw_os, wp_ite, mw_sw, Option.toList_some, Option.toList_none, List.cons_append, List.nil_append, true_and, and_true, if_true, if_false, mw_s_, mw_s_i, mw_s_r, mw_s_ii, mw_s_ir, mw_s_ri, mw_s_rr, mw_s_iii, mw_s_iir, mw_s_iri, mw_s_irr, mw_s_rii, mw_s_rir, mw_s_rri, mw_s_rrr, mw_s_iiii, mw_s_iiir, mw_s_iiri, mw_s_iirr, mw_s_irii, mw_s_irir, mw_s_irri, mw_s_irrr, mw_s_riii, mw_s_riir, mw_s_riri, mw_s_rirr, mw_s_rrii, mw_s_rrir, mw_s_rrri, mw_s_rrrr, mm_sto1, mm_clr, mm_isL, List.getElem?_cons_zero, List.getElem?_cons_succ, List.set_cons_zero, List.set_cons_succ, Bool.false_eq_true, W89, b1, bi_eq0, reduceCtorEq, not_false_eq_true, CS_0 hC, NS_5 hC, SA_puC (NS hC)]
      exact CPh hC hg hQ
    · obtain ⟨o, r, hO, _, hR, hA⟩ := MSu hC
      have st : mm_sti M (.ref 130) 72 (nI j) = some (sr M 130 (rowL (yC r (nI j)))) := by
        have := RA_st (x := nI j) (k := 72) hA (by rw [rowL_len hR.1]; decide) (by decide)
        rw [st_C hR.1] at this
        exact this
      simp only [e176, u176_0, u176_1, u176_4, u176_7, u176_8, u176_9, u176_12, u176_13, u176_14, u176_17, u176_19, u176_20, u176_21, u176_22, u176_25, u176_27, u176_28, u176_29, u176_30, mw_os, wp_ite, mw_sw, Option.toList_some, Option.toList_none, List.cons_append, List.nil_append, true_and, and_true, if_true, if_false, mw_s_, mw_s_i, mw_s_r, mw_s_ii, mw_s_ir, mw_s_ri, mw_s_rr, mw_s_iii, mw_s_iir, mw_s_iri, mw_s_irr, mw_s_rii, mw_s_rir, mw_s_rri, mw_s_rrr, mw_s_iiii, mw_s_iiir, mw_s_iiri, mw_s_iirr, mw_s_irii, mw_s_irir, mw_s_irri, mw_s_irrr, mw_s_riii, mw_s_riir, mw_s_riri, mw_s_rirr, mw_s_rrii, mw_s_rrir, mw_s_rrri, mw_s_rrrr, mm_sto1, mm_clr, mm_isL, List.getElem?_cons_zero, List.getElem?_cons_succ, List.set_cons_zero, List.set_cons_succ, Bool.false_eq_true, W168, b2, bi_eq0, reduceCtorEq, not_false_eq_true, OA_0 hO, RA_ld hA, rd_C hR.1, st]
      rw [hR.2.2.2.2.2.2.1]
      exact MPn hC (MR_C hR) hQ
  · have b1 : decide ((0 : Int32) ≤ x1 ∧ x1 < 8) = false := ib_f (N := 8) hx
    have b2 : decide ((0 : Int32) ≤ x1 ∧ x1 ≤ 7) = false := il_f (N := 7) (by decide) hx
    refine ⟨.int (-nI 1), gRf g 1, gRf_ok hg, fun n M Q hC hQ => ?_, fun n M Q hC hQ => ?_⟩
    · simp only [e101, u101_0, u101_1, u101_3, u101_6, u101_9, u101_10, u101_11, u101_15, u101_16, u101_19, u101_22, u101_23, u101_24, u101_27, u101_28, u101_31, u101_32, mw_os, wp_ite, mw_sw, Option.toList_some, Option.toList_none, List.cons_append, List.nil_append, true_and, and_true, if_true, if_false, mw_s_, mw_s_i, mw_s_r, mw_s_ii, mw_s_ir, mw_s_ri, mw_s_rr, mw_s_iii, mw_s_iir, mw_s_iri, mw_s_irr, mw_s_rii, mw_s_rir, mw_s_rri, mw_s_rrr, mw_s_iiii, mw_s_iiir, mw_s_iiri, mw_s_iirr, mw_s_irii, mw_s_irir, mw_s_irri, mw_s_irrr, mw_s_riii, mw_s_riir, mw_s_riri, mw_s_rirr, mw_s_rrii, mw_s_rrir, mw_s_rrri, mw_s_rrrr, W89, b1, bi_eq0, CS_x hC, not_true]
      refine CW84 (k := 1) hC hg (by decide) (by decide) (fun M' hl ha hc => ?_)
      simp only [u101_14, Option.toList_some, List.cons_append, List.nil_append]
      exact hQ M' hl ha hc
    · obtain ⟨o, r, hO, _, hR, hA⟩ := MSu hC
      simp only [e176, u176_0, u176_1, u176_4, u176_7, u176_8, u176_9, u176_13, u176_14, u176_17, u176_19, u176_20, u176_21, u176_22, u176_25, u176_27, u176_28, u176_29, u176_30, mw_os, wp_ite, mw_sw, Option.toList_some, Option.toList_none, List.cons_append, List.nil_append, true_and, and_true, if_true, if_false, mw_s_, mw_s_i, mw_s_r, mw_s_ii, mw_s_ir, mw_s_ri, mw_s_rr, mw_s_iii, mw_s_iir, mw_s_iri, mw_s_irr, mw_s_rii, mw_s_rir, mw_s_rri, mw_s_rrr, mw_s_iiii, mw_s_iiir, mw_s_iiri, mw_s_iirr, mw_s_irii, mw_s_irir, mw_s_irri, mw_s_irrr, mw_s_riii, mw_s_riir, mw_s_riri, mw_s_rirr, mw_s_rrii, mw_s_rrir, mw_s_rrri, mw_s_rrrr, W168, b2, bi_eq0, OA_x hO, not_true]
      refine MW141 (k := 1) hC hg (by decide) (by decide) (fun M' hl ha hc => ?_)
      simp only [u176_12, Option.toList_some, List.cons_append, List.nil_append]
      exact hQ M' hl ha hc
theorem J_wears (hg : SGOK g) (x1 x2 : Int32) : JO scr 99 174 [.int x1, .int x2] g := by
  rcases ixc x1 (N := 10) (by decide) with ⟨j, hj, rfl⟩ | hx
  · have b1 : decide ((0 : Int32) ≤ nI j ∧ nI j < 10) = true := ib_t hj (by decide)
    have b2 : decide ((0 : Int32) ≤ nI j ∧ nI j ≤ 9) = true := il_t (N := 9) hj (by decide)
    rcases pk_ix x2 (n := 100) (by decide) with hy | hy | ⟨m, hm, rfl⟩
    · have hi : inB x2.toInt64 0 99 = false := (inB_eq x2 0 99).trans (decide_eq_false (fun z => Int32.not_lt.mpr z.1 hy))
      have n0 : ((0 : Int32) ≤ x2) ↔ False := iff_false_intro (fun z => Int32.not_lt.mpr z hy)
      refine ⟨.int (-nI 4), gRf g 4, gRf_ok hg, fun n M Q hC hQ => ?_, fun n M Q hC hQ => ?_⟩
      · simp only [e99, u99_0, u99_1, u99_3, u99_6, u99_9, u99_10, u99_11, u99_14, u99_15, u99_16, u99_19, u99_20, u99_22, u99_26, u99_27, u99_29, u99_32, u99_33, u99_35, u99_38, u99_39, u99_40, u99_43, u99_46, u99_47, u99_48, u99_49, u99_50, u99_53, u99_56, u99_57, u99_58, u99_59, u99_60, mw_os, wp_ite, mw_sw, Option.toList_some, Option.toList_none, List.cons_append, List.nil_append, true_and, and_true, if_true, if_false, mw_s_, mw_s_i, mw_s_r, mw_s_ii, mw_s_ir, mw_s_ri, mw_s_rr, mw_s_iii, mw_s_iir, mw_s_iri, mw_s_irr, mw_s_rii, mw_s_rir, mw_s_rri, mw_s_rrr, mw_s_iiii, mw_s_iiir, mw_s_iiri, mw_s_iirr, mw_s_irii, mw_s_irir, mw_s_irri, mw_s_irrr, mw_s_riii, mw_s_riir, mw_s_riri, mw_s_rirr, mw_s_rrii, mw_s_rrir, mw_s_rrri, mw_s_rrrr, W89, b1, bi_eq0, reduceCtorEq, CS_x hC, not_false_eq_true, hy, n0]
        refine CW84 (k := 4) hC hg (by decide) (by decide) (fun M' hl ha hc => ?_)
        simp only [u99_25, Option.toList_some, List.cons_append, List.nil_append]
        exact hQ M' hl ha hc
      · obtain ⟨o, r, hO, _, hR, hA⟩ := MSu hC
        simp only [e174, u174_0, u174_1, u174_4, u174_7, u174_8, u174_9, u174_12, u174_13, u174_14, u174_15, u174_16, u174_19, u174_22, u174_25, u174_26, u174_27, u174_30, u174_32, u174_35, u174_37, u174_41, u174_42, u174_45, u174_47, u174_48, u174_49, u174_50, u174_51, u174_52, u174_55, u174_57, u174_58, u174_59, u174_60, u174_61, u174_62, mw_os, wp_ite, mw_sw, Option.toList_some, Option.toList_none, List.cons_append, List.nil_append, true_and, and_true, if_true, if_false, mw_s_, mw_s_i, mw_s_r, mw_s_ii, mw_s_ir, mw_s_ri, mw_s_rr, mw_s_iii, mw_s_iir, mw_s_iri, mw_s_irr, mw_s_rii, mw_s_rir, mw_s_rri, mw_s_rrr, mw_s_iiii, mw_s_iiir, mw_s_iiri, mw_s_iirr, mw_s_irii, mw_s_irir, mw_s_irri, mw_s_irrr, mw_s_riii, mw_s_riir, mw_s_riri, mw_s_rirr, mw_s_rrii, mw_s_rrir, mw_s_rrri, mw_s_rrrr, W166, b2, W146, hi, bi_eq0, reduceCtorEq, OA_x hO, not_false_eq_true, not_true, hy, n0]
        refine MW141 (k := 4) hC hg (by decide) (by decide) (fun M' hl ha hc => ?_)
        simp only [u174_40, Option.toList_some, List.cons_append, List.nil_append]
        exact hQ M' hl ha hc
    · have h99 : (99 : Int32) < x2 := Int32.lt_of_lt_of_le (b := nI 100) (by decide +kernel) hy
      have hi : inB x2.toInt64 0 99 = false := (inB_eq x2 0 99).trans (decide_eq_false (fun z => Int32.not_lt.mpr z.2 h99))
      have n0 : (x2 < 0) ↔ False := iff_false_intro (fun z => absurd (Int32.lt_trans h99 z) (by decide))
      have n0' : ((0 : Int32) ≤ x2) ↔ True := iff_true_intro (Int32.not_lt.mp (fun z => absurd (Int32.lt_trans h99 z) (by decide)))
      have n1 : (x2 ≤ 99) ↔ False := iff_false_intro (fun z => Int32.not_lt.mpr z h99)
      refine ⟨.int (-nI 6), gRf g 6, gRf_ok hg, fun n M Q hC hQ => ?_, fun n M Q hC hQ => ?_⟩
      · simp only [e99, u99_0, u99_1, u99_3, u99_6, u99_9, u99_10, u99_11, u99_14, u99_15, u99_16, u99_19, u99_20, u99_22, u99_25, u99_26, u99_27, u99_29, u99_32, u99_33, u99_35, u99_39, u99_40, u99_43, u99_46, u99_47, u99_48, u99_49, u99_50, u99_53, u99_56, u99_57, u99_58, u99_59, u99_60, mw_os, wp_ite, mw_sw, Option.toList_some, Option.toList_none, List.cons_append, List.nil_append, true_and, and_true, if_true, if_false, mw_s_, mw_s_i, mw_s_r, mw_s_ii, mw_s_ir, mw_s_ri, mw_s_rr, mw_s_iii, mw_s_iir, mw_s_iri, mw_s_irr, mw_s_rii, mw_s_rir, mw_s_rri, mw_s_rrr, mw_s_iiii, mw_s_iiir, mw_s_iiri, mw_s_iirr, mw_s_irii, mw_s_irir, mw_s_irri, mw_s_irrr, mw_s_riii, mw_s_riir, mw_s_riri, mw_s_rirr, mw_s_rrii, mw_s_rrir, mw_s_rrri, mw_s_rrrr, W89, b1, bi_eq0, reduceCtorEq, CS_x hC, not_false_eq_true, n0, n0', n1, h99]
        refine CW84 (k := 6) hC hg (by decide) (by decide) (fun M' hl ha hc => ?_)
        simp only [u99_38, Option.toList_some, List.cons_append, List.nil_append]
        exact hQ M' hl ha hc
      · obtain ⟨o, r, hO, _, hR, hA⟩ := MSu hC
        simp only [e174, u174_0, u174_1, u174_4, u174_7, u174_8, u174_9, u174_12, u174_13, u174_14, u174_15, u174_16, u174_19, u174_22, u174_25, u174_26, u174_27, u174_30, u174_32, u174_35, u174_37, u174_41, u174_42, u174_45, u174_47, u174_48, u174_49, u174_50, u174_51, u174_52, u174_55, u174_57, u174_58, u174_59, u174_60, u174_61, u174_62, mw_os, wp_ite, mw_sw, Option.toList_some, Option.toList_none, List.cons_append, List.nil_append, true_and, and_true, if_true, if_false, mw_s_, mw_s_i, mw_s_r, mw_s_ii, mw_s_ir, mw_s_ri, mw_s_rr, mw_s_iii, mw_s_iir, mw_s_iri, mw_s_irr, mw_s_rii, mw_s_rir, mw_s_rri, mw_s_rrr, mw_s_iiii, mw_s_iiir, mw_s_iiri, mw_s_iirr, mw_s_irii, mw_s_irir, mw_s_irri, mw_s_irrr, mw_s_riii, mw_s_riir, mw_s_riri, mw_s_rirr, mw_s_rrii, mw_s_rrir, mw_s_rrri, mw_s_rrrr, W166, b2, W146, hi, bi_eq0, reduceCtorEq, OA_x hO, not_false_eq_true, not_true, n0, n0']
        refine MW141 (k := 6) hC hg (by decide) (by decide) (fun M' hl ha hc => ?_)
        simp only [u174_40, Option.toList_some, List.cons_append, List.nil_append]
        exact hQ M' hl ha hc
    · have hi : inB (nI m).toInt64 0 99 = true := (inB_eq (nI m) 0 99).trans (il_t (N := 99) hm (by decide))
      have n0 : (nI m < 0) ↔ False := iff_false_intro (nI_pos (by omega))
      have n0' : ((0 : Int32) ≤ nI m) ↔ True := iff_true_intro (nI_pos' (by omega))
      have n1 : ((99 : Int32) < nI m) ↔ False := iff_false_intro (nI_nlt (a := 99) (b := m) (by omega) (by decide))
      have n1' : (nI m ≤ 99) ↔ True := iff_true_intro (nI_le (a := m) (b := 99) (by omega) (by decide))
      have hw := (gSOK hg).2.2
      refine ⟨.int (gi (sWo (gN g).1) (nI j)), gW g (xW (gN g).1 ((sWo (gN g).1).set j (nI m)), (gN g).2), gW_ok hg (HOK_W hg.1 (by rw [List.length_set]; exact hw) (rgI_set hw (fun i hi => (hg.1.2.2.2.2.2.2 i hi).2.2) ⟨m, by omega, rfl⟩ (by decide))), fun n M Q hC hQ => ?_, fun n M Q hC hQ => ?_⟩
      · have sw : mm_sti M (.ref 5) (nI j) (nI m) = some (ph M 1 (xW (gN g).1 ((sWo (gN g).1).set j (nI m)))) := (SA_stW (NS hC) (by rw [hw]; exact nI_in10 hj)).trans (by rw [clN hj])
        simp only [e99, u99_0, u99_1, u99_3, u99_6, u99_9, u99_10, u99_11, u99_14, u99_15, u99_16, u99_19, u99_20, u99_22, u99_25, u99_26, u99_27, u99_29, u99_32, u99_33, u99_35, u99_38, u99_39, u99_40, u99_43, u99_46, u99_47, u99_48, u99_49, u99_50, u99_53, u99_56, u99_57, u99_58, u99_59, u99_60, mw_os, wp_ite, mw_sw, Option.toList_some, Option.toList_none, List.cons_append, List.nil_append, true_and, and_true, if_true, if_false, mw_s_, mw_s_i, mw_s_r, mw_s_ii, mw_s_ir, mw_s_ri, mw_s_rr, mw_s_iii, mw_s_iir, mw_s_iri, mw_s_irr, mw_s_rii, mw_s_rir, mw_s_rri, mw_s_rrr, mw_s_iiii, mw_s_iiir, mw_s_iiri, mw_s_iirr, mw_s_irii, mw_s_irir, mw_s_irri, mw_s_irrr, mw_s_riii, mw_s_riir, mw_s_riri, mw_s_rirr, mw_s_rrii, mw_s_rrir, mw_s_rrri, mw_s_rrrr, mm_sto1, mm_clr, mm_isL, List.getElem?_cons_zero, List.getElem?_cons_succ, List.set_cons_zero, List.set_cons_succ, Bool.false_eq_true, W89, b1, bi_eq0, reduceCtorEq, not_false_eq_true, n0, n0', n1, n1', CS_0 hC, NS_3 hC, NS_w hC, gW_at hg hj, sw]
        exact CPh hC hg hQ
      · obtain ⟨o, r, hO, _, hR, hA⟩ := MSu hC
        have st : mm_sti M (.ref 130) (nI (20 + j)) (nI m) = some (sr M 130 (rowL (yO r ((rO r).set j (nI m))))) := by
          have := RA_st (x := nI m) (k := 20 + j) hA (by rw [rowL_len hR.1]; omega) (by omega)
          rw [st_O hR.1 hj] at this
          exact this
        have rO' : mm_at (rowL r) (nI (20 + j)) = some (gi (sWo (gN g).1) (nI j)) := (rd_O hR.1 hj).trans (by rw [hR.2.2.2.1])
        simp only [e174, u174_0, u174_1, u174_4, u174_7, u174_8, u174_9, u174_12, u174_13, u174_14, u174_15, u174_16, u174_19, u174_22, u174_25, u174_26, u174_27, u174_30, u174_32, u174_35, u174_37, u174_40, u174_41, u174_42, u174_45, u174_47, u174_48, u174_49, u174_50, u174_51, u174_52, u174_55, u174_57, u174_58, u174_59, u174_60, u174_61, u174_62, mw_os, wp_ite, mw_sw, Option.toList_some, Option.toList_none, List.cons_append, List.nil_append, true_and, and_true, if_true, if_false, mw_s_, mw_s_i, mw_s_r, mw_s_ii, mw_s_ir, mw_s_ri, mw_s_rr, mw_s_iii, mw_s_iir, mw_s_iri, mw_s_irr, mw_s_rii, mw_s_rir, mw_s_rri, mw_s_rrr, mw_s_iiii, mw_s_iiir, mw_s_iiri, mw_s_iirr, mw_s_irii, mw_s_irir, mw_s_irri, mw_s_irrr, mw_s_riii, mw_s_riir, mw_s_riri, mw_s_rirr, mw_s_rrii, mw_s_rrir, mw_s_rrri, mw_s_rrrr, mm_sto1, mm_clr, mm_isL, List.getElem?_cons_zero, List.getElem?_cons_succ, List.set_cons_zero, List.set_cons_succ, Bool.false_eq_true, W166, b2, W146, hi, bi_eq0, reduceCtorEq, not_false_eq_true, OA_0 hO, RA_ld hA, c20, rO', st]
        refine MPn hC ?_ hQ
        rw [hR.2.2.2.1]
        exact MR_O hR (by rw [List.length_set]; exact hw)
  · have b1 : decide ((0 : Int32) ≤ x1 ∧ x1 < 10) = false := ib_f (N := 10) hx
    have b2 : decide ((0 : Int32) ≤ x1 ∧ x1 ≤ 9) = false := il_f (N := 9) (by decide) hx
    refine ⟨.int (-nI 1), gRf g 1, gRf_ok hg, fun n M Q hC hQ => ?_, fun n M Q hC hQ => ?_⟩
    · simp only [e99, u99_0, u99_1, u99_3, u99_6, u99_9, u99_10, u99_11, u99_15, u99_16, u99_19, u99_20, u99_22, u99_25, u99_26, u99_27, u99_29, u99_32, u99_33, u99_35, u99_38, u99_39, u99_40, u99_43, u99_46, u99_47, u99_48, u99_49, u99_50, u99_53, u99_56, u99_57, u99_58, u99_59, u99_60, mw_os, wp_ite, mw_sw, Option.toList_some, Option.toList_none, List.cons_append, List.nil_append, true_and, and_true, if_true, if_false, mw_s_, mw_s_i, mw_s_r, mw_s_ii, mw_s_ir, mw_s_ri, mw_s_rr, mw_s_iii, mw_s_iir, mw_s_iri, mw_s_irr, mw_s_rii, mw_s_rir, mw_s_rri, mw_s_rrr, mw_s_iiii, mw_s_iiir, mw_s_iiri, mw_s_iirr, mw_s_irii, mw_s_irir, mw_s_irri, mw_s_irrr, mw_s_riii, mw_s_riir, mw_s_riri, mw_s_rirr, mw_s_rrii, mw_s_rrir, mw_s_rrri, mw_s_rrrr, W89, b1, bi_eq0, CS_x hC, not_true]
      refine CW84 (k := 1) hC hg (by decide) (by decide) (fun M' hl ha hc => ?_)
      simp only [u99_14, Option.toList_some, List.cons_append, List.nil_append]
      exact hQ M' hl ha hc
    · obtain ⟨o, r, hO, _, hR, hA⟩ := MSu hC
      simp only [e174, u174_0, u174_1, u174_4, u174_7, u174_8, u174_9, u174_13, u174_14, u174_15, u174_16, u174_19, u174_22, u174_25, u174_26, u174_27, u174_30, u174_32, u174_35, u174_37, u174_40, u174_41, u174_42, u174_45, u174_47, u174_48, u174_49, u174_50, u174_51, u174_52, u174_55, u174_57, u174_58, u174_59, u174_60, u174_61, u174_62, mw_os, wp_ite, mw_sw, Option.toList_some, Option.toList_none, List.cons_append, List.nil_append, true_and, and_true, if_true, if_false, mw_s_, mw_s_i, mw_s_r, mw_s_ii, mw_s_ir, mw_s_ri, mw_s_rr, mw_s_iii, mw_s_iir, mw_s_iri, mw_s_irr, mw_s_rii, mw_s_rir, mw_s_rri, mw_s_rrr, mw_s_iiii, mw_s_iiir, mw_s_iiri, mw_s_iirr, mw_s_irii, mw_s_irir, mw_s_irri, mw_s_irrr, mw_s_riii, mw_s_riir, mw_s_riri, mw_s_rirr, mw_s_rrii, mw_s_rrir, mw_s_rrri, mw_s_rrrr, W166, b2, bi_eq0, OA_x hO, not_true]
      refine MW141 (k := 1) hC hg (by decide) (by decide) (fun M' hl ha hc => ?_)
      simp only [u174_12, Option.toList_some, List.cons_append, List.nil_append]
      exact hQ M' hl ha hc
theorem J_panel (hg : SGOK g) (x1 x2 : Int32) : JO scr 94 167 [.int x1, .int x2] g := by
  rcases ixc x1 (N := 8) (by decide) with ⟨j, hj, rfl⟩ | hx
  · have b1 : decide ((0 : Int32) ≤ nI j ∧ nI j < 8) = true := ib_t hj (by decide)
    have b2 : decide ((0 : Int32) ≤ nI j ∧ nI j ≤ 7) = true := il_t (N := 7) hj (by decide)
    have hu := gU_ok hg
    have hv8 := nI_in8 hj
    have aC : mm_at (vC (gU g)) (nI j) = some (gi (vC (gU g)) (nI j)) := gi_at (by rw [hu.1]; exact hv8)
    have aR : mm_at (vR (gU g)) (nI j) = some (gi (vR (gU g)) (nI j)) := gi_at (by rw [hu.2.1]; exact hv8)
    have aL : mm_at (vL (gU g)) (nI j) = some (gi (vL (gU g)) (nI j)) := gi_at (by rw [hu.2.2.1]; exact hv8)
    have aD : mm_at (vD (gU g)) (nI j) = some (gi (vD (gU g)) (nI j)) := gi_at (by rw [hu.2.2.2.1]; exact hv8)
    rcases six x2 with h6 | hy
    · have d1 : decide ((0 : Int32) ≤ x2 ∧ x2 ≤ 5) = true := by rcases h6 with rfl | rfl | rfl | rfl | rfl | rfl <;> decide
      have hi : inB x2.toInt64 0 5 = true := (inB_eq x2 0 5).trans d1
      refine ⟨.int (if x2 = 0 then gi (vC (gU g)) (nI j) else if x2 = 1 then gi (vR (gU g)) (nI j) else if x2 = 2 then gi (vL (gU g)) (nI j) else if x2 = 3 then gi (vD (gU g)) (nI j) else if x2 = 4 then bi (vRd (gU g) (nI j)) else vU (gU g) (nI j)), g, hg, fun n M Q hC hQ => ?_, fun n M Q hC hQ => ?_⟩
      · have hq := Csame hC hQ
        simp only [e94, u94_0, u94_1, u94_3, u94_6, u94_9, u94_10, u94_11, u94_14, u94_15, u94_16, u94_19, u94_22, u94_23, u94_24, u94_64, u94_65, u94_68, u94_69, u94_70, u94_71, u94_72, u94_75, u94_76, u94_77, u94_78, u94_79, u94_82, u94_83, u94_84, u94_85, u94_86, u94_89, u94_90, u94_91, u94_92, u94_93, u94_94, u94_97, u94_100, u94_101, u94_102, u94_103, u94_106, u94_107, u94_108, u94_110, u94_113, mw_os, wp_ite, mw_sw, Option.toList_some, Option.toList_none, List.cons_append, List.nil_append, true_and, and_true, if_true, if_false, mw_s_, mw_s_i, mw_s_r, mw_s_ii, mw_s_ir, mw_s_ri, mw_s_rr, mw_s_iii, mw_s_iir, mw_s_iri, mw_s_irr, mw_s_rii, mw_s_rir, mw_s_rri, mw_s_rrr, mw_s_iiii, mw_s_iiir, mw_s_iiri, mw_s_iirr, mw_s_irii, mw_s_irir, mw_s_irri, mw_s_irrr, mw_s_riii, mw_s_riir, mw_s_riri, mw_s_rirr, mw_s_rrii, mw_s_rrir, mw_s_rrri, mw_s_rrrr, mm_sto1, mm_clr, mm_isL, List.getElem?_cons_zero, List.getElem?_cons_succ, List.set_cons_zero, List.set_cons_succ, Bool.false_eq_true, W89, b1, bi_eq0, reduceCtorEq, not_false_eq_true, CS_0 hC, NS_x hC, CW73 hC hg, LA_0 (NL hC), LA_1 (NL hC), LA_2 (NL hC), LA_3 (NL hC), LA_c (NL hC), LA_r (NL hC), LA_l (NL hC), LA_d (NL hC), LA_x (NL hC), aC, aR, aL, aD, W31 (NL hC) hu hv8, W32 (NL hC) hu hv8, W95]
        rcases h6 with rfl | rfl | rfl | rfl | rfl | rfl <;> exact hq
      · have hq := Msame hC hQ
        obtain ⟨o, r, hO, _, hR, hA⟩ := MSu hC
        obtain ⟨y, hG, _⟩ := gU_GT hg
        have hN := GT_N hG
        have hP : rP r = panL (gU g) := hR.2.2.2.2.2.1
        have i0 : (40 : Int32) + 4 * nI j + 0 = nI (40 + (4 * j)) := by rw [m4n, c40]; exact nI_add _ 0
        have i1 : (40 : Int32) + 4 * nI j + 1 = nI (40 + (4 * j + 1)) := by rw [m4n, c40]; exact nI_add _ 1
        have i2 : (40 : Int32) + 4 * nI j + 2 = nI (40 + (4 * j + 2)) := by rw [m4n, c40]; exact nI_add _ 2
        have i3 : (40 : Int32) + 4 * nI j + 3 = nI (40 + (4 * j + 3)) := by rw [m4n, c40]; exact nI_add _ 3
        have p0 : mm_at (rowL r) (nI (40 + (4 * j))) = some (gi (vC (gU g)) (nI j)) := (rd_P hR.1 (by omega)).trans (by rw [hP, pan_c _ hj])
        have p1 : mm_at (rowL r) (nI (40 + (4 * j + 1))) = some (gi (vR (gU g)) (nI j)) := (rd_P hR.1 (by omega)).trans (by rw [hP, pan_r _ hj])
        have p2 : mm_at (rowL r) (nI (40 + (4 * j + 2))) = some (gi (vL (gU g)) (nI j)) := (rd_P hR.1 (by omega)).trans (by rw [hP, pan_l _ hj])
        have p3 : mm_at (rowL r) (nI (40 + (4 * j + 3))) = some (gi (vD (gU g)) (nI j)) := (rd_P hR.1 (by omega)).trans (by rw [hP, pan_d _ hj])
        have w4 : ∀ Q : Option Value → mm_M → Prop, Wp scr (n + 39) 169 [.ref 130, .int (nI j)] M Q ↔ Q (some (.int (bi (vRd (gU g) (nI j))))) M := fun Q => by
          have := W169 (scr := scr) (n := n + 35) (Q := Q) hA hR.1 hj
          rw [hP, GT_rd hG hj] at this
          exact this
        have w5 : ∀ Q : Option Value → mm_M → Prop, Wp scr (n + 39) 171 [.ref 130, .int (nI j)] M Q ↔ Q (some (.int (vU (gU g) (nI j)))) M := fun Q => by
          have := W171 (scr := scr) (n := n + 37) (Q := Q) hA hR.1 hj
          rw [hP, hN.2.2.2.2.1 j hj] at this
          exact this
        rcases h6 with rfl | rfl | rfl | rfl | rfl | rfl
        · simp only [e167, u167_0, u167_1, u167_4, u167_7, u167_8, u167_9, u167_12, u167_13, u167_14, u167_15, u167_16, u167_19, u167_22, u167_25, u167_26, u167_28, u167_31, u167_32, u167_33, u167_34, u167_37, u167_38, u167_41, u167_43, u167_44, u167_45, u167_46, u167_47, u167_48, u167_49, u167_50, u167_53, u167_54, u167_55, u167_58, u167_59, u167_62, u167_63, u167_66, u167_69, u167_70, u167_73, u167_74, u167_77, u167_78, u167_81, u167_82, u167_85, mw_os, wp_ite, mw_sw, Option.toList_some, Option.toList_none, List.cons_append, List.nil_append, true_and, and_true, if_true, if_false, mw_s_, mw_s_i, mw_s_r, mw_s_ii, mw_s_ir, mw_s_ri, mw_s_rr, mw_s_iii, mw_s_iir, mw_s_iri, mw_s_irr, mw_s_rii, mw_s_rir, mw_s_rri, mw_s_rrr, mw_s_iiii, mw_s_iiir, mw_s_iiri, mw_s_iirr, mw_s_irii, mw_s_irir, mw_s_irri, mw_s_irrr, mw_s_riii, mw_s_riir, mw_s_riri, mw_s_rirr, mw_s_rrii, mw_s_rrir, mw_s_rrri, mw_s_rrrr, W168, b2, W146, hi, bi_eq0, reduceCtorEq, OA_0 hO, RA_ld hA, not_false_eq_true, i4_0, i0, p0]
          exact hq
        · simp only [e167, u167_0, u167_1, u167_4, u167_7, u167_8, u167_9, u167_12, u167_13, u167_14, u167_15, u167_16, u167_19, u167_22, u167_25, u167_26, u167_28, u167_31, u167_32, u167_33, u167_34, u167_37, u167_38, u167_41, u167_43, u167_44, u167_45, u167_46, u167_47, u167_48, u167_49, u167_50, u167_53, u167_54, u167_55, u167_58, u167_59, u167_62, u167_63, u167_66, u167_69, u167_70, u167_73, u167_74, u167_77, u167_78, u167_81, u167_82, u167_85, mw_os, wp_ite, mw_sw, Option.toList_some, Option.toList_none, List.cons_append, List.nil_append, true_and, and_true, if_true, if_false, mw_s_, mw_s_i, mw_s_r, mw_s_ii, mw_s_ir, mw_s_ri, mw_s_rr, mw_s_iii, mw_s_iir, mw_s_iri, mw_s_irr, mw_s_rii, mw_s_rir, mw_s_rri, mw_s_rrr, mw_s_iiii, mw_s_iiir, mw_s_iiri, mw_s_iirr, mw_s_irii, mw_s_irir, mw_s_irri, mw_s_irrr, mw_s_riii, mw_s_riir, mw_s_riri, mw_s_rirr, mw_s_rrii, mw_s_rrir, mw_s_rrri, mw_s_rrrr, W168, b2, W146, hi, bi_eq0, reduceCtorEq, OA_0 hO, RA_ld hA, not_false_eq_true, i4_1, i1, p1]
          exact hq
        · simp only [e167, u167_0, u167_1, u167_4, u167_7, u167_8, u167_9, u167_12, u167_13, u167_14, u167_15, u167_16, u167_19, u167_22, u167_25, u167_26, u167_28, u167_31, u167_32, u167_33, u167_34, u167_37, u167_38, u167_41, u167_43, u167_44, u167_45, u167_46, u167_47, u167_48, u167_49, u167_50, u167_53, u167_54, u167_55, u167_58, u167_59, u167_62, u167_63, u167_66, u167_69, u167_70, u167_73, u167_74, u167_77, u167_78, u167_81, u167_82, u167_85, mw_os, wp_ite, mw_sw, Option.toList_some, Option.toList_none, List.cons_append, List.nil_append, true_and, and_true, if_true, if_false, mw_s_, mw_s_i, mw_s_r, mw_s_ii, mw_s_ir, mw_s_ri, mw_s_rr, mw_s_iii, mw_s_iir, mw_s_iri, mw_s_irr, mw_s_rii, mw_s_rir, mw_s_rri, mw_s_rrr, mw_s_iiii, mw_s_iiir, mw_s_iiri, mw_s_iirr, mw_s_irii, mw_s_irir, mw_s_irri, mw_s_irrr, mw_s_riii, mw_s_riir, mw_s_riri, mw_s_rirr, mw_s_rrii, mw_s_rrir, mw_s_rrri, mw_s_rrrr, W168, b2, W146, hi, bi_eq0, reduceCtorEq, OA_0 hO, RA_ld hA, not_false_eq_true, i4_2, i2, p2]
          exact hq
        · simp only [e167, u167_0, u167_1, u167_4, u167_7, u167_8, u167_9, u167_12, u167_13, u167_14, u167_15, u167_16, u167_19, u167_22, u167_25, u167_26, u167_28, u167_31, u167_32, u167_33, u167_34, u167_37, u167_38, u167_41, u167_43, u167_44, u167_45, u167_46, u167_47, u167_48, u167_49, u167_50, u167_53, u167_54, u167_55, u167_58, u167_59, u167_62, u167_63, u167_66, u167_69, u167_70, u167_73, u167_74, u167_77, u167_78, u167_81, u167_82, u167_85, mw_os, wp_ite, mw_sw, Option.toList_some, Option.toList_none, List.cons_append, List.nil_append, true_and, and_true, if_true, if_false, mw_s_, mw_s_i, mw_s_r, mw_s_ii, mw_s_ir, mw_s_ri, mw_s_rr, mw_s_iii, mw_s_iir, mw_s_iri, mw_s_irr, mw_s_rii, mw_s_rir, mw_s_rri, mw_s_rrr, mw_s_iiii, mw_s_iiir, mw_s_iiri, mw_s_iirr, mw_s_irii, mw_s_irir, mw_s_irri, mw_s_irrr, mw_s_riii, mw_s_riir, mw_s_riri, mw_s_rirr, mw_s_rrii, mw_s_rrir, mw_s_rrri, mw_s_rrrr, W168, b2, W146, hi, bi_eq0, reduceCtorEq, OA_0 hO, RA_ld hA, not_false_eq_true, i4_3, i3, p3]
          exact hq
        · simp only [e167, u167_0, u167_1, u167_4, u167_7, u167_8, u167_9, u167_12, u167_13, u167_14, u167_15, u167_16, u167_19, u167_22, u167_25, u167_26, u167_28, u167_31, u167_32, u167_33, u167_34, u167_37, u167_38, u167_41, u167_43, u167_44, u167_45, u167_46, u167_47, u167_48, u167_49, u167_50, u167_53, u167_54, u167_55, u167_58, u167_59, u167_62, u167_63, u167_66, u167_69, u167_70, u167_73, u167_74, u167_77, u167_78, u167_81, u167_82, u167_85, mw_os, wp_ite, mw_sw, Option.toList_some, Option.toList_none, List.cons_append, List.nil_append, true_and, and_true, if_true, if_false, mw_s_, mw_s_i, mw_s_r, mw_s_ii, mw_s_ir, mw_s_ri, mw_s_rr, mw_s_iii, mw_s_iir, mw_s_iri, mw_s_irr, mw_s_rii, mw_s_rir, mw_s_rri, mw_s_rrr, mw_s_iiii, mw_s_iiir, mw_s_iiri, mw_s_iirr, mw_s_irii, mw_s_irir, mw_s_irri, mw_s_irrr, mw_s_riii, mw_s_riir, mw_s_riri, mw_s_rirr, mw_s_rrii, mw_s_rrir, mw_s_rrri, mw_s_rrrr, W168, b2, W146, hi, bi_eq0, reduceCtorEq, OA_0 hO, RA_ld hA, not_false_eq_true, not_true, i4_4, w4]
          by_cases hb : vRd (gU g) (nI j) = true
          · simp only [hb, reduceCtorEq, if_false]
            rw [hb] at hq
            exact hq
          · have hb' : vRd (gU g) (nI j) = false := by simpa using hb
            simp only [hb', if_true]
            rw [hb'] at hq
            exact hq
        · simp only [e167, u167_0, u167_1, u167_4, u167_7, u167_8, u167_9, u167_12, u167_13, u167_14, u167_15, u167_16, u167_19, u167_22, u167_25, u167_26, u167_28, u167_31, u167_32, u167_33, u167_34, u167_37, u167_38, u167_41, u167_43, u167_44, u167_45, u167_46, u167_47, u167_48, u167_49, u167_50, u167_53, u167_54, u167_55, u167_58, u167_59, u167_62, u167_63, u167_66, u167_69, u167_70, u167_73, u167_74, u167_77, u167_78, u167_81, u167_82, u167_85, mw_os, wp_ite, mw_sw, Option.toList_some, Option.toList_none, List.cons_append, List.nil_append, true_and, and_true, if_true, if_false, mw_s_, mw_s_i, mw_s_r, mw_s_ii, mw_s_ir, mw_s_ri, mw_s_rr, mw_s_iii, mw_s_iir, mw_s_iri, mw_s_irr, mw_s_rii, mw_s_rir, mw_s_rri, mw_s_rrr, mw_s_iiii, mw_s_iiir, mw_s_iiri, mw_s_iirr, mw_s_irii, mw_s_irir, mw_s_irri, mw_s_irrr, mw_s_riii, mw_s_riir, mw_s_riri, mw_s_rirr, mw_s_rrii, mw_s_rrir, mw_s_rrri, mw_s_rrrr, W168, b2, W146, hi, bi_eq0, reduceCtorEq, OA_0 hO, RA_ld hA, not_false_eq_true, i4_5, e5_4, w5]
          exact hq
    · have d1 : decide ((0 : Int32) ≤ x2 ∧ x2 ≤ 5) = false := il_f (N := 5) (by decide) hy
      have hi : inB x2.toInt64 0 5 = false := (inB_eq x2 0 5).trans d1
      have n0 : ¬ x2 = 0 := ne_of_out (j := 0) hy (by decide) (by decide)
      have n1 : ¬ x2 = 1 := ne_of_out (j := 1) hy (by decide) (by decide)
      have n2 : ¬ x2 = 2 := ne_of_out (j := 2) hy (by decide) (by decide)
      have n3 : ¬ x2 = 3 := ne_of_out (j := 3) hy (by decide) (by decide)
      have n4 : ¬ x2 = 4 := ne_of_out (j := 4) hy (by decide) (by decide)
      have n5 : ¬ x2 = 5 := ne_of_out (j := 5) hy (by decide) (by decide)
      refine ⟨.int (-nI 2), gRf g 2, gRf_ok hg, fun n M Q hC hQ => ?_, fun n M Q hC hQ => ?_⟩
      · simp only [e94, u94_0, u94_1, u94_3, u94_6, u94_9, u94_10, u94_11, u94_14, u94_15, u94_16, u94_19, u94_22, u94_23, u94_24, u94_64, u94_65, u94_68, u94_69, u94_70, u94_71, u94_72, u94_75, u94_76, u94_77, u94_78, u94_79, u94_82, u94_83, u94_84, u94_85, u94_86, u94_89, u94_90, u94_91, u94_92, u94_93, u94_94, u94_97, u94_100, u94_101, u94_102, u94_103, u94_106, u94_107, u94_108, u94_110, mw_os, wp_ite, mw_sw, Option.toList_some, Option.toList_none, List.cons_append, List.nil_append, true_and, and_true, if_true, if_false, mw_s_, mw_s_i, mw_s_r, mw_s_ii, mw_s_ir, mw_s_ri, mw_s_rr, mw_s_iii, mw_s_iir, mw_s_iri, mw_s_irr, mw_s_rii, mw_s_rir, mw_s_rri, mw_s_rrr, mw_s_iiii, mw_s_iiir, mw_s_iiri, mw_s_iirr, mw_s_irii, mw_s_irir, mw_s_irri, mw_s_irrr, mw_s_riii, mw_s_riir, mw_s_riri, mw_s_rirr, mw_s_rrii, mw_s_rrir, mw_s_rrri, mw_s_rrrr, mm_sto1, mm_clr, mm_isL, List.getElem?_cons_zero, List.getElem?_cons_succ, List.set_cons_zero, List.set_cons_succ, Bool.false_eq_true, W89, b1, bi_eq0, reduceCtorEq, CS_0 hC, NS_x hC, CW73 hC hg, CS_x hC, not_false_eq_true, n0, n1, n2, n3, n4, n5]
        refine CW84 (k := 2) hC hg (by decide) (by decide) (fun M' hl ha hc => ?_)
        simp only [u94_113, Option.toList_some, List.cons_append, List.nil_append]
        exact hQ M' hl ha hc
      · obtain ⟨o, r, hO, _, hR, hA⟩ := MSu hC
        simp only [e167, u167_0, u167_1, u167_4, u167_7, u167_8, u167_9, u167_12, u167_13, u167_14, u167_15, u167_16, u167_19, u167_22, u167_25, u167_26, u167_28, u167_32, u167_33, u167_34, u167_37, u167_38, u167_41, u167_43, u167_44, u167_45, u167_46, u167_47, u167_48, u167_49, u167_50, u167_53, u167_54, u167_55, u167_58, u167_59, u167_62, u167_63, u167_66, u167_69, u167_70, u167_73, u167_74, u167_77, u167_78, u167_81, u167_82, u167_85, mw_os, wp_ite, mw_sw, Option.toList_some, Option.toList_none, List.cons_append, List.nil_append, true_and, and_true, if_true, if_false, mw_s_, mw_s_i, mw_s_r, mw_s_ii, mw_s_ir, mw_s_ri, mw_s_rr, mw_s_iii, mw_s_iir, mw_s_iri, mw_s_irr, mw_s_rii, mw_s_rir, mw_s_rri, mw_s_rrr, mw_s_iiii, mw_s_iiir, mw_s_iiri, mw_s_iirr, mw_s_irii, mw_s_irir, mw_s_irri, mw_s_irrr, mw_s_riii, mw_s_riir, mw_s_riri, mw_s_rirr, mw_s_rrii, mw_s_rrir, mw_s_rrri, mw_s_rrrr, W168, b2, W146, hi, bi_eq0, reduceCtorEq, OA_x hO, not_false_eq_true, not_true]
        refine MW141 (k := 2) hC hg (by decide) (by decide) (fun M' hl ha hc => ?_)
        simp only [u167_31, Option.toList_some, List.cons_append, List.nil_append]
        exact hQ M' hl ha hc
  · have b1 : decide ((0 : Int32) ≤ x1 ∧ x1 < 8) = false := ib_f (N := 8) hx
    have b2 : decide ((0 : Int32) ≤ x1 ∧ x1 ≤ 7) = false := il_f (N := 7) (by decide) hx
    refine ⟨.int (-nI 1), gRf g 1, gRf_ok hg, fun n M Q hC hQ => ?_, fun n M Q hC hQ => ?_⟩
    · simp only [e94, u94_0, u94_1, u94_3, u94_6, u94_9, u94_10, u94_11, u94_15, u94_16, u94_19, u94_22, u94_23, u94_24, u94_64, u94_65, u94_68, u94_69, u94_70, u94_71, u94_72, u94_75, u94_76, u94_77, u94_78, u94_79, u94_82, u94_83, u94_84, u94_85, u94_86, u94_89, u94_90, u94_91, u94_92, u94_93, u94_94, u94_97, u94_100, u94_101, u94_102, u94_103, u94_106, u94_107, u94_108, u94_110, u94_113, mw_os, wp_ite, mw_sw, Option.toList_some, Option.toList_none, List.cons_append, List.nil_append, true_and, and_true, if_true, if_false, mw_s_, mw_s_i, mw_s_r, mw_s_ii, mw_s_ir, mw_s_ri, mw_s_rr, mw_s_iii, mw_s_iir, mw_s_iri, mw_s_irr, mw_s_rii, mw_s_rir, mw_s_rri, mw_s_rrr, mw_s_iiii, mw_s_iiir, mw_s_iiri, mw_s_iirr, mw_s_irii, mw_s_irir, mw_s_irri, mw_s_irrr, mw_s_riii, mw_s_riir, mw_s_riri, mw_s_rirr, mw_s_rrii, mw_s_rrir, mw_s_rrri, mw_s_rrrr, W89, b1, bi_eq0, CS_x hC, not_true]
      refine CW84 (k := 1) hC hg (by decide) (by decide) (fun M' hl ha hc => ?_)
      simp only [u94_14, Option.toList_some, List.cons_append, List.nil_append]
      exact hQ M' hl ha hc
    · obtain ⟨o, r, hO, _, hR, hA⟩ := MSu hC
      simp only [e167, u167_0, u167_1, u167_4, u167_7, u167_8, u167_9, u167_13, u167_14, u167_15, u167_16, u167_19, u167_22, u167_25, u167_26, u167_28, u167_31, u167_32, u167_33, u167_34, u167_37, u167_38, u167_41, u167_43, u167_44, u167_45, u167_46, u167_47, u167_48, u167_49, u167_50, u167_53, u167_54, u167_55, u167_58, u167_59, u167_62, u167_63, u167_66, u167_69, u167_70, u167_73, u167_74, u167_77, u167_78, u167_81, u167_82, u167_85, mw_os, wp_ite, mw_sw, Option.toList_some, Option.toList_none, List.cons_append, List.nil_append, true_and, and_true, if_true, if_false, mw_s_, mw_s_i, mw_s_r, mw_s_ii, mw_s_ir, mw_s_ri, mw_s_rr, mw_s_iii, mw_s_iir, mw_s_iri, mw_s_irr, mw_s_rii, mw_s_rir, mw_s_rri, mw_s_rrr, mw_s_iiii, mw_s_iiir, mw_s_iiri, mw_s_iirr, mw_s_irii, mw_s_irir, mw_s_irri, mw_s_irrr, mw_s_riii, mw_s_riir, mw_s_riri, mw_s_rirr, mw_s_rrii, mw_s_rrir, mw_s_rrri, mw_s_rrrr, W168, b2, bi_eq0, OA_x hO, not_true]
      refine MW141 (k := 1) hC hg (by decide) (by decide) (fun M' hl ha hc => ?_)
      simp only [u167_12, Option.toList_some, List.cons_append, List.nil_append]
      exact hQ M' hl ha hc
end O2
