/-! maps by lot -/
def nz (z : Int32) : Int32 := z * 1664525 + 1013904223
def drN (z : Int32) (m : Nat) : Nat := z.toBitVec.toNat % 2 ^ 31 / 256 % m
theorem dr_eq (z : Int32) {m : Nat} (h1 : 1 ≤ m) (h2 : m < 2 ^ 31) : (z &&& 2147483647) / 256 - (z &&& 2147483647) / 256 / nI m * nI m = nI (drN z m) := by
  rw [pk_and z (m := 2147483647) 31 (by decide)]
  have hlt : z.toBitVec.toNat % 2 ^ 31 < 2 ^ 31 := Nat.mod_lt _ (by decide)
  rw [show nI (z.toBitVec.toNat % 2 ^ 31) / 256 = nI (z.toBitVec.toNat % 2 ^ 31 / 256) from pk_div (d := 256) hlt (by omega) (by omega)]
  exact pk_rem (Nat.lt_of_le_of_lt (Nat.div_le_self _ _) hlt) h1 h2
/-- how many lines, and which one -/
def wN (u : LV) : Nat := (vW u).toNatClampNeg
def hN (u : LV) : Nat := (vT u).toNatClampNeg
def lnL (u : LV) (k : Nat) : Nat := if k < wN u - 1 then k + 1 else 4
def lnM (u : LV) : Nat := wN u - 1 + (hN u - 1)
theorem wh_eq {y : tbE} {u : LV} (h : GT y u) : vW u = nI (wN u) ∧ vT u = nI (hN u) ∧ 1 ≤ wN u ∧ wN u ≤ 4 ∧ 1 ≤ hN u ∧ hN u ≤ 2 ∧ rk y.1 = wN u + hN u := by
  obtain ⟨e1, e2, a1, a2, a3, a4⟩ := GT_wt h
  unfold wN hN
  rw [e1, e2, nI_clamp (by omega), nI_clamp (by omega)]
  exact ⟨rfl, rfl, a1, a2, a3, a4, rfl⟩
theorem ln_has {y : tbE} {u : LV} {k : Nat} (h : GT y u) (hk : k < lnM u) : 1 ≤ lnL u k ∧ lnL u k ≤ 4 ∧ hasL u (nI (lnL u k)) = true := by
  obtain ⟨e1, e2, a1, a2, a3, a4, _⟩ := wh_eq h
  unfold lnM at hk
  unfold lnL
  by_cases hc : k < wN u - 1
  · rw [if_pos hc]
    refine ⟨by omega, by omega, ?_⟩
    unfold hasL
    rw [if_neg (fun z => by have := (nI_eq (a := k + 1) (b := 4) (by omega) (by decide)).mp z; omega), e1]
    exact decide_eq_true ⟨nI_le (a := 1) (by omega) (by omega), nI_lt (by omega) (by omega)⟩
  · rw [if_neg hc]
    refine ⟨by omega, by omega, ?_⟩
    unfold hasL
    rw [if_pos (show nI 4 = 4 from rfl), e2, show hN u = 2 by omega]
    rfl
def shB (u : LV) : Bool := decide (vW u = 1 ∧ vT u = 1)
def ltL (h : HV) (z : Int32) : Nat := lnL (hU h) (drN (nz z) (lnM (hU h)))
def ltW (z : Int32) : Nat := drN (nz (nz z)) 4
def ltF (s : SV) : Nat → HV → Int32 → Nat → HV × Int32 × Nat
  | 0, h, z, e => (h, z, e)
  | f + 1, h, z, e => if shB (hU h) = true then (h, z, e) else ltF s f (hF h (nI (ltL h z)) (nI (ltW z))) (nz (nz z)) (e + tn s (fC (hU h) (nI (ltL h z)) (nI (ltW z))))
section LT
variable {scr : List Int32} {n : Nat} {M M0 : mm_M} {Q : Option Value → mm_M → Prop} {g : SG} {h : HV} {z dd : Int32} {m : Nat}
def DR (M : mm_M) (z d : Int32) : Prop := M[126]? = some (dr_o z d)
theorem DR_0 (hd : DR M z dd) : mm_fld (mc_X scr) M (.ref 126) 0 0 = some (.int z) := by
  have h' : M[126]? = some (dr_o z dd) := hd
  simp only [mm_fld, h', dr_o]; rfl
theorem DR_1 (hd : DR M z dd) : mm_fld (mc_X scr) M (.ref 126) 0 1 = some (.int dd) := by
  have h' : M[126]? = some (dr_o z dd) := hd
  simp only [mm_fld, h', dr_o]; rfl
theorem DR_x (hd : DR M z dd) : mw_r M 126 0 ↔ True := iff_true_intro ⟨_, hd⟩
theorem DR_p0 {x : Int32} (hd : DR M z dd) : mm_put mc_fty M (.ref 126) (.int x) 0 0 = some (M.set 126 (dr_o x dd)) := by
  have h' : M[126]? = some (dr_o z dd) := hd
  simp only [mm_put, h', dr_o]; rfl
theorem DR_p1 {x : Int32} (hd : DR M z dd) : mm_put mc_fty M (.ref 126) (.int x) 0 1 = some (M.set 126 (dr_o z x)) := by
  have h' : M[126]? = some (dr_o z dd) := hd
  simp only [mm_put, h', dr_o]; rfl
theorem DR_set {x y : Int32} (hd : DR M z dd) : DR (M.set 126 (dr_o x y)) x y := List.getElem?_set_self (List.getElem?_eq_some_iff.mp hd).1
theorem CS_dr {x y : Int32} (hc : CS M g) (hg : SGOK g) : CS (M.set 126 (dr_o x y)) g := by
  have hl : (M.set 126 (dr_o x y)).length = M.length := List.length_set
  obtain ⟨⟨a1, a2⟩, a3, a4, a5, ⟨τ, a6, a7⟩, ⟨a8, a9⟩, ⟨x', y', a10⟩, a11, a12⟩ := hc
  exact ⟨⟨hl.trans a1, (List.getElem?_set_ne (by decide)).trans a2⟩, SH_kp a3 (Ag_set (by omega)) hg.1.2.2.1, SH_kp a4 (Ag_set (by omega)) hg.2.1.2.2.1, TR_kp a5 (Ag_set (by omega)), ⟨τ, a6, QA_keep a7 (fun j hj => List.getElem?_set_ne (by omega))⟩, ⟨(List.getElem?_set_ne (by decide)).trans a8, (List.getElem?_set_ne (by decide)).trans a9⟩, ⟨x, y, List.getElem?_set_self (by omega)⟩, (List.getElem?_set_ne (by decide)).trans a11, (List.getElem?_set_ne (by decide)).trans a12⟩
theorem CTh_dr {x y : Int32} (hc : CTh M0 M g h) (hg : SGOK g) (hd : h.2.1 ≤ 4) : CTh M0 (M.set 126 (dr_o x y)) g h := ⟨List.length_set.trans hc.1, Ag_tr hc.2.1 (Ag_set (by omega)), CS_dr hc.2.2.1 hg, fun i hi => LA_keep (hc.2.2.2 i hi) (fun j hj => List.getElem?_set_ne (by unfold la; omega))⟩
theorem W15 (hd : DR M z dd) (h1 : 1 ≤ m) (h2 : m < 2 ^ 31) : Wp scr (n + 1) 15 [.ref 126, .int (nI m)] M Q ↔ Q (some (.int (nI (drN (nz z) m)))) (M.set 126 (dr_o (nz z) dd)) := by
  have c1 : ((1 : Int32) ≤ nI m) ↔ True := iff_true_intro (nI_le (a := 1) h1 h2)
  have c2 : ((256 : Int32) = 0) ↔ False := by decide
  have c3 : (nI m = 0) ↔ False := iff_false_intro (nI_ne0 h1 h2)
  have p := DR_p0 (x := nz z) hd
  have e := dr_eq (nz z) h1 h2
  have ez : z * 1664525 + 1013904223 = nz z := rfl
  simp only [e15, u15_0, u15_1, u15_2, u15_5, u15_7, u15_8, u15_10, u15_11, u15_14, u15_15, u15_16, u15_19, u15_20, u15_23, u15_24, u15_27, u15_29, u15_30, u15_33, u15_34, u15_35, u15_36, mw_os, wp_ite, mw_sw, Option.toList_some, Option.toList_none, List.cons_append, List.nil_append, true_and, and_true, if_true, if_false, mw_s_, mw_s_i, mw_s_r, mw_s_ii, mw_s_ir, mw_s_ri, mw_s_rr, mw_s_iii, mw_s_iir, mw_s_iri, mw_s_irr, mw_s_rii, mw_s_rir, mw_s_rri, mw_s_rrr, mw_s_iiii, mw_s_iiir, mw_s_iiri, mw_s_iirr, mw_s_irii, mw_s_irir, mw_s_irri, mw_s_irrr, mw_s_riii, mw_s_riir, mw_s_riri, mw_s_rirr, mw_s_rrii, mw_s_rrir, mw_s_rrri, mw_s_rrrr, DR_0 hd, ez, p, DR_0 (DR_set hd), c1, c2, c3, e]
theorem W218 {b : _} {σ : St} (hO : OA M (oG g, b, σ, z)) (h1 : 1 ≤ m) (h2 : m < 2 ^ 31) : Wp scr (n + 1) 218 [.ref 129, .int (nI m)] M Q ↔ Q (some (.int (nI (drN (nz z) m)))) (so M (oG g, b, σ, nz z)) := by
  have c2 : ((256 : Int32) = 0) ↔ False := by decide
  have c3 : (nI m = 0) ↔ False := iff_false_intro (nI_ne0 h1 h2)
  have f : mm_fld (mc_X scr) M (.ref 129) 6 18 = some (.int z) := OA_18 hO
  have p : mm_put mc_fty M (.ref 129) (.int (nz z)) 6 18 = some (so M (oG g, b, σ, nz z)) := OA_pu18 hO
  have f2 : mm_fld (mc_X scr) (so M (oG g, b, σ, nz z)) (.ref 129) 6 18 = some (.int (nz z)) := by
    have hO2 : OA (so M (oG g, b, σ, nz z)) (oG g, b, σ, nz z) := so_OA hO
    generalize nz z = z2 at hO2 ⊢
    exact OA_18 hO2
  have e := dr_eq (nz z) h1 h2
  have ez : z * 1664525 + 1013904223 = nz z := rfl
  simp only [e218, u218_0, u218_1, u218_2, u218_5, u218_8, u218_9, u218_12, u218_13, u218_16, u218_17, u218_20, u218_23, u218_24, u218_27, u218_28, u218_29, u218_30, mw_os, wp_ite, mw_sw, Option.toList_some, Option.toList_none, List.cons_append, List.nil_append, true_and, and_true, if_true, if_false, mw_s_, mw_s_i, mw_s_r, mw_s_ii, mw_s_ir, mw_s_ri, mw_s_rr, mw_s_iii, mw_s_iir, mw_s_iri, mw_s_irr, mw_s_rii, mw_s_rir, mw_s_rri, mw_s_rrr, mw_s_iiii, mw_s_iiir, mw_s_iiri, mw_s_iirr, mw_s_irii, mw_s_irir, mw_s_irri, mw_s_irrr, mw_s_riii, mw_s_riir, mw_s_riri, mw_s_rirr, mw_s_rrii, mw_s_rrir, mw_s_rrri, mw_s_rrrr, f, ez, p, f2, c2, c3, e]
theorem drN_lt {m : Nat} (h : 1 ≤ m) : drN z m < m := Nat.mod_lt _ h
theorem C134l (hg : SGOK g) : ∀ (f i : Nat) (h : HV) (z : Int32) (e : Nat) (M : mm_M), (∃ y, GT y (hU h) ∧ rk y.1 ≤ f + 2) → i + f ≤ 4 → e + 120 * f < 2 ^ 30 → CTh M0 M g h → Th (gN g) h → DR M z (nI h.2.1) → (∀ M', CTh M0 M' g (ltF (gN g).1 f h z e).1 → Th (gN g) (ltF (gN g).1 f h z e).1 → DR M' (ltF (gN g).1 f h z e).2.1 (nI (ltF (gN g).1 f h z e).1.2.1) → Q (some (.int (nI (ltF (gN g).1 f h z e).2.2))) M') → ∀ l3 l4 l5, wp scr (n + 4) mb_134 18 [some (.ref 0), some (.int (nI e)), some (.int (nI i)), l3, l4, l5] [] M Q := by
  have z10 : ((1 : Int32) = 0) ↔ False := by decide
  intro f
  induction f with
  | zero =>
    intro i h z e M hy hi he hc ht hd hQ l3 l4 l5
    obtain ⟨y, hG, hr⟩ := hy
    obtain ⟨e1, e2, a1, a2, a3, a4, a5⟩ := wh_eq hG
    have hC := hc.2.2.1
    have hd4 := ht.1.2.2.1
    have hLA := hc.2.2.2 h.2.1 (Nat.le_refl _)
    have hs : vW (hU h) = 1 ∧ vT (hU h) = 1 := ⟨by rw [e1, show wN (hU h) = 1 by omega]; rfl, by rw [e2, show hN (hU h) = 1 by omega]; rfl⟩
    have w39 : ∀ Q : Option Value → mm_M → Prop, Wp scr (n + 4) 39 [.ref (la 1 h.2.1)] M Q ↔ Q (some (.int 1)) M := fun Q => by
      have := W39 (scr := scr) (n := n + 3) (Q := Q) hLA
      rw [if_pos (show vW (h.2.2 h.2.1) = 1 ∧ vT (h.2.2 h.2.1) = 1 from hs)] at this
      exact this
    refine u134_18.mpr ?_
    by_cases h4 : i < 4
    · simp only [u134_19, u134_20, u134_23, u134_24, u134_27, u134_30, u134_31, u134_34, u134_37, u134_38, u134_41, u134_146, u134_147, mw_os, wp_ite, mw_sw, Option.toList_some, Option.toList_none, List.cons_append, List.nil_append, true_and, and_true, if_true, if_false, mw_s_, mw_s_i, mw_s_r, mw_s_ii, mw_s_ir, mw_s_ri, mw_s_rr, mw_s_iii, mw_s_iir, mw_s_iri, mw_s_irr, mw_s_rii, mw_s_rir, mw_s_rri, mw_s_rrr, mw_s_iiii, mw_s_iiir, mw_s_iiri, mw_s_iirr, mw_s_irii, mw_s_irir, mw_s_irri, mw_s_irrr, mw_s_riii, mw_s_riir, mw_s_riri, mw_s_rirr, mw_s_rrii, mw_s_rrir, mw_s_rrri, mw_s_rrrr, mm_sto1, mm_clr, mm_isL, List.getElem?_cons_zero, List.getElem?_cons_succ, List.set_cons_zero, List.set_cons_succ, Bool.false_eq_true, nle4 h4, CS_0 hC, CS_5 hC, NS_0 hC, DR_1 hd, NS_l hC (show h.2.1 < 5 by omega), LA_x hLA, w39, z10]
      exact hQ M hc ht hd
    · have : i = 4 := by omega
      subst this
      simp only [u134_19, u134_20, u134_146, u134_147, mw_os, wp_ite, mw_sw, Option.toList_some, Option.toList_none, List.cons_append, List.nil_append, true_and, and_true, if_true, if_false, mw_s_, mw_s_i, mw_s_r, mw_s_ii, mw_s_ir, mw_s_ri, mw_s_rr, mw_s_iii, mw_s_iir, mw_s_iri, mw_s_irr, mw_s_rii, mw_s_rir, mw_s_rri, mw_s_rrr, mw_s_iiii, mw_s_iiir, mw_s_iiri, mw_s_iirr, mw_s_irii, mw_s_irir, mw_s_irri, mw_s_irrr, mw_s_riii, mw_s_riir, mw_s_riri, mw_s_rirr, mw_s_rrii, mw_s_rrir, mw_s_rrri, mw_s_rrrr, mm_sto1, mm_clr, mm_isL, List.getElem?_cons_zero, List.getElem?_cons_succ, List.set_cons_zero, List.set_cons_succ, Bool.false_eq_true, nle4e]
      exact hQ M hc ht hd
  | succ f ih =>
    intro i h z e M hy hi he hc ht hd hQ l3 l4 l5
    obtain ⟨y, hG, hr⟩ := hy
    obtain ⟨e1, e2, a1, a2, a3, a4, a5⟩ := wh_eq hG
    have hC := hc.2.2.1
    have hd4 := ht.1.2.2.1
    have hLA := hc.2.2.2 h.2.1 (Nat.le_refl _)
    rw [ltF] at hQ
    refine u134_18.mpr ?_
    by_cases hs : vW (hU h) = 1 ∧ vT (hU h) = 1
    · rw [if_pos (show shB (hU h) = true from decide_eq_true hs)] at hQ
      have w39 : ∀ Q : Option Value → mm_M → Prop, Wp scr (n + 4) 39 [.ref (la 1 h.2.1)] M Q ↔ Q (some (.int 1)) M := fun Q => by
        have := W39 (scr := scr) (n := n + 3) (Q := Q) hLA
        rw [if_pos (show vW (h.2.2 h.2.1) = 1 ∧ vT (h.2.2 h.2.1) = 1 from hs)] at this
        exact this
      simp only [u134_19, u134_20, u134_23, u134_24, u134_27, u134_30, u134_31, u134_34, u134_37, u134_38, u134_41, u134_146, u134_147, mw_os, wp_ite, mw_sw, Option.toList_some, Option.toList_none, List.cons_append, List.nil_append, true_and, and_true, if_true, if_false, mw_s_, mw_s_i, mw_s_r, mw_s_ii, mw_s_ir, mw_s_ri, mw_s_rr, mw_s_iii, mw_s_iir, mw_s_iri, mw_s_irr, mw_s_rii, mw_s_rir, mw_s_rri, mw_s_rrr, mw_s_iiii, mw_s_iiir, mw_s_iiri, mw_s_iirr, mw_s_irii, mw_s_irir, mw_s_irri, mw_s_irrr, mw_s_riii, mw_s_riir, mw_s_riri, mw_s_rirr, mw_s_rrii, mw_s_rrir, mw_s_rrri, mw_s_rrrr, mm_sto1, mm_clr, mm_isL, List.getElem?_cons_zero, List.getElem?_cons_succ, List.set_cons_zero, List.set_cons_succ, Bool.false_eq_true, nle4 (show i < 4 by omega), CS_0 hC, CS_5 hC, NS_0 hC, DR_1 hd, NS_l hC (show h.2.1 < 5 by omega), LA_x hLA, w39, z10]
      exact hQ M hc ht hd
    · rw [if_neg (show ¬ shB (hU h) = true from fun z => hs (of_decide_eq_true z))] at hQ
      have w39 : ∀ Q : Option Value → mm_M → Prop, Wp scr (n + 4) 39 [.ref (la 1 h.2.1)] M Q ↔ Q (some (.int 0)) M := fun Q => by
        have := W39 (scr := scr) (n := n + 3) (Q := Q) hLA
        rw [if_neg (show ¬ (vW (h.2.2 h.2.1) = 1 ∧ vT (h.2.2 h.2.1) = 1) from hs)] at this
        exact this
      have hm1 : 1 ≤ lnM (hU h) := by
        unfold lnM
        by_cases hc1 : wN (hU h) = 1
        · by_cases hc2 : hN (hU h) = 1
          · exact absurd ⟨by rw [e1, hc1]; rfl, by rw [e2, hc2]; rfl⟩ hs
          · omega
        · omega
      have hm2 : lnM (hU h) ≤ 4 := by unfold lnM; omega
      have w40 : ∀ Q : Option Value → mm_M → Prop, Wp scr (n + 4) 40 [.ref (la 1 h.2.1)] M Q ↔ Q (some (.int (nI (lnM (hU h))))) M := fun Q => by
        have := W40 (scr := scr) (n := n + 3) (Q := Q) hLA
        rw [show vW (h.2.2 h.2.1) = nI (wN (hU h)) from e1, show vT (h.2.2 h.2.1) = nI (hN (hU h)) from e2, show nI (wN (hU h)) - 1 = nI (wN (hU h) - 1) from pk_sub (b := 1) a1, nI_add, show nI (wN (hU h) - 1 + hN (hU h)) - 1 = nI (wN (hU h) - 1 + hN (hU h) - 1) from pk_sub (b := 1) (by omega), show wN (hU h) - 1 + hN (hU h) - 1 = lnM (hU h) by unfold lnM; omega] at this
        exact this
      have hdk := drN_lt (z := nz z) hm1
      obtain ⟨q1, q2, q3⟩ := ln_has hG hdk
      have hd1 : DR (M.set 126 (dr_o (nz z) (nI h.2.1))) (nz z) (nI h.2.1) := DR_set hd
      have hc1 := CTh_dr (x := nz z) (y := nI h.2.1) hc hg hd4
      have w15 : ∀ Q : Option Value → mm_M → Prop, Wp scr (n + 4) 15 [.ref 126, .int (nI (lnM (hU h)))] M Q ↔ Q (some (.int (nI (drN (nz z) (lnM (hU h)))))) (M.set 126 (dr_o (nz z) (nI h.2.1))) := fun Q => W15 hd hm1 (by omega)
      generalize M.set 126 (dr_o (nz z) (nI h.2.1)) = M1 at hd1 hc1 w15
      have hLA1 := hc1.2.2.2 h.2.1 (Nat.le_refl _)
      have w41 : ∀ Q : Option Value → mm_M → Prop, Wp scr (n + 4) 41 [.ref (la 1 h.2.1), .int (nI (drN (nz z) (lnM (hU h))))] M1 Q ↔ Q (some (.int (nI (ltL h z)))) M1 := fun Q => by
        have := W41 (scr := scr) (n := n + 3) (Q := Q) (x1 := nI (drN (nz z) (lnM (hU h)))) hLA1
        rw [show vW (h.2.2 h.2.1) = nI (wN (hU h)) from e1, show nI (wN (hU h)) - 1 = nI (wN (hU h) - 1) from pk_sub (b := 1) a1, nI_1] at this
        unfold ltL lnL
        by_cases hk : drN (nz z) (lnM (hU h)) < wN (hU h) - 1
        · rw [if_neg (nI_ge hk (by omega))] at this
          rw [if_pos hk]
          exact this
        · rw [if_pos (nI_le (by omega) (by omega))] at this
          rw [if_neg hk]
          exact this
      have hd2 : DR (M1.set 126 (dr_o (nz (nz z)) (nI h.2.1))) (nz (nz z)) (nI h.2.1) := DR_set hd1
      have hc2 := CTh_dr (x := nz (nz z)) (y := nI h.2.1) hc1 hg hd4
      have w15' : ∀ Q : Option Value → mm_M → Prop, Wp scr (n + 4) 15 [.ref 126, .int 4] M1 Q ↔ Q (some (.int (nI (ltW z)))) (M1.set 126 (dr_o (nz (nz z)) (nI h.2.1))) := fun Q => W15 (m := 4) hd1 (by omega) (by omega)
      generalize M1.set 126 (dr_o (nz (nz z)) (nI h.2.1)) = M2 at hd2 hc2 w15'
      have hC1 := hc1.2.2.1
      have hC2 := hc2.2.2.1
      have hw4 : ltW z < 4 := drN_lt (by omega)
      have w71 : ∀ Q : Option Value → mm_M → Prop, Wp scr (n + 4) 71 [.ref 1, .int (nI h.2.1), .int (nI (ltL h z)), .int (nI (ltW z))] M2 Q ↔ Q (some (.int (tfE (gN g).1 (fC (hU h) (nI (ltL h z)) (nI (ltW z)))))) (pl M2 (la 1 (h.2.1 + 1)) (fC (hU h) (nI (ltL h z)) (nI (ltW z)))) := fun Q => CT71 hc2 hg ht q1 q2 q3 hw4
      have hc3 := CTh_F hc2 hg ht q1 q2 q3 hw4
      have hd5 := (fold_at ht.1 q1 q2 q3 hw4).1
      have hd3 : DR (pl M2 (la 1 (h.2.1 + 1)) (fC (hU h) (nI (ltL h z)) (nI (ltW z)))) (nz (nz z)) (nI h.2.1) := (pl_out (by unfold la; omega)).trans hd2
      change CTh M0 (pl M2 (la 1 (h.2.1 + 1)) (fC (hU h) (nI (ltL h z)) (nI (ltW z)))) g _ at hc3
      generalize pl M2 (la 1 (h.2.1 + 1)) (fC (hU h) (nI (ltL h z)) (nI (ltW z))) = M3 at hd3 hc3 w71
      have hC3 := hc3.2.2.1
      obtain ⟨t1, t2⟩ := tn_eq (x := fC (hU h) (nI (ltL h z)) (nI (ltW z))) (F9 hg)
      have p1 := DR_p1 (x := nI (h.2.1 + 1)) hd3
      have hl3 : hasL (hU h) (nI (ltL h z)) = true := q3
      simp only [u134_19, u134_20, u134_23, u134_24, u134_27, u134_30, u134_31, u134_34, u134_37, u134_38, u134_41, u134_44, u134_45, u134_48, u134_51, u134_52, u134_55, u134_58, u134_59, u134_60, u134_61, u134_62, u134_65, u134_66, u134_69, u134_72, u134_75, u134_77, u134_78, u134_81, u134_82, u134_85, u134_87, u134_88, u134_91, u134_92, u134_95, u134_98, u134_100, u134_103, u134_106, u134_107, u134_108, u134_111, u134_112, u134_115, u134_118, u134_120, u134_122, u134_125, u134_126, u134_127, u134_128, u134_131, u134_132, u134_135, u134_136, u134_137, u134_140, u134_143, mw_os, wp_ite, mw_sw, Option.toList_some, Option.toList_none, List.cons_append, List.nil_append, true_and, and_true, if_true, if_false, mw_s_, mw_s_i, mw_s_r, mw_s_ii, mw_s_ir, mw_s_ri, mw_s_rr, mw_s_iii, mw_s_iir, mw_s_iri, mw_s_irr, mw_s_rii, mw_s_rir, mw_s_rri, mw_s_rrr, mw_s_iiii, mw_s_iiir, mw_s_iiri, mw_s_iirr, mw_s_irii, mw_s_irir, mw_s_irri, mw_s_irrr, mw_s_riii, mw_s_riir, mw_s_riri, mw_s_rirr, mw_s_rrii, mw_s_rrir, mw_s_rrri, mw_s_rrrr, mm_sto1, mm_clr, mm_isL, List.getElem?_cons_zero, List.getElem?_cons_succ, List.set_cons_zero, List.set_cons_succ, Bool.false_eq_true, nle4 (show i < 4 by omega), CS_0 hC, CS_5 hC, NS_0 hC, DR_1 hd, DR_x hd, NS_l hC (show h.2.1 < 5 by omega), LA_x hLA, w39, w40, w15, LA_x hLA1, w41, CS_5 hC1, DR_x hd1, w15', CS_0 hC2, CS_5 hC2, DR_1 hd2, NS_x hC2, CT69 hc2 ht.1, hl3, bi_eq0, reduceCtorEq, w71, t1, nI_add, CS_5 hC3, DR_1 hd3, nI_1, p1]
      obtain ⟨_, _, _, kk⟩ := GT_L hG q1 q2 q3
      obtain ⟨y2, hy2, _, hr2, _⟩ := kk (ltW z) hw4
      exact ih (i + 1) (hF h (nI (ltL h z)) (nI (ltW z))) (nz (nz z)) _ _ ⟨y2, by rw [hF_U]; exact hy2, by omega⟩ (by omega) (by omega) (CTh_dr hc3 hg (by show h.2.1 + 1 ≤ 4; omega)) (Th_F ht q1 q2 q3 hw4) (DR_set hd3) hQ _ _ _
theorem M217l (hg : SGOK g) {b : _} {σ : St} : ∀ (f : Nat) (h : HV) (z : Int32) (e : Nat) (M : mm_M), (∃ y, GT y (hU h) ∧ rk y.1 ≤ f + 2) → e + 120 * f < 2 ^ 30 → MTh M0 M g 0 h → Th (gN g) h → OA M (oG g, b, σ, z) → (∀ M', MTh M0 M' g 0 (ltF (gN g).1 f h z e).1 → Th (gN g) (ltF (gN g).1 f h z e).1 → OA M' (oG g, b, σ, (ltF (gN g).1 f h z e).2.1) → Q (some (.int (nI (ltF (gN g).1 f h z e).2.2))) M') → ∀ l2 l3 l4, wp scr (n + 4) mb_217 15 [some (.ref 129), some (.int (nI e)), l2, l3, l4] [] M Q := by
  have z10 : ((1 : Int32) = 0) ↔ False := by decide
  intro f
  induction f with
  | zero =>
    intro h z e M hy he hm ht hO hQ l2 l3 l4
    obtain ⟨y, hG, hr⟩ := hy
    obtain ⟨e1, e2, a1, a2, a3, a4, a5⟩ := wh_eq hG
    have hs : vW (hU h) = 1 ∧ vT (hU h) = 1 := ⟨by rw [e1, show wN (hU h) = 1 by omega]; rfl, by rw [e2, show hN (hU h) = 1 by omega]; rfl⟩
    obtain ⟨r, hR, hA⟩ := hm.2.2.2
    have d0 : mm_lda M 132 0 = some (.ref 133) := DPk (k := 0) hm.2.2.1 (by decide)
    have w189 : ∀ Q : Option Value → mm_M → Prop, Wp scr (n + 4) 189 [.ref 133] M Q ↔ Q (some (.int (bi true))) M := fun Q => by
      have := W189 (scr := scr) (n := n + 2) (Q := Q) hA hR.1
      rw [show rP r = panL (hU h) from hR.2.2.2.2.2.1, GT_shut hG, decide_eq_true hs] at this
      exact this
    refine u217_15.mpr ?_
    simp only [u217_16, u217_19, u217_20, u217_21, u217_24, u217_107, u217_108, mw_os, wp_ite, mw_sw, Option.toList_some, Option.toList_none, List.cons_append, List.nil_append, true_and, and_true, if_true, if_false, mw_s_, mw_s_i, mw_s_r, mw_s_ii, mw_s_ir, mw_s_ri, mw_s_rr, mw_s_iii, mw_s_iir, mw_s_iri, mw_s_irr, mw_s_rii, mw_s_rir, mw_s_rri, mw_s_rrr, mw_s_iiii, mw_s_iiir, mw_s_iiri, mw_s_iirr, mw_s_irii, mw_s_irir, mw_s_irri, mw_s_irrr, mw_s_riii, mw_s_riir, mw_s_riri, mw_s_rirr, mw_s_rrii, mw_s_rrir, mw_s_rrri, mw_s_rrrr, mm_sto1, mm_clr, mm_isL, List.getElem?_cons_zero, List.getElem?_cons_succ, List.set_cons_zero, List.set_cons_succ, Bool.false_eq_true, OA_2 hO, d0, w189, bi_eq0, reduceCtorEq, not_false_eq_true]
    exact hQ M hm ht hO
  | succ f ih =>
    intro h z e M hy he hm ht hO hQ l2 l3 l4
    obtain ⟨y, hG, hr⟩ := hy
    obtain ⟨e1, e2, a1, a2, a3, a4, a5⟩ := wh_eq hG
    obtain ⟨r, hR, hA⟩ := hm.2.2.2
    have d0 : mm_lda M 132 0 = some (.ref 133) := DPk (k := 0) hm.2.2.1 (by decide)
    have w189 : ∀ Q : Option Value → mm_M → Prop, Wp scr (n + 4) 189 [.ref 133] M Q ↔ Q (some (.int (bi (shB (hU h))))) M := fun Q => by
      have := W189 (scr := scr) (n := n + 2) (Q := Q) hA hR.1
      rw [show rP r = panL (hU h) from hR.2.2.2.2.2.1, GT_shut hG] at this
      exact this
    rw [ltF] at hQ
    refine u217_15.mpr ?_
    cases hs : shB (hU h)
    · rw [hs, if_neg (by decide)] at hQ
      have hs' : ¬ (vW (hU h) = 1 ∧ vT (hU h) = 1) := of_decide_eq_false hs
      have hm1 : 1 ≤ lnM (hU h) := by
        unfold lnM
        by_cases hc1 : wN (hU h) = 1
        · by_cases hc2 : hN (hU h) = 1
          · exact absurd ⟨by rw [e1, hc1]; rfl, by rw [e2, hc2]; rfl⟩ hs'
          · omega
        · omega
      have hm2 : lnM (hU h) ≤ 4 := by unfold lnM; omega
      have hdk := drN_lt (z := nz z) hm1
      obtain ⟨q1, q2, q3⟩ := ln_has hG hdk
      have hw4 : ltW z < 4 := drN_lt (by omega)
      have w0 : ∀ (Mx : mm_M) (Q : Option Value → mm_M → Prop), RA Mx 133 (rowL r) → (Wp scr (n + 4) 151 [.ref 133, .int 0] Mx Q ↔ Q (some (.int (nI (wN (hU h))))) Mx) := fun Mx Q hAx => by rw [← e1, ← (GT_N hG).2.1, show panL (hU h) = rP r from hR.2.2.2.2.2.1.symm]; exact W151 (j := 0) hAx hR.1 (by decide)
      have w1 : ∀ Q : Option Value → mm_M → Prop, Wp scr (n + 4) 151 [.ref 133, .int 1] M Q ↔ Q (some (.int (nI (hN (hU h))))) M := fun Q => by rw [← e2, ← (GT_N hG).2.2.1, show panL (hU h) = rP r from hR.2.2.2.2.2.1.symm]; exact W151 (j := 1) hA hR.1 (by decide)
      have s1 : nI (wN (hU h)) - 1 = nI (wN (hU h) - 1) := pk_sub (b := 1) a1
      have s2 : nI (hN (hU h)) - 1 = nI (hN (hU h) - 1) := pk_sub (b := 1) a3
      have s3 : nI (wN (hU h) - 1 + (hN (hU h) - 1)) = nI (lnM (hU h)) := rfl
      have hm1' := MTh_so (x := (b, σ, nz z)) hm
      have hO1 : OA (so M (oG g, b, σ, nz z)) (oG g, b, σ, nz z) := so_OA hO
      have hA1 : RA (so M (oG g, b, σ, nz z)) 133 (rowL r) := RA_so hA (by decide)
      have w218 : ∀ Q : Option Value → mm_M → Prop, Wp scr (n + 4) 218 [.ref 129, .int (nI (lnM (hU h)))] M Q ↔ Q (some (.int (nI (drN (nz z) (lnM (hU h)))))) (so M (oG g, b, σ, nz z)) := fun Q => W218 hO hm1 (by omega)
      generalize so M (oG g, b, σ, nz z) = M1 at hm1' hO1 hA1 w218
      have d1 : mm_lda M1 132 0 = some (.ref 133) := DPk (k := 0) hm1'.2.2.1 (by decide)
      have hm2' := MTh_so (x := (b, σ, nz (nz z))) hm1'
      have hO2 : OA (so M1 (oG g, b, σ, nz (nz z))) (oG g, b, σ, nz (nz z)) := so_OA hO1
      have w218' : ∀ Q : Option Value → mm_M → Prop, Wp scr (n + 4) 218 [.ref 129, .int 4] M1 Q ↔ Q (some (.int (nI (ltW z)))) (so M1 (oG g, b, σ, nz (nz z))) := fun Q => W218 (m := 4) hO1 (by omega) (by omega)
      generalize so M1 (oG g, b, σ, nz (nz z)) = M2 at hm2' hO2 w218'
      have fin : ∀ l2 l3, Wp scr (n + 4) 152 [.ref 129, .ref 133, .int (nI (ltL h z)), .int (nI (ltW z))] M2 (fun r1 M1 => wp scr (n + 4) mb_217 102 [some (.ref 129), some (.int (nI e)), l2, l3, some (.int (nI (ltL h z)))] (r1.toList ++ [.int (nI e)]) M1 Q) := by
        intro l2 l3
        refine MT152 (k := 0) hm2' (by decide) ht.1 q1 q2 q3 hw4 (fun M3 hm3 _ ho3 => ?_)
        have hO3 : OA M3 (oG g, b, σ, nz (nz z)) := ho3.trans hO2
        obtain ⟨t1, t2⟩ := tn_eq (x := fC (hU h) (nI (ltL h z)) (nI (ltW z))) (F9 hg)
        rw [show tfE h.1 (fC (hU h) (nI (ltL h z)) (nI (ltW z))) = nI (tn (gN g).1 (fC (hU h) (nI (ltL h z)) (nI (ltW z)))) from (Th_tf ht q1 q2 q3 hw4).trans t1]
        simp only [u217_102, u217_103, u217_104, mw_os, wp_ite, mw_sw, Option.toList_some, Option.toList_none, List.cons_append, List.nil_append, true_and, and_true, if_true, if_false, mw_s_, mw_s_i, mw_s_r, mw_s_ii, mw_s_ir, mw_s_ri, mw_s_rr, mw_s_iii, mw_s_iir, mw_s_iri, mw_s_irr, mw_s_rii, mw_s_rir, mw_s_rri, mw_s_rrr, mw_s_iiii, mw_s_iiir, mw_s_iiri, mw_s_iirr, mw_s_irii, mw_s_irir, mw_s_irri, mw_s_irrr, mw_s_riii, mw_s_riir, mw_s_riri, mw_s_rirr, mw_s_rrii, mw_s_rrir, mw_s_rrri, mw_s_rrrr, mm_sto1, mm_clr, mm_isL, List.getElem?_cons_zero, List.getElem?_cons_succ, List.set_cons_zero, List.set_cons_succ, Bool.false_eq_true, nI_add]
        obtain ⟨_, _, _, kk⟩ := GT_L hG q1 q2 q3
        obtain ⟨y2, hy2, _, hr2, _⟩ := kk (ltW z) hw4
        exact ih (hF h (nI (ltL h z)) (nI (ltW z))) (nz (nz z)) _ M3 ⟨y2, by rw [hF_U]; exact hy2, by omega⟩ (by omega) hm3 (Th_F ht q1 q2 q3 hw4) hO3 hQ _ _ _
      by_cases hk : drN (nz z) (lnM (hU h)) < wN (hU h) - 1
      · have hkk : (nI (wN (hU h) - 1) ≤ nI (drN (nz z) (lnM (hU h)))) ↔ False := iff_false_intro (nI_ge hk (by omega))
        have el : drN (nz z) (lnM (hU h)) + 1 = ltL h z := by unfold ltL lnL; rw [if_pos hk]
        simp only [u217_16, u217_19, u217_20, u217_21, u217_24, u217_27, u217_28, u217_31, u217_32, u217_33, u217_34, u217_37, u217_38, u217_39, u217_40, u217_43, u217_44, u217_45, u217_46, u217_49, u217_50, u217_51, u217_52, u217_53, u217_54, u217_55, u217_58, u217_59, u217_60, u217_61, u217_64, u217_65, u217_66, u217_67, u217_70, u217_71, u217_72, u217_75, u217_76, u217_77, u217_78, u217_82, u217_84, u217_85, u217_86, u217_87, u217_90, u217_91, u217_92, u217_94, u217_95, u217_96, u217_99, mw_os, wp_ite, mw_sw, Option.toList_some, Option.toList_none, List.cons_append, List.nil_append, true_and, and_true, if_true, if_false, mw_s_, mw_s_i, mw_s_r, mw_s_ii, mw_s_ir, mw_s_ri, mw_s_rr, mw_s_iii, mw_s_iir, mw_s_iri, mw_s_irr, mw_s_rii, mw_s_rir, mw_s_rri, mw_s_rrr, mw_s_iiii, mw_s_iiir, mw_s_iiri, mw_s_iirr, mw_s_irii, mw_s_irir, mw_s_irri, mw_s_irrr, mw_s_riii, mw_s_riir, mw_s_riri, mw_s_rirr, mw_s_rrii, mw_s_rrir, mw_s_rrri, mw_s_rrrr, mm_sto1, mm_clr, mm_isL, List.getElem?_cons_zero, List.getElem?_cons_succ, List.set_cons_zero, List.set_cons_succ, Bool.false_eq_true, OA_2 hO, OA_x hO, d0, w189, hs, bi_eq0, not_true, w0 M _ hA, w1, s1, s2, nI_add, s3, w218, OA_2 hO1, OA_x hO1, d1, w0 M1 _ hA1, hkk, nI_1, el, w218', OA_x hO2]
        exact fin _ _
      · have hkk : (nI (wN (hU h) - 1) ≤ nI (drN (nz z) (lnM (hU h)))) ↔ True := iff_true_intro (nI_le (by omega) (by omega))
        have el : (4 : Int32) = nI (ltL h z) := by unfold ltL lnL; rw [if_neg hk]; rfl
        simp only [u217_16, u217_19, u217_20, u217_21, u217_24, u217_27, u217_28, u217_31, u217_32, u217_33, u217_34, u217_37, u217_38, u217_39, u217_40, u217_43, u217_44, u217_45, u217_46, u217_49, u217_50, u217_51, u217_52, u217_53, u217_54, u217_55, u217_58, u217_59, u217_60, u217_61, u217_64, u217_65, u217_66, u217_67, u217_70, u217_71, u217_72, u217_81, u217_82, u217_84, u217_85, u217_86, u217_87, u217_90, u217_91, u217_92, u217_94, u217_95, u217_96, u217_99, mw_os, wp_ite, mw_sw, Option.toList_some, Option.toList_none, List.cons_append, List.nil_append, true_and, and_true, if_true, if_false, mw_s_, mw_s_i, mw_s_r, mw_s_ii, mw_s_ir, mw_s_ri, mw_s_rr, mw_s_iii, mw_s_iir, mw_s_iri, mw_s_irr, mw_s_rii, mw_s_rir, mw_s_rri, mw_s_rrr, mw_s_iiii, mw_s_iiir, mw_s_iiri, mw_s_iirr, mw_s_irii, mw_s_irir, mw_s_irri, mw_s_irrr, mw_s_riii, mw_s_riir, mw_s_riri, mw_s_rirr, mw_s_rrii, mw_s_rrir, mw_s_rrri, mw_s_rrrr, mm_sto1, mm_clr, mm_isL, List.getElem?_cons_zero, List.getElem?_cons_succ, List.set_cons_zero, List.set_cons_succ, Bool.false_eq_true, OA_2 hO, OA_x hO, d0, w189, hs, bi_eq0, not_true, w0 M _ hA, w1, s1, s2, nI_add, s3, w218, OA_2 hO1, OA_x hO1, d1, w0 M1 _ hA1, hkk, w218', OA_x hO2]
        rw [el]
        exact fin _ _
    · rw [hs, if_pos rfl] at hQ
      simp only [u217_16, u217_19, u217_20, u217_21, u217_24, u217_107, u217_108, mw_os, wp_ite, mw_sw, Option.toList_some, Option.toList_none, List.cons_append, List.nil_append, true_and, and_true, if_true, if_false, mw_s_, mw_s_i, mw_s_r, mw_s_ii, mw_s_ir, mw_s_ri, mw_s_rr, mw_s_iii, mw_s_iir, mw_s_iri, mw_s_irr, mw_s_rii, mw_s_rir, mw_s_rri, mw_s_rrr, mw_s_iiii, mw_s_iiir, mw_s_iiri, mw_s_iirr, mw_s_irii, mw_s_irir, mw_s_irri, mw_s_irrr, mw_s_riii, mw_s_riir, mw_s_riri, mw_s_rirr, mw_s_rrii, mw_s_rrir, mw_s_rrri, mw_s_rrrr, mm_sto1, mm_clr, mm_isL, List.getElem?_cons_zero, List.getElem?_cons_succ, List.set_cons_zero, List.set_cons_succ, Bool.false_eq_true, OA_2 hO, d0, w189, hs, bi_eq0, reduceCtorEq, not_false_eq_true]
      exact hQ M hm ht hO
end LT
