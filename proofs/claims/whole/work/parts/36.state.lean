/-! the state of both, as one value: the map now; told; letters; refusals; the image -/
abbrev HV : Type := SV × Nat × (Nat → LV)
def rgI (x : Int32) (n : Nat) : Prop := ∃ j, j ≤ n ∧ x = nI j
def HOK (h : HV) : Prop := SOK h.1 ∧ sN h.1 = nI h.2.1 ∧ h.2.1 ≤ 4 ∧ rgI (sCv h.1) 7 ∧ h.2.2 0 = L0 ∧ (∀ i, i < h.2.1 → ∃ l w, 1 ≤ l ∧ l ≤ 4 ∧ w < 4 ∧ hasL (h.2.2 i) (nI l) = true ∧ h.2.2 (i + 1) = fC (h.2.2 i) (nI l) (nI w)) ∧ (∀ i, i < 10 → rgI (gi (sK h.1) (nI i)) 5 ∧ rgI (gi (sF h.1) (nI i)) 9 ∧ rgI (gi (sWo h.1) (nI i)) 99)
theorem HOK_GT {h : HV} (hk : HOK h) : ∀ i, i ≤ h.2.1 → ∃ x, GT x (h.2.2 i) ∧ rk x.1 + i ≤ 6 := by
  intro i
  induction i with
  | zero =>
    intro _
    obtain ⟨x, h1, h2⟩ := L0_in
    exact ⟨x, by rw [hk.2.2.2.2.1]; exact h1, by omega⟩
  | succ i ih =>
    intro hi
    obtain ⟨x, h1, h2⟩ := ih (by omega)
    obtain ⟨l, w, a1, a2, a3, a4, a5⟩ := hk.2.2.2.2.2.1 i (by omega)
    obtain ⟨_, _, _, k⟩ := GT_L h1 a1 a2 a4
    obtain ⟨y, y1, _, y3, _⟩ := k w a3
    exact ⟨y, by rw [a5]; exact y1, by omega⟩
abbrev SG : Type := HV × (List Int32 × Nat) × (List Int32 × Nat) × List Int32 × (Int32 × HV)
def gN (g : SG) : HV := g.1
def gT (g : SG) : List Int32 := g.2.1.1
def gTc (g : SG) : Nat := g.2.1.2
def gZ (g : SG) : List Int32 := g.2.2.1.1
def gZn (g : SG) : Nat := g.2.2.1.2
def gR (g : SG) : List Int32 := g.2.2.2.1
def gH (g : SG) : Int32 := g.2.2.2.2.1
def gI (g : SG) : HV := g.2.2.2.2.2
def SGOK (g : SG) : Prop := HOK (gN g) ∧ HOK (gI g) ∧ ((gT g).length = 16 ∧ gTc g ≤ 16 ∧ ∀ i, i < gTc g → rgI (gi (gT g) (nI i)) 99) ∧ ((gZ g).length = 96 ∧ gZn g ≤ 96 ∧ ∀ i, i < gZn g → rgI (gi (gZ g) (nI i)) 255) ∧ (gR g).length = 7 ∧ (gH g = 0 ∨ gH g = 1)
/-! the class's cells -/
def Ag (M M' : mm_M) (a b : Nat) : Prop := ∀ i, a ≤ i → i < b → M'[i]? = M[i]?
def xo (tc : Nat) (ht : Int32) : mm_C := .inr (.inr (5, [.ref 1, .ref 41, .ref 81, .ref 121, .ref 124, .ref 126, .ref 127, .ref 128, .int (nI tc), .int ht]))
def SH (M : mm_M) (s : Nat) (h : HV) : Prop := SA M s h.1 ∧ (∀ i, i ≤ h.2.1 → LA M (la s i) (h.2.2 i)) ∧ (∀ i, h.2.1 < i → i < 5 → ∃ y, LEN y ∧ LA M (la s i) y)
def TR (M : mm_M) : Prop := (∃ v, SOK v ∧ SA M 81 v ∧ ∀ i, i < 5 → ∃ y, LEN y ∧ LA M (la 81 i) y) ∧ LA M (la 81 0) L0
def lt_o (n : Nat) : mm_C := .inr (.inr (2, [.ref 125, .int (nI n)]))
def dr_o (a b : Int32) : mm_C := .inr (.inr (0, [.int a, .int b]))
def CS (M : mm_M) (g : SG) : Prop := (M.length = 143 ∧ M[0]? = some (xo (gTc g) (gH g))) ∧ SH M 1 (gN g) ∧ SH M 41 (gI g) ∧ TR M ∧ (∃ τ, QOK τ ∧ QA M 121 τ) ∧ (M[124]? = some (lt_o (gZn g)) ∧ RA M 125 (gZ g)) ∧ (∃ a b, M[126]? = some (dr_o a b)) ∧ RA M 127 (gT g) ∧ RA M 128 (gR g)
/-! the reference's cells -/
def MR (r : RV) (h : HV) : Prop := ROK r ∧ rK r = sK h.1 ∧ rF r = sF h.1 ∧ rO r = sWo h.1 ∧ rS r = vS (h.2.2 h.2.1) ∧ rP r = panL (h.2.2 h.2.1) ∧ rC r = sCv h.1 ∧ rN r = nI h.2.1 ∧ ∀ j, j < h.2.1 → (∀ k, k < 32 → gi (rA r) (nI (33 * j + k)) = gi (panL (h.2.2 j)) (nI k)) ∧ gi (rA r) (nI (33 * j + 32)) = vF (h.2.2 (j + 1))
def dp_o : mm_C := .inr (.inl (2, [some 133, some 134, some 135, some 136, some 137, some 138]))
def MS (M : mm_M) (g : SG) : Prop := (M.length = 143 ∧ ∃ o, OA M o ∧ o.1 = (gH g, nI (gTc g), nI (gZn g))) ∧ (∃ r, MR r (gN g) ∧ RA M 130 (rowL r)) ∧ (∃ w, w.length = 206 ∧ RA M 131 w ∧ (gH g = 1 → ∃ r, MR r (gI g) ∧ w = rowL r)) ∧ M[132]? = some dp_o ∧ (∀ k, k < 6 → ∃ w, w.length = 206 ∧ RA M (133 + k) w) ∧ RA M 139 (gR g) ∧ RA M 140 (gT g) ∧ RA M 141 (gZ g) ∧ (∃ w, w.length = 32 ∧ RA M 142 w)
theorem Ag_rf {M : mm_M} {a b : Nat} : Ag M M a b := fun _ _ _ => rfl
theorem Ag_sub {M M' : mm_M} {a b c d : Nat} (h : Ag M M' a b) (h1 : a ≤ c) (h2 : d ≤ b) : Ag M M' c d := fun i h3 h4 => h i (by omega) (by omega)
theorem Ag_tr {M M' M'' : mm_M} {a b : Nat} (h : Ag M M' a b) (h2 : Ag M' M'' a b) : Ag M M'' a b := fun i h3 h4 => (h2 i h3 h4).trans (h i h3 h4)
theorem Ag_set {M : mm_M} {k a b : Nat} {c : mm_C} (h : k < a ∨ b ≤ k) : Ag M (M.set k c) a b := fun i h3 h4 => List.getElem?_set_ne (by omega)
theorem Ag_sr {M : mm_M} {k a b : Nat} {c : List Int32} (h : k < a ∨ b ≤ k) : Ag M (sr M k c) a b := Ag_set h
theorem Ag_ph {M : mm_M} {s a b : Nat} {v : SV} (h : s + 5 ≤ a ∨ b ≤ s) : Ag M (ph M s v) a b := fun i h3 h4 => ph_out (by omega)
theorem Ag_pl {M : mm_M} {s a b : Nat} {v : LV} (h : s + 7 ≤ a ∨ b ≤ s) : Ag M (pl M s v) a b := fun i h3 h4 => pl_out (by omega)
theorem Ag_pq {M : mm_M} {s a b : Nat} {v : QV} (h : s + 3 ≤ a ∨ b ≤ s) : Ag M (pq M s v) a b := fun i h3 h4 => pq_out (by omega)
section KP
variable {M M' : mm_M} {s : Nat} {h : HV} {g : SG}
theorem SH_kp (hs : SH M s h) (ha : Ag M M' s (s + 40)) (hd : h.2.1 ≤ 4) : SH M' s h := by
  refine ⟨SA_keep hs.1 (fun j hj => ha _ (by omega) (by omega)), fun i hi => LA_keep (hs.2.1 i hi) (fun j hj => ha _ (by unfold la; omega) (by unfold la; omega)), fun i h1 h2 => ?_⟩
  obtain ⟨y, y1, y2⟩ := hs.2.2 i h1 h2
  exact ⟨y, y1, LA_keep y2 (fun j hj => ha _ (by unfold la; omega) (by unfold la; omega))⟩
theorem TR_kp (hs : TR M) (ha : Ag M M' 81 121) : TR M' := by
  obtain ⟨⟨v, h1, h2, h3⟩, h4⟩ := hs
  refine ⟨⟨v, h1, SA_keep h2 (fun j hj => ha _ (by omega) (by omega)), fun i hi => ?_⟩, LA_keep h4 (fun j hj => ha _ (by unfold la; omega) (by unfold la; omega))⟩
  obtain ⟨y, y1, y2⟩ := h3 i hi
  exact ⟨y, y1, LA_keep y2 (fun j hj => ha _ (by unfold la; omega) (by unfold la; omega))⟩
theorem CS_kp (hc : CS M g) (hk : SGOK g) (hl : M'.length = M.length) (ha : Ag M M' 0 129) : CS M' g := by
  obtain ⟨⟨a1, a2⟩, a3, a4, a5, ⟨τ, a6, a7⟩, ⟨a8, a9⟩, ⟨x, y, a10⟩, a11, a12⟩ := hc
  exact ⟨⟨hl.trans a1, (ha 0 (by omega) (by omega)).trans a2⟩, SH_kp a3 (Ag_sub ha (by omega) (by omega)) hk.1.2.2.1, SH_kp a4 (Ag_sub ha (by omega) (by omega)) hk.2.1.2.2.1, TR_kp a5 (Ag_sub ha (by omega) (by omega)), ⟨τ, a6, QA_keep a7 (fun j hj => ha _ (by omega) (by omega))⟩, ⟨(ha 124 (by omega) (by omega)).trans a8, (ha 125 (by omega) (by omega)).trans a9⟩, ⟨x, y, (ha 126 (by omega) (by omega)).trans a10⟩, (ha 127 (by omega) (by omega)).trans a11, (ha 128 (by omega) (by omega)).trans a12⟩
theorem MS_kp (hc : MS M g) (hl : M'.length = M.length) (ha : Ag M M' 129 143) : MS M' g := by
  obtain ⟨⟨a1, o, a2, a3⟩, ⟨r, a4, a5⟩, ⟨w, a6, a7, a8⟩, a9, a10, a11, a12, a13, ⟨w2, a14, a15⟩⟩ := hc
  refine ⟨⟨hl.trans a1, o, (ha 129 (by omega) (by omega)).trans a2, a3⟩, ⟨r, a4, (ha 130 (by omega) (by omega)).trans a5⟩, ⟨w, a6, (ha 131 (by omega) (by omega)).trans a7, a8⟩, (ha 132 (by omega) (by omega)).trans a9, fun k hk => ?_, (ha 139 (by omega) (by omega)).trans a11, (ha 140 (by omega) (by omega)).trans a12, (ha 141 (by omega) (by omega)).trans a13, ⟨w2, a14, (ha 142 (by omega) (by omega)).trans a15⟩⟩
  obtain ⟨w, b1, b2⟩ := a10 k hk
  exact ⟨w, b1, (ha _ (by omega) (by omega)).trans b2⟩
end KP
/-- what a call must do: the answer, the state behind it, nothing of the other's cells -/
def CPost (M : mm_M) (g : SG) (r : Value) (Q : Option Value → mm_M → Prop) : Prop := ∀ M', M'.length = M.length → Ag M M' 129 143 → CS M' g → Q (some r) M'
def MPost (M : mm_M) (g : SG) (r : Value) (Q : Option Value → mm_M → Prop) : Prop := ∀ M', M'.length = M.length → Ag M M' 0 129 → MS M' g → Q (some r) M'
/-! refusals -/
def gRf (g : SG) (k : Nat) : SG := (gN g, (gT g, gTc g), (gZ g, gZn g), (gR g).set k (gi (gR g) (nI k) + 1), (gH g, gI g))
theorem gRf_ok {g : SG} {k : Nat} (h : SGOK g) : SGOK (gRf g k) := ⟨h.1, h.2.1, h.2.2.1, h.2.2.2.1, (List.length_set).trans h.2.2.2.2.1, h.2.2.2.2.2⟩
section RF
variable {scr : List Int32} {n : Nat} {M : mm_M} {Q : Option Value → mm_M → Prop} {g : SG} {k : Nat}
theorem CS_0 (h : CS M g) : mm_fld (mc_X scr) M (.ref 0) 5 0 = some (.ref 1) := by simp only [mm_fld, h.1.2, xo]; rfl
theorem CS_1 (h : CS M g) : mm_fld (mc_X scr) M (.ref 0) 5 1 = some (.ref 41) := by simp only [mm_fld, h.1.2, xo]; rfl
theorem CS_2 (h : CS M g) : mm_fld (mc_X scr) M (.ref 0) 5 2 = some (.ref 81) := by simp only [mm_fld, h.1.2, xo]; rfl
theorem CS_3 (h : CS M g) : mm_fld (mc_X scr) M (.ref 0) 5 3 = some (.ref 121) := by simp only [mm_fld, h.1.2, xo]; rfl
theorem CS_4 (h : CS M g) : mm_fld (mc_X scr) M (.ref 0) 5 4 = some (.ref 124) := by simp only [mm_fld, h.1.2, xo]; rfl
theorem CS_5 (h : CS M g) : mm_fld (mc_X scr) M (.ref 0) 5 5 = some (.ref 126) := by simp only [mm_fld, h.1.2, xo]; rfl
theorem CS_6 (h : CS M g) : mm_fld (mc_X scr) M (.ref 0) 5 6 = some (.ref 127) := by simp only [mm_fld, h.1.2, xo]; rfl
theorem CS_7 (h : CS M g) : mm_fld (mc_X scr) M (.ref 0) 5 7 = some (.ref 128) := by simp only [mm_fld, h.1.2, xo]; rfl
theorem CS_8 (h : CS M g) : mm_fld (mc_X scr) M (.ref 0) 5 8 = some (.int (nI (gTc g))) := by simp only [mm_fld, h.1.2, xo]; rfl
theorem CS_9 (h : CS M g) : mm_fld (mc_X scr) M (.ref 0) 5 9 = some (.int (gH g)) := by simp only [mm_fld, h.1.2, xo]; rfl
theorem CS_x (h : CS M g) : mw_r M 0 5 ↔ True := iff_true_intro ⟨_, h.1.2⟩
theorem CS_sr128 {w : List Int32} (h : CS M g) (hk : SGOK g) : CS (sr M 128 w) (gN g, (gT g, gTc g), (gZ g, gZn g), w, (gH g, gI g)) := by
  obtain ⟨⟨a1, a2⟩, a3, a4, a5, ⟨τ, a6, a7⟩, ⟨a8, a9⟩, ⟨x, y, a10⟩, a11, a12⟩ := h
  exact ⟨⟨sr_len.trans a1, (sr_ne (by decide)).trans a2⟩, SH_kp a3 (Ag_sr (by omega)) hk.1.2.2.1, SH_kp a4 (Ag_sr (by omega)) hk.2.1.2.2.1, TR_kp a5 (Ag_sr (by omega)), ⟨τ, a6, QA_keep a7 (fun j hj => sr_ne (by omega))⟩, ⟨(sr_ne (by decide)).trans a8, (sr_ne (by decide)).trans a9⟩, ⟨x, y, (sr_ne (by decide)).trans a10⟩, (sr_ne (by decide)).trans a11, sr_RA (by omega)⟩
theorem MS_sr139 {w : List Int32} (h : MS M g) : MS (sr M 139 w) (gN g, (gT g, gTc g), (gZ g, gZn g), w, (gH g, gI g)) := by
  obtain ⟨⟨a1, o, a2, a3⟩, ⟨r, a4, a5⟩, ⟨w1, a6, a7, a8⟩, a9, a10, a11, a12, a13, ⟨w2, a14, a15⟩⟩ := h
  refine ⟨⟨sr_len.trans a1, o, (sr_ne (by decide)).trans a2, a3⟩, ⟨r, a4, (sr_ne (by decide)).trans a5⟩, ⟨w1, a6, (sr_ne (by decide)).trans a7, a8⟩, (sr_ne (by decide)).trans a9, fun k hk => ?_, sr_RA (by omega), (sr_ne (by decide)).trans a12, (sr_ne (by decide)).trans a13, ⟨w2, a14, (sr_ne (by decide)).trans a15⟩⟩
  obtain ⟨w3, b1, b2⟩ := a10 k hk
  exact ⟨w3, b1, (sr_ne (by omega)).trans b2⟩
/-- the class refuses -/
theorem W84 (h : CS M g) (hg : SGOK g) (h1 : 1 ≤ k) (h6 : k ≤ 6) : Wp scr (n + 1) 84 [.ref 0, .int (-nI k)] M Q ↔ Q (some (.int (-nI k))) (sr M 128 ((gR g).set k (gi (gR g) (nI k) + 1))) := by
  have e1 : -(-nI k) = nI k := Int32.neg_neg
  have c1 : (nI k < 1) ↔ False := iff_false_intro (nI_nlt (a := k) (b := 1) h1 (by omega))
  have c2 : ((6 : Int32) < nI k) ↔ False := iff_false_intro (nI_nlt (a := 6) (b := k) h6 (by omega))
  have hR := h.2.2.2.2.2.2.2.2
  have hl := hg.2.2.2.2.1
  simp only [e84, u84_0, u84_1, u84_2, u84_3, u84_4, u84_5, u84_8, u84_9, u84_11, u84_14, u84_15, u84_18, u84_19, u84_20, u84_21, u84_22, u84_23, u84_24, u84_25, mw_os, wp_ite, mw_sw, Option.toList_some, Option.toList_none, List.cons_append, List.nil_append, true_and, and_true, if_true, if_false, mw_s_, mw_s_i, mw_s_r, mw_s_ii, mw_s_ir, mw_s_ri, mw_s_rr, mw_s_iii, mw_s_iir, mw_s_iri, mw_s_irr, mw_s_rii, mw_s_rir, mw_s_rri, mw_s_rrr, mw_s_iiii, mw_s_iiir, mw_s_iiri, mw_s_iirr, mw_s_irii, mw_s_irir, mw_s_irri, mw_s_irrr, mw_s_riii, mw_s_riir, mw_s_riri, mw_s_rirr, mw_s_rrii, mw_s_rrir, mw_s_rrri, mw_s_rrrr, mm_sto1, mm_clr, mm_isL, List.getElem?_cons_zero, List.getElem?_cons_succ, List.set_cons_zero, List.set_cons_succ, Bool.false_eq_true, e1, c1, c2, CS_7 h, RA_ld hR, gi_atN (xs := gR g) (i := k) (by omega) (by omega), RA_st hR (show k < (gR g).length by omega) (by omega)]
theorem CW84 (h : CS M g) (hg : SGOK g) (h1 : 1 ≤ k) (h6 : k ≤ 6) (hQ : CPost M (gRf g k) (.int (-nI k)) Q) : Wp scr (n + 1) 84 [.ref 0, .int (-nI k)] M Q := (W84 h hg h1 h6).mpr (hQ _ sr_len (Ag_sr (by omega)) (CS_sr128 h hg))
theorem MW141 (h : MS M g) (hg : SGOK g) (h1 : 1 ≤ k) (h6 : k ≤ 6) (hQ : MPost M (gRf g k) (.int (-nI k)) Q) : Wp scr (n + 1) 141 [.ref 129, .int (-nI k)] M Q := by
  have hm := h
  obtain ⟨⟨a1, o, a2, a3⟩, ⟨r, a4, a5⟩, ⟨w1, a6, a7, a8⟩, a9, a10, a11, a12, a13, ⟨w2, a14, a15⟩⟩ := h
  have e1 : -(-nI k) = nI k := Int32.neg_neg
  have hl := hg.2.2.2.2.1
  simp only [e141, u141_0, u141_1, u141_4, u141_5, u141_6, u141_7, u141_8, u141_9, u141_10, u141_11, u141_12, mw_os, wp_ite, mw_sw, Option.toList_some, Option.toList_none, List.cons_append, List.nil_append, true_and, and_true, if_true, if_false, mw_s_, mw_s_i, mw_s_r, mw_s_ii, mw_s_ir, mw_s_ri, mw_s_rr, mw_s_iii, mw_s_iir, mw_s_iri, mw_s_irr, mw_s_rii, mw_s_rir, mw_s_rri, mw_s_rrr, mw_s_iiii, mw_s_iiir, mw_s_iiri, mw_s_iirr, mw_s_irii, mw_s_irir, mw_s_irri, mw_s_irrr, mw_s_riii, mw_s_riir, mw_s_riri, mw_s_rirr, mw_s_rrii, mw_s_rrir, mw_s_rrri, mw_s_rrrr, mm_sto1, mm_clr, mm_isL, List.getElem?_cons_zero, List.getElem?_cons_succ, List.set_cons_zero, List.set_cons_succ, Bool.false_eq_true, e1, OA_4 a2, RA_ld a11, gi_atN (xs := gR g) (i := k) (by omega) (by omega), RA_st a11 (show k < (gR g).length by omega) (by omega)]
  exact hQ _ sr_len (Ag_sr (by omega)) (MS_sr139 hm)
end RF
