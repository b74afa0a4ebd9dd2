theorem nf_loopI {σ : Type} {N : Nat} {Φ : Nat → σ → Prop} {Ψ : σ → Prop} {step : σ → Nat → σ} {I : Nat → σ → Prop} (hI : ∀ i s, i < N → I i s → I (i + 1) (step s i)) (hs : ∀ i s, i < N → I i s → (Φ i s ↔ Φ (i + 1) (step s i))) (he : ∀ s, I N s → (Φ N s ↔ Ψ s)) : ∀ (k i : Nat) (s : σ), i + k = N → I i s → (Φ i s ↔ Ψ ((List.range' i k).foldl step s)) ∧ I N ((List.range' i k).foldl step s) := by
  intro k
  induction k with
  | zero =>
    intro i s h hi
    have : i = N := by omega
    subst this
    exact ⟨he s hi, hi⟩
  | succ k ih =>
    intro i s h hi
    rw [List.range'_succ, List.foldl_cons]
    have h1 := ih (i + 1) (step s i) (by omega) (hI i s (by omega) hi)
    exact ⟨(hs i s (by omega) hi).trans h1.1, h1.2⟩
theorem nI_in8 {i : Nat} (h : i < 8) : vp_in (nI i) 8 := vp_in_nI h (by decide)
theorem nI_in10 {i : Nat} (h : i < 10) : vp_in (nI i) 10 := vp_in_nI h (by decide)
theorem nle8 {i : Nat} (h : i < 8) : ((8 : Int32) ≤ nI i) ↔ False := iff_false_intro (nI_ge h (by decide))
theorem nle10 {i : Nat} (h : i < 10) : ((10 : Int32) ≤ nI i) ↔ False := iff_false_intro (nI_ge h (by decide))
theorem nle8e : ((8 : Int32) ≤ nI 8) ↔ True := iff_true_intro (by decide +kernel)
theorem nle10e : ((10 : Int32) ≤ nI 10) ↔ True := iff_true_intro (by decide +kernel)
theorem gi_n {xs : List Int32} {i : Nat} (h : i < 2 ^ 31) : gi xs (nI i) = xs.getD i 0 := by
  unfold gi
  rw [nI_clamp h]
/-- a Layout's cells laid over a memory -/
def lo_c (a : Nat) (v : LV) (j : Nat) : mm_C := match j with
  | 0 => lo_o a (vW v) (vT v) (vF v)
  | 1 => .inl (vC v)
  | 2 => .inl (vR v)
  | 3 => .inl (vL v)
  | 4 => .inl (vD v)
  | 5 => .inl (vS v)
  | _ => .inl (vH v)
def pl (M : mm_M) (a : Nat) (v : LV) : mm_M := M.mapIdx (fun i c => if a ≤ i ∧ i < a + 7 then lo_c a v (i - a) else c)
def uC (v : LV) (x : List Int32) : LV := ((x, vR v, vL v, vD v, vS v, vH v), (vW v, vT v, vF v))
def uR (v : LV) (x : List Int32) : LV := ((vC v, x, vL v, vD v, vS v, vH v), (vW v, vT v, vF v))
def uL (v : LV) (x : List Int32) : LV := ((vC v, vR v, x, vD v, vS v, vH v), (vW v, vT v, vF v))
def uD (v : LV) (x : List Int32) : LV := ((vC v, vR v, vL v, x, vS v, vH v), (vW v, vT v, vF v))
def uS (v : LV) (x : List Int32) : LV := ((vC v, vR v, vL v, vD v, x, vH v), (vW v, vT v, vF v))
def uH (v : LV) (x : List Int32) : LV := ((vC v, vR v, vL v, vD v, vS v, x), (vW v, vT v, vF v))
def uW (v : LV) (x : Int32) : LV := ((vC v, vR v, vL v, vD v, vS v, vH v), (x, vT v, vF v))
def uT (v : LV) (x : Int32) : LV := ((vC v, vR v, vL v, vD v, vS v, vH v), (vW v, x, vF v))
def uF (v : LV) (x : Int32) : LV := ((vC v, vR v, vL v, vD v, vS v, vH v), (vW v, vT v, x))
theorem pl_get (M : mm_M) (a : Nat) (v : LV) (i : Nat) : (pl M a v)[i]? = (M[i]?).map (fun c => if a ≤ i ∧ i < a + 7 then lo_c a v (i - a) else c) := by
  simp [pl]
theorem pl_len (M : mm_M) (a : Nat) (v : LV) : (pl M a v).length = M.length := by simp [pl]
theorem pl_in {M : mm_M} {a : Nat} {v : LV} (hM : a + 6 < M.length) (j : Nat) (hj : j < 7) : (pl M a v)[a + j]? = some (lo_c a v j) := by
  rw [pl_get, List.getElem?_eq_getElem (show a + j < M.length by omega), Option.map_some, if_pos (by omega), show a + j - a = j by omega]
theorem pl_LA {M : mm_M} {a : Nat} {v : LV} (hM : a + 6 < M.length) : LA (pl M a v) a v := ⟨pl_in hM 0 (by decide), pl_in hM 1 (by decide), pl_in hM 2 (by decide), pl_in hM 3 (by decide), pl_in hM 4 (by decide), pl_in hM 5 (by decide), pl_in hM 6 (by decide)⟩
theorem pl_out {M : mm_M} {a : Nat} {v : LV} {i : Nat} (h : i < a ∨ a + 7 ≤ i) : (pl M a v)[i]? = M[i]? := by
  rw [pl_get]
  cases M[i]? with
  | none => rfl
  | some c => rw [Option.map_some, if_neg (by omega)]
theorem pl_other {M : mm_M} {a b : Nat} {v u : LV} (h : LA M b u) (hd : b + 7 ≤ a ∨ a + 7 ≤ b) : LA (pl M a v) b u := by
  obtain ⟨h0, h1, h2, h3, h4, h5, h6⟩ := h
  refine ⟨?_, ?_, ?_, ?_, ?_, ?_, ?_⟩
  · rw [pl_out (by omega)]; exact h0
  · rw [pl_out (by omega)]; exact h1
  · rw [pl_out (by omega)]; exact h2
  · rw [pl_out (by omega)]; exact h3
  · rw [pl_out (by omega)]; exact h4
  · rw [pl_out (by omega)]; exact h5
  · rw [pl_out (by omega)]; exact h6
theorem LA_len {M : mm_M} {a : Nat} {v : LV} (h : LA M a v) : a + 6 < M.length := (List.getElem?_eq_some_iff.mp h.2.2.2.2.2.2).1
theorem pl_self {M : mm_M} {a : Nat} {v : LV} (h : LA M a v) : pl M a v = M := by
  apply List.ext_getElem?
  intro i
  by_cases hi : a ≤ i ∧ i < a + 7
  · obtain ⟨h0, h1, h2, h3, h4, h5, h6⟩ := h
    have hM : a + 6 < M.length := (List.getElem?_eq_some_iff.mp h6).1
    rcases (show i = a ∨ i = a + 1 ∨ i = a + 2 ∨ i = a + 3 ∨ i = a + 4 ∨ i = a + 5 ∨ i = a + 6 by omega) with rfl | rfl | rfl | rfl | rfl | rfl | rfl
    · rw [h0]; exact pl_in hM 0 (by decide)
    · rw [h1]; exact pl_in hM 1 (by decide)
    · rw [h2]; exact pl_in hM 2 (by decide)
    · rw [h3]; exact pl_in hM 3 (by decide)
    · rw [h4]; exact pl_in hM 4 (by decide)
    · rw [h5]; exact pl_in hM 5 (by decide)
    · rw [h6]; exact pl_in hM 6 (by decide)
  · exact pl_out (by omega)
theorem pl_pl (M : mm_M) (a : Nat) (v v' : LV) : pl (pl M a v) a v' = pl M a v' := by
  apply List.ext_getElem?
  intro i
  rw [pl_get, pl_get, pl_get]
  cases M[i]? with
  | none => rfl
  | some c =>
    simp only [Option.map_some]
    by_cases hi : a ≤ i ∧ i < a + 7
    · rw [if_pos hi, if_pos hi]
    · rw [if_neg hi, if_neg hi, if_neg hi]
theorem pl_set {M : mm_M} {a : Nat} {v v' : LV} {j : Nat} {c : mm_C} (hM : a + 6 < M.length) (hj : j < 7) (hc : lo_c a v' j = c) (ho : ∀ i, i < 7 → i ≠ j → lo_c a v' i = lo_c a v i) : (pl M a v).set (a + j) c = pl M a v' := by
  apply List.ext_getElem?
  intro i
  by_cases hi : i = a + j
  · subst hi
    rw [List.getElem?_set_self (by rw [pl_len]; omega), pl_in hM j hj, hc]
  · rw [List.getElem?_set_ne (Ne.symm hi), pl_get, pl_get]
    cases M[i]? with
    | none => rfl
    | some d =>
      simp only [Option.map_some]
      by_cases hr : a ≤ i ∧ i < a + 7
      · rw [if_pos hr, if_pos hr, ho (i - a) (by omega) (by omega)]
      · rw [if_neg hr, if_neg hr]
theorem sev {P : Nat → Prop} (h0 : P 0) (h1 : P 1) (h2 : P 2) (h3 : P 3) (h4 : P 4) (h5 : P 5) (h6 : P 6) : ∀ i, i < 7 → P i := by
  intro i hi
  rcases (show i = 0 ∨ i = 1 ∨ i = 2 ∨ i = 3 ∨ i = 4 ∨ i = 5 ∨ i = 6 by omega) with rfl | rfl | rfl | rfl | rfl | rfl | rfl <;> assumption
section PLW
variable {scr : List Int32} {M : mm_M} {a : Nat} {v : LV} {j x : Int32}
theorem pl_sti {k : Nat} {xs : List Int32} {v' : LV} (hM : a + 6 < M.length) (hk : k < 7) (hc : lo_c a v k = .inl xs) (hj : vp_in j xs.length) (hc' : lo_c a v' k = .inl (xs.set j.toNatClampNeg x)) (ho : ∀ i, i < 7 → i ≠ k → lo_c a v' i = lo_c a v i) : mm_sti (pl M a v) (.ref (a + k)) j x = some (pl M a v') := by
  have h0 : ¬ j < 0 := fun z => hj (Or.inl z)
  have h1 : j.toNatClampNeg < xs.length := Nat.not_le.mp fun z => hj (Or.inr z)
  simp only [mm_sti, pl_in hM k hk, hc, if_neg h0, if_pos h1, pl_set hM hk hc' ho]
theorem pl_stC (hM : a + 6 < M.length) (hj : vp_in j (vC v).length) : mm_sti (pl M a v) (.ref (a + 1)) j x = some (pl M a (uC v ((vC v).set j.toNatClampNeg x))) := pl_sti hM (by decide) rfl hj rfl (sev (fun _ => rfl) (fun z => absurd rfl z) (fun _ => rfl) (fun _ => rfl) (fun _ => rfl) (fun _ => rfl) (fun _ => rfl))
theorem pl_stR (hM : a + 6 < M.length) (hj : vp_in j (vR v).length) : mm_sti (pl M a v) (.ref (a + 2)) j x = some (pl M a (uR v ((vR v).set j.toNatClampNeg x))) := pl_sti hM (by decide) rfl hj rfl (sev (fun _ => rfl) (fun _ => rfl) (fun z => absurd rfl z) (fun _ => rfl) (fun _ => rfl) (fun _ => rfl) (fun _ => rfl))
theorem pl_stL (hM : a + 6 < M.length) (hj : vp_in j (vL v).length) : mm_sti (pl M a v) (.ref (a + 3)) j x = some (pl M a (uL v ((vL v).set j.toNatClampNeg x))) := pl_sti hM (by decide) rfl hj rfl (sev (fun _ => rfl) (fun _ => rfl) (fun _ => rfl) (fun z => absurd rfl z) (fun _ => rfl) (fun _ => rfl) (fun _ => rfl))
theorem pl_stD (hM : a + 6 < M.length) (hj : vp_in j (vD v).length) : mm_sti (pl M a v) (.ref (a + 4)) j x = some (pl M a (uD v ((vD v).set j.toNatClampNeg x))) := pl_sti hM (by decide) rfl hj rfl (sev (fun _ => rfl) (fun _ => rfl) (fun _ => rfl) (fun _ => rfl) (fun z => absurd rfl z) (fun _ => rfl) (fun _ => rfl))
theorem pl_stS (hM : a + 6 < M.length) (hj : vp_in j (vS v).length) : mm_sti (pl M a v) (.ref (a + 5)) j x = some (pl M a (uS v ((vS v).set j.toNatClampNeg x))) := pl_sti hM (by decide) rfl hj rfl (sev (fun _ => rfl) (fun _ => rfl) (fun _ => rfl) (fun _ => rfl) (fun _ => rfl) (fun z => absurd rfl z) (fun _ => rfl))
theorem pl_stH (hM : a + 6 < M.length) (hj : vp_in j (vH v).length) : mm_sti (pl M a v) (.ref (a + 6)) j x = some (pl M a (uH v ((vH v).set j.toNatClampNeg x))) := pl_sti hM (by decide) rfl hj rfl (sev (fun _ => rfl) (fun _ => rfl) (fun _ => rfl) (fun _ => rfl) (fun _ => rfl) (fun _ => rfl) (fun z => absurd rfl z))
theorem pl_puW (hM : a + 6 < M.length) : mm_put mc_fty (pl M a v) (.ref a) (.int x) 1 6 = some (pl M a (uW v x)) := by
  have h := pl_in (v := v) hM 0 (by decide)
  rw [Nat.add_zero] at h
  simp only [mm_put, h, lo_c, lo_o]
  exact congrArg some (pl_set (j := 0) hM (by decide) rfl (sev (fun z => absurd rfl z) (fun _ => rfl) (fun _ => rfl) (fun _ => rfl) (fun _ => rfl) (fun _ => rfl) (fun _ => rfl)))
theorem pl_puT (hM : a + 6 < M.length) : mm_put mc_fty (pl M a v) (.ref a) (.int x) 1 7 = some (pl M a (uT v x)) := by
  have h := pl_in (v := v) hM 0 (by decide)
  rw [Nat.add_zero] at h
  simp only [mm_put, h, lo_c, lo_o]
  exact congrArg some (pl_set (j := 0) hM (by decide) rfl (sev (fun z => absurd rfl z) (fun _ => rfl) (fun _ => rfl) (fun _ => rfl) (fun _ => rfl) (fun _ => rfl) (fun _ => rfl)))
theorem pl_puF (hM : a + 6 < M.length) : mm_put mc_fty (pl M a v) (.ref a) (.int x) 1 8 = some (pl M a (uF v x)) := by
  have h := pl_in (v := v) hM 0 (by decide)
  rw [Nat.add_zero] at h
  simp only [mm_put, h, lo_c, lo_o]
  exact congrArg some (pl_set (j := 0) hM (by decide) rfl (sev (fun z => absurd rfl z) (fun _ => rfl) (fun _ => rfl) (fun _ => rfl) (fun _ => rfl) (fun _ => rfl) (fun _ => rfl)))
end PLW
section LA3
variable {scr : List Int32} {n : Nat} {M : mm_M} {Q : Option Value → mm_M → Prop} {a : Nat} {v : LV}
/-- the panels that are read, bits -/
def vRs (v : LV) : Int32 := (List.range' 0 8).foldl (fun s i => if vRd v (nI i) = true then s ||| ((1 : Int32) <<< (nI i &&& 31)) else s) 0
theorem W35 (h : LA M a v) (hv : LOK v) : Wp scr (n + 4) 35 [.ref a] M Q ↔ Q (some (.int (vRs v))) M := by
  have key := nf_loop (N := 8) (Φ := fun i (s : Int32) => wp scr (n + 3) mb_35 4 [some (.ref a), some (.int s), some (.int (nI i))] [] M Q) (Ψ := fun s => Q (some (.int s)) M) (step := fun s i => if vRd v (nI i) = true then s ||| ((1 : Int32) <<< (nI i &&& 31)) else s)
    (fun i s hi => u35_4.trans (by
      simp only [e35, u35_0, u35_1, u35_2, u35_3, u35_5, u35_7, u35_10, u35_11, u35_12, u35_15, u35_18, u35_19, u35_20, u35_21, u35_22, u35_23, u35_24, u35_27, u35_30, u35_31, mw_os, wp_ite, mw_sw, Option.toList_some, Option.toList_none, List.cons_append, List.nil_append, true_and, and_true, if_true, if_false, mw_s_, mw_s_i, mw_s_r, mw_s_ii, mw_s_ir, mw_s_ri, mw_s_rr, mw_s_iii, mw_s_iir, mw_s_iri, mw_s_irr, mw_s_rii, mw_s_rir, mw_s_rri, mw_s_rrr, mw_s_iiii, mw_s_iiir, mw_s_iiri, mw_s_iirr, mw_s_irii, mw_s_irir, mw_s_irri, mw_s_irrr, mw_s_riii, mw_s_riir, mw_s_riri, mw_s_rirr, mw_s_rrii, mw_s_rrir, mw_s_rrri, mw_s_rrrr, mm_sto1, mm_clr, mm_isL, List.getElem?_cons_zero, List.getElem?_cons_succ, List.set_cons_zero, List.set_cons_succ, Bool.false_eq_true, LA_x h, W31 h hv (nI_in8 hi), nle8 hi, nI_1, bi]
      by_cases hb : vRd v (nI i) = true <;> simp [hb]))
    (fun s => u35_4.trans (by simp only [e35, u35_0, u35_1, u35_2, u35_3, u35_5, u35_7, u35_10, u35_11, u35_12, u35_15, u35_18, u35_19, u35_20, u35_21, u35_22, u35_23, u35_24, u35_27, u35_30, u35_31, mw_os, wp_ite, mw_sw, Option.toList_some, Option.toList_none, List.cons_append, List.nil_append, true_and, and_true, if_true, if_false, mw_s_, mw_s_i, mw_s_r, mw_s_ii, mw_s_ir, mw_s_ri, mw_s_rr, mw_s_iii, mw_s_iir, mw_s_iri, mw_s_irr, mw_s_rii, mw_s_rir, mw_s_rri, mw_s_rrr, mw_s_iiii, mw_s_iiir, mw_s_iiri, mw_s_iirr, mw_s_irii, mw_s_irir, mw_s_irri, mw_s_irrr, mw_s_riii, mw_s_riir, mw_s_riri, mw_s_rirr, mw_s_rrii, mw_s_rrir, mw_s_rrri, mw_s_rrrr, nle8e])) 8 0 0 rfl
  rw [vRs, ← key]
  simp only [e35, u35_0, u35_1, u35_2, u35_3, mm_sto1, mm_clr, mm_isL, List.getElem?_cons_zero, List.getElem?_cons_succ, List.set_cons_zero, List.set_cons_succ, Bool.false_eq_true, mw_os, wp_ite, mw_sw, Option.toList_some, Option.toList_none, List.cons_append, List.nil_append, true_and, and_true, if_true, if_false, mw_s_, mw_s_i, mw_s_r, mw_s_ii, mw_s_ir, mw_s_ri, mw_s_rr, mw_s_iii, mw_s_iir, mw_s_iri, mw_s_irr, mw_s_rii, mw_s_rir, mw_s_rri, mw_s_rrr, mw_s_iiii, mw_s_iiir, mw_s_iiri, mw_s_iirr, mw_s_irii, mw_s_irir, mw_s_irri, mw_s_irrr, mw_s_riii, mw_s_riir, mw_s_riri, mw_s_rirr, mw_s_rrii, mw_s_rrir, mw_s_rrri, mw_s_rrrr]
  exact Iff.rfl
def vFc (v : LV) : Int32 := (List.range' 0 10).foldl (fun s i => if gi (vS v) (nI i) = 0 then s else s ||| ((1 : Int32) <<< (nI i &&& 31))) 0
theorem W37 (h : LA M a v) (hv : LOK v) : Wp scr (n + 1) 37 [.ref a] M Q ↔ Q (some (.int (vFc v))) M := by
  have key := nf_loop (N := 10) (Φ := fun i (s : Int32) => wp scr n mb_37 4 [some (.ref a), some (.int s), some (.int (nI i))] [] M Q) (Ψ := fun s => Q (some (.int s)) M) (step := fun s i => if gi (vS v) (nI i) = 0 then s else s ||| ((1 : Int32) <<< (nI i &&& 31)))
    (fun i s hi => u37_4.trans (by
      simp only [e37, u37_0, u37_1, u37_2, u37_3, u37_5, u37_7, u37_10, u37_11, u37_14, u37_15, u37_16, u37_19, u37_20, u37_21, u37_22, u37_23, u37_24, u37_25, u37_28, u37_31, u37_32, mw_os, wp_ite, mw_sw, Option.toList_some, Option.toList_none, List.cons_append, List.nil_append, true_and, and_true, if_true, if_false, mw_s_, mw_s_i, mw_s_r, mw_s_ii, mw_s_ir, mw_s_ri, mw_s_rr, mw_s_iii, mw_s_iir, mw_s_iri, mw_s_irr, mw_s_rii, mw_s_rir, mw_s_rri, mw_s_rrr, mw_s_iiii, mw_s_iiir, mw_s_iiri, mw_s_iirr, mw_s_irii, mw_s_irir, mw_s_irri, mw_s_irrr, mw_s_riii, mw_s_riir, mw_s_riri, mw_s_rirr, mw_s_rrii, mw_s_rrir, mw_s_rrri, mw_s_rrrr, mm_sto1, mm_clr, mm_isL, List.getElem?_cons_zero, List.getElem?_cons_succ, List.set_cons_zero, List.set_cons_succ, Bool.false_eq_true, LA_4 h, LA_s h, gi_at (hv.2.2.2.2.1.symm ▸ nI_in10 hi : vp_in (nI i) (vS v).length), nle10 hi, nI_1]
      split <;> rfl))
    (fun s => u37_4.trans (by simp only [e37, u37_0, u37_1, u37_2, u37_3, u37_5, u37_7, u37_10, u37_11, u37_14, u37_15, u37_16, u37_19, u37_20, u37_21, u37_22, u37_23, u37_24, u37_25, u37_28, u37_31, u37_32, mw_os, wp_ite, mw_sw, Option.toList_some, Option.toList_none, List.cons_append, List.nil_append, true_and, and_true, if_true, if_false, mw_s_, mw_s_i, mw_s_r, mw_s_ii, mw_s_ir, mw_s_ri, mw_s_rr, mw_s_iii, mw_s_iir, mw_s_iri, mw_s_irr, mw_s_rii, mw_s_rir, mw_s_rri, mw_s_rrr, mw_s_iiii, mw_s_iiir, mw_s_iiri, mw_s_iirr, mw_s_irii, mw_s_irir, mw_s_irri, mw_s_irrr, mw_s_riii, mw_s_riir, mw_s_riri, mw_s_rirr, mw_s_rrii, mw_s_rrir, mw_s_rrri, mw_s_rrrr, nle10e])) 10 0 0 rfl
  rw [vFc, ← key]
  simp only [e37, u37_0, u37_1, u37_2, u37_3, mm_sto1, mm_clr, mm_isL, List.getElem?_cons_zero, List.getElem?_cons_succ, List.set_cons_zero, List.set_cons_succ, Bool.false_eq_true, mw_os, wp_ite, mw_sw, Option.toList_some, Option.toList_none, List.cons_append, List.nil_append, true_and, and_true, if_true, if_false, mw_s_, mw_s_i, mw_s_r, mw_s_ii, mw_s_ir, mw_s_ri, mw_s_rr, mw_s_iii, mw_s_iir, mw_s_iri, mw_s_irr, mw_s_rii, mw_s_rir, mw_s_rri, mw_s_rrr, mw_s_iiii, mw_s_iiir, mw_s_iiri, mw_s_iirr, mw_s_irii, mw_s_irir, mw_s_irri, mw_s_irrr, mw_s_riii, mw_s_riir, mw_s_riri, mw_s_rirr, mw_s_rrii, mw_s_rrir, mw_s_rrri, mw_s_rrrr]
  exact Iff.rfl
def vTh (v : LV) : Int32 := (List.range' 0 8).foldl (fun s i => if s < gi (vH v) (nI i) then gi (vH v) (nI i) else s) 0
theorem W34 (h : LA M a v) (hv : LOK v) : Wp scr (n + 1) 34 [.ref a] M Q ↔ Q (some (.int (vTh v))) M := by
  have key := nf_loop (N := 8) (Φ := fun i (s : Int32) => wp scr n mb_34 4 [some (.ref a), some (.int s), some (.int (nI i))] [] M Q) (Ψ := fun s => Q (some (.int s)) M) (step := fun s i => if s < gi (vH v) (nI i) then gi (vH v) (nI i) else s)
    (fun i s hi => u34_4.trans (by
      simp only [e34, u34_0, u34_1, u34_2, u34_3, u34_5, u34_7, u34_10, u34_11, u34_12, u34_15, u34_16, u34_17, u34_20, u34_21, u34_24, u34_27, u34_28, mw_os, wp_ite, mw_sw, Option.toList_some, Option.toList_none, List.cons_append, List.nil_append, true_and, and_true, if_true, if_false, mw_s_, mw_s_i, mw_s_r, mw_s_ii, mw_s_ir, mw_s_ri, mw_s_rr, mw_s_iii, mw_s_iir, mw_s_iri, mw_s_irr, mw_s_rii, mw_s_rir, mw_s_rri, mw_s_rrr, mw_s_iiii, mw_s_iiir, mw_s_iiri, mw_s_iirr, mw_s_irii, mw_s_irir, mw_s_irri, mw_s_irrr, mw_s_riii, mw_s_riir, mw_s_riri, mw_s_rirr, mw_s_rrii, mw_s_rrir, mw_s_rrri, mw_s_rrrr, mm_sto1, mm_clr, mm_isL, List.getElem?_cons_zero, List.getElem?_cons_succ, List.set_cons_zero, List.set_cons_succ, Bool.false_eq_true, LA_5 h, LA_h h, gi_at (hv.2.2.2.2.2.1.symm ▸ nI_in8 hi : vp_in (nI i) (vH v).length), nle8 hi, nI_1]))
    (fun s => u34_4.trans (by simp only [e34, u34_0, u34_1, u34_2, u34_3, u34_5, u34_7, u34_10, u34_11, u34_12, u34_15, u34_16, u34_17, u34_20, u34_21, u34_24, u34_27, u34_28, mw_os, wp_ite, mw_sw, Option.toList_some, Option.toList_none, List.cons_append, List.nil_append, true_and, and_true, if_true, if_false, mw_s_, mw_s_i, mw_s_r, mw_s_ii, mw_s_ir, mw_s_ri, mw_s_rr, mw_s_iii, mw_s_iir, mw_s_iri, mw_s_irr, mw_s_rii, mw_s_rir, mw_s_rri, mw_s_rrr, mw_s_iiii, mw_s_iiir, mw_s_iiri, mw_s_iirr, mw_s_irii, mw_s_irir, mw_s_irri, mw_s_irrr, mw_s_riii, mw_s_riir, mw_s_riri, mw_s_rirr, mw_s_rrii, mw_s_rrir, mw_s_rrri, mw_s_rrrr, nle8e])) 8 0 0 rfl
  rw [vTh, ← key]
  simp only [e34, u34_0, u34_1, u34_2, u34_3, mm_sto1, mm_clr, mm_isL, List.getElem?_cons_zero, List.getElem?_cons_succ, List.set_cons_zero, List.set_cons_succ, Bool.false_eq_true, mw_os, wp_ite, mw_sw, Option.toList_some, Option.toList_none, List.cons_append, List.nil_append, true_and, and_true, if_true, if_false, mw_s_, mw_s_i, mw_s_r, mw_s_ii, mw_s_ir, mw_s_ri, mw_s_rr, mw_s_iii, mw_s_iir, mw_s_iri, mw_s_irr, mw_s_rii, mw_s_rir, mw_s_rri, mw_s_rrr, mw_s_iiii, mw_s_iiir, mw_s_iiri, mw_s_iirr, mw_s_irii, mw_s_irir, mw_s_irri, mw_s_irrr, mw_s_riii, mw_s_riir, mw_s_riri, mw_s_rirr, mw_s_rrii, mw_s_rrir, mw_s_rrri, mw_s_rrrr]
  exact Iff.rfl
end LA3
