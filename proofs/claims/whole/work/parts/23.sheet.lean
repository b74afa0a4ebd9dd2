/-! a Sheet's own cells: the object, the row of Layouts, kinds, figures, worn -/
abbrev SV : Type := (List Int32 × List Int32 × List Int32) × (Int32 × Int32)
def sK (v : SV) : List Int32 := v.1.1
def sF (v : SV) : List Int32 := v.1.2.1
def sWo (v : SV) : List Int32 := v.1.2.2
def sN (v : SV) : Int32 := v.2.1
def sCv (v : SV) : Int32 := v.2.2
def so_c (s : Nat) (v : SV) (j : Nat) : mm_C := match j with
  | 0 => .inr (.inr (4, [.ref (s + 1), .ref (s + 2), .ref (s + 3), .ref (s + 4), .int (sN v), .int (sCv v)]))
  | 1 => .inr (.inl (1, [some (s + 5), some (s + 12), some (s + 19), some (s + 26), some (s + 33)]))
  | 2 => .inl (sK v)
  | 3 => .inl (sF v)
  | _ => .inl (sWo v)
def SA (M : mm_M) (s : Nat) (v : SV) : Prop := M[s]? = some (so_c s v 0) ∧ M[s + 1]? = some (so_c s v 1) ∧ M[s + 2]? = some (so_c s v 2) ∧ M[s + 3]? = some (so_c s v 3) ∧ M[s + 4]? = some (so_c s v 4)
def SOK (v : SV) : Prop := (sK v).length = 10 ∧ (sF v).length = 10 ∧ (sWo v).length = 10
def ph (M : mm_M) (s : Nat) (v : SV) : mm_M := M.mapIdx (fun i c => if s ≤ i ∧ i < s + 5 then so_c s v (i - s) else c)
def xK (v : SV) (x : List Int32) : SV := ((x, sF v, sWo v), (sN v, sCv v))
def xF (v : SV) (x : List Int32) : SV := ((sK v, x, sWo v), (sN v, sCv v))
def xW (v : SV) (x : List Int32) : SV := ((sK v, sF v, x), (sN v, sCv v))
def xN (v : SV) (x : Int32) : SV := ((sK v, sF v, sWo v), (x, sCv v))
def xC (v : SV) (x : Int32) : SV := ((sK v, sF v, sWo v), (sN v, x))
theorem ph_get (M : mm_M) (s : Nat) (v : SV) (i : Nat) : (ph M s v)[i]? = (M[i]?).map (fun c => if s ≤ i ∧ i < s + 5 then so_c s v (i - s) else c) := by simp [ph]
theorem ph_len (M : mm_M) (s : Nat) (v : SV) : (ph M s v).length = M.length := by simp [ph]
theorem ph_in {M : mm_M} {s : Nat} {v : SV} (hM : s + 4 < M.length) (j : Nat) (hj : j < 5) : (ph M s v)[s + j]? = some (so_c s v j) := by
  rw [ph_get, List.getElem?_eq_getElem (show s + j < M.length by omega), Option.map_some, if_pos (by omega), show s + j - s = j by omega]
theorem ph_SA {M : mm_M} {s : Nat} {v : SV} (hM : s + 4 < M.length) : SA (ph M s v) s v := ⟨ph_in hM 0 (by decide), ph_in hM 1 (by decide), ph_in hM 2 (by decide), ph_in hM 3 (by decide), ph_in hM 4 (by decide)⟩
theorem ph_out {M : mm_M} {s : Nat} {v : SV} {i : Nat} (h : i < s ∨ s + 5 ≤ i) : (ph M s v)[i]? = M[i]? := by
  rw [ph_get]
  cases M[i]? with
  | none => rfl
  | some c => rw [Option.map_some, if_neg (by omega)]
theorem SA_len {M : mm_M} {s : Nat} {v : SV} (h : SA M s v) : s + 4 < M.length := (List.getElem?_eq_some_iff.mp h.2.2.2.2).1
theorem SA_keep {M M' : mm_M} {s : Nat} {v : SV} (h : SA M s v) (hk : ∀ j, j < 5 → M'[s + j]? = M[s + j]?) : SA M' s v := ⟨(hk 0 (by decide)).trans h.1, (hk 1 (by decide)).trans h.2.1, (hk 2 (by decide)).trans h.2.2.1, (hk 3 (by decide)).trans h.2.2.2.1, (hk 4 (by decide)).trans h.2.2.2.2⟩
theorem LA_keep {M M' : mm_M} {a : Nat} {v : LV} (h : LA M a v) (hk : ∀ j, j < 7 → M'[a + j]? = M[a + j]?) : LA M' a v := ⟨(hk 0 (by decide)).trans h.1, (hk 1 (by decide)).trans h.2.1, (hk 2 (by decide)).trans h.2.2.1, (hk 3 (by decide)).trans h.2.2.2.1, (hk 4 (by decide)).trans h.2.2.2.2.1, (hk 5 (by decide)).trans h.2.2.2.2.2.1, (hk 6 (by decide)).trans h.2.2.2.2.2.2⟩
theorem SA_pl {M : mm_M} {s a : Nat} {v : SV} {w : LV} (h : SA M s v) (hd : a + 7 ≤ s ∨ s + 5 ≤ a) : SA (pl M a w) s v := SA_keep h (fun j hj => pl_out (by omega))
theorem SA_ph {M : mm_M} {s t : Nat} {v w : SV} (h : SA M s v) (hd : t + 5 ≤ s ∨ s + 5 ≤ t) : SA (ph M t w) s v := SA_keep h (fun j hj => ph_out (by omega))
theorem LA_ph {M : mm_M} {s a : Nat} {v : LV} {w : SV} (h : LA M a v) (hd : a + 7 ≤ s ∨ s + 5 ≤ a) : LA (ph M s w) a v := LA_keep h (fun j hj => ph_out (by omega))
theorem ph_self {M : mm_M} {s : Nat} {v : SV} (h : SA M s v) : ph M s v = M := by
  apply List.ext_getElem?
  intro i
  by_cases hi : s ≤ i ∧ i < s + 5
  · obtain ⟨h0, h1, h2, h3, h4⟩ := h
    have hM : s + 4 < M.length := (List.getElem?_eq_some_iff.mp h4).1
    rcases (show i = s ∨ i = s + 1 ∨ i = s + 2 ∨ i = s + 3 ∨ i = s + 4 by omega) with rfl | rfl | rfl | rfl | rfl
    · rw [h0]; exact ph_in hM 0 (by decide)
    · rw [h1]; exact ph_in hM 1 (by decide)
    · rw [h2]; exact ph_in hM 2 (by decide)
    · rw [h3]; exact ph_in hM 3 (by decide)
    · rw [h4]; exact ph_in hM 4 (by decide)
  · exact ph_out (by omega)
theorem ph_ph (M : mm_M) (s : Nat) (v v' : SV) : ph (ph M s v) s v' = ph M s v' := by
  apply List.ext_getElem?
  intro i
  rw [ph_get, ph_get, ph_get]
  cases M[i]? with
  | none => rfl
  | some c =>
    simp only [Option.map_some]
    by_cases hi : s ≤ i ∧ i < s + 5
    · rw [if_pos hi, if_pos hi]
    · rw [if_neg hi, if_neg hi, if_neg hi]
theorem ph_set {M : mm_M} {s : Nat} {v v' : SV} {j : Nat} {c : mm_C} (hM : s + 4 < M.length) (hj : j < 5) (hc : so_c s v' j = c) (ho : ∀ i, i < 5 → i ≠ j → so_c s v' i = so_c s v i) : (ph M s v).set (s + j) c = ph M s v' := by
  apply List.ext_getElem?
  intro i
  by_cases hi : i = s + j
  · subst hi
    rw [List.getElem?_set_self (by rw [ph_len]; omega), ph_in hM j hj, hc]
  · rw [List.getElem?_set_ne (Ne.symm hi), ph_get, ph_get]
    cases M[i]? with
    | none => rfl
    | some d =>
      simp only [Option.map_some]
      by_cases hr : s ≤ i ∧ i < s + 5
      · rw [if_pos hr, if_pos hr, ho (i - s) (by omega) (by omega)]
      · rw [if_neg hr, if_neg hr]
theorem fiv {P : Nat → Prop} (h0 : P 0) (h1 : P 1) (h2 : P 2) (h3 : P 3) (h4 : P 4) : ∀ i, i < 5 → P i := by
  intro i hi
  rcases (show i = 0 ∨ i = 1 ∨ i = 2 ∨ i = 3 ∨ i = 4 by omega) with rfl | rfl | rfl | rfl | rfl <;> assumption
section SW
variable {scr : List Int32} {n : Nat} {M : mm_M} {s : Nat} {v : SV} {j x : Int32}
theorem ph_sti {k : Nat} {xs : List Int32} {v' : SV} (hM : s + 4 < M.length) (hk : k < 5) (hc : so_c s v k = .inl xs) (hj : vp_in j xs.length) (hc' : so_c s v' k = .inl (xs.set j.toNatClampNeg x)) (ho : ∀ i, i < 5 → i ≠ k → so_c s v' i = so_c s v i) : mm_sti (ph M s v) (.ref (s + k)) j x = some (ph M s v') := by
  have h0 : ¬ j < 0 := fun z => hj (Or.inl z)
  have h1 : j.toNatClampNeg < xs.length := Nat.not_le.mp fun z => hj (Or.inr z)
  simp only [mm_sti, ph_in hM k hk, hc, if_neg h0, if_pos h1, ph_set hM hk hc' ho]
theorem ph_stK (hM : s + 4 < M.length) (hj : vp_in j (sK v).length) : mm_sti (ph M s v) (.ref (s + 2)) j x = some (ph M s (xK v ((sK v).set j.toNatClampNeg x))) := ph_sti hM (by decide) rfl hj rfl (fiv (fun _ => rfl) (fun _ => rfl) (fun z => absurd rfl z) (fun _ => rfl) (fun _ => rfl))
theorem ph_stF (hM : s + 4 < M.length) (hj : vp_in j (sF v).length) : mm_sti (ph M s v) (.ref (s + 3)) j x = some (ph M s (xF v ((sF v).set j.toNatClampNeg x))) := ph_sti hM (by decide) rfl hj rfl (fiv (fun _ => rfl) (fun _ => rfl) (fun _ => rfl) (fun z => absurd rfl z) (fun _ => rfl))
theorem ph_stW (hM : s + 4 < M.length) (hj : vp_in j (sWo v).length) : mm_sti (ph M s v) (.ref (s + 4)) j x = some (ph M s (xW v ((sWo v).set j.toNatClampNeg x))) := ph_sti hM (by decide) rfl hj rfl (fiv (fun _ => rfl) (fun _ => rfl) (fun _ => rfl) (fun _ => rfl) (fun z => absurd rfl z))
theorem ph_puN (hM : s + 4 < M.length) : mm_put mc_fty (ph M s v) (.ref s) (.int x) 4 4 = some (ph M s (xN v x)) := by
  have h := ph_in (v := v) hM 0 (by decide)
  rw [Nat.add_zero] at h
  simp only [mm_put, h, so_c]
  exact congrArg some (ph_set (j := 0) hM (by decide) rfl (fiv (fun z => absurd rfl z) (fun _ => rfl) (fun _ => rfl) (fun _ => rfl) (fun _ => rfl)))
theorem ph_puC (hM : s + 4 < M.length) : mm_put mc_fty (ph M s v) (.ref s) (.int x) 4 5 = some (ph M s (xC v x)) := by
  have h := ph_in (v := v) hM 0 (by decide)
  rw [Nat.add_zero] at h
  simp only [mm_put, h, so_c]
  exact congrArg some (ph_set (j := 0) hM (by decide) rfl (fiv (fun z => absurd rfl z) (fun _ => rfl) (fun _ => rfl) (fun _ => rfl) (fun _ => rfl)))
theorem SA_0 (h : SA M s v) : mm_fld (mc_X scr) M (.ref s) 4 0 = some (.ref (s + 1)) := by simp only [mm_fld, h.1, so_c]; rfl
theorem SA_1 (h : SA M s v) : mm_fld (mc_X scr) M (.ref s) 4 1 = some (.ref (s + 2)) := by simp only [mm_fld, h.1, so_c]; rfl
theorem SA_2 (h : SA M s v) : mm_fld (mc_X scr) M (.ref s) 4 2 = some (.ref (s + 3)) := by simp only [mm_fld, h.1, so_c]; rfl
theorem SA_3 (h : SA M s v) : mm_fld (mc_X scr) M (.ref s) 4 3 = some (.ref (s + 4)) := by simp only [mm_fld, h.1, so_c]; rfl
theorem SA_4 (h : SA M s v) : mm_fld (mc_X scr) M (.ref s) 4 4 = some (.int (sN v)) := by simp only [mm_fld, h.1, so_c]; rfl
theorem SA_5 (h : SA M s v) : mm_fld (mc_X scr) M (.ref s) 4 5 = some (.int (sCv v)) := by simp only [mm_fld, h.1, so_c]; rfl
theorem SA_k (h : SA M s v) : mm_ld (mc_X scr) M (.ref (s + 2)) j = mm_at (sK v) j := by simp only [mm_ld, mm_row, h.2.2.1, so_c]; rfl
theorem SA_f (h : SA M s v) : mm_ld (mc_X scr) M (.ref (s + 3)) j = mm_at (sF v) j := by simp only [mm_ld, mm_row, h.2.2.2.1, so_c]; rfl
theorem SA_w (h : SA M s v) : mm_ld (mc_X scr) M (.ref (s + 4)) j = mm_at (sWo v) j := by simp only [mm_ld, mm_row, h.2.2.2.2, so_c]; rfl
theorem SA_x (h : SA M s v) : mw_r M s 4 ↔ True := iff_true_intro ⟨_, h.1⟩
def la (s d : Nat) : Nat := s + 5 + 7 * d
theorem SA_l {d : Nat} (h : SA M s v) (hd : d < 5) : mm_lda M (s + 1) (nI d) = some (.ref (la s d)) := by
  simp only [mm_lda, h.2.1, so_c]
  rcases (show d = 0 ∨ d = 1 ∨ d = 2 ∨ d = 3 ∨ d = 4 by omega) with rfl | rfl | rfl | rfl | rfl <;> rfl
end SW
section SH1
variable {scr : List Int32} {n : Nat} {M : mm_M} {Q : Option Value → mm_M → Prop} {s b : Nat} {v : SV} {u : LV}
theorem nle4 {d : Nat} (h : d < 4) : ((4 : Int32) ≤ nI d) ↔ False := iff_false_intro (nI_ge h (by decide))
def hasL (u : LV) (line : Int32) : Bool := if line = 4 then decide (vT u = 2) else decide (1 ≤ line ∧ line < vW u)
theorem W23b {x1 : Int32} {a : Nat} (h : LA M a u) : Wp scr (n + 1) 23 [.ref a, .int x1] M Q ↔ Q (some (.int (bi (hasL u x1)))) M := by
  rw [W23 h]
  unfold hasL bi
  by_cases h1 : x1 = 4
  · by_cases h2 : vT u = 2 <;> simp [h1, h2]
  · by_cases h2 : 1 ≤ x1 ∧ x1 < vW u
    · simp only [if_neg h1, if_pos h2, h2]; simp
    · simp only [if_neg h1, if_neg h2, h2]; simp
theorem W69 {d : Nat} {line : Int32} (h : SA M s v) (hl : LA M (la s d) u) (hd : d < 4) : Wp scr (n + 2) 69 [.ref s, .int (nI d), .int line] M Q ↔ Q (some (.int (bi (hasL u line)))) M := by
  simp only [e69, u69_0, u69_1, u69_2, u69_5, u69_6, u69_9, u69_10, u69_11, u69_12, u69_15, u69_18, u69_19, u69_22, u69_23, mw_os, wp_ite, mw_sw, Option.toList_some, Option.toList_none, List.cons_append, List.nil_append, true_and, and_true, if_true, if_false, mw_s_, mw_s_i, mw_s_r, mw_s_ii, mw_s_ir, mw_s_ri, mw_s_rr, mw_s_iii, mw_s_iir, mw_s_iri, mw_s_irr, mw_s_rii, mw_s_rir, mw_s_rri, mw_s_rrr, mw_s_iiii, mw_s_iiir, mw_s_iiri, mw_s_iirr, mw_s_irii, mw_s_irir, mw_s_irri, mw_s_irrr, mw_s_riii, mw_s_riir, mw_s_riri, mw_s_rirr, mw_s_rrii, mw_s_rrir, mw_s_rrri, mw_s_rrrr, SA_0 h, SA_l h (show d < 5 by omega), LA_x hl, W23b hl, nle4 hd, bi_eq0]
  cases hasL u line <;> simp [bi]
theorem W69n {line : Int32} : Wp scr (n + 2) 69 [.ref s, .int (nI 4), .int line] M Q ↔ Q (some (.int 0)) M := by
  have h4 : ((4 : Int32) ≤ nI 4) ↔ True := iff_true_intro (by decide +kernel)
  simp only [e69, u69_0, u69_1, u69_2, u69_5, u69_6, u69_9, u69_10, u69_11, u69_12, u69_15, u69_18, u69_19, u69_22, u69_23, mw_os, wp_ite, mw_sw, Option.toList_some, Option.toList_none, List.cons_append, List.nil_append, true_and, and_true, if_true, if_false, mw_s_, mw_s_i, mw_s_r, mw_s_ii, mw_s_ir, mw_s_ri, mw_s_rr, mw_s_iii, mw_s_iir, mw_s_iri, mw_s_irr, mw_s_rii, mw_s_rir, mw_s_rri, mw_s_rrr, mw_s_iiii, mw_s_iiir, mw_s_iiri, mw_s_iirr, mw_s_irii, mw_s_irir, mw_s_irri, mw_s_irrr, mw_s_riii, mw_s_riir, mw_s_riri, mw_s_rirr, mw_s_rrii, mw_s_rrir, mw_s_rrri, mw_s_rrrr, h4]
  simp
theorem W73 {d : Nat} (h : SA M s v) (hd : d < 5) (hn : sN v = nI d) : Wp scr (n + 1) 73 [.ref s] M Q ↔ Q (some (.ref (la s d))) M := by
  simp only [e73, u73_0, u73_1, u73_4, u73_5, u73_8, u73_9, mw_os, wp_ite, mw_sw, Option.toList_some, Option.toList_none, List.cons_append, List.nil_append, true_and, and_true, if_true, if_false, mw_s_, mw_s_i, mw_s_r, mw_s_ii, mw_s_ir, mw_s_ri, mw_s_rr, mw_s_iii, mw_s_iir, mw_s_iri, mw_s_irr, mw_s_rii, mw_s_rir, mw_s_rri, mw_s_rrr, mw_s_iiii, mw_s_iiir, mw_s_iiri, mw_s_iirr, mw_s_irii, mw_s_irir, mw_s_irri, mw_s_irrr, mw_s_riii, mw_s_riir, mw_s_riri, mw_s_rirr, mw_s_rrii, mw_s_rrir, mw_s_rrri, mw_s_rrrr, SA_0 h, SA_4 h, hn, SA_l h hd]
def efO (v : SV) (i : Nat) (side : Int32) : Int32 := sEf (gi (sK v) (nI i)) (gi (sF v) (nI i)) (gi (sWo v) (nI i)) side
theorem W72 {i : Nat} {x : Int32} (h : SA M s v) (hv : SOK v) (hi : i < 10) : Wp scr (n + 3) 72 [.ref s, .int (nI i), .int x] M Q ↔ Q (some (.int (efO v i x))) M := by
  obtain ⟨l1, l2, l3⟩ := hv
  simp only [e72, u72_0, u72_1, u72_4, u72_5, u72_6, u72_7, u72_10, u72_11, u72_12, u72_13, u72_16, u72_17, u72_18, u72_19, u72_22, mw_os, wp_ite, mw_sw, Option.toList_some, Option.toList_none, List.cons_append, List.nil_append, true_and, and_true, if_true, if_false, mw_s_, mw_s_i, mw_s_r, mw_s_ii, mw_s_ir, mw_s_ri, mw_s_rr, mw_s_iii, mw_s_iir, mw_s_iri, mw_s_irr, mw_s_rii, mw_s_rir, mw_s_rri, mw_s_rrr, mw_s_iiii, mw_s_iiir, mw_s_iiri, mw_s_iirr, mw_s_irii, mw_s_irir, mw_s_irri, mw_s_irrr, mw_s_riii, mw_s_riir, mw_s_riri, mw_s_rirr, mw_s_rrii, mw_s_rrir, mw_s_rrri, mw_s_rrrr, SA_1 h, SA_2 h, SA_3 h, SA_k h, SA_f h, SA_w h, gi_at (l1.symm ▸ nI_in10 hi : vp_in (nI i) (sK v).length), gi_at (l2.symm ▸ nI_in10 hi : vp_in (nI i) (sF v).length), gi_at (l3.symm ▸ nI_in10 hi : vp_in (nI i) (sWo v).length), W16]
  rfl
def wbO (v : SV) (u : LV) (i : Nat) : Int32 := if (vF u >>> (nI i &&& 31)) &&& 1 = 0 then gi (sWo v) (nI i) else mn 99 (gi (sWo v) (nI i) + sWr (gi (sK v) (nI i)) (gi (sWo v) (nI i)) (gi (vS u) (nI i)))
theorem W75 {i : Nat} (h : SA M s v) (hv : SOK v) (hl : LA M b u) (hu : LOK u) (hi : i < 10) : Wp scr (n + 3) 75 [.ref s, .int (nI i), .ref b] M Q ↔ Q (some (.int (wbO v u i))) M := by
  obtain ⟨l1, l2, l3⟩ := hv
  simp only [e75, u75_0, u75_1, u75_4, u75_5, u75_6, u75_7, u75_8, u75_11, u75_12, u75_15, u75_16, u75_17, u75_18, u75_19, u75_22, u75_23, u75_24, u75_25, u75_28, u75_29, u75_30, u75_31, u75_34, u75_35, u75_36, u75_39, u75_40, u75_42, u75_43, u75_46, u75_47, u75_48, u75_49, u75_50, u75_53, mw_os, wp_ite, mw_sw, Option.toList_some, Option.toList_none, List.cons_append, List.nil_append, true_and, and_true, if_true, if_false, mw_s_, mw_s_i, mw_s_r, mw_s_ii, mw_s_ir, mw_s_ri, mw_s_rr, mw_s_iii, mw_s_iir, mw_s_iri, mw_s_irr, mw_s_rii, mw_s_rir, mw_s_rri, mw_s_rrr, mw_s_iiii, mw_s_iiir, mw_s_iiri, mw_s_iirr, mw_s_irii, mw_s_irir, mw_s_irri, mw_s_irrr, mw_s_riii, mw_s_riir, mw_s_riri, mw_s_rirr, mw_s_rrii, mw_s_rrir, mw_s_rrri, mw_s_rrrr, mm_sto1, mm_clr, mm_isL, List.getElem?_cons_zero, List.getElem?_cons_succ, List.set_cons_zero, List.set_cons_succ, Bool.false_eq_true, SA_1 h, SA_3 h, SA_k h, SA_w h, LA_8 hl, LA_4 hl, LA_s hl, gi_at (l1.symm ▸ nI_in10 hi : vp_in (nI i) (sK v).length), gi_at (l3.symm ▸ nI_in10 hi : vp_in (nI i) (sWo v).length), gi_at (hu.2.2.2.2.1.symm ▸ nI_in10 hi : vp_in (nI i) (vS u).length), W19]
  unfold wbO mn
  split <;> rfl
theorem SOK_xW {t : List Int32} (hv : SOK v) (ht : t.length = 10) : SOK (xW v t) := ⟨hv.1, hv.2.1, ht⟩
def wdStep (v : SV) (u : LV) (t : List Int32) (i : Nat) : List Int32 := t.set i (wbO (xW v t) u i)
def wdOf (v : SV) (u : LV) : List Int32 := (List.range' 0 10).foldl (wdStep v u) (sWo v)
theorem W74 (hM : s + 4 < M.length) (hv : SOK v) (hl : LA M b u) (hu : LOK u) (hd : b + 7 ≤ s ∨ s + 5 ≤ b) : Wp scr (n + 4) 74 [.ref s, .ref b] (ph M s v) Q ↔ Q none (ph M s (xW v (wdOf v u))) := by
  have hb : ∀ w : SV, LA (ph M s w) b u := fun w => LA_ph hl hd
  have key := nf_loopI (N := 10) (Φ := fun i (t : List Int32) => wp scr (n + 3) mb_74 2 [some (.ref s), some (.ref b), some (.int (nI i))] [] (ph M s (xW v t)) Q) (Ψ := fun t => Q none (ph M s (xW v t))) (step := wdStep v u) (I := fun _ t => t.length = 10)
    (fun i t _ ht => by unfold wdStep; rw [List.length_set]; exact ht)
    (fun i t hi ht => u74_2.trans (by
      have h1 : ∀ x, mm_sti (ph M s (xW v t)) (.ref (s + 4)) (nI i) x = some (ph M s (xW v (t.set i x))) := fun x => by
        rw [ph_stW hM (by show vp_in (nI i) t.length; rw [ht]; exact nI_in10 hi), clN hi]; rfl
      simp only [e74, u74_0, u74_1, u74_3, u74_5, u74_8, u74_9, u74_12, u74_13, u74_14, u74_15, u74_16, u74_19, u74_20, u74_23, u74_26, mw_os, wp_ite, mw_sw, Option.toList_some, Option.toList_none, List.cons_append, List.nil_append, true_and, and_true, if_true, if_false, mw_s_, mw_s_i, mw_s_r, mw_s_ii, mw_s_ir, mw_s_ri, mw_s_rr, mw_s_iii, mw_s_iir, mw_s_iri, mw_s_irr, mw_s_rii, mw_s_rir, mw_s_rri, mw_s_rrr, mw_s_iiii, mw_s_iiir, mw_s_iiri, mw_s_iirr, mw_s_irii, mw_s_irir, mw_s_irri, mw_s_irrr, mw_s_riii, mw_s_riir, mw_s_riri, mw_s_rirr, mw_s_rrii, mw_s_rrir, mw_s_rrri, mw_s_rrrr, mm_sto1, mm_clr, mm_isL, List.getElem?_cons_zero, List.getElem?_cons_succ, List.set_cons_zero, List.set_cons_succ, Bool.false_eq_true, SA_3 (ph_SA hM), SA_x (ph_SA hM), W75 (ph_SA hM) (SOK_xW hv ht) (hb _) hu hi, h1, nle10 hi, nI_1]
      exact Iff.rfl))
    (fun t ht => u74_2.trans (by simp only [u74_3, u74_5, u74_26, mw_os, wp_ite, mw_sw, Option.toList_some, Option.toList_none, List.cons_append, List.nil_append, true_and, and_true, if_true, if_false, mw_s_, mw_s_i, mw_s_r, mw_s_ii, mw_s_ir, mw_s_ri, mw_s_rr, mw_s_iii, mw_s_iir, mw_s_iri, mw_s_irr, mw_s_rii, mw_s_rir, mw_s_rri, mw_s_rrr, mw_s_iiii, mw_s_iiir, mw_s_iiri, mw_s_iirr, mw_s_irii, mw_s_irir, mw_s_irri, mw_s_irrr, mw_s_riii, mw_s_riir, mw_s_riri, mw_s_rirr, mw_s_rrii, mw_s_rrir, mw_s_rrri, mw_s_rrrr, nle10e])) 10 0 (sWo v) rfl hv.2.2
  rw [wdOf, ← key.1]
  simp only [e74, u74_0, u74_1, mw_os, wp_ite, mw_sw, Option.toList_some, Option.toList_none, List.cons_append, List.nil_append, true_and, and_true, if_true, if_false, mw_s_, mw_s_i, mw_s_r, mw_s_ii, mw_s_ir, mw_s_ri, mw_s_rr, mw_s_iii, mw_s_iir, mw_s_iri, mw_s_irr, mw_s_rii, mw_s_rir, mw_s_rri, mw_s_rrr, mw_s_iiii, mw_s_iiir, mw_s_iiri, mw_s_iirr, mw_s_irii, mw_s_irir, mw_s_irri, mw_s_irrr, mw_s_riii, mw_s_riir, mw_s_riri, mw_s_rirr, mw_s_rrii, mw_s_rrir, mw_s_rrri, mw_s_rrrr, mm_sto1, mm_clr, mm_isL, List.getElem?_cons_zero, List.getElem?_cons_succ, List.set_cons_zero, List.set_cons_succ, Bool.false_eq_true]
  exact Iff.rfl
def tfStep (v : SV) (x : LV) (t : Int32) (i : Nat) : Int32 := if (vF x >>> (nI i &&& 31)) &&& 1 = 0 then t else t + efO v i (gi (vS x) (nI i))
def tfE (v : SV) (x : LV) : Int32 := (List.range' 0 10).foldl (tfStep v x) 0
theorem LOK_LEN {x : LV} (h : LOK x) : LEN x := ⟨h.1, h.2.1, h.2.2.1, h.2.2.2.1, h.2.2.2.2.1, h.2.2.2.2.2.1⟩
theorem W71 {d : Nat} {line way : Int32} {w : LV} (h : SA M s v) (hv : SOK v) (hd : d < 4) (hl : LA M (la s d) u) (hw : LA M (la s (d + 1)) w) (hu : LOK u) (hm : MOK u (bfR line) (bfC line)) (hs0 : LEN w) (hn : LOK (fC u line way)) : Wp scr (n + 4) 71 [.ref s, .int (nI d), .int line, .int way] M Q ↔ Q (some (.int (tfE v (fC u line way)))) (pl M (la s (d + 1)) (fC u line way)) := by
  have hM := LA_len hw
  have w24 : ∀ Q : Option Value → mm_M → Prop, Wp scr (n + 3) 24 [.ref (la s (d + 1)), .ref (la s d), .int line, .int way] M Q ↔ Q none (pl M (la s (d + 1)) (fC u line way)) := fun Q => by
    have := W24 (scr := scr) (n := n) (Q := Q) (v := w) (line := line) (way := way) hM hl (Or.inl (by unfold la; omega)) hu hm hs0 hn
    rw [pl_self hw] at this
    exact this
  have hS : SA (pl M (la s (d + 1)) (fC u line way)) s v := SA_pl h (Or.inr (by unfold la; omega))
  have hL : LA (pl M (la s (d + 1)) (fC u line way)) (la s (d + 1)) (fC u line way) := pl_LA hM
  have key := nf_loop (N := 10) (Φ := fun i (t : Int32) => wp scr (n + 3) mb_71 29 [some (.ref s), some (.int (nI d)), some (.int line), some (.int way), some (.ref (la s (d + 1))), some (.int t), some (.int (nI i))] [] (pl M (la s (d + 1)) (fC u line way)) Q) (Ψ := fun t => Q (some (.int t)) (pl M (la s (d + 1)) (fC u line way))) (step := tfStep v (fC u line way))
    (fun i t hi => u71_29.trans (by
      simp only [e71, u71_0, u71_1, u71_4, u71_5, u71_6, u71_7, u71_8, u71_10, u71_12, u71_13, u71_16, u71_17, u71_18, u71_19, u71_20, u71_23, u71_24, u71_26, u71_27, u71_31, u71_33, u71_36, u71_38, u71_41, u71_43, u71_44, u71_45, u71_46, u71_49, u71_51, u71_52, u71_54, u71_56, u71_59, u71_61, u71_62, u71_65, u71_66, u71_68, u71_71, u71_74, u71_76, mw_os, wp_ite, mw_sw, Option.toList_some, Option.toList_none, List.cons_append, List.nil_append, true_and, and_true, if_true, if_false, mw_s_, mw_s_i, mw_s_r, mw_s_ii, mw_s_ir, mw_s_ri, mw_s_rr, mw_s_iii, mw_s_iir, mw_s_iri, mw_s_irr, mw_s_rii, mw_s_rir, mw_s_rri, mw_s_rrr, mw_s_iiii, mw_s_iiir, mw_s_iiri, mw_s_iirr, mw_s_irii, mw_s_irir, mw_s_irri, mw_s_irrr, mw_s_riii, mw_s_riir, mw_s_riri, mw_s_rirr, mw_s_rrii, mw_s_rrir, mw_s_rrri, mw_s_rrrr, mm_sto1, mm_clr, mm_isL, List.getElem?_cons_zero, List.getElem?_cons_succ, List.set_cons_zero, List.set_cons_succ, Bool.false_eq_true, LA_8 hL, LA_4 hL, LA_s hL, SA_x hS, gi_at (hn.2.2.2.2.1.symm ▸ nI_in10 hi : vp_in (nI i) (vS (fC u line way)).length), W72 hS hv hi, nle10 hi, nI_1]
      unfold tfStep
      split <;> rfl))
    (fun t => u71_29.trans (by simp only [u71_31, u71_33, u71_74, u71_76, mw_os, wp_ite, mw_sw, Option.toList_some, Option.toList_none, List.cons_append, List.nil_append, true_and, and_true, if_true, if_false, mw_s_, mw_s_i, mw_s_r, mw_s_ii, mw_s_ir, mw_s_ri, mw_s_rr, mw_s_iii, mw_s_iir, mw_s_iri, mw_s_irr, mw_s_rii, mw_s_rir, mw_s_rri, mw_s_rrr, mw_s_iiii, mw_s_iiir, mw_s_iiri, mw_s_iirr, mw_s_irii, mw_s_irir, mw_s_irri, mw_s_irrr, mw_s_riii, mw_s_riir, mw_s_riri, mw_s_rirr, mw_s_rrii, mw_s_rrir, mw_s_rrri, mw_s_rrrr, nle10e])) 10 0 0 rfl
  rw [tfE, ← key]
  simp only [e71, u71_0, u71_1, u71_4, u71_5, u71_6, u71_7, u71_8, u71_10, u71_12, u71_13, u71_16, u71_17, u71_18, u71_19, u71_20, u71_23, u71_24, u71_26, u71_27, mw_os, wp_ite, mw_sw, Option.toList_some, Option.toList_none, List.cons_append, List.nil_append, true_and, and_true, if_true, if_false, mw_s_, mw_s_i, mw_s_r, mw_s_ii, mw_s_ir, mw_s_ri, mw_s_rr, mw_s_iii, mw_s_iir, mw_s_iri, mw_s_irr, mw_s_rii, mw_s_rir, mw_s_rri, mw_s_rrr, mw_s_iiii, mw_s_iiir, mw_s_iiri, mw_s_iirr, mw_s_irii, mw_s_irir, mw_s_irri, mw_s_irrr, mw_s_riii, mw_s_riir, mw_s_riri, mw_s_rirr, mw_s_rrii, mw_s_rrir, mw_s_rrri, mw_s_rrrr, mm_sto1, mm_clr, mm_isL, List.getElem?_cons_zero, List.getElem?_cons_succ, List.set_cons_zero, List.set_cons_succ, Bool.false_eq_true, SA_0 h, nI_1, SA_l h (show d + 1 < 5 by omega), SA_l h (show d < 5 by omega), LA_x hw, w24]
  exact Iff.rfl
end SH1
