theorem Wp_det {scr : List Int32} {n k : Nat} {as : List Value} {M M' : mm_M} {r : Option Value} (h : ∀ Q : Option Value → mm_M → Prop, Q r M' → Wp scr n k as M Q) {Q : Option Value → mm_M → Prop} : Wp scr n k as M Q ↔ Q r M' := by
  refine ⟨fun hq => ?_, h Q⟩
  obtain ⟨F1, r1, M1, e1, rfl, rfl⟩ := h (fun a b => a = r ∧ b = M') ⟨rfl, rfl⟩
  obtain ⟨F2, r2, M2, e2, q2⟩ := hq
  have h1 := mm_ev_le (Nat.le_max_left F1 F2) n n (Nat.le_refl _) _ _ _ _ e1
  have h2 := mm_ev_le (Nat.le_max_right F1 F2) n n (Nat.le_refl _) _ _ _ _ e2
  cases h1.symm.trans h2
  exact q2
theorem nf_imp {σ : Type} {N : Nat} {Φ : Nat → σ → Prop} {Ψ : σ → Prop} {step : σ → Nat → σ} {I : Nat → σ → Prop} (hI : ∀ i s, i < N → I i s → I (i + 1) (step s i)) (hs : ∀ i s, i < N → I i s → Φ (i + 1) (step s i) → Φ i s) (he : ∀ s, I N s → Ψ s → Φ N s) : ∀ (k i : Nat) (s : σ), i + k = N → I i s → (Ψ ((List.range' i k).foldl step s) → Φ i s) ∧ I N ((List.range' i k).foldl step s) := by
  intro k
  induction k with
  | zero =>
    intro i s h hi
    have : i = N := by omega
    subst this
    exact ⟨he s hi, hi⟩
  | succ k ih =>
    intro i s h hi
    rw [List.range'_succ, List.foldl_cons]
    have h1 := ih (i + 1) (step s i) (by omega) (hI i s (by omega) hi)
    exact ⟨fun q => hs i s (by omega) hi (h1.1 q), h1.2⟩
section LB2
variable {scr : List Int32} {n : Nat} {M : mm_M} {Q : Option Value → mm_M → Prop} {a b : Nat} {u v : LV}
theorem gi_set {s : List Int32} {i : Nat} {x : Int32} (h : i < s.length) (h2 : i < 10) : gi (s.set i x) (nI i) = x := by
  rw [gi_n (by omega), List.getD_eq_getElem?_getD, List.getElem?_set_self h]
  rfl
/-- a fold's creases: sides and which are new -/
def fcV (u : LV) (r : Bool) (cut : Int32) (o : Bool) (i : Nat) : Int32 := if decide (gi (vD u) (gi cS (nI i)) = 0) = o then 2 else 1
def fcStep (u : LV) (r : Bool) (cut : Int32) (o : Bool) (s : List Int32 × Int32) (i : Nat) : List Int32 × Int32 :=
  if gi (vS u) (nI i) = 0 ∧ lAc u r cut i = true then (s.1.set i (fcV u r cut o i), s.2 ||| ((1 : Int32) <<< (nI i &&& 31))) else (s.1.set i (gi (vS u) (nI i)), s.2)
def fcOf (u : LV) (r : Bool) (cut : Int32) (o : Bool) (s : List Int32) : List Int32 × Int32 := (List.range' 0 10).foldl (fcStep u r cut o) (s, 0)
theorem fcLen {u : LV} {r : Bool} {cut : Int32} {o : Bool} {s : List Int32 × Int32} {i : Nat} : (fcStep u r cut o s i).1.length = s.1.length := by
  unfold fcStep
  split <;> simp
theorem W29 {r o : Bool} {cut : Int32} (hM : a + 6 < M.length) (hb : LA M b u) (hd : b + 7 ≤ a ∨ a + 7 ≤ b) (hu : LOK u) (hs : (vS v).length = 10) : Wp scr (n + 2) 29 [.ref a, .ref b, .int (bi r), .int cut, .int (bi o)] (pl M a v) Q ↔ Q none (pl M a (uF (uS v (fcOf u r cut o (vS v)).1) (fcOf u r cut o (vS v)).2)) := by
  refine Wp_det (fun Q hQ => ?_)
  have hbM : ∀ w : LV, LA (pl M a w) b u := fun w => pl_other hb hd
  have key := nf_imp (N := 10) (Φ := fun i (s : List Int32 × Int32) => ∀ l6, wp scr (n + 1) mb_29 8 [some (.ref a), some (.ref b), some (.int (bi r)), some (.int cut), some (.int (bi o)), some (.int (nI i)), l6] [] (pl M a (uF (uS v s.1) s.2)) Q) (Ψ := fun s => Q none (pl M a (uF (uS v s.1) s.2))) (step := fcStep u r cut o) (I := fun _ s => s.1.length = 10)
    (fun i s _ hs => by rw [fcLen]; exact hs)
    (fun i s hi hs => by
      have hin : vp_in (nI i) (vS u).length := by rw [hu.2.2.2.2.1]; exact nI_in10 hi
      have hin2 : ∀ f : Int32, ∀ t : List Int32, t.length = 10 → vp_in (nI i) (vS (uF (uS v t) f)).length := fun f t ht => by show vp_in (nI i) t.length; rw [ht]; exact nI_in10 hi
      have hsv := gi_at hin
      have hds := gi_at (hu.2.2.2.1.symm ▸ cS_in hi : vp_in (gi cS (nI i)) (vD u).length)
      have hst : ∀ (x f : Int32) (t : List Int32), t.length = 10 → mm_sti (pl M a (uF (uS v t) f)) (.ref (a + 5)) (nI i) x = some (pl M a (uF (uS v (t.set i x)) f)) := fun x f t ht => by
        rw [pl_stS hM (hin2 f t ht), clN hi]; rfl
      have hrd : ∀ (x f : Int32), mm_ld (mc_X scr) (pl M a (uF (uS v (s.1.set i x)) f)) (.ref (a + 5)) (nI i) = some x := fun x f => by
        rw [LA_s (pl_LA hM)]
        show mm_at (s.1.set i x) (nI i) = some x
        rw [gi_at (by rw [List.length_set, hs]; exact nI_in10 hi), gi_set (by omega) hi]
      have hpu : ∀ (x f : Int32) (t : List Int32), mm_put mc_fty (pl M a (uF (uS v t) f)) (.ref a) (.int x) 1 8 = some (pl M a (uF (uS v t) x)) := fun x f t => pl_puF hM
      have hss : ∀ (x y : Int32), (s.1.set i x).set i y = s.1.set i y := fun x y => List.set_set ..
      have hst2 : ∀ (x y f : Int32), mm_sti (pl M a (uF (uS v (s.1.set i x)) f)) (.ref (a + 5)) (nI i) y = some (pl M a (uF (uS v (s.1.set i y)) f)) := fun x y f => by
        rw [hst y f _ (by rw [List.length_set]; exact hs), hss]
      have hf8 : ∀ (f : Int32) (t : List Int32), mm_fld (mc_X scr) (pl M a (uF (uS v t) f)) (.ref a) 1 8 = some (.int f) := fun f t => LA_8 (pl_LA hM)
      have main : ∀ l6, wp scr (n + 1) mb_29 8 [some (.ref a), some (.ref b), some (.int (bi r)), some (.int cut), some (.int (bi o)), some (.int (nI i)), l6] [] (pl M a (uF (uS v s.1) s.2)) Q ↔ (if gi (vS u) (nI i) = 0 ∧ lAc u r cut i = true then wp scr (n + 1) mb_29 8 [some (.ref a), some (.ref b), some (.int (bi r)), some (.int cut), some (.int (bi o)), some (.int (nI (i + 1))), some (.int (bi (decide (gi (vD u) (gi cS (nI i)) = 0))))] [] (pl M a (uF (uS v (s.1.set i (fcV u r cut o i))) (s.2 ||| ((1 : Int32) <<< (nI i &&& 31))))) Q else wp scr (n + 1) mb_29 8 [some (.ref a), some (.ref b), some (.int (bi r)), some (.int cut), some (.int (bi o)), some (.int (nI (i + 1))), l6] [] (pl M a (uF (uS v (s.1.set i (gi (vS u) (nI i)))) s.2)) Q) := by
        intro l6
        refine u29_8.trans ?_
        simp only [e29, u29_0, u29_1, u29_2, u29_5, u29_6, u29_10, u29_12, u29_15, u29_16, u29_19, u29_21, u29_22, u29_25, u29_27, u29_28, u29_29, u29_30, u29_33, u29_35, u29_36, u29_39, u29_40, u29_42, u29_43, u29_44, u29_47, u29_50, u29_51, u29_54, u29_57, u29_59, u29_60, u29_61, u29_64, u29_65, u29_68, u29_69, u29_71, u29_72, u29_75, u29_77, u29_79, u29_81, u29_84, u29_85, u29_88, u29_89, u29_90, u29_91, u29_92, u29_95, u29_96, u29_98, u29_99, u29_100, u29_103, u29_106, u29_109, mw_os, wp_ite, mw_sw, Option.toList_some, Option.toList_none, List.cons_append, List.nil_append, true_and, and_true, if_true, if_false, mw_s_, mw_s_i, mw_s_r, mw_s_ii, mw_s_ir, mw_s_ri, mw_s_rr, mw_s_iii, mw_s_iir, mw_s_iri, mw_s_irr, mw_s_rii, mw_s_rir, mw_s_rri, mw_s_rrr, mw_s_iiii, mw_s_iiir, mw_s_iiri, mw_s_iirr, mw_s_irii, mw_s_irir, mw_s_irri, mw_s_irrr, mw_s_riii, mw_s_riir, mw_s_riri, mw_s_rirr, mw_s_rrii, mw_s_rrir, mw_s_rrri, mw_s_rrrr, mm_sto1, mm_clr, mm_isL, List.getElem?_cons_zero, List.getElem?_cons_succ, List.set_cons_zero, List.set_cons_succ, Bool.false_eq_true, LA_4 (pl_LA hM), LA_4 (hbM _), LA_3 (hbM _), LA_s (hbM _), LA_d (hbM _), LA_x (hbM _), hsv, hds, hst _ _ _ hs, hst2, hrd, hpu, hf8, W30 (hbM _) hu hi, ld_cS hi, nle10 hi, nI_1]
        by_cases q1 : gi (vS u) (nI i) = 0
        · cases q2 : lAc u r cut i
          · simp [q1, bi]
          · by_cases q3 : gi (vD u) (gi cS (nI i)) = 0
            · cases o <;> simp [q1, q3, bi, fcV]
            · cases o <;> simp [q1, q3, bi, fcV]
        · simp [q1]
      intro h l6
      rw [main]
      unfold fcStep at h
      split
      · rename_i hc; rw [if_pos hc] at h; exact h _
      · rename_i hc; rw [if_neg hc] at h; exact h _)
    (fun s hs h l6 => u29_8.mpr (by simp only [u29_10, u29_12, u29_109, mw_os, wp_ite, mw_sw, Option.toList_some, Option.toList_none, List.cons_append, List.nil_append, true_and, and_true, if_true, if_false, mw_s_, mw_s_i, mw_s_r, mw_s_ii, mw_s_ir, mw_s_ri, mw_s_rr, mw_s_iii, mw_s_iir, mw_s_iri, mw_s_irr, mw_s_rii, mw_s_rir, mw_s_rri, mw_s_rrr, mw_s_iiii, mw_s_iiir, mw_s_iiri, mw_s_iirr, mw_s_irii, mw_s_irir, mw_s_irri, mw_s_irrr, mw_s_riii, mw_s_riir, mw_s_riri, mw_s_rirr, mw_s_rrii, mw_s_rrir, mw_s_rrri, mw_s_rrrr, nle10e]; exact h)) 10 0 (vS v, 0) rfl hs
  simp only [e29, u29_0, u29_1, u29_2, u29_5, u29_6, mw_os, wp_ite, mw_sw, Option.toList_some, Option.toList_none, List.cons_append, List.nil_append, true_and, and_true, if_true, if_false, mw_s_, mw_s_i, mw_s_r, mw_s_ii, mw_s_ir, mw_s_ri, mw_s_rr, mw_s_iii, mw_s_iir, mw_s_iri, mw_s_irr, mw_s_rii, mw_s_rir, mw_s_rri, mw_s_rrr, mw_s_iiii, mw_s_iiir, mw_s_iiri, mw_s_iirr, mw_s_irii, mw_s_irir, mw_s_irri, mw_s_irrr, mw_s_riii, mw_s_riir, mw_s_riri, mw_s_rirr, mw_s_rrii, mw_s_rrir, mw_s_rrri, mw_s_rrrr, mm_sto1, mm_clr, mm_isL, List.getElem?_cons_zero, List.getElem?_cons_succ, List.set_cons_zero, List.set_cons_succ, Bool.false_eq_true, pl_puF hM]
  exact key.1 hQ none
/-! moving the panels -/
def mvPl (u : LV) (r : Bool) (i : Nat) : Int32 := gi (if r = true then vR u else vC u) (nI i)
def mvAs (u : LV) (r : Bool) (i : Nat) : Int32 := gi (if r = true then vC u else vR u) (nI i)
def mvMi (u : LV) (r : Bool) (cut : Int32) (i : Nat) : Int32 := 2 * cut - 1 - mvPl u r i
def mvFa (u : LV) (r : Bool) (cut len : Int32) (i : Nat) : Int32 := if 0 ≤ mvMi u r cut i ∧ mvMi u r cut i < len then gi (vH u) (hIx r (mvMi u r cut i) (mvAs u r i)) else 0
def mvGo (u : LV) (r g : Bool) (cut : Int32) (i : Nat) : Bool := decide (mvPl u r i < cut) == g
def mvLa (u : LV) (r g o : Bool) (cut len : Int32) (i : Nat) : Int32 := if mvGo u r g cut i = true then gi (vH u) (hIx r (mvPl u r i) (mvAs u r i)) - 1 - gi (vL u) (nI i) + (if o = true then mvFa u r cut len i else 0) else gi (vL u) (nI i) + (if o = true then 0 else mvFa u r cut len i)
def mvDn (u : LV) (r g : Bool) (cut : Int32) (i : Nat) : Int32 := if mvGo u r g cut i = true then 1 - gi (vD u) (nI i) else gi (vD u) (nI i)
def mvMo (u : LV) (r g : Bool) (cut start : Int32) (i : Nat) : Int32 := (if mvGo u r g cut i = true then mvMi u r cut i else mvPl u r i) - start
def mvStep (u : LV) (r g o : Bool) (cut len start : Int32) (s : LV) (i : Nat) : LV :=
  uR (uC (uD (uL s ((vL s).set i (mvLa u r g o cut len i))) ((vD s).set i (mvDn u r g cut i))) ((vC s).set i (if r = true then mvAs u r i else mvMo u r g cut start i))) ((vR s).set i (if r = true then mvMo u r g cut start i else mvAs u r i))
def mvLen (u : LV) (r : Bool) : Int32 := if r = true then vT u else vW u
def mvSt (u : LV) (r g : Bool) (cut : Int32) : Int32 := if g = true then cut else mn 0 (2 * cut - mvLen u r)
def mvOf (u : LV) (r g o : Bool) (cut : Int32) (s : LV) : LV := (List.range' 0 8).foldl (mvStep u r g o cut (mvLen u r) (mvSt u r g cut)) s
/-- what movePanels needs of what lies ahead -/
def MOK (u : LV) (r : Bool) (cut : Int32) : Prop := ∀ i, i < 8 → vp_in (hIx r (mvPl u r i) (mvAs u r i)) 8 ∧ (0 ≤ mvMi u r cut i → mvMi u r cut i < mvLen u r → vp_in (hIx r (mvMi u r cut i) (mvAs u r i)) 8)
def LEN (v : LV) : Prop := (vC v).length = 8 ∧ (vR v).length = 8 ∧ (vL v).length = 8 ∧ (vD v).length = 8 ∧ (vS v).length = 10 ∧ (vH v).length = 8
theorem LEN_mv {r g o : Bool} {cut len start : Int32} {s : LV} {i : Nat} (h : LEN s) : LEN (mvStep u r g o cut len start s i) := by
  obtain ⟨l1, l2, l3, l4, l5, l6⟩ := h
  refine ⟨?_, ?_, ?_, ?_, l5, l6⟩
  · show ((vC s).set i _).length = 8; rw [List.length_set]; exact l1
  · show ((vR s).set i _).length = 8; rw [List.length_set]; exact l2
  · show ((vL s).set i _).length = 8; rw [List.length_set]; exact l3
  · show ((vD s).set i _).length = 8; rw [List.length_set]; exact l4
end LB2
