/-! wind by odds -/
theorem gs_poss {T : Nat → Nat} {tb tb' : Nat → Bool} : ∀ (m k : Nat) (h h' : HV), vW (hU h) = vW (hU h') → vT (hU h) = vT (hU h') → (gsF T tb m k h).1 = none → (gsF T tb' m k h').1 = none := by
  intro m
  induction m with
  | zero => intro k h h' _ _ _; rfl
  | succ m ih =>
    intro k h h' e1 e2 hn
    have hh : ∀ x, hasL (hU h') x = hasL (hU h) x := fun x => by unfold hasL; rw [e1, e2]
    rw [gsF] at hn ⊢
    by_cases c : hasL (hU h) (nI (T k / 10)) = true ∧ T k % 10 < 4
    · rw [if_pos c] at hn
      rw [if_pos (by rw [hh]; exact c)]
      refine ih (k + 1) _ _ ?_ ?_ hn
      · rw [hF_U, hF_U]
        show fcW (hU h) _ _ = fcW (hU h') _ _
        unfold fcW
        rw [e1]
      · rw [hF_U, hF_U]
        show fcT (hU h) _ = fcT (hU h') _
        unfold fcT
        rw [e2]
    · rw [if_neg c] at hn
      cases hn
def odN (b c gu : Nat) : Nat := (List.range' 0 c).foldl (fun s k => s * (if foB (nI gu) k = true then 1 else b)) 1
theorem od_eq : ∀ c, c < 5 → ∀ gu, gu < 16 → gu < 2 ^ c → ∀ b, b < 20 → odN b c gu = b ^ (c - bcN gu) ∧ bcN gu ≤ c := by decide +kernel
theorem od_sum : ∀ c, c < 5 → ∀ b, b < 20 → (List.range' 0 (2 ^ c)).foldl (fun s gu => s + b ^ (c - bcN gu)) 0 = (b + 1) ^ c := by decide +kernel
theorem sh2 : ∀ c, c < 5 → (1 : Int32) <<< (nI c &&& 31) = nI (2 ^ c) := by decide +kernel
section WD
variable {scr : List Int32} {n : Nat} {M M0 : mm_M} {Q : Option Value → mm_M → Prop} {g : SG}
/-- is the cover out behind the told folds, some of them turned -/
def ouB (g : SG) (gu : Nat) : Bool := vSb (hU (gsF (tN g) (foB (nI gu)) (gTc g) 0 (gN g)).2) (sCv (gN g).1)
def ouW (g : SG) (b c gu : Nat) : Nat := if ouB g gu = true then b ^ (c - bcN gu) else 0
theorem W122 {b e : Nat} (he : e < 2 ^ 31) : Wp scr (n + 1) 122 [.long (lN b), .int (nI e)] M Q ↔ Q (some (.long (lN (b ^ e)))) M := by
  have hlf : mm_isL (some (none : Option Value)) = false := rfl
  have hll : ∀ z : Int64, mm_isL (some (some (Value.long z))) = true := fun _ => rfl
  have hli : ∀ x : Int32, mm_isL (some (some (Value.int x))) = false := fun _ => rfl
  have key := nf_loop (N := e) (Φ := fun i (s : Nat) => wp scr n mb_122 5 [some (.long (lN b)), none, some (.int (nI e)), some (.long (lN s)), none, some (.int (nI i))] [] M Q) (Ψ := fun s => Q (some (.long (lN s))) M) (step := fun s _ => s * b)
    (fun i s hi => u122_5.trans (by
      have hle : (nI e ≤ nI i) ↔ False := iff_false_intro (nI_ge hi he)
      simp only [e122, u122_0, u122_1, u122_2, u122_3, u122_7, u122_8, u122_11, u122_12, u122_13, u122_14, u122_15, u122_18, u122_21, u122_22, mw_os, wp_ite, mw_sw, Option.toList_some, Option.toList_none, List.cons_append, List.nil_append, true_and, and_true, if_true, if_false, mw_s_, mw_s_i, mw_s_r, mw_s_ii, mw_s_ir, mw_s_ri, mw_s_rr, mw_s_iii, mw_s_iir, mw_s_iri, mw_s_irr, mw_s_rii, mw_s_rir, mw_s_rri, mw_s_rrr, mw_s_iiii, mw_s_iiir, mw_s_iiri, mw_s_iirr, mw_s_irii, mw_s_irir, mw_s_irri, mw_s_irrr, mw_s_riii, mw_s_riir, mw_s_riri, mw_s_rirr, mw_s_rrii, mw_s_rrir, mw_s_rrri, mw_s_rrrr, hle, lN_mul, nI_1, mm_sto2, mm_sto1, mm_clr, List.getElem?_cons_zero, List.getElem?_cons_succ, List.set_cons_zero, List.set_cons_succ, hlf, hll, hli, Bool.false_eq_true]))
    (fun s => u122_5.trans (by
      have hle : (nI e ≤ nI e) ↔ True := iff_true_intro (nI_le (Nat.le_refl _) he)
      simp only [u122_7, u122_8, u122_21, u122_22, mw_os, wp_ite, mw_sw, Option.toList_some, Option.toList_none, List.cons_append, List.nil_append, true_and, and_true, if_true, if_false, mw_s_, mw_s_i, mw_s_r, mw_s_ii, mw_s_ir, mw_s_ri, mw_s_rr, mw_s_iii, mw_s_iir, mw_s_iri, mw_s_irr, mw_s_rii, mw_s_rir, mw_s_rri, mw_s_rrr, mw_s_iiii, mw_s_iiir, mw_s_iiri, mw_s_iirr, mw_s_irii, mw_s_irir, mw_s_irri, mw_s_irrr, mw_s_riii, mw_s_riir, mw_s_riri, mw_s_rirr, mw_s_rrii, mw_s_rrir, mw_s_rrri, mw_s_rrrr, hle])) e 0 1 (by omega)
  have hp : ∀ (k s : Nat), (List.range' (e - k) k).foldl (fun s _ => s * b) s = s * b ^ k := by
    have : ∀ (k i s : Nat), (List.range' i k).foldl (fun s _ => s * b) s = s * b ^ k := by
      intro k
      induction k with
      | zero => intro i s; simp
      | succ k ih =>
        intro i s
        rw [show List.range' i (k + 1) = i :: List.range' (i + 1) k from rfl, List.foldl_cons, ih, Nat.pow_succ, Nat.mul_assoc, Nat.mul_comm b]
    exact fun k s => this k _ s
  have h1 := hp e 1
  rw [Nat.sub_self, Nat.one_mul] at h1
  rw [h1] at key
  rw [← key]
  simp only [e122, u122_0, u122_1, u122_2, u122_3, mw_os, wp_ite, mw_sw, Option.toList_some, Option.toList_none, List.cons_append, List.nil_append, true_and, and_true, if_true, if_false, mw_s_, mw_s_i, mw_s_r, mw_s_ii, mw_s_ir, mw_s_ri, mw_s_rr, mw_s_iii, mw_s_iir, mw_s_iri, mw_s_irr, mw_s_rii, mw_s_rir, mw_s_rri, mw_s_rrr, mw_s_iiii, mw_s_iiir, mw_s_iiri, mw_s_iirr, mw_s_irii, mw_s_irir, mw_s_irri, mw_s_irrr, mw_s_riii, mw_s_riir, mw_s_riri, mw_s_rirr, mw_s_rrii, mw_s_rrir, mw_s_rrri, mw_s_rrrr, mm_sto2, mm_sto1, mm_clr, List.getElem?_cons_zero, List.getElem?_cons_succ, List.set_cons_zero, List.set_cons_succ, hlf, hll, hli, Bool.false_eq_true]
  exact Iff.rfl
theorem C123l (hg : SGOK g) {x1 : Int32} : ∀ (m k : Nat) (h : HV) (M : mm_M), k + m = gTc g → CTh M0 M g h → Th (gN g) h → (gsF (tN g) (foB x1) m k h).1 = none → (∀ M', CTh M0 M' g (gsF (tN g) (foB x1) m k h).2 → Q (some (.int (bi (vSb (hU (gsF (tN g) (foB x1) m k h).2) (sCv (gN g).1))))) M') → ∀ l4 l5, wp scr (n + 4) mb_123 10 [some (.ref 0), some (.int x1), some (.int (nI h.2.1)), some (.int (nI k)), l4, l5] [] M Q := by
  have hc16 := hg.2.2.1.2.1
  have hTl := hg.2.2.1.1
  have d10 : ((10 : Int32) = 0) ↔ False := by decide
  obtain ⟨c, hc8, hcv⟩ := gCv hg
  intro m
  induction m with
  | zero =>
    intro k h M hk hc ht hn hQ l4 l5
    have hC := hc.2.2.1
    have hd := ht.1.2.2.1
    have hle : (nI (gTc g) ≤ nI k) ↔ True := iff_true_intro (nI_le (by omega) (by omega))
    have hLA := hc.2.2.2 h.2.1 (Nat.le_refl _)
    obtain ⟨y, hG, _⟩ := hU_GT ht.1
    have w36 : ∀ Q : Option Value → mm_M → Prop, Wp scr (n + 4) 36 [.ref (la 1 h.2.1), .int (sCv (gN g).1)] M Q ↔ Q (some (.int (bi (vSb (hU h) (sCv (gN g).1))))) M := fun Q => W36 hLA (GT_N hG).1 (by rw [hcv]; exact nI_in8 hc8)
    refine u123_10.mpr ?_
    simp only [u123_11, u123_12, u123_15, u123_81, u123_82, u123_85, u123_88, u123_89, u123_90, u123_91, u123_94, u123_97, u123_100, mw_os, wp_ite, mw_sw, Option.toList_some, Option.toList_none, List.cons_append, List.nil_append, true_and, and_true, if_true, if_false, mw_s_, mw_s_i, mw_s_r, mw_s_ii, mw_s_ir, mw_s_ri, mw_s_rr, mw_s_iii, mw_s_iir, mw_s_iri, mw_s_irr, mw_s_rii, mw_s_rir, mw_s_rri, mw_s_rrr, mw_s_iiii, mw_s_iiir, mw_s_iiri, mw_s_iirr, mw_s_irii, mw_s_irir, mw_s_irri, mw_s_irrr, mw_s_riii, mw_s_riir, mw_s_riri, mw_s_rirr, mw_s_rrii, mw_s_rrir, mw_s_rrri, mw_s_rrrr, mm_sto1, mm_clr, mm_isL, List.getElem?_cons_zero, List.getElem?_cons_succ, List.set_cons_zero, List.set_cons_succ, Bool.false_eq_true, CS_8 hC, hle, CS_0 hC, NS_0 hC, NS_l hC (show h.2.1 < 5 by omega), NS_5 hC, LA_x hLA, w36, bi_01]
    exact hQ M hc
  | succ m ih =>
    intro k h M hk hc ht hn hQ l4 l5
    have hC := hc.2.2.1
    have hle : (nI (gTc g) ≤ nI k) ↔ False := iff_false_intro (nI_ge (by omega) (by omega))
    obtain ⟨t1, t2⟩ := tN_eq hg (k := k) (by omega)
    have a8 : mm_at (gT g) (nI k) = some (nI (tN g k)) := (gi_atN (by omega) (by omega)).trans (by rw [t1])
    have dv : nI (tN g k) / 10 = nI (tN g k / 10) := pk_div (d := 10) (by omega) (by omega) (by omega)
    have rm : nI (tN g k) - nI (tN g k) / 10 * 10 = nI (tN g k % 10) := pk_rem (d := 10) (by omega) (by omega) (by omega)
    rw [dv] at rm
    rw [gsF] at hn hQ
    by_cases cc : hasL (hU h) (nI (tN g k / 10)) = true ∧ tN g k % 10 < 4
    · rw [if_pos cc] at hn hQ
      obtain ⟨hl, h4⟩ := cc
      obtain ⟨q1, q2⟩ := ln_ok ht.1 t2 hl
      have wx : nI (tN g k % 10) ^^^ ((x1 >>> (nI k &&& 31)) &&& 1) = nI (wv (foB x1 k) (tN g k % 10)) := by
        cases hb : foB x1 k
        · rw [foB_0 hb, Int32.xor_zero]; rfl
        · rw [foB_1 hb, xor1 _ h4]; rfl
      have w71 : ∀ Q : Option Value → mm_M → Prop, Wp scr (n + 4) 71 [.ref 1, .int (nI h.2.1), .int (nI (tN g k / 10)), .int (nI (wv (foB x1 k) (tN g k % 10)))] M Q ↔ Q (some (.int (tfE (gN g).1 (fC (hU h) (nI (tN g k / 10)) (nI (wv (foB x1 k) (tN g k % 10))))))) (pl M (la 1 (h.2.1 + 1)) (fC (hU h) (nI (tN g k / 10)) (nI (wv (foB x1 k) (tN g k % 10))))) := fun Q => CT71 hc hg ht q1 q2 hl (wv_lt h4)
      refine u123_10.mpr ?_
      simp only [u123_11, u123_12, u123_15, u123_18, u123_19, u123_22, u123_23, u123_24, u123_26, u123_27, u123_29, u123_30, u123_33, u123_34, u123_35, u123_37, u123_38, u123_39, u123_40, u123_41, u123_42, u123_43, u123_44, u123_46, u123_47, u123_50, u123_51, u123_53, u123_56, u123_59, u123_60, u123_63, u123_64, u123_66, u123_68, u123_71, u123_72, u123_75, u123_78, mw_os, wp_ite, mw_sw, Option.toList_some, Option.toList_none, List.cons_append, List.nil_append, true_and, and_true, if_true, if_false, mw_s_, mw_s_i, mw_s_r, mw_s_ii, mw_s_ir, mw_s_ri, mw_s_rr, mw_s_iii, mw_s_iir, mw_s_iri, mw_s_irr, mw_s_rii, mw_s_rir, mw_s_rri, mw_s_rrr, mw_s_iiii, mw_s_iiir, mw_s_iiri, mw_s_iirr, mw_s_irii, mw_s_irir, mw_s_irri, mw_s_irrr, mw_s_riii, mw_s_riir, mw_s_riri, mw_s_rirr, mw_s_rrii, mw_s_rrir, mw_s_rrri, mw_s_rrrr, mm_sto1, mm_clr, mm_isL, List.getElem?_cons_zero, List.getElem?_cons_succ, List.set_cons_zero, List.set_cons_succ, Bool.false_eq_true, CS_8 hC, hle, CS_6 hC, RA_ld (CT hC), a8, d10, dv, rm, wx, CS_0 hC, NS_x hC, CT69 hc ht.1, hl, bi_eq0, reduceCtorEq, w71, nI_1]
      exact ih (k + 1) (hF h (nI (tN g k / 10)) (nI (wv (foB x1 k) (tN g k % 10)))) _ (by omega) (CTh_F hc hg ht q1 q2 hl (wv_lt h4)) (Th_F ht q1 q2 hl (wv_lt h4)) hn hQ _ _
    · rw [if_neg cc] at hn
      cases hn
theorem C123 (hg : SGOK g) {gu : Nat} (hc : CTh M0 M g (gN g)) (hn : (gsF (tN g) (fun _ => false) (gTc g) 0 (gN g)).1 = none) (hQ : ∀ M', CTh M0 M' g (gN g) → Q (some (.int (bi (ouB g gu)))) M') : Wp scr (n + 5) 123 [.ref 0, .int (nI gu)] M Q := by
  have hC := hc.2.2.1
  simp only [e123, u123_0, u123_1, u123_4, u123_7, u123_8, u123_9, mw_os, wp_ite, mw_sw, Option.toList_some, Option.toList_none, List.cons_append, List.nil_append, true_and, and_true, if_true, if_false, mw_s_, mw_s_i, mw_s_r, mw_s_ii, mw_s_ir, mw_s_ri, mw_s_rr, mw_s_iii, mw_s_iir, mw_s_iri, mw_s_irr, mw_s_rii, mw_s_rir, mw_s_rri, mw_s_rrr, mw_s_iiii, mw_s_iiir, mw_s_iiri, mw_s_iirr, mw_s_irii, mw_s_irir, mw_s_irri, mw_s_irrr, mw_s_riii, mw_s_riir, mw_s_riri, mw_s_rirr, mw_s_rrii, mw_s_rrir, mw_s_rrri, mw_s_rrrr, mm_sto1, mm_clr, mm_isL, List.getElem?_cons_zero, List.getElem?_cons_succ, List.set_cons_zero, List.set_cons_succ, Bool.false_eq_true, CS_0 hC, NS_4 hC hg]
  exact C123l hg (gTc g) 0 (gN g) M (by omega) hc (Th_rf hg.1) (gs_poss _ _ _ _ rfl rfl hn) (fun M' h' => hQ M' (CTh_dn h')) none none
theorem wd_bd (b c : Nat) (O : Nat → Nat) (W : Nat → Nat) (hO : ∀ u, O u ≤ W u) : ∀ (L : List Nat) (s t : Nat), s ≤ t → L.foldl (fun s u => s + O u) s ≤ L.foldl (fun s u => s + W u) t := by
  intro L
  induction L with
  | nil => intro s t h; exact h
  | cons a L ih => intro s t h; rw [List.foldl_cons, List.foldl_cons]; exact ih _ _ (by have := hO a; omega)
theorem J_wind (hg : SGOK g) (x1 x2 : Int32) : JO scr 119 206 [.int x1, .int x2] g := by
  have hc16 := hg.2.2.1.2.1
  have hlf : mm_isL (some (none : Option Value)) = false := rfl
  have hll : ∀ z : Int64, mm_isL (some (some (Value.long z))) = true := fun _ => rfl
  have hli : ∀ x : Int32, mm_isL (some (some (Value.int x))) = false := fun _ => rfl
  have hlr : ∀ x : Nat, mm_isL (some (some (Value.ref x))) = false := fun _ => rfl
  by_cases hlo : x1 < 2
  · have m1 : ((2 : Int32) ≤ x1) ↔ False := iff_false_intro (fun z => Int32.not_lt.mpr z hlo)
    have mi : inB x1.toInt64 2 20 = false := (inB_eq x1 2 20).trans (decide_eq_false (fun z => Int32.not_lt.mpr z.1 hlo))
    refine ⟨lrV 4, gRf g 4, gRf_ok hg, fun n M Q hC hQ => ?_, fun n M Q hC hQ => ?_⟩
    · simp only [u119_0, u119_1, u119_2, u119_5, u119_6, u119_8, e119, mw_os, wp_ite, mw_sw, Option.toList_some, Option.toList_none, List.cons_append, List.nil_append, true_and, and_true, if_true, if_false, mw_s_, mw_s_i, mw_s_r, mw_s_ii, mw_s_ir, mw_s_ri, mw_s_rr, mw_s_iii, mw_s_iir, mw_s_iri, mw_s_irr, mw_s_rii, mw_s_rir, mw_s_rri, mw_s_rrr, mw_s_iiii, mw_s_iiir, mw_s_iiri, mw_s_iirr, mw_s_irii, mw_s_irir, mw_s_irri, mw_s_irrr, mw_s_riii, mw_s_riir, mw_s_riri, mw_s_rirr, mw_s_rrii, mw_s_rrir, mw_s_rrri, mw_s_rrrr, m1, CS_x hC]
      refine C120 (k := 4) (n := n + 37) hC hg (by decide) (by decide) (fun M' hl ha hc => ?_)
      unfold lrV
      simp only [u119_11, mw_os, wp_ite, mw_sw, Option.toList_some, Option.toList_none, List.cons_append, List.nil_append, true_and, and_true, if_true, if_false, mw_s_, mw_s_i, mw_s_r, mw_s_ii, mw_s_ir, mw_s_ri, mw_s_rr, mw_s_iii, mw_s_iir, mw_s_iri, mw_s_irr, mw_s_rii, mw_s_rir, mw_s_rri, mw_s_rrr, mw_s_iiii, mw_s_iiir, mw_s_iiri, mw_s_iirr, mw_s_irii, mw_s_irir, mw_s_irri, mw_s_irrr, mw_s_riii, mw_s_riir, mw_s_riri, mw_s_rirr, mw_s_rrii, mw_s_rrir, mw_s_rrri, mw_s_rrrr]
      exact hQ M' hl ha hc
    · obtain ⟨o, r, hO, _, hR, hA⟩ := MSu hC
      simp only [u206_0, u206_1, u206_2, u206_5, u206_8, u206_11, u206_14, u206_15, u206_16, u206_17, u206_20, u206_22, u206_25, u206_27, e206, mw_os, wp_ite, mw_sw, Option.toList_some, Option.toList_none, List.cons_append, List.nil_append, true_and, and_true, if_true, if_false, mw_s_, mw_s_i, mw_s_r, mw_s_ii, mw_s_ir, mw_s_ri, mw_s_rr, mw_s_iii, mw_s_iir, mw_s_iri, mw_s_irr, mw_s_rii, mw_s_rir, mw_s_rri, mw_s_rrr, mw_s_iiii, mw_s_iiir, mw_s_iiri, mw_s_iirr, mw_s_irii, mw_s_irir, mw_s_irri, mw_s_irrr, mw_s_riii, mw_s_riir, mw_s_riri, mw_s_rirr, mw_s_rrii, mw_s_rrir, mw_s_rrri, mw_s_rrrr, W146, mi, bi_eq0, not_true, m1, OA_x hO]
      refine M207 (k := 4) (n := n + 37) hC hg (by decide) (by decide) (fun M' hl ha hc => ?_)
      unfold lrV
      simp only [u206_30, mw_os, wp_ite, mw_sw, Option.toList_some, Option.toList_none, List.cons_append, List.nil_append, true_and, and_true, if_true, if_false, mw_s_, mw_s_i, mw_s_r, mw_s_ii, mw_s_ir, mw_s_ri, mw_s_rr, mw_s_iii, mw_s_iir, mw_s_iri, mw_s_irr, mw_s_rii, mw_s_rir, mw_s_rri, mw_s_rrr, mw_s_iiii, mw_s_iiir, mw_s_iiri, mw_s_iirr, mw_s_irii, mw_s_irir, mw_s_irri, mw_s_irrr, mw_s_riii, mw_s_riir, mw_s_riri, mw_s_rirr, mw_s_rrii, mw_s_rrir, mw_s_rrri, mw_s_rrrr]
      exact hQ M' hl ha hc
  · have m1 : ((2 : Int32) ≤ x1) ↔ True := iff_true_intro (Int32.not_lt.mp hlo)
    by_cases hhi : 20 < x1
    · have m2 : (x1 ≤ 20) ↔ False := iff_false_intro (fun z => Int32.not_lt.mpr z hhi)
      have mi : inB x1.toInt64 2 20 = false := (inB_eq x1 2 20).trans (decide_eq_false (fun z => Int32.not_lt.mpr z.2 hhi))
      refine ⟨lrV 6, gRf g 6, gRf_ok hg, fun n M Q hC hQ => ?_, fun n M Q hC hQ => ?_⟩
      · simp only [u119_0, u119_1, u119_2, u119_12, u119_13, u119_15, u119_18, u119_19, u119_21, e119, mw_os, wp_ite, mw_sw, Option.toList_some, Option.toList_none, List.cons_append, List.nil_append, true_and, and_true, if_true, if_false, mw_s_, mw_s_i, mw_s_r, mw_s_ii, mw_s_ir, mw_s_ri, mw_s_rr, mw_s_iii, mw_s_iir, mw_s_iri, mw_s_irr, mw_s_rii, mw_s_rir, mw_s_rri, mw_s_rrr, mw_s_iiii, mw_s_iiir, mw_s_iiri, mw_s_iirr, mw_s_irii, mw_s_irir, mw_s_irri, mw_s_irrr, mw_s_riii, mw_s_riir, mw_s_riri, mw_s_rirr, mw_s_rrii, mw_s_rrir, mw_s_rrri, mw_s_rrrr, m1, m2, CS_x hC]
        refine C120 (k := 6) (n := n + 37) hC hg (by decide) (by decide) (fun M' hl ha hc => ?_)
        unfold lrV
        simp only [u119_24, mw_os, wp_ite, mw_sw, Option.toList_some, Option.toList_none, List.cons_append, List.nil_append, true_and, and_true, if_true, if_false, mw_s_, mw_s_i, mw_s_r, mw_s_ii, mw_s_ir, mw_s_ri, mw_s_rr, mw_s_iii, mw_s_iir, mw_s_iri, mw_s_irr, mw_s_rii, mw_s_rir, mw_s_rri, mw_s_rrr, mw_s_iiii, mw_s_iiir, mw_s_iiri, mw_s_iirr, mw_s_irii, mw_s_irir, mw_s_irri, mw_s_irrr, mw_s_riii, mw_s_riir, mw_s_riri, mw_s_rirr, mw_s_rrii, mw_s_rrir, mw_s_rrri, mw_s_rrrr]
        exact hQ M' hl ha hc
      · obtain ⟨o, r, hO, _, hR, hA⟩ := MSu hC
        simp only [u206_0, u206_1, u206_2, u206_5, u206_8, u206_11, u206_14, u206_15, u206_16, u206_17, u206_20, u206_22, u206_25, u206_27, e206, mw_os, wp_ite, mw_sw, Option.toList_some, Option.toList_none, List.cons_append, List.nil_append, true_and, and_true, if_true, if_false, mw_s_, mw_s_i, mw_s_r, mw_s_ii, mw_s_ir, mw_s_ri, mw_s_rr, mw_s_iii, mw_s_iir, mw_s_iri, mw_s_irr, mw_s_rii, mw_s_rir, mw_s_rri, mw_s_rrr, mw_s_iiii, mw_s_iiir, mw_s_iiri, mw_s_iirr, mw_s_irii, mw_s_irir, mw_s_irri, mw_s_irrr, mw_s_riii, mw_s_riir, mw_s_riri, mw_s_rirr, mw_s_rrii, mw_s_rrir, mw_s_rrri, mw_s_rrrr, W146, mi, bi_eq0, not_true, m1, OA_x hO]
        refine M207 (k := 6) (n := n + 37) hC hg (by decide) (by decide) (fun M' hl ha hc => ?_)
        unfold lrV
        simp only [u206_30, mw_os, wp_ite, mw_sw, Option.toList_some, Option.toList_none, List.cons_append, List.nil_append, true_and, and_true, if_true, if_false, mw_s_, mw_s_i, mw_s_r, mw_s_ii, mw_s_ir, mw_s_ri, mw_s_rr, mw_s_iii, mw_s_iir, mw_s_iri, mw_s_irr, mw_s_rii, mw_s_rir, mw_s_rri, mw_s_rrr, mw_s_iiii, mw_s_iiir, mw_s_iiri, mw_s_iirr, mw_s_irii, mw_s_irir, mw_s_irri, mw_s_irrr, mw_s_riii, mw_s_riir, mw_s_riri, mw_s_rirr, mw_s_rrii, mw_s_rrir, mw_s_rrri, mw_s_rrrr]
        exact hQ M' hl ha hc
    · have m2 : (x1 ≤ 20) ↔ True := iff_true_intro (Int32.not_lt.mp hhi)
      have mi : inB x1.toInt64 2 20 = true := (inB_eq x1 2 20).trans (decide_eq_true ⟨Int32.not_lt.mp hlo, Int32.not_lt.mp hhi⟩)
      obtain ⟨tv, tv2, tv20, rfl⟩ : ∃ t, 2 ≤ t ∧ t ≤ 20 ∧ x1 = nI t := by
        rcases pk_ix x1 (n := 21) (by decide) with h | h | ⟨j, j1, rfl⟩
        · exact absurd (Int32.lt_trans h (by decide)) hlo
        · exact absurd (Int32.lt_of_lt_of_le (a := 20) (b := nI 21) (by decide +kernel) h) hhi
        · refine ⟨j, ?_, by omega, rfl⟩
          exact (nI_leI (a := 2) (b := j) (by decide) (by omega)).mp (Int32.not_lt.mp hlo)
      by_cases hc4 : 4 < gTc g
      · have m4 : ((4 : Int32) < nI (gTc g)) ↔ True := iff_true_intro (nI_lt (a := 4) hc4 (by omega))
        refine ⟨lrV 3, gRf g 3, gRf_ok hg, fun n M Q hC hQ => ?_, fun n M Q hC hQ => ?_⟩
        · simp only [u119_0, u119_1, u119_2, u119_12, u119_13, u119_15, u119_25, u119_26, u119_29, u119_30, u119_40, u119_41, u119_43, e119, mw_os, wp_ite, mw_sw, Option.toList_some, Option.toList_none, List.cons_append, List.nil_append, true_and, and_true, if_true, if_false, mw_s_, mw_s_i, mw_s_r, mw_s_ii, mw_s_ir, mw_s_ri, mw_s_rr, mw_s_iii, mw_s_iir, mw_s_iri, mw_s_irr, mw_s_rii, mw_s_rir, mw_s_rri, mw_s_rrr, mw_s_iiii, mw_s_iiir, mw_s_iiri, mw_s_iirr, mw_s_irii, mw_s_irir, mw_s_irri, mw_s_irrr, mw_s_riii, mw_s_riir, mw_s_riri, mw_s_rirr, mw_s_rrii, mw_s_rrir, mw_s_rrri, mw_s_rrrr, m1, m2, CS_8 hC, m4, CS_x hC]
          refine C120 (k := 3) (n := n + 37) hC hg (by decide) (by decide) (fun M' hl ha hc => ?_)
          unfold lrV
          simp only [u119_46, mw_os, wp_ite, mw_sw, Option.toList_some, Option.toList_none, List.cons_append, List.nil_append, true_and, and_true, if_true, if_false, mw_s_, mw_s_i, mw_s_r, mw_s_ii, mw_s_ir, mw_s_ri, mw_s_rr, mw_s_iii, mw_s_iir, mw_s_iri, mw_s_irr, mw_s_rii, mw_s_rir, mw_s_rri, mw_s_rrr, mw_s_iiii, mw_s_iiir, mw_s_iiri, mw_s_iirr, mw_s_irii, mw_s_irir, mw_s_irri, mw_s_irrr, mw_s_riii, mw_s_riir, mw_s_riri, mw_s_rirr, mw_s_rrii, mw_s_rrir, mw_s_rrri, mw_s_rrrr]
          exact hQ M' hl ha hc
        · obtain ⟨o, r, hO, h1, hR, hA⟩ := MSu hC
          have e6 : o.1.2.1 = nI (gTc g) := by rw [h1]
          simp only [u206_0, u206_1, u206_2, u206_5, u206_8, u206_11, u206_31, u206_32, u206_35, u206_36, u206_47, u206_48, u206_50, e206, mw_os, wp_ite, mw_sw, Option.toList_some, Option.toList_none, List.cons_append, List.nil_append, true_and, and_true, if_true, if_false, mw_s_, mw_s_i, mw_s_r, mw_s_ii, mw_s_ir, mw_s_ri, mw_s_rr, mw_s_iii, mw_s_iir, mw_s_iri, mw_s_irr, mw_s_rii, mw_s_rir, mw_s_rri, mw_s_rrr, mw_s_iiii, mw_s_iiir, mw_s_iiri, mw_s_iirr, mw_s_irii, mw_s_irir, mw_s_irri, mw_s_irrr, mw_s_riii, mw_s_riir, mw_s_riri, mw_s_rirr, mw_s_rrii, mw_s_rrir, mw_s_rrri, mw_s_rrrr, W146, mi, bi_eq0, reduceCtorEq, not_false_eq_true, OA_6 hO, e6, m4, OA_x hO]
          refine M207 (k := 3) (n := n + 37) hC hg (by decide) (by decide) (fun M' hl ha hc => ?_)
          unfold lrV
          simp only [u206_53, mw_os, wp_ite, mw_sw, Option.toList_some, Option.toList_none, List.cons_append, List.nil_append, true_and, and_true, if_true, if_false, mw_s_, mw_s_i, mw_s_r, mw_s_ii, mw_s_ir, mw_s_ri, mw_s_rr, mw_s_iii, mw_s_iir, mw_s_iri, mw_s_irr, mw_s_rii, mw_s_rir, mw_s_rri, mw_s_rrr, mw_s_iiii, mw_s_iiir, mw_s_iiri, mw_s_iirr, mw_s_irii, mw_s_irir, mw_s_irri, mw_s_irrr, mw_s_riii, mw_s_riir, mw_s_riri, mw_s_rirr, mw_s_rrii, mw_s_rrir, mw_s_rrri, mw_s_rrrr]
          exact hQ M' hl ha hc
      · have hc5 : gTc g < 5 := by omega
        have m4 : ((4 : Int32) < nI (gTc g)) ↔ False := iff_false_intro (nI_nlt (a := 4) (by omega) (by decide))
        cases hgo : (gsF (tN g) (fun _ => false) (gTc g) 0 (gN g)).1 with
        | some j =>
          have hj := gsF_lt _ _ _ _ hgo
          have n1 : (nI j < (0 : Int32)) ↔ False := iff_false_intro (nI_pos (by omega))
          refine ⟨lrV 3, gRf g 3, gRf_ok hg, fun n M Q hC hQ => ?_, fun n M Q hC hQ => ?_⟩
          · simp only [u119_0, u119_1, u119_2, u119_12, u119_13, u119_15, u119_25, u119_26, u119_29, u119_30, u119_33, u119_34, e119, mw_os, wp_ite, mw_sw, Option.toList_some, Option.toList_none, List.cons_append, List.nil_append, true_and, and_true, if_true, if_false, mw_s_, mw_s_i, mw_s_r, mw_s_ii, mw_s_ir, mw_s_ri, mw_s_rr, mw_s_iii, mw_s_iir, mw_s_iri, mw_s_irr, mw_s_rii, mw_s_rir, mw_s_rri, mw_s_rrr, mw_s_iiii, mw_s_iiir, mw_s_iiri, mw_s_iirr, mw_s_irii, mw_s_irir, mw_s_irri, mw_s_irrr, mw_s_riii, mw_s_riir, mw_s_riri, mw_s_rirr, mw_s_rrii, mw_s_rrir, mw_s_rrri, mw_s_rrrr, m1, m2, CS_8 hC, m4, CS_x hC]
            refine C121 (n := n + 34) hg (CTh_rf hC) (fun M1 hc1 => ?_)
            rw [hgo]
            have hC1 := hc1.2.2.1
            simp only [oI, u119_37, u119_40, u119_41, u119_43, mw_os, wp_ite, mw_sw, Option.toList_some, Option.toList_none, List.cons_append, List.nil_append, true_and, and_true, if_true, if_false, mw_s_, mw_s_i, mw_s_r, mw_s_ii, mw_s_ir, mw_s_ri, mw_s_rr, mw_s_iii, mw_s_iir, mw_s_iri, mw_s_irr, mw_s_rii, mw_s_rir, mw_s_rri, mw_s_rrr, mw_s_iiii, mw_s_iiir, mw_s_iiri, mw_s_iirr, mw_s_irii, mw_s_irir, mw_s_irri, mw_s_irrr, mw_s_riii, mw_s_riir, mw_s_riri, mw_s_rirr, mw_s_rrii, mw_s_rrir, mw_s_rrri, mw_s_rrrr, n1, CS_x hC1]
            refine C120 (k := 3) (n := n + 37) hC1 hg (by decide) (by decide) (fun M' hl ha hc => ?_)
            unfold lrV
            simp only [u119_46, mw_os, wp_ite, mw_sw, Option.toList_some, Option.toList_none, List.cons_append, List.nil_append, true_and, and_true, if_true, if_false, mw_s_, mw_s_i, mw_s_r, mw_s_ii, mw_s_ir, mw_s_ri, mw_s_rr, mw_s_iii, mw_s_iir, mw_s_iri, mw_s_irr, mw_s_rii, mw_s_rir, mw_s_rri, mw_s_rrr, mw_s_iiii, mw_s_iiir, mw_s_iiri, mw_s_iirr, mw_s_irii, mw_s_irir, mw_s_irri, mw_s_irrr, mw_s_riii, mw_s_riir, mw_s_riri, mw_s_rirr, mw_s_rrii, mw_s_rrir, mw_s_rrri, mw_s_rrrr]
            exact hQ M' (hl.trans hc1.1) (Ag_tr hc1.2.1 ha) hc
          · obtain ⟨o, r, hO, h1, hR, hA⟩ := MSu hC
            have e6 : o.1.2.1 = nI (gTc g) := by rw [h1]
            simp only [u206_0, u206_1, u206_2, u206_5, u206_8, u206_11, u206_31, u206_32, u206_35, u206_36, u206_39, u206_40, u206_41, e206, mw_os, wp_ite, mw_sw, Option.toList_some, Option.toList_none, List.cons_append, List.nil_append, true_and, and_true, if_true, if_false, mw_s_, mw_s_i, mw_s_r, mw_s_ii, mw_s_ir, mw_s_ri, mw_s_rr, mw_s_iii, mw_s_iir, mw_s_iri, mw_s_irr, mw_s_rii, mw_s_rir, mw_s_rri, mw_s_rrr, mw_s_iiii, mw_s_iiir, mw_s_iiri, mw_s_iirr, mw_s_irii, mw_s_irir, mw_s_irri, mw_s_irrr, mw_s_riii, mw_s_riir, mw_s_riri, mw_s_rirr, mw_s_rrii, mw_s_rrir, mw_s_rrri, mw_s_rrrr, W146, mi, bi_eq0, reduceCtorEq, not_false_eq_true, OA_6 hO, e6, m4, OA_x hO]
            refine M208 (n := n + 34) (M0 := M) hg rfl Ag_rf hC (fun M1 hm1 _ => ?_)
            rw [gsF0 hg, hgo]
            obtain ⟨o1, hO1, _⟩ := MT_o hm1
            simp only [oI, u206_44, u206_47, u206_48, u206_50, mw_os, wp_ite, mw_sw, Option.toList_some, Option.toList_none, List.cons_append, List.nil_append, true_and, and_true, if_true, if_false, mw_s_, mw_s_i, mw_s_r, mw_s_ii, mw_s_ir, mw_s_ri, mw_s_rr, mw_s_iii, mw_s_iir, mw_s_iri, mw_s_irr, mw_s_rii, mw_s_rir, mw_s_rri, mw_s_rrr, mw_s_iiii, mw_s_iiir, mw_s_iiri, mw_s_iirr, mw_s_irii, mw_s_irir, mw_s_irri, mw_s_irrr, mw_s_riii, mw_s_riir, mw_s_riri, mw_s_rirr, mw_s_rrii, mw_s_rrir, mw_s_rrri, mw_s_rrrr, n1, OA_x hO1]
            refine M207 (k := 3) (n := n + 37) hm1.2.2.1 hg (by decide) (by decide) (fun M' hl ha hc => ?_)
            unfold lrV
            simp only [u206_53, mw_os, wp_ite, mw_sw, Option.toList_some, Option.toList_none, List.cons_append, List.nil_append, true_and, and_true, if_true, if_false, mw_s_, mw_s_i, mw_s_r, mw_s_ii, mw_s_ir, mw_s_ri, mw_s_rr, mw_s_iii, mw_s_iir, mw_s_iri, mw_s_irr, mw_s_rii, mw_s_rir, mw_s_rri, mw_s_rrr, mw_s_iiii, mw_s_iiir, mw_s_iiri, mw_s_iirr, mw_s_irii, mw_s_irir, mw_s_irri, mw_s_irrr, mw_s_riii, mw_s_riir, mw_s_riri, mw_s_rirr, mw_s_rrii, mw_s_rrir, mw_s_rrri, mw_s_rrrr]
            exact hQ M' (hl.trans hm1.1) (Ag_tr hm1.2.1 ha) hc
        | none =>
          have n1 : (oI (-1) none < (0 : Int32)) ↔ True := by decide
          have n9 : (oI (-9) none < (0 : Int32)) ↔ True := by decide
          rcases two x2 with h2 | hy
          · have k1 : decide ((0 : Int32) ≤ x2 ∧ x2 < 2) = true := by rcases h2 with rfl | rfl <;> decide
            have k2 : inB x2.toInt64 0 1 = true := (inB_eq x2 0 1).trans (by rcases h2 with rfl | rfl <;> decide)
            have hsum := od_sum (gTc g) hc5 (tv - 1) (by omega)
            rw [show tv - 1 + 1 = tv by omega] at hsum
            have hp2 : 2 ^ gTc g ≤ 2 ^ 4 := Nat.pow_le_pow_right (by decide) (by omega)
            have htc : tv ^ gTc g ≤ 20 ^ 4 := Nat.le_trans (Nat.pow_le_pow_left tv20 _) (Nat.pow_le_pow_right (by decide) (by omega))
            have htp : 0 < tv ^ gTc g := Nat.pow_pos (by omega)
            obtain ⟨AO, hAO⟩ : ∃ A, A = (List.range' 0 (2 ^ gTc g)).foldl (fun s u => s + ouW g (tv - 1) (gTc g) u) 0 := ⟨_, rfl⟩
            have hle : AO ≤ tv ^ gTc g := by
              rw [hAO, ← hsum]
              exact wd_bd 0 0 _ _ (fun u => by unfold ouW; split <;> omega) _ _ _ (Nat.le_refl _)
            have shc := sh2 (gTc g) hc5
            refine ⟨frV AO (tv ^ gTc g) x2, g, hg, fun n M Q hC hQ => ?_, fun n M Q hC hQ => ?_⟩
            · simp only [u119_0, u119_1, u119_2, u119_12, u119_13, u119_15, u119_25, u119_26, u119_29, u119_30, u119_33, u119_34, e119, mw_os, wp_ite, mw_sw, Option.toList_some, Option.toList_none, List.cons_append, List.nil_append, true_and, and_true, if_true, if_false, mw_s_, mw_s_i, mw_s_r, mw_s_ii, mw_s_ir, mw_s_ri, mw_s_rr, mw_s_iii, mw_s_iir, mw_s_iri, mw_s_irr, mw_s_rii, mw_s_rir, mw_s_rri, mw_s_rrr, mw_s_iiii, mw_s_iiir, mw_s_iiri, mw_s_iirr, mw_s_irii, mw_s_irir, mw_s_irri, mw_s_irrr, mw_s_riii, mw_s_riir, mw_s_riri, mw_s_rirr, mw_s_rrii, mw_s_rrir, mw_s_rrri, mw_s_rrrr, m1, m2, CS_8 hC, m4, CS_x hC]
              refine C121 (n := n + 34) hg (CTh_rf hC) (fun M1 hc1 => ?_)
              rw [hgo]
              simp only [u119_37, u119_47, u119_48, u119_49, u119_52, u119_62, u119_63, u119_64, u119_65, u119_67, u119_68, mw_os, wp_ite, mw_sw, Option.toList_some, Option.toList_none, List.cons_append, List.nil_append, true_and, and_true, if_true, if_false, mw_s_, mw_s_i, mw_s_r, mw_s_ii, mw_s_ir, mw_s_ri, mw_s_rr, mw_s_iii, mw_s_iir, mw_s_iri, mw_s_irr, mw_s_rii, mw_s_rir, mw_s_rri, mw_s_rrr, mw_s_iiii, mw_s_iiir, mw_s_iiri, mw_s_iirr, mw_s_irii, mw_s_irir, mw_s_irri, mw_s_irrr, mw_s_riii, mw_s_riir, mw_s_riri, mw_s_rirr, mw_s_rrii, mw_s_rrir, mw_s_rrri, mw_s_rrrr, n1, W89, k1, bi_eq0, reduceCtorEq, not_false_eq_true, mm_sto2, mm_sto1, mm_clr, List.getElem?_cons_zero, List.getElem?_cons_succ, List.set_cons_zero, List.set_cons_succ, hlf, hll, hli, Bool.false_eq_true]
              have loop : ∀ (k u : Nat) (Mc : mm_M) (a b : Nat), u + k = 2 ^ gTc g → CTh M Mc g (gN g) → (∀ M', CTh M M' g (gN g) → wp scr (n + 39) mb_119 127 [some (.ref 0), some (.int (nI tv)), some (.int x2), some (.long (lN ((List.range' u k).foldl (fun s u => s + ouW g (tv - 1) (gTc g) u) a))), none, some (.long (lN ((List.range' u k).foldl (fun s gu => s + (tv - 1) ^ (gTc g - bcN gu)) b))), none, some (.int (nI (2 ^ gTc g))), none, none] [] M' Q ∧ ∀ z, wp scr (n + 39) mb_119 127 [some (.ref 0), some (.int (nI tv)), some (.int x2), some (.long (lN ((List.range' u k).foldl (fun s u => s + ouW g (tv - 1) (gTc g) u) a))), none, some (.long (lN ((List.range' u k).foldl (fun s gu => s + (tv - 1) ^ (gTc g - bcN gu)) b))), none, some (.int (nI (2 ^ gTc g))), some (.long z), none] [] M' Q) → ∀ l8, (l8 = none ∨ ∃ z, l8 = some (.long z)) → wp scr (n + 39) mb_119 70 [some (.ref 0), some (.int (nI tv)), some (.int x2), some (.long (lN a)), none, some (.long (lN b)), none, some (.int (nI u)), l8, none] [] Mc Q := by
                intro k
                induction k with
                | zero =>
                  intro u Mc a b hu hc hq l8 h8
                  have hC := hc.2.2.1
                  have : u = 2 ^ gTc g := by omega
                  subst this
                  have hle : (nI (2 ^ gTc g) ≤ nI (2 ^ gTc g)) ↔ True := iff_true_intro (nI_le (Nat.le_refl _) (by omega))
                  refine u119_70.mpr ?_
                  simp only [u119_72, u119_73, u119_74, u119_77, u119_78, mw_os, wp_ite, mw_sw, Option.toList_some, Option.toList_none, List.cons_append, List.nil_append, true_and, and_true, if_true, if_false, mw_s_, mw_s_i, mw_s_r, mw_s_ii, mw_s_ir, mw_s_ri, mw_s_rr, mw_s_iii, mw_s_iir, mw_s_iri, mw_s_irr, mw_s_rii, mw_s_rir, mw_s_rri, mw_s_rrr, mw_s_iiii, mw_s_iiir, mw_s_iiri, mw_s_iirr, mw_s_irii, mw_s_irir, mw_s_irri, mw_s_irrr, mw_s_riii, mw_s_riir, mw_s_riri, mw_s_rirr, mw_s_rrii, mw_s_rrir, mw_s_rrri, mw_s_rrrr, CS_8 hC, shc, hle]
                  rcases h8 with rfl | ⟨z, rfl⟩
                  · exact (hq Mc hc).1
                  · exact (hq Mc hc).2 z
                | succ k ih =>
                  intro u Mc a b hu hc hq l8 h8
                  have hC := hc.2.2.1
                  have hle : (nI (2 ^ gTc g) ≤ nI u) ↔ False := iff_false_intro (nI_ge (by omega) (by omega))
                  have hb := (od_eq (gTc g) hc5 u (by omega) (by omega) 0 (by decide)).2
                  have hbc := (bc_all u (by omega)).1
                  have e1 : nI tv - 1 = nI (tv - 1) := pk_sub (b := 1) (by omega)
                  have e2 : (nI (tv - 1)).toInt64 = lN (tv - 1) := nI_l (by omega)
                  have e3 : nI (gTc g) - nI (bcN u) = nI (gTc g - bcN u) := pk_sub hb
                  rw [show List.range' u (k + 1) = u :: List.range' (u + 1) k from rfl, List.foldl_cons, List.foldl_cons] at hq
                  refine u119_70.mpr ?_
                  have hl8 : mm_isL (some l8) = true ∨ mm_isL (some l8) = false := by rcases h8 with rfl | ⟨z, rfl⟩; exact Or.inr rfl; exact Or.inl rfl
                  simp only [u119_72, u119_73, u119_74, u119_77, u119_78, u119_81, u119_82, u119_83, u119_84, u119_85, u119_86, u119_89, u119_91, u119_94, u119_95, u119_98, u119_100, u119_102, u119_104, u119_105, u119_107, u119_108, u119_110, mw_os, wp_ite, mw_sw, Option.toList_some, Option.toList_none, List.cons_append, List.nil_append, true_and, and_true, if_true, if_false, mw_s_, mw_s_i, mw_s_r, mw_s_ii, mw_s_ir, mw_s_ri, mw_s_rr, mw_s_iii, mw_s_iir, mw_s_iri, mw_s_irr, mw_s_rii, mw_s_rir, mw_s_rri, mw_s_rrr, mw_s_iiii, mw_s_iiir, mw_s_iiri, mw_s_iirr, mw_s_irii, mw_s_irir, mw_s_irri, mw_s_irrr, mw_s_riii, mw_s_riir, mw_s_riri, mw_s_rirr, mw_s_rrii, mw_s_rrir, mw_s_rrri, mw_s_rrrr, CS_8 hC, shc, hle, e1, e2, W0, hbc, e3, mw_il, W122 (show gTc g - bcN u < 2 ^ 31 by omega), lN_add, CS_x hC, mm_sto2, mm_sto1, mm_clr, List.getElem?_cons_zero, List.getElem?_cons_succ, List.set_cons_zero, List.set_cons_succ, hlf, hll, hli, Bool.false_eq_true]
                  refine C123 (n := n + 34) hg hc hgo (fun M2 hc2 => ?_)
                  have eO : ouW g (tv - 1) (gTc g) u = if ouB g u = true then (tv - 1) ^ (gTc g - bcN u) else 0 := rfl
                  cases hob : ouB g u
                  · rw [hob, if_neg (by decide)] at eO
                    rw [eO] at hq
                    simp only [u119_113, u119_121, u119_124, mw_os, wp_ite, mw_sw, Option.toList_some, Option.toList_none, List.cons_append, List.nil_append, true_and, and_true, if_true, if_false, mw_s_, mw_s_i, mw_s_r, mw_s_ii, mw_s_ir, mw_s_ri, mw_s_rr, mw_s_iii, mw_s_iir, mw_s_iri, mw_s_irr, mw_s_rii, mw_s_rir, mw_s_rri, mw_s_rrr, mw_s_iiii, mw_s_iiir, mw_s_iiri, mw_s_iirr, mw_s_irii, mw_s_irir, mw_s_irri, mw_s_irrr, mw_s_riii, mw_s_riir, mw_s_riri, mw_s_rirr, mw_s_rrii, mw_s_rrir, mw_s_rrri, mw_s_rrrr, bi_eq0, nI_1, mm_sto2, mm_sto1, mm_clr, List.getElem?_cons_zero, List.getElem?_cons_succ, List.set_cons_zero, List.set_cons_succ, hlf, hll, hli, Bool.false_eq_true]
                    exact ih (u + 1) M2 a _ (by omega) hc2 hq _ (Or.inr ⟨_, rfl⟩)
                  · rw [hob, if_pos rfl] at eO
                    rw [eO] at hq
                    simp only [u119_113, u119_116, u119_117, u119_119, u119_120, u119_121, u119_124, mw_os, wp_ite, mw_sw, Option.toList_some, Option.toList_none, List.cons_append, List.nil_append, true_and, and_true, if_true, if_false, mw_s_, mw_s_i, mw_s_r, mw_s_ii, mw_s_ir, mw_s_ri, mw_s_rr, mw_s_iii, mw_s_iir, mw_s_iri, mw_s_irr, mw_s_rii, mw_s_rir, mw_s_rri, mw_s_rrr, mw_s_iiii, mw_s_iiir, mw_s_iiri, mw_s_iirr, mw_s_irii, mw_s_irir, mw_s_irri, mw_s_irrr, mw_s_riii, mw_s_riir, mw_s_riri, mw_s_rirr, mw_s_rrii, mw_s_rrir, mw_s_rrri, mw_s_rrrr, bi_eq0, reduceCtorEq, lN_add, nI_1, mm_sto2, mm_sto1, mm_clr, List.getElem?_cons_zero, List.getElem?_cons_succ, List.set_cons_zero, List.set_cons_succ, hlf, hll, hli, Bool.false_eq_true]
                    exact ih (u + 1) M2 _ _ (by omega) hc2 hq _ (Or.inr ⟨_, rfl⟩)
              refine loop (2 ^ gTc g) 0 M1 0 0 (by omega) hc1 (fun M' hc' => ?_) none (Or.inl rfl)
              rw [← hAO, hsum]
              have hq := CT_end hc' hQ
              refine ⟨?_, fun z => ?_⟩
              · simp only [u119_127, u119_128, u119_130, u119_131, mw_os, wp_ite, mw_sw, Option.toList_some, Option.toList_none, List.cons_append, List.nil_append, true_and, and_true, if_true, if_false, mw_s_, mw_s_i, mw_s_r, mw_s_ii, mw_s_ir, mw_s_ri, mw_s_rr, mw_s_iii, mw_s_iir, mw_s_iri, mw_s_irr, mw_s_rii, mw_s_rir, mw_s_rri, mw_s_rrr, mw_s_iiii, mw_s_iiir, mw_s_iiri, mw_s_iirr, mw_s_irii, mw_s_irir, mw_s_irri, mw_s_irrr, mw_s_riii, mw_s_riir, mw_s_riri, mw_s_rirr, mw_s_rrii, mw_s_rrir, mw_s_rrri, mw_s_rrrr]
                refine C124 (n := n + 38) (by omega) (by omega) htp ?_
                unfold frV at hq ⊢
                simp only [u119_134, mw_os, wp_ite, mw_sw, Option.toList_some, Option.toList_none, List.cons_append, List.nil_append, true_and, and_true, if_true, if_false, mw_s_, mw_s_i, mw_s_r, mw_s_ii, mw_s_ir, mw_s_ri, mw_s_rr, mw_s_iii, mw_s_iir, mw_s_iri, mw_s_irr, mw_s_rii, mw_s_rir, mw_s_rri, mw_s_rrr, mw_s_iiii, mw_s_iiir, mw_s_iiri, mw_s_iirr, mw_s_irii, mw_s_irir, mw_s_irri, mw_s_irrr, mw_s_riii, mw_s_riir, mw_s_riri, mw_s_rirr, mw_s_rrii, mw_s_rrir, mw_s_rrri, mw_s_rrrr]
                exact hq
              · simp only [u119_127, u119_128, u119_130, u119_131, mw_os, wp_ite, mw_sw, Option.toList_some, Option.toList_none, List.cons_append, List.nil_append, true_and, and_true, if_true, if_false, mw_s_, mw_s_i, mw_s_r, mw_s_ii, mw_s_ir, mw_s_ri, mw_s_rr, mw_s_iii, mw_s_iir, mw_s_iri, mw_s_irr, mw_s_rii, mw_s_rir, mw_s_rri, mw_s_rrr, mw_s_iiii, mw_s_iiir, mw_s_iiri, mw_s_iirr, mw_s_irii, mw_s_irir, mw_s_irri, mw_s_irrr, mw_s_riii, mw_s_riir, mw_s_riri, mw_s_rirr, mw_s_rrii, mw_s_rrir, mw_s_rrri, mw_s_rrrr]
                refine C124 (n := n + 38) (by omega) (by omega) htp ?_
                unfold frV at hq ⊢
                simp only [u119_134, mw_os, wp_ite, mw_sw, Option.toList_some, Option.toList_none, List.cons_append, List.nil_append, true_and, and_true, if_true, if_false, mw_s_, mw_s_i, mw_s_r, mw_s_ii, mw_s_ir, mw_s_ri, mw_s_rr, mw_s_iii, mw_s_iir, mw_s_iri, mw_s_irr, mw_s_rii, mw_s_rir, mw_s_rri, mw_s_rrr, mw_s_iiii, mw_s_iiir, mw_s_iiri, mw_s_iirr, mw_s_irii, mw_s_irir, mw_s_irri, mw_s_irrr, mw_s_riii, mw_s_riir, mw_s_riri, mw_s_rirr, mw_s_rrii, mw_s_rrir, mw_s_rrri, mw_s_rrrr]
                exact hq
            · obtain ⟨o, r, hO, h1, hR, hA⟩ := MSu hC
              have e6 : o.1.2.1 = nI (gTc g) := by rw [h1]
              simp only [u206_0, u206_1, u206_2, u206_5, u206_8, u206_11, u206_31, u206_32, u206_35, u206_36, u206_39, u206_40, u206_41, e206, mw_os, wp_ite, mw_sw, Option.toList_some, Option.toList_none, List.cons_append, List.nil_append, true_and, and_true, if_true, if_false, mw_s_, mw_s_i, mw_s_r, mw_s_ii, mw_s_ir, mw_s_ri, mw_s_rr, mw_s_iii, mw_s_iir, mw_s_iri, mw_s_irr, mw_s_rii, mw_s_rir, mw_s_rri, mw_s_rrr, mw_s_iiii, mw_s_iiir, mw_s_iiri, mw_s_iirr, mw_s_irii, mw_s_irir, mw_s_irri, mw_s_irrr, mw_s_riii, mw_s_riir, mw_s_riri, mw_s_rirr, mw_s_rrii, mw_s_rrir, mw_s_rrri, mw_s_rrrr, W146, mi, bi_eq0, reduceCtorEq, not_false_eq_true, OA_6 hO, e6, m4, OA_x hO]
              refine M208 (n := n + 34) (M0 := M) hg rfl Ag_rf hC (fun M1 hm1 _ => ?_)
              rw [gsF0 hg, hgo]
              obtain ⟨o1, hO1, h11⟩ := MT_o hm1
              have e61 : o1.1.2.1 = nI (gTc g) := by rw [h11]
              have etl : (nI tv).toInt64 = lN tv := nI_l (by omega)
              simp only [u206_44, u206_54, u206_55, u206_56, u206_57, u206_58, u206_61, u206_71, u206_72, u206_73, u206_74, u206_76, u206_77, mw_os, wp_ite, mw_sw, Option.toList_some, Option.toList_none, List.cons_append, List.nil_append, true_and, and_true, if_true, if_false, mw_s_, mw_s_i, mw_s_r, mw_s_ii, mw_s_ir, mw_s_ri, mw_s_rr, mw_s_iii, mw_s_iir, mw_s_iri, mw_s_irr, mw_s_rii, mw_s_rir, mw_s_rri, mw_s_rrr, mw_s_iiii, mw_s_iiir, mw_s_iiri, mw_s_iirr, mw_s_irii, mw_s_irir, mw_s_irri, mw_s_irrr, mw_s_riii, mw_s_riir, mw_s_riri, mw_s_rirr, mw_s_rrii, mw_s_rrir, mw_s_rrri, mw_s_rrrr, n9, W146, k2, bi_eq0, reduceCtorEq, not_false_eq_true, mm_sto2, mm_sto1, mm_clr, List.getElem?_cons_zero, List.getElem?_cons_succ, List.set_cons_zero, List.set_cons_succ, hlf, hll, hli, Bool.false_eq_true]
              have pow : ∀ (k i s : Nat), i + k = gTc g → (wp scr (n + 39) mb_206 79 [some (.ref 129), some (.int (nI tv)), some (.int x2), some (.long 0), none, some (.long (lN s)), none, some (.int (nI i)), none, none, none, none] [] M1 Q ↔ wp scr (n + 39) mb_206 101 [some (.ref 129), some (.int (nI tv)), some (.int x2), some (.long 0), none, some (.long (lN ((List.range' i k).foldl (fun s _ => s * tv) s))), none, some (.int (nI (gTc g))), none, none, none, none] [] M1 Q) := by
                refine nf_loop (N := gTc g) (Φ := fun i (s : Nat) => wp scr (n + 39) mb_206 79 [some (.ref 129), some (.int (nI tv)), some (.int x2), some (.long 0), none, some (.long (lN s)), none, some (.int (nI i)), none, none, none, none] [] M1 Q) (Ψ := fun s => wp scr (n + 39) mb_206 101 [some (.ref 129), some (.int (nI tv)), some (.int x2), some (.long 0), none, some (.long (lN s)), none, some (.int (nI (gTc g))), none, none, none, none] [] M1 Q) (step := fun s _ => s * tv) (fun i s hi => u206_79.trans ?_) (fun s => u206_79.trans ?_)
                · have hle : (nI (gTc g) ≤ nI i) ↔ False := iff_false_intro (nI_ge hi (by omega))
                  simp only [u206_81, u206_82, u206_85, u206_88, u206_90, u206_91, u206_92, u206_93, u206_95, u206_98, mw_os, wp_ite, mw_sw, Option.toList_some, Option.toList_none, List.cons_append, List.nil_append, true_and, and_true, if_true, if_false, mw_s_, mw_s_i, mw_s_r, mw_s_ii, mw_s_ir, mw_s_ri, mw_s_rr, mw_s_iii, mw_s_iir, mw_s_iri, mw_s_irr, mw_s_rii, mw_s_rir, mw_s_rri, mw_s_rrr, mw_s_iiii, mw_s_iiir, mw_s_iiri, mw_s_iirr, mw_s_irii, mw_s_irir, mw_s_irri, mw_s_irrr, mw_s_riii, mw_s_riir, mw_s_riri, mw_s_rirr, mw_s_rrii, mw_s_rrir, mw_s_rrri, mw_s_rrrr, OA_6 hO1, e61, hle, etl, lN_mul, nI_1, mm_sto2, mm_sto1, mm_clr, List.getElem?_cons_zero, List.getElem?_cons_succ, List.set_cons_zero, List.set_cons_succ, hlf, hll, hli, Bool.false_eq_true]
                · have hle : (nI (gTc g) ≤ nI (gTc g)) ↔ True := iff_true_intro (nI_le (Nat.le_refl _) (by omega))
                  simp only [u206_81, u206_82, u206_85, mw_os, wp_ite, mw_sw, Option.toList_some, Option.toList_none, List.cons_append, List.nil_append, true_and, and_true, if_true, if_false, mw_s_, mw_s_i, mw_s_r, mw_s_ii, mw_s_ir, mw_s_ri, mw_s_rr, mw_s_iii, mw_s_iir, mw_s_iri, mw_s_irr, mw_s_rii, mw_s_rir, mw_s_rri, mw_s_rrr, mw_s_iiii, mw_s_iiir, mw_s_iiri, mw_s_iirr, mw_s_irii, mw_s_irir, mw_s_irri, mw_s_irrr, mw_s_riii, mw_s_riir, mw_s_riri, mw_s_rirr, mw_s_rrii, mw_s_rrir, mw_s_rrri, mw_s_rrrr, OA_6 hO1, e61, hle]
              have hpw : ∀ (k i s : Nat), (List.range' i k).foldl (fun s _ => s * tv) s = s * tv ^ k := by
                intro k
                induction k with
                | zero => intro i s; simp
                | succ k ih =>
                  intro i s
                  rw [show List.range' i (k + 1) = i :: List.range' (i + 1) k from rfl, List.foldl_cons, ih, Nat.pow_succ, Nat.mul_assoc, Nat.mul_comm tv]
              refine (pow (gTc g) 0 1 (by omega)).mpr ?_
              rw [hpw, Nat.one_mul]
              simp only [u206_101, u206_102, mw_os, wp_ite, mw_sw, Option.toList_some, Option.toList_none, List.cons_append, List.nil_append, true_and, and_true, if_true, if_false, mw_s_, mw_s_i, mw_s_r, mw_s_ii, mw_s_ir, mw_s_ri, mw_s_rr, mw_s_iii, mw_s_iir, mw_s_iri, mw_s_irr, mw_s_rii, mw_s_rir, mw_s_rri, mw_s_rrr, mw_s_iiii, mw_s_iiir, mw_s_iiri, mw_s_iirr, mw_s_irii, mw_s_irir, mw_s_irri, mw_s_irrr, mw_s_riii, mw_s_riir, mw_s_riri, mw_s_rirr, mw_s_rrii, mw_s_rrir, mw_s_rrri, mw_s_rrrr, mm_sto2, mm_sto1, mm_clr, List.getElem?_cons_zero, List.getElem?_cons_succ, List.set_cons_zero, List.set_cons_succ, hlf, hll, hli, Bool.false_eq_true]
              obtain ⟨c, hc8, hcv⟩ := gCv hg
              have loop : ∀ (k u : Nat) (Mc : mm_M) (x : HV) (a : Nat), u + k = 2 ^ gTc g → MTh M Mc g 0 x → (∀ M' x' l8 l9 l11, MTh M M' g 0 x' → wp scr (n + 39) mb_206 195 [some (.ref 129), some (.int (nI tv)), some (.int x2), some (.long (lN ((List.range' u k).foldl (fun s u => s + ouW g (tv - 1) (gTc g) u) a))), none, some (.long (lN (tv ^ gTc g))), none, some (.int (nI (2 ^ gTc g))), l8, l9, none, l11] [] M' Q) → ∀ l8 l9 l11, wp scr (n + 39) mb_206 104 [some (.ref 129), some (.int (nI tv)), some (.int x2), some (.long (lN a)), none, some (.long (lN (tv ^ gTc g))), none, some (.int (nI u)), l8, l9, none, l11] [] Mc Q := by
                intro k
                induction k with
                | zero =>
                  intro u Mc x a hu hm hq l8 l9 l11
                  obtain ⟨o2, hO2, h22⟩ := MT_o hm
                  have e62 : o2.1.2.1 = nI (gTc g) := by rw [h22]
                  have : u = 2 ^ gTc g := by omega
                  subst this
                  have hle : (nI (2 ^ gTc g) ≤ nI (2 ^ gTc g)) ↔ True := iff_true_intro (nI_le (Nat.le_refl _) (by omega))
                  refine u206_104.mpr ?_
                  simp only [u206_106, u206_107, u206_108, u206_111, u206_112, mw_os, wp_ite, mw_sw, Option.toList_some, Option.toList_none, List.cons_append, List.nil_append, true_and, and_true, if_true, if_false, mw_s_, mw_s_i, mw_s_r, mw_s_ii, mw_s_ir, mw_s_ri, mw_s_rr, mw_s_iii, mw_s_iir, mw_s_iri, mw_s_irr, mw_s_rii, mw_s_rir, mw_s_rri, mw_s_rrr, mw_s_iiii, mw_s_iiir, mw_s_iiri, mw_s_iirr, mw_s_irii, mw_s_irir, mw_s_irri, mw_s_irrr, mw_s_riii, mw_s_riir, mw_s_riri, mw_s_rirr, mw_s_rrii, mw_s_rrir, mw_s_rrri, mw_s_rrrr, OA_6 hO2, e62, shc, hle]
                  exact hq Mc x l8 l9 l11 hm
                | succ k ih =>
                  intro u Mc x a hu hm hq l8 l9 l11
                  obtain ⟨o2, hO2, h22⟩ := MT_o hm
                  have e62 : o2.1.2.1 = nI (gTc g) := by rw [h22]
                  have hle : (nI (2 ^ gTc g) ≤ nI u) ↔ False := iff_false_intro (nI_ge (by omega) (by omega))
                  have hod := (od_eq (gTc g) hc5 u (by omega) (by omega) (tv - 1) (by omega)).1
                  rw [show List.range' u (k + 1) = u :: List.range' (u + 1) k from rfl, List.foldl_cons] at hq
                  refine u206_104.mpr ?_
                  simp only [u206_106, u206_107, u206_108, u206_111, u206_112, u206_115, u206_116, u206_118, mw_os, wp_ite, mw_sw, Option.toList_some, Option.toList_none, List.cons_append, List.nil_append, true_and, and_true, if_true, if_false, mw_s_, mw_s_i, mw_s_r, mw_s_ii, mw_s_ir, mw_s_ri, mw_s_rr, mw_s_iii, mw_s_iir, mw_s_iri, mw_s_irr, mw_s_rii, mw_s_rir, mw_s_rri, mw_s_rrr, mw_s_iiii, mw_s_iiir, mw_s_iiri, mw_s_iirr, mw_s_irii, mw_s_irir, mw_s_irri, mw_s_irrr, mw_s_riii, mw_s_riir, mw_s_riri, mw_s_rirr, mw_s_rrii, mw_s_rrir, mw_s_rrri, mw_s_rrrr, OA_6 hO2, e62, shc, hle, OA_x hO2]
                  refine M208 (n := n + 34) (M0 := M) hg hm.1 hm.2.1 hm.2.2.1 (fun M2 hm2 ht2 => ?_)
                  obtain ⟨o3, hO3, h33⟩ := MT_o hm2
                  have e63 : o3.1.2.1 = nI (gTc g) := by rw [h33]
                  simp only [u206_121, u206_123, u206_124, u206_126, u206_127, mw_os, wp_ite, mw_sw, Option.toList_some, Option.toList_none, List.cons_append, List.nil_append, true_and, and_true, if_true, if_false, mw_s_, mw_s_i, mw_s_r, mw_s_ii, mw_s_ir, mw_s_ri, mw_s_rr, mw_s_iii, mw_s_iir, mw_s_iri, mw_s_irr, mw_s_rii, mw_s_rir, mw_s_rri, mw_s_rrr, mw_s_iiii, mw_s_iiir, mw_s_iiri, mw_s_iirr, mw_s_irii, mw_s_irir, mw_s_irri, mw_s_irrr, mw_s_riii, mw_s_riir, mw_s_riri, mw_s_rirr, mw_s_rrii, mw_s_rrir, mw_s_rrri, mw_s_rrrr, mm_sto2, mm_sto1, mm_clr, List.getElem?_cons_zero, List.getElem?_cons_succ, List.set_cons_zero, List.set_cons_succ, hlf, hll, hli, Bool.false_eq_true]
                  generalize oI (-9) (gsF (tN g) (foB (nI u)) (gTc g) 0 (gN g)).1 = x8
                  have odd : ∀ (k i s : Nat), i + k = gTc g → (wp scr (n + 39) mb_206 129 [some (.ref 129), some (.int (nI tv)), some (.int x2), some (.long (lN a)), none, some (.long (lN (tv ^ gTc g))), none, some (.int (nI u)), some (.int x8), some (.long (lN s)), none, some (.int (nI i))] [] M2 Q ↔ wp scr (n + 39) mb_206 168 [some (.ref 129), some (.int (nI tv)), some (.int x2), some (.long (lN a)), none, some (.long (lN (tv ^ gTc g))), none, some (.int (nI u)), some (.int x8), some (.long (lN ((List.range' i k).foldl (fun s k => s * (if foB (nI u) k = true then 1 else tv - 1)) s))), none, some (.int (nI (gTc g)))] [] M2 Q) := by
                    refine nf_loop (N := gTc g) (Φ := fun i (s : Nat) => wp scr (n + 39) mb_206 129 [some (.ref 129), some (.int (nI tv)), some (.int x2), some (.long (lN a)), none, some (.long (lN (tv ^ gTc g))), none, some (.int (nI u)), some (.int x8), some (.long (lN s)), none, some (.int (nI i))] [] M2 Q) (Ψ := fun s => wp scr (n + 39) mb_206 168 [some (.ref 129), some (.int (nI tv)), some (.int x2), some (.long (lN a)), none, some (.long (lN (tv ^ gTc g))), none, some (.int (nI u)), some (.int x8), some (.long (lN s)), none, some (.int (nI (gTc g)))] [] M2 Q) (step := fun s k => s * (if foB (nI u) k = true then 1 else tv - 1)) (fun i s hi => u206_129.trans ?_) (fun s => u206_129.trans ?_)
                    · have hle : (nI (gTc g) ≤ nI i) ↔ False := iff_false_intro (nI_ge hi (by omega))
                      have e1 : lN s * 1 = lN (s * 1) := lN_mul s 1
                      have e2 : lN tv - 1 = lN (tv - 1) := lN_sub (b := 1) (by omega)
                      cases hb : foB (nI u) i
                      · have hb0 : ¬ (nI u >>> (nI i &&& 31)) &&& 1 = 1 := of_decide_eq_false hb
                        simp only [u206_131, u206_132, u206_135, u206_138, u206_140, u206_142, u206_144, u206_145, u206_146, u206_147, u206_148, u206_155, u206_156, u206_157, u206_158, u206_159, u206_160, u206_162, u206_165, mw_os, wp_ite, mw_sw, Option.toList_some, Option.toList_none, List.cons_append, List.nil_append, true_and, and_true, if_true, if_false, mw_s_, mw_s_i, mw_s_r, mw_s_ii, mw_s_ir, mw_s_ri, mw_s_rr, mw_s_iii, mw_s_iir, mw_s_iri, mw_s_irr, mw_s_rii, mw_s_rir, mw_s_rri, mw_s_rrr, mw_s_iiii, mw_s_iiir, mw_s_iiri, mw_s_iirr, mw_s_irii, mw_s_irir, mw_s_irri, mw_s_irrr, mw_s_riii, mw_s_riir, mw_s_riri, mw_s_rirr, mw_s_rrii, mw_s_rrir, mw_s_rrri, mw_s_rrrr, OA_6 hO3, e63, hle, hb0, etl, e2, lN_mul, nI_1, reduceCtorEq, mm_sto2, mm_sto1, mm_clr, List.getElem?_cons_zero, List.getElem?_cons_succ, List.set_cons_zero, List.set_cons_succ, hlf, hll, hli, Bool.false_eq_true]
                      · have hb0 : (nI u >>> (nI i &&& 31)) &&& 1 = 1 := of_decide_eq_true hb
                        simp only [u206_131, u206_132, u206_135, u206_138, u206_140, u206_142, u206_144, u206_145, u206_146, u206_147, u206_148, u206_151, u206_152, u206_159, u206_160, u206_162, u206_165, mw_os, wp_ite, mw_sw, Option.toList_some, Option.toList_none, List.cons_append, List.nil_append, true_and, and_true, if_true, if_false, mw_s_, mw_s_i, mw_s_r, mw_s_ii, mw_s_ir, mw_s_ri, mw_s_rr, mw_s_iii, mw_s_iir, mw_s_iri, mw_s_irr, mw_s_rii, mw_s_rir, mw_s_rri, mw_s_rrr, mw_s_iiii, mw_s_iiir, mw_s_iiri, mw_s_iirr, mw_s_irii, mw_s_irir, mw_s_irri, mw_s_irrr, mw_s_riii, mw_s_riir, mw_s_riri, mw_s_rirr, mw_s_rrii, mw_s_rrir, mw_s_rrri, mw_s_rrrr, OA_6 hO3, e63, hle, hb0, e1, nI_1, mm_sto2, mm_sto1, mm_clr, List.getElem?_cons_zero, List.getElem?_cons_succ, List.set_cons_zero, List.set_cons_succ, hlf, hll, hli, Bool.false_eq_true]
                    · have hle : (nI (gTc g) ≤ nI (gTc g)) ↔ True := iff_true_intro (nI_le (Nat.le_refl _) (by omega))
                      simp only [u206_131, u206_132, u206_135, mw_os, wp_ite, mw_sw, Option.toList_some, Option.toList_none, List.cons_append, List.nil_append, true_and, and_true, if_true, if_false, mw_s_, mw_s_i, mw_s_r, mw_s_ii, mw_s_ir, mw_s_ri, mw_s_rr, mw_s_iii, mw_s_iir, mw_s_iri, mw_s_irr, mw_s_rii, mw_s_rir, mw_s_rri, mw_s_rrr, mw_s_iiii, mw_s_iiir, mw_s_iiri, mw_s_iirr, mw_s_irii, mw_s_irir, mw_s_irri, mw_s_irrr, mw_s_riii, mw_s_riir, mw_s_riri, mw_s_rirr, mw_s_rrii, mw_s_rrir, mw_s_rrri, mw_s_rrrr, OA_6 hO3, e63, hle]
                  refine (odd (gTc g) 0 1 (by omega)).mpr ?_
                  change wp scr (n + 39) mb_206 168 [some (.ref 129), some (.int (nI tv)), some (.int x2), some (.long (lN a)), none, some (.long (lN (tv ^ gTc g))), none, some (.int (nI u)), some (.int x8), some (.long (lN (odN (tv - 1) (gTc g) u))), none, some (.int (nI (gTc g)))] [] M2 Q
                  rw [hod]
                  have d2 : mm_lda M2 132 0 = some (.ref 133) := DPk (k := 0) hm2.2.2.1 (by decide)
                  obtain ⟨r3, hR3, hA3⟩ := hm2.2.2.2
                  obtain ⟨y3, hG3, _⟩ := hU_GT ht2.1
                  have hrc : rC r3 = nI c := by rw [hR3.2.2.2.2.2.2.1, ht2.2.2.2.2.2.1, hcv]
                  have w183 : ∀ Q : Option Value → mm_M → Prop, Wp scr (n + 39) 183 [.ref 133] M2 Q ↔ Q (some (.int (bi (ouB g u)))) M2 := fun Q => by
                    have := W183 (scr := scr) (n := n + 35) (Q := Q) hA3 hR3.1 hrc hc8
                    rw [show rP r3 = panL (hU (gsF (tN g) (foB (nI u)) (gTc g) 0 (gN g)).2) from hR3.2.2.2.2.2.1, GT_out hG3 hc8, ← hcv] at this
                    exact this
                  have z0 : ∀ a : Nat, lN a + 0 = lN (a + 0) := fun a => lN_add a 0
                  have eO : ouW g (tv - 1) (gTc g) u = if ouB g u = true then (tv - 1) ^ (gTc g - bcN u) else 0 := rfl
                  cases hob : ouB g u
                  · rw [hob, if_neg (by decide)] at eO
                    rw [eO] at hq
                    simp only [u206_168, u206_169, u206_170, u206_173, u206_174, u206_175, u206_178, u206_186, u206_187, u206_188, u206_189, u206_192, mw_os, wp_ite, mw_sw, Option.toList_some, Option.toList_none, List.cons_append, List.nil_append, true_and, and_true, if_true, if_false, mw_s_, mw_s_i, mw_s_r, mw_s_ii, mw_s_ir, mw_s_ri, mw_s_rr, mw_s_iii, mw_s_iir, mw_s_iri, mw_s_irr, mw_s_rii, mw_s_rir, mw_s_rri, mw_s_rrr, mw_s_iiii, mw_s_iiir, mw_s_iiri, mw_s_iirr, mw_s_irii, mw_s_irir, mw_s_irri, mw_s_irrr, mw_s_riii, mw_s_riir, mw_s_riri, mw_s_rirr, mw_s_rrii, mw_s_rrir, mw_s_rrri, mw_s_rrrr, mw_l, OA_2 hO3, d2, w183, hob, bi_eq0, z0, nI_1, mm_sto2, mm_sto1, mm_clr, List.getElem?_cons_zero, List.getElem?_cons_succ, List.set_cons_zero, List.set_cons_succ, hlf, hll, hli, Bool.false_eq_true]
                    exact ih (u + 1) M2 _ _ (by omega) hm2 hq _ _ _
                  · rw [hob, if_pos rfl] at eO
                    rw [eO] at hq
                    simp only [u206_168, u206_169, u206_170, u206_173, u206_174, u206_175, u206_178, u206_181, u206_183, u206_187, u206_188, u206_189, u206_192, mw_os, wp_ite, mw_sw, Option.toList_some, Option.toList_none, List.cons_append, List.nil_append, true_and, and_true, if_true, if_false, mw_s_, mw_s_i, mw_s_r, mw_s_ii, mw_s_ir, mw_s_ri, mw_s_rr, mw_s_iii, mw_s_iir, mw_s_iri, mw_s_irr, mw_s_rii, mw_s_rir, mw_s_rri, mw_s_rrr, mw_s_iiii, mw_s_iiir, mw_s_iiri, mw_s_iirr, mw_s_irii, mw_s_irir, mw_s_irri, mw_s_irrr, mw_s_riii, mw_s_riir, mw_s_riri, mw_s_rirr, mw_s_rrii, mw_s_rrir, mw_s_rrri, mw_s_rrrr, mw_l, OA_2 hO3, d2, w183, hob, bi_eq0, reduceCtorEq, lN_add, nI_1, mm_sto2, mm_sto1, mm_clr, List.getElem?_cons_zero, List.getElem?_cons_succ, List.set_cons_zero, List.set_cons_succ, hlf, hll, hli, Bool.false_eq_true]
                    exact ih (u + 1) M2 _ _ (by omega) hm2 hq _ _ _
              refine loop (2 ^ gTc g) 0 M1 _ 0 (by omega) hm1 (fun M' x' l8 l9 l11 hm' => ?_) none none none
              rw [← hAO]
              have hq := MT_end hm' hQ
              simp only [u206_195, u206_196, u206_198, u206_199, mw_os, wp_ite, mw_sw, Option.toList_some, Option.toList_none, List.cons_append, List.nil_append, true_and, and_true, if_true, if_false, mw_s_, mw_s_i, mw_s_r, mw_s_ii, mw_s_ir, mw_s_ri, mw_s_rr, mw_s_iii, mw_s_iir, mw_s_iri, mw_s_irr, mw_s_rii, mw_s_rir, mw_s_rri, mw_s_rrr, mw_s_iiii, mw_s_iiir, mw_s_iiri, mw_s_iirr, mw_s_irii, mw_s_irir, mw_s_irri, mw_s_irrr, mw_s_riii, mw_s_riir, mw_s_riri, mw_s_rirr, mw_s_rrii, mw_s_rrir, mw_s_rrri, mw_s_rrrr]
              refine M209 (n := n + 38) (by omega) (by omega) htp ?_
              unfold frV at hq ⊢
              simp only [u206_202, mw_os, wp_ite, mw_sw, Option.toList_some, Option.toList_none, List.cons_append, List.nil_append, true_and, and_true, if_true, if_false, mw_s_, mw_s_i, mw_s_r, mw_s_ii, mw_s_ir, mw_s_ri, mw_s_rr, mw_s_iii, mw_s_iir, mw_s_iri, mw_s_irr, mw_s_rii, mw_s_rir, mw_s_rri, mw_s_rrr, mw_s_iiii, mw_s_iiir, mw_s_iiri, mw_s_iirr, mw_s_irii, mw_s_irir, mw_s_irri, mw_s_irrr, mw_s_riii, mw_s_riir, mw_s_riri, mw_s_rirr, mw_s_rrii, mw_s_rrir, mw_s_rrri, mw_s_rrrr]
              exact hq
          · have k1 : decide ((0 : Int32) ≤ x2 ∧ x2 < 2) = false := ib_f (N := 2) hy
            have k2 : inB x2.toInt64 0 1 = false := (inB_eq x2 0 1).trans (il_f (N := 1) (by decide) hy)
            refine ⟨lrV 2, gRf g 2, gRf_ok hg, fun n M Q hC hQ => ?_, fun n M Q hC hQ => ?_⟩
            · simp only [u119_0, u119_1, u119_2, u119_12, u119_13, u119_15, u119_25, u119_26, u119_29, u119_30, u119_33, u119_34, e119, mw_os, wp_ite, mw_sw, Option.toList_some, Option.toList_none, List.cons_append, List.nil_append, true_and, and_true, if_true, if_false, mw_s_, mw_s_i, mw_s_r, mw_s_ii, mw_s_ir, mw_s_ri, mw_s_rr, mw_s_iii, mw_s_iir, mw_s_iri, mw_s_irr, mw_s_rii, mw_s_rir, mw_s_rri, mw_s_rrr, mw_s_iiii, mw_s_iiir, mw_s_iiri, mw_s_iirr, mw_s_irii, mw_s_irir, mw_s_irri, mw_s_irrr, mw_s_riii, mw_s_riir, mw_s_riri, mw_s_rirr, mw_s_rrii, mw_s_rrir, mw_s_rrri, mw_s_rrrr, m1, m2, CS_8 hC, m4, CS_x hC]
              refine C121 (n := n + 34) hg (CTh_rf hC) (fun M1 hc1 => ?_)
              rw [hgo]
              have hC1 := hc1.2.2.1
              simp only [u119_37, u119_47, u119_48, u119_49, u119_52, u119_55, u119_56, u119_58, mw_os, wp_ite, mw_sw, Option.toList_some, Option.toList_none, List.cons_append, List.nil_append, true_and, and_true, if_true, if_false, mw_s_, mw_s_i, mw_s_r, mw_s_ii, mw_s_ir, mw_s_ri, mw_s_rr, mw_s_iii, mw_s_iir, mw_s_iri, mw_s_irr, mw_s_rii, mw_s_rir, mw_s_rri, mw_s_rrr, mw_s_iiii, mw_s_iiir, mw_s_iiri, mw_s_iirr, mw_s_irii, mw_s_irir, mw_s_irri, mw_s_irrr, mw_s_riii, mw_s_riir, mw_s_riri, mw_s_rirr, mw_s_rrii, mw_s_rrir, mw_s_rrri, mw_s_rrrr, n1, W89, k1, bi_eq0, not_true, CS_x hC1]
              refine C120 (k := 2) (n := n + 37) hC1 hg (by decide) (by decide) (fun M' hl ha hc => ?_)
              unfold lrV
              simp only [u119_61, mw_os, wp_ite, mw_sw, Option.toList_some, Option.toList_none, List.cons_append, List.nil_append, true_and, and_true, if_true, if_false, mw_s_, mw_s_i, mw_s_r, mw_s_ii, mw_s_ir, mw_s_ri, mw_s_rr, mw_s_iii, mw_s_iir, mw_s_iri, mw_s_irr, mw_s_rii, mw_s_rir, mw_s_rri, mw_s_rrr, mw_s_iiii, mw_s_iiir, mw_s_iiri, mw_s_iirr, mw_s_irii, mw_s_irir, mw_s_irri, mw_s_irrr, mw_s_riii, mw_s_riir, mw_s_riri, mw_s_rirr, mw_s_rrii, mw_s_rrir, mw_s_rrri, mw_s_rrrr]
              exact hQ M' (hl.trans hc1.1) (Ag_tr hc1.2.1 ha) hc
            · obtain ⟨o, r, hO, h1, hR, hA⟩ := MSu hC
              have e6 : o.1.2.1 = nI (gTc g) := by rw [h1]
              simp only [u206_0, u206_1, u206_2, u206_5, u206_8, u206_11, u206_31, u206_32, u206_35, u206_36, u206_39, u206_40, u206_41, e206, mw_os, wp_ite, mw_sw, Option.toList_some, Option.toList_none, List.cons_append, List.nil_append, true_and, and_true, if_true, if_false, mw_s_, mw_s_i, mw_s_r, mw_s_ii, mw_s_ir, mw_s_ri, mw_s_rr, mw_s_iii, mw_s_iir, mw_s_iri, mw_s_irr, mw_s_rii, mw_s_rir, mw_s_rri, mw_s_rrr, mw_s_iiii, mw_s_iiir, mw_s_iiri, mw_s_iirr, mw_s_irii, mw_s_irir, mw_s_irri, mw_s_irrr, mw_s_riii, mw_s_riir, mw_s_riri, mw_s_rirr, mw_s_rrii, mw_s_rrir, mw_s_rrri, mw_s_rrrr, W146, mi, bi_eq0, reduceCtorEq, not_false_eq_true, OA_6 hO, e6, m4, OA_x hO]
              refine M208 (n := n + 34) (M0 := M) hg rfl Ag_rf hC (fun M1 hm1 _ => ?_)
              rw [gsF0 hg, hgo]
              obtain ⟨o1, hO1, _⟩ := MT_o hm1
              simp only [u206_44, u206_54, u206_55, u206_56, u206_57, u206_58, u206_61, u206_64, u206_65, u206_67, mw_os, wp_ite, mw_sw, Option.toList_some, Option.toList_none, List.cons_append, List.nil_append, true_and, and_true, if_true, if_false, mw_s_, mw_s_i, mw_s_r, mw_s_ii, mw_s_ir, mw_s_ri, mw_s_rr, mw_s_iii, mw_s_iir, mw_s_iri, mw_s_irr, mw_s_rii, mw_s_rir, mw_s_rri, mw_s_rrr, mw_s_iiii, mw_s_iiir, mw_s_iiri, mw_s_iirr, mw_s_irii, mw_s_irir, mw_s_irri, mw_s_irrr, mw_s_riii, mw_s_riir, mw_s_riri, mw_s_rirr, mw_s_rrii, mw_s_rrir, mw_s_rrri, mw_s_rrrr, n9, W146, k2, bi_eq0, not_true, OA_x hO1]
              refine M207 (k := 2) (n := n + 37) hm1.2.2.1 hg (by decide) (by decide) (fun M' hl ha hc => ?_)
              unfold lrV
              simp only [u206_70, mw_os, wp_ite, mw_sw, Option.toList_some, Option.toList_none, List.cons_append, List.nil_append, true_and, and_true, if_true, if_false, mw_s_, mw_s_i, mw_s_r, mw_s_ii, mw_s_ir, mw_s_ri, mw_s_rr, mw_s_iii, mw_s_iir, mw_s_iri, mw_s_irr, mw_s_rii, mw_s_rir, mw_s_rri, mw_s_rrr, mw_s_iiii, mw_s_iiir, mw_s_iiri, mw_s_iirr, mw_s_irii, mw_s_irir, mw_s_irri, mw_s_irrr, mw_s_riii, mw_s_riir, mw_s_riri, mw_s_rirr, mw_s_rrii, mw_s_rrir, mw_s_rrri, mw_s_rrrr]
              exact hQ M' (hl.trans hm1.1) (Ag_tr hm1.2.1 ha) hc
end WD
