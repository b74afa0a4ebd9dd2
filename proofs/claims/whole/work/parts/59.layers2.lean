def okS8 (x : tbE) : Bool := !Nat.beq (rk x.1) 2 || (Nat.beq (dgt x.1 42) 8 && (List.range 8).all (fun p => Nat.beq (dgt x.1 p) 0 && Nat.beq (dgt x.1 (8 + p)) 0 && Nat.blt (dgt x.1 (16 + p)) 8))
set_option maxRecDepth 100000 in
theorem TB_s8 : (tgs.all (fun a => a.all (fun b => b.all okS8))) = true := by decide +kernel
theorem TB_sh {x : tbE} (h : x ∈ TB) : okS8 x = true := by
  unfold TB at h
  rw [List.mem_flatten] at h
  obtain ⟨l, h1, h2⟩ := h
  rw [List.mem_flatten] at h1
  obtain ⟨a, h3, h4⟩ := h1
  exact List.all_eq_true.mp (List.all_eq_true.mp (List.all_eq_true.mp TB_s8 a h3) l h4) x h2
theorem GT_sh {z : tbE} {u : LV} (hz : GT z u) (hs : Sh u) : ∀ p, p < 8 → ∃ L, L ≤ 7 ∧ gi (vL u) (nI p) = nI L ∧ vU u (nI p) = nI (7 - L) := by
  have h8 := TB_sh hz.1
  obtain ⟨e1, e2, _, _, _, _⟩ := GT_wt hz
  have a1 := (nI_eq (a := dgt z.1 50) (b := 1) (Nat.lt_of_lt_of_le (Nat.mod_lt _ (by decide)) (by decide)) (by decide)).mp (e1.symm.trans hs.1)
  have a2 := (nI_eq (a := dgt z.1 51) (b := 1) (Nat.lt_of_lt_of_le (Nat.mod_lt _ (by decide)) (by decide)) (by decide)).mp (e2.symm.trans hs.2)
  have hrk : rk z.1 = 2 := by unfold rk; omega
  unfold okS8 at h8
  rw [hrk] at h8
  simp only [show Nat.beq 2 2 = true from rfl, Bool.not_true, Bool.false_or, Bool.and_eq_true, List.all_eq_true] at h8
  obtain ⟨k1, k2⟩ := h8
  have k1 := Nat.eq_of_beq_eq_true k1
  intro p hp
  obtain ⟨⟨k3, k4⟩, k5⟩ := k2 p (List.mem_range.mpr hp)
  have k3 := Nat.eq_of_beq_eq_true k3
  have k4 := Nat.eq_of_beq_eq_true k4
  have k5 := Nat.blt_eq.mp k5
  have gC : gi (vC u) (nI p) = nI 0 := by
    rw [eqV_eq hz.2]
    show gi ((List.range 8).map (fun i => dg z.1 (0 + i))) (nI p) = _
    rw [gi_map hp (by omega), Nat.zero_add]
    show nI (dgt z.1 p) = _
    rw [k3]
  have gR' : gi (vR u) (nI p) = nI 0 := by
    rw [eqV_eq hz.2]
    show gi ((List.range 8).map (fun i => dg z.1 (8 + i))) (nI p) = _
    rw [gi_map hp (by omega)]
    show nI (dgt z.1 (8 + p)) = _
    rw [k4]
  have gL : gi (vL u) (nI p) = nI (dgt z.1 (16 + p)) := by
    rw [eqV_eq hz.2]
    show gi ((List.range 8).map (fun i => dg z.1 (16 + i))) (nI p) = _
    rw [gi_map hp (by omega)]
    rfl
  have gH' : gi (vH u) (nI 0) = nI 8 := by
    rw [eqV_eq hz.2]
    show gi ((List.range 8).map (fun i => dg z.1 (42 + i))) (nI 0) = _
    rw [gi_map (by omega) (by omega)]
    show nI (dgt z.1 42) = _
    rw [k1]
  refine ⟨dgt z.1 (16 + p), by omega, gL, ?_⟩
  unfold vU vX
  rw [gC, gR', gL, m4n, nI_add, gH', show nI 8 - 1 = nI 7 from rfl, pk_sub (by omega)]
theorem fold_cgA {α σ : Type} {f g : σ → α → σ} : ∀ (l : List α) (s : σ), (∀ s i, i ∈ l → f s i = g s i) → l.foldl f s = l.foldl g s := by
  intro l
  induction l with
  | nil => intro s _; rfl
  | cons a l ih =>
    intro s h
    rw [List.foldl_cons, List.foldl_cons, h s a (List.mem_cons_self ..), ih _ (fun s i hi => h s i (List.mem_cons_of_mem _ hi))]
theorem arP_iff {T : List Int32} {u : LV} {p : Nat} : arP T u p = true ↔ ∃ k, k < 8 ∧ gi T (nI k) = nI p ∧ vU u (nI p) = nI k := by
  have key : ∀ (L : List Nat) (b : Bool), L.foldl (arS T u p) b = true ↔ b = true ∨ ∃ k, k ∈ L ∧ gi T (nI k) = nI p ∧ vU u (nI p) = nI k := by
    intro L
    induction L with
    | nil => intro b; simp
    | cons a L ih =>
      intro b
      rw [List.foldl_cons, ih]
      unfold arS
      rw [Bool.or_eq_true, decide_eq_true_eq]
      constructor
      · rintro ((h | h) | ⟨k, k1, k2⟩)
        · exact Or.inl h
        · exact Or.inr ⟨a, List.mem_cons_self .., h⟩
        · exact Or.inr ⟨k, List.mem_cons_of_mem _ k1, k2⟩
      · rintro (h | ⟨k, k1, k2⟩)
        · exact Or.inl (Or.inl h)
        · rcases List.mem_cons.mp k1 with rfl | k1
          · exact Or.inl (Or.inr k2)
          · exact Or.inr ⟨k, k1, k2⟩
  unfold arP
  rw [key]
  constructor
  · rintro (h | ⟨k, k1, k2⟩)
    · cases h
    · exact ⟨k, by rw [List.mem_range'_1] at k1; omega, k2⟩
  · rintro ⟨k, k1, k2⟩
    exact Or.inr ⟨k, by rw [List.mem_range'_1]; omega, k2⟩
def wnL (g : SG) (w : List Int32) : List Int32 := (List.range' 0 8).foldl (fun w i => w.set (tN g i) (nI (7 - i))) w
theorem wnL_gi {g : SG} {w : List Int32} (hw : w.length = 8) (h : ∀ p, p < 8 → ∃ k, k < 8 ∧ tN g k = p) : (wnL g w).length = 8 ∧ ∀ k, k < 8 → gi (wnL g w) (nI (tN g k)) = nI (7 - k) := by
  obtain ⟨h8, hinj⟩ := eight_inj h
  have key : ∀ (k i : Nat) (w : List Int32), i + k = 8 → w.length = 8 → (∀ j, j < i → gi w (nI (tN g j)) = nI (7 - j)) → ((List.range' i k).foldl (fun w i => w.set (tN g i) (nI (7 - i))) w).length = 8 ∧ ∀ j, j < 8 → gi ((List.range' i k).foldl (fun w i => w.set (tN g i) (nI (7 - i))) w) (nI (tN g j)) = nI (7 - j) := by
    intro k
    induction k with
    | zero =>
      intro i w hi hw hj
      exact ⟨hw, fun j hj' => hj j (by omega)⟩
    | succ k ih =>
      intro i w hi hw hj
      rw [show List.range' i (k + 1) = i :: List.range' (i + 1) k from rfl, List.foldl_cons]
      refine ih (i + 1) _ (by omega) (by rw [List.length_set]; exact hw) (fun j hj' => ?_)
      have := h8 j (by omega)
      rw [gi_st (by omega) (by omega)]
      by_cases he : i = j
      · subst he
        rw [if_pos rfl]
      · rw [if_neg (fun z => he (hinj i j (by omega) (by omega) z))]
        exact hj j (by omega)
  exact key 8 0 w rfl hw (fun j hj => by omega)
section LA2
variable {scr : List Int32} {n : Nat} {M : mm_M} {Q : Option Value → mm_M → Prop} {g : SG} {τ : QV}
def RL (g : SG) (x : ND) : Bool := arV (gT g) x.2.2.2
def BL (g : SG) : Option (Nat × Nat) := (nds q4 (gN g).1 4 0 0 0 (gU g)).foldl (hV (RL g) (fun x => x.2.1)) none
/-- what is wanted, said by both -/
theorem RL_eq {z : tbE} {u : LV} {cv : Int32} (hg : SGOK g) (ht : tAll g = true) (hz : GT z u) (hG4 : qG τ = 4) (hw : ∀ k, k < 8 → gi (qW τ) (nI (tN g k)) = nI (7 - k)) : qRe τ u cv = arV (gT g) u := by
  obtain ⟨h8, hp⟩ := tAll_perm ht
  obtain ⟨hlt, hinj⟩ := eight_inj hp
  unfold qRe arV
  rw [if_neg (by rw [hG4]; decide), if_neg (by rw [hG4]; decide), if_pos hG4]
  cases hs : decide (vW u = 1 ∧ vT u = 1)
  · rw [Bool.and_false]; rfl
  · have hs := of_decide_eq_true hs
    have hL := GT_sh hz hs
    rw [Bool.and_true, Bool.true_and, Bool.eq_iff_iff]
    unfold qLw
    rw [List.all_eq_true, List.all_eq_true]
    have one : ∀ p, p < 8 → ((gi (vL u) (nI p) = gi (qW τ) (nI p)) ↔ arP (gT g) u p = true) := by
      intro p hp8
      obtain ⟨k, k1, k2⟩ := hp p hp8
      obtain ⟨L, l1, l2, l3⟩ := hL p hp8
      have hwk := hw k k1
      rw [k2] at hwk
      rw [l2, hwk, nI_eq (by omega) (by omega), arP_iff]
      constructor
      · intro e
        refine ⟨k, k1, by rw [(tN_eq hg (by omega)).1, k2], ?_⟩
        rw [l3]
        congr 1
        omega
      · rintro ⟨j, j1, j2, j3⟩
        rw [(tN_eq hg (by omega)).1] at j2
        have t8 := hlt j j1
        have ej := (nI_eq (a := tN g j) (b := p) (by omega) (by omega)).mp j2
        have ejk := hinj j k j1 k1 (by rw [ej, k2])
        rw [l3] at j3
        have := (nI_eq (a := 7 - L) (b := j) (by omega) (by omega)).mp j3
        omega
    constructor
    · intro h p hp8
      rw [List.mem_range'_1] at hp8
      exact (one p (by omega)).mp (of_decide_eq_true (h p (List.mem_range.mpr (by omega))))
    · intro h p hp8
      rw [List.mem_range] at hp8
      exact decide_eq_true ((one p hp8).mpr (h p (by rw [List.mem_range'_1]; omega)))
theorem class_L (hg : SGOK g) (ht : tAll g = true) (hG4 : qG τ = 4) (hs : qS τ = nI 0) (h0 : qF τ = 0) (hw : ∀ k, k < 8 → gi (qW τ) (nI (tN g k)) = nI (7 - k)) : QB (exV (gN g).1 (4 - (gN g).2.1) (gU g) 0 0 0 τ) (BL g) := by
  obtain ⟨x, hG, hrk⟩ := gU_GT hg
  have h := exV_best (w := (gN g).1) (τ0 := τ) (F9 hg) hs (4 - (gN g).2.1) 0 0 0 (gU g) τ none ⟨x, hG⟩ Same.rf (by omega) (by omega) (by decide) (Or.inl ⟨h0, rfl⟩)
  have e2 : (fun u => exW u (qG τ)) = qL := by
    funext u
    unfold exW qL
    rw [hG4]
    by_cases hc : vW u * vT u = 2
    · rw [if_pos ⟨rfl, hc⟩, if_pos hc]
    · rw [if_neg (fun z => hc z.2), if_neg hc]
  have hq4 : ∀ u, qL u ≤ 4 := fun u => by unfold qL; split <;> omega
  rw [e2, nds_4 hg hq4] at h
  have e4 : BL g = (nds qL (gN g).1 4 0 0 0 (gU g)).foldl (hV (hR τ (sCv (gN g).1)) (hC τ)) none := by
    have eB : BL g = (nds q4 (gN g).1 4 0 0 0 (gU g)).foldl (hV (hR τ (sCv (gN g).1)) (hC τ)) none := by
      unfold BL
      refine fold_cgA _ _ (fun b y hy => ?_)
      obtain ⟨⟨z, hz⟩, _⟩ := nd_sm hg hy
      unfold hV
      rw [show hR τ (sCv (gN g).1) y = RL g y from RL_eq hg ht hz hG4 hw]
      have : hC τ y = y.2.1 := by
        unfold hC
        rw [hG4]; rfl
      rw [this]
    rw [eB, ← hts_fold, ← hts_fold]
    refine best_L ⟨x, hG⟩ (fun y hy => ?_) (fun y y' a b c => ?_)
    · unfold hR qRe at hy
      rw [if_neg (by rw [hG4]; decide), if_neg (by rw [hG4]; decide), if_pos hG4, Bool.and_eq_true] at hy
      exact (of_decide_eq_true hy.1 : vW y.2.2.2 = 1 ∧ vT y.2.2.2 = 1)
    · unfold hR hC
      rw [a, b, c]
      exact ⟨rfl, rfl⟩
  rw [e4]
  exact h
theorem ref_4 (hg : SGOK g) {A B : Int32} : MB 0 ((nds q4 (gN g).1 4 0 0 0 (gU g)).foldl (mV 4 A B (sCv (gN g).1) (gT g)) (-9, -9, -9, 0)) (BL g) := by
  refine MB_all (by decide) _ _ _ (fun σ x hx => ?_) (Or.inl ⟨rfl, rfl, rfl⟩)
  obtain ⟨_, b1, b2, b3⟩ := nd_sm hg hx
  rw [sub0]
  unfold mV mtV RL
  rw [if_neg (by decide), if_neg (by decide), if_neg (by decide), if_neg (by decide)]
  refine ⟨fun hr => ?_, fun hr => ?_, by show x.2.1 < _; omega, by omega⟩
  · rw [if_pos hr]; exact ⟨rfl, rfl⟩
  · rw [if_neg hr]; exact ⟨rfl, rfl⟩
theorem J_layers (hg : SGOK g) : JO scr 110 195 [] g := by
  cases ht : tAll g
  · refine ⟨.int (-9), g, hg, fun n M Q hC hQ => ?_, fun n M Q hC hQ => ?_⟩
    · have hq := Csame hC hQ
      simp only [e110, u110_0, u110_1, u110_4, u110_7, u110_9, mw_os, wp_ite, mw_sw, Option.toList_some, Option.toList_none, List.cons_append, List.nil_append, true_and, and_true, if_true, if_false, mw_s_, mw_s_i, mw_s_r, mw_s_ii, mw_s_ir, mw_s_ri, mw_s_rr, mw_s_iii, mw_s_iir, mw_s_iri, mw_s_irr, mw_s_rii, mw_s_rir, mw_s_rri, mw_s_rrr, mw_s_iiii, mw_s_iiir, mw_s_iiri, mw_s_iirr, mw_s_irii, mw_s_irir, mw_s_irri, mw_s_irrr, mw_s_riii, mw_s_riir, mw_s_riri, mw_s_rirr, mw_s_rrii, mw_s_rrir, mw_s_rrri, mw_s_rrrr, mm_sto1, mm_clr, mm_isL, List.getElem?_cons_zero, List.getElem?_cons_succ, List.set_cons_zero, List.set_cons_succ, Bool.false_eq_true, CS_x hC, W111 hC hg, ht, bi_eq0, not_true]
      exact hq
    · have hq := Msame hC hQ
      obtain ⟨o, r, hO, _, hR', hA⟩ := MSu hC
      simp only [e195, u195_0, u195_1, u195_4, u195_7, u195_9, mw_os, wp_ite, mw_sw, Option.toList_some, Option.toList_none, List.cons_append, List.nil_append, true_and, and_true, if_true, if_false, mw_s_, mw_s_i, mw_s_r, mw_s_ii, mw_s_ir, mw_s_ri, mw_s_rr, mw_s_iii, mw_s_iir, mw_s_iri, mw_s_irr, mw_s_rii, mw_s_rir, mw_s_rri, mw_s_rrr, mw_s_iiii, mw_s_iiir, mw_s_iiri, mw_s_iirr, mw_s_irii, mw_s_irir, mw_s_irri, mw_s_irrr, mw_s_riii, mw_s_riir, mw_s_riri, mw_s_rirr, mw_s_rrii, mw_s_rrir, mw_s_rrri, mw_s_rrrr, mm_sto1, mm_clr, mm_isL, List.getElem?_cons_zero, List.getElem?_cons_succ, List.set_cons_zero, List.set_cons_succ, Bool.false_eq_true, OA_x hO, W196 hC hg, ht, bi_eq0, not_true]
      exact hq
  · obtain ⟨h8, hp⟩ := tAll_perm ht
    obtain ⟨hlt, hinj⟩ := eight_inj hp
    have hTl := hg.2.2.1.1
    refine ⟨.int (wyV (BL g)), g, hg, fun n M Q hC hQ => ?_, fun n M Q hC hQ => ?_⟩
    · obtain ⟨τ, hk, hq⟩ := CQ hC
      have hM := QA_len hq
      have hCw : ∀ w : List Int32, w.length = 8 → CS (pq M 121 (tWn (bgQ τ 4) w)) g := fun w hw => CS_pq hC hg ⟨hw, (bgQ_ok (x := 4) hk).2⟩
      have hqw : ∀ w : List Int32, QA (pq M 121 (tWn (bgQ τ 4) w)) 121 (tWn (bgQ τ 4) w) := fun w => pq_QA hM
      simp only [e110, u110_0, u110_1, u110_4, u110_10, u110_11, u110_14, u110_15, u110_18, u110_19, mw_os, wp_ite, mw_sw, Option.toList_some, Option.toList_none, List.cons_append, List.nil_append, true_and, and_true, if_true, if_false, mw_s_, mw_s_i, mw_s_r, mw_s_ii, mw_s_ir, mw_s_ri, mw_s_rr, mw_s_iii, mw_s_iir, mw_s_iri, mw_s_irr, mw_s_rii, mw_s_rir, mw_s_rri, mw_s_rrr, mw_s_iiii, mw_s_iiir, mw_s_iiri, mw_s_iirr, mw_s_irii, mw_s_irir, mw_s_irri, mw_s_irrr, mw_s_riii, mw_s_riir, mw_s_riri, mw_s_rirr, mw_s_rrii, mw_s_rrir, mw_s_rrri, mw_s_rrrr, mm_sto1, mm_clr, mm_isL, List.getElem?_cons_zero, List.getElem?_cons_succ, List.set_cons_zero, List.set_cons_succ, Bool.false_eq_true, CS_x hC, W111 hC hg, ht, bi_eq0, reduceCtorEq, not_false_eq_true, CS_3 hC, QA_x hq, W54 hq hk]
      have key := nf_loopI (N := 8) (Φ := fun i (w : List Int32) => wp scr (n + 39) mb_110 20 [some (.ref 0), some (.int (nI i))] [] (pq M 121 (tWn (bgQ τ 4) w)) Q) (Ψ := fun w => wp scr (n + 39) mb_110 50 [some (.ref 0), some (.int (nI 8))] [] (pq M 121 (tWn (bgQ τ 4) w)) Q) (step := fun w i => w.set (tN g i) (nI (7 - i))) (I := fun _ w => w.length = 8) (fun i w _ hw => by rw [List.length_set]; exact hw)
        (fun i w hi hw => u110_20.trans (by
          have a8 : mm_at (gT g) (nI i) = some (nI (tN g i)) := (gi_atN (by omega) (by omega)).trans (by rw [← (tN_eq hg (by omega)).1])
          have t8 := hlt i hi
          have f0 : mm_fld (mc_X scr) (pq M 121 (tWn (bgQ τ 4) w)) (.ref 121) 3 0 = some (.ref 122) := QA_0 (hqw w)
          have s7 : 7 - nI i = nI (7 - i) := pk_sub (a := 7) (by omega)
          have st : mm_sti (pq M 121 (tWn (bgQ τ 4) w)) (.ref 122) (nI (tN g i)) (nI (7 - i)) = some (pq M 121 (tWn (bgQ τ 4) (w.set (tN g i) (nI (7 - i))))) := (pq_stW (v := tWn (bgQ τ 4) w) hM (by show vp_in (nI (tN g i)) w.length; rw [hw]; exact nI_in8 t8)).trans (by rw [nI_clamp (by omega)]; rfl)
          simp only [u110_21, u110_23, u110_26, u110_27, u110_30, u110_33, u110_34, u110_37, u110_38, u110_39, u110_41, u110_42, u110_43, u110_44, u110_47, mw_os, wp_ite, mw_sw, Option.toList_some, Option.toList_none, List.cons_append, List.nil_append, true_and, and_true, if_true, if_false, mw_s_, mw_s_i, mw_s_r, mw_s_ii, mw_s_ir, mw_s_ri, mw_s_rr, mw_s_iii, mw_s_iir, mw_s_iri, mw_s_irr, mw_s_rii, mw_s_rir, mw_s_rri, mw_s_rrr, mw_s_iiii, mw_s_iiir, mw_s_iiri, mw_s_iirr, mw_s_irii, mw_s_irir, mw_s_irri, mw_s_irrr, mw_s_riii, mw_s_riir, mw_s_riri, mw_s_rirr, mw_s_rrii, mw_s_rrir, mw_s_rrri, mw_s_rrrr, mm_sto1, mm_clr, mm_isL, List.getElem?_cons_zero, List.getElem?_cons_succ, List.set_cons_zero, List.set_cons_succ, Bool.false_eq_true, nle8 hi, CS_3 (hCw w hw), CS_6 (hCw w hw), f0, RA_ld (CT (hCw w hw)), a8, s7, st, nI_1]))
        (fun w hw => u110_20.trans (by simp only [u110_21, u110_23, mw_os, wp_ite, mw_sw, Option.toList_some, Option.toList_none, List.cons_append, List.nil_append, true_and, and_true, if_true, if_false, mw_s_, mw_s_i, mw_s_r, mw_s_ii, mw_s_ir, mw_s_ri, mw_s_rr, mw_s_iii, mw_s_iir, mw_s_iri, mw_s_irr, mw_s_rii, mw_s_rir, mw_s_rri, mw_s_rrr, mw_s_iiii, mw_s_iiir, mw_s_iiri, mw_s_iirr, mw_s_irii, mw_s_irir, mw_s_irri, mw_s_irrr, mw_s_riii, mw_s_riir, mw_s_riri, mw_s_rirr, mw_s_rrii, mw_s_rrir, mw_s_rrri, mw_s_rrrr, nle8e])) 8 0 (qW τ) rfl hk.1
      refine key.1.mpr ?_
      have hwl := wnL_gi hk.1 hp
      change wp scr (n + 39) mb_110 50 [some (.ref 0), some (.int (nI 8))] [] (pq M 121 (tWn (bgQ τ 4) (wnL g (qW τ)))) Q
      have hC1 := hCw _ hwl.1
      have hq1 := hqw (wnL g (qW τ))
      simp only [u110_50, u110_51, u110_54, u110_55, u110_58, mw_os, wp_ite, mw_sw, Option.toList_some, Option.toList_none, List.cons_append, List.nil_append, true_and, and_true, if_true, if_false, mw_s_, mw_s_i, mw_s_r, mw_s_ii, mw_s_ir, mw_s_ri, mw_s_rr, mw_s_iii, mw_s_iir, mw_s_iri, mw_s_irr, mw_s_rii, mw_s_rir, mw_s_rri, mw_s_rrr, mw_s_iiii, mw_s_iiir, mw_s_iiri, mw_s_iirr, mw_s_irii, mw_s_irir, mw_s_irri, mw_s_irrr, mw_s_riii, mw_s_riir, mw_s_riri, mw_s_rirr, mw_s_rrii, mw_s_rrir, mw_s_rrri, mw_s_rrrr, mm_sto1, mm_clr, mm_isL, List.getElem?_cons_zero, List.getElem?_cons_succ, List.set_cons_zero, List.set_cons_succ, Bool.false_eq_true, CS_3 hC1, CS_0 hC1, QA_x hq1]
      refine CW55 (n := n + 28) hC1 hg hq1 ⟨hwl.1, (bgQ_ok (x := 4) hk).2⟩ (fun M' hl ha hC' hq' => ?_)
      have hb := class_L (τ := tWn (bgQ τ 4) (wnL g (qW τ))) hg ht rfl rfl rfl hwl.2
      simp only [u110_61, u110_62, u110_65, u110_68, mw_os, wp_ite, mw_sw, Option.toList_some, Option.toList_none, List.cons_append, List.nil_append, true_and, and_true, if_true, if_false, mw_s_, mw_s_i, mw_s_r, mw_s_ii, mw_s_ir, mw_s_ri, mw_s_rr, mw_s_iii, mw_s_iir, mw_s_iri, mw_s_irr, mw_s_rii, mw_s_rir, mw_s_rri, mw_s_rrr, mw_s_iiii, mw_s_iiir, mw_s_iiri, mw_s_iirr, mw_s_irii, mw_s_irir, mw_s_irri, mw_s_irrr, mw_s_riii, mw_s_riir, mw_s_riri, mw_s_rirr, mw_s_rrii, mw_s_rrir, mw_s_rrri, mw_s_rrrr, mm_sto1, mm_clr, mm_isL, List.getElem?_cons_zero, List.getElem?_cons_succ, List.set_cons_zero, List.set_cons_succ, Bool.false_eq_true, CS_3 hC', QA_x hq', W63 hq', QB_way hb]
      exact hQ M' (hl.trans (pq_len ..)) (Ag_tr (Ag_pq (by omega)) ha) hC'
    · obtain ⟨o, r, hO, _, hR', hA⟩ := MSu hC
      simp only [e195, u195_0, u195_1, u195_4, u195_10, u195_11, u195_12, u195_13, u195_14, mw_os, wp_ite, mw_sw, Option.toList_some, Option.toList_none, List.cons_append, List.nil_append, true_and, and_true, if_true, if_false, mw_s_, mw_s_i, mw_s_r, mw_s_ii, mw_s_ir, mw_s_ri, mw_s_rr, mw_s_iii, mw_s_iir, mw_s_iri, mw_s_irr, mw_s_rii, mw_s_rir, mw_s_rri, mw_s_rrr, mw_s_iiii, mw_s_iiir, mw_s_iiri, mw_s_iirr, mw_s_irii, mw_s_irir, mw_s_irri, mw_s_irrr, mw_s_riii, mw_s_riir, mw_s_riri, mw_s_rirr, mw_s_rrii, mw_s_rrir, mw_s_rrri, mw_s_rrrr, mm_sto1, mm_clr, mm_isL, List.getElem?_cons_zero, List.getElem?_cons_succ, List.set_cons_zero, List.set_cons_succ, Bool.false_eq_true, OA_x hO, W196 hC hg, ht, bi_eq0, reduceCtorEq, not_false_eq_true]
      refine W186 (n := n + 26) hg (Or.inr (Or.inr (Or.inr (Or.inr rfl)))) hC (fun M' z9 hl ha hC' hO' => ?_)
      have m1 := MB_way (ref_4 (A := 0) (B := 0) hg)
      have f14 : mm_fld (mc_X scr) M' (.ref 129) 6 14 = some (.int (wyV (BL g))) := (OA_14 hO').trans (by rw [← m1])
      simp only [u195_17, u195_18, u195_21, mw_os, wp_ite, mw_sw, Option.toList_some, Option.toList_none, List.cons_append, List.nil_append, true_and, and_true, if_true, if_false, mw_s_, mw_s_i, mw_s_r, mw_s_ii, mw_s_ir, mw_s_ri, mw_s_rr, mw_s_iii, mw_s_iir, mw_s_iri, mw_s_irr, mw_s_rii, mw_s_rir, mw_s_rri, mw_s_rrr, mw_s_iiii, mw_s_iiir, mw_s_iiri, mw_s_iirr, mw_s_irii, mw_s_irir, mw_s_irri, mw_s_irrr, mw_s_riii, mw_s_riir, mw_s_riri, mw_s_rirr, mw_s_rrii, mw_s_rrir, mw_s_rrri, mw_s_rrrr, mm_sto1, mm_clr, mm_isL, List.getElem?_cons_zero, List.getElem?_cons_succ, List.set_cons_zero, List.set_cons_succ, Bool.false_eq_true, f14]
      exact hQ M' hl ha hC'
end LA2
