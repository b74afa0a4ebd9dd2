/-! more fuel than needed -/
theorem fm_cg {α β : Type} {f g : α → List β} : ∀ (l : List α), (∀ a, a ∈ l → f a = g a) → l.flatMap f = l.flatMap g := by
  intro l
  induction l with
  | nil => intro _; rfl
  | cons a l ih =>
    intro h
    rw [List.flatMap_cons, List.flatMap_cons, h a (List.mem_cons_self ..), ih (fun b hb => h b (List.mem_cons_of_mem _ hb))]
theorem nds_fuel1 {q : LV → Nat} {w : SV} (hq : ∀ u, q u ≤ 4) : ∀ (f m e y : Nat) (u : LV) (x : tbE), GT x u → rk x.1 ≤ f + 2 → nds q w (f + 1) m e y u = nds q w f m e y u := by
  intro f
  induction f with
  | zero =>
    intro m e y u x hG hr
    rw [nds, nds]
    congr 1
    rw [List.flatMap_eq_nil_iff]
    intro l hl
    rw [List.mem_range'_1] at hl
    rw [hasL_0 hG (by omega) l hl.1 (by omega), if_neg (by decide)]
  | succ f ih =>
    intro m e y u x hG hr
    rw [nds, nds]
    congr 1
    refine fm_cg _ (fun l hl => ?_)
    rw [List.mem_range'_1] at hl
    by_cases hh : hasL u (nI l) = true
    · rw [if_pos hh, if_pos hh]
      refine fm_cg _ (fun k hk => ?_)
      rw [List.mem_range'_1] at hk
      have := hq u
      obtain ⟨_, _, _, kk⟩ := GT_L hG hl.1 (by omega) hh
      obtain ⟨y2, hy2, _, hr2, _⟩ := kk k (by omega)
      exact ih _ _ _ _ y2 hy2 (by omega)
    · rw [if_neg hh, if_neg hh]
theorem nds_fuel {q : LV → Nat} {w : SV} (hq : ∀ u, q u ≤ 4) {m e y : Nat} {u : LV} {x : tbE} (hG : GT x u) : ∀ (k f : Nat), rk x.1 ≤ f + 2 → nds q w (f + k) m e y u = nds q w f m e y u := by
  intro k
  induction k with
  | zero => intro f _; rfl
  | succ k ih =>
    intro f hr
    rw [show f + (k + 1) = (f + k) + 1 by omega, nds_fuel1 hq _ _ _ _ _ x hG (by omega)]
    exact ih f hr
theorem nds_GT {q : LV → Nat} {w : SV} (hq : ∀ u, q u ≤ 4) : ∀ (f m e y : Nat) (u : LV), (∃ z, GT z u) → ∀ x, x ∈ nds q w f m e y u → (∃ z, GT z x.2.2.2) ∧ x.1 ≤ m + f ∧ x.2.2.1 < (y + 1) * 100 ^ f := by
  intro f
  induction f with
  | zero =>
    intro m e y u hG x hx
    rw [List.mem_singleton.mp hx]
    exact ⟨hG, Nat.le_refl _, by show y < _; omega⟩
  | succ f ih =>
    intro m e y u hG x hx
    rcases nds_mem.mp hx with rfl | ⟨l, k, h1, h4, hh, hk, hx⟩
    · refine ⟨hG, by show m ≤ _; omega, ?_⟩
      show y < (y + 1) * 100 ^ (f + 1)
      exact Nat.lt_of_lt_of_le (Nat.lt_succ_self y) (Nat.le_mul_of_pos_right _ (Nat.pow_pos (by decide)))
    · obtain ⟨z, hz⟩ := hG
      have := hq u
      obtain ⟨z', hz', _⟩ := GT_sx hz h1 h4 hh (show k < 4 by omega)
      obtain ⟨a1, a2, a3⟩ := ih _ _ _ _ ⟨z', hz'⟩ x hx
      refine ⟨a1, by omega, Nat.lt_of_lt_of_le a3 ?_⟩
      rw [Nat.pow_succ, Nat.mul_comm (100 ^ f) 100, ← Nat.mul_assoc]
      exact Nat.mul_le_mul_right _ (by omega)
theorem nds_e {q : LV → Nat} {w : SV} (hF : ∀ i, i < 10 → rgI (gi (sF w) (nI i)) 9) : ∀ (f m e y : Nat) (u : LV) (x : ND), x ∈ nds q w f m e y u → x.2.1 ≤ e + 120 * f := by
  intro f
  induction f with
  | zero =>
    intro m e y u x hx
    rw [List.mem_singleton.mp hx]
    exact Nat.le_refl _
  | succ f ih =>
    intro m e y u x hx
    rcases nds_mem.mp hx with rfl | ⟨l, k, h1, h4, hh, hk, hx⟩
    · show e ≤ _; omega
    · have := ih _ _ _ _ _ hx
      have := (tn_eq (x := fC u (nI l) (nI k)) hF).2
      omega
/-! the reference's least -/
def MB (d : Nat) (σ : St) (b : Option (Nat × Nat)) : Prop := (σ.1 = -9 ∧ σ.2.1 = -9 ∧ b = none) ∨ ∃ c y, b = some (c, y) ∧ σ.1 = nI y ∧ σ.2.1 = nI c - nI d ∧ c < 2 ^ 30 ∧ y < 2 ^ 31
theorem nI_n9 {y : Nat} (h : y < 2 ^ 31) : ¬ nI y = -9 := fun z => by
  have := nI_toInt h
  rw [z] at this
  have h9 : ((-9 : Int32)).toInt = -9 := by decide
  omega
theorem MB_bt {d : Nat} {σ : St} {b : Option (Nat × Nat)} {c y : Nat} (h : MB d σ b) (hd : d < 2 ^ 30) (hc : c < 2 ^ 30) (hy : y < 2 ^ 31) : MB d (btS (nI y) (nI c - nI d) σ) (lmn b (c, y)) := by
  have new : ∀ f m, MB d (nI y, nI c - nI d, f, m) (some (c, y)) := fun f m => Or.inr ⟨c, y, rfl, rfl, rfl, hc, hy⟩
  unfold btS
  rcases h with ⟨h1, h2, rfl⟩ | ⟨c0, y0, rfl, h3, h4, h5, h6⟩
  · rw [if_pos (Or.inl h1)]
    exact new _ _
  · rw [lmn_s]
    have hlt : (nI c - nI d < nI c0 - nI d) ↔ c < c0 := by
      rw [Int32.lt_iff_toInt_lt, pk_sub_toInt hc hd, pk_sub_toInt h5 hd]
      omega
    have heq : (nI c - nI d = nI c0 - nI d) ↔ c = c0 := by
      rw [← Int32.toInt_inj, pk_sub_toInt hc hd, pk_sub_toInt h5 hd]
      omega
    by_cases hc : c < c0 ∨ (c = c0 ∧ y < y0)
    · rw [if_pos hc, if_pos]
      · exact new _ _
      · rw [h3, h4, hlt, heq]
        rcases hc with hc | hc
        · exact Or.inr (Or.inl hc)
        · exact Or.inr (Or.inr ⟨hc.1, nI_lt hc.2 h6⟩)
    · rw [if_neg hc, if_neg]
      · exact Or.inr ⟨c0, y0, rfl, h3, h4, h5, h6⟩
      · rw [h3, h4, hlt, heq]
        rintro (z | z | z)
        · exact nI_n9 h6 z
        · exact hc (Or.inl z)
        · exact hc (Or.inr ⟨z.1, (nI_ltI hy h6).mp z.2⟩)
theorem MB_all {d : Nat} {V : St → ND → St} {R : ND → Bool} {c : ND → Nat} (hd : d < 2 ^ 30) : ∀ (L : List ND) (σ : St) (b : Option (Nat × Nat)), (∀ σ x, x ∈ L → (R x = true → (V σ x).1 = (btS (nI x.2.2.1) (nI (c x) - nI d) σ).1 ∧ (V σ x).2.1 = (btS (nI x.2.2.1) (nI (c x) - nI d) σ).2.1) ∧ (¬ R x = true → (V σ x).1 = σ.1 ∧ (V σ x).2.1 = σ.2.1) ∧ c x < 2 ^ 30 ∧ x.2.2.1 < 2 ^ 31) → MB d σ b → MB d (L.foldl V σ) (L.foldl (hV R c) b) := by
  intro L σ b h hb
  have cg : ∀ σ σ' b, σ'.1 = σ.1 → σ'.2.1 = σ.2.1 → MB d σ b → MB d σ' b := fun σ σ' b e1 e2 hm => by
    unfold MB
    rw [e1, e2]
    exact hm
  refine fold_rel (P := fun σ b => MB d σ b) L (fun σ b x hx hp => ?_) σ b hb
  obtain ⟨a1, a2, a3, a4⟩ := h σ x hx
  unfold hV
  by_cases hr : R x = true
  · rw [if_pos hr]
    exact cg _ _ _ (a1 hr).1 (a1 hr).2 (MB_bt hp hd a3 a4)
  · rw [if_neg hr]
    exact cg _ _ _ (a2 hr).1 (a2 hr).2 hp
/-- the fewest -/
def FW (fw : Int32) (b : Option (Nat × Nat)) : Prop := (fw = -9 ∧ b = none) ∨ ∃ c y, b = some (c, y) ∧ fw = nI c ∧ c < 2 ^ 31
theorem FW_all {V : St → ND → St} {R : ND → Bool} : ∀ (L : List ND) (σ : St) (b : Option (Nat × Nat)), (∀ σ x, x ∈ L → (R x = true → (V σ x).2.2.1 = if σ.2.2.1 = -9 then nI x.1 else mn σ.2.2.1 (nI x.1)) ∧ (¬ R x = true → (V σ x).2.2.1 = σ.2.2.1) ∧ x.1 < 2 ^ 31) → FW σ.2.2.1 b → FW (L.foldl V σ).2.2.1 (L.foldl (hV R (fun x => x.1)) b) := by
  intro L σ b h hb
  refine fold_rel (P := fun (σ : St) b => FW σ.2.2.1 b) L (fun σ b x hx hp => ?_) σ b hb
  obtain ⟨a1, a2, a3⟩ := h σ x hx
  unfold hV
  by_cases hr : R x = true
  · rw [if_pos hr, a1 hr]
    rcases hp with ⟨h1, rfl⟩ | ⟨c, y, rfl, h2, h3⟩
    · rw [if_pos h1]
      exact Or.inr ⟨x.1, x.2.2.1, rfl, rfl, a3⟩
    · rw [h2, if_neg (nI_n9 h3), lmn_s]
      unfold mn
      by_cases hlt : x.1 < c
      · rw [if_pos (nI_lt hlt h3), if_pos (Or.inl hlt)]
        exact Or.inr ⟨_, _, rfl, rfl, a3⟩
      · rw [if_neg (fun z => hlt ((nI_ltI a3 h3).mp z))]
        by_cases he : x.1 < c ∨ (x.1 = c ∧ x.2.2.1 < y)
        · rw [if_pos he]
          exact Or.inr ⟨_, _, rfl, (show nI c = nI x.1 by rw [show x.1 = c by omega]), a3⟩
        · rw [if_neg he]
          exact Or.inr ⟨_, _, rfl, rfl, h3⟩
  · rw [if_neg hr, a2 hr]
    exact hp
theorem MN_all {V : St → ND → St} {p : ND → Bool} : ∀ (L : List ND) (σ : St) (k : Nat), (∀ σ x, x ∈ L → (V σ x).2.2.2 = if p x = true then σ.2.2.2 + 1 else σ.2.2.2) → σ.2.2.2 = nI k → (L.foldl V σ).2.2.2 = nI (k + L.countP p) := by
  intro L
  induction L with
  | nil => intro σ k _ h; exact h
  | cons x L ih =>
    intro σ k h hk
    rw [List.foldl_cons, List.countP_cons]
    have hx := h σ x (List.mem_cons_self ..)
    by_cases hp : p x = true
    · rw [if_pos hp] at hx ⊢
      rw [ih (V σ x) (k + 1) (fun σ y hy => h σ y (List.mem_cons_of_mem _ hy)) (by rw [hx, hk, nI_1])]
      congr 1
      omega
    · rw [if_neg hp] at hx ⊢
      exact ih (V σ x) k (fun σ y hy => h σ y (List.mem_cons_of_mem _ hy)) (by rw [hx, hk])
/-! the class's side -/
def bgQ (τ : QV) (x : Int32) : QV := ((qW τ, (List.range 5).map (fun _ => 0)), (x, 1, 0, 0, 0, 0))
section CQs
variable {scr : List Int32} {n : Nat} {M : mm_M} {Q : Option Value → mm_M → Prop} {g : SG} {q : Nat} {τ τ' : QV}
theorem W54 {x : Int32} (h : QA M q τ) (hk : QOK τ) : Wp scr (n + 1) 54 [.ref q, .int x] M Q ↔ Q none (pq M q (bgQ τ x)) := by
  have hM := QA_len h
  have e0 : pq M q τ = M := pq_self h
  have p1 : mm_put mc_fty M (.ref q) (.int x) 3 2 = some (pq M q (tG τ x)) := by have := pq_puG (v := τ) (x := x) hM; rw [e0] at this; exact this
  have p2 : mm_put mc_fty (pq M q (tG τ x)) (.ref q) (.int 1) 3 3 = some (pq M q (tP (tG τ x) 1)) := pq_puP hM
  have p3 : mm_put mc_fty (pq M q (tP (tG τ x) 1)) (.ref q) (.int 0) 3 4 = some (pq M q (tS (tP (tG τ x) 1) 0)) := pq_puS hM
  have p4 : mm_put mc_fty (pq M q (tS (tP (tG τ x) 1) 0)) (.ref q) (.int 0) 3 5 = some (pq M q (tF (tS (tP (tG τ x) 1) 0) 0)) := pq_puF0 hM
  have p5 : mm_put mc_fty (pq M q (tF (tS (tP (tG τ x) 1) 0) 0)) (.ref q) (.int 0) 3 6 = some (pq M q (tC (tF (tS (tP (tG τ x) 1) 0) 0) 0)) := pq_puC hM
  have p6 : mm_put mc_fty (pq M q (tC (tF (tS (tP (tG τ x) 1) 0) 0) 0)) (.ref q) (.int 0) 3 7 = some (pq M q (tY (tC (tF (tS (tP (tG τ x) 1) 0) 0) 0) 0)) := pq_puY hM
  have key := nf_loopI (N := 5) (Φ := fun i (s : List Int32) => wp scr n mb_54 32 [some (.ref q), some (.int x), some (.int (nI i))] [] (pq M q ((qW τ, s), (x, 1, 0, 0, 0, 0))) Q) (Ψ := fun s => Q none (pq M q ((qW τ, s), (x, 1, 0, 0, 0, 0)))) (step := fun s i => s.set i 0) (I := fun _ s => s.length = 5) (fun i s _ hs => by rw [List.length_set]; exact hs)
    (fun i s hi hs => u54_32.trans (by
      have c4 : ((4 : Int32) < nI i) ↔ False := iff_false_intro (nI_nlt (a := 4) (b := i) (by omega) (by decide))
      have f1 : mm_fld (mc_X scr) (pq M q ((qW τ, s), (x, 1, 0, 0, 0, 0))) (.ref q) 3 1 = some (.ref (q + 2)) := QA_1 (pq_QA hM)
      have st : mm_sti (pq M q ((qW τ, s), (x, 1, 0, 0, 0, 0))) (.ref (q + 2)) (nI i) 0 = some (pq M q ((qW τ, s.set i 0), (x, 1, 0, 0, 0, 0))) := (pq_stH (v := ((qW τ, s), (x, 1, 0, 0, 0, 0))) hM (by show vp_in (nI i) s.length; rw [hs]; exact nI_in5 hi)).trans (by rw [nI_clamp (by omega)]; rfl)
      simp only [u54_33, u54_34, u54_37, u54_38, u54_41, u54_42, u54_43, u54_44, u54_47, mw_os, wp_ite, mw_sw, Option.toList_some, Option.toList_none, List.cons_append, List.nil_append, true_and, and_true, if_true, if_false, mw_s_, mw_s_i, mw_s_r, mw_s_ii, mw_s_ir, mw_s_ri, mw_s_rr, mw_s_iii, mw_s_iir, mw_s_iri, mw_s_irr, mw_s_rii, mw_s_rir, mw_s_rri, mw_s_rrr, mw_s_iiii, mw_s_iiir, mw_s_iiri, mw_s_iirr, mw_s_irii, mw_s_irir, mw_s_irri, mw_s_irrr, mw_s_riii, mw_s_riir, mw_s_riri, mw_s_rirr, mw_s_rrii, mw_s_rrir, mw_s_rrri, mw_s_rrrr, mm_sto1, mm_clr, mm_isL, List.getElem?_cons_zero, List.getElem?_cons_succ, List.set_cons_zero, List.set_cons_succ, Bool.false_eq_true, c4, f1, st, nI_1]))
    (fun s hs => u54_32.trans (by
      have c4 : ((4 : Int32) < nI 5) ↔ True := iff_true_intro (by decide +kernel)
      simp only [u54_33, u54_34, u54_50, mw_os, wp_ite, mw_sw, Option.toList_some, Option.toList_none, List.cons_append, List.nil_append, true_and, and_true, if_true, if_false, mw_s_, mw_s_i, mw_s_r, mw_s_ii, mw_s_ir, mw_s_ri, mw_s_rr, mw_s_iii, mw_s_iir, mw_s_iri, mw_s_irr, mw_s_rii, mw_s_rir, mw_s_rri, mw_s_rrr, mw_s_iiii, mw_s_iiir, mw_s_iiri, mw_s_iirr, mw_s_irii, mw_s_irir, mw_s_irri, mw_s_irrr, mw_s_riii, mw_s_riir, mw_s_riri, mw_s_rirr, mw_s_rrii, mw_s_rrir, mw_s_rrri, mw_s_rrrr, c4])) 5 0 (qH τ) rfl hk.2
  have k1 := key.1
  rw [fs_all hk.2] at k1
  unfold bgQ
  rw [← k1]
  simp only [e54, u54_0, u54_1, u54_2, u54_5, u54_6, u54_7, u54_10, u54_11, u54_12, u54_15, u54_16, u54_17, u54_20, u54_21, u54_22, u54_25, u54_26, u54_27, u54_30, u54_31, mw_os, wp_ite, mw_sw, Option.toList_some, Option.toList_none, List.cons_append, List.nil_append, true_and, and_true, if_true, if_false, mw_s_, mw_s_i, mw_s_r, mw_s_ii, mw_s_ir, mw_s_ri, mw_s_rr, mw_s_iii, mw_s_iir, mw_s_iri, mw_s_irr, mw_s_rii, mw_s_rir, mw_s_rri, mw_s_rrr, mw_s_iiii, mw_s_iiir, mw_s_iiri, mw_s_iirr, mw_s_irii, mw_s_irir, mw_s_irri, mw_s_irrr, mw_s_riii, mw_s_riir, mw_s_riri, mw_s_rirr, mw_s_rrii, mw_s_rrir, mw_s_rrri, mw_s_rrrr, mm_sto1, mm_clr, mm_isL, List.getElem?_cons_zero, List.getElem?_cons_succ, List.set_cons_zero, List.set_cons_succ, Bool.false_eq_true, p1, p2, p3, p4, p5, p6]
  exact Iff.rfl
theorem CQ (h : CS M g) : ∃ τ, QOK τ ∧ QA M 121 τ := h.2.2.2.2.1
theorem CS_pq (hc : CS M g) (hg : SGOK g) (hk : QOK τ) : CS (pq M 121 τ) g := by
  obtain ⟨⟨a1, a2⟩, a3, a4, a5, ⟨τ', a6, a7⟩, ⟨a8, a9⟩, ⟨x, y, a10⟩, a11, a12⟩ := hc
  exact ⟨⟨(pq_len ..).trans a1, (pq_out (by omega)).trans a2⟩, SH_kp a3 (Ag_pq (by omega)) hg.1.2.2.1, SH_kp a4 (Ag_pq (by omega)) hg.2.1.2.2.1, TR_kp a5 (Ag_pq (by omega)), ⟨τ, hk, pq_QA (by omega)⟩, ⟨(pq_out (by omega)).trans a8, (pq_out (by omega)).trans a9⟩, ⟨x, y, (pq_out (by omega)).trans a10⟩, (pq_out (by omega)).trans a11, (pq_out (by omega)).trans a12⟩
theorem bgQ_ok {x : Int32} (h : QOK τ) : QOK (bgQ τ x) := ⟨h.1, by simp [bgQ, qH]⟩
/-- the search runs over the map now -/
theorem CW55 (hC : CS M g) (hg : SGOK g) (hq : QA M 121 τ) (hk : QOK τ) (hQ : ∀ M', M'.length = M.length → Ag M M' 129 143 → CS M' g → QA M' 121 (exV (gN g).1 (4 - (gN g).2.1) (gU g) 0 0 0 τ) → Q none M') : Wp scr (n + 11) 55 [.ref 121, .ref 1] M Q := by
  obtain ⟨c, hc8, hcv⟩ := gCv hg
  obtain ⟨x, hG, hrk⟩ := gU_GT hg
  have hd := hg.1.2.2.1
  have hgb := hC.2.1.2.2
  simp only [u55_0, u55_1, u55_2, u55_3, u55_6, u55_7, u55_8, e55, mw_os, wp_ite, mw_sw, Option.toList_some, Option.toList_none, List.cons_append, List.nil_append, true_and, and_true, if_true, if_false, mw_s_, mw_s_i, mw_s_r, mw_s_ii, mw_s_ir, mw_s_ri, mw_s_rr, mw_s_iii, mw_s_iir, mw_s_iri, mw_s_irr, mw_s_rii, mw_s_rir, mw_s_rri, mw_s_rrr, mw_s_iiii, mw_s_iiir, mw_s_iiri, mw_s_iirr, mw_s_irii, mw_s_irir, mw_s_irri, mw_s_irrr, mw_s_riii, mw_s_riir, mw_s_riri, mw_s_rirr, mw_s_rrii, mw_s_rrir, mw_s_rrri, mw_s_rrrr, mm_sto1, mm_clr, mm_isL, List.getElem?_cons_zero, List.getElem?_cons_succ, List.set_cons_zero, List.set_cons_succ, Bool.false_eq_true, NS_4 hC hg, QA_x hq]
  have h56 := W56 (scr := scr) (s := 1) (q := 121) (w := (gN g).1) (gSOK hg) (by rw [hcv]; exact nI_in8 hc8) (Or.inr (by omega)) hg.1.2.1 (4 - (gN g).2.1) (n + (gN g).2.1) (gN g).2.1 (gU g) M τ 0 0
  have he : n + (gN g).2.1 + 6 + (4 - (gN g).2.1) = n + 10 := by omega
  rw [he] at h56
  refine h56 _ (by omega) (Nat.le_refl _) (NS hC) (NL hC) (GT_LYK _ hG (by omega)) (fun j h1 h2 => hgb j h1 h2) hq hk (fun M' hX hq' => ?_)
  rw [Nat.sub_self] at hq'
  simp only [u55_11, mw_os, wp_ite, mw_sw, Option.toList_some, Option.toList_none, List.cons_append, List.nil_append, true_and, and_true, if_true, if_false, mw_s_, mw_s_i, mw_s_r, mw_s_ii, mw_s_ir, mw_s_ri, mw_s_rr, mw_s_iii, mw_s_iir, mw_s_iri, mw_s_irr, mw_s_rii, mw_s_rir, mw_s_rri, mw_s_rrr, mw_s_iiii, mw_s_iiir, mw_s_iiri, mw_s_iirr, mw_s_irii, mw_s_irir, mw_s_irri, mw_s_irrr, mw_s_riii, mw_s_riir, mw_s_riri, mw_s_rirr, mw_s_rrii, mw_s_rrir, mw_s_rrri, mw_s_rrrr]
  have hA : ∀ i, ¬ (la 1 ((gN g).2.1 + 1) ≤ i ∧ i < la 1 5) → ¬ (121 ≤ i ∧ i < 124) → M'[i]? = M[i]? := hX.2.1
  have a41 : Ag M M' 41 121 := fun i h1 h2 => hA i (by unfold la; omega) (by omega)
  have a124 : Ag M M' 124 143 := fun i h1 h2 => hA i (by unfold la; omega) (by omega)
  refine hQ M' hX.1 (Ag_sub a124 (by omega) (by omega)) ?_ hq'
  obtain ⟨⟨a1, a2⟩, a3, a4, a5, _, ⟨a8, a9⟩, ⟨x, y, a10⟩, a11, a12⟩ := hC
  exact ⟨⟨hX.1.trans a1, (hA 0 (by unfold la; omega) (by omega)).trans a2⟩, ⟨SA_keep a3.1 (fun j hj => hA _ (by unfold la; omega) (by omega)), fun i hi => LA_keep (a3.2.1 i hi) (fun j hj => hA _ (by unfold la; omega) (by unfold la; omega)), fun i h1 h2 => hX.2.2 i h1 h2⟩, SH_kp a4 (Ag_sub a41 (by omega) (by omega)) hg.2.1.2.2.1, TR_kp a5 (Ag_sub a41 (by omega) (by omega)), ⟨_, (exV_same _).ok hk, hq'⟩, ⟨(a124 124 (by omega) (by omega)).trans a8, (a124 125 (by omega) (by omega)).trans a9⟩, ⟨x, y, (a124 126 (by omega) (by omega)).trans a10⟩, (a124 127 (by omega) (by omega)).trans a11, (a124 128 (by omega) (by omega)).trans a12⟩
end CQs
