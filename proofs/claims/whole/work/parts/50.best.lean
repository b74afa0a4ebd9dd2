/-! efforts are small -/
theorem sEA_rg {h f s : Int32} (hf : rgI f 9) : rgI (sEA h f s) 12 := by
  obtain ⟨j, h1, h2⟩ := hf
  unfold sEA
  split
  · exact ⟨3 + j, by omega, by rw [h2]; exact nI_add 3 j⟩
  · exact ⟨3, by omega, rfl⟩
theorem sEf_rg {k f w s : Int32} (hf : rgI f 9) : rgI (sEf k f w s) 12 := by
  unfold sEf
  split
  · exact sEA_rg hf
  · split
    · exact sEA_rg hf
    · split
      · exact sEA_rg hf
      · split
        · exact ⟨7, by omega, rfl⟩
        · split
          · obtain ⟨j, h1, h2⟩ := sEA_rg (h := 1) (s := s) hf
            rw [h2]
            exact ⟨j / 2, by omega, pk_div (d := 2) (by omega) (by omega) (by omega)⟩
          · exact ⟨3, by omega, rfl⟩
theorem tfE_rg {v : SV} {x : LV} (hF : ∀ i, i < 10 → rgI (gi (sF v) (nI i)) 9) : rgI (tfE v x) 120 := by
  have key : ∀ (k i : Nat) (t : Int32), i + k = 10 → rgI t (12 * i) → rgI ((List.range' i k).foldl (tfStep v x) t) 120 := by
    intro k
    induction k with
    | zero =>
      intro i t hi ht
      have : i = 10 := by omega
      subst this
      exact ht
    | succ k ih =>
      intro i t hi ht
      rw [List.range'_succ, List.foldl_cons]
      refine ih (i + 1) _ (by omega) ?_
      obtain ⟨a, a1, a2⟩ := ht
      unfold tfStep
      split
      · exact ⟨a, by omega, a2⟩
      · obtain ⟨b, b1, b2⟩ := sEf_rg (k := gi (sK v) (nI i)) (w := gi (sWo v) (nI i)) (s := gi (vS x) (nI i)) (hF i (by omega))
        exact ⟨a + b, by omega, by rw [a2]; unfold efO; rw [b2]; exact nI_add a b⟩
  exact key 10 0 0 rfl ⟨0, by omega, rfl⟩
theorem tn_eq {v : SV} {x : LV} (hF : ∀ i, i < 10 → rgI (gi (sF v) (nI i)) 9) : tfE v x = nI (tn v x) ∧ tn v x ≤ 120 := by
  obtain ⟨t, h1, h2⟩ := tfE_rg (x := x) hF
  unfold tn
  rw [h2, nI_clamp (by omega)]
  exact ⟨rfl, h1⟩
/-! bits that are read -/
def okB (x : tbE) : Bool := Nat.blt x.2.1 256
set_option maxRecDepth 100000 in
theorem TB_b8 : (tgs.all (fun a => a.all (fun b => b.all okB))) = true := by decide +kernel
theorem TB_lt {x : tbE} (h : x ∈ TB) : x.2.1 < 256 := by
  unfold TB at h
  rw [List.mem_flatten] at h
  obtain ⟨l, h1, h2⟩ := h
  rw [List.mem_flatten] at h1
  obtain ⟨a, h3, h4⟩ := h1
  exact Nat.blt_eq.mp (List.all_eq_true.mp (List.all_eq_true.mp (List.all_eq_true.mp TB_b8 a h3) l h4) x h2)
def bcN (k : Nat) : Nat := (bcI (nI k)).toNatClampNeg
set_option maxRecDepth 100000 in
theorem bc_all : ∀ k, k < 256 → bcI (nI k) = nI (bcN k) ∧ bcN k ≤ 8 := by decide +kernel
theorem nI_and (a b : Nat) : nI a &&& nI b = nI (a &&& b) := Int32.toBitVec_inj.mp (by rw [Int32.toBitVec_and]; exact (BitVec.ofNat_and ..).symm)
theorem and_lt8 {a b : Nat} (h : a < 256) : a &&& b < 256 := Nat.lt_of_le_of_lt Nat.and_le_left h
/-! the class's least -/
def QB (τ : QV) (b : Option (Nat × Nat)) : Prop := (qF τ = 0 ∧ b = none) ∨ ∃ c y, qF τ = 1 ∧ b = some (c, y) ∧ qC τ = nI c ∧ qY τ = nI y ∧ c < 2 ^ 31 ∧ y < 2 ^ 31
theorem lmn_s {c y c0 y0 : Nat} : lmn (some (c0, y0)) (c, y) = if c < c0 ∨ (c = c0 ∧ y < y0) then some (c, y) else some (c0, y0) := rfl
theorem QB_of {τ : QV} {b : Option (Nat × Nat)} {c y : Nat} (h : QB τ b) (hc : c < 2 ^ 31) (hy : y < 2 ^ 31) : QB (qOf τ (nI c) (nI y)) (lmn b (c, y)) := by
  have new : QB (tY (tC (tF τ 1) (nI c)) (nI y)) (some (c, y)) := Or.inr ⟨c, y, rfl, rfl, rfl, rfl, hc, hy⟩
  unfold qOf
  rcases h with ⟨h1, rfl⟩ | ⟨c0, y0, h1, rfl, h3, h4, h5, h6⟩
  · rw [if_pos (Or.inl h1)]
    exact new
  · rw [lmn_s]
    by_cases hc : c < c0 ∨ (c = c0 ∧ y < y0)
    · rw [if_pos hc, if_pos]
      · exact new
      · rw [h3, h4]
        rcases hc with hc | hc
        · exact Or.inr (Or.inl (nI_lt hc (by omega)))
        · exact Or.inr (Or.inr ⟨by rw [hc.1], nI_lt hc.2 (by omega)⟩)
    · rw [if_neg hc, if_neg]
      · exact Or.inr ⟨c0, y0, h1, rfl, h3, h4, h5, h6⟩
      · rw [h1, h3, h4]
        rintro (z | z | z)
        · exact absurd z (by decide)
        · exact hc (Or.inl ((nI_ltI (by omega) (by omega)).mp z))
        · exact hc (Or.inr ⟨(nI_eq (by omega) (by omega)).mp z.1, (nI_ltI (by omega) (by omega)).mp z.2⟩)
theorem QB_tH {τ : QV} {b : Option (Nat × Nat)} {x : List Int32} (h : QB τ b) : QB (tH τ x) b := h
/-- a hit, and what it costs -/
def hR (τ : QV) (cv : Int32) (x : ND) : Bool := qRe τ x.2.2.2 cv
def hC (τ : QV) (x : ND) : Nat := if qG τ = 1 then x.1 else if qG τ = 3 then (8 - bcI (vRs x.2.2.2 &&& qS τ)).toNatClampNeg else x.2.1
def hV (R : ND → Bool) (c : ND → Nat) (b : Option (Nat × Nat)) (x : ND) : Option (Nat × Nat) := if R x = true then lmn b (c x, x.2.2.1) else b
theorem hts_fold {R : ND → Bool} {c : ND → Nat} : ∀ (L : List ND) (b : Option (Nat × Nat)), (hts R c L).foldl lmn b = L.foldl (hV R c) b := by
  intro L
  induction L with
  | nil => intro b; rfl
  | cons x L ih =>
    intro b
    rw [List.foldl_cons, ← ih]
    unfold hts hV
    rw [List.filterMap_cons]
    by_cases h : R x = true
    · rw [if_pos h]
      simp only [h, if_true]
      rfl
    · rw [if_neg h]
      simp only [h]
      rfl
theorem Same_qRe {τ τ' : QV} {u : LV} {cv : Int32} (h : Same τ τ') : qRe τ' u cv = qRe τ u cv := by
  unfold qRe qLw
  rw [h.1, h.2.1, h.2.2.1, h.2.2.2.1]
theorem hC_c {τ : QV} {m e y s : Nat} {u : LV} {z : tbE} (hz : GT z u) (hs : qS τ = nI s) : (if qG τ = 1 then nI m else if qG τ = 3 then 8 - bcI (vRs u &&& qS τ) else nI e) = nI (hC τ (m, e, y, u)) ∧ (hC τ (m, e, y, u) ≤ 8 ∨ hC τ (m, e, y, u) = m ∨ hC τ (m, e, y, u) = e) := by
  unfold hC
  by_cases h1 : qG τ = 1
  · rw [if_pos h1, if_pos h1]
    exact ⟨rfl, Or.inr (Or.inl rfl)⟩
  · rw [if_neg h1, if_neg h1]
    by_cases h3 : qG τ = 3
    · rw [if_pos h3, if_pos h3]
      have hr := (GT_N hz).2.2.2.2.2.2.1
      obtain ⟨b1, b2⟩ := bc_all (z.2.1 &&& s) (and_lt8 (TB_lt hz.1))
      have e8 : 8 - bcI (vRs u &&& qS τ) = nI (8 - bcN (z.2.1 &&& s)) := by
        rw [hr, hs, nI_and, b1]
        exact pk_sub (a := 8) b2
      show 8 - bcI (vRs u &&& qS τ) = nI ((8 - bcI (vRs u &&& qS τ)).toNatClampNeg) ∧ _
      rw [e8, nI_clamp (by omega)]
      exact ⟨rfl, Or.inl (by omega)⟩
    · rw [if_neg h3, if_neg h3]
      exact ⟨rfl, Or.inr (Or.inr rfl)⟩
theorem Same_hC {τ τ' : QV} {x : ND} (h : Same τ τ') : hC τ' x = hC τ x := by
  unfold hC
  rw [h.1, h.2.2.1]
theorem fold_rel {α σ ρ : Type} {P : σ → ρ → Prop} {F : σ → α → σ} {G : ρ → α → ρ} : ∀ (l : List α), (∀ s r a, a ∈ l → P s r → P (F s a) (G r a)) → ∀ s r, P s r → P (l.foldl F s) (l.foldl G r) := by
  intro l
  induction l with
  | nil => intro _ s r h; exact h
  | cons a l ih =>
    intro h s r hp
    exact ih (fun s r b hb => h s r b (List.mem_cons_of_mem _ hb)) _ _ (h s r a (List.mem_cons_self ..) hp)
theorem exHit_best {w : SV} {m e y s : Nat} {u : LV} {z : tbE} {τ0 τ : QV} {b : Option (Nat × Nat)} (hz : GT z u) (hs : qS τ0 = nI s) (hS : Same τ0 τ) (hm : m < 2 ^ 31) (he : e < 2 ^ 31) (hy : y < 2 ^ 31) (hb : QB τ b) : QB (exHit w u m (nI e) (nI y) τ) (hV (hR τ0 (sCv w)) (hC τ0) b (m, e, y, u)) := by
  unfold exHit hV hR
  rw [show qRe τ0 ((m, e, y, u) : ND).2.2.2 (sCv w) = qRe τ u (sCv w) from (Same_qRe hS).symm]
  split
  · obtain ⟨c1, c2⟩ := hC_c (τ := τ) (m := m) (e := e) (y := y) hz (by rw [hS.2.2.1]; exact hs)
    rw [c1, ← Same_hC hS]
    exact QB_of hb (by omega) hy
  · exact hb
theorem exV_best {w : SV} {τ0 : QV} {s : Nat} (hF : ∀ i, i < 10 → rgI (gi (sF w) (nI i)) 9) (hs : qS τ0 = nI s) : ∀ (f m e y : Nat) (u : LV) (τ : QV) (b : Option (Nat × Nat)), (∃ z, GT z u) → Same τ0 τ → m + f ≤ 4 → e ≤ 120 * m → y < 100 ^ m → QB τ b → QB (exV w f u m (nI e) (nI y) τ) ((nds (fun u => exW u (qG τ0)) w f m e y u).foldl (hV (hR τ0 (sCv w)) (hC τ0)) b) := by
  have pw : ∀ m, m ≤ 4 → 100 ^ m ≤ 100 ^ 4 := fun m h => Nat.pow_le_pow_right (by decide) h
  intro f
  induction f with
  | zero =>
    intro m e y u τ b hG hS hm he hy hb
    obtain ⟨z, hz⟩ := hG
    have := pw m (by omega)
    exact exHit_best hz hs hS (by omega) (by omega) (by omega) hb
  | succ f ih =>
    intro m e y u τ b hG hS hm he hy hb
    obtain ⟨z, hz⟩ := hG
    have hp := pw m (by omega)
    have h1 := exHit_best (w := w) hz hs hS (by omega) (by omega) (by omega) (m := m) (e := e) (y := y) hb
    have hS1 : Same τ0 (exHit w u m (nI e) (nI y) τ) := hS.tr exHit_same
    rw [exV]
    generalize exHit w u m (nI e) (nI y) τ = τ1 at h1 hS1
    by_cases hh : qHo τ1 (nI e) = true
    · rw [if_pos hh]
      have hh := of_decide_eq_true hh
      rw [nds, List.foldl_cons]
      rcases h1 with ⟨c1, c2⟩ | ⟨c, y0, c1, c2, c3, c4, c5, c6⟩
      · exact absurd c1 hh.2.2.1
      · have hlt : c < e := by
          have := hh.2.2.2
          rw [c3] at this
          exact (nI_ltI (by omega) (by omega)).mp this
        rw [c2]
        rw [← hts_fold, lmn_big]
        · exact Or.inr ⟨c, y0, c1, rfl, c3, c4, c5, c6⟩
        · intro p hp
          obtain ⟨x, x1, x2, rfl⟩ := hts_mem.mp hp
          rw [List.mem_flatMap] at x1
          obtain ⟨l, _, x1⟩ := x1
          by_cases hl : hasL u (nI l) = true
          · rw [if_pos hl, List.mem_flatMap] at x1
            obtain ⟨k, _, x1⟩ := x1
            have := (nds_ge _ _ _ _ _ _ x1).1
            show c < hC τ0 x
            unfold hC
            rw [if_neg (by rw [← hS1.1]; exact hh.1), if_neg (by rw [← hS1.1]; exact hh.2.1)]
            omega
          · rw [if_neg hl] at x1; cases x1
    · rw [if_neg hh, nds_fold]
      refine (fold_rel (P := fun T b => Same τ0 T ∧ QB T b) (List.range' 1 4) (fun T b' l hl hp => ?_) τ1 _ ⟨hS1, h1⟩).2
      rw [List.mem_range'_1] at hl
      by_cases hl' : hasL u (nI l) = true
      · rw [if_pos hl', if_pos hl', hS1.1]
        refine fold_rel (P := fun T b => Same τ0 T ∧ QB T b) _ (fun T b' k hk hp => ?_) T b' hp
        have hk4 : k < 4 := by
          rw [List.mem_range'_1] at hk
          have : exW u (qG τ0) ≤ 4 := by unfold exW; split <;> omega
          omega
        obtain ⟨z', hz', _⟩ := GT_sx hz hl.1 (by omega) hl' hk4
        obtain ⟨t1, t2⟩ := tn_eq (x := fC u (nI l) (nI k)) hF
        refine ⟨hp.1.tr (exV_same f), ?_⟩
        have ew : 100 * nI y + 10 * nI l + nI k = nI (100 * y + 10 * l + k) := by
          rw [show (100 : Int32) * nI y = nI (100 * y) from pk_mul 100 y, show (10 : Int32) * nI l = nI (10 * l) from pk_mul 10 l, nI_add, nI_add]
        rw [t1, nI_add, ew]
        refine ih (m + 1) _ _ _ T b' ⟨z', hz'⟩ hp.1 (by omega) (by omega) ?_ hp.2
        rw [Nat.pow_succ]
        omega
      · rw [if_neg hl', if_neg hl']
        exact hp
/-! the class's hits, counted -/
def QHn (τ : QV) (K : Nat → Nat) : Prop := (qH τ).length = 5 ∧ ∀ n, n < 5 → gi (qH τ) (nI n) = nI (K n)
def hK (R : ND → Bool) (K : Nat → Nat) (x : ND) : Nat → Nat := if R x = true then (fun n => if n = x.1 then K n + 1 else K n) else K
theorem hK_cnt {R : ND → Bool} : ∀ (L : List ND) (K : Nat → Nat) (n : Nat), (L.foldl (hK R) K) n = K n + L.countP (fun x => decide (x.1 = n) && R x) := by
  intro L
  induction L with
  | nil => intro K n; rfl
  | cons x L ih =>
    intro K n
    rw [List.foldl_cons, ih, List.countP_cons]
    unfold hK
    by_cases h : R x = true
    · rw [if_pos h, h]
      by_cases hn : n = x.1
      · subst hn
        simp
        omega
      · simp [hn, Ne.symm hn]
    · rw [if_neg h]
      have h' : R x = false := by simpa using h
      rw [h']
      simp
theorem exHit_H {w : SV} {m : Nat} {eff way : Int32} {u : LV} {τ0 τ : QV} {K : Nat → Nat} (hS : Same τ0 τ) (hm : m < 5) (hk : QHn τ K) {e y : Nat} : QHn (exHit w u m eff way τ) (hK (hR τ0 (sCv w)) K (m, e, y, u)) := by
  unfold exHit hK hR
  rw [show qRe τ0 ((m, e, y, u) : ND).2.2.2 (sCv w) = qRe τ u (sCv w) from (Same_qRe hS).symm]
  split
  · have hq : ∀ (T : QV) (c y : Int32), qH (qOf T c y) = qH T := fun T c y => by unfold qOf; split <;> rfl
    refine ⟨by rw [hq]; show (List.set (qH τ) m _).length = 5; rw [List.length_set]; exact hk.1, fun n hn => ?_⟩
    rw [hq]
    show gi ((qH τ).set m (gi (qH τ) (nI m) + 1)) (nI n) = nI (if n = m then K n + 1 else K n)
    rw [gi_st (by rw [hk.1]; exact hn) (by omega)]
    by_cases he : m = n
    · subst he
      rw [if_pos rfl, if_pos rfl, hk.2 m hm, nI_1]
    · rw [if_neg he, if_neg (fun z => he z.symm), hk.2 n hn]
  · exact hk
theorem exV_H {w : SV} {τ0 : QV} (hg : qG τ0 = 1) : ∀ (f m e y : Nat) (eff way : Int32) (u : LV) (τ : QV) (K : Nat → Nat), Same τ0 τ → m + f ≤ 4 → QHn τ K → QHn (exV w f u m eff way τ) ((nds q2 w f m e y u).foldl (hK (hR τ0 (sCv w))) K) := by
  intro f
  induction f with
  | zero =>
    intro m e y eff way u τ K hS hm hk
    exact exHit_H hS (by omega) hk
  | succ f ih =>
    intro m e y eff way u τ K hS hm hk
    have h1 := exHit_H (w := w) (eff := eff) (way := way) (u := u) hS (show m < 5 by omega) hk (e := e) (y := y)
    have hS1 : Same τ0 (exHit w u m eff way τ) := hS.tr exHit_same
    rw [exV]
    generalize exHit w u m eff way τ = τ1 at h1 hS1
    have hh : ¬ qHo τ1 eff = true := by
      unfold qHo
      rw [hS1.1, hg]
      simp
    rw [if_neg hh, nds_fold]
    refine (fold_rel (P := fun T b => Same τ0 T ∧ QHn T b) (List.range' 1 4) (fun T b' l hl hp => ?_) τ1 _ ⟨hS1, h1⟩).2
    by_cases hl' : hasL u (nI l) = true
    · have e2 : exW u (qG τ1) = q2 u := by
        unfold exW
        rw [hS1.1, hg]
        exact if_neg (fun z => absurd z.1 (by decide))
      rw [if_pos hl', if_pos hl', e2]
      refine fold_rel (P := fun T b => Same τ0 T ∧ QHn T b) _ (fun T b' k hk hp => ?_) T b' hp
      exact ⟨hp.1.tr (exV_same f), ih (m + 1) _ _ _ _ _ T b' hp.1 (by omega) hp.2⟩
    · rw [if_neg hl', if_neg hl']
      exact hp
