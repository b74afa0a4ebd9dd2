/-! all that can be reached, and the least of it -/
abbrev ND : Type := Nat × Nat × Nat × LV
def tn (w : SV) (x : LV) : Nat := (tfE w x).toNatClampNeg
def nds (q : LV → Nat) (w : SV) : Nat → Nat → Nat → Nat → LV → List ND
  | 0, m, e, y, u => [(m, e, y, u)]
  | f + 1, m, e, y, u => (m, e, y, u) :: (List.range' 1 4).flatMap (fun l => if hasL u (nI l) = true then (List.range' 0 (q u)).flatMap (fun h => nds q w f (m + 1) (e + tn w (fC u (nI l) (nI h))) (100 * y + 10 * l + h) (fC u (nI l) (nI h))) else [])
theorem fold_fm {α β σ : Type} {V : σ → β → σ} {g : α → List β} : ∀ (l : List α) (s : σ), (l.flatMap g).foldl V s = l.foldl (fun s a => (g a).foldl V s) s := by
  intro l
  induction l with
  | nil => intro s; rfl
  | cons a l ih => intro s; rw [List.flatMap_cons, List.foldl_append, List.foldl_cons, ih]
theorem nds_fold {σ : Type} {V : σ → ND → σ} {q : LV → Nat} {w : SV} {f m e y : Nat} {u : LV} {s : σ} : (nds q w (f + 1) m e y u).foldl V s = (List.range' 1 4).foldl (fun s l => if hasL u (nI l) = true then (List.range' 0 (q u)).foldl (fun s h => (nds q w f (m + 1) (e + tn w (fC u (nI l) (nI h))) (100 * y + 10 * l + h) (fC u (nI l) (nI h))).foldl V s) s else s) (V s (m, e, y, u)) := by
  rw [nds, List.foldl_cons, fold_fm]
  congr 1
  funext s l
  split
  · rw [fold_fm]
  · rfl
theorem nds_mem {q : LV → Nat} {w : SV} {f m e y : Nat} {u : LV} {x : ND} : x ∈ nds q w (f + 1) m e y u ↔ x = (m, e, y, u) ∨ ∃ l h, 1 ≤ l ∧ l ≤ 4 ∧ hasL u (nI l) = true ∧ h < q u ∧ x ∈ nds q w f (m + 1) (e + tn w (fC u (nI l) (nI h))) (100 * y + 10 * l + h) (fC u (nI l) (nI h)) := by
  rw [nds, List.mem_cons, List.mem_flatMap]
  constructor
  · rintro (h | ⟨l, hl, hx⟩)
    · exact Or.inl h
    · rw [List.mem_range'_1] at hl
      by_cases hh : hasL u (nI l) = true
      · rw [if_pos hh, List.mem_flatMap] at hx
        obtain ⟨h, h1, h2⟩ := hx
        rw [List.mem_range'_1] at h1
        exact Or.inr ⟨l, h, hl.1, by omega, hh, by omega, h2⟩
      · rw [if_neg hh] at hx
        cases hx
  · rintro (h | ⟨l, h, h1, h4, hh, hq, hx⟩)
    · exact Or.inl h
    · refine Or.inr ⟨l, by rw [List.mem_range'_1]; omega, ?_⟩
      rw [if_pos hh, List.mem_flatMap]
      exact ⟨h, by rw [List.mem_range'_1]; omega, hx⟩
theorem nds_root {q : LV → Nat} {w : SV} {f m e y : Nat} {u : LV} : (m, e, y, u) ∈ nds q w f m e y u := by
  cases f with
  | zero => exact List.mem_singleton.mpr rfl
  | succ f => exact nds_mem.mpr (Or.inl rfl)
theorem nds_sub {q q' : LV → Nat} {w : SV} (hq : ∀ u, q u ≤ q' u) : ∀ (f m e y : Nat) (u : LV) (x : ND), x ∈ nds q w f m e y u → x ∈ nds q' w f m e y u := by
  intro f
  induction f with
  | zero => intro m e y u x h; exact h
  | succ f ih =>
    intro m e y u x h
    rcases nds_mem.mp h with h | ⟨l, k, h1, h4, hh, hk, hx⟩
    · exact nds_mem.mpr (Or.inl h)
    · exact nds_mem.mpr (Or.inr ⟨l, k, h1, h4, hh, Nat.lt_of_lt_of_le hk (hq u), ih _ _ _ _ _ hx⟩)
theorem nds_ge {q : LV → Nat} {w : SV} : ∀ (f m e y : Nat) (u : LV) (x : ND), x ∈ nds q w f m e y u → e ≤ x.2.1 ∧ m ≤ x.1 := by
  intro f
  induction f with
  | zero => intro m e y u x h; rw [List.mem_singleton.mp h]; exact ⟨Nat.le_refl _, Nat.le_refl _⟩
  | succ f ih =>
    intro m e y u x h
    rcases nds_mem.mp h with rfl | ⟨l, k, h1, h4, hh, hk, hx⟩
    · exact ⟨Nat.le_refl _, Nat.le_refl _⟩
    · have := ih _ _ _ _ _ hx
      omega
def q4 (_ : LV) : Nat := 4
def q2 (_ : LV) : Nat := 2
def qL (u : LV) : Nat := if vW u * vT u = 2 then 4 else 2
theorem tn_cg {w : SV} {a b : LV} (h1 : vF a = vF b) (h2 : vS a = vS b) : tn w a = tn w b := by
  unfold tn tfE tfStep
  rw [h1, h2]
/-- what looks the same -/
def Lk (u v : LV) : Prop := vW v = vW u ∧ vT v = vT u ∧ vRs v = vRs u ∧ (∀ p, p < 8 → vSb v (nI p) = vSb u (nI p))
theorem Lk_rf {u : LV} : Lk u u := ⟨rfl, rfl, rfl, fun _ _ => rfl⟩
theorem Lk_tr {u v x : LV} (h : Lk u v) (k : Lk v x) : Lk u x := ⟨k.1.trans h.1, k.2.1.trans h.2.1, k.2.2.1.trans h.2.2.1, fun p hp => (k.2.2.2 p hp).trans (h.2.2.2 p hp)⟩
theorem FL_Lk {u v : LV} (h : FL u v) : Lk u v := ⟨(FL_all h).1, (FL_all h).2.1, (FL_all h).2.2.1, (FL_all h).2.2.2.1⟩
theorem flip_nd {w : SV} : ∀ (f m e y1 y2 : Nat) (u v : LV), FL u v → y2 < y1 → ∀ x, x ∈ nds q4 w f m e y1 v → ∃ x', x' ∈ nds q4 w f m e y2 u ∧ x'.1 = x.1 ∧ x'.2.1 = x.2.1 ∧ x'.2.2.1 < x.2.2.1 ∧ Lk x'.2.2.2 x.2.2.2 := by
  intro f
  induction f with
  | zero =>
    intro m e y1 y2 u v hF hy x hx
    rw [List.mem_singleton.mp hx]
    exact ⟨_, nds_root, rfl, rfl, hy, FL_Lk hF⟩
  | succ f ih =>
    intro m e y1 y2 u v hF hy x hx
    rcases nds_mem.mp hx with rfl | ⟨l, k, h1, h4, hh, hk, hx⟩
    · exact ⟨_, nds_root, rfl, rfl, hy, FL_Lk hF⟩
    · obtain ⟨l', k', a1, a2, a3, a4, a5, a6, _⟩ := FL_step hF h1 h4 hh hk
      have ht : tn w (fC v (nI l) (nI k)) = tn w (fC u (nI l') (nI k')) := tn_cg a6 (FL_all a5).2.2.2.2
      rw [ht] at hx
      obtain ⟨x', b1, b2, b3, b4, b5⟩ := ih _ _ _ (100 * y2 + 10 * l' + k') _ _ a5 (by omega) x hx
      exact ⟨x', nds_mem.mpr (Or.inr ⟨l', k', a1, a2, a4, a3, b1⟩), b2, b3, b4, b5⟩
theorem two_nd {w : SV} : ∀ (f m e y : Nat) (u : LV), (∃ z, GT z u) → ∀ x, x ∈ nds q4 w f m e y u → ∃ x', x' ∈ nds q2 w f m e y u ∧ x'.1 = x.1 ∧ x'.2.1 = x.2.1 ∧ x'.2.2.1 ≤ x.2.2.1 ∧ Lk x'.2.2.2 x.2.2.2 := by
  intro f
  induction f with
  | zero =>
    intro m e y u hG x hx
    rw [List.mem_singleton.mp hx]
    exact ⟨_, nds_root, rfl, rfl, Nat.le_refl _, Lk_rf⟩
  | succ f ih =>
    intro m e y u hG x hx
    rcases nds_mem.mp hx with rfl | ⟨l, k, h1, h4, hh, hk, hx⟩
    · exact ⟨_, nds_root, rfl, rfl, Nat.le_refl _, Lk_rf⟩
    · obtain ⟨z, hz⟩ := hG
      have hk4 : k < 4 := hk
      by_cases h2 : k < 2
      · obtain ⟨z', hz', _⟩ := GT_sx hz h1 h4 hh hk4
        obtain ⟨x', b1, b2, b3, b4, b5⟩ := ih _ _ _ _ ⟨z', hz'⟩ x hx
        exact ⟨x', nds_mem.mpr (Or.inr ⟨l, k, h1, h4, hh, h2, b1⟩), b2, b3, b4, b5⟩
      · obtain ⟨j, rfl⟩ : ∃ j, k = j + 2 := ⟨k - 2, by omega⟩
        obtain ⟨a5, a6⟩ := FL_own hz h1 h4 hh (show j < 2 by omega)
        have ht : tn w (fC u (nI l) (nI (j + 2))) = tn w (fC u (nI l) (nI j)) := tn_cg a6 (FL_all a5).2.2.2.2
        rw [ht] at hx
        obtain ⟨x1, c1, c2, c3, c4, c5⟩ := flip_nd f _ _ _ (100 * y + 10 * l + j) _ _ a5 (by omega) x hx
        obtain ⟨z', hz', _⟩ := GT_sx hz h1 h4 hh (show j < 4 by omega)
        obtain ⟨x', b1, b2, b3, b4, b5⟩ := ih _ _ _ _ ⟨z', hz'⟩ x1 c1
        exact ⟨x', nds_mem.mpr (Or.inr ⟨l, j, h1, h4, hh, (show j < 2 by omega), b1⟩), b2.trans c2, b3.trans c3, by omega, Lk_tr b5 c5⟩
/-! shut maps -/
def Sh (u : LV) : Prop := vW u = 1 ∧ vT u = 1
theorem Sh_no {u : LV} (h : Sh u) (l : Nat) (h1 : 1 ≤ l) (h4 : l ≤ 4) : hasL u (nI l) = false := by
  unfold hasL
  rw [h.1, h.2]
  rcases (show l = 1 ∨ l = 2 ∨ l = 3 ∨ l = 4 by omega) with rfl | rfl | rfl | rfl <;> decide +kernel
theorem Sh_nd {q : LV → Nat} {w : SV} {f m e y : Nat} {u : LV} {x : ND} (h : Sh u) (hx : x ∈ nds q w f m e y u) : x = (m, e, y, u) := by
  cases f with
  | zero => exact List.mem_singleton.mp hx
  | succ f =>
    rcases nds_mem.mp hx with hx | ⟨l, k, h1, h4, hh, _⟩
    · exact hx
    · rw [Sh_no h l h1 h4] at hh; cases hh
theorem Sh_pre {u : LV} {z : tbE} {l k : Nat} (hz : GT z u) (h1 : 1 ≤ l) (h4 : l ≤ 4) (hh : hasL u (nI l) = true) (hs : Sh (fC u (nI l) (nI k))) : vW u * vT u = 2 := by
  obtain ⟨e1, e2, a1, a2, a3, a4⟩ := GT_wt hz
  obtain ⟨s1, s2⟩ := hs
  have s1' : fcW u (bfR (nI l)) (bfC (nI l)) = 1 := s1
  have s2' : fcT u (bfR (nI l)) = 1 := s2
  unfold fcW at s1'
  unfold fcT at s2'
  unfold hasL at hh
  rw [e1] at s1'
  rw [e2] at s2'
  rw [e1, e2] at hh ⊢
  rcases (show l = 1 ∨ l = 2 ∨ l = 3 ∨ l = 4 by omega) with rfl | rfl | rfl | rfl <;>
  rcases (show dgt z.1 50 = 1 ∨ dgt z.1 50 = 2 ∨ dgt z.1 50 = 3 ∨ dgt z.1 50 = 4 by omega) with c | c | c | c <;>
  rcases (show dgt z.1 51 = 1 ∨ dgt z.1 51 = 2 by omega) with d | d <;>
  rw [c] at s1' hh ⊢ <;> rw [d] at s2' hh ⊢ <;> revert s1' s2' hh <;> decide +kernel
theorem flip_sh {w : SV} : ∀ (f m e y1 y2 : Nat) (u v : LV), FL u v → y2 < y1 → ¬ Sh v → ∀ x, x ∈ nds q4 w f m e y1 v → Sh x.2.2.2 → ∃ x', x' ∈ nds q4 w f m e y2 u ∧ x'.1 = x.1 ∧ x'.2.1 = x.2.1 ∧ x'.2.2.1 < x.2.2.1 ∧ x'.2.2.2 = x.2.2.2 := by
  intro f
  induction f with
  | zero =>
    intro m e y1 y2 u v hF hy hn x hx hs
    rw [List.mem_singleton.mp hx] at hs
    exact absurd hs hn
  | succ f ih =>
    intro m e y1 y2 u v hF hy hn x hx hs
    rcases nds_mem.mp hx with rfl | ⟨l, k, h1, h4, hh, hk, hx⟩
    · exact absurd hs hn
    · obtain ⟨l', k', a1, a2, a3, a4, a5, a6, a7⟩ := FL_step hF h1 h4 hh hk
      by_cases hc : Sh (fC v (nI l) (nI k))
      · obtain ⟨w2, b1, b2⟩ := a7 hc
        rw [Sh_nd hc hx]
        rw [b2]
        exact ⟨_, nds_mem.mpr (Or.inr ⟨l', w2, a1, a2, a4, b1, nds_root⟩), rfl, rfl, (by show 100 * y2 + 10 * l' + w2 < 100 * y1 + 10 * l + k; omega), rfl⟩
      · have ht : tn w (fC v (nI l) (nI k)) = tn w (fC u (nI l') (nI k')) := tn_cg a6 (FL_all a5).2.2.2.2
        rw [ht] at hx
        obtain ⟨x', b1, b2, b3, b4, b5⟩ := ih _ _ _ (100 * y2 + 10 * l' + k') _ _ a5 (by omega) hc x hx hs
        exact ⟨x', nds_mem.mpr (Or.inr ⟨l', k', a1, a2, a4, a3, b1⟩), b2, b3, b4, b5⟩
theorem lay_nd {w : SV} : ∀ (f m e y : Nat) (u : LV), (∃ z, GT z u) → ∀ x, x ∈ nds q4 w f m e y u → Sh x.2.2.2 → ∃ x', x' ∈ nds qL w f m e y u ∧ x'.1 = x.1 ∧ x'.2.1 = x.2.1 ∧ x'.2.2.1 ≤ x.2.2.1 ∧ x'.2.2.2 = x.2.2.2 := by
  intro f
  induction f with
  | zero =>
    intro m e y u hG x hx _
    rw [List.mem_singleton.mp hx]
    exact ⟨_, nds_root, rfl, rfl, Nat.le_refl _, rfl⟩
  | succ f ih =>
    intro m e y u hG x hx hs
    rcases nds_mem.mp hx with rfl | ⟨l, k, h1, h4, hh, hk, hx⟩
    · exact ⟨_, nds_root, rfl, rfl, Nat.le_refl _, rfl⟩
    · obtain ⟨z, hz⟩ := hG
      have hk4 : k < 4 := hk
      by_cases h2 : k < qL u
      · obtain ⟨z', hz', _⟩ := GT_sx hz h1 h4 hh hk4
        obtain ⟨x', b1, b2, b3, b4, b5⟩ := ih _ _ _ _ ⟨z', hz'⟩ x hx hs
        exact ⟨x', nds_mem.mpr (Or.inr ⟨l, k, h1, h4, hh, h2, b1⟩), b2, b3, b4, b5⟩
      · have hc2 : ¬ vW u * vT u = 2 := fun z => h2 (by unfold qL; rw [if_pos z]; exact hk4)
        have hq : qL u = 2 := if_neg hc2
        obtain ⟨j, rfl⟩ : ∃ j, k = j + 2 := ⟨k - 2, by omega⟩
        obtain ⟨a5, a6⟩ := FL_own hz h1 h4 hh (show j < 2 by omega)
        have ht : tn w (fC u (nI l) (nI (j + 2))) = tn w (fC u (nI l) (nI j)) := tn_cg a6 (FL_all a5).2.2.2.2
        rw [ht] at hx
        obtain ⟨x1, c1, c2, c3, c4, c5⟩ := flip_sh f _ _ _ (100 * y + 10 * l + j) _ _ a5 (by omega) (fun hs => hc2 (Sh_pre hz h1 h4 hh hs)) x hx hs
        obtain ⟨z', hz', _⟩ := GT_sx hz h1 h4 hh (show j < 4 by omega)
        obtain ⟨x', b1, b2, b3, b4, b5⟩ := ih _ _ _ _ ⟨z', hz'⟩ x1 c1 (by rw [c5]; exact hs)
        exact ⟨x', nds_mem.mpr (Or.inr ⟨l, j, h1, h4, hh, by omega, b1⟩), b2.trans c2, b3.trans c3, by omega, b5.trans c5⟩
/-! the least -/
def lmn (b : Option (Nat × Nat)) (p : Nat × Nat) : Option (Nat × Nat) := match b with
  | none => some p
  | some r => if p.1 < r.1 ∨ (p.1 = r.1 ∧ p.2 < r.2) then some p else some r
def lxle (p r : Nat × Nat) : Prop := p.1 < r.1 ∨ (p.1 = r.1 ∧ p.2 ≤ r.2)
theorem lmn_min : ∀ (L : List (Nat × Nat)) (b : Option (Nat × Nat)), (L.foldl lmn b = none → b = none ∧ L = []) ∧ ∀ r, L.foldl lmn b = some r → (r ∈ L ∨ b = some r) ∧ (∀ p, p ∈ L → lxle r p) ∧ ∀ p, b = some p → lxle r p := by
  intro L
  induction L with
  | nil =>
    intro b
    refine ⟨fun h => ⟨h, rfl⟩, fun r h => ⟨Or.inr h, fun p hp => absurd hp (List.not_mem_nil), fun p hp => ?_⟩⟩
    have hp' : some p = some r := by rw [← hp]; exact h
    cases hp'
    exact Or.inr ⟨rfl, Nat.le_refl _⟩
  | cons a L ih =>
    intro b
    rw [List.foldl_cons]
    obtain ⟨i1, i2⟩ := ih (lmn b a)
    have key : ∃ s, lmn b a = some s ∧ (s = a ∨ b = some s) ∧ lxle s a ∧ ∀ p, b = some p → lxle s p := by
      cases b with
      | none => exact ⟨a, rfl, Or.inl rfl, Or.inr ⟨rfl, Nat.le_refl _⟩, fun p hp => by cases hp⟩
      | some c =>
        unfold lmn
        by_cases hc : a.1 < c.1 ∨ (a.1 = c.1 ∧ a.2 < c.2)
        · refine ⟨a, if_pos hc, Or.inl rfl, Or.inr ⟨rfl, Nat.le_refl _⟩, fun p hp => ?_⟩
          cases hp
          unfold lxle
          omega
        · refine ⟨c, if_neg hc, Or.inr rfl, ?_, fun p hp => ?_⟩
          · unfold lxle; omega
          · cases hp
            exact Or.inr ⟨rfl, Nat.le_refl _⟩
    obtain ⟨s, k1, k2, k3, k4⟩ := key
    refine ⟨fun h => ?_, fun r h => ?_⟩
    · have := (i1 h).1
      rw [k1] at this
      cases this
    · obtain ⟨j1, j2, j3⟩ := i2 r h
      have js := j3 s k1
      have tr : ∀ p, lxle s p → lxle r p := fun p hp => by unfold lxle at js hp ⊢; omega
      refine ⟨?_, fun p hp => ?_, fun p hp => tr p (k4 p hp)⟩
      · rcases j1 with j1 | j1
        · exact Or.inl (List.mem_cons_of_mem _ j1)
        · rw [k1] at j1
          cases j1
          rcases k2 with k2 | k2
          · rw [k2]; exact Or.inl (List.mem_cons_self ..)
          · exact Or.inr k2
      · rcases List.mem_cons.mp hp with rfl | hp
        · exact tr _ k3
        · exact j2 p hp
theorem lmn_eq {L M : List (Nat × Nat)} (h1 : ∀ p, p ∈ L → p ∈ M) (h2 : ∀ p, p ∈ M → ∃ p', p' ∈ L ∧ lxle p' p) : M.foldl lmn none = L.foldl lmn none := by
  obtain ⟨a1, a2⟩ := lmn_min L none
  obtain ⟨b1, b2⟩ := lmn_min M none
  cases hL : L.foldl lmn none with
  | none =>
    obtain ⟨_, hl⟩ := a1 hL
    cases hM : M.foldl lmn none with
    | none => rfl
    | some r =>
      obtain ⟨c1, _⟩ := b2 r hM
      rcases c1 with c1 | c1
      · obtain ⟨p', d1, _⟩ := h2 r c1
        rw [hl] at d1
        cases d1
      · cases c1
  | some s =>
    obtain ⟨c1, c2, _⟩ := a2 s hL
    rcases c1 with c1 | c1
    · cases hM : M.foldl lmn none with
      | none =>
        obtain ⟨_, hm⟩ := b1 hM
        have := h1 s c1
        rw [hm] at this
        cases this
      | some r =>
        obtain ⟨d1, d2, _⟩ := b2 r hM
        rcases d1 with d1 | d1
        · have e1 := d2 s (h1 s c1)
          obtain ⟨p', g1, g2⟩ := h2 r d1
          have e2 := c2 p' g1
          unfold lxle at e1 e2 g2
          congr 1
          refine Prod.ext ?_ ?_ <;> omega
        · cases d1
    · cases c1
theorem lmn_big {L : List (Nat × Nat)} {r : Nat × Nat} (h : ∀ p, p ∈ L → r.1 < p.1) : L.foldl lmn (some r) = some r := by
  induction L with
  | nil => rfl
  | cons a L ih =>
    rw [List.foldl_cons]
    have : lmn (some r) a = some r := by
      have := h a (List.mem_cons_self ..)
      unfold lmn
      exact if_neg (by omega)
    rw [this]
    exact ih (fun p hp => h p (List.mem_cons_of_mem _ hp))
/-- the hits -/
def hts (R : ND → Bool) (c : ND → Nat) (l : List ND) : List (Nat × Nat) := l.filterMap (fun x => if R x = true then some (c x, x.2.2.1) else none)
theorem hts_mem {R : ND → Bool} {c : ND → Nat} {l : List ND} {p : Nat × Nat} : p ∈ hts R c l ↔ ∃ x, x ∈ l ∧ R x = true ∧ p = (c x, x.2.2.1) := by
  unfold hts
  rw [List.mem_filterMap]
  constructor
  · rintro ⟨x, h1, h2⟩
    by_cases hr : R x = true
    · rw [if_pos hr] at h2
      cases h2
      exact ⟨x, h1, hr, rfl⟩
    · rw [if_neg hr] at h2; cases h2
  · rintro ⟨x, h1, h2, rfl⟩
    exact ⟨x, h1, by rw [if_pos h2]⟩
/-- the two ways are enough -/
theorem best_2 {w : SV} {f y : Nat} {u : LV} {R : ND → Bool} {c : ND → Nat} (hG : ∃ z, GT z u) (hR : ∀ x x' : ND, x'.1 = x.1 → x'.2.1 = x.2.1 → Lk x'.2.2.2 x.2.2.2 → R x' = R x ∧ (R x = true → c x' = c x)) : (hts R c (nds q4 w f 0 0 y u)).foldl lmn none = (hts R c (nds q2 w f 0 0 y u)).foldl lmn none := by
  refine lmn_eq (fun p hp => ?_) (fun p hp => ?_)
  · obtain ⟨x, h1, h2, h3⟩ := hts_mem.mp hp
    exact hts_mem.mpr ⟨x, nds_sub (fun _ => by show 2 ≤ 4; omega) _ _ _ _ _ _ h1, h2, h3⟩
  · obtain ⟨x, h1, h2, rfl⟩ := hts_mem.mp hp
    obtain ⟨x', a1, a2, a3, a4, a5⟩ := two_nd f _ _ _ u hG x h1
    obtain ⟨r1, r2⟩ := hR x x' a2 a3 a5
    exact ⟨_, hts_mem.mpr ⟨x', a1, by rw [r1]; exact h2, rfl⟩, Or.inr ⟨r2 h2, a4⟩⟩
theorem best_L {w : SV} {f y : Nat} {u : LV} {R : ND → Bool} {c : ND → Nat} (hG : ∃ z, GT z u) (hS : ∀ x, R x = true → Sh x.2.2.2) (hR : ∀ x x' : ND, x'.1 = x.1 → x'.2.1 = x.2.1 → x'.2.2.2 = x.2.2.2 → R x' = R x ∧ c x' = c x) : (hts R c (nds q4 w f 0 0 y u)).foldl lmn none = (hts R c (nds qL w f 0 0 y u)).foldl lmn none := by
  refine lmn_eq (fun p hp => ?_) (fun p hp => ?_)
  · obtain ⟨x, h1, h2, h3⟩ := hts_mem.mp hp
    exact hts_mem.mpr ⟨x, nds_sub (fun u => by unfold qL q4; split <;> omega) _ _ _ _ _ _ h1, h2, h3⟩
  · obtain ⟨x, h1, h2, rfl⟩ := hts_mem.mp hp
    obtain ⟨x', a1, a2, a3, a4, a5⟩ := lay_nd f _ _ _ u hG x h1 (hS x h2)
    obtain ⟨r1, r2⟩ := hR x x' a2 a3 a5
    exact ⟨_, hts_mem.mpr ⟨x', a1, by rw [r1]; exact h2, rfl⟩, Or.inr ⟨r2, a4⟩⟩
