/-! how many -/
def cn (q : LV → Nat) (R : LV → Bool) : Nat → Nat → LV → Nat
  | _, 0, u => if R u = true then 1 else 0
  | 0, _ + 1, _ => 0
  | f + 1, n + 1, u => ((List.range' 1 4).map (fun l => if hasL u (nI l) = true then ((List.range' 0 (q u)).map (fun h => cn q R f n (fC u (nI l) (nI h)))).sum else 0)).sum
def cnS (q : LV → Nat) (R : LV → Bool) (f n : Nat) (u : LV) (l : Nat) : Nat := if hasL u (nI l) = true then ((List.range' 0 (q u)).map (fun h => cn q R f n (fC u (nI l) (nI h)))).sum else 0
theorem cn_s {q : LV → Nat} {R : LV → Bool} {f n : Nat} {u : LV} : cn q R (f + 1) (n + 1) u = cnS q R f n u 1 + (cnS q R f n u 2 + (cnS q R f n u 3 + cnS q R f n u 4)) := by
  rw [cn]
  rw [show List.range' 1 4 = [1, 2, 3, 4] from rfl]
  simp only [List.map_cons, List.map_nil, List.sum_cons, List.sum_nil, Nat.add_zero]
  rfl
theorem cn_0 {q : LV → Nat} {R : LV → Bool} {f : Nat} {u : LV} : cn q R f 0 u = if R u = true then 1 else 0 := by
  cases f <;> rw [cn]
theorem cn_z {q : LV → Nat} {R : LV → Bool} {n : Nat} {u : LV} : cn q R 0 (n + 1) u = 0 := by rw [cn]
theorem cnS_4 {R : LV → Bool} {f n : Nat} {u : LV} {l : Nat} (h : hasL u (nI l) = true) : cnS q4 R f n u l = cn q4 R f n (fC u (nI l) (nI 0)) + (cn q4 R f n (fC u (nI l) (nI 1)) + (cn q4 R f n (fC u (nI l) (nI 2)) + cn q4 R f n (fC u (nI l) (nI 3)))) := by
  unfold cnS
  rw [if_pos h, show List.range' 0 (q4 u) = [0, 1, 2, 3] from rfl]
  simp only [List.map_cons, List.map_nil, List.sum_cons, List.sum_nil, Nat.add_zero]
theorem cnS_2 {R : LV → Bool} {f n : Nat} {u : LV} {l : Nat} (h : hasL u (nI l) = true) : cnS q2 R f n u l = cn q2 R f n (fC u (nI l) (nI 0)) + cn q2 R f n (fC u (nI l) (nI 1)) := by
  unfold cnS
  rw [if_pos h, show List.range' 0 (q2 u) = [0, 1] from rfl]
  simp only [List.map_cons, List.map_nil, List.sum_cons, List.sum_nil, Nat.add_zero]
theorem cnS_n {q : LV → Nat} {R : LV → Bool} {f n : Nat} {u : LV} {l : Nat} (h : hasL u (nI l) = false) : cnS q R f n u l = 0 := by
  unfold cnS
  rw [if_neg (by rw [h]; decide)]
theorem cn_flip {R : LV → Bool} (hR : ∀ u v, Lk u v → R v = R u) : ∀ (f n : Nat) (u v : LV), FL u v → cn q4 R f n v = cn q4 R f n u := by
  intro f
  induction f with
  | zero =>
    intro n u v h
    cases n with
    | zero => rw [cn_0, cn_0, hR u v (FL_Lk h)]
    | succ n => rw [cn_z, cn_z]
  | succ f ih =>
    intro n u v h
    cases n with
    | zero => rw [cn_0, cn_0, hR u v (FL_Lk h)]
    | succ n =>
      have hL := FL_Lk h
      have hhas : ∀ x, hasL v x = hasL u x := fun x => by unfold hasL; rw [hL.1, hL.2.1]
      obtain ⟨x, z, hx, hz, h3⟩ := h
      obtain ⟨e1, e2, a1, a2, a3, a4⟩ := GT_wt hx
      rw [cn_s, cn_s]
      rcases h3 with ⟨h3, hp⟩ | ⟨h3, hp⟩
      · have st : ∀ l, 1 ≤ l → l ≤ 4 → hasL v (nI l) = true → hasL u (nI (fpL x.1 l)) = true ∧ cnS q4 R f n v l = cnS q4 R f n u (fpL x.1 l) := by
          intro l h1 h4 hl
          have k := fun w hw => FLC_step hx hz h3 hp h1 h4 hl (w := w) hw
          have hu := (k 0 (by omega)).2.2.2.1
          refine ⟨hu, ?_⟩
          rw [cnS_4 hl, cnS_4 hu]
          have c := fun w hw => ih n _ _ (k w hw).2.2.2.2.1
          rw [c 0 (by omega), c 1 (by omega), c 2 (by omega), c 3 (by omega)]
          by_cases he : l = 4
          · subst he
            rw [show fpW 4 0 = 1 from rfl, show fpW 4 1 = 0 from rfl, show fpW 4 2 = 3 from rfl, show fpW 4 3 = 2 from rfl]
            omega
          · have e : ∀ w, fpW l w = 3 - w := fun w => if_neg he
            rw [e, e, e, e, show 3 - 0 = 3 from rfl, show 3 - 1 = 2 from rfl, show 3 - 2 = 1 from rfl, show 3 - 3 = 0 from rfl]
            omega
        have n0 : ∀ l, hasL v (nI l) = false → cnS q4 R f n v l = 0 ∧ cnS q4 R f n u l = 0 := fun l hl => ⟨cnS_n hl, cnS_n (by rw [← hhas]; exact hl)⟩
        have hv4 : cnS q4 R f n v 4 = cnS q4 R f n u 4 := by
          cases h4 : hasL v (nI 4)
          · rw [(n0 4 h4).1, (n0 4 h4).2]
          · exact (st 4 (by omega) (by omega) h4).2
        have hval : ∀ l, 1 ≤ l → l ≤ 3 → hasL v (nI l) = decide (l < dgt x.1 50) := fun l h1 h4 => by
          rw [hhas, GT_vl hx h1 (by omega)]
          unfold vlN
          rw [if_neg (by rw [Nat.beq_eq]; omega)]
          by_cases hl : l < dgt x.1 50
          · rw [decide_eq_true hl]; exact Nat.blt_eq.mpr hl
          · rw [decide_eq_false hl, ← Bool.not_eq_true, Nat.blt_eq]; exact hl
        have fp : ∀ l, l ≤ 3 → fpL x.1 l = dgt x.1 50 - l := fun l h4 => if_neg (by omega)
        rcases (show dgt x.1 50 = 1 ∨ dgt x.1 50 = 2 ∨ dgt x.1 50 = 3 by omega) with c | c | c
        · have z1 := n0 1 (by rw [hval 1 (by omega) (by omega), c]; rfl)
          have z2 := n0 2 (by rw [hval 2 (by omega) (by omega), c]; rfl)
          have z3 := n0 3 (by rw [hval 3 (by omega) (by omega), c]; rfl)
          omega
        · have z1 := (st 1 (by omega) (by omega) (by rw [hval 1 (by omega) (by omega), c]; rfl)).2
          rw [fp 1 (by omega), c, show 2 - 1 = 1 from rfl] at z1
          have z2 := n0 2 (by rw [hval 2 (by omega) (by omega), c]; rfl)
          have z3 := n0 3 (by rw [hval 3 (by omega) (by omega), c]; rfl)
          omega
        · have z1 := (st 1 (by omega) (by omega) (by rw [hval 1 (by omega) (by omega), c]; rfl)).2
          rw [fp 1 (by omega), c, show 3 - 1 = 2 from rfl] at z1
          have z2 := (st 2 (by omega) (by omega) (by rw [hval 2 (by omega) (by omega), c]; rfl)).2
          rw [fp 2 (by omega), c, show 3 - 2 = 1 from rfl] at z2
          have z3 := n0 3 (by rw [hval 3 (by omega) (by omega), c]; rfl)
          omega
      · have st : ∀ l, 1 ≤ l → l ≤ 4 → cnS q4 R f n v l = cnS q4 R f n u l := by
          intro l h1 h4
          cases hl : hasL v (nI l)
          · rw [cnS_n hl, cnS_n (by rw [← hhas]; exact hl)]
          · have k := fun w hw => FLR_step hx hz h3 hp h1 h4 hl (w := w) hw
            have hu := (k 0 (by omega)).2.2.2.1
            rw [cnS_4 hl, cnS_4 hu]
            have c := fun w hw => ih n _ _ (k w hw).2.2.2.2.1
            rw [c 0 (by omega), c 1 (by omega), c 2 (by omega), c 3 (by omega)]
            rw [show Nat.xor 0 1 = 1 from rfl, show Nat.xor 1 1 = 0 from rfl, show Nat.xor 2 1 = 3 from rfl, show Nat.xor 3 1 = 2 from rfl]
            omega
        rw [st 1 (by omega) (by omega), st 2 (by omega) (by omega), st 3 (by omega) (by omega), st 4 (by omega) (by omega)]
theorem cn_2 {R : LV → Bool} (hR : ∀ u v, Lk u v → R v = R u) : ∀ (f n : Nat) (u : LV), (∃ z, GT z u) → cn q4 R f n u = 2 ^ n * cn q2 R f n u := by
  intro f
  induction f with
  | zero =>
    intro n u hG
    cases n with
    | zero => rw [cn_0, cn_0]; omega
    | succ n => rw [cn_z, cn_z, Nat.mul_zero]
  | succ f ih =>
    intro n u hG
    cases n with
    | zero => rw [cn_0, cn_0]; omega
    | succ n =>
      obtain ⟨z, hz⟩ := hG
      have st : ∀ l, 1 ≤ l → l ≤ 4 → cnS q4 R f n u l = 2 ^ (n + 1) * cnS q2 R f n u l := by
        intro l h1 h4
        cases hl : hasL u (nI l)
        · rw [cnS_n hl, cnS_n hl, Nat.mul_zero]
        · rw [cnS_4 hl, cnS_2 hl]
          have f0 := cn_flip hR f n _ _ (FL_own hz h1 h4 hl (show 0 < 2 by omega)).1
          have f1 := cn_flip hR f n _ _ (FL_own hz h1 h4 hl (show 1 < 2 by omega)).1
          obtain ⟨y0, g0, _⟩ := GT_sx hz h1 h4 hl (show 0 < 4 by omega)
          obtain ⟨y1, g1, _⟩ := GT_sx hz h1 h4 hl (show 1 < 4 by omega)
          rw [show nI 2 = nI (0 + 2) from rfl, show nI 3 = nI (1 + 2) from rfl, f0, f1, ih n _ ⟨y0, g0⟩, ih n _ ⟨y1, g1⟩, Nat.pow_succ, Nat.mul_assoc, Nat.mul_left_comm, Nat.mul_add, Nat.mul_add]
          omega
      rw [cn_s, cn_s, st 1 (by omega) (by omega), st 2 (by omega) (by omega), st 3 (by omega) (by omega), st 4 (by omega) (by omega), Nat.mul_add, Nat.mul_add, Nat.mul_add]
theorem cnt_fm {α β : Type} {p : β → Bool} {g : α → List β} : ∀ (l : List α), (l.flatMap g).countP p = (l.map (fun a => (g a).countP p)).sum := by
  intro l
  induction l with
  | nil => rfl
  | cons a l ih => rw [List.flatMap_cons, List.countP_append, List.map_cons, List.sum_cons, ih]
theorem nds_cn {q : LV → Nat} {R : LV → Bool} {w : SV} : ∀ (f n m e y : Nat) (u : LV), (nds q w f m e y u).countP (fun x => decide (x.1 = m + n) && R x.2.2.2) = cn q R f n u := by
  intro f
  induction f with
  | zero =>
    intro n m e y u
    rw [nds, List.countP_singleton]
    cases n with
    | zero => rw [cn_0]; simp
    | succ n => rw [cn_z]; simp
  | succ f ih =>
    intro n m e y u
    rw [nds, List.countP_cons]
    cases n with
    | zero =>
      rw [cn_0]
      have : List.countP (fun x : ND => decide (x.1 = m + 0) && R x.2.2.2) ((List.range' 1 4).flatMap (fun l => if hasL u (nI l) = true then (List.range' 0 (q u)).flatMap (fun h => nds q w f (m + 1) (e + tn w (fC u (nI l) (nI h))) (100 * y + 10 * l + h) (fC u (nI l) (nI h))) else [])) = 0 := by
        rw [List.countP_eq_zero]
        intro x hx
        rw [List.mem_flatMap] at hx
        obtain ⟨l, _, hx⟩ := hx
        by_cases hh : hasL u (nI l) = true
        · rw [if_pos hh, List.mem_flatMap] at hx
          obtain ⟨h, _, hx⟩ := hx
          have := (nds_ge _ _ _ _ _ _ hx).2
          rw [decide_eq_false (by omega)]
          simp
        · rw [if_neg hh] at hx; cases hx
      rw [this]
      simp
    | succ n =>
      have h0 : (decide (((m, e, y, u) : ND).1 = m + (n + 1)) && R ((m, e, y, u) : ND).2.2.2) = false := by
        rw [show decide (((m, e, y, u) : ND).1 = m + (n + 1)) = false from decide_eq_false (by show ¬ m = m + (n + 1); omega)]
        rfl
      rw [h0, if_neg (by decide), Nat.add_zero, cnt_fm, cn]
      congr 1
      refine List.map_congr_left (fun l hl => ?_)
      by_cases hh : hasL u (nI l) = true
      · rw [if_pos hh, if_pos hh, cnt_fm]
        congr 1
        refine List.map_congr_left (fun h _ => ?_)
        rw [← ih n (m + 1) (e + tn w (fC u (nI l) (nI h))) (100 * y + 10 * l + h) (fC u (nI l) (nI h))]
        congr 1
        funext x
        rw [show m + (n + 1) = m + 1 + n by omega]
      · rw [if_neg hh, if_neg hh]; rfl
