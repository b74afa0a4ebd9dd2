/-! eight told panels -/
theorem cnt_lt : ∀ (n : Nat) (L : List Nat), (∀ p, p < n → p ∈ L) → n ≤ L.countP (fun x => decide (x < n)) := by
  intro n
  induction n with
  | zero => intro L _; exact Nat.zero_le _
  | succ n ih =>
    intro L h
    have h1 := ih L (fun p hp => h p (by omega))
    have h2 : 1 ≤ L.countP (fun x => decide (x = n)) := by
      rw [Nat.succ_le_iff, List.countP_pos_iff]
      exact ⟨n, h n (by omega), by simp⟩
    have h3 : ∀ M : List Nat, M.countP (fun x => decide (x < n + 1)) = M.countP (fun x => decide (x < n)) + M.countP (fun x => decide (x = n)) := by
      intro M
      induction M with
      | nil => rfl
      | cons a M ih2 =>
        rw [List.countP_cons, List.countP_cons, List.countP_cons, ih2]
        by_cases c1 : a < n
        · rw [if_pos (decide_eq_true (show a < n + 1 by omega)), if_pos (decide_eq_true c1), if_neg (by simp; omega)]
          omega
        · by_cases c2 : a = n
          · rw [if_pos (decide_eq_true (show a < n + 1 by omega)), if_neg (by simp; omega), if_pos (decide_eq_true c2)]
            omega
          · rw [if_neg (by simp; omega), if_neg (by simp; omega), if_neg (by simp; omega)]
            omega
    rw [h3 L]
    omega
/-- eight places hold each of eight once -/
theorem eight_inj {t : Nat → Nat} (h : ∀ p, p < 8 → ∃ k, k < 8 ∧ t k = p) : (∀ k, k < 8 → t k < 8) ∧ ∀ i j, i < 8 → j < 8 → t i = t j → i = j := by
  have all : ∀ k, k < 8 → t k < 8 := by
    intro k hk
    have hm : ∀ p, p < 8 → p ∈ (List.range 8).map t := fun p hp => by
      obtain ⟨k, k1, k2⟩ := h p hp
      exact List.mem_map.mpr ⟨k, List.mem_range.mpr k1, k2⟩
    have hc := cnt_lt 8 _ hm
    have hl : ((List.range 8).map t).length = 8 := by simp
    have he : ((List.range 8).map t).countP (fun x => decide (x < 8)) = ((List.range 8).map t).length := Nat.le_antisymm (List.countP_le_length) (by omega)
    rw [List.countP_eq_length] at he
    exact of_decide_eq_true (he (t k) (List.mem_map.mpr ⟨k, List.mem_range.mpr hk, rfl⟩))
  refine ⟨all, fun i j hi hj he => ?_⟩
  apply Decidable.byContradiction
  intro hne
  have hm : ∀ p, p < 8 → p ∈ ((List.range 8).filter (fun k => decide (k ≠ j))).map t := fun p hp => by
    obtain ⟨k, k1, k2⟩ := h p hp
    by_cases hk : k = j
    · refine List.mem_map.mpr ⟨i, ?_, by rw [he, ← hk, k2]⟩
      rw [List.mem_filter]
      exact ⟨List.mem_range.mpr hi, decide_eq_true hne⟩
    · refine List.mem_map.mpr ⟨k, ?_, k2⟩
      rw [List.mem_filter]
      exact ⟨List.mem_range.mpr k1, decide_eq_true hk⟩
  have hc := cnt_lt 8 _ hm
  have hl : (((List.range 8).filter (fun k => decide (k ≠ j))).map t).length = 7 := by
    rw [List.length_map]
    rcases (show j = 0 ∨ j = 1 ∨ j = 2 ∨ j = 3 ∨ j = 4 ∨ j = 5 ∨ j = 6 ∨ j = 7 by omega) with rfl | rfl | rfl | rfl | rfl | rfl | rfl | rfl <;> rfl
  have := List.countP_le_length (p := fun x => decide (x < 8)) (l := ((List.range 8).filter (fun k => decide (k ≠ j))).map t)
  omega
theorem nI_or (a b : Nat) : nI a ||| nI b = nI (a ||| b) := Int32.toBitVec_inj.mp (by rw [Int32.toBitVec_or]; exact (BitVec.ofNat_or ..).symm)
theorem one_sh : ∀ t, t < 8 → (1 : Int32) <<< (nI t &&& 31) = nI (2 ^ t) := by decide +kernel
/-- the bits of what is told -/
def orN (t : Nat → Nat) (s : Nat) (i : Nat) : Nat := s ||| (if t i < 8 then 2 ^ t i else 0)
theorem or_bit {t : Nat → Nat} : ∀ (L : List Nat) (s p : Nat), p < 8 → ((L.foldl (orN t) s).testBit p = true ↔ s.testBit p = true ∨ ∃ k, k ∈ L ∧ t k = p) := by
  intro L
  induction L with
  | nil => intro s p _; simp
  | cons a L ih =>
    intro s p hp
    rw [List.foldl_cons, ih _ p hp]
    have : (orN t s a).testBit p = true ↔ s.testBit p = true ∨ t a = p := by
      unfold orN
      rw [Nat.testBit_or, Bool.or_eq_true]
      by_cases h : t a < 8
      · rw [if_pos h, Nat.testBit_two_pow]
        simp
      · rw [if_neg h, Nat.zero_testBit]
        constructor
        · rintro (z | z)
          · exact Or.inl z
          · cases z
        · rintro (z | z)
          · exact Or.inl z
          · omega
    rw [this]
    constructor
    · rintro ((z | z) | ⟨k, k1, k2⟩)
      · exact Or.inl z
      · exact Or.inr ⟨a, List.mem_cons_self .., z⟩
      · exact Or.inr ⟨k, List.mem_cons_of_mem _ k1, k2⟩
    · rintro (z | ⟨k, k1, k2⟩)
      · exact Or.inl (Or.inl z)
      · rcases List.mem_cons.mp k1 with rfl | k1
        · exact Or.inl (Or.inr k2)
        · exact Or.inr ⟨k, k1, k2⟩
theorem or_lt {t : Nat → Nat} : ∀ (L : List Nat) (s : Nat), s < 256 → L.foldl (orN t) s < 256 := by
  intro L
  induction L with
  | nil => intro s h; exact h
  | cons a L ih =>
    intro s h
    rw [List.foldl_cons]
    refine ih _ ?_
    unfold orN
    refine Nat.or_lt_two_pow (n := 8) h ?_
    split
    · rename_i h8
      exact Nat.pow_lt_pow_right (by decide) h8
    · decide
theorem b255 : ∀ s, s < 256 → ((∀ p, p < 8 → s.testBit p = true) ↔ s = 255) := by
  intro s hs
  constructor
  · intro h
    apply Nat.eq_of_testBit_eq
    intro i
    by_cases hi : i < 8
    · rw [h i hi]
      rcases (show i = 0 ∨ i = 1 ∨ i = 2 ∨ i = 3 ∨ i = 4 ∨ i = 5 ∨ i = 6 ∨ i = 7 by omega) with rfl | rfl | rfl | rfl | rfl | rfl | rfl | rfl <;> rfl
    · have hp : 2 ^ 8 ≤ 2 ^ i := Nat.pow_le_pow_right (by decide) (by omega)
      rw [Nat.testBit_lt_two_pow (by omega), Nat.testBit_lt_two_pow (by omega)]
  · rintro rfl p hp
    rcases (show p = 0 ∨ p = 1 ∨ p = 2 ∨ p = 3 ∨ p = 4 ∨ p = 5 ∨ p = 6 ∨ p = 7 by omega) with rfl | rfl | rfl | rfl | rfl | rfl | rfl | rfl <;> rfl
def tN (g : SG) (k : Nat) : Nat := (gi (gT g) (nI k)).toNatClampNeg
theorem tN_eq {g : SG} (hg : SGOK g) {k : Nat} (hk : k < gTc g) : gi (gT g) (nI k) = nI (tN g k) ∧ tN g k ≤ 99 := by
  obtain ⟨j, h1, h2⟩ := hg.2.2.1.2.2 k hk
  unfold tN
  rw [h2, nI_clamp (by omega)]
  exact ⟨rfl, h1⟩
def tAll (g : SG) : Bool := decide (gTc g = 8 ∧ (List.range' 0 8).foldl (orN (tN g)) 0 = 255)
theorem tAll_perm {g : SG} (h : tAll g = true) : gTc g = 8 ∧ (∀ p, p < 8 → ∃ k, k < 8 ∧ tN g k = p) := by
  obtain ⟨h1, h2⟩ := of_decide_eq_true h
  refine ⟨h1, fun p hp => ?_⟩
  have hb := (b255 _ (or_lt (t := tN g) (List.range' 0 8) 0 (by decide))).mpr h2 p hp
  rw [or_bit _ _ p hp] at hb
  rcases hb with hb | ⟨k, k1, k2⟩
  · rw [Nat.zero_testBit] at hb; cases hb
  · rw [List.mem_range'_1] at k1
    exact ⟨k, by omega, k2⟩
theorem tAll_of {g : SG} (h1 : gTc g = 8) (h2 : ∀ p, p < 8 → ∃ k, k < 8 ∧ tN g k = p) : tAll g = true := by
  refine decide_eq_true ⟨h1, (b255 _ (or_lt (t := tN g) (List.range' 0 8) 0 (by decide))).mp (fun p hp => ?_)⟩
  rw [or_bit _ _ p hp]
  obtain ⟨k, k1, k2⟩ := h2 p hp
  exact Or.inr ⟨k, by rw [List.mem_range'_1]; omega, k2⟩
section LAY
variable {scr : List Int32} {n : Nat} {M : mm_M} {Q : Option Value → mm_M → Prop} {g : SG}
theorem W196 (hC : MS M g) (hg : SGOK g) : Wp scr (n + 1) 196 [.ref 129] M Q ↔ Q (some (.int (bi (tAll g)))) M := by
  obtain ⟨o, r, hO, h1, hR, hA⟩ := MSu hC
  have hc16 := hg.2.2.1.2.1
  have hTl := hg.2.2.1.1
  have e6 : o.1.2.1 = nI (gTc g) := by rw [h1]
  have key := nf_loop (N := gTc g) (Φ := fun i (s : Nat) => wp scr n mb_196 4 [some (.ref 129), some (.int (nI s)), some (.int (nI i))] [] M Q) (Ψ := fun s => wp scr n mb_196 44 [some (.ref 129), some (.int (nI s)), some (.int (nI (gTc g)))] [] M Q) (step := orN (tN g))
    (fun i s hi => u196_4.trans (by
      have hle : (nI (gTc g) ≤ nI i) ↔ False := iff_false_intro (nI_ge hi (by omega))
      have a8 : mm_at (gT g) (nI i) = some (nI (tN g i)) := (gi_atN (by omega) (by omega)).trans (by rw [← (tN_eq hg hi).1])
      have t99 := (tN_eq hg hi).2
      unfold orN
      by_cases h8 : tN g i < 8
      · have c8 : ((8 : Int32) ≤ nI (tN g i)) ↔ False := nle8 h8
        rw [if_pos h8]
        simp only [e196, u196_0, u196_1, u196_2, u196_3, u196_5, u196_6, u196_9, u196_12, u196_13, u196_14, u196_17, u196_18, u196_19, u196_21, u196_24, u196_25, u196_26, u196_29, u196_30, u196_31, u196_32, u196_35, u196_36, u196_37, u196_38, u196_41, u196_44, u196_45, u196_48, u196_50, u196_53, u196_54, u196_57, u196_60, u196_61, u196_64, u196_65, mw_os, wp_ite, mw_sw, Option.toList_some, Option.toList_none, List.cons_append, List.nil_append, true_and, and_true, if_true, if_false, mw_s_, mw_s_i, mw_s_r, mw_s_ii, mw_s_ir, mw_s_ri, mw_s_rr, mw_s_iii, mw_s_iir, mw_s_iri, mw_s_irr, mw_s_rii, mw_s_rir, mw_s_rri, mw_s_rrr, mw_s_iiii, mw_s_iiir, mw_s_iiri, mw_s_iirr, mw_s_irii, mw_s_irir, mw_s_irri, mw_s_irrr, mw_s_riii, mw_s_riir, mw_s_riri, mw_s_rirr, mw_s_rrii, mw_s_rrir, mw_s_rrri, mw_s_rrrr, mm_sto1, mm_clr, mm_isL, List.getElem?_cons_zero, List.getElem?_cons_succ, List.set_cons_zero, List.set_cons_succ, Bool.false_eq_true, OA_5 hO, OA_6 hO, e6, hle, RA_ld (MT hC), a8, c8, one_sh _ h8, nI_or, nI_1]
      · have c8 : ((8 : Int32) ≤ nI (tN g i)) ↔ True := iff_true_intro (nI_le (a := 8) (by omega) (by omega))
        have z0 : nI s ||| 0 = nI (s ||| 0) := nI_or s 0
        rw [if_neg h8]
        simp only [e196, u196_0, u196_1, u196_2, u196_3, u196_5, u196_6, u196_9, u196_12, u196_13, u196_14, u196_17, u196_18, u196_19, u196_21, u196_24, u196_25, u196_26, u196_29, u196_30, u196_31, u196_32, u196_35, u196_36, u196_37, u196_38, u196_41, u196_44, u196_45, u196_48, u196_50, u196_53, u196_54, u196_57, u196_60, u196_61, u196_64, u196_65, mw_os, wp_ite, mw_sw, Option.toList_some, Option.toList_none, List.cons_append, List.nil_append, true_and, and_true, if_true, if_false, mw_s_, mw_s_i, mw_s_r, mw_s_ii, mw_s_ir, mw_s_ri, mw_s_rr, mw_s_iii, mw_s_iir, mw_s_iri, mw_s_irr, mw_s_rii, mw_s_rir, mw_s_rri, mw_s_rrr, mw_s_iiii, mw_s_iiir, mw_s_iiri, mw_s_iirr, mw_s_irii, mw_s_irir, mw_s_irri, mw_s_irrr, mw_s_riii, mw_s_riir, mw_s_riri, mw_s_rirr, mw_s_rrii, mw_s_rrir, mw_s_rrri, mw_s_rrrr, mm_sto1, mm_clr, mm_isL, List.getElem?_cons_zero, List.getElem?_cons_succ, List.set_cons_zero, List.set_cons_succ, Bool.false_eq_true, OA_5 hO, OA_6 hO, e6, hle, RA_ld (MT hC), a8, c8, z0, nI_1]))
    (fun s => u196_4.trans (by
      have hle : (nI (gTc g) ≤ nI (gTc g)) ↔ True := iff_true_intro (nI_le (Nat.le_refl _) (by omega))
      simp only [u196_5, u196_6, u196_9, mw_os, wp_ite, mw_sw, Option.toList_some, Option.toList_none, List.cons_append, List.nil_append, true_and, and_true, if_true, if_false, mw_s_, mw_s_i, mw_s_r, mw_s_ii, mw_s_ir, mw_s_ri, mw_s_rr, mw_s_iii, mw_s_iir, mw_s_iri, mw_s_irr, mw_s_rii, mw_s_rir, mw_s_rri, mw_s_rrr, mw_s_iiii, mw_s_iiir, mw_s_iiri, mw_s_iirr, mw_s_irii, mw_s_irir, mw_s_irri, mw_s_irrr, mw_s_riii, mw_s_riir, mw_s_riri, mw_s_rirr, mw_s_rrii, mw_s_rrir, mw_s_rrri, mw_s_rrrr, OA_6 hO, e6, hle])) (gTc g) 0 0 (by omega)
  simp only [e196, u196_0, u196_1, u196_2, u196_3, mw_os, wp_ite, mw_sw, Option.toList_some, Option.toList_none, List.cons_append, List.nil_append, true_and, and_true, if_true, if_false, mw_s_, mw_s_i, mw_s_r, mw_s_ii, mw_s_ir, mw_s_ri, mw_s_rr, mw_s_iii, mw_s_iir, mw_s_iri, mw_s_irr, mw_s_rii, mw_s_rir, mw_s_rri, mw_s_rrr, mw_s_iiii, mw_s_iiir, mw_s_iiri, mw_s_iirr, mw_s_irii, mw_s_irir, mw_s_irri, mw_s_irrr, mw_s_riii, mw_s_riir, mw_s_riri, mw_s_rirr, mw_s_rrii, mw_s_rrir, mw_s_rrri, mw_s_rrrr, mm_sto1, mm_clr, mm_isL, List.getElem?_cons_zero, List.getElem?_cons_succ, List.set_cons_zero, List.set_cons_succ, Bool.false_eq_true]
  refine Iff.trans key ?_
  have hlt := or_lt (t := tN g) (List.range' 0 (gTc g)) 0 (by decide)
  unfold tAll
  by_cases h8 : gTc g = 8
  · have c1 : (nI (gTc g) = 8) ↔ True := by rw [h8]; exact iff_true_intro rfl
    rw [h8] at hlt ⊢
    by_cases h5 : (List.range' 0 8).foldl (orN (tN g)) 0 = 255
    · have c2 : (nI ((List.range' 0 8).foldl (orN (tN g)) 0) = 255) ↔ True := by rw [h5]; exact iff_true_intro rfl
      simp only [e196, u196_0, u196_1, u196_2, u196_3, u196_5, u196_6, u196_9, u196_12, u196_13, u196_14, u196_17, u196_18, u196_19, u196_21, u196_24, u196_25, u196_26, u196_29, u196_30, u196_31, u196_32, u196_35, u196_36, u196_37, u196_38, u196_41, u196_44, u196_45, u196_48, u196_50, u196_53, u196_54, u196_57, u196_60, u196_61, u196_64, u196_65, mw_os, wp_ite, mw_sw, Option.toList_some, Option.toList_none, List.cons_append, List.nil_append, true_and, and_true, if_true, if_false, mw_s_, mw_s_i, mw_s_r, mw_s_ii, mw_s_ir, mw_s_ri, mw_s_rr, mw_s_iii, mw_s_iir, mw_s_iri, mw_s_irr, mw_s_rii, mw_s_rir, mw_s_rri, mw_s_rrr, mw_s_iiii, mw_s_iiir, mw_s_iiri, mw_s_iirr, mw_s_irii, mw_s_irir, mw_s_irri, mw_s_irrr, mw_s_riii, mw_s_riir, mw_s_riri, mw_s_rirr, mw_s_rrii, mw_s_rrir, mw_s_rrri, mw_s_rrrr, OA_6 hO, e6, c1, c2, not_true]
      simp [h5, bi]
    · have c2 : (nI ((List.range' 0 8).foldl (orN (tN g)) 0) = 255) ↔ False := iff_false_intro (fun z => h5 ((nI_eq (b := 255) (by omega) (by decide)).mp z))
      simp only [e196, u196_0, u196_1, u196_2, u196_3, u196_5, u196_6, u196_9, u196_12, u196_13, u196_14, u196_17, u196_18, u196_19, u196_21, u196_24, u196_25, u196_26, u196_29, u196_30, u196_31, u196_32, u196_35, u196_36, u196_37, u196_38, u196_41, u196_44, u196_45, u196_48, u196_50, u196_53, u196_54, u196_57, u196_60, u196_61, u196_64, u196_65, mw_os, wp_ite, mw_sw, Option.toList_some, Option.toList_none, List.cons_append, List.nil_append, true_and, and_true, if_true, if_false, mw_s_, mw_s_i, mw_s_r, mw_s_ii, mw_s_ir, mw_s_ri, mw_s_rr, mw_s_iii, mw_s_iir, mw_s_iri, mw_s_irr, mw_s_rii, mw_s_rir, mw_s_rri, mw_s_rrr, mw_s_iiii, mw_s_iiir, mw_s_iiri, mw_s_iirr, mw_s_irii, mw_s_irir, mw_s_irri, mw_s_irrr, mw_s_riii, mw_s_riir, mw_s_riri, mw_s_rirr, mw_s_rrii, mw_s_rrir, mw_s_rrri, mw_s_rrrr, OA_6 hO, e6, c1, c2, not_true, not_false_eq_true]
      simp [h5, bi]
  · have c1 : (nI (gTc g) = 8) ↔ False := iff_false_intro (fun z => h8 ((nI_eq (b := 8) (by omega) (by decide)).mp z))
    simp only [e196, u196_0, u196_1, u196_2, u196_3, u196_5, u196_6, u196_9, u196_12, u196_13, u196_14, u196_17, u196_18, u196_19, u196_21, u196_24, u196_25, u196_26, u196_29, u196_30, u196_31, u196_32, u196_35, u196_36, u196_37, u196_38, u196_41, u196_44, u196_45, u196_48, u196_50, u196_53, u196_54, u196_57, u196_60, u196_61, u196_64, u196_65, mw_os, wp_ite, mw_sw, Option.toList_some, Option.toList_none, List.cons_append, List.nil_append, true_and, and_true, if_true, if_false, mw_s_, mw_s_i, mw_s_r, mw_s_ii, mw_s_ir, mw_s_ri, mw_s_rr, mw_s_iii, mw_s_iir, mw_s_iri, mw_s_irr, mw_s_rii, mw_s_rir, mw_s_rri, mw_s_rrr, mw_s_iiii, mw_s_iiir, mw_s_iiri, mw_s_iirr, mw_s_irii, mw_s_irir, mw_s_irri, mw_s_irrr, mw_s_riii, mw_s_riir, mw_s_riri, mw_s_rirr, mw_s_rrii, mw_s_rrir, mw_s_rrri, mw_s_rrrr, OA_6 hO, e6, c1, not_false_eq_true]
    simp [h8, bi]
theorem W111 (hC : CS M g) (hg : SGOK g) : Wp scr (n + 2) 111 [.ref 0] M Q ↔ Q (some (.int (bi (tAll g)))) M := by
  have hc16 := hg.2.2.1.2.1
  have hTl := hg.2.2.1.1
  by_cases h8 : gTc g = 8
  · have c1 : (nI (gTc g) = 8) ↔ True := by rw [h8]; exact iff_true_intro rfl
    obtain ⟨aB, haB⟩ : ∃ aB : Bool, aB = true ↔ ∀ j, j < 8 → tN g j < 8 := ⟨(List.range 8).all (fun j => decide (tN g j < 8)), by
      rw [List.all_eq_true]
      exact ⟨fun h j hj => of_decide_eq_true (h j (List.mem_range.mpr hj)), fun h j hj => decide_eq_true (h j (List.mem_range.mp hj))⟩⟩
    have key : ∀ (k i s : Nat), i + k = 8 → s < 256 → (∀ j, j < i → tN g j < 8) → (wp scr (n + 1) mb_111 15 [some (.ref 0), some (.int (nI s)), some (.int (nI i))] [] M Q ↔ Q (some (.int (bi (aB && decide ((List.range' i k).foldl (orN (tN g)) s = 255))))) M) := by
      intro k
      induction k with
      | zero =>
        intro i s hi hs hj
        have : i = 8 := by omega
        subst this
        refine u111_15.trans ?_
        show _ ↔ Q (some (.int (bi (aB && decide (s = 255))))) M
        by_cases h5 : s = 255
        · have c2 : (nI s = 255) ↔ True := by rw [h5]; exact iff_true_intro rfl
          simp only [u111_16, u111_18, u111_54, u111_55, u111_58, u111_61, u111_62, u111_66, mw_os, wp_ite, mw_sw, Option.toList_some, Option.toList_none, List.cons_append, List.nil_append, true_and, and_true, if_true, if_false, mw_s_, mw_s_i, mw_s_r, mw_s_ii, mw_s_ir, mw_s_ri, mw_s_rr, mw_s_iii, mw_s_iir, mw_s_iri, mw_s_irr, mw_s_rii, mw_s_rir, mw_s_rri, mw_s_rrr, mw_s_iiii, mw_s_iiir, mw_s_iiri, mw_s_iirr, mw_s_irii, mw_s_irir, mw_s_irri, mw_s_irrr, mw_s_riii, mw_s_riir, mw_s_riri, mw_s_rirr, mw_s_rrii, mw_s_rrir, mw_s_rrri, mw_s_rrrr, nle8e, c2, not_true]
          rw [decide_eq_true h5, haB.mpr hj]
          simp [bi]
        · have c2 : (nI s = 255) ↔ False := iff_false_intro (fun z => h5 ((nI_eq (b := 255) (by omega) (by decide)).mp z))
          simp only [u111_16, u111_18, u111_54, u111_55, u111_58, u111_65, u111_66, mw_os, wp_ite, mw_sw, Option.toList_some, Option.toList_none, List.cons_append, List.nil_append, true_and, and_true, if_true, if_false, mw_s_, mw_s_i, mw_s_r, mw_s_ii, mw_s_ir, mw_s_ri, mw_s_rr, mw_s_iii, mw_s_iir, mw_s_iri, mw_s_irr, mw_s_rii, mw_s_rir, mw_s_rri, mw_s_rrr, mw_s_iiii, mw_s_iiir, mw_s_iiri, mw_s_iirr, mw_s_irii, mw_s_irir, mw_s_irri, mw_s_irrr, mw_s_riii, mw_s_riir, mw_s_riri, mw_s_rirr, mw_s_rrii, mw_s_rrir, mw_s_rrri, mw_s_rrrr, nle8e, c2, not_false_eq_true]
          rw [decide_eq_false h5, Bool.and_false]
          simp [bi]
      | succ k ih =>
        intro i s hi hs hj
        have a8 : mm_at (gT g) (nI i) = some (nI (tN g i)) := (gi_atN (by omega) (by omega)).trans (by rw [← (tN_eq hg (by omega)).1])
        have t99 := (tN_eq hg (k := i) (by omega)).2
        refine u111_15.trans ?_
        rw [show List.range' i (k + 1) = i :: List.range' (i + 1) k from rfl, List.foldl_cons]
        by_cases h8 : tN g i < 8
        · have b1 : decide ((0 : Int32) ≤ nI (tN g i) ∧ nI (tN g i) < 8) = true := ib_t h8 (by decide)
          have es : orN (tN g) s i = s ||| 2 ^ tN g i := by unfold orN; rw [if_pos h8]
          simp only [u111_16, u111_18, u111_21, u111_22, u111_25, u111_26, u111_27, u111_29, u111_32, u111_37, u111_38, u111_39, u111_40, u111_43, u111_44, u111_45, u111_46, u111_47, u111_48, u111_51, mw_os, wp_ite, mw_sw, Option.toList_some, Option.toList_none, List.cons_append, List.nil_append, true_and, and_true, if_true, if_false, mw_s_, mw_s_i, mw_s_r, mw_s_ii, mw_s_ir, mw_s_ri, mw_s_rr, mw_s_iii, mw_s_iir, mw_s_iri, mw_s_irr, mw_s_rii, mw_s_rir, mw_s_rri, mw_s_rrr, mw_s_iiii, mw_s_iiir, mw_s_iiri, mw_s_iirr, mw_s_irii, mw_s_irir, mw_s_irri, mw_s_irrr, mw_s_riii, mw_s_riir, mw_s_riri, mw_s_rirr, mw_s_rrii, mw_s_rrir, mw_s_rrri, mw_s_rrrr, mm_sto1, mm_clr, mm_isL, List.getElem?_cons_zero, List.getElem?_cons_succ, List.set_cons_zero, List.set_cons_succ, Bool.false_eq_true, nle8 (show i < 8 by omega), CS_6 hC, RA_ld (CT hC), a8, W89, b1, bi_eq0, reduceCtorEq, not_false_eq_true, one_sh _ h8, nI_or, nI_1]
          rw [es]
          exact ih (i + 1) _ (by omega) (Nat.or_lt_two_pow (n := 8) hs (Nat.pow_lt_pow_right (by decide) h8)) (fun j hj' => by
            by_cases he : j = i
            · rw [he]; exact h8
            · exact hj j (by omega))
        · have b1 : decide ((0 : Int32) ≤ nI (tN g i) ∧ nI (tN g i) < 8) = false := decide_eq_false (fun z => h8 ((nI_ltI (b := 8) (by omega) (by decide)).mp z.2))
          simp only [u111_16, u111_18, u111_21, u111_22, u111_25, u111_26, u111_27, u111_29, u111_32, u111_35, u111_36, mw_os, wp_ite, mw_sw, Option.toList_some, Option.toList_none, List.cons_append, List.nil_append, true_and, and_true, if_true, if_false, mw_s_, mw_s_i, mw_s_r, mw_s_ii, mw_s_ir, mw_s_ri, mw_s_rr, mw_s_iii, mw_s_iir, mw_s_iri, mw_s_irr, mw_s_rii, mw_s_rir, mw_s_rri, mw_s_rrr, mw_s_iiii, mw_s_iiir, mw_s_iiri, mw_s_iirr, mw_s_irii, mw_s_irir, mw_s_irri, mw_s_irrr, mw_s_riii, mw_s_riir, mw_s_riri, mw_s_rirr, mw_s_rrii, mw_s_rrir, mw_s_rrri, mw_s_rrrr, mm_sto1, mm_clr, mm_isL, List.getElem?_cons_zero, List.getElem?_cons_succ, List.set_cons_zero, List.set_cons_succ, Bool.false_eq_true, nle8 (show i < 8 by omega), CS_6 hC, RA_ld (CT hC), a8, W89, b1, bi_eq0, not_true]
          rw [show aB = false by rw [← Bool.not_eq_true]; exact fun z => h8 (haB.mp z i (by omega)), Bool.false_and]
          simp [bi]
    simp only [e111, u111_0, u111_1, u111_4, u111_6, u111_11, u111_12, u111_13, u111_14, mw_os, wp_ite, mw_sw, Option.toList_some, Option.toList_none, List.cons_append, List.nil_append, true_and, and_true, if_true, if_false, mw_s_, mw_s_i, mw_s_r, mw_s_ii, mw_s_ir, mw_s_ri, mw_s_rr, mw_s_iii, mw_s_iir, mw_s_iri, mw_s_irr, mw_s_rii, mw_s_rir, mw_s_rri, mw_s_rrr, mw_s_iiii, mw_s_iiir, mw_s_iiri, mw_s_iirr, mw_s_irii, mw_s_irir, mw_s_irri, mw_s_irrr, mw_s_riii, mw_s_riir, mw_s_riri, mw_s_rirr, mw_s_rrii, mw_s_rrir, mw_s_rrri, mw_s_rrrr, mm_sto1, mm_clr, mm_isL, List.getElem?_cons_zero, List.getElem?_cons_succ, List.set_cons_zero, List.set_cons_succ, Bool.false_eq_true, CS_8 hC, c1]
    refine Iff.trans (key 8 0 0 rfl (by decide) (fun j hj => by omega)) ?_
    have : (aB && decide ((List.range' 0 8).foldl (orN (tN g)) 0 = 255)) = tAll g := by
      rw [Bool.eq_iff_iff, Bool.and_eq_true, decide_eq_true_eq]
      constructor
      · rintro ⟨_, z⟩; exact decide_eq_true ⟨h8, z⟩
      · intro z
        exact ⟨haB.mpr (eight_inj (tAll_perm z).2).1, (of_decide_eq_true z).2⟩
    rw [this]
  · have c1 : (nI (gTc g) = 8) ↔ False := iff_false_intro (fun z => h8 ((nI_eq (b := 8) (by omega) (by decide)).mp z))
    have : tAll g = false := decide_eq_false (fun z => h8 z.1)
    simp only [e111, u111_0, u111_1, u111_4, u111_6, u111_9, u111_10, mw_os, wp_ite, mw_sw, Option.toList_some, Option.toList_none, List.cons_append, List.nil_append, true_and, and_true, if_true, if_false, mw_s_, mw_s_i, mw_s_r, mw_s_ii, mw_s_ir, mw_s_ri, mw_s_rr, mw_s_iii, mw_s_iir, mw_s_iri, mw_s_irr, mw_s_rii, mw_s_rir, mw_s_rri, mw_s_rrr, mw_s_iiii, mw_s_iiir, mw_s_iiri, mw_s_iirr, mw_s_irii, mw_s_irir, mw_s_irri, mw_s_irrr, mw_s_riii, mw_s_riir, mw_s_riri, mw_s_rirr, mw_s_rrii, mw_s_rrir, mw_s_rrri, mw_s_rrrr, mm_sto1, mm_clr, mm_isL, List.getElem?_cons_zero, List.getElem?_cons_succ, List.set_cons_zero, List.set_cons_succ, Bool.false_eq_true, CS_8 hC, c1, this]
    simp [bi]
end LAY
