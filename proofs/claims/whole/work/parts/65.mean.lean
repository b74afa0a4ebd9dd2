/-! long answers -/
theorem mw_l {z : Int64} : mw_st [.long z] ↔ True := iff_true_intro (Nat.le_of_ble_eq_true rfl)
theorem mw_il {x : Int32} {z : Int64} : mw_st [.int x, .long z] ↔ True := iff_true_intro (Nat.le_of_ble_eq_true rfl)
theorem mw_li {x : Int32} {z : Int64} : mw_st [.long z, .int x] ↔ True := iff_true_intro (Nat.le_of_ble_eq_true rfl)
theorem mw_ll {y z : Int64} : mw_st [.long z, .long y] ↔ True := iff_true_intro (Nat.le_of_ble_eq_true rfl)
theorem lg0 (x : Int64) : lg_cmp x 0 = 0 ↔ x = 0 := by
  have h := lgc x 0
  constructor
  · intro z
    rw [z] at h
    have h1 : ¬ x < 0 := fun q => absurd (h.1.mpr q) (by decide)
    have h2 : ¬ 0 < x := fun q => absurd (h.2.mpr q) (by decide)
    exact Int64.le_antisymm (Int64.not_lt.mp h2) (Int64.not_lt.mp h1)
  · rintro rfl
    decide
def lrV (k : Nat) : Value := .long (4000000000000000000 - (-nI k).toInt64)
def frV (A B : Nat) (p : Int32) : Value := .long (lN (if p = 0 then A / Nat.gcd A B else B / Nat.gcd A B))
section LO
variable {scr : List Int32} {n : Nat} {M M0 : mm_M} {Q : Option Value → mm_M → Prop} {g : SG} {k A B : Nat} {p : Int32}
theorem C120 (hC : CS M g) (hg : SGOK g) (h1 : 1 ≤ k) (h6 : k ≤ 6) (hQ : CPost M (gRf g k) (lrV k) Q) : Wp scr (n + 2) 120 [.ref 0, .int (-nI k)] M Q := by
  simp only [u120_0, u120_3, u120_4, u120_5, e120, mw_os, wp_ite, mw_sw, Option.toList_some, Option.toList_none, List.cons_append, List.nil_append, true_and, and_true, if_true, if_false, mw_s_, mw_s_i, mw_s_r, mw_s_ii, mw_s_ir, mw_s_ri, mw_s_rr, mw_s_iii, mw_s_iir, mw_s_iri, mw_s_irr, mw_s_rii, mw_s_rir, mw_s_rri, mw_s_rrr, mw_s_iiii, mw_s_iiir, mw_s_iiri, mw_s_iirr, mw_s_irii, mw_s_irir, mw_s_irri, mw_s_irrr, mw_s_riii, mw_s_riir, mw_s_riri, mw_s_rirr, mw_s_rrii, mw_s_rrir, mw_s_rrri, mw_s_rrrr, mm_sto1, mm_clr, mm_isL, List.getElem?_cons_zero, List.getElem?_cons_succ, List.set_cons_zero, List.set_cons_succ, Bool.false_eq_true, mw_l, CS_x hC]
  refine CW84 hC hg h1 h6 (fun M' hl ha hc => ?_)
  simp only [u120_8, u120_9, u120_10, mw_os, wp_ite, mw_sw, Option.toList_some, Option.toList_none, List.cons_append, List.nil_append, true_and, and_true, if_true, if_false, mw_s_, mw_s_i, mw_s_r, mw_s_ii, mw_s_ir, mw_s_ri, mw_s_rr, mw_s_iii, mw_s_iir, mw_s_iri, mw_s_irr, mw_s_rii, mw_s_rir, mw_s_rri, mw_s_rrr, mw_s_iiii, mw_s_iiir, mw_s_iiri, mw_s_iirr, mw_s_irii, mw_s_irir, mw_s_irri, mw_s_irrr, mw_s_riii, mw_s_riir, mw_s_riri, mw_s_rirr, mw_s_rrii, mw_s_rrir, mw_s_rrri, mw_s_rrrr]
  exact hQ M' hl ha hc
theorem M207 (hC : MS M g) (hg : SGOK g) (h1 : 1 ≤ k) (h6 : k ≤ 6) (hQ : MPost M (gRf g k) (lrV k) Q) : Wp scr (n + 2) 207 [.ref 129, .int (-nI k)] M Q := by
  obtain ⟨o, r, hO, _, hR, hA⟩ := MSu hC
  simp only [u207_0, u207_3, u207_4, u207_5, e207, mw_os, wp_ite, mw_sw, Option.toList_some, Option.toList_none, List.cons_append, List.nil_append, true_and, and_true, if_true, if_false, mw_s_, mw_s_i, mw_s_r, mw_s_ii, mw_s_ir, mw_s_ri, mw_s_rr, mw_s_iii, mw_s_iir, mw_s_iri, mw_s_irr, mw_s_rii, mw_s_rir, mw_s_rri, mw_s_rrr, mw_s_iiii, mw_s_iiir, mw_s_iiri, mw_s_iirr, mw_s_irii, mw_s_irir, mw_s_irri, mw_s_irrr, mw_s_riii, mw_s_riir, mw_s_riri, mw_s_rirr, mw_s_rrii, mw_s_rrir, mw_s_rrri, mw_s_rrrr, mm_sto1, mm_clr, mm_isL, List.getElem?_cons_zero, List.getElem?_cons_succ, List.set_cons_zero, List.set_cons_succ, Bool.false_eq_true, mw_l, OA_x hO]
  refine MW141 hC hg h1 h6 (fun M' hl ha hc => ?_)
  simp only [u207_8, u207_9, u207_10, mw_os, wp_ite, mw_sw, Option.toList_some, Option.toList_none, List.cons_append, List.nil_append, true_and, and_true, if_true, if_false, mw_s_, mw_s_i, mw_s_r, mw_s_ii, mw_s_ir, mw_s_ri, mw_s_rr, mw_s_iii, mw_s_iir, mw_s_iri, mw_s_irr, mw_s_rii, mw_s_rir, mw_s_rri, mw_s_rrr, mw_s_iiii, mw_s_iiir, mw_s_iiri, mw_s_iirr, mw_s_irii, mw_s_irir, mw_s_irri, mw_s_irrr, mw_s_riii, mw_s_riir, mw_s_riri, mw_s_rirr, mw_s_rrii, mw_s_rrir, mw_s_rrri, mw_s_rrrr]
  exact hQ M' hl ha hc
theorem gcd_st (a b : Nat) : Nat.gcd b (a % b) = Nat.gcd a b := by
  rw [Nat.gcd_comm a b, Nat.gcd_rec b a, Nat.gcd_comm]
theorem lN0 {b : Nat} (h : b < 2 ^ 62) : (lN b = 0) ↔ b = 0 := pk_lEQ (b := 0) (by omega) (by decide)
theorem M209l : ∀ (k b a : Nat), b < k → a < 2 ^ 62 → b < 2 ^ 62 → (∀ l9 l10, wp scr n mb_209 31 [some (.long (lN A)), none, some (.long (lN B)), none, some (.int p), some (.long (lN (Nat.gcd a b))), none, some (.long 0), none, l9, l10] [] M Q) → ∀ l9 l10, mm_isL (some l10) = false → wp scr n mb_209 6 [some (.long (lN A)), none, some (.long (lN B)), none, some (.int p), some (.long (lN a)), none, some (.long (lN b)), none, l9, l10] [] M Q := by
  intro k
  induction k with
  | zero => intro b a h; omega
  | succ k ih =>
    intro b a hb ha2 hb2 hq l9 l10 hl
    refine u209_6.mpr ?_
    by_cases h0 : b = 0
    · subst h0
      have c0 : (lg_cmp (lN 0) 0 = 0) ↔ True := iff_true_intro ((lg0 _).mpr rfl)
      simp only [u209_8, u209_9, u209_10, mw_os, wp_ite, mw_sw, Option.toList_some, Option.toList_none, List.cons_append, List.nil_append, true_and, and_true, if_true, if_false, mw_s_, mw_s_i, mw_s_r, mw_s_ii, mw_s_ir, mw_s_ri, mw_s_rr, mw_s_iii, mw_s_iir, mw_s_iri, mw_s_irr, mw_s_rii, mw_s_rir, mw_s_rri, mw_s_rrr, mw_s_iiii, mw_s_iiir, mw_s_iiri, mw_s_iirr, mw_s_irii, mw_s_irir, mw_s_irri, mw_s_irrr, mw_s_riii, mw_s_riir, mw_s_riri, mw_s_rirr, mw_s_rrii, mw_s_rrir, mw_s_rrri, mw_s_rrrr, c0]
      have := hq l9 l10
      rw [Nat.gcd_zero_right] at this
      exact this
    · have c0 : (lg_cmp (lN b) 0 = 0) ↔ False := iff_false_intro (fun z => h0 ((lN0 hb2).mp ((lg0 _).mp z)))
      have c1 : (lN b = 0) ↔ False := iff_false_intro (fun z => h0 ((lN0 hb2).mp z))
      have hm : a % b < b := Nat.mod_lt _ (by omega)
      have rm := pk_lRem (a := a) (b := b) (by omega) (by omega) (by omega)
      have hlf : mm_isL (some (none : Option Value)) = false := rfl
      have hll : ∀ z : Int64, mm_isL (some (some (Value.long z))) = true := fun _ => rfl
      have hli : ∀ x : Int32, mm_isL (some (some (Value.int x))) = false := fun _ => rfl
      simp only [u209_8, u209_9, u209_10, u209_13, u209_15, u209_17, u209_18, u209_20, u209_22, u209_24, u209_26, u209_28, mw_os, wp_ite, mw_sw, Option.toList_some, Option.toList_none, List.cons_append, List.nil_append, true_and, and_true, if_true, if_false, mw_s_, mw_s_i, mw_s_r, mw_s_ii, mw_s_ir, mw_s_ri, mw_s_rr, mw_s_iii, mw_s_iir, mw_s_iri, mw_s_irr, mw_s_rii, mw_s_rir, mw_s_rri, mw_s_rrr, mw_s_iiii, mw_s_iiir, mw_s_iiri, mw_s_iirr, mw_s_irii, mw_s_irir, mw_s_irri, mw_s_irrr, mw_s_riii, mw_s_riir, mw_s_riri, mw_s_rirr, mw_s_rrii, mw_s_rrir, mw_s_rrri, mw_s_rrrr, c0, c1, rm, mm_sto2, mm_clr, List.getElem?_cons_zero, List.getElem?_cons_succ, List.set_cons_zero, List.set_cons_succ, hlf, hll, hli, Bool.false_eq_true]
      refine ih (a % b) b (by omega) hb2 (by omega) ?_ _ _ rfl
      rw [gcd_st]
      exact hq
theorem M209 (hA : A < 2 ^ 62) (hB : B < 2 ^ 62) (h0 : 0 < B) (hQ : Q (some (frV A B p)) M) : Wp scr (n + 1) 209 [.long (lN A), .long (lN B), .int p] M Q := by
  have hlf : mm_isL (some (none : Option Value)) = false := rfl
  have hll : ∀ z : Int64, mm_isL (some (some (Value.long z))) = true := fun _ => rfl
  have hli : ∀ x : Int32, mm_isL (some (some (Value.int x))) = false := fun _ => rfl
  have hg0 : 0 < Nat.gcd A B := Nat.gcd_pos_of_pos_right _ h0
  have hgl : Nat.gcd A B ≤ B := Nat.gcd_le_right _ h0
  have c1 : (lN (Nat.gcd A B) = 0) ↔ False := iff_false_intro (fun z => by have := (lN0 (by omega)).mp z; omega)
  simp only [u209_0, u209_1, u209_3, u209_4, e209, mw_os, wp_ite, mw_sw, Option.toList_some, Option.toList_none, List.cons_append, List.nil_append, true_and, and_true, if_true, if_false, mw_s_, mw_s_i, mw_s_r, mw_s_ii, mw_s_ir, mw_s_ri, mw_s_rr, mw_s_iii, mw_s_iir, mw_s_iri, mw_s_irr, mw_s_rii, mw_s_rir, mw_s_rri, mw_s_rrr, mw_s_iiii, mw_s_iiir, mw_s_iiri, mw_s_iirr, mw_s_irii, mw_s_irir, mw_s_irri, mw_s_irrr, mw_s_riii, mw_s_riir, mw_s_riri, mw_s_rirr, mw_s_rrii, mw_s_rrir, mw_s_rrri, mw_s_rrrr, mm_sto2, mm_clr, List.getElem?_cons_zero, List.getElem?_cons_succ, List.set_cons_zero, List.set_cons_succ, hlf, hll, hli, Bool.false_eq_true]
  refine M209l (B + 1) B A (by omega) hA hB (fun l9 l10 => ?_) none none rfl
  have dA := pk_lDiv (a := A) (b := Nat.gcd A B) (by omega) hg0 (by omega)
  have dB := pk_lDiv (a := B) (b := Nat.gcd A B) (by omega) hg0 (by omega)
  simp only [u209_31, u209_33, u209_36, u209_37, u209_40, u209_41, u209_43, u209_44, mw_os, wp_ite, mw_sw, Option.toList_some, Option.toList_none, List.cons_append, List.nil_append, true_and, and_true, if_true, if_false, mw_s_, mw_s_i, mw_s_r, mw_s_ii, mw_s_ir, mw_s_ri, mw_s_rr, mw_s_iii, mw_s_iir, mw_s_iri, mw_s_irr, mw_s_rii, mw_s_rir, mw_s_rri, mw_s_rrr, mw_s_iiii, mw_s_iiir, mw_s_iiri, mw_s_iirr, mw_s_irii, mw_s_irir, mw_s_irri, mw_s_irrr, mw_s_riii, mw_s_riir, mw_s_riri, mw_s_rirr, mw_s_rrii, mw_s_rrir, mw_s_rrri, mw_s_rrrr, c1, dA, dB]
  unfold frV at hQ
  by_cases hp : p = 0
  · rw [if_pos hp] at hQ
    rw [if_pos hp]
    exact hQ
  · rw [if_neg hp] at hQ
    rw [if_neg hp]
    exact hQ
theorem C124s {i a b : Nat} (hi : i < 100) (h0 : b ≠ 0) (ha2 : a < 2 ^ 62) (hb2 : b < 2 ^ 62) {l11 : Option Value} : ∀ l10, (∀ l10' , wp scr n mb_124 9 [some (.long (lN A)), none, some (.long (lN B)), none, some (.int p), some (.long (lN b)), none, some (.long (lN (a % b))), none, some (.int (nI (i + 1))), l10', none] [] M Q) → wp scr n mb_124 9 [some (.long (lN A)), none, some (.long (lN B)), none, some (.int p), some (.long (lN a)), none, some (.long (lN b)), none, some (.int (nI i)), l10, l11] [] M Q := by
  intro l10 hq
  have c0 : (lg_cmp (lN b) 0 = 0) ↔ False := iff_false_intro (fun z => h0 ((lN0 hb2).mp ((lg0 _).mp z)))
  have c1 : (lN b = 0) ↔ False := iff_false_intro (fun z => h0 ((lN0 hb2).mp z))
  have c100 : ((100 : Int32) ≤ nI i) ↔ False := iff_false_intro (nI_ge (b := 100) hi (by decide))
  have rm := pk_lRem (a := a) (b := b) (by omega) (by omega) (by omega)
  have hlf : mm_isL (some (none : Option Value)) = false := rfl
  have hll : ∀ z : Int64, mm_isL (some (some (Value.long z))) = true := fun _ => rfl
  have hli : ∀ x : Int32, mm_isL (some (some (Value.int x))) = false := fun _ => rfl
  refine u124_9.mpr ?_
  simp only [u124_11, u124_13, u124_16, u124_18, u124_19, u124_20, u124_23, u124_25, u124_27, u124_28, u124_30, u124_32, u124_34, u124_36, u124_38, u124_41, mw_os, wp_ite, mw_sw, Option.toList_some, Option.toList_none, List.cons_append, List.nil_append, true_and, and_true, if_true, if_false, mw_s_, mw_s_i, mw_s_r, mw_s_ii, mw_s_ir, mw_s_ri, mw_s_rr, mw_s_iii, mw_s_iir, mw_s_iri, mw_s_irr, mw_s_rii, mw_s_rir, mw_s_rri, mw_s_rrr, mw_s_iiii, mw_s_iiir, mw_s_iiri, mw_s_iirr, mw_s_irii, mw_s_irir, mw_s_irri, mw_s_irrr, mw_s_riii, mw_s_riir, mw_s_riri, mw_s_rirr, mw_s_rrii, mw_s_rrir, mw_s_rrri, mw_s_rrrr, c100, c0, c1, rm, nI_1, mm_sto2, mm_sto1, mm_clr, List.getElem?_cons_zero, List.getElem?_cons_succ, List.set_cons_zero, List.set_cons_succ, hlf, hll, hli, Bool.false_eq_true]
  exact hq _
theorem C124l : ∀ (k i a b : Nat), b < 2 ^ k → i + 2 * k + 1 ≤ 100 → a < 2 ^ 62 → b < 2 ^ 62 → (∀ l9 l10 l11, wp scr n mb_124 44 [some (.long (lN A)), none, some (.long (lN B)), none, some (.int p), some (.long (lN (Nat.gcd a b))), none, some (.long 0), none, l9, l10, l11] [] M Q) → ∀ l10 l11, wp scr n mb_124 9 [some (.long (lN A)), none, some (.long (lN B)), none, some (.int p), some (.long (lN a)), none, some (.long (lN b)), none, some (.int (nI i)), l10, l11] [] M Q := by
  have ex : ∀ (i a : Nat), i < 100 → (∀ l9 l10 l11, wp scr n mb_124 44 [some (.long (lN A)), none, some (.long (lN B)), none, some (.int p), some (.long (lN (Nat.gcd a 0))), none, some (.long 0), none, l9, l10, l11] [] M Q) → ∀ l10 l11, wp scr n mb_124 9 [some (.long (lN A)), none, some (.long (lN B)), none, some (.int p), some (.long (lN a)), none, some (.long (lN 0)), none, some (.int (nI i)), l10, l11] [] M Q := by
    intro i a hi hq l10 l11
    have c0 : (lg_cmp (lN 0) 0 = 0) ↔ True := iff_true_intro ((lg0 _).mpr rfl)
    have c100 : ((100 : Int32) ≤ nI i) ↔ False := iff_false_intro (nI_ge (b := 100) hi (by decide))
    refine u124_9.mpr ?_
    simp only [u124_11, u124_13, u124_16, u124_18, u124_19, u124_20, mw_os, wp_ite, mw_sw, Option.toList_some, Option.toList_none, List.cons_append, List.nil_append, true_and, and_true, if_true, if_false, mw_s_, mw_s_i, mw_s_r, mw_s_ii, mw_s_ir, mw_s_ri, mw_s_rr, mw_s_iii, mw_s_iir, mw_s_iri, mw_s_irr, mw_s_rii, mw_s_rir, mw_s_rri, mw_s_rrr, mw_s_iiii, mw_s_iiir, mw_s_iiri, mw_s_iirr, mw_s_irii, mw_s_irir, mw_s_irri, mw_s_irrr, mw_s_riii, mw_s_riir, mw_s_riri, mw_s_rirr, mw_s_rrii, mw_s_rrir, mw_s_rrri, mw_s_rrrr, c100, c0]
    have := hq (some (.int (nI i))) l10 l11
    rw [Nat.gcd_zero_right] at this
    exact this
  intro k
  induction k with
  | zero =>
    intro i a b hb hi ha2 hb2 hq l10 l11
    have : b = 0 := by omega
    subst this
    exact ex i a (by omega) hq l10 l11
  | succ k ih =>
    intro i a b hb hi ha2 hb2 hq l10 l11
    by_cases h0 : b = 0
    · subst h0
      exact ex i a (by omega) hq l10 l11
    · refine C124s (by omega) h0 ha2 hb2 l10 (fun l10' => ?_)
      have hm : a % b < b := Nat.mod_lt _ (by omega)
      have hq1 : ∀ l9 l10 l11, wp scr n mb_124 44 [some (.long (lN A)), none, some (.long (lN B)), none, some (.int p), some (.long (lN (Nat.gcd b (a % b)))), none, some (.long 0), none, l9, l10, l11] [] M Q := by rw [gcd_st]; exact hq
      by_cases h1 : a % b = 0
      · rw [h1] at hq1 ⊢
        exact ex (i + 1) b (by omega) hq1 _ _
      · refine C124s (by omega) h1 hb2 (by omega) l10' (fun l10'' => ?_)
        have hm2 : b % (a % b) < a % b := Nat.mod_lt _ (by omega)
        have hm3 : b % (a % b) + a % b ≤ b := by
          have := Nat.div_add_mod b (a % b)
          have hd : 1 ≤ b / (a % b) := Nat.div_pos (by omega) (by omega)
          have : (a % b) * 1 ≤ (a % b) * (b / (a % b)) := Nat.mul_le_mul_left _ hd
          omega
        refine ih (i + 1 + 1) _ _ (by rw [Nat.pow_succ] at hb; omega) (by omega) (by omega) (by omega) ?_ _ _
        rw [gcd_st]
        exact hq1
theorem C124 (hA : A < 2 ^ 40) (hB : B < 2 ^ 40) (h0 : 0 < B) (hQ : Q (some (frV A B p)) M) : Wp scr (n + 1) 124 [.long (lN A), .long (lN B), .int p] M Q := by
  have hlf : mm_isL (some (none : Option Value)) = false := rfl
  have hll : ∀ z : Int64, mm_isL (some (some (Value.long z))) = true := fun _ => rfl
  have hli : ∀ x : Int32, mm_isL (some (some (Value.int x))) = false := fun _ => rfl
  have hg0 : 0 < Nat.gcd A B := Nat.gcd_pos_of_pos_right _ h0
  have hgl : Nat.gcd A B ≤ B := Nat.gcd_le_right _ h0
  have c1 : (lN (Nat.gcd A B) = 0) ↔ False := iff_false_intro (fun z => by have := (lN0 (by omega)).mp z; omega)
  have c2 : (lg_cmp (lN (Nat.gcd A B)) 0 = 0) ↔ False := iff_false_intro (fun z => c1.mp ((lg0 _).mp z))
  simp only [u124_0, u124_1, u124_3, u124_4, u124_6, u124_7, e124, mw_os, wp_ite, mw_sw, Option.toList_some, Option.toList_none, List.cons_append, List.nil_append, true_and, and_true, if_true, if_false, mw_s_, mw_s_i, mw_s_r, mw_s_ii, mw_s_ir, mw_s_ri, mw_s_rr, mw_s_iii, mw_s_iir, mw_s_iri, mw_s_irr, mw_s_rii, mw_s_rir, mw_s_rri, mw_s_rrr, mw_s_iiii, mw_s_iiir, mw_s_iiri, mw_s_iirr, mw_s_irii, mw_s_irir, mw_s_irri, mw_s_irrr, mw_s_riii, mw_s_riir, mw_s_riri, mw_s_rirr, mw_s_rrii, mw_s_rrir, mw_s_rrri, mw_s_rrrr, mm_sto2, mm_sto1, mm_clr, List.getElem?_cons_zero, List.getElem?_cons_succ, List.set_cons_zero, List.set_cons_succ, hlf, hll, hli, Bool.false_eq_true]
  refine C124l 40 0 B A hA (by omega) (by omega) (by omega) (fun l9 l10 l11 => ?_) none none
  have dA := pk_lDiv (a := A) (b := Nat.gcd A B) (by omega) hg0 (by omega)
  have dB := pk_lDiv (a := B) (b := Nat.gcd A B) (by omega) hg0 (by omega)
  rw [Nat.gcd_comm B A]
  simp only [u124_44, u124_46, u124_47, u124_48, u124_55, u124_57, u124_60, u124_61, u124_63, u124_64, u124_67, u124_68, u124_70, u124_71, mw_os, wp_ite, mw_sw, Option.toList_some, Option.toList_none, List.cons_append, List.nil_append, true_and, and_true, if_true, if_false, mw_s_, mw_s_i, mw_s_r, mw_s_ii, mw_s_ir, mw_s_ri, mw_s_rr, mw_s_iii, mw_s_iir, mw_s_iri, mw_s_irr, mw_s_rii, mw_s_rir, mw_s_rri, mw_s_rrr, mw_s_iiii, mw_s_iiir, mw_s_iiri, mw_s_iirr, mw_s_irii, mw_s_irir, mw_s_irri, mw_s_irrr, mw_s_riii, mw_s_riir, mw_s_riri, mw_s_rirr, mw_s_rrii, mw_s_rrir, mw_s_rrri, mw_s_rrrr, c1, c2, not_false_eq_true, dA, dB]
  unfold frV at hQ
  by_cases hp : p = 0
  · rw [if_pos hp] at hQ
    rw [if_pos hp]
    exact hQ
  · rw [if_neg hp] at hQ
    rw [if_neg hp]
    exact hQ
theorem waO_rg {w : List Int32} (h : ∀ i, i < 10 → rgI (gi w (nI i)) 99) : rgI (waO w) 990 := by
  have key : ∀ (k i : Nat) (t : Int32), i + k = 10 → rgI t (99 * i) → rgI ((List.range' i k).foldl (fun r i => r + gi w (nI i)) t) 990 := by
    intro k
    induction k with
    | zero =>
      intro i t hi ht
      have : i = 10 := by omega
      subst this
      exact ht
    | succ k ih =>
      intro i t hi ht
      rw [List.range'_succ, List.foldl_cons]
      refine ih (i + 1) _ (by omega) ?_
      obtain ⟨a, a1, a2⟩ := ht
      obtain ⟨b, b1, b2⟩ := h i (by omega)
      exact ⟨a + b, by omega, by rw [a2, b2]; exact nI_add a b⟩
  exact key 10 0 0 rfl ⟨0, by omega, rfl⟩
theorem J_mean (hg : SGOK g) (x1 : Int32) : JO scr 125 210 [.int x1] g := by
  rcases two x1 with h2 | hy
  · have k1 : decide ((0 : Int32) ≤ x1 ∧ x1 < 2) = true := by rcases h2 with rfl | rfl <;> decide
    have k2 : inB x1.toInt64 0 1 = true := (inB_eq x1 0 1).trans (by rcases h2 with rfl | rfl <;> decide)
    obtain ⟨k, hk, ek⟩ := waO_rg (w := sWo (gN g).1) (fun i hi => (hg.1.2.2.2.2.2.2 i hi).2.2)
    have el : (waO (sWo (gN g).1)).toInt64 = lN k := by rw [ek]; exact nI_l (by omega)
    refine ⟨frV k 10 x1, g, hg, fun n M Q hC hQ => ?_, fun n M Q hC hQ => ?_⟩
    · have hq := Csame hC hQ
      simp only [u125_0, u125_1, u125_2, u125_5, u125_15, u125_16, u125_19, u125_22, u125_23, u125_26, u125_27, e125, mw_os, wp_ite, mw_sw, Option.toList_some, Option.toList_none, List.cons_append, List.nil_append, true_and, and_true, if_true, if_false, mw_s_, mw_s_i, mw_s_r, mw_s_ii, mw_s_ir, mw_s_ri, mw_s_rr, mw_s_iii, mw_s_iir, mw_s_iri, mw_s_irr, mw_s_rii, mw_s_rir, mw_s_rri, mw_s_rrr, mw_s_iiii, mw_s_iiir, mw_s_iiri, mw_s_iirr, mw_s_irii, mw_s_irir, mw_s_irri, mw_s_irrr, mw_s_riii, mw_s_riir, mw_s_riri, mw_s_rirr, mw_s_rrii, mw_s_rrir, mw_s_rrri, mw_s_rrrr, mm_sto1, mm_clr, mm_isL, List.getElem?_cons_zero, List.getElem?_cons_succ, List.set_cons_zero, List.set_cons_succ, Bool.false_eq_true, W89, k1, bi_eq0, reduceCtorEq, not_false_eq_true, CS_0 hC, NS_x hC, W81 (NS hC) (gSOK hg), el]
      refine C124 (n := n + 38) (A := k) (B := 10) (by omega) (by decide) (by decide) ?_
      unfold frV
      simp only [u125_30, mw_os, wp_ite, mw_sw, Option.toList_some, Option.toList_none, List.cons_append, List.nil_append, true_and, and_true, if_true, if_false, mw_s_, mw_s_i, mw_s_r, mw_s_ii, mw_s_ir, mw_s_ri, mw_s_rr, mw_s_iii, mw_s_iir, mw_s_iri, mw_s_irr, mw_s_rii, mw_s_rir, mw_s_rri, mw_s_rrr, mw_s_iiii, mw_s_iiir, mw_s_iiri, mw_s_iirr, mw_s_irii, mw_s_irir, mw_s_irri, mw_s_irrr, mw_s_riii, mw_s_riir, mw_s_riri, mw_s_rirr, mw_s_rrii, mw_s_rrir, mw_s_rrri, mw_s_rrrr]
      exact hq
    · have hq := Msame hC hQ
      obtain ⟨o, r, hO, _, hR, hA⟩ := MSu hC
      have w178 : ∀ Q : Option Value → mm_M → Prop, Wp scr (n + 39) 178 [.ref 130] M Q ↔ Q (some (.int (waO (sWo (gN g).1)))) M := fun Q => by rw [← hR.2.2.2.1]; exact W178 hA hR.1
      simp only [u210_0, u210_1, u210_2, u210_3, u210_4, u210_7, u210_10, u210_11, u210_14, u210_17, u210_18, u210_21, u210_22, e210, mw_os, wp_ite, mw_sw, Option.toList_some, Option.toList_none, List.cons_append, List.nil_append, true_and, and_true, if_true, if_false, mw_s_, mw_s_i, mw_s_r, mw_s_ii, mw_s_ir, mw_s_ri, mw_s_rr, mw_s_iii, mw_s_iir, mw_s_iri, mw_s_irr, mw_s_rii, mw_s_rir, mw_s_rri, mw_s_rrr, mw_s_iiii, mw_s_iiir, mw_s_iiri, mw_s_iirr, mw_s_irii, mw_s_irir, mw_s_irri, mw_s_irrr, mw_s_riii, mw_s_riir, mw_s_riri, mw_s_rirr, mw_s_rrii, mw_s_rrir, mw_s_rrri, mw_s_rrrr, mm_sto1, mm_clr, mm_isL, List.getElem?_cons_zero, List.getElem?_cons_succ, List.set_cons_zero, List.set_cons_succ, Bool.false_eq_true, W146, k2, bi_eq0, reduceCtorEq, OA_0 hO, w178, el]
      refine M209 (n := n + 38) (A := k) (B := 10) (by omega) (by decide) (by decide) ?_
      unfold frV
      simp only [u210_25, u210_34, mw_os, wp_ite, mw_sw, Option.toList_some, Option.toList_none, List.cons_append, List.nil_append, true_and, and_true, if_true, if_false, mw_s_, mw_s_i, mw_s_r, mw_s_ii, mw_s_ir, mw_s_ri, mw_s_rr, mw_s_iii, mw_s_iir, mw_s_iri, mw_s_irr, mw_s_rii, mw_s_rir, mw_s_rri, mw_s_rrr, mw_s_iiii, mw_s_iiir, mw_s_iiri, mw_s_iirr, mw_s_irii, mw_s_irir, mw_s_irri, mw_s_irrr, mw_s_riii, mw_s_riir, mw_s_riri, mw_s_rirr, mw_s_rrii, mw_s_rrir, mw_s_rrri, mw_s_rrrr]
      exact hq
  · have k1 : decide ((0 : Int32) ≤ x1 ∧ x1 < 2) = false := ib_f (N := 2) hy
    have k2 : inB x1.toInt64 0 1 = false := (inB_eq x1 0 1).trans (il_f (N := 1) (by decide) hy)
    refine ⟨lrV 2, gRf g 2, gRf_ok hg, fun n M Q hC hQ => ?_, fun n M Q hC hQ => ?_⟩
    · simp only [u125_0, u125_1, u125_2, u125_5, u125_8, u125_9, u125_11, e125, mw_os, wp_ite, mw_sw, Option.toList_some, Option.toList_none, List.cons_append, List.nil_append, true_and, and_true, if_true, if_false, mw_s_, mw_s_i, mw_s_r, mw_s_ii, mw_s_ir, mw_s_ri, mw_s_rr, mw_s_iii, mw_s_iir, mw_s_iri, mw_s_irr, mw_s_rii, mw_s_rir, mw_s_rri, mw_s_rrr, mw_s_iiii, mw_s_iiir, mw_s_iiri, mw_s_iirr, mw_s_irii, mw_s_irir, mw_s_irri, mw_s_irrr, mw_s_riii, mw_s_riir, mw_s_riri, mw_s_rirr, mw_s_rrii, mw_s_rrir, mw_s_rrri, mw_s_rrrr, mm_sto1, mm_clr, mm_isL, List.getElem?_cons_zero, List.getElem?_cons_succ, List.set_cons_zero, List.set_cons_succ, Bool.false_eq_true, W89, k1, bi_eq0, not_true, CS_x hC]
      refine C120 (k := 2) (n := n + 37) hC hg (by decide) (by decide) (fun M' hl ha hc => ?_)
      unfold lrV
      simp only [u125_14, mw_os, wp_ite, mw_sw, Option.toList_some, Option.toList_none, List.cons_append, List.nil_append, true_and, and_true, if_true, if_false, mw_s_, mw_s_i, mw_s_r, mw_s_ii, mw_s_ir, mw_s_ri, mw_s_rr, mw_s_iii, mw_s_iir, mw_s_iri, mw_s_irr, mw_s_rii, mw_s_rir, mw_s_rri, mw_s_rrr, mw_s_iiii, mw_s_iiir, mw_s_iiri, mw_s_iirr, mw_s_irii, mw_s_irir, mw_s_irri, mw_s_irrr, mw_s_riii, mw_s_riir, mw_s_riri, mw_s_rirr, mw_s_rrii, mw_s_rrir, mw_s_rrri, mw_s_rrrr]
      exact hQ M' hl ha hc
    · obtain ⟨o, r, hO, _, hR, hA⟩ := MSu hC
      simp only [u210_0, u210_1, u210_2, u210_3, u210_4, u210_7, u210_28, u210_29, u210_31, e210, mw_os, wp_ite, mw_sw, Option.toList_some, Option.toList_none, List.cons_append, List.nil_append, true_and, and_true, if_true, if_false, mw_s_, mw_s_i, mw_s_r, mw_s_ii, mw_s_ir, mw_s_ri, mw_s_rr, mw_s_iii, mw_s_iir, mw_s_iri, mw_s_irr, mw_s_rii, mw_s_rir, mw_s_rri, mw_s_rrr, mw_s_iiii, mw_s_iiir, mw_s_iiri, mw_s_iirr, mw_s_irii, mw_s_irir, mw_s_irri, mw_s_irrr, mw_s_riii, mw_s_riir, mw_s_riri, mw_s_rirr, mw_s_rrii, mw_s_rrir, mw_s_rrri, mw_s_rrrr, mm_sto1, mm_clr, mm_isL, List.getElem?_cons_zero, List.getElem?_cons_succ, List.set_cons_zero, List.set_cons_succ, Bool.false_eq_true, W146, k2, bi_eq0, OA_x hO]
      refine M207 (k := 2) (n := n + 37) hC hg (by decide) (by decide) (fun M' hl ha hc => ?_)
      unfold lrV
      simp only [u210_34, mw_os, wp_ite, mw_sw, Option.toList_some, Option.toList_none, List.cons_append, List.nil_append, true_and, and_true, if_true, if_false, mw_s_, mw_s_i, mw_s_r, mw_s_ii, mw_s_ir, mw_s_ri, mw_s_rr, mw_s_iii, mw_s_iir, mw_s_iri, mw_s_irr, mw_s_rii, mw_s_rir, mw_s_rri, mw_s_rrr, mw_s_iiii, mw_s_iiir, mw_s_iiri, mw_s_iirr, mw_s_irii, mw_s_irir, mw_s_irri, mw_s_irrr, mw_s_riii, mw_s_riir, mw_s_riri, mw_s_rirr, mw_s_rrii, mw_s_rrir, mw_s_rrri, mw_s_rrrr]
      exact hQ M' hl ha hc
end LO
