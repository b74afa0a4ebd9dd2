/-! the letters of a map -/
def zN (g : SG) (k : Nat) : Nat := (gi (gZ g) (nI k)).toNatClampNeg
theorem zN_eq {g : SG} (hg : SGOK g) {k : Nat} (hk : k < gZn g) : gi (gZ g) (nI k) = nI (zN g k) ∧ zN g k < 256 := by
  obtain ⟨j, h1, h2⟩ := hg.2.2.2.1.2.2 k hk
  unfold zN
  rw [h2, nI_clamp (by omega)]
  exact ⟨rfl, by omega⟩
def shp (c : Nat) : List Nat := if c = 99 then [48, 59] else if c = 102 then [48, 48, 59] else if c = 107 then [48, 107, 48, 59] else if c = 111 then [59] else if c = 119 then [48, 48, 48, 59] else []
def shA (c : Nat) : Nat := if c = 99 then 35 else if c = 102 then 33 else if c = 107 then 31 else if c = 111 then 34 else if c = 119 then 32 else 36
def fitN (c f : Nat) : Bool := if f = 48 then decide (48 ≤ c ∧ c ≤ 57) else if f = 107 then decide ((0 : Int32) ≤ kdV c) else decide (c = f)
theorem shp_in {c f i : Nat} (hi : i < (shp c).length) (hf : f = (shp c).getD i 0) : f = 48 ∨ f = 107 ∨ f = 59 := by
  subst hf
  unfold shp at hi ⊢
  split at hi
  · rename_i h; rw [if_pos h]; rcases (show i = 0 ∨ i = 1 by simp at hi; omega) with rfl | rfl <;> decide
  · rename_i h; rw [if_neg h]
    split at hi
    · rename_i h2; rw [if_pos h2]; rcases (show i = 0 ∨ i = 1 ∨ i = 2 by simp at hi; omega) with rfl | rfl | rfl <;> decide
    · rename_i h2; rw [if_neg h2]
      split at hi
      · rename_i h3; rw [if_pos h3]; rcases (show i = 0 ∨ i = 1 ∨ i = 2 ∨ i = 3 by simp at hi; omega) with rfl | rfl | rfl | rfl <;> decide
      · rename_i h3; rw [if_neg h3]
        split at hi
        · rename_i h4; rw [if_pos h4]; rcases (show i = 0 by simp at hi; omega) with rfl; decide
        · rename_i h4; rw [if_neg h4]
          split at hi
          · rename_i h5; rw [if_pos h5]; rcases (show i = 0 ∨ i = 1 ∨ i = 2 ∨ i = 3 by simp at hi; omega) with rfl | rfl | rfl | rfl <;> decide
          · simp at hi
theorem shp_len (c : Nat) : (shp c).length ≤ 4 := by
  unfold shp
  by_cases a1 : c = 99
  · rw [if_pos a1]; decide
  · rw [if_neg a1]
    by_cases a2 : c = 102
    · rw [if_pos a2]; decide
    · rw [if_neg a2]
      by_cases a3 : c = 107
      · rw [if_pos a3]; decide
      · rw [if_neg a3]
        by_cases a4 : c = 111
        · rw [if_pos a4]; decide
        · rw [if_neg a4]
          by_cases a5 : c = 119
          · rw [if_pos a5]; decide
          · rw [if_neg a5]; decide
def inL (g : SG) (place : Nat) (l : List Nat) : Nat → Nat → Option Nat
  | 0, _ => none
  | f + 1, i => if place + 1 + i < gZn g ∧ fitN (zN g (place + 1 + i)) (l.getD i 0) = true then inL g place l f (i + 1) else some (place + 1 + i)
def outL (g : SG) : Nat → Nat → Option Nat
  | 0, _ => none
  | f + 1, place => if place < gZn g then (if shp (zN g place) = [] then some place else (match inL g place (shp (zN g place)) (shp (zN g place)).length 0 with
      | some p => some p
      | none => outL g f (place + 1 + (shp (zN g place)).length))) else none
def fltV (g : SG) : Int32 := if gZn g = 0 then 0 else oI (-1) (outL g (gZn g + 1) 0)
section PA
variable {scr : List Int32} {n : Nat} {M M0 : mm_M} {Q : Option Value → mm_M → Prop} {g : SG} {k c : Nat}
theorem W46 (hC : CS M g) (hg : SGOK g) (hk : k < 2 ^ 31) : Wp scr (n + 1) 46 [.ref 124, .int (nI k)] M Q ↔ Q (some (.int (nI (if k < gZn g then zN g k else 0)))) M := by
  have hz := hg.2.2.2.1
  have n0 : (nI k < 0) ↔ False := iff_false_intro (nI_pos hk)
  by_cases h : k < gZn g
  · have hle : (nI (gZn g) ≤ nI k) ↔ False := iff_false_intro (nI_ge h (by omega))
    have a : mm_at (gZ g) (nI k) = some (nI (zN g k)) := (gi_atN (by omega) (by omega)).trans (by rw [(zN_eq hg h).1])
    rw [if_pos h]
    simp only [e46, u46_0, u46_1, u46_4, u46_5, u46_5b, u46_6, u46_9, u46_12, u46_12b, u46_13, u46_16, u46_17, u46_18, u46_21, u46_22, mw_os, wp_ite, mw_sw, Option.toList_some, Option.toList_none, List.cons_append, List.nil_append, true_and, and_true, if_true, if_false, mw_s_, mw_s_i, mw_s_r, mw_s_ii, mw_s_ir, mw_s_ri, mw_s_rr, mw_s_iii, mw_s_iir, mw_s_iri, mw_s_irr, mw_s_rii, mw_s_rir, mw_s_rri, mw_s_rrr, mw_s_iiii, mw_s_iiir, mw_s_iiri, mw_s_iirr, mw_s_irii, mw_s_irir, mw_s_irri, mw_s_irrr, mw_s_riii, mw_s_riir, mw_s_riri, mw_s_rirr, mw_s_rrii, mw_s_rrir, mw_s_rrri, mw_s_rrrr, n0, CZ_0 hC, CZ_1 hC, hle, RA_ld (CZ hC), a]
  · have hle : (nI (gZn g) ≤ nI k) ↔ True := iff_true_intro (nI_le (by omega) hk)
    rw [if_neg h]
    simp only [e46, u46_0, u46_1, u46_4, u46_5, u46_5b, u46_6, u46_9, u46_12, u46_12b, u46_13, u46_16, u46_17, u46_18, u46_21, u46_22, mw_os, wp_ite, mw_sw, Option.toList_some, Option.toList_none, List.cons_append, List.nil_append, true_and, and_true, if_true, if_false, mw_s_, mw_s_i, mw_s_r, mw_s_ii, mw_s_ir, mw_s_ri, mw_s_rr, mw_s_iii, mw_s_iir, mw_s_iri, mw_s_irr, mw_s_rii, mw_s_rir, mw_s_rri, mw_s_rrr, mw_s_iiii, mw_s_iiir, mw_s_iiri, mw_s_iirr, mw_s_irii, mw_s_irir, mw_s_irri, mw_s_irrr, mw_s_riii, mw_s_riir, mw_s_riri, mw_s_rirr, mw_s_rrii, mw_s_rrir, mw_s_rrri, mw_s_rrrr, n0, CZ_1 hC, hle]
    exact Iff.rfl
theorem W47 (hc : c < 256) : Wp scr (n + 1) 47 [.int (nI c)] M Q ↔ Q (some (.retAddr (shA c))) M := by
  have q : ∀ k : Nat, k < 256 → ((nI c = nI k) ↔ c = k) := fun k hk => nI_eq (by omega) (by omega)
  have q1 : (nI c = 99) ↔ c = 99 := q 99 (by decide)
  have q2 : (nI c = 102) ↔ c = 102 := q 102 (by decide)
  have q3 : (nI c = 107) ↔ c = 107 := q 107 (by decide)
  have q4 : (nI c = 111) ↔ c = 111 := q 111 (by decide)
  have q5 : (nI c = 119) ↔ c = 119 := q 119 (by decide)
  unfold shA
  simp only [e47, u47_0, u47_1, u47_52, u47_54, u47_55, u47_57, u47_58, u47_60, u47_61, u47_63, u47_64, u47_66, u47_67, u47_69, mw_os, wp_ite, mw_sw, Option.toList_some, Option.toList_none, List.cons_append, List.nil_append, true_and, and_true, if_true, if_false, mw_s_, mw_s_i, mw_s_r, mw_s_ii, mw_s_ir, mw_s_ri, mw_s_rr, mw_s_iii, mw_s_iir, mw_s_iri, mw_s_irr, mw_s_rii, mw_s_rir, mw_s_rri, mw_s_rrr, mw_s_iiii, mw_s_iiir, mw_s_iiri, mw_s_iirr, mw_s_irii, mw_s_irir, mw_s_irri, mw_s_irrr, mw_s_riii, mw_s_riir, mw_s_riri, mw_s_rirr, mw_s_rrii, mw_s_rrir, mw_s_rrri, mw_s_rrrr, q1, q2, q3, q4, q5]
  by_cases a1 : c = 99
  · simp [a1]
  · by_cases a2 : c = 102
    · simp [a2]
    · by_cases a3 : c = 107
      · simp [a3]
      · by_cases a4 : c = 111
        · simp [a4]
        · by_cases a5 : c = 119
          · simp [a5]
          · simp [a1, a2, a3, a4, a5]
theorem S2 : Wp scr (n + 3) 2 [.retAddr (shA c)] M Q ↔ Q (some (.int (nI (shp c).length))) M := by
  unfold shA shp
  by_cases a1 : c = 99
  · rw [if_pos a1, if_pos a1]; exact s2_35
  · rw [if_neg a1, if_neg a1]
    by_cases a2 : c = 102
    · rw [if_pos a2, if_pos a2]; exact s2_33
    · rw [if_neg a2, if_neg a2]
      by_cases a3 : c = 107
      · rw [if_pos a3, if_pos a3]; exact s2_31
      · rw [if_neg a3, if_neg a3]
        by_cases a4 : c = 111
        · rw [if_pos a4, if_pos a4]; exact s2_34
        · rw [if_neg a4, if_neg a4]
          by_cases a5 : c = 119
          · rw [if_pos a5, if_pos a5]; exact s2_32
          · rw [if_neg a5, if_neg a5]; exact s2_36
theorem S1 : Wp scr (n + 3) 1 [.retAddr (shA c)] M Q ↔ Q (some (.int (bi (decide (shp c = []))))) M := by
  unfold shA shp
  by_cases a1 : c = 99
  · rw [if_pos a1, if_pos a1]; exact s1_35
  · rw [if_neg a1, if_neg a1]
    by_cases a2 : c = 102
    · rw [if_pos a2, if_pos a2]; exact s1_33
    · rw [if_neg a2, if_neg a2]
      by_cases a3 : c = 107
      · rw [if_pos a3, if_pos a3]; exact s1_31
      · rw [if_neg a3, if_neg a3]
        by_cases a4 : c = 111
        · rw [if_pos a4, if_pos a4]; exact s1_34
        · rw [if_neg a4, if_neg a4]
          by_cases a5 : c = 119
          · rw [if_pos a5, if_pos a5]; exact s1_32
          · rw [if_neg a5, if_neg a5]; exact s1_36
theorem S4 {i : Nat} (hi : i < (shp c).length) : Wp scr (n + 6) 4 [.retAddr (shA c), .int (nI i)] M Q ↔ Q (some (.int (nI ((shp c).getD i 0)))) M := by
  unfold shA
  unfold shp at hi ⊢
  by_cases a1 : c = 99
  · rw [if_pos a1] at hi ⊢; rw [if_pos a1]
    rcases (show i = 0 ∨ i = 1 by simp at hi; omega) with rfl | rfl
    · exact s4_35_0
    · exact s4_35_1
  · rw [if_neg a1] at hi ⊢; rw [if_neg a1]
    by_cases a2 : c = 102
    · rw [if_pos a2] at hi ⊢; rw [if_pos a2]
      rcases (show i = 0 ∨ i = 1 ∨ i = 2 by simp at hi; omega) with rfl | rfl | rfl
      · exact s4_33_0
      · exact s4_33_1
      · exact s4_33_2
    · rw [if_neg a2] at hi ⊢; rw [if_neg a2]
      by_cases a3 : c = 107
      · rw [if_pos a3] at hi ⊢; rw [if_pos a3]
        rcases (show i = 0 ∨ i = 1 ∨ i = 2 ∨ i = 3 by simp at hi; omega) with rfl | rfl | rfl | rfl
        · exact s4_31_0
        · exact s4_31_1
        · exact s4_31_2
        · exact s4_31_3
      · rw [if_neg a3] at hi ⊢; rw [if_neg a3]
        by_cases a4 : c = 111
        · rw [if_pos a4] at hi ⊢; rw [if_pos a4]
          rcases (show i = 0 by simp at hi; omega) with rfl
          exact s4_34_0
        · rw [if_neg a4] at hi ⊢; rw [if_neg a4]
          by_cases a5 : c = 119
          · rw [if_pos a5] at hi ⊢; rw [if_pos a5]
            rcases (show i = 0 ∨ i = 1 ∨ i = 2 ∨ i = 3 by simp at hi; omega) with rfl | rfl | rfl | rfl
            · exact s4_32_0
            · exact s4_32_1
            · exact s4_32_2
            · exact s4_32_3
          · rw [if_neg a5] at hi; simp at hi
theorem Sx : mw_x scr (shA c) ↔ True := by
  refine iff_true_intro ?_
  unfold shA
  repeat' split
  all_goals exact ⟨_, rfl⟩
theorem i2c_eq (hc : c < 256) : ((nI c).toUInt32 % 65536).toInt32 = nI c := by
  rw [pk_char, pk_tn (by omega), Nat.mod_eq_of_lt (by omega)]
theorem mw_x1 {a : Nat} : mw_st [.retAddr a] ↔ True := iff_true_intro (Nat.le_of_ble_eq_true rfl)
theorem mw_ix {x : Int32} {a : Nat} : mw_st [.int x, .retAddr a] ↔ True := iff_true_intro (Nat.le_of_ble_eq_true rfl)
theorem mw_irx {x : Int32} {b a : Nat} : mw_st [.int x, .ref b, .retAddr a] ↔ True := iff_true_intro (Nat.le_of_ble_eq_true rfl)
theorem W48 {f : Nat} (hc : c < 256) (hf : f = 48 ∨ f = 107 ∨ f = 59) : Wp scr (n + 7) 48 [.int (nI c), .int (nI f)] M Q ↔ Q (some (.int (bi (fitN c f)))) M := by
  have a1 : ((107 : Int32) = 48) ↔ False := by decide
  have a2 : ((59 : Int32) = 48) ↔ False := by decide
  have a3 : ((59 : Int32) = 107) ↔ False := by decide
  rcases hf with rfl | rfl | rfl
  · have e : fitN c 48 = decide (48 ≤ c ∧ c ≤ 57) := rfl
    change Wp scr (n + 7) 48 [.int (nI c), .int 48] M Q ↔ _
    rw [e]
    by_cases h1 : c < 48
    · have c1 : (nI c < 48) ↔ True := iff_true_intro (nI_lt (b := 48) h1 (by decide))
      simp only [e48, u48_0, u48_1, u48_3, u48_6, u48_7, u48_9, u48_12, u48_13, u48_15, u48_18, u48_19, u48_22, u48_23, u48_24, u48_25, u48_27, u48_30, u48_32, u48_33, u48_34, u48_37, u48_40, u48_41, u48_44, u48_45, u48_48, u48_49, u48_50, u48_53, u48_54, u48_57, u48_58, mw_os, wp_ite, mw_sw, Option.toList_some, Option.toList_none, List.cons_append, List.nil_append, true_and, and_true, if_true, if_false, mw_s_, mw_s_i, mw_s_r, mw_s_ii, mw_s_ir, mw_s_ri, mw_s_rr, mw_s_iii, mw_s_iir, mw_s_iri, mw_s_irr, mw_s_rii, mw_s_rir, mw_s_rri, mw_s_rrr, mw_s_iiii, mw_s_iiir, mw_s_iiri, mw_s_iirr, mw_s_irii, mw_s_irir, mw_s_irri, mw_s_irrr, mw_s_riii, mw_s_riir, mw_s_riri, mw_s_rirr, mw_s_rrii, mw_s_rrir, mw_s_rrri, mw_s_rrrr, c1]
      rw [decide_eq_false (by omega)]
      simp [bi]
    · have c1 : (nI c < 48) ↔ False := iff_false_intro (nI_nlt (b := 48) (by omega) (by omega))
      by_cases h2 : 57 < c
      · have c2 : ((57 : Int32) < nI c) ↔ True := iff_true_intro (nI_lt (a := 57) h2 (by omega))
        simp only [e48, u48_0, u48_1, u48_3, u48_6, u48_7, u48_9, u48_12, u48_13, u48_15, u48_18, u48_19, u48_22, u48_23, u48_24, u48_25, u48_27, u48_30, u48_32, u48_33, u48_34, u48_37, u48_40, u48_41, u48_44, u48_45, u48_48, u48_49, u48_50, u48_53, u48_54, u48_57, u48_58, mw_os, wp_ite, mw_sw, Option.toList_some, Option.toList_none, List.cons_append, List.nil_append, true_and, and_true, if_true, if_false, mw_s_, mw_s_i, mw_s_r, mw_s_ii, mw_s_ir, mw_s_ri, mw_s_rr, mw_s_iii, mw_s_iir, mw_s_iri, mw_s_irr, mw_s_rii, mw_s_rir, mw_s_rri, mw_s_rrr, mw_s_iiii, mw_s_iiir, mw_s_iiri, mw_s_iirr, mw_s_irii, mw_s_irir, mw_s_irri, mw_s_irrr, mw_s_riii, mw_s_riir, mw_s_riri, mw_s_rirr, mw_s_rrii, mw_s_rrir, mw_s_rrri, mw_s_rrrr, c1, c2]
        rw [decide_eq_false (by omega)]
        simp [bi]
      · have c2 : ((57 : Int32) < nI c) ↔ False := iff_false_intro (nI_nlt (a := 57) (by omega) (by decide))
        simp only [e48, u48_0, u48_1, u48_3, u48_6, u48_7, u48_9, u48_12, u48_13, u48_15, u48_18, u48_19, u48_22, u48_23, u48_24, u48_25, u48_27, u48_30, u48_32, u48_33, u48_34, u48_37, u48_40, u48_41, u48_44, u48_45, u48_48, u48_49, u48_50, u48_53, u48_54, u48_57, u48_58, mw_os, wp_ite, mw_sw, Option.toList_some, Option.toList_none, List.cons_append, List.nil_append, true_and, and_true, if_true, if_false, mw_s_, mw_s_i, mw_s_r, mw_s_ii, mw_s_ir, mw_s_ri, mw_s_rr, mw_s_iii, mw_s_iir, mw_s_iri, mw_s_irr, mw_s_rii, mw_s_rir, mw_s_rri, mw_s_rrr, mw_s_iiii, mw_s_iiir, mw_s_iiri, mw_s_iirr, mw_s_irii, mw_s_irir, mw_s_irri, mw_s_irrr, mw_s_riii, mw_s_riir, mw_s_riri, mw_s_rirr, mw_s_rrii, mw_s_rrir, mw_s_rrri, mw_s_rrrr, c1, c2]
        rw [decide_eq_true (by omega)]
        simp [bi]
  · have e : fitN c 107 = decide ((0 : Int32) ≤ kdV c) := rfl
    change Wp scr (n + 7) 48 [.int (nI c), .int 107] M Q ↔ _
    rw [e]
    simp only [e48, u48_0, u48_1, u48_3, u48_6, u48_7, u48_9, u48_12, u48_13, u48_15, u48_18, u48_19, u48_22, u48_23, u48_24, u48_25, u48_27, u48_30, u48_32, u48_33, u48_34, u48_37, u48_40, u48_41, u48_44, u48_45, u48_48, u48_49, u48_50, u48_53, u48_54, u48_57, u48_58, mw_os, wp_ite, mw_sw, Option.toList_some, Option.toList_none, List.cons_append, List.nil_append, true_and, and_true, if_true, if_false, mw_s_, mw_s_i, mw_s_r, mw_s_ii, mw_s_ir, mw_s_ri, mw_s_rr, mw_s_iii, mw_s_iir, mw_s_iri, mw_s_irr, mw_s_rii, mw_s_rir, mw_s_rri, mw_s_rrr, mw_s_iiii, mw_s_iiir, mw_s_iiri, mw_s_iirr, mw_s_irii, mw_s_irir, mw_s_irri, mw_s_irrr, mw_s_riii, mw_s_riir, mw_s_riri, mw_s_rirr, mw_s_rrii, mw_s_rrir, mw_s_rrri, mw_s_rrrr, a1, i2c_eq hc, x_30, W7_30 hc]
    by_cases h : kdV c < 0
    · have h' : ¬ (0 : Int32) ≤ kdV c := fun z => Int32.not_lt.mpr z h
      simp [h, h', bi]
    · have h' : (0 : Int32) ≤ kdV c := Int32.not_lt.mp h
      simp [h, h', bi]
  · have e : fitN c 59 = decide (c = 59) := rfl
    change Wp scr (n + 7) 48 [.int (nI c), .int 59] M Q ↔ _
    rw [e]
    have q : (nI c = 59) ↔ c = 59 := nI_eq (b := 59) (by omega) (by decide)
    simp only [e48, u48_0, u48_1, u48_3, u48_6, u48_7, u48_9, u48_12, u48_13, u48_15, u48_18, u48_19, u48_22, u48_23, u48_24, u48_25, u48_27, u48_30, u48_32, u48_33, u48_34, u48_37, u48_40, u48_41, u48_44, u48_45, u48_48, u48_49, u48_50, u48_53, u48_54, u48_57, u48_58, mw_os, wp_ite, mw_sw, Option.toList_some, Option.toList_none, List.cons_append, List.nil_append, true_and, and_true, if_true, if_false, mw_s_, mw_s_i, mw_s_r, mw_s_ii, mw_s_ir, mw_s_ri, mw_s_rr, mw_s_iii, mw_s_iir, mw_s_iri, mw_s_irr, mw_s_rii, mw_s_rir, mw_s_rri, mw_s_rrr, mw_s_iiii, mw_s_iiir, mw_s_iiri, mw_s_iirr, mw_s_irii, mw_s_irir, mw_s_irri, mw_s_irrr, mw_s_riii, mw_s_riir, mw_s_riri, mw_s_rirr, mw_s_rrii, mw_s_rrir, mw_s_rrri, mw_s_rrrr, a2, a3, q]
    by_cases h : c = 59 <;> simp [h, bi]
theorem W49 (hC : CS M g) (hg : SGOK g) (hk : k < gZn g) : Wp scr (n + 4) 49 [.ref 124, .int (nI k)] M Q ↔ Q (some (.int (nI (shp (zN g k)).length))) M := by
  have hz := hg.2.2.2.1
  have w46 : ∀ Q : Option Value → mm_M → Prop, Wp scr (n + 3) 46 [.ref 124, .int (nI k)] M Q ↔ Q (some (.int (nI (zN g k)))) M := fun Q => by
    have := W46 (scr := scr) (n := n + 2) (Q := Q) (k := k) hC hg (by omega)
    rw [if_pos hk] at this
    exact this
  simp only [e49, u49_0, u49_0b, u49_1, u49_2, u49_5, u49_8, u49_11, mw_os, wp_ite, mw_sw, Option.toList_some, Option.toList_none, List.cons_append, List.nil_append, true_and, and_true, if_true, if_false, mw_s_, mw_s_i, mw_s_r, mw_s_ii, mw_s_ir, mw_s_ri, mw_s_rr, mw_s_iii, mw_s_iir, mw_s_iri, mw_s_irr, mw_s_rii, mw_s_rir, mw_s_rri, mw_s_rrr, mw_s_iiii, mw_s_iiir, mw_s_iiri, mw_s_iirr, mw_s_irii, mw_s_irir, mw_s_irri, mw_s_irrr, mw_s_riii, mw_s_riir, mw_s_riri, mw_s_rirr, mw_s_rrii, mw_s_rrir, mw_s_rrri, mw_s_rrrr, CZ_x hC, w46, W47 (zN_eq hg hk).2, Sx, S2]
theorem C45l (hC : CS M g) (hg : SGOK g) : ∀ (f place : Nat), gZn g + 1 ≤ place + f → place ≤ 200 → (Q (some (.int (oI (-1) (outL g f place)))) M) → ∀ l2 l3 l4, wp scr (n + 7) mb_45 11 [some (.ref 124), some (.int (nI place)), l2, l3, l4] [] M Q := by
  have hz := hg.2.2.2.1
  intro f
  induction f with
  | zero =>
    intro place hf hp hq l2 l3 l4
    have hle : (nI (gZn g) ≤ nI place) ↔ True := iff_true_intro (nI_le (by omega) (by omega))
    refine u45_11.mpr ?_
    simp only [u45_12, u45_13, u45_16, u45_110, u45_111, mw_os, wp_ite, mw_sw, Option.toList_some, Option.toList_none, List.cons_append, List.nil_append, true_and, and_true, if_true, if_false, mw_s_, mw_s_i, mw_s_r, mw_s_ii, mw_s_ir, mw_s_ri, mw_s_rr, mw_s_iii, mw_s_iir, mw_s_iri, mw_s_irr, mw_s_rii, mw_s_rir, mw_s_rri, mw_s_rrr, mw_s_iiii, mw_s_iiir, mw_s_iiri, mw_s_iirr, mw_s_irii, mw_s_irir, mw_s_irri, mw_s_irrr, mw_s_riii, mw_s_riir, mw_s_riri, mw_s_rirr, mw_s_rrii, mw_s_rrir, mw_s_rrri, mw_s_rrrr, mm_sto1, mm_clr, mm_isL, List.getElem?_cons_zero, List.getElem?_cons_succ, List.set_cons_zero, List.set_cons_succ, Bool.false_eq_true, CZ_1 hC, hle]
    exact hq
  | succ f ih =>
    intro place hf hp hq l2 l3 l4
    rw [outL] at hq
    refine u45_11.mpr ?_
    by_cases h : place < gZn g
    · rw [if_pos h] at hq
      have hle : (nI (gZn g) ≤ nI place) ↔ False := iff_false_intro (nI_ge h (by omega))
      have hc256 := (zN_eq hg h).2
      have w46 : ∀ Q : Option Value → mm_M → Prop, Wp scr (n + 7) 46 [.ref 124, .int (nI place)] M Q ↔ Q (some (.int (nI (zN g place)))) M := fun Q => by
        have := W46 (scr := scr) (n := n + 6) (Q := Q) (k := place) hC hg (by omega)
        rw [if_pos h] at this
        exact this
      by_cases he : shp (zN g place) = []
      · rw [if_pos he] at hq
        have s1 : ∀ Q : Option Value → mm_M → Prop, Wp scr (n + 7) 1 [.retAddr (shA (zN g place))] M Q ↔ Q (some (.int 1)) M := fun Q => by
          have := S1 (scr := scr) (n := n + 4) (M := M) (Q := Q) (c := zN g place)
          rw [decide_eq_true he] at this
          exact this
        have z1 : ((1 : Int32) = 0) ↔ False := by decide
        simp only [u45_12, u45_13, u45_16, u45_19, u45_20, u45_21, u45_24, u45_27b, u45_27, u45_28b, u45_29, u45_32, u45_35, u45_36, mw_os, wp_ite, mw_sw, Option.toList_some, Option.toList_none, List.cons_append, List.nil_append, true_and, and_true, if_true, if_false, mw_s_, mw_s_i, mw_s_r, mw_s_ii, mw_s_ir, mw_s_ri, mw_s_rr, mw_s_iii, mw_s_iir, mw_s_iri, mw_s_irr, mw_s_rii, mw_s_rir, mw_s_rri, mw_s_rrr, mw_s_iiii, mw_s_iiir, mw_s_iiri, mw_s_iirr, mw_s_irii, mw_s_irir, mw_s_irri, mw_s_irrr, mw_s_riii, mw_s_riir, mw_s_riri, mw_s_rirr, mw_s_rrii, mw_s_rrir, mw_s_rrri, mw_s_rrrr, mm_sto1, mm_clr, mm_isL, List.getElem?_cons_zero, List.getElem?_cons_succ, List.set_cons_zero, List.set_cons_succ, Bool.false_eq_true, CZ_1 hC, CZ_x hC, hle, w46, W47 hc256, Sx, s1, z1]
        exact hq
      · rw [if_neg he] at hq
        have s1 : ∀ Q : Option Value → mm_M → Prop, Wp scr (n + 7) 1 [.retAddr (shA (zN g place))] M Q ↔ Q (some (.int 0)) M := fun Q => by
          have := S1 (scr := scr) (n := n + 4) (M := M) (Q := Q) (c := zN g place)
          rw [decide_eq_false he] at this
          exact this
        have hl4 := shp_len (zN g place)
        simp only [u45_12, u45_13, u45_16, u45_19, u45_20, u45_21, u45_24, u45_27b, u45_27, u45_28b, u45_29, u45_32, u45_37, u45_38, mw_os, wp_ite, mw_sw, Option.toList_some, Option.toList_none, List.cons_append, List.nil_append, true_and, and_true, if_true, if_false, mw_s_, mw_s_i, mw_s_r, mw_s_ii, mw_s_ir, mw_s_ri, mw_s_rr, mw_s_iii, mw_s_iir, mw_s_iri, mw_s_irr, mw_s_rii, mw_s_rir, mw_s_rri, mw_s_rrr, mw_s_iiii, mw_s_iiir, mw_s_iiri, mw_s_iirr, mw_s_irii, mw_s_irir, mw_s_irri, mw_s_irrr, mw_s_riii, mw_s_riir, mw_s_riri, mw_s_rirr, mw_s_rrii, mw_s_rrir, mw_s_rrri, mw_s_rrrr, mm_sto1, mm_clr, mm_isL, List.getElem?_cons_zero, List.getElem?_cons_succ, List.set_cons_zero, List.set_cons_succ, Bool.false_eq_true, CZ_1 hC, CZ_x hC, hle, w46, W47 hc256, Sx, s1]
        have inner : ∀ (k i : Nat), i + k = (shp (zN g place)).length → place + 1 + i ≤ gZn g → (match inL g place (shp (zN g place)) k i with | some p => Q (some (.int (nI p))) M | none => ∀ l3 l4, wp scr (n + 7) mb_45 97 [some (.ref 124), some (.int (nI place)), some (.retAddr (shA (zN g place))), l3, l4] [] M Q) → ∀ l4, wp scr (n + 7) mb_45 39 [some (.ref 124), some (.int (nI place)), some (.retAddr (shA (zN g place))), some (.int (nI i)), l4] [] M Q := by
          intro k
          induction k with
          | zero =>
            intro i hi hpl hm l4
            have hle2 : (nI (shp (zN g place)).length ≤ nI i) ↔ True := iff_true_intro (nI_le (by omega) (by omega))
            refine u45_39.mpr ?_
            simp only [u45_40b, u45_41, u45_44, mw_os, wp_ite, mw_sw, Option.toList_some, Option.toList_none, List.cons_append, List.nil_append, true_and, and_true, if_true, if_false, mw_s_, mw_s_i, mw_s_r, mw_s_ii, mw_s_ir, mw_s_ri, mw_s_rr, mw_s_iii, mw_s_iir, mw_s_iri, mw_s_irr, mw_s_rii, mw_s_rir, mw_s_rri, mw_s_rrr, mw_s_iiii, mw_s_iiir, mw_s_iiri, mw_s_iirr, mw_s_irii, mw_s_irir, mw_s_irri, mw_s_irrr, mw_s_riii, mw_s_riir, mw_s_riri, mw_s_rirr, mw_s_rrii, mw_s_rrir, mw_s_rrri, mw_s_rrrr, mm_sto1, mm_clr, mm_isL, List.getElem?_cons_zero, List.getElem?_cons_succ, List.set_cons_zero, List.set_cons_succ, Bool.false_eq_true, Sx, S2, hle2]
            exact hm _ _
          | succ k ihk =>
            intro i hi hpl hm l4
            have hle2 : (nI (shp (zN g place)).length ≤ nI i) ↔ False := iff_false_intro (nI_ge (by omega) (by omega))
            have e1 : nI (place + 1) + nI i = nI (place + 1 + i) := nI_add _ _
            rw [inL] at hm
            refine u45_39.mpr ?_
            by_cases hh : place + 1 + i < gZn g
            · have hle3 : (nI (gZn g) ≤ nI (place + 1 + i)) ↔ False := iff_false_intro (nI_ge hh (by omega))
              have hlt3 : (nI (gZn g) < nI (place + 1 + i)) ↔ False := iff_false_intro (nI_nlt (by omega) (by omega))
              have a8 : mm_at (gZ g) (nI (place + 1 + i)) = some (nI (zN g (place + 1 + i))) := (gi_atN (by omega) (by omega)).trans (by rw [(zN_eq hg hh).1])
              have w48 := fun Q => W48 (scr := scr) (n := n) (M := M) (Q := Q) (c := zN g (place + 1 + i)) (f := (shp (zN g place)).getD i 0) (zN_eq hg hh).2 (shp_in (by omega) rfl)
              have s4 := fun Q => S4 (scr := scr) (n := n + 1) (M := M) (Q := Q) (c := zN g place) (i := i) (by omega)
              cases hb : fitN (zN g (place + 1 + i)) ((shp (zN g place)).getD i 0)
              · rw [if_neg (fun z => absurd z.2 (by rw [hb]; decide))] at hm
                simp only [u45_40b, u45_41, u45_44, u45_47, u45_48, u45_49, u45_50, u45_51, u45_52, u45_54, u45_56, u45_57, u45_60, u45_63, u45_64, u45_67, u45_69, u45_70b, u45_71, u45_72, u45_75, u45_78, u45_81, u45_83, u45_84, u45_87, u45_90, mw_os, wp_ite, mw_sw, Option.toList_some, Option.toList_none, List.cons_append, List.nil_append, true_and, and_true, if_true, if_false, mw_s_, mw_s_i, mw_s_r, mw_s_ii, mw_s_ir, mw_s_ri, mw_s_rr, mw_s_iii, mw_s_iir, mw_s_iri, mw_s_irr, mw_s_rii, mw_s_rir, mw_s_rri, mw_s_rrr, mw_s_iiii, mw_s_iiir, mw_s_iiri, mw_s_iirr, mw_s_irii, mw_s_irir, mw_s_irri, mw_s_irrr, mw_s_riii, mw_s_riir, mw_s_riri, mw_s_rirr, mw_s_rrii, mw_s_rrir, mw_s_rrri, mw_s_rrrr, mm_sto1, mm_clr, mm_isL, List.getElem?_cons_zero, List.getElem?_cons_succ, List.set_cons_zero, List.set_cons_succ, Bool.false_eq_true, Sx, S2, hle2, nI_1, e1, CZ_0 hC, CZ_1 hC, hle3, hlt3, RA_ld (CZ hC), a8, s4, w48, hb, bi_eq0, not_true]
                exact hm
              · rw [if_pos ⟨hh, hb⟩] at hm
                simp only [u45_40b, u45_41, u45_44, u45_47, u45_48, u45_49, u45_50, u45_51, u45_52, u45_54, u45_56, u45_57, u45_60, u45_63, u45_64, u45_67, u45_69, u45_70b, u45_71, u45_72, u45_75, u45_78, u45_91, u45_94, mw_os, wp_ite, mw_sw, Option.toList_some, Option.toList_none, List.cons_append, List.nil_append, true_and, and_true, if_true, if_false, mw_s_, mw_s_i, mw_s_r, mw_s_ii, mw_s_ir, mw_s_ri, mw_s_rr, mw_s_iii, mw_s_iir, mw_s_iri, mw_s_irr, mw_s_rii, mw_s_rir, mw_s_rri, mw_s_rrr, mw_s_iiii, mw_s_iiir, mw_s_iiri, mw_s_iirr, mw_s_irii, mw_s_irir, mw_s_irri, mw_s_irrr, mw_s_riii, mw_s_riir, mw_s_riri, mw_s_rirr, mw_s_rrii, mw_s_rrir, mw_s_rrri, mw_s_rrrr, mm_sto1, mm_clr, mm_isL, List.getElem?_cons_zero, List.getElem?_cons_succ, List.set_cons_zero, List.set_cons_succ, Bool.false_eq_true, Sx, S2, hle2, e1, CZ_0 hC, CZ_1 hC, hle3, RA_ld (CZ hC), a8, s4, w48, hb, bi_eq0, reduceCtorEq, not_false_eq_true, nI_1]
                exact ihk (i + 1) (by omega) (by omega) hm _
            · rw [if_neg (fun z => hh z.1)] at hm
              have hle3 : (nI (gZn g) ≤ nI (place + 1 + i)) ↔ True := iff_true_intro (nI_le (by omega) (by omega))
              have hlt3 : (nI (gZn g) < nI (place + 1 + i)) ↔ False := iff_false_intro (nI_nlt (by omega) (by omega))
              simp only [u45_40b, u45_41, u45_44, u45_47, u45_48, u45_49, u45_50, u45_51, u45_52, u45_54, u45_56, u45_57, u45_60, u45_81, u45_83, u45_84, u45_87, u45_90, mw_os, wp_ite, mw_sw, Option.toList_some, Option.toList_none, List.cons_append, List.nil_append, true_and, and_true, if_true, if_false, mw_s_, mw_s_i, mw_s_r, mw_s_ii, mw_s_ir, mw_s_ri, mw_s_rr, mw_s_iii, mw_s_iir, mw_s_iri, mw_s_irr, mw_s_rii, mw_s_rir, mw_s_rri, mw_s_rrr, mw_s_iiii, mw_s_iiir, mw_s_iiri, mw_s_iirr, mw_s_irii, mw_s_irir, mw_s_irri, mw_s_irrr, mw_s_riii, mw_s_riir, mw_s_riri, mw_s_rirr, mw_s_rrii, mw_s_rrir, mw_s_rrri, mw_s_rrrr, mm_sto1, mm_clr, mm_isL, List.getElem?_cons_zero, List.getElem?_cons_succ, List.set_cons_zero, List.set_cons_succ, Bool.false_eq_true, Sx, S2, hle2, nI_1, e1, CZ_1 hC, hle3, hlt3]
              exact hm
        refine inner (shp (zN g place)).length 0 (by omega) (by omega) ?_ l4
        cases hi : inL g place (shp (zN g place)) (shp (zN g place)).length 0 with
        | some p =>
          rw [hi] at hq
          exact hq
        | none =>
          rw [hi] at hq
          intro l3 l4
          have e2 : nI place + (1 + nI (shp (zN g place)).length) = nI (place + 1 + (shp (zN g place)).length) := by
            rw [show (1 : Int32) + nI (shp (zN g place)).length = nI (1 + (shp (zN g place)).length) from nI_add 1 _, nI_add, Nat.add_assoc]
          simp only [u45_97, u45_98, u45_99, u45_100, u45_101, u45_104, u45_105, u45_106, u45_107, mw_os, wp_ite, mw_sw, Option.toList_some, Option.toList_none, List.cons_append, List.nil_append, true_and, and_true, if_true, if_false, mw_s_, mw_s_i, mw_s_r, mw_s_ii, mw_s_ir, mw_s_ri, mw_s_rr, mw_s_iii, mw_s_iir, mw_s_iri, mw_s_irr, mw_s_rii, mw_s_rir, mw_s_rri, mw_s_rrr, mw_s_iiii, mw_s_iiir, mw_s_iiri, mw_s_iirr, mw_s_irii, mw_s_irir, mw_s_irri, mw_s_irrr, mw_s_riii, mw_s_riir, mw_s_riri, mw_s_rirr, mw_s_rrii, mw_s_rrir, mw_s_rrri, mw_s_rrrr, mm_sto1, mm_clr, mm_isL, List.getElem?_cons_zero, List.getElem?_cons_succ, List.set_cons_zero, List.set_cons_succ, Bool.false_eq_true, CZ_x hC, W49 hC hg h, e2]
          exact ih _ (by omega) (by omega) hq _ _ _
    · rw [if_neg h] at hq
      have hle : (nI (gZn g) ≤ nI place) ↔ True := iff_true_intro (nI_le (by omega) (by omega))
      simp only [u45_12, u45_13, u45_16, u45_110, u45_111, mw_os, wp_ite, mw_sw, Option.toList_some, Option.toList_none, List.cons_append, List.nil_append, true_and, and_true, if_true, if_false, mw_s_, mw_s_i, mw_s_r, mw_s_ii, mw_s_ir, mw_s_ri, mw_s_rr, mw_s_iii, mw_s_iir, mw_s_iri, mw_s_irr, mw_s_rii, mw_s_rir, mw_s_rri, mw_s_rrr, mw_s_iiii, mw_s_iiir, mw_s_iiri, mw_s_iirr, mw_s_irii, mw_s_irir, mw_s_irri, mw_s_irrr, mw_s_riii, mw_s_riir, mw_s_riri, mw_s_rirr, mw_s_rrii, mw_s_rrir, mw_s_rrri, mw_s_rrrr, mm_sto1, mm_clr, mm_isL, List.getElem?_cons_zero, List.getElem?_cons_succ, List.set_cons_zero, List.set_cons_succ, Bool.false_eq_true, CZ_1 hC, hle]
      exact hq
end PA
