theorem shp_get {hd k : Nat} (h1 : 1 ≤ k) (h2 : k ≤ (shp hd).length) : (shp hd).getD (k - 1) 0 = if k = (shp hd).length then 59 else if hd = 107 ∧ k = 2 then 107 else 48 := by
  unfold shp at h2 ⊢
  by_cases a1 : hd = 99
  · rw [if_pos a1] at h2 ⊢
    rcases (show k = 1 ∨ k = 2 by simp at h2; omega) with rfl | rfl <;> simp [a1]
  · rw [if_neg a1] at h2 ⊢
    by_cases a2 : hd = 102
    · rw [if_pos a2] at h2 ⊢
      rcases (show k = 1 ∨ k = 2 ∨ k = 3 by simp at h2; omega) with rfl | rfl | rfl <;> simp [a2]
    · rw [if_neg a2] at h2 ⊢
      by_cases a3 : hd = 107
      · rw [if_pos a3] at h2 ⊢
        rcases (show k = 1 ∨ k = 2 ∨ k = 3 ∨ k = 4 by simp at h2; omega) with rfl | rfl | rfl | rfl <;> simp [a3]
      · rw [if_neg a3] at h2 ⊢
        by_cases a4 : hd = 111
        · rw [if_pos a4] at h2 ⊢
          rcases (show k = 1 by simp at h2; omega) with rfl; simp
        · rw [if_neg a4] at h2 ⊢
          by_cases a5 : hd = 119
          · rw [if_pos a5] at h2 ⊢
            rcases (show k = 1 ∨ k = 2 ∨ k = 3 ∨ k = 4 by simp at h2; omega) with rfl | rfl | rfl | rfl <;> simp [a5]
          · rw [if_neg a5] at h2; simp at h2; omega
def szN (c : Nat) : Nat := if c = 107 ∨ c = 119 then 4 else if c = 102 then 3 else if c = 111 then 1 else 2
theorem szN_le (c : Nat) : szN c ≤ 4 := by
  unfold szN
  split
  · omega
  · split
    · omega
    · split <;> omega
theorem szN_shp {c : Nat} (h : ¬ shp c = []) : szN c = (shp c).length := by
  unfold szN
  unfold shp at h ⊢
  by_cases a1 : c = 99
  · simp [a1]
  · by_cases a2 : c = 102
    · simp [a2]
    · by_cases a3 : c = 107
      · simp [a3]
      · by_cases a4 : c = 111
        · simp [a4]
        · by_cases a5 : c = 119
          · simp [a5]
          · simp [a1, a2, a3, a4, a5] at h
theorem shp_nil {c : Nat} : shp c = [] ↔ ¬ (c = 107 ∨ c = 119 ∨ c = 102 ∨ c = 111 ∨ c = 99) := by
  unfold shp
  by_cases a1 : c = 99
  · simp [a1]
  · by_cases a2 : c = 102
    · simp [a2]
    · by_cases a3 : c = 107
      · simp [a3]
      · by_cases a4 : c = 111
        · simp [a4]
        · by_cases a5 : c = 119
          · simp [a5]
          · simp [a1, a2, a3, a4, a5]
section PB
variable {scr : List Int32} {n : Nat} {M M0 : mm_M} {Q : Option Value → mm_M → Prop} {g : SG} {k c fr : Nat} {o : OV}
theorem C45 (hC : CS M g) (hg : SGOK g) (hQ : Q (some (.int (fltV g))) M) : Wp scr (n + 8) 45 [.ref 124] M Q := by
  have hz := hg.2.2.2.1
  unfold fltV at hQ
  by_cases h : gZn g = 0
  · rw [if_pos h] at hQ
    have c0 : (nI (gZn g) = 0) ↔ True := by rw [h]; exact iff_true_intro rfl
    simp only [e45, u45_0, u45_1, u45_4, u45_7, u45_8, mw_os, wp_ite, mw_sw, Option.toList_some, Option.toList_none, List.cons_append, List.nil_append, true_and, and_true, if_true, if_false, mw_s_, mw_s_i, mw_s_r, mw_s_ii, mw_s_ir, mw_s_ri, mw_s_rr, mw_s_iii, mw_s_iir, mw_s_iri, mw_s_irr, mw_s_rii, mw_s_rir, mw_s_rri, mw_s_rrr, mw_s_iiii, mw_s_iiir, mw_s_iiri, mw_s_iirr, mw_s_irii, mw_s_irir, mw_s_irri, mw_s_irrr, mw_s_riii, mw_s_riir, mw_s_riri, mw_s_rirr, mw_s_rrii, mw_s_rrir, mw_s_rrri, mw_s_rrrr, mm_sto1, mm_clr, mm_isL, List.getElem?_cons_zero, List.getElem?_cons_succ, List.set_cons_zero, List.set_cons_succ, Bool.false_eq_true, CZ_1 hC, c0, not_true]
    exact hQ
  · rw [if_neg h] at hQ
    have c0 : (nI (gZn g) = 0) ↔ False := iff_false_intro (nI_ne0 (by omega) (by omega))
    simp only [e45, u45_0, u45_1, u45_4, u45_9, u45_10, mw_os, wp_ite, mw_sw, Option.toList_some, Option.toList_none, List.cons_append, List.nil_append, true_and, and_true, if_true, if_false, mw_s_, mw_s_i, mw_s_r, mw_s_ii, mw_s_ir, mw_s_ri, mw_s_rr, mw_s_iii, mw_s_iir, mw_s_iri, mw_s_irr, mw_s_rii, mw_s_rir, mw_s_rri, mw_s_rrr, mw_s_iiii, mw_s_iiir, mw_s_iiri, mw_s_iirr, mw_s_irii, mw_s_irir, mw_s_irri, mw_s_irrr, mw_s_riii, mw_s_riir, mw_s_riri, mw_s_rirr, mw_s_rrii, mw_s_rrir, mw_s_rrri, mw_s_rrrr, mm_sto1, mm_clr, mm_isL, List.getElem?_cons_zero, List.getElem?_cons_succ, List.set_cons_zero, List.set_cons_succ, Bool.false_eq_true, CZ_1 hC, c0, not_false_eq_true]
    exact C45l hC hg (gZn g + 1) 0 (by omega) (by omega) hQ none none none
theorem W144 (hc : c < 256) : Wp scr (n + 1) 144 [.int (nI c)] M Q ↔ Q (some (.int (nI (szN c)))) M := by
  have q : ∀ k : Nat, k < 256 → ((nI c = nI k) ↔ c = k) := fun k hk => nI_eq (by omega) (by omega)
  have q2 : (nI c = 102) ↔ c = 102 := q 102 (by decide)
  have q3 : (nI c = 107) ↔ c = 107 := q 107 (by decide)
  have q4 : (nI c = 111) ↔ c = 111 := q 111 (by decide)
  have q5 : (nI c = 119) ↔ c = 119 := q 119 (by decide)
  unfold szN
  simp only [e144, u144_0, u144_1, u144_3, u144_6, u144_7, u144_9, u144_12, u144_13, u144_16, u144_17, u144_19, u144_22, u144_23, u144_26, u144_27, u144_29, u144_32, u144_33, u144_36, u144_37, mw_os, wp_ite, mw_sw, Option.toList_some, Option.toList_none, List.cons_append, List.nil_append, true_and, and_true, if_true, if_false, mw_s_, mw_s_i, mw_s_r, mw_s_ii, mw_s_ir, mw_s_ri, mw_s_rr, mw_s_iii, mw_s_iir, mw_s_iri, mw_s_irr, mw_s_rii, mw_s_rir, mw_s_rri, mw_s_rrr, mw_s_iiii, mw_s_iiir, mw_s_iiri, mw_s_iirr, mw_s_irii, mw_s_irir, mw_s_irri, mw_s_irrr, mw_s_riii, mw_s_riir, mw_s_riri, mw_s_rirr, mw_s_rrii, mw_s_rrir, mw_s_rrri, mw_s_rrrr, q2, q3, q4, q5]
  by_cases a3 : c = 107
  · simp only [a3, if_true, true_or]; exact Iff.rfl
  · by_cases a5 : c = 119
    · simp only [a3, a5, if_true, if_false, or_true, not_true]; exact Iff.rfl
    · by_cases a2 : c = 102
      · simp only [a3, a5, a2, if_true, if_false, or_self, not_false_eq_true, not_true]; exact Iff.rfl
      · by_cases a4 : c = 111
        · simp only [a3, a5, a2, a4, if_true, if_false, or_self, not_false_eq_true, not_true]; exact Iff.rfl
        · simp only [a3, a5, a2, a4, if_false, or_self, not_false_eq_true, if_true]; exact Iff.rfl
theorem at_z (hg : SGOK g) (hk : k < gZn g) : mm_at (gZ g) (nI k) = some (nI (zN g k)) := by
  have hz := hg.2.2.2.1
  exact (gi_atN (by omega) (by omega)).trans (by rw [(zN_eq hg hk).1])
theorem W145_0 {sz : Int32} (hg : SGOK g) (hO : OA M o) (hZ : RA M 141 (gZ g)) (hk : fr < gZn g) : Wp scr (n + 8) 145 [.ref 129, .int (nI fr), .int (nI 0), .int sz] M Q ↔ Q (some (.int (bi (!decide (shp (zN g fr) = []))))) M := by
  have hz := hg.2.2.2.1
  have hc := (zN_eq hg hk).2
  have q : ∀ k : Nat, k < 256 → ((nI (zN g fr) = nI k) ↔ zN g fr = k) := fun k hk => nI_eq (by omega) (by omega)
  have q1 : (nI (zN g fr) = 99) ↔ zN g fr = 99 := q 99 (by decide)
  have q2 : (nI (zN g fr) = 102) ↔ zN g fr = 102 := q 102 (by decide)
  have q3 : (nI (zN g fr) = 107) ↔ zN g fr = 107 := q 107 (by decide)
  have q4 : (nI (zN g fr) = 111) ↔ zN g fr = 111 := q 111 (by decide)
  have q5 : (nI (zN g fr) = 119) ↔ zN g fr = 119 := q 119 (by decide)
  have e0 : nI fr + nI 0 = nI fr := nI_add fr 0
  have c0 : (nI 0 = 0) ↔ True := iff_true_intro rfl
  simp only [e145, u145_0, u145_0b, u145_1, u145_4, u145_5, u145_6, u145_7, u145_8, u145_10, u145_11, u145_14, u145_16, u145_18, u145_21, u145_23, u145_25, u145_28, u145_30, u145_32, u145_35, u145_37, u145_39, u145_42, u145_44, u145_46, u145_49, u145_50, u145_53, u145_54, u145_55, u145_56, u145_57, u145_60, u145_62, u145_64, u145_67, u145_68, u145_71, u145_72, u145_73, u145_73b, u145_74, u145_77, u145_78, u145_79, u145_81, u145_84, u145_85, u145_86, u145_89, u145_91, u145_93, u145_96, u145_99, u145_100, u145_103, u145_104, u145_107, u145_109, u145_110, u145_113, u145_116, u145_119, mw_os, wp_ite, mw_sw, Option.toList_some, Option.toList_none, List.cons_append, List.nil_append, true_and, and_true, if_true, if_false, mw_s_, mw_s_i, mw_s_r, mw_s_ii, mw_s_ir, mw_s_ri, mw_s_rr, mw_s_iii, mw_s_iir, mw_s_iri, mw_s_irr, mw_s_rii, mw_s_rir, mw_s_rri, mw_s_rrr, mw_s_iiii, mw_s_iiir, mw_s_iiri, mw_s_iirr, mw_s_irii, mw_s_irir, mw_s_irri, mw_s_irrr, mw_s_riii, mw_s_riir, mw_s_riri, mw_s_rirr, mw_s_rrii, mw_s_rrir, mw_s_rrri, mw_s_rrrr, mm_sto1, mm_clr, mm_isL, List.getElem?_cons_zero, List.getElem?_cons_succ, List.set_cons_zero, List.set_cons_succ, Bool.false_eq_true, OA_7 hO, e0, RA_ld hZ, at_z hg hk, c0, not_true, q1, q2, q3, q4, q5]
  by_cases hN : shp (zN g fr) = []
  · have hn := shp_nil.mp hN
    have a3 : ¬ zN g fr = 107 := fun z => hn (Or.inl z)
    have a5 : ¬ zN g fr = 119 := fun z => hn (Or.inr (Or.inl z))
    have a2 : ¬ zN g fr = 102 := fun z => hn (Or.inr (Or.inr (Or.inl z)))
    have a4 : ¬ zN g fr = 111 := fun z => hn (Or.inr (Or.inr (Or.inr (Or.inl z))))
    have a1 : ¬ zN g fr = 99 := fun z => hn (Or.inr (Or.inr (Or.inr (Or.inr z))))
    rw [decide_eq_true hN]
    simp [a1, a2, a3, a4, a5, bi]
  · have hn : zN g fr = 107 ∨ zN g fr = 119 ∨ zN g fr = 102 ∨ zN g fr = 111 ∨ zN g fr = 99 := Decidable.byContradiction (fun z => hN (shp_nil.mpr z))
    rw [decide_eq_false hN]
    rcases hn with a | a | a | a | a <;> simp [a, bi]
theorem W145_k (hg : SGOK g) (hO : OA M o) (hZ : RA M 141 (gZ g)) (h1 : 1 ≤ k) (h2 : k ≤ (shp (zN g fr)).length) (hk : fr + k < gZn g) : Wp scr (n + 8) 145 [.ref 129, .int (nI fr), .int (nI k), .int (nI (shp (zN g fr)).length)] M Q ↔ Q (some (.int (bi (fitN (zN g (fr + k)) ((shp (zN g fr)).getD (k - 1) 0))))) M := by
  have hz := hg.2.2.2.1
  have hl4 := shp_len (zN g fr)
  have hc := (zN_eq hg hk).2
  have hch := (zN_eq hg (show fr < gZn g by omega)).2
  have a0 := at_z hg (show fr < gZn g by omega)
  have c0 : (nI k = 0) ↔ False := iff_false_intro (nI_ne0 h1 (by omega))
  have cs : (nI k = nI (shp (zN g fr)).length) ↔ k = (shp (zN g fr)).length := nI_eq (by omega) (by omega)
  have q59 : (nI (zN g (fr + k)) = 59) ↔ zN g (fr + k) = 59 := nI_eq (b := 59) (by omega) (by decide)
  have q107 : (nI (zN g fr) = 107) ↔ zN g fr = 107 := nI_eq (b := 107) (by omega) (by decide)
  have qk2 : (nI k = 2) ↔ k = 2 := nI_eq (b := 2) (by omega) (by decide)
  have hin : inB (nI (zN g (fr + k))).toInt64 48 57 = decide (48 ≤ zN g (fr + k) ∧ zN g (fr + k) ≤ 57) := (inB_eq (nI (zN g (fr + k))) 48 57).trans (by
    rw [decide_eq_decide]
    exact and_congr (nI_leI (a := 48) (by decide) (by omega)) (nI_leI (b := 57) (by omega) (by decide)))
  have hgt := shp_get h1 h2
  simp only [e145, u145_0, u145_0b, u145_1, u145_4, u145_5, u145_6, u145_7, u145_8, u145_10, u145_11, u145_14, u145_16, u145_18, u145_21, u145_23, u145_25, u145_28, u145_30, u145_32, u145_35, u145_37, u145_39, u145_42, u145_44, u145_46, u145_49, u145_50, u145_53, u145_54, u145_55, u145_56, u145_57, u145_60, u145_62, u145_64, u145_67, u145_68, u145_71, u145_72, u145_73, u145_73b, u145_74, u145_77, u145_78, u145_79, u145_81, u145_84, u145_85, u145_86, u145_89, u145_91, u145_93, u145_96, u145_99, u145_100, u145_103, u145_104, u145_107, u145_109, u145_110, u145_113, u145_116, u145_119, mw_os, wp_ite, mw_sw, Option.toList_some, Option.toList_none, List.cons_append, List.nil_append, true_and, and_true, if_true, if_false, mw_s_, mw_s_i, mw_s_r, mw_s_ii, mw_s_ir, mw_s_ri, mw_s_rr, mw_s_iii, mw_s_iir, mw_s_iri, mw_s_irr, mw_s_rii, mw_s_rir, mw_s_rri, mw_s_rrr, mw_s_iiii, mw_s_iiir, mw_s_iiri, mw_s_iirr, mw_s_irii, mw_s_irir, mw_s_irri, mw_s_irrr, mw_s_riii, mw_s_riir, mw_s_riri, mw_s_rirr, mw_s_rrii, mw_s_rrir, mw_s_rrri, mw_s_rrrr, mm_sto1, mm_clr, mm_isL, List.getElem?_cons_zero, List.getElem?_cons_succ, List.set_cons_zero, List.set_cons_succ, Bool.false_eq_true, OA_7 hO, nI_add, RA_ld hZ, at_z hg hk, a0, c0, not_false_eq_true, cs, q59, q107, qk2, x_37, W7_37 hc, W146, hin, bi_01]
  by_cases b1 : k = (shp (zN g fr)).length
  · rw [if_pos b1] at hgt
    have e : fitN (zN g (fr + k)) 59 = decide (zN g (fr + k) = 59) := rfl
    rw [if_pos b1, hgt, e]
    by_cases b2 : zN g (fr + k) = 59 <;> simp [b2, bi]
  · rw [if_neg b1] at hgt
    rw [if_neg b1]
    by_cases b3 : zN g fr = 107 ∧ k = 2
    · rw [if_pos b3] at hgt
      have e : fitN (zN g (fr + k)) 107 = decide ((0 : Int32) ≤ kdV (zN g (fr + k))) := rfl
      rw [hgt, e]
      generalize kdV (zN g (fr + k)) = kv
      by_cases h : kv < 0
      · have h' : ¬ (0 : Int32) ≤ kv := fun z => Int32.not_lt.mpr z h
        simp only [b3.1, b3.2, h, h', if_true, if_false, not_true, decide_false, bi_f]
        simp
      · have h' : (0 : Int32) ≤ kv := Int32.not_lt.mp h
        simp only [b3.1, b3.2, h, h', if_true, if_false, not_true, decide_true, bi_t]
        simp
    · rw [if_neg b3] at hgt
      have e : fitN (zN g (fr + k)) 48 = decide (48 ≤ zN g (fr + k) ∧ zN g (fr + k) ≤ 57) := rfl
      rw [hgt, e]
      by_cases b4 : zN g fr = 107
      · have b5 : ¬ k = 2 := fun z => b3 ⟨b4, z⟩
        simp [b4, b5]
      · simp [b4]
theorem M143l (hg : SGOK g) (hO : OA M o) (hZ : RA M 141 (gZ g)) : ∀ (f place : Nat), gZn g + 1 ≤ place + f → place ≤ 200 → 0 < gZn g → (Q (some (.int (oI (-1) (outL g f place)))) M) → ∀ l3 l4, wp scr (n + 8) mb_143 2 [some (.ref 129), some (.int (nI (gZn g))), some (.int (nI place)), l3, l4] [] M Q := by
  have hz := hg.2.2.2.1
  intro f
  induction f with
  | zero =>
    intro place hf hp h0 hq l3 l4
    have hle : (nI (gZn g) ≤ nI place) ↔ True := iff_true_intro (nI_le (by omega) (by omega))
    have c0 : (nI (gZn g) = 0) ↔ False := iff_false_intro (nI_ne0 h0 (by omega))
    refine u143_2.mpr ?_
    simp only [u143_3, u143_4, u143_65, u143_66, u143_73, u143_74, mw_os, wp_ite, mw_sw, Option.toList_some, Option.toList_none, List.cons_append, List.nil_append, true_and, and_true, if_true, if_false, mw_s_, mw_s_i, mw_s_r, mw_s_ii, mw_s_ir, mw_s_ri, mw_s_rr, mw_s_iii, mw_s_iir, mw_s_iri, mw_s_irr, mw_s_rii, mw_s_rir, mw_s_rri, mw_s_rrr, mw_s_iiii, mw_s_iiir, mw_s_iiri, mw_s_iirr, mw_s_irii, mw_s_irir, mw_s_irri, mw_s_irrr, mw_s_riii, mw_s_riir, mw_s_riri, mw_s_rirr, mw_s_rrii, mw_s_rrir, mw_s_rrri, mw_s_rrrr, mm_sto1, mm_clr, mm_isL, List.getElem?_cons_zero, List.getElem?_cons_succ, List.set_cons_zero, List.set_cons_succ, Bool.false_eq_true, hle, c0, not_false_eq_true]
    exact hq
  | succ f ih =>
    intro place hf hp h0 hq l3 l4
    rw [outL] at hq
    refine u143_2.mpr ?_
    by_cases h : place < gZn g
    · rw [if_pos h] at hq
      have hle : (nI (gZn g) ≤ nI place) ↔ False := iff_false_intro (nI_ge h (by omega))
      have hc256 := (zN_eq hg h).2
      have e0 : nI place + 0 = nI place := nI_add place 0
      have ne0 : (nI place = nI (gZn g)) ↔ False := iff_false_intro (fun z => by have := (nI_eq (by omega) (by omega)).mp z; omega)
      have w145 := fun (sz : Int32) Q => W145_0 (scr := scr) (n := n) (M := M) (Q := Q) (sz := sz) hg hO hZ h
      by_cases he : shp (zN g place) = []
      · rw [if_pos he] at hq
        have w145' : ∀ (sz : Int32) (Q : Option Value → mm_M → Prop), Wp scr (n + 8) 145 [.ref 129, .int (nI place), .int 0, .int sz] M Q ↔ Q (some (.int 0)) M := fun sz Q => by
          have := w145 sz Q
          rw [decide_eq_true he] at this
          exact this
        have lt0 : (nI (szN (zN g place)) < 0) ↔ False := iff_false_intro (nI_pos (by have := szN_le (zN g place); omega))
        simp only [u143_3, u143_4, u143_7, u143_8, u143_11, u143_12, u143_13, u143_16, u143_17, u143_18, u143_20, u143_22, u143_23, u143_26, u143_27, u143_29, u143_30, u143_31, u143_34, u143_35, u143_36, u143_38, u143_39, u143_42, u143_45, u143_46, u143_48, u143_49, mw_os, wp_ite, mw_sw, Option.toList_some, Option.toList_none, List.cons_append, List.nil_append, true_and, and_true, if_true, if_false, mw_s_, mw_s_i, mw_s_r, mw_s_ii, mw_s_ir, mw_s_ri, mw_s_rr, mw_s_iii, mw_s_iir, mw_s_iri, mw_s_irr, mw_s_rii, mw_s_rir, mw_s_rri, mw_s_rrr, mw_s_iiii, mw_s_iiir, mw_s_iiri, mw_s_iirr, mw_s_irii, mw_s_irir, mw_s_irri, mw_s_irrr, mw_s_riii, mw_s_riir, mw_s_riri, mw_s_rirr, mw_s_rrii, mw_s_rrir, mw_s_rrri, mw_s_rrrr, mm_sto1, mm_clr, mm_isL, List.getElem?_cons_zero, List.getElem?_cons_succ, List.set_cons_zero, List.set_cons_succ, Bool.false_eq_true, hle, OA_7 hO, RA_ld hZ, at_z hg h, W144 hc256, lt0, e0, ne0, OA_x hO, w145', not_true]
        exact hq
      · rw [if_neg he] at hq
        have hl4 := shp_len (zN g place)
        have w145' : ∀ (sz : Int32) (Q : Option Value → mm_M → Prop), Wp scr (n + 8) 145 [.ref 129, .int (nI place), .int 0, .int sz] M Q ↔ Q (some (.int 1)) M := fun sz Q => by
          have := w145 sz Q
          rw [decide_eq_false he] at this
          exact this
        have lt0 : (nI (shp (zN g place)).length < 0) ↔ False := iff_false_intro (nI_pos (by omega))
        have z1 : ((1 : Int32) = 0) ↔ False := by decide
        have i01 : (0 : Int32) + 1 = nI 1 := rfl
        simp only [u143_3, u143_4, u143_7, u143_8, u143_11, u143_12, u143_13, u143_16, u143_17, u143_18, mw_os, wp_ite, mw_sw, Option.toList_some, Option.toList_none, List.cons_append, List.nil_append, true_and, and_true, if_true, if_false, mw_s_, mw_s_i, mw_s_r, mw_s_ii, mw_s_ir, mw_s_ri, mw_s_rr, mw_s_iii, mw_s_iir, mw_s_iri, mw_s_irr, mw_s_rii, mw_s_rir, mw_s_rri, mw_s_rrr, mw_s_iiii, mw_s_iiir, mw_s_iiri, mw_s_iirr, mw_s_irii, mw_s_irir, mw_s_irri, mw_s_irrr, mw_s_riii, mw_s_riir, mw_s_riri, mw_s_rirr, mw_s_rrii, mw_s_rrir, mw_s_rrri, mw_s_rrrr, mm_sto1, mm_clr, mm_isL, List.getElem?_cons_zero, List.getElem?_cons_succ, List.set_cons_zero, List.set_cons_succ, Bool.false_eq_true, hle, OA_7 hO, RA_ld hZ, at_z hg h, W144 hc256]
        rw [szN_shp he]
        have inner : ∀ (k i : Nat), i + k = (shp (zN g place)).length → place + 1 + i ≤ gZn g → (match inL g place (shp (zN g place)) k i with | some p => Q (some (.int (nI p))) M | none => ∀ l4, wp scr (n + 8) mb_143 56 [some (.ref 129), some (.int (nI (gZn g))), some (.int (nI place)), some (.int (nI (shp (zN g place)).length)), l4] [] M Q) → wp scr (n + 8) mb_143 20 [some (.ref 129), some (.int (nI (gZn g))), some (.int (nI place)), some (.int (nI (shp (zN g place)).length)), some (.int (nI (i + 1)))] [] M Q := by
          intro k
          induction k with
          | zero =>
            intro i hi hpl hm
            have hlt : (nI (shp (zN g place)).length < nI (i + 1)) ↔ True := iff_true_intro (nI_lt (by omega) (by omega))
            refine u143_20.mpr ?_
            simp only [u143_22, u143_23, mw_os, wp_ite, mw_sw, Option.toList_some, Option.toList_none, List.cons_append, List.nil_append, true_and, and_true, if_true, if_false, mw_s_, mw_s_i, mw_s_r, mw_s_ii, mw_s_ir, mw_s_ri, mw_s_rr, mw_s_iii, mw_s_iir, mw_s_iri, mw_s_irr, mw_s_rii, mw_s_rir, mw_s_rri, mw_s_rrr, mw_s_iiii, mw_s_iiir, mw_s_iiri, mw_s_iirr, mw_s_irii, mw_s_irir, mw_s_irri, mw_s_irrr, mw_s_riii, mw_s_riir, mw_s_riri, mw_s_rirr, mw_s_rrii, mw_s_rrir, mw_s_rrri, mw_s_rrrr, mm_sto1, mm_clr, mm_isL, List.getElem?_cons_zero, List.getElem?_cons_succ, List.set_cons_zero, List.set_cons_succ, Bool.false_eq_true, hlt]
            exact hm _
          | succ k ihk =>
            intro i hi hpl hm
            have hlt : (nI (shp (zN g place)).length < nI (i + 1)) ↔ False := iff_false_intro (nI_nlt (by omega) (by omega))
            have e1 : place + (i + 1) = place + 1 + i := by omega
            rw [inL] at hm
            refine u143_20.mpr ?_
            by_cases hh : place + 1 + i < gZn g
            · have ne1 : (nI (place + 1 + i) = nI (gZn g)) ↔ False := iff_false_intro (fun z => by have := (nI_eq (by omega) (by omega)).mp z; omega)
              have w := fun Q => W145_k (scr := scr) (n := n) (M := M) (Q := Q) (fr := place) (k := i + 1) hg hO hZ (by omega) (by omega) (by omega)
              simp only [Nat.add_sub_cancel, e1] at w
              cases hb : fitN (zN g (place + 1 + i)) ((shp (zN g place)).getD i 0)
              · rw [if_neg (fun z => absurd z.2 (by rw [hb]; decide))] at hm
                simp only [u143_22, u143_23, u143_26, u143_27, u143_29, u143_30, u143_31, u143_34, u143_35, u143_36, u143_38, u143_39, u143_42, u143_45, u143_46, u143_48, u143_49, mw_os, wp_ite, mw_sw, Option.toList_some, Option.toList_none, List.cons_append, List.nil_append, true_and, and_true, if_true, if_false, mw_s_, mw_s_i, mw_s_r, mw_s_ii, mw_s_ir, mw_s_ri, mw_s_rr, mw_s_iii, mw_s_iir, mw_s_iri, mw_s_irr, mw_s_rii, mw_s_rir, mw_s_rri, mw_s_rrr, mw_s_iiii, mw_s_iiir, mw_s_iiri, mw_s_iirr, mw_s_irii, mw_s_irir, mw_s_irri, mw_s_irrr, mw_s_riii, mw_s_riir, mw_s_riri, mw_s_rirr, mw_s_rrii, mw_s_rrir, mw_s_rrri, mw_s_rrrr, mm_sto1, mm_clr, mm_isL, List.getElem?_cons_zero, List.getElem?_cons_succ, List.set_cons_zero, List.set_cons_succ, Bool.false_eq_true, hlt, nI_add, e1, ne1, OA_x hO, w, hb, bi_eq0, not_true]
                exact hm
              · rw [if_pos ⟨hh, hb⟩] at hm
                simp only [u143_22, u143_23, u143_26, u143_27, u143_29, u143_30, u143_31, u143_34, u143_35, u143_36, u143_38, u143_39, u143_42, u143_50, u143_53, mw_os, wp_ite, mw_sw, Option.toList_some, Option.toList_none, List.cons_append, List.nil_append, true_and, and_true, if_true, if_false, mw_s_, mw_s_i, mw_s_r, mw_s_ii, mw_s_ir, mw_s_ri, mw_s_rr, mw_s_iii, mw_s_iir, mw_s_iri, mw_s_irr, mw_s_rii, mw_s_rir, mw_s_rri, mw_s_rrr, mw_s_iiii, mw_s_iiir, mw_s_iiri, mw_s_iirr, mw_s_irii, mw_s_irir, mw_s_irri, mw_s_irrr, mw_s_riii, mw_s_riir, mw_s_riri, mw_s_rirr, mw_s_rrii, mw_s_rrir, mw_s_rrri, mw_s_rrrr, mm_sto1, mm_clr, mm_isL, List.getElem?_cons_zero, List.getElem?_cons_succ, List.set_cons_zero, List.set_cons_succ, Bool.false_eq_true, hlt, nI_add, e1, ne1, OA_x hO, w, hb, bi_eq0, reduceCtorEq, not_false_eq_true, nI_1]
                exact ihk (i + 1) (by omega) (by omega) hm
            · rw [if_neg (fun z => hh z.1)] at hm
              have ne1 : (nI (place + 1 + i) = nI (gZn g)) ↔ True := iff_true_intro (by rw [show place + 1 + i = gZn g by omega])
              simp only [u143_22, u143_23, u143_26, u143_27, u143_29, u143_30, u143_31, u143_45, u143_46, u143_48, u143_49, mw_os, wp_ite, mw_sw, Option.toList_some, Option.toList_none, List.cons_append, List.nil_append, true_and, and_true, if_true, if_false, mw_s_, mw_s_i, mw_s_r, mw_s_ii, mw_s_ir, mw_s_ri, mw_s_rr, mw_s_iii, mw_s_iir, mw_s_iri, mw_s_irr, mw_s_rii, mw_s_rir, mw_s_rri, mw_s_rrr, mw_s_iiii, mw_s_iiir, mw_s_iiri, mw_s_iirr, mw_s_irii, mw_s_irir, mw_s_irri, mw_s_irrr, mw_s_riii, mw_s_riir, mw_s_riri, mw_s_rirr, mw_s_rrii, mw_s_rrir, mw_s_rrri, mw_s_rrrr, mm_sto1, mm_clr, mm_isL, List.getElem?_cons_zero, List.getElem?_cons_succ, List.set_cons_zero, List.set_cons_succ, Bool.false_eq_true, hlt, nI_add, e1, ne1]
              exact hm
        have fin : wp scr (n + 8) mb_143 20 [some (.ref 129), some (.int (nI (gZn g))), some (.int (nI place)), some (.int (nI (shp (zN g place)).length)), some (.int (nI 1))] [] M Q := by
          refine inner (shp (zN g place)).length 0 (by omega) (by omega) ?_
          cases hi : inL g place (shp (zN g place)) (shp (zN g place)).length 0 with
          | some p =>
            rw [hi] at hq
            exact hq
          | none =>
            rw [hi] at hq
            intro l4
            have e2 : nI place + nI ((shp (zN g place)).length + 1) = nI (place + 1 + (shp (zN g place)).length) := by
              rw [nI_add]; congr 1; omega
            simp only [u143_56, u143_57, u143_58, u143_59, u143_60, u143_61, u143_62, mw_os, wp_ite, mw_sw, Option.toList_some, Option.toList_none, List.cons_append, List.nil_append, true_and, and_true, if_true, if_false, mw_s_, mw_s_i, mw_s_r, mw_s_ii, mw_s_ir, mw_s_ri, mw_s_rr, mw_s_iii, mw_s_iir, mw_s_iri, mw_s_irr, mw_s_rii, mw_s_rir, mw_s_rri, mw_s_rrr, mw_s_iiii, mw_s_iiir, mw_s_iiri, mw_s_iirr, mw_s_irii, mw_s_irir, mw_s_irri, mw_s_irrr, mw_s_riii, mw_s_riir, mw_s_riri, mw_s_rirr, mw_s_rrii, mw_s_rrir, mw_s_rrri, mw_s_rrrr, mm_sto1, mm_clr, mm_isL, List.getElem?_cons_zero, List.getElem?_cons_succ, List.set_cons_zero, List.set_cons_succ, Bool.false_eq_true, nI_1, e2]
            exact ih _ (by omega) (by omega) h0 hq _ _
        refine u143_20.mpr ?_
        simp only [u143_22, u143_23, u143_26, u143_27, u143_29, u143_30, u143_31, u143_34, u143_35, u143_36, u143_38, u143_39, u143_42, u143_50, u143_53, mw_os, wp_ite, mw_sw, Option.toList_some, Option.toList_none, List.cons_append, List.nil_append, true_and, and_true, if_true, if_false, mw_s_, mw_s_i, mw_s_r, mw_s_ii, mw_s_ir, mw_s_ri, mw_s_rr, mw_s_iii, mw_s_iir, mw_s_iri, mw_s_irr, mw_s_rii, mw_s_rir, mw_s_rri, mw_s_rrr, mw_s_iiii, mw_s_iiir, mw_s_iiri, mw_s_iirr, mw_s_irii, mw_s_irir, mw_s_irri, mw_s_irrr, mw_s_riii, mw_s_riir, mw_s_riri, mw_s_rirr, mw_s_rrii, mw_s_rrir, mw_s_rrri, mw_s_rrrr, mm_sto1, mm_clr, mm_isL, List.getElem?_cons_zero, List.getElem?_cons_succ, List.set_cons_zero, List.set_cons_succ, Bool.false_eq_true, lt0, e0, ne0, OA_x hO, w145', z1, not_false_eq_true, i01]
        exact fin
    · rw [if_neg h] at hq
      have hle : (nI (gZn g) ≤ nI place) ↔ True := iff_true_intro (nI_le (by omega) (by omega))
      have c0 : (nI (gZn g) = 0) ↔ False := iff_false_intro (nI_ne0 h0 (by omega))
      simp only [u143_3, u143_4, u143_65, u143_66, u143_73, u143_74, mw_os, wp_ite, mw_sw, Option.toList_some, Option.toList_none, List.cons_append, List.nil_append, true_and, and_true, if_true, if_false, mw_s_, mw_s_i, mw_s_r, mw_s_ii, mw_s_ir, mw_s_ri, mw_s_rr, mw_s_iii, mw_s_iir, mw_s_iri, mw_s_irr, mw_s_rii, mw_s_rir, mw_s_rri, mw_s_rrr, mw_s_iiii, mw_s_iiir, mw_s_iiri, mw_s_iirr, mw_s_irii, mw_s_irir, mw_s_irri, mw_s_irrr, mw_s_riii, mw_s_riir, mw_s_riri, mw_s_rirr, mw_s_rrii, mw_s_rrir, mw_s_rrri, mw_s_rrrr, mm_sto1, mm_clr, mm_isL, List.getElem?_cons_zero, List.getElem?_cons_succ, List.set_cons_zero, List.set_cons_succ, Bool.false_eq_true, hle, c0, not_false_eq_true]
      exact hq
theorem M143 (hg : SGOK g) (hO : OA M o) (hZ : RA M 141 (gZ g)) (hQ : Q (some (.int (fltV g))) M) : Wp scr (n + 9) 143 [.ref 129, .int (nI (gZn g))] M Q := by
  unfold fltV at hQ
  by_cases h : gZn g = 0
  · rw [if_pos h] at hQ
    have hle : (nI (gZn g) ≤ 0) ↔ True := by rw [h]; exact iff_true_intro (by decide +kernel)
    have c0 : (nI (gZn g) = 0) ↔ True := by rw [h]; exact iff_true_intro rfl
    simp only [e143, u143_0, u143_1, u143_2, u143_3, u143_4, u143_65, u143_66, u143_69, u143_70, u143_74, mw_os, wp_ite, mw_sw, Option.toList_some, Option.toList_none, List.cons_append, List.nil_append, true_and, and_true, if_true, if_false, mw_s_, mw_s_i, mw_s_r, mw_s_ii, mw_s_ir, mw_s_ri, mw_s_rr, mw_s_iii, mw_s_iir, mw_s_iri, mw_s_irr, mw_s_rii, mw_s_rir, mw_s_rri, mw_s_rrr, mw_s_iiii, mw_s_iiir, mw_s_iiri, mw_s_iirr, mw_s_irii, mw_s_irir, mw_s_irri, mw_s_irrr, mw_s_riii, mw_s_riir, mw_s_riri, mw_s_rirr, mw_s_rrii, mw_s_rrir, mw_s_rrri, mw_s_rrrr, mm_sto1, mm_clr, mm_isL, List.getElem?_cons_zero, List.getElem?_cons_succ, List.set_cons_zero, List.set_cons_succ, Bool.false_eq_true, hle, c0, not_true]
    exact hQ
  · rw [if_neg h] at hQ
    simp only [e143, u143_0, u143_1, mw_os, wp_ite, mw_sw, Option.toList_some, Option.toList_none, List.cons_append, List.nil_append, true_and, and_true, if_true, if_false, mw_s_, mw_s_i, mw_s_r, mw_s_ii, mw_s_ir, mw_s_ri, mw_s_rr, mw_s_iii, mw_s_iir, mw_s_iri, mw_s_irr, mw_s_rii, mw_s_rir, mw_s_rri, mw_s_rrr, mw_s_iiii, mw_s_iiir, mw_s_iiri, mw_s_iirr, mw_s_irii, mw_s_irir, mw_s_irri, mw_s_irrr, mw_s_riii, mw_s_riir, mw_s_riri, mw_s_rirr, mw_s_rrii, mw_s_rrir, mw_s_rrri, mw_s_rrrr, mm_sto1, mm_clr, mm_isL, List.getElem?_cons_zero, List.getElem?_cons_succ, List.set_cons_zero, List.set_cons_succ, Bool.false_eq_true]
    exact M143l hg hO hZ (gZn g + 1) 0 (by omega) (by omega) (by omega) hQ none none
end PB
