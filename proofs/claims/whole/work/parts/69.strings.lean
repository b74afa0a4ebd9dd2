/-! strings -/
section STR
variable {scr : List Int32} {n : Nat} {M : mm_M} {Q : Option Value → mm_M → Prop} {c : Nat}
theorem Wp_evq {F k : Nat} {as : List Value} {r : Option Value} {M' : mm_M} (h : mm_ev mc_fty (mc_X scr) mc_nf 1 mc_P F n k as M = some (r, M')) : Wp scr n k as M Q ↔ Q r M' := by
  constructor
  · rintro ⟨F2, r2, M2, h2, hq⟩
    have a := mm_ev_le (Nat.le_max_left F F2) n n (Nat.le_refl _) _ _ _ _ h
    have b := mm_ev_le (Nat.le_max_right F F2) n n (Nat.le_refl _) _ _ _ _ h2
    rw [a] at b
    cases b
    exact hq
  · intro hq
    exact ⟨F, r, M', h, hq⟩
theorem s2_31 : Wp scr (n + 3) 2 [.retAddr 31] M Q ↔ Q (some (.int 4)) M := Wp_evq (F := 40) rfl
theorem s2_32 : Wp scr (n + 3) 2 [.retAddr 32] M Q ↔ Q (some (.int 4)) M := Wp_evq (F := 40) rfl
theorem s2_33 : Wp scr (n + 3) 2 [.retAddr 33] M Q ↔ Q (some (.int 3)) M := Wp_evq (F := 40) rfl
theorem s2_34 : Wp scr (n + 3) 2 [.retAddr 34] M Q ↔ Q (some (.int 1)) M := Wp_evq (F := 40) rfl
theorem s2_35 : Wp scr (n + 3) 2 [.retAddr 35] M Q ↔ Q (some (.int 2)) M := Wp_evq (F := 40) rfl
theorem s2_36 : Wp scr (n + 3) 2 [.retAddr 36] M Q ↔ Q (some (.int 0)) M := Wp_evq (F := 40) rfl
theorem s1_31 : Wp scr (n + 3) 1 [.retAddr 31] M Q ↔ Q (some (.int 0)) M := Wp_evq (F := 40) rfl
theorem s1_32 : Wp scr (n + 3) 1 [.retAddr 32] M Q ↔ Q (some (.int 0)) M := Wp_evq (F := 40) rfl
theorem s1_33 : Wp scr (n + 3) 1 [.retAddr 33] M Q ↔ Q (some (.int 0)) M := Wp_evq (F := 40) rfl
theorem s1_34 : Wp scr (n + 3) 1 [.retAddr 34] M Q ↔ Q (some (.int 0)) M := Wp_evq (F := 40) rfl
theorem s1_35 : Wp scr (n + 3) 1 [.retAddr 35] M Q ↔ Q (some (.int 0)) M := Wp_evq (F := 40) rfl
theorem s1_36 : Wp scr (n + 3) 1 [.retAddr 36] M Q ↔ Q (some (.int 1)) M := Wp_evq (F := 40) rfl
theorem s4_31_0 : Wp scr (n + 6) 4 [.retAddr 31, .int 0] M Q ↔ Q (some (.int 48)) M := Wp_evq (F := 60) rfl
theorem s4_31_1 : Wp scr (n + 6) 4 [.retAddr 31, .int 1] M Q ↔ Q (some (.int 107)) M := Wp_evq (F := 60) rfl
theorem s4_31_2 : Wp scr (n + 6) 4 [.retAddr 31, .int 2] M Q ↔ Q (some (.int 48)) M := Wp_evq (F := 60) rfl
theorem s4_31_3 : Wp scr (n + 6) 4 [.retAddr 31, .int 3] M Q ↔ Q (some (.int 59)) M := Wp_evq (F := 60) rfl
theorem s4_32_0 : Wp scr (n + 6) 4 [.retAddr 32, .int 0] M Q ↔ Q (some (.int 48)) M := Wp_evq (F := 60) rfl
theorem s4_32_1 : Wp scr (n + 6) 4 [.retAddr 32, .int 1] M Q ↔ Q (some (.int 48)) M := Wp_evq (F := 60) rfl
theorem s4_32_2 : Wp scr (n + 6) 4 [.retAddr 32, .int 2] M Q ↔ Q (some (.int 48)) M := Wp_evq (F := 60) rfl
theorem s4_32_3 : Wp scr (n + 6) 4 [.retAddr 32, .int 3] M Q ↔ Q (some (.int 59)) M := Wp_evq (F := 60) rfl
theorem s4_33_0 : Wp scr (n + 6) 4 [.retAddr 33, .int 0] M Q ↔ Q (some (.int 48)) M := Wp_evq (F := 60) rfl
theorem s4_33_1 : Wp scr (n + 6) 4 [.retAddr 33, .int 1] M Q ↔ Q (some (.int 48)) M := Wp_evq (F := 60) rfl
theorem s4_33_2 : Wp scr (n + 6) 4 [.retAddr 33, .int 2] M Q ↔ Q (some (.int 59)) M := Wp_evq (F := 60) rfl
theorem s4_34_0 : Wp scr (n + 6) 4 [.retAddr 34, .int 0] M Q ↔ Q (some (.int 59)) M := Wp_evq (F := 60) rfl
theorem s4_35_0 : Wp scr (n + 6) 4 [.retAddr 35, .int 0] M Q ↔ Q (some (.int 48)) M := Wp_evq (F := 60) rfl
theorem s4_35_1 : Wp scr (n + 6) 4 [.retAddr 35, .int 1] M Q ↔ Q (some (.int 59)) M := Wp_evq (F := 60) rfl
theorem b12_60_0 {L : mm_L} {st : List Value} : wp scr n mb_12 16 L (.int 0 :: .retAddr 60 :: st) M Q ↔ wp scr n mb_12 17 L (.int 99 :: st) M Q := u12_16.trans Iff.rfl
theorem b12_60_1 {L : mm_L} {st : List Value} : wp scr n mb_12 16 L (.int 1 :: .retAddr 60 :: st) M Q ↔ wp scr n mb_12 17 L (.int 109 :: st) M Q := u12_16.trans Iff.rfl
theorem b12_60_2 {L : mm_L} {st : List Value} : wp scr n mb_12 16 L (.int 2 :: .retAddr 60 :: st) M Q ↔ wp scr n mb_12 17 L (.int 118 :: st) M Q := u12_16.trans Iff.rfl
theorem b12_60_3 {L : mm_L} {st : List Value} : wp scr n mb_12 16 L (.int 3 :: .retAddr 60 :: st) M Q ↔ wp scr n mb_12 17 L (.int 115 :: st) M Q := u12_16.trans Iff.rfl
theorem b12_60_4 {L : mm_L} {st : List Value} : wp scr n mb_12 16 L (.int 4 :: .retAddr 60 :: st) M Q ↔ wp scr n mb_12 17 L (.int 116 :: st) M Q := u12_16.trans Iff.rfl
theorem b12_60_5 {L : mm_L} {st : List Value} : wp scr n mb_12 16 L (.int 5 :: .retAddr 60 :: st) M Q ↔ wp scr n mb_12 17 L (.int 111 :: st) M Q := u12_16.trans Iff.rfl
theorem b10_60 {L : mm_L} {st : List Value} : wp scr n mb_10 17 L (.retAddr 60 :: st) M Q ↔ wp scr n mb_10 18 L (.int 6 :: st) M Q := u10_17.trans Iff.rfl
theorem b12_67_0 {L : mm_L} {st : List Value} : wp scr n mb_12 16 L (.int 0 :: .retAddr 67 :: st) M Q ↔ wp scr n mb_12 17 L (.int 99 :: st) M Q := u12_16.trans Iff.rfl
theorem b12_67_1 {L : mm_L} {st : List Value} : wp scr n mb_12 16 L (.int 1 :: .retAddr 67 :: st) M Q ↔ wp scr n mb_12 17 L (.int 109 :: st) M Q := u12_16.trans Iff.rfl
theorem b12_67_2 {L : mm_L} {st : List Value} : wp scr n mb_12 16 L (.int 2 :: .retAddr 67 :: st) M Q ↔ wp scr n mb_12 17 L (.int 118 :: st) M Q := u12_16.trans Iff.rfl
theorem b12_67_3 {L : mm_L} {st : List Value} : wp scr n mb_12 16 L (.int 3 :: .retAddr 67 :: st) M Q ↔ wp scr n mb_12 17 L (.int 115 :: st) M Q := u12_16.trans Iff.rfl
theorem b12_67_4 {L : mm_L} {st : List Value} : wp scr n mb_12 16 L (.int 4 :: .retAddr 67 :: st) M Q ↔ wp scr n mb_12 17 L (.int 116 :: st) M Q := u12_16.trans Iff.rfl
theorem b12_67_5 {L : mm_L} {st : List Value} : wp scr n mb_12 16 L (.int 5 :: .retAddr 67 :: st) M Q ↔ wp scr n mb_12 17 L (.int 111 :: st) M Q := u12_16.trans Iff.rfl
theorem b10_67 {L : mm_L} {st : List Value} : wp scr n mb_10 17 L (.retAddr 67 :: st) M Q ↔ wp scr n mb_10 18 L (.int 6 :: st) M Q := u10_17.trans Iff.rfl
theorem x_30 : mw_x scr 30 ↔ True := iff_true_intro ⟨_, rfl⟩
theorem f_30 : mm_fld (mc_X scr) M (.retAddr 30) 99 0 = some (.retAddr 60) := rfl
theorem s2_30 : Wp scr (n + 3) 2 [.retAddr 30] M Q ↔ Q (some (.int 6)) M := Wp_evq (F := 40) rfl
theorem s5_30 : Wp scr (n + 2) 5 [.retAddr 30] M Q ↔ Q (some (.int 1)) M := Wp_evq (F := 40) rfl
theorem x_37 : mw_x scr 37 ↔ True := iff_true_intro ⟨_, rfl⟩
theorem f_37 : mm_fld (mc_X scr) M (.retAddr 37) 99 0 = some (.retAddr 67) := rfl
theorem s2_37 : Wp scr (n + 3) 2 [.retAddr 37] M Q ↔ Q (some (.int 6)) M := Wp_evq (F := 40) rfl
theorem s5_37 : Wp scr (n + 2) 5 [.retAddr 37] M Q ↔ Q (some (.int 1)) M := Wp_evq (F := 40) rfl
def kdV (c : Nat) : Int32 := if c = 99 then 0 else if c = 109 then 1 else if c = 118 then 2 else if c = 115 then 3 else if c = 116 then 4 else if c = 111 then 5 else -1
theorem kd_eq : ∀ c, c < 256 → (((99 : Int32) = (nI c).toInt8.toInt32) ↔ c = 99) ∧ (((109 : Int32) = (nI c).toInt8.toInt32) ↔ c = 109) ∧ (((118 : Int32) = (nI c).toInt8.toInt32) ↔ c = 118) ∧ (((115 : Int32) = (nI c).toInt8.toInt32) ↔ c = 115) ∧ (((116 : Int32) = (nI c).toInt8.toInt32) ↔ c = 116) ∧ (((111 : Int32) = (nI c).toInt8.toInt32) ↔ c = 111) := by decide +kernel
theorem l6_0 : ((6 : Int32) ≤ 0) ↔ False := by decide
theorem l6_1 : ((6 : Int32) ≤ 1) ↔ False := by decide
theorem l6_2 : ((6 : Int32) ≤ 2) ↔ False := by decide
theorem l6_3 : ((6 : Int32) ≤ 3) ↔ False := by decide
theorem l6_4 : ((6 : Int32) ≤ 4) ↔ False := by decide
theorem l6_5 : ((6 : Int32) ≤ 5) ↔ False := by decide
theorem l6_6 : ((6 : Int32) ≤ 6) ↔ True := by decide
theorem ip_0 : (0 : Int32) + 1 = 1 := by decide
theorem ip_1 : (1 : Int32) + 1 = 2 := by decide
theorem ip_2 : (2 : Int32) + 1 = 3 := by decide
theorem ip_3 : (3 : Int32) + 1 = 4 := by decide
theorem ip_4 : (4 : Int32) + 1 = 5 := by decide
theorem ip_5 : (5 : Int32) + 1 = 6 := by decide
theorem mw_iix {x y : Int32} {a : Nat} : mw_st [.int x, .int y, .retAddr a] ↔ True := iff_true_intro (Nat.le_of_ble_eq_true rfl)
theorem kd_ch {P : Int32 → Prop} (hc : c < 256) : (if (99 : Int32) = (nI c).toInt8.toInt32 then P 0 else if (109 : Int32) = (nI c).toInt8.toInt32 then P 1 else if (118 : Int32) = (nI c).toInt8.toInt32 then P 2 else if (115 : Int32) = (nI c).toInt8.toInt32 then P 3 else if (116 : Int32) = (nI c).toInt8.toInt32 then P 4 else if (111 : Int32) = (nI c).toInt8.toInt32 then P 5 else P (-1)) ↔ P (kdV c) := by
  obtain ⟨h1, h2, h3, h4, h5, h6⟩ := kd_eq c hc
  unfold kdV
  simp only [h1, h2, h3, h4, h5, h6]
  by_cases a1 : c = 99
  · simp only [a1, if_true]
  · by_cases a2 : c = 109
    · simp only [a1, a2, if_true, if_false]; simp
    · by_cases a3 : c = 118
      · simp only [a1, a2, a3, if_true, if_false]; simp
      · by_cases a4 : c = 115
        · simp only [a1, a2, a3, a4, if_true, if_false]; simp
        · by_cases a5 : c = 116
          · simp only [a1, a2, a3, a4, a5, if_true, if_false]; simp
          · by_cases a6 : c = 111
            · simp only [a1, a2, a3, a4, a5, a6, if_true, if_false]; simp
            · simp only [a1, a2, a3, a4, a5, a6, if_false]
theorem W12_60 (hc : c < 256) : Wp scr (n + 1) 12 [.retAddr 60, .int (nI c), .int 0, .int 6] M Q ↔ Q (some (.int (kdV c))) M := by
  rw [← kd_ch (P := fun x => Q (some (.int x)) M) hc]
  simp only [e12, u12_0, u12_1, u12_2, u12_4, u12_5, u12_7, u12_9, u12_10, u12_13, u12_13b, u12_14, u12_17, u12_19, u12_22, u12_24, u12_25, u12_28, u12_31, u12_32, b12_60_0, b12_60_1, b12_60_2, b12_60_3, b12_60_4, b12_60_5, mw_os, wp_ite, mw_sw, Option.toList_some, Option.toList_none, List.cons_append, List.nil_append, true_and, and_true, if_true, if_false, mw_s_, mw_s_i, mw_s_r, mw_s_ii, mw_s_ir, mw_s_ri, mw_s_rr, mw_s_iii, mw_s_iir, mw_s_iri, mw_s_irr, mw_s_rii, mw_s_rir, mw_s_rri, mw_s_rrr, mw_s_iiii, mw_s_iiir, mw_s_iiri, mw_s_iirr, mw_s_irii, mw_s_irir, mw_s_irri, mw_s_irrr, mw_s_riii, mw_s_riir, mw_s_riri, mw_s_rirr, mw_s_rrii, mw_s_rrir, mw_s_rrri, mw_s_rrrr, mm_sto1, mm_clr, mm_isL, List.getElem?_cons_zero, List.getElem?_cons_succ, List.set_cons_zero, List.set_cons_succ, Bool.false_eq_true, l6_0, l6_1, l6_2, l6_3, l6_4, l6_5, l6_6, ip_0, ip_1, ip_2, ip_3, ip_4, ip_5]
theorem W7_30 (hc : c < 256) : Wp scr (n + 6) 7 [.retAddr 30, .int (nI c)] M Q ↔ Q (some (.int (kdV c))) M := by
  have n0 : (nI c < 0) ↔ False := iff_false_intro (nI_pos (by omega))
  have n1 : ((255 : Int32) < nI c) ↔ False := iff_false_intro (nI_nlt (a := 255) (by omega) (by decide))
  have z1 : ((1 : Int32) = 0) ↔ False := by decide
  have q0 : ((0 : Int32) < 0) ↔ False := by decide
  have q6 : ((6 : Int32) < 6) ↔ False := by decide
  have q06 : ((0 : Int32) < 6) ↔ True := by decide
  simp only [e7, u7_0, u7_0b, u7_1, u7_2, u7_3, u7_6, e8, u8_0, u8_0b, u8_1, u8_4, u8_7, u8_7b, u8_8, u8_11, u8_12, u8_13, u8_13b, u8_14, u8_17, u8_20, u8_23, u8_23b, u8_24, u8_27, u8_28, u8_29, u8_29b, u8_30, u8_36, e10, u10_0, u10_1, u10_4, u10_7, u10_8, u10_9, u10_10, u10_11, u10_14, u10_15, u10_16, u10_16b, u10_18, u10_21, u10_22, u10_23, u10_24, u10_27, u10_28, u10_29, u10_29b, u10_30, u10_31, u10_32, u10_33, u10_36, e11, u11_0, u11_1, u11_4, u11_5, u11_8, u11_11, u11_12, u11_15, u11_16, b10_60, mw_os, wp_ite, mw_sw, Option.toList_some, Option.toList_none, List.cons_append, List.nil_append, true_and, and_true, if_true, if_false, mw_s_, mw_s_i, mw_s_r, mw_s_ii, mw_s_ir, mw_s_ri, mw_s_rr, mw_s_iii, mw_s_iir, mw_s_iri, mw_s_irr, mw_s_rii, mw_s_rir, mw_s_rri, mw_s_rrr, mw_s_iiii, mw_s_iiir, mw_s_iiri, mw_s_iirr, mw_s_irii, mw_s_irir, mw_s_irri, mw_s_irrr, mw_s_riii, mw_s_riir, mw_s_riri, mw_s_rirr, mw_s_rrii, mw_s_rrir, mw_s_rrri, mw_s_rrrr, mm_sto1, mm_clr, mm_isL, List.getElem?_cons_zero, List.getElem?_cons_succ, List.set_cons_zero, List.set_cons_succ, Bool.false_eq_true, x_30, f_30, s5_30, s2_30, z1, n0, n1, q0, q6, q06, W12_60 hc, and_self, or_true, true_or, mw_iix]
theorem W12_67 (hc : c < 256) : Wp scr (n + 1) 12 [.retAddr 67, .int (nI c), .int 0, .int 6] M Q ↔ Q (some (.int (kdV c))) M := by
  rw [← kd_ch (P := fun x => Q (some (.int x)) M) hc]
  simp only [e12, u12_0, u12_1, u12_2, u12_4, u12_5, u12_7, u12_9, u12_10, u12_13, u12_13b, u12_14, u12_17, u12_19, u12_22, u12_24, u12_25, u12_28, u12_31, u12_32, b12_67_0, b12_67_1, b12_67_2, b12_67_3, b12_67_4, b12_67_5, mw_os, wp_ite, mw_sw, Option.toList_some, Option.toList_none, List.cons_append, List.nil_append, true_and, and_true, if_true, if_false, mw_s_, mw_s_i, mw_s_r, mw_s_ii, mw_s_ir, mw_s_ri, mw_s_rr, mw_s_iii, mw_s_iir, mw_s_iri, mw_s_irr, mw_s_rii, mw_s_rir, mw_s_rri, mw_s_rrr, mw_s_iiii, mw_s_iiir, mw_s_iiri, mw_s_iirr, mw_s_irii, mw_s_irir, mw_s_irri, mw_s_irrr, mw_s_riii, mw_s_riir, mw_s_riri, mw_s_rirr, mw_s_rrii, mw_s_rrir, mw_s_rrri, mw_s_rrrr, mm_sto1, mm_clr, mm_isL, List.getElem?_cons_zero, List.getElem?_cons_succ, List.set_cons_zero, List.set_cons_succ, Bool.false_eq_true, l6_0, l6_1, l6_2, l6_3, l6_4, l6_5, l6_6, ip_0, ip_1, ip_2, ip_3, ip_4, ip_5]
theorem W7_37 (hc : c < 256) : Wp scr (n + 6) 7 [.retAddr 37, .int (nI c)] M Q ↔ Q (some (.int (kdV c))) M := by
  have n0 : (nI c < 0) ↔ False := iff_false_intro (nI_pos (by omega))
  have n1 : ((255 : Int32) < nI c) ↔ False := iff_false_intro (nI_nlt (a := 255) (by omega) (by decide))
  have z1 : ((1 : Int32) = 0) ↔ False := by decide
  have q0 : ((0 : Int32) < 0) ↔ False := by decide
  have q6 : ((6 : Int32) < 6) ↔ False := by decide
  have q06 : ((0 : Int32) < 6) ↔ True := by decide
  simp only [e7, u7_0, u7_0b, u7_1, u7_2, u7_3, u7_6, e8, u8_0, u8_0b, u8_1, u8_4, u8_7, u8_7b, u8_8, u8_11, u8_12, u8_13, u8_13b, u8_14, u8_17, u8_20, u8_23, u8_23b, u8_24, u8_27, u8_28, u8_29, u8_29b, u8_30, u8_36, e10, u10_0, u10_1, u10_4, u10_7, u10_8, u10_9, u10_10, u10_11, u10_14, u10_15, u10_16, u10_16b, u10_18, u10_21, u10_22, u10_23, u10_24, u10_27, u10_28, u10_29, u10_29b, u10_30, u10_31, u10_32, u10_33, u10_36, e11, u11_0, u11_1, u11_4, u11_5, u11_8, u11_11, u11_12, u11_15, u11_16, b10_67, mw_os, wp_ite, mw_sw, Option.toList_some, Option.toList_none, List.cons_append, List.nil_append, true_and, and_true, if_true, if_false, mw_s_, mw_s_i, mw_s_r, mw_s_ii, mw_s_ir, mw_s_ri, mw_s_rr, mw_s_iii, mw_s_iir, mw_s_iri, mw_s_irr, mw_s_rii, mw_s_rir, mw_s_rri, mw_s_rrr, mw_s_iiii, mw_s_iiir, mw_s_iiri, mw_s_iirr, mw_s_irii, mw_s_irir, mw_s_irri, mw_s_irrr, mw_s_riii, mw_s_riir, mw_s_riri, mw_s_rirr, mw_s_rrii, mw_s_rrir, mw_s_rrri, mw_s_rrrr, mm_sto1, mm_clr, mm_isL, List.getElem?_cons_zero, List.getElem?_cons_succ, List.set_cons_zero, List.set_cons_succ, Bool.false_eq_true, x_37, f_37, s5_37, s2_37, z1, n0, n1, q0, q6, q06, W12_67 hc, and_self, or_true, true_or, mw_iix]
end STR
