section MU
variable {scr : List Int32} {n : Nat} {L : mm_L} {st : List Value} {M : mm_M} {Q : Option Value → mm_M → Prop} {x y : Int32} {z w : Int64} {a : Nat} {o v a1 a2 a3 a4 a5 a6 : Value} {a0 b1 b2 b3 b4 b5 : Nat} {x1 x2 x3 x4 x5 : Int32} {z1 z2 z3 : Int64} {l0 l1 l2 l3 l4 l5 l6 l7 l8 l9 l10 l11 l12 l13 l14 : Option Value}
/-- SmallerInTheShop countOfRefusals (I)I -/
def mb_138 : mw_B := ((Option.some FieldType.int), mp_138)
theorem u138_0 : wp scr n mb_138 0 [l0, some (.int x)] st M Q ↔ wp scr n mb_138 1 [l0, some (.int x)] (.int x :: st) M Q := wp_step rfl rfl rfl rfl rfl
theorem u138_1 : wp scr n mb_138 1 L st M Q ↔ wp scr n mb_138 2 L (.int 1 :: st) M Q := wp_step rfl rfl rfl rfl rfl
theorem u138_2 : wp scr n mb_138 2 L (.int y :: .int x :: st) M Q ↔ (if x < y then wp scr n mb_138 20 L st M Q else wp scr n mb_138 5 L st M Q) := (wp_step rfl rfl rfl rfl rfl).trans wp_ite
theorem u138_5 : wp scr n mb_138 5 [l0, some (.int x)] st M Q ↔ wp scr n mb_138 6 [l0, some (.int x)] (.int x :: st) M Q := wp_step rfl rfl rfl rfl rfl
theorem u138_6 : wp scr n mb_138 6 L st M Q ↔ wp scr n mb_138 8 L (.int 6 :: st) M Q := wp_step rfl rfl rfl rfl rfl
theorem u138_8 : wp scr n mb_138 8 L (.int y :: .int x :: st) M Q ↔ (if y < x then wp scr n mb_138 20 L st M Q else wp scr n mb_138 11 L st M Q) := (wp_step rfl rfl rfl rfl rfl).trans wp_ite
theorem u138_11 : wp scr n mb_138 11 [some (.ref a), l1] st M Q ↔ wp scr n mb_138 12 [some (.ref a), l1] (.ref a :: st) M Q := wp_step rfl rfl rfl rfl rfl
theorem u138_12 : wp scr n mb_138 12 L (o :: st) M Q ↔ mw_o (mm_fld (mc_X scr) M o 5 7) (fun v => wp scr n mb_138 15 L (v :: st) M Q) := wp_getf rfl
theorem u138_15 : wp scr n mb_138 15 [l0, some (.int x)] st M Q ↔ wp scr n mb_138 16 [l0, some (.int x)] (.int x :: st) M Q := wp_step rfl rfl rfl rfl rfl
theorem u138_16 : wp scr n mb_138 16 L (.int y :: o :: st) M Q ↔ mw_o (mm_ld (mc_X scr) M o y) (fun x => wp scr n mb_138 17 L (.int x :: st) M Q) := wp_iald rfl
theorem u138_17 : wp scr n mb_138 17 L st M Q ↔ wp scr n mb_138 22 L st M Q := wp_step rfl rfl rfl rfl rfl
theorem u138_20 : wp scr n mb_138 20 L st M Q ↔ wp scr n mb_138 22 L (.int (-9) :: st) M Q := wp_step rfl rfl rfl rfl rfl
theorem u138_22 : wp scr n mb_138 22 L [.int x] M Q ↔ Q (some (.int x)) M := wp_ret rfl rfl
theorem e138 : Wp scr (n + 1) 138 [.ref a0, .int x1] M Q ↔ wp scr n mb_138 0 [some (.ref a0), some (.int x1)] [] M Q := Wp_to rfl rfl rfl
/-- SmallerInTheShopModel letter (I)I -/
def mb_140 : mw_B := ((Option.some FieldType.int), mp_140)
theorem u140_0 : wp scr n mb_140 0 [l0, some (.int x)] st M Q ↔ wp scr n mb_140 1 [l0, some (.int x)] (.int x :: st) M Q := wp_step rfl rfl rfl rfl rfl
theorem u140_1 : wp scr n mb_140 1 L (.int x :: st) M Q ↔ (if 0 ≤ x then wp scr n mb_140 11 L st M Q else wp scr n mb_140 4 L st M Q) := (wp_step rfl rfl rfl rfl rfl).trans wp_ite
theorem u140_4 : wp scr n mb_140 4 [some (.ref a), l1] st M Q ↔ wp scr n mb_140 5 [some (.ref a), l1] (.ref a :: st) M Q := wp_step rfl rfl rfl rfl rfl
theorem u140_5 : wp scr n mb_140 5 L st M Q ↔ wp scr n mb_140 7 L (.int (-4) :: st) M Q := wp_step rfl rfl rfl rfl rfl
theorem u140_7 : wp scr n mb_140 7 L (a2 :: .ref a :: st) M Q ↔ ((mw_r M a 6 ∧ mw_st st) ∧ Wp scr n 141 [.ref a, a2] M (fun r1 M1 => wp scr n mb_140 10 L (r1.toList ++ st) M1 Q)) := wp_vir rfl rfl rfl rfl rfl
theorem u140_10 : wp scr n mb_140 10 L [.int x] M Q ↔ Q (some (.int x)) M := wp_ret rfl rfl
theorem u140_11 : wp scr n mb_140 11 [l0, some (.int x)] st M Q ↔ wp scr n mb_140 12 [l0, some (.int x)] (.int x :: st) M Q := wp_step rfl rfl rfl rfl rfl
theorem u140_12 : wp scr n mb_140 12 L st M Q ↔ wp scr n mb_140 15 L (.int 255 :: st) M Q := wp_step rfl rfl rfl rfl rfl
theorem u140_15 : wp scr n mb_140 15 L (.int y :: .int x :: st) M Q ↔ (if y < x then wp scr n mb_140 27 L st M Q else wp scr n mb_140 18 L st M Q) := (wp_step rfl rfl rfl rfl rfl).trans wp_ite
theorem u140_18 : wp scr n mb_140 18 [some (.ref a), l1] st M Q ↔ wp scr n mb_140 19 [some (.ref a), l1] (.ref a :: st) M Q := wp_step rfl rfl rfl rfl rfl
theorem u140_19 : wp scr n mb_140 19 L (o :: st) M Q ↔ mw_o (mm_fld (mc_X scr) M o 6 8) (fun v => wp scr n mb_140 22 L (v :: st) M Q) := wp_getf rfl
theorem u140_22 : wp scr n mb_140 22 L st M Q ↔ wp scr n mb_140 24 L (.int 96 :: st) M Q := wp_step rfl rfl rfl rfl rfl
theorem u140_24 : wp scr n mb_140 24 L (.int y :: .int x :: st) M Q ↔ (if x = y then wp scr n mb_140 27 L st M Q else wp scr n mb_140 34 L st M Q) := (wp_step rfl rfl rfl rfl rfl).trans wp_iten
theorem u140_27 : wp scr n mb_140 27 [some (.ref a), l1] st M Q ↔ wp scr n mb_140 28 [some (.ref a), l1] (.ref a :: st) M Q := wp_step rfl rfl rfl rfl rfl
theorem u140_28 : wp scr n mb_140 28 L st M Q ↔ wp scr n mb_140 30 L (.int (-6) :: st) M Q := wp_step rfl rfl rfl rfl rfl
theorem u140_30 : wp scr n mb_140 30 L (a2 :: .ref a :: st) M Q ↔ ((mw_r M a 6 ∧ mw_st st) ∧ Wp scr n 141 [.ref a, a2] M (fun r1 M1 => wp scr n mb_140 33 L (r1.toList ++ st) M1 Q)) := wp_vir rfl rfl rfl rfl rfl
theorem u140_33 : wp scr n mb_140 33 L [.int x] M Q ↔ Q (some (.int x)) M := wp_ret rfl rfl
theorem u140_34 : wp scr n mb_140 34 [some (.ref a), l1] st M Q ↔ wp scr n mb_140 35 [some (.ref a), l1] (.ref a :: st) M Q := wp_step rfl rfl rfl rfl rfl
theorem u140_35 : wp scr n mb_140 35 L (o :: st) M Q ↔ mw_o (mm_fld (mc_X scr) M o 6 7) (fun v => wp scr n mb_140 38 L (v :: st) M Q) := wp_getf rfl
theorem u140_38 : wp scr n mb_140 38 [some (.ref a), l1] st M Q ↔ wp scr n mb_140 39 [some (.ref a), l1] (.ref a :: st) M Q := wp_step rfl rfl rfl rfl rfl
theorem u140_39 : wp scr n mb_140 39 L (o :: st) M Q ↔ mw_o (mm_fld (mc_X scr) M o 6 8) (fun v => wp scr n mb_140 42 L (v :: st) M Q) := wp_getf rfl
theorem u140_42 : wp scr n mb_140 42 [l0, some (.int x)] st M Q ↔ wp scr n mb_140 43 [l0, some (.int x)] (.int x :: st) M Q := wp_step rfl rfl rfl rfl rfl
theorem u140_43 : wp scr n mb_140 43 L (.int x :: .int y :: o :: st) M Q ↔ mw_o (mm_sti M o y x) (fun M1 => wp scr n mb_140 44 L st M1 Q) := wp_iast rfl
theorem u140_44 : wp scr n mb_140 44 [some (.ref a), l1] st M Q ↔ wp scr n mb_140 45 [some (.ref a), l1] (.ref a :: st) M Q := wp_step rfl rfl rfl rfl rfl
theorem u140_45 : wp scr n mb_140 45 L (.ref a :: st) M Q ↔ wp scr n mb_140 46 L (.ref a :: .ref a :: st) M Q := wp_step rfl rfl rfl rfl rfl
theorem u140_46 : wp scr n mb_140 46 L (o :: st) M Q ↔ mw_o (mm_fld (mc_X scr) M o 6 8) (fun v => wp scr n mb_140 49 L (v :: st) M Q) := wp_getf rfl
theorem u140_49 : wp scr n mb_140 49 L st M Q ↔ wp scr n mb_140 50 L (.int 1 :: st) M Q := wp_step rfl rfl rfl rfl rfl
theorem u140_50 : wp scr n mb_140 50 L (.int y :: .int x :: st) M Q ↔ wp scr n mb_140 51 L (.int (x + y) :: st) M Q := wp_step rfl rfl rfl rfl rfl
theorem u140_51 : wp scr n mb_140 51 L (v :: o :: st) M Q ↔ mw_o (mm_put mc_fty M o v 6 8) (fun M1 => wp scr n mb_140 54 L st M1 Q) := wp_putf rfl
theorem u140_54 : wp scr n mb_140 54 [some (.ref a), l1] st M Q ↔ wp scr n mb_140 55 [some (.ref a), l1] (.ref a :: st) M Q := wp_step rfl rfl rfl rfl rfl
theorem u140_55 : wp scr n mb_140 55 L (o :: st) M Q ↔ mw_o (mm_fld (mc_X scr) M o 6 8) (fun v => wp scr n mb_140 58 L (v :: st) M Q) := wp_getf rfl
theorem u140_58 : wp scr n mb_140 58 L [.int x] M Q ↔ Q (some (.int x)) M := wp_ret rfl rfl
theorem e140 : Wp scr (n + 1) 140 [.ref a0, .int x1] M Q ↔ wp scr n mb_140 0 [some (.ref a0), some (.int x1)] [] M Q := Wp_to rfl rfl rfl
/-- SmallerInTheShopModel refused (I)I -/
def mb_141 : mw_B := ((Option.some FieldType.int), mp_141)
theorem u141_0 : wp scr n mb_141 0 [some (.ref a), l1] st M Q ↔ wp scr n mb_141 1 [some (.ref a), l1] (.ref a :: st) M Q := wp_step rfl rfl rfl rfl rfl
theorem u141_1 : wp scr n mb_141 1 L (o :: st) M Q ↔ mw_o (mm_fld (mc_X scr) M o 6 4) (fun v => wp scr n mb_141 4 L (v :: st) M Q) := wp_getf rfl
theorem u141_4 : wp scr n mb_141 4 [l0, some (.int x)] st M Q ↔ wp scr n mb_141 5 [l0, some (.int x)] (.int x :: st) M Q := wp_step rfl rfl rfl rfl rfl
theorem u141_5 : wp scr n mb_141 5 L (.int x :: st) M Q ↔ wp scr n mb_141 6 L (.int (-x) :: st) M Q := wp_step rfl rfl rfl rfl rfl
theorem u141_6 : wp scr n mb_141 6 L (.int y :: .ref a :: st) M Q ↔ wp scr n mb_141 7 L (.int y :: .ref a :: .int y :: .ref a :: st) M Q := wp_step rfl rfl rfl rfl rfl
theorem u141_7 : wp scr n mb_141 7 L (.int y :: o :: st) M Q ↔ mw_o (mm_ld (mc_X scr) M o y) (fun x => wp scr n mb_141 8 L (.int x :: st) M Q) := wp_iald rfl
theorem u141_8 : wp scr n mb_141 8 L st M Q ↔ wp scr n mb_141 9 L (.int 1 :: st) M Q := wp_step rfl rfl rfl rfl rfl
theorem u141_9 : wp scr n mb_141 9 L (.int y :: .int x :: st) M Q ↔ wp scr n mb_141 10 L (.int (x + y) :: st) M Q := wp_step rfl rfl rfl rfl rfl
theorem u141_10 : wp scr n mb_141 10 L (.int x :: .int y :: o :: st) M Q ↔ mw_o (mm_sti M o y x) (fun M1 => wp scr n mb_141 11 L st M1 Q) := wp_iast rfl
theorem u141_11 : wp scr n mb_141 11 [l0, some (.int x)] st M Q ↔ wp scr n mb_141 12 [l0, some (.int x)] (.int x :: st) M Q := wp_step rfl rfl rfl rfl rfl
theorem u141_12 : wp scr n mb_141 12 L [.int x] M Q ↔ Q (some (.int x)) M := wp_ret rfl rfl
theorem e141 : Wp scr (n + 1) 141 [.ref a0, .int x1] M Q ↔ wp scr n mb_141 0 [some (.ref a0), some (.int x1)] [] M Q := Wp_to rfl rfl rfl
/-- SmallerInTheShopModel map ()I -/
def mb_142 : mw_B := ((Option.some FieldType.int), mp_142)
theorem u142_0 : wp scr n mb_142 0 [some (.ref a), l1, l2, l3, l4] st M Q ↔ wp scr n mb_142 1 [some (.ref a), l1, l2, l3, l4] (.ref a :: st) M Q := wp_step rfl rfl rfl rfl rfl
theorem u142_1 : wp scr n mb_142 1 L (o :: st) M Q ↔ mw_o (mm_fld (mc_X scr) M o 6 8) (fun v => wp scr n mb_142 4 L (v :: st) M Q) := wp_getf rfl
theorem u142_4 : wp scr n mb_142 4 [l0, l1, l2, l3, l4] (.int x :: st) M Q ↔ wp scr n mb_142 5 (mm_sto1 [l0, l1, l2, l3, l4] 1 (.int x)) st M Q := wp_step rfl rfl rfl rfl rfl
theorem u142_5 : wp scr n mb_142 5 [some (.ref a), l1, l2, l3, l4] st M Q ↔ wp scr n mb_142 6 [some (.ref a), l1, l2, l3, l4] (.ref a :: st) M Q := wp_step rfl rfl rfl rfl rfl
theorem u142_6 : wp scr n mb_142 6 L st M Q ↔ wp scr n mb_142 7 L (.int 0 :: st) M Q := wp_step rfl rfl rfl rfl rfl
theorem u142_7 : wp scr n mb_142 7 L (v :: o :: st) M Q ↔ mw_o (mm_put mc_fty M o v 6 8) (fun M1 => wp scr n mb_142 10 L st M1 Q) := wp_putf rfl
theorem u142_10 : wp scr n mb_142 10 [some (.ref a), l1, l2, l3, l4] st M Q ↔ wp scr n mb_142 11 [some (.ref a), l1, l2, l3, l4] (.ref a :: st) M Q := wp_step rfl rfl rfl rfl rfl
theorem u142_11 : wp scr n mb_142 11 [l0, some (.int x), l2, l3, l4] st M Q ↔ wp scr n mb_142 12 [l0, some (.int x), l2, l3, l4] (.int x :: st) M Q := wp_step rfl rfl rfl rfl rfl
theorem u142_12 : wp scr n mb_142 12 L (a2 :: .ref a :: st) M Q ↔ ((mw_r M a 6 ∧ mw_st st) ∧ Wp scr n 143 [.ref a, a2] M (fun r1 M1 => wp scr n mb_142 15 L (r1.toList ++ st) M1 Q)) := wp_vir rfl rfl rfl rfl rfl
theorem u142_15 : wp scr n mb_142 15 [l0, l1, l2, l3, l4] (.int x :: st) M Q ↔ wp scr n mb_142 16 (mm_sto1 [l0, l1, l2, l3, l4] 2 (.int x)) st M Q := wp_step rfl rfl rfl rfl rfl
theorem u142_16 : wp scr n mb_142 16 [l0, l1, some (.int x), l3, l4] st M Q ↔ wp scr n mb_142 17 [l0, l1, some (.int x), l3, l4] (.int x :: st) M Q := wp_step rfl rfl rfl rfl rfl
theorem u142_17 : wp scr n mb_142 17 L (.int x :: st) M Q ↔ (if x < 0 then wp scr n mb_142 26 L st M Q else wp scr n mb_142 20 L st M Q) := (wp_step rfl rfl rfl rfl rfl).trans wp_ite
theorem u142_20 : wp scr n mb_142 20 L st M Q ↔ wp scr n mb_142 23 L (.int (-1000) :: st) M Q := wp_step rfl rfl rfl rfl rfl
theorem u142_23 : wp scr n mb_142 23 [l0, l1, some (.int x), l3, l4] st M Q ↔ wp scr n mb_142 24 [l0, l1, some (.int x), l3, l4] (.int x :: st) M Q := wp_step rfl rfl rfl rfl rfl
theorem u142_24 : wp scr n mb_142 24 L (.int y :: .int x :: st) M Q ↔ wp scr n mb_142 25 L (.int (x - y) :: st) M Q := wp_step rfl rfl rfl rfl rfl
theorem u142_25 : wp scr n mb_142 25 L [.int x] M Q ↔ Q (some (.int x)) M := wp_ret rfl rfl
theorem u142_26 : wp scr n mb_142 26 [some (.ref a), l1, l2, l3, l4] st M Q ↔ wp scr n mb_142 27 [some (.ref a), l1, l2, l3, l4] (.ref a :: st) M Q := wp_step rfl rfl rfl rfl rfl
theorem u142_27 : wp scr n mb_142 27 L (o :: st) M Q ↔ mw_o (mm_fld (mc_X scr) M o 6 0) (fun v => wp scr n mb_142 30 L (v :: st) M Q) := wp_getf rfl
theorem u142_30 : wp scr n mb_142 30 [some (.ref a), l1, l2, l3, l4] st M Q ↔ wp scr n mb_142 31 [some (.ref a), l1, l2, l3, l4] (.ref a :: st) M Q := wp_step rfl rfl rfl rfl rfl
theorem u142_31 : wp scr n mb_142 31 L (o :: st) M Q ↔ mw_o (mm_fld (mc_X scr) M o 6 2) (fun v => wp scr n mb_142 34 L (v :: st) M Q) := wp_getf rfl
theorem u142_34 : wp scr n mb_142 34 L st M Q ↔ wp scr n mb_142 35 L (.int 0 :: st) M Q := wp_step rfl rfl rfl rfl rfl
theorem u142_35 : wp scr n mb_142 35 L (.int y :: .ref a :: st) M Q ↔ mw_o (mm_lda M a y) (fun v => wp scr n mb_142 36 L (v :: st) M Q) := wp_aald rfl
theorem u142_36 : wp scr n mb_142 36 L (a2 :: a1 :: st) M Q ↔ (mw_st st ∧ Wp scr n 147 [a1, a2] M (fun r1 M1 => wp scr n mb_142 39 L (r1.toList ++ st) M1 Q)) := wp_sta rfl rfl rfl rfl
theorem u142_39 : wp scr n mb_142 39 L st M Q ↔ wp scr n mb_142 40 L (.int 0 :: st) M Q := wp_step rfl rfl rfl rfl rfl
theorem u142_40 : wp scr n mb_142 40 [l0, l1, l2, l3, l4] (.int x :: st) M Q ↔ wp scr n mb_142 41 (mm_sto1 [l0, l1, l2, l3, l4] 3 (.int x)) st M Q := wp_step rfl rfl rfl rfl rfl
theorem u142_41 : wp scr n mb_142 41 L st M Q ↔ wp scr n mb_142 42 L (.int 0 :: st) M Q := wp_step rfl rfl rfl rfl rfl
theorem u142_42 : wp scr n mb_142 42 [l0, l1, l2, l3, l4] (.int x :: st) M Q ↔ wp scr n mb_142 44 (mm_sto1 [l0, l1, l2, l3, l4] 4 (.int x)) st M Q := wp_step rfl rfl rfl rfl rfl
theorem u142_44 : wp scr n mb_142 44 [l0, l1, l2, l3, some (.int x)] st M Q ↔ wp scr n mb_142 46 [l0, l1, l2, l3, some (.int x)] (.int x :: st) M Q := wp_step rfl rfl rfl rfl rfl
theorem u142_46 : wp scr n mb_142 46 [l0, some (.int x), l2, l3, l4] st M Q ↔ wp scr n mb_142 47 [l0, some (.int x), l2, l3, l4] (.int x :: st) M Q := wp_step rfl rfl rfl rfl rfl
theorem u142_47 : wp scr n mb_142 47 L (.int y :: .int x :: st) M Q ↔ (if y ≤ x then wp scr n mb_142 95 L st M Q else wp scr n mb_142 50 L st M Q) := (wp_step rfl rfl rfl rfl rfl).trans wp_ite
theorem u142_50 : wp scr n mb_142 50 [some (.ref a), l1, l2, l3, l4] st M Q ↔ wp scr n mb_142 51 [some (.ref a), l1, l2, l3, l4] (.ref a :: st) M Q := wp_step rfl rfl rfl rfl rfl
theorem u142_51 : wp scr n mb_142 51 [some (.ref a), l1, l2, l3, l4] st M Q ↔ wp scr n mb_142 52 [some (.ref a), l1, l2, l3, l4] (.ref a :: st) M Q := wp_step rfl rfl rfl rfl rfl
theorem u142_52 : wp scr n mb_142 52 L (o :: st) M Q ↔ mw_o (mm_fld (mc_X scr) M o 6 2) (fun v => wp scr n mb_142 55 L (v :: st) M Q) := wp_getf rfl
theorem u142_55 : wp scr n mb_142 55 L st M Q ↔ wp scr n mb_142 56 L (.int 0 :: st) M Q := wp_step rfl rfl rfl rfl rfl
theorem u142_56 : wp scr n mb_142 56 L (.int y :: .ref a :: st) M Q ↔ mw_o (mm_lda M a y) (fun v => wp scr n mb_142 57 L (v :: st) M Q) := wp_aald rfl
theorem u142_57 : wp scr n mb_142 57 [l0, l1, l2, l3, some (.int x)] st M Q ↔ wp scr n mb_142 59 [l0, l1, l2, l3, some (.int x)] (.int x :: st) M Q := wp_step rfl rfl rfl rfl rfl
theorem u142_59 : wp scr n mb_142 59 L (a3 :: a2 :: .ref a :: st) M Q ↔ ((mw_r M a 6 ∧ mw_st st) ∧ Wp scr n 148 [.ref a, a2, a3] M (fun r1 M1 => wp scr n mb_142 62 L (r1.toList ++ st) M1 Q)) := wp_vir rfl rfl rfl rfl rfl
theorem u142_62 : wp scr n mb_142 62 L (.int x :: st) M Q ↔ (if x = 0 then wp scr n mb_142 65 L st M Q else wp scr n mb_142 72 L st M Q) := (wp_step rfl rfl rfl rfl rfl).trans wp_iten
theorem u142_65 : wp scr n mb_142 65 L st M Q ↔ wp scr n mb_142 68 L (.int (-2000) :: st) M Q := wp_step rfl rfl rfl rfl rfl
theorem u142_68 : wp scr n mb_142 68 [l0, l1, l2, l3, some (.int x)] st M Q ↔ wp scr n mb_142 70 [l0, l1, l2, l3, some (.int x)] (.int x :: st) M Q := wp_step rfl rfl rfl rfl rfl
theorem u142_70 : wp scr n mb_142 70 L (.int y :: .int x :: st) M Q ↔ wp scr n mb_142 71 L (.int (x - y) :: st) M Q := wp_step rfl rfl rfl rfl rfl
theorem u142_71 : wp scr n mb_142 71 L [.int x] M Q ↔ Q (some (.int x)) M := wp_ret rfl rfl
theorem u142_72 : wp scr n mb_142 72 [l0, l1, l2, l3, some (.int x)] st M Q ↔ wp scr n mb_142 74 [l0, l1, l2, l3, some (.int x)] (.int x :: st) M Q := wp_step rfl rfl rfl rfl rfl
theorem u142_74 : wp scr n mb_142 74 [some (.ref a), l1, l2, l3, l4] st M Q ↔ wp scr n mb_142 75 [some (.ref a), l1, l2, l3, l4] (.ref a :: st) M Q := wp_step rfl rfl rfl rfl rfl
theorem u142_75 : wp scr n mb_142 75 L (o :: st) M Q ↔ mw_o (mm_fld (mc_X scr) M o 6 7) (fun v => wp scr n mb_142 78 L (v :: st) M Q) := wp_getf rfl
theorem u142_78 : wp scr n mb_142 78 [l0, l1, l2, l3, some (.int x)] st M Q ↔ wp scr n mb_142 80 [l0, l1, l2, l3, some (.int x)] (.int x :: st) M Q := wp_step rfl rfl rfl rfl rfl
theorem u142_80 : wp scr n mb_142 80 L (.int y :: o :: st) M Q ↔ mw_o (mm_ld (mc_X scr) M o y) (fun x => wp scr n mb_142 81 L (.int x :: st) M Q) := wp_iald rfl
theorem u142_81 : wp scr n mb_142 81 L (a1 :: st) M Q ↔ (mw_st st ∧ Wp scr n 144 [a1] M (fun r1 M1 => wp scr n mb_142 84 L (r1.toList ++ st) M1 Q)) := wp_sta rfl rfl rfl rfl
theorem u142_84 : wp scr n mb_142 84 L st M Q ↔ wp scr n mb_142 85 L (.int 1 :: st) M Q := wp_step rfl rfl rfl rfl rfl
theorem u142_85 : wp scr n mb_142 85 L (.int y :: .int x :: st) M Q ↔ wp scr n mb_142 86 L (.int (x + y) :: st) M Q := wp_step rfl rfl rfl rfl rfl
theorem u142_86 : wp scr n mb_142 86 L (.int y :: .int x :: st) M Q ↔ wp scr n mb_142 87 L (.int (x + y) :: st) M Q := wp_step rfl rfl rfl rfl rfl
theorem u142_87 : wp scr n mb_142 87 [l0, l1, l2, l3, l4] (.int x :: st) M Q ↔ wp scr n mb_142 89 (mm_sto1 [l0, l1, l2, l3, l4] 4 (.int x)) st M Q := wp_step rfl rfl rfl rfl rfl
theorem u142_89 : wp scr n mb_142 89 [l0, l1, l2, some (.int x), l4] st M Q ↔ wp scr n mb_142 92 (mm_sto1 [l0, l1, l2, some (.int x), l4] 3 (.int (x + 1))) st M Q := wp_step rfl rfl rfl rfl rfl
theorem u142_92 : wp scr n mb_142 92 L st M Q ↔ wp scr n mb_142 44 L st M Q := wp_step rfl rfl rfl rfl rfl
theorem u142_95 : wp scr n mb_142 95 [some (.ref a), l1, l2, l3, l4] st M Q ↔ wp scr n mb_142 96 [some (.ref a), l1, l2, l3, l4] (.ref a :: st) M Q := wp_step rfl rfl rfl rfl rfl
theorem u142_96 : wp scr n mb_142 96 L (o :: st) M Q ↔ mw_o (mm_fld (mc_X scr) M o 6 2) (fun v => wp scr n mb_142 99 L (v :: st) M Q) := wp_getf rfl
theorem u142_99 : wp scr n mb_142 99 L st M Q ↔ wp scr n mb_142 100 L (.int 0 :: st) M Q := wp_step rfl rfl rfl rfl rfl
theorem u142_100 : wp scr n mb_142 100 L (.int y :: .ref a :: st) M Q ↔ mw_o (mm_lda M a y) (fun v => wp scr n mb_142 101 L (v :: st) M Q) := wp_aald rfl
theorem u142_101 : wp scr n mb_142 101 [some (.ref a), l1, l2, l3, l4] st M Q ↔ wp scr n mb_142 102 [some (.ref a), l1, l2, l3, l4] (.ref a :: st) M Q := wp_step rfl rfl rfl rfl rfl
theorem u142_102 : wp scr n mb_142 102 L (o :: st) M Q ↔ mw_o (mm_fld (mc_X scr) M o 6 0) (fun v => wp scr n mb_142 105 L (v :: st) M Q) := wp_getf rfl
theorem u142_105 : wp scr n mb_142 105 L (a2 :: a1 :: st) M Q ↔ (mw_st st ∧ Wp scr n 147 [a1, a2] M (fun r1 M1 => wp scr n mb_142 108 L (r1.toList ++ st) M1 Q)) := wp_sta rfl rfl rfl rfl
theorem u142_108 : wp scr n mb_142 108 [l0, l1, l2, some (.int x), l4] st M Q ↔ wp scr n mb_142 109 [l0, l1, l2, some (.int x), l4] (.int x :: st) M Q := wp_step rfl rfl rfl rfl rfl
theorem u142_109 : wp scr n mb_142 109 L [.int x] M Q ↔ Q (some (.int x)) M := wp_ret rfl rfl
theorem e142 : Wp scr (n + 1) 142 [.ref a0] M Q ↔ wp scr n mb_142 0 [some (.ref a0), none, none, none, none] [] M Q := Wp_to rfl rfl rfl
/-- SmallerInTheShopModel faultOf (I)I -/
def mb_143 : mw_B := ((Option.some FieldType.int), mp_143)
theorem u143_0 : wp scr n mb_143 0 L st M Q ↔ wp scr n mb_143 1 L (.int 0 :: st) M Q := wp_step rfl rfl rfl rfl rfl
theorem u143_1 : wp scr n mb_143 1 [l0, l1, l2, l3, l4] (.int x :: st) M Q ↔ wp scr n mb_143 2 (mm_sto1 [l0, l1, l2, l3, l4] 2 (.int x)) st M Q := wp_step rfl rfl rfl rfl rfl
theorem u143_2 : wp scr n mb_143 2 [l0, l1, some (.int x), l3, l4] st M Q ↔ wp scr n mb_143 3 [l0, l1, some (.int x), l3, l4] (.int x :: st) M Q := wp_step rfl rfl rfl rfl rfl
theorem u143_3 : wp scr n mb_143 3 [l0, some (.int x), l2, l3, l4] st M Q ↔ wp scr n mb_143 4 [l0, some (.int x), l2, l3, l4] (.int x :: st) M Q := wp_step rfl rfl rfl rfl rfl
theorem u143_4 : wp scr n mb_143 4 L (.int y :: .int x :: st) M Q ↔ (if y ≤ x then wp scr n mb_143 65 L st M Q else wp scr n mb_143 7 L st M Q) := (wp_step rfl rfl rfl rfl rfl).trans wp_ite
theorem u143_7 : wp scr n mb_143 7 [some (.ref a), l1, l2, l3, l4] st M Q ↔ wp scr n mb_143 8 [some (.ref a), l1, l2, l3, l4] (.ref a :: st) M Q := wp_step rfl rfl rfl rfl rfl
theorem u143_8 : wp scr n mb_143 8 L (o :: st) M Q ↔ mw_o (mm_fld (mc_X scr) M o 6 7) (fun v => wp scr n mb_143 11 L (v :: st) M Q) := wp_getf rfl
theorem u143_11 : wp scr n mb_143 11 [l0, l1, some (.int x), l3, l4] st M Q ↔ wp scr n mb_143 12 [l0, l1, some (.int x), l3, l4] (.int x :: st) M Q := wp_step rfl rfl rfl rfl rfl
theorem u143_12 : wp scr n mb_143 12 L (.int y :: o :: st) M Q ↔ mw_o (mm_ld (mc_X scr) M o y) (fun x => wp scr n mb_143 13 L (.int x :: st) M Q) := wp_iald rfl
theorem u143_13 : wp scr n mb_143 13 L (a1 :: st) M Q ↔ (mw_st st ∧ Wp scr n 144 [a1] M (fun r1 M1 => wp scr n mb_143 16 L (r1.toList ++ st) M1 Q)) := wp_sta rfl rfl rfl rfl
theorem u143_16 : wp scr n mb_143 16 [l0, l1, l2, l3, l4] (.int x :: st) M Q ↔ wp scr n mb_143 17 (mm_sto1 [l0, l1, l2, l3, l4] 3 (.int x)) st M Q := wp_step rfl rfl rfl rfl rfl
theorem u143_17 : wp scr n mb_143 17 L st M Q ↔ wp scr n mb_143 18 L (.int 0 :: st) M Q := wp_step rfl rfl rfl rfl rfl
theorem u143_18 : wp scr n mb_143 18 [l0, l1, l2, l3, l4] (.int x :: st) M Q ↔ wp scr n mb_143 20 (mm_sto1 [l0, l1, l2, l3, l4] 4 (.int x)) st M Q := wp_step rfl rfl rfl rfl rfl
theorem u143_20 : wp scr n mb_143 20 [l0, l1, l2, l3, some (.int x)] st M Q ↔ wp scr n mb_143 22 [l0, l1, l2, l3, some (.int x)] (.int x :: st) M Q := wp_step rfl rfl rfl rfl rfl
theorem u143_22 : wp scr n mb_143 22 [l0, l1, l2, some (.int x), l4] st M Q ↔ wp scr n mb_143 23 [l0, l1, l2, some (.int x), l4] (.int x :: st) M Q := wp_step rfl rfl rfl rfl rfl
theorem u143_23 : wp scr n mb_143 23 L (.int y :: .int x :: st) M Q ↔ (if y < x then wp scr n mb_143 56 L st M Q else wp scr n mb_143 26 L st M Q) := (wp_step rfl rfl rfl rfl rfl).trans wp_ite
theorem u143_26 : wp scr n mb_143 26 [l0, l1, some (.int x), l3, l4] st M Q ↔ wp scr n mb_143 27 [l0, l1, some (.int x), l3, l4] (.int x :: st) M Q := wp_step rfl rfl rfl rfl rfl
theorem u143_27 : wp scr n mb_143 27 [l0, l1, l2, l3, some (.int x)] st M Q ↔ wp scr n mb_143 29 [l0, l1, l2, l3, some (.int x)] (.int x :: st) M Q := wp_step rfl rfl rfl rfl rfl
theorem u143_29 : wp scr n mb_143 29 L (.int y :: .int x :: st) M Q ↔ wp scr n mb_143 30 L (.int (x + y) :: st) M Q := wp_step rfl rfl rfl rfl rfl
theorem u143_30 : wp scr n mb_143 30 [l0, some (.int x), l2, l3, l4] st M Q ↔ wp scr n mb_143 31 [l0, some (.int x), l2, l3, l4] (.int x :: st) M Q := wp_step rfl rfl rfl rfl rfl
theorem u143_31 : wp scr n mb_143 31 L (.int y :: .int x :: st) M Q ↔ (if x = y then wp scr n mb_143 45 L st M Q else wp scr n mb_143 34 L st M Q) := (wp_step rfl rfl rfl rfl rfl).trans wp_ite
theorem u143_34 : wp scr n mb_143 34 [some (.ref a), l1, l2, l3, l4] st M Q ↔ wp scr n mb_143 35 [some (.ref a), l1, l2, l3, l4] (.ref a :: st) M Q := wp_step rfl rfl rfl rfl rfl
theorem u143_35 : wp scr n mb_143 35 [l0, l1, some (.int x), l3, l4] st M Q ↔ wp scr n mb_143 36 [l0, l1, some (.int x), l3, l4] (.int x :: st) M Q := wp_step rfl rfl rfl rfl rfl
theorem u143_36 : wp scr n mb_143 36 [l0, l1, l2, l3, some (.int x)] st M Q ↔ wp scr n mb_143 38 [l0, l1, l2, l3, some (.int x)] (.int x :: st) M Q := wp_step rfl rfl rfl rfl rfl
theorem u143_38 : wp scr n mb_143 38 [l0, l1, l2, some (.int x), l4] st M Q ↔ wp scr n mb_143 39 [l0, l1, l2, some (.int x), l4] (.int x :: st) M Q := wp_step rfl rfl rfl rfl rfl
theorem u143_39 : wp scr n mb_143 39 L (a4 :: a3 :: a2 :: .ref a :: st) M Q ↔ ((mw_r M a 6 ∧ mw_st st) ∧ Wp scr n 145 [.ref a, a2, a3, a4] M (fun r1 M1 => wp scr n mb_143 42 L (r1.toList ++ st) M1 Q)) := wp_vir rfl rfl rfl rfl rfl
theorem u143_42 : wp scr n mb_143 42 L (.int x :: st) M Q ↔ (if x = 0 then wp scr n mb_143 45 L st M Q else wp scr n mb_143 50 L st M Q) := (wp_step rfl rfl rfl rfl rfl).trans wp_iten
theorem u143_45 : wp scr n mb_143 45 [l0, l1, some (.int x), l3, l4] st M Q ↔ wp scr n mb_143 46 [l0, l1, some (.int x), l3, l4] (.int x :: st) M Q := wp_step rfl rfl rfl rfl rfl
theorem u143_46 : wp scr n mb_143 46 [l0, l1, l2, l3, some (.int x)] st M Q ↔ wp scr n mb_143 48 [l0, l1, l2, l3, some (.int x)] (.int x :: st) M Q := wp_step rfl rfl rfl rfl rfl
theorem u143_48 : wp scr n mb_143 48 L (.int y :: .int x :: st) M Q ↔ wp scr n mb_143 49 L (.int (x + y) :: st) M Q := wp_step rfl rfl rfl rfl rfl
theorem u143_49 : wp scr n mb_143 49 L [.int x] M Q ↔ Q (some (.int x)) M := wp_ret rfl rfl
theorem u143_50 : wp scr n mb_143 50 [l0, l1, l2, l3, some (.int x)] st M Q ↔ wp scr n mb_143 53 (mm_sto1 [l0, l1, l2, l3, some (.int x)] 4 (.int (x + 1))) st M Q := wp_step rfl rfl rfl rfl rfl
theorem u143_53 : wp scr n mb_143 53 L st M Q ↔ wp scr n mb_143 20 L st M Q := wp_step rfl rfl rfl rfl rfl
theorem u143_56 : wp scr n mb_143 56 [l0, l1, some (.int x), l3, l4] st M Q ↔ wp scr n mb_143 57 [l0, l1, some (.int x), l3, l4] (.int x :: st) M Q := wp_step rfl rfl rfl rfl rfl
theorem u143_57 : wp scr n mb_143 57 [l0, l1, l2, some (.int x), l4] st M Q ↔ wp scr n mb_143 58 [l0, l1, l2, some (.int x), l4] (.int x :: st) M Q := wp_step rfl rfl rfl rfl rfl
theorem u143_58 : wp scr n mb_143 58 L st M Q ↔ wp scr n mb_143 59 L (.int 1 :: st) M Q := wp_step rfl rfl rfl rfl rfl
theorem u143_59 : wp scr n mb_143 59 L (.int y :: .int x :: st) M Q ↔ wp scr n mb_143 60 L (.int (x + y) :: st) M Q := wp_step rfl rfl rfl rfl rfl
theorem u143_60 : wp scr n mb_143 60 L (.int y :: .int x :: st) M Q ↔ wp scr n mb_143 61 L (.int (x + y) :: st) M Q := wp_step rfl rfl rfl rfl rfl
theorem u143_61 : wp scr n mb_143 61 [l0, l1, l2, l3, l4] (.int x :: st) M Q ↔ wp scr n mb_143 62 (mm_sto1 [l0, l1, l2, l3, l4] 2 (.int x)) st M Q := wp_step rfl rfl rfl rfl rfl
theorem u143_62 : wp scr n mb_143 62 L st M Q ↔ wp scr n mb_143 2 L st M Q := wp_step rfl rfl rfl rfl rfl
theorem u143_65 : wp scr n mb_143 65 [l0, some (.int x), l2, l3, l4] st M Q ↔ wp scr n mb_143 66 [l0, some (.int x), l2, l3, l4] (.int x :: st) M Q := wp_step rfl rfl rfl rfl rfl
theorem u143_66 : wp scr n mb_143 66 L (.int x :: st) M Q ↔ (if x = 0 then wp scr n mb_143 69 L st M Q else wp scr n mb_143 73 L st M Q) := (wp_step rfl rfl rfl rfl rfl).trans wp_iten
theorem u143_69 : wp scr n mb_143 69 L st M Q ↔ wp scr n mb_143 70 L (.int 0 :: st) M Q := wp_step rfl rfl rfl rfl rfl
theorem u143_70 : wp scr n mb_143 70 L st M Q ↔ wp scr n mb_143 74 L st M Q := wp_step rfl rfl rfl rfl rfl
theorem u143_73 : wp scr n mb_143 73 L st M Q ↔ wp scr n mb_143 74 L (.int (-1) :: st) M Q := wp_step rfl rfl rfl rfl rfl
theorem u143_74 : wp scr n mb_143 74 L [.int x] M Q ↔ Q (some (.int x)) M := wp_ret rfl rfl
theorem e143 : Wp scr (n + 1) 143 [.ref a0, .int x1] M Q ↔ wp scr n mb_143 0 [some (.ref a0), some (.int x1), none, none, none] [] M Q := Wp_to rfl rfl rfl
/-- SmallerInTheShopModel sizeOf (I)I -/
def mb_144 : mw_B := ((Option.some FieldType.int), mp_144)
theorem u144_0 : wp scr n mb_144 0 [some (.int x)] st M Q ↔ wp scr n mb_144 1 [some (.int x)] (.int x :: st) M Q := wp_step rfl rfl rfl rfl rfl
theorem u144_1 : wp scr n mb_144 1 L st M Q ↔ wp scr n mb_144 3 L (.int 107 :: st) M Q := wp_step rfl rfl rfl rfl rfl
theorem u144_3 : wp scr n mb_144 3 L (.int y :: .int x :: st) M Q ↔ (if x = y then wp scr n mb_144 12 L st M Q else wp scr n mb_144 6 L st M Q) := (wp_step rfl rfl rfl rfl rfl).trans wp_ite
theorem u144_6 : wp scr n mb_144 6 [some (.int x)] st M Q ↔ wp scr n mb_144 7 [some (.int x)] (.int x :: st) M Q := wp_step rfl rfl rfl rfl rfl
theorem u144_7 : wp scr n mb_144 7 L st M Q ↔ wp scr n mb_144 9 L (.int 119 :: st) M Q := wp_step rfl rfl rfl rfl rfl
theorem u144_9 : wp scr n mb_144 9 L (.int y :: .int x :: st) M Q ↔ (if x = y then wp scr n mb_144 12 L st M Q else wp scr n mb_144 16 L st M Q) := (wp_step rfl rfl rfl rfl rfl).trans wp_iten
theorem u144_12 : wp scr n mb_144 12 L st M Q ↔ wp scr n mb_144 13 L (.int 4 :: st) M Q := wp_step rfl rfl rfl rfl rfl
theorem u144_13 : wp scr n mb_144 13 L st M Q ↔ wp scr n mb_144 37 L st M Q := wp_step rfl rfl rfl rfl rfl
theorem u144_16 : wp scr n mb_144 16 [some (.int x)] st M Q ↔ wp scr n mb_144 17 [some (.int x)] (.int x :: st) M Q := wp_step rfl rfl rfl rfl rfl
theorem u144_17 : wp scr n mb_144 17 L st M Q ↔ wp scr n mb_144 19 L (.int 102 :: st) M Q := wp_step rfl rfl rfl rfl rfl
theorem u144_19 : wp scr n mb_144 19 L (.int y :: .int x :: st) M Q ↔ (if x = y then wp scr n mb_144 22 L st M Q else wp scr n mb_144 26 L st M Q) := (wp_step rfl rfl rfl rfl rfl).trans wp_iten
theorem u144_22 : wp scr n mb_144 22 L st M Q ↔ wp scr n mb_144 23 L (.int 3 :: st) M Q := wp_step rfl rfl rfl rfl rfl
theorem u144_23 : wp scr n mb_144 23 L st M Q ↔ wp scr n mb_144 37 L st M Q := wp_step rfl rfl rfl rfl rfl
theorem u144_26 : wp scr n mb_144 26 [some (.int x)] st M Q ↔ wp scr n mb_144 27 [some (.int x)] (.int x :: st) M Q := wp_step rfl rfl rfl rfl rfl
theorem u144_27 : wp scr n mb_144 27 L st M Q ↔ wp scr n mb_144 29 L (.int 111 :: st) M Q := wp_step rfl rfl rfl rfl rfl
theorem u144_29 : wp scr n mb_144 29 L (.int y :: .int x :: st) M Q ↔ (if x = y then wp scr n mb_144 32 L st M Q else wp scr n mb_144 36 L st M Q) := (wp_step rfl rfl rfl rfl rfl).trans wp_iten
theorem u144_32 : wp scr n mb_144 32 L st M Q ↔ wp scr n mb_144 33 L (.int 1 :: st) M Q := wp_step rfl rfl rfl rfl rfl
theorem u144_33 : wp scr n mb_144 33 L st M Q ↔ wp scr n mb_144 37 L st M Q := wp_step rfl rfl rfl rfl rfl
theorem u144_36 : wp scr n mb_144 36 L st M Q ↔ wp scr n mb_144 37 L (.int 2 :: st) M Q := wp_step rfl rfl rfl rfl rfl
theorem u144_37 : wp scr n mb_144 37 L [.int x] M Q ↔ Q (some (.int x)) M := wp_ret rfl rfl
theorem e144 : Wp scr (n + 1) 144 [.int x1] M Q ↔ wp scr n mb_144 0 [some (.int x1)] [] M Q := Wp_to rfl rfl rfl
/-- SmallerInTheShopModel fits (III)Z -/
def mb_145 : mw_B := ((Option.some FieldType.boolean), mp_145)
theorem u145_0 : wp scr n mb_145 0 [some (.ref a), l1, l2, l3, l4] st M Q ↔ wp scr n mb_145 1 [some (.ref a), l1, l2, l3, l4] (.ref a :: st) M Q := wp_step rfl rfl rfl rfl rfl
theorem u145_0b : wp scr n mb_145 0 [some (.retAddr a), l1, l2, l3, l4] st M Q ↔ wp scr n mb_145 1 [some (.retAddr a), l1, l2, l3, l4] (.retAddr a :: st) M Q := wp_step rfl rfl rfl rfl rfl
theorem u145_1 : wp scr n mb_145 1 L (o :: st) M Q ↔ mw_o (mm_fld (mc_X scr) M o 6 7) (fun v => wp scr n mb_145 4 L (v :: st) M Q) := wp_getf rfl
theorem u145_4 : wp scr n mb_145 4 [l0, some (.int x), l2, l3, l4] st M Q ↔ wp scr n mb_145 5 [l0, some (.int x), l2, l3, l4] (.int x :: st) M Q := wp_step rfl rfl rfl rfl rfl
theorem u145_5 : wp scr n mb_145 5 [l0, l1, some (.int x), l3, l4] st M Q ↔ wp scr n mb_145 6 [l0, l1, some (.int x), l3, l4] (.int x :: st) M Q := wp_step rfl rfl rfl rfl rfl
theorem u145_6 : wp scr n mb_145 6 L (.int y :: .int x :: st) M Q ↔ wp scr n mb_145 7 L (.int (x + y) :: st) M Q := wp_step rfl rfl rfl rfl rfl
theorem u145_7 : wp scr n mb_145 7 L (.int y :: o :: st) M Q ↔ mw_o (mm_ld (mc_X scr) M o y) (fun x => wp scr n mb_145 8 L (.int x :: st) M Q) := wp_iald rfl
theorem u145_8 : wp scr n mb_145 8 [l0, l1, l2, l3, l4] (.int x :: st) M Q ↔ wp scr n mb_145 10 (mm_sto1 [l0, l1, l2, l3, l4] 4 (.int x)) st M Q := wp_step rfl rfl rfl rfl rfl
theorem u145_10 : wp scr n mb_145 10 [l0, l1, some (.int x), l3, l4] st M Q ↔ wp scr n mb_145 11 [l0, l1, some (.int x), l3, l4] (.int x :: st) M Q := wp_step rfl rfl rfl rfl rfl
theorem u145_11 : wp scr n mb_145 11 L (.int x :: st) M Q ↔ (if x = 0 then wp scr n mb_145 14 L st M Q else wp scr n mb_145 55 L st M Q) := (wp_step rfl rfl rfl rfl rfl).trans wp_iten
theorem u145_14 : wp scr n mb_145 14 [l0, l1, l2, l3, some (.int x)] st M Q ↔ wp scr n mb_145 16 [l0, l1, l2, l3, some (.int x)] (.int x :: st) M Q := wp_step rfl rfl rfl rfl rfl
theorem u145_16 : wp scr n mb_145 16 L st M Q ↔ wp scr n mb_145 18 L (.int 107 :: st) M Q := wp_step rfl rfl rfl rfl rfl
theorem u145_18 : wp scr n mb_145 18 L (.int y :: .int x :: st) M Q ↔ (if x = y then wp scr n mb_145 49 L st M Q else wp scr n mb_145 21 L st M Q) := (wp_step rfl rfl rfl rfl rfl).trans wp_ite
theorem u145_21 : wp scr n mb_145 21 [l0, l1, l2, l3, some (.int x)] st M Q ↔ wp scr n mb_145 23 [l0, l1, l2, l3, some (.int x)] (.int x :: st) M Q := wp_step rfl rfl rfl rfl rfl
theorem u145_23 : wp scr n mb_145 23 L st M Q ↔ wp scr n mb_145 25 L (.int 119 :: st) M Q := wp_step rfl rfl rfl rfl rfl
theorem u145_25 : wp scr n mb_145 25 L (.int y :: .int x :: st) M Q ↔ (if x = y then wp scr n mb_145 49 L st M Q else wp scr n mb_145 28 L st M Q) := (wp_step rfl rfl rfl rfl rfl).trans wp_ite
theorem u145_28 : wp scr n mb_145 28 [l0, l1, l2, l3, some (.int x)] st M Q ↔ wp scr n mb_145 30 [l0, l1, l2, l3, some (.int x)] (.int x :: st) M Q := wp_step rfl rfl rfl rfl rfl
theorem u145_30 : wp scr n mb_145 30 L st M Q ↔ wp scr n mb_145 32 L (.int 102 :: st) M Q := wp_step rfl rfl rfl rfl rfl
theorem u145_32 : wp scr n mb_145 32 L (.int y :: .int x :: st) M Q ↔ (if x = y then wp scr n mb_145 49 L st M Q else wp scr n mb_145 35 L st M Q) := (wp_step rfl rfl rfl rfl rfl).trans wp_ite
theorem u145_35 : wp scr n mb_145 35 [l0, l1, l2, l3, some (.int x)] st M Q ↔ wp scr n mb_145 37 [l0, l1, l2, l3, some (.int x)] (.int x :: st) M Q := wp_step rfl rfl rfl rfl rfl
theorem u145_37 : wp scr n mb_145 37 L st M Q ↔ wp scr n mb_145 39 L (.int 111 :: st) M Q := wp_step rfl rfl rfl rfl rfl
theorem u145_39 : wp scr n mb_145 39 L (.int y :: .int x :: st) M Q ↔ (if x = y then wp scr n mb_145 49 L st M Q else wp scr n mb_145 42 L st M Q) := (wp_step rfl rfl rfl rfl rfl).trans wp_ite
theorem u145_42 : wp scr n mb_145 42 [l0, l1, l2, l3, some (.int x)] st M Q ↔ wp scr n mb_145 44 [l0, l1, l2, l3, some (.int x)] (.int x :: st) M Q := wp_step rfl rfl rfl rfl rfl
theorem u145_44 : wp scr n mb_145 44 L st M Q ↔ wp scr n mb_145 46 L (.int 99 :: st) M Q := wp_step rfl rfl rfl rfl rfl
theorem u145_46 : wp scr n mb_145 46 L (.int y :: .int x :: st) M Q ↔ (if x = y then wp scr n mb_145 49 L st M Q else wp scr n mb_145 53 L st M Q) := (wp_step rfl rfl rfl rfl rfl).trans wp_iten
theorem u145_49 : wp scr n mb_145 49 L st M Q ↔ wp scr n mb_145 50 L (.int 1 :: st) M Q := wp_step rfl rfl rfl rfl rfl
theorem u145_50 : wp scr n mb_145 50 L st M Q ↔ wp scr n mb_145 54 L st M Q := wp_step rfl rfl rfl rfl rfl
theorem u145_53 : wp scr n mb_145 53 L st M Q ↔ wp scr n mb_145 54 L (.int 0 :: st) M Q := wp_step rfl rfl rfl rfl rfl
theorem u145_54 : wp scr n mb_145 54 L [.int x] M Q ↔ ((x = 0 ∨ x = 1) ∧ Q (some (.int x)) M) := wp_retb rfl rfl
theorem u145_55 : wp scr n mb_145 55 [l0, l1, some (.int x), l3, l4] st M Q ↔ wp scr n mb_145 56 [l0, l1, some (.int x), l3, l4] (.int x :: st) M Q := wp_step rfl rfl rfl rfl rfl
theorem u145_56 : wp scr n mb_145 56 [l0, l1, l2, some (.int x), l4] st M Q ↔ wp scr n mb_145 57 [l0, l1, l2, some (.int x), l4] (.int x :: st) M Q := wp_step rfl rfl rfl rfl rfl
theorem u145_57 : wp scr n mb_145 57 L (.int y :: .int x :: st) M Q ↔ (if x = y then wp scr n mb_145 60 L st M Q else wp scr n mb_145 73 L st M Q) := (wp_step rfl rfl rfl rfl rfl).trans wp_iten
theorem u145_60 : wp scr n mb_145 60 [l0, l1, l2, l3, some (.int x)] st M Q ↔ wp scr n mb_145 62 [l0, l1, l2, l3, some (.int x)] (.int x :: st) M Q := wp_step rfl rfl rfl rfl rfl
theorem u145_62 : wp scr n mb_145 62 L st M Q ↔ wp scr n mb_145 64 L (.int 59 :: st) M Q := wp_step rfl rfl rfl rfl rfl
theorem u145_64 : wp scr n mb_145 64 L (.int y :: .int x :: st) M Q ↔ (if x = y then wp scr n mb_145 67 L st M Q else wp scr n mb_145 71 L st M Q) := (wp_step rfl rfl rfl rfl rfl).trans wp_iten
theorem u145_67 : wp scr n mb_145 67 L st M Q ↔ wp scr n mb_145 68 L (.int 1 :: st) M Q := wp_step rfl rfl rfl rfl rfl
theorem u145_68 : wp scr n mb_145 68 L st M Q ↔ wp scr n mb_145 72 L st M Q := wp_step rfl rfl rfl rfl rfl
theorem u145_71 : wp scr n mb_145 71 L st M Q ↔ wp scr n mb_145 72 L (.int 0 :: st) M Q := wp_step rfl rfl rfl rfl rfl
theorem u145_72 : wp scr n mb_145 72 L [.int x] M Q ↔ ((x = 0 ∨ x = 1) ∧ Q (some (.int x)) M) := wp_retb rfl rfl
theorem u145_73 : wp scr n mb_145 73 [some (.ref a), l1, l2, l3, l4] st M Q ↔ wp scr n mb_145 74 [some (.ref a), l1, l2, l3, l4] (.ref a :: st) M Q := wp_step rfl rfl rfl rfl rfl
theorem u145_73b : wp scr n mb_145 73 [some (.retAddr a), l1, l2, l3, l4] st M Q ↔ wp scr n mb_145 74 [some (.retAddr a), l1, l2, l3, l4] (.retAddr a :: st) M Q := wp_step rfl rfl rfl rfl rfl
theorem u145_74 : wp scr n mb_145 74 L (o :: st) M Q ↔ mw_o (mm_fld (mc_X scr) M o 6 7) (fun v => wp scr n mb_145 77 L (v :: st) M Q) := wp_getf rfl
theorem u145_77 : wp scr n mb_145 77 [l0, some (.int x), l2, l3, l4] st M Q ↔ wp scr n mb_145 78 [l0, some (.int x), l2, l3, l4] (.int x :: st) M Q := wp_step rfl rfl rfl rfl rfl
theorem u145_78 : wp scr n mb_145 78 L (.int y :: o :: st) M Q ↔ mw_o (mm_ld (mc_X scr) M o y) (fun x => wp scr n mb_145 79 L (.int x :: st) M Q) := wp_iald rfl
theorem u145_79 : wp scr n mb_145 79 L st M Q ↔ wp scr n mb_145 81 L (.int 107 :: st) M Q := wp_step rfl rfl rfl rfl rfl
theorem u145_81 : wp scr n mb_145 81 L (.int y :: .int x :: st) M Q ↔ (if x = y then wp scr n mb_145 84 L st M Q else wp scr n mb_145 107 L st M Q) := (wp_step rfl rfl rfl rfl rfl).trans wp_iten
theorem u145_84 : wp scr n mb_145 84 [l0, l1, some (.int x), l3, l4] st M Q ↔ wp scr n mb_145 85 [l0, l1, some (.int x), l3, l4] (.int x :: st) M Q := wp_step rfl rfl rfl rfl rfl
theorem u145_85 : wp scr n mb_145 85 L st M Q ↔ wp scr n mb_145 86 L (.int 2 :: st) M Q := wp_step rfl rfl rfl rfl rfl
theorem u145_86 : wp scr n mb_145 86 L (.int y :: .int x :: st) M Q ↔ (if x = y then wp scr n mb_145 89 L st M Q else wp scr n mb_145 107 L st M Q) := (wp_step rfl rfl rfl rfl rfl).trans wp_iten
theorem u145_89 : wp scr n mb_145 89 L st M Q ↔ wp scr n mb_145 91 L (.retAddr 37 :: st) M Q := wp_step rfl rfl rfl rfl rfl
theorem u145_91 : wp scr n mb_145 91 [l0, l1, l2, l3, some (.int x)] st M Q ↔ wp scr n mb_145 93 [l0, l1, l2, l3, some (.int x)] (.int x :: st) M Q := wp_step rfl rfl rfl rfl rfl
theorem u145_93 : wp scr n mb_145 93 L (a2 :: .retAddr a :: st) M Q ↔ ((mw_x scr a ∧ mw_st st) ∧ Wp scr n 7 [.retAddr a, a2] M (fun r1 M1 => wp scr n mb_145 96 L (r1.toList ++ st) M1 Q)) := wp_virX rfl rfl rfl rfl
theorem u145_96 : wp scr n mb_145 96 L (.int x :: st) M Q ↔ (if x < 0 then wp scr n mb_145 103 L st M Q else wp scr n mb_145 99 L st M Q) := (wp_step rfl rfl rfl rfl rfl).trans wp_ite
theorem u145_99 : wp scr n mb_145 99 L st M Q ↔ wp scr n mb_145 100 L (.int 1 :: st) M Q := wp_step rfl rfl rfl rfl rfl
theorem u145_100 : wp scr n mb_145 100 L st M Q ↔ wp scr n mb_145 119 L st M Q := wp_step rfl rfl rfl rfl rfl
theorem u145_103 : wp scr n mb_145 103 L st M Q ↔ wp scr n mb_145 104 L (.int 0 :: st) M Q := wp_step rfl rfl rfl rfl rfl
theorem u145_104 : wp scr n mb_145 104 L st M Q ↔ wp scr n mb_145 119 L st M Q := wp_step rfl rfl rfl rfl rfl
theorem u145_107 : wp scr n mb_145 107 [l0, l1, l2, l3, some (.int x)] st M Q ↔ wp scr n mb_145 109 [l0, l1, l2, l3, some (.int x)] (.int x :: st) M Q := wp_step rfl rfl rfl rfl rfl
theorem u145_109 : wp scr n mb_145 109 L (.int x :: st) M Q ↔ wp scr n mb_145 110 L (.long x.toInt64 :: st) M Q := wp_step rfl rfl rfl rfl rfl
theorem u145_110 : wp scr n mb_145 110 L st M Q ↔ wp scr n mb_145 113 L (.long (48) :: st) M Q := wp_step rfl rfl rfl rfl rfl
theorem u145_113 : wp scr n mb_145 113 L st M Q ↔ wp scr n mb_145 116 L (.long (57) :: st) M Q := wp_step rfl rfl rfl rfl rfl
theorem u145_116 : wp scr n mb_145 116 L (a3 :: a2 :: a1 :: st) M Q ↔ (mw_st st ∧ Wp scr n 146 [a1, a2, a3] M (fun r1 M1 => wp scr n mb_145 119 L (r1.toList ++ st) M1 Q)) := wp_sta rfl rfl rfl rfl
theorem u145_119 : wp scr n mb_145 119 L [.int x] M Q ↔ ((x = 0 ∨ x = 1) ∧ Q (some (.int x)) M) := wp_retb rfl rfl
theorem e145 : Wp scr (n + 1) 145 [.ref a0, .int x1, .int x2, .int x3] M Q ↔ wp scr n mb_145 0 [some (.ref a0), some (.int x1), some (.int x2), some (.int x3), none] [] M Q := Wp_to rfl rfl rfl
/-- SmallerInTheShopModel in (JJJ)Z -/
def mb_146 : mw_B := ((Option.some FieldType.boolean), mp_146)
theorem u146_0 : wp scr n mb_146 0 [some (.long z), l1, l2, l3, l4, l5] st M Q ↔ wp scr n mb_146 1 [some (.long z), l1, l2, l3, l4, l5] (.long z :: st) M Q := wp_step rfl rfl rfl rfl rfl
theorem u146_1 : wp scr n mb_146 1 [l0, l1, some (.long z), l3, l4, l5] st M Q ↔ wp scr n mb_146 2 [l0, l1, some (.long z), l3, l4, l5] (.long z :: st) M Q := wp_step rfl rfl rfl rfl rfl
theorem u146_2 : wp scr n mb_146 2 L (.long w :: .long z :: st) M Q ↔ wp scr n mb_146 3 L (.int (lg_cmp z w) :: st) M Q := wp_step rfl rfl rfl rfl rfl
theorem u146_3 : wp scr n mb_146 3 L (.int x :: st) M Q ↔ (if x < 0 then wp scr n mb_146 17 L st M Q else wp scr n mb_146 6 L st M Q) := (wp_step rfl rfl rfl rfl rfl).trans wp_ite
theorem u146_6 : wp scr n mb_146 6 [some (.long z), l1, l2, l3, l4, l5] st M Q ↔ wp scr n mb_146 7 [some (.long z), l1, l2, l3, l4, l5] (.long z :: st) M Q := wp_step rfl rfl rfl rfl rfl
theorem u146_7 : wp scr n mb_146 7 [l0, l1, l2, l3, some (.long z), l5] st M Q ↔ wp scr n mb_146 9 [l0, l1, l2, l3, some (.long z), l5] (.long z :: st) M Q := wp_step rfl rfl rfl rfl rfl
theorem u146_9 : wp scr n mb_146 9 L (.long w :: .long z :: st) M Q ↔ wp scr n mb_146 10 L (.int (lg_cmp z w) :: st) M Q := wp_step rfl rfl rfl rfl rfl
theorem u146_10 : wp scr n mb_146 10 L (.int x :: st) M Q ↔ (if 0 < x then wp scr n mb_146 17 L st M Q else wp scr n mb_146 13 L st M Q) := (wp_step rfl rfl rfl rfl rfl).trans wp_ite
theorem u146_13 : wp scr n mb_146 13 L st M Q ↔ wp scr n mb_146 14 L (.int 1 :: st) M Q := wp_step rfl rfl rfl rfl rfl
theorem u146_14 : wp scr n mb_146 14 L st M Q ↔ wp scr n mb_146 18 L st M Q := wp_step rfl rfl rfl rfl rfl
theorem u146_17 : wp scr n mb_146 17 L st M Q ↔ wp scr n mb_146 18 L (.int 0 :: st) M Q := wp_step rfl rfl rfl rfl rfl
theorem u146_18 : wp scr n mb_146 18 L [.int x] M Q ↔ ((x = 0 ∨ x = 1) ∧ Q (some (.int x)) M) := wp_retb rfl rfl
theorem e146 : Wp scr (n + 1) 146 [.long z1, .long z2, .long z3] M Q ↔ wp scr n mb_146 0 [some (.long z1), none, some (.long z2), none, some (.long z3), none] [] M Q := Wp_to rfl rfl rfl
/-- SmallerInTheShopModel copies ([I[I)V -/
def mb_147 : mw_B := ((Option.none : Option FieldType), mp_147)
theorem u147_0 : wp scr n mb_147 0 L st M Q ↔ wp scr n mb_147 1 L (.int 0 :: st) M Q := wp_step rfl rfl rfl rfl rfl
theorem u147_1 : wp scr n mb_147 1 [l0, l1, l2] (.int x :: st) M Q ↔ wp scr n mb_147 2 (mm_sto1 [l0, l1, l2] 2 (.int x)) st M Q := wp_step rfl rfl rfl rfl rfl
theorem u147_2 : wp scr n mb_147 2 [l0, l1, some (.int x)] st M Q ↔ wp scr n mb_147 3 [l0, l1, some (.int x)] (.int x :: st) M Q := wp_step rfl rfl rfl rfl rfl
theorem u147_3 : wp scr n mb_147 3 L st M Q ↔ wp scr n mb_147 6 L (.int 206 :: st) M Q := wp_step rfl rfl rfl rfl rfl
theorem u147_6 : wp scr n mb_147 6 L (.int y :: .int x :: st) M Q ↔ (if y ≤ x then wp scr n mb_147 21 L st M Q else wp scr n mb_147 9 L st M Q) := (wp_step rfl rfl rfl rfl rfl).trans wp_ite
theorem u147_9 : wp scr n mb_147 9 [l0, some (.ref a), l2] st M Q ↔ wp scr n mb_147 10 [l0, some (.ref a), l2] (.ref a :: st) M Q := wp_step rfl rfl rfl rfl rfl
theorem u147_10 : wp scr n mb_147 10 [l0, l1, some (.int x)] st M Q ↔ wp scr n mb_147 11 [l0, l1, some (.int x)] (.int x :: st) M Q := wp_step rfl rfl rfl rfl rfl
theorem u147_11 : wp scr n mb_147 11 [some (.ref a), l1, l2] st M Q ↔ wp scr n mb_147 12 [some (.ref a), l1, l2] (.ref a :: st) M Q := wp_step rfl rfl rfl rfl rfl
theorem u147_12 : wp scr n mb_147 12 [l0, l1, some (.int x)] st M Q ↔ wp scr n mb_147 13 [l0, l1, some (.int x)] (.int x :: st) M Q := wp_step rfl rfl rfl rfl rfl
theorem u147_13 : wp scr n mb_147 13 L (.int y :: o :: st) M Q ↔ mw_o (mm_ld (mc_X scr) M o y) (fun x => wp scr n mb_147 14 L (.int x :: st) M Q) := wp_iald rfl
theorem u147_14 : wp scr n mb_147 14 L (.int x :: .int y :: o :: st) M Q ↔ mw_o (mm_sti M o y x) (fun M1 => wp scr n mb_147 15 L st M1 Q) := wp_iast rfl
theorem u147_15 : wp scr n mb_147 15 [l0, l1, some (.int x)] st M Q ↔ wp scr n mb_147 18 (mm_sto1 [l0, l1, some (.int x)] 2 (.int (x + 1))) st M Q := wp_step rfl rfl rfl rfl rfl
theorem u147_18 : wp scr n mb_147 18 L st M Q ↔ wp scr n mb_147 2 L st M Q := wp_step rfl rfl rfl rfl rfl
theorem u147_21 : wp scr n mb_147 21 L [] M Q ↔ Q none M := wp_ret rfl rfl
theorem e147 : Wp scr (n + 1) 147 [.ref b1, .ref b2] M Q ↔ wp scr n mb_147 0 [some (.ref b1), some (.ref b2), none] [] M Q := Wp_to rfl rfl rfl
/-- SmallerInTheShopModel comes ([II)Z -/
def mb_148 : mw_B := ((Option.some FieldType.boolean), mp_148)
theorem u148_0 : wp scr n mb_148 0 [some (.ref a), l1, l2, l3] st M Q ↔ wp scr n mb_148 1 [some (.ref a), l1, l2, l3] (.ref a :: st) M Q := wp_step rfl rfl rfl rfl rfl
theorem u148_0b : wp scr n mb_148 0 [some (.retAddr a), l1, l2, l3] st M Q ↔ wp scr n mb_148 1 [some (.retAddr a), l1, l2, l3] (.retAddr a :: st) M Q := wp_step rfl rfl rfl rfl rfl
theorem u148_1 : wp scr n mb_148 1 L (o :: st) M Q ↔ mw_o (mm_fld (mc_X scr) M o 6 7) (fun v => wp scr n mb_148 4 L (v :: st) M Q) := wp_getf rfl
theorem u148_4 : wp scr n mb_148 4 [l0, l1, some (.int x), l3] st M Q ↔ wp scr n mb_148 5 [l0, l1, some (.int x), l3] (.int x :: st) M Q := wp_step rfl rfl rfl rfl rfl
theorem u148_5 : wp scr n mb_148 5 L (.int y :: o :: st) M Q ↔ mw_o (mm_ld (mc_X scr) M o y) (fun x => wp scr n mb_148 6 L (.int x :: st) M Q) := wp_iald rfl
theorem u148_6 : wp scr n mb_148 6 L (.int x :: st) M Q ↔ wp scr n mb_148 (mw_sw x [(102, 125), (107, 48), (111, 174), (119, 93)] 189) L st M Q := wp_lookS (d := 183) (ps := #[(102, 119), (107, 42), (111, 168), (119, 87)]) rfl (by decide +kernel) (by decide +kernel)
theorem u148_48 : wp scr n mb_148 48 [l0, some (.ref a), l2, l3] st M Q ↔ wp scr n mb_148 49 [l0, some (.ref a), l2, l3] (.ref a :: st) M Q := wp_step rfl rfl rfl rfl rfl
theorem u148_48b : wp scr n mb_148 48 [l0, some (.retAddr a), l2, l3] st M Q ↔ wp scr n mb_148 49 [l0, some (.retAddr a), l2, l3] (.retAddr a :: st) M Q := wp_step rfl rfl rfl rfl rfl
theorem u148_49 : wp scr n mb_148 49 L st M Q ↔ wp scr n mb_148 50 L (.int 0 :: st) M Q := wp_step rfl rfl rfl rfl rfl
theorem u148_50 : wp scr n mb_148 50 [some (.ref a), l1, l2, l3] st M Q ↔ wp scr n mb_148 51 [some (.ref a), l1, l2, l3] (.ref a :: st) M Q := wp_step rfl rfl rfl rfl rfl
theorem u148_50b : wp scr n mb_148 50 [some (.retAddr a), l1, l2, l3] st M Q ↔ wp scr n mb_148 51 [some (.retAddr a), l1, l2, l3] (.retAddr a :: st) M Q := wp_step rfl rfl rfl rfl rfl
theorem u148_51 : wp scr n mb_148 51 [l0, l1, some (.int x), l3] st M Q ↔ wp scr n mb_148 52 [l0, l1, some (.int x), l3] (.int x :: st) M Q := wp_step rfl rfl rfl rfl rfl
theorem u148_52 : wp scr n mb_148 52 L st M Q ↔ wp scr n mb_148 53 L (.int 1 :: st) M Q := wp_step rfl rfl rfl rfl rfl
theorem u148_53 : wp scr n mb_148 53 L (.int y :: .int x :: st) M Q ↔ wp scr n mb_148 54 L (.int (x + y) :: st) M Q := wp_step rfl rfl rfl rfl rfl
theorem u148_54 : wp scr n mb_148 54 L (a2 :: .ref a :: st) M Q ↔ ((mw_r M a 6 ∧ mw_st st) ∧ Wp scr n 149 [.ref a, a2] M (fun r1 M1 => wp scr n mb_148 57 L (r1.toList ++ st) M1 Q)) := wp_vir rfl rfl rfl rfl rfl
theorem u148_57 : wp scr n mb_148 57 L (.int y :: .int x :: st) M Q ↔ wp scr n mb_148 58 L (.int (x + y) :: st) M Q := wp_step rfl rfl rfl rfl rfl
theorem u148_58 : wp scr n mb_148 58 L st M Q ↔ wp scr n mb_148 60 L (.retAddr 37 :: st) M Q := wp_step rfl rfl rfl rfl rfl
theorem u148_60 : wp scr n mb_148 60 [some (.ref a), l1, l2, l3] st M Q ↔ wp scr n mb_148 61 [some (.ref a), l1, l2, l3] (.ref a :: st) M Q := wp_step rfl rfl rfl rfl rfl
theorem u148_60b : wp scr n mb_148 60 [some (.retAddr a), l1, l2, l3] st M Q ↔ wp scr n mb_148 61 [some (.retAddr a), l1, l2, l3] (.retAddr a :: st) M Q := wp_step rfl rfl rfl rfl rfl
theorem u148_61 : wp scr n mb_148 61 L (o :: st) M Q ↔ mw_o (mm_fld (mc_X scr) M o 6 7) (fun v => wp scr n mb_148 64 L (v :: st) M Q) := wp_getf rfl
theorem u148_64 : wp scr n mb_148 64 [l0, l1, some (.int x), l3] st M Q ↔ wp scr n mb_148 65 [l0, l1, some (.int x), l3] (.int x :: st) M Q := wp_step rfl rfl rfl rfl rfl
theorem u148_65 : wp scr n mb_148 65 L st M Q ↔ wp scr n mb_148 66 L (.int 2 :: st) M Q := wp_step rfl rfl rfl rfl rfl
theorem u148_66 : wp scr n mb_148 66 L (.int y :: .int x :: st) M Q ↔ wp scr n mb_148 67 L (.int (x + y) :: st) M Q := wp_step rfl rfl rfl rfl rfl
theorem u148_67 : wp scr n mb_148 67 L (.int y :: o :: st) M Q ↔ mw_o (mm_ld (mc_X scr) M o y) (fun x => wp scr n mb_148 68 L (.int x :: st) M Q) := wp_iald rfl
theorem u148_68 : wp scr n mb_148 68 L (a2 :: .retAddr a :: st) M Q ↔ ((mw_x scr a ∧ mw_st st) ∧ Wp scr n 7 [.retAddr a, a2] M (fun r1 M1 => wp scr n mb_148 71 L (r1.toList ++ st) M1 Q)) := wp_virX rfl rfl rfl rfl
theorem u148_71 : wp scr n mb_148 71 L (.int x :: .int y :: o :: st) M Q ↔ mw_o (mm_sti M o y x) (fun M1 => wp scr n mb_148 72 L st M1 Q) := wp_iast rfl
theorem u148_72 : wp scr n mb_148 72 [l0, some (.ref a), l2, l3] st M Q ↔ wp scr n mb_148 73 [l0, some (.ref a), l2, l3] (.ref a :: st) M Q := wp_step rfl rfl rfl rfl rfl
theorem u148_72b : wp scr n mb_148 72 [l0, some (.retAddr a), l2, l3] st M Q ↔ wp scr n mb_148 73 [l0, some (.retAddr a), l2, l3] (.retAddr a :: st) M Q := wp_step rfl rfl rfl rfl rfl
theorem u148_73 : wp scr n mb_148 73 L st M Q ↔ wp scr n mb_148 75 L (.int 10 :: st) M Q := wp_step rfl rfl rfl rfl rfl
theorem u148_75 : wp scr n mb_148 75 [some (.ref a), l1, l2, l3] st M Q ↔ wp scr n mb_148 76 [some (.ref a), l1, l2, l3] (.ref a :: st) M Q := wp_step rfl rfl rfl rfl rfl
theorem u148_75b : wp scr n mb_148 75 [some (.retAddr a), l1, l2, l3] st M Q ↔ wp scr n mb_148 76 [some (.retAddr a), l1, l2, l3] (.retAddr a :: st) M Q := wp_step rfl rfl rfl rfl rfl
theorem u148_76 : wp scr n mb_148 76 [l0, l1, some (.int x), l3] st M Q ↔ wp scr n mb_148 77 [l0, l1, some (.int x), l3] (.int x :: st) M Q := wp_step rfl rfl rfl rfl rfl
theorem u148_77 : wp scr n mb_148 77 L st M Q ↔ wp scr n mb_148 78 L (.int 1 :: st) M Q := wp_step rfl rfl rfl rfl rfl
theorem u148_78 : wp scr n mb_148 78 L (.int y :: .int x :: st) M Q ↔ wp scr n mb_148 79 L (.int (x + y) :: st) M Q := wp_step rfl rfl rfl rfl rfl
theorem u148_79 : wp scr n mb_148 79 L (a2 :: .ref a :: st) M Q ↔ ((mw_r M a 6 ∧ mw_st st) ∧ Wp scr n 149 [.ref a, a2] M (fun r1 M1 => wp scr n mb_148 82 L (r1.toList ++ st) M1 Q)) := wp_vir rfl rfl rfl rfl rfl
theorem u148_82 : wp scr n mb_148 82 L (.int y :: .int x :: st) M Q ↔ wp scr n mb_148 83 L (.int (x + y) :: st) M Q := wp_step rfl rfl rfl rfl rfl
theorem u148_83 : wp scr n mb_148 83 [some (.ref a), l1, l2, l3] st M Q ↔ wp scr n mb_148 84 [some (.ref a), l1, l2, l3] (.ref a :: st) M Q := wp_step rfl rfl rfl rfl rfl
theorem u148_83b : wp scr n mb_148 83 [some (.retAddr a), l1, l2, l3] st M Q ↔ wp scr n mb_148 84 [some (.retAddr a), l1, l2, l3] (.retAddr a :: st) M Q := wp_step rfl rfl rfl rfl rfl
theorem u148_84 : wp scr n mb_148 84 [l0, l1, some (.int x), l3] st M Q ↔ wp scr n mb_148 85 [l0, l1, some (.int x), l3] (.int x :: st) M Q := wp_step rfl rfl rfl rfl rfl
theorem u148_85 : wp scr n mb_148 85 L st M Q ↔ wp scr n mb_148 86 L (.int 3 :: st) M Q := wp_step rfl rfl rfl rfl rfl
theorem u148_86 : wp scr n mb_148 86 L (.int y :: .int x :: st) M Q ↔ wp scr n mb_148 87 L (.int (x + y) :: st) M Q := wp_step rfl rfl rfl rfl rfl
theorem u148_87 : wp scr n mb_148 87 L (a2 :: .ref a :: st) M Q ↔ ((mw_r M a 6 ∧ mw_st st) ∧ Wp scr n 149 [.ref a, a2] M (fun r1 M1 => wp scr n mb_148 90 L (r1.toList ++ st) M1 Q)) := wp_vir rfl rfl rfl rfl rfl
theorem u148_90 : wp scr n mb_148 90 L (.int x :: .int y :: o :: st) M Q ↔ mw_o (mm_sti M o y x) (fun M1 => wp scr n mb_148 91 L st M1 Q) := wp_iast rfl
theorem u148_91 : wp scr n mb_148 91 L st M Q ↔ wp scr n mb_148 92 L (.int 1 :: st) M Q := wp_step rfl rfl rfl rfl rfl
theorem u148_92 : wp scr n mb_148 92 L [.int x] M Q ↔ ((x = 0 ∨ x = 1) ∧ Q (some (.int x)) M) := wp_retb rfl rfl
theorem u148_93 : wp scr n mb_148 93 [l0, some (.ref a), l2, l3] st M Q ↔ wp scr n mb_148 94 [l0, some (.ref a), l2, l3] (.ref a :: st) M Q := wp_step rfl rfl rfl rfl rfl
theorem u148_93b : wp scr n mb_148 93 [l0, some (.retAddr a), l2, l3] st M Q ↔ wp scr n mb_148 94 [l0, some (.retAddr a), l2, l3] (.retAddr a :: st) M Q := wp_step rfl rfl rfl rfl rfl
theorem u148_94 : wp scr n mb_148 94 L st M Q ↔ wp scr n mb_148 96 L (.int 20 :: st) M Q := wp_step rfl rfl rfl rfl rfl
theorem u148_96 : wp scr n mb_148 96 [some (.ref a), l1, l2, l3] st M Q ↔ wp scr n mb_148 97 [some (.ref a), l1, l2, l3] (.ref a :: st) M Q := wp_step rfl rfl rfl rfl rfl
theorem u148_96b : wp scr n mb_148 96 [some (.retAddr a), l1, l2, l3] st M Q ↔ wp scr n mb_148 97 [some (.retAddr a), l1, l2, l3] (.retAddr a :: st) M Q := wp_step rfl rfl rfl rfl rfl
theorem u148_97 : wp scr n mb_148 97 [l0, l1, some (.int x), l3] st M Q ↔ wp scr n mb_148 98 [l0, l1, some (.int x), l3] (.int x :: st) M Q := wp_step rfl rfl rfl rfl rfl
theorem u148_98 : wp scr n mb_148 98 L st M Q ↔ wp scr n mb_148 99 L (.int 1 :: st) M Q := wp_step rfl rfl rfl rfl rfl
theorem u148_99 : wp scr n mb_148 99 L (.int y :: .int x :: st) M Q ↔ wp scr n mb_148 100 L (.int (x + y) :: st) M Q := wp_step rfl rfl rfl rfl rfl
theorem u148_100 : wp scr n mb_148 100 L (a2 :: .ref a :: st) M Q ↔ ((mw_r M a 6 ∧ mw_st st) ∧ Wp scr n 149 [.ref a, a2] M (fun r1 M1 => wp scr n mb_148 103 L (r1.toList ++ st) M1 Q)) := wp_vir rfl rfl rfl rfl rfl
theorem u148_103 : wp scr n mb_148 103 L (.int y :: .int x :: st) M Q ↔ wp scr n mb_148 104 L (.int (x + y) :: st) M Q := wp_step rfl rfl rfl rfl rfl
theorem u148_104 : wp scr n mb_148 104 L st M Q ↔ wp scr n mb_148 106 L (.int 10 :: st) M Q := wp_step rfl rfl rfl rfl rfl
theorem u148_106 : wp scr n mb_148 106 [some (.ref a), l1, l2, l3] st M Q ↔ wp scr n mb_148 107 [some (.ref a), l1, l2, l3] (.ref a :: st) M Q := wp_step rfl rfl rfl rfl rfl
theorem u148_106b : wp scr n mb_148 106 [some (.retAddr a), l1, l2, l3] st M Q ↔ wp scr n mb_148 107 [some (.retAddr a), l1, l2, l3] (.retAddr a :: st) M Q := wp_step rfl rfl rfl rfl rfl
theorem u148_107 : wp scr n mb_148 107 [l0, l1, some (.int x), l3] st M Q ↔ wp scr n mb_148 108 [l0, l1, some (.int x), l3] (.int x :: st) M Q := wp_step rfl rfl rfl rfl rfl
theorem u148_108 : wp scr n mb_148 108 L st M Q ↔ wp scr n mb_148 109 L (.int 2 :: st) M Q := wp_step rfl rfl rfl rfl rfl
theorem u148_109 : wp scr n mb_148 109 L (.int y :: .int x :: st) M Q ↔ wp scr n mb_148 110 L (.int (x + y) :: st) M Q := wp_step rfl rfl rfl rfl rfl
theorem u148_110 : wp scr n mb_148 110 L (a2 :: .ref a :: st) M Q ↔ ((mw_r M a 6 ∧ mw_st st) ∧ Wp scr n 149 [.ref a, a2] M (fun r1 M1 => wp scr n mb_148 113 L (r1.toList ++ st) M1 Q)) := wp_vir rfl rfl rfl rfl rfl
theorem u148_113 : wp scr n mb_148 113 L (.int y :: .int x :: st) M Q ↔ wp scr n mb_148 114 L (.int (x * y) :: st) M Q := wp_step rfl rfl rfl rfl rfl
theorem u148_114 : wp scr n mb_148 114 [some (.ref a), l1, l2, l3] st M Q ↔ wp scr n mb_148 115 [some (.ref a), l1, l2, l3] (.ref a :: st) M Q := wp_step rfl rfl rfl rfl rfl
theorem u148_114b : wp scr n mb_148 114 [some (.retAddr a), l1, l2, l3] st M Q ↔ wp scr n mb_148 115 [some (.retAddr a), l1, l2, l3] (.retAddr a :: st) M Q := wp_step rfl rfl rfl rfl rfl
theorem u148_115 : wp scr n mb_148 115 [l0, l1, some (.int x), l3] st M Q ↔ wp scr n mb_148 116 [l0, l1, some (.int x), l3] (.int x :: st) M Q := wp_step rfl rfl rfl rfl rfl
theorem u148_116 : wp scr n mb_148 116 L st M Q ↔ wp scr n mb_148 117 L (.int 3 :: st) M Q := wp_step rfl rfl rfl rfl rfl
theorem u148_117 : wp scr n mb_148 117 L (.int y :: .int x :: st) M Q ↔ wp scr n mb_148 118 L (.int (x + y) :: st) M Q := wp_step rfl rfl rfl rfl rfl
theorem u148_118 : wp scr n mb_148 118 L (a2 :: .ref a :: st) M Q ↔ ((mw_r M a 6 ∧ mw_st st) ∧ Wp scr n 149 [.ref a, a2] M (fun r1 M1 => wp scr n mb_148 121 L (r1.toList ++ st) M1 Q)) := wp_vir rfl rfl rfl rfl rfl
theorem u148_121 : wp scr n mb_148 121 L (.int y :: .int x :: st) M Q ↔ wp scr n mb_148 122 L (.int (x + y) :: st) M Q := wp_step rfl rfl rfl rfl rfl
theorem u148_122 : wp scr n mb_148 122 L (.int x :: .int y :: o :: st) M Q ↔ mw_o (mm_sti M o y x) (fun M1 => wp scr n mb_148 123 L st M1 Q) := wp_iast rfl
theorem u148_123 : wp scr n mb_148 123 L st M Q ↔ wp scr n mb_148 124 L (.int 1 :: st) M Q := wp_step rfl rfl rfl rfl rfl
theorem u148_124 : wp scr n mb_148 124 L [.int x] M Q ↔ ((x = 0 ∨ x = 1) ∧ Q (some (.int x)) M) := wp_retb rfl rfl
theorem u148_125 : wp scr n mb_148 125 [l0, some (.ref a), l2, l3] st M Q ↔ wp scr n mb_148 126 [l0, some (.ref a), l2, l3] (.ref a :: st) M Q := wp_step rfl rfl rfl rfl rfl
theorem u148_125b : wp scr n mb_148 125 [l0, some (.retAddr a), l2, l3] st M Q ↔ wp scr n mb_148 126 [l0, some (.retAddr a), l2, l3] (.retAddr a :: st) M Q := wp_step rfl rfl rfl rfl rfl
theorem u148_126 : wp scr n mb_148 126 [some (.ref a), l1, l2, l3] st M Q ↔ wp scr n mb_148 127 [some (.ref a), l1, l2, l3] (.ref a :: st) M Q := wp_step rfl rfl rfl rfl rfl
theorem u148_126b : wp scr n mb_148 126 [some (.retAddr a), l1, l2, l3] st M Q ↔ wp scr n mb_148 127 [some (.retAddr a), l1, l2, l3] (.retAddr a :: st) M Q := wp_step rfl rfl rfl rfl rfl
theorem u148_127 : wp scr n mb_148 127 [l0, l1, some (.int x), l3] st M Q ↔ wp scr n mb_148 128 [l0, l1, some (.int x), l3] (.int x :: st) M Q := wp_step rfl rfl rfl rfl rfl
theorem u148_128 : wp scr n mb_148 128 L st M Q ↔ wp scr n mb_148 129 L (.int 1 :: st) M Q := wp_step rfl rfl rfl rfl rfl
theorem u148_129 : wp scr n mb_148 129 L (.int y :: .int x :: st) M Q ↔ wp scr n mb_148 130 L (.int (x + y) :: st) M Q := wp_step rfl rfl rfl rfl rfl
theorem u148_130 : wp scr n mb_148 130 L (a2 :: .ref a :: st) M Q ↔ ((mw_r M a 6 ∧ mw_st st) ∧ Wp scr n 149 [.ref a, a2] M (fun r1 M1 => wp scr n mb_148 133 L (r1.toList ++ st) M1 Q)) := wp_vir rfl rfl rfl rfl rfl
theorem u148_133 : wp scr n mb_148 133 L (a2 :: a1 :: st) M Q ↔ (mw_st st ∧ Wp scr n 150 [a1, a2] M (fun r1 M1 => wp scr n mb_148 136 L (r1.toList ++ st) M1 Q)) := wp_sta rfl rfl rfl rfl
theorem u148_136 : wp scr n mb_148 136 L (.int x :: st) M Q ↔ (if x = 0 then wp scr n mb_148 150 L st M Q else wp scr n mb_148 139 L st M Q) := (wp_step rfl rfl rfl rfl rfl).trans wp_ite
theorem u148_139 : wp scr n mb_148 139 [some (.ref a), l1, l2, l3] st M Q ↔ wp scr n mb_148 140 [some (.ref a), l1, l2, l3] (.ref a :: st) M Q := wp_step rfl rfl rfl rfl rfl
theorem u148_139b : wp scr n mb_148 139 [some (.retAddr a), l1, l2, l3] st M Q ↔ wp scr n mb_148 140 [some (.retAddr a), l1, l2, l3] (.retAddr a :: st) M Q := wp_step rfl rfl rfl rfl rfl
theorem u148_140 : wp scr n mb_148 140 [l0, l1, some (.int x), l3] st M Q ↔ wp scr n mb_148 141 [l0, l1, some (.int x), l3] (.int x :: st) M Q := wp_step rfl rfl rfl rfl rfl
theorem u148_141 : wp scr n mb_148 141 L st M Q ↔ wp scr n mb_148 142 L (.int 2 :: st) M Q := wp_step rfl rfl rfl rfl rfl
theorem u148_142 : wp scr n mb_148 142 L (.int y :: .int x :: st) M Q ↔ wp scr n mb_148 143 L (.int (x + y) :: st) M Q := wp_step rfl rfl rfl rfl rfl
theorem u148_143 : wp scr n mb_148 143 L (a2 :: .ref a :: st) M Q ↔ ((mw_r M a 6 ∧ mw_st st) ∧ Wp scr n 149 [.ref a, a2] M (fun r1 M1 => wp scr n mb_148 146 L (r1.toList ++ st) M1 Q)) := wp_vir rfl rfl rfl rfl rfl
theorem u148_146 : wp scr n mb_148 146 L st M Q ↔ wp scr n mb_148 147 L (.int 3 :: st) M Q := wp_step rfl rfl rfl rfl rfl
theorem u148_147 : wp scr n mb_148 147 L (.int y :: .int x :: st) M Q ↔ (if x ≤ y then wp scr n mb_148 152 L st M Q else wp scr n mb_148 150 L st M Q) := (wp_step rfl rfl rfl rfl rfl).trans wp_ite
theorem u148_150 : wp scr n mb_148 150 L st M Q ↔ wp scr n mb_148 151 L (.int 0 :: st) M Q := wp_step rfl rfl rfl rfl rfl
theorem u148_151 : wp scr n mb_148 151 L [.int x] M Q ↔ ((x = 0 ∨ x = 1) ∧ Q (some (.int x)) M) := wp_retb rfl rfl
theorem u148_152 : wp scr n mb_148 152 [some (.ref a), l1, l2, l3] st M Q ↔ wp scr n mb_148 153 [some (.ref a), l1, l2, l3] (.ref a :: st) M Q := wp_step rfl rfl rfl rfl rfl
theorem u148_152b : wp scr n mb_148 152 [some (.retAddr a), l1, l2, l3] st M Q ↔ wp scr n mb_148 153 [some (.retAddr a), l1, l2, l3] (.retAddr a :: st) M Q := wp_step rfl rfl rfl rfl rfl
theorem u148_153 : wp scr n mb_148 153 [l0, some (.ref a), l2, l3] st M Q ↔ wp scr n mb_148 154 [l0, some (.ref a), l2, l3] (.ref a :: st) M Q := wp_step rfl rfl rfl rfl rfl
theorem u148_153b : wp scr n mb_148 153 [l0, some (.retAddr a), l2, l3] st M Q ↔ wp scr n mb_148 154 [l0, some (.retAddr a), l2, l3] (.retAddr a :: st) M Q := wp_step rfl rfl rfl rfl rfl
theorem u148_154 : wp scr n mb_148 154 [some (.ref a), l1, l2, l3] st M Q ↔ wp scr n mb_148 155 [some (.ref a), l1, l2, l3] (.ref a :: st) M Q := wp_step rfl rfl rfl rfl rfl
theorem u148_154b : wp scr n mb_148 154 [some (.retAddr a), l1, l2, l3] st M Q ↔ wp scr n mb_148 155 [some (.retAddr a), l1, l2, l3] (.retAddr a :: st) M Q := wp_step rfl rfl rfl rfl rfl
theorem u148_155 : wp scr n mb_148 155 [l0, l1, some (.int x), l3] st M Q ↔ wp scr n mb_148 156 [l0, l1, some (.int x), l3] (.int x :: st) M Q := wp_step rfl rfl rfl rfl rfl
theorem u148_156 : wp scr n mb_148 156 L st M Q ↔ wp scr n mb_148 157 L (.int 1 :: st) M Q := wp_step rfl rfl rfl rfl rfl
theorem u148_157 : wp scr n mb_148 157 L (.int y :: .int x :: st) M Q ↔ wp scr n mb_148 158 L (.int (x + y) :: st) M Q := wp_step rfl rfl rfl rfl rfl
theorem u148_158 : wp scr n mb_148 158 L (a2 :: .ref a :: st) M Q ↔ ((mw_r M a 6 ∧ mw_st st) ∧ Wp scr n 149 [.ref a, a2] M (fun r1 M1 => wp scr n mb_148 161 L (r1.toList ++ st) M1 Q)) := wp_vir rfl rfl rfl rfl rfl
theorem u148_161 : wp scr n mb_148 161 [some (.ref a), l1, l2, l3] st M Q ↔ wp scr n mb_148 162 [some (.ref a), l1, l2, l3] (.ref a :: st) M Q := wp_step rfl rfl rfl rfl rfl
theorem u148_161b : wp scr n mb_148 161 [some (.retAddr a), l1, l2, l3] st M Q ↔ wp scr n mb_148 162 [some (.retAddr a), l1, l2, l3] (.retAddr a :: st) M Q := wp_step rfl rfl rfl rfl rfl
theorem u148_162 : wp scr n mb_148 162 [l0, l1, some (.int x), l3] st M Q ↔ wp scr n mb_148 163 [l0, l1, some (.int x), l3] (.int x :: st) M Q := wp_step rfl rfl rfl rfl rfl
theorem u148_163 : wp scr n mb_148 163 L st M Q ↔ wp scr n mb_148 164 L (.int 2 :: st) M Q := wp_step rfl rfl rfl rfl rfl
theorem u148_164 : wp scr n mb_148 164 L (.int y :: .int x :: st) M Q ↔ wp scr n mb_148 165 L (.int (x + y) :: st) M Q := wp_step rfl rfl rfl rfl rfl
theorem u148_165 : wp scr n mb_148 165 L (a2 :: .ref a :: st) M Q ↔ ((mw_r M a 6 ∧ mw_st st) ∧ Wp scr n 149 [.ref a, a2] M (fun r1 M1 => wp scr n mb_148 168 L (r1.toList ++ st) M1 Q)) := wp_vir rfl rfl rfl rfl rfl
theorem u148_168 : wp scr n mb_148 168 L (a4 :: a3 :: a2 :: .ref a :: st) M Q ↔ ((mw_r M a 6 ∧ mw_st st) ∧ Wp scr n 152 [.ref a, a2, a3, a4] M (fun r1 M1 => wp scr n mb_148 171 L (r1.toList ++ st) M1 Q)) := wp_vir rfl rfl rfl rfl rfl
theorem u148_171 : wp scr n mb_148 171 [l0, l1, l2, l3] (.int x :: st) M Q ↔ wp scr n mb_148 172 (mm_sto1 [l0, l1, l2, l3] 3 (.int x)) st M Q := wp_step rfl rfl rfl rfl rfl
theorem u148_172 : wp scr n mb_148 172 L st M Q ↔ wp scr n mb_148 173 L (.int 1 :: st) M Q := wp_step rfl rfl rfl rfl rfl
theorem u148_173 : wp scr n mb_148 173 L [.int x] M Q ↔ ((x = 0 ∨ x = 1) ∧ Q (some (.int x)) M) := wp_retb rfl rfl
theorem u148_174 : wp scr n mb_148 174 [l0, some (.ref a), l2, l3] st M Q ↔ wp scr n mb_148 175 [l0, some (.ref a), l2, l3] (.ref a :: st) M Q := wp_step rfl rfl rfl rfl rfl
theorem u148_174b : wp scr n mb_148 174 [l0, some (.retAddr a), l2, l3] st M Q ↔ wp scr n mb_148 175 [l0, some (.retAddr a), l2, l3] (.retAddr a :: st) M Q := wp_step rfl rfl rfl rfl rfl
theorem u148_175 : wp scr n mb_148 175 L st M Q ↔ wp scr n mb_148 177 L (.int 73 :: st) M Q := wp_step rfl rfl rfl rfl rfl
theorem u148_177 : wp scr n mb_148 177 L (.int y :: o :: st) M Q ↔ mw_o (mm_ld (mc_X scr) M o y) (fun x => wp scr n mb_148 178 L (.int x :: st) M Q) := wp_iald rfl
theorem u148_178 : wp scr n mb_148 178 L (.int x :: st) M Q ↔ (if x = 0 then wp scr n mb_148 181 L st M Q else wp scr n mb_148 183 L st M Q) := (wp_step rfl rfl rfl rfl rfl).trans wp_iten
theorem u148_181 : wp scr n mb_148 181 L st M Q ↔ wp scr n mb_148 182 L (.int 0 :: st) M Q := wp_step rfl rfl rfl rfl rfl
theorem u148_182 : wp scr n mb_148 182 L [.int x] M Q ↔ ((x = 0 ∨ x = 1) ∧ Q (some (.int x)) M) := wp_retb rfl rfl
theorem u148_183 : wp scr n mb_148 183 [l0, some (.ref a), l2, l3] st M Q ↔ wp scr n mb_148 184 [l0, some (.ref a), l2, l3] (.ref a :: st) M Q := wp_step rfl rfl rfl rfl rfl
theorem u148_183b : wp scr n mb_148 183 [l0, some (.retAddr a), l2, l3] st M Q ↔ wp scr n mb_148 184 [l0, some (.retAddr a), l2, l3] (.retAddr a :: st) M Q := wp_step rfl rfl rfl rfl rfl
theorem u148_184 : wp scr n mb_148 184 L (a1 :: st) M Q ↔ (mw_st st ∧ Wp scr n 164 [a1] M (fun r1 M1 => wp scr n mb_148 187 L (r1.toList ++ st) M1 Q)) := wp_sta rfl rfl rfl rfl
theorem u148_187 : wp scr n mb_148 187 L st M Q ↔ wp scr n mb_148 188 L (.int 1 :: st) M Q := wp_step rfl rfl rfl rfl rfl
theorem u148_188 : wp scr n mb_148 188 L [.int x] M Q ↔ ((x = 0 ∨ x = 1) ∧ Q (some (.int x)) M) := wp_retb rfl rfl
theorem u148_189 : wp scr n mb_148 189 [some (.ref a), l1, l2, l3] st M Q ↔ wp scr n mb_148 190 [some (.ref a), l1, l2, l3] (.ref a :: st) M Q := wp_step rfl rfl rfl rfl rfl
theorem u148_189b : wp scr n mb_148 189 [some (.retAddr a), l1, l2, l3] st M Q ↔ wp scr n mb_148 190 [some (.retAddr a), l1, l2, l3] (.retAddr a :: st) M Q := wp_step rfl rfl rfl rfl rfl
theorem u148_190 : wp scr n mb_148 190 [l0, l1, some (.int x), l3] st M Q ↔ wp scr n mb_148 191 [l0, l1, some (.int x), l3] (.int x :: st) M Q := wp_step rfl rfl rfl rfl rfl
theorem u148_191 : wp scr n mb_148 191 L st M Q ↔ wp scr n mb_148 192 L (.int 1 :: st) M Q := wp_step rfl rfl rfl rfl rfl
theorem u148_192 : wp scr n mb_148 192 L (.int y :: .int x :: st) M Q ↔ wp scr n mb_148 193 L (.int (x + y) :: st) M Q := wp_step rfl rfl rfl rfl rfl
theorem u148_193 : wp scr n mb_148 193 L (a2 :: .ref a :: st) M Q ↔ ((mw_r M a 6 ∧ mw_st st) ∧ Wp scr n 149 [.ref a, a2] M (fun r1 M1 => wp scr n mb_148 196 L (r1.toList ++ st) M1 Q)) := wp_vir rfl rfl rfl rfl rfl
theorem u148_196 : wp scr n mb_148 196 L st M Q ↔ wp scr n mb_148 198 L (.int 7 :: st) M Q := wp_step rfl rfl rfl rfl rfl
theorem u148_198 : wp scr n mb_148 198 L (.int y :: .int x :: st) M Q ↔ (if x ≤ y then wp scr n mb_148 203 L st M Q else wp scr n mb_148 201 L st M Q) := (wp_step rfl rfl rfl rfl rfl).trans wp_ite
theorem u148_201 : wp scr n mb_148 201 L st M Q ↔ wp scr n mb_148 202 L (.int 0 :: st) M Q := wp_step rfl rfl rfl rfl rfl
theorem u148_202 : wp scr n mb_148 202 L [.int x] M Q ↔ ((x = 0 ∨ x = 1) ∧ Q (some (.int x)) M) := wp_retb rfl rfl
theorem u148_203 : wp scr n mb_148 203 [l0, some (.ref a), l2, l3] st M Q ↔ wp scr n mb_148 204 [l0, some (.ref a), l2, l3] (.ref a :: st) M Q := wp_step rfl rfl rfl rfl rfl
theorem u148_203b : wp scr n mb_148 203 [l0, some (.retAddr a), l2, l3] st M Q ↔ wp scr n mb_148 204 [l0, some (.retAddr a), l2, l3] (.retAddr a :: st) M Q := wp_step rfl rfl rfl rfl rfl
theorem u148_204 : wp scr n mb_148 204 L st M Q ↔ wp scr n mb_148 206 L (.int 72 :: st) M Q := wp_step rfl rfl rfl rfl rfl
theorem u148_206 : wp scr n mb_148 206 [some (.ref a), l1, l2, l3] st M Q ↔ wp scr n mb_148 207 [some (.ref a), l1, l2, l3] (.ref a :: st) M Q := wp_step rfl rfl rfl rfl rfl
theorem u148_206b : wp scr n mb_148 206 [some (.retAddr a), l1, l2, l3] st M Q ↔ wp scr n mb_148 207 [some (.retAddr a), l1, l2, l3] (.retAddr a :: st) M Q := wp_step rfl rfl rfl rfl rfl
theorem u148_207 : wp scr n mb_148 207 [l0, l1, some (.int x), l3] st M Q ↔ wp scr n mb_148 208 [l0, l1, some (.int x), l3] (.int x :: st) M Q := wp_step rfl rfl rfl rfl rfl
theorem u148_208 : wp scr n mb_148 208 L st M Q ↔ wp scr n mb_148 209 L (.int 1 :: st) M Q := wp_step rfl rfl rfl rfl rfl
theorem u148_209 : wp scr n mb_148 209 L (.int y :: .int x :: st) M Q ↔ wp scr n mb_148 210 L (.int (x + y) :: st) M Q := wp_step rfl rfl rfl rfl rfl
theorem u148_210 : wp scr n mb_148 210 L (a2 :: .ref a :: st) M Q ↔ ((mw_r M a 6 ∧ mw_st st) ∧ Wp scr n 149 [.ref a, a2] M (fun r1 M1 => wp scr n mb_148 213 L (r1.toList ++ st) M1 Q)) := wp_vir rfl rfl rfl rfl rfl
theorem u148_213 : wp scr n mb_148 213 L (.int x :: .int y :: o :: st) M Q ↔ mw_o (mm_sti M o y x) (fun M1 => wp scr n mb_148 214 L st M1 Q) := wp_iast rfl
theorem u148_214 : wp scr n mb_148 214 L st M Q ↔ wp scr n mb_148 215 L (.int 1 :: st) M Q := wp_step rfl rfl rfl rfl rfl
theorem u148_215 : wp scr n mb_148 215 L [.int x] M Q ↔ ((x = 0 ∨ x = 1) ∧ Q (some (.int x)) M) := wp_retb rfl rfl
theorem e148 : Wp scr (n + 1) 148 [.ref a0, .ref b1, .int x2] M Q ↔ wp scr n mb_148 0 [some (.ref a0), some (.ref b1), some (.int x2), none] [] M Q := Wp_to rfl rfl rfl
/-- SmallerInTheShopModel digit (I)I -/
def mb_149 : mw_B := ((Option.some FieldType.int), mp_149)
theorem u149_0 : wp scr n mb_149 0 [some (.ref a), l1] st M Q ↔ wp scr n mb_149 1 [some (.ref a), l1] (.ref a :: st) M Q := wp_step rfl rfl rfl rfl rfl
theorem u149_1 : wp scr n mb_149 1 L (o :: st) M Q ↔ mw_o (mm_fld (mc_X scr) M o 6 7) (fun v => wp scr n mb_149 4 L (v :: st) M Q) := wp_getf rfl
theorem u149_4 : wp scr n mb_149 4 [l0, some (.int x)] st M Q ↔ wp scr n mb_149 5 [l0, some (.int x)] (.int x :: st) M Q := wp_step rfl rfl rfl rfl rfl
theorem u149_5 : wp scr n mb_149 5 L (.int y :: o :: st) M Q ↔ mw_o (mm_ld (mc_X scr) M o y) (fun x => wp scr n mb_149 6 L (.int x :: st) M Q) := wp_iald rfl
theorem u149_6 : wp scr n mb_149 6 L st M Q ↔ wp scr n mb_149 8 L (.int 48 :: st) M Q := wp_step rfl rfl rfl rfl rfl
theorem u149_8 : wp scr n mb_149 8 L (.int y :: .int x :: st) M Q ↔ wp scr n mb_149 9 L (.int (x - y) :: st) M Q := wp_step rfl rfl rfl rfl rfl
theorem u149_9 : wp scr n mb_149 9 L [.int x] M Q ↔ Q (some (.int x)) M := wp_ret rfl rfl
theorem e149 : Wp scr (n + 1) 149 [.ref a0, .int x1] M Q ↔ wp scr n mb_149 0 [some (.ref a0), some (.int x1)] [] M Q := Wp_to rfl rfl rfl
/-- SmallerInTheShopModel isLine ([II)Z -/
def mb_150 : mw_B := ((Option.some FieldType.boolean), mp_150)
theorem u150_0 : wp scr n mb_150 0 [l0, some (.int x)] st M Q ↔ wp scr n mb_150 1 [l0, some (.int x)] (.int x :: st) M Q := wp_step rfl rfl rfl rfl rfl
theorem u150_1 : wp scr n mb_150 1 L (.int x :: st) M Q ↔ wp scr n mb_150 2 L (.long x.toInt64 :: st) M Q := wp_step rfl rfl rfl rfl rfl
theorem u150_2 : wp scr n mb_150 2 L st M Q ↔ wp scr n mb_150 3 L (.long 1 :: st) M Q := wp_step rfl rfl rfl rfl rfl
theorem u150_3 : wp scr n mb_150 3 L st M Q ↔ wp scr n mb_150 6 L (.long (3) :: st) M Q := wp_step rfl rfl rfl rfl rfl
theorem u150_6 : wp scr n mb_150 6 L (a3 :: a2 :: a1 :: st) M Q ↔ (mw_st st ∧ Wp scr n 146 [a1, a2, a3] M (fun r1 M1 => wp scr n mb_150 9 L (r1.toList ++ st) M1 Q)) := wp_sta rfl rfl rfl rfl
theorem u150_9 : wp scr n mb_150 9 L (.int x :: st) M Q ↔ (if x = 0 then wp scr n mb_150 21 L st M Q else wp scr n mb_150 12 L st M Q) := (wp_step rfl rfl rfl rfl rfl).trans wp_ite
theorem u150_12 : wp scr n mb_150 12 [l0, some (.int x)] st M Q ↔ wp scr n mb_150 13 [l0, some (.int x)] (.int x :: st) M Q := wp_step rfl rfl rfl rfl rfl
theorem u150_13 : wp scr n mb_150 13 [some (.ref a), l1] st M Q ↔ wp scr n mb_150 14 [some (.ref a), l1] (.ref a :: st) M Q := wp_step rfl rfl rfl rfl rfl
theorem u150_14 : wp scr n mb_150 14 L st M Q ↔ wp scr n mb_150 15 L (.int 0 :: st) M Q := wp_step rfl rfl rfl rfl rfl
theorem u150_15 : wp scr n mb_150 15 L (a2 :: a1 :: st) M Q ↔ (mw_st st ∧ Wp scr n 151 [a1, a2] M (fun r1 M1 => wp scr n mb_150 18 L (r1.toList ++ st) M1 Q)) := wp_sta rfl rfl rfl rfl
theorem u150_18 : wp scr n mb_150 18 L (.int y :: .int x :: st) M Q ↔ (if x < y then wp scr n mb_150 35 L st M Q else wp scr n mb_150 21 L st M Q) := (wp_step rfl rfl rfl rfl rfl).trans wp_ite
theorem u150_21 : wp scr n mb_150 21 [l0, some (.int x)] st M Q ↔ wp scr n mb_150 22 [l0, some (.int x)] (.int x :: st) M Q := wp_step rfl rfl rfl rfl rfl
theorem u150_22 : wp scr n mb_150 22 L st M Q ↔ wp scr n mb_150 23 L (.int 4 :: st) M Q := wp_step rfl rfl rfl rfl rfl
theorem u150_23 : wp scr n mb_150 23 L (.int y :: .int x :: st) M Q ↔ (if x = y then wp scr n mb_150 26 L st M Q else wp scr n mb_150 39 L st M Q) := (wp_step rfl rfl rfl rfl rfl).trans wp_iten
theorem u150_26 : wp scr n mb_150 26 [some (.ref a), l1] st M Q ↔ wp scr n mb_150 27 [some (.ref a), l1] (.ref a :: st) M Q := wp_step rfl rfl rfl rfl rfl
theorem u150_27 : wp scr n mb_150 27 L st M Q ↔ wp scr n mb_150 28 L (.int 1 :: st) M Q := wp_step rfl rfl rfl rfl rfl
theorem u150_28 : wp scr n mb_150 28 L (a2 :: a1 :: st) M Q ↔ (mw_st st ∧ Wp scr n 151 [a1, a2] M (fun r1 M1 => wp scr n mb_150 31 L (r1.toList ++ st) M1 Q)) := wp_sta rfl rfl rfl rfl
theorem u150_31 : wp scr n mb_150 31 L st M Q ↔ wp scr n mb_150 32 L (.int 2 :: st) M Q := wp_step rfl rfl rfl rfl rfl
theorem u150_32 : wp scr n mb_150 32 L (.int y :: .int x :: st) M Q ↔ (if x = y then wp scr n mb_150 35 L st M Q else wp scr n mb_150 39 L st M Q) := (wp_step rfl rfl rfl rfl rfl).trans wp_iten
theorem u150_35 : wp scr n mb_150 35 L st M Q ↔ wp scr n mb_150 36 L (.int 1 :: st) M Q := wp_step rfl rfl rfl rfl rfl
theorem u150_36 : wp scr n mb_150 36 L st M Q ↔ wp scr n mb_150 40 L st M Q := wp_step rfl rfl rfl rfl rfl
theorem u150_39 : wp scr n mb_150 39 L st M Q ↔ wp scr n mb_150 40 L (.int 0 :: st) M Q := wp_step rfl rfl rfl rfl rfl
theorem u150_40 : wp scr n mb_150 40 L [.int x] M Q ↔ ((x = 0 ∨ x = 1) ∧ Q (some (.int x)) M) := wp_retb rfl rfl
theorem e150 : Wp scr (n + 1) 150 [.ref b1, .int x2] M Q ↔ wp scr n mb_150 0 [some (.ref b1), some (.int x2)] [] M Q := Wp_to rfl rfl rfl
/-- SmallerInTheShopModel wide ([II)I -/
def mb_151 : mw_B := ((Option.some FieldType.int), mp_151)
theorem u151_0 : wp scr n mb_151 0 L st M Q ↔ wp scr n mb_151 1 L (.int 0 :: st) M Q := wp_step rfl rfl rfl rfl rfl
theorem u151_1 : wp scr n mb_151 1 [l0, l1, l2, l3] (.int x :: st) M Q ↔ wp scr n mb_151 2 (mm_sto1 [l0, l1, l2, l3] 2 (.int x)) st M Q := wp_step rfl rfl rfl rfl rfl
theorem u151_2 : wp scr n mb_151 2 L st M Q ↔ wp scr n mb_151 3 L (.int 0 :: st) M Q := wp_step rfl rfl rfl rfl rfl
theorem u151_3 : wp scr n mb_151 3 [l0, l1, l2, l3] (.int x :: st) M Q ↔ wp scr n mb_151 4 (mm_sto1 [l0, l1, l2, l3] 3 (.int x)) st M Q := wp_step rfl rfl rfl rfl rfl
theorem u151_4 : wp scr n mb_151 4 [l0, l1, l2, some (.int x)] st M Q ↔ wp scr n mb_151 5 [l0, l1, l2, some (.int x)] (.int x :: st) M Q := wp_step rfl rfl rfl rfl rfl
theorem u151_5 : wp scr n mb_151 5 L st M Q ↔ wp scr n mb_151 7 L (.int 8 :: st) M Q := wp_step rfl rfl rfl rfl rfl
theorem u151_7 : wp scr n mb_151 7 L (.int y :: .int x :: st) M Q ↔ (if y ≤ x then wp scr n mb_151 31 L st M Q else wp scr n mb_151 10 L st M Q) := (wp_step rfl rfl rfl rfl rfl).trans wp_ite
theorem u151_10 : wp scr n mb_151 10 [l0, l1, some (.int x), l3] st M Q ↔ wp scr n mb_151 11 [l0, l1, some (.int x), l3] (.int x :: st) M Q := wp_step rfl rfl rfl rfl rfl
theorem u151_11 : wp scr n mb_151 11 [some (.ref a), l1, l2, l3] st M Q ↔ wp scr n mb_151 12 [some (.ref a), l1, l2, l3] (.ref a :: st) M Q := wp_step rfl rfl rfl rfl rfl
theorem u151_12 : wp scr n mb_151 12 L st M Q ↔ wp scr n mb_151 14 L (.int 40 :: st) M Q := wp_step rfl rfl rfl rfl rfl
theorem u151_14 : wp scr n mb_151 14 L st M Q ↔ wp scr n mb_151 15 L (.int 4 :: st) M Q := wp_step rfl rfl rfl rfl rfl
theorem u151_15 : wp scr n mb_151 15 [l0, l1, l2, some (.int x)] st M Q ↔ wp scr n mb_151 16 [l0, l1, l2, some (.int x)] (.int x :: st) M Q := wp_step rfl rfl rfl rfl rfl
theorem u151_16 : wp scr n mb_151 16 L (.int y :: .int x :: st) M Q ↔ wp scr n mb_151 17 L (.int (x * y) :: st) M Q := wp_step rfl rfl rfl rfl rfl
theorem u151_17 : wp scr n mb_151 17 L (.int y :: .int x :: st) M Q ↔ wp scr n mb_151 18 L (.int (x + y) :: st) M Q := wp_step rfl rfl rfl rfl rfl
theorem u151_18 : wp scr n mb_151 18 [l0, some (.int x), l2, l3] st M Q ↔ wp scr n mb_151 19 [l0, some (.int x), l2, l3] (.int x :: st) M Q := wp_step rfl rfl rfl rfl rfl
theorem u151_19 : wp scr n mb_151 19 L (.int y :: .int x :: st) M Q ↔ wp scr n mb_151 20 L (.int (x + y) :: st) M Q := wp_step rfl rfl rfl rfl rfl
theorem u151_20 : wp scr n mb_151 20 L (.int y :: o :: st) M Q ↔ mw_o (mm_ld (mc_X scr) M o y) (fun x => wp scr n mb_151 21 L (.int x :: st) M Q) := wp_iald rfl
theorem u151_21 : wp scr n mb_151 21 L (.int y :: .int x :: st) M Q ↔ (mw_st st ∧ wp scr n mb_151 24 L (.int (if x < y then y else x) :: st) M Q) := wp_math997 rfl
theorem u151_24 : wp scr n mb_151 24 [l0, l1, l2, l3] (.int x :: st) M Q ↔ wp scr n mb_151 25 (mm_sto1 [l0, l1, l2, l3] 2 (.int x)) st M Q := wp_step rfl rfl rfl rfl rfl
theorem u151_25 : wp scr n mb_151 25 [l0, l1, l2, some (.int x)] st M Q ↔ wp scr n mb_151 28 (mm_sto1 [l0, l1, l2, some (.int x)] 3 (.int (x + 1))) st M Q := wp_step rfl rfl rfl rfl rfl
theorem u151_28 : wp scr n mb_151 28 L st M Q ↔ wp scr n mb_151 4 L st M Q := wp_step rfl rfl rfl rfl rfl
theorem u151_31 : wp scr n mb_151 31 [l0, l1, some (.int x), l3] st M Q ↔ wp scr n mb_151 32 [l0, l1, some (.int x), l3] (.int x :: st) M Q := wp_step rfl rfl rfl rfl rfl
theorem u151_32 : wp scr n mb_151 32 L st M Q ↔ wp scr n mb_151 33 L (.int 1 :: st) M Q := wp_step rfl rfl rfl rfl rfl
theorem u151_33 : wp scr n mb_151 33 L (.int y :: .int x :: st) M Q ↔ wp scr n mb_151 34 L (.int (x + y) :: st) M Q := wp_step rfl rfl rfl rfl rfl
theorem u151_34 : wp scr n mb_151 34 L [.int x] M Q ↔ Q (some (.int x)) M := wp_ret rfl rfl
theorem e151 : Wp scr (n + 1) 151 [.ref b1, .int x2] M Q ↔ wp scr n mb_151 0 [some (.ref b1), some (.int x2), none, none] [] M Q := Wp_to rfl rfl rfl
/-- SmallerInTheShopModel folds ([III)I -/
def mb_152 : mw_B := ((Option.some FieldType.int), mp_152)
theorem u152_0 : wp scr n mb_152 0 [l0, some (.ref a), l2, l3, l4, l5, l6, l7] st M Q ↔ wp scr n mb_152 1 [l0, some (.ref a), l2, l3, l4, l5, l6, l7] (.ref a :: st) M Q := wp_step rfl rfl rfl rfl rfl
theorem u152_1 : wp scr n mb_152 1 [l0, l1, some (.int x), l3, l4, l5, l6, l7] st M Q ↔ wp scr n mb_152 2 [l0, l1, some (.int x), l3, l4, l5, l6, l7] (.int x :: st) M Q := wp_step rfl rfl rfl rfl rfl
theorem u152_2 : wp scr n mb_152 2 L (a2 :: a1 :: st) M Q ↔ (mw_st st ∧ Wp scr n 153 [a1, a2] M (fun r1 M1 => wp scr n mb_152 5 L (r1.toList ++ st) M1 Q)) := wp_sta rfl rfl rfl rfl
theorem u152_5 : wp scr n mb_152 5 [l0, l1, l2, l3, l4, l5, l6, l7] (.int x :: st) M Q ↔ wp scr n mb_152 7 (mm_sto1 [l0, l1, l2, l3, l4, l5, l6, l7] 4 (.int x)) st M Q := wp_step rfl rfl rfl rfl rfl
theorem u152_7 : wp scr n mb_152 7 [l0, some (.ref a), l2, l3, l4, l5, l6, l7] st M Q ↔ wp scr n mb_152 8 [l0, some (.ref a), l2, l3, l4, l5, l6, l7] (.ref a :: st) M Q := wp_step rfl rfl rfl rfl rfl
theorem u152_8 : wp scr n mb_152 8 [l0, l1, some (.int x), l3, l4, l5, l6, l7] st M Q ↔ wp scr n mb_152 9 [l0, l1, some (.int x), l3, l4, l5, l6, l7] (.int x :: st) M Q := wp_step rfl rfl rfl rfl rfl
theorem u152_9 : wp scr n mb_152 9 [l0, l1, l2, some (.int x), l4, l5, l6, l7] st M Q ↔ wp scr n mb_152 10 [l0, l1, l2, some (.int x), l4, l5, l6, l7] (.int x :: st) M Q := wp_step rfl rfl rfl rfl rfl
theorem u152_10 : wp scr n mb_152 10 L (a3 :: a2 :: a1 :: st) M Q ↔ (mw_st st ∧ Wp scr n 156 [a1, a2, a3] M (fun r1 M1 => wp scr n mb_152 13 L (r1.toList ++ st) M1 Q)) := wp_sta rfl rfl rfl rfl
theorem u152_13 : wp scr n mb_152 13 [l0, l1, l2, l3, l4, l5, l6, l7] (.int x :: st) M Q ↔ wp scr n mb_152 15 (mm_sto1 [l0, l1, l2, l3, l4, l5, l6, l7] 5 (.int x)) st M Q := wp_step rfl rfl rfl rfl rfl
theorem u152_15 : wp scr n mb_152 15 [l0, some (.ref a), l2, l3, l4, l5, l6, l7] st M Q ↔ wp scr n mb_152 16 [l0, some (.ref a), l2, l3, l4, l5, l6, l7] (.ref a :: st) M Q := wp_step rfl rfl rfl rfl rfl
theorem u152_16 : wp scr n mb_152 16 [l0, l1, l2, l3, some (.int x), l5, l6, l7] st M Q ↔ wp scr n mb_152 18 [l0, l1, l2, l3, some (.int x), l5, l6, l7] (.int x :: st) M Q := wp_step rfl rfl rfl rfl rfl
theorem u152_18 : wp scr n mb_152 18 L (a2 :: a1 :: st) M Q ↔ (mw_st st ∧ Wp scr n 160 [a1, a2] M (fun r1 M1 => wp scr n mb_152 21 L (r1.toList ++ st) M1 Q)) := wp_sta rfl rfl rfl rfl
theorem u152_21 : wp scr n mb_152 21 L st M Q ↔ wp scr n mb_152 22 L (.int 0 :: st) M Q := wp_step rfl rfl rfl rfl rfl
theorem u152_22 : wp scr n mb_152 22 [l0, l1, l2, l3, l4, l5, l6, l7] (.int x :: st) M Q ↔ wp scr n mb_152 24 (mm_sto1 [l0, l1, l2, l3, l4, l5, l6, l7] 6 (.int x)) st M Q := wp_step rfl rfl rfl rfl rfl
theorem u152_24 : wp scr n mb_152 24 [l0, l1, l2, l3, l4, l5, some (.int x), l7] st M Q ↔ wp scr n mb_152 26 [l0, l1, l2, l3, l4, l5, some (.int x), l7] (.int x :: st) M Q := wp_step rfl rfl rfl rfl rfl
theorem u152_26 : wp scr n mb_152 26 L st M Q ↔ wp scr n mb_152 28 L (.int 10 :: st) M Q := wp_step rfl rfl rfl rfl rfl
theorem u152_28 : wp scr n mb_152 28 L (.int y :: .int x :: st) M Q ↔ (if y ≤ x then wp scr n mb_152 104 L st M Q else wp scr n mb_152 31 L st M Q) := (wp_step rfl rfl rfl rfl rfl).trans wp_ite
theorem u152_31 : wp scr n mb_152 31 [l0, l1, l2, l3, some (.int x), l5, l6, l7] st M Q ↔ wp scr n mb_152 33 [l0, l1, l2, l3, some (.int x), l5, l6, l7] (.int x :: st) M Q := wp_step rfl rfl rfl rfl rfl
theorem u152_33 : wp scr n mb_152 33 [l0, l1, l2, l3, l4, l5, some (.int x), l7] st M Q ↔ wp scr n mb_152 35 [l0, l1, l2, l3, l4, l5, some (.int x), l7] (.int x :: st) M Q := wp_step rfl rfl rfl rfl rfl
theorem u152_35 : wp scr n mb_152 35 L (.int y :: .int x :: st) M Q ↔ wp scr n mb_152 36 L (.int (x >>> (y &&& 31)) :: st) M Q := wp_step rfl rfl rfl rfl rfl
theorem u152_36 : wp scr n mb_152 36 L st M Q ↔ wp scr n mb_152 37 L (.int 1 :: st) M Q := wp_step rfl rfl rfl rfl rfl
theorem u152_37 : wp scr n mb_152 37 L (.int y :: .int x :: st) M Q ↔ wp scr n mb_152 38 L (.int (x &&& y) :: st) M Q := wp_step rfl rfl rfl rfl rfl
theorem u152_38 : wp scr n mb_152 38 L st M Q ↔ wp scr n mb_152 39 L (.int 1 :: st) M Q := wp_step rfl rfl rfl rfl rfl
theorem u152_39 : wp scr n mb_152 39 L (.int y :: .int x :: st) M Q ↔ (if x = y then wp scr n mb_152 42 L st M Q else wp scr n mb_152 98 L st M Q) := (wp_step rfl rfl rfl rfl rfl).trans wp_iten
theorem u152_42 : wp scr n mb_152 42 [l0, some (.ref a), l2, l3, l4, l5, l6, l7] st M Q ↔ wp scr n mb_152 43 [l0, some (.ref a), l2, l3, l4, l5, l6, l7] (.ref a :: st) M Q := wp_step rfl rfl rfl rfl rfl
theorem u152_43 : wp scr n mb_152 43 [l0, l1, l2, l3, l4, l5, some (.int x), l7] st M Q ↔ wp scr n mb_152 45 [l0, l1, l2, l3, l4, l5, some (.int x), l7] (.int x :: st) M Q := wp_step rfl rfl rfl rfl rfl
theorem u152_45 : wp scr n mb_152 45 [l0, l1, l2, some (.int x), l4, l5, l6, l7] st M Q ↔ wp scr n mb_152 46 [l0, l1, l2, some (.int x), l4, l5, l6, l7] (.int x :: st) M Q := wp_step rfl rfl rfl rfl rfl
theorem u152_46 : wp scr n mb_152 46 L (a3 :: a2 :: a1 :: st) M Q ↔ (mw_st st ∧ Wp scr n 157 [a1, a2, a3] M (fun r1 M1 => wp scr n mb_152 49 L (r1.toList ++ st) M1 Q)) := wp_sta rfl rfl rfl rfl
theorem u152_49 : wp scr n mb_152 49 [l0, l1, l2, l3, l4, l5, l6, l7] (.int x :: st) M Q ↔ wp scr n mb_152 51 (mm_sto1 [l0, l1, l2, l3, l4, l5, l6, l7] 7 (.int x)) st M Q := wp_step rfl rfl rfl rfl rfl
theorem u152_51 : wp scr n mb_152 51 [l0, some (.ref a), l2, l3, l4, l5, l6, l7] st M Q ↔ wp scr n mb_152 52 [l0, some (.ref a), l2, l3, l4, l5, l6, l7] (.ref a :: st) M Q := wp_step rfl rfl rfl rfl rfl
theorem u152_52 : wp scr n mb_152 52 L st M Q ↔ wp scr n mb_152 54 L (.int 30 :: st) M Q := wp_step rfl rfl rfl rfl rfl
theorem u152_54 : wp scr n mb_152 54 [l0, l1, l2, l3, l4, l5, some (.int x), l7] st M Q ↔ wp scr n mb_152 56 [l0, l1, l2, l3, l4, l5, some (.int x), l7] (.int x :: st) M Q := wp_step rfl rfl rfl rfl rfl
theorem u152_56 : wp scr n mb_152 56 L (.int y :: .int x :: st) M Q ↔ wp scr n mb_152 57 L (.int (x + y) :: st) M Q := wp_step rfl rfl rfl rfl rfl
theorem u152_57 : wp scr n mb_152 57 [l0, l1, l2, l3, l4, l5, l6, some (.int x)] st M Q ↔ wp scr n mb_152 59 [l0, l1, l2, l3, l4, l5, l6, some (.int x)] (.int x :: st) M Q := wp_step rfl rfl rfl rfl rfl
theorem u152_59 : wp scr n mb_152 59 L (.int x :: .int y :: o :: st) M Q ↔ mw_o (mm_sti M o y x) (fun M1 => wp scr n mb_152 60 L st M1 Q) := wp_iast rfl
theorem u152_60 : wp scr n mb_152 60 [l0, some (.ref a), l2, l3, l4, l5, l6, l7] st M Q ↔ wp scr n mb_152 61 [l0, some (.ref a), l2, l3, l4, l5, l6, l7] (.ref a :: st) M Q := wp_step rfl rfl rfl rfl rfl
theorem u152_61 : wp scr n mb_152 61 L st M Q ↔ wp scr n mb_152 63 L (.int 20 :: st) M Q := wp_step rfl rfl rfl rfl rfl
theorem u152_63 : wp scr n mb_152 63 [l0, l1, l2, l3, l4, l5, some (.int x), l7] st M Q ↔ wp scr n mb_152 65 [l0, l1, l2, l3, l4, l5, some (.int x), l7] (.int x :: st) M Q := wp_step rfl rfl rfl rfl rfl
theorem u152_65 : wp scr n mb_152 65 L (.int y :: .int x :: st) M Q ↔ wp scr n mb_152 66 L (.int (x + y) :: st) M Q := wp_step rfl rfl rfl rfl rfl
theorem u152_66 : wp scr n mb_152 66 L st M Q ↔ wp scr n mb_152 68 L (.int 99 :: st) M Q := wp_step rfl rfl rfl rfl rfl
theorem u152_68 : wp scr n mb_152 68 [l0, some (.ref a), l2, l3, l4, l5, l6, l7] st M Q ↔ wp scr n mb_152 69 [l0, some (.ref a), l2, l3, l4, l5, l6, l7] (.ref a :: st) M Q := wp_step rfl rfl rfl rfl rfl
theorem u152_69 : wp scr n mb_152 69 L st M Q ↔ wp scr n mb_152 71 L (.int 20 :: st) M Q := wp_step rfl rfl rfl rfl rfl
theorem u152_71 : wp scr n mb_152 71 [l0, l1, l2, l3, l4, l5, some (.int x), l7] st M Q ↔ wp scr n mb_152 73 [l0, l1, l2, l3, l4, l5, some (.int x), l7] (.int x :: st) M Q := wp_step rfl rfl rfl rfl rfl
theorem u152_73 : wp scr n mb_152 73 L (.int y :: .int x :: st) M Q ↔ wp scr n mb_152 74 L (.int (x + y) :: st) M Q := wp_step rfl rfl rfl rfl rfl
theorem u152_74 : wp scr n mb_152 74 L (.int y :: o :: st) M Q ↔ mw_o (mm_ld (mc_X scr) M o y) (fun x => wp scr n mb_152 75 L (.int x :: st) M Q) := wp_iald rfl
theorem u152_75 : wp scr n mb_152 75 [l0, some (.ref a), l2, l3, l4, l5, l6, l7] st M Q ↔ wp scr n mb_152 76 [l0, some (.ref a), l2, l3, l4, l5, l6, l7] (.ref a :: st) M Q := wp_step rfl rfl rfl rfl rfl
theorem u152_76 : wp scr n mb_152 76 L st M Q ↔ wp scr n mb_152 77 L (.int 0 :: st) M Q := wp_step rfl rfl rfl rfl rfl
theorem u152_77 : wp scr n mb_152 77 [l0, l1, l2, l3, l4, l5, some (.int x), l7] st M Q ↔ wp scr n mb_152 79 [l0, l1, l2, l3, l4, l5, some (.int x), l7] (.int x :: st) M Q := wp_step rfl rfl rfl rfl rfl
theorem u152_79 : wp scr n mb_152 79 L (.int y :: .int x :: st) M Q ↔ wp scr n mb_152 80 L (.int (x + y) :: st) M Q := wp_step rfl rfl rfl rfl rfl
theorem u152_80 : wp scr n mb_152 80 L (.int y :: o :: st) M Q ↔ mw_o (mm_ld (mc_X scr) M o y) (fun x => wp scr n mb_152 81 L (.int x :: st) M Q) := wp_iald rfl
theorem u152_81 : wp scr n mb_152 81 [l0, some (.ref a), l2, l3, l4, l5, l6, l7] st M Q ↔ wp scr n mb_152 82 [l0, some (.ref a), l2, l3, l4, l5, l6, l7] (.ref a :: st) M Q := wp_step rfl rfl rfl rfl rfl
theorem u152_82 : wp scr n mb_152 82 L st M Q ↔ wp scr n mb_152 84 L (.int 20 :: st) M Q := wp_step rfl rfl rfl rfl rfl
theorem u152_84 : wp scr n mb_152 84 [l0, l1, l2, l3, l4, l5, some (.int x), l7] st M Q ↔ wp scr n mb_152 86 [l0, l1, l2, l3, l4, l5, some (.int x), l7] (.int x :: st) M Q := wp_step rfl rfl rfl rfl rfl
theorem u152_86 : wp scr n mb_152 86 L (.int y :: .int x :: st) M Q ↔ wp scr n mb_152 87 L (.int (x + y) :: st) M Q := wp_step rfl rfl rfl rfl rfl
theorem u152_87 : wp scr n mb_152 87 L (.int y :: o :: st) M Q ↔ mw_o (mm_ld (mc_X scr) M o y) (fun x => wp scr n mb_152 88 L (.int x :: st) M Q) := wp_iald rfl
theorem u152_88 : wp scr n mb_152 88 [l0, l1, l2, l3, l4, l5, l6, some (.int x)] st M Q ↔ wp scr n mb_152 90 [l0, l1, l2, l3, l4, l5, l6, some (.int x)] (.int x :: st) M Q := wp_step rfl rfl rfl rfl rfl
theorem u152_90 : wp scr n mb_152 90 L (a3 :: a2 :: a1 :: st) M Q ↔ (mw_st st ∧ Wp scr n 161 [a1, a2, a3] M (fun r1 M1 => wp scr n mb_152 93 L (r1.toList ++ st) M1 Q)) := wp_sta rfl rfl rfl rfl
theorem u152_93 : wp scr n mb_152 93 L (.int y :: .int x :: st) M Q ↔ wp scr n mb_152 94 L (.int (x + y) :: st) M Q := wp_step rfl rfl rfl rfl rfl
theorem u152_94 : wp scr n mb_152 94 L (.int y :: .int x :: st) M Q ↔ (mw_st st ∧ wp scr n mb_152 97 L (.int (if y < x then y else x) :: st) M Q) := wp_math998 rfl
theorem u152_97 : wp scr n mb_152 97 L (.int x :: .int y :: o :: st) M Q ↔ mw_o (mm_sti M o y x) (fun M1 => wp scr n mb_152 98 L st M1 Q) := wp_iast rfl
theorem u152_98 : wp scr n mb_152 98 [l0, l1, l2, l3, l4, l5, some (.int x), l7] st M Q ↔ wp scr n mb_152 101 (mm_sto1 [l0, l1, l2, l3, l4, l5, some (.int x), l7] 6 (.int (x + 1))) st M Q := wp_step rfl rfl rfl rfl rfl
theorem u152_101 : wp scr n mb_152 101 L st M Q ↔ wp scr n mb_152 24 L st M Q := wp_step rfl rfl rfl rfl rfl
theorem u152_104 : wp scr n mb_152 104 [some (.ref a), l1, l2, l3, l4, l5, l6, l7] st M Q ↔ wp scr n mb_152 105 [some (.ref a), l1, l2, l3, l4, l5, l6, l7] (.ref a :: st) M Q := wp_step rfl rfl rfl rfl rfl
theorem u152_105 : wp scr n mb_152 105 [l0, some (.ref a), l2, l3, l4, l5, l6, l7] st M Q ↔ wp scr n mb_152 106 [l0, some (.ref a), l2, l3, l4, l5, l6, l7] (.ref a :: st) M Q := wp_step rfl rfl rfl rfl rfl
theorem u152_106 : wp scr n mb_152 106 [l0, l1, some (.int x), l3, l4, l5, l6, l7] st M Q ↔ wp scr n mb_152 107 [l0, l1, some (.int x), l3, l4, l5, l6, l7] (.int x :: st) M Q := wp_step rfl rfl rfl rfl rfl
theorem u152_107 : wp scr n mb_152 107 [l0, l1, l2, some (.int x), l4, l5, l6, l7] st M Q ↔ wp scr n mb_152 108 [l0, l1, l2, some (.int x), l4, l5, l6, l7] (.int x :: st) M Q := wp_step rfl rfl rfl rfl rfl
theorem u152_108 : wp scr n mb_152 108 L (a4 :: a3 :: a2 :: .ref a :: st) M Q ↔ ((mw_r M a 6 ∧ mw_st st) ∧ Wp scr n 162 [.ref a, a2, a3, a4] M (fun r1 M1 => wp scr n mb_152 111 L (r1.toList ++ st) M1 Q)) := wp_vir rfl rfl rfl rfl rfl
theorem u152_111 : wp scr n mb_152 111 [l0, l1, l2, l3, l4, some (.int x), l6, l7] st M Q ↔ wp scr n mb_152 113 [l0, l1, l2, l3, l4, some (.int x), l6, l7] (.int x :: st) M Q := wp_step rfl rfl rfl rfl rfl
theorem u152_113 : wp scr n mb_152 113 L [.int x] M Q ↔ Q (some (.int x)) M := wp_ret rfl rfl
theorem e152 : Wp scr (n + 1) 152 [.ref a0, .ref b1, .int x2, .int x3] M Q ↔ wp scr n mb_152 0 [some (.ref a0), some (.ref b1), some (.int x2), some (.int x3), none, none, none, none] [] M Q := Wp_to rfl rfl rfl
/-- SmallerInTheShopModel creases ([II)I -/
def mb_153 : mw_B := ((Option.some FieldType.int), mp_153)
theorem u153_0 : wp scr n mb_153 0 [l0, some (.int x), l2, l3, l4, l5, l6, l7, l8] st M Q ↔ wp scr n mb_153 1 [l0, some (.int x), l2, l3, l4, l5, l6, l7, l8] (.int x :: st) M Q := wp_step rfl rfl rfl rfl rfl
theorem u153_1 : wp scr n mb_153 1 L st M Q ↔ wp scr n mb_153 2 L (.int 4 :: st) M Q := wp_step rfl rfl rfl rfl rfl
theorem u153_2 : wp scr n mb_153 2 L (.int y :: .int x :: st) M Q ↔ (if x = y then wp scr n mb_153 5 L st M Q else wp scr n mb_153 9 L st M Q) := (wp_step rfl rfl rfl rfl rfl).trans wp_iten
theorem u153_5 : wp scr n mb_153 5 L st M Q ↔ wp scr n mb_153 6 L (.int 1 :: st) M Q := wp_step rfl rfl rfl rfl rfl
theorem u153_6 : wp scr n mb_153 6 L st M Q ↔ wp scr n mb_153 10 L st M Q := wp_step rfl rfl rfl rfl rfl
theorem u153_9 : wp scr n mb_153 9 L st M Q ↔ wp scr n mb_153 10 L (.int 0 :: st) M Q := wp_step rfl rfl rfl rfl rfl
theorem u153_10 : wp scr n mb_153 10 [l0, l1, l2, l3, l4, l5, l6, l7, l8] (.int x :: st) M Q ↔ wp scr n mb_153 11 (mm_sto1 [l0, l1, l2, l3, l4, l5, l6, l7, l8] 2 (.int x)) st M Q := wp_step rfl rfl rfl rfl rfl
theorem u153_11 : wp scr n mb_153 11 [l0, some (.int x), l2, l3, l4, l5, l6, l7, l8] st M Q ↔ wp scr n mb_153 12 [l0, some (.int x), l2, l3, l4, l5, l6, l7, l8] (.int x :: st) M Q := wp_step rfl rfl rfl rfl rfl
theorem u153_12 : wp scr n mb_153 12 L st M Q ↔ wp scr n mb_153 13 L (.int 4 :: st) M Q := wp_step rfl rfl rfl rfl rfl
theorem u153_13 : wp scr n mb_153 13 L (.int y :: .int x :: st) M Q ↔ (if x = y then wp scr n mb_153 16 L st M Q else wp scr n mb_153 20 L st M Q) := (wp_step rfl rfl rfl rfl rfl).trans wp_iten
theorem u153_16 : wp scr n mb_153 16 L st M Q ↔ wp scr n mb_153 17 L (.int 1 :: st) M Q := wp_step rfl rfl rfl rfl rfl
theorem u153_17 : wp scr n mb_153 17 L st M Q ↔ wp scr n mb_153 21 L st M Q := wp_step rfl rfl rfl rfl rfl
theorem u153_20 : wp scr n mb_153 20 [l0, some (.int x), l2, l3, l4, l5, l6, l7, l8] st M Q ↔ wp scr n mb_153 21 [l0, some (.int x), l2, l3, l4, l5, l6, l7, l8] (.int x :: st) M Q := wp_step rfl rfl rfl rfl rfl
theorem u153_21 : wp scr n mb_153 21 [l0, l1, l2, l3, l4, l5, l6, l7, l8] (.int x :: st) M Q ↔ wp scr n mb_153 22 (mm_sto1 [l0, l1, l2, l3, l4, l5, l6, l7, l8] 3 (.int x)) st M Q := wp_step rfl rfl rfl rfl rfl
theorem u153_22 : wp scr n mb_153 22 L st M Q ↔ wp scr n mb_153 23 L (.int 0 :: st) M Q := wp_step rfl rfl rfl rfl rfl
theorem u153_23 : wp scr n mb_153 23 [l0, l1, l2, l3, l4, l5, l6, l7, l8] (.int x :: st) M Q ↔ wp scr n mb_153 25 (mm_sto1 [l0, l1, l2, l3, l4, l5, l6, l7, l8] 4 (.int x)) st M Q := wp_step rfl rfl rfl rfl rfl
theorem u153_25 : wp scr n mb_153 25 L st M Q ↔ wp scr n mb_153 26 L (.int 0 :: st) M Q := wp_step rfl rfl rfl rfl rfl
theorem u153_26 : wp scr n mb_153 26 [l0, l1, l2, l3, l4, l5, l6, l7, l8] (.int x :: st) M Q ↔ wp scr n mb_153 28 (mm_sto1 [l0, l1, l2, l3, l4, l5, l6, l7, l8] 5 (.int x)) st M Q := wp_step rfl rfl rfl rfl rfl
theorem u153_28 : wp scr n mb_153 28 [l0, l1, l2, l3, l4, some (.int x), l6, l7, l8] st M Q ↔ wp scr n mb_153 30 [l0, l1, l2, l3, l4, some (.int x), l6, l7, l8] (.int x :: st) M Q := wp_step rfl rfl rfl rfl rfl
theorem u153_30 : wp scr n mb_153 30 L st M Q ↔ wp scr n mb_153 32 L (.int 10 :: st) M Q := wp_step rfl rfl rfl rfl rfl
theorem u153_32 : wp scr n mb_153 32 L (.int y :: .int x :: st) M Q ↔ (if y ≤ x then wp scr n mb_153 159 L st M Q else wp scr n mb_153 35 L st M Q) := (wp_step rfl rfl rfl rfl rfl).trans wp_ite
theorem u153_35 : wp scr n mb_153 35 L st M Q ↔ wp scr n mb_153 37 L (.int 40 :: st) M Q := wp_step rfl rfl rfl rfl rfl
theorem u153_37 : wp scr n mb_153 37 L st M Q ↔ wp scr n mb_153 38 L (.int 4 :: st) M Q := wp_step rfl rfl rfl rfl rfl
theorem u153_38 : wp scr n mb_153 38 [l0, l1, l2, l3, l4, some (.int x), l6, l7, l8] st M Q ↔ wp scr n mb_153 40 [l0, l1, l2, l3, l4, some (.int x), l6, l7, l8] (.int x :: st) M Q := wp_step rfl rfl rfl rfl rfl
theorem u153_40 : wp scr n mb_153 40 L (a1 :: st) M Q ↔ (mw_st st ∧ Wp scr n 154 [a1] M (fun r1 M1 => wp scr n mb_153 43 L (r1.toList ++ st) M1 Q)) := wp_sta rfl rfl rfl rfl
theorem u153_43 : wp scr n mb_153 43 L (.int y :: .int x :: st) M Q ↔ wp scr n mb_153 44 L (.int (x * y) :: st) M Q := wp_step rfl rfl rfl rfl rfl
theorem u153_44 : wp scr n mb_153 44 L (.int y :: .int x :: st) M Q ↔ wp scr n mb_153 45 L (.int (x + y) :: st) M Q := wp_step rfl rfl rfl rfl rfl
theorem u153_45 : wp scr n mb_153 45 [l0, l1, l2, l3, l4, l5, l6, l7, l8] (.int x :: st) M Q ↔ wp scr n mb_153 47 (mm_sto1 [l0, l1, l2, l3, l4, l5, l6, l7, l8] 6 (.int x)) st M Q := wp_step rfl rfl rfl rfl rfl
theorem u153_47 : wp scr n mb_153 47 L st M Q ↔ wp scr n mb_153 49 L (.int 40 :: st) M Q := wp_step rfl rfl rfl rfl rfl
theorem u153_49 : wp scr n mb_153 49 L st M Q ↔ wp scr n mb_153 50 L (.int 4 :: st) M Q := wp_step rfl rfl rfl rfl rfl
theorem u153_50 : wp scr n mb_153 50 [l0, l1, l2, l3, l4, some (.int x), l6, l7, l8] st M Q ↔ wp scr n mb_153 52 [l0, l1, l2, l3, l4, some (.int x), l6, l7, l8] (.int x :: st) M Q := wp_step rfl rfl rfl rfl rfl
theorem u153_52 : wp scr n mb_153 52 L (a1 :: st) M Q ↔ (mw_st st ∧ Wp scr n 155 [a1] M (fun r1 M1 => wp scr n mb_153 55 L (r1.toList ++ st) M1 Q)) := wp_sta rfl rfl rfl rfl
theorem u153_55 : wp scr n mb_153 55 L (.int y :: .int x :: st) M Q ↔ wp scr n mb_153 56 L (.int (x * y) :: st) M Q := wp_step rfl rfl rfl rfl rfl
theorem u153_56 : wp scr n mb_153 56 L (.int y :: .int x :: st) M Q ↔ wp scr n mb_153 57 L (.int (x + y) :: st) M Q := wp_step rfl rfl rfl rfl rfl
theorem u153_57 : wp scr n mb_153 57 [l0, l1, l2, l3, l4, l5, l6, l7, l8] (.int x :: st) M Q ↔ wp scr n mb_153 59 (mm_sto1 [l0, l1, l2, l3, l4, l5, l6, l7, l8] 7 (.int x)) st M Q := wp_step rfl rfl rfl rfl rfl
theorem u153_59 : wp scr n mb_153 59 [some (.ref a), l1, l2, l3, l4, l5, l6, l7, l8] st M Q ↔ wp scr n mb_153 60 [some (.ref a), l1, l2, l3, l4, l5, l6, l7, l8] (.ref a :: st) M Q := wp_step rfl rfl rfl rfl rfl
theorem u153_60 : wp scr n mb_153 60 [l0, l1, l2, l3, l4, l5, some (.int x), l7, l8] st M Q ↔ wp scr n mb_153 62 [l0, l1, l2, l3, l4, l5, some (.int x), l7, l8] (.int x :: st) M Q := wp_step rfl rfl rfl rfl rfl
theorem u153_62 : wp scr n mb_153 62 L st M Q ↔ wp scr n mb_153 63 L (.int 1 :: st) M Q := wp_step rfl rfl rfl rfl rfl
theorem u153_63 : wp scr n mb_153 63 L (.int y :: .int x :: st) M Q ↔ wp scr n mb_153 64 L (.int (x + y) :: st) M Q := wp_step rfl rfl rfl rfl rfl
theorem u153_64 : wp scr n mb_153 64 [l0, l1, some (.int x), l3, l4, l5, l6, l7, l8] st M Q ↔ wp scr n mb_153 65 [l0, l1, some (.int x), l3, l4, l5, l6, l7, l8] (.int x :: st) M Q := wp_step rfl rfl rfl rfl rfl
theorem u153_65 : wp scr n mb_153 65 L (.int y :: .int x :: st) M Q ↔ wp scr n mb_153 66 L (.int (x - y) :: st) M Q := wp_step rfl rfl rfl rfl rfl
theorem u153_66 : wp scr n mb_153 66 L (.int y :: o :: st) M Q ↔ mw_o (mm_ld (mc_X scr) M o y) (fun x => wp scr n mb_153 67 L (.int x :: st) M Q) := wp_iald rfl
theorem u153_67 : wp scr n mb_153 67 [some (.ref a), l1, l2, l3, l4, l5, l6, l7, l8] st M Q ↔ wp scr n mb_153 68 [some (.ref a), l1, l2, l3, l4, l5, l6, l7, l8] (.ref a :: st) M Q := wp_step rfl rfl rfl rfl rfl
theorem u153_68 : wp scr n mb_153 68 [l0, l1, l2, l3, l4, l5, l6, some (.int x), l8] st M Q ↔ wp scr n mb_153 70 [l0, l1, l2, l3, l4, l5, l6, some (.int x), l8] (.int x :: st) M Q := wp_step rfl rfl rfl rfl rfl
theorem u153_70 : wp scr n mb_153 70 L st M Q ↔ wp scr n mb_153 71 L (.int 1 :: st) M Q := wp_step rfl rfl rfl rfl rfl
theorem u153_71 : wp scr n mb_153 71 L (.int y :: .int x :: st) M Q ↔ wp scr n mb_153 72 L (.int (x + y) :: st) M Q := wp_step rfl rfl rfl rfl rfl
theorem u153_72 : wp scr n mb_153 72 [l0, l1, some (.int x), l3, l4, l5, l6, l7, l8] st M Q ↔ wp scr n mb_153 73 [l0, l1, some (.int x), l3, l4, l5, l6, l7, l8] (.int x :: st) M Q := wp_step rfl rfl rfl rfl rfl
theorem u153_73 : wp scr n mb_153 73 L (.int y :: .int x :: st) M Q ↔ wp scr n mb_153 74 L (.int (x - y) :: st) M Q := wp_step rfl rfl rfl rfl rfl
theorem u153_74 : wp scr n mb_153 74 L (.int y :: o :: st) M Q ↔ mw_o (mm_ld (mc_X scr) M o y) (fun x => wp scr n mb_153 75 L (.int x :: st) M Q) := wp_iald rfl
theorem u153_75 : wp scr n mb_153 75 L (.int y :: .int x :: st) M Q ↔ (if x = y then wp scr n mb_153 78 L st M Q else wp scr n mb_153 122 L st M Q) := (wp_step rfl rfl rfl rfl rfl).trans wp_iten
theorem u153_78 : wp scr n mb_153 78 [some (.ref a), l1, l2, l3, l4, l5, l6, l7, l8] st M Q ↔ wp scr n mb_153 79 [some (.ref a), l1, l2, l3, l4, l5, l6, l7, l8] (.ref a :: st) M Q := wp_step rfl rfl rfl rfl rfl
theorem u153_79 : wp scr n mb_153 79 [l0, l1, l2, l3, l4, l5, some (.int x), l7, l8] st M Q ↔ wp scr n mb_153 81 [l0, l1, l2, l3, l4, l5, some (.int x), l7, l8] (.int x :: st) M Q := wp_step rfl rfl rfl rfl rfl
theorem u153_81 : wp scr n mb_153 81 [l0, l1, some (.int x), l3, l4, l5, l6, l7, l8] st M Q ↔ wp scr n mb_153 82 [l0, l1, some (.int x), l3, l4, l5, l6, l7, l8] (.int x :: st) M Q := wp_step rfl rfl rfl rfl rfl
theorem u153_82 : wp scr n mb_153 82 L (.int y :: .int x :: st) M Q ↔ wp scr n mb_153 83 L (.int (x + y) :: st) M Q := wp_step rfl rfl rfl rfl rfl
theorem u153_83 : wp scr n mb_153 83 L (.int y :: o :: st) M Q ↔ mw_o (mm_ld (mc_X scr) M o y) (fun x => wp scr n mb_153 84 L (.int x :: st) M Q) := wp_iald rfl
theorem u153_84 : wp scr n mb_153 84 [some (.ref a), l1, l2, l3, l4, l5, l6, l7, l8] st M Q ↔ wp scr n mb_153 85 [some (.ref a), l1, l2, l3, l4, l5, l6, l7, l8] (.ref a :: st) M Q := wp_step rfl rfl rfl rfl rfl
theorem u153_85 : wp scr n mb_153 85 [l0, l1, l2, l3, l4, l5, l6, some (.int x), l8] st M Q ↔ wp scr n mb_153 87 [l0, l1, l2, l3, l4, l5, l6, some (.int x), l8] (.int x :: st) M Q := wp_step rfl rfl rfl rfl rfl
theorem u153_87 : wp scr n mb_153 87 [l0, l1, some (.int x), l3, l4, l5, l6, l7, l8] st M Q ↔ wp scr n mb_153 88 [l0, l1, some (.int x), l3, l4, l5, l6, l7, l8] (.int x :: st) M Q := wp_step rfl rfl rfl rfl rfl
theorem u153_88 : wp scr n mb_153 88 L (.int y :: .int x :: st) M Q ↔ wp scr n mb_153 89 L (.int (x + y) :: st) M Q := wp_step rfl rfl rfl rfl rfl
theorem u153_89 : wp scr n mb_153 89 L (.int y :: o :: st) M Q ↔ mw_o (mm_ld (mc_X scr) M o y) (fun x => wp scr n mb_153 90 L (.int x :: st) M Q) := wp_iald rfl
theorem u153_90 : wp scr n mb_153 90 L (.int y :: .int x :: st) M Q ↔ (mw_st st ∧ wp scr n mb_153 93 L (.int (if y < x then y else x) :: st) M Q) := wp_math998 rfl
theorem u153_93 : wp scr n mb_153 93 [l0, l1, l2, some (.int x), l4, l5, l6, l7, l8] st M Q ↔ wp scr n mb_153 94 [l0, l1, l2, some (.int x), l4, l5, l6, l7, l8] (.int x :: st) M Q := wp_step rfl rfl rfl rfl rfl
theorem u153_94 : wp scr n mb_153 94 L st M Q ↔ wp scr n mb_153 95 L (.int 1 :: st) M Q := wp_step rfl rfl rfl rfl rfl
theorem u153_95 : wp scr n mb_153 95 L (.int y :: .int x :: st) M Q ↔ wp scr n mb_153 96 L (.int (x - y) :: st) M Q := wp_step rfl rfl rfl rfl rfl
theorem u153_96 : wp scr n mb_153 96 L (.int y :: .int x :: st) M Q ↔ (if x = y then wp scr n mb_153 99 L st M Q else wp scr n mb_153 122 L st M Q) := (wp_step rfl rfl rfl rfl rfl).trans wp_iten
theorem u153_99 : wp scr n mb_153 99 [some (.ref a), l1, l2, l3, l4, l5, l6, l7, l8] st M Q ↔ wp scr n mb_153 100 [some (.ref a), l1, l2, l3, l4, l5, l6, l7, l8] (.ref a :: st) M Q := wp_step rfl rfl rfl rfl rfl
theorem u153_100 : wp scr n mb_153 100 [l0, l1, l2, l3, l4, l5, some (.int x), l7, l8] st M Q ↔ wp scr n mb_153 102 [l0, l1, l2, l3, l4, l5, some (.int x), l7, l8] (.int x :: st) M Q := wp_step rfl rfl rfl rfl rfl
theorem u153_102 : wp scr n mb_153 102 [l0, l1, some (.int x), l3, l4, l5, l6, l7, l8] st M Q ↔ wp scr n mb_153 103 [l0, l1, some (.int x), l3, l4, l5, l6, l7, l8] (.int x :: st) M Q := wp_step rfl rfl rfl rfl rfl
theorem u153_103 : wp scr n mb_153 103 L (.int y :: .int x :: st) M Q ↔ wp scr n mb_153 104 L (.int (x + y) :: st) M Q := wp_step rfl rfl rfl rfl rfl
theorem u153_104 : wp scr n mb_153 104 L (.int y :: o :: st) M Q ↔ mw_o (mm_ld (mc_X scr) M o y) (fun x => wp scr n mb_153 105 L (.int x :: st) M Q) := wp_iald rfl
theorem u153_105 : wp scr n mb_153 105 [some (.ref a), l1, l2, l3, l4, l5, l6, l7, l8] st M Q ↔ wp scr n mb_153 106 [some (.ref a), l1, l2, l3, l4, l5, l6, l7, l8] (.ref a :: st) M Q := wp_step rfl rfl rfl rfl rfl
theorem u153_106 : wp scr n mb_153 106 [l0, l1, l2, l3, l4, l5, l6, some (.int x), l8] st M Q ↔ wp scr n mb_153 108 [l0, l1, l2, l3, l4, l5, l6, some (.int x), l8] (.int x :: st) M Q := wp_step rfl rfl rfl rfl rfl
theorem u153_108 : wp scr n mb_153 108 [l0, l1, some (.int x), l3, l4, l5, l6, l7, l8] st M Q ↔ wp scr n mb_153 109 [l0, l1, some (.int x), l3, l4, l5, l6, l7, l8] (.int x :: st) M Q := wp_step rfl rfl rfl rfl rfl
theorem u153_109 : wp scr n mb_153 109 L (.int y :: .int x :: st) M Q ↔ wp scr n mb_153 110 L (.int (x + y) :: st) M Q := wp_step rfl rfl rfl rfl rfl
theorem u153_110 : wp scr n mb_153 110 L (.int y :: o :: st) M Q ↔ mw_o (mm_ld (mc_X scr) M o y) (fun x => wp scr n mb_153 111 L (.int x :: st) M Q) := wp_iald rfl
theorem u153_111 : wp scr n mb_153 111 L (.int y :: .int x :: st) M Q ↔ (mw_st st ∧ wp scr n mb_153 114 L (.int (if x < y then y else x) :: st) M Q) := wp_math997 rfl
theorem u153_114 : wp scr n mb_153 114 [l0, l1, l2, some (.int x), l4, l5, l6, l7, l8] st M Q ↔ wp scr n mb_153 115 [l0, l1, l2, some (.int x), l4, l5, l6, l7, l8] (.int x :: st) M Q := wp_step rfl rfl rfl rfl rfl
theorem u153_115 : wp scr n mb_153 115 L (.int y :: .int x :: st) M Q ↔ (if x = y then wp scr n mb_153 118 L st M Q else wp scr n mb_153 122 L st M Q) := (wp_step rfl rfl rfl rfl rfl).trans wp_iten
theorem u153_118 : wp scr n mb_153 118 L st M Q ↔ wp scr n mb_153 119 L (.int 1 :: st) M Q := wp_step rfl rfl rfl rfl rfl
theorem u153_119 : wp scr n mb_153 119 L st M Q ↔ wp scr n mb_153 123 L st M Q := wp_step rfl rfl rfl rfl rfl
theorem u153_122 : wp scr n mb_153 122 L st M Q ↔ wp scr n mb_153 123 L (.int 0 :: st) M Q := wp_step rfl rfl rfl rfl rfl
theorem u153_123 : wp scr n mb_153 123 [l0, l1, l2, l3, l4, l5, l6, l7, l8] (.int x :: st) M Q ↔ wp scr n mb_153 125 (mm_sto1 [l0, l1, l2, l3, l4, l5, l6, l7, l8] 8 (.int x)) st M Q := wp_step rfl rfl rfl rfl rfl
theorem u153_125 : wp scr n mb_153 125 [l0, l1, l2, l3, some (.int x), l5, l6, l7, l8] st M Q ↔ wp scr n mb_153 127 [l0, l1, l2, l3, some (.int x), l5, l6, l7, l8] (.int x :: st) M Q := wp_step rfl rfl rfl rfl rfl
theorem u153_127 : wp scr n mb_153 127 [l0, l1, l2, l3, l4, l5, l6, l7, some (.int x)] st M Q ↔ wp scr n mb_153 129 [l0, l1, l2, l3, l4, l5, l6, l7, some (.int x)] (.int x :: st) M Q := wp_step rfl rfl rfl rfl rfl
theorem u153_129 : wp scr n mb_153 129 L (.int x :: st) M Q ↔ (if x = 0 then wp scr n mb_153 149 L st M Q else wp scr n mb_153 132 L st M Q) := (wp_step rfl rfl rfl rfl rfl).trans wp_ite
theorem u153_132 : wp scr n mb_153 132 [some (.ref a), l1, l2, l3, l4, l5, l6, l7, l8] st M Q ↔ wp scr n mb_153 133 [some (.ref a), l1, l2, l3, l4, l5, l6, l7, l8] (.ref a :: st) M Q := wp_step rfl rfl rfl rfl rfl
theorem u153_133 : wp scr n mb_153 133 L st M Q ↔ wp scr n mb_153 135 L (.int 30 :: st) M Q := wp_step rfl rfl rfl rfl rfl
theorem u153_135 : wp scr n mb_153 135 [l0, l1, l2, l3, l4, some (.int x), l6, l7, l8] st M Q ↔ wp scr n mb_153 137 [l0, l1, l2, l3, l4, some (.int x), l6, l7, l8] (.int x :: st) M Q := wp_step rfl rfl rfl rfl rfl
theorem u153_137 : wp scr n mb_153 137 L (.int y :: .int x :: st) M Q ↔ wp scr n mb_153 138 L (.int (x + y) :: st) M Q := wp_step rfl rfl rfl rfl rfl
theorem u153_138 : wp scr n mb_153 138 L (.int y :: o :: st) M Q ↔ mw_o (mm_ld (mc_X scr) M o y) (fun x => wp scr n mb_153 139 L (.int x :: st) M Q) := wp_iald rfl
theorem u153_139 : wp scr n mb_153 139 L (.int x :: st) M Q ↔ (if x = 0 then wp scr n mb_153 142 L st M Q else wp scr n mb_153 149 L st M Q) := (wp_step rfl rfl rfl rfl rfl).trans wp_iten
theorem u153_142 : wp scr n mb_153 142 L st M Q ↔ wp scr n mb_153 143 L (.int 1 :: st) M Q := wp_step rfl rfl rfl rfl rfl
theorem u153_143 : wp scr n mb_153 143 [l0, l1, l2, l3, l4, some (.int x), l6, l7, l8] st M Q ↔ wp scr n mb_153 145 [l0, l1, l2, l3, l4, some (.int x), l6, l7, l8] (.int x :: st) M Q := wp_step rfl rfl rfl rfl rfl
theorem u153_145 : wp scr n mb_153 145 L (.int y :: .int x :: st) M Q ↔ wp scr n mb_153 146 L (.int (x <<< (y &&& 31)) :: st) M Q := wp_step rfl rfl rfl rfl rfl
theorem u153_146 : wp scr n mb_153 146 L st M Q ↔ wp scr n mb_153 150 L st M Q := wp_step rfl rfl rfl rfl rfl
theorem u153_149 : wp scr n mb_153 149 L st M Q ↔ wp scr n mb_153 150 L (.int 0 :: st) M Q := wp_step rfl rfl rfl rfl rfl
theorem u153_150 : wp scr n mb_153 150 L (.int y :: .int x :: st) M Q ↔ wp scr n mb_153 151 L (.int (x ||| y) :: st) M Q := wp_step rfl rfl rfl rfl rfl
theorem u153_151 : wp scr n mb_153 151 [l0, l1, l2, l3, l4, l5, l6, l7, l8] (.int x :: st) M Q ↔ wp scr n mb_153 153 (mm_sto1 [l0, l1, l2, l3, l4, l5, l6, l7, l8] 4 (.int x)) st M Q := wp_step rfl rfl rfl rfl rfl
theorem u153_153 : wp scr n mb_153 153 [l0, l1, l2, l3, l4, some (.int x), l6, l7, l8] st M Q ↔ wp scr n mb_153 156 (mm_sto1 [l0, l1, l2, l3, l4, some (.int x), l6, l7, l8] 5 (.int (x + 1))) st M Q := wp_step rfl rfl rfl rfl rfl
theorem u153_156 : wp scr n mb_153 156 L st M Q ↔ wp scr n mb_153 28 L st M Q := wp_step rfl rfl rfl rfl rfl
theorem u153_159 : wp scr n mb_153 159 [l0, l1, l2, l3, some (.int x), l5, l6, l7, l8] st M Q ↔ wp scr n mb_153 161 [l0, l1, l2, l3, some (.int x), l5, l6, l7, l8] (.int x :: st) M Q := wp_step rfl rfl rfl rfl rfl
theorem u153_161 : wp scr n mb_153 161 L [.int x] M Q ↔ Q (some (.int x)) M := wp_ret rfl rfl
theorem e153 : Wp scr (n + 1) 153 [.ref b1, .int x2] M Q ↔ wp scr n mb_153 0 [some (.ref b1), some (.int x2), none, none, none, none, none, none, none] [] M Q := Wp_to rfl rfl rfl
/-- SmallerInTheShopModel one (I)I -/
def mb_154 : mw_B := ((Option.some FieldType.int), mp_154)
theorem u154_0 : wp scr n mb_154 0 [some (.int x)] st M Q ↔ wp scr n mb_154 1 [some (.int x)] (.int x :: st) M Q := wp_step rfl rfl rfl rfl rfl
theorem u154_1 : wp scr n mb_154 1 L st M Q ↔ wp scr n mb_154 2 L (.int 3 :: st) M Q := wp_step rfl rfl rfl rfl rfl
theorem u154_2 : wp scr n mb_154 2 L (.int y :: .int x :: st) M Q ↔ (if y ≤ x then wp scr n mb_154 9 L st M Q else wp scr n mb_154 5 L st M Q) := (wp_step rfl rfl rfl rfl rfl).trans wp_ite
theorem u154_5 : wp scr n mb_154 5 [some (.int x)] st M Q ↔ wp scr n mb_154 6 [some (.int x)] (.int x :: st) M Q := wp_step rfl rfl rfl rfl rfl
theorem u154_6 : wp scr n mb_154 6 L st M Q ↔ wp scr n mb_154 25 L st M Q := wp_step rfl rfl rfl rfl rfl
theorem u154_9 : wp scr n mb_154 9 [some (.int x)] st M Q ↔ wp scr n mb_154 10 [some (.int x)] (.int x :: st) M Q := wp_step rfl rfl rfl rfl rfl
theorem u154_10 : wp scr n mb_154 10 L st M Q ↔ wp scr n mb_154 12 L (.int 6 :: st) M Q := wp_step rfl rfl rfl rfl rfl
theorem u154_12 : wp scr n mb_154 12 L (.int y :: .int x :: st) M Q ↔ (if y ≤ x then wp scr n mb_154 21 L st M Q else wp scr n mb_154 15 L st M Q) := (wp_step rfl rfl rfl rfl rfl).trans wp_ite
theorem u154_15 : wp scr n mb_154 15 [some (.int x)] st M Q ↔ wp scr n mb_154 16 [some (.int x)] (.int x :: st) M Q := wp_step rfl rfl rfl rfl rfl
theorem u154_16 : wp scr n mb_154 16 L st M Q ↔ wp scr n mb_154 17 L (.int 1 :: st) M Q := wp_step rfl rfl rfl rfl rfl
theorem u154_17 : wp scr n mb_154 17 L (.int y :: .int x :: st) M Q ↔ wp scr n mb_154 18 L (.int (x + y) :: st) M Q := wp_step rfl rfl rfl rfl rfl
theorem u154_18 : wp scr n mb_154 18 L st M Q ↔ wp scr n mb_154 25 L st M Q := wp_step rfl rfl rfl rfl rfl
theorem u154_21 : wp scr n mb_154 21 [some (.int x)] st M Q ↔ wp scr n mb_154 22 [some (.int x)] (.int x :: st) M Q := wp_step rfl rfl rfl rfl rfl
theorem u154_22 : wp scr n mb_154 22 L st M Q ↔ wp scr n mb_154 24 L (.int 6 :: st) M Q := wp_step rfl rfl rfl rfl rfl
theorem u154_24 : wp scr n mb_154 24 L (.int y :: .int x :: st) M Q ↔ wp scr n mb_154 25 L (.int (x - y) :: st) M Q := wp_step rfl rfl rfl rfl rfl
theorem u154_25 : wp scr n mb_154 25 L [.int x] M Q ↔ Q (some (.int x)) M := wp_ret rfl rfl
theorem e154 : Wp scr (n + 1) 154 [.int x1] M Q ↔ wp scr n mb_154 0 [some (.int x1)] [] M Q := Wp_to rfl rfl rfl
/-- SmallerInTheShopModel other (I)I -/
def mb_155 : mw_B := ((Option.some FieldType.int), mp_155)
theorem u155_0 : wp scr n mb_155 0 [some (.int x)] st M Q ↔ wp scr n mb_155 1 [some (.int x)] (.int x :: st) M Q := wp_step rfl rfl rfl rfl rfl
theorem u155_1 : wp scr n mb_155 1 L st M Q ↔ wp scr n mb_155 2 L (.int 3 :: st) M Q := wp_step rfl rfl rfl rfl rfl
theorem u155_2 : wp scr n mb_155 2 L (.int y :: .int x :: st) M Q ↔ (if y ≤ x then wp scr n mb_155 11 L st M Q else wp scr n mb_155 5 L st M Q) := (wp_step rfl rfl rfl rfl rfl).trans wp_ite
theorem u155_5 : wp scr n mb_155 5 [some (.int x)] st M Q ↔ wp scr n mb_155 6 [some (.int x)] (.int x :: st) M Q := wp_step rfl rfl rfl rfl rfl
theorem u155_6 : wp scr n mb_155 6 L st M Q ↔ wp scr n mb_155 7 L (.int 1 :: st) M Q := wp_step rfl rfl rfl rfl rfl
theorem u155_7 : wp scr n mb_155 7 L (.int y :: .int x :: st) M Q ↔ wp scr n mb_155 8 L (.int (x + y) :: st) M Q := wp_step rfl rfl rfl rfl rfl
theorem u155_8 : wp scr n mb_155 8 L st M Q ↔ wp scr n mb_155 26 L st M Q := wp_step rfl rfl rfl rfl rfl
theorem u155_11 : wp scr n mb_155 11 [some (.int x)] st M Q ↔ wp scr n mb_155 12 [some (.int x)] (.int x :: st) M Q := wp_step rfl rfl rfl rfl rfl
theorem u155_12 : wp scr n mb_155 12 L st M Q ↔ wp scr n mb_155 14 L (.int 6 :: st) M Q := wp_step rfl rfl rfl rfl rfl
theorem u155_14 : wp scr n mb_155 14 L (.int y :: .int x :: st) M Q ↔ (if y ≤ x then wp scr n mb_155 23 L st M Q else wp scr n mb_155 17 L st M Q) := (wp_step rfl rfl rfl rfl rfl).trans wp_ite
theorem u155_17 : wp scr n mb_155 17 [some (.int x)] st M Q ↔ wp scr n mb_155 18 [some (.int x)] (.int x :: st) M Q := wp_step rfl rfl rfl rfl rfl
theorem u155_18 : wp scr n mb_155 18 L st M Q ↔ wp scr n mb_155 19 L (.int 2 :: st) M Q := wp_step rfl rfl rfl rfl rfl
theorem u155_19 : wp scr n mb_155 19 L (.int y :: .int x :: st) M Q ↔ wp scr n mb_155 20 L (.int (x + y) :: st) M Q := wp_step rfl rfl rfl rfl rfl
theorem u155_20 : wp scr n mb_155 20 L st M Q ↔ wp scr n mb_155 26 L st M Q := wp_step rfl rfl rfl rfl rfl
theorem u155_23 : wp scr n mb_155 23 [some (.int x)] st M Q ↔ wp scr n mb_155 24 [some (.int x)] (.int x :: st) M Q := wp_step rfl rfl rfl rfl rfl
theorem u155_24 : wp scr n mb_155 24 L st M Q ↔ wp scr n mb_155 25 L (.int 2 :: st) M Q := wp_step rfl rfl rfl rfl rfl
theorem u155_25 : wp scr n mb_155 25 L (.int y :: .int x :: st) M Q ↔ wp scr n mb_155 26 L (.int (x - y) :: st) M Q := wp_step rfl rfl rfl rfl rfl
theorem u155_26 : wp scr n mb_155 26 L [.int x] M Q ↔ Q (some (.int x)) M := wp_ret rfl rfl
theorem e155 : Wp scr (n + 1) 155 [.int x1] M Q ↔ wp scr n mb_155 0 [some (.int x1)] [] M Q := Wp_to rfl rfl rfl
/-- SmallerInTheShopModel effortBy ([III)I -/
def mb_156 : mw_B := ((Option.some FieldType.int), mp_156)
theorem u156_0 : wp scr n mb_156 0 [some (.ref a), l1, l2, l3, l4, l5] st M Q ↔ wp scr n mb_156 1 [some (.ref a), l1, l2, l3, l4, l5] (.ref a :: st) M Q := wp_step rfl rfl rfl rfl rfl
theorem u156_1 : wp scr n mb_156 1 [l0, some (.int x), l2, l3, l4, l5] st M Q ↔ wp scr n mb_156 2 [l0, some (.int x), l2, l3, l4, l5] (.int x :: st) M Q := wp_step rfl rfl rfl rfl rfl
theorem u156_2 : wp scr n mb_156 2 L (a2 :: a1 :: st) M Q ↔ (mw_st st ∧ Wp scr n 153 [a1, a2] M (fun r1 M1 => wp scr n mb_156 5 L (r1.toList ++ st) M1 Q)) := wp_sta rfl rfl rfl rfl
theorem u156_5 : wp scr n mb_156 5 [l0, l1, l2, l3, l4, l5] (.int x :: st) M Q ↔ wp scr n mb_156 6 (mm_sto1 [l0, l1, l2, l3, l4, l5] 3 (.int x)) st M Q := wp_step rfl rfl rfl rfl rfl
theorem u156_6 : wp scr n mb_156 6 L st M Q ↔ wp scr n mb_156 7 L (.int 0 :: st) M Q := wp_step rfl rfl rfl rfl rfl
theorem u156_7 : wp scr n mb_156 7 [l0, l1, l2, l3, l4, l5] (.int x :: st) M Q ↔ wp scr n mb_156 9 (mm_sto1 [l0, l1, l2, l3, l4, l5] 4 (.int x)) st M Q := wp_step rfl rfl rfl rfl rfl
theorem u156_9 : wp scr n mb_156 9 L st M Q ↔ wp scr n mb_156 10 L (.int 0 :: st) M Q := wp_step rfl rfl rfl rfl rfl
theorem u156_10 : wp scr n mb_156 10 [l0, l1, l2, l3, l4, l5] (.int x :: st) M Q ↔ wp scr n mb_156 12 (mm_sto1 [l0, l1, l2, l3, l4, l5] 5 (.int x)) st M Q := wp_step rfl rfl rfl rfl rfl
theorem u156_12 : wp scr n mb_156 12 [l0, l1, l2, l3, l4, some (.int x)] st M Q ↔ wp scr n mb_156 14 [l0, l1, l2, l3, l4, some (.int x)] (.int x :: st) M Q := wp_step rfl rfl rfl rfl rfl
theorem u156_14 : wp scr n mb_156 14 L st M Q ↔ wp scr n mb_156 16 L (.int 10 :: st) M Q := wp_step rfl rfl rfl rfl rfl
theorem u156_16 : wp scr n mb_156 16 L (.int y :: .int x :: st) M Q ↔ (if y ≤ x then wp scr n mb_156 57 L st M Q else wp scr n mb_156 19 L st M Q) := (wp_step rfl rfl rfl rfl rfl).trans wp_ite
theorem u156_19 : wp scr n mb_156 19 [l0, l1, l2, l3, some (.int x), l5] st M Q ↔ wp scr n mb_156 21 [l0, l1, l2, l3, some (.int x), l5] (.int x :: st) M Q := wp_step rfl rfl rfl rfl rfl
theorem u156_21 : wp scr n mb_156 21 [l0, l1, l2, some (.int x), l4, l5] st M Q ↔ wp scr n mb_156 22 [l0, l1, l2, some (.int x), l4, l5] (.int x :: st) M Q := wp_step rfl rfl rfl rfl rfl
theorem u156_22 : wp scr n mb_156 22 [l0, l1, l2, l3, l4, some (.int x)] st M Q ↔ wp scr n mb_156 24 [l0, l1, l2, l3, l4, some (.int x)] (.int x :: st) M Q := wp_step rfl rfl rfl rfl rfl
theorem u156_24 : wp scr n mb_156 24 L (.int y :: .int x :: st) M Q ↔ wp scr n mb_156 25 L (.int (x >>> (y &&& 31)) :: st) M Q := wp_step rfl rfl rfl rfl rfl
theorem u156_25 : wp scr n mb_156 25 L st M Q ↔ wp scr n mb_156 26 L (.int 1 :: st) M Q := wp_step rfl rfl rfl rfl rfl
theorem u156_26 : wp scr n mb_156 26 L (.int y :: .int x :: st) M Q ↔ wp scr n mb_156 27 L (.int (x &&& y) :: st) M Q := wp_step rfl rfl rfl rfl rfl
theorem u156_27 : wp scr n mb_156 27 L st M Q ↔ wp scr n mb_156 28 L (.int 1 :: st) M Q := wp_step rfl rfl rfl rfl rfl
theorem u156_28 : wp scr n mb_156 28 L (.int y :: .int x :: st) M Q ↔ (if x = y then wp scr n mb_156 31 L st M Q else wp scr n mb_156 47 L st M Q) := (wp_step rfl rfl rfl rfl rfl).trans wp_iten
theorem u156_31 : wp scr n mb_156 31 [some (.ref a), l1, l2, l3, l4, l5] st M Q ↔ wp scr n mb_156 32 [some (.ref a), l1, l2, l3, l4, l5] (.ref a :: st) M Q := wp_step rfl rfl rfl rfl rfl
theorem u156_32 : wp scr n mb_156 32 [l0, l1, l2, l3, l4, some (.int x)] st M Q ↔ wp scr n mb_156 34 [l0, l1, l2, l3, l4, some (.int x)] (.int x :: st) M Q := wp_step rfl rfl rfl rfl rfl
theorem u156_34 : wp scr n mb_156 34 [some (.ref a), l1, l2, l3, l4, l5] st M Q ↔ wp scr n mb_156 35 [some (.ref a), l1, l2, l3, l4, l5] (.ref a :: st) M Q := wp_step rfl rfl rfl rfl rfl
theorem u156_35 : wp scr n mb_156 35 [l0, l1, l2, l3, l4, some (.int x)] st M Q ↔ wp scr n mb_156 37 [l0, l1, l2, l3, l4, some (.int x)] (.int x :: st) M Q := wp_step rfl rfl rfl rfl rfl
theorem u156_37 : wp scr n mb_156 37 [l0, l1, some (.int x), l3, l4, l5] st M Q ↔ wp scr n mb_156 38 [l0, l1, some (.int x), l3, l4, l5] (.int x :: st) M Q := wp_step rfl rfl rfl rfl rfl
theorem u156_38 : wp scr n mb_156 38 L (a3 :: a2 :: a1 :: st) M Q ↔ (mw_st st ∧ Wp scr n 157 [a1, a2, a3] M (fun r1 M1 => wp scr n mb_156 41 L (r1.toList ++ st) M1 Q)) := wp_sta rfl rfl rfl rfl
theorem u156_41 : wp scr n mb_156 41 L (a3 :: a2 :: a1 :: st) M Q ↔ (mw_st st ∧ Wp scr n 158 [a1, a2, a3] M (fun r1 M1 => wp scr n mb_156 44 L (r1.toList ++ st) M1 Q)) := wp_sta rfl rfl rfl rfl
theorem u156_44 : wp scr n mb_156 44 L st M Q ↔ wp scr n mb_156 48 L st M Q := wp_step rfl rfl rfl rfl rfl
theorem u156_47 : wp scr n mb_156 47 L st M Q ↔ wp scr n mb_156 48 L (.int 0 :: st) M Q := wp_step rfl rfl rfl rfl rfl
theorem u156_48 : wp scr n mb_156 48 L (.int y :: .int x :: st) M Q ↔ wp scr n mb_156 49 L (.int (x + y) :: st) M Q := wp_step rfl rfl rfl rfl rfl
theorem u156_49 : wp scr n mb_156 49 [l0, l1, l2, l3, l4, l5] (.int x :: st) M Q ↔ wp scr n mb_156 51 (mm_sto1 [l0, l1, l2, l3, l4, l5] 4 (.int x)) st M Q := wp_step rfl rfl rfl rfl rfl
theorem u156_51 : wp scr n mb_156 51 [l0, l1, l2, l3, l4, some (.int x)] st M Q ↔ wp scr n mb_156 54 (mm_sto1 [l0, l1, l2, l3, l4, some (.int x)] 5 (.int (x + 1))) st M Q := wp_step rfl rfl rfl rfl rfl
theorem u156_54 : wp scr n mb_156 54 L st M Q ↔ wp scr n mb_156 12 L st M Q := wp_step rfl rfl rfl rfl rfl
theorem u156_57 : wp scr n mb_156 57 [l0, l1, l2, l3, some (.int x), l5] st M Q ↔ wp scr n mb_156 59 [l0, l1, l2, l3, some (.int x), l5] (.int x :: st) M Q := wp_step rfl rfl rfl rfl rfl
theorem u156_59 : wp scr n mb_156 59 L [.int x] M Q ↔ Q (some (.int x)) M := wp_ret rfl rfl
theorem e156 : Wp scr (n + 1) 156 [.ref b1, .int x2, .int x3] M Q ↔ wp scr n mb_156 0 [some (.ref b1), some (.int x2), some (.int x3), none, none, none] [] M Q := Wp_to rfl rfl rfl
/-- SmallerInTheShopModel sideOf ([III)I -/
def mb_157 : mw_B := ((Option.some FieldType.int), mp_157)
theorem u157_0 : wp scr n mb_157 0 [some (.ref a), l1, l2, l3] st M Q ↔ wp scr n mb_157 1 [some (.ref a), l1, l2, l3] (.ref a :: st) M Q := wp_step rfl rfl rfl rfl rfl
theorem u157_1 : wp scr n mb_157 1 L st M Q ↔ wp scr n mb_157 3 L (.int 40 :: st) M Q := wp_step rfl rfl rfl rfl rfl
theorem u157_3 : wp scr n mb_157 3 L st M Q ↔ wp scr n mb_157 4 L (.int 4 :: st) M Q := wp_step rfl rfl rfl rfl rfl
theorem u157_4 : wp scr n mb_157 4 [l0, some (.int x), l2, l3] st M Q ↔ wp scr n mb_157 5 [l0, some (.int x), l2, l3] (.int x :: st) M Q := wp_step rfl rfl rfl rfl rfl
theorem u157_5 : wp scr n mb_157 5 L (a1 :: st) M Q ↔ (mw_st st ∧ Wp scr n 154 [a1] M (fun r1 M1 => wp scr n mb_157 8 L (r1.toList ++ st) M1 Q)) := wp_sta rfl rfl rfl rfl
theorem u157_8 : wp scr n mb_157 8 L (.int y :: .int x :: st) M Q ↔ wp scr n mb_157 9 L (.int (x * y) :: st) M Q := wp_step rfl rfl rfl rfl rfl
theorem u157_9 : wp scr n mb_157 9 L (.int y :: .int x :: st) M Q ↔ wp scr n mb_157 10 L (.int (x + y) :: st) M Q := wp_step rfl rfl rfl rfl rfl
theorem u157_10 : wp scr n mb_157 10 L st M Q ↔ wp scr n mb_157 11 L (.int 3 :: st) M Q := wp_step rfl rfl rfl rfl rfl
theorem u157_11 : wp scr n mb_157 11 L (.int y :: .int x :: st) M Q ↔ wp scr n mb_157 12 L (.int (x + y) :: st) M Q := wp_step rfl rfl rfl rfl rfl
theorem u157_12 : wp scr n mb_157 12 L (.int y :: o :: st) M Q ↔ mw_o (mm_ld (mc_X scr) M o y) (fun x => wp scr n mb_157 13 L (.int x :: st) M Q) := wp_iald rfl
theorem u157_13 : wp scr n mb_157 13 L (.int x :: st) M Q ↔ (if x = 0 then wp scr n mb_157 16 L st M Q else wp scr n mb_157 20 L st M Q) := (wp_step rfl rfl rfl rfl rfl).trans wp_iten
theorem u157_16 : wp scr n mb_157 16 L st M Q ↔ wp scr n mb_157 17 L (.int 1 :: st) M Q := wp_step rfl rfl rfl rfl rfl
theorem u157_17 : wp scr n mb_157 17 L st M Q ↔ wp scr n mb_157 21 L st M Q := wp_step rfl rfl rfl rfl rfl
theorem u157_20 : wp scr n mb_157 20 L st M Q ↔ wp scr n mb_157 21 L (.int 0 :: st) M Q := wp_step rfl rfl rfl rfl rfl
theorem u157_21 : wp scr n mb_157 21 [l0, l1, l2, l3] (.int x :: st) M Q ↔ wp scr n mb_157 22 (mm_sto1 [l0, l1, l2, l3] 3 (.int x)) st M Q := wp_step rfl rfl rfl rfl rfl
theorem u157_22 : wp scr n mb_157 22 [l0, l1, l2, some (.int x)] st M Q ↔ wp scr n mb_157 23 [l0, l1, l2, some (.int x)] (.int x :: st) M Q := wp_step rfl rfl rfl rfl rfl
theorem u157_23 : wp scr n mb_157 23 [l0, l1, some (.int x), l3] st M Q ↔ wp scr n mb_157 24 [l0, l1, some (.int x), l3] (.int x :: st) M Q := wp_step rfl rfl rfl rfl rfl
theorem u157_24 : wp scr n mb_157 24 L st M Q ↔ wp scr n mb_157 25 L (.int 2 :: st) M Q := wp_step rfl rfl rfl rfl rfl
theorem u157_25 : wp scr n mb_157 25 L (.int y :: .int x :: st) M Q ↔ (if y = 0 then False else wp scr n mb_157 26 L (.int (x - x / y * y) :: st) M Q) := wp_irem rfl
theorem u157_26 : wp scr n mb_157 26 L (.int x :: st) M Q ↔ (if x = 0 then wp scr n mb_157 29 L st M Q else wp scr n mb_157 33 L st M Q) := (wp_step rfl rfl rfl rfl rfl).trans wp_iten
theorem u157_29 : wp scr n mb_157 29 L st M Q ↔ wp scr n mb_157 30 L (.int 1 :: st) M Q := wp_step rfl rfl rfl rfl rfl
theorem u157_30 : wp scr n mb_157 30 L st M Q ↔ wp scr n mb_157 34 L st M Q := wp_step rfl rfl rfl rfl rfl
theorem u157_33 : wp scr n mb_157 33 L st M Q ↔ wp scr n mb_157 34 L (.int 0 :: st) M Q := wp_step rfl rfl rfl rfl rfl
theorem u157_34 : wp scr n mb_157 34 L (.int y :: .int x :: st) M Q ↔ (if x = y then wp scr n mb_157 37 L st M Q else wp scr n mb_157 41 L st M Q) := (wp_step rfl rfl rfl rfl rfl).trans wp_iten
theorem u157_37 : wp scr n mb_157 37 L st M Q ↔ wp scr n mb_157 38 L (.int 2 :: st) M Q := wp_step rfl rfl rfl rfl rfl
theorem u157_38 : wp scr n mb_157 38 L st M Q ↔ wp scr n mb_157 42 L st M Q := wp_step rfl rfl rfl rfl rfl
theorem u157_41 : wp scr n mb_157 41 L st M Q ↔ wp scr n mb_157 42 L (.int 1 :: st) M Q := wp_step rfl rfl rfl rfl rfl
theorem u157_42 : wp scr n mb_157 42 L [.int x] M Q ↔ Q (some (.int x)) M := wp_ret rfl rfl
theorem e157 : Wp scr (n + 1) 157 [.ref b1, .int x2, .int x3] M Q ↔ wp scr n mb_157 0 [some (.ref b1), some (.int x2), some (.int x3), none] [] M Q := Wp_to rfl rfl rfl
/-- SmallerInTheShopModel effortOf ([III)I -/
def mb_158 : mw_B := ((Option.some FieldType.int), mp_158)
theorem u158_0 : wp scr n mb_158 0 [some (.ref a), l1, l2] st M Q ↔ wp scr n mb_158 1 [some (.ref a), l1, l2] (.ref a :: st) M Q := wp_step rfl rfl rfl rfl rfl
theorem u158_1 : wp scr n mb_158 1 L st M Q ↔ wp scr n mb_158 2 L (.int 0 :: st) M Q := wp_step rfl rfl rfl rfl rfl
theorem u158_2 : wp scr n mb_158 2 [l0, some (.int x), l2] st M Q ↔ wp scr n mb_158 3 [l0, some (.int x), l2] (.int x :: st) M Q := wp_step rfl rfl rfl rfl rfl
theorem u158_3 : wp scr n mb_158 3 L (.int y :: .int x :: st) M Q ↔ wp scr n mb_158 4 L (.int (x + y) :: st) M Q := wp_step rfl rfl rfl rfl rfl
theorem u158_4 : wp scr n mb_158 4 L (.int y :: o :: st) M Q ↔ mw_o (mm_ld (mc_X scr) M o y) (fun x => wp scr n mb_158 5 L (.int x :: st) M Q) := wp_iald rfl
theorem u158_5 : wp scr n mb_158 5 [some (.ref a), l1, l2] st M Q ↔ wp scr n mb_158 6 [some (.ref a), l1, l2] (.ref a :: st) M Q := wp_step rfl rfl rfl rfl rfl
theorem u158_6 : wp scr n mb_158 6 L st M Q ↔ wp scr n mb_158 8 L (.int 10 :: st) M Q := wp_step rfl rfl rfl rfl rfl
theorem u158_8 : wp scr n mb_158 8 [l0, some (.int x), l2] st M Q ↔ wp scr n mb_158 9 [l0, some (.int x), l2] (.int x :: st) M Q := wp_step rfl rfl rfl rfl rfl
theorem u158_9 : wp scr n mb_158 9 L (.int y :: .int x :: st) M Q ↔ wp scr n mb_158 10 L (.int (x + y) :: st) M Q := wp_step rfl rfl rfl rfl rfl
theorem u158_10 : wp scr n mb_158 10 L (.int y :: o :: st) M Q ↔ mw_o (mm_ld (mc_X scr) M o y) (fun x => wp scr n mb_158 11 L (.int x :: st) M Q) := wp_iald rfl
theorem u158_11 : wp scr n mb_158 11 [some (.ref a), l1, l2] st M Q ↔ wp scr n mb_158 12 [some (.ref a), l1, l2] (.ref a :: st) M Q := wp_step rfl rfl rfl rfl rfl
theorem u158_12 : wp scr n mb_158 12 L st M Q ↔ wp scr n mb_158 14 L (.int 20 :: st) M Q := wp_step rfl rfl rfl rfl rfl
theorem u158_14 : wp scr n mb_158 14 [l0, some (.int x), l2] st M Q ↔ wp scr n mb_158 15 [l0, some (.int x), l2] (.int x :: st) M Q := wp_step rfl rfl rfl rfl rfl
theorem u158_15 : wp scr n mb_158 15 L (.int y :: .int x :: st) M Q ↔ wp scr n mb_158 16 L (.int (x + y) :: st) M Q := wp_step rfl rfl rfl rfl rfl
theorem u158_16 : wp scr n mb_158 16 L (.int y :: o :: st) M Q ↔ mw_o (mm_ld (mc_X scr) M o y) (fun x => wp scr n mb_158 17 L (.int x :: st) M Q) := wp_iald rfl
theorem u158_17 : wp scr n mb_158 17 [l0, l1, some (.int x)] st M Q ↔ wp scr n mb_158 18 [l0, l1, some (.int x)] (.int x :: st) M Q := wp_step rfl rfl rfl rfl rfl
theorem u158_18 : wp scr n mb_158 18 L (a4 :: a3 :: a2 :: a1 :: st) M Q ↔ (mw_st st ∧ Wp scr n 159 [a1, a2, a3, a4] M (fun r1 M1 => wp scr n mb_158 21 L (r1.toList ++ st) M1 Q)) := wp_sta rfl rfl rfl rfl
theorem u158_21 : wp scr n mb_158 21 L [.int x] M Q ↔ Q (some (.int x)) M := wp_ret rfl rfl
theorem e158 : Wp scr (n + 1) 158 [.ref b1, .int x2, .int x3] M Q ↔ wp scr n mb_158 0 [some (.ref b1), some (.int x2), some (.int x3)] [] M Q := Wp_to rfl rfl rfl
/-- SmallerInTheShopModel effort (IIII)I -/
def mb_159 : mw_B := ((Option.some FieldType.int), mp_159)
theorem u159_0 : wp scr n mb_159 0 [some (.int x), l1, l2, l3, l4] st M Q ↔ wp scr n mb_159 1 [some (.int x), l1, l2, l3, l4] (.int x :: st) M Q := wp_step rfl rfl rfl rfl rfl
theorem u159_1 : wp scr n mb_159 1 L st M Q ↔ wp scr n mb_159 2 L (.int 3 :: st) M Q := wp_step rfl rfl rfl rfl rfl
theorem u159_2 : wp scr n mb_159 2 L (.int y :: .int x :: st) M Q ↔ (if x = y then wp scr n mb_159 5 L st M Q else wp scr n mb_159 17 L st M Q) := (wp_step rfl rfl rfl rfl rfl).trans wp_iten
theorem u159_5 : wp scr n mb_159 5 [l0, l1, some (.int x), l3, l4] st M Q ↔ wp scr n mb_159 6 [l0, l1, some (.int x), l3, l4] (.int x :: st) M Q := wp_step rfl rfl rfl rfl rfl
theorem u159_6 : wp scr n mb_159 6 L st M Q ↔ wp scr n mb_159 8 L (.int 10 :: st) M Q := wp_step rfl rfl rfl rfl rfl
theorem u159_8 : wp scr n mb_159 8 L (.int y :: .int x :: st) M Q ↔ (if x < y then wp scr n mb_159 17 L st M Q else wp scr n mb_159 11 L st M Q) := (wp_step rfl rfl rfl rfl rfl).trans wp_ite
theorem u159_11 : wp scr n mb_159 11 L st M Q ↔ wp scr n mb_159 12 L (.int 3 :: st) M Q := wp_step rfl rfl rfl rfl rfl
theorem u159_12 : wp scr n mb_159 12 [l0, l1, l2, some (.int x), l4] st M Q ↔ wp scr n mb_159 13 [l0, l1, l2, some (.int x), l4] (.int x :: st) M Q := wp_step rfl rfl rfl rfl rfl
theorem u159_13 : wp scr n mb_159 13 L (.int y :: .int x :: st) M Q ↔ wp scr n mb_159 14 L (.int (x - y) :: st) M Q := wp_step rfl rfl rfl rfl rfl
theorem u159_14 : wp scr n mb_159 14 L st M Q ↔ wp scr n mb_159 18 L st M Q := wp_step rfl rfl rfl rfl rfl
theorem u159_17 : wp scr n mb_159 17 [l0, l1, l2, some (.int x), l4] st M Q ↔ wp scr n mb_159 18 [l0, l1, l2, some (.int x), l4] (.int x :: st) M Q := wp_step rfl rfl rfl rfl rfl
theorem u159_18 : wp scr n mb_159 18 [l0, l1, l2, l3, l4] (.int x :: st) M Q ↔ wp scr n mb_159 20 (mm_sto1 [l0, l1, l2, l3, l4] 4 (.int x)) st M Q := wp_step rfl rfl rfl rfl rfl
theorem u159_20 : wp scr n mb_159 20 [some (.int x), l1, l2, l3, l4] st M Q ↔ wp scr n mb_159 21 [some (.int x), l1, l2, l3, l4] (.int x :: st) M Q := wp_step rfl rfl rfl rfl rfl
theorem u159_21 : wp scr n mb_159 21 L (.int x :: st) M Q ↔ wp scr n mb_159 (mw_sw x [(1, 56), (2, 70), (3, 56), (4, 83), (5, 86)] 101) L st M Q := wp_tabS (d := 80) (lo := 1) (hi := 5) (os := #[35, 49, 35, 62, 65]) rfl (by decide +kernel) (by decide +kernel) (by decide +kernel)
theorem u159_56 : wp scr n mb_159 56 [l0, l1, l2, l3, some (.int x)] st M Q ↔ wp scr n mb_159 58 [l0, l1, l2, l3, some (.int x)] (.int x :: st) M Q := wp_step rfl rfl rfl rfl rfl
theorem u159_58 : wp scr n mb_159 58 L st M Q ↔ wp scr n mb_159 59 L (.int 2 :: st) M Q := wp_step rfl rfl rfl rfl rfl
theorem u159_59 : wp scr n mb_159 59 L (.int y :: .int x :: st) M Q ↔ (if x = y then wp scr n mb_159 62 L st M Q else wp scr n mb_159 68 L st M Q) := (wp_step rfl rfl rfl rfl rfl).trans wp_iten
theorem u159_62 : wp scr n mb_159 62 L st M Q ↔ wp scr n mb_159 63 L (.int 3 :: st) M Q := wp_step rfl rfl rfl rfl rfl
theorem u159_63 : wp scr n mb_159 63 [l0, some (.int x), l2, l3, l4] st M Q ↔ wp scr n mb_159 64 [l0, some (.int x), l2, l3, l4] (.int x :: st) M Q := wp_step rfl rfl rfl rfl rfl
theorem u159_64 : wp scr n mb_159 64 L (.int y :: .int x :: st) M Q ↔ wp scr n mb_159 65 L (.int (x + y) :: st) M Q := wp_step rfl rfl rfl rfl rfl
theorem u159_65 : wp scr n mb_159 65 L st M Q ↔ wp scr n mb_159 69 L st M Q := wp_step rfl rfl rfl rfl rfl
theorem u159_68 : wp scr n mb_159 68 L st M Q ↔ wp scr n mb_159 69 L (.int 3 :: st) M Q := wp_step rfl rfl rfl rfl rfl
theorem u159_69 : wp scr n mb_159 69 L [.int x] M Q ↔ Q (some (.int x)) M := wp_ret rfl rfl
theorem u159_70 : wp scr n mb_159 70 [l0, l1, l2, some (.int x), l4] st M Q ↔ wp scr n mb_159 71 [l0, l1, l2, some (.int x), l4] (.int x :: st) M Q := wp_step rfl rfl rfl rfl rfl
theorem u159_71 : wp scr n mb_159 71 L st M Q ↔ wp scr n mb_159 72 L (.int 1 :: st) M Q := wp_step rfl rfl rfl rfl rfl
theorem u159_72 : wp scr n mb_159 72 L (.int y :: .int x :: st) M Q ↔ (if x = y then wp scr n mb_159 75 L st M Q else wp scr n mb_159 81 L st M Q) := (wp_step rfl rfl rfl rfl rfl).trans wp_iten
theorem u159_75 : wp scr n mb_159 75 L st M Q ↔ wp scr n mb_159 76 L (.int 3 :: st) M Q := wp_step rfl rfl rfl rfl rfl
theorem u159_76 : wp scr n mb_159 76 [l0, some (.int x), l2, l3, l4] st M Q ↔ wp scr n mb_159 77 [l0, some (.int x), l2, l3, l4] (.int x :: st) M Q := wp_step rfl rfl rfl rfl rfl
theorem u159_77 : wp scr n mb_159 77 L (.int y :: .int x :: st) M Q ↔ wp scr n mb_159 78 L (.int (x + y) :: st) M Q := wp_step rfl rfl rfl rfl rfl
theorem u159_78 : wp scr n mb_159 78 L st M Q ↔ wp scr n mb_159 82 L st M Q := wp_step rfl rfl rfl rfl rfl
theorem u159_81 : wp scr n mb_159 81 L st M Q ↔ wp scr n mb_159 82 L (.int 3 :: st) M Q := wp_step rfl rfl rfl rfl rfl
theorem u159_82 : wp scr n mb_159 82 L [.int x] M Q ↔ Q (some (.int x)) M := wp_ret rfl rfl
theorem u159_83 : wp scr n mb_159 83 L st M Q ↔ wp scr n mb_159 85 L (.int 7 :: st) M Q := wp_step rfl rfl rfl rfl rfl
theorem u159_85 : wp scr n mb_159 85 L [.int x] M Q ↔ Q (some (.int x)) M := wp_ret rfl rfl
theorem u159_86 : wp scr n mb_159 86 [l0, l1, l2, some (.int x), l4] st M Q ↔ wp scr n mb_159 87 [l0, l1, l2, some (.int x), l4] (.int x :: st) M Q := wp_step rfl rfl rfl rfl rfl
theorem u159_87 : wp scr n mb_159 87 L st M Q ↔ wp scr n mb_159 88 L (.int 1 :: st) M Q := wp_step rfl rfl rfl rfl rfl
theorem u159_88 : wp scr n mb_159 88 L (.int y :: .int x :: st) M Q ↔ (if x = y then wp scr n mb_159 91 L st M Q else wp scr n mb_159 97 L st M Q) := (wp_step rfl rfl rfl rfl rfl).trans wp_iten
theorem u159_91 : wp scr n mb_159 91 L st M Q ↔ wp scr n mb_159 92 L (.int 3 :: st) M Q := wp_step rfl rfl rfl rfl rfl
theorem u159_92 : wp scr n mb_159 92 [l0, some (.int x), l2, l3, l4] st M Q ↔ wp scr n mb_159 93 [l0, some (.int x), l2, l3, l4] (.int x :: st) M Q := wp_step rfl rfl rfl rfl rfl
theorem u159_93 : wp scr n mb_159 93 L (.int y :: .int x :: st) M Q ↔ wp scr n mb_159 94 L (.int (x + y) :: st) M Q := wp_step rfl rfl rfl rfl rfl
theorem u159_94 : wp scr n mb_159 94 L st M Q ↔ wp scr n mb_159 98 L st M Q := wp_step rfl rfl rfl rfl rfl
theorem u159_97 : wp scr n mb_159 97 L st M Q ↔ wp scr n mb_159 98 L (.int 3 :: st) M Q := wp_step rfl rfl rfl rfl rfl
theorem u159_98 : wp scr n mb_159 98 L st M Q ↔ wp scr n mb_159 99 L (.int 2 :: st) M Q := wp_step rfl rfl rfl rfl rfl
theorem u159_99 : wp scr n mb_159 99 L (.int y :: .int x :: st) M Q ↔ (if y = 0 then False else wp scr n mb_159 100 L (.int (x / y) :: st) M Q) := wp_idiv rfl
theorem u159_100 : wp scr n mb_159 100 L [.int x] M Q ↔ Q (some (.int x)) M := wp_ret rfl rfl
theorem u159_101 : wp scr n mb_159 101 L st M Q ↔ wp scr n mb_159 102 L (.int 3 :: st) M Q := wp_step rfl rfl rfl rfl rfl
theorem u159_102 : wp scr n mb_159 102 L [.int x] M Q ↔ Q (some (.int x)) M := wp_ret rfl rfl
theorem e159 : Wp scr (n + 1) 159 [.int x1, .int x2, .int x3, .int x4] M Q ↔ wp scr n mb_159 0 [some (.int x1), some (.int x2), some (.int x3), some (.int x4), none] [] M Q := Wp_to rfl rfl rfl
/-- SmallerInTheShopModel keepsAhead ([II)V -/
def mb_160 : mw_B := ((Option.none : Option FieldType), mp_160)
theorem u160_0 : wp scr n mb_160 0 L st M Q ↔ wp scr n mb_160 2 L (.int 74 :: st) M Q := wp_step rfl rfl rfl rfl rfl
theorem u160_2 : wp scr n mb_160 2 L st M Q ↔ wp scr n mb_160 4 L (.int 33 :: st) M Q := wp_step rfl rfl rfl rfl rfl
theorem u160_4 : wp scr n mb_160 4 [some (.ref a), l1, l2, l3] st M Q ↔ wp scr n mb_160 5 [some (.ref a), l1, l2, l3] (.ref a :: st) M Q := wp_step rfl rfl rfl rfl rfl
theorem u160_5 : wp scr n mb_160 5 L st M Q ↔ wp scr n mb_160 7 L (.int 73 :: st) M Q := wp_step rfl rfl rfl rfl rfl
theorem u160_7 : wp scr n mb_160 7 L (.int y :: o :: st) M Q ↔ mw_o (mm_ld (mc_X scr) M o y) (fun x => wp scr n mb_160 8 L (.int x :: st) M Q) := wp_iald rfl
theorem u160_8 : wp scr n mb_160 8 L (.int y :: .int x :: st) M Q ↔ wp scr n mb_160 9 L (.int (x * y) :: st) M Q := wp_step rfl rfl rfl rfl rfl
theorem u160_9 : wp scr n mb_160 9 L (.int y :: .int x :: st) M Q ↔ wp scr n mb_160 10 L (.int (x + y) :: st) M Q := wp_step rfl rfl rfl rfl rfl
theorem u160_10 : wp scr n mb_160 10 [l0, l1, l2, l3] (.int x :: st) M Q ↔ wp scr n mb_160 11 (mm_sto1 [l0, l1, l2, l3] 2 (.int x)) st M Q := wp_step rfl rfl rfl rfl rfl
theorem u160_11 : wp scr n mb_160 11 L st M Q ↔ wp scr n mb_160 12 L (.int 0 :: st) M Q := wp_step rfl rfl rfl rfl rfl
theorem u160_12 : wp scr n mb_160 12 [l0, l1, l2, l3] (.int x :: st) M Q ↔ wp scr n mb_160 13 (mm_sto1 [l0, l1, l2, l3] 3 (.int x)) st M Q := wp_step rfl rfl rfl rfl rfl
theorem u160_13 : wp scr n mb_160 13 [l0, l1, l2, some (.int x)] st M Q ↔ wp scr n mb_160 14 [l0, l1, l2, some (.int x)] (.int x :: st) M Q := wp_step rfl rfl rfl rfl rfl
theorem u160_14 : wp scr n mb_160 14 L st M Q ↔ wp scr n mb_160 16 L (.int 32 :: st) M Q := wp_step rfl rfl rfl rfl rfl
theorem u160_16 : wp scr n mb_160 16 L (.int y :: .int x :: st) M Q ↔ (if y ≤ x then wp scr n mb_160 36 L st M Q else wp scr n mb_160 19 L st M Q) := (wp_step rfl rfl rfl rfl rfl).trans wp_ite
theorem u160_19 : wp scr n mb_160 19 [some (.ref a), l1, l2, l3] st M Q ↔ wp scr n mb_160 20 [some (.ref a), l1, l2, l3] (.ref a :: st) M Q := wp_step rfl rfl rfl rfl rfl
theorem u160_20 : wp scr n mb_160 20 [l0, l1, some (.int x), l3] st M Q ↔ wp scr n mb_160 21 [l0, l1, some (.int x), l3] (.int x :: st) M Q := wp_step rfl rfl rfl rfl rfl
theorem u160_21 : wp scr n mb_160 21 [l0, l1, l2, some (.int x)] st M Q ↔ wp scr n mb_160 22 [l0, l1, l2, some (.int x)] (.int x :: st) M Q := wp_step rfl rfl rfl rfl rfl
theorem u160_22 : wp scr n mb_160 22 L (.int y :: .int x :: st) M Q ↔ wp scr n mb_160 23 L (.int (x + y) :: st) M Q := wp_step rfl rfl rfl rfl rfl
theorem u160_23 : wp scr n mb_160 23 [some (.ref a), l1, l2, l3] st M Q ↔ wp scr n mb_160 24 [some (.ref a), l1, l2, l3] (.ref a :: st) M Q := wp_step rfl rfl rfl rfl rfl
theorem u160_24 : wp scr n mb_160 24 L st M Q ↔ wp scr n mb_160 26 L (.int 40 :: st) M Q := wp_step rfl rfl rfl rfl rfl
theorem u160_26 : wp scr n mb_160 26 [l0, l1, l2, some (.int x)] st M Q ↔ wp scr n mb_160 27 [l0, l1, l2, some (.int x)] (.int x :: st) M Q := wp_step rfl rfl rfl rfl rfl
theorem u160_27 : wp scr n mb_160 27 L (.int y :: .int x :: st) M Q ↔ wp scr n mb_160 28 L (.int (x + y) :: st) M Q := wp_step rfl rfl rfl rfl rfl
theorem u160_28 : wp scr n mb_160 28 L (.int y :: o :: st) M Q ↔ mw_o (mm_ld (mc_X scr) M o y) (fun x => wp scr n mb_160 29 L (.int x :: st) M Q) := wp_iald rfl
theorem u160_29 : wp scr n mb_160 29 L (.int x :: .int y :: o :: st) M Q ↔ mw_o (mm_sti M o y x) (fun M1 => wp scr n mb_160 30 L st M1 Q) := wp_iast rfl
theorem u160_30 : wp scr n mb_160 30 [l0, l1, l2, some (.int x)] st M Q ↔ wp scr n mb_160 33 (mm_sto1 [l0, l1, l2, some (.int x)] 3 (.int (x + 1))) st M Q := wp_step rfl rfl rfl rfl rfl
theorem u160_33 : wp scr n mb_160 33 L st M Q ↔ wp scr n mb_160 13 L st M Q := wp_step rfl rfl rfl rfl rfl
theorem u160_36 : wp scr n mb_160 36 [some (.ref a), l1, l2, l3] st M Q ↔ wp scr n mb_160 37 [some (.ref a), l1, l2, l3] (.ref a :: st) M Q := wp_step rfl rfl rfl rfl rfl
theorem u160_37 : wp scr n mb_160 37 [l0, l1, some (.int x), l3] st M Q ↔ wp scr n mb_160 38 [l0, l1, some (.int x), l3] (.int x :: st) M Q := wp_step rfl rfl rfl rfl rfl
theorem u160_38 : wp scr n mb_160 38 L st M Q ↔ wp scr n mb_160 40 L (.int 32 :: st) M Q := wp_step rfl rfl rfl rfl rfl
theorem u160_40 : wp scr n mb_160 40 L (.int y :: .int x :: st) M Q ↔ wp scr n mb_160 41 L (.int (x + y) :: st) M Q := wp_step rfl rfl rfl rfl rfl
theorem u160_41 : wp scr n mb_160 41 [l0, some (.int x), l2, l3] st M Q ↔ wp scr n mb_160 42 [l0, some (.int x), l2, l3] (.int x :: st) M Q := wp_step rfl rfl rfl rfl rfl
theorem u160_42 : wp scr n mb_160 42 L (.int x :: .int y :: o :: st) M Q ↔ mw_o (mm_sti M o y x) (fun M1 => wp scr n mb_160 43 L st M1 Q) := wp_iast rfl
theorem u160_43 : wp scr n mb_160 43 [some (.ref a), l1, l2, l3] st M Q ↔ wp scr n mb_160 44 [some (.ref a), l1, l2, l3] (.ref a :: st) M Q := wp_step rfl rfl rfl rfl rfl
theorem u160_44 : wp scr n mb_160 44 L st M Q ↔ wp scr n mb_160 46 L (.int 73 :: st) M Q := wp_step rfl rfl rfl rfl rfl
theorem u160_46 : wp scr n mb_160 46 L (.int y :: .ref a :: st) M Q ↔ wp scr n mb_160 47 L (.int y :: .ref a :: .int y :: .ref a :: st) M Q := wp_step rfl rfl rfl rfl rfl
theorem u160_47 : wp scr n mb_160 47 L (.int y :: o :: st) M Q ↔ mw_o (mm_ld (mc_X scr) M o y) (fun x => wp scr n mb_160 48 L (.int x :: st) M Q) := wp_iald rfl
theorem u160_48 : wp scr n mb_160 48 L st M Q ↔ wp scr n mb_160 49 L (.int 1 :: st) M Q := wp_step rfl rfl rfl rfl rfl
theorem u160_49 : wp scr n mb_160 49 L (.int y :: .int x :: st) M Q ↔ wp scr n mb_160 50 L (.int (x + y) :: st) M Q := wp_step rfl rfl rfl rfl rfl
theorem u160_50 : wp scr n mb_160 50 L (.int x :: .int y :: o :: st) M Q ↔ mw_o (mm_sti M o y x) (fun M1 => wp scr n mb_160 51 L st M1 Q) := wp_iast rfl
theorem u160_51 : wp scr n mb_160 51 L [] M Q ↔ Q none M := wp_ret rfl rfl
theorem e160 : Wp scr (n + 1) 160 [.ref b1, .int x2] M Q ↔ wp scr n mb_160 0 [some (.ref b1), some (.int x2), none, none] [] M Q := Wp_to rfl rfl rfl
/-- SmallerInTheShopModel wear (III)I -/
def mb_161 : mw_B := ((Option.some FieldType.int), mp_161)
theorem u161_0 : wp scr n mb_161 0 [some (.int x), l1, l2, l3] st M Q ↔ wp scr n mb_161 1 [some (.int x), l1, l2, l3] (.int x :: st) M Q := wp_step rfl rfl rfl rfl rfl
theorem u161_1 : wp scr n mb_161 1 L st M Q ↔ wp scr n mb_161 2 L (.int 3 :: st) M Q := wp_step rfl rfl rfl rfl rfl
theorem u161_2 : wp scr n mb_161 2 L (.int y :: .int x :: st) M Q ↔ (if x = y then wp scr n mb_161 5 L st M Q else wp scr n mb_161 17 L st M Q) := (wp_step rfl rfl rfl rfl rfl).trans wp_iten
theorem u161_5 : wp scr n mb_161 5 [l0, some (.int x), l2, l3] st M Q ↔ wp scr n mb_161 6 [l0, some (.int x), l2, l3] (.int x :: st) M Q := wp_step rfl rfl rfl rfl rfl
theorem u161_6 : wp scr n mb_161 6 L st M Q ↔ wp scr n mb_161 8 L (.int 10 :: st) M Q := wp_step rfl rfl rfl rfl rfl
theorem u161_8 : wp scr n mb_161 8 L (.int y :: .int x :: st) M Q ↔ (if x < y then wp scr n mb_161 17 L st M Q else wp scr n mb_161 11 L st M Q) := (wp_step rfl rfl rfl rfl rfl).trans wp_ite
theorem u161_11 : wp scr n mb_161 11 L st M Q ↔ wp scr n mb_161 12 L (.int 3 :: st) M Q := wp_step rfl rfl rfl rfl rfl
theorem u161_12 : wp scr n mb_161 12 [l0, l1, some (.int x), l3] st M Q ↔ wp scr n mb_161 13 [l0, l1, some (.int x), l3] (.int x :: st) M Q := wp_step rfl rfl rfl rfl rfl
theorem u161_13 : wp scr n mb_161 13 L (.int y :: .int x :: st) M Q ↔ wp scr n mb_161 14 L (.int (x - y) :: st) M Q := wp_step rfl rfl rfl rfl rfl
theorem u161_14 : wp scr n mb_161 14 L st M Q ↔ wp scr n mb_161 18 L st M Q := wp_step rfl rfl rfl rfl rfl
theorem u161_17 : wp scr n mb_161 17 [l0, l1, some (.int x), l3] st M Q ↔ wp scr n mb_161 18 [l0, l1, some (.int x), l3] (.int x :: st) M Q := wp_step rfl rfl rfl rfl rfl
theorem u161_18 : wp scr n mb_161 18 [l0, l1, l2, l3] (.int x :: st) M Q ↔ wp scr n mb_161 19 (mm_sto1 [l0, l1, l2, l3] 3 (.int x)) st M Q := wp_step rfl rfl rfl rfl rfl
theorem u161_19 : wp scr n mb_161 19 [some (.int x), l1, l2, l3] st M Q ↔ wp scr n mb_161 20 [some (.int x), l1, l2, l3] (.int x :: st) M Q := wp_step rfl rfl rfl rfl rfl
theorem u161_20 : wp scr n mb_161 20 L (.int x :: st) M Q ↔ wp scr n mb_161 (mw_sw x [(1, 56), (2, 67), (3, 56), (4, 78), (5, 80)] 91) L st M Q := wp_tabS (d := 71) (lo := 1) (hi := 5) (os := #[36, 47, 36, 58, 60]) rfl (by decide +kernel) (by decide +kernel) (by decide +kernel)
theorem u161_56 : wp scr n mb_161 56 [l0, l1, l2, some (.int x)] st M Q ↔ wp scr n mb_161 57 [l0, l1, l2, some (.int x)] (.int x :: st) M Q := wp_step rfl rfl rfl rfl rfl
theorem u161_57 : wp scr n mb_161 57 L st M Q ↔ wp scr n mb_161 58 L (.int 2 :: st) M Q := wp_step rfl rfl rfl rfl rfl
theorem u161_58 : wp scr n mb_161 58 L (.int y :: .int x :: st) M Q ↔ (if x = y then wp scr n mb_161 61 L st M Q else wp scr n mb_161 65 L st M Q) := (wp_step rfl rfl rfl rfl rfl).trans wp_iten
theorem u161_61 : wp scr n mb_161 61 L st M Q ↔ wp scr n mb_161 62 L (.int 2 :: st) M Q := wp_step rfl rfl rfl rfl rfl
theorem u161_62 : wp scr n mb_161 62 L st M Q ↔ wp scr n mb_161 66 L st M Q := wp_step rfl rfl rfl rfl rfl
theorem u161_65 : wp scr n mb_161 65 L st M Q ↔ wp scr n mb_161 66 L (.int 1 :: st) M Q := wp_step rfl rfl rfl rfl rfl
theorem u161_66 : wp scr n mb_161 66 L [.int x] M Q ↔ Q (some (.int x)) M := wp_ret rfl rfl
theorem u161_67 : wp scr n mb_161 67 [l0, l1, some (.int x), l3] st M Q ↔ wp scr n mb_161 68 [l0, l1, some (.int x), l3] (.int x :: st) M Q := wp_step rfl rfl rfl rfl rfl
theorem u161_68 : wp scr n mb_161 68 L st M Q ↔ wp scr n mb_161 69 L (.int 1 :: st) M Q := wp_step rfl rfl rfl rfl rfl
theorem u161_69 : wp scr n mb_161 69 L (.int y :: .int x :: st) M Q ↔ (if x = y then wp scr n mb_161 72 L st M Q else wp scr n mb_161 76 L st M Q) := (wp_step rfl rfl rfl rfl rfl).trans wp_iten
theorem u161_72 : wp scr n mb_161 72 L st M Q ↔ wp scr n mb_161 73 L (.int 2 :: st) M Q := wp_step rfl rfl rfl rfl rfl
theorem u161_73 : wp scr n mb_161 73 L st M Q ↔ wp scr n mb_161 77 L st M Q := wp_step rfl rfl rfl rfl rfl
theorem u161_76 : wp scr n mb_161 76 L st M Q ↔ wp scr n mb_161 77 L (.int 1 :: st) M Q := wp_step rfl rfl rfl rfl rfl
theorem u161_77 : wp scr n mb_161 77 L [.int x] M Q ↔ Q (some (.int x)) M := wp_ret rfl rfl
theorem u161_78 : wp scr n mb_161 78 L st M Q ↔ wp scr n mb_161 79 L (.int 0 :: st) M Q := wp_step rfl rfl rfl rfl rfl
theorem u161_79 : wp scr n mb_161 79 L [.int x] M Q ↔ Q (some (.int x)) M := wp_ret rfl rfl
theorem u161_80 : wp scr n mb_161 80 [l0, l1, some (.int x), l3] st M Q ↔ wp scr n mb_161 81 [l0, l1, some (.int x), l3] (.int x :: st) M Q := wp_step rfl rfl rfl rfl rfl
theorem u161_81 : wp scr n mb_161 81 L st M Q ↔ wp scr n mb_161 82 L (.int 1 :: st) M Q := wp_step rfl rfl rfl rfl rfl
theorem u161_82 : wp scr n mb_161 82 L (.int y :: .int x :: st) M Q ↔ (if x = y then wp scr n mb_161 85 L st M Q else wp scr n mb_161 89 L st M Q) := (wp_step rfl rfl rfl rfl rfl).trans wp_iten
theorem u161_85 : wp scr n mb_161 85 L st M Q ↔ wp scr n mb_161 86 L (.int 3 :: st) M Q := wp_step rfl rfl rfl rfl rfl
theorem u161_86 : wp scr n mb_161 86 L st M Q ↔ wp scr n mb_161 90 L st M Q := wp_step rfl rfl rfl rfl rfl
theorem u161_89 : wp scr n mb_161 89 L st M Q ↔ wp scr n mb_161 90 L (.int 2 :: st) M Q := wp_step rfl rfl rfl rfl rfl
theorem u161_90 : wp scr n mb_161 90 L [.int x] M Q ↔ Q (some (.int x)) M := wp_ret rfl rfl
theorem u161_91 : wp scr n mb_161 91 L st M Q ↔ wp scr n mb_161 92 L (.int 1 :: st) M Q := wp_step rfl rfl rfl rfl rfl
theorem u161_92 : wp scr n mb_161 92 L [.int x] M Q ↔ Q (some (.int x)) M := wp_ret rfl rfl
theorem e161 : Wp scr (n + 1) 161 [.int x1, .int x2, .int x3] M Q ↔ wp scr n mb_161 0 [some (.int x1), some (.int x2), some (.int x3), none] [] M Q := Wp_to rfl rfl rfl
/-- SmallerInTheShopModel lays ([III)V -/
def mb_162 : mw_B := ((Option.none : Option FieldType), mp_162)
set_option maxRecDepth 100000 in
theorem u162_0 : wp scr n mb_162 0 [l0, l1, some (.int x), l3, l4, l5, l6, l7, l8, l9, l10, l11, l12, l13] st M Q ↔ wp scr n mb_162 1 [l0, l1, some (.int x), l3, l4, l5, l6, l7, l8, l9, l10, l11, l12, l13] (.int x :: st) M Q := wp_step rfl rfl rfl rfl rfl
set_option maxRecDepth 100000 in
theorem u162_1 : wp scr n mb_162 1 L st M Q ↔ wp scr n mb_162 2 L (.int 4 :: st) M Q := wp_step rfl rfl rfl rfl rfl
set_option maxRecDepth 100000 in
theorem u162_2 : wp scr n mb_162 2 L (.int y :: .int x :: st) M Q ↔ (if x = y then wp scr n mb_162 5 L st M Q else wp scr n mb_162 9 L st M Q) := (wp_step rfl rfl rfl rfl rfl).trans wp_iten
set_option maxRecDepth 100000 in
theorem u162_5 : wp scr n mb_162 5 L st M Q ↔ wp scr n mb_162 6 L (.int 1 :: st) M Q := wp_step rfl rfl rfl rfl rfl
set_option maxRecDepth 100000 in
theorem u162_6 : wp scr n mb_162 6 L st M Q ↔ wp scr n mb_162 10 L st M Q := wp_step rfl rfl rfl rfl rfl
set_option maxRecDepth 100000 in
theorem u162_9 : wp scr n mb_162 9 L st M Q ↔ wp scr n mb_162 10 L (.int 0 :: st) M Q := wp_step rfl rfl rfl rfl rfl
set_option maxRecDepth 100000 in
theorem u162_10 : wp scr n mb_162 10 [l0, l1, l2, l3, l4, l5, l6, l7, l8, l9, l10, l11, l12, l13] (.int x :: st) M Q ↔ wp scr n mb_162 12 (mm_sto1 [l0, l1, l2, l3, l4, l5, l6, l7, l8, l9, l10, l11, l12, l13] 4 (.int x)) st M Q := wp_step rfl rfl rfl rfl rfl
set_option maxRecDepth 100000 in
theorem u162_12 : wp scr n mb_162 12 [l0, l1, some (.int x), l3, l4, l5, l6, l7, l8, l9, l10, l11, l12, l13] st M Q ↔ wp scr n mb_162 13 [l0, l1, some (.int x), l3, l4, l5, l6, l7, l8, l9, l10, l11, l12, l13] (.int x :: st) M Q := wp_step rfl rfl rfl rfl rfl
set_option maxRecDepth 100000 in
theorem u162_13 : wp scr n mb_162 13 L st M Q ↔ wp scr n mb_162 14 L (.int 4 :: st) M Q := wp_step rfl rfl rfl rfl rfl
set_option maxRecDepth 100000 in
theorem u162_14 : wp scr n mb_162 14 L (.int y :: .int x :: st) M Q ↔ (if x = y then wp scr n mb_162 17 L st M Q else wp scr n mb_162 21 L st M Q) := (wp_step rfl rfl rfl rfl rfl).trans wp_iten
set_option maxRecDepth 100000 in
theorem u162_17 : wp scr n mb_162 17 L st M Q ↔ wp scr n mb_162 18 L (.int 1 :: st) M Q := wp_step rfl rfl rfl rfl rfl
set_option maxRecDepth 100000 in
theorem u162_18 : wp scr n mb_162 18 L st M Q ↔ wp scr n mb_162 22 L st M Q := wp_step rfl rfl rfl rfl rfl
set_option maxRecDepth 100000 in
theorem u162_21 : wp scr n mb_162 21 [l0, l1, some (.int x), l3, l4, l5, l6, l7, l8, l9, l10, l11, l12, l13] st M Q ↔ wp scr n mb_162 22 [l0, l1, some (.int x), l3, l4, l5, l6, l7, l8, l9, l10, l11, l12, l13] (.int x :: st) M Q := wp_step rfl rfl rfl rfl rfl
set_option maxRecDepth 100000 in
theorem u162_22 : wp scr n mb_162 22 [l0, l1, l2, l3, l4, l5, l6, l7, l8, l9, l10, l11, l12, l13] (.int x :: st) M Q ↔ wp scr n mb_162 24 (mm_sto1 [l0, l1, l2, l3, l4, l5, l6, l7, l8, l9, l10, l11, l12, l13] 5 (.int x)) st M Q := wp_step rfl rfl rfl rfl rfl
set_option maxRecDepth 100000 in
theorem u162_24 : wp scr n mb_162 24 [l0, l1, l2, some (.int x), l4, l5, l6, l7, l8, l9, l10, l11, l12, l13] st M Q ↔ wp scr n mb_162 25 [l0, l1, l2, some (.int x), l4, l5, l6, l7, l8, l9, l10, l11, l12, l13] (.int x :: st) M Q := wp_step rfl rfl rfl rfl rfl
set_option maxRecDepth 100000 in
theorem u162_25 : wp scr n mb_162 25 L st M Q ↔ wp scr n mb_162 26 L (.int 1 :: st) M Q := wp_step rfl rfl rfl rfl rfl
set_option maxRecDepth 100000 in
theorem u162_26 : wp scr n mb_162 26 L (.int y :: .int x :: st) M Q ↔ (if x ≤ y then wp scr n mb_162 33 L st M Q else wp scr n mb_162 29 L st M Q) := (wp_step rfl rfl rfl rfl rfl).trans wp_ite
set_option maxRecDepth 100000 in
theorem u162_29 : wp scr n mb_162 29 L st M Q ↔ wp scr n mb_162 30 L (.int 1 :: st) M Q := wp_step rfl rfl rfl rfl rfl
set_option maxRecDepth 100000 in
theorem u162_30 : wp scr n mb_162 30 L st M Q ↔ wp scr n mb_162 34 L st M Q := wp_step rfl rfl rfl rfl rfl
set_option maxRecDepth 100000 in
theorem u162_33 : wp scr n mb_162 33 L st M Q ↔ wp scr n mb_162 34 L (.int 0 :: st) M Q := wp_step rfl rfl rfl rfl rfl
set_option maxRecDepth 100000 in
theorem u162_34 : wp scr n mb_162 34 [l0, l1, l2, l3, l4, l5, l6, l7, l8, l9, l10, l11, l12, l13] (.int x :: st) M Q ↔ wp scr n mb_162 36 (mm_sto1 [l0, l1, l2, l3, l4, l5, l6, l7, l8, l9, l10, l11, l12, l13] 6 (.int x)) st M Q := wp_step rfl rfl rfl rfl rfl
set_option maxRecDepth 100000 in
theorem u162_36 : wp scr n mb_162 36 [l0, l1, l2, some (.int x), l4, l5, l6, l7, l8, l9, l10, l11, l12, l13] st M Q ↔ wp scr n mb_162 37 [l0, l1, l2, some (.int x), l4, l5, l6, l7, l8, l9, l10, l11, l12, l13] (.int x :: st) M Q := wp_step rfl rfl rfl rfl rfl
set_option maxRecDepth 100000 in
theorem u162_37 : wp scr n mb_162 37 L st M Q ↔ wp scr n mb_162 38 L (.int 2 :: st) M Q := wp_step rfl rfl rfl rfl rfl
set_option maxRecDepth 100000 in
theorem u162_38 : wp scr n mb_162 38 L (.int y :: .int x :: st) M Q ↔ (if y = 0 then False else wp scr n mb_162 39 L (.int (x - x / y * y) :: st) M Q) := wp_irem rfl
set_option maxRecDepth 100000 in
theorem u162_39 : wp scr n mb_162 39 L (.int x :: st) M Q ↔ (if x = 0 then wp scr n mb_162 42 L st M Q else wp scr n mb_162 46 L st M Q) := (wp_step rfl rfl rfl rfl rfl).trans wp_iten
set_option maxRecDepth 100000 in
theorem u162_42 : wp scr n mb_162 42 L st M Q ↔ wp scr n mb_162 43 L (.int 1 :: st) M Q := wp_step rfl rfl rfl rfl rfl
set_option maxRecDepth 100000 in
theorem u162_43 : wp scr n mb_162 43 L st M Q ↔ wp scr n mb_162 47 L st M Q := wp_step rfl rfl rfl rfl rfl
set_option maxRecDepth 100000 in
theorem u162_46 : wp scr n mb_162 46 L st M Q ↔ wp scr n mb_162 47 L (.int 0 :: st) M Q := wp_step rfl rfl rfl rfl rfl
set_option maxRecDepth 100000 in
theorem u162_47 : wp scr n mb_162 47 [l0, l1, l2, l3, l4, l5, l6, l7, l8, l9, l10, l11, l12, l13] (.int x :: st) M Q ↔ wp scr n mb_162 49 (mm_sto1 [l0, l1, l2, l3, l4, l5, l6, l7, l8, l9, l10, l11, l12, l13] 7 (.int x)) st M Q := wp_step rfl rfl rfl rfl rfl
set_option maxRecDepth 100000 in
theorem u162_49 : wp scr n mb_162 49 L st M Q ↔ wp scr n mb_162 50 L (.int 0 :: st) M Q := wp_step rfl rfl rfl rfl rfl
set_option maxRecDepth 100000 in
theorem u162_50 : wp scr n mb_162 50 [l0, l1, l2, l3, l4, l5, l6, l7, l8, l9, l10, l11, l12, l13] (.int x :: st) M Q ↔ wp scr n mb_162 52 (mm_sto1 [l0, l1, l2, l3, l4, l5, l6, l7, l8, l9, l10, l11, l12, l13] 8 (.int x)) st M Q := wp_step rfl rfl rfl rfl rfl
set_option maxRecDepth 100000 in
theorem u162_52 : wp scr n mb_162 52 [l0, l1, l2, l3, l4, l5, l6, l7, some (.int x), l9, l10, l11, l12, l13] st M Q ↔ wp scr n mb_162 54 [l0, l1, l2, l3, l4, l5, l6, l7, some (.int x), l9, l10, l11, l12, l13] (.int x :: st) M Q := wp_step rfl rfl rfl rfl rfl
set_option maxRecDepth 100000 in
theorem u162_54 : wp scr n mb_162 54 L st M Q ↔ wp scr n mb_162 56 L (.int 32 :: st) M Q := wp_step rfl rfl rfl rfl rfl
set_option maxRecDepth 100000 in
theorem u162_56 : wp scr n mb_162 56 L (.int y :: .int x :: st) M Q ↔ (if y ≤ x then wp scr n mb_162 79 L st M Q else wp scr n mb_162 59 L st M Q) := (wp_step rfl rfl rfl rfl rfl).trans wp_ite
set_option maxRecDepth 100000 in
theorem u162_59 : wp scr n mb_162 59 [some (.ref a), l1, l2, l3, l4, l5, l6, l7, l8, l9, l10, l11, l12, l13] st M Q ↔ wp scr n mb_162 60 [some (.ref a), l1, l2, l3, l4, l5, l6, l7, l8, l9, l10, l11, l12, l13] (.ref a :: st) M Q := wp_step rfl rfl rfl rfl rfl
set_option maxRecDepth 100000 in
theorem u162_60 : wp scr n mb_162 60 L (o :: st) M Q ↔ mw_o (mm_fld (mc_X scr) M o 6 9) (fun v => wp scr n mb_162 63 L (v :: st) M Q) := wp_getf rfl
set_option maxRecDepth 100000 in
theorem u162_63 : wp scr n mb_162 63 [l0, l1, l2, l3, l4, l5, l6, l7, some (.int x), l9, l10, l11, l12, l13] st M Q ↔ wp scr n mb_162 65 [l0, l1, l2, l3, l4, l5, l6, l7, some (.int x), l9, l10, l11, l12, l13] (.int x :: st) M Q := wp_step rfl rfl rfl rfl rfl
set_option maxRecDepth 100000 in
theorem u162_65 : wp scr n mb_162 65 [l0, some (.ref a), l2, l3, l4, l5, l6, l7, l8, l9, l10, l11, l12, l13] st M Q ↔ wp scr n mb_162 66 [l0, some (.ref a), l2, l3, l4, l5, l6, l7, l8, l9, l10, l11, l12, l13] (.ref a :: st) M Q := wp_step rfl rfl rfl rfl rfl
set_option maxRecDepth 100000 in
theorem u162_66 : wp scr n mb_162 66 L st M Q ↔ wp scr n mb_162 68 L (.int 40 :: st) M Q := wp_step rfl rfl rfl rfl rfl
set_option maxRecDepth 100000 in
theorem u162_68 : wp scr n mb_162 68 [l0, l1, l2, l3, l4, l5, l6, l7, some (.int x), l9, l10, l11, l12, l13] st M Q ↔ wp scr n mb_162 70 [l0, l1, l2, l3, l4, l5, l6, l7, some (.int x), l9, l10, l11, l12, l13] (.int x :: st) M Q := wp_step rfl rfl rfl rfl rfl
set_option maxRecDepth 100000 in
theorem u162_70 : wp scr n mb_162 70 L (.int y :: .int x :: st) M Q ↔ wp scr n mb_162 71 L (.int (x + y) :: st) M Q := wp_step rfl rfl rfl rfl rfl
set_option maxRecDepth 100000 in
theorem u162_71 : wp scr n mb_162 71 L (.int y :: o :: st) M Q ↔ mw_o (mm_ld (mc_X scr) M o y) (fun x => wp scr n mb_162 72 L (.int x :: st) M Q) := wp_iald rfl
set_option maxRecDepth 100000 in
theorem u162_72 : wp scr n mb_162 72 L (.int x :: .int y :: o :: st) M Q ↔ mw_o (mm_sti M o y x) (fun M1 => wp scr n mb_162 73 L st M1 Q) := wp_iast rfl
set_option maxRecDepth 100000 in
theorem u162_73 : wp scr n mb_162 73 [l0, l1, l2, l3, l4, l5, l6, l7, some (.int x), l9, l10, l11, l12, l13] st M Q ↔ wp scr n mb_162 76 (mm_sto1 [l0, l1, l2, l3, l4, l5, l6, l7, some (.int x), l9, l10, l11, l12, l13] 8 (.int (x + 1))) st M Q := wp_step rfl rfl rfl rfl rfl
set_option maxRecDepth 100000 in
theorem u162_76 : wp scr n mb_162 76 L st M Q ↔ wp scr n mb_162 52 L st M Q := wp_step rfl rfl rfl rfl rfl
set_option maxRecDepth 100000 in
theorem u162_79 : wp scr n mb_162 79 L st M Q ↔ wp scr n mb_162 80 L (.int 0 :: st) M Q := wp_step rfl rfl rfl rfl rfl
set_option maxRecDepth 100000 in
theorem u162_80 : wp scr n mb_162 80 [l0, l1, l2, l3, l4, l5, l6, l7, l8, l9, l10, l11, l12, l13] (.int x :: st) M Q ↔ wp scr n mb_162 82 (mm_sto1 [l0, l1, l2, l3, l4, l5, l6, l7, l8, l9, l10, l11, l12, l13] 8 (.int x)) st M Q := wp_step rfl rfl rfl rfl rfl
set_option maxRecDepth 100000 in
theorem u162_82 : wp scr n mb_162 82 [l0, l1, l2, l3, l4, l5, l6, l7, some (.int x), l9, l10, l11, l12, l13] st M Q ↔ wp scr n mb_162 84 [l0, l1, l2, l3, l4, l5, l6, l7, some (.int x), l9, l10, l11, l12, l13] (.int x :: st) M Q := wp_step rfl rfl rfl rfl rfl
set_option maxRecDepth 100000 in
theorem u162_84 : wp scr n mb_162 84 L st M Q ↔ wp scr n mb_162 86 L (.int 8 :: st) M Q := wp_step rfl rfl rfl rfl rfl
set_option maxRecDepth 100000 in
theorem u162_86 : wp scr n mb_162 86 L (.int y :: .int x :: st) M Q ↔ (if y ≤ x then wp scr n mb_162 177 L st M Q else wp scr n mb_162 89 L st M Q) := (wp_step rfl rfl rfl rfl rfl).trans wp_ite
set_option maxRecDepth 100000 in
theorem u162_89 : wp scr n mb_162 89 [some (.ref a), l1, l2, l3, l4, l5, l6, l7, l8, l9, l10, l11, l12, l13] st M Q ↔ wp scr n mb_162 90 [some (.ref a), l1, l2, l3, l4, l5, l6, l7, l8, l9, l10, l11, l12, l13] (.ref a :: st) M Q := wp_step rfl rfl rfl rfl rfl
set_option maxRecDepth 100000 in
theorem u162_90 : wp scr n mb_162 90 L (o :: st) M Q ↔ mw_o (mm_fld (mc_X scr) M o 6 9) (fun v => wp scr n mb_162 93 L (v :: st) M Q) := wp_getf rfl
set_option maxRecDepth 100000 in
theorem u162_93 : wp scr n mb_162 93 L st M Q ↔ wp scr n mb_162 94 L (.int 4 :: st) M Q := wp_step rfl rfl rfl rfl rfl
set_option maxRecDepth 100000 in
theorem u162_94 : wp scr n mb_162 94 [l0, l1, l2, l3, l4, l5, l6, l7, some (.int x), l9, l10, l11, l12, l13] st M Q ↔ wp scr n mb_162 96 [l0, l1, l2, l3, l4, l5, l6, l7, some (.int x), l9, l10, l11, l12, l13] (.int x :: st) M Q := wp_step rfl rfl rfl rfl rfl
set_option maxRecDepth 100000 in
theorem u162_96 : wp scr n mb_162 96 L (.int y :: .int x :: st) M Q ↔ wp scr n mb_162 97 L (.int (x * y) :: st) M Q := wp_step rfl rfl rfl rfl rfl
set_option maxRecDepth 100000 in
theorem u162_97 : wp scr n mb_162 97 [l0, l1, l2, l3, some (.int x), l5, l6, l7, l8, l9, l10, l11, l12, l13] st M Q ↔ wp scr n mb_162 99 [l0, l1, l2, l3, some (.int x), l5, l6, l7, l8, l9, l10, l11, l12, l13] (.int x :: st) M Q := wp_step rfl rfl rfl rfl rfl
set_option maxRecDepth 100000 in
theorem u162_99 : wp scr n mb_162 99 L (.int y :: .int x :: st) M Q ↔ wp scr n mb_162 100 L (.int (x + y) :: st) M Q := wp_step rfl rfl rfl rfl rfl
set_option maxRecDepth 100000 in
theorem u162_100 : wp scr n mb_162 100 L (.int y :: o :: st) M Q ↔ mw_o (mm_ld (mc_X scr) M o y) (fun x => wp scr n mb_162 101 L (.int x :: st) M Q) := wp_iald rfl
set_option maxRecDepth 100000 in
theorem u162_101 : wp scr n mb_162 101 [l0, l1, l2, l3, l4, some (.int x), l6, l7, l8, l9, l10, l11, l12, l13] st M Q ↔ wp scr n mb_162 103 [l0, l1, l2, l3, l4, some (.int x), l6, l7, l8, l9, l10, l11, l12, l13] (.int x :: st) M Q := wp_step rfl rfl rfl rfl rfl
set_option maxRecDepth 100000 in
theorem u162_103 : wp scr n mb_162 103 L (.int y :: .int x :: st) M Q ↔ (if x < y then wp scr n mb_162 110 L st M Q else wp scr n mb_162 106 L st M Q) := (wp_step rfl rfl rfl rfl rfl).trans wp_ite
set_option maxRecDepth 100000 in
theorem u162_106 : wp scr n mb_162 106 L st M Q ↔ wp scr n mb_162 107 L (.int 1 :: st) M Q := wp_step rfl rfl rfl rfl rfl
set_option maxRecDepth 100000 in
theorem u162_107 : wp scr n mb_162 107 L st M Q ↔ wp scr n mb_162 111 L st M Q := wp_step rfl rfl rfl rfl rfl
set_option maxRecDepth 100000 in
theorem u162_110 : wp scr n mb_162 110 L st M Q ↔ wp scr n mb_162 111 L (.int 0 :: st) M Q := wp_step rfl rfl rfl rfl rfl
set_option maxRecDepth 100000 in
theorem u162_111 : wp scr n mb_162 111 [l0, l1, l2, l3, l4, l5, some (.int x), l7, l8, l9, l10, l11, l12, l13] st M Q ↔ wp scr n mb_162 113 [l0, l1, l2, l3, l4, l5, some (.int x), l7, l8, l9, l10, l11, l12, l13] (.int x :: st) M Q := wp_step rfl rfl rfl rfl rfl
set_option maxRecDepth 100000 in
theorem u162_113 : wp scr n mb_162 113 L (.int y :: .int x :: st) M Q ↔ (if x = y then wp scr n mb_162 116 L st M Q else wp scr n mb_162 171 L st M Q) := (wp_step rfl rfl rfl rfl rfl).trans wp_iten
set_option maxRecDepth 100000 in
theorem u162_116 : wp scr n mb_162 116 [l0, some (.ref a), l2, l3, l4, l5, l6, l7, l8, l9, l10, l11, l12, l13] st M Q ↔ wp scr n mb_162 117 [l0, some (.ref a), l2, l3, l4, l5, l6, l7, l8, l9, l10, l11, l12, l13] (.ref a :: st) M Q := wp_step rfl rfl rfl rfl rfl
set_option maxRecDepth 100000 in
theorem u162_117 : wp scr n mb_162 117 L st M Q ↔ wp scr n mb_162 119 L (.int 40 :: st) M Q := wp_step rfl rfl rfl rfl rfl
set_option maxRecDepth 100000 in
theorem u162_119 : wp scr n mb_162 119 L st M Q ↔ wp scr n mb_162 120 L (.int 4 :: st) M Q := wp_step rfl rfl rfl rfl rfl
set_option maxRecDepth 100000 in
theorem u162_120 : wp scr n mb_162 120 [l0, l1, l2, l3, l4, l5, l6, l7, some (.int x), l9, l10, l11, l12, l13] st M Q ↔ wp scr n mb_162 122 [l0, l1, l2, l3, l4, l5, l6, l7, some (.int x), l9, l10, l11, l12, l13] (.int x :: st) M Q := wp_step rfl rfl rfl rfl rfl
set_option maxRecDepth 100000 in
theorem u162_122 : wp scr n mb_162 122 L (.int y :: .int x :: st) M Q ↔ wp scr n mb_162 123 L (.int (x * y) :: st) M Q := wp_step rfl rfl rfl rfl rfl
set_option maxRecDepth 100000 in
theorem u162_123 : wp scr n mb_162 123 L (.int y :: .int x :: st) M Q ↔ wp scr n mb_162 124 L (.int (x + y) :: st) M Q := wp_step rfl rfl rfl rfl rfl
set_option maxRecDepth 100000 in
theorem u162_124 : wp scr n mb_162 124 [l0, l1, l2, l3, some (.int x), l5, l6, l7, l8, l9, l10, l11, l12, l13] st M Q ↔ wp scr n mb_162 126 [l0, l1, l2, l3, some (.int x), l5, l6, l7, l8, l9, l10, l11, l12, l13] (.int x :: st) M Q := wp_step rfl rfl rfl rfl rfl
set_option maxRecDepth 100000 in
theorem u162_126 : wp scr n mb_162 126 L (.int y :: .int x :: st) M Q ↔ wp scr n mb_162 127 L (.int (x + y) :: st) M Q := wp_step rfl rfl rfl rfl rfl
set_option maxRecDepth 100000 in
theorem u162_127 : wp scr n mb_162 127 L st M Q ↔ wp scr n mb_162 128 L (.int 2 :: st) M Q := wp_step rfl rfl rfl rfl rfl
set_option maxRecDepth 100000 in
theorem u162_128 : wp scr n mb_162 128 [l0, l1, l2, l3, l4, some (.int x), l6, l7, l8, l9, l10, l11, l12, l13] st M Q ↔ wp scr n mb_162 130 [l0, l1, l2, l3, l4, some (.int x), l6, l7, l8, l9, l10, l11, l12, l13] (.int x :: st) M Q := wp_step rfl rfl rfl rfl rfl
set_option maxRecDepth 100000 in
theorem u162_130 : wp scr n mb_162 130 L (.int y :: .int x :: st) M Q ↔ wp scr n mb_162 131 L (.int (x * y) :: st) M Q := wp_step rfl rfl rfl rfl rfl
set_option maxRecDepth 100000 in
theorem u162_131 : wp scr n mb_162 131 L st M Q ↔ wp scr n mb_162 132 L (.int 1 :: st) M Q := wp_step rfl rfl rfl rfl rfl
set_option maxRecDepth 100000 in
theorem u162_132 : wp scr n mb_162 132 L (.int y :: .int x :: st) M Q ↔ wp scr n mb_162 133 L (.int (x - y) :: st) M Q := wp_step rfl rfl rfl rfl rfl
set_option maxRecDepth 100000 in
theorem u162_133 : wp scr n mb_162 133 [some (.ref a), l1, l2, l3, l4, l5, l6, l7, l8, l9, l10, l11, l12, l13] st M Q ↔ wp scr n mb_162 134 [some (.ref a), l1, l2, l3, l4, l5, l6, l7, l8, l9, l10, l11, l12, l13] (.ref a :: st) M Q := wp_step rfl rfl rfl rfl rfl
set_option maxRecDepth 100000 in
theorem u162_134 : wp scr n mb_162 134 L (o :: st) M Q ↔ mw_o (mm_fld (mc_X scr) M o 6 9) (fun v => wp scr n mb_162 137 L (v :: st) M Q) := wp_getf rfl
set_option maxRecDepth 100000 in
theorem u162_137 : wp scr n mb_162 137 L st M Q ↔ wp scr n mb_162 138 L (.int 4 :: st) M Q := wp_step rfl rfl rfl rfl rfl
set_option maxRecDepth 100000 in
theorem u162_138 : wp scr n mb_162 138 [l0, l1, l2, l3, l4, l5, l6, l7, some (.int x), l9, l10, l11, l12, l13] st M Q ↔ wp scr n mb_162 140 [l0, l1, l2, l3, l4, l5, l6, l7, some (.int x), l9, l10, l11, l12, l13] (.int x :: st) M Q := wp_step rfl rfl rfl rfl rfl
set_option maxRecDepth 100000 in
theorem u162_140 : wp scr n mb_162 140 L (.int y :: .int x :: st) M Q ↔ wp scr n mb_162 141 L (.int (x * y) :: st) M Q := wp_step rfl rfl rfl rfl rfl
set_option maxRecDepth 100000 in
theorem u162_141 : wp scr n mb_162 141 [l0, l1, l2, l3, some (.int x), l5, l6, l7, l8, l9, l10, l11, l12, l13] st M Q ↔ wp scr n mb_162 143 [l0, l1, l2, l3, some (.int x), l5, l6, l7, l8, l9, l10, l11, l12, l13] (.int x :: st) M Q := wp_step rfl rfl rfl rfl rfl
set_option maxRecDepth 100000 in
theorem u162_143 : wp scr n mb_162 143 L (.int y :: .int x :: st) M Q ↔ wp scr n mb_162 144 L (.int (x + y) :: st) M Q := wp_step rfl rfl rfl rfl rfl
set_option maxRecDepth 100000 in
theorem u162_144 : wp scr n mb_162 144 L (.int y :: o :: st) M Q ↔ mw_o (mm_ld (mc_X scr) M o y) (fun x => wp scr n mb_162 145 L (.int x :: st) M Q) := wp_iald rfl
set_option maxRecDepth 100000 in
theorem u162_145 : wp scr n mb_162 145 L (.int y :: .int x :: st) M Q ↔ wp scr n mb_162 146 L (.int (x - y) :: st) M Q := wp_step rfl rfl rfl rfl rfl
set_option maxRecDepth 100000 in
theorem u162_146 : wp scr n mb_162 146 L (.int x :: .int y :: o :: st) M Q ↔ mw_o (mm_sti M o y x) (fun M1 => wp scr n mb_162 147 L st M1 Q) := wp_iast rfl
set_option maxRecDepth 100000 in
theorem u162_147 : wp scr n mb_162 147 [l0, some (.ref a), l2, l3, l4, l5, l6, l7, l8, l9, l10, l11, l12, l13] st M Q ↔ wp scr n mb_162 148 [l0, some (.ref a), l2, l3, l4, l5, l6, l7, l8, l9, l10, l11, l12, l13] (.ref a :: st) M Q := wp_step rfl rfl rfl rfl rfl
set_option maxRecDepth 100000 in
theorem u162_148 : wp scr n mb_162 148 L st M Q ↔ wp scr n mb_162 150 L (.int 40 :: st) M Q := wp_step rfl rfl rfl rfl rfl
set_option maxRecDepth 100000 in
theorem u162_150 : wp scr n mb_162 150 L st M Q ↔ wp scr n mb_162 151 L (.int 4 :: st) M Q := wp_step rfl rfl rfl rfl rfl
set_option maxRecDepth 100000 in
theorem u162_151 : wp scr n mb_162 151 [l0, l1, l2, l3, l4, l5, l6, l7, some (.int x), l9, l10, l11, l12, l13] st M Q ↔ wp scr n mb_162 153 [l0, l1, l2, l3, l4, l5, l6, l7, some (.int x), l9, l10, l11, l12, l13] (.int x :: st) M Q := wp_step rfl rfl rfl rfl rfl
set_option maxRecDepth 100000 in
theorem u162_153 : wp scr n mb_162 153 L (.int y :: .int x :: st) M Q ↔ wp scr n mb_162 154 L (.int (x * y) :: st) M Q := wp_step rfl rfl rfl rfl rfl
set_option maxRecDepth 100000 in
theorem u162_154 : wp scr n mb_162 154 L (.int y :: .int x :: st) M Q ↔ wp scr n mb_162 155 L (.int (x + y) :: st) M Q := wp_step rfl rfl rfl rfl rfl
set_option maxRecDepth 100000 in
theorem u162_155 : wp scr n mb_162 155 L st M Q ↔ wp scr n mb_162 156 L (.int 3 :: st) M Q := wp_step rfl rfl rfl rfl rfl
set_option maxRecDepth 100000 in
theorem u162_156 : wp scr n mb_162 156 L (.int y :: .int x :: st) M Q ↔ wp scr n mb_162 157 L (.int (x + y) :: st) M Q := wp_step rfl rfl rfl rfl rfl
set_option maxRecDepth 100000 in
theorem u162_157 : wp scr n mb_162 157 L st M Q ↔ wp scr n mb_162 158 L (.int 1 :: st) M Q := wp_step rfl rfl rfl rfl rfl
set_option maxRecDepth 100000 in
theorem u162_158 : wp scr n mb_162 158 [some (.ref a), l1, l2, l3, l4, l5, l6, l7, l8, l9, l10, l11, l12, l13] st M Q ↔ wp scr n mb_162 159 [some (.ref a), l1, l2, l3, l4, l5, l6, l7, l8, l9, l10, l11, l12, l13] (.ref a :: st) M Q := wp_step rfl rfl rfl rfl rfl
set_option maxRecDepth 100000 in
theorem u162_159 : wp scr n mb_162 159 L (o :: st) M Q ↔ mw_o (mm_fld (mc_X scr) M o 6 9) (fun v => wp scr n mb_162 162 L (v :: st) M Q) := wp_getf rfl
set_option maxRecDepth 100000 in
theorem u162_162 : wp scr n mb_162 162 L st M Q ↔ wp scr n mb_162 163 L (.int 4 :: st) M Q := wp_step rfl rfl rfl rfl rfl
set_option maxRecDepth 100000 in
theorem u162_163 : wp scr n mb_162 163 [l0, l1, l2, l3, l4, l5, l6, l7, some (.int x), l9, l10, l11, l12, l13] st M Q ↔ wp scr n mb_162 165 [l0, l1, l2, l3, l4, l5, l6, l7, some (.int x), l9, l10, l11, l12, l13] (.int x :: st) M Q := wp_step rfl rfl rfl rfl rfl
set_option maxRecDepth 100000 in
theorem u162_165 : wp scr n mb_162 165 L (.int y :: .int x :: st) M Q ↔ wp scr n mb_162 166 L (.int (x * y) :: st) M Q := wp_step rfl rfl rfl rfl rfl
set_option maxRecDepth 100000 in
theorem u162_166 : wp scr n mb_162 166 L st M Q ↔ wp scr n mb_162 167 L (.int 3 :: st) M Q := wp_step rfl rfl rfl rfl rfl
set_option maxRecDepth 100000 in
theorem u162_167 : wp scr n mb_162 167 L (.int y :: .int x :: st) M Q ↔ wp scr n mb_162 168 L (.int (x + y) :: st) M Q := wp_step rfl rfl rfl rfl rfl
set_option maxRecDepth 100000 in
theorem u162_168 : wp scr n mb_162 168 L (.int y :: o :: st) M Q ↔ mw_o (mm_ld (mc_X scr) M o y) (fun x => wp scr n mb_162 169 L (.int x :: st) M Q) := wp_iald rfl
set_option maxRecDepth 100000 in
theorem u162_169 : wp scr n mb_162 169 L (.int y :: .int x :: st) M Q ↔ wp scr n mb_162 170 L (.int (x - y) :: st) M Q := wp_step rfl rfl rfl rfl rfl
set_option maxRecDepth 100000 in
theorem u162_170 : wp scr n mb_162 170 L (.int x :: .int y :: o :: st) M Q ↔ mw_o (mm_sti M o y x) (fun M1 => wp scr n mb_162 171 L st M1 Q) := wp_iast rfl
set_option maxRecDepth 100000 in
theorem u162_171 : wp scr n mb_162 171 [l0, l1, l2, l3, l4, l5, l6, l7, some (.int x), l9, l10, l11, l12, l13] st M Q ↔ wp scr n mb_162 174 (mm_sto1 [l0, l1, l2, l3, l4, l5, l6, l7, some (.int x), l9, l10, l11, l12, l13] 8 (.int (x + 1))) st M Q := wp_step rfl rfl rfl rfl rfl
set_option maxRecDepth 100000 in
theorem u162_174 : wp scr n mb_162 174 L st M Q ↔ wp scr n mb_162 82 L st M Q := wp_step rfl rfl rfl rfl rfl
set_option maxRecDepth 100000 in
theorem u162_177 : wp scr n mb_162 177 L st M Q ↔ wp scr n mb_162 178 L (.int 0 :: st) M Q := wp_step rfl rfl rfl rfl rfl
set_option maxRecDepth 100000 in
theorem u162_178 : wp scr n mb_162 178 [l0, l1, l2, l3, l4, l5, l6, l7, l8, l9, l10, l11, l12, l13] (.int x :: st) M Q ↔ wp scr n mb_162 180 (mm_sto1 [l0, l1, l2, l3, l4, l5, l6, l7, l8, l9, l10, l11, l12, l13] 8 (.int x)) st M Q := wp_step rfl rfl rfl rfl rfl
set_option maxRecDepth 100000 in
theorem u162_180 : wp scr n mb_162 180 [l0, l1, l2, l3, l4, l5, l6, l7, some (.int x), l9, l10, l11, l12, l13] st M Q ↔ wp scr n mb_162 182 [l0, l1, l2, l3, l4, l5, l6, l7, some (.int x), l9, l10, l11, l12, l13] (.int x :: st) M Q := wp_step rfl rfl rfl rfl rfl
set_option maxRecDepth 100000 in
theorem u162_182 : wp scr n mb_162 182 L st M Q ↔ wp scr n mb_162 184 L (.int 8 :: st) M Q := wp_step rfl rfl rfl rfl rfl
set_option maxRecDepth 100000 in
theorem u162_184 : wp scr n mb_162 184 L (.int y :: .int x :: st) M Q ↔ (if y ≤ x then wp scr n mb_162 390 L st M Q else wp scr n mb_162 187 L st M Q) := (wp_step rfl rfl rfl rfl rfl).trans wp_ite
set_option maxRecDepth 100000 in
theorem u162_187 : wp scr n mb_162 187 [some (.ref a), l1, l2, l3, l4, l5, l6, l7, l8, l9, l10, l11, l12, l13] st M Q ↔ wp scr n mb_162 188 [some (.ref a), l1, l2, l3, l4, l5, l6, l7, l8, l9, l10, l11, l12, l13] (.ref a :: st) M Q := wp_step rfl rfl rfl rfl rfl
set_option maxRecDepth 100000 in
theorem u162_188 : wp scr n mb_162 188 L (o :: st) M Q ↔ mw_o (mm_fld (mc_X scr) M o 6 9) (fun v => wp scr n mb_162 191 L (v :: st) M Q) := wp_getf rfl
set_option maxRecDepth 100000 in
theorem u162_191 : wp scr n mb_162 191 L st M Q ↔ wp scr n mb_162 192 L (.int 4 :: st) M Q := wp_step rfl rfl rfl rfl rfl
set_option maxRecDepth 100000 in
theorem u162_192 : wp scr n mb_162 192 [l0, l1, l2, l3, l4, l5, l6, l7, some (.int x), l9, l10, l11, l12, l13] st M Q ↔ wp scr n mb_162 194 [l0, l1, l2, l3, l4, l5, l6, l7, some (.int x), l9, l10, l11, l12, l13] (.int x :: st) M Q := wp_step rfl rfl rfl rfl rfl
set_option maxRecDepth 100000 in
theorem u162_194 : wp scr n mb_162 194 L (.int y :: .int x :: st) M Q ↔ wp scr n mb_162 195 L (.int (x * y) :: st) M Q := wp_step rfl rfl rfl rfl rfl
set_option maxRecDepth 100000 in
theorem u162_195 : wp scr n mb_162 195 [l0, l1, l2, l3, some (.int x), l5, l6, l7, l8, l9, l10, l11, l12, l13] st M Q ↔ wp scr n mb_162 197 [l0, l1, l2, l3, some (.int x), l5, l6, l7, l8, l9, l10, l11, l12, l13] (.int x :: st) M Q := wp_step rfl rfl rfl rfl rfl
set_option maxRecDepth 100000 in
theorem u162_197 : wp scr n mb_162 197 L (.int y :: .int x :: st) M Q ↔ wp scr n mb_162 198 L (.int (x + y) :: st) M Q := wp_step rfl rfl rfl rfl rfl
set_option maxRecDepth 100000 in
theorem u162_198 : wp scr n mb_162 198 L (.int y :: o :: st) M Q ↔ mw_o (mm_ld (mc_X scr) M o y) (fun x => wp scr n mb_162 199 L (.int x :: st) M Q) := wp_iald rfl
set_option maxRecDepth 100000 in
theorem u162_199 : wp scr n mb_162 199 [l0, l1, l2, l3, l4, some (.int x), l6, l7, l8, l9, l10, l11, l12, l13] st M Q ↔ wp scr n mb_162 201 [l0, l1, l2, l3, l4, some (.int x), l6, l7, l8, l9, l10, l11, l12, l13] (.int x :: st) M Q := wp_step rfl rfl rfl rfl rfl
set_option maxRecDepth 100000 in
theorem u162_201 : wp scr n mb_162 201 L (.int y :: .int x :: st) M Q ↔ (if x < y then wp scr n mb_162 208 L st M Q else wp scr n mb_162 204 L st M Q) := (wp_step rfl rfl rfl rfl rfl).trans wp_ite
set_option maxRecDepth 100000 in
theorem u162_204 : wp scr n mb_162 204 L st M Q ↔ wp scr n mb_162 205 L (.int 1 :: st) M Q := wp_step rfl rfl rfl rfl rfl
set_option maxRecDepth 100000 in
theorem u162_205 : wp scr n mb_162 205 L st M Q ↔ wp scr n mb_162 209 L st M Q := wp_step rfl rfl rfl rfl rfl
set_option maxRecDepth 100000 in
theorem u162_208 : wp scr n mb_162 208 L st M Q ↔ wp scr n mb_162 209 L (.int 0 :: st) M Q := wp_step rfl rfl rfl rfl rfl
set_option maxRecDepth 100000 in
theorem u162_209 : wp scr n mb_162 209 [l0, l1, l2, l3, l4, l5, some (.int x), l7, l8, l9, l10, l11, l12, l13] st M Q ↔ wp scr n mb_162 211 [l0, l1, l2, l3, l4, l5, some (.int x), l7, l8, l9, l10, l11, l12, l13] (.int x :: st) M Q := wp_step rfl rfl rfl rfl rfl
set_option maxRecDepth 100000 in
theorem u162_211 : wp scr n mb_162 211 L (.int y :: .int x :: st) M Q ↔ (if x = y then wp scr n mb_162 214 L st M Q else wp scr n mb_162 218 L st M Q) := (wp_step rfl rfl rfl rfl rfl).trans wp_iten
set_option maxRecDepth 100000 in
theorem u162_214 : wp scr n mb_162 214 L st M Q ↔ wp scr n mb_162 215 L (.int 1 :: st) M Q := wp_step rfl rfl rfl rfl rfl
set_option maxRecDepth 100000 in
theorem u162_215 : wp scr n mb_162 215 L st M Q ↔ wp scr n mb_162 219 L st M Q := wp_step rfl rfl rfl rfl rfl
set_option maxRecDepth 100000 in
theorem u162_218 : wp scr n mb_162 218 L st M Q ↔ wp scr n mb_162 219 L (.int 0 :: st) M Q := wp_step rfl rfl rfl rfl rfl
set_option maxRecDepth 100000 in
theorem u162_219 : wp scr n mb_162 219 [l0, l1, l2, l3, l4, l5, l6, l7, l8, l9, l10, l11, l12, l13] (.int x :: st) M Q ↔ wp scr n mb_162 221 (mm_sto1 [l0, l1, l2, l3, l4, l5, l6, l7, l8, l9, l10, l11, l12, l13] 9 (.int x)) st M Q := wp_step rfl rfl rfl rfl rfl
set_option maxRecDepth 100000 in
theorem u162_221 : wp scr n mb_162 221 L st M Q ↔ wp scr n mb_162 222 L (.int 0 :: st) M Q := wp_step rfl rfl rfl rfl rfl
set_option maxRecDepth 100000 in
theorem u162_222 : wp scr n mb_162 222 [l0, l1, l2, l3, l4, l5, l6, l7, l8, l9, l10, l11, l12, l13] (.int x :: st) M Q ↔ wp scr n mb_162 224 (mm_sto1 [l0, l1, l2, l3, l4, l5, l6, l7, l8, l9, l10, l11, l12, l13] 10 (.int x)) st M Q := wp_step rfl rfl rfl rfl rfl
set_option maxRecDepth 100000 in
theorem u162_224 : wp scr n mb_162 224 L st M Q ↔ wp scr n mb_162 225 L (.int 0 :: st) M Q := wp_step rfl rfl rfl rfl rfl
set_option maxRecDepth 100000 in
theorem u162_225 : wp scr n mb_162 225 [l0, l1, l2, l3, l4, l5, l6, l7, l8, l9, l10, l11, l12, l13] (.int x :: st) M Q ↔ wp scr n mb_162 227 (mm_sto1 [l0, l1, l2, l3, l4, l5, l6, l7, l8, l9, l10, l11, l12, l13] 11 (.int x)) st M Q := wp_step rfl rfl rfl rfl rfl
set_option maxRecDepth 100000 in
theorem u162_227 : wp scr n mb_162 227 [l0, l1, l2, l3, l4, l5, l6, l7, l8, l9, l10, some (.int x), l12, l13] st M Q ↔ wp scr n mb_162 229 [l0, l1, l2, l3, l4, l5, l6, l7, l8, l9, l10, some (.int x), l12, l13] (.int x :: st) M Q := wp_step rfl rfl rfl rfl rfl
set_option maxRecDepth 100000 in
theorem u162_229 : wp scr n mb_162 229 L st M Q ↔ wp scr n mb_162 231 L (.int 8 :: st) M Q := wp_step rfl rfl rfl rfl rfl
set_option maxRecDepth 100000 in
theorem u162_231 : wp scr n mb_162 231 L (.int y :: .int x :: st) M Q ↔ (if y ≤ x then wp scr n mb_162 371 L st M Q else wp scr n mb_162 234 L st M Q) := (wp_step rfl rfl rfl rfl rfl).trans wp_ite
set_option maxRecDepth 100000 in
theorem u162_234 : wp scr n mb_162 234 [some (.ref a), l1, l2, l3, l4, l5, l6, l7, l8, l9, l10, l11, l12, l13] st M Q ↔ wp scr n mb_162 235 [some (.ref a), l1, l2, l3, l4, l5, l6, l7, l8, l9, l10, l11, l12, l13] (.ref a :: st) M Q := wp_step rfl rfl rfl rfl rfl
set_option maxRecDepth 100000 in
theorem u162_235 : wp scr n mb_162 235 L (o :: st) M Q ↔ mw_o (mm_fld (mc_X scr) M o 6 9) (fun v => wp scr n mb_162 238 L (v :: st) M Q) := wp_getf rfl
set_option maxRecDepth 100000 in
theorem u162_238 : wp scr n mb_162 238 L st M Q ↔ wp scr n mb_162 239 L (.int 4 :: st) M Q := wp_step rfl rfl rfl rfl rfl
set_option maxRecDepth 100000 in
theorem u162_239 : wp scr n mb_162 239 [l0, l1, l2, l3, l4, l5, l6, l7, l8, l9, l10, some (.int x), l12, l13] st M Q ↔ wp scr n mb_162 241 [l0, l1, l2, l3, l4, l5, l6, l7, l8, l9, l10, some (.int x), l12, l13] (.int x :: st) M Q := wp_step rfl rfl rfl rfl rfl
set_option maxRecDepth 100000 in
theorem u162_241 : wp scr n mb_162 241 L (.int y :: .int x :: st) M Q ↔ wp scr n mb_162 242 L (.int (x * y) :: st) M Q := wp_step rfl rfl rfl rfl rfl
set_option maxRecDepth 100000 in
theorem u162_242 : wp scr n mb_162 242 [l0, l1, l2, l3, some (.int x), l5, l6, l7, l8, l9, l10, l11, l12, l13] st M Q ↔ wp scr n mb_162 244 [l0, l1, l2, l3, some (.int x), l5, l6, l7, l8, l9, l10, l11, l12, l13] (.int x :: st) M Q := wp_step rfl rfl rfl rfl rfl
set_option maxRecDepth 100000 in
theorem u162_244 : wp scr n mb_162 244 L (.int y :: .int x :: st) M Q ↔ wp scr n mb_162 245 L (.int (x + y) :: st) M Q := wp_step rfl rfl rfl rfl rfl
set_option maxRecDepth 100000 in
theorem u162_245 : wp scr n mb_162 245 L (.int y :: o :: st) M Q ↔ mw_o (mm_ld (mc_X scr) M o y) (fun x => wp scr n mb_162 246 L (.int x :: st) M Q) := wp_iald rfl
set_option maxRecDepth 100000 in
theorem u162_246 : wp scr n mb_162 246 [l0, l1, l2, l3, l4, some (.int x), l6, l7, l8, l9, l10, l11, l12, l13] st M Q ↔ wp scr n mb_162 248 [l0, l1, l2, l3, l4, some (.int x), l6, l7, l8, l9, l10, l11, l12, l13] (.int x :: st) M Q := wp_step rfl rfl rfl rfl rfl
set_option maxRecDepth 100000 in
theorem u162_248 : wp scr n mb_162 248 L (.int y :: .int x :: st) M Q ↔ (if x < y then wp scr n mb_162 255 L st M Q else wp scr n mb_162 251 L st M Q) := (wp_step rfl rfl rfl rfl rfl).trans wp_ite
set_option maxRecDepth 100000 in
theorem u162_251 : wp scr n mb_162 251 L st M Q ↔ wp scr n mb_162 252 L (.int 1 :: st) M Q := wp_step rfl rfl rfl rfl rfl
set_option maxRecDepth 100000 in
theorem u162_252 : wp scr n mb_162 252 L st M Q ↔ wp scr n mb_162 256 L st M Q := wp_step rfl rfl rfl rfl rfl
set_option maxRecDepth 100000 in
theorem u162_255 : wp scr n mb_162 255 L st M Q ↔ wp scr n mb_162 256 L (.int 0 :: st) M Q := wp_step rfl rfl rfl rfl rfl
set_option maxRecDepth 100000 in
theorem u162_256 : wp scr n mb_162 256 [l0, l1, l2, l3, l4, l5, some (.int x), l7, l8, l9, l10, l11, l12, l13] st M Q ↔ wp scr n mb_162 258 [l0, l1, l2, l3, l4, l5, some (.int x), l7, l8, l9, l10, l11, l12, l13] (.int x :: st) M Q := wp_step rfl rfl rfl rfl rfl
set_option maxRecDepth 100000 in
theorem u162_258 : wp scr n mb_162 258 L (.int y :: .int x :: st) M Q ↔ (if x = y then wp scr n mb_162 261 L st M Q else wp scr n mb_162 265 L st M Q) := (wp_step rfl rfl rfl rfl rfl).trans wp_iten
set_option maxRecDepth 100000 in
theorem u162_261 : wp scr n mb_162 261 L st M Q ↔ wp scr n mb_162 262 L (.int 1 :: st) M Q := wp_step rfl rfl rfl rfl rfl
set_option maxRecDepth 100000 in
theorem u162_262 : wp scr n mb_162 262 L st M Q ↔ wp scr n mb_162 266 L st M Q := wp_step rfl rfl rfl rfl rfl
set_option maxRecDepth 100000 in
theorem u162_265 : wp scr n mb_162 265 L st M Q ↔ wp scr n mb_162 266 L (.int 0 :: st) M Q := wp_step rfl rfl rfl rfl rfl
set_option maxRecDepth 100000 in
theorem u162_266 : wp scr n mb_162 266 [l0, l1, l2, l3, l4, l5, l6, l7, l8, l9, l10, l11, l12, l13] (.int x :: st) M Q ↔ wp scr n mb_162 268 (mm_sto1 [l0, l1, l2, l3, l4, l5, l6, l7, l8, l9, l10, l11, l12, l13] 12 (.int x)) st M Q := wp_step rfl rfl rfl rfl rfl
set_option maxRecDepth 100000 in
theorem u162_268 : wp scr n mb_162 268 [l0, l1, l2, l3, l4, l5, l6, l7, l8, some (.int x), l10, l11, l12, l13] st M Q ↔ wp scr n mb_162 270 [l0, l1, l2, l3, l4, l5, l6, l7, l8, some (.int x), l10, l11, l12, l13] (.int x :: st) M Q := wp_step rfl rfl rfl rfl rfl
set_option maxRecDepth 100000 in
theorem u162_270 : wp scr n mb_162 270 [l0, l1, l2, l3, l4, l5, l6, l7, l8, l9, l10, l11, some (.int x), l13] st M Q ↔ wp scr n mb_162 272 [l0, l1, l2, l3, l4, l5, l6, l7, l8, l9, l10, l11, some (.int x), l13] (.int x :: st) M Q := wp_step rfl rfl rfl rfl rfl
set_option maxRecDepth 100000 in
theorem u162_272 : wp scr n mb_162 272 L (.int y :: .int x :: st) M Q ↔ (if x = y then wp scr n mb_162 275 L st M Q else wp scr n mb_162 318 L st M Q) := (wp_step rfl rfl rfl rfl rfl).trans wp_iten
set_option maxRecDepth 100000 in
theorem u162_275 : wp scr n mb_162 275 [l0, l1, l2, l3, l4, l5, l6, l7, l8, some (.int x), l10, l11, l12, l13] st M Q ↔ wp scr n mb_162 277 [l0, l1, l2, l3, l4, l5, l6, l7, l8, some (.int x), l10, l11, l12, l13] (.int x :: st) M Q := wp_step rfl rfl rfl rfl rfl
set_option maxRecDepth 100000 in
theorem u162_277 : wp scr n mb_162 277 [some (.ref a), l1, l2, l3, l4, l5, l6, l7, l8, l9, l10, l11, l12, l13] st M Q ↔ wp scr n mb_162 278 [some (.ref a), l1, l2, l3, l4, l5, l6, l7, l8, l9, l10, l11, l12, l13] (.ref a :: st) M Q := wp_step rfl rfl rfl rfl rfl
set_option maxRecDepth 100000 in
theorem u162_278 : wp scr n mb_162 278 L (o :: st) M Q ↔ mw_o (mm_fld (mc_X scr) M o 6 9) (fun v => wp scr n mb_162 281 L (v :: st) M Q) := wp_getf rfl
set_option maxRecDepth 100000 in
theorem u162_281 : wp scr n mb_162 281 L st M Q ↔ wp scr n mb_162 282 L (.int 4 :: st) M Q := wp_step rfl rfl rfl rfl rfl
set_option maxRecDepth 100000 in
theorem u162_282 : wp scr n mb_162 282 [l0, l1, l2, l3, l4, l5, l6, l7, l8, l9, l10, some (.int x), l12, l13] st M Q ↔ wp scr n mb_162 284 [l0, l1, l2, l3, l4, l5, l6, l7, l8, l9, l10, some (.int x), l12, l13] (.int x :: st) M Q := wp_step rfl rfl rfl rfl rfl
set_option maxRecDepth 100000 in
theorem u162_284 : wp scr n mb_162 284 L (.int y :: .int x :: st) M Q ↔ wp scr n mb_162 285 L (.int (x * y) :: st) M Q := wp_step rfl rfl rfl rfl rfl
set_option maxRecDepth 100000 in
theorem u162_285 : wp scr n mb_162 285 L st M Q ↔ wp scr n mb_162 286 L (.int 2 :: st) M Q := wp_step rfl rfl rfl rfl rfl
set_option maxRecDepth 100000 in
theorem u162_286 : wp scr n mb_162 286 L (.int y :: .int x :: st) M Q ↔ wp scr n mb_162 287 L (.int (x + y) :: st) M Q := wp_step rfl rfl rfl rfl rfl
set_option maxRecDepth 100000 in
theorem u162_287 : wp scr n mb_162 287 L (.int y :: o :: st) M Q ↔ mw_o (mm_ld (mc_X scr) M o y) (fun x => wp scr n mb_162 288 L (.int x :: st) M Q) := wp_iald rfl
set_option maxRecDepth 100000 in
theorem u162_288 : wp scr n mb_162 288 [some (.ref a), l1, l2, l3, l4, l5, l6, l7, l8, l9, l10, l11, l12, l13] st M Q ↔ wp scr n mb_162 289 [some (.ref a), l1, l2, l3, l4, l5, l6, l7, l8, l9, l10, l11, l12, l13] (.ref a :: st) M Q := wp_step rfl rfl rfl rfl rfl
set_option maxRecDepth 100000 in
theorem u162_289 : wp scr n mb_162 289 L (o :: st) M Q ↔ mw_o (mm_fld (mc_X scr) M o 6 9) (fun v => wp scr n mb_162 292 L (v :: st) M Q) := wp_getf rfl
set_option maxRecDepth 100000 in
theorem u162_292 : wp scr n mb_162 292 L st M Q ↔ wp scr n mb_162 293 L (.int 4 :: st) M Q := wp_step rfl rfl rfl rfl rfl
set_option maxRecDepth 100000 in
theorem u162_293 : wp scr n mb_162 293 [l0, l1, l2, l3, l4, l5, l6, l7, some (.int x), l9, l10, l11, l12, l13] st M Q ↔ wp scr n mb_162 295 [l0, l1, l2, l3, l4, l5, l6, l7, some (.int x), l9, l10, l11, l12, l13] (.int x :: st) M Q := wp_step rfl rfl rfl rfl rfl
set_option maxRecDepth 100000 in
theorem u162_295 : wp scr n mb_162 295 L (.int y :: .int x :: st) M Q ↔ wp scr n mb_162 296 L (.int (x * y) :: st) M Q := wp_step rfl rfl rfl rfl rfl
set_option maxRecDepth 100000 in
theorem u162_296 : wp scr n mb_162 296 L st M Q ↔ wp scr n mb_162 297 L (.int 2 :: st) M Q := wp_step rfl rfl rfl rfl rfl
set_option maxRecDepth 100000 in
theorem u162_297 : wp scr n mb_162 297 L (.int y :: .int x :: st) M Q ↔ wp scr n mb_162 298 L (.int (x + y) :: st) M Q := wp_step rfl rfl rfl rfl rfl
set_option maxRecDepth 100000 in
theorem u162_298 : wp scr n mb_162 298 L (.int y :: o :: st) M Q ↔ mw_o (mm_ld (mc_X scr) M o y) (fun x => wp scr n mb_162 299 L (.int x :: st) M Q) := wp_iald rfl
set_option maxRecDepth 100000 in
theorem u162_299 : wp scr n mb_162 299 L (.int y :: .int x :: st) M Q ↔ (if y ≤ x then wp scr n mb_162 306 L st M Q else wp scr n mb_162 302 L st M Q) := (wp_step rfl rfl rfl rfl rfl).trans wp_ite
set_option maxRecDepth 100000 in
theorem u162_302 : wp scr n mb_162 302 L st M Q ↔ wp scr n mb_162 303 L (.int 1 :: st) M Q := wp_step rfl rfl rfl rfl rfl
set_option maxRecDepth 100000 in
theorem u162_303 : wp scr n mb_162 303 L st M Q ↔ wp scr n mb_162 307 L st M Q := wp_step rfl rfl rfl rfl rfl
set_option maxRecDepth 100000 in
theorem u162_306 : wp scr n mb_162 306 L st M Q ↔ wp scr n mb_162 307 L (.int 0 :: st) M Q := wp_step rfl rfl rfl rfl rfl
set_option maxRecDepth 100000 in
theorem u162_307 : wp scr n mb_162 307 L (.int y :: .int x :: st) M Q ↔ (if x = y then wp scr n mb_162 314 L st M Q else wp scr n mb_162 310 L st M Q) := (wp_step rfl rfl rfl rfl rfl).trans wp_ite
set_option maxRecDepth 100000 in
theorem u162_310 : wp scr n mb_162 310 L st M Q ↔ wp scr n mb_162 311 L (.int 1 :: st) M Q := wp_step rfl rfl rfl rfl rfl
set_option maxRecDepth 100000 in
theorem u162_311 : wp scr n mb_162 311 L st M Q ↔ wp scr n mb_162 330 L st M Q := wp_step rfl rfl rfl rfl rfl
set_option maxRecDepth 100000 in
theorem u162_314 : wp scr n mb_162 314 L st M Q ↔ wp scr n mb_162 315 L (.int 0 :: st) M Q := wp_step rfl rfl rfl rfl rfl
set_option maxRecDepth 100000 in
theorem u162_315 : wp scr n mb_162 315 L st M Q ↔ wp scr n mb_162 330 L st M Q := wp_step rfl rfl rfl rfl rfl
set_option maxRecDepth 100000 in
theorem u162_318 : wp scr n mb_162 318 [l0, l1, l2, l3, l4, l5, l6, l7, l8, some (.int x), l10, l11, l12, l13] st M Q ↔ wp scr n mb_162 320 [l0, l1, l2, l3, l4, l5, l6, l7, l8, some (.int x), l10, l11, l12, l13] (.int x :: st) M Q := wp_step rfl rfl rfl rfl rfl
set_option maxRecDepth 100000 in
theorem u162_320 : wp scr n mb_162 320 [l0, l1, l2, l3, l4, l5, l6, some (.int x), l8, l9, l10, l11, l12, l13] st M Q ↔ wp scr n mb_162 322 [l0, l1, l2, l3, l4, l5, l6, some (.int x), l8, l9, l10, l11, l12, l13] (.int x :: st) M Q := wp_step rfl rfl rfl rfl rfl
set_option maxRecDepth 100000 in
theorem u162_322 : wp scr n mb_162 322 L (.int y :: .int x :: st) M Q ↔ (if x = y then wp scr n mb_162 325 L st M Q else wp scr n mb_162 329 L st M Q) := (wp_step rfl rfl rfl rfl rfl).trans wp_iten
set_option maxRecDepth 100000 in
theorem u162_325 : wp scr n mb_162 325 L st M Q ↔ wp scr n mb_162 326 L (.int 1 :: st) M Q := wp_step rfl rfl rfl rfl rfl
set_option maxRecDepth 100000 in
theorem u162_326 : wp scr n mb_162 326 L st M Q ↔ wp scr n mb_162 330 L st M Q := wp_step rfl rfl rfl rfl rfl
set_option maxRecDepth 100000 in
theorem u162_329 : wp scr n mb_162 329 L st M Q ↔ wp scr n mb_162 330 L (.int 0 :: st) M Q := wp_step rfl rfl rfl rfl rfl
set_option maxRecDepth 100000 in
theorem u162_330 : wp scr n mb_162 330 [l0, l1, l2, l3, l4, l5, l6, l7, l8, l9, l10, l11, l12, l13] (.int x :: st) M Q ↔ wp scr n mb_162 332 (mm_sto1 [l0, l1, l2, l3, l4, l5, l6, l7, l8, l9, l10, l11, l12, l13] 13 (.int x)) st M Q := wp_step rfl rfl rfl rfl rfl
set_option maxRecDepth 100000 in
theorem u162_332 : wp scr n mb_162 332 [l0, l1, l2, l3, l4, l5, l6, l7, l8, l9, some (.int x), l11, l12, l13] st M Q ↔ wp scr n mb_162 334 [l0, l1, l2, l3, l4, l5, l6, l7, l8, l9, some (.int x), l11, l12, l13] (.int x :: st) M Q := wp_step rfl rfl rfl rfl rfl
set_option maxRecDepth 100000 in
theorem u162_334 : wp scr n mb_162 334 [l0, l1, l2, l3, l4, l5, l6, l7, l8, l9, l10, some (.int x), l12, l13] st M Q ↔ wp scr n mb_162 336 [l0, l1, l2, l3, l4, l5, l6, l7, l8, l9, l10, some (.int x), l12, l13] (.int x :: st) M Q := wp_step rfl rfl rfl rfl rfl
set_option maxRecDepth 100000 in
theorem u162_336 : wp scr n mb_162 336 [l0, l1, l2, l3, l4, l5, l6, l7, some (.int x), l9, l10, l11, l12, l13] st M Q ↔ wp scr n mb_162 338 [l0, l1, l2, l3, l4, l5, l6, l7, some (.int x), l9, l10, l11, l12, l13] (.int x :: st) M Q := wp_step rfl rfl rfl rfl rfl
set_option maxRecDepth 100000 in
theorem u162_338 : wp scr n mb_162 338 L (.int y :: .int x :: st) M Q ↔ (if x = y then wp scr n mb_162 361 L st M Q else wp scr n mb_162 341 L st M Q) := (wp_step rfl rfl rfl rfl rfl).trans wp_ite
set_option maxRecDepth 100000 in
theorem u162_341 : wp scr n mb_162 341 [l0, some (.ref a), l2, l3, l4, l5, l6, l7, l8, l9, l10, l11, l12, l13] st M Q ↔ wp scr n mb_162 342 [l0, some (.ref a), l2, l3, l4, l5, l6, l7, l8, l9, l10, l11, l12, l13] (.ref a :: st) M Q := wp_step rfl rfl rfl rfl rfl
set_option maxRecDepth 100000 in
theorem u162_342 : wp scr n mb_162 342 [l0, l1, l2, l3, l4, l5, l6, l7, some (.int x), l9, l10, l11, l12, l13] st M Q ↔ wp scr n mb_162 344 [l0, l1, l2, l3, l4, l5, l6, l7, some (.int x), l9, l10, l11, l12, l13] (.int x :: st) M Q := wp_step rfl rfl rfl rfl rfl
set_option maxRecDepth 100000 in
theorem u162_344 : wp scr n mb_162 344 [l0, l1, l2, l3, l4, l5, l6, l7, l8, l9, l10, some (.int x), l12, l13] st M Q ↔ wp scr n mb_162 346 [l0, l1, l2, l3, l4, l5, l6, l7, l8, l9, l10, some (.int x), l12, l13] (.int x :: st) M Q := wp_step rfl rfl rfl rfl rfl
set_option maxRecDepth 100000 in
theorem u162_346 : wp scr n mb_162 346 L (a3 :: a2 :: a1 :: st) M Q ↔ (mw_st st ∧ Wp scr n 163 [a1, a2, a3] M (fun r1 M1 => wp scr n mb_162 349 L (r1.toList ++ st) M1 Q)) := wp_sta rfl rfl rfl rfl
set_option maxRecDepth 100000 in
theorem u162_349 : wp scr n mb_162 349 L (.int x :: st) M Q ↔ (if x = 0 then wp scr n mb_162 361 L st M Q else wp scr n mb_162 352 L st M Q) := (wp_step rfl rfl rfl rfl rfl).trans wp_ite
set_option maxRecDepth 100000 in
theorem u162_352 : wp scr n mb_162 352 [l0, l1, l2, l3, l4, l5, l6, l7, l8, l9, l10, l11, l12, some (.int x)] st M Q ↔ wp scr n mb_162 354 [l0, l1, l2, l3, l4, l5, l6, l7, l8, l9, l10, l11, l12, some (.int x)] (.int x :: st) M Q := wp_step rfl rfl rfl rfl rfl
set_option maxRecDepth 100000 in
theorem u162_354 : wp scr n mb_162 354 L (.int x :: st) M Q ↔ (if x = 0 then wp scr n mb_162 361 L st M Q else wp scr n mb_162 357 L st M Q) := (wp_step rfl rfl rfl rfl rfl).trans wp_ite
set_option maxRecDepth 100000 in
theorem u162_357 : wp scr n mb_162 357 L st M Q ↔ wp scr n mb_162 358 L (.int 1 :: st) M Q := wp_step rfl rfl rfl rfl rfl
set_option maxRecDepth 100000 in
theorem u162_358 : wp scr n mb_162 358 L st M Q ↔ wp scr n mb_162 362 L st M Q := wp_step rfl rfl rfl rfl rfl
set_option maxRecDepth 100000 in
theorem u162_361 : wp scr n mb_162 361 L st M Q ↔ wp scr n mb_162 362 L (.int 0 :: st) M Q := wp_step rfl rfl rfl rfl rfl
set_option maxRecDepth 100000 in
theorem u162_362 : wp scr n mb_162 362 L (.int y :: .int x :: st) M Q ↔ wp scr n mb_162 363 L (.int (x + y) :: st) M Q := wp_step rfl rfl rfl rfl rfl
set_option maxRecDepth 100000 in
theorem u162_363 : wp scr n mb_162 363 [l0, l1, l2, l3, l4, l5, l6, l7, l8, l9, l10, l11, l12, l13] (.int x :: st) M Q ↔ wp scr n mb_162 365 (mm_sto1 [l0, l1, l2, l3, l4, l5, l6, l7, l8, l9, l10, l11, l12, l13] 10 (.int x)) st M Q := wp_step rfl rfl rfl rfl rfl
set_option maxRecDepth 100000 in
theorem u162_365 : wp scr n mb_162 365 [l0, l1, l2, l3, l4, l5, l6, l7, l8, l9, l10, some (.int x), l12, l13] st M Q ↔ wp scr n mb_162 368 (mm_sto1 [l0, l1, l2, l3, l4, l5, l6, l7, l8, l9, l10, some (.int x), l12, l13] 11 (.int (x + 1))) st M Q := wp_step rfl rfl rfl rfl rfl
set_option maxRecDepth 100000 in
theorem u162_368 : wp scr n mb_162 368 L st M Q ↔ wp scr n mb_162 227 L st M Q := wp_step rfl rfl rfl rfl rfl
set_option maxRecDepth 100000 in
theorem u162_371 : wp scr n mb_162 371 [l0, some (.ref a), l2, l3, l4, l5, l6, l7, l8, l9, l10, l11, l12, l13] st M Q ↔ wp scr n mb_162 372 [l0, some (.ref a), l2, l3, l4, l5, l6, l7, l8, l9, l10, l11, l12, l13] (.ref a :: st) M Q := wp_step rfl rfl rfl rfl rfl
set_option maxRecDepth 100000 in
theorem u162_372 : wp scr n mb_162 372 L st M Q ↔ wp scr n mb_162 374 L (.int 40 :: st) M Q := wp_step rfl rfl rfl rfl rfl
set_option maxRecDepth 100000 in
theorem u162_374 : wp scr n mb_162 374 L st M Q ↔ wp scr n mb_162 375 L (.int 4 :: st) M Q := wp_step rfl rfl rfl rfl rfl
set_option maxRecDepth 100000 in
theorem u162_375 : wp scr n mb_162 375 [l0, l1, l2, l3, l4, l5, l6, l7, some (.int x), l9, l10, l11, l12, l13] st M Q ↔ wp scr n mb_162 377 [l0, l1, l2, l3, l4, l5, l6, l7, some (.int x), l9, l10, l11, l12, l13] (.int x :: st) M Q := wp_step rfl rfl rfl rfl rfl
set_option maxRecDepth 100000 in
theorem u162_377 : wp scr n mb_162 377 L (.int y :: .int x :: st) M Q ↔ wp scr n mb_162 378 L (.int (x * y) :: st) M Q := wp_step rfl rfl rfl rfl rfl
set_option maxRecDepth 100000 in
theorem u162_378 : wp scr n mb_162 378 L (.int y :: .int x :: st) M Q ↔ wp scr n mb_162 379 L (.int (x + y) :: st) M Q := wp_step rfl rfl rfl rfl rfl
set_option maxRecDepth 100000 in
theorem u162_379 : wp scr n mb_162 379 L st M Q ↔ wp scr n mb_162 380 L (.int 2 :: st) M Q := wp_step rfl rfl rfl rfl rfl
set_option maxRecDepth 100000 in
theorem u162_380 : wp scr n mb_162 380 L (.int y :: .int x :: st) M Q ↔ wp scr n mb_162 381 L (.int (x + y) :: st) M Q := wp_step rfl rfl rfl rfl rfl
set_option maxRecDepth 100000 in
theorem u162_381 : wp scr n mb_162 381 [l0, l1, l2, l3, l4, l5, l6, l7, l8, l9, some (.int x), l11, l12, l13] st M Q ↔ wp scr n mb_162 383 [l0, l1, l2, l3, l4, l5, l6, l7, l8, l9, some (.int x), l11, l12, l13] (.int x :: st) M Q := wp_step rfl rfl rfl rfl rfl
set_option maxRecDepth 100000 in
theorem u162_383 : wp scr n mb_162 383 L (.int x :: .int y :: o :: st) M Q ↔ mw_o (mm_sti M o y x) (fun M1 => wp scr n mb_162 384 L st M1 Q) := wp_iast rfl
set_option maxRecDepth 100000 in
theorem u162_384 : wp scr n mb_162 384 [l0, l1, l2, l3, l4, l5, l6, l7, some (.int x), l9, l10, l11, l12, l13] st M Q ↔ wp scr n mb_162 387 (mm_sto1 [l0, l1, l2, l3, l4, l5, l6, l7, some (.int x), l9, l10, l11, l12, l13] 8 (.int (x + 1))) st M Q := wp_step rfl rfl rfl rfl rfl
set_option maxRecDepth 100000 in
theorem u162_387 : wp scr n mb_162 387 L st M Q ↔ wp scr n mb_162 180 L st M Q := wp_step rfl rfl rfl rfl rfl
set_option maxRecDepth 100000 in
theorem u162_390 : wp scr n mb_162 390 L st M Q ↔ wp scr n mb_162 392 L (.int 9 :: st) M Q := wp_step rfl rfl rfl rfl rfl
set_option maxRecDepth 100000 in
theorem u162_392 : wp scr n mb_162 392 [l0, l1, l2, l3, l4, l5, l6, l7, l8, l9, l10, l11, l12, l13] (.int x :: st) M Q ↔ wp scr n mb_162 394 (mm_sto1 [l0, l1, l2, l3, l4, l5, l6, l7, l8, l9, l10, l11, l12, l13] 8 (.int x)) st M Q := wp_step rfl rfl rfl rfl rfl
set_option maxRecDepth 100000 in
theorem u162_394 : wp scr n mb_162 394 L st M Q ↔ wp scr n mb_162 395 L (.int 0 :: st) M Q := wp_step rfl rfl rfl rfl rfl
set_option maxRecDepth 100000 in
theorem u162_395 : wp scr n mb_162 395 [l0, l1, l2, l3, l4, l5, l6, l7, l8, l9, l10, l11, l12, l13] (.int x :: st) M Q ↔ wp scr n mb_162 397 (mm_sto1 [l0, l1, l2, l3, l4, l5, l6, l7, l8, l9, l10, l11, l12, l13] 9 (.int x)) st M Q := wp_step rfl rfl rfl rfl rfl
set_option maxRecDepth 100000 in
theorem u162_397 : wp scr n mb_162 397 [l0, l1, l2, l3, l4, l5, l6, l7, l8, some (.int x), l10, l11, l12, l13] st M Q ↔ wp scr n mb_162 399 [l0, l1, l2, l3, l4, l5, l6, l7, l8, some (.int x), l10, l11, l12, l13] (.int x :: st) M Q := wp_step rfl rfl rfl rfl rfl
set_option maxRecDepth 100000 in
theorem u162_399 : wp scr n mb_162 399 L st M Q ↔ wp scr n mb_162 401 L (.int 8 :: st) M Q := wp_step rfl rfl rfl rfl rfl
set_option maxRecDepth 100000 in
theorem u162_401 : wp scr n mb_162 401 L (.int y :: .int x :: st) M Q ↔ (if y ≤ x then wp scr n mb_162 429 L st M Q else wp scr n mb_162 404 L st M Q) := (wp_step rfl rfl rfl rfl rfl).trans wp_ite
set_option maxRecDepth 100000 in
theorem u162_404 : wp scr n mb_162 404 [l0, l1, l2, l3, l4, l5, l6, l7, some (.int x), l9, l10, l11, l12, l13] st M Q ↔ wp scr n mb_162 406 [l0, l1, l2, l3, l4, l5, l6, l7, some (.int x), l9, l10, l11, l12, l13] (.int x :: st) M Q := wp_step rfl rfl rfl rfl rfl
set_option maxRecDepth 100000 in
theorem u162_406 : wp scr n mb_162 406 [l0, some (.ref a), l2, l3, l4, l5, l6, l7, l8, l9, l10, l11, l12, l13] st M Q ↔ wp scr n mb_162 407 [l0, some (.ref a), l2, l3, l4, l5, l6, l7, l8, l9, l10, l11, l12, l13] (.ref a :: st) M Q := wp_step rfl rfl rfl rfl rfl
set_option maxRecDepth 100000 in
theorem u162_407 : wp scr n mb_162 407 L st M Q ↔ wp scr n mb_162 409 L (.int 40 :: st) M Q := wp_step rfl rfl rfl rfl rfl
set_option maxRecDepth 100000 in
theorem u162_409 : wp scr n mb_162 409 L st M Q ↔ wp scr n mb_162 410 L (.int 4 :: st) M Q := wp_step rfl rfl rfl rfl rfl
set_option maxRecDepth 100000 in
theorem u162_410 : wp scr n mb_162 410 [l0, l1, l2, l3, l4, l5, l6, l7, l8, some (.int x), l10, l11, l12, l13] st M Q ↔ wp scr n mb_162 412 [l0, l1, l2, l3, l4, l5, l6, l7, l8, some (.int x), l10, l11, l12, l13] (.int x :: st) M Q := wp_step rfl rfl rfl rfl rfl
set_option maxRecDepth 100000 in
theorem u162_412 : wp scr n mb_162 412 L (.int y :: .int x :: st) M Q ↔ wp scr n mb_162 413 L (.int (x * y) :: st) M Q := wp_step rfl rfl rfl rfl rfl
set_option maxRecDepth 100000 in
theorem u162_413 : wp scr n mb_162 413 L (.int y :: .int x :: st) M Q ↔ wp scr n mb_162 414 L (.int (x + y) :: st) M Q := wp_step rfl rfl rfl rfl rfl
set_option maxRecDepth 100000 in
theorem u162_414 : wp scr n mb_162 414 [l0, l1, l2, l3, some (.int x), l5, l6, l7, l8, l9, l10, l11, l12, l13] st M Q ↔ wp scr n mb_162 416 [l0, l1, l2, l3, some (.int x), l5, l6, l7, l8, l9, l10, l11, l12, l13] (.int x :: st) M Q := wp_step rfl rfl rfl rfl rfl
set_option maxRecDepth 100000 in
theorem u162_416 : wp scr n mb_162 416 L (.int y :: .int x :: st) M Q ↔ wp scr n mb_162 417 L (.int (x + y) :: st) M Q := wp_step rfl rfl rfl rfl rfl
set_option maxRecDepth 100000 in
theorem u162_417 : wp scr n mb_162 417 L (.int y :: o :: st) M Q ↔ mw_o (mm_ld (mc_X scr) M o y) (fun x => wp scr n mb_162 418 L (.int x :: st) M Q) := wp_iald rfl
set_option maxRecDepth 100000 in
theorem u162_418 : wp scr n mb_162 418 L (.int y :: .int x :: st) M Q ↔ (mw_st st ∧ wp scr n mb_162 421 L (.int (if y < x then y else x) :: st) M Q) := wp_math998 rfl
set_option maxRecDepth 100000 in
theorem u162_421 : wp scr n mb_162 421 [l0, l1, l2, l3, l4, l5, l6, l7, l8, l9, l10, l11, l12, l13] (.int x :: st) M Q ↔ wp scr n mb_162 423 (mm_sto1 [l0, l1, l2, l3, l4, l5, l6, l7, l8, l9, l10, l11, l12, l13] 8 (.int x)) st M Q := wp_step rfl rfl rfl rfl rfl
set_option maxRecDepth 100000 in
theorem u162_423 : wp scr n mb_162 423 [l0, l1, l2, l3, l4, l5, l6, l7, l8, some (.int x), l10, l11, l12, l13] st M Q ↔ wp scr n mb_162 426 (mm_sto1 [l0, l1, l2, l3, l4, l5, l6, l7, l8, some (.int x), l10, l11, l12, l13] 9 (.int (x + 1))) st M Q := wp_step rfl rfl rfl rfl rfl
set_option maxRecDepth 100000 in
theorem u162_426 : wp scr n mb_162 426 L st M Q ↔ wp scr n mb_162 397 L st M Q := wp_step rfl rfl rfl rfl rfl
set_option maxRecDepth 100000 in
theorem u162_429 : wp scr n mb_162 429 L st M Q ↔ wp scr n mb_162 430 L (.int 0 :: st) M Q := wp_step rfl rfl rfl rfl rfl
set_option maxRecDepth 100000 in
theorem u162_430 : wp scr n mb_162 430 [l0, l1, l2, l3, l4, l5, l6, l7, l8, l9, l10, l11, l12, l13] (.int x :: st) M Q ↔ wp scr n mb_162 432 (mm_sto1 [l0, l1, l2, l3, l4, l5, l6, l7, l8, l9, l10, l11, l12, l13] 9 (.int x)) st M Q := wp_step rfl rfl rfl rfl rfl
set_option maxRecDepth 100000 in
theorem u162_432 : wp scr n mb_162 432 [l0, l1, l2, l3, l4, l5, l6, l7, l8, some (.int x), l10, l11, l12, l13] st M Q ↔ wp scr n mb_162 434 [l0, l1, l2, l3, l4, l5, l6, l7, l8, some (.int x), l10, l11, l12, l13] (.int x :: st) M Q := wp_step rfl rfl rfl rfl rfl
set_option maxRecDepth 100000 in
theorem u162_434 : wp scr n mb_162 434 L st M Q ↔ wp scr n mb_162 436 L (.int 8 :: st) M Q := wp_step rfl rfl rfl rfl rfl
set_option maxRecDepth 100000 in
theorem u162_436 : wp scr n mb_162 436 L (.int y :: .int x :: st) M Q ↔ (if y ≤ x then wp scr n mb_162 462 L st M Q else wp scr n mb_162 439 L st M Q) := (wp_step rfl rfl rfl rfl rfl).trans wp_ite
set_option maxRecDepth 100000 in
theorem u162_439 : wp scr n mb_162 439 [l0, some (.ref a), l2, l3, l4, l5, l6, l7, l8, l9, l10, l11, l12, l13] st M Q ↔ wp scr n mb_162 440 [l0, some (.ref a), l2, l3, l4, l5, l6, l7, l8, l9, l10, l11, l12, l13] (.ref a :: st) M Q := wp_step rfl rfl rfl rfl rfl
set_option maxRecDepth 100000 in
theorem u162_440 : wp scr n mb_162 440 L st M Q ↔ wp scr n mb_162 442 L (.int 40 :: st) M Q := wp_step rfl rfl rfl rfl rfl
set_option maxRecDepth 100000 in
theorem u162_442 : wp scr n mb_162 442 L st M Q ↔ wp scr n mb_162 443 L (.int 4 :: st) M Q := wp_step rfl rfl rfl rfl rfl
set_option maxRecDepth 100000 in
theorem u162_443 : wp scr n mb_162 443 [l0, l1, l2, l3, l4, l5, l6, l7, l8, some (.int x), l10, l11, l12, l13] st M Q ↔ wp scr n mb_162 445 [l0, l1, l2, l3, l4, l5, l6, l7, l8, some (.int x), l10, l11, l12, l13] (.int x :: st) M Q := wp_step rfl rfl rfl rfl rfl
set_option maxRecDepth 100000 in
theorem u162_445 : wp scr n mb_162 445 L (.int y :: .int x :: st) M Q ↔ wp scr n mb_162 446 L (.int (x * y) :: st) M Q := wp_step rfl rfl rfl rfl rfl
set_option maxRecDepth 100000 in
theorem u162_446 : wp scr n mb_162 446 L (.int y :: .int x :: st) M Q ↔ wp scr n mb_162 447 L (.int (x + y) :: st) M Q := wp_step rfl rfl rfl rfl rfl
set_option maxRecDepth 100000 in
theorem u162_447 : wp scr n mb_162 447 [l0, l1, l2, l3, some (.int x), l5, l6, l7, l8, l9, l10, l11, l12, l13] st M Q ↔ wp scr n mb_162 449 [l0, l1, l2, l3, some (.int x), l5, l6, l7, l8, l9, l10, l11, l12, l13] (.int x :: st) M Q := wp_step rfl rfl rfl rfl rfl
set_option maxRecDepth 100000 in
theorem u162_449 : wp scr n mb_162 449 L (.int y :: .int x :: st) M Q ↔ wp scr n mb_162 450 L (.int (x + y) :: st) M Q := wp_step rfl rfl rfl rfl rfl
set_option maxRecDepth 100000 in
theorem u162_450 : wp scr n mb_162 450 L (.int y :: .ref a :: st) M Q ↔ wp scr n mb_162 451 L (.int y :: .ref a :: .int y :: .ref a :: st) M Q := wp_step rfl rfl rfl rfl rfl
set_option maxRecDepth 100000 in
theorem u162_451 : wp scr n mb_162 451 L (.int y :: o :: st) M Q ↔ mw_o (mm_ld (mc_X scr) M o y) (fun x => wp scr n mb_162 452 L (.int x :: st) M Q) := wp_iald rfl
set_option maxRecDepth 100000 in
theorem u162_452 : wp scr n mb_162 452 [l0, l1, l2, l3, l4, l5, l6, l7, some (.int x), l9, l10, l11, l12, l13] st M Q ↔ wp scr n mb_162 454 [l0, l1, l2, l3, l4, l5, l6, l7, some (.int x), l9, l10, l11, l12, l13] (.int x :: st) M Q := wp_step rfl rfl rfl rfl rfl
set_option maxRecDepth 100000 in
theorem u162_454 : wp scr n mb_162 454 L (.int y :: .int x :: st) M Q ↔ wp scr n mb_162 455 L (.int (x - y) :: st) M Q := wp_step rfl rfl rfl rfl rfl
set_option maxRecDepth 100000 in
theorem u162_455 : wp scr n mb_162 455 L (.int x :: .int y :: o :: st) M Q ↔ mw_o (mm_sti M o y x) (fun M1 => wp scr n mb_162 456 L st M1 Q) := wp_iast rfl
set_option maxRecDepth 100000 in
theorem u162_456 : wp scr n mb_162 456 [l0, l1, l2, l3, l4, l5, l6, l7, l8, some (.int x), l10, l11, l12, l13] st M Q ↔ wp scr n mb_162 459 (mm_sto1 [l0, l1, l2, l3, l4, l5, l6, l7, l8, some (.int x), l10, l11, l12, l13] 9 (.int (x + 1))) st M Q := wp_step rfl rfl rfl rfl rfl
set_option maxRecDepth 100000 in
theorem u162_459 : wp scr n mb_162 459 L st M Q ↔ wp scr n mb_162 432 L st M Q := wp_step rfl rfl rfl rfl rfl
set_option maxRecDepth 100000 in
theorem u162_462 : wp scr n mb_162 462 L [] M Q ↔ Q none M := wp_ret rfl rfl
theorem e162 : Wp scr (n + 1) 162 [.ref a0, .ref b1, .int x2, .int x3] M Q ↔ wp scr n mb_162 0 [some (.ref a0), some (.ref b1), some (.int x2), some (.int x3), none, none, none, none, none, none, none, none, none, none] [] M Q := Wp_to rfl rfl rfl
/-- SmallerInTheShopModel isOneCell ([III)Z -/
def mb_163 : mw_B := ((Option.some FieldType.boolean), mp_163)
theorem u163_0 : wp scr n mb_163 0 [some (.ref a), l1, l2] st M Q ↔ wp scr n mb_163 1 [some (.ref a), l1, l2] (.ref a :: st) M Q := wp_step rfl rfl rfl rfl rfl
theorem u163_1 : wp scr n mb_163 1 L st M Q ↔ wp scr n mb_163 3 L (.int 40 :: st) M Q := wp_step rfl rfl rfl rfl rfl
theorem u163_3 : wp scr n mb_163 3 L st M Q ↔ wp scr n mb_163 4 L (.int 4 :: st) M Q := wp_step rfl rfl rfl rfl rfl
theorem u163_4 : wp scr n mb_163 4 [l0, some (.int x), l2] st M Q ↔ wp scr n mb_163 5 [l0, some (.int x), l2] (.int x :: st) M Q := wp_step rfl rfl rfl rfl rfl
theorem u163_5 : wp scr n mb_163 5 L (.int y :: .int x :: st) M Q ↔ wp scr n mb_163 6 L (.int (x * y) :: st) M Q := wp_step rfl rfl rfl rfl rfl
theorem u163_6 : wp scr n mb_163 6 L (.int y :: .int x :: st) M Q ↔ wp scr n mb_163 7 L (.int (x + y) :: st) M Q := wp_step rfl rfl rfl rfl rfl
theorem u163_7 : wp scr n mb_163 7 L (.int y :: o :: st) M Q ↔ mw_o (mm_ld (mc_X scr) M o y) (fun x => wp scr n mb_163 8 L (.int x :: st) M Q) := wp_iald rfl
theorem u163_8 : wp scr n mb_163 8 [some (.ref a), l1, l2] st M Q ↔ wp scr n mb_163 9 [some (.ref a), l1, l2] (.ref a :: st) M Q := wp_step rfl rfl rfl rfl rfl
theorem u163_9 : wp scr n mb_163 9 L st M Q ↔ wp scr n mb_163 11 L (.int 40 :: st) M Q := wp_step rfl rfl rfl rfl rfl
theorem u163_11 : wp scr n mb_163 11 L st M Q ↔ wp scr n mb_163 12 L (.int 4 :: st) M Q := wp_step rfl rfl rfl rfl rfl
theorem u163_12 : wp scr n mb_163 12 [l0, l1, some (.int x)] st M Q ↔ wp scr n mb_163 13 [l0, l1, some (.int x)] (.int x :: st) M Q := wp_step rfl rfl rfl rfl rfl
theorem u163_13 : wp scr n mb_163 13 L (.int y :: .int x :: st) M Q ↔ wp scr n mb_163 14 L (.int (x * y) :: st) M Q := wp_step rfl rfl rfl rfl rfl
theorem u163_14 : wp scr n mb_163 14 L (.int y :: .int x :: st) M Q ↔ wp scr n mb_163 15 L (.int (x + y) :: st) M Q := wp_step rfl rfl rfl rfl rfl
theorem u163_15 : wp scr n mb_163 15 L (.int y :: o :: st) M Q ↔ mw_o (mm_ld (mc_X scr) M o y) (fun x => wp scr n mb_163 16 L (.int x :: st) M Q) := wp_iald rfl
theorem u163_16 : wp scr n mb_163 16 L (.int y :: .int x :: st) M Q ↔ (if x = y then wp scr n mb_163 19 L st M Q else wp scr n mb_163 46 L st M Q) := (wp_step rfl rfl rfl rfl rfl).trans wp_iten
theorem u163_19 : wp scr n mb_163 19 [some (.ref a), l1, l2] st M Q ↔ wp scr n mb_163 20 [some (.ref a), l1, l2] (.ref a :: st) M Q := wp_step rfl rfl rfl rfl rfl
theorem u163_20 : wp scr n mb_163 20 L st M Q ↔ wp scr n mb_163 22 L (.int 40 :: st) M Q := wp_step rfl rfl rfl rfl rfl
theorem u163_22 : wp scr n mb_163 22 L st M Q ↔ wp scr n mb_163 23 L (.int 4 :: st) M Q := wp_step rfl rfl rfl rfl rfl
theorem u163_23 : wp scr n mb_163 23 [l0, some (.int x), l2] st M Q ↔ wp scr n mb_163 24 [l0, some (.int x), l2] (.int x :: st) M Q := wp_step rfl rfl rfl rfl rfl
theorem u163_24 : wp scr n mb_163 24 L (.int y :: .int x :: st) M Q ↔ wp scr n mb_163 25 L (.int (x * y) :: st) M Q := wp_step rfl rfl rfl rfl rfl
theorem u163_25 : wp scr n mb_163 25 L (.int y :: .int x :: st) M Q ↔ wp scr n mb_163 26 L (.int (x + y) :: st) M Q := wp_step rfl rfl rfl rfl rfl
theorem u163_26 : wp scr n mb_163 26 L st M Q ↔ wp scr n mb_163 27 L (.int 1 :: st) M Q := wp_step rfl rfl rfl rfl rfl
theorem u163_27 : wp scr n mb_163 27 L (.int y :: .int x :: st) M Q ↔ wp scr n mb_163 28 L (.int (x + y) :: st) M Q := wp_step rfl rfl rfl rfl rfl
theorem u163_28 : wp scr n mb_163 28 L (.int y :: o :: st) M Q ↔ mw_o (mm_ld (mc_X scr) M o y) (fun x => wp scr n mb_163 29 L (.int x :: st) M Q) := wp_iald rfl
theorem u163_29 : wp scr n mb_163 29 [some (.ref a), l1, l2] st M Q ↔ wp scr n mb_163 30 [some (.ref a), l1, l2] (.ref a :: st) M Q := wp_step rfl rfl rfl rfl rfl
theorem u163_30 : wp scr n mb_163 30 L st M Q ↔ wp scr n mb_163 32 L (.int 40 :: st) M Q := wp_step rfl rfl rfl rfl rfl
theorem u163_32 : wp scr n mb_163 32 L st M Q ↔ wp scr n mb_163 33 L (.int 4 :: st) M Q := wp_step rfl rfl rfl rfl rfl
theorem u163_33 : wp scr n mb_163 33 [l0, l1, some (.int x)] st M Q ↔ wp scr n mb_163 34 [l0, l1, some (.int x)] (.int x :: st) M Q := wp_step rfl rfl rfl rfl rfl
theorem u163_34 : wp scr n mb_163 34 L (.int y :: .int x :: st) M Q ↔ wp scr n mb_163 35 L (.int (x * y) :: st) M Q := wp_step rfl rfl rfl rfl rfl
theorem u163_35 : wp scr n mb_163 35 L (.int y :: .int x :: st) M Q ↔ wp scr n mb_163 36 L (.int (x + y) :: st) M Q := wp_step rfl rfl rfl rfl rfl
theorem u163_36 : wp scr n mb_163 36 L st M Q ↔ wp scr n mb_163 37 L (.int 1 :: st) M Q := wp_step rfl rfl rfl rfl rfl
theorem u163_37 : wp scr n mb_163 37 L (.int y :: .int x :: st) M Q ↔ wp scr n mb_163 38 L (.int (x + y) :: st) M Q := wp_step rfl rfl rfl rfl rfl
theorem u163_38 : wp scr n mb_163 38 L (.int y :: o :: st) M Q ↔ mw_o (mm_ld (mc_X scr) M o y) (fun x => wp scr n mb_163 39 L (.int x :: st) M Q) := wp_iald rfl
theorem u163_39 : wp scr n mb_163 39 L (.int y :: .int x :: st) M Q ↔ (if x = y then wp scr n mb_163 42 L st M Q else wp scr n mb_163 46 L st M Q) := (wp_step rfl rfl rfl rfl rfl).trans wp_iten
theorem u163_42 : wp scr n mb_163 42 L st M Q ↔ wp scr n mb_163 43 L (.int 1 :: st) M Q := wp_step rfl rfl rfl rfl rfl
theorem u163_43 : wp scr n mb_163 43 L st M Q ↔ wp scr n mb_163 47 L st M Q := wp_step rfl rfl rfl rfl rfl
theorem u163_46 : wp scr n mb_163 46 L st M Q ↔ wp scr n mb_163 47 L (.int 0 :: st) M Q := wp_step rfl rfl rfl rfl rfl
theorem u163_47 : wp scr n mb_163 47 L [.int x] M Q ↔ ((x = 0 ∨ x = 1) ∧ Q (some (.int x)) M) := wp_retb rfl rfl
theorem e163 : Wp scr (n + 1) 163 [.ref b1, .int x2, .int x3] M Q ↔ wp scr n mb_163 0 [some (.ref b1), some (.int x2), some (.int x3)] [] M Q := Wp_to rfl rfl rfl
/-- SmallerInTheShopModel opened ([I)V -/
def mb_164 : mw_B := ((Option.none : Option FieldType), mp_164)
theorem u164_0 : wp scr n mb_164 0 [some (.ref a), l1, l2] st M Q ↔ wp scr n mb_164 1 [some (.ref a), l1, l2] (.ref a :: st) M Q := wp_step rfl rfl rfl rfl rfl
theorem u164_1 : wp scr n mb_164 1 L st M Q ↔ wp scr n mb_164 3 L (.int 73 :: st) M Q := wp_step rfl rfl rfl rfl rfl
theorem u164_3 : wp scr n mb_164 3 L (.int y :: .ref a :: st) M Q ↔ wp scr n mb_164 4 L (.int y :: .ref a :: .int y :: .ref a :: st) M Q := wp_step rfl rfl rfl rfl rfl
theorem u164_4 : wp scr n mb_164 4 L (.int y :: o :: st) M Q ↔ mw_o (mm_ld (mc_X scr) M o y) (fun x => wp scr n mb_164 5 L (.int x :: st) M Q) := wp_iald rfl
theorem u164_5 : wp scr n mb_164 5 L st M Q ↔ wp scr n mb_164 6 L (.int 1 :: st) M Q := wp_step rfl rfl rfl rfl rfl
theorem u164_6 : wp scr n mb_164 6 L (.int y :: .int x :: st) M Q ↔ wp scr n mb_164 7 L (.int (x - y) :: st) M Q := wp_step rfl rfl rfl rfl rfl
theorem u164_7 : wp scr n mb_164 7 L (.int x :: .int y :: o :: st) M Q ↔ mw_o (mm_sti M o y x) (fun M1 => wp scr n mb_164 8 L st M1 Q) := wp_iast rfl
theorem u164_8 : wp scr n mb_164 8 L st M Q ↔ wp scr n mb_164 10 L (.int 74 :: st) M Q := wp_step rfl rfl rfl rfl rfl
theorem u164_10 : wp scr n mb_164 10 L st M Q ↔ wp scr n mb_164 12 L (.int 33 :: st) M Q := wp_step rfl rfl rfl rfl rfl
theorem u164_12 : wp scr n mb_164 12 [some (.ref a), l1, l2] st M Q ↔ wp scr n mb_164 13 [some (.ref a), l1, l2] (.ref a :: st) M Q := wp_step rfl rfl rfl rfl rfl
theorem u164_13 : wp scr n mb_164 13 L st M Q ↔ wp scr n mb_164 15 L (.int 73 :: st) M Q := wp_step rfl rfl rfl rfl rfl
theorem u164_15 : wp scr n mb_164 15 L (.int y :: o :: st) M Q ↔ mw_o (mm_ld (mc_X scr) M o y) (fun x => wp scr n mb_164 16 L (.int x :: st) M Q) := wp_iald rfl
theorem u164_16 : wp scr n mb_164 16 L (.int y :: .int x :: st) M Q ↔ wp scr n mb_164 17 L (.int (x * y) :: st) M Q := wp_step rfl rfl rfl rfl rfl
theorem u164_17 : wp scr n mb_164 17 L (.int y :: .int x :: st) M Q ↔ wp scr n mb_164 18 L (.int (x + y) :: st) M Q := wp_step rfl rfl rfl rfl rfl
theorem u164_18 : wp scr n mb_164 18 [l0, l1, l2] (.int x :: st) M Q ↔ wp scr n mb_164 19 (mm_sto1 [l0, l1, l2] 1 (.int x)) st M Q := wp_step rfl rfl rfl rfl rfl
theorem u164_19 : wp scr n mb_164 19 L st M Q ↔ wp scr n mb_164 20 L (.int 0 :: st) M Q := wp_step rfl rfl rfl rfl rfl
theorem u164_20 : wp scr n mb_164 20 [l0, l1, l2] (.int x :: st) M Q ↔ wp scr n mb_164 21 (mm_sto1 [l0, l1, l2] 2 (.int x)) st M Q := wp_step rfl rfl rfl rfl rfl
theorem u164_21 : wp scr n mb_164 21 [l0, l1, some (.int x)] st M Q ↔ wp scr n mb_164 22 [l0, l1, some (.int x)] (.int x :: st) M Q := wp_step rfl rfl rfl rfl rfl
theorem u164_22 : wp scr n mb_164 22 L st M Q ↔ wp scr n mb_164 24 L (.int 32 :: st) M Q := wp_step rfl rfl rfl rfl rfl
theorem u164_24 : wp scr n mb_164 24 L (.int y :: .int x :: st) M Q ↔ (if y ≤ x then wp scr n mb_164 44 L st M Q else wp scr n mb_164 27 L st M Q) := (wp_step rfl rfl rfl rfl rfl).trans wp_ite
theorem u164_27 : wp scr n mb_164 27 [some (.ref a), l1, l2] st M Q ↔ wp scr n mb_164 28 [some (.ref a), l1, l2] (.ref a :: st) M Q := wp_step rfl rfl rfl rfl rfl
theorem u164_28 : wp scr n mb_164 28 L st M Q ↔ wp scr n mb_164 30 L (.int 40 :: st) M Q := wp_step rfl rfl rfl rfl rfl
theorem u164_30 : wp scr n mb_164 30 [l0, l1, some (.int x)] st M Q ↔ wp scr n mb_164 31 [l0, l1, some (.int x)] (.int x :: st) M Q := wp_step rfl rfl rfl rfl rfl
theorem u164_31 : wp scr n mb_164 31 L (.int y :: .int x :: st) M Q ↔ wp scr n mb_164 32 L (.int (x + y) :: st) M Q := wp_step rfl rfl rfl rfl rfl
theorem u164_32 : wp scr n mb_164 32 [some (.ref a), l1, l2] st M Q ↔ wp scr n mb_164 33 [some (.ref a), l1, l2] (.ref a :: st) M Q := wp_step rfl rfl rfl rfl rfl
theorem u164_33 : wp scr n mb_164 33 [l0, some (.int x), l2] st M Q ↔ wp scr n mb_164 34 [l0, some (.int x), l2] (.int x :: st) M Q := wp_step rfl rfl rfl rfl rfl
theorem u164_34 : wp scr n mb_164 34 [l0, l1, some (.int x)] st M Q ↔ wp scr n mb_164 35 [l0, l1, some (.int x)] (.int x :: st) M Q := wp_step rfl rfl rfl rfl rfl
theorem u164_35 : wp scr n mb_164 35 L (.int y :: .int x :: st) M Q ↔ wp scr n mb_164 36 L (.int (x + y) :: st) M Q := wp_step rfl rfl rfl rfl rfl
theorem u164_36 : wp scr n mb_164 36 L (.int y :: o :: st) M Q ↔ mw_o (mm_ld (mc_X scr) M o y) (fun x => wp scr n mb_164 37 L (.int x :: st) M Q) := wp_iald rfl
theorem u164_37 : wp scr n mb_164 37 L (.int x :: .int y :: o :: st) M Q ↔ mw_o (mm_sti M o y x) (fun M1 => wp scr n mb_164 38 L st M1 Q) := wp_iast rfl
theorem u164_38 : wp scr n mb_164 38 [l0, l1, some (.int x)] st M Q ↔ wp scr n mb_164 41 (mm_sto1 [l0, l1, some (.int x)] 2 (.int (x + 1))) st M Q := wp_step rfl rfl rfl rfl rfl
theorem u164_41 : wp scr n mb_164 41 L st M Q ↔ wp scr n mb_164 21 L st M Q := wp_step rfl rfl rfl rfl rfl
theorem u164_44 : wp scr n mb_164 44 L st M Q ↔ wp scr n mb_164 45 L (.int 0 :: st) M Q := wp_step rfl rfl rfl rfl rfl
theorem u164_45 : wp scr n mb_164 45 [l0, l1, l2] (.int x :: st) M Q ↔ wp scr n mb_164 46 (mm_sto1 [l0, l1, l2] 2 (.int x)) st M Q := wp_step rfl rfl rfl rfl rfl
theorem u164_46 : wp scr n mb_164 46 [l0, l1, some (.int x)] st M Q ↔ wp scr n mb_164 47 [l0, l1, some (.int x)] (.int x :: st) M Q := wp_step rfl rfl rfl rfl rfl
theorem u164_47 : wp scr n mb_164 47 L st M Q ↔ wp scr n mb_164 49 L (.int 10 :: st) M Q := wp_step rfl rfl rfl rfl rfl
theorem u164_49 : wp scr n mb_164 49 L (.int y :: .int x :: st) M Q ↔ (if y ≤ x then wp scr n mb_164 88 L st M Q else wp scr n mb_164 52 L st M Q) := (wp_step rfl rfl rfl rfl rfl).trans wp_ite
theorem u164_52 : wp scr n mb_164 52 [some (.ref a), l1, l2] st M Q ↔ wp scr n mb_164 53 [some (.ref a), l1, l2] (.ref a :: st) M Q := wp_step rfl rfl rfl rfl rfl
theorem u164_53 : wp scr n mb_164 53 L st M Q ↔ wp scr n mb_164 55 L (.int 30 :: st) M Q := wp_step rfl rfl rfl rfl rfl
theorem u164_55 : wp scr n mb_164 55 [l0, l1, some (.int x)] st M Q ↔ wp scr n mb_164 56 [l0, l1, some (.int x)] (.int x :: st) M Q := wp_step rfl rfl rfl rfl rfl
theorem u164_56 : wp scr n mb_164 56 L (.int y :: .int x :: st) M Q ↔ wp scr n mb_164 57 L (.int (x + y) :: st) M Q := wp_step rfl rfl rfl rfl rfl
theorem u164_57 : wp scr n mb_164 57 [some (.ref a), l1, l2] st M Q ↔ wp scr n mb_164 58 [some (.ref a), l1, l2] (.ref a :: st) M Q := wp_step rfl rfl rfl rfl rfl
theorem u164_58 : wp scr n mb_164 58 [l0, some (.int x), l2] st M Q ↔ wp scr n mb_164 59 [l0, some (.int x), l2] (.int x :: st) M Q := wp_step rfl rfl rfl rfl rfl
theorem u164_59 : wp scr n mb_164 59 L st M Q ↔ wp scr n mb_164 61 L (.int 32 :: st) M Q := wp_step rfl rfl rfl rfl rfl
theorem u164_61 : wp scr n mb_164 61 L (.int y :: .int x :: st) M Q ↔ wp scr n mb_164 62 L (.int (x + y) :: st) M Q := wp_step rfl rfl rfl rfl rfl
theorem u164_62 : wp scr n mb_164 62 L (.int y :: o :: st) M Q ↔ mw_o (mm_ld (mc_X scr) M o y) (fun x => wp scr n mb_164 63 L (.int x :: st) M Q) := wp_iald rfl
theorem u164_63 : wp scr n mb_164 63 [l0, l1, some (.int x)] st M Q ↔ wp scr n mb_164 64 [l0, l1, some (.int x)] (.int x :: st) M Q := wp_step rfl rfl rfl rfl rfl
theorem u164_64 : wp scr n mb_164 64 L (.int y :: .int x :: st) M Q ↔ wp scr n mb_164 65 L (.int (x >>> (y &&& 31)) :: st) M Q := wp_step rfl rfl rfl rfl rfl
theorem u164_65 : wp scr n mb_164 65 L st M Q ↔ wp scr n mb_164 66 L (.int 1 :: st) M Q := wp_step rfl rfl rfl rfl rfl
theorem u164_66 : wp scr n mb_164 66 L (.int y :: .int x :: st) M Q ↔ wp scr n mb_164 67 L (.int (x &&& y) :: st) M Q := wp_step rfl rfl rfl rfl rfl
theorem u164_67 : wp scr n mb_164 67 L st M Q ↔ wp scr n mb_164 68 L (.int 1 :: st) M Q := wp_step rfl rfl rfl rfl rfl
theorem u164_68 : wp scr n mb_164 68 L (.int y :: .int x :: st) M Q ↔ (if x = y then wp scr n mb_164 71 L st M Q else wp scr n mb_164 75 L st M Q) := (wp_step rfl rfl rfl rfl rfl).trans wp_iten
theorem u164_71 : wp scr n mb_164 71 L st M Q ↔ wp scr n mb_164 72 L (.int 0 :: st) M Q := wp_step rfl rfl rfl rfl rfl
theorem u164_72 : wp scr n mb_164 72 L st M Q ↔ wp scr n mb_164 81 L st M Q := wp_step rfl rfl rfl rfl rfl
theorem u164_75 : wp scr n mb_164 75 [some (.ref a), l1, l2] st M Q ↔ wp scr n mb_164 76 [some (.ref a), l1, l2] (.ref a :: st) M Q := wp_step rfl rfl rfl rfl rfl
theorem u164_76 : wp scr n mb_164 76 L st M Q ↔ wp scr n mb_164 78 L (.int 30 :: st) M Q := wp_step rfl rfl rfl rfl rfl
theorem u164_78 : wp scr n mb_164 78 [l0, l1, some (.int x)] st M Q ↔ wp scr n mb_164 79 [l0, l1, some (.int x)] (.int x :: st) M Q := wp_step rfl rfl rfl rfl rfl
theorem u164_79 : wp scr n mb_164 79 L (.int y :: .int x :: st) M Q ↔ wp scr n mb_164 80 L (.int (x + y) :: st) M Q := wp_step rfl rfl rfl rfl rfl
theorem u164_80 : wp scr n mb_164 80 L (.int y :: o :: st) M Q ↔ mw_o (mm_ld (mc_X scr) M o y) (fun x => wp scr n mb_164 81 L (.int x :: st) M Q) := wp_iald rfl
theorem u164_81 : wp scr n mb_164 81 L (.int x :: .int y :: o :: st) M Q ↔ mw_o (mm_sti M o y x) (fun M1 => wp scr n mb_164 82 L st M1 Q) := wp_iast rfl
theorem u164_82 : wp scr n mb_164 82 [l0, l1, some (.int x)] st M Q ↔ wp scr n mb_164 85 (mm_sto1 [l0, l1, some (.int x)] 2 (.int (x + 1))) st M Q := wp_step rfl rfl rfl rfl rfl
theorem u164_85 : wp scr n mb_164 85 L st M Q ↔ wp scr n mb_164 46 L st M Q := wp_step rfl rfl rfl rfl rfl
theorem u164_88 : wp scr n mb_164 88 L [] M Q ↔ Q none M := wp_ret rfl rfl
theorem e164 : Wp scr (n + 1) 164 [.ref b1] M Q ↔ wp scr n mb_164 0 [some (.ref b1), none, none] [] M Q := Wp_to rfl rfl rfl
end MU
