section MU
variable {scr : List Int32} {n : Nat} {L : mm_L} {st : List Value} {M : mm_M} {Q : Option Value → mm_M → Prop} {x y : Int32} {z w : Int64} {a : Nat} {o v a1 a2 a3 a4 a5 a6 : Value} {a0 b1 b2 b3 b4 b5 : Nat} {x1 x2 x3 x4 x5 : Int32} {z1 z2 z3 : Int64} {l0 l1 l2 l3 l4 l5 l6 l7 l8 l9 l10 l11 l12 l13 l14 : Option Value}
/-- SmallerInTheShopModel tape (II)I -/
def mb_201 : mw_B := ((Option.some FieldType.int), mp_201)
theorem u201_0 : wp scr n mb_201 0 [some (.ref a), l1, l2, l3, l4, l5, l6] st M Q ↔ wp scr n mb_201 1 [some (.ref a), l1, l2, l3, l4, l5, l6] (.ref a :: st) M Q := wp_step rfl rfl rfl rfl rfl
theorem u201_1 : wp scr n mb_201 1 L (o :: st) M Q ↔ mw_o (mm_fld (mc_X scr) M o 6 0) (fun v => wp scr n mb_201 4 L (v :: st) M Q) := wp_getf rfl
theorem u201_4 : wp scr n mb_201 4 [l0, some (.int x), l2, l3, l4, l5, l6] st M Q ↔ wp scr n mb_201 5 [l0, some (.int x), l2, l3, l4, l5, l6] (.int x :: st) M Q := wp_step rfl rfl rfl rfl rfl
theorem u201_5 : wp scr n mb_201 5 L (a2 :: a1 :: st) M Q ↔ (mw_st st ∧ Wp scr n 150 [a1, a2] M (fun r1 M1 => wp scr n mb_201 8 L (r1.toList ++ st) M1 Q)) := wp_sta rfl rfl rfl rfl
theorem u201_8 : wp scr n mb_201 8 L (.int x :: st) M Q ↔ (if x = 0 then wp scr n mb_201 11 L st M Q else wp scr n mb_201 17 L st M Q) := (wp_step rfl rfl rfl rfl rfl).trans wp_iten
theorem u201_11 : wp scr n mb_201 11 [some (.ref a), l1, l2, l3, l4, l5, l6] st M Q ↔ wp scr n mb_201 12 [some (.ref a), l1, l2, l3, l4, l5, l6] (.ref a :: st) M Q := wp_step rfl rfl rfl rfl rfl
theorem u201_12 : wp scr n mb_201 12 L st M Q ↔ wp scr n mb_201 13 L (.int (-1) :: st) M Q := wp_step rfl rfl rfl rfl rfl
theorem u201_13 : wp scr n mb_201 13 L (a2 :: .ref a :: st) M Q ↔ ((mw_r M a 6 ∧ mw_st st) ∧ Wp scr n 141 [.ref a, a2] M (fun r1 M1 => wp scr n mb_201 16 L (r1.toList ++ st) M1 Q)) := wp_vir rfl rfl rfl rfl rfl
theorem u201_16 : wp scr n mb_201 16 L [.int x] M Q ↔ Q (some (.int x)) M := wp_ret rfl rfl
theorem u201_17 : wp scr n mb_201 17 [l0, l1, some (.int x), l3, l4, l5, l6] st M Q ↔ wp scr n mb_201 18 [l0, l1, some (.int x), l3, l4, l5, l6] (.int x :: st) M Q := wp_step rfl rfl rfl rfl rfl
theorem u201_18 : wp scr n mb_201 18 L (.int x :: st) M Q ↔ wp scr n mb_201 19 L (.long x.toInt64 :: st) M Q := wp_step rfl rfl rfl rfl rfl
theorem u201_19 : wp scr n mb_201 19 L st M Q ↔ wp scr n mb_201 20 L (.long 0 :: st) M Q := wp_step rfl rfl rfl rfl rfl
theorem u201_20 : wp scr n mb_201 20 L st M Q ↔ wp scr n mb_201 23 L (.long (3) :: st) M Q := wp_step rfl rfl rfl rfl rfl
theorem u201_23 : wp scr n mb_201 23 L (a3 :: a2 :: a1 :: st) M Q ↔ (mw_st st ∧ Wp scr n 146 [a1, a2, a3] M (fun r1 M1 => wp scr n mb_201 26 L (r1.toList ++ st) M1 Q)) := wp_sta rfl rfl rfl rfl
theorem u201_26 : wp scr n mb_201 26 L (.int x :: st) M Q ↔ (if x = 0 then wp scr n mb_201 29 L st M Q else wp scr n mb_201 36 L st M Q) := (wp_step rfl rfl rfl rfl rfl).trans wp_iten
theorem u201_29 : wp scr n mb_201 29 [some (.ref a), l1, l2, l3, l4, l5, l6] st M Q ↔ wp scr n mb_201 30 [some (.ref a), l1, l2, l3, l4, l5, l6] (.ref a :: st) M Q := wp_step rfl rfl rfl rfl rfl
theorem u201_30 : wp scr n mb_201 30 L st M Q ↔ wp scr n mb_201 32 L (.int (-2) :: st) M Q := wp_step rfl rfl rfl rfl rfl
theorem u201_32 : wp scr n mb_201 32 L (a2 :: .ref a :: st) M Q ↔ ((mw_r M a 6 ∧ mw_st st) ∧ Wp scr n 141 [.ref a, a2] M (fun r1 M1 => wp scr n mb_201 35 L (r1.toList ++ st) M1 Q)) := wp_vir rfl rfl rfl rfl rfl
theorem u201_35 : wp scr n mb_201 35 L [.int x] M Q ↔ Q (some (.int x)) M := wp_ret rfl rfl
theorem u201_36 : wp scr n mb_201 36 [some (.ref a), l1, l2, l3, l4, l5, l6] st M Q ↔ wp scr n mb_201 37 [some (.ref a), l1, l2, l3, l4, l5, l6] (.ref a :: st) M Q := wp_step rfl rfl rfl rfl rfl
theorem u201_37 : wp scr n mb_201 37 L (o :: st) M Q ↔ mw_o (mm_fld (mc_X scr) M o 6 0) (fun v => wp scr n mb_201 40 L (v :: st) M Q) := wp_getf rfl
theorem u201_40 : wp scr n mb_201 40 [some (.ref a), l1, l2, l3, l4, l5, l6] st M Q ↔ wp scr n mb_201 41 [some (.ref a), l1, l2, l3, l4, l5, l6] (.ref a :: st) M Q := wp_step rfl rfl rfl rfl rfl
theorem u201_41 : wp scr n mb_201 41 L (o :: st) M Q ↔ mw_o (mm_fld (mc_X scr) M o 6 2) (fun v => wp scr n mb_201 44 L (v :: st) M Q) := wp_getf rfl
theorem u201_44 : wp scr n mb_201 44 L st M Q ↔ wp scr n mb_201 45 L (.int 1 :: st) M Q := wp_step rfl rfl rfl rfl rfl
theorem u201_45 : wp scr n mb_201 45 L (.int y :: .ref a :: st) M Q ↔ mw_o (mm_lda M a y) (fun v => wp scr n mb_201 46 L (v :: st) M Q) := wp_aald rfl
theorem u201_46 : wp scr n mb_201 46 L (a2 :: a1 :: st) M Q ↔ (mw_st st ∧ Wp scr n 147 [a1, a2] M (fun r1 M1 => wp scr n mb_201 49 L (r1.toList ++ st) M1 Q)) := wp_sta rfl rfl rfl rfl
theorem u201_49 : wp scr n mb_201 49 L st M Q ↔ wp scr n mb_201 51 L (.int (-9) :: st) M Q := wp_step rfl rfl rfl rfl rfl
theorem u201_51 : wp scr n mb_201 51 [l0, l1, l2, l3, l4, l5, l6] (.int x :: st) M Q ↔ wp scr n mb_201 52 (mm_sto1 [l0, l1, l2, l3, l4, l5, l6] 3 (.int x)) st M Q := wp_step rfl rfl rfl rfl rfl
theorem u201_52 : wp scr n mb_201 52 [some (.ref a), l1, l2, l3, l4, l5, l6] st M Q ↔ wp scr n mb_201 53 [some (.ref a), l1, l2, l3, l4, l5, l6] (.ref a :: st) M Q := wp_step rfl rfl rfl rfl rfl
theorem u201_53 : wp scr n mb_201 53 [l0, some (.int x), l2, l3, l4, l5, l6] st M Q ↔ wp scr n mb_201 54 [l0, some (.int x), l2, l3, l4, l5, l6] (.int x :: st) M Q := wp_step rfl rfl rfl rfl rfl
theorem u201_54 : wp scr n mb_201 54 [l0, l1, some (.int x), l3, l4, l5, l6] st M Q ↔ wp scr n mb_201 55 [l0, l1, some (.int x), l3, l4, l5, l6] (.int x :: st) M Q := wp_step rfl rfl rfl rfl rfl
theorem u201_55 : wp scr n mb_201 55 L (a3 :: a2 :: .ref a :: st) M Q ↔ ((mw_r M a 6 ∧ mw_st st) ∧ Wp scr n 198 [.ref a, a2, a3] M (fun r1 M1 => wp scr n mb_201 58 L (r1.toList ++ st) M1 Q)) := wp_vir rfl rfl rfl rfl rfl
theorem u201_58 : wp scr n mb_201 58 [l0, l1, l2, l3, l4, l5, l6] (.int x :: st) M Q ↔ wp scr n mb_201 60 (mm_sto1 [l0, l1, l2, l3, l4, l5, l6] 4 (.int x)) st M Q := wp_step rfl rfl rfl rfl rfl
theorem u201_60 : wp scr n mb_201 60 L st M Q ↔ wp scr n mb_201 61 L (.int 0 :: st) M Q := wp_step rfl rfl rfl rfl rfl
theorem u201_61 : wp scr n mb_201 61 [l0, l1, l2, l3, l4, l5, l6] (.int x :: st) M Q ↔ wp scr n mb_201 63 (mm_sto1 [l0, l1, l2, l3, l4, l5, l6] 5 (.int x)) st M Q := wp_step rfl rfl rfl rfl rfl
theorem u201_63 : wp scr n mb_201 63 [l0, l1, l2, l3, l4, some (.int x), l6] st M Q ↔ wp scr n mb_201 65 [l0, l1, l2, l3, l4, some (.int x), l6] (.int x :: st) M Q := wp_step rfl rfl rfl rfl rfl
theorem u201_65 : wp scr n mb_201 65 L st M Q ↔ wp scr n mb_201 67 L (.int 10 :: st) M Q := wp_step rfl rfl rfl rfl rfl
theorem u201_67 : wp scr n mb_201 67 L (.int y :: .int x :: st) M Q ↔ (if y ≤ x then wp scr n mb_201 132 L st M Q else wp scr n mb_201 70 L st M Q) := (wp_step rfl rfl rfl rfl rfl).trans wp_ite
theorem u201_70 : wp scr n mb_201 70 [some (.ref a), l1, l2, l3, l4, l5, l6] st M Q ↔ wp scr n mb_201 71 [some (.ref a), l1, l2, l3, l4, l5, l6] (.ref a :: st) M Q := wp_step rfl rfl rfl rfl rfl
theorem u201_71 : wp scr n mb_201 71 L (o :: st) M Q ↔ mw_o (mm_fld (mc_X scr) M o 6 0) (fun v => wp scr n mb_201 74 L (v :: st) M Q) := wp_getf rfl
theorem u201_74 : wp scr n mb_201 74 [some (.ref a), l1, l2, l3, l4, l5, l6] st M Q ↔ wp scr n mb_201 75 [some (.ref a), l1, l2, l3, l4, l5, l6] (.ref a :: st) M Q := wp_step rfl rfl rfl rfl rfl
theorem u201_75 : wp scr n mb_201 75 L (o :: st) M Q ↔ mw_o (mm_fld (mc_X scr) M o 6 2) (fun v => wp scr n mb_201 78 L (v :: st) M Q) := wp_getf rfl
theorem u201_78 : wp scr n mb_201 78 L st M Q ↔ wp scr n mb_201 79 L (.int 1 :: st) M Q := wp_step rfl rfl rfl rfl rfl
theorem u201_79 : wp scr n mb_201 79 L (.int y :: .ref a :: st) M Q ↔ mw_o (mm_lda M a y) (fun v => wp scr n mb_201 80 L (v :: st) M Q) := wp_aald rfl
theorem u201_80 : wp scr n mb_201 80 L (a2 :: a1 :: st) M Q ↔ (mw_st st ∧ Wp scr n 147 [a1, a2] M (fun r1 M1 => wp scr n mb_201 83 L (r1.toList ++ st) M1 Q)) := wp_sta rfl rfl rfl rfl
theorem u201_83 : wp scr n mb_201 83 [some (.ref a), l1, l2, l3, l4, l5, l6] st M Q ↔ wp scr n mb_201 84 [some (.ref a), l1, l2, l3, l4, l5, l6] (.ref a :: st) M Q := wp_step rfl rfl rfl rfl rfl
theorem u201_84 : wp scr n mb_201 84 L (o :: st) M Q ↔ mw_o (mm_fld (mc_X scr) M o 6 2) (fun v => wp scr n mb_201 87 L (v :: st) M Q) := wp_getf rfl
theorem u201_87 : wp scr n mb_201 87 L st M Q ↔ wp scr n mb_201 88 L (.int 1 :: st) M Q := wp_step rfl rfl rfl rfl rfl
theorem u201_88 : wp scr n mb_201 88 L (.int y :: .ref a :: st) M Q ↔ mw_o (mm_lda M a y) (fun v => wp scr n mb_201 89 L (v :: st) M Q) := wp_aald rfl
theorem u201_89 : wp scr n mb_201 89 L st M Q ↔ wp scr n mb_201 90 L (.int 0 :: st) M Q := wp_step rfl rfl rfl rfl rfl
theorem u201_90 : wp scr n mb_201 90 [l0, l1, l2, l3, l4, some (.int x), l6] st M Q ↔ wp scr n mb_201 92 [l0, l1, l2, l3, l4, some (.int x), l6] (.int x :: st) M Q := wp_step rfl rfl rfl rfl rfl
theorem u201_92 : wp scr n mb_201 92 L (.int y :: .int x :: st) M Q ↔ wp scr n mb_201 93 L (.int (x + y) :: st) M Q := wp_step rfl rfl rfl rfl rfl
theorem u201_93 : wp scr n mb_201 93 L st M Q ↔ wp scr n mb_201 94 L (.int 4 :: st) M Q := wp_step rfl rfl rfl rfl rfl
theorem u201_94 : wp scr n mb_201 94 L (.int x :: .int y :: o :: st) M Q ↔ mw_o (mm_sti M o y x) (fun M1 => wp scr n mb_201 95 L st M1 Q) := wp_iast rfl
theorem u201_95 : wp scr n mb_201 95 [some (.ref a), l1, l2, l3, l4, l5, l6] st M Q ↔ wp scr n mb_201 96 [some (.ref a), l1, l2, l3, l4, l5, l6] (.ref a :: st) M Q := wp_step rfl rfl rfl rfl rfl
theorem u201_96 : wp scr n mb_201 96 [l0, some (.int x), l2, l3, l4, l5, l6] st M Q ↔ wp scr n mb_201 97 [l0, some (.int x), l2, l3, l4, l5, l6] (.int x :: st) M Q := wp_step rfl rfl rfl rfl rfl
theorem u201_97 : wp scr n mb_201 97 [l0, l1, some (.int x), l3, l4, l5, l6] st M Q ↔ wp scr n mb_201 98 [l0, l1, some (.int x), l3, l4, l5, l6] (.int x :: st) M Q := wp_step rfl rfl rfl rfl rfl
theorem u201_98 : wp scr n mb_201 98 L (a3 :: a2 :: .ref a :: st) M Q ↔ ((mw_r M a 6 ∧ mw_st st) ∧ Wp scr n 198 [.ref a, a2, a3] M (fun r1 M1 => wp scr n mb_201 101 L (r1.toList ++ st) M1 Q)) := wp_vir rfl rfl rfl rfl rfl
theorem u201_101 : wp scr n mb_201 101 [l0, l1, l2, l3, l4, l5, l6] (.int x :: st) M Q ↔ wp scr n mb_201 103 (mm_sto1 [l0, l1, l2, l3, l4, l5, l6] 6 (.int x)) st M Q := wp_step rfl rfl rfl rfl rfl
theorem u201_103 : wp scr n mb_201 103 [l0, l1, l2, l3, l4, l5, some (.int x)] st M Q ↔ wp scr n mb_201 105 [l0, l1, l2, l3, l4, l5, some (.int x)] (.int x :: st) M Q := wp_step rfl rfl rfl rfl rfl
theorem u201_105 : wp scr n mb_201 105 [l0, l1, l2, l3, some (.int x), l5, l6] st M Q ↔ wp scr n mb_201 107 [l0, l1, l2, l3, some (.int x), l5, l6] (.int x :: st) M Q := wp_step rfl rfl rfl rfl rfl
theorem u201_107 : wp scr n mb_201 107 L (.int y :: .int x :: st) M Q ↔ (if x ≤ y then wp scr n mb_201 115 L st M Q else wp scr n mb_201 110 L st M Q) := (wp_step rfl rfl rfl rfl rfl).trans wp_ite
theorem u201_110 : wp scr n mb_201 110 [l0, l1, l2, l3, l4, some (.int x), l6] st M Q ↔ wp scr n mb_201 112 [l0, l1, l2, l3, l4, some (.int x), l6] (.int x :: st) M Q := wp_step rfl rfl rfl rfl rfl
theorem u201_112 : wp scr n mb_201 112 L st M Q ↔ wp scr n mb_201 116 L st M Q := wp_step rfl rfl rfl rfl rfl
theorem u201_115 : wp scr n mb_201 115 [l0, l1, l2, some (.int x), l4, l5, l6] st M Q ↔ wp scr n mb_201 116 [l0, l1, l2, some (.int x), l4, l5, l6] (.int x :: st) M Q := wp_step rfl rfl rfl rfl rfl
theorem u201_116 : wp scr n mb_201 116 [l0, l1, l2, l3, l4, l5, l6] (.int x :: st) M Q ↔ wp scr n mb_201 117 (mm_sto1 [l0, l1, l2, l3, l4, l5, l6] 3 (.int x)) st M Q := wp_step rfl rfl rfl rfl rfl
theorem u201_117 : wp scr n mb_201 117 [l0, l1, l2, l3, some (.int x), l5, l6] st M Q ↔ wp scr n mb_201 119 [l0, l1, l2, l3, some (.int x), l5, l6] (.int x :: st) M Q := wp_step rfl rfl rfl rfl rfl
theorem u201_119 : wp scr n mb_201 119 [l0, l1, l2, l3, l4, l5, some (.int x)] st M Q ↔ wp scr n mb_201 121 [l0, l1, l2, l3, l4, l5, some (.int x)] (.int x :: st) M Q := wp_step rfl rfl rfl rfl rfl
theorem u201_121 : wp scr n mb_201 121 L (.int y :: .int x :: st) M Q ↔ (mw_st st ∧ wp scr n mb_201 124 L (.int (if x < y then y else x) :: st) M Q) := wp_math997 rfl
theorem u201_124 : wp scr n mb_201 124 [l0, l1, l2, l3, l4, l5, l6] (.int x :: st) M Q ↔ wp scr n mb_201 126 (mm_sto1 [l0, l1, l2, l3, l4, l5, l6] 4 (.int x)) st M Q := wp_step rfl rfl rfl rfl rfl
theorem u201_126 : wp scr n mb_201 126 [l0, l1, l2, l3, l4, some (.int x), l6] st M Q ↔ wp scr n mb_201 129 (mm_sto1 [l0, l1, l2, l3, l4, some (.int x), l6] 5 (.int (x + 1))) st M Q := wp_step rfl rfl rfl rfl rfl
theorem u201_129 : wp scr n mb_201 129 L st M Q ↔ wp scr n mb_201 63 L st M Q := wp_step rfl rfl rfl rfl rfl
theorem u201_132 : wp scr n mb_201 132 [l0, l1, l2, some (.int x), l4, l5, l6] st M Q ↔ wp scr n mb_201 133 [l0, l1, l2, some (.int x), l4, l5, l6] (.int x :: st) M Q := wp_step rfl rfl rfl rfl rfl
theorem u201_133 : wp scr n mb_201 133 L [.int x] M Q ↔ Q (some (.int x)) M := wp_ret rfl rfl
theorem e201 : Wp scr (n + 1) 201 [.ref a0, .int x1, .int x2] M Q ↔ wp scr n mb_201 0 [some (.ref a0), some (.int x1), some (.int x2), none, none, none, none] [] M Q := Wp_to rfl rfl rfl
/-- SmallerInTheShopModel first (IIII)I -/
def mb_202 : mw_B := ((Option.some FieldType.int), mp_202)
theorem u202_0 : wp scr n mb_202 0 [l0, some (.int x), l2, l3, l4, l5, l6] st M Q ↔ wp scr n mb_202 1 [l0, some (.int x), l2, l3, l4, l5, l6] (.int x :: st) M Q := wp_step rfl rfl rfl rfl rfl
theorem u202_1 : wp scr n mb_202 1 L (.int x :: st) M Q ↔ wp scr n mb_202 2 L (.long x.toInt64 :: st) M Q := wp_step rfl rfl rfl rfl rfl
theorem u202_2 : wp scr n mb_202 2 L st M Q ↔ wp scr n mb_202 3 L (.long 1 :: st) M Q := wp_step rfl rfl rfl rfl rfl
theorem u202_3 : wp scr n mb_202 3 L st M Q ↔ wp scr n mb_202 6 L (.long (4) :: st) M Q := wp_step rfl rfl rfl rfl rfl
theorem u202_6 : wp scr n mb_202 6 L (a3 :: a2 :: a1 :: st) M Q ↔ (mw_st st ∧ Wp scr n 146 [a1, a2, a3] M (fun r1 M1 => wp scr n mb_202 9 L (r1.toList ++ st) M1 Q)) := wp_sta rfl rfl rfl rfl
theorem u202_9 : wp scr n mb_202 9 L (.int x :: st) M Q ↔ (if x = 0 then wp scr n mb_202 24 L st M Q else wp scr n mb_202 12 L st M Q) := (wp_step rfl rfl rfl rfl rfl).trans wp_ite
theorem u202_12 : wp scr n mb_202 12 [l0, l1, l2, some (.int x), l4, l5, l6] st M Q ↔ wp scr n mb_202 13 [l0, l1, l2, some (.int x), l4, l5, l6] (.int x :: st) M Q := wp_step rfl rfl rfl rfl rfl
theorem u202_13 : wp scr n mb_202 13 L (.int x :: st) M Q ↔ wp scr n mb_202 14 L (.long x.toInt64 :: st) M Q := wp_step rfl rfl rfl rfl rfl
theorem u202_14 : wp scr n mb_202 14 L st M Q ↔ wp scr n mb_202 15 L (.long 1 :: st) M Q := wp_step rfl rfl rfl rfl rfl
theorem u202_15 : wp scr n mb_202 15 L st M Q ↔ wp scr n mb_202 18 L (.long (4) :: st) M Q := wp_step rfl rfl rfl rfl rfl
theorem u202_18 : wp scr n mb_202 18 L (a3 :: a2 :: a1 :: st) M Q ↔ (mw_st st ∧ Wp scr n 146 [a1, a2, a3] M (fun r1 M1 => wp scr n mb_202 21 L (r1.toList ++ st) M1 Q)) := wp_sta rfl rfl rfl rfl
theorem u202_21 : wp scr n mb_202 21 L (.int x :: st) M Q ↔ (if x = 0 then wp scr n mb_202 24 L st M Q else wp scr n mb_202 30 L st M Q) := (wp_step rfl rfl rfl rfl rfl).trans wp_iten
theorem u202_24 : wp scr n mb_202 24 [some (.ref a), l1, l2, l3, l4, l5, l6] st M Q ↔ wp scr n mb_202 25 [some (.ref a), l1, l2, l3, l4, l5, l6] (.ref a :: st) M Q := wp_step rfl rfl rfl rfl rfl
theorem u202_25 : wp scr n mb_202 25 L st M Q ↔ wp scr n mb_202 26 L (.int (-1) :: st) M Q := wp_step rfl rfl rfl rfl rfl
theorem u202_26 : wp scr n mb_202 26 L (a2 :: .ref a :: st) M Q ↔ ((mw_r M a 6 ∧ mw_st st) ∧ Wp scr n 141 [.ref a, a2] M (fun r1 M1 => wp scr n mb_202 29 L (r1.toList ++ st) M1 Q)) := wp_vir rfl rfl rfl rfl rfl
theorem u202_29 : wp scr n mb_202 29 L [.int x] M Q ↔ Q (some (.int x)) M := wp_ret rfl rfl
theorem u202_30 : wp scr n mb_202 30 [l0, l1, some (.int x), l3, l4, l5, l6] st M Q ↔ wp scr n mb_202 31 [l0, l1, some (.int x), l3, l4, l5, l6] (.int x :: st) M Q := wp_step rfl rfl rfl rfl rfl
theorem u202_31 : wp scr n mb_202 31 L (.int x :: st) M Q ↔ wp scr n mb_202 32 L (.long x.toInt64 :: st) M Q := wp_step rfl rfl rfl rfl rfl
theorem u202_32 : wp scr n mb_202 32 L st M Q ↔ wp scr n mb_202 33 L (.long 0 :: st) M Q := wp_step rfl rfl rfl rfl rfl
theorem u202_33 : wp scr n mb_202 33 L st M Q ↔ wp scr n mb_202 36 L (.long (3) :: st) M Q := wp_step rfl rfl rfl rfl rfl
theorem u202_36 : wp scr n mb_202 36 L (a3 :: a2 :: a1 :: st) M Q ↔ (mw_st st ∧ Wp scr n 146 [a1, a2, a3] M (fun r1 M1 => wp scr n mb_202 39 L (r1.toList ++ st) M1 Q)) := wp_sta rfl rfl rfl rfl
theorem u202_39 : wp scr n mb_202 39 L (.int x :: st) M Q ↔ (if x = 0 then wp scr n mb_202 55 L st M Q else wp scr n mb_202 42 L st M Q) := (wp_step rfl rfl rfl rfl rfl).trans wp_ite
theorem u202_42 : wp scr n mb_202 42 [l0, l1, l2, l3, some (.int x), l5, l6] st M Q ↔ wp scr n mb_202 44 [l0, l1, l2, l3, some (.int x), l5, l6] (.int x :: st) M Q := wp_step rfl rfl rfl rfl rfl
theorem u202_44 : wp scr n mb_202 44 L (.int x :: st) M Q ↔ wp scr n mb_202 45 L (.long x.toInt64 :: st) M Q := wp_step rfl rfl rfl rfl rfl
theorem u202_45 : wp scr n mb_202 45 L st M Q ↔ wp scr n mb_202 46 L (.long 0 :: st) M Q := wp_step rfl rfl rfl rfl rfl
theorem u202_46 : wp scr n mb_202 46 L st M Q ↔ wp scr n mb_202 49 L (.long (3) :: st) M Q := wp_step rfl rfl rfl rfl rfl
theorem u202_49 : wp scr n mb_202 49 L (a3 :: a2 :: a1 :: st) M Q ↔ (mw_st st ∧ Wp scr n 146 [a1, a2, a3] M (fun r1 M1 => wp scr n mb_202 52 L (r1.toList ++ st) M1 Q)) := wp_sta rfl rfl rfl rfl
theorem u202_52 : wp scr n mb_202 52 L (.int x :: st) M Q ↔ (if x = 0 then wp scr n mb_202 55 L st M Q else wp scr n mb_202 62 L st M Q) := (wp_step rfl rfl rfl rfl rfl).trans wp_iten
theorem u202_55 : wp scr n mb_202 55 [some (.ref a), l1, l2, l3, l4, l5, l6] st M Q ↔ wp scr n mb_202 56 [some (.ref a), l1, l2, l3, l4, l5, l6] (.ref a :: st) M Q := wp_step rfl rfl rfl rfl rfl
theorem u202_56 : wp scr n mb_202 56 L st M Q ↔ wp scr n mb_202 58 L (.int (-2) :: st) M Q := wp_step rfl rfl rfl rfl rfl
theorem u202_58 : wp scr n mb_202 58 L (a2 :: .ref a :: st) M Q ↔ ((mw_r M a 6 ∧ mw_st st) ∧ Wp scr n 141 [.ref a, a2] M (fun r1 M1 => wp scr n mb_202 61 L (r1.toList ++ st) M1 Q)) := wp_vir rfl rfl rfl rfl rfl
theorem u202_61 : wp scr n mb_202 61 L [.int x] M Q ↔ Q (some (.int x)) M := wp_ret rfl rfl
theorem u202_62 : wp scr n mb_202 62 [some (.ref a), l1, l2, l3, l4, l5, l6] st M Q ↔ wp scr n mb_202 63 [some (.ref a), l1, l2, l3, l4, l5, l6] (.ref a :: st) M Q := wp_step rfl rfl rfl rfl rfl
theorem u202_63 : wp scr n mb_202 63 [l0, some (.int x), l2, l3, l4, l5, l6] st M Q ↔ wp scr n mb_202 64 [l0, some (.int x), l2, l3, l4, l5, l6] (.int x :: st) M Q := wp_step rfl rfl rfl rfl rfl
theorem u202_64 : wp scr n mb_202 64 [l0, l1, some (.int x), l3, l4, l5, l6] st M Q ↔ wp scr n mb_202 65 [l0, l1, some (.int x), l3, l4, l5, l6] (.int x :: st) M Q := wp_step rfl rfl rfl rfl rfl
theorem u202_65 : wp scr n mb_202 65 [l0, l1, l2, some (.int x), l4, l5, l6] st M Q ↔ wp scr n mb_202 66 [l0, l1, l2, some (.int x), l4, l5, l6] (.int x :: st) M Q := wp_step rfl rfl rfl rfl rfl
theorem u202_66 : wp scr n mb_202 66 [l0, l1, l2, l3, some (.int x), l5, l6] st M Q ↔ wp scr n mb_202 68 [l0, l1, l2, l3, some (.int x), l5, l6] (.int x :: st) M Q := wp_step rfl rfl rfl rfl rfl
theorem u202_68 : wp scr n mb_202 68 L (a5 :: a4 :: a3 :: a2 :: .ref a :: st) M Q ↔ ((mw_r M a 6 ∧ mw_st st) ∧ Wp scr n 203 [.ref a, a2, a3, a4, a5] M (fun r1 M1 => wp scr n mb_202 71 L (r1.toList ++ st) M1 Q)) := wp_vir rfl rfl rfl rfl rfl
theorem u202_71 : wp scr n mb_202 71 [l0, l1, l2, l3, l4, l5, l6] (.int x :: st) M Q ↔ wp scr n mb_202 73 (mm_sto1 [l0, l1, l2, l3, l4, l5, l6] 5 (.int x)) st M Q := wp_step rfl rfl rfl rfl rfl
theorem u202_73 : wp scr n mb_202 73 [some (.ref a), l1, l2, l3, l4, l5, l6] st M Q ↔ wp scr n mb_202 74 [some (.ref a), l1, l2, l3, l4, l5, l6] (.ref a :: st) M Q := wp_step rfl rfl rfl rfl rfl
theorem u202_74 : wp scr n mb_202 74 [l0, l1, l2, some (.int x), l4, l5, l6] st M Q ↔ wp scr n mb_202 75 [l0, l1, l2, some (.int x), l4, l5, l6] (.int x :: st) M Q := wp_step rfl rfl rfl rfl rfl
theorem u202_75 : wp scr n mb_202 75 [l0, l1, l2, l3, some (.int x), l5, l6] st M Q ↔ wp scr n mb_202 77 [l0, l1, l2, l3, some (.int x), l5, l6] (.int x :: st) M Q := wp_step rfl rfl rfl rfl rfl
theorem u202_77 : wp scr n mb_202 77 [l0, some (.int x), l2, l3, l4, l5, l6] st M Q ↔ wp scr n mb_202 78 [l0, some (.int x), l2, l3, l4, l5, l6] (.int x :: st) M Q := wp_step rfl rfl rfl rfl rfl
theorem u202_78 : wp scr n mb_202 78 [l0, l1, some (.int x), l3, l4, l5, l6] st M Q ↔ wp scr n mb_202 79 [l0, l1, some (.int x), l3, l4, l5, l6] (.int x :: st) M Q := wp_step rfl rfl rfl rfl rfl
theorem u202_79 : wp scr n mb_202 79 L (a5 :: a4 :: a3 :: a2 :: .ref a :: st) M Q ↔ ((mw_r M a 6 ∧ mw_st st) ∧ Wp scr n 203 [.ref a, a2, a3, a4, a5] M (fun r1 M1 => wp scr n mb_202 82 L (r1.toList ++ st) M1 Q)) := wp_vir rfl rfl rfl rfl rfl
theorem u202_82 : wp scr n mb_202 82 [l0, l1, l2, l3, l4, l5, l6] (.int x :: st) M Q ↔ wp scr n mb_202 84 (mm_sto1 [l0, l1, l2, l3, l4, l5, l6] 6 (.int x)) st M Q := wp_step rfl rfl rfl rfl rfl
theorem u202_84 : wp scr n mb_202 84 [l0, l1, l2, l3, l4, some (.int x), l6] st M Q ↔ wp scr n mb_202 86 [l0, l1, l2, l3, l4, some (.int x), l6] (.int x :: st) M Q := wp_step rfl rfl rfl rfl rfl
theorem u202_86 : wp scr n mb_202 86 [l0, l1, l2, l3, l4, l5, some (.int x)] st M Q ↔ wp scr n mb_202 88 [l0, l1, l2, l3, l4, l5, some (.int x)] (.int x :: st) M Q := wp_step rfl rfl rfl rfl rfl
theorem u202_88 : wp scr n mb_202 88 L (.int y :: .int x :: st) M Q ↔ (if x = y then wp scr n mb_202 91 L st M Q else wp scr n mb_202 94 L st M Q) := (wp_step rfl rfl rfl rfl rfl).trans wp_iten
theorem u202_91 : wp scr n mb_202 91 L st M Q ↔ wp scr n mb_202 93 L (.int (-9) :: st) M Q := wp_step rfl rfl rfl rfl rfl
theorem u202_93 : wp scr n mb_202 93 L [.int x] M Q ↔ Q (some (.int x)) M := wp_ret rfl rfl
theorem u202_94 : wp scr n mb_202 94 [l0, l1, l2, l3, l4, l5, some (.int x)] st M Q ↔ wp scr n mb_202 96 [l0, l1, l2, l3, l4, l5, some (.int x)] (.int x :: st) M Q := wp_step rfl rfl rfl rfl rfl
theorem u202_96 : wp scr n mb_202 96 L st M Q ↔ wp scr n mb_202 98 L (.int (-9) :: st) M Q := wp_step rfl rfl rfl rfl rfl
theorem u202_98 : wp scr n mb_202 98 L (.int y :: .int x :: st) M Q ↔ (if x = y then wp scr n mb_202 115 L st M Q else wp scr n mb_202 101 L st M Q) := (wp_step rfl rfl rfl rfl rfl).trans wp_ite
theorem u202_101 : wp scr n mb_202 101 [l0, l1, l2, l3, l4, some (.int x), l6] st M Q ↔ wp scr n mb_202 103 [l0, l1, l2, l3, l4, some (.int x), l6] (.int x :: st) M Q := wp_step rfl rfl rfl rfl rfl
theorem u202_103 : wp scr n mb_202 103 L st M Q ↔ wp scr n mb_202 105 L (.int (-9) :: st) M Q := wp_step rfl rfl rfl rfl rfl
theorem u202_105 : wp scr n mb_202 105 L (.int y :: .int x :: st) M Q ↔ (if x = y then wp scr n mb_202 119 L st M Q else wp scr n mb_202 108 L st M Q) := (wp_step rfl rfl rfl rfl rfl).trans wp_ite
theorem u202_108 : wp scr n mb_202 108 [l0, l1, l2, l3, l4, some (.int x), l6] st M Q ↔ wp scr n mb_202 110 [l0, l1, l2, l3, l4, some (.int x), l6] (.int x :: st) M Q := wp_step rfl rfl rfl rfl rfl
theorem u202_110 : wp scr n mb_202 110 [l0, l1, l2, l3, l4, l5, some (.int x)] st M Q ↔ wp scr n mb_202 112 [l0, l1, l2, l3, l4, l5, some (.int x)] (.int x :: st) M Q := wp_step rfl rfl rfl rfl rfl
theorem u202_112 : wp scr n mb_202 112 L (.int y :: .int x :: st) M Q ↔ (if y ≤ x then wp scr n mb_202 119 L st M Q else wp scr n mb_202 115 L st M Q) := (wp_step rfl rfl rfl rfl rfl).trans wp_ite
theorem u202_115 : wp scr n mb_202 115 L st M Q ↔ wp scr n mb_202 116 L (.int 0 :: st) M Q := wp_step rfl rfl rfl rfl rfl
theorem u202_116 : wp scr n mb_202 116 L st M Q ↔ wp scr n mb_202 120 L st M Q := wp_step rfl rfl rfl rfl rfl
theorem u202_119 : wp scr n mb_202 119 L st M Q ↔ wp scr n mb_202 120 L (.int 1 :: st) M Q := wp_step rfl rfl rfl rfl rfl
theorem u202_120 : wp scr n mb_202 120 L [.int x] M Q ↔ Q (some (.int x)) M := wp_ret rfl rfl
theorem e202 : Wp scr (n + 1) 202 [.ref a0, .int x1, .int x2, .int x3, .int x4] M Q ↔ wp scr n mb_202 0 [some (.ref a0), some (.int x1), some (.int x2), some (.int x3), some (.int x4), none, none] [] M Q := Wp_to rfl rfl rfl
/-- SmallerInTheShopModel both (IIII)I -/
def mb_203 : mw_B := ((Option.some FieldType.int), mp_203)
theorem u203_0 : wp scr n mb_203 0 [some (.ref a), l1, l2, l3, l4, l5] st M Q ↔ wp scr n mb_203 1 [some (.ref a), l1, l2, l3, l4, l5] (.ref a :: st) M Q := wp_step rfl rfl rfl rfl rfl
theorem u203_1 : wp scr n mb_203 1 L (o :: st) M Q ↔ mw_o (mm_fld (mc_X scr) M o 6 0) (fun v => wp scr n mb_203 4 L (v :: st) M Q) := wp_getf rfl
theorem u203_4 : wp scr n mb_203 4 [l0, some (.int x), l2, l3, l4, l5] st M Q ↔ wp scr n mb_203 5 [l0, some (.int x), l2, l3, l4, l5] (.int x :: st) M Q := wp_step rfl rfl rfl rfl rfl
theorem u203_5 : wp scr n mb_203 5 L (a2 :: a1 :: st) M Q ↔ (mw_st st ∧ Wp scr n 150 [a1, a2] M (fun r1 M1 => wp scr n mb_203 8 L (r1.toList ++ st) M1 Q)) := wp_sta rfl rfl rfl rfl
theorem u203_8 : wp scr n mb_203 8 L (.int x :: st) M Q ↔ (if x = 0 then wp scr n mb_203 11 L st M Q else wp scr n mb_203 14 L st M Q) := (wp_step rfl rfl rfl rfl rfl).trans wp_iten
theorem u203_11 : wp scr n mb_203 11 L st M Q ↔ wp scr n mb_203 13 L (.int (-9) :: st) M Q := wp_step rfl rfl rfl rfl rfl
theorem u203_13 : wp scr n mb_203 13 L [.int x] M Q ↔ Q (some (.int x)) M := wp_ret rfl rfl
theorem u203_14 : wp scr n mb_203 14 [some (.ref a), l1, l2, l3, l4, l5] st M Q ↔ wp scr n mb_203 15 [some (.ref a), l1, l2, l3, l4, l5] (.ref a :: st) M Q := wp_step rfl rfl rfl rfl rfl
theorem u203_15 : wp scr n mb_203 15 L (o :: st) M Q ↔ mw_o (mm_fld (mc_X scr) M o 6 0) (fun v => wp scr n mb_203 18 L (v :: st) M Q) := wp_getf rfl
theorem u203_18 : wp scr n mb_203 18 [some (.ref a), l1, l2, l3, l4, l5] st M Q ↔ wp scr n mb_203 19 [some (.ref a), l1, l2, l3, l4, l5] (.ref a :: st) M Q := wp_step rfl rfl rfl rfl rfl
theorem u203_19 : wp scr n mb_203 19 L (o :: st) M Q ↔ mw_o (mm_fld (mc_X scr) M o 6 2) (fun v => wp scr n mb_203 22 L (v :: st) M Q) := wp_getf rfl
theorem u203_22 : wp scr n mb_203 22 L st M Q ↔ wp scr n mb_203 23 L (.int 0 :: st) M Q := wp_step rfl rfl rfl rfl rfl
theorem u203_23 : wp scr n mb_203 23 L (.int y :: .ref a :: st) M Q ↔ mw_o (mm_lda M a y) (fun v => wp scr n mb_203 24 L (v :: st) M Q) := wp_aald rfl
theorem u203_24 : wp scr n mb_203 24 L (a2 :: a1 :: st) M Q ↔ (mw_st st ∧ Wp scr n 147 [a1, a2] M (fun r1 M1 => wp scr n mb_203 27 L (r1.toList ++ st) M1 Q)) := wp_sta rfl rfl rfl rfl
theorem u203_27 : wp scr n mb_203 27 [some (.ref a), l1, l2, l3, l4, l5] st M Q ↔ wp scr n mb_203 28 [some (.ref a), l1, l2, l3, l4, l5] (.ref a :: st) M Q := wp_step rfl rfl rfl rfl rfl
theorem u203_28 : wp scr n mb_203 28 [some (.ref a), l1, l2, l3, l4, l5] st M Q ↔ wp scr n mb_203 29 [some (.ref a), l1, l2, l3, l4, l5] (.ref a :: st) M Q := wp_step rfl rfl rfl rfl rfl
theorem u203_29 : wp scr n mb_203 29 L (o :: st) M Q ↔ mw_o (mm_fld (mc_X scr) M o 6 2) (fun v => wp scr n mb_203 32 L (v :: st) M Q) := wp_getf rfl
theorem u203_32 : wp scr n mb_203 32 L st M Q ↔ wp scr n mb_203 33 L (.int 0 :: st) M Q := wp_step rfl rfl rfl rfl rfl
theorem u203_33 : wp scr n mb_203 33 L (.int y :: .ref a :: st) M Q ↔ mw_o (mm_lda M a y) (fun v => wp scr n mb_203 34 L (v :: st) M Q) := wp_aald rfl
theorem u203_34 : wp scr n mb_203 34 [l0, some (.int x), l2, l3, l4, l5] st M Q ↔ wp scr n mb_203 35 [l0, some (.int x), l2, l3, l4, l5] (.int x :: st) M Q := wp_step rfl rfl rfl rfl rfl
theorem u203_35 : wp scr n mb_203 35 [l0, l1, some (.int x), l3, l4, l5] st M Q ↔ wp scr n mb_203 36 [l0, l1, some (.int x), l3, l4, l5] (.int x :: st) M Q := wp_step rfl rfl rfl rfl rfl
theorem u203_36 : wp scr n mb_203 36 L (a4 :: a3 :: a2 :: .ref a :: st) M Q ↔ ((mw_r M a 6 ∧ mw_st st) ∧ Wp scr n 152 [.ref a, a2, a3, a4] M (fun r1 M1 => wp scr n mb_203 39 L (r1.toList ++ st) M1 Q)) := wp_vir rfl rfl rfl rfl rfl
theorem u203_39 : wp scr n mb_203 39 [l0, l1, l2, l3, l4, l5] (.int x :: st) M Q ↔ wp scr n mb_203 41 (mm_sto1 [l0, l1, l2, l3, l4, l5] 5 (.int x)) st M Q := wp_step rfl rfl rfl rfl rfl
theorem u203_41 : wp scr n mb_203 41 [some (.ref a), l1, l2, l3, l4, l5] st M Q ↔ wp scr n mb_203 42 [some (.ref a), l1, l2, l3, l4, l5] (.ref a :: st) M Q := wp_step rfl rfl rfl rfl rfl
theorem u203_42 : wp scr n mb_203 42 L (o :: st) M Q ↔ mw_o (mm_fld (mc_X scr) M o 6 2) (fun v => wp scr n mb_203 45 L (v :: st) M Q) := wp_getf rfl
theorem u203_45 : wp scr n mb_203 45 L st M Q ↔ wp scr n mb_203 46 L (.int 0 :: st) M Q := wp_step rfl rfl rfl rfl rfl
theorem u203_46 : wp scr n mb_203 46 L (.int y :: .ref a :: st) M Q ↔ mw_o (mm_lda M a y) (fun v => wp scr n mb_203 47 L (v :: st) M Q) := wp_aald rfl
theorem u203_47 : wp scr n mb_203 47 [l0, l1, l2, some (.int x), l4, l5] st M Q ↔ wp scr n mb_203 48 [l0, l1, l2, some (.int x), l4, l5] (.int x :: st) M Q := wp_step rfl rfl rfl rfl rfl
theorem u203_48 : wp scr n mb_203 48 L (a2 :: a1 :: st) M Q ↔ (mw_st st ∧ Wp scr n 150 [a1, a2] M (fun r1 M1 => wp scr n mb_203 51 L (r1.toList ++ st) M1 Q)) := wp_sta rfl rfl rfl rfl
theorem u203_51 : wp scr n mb_203 51 L (.int x :: st) M Q ↔ (if x = 0 then wp scr n mb_203 73 L st M Q else wp scr n mb_203 54 L st M Q) := (wp_step rfl rfl rfl rfl rfl).trans wp_ite
theorem u203_54 : wp scr n mb_203 54 [l0, l1, l2, l3, l4, some (.int x)] st M Q ↔ wp scr n mb_203 56 [l0, l1, l2, l3, l4, some (.int x)] (.int x :: st) M Q := wp_step rfl rfl rfl rfl rfl
theorem u203_56 : wp scr n mb_203 56 [some (.ref a), l1, l2, l3, l4, l5] st M Q ↔ wp scr n mb_203 57 [some (.ref a), l1, l2, l3, l4, l5] (.ref a :: st) M Q := wp_step rfl rfl rfl rfl rfl
theorem u203_57 : wp scr n mb_203 57 [some (.ref a), l1, l2, l3, l4, l5] st M Q ↔ wp scr n mb_203 58 [some (.ref a), l1, l2, l3, l4, l5] (.ref a :: st) M Q := wp_step rfl rfl rfl rfl rfl
theorem u203_58 : wp scr n mb_203 58 L (o :: st) M Q ↔ mw_o (mm_fld (mc_X scr) M o 6 2) (fun v => wp scr n mb_203 61 L (v :: st) M Q) := wp_getf rfl
theorem u203_61 : wp scr n mb_203 61 L st M Q ↔ wp scr n mb_203 62 L (.int 0 :: st) M Q := wp_step rfl rfl rfl rfl rfl
theorem u203_62 : wp scr n mb_203 62 L (.int y :: .ref a :: st) M Q ↔ mw_o (mm_lda M a y) (fun v => wp scr n mb_203 63 L (v :: st) M Q) := wp_aald rfl
theorem u203_63 : wp scr n mb_203 63 [l0, l1, l2, some (.int x), l4, l5] st M Q ↔ wp scr n mb_203 64 [l0, l1, l2, some (.int x), l4, l5] (.int x :: st) M Q := wp_step rfl rfl rfl rfl rfl
theorem u203_64 : wp scr n mb_203 64 [l0, l1, l2, l3, some (.int x), l5] st M Q ↔ wp scr n mb_203 66 [l0, l1, l2, l3, some (.int x), l5] (.int x :: st) M Q := wp_step rfl rfl rfl rfl rfl
theorem u203_66 : wp scr n mb_203 66 L (a4 :: a3 :: a2 :: .ref a :: st) M Q ↔ ((mw_r M a 6 ∧ mw_st st) ∧ Wp scr n 152 [.ref a, a2, a3, a4] M (fun r1 M1 => wp scr n mb_203 69 L (r1.toList ++ st) M1 Q)) := wp_vir rfl rfl rfl rfl rfl
theorem u203_69 : wp scr n mb_203 69 L (.int y :: .int x :: st) M Q ↔ wp scr n mb_203 70 L (.int (x + y) :: st) M Q := wp_step rfl rfl rfl rfl rfl
theorem u203_70 : wp scr n mb_203 70 L st M Q ↔ wp scr n mb_203 75 L st M Q := wp_step rfl rfl rfl rfl rfl
theorem u203_73 : wp scr n mb_203 73 L st M Q ↔ wp scr n mb_203 75 L (.int (-9) :: st) M Q := wp_step rfl rfl rfl rfl rfl
theorem u203_75 : wp scr n mb_203 75 L [.int x] M Q ↔ Q (some (.int x)) M := wp_ret rfl rfl
theorem e203 : Wp scr (n + 1) 203 [.ref a0, .int x1, .int x2, .int x3, .int x4] M Q ↔ wp scr n mb_203 0 [some (.ref a0), some (.int x1), some (.int x2), some (.int x3), some (.int x4), none] [] M Q := Wp_to rfl rfl rfl
/-- SmallerInTheShopModel hole (II)I -/
def mb_204 : mw_B := ((Option.some FieldType.int), mp_204)
theorem u204_0 : wp scr n mb_204 0 [l0, some (.int x), l2] st M Q ↔ wp scr n mb_204 1 [l0, some (.int x), l2] (.int x :: st) M Q := wp_step rfl rfl rfl rfl rfl
theorem u204_1 : wp scr n mb_204 1 L (.int x :: st) M Q ↔ wp scr n mb_204 2 L (.long x.toInt64 :: st) M Q := wp_step rfl rfl rfl rfl rfl
theorem u204_2 : wp scr n mb_204 2 L st M Q ↔ wp scr n mb_204 3 L (.long 0 :: st) M Q := wp_step rfl rfl rfl rfl rfl
theorem u204_3 : wp scr n mb_204 3 L st M Q ↔ wp scr n mb_204 6 L (.long (2) :: st) M Q := wp_step rfl rfl rfl rfl rfl
theorem u204_6 : wp scr n mb_204 6 L (a3 :: a2 :: a1 :: st) M Q ↔ (mw_st st ∧ Wp scr n 146 [a1, a2, a3] M (fun r1 M1 => wp scr n mb_204 9 L (r1.toList ++ st) M1 Q)) := wp_sta rfl rfl rfl rfl
theorem u204_9 : wp scr n mb_204 9 L (.int x :: st) M Q ↔ (if x = 0 then wp scr n mb_204 12 L st M Q else wp scr n mb_204 18 L st M Q) := (wp_step rfl rfl rfl rfl rfl).trans wp_iten
theorem u204_12 : wp scr n mb_204 12 [some (.ref a), l1, l2] st M Q ↔ wp scr n mb_204 13 [some (.ref a), l1, l2] (.ref a :: st) M Q := wp_step rfl rfl rfl rfl rfl
theorem u204_13 : wp scr n mb_204 13 L st M Q ↔ wp scr n mb_204 14 L (.int (-1) :: st) M Q := wp_step rfl rfl rfl rfl rfl
theorem u204_14 : wp scr n mb_204 14 L (a2 :: .ref a :: st) M Q ↔ ((mw_r M a 6 ∧ mw_st st) ∧ Wp scr n 141 [.ref a, a2] M (fun r1 M1 => wp scr n mb_204 17 L (r1.toList ++ st) M1 Q)) := wp_vir rfl rfl rfl rfl rfl
theorem u204_17 : wp scr n mb_204 17 L [.int x] M Q ↔ Q (some (.int x)) M := wp_ret rfl rfl
theorem u204_18 : wp scr n mb_204 18 [l0, l1, some (.int x)] st M Q ↔ wp scr n mb_204 19 [l0, l1, some (.int x)] (.int x :: st) M Q := wp_step rfl rfl rfl rfl rfl
theorem u204_19 : wp scr n mb_204 19 L (.int x :: st) M Q ↔ wp scr n mb_204 20 L (.long x.toInt64 :: st) M Q := wp_step rfl rfl rfl rfl rfl
theorem u204_20 : wp scr n mb_204 20 L st M Q ↔ wp scr n mb_204 21 L (.long 0 :: st) M Q := wp_step rfl rfl rfl rfl rfl
theorem u204_21 : wp scr n mb_204 21 L st M Q ↔ wp scr n mb_204 22 L (.long 1 :: st) M Q := wp_step rfl rfl rfl rfl rfl
theorem u204_22 : wp scr n mb_204 22 L (a3 :: a2 :: a1 :: st) M Q ↔ (mw_st st ∧ Wp scr n 146 [a1, a2, a3] M (fun r1 M1 => wp scr n mb_204 25 L (r1.toList ++ st) M1 Q)) := wp_sta rfl rfl rfl rfl
theorem u204_25 : wp scr n mb_204 25 L (.int x :: st) M Q ↔ (if x = 0 then wp scr n mb_204 28 L st M Q else wp scr n mb_204 35 L st M Q) := (wp_step rfl rfl rfl rfl rfl).trans wp_iten
theorem u204_28 : wp scr n mb_204 28 [some (.ref a), l1, l2] st M Q ↔ wp scr n mb_204 29 [some (.ref a), l1, l2] (.ref a :: st) M Q := wp_step rfl rfl rfl rfl rfl
theorem u204_29 : wp scr n mb_204 29 L st M Q ↔ wp scr n mb_204 31 L (.int (-2) :: st) M Q := wp_step rfl rfl rfl rfl rfl
theorem u204_31 : wp scr n mb_204 31 L (a2 :: .ref a :: st) M Q ↔ ((mw_r M a 6 ∧ mw_st st) ∧ Wp scr n 141 [.ref a, a2] M (fun r1 M1 => wp scr n mb_204 34 L (r1.toList ++ st) M1 Q)) := wp_vir rfl rfl rfl rfl rfl
theorem u204_34 : wp scr n mb_204 34 L [.int x] M Q ↔ Q (some (.int x)) M := wp_ret rfl rfl
theorem u204_35 : wp scr n mb_204 35 [l0, l1, some (.int x)] st M Q ↔ wp scr n mb_204 36 [l0, l1, some (.int x)] (.int x :: st) M Q := wp_step rfl rfl rfl rfl rfl
theorem u204_36 : wp scr n mb_204 36 L (.int x :: st) M Q ↔ (if x = 0 then wp scr n mb_204 39 L st M Q else wp scr n mb_204 50 L st M Q) := (wp_step rfl rfl rfl rfl rfl).trans wp_iten
theorem u204_39 : wp scr n mb_204 39 [some (.ref a), l1, l2] st M Q ↔ wp scr n mb_204 40 [some (.ref a), l1, l2] (.ref a :: st) M Q := wp_step rfl rfl rfl rfl rfl
theorem u204_40 : wp scr n mb_204 40 L (o :: st) M Q ↔ mw_o (mm_fld (mc_X scr) M o 6 0) (fun v => wp scr n mb_204 43 L (v :: st) M Q) := wp_getf rfl
theorem u204_43 : wp scr n mb_204 43 [l0, some (.int x), l2] st M Q ↔ wp scr n mb_204 44 [l0, some (.int x), l2] (.int x :: st) M Q := wp_step rfl rfl rfl rfl rfl
theorem u204_44 : wp scr n mb_204 44 L (a2 :: a1 :: st) M Q ↔ (mw_st st ∧ Wp scr n 200 [a1, a2] M (fun r1 M1 => wp scr n mb_204 47 L (r1.toList ++ st) M1 Q)) := wp_sta rfl rfl rfl rfl
theorem u204_47 : wp scr n mb_204 47 L st M Q ↔ wp scr n mb_204 61 L st M Q := wp_step rfl rfl rfl rfl rfl
theorem u204_50 : wp scr n mb_204 50 [some (.ref a), l1, l2] st M Q ↔ wp scr n mb_204 51 [some (.ref a), l1, l2] (.ref a :: st) M Q := wp_step rfl rfl rfl rfl rfl
theorem u204_51 : wp scr n mb_204 51 L (o :: st) M Q ↔ mw_o (mm_fld (mc_X scr) M o 6 0) (fun v => wp scr n mb_204 54 L (v :: st) M Q) := wp_getf rfl
theorem u204_54 : wp scr n mb_204 54 L (a1 :: st) M Q ↔ (mw_st st ∧ Wp scr n 199 [a1] M (fun r1 M1 => wp scr n mb_204 57 L (r1.toList ++ st) M1 Q)) := wp_sta rfl rfl rfl rfl
theorem u204_57 : wp scr n mb_204 57 [l0, some (.int x), l2] st M Q ↔ wp scr n mb_204 58 [l0, some (.int x), l2] (.int x :: st) M Q := wp_step rfl rfl rfl rfl rfl
theorem u204_58 : wp scr n mb_204 58 L (.int y :: .int x :: st) M Q ↔ wp scr n mb_204 59 L (.int (x >>> (y &&& 31)) :: st) M Q := wp_step rfl rfl rfl rfl rfl
theorem u204_59 : wp scr n mb_204 59 L st M Q ↔ wp scr n mb_204 60 L (.int 1 :: st) M Q := wp_step rfl rfl rfl rfl rfl
theorem u204_60 : wp scr n mb_204 60 L (.int y :: .int x :: st) M Q ↔ wp scr n mb_204 61 L (.int (x &&& y) :: st) M Q := wp_step rfl rfl rfl rfl rfl
theorem u204_61 : wp scr n mb_204 61 L [.int x] M Q ↔ Q (some (.int x)) M := wp_ret rfl rfl
theorem e204 : Wp scr (n + 1) 204 [.ref a0, .int x1, .int x2] M Q ↔ wp scr n mb_204 0 [some (.ref a0), some (.int x1), some (.int x2)] [] M Q := Wp_to rfl rfl rfl
/-- SmallerInTheShopModel weakest (I)I -/
def mb_205 : mw_B := ((Option.some FieldType.int), mp_205)
theorem u205_0 : wp scr n mb_205 0 [l0, some (.int x), l2, l3] st M Q ↔ wp scr n mb_205 1 [l0, some (.int x), l2, l3] (.int x :: st) M Q := wp_step rfl rfl rfl rfl rfl
theorem u205_1 : wp scr n mb_205 1 L (.int x :: st) M Q ↔ wp scr n mb_205 2 L (.long x.toInt64 :: st) M Q := wp_step rfl rfl rfl rfl rfl
theorem u205_2 : wp scr n mb_205 2 L st M Q ↔ wp scr n mb_205 3 L (.long 0 :: st) M Q := wp_step rfl rfl rfl rfl rfl
theorem u205_3 : wp scr n mb_205 3 L st M Q ↔ wp scr n mb_205 6 L (.long (2) :: st) M Q := wp_step rfl rfl rfl rfl rfl
theorem u205_6 : wp scr n mb_205 6 L (a3 :: a2 :: a1 :: st) M Q ↔ (mw_st st ∧ Wp scr n 146 [a1, a2, a3] M (fun r1 M1 => wp scr n mb_205 9 L (r1.toList ++ st) M1 Q)) := wp_sta rfl rfl rfl rfl
theorem u205_9 : wp scr n mb_205 9 L (.int x :: st) M Q ↔ (if x = 0 then wp scr n mb_205 12 L st M Q else wp scr n mb_205 19 L st M Q) := (wp_step rfl rfl rfl rfl rfl).trans wp_iten
theorem u205_12 : wp scr n mb_205 12 [some (.ref a), l1, l2, l3] st M Q ↔ wp scr n mb_205 13 [some (.ref a), l1, l2, l3] (.ref a :: st) M Q := wp_step rfl rfl rfl rfl rfl
theorem u205_13 : wp scr n mb_205 13 L st M Q ↔ wp scr n mb_205 15 L (.int (-2) :: st) M Q := wp_step rfl rfl rfl rfl rfl
theorem u205_15 : wp scr n mb_205 15 L (a2 :: .ref a :: st) M Q ↔ ((mw_r M a 6 ∧ mw_st st) ∧ Wp scr n 141 [.ref a, a2] M (fun r1 M1 => wp scr n mb_205 18 L (r1.toList ++ st) M1 Q)) := wp_vir rfl rfl rfl rfl rfl
theorem u205_18 : wp scr n mb_205 18 L [.int x] M Q ↔ Q (some (.int x)) M := wp_ret rfl rfl
theorem u205_19 : wp scr n mb_205 19 L st M Q ↔ wp scr n mb_205 20 L (.int 0 :: st) M Q := wp_step rfl rfl rfl rfl rfl
theorem u205_20 : wp scr n mb_205 20 [l0, l1, l2, l3] (.int x :: st) M Q ↔ wp scr n mb_205 21 (mm_sto1 [l0, l1, l2, l3] 2 (.int x)) st M Q := wp_step rfl rfl rfl rfl rfl
theorem u205_21 : wp scr n mb_205 21 L st M Q ↔ wp scr n mb_205 22 L (.int 1 :: st) M Q := wp_step rfl rfl rfl rfl rfl
theorem u205_22 : wp scr n mb_205 22 [l0, l1, l2, l3] (.int x :: st) M Q ↔ wp scr n mb_205 23 (mm_sto1 [l0, l1, l2, l3] 3 (.int x)) st M Q := wp_step rfl rfl rfl rfl rfl
theorem u205_23 : wp scr n mb_205 23 [l0, l1, l2, some (.int x)] st M Q ↔ wp scr n mb_205 24 [l0, l1, l2, some (.int x)] (.int x :: st) M Q := wp_step rfl rfl rfl rfl rfl
theorem u205_24 : wp scr n mb_205 24 L st M Q ↔ wp scr n mb_205 25 L (.int 3 :: st) M Q := wp_step rfl rfl rfl rfl rfl
theorem u205_25 : wp scr n mb_205 25 L (.int y :: .int x :: st) M Q ↔ (if y ≤ x then wp scr n mb_205 59 L st M Q else wp scr n mb_205 28 L st M Q) := (wp_step rfl rfl rfl rfl rfl).trans wp_ite
theorem u205_28 : wp scr n mb_205 28 [some (.ref a), l1, l2, l3] st M Q ↔ wp scr n mb_205 29 [some (.ref a), l1, l2, l3] (.ref a :: st) M Q := wp_step rfl rfl rfl rfl rfl
theorem u205_29 : wp scr n mb_205 29 L (o :: st) M Q ↔ mw_o (mm_fld (mc_X scr) M o 6 0) (fun v => wp scr n mb_205 32 L (v :: st) M Q) := wp_getf rfl
theorem u205_32 : wp scr n mb_205 32 [l0, l1, l2, some (.int x)] st M Q ↔ wp scr n mb_205 33 [l0, l1, l2, some (.int x)] (.int x :: st) M Q := wp_step rfl rfl rfl rfl rfl
theorem u205_33 : wp scr n mb_205 33 L (a2 :: a1 :: st) M Q ↔ (mw_st st ∧ Wp scr n 200 [a1, a2] M (fun r1 M1 => wp scr n mb_205 36 L (r1.toList ++ st) M1 Q)) := wp_sta rfl rfl rfl rfl
theorem u205_36 : wp scr n mb_205 36 [some (.ref a), l1, l2, l3] st M Q ↔ wp scr n mb_205 37 [some (.ref a), l1, l2, l3] (.ref a :: st) M Q := wp_step rfl rfl rfl rfl rfl
theorem u205_37 : wp scr n mb_205 37 L (o :: st) M Q ↔ mw_o (mm_fld (mc_X scr) M o 6 0) (fun v => wp scr n mb_205 40 L (v :: st) M Q) := wp_getf rfl
theorem u205_40 : wp scr n mb_205 40 [l0, l1, some (.int x), l3] st M Q ↔ wp scr n mb_205 41 [l0, l1, some (.int x), l3] (.int x :: st) M Q := wp_step rfl rfl rfl rfl rfl
theorem u205_41 : wp scr n mb_205 41 L (a2 :: a1 :: st) M Q ↔ (mw_st st ∧ Wp scr n 200 [a1, a2] M (fun r1 M1 => wp scr n mb_205 44 L (r1.toList ++ st) M1 Q)) := wp_sta rfl rfl rfl rfl
theorem u205_44 : wp scr n mb_205 44 L (.int y :: .int x :: st) M Q ↔ (if x ≤ y then wp scr n mb_205 51 L st M Q else wp scr n mb_205 47 L st M Q) := (wp_step rfl rfl rfl rfl rfl).trans wp_ite
theorem u205_47 : wp scr n mb_205 47 [l0, l1, l2, some (.int x)] st M Q ↔ wp scr n mb_205 48 [l0, l1, l2, some (.int x)] (.int x :: st) M Q := wp_step rfl rfl rfl rfl rfl
theorem u205_48 : wp scr n mb_205 48 L st M Q ↔ wp scr n mb_205 52 L st M Q := wp_step rfl rfl rfl rfl rfl
theorem u205_51 : wp scr n mb_205 51 [l0, l1, some (.int x), l3] st M Q ↔ wp scr n mb_205 52 [l0, l1, some (.int x), l3] (.int x :: st) M Q := wp_step rfl rfl rfl rfl rfl
theorem u205_52 : wp scr n mb_205 52 [l0, l1, l2, l3] (.int x :: st) M Q ↔ wp scr n mb_205 53 (mm_sto1 [l0, l1, l2, l3] 2 (.int x)) st M Q := wp_step rfl rfl rfl rfl rfl
theorem u205_53 : wp scr n mb_205 53 [l0, l1, l2, some (.int x)] st M Q ↔ wp scr n mb_205 56 (mm_sto1 [l0, l1, l2, some (.int x)] 3 (.int (x + 1))) st M Q := wp_step rfl rfl rfl rfl rfl
theorem u205_56 : wp scr n mb_205 56 L st M Q ↔ wp scr n mb_205 23 L st M Q := wp_step rfl rfl rfl rfl rfl
theorem u205_59 : wp scr n mb_205 59 [l0, some (.int x), l2, l3] st M Q ↔ wp scr n mb_205 60 [l0, some (.int x), l2, l3] (.int x :: st) M Q := wp_step rfl rfl rfl rfl rfl
theorem u205_60 : wp scr n mb_205 60 L (.int x :: st) M Q ↔ (if x = 0 then wp scr n mb_205 63 L st M Q else wp scr n mb_205 67 L st M Q) := (wp_step rfl rfl rfl rfl rfl).trans wp_iten
theorem u205_63 : wp scr n mb_205 63 [l0, l1, some (.int x), l3] st M Q ↔ wp scr n mb_205 64 [l0, l1, some (.int x), l3] (.int x :: st) M Q := wp_step rfl rfl rfl rfl rfl
theorem u205_64 : wp scr n mb_205 64 L st M Q ↔ wp scr n mb_205 90 L st M Q := wp_step rfl rfl rfl rfl rfl
theorem u205_67 : wp scr n mb_205 67 [l0, some (.int x), l2, l3] st M Q ↔ wp scr n mb_205 68 [l0, some (.int x), l2, l3] (.int x :: st) M Q := wp_step rfl rfl rfl rfl rfl
theorem u205_68 : wp scr n mb_205 68 L st M Q ↔ wp scr n mb_205 69 L (.int 1 :: st) M Q := wp_step rfl rfl rfl rfl rfl
theorem u205_69 : wp scr n mb_205 69 L (.int y :: .int x :: st) M Q ↔ (if x = y then wp scr n mb_205 72 L st M Q else wp scr n mb_205 83 L st M Q) := (wp_step rfl rfl rfl rfl rfl).trans wp_iten
theorem u205_72 : wp scr n mb_205 72 [some (.ref a), l1, l2, l3] st M Q ↔ wp scr n mb_205 73 [some (.ref a), l1, l2, l3] (.ref a :: st) M Q := wp_step rfl rfl rfl rfl rfl
theorem u205_73 : wp scr n mb_205 73 L (o :: st) M Q ↔ mw_o (mm_fld (mc_X scr) M o 6 0) (fun v => wp scr n mb_205 76 L (v :: st) M Q) := wp_getf rfl
theorem u205_76 : wp scr n mb_205 76 [l0, l1, some (.int x), l3] st M Q ↔ wp scr n mb_205 77 [l0, l1, some (.int x), l3] (.int x :: st) M Q := wp_step rfl rfl rfl rfl rfl
theorem u205_77 : wp scr n mb_205 77 L (a2 :: a1 :: st) M Q ↔ (mw_st st ∧ Wp scr n 200 [a1, a2] M (fun r1 M1 => wp scr n mb_205 80 L (r1.toList ++ st) M1 Q)) := wp_sta rfl rfl rfl rfl
theorem u205_80 : wp scr n mb_205 80 L st M Q ↔ wp scr n mb_205 90 L st M Q := wp_step rfl rfl rfl rfl rfl
theorem u205_83 : wp scr n mb_205 83 [some (.ref a), l1, l2, l3] st M Q ↔ wp scr n mb_205 84 [some (.ref a), l1, l2, l3] (.ref a :: st) M Q := wp_step rfl rfl rfl rfl rfl
theorem u205_84 : wp scr n mb_205 84 L (o :: st) M Q ↔ mw_o (mm_fld (mc_X scr) M o 6 0) (fun v => wp scr n mb_205 87 L (v :: st) M Q) := wp_getf rfl
theorem u205_87 : wp scr n mb_205 87 L (a1 :: st) M Q ↔ (mw_st st ∧ Wp scr n 199 [a1] M (fun r1 M1 => wp scr n mb_205 90 L (r1.toList ++ st) M1 Q)) := wp_sta rfl rfl rfl rfl
theorem u205_90 : wp scr n mb_205 90 L [.int x] M Q ↔ Q (some (.int x)) M := wp_ret rfl rfl
theorem e205 : Wp scr (n + 1) 205 [.ref a0, .int x1] M Q ↔ wp scr n mb_205 0 [some (.ref a0), some (.int x1), none, none] [] M Q := Wp_to rfl rfl rfl
/-- SmallerInTheShopModel wind (II)J -/
def mb_206 : mw_B := ((Option.some FieldType.long), mp_206)
theorem u206_0 : wp scr n mb_206 0 [l0, some (.int x), l2, l3, l4, l5, l6, l7, l8, l9, l10, l11] st M Q ↔ wp scr n mb_206 1 [l0, some (.int x), l2, l3, l4, l5, l6, l7, l8, l9, l10, l11] (.int x :: st) M Q := wp_step rfl rfl rfl rfl rfl
theorem u206_1 : wp scr n mb_206 1 L (.int x :: st) M Q ↔ wp scr n mb_206 2 L (.long x.toInt64 :: st) M Q := wp_step rfl rfl rfl rfl rfl
theorem u206_2 : wp scr n mb_206 2 L st M Q ↔ wp scr n mb_206 5 L (.long (2) :: st) M Q := wp_step rfl rfl rfl rfl rfl
theorem u206_5 : wp scr n mb_206 5 L st M Q ↔ wp scr n mb_206 8 L (.long (20) :: st) M Q := wp_step rfl rfl rfl rfl rfl
theorem u206_8 : wp scr n mb_206 8 L (a3 :: a2 :: a1 :: st) M Q ↔ (mw_st st ∧ Wp scr n 146 [a1, a2, a3] M (fun r1 M1 => wp scr n mb_206 11 L (r1.toList ++ st) M1 Q)) := wp_sta rfl rfl rfl rfl
theorem u206_11 : wp scr n mb_206 11 L (.int x :: st) M Q ↔ (if x = 0 then wp scr n mb_206 14 L st M Q else wp scr n mb_206 31 L st M Q) := (wp_step rfl rfl rfl rfl rfl).trans wp_iten
theorem u206_14 : wp scr n mb_206 14 [some (.ref a), l1, l2, l3, l4, l5, l6, l7, l8, l9, l10, l11] st M Q ↔ wp scr n mb_206 15 [some (.ref a), l1, l2, l3, l4, l5, l6, l7, l8, l9, l10, l11] (.ref a :: st) M Q := wp_step rfl rfl rfl rfl rfl
theorem u206_15 : wp scr n mb_206 15 [l0, some (.int x), l2, l3, l4, l5, l6, l7, l8, l9, l10, l11] st M Q ↔ wp scr n mb_206 16 [l0, some (.int x), l2, l3, l4, l5, l6, l7, l8, l9, l10, l11] (.int x :: st) M Q := wp_step rfl rfl rfl rfl rfl
theorem u206_16 : wp scr n mb_206 16 L st M Q ↔ wp scr n mb_206 17 L (.int 2 :: st) M Q := wp_step rfl rfl rfl rfl rfl
theorem u206_17 : wp scr n mb_206 17 L (.int y :: .int x :: st) M Q ↔ (if y ≤ x then wp scr n mb_206 25 L st M Q else wp scr n mb_206 20 L st M Q) := (wp_step rfl rfl rfl rfl rfl).trans wp_ite
theorem u206_20 : wp scr n mb_206 20 L st M Q ↔ wp scr n mb_206 22 L (.int (-4) :: st) M Q := wp_step rfl rfl rfl rfl rfl
theorem u206_22 : wp scr n mb_206 22 L st M Q ↔ wp scr n mb_206 27 L st M Q := wp_step rfl rfl rfl rfl rfl
theorem u206_25 : wp scr n mb_206 25 L st M Q ↔ wp scr n mb_206 27 L (.int (-6) :: st) M Q := wp_step rfl rfl rfl rfl rfl
theorem u206_27 : wp scr n mb_206 27 L (a2 :: .ref a :: st) M Q ↔ ((mw_r M a 6 ∧ mw_st st) ∧ Wp scr n 207 [.ref a, a2] M (fun r1 M1 => wp scr n mb_206 30 L (r1.toList ++ st) M1 Q)) := wp_vir rfl rfl rfl rfl rfl
theorem u206_30 : wp scr n mb_206 30 L [.long z] M Q ↔ Q (some (.long z)) M := wp_ret rfl rfl
theorem u206_31 : wp scr n mb_206 31 [some (.ref a), l1, l2, l3, l4, l5, l6, l7, l8, l9, l10, l11] st M Q ↔ wp scr n mb_206 32 [some (.ref a), l1, l2, l3, l4, l5, l6, l7, l8, l9, l10, l11] (.ref a :: st) M Q := wp_step rfl rfl rfl rfl rfl
theorem u206_32 : wp scr n mb_206 32 L (o :: st) M Q ↔ mw_o (mm_fld (mc_X scr) M o 6 6) (fun v => wp scr n mb_206 35 L (v :: st) M Q) := wp_getf rfl
theorem u206_35 : wp scr n mb_206 35 L st M Q ↔ wp scr n mb_206 36 L (.int 4 :: st) M Q := wp_step rfl rfl rfl rfl rfl
theorem u206_36 : wp scr n mb_206 36 L (.int y :: .int x :: st) M Q ↔ (if y < x then wp scr n mb_206 47 L st M Q else wp scr n mb_206 39 L st M Q) := (wp_step rfl rfl rfl rfl rfl).trans wp_ite
theorem u206_39 : wp scr n mb_206 39 [some (.ref a), l1, l2, l3, l4, l5, l6, l7, l8, l9, l10, l11] st M Q ↔ wp scr n mb_206 40 [some (.ref a), l1, l2, l3, l4, l5, l6, l7, l8, l9, l10, l11] (.ref a :: st) M Q := wp_step rfl rfl rfl rfl rfl
theorem u206_40 : wp scr n mb_206 40 L st M Q ↔ wp scr n mb_206 41 L (.int 0 :: st) M Q := wp_step rfl rfl rfl rfl rfl
theorem u206_41 : wp scr n mb_206 41 L (a2 :: .ref a :: st) M Q ↔ ((mw_r M a 6 ∧ mw_st st) ∧ Wp scr n 208 [.ref a, a2] M (fun r1 M1 => wp scr n mb_206 44 L (r1.toList ++ st) M1 Q)) := wp_vir rfl rfl rfl rfl rfl
theorem u206_44 : wp scr n mb_206 44 L (.int x :: st) M Q ↔ (if x < 0 then wp scr n mb_206 54 L st M Q else wp scr n mb_206 47 L st M Q) := (wp_step rfl rfl rfl rfl rfl).trans wp_ite
theorem u206_47 : wp scr n mb_206 47 [some (.ref a), l1, l2, l3, l4, l5, l6, l7, l8, l9, l10, l11] st M Q ↔ wp scr n mb_206 48 [some (.ref a), l1, l2, l3, l4, l5, l6, l7, l8, l9, l10, l11] (.ref a :: st) M Q := wp_step rfl rfl rfl rfl rfl
theorem u206_48 : wp scr n mb_206 48 L st M Q ↔ wp scr n mb_206 50 L (.int (-3) :: st) M Q := wp_step rfl rfl rfl rfl rfl
theorem u206_50 : wp scr n mb_206 50 L (a2 :: .ref a :: st) M Q ↔ ((mw_r M a 6 ∧ mw_st st) ∧ Wp scr n 207 [.ref a, a2] M (fun r1 M1 => wp scr n mb_206 53 L (r1.toList ++ st) M1 Q)) := wp_vir rfl rfl rfl rfl rfl
theorem u206_53 : wp scr n mb_206 53 L [.long z] M Q ↔ Q (some (.long z)) M := wp_ret rfl rfl
theorem u206_54 : wp scr n mb_206 54 [l0, l1, some (.int x), l3, l4, l5, l6, l7, l8, l9, l10, l11] st M Q ↔ wp scr n mb_206 55 [l0, l1, some (.int x), l3, l4, l5, l6, l7, l8, l9, l10, l11] (.int x :: st) M Q := wp_step rfl rfl rfl rfl rfl
theorem u206_55 : wp scr n mb_206 55 L (.int x :: st) M Q ↔ wp scr n mb_206 56 L (.long x.toInt64 :: st) M Q := wp_step rfl rfl rfl rfl rfl
theorem u206_56 : wp scr n mb_206 56 L st M Q ↔ wp scr n mb_206 57 L (.long 0 :: st) M Q := wp_step rfl rfl rfl rfl rfl
theorem u206_57 : wp scr n mb_206 57 L st M Q ↔ wp scr n mb_206 58 L (.long 1 :: st) M Q := wp_step rfl rfl rfl rfl rfl
theorem u206_58 : wp scr n mb_206 58 L (a3 :: a2 :: a1 :: st) M Q ↔ (mw_st st ∧ Wp scr n 146 [a1, a2, a3] M (fun r1 M1 => wp scr n mb_206 61 L (r1.toList ++ st) M1 Q)) := wp_sta rfl rfl rfl rfl
theorem u206_61 : wp scr n mb_206 61 L (.int x :: st) M Q ↔ (if x = 0 then wp scr n mb_206 64 L st M Q else wp scr n mb_206 71 L st M Q) := (wp_step rfl rfl rfl rfl rfl).trans wp_iten
theorem u206_64 : wp scr n mb_206 64 [some (.ref a), l1, l2, l3, l4, l5, l6, l7, l8, l9, l10, l11] st M Q ↔ wp scr n mb_206 65 [some (.ref a), l1, l2, l3, l4, l5, l6, l7, l8, l9, l10, l11] (.ref a :: st) M Q := wp_step rfl rfl rfl rfl rfl
theorem u206_65 : wp scr n mb_206 65 L st M Q ↔ wp scr n mb_206 67 L (.int (-2) :: st) M Q := wp_step rfl rfl rfl rfl rfl
theorem u206_67 : wp scr n mb_206 67 L (a2 :: .ref a :: st) M Q ↔ ((mw_r M a 6 ∧ mw_st st) ∧ Wp scr n 207 [.ref a, a2] M (fun r1 M1 => wp scr n mb_206 70 L (r1.toList ++ st) M1 Q)) := wp_vir rfl rfl rfl rfl rfl
theorem u206_70 : wp scr n mb_206 70 L [.long z] M Q ↔ Q (some (.long z)) M := wp_ret rfl rfl
theorem u206_71 : wp scr n mb_206 71 L st M Q ↔ wp scr n mb_206 72 L (.long 0 :: st) M Q := wp_step rfl rfl rfl rfl rfl
theorem u206_72 : wp scr n mb_206 72 [l0, l1, l2, l3, l4, l5, l6, l7, l8, l9, l10, l11] (.long z :: st) M Q ↔ wp scr n mb_206 73 (mm_sto2 [l0, l1, l2, l3, l4, l5, l6, l7, l8, l9, l10, l11] 3 (.long z)) st M Q := wp_step rfl rfl rfl rfl rfl
theorem u206_73 : wp scr n mb_206 73 L st M Q ↔ wp scr n mb_206 74 L (.long 1 :: st) M Q := wp_step rfl rfl rfl rfl rfl
theorem u206_74 : wp scr n mb_206 74 [l0, l1, l2, l3, l4, l5, l6, l7, l8, l9, l10, l11] (.long z :: st) M Q ↔ wp scr n mb_206 76 (mm_sto2 [l0, l1, l2, l3, l4, l5, l6, l7, l8, l9, l10, l11] 5 (.long z)) st M Q := wp_step rfl rfl rfl rfl rfl
theorem u206_76 : wp scr n mb_206 76 L st M Q ↔ wp scr n mb_206 77 L (.int 0 :: st) M Q := wp_step rfl rfl rfl rfl rfl
theorem u206_77 : wp scr n mb_206 77 [l0, l1, l2, l3, l4, l5, l6, l7, l8, l9, l10, l11] (.int x :: st) M Q ↔ wp scr n mb_206 79 (mm_sto1 [l0, l1, l2, l3, l4, l5, l6, l7, l8, l9, l10, l11] 7 (.int x)) st M Q := wp_step rfl rfl rfl rfl rfl
theorem u206_79 : wp scr n mb_206 79 [l0, l1, l2, l3, l4, l5, l6, some (.int x), l8, l9, l10, l11] st M Q ↔ wp scr n mb_206 81 [l0, l1, l2, l3, l4, l5, l6, some (.int x), l8, l9, l10, l11] (.int x :: st) M Q := wp_step rfl rfl rfl rfl rfl
theorem u206_81 : wp scr n mb_206 81 [some (.ref a), l1, l2, l3, l4, l5, l6, l7, l8, l9, l10, l11] st M Q ↔ wp scr n mb_206 82 [some (.ref a), l1, l2, l3, l4, l5, l6, l7, l8, l9, l10, l11] (.ref a :: st) M Q := wp_step rfl rfl rfl rfl rfl
theorem u206_82 : wp scr n mb_206 82 L (o :: st) M Q ↔ mw_o (mm_fld (mc_X scr) M o 6 6) (fun v => wp scr n mb_206 85 L (v :: st) M Q) := wp_getf rfl
theorem u206_85 : wp scr n mb_206 85 L (.int y :: .int x :: st) M Q ↔ (if y ≤ x then wp scr n mb_206 101 L st M Q else wp scr n mb_206 88 L st M Q) := (wp_step rfl rfl rfl rfl rfl).trans wp_ite
theorem u206_88 : wp scr n mb_206 88 [l0, l1, l2, l3, l4, some (.long z), l6, l7, l8, l9, l10, l11] st M Q ↔ wp scr n mb_206 90 [l0, l1, l2, l3, l4, some (.long z), l6, l7, l8, l9, l10, l11] (.long z :: st) M Q := wp_step rfl rfl rfl rfl rfl
theorem u206_90 : wp scr n mb_206 90 [l0, some (.int x), l2, l3, l4, l5, l6, l7, l8, l9, l10, l11] st M Q ↔ wp scr n mb_206 91 [l0, some (.int x), l2, l3, l4, l5, l6, l7, l8, l9, l10, l11] (.int x :: st) M Q := wp_step rfl rfl rfl rfl rfl
theorem u206_91 : wp scr n mb_206 91 L (.int x :: st) M Q ↔ wp scr n mb_206 92 L (.long x.toInt64 :: st) M Q := wp_step rfl rfl rfl rfl rfl
theorem u206_92 : wp scr n mb_206 92 L (.long w :: .long z :: st) M Q ↔ wp scr n mb_206 93 L (.long (z * w) :: st) M Q := wp_step rfl rfl rfl rfl rfl
theorem u206_93 : wp scr n mb_206 93 [l0, l1, l2, l3, l4, l5, l6, l7, l8, l9, l10, l11] (.long z :: st) M Q ↔ wp scr n mb_206 95 (mm_sto2 [l0, l1, l2, l3, l4, l5, l6, l7, l8, l9, l10, l11] 5 (.long z)) st M Q := wp_step rfl rfl rfl rfl rfl
theorem u206_95 : wp scr n mb_206 95 [l0, l1, l2, l3, l4, l5, l6, some (.int x), l8, l9, l10, l11] st M Q ↔ wp scr n mb_206 98 (mm_sto1 [l0, l1, l2, l3, l4, l5, l6, some (.int x), l8, l9, l10, l11] 7 (.int (x + 1))) st M Q := wp_step rfl rfl rfl rfl rfl
theorem u206_98 : wp scr n mb_206 98 L st M Q ↔ wp scr n mb_206 79 L st M Q := wp_step rfl rfl rfl rfl rfl
theorem u206_101 : wp scr n mb_206 101 L st M Q ↔ wp scr n mb_206 102 L (.int 0 :: st) M Q := wp_step rfl rfl rfl rfl rfl
theorem u206_102 : wp scr n mb_206 102 [l0, l1, l2, l3, l4, l5, l6, l7, l8, l9, l10, l11] (.int x :: st) M Q ↔ wp scr n mb_206 104 (mm_sto1 [l0, l1, l2, l3, l4, l5, l6, l7, l8, l9, l10, l11] 7 (.int x)) st M Q := wp_step rfl rfl rfl rfl rfl
theorem u206_104 : wp scr n mb_206 104 [l0, l1, l2, l3, l4, l5, l6, some (.int x), l8, l9, l10, l11] st M Q ↔ wp scr n mb_206 106 [l0, l1, l2, l3, l4, l5, l6, some (.int x), l8, l9, l10, l11] (.int x :: st) M Q := wp_step rfl rfl rfl rfl rfl
theorem u206_106 : wp scr n mb_206 106 L st M Q ↔ wp scr n mb_206 107 L (.int 1 :: st) M Q := wp_step rfl rfl rfl rfl rfl
theorem u206_107 : wp scr n mb_206 107 [some (.ref a), l1, l2, l3, l4, l5, l6, l7, l8, l9, l10, l11] st M Q ↔ wp scr n mb_206 108 [some (.ref a), l1, l2, l3, l4, l5, l6, l7, l8, l9, l10, l11] (.ref a :: st) M Q := wp_step rfl rfl rfl rfl rfl
theorem u206_108 : wp scr n mb_206 108 L (o :: st) M Q ↔ mw_o (mm_fld (mc_X scr) M o 6 6) (fun v => wp scr n mb_206 111 L (v :: st) M Q) := wp_getf rfl
theorem u206_111 : wp scr n mb_206 111 L (.int y :: .int x :: st) M Q ↔ wp scr n mb_206 112 L (.int (x <<< (y &&& 31)) :: st) M Q := wp_step rfl rfl rfl rfl rfl
theorem u206_112 : wp scr n mb_206 112 L (.int y :: .int x :: st) M Q ↔ (if y ≤ x then wp scr n mb_206 195 L st M Q else wp scr n mb_206 115 L st M Q) := (wp_step rfl rfl rfl rfl rfl).trans wp_ite
theorem u206_115 : wp scr n mb_206 115 [some (.ref a), l1, l2, l3, l4, l5, l6, l7, l8, l9, l10, l11] st M Q ↔ wp scr n mb_206 116 [some (.ref a), l1, l2, l3, l4, l5, l6, l7, l8, l9, l10, l11] (.ref a :: st) M Q := wp_step rfl rfl rfl rfl rfl
theorem u206_116 : wp scr n mb_206 116 [l0, l1, l2, l3, l4, l5, l6, some (.int x), l8, l9, l10, l11] st M Q ↔ wp scr n mb_206 118 [l0, l1, l2, l3, l4, l5, l6, some (.int x), l8, l9, l10, l11] (.int x :: st) M Q := wp_step rfl rfl rfl rfl rfl
theorem u206_118 : wp scr n mb_206 118 L (a2 :: .ref a :: st) M Q ↔ ((mw_r M a 6 ∧ mw_st st) ∧ Wp scr n 208 [.ref a, a2] M (fun r1 M1 => wp scr n mb_206 121 L (r1.toList ++ st) M1 Q)) := wp_vir rfl rfl rfl rfl rfl
theorem u206_121 : wp scr n mb_206 121 [l0, l1, l2, l3, l4, l5, l6, l7, l8, l9, l10, l11] (.int x :: st) M Q ↔ wp scr n mb_206 123 (mm_sto1 [l0, l1, l2, l3, l4, l5, l6, l7, l8, l9, l10, l11] 8 (.int x)) st M Q := wp_step rfl rfl rfl rfl rfl
theorem u206_123 : wp scr n mb_206 123 L st M Q ↔ wp scr n mb_206 124 L (.long 1 :: st) M Q := wp_step rfl rfl rfl rfl rfl
theorem u206_124 : wp scr n mb_206 124 [l0, l1, l2, l3, l4, l5, l6, l7, l8, l9, l10, l11] (.long z :: st) M Q ↔ wp scr n mb_206 126 (mm_sto2 [l0, l1, l2, l3, l4, l5, l6, l7, l8, l9, l10, l11] 9 (.long z)) st M Q := wp_step rfl rfl rfl rfl rfl
theorem u206_126 : wp scr n mb_206 126 L st M Q ↔ wp scr n mb_206 127 L (.int 0 :: st) M Q := wp_step rfl rfl rfl rfl rfl
theorem u206_127 : wp scr n mb_206 127 [l0, l1, l2, l3, l4, l5, l6, l7, l8, l9, l10, l11] (.int x :: st) M Q ↔ wp scr n mb_206 129 (mm_sto1 [l0, l1, l2, l3, l4, l5, l6, l7, l8, l9, l10, l11] 11 (.int x)) st M Q := wp_step rfl rfl rfl rfl rfl
theorem u206_129 : wp scr n mb_206 129 [l0, l1, l2, l3, l4, l5, l6, l7, l8, l9, l10, some (.int x)] st M Q ↔ wp scr n mb_206 131 [l0, l1, l2, l3, l4, l5, l6, l7, l8, l9, l10, some (.int x)] (.int x :: st) M Q := wp_step rfl rfl rfl rfl rfl
theorem u206_131 : wp scr n mb_206 131 [some (.ref a), l1, l2, l3, l4, l5, l6, l7, l8, l9, l10, l11] st M Q ↔ wp scr n mb_206 132 [some (.ref a), l1, l2, l3, l4, l5, l6, l7, l8, l9, l10, l11] (.ref a :: st) M Q := wp_step rfl rfl rfl rfl rfl
theorem u206_132 : wp scr n mb_206 132 L (o :: st) M Q ↔ mw_o (mm_fld (mc_X scr) M o 6 6) (fun v => wp scr n mb_206 135 L (v :: st) M Q) := wp_getf rfl
theorem u206_135 : wp scr n mb_206 135 L (.int y :: .int x :: st) M Q ↔ (if y ≤ x then wp scr n mb_206 168 L st M Q else wp scr n mb_206 138 L st M Q) := (wp_step rfl rfl rfl rfl rfl).trans wp_ite
theorem u206_138 : wp scr n mb_206 138 [l0, l1, l2, l3, l4, l5, l6, l7, l8, some (.long z), l10, l11] st M Q ↔ wp scr n mb_206 140 [l0, l1, l2, l3, l4, l5, l6, l7, l8, some (.long z), l10, l11] (.long z :: st) M Q := wp_step rfl rfl rfl rfl rfl
theorem u206_140 : wp scr n mb_206 140 [l0, l1, l2, l3, l4, l5, l6, some (.int x), l8, l9, l10, l11] st M Q ↔ wp scr n mb_206 142 [l0, l1, l2, l3, l4, l5, l6, some (.int x), l8, l9, l10, l11] (.int x :: st) M Q := wp_step rfl rfl rfl rfl rfl
theorem u206_142 : wp scr n mb_206 142 [l0, l1, l2, l3, l4, l5, l6, l7, l8, l9, l10, some (.int x)] st M Q ↔ wp scr n mb_206 144 [l0, l1, l2, l3, l4, l5, l6, l7, l8, l9, l10, some (.int x)] (.int x :: st) M Q := wp_step rfl rfl rfl rfl rfl
theorem u206_144 : wp scr n mb_206 144 L (.int y :: .int x :: st) M Q ↔ wp scr n mb_206 145 L (.int (x >>> (y &&& 31)) :: st) M Q := wp_step rfl rfl rfl rfl rfl
theorem u206_145 : wp scr n mb_206 145 L st M Q ↔ wp scr n mb_206 146 L (.int 1 :: st) M Q := wp_step rfl rfl rfl rfl rfl
theorem u206_146 : wp scr n mb_206 146 L (.int y :: .int x :: st) M Q ↔ wp scr n mb_206 147 L (.int (x &&& y) :: st) M Q := wp_step rfl rfl rfl rfl rfl
theorem u206_147 : wp scr n mb_206 147 L st M Q ↔ wp scr n mb_206 148 L (.int 1 :: st) M Q := wp_step rfl rfl rfl rfl rfl
theorem u206_148 : wp scr n mb_206 148 L (.int y :: .int x :: st) M Q ↔ (if x = y then wp scr n mb_206 151 L st M Q else wp scr n mb_206 155 L st M Q) := (wp_step rfl rfl rfl rfl rfl).trans wp_iten
theorem u206_151 : wp scr n mb_206 151 L st M Q ↔ wp scr n mb_206 152 L (.long 1 :: st) M Q := wp_step rfl rfl rfl rfl rfl
theorem u206_152 : wp scr n mb_206 152 L st M Q ↔ wp scr n mb_206 159 L st M Q := wp_step rfl rfl rfl rfl rfl
theorem u206_155 : wp scr n mb_206 155 [l0, some (.int x), l2, l3, l4, l5, l6, l7, l8, l9, l10, l11] st M Q ↔ wp scr n mb_206 156 [l0, some (.int x), l2, l3, l4, l5, l6, l7, l8, l9, l10, l11] (.int x :: st) M Q := wp_step rfl rfl rfl rfl rfl
theorem u206_156 : wp scr n mb_206 156 L (.int x :: st) M Q ↔ wp scr n mb_206 157 L (.long x.toInt64 :: st) M Q := wp_step rfl rfl rfl rfl rfl
theorem u206_157 : wp scr n mb_206 157 L st M Q ↔ wp scr n mb_206 158 L (.long 1 :: st) M Q := wp_step rfl rfl rfl rfl rfl
theorem u206_158 : wp scr n mb_206 158 L (.long w :: .long z :: st) M Q ↔ wp scr n mb_206 159 L (.long (z - w) :: st) M Q := wp_step rfl rfl rfl rfl rfl
theorem u206_159 : wp scr n mb_206 159 L (.long w :: .long z :: st) M Q ↔ wp scr n mb_206 160 L (.long (z * w) :: st) M Q := wp_step rfl rfl rfl rfl rfl
theorem u206_160 : wp scr n mb_206 160 [l0, l1, l2, l3, l4, l5, l6, l7, l8, l9, l10, l11] (.long z :: st) M Q ↔ wp scr n mb_206 162 (mm_sto2 [l0, l1, l2, l3, l4, l5, l6, l7, l8, l9, l10, l11] 9 (.long z)) st M Q := wp_step rfl rfl rfl rfl rfl
theorem u206_162 : wp scr n mb_206 162 [l0, l1, l2, l3, l4, l5, l6, l7, l8, l9, l10, some (.int x)] st M Q ↔ wp scr n mb_206 165 (mm_sto1 [l0, l1, l2, l3, l4, l5, l6, l7, l8, l9, l10, some (.int x)] 11 (.int (x + 1))) st M Q := wp_step rfl rfl rfl rfl rfl
theorem u206_165 : wp scr n mb_206 165 L st M Q ↔ wp scr n mb_206 129 L st M Q := wp_step rfl rfl rfl rfl rfl
theorem u206_168 : wp scr n mb_206 168 [l0, l1, l2, some (.long z), l4, l5, l6, l7, l8, l9, l10, l11] st M Q ↔ wp scr n mb_206 169 [l0, l1, l2, some (.long z), l4, l5, l6, l7, l8, l9, l10, l11] (.long z :: st) M Q := wp_step rfl rfl rfl rfl rfl
theorem u206_169 : wp scr n mb_206 169 [some (.ref a), l1, l2, l3, l4, l5, l6, l7, l8, l9, l10, l11] st M Q ↔ wp scr n mb_206 170 [some (.ref a), l1, l2, l3, l4, l5, l6, l7, l8, l9, l10, l11] (.ref a :: st) M Q := wp_step rfl rfl rfl rfl rfl
theorem u206_170 : wp scr n mb_206 170 L (o :: st) M Q ↔ mw_o (mm_fld (mc_X scr) M o 6 2) (fun v => wp scr n mb_206 173 L (v :: st) M Q) := wp_getf rfl
theorem u206_173 : wp scr n mb_206 173 L st M Q ↔ wp scr n mb_206 174 L (.int 0 :: st) M Q := wp_step rfl rfl rfl rfl rfl
theorem u206_174 : wp scr n mb_206 174 L (.int y :: .ref a :: st) M Q ↔ mw_o (mm_lda M a y) (fun v => wp scr n mb_206 175 L (v :: st) M Q) := wp_aald rfl
theorem u206_175 : wp scr n mb_206 175 L (a1 :: st) M Q ↔ (mw_st st ∧ Wp scr n 183 [a1] M (fun r1 M1 => wp scr n mb_206 178 L (r1.toList ++ st) M1 Q)) := wp_sta rfl rfl rfl rfl
theorem u206_178 : wp scr n mb_206 178 L (.int x :: st) M Q ↔ (if x = 0 then wp scr n mb_206 186 L st M Q else wp scr n mb_206 181 L st M Q) := (wp_step rfl rfl rfl rfl rfl).trans wp_ite
theorem u206_181 : wp scr n mb_206 181 [l0, l1, l2, l3, l4, l5, l6, l7, l8, some (.long z), l10, l11] st M Q ↔ wp scr n mb_206 183 [l0, l1, l2, l3, l4, l5, l6, l7, l8, some (.long z), l10, l11] (.long z :: st) M Q := wp_step rfl rfl rfl rfl rfl
theorem u206_183 : wp scr n mb_206 183 L st M Q ↔ wp scr n mb_206 187 L st M Q := wp_step rfl rfl rfl rfl rfl
theorem u206_186 : wp scr n mb_206 186 L st M Q ↔ wp scr n mb_206 187 L (.long 0 :: st) M Q := wp_step rfl rfl rfl rfl rfl
theorem u206_187 : wp scr n mb_206 187 L (.long w :: .long z :: st) M Q ↔ wp scr n mb_206 188 L (.long (z + w) :: st) M Q := wp_step rfl rfl rfl rfl rfl
theorem u206_188 : wp scr n mb_206 188 [l0, l1, l2, l3, l4, l5, l6, l7, l8, l9, l10, l11] (.long z :: st) M Q ↔ wp scr n mb_206 189 (mm_sto2 [l0, l1, l2, l3, l4, l5, l6, l7, l8, l9, l10, l11] 3 (.long z)) st M Q := wp_step rfl rfl rfl rfl rfl
theorem u206_189 : wp scr n mb_206 189 [l0, l1, l2, l3, l4, l5, l6, some (.int x), l8, l9, l10, l11] st M Q ↔ wp scr n mb_206 192 (mm_sto1 [l0, l1, l2, l3, l4, l5, l6, some (.int x), l8, l9, l10, l11] 7 (.int (x + 1))) st M Q := wp_step rfl rfl rfl rfl rfl
theorem u206_192 : wp scr n mb_206 192 L st M Q ↔ wp scr n mb_206 104 L st M Q := wp_step rfl rfl rfl rfl rfl
theorem u206_195 : wp scr n mb_206 195 [l0, l1, l2, some (.long z), l4, l5, l6, l7, l8, l9, l10, l11] st M Q ↔ wp scr n mb_206 196 [l0, l1, l2, some (.long z), l4, l5, l6, l7, l8, l9, l10, l11] (.long z :: st) M Q := wp_step rfl rfl rfl rfl rfl
theorem u206_196 : wp scr n mb_206 196 [l0, l1, l2, l3, l4, some (.long z), l6, l7, l8, l9, l10, l11] st M Q ↔ wp scr n mb_206 198 [l0, l1, l2, l3, l4, some (.long z), l6, l7, l8, l9, l10, l11] (.long z :: st) M Q := wp_step rfl rfl rfl rfl rfl
theorem u206_198 : wp scr n mb_206 198 [l0, l1, some (.int x), l3, l4, l5, l6, l7, l8, l9, l10, l11] st M Q ↔ wp scr n mb_206 199 [l0, l1, some (.int x), l3, l4, l5, l6, l7, l8, l9, l10, l11] (.int x :: st) M Q := wp_step rfl rfl rfl rfl rfl
theorem u206_199 : wp scr n mb_206 199 L (a3 :: a2 :: a1 :: st) M Q ↔ (mw_st st ∧ Wp scr n 209 [a1, a2, a3] M (fun r1 M1 => wp scr n mb_206 202 L (r1.toList ++ st) M1 Q)) := wp_sta rfl rfl rfl rfl
theorem u206_202 : wp scr n mb_206 202 L [.long z] M Q ↔ Q (some (.long z)) M := wp_ret rfl rfl
theorem e206 : Wp scr (n + 1) 206 [.ref a0, .int x1, .int x2] M Q ↔ wp scr n mb_206 0 [some (.ref a0), some (.int x1), some (.int x2), none, none, none, none, none, none, none, none, none] [] M Q := Wp_to rfl rfl rfl
/-- SmallerInTheShopModel refusedLong (I)J -/
def mb_207 : mw_B := ((Option.some FieldType.long), mp_207)
theorem u207_0 : wp scr n mb_207 0 L st M Q ↔ wp scr n mb_207 3 L (.long (4000000000000000000) :: st) M Q := wp_step rfl rfl rfl rfl rfl
theorem u207_3 : wp scr n mb_207 3 [some (.ref a), l1] st M Q ↔ wp scr n mb_207 4 [some (.ref a), l1] (.ref a :: st) M Q := wp_step rfl rfl rfl rfl rfl
theorem u207_4 : wp scr n mb_207 4 [l0, some (.int x)] st M Q ↔ wp scr n mb_207 5 [l0, some (.int x)] (.int x :: st) M Q := wp_step rfl rfl rfl rfl rfl
theorem u207_5 : wp scr n mb_207 5 L (a2 :: .ref a :: st) M Q ↔ ((mw_r M a 6 ∧ mw_st st) ∧ Wp scr n 141 [.ref a, a2] M (fun r1 M1 => wp scr n mb_207 8 L (r1.toList ++ st) M1 Q)) := wp_vir rfl rfl rfl rfl rfl
theorem u207_8 : wp scr n mb_207 8 L (.int x :: st) M Q ↔ wp scr n mb_207 9 L (.long x.toInt64 :: st) M Q := wp_step rfl rfl rfl rfl rfl
theorem u207_9 : wp scr n mb_207 9 L (.long w :: .long z :: st) M Q ↔ wp scr n mb_207 10 L (.long (z - w) :: st) M Q := wp_step rfl rfl rfl rfl rfl
theorem u207_10 : wp scr n mb_207 10 L [.long z] M Q ↔ Q (some (.long z)) M := wp_ret rfl rfl
theorem e207 : Wp scr (n + 1) 207 [.ref a0, .int x1] M Q ↔ wp scr n mb_207 0 [some (.ref a0), some (.int x1)] [] M Q := Wp_to rfl rfl rfl
/-- SmallerInTheShopModel goes (I)I -/
def mb_208 : mw_B := ((Option.some FieldType.int), mp_208)
theorem u208_0 : wp scr n mb_208 0 [some (.ref a), l1, l2, l3, l4] st M Q ↔ wp scr n mb_208 1 [some (.ref a), l1, l2, l3, l4] (.ref a :: st) M Q := wp_step rfl rfl rfl rfl rfl
theorem u208_1 : wp scr n mb_208 1 L (o :: st) M Q ↔ mw_o (mm_fld (mc_X scr) M o 6 0) (fun v => wp scr n mb_208 4 L (v :: st) M Q) := wp_getf rfl
theorem u208_4 : wp scr n mb_208 4 [some (.ref a), l1, l2, l3, l4] st M Q ↔ wp scr n mb_208 5 [some (.ref a), l1, l2, l3, l4] (.ref a :: st) M Q := wp_step rfl rfl rfl rfl rfl
theorem u208_5 : wp scr n mb_208 5 L (o :: st) M Q ↔ mw_o (mm_fld (mc_X scr) M o 6 2) (fun v => wp scr n mb_208 8 L (v :: st) M Q) := wp_getf rfl
theorem u208_8 : wp scr n mb_208 8 L st M Q ↔ wp scr n mb_208 9 L (.int 0 :: st) M Q := wp_step rfl rfl rfl rfl rfl
theorem u208_9 : wp scr n mb_208 9 L (.int y :: .ref a :: st) M Q ↔ mw_o (mm_lda M a y) (fun v => wp scr n mb_208 10 L (v :: st) M Q) := wp_aald rfl
theorem u208_10 : wp scr n mb_208 10 L (a2 :: a1 :: st) M Q ↔ (mw_st st ∧ Wp scr n 147 [a1, a2] M (fun r1 M1 => wp scr n mb_208 13 L (r1.toList ++ st) M1 Q)) := wp_sta rfl rfl rfl rfl
theorem u208_13 : wp scr n mb_208 13 L st M Q ↔ wp scr n mb_208 14 L (.int 0 :: st) M Q := wp_step rfl rfl rfl rfl rfl
theorem u208_14 : wp scr n mb_208 14 [l0, l1, l2, l3, l4] (.int x :: st) M Q ↔ wp scr n mb_208 15 (mm_sto1 [l0, l1, l2, l3, l4] 2 (.int x)) st M Q := wp_step rfl rfl rfl rfl rfl
theorem u208_15 : wp scr n mb_208 15 [l0, l1, some (.int x), l3, l4] st M Q ↔ wp scr n mb_208 16 [l0, l1, some (.int x), l3, l4] (.int x :: st) M Q := wp_step rfl rfl rfl rfl rfl
theorem u208_16 : wp scr n mb_208 16 [some (.ref a), l1, l2, l3, l4] st M Q ↔ wp scr n mb_208 17 [some (.ref a), l1, l2, l3, l4] (.ref a :: st) M Q := wp_step rfl rfl rfl rfl rfl
theorem u208_17 : wp scr n mb_208 17 L (o :: st) M Q ↔ mw_o (mm_fld (mc_X scr) M o 6 6) (fun v => wp scr n mb_208 20 L (v :: st) M Q) := wp_getf rfl
theorem u208_20 : wp scr n mb_208 20 L (.int y :: .int x :: st) M Q ↔ (if y ≤ x then wp scr n mb_208 104 L st M Q else wp scr n mb_208 23 L st M Q) := (wp_step rfl rfl rfl rfl rfl).trans wp_ite
theorem u208_23 : wp scr n mb_208 23 [some (.ref a), l1, l2, l3, l4] st M Q ↔ wp scr n mb_208 24 [some (.ref a), l1, l2, l3, l4] (.ref a :: st) M Q := wp_step rfl rfl rfl rfl rfl
theorem u208_24 : wp scr n mb_208 24 L (o :: st) M Q ↔ mw_o (mm_fld (mc_X scr) M o 6 5) (fun v => wp scr n mb_208 27 L (v :: st) M Q) := wp_getf rfl
theorem u208_27 : wp scr n mb_208 27 [l0, l1, some (.int x), l3, l4] st M Q ↔ wp scr n mb_208 28 [l0, l1, some (.int x), l3, l4] (.int x :: st) M Q := wp_step rfl rfl rfl rfl rfl
theorem u208_28 : wp scr n mb_208 28 L (.int y :: o :: st) M Q ↔ mw_o (mm_ld (mc_X scr) M o y) (fun x => wp scr n mb_208 29 L (.int x :: st) M Q) := wp_iald rfl
theorem u208_29 : wp scr n mb_208 29 L st M Q ↔ wp scr n mb_208 31 L (.int 10 :: st) M Q := wp_step rfl rfl rfl rfl rfl
theorem u208_31 : wp scr n mb_208 31 L (.int y :: .int x :: st) M Q ↔ (if y = 0 then False else wp scr n mb_208 32 L (.int (x - x / y * y) :: st) M Q) := wp_irem rfl
theorem u208_32 : wp scr n mb_208 32 [l0, l1, l2, l3, l4] (.int x :: st) M Q ↔ wp scr n mb_208 33 (mm_sto1 [l0, l1, l2, l3, l4] 3 (.int x)) st M Q := wp_step rfl rfl rfl rfl rfl
theorem u208_33 : wp scr n mb_208 33 [some (.ref a), l1, l2, l3, l4] st M Q ↔ wp scr n mb_208 34 [some (.ref a), l1, l2, l3, l4] (.ref a :: st) M Q := wp_step rfl rfl rfl rfl rfl
theorem u208_34 : wp scr n mb_208 34 L (o :: st) M Q ↔ mw_o (mm_fld (mc_X scr) M o 6 2) (fun v => wp scr n mb_208 37 L (v :: st) M Q) := wp_getf rfl
theorem u208_37 : wp scr n mb_208 37 L st M Q ↔ wp scr n mb_208 38 L (.int 0 :: st) M Q := wp_step rfl rfl rfl rfl rfl
theorem u208_38 : wp scr n mb_208 38 L (.int y :: .ref a :: st) M Q ↔ mw_o (mm_lda M a y) (fun v => wp scr n mb_208 39 L (v :: st) M Q) := wp_aald rfl
theorem u208_39 : wp scr n mb_208 39 [some (.ref a), l1, l2, l3, l4] st M Q ↔ wp scr n mb_208 40 [some (.ref a), l1, l2, l3, l4] (.ref a :: st) M Q := wp_step rfl rfl rfl rfl rfl
theorem u208_40 : wp scr n mb_208 40 L (o :: st) M Q ↔ mw_o (mm_fld (mc_X scr) M o 6 5) (fun v => wp scr n mb_208 43 L (v :: st) M Q) := wp_getf rfl
theorem u208_43 : wp scr n mb_208 43 [l0, l1, some (.int x), l3, l4] st M Q ↔ wp scr n mb_208 44 [l0, l1, some (.int x), l3, l4] (.int x :: st) M Q := wp_step rfl rfl rfl rfl rfl
theorem u208_44 : wp scr n mb_208 44 L (.int y :: o :: st) M Q ↔ mw_o (mm_ld (mc_X scr) M o y) (fun x => wp scr n mb_208 45 L (.int x :: st) M Q) := wp_iald rfl
theorem u208_45 : wp scr n mb_208 45 L st M Q ↔ wp scr n mb_208 47 L (.int 10 :: st) M Q := wp_step rfl rfl rfl rfl rfl
theorem u208_47 : wp scr n mb_208 47 L (.int y :: .int x :: st) M Q ↔ (if y = 0 then False else wp scr n mb_208 48 L (.int (x / y) :: st) M Q) := wp_idiv rfl
theorem u208_48 : wp scr n mb_208 48 L (a2 :: a1 :: st) M Q ↔ (mw_st st ∧ Wp scr n 150 [a1, a2] M (fun r1 M1 => wp scr n mb_208 51 L (r1.toList ++ st) M1 Q)) := wp_sta rfl rfl rfl rfl
theorem u208_51 : wp scr n mb_208 51 L (.int x :: st) M Q ↔ (if x = 0 then wp scr n mb_208 59 L st M Q else wp scr n mb_208 54 L st M Q) := (wp_step rfl rfl rfl rfl rfl).trans wp_ite
theorem u208_54 : wp scr n mb_208 54 [l0, l1, l2, some (.int x), l4] st M Q ↔ wp scr n mb_208 55 [l0, l1, l2, some (.int x), l4] (.int x :: st) M Q := wp_step rfl rfl rfl rfl rfl
theorem u208_55 : wp scr n mb_208 55 L st M Q ↔ wp scr n mb_208 56 L (.int 3 :: st) M Q := wp_step rfl rfl rfl rfl rfl
theorem u208_56 : wp scr n mb_208 56 L (.int y :: .int x :: st) M Q ↔ (if x ≤ y then wp scr n mb_208 61 L st M Q else wp scr n mb_208 59 L st M Q) := (wp_step rfl rfl rfl rfl rfl).trans wp_ite
theorem u208_59 : wp scr n mb_208 59 [l0, l1, some (.int x), l3, l4] st M Q ↔ wp scr n mb_208 60 [l0, l1, some (.int x), l3, l4] (.int x :: st) M Q := wp_step rfl rfl rfl rfl rfl
theorem u208_60 : wp scr n mb_208 60 L [.int x] M Q ↔ Q (some (.int x)) M := wp_ret rfl rfl
theorem u208_61 : wp scr n mb_208 61 [some (.ref a), l1, l2, l3, l4] st M Q ↔ wp scr n mb_208 62 [some (.ref a), l1, l2, l3, l4] (.ref a :: st) M Q := wp_step rfl rfl rfl rfl rfl
theorem u208_62 : wp scr n mb_208 62 [some (.ref a), l1, l2, l3, l4] st M Q ↔ wp scr n mb_208 63 [some (.ref a), l1, l2, l3, l4] (.ref a :: st) M Q := wp_step rfl rfl rfl rfl rfl
theorem u208_63 : wp scr n mb_208 63 L (o :: st) M Q ↔ mw_o (mm_fld (mc_X scr) M o 6 2) (fun v => wp scr n mb_208 66 L (v :: st) M Q) := wp_getf rfl
theorem u208_66 : wp scr n mb_208 66 L st M Q ↔ wp scr n mb_208 67 L (.int 0 :: st) M Q := wp_step rfl rfl rfl rfl rfl
theorem u208_67 : wp scr n mb_208 67 L (.int y :: .ref a :: st) M Q ↔ mw_o (mm_lda M a y) (fun v => wp scr n mb_208 68 L (v :: st) M Q) := wp_aald rfl
theorem u208_68 : wp scr n mb_208 68 [some (.ref a), l1, l2, l3, l4] st M Q ↔ wp scr n mb_208 69 [some (.ref a), l1, l2, l3, l4] (.ref a :: st) M Q := wp_step rfl rfl rfl rfl rfl
theorem u208_69 : wp scr n mb_208 69 L (o :: st) M Q ↔ mw_o (mm_fld (mc_X scr) M o 6 5) (fun v => wp scr n mb_208 72 L (v :: st) M Q) := wp_getf rfl
theorem u208_72 : wp scr n mb_208 72 [l0, l1, some (.int x), l3, l4] st M Q ↔ wp scr n mb_208 73 [l0, l1, some (.int x), l3, l4] (.int x :: st) M Q := wp_step rfl rfl rfl rfl rfl
theorem u208_73 : wp scr n mb_208 73 L (.int y :: o :: st) M Q ↔ mw_o (mm_ld (mc_X scr) M o y) (fun x => wp scr n mb_208 74 L (.int x :: st) M Q) := wp_iald rfl
theorem u208_74 : wp scr n mb_208 74 L st M Q ↔ wp scr n mb_208 76 L (.int 10 :: st) M Q := wp_step rfl rfl rfl rfl rfl
theorem u208_76 : wp scr n mb_208 76 L (.int y :: .int x :: st) M Q ↔ (if y = 0 then False else wp scr n mb_208 77 L (.int (x / y) :: st) M Q) := wp_idiv rfl
theorem u208_77 : wp scr n mb_208 77 [l0, some (.int x), l2, l3, l4] st M Q ↔ wp scr n mb_208 78 [l0, some (.int x), l2, l3, l4] (.int x :: st) M Q := wp_step rfl rfl rfl rfl rfl
theorem u208_78 : wp scr n mb_208 78 [l0, l1, some (.int x), l3, l4] st M Q ↔ wp scr n mb_208 79 [l0, l1, some (.int x), l3, l4] (.int x :: st) M Q := wp_step rfl rfl rfl rfl rfl
theorem u208_79 : wp scr n mb_208 79 L (.int y :: .int x :: st) M Q ↔ wp scr n mb_208 80 L (.int (x >>> (y &&& 31)) :: st) M Q := wp_step rfl rfl rfl rfl rfl
theorem u208_80 : wp scr n mb_208 80 L st M Q ↔ wp scr n mb_208 81 L (.int 1 :: st) M Q := wp_step rfl rfl rfl rfl rfl
theorem u208_81 : wp scr n mb_208 81 L (.int y :: .int x :: st) M Q ↔ wp scr n mb_208 82 L (.int (x &&& y) :: st) M Q := wp_step rfl rfl rfl rfl rfl
theorem u208_82 : wp scr n mb_208 82 L st M Q ↔ wp scr n mb_208 83 L (.int 1 :: st) M Q := wp_step rfl rfl rfl rfl rfl
theorem u208_83 : wp scr n mb_208 83 L (.int y :: .int x :: st) M Q ↔ (if x = y then wp scr n mb_208 86 L st M Q else wp scr n mb_208 92 L st M Q) := (wp_step rfl rfl rfl rfl rfl).trans wp_iten
theorem u208_86 : wp scr n mb_208 86 [l0, l1, l2, some (.int x), l4] st M Q ↔ wp scr n mb_208 87 [l0, l1, l2, some (.int x), l4] (.int x :: st) M Q := wp_step rfl rfl rfl rfl rfl
theorem u208_87 : wp scr n mb_208 87 L st M Q ↔ wp scr n mb_208 88 L (.int 1 :: st) M Q := wp_step rfl rfl rfl rfl rfl
theorem u208_88 : wp scr n mb_208 88 L (.int y :: .int x :: st) M Q ↔ wp scr n mb_208 89 L (.int (x ^^^ y) :: st) M Q := wp_step rfl rfl rfl rfl rfl
theorem u208_89 : wp scr n mb_208 89 L st M Q ↔ wp scr n mb_208 93 L st M Q := wp_step rfl rfl rfl rfl rfl
theorem u208_92 : wp scr n mb_208 92 [l0, l1, l2, some (.int x), l4] st M Q ↔ wp scr n mb_208 93 [l0, l1, l2, some (.int x), l4] (.int x :: st) M Q := wp_step rfl rfl rfl rfl rfl
theorem u208_93 : wp scr n mb_208 93 L (a4 :: a3 :: a2 :: .ref a :: st) M Q ↔ ((mw_r M a 6 ∧ mw_st st) ∧ Wp scr n 152 [.ref a, a2, a3, a4] M (fun r1 M1 => wp scr n mb_208 96 L (r1.toList ++ st) M1 Q)) := wp_vir rfl rfl rfl rfl rfl
theorem u208_96 : wp scr n mb_208 96 [l0, l1, l2, l3, l4] (.int x :: st) M Q ↔ wp scr n mb_208 98 (mm_sto1 [l0, l1, l2, l3, l4] 4 (.int x)) st M Q := wp_step rfl rfl rfl rfl rfl
theorem u208_98 : wp scr n mb_208 98 [l0, l1, some (.int x), l3, l4] st M Q ↔ wp scr n mb_208 101 (mm_sto1 [l0, l1, some (.int x), l3, l4] 2 (.int (x + 1))) st M Q := wp_step rfl rfl rfl rfl rfl
theorem u208_101 : wp scr n mb_208 101 L st M Q ↔ wp scr n mb_208 15 L st M Q := wp_step rfl rfl rfl rfl rfl
theorem u208_104 : wp scr n mb_208 104 L st M Q ↔ wp scr n mb_208 106 L (.int (-9) :: st) M Q := wp_step rfl rfl rfl rfl rfl
theorem u208_106 : wp scr n mb_208 106 L [.int x] M Q ↔ Q (some (.int x)) M := wp_ret rfl rfl
theorem e208 : Wp scr (n + 1) 208 [.ref a0, .int x1] M Q ↔ wp scr n mb_208 0 [some (.ref a0), some (.int x1), none, none, none] [] M Q := Wp_to rfl rfl rfl
/-- SmallerInTheShopModel lowest (JJI)J -/
def mb_209 : mw_B := ((Option.some FieldType.long), mp_209)
theorem u209_0 : wp scr n mb_209 0 [some (.long z), l1, l2, l3, l4, l5, l6, l7, l8, l9, l10] st M Q ↔ wp scr n mb_209 1 [some (.long z), l1, l2, l3, l4, l5, l6, l7, l8, l9, l10] (.long z :: st) M Q := wp_step rfl rfl rfl rfl rfl
theorem u209_1 : wp scr n mb_209 1 [l0, l1, l2, l3, l4, l5, l6, l7, l8, l9, l10] (.long z :: st) M Q ↔ wp scr n mb_209 3 (mm_sto2 [l0, l1, l2, l3, l4, l5, l6, l7, l8, l9, l10] 5 (.long z)) st M Q := wp_step rfl rfl rfl rfl rfl
theorem u209_3 : wp scr n mb_209 3 [l0, l1, some (.long z), l3, l4, l5, l6, l7, l8, l9, l10] st M Q ↔ wp scr n mb_209 4 [l0, l1, some (.long z), l3, l4, l5, l6, l7, l8, l9, l10] (.long z :: st) M Q := wp_step rfl rfl rfl rfl rfl
theorem u209_4 : wp scr n mb_209 4 [l0, l1, l2, l3, l4, l5, l6, l7, l8, l9, l10] (.long z :: st) M Q ↔ wp scr n mb_209 6 (mm_sto2 [l0, l1, l2, l3, l4, l5, l6, l7, l8, l9, l10] 7 (.long z)) st M Q := wp_step rfl rfl rfl rfl rfl
theorem u209_6 : wp scr n mb_209 6 [l0, l1, l2, l3, l4, l5, l6, some (.long z), l8, l9, l10] st M Q ↔ wp scr n mb_209 8 [l0, l1, l2, l3, l4, l5, l6, some (.long z), l8, l9, l10] (.long z :: st) M Q := wp_step rfl rfl rfl rfl rfl
theorem u209_8 : wp scr n mb_209 8 L st M Q ↔ wp scr n mb_209 9 L (.long 0 :: st) M Q := wp_step rfl rfl rfl rfl rfl
theorem u209_9 : wp scr n mb_209 9 L (.long w :: .long z :: st) M Q ↔ wp scr n mb_209 10 L (.int (lg_cmp z w) :: st) M Q := wp_step rfl rfl rfl rfl rfl
theorem u209_10 : wp scr n mb_209 10 L (.int x :: st) M Q ↔ (if x = 0 then wp scr n mb_209 31 L st M Q else wp scr n mb_209 13 L st M Q) := (wp_step rfl rfl rfl rfl rfl).trans wp_ite
theorem u209_13 : wp scr n mb_209 13 [l0, l1, l2, l3, l4, some (.long z), l6, l7, l8, l9, l10] st M Q ↔ wp scr n mb_209 15 [l0, l1, l2, l3, l4, some (.long z), l6, l7, l8, l9, l10] (.long z :: st) M Q := wp_step rfl rfl rfl rfl rfl
theorem u209_15 : wp scr n mb_209 15 [l0, l1, l2, l3, l4, l5, l6, some (.long z), l8, l9, l10] st M Q ↔ wp scr n mb_209 17 [l0, l1, l2, l3, l4, l5, l6, some (.long z), l8, l9, l10] (.long z :: st) M Q := wp_step rfl rfl rfl rfl rfl
theorem u209_17 : wp scr n mb_209 17 L (.long w :: .long z :: st) M Q ↔ (if w = 0 then False else wp scr n mb_209 18 L (.long (z - z / w * w) :: st) M Q) := wp_lrem rfl
theorem u209_18 : wp scr n mb_209 18 [l0, l1, l2, l3, l4, l5, l6, l7, l8, l9, l10] (.long z :: st) M Q ↔ wp scr n mb_209 20 (mm_sto2 [l0, l1, l2, l3, l4, l5, l6, l7, l8, l9, l10] 9 (.long z)) st M Q := wp_step rfl rfl rfl rfl rfl
theorem u209_20 : wp scr n mb_209 20 [l0, l1, l2, l3, l4, l5, l6, some (.long z), l8, l9, l10] st M Q ↔ wp scr n mb_209 22 [l0, l1, l2, l3, l4, l5, l6, some (.long z), l8, l9, l10] (.long z :: st) M Q := wp_step rfl rfl rfl rfl rfl
theorem u209_22 : wp scr n mb_209 22 [l0, l1, l2, l3, l4, l5, l6, l7, l8, l9, l10] (.long z :: st) M Q ↔ wp scr n mb_209 24 (mm_sto2 [l0, l1, l2, l3, l4, l5, l6, l7, l8, l9, l10] 5 (.long z)) st M Q := wp_step rfl rfl rfl rfl rfl
theorem u209_24 : wp scr n mb_209 24 [l0, l1, l2, l3, l4, l5, l6, l7, l8, some (.long z), l10] st M Q ↔ wp scr n mb_209 26 [l0, l1, l2, l3, l4, l5, l6, l7, l8, some (.long z), l10] (.long z :: st) M Q := wp_step rfl rfl rfl rfl rfl
theorem u209_26 : wp scr n mb_209 26 [l0, l1, l2, l3, l4, l5, l6, l7, l8, l9, l10] (.long z :: st) M Q ↔ wp scr n mb_209 28 (mm_sto2 [l0, l1, l2, l3, l4, l5, l6, l7, l8, l9, l10] 7 (.long z)) st M Q := wp_step rfl rfl rfl rfl rfl
theorem u209_28 : wp scr n mb_209 28 L st M Q ↔ wp scr n mb_209 6 L st M Q := wp_step rfl rfl rfl rfl rfl
theorem u209_31 : wp scr n mb_209 31 [l0, l1, l2, l3, some (.int x), l5, l6, l7, l8, l9, l10] st M Q ↔ wp scr n mb_209 33 [l0, l1, l2, l3, some (.int x), l5, l6, l7, l8, l9, l10] (.int x :: st) M Q := wp_step rfl rfl rfl rfl rfl
theorem u209_33 : wp scr n mb_209 33 L (.int x :: st) M Q ↔ (if x = 0 then wp scr n mb_209 36 L st M Q else wp scr n mb_209 40 L st M Q) := (wp_step rfl rfl rfl rfl rfl).trans wp_iten
theorem u209_36 : wp scr n mb_209 36 [some (.long z), l1, l2, l3, l4, l5, l6, l7, l8, l9, l10] st M Q ↔ wp scr n mb_209 37 [some (.long z), l1, l2, l3, l4, l5, l6, l7, l8, l9, l10] (.long z :: st) M Q := wp_step rfl rfl rfl rfl rfl
theorem u209_37 : wp scr n mb_209 37 L st M Q ↔ wp scr n mb_209 41 L st M Q := wp_step rfl rfl rfl rfl rfl
theorem u209_40 : wp scr n mb_209 40 [l0, l1, some (.long z), l3, l4, l5, l6, l7, l8, l9, l10] st M Q ↔ wp scr n mb_209 41 [l0, l1, some (.long z), l3, l4, l5, l6, l7, l8, l9, l10] (.long z :: st) M Q := wp_step rfl rfl rfl rfl rfl
theorem u209_41 : wp scr n mb_209 41 [l0, l1, l2, l3, l4, some (.long z), l6, l7, l8, l9, l10] st M Q ↔ wp scr n mb_209 43 [l0, l1, l2, l3, l4, some (.long z), l6, l7, l8, l9, l10] (.long z :: st) M Q := wp_step rfl rfl rfl rfl rfl
theorem u209_43 : wp scr n mb_209 43 L (.long w :: .long z :: st) M Q ↔ (if w = 0 then False else wp scr n mb_209 44 L (.long (z / w) :: st) M Q) := wp_ldiv rfl
theorem u209_44 : wp scr n mb_209 44 L [.long z] M Q ↔ Q (some (.long z)) M := wp_ret rfl rfl
theorem e209 : Wp scr (n + 1) 209 [.long z1, .long z2, .int x3] M Q ↔ wp scr n mb_209 0 [some (.long z1), none, some (.long z2), none, some (.int x3), none, none, none, none, none, none] [] M Q := Wp_to rfl rfl rfl
/-- SmallerInTheShopModel mean (I)J -/
def mb_210 : mw_B := ((Option.some FieldType.long), mp_210)
theorem u210_0 : wp scr n mb_210 0 [l0, some (.int x)] st M Q ↔ wp scr n mb_210 1 [l0, some (.int x)] (.int x :: st) M Q := wp_step rfl rfl rfl rfl rfl
theorem u210_1 : wp scr n mb_210 1 L (.int x :: st) M Q ↔ wp scr n mb_210 2 L (.long x.toInt64 :: st) M Q := wp_step rfl rfl rfl rfl rfl
theorem u210_2 : wp scr n mb_210 2 L st M Q ↔ wp scr n mb_210 3 L (.long 0 :: st) M Q := wp_step rfl rfl rfl rfl rfl
theorem u210_3 : wp scr n mb_210 3 L st M Q ↔ wp scr n mb_210 4 L (.long 1 :: st) M Q := wp_step rfl rfl rfl rfl rfl
theorem u210_4 : wp scr n mb_210 4 L (a3 :: a2 :: a1 :: st) M Q ↔ (mw_st st ∧ Wp scr n 146 [a1, a2, a3] M (fun r1 M1 => wp scr n mb_210 7 L (r1.toList ++ st) M1 Q)) := wp_sta rfl rfl rfl rfl
theorem u210_7 : wp scr n mb_210 7 L (.int x :: st) M Q ↔ (if x = 0 then wp scr n mb_210 28 L st M Q else wp scr n mb_210 10 L st M Q) := (wp_step rfl rfl rfl rfl rfl).trans wp_ite
theorem u210_10 : wp scr n mb_210 10 [some (.ref a), l1] st M Q ↔ wp scr n mb_210 11 [some (.ref a), l1] (.ref a :: st) M Q := wp_step rfl rfl rfl rfl rfl
theorem u210_11 : wp scr n mb_210 11 L (o :: st) M Q ↔ mw_o (mm_fld (mc_X scr) M o 6 0) (fun v => wp scr n mb_210 14 L (v :: st) M Q) := wp_getf rfl
theorem u210_14 : wp scr n mb_210 14 L (a1 :: st) M Q ↔ (mw_st st ∧ Wp scr n 178 [a1] M (fun r1 M1 => wp scr n mb_210 17 L (r1.toList ++ st) M1 Q)) := wp_sta rfl rfl rfl rfl
theorem u210_17 : wp scr n mb_210 17 L (.int x :: st) M Q ↔ wp scr n mb_210 18 L (.long x.toInt64 :: st) M Q := wp_step rfl rfl rfl rfl rfl
theorem u210_18 : wp scr n mb_210 18 L st M Q ↔ wp scr n mb_210 21 L (.long (10) :: st) M Q := wp_step rfl rfl rfl rfl rfl
theorem u210_21 : wp scr n mb_210 21 [l0, some (.int x)] st M Q ↔ wp scr n mb_210 22 [l0, some (.int x)] (.int x :: st) M Q := wp_step rfl rfl rfl rfl rfl
theorem u210_22 : wp scr n mb_210 22 L (a3 :: a2 :: a1 :: st) M Q ↔ (mw_st st ∧ Wp scr n 209 [a1, a2, a3] M (fun r1 M1 => wp scr n mb_210 25 L (r1.toList ++ st) M1 Q)) := wp_sta rfl rfl rfl rfl
theorem u210_25 : wp scr n mb_210 25 L st M Q ↔ wp scr n mb_210 34 L st M Q := wp_step rfl rfl rfl rfl rfl
theorem u210_28 : wp scr n mb_210 28 [some (.ref a), l1] st M Q ↔ wp scr n mb_210 29 [some (.ref a), l1] (.ref a :: st) M Q := wp_step rfl rfl rfl rfl rfl
theorem u210_29 : wp scr n mb_210 29 L st M Q ↔ wp scr n mb_210 31 L (.int (-2) :: st) M Q := wp_step rfl rfl rfl rfl rfl
theorem u210_31 : wp scr n mb_210 31 L (a2 :: .ref a :: st) M Q ↔ ((mw_r M a 6 ∧ mw_st st) ∧ Wp scr n 207 [.ref a, a2] M (fun r1 M1 => wp scr n mb_210 34 L (r1.toList ++ st) M1 Q)) := wp_vir rfl rfl rfl rfl rfl
theorem u210_34 : wp scr n mb_210 34 L [.long z] M Q ↔ Q (some (.long z)) M := wp_ret rfl rfl
theorem e210 : Wp scr (n + 1) 210 [.ref a0, .int x1] M Q ↔ wp scr n mb_210 0 [some (.ref a0), some (.int x1)] [] M Q := Wp_to rfl rfl rfl
/-- SmallerInTheShopModel whatIs (II)I -/
def mb_211 : mw_B := ((Option.some FieldType.int), mp_211)
theorem u211_0 : wp scr n mb_211 0 [l0, some (.int x), l2, l3, l4, l5] st M Q ↔ wp scr n mb_211 1 [l0, some (.int x), l2, l3, l4, l5] (.int x :: st) M Q := wp_step rfl rfl rfl rfl rfl
theorem u211_1 : wp scr n mb_211 1 L (a1 :: st) M Q ↔ (mw_st st ∧ Wp scr n 166 [a1] M (fun r1 M1 => wp scr n mb_211 4 L (r1.toList ++ st) M1 Q)) := wp_sta rfl rfl rfl rfl
theorem u211_4 : wp scr n mb_211 4 L (.int x :: st) M Q ↔ (if x = 0 then wp scr n mb_211 7 L st M Q else wp scr n mb_211 13 L st M Q) := (wp_step rfl rfl rfl rfl rfl).trans wp_iten
theorem u211_7 : wp scr n mb_211 7 [some (.ref a), l1, l2, l3, l4, l5] st M Q ↔ wp scr n mb_211 8 [some (.ref a), l1, l2, l3, l4, l5] (.ref a :: st) M Q := wp_step rfl rfl rfl rfl rfl
theorem u211_8 : wp scr n mb_211 8 L st M Q ↔ wp scr n mb_211 9 L (.int (-1) :: st) M Q := wp_step rfl rfl rfl rfl rfl
theorem u211_9 : wp scr n mb_211 9 L (a2 :: .ref a :: st) M Q ↔ ((mw_r M a 6 ∧ mw_st st) ∧ Wp scr n 141 [.ref a, a2] M (fun r1 M1 => wp scr n mb_211 12 L (r1.toList ++ st) M1 Q)) := wp_vir rfl rfl rfl rfl rfl
theorem u211_12 : wp scr n mb_211 12 L [.int x] M Q ↔ Q (some (.int x)) M := wp_ret rfl rfl
theorem u211_13 : wp scr n mb_211 13 [l0, l1, some (.int x), l3, l4, l5] st M Q ↔ wp scr n mb_211 14 [l0, l1, some (.int x), l3, l4, l5] (.int x :: st) M Q := wp_step rfl rfl rfl rfl rfl
theorem u211_14 : wp scr n mb_211 14 L (.int x :: st) M Q ↔ wp scr n mb_211 15 L (.long x.toInt64 :: st) M Q := wp_step rfl rfl rfl rfl rfl
theorem u211_15 : wp scr n mb_211 15 L st M Q ↔ wp scr n mb_211 16 L (.long 0 :: st) M Q := wp_step rfl rfl rfl rfl rfl
theorem u211_16 : wp scr n mb_211 16 L st M Q ↔ wp scr n mb_211 17 L (.long 1 :: st) M Q := wp_step rfl rfl rfl rfl rfl
theorem u211_17 : wp scr n mb_211 17 L (a3 :: a2 :: a1 :: st) M Q ↔ (mw_st st ∧ Wp scr n 146 [a1, a2, a3] M (fun r1 M1 => wp scr n mb_211 20 L (r1.toList ++ st) M1 Q)) := wp_sta rfl rfl rfl rfl
theorem u211_20 : wp scr n mb_211 20 L (.int x :: st) M Q ↔ (if x = 0 then wp scr n mb_211 23 L st M Q else wp scr n mb_211 30 L st M Q) := (wp_step rfl rfl rfl rfl rfl).trans wp_iten
theorem u211_23 : wp scr n mb_211 23 [some (.ref a), l1, l2, l3, l4, l5] st M Q ↔ wp scr n mb_211 24 [some (.ref a), l1, l2, l3, l4, l5] (.ref a :: st) M Q := wp_step rfl rfl rfl rfl rfl
theorem u211_24 : wp scr n mb_211 24 L st M Q ↔ wp scr n mb_211 26 L (.int (-2) :: st) M Q := wp_step rfl rfl rfl rfl rfl
theorem u211_26 : wp scr n mb_211 26 L (a2 :: .ref a :: st) M Q ↔ ((mw_r M a 6 ∧ mw_st st) ∧ Wp scr n 141 [.ref a, a2] M (fun r1 M1 => wp scr n mb_211 29 L (r1.toList ++ st) M1 Q)) := wp_vir rfl rfl rfl rfl rfl
theorem u211_29 : wp scr n mb_211 29 L [.int x] M Q ↔ Q (some (.int x)) M := wp_ret rfl rfl
theorem u211_30 : wp scr n mb_211 30 [some (.ref a), l1, l2, l3, l4, l5] st M Q ↔ wp scr n mb_211 31 [some (.ref a), l1, l2, l3, l4, l5] (.ref a :: st) M Q := wp_step rfl rfl rfl rfl rfl
theorem u211_31 : wp scr n mb_211 31 L (o :: st) M Q ↔ mw_o (mm_fld (mc_X scr) M o 6 6) (fun v => wp scr n mb_211 34 L (v :: st) M Q) := wp_getf rfl
theorem u211_34 : wp scr n mb_211 34 L st M Q ↔ wp scr n mb_211 35 L (.int 2 :: st) M Q := wp_step rfl rfl rfl rfl rfl
theorem u211_35 : wp scr n mb_211 35 L (.int y :: .int x :: st) M Q ↔ (if y = 0 then False else wp scr n mb_211 36 L (.int (x - x / y * y) :: st) M Q) := wp_irem rfl
theorem u211_36 : wp scr n mb_211 36 L st M Q ↔ wp scr n mb_211 37 L (.int 1 :: st) M Q := wp_step rfl rfl rfl rfl rfl
theorem u211_37 : wp scr n mb_211 37 L (.int y :: .int x :: st) M Q ↔ (if x = y then wp scr n mb_211 40 L st M Q else wp scr n mb_211 47 L st M Q) := (wp_step rfl rfl rfl rfl rfl).trans wp_iten
theorem u211_40 : wp scr n mb_211 40 [some (.ref a), l1, l2, l3, l4, l5] st M Q ↔ wp scr n mb_211 41 [some (.ref a), l1, l2, l3, l4, l5] (.ref a :: st) M Q := wp_step rfl rfl rfl rfl rfl
theorem u211_41 : wp scr n mb_211 41 L st M Q ↔ wp scr n mb_211 43 L (.int (-3) :: st) M Q := wp_step rfl rfl rfl rfl rfl
theorem u211_43 : wp scr n mb_211 43 L (a2 :: .ref a :: st) M Q ↔ ((mw_r M a 6 ∧ mw_st st) ∧ Wp scr n 141 [.ref a, a2] M (fun r1 M1 => wp scr n mb_211 46 L (r1.toList ++ st) M1 Q)) := wp_vir rfl rfl rfl rfl rfl
theorem u211_46 : wp scr n mb_211 46 L [.int x] M Q ↔ Q (some (.int x)) M := wp_ret rfl rfl
theorem u211_47 : wp scr n mb_211 47 L st M Q ↔ wp scr n mb_211 48 L (.int 0 :: st) M Q := wp_step rfl rfl rfl rfl rfl
theorem u211_48 : wp scr n mb_211 48 [l0, l1, l2, l3, l4, l5] (.int x :: st) M Q ↔ wp scr n mb_211 49 (mm_sto1 [l0, l1, l2, l3, l4, l5] 3 (.int x)) st M Q := wp_step rfl rfl rfl rfl rfl
theorem u211_49 : wp scr n mb_211 49 L st M Q ↔ wp scr n mb_211 50 L (.int 0 :: st) M Q := wp_step rfl rfl rfl rfl rfl
theorem u211_50 : wp scr n mb_211 50 [l0, l1, l2, l3, l4, l5] (.int x :: st) M Q ↔ wp scr n mb_211 52 (mm_sto1 [l0, l1, l2, l3, l4, l5] 4 (.int x)) st M Q := wp_step rfl rfl rfl rfl rfl
theorem u211_52 : wp scr n mb_211 52 [l0, l1, l2, l3, some (.int x), l5] st M Q ↔ wp scr n mb_211 54 [l0, l1, l2, l3, some (.int x), l5] (.int x :: st) M Q := wp_step rfl rfl rfl rfl rfl
theorem u211_54 : wp scr n mb_211 54 [l0, l1, some (.int x), l3, l4, l5] st M Q ↔ wp scr n mb_211 55 [l0, l1, some (.int x), l3, l4, l5] (.int x :: st) M Q := wp_step rfl rfl rfl rfl rfl
theorem u211_55 : wp scr n mb_211 55 L (.int x :: st) M Q ↔ (if x = 0 then wp scr n mb_211 58 L st M Q else wp scr n mb_211 63 L st M Q) := (wp_step rfl rfl rfl rfl rfl).trans wp_iten
theorem u211_58 : wp scr n mb_211 58 L st M Q ↔ wp scr n mb_211 60 L (.int 6 :: st) M Q := wp_step rfl rfl rfl rfl rfl
theorem u211_60 : wp scr n mb_211 60 L st M Q ↔ wp scr n mb_211 65 L st M Q := wp_step rfl rfl rfl rfl rfl
theorem u211_63 : wp scr n mb_211 63 L st M Q ↔ wp scr n mb_211 65 L (.int 10 :: st) M Q := wp_step rfl rfl rfl rfl rfl
theorem u211_65 : wp scr n mb_211 65 L (.int y :: .int x :: st) M Q ↔ (if y ≤ x then wp scr n mb_211 128 L st M Q else wp scr n mb_211 68 L st M Q) := (wp_step rfl rfl rfl rfl rfl).trans wp_ite
theorem u211_68 : wp scr n mb_211 68 [l0, l1, some (.int x), l3, l4, l5] st M Q ↔ wp scr n mb_211 69 [l0, l1, some (.int x), l3, l4, l5] (.int x :: st) M Q := wp_step rfl rfl rfl rfl rfl
theorem u211_69 : wp scr n mb_211 69 L (.int x :: st) M Q ↔ (if x = 0 then wp scr n mb_211 72 L st M Q else wp scr n mb_211 90 L st M Q) := (wp_step rfl rfl rfl rfl rfl).trans wp_iten
theorem u211_72 : wp scr n mb_211 72 [some (.ref a), l1, l2, l3, l4, l5] st M Q ↔ wp scr n mb_211 73 [some (.ref a), l1, l2, l3, l4, l5] (.ref a :: st) M Q := wp_step rfl rfl rfl rfl rfl
theorem u211_73 : wp scr n mb_211 73 [l0, l1, l2, l3, some (.int x), l5] st M Q ↔ wp scr n mb_211 75 [l0, l1, l2, l3, some (.int x), l5] (.int x :: st) M Q := wp_step rfl rfl rfl rfl rfl
theorem u211_75 : wp scr n mb_211 75 [some (.ref a), l1, l2, l3, l4, l5] st M Q ↔ wp scr n mb_211 76 [some (.ref a), l1, l2, l3, l4, l5] (.ref a :: st) M Q := wp_step rfl rfl rfl rfl rfl
theorem u211_76 : wp scr n mb_211 76 L (o :: st) M Q ↔ mw_o (mm_fld (mc_X scr) M o 6 0) (fun v => wp scr n mb_211 79 L (v :: st) M Q) := wp_getf rfl
theorem u211_79 : wp scr n mb_211 79 L st M Q ↔ wp scr n mb_211 81 L (.int 10 :: st) M Q := wp_step rfl rfl rfl rfl rfl
theorem u211_81 : wp scr n mb_211 81 [l0, some (.int x), l2, l3, l4, l5] st M Q ↔ wp scr n mb_211 82 [l0, some (.int x), l2, l3, l4, l5] (.int x :: st) M Q := wp_step rfl rfl rfl rfl rfl
theorem u211_82 : wp scr n mb_211 82 L (.int y :: .int x :: st) M Q ↔ wp scr n mb_211 83 L (.int (x + y) :: st) M Q := wp_step rfl rfl rfl rfl rfl
theorem u211_83 : wp scr n mb_211 83 L (.int y :: o :: st) M Q ↔ mw_o (mm_ld (mc_X scr) M o y) (fun x => wp scr n mb_211 84 L (.int x :: st) M Q) := wp_iald rfl
theorem u211_84 : wp scr n mb_211 84 L (a3 :: a2 :: .ref a :: st) M Q ↔ ((mw_r M a 6 ∧ mw_st st) ∧ Wp scr n 212 [.ref a, a2, a3] M (fun r1 M1 => wp scr n mb_211 87 L (r1.toList ++ st) M1 Q)) := wp_vir rfl rfl rfl rfl rfl
theorem u211_87 : wp scr n mb_211 87 L st M Q ↔ wp scr n mb_211 104 L st M Q := wp_step rfl rfl rfl rfl rfl
theorem u211_90 : wp scr n mb_211 90 [some (.ref a), l1, l2, l3, l4, l5] st M Q ↔ wp scr n mb_211 91 [some (.ref a), l1, l2, l3, l4, l5] (.ref a :: st) M Q := wp_step rfl rfl rfl rfl rfl
theorem u211_91 : wp scr n mb_211 91 [some (.ref a), l1, l2, l3, l4, l5] st M Q ↔ wp scr n mb_211 92 [some (.ref a), l1, l2, l3, l4, l5] (.ref a :: st) M Q := wp_step rfl rfl rfl rfl rfl
theorem u211_92 : wp scr n mb_211 92 L (o :: st) M Q ↔ mw_o (mm_fld (mc_X scr) M o 6 0) (fun v => wp scr n mb_211 95 L (v :: st) M Q) := wp_getf rfl
theorem u211_95 : wp scr n mb_211 95 L st M Q ↔ wp scr n mb_211 96 L (.int 0 :: st) M Q := wp_step rfl rfl rfl rfl rfl
theorem u211_96 : wp scr n mb_211 96 [l0, some (.int x), l2, l3, l4, l5] st M Q ↔ wp scr n mb_211 97 [l0, some (.int x), l2, l3, l4, l5] (.int x :: st) M Q := wp_step rfl rfl rfl rfl rfl
theorem u211_97 : wp scr n mb_211 97 L (.int y :: .int x :: st) M Q ↔ wp scr n mb_211 98 L (.int (x + y) :: st) M Q := wp_step rfl rfl rfl rfl rfl
theorem u211_98 : wp scr n mb_211 98 L (.int y :: o :: st) M Q ↔ mw_o (mm_ld (mc_X scr) M o y) (fun x => wp scr n mb_211 99 L (.int x :: st) M Q) := wp_iald rfl
theorem u211_99 : wp scr n mb_211 99 [l0, l1, l2, l3, some (.int x), l5] st M Q ↔ wp scr n mb_211 101 [l0, l1, l2, l3, some (.int x), l5] (.int x :: st) M Q := wp_step rfl rfl rfl rfl rfl
theorem u211_101 : wp scr n mb_211 101 L (a3 :: a2 :: .ref a :: st) M Q ↔ ((mw_r M a 6 ∧ mw_st st) ∧ Wp scr n 212 [.ref a, a2, a3] M (fun r1 M1 => wp scr n mb_211 104 L (r1.toList ++ st) M1 Q)) := wp_vir rfl rfl rfl rfl rfl
theorem u211_104 : wp scr n mb_211 104 [l0, l1, l2, l3, l4, l5] (.int x :: st) M Q ↔ wp scr n mb_211 106 (mm_sto1 [l0, l1, l2, l3, l4, l5] 5 (.int x)) st M Q := wp_step rfl rfl rfl rfl rfl
theorem u211_106 : wp scr n mb_211 106 [l0, l1, l2, some (.int x), l4, l5] st M Q ↔ wp scr n mb_211 107 [l0, l1, l2, some (.int x), l4, l5] (.int x :: st) M Q := wp_step rfl rfl rfl rfl rfl
theorem u211_107 : wp scr n mb_211 107 [l0, l1, l2, l3, l4, some (.int x)] st M Q ↔ wp scr n mb_211 109 [l0, l1, l2, l3, l4, some (.int x)] (.int x :: st) M Q := wp_step rfl rfl rfl rfl rfl
theorem u211_109 : wp scr n mb_211 109 L (.int x :: st) M Q ↔ (if x = 0 then wp scr n mb_211 119 L st M Q else wp scr n mb_211 112 L st M Q) := (wp_step rfl rfl rfl rfl rfl).trans wp_ite
theorem u211_112 : wp scr n mb_211 112 L st M Q ↔ wp scr n mb_211 113 L (.int 1 :: st) M Q := wp_step rfl rfl rfl rfl rfl
theorem u211_113 : wp scr n mb_211 113 [l0, l1, l2, l3, some (.int x), l5] st M Q ↔ wp scr n mb_211 115 [l0, l1, l2, l3, some (.int x), l5] (.int x :: st) M Q := wp_step rfl rfl rfl rfl rfl
theorem u211_115 : wp scr n mb_211 115 L (.int y :: .int x :: st) M Q ↔ wp scr n mb_211 116 L (.int (x <<< (y &&& 31)) :: st) M Q := wp_step rfl rfl rfl rfl rfl
theorem u211_116 : wp scr n mb_211 116 L st M Q ↔ wp scr n mb_211 120 L st M Q := wp_step rfl rfl rfl rfl rfl
theorem u211_119 : wp scr n mb_211 119 L st M Q ↔ wp scr n mb_211 120 L (.int 0 :: st) M Q := wp_step rfl rfl rfl rfl rfl
theorem u211_120 : wp scr n mb_211 120 L (.int y :: .int x :: st) M Q ↔ wp scr n mb_211 121 L (.int (x ||| y) :: st) M Q := wp_step rfl rfl rfl rfl rfl
theorem u211_121 : wp scr n mb_211 121 [l0, l1, l2, l3, l4, l5] (.int x :: st) M Q ↔ wp scr n mb_211 122 (mm_sto1 [l0, l1, l2, l3, l4, l5] 3 (.int x)) st M Q := wp_step rfl rfl rfl rfl rfl
theorem u211_122 : wp scr n mb_211 122 [l0, l1, l2, l3, some (.int x), l5] st M Q ↔ wp scr n mb_211 125 (mm_sto1 [l0, l1, l2, l3, some (.int x), l5] 4 (.int (x + 1))) st M Q := wp_step rfl rfl rfl rfl rfl
theorem u211_125 : wp scr n mb_211 125 L st M Q ↔ wp scr n mb_211 52 L st M Q := wp_step rfl rfl rfl rfl rfl
theorem u211_128 : wp scr n mb_211 128 [l0, l1, l2, some (.int x), l4, l5] st M Q ↔ wp scr n mb_211 129 [l0, l1, l2, some (.int x), l4, l5] (.int x :: st) M Q := wp_step rfl rfl rfl rfl rfl
theorem u211_129 : wp scr n mb_211 129 L [.int x] M Q ↔ Q (some (.int x)) M := wp_ret rfl rfl
theorem e211 : Wp scr (n + 1) 211 [.ref a0, .int x1, .int x2] M Q ↔ wp scr n mb_211 0 [some (.ref a0), some (.int x1), some (.int x2), none, none, none] [] M Q := Wp_to rfl rfl rfl
/-- SmallerInTheShopModel isSo (II)Z -/
def mb_212 : mw_B := ((Option.some FieldType.boolean), mp_212)
theorem u212_0 : wp scr n mb_212 0 L st M Q ↔ wp scr n mb_212 1 L (.int 0 :: st) M Q := wp_step rfl rfl rfl rfl rfl
theorem u212_1 : wp scr n mb_212 1 [l0, l1, l2, l3] (.int x :: st) M Q ↔ wp scr n mb_212 2 (mm_sto1 [l0, l1, l2, l3] 3 (.int x)) st M Q := wp_step rfl rfl rfl rfl rfl
theorem u212_2 : wp scr n mb_212 2 [l0, l1, l2, some (.int x)] st M Q ↔ wp scr n mb_212 3 [l0, l1, l2, some (.int x)] (.int x :: st) M Q := wp_step rfl rfl rfl rfl rfl
theorem u212_3 : wp scr n mb_212 3 [some (.ref a), l1, l2, l3] st M Q ↔ wp scr n mb_212 4 [some (.ref a), l1, l2, l3] (.ref a :: st) M Q := wp_step rfl rfl rfl rfl rfl
theorem u212_4 : wp scr n mb_212 4 L (o :: st) M Q ↔ mw_o (mm_fld (mc_X scr) M o 6 6) (fun v => wp scr n mb_212 7 L (v :: st) M Q) := wp_getf rfl
theorem u212_7 : wp scr n mb_212 7 L (.int y :: .int x :: st) M Q ↔ (if y ≤ x then wp scr n mb_212 41 L st M Q else wp scr n mb_212 10 L st M Q) := (wp_step rfl rfl rfl rfl rfl).trans wp_ite
theorem u212_10 : wp scr n mb_212 10 [l0, some (.int x), l2, l3] st M Q ↔ wp scr n mb_212 11 [l0, some (.int x), l2, l3] (.int x :: st) M Q := wp_step rfl rfl rfl rfl rfl
theorem u212_11 : wp scr n mb_212 11 [l0, l1, some (.int x), l3] st M Q ↔ wp scr n mb_212 12 [l0, l1, some (.int x), l3] (.int x :: st) M Q := wp_step rfl rfl rfl rfl rfl
theorem u212_12 : wp scr n mb_212 12 [some (.ref a), l1, l2, l3] st M Q ↔ wp scr n mb_212 13 [some (.ref a), l1, l2, l3] (.ref a :: st) M Q := wp_step rfl rfl rfl rfl rfl
theorem u212_13 : wp scr n mb_212 13 L (o :: st) M Q ↔ mw_o (mm_fld (mc_X scr) M o 6 5) (fun v => wp scr n mb_212 16 L (v :: st) M Q) := wp_getf rfl
theorem u212_16 : wp scr n mb_212 16 [l0, l1, l2, some (.int x)] st M Q ↔ wp scr n mb_212 17 [l0, l1, l2, some (.int x)] (.int x :: st) M Q := wp_step rfl rfl rfl rfl rfl
theorem u212_17 : wp scr n mb_212 17 L (.int y :: o :: st) M Q ↔ mw_o (mm_ld (mc_X scr) M o y) (fun x => wp scr n mb_212 18 L (.int x :: st) M Q) := wp_iald rfl
theorem u212_18 : wp scr n mb_212 18 L st M Q ↔ wp scr n mb_212 19 L (.int 1 :: st) M Q := wp_step rfl rfl rfl rfl rfl
theorem u212_19 : wp scr n mb_212 19 L (a4 :: a3 :: a2 :: a1 :: st) M Q ↔ (mw_st st ∧ Wp scr n 159 [a1, a2, a3, a4] M (fun r1 M1 => wp scr n mb_212 22 L (r1.toList ++ st) M1 Q)) := wp_sta rfl rfl rfl rfl
theorem u212_22 : wp scr n mb_212 22 [some (.ref a), l1, l2, l3] st M Q ↔ wp scr n mb_212 23 [some (.ref a), l1, l2, l3] (.ref a :: st) M Q := wp_step rfl rfl rfl rfl rfl
theorem u212_23 : wp scr n mb_212 23 L (o :: st) M Q ↔ mw_o (mm_fld (mc_X scr) M o 6 5) (fun v => wp scr n mb_212 26 L (v :: st) M Q) := wp_getf rfl
theorem u212_26 : wp scr n mb_212 26 [l0, l1, l2, some (.int x)] st M Q ↔ wp scr n mb_212 27 [l0, l1, l2, some (.int x)] (.int x :: st) M Q := wp_step rfl rfl rfl rfl rfl
theorem u212_27 : wp scr n mb_212 27 L st M Q ↔ wp scr n mb_212 28 L (.int 1 :: st) M Q := wp_step rfl rfl rfl rfl rfl
theorem u212_28 : wp scr n mb_212 28 L (.int y :: .int x :: st) M Q ↔ wp scr n mb_212 29 L (.int (x + y) :: st) M Q := wp_step rfl rfl rfl rfl rfl
theorem u212_29 : wp scr n mb_212 29 L (.int y :: o :: st) M Q ↔ mw_o (mm_ld (mc_X scr) M o y) (fun x => wp scr n mb_212 30 L (.int x :: st) M Q) := wp_iald rfl
theorem u212_30 : wp scr n mb_212 30 L (.int y :: .int x :: st) M Q ↔ (if x = y then wp scr n mb_212 35 L st M Q else wp scr n mb_212 33 L st M Q) := (wp_step rfl rfl rfl rfl rfl).trans wp_ite
theorem u212_33 : wp scr n mb_212 33 L st M Q ↔ wp scr n mb_212 34 L (.int 0 :: st) M Q := wp_step rfl rfl rfl rfl rfl
theorem u212_34 : wp scr n mb_212 34 L [.int x] M Q ↔ ((x = 0 ∨ x = 1) ∧ Q (some (.int x)) M) := wp_retb rfl rfl
theorem u212_35 : wp scr n mb_212 35 [l0, l1, l2, some (.int x)] st M Q ↔ wp scr n mb_212 38 (mm_sto1 [l0, l1, l2, some (.int x)] 3 (.int (x + 2))) st M Q := wp_step rfl rfl rfl rfl rfl
theorem u212_38 : wp scr n mb_212 38 L st M Q ↔ wp scr n mb_212 2 L st M Q := wp_step rfl rfl rfl rfl rfl
theorem u212_41 : wp scr n mb_212 41 L st M Q ↔ wp scr n mb_212 42 L (.int 1 :: st) M Q := wp_step rfl rfl rfl rfl rfl
theorem u212_42 : wp scr n mb_212 42 L [.int x] M Q ↔ ((x = 0 ∨ x = 1) ∧ Q (some (.int x)) M) := wp_retb rfl rfl
theorem e212 : Wp scr (n + 1) 212 [.ref a0, .int x1, .int x2] M Q ↔ wp scr n mb_212 0 [some (.ref a0), some (.int x1), some (.int x2), none] [] M Q := Wp_to rfl rfl rfl
/-- SmallerInTheShopModel row (I)I -/
def mb_213 : mw_B := ((Option.some FieldType.int), mp_213)
theorem u213_0 : wp scr n mb_213 0 [l0, some (.int x)] st M Q ↔ wp scr n mb_213 1 [l0, some (.int x)] (.int x :: st) M Q := wp_step rfl rfl rfl rfl rfl
theorem u213_1 : wp scr n mb_213 1 L (.int x :: st) M Q ↔ (if 0 ≤ x then wp scr n mb_213 11 L st M Q else wp scr n mb_213 4 L st M Q) := (wp_step rfl rfl rfl rfl rfl).trans wp_ite
theorem u213_4 : wp scr n mb_213 4 [some (.ref a), l1] st M Q ↔ wp scr n mb_213 5 [some (.ref a), l1] (.ref a :: st) M Q := wp_step rfl rfl rfl rfl rfl
theorem u213_5 : wp scr n mb_213 5 L st M Q ↔ wp scr n mb_213 7 L (.int (-4) :: st) M Q := wp_step rfl rfl rfl rfl rfl
theorem u213_7 : wp scr n mb_213 7 L (a2 :: .ref a :: st) M Q ↔ ((mw_r M a 6 ∧ mw_st st) ∧ Wp scr n 141 [.ref a, a2] M (fun r1 M1 => wp scr n mb_213 10 L (r1.toList ++ st) M1 Q)) := wp_vir rfl rfl rfl rfl rfl
theorem u213_10 : wp scr n mb_213 10 L [.int x] M Q ↔ Q (some (.int x)) M := wp_ret rfl rfl
theorem u213_11 : wp scr n mb_213 11 [l0, some (.int x)] st M Q ↔ wp scr n mb_213 12 [l0, some (.int x)] (.int x :: st) M Q := wp_step rfl rfl rfl rfl rfl
theorem u213_12 : wp scr n mb_213 12 L st M Q ↔ wp scr n mb_213 14 L (.int 99 :: st) M Q := wp_step rfl rfl rfl rfl rfl
theorem u213_14 : wp scr n mb_213 14 L (.int y :: .int x :: st) M Q ↔ (if y < x then wp scr n mb_213 26 L st M Q else wp scr n mb_213 17 L st M Q) := (wp_step rfl rfl rfl rfl rfl).trans wp_ite
theorem u213_17 : wp scr n mb_213 17 [some (.ref a), l1] st M Q ↔ wp scr n mb_213 18 [some (.ref a), l1] (.ref a :: st) M Q := wp_step rfl rfl rfl rfl rfl
theorem u213_18 : wp scr n mb_213 18 L (o :: st) M Q ↔ mw_o (mm_fld (mc_X scr) M o 6 6) (fun v => wp scr n mb_213 21 L (v :: st) M Q) := wp_getf rfl
theorem u213_21 : wp scr n mb_213 21 L st M Q ↔ wp scr n mb_213 23 L (.int 16 :: st) M Q := wp_step rfl rfl rfl rfl rfl
theorem u213_23 : wp scr n mb_213 23 L (.int y :: .int x :: st) M Q ↔ (if x = y then wp scr n mb_213 26 L st M Q else wp scr n mb_213 33 L st M Q) := (wp_step rfl rfl rfl rfl rfl).trans wp_iten
theorem u213_26 : wp scr n mb_213 26 [some (.ref a), l1] st M Q ↔ wp scr n mb_213 27 [some (.ref a), l1] (.ref a :: st) M Q := wp_step rfl rfl rfl rfl rfl
theorem u213_27 : wp scr n mb_213 27 L st M Q ↔ wp scr n mb_213 29 L (.int (-6) :: st) M Q := wp_step rfl rfl rfl rfl rfl
theorem u213_29 : wp scr n mb_213 29 L (a2 :: .ref a :: st) M Q ↔ ((mw_r M a 6 ∧ mw_st st) ∧ Wp scr n 141 [.ref a, a2] M (fun r1 M1 => wp scr n mb_213 32 L (r1.toList ++ st) M1 Q)) := wp_vir rfl rfl rfl rfl rfl
theorem u213_32 : wp scr n mb_213 32 L [.int x] M Q ↔ Q (some (.int x)) M := wp_ret rfl rfl
theorem u213_33 : wp scr n mb_213 33 [some (.ref a), l1] st M Q ↔ wp scr n mb_213 34 [some (.ref a), l1] (.ref a :: st) M Q := wp_step rfl rfl rfl rfl rfl
theorem u213_34 : wp scr n mb_213 34 L (o :: st) M Q ↔ mw_o (mm_fld (mc_X scr) M o 6 5) (fun v => wp scr n mb_213 37 L (v :: st) M Q) := wp_getf rfl
theorem u213_37 : wp scr n mb_213 37 [some (.ref a), l1] st M Q ↔ wp scr n mb_213 38 [some (.ref a), l1] (.ref a :: st) M Q := wp_step rfl rfl rfl rfl rfl
theorem u213_38 : wp scr n mb_213 38 L (o :: st) M Q ↔ mw_o (mm_fld (mc_X scr) M o 6 6) (fun v => wp scr n mb_213 41 L (v :: st) M Q) := wp_getf rfl
theorem u213_41 : wp scr n mb_213 41 [l0, some (.int x)] st M Q ↔ wp scr n mb_213 42 [l0, some (.int x)] (.int x :: st) M Q := wp_step rfl rfl rfl rfl rfl
theorem u213_42 : wp scr n mb_213 42 L (.int x :: .int y :: o :: st) M Q ↔ mw_o (mm_sti M o y x) (fun M1 => wp scr n mb_213 43 L st M1 Q) := wp_iast rfl
theorem u213_43 : wp scr n mb_213 43 [some (.ref a), l1] st M Q ↔ wp scr n mb_213 44 [some (.ref a), l1] (.ref a :: st) M Q := wp_step rfl rfl rfl rfl rfl
theorem u213_44 : wp scr n mb_213 44 L (.ref a :: st) M Q ↔ wp scr n mb_213 45 L (.ref a :: .ref a :: st) M Q := wp_step rfl rfl rfl rfl rfl
theorem u213_45 : wp scr n mb_213 45 L (o :: st) M Q ↔ mw_o (mm_fld (mc_X scr) M o 6 6) (fun v => wp scr n mb_213 48 L (v :: st) M Q) := wp_getf rfl
theorem u213_48 : wp scr n mb_213 48 L st M Q ↔ wp scr n mb_213 49 L (.int 1 :: st) M Q := wp_step rfl rfl rfl rfl rfl
theorem u213_49 : wp scr n mb_213 49 L (.int y :: .int x :: st) M Q ↔ wp scr n mb_213 50 L (.int (x + y) :: st) M Q := wp_step rfl rfl rfl rfl rfl
theorem u213_50 : wp scr n mb_213 50 L (v :: o :: st) M Q ↔ mw_o (mm_put mc_fty M o v 6 6) (fun M1 => wp scr n mb_213 53 L st M1 Q) := wp_putf rfl
theorem u213_53 : wp scr n mb_213 53 [some (.ref a), l1] st M Q ↔ wp scr n mb_213 54 [some (.ref a), l1] (.ref a :: st) M Q := wp_step rfl rfl rfl rfl rfl
theorem u213_54 : wp scr n mb_213 54 L (o :: st) M Q ↔ mw_o (mm_fld (mc_X scr) M o 6 6) (fun v => wp scr n mb_213 57 L (v :: st) M Q) := wp_getf rfl
theorem u213_57 : wp scr n mb_213 57 L [.int x] M Q ↔ Q (some (.int x)) M := wp_ret rfl rfl
theorem e213 : Wp scr (n + 1) 213 [.ref a0, .int x1] M Q ↔ wp scr n mb_213 0 [some (.ref a0), some (.int x1)] [] M Q := Wp_to rfl rfl rfl
/-- SmallerInTheShopModel judge ()I -/
def mb_214 : mw_B := ((Option.some FieldType.int), mp_214)
theorem u214_0 : wp scr n mb_214 0 [some (.ref a), l1] st M Q ↔ wp scr n mb_214 1 [some (.ref a), l1] (.ref a :: st) M Q := wp_step rfl rfl rfl rfl rfl
theorem u214_1 : wp scr n mb_214 1 L st M Q ↔ wp scr n mb_214 2 L (.int 0 :: st) M Q := wp_step rfl rfl rfl rfl rfl
theorem u214_2 : wp scr n mb_214 2 L (a2 :: .ref a :: st) M Q ↔ ((mw_r M a 6 ∧ mw_st st) ∧ Wp scr n 208 [.ref a, a2] M (fun r1 M1 => wp scr n mb_214 5 L (r1.toList ++ st) M1 Q)) := wp_vir rfl rfl rfl rfl rfl
theorem u214_5 : wp scr n mb_214 5 [l0, l1] (.int x :: st) M Q ↔ wp scr n mb_214 6 (mm_sto1 [l0, l1] 1 (.int x)) st M Q := wp_step rfl rfl rfl rfl rfl
theorem u214_6 : wp scr n mb_214 6 [some (.ref a), l1] st M Q ↔ wp scr n mb_214 7 [some (.ref a), l1] (.ref a :: st) M Q := wp_step rfl rfl rfl rfl rfl
theorem u214_7 : wp scr n mb_214 7 L st M Q ↔ wp scr n mb_214 8 L (.int 0 :: st) M Q := wp_step rfl rfl rfl rfl rfl
theorem u214_8 : wp scr n mb_214 8 L (v :: o :: st) M Q ↔ mw_o (mm_put mc_fty M o v 6 6) (fun M1 => wp scr n mb_214 11 L st M1 Q) := wp_putf rfl
theorem u214_11 : wp scr n mb_214 11 [l0, some (.int x)] st M Q ↔ wp scr n mb_214 12 [l0, some (.int x)] (.int x :: st) M Q := wp_step rfl rfl rfl rfl rfl
theorem u214_12 : wp scr n mb_214 12 L [.int x] M Q ↔ Q (some (.int x)) M := wp_ret rfl rfl
theorem e214 : Wp scr (n + 1) 214 [.ref a0] M Q ↔ wp scr n mb_214 0 [some (.ref a0), none] [] M Q := Wp_to rfl rfl rfl
/-- SmallerInTheShopModel clear ()I -/
def mb_215 : mw_B := ((Option.some FieldType.int), mp_215)
theorem u215_0 : wp scr n mb_215 0 [some (.ref a), l1] st M Q ↔ wp scr n mb_215 1 [some (.ref a), l1] (.ref a :: st) M Q := wp_step rfl rfl rfl rfl rfl
theorem u215_1 : wp scr n mb_215 1 L (o :: st) M Q ↔ mw_o (mm_fld (mc_X scr) M o 6 6) (fun v => wp scr n mb_215 4 L (v :: st) M Q) := wp_getf rfl
theorem u215_4 : wp scr n mb_215 4 [l0, l1] (.int x :: st) M Q ↔ wp scr n mb_215 5 (mm_sto1 [l0, l1] 1 (.int x)) st M Q := wp_step rfl rfl rfl rfl rfl
theorem u215_5 : wp scr n mb_215 5 [some (.ref a), l1] st M Q ↔ wp scr n mb_215 6 [some (.ref a), l1] (.ref a :: st) M Q := wp_step rfl rfl rfl rfl rfl
theorem u215_6 : wp scr n mb_215 6 L st M Q ↔ wp scr n mb_215 7 L (.int 0 :: st) M Q := wp_step rfl rfl rfl rfl rfl
theorem u215_7 : wp scr n mb_215 7 L (v :: o :: st) M Q ↔ mw_o (mm_put mc_fty M o v 6 6) (fun M1 => wp scr n mb_215 10 L st M1 Q) := wp_putf rfl
theorem u215_10 : wp scr n mb_215 10 [l0, some (.int x)] st M Q ↔ wp scr n mb_215 11 [l0, some (.int x)] (.int x :: st) M Q := wp_step rfl rfl rfl rfl rfl
theorem u215_11 : wp scr n mb_215 11 L [.int x] M Q ↔ Q (some (.int x)) M := wp_ret rfl rfl
theorem e215 : Wp scr (n + 1) 215 [.ref a0] M Q ↔ wp scr n mb_215 0 [some (.ref a0), none] [] M Q := Wp_to rfl rfl rfl
/-- SmallerInTheShopModel lots (III)I -/
def mb_216 : mw_B := ((Option.some FieldType.int), mp_216)
theorem u216_0 : wp scr n mb_216 0 [l0, some (.int x), l2, l3, l4, l5, l6] st M Q ↔ wp scr n mb_216 1 [l0, some (.int x), l2, l3, l4, l5, l6] (.int x :: st) M Q := wp_step rfl rfl rfl rfl rfl
theorem u216_1 : wp scr n mb_216 1 L (.int x :: st) M Q ↔ wp scr n mb_216 2 L (.long x.toInt64 :: st) M Q := wp_step rfl rfl rfl rfl rfl
theorem u216_2 : wp scr n mb_216 2 L st M Q ↔ wp scr n mb_216 3 L (.long 1 :: st) M Q := wp_step rfl rfl rfl rfl rfl
theorem u216_3 : wp scr n mb_216 3 L st M Q ↔ wp scr n mb_216 6 L (.long (20) :: st) M Q := wp_step rfl rfl rfl rfl rfl
theorem u216_6 : wp scr n mb_216 6 L (a3 :: a2 :: a1 :: st) M Q ↔ (mw_st st ∧ Wp scr n 146 [a1, a2, a3] M (fun r1 M1 => wp scr n mb_216 9 L (r1.toList ++ st) M1 Q)) := wp_sta rfl rfl rfl rfl
theorem u216_9 : wp scr n mb_216 9 L (.int x :: st) M Q ↔ (if x = 0 then wp scr n mb_216 12 L st M Q else wp scr n mb_216 29 L st M Q) := (wp_step rfl rfl rfl rfl rfl).trans wp_iten
theorem u216_12 : wp scr n mb_216 12 [some (.ref a), l1, l2, l3, l4, l5, l6] st M Q ↔ wp scr n mb_216 13 [some (.ref a), l1, l2, l3, l4, l5, l6] (.ref a :: st) M Q := wp_step rfl rfl rfl rfl rfl
theorem u216_13 : wp scr n mb_216 13 [l0, some (.int x), l2, l3, l4, l5, l6] st M Q ↔ wp scr n mb_216 14 [l0, some (.int x), l2, l3, l4, l5, l6] (.int x :: st) M Q := wp_step rfl rfl rfl rfl rfl
theorem u216_14 : wp scr n mb_216 14 L st M Q ↔ wp scr n mb_216 15 L (.int 1 :: st) M Q := wp_step rfl rfl rfl rfl rfl
theorem u216_15 : wp scr n mb_216 15 L (.int y :: .int x :: st) M Q ↔ (if y ≤ x then wp scr n mb_216 23 L st M Q else wp scr n mb_216 18 L st M Q) := (wp_step rfl rfl rfl rfl rfl).trans wp_ite
theorem u216_18 : wp scr n mb_216 18 L st M Q ↔ wp scr n mb_216 20 L (.int (-4) :: st) M Q := wp_step rfl rfl rfl rfl rfl
theorem u216_20 : wp scr n mb_216 20 L st M Q ↔ wp scr n mb_216 25 L st M Q := wp_step rfl rfl rfl rfl rfl
theorem u216_23 : wp scr n mb_216 23 L st M Q ↔ wp scr n mb_216 25 L (.int (-6) :: st) M Q := wp_step rfl rfl rfl rfl rfl
theorem u216_25 : wp scr n mb_216 25 L (a2 :: .ref a :: st) M Q ↔ ((mw_r M a 6 ∧ mw_st st) ∧ Wp scr n 141 [.ref a, a2] M (fun r1 M1 => wp scr n mb_216 28 L (r1.toList ++ st) M1 Q)) := wp_vir rfl rfl rfl rfl rfl
theorem u216_28 : wp scr n mb_216 28 L [.int x] M Q ↔ Q (some (.int x)) M := wp_ret rfl rfl
theorem u216_29 : wp scr n mb_216 29 [l0, l1, l2, some (.int x), l4, l5, l6] st M Q ↔ wp scr n mb_216 30 [l0, l1, l2, some (.int x), l4, l5, l6] (.int x :: st) M Q := wp_step rfl rfl rfl rfl rfl
theorem u216_30 : wp scr n mb_216 30 L (.int x :: st) M Q ↔ wp scr n mb_216 31 L (.long x.toInt64 :: st) M Q := wp_step rfl rfl rfl rfl rfl
theorem u216_31 : wp scr n mb_216 31 L st M Q ↔ wp scr n mb_216 32 L (.long 0 :: st) M Q := wp_step rfl rfl rfl rfl rfl
theorem u216_32 : wp scr n mb_216 32 L st M Q ↔ wp scr n mb_216 33 L (.long 1 :: st) M Q := wp_step rfl rfl rfl rfl rfl
theorem u216_33 : wp scr n mb_216 33 L (a3 :: a2 :: a1 :: st) M Q ↔ (mw_st st ∧ Wp scr n 146 [a1, a2, a3] M (fun r1 M1 => wp scr n mb_216 36 L (r1.toList ++ st) M1 Q)) := wp_sta rfl rfl rfl rfl
theorem u216_36 : wp scr n mb_216 36 L (.int x :: st) M Q ↔ (if x = 0 then wp scr n mb_216 39 L st M Q else wp scr n mb_216 46 L st M Q) := (wp_step rfl rfl rfl rfl rfl).trans wp_iten
theorem u216_39 : wp scr n mb_216 39 [some (.ref a), l1, l2, l3, l4, l5, l6] st M Q ↔ wp scr n mb_216 40 [some (.ref a), l1, l2, l3, l4, l5, l6] (.ref a :: st) M Q := wp_step rfl rfl rfl rfl rfl
theorem u216_40 : wp scr n mb_216 40 L st M Q ↔ wp scr n mb_216 42 L (.int (-2) :: st) M Q := wp_step rfl rfl rfl rfl rfl
theorem u216_42 : wp scr n mb_216 42 L (a2 :: .ref a :: st) M Q ↔ ((mw_r M a 6 ∧ mw_st st) ∧ Wp scr n 141 [.ref a, a2] M (fun r1 M1 => wp scr n mb_216 45 L (r1.toList ++ st) M1 Q)) := wp_vir rfl rfl rfl rfl rfl
theorem u216_45 : wp scr n mb_216 45 L [.int x] M Q ↔ Q (some (.int x)) M := wp_ret rfl rfl
theorem u216_46 : wp scr n mb_216 46 [some (.ref a), l1, l2, l3, l4, l5, l6] st M Q ↔ wp scr n mb_216 47 [some (.ref a), l1, l2, l3, l4, l5, l6] (.ref a :: st) M Q := wp_step rfl rfl rfl rfl rfl
theorem u216_47 : wp scr n mb_216 47 [l0, l1, some (.int x), l3, l4, l5, l6] st M Q ↔ wp scr n mb_216 48 [l0, l1, some (.int x), l3, l4, l5, l6] (.int x :: st) M Q := wp_step rfl rfl rfl rfl rfl
theorem u216_48 : wp scr n mb_216 48 L (v :: o :: st) M Q ↔ mw_o (mm_put mc_fty M o v 6 18) (fun M1 => wp scr n mb_216 51 L st M1 Q) := wp_putf rfl
theorem u216_51 : wp scr n mb_216 51 L st M Q ↔ wp scr n mb_216 52 L (.int 0 :: st) M Q := wp_step rfl rfl rfl rfl rfl
theorem u216_52 : wp scr n mb_216 52 [l0, l1, l2, l3, l4, l5, l6] (.int x :: st) M Q ↔ wp scr n mb_216 54 (mm_sto1 [l0, l1, l2, l3, l4, l5, l6] 4 (.int x)) st M Q := wp_step rfl rfl rfl rfl rfl
theorem u216_54 : wp scr n mb_216 54 L st M Q ↔ wp scr n mb_216 55 L (.int 0 :: st) M Q := wp_step rfl rfl rfl rfl rfl
theorem u216_55 : wp scr n mb_216 55 [l0, l1, l2, l3, l4, l5, l6] (.int x :: st) M Q ↔ wp scr n mb_216 57 (mm_sto1 [l0, l1, l2, l3, l4, l5, l6] 5 (.int x)) st M Q := wp_step rfl rfl rfl rfl rfl
theorem u216_57 : wp scr n mb_216 57 L st M Q ↔ wp scr n mb_216 58 L (.int 0 :: st) M Q := wp_step rfl rfl rfl rfl rfl
theorem u216_58 : wp scr n mb_216 58 [l0, l1, l2, l3, l4, l5, l6] (.int x :: st) M Q ↔ wp scr n mb_216 60 (mm_sto1 [l0, l1, l2, l3, l4, l5, l6] 6 (.int x)) st M Q := wp_step rfl rfl rfl rfl rfl
theorem u216_60 : wp scr n mb_216 60 [l0, l1, l2, l3, l4, l5, some (.int x)] st M Q ↔ wp scr n mb_216 62 [l0, l1, l2, l3, l4, l5, some (.int x)] (.int x :: st) M Q := wp_step rfl rfl rfl rfl rfl
theorem u216_62 : wp scr n mb_216 62 [l0, some (.int x), l2, l3, l4, l5, l6] st M Q ↔ wp scr n mb_216 63 [l0, some (.int x), l2, l3, l4, l5, l6] (.int x :: st) M Q := wp_step rfl rfl rfl rfl rfl
theorem u216_63 : wp scr n mb_216 63 L (.int y :: .int x :: st) M Q ↔ (if y ≤ x then wp scr n mb_216 103 L st M Q else wp scr n mb_216 66 L st M Q) := (wp_step rfl rfl rfl rfl rfl).trans wp_ite
theorem u216_66 : wp scr n mb_216 66 [l0, l1, l2, l3, some (.int x), l5, l6] st M Q ↔ wp scr n mb_216 68 [l0, l1, l2, l3, some (.int x), l5, l6] (.int x :: st) M Q := wp_step rfl rfl rfl rfl rfl
theorem u216_68 : wp scr n mb_216 68 [some (.ref a), l1, l2, l3, l4, l5, l6] st M Q ↔ wp scr n mb_216 69 [some (.ref a), l1, l2, l3, l4, l5, l6] (.ref a :: st) M Q := wp_step rfl rfl rfl rfl rfl
theorem u216_69 : wp scr n mb_216 69 L (.ref a :: st) M Q ↔ ((mw_r M a 6 ∧ mw_st st) ∧ Wp scr n 217 [.ref a] M (fun r1 M1 => wp scr n mb_216 72 L (r1.toList ++ st) M1 Q)) := wp_vir rfl rfl rfl rfl rfl
theorem u216_72 : wp scr n mb_216 72 L (.int y :: .int x :: st) M Q ↔ wp scr n mb_216 73 L (.int (x + y) :: st) M Q := wp_step rfl rfl rfl rfl rfl
theorem u216_73 : wp scr n mb_216 73 [l0, l1, l2, l3, l4, l5, l6] (.int x :: st) M Q ↔ wp scr n mb_216 75 (mm_sto1 [l0, l1, l2, l3, l4, l5, l6] 4 (.int x)) st M Q := wp_step rfl rfl rfl rfl rfl
theorem u216_75 : wp scr n mb_216 75 [l0, l1, l2, l3, l4, some (.int x), l6] st M Q ↔ wp scr n mb_216 77 [l0, l1, l2, l3, l4, some (.int x), l6] (.int x :: st) M Q := wp_step rfl rfl rfl rfl rfl
theorem u216_77 : wp scr n mb_216 77 [some (.ref a), l1, l2, l3, l4, l5, l6] st M Q ↔ wp scr n mb_216 78 [some (.ref a), l1, l2, l3, l4, l5, l6] (.ref a :: st) M Q := wp_step rfl rfl rfl rfl rfl
theorem u216_78 : wp scr n mb_216 78 L (o :: st) M Q ↔ mw_o (mm_fld (mc_X scr) M o 6 2) (fun v => wp scr n mb_216 81 L (v :: st) M Q) := wp_getf rfl
theorem u216_81 : wp scr n mb_216 81 L st M Q ↔ wp scr n mb_216 82 L (.int 0 :: st) M Q := wp_step rfl rfl rfl rfl rfl
theorem u216_82 : wp scr n mb_216 82 L (.int y :: .ref a :: st) M Q ↔ mw_o (mm_lda M a y) (fun v => wp scr n mb_216 83 L (v :: st) M Q) := wp_aald rfl
theorem u216_83 : wp scr n mb_216 83 L (a1 :: st) M Q ↔ (mw_st st ∧ Wp scr n 183 [a1] M (fun r1 M1 => wp scr n mb_216 86 L (r1.toList ++ st) M1 Q)) := wp_sta rfl rfl rfl rfl
theorem u216_86 : wp scr n mb_216 86 L (.int x :: st) M Q ↔ (if x = 0 then wp scr n mb_216 93 L st M Q else wp scr n mb_216 89 L st M Q) := (wp_step rfl rfl rfl rfl rfl).trans wp_ite
theorem u216_89 : wp scr n mb_216 89 L st M Q ↔ wp scr n mb_216 90 L (.int 1 :: st) M Q := wp_step rfl rfl rfl rfl rfl
theorem u216_90 : wp scr n mb_216 90 L st M Q ↔ wp scr n mb_216 94 L st M Q := wp_step rfl rfl rfl rfl rfl
theorem u216_93 : wp scr n mb_216 93 L st M Q ↔ wp scr n mb_216 94 L (.int 0 :: st) M Q := wp_step rfl rfl rfl rfl rfl
theorem u216_94 : wp scr n mb_216 94 L (.int y :: .int x :: st) M Q ↔ wp scr n mb_216 95 L (.int (x + y) :: st) M Q := wp_step rfl rfl rfl rfl rfl
theorem u216_95 : wp scr n mb_216 95 [l0, l1, l2, l3, l4, l5, l6] (.int x :: st) M Q ↔ wp scr n mb_216 97 (mm_sto1 [l0, l1, l2, l3, l4, l5, l6] 5 (.int x)) st M Q := wp_step rfl rfl rfl rfl rfl
theorem u216_97 : wp scr n mb_216 97 [l0, l1, l2, l3, l4, l5, some (.int x)] st M Q ↔ wp scr n mb_216 100 (mm_sto1 [l0, l1, l2, l3, l4, l5, some (.int x)] 6 (.int (x + 1))) st M Q := wp_step rfl rfl rfl rfl rfl
theorem u216_100 : wp scr n mb_216 100 L st M Q ↔ wp scr n mb_216 60 L st M Q := wp_step rfl rfl rfl rfl rfl
theorem u216_103 : wp scr n mb_216 103 [l0, l1, l2, some (.int x), l4, l5, l6] st M Q ↔ wp scr n mb_216 104 [l0, l1, l2, some (.int x), l4, l5, l6] (.int x :: st) M Q := wp_step rfl rfl rfl rfl rfl
theorem u216_104 : wp scr n mb_216 104 L (.int x :: st) M Q ↔ (if x = 0 then wp scr n mb_216 107 L st M Q else wp scr n mb_216 112 L st M Q) := (wp_step rfl rfl rfl rfl rfl).trans wp_iten
theorem u216_107 : wp scr n mb_216 107 [l0, l1, l2, l3, some (.int x), l5, l6] st M Q ↔ wp scr n mb_216 109 [l0, l1, l2, l3, some (.int x), l5, l6] (.int x :: st) M Q := wp_step rfl rfl rfl rfl rfl
theorem u216_109 : wp scr n mb_216 109 L st M Q ↔ wp scr n mb_216 114 L st M Q := wp_step rfl rfl rfl rfl rfl
theorem u216_112 : wp scr n mb_216 112 [l0, l1, l2, l3, l4, some (.int x), l6] st M Q ↔ wp scr n mb_216 114 [l0, l1, l2, l3, l4, some (.int x), l6] (.int x :: st) M Q := wp_step rfl rfl rfl rfl rfl
theorem u216_114 : wp scr n mb_216 114 L [.int x] M Q ↔ Q (some (.int x)) M := wp_ret rfl rfl
theorem e216 : Wp scr (n + 1) 216 [.ref a0, .int x1, .int x2, .int x3] M Q ↔ wp scr n mb_216 0 [some (.ref a0), some (.int x1), some (.int x2), some (.int x3), none, none, none] [] M Q := Wp_to rfl rfl rfl
/-- SmallerInTheShopModel shutsByLot ()I -/
def mb_217 : mw_B := ((Option.some FieldType.int), mp_217)
theorem u217_0 : wp scr n mb_217 0 [some (.ref a), l1, l2, l3, l4] st M Q ↔ wp scr n mb_217 1 [some (.ref a), l1, l2, l3, l4] (.ref a :: st) M Q := wp_step rfl rfl rfl rfl rfl
theorem u217_1 : wp scr n mb_217 1 L (o :: st) M Q ↔ mw_o (mm_fld (mc_X scr) M o 6 0) (fun v => wp scr n mb_217 4 L (v :: st) M Q) := wp_getf rfl
theorem u217_4 : wp scr n mb_217 4 [some (.ref a), l1, l2, l3, l4] st M Q ↔ wp scr n mb_217 5 [some (.ref a), l1, l2, l3, l4] (.ref a :: st) M Q := wp_step rfl rfl rfl rfl rfl
theorem u217_5 : wp scr n mb_217 5 L (o :: st) M Q ↔ mw_o (mm_fld (mc_X scr) M o 6 2) (fun v => wp scr n mb_217 8 L (v :: st) M Q) := wp_getf rfl
theorem u217_8 : wp scr n mb_217 8 L st M Q ↔ wp scr n mb_217 9 L (.int 0 :: st) M Q := wp_step rfl rfl rfl rfl rfl
theorem u217_9 : wp scr n mb_217 9 L (.int y :: .ref a :: st) M Q ↔ mw_o (mm_lda M a y) (fun v => wp scr n mb_217 10 L (v :: st) M Q) := wp_aald rfl
theorem u217_10 : wp scr n mb_217 10 L (a2 :: a1 :: st) M Q ↔ (mw_st st ∧ Wp scr n 147 [a1, a2] M (fun r1 M1 => wp scr n mb_217 13 L (r1.toList ++ st) M1 Q)) := wp_sta rfl rfl rfl rfl
theorem u217_13 : wp scr n mb_217 13 L st M Q ↔ wp scr n mb_217 14 L (.int 0 :: st) M Q := wp_step rfl rfl rfl rfl rfl
theorem u217_14 : wp scr n mb_217 14 [l0, l1, l2, l3, l4] (.int x :: st) M Q ↔ wp scr n mb_217 15 (mm_sto1 [l0, l1, l2, l3, l4] 1 (.int x)) st M Q := wp_step rfl rfl rfl rfl rfl
theorem u217_15 : wp scr n mb_217 15 [some (.ref a), l1, l2, l3, l4] st M Q ↔ wp scr n mb_217 16 [some (.ref a), l1, l2, l3, l4] (.ref a :: st) M Q := wp_step rfl rfl rfl rfl rfl
theorem u217_16 : wp scr n mb_217 16 L (o :: st) M Q ↔ mw_o (mm_fld (mc_X scr) M o 6 2) (fun v => wp scr n mb_217 19 L (v :: st) M Q) := wp_getf rfl
theorem u217_19 : wp scr n mb_217 19 L st M Q ↔ wp scr n mb_217 20 L (.int 0 :: st) M Q := wp_step rfl rfl rfl rfl rfl
theorem u217_20 : wp scr n mb_217 20 L (.int y :: .ref a :: st) M Q ↔ mw_o (mm_lda M a y) (fun v => wp scr n mb_217 21 L (v :: st) M Q) := wp_aald rfl
theorem u217_21 : wp scr n mb_217 21 L (a1 :: st) M Q ↔ (mw_st st ∧ Wp scr n 189 [a1] M (fun r1 M1 => wp scr n mb_217 24 L (r1.toList ++ st) M1 Q)) := wp_sta rfl rfl rfl rfl
theorem u217_24 : wp scr n mb_217 24 L (.int x :: st) M Q ↔ (if x = 0 then wp scr n mb_217 27 L st M Q else wp scr n mb_217 107 L st M Q) := (wp_step rfl rfl rfl rfl rfl).trans wp_iten
theorem u217_27 : wp scr n mb_217 27 [some (.ref a), l1, l2, l3, l4] st M Q ↔ wp scr n mb_217 28 [some (.ref a), l1, l2, l3, l4] (.ref a :: st) M Q := wp_step rfl rfl rfl rfl rfl
theorem u217_28 : wp scr n mb_217 28 L (o :: st) M Q ↔ mw_o (mm_fld (mc_X scr) M o 6 2) (fun v => wp scr n mb_217 31 L (v :: st) M Q) := wp_getf rfl
theorem u217_31 : wp scr n mb_217 31 L st M Q ↔ wp scr n mb_217 32 L (.int 0 :: st) M Q := wp_step rfl rfl rfl rfl rfl
theorem u217_32 : wp scr n mb_217 32 L (.int y :: .ref a :: st) M Q ↔ mw_o (mm_lda M a y) (fun v => wp scr n mb_217 33 L (v :: st) M Q) := wp_aald rfl
theorem u217_33 : wp scr n mb_217 33 L st M Q ↔ wp scr n mb_217 34 L (.int 0 :: st) M Q := wp_step rfl rfl rfl rfl rfl
theorem u217_34 : wp scr n mb_217 34 L (a2 :: a1 :: st) M Q ↔ (mw_st st ∧ Wp scr n 151 [a1, a2] M (fun r1 M1 => wp scr n mb_217 37 L (r1.toList ++ st) M1 Q)) := wp_sta rfl rfl rfl rfl
theorem u217_37 : wp scr n mb_217 37 L st M Q ↔ wp scr n mb_217 38 L (.int 1 :: st) M Q := wp_step rfl rfl rfl rfl rfl
theorem u217_38 : wp scr n mb_217 38 L (.int y :: .int x :: st) M Q ↔ wp scr n mb_217 39 L (.int (x - y) :: st) M Q := wp_step rfl rfl rfl rfl rfl
theorem u217_39 : wp scr n mb_217 39 [some (.ref a), l1, l2, l3, l4] st M Q ↔ wp scr n mb_217 40 [some (.ref a), l1, l2, l3, l4] (.ref a :: st) M Q := wp_step rfl rfl rfl rfl rfl
theorem u217_40 : wp scr n mb_217 40 L (o :: st) M Q ↔ mw_o (mm_fld (mc_X scr) M o 6 2) (fun v => wp scr n mb_217 43 L (v :: st) M Q) := wp_getf rfl
theorem u217_43 : wp scr n mb_217 43 L st M Q ↔ wp scr n mb_217 44 L (.int 0 :: st) M Q := wp_step rfl rfl rfl rfl rfl
theorem u217_44 : wp scr n mb_217 44 L (.int y :: .ref a :: st) M Q ↔ mw_o (mm_lda M a y) (fun v => wp scr n mb_217 45 L (v :: st) M Q) := wp_aald rfl
theorem u217_45 : wp scr n mb_217 45 L st M Q ↔ wp scr n mb_217 46 L (.int 1 :: st) M Q := wp_step rfl rfl rfl rfl rfl
theorem u217_46 : wp scr n mb_217 46 L (a2 :: a1 :: st) M Q ↔ (mw_st st ∧ Wp scr n 151 [a1, a2] M (fun r1 M1 => wp scr n mb_217 49 L (r1.toList ++ st) M1 Q)) := wp_sta rfl rfl rfl rfl
theorem u217_49 : wp scr n mb_217 49 L st M Q ↔ wp scr n mb_217 50 L (.int 1 :: st) M Q := wp_step rfl rfl rfl rfl rfl
theorem u217_50 : wp scr n mb_217 50 L (.int y :: .int x :: st) M Q ↔ wp scr n mb_217 51 L (.int (x - y) :: st) M Q := wp_step rfl rfl rfl rfl rfl
theorem u217_51 : wp scr n mb_217 51 L (.int y :: .int x :: st) M Q ↔ wp scr n mb_217 52 L (.int (x + y) :: st) M Q := wp_step rfl rfl rfl rfl rfl
theorem u217_52 : wp scr n mb_217 52 [l0, l1, l2, l3, l4] (.int x :: st) M Q ↔ wp scr n mb_217 53 (mm_sto1 [l0, l1, l2, l3, l4] 2 (.int x)) st M Q := wp_step rfl rfl rfl rfl rfl
theorem u217_53 : wp scr n mb_217 53 [some (.ref a), l1, l2, l3, l4] st M Q ↔ wp scr n mb_217 54 [some (.ref a), l1, l2, l3, l4] (.ref a :: st) M Q := wp_step rfl rfl rfl rfl rfl
theorem u217_54 : wp scr n mb_217 54 [l0, l1, some (.int x), l3, l4] st M Q ↔ wp scr n mb_217 55 [l0, l1, some (.int x), l3, l4] (.int x :: st) M Q := wp_step rfl rfl rfl rfl rfl
theorem u217_55 : wp scr n mb_217 55 L (a2 :: .ref a :: st) M Q ↔ ((mw_r M a 6 ∧ mw_st st) ∧ Wp scr n 218 [.ref a, a2] M (fun r1 M1 => wp scr n mb_217 58 L (r1.toList ++ st) M1 Q)) := wp_vir rfl rfl rfl rfl rfl
theorem u217_58 : wp scr n mb_217 58 [l0, l1, l2, l3, l4] (.int x :: st) M Q ↔ wp scr n mb_217 59 (mm_sto1 [l0, l1, l2, l3, l4] 3 (.int x)) st M Q := wp_step rfl rfl rfl rfl rfl
theorem u217_59 : wp scr n mb_217 59 [l0, l1, l2, some (.int x), l4] st M Q ↔ wp scr n mb_217 60 [l0, l1, l2, some (.int x), l4] (.int x :: st) M Q := wp_step rfl rfl rfl rfl rfl
theorem u217_60 : wp scr n mb_217 60 [some (.ref a), l1, l2, l3, l4] st M Q ↔ wp scr n mb_217 61 [some (.ref a), l1, l2, l3, l4] (.ref a :: st) M Q := wp_step rfl rfl rfl rfl rfl
theorem u217_61 : wp scr n mb_217 61 L (o :: st) M Q ↔ mw_o (mm_fld (mc_X scr) M o 6 2) (fun v => wp scr n mb_217 64 L (v :: st) M Q) := wp_getf rfl
theorem u217_64 : wp scr n mb_217 64 L st M Q ↔ wp scr n mb_217 65 L (.int 0 :: st) M Q := wp_step rfl rfl rfl rfl rfl
theorem u217_65 : wp scr n mb_217 65 L (.int y :: .ref a :: st) M Q ↔ mw_o (mm_lda M a y) (fun v => wp scr n mb_217 66 L (v :: st) M Q) := wp_aald rfl
theorem u217_66 : wp scr n mb_217 66 L st M Q ↔ wp scr n mb_217 67 L (.int 0 :: st) M Q := wp_step rfl rfl rfl rfl rfl
theorem u217_67 : wp scr n mb_217 67 L (a2 :: a1 :: st) M Q ↔ (mw_st st ∧ Wp scr n 151 [a1, a2] M (fun r1 M1 => wp scr n mb_217 70 L (r1.toList ++ st) M1 Q)) := wp_sta rfl rfl rfl rfl
theorem u217_70 : wp scr n mb_217 70 L st M Q ↔ wp scr n mb_217 71 L (.int 1 :: st) M Q := wp_step rfl rfl rfl rfl rfl
theorem u217_71 : wp scr n mb_217 71 L (.int y :: .int x :: st) M Q ↔ wp scr n mb_217 72 L (.int (x - y) :: st) M Q := wp_step rfl rfl rfl rfl rfl
theorem u217_72 : wp scr n mb_217 72 L (.int y :: .int x :: st) M Q ↔ (if y ≤ x then wp scr n mb_217 81 L st M Q else wp scr n mb_217 75 L st M Q) := (wp_step rfl rfl rfl rfl rfl).trans wp_ite
theorem u217_75 : wp scr n mb_217 75 [l0, l1, l2, some (.int x), l4] st M Q ↔ wp scr n mb_217 76 [l0, l1, l2, some (.int x), l4] (.int x :: st) M Q := wp_step rfl rfl rfl rfl rfl
theorem u217_76 : wp scr n mb_217 76 L st M Q ↔ wp scr n mb_217 77 L (.int 1 :: st) M Q := wp_step rfl rfl rfl rfl rfl
theorem u217_77 : wp scr n mb_217 77 L (.int y :: .int x :: st) M Q ↔ wp scr n mb_217 78 L (.int (x + y) :: st) M Q := wp_step rfl rfl rfl rfl rfl
theorem u217_78 : wp scr n mb_217 78 L st M Q ↔ wp scr n mb_217 82 L st M Q := wp_step rfl rfl rfl rfl rfl
theorem u217_81 : wp scr n mb_217 81 L st M Q ↔ wp scr n mb_217 82 L (.int 4 :: st) M Q := wp_step rfl rfl rfl rfl rfl
theorem u217_82 : wp scr n mb_217 82 [l0, l1, l2, l3, l4] (.int x :: st) M Q ↔ wp scr n mb_217 84 (mm_sto1 [l0, l1, l2, l3, l4] 4 (.int x)) st M Q := wp_step rfl rfl rfl rfl rfl
theorem u217_84 : wp scr n mb_217 84 [l0, some (.int x), l2, l3, l4] st M Q ↔ wp scr n mb_217 85 [l0, some (.int x), l2, l3, l4] (.int x :: st) M Q := wp_step rfl rfl rfl rfl rfl
theorem u217_85 : wp scr n mb_217 85 [some (.ref a), l1, l2, l3, l4] st M Q ↔ wp scr n mb_217 86 [some (.ref a), l1, l2, l3, l4] (.ref a :: st) M Q := wp_step rfl rfl rfl rfl rfl
theorem u217_86 : wp scr n mb_217 86 [some (.ref a), l1, l2, l3, l4] st M Q ↔ wp scr n mb_217 87 [some (.ref a), l1, l2, l3, l4] (.ref a :: st) M Q := wp_step rfl rfl rfl rfl rfl
theorem u217_87 : wp scr n mb_217 87 L (o :: st) M Q ↔ mw_o (mm_fld (mc_X scr) M o 6 2) (fun v => wp scr n mb_217 90 L (v :: st) M Q) := wp_getf rfl
theorem u217_90 : wp scr n mb_217 90 L st M Q ↔ wp scr n mb_217 91 L (.int 0 :: st) M Q := wp_step rfl rfl rfl rfl rfl
theorem u217_91 : wp scr n mb_217 91 L (.int y :: .ref a :: st) M Q ↔ mw_o (mm_lda M a y) (fun v => wp scr n mb_217 92 L (v :: st) M Q) := wp_aald rfl
theorem u217_92 : wp scr n mb_217 92 [l0, l1, l2, l3, some (.int x)] st M Q ↔ wp scr n mb_217 94 [l0, l1, l2, l3, some (.int x)] (.int x :: st) M Q := wp_step rfl rfl rfl rfl rfl
theorem u217_94 : wp scr n mb_217 94 [some (.ref a), l1, l2, l3, l4] st M Q ↔ wp scr n mb_217 95 [some (.ref a), l1, l2, l3, l4] (.ref a :: st) M Q := wp_step rfl rfl rfl rfl rfl
theorem u217_95 : wp scr n mb_217 95 L st M Q ↔ wp scr n mb_217 96 L (.int 4 :: st) M Q := wp_step rfl rfl rfl rfl rfl
theorem u217_96 : wp scr n mb_217 96 L (a2 :: .ref a :: st) M Q ↔ ((mw_r M a 6 ∧ mw_st st) ∧ Wp scr n 218 [.ref a, a2] M (fun r1 M1 => wp scr n mb_217 99 L (r1.toList ++ st) M1 Q)) := wp_vir rfl rfl rfl rfl rfl
theorem u217_99 : wp scr n mb_217 99 L (a4 :: a3 :: a2 :: .ref a :: st) M Q ↔ ((mw_r M a 6 ∧ mw_st st) ∧ Wp scr n 152 [.ref a, a2, a3, a4] M (fun r1 M1 => wp scr n mb_217 102 L (r1.toList ++ st) M1 Q)) := wp_vir rfl rfl rfl rfl rfl
theorem u217_102 : wp scr n mb_217 102 L (.int y :: .int x :: st) M Q ↔ wp scr n mb_217 103 L (.int (x + y) :: st) M Q := wp_step rfl rfl rfl rfl rfl
theorem u217_103 : wp scr n mb_217 103 [l0, l1, l2, l3, l4] (.int x :: st) M Q ↔ wp scr n mb_217 104 (mm_sto1 [l0, l1, l2, l3, l4] 1 (.int x)) st M Q := wp_step rfl rfl rfl rfl rfl
theorem u217_104 : wp scr n mb_217 104 L st M Q ↔ wp scr n mb_217 15 L st M Q := wp_step rfl rfl rfl rfl rfl
theorem u217_107 : wp scr n mb_217 107 [l0, some (.int x), l2, l3, l4] st M Q ↔ wp scr n mb_217 108 [l0, some (.int x), l2, l3, l4] (.int x :: st) M Q := wp_step rfl rfl rfl rfl rfl
theorem u217_108 : wp scr n mb_217 108 L [.int x] M Q ↔ Q (some (.int x)) M := wp_ret rfl rfl
theorem e217 : Wp scr (n + 1) 217 [.ref a0] M Q ↔ wp scr n mb_217 0 [some (.ref a0), none, none, none, none] [] M Q := Wp_to rfl rfl rfl
/-- SmallerInTheShopModel draw (I)I -/
def mb_218 : mw_B := ((Option.some FieldType.int), mp_218)
theorem u218_0 : wp scr n mb_218 0 [some (.ref a), l1] st M Q ↔ wp scr n mb_218 1 [some (.ref a), l1] (.ref a :: st) M Q := wp_step rfl rfl rfl rfl rfl
theorem u218_1 : wp scr n mb_218 1 [some (.ref a), l1] st M Q ↔ wp scr n mb_218 2 [some (.ref a), l1] (.ref a :: st) M Q := wp_step rfl rfl rfl rfl rfl
theorem u218_2 : wp scr n mb_218 2 L (o :: st) M Q ↔ mw_o (mm_fld (mc_X scr) M o 6 18) (fun v => wp scr n mb_218 5 L (v :: st) M Q) := wp_getf rfl
theorem u218_5 : wp scr n mb_218 5 L st M Q ↔ wp scr n mb_218 8 L (.int (1664525) :: st) M Q := wp_step rfl rfl rfl rfl rfl
theorem u218_8 : wp scr n mb_218 8 L (.int y :: .int x :: st) M Q ↔ wp scr n mb_218 9 L (.int (x * y) :: st) M Q := wp_step rfl rfl rfl rfl rfl
theorem u218_9 : wp scr n mb_218 9 L st M Q ↔ wp scr n mb_218 12 L (.int (1013904223) :: st) M Q := wp_step rfl rfl rfl rfl rfl
theorem u218_12 : wp scr n mb_218 12 L (.int y :: .int x :: st) M Q ↔ wp scr n mb_218 13 L (.int (x + y) :: st) M Q := wp_step rfl rfl rfl rfl rfl
theorem u218_13 : wp scr n mb_218 13 L (v :: o :: st) M Q ↔ mw_o (mm_put mc_fty M o v 6 18) (fun M1 => wp scr n mb_218 16 L st M1 Q) := wp_putf rfl
theorem u218_16 : wp scr n mb_218 16 [some (.ref a), l1] st M Q ↔ wp scr n mb_218 17 [some (.ref a), l1] (.ref a :: st) M Q := wp_step rfl rfl rfl rfl rfl
theorem u218_17 : wp scr n mb_218 17 L (o :: st) M Q ↔ mw_o (mm_fld (mc_X scr) M o 6 18) (fun v => wp scr n mb_218 20 L (v :: st) M Q) := wp_getf rfl
theorem u218_20 : wp scr n mb_218 20 L st M Q ↔ wp scr n mb_218 23 L (.int (2147483647) :: st) M Q := wp_step rfl rfl rfl rfl rfl
theorem u218_23 : wp scr n mb_218 23 L (.int y :: .int x :: st) M Q ↔ wp scr n mb_218 24 L (.int (x &&& y) :: st) M Q := wp_step rfl rfl rfl rfl rfl
theorem u218_24 : wp scr n mb_218 24 L st M Q ↔ wp scr n mb_218 27 L (.int 256 :: st) M Q := wp_step rfl rfl rfl rfl rfl
theorem u218_27 : wp scr n mb_218 27 L (.int y :: .int x :: st) M Q ↔ (if y = 0 then False else wp scr n mb_218 28 L (.int (x / y) :: st) M Q) := wp_idiv rfl
theorem u218_28 : wp scr n mb_218 28 [l0, some (.int x)] st M Q ↔ wp scr n mb_218 29 [l0, some (.int x)] (.int x :: st) M Q := wp_step rfl rfl rfl rfl rfl
theorem u218_29 : wp scr n mb_218 29 L (.int y :: .int x :: st) M Q ↔ (if y = 0 then False else wp scr n mb_218 30 L (.int (x - x / y * y) :: st) M Q) := wp_irem rfl
theorem u218_30 : wp scr n mb_218 30 L [.int x] M Q ↔ Q (some (.int x)) M := wp_ret rfl rfl
theorem e218 : Wp scr (n + 1) 218 [.ref a0, .int x1] M Q ↔ wp scr n mb_218 0 [some (.ref a0), some (.int x1)] [] M Q := Wp_to rfl rfl rfl
/-- SmallerInTheShopModel image ()I -/
def mb_219 : mw_B := ((Option.some FieldType.int), mp_219)
theorem u219_0 : wp scr n mb_219 0 [some (.ref a)] st M Q ↔ wp scr n mb_219 1 [some (.ref a)] (.ref a :: st) M Q := wp_step rfl rfl rfl rfl rfl
theorem u219_1 : wp scr n mb_219 1 L (o :: st) M Q ↔ mw_o (mm_fld (mc_X scr) M o 6 0) (fun v => wp scr n mb_219 4 L (v :: st) M Q) := wp_getf rfl
theorem u219_4 : wp scr n mb_219 4 [some (.ref a)] st M Q ↔ wp scr n mb_219 5 [some (.ref a)] (.ref a :: st) M Q := wp_step rfl rfl rfl rfl rfl
theorem u219_5 : wp scr n mb_219 5 L (o :: st) M Q ↔ mw_o (mm_fld (mc_X scr) M o 6 1) (fun v => wp scr n mb_219 8 L (v :: st) M Q) := wp_getf rfl
theorem u219_8 : wp scr n mb_219 8 L (a2 :: a1 :: st) M Q ↔ (mw_st st ∧ Wp scr n 147 [a1, a2] M (fun r1 M1 => wp scr n mb_219 11 L (r1.toList ++ st) M1 Q)) := wp_sta rfl rfl rfl rfl
theorem u219_11 : wp scr n mb_219 11 [some (.ref a)] st M Q ↔ wp scr n mb_219 12 [some (.ref a)] (.ref a :: st) M Q := wp_step rfl rfl rfl rfl rfl
theorem u219_12 : wp scr n mb_219 12 L st M Q ↔ wp scr n mb_219 13 L (.int 1 :: st) M Q := wp_step rfl rfl rfl rfl rfl
theorem u219_13 : wp scr n mb_219 13 L (v :: o :: st) M Q ↔ mw_o (mm_put mc_fty M o v 6 3) (fun M1 => wp scr n mb_219 16 L st M1 Q) := wp_putf rfl
theorem u219_16 : wp scr n mb_219 16 [some (.ref a)] st M Q ↔ wp scr n mb_219 17 [some (.ref a)] (.ref a :: st) M Q := wp_step rfl rfl rfl rfl rfl
theorem u219_17 : wp scr n mb_219 17 L (o :: st) M Q ↔ mw_o (mm_fld (mc_X scr) M o 6 0) (fun v => wp scr n mb_219 20 L (v :: st) M Q) := wp_getf rfl
theorem u219_20 : wp scr n mb_219 20 L st M Q ↔ wp scr n mb_219 22 L (.int 73 :: st) M Q := wp_step rfl rfl rfl rfl rfl
theorem u219_22 : wp scr n mb_219 22 L (.int y :: o :: st) M Q ↔ mw_o (mm_ld (mc_X scr) M o y) (fun x => wp scr n mb_219 23 L (.int x :: st) M Q) := wp_iald rfl
theorem u219_23 : wp scr n mb_219 23 L [.int x] M Q ↔ Q (some (.int x)) M := wp_ret rfl rfl
theorem e219 : Wp scr (n + 1) 219 [.ref a0] M Q ↔ wp scr n mb_219 0 [some (.ref a0)] [] M Q := Wp_to rfl rfl rfl
/-- SmallerInTheShopModel on ()I -/
def mb_220 : mw_B := ((Option.some FieldType.int), mp_220)
theorem u220_0 : wp scr n mb_220 0 [some (.ref a)] st M Q ↔ wp scr n mb_220 1 [some (.ref a)] (.ref a :: st) M Q := wp_step rfl rfl rfl rfl rfl
theorem u220_1 : wp scr n mb_220 1 L (o :: st) M Q ↔ mw_o (mm_fld (mc_X scr) M o 6 3) (fun v => wp scr n mb_220 4 L (v :: st) M Q) := wp_getf rfl
theorem u220_4 : wp scr n mb_220 4 L (.int x :: st) M Q ↔ (if x = 0 then wp scr n mb_220 7 L st M Q else wp scr n mb_220 14 L st M Q) := (wp_step rfl rfl rfl rfl rfl).trans wp_iten
theorem u220_7 : wp scr n mb_220 7 [some (.ref a)] st M Q ↔ wp scr n mb_220 8 [some (.ref a)] (.ref a :: st) M Q := wp_step rfl rfl rfl rfl rfl
theorem u220_8 : wp scr n mb_220 8 L st M Q ↔ wp scr n mb_220 10 L (.int (-3) :: st) M Q := wp_step rfl rfl rfl rfl rfl
theorem u220_10 : wp scr n mb_220 10 L (a2 :: .ref a :: st) M Q ↔ ((mw_r M a 6 ∧ mw_st st) ∧ Wp scr n 141 [.ref a, a2] M (fun r1 M1 => wp scr n mb_220 13 L (r1.toList ++ st) M1 Q)) := wp_vir rfl rfl rfl rfl rfl
theorem u220_13 : wp scr n mb_220 13 L [.int x] M Q ↔ Q (some (.int x)) M := wp_ret rfl rfl
theorem u220_14 : wp scr n mb_220 14 [some (.ref a)] st M Q ↔ wp scr n mb_220 15 [some (.ref a)] (.ref a :: st) M Q := wp_step rfl rfl rfl rfl rfl
theorem u220_15 : wp scr n mb_220 15 L (o :: st) M Q ↔ mw_o (mm_fld (mc_X scr) M o 6 1) (fun v => wp scr n mb_220 18 L (v :: st) M Q) := wp_getf rfl
theorem u220_18 : wp scr n mb_220 18 [some (.ref a)] st M Q ↔ wp scr n mb_220 19 [some (.ref a)] (.ref a :: st) M Q := wp_step rfl rfl rfl rfl rfl
theorem u220_19 : wp scr n mb_220 19 L (o :: st) M Q ↔ mw_o (mm_fld (mc_X scr) M o 6 0) (fun v => wp scr n mb_220 22 L (v :: st) M Q) := wp_getf rfl
theorem u220_22 : wp scr n mb_220 22 L (a2 :: a1 :: st) M Q ↔ (mw_st st ∧ Wp scr n 147 [a1, a2] M (fun r1 M1 => wp scr n mb_220 25 L (r1.toList ++ st) M1 Q)) := wp_sta rfl rfl rfl rfl
theorem u220_25 : wp scr n mb_220 25 [some (.ref a)] st M Q ↔ wp scr n mb_220 26 [some (.ref a)] (.ref a :: st) M Q := wp_step rfl rfl rfl rfl rfl
theorem u220_26 : wp scr n mb_220 26 L (o :: st) M Q ↔ mw_o (mm_fld (mc_X scr) M o 6 0) (fun v => wp scr n mb_220 29 L (v :: st) M Q) := wp_getf rfl
theorem u220_29 : wp scr n mb_220 29 L st M Q ↔ wp scr n mb_220 31 L (.int 73 :: st) M Q := wp_step rfl rfl rfl rfl rfl
theorem u220_31 : wp scr n mb_220 31 L (.int y :: o :: st) M Q ↔ mw_o (mm_ld (mc_X scr) M o y) (fun x => wp scr n mb_220 32 L (.int x :: st) M Q) := wp_iald rfl
theorem u220_32 : wp scr n mb_220 32 L [.int x] M Q ↔ Q (some (.int x)) M := wp_ret rfl rfl
theorem e220 : Wp scr (n + 1) 220 [.ref a0] M Q ↔ wp scr n mb_220 0 [some (.ref a0)] [] M Q := Wp_to rfl rfl rfl
/-- SmallerInTheShopModel count (I)I -/
def mb_221 : mw_B := ((Option.some FieldType.int), mp_221)
theorem u221_0 : wp scr n mb_221 0 [l0, some (.int x)] st M Q ↔ wp scr n mb_221 1 [l0, some (.int x)] (.int x :: st) M Q := wp_step rfl rfl rfl rfl rfl
theorem u221_1 : wp scr n mb_221 1 L (.int x :: st) M Q ↔ wp scr n mb_221 (mw_sw x [(0, 48), (1, 56), (2, 64), (3, 75), (4, 83), (5, 101), (6, 109), (7, 114)] 119) L st M Q := wp_tabS (d := 118) (lo := 0) (hi := 7) (os := #[47, 55, 63, 74, 82, 100, 108, 113]) rfl (by decide +kernel) (by decide +kernel) (by decide +kernel)
theorem u221_48 : wp scr n mb_221 48 [some (.ref a), l1] st M Q ↔ wp scr n mb_221 49 [some (.ref a), l1] (.ref a :: st) M Q := wp_step rfl rfl rfl rfl rfl
theorem u221_49 : wp scr n mb_221 49 L (o :: st) M Q ↔ mw_o (mm_fld (mc_X scr) M o 6 0) (fun v => wp scr n mb_221 52 L (v :: st) M Q) := wp_getf rfl
theorem u221_52 : wp scr n mb_221 52 L st M Q ↔ wp scr n mb_221 54 L (.int 73 :: st) M Q := wp_step rfl rfl rfl rfl rfl
theorem u221_54 : wp scr n mb_221 54 L (.int y :: o :: st) M Q ↔ mw_o (mm_ld (mc_X scr) M o y) (fun x => wp scr n mb_221 55 L (.int x :: st) M Q) := wp_iald rfl
theorem u221_55 : wp scr n mb_221 55 L [.int x] M Q ↔ Q (some (.int x)) M := wp_ret rfl rfl
theorem u221_56 : wp scr n mb_221 56 [some (.ref a), l1] st M Q ↔ wp scr n mb_221 57 [some (.ref a), l1] (.ref a :: st) M Q := wp_step rfl rfl rfl rfl rfl
theorem u221_57 : wp scr n mb_221 57 L (o :: st) M Q ↔ mw_o (mm_fld (mc_X scr) M o 6 0) (fun v => wp scr n mb_221 60 L (v :: st) M Q) := wp_getf rfl
theorem u221_60 : wp scr n mb_221 60 L (a1 :: st) M Q ↔ (mw_st st ∧ Wp scr n 178 [a1] M (fun r1 M1 => wp scr n mb_221 63 L (r1.toList ++ st) M1 Q)) := wp_sta rfl rfl rfl rfl
theorem u221_63 : wp scr n mb_221 63 L [.int x] M Q ↔ Q (some (.int x)) M := wp_ret rfl rfl
theorem u221_64 : wp scr n mb_221 64 L st M Q ↔ wp scr n mb_221 67 L (.int 1023 :: st) M Q := wp_step rfl rfl rfl rfl rfl
theorem u221_67 : wp scr n mb_221 67 [some (.ref a), l1] st M Q ↔ wp scr n mb_221 68 [some (.ref a), l1] (.ref a :: st) M Q := wp_step rfl rfl rfl rfl rfl
theorem u221_68 : wp scr n mb_221 68 L (.ref a :: st) M Q ↔ ((mw_r M a 6 ∧ mw_st st) ∧ Wp scr n 184 [.ref a] M (fun r1 M1 => wp scr n mb_221 71 L (r1.toList ++ st) M1 Q)) := wp_vir rfl rfl rfl rfl rfl
theorem u221_71 : wp scr n mb_221 71 L st M Q ↔ wp scr n mb_221 72 L (.int (-1) :: st) M Q := wp_step rfl rfl rfl rfl rfl
theorem u221_72 : wp scr n mb_221 72 L (.int y :: .int x :: st) M Q ↔ wp scr n mb_221 73 L (.int (x ^^^ y) :: st) M Q := wp_step rfl rfl rfl rfl rfl
theorem u221_73 : wp scr n mb_221 73 L (.int y :: .int x :: st) M Q ↔ wp scr n mb_221 74 L (.int (x &&& y) :: st) M Q := wp_step rfl rfl rfl rfl rfl
theorem u221_74 : wp scr n mb_221 74 L [.int x] M Q ↔ Q (some (.int x)) M := wp_ret rfl rfl
theorem u221_75 : wp scr n mb_221 75 [some (.ref a), l1] st M Q ↔ wp scr n mb_221 76 [some (.ref a), l1] (.ref a :: st) M Q := wp_step rfl rfl rfl rfl rfl
theorem u221_76 : wp scr n mb_221 76 L (o :: st) M Q ↔ mw_o (mm_fld (mc_X scr) M o 6 0) (fun v => wp scr n mb_221 79 L (v :: st) M Q) := wp_getf rfl
theorem u221_79 : wp scr n mb_221 79 L st M Q ↔ wp scr n mb_221 81 L (.int 72 :: st) M Q := wp_step rfl rfl rfl rfl rfl
theorem u221_81 : wp scr n mb_221 81 L (.int y :: o :: st) M Q ↔ mw_o (mm_ld (mc_X scr) M o y) (fun x => wp scr n mb_221 82 L (.int x :: st) M Q) := wp_iald rfl
theorem u221_82 : wp scr n mb_221 82 L [.int x] M Q ↔ Q (some (.int x)) M := wp_ret rfl rfl
theorem u221_83 : wp scr n mb_221 83 [some (.ref a), l1] st M Q ↔ wp scr n mb_221 84 [some (.ref a), l1] (.ref a :: st) M Q := wp_step rfl rfl rfl rfl rfl
theorem u221_84 : wp scr n mb_221 84 L (o :: st) M Q ↔ mw_o (mm_fld (mc_X scr) M o 6 0) (fun v => wp scr n mb_221 87 L (v :: st) M Q) := wp_getf rfl
theorem u221_87 : wp scr n mb_221 87 L st M Q ↔ wp scr n mb_221 88 L (.int 0 :: st) M Q := wp_step rfl rfl rfl rfl rfl
theorem u221_88 : wp scr n mb_221 88 L (a2 :: a1 :: st) M Q ↔ (mw_st st ∧ Wp scr n 151 [a1, a2] M (fun r1 M1 => wp scr n mb_221 91 L (r1.toList ++ st) M1 Q)) := wp_sta rfl rfl rfl rfl
theorem u221_91 : wp scr n mb_221 91 [some (.ref a), l1] st M Q ↔ wp scr n mb_221 92 [some (.ref a), l1] (.ref a :: st) M Q := wp_step rfl rfl rfl rfl rfl
theorem u221_92 : wp scr n mb_221 92 L (o :: st) M Q ↔ mw_o (mm_fld (mc_X scr) M o 6 0) (fun v => wp scr n mb_221 95 L (v :: st) M Q) := wp_getf rfl
theorem u221_95 : wp scr n mb_221 95 L st M Q ↔ wp scr n mb_221 96 L (.int 1 :: st) M Q := wp_step rfl rfl rfl rfl rfl
theorem u221_96 : wp scr n mb_221 96 L (a2 :: a1 :: st) M Q ↔ (mw_st st ∧ Wp scr n 151 [a1, a2] M (fun r1 M1 => wp scr n mb_221 99 L (r1.toList ++ st) M1 Q)) := wp_sta rfl rfl rfl rfl
theorem u221_99 : wp scr n mb_221 99 L (.int y :: .int x :: st) M Q ↔ wp scr n mb_221 100 L (.int (x * y) :: st) M Q := wp_step rfl rfl rfl rfl rfl
theorem u221_100 : wp scr n mb_221 100 L [.int x] M Q ↔ Q (some (.int x)) M := wp_ret rfl rfl
theorem u221_101 : wp scr n mb_221 101 [some (.ref a), l1] st M Q ↔ wp scr n mb_221 102 [some (.ref a), l1] (.ref a :: st) M Q := wp_step rfl rfl rfl rfl rfl
theorem u221_102 : wp scr n mb_221 102 L (o :: st) M Q ↔ mw_o (mm_fld (mc_X scr) M o 6 0) (fun v => wp scr n mb_221 105 L (v :: st) M Q) := wp_getf rfl
theorem u221_105 : wp scr n mb_221 105 L (a1 :: st) M Q ↔ (mw_st st ∧ Wp scr n 181 [a1] M (fun r1 M1 => wp scr n mb_221 108 L (r1.toList ++ st) M1 Q)) := wp_sta rfl rfl rfl rfl
theorem u221_108 : wp scr n mb_221 108 L [.int x] M Q ↔ Q (some (.int x)) M := wp_ret rfl rfl
theorem u221_109 : wp scr n mb_221 109 [some (.ref a), l1] st M Q ↔ wp scr n mb_221 110 [some (.ref a), l1] (.ref a :: st) M Q := wp_step rfl rfl rfl rfl rfl
theorem u221_110 : wp scr n mb_221 110 L (o :: st) M Q ↔ mw_o (mm_fld (mc_X scr) M o 6 6) (fun v => wp scr n mb_221 113 L (v :: st) M Q) := wp_getf rfl
theorem u221_113 : wp scr n mb_221 113 L [.int x] M Q ↔ Q (some (.int x)) M := wp_ret rfl rfl
theorem u221_114 : wp scr n mb_221 114 [some (.ref a), l1] st M Q ↔ wp scr n mb_221 115 [some (.ref a), l1] (.ref a :: st) M Q := wp_step rfl rfl rfl rfl rfl
theorem u221_115 : wp scr n mb_221 115 L (o :: st) M Q ↔ mw_o (mm_fld (mc_X scr) M o 6 8) (fun v => wp scr n mb_221 118 L (v :: st) M Q) := wp_getf rfl
theorem u221_118 : wp scr n mb_221 118 L [.int x] M Q ↔ Q (some (.int x)) M := wp_ret rfl rfl
theorem u221_119 : wp scr n mb_221 119 [l0, some (.int x)] st M Q ↔ wp scr n mb_221 120 [l0, some (.int x)] (.int x :: st) M Q := wp_step rfl rfl rfl rfl rfl
theorem u221_120 : wp scr n mb_221 120 L (.int x :: st) M Q ↔ wp scr n mb_221 121 L (.long x.toInt64 :: st) M Q := wp_step rfl rfl rfl rfl rfl
theorem u221_121 : wp scr n mb_221 121 L st M Q ↔ wp scr n mb_221 124 L (.long (11) :: st) M Q := wp_step rfl rfl rfl rfl rfl
theorem u221_124 : wp scr n mb_221 124 L st M Q ↔ wp scr n mb_221 127 L (.long (16) :: st) M Q := wp_step rfl rfl rfl rfl rfl
theorem u221_127 : wp scr n mb_221 127 L (a3 :: a2 :: a1 :: st) M Q ↔ (mw_st st ∧ Wp scr n 146 [a1, a2, a3] M (fun r1 M1 => wp scr n mb_221 130 L (r1.toList ++ st) M1 Q)) := wp_sta rfl rfl rfl rfl
theorem u221_130 : wp scr n mb_221 130 L (.int x :: st) M Q ↔ (if x = 0 then wp scr n mb_221 145 L st M Q else wp scr n mb_221 133 L st M Q) := (wp_step rfl rfl rfl rfl rfl).trans wp_ite
theorem u221_133 : wp scr n mb_221 133 [some (.ref a), l1] st M Q ↔ wp scr n mb_221 134 [some (.ref a), l1] (.ref a :: st) M Q := wp_step rfl rfl rfl rfl rfl
theorem u221_134 : wp scr n mb_221 134 L (o :: st) M Q ↔ mw_o (mm_fld (mc_X scr) M o 6 4) (fun v => wp scr n mb_221 137 L (v :: st) M Q) := wp_getf rfl
theorem u221_137 : wp scr n mb_221 137 [l0, some (.int x)] st M Q ↔ wp scr n mb_221 138 [l0, some (.int x)] (.int x :: st) M Q := wp_step rfl rfl rfl rfl rfl
theorem u221_138 : wp scr n mb_221 138 L st M Q ↔ wp scr n mb_221 140 L (.int 10 :: st) M Q := wp_step rfl rfl rfl rfl rfl
theorem u221_140 : wp scr n mb_221 140 L (.int y :: .int x :: st) M Q ↔ wp scr n mb_221 141 L (.int (x - y) :: st) M Q := wp_step rfl rfl rfl rfl rfl
theorem u221_141 : wp scr n mb_221 141 L (.int y :: o :: st) M Q ↔ mw_o (mm_ld (mc_X scr) M o y) (fun x => wp scr n mb_221 142 L (.int x :: st) M Q) := wp_iald rfl
theorem u221_142 : wp scr n mb_221 142 L st M Q ↔ wp scr n mb_221 147 L st M Q := wp_step rfl rfl rfl rfl rfl
theorem u221_145 : wp scr n mb_221 145 L st M Q ↔ wp scr n mb_221 147 L (.int (-9) :: st) M Q := wp_step rfl rfl rfl rfl rfl
theorem u221_147 : wp scr n mb_221 147 L [.int x] M Q ↔ Q (some (.int x)) M := wp_ret rfl rfl
theorem e221 : Wp scr (n + 1) 221 [.ref a0, .int x1] M Q ↔ wp scr n mb_221 0 [some (.ref a0), some (.int x1)] [] M Q := Wp_to rfl rfl rfl
/-- the law -/
def mb_law : mw_B := ((Option.some FieldType.boolean), mp_law)
set_option maxRecDepth 100000 in
theorem ulaw_3 : wp scr n mb_law 3 L (.ref a :: st) M Q ↔ wp scr n mb_law 4 L (.ref a :: .ref a :: st) M Q := wp_step rfl rfl rfl rfl rfl
set_option maxRecDepth 100000 in
theorem ulaw_7 : wp scr n mb_law 7 [l0, l1, l2, l3] (.ref a :: st) M Q ↔ wp scr n mb_law 8 (mm_sto1 [l0, l1, l2, l3] 1 (.ref a)) st M Q := wp_step rfl rfl rfl rfl rfl
set_option maxRecDepth 100000 in
theorem ulaw_7b : wp scr n mb_law 7 [l0, l1, l2, l3] (.retAddr a :: st) M Q ↔ wp scr n mb_law 8 (mm_sto1 [l0, l1, l2, l3] 1 (.retAddr a)) st M Q := wp_step rfl rfl rfl rfl rfl
set_option maxRecDepth 100000 in
theorem ulaw_11 : wp scr n mb_law 11 L (.ref a :: st) M Q ↔ wp scr n mb_law 12 L (.ref a :: .ref a :: st) M Q := wp_step rfl rfl rfl rfl rfl
set_option maxRecDepth 100000 in
theorem ulaw_15 : wp scr n mb_law 15 [l0, l1, l2, l3] (.ref a :: st) M Q ↔ wp scr n mb_law 16 (mm_sto1 [l0, l1, l2, l3] 2 (.ref a)) st M Q := wp_step rfl rfl rfl rfl rfl
set_option maxRecDepth 100000 in
theorem ulaw_15b : wp scr n mb_law 15 [l0, l1, l2, l3] (.retAddr a :: st) M Q ↔ wp scr n mb_law 16 (mm_sto1 [l0, l1, l2, l3] 2 (.retAddr a)) st M Q := wp_step rfl rfl rfl rfl rfl
set_option maxRecDepth 100000 in
theorem ulaw_16 : wp scr n mb_law 16 L st M Q ↔ wp scr n mb_law 17 L (.int 0 :: st) M Q := wp_step rfl rfl rfl rfl rfl
set_option maxRecDepth 100000 in
theorem ulaw_17 : wp scr n mb_law 17 [l0, l1, l2, l3] (.int x :: st) M Q ↔ wp scr n mb_law 18 (mm_sto1 [l0, l1, l2, l3] 3 (.int x)) st M Q := wp_step rfl rfl rfl rfl rfl
set_option maxRecDepth 100000 in
theorem ulaw_18 : wp scr n mb_law 18 [l0, l1, l2, some (.int x)] st M Q ↔ wp scr n mb_law 19 [l0, l1, l2, some (.int x)] (.int x :: st) M Q := wp_step rfl rfl rfl rfl rfl
set_option maxRecDepth 100000 in
theorem ulaw_19 : wp scr n mb_law 19 [some (.ref a), l1, l2, l3] st M Q ↔ wp scr n mb_law 20 [some (.ref a), l1, l2, l3] (.ref a :: st) M Q := wp_step rfl rfl rfl rfl rfl
set_option maxRecDepth 100000 in
theorem ulaw_19b : wp scr n mb_law 19 [some (.retAddr a), l1, l2, l3] st M Q ↔ wp scr n mb_law 20 [some (.retAddr a), l1, l2, l3] (.retAddr a :: st) M Q := wp_step rfl rfl rfl rfl rfl
set_option maxRecDepth 100000 in
theorem ulaw_20 : wp scr n mb_law 20 L (.retAddr a :: st) M Q ↔ mw_o (match mc_X scr a with | some (.inl xs) => some (Int32.ofNat xs.length) | _ => none) (fun x => wp scr n mb_law 21 L (.int x :: st) M Q) := wp_alen rfl
set_option maxRecDepth 100000 in
theorem ulaw_21 : wp scr n mb_law 21 L st M Q ↔ wp scr n mb_law 22 L (.int 5 :: st) M Q := wp_step rfl rfl rfl rfl rfl
set_option maxRecDepth 100000 in
theorem ulaw_22 : wp scr n mb_law 22 L (.int y :: .int x :: st) M Q ↔ wp scr n mb_law 23 L (.int (x - y) :: st) M Q := wp_step rfl rfl rfl rfl rfl
set_option maxRecDepth 100000 in
theorem ulaw_23 : wp scr n mb_law 23 L (.int y :: .int x :: st) M Q ↔ (if y < x then wp scr n mb_law 1090 L st M Q else wp scr n mb_law 26 L st M Q) := (wp_step rfl rfl rfl rfl rfl).trans wp_ite
set_option maxRecDepth 100000 in
theorem ulaw_26 : wp scr n mb_law 26 [some (.ref a), l1, l2, l3] st M Q ↔ wp scr n mb_law 27 [some (.ref a), l1, l2, l3] (.ref a :: st) M Q := wp_step rfl rfl rfl rfl rfl
set_option maxRecDepth 100000 in
theorem ulaw_26b : wp scr n mb_law 26 [some (.retAddr a), l1, l2, l3] st M Q ↔ wp scr n mb_law 27 [some (.retAddr a), l1, l2, l3] (.retAddr a :: st) M Q := wp_step rfl rfl rfl rfl rfl
set_option maxRecDepth 100000 in
theorem ulaw_27 : wp scr n mb_law 27 [l0, l1, l2, some (.int x)] st M Q ↔ wp scr n mb_law 28 [l0, l1, l2, some (.int x)] (.int x :: st) M Q := wp_step rfl rfl rfl rfl rfl
set_option maxRecDepth 100000 in
theorem ulaw_28 : wp scr n mb_law 28 L (.int y :: o :: st) M Q ↔ mw_o (mm_ld (mc_X scr) M o y) (fun x => wp scr n mb_law 29 L (.int x :: st) M Q) := wp_iald rfl
set_option maxRecDepth 100000 in
theorem ulaw_29 : wp scr n mb_law 29 L st M Q ↔ wp scr n mb_law 31 L (.int 31 :: st) M Q := wp_step rfl rfl rfl rfl rfl
set_option maxRecDepth 100000 in
theorem ulaw_31 : wp scr n mb_law 31 L (.int y :: .int x :: st) M Q ↔ wp scr n mb_law 32 L (.int (x &&& y) :: st) M Q := wp_step rfl rfl rfl rfl rfl
set_option maxRecDepth 100000 in
theorem ulaw_32 : wp scr n mb_law 32 L (.int x :: st) M Q ↔ wp scr n mb_law (mw_sw x [(0, 176), (1, 199), (2, 212), (3, 245), (4, 278), (5, 311), (6, 324), (7, 357), (8, 400), (9, 423), (10, 466), (11, 499), (12, 522), (13, 545), (14, 568), (15, 621), (16, 664), (17, 677), (18, 710), (19, 743), (20, 796), (21, 829), (22, 852), (23, 886), (24, 910), (25, 943), (26, 966), (27, 979), (28, 992), (29, 1035), (30, 1048), (31, 1061)] 1084) L st M Q := wp_tabS (d := 1052) (lo := 0) (hi := 31) (os := #[144, 167, 180, 213, 246, 279, 292, 325, 368, 391, 434, 467, 490, 513, 536, 589, 632, 645, 678, 711, 764, 797, 820, 854, 878, 911, 934, 947, 960, 1003, 1016, 1029]) rfl (by decide +kernel) (by decide +kernel) (by decide +kernel)
set_option maxRecDepth 100000 in
theorem ulaw_176 : wp scr n mb_law 176 [l0, some (.ref a), l2, l3] st M Q ↔ wp scr n mb_law 177 [l0, some (.ref a), l2, l3] (.ref a :: st) M Q := wp_step rfl rfl rfl rfl rfl
set_option maxRecDepth 100000 in
theorem ulaw_176b : wp scr n mb_law 176 [l0, some (.retAddr a), l2, l3] st M Q ↔ wp scr n mb_law 177 [l0, some (.retAddr a), l2, l3] (.retAddr a :: st) M Q := wp_step rfl rfl rfl rfl rfl
set_option maxRecDepth 100000 in
theorem ulaw_177 : wp scr n mb_law 177 [some (.ref a), l1, l2, l3] st M Q ↔ wp scr n mb_law 178 [some (.ref a), l1, l2, l3] (.ref a :: st) M Q := wp_step rfl rfl rfl rfl rfl
set_option maxRecDepth 100000 in
theorem ulaw_177b : wp scr n mb_law 177 [some (.retAddr a), l1, l2, l3] st M Q ↔ wp scr n mb_law 178 [some (.retAddr a), l1, l2, l3] (.retAddr a :: st) M Q := wp_step rfl rfl rfl rfl rfl
set_option maxRecDepth 100000 in
theorem ulaw_178 : wp scr n mb_law 178 [l0, l1, l2, some (.int x)] st M Q ↔ wp scr n mb_law 179 [l0, l1, l2, some (.int x)] (.int x :: st) M Q := wp_step rfl rfl rfl rfl rfl
set_option maxRecDepth 100000 in
theorem ulaw_179 : wp scr n mb_law 179 L st M Q ↔ wp scr n mb_law 180 L (.int 1 :: st) M Q := wp_step rfl rfl rfl rfl rfl
set_option maxRecDepth 100000 in
theorem ulaw_180 : wp scr n mb_law 180 L (.int y :: .int x :: st) M Q ↔ wp scr n mb_law 181 L (.int (x + y) :: st) M Q := wp_step rfl rfl rfl rfl rfl
set_option maxRecDepth 100000 in
theorem ulaw_181 : wp scr n mb_law 181 L (.int y :: o :: st) M Q ↔ mw_o (mm_ld (mc_X scr) M o y) (fun x => wp scr n mb_law 182 L (.int x :: st) M Q) := wp_iald rfl
set_option maxRecDepth 100000 in
theorem ulaw_182 : wp scr n mb_law 182 L (a2 :: .ref a :: st) M Q ↔ ((mw_r M a 5 ∧ mw_st st) ∧ Wp scr n 83 [.ref a, a2] M (fun r1 M1 => wp scr n mb_law 185 L (r1.toList ++ st) M1 Q)) := wp_vir rfl rfl rfl rfl rfl
set_option maxRecDepth 100000 in
theorem ulaw_185 : wp scr n mb_law 185 [l0, l1, some (.ref a), l3] st M Q ↔ wp scr n mb_law 186 [l0, l1, some (.ref a), l3] (.ref a :: st) M Q := wp_step rfl rfl rfl rfl rfl
set_option maxRecDepth 100000 in
theorem ulaw_185b : wp scr n mb_law 185 [l0, l1, some (.retAddr a), l3] st M Q ↔ wp scr n mb_law 186 [l0, l1, some (.retAddr a), l3] (.retAddr a :: st) M Q := wp_step rfl rfl rfl rfl rfl
set_option maxRecDepth 100000 in
theorem ulaw_186 : wp scr n mb_law 186 [some (.ref a), l1, l2, l3] st M Q ↔ wp scr n mb_law 187 [some (.ref a), l1, l2, l3] (.ref a :: st) M Q := wp_step rfl rfl rfl rfl rfl
set_option maxRecDepth 100000 in
theorem ulaw_186b : wp scr n mb_law 186 [some (.retAddr a), l1, l2, l3] st M Q ↔ wp scr n mb_law 187 [some (.retAddr a), l1, l2, l3] (.retAddr a :: st) M Q := wp_step rfl rfl rfl rfl rfl
set_option maxRecDepth 100000 in
theorem ulaw_187 : wp scr n mb_law 187 [l0, l1, l2, some (.int x)] st M Q ↔ wp scr n mb_law 188 [l0, l1, l2, some (.int x)] (.int x :: st) M Q := wp_step rfl rfl rfl rfl rfl
set_option maxRecDepth 100000 in
theorem ulaw_188 : wp scr n mb_law 188 L st M Q ↔ wp scr n mb_law 189 L (.int 1 :: st) M Q := wp_step rfl rfl rfl rfl rfl
set_option maxRecDepth 100000 in
theorem ulaw_189 : wp scr n mb_law 189 L (.int y :: .int x :: st) M Q ↔ wp scr n mb_law 190 L (.int (x + y) :: st) M Q := wp_step rfl rfl rfl rfl rfl
set_option maxRecDepth 100000 in
theorem ulaw_190 : wp scr n mb_law 190 L (.int y :: o :: st) M Q ↔ mw_o (mm_ld (mc_X scr) M o y) (fun x => wp scr n mb_law 191 L (.int x :: st) M Q) := wp_iald rfl
set_option maxRecDepth 100000 in
theorem ulaw_191 : wp scr n mb_law 191 L (a2 :: .ref a :: st) M Q ↔ ((mw_r M a 6 ∧ mw_st st) ∧ Wp scr n 140 [.ref a, a2] M (fun r1 M1 => wp scr n mb_law 194 L (r1.toList ++ st) M1 Q)) := wp_vir rfl rfl rfl rfl rfl
set_option maxRecDepth 100000 in
theorem ulaw_194 : wp scr n mb_law 194 L (.int y :: .int x :: st) M Q ↔ (if x = y then wp scr n mb_law 1084 L st M Q else wp scr n mb_law 197 L st M Q) := (wp_step rfl rfl rfl rfl rfl).trans wp_ite
set_option maxRecDepth 100000 in
theorem ulaw_197 : wp scr n mb_law 197 L st M Q ↔ wp scr n mb_law 198 L (.int 0 :: st) M Q := wp_step rfl rfl rfl rfl rfl
set_option maxRecDepth 100000 in
theorem ulaw_198 : wp scr n mb_law 198 L [.int x] M Q ↔ ((x = 0 ∨ x = 1) ∧ Q (some (.int x)) M) := wp_retb rfl rfl
set_option maxRecDepth 100000 in
theorem ulaw_199 : wp scr n mb_law 199 [l0, some (.ref a), l2, l3] st M Q ↔ wp scr n mb_law 200 [l0, some (.ref a), l2, l3] (.ref a :: st) M Q := wp_step rfl rfl rfl rfl rfl
set_option maxRecDepth 100000 in
theorem ulaw_199b : wp scr n mb_law 199 [l0, some (.retAddr a), l2, l3] st M Q ↔ wp scr n mb_law 200 [l0, some (.retAddr a), l2, l3] (.retAddr a :: st) M Q := wp_step rfl rfl rfl rfl rfl
set_option maxRecDepth 100000 in
theorem ulaw_200 : wp scr n mb_law 200 L (.ref a :: st) M Q ↔ ((mw_r M a 5 ∧ mw_st st) ∧ Wp scr n 85 [.ref a] M (fun r1 M1 => wp scr n mb_law 203 L (r1.toList ++ st) M1 Q)) := wp_vir rfl rfl rfl rfl rfl
set_option maxRecDepth 100000 in
theorem ulaw_203 : wp scr n mb_law 203 [l0, l1, some (.ref a), l3] st M Q ↔ wp scr n mb_law 204 [l0, l1, some (.ref a), l3] (.ref a :: st) M Q := wp_step rfl rfl rfl rfl rfl
set_option maxRecDepth 100000 in
theorem ulaw_203b : wp scr n mb_law 203 [l0, l1, some (.retAddr a), l3] st M Q ↔ wp scr n mb_law 204 [l0, l1, some (.retAddr a), l3] (.retAddr a :: st) M Q := wp_step rfl rfl rfl rfl rfl
set_option maxRecDepth 100000 in
theorem ulaw_204 : wp scr n mb_law 204 L (.ref a :: st) M Q ↔ ((mw_r M a 6 ∧ mw_st st) ∧ Wp scr n 142 [.ref a] M (fun r1 M1 => wp scr n mb_law 207 L (r1.toList ++ st) M1 Q)) := wp_vir rfl rfl rfl rfl rfl
set_option maxRecDepth 100000 in
theorem ulaw_207 : wp scr n mb_law 207 L (.int y :: .int x :: st) M Q ↔ (if x = y then wp scr n mb_law 1084 L st M Q else wp scr n mb_law 210 L st M Q) := (wp_step rfl rfl rfl rfl rfl).trans wp_ite
set_option maxRecDepth 100000 in
theorem ulaw_210 : wp scr n mb_law 210 L st M Q ↔ wp scr n mb_law 211 L (.int 0 :: st) M Q := wp_step rfl rfl rfl rfl rfl
set_option maxRecDepth 100000 in
theorem ulaw_211 : wp scr n mb_law 211 L [.int x] M Q ↔ ((x = 0 ∨ x = 1) ∧ Q (some (.int x)) M) := wp_retb rfl rfl
set_option maxRecDepth 100000 in
theorem ulaw_212 : wp scr n mb_law 212 [l0, some (.ref a), l2, l3] st M Q ↔ wp scr n mb_law 213 [l0, some (.ref a), l2, l3] (.ref a :: st) M Q := wp_step rfl rfl rfl rfl rfl
set_option maxRecDepth 100000 in
theorem ulaw_212b : wp scr n mb_law 212 [l0, some (.retAddr a), l2, l3] st M Q ↔ wp scr n mb_law 213 [l0, some (.retAddr a), l2, l3] (.retAddr a :: st) M Q := wp_step rfl rfl rfl rfl rfl
set_option maxRecDepth 100000 in
theorem ulaw_213 : wp scr n mb_law 213 [some (.ref a), l1, l2, l3] st M Q ↔ wp scr n mb_law 214 [some (.ref a), l1, l2, l3] (.ref a :: st) M Q := wp_step rfl rfl rfl rfl rfl
set_option maxRecDepth 100000 in
theorem ulaw_213b : wp scr n mb_law 213 [some (.retAddr a), l1, l2, l3] st M Q ↔ wp scr n mb_law 214 [some (.retAddr a), l1, l2, l3] (.retAddr a :: st) M Q := wp_step rfl rfl rfl rfl rfl
set_option maxRecDepth 100000 in
theorem ulaw_214 : wp scr n mb_law 214 [l0, l1, l2, some (.int x)] st M Q ↔ wp scr n mb_law 215 [l0, l1, l2, some (.int x)] (.int x :: st) M Q := wp_step rfl rfl rfl rfl rfl
set_option maxRecDepth 100000 in
theorem ulaw_215 : wp scr n mb_law 215 L st M Q ↔ wp scr n mb_law 216 L (.int 1 :: st) M Q := wp_step rfl rfl rfl rfl rfl
set_option maxRecDepth 100000 in
theorem ulaw_216 : wp scr n mb_law 216 L (.int y :: .int x :: st) M Q ↔ wp scr n mb_law 217 L (.int (x + y) :: st) M Q := wp_step rfl rfl rfl rfl rfl
set_option maxRecDepth 100000 in
theorem ulaw_217 : wp scr n mb_law 217 L (.int y :: o :: st) M Q ↔ mw_o (mm_ld (mc_X scr) M o y) (fun x => wp scr n mb_law 218 L (.int x :: st) M Q) := wp_iald rfl
set_option maxRecDepth 100000 in
theorem ulaw_218 : wp scr n mb_law 218 [some (.ref a), l1, l2, l3] st M Q ↔ wp scr n mb_law 219 [some (.ref a), l1, l2, l3] (.ref a :: st) M Q := wp_step rfl rfl rfl rfl rfl
set_option maxRecDepth 100000 in
theorem ulaw_218b : wp scr n mb_law 218 [some (.retAddr a), l1, l2, l3] st M Q ↔ wp scr n mb_law 219 [some (.retAddr a), l1, l2, l3] (.retAddr a :: st) M Q := wp_step rfl rfl rfl rfl rfl
set_option maxRecDepth 100000 in
theorem ulaw_219 : wp scr n mb_law 219 [l0, l1, l2, some (.int x)] st M Q ↔ wp scr n mb_law 220 [l0, l1, l2, some (.int x)] (.int x :: st) M Q := wp_step rfl rfl rfl rfl rfl
set_option maxRecDepth 100000 in
theorem ulaw_220 : wp scr n mb_law 220 L st M Q ↔ wp scr n mb_law 221 L (.int 2 :: st) M Q := wp_step rfl rfl rfl rfl rfl
set_option maxRecDepth 100000 in
theorem ulaw_221 : wp scr n mb_law 221 L (.int y :: .int x :: st) M Q ↔ wp scr n mb_law 222 L (.int (x + y) :: st) M Q := wp_step rfl rfl rfl rfl rfl
set_option maxRecDepth 100000 in
theorem ulaw_222 : wp scr n mb_law 222 L (.int y :: o :: st) M Q ↔ mw_o (mm_ld (mc_X scr) M o y) (fun x => wp scr n mb_law 223 L (.int x :: st) M Q) := wp_iald rfl
set_option maxRecDepth 100000 in
theorem ulaw_223 : wp scr n mb_law 223 L (a3 :: a2 :: .ref a :: st) M Q ↔ ((mw_r M a 5 ∧ mw_st st) ∧ Wp scr n 93 [.ref a, a2, a3] M (fun r1 M1 => wp scr n mb_law 226 L (r1.toList ++ st) M1 Q)) := wp_vir rfl rfl rfl rfl rfl
set_option maxRecDepth 100000 in
theorem ulaw_226 : wp scr n mb_law 226 [l0, l1, some (.ref a), l3] st M Q ↔ wp scr n mb_law 227 [l0, l1, some (.ref a), l3] (.ref a :: st) M Q := wp_step rfl rfl rfl rfl rfl
set_option maxRecDepth 100000 in
theorem ulaw_226b : wp scr n mb_law 226 [l0, l1, some (.retAddr a), l3] st M Q ↔ wp scr n mb_law 227 [l0, l1, some (.retAddr a), l3] (.retAddr a :: st) M Q := wp_step rfl rfl rfl rfl rfl
set_option maxRecDepth 100000 in
theorem ulaw_227 : wp scr n mb_law 227 [some (.ref a), l1, l2, l3] st M Q ↔ wp scr n mb_law 228 [some (.ref a), l1, l2, l3] (.ref a :: st) M Q := wp_step rfl rfl rfl rfl rfl
set_option maxRecDepth 100000 in
theorem ulaw_227b : wp scr n mb_law 227 [some (.retAddr a), l1, l2, l3] st M Q ↔ wp scr n mb_law 228 [some (.retAddr a), l1, l2, l3] (.retAddr a :: st) M Q := wp_step rfl rfl rfl rfl rfl
set_option maxRecDepth 100000 in
theorem ulaw_228 : wp scr n mb_law 228 [l0, l1, l2, some (.int x)] st M Q ↔ wp scr n mb_law 229 [l0, l1, l2, some (.int x)] (.int x :: st) M Q := wp_step rfl rfl rfl rfl rfl
set_option maxRecDepth 100000 in
theorem ulaw_229 : wp scr n mb_law 229 L st M Q ↔ wp scr n mb_law 230 L (.int 1 :: st) M Q := wp_step rfl rfl rfl rfl rfl
set_option maxRecDepth 100000 in
theorem ulaw_230 : wp scr n mb_law 230 L (.int y :: .int x :: st) M Q ↔ wp scr n mb_law 231 L (.int (x + y) :: st) M Q := wp_step rfl rfl rfl rfl rfl
set_option maxRecDepth 100000 in
theorem ulaw_231 : wp scr n mb_law 231 L (.int y :: o :: st) M Q ↔ mw_o (mm_ld (mc_X scr) M o y) (fun x => wp scr n mb_law 232 L (.int x :: st) M Q) := wp_iald rfl
set_option maxRecDepth 100000 in
theorem ulaw_232 : wp scr n mb_law 232 [some (.ref a), l1, l2, l3] st M Q ↔ wp scr n mb_law 233 [some (.ref a), l1, l2, l3] (.ref a :: st) M Q := wp_step rfl rfl rfl rfl rfl
set_option maxRecDepth 100000 in
theorem ulaw_232b : wp scr n mb_law 232 [some (.retAddr a), l1, l2, l3] st M Q ↔ wp scr n mb_law 233 [some (.retAddr a), l1, l2, l3] (.retAddr a :: st) M Q := wp_step rfl rfl rfl rfl rfl
set_option maxRecDepth 100000 in
theorem ulaw_233 : wp scr n mb_law 233 [l0, l1, l2, some (.int x)] st M Q ↔ wp scr n mb_law 234 [l0, l1, l2, some (.int x)] (.int x :: st) M Q := wp_step rfl rfl rfl rfl rfl
set_option maxRecDepth 100000 in
theorem ulaw_234 : wp scr n mb_law 234 L st M Q ↔ wp scr n mb_law 235 L (.int 2 :: st) M Q := wp_step rfl rfl rfl rfl rfl
set_option maxRecDepth 100000 in
theorem ulaw_235 : wp scr n mb_law 235 L (.int y :: .int x :: st) M Q ↔ wp scr n mb_law 236 L (.int (x + y) :: st) M Q := wp_step rfl rfl rfl rfl rfl
set_option maxRecDepth 100000 in
theorem ulaw_236 : wp scr n mb_law 236 L (.int y :: o :: st) M Q ↔ mw_o (mm_ld (mc_X scr) M o y) (fun x => wp scr n mb_law 237 L (.int x :: st) M Q) := wp_iald rfl
set_option maxRecDepth 100000 in
theorem ulaw_237 : wp scr n mb_law 237 L (a3 :: a2 :: .ref a :: st) M Q ↔ ((mw_r M a 6 ∧ mw_st st) ∧ Wp scr n 165 [.ref a, a2, a3] M (fun r1 M1 => wp scr n mb_law 240 L (r1.toList ++ st) M1 Q)) := wp_vir rfl rfl rfl rfl rfl
set_option maxRecDepth 100000 in
theorem ulaw_240 : wp scr n mb_law 240 L (.int y :: .int x :: st) M Q ↔ (if x = y then wp scr n mb_law 1084 L st M Q else wp scr n mb_law 243 L st M Q) := (wp_step rfl rfl rfl rfl rfl).trans wp_ite
set_option maxRecDepth 100000 in
theorem ulaw_243 : wp scr n mb_law 243 L st M Q ↔ wp scr n mb_law 244 L (.int 0 :: st) M Q := wp_step rfl rfl rfl rfl rfl
set_option maxRecDepth 100000 in
theorem ulaw_244 : wp scr n mb_law 244 L [.int x] M Q ↔ ((x = 0 ∨ x = 1) ∧ Q (some (.int x)) M) := wp_retb rfl rfl
set_option maxRecDepth 100000 in
theorem ulaw_245 : wp scr n mb_law 245 [l0, some (.ref a), l2, l3] st M Q ↔ wp scr n mb_law 246 [l0, some (.ref a), l2, l3] (.ref a :: st) M Q := wp_step rfl rfl rfl rfl rfl
set_option maxRecDepth 100000 in
theorem ulaw_245b : wp scr n mb_law 245 [l0, some (.retAddr a), l2, l3] st M Q ↔ wp scr n mb_law 246 [l0, some (.retAddr a), l2, l3] (.retAddr a :: st) M Q := wp_step rfl rfl rfl rfl rfl
set_option maxRecDepth 100000 in
theorem ulaw_246 : wp scr n mb_law 246 [some (.ref a), l1, l2, l3] st M Q ↔ wp scr n mb_law 247 [some (.ref a), l1, l2, l3] (.ref a :: st) M Q := wp_step rfl rfl rfl rfl rfl
set_option maxRecDepth 100000 in
theorem ulaw_246b : wp scr n mb_law 246 [some (.retAddr a), l1, l2, l3] st M Q ↔ wp scr n mb_law 247 [some (.retAddr a), l1, l2, l3] (.retAddr a :: st) M Q := wp_step rfl rfl rfl rfl rfl
set_option maxRecDepth 100000 in
theorem ulaw_247 : wp scr n mb_law 247 [l0, l1, l2, some (.int x)] st M Q ↔ wp scr n mb_law 248 [l0, l1, l2, some (.int x)] (.int x :: st) M Q := wp_step rfl rfl rfl rfl rfl
set_option maxRecDepth 100000 in
theorem ulaw_248 : wp scr n mb_law 248 L st M Q ↔ wp scr n mb_law 249 L (.int 1 :: st) M Q := wp_step rfl rfl rfl rfl rfl
set_option maxRecDepth 100000 in
theorem ulaw_249 : wp scr n mb_law 249 L (.int y :: .int x :: st) M Q ↔ wp scr n mb_law 250 L (.int (x + y) :: st) M Q := wp_step rfl rfl rfl rfl rfl
set_option maxRecDepth 100000 in
theorem ulaw_250 : wp scr n mb_law 250 L (.int y :: o :: st) M Q ↔ mw_o (mm_ld (mc_X scr) M o y) (fun x => wp scr n mb_law 251 L (.int x :: st) M Q) := wp_iald rfl
set_option maxRecDepth 100000 in
theorem ulaw_251 : wp scr n mb_law 251 [some (.ref a), l1, l2, l3] st M Q ↔ wp scr n mb_law 252 [some (.ref a), l1, l2, l3] (.ref a :: st) M Q := wp_step rfl rfl rfl rfl rfl
set_option maxRecDepth 100000 in
theorem ulaw_251b : wp scr n mb_law 251 [some (.retAddr a), l1, l2, l3] st M Q ↔ wp scr n mb_law 252 [some (.retAddr a), l1, l2, l3] (.retAddr a :: st) M Q := wp_step rfl rfl rfl rfl rfl
set_option maxRecDepth 100000 in
theorem ulaw_252 : wp scr n mb_law 252 [l0, l1, l2, some (.int x)] st M Q ↔ wp scr n mb_law 253 [l0, l1, l2, some (.int x)] (.int x :: st) M Q := wp_step rfl rfl rfl rfl rfl
set_option maxRecDepth 100000 in
theorem ulaw_253 : wp scr n mb_law 253 L st M Q ↔ wp scr n mb_law 254 L (.int 2 :: st) M Q := wp_step rfl rfl rfl rfl rfl
set_option maxRecDepth 100000 in
theorem ulaw_254 : wp scr n mb_law 254 L (.int y :: .int x :: st) M Q ↔ wp scr n mb_law 255 L (.int (x + y) :: st) M Q := wp_step rfl rfl rfl rfl rfl
set_option maxRecDepth 100000 in
theorem ulaw_255 : wp scr n mb_law 255 L (.int y :: o :: st) M Q ↔ mw_o (mm_ld (mc_X scr) M o y) (fun x => wp scr n mb_law 256 L (.int x :: st) M Q) := wp_iald rfl
set_option maxRecDepth 100000 in
theorem ulaw_256 : wp scr n mb_law 256 L (a3 :: a2 :: .ref a :: st) M Q ↔ ((mw_r M a 5 ∧ mw_st st) ∧ Wp scr n 94 [.ref a, a2, a3] M (fun r1 M1 => wp scr n mb_law 259 L (r1.toList ++ st) M1 Q)) := wp_vir rfl rfl rfl rfl rfl
set_option maxRecDepth 100000 in
theorem ulaw_259 : wp scr n mb_law 259 [l0, l1, some (.ref a), l3] st M Q ↔ wp scr n mb_law 260 [l0, l1, some (.ref a), l3] (.ref a :: st) M Q := wp_step rfl rfl rfl rfl rfl
set_option maxRecDepth 100000 in
theorem ulaw_259b : wp scr n mb_law 259 [l0, l1, some (.retAddr a), l3] st M Q ↔ wp scr n mb_law 260 [l0, l1, some (.retAddr a), l3] (.retAddr a :: st) M Q := wp_step rfl rfl rfl rfl rfl
set_option maxRecDepth 100000 in
theorem ulaw_260 : wp scr n mb_law 260 [some (.ref a), l1, l2, l3] st M Q ↔ wp scr n mb_law 261 [some (.ref a), l1, l2, l3] (.ref a :: st) M Q := wp_step rfl rfl rfl rfl rfl
set_option maxRecDepth 100000 in
theorem ulaw_260b : wp scr n mb_law 260 [some (.retAddr a), l1, l2, l3] st M Q ↔ wp scr n mb_law 261 [some (.retAddr a), l1, l2, l3] (.retAddr a :: st) M Q := wp_step rfl rfl rfl rfl rfl
set_option maxRecDepth 100000 in
theorem ulaw_261 : wp scr n mb_law 261 [l0, l1, l2, some (.int x)] st M Q ↔ wp scr n mb_law 262 [l0, l1, l2, some (.int x)] (.int x :: st) M Q := wp_step rfl rfl rfl rfl rfl
set_option maxRecDepth 100000 in
theorem ulaw_262 : wp scr n mb_law 262 L st M Q ↔ wp scr n mb_law 263 L (.int 1 :: st) M Q := wp_step rfl rfl rfl rfl rfl
set_option maxRecDepth 100000 in
theorem ulaw_263 : wp scr n mb_law 263 L (.int y :: .int x :: st) M Q ↔ wp scr n mb_law 264 L (.int (x + y) :: st) M Q := wp_step rfl rfl rfl rfl rfl
set_option maxRecDepth 100000 in
theorem ulaw_264 : wp scr n mb_law 264 L (.int y :: o :: st) M Q ↔ mw_o (mm_ld (mc_X scr) M o y) (fun x => wp scr n mb_law 265 L (.int x :: st) M Q) := wp_iald rfl
set_option maxRecDepth 100000 in
theorem ulaw_265 : wp scr n mb_law 265 [some (.ref a), l1, l2, l3] st M Q ↔ wp scr n mb_law 266 [some (.ref a), l1, l2, l3] (.ref a :: st) M Q := wp_step rfl rfl rfl rfl rfl
set_option maxRecDepth 100000 in
theorem ulaw_265b : wp scr n mb_law 265 [some (.retAddr a), l1, l2, l3] st M Q ↔ wp scr n mb_law 266 [some (.retAddr a), l1, l2, l3] (.retAddr a :: st) M Q := wp_step rfl rfl rfl rfl rfl
set_option maxRecDepth 100000 in
theorem ulaw_266 : wp scr n mb_law 266 [l0, l1, l2, some (.int x)] st M Q ↔ wp scr n mb_law 267 [l0, l1, l2, some (.int x)] (.int x :: st) M Q := wp_step rfl rfl rfl rfl rfl
set_option maxRecDepth 100000 in
theorem ulaw_267 : wp scr n mb_law 267 L st M Q ↔ wp scr n mb_law 268 L (.int 2 :: st) M Q := wp_step rfl rfl rfl rfl rfl
set_option maxRecDepth 100000 in
theorem ulaw_268 : wp scr n mb_law 268 L (.int y :: .int x :: st) M Q ↔ wp scr n mb_law 269 L (.int (x + y) :: st) M Q := wp_step rfl rfl rfl rfl rfl
set_option maxRecDepth 100000 in
theorem ulaw_269 : wp scr n mb_law 269 L (.int y :: o :: st) M Q ↔ mw_o (mm_ld (mc_X scr) M o y) (fun x => wp scr n mb_law 270 L (.int x :: st) M Q) := wp_iald rfl
set_option maxRecDepth 100000 in
theorem ulaw_270 : wp scr n mb_law 270 L (a3 :: a2 :: .ref a :: st) M Q ↔ ((mw_r M a 6 ∧ mw_st st) ∧ Wp scr n 167 [.ref a, a2, a3] M (fun r1 M1 => wp scr n mb_law 273 L (r1.toList ++ st) M1 Q)) := wp_vir rfl rfl rfl rfl rfl
set_option maxRecDepth 100000 in
theorem ulaw_273 : wp scr n mb_law 273 L (.int y :: .int x :: st) M Q ↔ (if x = y then wp scr n mb_law 1084 L st M Q else wp scr n mb_law 276 L st M Q) := (wp_step rfl rfl rfl rfl rfl).trans wp_ite
set_option maxRecDepth 100000 in
theorem ulaw_276 : wp scr n mb_law 276 L st M Q ↔ wp scr n mb_law 277 L (.int 0 :: st) M Q := wp_step rfl rfl rfl rfl rfl
set_option maxRecDepth 100000 in
theorem ulaw_277 : wp scr n mb_law 277 L [.int x] M Q ↔ ((x = 0 ∨ x = 1) ∧ Q (some (.int x)) M) := wp_retb rfl rfl
set_option maxRecDepth 100000 in
theorem ulaw_278 : wp scr n mb_law 278 [l0, some (.ref a), l2, l3] st M Q ↔ wp scr n mb_law 279 [l0, some (.ref a), l2, l3] (.ref a :: st) M Q := wp_step rfl rfl rfl rfl rfl
set_option maxRecDepth 100000 in
theorem ulaw_278b : wp scr n mb_law 278 [l0, some (.retAddr a), l2, l3] st M Q ↔ wp scr n mb_law 279 [l0, some (.retAddr a), l2, l3] (.retAddr a :: st) M Q := wp_step rfl rfl rfl rfl rfl
set_option maxRecDepth 100000 in
theorem ulaw_279 : wp scr n mb_law 279 [some (.ref a), l1, l2, l3] st M Q ↔ wp scr n mb_law 280 [some (.ref a), l1, l2, l3] (.ref a :: st) M Q := wp_step rfl rfl rfl rfl rfl
set_option maxRecDepth 100000 in
theorem ulaw_279b : wp scr n mb_law 279 [some (.retAddr a), l1, l2, l3] st M Q ↔ wp scr n mb_law 280 [some (.retAddr a), l1, l2, l3] (.retAddr a :: st) M Q := wp_step rfl rfl rfl rfl rfl
set_option maxRecDepth 100000 in
theorem ulaw_280 : wp scr n mb_law 280 [l0, l1, l2, some (.int x)] st M Q ↔ wp scr n mb_law 281 [l0, l1, l2, some (.int x)] (.int x :: st) M Q := wp_step rfl rfl rfl rfl rfl
set_option maxRecDepth 100000 in
theorem ulaw_281 : wp scr n mb_law 281 L st M Q ↔ wp scr n mb_law 282 L (.int 1 :: st) M Q := wp_step rfl rfl rfl rfl rfl
set_option maxRecDepth 100000 in
theorem ulaw_282 : wp scr n mb_law 282 L (.int y :: .int x :: st) M Q ↔ wp scr n mb_law 283 L (.int (x + y) :: st) M Q := wp_step rfl rfl rfl rfl rfl
set_option maxRecDepth 100000 in
theorem ulaw_283 : wp scr n mb_law 283 L (.int y :: o :: st) M Q ↔ mw_o (mm_ld (mc_X scr) M o y) (fun x => wp scr n mb_law 284 L (.int x :: st) M Q) := wp_iald rfl
set_option maxRecDepth 100000 in
theorem ulaw_284 : wp scr n mb_law 284 [some (.ref a), l1, l2, l3] st M Q ↔ wp scr n mb_law 285 [some (.ref a), l1, l2, l3] (.ref a :: st) M Q := wp_step rfl rfl rfl rfl rfl
set_option maxRecDepth 100000 in
theorem ulaw_284b : wp scr n mb_law 284 [some (.retAddr a), l1, l2, l3] st M Q ↔ wp scr n mb_law 285 [some (.retAddr a), l1, l2, l3] (.retAddr a :: st) M Q := wp_step rfl rfl rfl rfl rfl
set_option maxRecDepth 100000 in
theorem ulaw_285 : wp scr n mb_law 285 [l0, l1, l2, some (.int x)] st M Q ↔ wp scr n mb_law 286 [l0, l1, l2, some (.int x)] (.int x :: st) M Q := wp_step rfl rfl rfl rfl rfl
set_option maxRecDepth 100000 in
theorem ulaw_286 : wp scr n mb_law 286 L st M Q ↔ wp scr n mb_law 287 L (.int 2 :: st) M Q := wp_step rfl rfl rfl rfl rfl
set_option maxRecDepth 100000 in
theorem ulaw_287 : wp scr n mb_law 287 L (.int y :: .int x :: st) M Q ↔ wp scr n mb_law 288 L (.int (x + y) :: st) M Q := wp_step rfl rfl rfl rfl rfl
set_option maxRecDepth 100000 in
theorem ulaw_288 : wp scr n mb_law 288 L (.int y :: o :: st) M Q ↔ mw_o (mm_ld (mc_X scr) M o y) (fun x => wp scr n mb_law 289 L (.int x :: st) M Q) := wp_iald rfl
set_option maxRecDepth 100000 in
theorem ulaw_289 : wp scr n mb_law 289 L (a3 :: a2 :: .ref a :: st) M Q ↔ ((mw_r M a 5 ∧ mw_st st) ∧ Wp scr n 96 [.ref a, a2, a3] M (fun r1 M1 => wp scr n mb_law 292 L (r1.toList ++ st) M1 Q)) := wp_vir rfl rfl rfl rfl rfl
set_option maxRecDepth 100000 in
theorem ulaw_292 : wp scr n mb_law 292 [l0, l1, some (.ref a), l3] st M Q ↔ wp scr n mb_law 293 [l0, l1, some (.ref a), l3] (.ref a :: st) M Q := wp_step rfl rfl rfl rfl rfl
set_option maxRecDepth 100000 in
theorem ulaw_292b : wp scr n mb_law 292 [l0, l1, some (.retAddr a), l3] st M Q ↔ wp scr n mb_law 293 [l0, l1, some (.retAddr a), l3] (.retAddr a :: st) M Q := wp_step rfl rfl rfl rfl rfl
set_option maxRecDepth 100000 in
theorem ulaw_293 : wp scr n mb_law 293 [some (.ref a), l1, l2, l3] st M Q ↔ wp scr n mb_law 294 [some (.ref a), l1, l2, l3] (.ref a :: st) M Q := wp_step rfl rfl rfl rfl rfl
set_option maxRecDepth 100000 in
theorem ulaw_293b : wp scr n mb_law 293 [some (.retAddr a), l1, l2, l3] st M Q ↔ wp scr n mb_law 294 [some (.retAddr a), l1, l2, l3] (.retAddr a :: st) M Q := wp_step rfl rfl rfl rfl rfl
set_option maxRecDepth 100000 in
theorem ulaw_294 : wp scr n mb_law 294 [l0, l1, l2, some (.int x)] st M Q ↔ wp scr n mb_law 295 [l0, l1, l2, some (.int x)] (.int x :: st) M Q := wp_step rfl rfl rfl rfl rfl
set_option maxRecDepth 100000 in
theorem ulaw_295 : wp scr n mb_law 295 L st M Q ↔ wp scr n mb_law 296 L (.int 1 :: st) M Q := wp_step rfl rfl rfl rfl rfl
set_option maxRecDepth 100000 in
theorem ulaw_296 : wp scr n mb_law 296 L (.int y :: .int x :: st) M Q ↔ wp scr n mb_law 297 L (.int (x + y) :: st) M Q := wp_step rfl rfl rfl rfl rfl
set_option maxRecDepth 100000 in
theorem ulaw_297 : wp scr n mb_law 297 L (.int y :: o :: st) M Q ↔ mw_o (mm_ld (mc_X scr) M o y) (fun x => wp scr n mb_law 298 L (.int x :: st) M Q) := wp_iald rfl
set_option maxRecDepth 100000 in
theorem ulaw_298 : wp scr n mb_law 298 [some (.ref a), l1, l2, l3] st M Q ↔ wp scr n mb_law 299 [some (.ref a), l1, l2, l3] (.ref a :: st) M Q := wp_step rfl rfl rfl rfl rfl
set_option maxRecDepth 100000 in
theorem ulaw_298b : wp scr n mb_law 298 [some (.retAddr a), l1, l2, l3] st M Q ↔ wp scr n mb_law 299 [some (.retAddr a), l1, l2, l3] (.retAddr a :: st) M Q := wp_step rfl rfl rfl rfl rfl
set_option maxRecDepth 100000 in
theorem ulaw_299 : wp scr n mb_law 299 [l0, l1, l2, some (.int x)] st M Q ↔ wp scr n mb_law 300 [l0, l1, l2, some (.int x)] (.int x :: st) M Q := wp_step rfl rfl rfl rfl rfl
set_option maxRecDepth 100000 in
theorem ulaw_300 : wp scr n mb_law 300 L st M Q ↔ wp scr n mb_law 301 L (.int 2 :: st) M Q := wp_step rfl rfl rfl rfl rfl
set_option maxRecDepth 100000 in
theorem ulaw_301 : wp scr n mb_law 301 L (.int y :: .int x :: st) M Q ↔ wp scr n mb_law 302 L (.int (x + y) :: st) M Q := wp_step rfl rfl rfl rfl rfl
set_option maxRecDepth 100000 in
theorem ulaw_302 : wp scr n mb_law 302 L (.int y :: o :: st) M Q ↔ mw_o (mm_ld (mc_X scr) M o y) (fun x => wp scr n mb_law 303 L (.int x :: st) M Q) := wp_iald rfl
set_option maxRecDepth 100000 in
theorem ulaw_303 : wp scr n mb_law 303 L (a3 :: a2 :: .ref a :: st) M Q ↔ ((mw_r M a 6 ∧ mw_st st) ∧ Wp scr n 172 [.ref a, a2, a3] M (fun r1 M1 => wp scr n mb_law 306 L (r1.toList ++ st) M1 Q)) := wp_vir rfl rfl rfl rfl rfl
set_option maxRecDepth 100000 in
theorem ulaw_306 : wp scr n mb_law 306 L (.int y :: .int x :: st) M Q ↔ (if x = y then wp scr n mb_law 1084 L st M Q else wp scr n mb_law 309 L st M Q) := (wp_step rfl rfl rfl rfl rfl).trans wp_ite
set_option maxRecDepth 100000 in
theorem ulaw_309 : wp scr n mb_law 309 L st M Q ↔ wp scr n mb_law 310 L (.int 0 :: st) M Q := wp_step rfl rfl rfl rfl rfl
set_option maxRecDepth 100000 in
theorem ulaw_310 : wp scr n mb_law 310 L [.int x] M Q ↔ ((x = 0 ∨ x = 1) ∧ Q (some (.int x)) M) := wp_retb rfl rfl
set_option maxRecDepth 100000 in
theorem ulaw_311 : wp scr n mb_law 311 [l0, some (.ref a), l2, l3] st M Q ↔ wp scr n mb_law 312 [l0, some (.ref a), l2, l3] (.ref a :: st) M Q := wp_step rfl rfl rfl rfl rfl
set_option maxRecDepth 100000 in
theorem ulaw_311b : wp scr n mb_law 311 [l0, some (.retAddr a), l2, l3] st M Q ↔ wp scr n mb_law 312 [l0, some (.retAddr a), l2, l3] (.retAddr a :: st) M Q := wp_step rfl rfl rfl rfl rfl
set_option maxRecDepth 100000 in
theorem ulaw_312 : wp scr n mb_law 312 L (.ref a :: st) M Q ↔ ((mw_r M a 5 ∧ mw_st st) ∧ Wp scr n 98 [.ref a] M (fun r1 M1 => wp scr n mb_law 315 L (r1.toList ++ st) M1 Q)) := wp_vir rfl rfl rfl rfl rfl
set_option maxRecDepth 100000 in
theorem ulaw_315 : wp scr n mb_law 315 [l0, l1, some (.ref a), l3] st M Q ↔ wp scr n mb_law 316 [l0, l1, some (.ref a), l3] (.ref a :: st) M Q := wp_step rfl rfl rfl rfl rfl
set_option maxRecDepth 100000 in
theorem ulaw_315b : wp scr n mb_law 315 [l0, l1, some (.retAddr a), l3] st M Q ↔ wp scr n mb_law 316 [l0, l1, some (.retAddr a), l3] (.retAddr a :: st) M Q := wp_step rfl rfl rfl rfl rfl
set_option maxRecDepth 100000 in
theorem ulaw_316 : wp scr n mb_law 316 L (.ref a :: st) M Q ↔ ((mw_r M a 6 ∧ mw_st st) ∧ Wp scr n 173 [.ref a] M (fun r1 M1 => wp scr n mb_law 319 L (r1.toList ++ st) M1 Q)) := wp_vir rfl rfl rfl rfl rfl
set_option maxRecDepth 100000 in
theorem ulaw_319 : wp scr n mb_law 319 L (.int y :: .int x :: st) M Q ↔ (if x = y then wp scr n mb_law 1084 L st M Q else wp scr n mb_law 322 L st M Q) := (wp_step rfl rfl rfl rfl rfl).trans wp_ite
set_option maxRecDepth 100000 in
theorem ulaw_322 : wp scr n mb_law 322 L st M Q ↔ wp scr n mb_law 323 L (.int 0 :: st) M Q := wp_step rfl rfl rfl rfl rfl
set_option maxRecDepth 100000 in
theorem ulaw_323 : wp scr n mb_law 323 L [.int x] M Q ↔ ((x = 0 ∨ x = 1) ∧ Q (some (.int x)) M) := wp_retb rfl rfl
set_option maxRecDepth 100000 in
theorem ulaw_324 : wp scr n mb_law 324 [l0, some (.ref a), l2, l3] st M Q ↔ wp scr n mb_law 325 [l0, some (.ref a), l2, l3] (.ref a :: st) M Q := wp_step rfl rfl rfl rfl rfl
set_option maxRecDepth 100000 in
theorem ulaw_324b : wp scr n mb_law 324 [l0, some (.retAddr a), l2, l3] st M Q ↔ wp scr n mb_law 325 [l0, some (.retAddr a), l2, l3] (.retAddr a :: st) M Q := wp_step rfl rfl rfl rfl rfl
set_option maxRecDepth 100000 in
theorem ulaw_325 : wp scr n mb_law 325 [some (.ref a), l1, l2, l3] st M Q ↔ wp scr n mb_law 326 [some (.ref a), l1, l2, l3] (.ref a :: st) M Q := wp_step rfl rfl rfl rfl rfl
set_option maxRecDepth 100000 in
theorem ulaw_325b : wp scr n mb_law 325 [some (.retAddr a), l1, l2, l3] st M Q ↔ wp scr n mb_law 326 [some (.retAddr a), l1, l2, l3] (.retAddr a :: st) M Q := wp_step rfl rfl rfl rfl rfl
set_option maxRecDepth 100000 in
theorem ulaw_326 : wp scr n mb_law 326 [l0, l1, l2, some (.int x)] st M Q ↔ wp scr n mb_law 327 [l0, l1, l2, some (.int x)] (.int x :: st) M Q := wp_step rfl rfl rfl rfl rfl
set_option maxRecDepth 100000 in
theorem ulaw_327 : wp scr n mb_law 327 L st M Q ↔ wp scr n mb_law 328 L (.int 1 :: st) M Q := wp_step rfl rfl rfl rfl rfl
set_option maxRecDepth 100000 in
theorem ulaw_328 : wp scr n mb_law 328 L (.int y :: .int x :: st) M Q ↔ wp scr n mb_law 329 L (.int (x + y) :: st) M Q := wp_step rfl rfl rfl rfl rfl
set_option maxRecDepth 100000 in
theorem ulaw_329 : wp scr n mb_law 329 L (.int y :: o :: st) M Q ↔ mw_o (mm_ld (mc_X scr) M o y) (fun x => wp scr n mb_law 330 L (.int x :: st) M Q) := wp_iald rfl
set_option maxRecDepth 100000 in
theorem ulaw_330 : wp scr n mb_law 330 [some (.ref a), l1, l2, l3] st M Q ↔ wp scr n mb_law 331 [some (.ref a), l1, l2, l3] (.ref a :: st) M Q := wp_step rfl rfl rfl rfl rfl
set_option maxRecDepth 100000 in
theorem ulaw_330b : wp scr n mb_law 330 [some (.retAddr a), l1, l2, l3] st M Q ↔ wp scr n mb_law 331 [some (.retAddr a), l1, l2, l3] (.retAddr a :: st) M Q := wp_step rfl rfl rfl rfl rfl
set_option maxRecDepth 100000 in
theorem ulaw_331 : wp scr n mb_law 331 [l0, l1, l2, some (.int x)] st M Q ↔ wp scr n mb_law 332 [l0, l1, l2, some (.int x)] (.int x :: st) M Q := wp_step rfl rfl rfl rfl rfl
set_option maxRecDepth 100000 in
theorem ulaw_332 : wp scr n mb_law 332 L st M Q ↔ wp scr n mb_law 333 L (.int 2 :: st) M Q := wp_step rfl rfl rfl rfl rfl
set_option maxRecDepth 100000 in
theorem ulaw_333 : wp scr n mb_law 333 L (.int y :: .int x :: st) M Q ↔ wp scr n mb_law 334 L (.int (x + y) :: st) M Q := wp_step rfl rfl rfl rfl rfl
set_option maxRecDepth 100000 in
theorem ulaw_334 : wp scr n mb_law 334 L (.int y :: o :: st) M Q ↔ mw_o (mm_ld (mc_X scr) M o y) (fun x => wp scr n mb_law 335 L (.int x :: st) M Q) := wp_iald rfl
set_option maxRecDepth 100000 in
theorem ulaw_335 : wp scr n mb_law 335 L (a3 :: a2 :: .ref a :: st) M Q ↔ ((mw_r M a 5 ∧ mw_st st) ∧ Wp scr n 99 [.ref a, a2, a3] M (fun r1 M1 => wp scr n mb_law 338 L (r1.toList ++ st) M1 Q)) := wp_vir rfl rfl rfl rfl rfl
set_option maxRecDepth 100000 in
theorem ulaw_338 : wp scr n mb_law 338 [l0, l1, some (.ref a), l3] st M Q ↔ wp scr n mb_law 339 [l0, l1, some (.ref a), l3] (.ref a :: st) M Q := wp_step rfl rfl rfl rfl rfl
set_option maxRecDepth 100000 in
theorem ulaw_338b : wp scr n mb_law 338 [l0, l1, some (.retAddr a), l3] st M Q ↔ wp scr n mb_law 339 [l0, l1, some (.retAddr a), l3] (.retAddr a :: st) M Q := wp_step rfl rfl rfl rfl rfl
set_option maxRecDepth 100000 in
theorem ulaw_339 : wp scr n mb_law 339 [some (.ref a), l1, l2, l3] st M Q ↔ wp scr n mb_law 340 [some (.ref a), l1, l2, l3] (.ref a :: st) M Q := wp_step rfl rfl rfl rfl rfl
set_option maxRecDepth 100000 in
theorem ulaw_339b : wp scr n mb_law 339 [some (.retAddr a), l1, l2, l3] st M Q ↔ wp scr n mb_law 340 [some (.retAddr a), l1, l2, l3] (.retAddr a :: st) M Q := wp_step rfl rfl rfl rfl rfl
set_option maxRecDepth 100000 in
theorem ulaw_340 : wp scr n mb_law 340 [l0, l1, l2, some (.int x)] st M Q ↔ wp scr n mb_law 341 [l0, l1, l2, some (.int x)] (.int x :: st) M Q := wp_step rfl rfl rfl rfl rfl
set_option maxRecDepth 100000 in
theorem ulaw_341 : wp scr n mb_law 341 L st M Q ↔ wp scr n mb_law 342 L (.int 1 :: st) M Q := wp_step rfl rfl rfl rfl rfl
set_option maxRecDepth 100000 in
theorem ulaw_342 : wp scr n mb_law 342 L (.int y :: .int x :: st) M Q ↔ wp scr n mb_law 343 L (.int (x + y) :: st) M Q := wp_step rfl rfl rfl rfl rfl
set_option maxRecDepth 100000 in
theorem ulaw_343 : wp scr n mb_law 343 L (.int y :: o :: st) M Q ↔ mw_o (mm_ld (mc_X scr) M o y) (fun x => wp scr n mb_law 344 L (.int x :: st) M Q) := wp_iald rfl
set_option maxRecDepth 100000 in
theorem ulaw_344 : wp scr n mb_law 344 [some (.ref a), l1, l2, l3] st M Q ↔ wp scr n mb_law 345 [some (.ref a), l1, l2, l3] (.ref a :: st) M Q := wp_step rfl rfl rfl rfl rfl
set_option maxRecDepth 100000 in
theorem ulaw_344b : wp scr n mb_law 344 [some (.retAddr a), l1, l2, l3] st M Q ↔ wp scr n mb_law 345 [some (.retAddr a), l1, l2, l3] (.retAddr a :: st) M Q := wp_step rfl rfl rfl rfl rfl
set_option maxRecDepth 100000 in
theorem ulaw_345 : wp scr n mb_law 345 [l0, l1, l2, some (.int x)] st M Q ↔ wp scr n mb_law 346 [l0, l1, l2, some (.int x)] (.int x :: st) M Q := wp_step rfl rfl rfl rfl rfl
set_option maxRecDepth 100000 in
theorem ulaw_346 : wp scr n mb_law 346 L st M Q ↔ wp scr n mb_law 347 L (.int 2 :: st) M Q := wp_step rfl rfl rfl rfl rfl
set_option maxRecDepth 100000 in
theorem ulaw_347 : wp scr n mb_law 347 L (.int y :: .int x :: st) M Q ↔ wp scr n mb_law 348 L (.int (x + y) :: st) M Q := wp_step rfl rfl rfl rfl rfl
set_option maxRecDepth 100000 in
theorem ulaw_348 : wp scr n mb_law 348 L (.int y :: o :: st) M Q ↔ mw_o (mm_ld (mc_X scr) M o y) (fun x => wp scr n mb_law 349 L (.int x :: st) M Q) := wp_iald rfl
set_option maxRecDepth 100000 in
theorem ulaw_349 : wp scr n mb_law 349 L (a3 :: a2 :: .ref a :: st) M Q ↔ ((mw_r M a 6 ∧ mw_st st) ∧ Wp scr n 174 [.ref a, a2, a3] M (fun r1 M1 => wp scr n mb_law 352 L (r1.toList ++ st) M1 Q)) := wp_vir rfl rfl rfl rfl rfl
set_option maxRecDepth 100000 in
theorem ulaw_352 : wp scr n mb_law 352 L (.int y :: .int x :: st) M Q ↔ (if x = y then wp scr n mb_law 1084 L st M Q else wp scr n mb_law 355 L st M Q) := (wp_step rfl rfl rfl rfl rfl).trans wp_ite
set_option maxRecDepth 100000 in
theorem ulaw_355 : wp scr n mb_law 355 L st M Q ↔ wp scr n mb_law 356 L (.int 0 :: st) M Q := wp_step rfl rfl rfl rfl rfl
set_option maxRecDepth 100000 in
theorem ulaw_356 : wp scr n mb_law 356 L [.int x] M Q ↔ ((x = 0 ∨ x = 1) ∧ Q (some (.int x)) M) := wp_retb rfl rfl
set_option maxRecDepth 100000 in
theorem ulaw_357 : wp scr n mb_law 357 [l0, some (.ref a), l2, l3] st M Q ↔ wp scr n mb_law 358 [l0, some (.ref a), l2, l3] (.ref a :: st) M Q := wp_step rfl rfl rfl rfl rfl
set_option maxRecDepth 100000 in
theorem ulaw_357b : wp scr n mb_law 357 [l0, some (.retAddr a), l2, l3] st M Q ↔ wp scr n mb_law 358 [l0, some (.retAddr a), l2, l3] (.retAddr a :: st) M Q := wp_step rfl rfl rfl rfl rfl
set_option maxRecDepth 100000 in
theorem ulaw_358 : wp scr n mb_law 358 [some (.ref a), l1, l2, l3] st M Q ↔ wp scr n mb_law 359 [some (.ref a), l1, l2, l3] (.ref a :: st) M Q := wp_step rfl rfl rfl rfl rfl
set_option maxRecDepth 100000 in
theorem ulaw_358b : wp scr n mb_law 358 [some (.retAddr a), l1, l2, l3] st M Q ↔ wp scr n mb_law 359 [some (.retAddr a), l1, l2, l3] (.retAddr a :: st) M Q := wp_step rfl rfl rfl rfl rfl
set_option maxRecDepth 100000 in
theorem ulaw_359 : wp scr n mb_law 359 [l0, l1, l2, some (.int x)] st M Q ↔ wp scr n mb_law 360 [l0, l1, l2, some (.int x)] (.int x :: st) M Q := wp_step rfl rfl rfl rfl rfl
set_option maxRecDepth 100000 in
theorem ulaw_360 : wp scr n mb_law 360 L st M Q ↔ wp scr n mb_law 361 L (.int 1 :: st) M Q := wp_step rfl rfl rfl rfl rfl
set_option maxRecDepth 100000 in
theorem ulaw_361 : wp scr n mb_law 361 L (.int y :: .int x :: st) M Q ↔ wp scr n mb_law 362 L (.int (x + y) :: st) M Q := wp_step rfl rfl rfl rfl rfl
set_option maxRecDepth 100000 in
theorem ulaw_362 : wp scr n mb_law 362 L (.int y :: o :: st) M Q ↔ mw_o (mm_ld (mc_X scr) M o y) (fun x => wp scr n mb_law 363 L (.int x :: st) M Q) := wp_iald rfl
set_option maxRecDepth 100000 in
theorem ulaw_363 : wp scr n mb_law 363 [some (.ref a), l1, l2, l3] st M Q ↔ wp scr n mb_law 364 [some (.ref a), l1, l2, l3] (.ref a :: st) M Q := wp_step rfl rfl rfl rfl rfl
set_option maxRecDepth 100000 in
theorem ulaw_363b : wp scr n mb_law 363 [some (.retAddr a), l1, l2, l3] st M Q ↔ wp scr n mb_law 364 [some (.retAddr a), l1, l2, l3] (.retAddr a :: st) M Q := wp_step rfl rfl rfl rfl rfl
set_option maxRecDepth 100000 in
theorem ulaw_364 : wp scr n mb_law 364 [l0, l1, l2, some (.int x)] st M Q ↔ wp scr n mb_law 365 [l0, l1, l2, some (.int x)] (.int x :: st) M Q := wp_step rfl rfl rfl rfl rfl
set_option maxRecDepth 100000 in
theorem ulaw_365 : wp scr n mb_law 365 L st M Q ↔ wp scr n mb_law 366 L (.int 2 :: st) M Q := wp_step rfl rfl rfl rfl rfl
set_option maxRecDepth 100000 in
theorem ulaw_366 : wp scr n mb_law 366 L (.int y :: .int x :: st) M Q ↔ wp scr n mb_law 367 L (.int (x + y) :: st) M Q := wp_step rfl rfl rfl rfl rfl
set_option maxRecDepth 100000 in
theorem ulaw_367 : wp scr n mb_law 367 L (.int y :: o :: st) M Q ↔ mw_o (mm_ld (mc_X scr) M o y) (fun x => wp scr n mb_law 368 L (.int x :: st) M Q) := wp_iald rfl
set_option maxRecDepth 100000 in
theorem ulaw_368 : wp scr n mb_law 368 [some (.ref a), l1, l2, l3] st M Q ↔ wp scr n mb_law 369 [some (.ref a), l1, l2, l3] (.ref a :: st) M Q := wp_step rfl rfl rfl rfl rfl
set_option maxRecDepth 100000 in
theorem ulaw_368b : wp scr n mb_law 368 [some (.retAddr a), l1, l2, l3] st M Q ↔ wp scr n mb_law 369 [some (.retAddr a), l1, l2, l3] (.retAddr a :: st) M Q := wp_step rfl rfl rfl rfl rfl
set_option maxRecDepth 100000 in
theorem ulaw_369 : wp scr n mb_law 369 [l0, l1, l2, some (.int x)] st M Q ↔ wp scr n mb_law 370 [l0, l1, l2, some (.int x)] (.int x :: st) M Q := wp_step rfl rfl rfl rfl rfl
set_option maxRecDepth 100000 in
theorem ulaw_370 : wp scr n mb_law 370 L st M Q ↔ wp scr n mb_law 371 L (.int 3 :: st) M Q := wp_step rfl rfl rfl rfl rfl
set_option maxRecDepth 100000 in
theorem ulaw_371 : wp scr n mb_law 371 L (.int y :: .int x :: st) M Q ↔ wp scr n mb_law 372 L (.int (x + y) :: st) M Q := wp_step rfl rfl rfl rfl rfl
set_option maxRecDepth 100000 in
theorem ulaw_372 : wp scr n mb_law 372 L (.int y :: o :: st) M Q ↔ mw_o (mm_ld (mc_X scr) M o y) (fun x => wp scr n mb_law 373 L (.int x :: st) M Q) := wp_iald rfl
set_option maxRecDepth 100000 in
theorem ulaw_373 : wp scr n mb_law 373 L (a4 :: a3 :: a2 :: .ref a :: st) M Q ↔ ((mw_r M a 5 ∧ mw_st st) ∧ Wp scr n 100 [.ref a, a2, a3, a4] M (fun r1 M1 => wp scr n mb_law 376 L (r1.toList ++ st) M1 Q)) := wp_vir rfl rfl rfl rfl rfl
set_option maxRecDepth 100000 in
theorem ulaw_376 : wp scr n mb_law 376 [l0, l1, some (.ref a), l3] st M Q ↔ wp scr n mb_law 377 [l0, l1, some (.ref a), l3] (.ref a :: st) M Q := wp_step rfl rfl rfl rfl rfl
set_option maxRecDepth 100000 in
theorem ulaw_376b : wp scr n mb_law 376 [l0, l1, some (.retAddr a), l3] st M Q ↔ wp scr n mb_law 377 [l0, l1, some (.retAddr a), l3] (.retAddr a :: st) M Q := wp_step rfl rfl rfl rfl rfl
set_option maxRecDepth 100000 in
theorem ulaw_377 : wp scr n mb_law 377 [some (.ref a), l1, l2, l3] st M Q ↔ wp scr n mb_law 378 [some (.ref a), l1, l2, l3] (.ref a :: st) M Q := wp_step rfl rfl rfl rfl rfl
set_option maxRecDepth 100000 in
theorem ulaw_377b : wp scr n mb_law 377 [some (.retAddr a), l1, l2, l3] st M Q ↔ wp scr n mb_law 378 [some (.retAddr a), l1, l2, l3] (.retAddr a :: st) M Q := wp_step rfl rfl rfl rfl rfl
set_option maxRecDepth 100000 in
theorem ulaw_378 : wp scr n mb_law 378 [l0, l1, l2, some (.int x)] st M Q ↔ wp scr n mb_law 379 [l0, l1, l2, some (.int x)] (.int x :: st) M Q := wp_step rfl rfl rfl rfl rfl
set_option maxRecDepth 100000 in
theorem ulaw_379 : wp scr n mb_law 379 L st M Q ↔ wp scr n mb_law 380 L (.int 1 :: st) M Q := wp_step rfl rfl rfl rfl rfl
set_option maxRecDepth 100000 in
theorem ulaw_380 : wp scr n mb_law 380 L (.int y :: .int x :: st) M Q ↔ wp scr n mb_law 381 L (.int (x + y) :: st) M Q := wp_step rfl rfl rfl rfl rfl
set_option maxRecDepth 100000 in
theorem ulaw_381 : wp scr n mb_law 381 L (.int y :: o :: st) M Q ↔ mw_o (mm_ld (mc_X scr) M o y) (fun x => wp scr n mb_law 382 L (.int x :: st) M Q) := wp_iald rfl
set_option maxRecDepth 100000 in
theorem ulaw_382 : wp scr n mb_law 382 [some (.ref a), l1, l2, l3] st M Q ↔ wp scr n mb_law 383 [some (.ref a), l1, l2, l3] (.ref a :: st) M Q := wp_step rfl rfl rfl rfl rfl
set_option maxRecDepth 100000 in
theorem ulaw_382b : wp scr n mb_law 382 [some (.retAddr a), l1, l2, l3] st M Q ↔ wp scr n mb_law 383 [some (.retAddr a), l1, l2, l3] (.retAddr a :: st) M Q := wp_step rfl rfl rfl rfl rfl
set_option maxRecDepth 100000 in
theorem ulaw_383 : wp scr n mb_law 383 [l0, l1, l2, some (.int x)] st M Q ↔ wp scr n mb_law 384 [l0, l1, l2, some (.int x)] (.int x :: st) M Q := wp_step rfl rfl rfl rfl rfl
set_option maxRecDepth 100000 in
theorem ulaw_384 : wp scr n mb_law 384 L st M Q ↔ wp scr n mb_law 385 L (.int 2 :: st) M Q := wp_step rfl rfl rfl rfl rfl
set_option maxRecDepth 100000 in
theorem ulaw_385 : wp scr n mb_law 385 L (.int y :: .int x :: st) M Q ↔ wp scr n mb_law 386 L (.int (x + y) :: st) M Q := wp_step rfl rfl rfl rfl rfl
set_option maxRecDepth 100000 in
theorem ulaw_386 : wp scr n mb_law 386 L (.int y :: o :: st) M Q ↔ mw_o (mm_ld (mc_X scr) M o y) (fun x => wp scr n mb_law 387 L (.int x :: st) M Q) := wp_iald rfl
set_option maxRecDepth 100000 in
theorem ulaw_387 : wp scr n mb_law 387 [some (.ref a), l1, l2, l3] st M Q ↔ wp scr n mb_law 388 [some (.ref a), l1, l2, l3] (.ref a :: st) M Q := wp_step rfl rfl rfl rfl rfl
set_option maxRecDepth 100000 in
theorem ulaw_387b : wp scr n mb_law 387 [some (.retAddr a), l1, l2, l3] st M Q ↔ wp scr n mb_law 388 [some (.retAddr a), l1, l2, l3] (.retAddr a :: st) M Q := wp_step rfl rfl rfl rfl rfl
set_option maxRecDepth 100000 in
theorem ulaw_388 : wp scr n mb_law 388 [l0, l1, l2, some (.int x)] st M Q ↔ wp scr n mb_law 389 [l0, l1, l2, some (.int x)] (.int x :: st) M Q := wp_step rfl rfl rfl rfl rfl
set_option maxRecDepth 100000 in
theorem ulaw_389 : wp scr n mb_law 389 L st M Q ↔ wp scr n mb_law 390 L (.int 3 :: st) M Q := wp_step rfl rfl rfl rfl rfl
set_option maxRecDepth 100000 in
theorem ulaw_390 : wp scr n mb_law 390 L (.int y :: .int x :: st) M Q ↔ wp scr n mb_law 391 L (.int (x + y) :: st) M Q := wp_step rfl rfl rfl rfl rfl
set_option maxRecDepth 100000 in
theorem ulaw_391 : wp scr n mb_law 391 L (.int y :: o :: st) M Q ↔ mw_o (mm_ld (mc_X scr) M o y) (fun x => wp scr n mb_law 392 L (.int x :: st) M Q) := wp_iald rfl
set_option maxRecDepth 100000 in
theorem ulaw_392 : wp scr n mb_law 392 L (a4 :: a3 :: a2 :: .ref a :: st) M Q ↔ ((mw_r M a 6 ∧ mw_st st) ∧ Wp scr n 175 [.ref a, a2, a3, a4] M (fun r1 M1 => wp scr n mb_law 395 L (r1.toList ++ st) M1 Q)) := wp_vir rfl rfl rfl rfl rfl
set_option maxRecDepth 100000 in
theorem ulaw_395 : wp scr n mb_law 395 L (.int y :: .int x :: st) M Q ↔ (if x = y then wp scr n mb_law 1084 L st M Q else wp scr n mb_law 398 L st M Q) := (wp_step rfl rfl rfl rfl rfl).trans wp_ite
set_option maxRecDepth 100000 in
theorem ulaw_398 : wp scr n mb_law 398 L st M Q ↔ wp scr n mb_law 399 L (.int 0 :: st) M Q := wp_step rfl rfl rfl rfl rfl
set_option maxRecDepth 100000 in
theorem ulaw_399 : wp scr n mb_law 399 L [.int x] M Q ↔ ((x = 0 ∨ x = 1) ∧ Q (some (.int x)) M) := wp_retb rfl rfl
set_option maxRecDepth 100000 in
theorem ulaw_400 : wp scr n mb_law 400 [l0, some (.ref a), l2, l3] st M Q ↔ wp scr n mb_law 401 [l0, some (.ref a), l2, l3] (.ref a :: st) M Q := wp_step rfl rfl rfl rfl rfl
set_option maxRecDepth 100000 in
theorem ulaw_400b : wp scr n mb_law 400 [l0, some (.retAddr a), l2, l3] st M Q ↔ wp scr n mb_law 401 [l0, some (.retAddr a), l2, l3] (.retAddr a :: st) M Q := wp_step rfl rfl rfl rfl rfl
set_option maxRecDepth 100000 in
theorem ulaw_401 : wp scr n mb_law 401 [some (.ref a), l1, l2, l3] st M Q ↔ wp scr n mb_law 402 [some (.ref a), l1, l2, l3] (.ref a :: st) M Q := wp_step rfl rfl rfl rfl rfl
set_option maxRecDepth 100000 in
theorem ulaw_401b : wp scr n mb_law 401 [some (.retAddr a), l1, l2, l3] st M Q ↔ wp scr n mb_law 402 [some (.retAddr a), l1, l2, l3] (.retAddr a :: st) M Q := wp_step rfl rfl rfl rfl rfl
set_option maxRecDepth 100000 in
theorem ulaw_402 : wp scr n mb_law 402 [l0, l1, l2, some (.int x)] st M Q ↔ wp scr n mb_law 403 [l0, l1, l2, some (.int x)] (.int x :: st) M Q := wp_step rfl rfl rfl rfl rfl
set_option maxRecDepth 100000 in
theorem ulaw_403 : wp scr n mb_law 403 L st M Q ↔ wp scr n mb_law 404 L (.int 1 :: st) M Q := wp_step rfl rfl rfl rfl rfl
set_option maxRecDepth 100000 in
theorem ulaw_404 : wp scr n mb_law 404 L (.int y :: .int x :: st) M Q ↔ wp scr n mb_law 405 L (.int (x + y) :: st) M Q := wp_step rfl rfl rfl rfl rfl
set_option maxRecDepth 100000 in
theorem ulaw_405 : wp scr n mb_law 405 L (.int y :: o :: st) M Q ↔ mw_o (mm_ld (mc_X scr) M o y) (fun x => wp scr n mb_law 406 L (.int x :: st) M Q) := wp_iald rfl
set_option maxRecDepth 100000 in
theorem ulaw_406 : wp scr n mb_law 406 L (a2 :: .ref a :: st) M Q ↔ ((mw_r M a 5 ∧ mw_st st) ∧ Wp scr n 101 [.ref a, a2] M (fun r1 M1 => wp scr n mb_law 409 L (r1.toList ++ st) M1 Q)) := wp_vir rfl rfl rfl rfl rfl
set_option maxRecDepth 100000 in
theorem ulaw_409 : wp scr n mb_law 409 [l0, l1, some (.ref a), l3] st M Q ↔ wp scr n mb_law 410 [l0, l1, some (.ref a), l3] (.ref a :: st) M Q := wp_step rfl rfl rfl rfl rfl
set_option maxRecDepth 100000 in
theorem ulaw_409b : wp scr n mb_law 409 [l0, l1, some (.retAddr a), l3] st M Q ↔ wp scr n mb_law 410 [l0, l1, some (.retAddr a), l3] (.retAddr a :: st) M Q := wp_step rfl rfl rfl rfl rfl
set_option maxRecDepth 100000 in
theorem ulaw_410 : wp scr n mb_law 410 [some (.ref a), l1, l2, l3] st M Q ↔ wp scr n mb_law 411 [some (.ref a), l1, l2, l3] (.ref a :: st) M Q := wp_step rfl rfl rfl rfl rfl
set_option maxRecDepth 100000 in
theorem ulaw_410b : wp scr n mb_law 410 [some (.retAddr a), l1, l2, l3] st M Q ↔ wp scr n mb_law 411 [some (.retAddr a), l1, l2, l3] (.retAddr a :: st) M Q := wp_step rfl rfl rfl rfl rfl
set_option maxRecDepth 100000 in
theorem ulaw_411 : wp scr n mb_law 411 [l0, l1, l2, some (.int x)] st M Q ↔ wp scr n mb_law 412 [l0, l1, l2, some (.int x)] (.int x :: st) M Q := wp_step rfl rfl rfl rfl rfl
set_option maxRecDepth 100000 in
theorem ulaw_412 : wp scr n mb_law 412 L st M Q ↔ wp scr n mb_law 413 L (.int 1 :: st) M Q := wp_step rfl rfl rfl rfl rfl
set_option maxRecDepth 100000 in
theorem ulaw_413 : wp scr n mb_law 413 L (.int y :: .int x :: st) M Q ↔ wp scr n mb_law 414 L (.int (x + y) :: st) M Q := wp_step rfl rfl rfl rfl rfl
set_option maxRecDepth 100000 in
theorem ulaw_414 : wp scr n mb_law 414 L (.int y :: o :: st) M Q ↔ mw_o (mm_ld (mc_X scr) M o y) (fun x => wp scr n mb_law 415 L (.int x :: st) M Q) := wp_iald rfl
set_option maxRecDepth 100000 in
theorem ulaw_415 : wp scr n mb_law 415 L (a2 :: .ref a :: st) M Q ↔ ((mw_r M a 6 ∧ mw_st st) ∧ Wp scr n 176 [.ref a, a2] M (fun r1 M1 => wp scr n mb_law 418 L (r1.toList ++ st) M1 Q)) := wp_vir rfl rfl rfl rfl rfl
set_option maxRecDepth 100000 in
theorem ulaw_418 : wp scr n mb_law 418 L (.int y :: .int x :: st) M Q ↔ (if x = y then wp scr n mb_law 1084 L st M Q else wp scr n mb_law 421 L st M Q) := (wp_step rfl rfl rfl rfl rfl).trans wp_ite
set_option maxRecDepth 100000 in
theorem ulaw_421 : wp scr n mb_law 421 L st M Q ↔ wp scr n mb_law 422 L (.int 0 :: st) M Q := wp_step rfl rfl rfl rfl rfl
set_option maxRecDepth 100000 in
theorem ulaw_422 : wp scr n mb_law 422 L [.int x] M Q ↔ ((x = 0 ∨ x = 1) ∧ Q (some (.int x)) M) := wp_retb rfl rfl
set_option maxRecDepth 100000 in
theorem ulaw_423 : wp scr n mb_law 423 [l0, some (.ref a), l2, l3] st M Q ↔ wp scr n mb_law 424 [l0, some (.ref a), l2, l3] (.ref a :: st) M Q := wp_step rfl rfl rfl rfl rfl
set_option maxRecDepth 100000 in
theorem ulaw_423b : wp scr n mb_law 423 [l0, some (.retAddr a), l2, l3] st M Q ↔ wp scr n mb_law 424 [l0, some (.retAddr a), l2, l3] (.retAddr a :: st) M Q := wp_step rfl rfl rfl rfl rfl
set_option maxRecDepth 100000 in
theorem ulaw_424 : wp scr n mb_law 424 [some (.ref a), l1, l2, l3] st M Q ↔ wp scr n mb_law 425 [some (.ref a), l1, l2, l3] (.ref a :: st) M Q := wp_step rfl rfl rfl rfl rfl
set_option maxRecDepth 100000 in
theorem ulaw_424b : wp scr n mb_law 424 [some (.retAddr a), l1, l2, l3] st M Q ↔ wp scr n mb_law 425 [some (.retAddr a), l1, l2, l3] (.retAddr a :: st) M Q := wp_step rfl rfl rfl rfl rfl
set_option maxRecDepth 100000 in
theorem ulaw_425 : wp scr n mb_law 425 [l0, l1, l2, some (.int x)] st M Q ↔ wp scr n mb_law 426 [l0, l1, l2, some (.int x)] (.int x :: st) M Q := wp_step rfl rfl rfl rfl rfl
set_option maxRecDepth 100000 in
theorem ulaw_426 : wp scr n mb_law 426 L st M Q ↔ wp scr n mb_law 427 L (.int 1 :: st) M Q := wp_step rfl rfl rfl rfl rfl
set_option maxRecDepth 100000 in
theorem ulaw_427 : wp scr n mb_law 427 L (.int y :: .int x :: st) M Q ↔ wp scr n mb_law 428 L (.int (x + y) :: st) M Q := wp_step rfl rfl rfl rfl rfl
set_option maxRecDepth 100000 in
theorem ulaw_428 : wp scr n mb_law 428 L (.int y :: o :: st) M Q ↔ mw_o (mm_ld (mc_X scr) M o y) (fun x => wp scr n mb_law 429 L (.int x :: st) M Q) := wp_iald rfl
set_option maxRecDepth 100000 in
theorem ulaw_429 : wp scr n mb_law 429 [some (.ref a), l1, l2, l3] st M Q ↔ wp scr n mb_law 430 [some (.ref a), l1, l2, l3] (.ref a :: st) M Q := wp_step rfl rfl rfl rfl rfl
set_option maxRecDepth 100000 in
theorem ulaw_429b : wp scr n mb_law 429 [some (.retAddr a), l1, l2, l3] st M Q ↔ wp scr n mb_law 430 [some (.retAddr a), l1, l2, l3] (.retAddr a :: st) M Q := wp_step rfl rfl rfl rfl rfl
set_option maxRecDepth 100000 in
theorem ulaw_430 : wp scr n mb_law 430 [l0, l1, l2, some (.int x)] st M Q ↔ wp scr n mb_law 431 [l0, l1, l2, some (.int x)] (.int x :: st) M Q := wp_step rfl rfl rfl rfl rfl
set_option maxRecDepth 100000 in
theorem ulaw_431 : wp scr n mb_law 431 L st M Q ↔ wp scr n mb_law 432 L (.int 2 :: st) M Q := wp_step rfl rfl rfl rfl rfl
set_option maxRecDepth 100000 in
theorem ulaw_432 : wp scr n mb_law 432 L (.int y :: .int x :: st) M Q ↔ wp scr n mb_law 433 L (.int (x + y) :: st) M Q := wp_step rfl rfl rfl rfl rfl
set_option maxRecDepth 100000 in
theorem ulaw_433 : wp scr n mb_law 433 L (.int y :: o :: st) M Q ↔ mw_o (mm_ld (mc_X scr) M o y) (fun x => wp scr n mb_law 434 L (.int x :: st) M Q) := wp_iald rfl
set_option maxRecDepth 100000 in
theorem ulaw_434 : wp scr n mb_law 434 [some (.ref a), l1, l2, l3] st M Q ↔ wp scr n mb_law 435 [some (.ref a), l1, l2, l3] (.ref a :: st) M Q := wp_step rfl rfl rfl rfl rfl
set_option maxRecDepth 100000 in
theorem ulaw_434b : wp scr n mb_law 434 [some (.retAddr a), l1, l2, l3] st M Q ↔ wp scr n mb_law 435 [some (.retAddr a), l1, l2, l3] (.retAddr a :: st) M Q := wp_step rfl rfl rfl rfl rfl
set_option maxRecDepth 100000 in
theorem ulaw_435 : wp scr n mb_law 435 [l0, l1, l2, some (.int x)] st M Q ↔ wp scr n mb_law 436 [l0, l1, l2, some (.int x)] (.int x :: st) M Q := wp_step rfl rfl rfl rfl rfl
set_option maxRecDepth 100000 in
theorem ulaw_436 : wp scr n mb_law 436 L st M Q ↔ wp scr n mb_law 437 L (.int 3 :: st) M Q := wp_step rfl rfl rfl rfl rfl
set_option maxRecDepth 100000 in
theorem ulaw_437 : wp scr n mb_law 437 L (.int y :: .int x :: st) M Q ↔ wp scr n mb_law 438 L (.int (x + y) :: st) M Q := wp_step rfl rfl rfl rfl rfl
set_option maxRecDepth 100000 in
theorem ulaw_438 : wp scr n mb_law 438 L (.int y :: o :: st) M Q ↔ mw_o (mm_ld (mc_X scr) M o y) (fun x => wp scr n mb_law 439 L (.int x :: st) M Q) := wp_iald rfl
set_option maxRecDepth 100000 in
theorem ulaw_439 : wp scr n mb_law 439 L (a4 :: a3 :: a2 :: .ref a :: st) M Q ↔ ((mw_r M a 5 ∧ mw_st st) ∧ Wp scr n 102 [.ref a, a2, a3, a4] M (fun r1 M1 => wp scr n mb_law 442 L (r1.toList ++ st) M1 Q)) := wp_vir rfl rfl rfl rfl rfl
set_option maxRecDepth 100000 in
theorem ulaw_442 : wp scr n mb_law 442 [l0, l1, some (.ref a), l3] st M Q ↔ wp scr n mb_law 443 [l0, l1, some (.ref a), l3] (.ref a :: st) M Q := wp_step rfl rfl rfl rfl rfl
set_option maxRecDepth 100000 in
theorem ulaw_442b : wp scr n mb_law 442 [l0, l1, some (.retAddr a), l3] st M Q ↔ wp scr n mb_law 443 [l0, l1, some (.retAddr a), l3] (.retAddr a :: st) M Q := wp_step rfl rfl rfl rfl rfl
set_option maxRecDepth 100000 in
theorem ulaw_443 : wp scr n mb_law 443 [some (.ref a), l1, l2, l3] st M Q ↔ wp scr n mb_law 444 [some (.ref a), l1, l2, l3] (.ref a :: st) M Q := wp_step rfl rfl rfl rfl rfl
set_option maxRecDepth 100000 in
theorem ulaw_443b : wp scr n mb_law 443 [some (.retAddr a), l1, l2, l3] st M Q ↔ wp scr n mb_law 444 [some (.retAddr a), l1, l2, l3] (.retAddr a :: st) M Q := wp_step rfl rfl rfl rfl rfl
set_option maxRecDepth 100000 in
theorem ulaw_444 : wp scr n mb_law 444 [l0, l1, l2, some (.int x)] st M Q ↔ wp scr n mb_law 445 [l0, l1, l2, some (.int x)] (.int x :: st) M Q := wp_step rfl rfl rfl rfl rfl
set_option maxRecDepth 100000 in
theorem ulaw_445 : wp scr n mb_law 445 L st M Q ↔ wp scr n mb_law 446 L (.int 1 :: st) M Q := wp_step rfl rfl rfl rfl rfl
set_option maxRecDepth 100000 in
theorem ulaw_446 : wp scr n mb_law 446 L (.int y :: .int x :: st) M Q ↔ wp scr n mb_law 447 L (.int (x + y) :: st) M Q := wp_step rfl rfl rfl rfl rfl
set_option maxRecDepth 100000 in
theorem ulaw_447 : wp scr n mb_law 447 L (.int y :: o :: st) M Q ↔ mw_o (mm_ld (mc_X scr) M o y) (fun x => wp scr n mb_law 448 L (.int x :: st) M Q) := wp_iald rfl
set_option maxRecDepth 100000 in
theorem ulaw_448 : wp scr n mb_law 448 [some (.ref a), l1, l2, l3] st M Q ↔ wp scr n mb_law 449 [some (.ref a), l1, l2, l3] (.ref a :: st) M Q := wp_step rfl rfl rfl rfl rfl
set_option maxRecDepth 100000 in
theorem ulaw_448b : wp scr n mb_law 448 [some (.retAddr a), l1, l2, l3] st M Q ↔ wp scr n mb_law 449 [some (.retAddr a), l1, l2, l3] (.retAddr a :: st) M Q := wp_step rfl rfl rfl rfl rfl
set_option maxRecDepth 100000 in
theorem ulaw_449 : wp scr n mb_law 449 [l0, l1, l2, some (.int x)] st M Q ↔ wp scr n mb_law 450 [l0, l1, l2, some (.int x)] (.int x :: st) M Q := wp_step rfl rfl rfl rfl rfl
set_option maxRecDepth 100000 in
theorem ulaw_450 : wp scr n mb_law 450 L st M Q ↔ wp scr n mb_law 451 L (.int 2 :: st) M Q := wp_step rfl rfl rfl rfl rfl
set_option maxRecDepth 100000 in
theorem ulaw_451 : wp scr n mb_law 451 L (.int y :: .int x :: st) M Q ↔ wp scr n mb_law 452 L (.int (x + y) :: st) M Q := wp_step rfl rfl rfl rfl rfl
set_option maxRecDepth 100000 in
theorem ulaw_452 : wp scr n mb_law 452 L (.int y :: o :: st) M Q ↔ mw_o (mm_ld (mc_X scr) M o y) (fun x => wp scr n mb_law 453 L (.int x :: st) M Q) := wp_iald rfl
set_option maxRecDepth 100000 in
theorem ulaw_453 : wp scr n mb_law 453 [some (.ref a), l1, l2, l3] st M Q ↔ wp scr n mb_law 454 [some (.ref a), l1, l2, l3] (.ref a :: st) M Q := wp_step rfl rfl rfl rfl rfl
set_option maxRecDepth 100000 in
theorem ulaw_453b : wp scr n mb_law 453 [some (.retAddr a), l1, l2, l3] st M Q ↔ wp scr n mb_law 454 [some (.retAddr a), l1, l2, l3] (.retAddr a :: st) M Q := wp_step rfl rfl rfl rfl rfl
set_option maxRecDepth 100000 in
theorem ulaw_454 : wp scr n mb_law 454 [l0, l1, l2, some (.int x)] st M Q ↔ wp scr n mb_law 455 [l0, l1, l2, some (.int x)] (.int x :: st) M Q := wp_step rfl rfl rfl rfl rfl
set_option maxRecDepth 100000 in
theorem ulaw_455 : wp scr n mb_law 455 L st M Q ↔ wp scr n mb_law 456 L (.int 3 :: st) M Q := wp_step rfl rfl rfl rfl rfl
set_option maxRecDepth 100000 in
theorem ulaw_456 : wp scr n mb_law 456 L (.int y :: .int x :: st) M Q ↔ wp scr n mb_law 457 L (.int (x + y) :: st) M Q := wp_step rfl rfl rfl rfl rfl
set_option maxRecDepth 100000 in
theorem ulaw_457 : wp scr n mb_law 457 L (.int y :: o :: st) M Q ↔ mw_o (mm_ld (mc_X scr) M o y) (fun x => wp scr n mb_law 458 L (.int x :: st) M Q) := wp_iald rfl
set_option maxRecDepth 100000 in
theorem ulaw_458 : wp scr n mb_law 458 L (a4 :: a3 :: a2 :: .ref a :: st) M Q ↔ ((mw_r M a 6 ∧ mw_st st) ∧ Wp scr n 177 [.ref a, a2, a3, a4] M (fun r1 M1 => wp scr n mb_law 461 L (r1.toList ++ st) M1 Q)) := wp_vir rfl rfl rfl rfl rfl
set_option maxRecDepth 100000 in
theorem ulaw_461 : wp scr n mb_law 461 L (.int y :: .int x :: st) M Q ↔ (if x = y then wp scr n mb_law 1084 L st M Q else wp scr n mb_law 464 L st M Q) := (wp_step rfl rfl rfl rfl rfl).trans wp_ite
set_option maxRecDepth 100000 in
theorem ulaw_464 : wp scr n mb_law 464 L st M Q ↔ wp scr n mb_law 465 L (.int 0 :: st) M Q := wp_step rfl rfl rfl rfl rfl
set_option maxRecDepth 100000 in
theorem ulaw_465 : wp scr n mb_law 465 L [.int x] M Q ↔ ((x = 0 ∨ x = 1) ∧ Q (some (.int x)) M) := wp_retb rfl rfl
set_option maxRecDepth 100000 in
theorem ulaw_466 : wp scr n mb_law 466 [l0, some (.ref a), l2, l3] st M Q ↔ wp scr n mb_law 467 [l0, some (.ref a), l2, l3] (.ref a :: st) M Q := wp_step rfl rfl rfl rfl rfl
set_option maxRecDepth 100000 in
theorem ulaw_466b : wp scr n mb_law 466 [l0, some (.retAddr a), l2, l3] st M Q ↔ wp scr n mb_law 467 [l0, some (.retAddr a), l2, l3] (.retAddr a :: st) M Q := wp_step rfl rfl rfl rfl rfl
set_option maxRecDepth 100000 in
theorem ulaw_467 : wp scr n mb_law 467 [some (.ref a), l1, l2, l3] st M Q ↔ wp scr n mb_law 468 [some (.ref a), l1, l2, l3] (.ref a :: st) M Q := wp_step rfl rfl rfl rfl rfl
set_option maxRecDepth 100000 in
theorem ulaw_467b : wp scr n mb_law 467 [some (.retAddr a), l1, l2, l3] st M Q ↔ wp scr n mb_law 468 [some (.retAddr a), l1, l2, l3] (.retAddr a :: st) M Q := wp_step rfl rfl rfl rfl rfl
set_option maxRecDepth 100000 in
theorem ulaw_468 : wp scr n mb_law 468 [l0, l1, l2, some (.int x)] st M Q ↔ wp scr n mb_law 469 [l0, l1, l2, some (.int x)] (.int x :: st) M Q := wp_step rfl rfl rfl rfl rfl
set_option maxRecDepth 100000 in
theorem ulaw_469 : wp scr n mb_law 469 L st M Q ↔ wp scr n mb_law 470 L (.int 1 :: st) M Q := wp_step rfl rfl rfl rfl rfl
set_option maxRecDepth 100000 in
theorem ulaw_470 : wp scr n mb_law 470 L (.int y :: .int x :: st) M Q ↔ wp scr n mb_law 471 L (.int (x + y) :: st) M Q := wp_step rfl rfl rfl rfl rfl
set_option maxRecDepth 100000 in
theorem ulaw_471 : wp scr n mb_law 471 L (.int y :: o :: st) M Q ↔ mw_o (mm_ld (mc_X scr) M o y) (fun x => wp scr n mb_law 472 L (.int x :: st) M Q) := wp_iald rfl
set_option maxRecDepth 100000 in
theorem ulaw_472 : wp scr n mb_law 472 [some (.ref a), l1, l2, l3] st M Q ↔ wp scr n mb_law 473 [some (.ref a), l1, l2, l3] (.ref a :: st) M Q := wp_step rfl rfl rfl rfl rfl
set_option maxRecDepth 100000 in
theorem ulaw_472b : wp scr n mb_law 472 [some (.retAddr a), l1, l2, l3] st M Q ↔ wp scr n mb_law 473 [some (.retAddr a), l1, l2, l3] (.retAddr a :: st) M Q := wp_step rfl rfl rfl rfl rfl
set_option maxRecDepth 100000 in
theorem ulaw_473 : wp scr n mb_law 473 [l0, l1, l2, some (.int x)] st M Q ↔ wp scr n mb_law 474 [l0, l1, l2, some (.int x)] (.int x :: st) M Q := wp_step rfl rfl rfl rfl rfl
set_option maxRecDepth 100000 in
theorem ulaw_474 : wp scr n mb_law 474 L st M Q ↔ wp scr n mb_law 475 L (.int 2 :: st) M Q := wp_step rfl rfl rfl rfl rfl
set_option maxRecDepth 100000 in
theorem ulaw_475 : wp scr n mb_law 475 L (.int y :: .int x :: st) M Q ↔ wp scr n mb_law 476 L (.int (x + y) :: st) M Q := wp_step rfl rfl rfl rfl rfl
set_option maxRecDepth 100000 in
theorem ulaw_476 : wp scr n mb_law 476 L (.int y :: o :: st) M Q ↔ mw_o (mm_ld (mc_X scr) M o y) (fun x => wp scr n mb_law 477 L (.int x :: st) M Q) := wp_iald rfl
set_option maxRecDepth 100000 in
theorem ulaw_477 : wp scr n mb_law 477 L (a3 :: a2 :: .ref a :: st) M Q ↔ ((mw_r M a 5 ∧ mw_st st) ∧ Wp scr n 103 [.ref a, a2, a3] M (fun r1 M1 => wp scr n mb_law 480 L (r1.toList ++ st) M1 Q)) := wp_vir rfl rfl rfl rfl rfl
set_option maxRecDepth 100000 in
theorem ulaw_480 : wp scr n mb_law 480 [l0, l1, some (.ref a), l3] st M Q ↔ wp scr n mb_law 481 [l0, l1, some (.ref a), l3] (.ref a :: st) M Q := wp_step rfl rfl rfl rfl rfl
set_option maxRecDepth 100000 in
theorem ulaw_480b : wp scr n mb_law 480 [l0, l1, some (.retAddr a), l3] st M Q ↔ wp scr n mb_law 481 [l0, l1, some (.retAddr a), l3] (.retAddr a :: st) M Q := wp_step rfl rfl rfl rfl rfl
set_option maxRecDepth 100000 in
theorem ulaw_481 : wp scr n mb_law 481 [some (.ref a), l1, l2, l3] st M Q ↔ wp scr n mb_law 482 [some (.ref a), l1, l2, l3] (.ref a :: st) M Q := wp_step rfl rfl rfl rfl rfl
set_option maxRecDepth 100000 in
theorem ulaw_481b : wp scr n mb_law 481 [some (.retAddr a), l1, l2, l3] st M Q ↔ wp scr n mb_law 482 [some (.retAddr a), l1, l2, l3] (.retAddr a :: st) M Q := wp_step rfl rfl rfl rfl rfl
set_option maxRecDepth 100000 in
theorem ulaw_482 : wp scr n mb_law 482 [l0, l1, l2, some (.int x)] st M Q ↔ wp scr n mb_law 483 [l0, l1, l2, some (.int x)] (.int x :: st) M Q := wp_step rfl rfl rfl rfl rfl
set_option maxRecDepth 100000 in
theorem ulaw_483 : wp scr n mb_law 483 L st M Q ↔ wp scr n mb_law 484 L (.int 1 :: st) M Q := wp_step rfl rfl rfl rfl rfl
set_option maxRecDepth 100000 in
theorem ulaw_484 : wp scr n mb_law 484 L (.int y :: .int x :: st) M Q ↔ wp scr n mb_law 485 L (.int (x + y) :: st) M Q := wp_step rfl rfl rfl rfl rfl
set_option maxRecDepth 100000 in
theorem ulaw_485 : wp scr n mb_law 485 L (.int y :: o :: st) M Q ↔ mw_o (mm_ld (mc_X scr) M o y) (fun x => wp scr n mb_law 486 L (.int x :: st) M Q) := wp_iald rfl
set_option maxRecDepth 100000 in
theorem ulaw_486 : wp scr n mb_law 486 [some (.ref a), l1, l2, l3] st M Q ↔ wp scr n mb_law 487 [some (.ref a), l1, l2, l3] (.ref a :: st) M Q := wp_step rfl rfl rfl rfl rfl
set_option maxRecDepth 100000 in
theorem ulaw_486b : wp scr n mb_law 486 [some (.retAddr a), l1, l2, l3] st M Q ↔ wp scr n mb_law 487 [some (.retAddr a), l1, l2, l3] (.retAddr a :: st) M Q := wp_step rfl rfl rfl rfl rfl
set_option maxRecDepth 100000 in
theorem ulaw_487 : wp scr n mb_law 487 [l0, l1, l2, some (.int x)] st M Q ↔ wp scr n mb_law 488 [l0, l1, l2, some (.int x)] (.int x :: st) M Q := wp_step rfl rfl rfl rfl rfl
set_option maxRecDepth 100000 in
theorem ulaw_488 : wp scr n mb_law 488 L st M Q ↔ wp scr n mb_law 489 L (.int 2 :: st) M Q := wp_step rfl rfl rfl rfl rfl
set_option maxRecDepth 100000 in
theorem ulaw_489 : wp scr n mb_law 489 L (.int y :: .int x :: st) M Q ↔ wp scr n mb_law 490 L (.int (x + y) :: st) M Q := wp_step rfl rfl rfl rfl rfl
set_option maxRecDepth 100000 in
theorem ulaw_490 : wp scr n mb_law 490 L (.int y :: o :: st) M Q ↔ mw_o (mm_ld (mc_X scr) M o y) (fun x => wp scr n mb_law 491 L (.int x :: st) M Q) := wp_iald rfl
set_option maxRecDepth 100000 in
theorem ulaw_491 : wp scr n mb_law 491 L (a3 :: a2 :: .ref a :: st) M Q ↔ ((mw_r M a 6 ∧ mw_st st) ∧ Wp scr n 179 [.ref a, a2, a3] M (fun r1 M1 => wp scr n mb_law 494 L (r1.toList ++ st) M1 Q)) := wp_vir rfl rfl rfl rfl rfl
set_option maxRecDepth 100000 in
theorem ulaw_494 : wp scr n mb_law 494 L (.int y :: .int x :: st) M Q ↔ (if x = y then wp scr n mb_law 1084 L st M Q else wp scr n mb_law 497 L st M Q) := (wp_step rfl rfl rfl rfl rfl).trans wp_ite
set_option maxRecDepth 100000 in
theorem ulaw_497 : wp scr n mb_law 497 L st M Q ↔ wp scr n mb_law 498 L (.int 0 :: st) M Q := wp_step rfl rfl rfl rfl rfl
set_option maxRecDepth 100000 in
theorem ulaw_498 : wp scr n mb_law 498 L [.int x] M Q ↔ ((x = 0 ∨ x = 1) ∧ Q (some (.int x)) M) := wp_retb rfl rfl
set_option maxRecDepth 100000 in
theorem ulaw_499 : wp scr n mb_law 499 [l0, some (.ref a), l2, l3] st M Q ↔ wp scr n mb_law 500 [l0, some (.ref a), l2, l3] (.ref a :: st) M Q := wp_step rfl rfl rfl rfl rfl
set_option maxRecDepth 100000 in
theorem ulaw_499b : wp scr n mb_law 499 [l0, some (.retAddr a), l2, l3] st M Q ↔ wp scr n mb_law 500 [l0, some (.retAddr a), l2, l3] (.retAddr a :: st) M Q := wp_step rfl rfl rfl rfl rfl
set_option maxRecDepth 100000 in
theorem ulaw_500 : wp scr n mb_law 500 [some (.ref a), l1, l2, l3] st M Q ↔ wp scr n mb_law 501 [some (.ref a), l1, l2, l3] (.ref a :: st) M Q := wp_step rfl rfl rfl rfl rfl
set_option maxRecDepth 100000 in
theorem ulaw_500b : wp scr n mb_law 500 [some (.retAddr a), l1, l2, l3] st M Q ↔ wp scr n mb_law 501 [some (.retAddr a), l1, l2, l3] (.retAddr a :: st) M Q := wp_step rfl rfl rfl rfl rfl
set_option maxRecDepth 100000 in
theorem ulaw_501 : wp scr n mb_law 501 [l0, l1, l2, some (.int x)] st M Q ↔ wp scr n mb_law 502 [l0, l1, l2, some (.int x)] (.int x :: st) M Q := wp_step rfl rfl rfl rfl rfl
set_option maxRecDepth 100000 in
theorem ulaw_502 : wp scr n mb_law 502 L st M Q ↔ wp scr n mb_law 503 L (.int 1 :: st) M Q := wp_step rfl rfl rfl rfl rfl
set_option maxRecDepth 100000 in
theorem ulaw_503 : wp scr n mb_law 503 L (.int y :: .int x :: st) M Q ↔ wp scr n mb_law 504 L (.int (x + y) :: st) M Q := wp_step rfl rfl rfl rfl rfl
set_option maxRecDepth 100000 in
theorem ulaw_504 : wp scr n mb_law 504 L (.int y :: o :: st) M Q ↔ mw_o (mm_ld (mc_X scr) M o y) (fun x => wp scr n mb_law 505 L (.int x :: st) M Q) := wp_iald rfl
set_option maxRecDepth 100000 in
theorem ulaw_505 : wp scr n mb_law 505 L (a2 :: .ref a :: st) M Q ↔ ((mw_r M a 5 ∧ mw_st st) ∧ Wp scr n 105 [.ref a, a2] M (fun r1 M1 => wp scr n mb_law 508 L (r1.toList ++ st) M1 Q)) := wp_vir rfl rfl rfl rfl rfl
set_option maxRecDepth 100000 in
theorem ulaw_508 : wp scr n mb_law 508 [l0, l1, some (.ref a), l3] st M Q ↔ wp scr n mb_law 509 [l0, l1, some (.ref a), l3] (.ref a :: st) M Q := wp_step rfl rfl rfl rfl rfl
set_option maxRecDepth 100000 in
theorem ulaw_508b : wp scr n mb_law 508 [l0, l1, some (.retAddr a), l3] st M Q ↔ wp scr n mb_law 509 [l0, l1, some (.retAddr a), l3] (.retAddr a :: st) M Q := wp_step rfl rfl rfl rfl rfl
set_option maxRecDepth 100000 in
theorem ulaw_509 : wp scr n mb_law 509 [some (.ref a), l1, l2, l3] st M Q ↔ wp scr n mb_law 510 [some (.ref a), l1, l2, l3] (.ref a :: st) M Q := wp_step rfl rfl rfl rfl rfl
set_option maxRecDepth 100000 in
theorem ulaw_509b : wp scr n mb_law 509 [some (.retAddr a), l1, l2, l3] st M Q ↔ wp scr n mb_law 510 [some (.retAddr a), l1, l2, l3] (.retAddr a :: st) M Q := wp_step rfl rfl rfl rfl rfl
set_option maxRecDepth 100000 in
theorem ulaw_510 : wp scr n mb_law 510 [l0, l1, l2, some (.int x)] st M Q ↔ wp scr n mb_law 511 [l0, l1, l2, some (.int x)] (.int x :: st) M Q := wp_step rfl rfl rfl rfl rfl
set_option maxRecDepth 100000 in
theorem ulaw_511 : wp scr n mb_law 511 L st M Q ↔ wp scr n mb_law 512 L (.int 1 :: st) M Q := wp_step rfl rfl rfl rfl rfl
set_option maxRecDepth 100000 in
theorem ulaw_512 : wp scr n mb_law 512 L (.int y :: .int x :: st) M Q ↔ wp scr n mb_law 513 L (.int (x + y) :: st) M Q := wp_step rfl rfl rfl rfl rfl
set_option maxRecDepth 100000 in
theorem ulaw_513 : wp scr n mb_law 513 L (.int y :: o :: st) M Q ↔ mw_o (mm_ld (mc_X scr) M o y) (fun x => wp scr n mb_law 514 L (.int x :: st) M Q) := wp_iald rfl
set_option maxRecDepth 100000 in
theorem ulaw_514 : wp scr n mb_law 514 L (a2 :: .ref a :: st) M Q ↔ ((mw_r M a 6 ∧ mw_st st) ∧ Wp scr n 180 [.ref a, a2] M (fun r1 M1 => wp scr n mb_law 517 L (r1.toList ++ st) M1 Q)) := wp_vir rfl rfl rfl rfl rfl
set_option maxRecDepth 100000 in
theorem ulaw_517 : wp scr n mb_law 517 L (.int y :: .int x :: st) M Q ↔ (if x = y then wp scr n mb_law 1084 L st M Q else wp scr n mb_law 520 L st M Q) := (wp_step rfl rfl rfl rfl rfl).trans wp_ite
set_option maxRecDepth 100000 in
theorem ulaw_520 : wp scr n mb_law 520 L st M Q ↔ wp scr n mb_law 521 L (.int 0 :: st) M Q := wp_step rfl rfl rfl rfl rfl
set_option maxRecDepth 100000 in
theorem ulaw_521 : wp scr n mb_law 521 L [.int x] M Q ↔ ((x = 0 ∨ x = 1) ∧ Q (some (.int x)) M) := wp_retb rfl rfl
set_option maxRecDepth 100000 in
theorem ulaw_522 : wp scr n mb_law 522 [l0, some (.ref a), l2, l3] st M Q ↔ wp scr n mb_law 523 [l0, some (.ref a), l2, l3] (.ref a :: st) M Q := wp_step rfl rfl rfl rfl rfl
set_option maxRecDepth 100000 in
theorem ulaw_522b : wp scr n mb_law 522 [l0, some (.retAddr a), l2, l3] st M Q ↔ wp scr n mb_law 523 [l0, some (.retAddr a), l2, l3] (.retAddr a :: st) M Q := wp_step rfl rfl rfl rfl rfl
set_option maxRecDepth 100000 in
theorem ulaw_523 : wp scr n mb_law 523 [some (.ref a), l1, l2, l3] st M Q ↔ wp scr n mb_law 524 [some (.ref a), l1, l2, l3] (.ref a :: st) M Q := wp_step rfl rfl rfl rfl rfl
set_option maxRecDepth 100000 in
theorem ulaw_523b : wp scr n mb_law 523 [some (.retAddr a), l1, l2, l3] st M Q ↔ wp scr n mb_law 524 [some (.retAddr a), l1, l2, l3] (.retAddr a :: st) M Q := wp_step rfl rfl rfl rfl rfl
set_option maxRecDepth 100000 in
theorem ulaw_524 : wp scr n mb_law 524 [l0, l1, l2, some (.int x)] st M Q ↔ wp scr n mb_law 525 [l0, l1, l2, some (.int x)] (.int x :: st) M Q := wp_step rfl rfl rfl rfl rfl
set_option maxRecDepth 100000 in
theorem ulaw_525 : wp scr n mb_law 525 L st M Q ↔ wp scr n mb_law 526 L (.int 1 :: st) M Q := wp_step rfl rfl rfl rfl rfl
set_option maxRecDepth 100000 in
theorem ulaw_526 : wp scr n mb_law 526 L (.int y :: .int x :: st) M Q ↔ wp scr n mb_law 527 L (.int (x + y) :: st) M Q := wp_step rfl rfl rfl rfl rfl
set_option maxRecDepth 100000 in
theorem ulaw_527 : wp scr n mb_law 527 L (.int y :: o :: st) M Q ↔ mw_o (mm_ld (mc_X scr) M o y) (fun x => wp scr n mb_law 528 L (.int x :: st) M Q) := wp_iald rfl
set_option maxRecDepth 100000 in
theorem ulaw_528 : wp scr n mb_law 528 L (a2 :: .ref a :: st) M Q ↔ ((mw_r M a 5 ∧ mw_st st) ∧ Wp scr n 106 [.ref a, a2] M (fun r1 M1 => wp scr n mb_law 531 L (r1.toList ++ st) M1 Q)) := wp_vir rfl rfl rfl rfl rfl
set_option maxRecDepth 100000 in
theorem ulaw_531 : wp scr n mb_law 531 [l0, l1, some (.ref a), l3] st M Q ↔ wp scr n mb_law 532 [l0, l1, some (.ref a), l3] (.ref a :: st) M Q := wp_step rfl rfl rfl rfl rfl
set_option maxRecDepth 100000 in
theorem ulaw_531b : wp scr n mb_law 531 [l0, l1, some (.retAddr a), l3] st M Q ↔ wp scr n mb_law 532 [l0, l1, some (.retAddr a), l3] (.retAddr a :: st) M Q := wp_step rfl rfl rfl rfl rfl
set_option maxRecDepth 100000 in
theorem ulaw_532 : wp scr n mb_law 532 [some (.ref a), l1, l2, l3] st M Q ↔ wp scr n mb_law 533 [some (.ref a), l1, l2, l3] (.ref a :: st) M Q := wp_step rfl rfl rfl rfl rfl
set_option maxRecDepth 100000 in
theorem ulaw_532b : wp scr n mb_law 532 [some (.retAddr a), l1, l2, l3] st M Q ↔ wp scr n mb_law 533 [some (.retAddr a), l1, l2, l3] (.retAddr a :: st) M Q := wp_step rfl rfl rfl rfl rfl
set_option maxRecDepth 100000 in
theorem ulaw_533 : wp scr n mb_law 533 [l0, l1, l2, some (.int x)] st M Q ↔ wp scr n mb_law 534 [l0, l1, l2, some (.int x)] (.int x :: st) M Q := wp_step rfl rfl rfl rfl rfl
set_option maxRecDepth 100000 in
theorem ulaw_534 : wp scr n mb_law 534 L st M Q ↔ wp scr n mb_law 535 L (.int 1 :: st) M Q := wp_step rfl rfl rfl rfl rfl
set_option maxRecDepth 100000 in
theorem ulaw_535 : wp scr n mb_law 535 L (.int y :: .int x :: st) M Q ↔ wp scr n mb_law 536 L (.int (x + y) :: st) M Q := wp_step rfl rfl rfl rfl rfl
set_option maxRecDepth 100000 in
theorem ulaw_536 : wp scr n mb_law 536 L (.int y :: o :: st) M Q ↔ mw_o (mm_ld (mc_X scr) M o y) (fun x => wp scr n mb_law 537 L (.int x :: st) M Q) := wp_iald rfl
set_option maxRecDepth 100000 in
theorem ulaw_537 : wp scr n mb_law 537 L (a2 :: .ref a :: st) M Q ↔ ((mw_r M a 6 ∧ mw_st st) ∧ Wp scr n 185 [.ref a, a2] M (fun r1 M1 => wp scr n mb_law 540 L (r1.toList ++ st) M1 Q)) := wp_vir rfl rfl rfl rfl rfl
set_option maxRecDepth 100000 in
theorem ulaw_540 : wp scr n mb_law 540 L (.int y :: .int x :: st) M Q ↔ (if x = y then wp scr n mb_law 1084 L st M Q else wp scr n mb_law 543 L st M Q) := (wp_step rfl rfl rfl rfl rfl).trans wp_ite
set_option maxRecDepth 100000 in
theorem ulaw_543 : wp scr n mb_law 543 L st M Q ↔ wp scr n mb_law 544 L (.int 0 :: st) M Q := wp_step rfl rfl rfl rfl rfl
set_option maxRecDepth 100000 in
theorem ulaw_544 : wp scr n mb_law 544 L [.int x] M Q ↔ ((x = 0 ∨ x = 1) ∧ Q (some (.int x)) M) := wp_retb rfl rfl
set_option maxRecDepth 100000 in
theorem ulaw_545 : wp scr n mb_law 545 [l0, some (.ref a), l2, l3] st M Q ↔ wp scr n mb_law 546 [l0, some (.ref a), l2, l3] (.ref a :: st) M Q := wp_step rfl rfl rfl rfl rfl
set_option maxRecDepth 100000 in
theorem ulaw_545b : wp scr n mb_law 545 [l0, some (.retAddr a), l2, l3] st M Q ↔ wp scr n mb_law 546 [l0, some (.retAddr a), l2, l3] (.retAddr a :: st) M Q := wp_step rfl rfl rfl rfl rfl
set_option maxRecDepth 100000 in
theorem ulaw_546 : wp scr n mb_law 546 [some (.ref a), l1, l2, l3] st M Q ↔ wp scr n mb_law 547 [some (.ref a), l1, l2, l3] (.ref a :: st) M Q := wp_step rfl rfl rfl rfl rfl
set_option maxRecDepth 100000 in
theorem ulaw_546b : wp scr n mb_law 546 [some (.retAddr a), l1, l2, l3] st M Q ↔ wp scr n mb_law 547 [some (.retAddr a), l1, l2, l3] (.retAddr a :: st) M Q := wp_step rfl rfl rfl rfl rfl
set_option maxRecDepth 100000 in
theorem ulaw_547 : wp scr n mb_law 547 [l0, l1, l2, some (.int x)] st M Q ↔ wp scr n mb_law 548 [l0, l1, l2, some (.int x)] (.int x :: st) M Q := wp_step rfl rfl rfl rfl rfl
set_option maxRecDepth 100000 in
theorem ulaw_548 : wp scr n mb_law 548 L st M Q ↔ wp scr n mb_law 549 L (.int 1 :: st) M Q := wp_step rfl rfl rfl rfl rfl
set_option maxRecDepth 100000 in
theorem ulaw_549 : wp scr n mb_law 549 L (.int y :: .int x :: st) M Q ↔ wp scr n mb_law 550 L (.int (x + y) :: st) M Q := wp_step rfl rfl rfl rfl rfl
set_option maxRecDepth 100000 in
theorem ulaw_550 : wp scr n mb_law 550 L (.int y :: o :: st) M Q ↔ mw_o (mm_ld (mc_X scr) M o y) (fun x => wp scr n mb_law 551 L (.int x :: st) M Q) := wp_iald rfl
set_option maxRecDepth 100000 in
theorem ulaw_551 : wp scr n mb_law 551 L (a2 :: .ref a :: st) M Q ↔ ((mw_r M a 5 ∧ mw_st st) ∧ Wp scr n 107 [.ref a, a2] M (fun r1 M1 => wp scr n mb_law 554 L (r1.toList ++ st) M1 Q)) := wp_vir rfl rfl rfl rfl rfl
set_option maxRecDepth 100000 in
theorem ulaw_554 : wp scr n mb_law 554 [l0, l1, some (.ref a), l3] st M Q ↔ wp scr n mb_law 555 [l0, l1, some (.ref a), l3] (.ref a :: st) M Q := wp_step rfl rfl rfl rfl rfl
set_option maxRecDepth 100000 in
theorem ulaw_554b : wp scr n mb_law 554 [l0, l1, some (.retAddr a), l3] st M Q ↔ wp scr n mb_law 555 [l0, l1, some (.retAddr a), l3] (.retAddr a :: st) M Q := wp_step rfl rfl rfl rfl rfl
set_option maxRecDepth 100000 in
theorem ulaw_555 : wp scr n mb_law 555 [some (.ref a), l1, l2, l3] st M Q ↔ wp scr n mb_law 556 [some (.ref a), l1, l2, l3] (.ref a :: st) M Q := wp_step rfl rfl rfl rfl rfl
set_option maxRecDepth 100000 in
theorem ulaw_555b : wp scr n mb_law 555 [some (.retAddr a), l1, l2, l3] st M Q ↔ wp scr n mb_law 556 [some (.retAddr a), l1, l2, l3] (.retAddr a :: st) M Q := wp_step rfl rfl rfl rfl rfl
set_option maxRecDepth 100000 in
theorem ulaw_556 : wp scr n mb_law 556 [l0, l1, l2, some (.int x)] st M Q ↔ wp scr n mb_law 557 [l0, l1, l2, some (.int x)] (.int x :: st) M Q := wp_step rfl rfl rfl rfl rfl
set_option maxRecDepth 100000 in
theorem ulaw_557 : wp scr n mb_law 557 L st M Q ↔ wp scr n mb_law 558 L (.int 1 :: st) M Q := wp_step rfl rfl rfl rfl rfl
set_option maxRecDepth 100000 in
theorem ulaw_558 : wp scr n mb_law 558 L (.int y :: .int x :: st) M Q ↔ wp scr n mb_law 559 L (.int (x + y) :: st) M Q := wp_step rfl rfl rfl rfl rfl
set_option maxRecDepth 100000 in
theorem ulaw_559 : wp scr n mb_law 559 L (.int y :: o :: st) M Q ↔ mw_o (mm_ld (mc_X scr) M o y) (fun x => wp scr n mb_law 560 L (.int x :: st) M Q) := wp_iald rfl
set_option maxRecDepth 100000 in
theorem ulaw_560 : wp scr n mb_law 560 L (a2 :: .ref a :: st) M Q ↔ ((mw_r M a 6 ∧ mw_st st) ∧ Wp scr n 192 [.ref a, a2] M (fun r1 M1 => wp scr n mb_law 563 L (r1.toList ++ st) M1 Q)) := wp_vir rfl rfl rfl rfl rfl
set_option maxRecDepth 100000 in
theorem ulaw_563 : wp scr n mb_law 563 L (.int y :: .int x :: st) M Q ↔ (if x = y then wp scr n mb_law 1084 L st M Q else wp scr n mb_law 566 L st M Q) := (wp_step rfl rfl rfl rfl rfl).trans wp_ite
set_option maxRecDepth 100000 in
theorem ulaw_566 : wp scr n mb_law 566 L st M Q ↔ wp scr n mb_law 567 L (.int 0 :: st) M Q := wp_step rfl rfl rfl rfl rfl
set_option maxRecDepth 100000 in
theorem ulaw_567 : wp scr n mb_law 567 L [.int x] M Q ↔ ((x = 0 ∨ x = 1) ∧ Q (some (.int x)) M) := wp_retb rfl rfl
set_option maxRecDepth 100000 in
theorem ulaw_568 : wp scr n mb_law 568 [l0, some (.ref a), l2, l3] st M Q ↔ wp scr n mb_law 569 [l0, some (.ref a), l2, l3] (.ref a :: st) M Q := wp_step rfl rfl rfl rfl rfl
set_option maxRecDepth 100000 in
theorem ulaw_568b : wp scr n mb_law 568 [l0, some (.retAddr a), l2, l3] st M Q ↔ wp scr n mb_law 569 [l0, some (.retAddr a), l2, l3] (.retAddr a :: st) M Q := wp_step rfl rfl rfl rfl rfl
set_option maxRecDepth 100000 in
theorem ulaw_569 : wp scr n mb_law 569 [some (.ref a), l1, l2, l3] st M Q ↔ wp scr n mb_law 570 [some (.ref a), l1, l2, l3] (.ref a :: st) M Q := wp_step rfl rfl rfl rfl rfl
set_option maxRecDepth 100000 in
theorem ulaw_569b : wp scr n mb_law 569 [some (.retAddr a), l1, l2, l3] st M Q ↔ wp scr n mb_law 570 [some (.retAddr a), l1, l2, l3] (.retAddr a :: st) M Q := wp_step rfl rfl rfl rfl rfl
set_option maxRecDepth 100000 in
theorem ulaw_570 : wp scr n mb_law 570 [l0, l1, l2, some (.int x)] st M Q ↔ wp scr n mb_law 571 [l0, l1, l2, some (.int x)] (.int x :: st) M Q := wp_step rfl rfl rfl rfl rfl
set_option maxRecDepth 100000 in
theorem ulaw_571 : wp scr n mb_law 571 L st M Q ↔ wp scr n mb_law 572 L (.int 1 :: st) M Q := wp_step rfl rfl rfl rfl rfl
set_option maxRecDepth 100000 in
theorem ulaw_572 : wp scr n mb_law 572 L (.int y :: .int x :: st) M Q ↔ wp scr n mb_law 573 L (.int (x + y) :: st) M Q := wp_step rfl rfl rfl rfl rfl
set_option maxRecDepth 100000 in
theorem ulaw_573 : wp scr n mb_law 573 L (.int y :: o :: st) M Q ↔ mw_o (mm_ld (mc_X scr) M o y) (fun x => wp scr n mb_law 574 L (.int x :: st) M Q) := wp_iald rfl
set_option maxRecDepth 100000 in
theorem ulaw_574 : wp scr n mb_law 574 [some (.ref a), l1, l2, l3] st M Q ↔ wp scr n mb_law 575 [some (.ref a), l1, l2, l3] (.ref a :: st) M Q := wp_step rfl rfl rfl rfl rfl
set_option maxRecDepth 100000 in
theorem ulaw_574b : wp scr n mb_law 574 [some (.retAddr a), l1, l2, l3] st M Q ↔ wp scr n mb_law 575 [some (.retAddr a), l1, l2, l3] (.retAddr a :: st) M Q := wp_step rfl rfl rfl rfl rfl
set_option maxRecDepth 100000 in
theorem ulaw_575 : wp scr n mb_law 575 [l0, l1, l2, some (.int x)] st M Q ↔ wp scr n mb_law 576 [l0, l1, l2, some (.int x)] (.int x :: st) M Q := wp_step rfl rfl rfl rfl rfl
set_option maxRecDepth 100000 in
theorem ulaw_576 : wp scr n mb_law 576 L st M Q ↔ wp scr n mb_law 577 L (.int 2 :: st) M Q := wp_step rfl rfl rfl rfl rfl
set_option maxRecDepth 100000 in
theorem ulaw_577 : wp scr n mb_law 577 L (.int y :: .int x :: st) M Q ↔ wp scr n mb_law 578 L (.int (x + y) :: st) M Q := wp_step rfl rfl rfl rfl rfl
set_option maxRecDepth 100000 in
theorem ulaw_578 : wp scr n mb_law 578 L (.int y :: o :: st) M Q ↔ mw_o (mm_ld (mc_X scr) M o y) (fun x => wp scr n mb_law 579 L (.int x :: st) M Q) := wp_iald rfl
set_option maxRecDepth 100000 in
theorem ulaw_579 : wp scr n mb_law 579 [some (.ref a), l1, l2, l3] st M Q ↔ wp scr n mb_law 580 [some (.ref a), l1, l2, l3] (.ref a :: st) M Q := wp_step rfl rfl rfl rfl rfl
set_option maxRecDepth 100000 in
theorem ulaw_579b : wp scr n mb_law 579 [some (.retAddr a), l1, l2, l3] st M Q ↔ wp scr n mb_law 580 [some (.retAddr a), l1, l2, l3] (.retAddr a :: st) M Q := wp_step rfl rfl rfl rfl rfl
set_option maxRecDepth 100000 in
theorem ulaw_580 : wp scr n mb_law 580 [l0, l1, l2, some (.int x)] st M Q ↔ wp scr n mb_law 581 [l0, l1, l2, some (.int x)] (.int x :: st) M Q := wp_step rfl rfl rfl rfl rfl
set_option maxRecDepth 100000 in
theorem ulaw_581 : wp scr n mb_law 581 L st M Q ↔ wp scr n mb_law 582 L (.int 3 :: st) M Q := wp_step rfl rfl rfl rfl rfl
set_option maxRecDepth 100000 in
theorem ulaw_582 : wp scr n mb_law 582 L (.int y :: .int x :: st) M Q ↔ wp scr n mb_law 583 L (.int (x + y) :: st) M Q := wp_step rfl rfl rfl rfl rfl
set_option maxRecDepth 100000 in
theorem ulaw_583 : wp scr n mb_law 583 L (.int y :: o :: st) M Q ↔ mw_o (mm_ld (mc_X scr) M o y) (fun x => wp scr n mb_law 584 L (.int x :: st) M Q) := wp_iald rfl
set_option maxRecDepth 100000 in
theorem ulaw_584 : wp scr n mb_law 584 [some (.ref a), l1, l2, l3] st M Q ↔ wp scr n mb_law 585 [some (.ref a), l1, l2, l3] (.ref a :: st) M Q := wp_step rfl rfl rfl rfl rfl
set_option maxRecDepth 100000 in
theorem ulaw_584b : wp scr n mb_law 584 [some (.retAddr a), l1, l2, l3] st M Q ↔ wp scr n mb_law 585 [some (.retAddr a), l1, l2, l3] (.retAddr a :: st) M Q := wp_step rfl rfl rfl rfl rfl
set_option maxRecDepth 100000 in
theorem ulaw_585 : wp scr n mb_law 585 [l0, l1, l2, some (.int x)] st M Q ↔ wp scr n mb_law 586 [l0, l1, l2, some (.int x)] (.int x :: st) M Q := wp_step rfl rfl rfl rfl rfl
set_option maxRecDepth 100000 in
theorem ulaw_586 : wp scr n mb_law 586 L st M Q ↔ wp scr n mb_law 587 L (.int 4 :: st) M Q := wp_step rfl rfl rfl rfl rfl
set_option maxRecDepth 100000 in
theorem ulaw_587 : wp scr n mb_law 587 L (.int y :: .int x :: st) M Q ↔ wp scr n mb_law 588 L (.int (x + y) :: st) M Q := wp_step rfl rfl rfl rfl rfl
set_option maxRecDepth 100000 in
theorem ulaw_588 : wp scr n mb_law 588 L (.int y :: o :: st) M Q ↔ mw_o (mm_ld (mc_X scr) M o y) (fun x => wp scr n mb_law 589 L (.int x :: st) M Q) := wp_iald rfl
set_option maxRecDepth 100000 in
theorem ulaw_589 : wp scr n mb_law 589 L (a5 :: a4 :: a3 :: a2 :: .ref a :: st) M Q ↔ ((mw_r M a 5 ∧ mw_st st) ∧ Wp scr n 108 [.ref a, a2, a3, a4, a5] M (fun r1 M1 => wp scr n mb_law 592 L (r1.toList ++ st) M1 Q)) := wp_vir rfl rfl rfl rfl rfl
set_option maxRecDepth 100000 in
theorem ulaw_592 : wp scr n mb_law 592 [l0, l1, some (.ref a), l3] st M Q ↔ wp scr n mb_law 593 [l0, l1, some (.ref a), l3] (.ref a :: st) M Q := wp_step rfl rfl rfl rfl rfl
set_option maxRecDepth 100000 in
theorem ulaw_592b : wp scr n mb_law 592 [l0, l1, some (.retAddr a), l3] st M Q ↔ wp scr n mb_law 593 [l0, l1, some (.retAddr a), l3] (.retAddr a :: st) M Q := wp_step rfl rfl rfl rfl rfl
set_option maxRecDepth 100000 in
theorem ulaw_593 : wp scr n mb_law 593 [some (.ref a), l1, l2, l3] st M Q ↔ wp scr n mb_law 594 [some (.ref a), l1, l2, l3] (.ref a :: st) M Q := wp_step rfl rfl rfl rfl rfl
set_option maxRecDepth 100000 in
theorem ulaw_593b : wp scr n mb_law 593 [some (.retAddr a), l1, l2, l3] st M Q ↔ wp scr n mb_law 594 [some (.retAddr a), l1, l2, l3] (.retAddr a :: st) M Q := wp_step rfl rfl rfl rfl rfl
set_option maxRecDepth 100000 in
theorem ulaw_594 : wp scr n mb_law 594 [l0, l1, l2, some (.int x)] st M Q ↔ wp scr n mb_law 595 [l0, l1, l2, some (.int x)] (.int x :: st) M Q := wp_step rfl rfl rfl rfl rfl
set_option maxRecDepth 100000 in
theorem ulaw_595 : wp scr n mb_law 595 L st M Q ↔ wp scr n mb_law 596 L (.int 1 :: st) M Q := wp_step rfl rfl rfl rfl rfl
set_option maxRecDepth 100000 in
theorem ulaw_596 : wp scr n mb_law 596 L (.int y :: .int x :: st) M Q ↔ wp scr n mb_law 597 L (.int (x + y) :: st) M Q := wp_step rfl rfl rfl rfl rfl
set_option maxRecDepth 100000 in
theorem ulaw_597 : wp scr n mb_law 597 L (.int y :: o :: st) M Q ↔ mw_o (mm_ld (mc_X scr) M o y) (fun x => wp scr n mb_law 598 L (.int x :: st) M Q) := wp_iald rfl
set_option maxRecDepth 100000 in
theorem ulaw_598 : wp scr n mb_law 598 [some (.ref a), l1, l2, l3] st M Q ↔ wp scr n mb_law 599 [some (.ref a), l1, l2, l3] (.ref a :: st) M Q := wp_step rfl rfl rfl rfl rfl
set_option maxRecDepth 100000 in
theorem ulaw_598b : wp scr n mb_law 598 [some (.retAddr a), l1, l2, l3] st M Q ↔ wp scr n mb_law 599 [some (.retAddr a), l1, l2, l3] (.retAddr a :: st) M Q := wp_step rfl rfl rfl rfl rfl
set_option maxRecDepth 100000 in
theorem ulaw_599 : wp scr n mb_law 599 [l0, l1, l2, some (.int x)] st M Q ↔ wp scr n mb_law 600 [l0, l1, l2, some (.int x)] (.int x :: st) M Q := wp_step rfl rfl rfl rfl rfl
set_option maxRecDepth 100000 in
theorem ulaw_600 : wp scr n mb_law 600 L st M Q ↔ wp scr n mb_law 601 L (.int 2 :: st) M Q := wp_step rfl rfl rfl rfl rfl
set_option maxRecDepth 100000 in
theorem ulaw_601 : wp scr n mb_law 601 L (.int y :: .int x :: st) M Q ↔ wp scr n mb_law 602 L (.int (x + y) :: st) M Q := wp_step rfl rfl rfl rfl rfl
set_option maxRecDepth 100000 in
theorem ulaw_602 : wp scr n mb_law 602 L (.int y :: o :: st) M Q ↔ mw_o (mm_ld (mc_X scr) M o y) (fun x => wp scr n mb_law 603 L (.int x :: st) M Q) := wp_iald rfl
set_option maxRecDepth 100000 in
theorem ulaw_603 : wp scr n mb_law 603 [some (.ref a), l1, l2, l3] st M Q ↔ wp scr n mb_law 604 [some (.ref a), l1, l2, l3] (.ref a :: st) M Q := wp_step rfl rfl rfl rfl rfl
set_option maxRecDepth 100000 in
theorem ulaw_603b : wp scr n mb_law 603 [some (.retAddr a), l1, l2, l3] st M Q ↔ wp scr n mb_law 604 [some (.retAddr a), l1, l2, l3] (.retAddr a :: st) M Q := wp_step rfl rfl rfl rfl rfl
set_option maxRecDepth 100000 in
theorem ulaw_604 : wp scr n mb_law 604 [l0, l1, l2, some (.int x)] st M Q ↔ wp scr n mb_law 605 [l0, l1, l2, some (.int x)] (.int x :: st) M Q := wp_step rfl rfl rfl rfl rfl
set_option maxRecDepth 100000 in
theorem ulaw_605 : wp scr n mb_law 605 L st M Q ↔ wp scr n mb_law 606 L (.int 3 :: st) M Q := wp_step rfl rfl rfl rfl rfl
set_option maxRecDepth 100000 in
theorem ulaw_606 : wp scr n mb_law 606 L (.int y :: .int x :: st) M Q ↔ wp scr n mb_law 607 L (.int (x + y) :: st) M Q := wp_step rfl rfl rfl rfl rfl
set_option maxRecDepth 100000 in
theorem ulaw_607 : wp scr n mb_law 607 L (.int y :: o :: st) M Q ↔ mw_o (mm_ld (mc_X scr) M o y) (fun x => wp scr n mb_law 608 L (.int x :: st) M Q) := wp_iald rfl
set_option maxRecDepth 100000 in
theorem ulaw_608 : wp scr n mb_law 608 [some (.ref a), l1, l2, l3] st M Q ↔ wp scr n mb_law 609 [some (.ref a), l1, l2, l3] (.ref a :: st) M Q := wp_step rfl rfl rfl rfl rfl
set_option maxRecDepth 100000 in
theorem ulaw_608b : wp scr n mb_law 608 [some (.retAddr a), l1, l2, l3] st M Q ↔ wp scr n mb_law 609 [some (.retAddr a), l1, l2, l3] (.retAddr a :: st) M Q := wp_step rfl rfl rfl rfl rfl
set_option maxRecDepth 100000 in
theorem ulaw_609 : wp scr n mb_law 609 [l0, l1, l2, some (.int x)] st M Q ↔ wp scr n mb_law 610 [l0, l1, l2, some (.int x)] (.int x :: st) M Q := wp_step rfl rfl rfl rfl rfl
set_option maxRecDepth 100000 in
theorem ulaw_610 : wp scr n mb_law 610 L st M Q ↔ wp scr n mb_law 611 L (.int 4 :: st) M Q := wp_step rfl rfl rfl rfl rfl
set_option maxRecDepth 100000 in
theorem ulaw_611 : wp scr n mb_law 611 L (.int y :: .int x :: st) M Q ↔ wp scr n mb_law 612 L (.int (x + y) :: st) M Q := wp_step rfl rfl rfl rfl rfl
set_option maxRecDepth 100000 in
theorem ulaw_612 : wp scr n mb_law 612 L (.int y :: o :: st) M Q ↔ mw_o (mm_ld (mc_X scr) M o y) (fun x => wp scr n mb_law 613 L (.int x :: st) M Q) := wp_iald rfl
set_option maxRecDepth 100000 in
theorem ulaw_613 : wp scr n mb_law 613 L (a5 :: a4 :: a3 :: a2 :: .ref a :: st) M Q ↔ ((mw_r M a 6 ∧ mw_st st) ∧ Wp scr n 193 [.ref a, a2, a3, a4, a5] M (fun r1 M1 => wp scr n mb_law 616 L (r1.toList ++ st) M1 Q)) := wp_vir rfl rfl rfl rfl rfl
set_option maxRecDepth 100000 in
theorem ulaw_616 : wp scr n mb_law 616 L (.int y :: .int x :: st) M Q ↔ (if x = y then wp scr n mb_law 1084 L st M Q else wp scr n mb_law 619 L st M Q) := (wp_step rfl rfl rfl rfl rfl).trans wp_ite
set_option maxRecDepth 100000 in
theorem ulaw_619 : wp scr n mb_law 619 L st M Q ↔ wp scr n mb_law 620 L (.int 0 :: st) M Q := wp_step rfl rfl rfl rfl rfl
set_option maxRecDepth 100000 in
theorem ulaw_620 : wp scr n mb_law 620 L [.int x] M Q ↔ ((x = 0 ∨ x = 1) ∧ Q (some (.int x)) M) := wp_retb rfl rfl
set_option maxRecDepth 100000 in
theorem ulaw_621 : wp scr n mb_law 621 [l0, some (.ref a), l2, l3] st M Q ↔ wp scr n mb_law 622 [l0, some (.ref a), l2, l3] (.ref a :: st) M Q := wp_step rfl rfl rfl rfl rfl
set_option maxRecDepth 100000 in
theorem ulaw_621b : wp scr n mb_law 621 [l0, some (.retAddr a), l2, l3] st M Q ↔ wp scr n mb_law 622 [l0, some (.retAddr a), l2, l3] (.retAddr a :: st) M Q := wp_step rfl rfl rfl rfl rfl
set_option maxRecDepth 100000 in
theorem ulaw_622 : wp scr n mb_law 622 [some (.ref a), l1, l2, l3] st M Q ↔ wp scr n mb_law 623 [some (.ref a), l1, l2, l3] (.ref a :: st) M Q := wp_step rfl rfl rfl rfl rfl
set_option maxRecDepth 100000 in
theorem ulaw_622b : wp scr n mb_law 622 [some (.retAddr a), l1, l2, l3] st M Q ↔ wp scr n mb_law 623 [some (.retAddr a), l1, l2, l3] (.retAddr a :: st) M Q := wp_step rfl rfl rfl rfl rfl
set_option maxRecDepth 100000 in
theorem ulaw_623 : wp scr n mb_law 623 [l0, l1, l2, some (.int x)] st M Q ↔ wp scr n mb_law 624 [l0, l1, l2, some (.int x)] (.int x :: st) M Q := wp_step rfl rfl rfl rfl rfl
set_option maxRecDepth 100000 in
theorem ulaw_624 : wp scr n mb_law 624 L st M Q ↔ wp scr n mb_law 625 L (.int 1 :: st) M Q := wp_step rfl rfl rfl rfl rfl
set_option maxRecDepth 100000 in
theorem ulaw_625 : wp scr n mb_law 625 L (.int y :: .int x :: st) M Q ↔ wp scr n mb_law 626 L (.int (x + y) :: st) M Q := wp_step rfl rfl rfl rfl rfl
set_option maxRecDepth 100000 in
theorem ulaw_626 : wp scr n mb_law 626 L (.int y :: o :: st) M Q ↔ mw_o (mm_ld (mc_X scr) M o y) (fun x => wp scr n mb_law 627 L (.int x :: st) M Q) := wp_iald rfl
set_option maxRecDepth 100000 in
theorem ulaw_627 : wp scr n mb_law 627 [some (.ref a), l1, l2, l3] st M Q ↔ wp scr n mb_law 628 [some (.ref a), l1, l2, l3] (.ref a :: st) M Q := wp_step rfl rfl rfl rfl rfl
set_option maxRecDepth 100000 in
theorem ulaw_627b : wp scr n mb_law 627 [some (.retAddr a), l1, l2, l3] st M Q ↔ wp scr n mb_law 628 [some (.retAddr a), l1, l2, l3] (.retAddr a :: st) M Q := wp_step rfl rfl rfl rfl rfl
set_option maxRecDepth 100000 in
theorem ulaw_628 : wp scr n mb_law 628 [l0, l1, l2, some (.int x)] st M Q ↔ wp scr n mb_law 629 [l0, l1, l2, some (.int x)] (.int x :: st) M Q := wp_step rfl rfl rfl rfl rfl
set_option maxRecDepth 100000 in
theorem ulaw_629 : wp scr n mb_law 629 L st M Q ↔ wp scr n mb_law 630 L (.int 2 :: st) M Q := wp_step rfl rfl rfl rfl rfl
set_option maxRecDepth 100000 in
theorem ulaw_630 : wp scr n mb_law 630 L (.int y :: .int x :: st) M Q ↔ wp scr n mb_law 631 L (.int (x + y) :: st) M Q := wp_step rfl rfl rfl rfl rfl
set_option maxRecDepth 100000 in
theorem ulaw_631 : wp scr n mb_law 631 L (.int y :: o :: st) M Q ↔ mw_o (mm_ld (mc_X scr) M o y) (fun x => wp scr n mb_law 632 L (.int x :: st) M Q) := wp_iald rfl
set_option maxRecDepth 100000 in
theorem ulaw_632 : wp scr n mb_law 632 [some (.ref a), l1, l2, l3] st M Q ↔ wp scr n mb_law 633 [some (.ref a), l1, l2, l3] (.ref a :: st) M Q := wp_step rfl rfl rfl rfl rfl
set_option maxRecDepth 100000 in
theorem ulaw_632b : wp scr n mb_law 632 [some (.retAddr a), l1, l2, l3] st M Q ↔ wp scr n mb_law 633 [some (.retAddr a), l1, l2, l3] (.retAddr a :: st) M Q := wp_step rfl rfl rfl rfl rfl
set_option maxRecDepth 100000 in
theorem ulaw_633 : wp scr n mb_law 633 [l0, l1, l2, some (.int x)] st M Q ↔ wp scr n mb_law 634 [l0, l1, l2, some (.int x)] (.int x :: st) M Q := wp_step rfl rfl rfl rfl rfl
set_option maxRecDepth 100000 in
theorem ulaw_634 : wp scr n mb_law 634 L st M Q ↔ wp scr n mb_law 635 L (.int 3 :: st) M Q := wp_step rfl rfl rfl rfl rfl
set_option maxRecDepth 100000 in
theorem ulaw_635 : wp scr n mb_law 635 L (.int y :: .int x :: st) M Q ↔ wp scr n mb_law 636 L (.int (x + y) :: st) M Q := wp_step rfl rfl rfl rfl rfl
set_option maxRecDepth 100000 in
theorem ulaw_636 : wp scr n mb_law 636 L (.int y :: o :: st) M Q ↔ mw_o (mm_ld (mc_X scr) M o y) (fun x => wp scr n mb_law 637 L (.int x :: st) M Q) := wp_iald rfl
set_option maxRecDepth 100000 in
theorem ulaw_637 : wp scr n mb_law 637 L (a4 :: a3 :: a2 :: .ref a :: st) M Q ↔ ((mw_r M a 5 ∧ mw_st st) ∧ Wp scr n 109 [.ref a, a2, a3, a4] M (fun r1 M1 => wp scr n mb_law 640 L (r1.toList ++ st) M1 Q)) := wp_vir rfl rfl rfl rfl rfl
set_option maxRecDepth 100000 in
theorem ulaw_640 : wp scr n mb_law 640 [l0, l1, some (.ref a), l3] st M Q ↔ wp scr n mb_law 641 [l0, l1, some (.ref a), l3] (.ref a :: st) M Q := wp_step rfl rfl rfl rfl rfl
set_option maxRecDepth 100000 in
theorem ulaw_640b : wp scr n mb_law 640 [l0, l1, some (.retAddr a), l3] st M Q ↔ wp scr n mb_law 641 [l0, l1, some (.retAddr a), l3] (.retAddr a :: st) M Q := wp_step rfl rfl rfl rfl rfl
set_option maxRecDepth 100000 in
theorem ulaw_641 : wp scr n mb_law 641 [some (.ref a), l1, l2, l3] st M Q ↔ wp scr n mb_law 642 [some (.ref a), l1, l2, l3] (.ref a :: st) M Q := wp_step rfl rfl rfl rfl rfl
set_option maxRecDepth 100000 in
theorem ulaw_641b : wp scr n mb_law 641 [some (.retAddr a), l1, l2, l3] st M Q ↔ wp scr n mb_law 642 [some (.retAddr a), l1, l2, l3] (.retAddr a :: st) M Q := wp_step rfl rfl rfl rfl rfl
set_option maxRecDepth 100000 in
theorem ulaw_642 : wp scr n mb_law 642 [l0, l1, l2, some (.int x)] st M Q ↔ wp scr n mb_law 643 [l0, l1, l2, some (.int x)] (.int x :: st) M Q := wp_step rfl rfl rfl rfl rfl
set_option maxRecDepth 100000 in
theorem ulaw_643 : wp scr n mb_law 643 L st M Q ↔ wp scr n mb_law 644 L (.int 1 :: st) M Q := wp_step rfl rfl rfl rfl rfl
set_option maxRecDepth 100000 in
theorem ulaw_644 : wp scr n mb_law 644 L (.int y :: .int x :: st) M Q ↔ wp scr n mb_law 645 L (.int (x + y) :: st) M Q := wp_step rfl rfl rfl rfl rfl
set_option maxRecDepth 100000 in
theorem ulaw_645 : wp scr n mb_law 645 L (.int y :: o :: st) M Q ↔ mw_o (mm_ld (mc_X scr) M o y) (fun x => wp scr n mb_law 646 L (.int x :: st) M Q) := wp_iald rfl
set_option maxRecDepth 100000 in
theorem ulaw_646 : wp scr n mb_law 646 [some (.ref a), l1, l2, l3] st M Q ↔ wp scr n mb_law 647 [some (.ref a), l1, l2, l3] (.ref a :: st) M Q := wp_step rfl rfl rfl rfl rfl
set_option maxRecDepth 100000 in
theorem ulaw_646b : wp scr n mb_law 646 [some (.retAddr a), l1, l2, l3] st M Q ↔ wp scr n mb_law 647 [some (.retAddr a), l1, l2, l3] (.retAddr a :: st) M Q := wp_step rfl rfl rfl rfl rfl
set_option maxRecDepth 100000 in
theorem ulaw_647 : wp scr n mb_law 647 [l0, l1, l2, some (.int x)] st M Q ↔ wp scr n mb_law 648 [l0, l1, l2, some (.int x)] (.int x :: st) M Q := wp_step rfl rfl rfl rfl rfl
set_option maxRecDepth 100000 in
theorem ulaw_648 : wp scr n mb_law 648 L st M Q ↔ wp scr n mb_law 649 L (.int 2 :: st) M Q := wp_step rfl rfl rfl rfl rfl
set_option maxRecDepth 100000 in
theorem ulaw_649 : wp scr n mb_law 649 L (.int y :: .int x :: st) M Q ↔ wp scr n mb_law 650 L (.int (x + y) :: st) M Q := wp_step rfl rfl rfl rfl rfl
set_option maxRecDepth 100000 in
theorem ulaw_650 : wp scr n mb_law 650 L (.int y :: o :: st) M Q ↔ mw_o (mm_ld (mc_X scr) M o y) (fun x => wp scr n mb_law 651 L (.int x :: st) M Q) := wp_iald rfl
set_option maxRecDepth 100000 in
theorem ulaw_651 : wp scr n mb_law 651 [some (.ref a), l1, l2, l3] st M Q ↔ wp scr n mb_law 652 [some (.ref a), l1, l2, l3] (.ref a :: st) M Q := wp_step rfl rfl rfl rfl rfl
set_option maxRecDepth 100000 in
theorem ulaw_651b : wp scr n mb_law 651 [some (.retAddr a), l1, l2, l3] st M Q ↔ wp scr n mb_law 652 [some (.retAddr a), l1, l2, l3] (.retAddr a :: st) M Q := wp_step rfl rfl rfl rfl rfl
set_option maxRecDepth 100000 in
theorem ulaw_652 : wp scr n mb_law 652 [l0, l1, l2, some (.int x)] st M Q ↔ wp scr n mb_law 653 [l0, l1, l2, some (.int x)] (.int x :: st) M Q := wp_step rfl rfl rfl rfl rfl
set_option maxRecDepth 100000 in
theorem ulaw_653 : wp scr n mb_law 653 L st M Q ↔ wp scr n mb_law 654 L (.int 3 :: st) M Q := wp_step rfl rfl rfl rfl rfl
set_option maxRecDepth 100000 in
theorem ulaw_654 : wp scr n mb_law 654 L (.int y :: .int x :: st) M Q ↔ wp scr n mb_law 655 L (.int (x + y) :: st) M Q := wp_step rfl rfl rfl rfl rfl
set_option maxRecDepth 100000 in
theorem ulaw_655 : wp scr n mb_law 655 L (.int y :: o :: st) M Q ↔ mw_o (mm_ld (mc_X scr) M o y) (fun x => wp scr n mb_law 656 L (.int x :: st) M Q) := wp_iald rfl
set_option maxRecDepth 100000 in
theorem ulaw_656 : wp scr n mb_law 656 L (a4 :: a3 :: a2 :: .ref a :: st) M Q ↔ ((mw_r M a 6 ∧ mw_st st) ∧ Wp scr n 194 [.ref a, a2, a3, a4] M (fun r1 M1 => wp scr n mb_law 659 L (r1.toList ++ st) M1 Q)) := wp_vir rfl rfl rfl rfl rfl
set_option maxRecDepth 100000 in
theorem ulaw_659 : wp scr n mb_law 659 L (.int y :: .int x :: st) M Q ↔ (if x = y then wp scr n mb_law 1084 L st M Q else wp scr n mb_law 662 L st M Q) := (wp_step rfl rfl rfl rfl rfl).trans wp_ite
set_option maxRecDepth 100000 in
theorem ulaw_662 : wp scr n mb_law 662 L st M Q ↔ wp scr n mb_law 663 L (.int 0 :: st) M Q := wp_step rfl rfl rfl rfl rfl
set_option maxRecDepth 100000 in
theorem ulaw_663 : wp scr n mb_law 663 L [.int x] M Q ↔ ((x = 0 ∨ x = 1) ∧ Q (some (.int x)) M) := wp_retb rfl rfl
set_option maxRecDepth 100000 in
theorem ulaw_664 : wp scr n mb_law 664 [l0, some (.ref a), l2, l3] st M Q ↔ wp scr n mb_law 665 [l0, some (.ref a), l2, l3] (.ref a :: st) M Q := wp_step rfl rfl rfl rfl rfl
set_option maxRecDepth 100000 in
theorem ulaw_664b : wp scr n mb_law 664 [l0, some (.retAddr a), l2, l3] st M Q ↔ wp scr n mb_law 665 [l0, some (.retAddr a), l2, l3] (.retAddr a :: st) M Q := wp_step rfl rfl rfl rfl rfl
set_option maxRecDepth 100000 in
theorem ulaw_665 : wp scr n mb_law 665 L (.ref a :: st) M Q ↔ ((mw_r M a 5 ∧ mw_st st) ∧ Wp scr n 110 [.ref a] M (fun r1 M1 => wp scr n mb_law 668 L (r1.toList ++ st) M1 Q)) := wp_vir rfl rfl rfl rfl rfl
set_option maxRecDepth 100000 in
theorem ulaw_668 : wp scr n mb_law 668 [l0, l1, some (.ref a), l3] st M Q ↔ wp scr n mb_law 669 [l0, l1, some (.ref a), l3] (.ref a :: st) M Q := wp_step rfl rfl rfl rfl rfl
set_option maxRecDepth 100000 in
theorem ulaw_668b : wp scr n mb_law 668 [l0, l1, some (.retAddr a), l3] st M Q ↔ wp scr n mb_law 669 [l0, l1, some (.retAddr a), l3] (.retAddr a :: st) M Q := wp_step rfl rfl rfl rfl rfl
set_option maxRecDepth 100000 in
theorem ulaw_669 : wp scr n mb_law 669 L (.ref a :: st) M Q ↔ ((mw_r M a 6 ∧ mw_st st) ∧ Wp scr n 195 [.ref a] M (fun r1 M1 => wp scr n mb_law 672 L (r1.toList ++ st) M1 Q)) := wp_vir rfl rfl rfl rfl rfl
set_option maxRecDepth 100000 in
theorem ulaw_672 : wp scr n mb_law 672 L (.int y :: .int x :: st) M Q ↔ (if x = y then wp scr n mb_law 1084 L st M Q else wp scr n mb_law 675 L st M Q) := (wp_step rfl rfl rfl rfl rfl).trans wp_ite
set_option maxRecDepth 100000 in
theorem ulaw_675 : wp scr n mb_law 675 L st M Q ↔ wp scr n mb_law 676 L (.int 0 :: st) M Q := wp_step rfl rfl rfl rfl rfl
set_option maxRecDepth 100000 in
theorem ulaw_676 : wp scr n mb_law 676 L [.int x] M Q ↔ ((x = 0 ∨ x = 1) ∧ Q (some (.int x)) M) := wp_retb rfl rfl
set_option maxRecDepth 100000 in
theorem ulaw_677 : wp scr n mb_law 677 [l0, some (.ref a), l2, l3] st M Q ↔ wp scr n mb_law 678 [l0, some (.ref a), l2, l3] (.ref a :: st) M Q := wp_step rfl rfl rfl rfl rfl
set_option maxRecDepth 100000 in
theorem ulaw_677b : wp scr n mb_law 677 [l0, some (.retAddr a), l2, l3] st M Q ↔ wp scr n mb_law 678 [l0, some (.retAddr a), l2, l3] (.retAddr a :: st) M Q := wp_step rfl rfl rfl rfl rfl
set_option maxRecDepth 100000 in
theorem ulaw_678 : wp scr n mb_law 678 [some (.ref a), l1, l2, l3] st M Q ↔ wp scr n mb_law 679 [some (.ref a), l1, l2, l3] (.ref a :: st) M Q := wp_step rfl rfl rfl rfl rfl
set_option maxRecDepth 100000 in
theorem ulaw_678b : wp scr n mb_law 678 [some (.retAddr a), l1, l2, l3] st M Q ↔ wp scr n mb_law 679 [some (.retAddr a), l1, l2, l3] (.retAddr a :: st) M Q := wp_step rfl rfl rfl rfl rfl
set_option maxRecDepth 100000 in
theorem ulaw_679 : wp scr n mb_law 679 [l0, l1, l2, some (.int x)] st M Q ↔ wp scr n mb_law 680 [l0, l1, l2, some (.int x)] (.int x :: st) M Q := wp_step rfl rfl rfl rfl rfl
set_option maxRecDepth 100000 in
theorem ulaw_680 : wp scr n mb_law 680 L st M Q ↔ wp scr n mb_law 681 L (.int 1 :: st) M Q := wp_step rfl rfl rfl rfl rfl
set_option maxRecDepth 100000 in
theorem ulaw_681 : wp scr n mb_law 681 L (.int y :: .int x :: st) M Q ↔ wp scr n mb_law 682 L (.int (x + y) :: st) M Q := wp_step rfl rfl rfl rfl rfl
set_option maxRecDepth 100000 in
theorem ulaw_682 : wp scr n mb_law 682 L (.int y :: o :: st) M Q ↔ mw_o (mm_ld (mc_X scr) M o y) (fun x => wp scr n mb_law 683 L (.int x :: st) M Q) := wp_iald rfl
set_option maxRecDepth 100000 in
theorem ulaw_683 : wp scr n mb_law 683 [some (.ref a), l1, l2, l3] st M Q ↔ wp scr n mb_law 684 [some (.ref a), l1, l2, l3] (.ref a :: st) M Q := wp_step rfl rfl rfl rfl rfl
set_option maxRecDepth 100000 in
theorem ulaw_683b : wp scr n mb_law 683 [some (.retAddr a), l1, l2, l3] st M Q ↔ wp scr n mb_law 684 [some (.retAddr a), l1, l2, l3] (.retAddr a :: st) M Q := wp_step rfl rfl rfl rfl rfl
set_option maxRecDepth 100000 in
theorem ulaw_684 : wp scr n mb_law 684 [l0, l1, l2, some (.int x)] st M Q ↔ wp scr n mb_law 685 [l0, l1, l2, some (.int x)] (.int x :: st) M Q := wp_step rfl rfl rfl rfl rfl
set_option maxRecDepth 100000 in
theorem ulaw_685 : wp scr n mb_law 685 L st M Q ↔ wp scr n mb_law 686 L (.int 2 :: st) M Q := wp_step rfl rfl rfl rfl rfl
set_option maxRecDepth 100000 in
theorem ulaw_686 : wp scr n mb_law 686 L (.int y :: .int x :: st) M Q ↔ wp scr n mb_law 687 L (.int (x + y) :: st) M Q := wp_step rfl rfl rfl rfl rfl
set_option maxRecDepth 100000 in
theorem ulaw_687 : wp scr n mb_law 687 L (.int y :: o :: st) M Q ↔ mw_o (mm_ld (mc_X scr) M o y) (fun x => wp scr n mb_law 688 L (.int x :: st) M Q) := wp_iald rfl
set_option maxRecDepth 100000 in
theorem ulaw_688 : wp scr n mb_law 688 L (a3 :: a2 :: .ref a :: st) M Q ↔ ((mw_r M a 5 ∧ mw_st st) ∧ Wp scr n 112 [.ref a, a2, a3] M (fun r1 M1 => wp scr n mb_law 691 L (r1.toList ++ st) M1 Q)) := wp_vir rfl rfl rfl rfl rfl
set_option maxRecDepth 100000 in
theorem ulaw_691 : wp scr n mb_law 691 [l0, l1, some (.ref a), l3] st M Q ↔ wp scr n mb_law 692 [l0, l1, some (.ref a), l3] (.ref a :: st) M Q := wp_step rfl rfl rfl rfl rfl
set_option maxRecDepth 100000 in
theorem ulaw_691b : wp scr n mb_law 691 [l0, l1, some (.retAddr a), l3] st M Q ↔ wp scr n mb_law 692 [l0, l1, some (.retAddr a), l3] (.retAddr a :: st) M Q := wp_step rfl rfl rfl rfl rfl
set_option maxRecDepth 100000 in
theorem ulaw_692 : wp scr n mb_law 692 [some (.ref a), l1, l2, l3] st M Q ↔ wp scr n mb_law 693 [some (.ref a), l1, l2, l3] (.ref a :: st) M Q := wp_step rfl rfl rfl rfl rfl
set_option maxRecDepth 100000 in
theorem ulaw_692b : wp scr n mb_law 692 [some (.retAddr a), l1, l2, l3] st M Q ↔ wp scr n mb_law 693 [some (.retAddr a), l1, l2, l3] (.retAddr a :: st) M Q := wp_step rfl rfl rfl rfl rfl
set_option maxRecDepth 100000 in
theorem ulaw_693 : wp scr n mb_law 693 [l0, l1, l2, some (.int x)] st M Q ↔ wp scr n mb_law 694 [l0, l1, l2, some (.int x)] (.int x :: st) M Q := wp_step rfl rfl rfl rfl rfl
set_option maxRecDepth 100000 in
theorem ulaw_694 : wp scr n mb_law 694 L st M Q ↔ wp scr n mb_law 695 L (.int 1 :: st) M Q := wp_step rfl rfl rfl rfl rfl
set_option maxRecDepth 100000 in
theorem ulaw_695 : wp scr n mb_law 695 L (.int y :: .int x :: st) M Q ↔ wp scr n mb_law 696 L (.int (x + y) :: st) M Q := wp_step rfl rfl rfl rfl rfl
set_option maxRecDepth 100000 in
theorem ulaw_696 : wp scr n mb_law 696 L (.int y :: o :: st) M Q ↔ mw_o (mm_ld (mc_X scr) M o y) (fun x => wp scr n mb_law 697 L (.int x :: st) M Q) := wp_iald rfl
set_option maxRecDepth 100000 in
theorem ulaw_697 : wp scr n mb_law 697 [some (.ref a), l1, l2, l3] st M Q ↔ wp scr n mb_law 698 [some (.ref a), l1, l2, l3] (.ref a :: st) M Q := wp_step rfl rfl rfl rfl rfl
set_option maxRecDepth 100000 in
theorem ulaw_697b : wp scr n mb_law 697 [some (.retAddr a), l1, l2, l3] st M Q ↔ wp scr n mb_law 698 [some (.retAddr a), l1, l2, l3] (.retAddr a :: st) M Q := wp_step rfl rfl rfl rfl rfl
set_option maxRecDepth 100000 in
theorem ulaw_698 : wp scr n mb_law 698 [l0, l1, l2, some (.int x)] st M Q ↔ wp scr n mb_law 699 [l0, l1, l2, some (.int x)] (.int x :: st) M Q := wp_step rfl rfl rfl rfl rfl
set_option maxRecDepth 100000 in
theorem ulaw_699 : wp scr n mb_law 699 L st M Q ↔ wp scr n mb_law 700 L (.int 2 :: st) M Q := wp_step rfl rfl rfl rfl rfl
set_option maxRecDepth 100000 in
theorem ulaw_700 : wp scr n mb_law 700 L (.int y :: .int x :: st) M Q ↔ wp scr n mb_law 701 L (.int (x + y) :: st) M Q := wp_step rfl rfl rfl rfl rfl
set_option maxRecDepth 100000 in
theorem ulaw_701 : wp scr n mb_law 701 L (.int y :: o :: st) M Q ↔ mw_o (mm_ld (mc_X scr) M o y) (fun x => wp scr n mb_law 702 L (.int x :: st) M Q) := wp_iald rfl
set_option maxRecDepth 100000 in
theorem ulaw_702 : wp scr n mb_law 702 L (a3 :: a2 :: .ref a :: st) M Q ↔ ((mw_r M a 6 ∧ mw_st st) ∧ Wp scr n 197 [.ref a, a2, a3] M (fun r1 M1 => wp scr n mb_law 705 L (r1.toList ++ st) M1 Q)) := wp_vir rfl rfl rfl rfl rfl
set_option maxRecDepth 100000 in
theorem ulaw_705 : wp scr n mb_law 705 L (.int y :: .int x :: st) M Q ↔ (if x = y then wp scr n mb_law 1084 L st M Q else wp scr n mb_law 708 L st M Q) := (wp_step rfl rfl rfl rfl rfl).trans wp_ite
set_option maxRecDepth 100000 in
theorem ulaw_708 : wp scr n mb_law 708 L st M Q ↔ wp scr n mb_law 709 L (.int 0 :: st) M Q := wp_step rfl rfl rfl rfl rfl
set_option maxRecDepth 100000 in
theorem ulaw_709 : wp scr n mb_law 709 L [.int x] M Q ↔ ((x = 0 ∨ x = 1) ∧ Q (some (.int x)) M) := wp_retb rfl rfl
set_option maxRecDepth 100000 in
theorem ulaw_710 : wp scr n mb_law 710 [l0, some (.ref a), l2, l3] st M Q ↔ wp scr n mb_law 711 [l0, some (.ref a), l2, l3] (.ref a :: st) M Q := wp_step rfl rfl rfl rfl rfl
set_option maxRecDepth 100000 in
theorem ulaw_710b : wp scr n mb_law 710 [l0, some (.retAddr a), l2, l3] st M Q ↔ wp scr n mb_law 711 [l0, some (.retAddr a), l2, l3] (.retAddr a :: st) M Q := wp_step rfl rfl rfl rfl rfl
set_option maxRecDepth 100000 in
theorem ulaw_711 : wp scr n mb_law 711 [some (.ref a), l1, l2, l3] st M Q ↔ wp scr n mb_law 712 [some (.ref a), l1, l2, l3] (.ref a :: st) M Q := wp_step rfl rfl rfl rfl rfl
set_option maxRecDepth 100000 in
theorem ulaw_711b : wp scr n mb_law 711 [some (.retAddr a), l1, l2, l3] st M Q ↔ wp scr n mb_law 712 [some (.retAddr a), l1, l2, l3] (.retAddr a :: st) M Q := wp_step rfl rfl rfl rfl rfl
set_option maxRecDepth 100000 in
theorem ulaw_712 : wp scr n mb_law 712 [l0, l1, l2, some (.int x)] st M Q ↔ wp scr n mb_law 713 [l0, l1, l2, some (.int x)] (.int x :: st) M Q := wp_step rfl rfl rfl rfl rfl
set_option maxRecDepth 100000 in
theorem ulaw_713 : wp scr n mb_law 713 L st M Q ↔ wp scr n mb_law 714 L (.int 1 :: st) M Q := wp_step rfl rfl rfl rfl rfl
set_option maxRecDepth 100000 in
theorem ulaw_714 : wp scr n mb_law 714 L (.int y :: .int x :: st) M Q ↔ wp scr n mb_law 715 L (.int (x + y) :: st) M Q := wp_step rfl rfl rfl rfl rfl
set_option maxRecDepth 100000 in
theorem ulaw_715 : wp scr n mb_law 715 L (.int y :: o :: st) M Q ↔ mw_o (mm_ld (mc_X scr) M o y) (fun x => wp scr n mb_law 716 L (.int x :: st) M Q) := wp_iald rfl
set_option maxRecDepth 100000 in
theorem ulaw_716 : wp scr n mb_law 716 [some (.ref a), l1, l2, l3] st M Q ↔ wp scr n mb_law 717 [some (.ref a), l1, l2, l3] (.ref a :: st) M Q := wp_step rfl rfl rfl rfl rfl
set_option maxRecDepth 100000 in
theorem ulaw_716b : wp scr n mb_law 716 [some (.retAddr a), l1, l2, l3] st M Q ↔ wp scr n mb_law 717 [some (.retAddr a), l1, l2, l3] (.retAddr a :: st) M Q := wp_step rfl rfl rfl rfl rfl
set_option maxRecDepth 100000 in
theorem ulaw_717 : wp scr n mb_law 717 [l0, l1, l2, some (.int x)] st M Q ↔ wp scr n mb_law 718 [l0, l1, l2, some (.int x)] (.int x :: st) M Q := wp_step rfl rfl rfl rfl rfl
set_option maxRecDepth 100000 in
theorem ulaw_718 : wp scr n mb_law 718 L st M Q ↔ wp scr n mb_law 719 L (.int 2 :: st) M Q := wp_step rfl rfl rfl rfl rfl
set_option maxRecDepth 100000 in
theorem ulaw_719 : wp scr n mb_law 719 L (.int y :: .int x :: st) M Q ↔ wp scr n mb_law 720 L (.int (x + y) :: st) M Q := wp_step rfl rfl rfl rfl rfl
set_option maxRecDepth 100000 in
theorem ulaw_720 : wp scr n mb_law 720 L (.int y :: o :: st) M Q ↔ mw_o (mm_ld (mc_X scr) M o y) (fun x => wp scr n mb_law 721 L (.int x :: st) M Q) := wp_iald rfl
set_option maxRecDepth 100000 in
theorem ulaw_721 : wp scr n mb_law 721 L (a3 :: a2 :: .ref a :: st) M Q ↔ ((mw_r M a 5 ∧ mw_st st) ∧ Wp scr n 113 [.ref a, a2, a3] M (fun r1 M1 => wp scr n mb_law 724 L (r1.toList ++ st) M1 Q)) := wp_vir rfl rfl rfl rfl rfl
set_option maxRecDepth 100000 in
theorem ulaw_724 : wp scr n mb_law 724 [l0, l1, some (.ref a), l3] st M Q ↔ wp scr n mb_law 725 [l0, l1, some (.ref a), l3] (.ref a :: st) M Q := wp_step rfl rfl rfl rfl rfl
set_option maxRecDepth 100000 in
theorem ulaw_724b : wp scr n mb_law 724 [l0, l1, some (.retAddr a), l3] st M Q ↔ wp scr n mb_law 725 [l0, l1, some (.retAddr a), l3] (.retAddr a :: st) M Q := wp_step rfl rfl rfl rfl rfl
set_option maxRecDepth 100000 in
theorem ulaw_725 : wp scr n mb_law 725 [some (.ref a), l1, l2, l3] st M Q ↔ wp scr n mb_law 726 [some (.ref a), l1, l2, l3] (.ref a :: st) M Q := wp_step rfl rfl rfl rfl rfl
set_option maxRecDepth 100000 in
theorem ulaw_725b : wp scr n mb_law 725 [some (.retAddr a), l1, l2, l3] st M Q ↔ wp scr n mb_law 726 [some (.retAddr a), l1, l2, l3] (.retAddr a :: st) M Q := wp_step rfl rfl rfl rfl rfl
set_option maxRecDepth 100000 in
theorem ulaw_726 : wp scr n mb_law 726 [l0, l1, l2, some (.int x)] st M Q ↔ wp scr n mb_law 727 [l0, l1, l2, some (.int x)] (.int x :: st) M Q := wp_step rfl rfl rfl rfl rfl
set_option maxRecDepth 100000 in
theorem ulaw_727 : wp scr n mb_law 727 L st M Q ↔ wp scr n mb_law 728 L (.int 1 :: st) M Q := wp_step rfl rfl rfl rfl rfl
set_option maxRecDepth 100000 in
theorem ulaw_728 : wp scr n mb_law 728 L (.int y :: .int x :: st) M Q ↔ wp scr n mb_law 729 L (.int (x + y) :: st) M Q := wp_step rfl rfl rfl rfl rfl
set_option maxRecDepth 100000 in
theorem ulaw_729 : wp scr n mb_law 729 L (.int y :: o :: st) M Q ↔ mw_o (mm_ld (mc_X scr) M o y) (fun x => wp scr n mb_law 730 L (.int x :: st) M Q) := wp_iald rfl
set_option maxRecDepth 100000 in
theorem ulaw_730 : wp scr n mb_law 730 [some (.ref a), l1, l2, l3] st M Q ↔ wp scr n mb_law 731 [some (.ref a), l1, l2, l3] (.ref a :: st) M Q := wp_step rfl rfl rfl rfl rfl
set_option maxRecDepth 100000 in
theorem ulaw_730b : wp scr n mb_law 730 [some (.retAddr a), l1, l2, l3] st M Q ↔ wp scr n mb_law 731 [some (.retAddr a), l1, l2, l3] (.retAddr a :: st) M Q := wp_step rfl rfl rfl rfl rfl
set_option maxRecDepth 100000 in
theorem ulaw_731 : wp scr n mb_law 731 [l0, l1, l2, some (.int x)] st M Q ↔ wp scr n mb_law 732 [l0, l1, l2, some (.int x)] (.int x :: st) M Q := wp_step rfl rfl rfl rfl rfl
set_option maxRecDepth 100000 in
theorem ulaw_732 : wp scr n mb_law 732 L st M Q ↔ wp scr n mb_law 733 L (.int 2 :: st) M Q := wp_step rfl rfl rfl rfl rfl
set_option maxRecDepth 100000 in
theorem ulaw_733 : wp scr n mb_law 733 L (.int y :: .int x :: st) M Q ↔ wp scr n mb_law 734 L (.int (x + y) :: st) M Q := wp_step rfl rfl rfl rfl rfl
set_option maxRecDepth 100000 in
theorem ulaw_734 : wp scr n mb_law 734 L (.int y :: o :: st) M Q ↔ mw_o (mm_ld (mc_X scr) M o y) (fun x => wp scr n mb_law 735 L (.int x :: st) M Q) := wp_iald rfl
set_option maxRecDepth 100000 in
theorem ulaw_735 : wp scr n mb_law 735 L (a3 :: a2 :: .ref a :: st) M Q ↔ ((mw_r M a 6 ∧ mw_st st) ∧ Wp scr n 201 [.ref a, a2, a3] M (fun r1 M1 => wp scr n mb_law 738 L (r1.toList ++ st) M1 Q)) := wp_vir rfl rfl rfl rfl rfl
set_option maxRecDepth 100000 in
theorem ulaw_738 : wp scr n mb_law 738 L (.int y :: .int x :: st) M Q ↔ (if x = y then wp scr n mb_law 1084 L st M Q else wp scr n mb_law 741 L st M Q) := (wp_step rfl rfl rfl rfl rfl).trans wp_ite
set_option maxRecDepth 100000 in
theorem ulaw_741 : wp scr n mb_law 741 L st M Q ↔ wp scr n mb_law 742 L (.int 0 :: st) M Q := wp_step rfl rfl rfl rfl rfl
set_option maxRecDepth 100000 in
theorem ulaw_742 : wp scr n mb_law 742 L [.int x] M Q ↔ ((x = 0 ∨ x = 1) ∧ Q (some (.int x)) M) := wp_retb rfl rfl
set_option maxRecDepth 100000 in
theorem ulaw_743 : wp scr n mb_law 743 [l0, some (.ref a), l2, l3] st M Q ↔ wp scr n mb_law 744 [l0, some (.ref a), l2, l3] (.ref a :: st) M Q := wp_step rfl rfl rfl rfl rfl
set_option maxRecDepth 100000 in
theorem ulaw_743b : wp scr n mb_law 743 [l0, some (.retAddr a), l2, l3] st M Q ↔ wp scr n mb_law 744 [l0, some (.retAddr a), l2, l3] (.retAddr a :: st) M Q := wp_step rfl rfl rfl rfl rfl
set_option maxRecDepth 100000 in
theorem ulaw_744 : wp scr n mb_law 744 [some (.ref a), l1, l2, l3] st M Q ↔ wp scr n mb_law 745 [some (.ref a), l1, l2, l3] (.ref a :: st) M Q := wp_step rfl rfl rfl rfl rfl
set_option maxRecDepth 100000 in
theorem ulaw_744b : wp scr n mb_law 744 [some (.retAddr a), l1, l2, l3] st M Q ↔ wp scr n mb_law 745 [some (.retAddr a), l1, l2, l3] (.retAddr a :: st) M Q := wp_step rfl rfl rfl rfl rfl
set_option maxRecDepth 100000 in
theorem ulaw_745 : wp scr n mb_law 745 [l0, l1, l2, some (.int x)] st M Q ↔ wp scr n mb_law 746 [l0, l1, l2, some (.int x)] (.int x :: st) M Q := wp_step rfl rfl rfl rfl rfl
set_option maxRecDepth 100000 in
theorem ulaw_746 : wp scr n mb_law 746 L st M Q ↔ wp scr n mb_law 747 L (.int 1 :: st) M Q := wp_step rfl rfl rfl rfl rfl
set_option maxRecDepth 100000 in
theorem ulaw_747 : wp scr n mb_law 747 L (.int y :: .int x :: st) M Q ↔ wp scr n mb_law 748 L (.int (x + y) :: st) M Q := wp_step rfl rfl rfl rfl rfl
set_option maxRecDepth 100000 in
theorem ulaw_748 : wp scr n mb_law 748 L (.int y :: o :: st) M Q ↔ mw_o (mm_ld (mc_X scr) M o y) (fun x => wp scr n mb_law 749 L (.int x :: st) M Q) := wp_iald rfl
set_option maxRecDepth 100000 in
theorem ulaw_749 : wp scr n mb_law 749 [some (.ref a), l1, l2, l3] st M Q ↔ wp scr n mb_law 750 [some (.ref a), l1, l2, l3] (.ref a :: st) M Q := wp_step rfl rfl rfl rfl rfl
set_option maxRecDepth 100000 in
theorem ulaw_749b : wp scr n mb_law 749 [some (.retAddr a), l1, l2, l3] st M Q ↔ wp scr n mb_law 750 [some (.retAddr a), l1, l2, l3] (.retAddr a :: st) M Q := wp_step rfl rfl rfl rfl rfl
set_option maxRecDepth 100000 in
theorem ulaw_750 : wp scr n mb_law 750 [l0, l1, l2, some (.int x)] st M Q ↔ wp scr n mb_law 751 [l0, l1, l2, some (.int x)] (.int x :: st) M Q := wp_step rfl rfl rfl rfl rfl
set_option maxRecDepth 100000 in
theorem ulaw_751 : wp scr n mb_law 751 L st M Q ↔ wp scr n mb_law 752 L (.int 2 :: st) M Q := wp_step rfl rfl rfl rfl rfl
set_option maxRecDepth 100000 in
theorem ulaw_752 : wp scr n mb_law 752 L (.int y :: .int x :: st) M Q ↔ wp scr n mb_law 753 L (.int (x + y) :: st) M Q := wp_step rfl rfl rfl rfl rfl
set_option maxRecDepth 100000 in
theorem ulaw_753 : wp scr n mb_law 753 L (.int y :: o :: st) M Q ↔ mw_o (mm_ld (mc_X scr) M o y) (fun x => wp scr n mb_law 754 L (.int x :: st) M Q) := wp_iald rfl
set_option maxRecDepth 100000 in
theorem ulaw_754 : wp scr n mb_law 754 [some (.ref a), l1, l2, l3] st M Q ↔ wp scr n mb_law 755 [some (.ref a), l1, l2, l3] (.ref a :: st) M Q := wp_step rfl rfl rfl rfl rfl
set_option maxRecDepth 100000 in
theorem ulaw_754b : wp scr n mb_law 754 [some (.retAddr a), l1, l2, l3] st M Q ↔ wp scr n mb_law 755 [some (.retAddr a), l1, l2, l3] (.retAddr a :: st) M Q := wp_step rfl rfl rfl rfl rfl
set_option maxRecDepth 100000 in
theorem ulaw_755 : wp scr n mb_law 755 [l0, l1, l2, some (.int x)] st M Q ↔ wp scr n mb_law 756 [l0, l1, l2, some (.int x)] (.int x :: st) M Q := wp_step rfl rfl rfl rfl rfl
set_option maxRecDepth 100000 in
theorem ulaw_756 : wp scr n mb_law 756 L st M Q ↔ wp scr n mb_law 757 L (.int 3 :: st) M Q := wp_step rfl rfl rfl rfl rfl
set_option maxRecDepth 100000 in
theorem ulaw_757 : wp scr n mb_law 757 L (.int y :: .int x :: st) M Q ↔ wp scr n mb_law 758 L (.int (x + y) :: st) M Q := wp_step rfl rfl rfl rfl rfl
set_option maxRecDepth 100000 in
theorem ulaw_758 : wp scr n mb_law 758 L (.int y :: o :: st) M Q ↔ mw_o (mm_ld (mc_X scr) M o y) (fun x => wp scr n mb_law 759 L (.int x :: st) M Q) := wp_iald rfl
set_option maxRecDepth 100000 in
theorem ulaw_759 : wp scr n mb_law 759 [some (.ref a), l1, l2, l3] st M Q ↔ wp scr n mb_law 760 [some (.ref a), l1, l2, l3] (.ref a :: st) M Q := wp_step rfl rfl rfl rfl rfl
set_option maxRecDepth 100000 in
theorem ulaw_759b : wp scr n mb_law 759 [some (.retAddr a), l1, l2, l3] st M Q ↔ wp scr n mb_law 760 [some (.retAddr a), l1, l2, l3] (.retAddr a :: st) M Q := wp_step rfl rfl rfl rfl rfl
set_option maxRecDepth 100000 in
theorem ulaw_760 : wp scr n mb_law 760 [l0, l1, l2, some (.int x)] st M Q ↔ wp scr n mb_law 761 [l0, l1, l2, some (.int x)] (.int x :: st) M Q := wp_step rfl rfl rfl rfl rfl
set_option maxRecDepth 100000 in
theorem ulaw_761 : wp scr n mb_law 761 L st M Q ↔ wp scr n mb_law 762 L (.int 4 :: st) M Q := wp_step rfl rfl rfl rfl rfl
set_option maxRecDepth 100000 in
theorem ulaw_762 : wp scr n mb_law 762 L (.int y :: .int x :: st) M Q ↔ wp scr n mb_law 763 L (.int (x + y) :: st) M Q := wp_step rfl rfl rfl rfl rfl
set_option maxRecDepth 100000 in
theorem ulaw_763 : wp scr n mb_law 763 L (.int y :: o :: st) M Q ↔ mw_o (mm_ld (mc_X scr) M o y) (fun x => wp scr n mb_law 764 L (.int x :: st) M Q) := wp_iald rfl
set_option maxRecDepth 100000 in
theorem ulaw_764 : wp scr n mb_law 764 L (a5 :: a4 :: a3 :: a2 :: .ref a :: st) M Q ↔ ((mw_r M a 5 ∧ mw_st st) ∧ Wp scr n 114 [.ref a, a2, a3, a4, a5] M (fun r1 M1 => wp scr n mb_law 767 L (r1.toList ++ st) M1 Q)) := wp_vir rfl rfl rfl rfl rfl
set_option maxRecDepth 100000 in
theorem ulaw_767 : wp scr n mb_law 767 [l0, l1, some (.ref a), l3] st M Q ↔ wp scr n mb_law 768 [l0, l1, some (.ref a), l3] (.ref a :: st) M Q := wp_step rfl rfl rfl rfl rfl
set_option maxRecDepth 100000 in
theorem ulaw_767b : wp scr n mb_law 767 [l0, l1, some (.retAddr a), l3] st M Q ↔ wp scr n mb_law 768 [l0, l1, some (.retAddr a), l3] (.retAddr a :: st) M Q := wp_step rfl rfl rfl rfl rfl
set_option maxRecDepth 100000 in
theorem ulaw_768 : wp scr n mb_law 768 [some (.ref a), l1, l2, l3] st M Q ↔ wp scr n mb_law 769 [some (.ref a), l1, l2, l3] (.ref a :: st) M Q := wp_step rfl rfl rfl rfl rfl
set_option maxRecDepth 100000 in
theorem ulaw_768b : wp scr n mb_law 768 [some (.retAddr a), l1, l2, l3] st M Q ↔ wp scr n mb_law 769 [some (.retAddr a), l1, l2, l3] (.retAddr a :: st) M Q := wp_step rfl rfl rfl rfl rfl
set_option maxRecDepth 100000 in
theorem ulaw_769 : wp scr n mb_law 769 [l0, l1, l2, some (.int x)] st M Q ↔ wp scr n mb_law 770 [l0, l1, l2, some (.int x)] (.int x :: st) M Q := wp_step rfl rfl rfl rfl rfl
set_option maxRecDepth 100000 in
theorem ulaw_770 : wp scr n mb_law 770 L st M Q ↔ wp scr n mb_law 771 L (.int 1 :: st) M Q := wp_step rfl rfl rfl rfl rfl
set_option maxRecDepth 100000 in
theorem ulaw_771 : wp scr n mb_law 771 L (.int y :: .int x :: st) M Q ↔ wp scr n mb_law 772 L (.int (x + y) :: st) M Q := wp_step rfl rfl rfl rfl rfl
set_option maxRecDepth 100000 in
theorem ulaw_772 : wp scr n mb_law 772 L (.int y :: o :: st) M Q ↔ mw_o (mm_ld (mc_X scr) M o y) (fun x => wp scr n mb_law 773 L (.int x :: st) M Q) := wp_iald rfl
set_option maxRecDepth 100000 in
theorem ulaw_773 : wp scr n mb_law 773 [some (.ref a), l1, l2, l3] st M Q ↔ wp scr n mb_law 774 [some (.ref a), l1, l2, l3] (.ref a :: st) M Q := wp_step rfl rfl rfl rfl rfl
set_option maxRecDepth 100000 in
theorem ulaw_773b : wp scr n mb_law 773 [some (.retAddr a), l1, l2, l3] st M Q ↔ wp scr n mb_law 774 [some (.retAddr a), l1, l2, l3] (.retAddr a :: st) M Q := wp_step rfl rfl rfl rfl rfl
set_option maxRecDepth 100000 in
theorem ulaw_774 : wp scr n mb_law 774 [l0, l1, l2, some (.int x)] st M Q ↔ wp scr n mb_law 775 [l0, l1, l2, some (.int x)] (.int x :: st) M Q := wp_step rfl rfl rfl rfl rfl
set_option maxRecDepth 100000 in
theorem ulaw_775 : wp scr n mb_law 775 L st M Q ↔ wp scr n mb_law 776 L (.int 2 :: st) M Q := wp_step rfl rfl rfl rfl rfl
set_option maxRecDepth 100000 in
theorem ulaw_776 : wp scr n mb_law 776 L (.int y :: .int x :: st) M Q ↔ wp scr n mb_law 777 L (.int (x + y) :: st) M Q := wp_step rfl rfl rfl rfl rfl
set_option maxRecDepth 100000 in
theorem ulaw_777 : wp scr n mb_law 777 L (.int y :: o :: st) M Q ↔ mw_o (mm_ld (mc_X scr) M o y) (fun x => wp scr n mb_law 778 L (.int x :: st) M Q) := wp_iald rfl
set_option maxRecDepth 100000 in
theorem ulaw_778 : wp scr n mb_law 778 [some (.ref a), l1, l2, l3] st M Q ↔ wp scr n mb_law 779 [some (.ref a), l1, l2, l3] (.ref a :: st) M Q := wp_step rfl rfl rfl rfl rfl
set_option maxRecDepth 100000 in
theorem ulaw_778b : wp scr n mb_law 778 [some (.retAddr a), l1, l2, l3] st M Q ↔ wp scr n mb_law 779 [some (.retAddr a), l1, l2, l3] (.retAddr a :: st) M Q := wp_step rfl rfl rfl rfl rfl
set_option maxRecDepth 100000 in
theorem ulaw_779 : wp scr n mb_law 779 [l0, l1, l2, some (.int x)] st M Q ↔ wp scr n mb_law 780 [l0, l1, l2, some (.int x)] (.int x :: st) M Q := wp_step rfl rfl rfl rfl rfl
set_option maxRecDepth 100000 in
theorem ulaw_780 : wp scr n mb_law 780 L st M Q ↔ wp scr n mb_law 781 L (.int 3 :: st) M Q := wp_step rfl rfl rfl rfl rfl
set_option maxRecDepth 100000 in
theorem ulaw_781 : wp scr n mb_law 781 L (.int y :: .int x :: st) M Q ↔ wp scr n mb_law 782 L (.int (x + y) :: st) M Q := wp_step rfl rfl rfl rfl rfl
set_option maxRecDepth 100000 in
theorem ulaw_782 : wp scr n mb_law 782 L (.int y :: o :: st) M Q ↔ mw_o (mm_ld (mc_X scr) M o y) (fun x => wp scr n mb_law 783 L (.int x :: st) M Q) := wp_iald rfl
set_option maxRecDepth 100000 in
theorem ulaw_783 : wp scr n mb_law 783 [some (.ref a), l1, l2, l3] st M Q ↔ wp scr n mb_law 784 [some (.ref a), l1, l2, l3] (.ref a :: st) M Q := wp_step rfl rfl rfl rfl rfl
set_option maxRecDepth 100000 in
theorem ulaw_783b : wp scr n mb_law 783 [some (.retAddr a), l1, l2, l3] st M Q ↔ wp scr n mb_law 784 [some (.retAddr a), l1, l2, l3] (.retAddr a :: st) M Q := wp_step rfl rfl rfl rfl rfl
set_option maxRecDepth 100000 in
theorem ulaw_784 : wp scr n mb_law 784 [l0, l1, l2, some (.int x)] st M Q ↔ wp scr n mb_law 785 [l0, l1, l2, some (.int x)] (.int x :: st) M Q := wp_step rfl rfl rfl rfl rfl
set_option maxRecDepth 100000 in
theorem ulaw_785 : wp scr n mb_law 785 L st M Q ↔ wp scr n mb_law 786 L (.int 4 :: st) M Q := wp_step rfl rfl rfl rfl rfl
set_option maxRecDepth 100000 in
theorem ulaw_786 : wp scr n mb_law 786 L (.int y :: .int x :: st) M Q ↔ wp scr n mb_law 787 L (.int (x + y) :: st) M Q := wp_step rfl rfl rfl rfl rfl
set_option maxRecDepth 100000 in
theorem ulaw_787 : wp scr n mb_law 787 L (.int y :: o :: st) M Q ↔ mw_o (mm_ld (mc_X scr) M o y) (fun x => wp scr n mb_law 788 L (.int x :: st) M Q) := wp_iald rfl
set_option maxRecDepth 100000 in
theorem ulaw_788 : wp scr n mb_law 788 L (a5 :: a4 :: a3 :: a2 :: .ref a :: st) M Q ↔ ((mw_r M a 6 ∧ mw_st st) ∧ Wp scr n 202 [.ref a, a2, a3, a4, a5] M (fun r1 M1 => wp scr n mb_law 791 L (r1.toList ++ st) M1 Q)) := wp_vir rfl rfl rfl rfl rfl
set_option maxRecDepth 100000 in
theorem ulaw_791 : wp scr n mb_law 791 L (.int y :: .int x :: st) M Q ↔ (if x = y then wp scr n mb_law 1084 L st M Q else wp scr n mb_law 794 L st M Q) := (wp_step rfl rfl rfl rfl rfl).trans wp_ite
set_option maxRecDepth 100000 in
theorem ulaw_794 : wp scr n mb_law 794 L st M Q ↔ wp scr n mb_law 795 L (.int 0 :: st) M Q := wp_step rfl rfl rfl rfl rfl
set_option maxRecDepth 100000 in
theorem ulaw_795 : wp scr n mb_law 795 L [.int x] M Q ↔ ((x = 0 ∨ x = 1) ∧ Q (some (.int x)) M) := wp_retb rfl rfl
set_option maxRecDepth 100000 in
theorem ulaw_796 : wp scr n mb_law 796 [l0, some (.ref a), l2, l3] st M Q ↔ wp scr n mb_law 797 [l0, some (.ref a), l2, l3] (.ref a :: st) M Q := wp_step rfl rfl rfl rfl rfl
set_option maxRecDepth 100000 in
theorem ulaw_796b : wp scr n mb_law 796 [l0, some (.retAddr a), l2, l3] st M Q ↔ wp scr n mb_law 797 [l0, some (.retAddr a), l2, l3] (.retAddr a :: st) M Q := wp_step rfl rfl rfl rfl rfl
set_option maxRecDepth 100000 in
theorem ulaw_797 : wp scr n mb_law 797 [some (.ref a), l1, l2, l3] st M Q ↔ wp scr n mb_law 798 [some (.ref a), l1, l2, l3] (.ref a :: st) M Q := wp_step rfl rfl rfl rfl rfl
set_option maxRecDepth 100000 in
theorem ulaw_797b : wp scr n mb_law 797 [some (.retAddr a), l1, l2, l3] st M Q ↔ wp scr n mb_law 798 [some (.retAddr a), l1, l2, l3] (.retAddr a :: st) M Q := wp_step rfl rfl rfl rfl rfl
set_option maxRecDepth 100000 in
theorem ulaw_798 : wp scr n mb_law 798 [l0, l1, l2, some (.int x)] st M Q ↔ wp scr n mb_law 799 [l0, l1, l2, some (.int x)] (.int x :: st) M Q := wp_step rfl rfl rfl rfl rfl
set_option maxRecDepth 100000 in
theorem ulaw_799 : wp scr n mb_law 799 L st M Q ↔ wp scr n mb_law 800 L (.int 1 :: st) M Q := wp_step rfl rfl rfl rfl rfl
set_option maxRecDepth 100000 in
theorem ulaw_800 : wp scr n mb_law 800 L (.int y :: .int x :: st) M Q ↔ wp scr n mb_law 801 L (.int (x + y) :: st) M Q := wp_step rfl rfl rfl rfl rfl
set_option maxRecDepth 100000 in
theorem ulaw_801 : wp scr n mb_law 801 L (.int y :: o :: st) M Q ↔ mw_o (mm_ld (mc_X scr) M o y) (fun x => wp scr n mb_law 802 L (.int x :: st) M Q) := wp_iald rfl
set_option maxRecDepth 100000 in
theorem ulaw_802 : wp scr n mb_law 802 [some (.ref a), l1, l2, l3] st M Q ↔ wp scr n mb_law 803 [some (.ref a), l1, l2, l3] (.ref a :: st) M Q := wp_step rfl rfl rfl rfl rfl
set_option maxRecDepth 100000 in
theorem ulaw_802b : wp scr n mb_law 802 [some (.retAddr a), l1, l2, l3] st M Q ↔ wp scr n mb_law 803 [some (.retAddr a), l1, l2, l3] (.retAddr a :: st) M Q := wp_step rfl rfl rfl rfl rfl
set_option maxRecDepth 100000 in
theorem ulaw_803 : wp scr n mb_law 803 [l0, l1, l2, some (.int x)] st M Q ↔ wp scr n mb_law 804 [l0, l1, l2, some (.int x)] (.int x :: st) M Q := wp_step rfl rfl rfl rfl rfl
set_option maxRecDepth 100000 in
theorem ulaw_804 : wp scr n mb_law 804 L st M Q ↔ wp scr n mb_law 805 L (.int 2 :: st) M Q := wp_step rfl rfl rfl rfl rfl
set_option maxRecDepth 100000 in
theorem ulaw_805 : wp scr n mb_law 805 L (.int y :: .int x :: st) M Q ↔ wp scr n mb_law 806 L (.int (x + y) :: st) M Q := wp_step rfl rfl rfl rfl rfl
set_option maxRecDepth 100000 in
theorem ulaw_806 : wp scr n mb_law 806 L (.int y :: o :: st) M Q ↔ mw_o (mm_ld (mc_X scr) M o y) (fun x => wp scr n mb_law 807 L (.int x :: st) M Q) := wp_iald rfl
set_option maxRecDepth 100000 in
theorem ulaw_807 : wp scr n mb_law 807 L (a3 :: a2 :: .ref a :: st) M Q ↔ ((mw_r M a 5 ∧ mw_st st) ∧ Wp scr n 117 [.ref a, a2, a3] M (fun r1 M1 => wp scr n mb_law 810 L (r1.toList ++ st) M1 Q)) := wp_vir rfl rfl rfl rfl rfl
set_option maxRecDepth 100000 in
theorem ulaw_810 : wp scr n mb_law 810 [l0, l1, some (.ref a), l3] st M Q ↔ wp scr n mb_law 811 [l0, l1, some (.ref a), l3] (.ref a :: st) M Q := wp_step rfl rfl rfl rfl rfl
set_option maxRecDepth 100000 in
theorem ulaw_810b : wp scr n mb_law 810 [l0, l1, some (.retAddr a), l3] st M Q ↔ wp scr n mb_law 811 [l0, l1, some (.retAddr a), l3] (.retAddr a :: st) M Q := wp_step rfl rfl rfl rfl rfl
set_option maxRecDepth 100000 in
theorem ulaw_811 : wp scr n mb_law 811 [some (.ref a), l1, l2, l3] st M Q ↔ wp scr n mb_law 812 [some (.ref a), l1, l2, l3] (.ref a :: st) M Q := wp_step rfl rfl rfl rfl rfl
set_option maxRecDepth 100000 in
theorem ulaw_811b : wp scr n mb_law 811 [some (.retAddr a), l1, l2, l3] st M Q ↔ wp scr n mb_law 812 [some (.retAddr a), l1, l2, l3] (.retAddr a :: st) M Q := wp_step rfl rfl rfl rfl rfl
set_option maxRecDepth 100000 in
theorem ulaw_812 : wp scr n mb_law 812 [l0, l1, l2, some (.int x)] st M Q ↔ wp scr n mb_law 813 [l0, l1, l2, some (.int x)] (.int x :: st) M Q := wp_step rfl rfl rfl rfl rfl
set_option maxRecDepth 100000 in
theorem ulaw_813 : wp scr n mb_law 813 L st M Q ↔ wp scr n mb_law 814 L (.int 1 :: st) M Q := wp_step rfl rfl rfl rfl rfl
set_option maxRecDepth 100000 in
theorem ulaw_814 : wp scr n mb_law 814 L (.int y :: .int x :: st) M Q ↔ wp scr n mb_law 815 L (.int (x + y) :: st) M Q := wp_step rfl rfl rfl rfl rfl
set_option maxRecDepth 100000 in
theorem ulaw_815 : wp scr n mb_law 815 L (.int y :: o :: st) M Q ↔ mw_o (mm_ld (mc_X scr) M o y) (fun x => wp scr n mb_law 816 L (.int x :: st) M Q) := wp_iald rfl
set_option maxRecDepth 100000 in
theorem ulaw_816 : wp scr n mb_law 816 [some (.ref a), l1, l2, l3] st M Q ↔ wp scr n mb_law 817 [some (.ref a), l1, l2, l3] (.ref a :: st) M Q := wp_step rfl rfl rfl rfl rfl
set_option maxRecDepth 100000 in
theorem ulaw_816b : wp scr n mb_law 816 [some (.retAddr a), l1, l2, l3] st M Q ↔ wp scr n mb_law 817 [some (.retAddr a), l1, l2, l3] (.retAddr a :: st) M Q := wp_step rfl rfl rfl rfl rfl
set_option maxRecDepth 100000 in
theorem ulaw_817 : wp scr n mb_law 817 [l0, l1, l2, some (.int x)] st M Q ↔ wp scr n mb_law 818 [l0, l1, l2, some (.int x)] (.int x :: st) M Q := wp_step rfl rfl rfl rfl rfl
set_option maxRecDepth 100000 in
theorem ulaw_818 : wp scr n mb_law 818 L st M Q ↔ wp scr n mb_law 819 L (.int 2 :: st) M Q := wp_step rfl rfl rfl rfl rfl
set_option maxRecDepth 100000 in
theorem ulaw_819 : wp scr n mb_law 819 L (.int y :: .int x :: st) M Q ↔ wp scr n mb_law 820 L (.int (x + y) :: st) M Q := wp_step rfl rfl rfl rfl rfl
set_option maxRecDepth 100000 in
theorem ulaw_820 : wp scr n mb_law 820 L (.int y :: o :: st) M Q ↔ mw_o (mm_ld (mc_X scr) M o y) (fun x => wp scr n mb_law 821 L (.int x :: st) M Q) := wp_iald rfl
set_option maxRecDepth 100000 in
theorem ulaw_821 : wp scr n mb_law 821 L (a3 :: a2 :: .ref a :: st) M Q ↔ ((mw_r M a 6 ∧ mw_st st) ∧ Wp scr n 204 [.ref a, a2, a3] M (fun r1 M1 => wp scr n mb_law 824 L (r1.toList ++ st) M1 Q)) := wp_vir rfl rfl rfl rfl rfl
set_option maxRecDepth 100000 in
theorem ulaw_824 : wp scr n mb_law 824 L (.int y :: .int x :: st) M Q ↔ (if x = y then wp scr n mb_law 1084 L st M Q else wp scr n mb_law 827 L st M Q) := (wp_step rfl rfl rfl rfl rfl).trans wp_ite
set_option maxRecDepth 100000 in
theorem ulaw_827 : wp scr n mb_law 827 L st M Q ↔ wp scr n mb_law 828 L (.int 0 :: st) M Q := wp_step rfl rfl rfl rfl rfl
set_option maxRecDepth 100000 in
theorem ulaw_828 : wp scr n mb_law 828 L [.int x] M Q ↔ ((x = 0 ∨ x = 1) ∧ Q (some (.int x)) M) := wp_retb rfl rfl
set_option maxRecDepth 100000 in
theorem ulaw_829 : wp scr n mb_law 829 [l0, some (.ref a), l2, l3] st M Q ↔ wp scr n mb_law 830 [l0, some (.ref a), l2, l3] (.ref a :: st) M Q := wp_step rfl rfl rfl rfl rfl
set_option maxRecDepth 100000 in
theorem ulaw_829b : wp scr n mb_law 829 [l0, some (.retAddr a), l2, l3] st M Q ↔ wp scr n mb_law 830 [l0, some (.retAddr a), l2, l3] (.retAddr a :: st) M Q := wp_step rfl rfl rfl rfl rfl
set_option maxRecDepth 100000 in
theorem ulaw_830 : wp scr n mb_law 830 [some (.ref a), l1, l2, l3] st M Q ↔ wp scr n mb_law 831 [some (.ref a), l1, l2, l3] (.ref a :: st) M Q := wp_step rfl rfl rfl rfl rfl
set_option maxRecDepth 100000 in
theorem ulaw_830b : wp scr n mb_law 830 [some (.retAddr a), l1, l2, l3] st M Q ↔ wp scr n mb_law 831 [some (.retAddr a), l1, l2, l3] (.retAddr a :: st) M Q := wp_step rfl rfl rfl rfl rfl
set_option maxRecDepth 100000 in
theorem ulaw_831 : wp scr n mb_law 831 [l0, l1, l2, some (.int x)] st M Q ↔ wp scr n mb_law 832 [l0, l1, l2, some (.int x)] (.int x :: st) M Q := wp_step rfl rfl rfl rfl rfl
set_option maxRecDepth 100000 in
theorem ulaw_832 : wp scr n mb_law 832 L st M Q ↔ wp scr n mb_law 833 L (.int 1 :: st) M Q := wp_step rfl rfl rfl rfl rfl
set_option maxRecDepth 100000 in
theorem ulaw_833 : wp scr n mb_law 833 L (.int y :: .int x :: st) M Q ↔ wp scr n mb_law 834 L (.int (x + y) :: st) M Q := wp_step rfl rfl rfl rfl rfl
set_option maxRecDepth 100000 in
theorem ulaw_834 : wp scr n mb_law 834 L (.int y :: o :: st) M Q ↔ mw_o (mm_ld (mc_X scr) M o y) (fun x => wp scr n mb_law 835 L (.int x :: st) M Q) := wp_iald rfl
set_option maxRecDepth 100000 in
theorem ulaw_835 : wp scr n mb_law 835 L (a2 :: .ref a :: st) M Q ↔ ((mw_r M a 5 ∧ mw_st st) ∧ Wp scr n 118 [.ref a, a2] M (fun r1 M1 => wp scr n mb_law 838 L (r1.toList ++ st) M1 Q)) := wp_vir rfl rfl rfl rfl rfl
set_option maxRecDepth 100000 in
theorem ulaw_838 : wp scr n mb_law 838 [l0, l1, some (.ref a), l3] st M Q ↔ wp scr n mb_law 839 [l0, l1, some (.ref a), l3] (.ref a :: st) M Q := wp_step rfl rfl rfl rfl rfl
set_option maxRecDepth 100000 in
theorem ulaw_838b : wp scr n mb_law 838 [l0, l1, some (.retAddr a), l3] st M Q ↔ wp scr n mb_law 839 [l0, l1, some (.retAddr a), l3] (.retAddr a :: st) M Q := wp_step rfl rfl rfl rfl rfl
set_option maxRecDepth 100000 in
theorem ulaw_839 : wp scr n mb_law 839 [some (.ref a), l1, l2, l3] st M Q ↔ wp scr n mb_law 840 [some (.ref a), l1, l2, l3] (.ref a :: st) M Q := wp_step rfl rfl rfl rfl rfl
set_option maxRecDepth 100000 in
theorem ulaw_839b : wp scr n mb_law 839 [some (.retAddr a), l1, l2, l3] st M Q ↔ wp scr n mb_law 840 [some (.retAddr a), l1, l2, l3] (.retAddr a :: st) M Q := wp_step rfl rfl rfl rfl rfl
set_option maxRecDepth 100000 in
theorem ulaw_840 : wp scr n mb_law 840 [l0, l1, l2, some (.int x)] st M Q ↔ wp scr n mb_law 841 [l0, l1, l2, some (.int x)] (.int x :: st) M Q := wp_step rfl rfl rfl rfl rfl
set_option maxRecDepth 100000 in
theorem ulaw_841 : wp scr n mb_law 841 L st M Q ↔ wp scr n mb_law 842 L (.int 1 :: st) M Q := wp_step rfl rfl rfl rfl rfl
set_option maxRecDepth 100000 in
theorem ulaw_842 : wp scr n mb_law 842 L (.int y :: .int x :: st) M Q ↔ wp scr n mb_law 843 L (.int (x + y) :: st) M Q := wp_step rfl rfl rfl rfl rfl
set_option maxRecDepth 100000 in
theorem ulaw_843 : wp scr n mb_law 843 L (.int y :: o :: st) M Q ↔ mw_o (mm_ld (mc_X scr) M o y) (fun x => wp scr n mb_law 844 L (.int x :: st) M Q) := wp_iald rfl
set_option maxRecDepth 100000 in
theorem ulaw_844 : wp scr n mb_law 844 L (a2 :: .ref a :: st) M Q ↔ ((mw_r M a 6 ∧ mw_st st) ∧ Wp scr n 205 [.ref a, a2] M (fun r1 M1 => wp scr n mb_law 847 L (r1.toList ++ st) M1 Q)) := wp_vir rfl rfl rfl rfl rfl
set_option maxRecDepth 100000 in
theorem ulaw_847 : wp scr n mb_law 847 L (.int y :: .int x :: st) M Q ↔ (if x = y then wp scr n mb_law 1084 L st M Q else wp scr n mb_law 850 L st M Q) := (wp_step rfl rfl rfl rfl rfl).trans wp_ite
set_option maxRecDepth 100000 in
theorem ulaw_850 : wp scr n mb_law 850 L st M Q ↔ wp scr n mb_law 851 L (.int 0 :: st) M Q := wp_step rfl rfl rfl rfl rfl
set_option maxRecDepth 100000 in
theorem ulaw_851 : wp scr n mb_law 851 L [.int x] M Q ↔ ((x = 0 ∨ x = 1) ∧ Q (some (.int x)) M) := wp_retb rfl rfl
set_option maxRecDepth 100000 in
theorem ulaw_852 : wp scr n mb_law 852 [l0, some (.ref a), l2, l3] st M Q ↔ wp scr n mb_law 853 [l0, some (.ref a), l2, l3] (.ref a :: st) M Q := wp_step rfl rfl rfl rfl rfl
set_option maxRecDepth 100000 in
theorem ulaw_852b : wp scr n mb_law 852 [l0, some (.retAddr a), l2, l3] st M Q ↔ wp scr n mb_law 853 [l0, some (.retAddr a), l2, l3] (.retAddr a :: st) M Q := wp_step rfl rfl rfl rfl rfl
set_option maxRecDepth 100000 in
theorem ulaw_853 : wp scr n mb_law 853 [some (.ref a), l1, l2, l3] st M Q ↔ wp scr n mb_law 854 [some (.ref a), l1, l2, l3] (.ref a :: st) M Q := wp_step rfl rfl rfl rfl rfl
set_option maxRecDepth 100000 in
theorem ulaw_853b : wp scr n mb_law 853 [some (.retAddr a), l1, l2, l3] st M Q ↔ wp scr n mb_law 854 [some (.retAddr a), l1, l2, l3] (.retAddr a :: st) M Q := wp_step rfl rfl rfl rfl rfl
set_option maxRecDepth 100000 in
theorem ulaw_854 : wp scr n mb_law 854 [l0, l1, l2, some (.int x)] st M Q ↔ wp scr n mb_law 855 [l0, l1, l2, some (.int x)] (.int x :: st) M Q := wp_step rfl rfl rfl rfl rfl
set_option maxRecDepth 100000 in
theorem ulaw_855 : wp scr n mb_law 855 L st M Q ↔ wp scr n mb_law 856 L (.int 1 :: st) M Q := wp_step rfl rfl rfl rfl rfl
set_option maxRecDepth 100000 in
theorem ulaw_856 : wp scr n mb_law 856 L (.int y :: .int x :: st) M Q ↔ wp scr n mb_law 857 L (.int (x + y) :: st) M Q := wp_step rfl rfl rfl rfl rfl
set_option maxRecDepth 100000 in
theorem ulaw_857 : wp scr n mb_law 857 L (.int y :: o :: st) M Q ↔ mw_o (mm_ld (mc_X scr) M o y) (fun x => wp scr n mb_law 858 L (.int x :: st) M Q) := wp_iald rfl
set_option maxRecDepth 100000 in
theorem ulaw_858 : wp scr n mb_law 858 [some (.ref a), l1, l2, l3] st M Q ↔ wp scr n mb_law 859 [some (.ref a), l1, l2, l3] (.ref a :: st) M Q := wp_step rfl rfl rfl rfl rfl
set_option maxRecDepth 100000 in
theorem ulaw_858b : wp scr n mb_law 858 [some (.retAddr a), l1, l2, l3] st M Q ↔ wp scr n mb_law 859 [some (.retAddr a), l1, l2, l3] (.retAddr a :: st) M Q := wp_step rfl rfl rfl rfl rfl
set_option maxRecDepth 100000 in
theorem ulaw_859 : wp scr n mb_law 859 [l0, l1, l2, some (.int x)] st M Q ↔ wp scr n mb_law 860 [l0, l1, l2, some (.int x)] (.int x :: st) M Q := wp_step rfl rfl rfl rfl rfl
set_option maxRecDepth 100000 in
theorem ulaw_860 : wp scr n mb_law 860 L st M Q ↔ wp scr n mb_law 861 L (.int 2 :: st) M Q := wp_step rfl rfl rfl rfl rfl
set_option maxRecDepth 100000 in
theorem ulaw_861 : wp scr n mb_law 861 L (.int y :: .int x :: st) M Q ↔ wp scr n mb_law 862 L (.int (x + y) :: st) M Q := wp_step rfl rfl rfl rfl rfl
set_option maxRecDepth 100000 in
theorem ulaw_862 : wp scr n mb_law 862 L (.int y :: o :: st) M Q ↔ mw_o (mm_ld (mc_X scr) M o y) (fun x => wp scr n mb_law 863 L (.int x :: st) M Q) := wp_iald rfl
set_option maxRecDepth 100000 in
theorem ulaw_863 : wp scr n mb_law 863 L (a3 :: a2 :: .ref a :: st) M Q ↔ ((mw_r M a 5 ∧ mw_st st) ∧ Wp scr n 119 [.ref a, a2, a3] M (fun r1 M1 => wp scr n mb_law 866 L (r1.toList ++ st) M1 Q)) := wp_vir rfl rfl rfl rfl rfl
set_option maxRecDepth 100000 in
theorem ulaw_866 : wp scr n mb_law 866 [l0, l1, some (.ref a), l3] st M Q ↔ wp scr n mb_law 867 [l0, l1, some (.ref a), l3] (.ref a :: st) M Q := wp_step rfl rfl rfl rfl rfl
set_option maxRecDepth 100000 in
theorem ulaw_866b : wp scr n mb_law 866 [l0, l1, some (.retAddr a), l3] st M Q ↔ wp scr n mb_law 867 [l0, l1, some (.retAddr a), l3] (.retAddr a :: st) M Q := wp_step rfl rfl rfl rfl rfl
set_option maxRecDepth 100000 in
theorem ulaw_867 : wp scr n mb_law 867 [some (.ref a), l1, l2, l3] st M Q ↔ wp scr n mb_law 868 [some (.ref a), l1, l2, l3] (.ref a :: st) M Q := wp_step rfl rfl rfl rfl rfl
set_option maxRecDepth 100000 in
theorem ulaw_867b : wp scr n mb_law 867 [some (.retAddr a), l1, l2, l3] st M Q ↔ wp scr n mb_law 868 [some (.retAddr a), l1, l2, l3] (.retAddr a :: st) M Q := wp_step rfl rfl rfl rfl rfl
set_option maxRecDepth 100000 in
theorem ulaw_868 : wp scr n mb_law 868 [l0, l1, l2, some (.int x)] st M Q ↔ wp scr n mb_law 869 [l0, l1, l2, some (.int x)] (.int x :: st) M Q := wp_step rfl rfl rfl rfl rfl
set_option maxRecDepth 100000 in
theorem ulaw_869 : wp scr n mb_law 869 L st M Q ↔ wp scr n mb_law 870 L (.int 1 :: st) M Q := wp_step rfl rfl rfl rfl rfl
set_option maxRecDepth 100000 in
theorem ulaw_870 : wp scr n mb_law 870 L (.int y :: .int x :: st) M Q ↔ wp scr n mb_law 871 L (.int (x + y) :: st) M Q := wp_step rfl rfl rfl rfl rfl
set_option maxRecDepth 100000 in
theorem ulaw_871 : wp scr n mb_law 871 L (.int y :: o :: st) M Q ↔ mw_o (mm_ld (mc_X scr) M o y) (fun x => wp scr n mb_law 872 L (.int x :: st) M Q) := wp_iald rfl
set_option maxRecDepth 100000 in
theorem ulaw_872 : wp scr n mb_law 872 [some (.ref a), l1, l2, l3] st M Q ↔ wp scr n mb_law 873 [some (.ref a), l1, l2, l3] (.ref a :: st) M Q := wp_step rfl rfl rfl rfl rfl
set_option maxRecDepth 100000 in
theorem ulaw_872b : wp scr n mb_law 872 [some (.retAddr a), l1, l2, l3] st M Q ↔ wp scr n mb_law 873 [some (.retAddr a), l1, l2, l3] (.retAddr a :: st) M Q := wp_step rfl rfl rfl rfl rfl
set_option maxRecDepth 100000 in
theorem ulaw_873 : wp scr n mb_law 873 [l0, l1, l2, some (.int x)] st M Q ↔ wp scr n mb_law 874 [l0, l1, l2, some (.int x)] (.int x :: st) M Q := wp_step rfl rfl rfl rfl rfl
set_option maxRecDepth 100000 in
theorem ulaw_874 : wp scr n mb_law 874 L st M Q ↔ wp scr n mb_law 875 L (.int 2 :: st) M Q := wp_step rfl rfl rfl rfl rfl
set_option maxRecDepth 100000 in
theorem ulaw_875 : wp scr n mb_law 875 L (.int y :: .int x :: st) M Q ↔ wp scr n mb_law 876 L (.int (x + y) :: st) M Q := wp_step rfl rfl rfl rfl rfl
set_option maxRecDepth 100000 in
theorem ulaw_876 : wp scr n mb_law 876 L (.int y :: o :: st) M Q ↔ mw_o (mm_ld (mc_X scr) M o y) (fun x => wp scr n mb_law 877 L (.int x :: st) M Q) := wp_iald rfl
set_option maxRecDepth 100000 in
theorem ulaw_877 : wp scr n mb_law 877 L (a3 :: a2 :: .ref a :: st) M Q ↔ ((mw_r M a 6 ∧ mw_st st) ∧ Wp scr n 206 [.ref a, a2, a3] M (fun r1 M1 => wp scr n mb_law 880 L (r1.toList ++ st) M1 Q)) := wp_vir rfl rfl rfl rfl rfl
set_option maxRecDepth 100000 in
theorem ulaw_880 : wp scr n mb_law 880 L (.long w :: .long z :: st) M Q ↔ wp scr n mb_law 881 L (.int (lg_cmp z w) :: st) M Q := wp_step rfl rfl rfl rfl rfl
set_option maxRecDepth 100000 in
theorem ulaw_881 : wp scr n mb_law 881 L (.int x :: st) M Q ↔ (if x = 0 then wp scr n mb_law 1084 L st M Q else wp scr n mb_law 884 L st M Q) := (wp_step rfl rfl rfl rfl rfl).trans wp_ite
set_option maxRecDepth 100000 in
theorem ulaw_884 : wp scr n mb_law 884 L st M Q ↔ wp scr n mb_law 885 L (.int 0 :: st) M Q := wp_step rfl rfl rfl rfl rfl
set_option maxRecDepth 100000 in
theorem ulaw_885 : wp scr n mb_law 885 L [.int x] M Q ↔ ((x = 0 ∨ x = 1) ∧ Q (some (.int x)) M) := wp_retb rfl rfl
set_option maxRecDepth 100000 in
theorem ulaw_886 : wp scr n mb_law 886 [l0, some (.ref a), l2, l3] st M Q ↔ wp scr n mb_law 887 [l0, some (.ref a), l2, l3] (.ref a :: st) M Q := wp_step rfl rfl rfl rfl rfl
set_option maxRecDepth 100000 in
theorem ulaw_886b : wp scr n mb_law 886 [l0, some (.retAddr a), l2, l3] st M Q ↔ wp scr n mb_law 887 [l0, some (.retAddr a), l2, l3] (.retAddr a :: st) M Q := wp_step rfl rfl rfl rfl rfl
set_option maxRecDepth 100000 in
theorem ulaw_887 : wp scr n mb_law 887 [some (.ref a), l1, l2, l3] st M Q ↔ wp scr n mb_law 888 [some (.ref a), l1, l2, l3] (.ref a :: st) M Q := wp_step rfl rfl rfl rfl rfl
set_option maxRecDepth 100000 in
theorem ulaw_887b : wp scr n mb_law 887 [some (.retAddr a), l1, l2, l3] st M Q ↔ wp scr n mb_law 888 [some (.retAddr a), l1, l2, l3] (.retAddr a :: st) M Q := wp_step rfl rfl rfl rfl rfl
set_option maxRecDepth 100000 in
theorem ulaw_888 : wp scr n mb_law 888 [l0, l1, l2, some (.int x)] st M Q ↔ wp scr n mb_law 889 [l0, l1, l2, some (.int x)] (.int x :: st) M Q := wp_step rfl rfl rfl rfl rfl
set_option maxRecDepth 100000 in
theorem ulaw_889 : wp scr n mb_law 889 L st M Q ↔ wp scr n mb_law 890 L (.int 1 :: st) M Q := wp_step rfl rfl rfl rfl rfl
set_option maxRecDepth 100000 in
theorem ulaw_890 : wp scr n mb_law 890 L (.int y :: .int x :: st) M Q ↔ wp scr n mb_law 891 L (.int (x + y) :: st) M Q := wp_step rfl rfl rfl rfl rfl
set_option maxRecDepth 100000 in
theorem ulaw_891 : wp scr n mb_law 891 L (.int y :: o :: st) M Q ↔ mw_o (mm_ld (mc_X scr) M o y) (fun x => wp scr n mb_law 892 L (.int x :: st) M Q) := wp_iald rfl
set_option maxRecDepth 100000 in
theorem ulaw_892 : wp scr n mb_law 892 L (a2 :: .ref a :: st) M Q ↔ ((mw_r M a 5 ∧ mw_st st) ∧ Wp scr n 125 [.ref a, a2] M (fun r1 M1 => wp scr n mb_law 895 L (r1.toList ++ st) M1 Q)) := wp_vir rfl rfl rfl rfl rfl
set_option maxRecDepth 100000 in
theorem ulaw_895 : wp scr n mb_law 895 [l0, l1, some (.ref a), l3] st M Q ↔ wp scr n mb_law 896 [l0, l1, some (.ref a), l3] (.ref a :: st) M Q := wp_step rfl rfl rfl rfl rfl
set_option maxRecDepth 100000 in
theorem ulaw_895b : wp scr n mb_law 895 [l0, l1, some (.retAddr a), l3] st M Q ↔ wp scr n mb_law 896 [l0, l1, some (.retAddr a), l3] (.retAddr a :: st) M Q := wp_step rfl rfl rfl rfl rfl
set_option maxRecDepth 100000 in
theorem ulaw_896 : wp scr n mb_law 896 [some (.ref a), l1, l2, l3] st M Q ↔ wp scr n mb_law 897 [some (.ref a), l1, l2, l3] (.ref a :: st) M Q := wp_step rfl rfl rfl rfl rfl
set_option maxRecDepth 100000 in
theorem ulaw_896b : wp scr n mb_law 896 [some (.retAddr a), l1, l2, l3] st M Q ↔ wp scr n mb_law 897 [some (.retAddr a), l1, l2, l3] (.retAddr a :: st) M Q := wp_step rfl rfl rfl rfl rfl
set_option maxRecDepth 100000 in
theorem ulaw_897 : wp scr n mb_law 897 [l0, l1, l2, some (.int x)] st M Q ↔ wp scr n mb_law 898 [l0, l1, l2, some (.int x)] (.int x :: st) M Q := wp_step rfl rfl rfl rfl rfl
set_option maxRecDepth 100000 in
theorem ulaw_898 : wp scr n mb_law 898 L st M Q ↔ wp scr n mb_law 899 L (.int 1 :: st) M Q := wp_step rfl rfl rfl rfl rfl
set_option maxRecDepth 100000 in
theorem ulaw_899 : wp scr n mb_law 899 L (.int y :: .int x :: st) M Q ↔ wp scr n mb_law 900 L (.int (x + y) :: st) M Q := wp_step rfl rfl rfl rfl rfl
set_option maxRecDepth 100000 in
theorem ulaw_900 : wp scr n mb_law 900 L (.int y :: o :: st) M Q ↔ mw_o (mm_ld (mc_X scr) M o y) (fun x => wp scr n mb_law 901 L (.int x :: st) M Q) := wp_iald rfl
set_option maxRecDepth 100000 in
theorem ulaw_901 : wp scr n mb_law 901 L (a2 :: .ref a :: st) M Q ↔ ((mw_r M a 6 ∧ mw_st st) ∧ Wp scr n 210 [.ref a, a2] M (fun r1 M1 => wp scr n mb_law 904 L (r1.toList ++ st) M1 Q)) := wp_vir rfl rfl rfl rfl rfl
set_option maxRecDepth 100000 in
theorem ulaw_904 : wp scr n mb_law 904 L (.long w :: .long z :: st) M Q ↔ wp scr n mb_law 905 L (.int (lg_cmp z w) :: st) M Q := wp_step rfl rfl rfl rfl rfl
set_option maxRecDepth 100000 in
theorem ulaw_905 : wp scr n mb_law 905 L (.int x :: st) M Q ↔ (if x = 0 then wp scr n mb_law 1084 L st M Q else wp scr n mb_law 908 L st M Q) := (wp_step rfl rfl rfl rfl rfl).trans wp_ite
set_option maxRecDepth 100000 in
theorem ulaw_908 : wp scr n mb_law 908 L st M Q ↔ wp scr n mb_law 909 L (.int 0 :: st) M Q := wp_step rfl rfl rfl rfl rfl
set_option maxRecDepth 100000 in
theorem ulaw_909 : wp scr n mb_law 909 L [.int x] M Q ↔ ((x = 0 ∨ x = 1) ∧ Q (some (.int x)) M) := wp_retb rfl rfl
set_option maxRecDepth 100000 in
theorem ulaw_910 : wp scr n mb_law 910 [l0, some (.ref a), l2, l3] st M Q ↔ wp scr n mb_law 911 [l0, some (.ref a), l2, l3] (.ref a :: st) M Q := wp_step rfl rfl rfl rfl rfl
set_option maxRecDepth 100000 in
theorem ulaw_910b : wp scr n mb_law 910 [l0, some (.retAddr a), l2, l3] st M Q ↔ wp scr n mb_law 911 [l0, some (.retAddr a), l2, l3] (.retAddr a :: st) M Q := wp_step rfl rfl rfl rfl rfl
set_option maxRecDepth 100000 in
theorem ulaw_911 : wp scr n mb_law 911 [some (.ref a), l1, l2, l3] st M Q ↔ wp scr n mb_law 912 [some (.ref a), l1, l2, l3] (.ref a :: st) M Q := wp_step rfl rfl rfl rfl rfl
set_option maxRecDepth 100000 in
theorem ulaw_911b : wp scr n mb_law 911 [some (.retAddr a), l1, l2, l3] st M Q ↔ wp scr n mb_law 912 [some (.retAddr a), l1, l2, l3] (.retAddr a :: st) M Q := wp_step rfl rfl rfl rfl rfl
set_option maxRecDepth 100000 in
theorem ulaw_912 : wp scr n mb_law 912 [l0, l1, l2, some (.int x)] st M Q ↔ wp scr n mb_law 913 [l0, l1, l2, some (.int x)] (.int x :: st) M Q := wp_step rfl rfl rfl rfl rfl
set_option maxRecDepth 100000 in
theorem ulaw_913 : wp scr n mb_law 913 L st M Q ↔ wp scr n mb_law 914 L (.int 1 :: st) M Q := wp_step rfl rfl rfl rfl rfl
set_option maxRecDepth 100000 in
theorem ulaw_914 : wp scr n mb_law 914 L (.int y :: .int x :: st) M Q ↔ wp scr n mb_law 915 L (.int (x + y) :: st) M Q := wp_step rfl rfl rfl rfl rfl
set_option maxRecDepth 100000 in
theorem ulaw_915 : wp scr n mb_law 915 L (.int y :: o :: st) M Q ↔ mw_o (mm_ld (mc_X scr) M o y) (fun x => wp scr n mb_law 916 L (.int x :: st) M Q) := wp_iald rfl
set_option maxRecDepth 100000 in
theorem ulaw_916 : wp scr n mb_law 916 [some (.ref a), l1, l2, l3] st M Q ↔ wp scr n mb_law 917 [some (.ref a), l1, l2, l3] (.ref a :: st) M Q := wp_step rfl rfl rfl rfl rfl
set_option maxRecDepth 100000 in
theorem ulaw_916b : wp scr n mb_law 916 [some (.retAddr a), l1, l2, l3] st M Q ↔ wp scr n mb_law 917 [some (.retAddr a), l1, l2, l3] (.retAddr a :: st) M Q := wp_step rfl rfl rfl rfl rfl
set_option maxRecDepth 100000 in
theorem ulaw_917 : wp scr n mb_law 917 [l0, l1, l2, some (.int x)] st M Q ↔ wp scr n mb_law 918 [l0, l1, l2, some (.int x)] (.int x :: st) M Q := wp_step rfl rfl rfl rfl rfl
set_option maxRecDepth 100000 in
theorem ulaw_918 : wp scr n mb_law 918 L st M Q ↔ wp scr n mb_law 919 L (.int 2 :: st) M Q := wp_step rfl rfl rfl rfl rfl
set_option maxRecDepth 100000 in
theorem ulaw_919 : wp scr n mb_law 919 L (.int y :: .int x :: st) M Q ↔ wp scr n mb_law 920 L (.int (x + y) :: st) M Q := wp_step rfl rfl rfl rfl rfl
set_option maxRecDepth 100000 in
theorem ulaw_920 : wp scr n mb_law 920 L (.int y :: o :: st) M Q ↔ mw_o (mm_ld (mc_X scr) M o y) (fun x => wp scr n mb_law 921 L (.int x :: st) M Q) := wp_iald rfl
set_option maxRecDepth 100000 in
theorem ulaw_921 : wp scr n mb_law 921 L (a3 :: a2 :: .ref a :: st) M Q ↔ ((mw_r M a 5 ∧ mw_st st) ∧ Wp scr n 126 [.ref a, a2, a3] M (fun r1 M1 => wp scr n mb_law 924 L (r1.toList ++ st) M1 Q)) := wp_vir rfl rfl rfl rfl rfl
set_option maxRecDepth 100000 in
theorem ulaw_924 : wp scr n mb_law 924 [l0, l1, some (.ref a), l3] st M Q ↔ wp scr n mb_law 925 [l0, l1, some (.ref a), l3] (.ref a :: st) M Q := wp_step rfl rfl rfl rfl rfl
set_option maxRecDepth 100000 in
theorem ulaw_924b : wp scr n mb_law 924 [l0, l1, some (.retAddr a), l3] st M Q ↔ wp scr n mb_law 925 [l0, l1, some (.retAddr a), l3] (.retAddr a :: st) M Q := wp_step rfl rfl rfl rfl rfl
set_option maxRecDepth 100000 in
theorem ulaw_925 : wp scr n mb_law 925 [some (.ref a), l1, l2, l3] st M Q ↔ wp scr n mb_law 926 [some (.ref a), l1, l2, l3] (.ref a :: st) M Q := wp_step rfl rfl rfl rfl rfl
set_option maxRecDepth 100000 in
theorem ulaw_925b : wp scr n mb_law 925 [some (.retAddr a), l1, l2, l3] st M Q ↔ wp scr n mb_law 926 [some (.retAddr a), l1, l2, l3] (.retAddr a :: st) M Q := wp_step rfl rfl rfl rfl rfl
set_option maxRecDepth 100000 in
theorem ulaw_926 : wp scr n mb_law 926 [l0, l1, l2, some (.int x)] st M Q ↔ wp scr n mb_law 927 [l0, l1, l2, some (.int x)] (.int x :: st) M Q := wp_step rfl rfl rfl rfl rfl
set_option maxRecDepth 100000 in
theorem ulaw_927 : wp scr n mb_law 927 L st M Q ↔ wp scr n mb_law 928 L (.int 1 :: st) M Q := wp_step rfl rfl rfl rfl rfl
set_option maxRecDepth 100000 in
theorem ulaw_928 : wp scr n mb_law 928 L (.int y :: .int x :: st) M Q ↔ wp scr n mb_law 929 L (.int (x + y) :: st) M Q := wp_step rfl rfl rfl rfl rfl
set_option maxRecDepth 100000 in
theorem ulaw_929 : wp scr n mb_law 929 L (.int y :: o :: st) M Q ↔ mw_o (mm_ld (mc_X scr) M o y) (fun x => wp scr n mb_law 930 L (.int x :: st) M Q) := wp_iald rfl
set_option maxRecDepth 100000 in
theorem ulaw_930 : wp scr n mb_law 930 [some (.ref a), l1, l2, l3] st M Q ↔ wp scr n mb_law 931 [some (.ref a), l1, l2, l3] (.ref a :: st) M Q := wp_step rfl rfl rfl rfl rfl
set_option maxRecDepth 100000 in
theorem ulaw_930b : wp scr n mb_law 930 [some (.retAddr a), l1, l2, l3] st M Q ↔ wp scr n mb_law 931 [some (.retAddr a), l1, l2, l3] (.retAddr a :: st) M Q := wp_step rfl rfl rfl rfl rfl
set_option maxRecDepth 100000 in
theorem ulaw_931 : wp scr n mb_law 931 [l0, l1, l2, some (.int x)] st M Q ↔ wp scr n mb_law 932 [l0, l1, l2, some (.int x)] (.int x :: st) M Q := wp_step rfl rfl rfl rfl rfl
set_option maxRecDepth 100000 in
theorem ulaw_932 : wp scr n mb_law 932 L st M Q ↔ wp scr n mb_law 933 L (.int 2 :: st) M Q := wp_step rfl rfl rfl rfl rfl
set_option maxRecDepth 100000 in
theorem ulaw_933 : wp scr n mb_law 933 L (.int y :: .int x :: st) M Q ↔ wp scr n mb_law 934 L (.int (x + y) :: st) M Q := wp_step rfl rfl rfl rfl rfl
set_option maxRecDepth 100000 in
theorem ulaw_934 : wp scr n mb_law 934 L (.int y :: o :: st) M Q ↔ mw_o (mm_ld (mc_X scr) M o y) (fun x => wp scr n mb_law 935 L (.int x :: st) M Q) := wp_iald rfl
set_option maxRecDepth 100000 in
theorem ulaw_935 : wp scr n mb_law 935 L (a3 :: a2 :: .ref a :: st) M Q ↔ ((mw_r M a 6 ∧ mw_st st) ∧ Wp scr n 211 [.ref a, a2, a3] M (fun r1 M1 => wp scr n mb_law 938 L (r1.toList ++ st) M1 Q)) := wp_vir rfl rfl rfl rfl rfl
set_option maxRecDepth 100000 in
theorem ulaw_938 : wp scr n mb_law 938 L (.int y :: .int x :: st) M Q ↔ (if x = y then wp scr n mb_law 1084 L st M Q else wp scr n mb_law 941 L st M Q) := (wp_step rfl rfl rfl rfl rfl).trans wp_ite
set_option maxRecDepth 100000 in
theorem ulaw_941 : wp scr n mb_law 941 L st M Q ↔ wp scr n mb_law 942 L (.int 0 :: st) M Q := wp_step rfl rfl rfl rfl rfl
set_option maxRecDepth 100000 in
theorem ulaw_942 : wp scr n mb_law 942 L [.int x] M Q ↔ ((x = 0 ∨ x = 1) ∧ Q (some (.int x)) M) := wp_retb rfl rfl
set_option maxRecDepth 100000 in
theorem ulaw_943 : wp scr n mb_law 943 [l0, some (.ref a), l2, l3] st M Q ↔ wp scr n mb_law 944 [l0, some (.ref a), l2, l3] (.ref a :: st) M Q := wp_step rfl rfl rfl rfl rfl
set_option maxRecDepth 100000 in
theorem ulaw_943b : wp scr n mb_law 943 [l0, some (.retAddr a), l2, l3] st M Q ↔ wp scr n mb_law 944 [l0, some (.retAddr a), l2, l3] (.retAddr a :: st) M Q := wp_step rfl rfl rfl rfl rfl
set_option maxRecDepth 100000 in
theorem ulaw_944 : wp scr n mb_law 944 [some (.ref a), l1, l2, l3] st M Q ↔ wp scr n mb_law 945 [some (.ref a), l1, l2, l3] (.ref a :: st) M Q := wp_step rfl rfl rfl rfl rfl
set_option maxRecDepth 100000 in
theorem ulaw_944b : wp scr n mb_law 944 [some (.retAddr a), l1, l2, l3] st M Q ↔ wp scr n mb_law 945 [some (.retAddr a), l1, l2, l3] (.retAddr a :: st) M Q := wp_step rfl rfl rfl rfl rfl
set_option maxRecDepth 100000 in
theorem ulaw_945 : wp scr n mb_law 945 [l0, l1, l2, some (.int x)] st M Q ↔ wp scr n mb_law 946 [l0, l1, l2, some (.int x)] (.int x :: st) M Q := wp_step rfl rfl rfl rfl rfl
set_option maxRecDepth 100000 in
theorem ulaw_946 : wp scr n mb_law 946 L st M Q ↔ wp scr n mb_law 947 L (.int 1 :: st) M Q := wp_step rfl rfl rfl rfl rfl
set_option maxRecDepth 100000 in
theorem ulaw_947 : wp scr n mb_law 947 L (.int y :: .int x :: st) M Q ↔ wp scr n mb_law 948 L (.int (x + y) :: st) M Q := wp_step rfl rfl rfl rfl rfl
set_option maxRecDepth 100000 in
theorem ulaw_948 : wp scr n mb_law 948 L (.int y :: o :: st) M Q ↔ mw_o (mm_ld (mc_X scr) M o y) (fun x => wp scr n mb_law 949 L (.int x :: st) M Q) := wp_iald rfl
set_option maxRecDepth 100000 in
theorem ulaw_949 : wp scr n mb_law 949 L (a2 :: .ref a :: st) M Q ↔ ((mw_r M a 5 ∧ mw_st st) ∧ Wp scr n 130 [.ref a, a2] M (fun r1 M1 => wp scr n mb_law 952 L (r1.toList ++ st) M1 Q)) := wp_vir rfl rfl rfl rfl rfl
set_option maxRecDepth 100000 in
theorem ulaw_952 : wp scr n mb_law 952 [l0, l1, some (.ref a), l3] st M Q ↔ wp scr n mb_law 953 [l0, l1, some (.ref a), l3] (.ref a :: st) M Q := wp_step rfl rfl rfl rfl rfl
set_option maxRecDepth 100000 in
theorem ulaw_952b : wp scr n mb_law 952 [l0, l1, some (.retAddr a), l3] st M Q ↔ wp scr n mb_law 953 [l0, l1, some (.retAddr a), l3] (.retAddr a :: st) M Q := wp_step rfl rfl rfl rfl rfl
set_option maxRecDepth 100000 in
theorem ulaw_953 : wp scr n mb_law 953 [some (.ref a), l1, l2, l3] st M Q ↔ wp scr n mb_law 954 [some (.ref a), l1, l2, l3] (.ref a :: st) M Q := wp_step rfl rfl rfl rfl rfl
set_option maxRecDepth 100000 in
theorem ulaw_953b : wp scr n mb_law 953 [some (.retAddr a), l1, l2, l3] st M Q ↔ wp scr n mb_law 954 [some (.retAddr a), l1, l2, l3] (.retAddr a :: st) M Q := wp_step rfl rfl rfl rfl rfl
set_option maxRecDepth 100000 in
theorem ulaw_954 : wp scr n mb_law 954 [l0, l1, l2, some (.int x)] st M Q ↔ wp scr n mb_law 955 [l0, l1, l2, some (.int x)] (.int x :: st) M Q := wp_step rfl rfl rfl rfl rfl
set_option maxRecDepth 100000 in
theorem ulaw_955 : wp scr n mb_law 955 L st M Q ↔ wp scr n mb_law 956 L (.int 1 :: st) M Q := wp_step rfl rfl rfl rfl rfl
set_option maxRecDepth 100000 in
theorem ulaw_956 : wp scr n mb_law 956 L (.int y :: .int x :: st) M Q ↔ wp scr n mb_law 957 L (.int (x + y) :: st) M Q := wp_step rfl rfl rfl rfl rfl
set_option maxRecDepth 100000 in
theorem ulaw_957 : wp scr n mb_law 957 L (.int y :: o :: st) M Q ↔ mw_o (mm_ld (mc_X scr) M o y) (fun x => wp scr n mb_law 958 L (.int x :: st) M Q) := wp_iald rfl
set_option maxRecDepth 100000 in
theorem ulaw_958 : wp scr n mb_law 958 L (a2 :: .ref a :: st) M Q ↔ ((mw_r M a 6 ∧ mw_st st) ∧ Wp scr n 213 [.ref a, a2] M (fun r1 M1 => wp scr n mb_law 961 L (r1.toList ++ st) M1 Q)) := wp_vir rfl rfl rfl rfl rfl
set_option maxRecDepth 100000 in
theorem ulaw_961 : wp scr n mb_law 961 L (.int y :: .int x :: st) M Q ↔ (if x = y then wp scr n mb_law 1084 L st M Q else wp scr n mb_law 964 L st M Q) := (wp_step rfl rfl rfl rfl rfl).trans wp_ite
set_option maxRecDepth 100000 in
theorem ulaw_964 : wp scr n mb_law 964 L st M Q ↔ wp scr n mb_law 965 L (.int 0 :: st) M Q := wp_step rfl rfl rfl rfl rfl
set_option maxRecDepth 100000 in
theorem ulaw_965 : wp scr n mb_law 965 L [.int x] M Q ↔ ((x = 0 ∨ x = 1) ∧ Q (some (.int x)) M) := wp_retb rfl rfl
set_option maxRecDepth 100000 in
theorem ulaw_966 : wp scr n mb_law 966 [l0, some (.ref a), l2, l3] st M Q ↔ wp scr n mb_law 967 [l0, some (.ref a), l2, l3] (.ref a :: st) M Q := wp_step rfl rfl rfl rfl rfl
set_option maxRecDepth 100000 in
theorem ulaw_966b : wp scr n mb_law 966 [l0, some (.retAddr a), l2, l3] st M Q ↔ wp scr n mb_law 967 [l0, some (.retAddr a), l2, l3] (.retAddr a :: st) M Q := wp_step rfl rfl rfl rfl rfl
set_option maxRecDepth 100000 in
theorem ulaw_967 : wp scr n mb_law 967 L (.ref a :: st) M Q ↔ ((mw_r M a 5 ∧ mw_st st) ∧ Wp scr n 131 [.ref a] M (fun r1 M1 => wp scr n mb_law 970 L (r1.toList ++ st) M1 Q)) := wp_vir rfl rfl rfl rfl rfl
set_option maxRecDepth 100000 in
theorem ulaw_970 : wp scr n mb_law 970 [l0, l1, some (.ref a), l3] st M Q ↔ wp scr n mb_law 971 [l0, l1, some (.ref a), l3] (.ref a :: st) M Q := wp_step rfl rfl rfl rfl rfl
set_option maxRecDepth 100000 in
theorem ulaw_970b : wp scr n mb_law 970 [l0, l1, some (.retAddr a), l3] st M Q ↔ wp scr n mb_law 971 [l0, l1, some (.retAddr a), l3] (.retAddr a :: st) M Q := wp_step rfl rfl rfl rfl rfl
set_option maxRecDepth 100000 in
theorem ulaw_971 : wp scr n mb_law 971 L (.ref a :: st) M Q ↔ ((mw_r M a 6 ∧ mw_st st) ∧ Wp scr n 214 [.ref a] M (fun r1 M1 => wp scr n mb_law 974 L (r1.toList ++ st) M1 Q)) := wp_vir rfl rfl rfl rfl rfl
set_option maxRecDepth 100000 in
theorem ulaw_974 : wp scr n mb_law 974 L (.int y :: .int x :: st) M Q ↔ (if x = y then wp scr n mb_law 1084 L st M Q else wp scr n mb_law 977 L st M Q) := (wp_step rfl rfl rfl rfl rfl).trans wp_ite
set_option maxRecDepth 100000 in
theorem ulaw_977 : wp scr n mb_law 977 L st M Q ↔ wp scr n mb_law 978 L (.int 0 :: st) M Q := wp_step rfl rfl rfl rfl rfl
set_option maxRecDepth 100000 in
theorem ulaw_978 : wp scr n mb_law 978 L [.int x] M Q ↔ ((x = 0 ∨ x = 1) ∧ Q (some (.int x)) M) := wp_retb rfl rfl
set_option maxRecDepth 100000 in
theorem ulaw_979 : wp scr n mb_law 979 [l0, some (.ref a), l2, l3] st M Q ↔ wp scr n mb_law 980 [l0, some (.ref a), l2, l3] (.ref a :: st) M Q := wp_step rfl rfl rfl rfl rfl
set_option maxRecDepth 100000 in
theorem ulaw_979b : wp scr n mb_law 979 [l0, some (.retAddr a), l2, l3] st M Q ↔ wp scr n mb_law 980 [l0, some (.retAddr a), l2, l3] (.retAddr a :: st) M Q := wp_step rfl rfl rfl rfl rfl
set_option maxRecDepth 100000 in
theorem ulaw_980 : wp scr n mb_law 980 L (.ref a :: st) M Q ↔ ((mw_r M a 5 ∧ mw_st st) ∧ Wp scr n 132 [.ref a] M (fun r1 M1 => wp scr n mb_law 983 L (r1.toList ++ st) M1 Q)) := wp_vir rfl rfl rfl rfl rfl
set_option maxRecDepth 100000 in
theorem ulaw_983 : wp scr n mb_law 983 [l0, l1, some (.ref a), l3] st M Q ↔ wp scr n mb_law 984 [l0, l1, some (.ref a), l3] (.ref a :: st) M Q := wp_step rfl rfl rfl rfl rfl
set_option maxRecDepth 100000 in
theorem ulaw_983b : wp scr n mb_law 983 [l0, l1, some (.retAddr a), l3] st M Q ↔ wp scr n mb_law 984 [l0, l1, some (.retAddr a), l3] (.retAddr a :: st) M Q := wp_step rfl rfl rfl rfl rfl
set_option maxRecDepth 100000 in
theorem ulaw_984 : wp scr n mb_law 984 L (.ref a :: st) M Q ↔ ((mw_r M a 6 ∧ mw_st st) ∧ Wp scr n 215 [.ref a] M (fun r1 M1 => wp scr n mb_law 987 L (r1.toList ++ st) M1 Q)) := wp_vir rfl rfl rfl rfl rfl
set_option maxRecDepth 100000 in
theorem ulaw_987 : wp scr n mb_law 987 L (.int y :: .int x :: st) M Q ↔ (if x = y then wp scr n mb_law 1084 L st M Q else wp scr n mb_law 990 L st M Q) := (wp_step rfl rfl rfl rfl rfl).trans wp_ite
set_option maxRecDepth 100000 in
theorem ulaw_990 : wp scr n mb_law 990 L st M Q ↔ wp scr n mb_law 991 L (.int 0 :: st) M Q := wp_step rfl rfl rfl rfl rfl
set_option maxRecDepth 100000 in
theorem ulaw_991 : wp scr n mb_law 991 L [.int x] M Q ↔ ((x = 0 ∨ x = 1) ∧ Q (some (.int x)) M) := wp_retb rfl rfl
set_option maxRecDepth 100000 in
theorem ulaw_992 : wp scr n mb_law 992 [l0, some (.ref a), l2, l3] st M Q ↔ wp scr n mb_law 993 [l0, some (.ref a), l2, l3] (.ref a :: st) M Q := wp_step rfl rfl rfl rfl rfl
set_option maxRecDepth 100000 in
theorem ulaw_992b : wp scr n mb_law 992 [l0, some (.retAddr a), l2, l3] st M Q ↔ wp scr n mb_law 993 [l0, some (.retAddr a), l2, l3] (.retAddr a :: st) M Q := wp_step rfl rfl rfl rfl rfl
set_option maxRecDepth 100000 in
theorem ulaw_993 : wp scr n mb_law 993 [some (.ref a), l1, l2, l3] st M Q ↔ wp scr n mb_law 994 [some (.ref a), l1, l2, l3] (.ref a :: st) M Q := wp_step rfl rfl rfl rfl rfl
set_option maxRecDepth 100000 in
theorem ulaw_993b : wp scr n mb_law 993 [some (.retAddr a), l1, l2, l3] st M Q ↔ wp scr n mb_law 994 [some (.retAddr a), l1, l2, l3] (.retAddr a :: st) M Q := wp_step rfl rfl rfl rfl rfl
set_option maxRecDepth 100000 in
theorem ulaw_994 : wp scr n mb_law 994 [l0, l1, l2, some (.int x)] st M Q ↔ wp scr n mb_law 995 [l0, l1, l2, some (.int x)] (.int x :: st) M Q := wp_step rfl rfl rfl rfl rfl
set_option maxRecDepth 100000 in
theorem ulaw_995 : wp scr n mb_law 995 L st M Q ↔ wp scr n mb_law 996 L (.int 1 :: st) M Q := wp_step rfl rfl rfl rfl rfl
set_option maxRecDepth 100000 in
theorem ulaw_996 : wp scr n mb_law 996 L (.int y :: .int x :: st) M Q ↔ wp scr n mb_law 997 L (.int (x + y) :: st) M Q := wp_step rfl rfl rfl rfl rfl
set_option maxRecDepth 100000 in
theorem ulaw_997 : wp scr n mb_law 997 L (.int y :: o :: st) M Q ↔ mw_o (mm_ld (mc_X scr) M o y) (fun x => wp scr n mb_law 998 L (.int x :: st) M Q) := wp_iald rfl
set_option maxRecDepth 100000 in
theorem ulaw_998 : wp scr n mb_law 998 [some (.ref a), l1, l2, l3] st M Q ↔ wp scr n mb_law 999 [some (.ref a), l1, l2, l3] (.ref a :: st) M Q := wp_step rfl rfl rfl rfl rfl
set_option maxRecDepth 100000 in
theorem ulaw_998b : wp scr n mb_law 998 [some (.retAddr a), l1, l2, l3] st M Q ↔ wp scr n mb_law 999 [some (.retAddr a), l1, l2, l3] (.retAddr a :: st) M Q := wp_step rfl rfl rfl rfl rfl
set_option maxRecDepth 100000 in
theorem ulaw_999 : wp scr n mb_law 999 [l0, l1, l2, some (.int x)] st M Q ↔ wp scr n mb_law 1000 [l0, l1, l2, some (.int x)] (.int x :: st) M Q := wp_step rfl rfl rfl rfl rfl
set_option maxRecDepth 100000 in
theorem ulaw_1000 : wp scr n mb_law 1000 L st M Q ↔ wp scr n mb_law 1001 L (.int 2 :: st) M Q := wp_step rfl rfl rfl rfl rfl
set_option maxRecDepth 100000 in
theorem ulaw_1001 : wp scr n mb_law 1001 L (.int y :: .int x :: st) M Q ↔ wp scr n mb_law 1002 L (.int (x + y) :: st) M Q := wp_step rfl rfl rfl rfl rfl
set_option maxRecDepth 100000 in
theorem ulaw_1002 : wp scr n mb_law 1002 L (.int y :: o :: st) M Q ↔ mw_o (mm_ld (mc_X scr) M o y) (fun x => wp scr n mb_law 1003 L (.int x :: st) M Q) := wp_iald rfl
set_option maxRecDepth 100000 in
theorem ulaw_1003 : wp scr n mb_law 1003 [some (.ref a), l1, l2, l3] st M Q ↔ wp scr n mb_law 1004 [some (.ref a), l1, l2, l3] (.ref a :: st) M Q := wp_step rfl rfl rfl rfl rfl
set_option maxRecDepth 100000 in
theorem ulaw_1003b : wp scr n mb_law 1003 [some (.retAddr a), l1, l2, l3] st M Q ↔ wp scr n mb_law 1004 [some (.retAddr a), l1, l2, l3] (.retAddr a :: st) M Q := wp_step rfl rfl rfl rfl rfl
set_option maxRecDepth 100000 in
theorem ulaw_1004 : wp scr n mb_law 1004 [l0, l1, l2, some (.int x)] st M Q ↔ wp scr n mb_law 1005 [l0, l1, l2, some (.int x)] (.int x :: st) M Q := wp_step rfl rfl rfl rfl rfl
set_option maxRecDepth 100000 in
theorem ulaw_1005 : wp scr n mb_law 1005 L st M Q ↔ wp scr n mb_law 1006 L (.int 3 :: st) M Q := wp_step rfl rfl rfl rfl rfl
set_option maxRecDepth 100000 in
theorem ulaw_1006 : wp scr n mb_law 1006 L (.int y :: .int x :: st) M Q ↔ wp scr n mb_law 1007 L (.int (x + y) :: st) M Q := wp_step rfl rfl rfl rfl rfl
set_option maxRecDepth 100000 in
theorem ulaw_1007 : wp scr n mb_law 1007 L (.int y :: o :: st) M Q ↔ mw_o (mm_ld (mc_X scr) M o y) (fun x => wp scr n mb_law 1008 L (.int x :: st) M Q) := wp_iald rfl
set_option maxRecDepth 100000 in
theorem ulaw_1008 : wp scr n mb_law 1008 L (a4 :: a3 :: a2 :: .ref a :: st) M Q ↔ ((mw_r M a 5 ∧ mw_st st) ∧ Wp scr n 133 [.ref a, a2, a3, a4] M (fun r1 M1 => wp scr n mb_law 1011 L (r1.toList ++ st) M1 Q)) := wp_vir rfl rfl rfl rfl rfl
set_option maxRecDepth 100000 in
theorem ulaw_1011 : wp scr n mb_law 1011 [l0, l1, some (.ref a), l3] st M Q ↔ wp scr n mb_law 1012 [l0, l1, some (.ref a), l3] (.ref a :: st) M Q := wp_step rfl rfl rfl rfl rfl
set_option maxRecDepth 100000 in
theorem ulaw_1011b : wp scr n mb_law 1011 [l0, l1, some (.retAddr a), l3] st M Q ↔ wp scr n mb_law 1012 [l0, l1, some (.retAddr a), l3] (.retAddr a :: st) M Q := wp_step rfl rfl rfl rfl rfl
set_option maxRecDepth 100000 in
theorem ulaw_1012 : wp scr n mb_law 1012 [some (.ref a), l1, l2, l3] st M Q ↔ wp scr n mb_law 1013 [some (.ref a), l1, l2, l3] (.ref a :: st) M Q := wp_step rfl rfl rfl rfl rfl
set_option maxRecDepth 100000 in
theorem ulaw_1012b : wp scr n mb_law 1012 [some (.retAddr a), l1, l2, l3] st M Q ↔ wp scr n mb_law 1013 [some (.retAddr a), l1, l2, l3] (.retAddr a :: st) M Q := wp_step rfl rfl rfl rfl rfl
set_option maxRecDepth 100000 in
theorem ulaw_1013 : wp scr n mb_law 1013 [l0, l1, l2, some (.int x)] st M Q ↔ wp scr n mb_law 1014 [l0, l1, l2, some (.int x)] (.int x :: st) M Q := wp_step rfl rfl rfl rfl rfl
set_option maxRecDepth 100000 in
theorem ulaw_1014 : wp scr n mb_law 1014 L st M Q ↔ wp scr n mb_law 1015 L (.int 1 :: st) M Q := wp_step rfl rfl rfl rfl rfl
set_option maxRecDepth 100000 in
theorem ulaw_1015 : wp scr n mb_law 1015 L (.int y :: .int x :: st) M Q ↔ wp scr n mb_law 1016 L (.int (x + y) :: st) M Q := wp_step rfl rfl rfl rfl rfl
set_option maxRecDepth 100000 in
theorem ulaw_1016 : wp scr n mb_law 1016 L (.int y :: o :: st) M Q ↔ mw_o (mm_ld (mc_X scr) M o y) (fun x => wp scr n mb_law 1017 L (.int x :: st) M Q) := wp_iald rfl
set_option maxRecDepth 100000 in
theorem ulaw_1017 : wp scr n mb_law 1017 [some (.ref a), l1, l2, l3] st M Q ↔ wp scr n mb_law 1018 [some (.ref a), l1, l2, l3] (.ref a :: st) M Q := wp_step rfl rfl rfl rfl rfl
set_option maxRecDepth 100000 in
theorem ulaw_1017b : wp scr n mb_law 1017 [some (.retAddr a), l1, l2, l3] st M Q ↔ wp scr n mb_law 1018 [some (.retAddr a), l1, l2, l3] (.retAddr a :: st) M Q := wp_step rfl rfl rfl rfl rfl
set_option maxRecDepth 100000 in
theorem ulaw_1018 : wp scr n mb_law 1018 [l0, l1, l2, some (.int x)] st M Q ↔ wp scr n mb_law 1019 [l0, l1, l2, some (.int x)] (.int x :: st) M Q := wp_step rfl rfl rfl rfl rfl
set_option maxRecDepth 100000 in
theorem ulaw_1019 : wp scr n mb_law 1019 L st M Q ↔ wp scr n mb_law 1020 L (.int 2 :: st) M Q := wp_step rfl rfl rfl rfl rfl
set_option maxRecDepth 100000 in
theorem ulaw_1020 : wp scr n mb_law 1020 L (.int y :: .int x :: st) M Q ↔ wp scr n mb_law 1021 L (.int (x + y) :: st) M Q := wp_step rfl rfl rfl rfl rfl
set_option maxRecDepth 100000 in
theorem ulaw_1021 : wp scr n mb_law 1021 L (.int y :: o :: st) M Q ↔ mw_o (mm_ld (mc_X scr) M o y) (fun x => wp scr n mb_law 1022 L (.int x :: st) M Q) := wp_iald rfl
set_option maxRecDepth 100000 in
theorem ulaw_1022 : wp scr n mb_law 1022 [some (.ref a), l1, l2, l3] st M Q ↔ wp scr n mb_law 1023 [some (.ref a), l1, l2, l3] (.ref a :: st) M Q := wp_step rfl rfl rfl rfl rfl
set_option maxRecDepth 100000 in
theorem ulaw_1022b : wp scr n mb_law 1022 [some (.retAddr a), l1, l2, l3] st M Q ↔ wp scr n mb_law 1023 [some (.retAddr a), l1, l2, l3] (.retAddr a :: st) M Q := wp_step rfl rfl rfl rfl rfl
set_option maxRecDepth 100000 in
theorem ulaw_1023 : wp scr n mb_law 1023 [l0, l1, l2, some (.int x)] st M Q ↔ wp scr n mb_law 1024 [l0, l1, l2, some (.int x)] (.int x :: st) M Q := wp_step rfl rfl rfl rfl rfl
set_option maxRecDepth 100000 in
theorem ulaw_1024 : wp scr n mb_law 1024 L st M Q ↔ wp scr n mb_law 1025 L (.int 3 :: st) M Q := wp_step rfl rfl rfl rfl rfl
set_option maxRecDepth 100000 in
theorem ulaw_1025 : wp scr n mb_law 1025 L (.int y :: .int x :: st) M Q ↔ wp scr n mb_law 1026 L (.int (x + y) :: st) M Q := wp_step rfl rfl rfl rfl rfl
set_option maxRecDepth 100000 in
theorem ulaw_1026 : wp scr n mb_law 1026 L (.int y :: o :: st) M Q ↔ mw_o (mm_ld (mc_X scr) M o y) (fun x => wp scr n mb_law 1027 L (.int x :: st) M Q) := wp_iald rfl
set_option maxRecDepth 100000 in
theorem ulaw_1027 : wp scr n mb_law 1027 L (a4 :: a3 :: a2 :: .ref a :: st) M Q ↔ ((mw_r M a 6 ∧ mw_st st) ∧ Wp scr n 216 [.ref a, a2, a3, a4] M (fun r1 M1 => wp scr n mb_law 1030 L (r1.toList ++ st) M1 Q)) := wp_vir rfl rfl rfl rfl rfl
set_option maxRecDepth 100000 in
theorem ulaw_1030 : wp scr n mb_law 1030 L (.int y :: .int x :: st) M Q ↔ (if x = y then wp scr n mb_law 1084 L st M Q else wp scr n mb_law 1033 L st M Q) := (wp_step rfl rfl rfl rfl rfl).trans wp_ite
set_option maxRecDepth 100000 in
theorem ulaw_1033 : wp scr n mb_law 1033 L st M Q ↔ wp scr n mb_law 1034 L (.int 0 :: st) M Q := wp_step rfl rfl rfl rfl rfl
set_option maxRecDepth 100000 in
theorem ulaw_1034 : wp scr n mb_law 1034 L [.int x] M Q ↔ ((x = 0 ∨ x = 1) ∧ Q (some (.int x)) M) := wp_retb rfl rfl
set_option maxRecDepth 100000 in
theorem ulaw_1035 : wp scr n mb_law 1035 [l0, some (.ref a), l2, l3] st M Q ↔ wp scr n mb_law 1036 [l0, some (.ref a), l2, l3] (.ref a :: st) M Q := wp_step rfl rfl rfl rfl rfl
set_option maxRecDepth 100000 in
theorem ulaw_1035b : wp scr n mb_law 1035 [l0, some (.retAddr a), l2, l3] st M Q ↔ wp scr n mb_law 1036 [l0, some (.retAddr a), l2, l3] (.retAddr a :: st) M Q := wp_step rfl rfl rfl rfl rfl
set_option maxRecDepth 100000 in
theorem ulaw_1036 : wp scr n mb_law 1036 L (.ref a :: st) M Q ↔ ((mw_r M a 5 ∧ mw_st st) ∧ Wp scr n 135 [.ref a] M (fun r1 M1 => wp scr n mb_law 1039 L (r1.toList ++ st) M1 Q)) := wp_vir rfl rfl rfl rfl rfl
set_option maxRecDepth 100000 in
theorem ulaw_1039 : wp scr n mb_law 1039 [l0, l1, some (.ref a), l3] st M Q ↔ wp scr n mb_law 1040 [l0, l1, some (.ref a), l3] (.ref a :: st) M Q := wp_step rfl rfl rfl rfl rfl
set_option maxRecDepth 100000 in
theorem ulaw_1039b : wp scr n mb_law 1039 [l0, l1, some (.retAddr a), l3] st M Q ↔ wp scr n mb_law 1040 [l0, l1, some (.retAddr a), l3] (.retAddr a :: st) M Q := wp_step rfl rfl rfl rfl rfl
set_option maxRecDepth 100000 in
theorem ulaw_1040 : wp scr n mb_law 1040 L (.ref a :: st) M Q ↔ ((mw_r M a 6 ∧ mw_st st) ∧ Wp scr n 219 [.ref a] M (fun r1 M1 => wp scr n mb_law 1043 L (r1.toList ++ st) M1 Q)) := wp_vir rfl rfl rfl rfl rfl
set_option maxRecDepth 100000 in
theorem ulaw_1043 : wp scr n mb_law 1043 L (.int y :: .int x :: st) M Q ↔ (if x = y then wp scr n mb_law 1084 L st M Q else wp scr n mb_law 1046 L st M Q) := (wp_step rfl rfl rfl rfl rfl).trans wp_ite
set_option maxRecDepth 100000 in
theorem ulaw_1046 : wp scr n mb_law 1046 L st M Q ↔ wp scr n mb_law 1047 L (.int 0 :: st) M Q := wp_step rfl rfl rfl rfl rfl
set_option maxRecDepth 100000 in
theorem ulaw_1047 : wp scr n mb_law 1047 L [.int x] M Q ↔ ((x = 0 ∨ x = 1) ∧ Q (some (.int x)) M) := wp_retb rfl rfl
set_option maxRecDepth 100000 in
theorem ulaw_1048 : wp scr n mb_law 1048 [l0, some (.ref a), l2, l3] st M Q ↔ wp scr n mb_law 1049 [l0, some (.ref a), l2, l3] (.ref a :: st) M Q := wp_step rfl rfl rfl rfl rfl
set_option maxRecDepth 100000 in
theorem ulaw_1048b : wp scr n mb_law 1048 [l0, some (.retAddr a), l2, l3] st M Q ↔ wp scr n mb_law 1049 [l0, some (.retAddr a), l2, l3] (.retAddr a :: st) M Q := wp_step rfl rfl rfl rfl rfl
set_option maxRecDepth 100000 in
theorem ulaw_1049 : wp scr n mb_law 1049 L (.ref a :: st) M Q ↔ ((mw_r M a 5 ∧ mw_st st) ∧ Wp scr n 136 [.ref a] M (fun r1 M1 => wp scr n mb_law 1052 L (r1.toList ++ st) M1 Q)) := wp_vir rfl rfl rfl rfl rfl
set_option maxRecDepth 100000 in
theorem ulaw_1052 : wp scr n mb_law 1052 [l0, l1, some (.ref a), l3] st M Q ↔ wp scr n mb_law 1053 [l0, l1, some (.ref a), l3] (.ref a :: st) M Q := wp_step rfl rfl rfl rfl rfl
set_option maxRecDepth 100000 in
theorem ulaw_1052b : wp scr n mb_law 1052 [l0, l1, some (.retAddr a), l3] st M Q ↔ wp scr n mb_law 1053 [l0, l1, some (.retAddr a), l3] (.retAddr a :: st) M Q := wp_step rfl rfl rfl rfl rfl
set_option maxRecDepth 100000 in
theorem ulaw_1053 : wp scr n mb_law 1053 L (.ref a :: st) M Q ↔ ((mw_r M a 6 ∧ mw_st st) ∧ Wp scr n 220 [.ref a] M (fun r1 M1 => wp scr n mb_law 1056 L (r1.toList ++ st) M1 Q)) := wp_vir rfl rfl rfl rfl rfl
set_option maxRecDepth 100000 in
theorem ulaw_1056 : wp scr n mb_law 1056 L (.int y :: .int x :: st) M Q ↔ (if x = y then wp scr n mb_law 1084 L st M Q else wp scr n mb_law 1059 L st M Q) := (wp_step rfl rfl rfl rfl rfl).trans wp_ite
set_option maxRecDepth 100000 in
theorem ulaw_1059 : wp scr n mb_law 1059 L st M Q ↔ wp scr n mb_law 1060 L (.int 0 :: st) M Q := wp_step rfl rfl rfl rfl rfl
set_option maxRecDepth 100000 in
theorem ulaw_1060 : wp scr n mb_law 1060 L [.int x] M Q ↔ ((x = 0 ∨ x = 1) ∧ Q (some (.int x)) M) := wp_retb rfl rfl
set_option maxRecDepth 100000 in
theorem ulaw_1061 : wp scr n mb_law 1061 [l0, some (.ref a), l2, l3] st M Q ↔ wp scr n mb_law 1062 [l0, some (.ref a), l2, l3] (.ref a :: st) M Q := wp_step rfl rfl rfl rfl rfl
set_option maxRecDepth 100000 in
theorem ulaw_1061b : wp scr n mb_law 1061 [l0, some (.retAddr a), l2, l3] st M Q ↔ wp scr n mb_law 1062 [l0, some (.retAddr a), l2, l3] (.retAddr a :: st) M Q := wp_step rfl rfl rfl rfl rfl
set_option maxRecDepth 100000 in
theorem ulaw_1062 : wp scr n mb_law 1062 [some (.ref a), l1, l2, l3] st M Q ↔ wp scr n mb_law 1063 [some (.ref a), l1, l2, l3] (.ref a :: st) M Q := wp_step rfl rfl rfl rfl rfl
set_option maxRecDepth 100000 in
theorem ulaw_1062b : wp scr n mb_law 1062 [some (.retAddr a), l1, l2, l3] st M Q ↔ wp scr n mb_law 1063 [some (.retAddr a), l1, l2, l3] (.retAddr a :: st) M Q := wp_step rfl rfl rfl rfl rfl
set_option maxRecDepth 100000 in
theorem ulaw_1063 : wp scr n mb_law 1063 [l0, l1, l2, some (.int x)] st M Q ↔ wp scr n mb_law 1064 [l0, l1, l2, some (.int x)] (.int x :: st) M Q := wp_step rfl rfl rfl rfl rfl
set_option maxRecDepth 100000 in
theorem ulaw_1064 : wp scr n mb_law 1064 L st M Q ↔ wp scr n mb_law 1065 L (.int 1 :: st) M Q := wp_step rfl rfl rfl rfl rfl
set_option maxRecDepth 100000 in
theorem ulaw_1065 : wp scr n mb_law 1065 L (.int y :: .int x :: st) M Q ↔ wp scr n mb_law 1066 L (.int (x + y) :: st) M Q := wp_step rfl rfl rfl rfl rfl
set_option maxRecDepth 100000 in
theorem ulaw_1066 : wp scr n mb_law 1066 L (.int y :: o :: st) M Q ↔ mw_o (mm_ld (mc_X scr) M o y) (fun x => wp scr n mb_law 1067 L (.int x :: st) M Q) := wp_iald rfl
set_option maxRecDepth 100000 in
theorem ulaw_1067 : wp scr n mb_law 1067 L (a2 :: .ref a :: st) M Q ↔ ((mw_r M a 5 ∧ mw_st st) ∧ Wp scr n 137 [.ref a, a2] M (fun r1 M1 => wp scr n mb_law 1070 L (r1.toList ++ st) M1 Q)) := wp_vir rfl rfl rfl rfl rfl
set_option maxRecDepth 100000 in
theorem ulaw_1070 : wp scr n mb_law 1070 [l0, l1, some (.ref a), l3] st M Q ↔ wp scr n mb_law 1071 [l0, l1, some (.ref a), l3] (.ref a :: st) M Q := wp_step rfl rfl rfl rfl rfl
set_option maxRecDepth 100000 in
theorem ulaw_1070b : wp scr n mb_law 1070 [l0, l1, some (.retAddr a), l3] st M Q ↔ wp scr n mb_law 1071 [l0, l1, some (.retAddr a), l3] (.retAddr a :: st) M Q := wp_step rfl rfl rfl rfl rfl
set_option maxRecDepth 100000 in
theorem ulaw_1071 : wp scr n mb_law 1071 [some (.ref a), l1, l2, l3] st M Q ↔ wp scr n mb_law 1072 [some (.ref a), l1, l2, l3] (.ref a :: st) M Q := wp_step rfl rfl rfl rfl rfl
set_option maxRecDepth 100000 in
theorem ulaw_1071b : wp scr n mb_law 1071 [some (.retAddr a), l1, l2, l3] st M Q ↔ wp scr n mb_law 1072 [some (.retAddr a), l1, l2, l3] (.retAddr a :: st) M Q := wp_step rfl rfl rfl rfl rfl
set_option maxRecDepth 100000 in
theorem ulaw_1072 : wp scr n mb_law 1072 [l0, l1, l2, some (.int x)] st M Q ↔ wp scr n mb_law 1073 [l0, l1, l2, some (.int x)] (.int x :: st) M Q := wp_step rfl rfl rfl rfl rfl
set_option maxRecDepth 100000 in
theorem ulaw_1073 : wp scr n mb_law 1073 L st M Q ↔ wp scr n mb_law 1074 L (.int 1 :: st) M Q := wp_step rfl rfl rfl rfl rfl
set_option maxRecDepth 100000 in
theorem ulaw_1074 : wp scr n mb_law 1074 L (.int y :: .int x :: st) M Q ↔ wp scr n mb_law 1075 L (.int (x + y) :: st) M Q := wp_step rfl rfl rfl rfl rfl
set_option maxRecDepth 100000 in
theorem ulaw_1075 : wp scr n mb_law 1075 L (.int y :: o :: st) M Q ↔ mw_o (mm_ld (mc_X scr) M o y) (fun x => wp scr n mb_law 1076 L (.int x :: st) M Q) := wp_iald rfl
set_option maxRecDepth 100000 in
theorem ulaw_1076 : wp scr n mb_law 1076 L (a2 :: .ref a :: st) M Q ↔ ((mw_r M a 6 ∧ mw_st st) ∧ Wp scr n 221 [.ref a, a2] M (fun r1 M1 => wp scr n mb_law 1079 L (r1.toList ++ st) M1 Q)) := wp_vir rfl rfl rfl rfl rfl
set_option maxRecDepth 100000 in
theorem ulaw_1079 : wp scr n mb_law 1079 L (.int y :: .int x :: st) M Q ↔ (if x = y then wp scr n mb_law 1084 L st M Q else wp scr n mb_law 1082 L st M Q) := (wp_step rfl rfl rfl rfl rfl).trans wp_ite
set_option maxRecDepth 100000 in
theorem ulaw_1082 : wp scr n mb_law 1082 L st M Q ↔ wp scr n mb_law 1083 L (.int 0 :: st) M Q := wp_step rfl rfl rfl rfl rfl
set_option maxRecDepth 100000 in
theorem ulaw_1083 : wp scr n mb_law 1083 L [.int x] M Q ↔ ((x = 0 ∨ x = 1) ∧ Q (some (.int x)) M) := wp_retb rfl rfl
set_option maxRecDepth 100000 in
theorem ulaw_1084 : wp scr n mb_law 1084 [l0, l1, l2, some (.int x)] st M Q ↔ wp scr n mb_law 1087 (mm_sto1 [l0, l1, l2, some (.int x)] 3 (.int (x + 5))) st M Q := wp_step rfl rfl rfl rfl rfl
set_option maxRecDepth 100000 in
theorem ulaw_1087 : wp scr n mb_law 1087 L st M Q ↔ wp scr n mb_law 18 L st M Q := wp_step rfl rfl rfl rfl rfl
set_option maxRecDepth 100000 in
theorem ulaw_1090 : wp scr n mb_law 1090 L st M Q ↔ wp scr n mb_law 1091 L (.int 1 :: st) M Q := wp_step rfl rfl rfl rfl rfl
set_option maxRecDepth 100000 in
theorem ulaw_1091 : wp scr n mb_law 1091 L [.int x] M Q ↔ ((x = 0 ∨ x = 1) ∧ Q (some (.int x)) M) := wp_retb rfl rfl
end MU
