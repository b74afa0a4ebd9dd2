section MU
variable {scr : List Int32} {n : Nat} {L : mm_L} {st : List Value} {M : mm_M} {Q : Option Value → mm_M → Prop} {x y : Int32} {z w : Int64} {a : Nat} {o v a1 a2 a3 a4 a5 a6 : Value} {a0 b1 b2 b3 b4 b5 : Nat} {x1 x2 x3 x4 x5 : Int32} {z1 z2 z3 : Int64} {l0 l1 l2 l3 l4 l5 l6 l7 l8 l9 l10 l11 l12 l13 l14 : Option Value}
/-- SmallerInTheShop$Search run (LSmallerInTheShop$Sheet;)V -/
def mb_55 : mw_B := ((Option.none : Option FieldType), mp_55)
theorem u55_0 : wp scr n mb_55 0 [some (.ref a), l1] st M Q ↔ wp scr n mb_55 1 [some (.ref a), l1] (.ref a :: st) M Q := wp_step rfl rfl rfl rfl rfl
theorem u55_1 : wp scr n mb_55 1 [l0, some (.ref a)] st M Q ↔ wp scr n mb_55 2 [l0, some (.ref a)] (.ref a :: st) M Q := wp_step rfl rfl rfl rfl rfl
theorem u55_2 : wp scr n mb_55 2 [l0, some (.ref a)] st M Q ↔ wp scr n mb_55 3 [l0, some (.ref a)] (.ref a :: st) M Q := wp_step rfl rfl rfl rfl rfl
theorem u55_3 : wp scr n mb_55 3 L (o :: st) M Q ↔ mw_o (mm_fld (mc_X scr) M o 4 4) (fun v => wp scr n mb_55 6 L (v :: st) M Q) := wp_getf rfl
theorem u55_6 : wp scr n mb_55 6 L st M Q ↔ wp scr n mb_55 7 L (.int 0 :: st) M Q := wp_step rfl rfl rfl rfl rfl
theorem u55_7 : wp scr n mb_55 7 L st M Q ↔ wp scr n mb_55 8 L (.int 0 :: st) M Q := wp_step rfl rfl rfl rfl rfl
theorem u55_8 : wp scr n mb_55 8 L (a5 :: a4 :: a3 :: a2 :: .ref a :: st) M Q ↔ ((mw_r M a 3 ∧ mw_st st) ∧ Wp scr n 56 [.ref a, a2, a3, a4, a5] M (fun r1 M1 => wp scr n mb_55 11 L (r1.toList ++ st) M1 Q)) := wp_vir rfl rfl rfl rfl rfl
theorem u55_11 : wp scr n mb_55 11 L [] M Q ↔ Q none M := wp_ret rfl rfl
theorem e55 : Wp scr (n + 1) 55 [.ref a0, .ref b1] M Q ↔ wp scr n mb_55 0 [some (.ref a0), some (.ref b1)] [] M Q := Wp_to rfl rfl rfl
/-- SmallerInTheShop$Search explore (LSmallerInTheShop$Sheet;III)V -/
def mb_56 : mw_B := ((Option.none : Option FieldType), mp_56)
theorem u56_0 : wp scr n mb_56 0 [l0, l1, some (.int x), l3, l4, l5, l6, l7, l8, l9] st M Q ↔ wp scr n mb_56 1 [l0, l1, some (.int x), l3, l4, l5, l6, l7, l8, l9] (.int x :: st) M Q := wp_step rfl rfl rfl rfl rfl
theorem u56_1 : wp scr n mb_56 1 [l0, some (.ref a), l2, l3, l4, l5, l6, l7, l8, l9] st M Q ↔ wp scr n mb_56 2 [l0, some (.ref a), l2, l3, l4, l5, l6, l7, l8, l9] (.ref a :: st) M Q := wp_step rfl rfl rfl rfl rfl
theorem u56_2 : wp scr n mb_56 2 L (o :: st) M Q ↔ mw_o (mm_fld (mc_X scr) M o 4 4) (fun v => wp scr n mb_56 5 L (v :: st) M Q) := wp_getf rfl
theorem u56_5 : wp scr n mb_56 5 L (.int y :: .int x :: st) M Q ↔ (if x < y then wp scr n mb_56 13 L st M Q else wp scr n mb_56 8 L st M Q) := (wp_step rfl rfl rfl rfl rfl).trans wp_ite
theorem u56_8 : wp scr n mb_56 8 [l0, l1, some (.int x), l3, l4, l5, l6, l7, l8, l9] st M Q ↔ wp scr n mb_56 9 [l0, l1, some (.int x), l3, l4, l5, l6, l7, l8, l9] (.int x :: st) M Q := wp_step rfl rfl rfl rfl rfl
theorem u56_9 : wp scr n mb_56 9 L st M Q ↔ wp scr n mb_56 10 L (.int 4 :: st) M Q := wp_step rfl rfl rfl rfl rfl
theorem u56_10 : wp scr n mb_56 10 L (.int y :: .int x :: st) M Q ↔ (if x ≤ y then wp scr n mb_56 14 L st M Q else wp scr n mb_56 13 L st M Q) := (wp_step rfl rfl rfl rfl rfl).trans wp_ite
theorem u56_13 : wp scr n mb_56 13 L [] M Q ↔ Q none M := wp_ret rfl rfl
theorem u56_14 : wp scr n mb_56 14 [l0, some (.ref a), l2, l3, l4, l5, l6, l7, l8, l9] st M Q ↔ wp scr n mb_56 15 [l0, some (.ref a), l2, l3, l4, l5, l6, l7, l8, l9] (.ref a :: st) M Q := wp_step rfl rfl rfl rfl rfl
theorem u56_15 : wp scr n mb_56 15 L (o :: st) M Q ↔ mw_o (mm_fld (mc_X scr) M o 4 0) (fun v => wp scr n mb_56 18 L (v :: st) M Q) := wp_getf rfl
theorem u56_18 : wp scr n mb_56 18 [l0, l1, some (.int x), l3, l4, l5, l6, l7, l8, l9] st M Q ↔ wp scr n mb_56 19 [l0, l1, some (.int x), l3, l4, l5, l6, l7, l8, l9] (.int x :: st) M Q := wp_step rfl rfl rfl rfl rfl
theorem u56_19 : wp scr n mb_56 19 L (.int y :: .ref a :: st) M Q ↔ mw_o (mm_lda M a y) (fun v => wp scr n mb_56 20 L (v :: st) M Q) := wp_aald rfl
theorem u56_20 : wp scr n mb_56 20 [l0, l1, l2, l3, l4, l5, l6, l7, l8, l9] (.ref a :: st) M Q ↔ wp scr n mb_56 22 (mm_sto1 [l0, l1, l2, l3, l4, l5, l6, l7, l8, l9] 5 (.ref a)) st M Q := wp_step rfl rfl rfl rfl rfl
theorem u56_22 : wp scr n mb_56 22 [l0, l1, some (.int x), l3, l4, l5, l6, l7, l8, l9] st M Q ↔ wp scr n mb_56 23 [l0, l1, some (.int x), l3, l4, l5, l6, l7, l8, l9] (.int x :: st) M Q := wp_step rfl rfl rfl rfl rfl
theorem u56_23 : wp scr n mb_56 23 [l0, some (.ref a), l2, l3, l4, l5, l6, l7, l8, l9] st M Q ↔ wp scr n mb_56 24 [l0, some (.ref a), l2, l3, l4, l5, l6, l7, l8, l9] (.ref a :: st) M Q := wp_step rfl rfl rfl rfl rfl
theorem u56_24 : wp scr n mb_56 24 L (o :: st) M Q ↔ mw_o (mm_fld (mc_X scr) M o 4 4) (fun v => wp scr n mb_56 27 L (v :: st) M Q) := wp_getf rfl
theorem u56_27 : wp scr n mb_56 27 L (.int y :: .int x :: st) M Q ↔ wp scr n mb_56 28 L (.int (x - y) :: st) M Q := wp_step rfl rfl rfl rfl rfl
theorem u56_28 : wp scr n mb_56 28 [l0, l1, l2, l3, l4, l5, l6, l7, l8, l9] (.int x :: st) M Q ↔ wp scr n mb_56 30 (mm_sto1 [l0, l1, l2, l3, l4, l5, l6, l7, l8, l9] 6 (.int x)) st M Q := wp_step rfl rfl rfl rfl rfl
theorem u56_30 : wp scr n mb_56 30 [some (.ref a), l1, l2, l3, l4, l5, l6, l7, l8, l9] st M Q ↔ wp scr n mb_56 31 [some (.ref a), l1, l2, l3, l4, l5, l6, l7, l8, l9] (.ref a :: st) M Q := wp_step rfl rfl rfl rfl rfl
theorem u56_31 : wp scr n mb_56 31 [l0, some (.ref a), l2, l3, l4, l5, l6, l7, l8, l9] st M Q ↔ wp scr n mb_56 32 [l0, some (.ref a), l2, l3, l4, l5, l6, l7, l8, l9] (.ref a :: st) M Q := wp_step rfl rfl rfl rfl rfl
theorem u56_32 : wp scr n mb_56 32 [l0, l1, l2, l3, l4, some (.ref a), l6, l7, l8, l9] st M Q ↔ wp scr n mb_56 34 [l0, l1, l2, l3, l4, some (.ref a), l6, l7, l8, l9] (.ref a :: st) M Q := wp_step rfl rfl rfl rfl rfl
theorem u56_34 : wp scr n mb_56 34 L (a3 :: a2 :: .ref a :: st) M Q ↔ ((mw_r M a 3 ∧ mw_st st) ∧ Wp scr n 57 [.ref a, a2, a3] M (fun r1 M1 => wp scr n mb_56 37 L (r1.toList ++ st) M1 Q)) := wp_vir rfl rfl rfl rfl rfl
theorem u56_37 : wp scr n mb_56 37 L (.int x :: st) M Q ↔ (if x = 0 then wp scr n mb_56 66 L st M Q else wp scr n mb_56 40 L st M Q) := (wp_step rfl rfl rfl rfl rfl).trans wp_ite
theorem u56_40 : wp scr n mb_56 40 [some (.ref a), l1, l2, l3, l4, l5, l6, l7, l8, l9] st M Q ↔ wp scr n mb_56 41 [some (.ref a), l1, l2, l3, l4, l5, l6, l7, l8, l9] (.ref a :: st) M Q := wp_step rfl rfl rfl rfl rfl
theorem u56_41 : wp scr n mb_56 41 L (o :: st) M Q ↔ mw_o (mm_fld (mc_X scr) M o 3 1) (fun v => wp scr n mb_56 44 L (v :: st) M Q) := wp_getf rfl
theorem u56_44 : wp scr n mb_56 44 [l0, l1, l2, l3, l4, l5, some (.int x), l7, l8, l9] st M Q ↔ wp scr n mb_56 46 [l0, l1, l2, l3, l4, l5, some (.int x), l7, l8, l9] (.int x :: st) M Q := wp_step rfl rfl rfl rfl rfl
theorem u56_46 : wp scr n mb_56 46 L (.int y :: .ref a :: st) M Q ↔ wp scr n mb_56 47 L (.int y :: .ref a :: .int y :: .ref a :: st) M Q := wp_step rfl rfl rfl rfl rfl
theorem u56_47 : wp scr n mb_56 47 L (.int y :: o :: st) M Q ↔ mw_o (mm_ld (mc_X scr) M o y) (fun x => wp scr n mb_56 48 L (.int x :: st) M Q) := wp_iald rfl
theorem u56_48 : wp scr n mb_56 48 L st M Q ↔ wp scr n mb_56 49 L (.int 1 :: st) M Q := wp_step rfl rfl rfl rfl rfl
theorem u56_49 : wp scr n mb_56 49 L (.int y :: .int x :: st) M Q ↔ wp scr n mb_56 50 L (.int (x + y) :: st) M Q := wp_step rfl rfl rfl rfl rfl
theorem u56_50 : wp scr n mb_56 50 L (.int x :: .int y :: o :: st) M Q ↔ mw_o (mm_sti M o y x) (fun M1 => wp scr n mb_56 51 L st M1 Q) := wp_iast rfl
theorem u56_51 : wp scr n mb_56 51 [some (.ref a), l1, l2, l3, l4, l5, l6, l7, l8, l9] st M Q ↔ wp scr n mb_56 52 [some (.ref a), l1, l2, l3, l4, l5, l6, l7, l8, l9] (.ref a :: st) M Q := wp_step rfl rfl rfl rfl rfl
theorem u56_52 : wp scr n mb_56 52 [some (.ref a), l1, l2, l3, l4, l5, l6, l7, l8, l9] st M Q ↔ wp scr n mb_56 53 [some (.ref a), l1, l2, l3, l4, l5, l6, l7, l8, l9] (.ref a :: st) M Q := wp_step rfl rfl rfl rfl rfl
theorem u56_53 : wp scr n mb_56 53 [l0, l1, l2, l3, l4, some (.ref a), l6, l7, l8, l9] st M Q ↔ wp scr n mb_56 55 [l0, l1, l2, l3, l4, some (.ref a), l6, l7, l8, l9] (.ref a :: st) M Q := wp_step rfl rfl rfl rfl rfl
theorem u56_55 : wp scr n mb_56 55 [l0, l1, l2, l3, l4, l5, some (.int x), l7, l8, l9] st M Q ↔ wp scr n mb_56 57 [l0, l1, l2, l3, l4, l5, some (.int x), l7, l8, l9] (.int x :: st) M Q := wp_step rfl rfl rfl rfl rfl
theorem u56_57 : wp scr n mb_56 57 [l0, l1, l2, some (.int x), l4, l5, l6, l7, l8, l9] st M Q ↔ wp scr n mb_56 58 [l0, l1, l2, some (.int x), l4, l5, l6, l7, l8, l9] (.int x :: st) M Q := wp_step rfl rfl rfl rfl rfl
theorem u56_58 : wp scr n mb_56 58 L (a4 :: a3 :: a2 :: .ref a :: st) M Q ↔ ((mw_r M a 3 ∧ mw_st st) ∧ Wp scr n 59 [.ref a, a2, a3, a4] M (fun r1 M1 => wp scr n mb_56 61 L (r1.toList ++ st) M1 Q)) := wp_vir rfl rfl rfl rfl rfl
theorem u56_61 : wp scr n mb_56 61 [l0, l1, l2, l3, some (.int x), l5, l6, l7, l8, l9] st M Q ↔ wp scr n mb_56 63 [l0, l1, l2, l3, some (.int x), l5, l6, l7, l8, l9] (.int x :: st) M Q := wp_step rfl rfl rfl rfl rfl
theorem u56_63 : wp scr n mb_56 63 L (a3 :: a2 :: .ref a :: st) M Q ↔ ((mw_r M a 3 ∧ mw_st st) ∧ Wp scr n 60 [.ref a, a2, a3] M (fun r1 M1 => wp scr n mb_56 66 L (r1.toList ++ st) M1 Q)) := wp_vir rfl rfl rfl rfl rfl
theorem u56_66 : wp scr n mb_56 66 [some (.ref a), l1, l2, l3, l4, l5, l6, l7, l8, l9] st M Q ↔ wp scr n mb_56 67 [some (.ref a), l1, l2, l3, l4, l5, l6, l7, l8, l9] (.ref a :: st) M Q := wp_step rfl rfl rfl rfl rfl
theorem u56_67 : wp scr n mb_56 67 [l0, l1, l2, some (.int x), l4, l5, l6, l7, l8, l9] st M Q ↔ wp scr n mb_56 68 [l0, l1, l2, some (.int x), l4, l5, l6, l7, l8, l9] (.int x :: st) M Q := wp_step rfl rfl rfl rfl rfl
theorem u56_68 : wp scr n mb_56 68 L (a2 :: .ref a :: st) M Q ↔ ((mw_r M a 3 ∧ mw_st st) ∧ Wp scr n 61 [.ref a, a2] M (fun r1 M1 => wp scr n mb_56 71 L (r1.toList ++ st) M1 Q)) := wp_vir rfl rfl rfl rfl rfl
theorem u56_71 : wp scr n mb_56 71 L (.int x :: st) M Q ↔ (if x = 0 then wp scr n mb_56 75 L st M Q else wp scr n mb_56 74 L st M Q) := (wp_step rfl rfl rfl rfl rfl).trans wp_ite
theorem u56_74 : wp scr n mb_56 74 L [] M Q ↔ Q none M := wp_ret rfl rfl
theorem u56_75 : wp scr n mb_56 75 L st M Q ↔ wp scr n mb_56 76 L (.int 1 :: st) M Q := wp_step rfl rfl rfl rfl rfl
theorem u56_76 : wp scr n mb_56 76 [l0, l1, l2, l3, l4, l5, l6, l7, l8, l9] (.int x :: st) M Q ↔ wp scr n mb_56 78 (mm_sto1 [l0, l1, l2, l3, l4, l5, l6, l7, l8, l9] 7 (.int x)) st M Q := wp_step rfl rfl rfl rfl rfl
theorem u56_78 : wp scr n mb_56 78 [l0, l1, l2, l3, l4, l5, l6, some (.int x), l8, l9] st M Q ↔ wp scr n mb_56 80 [l0, l1, l2, l3, l4, l5, l6, some (.int x), l8, l9] (.int x :: st) M Q := wp_step rfl rfl rfl rfl rfl
theorem u56_80 : wp scr n mb_56 80 L st M Q ↔ wp scr n mb_56 81 L (.int 4 :: st) M Q := wp_step rfl rfl rfl rfl rfl
theorem u56_81 : wp scr n mb_56 81 L (.int y :: .int x :: st) M Q ↔ (if y < x then wp scr n mb_56 157 L st M Q else wp scr n mb_56 84 L st M Q) := (wp_step rfl rfl rfl rfl rfl).trans wp_ite
theorem u56_84 : wp scr n mb_56 84 L st M Q ↔ wp scr n mb_56 85 L (.int 0 :: st) M Q := wp_step rfl rfl rfl rfl rfl
theorem u56_85 : wp scr n mb_56 85 [l0, l1, l2, l3, l4, l5, l6, l7, l8, l9] (.int x :: st) M Q ↔ wp scr n mb_56 87 (mm_sto1 [l0, l1, l2, l3, l4, l5, l6, l7, l8, l9] 8 (.int x)) st M Q := wp_step rfl rfl rfl rfl rfl
theorem u56_87 : wp scr n mb_56 87 [l0, l1, l2, l3, l4, l5, l6, l7, some (.int x), l9] st M Q ↔ wp scr n mb_56 89 [l0, l1, l2, l3, l4, l5, l6, l7, some (.int x), l9] (.int x :: st) M Q := wp_step rfl rfl rfl rfl rfl
theorem u56_89 : wp scr n mb_56 89 [some (.ref a), l1, l2, l3, l4, l5, l6, l7, l8, l9] st M Q ↔ wp scr n mb_56 90 [some (.ref a), l1, l2, l3, l4, l5, l6, l7, l8, l9] (.ref a :: st) M Q := wp_step rfl rfl rfl rfl rfl
theorem u56_90 : wp scr n mb_56 90 [l0, l1, l2, l3, l4, some (.ref a), l6, l7, l8, l9] st M Q ↔ wp scr n mb_56 92 [l0, l1, l2, l3, l4, some (.ref a), l6, l7, l8, l9] (.ref a :: st) M Q := wp_step rfl rfl rfl rfl rfl
theorem u56_92 : wp scr n mb_56 92 L (a2 :: .ref a :: st) M Q ↔ ((mw_r M a 3 ∧ mw_st st) ∧ Wp scr n 62 [.ref a, a2] M (fun r1 M1 => wp scr n mb_56 95 L (r1.toList ++ st) M1 Q)) := wp_vir rfl rfl rfl rfl rfl
theorem u56_95 : wp scr n mb_56 95 L (.int y :: .int x :: st) M Q ↔ (if y ≤ x then wp scr n mb_56 151 L st M Q else wp scr n mb_56 98 L st M Q) := (wp_step rfl rfl rfl rfl rfl).trans wp_ite
theorem u56_98 : wp scr n mb_56 98 [l0, some (.ref a), l2, l3, l4, l5, l6, l7, l8, l9] st M Q ↔ wp scr n mb_56 99 [l0, some (.ref a), l2, l3, l4, l5, l6, l7, l8, l9] (.ref a :: st) M Q := wp_step rfl rfl rfl rfl rfl
theorem u56_99 : wp scr n mb_56 99 [l0, l1, some (.int x), l3, l4, l5, l6, l7, l8, l9] st M Q ↔ wp scr n mb_56 100 [l0, l1, some (.int x), l3, l4, l5, l6, l7, l8, l9] (.int x :: st) M Q := wp_step rfl rfl rfl rfl rfl
theorem u56_100 : wp scr n mb_56 100 [l0, l1, l2, l3, l4, l5, l6, some (.int x), l8, l9] st M Q ↔ wp scr n mb_56 102 [l0, l1, l2, l3, l4, l5, l6, some (.int x), l8, l9] (.int x :: st) M Q := wp_step rfl rfl rfl rfl rfl
theorem u56_102 : wp scr n mb_56 102 L (a3 :: a2 :: .ref a :: st) M Q ↔ ((mw_r M a 4 ∧ mw_st st) ∧ Wp scr n 69 [.ref a, a2, a3] M (fun r1 M1 => wp scr n mb_56 105 L (r1.toList ++ st) M1 Q)) := wp_vir rfl rfl rfl rfl rfl
theorem u56_105 : wp scr n mb_56 105 L (.int x :: st) M Q ↔ (if x = 0 then wp scr n mb_56 151 L st M Q else wp scr n mb_56 108 L st M Q) := (wp_step rfl rfl rfl rfl rfl).trans wp_ite
theorem u56_108 : wp scr n mb_56 108 [l0, some (.ref a), l2, l3, l4, l5, l6, l7, l8, l9] st M Q ↔ wp scr n mb_56 109 [l0, some (.ref a), l2, l3, l4, l5, l6, l7, l8, l9] (.ref a :: st) M Q := wp_step rfl rfl rfl rfl rfl
theorem u56_109 : wp scr n mb_56 109 [l0, l1, some (.int x), l3, l4, l5, l6, l7, l8, l9] st M Q ↔ wp scr n mb_56 110 [l0, l1, some (.int x), l3, l4, l5, l6, l7, l8, l9] (.int x :: st) M Q := wp_step rfl rfl rfl rfl rfl
theorem u56_110 : wp scr n mb_56 110 [l0, l1, l2, l3, l4, l5, l6, some (.int x), l8, l9] st M Q ↔ wp scr n mb_56 112 [l0, l1, l2, l3, l4, l5, l6, some (.int x), l8, l9] (.int x :: st) M Q := wp_step rfl rfl rfl rfl rfl
theorem u56_112 : wp scr n mb_56 112 [l0, l1, l2, l3, l4, l5, l6, l7, some (.int x), l9] st M Q ↔ wp scr n mb_56 114 [l0, l1, l2, l3, l4, l5, l6, l7, some (.int x), l9] (.int x :: st) M Q := wp_step rfl rfl rfl rfl rfl
theorem u56_114 : wp scr n mb_56 114 L (a4 :: a3 :: a2 :: .ref a :: st) M Q ↔ ((mw_r M a 4 ∧ mw_st st) ∧ Wp scr n 71 [.ref a, a2, a3, a4] M (fun r1 M1 => wp scr n mb_56 117 L (r1.toList ++ st) M1 Q)) := wp_vir rfl rfl rfl rfl rfl
theorem u56_117 : wp scr n mb_56 117 [l0, l1, l2, l3, l4, l5, l6, l7, l8, l9] (.int x :: st) M Q ↔ wp scr n mb_56 119 (mm_sto1 [l0, l1, l2, l3, l4, l5, l6, l7, l8, l9] 9 (.int x)) st M Q := wp_step rfl rfl rfl rfl rfl
theorem u56_119 : wp scr n mb_56 119 [some (.ref a), l1, l2, l3, l4, l5, l6, l7, l8, l9] st M Q ↔ wp scr n mb_56 120 [some (.ref a), l1, l2, l3, l4, l5, l6, l7, l8, l9] (.ref a :: st) M Q := wp_step rfl rfl rfl rfl rfl
theorem u56_120 : wp scr n mb_56 120 [l0, some (.ref a), l2, l3, l4, l5, l6, l7, l8, l9] st M Q ↔ wp scr n mb_56 121 [l0, some (.ref a), l2, l3, l4, l5, l6, l7, l8, l9] (.ref a :: st) M Q := wp_step rfl rfl rfl rfl rfl
theorem u56_121 : wp scr n mb_56 121 [l0, l1, some (.int x), l3, l4, l5, l6, l7, l8, l9] st M Q ↔ wp scr n mb_56 122 [l0, l1, some (.int x), l3, l4, l5, l6, l7, l8, l9] (.int x :: st) M Q := wp_step rfl rfl rfl rfl rfl
theorem u56_122 : wp scr n mb_56 122 L st M Q ↔ wp scr n mb_56 123 L (.int 1 :: st) M Q := wp_step rfl rfl rfl rfl rfl
theorem u56_123 : wp scr n mb_56 123 L (.int y :: .int x :: st) M Q ↔ wp scr n mb_56 124 L (.int (x + y) :: st) M Q := wp_step rfl rfl rfl rfl rfl
theorem u56_124 : wp scr n mb_56 124 [l0, l1, l2, some (.int x), l4, l5, l6, l7, l8, l9] st M Q ↔ wp scr n mb_56 125 [l0, l1, l2, some (.int x), l4, l5, l6, l7, l8, l9] (.int x :: st) M Q := wp_step rfl rfl rfl rfl rfl
theorem u56_125 : wp scr n mb_56 125 [l0, l1, l2, l3, l4, l5, l6, l7, l8, some (.int x)] st M Q ↔ wp scr n mb_56 127 [l0, l1, l2, l3, l4, l5, l6, l7, l8, some (.int x)] (.int x :: st) M Q := wp_step rfl rfl rfl rfl rfl
theorem u56_127 : wp scr n mb_56 127 L (.int y :: .int x :: st) M Q ↔ wp scr n mb_56 128 L (.int (x + y) :: st) M Q := wp_step rfl rfl rfl rfl rfl
theorem u56_128 : wp scr n mb_56 128 L st M Q ↔ wp scr n mb_56 130 L (.int 100 :: st) M Q := wp_step rfl rfl rfl rfl rfl
theorem u56_130 : wp scr n mb_56 130 [l0, l1, l2, l3, some (.int x), l5, l6, l7, l8, l9] st M Q ↔ wp scr n mb_56 132 [l0, l1, l2, l3, some (.int x), l5, l6, l7, l8, l9] (.int x :: st) M Q := wp_step rfl rfl rfl rfl rfl
theorem u56_132 : wp scr n mb_56 132 L (.int y :: .int x :: st) M Q ↔ wp scr n mb_56 133 L (.int (x * y) :: st) M Q := wp_step rfl rfl rfl rfl rfl
theorem u56_133 : wp scr n mb_56 133 L st M Q ↔ wp scr n mb_56 135 L (.int 10 :: st) M Q := wp_step rfl rfl rfl rfl rfl
theorem u56_135 : wp scr n mb_56 135 [l0, l1, l2, l3, l4, l5, l6, some (.int x), l8, l9] st M Q ↔ wp scr n mb_56 137 [l0, l1, l2, l3, l4, l5, l6, some (.int x), l8, l9] (.int x :: st) M Q := wp_step rfl rfl rfl rfl rfl
theorem u56_137 : wp scr n mb_56 137 L (.int y :: .int x :: st) M Q ↔ wp scr n mb_56 138 L (.int (x * y) :: st) M Q := wp_step rfl rfl rfl rfl rfl
theorem u56_138 : wp scr n mb_56 138 L (.int y :: .int x :: st) M Q ↔ wp scr n mb_56 139 L (.int (x + y) :: st) M Q := wp_step rfl rfl rfl rfl rfl
theorem u56_139 : wp scr n mb_56 139 [l0, l1, l2, l3, l4, l5, l6, l7, some (.int x), l9] st M Q ↔ wp scr n mb_56 141 [l0, l1, l2, l3, l4, l5, l6, l7, some (.int x), l9] (.int x :: st) M Q := wp_step rfl rfl rfl rfl rfl
theorem u56_141 : wp scr n mb_56 141 L (.int y :: .int x :: st) M Q ↔ wp scr n mb_56 142 L (.int (x + y) :: st) M Q := wp_step rfl rfl rfl rfl rfl
theorem u56_142 : wp scr n mb_56 142 L (a5 :: a4 :: a3 :: a2 :: .ref a :: st) M Q ↔ ((mw_r M a 3 ∧ mw_st st) ∧ Wp scr n 56 [.ref a, a2, a3, a4, a5] M (fun r1 M1 => wp scr n mb_56 145 L (r1.toList ++ st) M1 Q)) := wp_vir rfl rfl rfl rfl rfl
theorem u56_145 : wp scr n mb_56 145 [l0, l1, l2, l3, l4, l5, l6, l7, some (.int x), l9] st M Q ↔ wp scr n mb_56 148 (mm_sto1 [l0, l1, l2, l3, l4, l5, l6, l7, some (.int x), l9] 8 (.int (x + 1))) st M Q := wp_step rfl rfl rfl rfl rfl
theorem u56_148 : wp scr n mb_56 148 L st M Q ↔ wp scr n mb_56 87 L st M Q := wp_step rfl rfl rfl rfl rfl
theorem u56_151 : wp scr n mb_56 151 [l0, l1, l2, l3, l4, l5, l6, some (.int x), l8, l9] st M Q ↔ wp scr n mb_56 154 (mm_sto1 [l0, l1, l2, l3, l4, l5, l6, some (.int x), l8, l9] 7 (.int (x + 1))) st M Q := wp_step rfl rfl rfl rfl rfl
theorem u56_154 : wp scr n mb_56 154 L st M Q ↔ wp scr n mb_56 78 L st M Q := wp_step rfl rfl rfl rfl rfl
theorem u56_157 : wp scr n mb_56 157 L [] M Q ↔ Q none M := wp_ret rfl rfl
theorem e56 : Wp scr (n + 1) 56 [.ref a0, .ref b1, .int x2, .int x3, .int x4] M Q ↔ wp scr n mb_56 0 [some (.ref a0), some (.ref b1), some (.int x2), some (.int x3), some (.int x4), none, none, none, none, none] [] M Q := Wp_to rfl rfl rfl
/-- SmallerInTheShop$Search isReached (LSmallerInTheShop$Sheet;LSmallerInTheShop$Layout;)Z -/
def mb_57 : mw_B := ((Option.some FieldType.boolean), mp_57)
theorem u57_0 : wp scr n mb_57 0 [some (.ref a), l1, l2] st M Q ↔ wp scr n mb_57 1 [some (.ref a), l1, l2] (.ref a :: st) M Q := wp_step rfl rfl rfl rfl rfl
theorem u57_1 : wp scr n mb_57 1 L (o :: st) M Q ↔ mw_o (mm_fld (mc_X scr) M o 3 2) (fun v => wp scr n mb_57 4 L (v :: st) M Q) := wp_getf rfl
theorem u57_4 : wp scr n mb_57 4 L (.int x :: st) M Q ↔ wp scr n mb_57 (mw_sw x [(2, 32), (3, 65), (4, 82)] 103) L st M Q := wp_tabS (d := 99) (lo := 2) (hi := 4) (os := #[28, 61, 78]) rfl (by decide +kernel) (by decide +kernel) (by decide +kernel)
theorem u57_32 : wp scr n mb_57 32 [l0, l1, some (.ref a)] st M Q ↔ wp scr n mb_57 33 [l0, l1, some (.ref a)] (.ref a :: st) M Q := wp_step rfl rfl rfl rfl rfl
theorem u57_33 : wp scr n mb_57 33 L (.ref a :: st) M Q ↔ ((mw_r M a 1 ∧ mw_st st) ∧ Wp scr n 38 [.ref a] M (fun r1 M1 => wp scr n mb_57 36 L (r1.toList ++ st) M1 Q)) := wp_vir rfl rfl rfl rfl rfl
theorem u57_36 : wp scr n mb_57 36 [some (.ref a), l1, l2] st M Q ↔ wp scr n mb_57 37 [some (.ref a), l1, l2] (.ref a :: st) M Q := wp_step rfl rfl rfl rfl rfl
theorem u57_37 : wp scr n mb_57 37 L (o :: st) M Q ↔ mw_o (mm_fld (mc_X scr) M o 3 3) (fun v => wp scr n mb_57 40 L (v :: st) M Q) := wp_getf rfl
theorem u57_40 : wp scr n mb_57 40 L (.int y :: .int x :: st) M Q ↔ (if y < x then wp scr n mb_57 63 L st M Q else wp scr n mb_57 43 L st M Q) := (wp_step rfl rfl rfl rfl rfl).trans wp_ite
theorem u57_43 : wp scr n mb_57 43 [l0, l1, some (.ref a)] st M Q ↔ wp scr n mb_57 44 [l0, l1, some (.ref a)] (.ref a :: st) M Q := wp_step rfl rfl rfl rfl rfl
theorem u57_44 : wp scr n mb_57 44 L (.ref a :: st) M Q ↔ ((mw_r M a 1 ∧ mw_st st) ∧ Wp scr n 35 [.ref a] M (fun r1 M1 => wp scr n mb_57 47 L (r1.toList ++ st) M1 Q)) := wp_vir rfl rfl rfl rfl rfl
theorem u57_47 : wp scr n mb_57 47 [some (.ref a), l1, l2] st M Q ↔ wp scr n mb_57 48 [some (.ref a), l1, l2] (.ref a :: st) M Q := wp_step rfl rfl rfl rfl rfl
theorem u57_48 : wp scr n mb_57 48 L (o :: st) M Q ↔ mw_o (mm_fld (mc_X scr) M o 3 4) (fun v => wp scr n mb_57 51 L (v :: st) M Q) := wp_getf rfl
theorem u57_51 : wp scr n mb_57 51 L (.int y :: .int x :: st) M Q ↔ wp scr n mb_57 52 L (.int (x &&& y) :: st) M Q := wp_step rfl rfl rfl rfl rfl
theorem u57_52 : wp scr n mb_57 52 [some (.ref a), l1, l2] st M Q ↔ wp scr n mb_57 53 [some (.ref a), l1, l2] (.ref a :: st) M Q := wp_step rfl rfl rfl rfl rfl
theorem u57_53 : wp scr n mb_57 53 L (o :: st) M Q ↔ mw_o (mm_fld (mc_X scr) M o 3 4) (fun v => wp scr n mb_57 56 L (v :: st) M Q) := wp_getf rfl
theorem u57_56 : wp scr n mb_57 56 L (.int y :: .int x :: st) M Q ↔ (if x = y then wp scr n mb_57 59 L st M Q else wp scr n mb_57 63 L st M Q) := (wp_step rfl rfl rfl rfl rfl).trans wp_iten
theorem u57_59 : wp scr n mb_57 59 L st M Q ↔ wp scr n mb_57 60 L (.int 1 :: st) M Q := wp_step rfl rfl rfl rfl rfl
theorem u57_60 : wp scr n mb_57 60 L st M Q ↔ wp scr n mb_57 64 L st M Q := wp_step rfl rfl rfl rfl rfl
theorem u57_63 : wp scr n mb_57 63 L st M Q ↔ wp scr n mb_57 64 L (.int 0 :: st) M Q := wp_step rfl rfl rfl rfl rfl
theorem u57_64 : wp scr n mb_57 64 L [.int x] M Q ↔ ((x = 0 ∨ x = 1) ∧ Q (some (.int x)) M) := wp_retb rfl rfl
theorem u57_65 : wp scr n mb_57 65 [l0, l1, some (.ref a)] st M Q ↔ wp scr n mb_57 66 [l0, l1, some (.ref a)] (.ref a :: st) M Q := wp_step rfl rfl rfl rfl rfl
theorem u57_66 : wp scr n mb_57 66 L (.ref a :: st) M Q ↔ ((mw_r M a 1 ∧ mw_st st) ∧ Wp scr n 38 [.ref a] M (fun r1 M1 => wp scr n mb_57 69 L (r1.toList ++ st) M1 Q)) := wp_vir rfl rfl rfl rfl rfl
theorem u57_69 : wp scr n mb_57 69 [some (.ref a), l1, l2] st M Q ↔ wp scr n mb_57 70 [some (.ref a), l1, l2] (.ref a :: st) M Q := wp_step rfl rfl rfl rfl rfl
theorem u57_70 : wp scr n mb_57 70 L (o :: st) M Q ↔ mw_o (mm_fld (mc_X scr) M o 3 3) (fun v => wp scr n mb_57 73 L (v :: st) M Q) := wp_getf rfl
theorem u57_73 : wp scr n mb_57 73 L (.int y :: .int x :: st) M Q ↔ (if y < x then wp scr n mb_57 80 L st M Q else wp scr n mb_57 76 L st M Q) := (wp_step rfl rfl rfl rfl rfl).trans wp_ite
theorem u57_76 : wp scr n mb_57 76 L st M Q ↔ wp scr n mb_57 77 L (.int 1 :: st) M Q := wp_step rfl rfl rfl rfl rfl
theorem u57_77 : wp scr n mb_57 77 L st M Q ↔ wp scr n mb_57 81 L st M Q := wp_step rfl rfl rfl rfl rfl
theorem u57_80 : wp scr n mb_57 80 L st M Q ↔ wp scr n mb_57 81 L (.int 0 :: st) M Q := wp_step rfl rfl rfl rfl rfl
theorem u57_81 : wp scr n mb_57 81 L [.int x] M Q ↔ ((x = 0 ∨ x = 1) ∧ Q (some (.int x)) M) := wp_retb rfl rfl
theorem u57_82 : wp scr n mb_57 82 [l0, l1, some (.ref a)] st M Q ↔ wp scr n mb_57 83 [l0, l1, some (.ref a)] (.ref a :: st) M Q := wp_step rfl rfl rfl rfl rfl
theorem u57_83 : wp scr n mb_57 83 L (.ref a :: st) M Q ↔ ((mw_r M a 1 ∧ mw_st st) ∧ Wp scr n 39 [.ref a] M (fun r1 M1 => wp scr n mb_57 86 L (r1.toList ++ st) M1 Q)) := wp_vir rfl rfl rfl rfl rfl
theorem u57_86 : wp scr n mb_57 86 L (.int x :: st) M Q ↔ (if x = 0 then wp scr n mb_57 101 L st M Q else wp scr n mb_57 89 L st M Q) := (wp_step rfl rfl rfl rfl rfl).trans wp_ite
theorem u57_89 : wp scr n mb_57 89 [some (.ref a), l1, l2] st M Q ↔ wp scr n mb_57 90 [some (.ref a), l1, l2] (.ref a :: st) M Q := wp_step rfl rfl rfl rfl rfl
theorem u57_90 : wp scr n mb_57 90 [l0, l1, some (.ref a)] st M Q ↔ wp scr n mb_57 91 [l0, l1, some (.ref a)] (.ref a :: st) M Q := wp_step rfl rfl rfl rfl rfl
theorem u57_91 : wp scr n mb_57 91 L (a2 :: .ref a :: st) M Q ↔ ((mw_r M a 3 ∧ mw_st st) ∧ Wp scr n 58 [.ref a, a2] M (fun r1 M1 => wp scr n mb_57 94 L (r1.toList ++ st) M1 Q)) := wp_vir rfl rfl rfl rfl rfl
theorem u57_94 : wp scr n mb_57 94 L (.int x :: st) M Q ↔ (if x = 0 then wp scr n mb_57 101 L st M Q else wp scr n mb_57 97 L st M Q) := (wp_step rfl rfl rfl rfl rfl).trans wp_ite
theorem u57_97 : wp scr n mb_57 97 L st M Q ↔ wp scr n mb_57 98 L (.int 1 :: st) M Q := wp_step rfl rfl rfl rfl rfl
theorem u57_98 : wp scr n mb_57 98 L st M Q ↔ wp scr n mb_57 102 L st M Q := wp_step rfl rfl rfl rfl rfl
theorem u57_101 : wp scr n mb_57 101 L st M Q ↔ wp scr n mb_57 102 L (.int 0 :: st) M Q := wp_step rfl rfl rfl rfl rfl
theorem u57_102 : wp scr n mb_57 102 L [.int x] M Q ↔ ((x = 0 ∨ x = 1) ∧ Q (some (.int x)) M) := wp_retb rfl rfl
theorem u57_103 : wp scr n mb_57 103 [l0, l1, some (.ref a)] st M Q ↔ wp scr n mb_57 104 [l0, l1, some (.ref a)] (.ref a :: st) M Q := wp_step rfl rfl rfl rfl rfl
theorem u57_104 : wp scr n mb_57 104 L (.ref a :: st) M Q ↔ ((mw_r M a 1 ∧ mw_st st) ∧ Wp scr n 39 [.ref a] M (fun r1 M1 => wp scr n mb_57 107 L (r1.toList ++ st) M1 Q)) := wp_vir rfl rfl rfl rfl rfl
theorem u57_107 : wp scr n mb_57 107 L (.int x :: st) M Q ↔ (if x = 0 then wp scr n mb_57 125 L st M Q else wp scr n mb_57 110 L st M Q) := (wp_step rfl rfl rfl rfl rfl).trans wp_ite
theorem u57_110 : wp scr n mb_57 110 [l0, l1, some (.ref a)] st M Q ↔ wp scr n mb_57 111 [l0, l1, some (.ref a)] (.ref a :: st) M Q := wp_step rfl rfl rfl rfl rfl
theorem u57_111 : wp scr n mb_57 111 [l0, some (.ref a), l2] st M Q ↔ wp scr n mb_57 112 [l0, some (.ref a), l2] (.ref a :: st) M Q := wp_step rfl rfl rfl rfl rfl
theorem u57_112 : wp scr n mb_57 112 L (o :: st) M Q ↔ mw_o (mm_fld (mc_X scr) M o 4 5) (fun v => wp scr n mb_57 115 L (v :: st) M Q) := wp_getf rfl
theorem u57_115 : wp scr n mb_57 115 L (a2 :: .ref a :: st) M Q ↔ ((mw_r M a 1 ∧ mw_st st) ∧ Wp scr n 36 [.ref a, a2] M (fun r1 M1 => wp scr n mb_57 118 L (r1.toList ++ st) M1 Q)) := wp_vir rfl rfl rfl rfl rfl
theorem u57_118 : wp scr n mb_57 118 L (.int x :: st) M Q ↔ (if x = 0 then wp scr n mb_57 125 L st M Q else wp scr n mb_57 121 L st M Q) := (wp_step rfl rfl rfl rfl rfl).trans wp_ite
theorem u57_121 : wp scr n mb_57 121 L st M Q ↔ wp scr n mb_57 122 L (.int 1 :: st) M Q := wp_step rfl rfl rfl rfl rfl
theorem u57_122 : wp scr n mb_57 122 L st M Q ↔ wp scr n mb_57 126 L st M Q := wp_step rfl rfl rfl rfl rfl
theorem u57_125 : wp scr n mb_57 125 L st M Q ↔ wp scr n mb_57 126 L (.int 0 :: st) M Q := wp_step rfl rfl rfl rfl rfl
theorem u57_126 : wp scr n mb_57 126 L [.int x] M Q ↔ ((x = 0 ∨ x = 1) ∧ Q (some (.int x)) M) := wp_retb rfl rfl
theorem e57 : Wp scr (n + 1) 57 [.ref a0, .ref b1, .ref b2] M Q ↔ wp scr n mb_57 0 [some (.ref a0), some (.ref b1), some (.ref b2)] [] M Q := Wp_to rfl rfl rfl
/-- SmallerInTheShop$Search liesAsWanted (LSmallerInTheShop$Layout;)Z -/
def mb_58 : mw_B := ((Option.some FieldType.boolean), mp_58)
theorem u58_0 : wp scr n mb_58 0 L st M Q ↔ wp scr n mb_58 1 L (.int 0 :: st) M Q := wp_step rfl rfl rfl rfl rfl
theorem u58_1 : wp scr n mb_58 1 [l0, l1, l2] (.int x :: st) M Q ↔ wp scr n mb_58 2 (mm_sto1 [l0, l1, l2] 2 (.int x)) st M Q := wp_step rfl rfl rfl rfl rfl
theorem u58_2 : wp scr n mb_58 2 [l0, l1, some (.int x)] st M Q ↔ wp scr n mb_58 3 [l0, l1, some (.int x)] (.int x :: st) M Q := wp_step rfl rfl rfl rfl rfl
theorem u58_3 : wp scr n mb_58 3 L st M Q ↔ wp scr n mb_58 5 L (.int 8 :: st) M Q := wp_step rfl rfl rfl rfl rfl
theorem u58_5 : wp scr n mb_58 5 L (.int y :: .int x :: st) M Q ↔ (if y ≤ x then wp scr n mb_58 31 L st M Q else wp scr n mb_58 8 L st M Q) := (wp_step rfl rfl rfl rfl rfl).trans wp_ite
theorem u58_8 : wp scr n mb_58 8 [l0, some (.ref a), l2] st M Q ↔ wp scr n mb_58 9 [l0, some (.ref a), l2] (.ref a :: st) M Q := wp_step rfl rfl rfl rfl rfl
theorem u58_9 : wp scr n mb_58 9 L (o :: st) M Q ↔ mw_o (mm_fld (mc_X scr) M o 1 2) (fun v => wp scr n mb_58 12 L (v :: st) M Q) := wp_getf rfl
theorem u58_12 : wp scr n mb_58 12 [l0, l1, some (.int x)] st M Q ↔ wp scr n mb_58 13 [l0, l1, some (.int x)] (.int x :: st) M Q := wp_step rfl rfl rfl rfl rfl
theorem u58_13 : wp scr n mb_58 13 L (.int y :: o :: st) M Q ↔ mw_o (mm_ld (mc_X scr) M o y) (fun x => wp scr n mb_58 14 L (.int x :: st) M Q) := wp_iald rfl
theorem u58_14 : wp scr n mb_58 14 [some (.ref a), l1, l2] st M Q ↔ wp scr n mb_58 15 [some (.ref a), l1, l2] (.ref a :: st) M Q := wp_step rfl rfl rfl rfl rfl
theorem u58_15 : wp scr n mb_58 15 L (o :: st) M Q ↔ mw_o (mm_fld (mc_X scr) M o 3 0) (fun v => wp scr n mb_58 18 L (v :: st) M Q) := wp_getf rfl
theorem u58_18 : wp scr n mb_58 18 [l0, l1, some (.int x)] st M Q ↔ wp scr n mb_58 19 [l0, l1, some (.int x)] (.int x :: st) M Q := wp_step rfl rfl rfl rfl rfl
theorem u58_19 : wp scr n mb_58 19 L (.int y :: o :: st) M Q ↔ mw_o (mm_ld (mc_X scr) M o y) (fun x => wp scr n mb_58 20 L (.int x :: st) M Q) := wp_iald rfl
theorem u58_20 : wp scr n mb_58 20 L (.int y :: .int x :: st) M Q ↔ (if x = y then wp scr n mb_58 25 L st M Q else wp scr n mb_58 23 L st M Q) := (wp_step rfl rfl rfl rfl rfl).trans wp_ite
theorem u58_23 : wp scr n mb_58 23 L st M Q ↔ wp scr n mb_58 24 L (.int 0 :: st) M Q := wp_step rfl rfl rfl rfl rfl
theorem u58_24 : wp scr n mb_58 24 L [.int x] M Q ↔ ((x = 0 ∨ x = 1) ∧ Q (some (.int x)) M) := wp_retb rfl rfl
theorem u58_25 : wp scr n mb_58 25 [l0, l1, some (.int x)] st M Q ↔ wp scr n mb_58 28 (mm_sto1 [l0, l1, some (.int x)] 2 (.int (x + 1))) st M Q := wp_step rfl rfl rfl rfl rfl
theorem u58_28 : wp scr n mb_58 28 L st M Q ↔ wp scr n mb_58 2 L st M Q := wp_step rfl rfl rfl rfl rfl
theorem u58_31 : wp scr n mb_58 31 L st M Q ↔ wp scr n mb_58 32 L (.int 1 :: st) M Q := wp_step rfl rfl rfl rfl rfl
theorem u58_32 : wp scr n mb_58 32 L [.int x] M Q ↔ ((x = 0 ∨ x = 1) ∧ Q (some (.int x)) M) := wp_retb rfl rfl
theorem e58 : Wp scr (n + 1) 58 [.ref a0, .ref b1] M Q ↔ wp scr n mb_58 0 [some (.ref a0), some (.ref b1), none] [] M Q := Wp_to rfl rfl rfl
/-- SmallerInTheShop$Search costOf (LSmallerInTheShop$Layout;II)I -/
def mb_59 : mw_B := ((Option.some FieldType.int), mp_59)
theorem u59_0 : wp scr n mb_59 0 [some (.ref a), l1, l2, l3] st M Q ↔ wp scr n mb_59 1 [some (.ref a), l1, l2, l3] (.ref a :: st) M Q := wp_step rfl rfl rfl rfl rfl
theorem u59_1 : wp scr n mb_59 1 L (o :: st) M Q ↔ mw_o (mm_fld (mc_X scr) M o 3 2) (fun v => wp scr n mb_59 4 L (v :: st) M Q) := wp_getf rfl
theorem u59_4 : wp scr n mb_59 4 L (.int x :: st) M Q ↔ wp scr n mb_59 (mw_sw x [(1, 32), (3, 34)] 50) L st M Q := wp_lookS (d := 46) (ps := #[(1, 28), (3, 30)]) rfl (by decide +kernel) (by decide +kernel)
theorem u59_32 : wp scr n mb_59 32 [l0, l1, some (.int x), l3] st M Q ↔ wp scr n mb_59 33 [l0, l1, some (.int x), l3] (.int x :: st) M Q := wp_step rfl rfl rfl rfl rfl
theorem u59_33 : wp scr n mb_59 33 L [.int x] M Q ↔ Q (some (.int x)) M := wp_ret rfl rfl
theorem u59_34 : wp scr n mb_59 34 L st M Q ↔ wp scr n mb_59 36 L (.int 8 :: st) M Q := wp_step rfl rfl rfl rfl rfl
theorem u59_36 : wp scr n mb_59 36 [l0, some (.ref a), l2, l3] st M Q ↔ wp scr n mb_59 37 [l0, some (.ref a), l2, l3] (.ref a :: st) M Q := wp_step rfl rfl rfl rfl rfl
theorem u59_37 : wp scr n mb_59 37 L (.ref a :: st) M Q ↔ ((mw_r M a 1 ∧ mw_st st) ∧ Wp scr n 35 [.ref a] M (fun r1 M1 => wp scr n mb_59 40 L (r1.toList ++ st) M1 Q)) := wp_vir rfl rfl rfl rfl rfl
theorem u59_40 : wp scr n mb_59 40 [some (.ref a), l1, l2, l3] st M Q ↔ wp scr n mb_59 41 [some (.ref a), l1, l2, l3] (.ref a :: st) M Q := wp_step rfl rfl rfl rfl rfl
theorem u59_41 : wp scr n mb_59 41 L (o :: st) M Q ↔ mw_o (mm_fld (mc_X scr) M o 3 4) (fun v => wp scr n mb_59 44 L (v :: st) M Q) := wp_getf rfl
theorem u59_44 : wp scr n mb_59 44 L (.int y :: .int x :: st) M Q ↔ wp scr n mb_59 45 L (.int (x &&& y) :: st) M Q := wp_step rfl rfl rfl rfl rfl
theorem u59_45 : wp scr n mb_59 45 L (a1 :: st) M Q ↔ (mw_st st ∧ Wp scr n 0 [a1] M (fun r1 M1 => wp scr n mb_59 48 L (r1.toList ++ st) M1 Q)) := wp_sta rfl rfl rfl rfl
theorem u59_48 : wp scr n mb_59 48 L (.int y :: .int x :: st) M Q ↔ wp scr n mb_59 49 L (.int (x - y) :: st) M Q := wp_step rfl rfl rfl rfl rfl
theorem u59_49 : wp scr n mb_59 49 L [.int x] M Q ↔ Q (some (.int x)) M := wp_ret rfl rfl
theorem u59_50 : wp scr n mb_59 50 [l0, l1, l2, some (.int x)] st M Q ↔ wp scr n mb_59 51 [l0, l1, l2, some (.int x)] (.int x :: st) M Q := wp_step rfl rfl rfl rfl rfl
theorem u59_51 : wp scr n mb_59 51 L [.int x] M Q ↔ Q (some (.int x)) M := wp_ret rfl rfl
theorem e59 : Wp scr (n + 1) 59 [.ref a0, .ref b1, .int x2, .int x3] M Q ↔ wp scr n mb_59 0 [some (.ref a0), some (.ref b1), some (.int x2), some (.int x3)] [] M Q := Wp_to rfl rfl rfl
/-- SmallerInTheShop$Search offer (II)V -/
def mb_60 : mw_B := ((Option.none : Option FieldType), mp_60)
theorem u60_0 : wp scr n mb_60 0 [some (.ref a), l1, l2] st M Q ↔ wp scr n mb_60 1 [some (.ref a), l1, l2] (.ref a :: st) M Q := wp_step rfl rfl rfl rfl rfl
theorem u60_1 : wp scr n mb_60 1 L (o :: st) M Q ↔ mw_o (mm_fld (mc_X scr) M o 3 5) (fun v => wp scr n mb_60 4 L (v :: st) M Q) := wp_getf rfl
theorem u60_4 : wp scr n mb_60 4 L (.int x :: st) M Q ↔ (if x = 0 then wp scr n mb_60 31 L st M Q else wp scr n mb_60 7 L st M Q) := (wp_step rfl rfl rfl rfl rfl).trans wp_ite
theorem u60_7 : wp scr n mb_60 7 [l0, some (.int x), l2] st M Q ↔ wp scr n mb_60 8 [l0, some (.int x), l2] (.int x :: st) M Q := wp_step rfl rfl rfl rfl rfl
theorem u60_8 : wp scr n mb_60 8 [some (.ref a), l1, l2] st M Q ↔ wp scr n mb_60 9 [some (.ref a), l1, l2] (.ref a :: st) M Q := wp_step rfl rfl rfl rfl rfl
theorem u60_9 : wp scr n mb_60 9 L (o :: st) M Q ↔ mw_o (mm_fld (mc_X scr) M o 3 6) (fun v => wp scr n mb_60 12 L (v :: st) M Q) := wp_getf rfl
theorem u60_12 : wp scr n mb_60 12 L (.int y :: .int x :: st) M Q ↔ (if x < y then wp scr n mb_60 31 L st M Q else wp scr n mb_60 15 L st M Q) := (wp_step rfl rfl rfl rfl rfl).trans wp_ite
theorem u60_15 : wp scr n mb_60 15 [l0, some (.int x), l2] st M Q ↔ wp scr n mb_60 16 [l0, some (.int x), l2] (.int x :: st) M Q := wp_step rfl rfl rfl rfl rfl
theorem u60_16 : wp scr n mb_60 16 [some (.ref a), l1, l2] st M Q ↔ wp scr n mb_60 17 [some (.ref a), l1, l2] (.ref a :: st) M Q := wp_step rfl rfl rfl rfl rfl
theorem u60_17 : wp scr n mb_60 17 L (o :: st) M Q ↔ mw_o (mm_fld (mc_X scr) M o 3 6) (fun v => wp scr n mb_60 20 L (v :: st) M Q) := wp_getf rfl
theorem u60_20 : wp scr n mb_60 20 L (.int y :: .int x :: st) M Q ↔ (if x = y then wp scr n mb_60 23 L st M Q else wp scr n mb_60 46 L st M Q) := (wp_step rfl rfl rfl rfl rfl).trans wp_iten
theorem u60_23 : wp scr n mb_60 23 [l0, l1, some (.int x)] st M Q ↔ wp scr n mb_60 24 [l0, l1, some (.int x)] (.int x :: st) M Q := wp_step rfl rfl rfl rfl rfl
theorem u60_24 : wp scr n mb_60 24 [some (.ref a), l1, l2] st M Q ↔ wp scr n mb_60 25 [some (.ref a), l1, l2] (.ref a :: st) M Q := wp_step rfl rfl rfl rfl rfl
theorem u60_25 : wp scr n mb_60 25 L (o :: st) M Q ↔ mw_o (mm_fld (mc_X scr) M o 3 7) (fun v => wp scr n mb_60 28 L (v :: st) M Q) := wp_getf rfl
theorem u60_28 : wp scr n mb_60 28 L (.int y :: .int x :: st) M Q ↔ (if y ≤ x then wp scr n mb_60 46 L st M Q else wp scr n mb_60 31 L st M Q) := (wp_step rfl rfl rfl rfl rfl).trans wp_ite
theorem u60_31 : wp scr n mb_60 31 [some (.ref a), l1, l2] st M Q ↔ wp scr n mb_60 32 [some (.ref a), l1, l2] (.ref a :: st) M Q := wp_step rfl rfl rfl rfl rfl
theorem u60_32 : wp scr n mb_60 32 L st M Q ↔ wp scr n mb_60 33 L (.int 1 :: st) M Q := wp_step rfl rfl rfl rfl rfl
theorem u60_33 : wp scr n mb_60 33 L (v :: o :: st) M Q ↔ mw_o (mm_put mc_fty M o v 3 5) (fun M1 => wp scr n mb_60 36 L st M1 Q) := wp_putf rfl
theorem u60_36 : wp scr n mb_60 36 [some (.ref a), l1, l2] st M Q ↔ wp scr n mb_60 37 [some (.ref a), l1, l2] (.ref a :: st) M Q := wp_step rfl rfl rfl rfl rfl
theorem u60_37 : wp scr n mb_60 37 [l0, some (.int x), l2] st M Q ↔ wp scr n mb_60 38 [l0, some (.int x), l2] (.int x :: st) M Q := wp_step rfl rfl rfl rfl rfl
theorem u60_38 : wp scr n mb_60 38 L (v :: o :: st) M Q ↔ mw_o (mm_put mc_fty M o v 3 6) (fun M1 => wp scr n mb_60 41 L st M1 Q) := wp_putf rfl
theorem u60_41 : wp scr n mb_60 41 [some (.ref a), l1, l2] st M Q ↔ wp scr n mb_60 42 [some (.ref a), l1, l2] (.ref a :: st) M Q := wp_step rfl rfl rfl rfl rfl
theorem u60_42 : wp scr n mb_60 42 [l0, l1, some (.int x)] st M Q ↔ wp scr n mb_60 43 [l0, l1, some (.int x)] (.int x :: st) M Q := wp_step rfl rfl rfl rfl rfl
theorem u60_43 : wp scr n mb_60 43 L (v :: o :: st) M Q ↔ mw_o (mm_put mc_fty M o v 3 7) (fun M1 => wp scr n mb_60 46 L st M1 Q) := wp_putf rfl
theorem u60_46 : wp scr n mb_60 46 L [] M Q ↔ Q none M := wp_ret rfl rfl
theorem e60 : Wp scr (n + 1) 60 [.ref a0, .int x1, .int x2] M Q ↔ wp scr n mb_60 0 [some (.ref a0), some (.int x1), some (.int x2)] [] M Q := Wp_to rfl rfl rfl
/-- SmallerInTheShop$Search isHopeless (I)Z -/
def mb_61 : mw_B := ((Option.some FieldType.boolean), mp_61)
theorem u61_0 : wp scr n mb_61 0 [some (.ref a), l1, l2] st M Q ↔ wp scr n mb_61 1 [some (.ref a), l1, l2] (.ref a :: st) M Q := wp_step rfl rfl rfl rfl rfl
theorem u61_1 : wp scr n mb_61 1 L (o :: st) M Q ↔ mw_o (mm_fld (mc_X scr) M o 3 2) (fun v => wp scr n mb_61 4 L (v :: st) M Q) := wp_getf rfl
theorem u61_4 : wp scr n mb_61 4 L st M Q ↔ wp scr n mb_61 5 L (.int 1 :: st) M Q := wp_step rfl rfl rfl rfl rfl
theorem u61_5 : wp scr n mb_61 5 L (.int y :: .int x :: st) M Q ↔ (if x = y then wp scr n mb_61 20 L st M Q else wp scr n mb_61 8 L st M Q) := (wp_step rfl rfl rfl rfl rfl).trans wp_ite
theorem u61_8 : wp scr n mb_61 8 [some (.ref a), l1, l2] st M Q ↔ wp scr n mb_61 9 [some (.ref a), l1, l2] (.ref a :: st) M Q := wp_step rfl rfl rfl rfl rfl
theorem u61_9 : wp scr n mb_61 9 L (o :: st) M Q ↔ mw_o (mm_fld (mc_X scr) M o 3 2) (fun v => wp scr n mb_61 12 L (v :: st) M Q) := wp_getf rfl
theorem u61_12 : wp scr n mb_61 12 L st M Q ↔ wp scr n mb_61 13 L (.int 3 :: st) M Q := wp_step rfl rfl rfl rfl rfl
theorem u61_13 : wp scr n mb_61 13 L (.int y :: .int x :: st) M Q ↔ (if x = y then wp scr n mb_61 20 L st M Q else wp scr n mb_61 16 L st M Q) := (wp_step rfl rfl rfl rfl rfl).trans wp_ite
theorem u61_16 : wp scr n mb_61 16 L st M Q ↔ wp scr n mb_61 17 L (.int 1 :: st) M Q := wp_step rfl rfl rfl rfl rfl
theorem u61_17 : wp scr n mb_61 17 L st M Q ↔ wp scr n mb_61 21 L st M Q := wp_step rfl rfl rfl rfl rfl
theorem u61_20 : wp scr n mb_61 20 L st M Q ↔ wp scr n mb_61 21 L (.int 0 :: st) M Q := wp_step rfl rfl rfl rfl rfl
theorem u61_21 : wp scr n mb_61 21 [l0, l1, l2] (.int x :: st) M Q ↔ wp scr n mb_61 22 (mm_sto1 [l0, l1, l2] 2 (.int x)) st M Q := wp_step rfl rfl rfl rfl rfl
theorem u61_22 : wp scr n mb_61 22 [l0, l1, some (.int x)] st M Q ↔ wp scr n mb_61 23 [l0, l1, some (.int x)] (.int x :: st) M Q := wp_step rfl rfl rfl rfl rfl
theorem u61_23 : wp scr n mb_61 23 L (.int x :: st) M Q ↔ (if x = 0 then wp scr n mb_61 45 L st M Q else wp scr n mb_61 26 L st M Q) := (wp_step rfl rfl rfl rfl rfl).trans wp_ite
theorem u61_26 : wp scr n mb_61 26 [some (.ref a), l1, l2] st M Q ↔ wp scr n mb_61 27 [some (.ref a), l1, l2] (.ref a :: st) M Q := wp_step rfl rfl rfl rfl rfl
theorem u61_27 : wp scr n mb_61 27 L (o :: st) M Q ↔ mw_o (mm_fld (mc_X scr) M o 3 5) (fun v => wp scr n mb_61 30 L (v :: st) M Q) := wp_getf rfl
theorem u61_30 : wp scr n mb_61 30 L (.int x :: st) M Q ↔ (if x = 0 then wp scr n mb_61 45 L st M Q else wp scr n mb_61 33 L st M Q) := (wp_step rfl rfl rfl rfl rfl).trans wp_ite
theorem u61_33 : wp scr n mb_61 33 [l0, some (.int x), l2] st M Q ↔ wp scr n mb_61 34 [l0, some (.int x), l2] (.int x :: st) M Q := wp_step rfl rfl rfl rfl rfl
theorem u61_34 : wp scr n mb_61 34 [some (.ref a), l1, l2] st M Q ↔ wp scr n mb_61 35 [some (.ref a), l1, l2] (.ref a :: st) M Q := wp_step rfl rfl rfl rfl rfl
theorem u61_35 : wp scr n mb_61 35 L (o :: st) M Q ↔ mw_o (mm_fld (mc_X scr) M o 3 6) (fun v => wp scr n mb_61 38 L (v :: st) M Q) := wp_getf rfl
theorem u61_38 : wp scr n mb_61 38 L (.int y :: .int x :: st) M Q ↔ (if x ≤ y then wp scr n mb_61 45 L st M Q else wp scr n mb_61 41 L st M Q) := (wp_step rfl rfl rfl rfl rfl).trans wp_ite
theorem u61_41 : wp scr n mb_61 41 L st M Q ↔ wp scr n mb_61 42 L (.int 1 :: st) M Q := wp_step rfl rfl rfl rfl rfl
theorem u61_42 : wp scr n mb_61 42 L st M Q ↔ wp scr n mb_61 46 L st M Q := wp_step rfl rfl rfl rfl rfl
theorem u61_45 : wp scr n mb_61 45 L st M Q ↔ wp scr n mb_61 46 L (.int 0 :: st) M Q := wp_step rfl rfl rfl rfl rfl
theorem u61_46 : wp scr n mb_61 46 L [.int x] M Q ↔ ((x = 0 ∨ x = 1) ∧ Q (some (.int x)) M) := wp_retb rfl rfl
theorem e61 : Wp scr (n + 1) 61 [.ref a0, .int x1] M Q ↔ wp scr n mb_61 0 [some (.ref a0), some (.int x1), none] [] M Q := Wp_to rfl rfl rfl
/-- SmallerInTheShop$Search waysToTry (LSmallerInTheShop$Layout;)I -/
def mb_62 : mw_B := ((Option.some FieldType.int), mp_62)
theorem u62_0 : wp scr n mb_62 0 [some (.ref a), l1] st M Q ↔ wp scr n mb_62 1 [some (.ref a), l1] (.ref a :: st) M Q := wp_step rfl rfl rfl rfl rfl
theorem u62_1 : wp scr n mb_62 1 L (o :: st) M Q ↔ mw_o (mm_fld (mc_X scr) M o 3 2) (fun v => wp scr n mb_62 4 L (v :: st) M Q) := wp_getf rfl
theorem u62_4 : wp scr n mb_62 4 L st M Q ↔ wp scr n mb_62 5 L (.int 4 :: st) M Q := wp_step rfl rfl rfl rfl rfl
theorem u62_5 : wp scr n mb_62 5 L (.int y :: .int x :: st) M Q ↔ (if x = y then wp scr n mb_62 8 L st M Q else wp scr n mb_62 20 L st M Q) := (wp_step rfl rfl rfl rfl rfl).trans wp_iten
theorem u62_8 : wp scr n mb_62 8 [l0, some (.ref a)] st M Q ↔ wp scr n mb_62 9 [l0, some (.ref a)] (.ref a :: st) M Q := wp_step rfl rfl rfl rfl rfl
theorem u62_9 : wp scr n mb_62 9 L (.ref a :: st) M Q ↔ ((mw_r M a 1 ∧ mw_st st) ∧ Wp scr n 38 [.ref a] M (fun r1 M1 => wp scr n mb_62 12 L (r1.toList ++ st) M1 Q)) := wp_vir rfl rfl rfl rfl rfl
theorem u62_12 : wp scr n mb_62 12 L st M Q ↔ wp scr n mb_62 13 L (.int 2 :: st) M Q := wp_step rfl rfl rfl rfl rfl
theorem u62_13 : wp scr n mb_62 13 L (.int y :: .int x :: st) M Q ↔ (if x = y then wp scr n mb_62 16 L st M Q else wp scr n mb_62 20 L st M Q) := (wp_step rfl rfl rfl rfl rfl).trans wp_iten
theorem u62_16 : wp scr n mb_62 16 L st M Q ↔ wp scr n mb_62 17 L (.int 4 :: st) M Q := wp_step rfl rfl rfl rfl rfl
theorem u62_17 : wp scr n mb_62 17 L st M Q ↔ wp scr n mb_62 21 L st M Q := wp_step rfl rfl rfl rfl rfl
theorem u62_20 : wp scr n mb_62 20 L st M Q ↔ wp scr n mb_62 21 L (.int 2 :: st) M Q := wp_step rfl rfl rfl rfl rfl
theorem u62_21 : wp scr n mb_62 21 L [.int x] M Q ↔ Q (some (.int x)) M := wp_ret rfl rfl
theorem e62 : Wp scr (n + 1) 62 [.ref a0, .ref b1] M Q ↔ wp scr n mb_62 0 [some (.ref a0), some (.ref b1)] [] M Q := Wp_to rfl rfl rfl
/-- SmallerInTheShop$Search wayFound ()I -/
def mb_63 : mw_B := ((Option.some FieldType.int), mp_63)
theorem u63_0 : wp scr n mb_63 0 [some (.ref a)] st M Q ↔ wp scr n mb_63 1 [some (.ref a)] (.ref a :: st) M Q := wp_step rfl rfl rfl rfl rfl
theorem u63_1 : wp scr n mb_63 1 L (o :: st) M Q ↔ mw_o (mm_fld (mc_X scr) M o 3 5) (fun v => wp scr n mb_63 4 L (v :: st) M Q) := wp_getf rfl
theorem u63_4 : wp scr n mb_63 4 L (.int x :: st) M Q ↔ (if x = 0 then wp scr n mb_63 14 L st M Q else wp scr n mb_63 7 L st M Q) := (wp_step rfl rfl rfl rfl rfl).trans wp_ite
theorem u63_7 : wp scr n mb_63 7 [some (.ref a)] st M Q ↔ wp scr n mb_63 8 [some (.ref a)] (.ref a :: st) M Q := wp_step rfl rfl rfl rfl rfl
theorem u63_8 : wp scr n mb_63 8 L (o :: st) M Q ↔ mw_o (mm_fld (mc_X scr) M o 3 7) (fun v => wp scr n mb_63 11 L (v :: st) M Q) := wp_getf rfl
theorem u63_11 : wp scr n mb_63 11 L st M Q ↔ wp scr n mb_63 16 L st M Q := wp_step rfl rfl rfl rfl rfl
theorem u63_14 : wp scr n mb_63 14 L st M Q ↔ wp scr n mb_63 16 L (.int (-9) :: st) M Q := wp_step rfl rfl rfl rfl rfl
theorem u63_16 : wp scr n mb_63 16 L [.int x] M Q ↔ Q (some (.int x)) M := wp_ret rfl rfl
theorem e63 : Wp scr (n + 1) 63 [.ref a0] M Q ↔ wp scr n mb_63 0 [some (.ref a0)] [] M Q := Wp_to rfl rfl rfl
/-- SmallerInTheShop$Search costFound ()I -/
def mb_64 : mw_B := ((Option.some FieldType.int), mp_64)
theorem u64_0 : wp scr n mb_64 0 [some (.ref a)] st M Q ↔ wp scr n mb_64 1 [some (.ref a)] (.ref a :: st) M Q := wp_step rfl rfl rfl rfl rfl
theorem u64_1 : wp scr n mb_64 1 L (o :: st) M Q ↔ mw_o (mm_fld (mc_X scr) M o 3 5) (fun v => wp scr n mb_64 4 L (v :: st) M Q) := wp_getf rfl
theorem u64_4 : wp scr n mb_64 4 L (.int x :: st) M Q ↔ (if x = 0 then wp scr n mb_64 14 L st M Q else wp scr n mb_64 7 L st M Q) := (wp_step rfl rfl rfl rfl rfl).trans wp_ite
theorem u64_7 : wp scr n mb_64 7 [some (.ref a)] st M Q ↔ wp scr n mb_64 8 [some (.ref a)] (.ref a :: st) M Q := wp_step rfl rfl rfl rfl rfl
theorem u64_8 : wp scr n mb_64 8 L (o :: st) M Q ↔ mw_o (mm_fld (mc_X scr) M o 3 6) (fun v => wp scr n mb_64 11 L (v :: st) M Q) := wp_getf rfl
theorem u64_11 : wp scr n mb_64 11 L st M Q ↔ wp scr n mb_64 16 L st M Q := wp_step rfl rfl rfl rfl rfl
theorem u64_14 : wp scr n mb_64 14 L st M Q ↔ wp scr n mb_64 16 L (.int (-9) :: st) M Q := wp_step rfl rfl rfl rfl rfl
theorem u64_16 : wp scr n mb_64 16 L [.int x] M Q ↔ Q (some (.int x)) M := wp_ret rfl rfl
theorem e64 : Wp scr (n + 1) 64 [.ref a0] M Q ↔ wp scr n mb_64 0 [some (.ref a0)] [] M Q := Wp_to rfl rfl rfl
/-- SmallerInTheShop$Search waysWith (I)I -/
def mb_65 : mw_B := ((Option.some FieldType.int), mp_65)
theorem u65_0 : wp scr n mb_65 0 [l0, some (.int x)] st M Q ↔ wp scr n mb_65 1 [l0, some (.int x)] (.int x :: st) M Q := wp_step rfl rfl rfl rfl rfl
theorem u65_1 : wp scr n mb_65 1 L (.int x :: st) M Q ↔ (if x < 0 then wp scr n mb_65 20 L st M Q else wp scr n mb_65 4 L st M Q) := (wp_step rfl rfl rfl rfl rfl).trans wp_ite
theorem u65_4 : wp scr n mb_65 4 [l0, some (.int x)] st M Q ↔ wp scr n mb_65 5 [l0, some (.int x)] (.int x :: st) M Q := wp_step rfl rfl rfl rfl rfl
theorem u65_5 : wp scr n mb_65 5 L st M Q ↔ wp scr n mb_65 6 L (.int 4 :: st) M Q := wp_step rfl rfl rfl rfl rfl
theorem u65_6 : wp scr n mb_65 6 L (.int y :: .int x :: st) M Q ↔ (if y < x then wp scr n mb_65 20 L st M Q else wp scr n mb_65 9 L st M Q) := (wp_step rfl rfl rfl rfl rfl).trans wp_ite
theorem u65_9 : wp scr n mb_65 9 [some (.ref a), l1] st M Q ↔ wp scr n mb_65 10 [some (.ref a), l1] (.ref a :: st) M Q := wp_step rfl rfl rfl rfl rfl
theorem u65_10 : wp scr n mb_65 10 L (o :: st) M Q ↔ mw_o (mm_fld (mc_X scr) M o 3 1) (fun v => wp scr n mb_65 13 L (v :: st) M Q) := wp_getf rfl
theorem u65_13 : wp scr n mb_65 13 [l0, some (.int x)] st M Q ↔ wp scr n mb_65 14 [l0, some (.int x)] (.int x :: st) M Q := wp_step rfl rfl rfl rfl rfl
theorem u65_14 : wp scr n mb_65 14 L (.int y :: o :: st) M Q ↔ mw_o (mm_ld (mc_X scr) M o y) (fun x => wp scr n mb_65 15 L (.int x :: st) M Q) := wp_iald rfl
theorem u65_15 : wp scr n mb_65 15 [l0, some (.int x)] st M Q ↔ wp scr n mb_65 16 [l0, some (.int x)] (.int x :: st) M Q := wp_step rfl rfl rfl rfl rfl
theorem u65_16 : wp scr n mb_65 16 L (.int y :: .int x :: st) M Q ↔ wp scr n mb_65 17 L (.int (x <<< (y &&& 31)) :: st) M Q := wp_step rfl rfl rfl rfl rfl
theorem u65_17 : wp scr n mb_65 17 L st M Q ↔ wp scr n mb_65 21 L st M Q := wp_step rfl rfl rfl rfl rfl
theorem u65_20 : wp scr n mb_65 20 L st M Q ↔ wp scr n mb_65 21 L (.int 0 :: st) M Q := wp_step rfl rfl rfl rfl rfl
theorem u65_21 : wp scr n mb_65 21 L [.int x] M Q ↔ Q (some (.int x)) M := wp_ret rfl rfl
theorem e65 : Wp scr (n + 1) 65 [.ref a0, .int x1] M Q ↔ wp scr n mb_65 0 [some (.ref a0), some (.int x1)] [] M Q := Wp_to rfl rfl rfl
/-- SmallerInTheShop$Sheet copyFrom (LSmallerInTheShop$Sheet;)V -/
def mb_67 : mw_B := ((Option.none : Option FieldType), mp_67)
theorem u67_0 : wp scr n mb_67 0 [some (.ref a), l1, l2] st M Q ↔ wp scr n mb_67 1 [some (.ref a), l1, l2] (.ref a :: st) M Q := wp_step rfl rfl rfl rfl rfl
theorem u67_1 : wp scr n mb_67 1 [l0, some (.ref a), l2] st M Q ↔ wp scr n mb_67 2 [l0, some (.ref a), l2] (.ref a :: st) M Q := wp_step rfl rfl rfl rfl rfl
theorem u67_2 : wp scr n mb_67 2 L (a2 :: .ref a :: st) M Q ↔ ((mw_r M a 4 ∧ mw_st st) ∧ Wp scr n 68 [.ref a, a2] M (fun r1 M1 => wp scr n mb_67 5 L (r1.toList ++ st) M1 Q)) := wp_vir rfl rfl rfl rfl rfl
theorem u67_5 : wp scr n mb_67 5 [some (.ref a), l1, l2] st M Q ↔ wp scr n mb_67 6 [some (.ref a), l1, l2] (.ref a :: st) M Q := wp_step rfl rfl rfl rfl rfl
theorem u67_6 : wp scr n mb_67 6 [l0, some (.ref a), l2] st M Q ↔ wp scr n mb_67 7 [l0, some (.ref a), l2] (.ref a :: st) M Q := wp_step rfl rfl rfl rfl rfl
theorem u67_7 : wp scr n mb_67 7 L (o :: st) M Q ↔ mw_o (mm_fld (mc_X scr) M o 4 4) (fun v => wp scr n mb_67 10 L (v :: st) M Q) := wp_getf rfl
theorem u67_10 : wp scr n mb_67 10 L (v :: o :: st) M Q ↔ mw_o (mm_put mc_fty M o v 4 4) (fun M1 => wp scr n mb_67 13 L st M1 Q) := wp_putf rfl
theorem u67_13 : wp scr n mb_67 13 [some (.ref a), l1, l2] st M Q ↔ wp scr n mb_67 14 [some (.ref a), l1, l2] (.ref a :: st) M Q := wp_step rfl rfl rfl rfl rfl
theorem u67_14 : wp scr n mb_67 14 [l0, some (.ref a), l2] st M Q ↔ wp scr n mb_67 15 [l0, some (.ref a), l2] (.ref a :: st) M Q := wp_step rfl rfl rfl rfl rfl
theorem u67_15 : wp scr n mb_67 15 L (o :: st) M Q ↔ mw_o (mm_fld (mc_X scr) M o 4 5) (fun v => wp scr n mb_67 18 L (v :: st) M Q) := wp_getf rfl
theorem u67_18 : wp scr n mb_67 18 L (v :: o :: st) M Q ↔ mw_o (mm_put mc_fty M o v 4 5) (fun M1 => wp scr n mb_67 21 L st M1 Q) := wp_putf rfl
theorem u67_21 : wp scr n mb_67 21 L st M Q ↔ wp scr n mb_67 22 L (.int 1 :: st) M Q := wp_step rfl rfl rfl rfl rfl
theorem u67_22 : wp scr n mb_67 22 [l0, l1, l2] (.int x :: st) M Q ↔ wp scr n mb_67 23 (mm_sto1 [l0, l1, l2] 2 (.int x)) st M Q := wp_step rfl rfl rfl rfl rfl
theorem u67_23 : wp scr n mb_67 23 [l0, l1, some (.int x)] st M Q ↔ wp scr n mb_67 24 [l0, l1, some (.int x)] (.int x :: st) M Q := wp_step rfl rfl rfl rfl rfl
theorem u67_24 : wp scr n mb_67 24 [some (.ref a), l1, l2] st M Q ↔ wp scr n mb_67 25 [some (.ref a), l1, l2] (.ref a :: st) M Q := wp_step rfl rfl rfl rfl rfl
theorem u67_25 : wp scr n mb_67 25 L (o :: st) M Q ↔ mw_o (mm_fld (mc_X scr) M o 4 4) (fun v => wp scr n mb_67 28 L (v :: st) M Q) := wp_getf rfl
theorem u67_28 : wp scr n mb_67 28 L (.int y :: .int x :: st) M Q ↔ (if y < x then wp scr n mb_67 57 L st M Q else wp scr n mb_67 31 L st M Q) := (wp_step rfl rfl rfl rfl rfl).trans wp_ite
theorem u67_31 : wp scr n mb_67 31 [l0, l1, some (.int x)] st M Q ↔ wp scr n mb_67 32 [l0, l1, some (.int x)] (.int x :: st) M Q := wp_step rfl rfl rfl rfl rfl
theorem u67_32 : wp scr n mb_67 32 L st M Q ↔ wp scr n mb_67 33 L (.int 4 :: st) M Q := wp_step rfl rfl rfl rfl rfl
theorem u67_33 : wp scr n mb_67 33 L (.int y :: .int x :: st) M Q ↔ (if y < x then wp scr n mb_67 57 L st M Q else wp scr n mb_67 36 L st M Q) := (wp_step rfl rfl rfl rfl rfl).trans wp_ite
theorem u67_36 : wp scr n mb_67 36 [some (.ref a), l1, l2] st M Q ↔ wp scr n mb_67 37 [some (.ref a), l1, l2] (.ref a :: st) M Q := wp_step rfl rfl rfl rfl rfl
theorem u67_37 : wp scr n mb_67 37 L (o :: st) M Q ↔ mw_o (mm_fld (mc_X scr) M o 4 0) (fun v => wp scr n mb_67 40 L (v :: st) M Q) := wp_getf rfl
theorem u67_40 : wp scr n mb_67 40 [l0, l1, some (.int x)] st M Q ↔ wp scr n mb_67 41 [l0, l1, some (.int x)] (.int x :: st) M Q := wp_step rfl rfl rfl rfl rfl
theorem u67_41 : wp scr n mb_67 41 L (.int y :: .ref a :: st) M Q ↔ mw_o (mm_lda M a y) (fun v => wp scr n mb_67 42 L (v :: st) M Q) := wp_aald rfl
theorem u67_42 : wp scr n mb_67 42 [l0, some (.ref a), l2] st M Q ↔ wp scr n mb_67 43 [l0, some (.ref a), l2] (.ref a :: st) M Q := wp_step rfl rfl rfl rfl rfl
theorem u67_43 : wp scr n mb_67 43 L (o :: st) M Q ↔ mw_o (mm_fld (mc_X scr) M o 4 0) (fun v => wp scr n mb_67 46 L (v :: st) M Q) := wp_getf rfl
theorem u67_46 : wp scr n mb_67 46 [l0, l1, some (.int x)] st M Q ↔ wp scr n mb_67 47 [l0, l1, some (.int x)] (.int x :: st) M Q := wp_step rfl rfl rfl rfl rfl
theorem u67_47 : wp scr n mb_67 47 L (.int y :: .ref a :: st) M Q ↔ mw_o (mm_lda M a y) (fun v => wp scr n mb_67 48 L (v :: st) M Q) := wp_aald rfl
theorem u67_48 : wp scr n mb_67 48 L (a2 :: .ref a :: st) M Q ↔ ((mw_r M a 1 ∧ mw_st st) ∧ Wp scr n 22 [.ref a, a2] M (fun r1 M1 => wp scr n mb_67 51 L (r1.toList ++ st) M1 Q)) := wp_vir rfl rfl rfl rfl rfl
theorem u67_51 : wp scr n mb_67 51 [l0, l1, some (.int x)] st M Q ↔ wp scr n mb_67 54 (mm_sto1 [l0, l1, some (.int x)] 2 (.int (x + 1))) st M Q := wp_step rfl rfl rfl rfl rfl
theorem u67_54 : wp scr n mb_67 54 L st M Q ↔ wp scr n mb_67 23 L st M Q := wp_step rfl rfl rfl rfl rfl
theorem u67_57 : wp scr n mb_67 57 L [] M Q ↔ Q none M := wp_ret rfl rfl
theorem e67 : Wp scr (n + 1) 67 [.ref a0, .ref b1] M Q ↔ wp scr n mb_67 0 [some (.ref a0), some (.ref b1), none] [] M Q := Wp_to rfl rfl rfl
/-- SmallerInTheShop$Sheet copyCreasesFrom (LSmallerInTheShop$Sheet;)V -/
def mb_68 : mw_B := ((Option.none : Option FieldType), mp_68)
theorem u68_0 : wp scr n mb_68 0 L st M Q ↔ wp scr n mb_68 1 L (.int 0 :: st) M Q := wp_step rfl rfl rfl rfl rfl
theorem u68_1 : wp scr n mb_68 1 [l0, l1, l2] (.int x :: st) M Q ↔ wp scr n mb_68 2 (mm_sto1 [l0, l1, l2] 2 (.int x)) st M Q := wp_step rfl rfl rfl rfl rfl
theorem u68_2 : wp scr n mb_68 2 [l0, l1, some (.int x)] st M Q ↔ wp scr n mb_68 3 [l0, l1, some (.int x)] (.int x :: st) M Q := wp_step rfl rfl rfl rfl rfl
theorem u68_3 : wp scr n mb_68 3 L st M Q ↔ wp scr n mb_68 5 L (.int 10 :: st) M Q := wp_step rfl rfl rfl rfl rfl
theorem u68_5 : wp scr n mb_68 5 L (.int y :: .int x :: st) M Q ↔ (if y ≤ x then wp scr n mb_68 50 L st M Q else wp scr n mb_68 8 L st M Q) := (wp_step rfl rfl rfl rfl rfl).trans wp_ite
theorem u68_8 : wp scr n mb_68 8 [some (.ref a), l1, l2] st M Q ↔ wp scr n mb_68 9 [some (.ref a), l1, l2] (.ref a :: st) M Q := wp_step rfl rfl rfl rfl rfl
theorem u68_9 : wp scr n mb_68 9 L (o :: st) M Q ↔ mw_o (mm_fld (mc_X scr) M o 4 1) (fun v => wp scr n mb_68 12 L (v :: st) M Q) := wp_getf rfl
theorem u68_12 : wp scr n mb_68 12 [l0, l1, some (.int x)] st M Q ↔ wp scr n mb_68 13 [l0, l1, some (.int x)] (.int x :: st) M Q := wp_step rfl rfl rfl rfl rfl
theorem u68_13 : wp scr n mb_68 13 [l0, some (.ref a), l2] st M Q ↔ wp scr n mb_68 14 [l0, some (.ref a), l2] (.ref a :: st) M Q := wp_step rfl rfl rfl rfl rfl
theorem u68_14 : wp scr n mb_68 14 L (o :: st) M Q ↔ mw_o (mm_fld (mc_X scr) M o 4 1) (fun v => wp scr n mb_68 17 L (v :: st) M Q) := wp_getf rfl
theorem u68_17 : wp scr n mb_68 17 [l0, l1, some (.int x)] st M Q ↔ wp scr n mb_68 18 [l0, l1, some (.int x)] (.int x :: st) M Q := wp_step rfl rfl rfl rfl rfl
theorem u68_18 : wp scr n mb_68 18 L (.int y :: o :: st) M Q ↔ mw_o (mm_ld (mc_X scr) M o y) (fun x => wp scr n mb_68 19 L (.int x :: st) M Q) := wp_iald rfl
theorem u68_19 : wp scr n mb_68 19 L (.int x :: .int y :: o :: st) M Q ↔ mw_o (mm_sti M o y x) (fun M1 => wp scr n mb_68 20 L st M1 Q) := wp_iast rfl
theorem u68_20 : wp scr n mb_68 20 [some (.ref a), l1, l2] st M Q ↔ wp scr n mb_68 21 [some (.ref a), l1, l2] (.ref a :: st) M Q := wp_step rfl rfl rfl rfl rfl
theorem u68_21 : wp scr n mb_68 21 L (o :: st) M Q ↔ mw_o (mm_fld (mc_X scr) M o 4 2) (fun v => wp scr n mb_68 24 L (v :: st) M Q) := wp_getf rfl
theorem u68_24 : wp scr n mb_68 24 [l0, l1, some (.int x)] st M Q ↔ wp scr n mb_68 25 [l0, l1, some (.int x)] (.int x :: st) M Q := wp_step rfl rfl rfl rfl rfl
theorem u68_25 : wp scr n mb_68 25 [l0, some (.ref a), l2] st M Q ↔ wp scr n mb_68 26 [l0, some (.ref a), l2] (.ref a :: st) M Q := wp_step rfl rfl rfl rfl rfl
theorem u68_26 : wp scr n mb_68 26 L (o :: st) M Q ↔ mw_o (mm_fld (mc_X scr) M o 4 2) (fun v => wp scr n mb_68 29 L (v :: st) M Q) := wp_getf rfl
theorem u68_29 : wp scr n mb_68 29 [l0, l1, some (.int x)] st M Q ↔ wp scr n mb_68 30 [l0, l1, some (.int x)] (.int x :: st) M Q := wp_step rfl rfl rfl rfl rfl
theorem u68_30 : wp scr n mb_68 30 L (.int y :: o :: st) M Q ↔ mw_o (mm_ld (mc_X scr) M o y) (fun x => wp scr n mb_68 31 L (.int x :: st) M Q) := wp_iald rfl
theorem u68_31 : wp scr n mb_68 31 L (.int x :: .int y :: o :: st) M Q ↔ mw_o (mm_sti M o y x) (fun M1 => wp scr n mb_68 32 L st M1 Q) := wp_iast rfl
theorem u68_32 : wp scr n mb_68 32 [some (.ref a), l1, l2] st M Q ↔ wp scr n mb_68 33 [some (.ref a), l1, l2] (.ref a :: st) M Q := wp_step rfl rfl rfl rfl rfl
theorem u68_33 : wp scr n mb_68 33 L (o :: st) M Q ↔ mw_o (mm_fld (mc_X scr) M o 4 3) (fun v => wp scr n mb_68 36 L (v :: st) M Q) := wp_getf rfl
theorem u68_36 : wp scr n mb_68 36 [l0, l1, some (.int x)] st M Q ↔ wp scr n mb_68 37 [l0, l1, some (.int x)] (.int x :: st) M Q := wp_step rfl rfl rfl rfl rfl
theorem u68_37 : wp scr n mb_68 37 [l0, some (.ref a), l2] st M Q ↔ wp scr n mb_68 38 [l0, some (.ref a), l2] (.ref a :: st) M Q := wp_step rfl rfl rfl rfl rfl
theorem u68_38 : wp scr n mb_68 38 L (o :: st) M Q ↔ mw_o (mm_fld (mc_X scr) M o 4 3) (fun v => wp scr n mb_68 41 L (v :: st) M Q) := wp_getf rfl
theorem u68_41 : wp scr n mb_68 41 [l0, l1, some (.int x)] st M Q ↔ wp scr n mb_68 42 [l0, l1, some (.int x)] (.int x :: st) M Q := wp_step rfl rfl rfl rfl rfl
theorem u68_42 : wp scr n mb_68 42 L (.int y :: o :: st) M Q ↔ mw_o (mm_ld (mc_X scr) M o y) (fun x => wp scr n mb_68 43 L (.int x :: st) M Q) := wp_iald rfl
theorem u68_43 : wp scr n mb_68 43 L (.int x :: .int y :: o :: st) M Q ↔ mw_o (mm_sti M o y x) (fun M1 => wp scr n mb_68 44 L st M1 Q) := wp_iast rfl
theorem u68_44 : wp scr n mb_68 44 [l0, l1, some (.int x)] st M Q ↔ wp scr n mb_68 47 (mm_sto1 [l0, l1, some (.int x)] 2 (.int (x + 1))) st M Q := wp_step rfl rfl rfl rfl rfl
theorem u68_47 : wp scr n mb_68 47 L st M Q ↔ wp scr n mb_68 2 L st M Q := wp_step rfl rfl rfl rfl rfl
theorem u68_50 : wp scr n mb_68 50 L [] M Q ↔ Q none M := wp_ret rfl rfl
theorem e68 : Wp scr (n + 1) 68 [.ref a0, .ref b1] M Q ↔ wp scr n mb_68 0 [some (.ref a0), some (.ref b1), none] [] M Q := Wp_to rfl rfl rfl
/-- SmallerInTheShop$Sheet canFold (II)Z -/
def mb_69 : mw_B := ((Option.some FieldType.boolean), mp_69)
theorem u69_0 : wp scr n mb_69 0 [l0, some (.int x), l2] st M Q ↔ wp scr n mb_69 1 [l0, some (.int x), l2] (.int x :: st) M Q := wp_step rfl rfl rfl rfl rfl
theorem u69_1 : wp scr n mb_69 1 L st M Q ↔ wp scr n mb_69 2 L (.int 4 :: st) M Q := wp_step rfl rfl rfl rfl rfl
theorem u69_2 : wp scr n mb_69 2 L (.int y :: .int x :: st) M Q ↔ (if y ≤ x then wp scr n mb_69 22 L st M Q else wp scr n mb_69 5 L st M Q) := (wp_step rfl rfl rfl rfl rfl).trans wp_ite
theorem u69_5 : wp scr n mb_69 5 [some (.ref a), l1, l2] st M Q ↔ wp scr n mb_69 6 [some (.ref a), l1, l2] (.ref a :: st) M Q := wp_step rfl rfl rfl rfl rfl
theorem u69_6 : wp scr n mb_69 6 L (o :: st) M Q ↔ mw_o (mm_fld (mc_X scr) M o 4 0) (fun v => wp scr n mb_69 9 L (v :: st) M Q) := wp_getf rfl
theorem u69_9 : wp scr n mb_69 9 [l0, some (.int x), l2] st M Q ↔ wp scr n mb_69 10 [l0, some (.int x), l2] (.int x :: st) M Q := wp_step rfl rfl rfl rfl rfl
theorem u69_10 : wp scr n mb_69 10 L (.int y :: .ref a :: st) M Q ↔ mw_o (mm_lda M a y) (fun v => wp scr n mb_69 11 L (v :: st) M Q) := wp_aald rfl
theorem u69_11 : wp scr n mb_69 11 [l0, l1, some (.int x)] st M Q ↔ wp scr n mb_69 12 [l0, l1, some (.int x)] (.int x :: st) M Q := wp_step rfl rfl rfl rfl rfl
theorem u69_12 : wp scr n mb_69 12 L (a2 :: .ref a :: st) M Q ↔ ((mw_r M a 1 ∧ mw_st st) ∧ Wp scr n 23 [.ref a, a2] M (fun r1 M1 => wp scr n mb_69 15 L (r1.toList ++ st) M1 Q)) := wp_vir rfl rfl rfl rfl rfl
theorem u69_15 : wp scr n mb_69 15 L (.int x :: st) M Q ↔ (if x = 0 then wp scr n mb_69 22 L st M Q else wp scr n mb_69 18 L st M Q) := (wp_step rfl rfl rfl rfl rfl).trans wp_ite
theorem u69_18 : wp scr n mb_69 18 L st M Q ↔ wp scr n mb_69 19 L (.int 1 :: st) M Q := wp_step rfl rfl rfl rfl rfl
theorem u69_19 : wp scr n mb_69 19 L st M Q ↔ wp scr n mb_69 23 L st M Q := wp_step rfl rfl rfl rfl rfl
theorem u69_22 : wp scr n mb_69 22 L st M Q ↔ wp scr n mb_69 23 L (.int 0 :: st) M Q := wp_step rfl rfl rfl rfl rfl
theorem u69_23 : wp scr n mb_69 23 L [.int x] M Q ↔ ((x = 0 ∨ x = 1) ∧ Q (some (.int x)) M) := wp_retb rfl rfl
theorem e69 : Wp scr (n + 1) 69 [.ref a0, .int x1, .int x2] M Q ↔ wp scr n mb_69 0 [some (.ref a0), some (.int x1), some (.int x2)] [] M Q := Wp_to rfl rfl rfl
/-- SmallerInTheShop$Sheet makeFold (II)I -/
def mb_70 : mw_B := ((Option.some FieldType.int), mp_70)
theorem u70_0 : wp scr n mb_70 0 [some (.ref a), l1, l2, l3] st M Q ↔ wp scr n mb_70 1 [some (.ref a), l1, l2, l3] (.ref a :: st) M Q := wp_step rfl rfl rfl rfl rfl
theorem u70_1 : wp scr n mb_70 1 [some (.ref a), l1, l2, l3] st M Q ↔ wp scr n mb_70 2 [some (.ref a), l1, l2, l3] (.ref a :: st) M Q := wp_step rfl rfl rfl rfl rfl
theorem u70_2 : wp scr n mb_70 2 L (o :: st) M Q ↔ mw_o (mm_fld (mc_X scr) M o 4 4) (fun v => wp scr n mb_70 5 L (v :: st) M Q) := wp_getf rfl
theorem u70_5 : wp scr n mb_70 5 [l0, some (.int x), l2, l3] st M Q ↔ wp scr n mb_70 6 [l0, some (.int x), l2, l3] (.int x :: st) M Q := wp_step rfl rfl rfl rfl rfl
theorem u70_6 : wp scr n mb_70 6 [l0, l1, some (.int x), l3] st M Q ↔ wp scr n mb_70 7 [l0, l1, some (.int x), l3] (.int x :: st) M Q := wp_step rfl rfl rfl rfl rfl
theorem u70_7 : wp scr n mb_70 7 L (a4 :: a3 :: a2 :: .ref a :: st) M Q ↔ ((mw_r M a 4 ∧ mw_st st) ∧ Wp scr n 71 [.ref a, a2, a3, a4] M (fun r1 M1 => wp scr n mb_70 10 L (r1.toList ++ st) M1 Q)) := wp_vir rfl rfl rfl rfl rfl
theorem u70_10 : wp scr n mb_70 10 [l0, l1, l2, l3] (.int x :: st) M Q ↔ wp scr n mb_70 11 (mm_sto1 [l0, l1, l2, l3] 3 (.int x)) st M Q := wp_step rfl rfl rfl rfl rfl
theorem u70_11 : wp scr n mb_70 11 [some (.ref a), l1, l2, l3] st M Q ↔ wp scr n mb_70 12 [some (.ref a), l1, l2, l3] (.ref a :: st) M Q := wp_step rfl rfl rfl rfl rfl
theorem u70_12 : wp scr n mb_70 12 L (.ref a :: st) M Q ↔ wp scr n mb_70 13 L (.ref a :: .ref a :: st) M Q := wp_step rfl rfl rfl rfl rfl
theorem u70_13 : wp scr n mb_70 13 L (o :: st) M Q ↔ mw_o (mm_fld (mc_X scr) M o 4 4) (fun v => wp scr n mb_70 16 L (v :: st) M Q) := wp_getf rfl
theorem u70_16 : wp scr n mb_70 16 L st M Q ↔ wp scr n mb_70 17 L (.int 1 :: st) M Q := wp_step rfl rfl rfl rfl rfl
theorem u70_17 : wp scr n mb_70 17 L (.int y :: .int x :: st) M Q ↔ wp scr n mb_70 18 L (.int (x + y) :: st) M Q := wp_step rfl rfl rfl rfl rfl
theorem u70_18 : wp scr n mb_70 18 L (v :: o :: st) M Q ↔ mw_o (mm_put mc_fty M o v 4 4) (fun M1 => wp scr n mb_70 21 L st M1 Q) := wp_putf rfl
theorem u70_21 : wp scr n mb_70 21 [some (.ref a), l1, l2, l3] st M Q ↔ wp scr n mb_70 22 [some (.ref a), l1, l2, l3] (.ref a :: st) M Q := wp_step rfl rfl rfl rfl rfl
theorem u70_22 : wp scr n mb_70 22 [some (.ref a), l1, l2, l3] st M Q ↔ wp scr n mb_70 23 [some (.ref a), l1, l2, l3] (.ref a :: st) M Q := wp_step rfl rfl rfl rfl rfl
theorem u70_23 : wp scr n mb_70 23 L (.ref a :: st) M Q ↔ ((mw_r M a 4 ∧ mw_st st) ∧ Wp scr n 73 [.ref a] M (fun r1 M1 => wp scr n mb_70 26 L (r1.toList ++ st) M1 Q)) := wp_vir rfl rfl rfl rfl rfl
theorem u70_26 : wp scr n mb_70 26 L (a2 :: .ref a :: st) M Q ↔ ((mw_r M a 4 ∧ mw_st st) ∧ Wp scr n 74 [.ref a, a2] M (fun r1 M1 => wp scr n mb_70 29 L (r1.toList ++ st) M1 Q)) := wp_vir rfl rfl rfl rfl rfl
theorem u70_29 : wp scr n mb_70 29 [l0, l1, l2, some (.int x)] st M Q ↔ wp scr n mb_70 30 [l0, l1, l2, some (.int x)] (.int x :: st) M Q := wp_step rfl rfl rfl rfl rfl
theorem u70_30 : wp scr n mb_70 30 L [.int x] M Q ↔ Q (some (.int x)) M := wp_ret rfl rfl
theorem e70 : Wp scr (n + 1) 70 [.ref a0, .int x1, .int x2] M Q ↔ wp scr n mb_70 0 [some (.ref a0), some (.int x1), some (.int x2), none] [] M Q := Wp_to rfl rfl rfl
/-- SmallerInTheShop$Sheet tryFold (III)I -/
def mb_71 : mw_B := ((Option.some FieldType.int), mp_71)
theorem u71_0 : wp scr n mb_71 0 [some (.ref a), l1, l2, l3, l4, l5, l6] st M Q ↔ wp scr n mb_71 1 [some (.ref a), l1, l2, l3, l4, l5, l6] (.ref a :: st) M Q := wp_step rfl rfl rfl rfl rfl
theorem u71_1 : wp scr n mb_71 1 L (o :: st) M Q ↔ mw_o (mm_fld (mc_X scr) M o 4 0) (fun v => wp scr n mb_71 4 L (v :: st) M Q) := wp_getf rfl
theorem u71_4 : wp scr n mb_71 4 [l0, some (.int x), l2, l3, l4, l5, l6] st M Q ↔ wp scr n mb_71 5 [l0, some (.int x), l2, l3, l4, l5, l6] (.int x :: st) M Q := wp_step rfl rfl rfl rfl rfl
theorem u71_5 : wp scr n mb_71 5 L st M Q ↔ wp scr n mb_71 6 L (.int 1 :: st) M Q := wp_step rfl rfl rfl rfl rfl
theorem u71_6 : wp scr n mb_71 6 L (.int y :: .int x :: st) M Q ↔ wp scr n mb_71 7 L (.int (x + y) :: st) M Q := wp_step rfl rfl rfl rfl rfl
theorem u71_7 : wp scr n mb_71 7 L (.int y :: .ref a :: st) M Q ↔ mw_o (mm_lda M a y) (fun v => wp scr n mb_71 8 L (v :: st) M Q) := wp_aald rfl
theorem u71_8 : wp scr n mb_71 8 [l0, l1, l2, l3, l4, l5, l6] (.ref a :: st) M Q ↔ wp scr n mb_71 10 (mm_sto1 [l0, l1, l2, l3, l4, l5, l6] 4 (.ref a)) st M Q := wp_step rfl rfl rfl rfl rfl
theorem u71_10 : wp scr n mb_71 10 [l0, l1, l2, l3, some (.ref a), l5, l6] st M Q ↔ wp scr n mb_71 12 [l0, l1, l2, l3, some (.ref a), l5, l6] (.ref a :: st) M Q := wp_step rfl rfl rfl rfl rfl
theorem u71_12 : wp scr n mb_71 12 [some (.ref a), l1, l2, l3, l4, l5, l6] st M Q ↔ wp scr n mb_71 13 [some (.ref a), l1, l2, l3, l4, l5, l6] (.ref a :: st) M Q := wp_step rfl rfl rfl rfl rfl
theorem u71_13 : wp scr n mb_71 13 L (o :: st) M Q ↔ mw_o (mm_fld (mc_X scr) M o 4 0) (fun v => wp scr n mb_71 16 L (v :: st) M Q) := wp_getf rfl
theorem u71_16 : wp scr n mb_71 16 [l0, some (.int x), l2, l3, l4, l5, l6] st M Q ↔ wp scr n mb_71 17 [l0, some (.int x), l2, l3, l4, l5, l6] (.int x :: st) M Q := wp_step rfl rfl rfl rfl rfl
theorem u71_17 : wp scr n mb_71 17 L (.int y :: .ref a :: st) M Q ↔ mw_o (mm_lda M a y) (fun v => wp scr n mb_71 18 L (v :: st) M Q) := wp_aald rfl
theorem u71_18 : wp scr n mb_71 18 [l0, l1, some (.int x), l3, l4, l5, l6] st M Q ↔ wp scr n mb_71 19 [l0, l1, some (.int x), l3, l4, l5, l6] (.int x :: st) M Q := wp_step rfl rfl rfl rfl rfl
theorem u71_19 : wp scr n mb_71 19 [l0, l1, l2, some (.int x), l4, l5, l6] st M Q ↔ wp scr n mb_71 20 [l0, l1, l2, some (.int x), l4, l5, l6] (.int x :: st) M Q := wp_step rfl rfl rfl rfl rfl
theorem u71_20 : wp scr n mb_71 20 L (a4 :: a3 :: a2 :: .ref a :: st) M Q ↔ ((mw_r M a 1 ∧ mw_st st) ∧ Wp scr n 24 [.ref a, a2, a3, a4] M (fun r1 M1 => wp scr n mb_71 23 L (r1.toList ++ st) M1 Q)) := wp_vir rfl rfl rfl rfl rfl
theorem u71_23 : wp scr n mb_71 23 L st M Q ↔ wp scr n mb_71 24 L (.int 0 :: st) M Q := wp_step rfl rfl rfl rfl rfl
theorem u71_24 : wp scr n mb_71 24 [l0, l1, l2, l3, l4, l5, l6] (.int x :: st) M Q ↔ wp scr n mb_71 26 (mm_sto1 [l0, l1, l2, l3, l4, l5, l6] 5 (.int x)) st M Q := wp_step rfl rfl rfl rfl rfl
theorem u71_26 : wp scr n mb_71 26 L st M Q ↔ wp scr n mb_71 27 L (.int 0 :: st) M Q := wp_step rfl rfl rfl rfl rfl
theorem u71_27 : wp scr n mb_71 27 [l0, l1, l2, l3, l4, l5, l6] (.int x :: st) M Q ↔ wp scr n mb_71 29 (mm_sto1 [l0, l1, l2, l3, l4, l5, l6] 6 (.int x)) st M Q := wp_step rfl rfl rfl rfl rfl
theorem u71_29 : wp scr n mb_71 29 [l0, l1, l2, l3, l4, l5, some (.int x)] st M Q ↔ wp scr n mb_71 31 [l0, l1, l2, l3, l4, l5, some (.int x)] (.int x :: st) M Q := wp_step rfl rfl rfl rfl rfl
theorem u71_31 : wp scr n mb_71 31 L st M Q ↔ wp scr n mb_71 33 L (.int 10 :: st) M Q := wp_step rfl rfl rfl rfl rfl
theorem u71_33 : wp scr n mb_71 33 L (.int y :: .int x :: st) M Q ↔ (if y ≤ x then wp scr n mb_71 74 L st M Q else wp scr n mb_71 36 L st M Q) := (wp_step rfl rfl rfl rfl rfl).trans wp_ite
theorem u71_36 : wp scr n mb_71 36 [l0, l1, l2, l3, some (.ref a), l5, l6] st M Q ↔ wp scr n mb_71 38 [l0, l1, l2, l3, some (.ref a), l5, l6] (.ref a :: st) M Q := wp_step rfl rfl rfl rfl rfl
theorem u71_38 : wp scr n mb_71 38 L (o :: st) M Q ↔ mw_o (mm_fld (mc_X scr) M o 1 8) (fun v => wp scr n mb_71 41 L (v :: st) M Q) := wp_getf rfl
theorem u71_41 : wp scr n mb_71 41 [l0, l1, l2, l3, l4, l5, some (.int x)] st M Q ↔ wp scr n mb_71 43 [l0, l1, l2, l3, l4, l5, some (.int x)] (.int x :: st) M Q := wp_step rfl rfl rfl rfl rfl
theorem u71_43 : wp scr n mb_71 43 L (.int y :: .int x :: st) M Q ↔ wp scr n mb_71 44 L (.int (x >>> (y &&& 31)) :: st) M Q := wp_step rfl rfl rfl rfl rfl
theorem u71_44 : wp scr n mb_71 44 L st M Q ↔ wp scr n mb_71 45 L (.int 1 :: st) M Q := wp_step rfl rfl rfl rfl rfl
theorem u71_45 : wp scr n mb_71 45 L (.int y :: .int x :: st) M Q ↔ wp scr n mb_71 46 L (.int (x &&& y) :: st) M Q := wp_step rfl rfl rfl rfl rfl
theorem u71_46 : wp scr n mb_71 46 L (.int x :: st) M Q ↔ (if x = 0 then wp scr n mb_71 68 L st M Q else wp scr n mb_71 49 L st M Q) := (wp_step rfl rfl rfl rfl rfl).trans wp_ite
theorem u71_49 : wp scr n mb_71 49 [l0, l1, l2, l3, l4, some (.int x), l6] st M Q ↔ wp scr n mb_71 51 [l0, l1, l2, l3, l4, some (.int x), l6] (.int x :: st) M Q := wp_step rfl rfl rfl rfl rfl
theorem u71_51 : wp scr n mb_71 51 [some (.ref a), l1, l2, l3, l4, l5, l6] st M Q ↔ wp scr n mb_71 52 [some (.ref a), l1, l2, l3, l4, l5, l6] (.ref a :: st) M Q := wp_step rfl rfl rfl rfl rfl
theorem u71_52 : wp scr n mb_71 52 [l0, l1, l2, l3, l4, l5, some (.int x)] st M Q ↔ wp scr n mb_71 54 [l0, l1, l2, l3, l4, l5, some (.int x)] (.int x :: st) M Q := wp_step rfl rfl rfl rfl rfl
theorem u71_54 : wp scr n mb_71 54 [l0, l1, l2, l3, some (.ref a), l5, l6] st M Q ↔ wp scr n mb_71 56 [l0, l1, l2, l3, some (.ref a), l5, l6] (.ref a :: st) M Q := wp_step rfl rfl rfl rfl rfl
theorem u71_56 : wp scr n mb_71 56 L (o :: st) M Q ↔ mw_o (mm_fld (mc_X scr) M o 1 4) (fun v => wp scr n mb_71 59 L (v :: st) M Q) := wp_getf rfl
theorem u71_59 : wp scr n mb_71 59 [l0, l1, l2, l3, l4, l5, some (.int x)] st M Q ↔ wp scr n mb_71 61 [l0, l1, l2, l3, l4, l5, some (.int x)] (.int x :: st) M Q := wp_step rfl rfl rfl rfl rfl
theorem u71_61 : wp scr n mb_71 61 L (.int y :: o :: st) M Q ↔ mw_o (mm_ld (mc_X scr) M o y) (fun x => wp scr n mb_71 62 L (.int x :: st) M Q) := wp_iald rfl
theorem u71_62 : wp scr n mb_71 62 L (a3 :: a2 :: .ref a :: st) M Q ↔ ((mw_r M a 4 ∧ mw_st st) ∧ Wp scr n 72 [.ref a, a2, a3] M (fun r1 M1 => wp scr n mb_71 65 L (r1.toList ++ st) M1 Q)) := wp_vir rfl rfl rfl rfl rfl
theorem u71_65 : wp scr n mb_71 65 L (.int y :: .int x :: st) M Q ↔ wp scr n mb_71 66 L (.int (x + y) :: st) M Q := wp_step rfl rfl rfl rfl rfl
theorem u71_66 : wp scr n mb_71 66 [l0, l1, l2, l3, l4, l5, l6] (.int x :: st) M Q ↔ wp scr n mb_71 68 (mm_sto1 [l0, l1, l2, l3, l4, l5, l6] 5 (.int x)) st M Q := wp_step rfl rfl rfl rfl rfl
theorem u71_68 : wp scr n mb_71 68 [l0, l1, l2, l3, l4, l5, some (.int x)] st M Q ↔ wp scr n mb_71 71 (mm_sto1 [l0, l1, l2, l3, l4, l5, some (.int x)] 6 (.int (x + 1))) st M Q := wp_step rfl rfl rfl rfl rfl
theorem u71_71 : wp scr n mb_71 71 L st M Q ↔ wp scr n mb_71 29 L st M Q := wp_step rfl rfl rfl rfl rfl
theorem u71_74 : wp scr n mb_71 74 [l0, l1, l2, l3, l4, some (.int x), l6] st M Q ↔ wp scr n mb_71 76 [l0, l1, l2, l3, l4, some (.int x), l6] (.int x :: st) M Q := wp_step rfl rfl rfl rfl rfl
theorem u71_76 : wp scr n mb_71 76 L [.int x] M Q ↔ Q (some (.int x)) M := wp_ret rfl rfl
theorem e71 : Wp scr (n + 1) 71 [.ref a0, .int x1, .int x2, .int x3] M Q ↔ wp scr n mb_71 0 [some (.ref a0), some (.int x1), some (.int x2), some (.int x3), none, none, none] [] M Q := Wp_to rfl rfl rfl
/-- SmallerInTheShop$Sheet effortOn (II)I -/
def mb_72 : mw_B := ((Option.some FieldType.int), mp_72)
theorem u72_0 : wp scr n mb_72 0 [some (.ref a), l1, l2] st M Q ↔ wp scr n mb_72 1 [some (.ref a), l1, l2] (.ref a :: st) M Q := wp_step rfl rfl rfl rfl rfl
theorem u72_1 : wp scr n mb_72 1 L (o :: st) M Q ↔ mw_o (mm_fld (mc_X scr) M o 4 1) (fun v => wp scr n mb_72 4 L (v :: st) M Q) := wp_getf rfl
theorem u72_4 : wp scr n mb_72 4 [l0, some (.int x), l2] st M Q ↔ wp scr n mb_72 5 [l0, some (.int x), l2] (.int x :: st) M Q := wp_step rfl rfl rfl rfl rfl
theorem u72_5 : wp scr n mb_72 5 L (.int y :: o :: st) M Q ↔ mw_o (mm_ld (mc_X scr) M o y) (fun x => wp scr n mb_72 6 L (.int x :: st) M Q) := wp_iald rfl
theorem u72_6 : wp scr n mb_72 6 [some (.ref a), l1, l2] st M Q ↔ wp scr n mb_72 7 [some (.ref a), l1, l2] (.ref a :: st) M Q := wp_step rfl rfl rfl rfl rfl
theorem u72_7 : wp scr n mb_72 7 L (o :: st) M Q ↔ mw_o (mm_fld (mc_X scr) M o 4 2) (fun v => wp scr n mb_72 10 L (v :: st) M Q) := wp_getf rfl
theorem u72_10 : wp scr n mb_72 10 [l0, some (.int x), l2] st M Q ↔ wp scr n mb_72 11 [l0, some (.int x), l2] (.int x :: st) M Q := wp_step rfl rfl rfl rfl rfl
theorem u72_11 : wp scr n mb_72 11 L (.int y :: o :: st) M Q ↔ mw_o (mm_ld (mc_X scr) M o y) (fun x => wp scr n mb_72 12 L (.int x :: st) M Q) := wp_iald rfl
theorem u72_12 : wp scr n mb_72 12 [some (.ref a), l1, l2] st M Q ↔ wp scr n mb_72 13 [some (.ref a), l1, l2] (.ref a :: st) M Q := wp_step rfl rfl rfl rfl rfl
theorem u72_13 : wp scr n mb_72 13 L (o :: st) M Q ↔ mw_o (mm_fld (mc_X scr) M o 4 3) (fun v => wp scr n mb_72 16 L (v :: st) M Q) := wp_getf rfl
theorem u72_16 : wp scr n mb_72 16 [l0, some (.int x), l2] st M Q ↔ wp scr n mb_72 17 [l0, some (.int x), l2] (.int x :: st) M Q := wp_step rfl rfl rfl rfl rfl
theorem u72_17 : wp scr n mb_72 17 L (.int y :: o :: st) M Q ↔ mw_o (mm_ld (mc_X scr) M o y) (fun x => wp scr n mb_72 18 L (.int x :: st) M Q) := wp_iald rfl
theorem u72_18 : wp scr n mb_72 18 [l0, l1, some (.int x)] st M Q ↔ wp scr n mb_72 19 [l0, l1, some (.int x)] (.int x :: st) M Q := wp_step rfl rfl rfl rfl rfl
theorem u72_19 : wp scr n mb_72 19 L (a4 :: a3 :: a2 :: a1 :: st) M Q ↔ (mw_st st ∧ Wp scr n 16 [a1, a2, a3, a4] M (fun r1 M1 => wp scr n mb_72 22 L (r1.toList ++ st) M1 Q)) := wp_sta rfl rfl rfl rfl
theorem u72_22 : wp scr n mb_72 22 L [.int x] M Q ↔ Q (some (.int x)) M := wp_ret rfl rfl
theorem e72 : Wp scr (n + 1) 72 [.ref a0, .int x1, .int x2] M Q ↔ wp scr n mb_72 0 [some (.ref a0), some (.int x1), some (.int x2)] [] M Q := Wp_to rfl rfl rfl
/-- SmallerInTheShop$Sheet top ()LSmallerInTheShop$Layout; -/
def mb_73 : mw_B := ((Option.some (FieldType.object "SmallerInTheShop$Layout")), mp_73)
theorem u73_0 : wp scr n mb_73 0 [some (.ref a)] st M Q ↔ wp scr n mb_73 1 [some (.ref a)] (.ref a :: st) M Q := wp_step rfl rfl rfl rfl rfl
theorem u73_1 : wp scr n mb_73 1 L (o :: st) M Q ↔ mw_o (mm_fld (mc_X scr) M o 4 0) (fun v => wp scr n mb_73 4 L (v :: st) M Q) := wp_getf rfl
theorem u73_4 : wp scr n mb_73 4 [some (.ref a)] st M Q ↔ wp scr n mb_73 5 [some (.ref a)] (.ref a :: st) M Q := wp_step rfl rfl rfl rfl rfl
theorem u73_5 : wp scr n mb_73 5 L (o :: st) M Q ↔ mw_o (mm_fld (mc_X scr) M o 4 4) (fun v => wp scr n mb_73 8 L (v :: st) M Q) := wp_getf rfl
theorem u73_8 : wp scr n mb_73 8 L (.int y :: .ref a :: st) M Q ↔ mw_o (mm_lda M a y) (fun v => wp scr n mb_73 9 L (v :: st) M Q) := wp_aald rfl
theorem u73_9 : wp scr n mb_73 9 L [.ref a] M Q ↔ Q (some (.ref a)) M := wp_ret rfl rfl
theorem e73 : Wp scr (n + 1) 73 [.ref a0] M Q ↔ wp scr n mb_73 0 [some (.ref a0)] [] M Q := Wp_to rfl rfl rfl
/-- SmallerInTheShop$Sheet wearDown (LSmallerInTheShop$Layout;)V -/
def mb_74 : mw_B := ((Option.none : Option FieldType), mp_74)
theorem u74_0 : wp scr n mb_74 0 L st M Q ↔ wp scr n mb_74 1 L (.int 0 :: st) M Q := wp_step rfl rfl rfl rfl rfl
theorem u74_1 : wp scr n mb_74 1 [l0, l1, l2] (.int x :: st) M Q ↔ wp scr n mb_74 2 (mm_sto1 [l0, l1, l2] 2 (.int x)) st M Q := wp_step rfl rfl rfl rfl rfl
theorem u74_2 : wp scr n mb_74 2 [l0, l1, some (.int x)] st M Q ↔ wp scr n mb_74 3 [l0, l1, some (.int x)] (.int x :: st) M Q := wp_step rfl rfl rfl rfl rfl
theorem u74_3 : wp scr n mb_74 3 L st M Q ↔ wp scr n mb_74 5 L (.int 10 :: st) M Q := wp_step rfl rfl rfl rfl rfl
theorem u74_5 : wp scr n mb_74 5 L (.int y :: .int x :: st) M Q ↔ (if y ≤ x then wp scr n mb_74 26 L st M Q else wp scr n mb_74 8 L st M Q) := (wp_step rfl rfl rfl rfl rfl).trans wp_ite
theorem u74_8 : wp scr n mb_74 8 [some (.ref a), l1, l2] st M Q ↔ wp scr n mb_74 9 [some (.ref a), l1, l2] (.ref a :: st) M Q := wp_step rfl rfl rfl rfl rfl
theorem u74_9 : wp scr n mb_74 9 L (o :: st) M Q ↔ mw_o (mm_fld (mc_X scr) M o 4 3) (fun v => wp scr n mb_74 12 L (v :: st) M Q) := wp_getf rfl
theorem u74_12 : wp scr n mb_74 12 [l0, l1, some (.int x)] st M Q ↔ wp scr n mb_74 13 [l0, l1, some (.int x)] (.int x :: st) M Q := wp_step rfl rfl rfl rfl rfl
theorem u74_13 : wp scr n mb_74 13 [some (.ref a), l1, l2] st M Q ↔ wp scr n mb_74 14 [some (.ref a), l1, l2] (.ref a :: st) M Q := wp_step rfl rfl rfl rfl rfl
theorem u74_14 : wp scr n mb_74 14 [l0, l1, some (.int x)] st M Q ↔ wp scr n mb_74 15 [l0, l1, some (.int x)] (.int x :: st) M Q := wp_step rfl rfl rfl rfl rfl
theorem u74_15 : wp scr n mb_74 15 [l0, some (.ref a), l2] st M Q ↔ wp scr n mb_74 16 [l0, some (.ref a), l2] (.ref a :: st) M Q := wp_step rfl rfl rfl rfl rfl
theorem u74_16 : wp scr n mb_74 16 L (a3 :: a2 :: .ref a :: st) M Q ↔ ((mw_r M a 4 ∧ mw_st st) ∧ Wp scr n 75 [.ref a, a2, a3] M (fun r1 M1 => wp scr n mb_74 19 L (r1.toList ++ st) M1 Q)) := wp_vir rfl rfl rfl rfl rfl
theorem u74_19 : wp scr n mb_74 19 L (.int x :: .int y :: o :: st) M Q ↔ mw_o (mm_sti M o y x) (fun M1 => wp scr n mb_74 20 L st M1 Q) := wp_iast rfl
theorem u74_20 : wp scr n mb_74 20 [l0, l1, some (.int x)] st M Q ↔ wp scr n mb_74 23 (mm_sto1 [l0, l1, some (.int x)] 2 (.int (x + 1))) st M Q := wp_step rfl rfl rfl rfl rfl
theorem u74_23 : wp scr n mb_74 23 L st M Q ↔ wp scr n mb_74 2 L st M Q := wp_step rfl rfl rfl rfl rfl
theorem u74_26 : wp scr n mb_74 26 L [] M Q ↔ Q none M := wp_ret rfl rfl
theorem e74 : Wp scr (n + 1) 74 [.ref a0, .ref b1] M Q ↔ wp scr n mb_74 0 [some (.ref a0), some (.ref b1), none] [] M Q := Wp_to rfl rfl rfl
/-- SmallerInTheShop$Sheet wornBehind (ILSmallerInTheShop$Layout;)I -/
def mb_75 : mw_B := ((Option.some FieldType.int), mp_75)
theorem u75_0 : wp scr n mb_75 0 [l0, l1, some (.ref a), l3] st M Q ↔ wp scr n mb_75 1 [l0, l1, some (.ref a), l3] (.ref a :: st) M Q := wp_step rfl rfl rfl rfl rfl
theorem u75_1 : wp scr n mb_75 1 L (o :: st) M Q ↔ mw_o (mm_fld (mc_X scr) M o 1 8) (fun v => wp scr n mb_75 4 L (v :: st) M Q) := wp_getf rfl
theorem u75_4 : wp scr n mb_75 4 [l0, some (.int x), l2, l3] st M Q ↔ wp scr n mb_75 5 [l0, some (.int x), l2, l3] (.int x :: st) M Q := wp_step rfl rfl rfl rfl rfl
theorem u75_5 : wp scr n mb_75 5 L (.int y :: .int x :: st) M Q ↔ wp scr n mb_75 6 L (.int (x >>> (y &&& 31)) :: st) M Q := wp_step rfl rfl rfl rfl rfl
theorem u75_6 : wp scr n mb_75 6 L st M Q ↔ wp scr n mb_75 7 L (.int 1 :: st) M Q := wp_step rfl rfl rfl rfl rfl
theorem u75_7 : wp scr n mb_75 7 L (.int y :: .int x :: st) M Q ↔ wp scr n mb_75 8 L (.int (x &&& y) :: st) M Q := wp_step rfl rfl rfl rfl rfl
theorem u75_8 : wp scr n mb_75 8 L (.int x :: st) M Q ↔ (if x = 0 then wp scr n mb_75 11 L st M Q else wp scr n mb_75 18 L st M Q) := (wp_step rfl rfl rfl rfl rfl).trans wp_iten
theorem u75_11 : wp scr n mb_75 11 [some (.ref a), l1, l2, l3] st M Q ↔ wp scr n mb_75 12 [some (.ref a), l1, l2, l3] (.ref a :: st) M Q := wp_step rfl rfl rfl rfl rfl
theorem u75_12 : wp scr n mb_75 12 L (o :: st) M Q ↔ mw_o (mm_fld (mc_X scr) M o 4 3) (fun v => wp scr n mb_75 15 L (v :: st) M Q) := wp_getf rfl
theorem u75_15 : wp scr n mb_75 15 [l0, some (.int x), l2, l3] st M Q ↔ wp scr n mb_75 16 [l0, some (.int x), l2, l3] (.int x :: st) M Q := wp_step rfl rfl rfl rfl rfl
theorem u75_16 : wp scr n mb_75 16 L (.int y :: o :: st) M Q ↔ mw_o (mm_ld (mc_X scr) M o y) (fun x => wp scr n mb_75 17 L (.int x :: st) M Q) := wp_iald rfl
theorem u75_17 : wp scr n mb_75 17 L [.int x] M Q ↔ Q (some (.int x)) M := wp_ret rfl rfl
theorem u75_18 : wp scr n mb_75 18 [some (.ref a), l1, l2, l3] st M Q ↔ wp scr n mb_75 19 [some (.ref a), l1, l2, l3] (.ref a :: st) M Q := wp_step rfl rfl rfl rfl rfl
theorem u75_19 : wp scr n mb_75 19 L (o :: st) M Q ↔ mw_o (mm_fld (mc_X scr) M o 4 1) (fun v => wp scr n mb_75 22 L (v :: st) M Q) := wp_getf rfl
theorem u75_22 : wp scr n mb_75 22 [l0, some (.int x), l2, l3] st M Q ↔ wp scr n mb_75 23 [l0, some (.int x), l2, l3] (.int x :: st) M Q := wp_step rfl rfl rfl rfl rfl
theorem u75_23 : wp scr n mb_75 23 L (.int y :: o :: st) M Q ↔ mw_o (mm_ld (mc_X scr) M o y) (fun x => wp scr n mb_75 24 L (.int x :: st) M Q) := wp_iald rfl
theorem u75_24 : wp scr n mb_75 24 [some (.ref a), l1, l2, l3] st M Q ↔ wp scr n mb_75 25 [some (.ref a), l1, l2, l3] (.ref a :: st) M Q := wp_step rfl rfl rfl rfl rfl
theorem u75_25 : wp scr n mb_75 25 L (o :: st) M Q ↔ mw_o (mm_fld (mc_X scr) M o 4 3) (fun v => wp scr n mb_75 28 L (v :: st) M Q) := wp_getf rfl
theorem u75_28 : wp scr n mb_75 28 [l0, some (.int x), l2, l3] st M Q ↔ wp scr n mb_75 29 [l0, some (.int x), l2, l3] (.int x :: st) M Q := wp_step rfl rfl rfl rfl rfl
theorem u75_29 : wp scr n mb_75 29 L (.int y :: o :: st) M Q ↔ mw_o (mm_ld (mc_X scr) M o y) (fun x => wp scr n mb_75 30 L (.int x :: st) M Q) := wp_iald rfl
theorem u75_30 : wp scr n mb_75 30 [l0, l1, some (.ref a), l3] st M Q ↔ wp scr n mb_75 31 [l0, l1, some (.ref a), l3] (.ref a :: st) M Q := wp_step rfl rfl rfl rfl rfl
theorem u75_31 : wp scr n mb_75 31 L (o :: st) M Q ↔ mw_o (mm_fld (mc_X scr) M o 1 4) (fun v => wp scr n mb_75 34 L (v :: st) M Q) := wp_getf rfl
theorem u75_34 : wp scr n mb_75 34 [l0, some (.int x), l2, l3] st M Q ↔ wp scr n mb_75 35 [l0, some (.int x), l2, l3] (.int x :: st) M Q := wp_step rfl rfl rfl rfl rfl
theorem u75_35 : wp scr n mb_75 35 L (.int y :: o :: st) M Q ↔ mw_o (mm_ld (mc_X scr) M o y) (fun x => wp scr n mb_75 36 L (.int x :: st) M Q) := wp_iald rfl
theorem u75_36 : wp scr n mb_75 36 L (a3 :: a2 :: a1 :: st) M Q ↔ (mw_st st ∧ Wp scr n 19 [a1, a2, a3] M (fun r1 M1 => wp scr n mb_75 39 L (r1.toList ++ st) M1 Q)) := wp_sta rfl rfl rfl rfl
theorem u75_39 : wp scr n mb_75 39 [l0, l1, l2, l3] (.int x :: st) M Q ↔ wp scr n mb_75 40 (mm_sto1 [l0, l1, l2, l3] 3 (.int x)) st M Q := wp_step rfl rfl rfl rfl rfl
theorem u75_40 : wp scr n mb_75 40 L st M Q ↔ wp scr n mb_75 42 L (.int 99 :: st) M Q := wp_step rfl rfl rfl rfl rfl
theorem u75_42 : wp scr n mb_75 42 [some (.ref a), l1, l2, l3] st M Q ↔ wp scr n mb_75 43 [some (.ref a), l1, l2, l3] (.ref a :: st) M Q := wp_step rfl rfl rfl rfl rfl
theorem u75_43 : wp scr n mb_75 43 L (o :: st) M Q ↔ mw_o (mm_fld (mc_X scr) M o 4 3) (fun v => wp scr n mb_75 46 L (v :: st) M Q) := wp_getf rfl
theorem u75_46 : wp scr n mb_75 46 [l0, some (.int x), l2, l3] st M Q ↔ wp scr n mb_75 47 [l0, some (.int x), l2, l3] (.int x :: st) M Q := wp_step rfl rfl rfl rfl rfl
theorem u75_47 : wp scr n mb_75 47 L (.int y :: o :: st) M Q ↔ mw_o (mm_ld (mc_X scr) M o y) (fun x => wp scr n mb_75 48 L (.int x :: st) M Q) := wp_iald rfl
theorem u75_48 : wp scr n mb_75 48 [l0, l1, l2, some (.int x)] st M Q ↔ wp scr n mb_75 49 [l0, l1, l2, some (.int x)] (.int x :: st) M Q := wp_step rfl rfl rfl rfl rfl
theorem u75_49 : wp scr n mb_75 49 L (.int y :: .int x :: st) M Q ↔ wp scr n mb_75 50 L (.int (x + y) :: st) M Q := wp_step rfl rfl rfl rfl rfl
theorem u75_50 : wp scr n mb_75 50 L (.int y :: .int x :: st) M Q ↔ (mw_st st ∧ wp scr n mb_75 53 L (.int (if y < x then y else x) :: st) M Q) := wp_math998 rfl
theorem u75_53 : wp scr n mb_75 53 L [.int x] M Q ↔ Q (some (.int x)) M := wp_ret rfl rfl
theorem e75 : Wp scr (n + 1) 75 [.ref a0, .int x1, .ref b2] M Q ↔ wp scr n mb_75 0 [some (.ref a0), some (.int x1), some (.ref b2), none] [] M Q := Wp_to rfl rfl rfl
/-- SmallerInTheShop$Sheet openLast ()Z -/
def mb_76 : mw_B := ((Option.some FieldType.boolean), mp_76)
theorem u76_0 : wp scr n mb_76 0 [some (.ref a)] st M Q ↔ wp scr n mb_76 1 [some (.ref a)] (.ref a :: st) M Q := wp_step rfl rfl rfl rfl rfl
theorem u76_1 : wp scr n mb_76 1 L (o :: st) M Q ↔ mw_o (mm_fld (mc_X scr) M o 4 4) (fun v => wp scr n mb_76 4 L (v :: st) M Q) := wp_getf rfl
theorem u76_4 : wp scr n mb_76 4 L (.int x :: st) M Q ↔ (if x = 0 then wp scr n mb_76 7 L st M Q else wp scr n mb_76 9 L st M Q) := (wp_step rfl rfl rfl rfl rfl).trans wp_iten
theorem u76_7 : wp scr n mb_76 7 L st M Q ↔ wp scr n mb_76 8 L (.int 0 :: st) M Q := wp_step rfl rfl rfl rfl rfl
theorem u76_8 : wp scr n mb_76 8 L [.int x] M Q ↔ ((x = 0 ∨ x = 1) ∧ Q (some (.int x)) M) := wp_retb rfl rfl
theorem u76_9 : wp scr n mb_76 9 [some (.ref a)] st M Q ↔ wp scr n mb_76 10 [some (.ref a)] (.ref a :: st) M Q := wp_step rfl rfl rfl rfl rfl
theorem u76_10 : wp scr n mb_76 10 L (.ref a :: st) M Q ↔ wp scr n mb_76 11 L (.ref a :: .ref a :: st) M Q := wp_step rfl rfl rfl rfl rfl
theorem u76_11 : wp scr n mb_76 11 L (o :: st) M Q ↔ mw_o (mm_fld (mc_X scr) M o 4 4) (fun v => wp scr n mb_76 14 L (v :: st) M Q) := wp_getf rfl
theorem u76_14 : wp scr n mb_76 14 L st M Q ↔ wp scr n mb_76 15 L (.int 1 :: st) M Q := wp_step rfl rfl rfl rfl rfl
theorem u76_15 : wp scr n mb_76 15 L (.int y :: .int x :: st) M Q ↔ wp scr n mb_76 16 L (.int (x - y) :: st) M Q := wp_step rfl rfl rfl rfl rfl
theorem u76_16 : wp scr n mb_76 16 L (v :: o :: st) M Q ↔ mw_o (mm_put mc_fty M o v 4 4) (fun M1 => wp scr n mb_76 19 L st M1 Q) := wp_putf rfl
theorem u76_19 : wp scr n mb_76 19 L st M Q ↔ wp scr n mb_76 20 L (.int 1 :: st) M Q := wp_step rfl rfl rfl rfl rfl
theorem u76_20 : wp scr n mb_76 20 L [.int x] M Q ↔ ((x = 0 ∨ x = 1) ∧ Q (some (.int x)) M) := wp_retb rfl rfl
theorem e76 : Wp scr (n + 1) 76 [.ref a0] M Q ↔ wp scr n mb_76 0 [some (.ref a0)] [] M Q := Wp_to rfl rfl rfl
/-- SmallerInTheShop$Sheet wearOf (LSmallerInTheShop$Layout;)I -/
def mb_77 : mw_B := ((Option.some FieldType.int), mp_77)
theorem u77_0 : wp scr n mb_77 0 L st M Q ↔ wp scr n mb_77 1 L (.int 0 :: st) M Q := wp_step rfl rfl rfl rfl rfl
theorem u77_1 : wp scr n mb_77 1 [l0, l1, l2, l3] (.int x :: st) M Q ↔ wp scr n mb_77 2 (mm_sto1 [l0, l1, l2, l3] 2 (.int x)) st M Q := wp_step rfl rfl rfl rfl rfl
theorem u77_2 : wp scr n mb_77 2 L st M Q ↔ wp scr n mb_77 3 L (.int 0 :: st) M Q := wp_step rfl rfl rfl rfl rfl
theorem u77_3 : wp scr n mb_77 3 [l0, l1, l2, l3] (.int x :: st) M Q ↔ wp scr n mb_77 4 (mm_sto1 [l0, l1, l2, l3] 3 (.int x)) st M Q := wp_step rfl rfl rfl rfl rfl
theorem u77_4 : wp scr n mb_77 4 [l0, l1, l2, some (.int x)] st M Q ↔ wp scr n mb_77 5 [l0, l1, l2, some (.int x)] (.int x :: st) M Q := wp_step rfl rfl rfl rfl rfl
theorem u77_5 : wp scr n mb_77 5 L st M Q ↔ wp scr n mb_77 7 L (.int 10 :: st) M Q := wp_step rfl rfl rfl rfl rfl
theorem u77_7 : wp scr n mb_77 7 L (.int y :: .int x :: st) M Q ↔ (if y ≤ x then wp scr n mb_77 32 L st M Q else wp scr n mb_77 10 L st M Q) := (wp_step rfl rfl rfl rfl rfl).trans wp_ite
theorem u77_10 : wp scr n mb_77 10 [l0, l1, some (.int x), l3] st M Q ↔ wp scr n mb_77 11 [l0, l1, some (.int x), l3] (.int x :: st) M Q := wp_step rfl rfl rfl rfl rfl
theorem u77_11 : wp scr n mb_77 11 [some (.ref a), l1, l2, l3] st M Q ↔ wp scr n mb_77 12 [some (.ref a), l1, l2, l3] (.ref a :: st) M Q := wp_step rfl rfl rfl rfl rfl
theorem u77_12 : wp scr n mb_77 12 [l0, l1, l2, some (.int x)] st M Q ↔ wp scr n mb_77 13 [l0, l1, l2, some (.int x)] (.int x :: st) M Q := wp_step rfl rfl rfl rfl rfl
theorem u77_13 : wp scr n mb_77 13 [l0, some (.ref a), l2, l3] st M Q ↔ wp scr n mb_77 14 [l0, some (.ref a), l2, l3] (.ref a :: st) M Q := wp_step rfl rfl rfl rfl rfl
theorem u77_14 : wp scr n mb_77 14 L (a3 :: a2 :: .ref a :: st) M Q ↔ ((mw_r M a 4 ∧ mw_st st) ∧ Wp scr n 75 [.ref a, a2, a3] M (fun r1 M1 => wp scr n mb_77 17 L (r1.toList ++ st) M1 Q)) := wp_vir rfl rfl rfl rfl rfl
theorem u77_17 : wp scr n mb_77 17 [some (.ref a), l1, l2, l3] st M Q ↔ wp scr n mb_77 18 [some (.ref a), l1, l2, l3] (.ref a :: st) M Q := wp_step rfl rfl rfl rfl rfl
theorem u77_18 : wp scr n mb_77 18 L (o :: st) M Q ↔ mw_o (mm_fld (mc_X scr) M o 4 3) (fun v => wp scr n mb_77 21 L (v :: st) M Q) := wp_getf rfl
theorem u77_21 : wp scr n mb_77 21 [l0, l1, l2, some (.int x)] st M Q ↔ wp scr n mb_77 22 [l0, l1, l2, some (.int x)] (.int x :: st) M Q := wp_step rfl rfl rfl rfl rfl
theorem u77_22 : wp scr n mb_77 22 L (.int y :: o :: st) M Q ↔ mw_o (mm_ld (mc_X scr) M o y) (fun x => wp scr n mb_77 23 L (.int x :: st) M Q) := wp_iald rfl
theorem u77_23 : wp scr n mb_77 23 L (.int y :: .int x :: st) M Q ↔ wp scr n mb_77 24 L (.int (x - y) :: st) M Q := wp_step rfl rfl rfl rfl rfl
theorem u77_24 : wp scr n mb_77 24 L (.int y :: .int x :: st) M Q ↔ wp scr n mb_77 25 L (.int (x + y) :: st) M Q := wp_step rfl rfl rfl rfl rfl
theorem u77_25 : wp scr n mb_77 25 [l0, l1, l2, l3] (.int x :: st) M Q ↔ wp scr n mb_77 26 (mm_sto1 [l0, l1, l2, l3] 2 (.int x)) st M Q := wp_step rfl rfl rfl rfl rfl
theorem u77_26 : wp scr n mb_77 26 [l0, l1, l2, some (.int x)] st M Q ↔ wp scr n mb_77 29 (mm_sto1 [l0, l1, l2, some (.int x)] 3 (.int (x + 1))) st M Q := wp_step rfl rfl rfl rfl rfl
theorem u77_29 : wp scr n mb_77 29 L st M Q ↔ wp scr n mb_77 4 L st M Q := wp_step rfl rfl rfl rfl rfl
theorem u77_32 : wp scr n mb_77 32 [l0, l1, some (.int x), l3] st M Q ↔ wp scr n mb_77 33 [l0, l1, some (.int x), l3] (.int x :: st) M Q := wp_step rfl rfl rfl rfl rfl
theorem u77_33 : wp scr n mb_77 33 L [.int x] M Q ↔ Q (some (.int x)) M := wp_ret rfl rfl
theorem e77 : Wp scr (n + 1) 77 [.ref a0, .ref b1] M Q ↔ wp scr n mb_77 0 [some (.ref a0), some (.ref b1), none, none] [] M Q := Wp_to rfl rfl rfl
/-- SmallerInTheShop$Sheet lastsUnder (LSmallerInTheShop$Layout;)I -/
def mb_78 : mw_B := ((Option.some FieldType.int), mp_78)
theorem u78_0 : wp scr n mb_78 0 [some (.ref a), l1, l2, l3] st M Q ↔ wp scr n mb_78 1 [some (.ref a), l1, l2, l3] (.ref a :: st) M Q := wp_step rfl rfl rfl rfl rfl
theorem u78_1 : wp scr n mb_78 1 L (.ref a :: st) M Q ↔ ((mw_r M a 4 ∧ mw_st st) ∧ Wp scr n 79 [.ref a] M (fun r1 M1 => wp scr n mb_78 4 L (r1.toList ++ st) M1 Q)) := wp_vir rfl rfl rfl rfl rfl
theorem u78_4 : wp scr n mb_78 4 [l0, l1, l2, l3] (.int x :: st) M Q ↔ wp scr n mb_78 5 (mm_sto1 [l0, l1, l2, l3] 2 (.int x)) st M Q := wp_step rfl rfl rfl rfl rfl
theorem u78_5 : wp scr n mb_78 5 L st M Q ↔ wp scr n mb_78 6 L (.int 1 :: st) M Q := wp_step rfl rfl rfl rfl rfl
theorem u78_6 : wp scr n mb_78 6 [l0, l1, l2, l3] (.int x :: st) M Q ↔ wp scr n mb_78 7 (mm_sto1 [l0, l1, l2, l3] 3 (.int x)) st M Q := wp_step rfl rfl rfl rfl rfl
theorem u78_7 : wp scr n mb_78 7 [l0, l1, l2, some (.int x)] st M Q ↔ wp scr n mb_78 8 [l0, l1, l2, some (.int x)] (.int x :: st) M Q := wp_step rfl rfl rfl rfl rfl
theorem u78_8 : wp scr n mb_78 8 L st M Q ↔ wp scr n mb_78 10 L (.int 99 :: st) M Q := wp_step rfl rfl rfl rfl rfl
theorem u78_10 : wp scr n mb_78 10 L (.int y :: .int x :: st) M Q ↔ (if y ≤ x then wp scr n mb_78 34 L st M Q else wp scr n mb_78 13 L st M Q) := (wp_step rfl rfl rfl rfl rfl).trans wp_ite
theorem u78_13 : wp scr n mb_78 13 [some (.ref a), l1, l2, l3] st M Q ↔ wp scr n mb_78 14 [some (.ref a), l1, l2, l3] (.ref a :: st) M Q := wp_step rfl rfl rfl rfl rfl
theorem u78_14 : wp scr n mb_78 14 [l0, some (.ref a), l2, l3] st M Q ↔ wp scr n mb_78 15 [l0, some (.ref a), l2, l3] (.ref a :: st) M Q := wp_step rfl rfl rfl rfl rfl
theorem u78_15 : wp scr n mb_78 15 L (a2 :: .ref a :: st) M Q ↔ ((mw_r M a 4 ∧ mw_st st) ∧ Wp scr n 74 [.ref a, a2] M (fun r1 M1 => wp scr n mb_78 18 L (r1.toList ++ st) M1 Q)) := wp_vir rfl rfl rfl rfl rfl
theorem u78_18 : wp scr n mb_78 18 [some (.ref a), l1, l2, l3] st M Q ↔ wp scr n mb_78 19 [some (.ref a), l1, l2, l3] (.ref a :: st) M Q := wp_step rfl rfl rfl rfl rfl
theorem u78_19 : wp scr n mb_78 19 L (.ref a :: st) M Q ↔ ((mw_r M a 4 ∧ mw_st st) ∧ Wp scr n 79 [.ref a] M (fun r1 M1 => wp scr n mb_78 22 L (r1.toList ++ st) M1 Q)) := wp_vir rfl rfl rfl rfl rfl
theorem u78_22 : wp scr n mb_78 22 [l0, l1, some (.int x), l3] st M Q ↔ wp scr n mb_78 23 [l0, l1, some (.int x), l3] (.int x :: st) M Q := wp_step rfl rfl rfl rfl rfl
theorem u78_23 : wp scr n mb_78 23 L (.int y :: .int x :: st) M Q ↔ (if x = y then wp scr n mb_78 28 L st M Q else wp scr n mb_78 26 L st M Q) := (wp_step rfl rfl rfl rfl rfl).trans wp_ite
theorem u78_26 : wp scr n mb_78 26 [l0, l1, l2, some (.int x)] st M Q ↔ wp scr n mb_78 27 [l0, l1, l2, some (.int x)] (.int x :: st) M Q := wp_step rfl rfl rfl rfl rfl
theorem u78_27 : wp scr n mb_78 27 L [.int x] M Q ↔ Q (some (.int x)) M := wp_ret rfl rfl
theorem u78_28 : wp scr n mb_78 28 [l0, l1, l2, some (.int x)] st M Q ↔ wp scr n mb_78 31 (mm_sto1 [l0, l1, l2, some (.int x)] 3 (.int (x + 1))) st M Q := wp_step rfl rfl rfl rfl rfl
theorem u78_31 : wp scr n mb_78 31 L st M Q ↔ wp scr n mb_78 7 L st M Q := wp_step rfl rfl rfl rfl rfl
theorem u78_34 : wp scr n mb_78 34 L st M Q ↔ wp scr n mb_78 36 L (.int 99 :: st) M Q := wp_step rfl rfl rfl rfl rfl
theorem u78_36 : wp scr n mb_78 36 L [.int x] M Q ↔ Q (some (.int x)) M := wp_ret rfl rfl
theorem e78 : Wp scr (n + 1) 78 [.ref a0, .ref b1] M Q ↔ wp scr n mb_78 0 [some (.ref a0), some (.ref b1), none, none] [] M Q := Wp_to rfl rfl rfl
/-- SmallerInTheShop$Sheet holes ()I -/
def mb_79 : mw_B := ((Option.some FieldType.int), mp_79)
theorem u79_0 : wp scr n mb_79 0 L st M Q ↔ wp scr n mb_79 1 L (.int 0 :: st) M Q := wp_step rfl rfl rfl rfl rfl
theorem u79_1 : wp scr n mb_79 1 [l0, l1, l2] (.int x :: st) M Q ↔ wp scr n mb_79 2 (mm_sto1 [l0, l1, l2] 1 (.int x)) st M Q := wp_step rfl rfl rfl rfl rfl
theorem u79_2 : wp scr n mb_79 2 L st M Q ↔ wp scr n mb_79 3 L (.int 0 :: st) M Q := wp_step rfl rfl rfl rfl rfl
theorem u79_3 : wp scr n mb_79 3 [l0, l1, l2] (.int x :: st) M Q ↔ wp scr n mb_79 4 (mm_sto1 [l0, l1, l2] 2 (.int x)) st M Q := wp_step rfl rfl rfl rfl rfl
theorem u79_4 : wp scr n mb_79 4 [l0, l1, some (.int x)] st M Q ↔ wp scr n mb_79 5 [l0, l1, some (.int x)] (.int x :: st) M Q := wp_step rfl rfl rfl rfl rfl
theorem u79_5 : wp scr n mb_79 5 L st M Q ↔ wp scr n mb_79 6 L (.int 3 :: st) M Q := wp_step rfl rfl rfl rfl rfl
theorem u79_6 : wp scr n mb_79 6 L (.int y :: .int x :: st) M Q ↔ (if y ≤ x then wp scr n mb_79 31 L st M Q else wp scr n mb_79 9 L st M Q) := (wp_step rfl rfl rfl rfl rfl).trans wp_ite
theorem u79_9 : wp scr n mb_79 9 [some (.ref a), l1, l2] st M Q ↔ wp scr n mb_79 10 [some (.ref a), l1, l2] (.ref a :: st) M Q := wp_step rfl rfl rfl rfl rfl
theorem u79_10 : wp scr n mb_79 10 [l0, l1, some (.int x)] st M Q ↔ wp scr n mb_79 11 [l0, l1, some (.int x)] (.int x :: st) M Q := wp_step rfl rfl rfl rfl rfl
theorem u79_11 : wp scr n mb_79 11 L (a2 :: .ref a :: st) M Q ↔ ((mw_r M a 4 ∧ mw_st st) ∧ Wp scr n 80 [.ref a, a2] M (fun r1 M1 => wp scr n mb_79 14 L (r1.toList ++ st) M1 Q)) := wp_vir rfl rfl rfl rfl rfl
theorem u79_14 : wp scr n mb_79 14 L st M Q ↔ wp scr n mb_79 16 L (.int 40 :: st) M Q := wp_step rfl rfl rfl rfl rfl
theorem u79_16 : wp scr n mb_79 16 L (.int y :: .int x :: st) M Q ↔ (if x < y then wp scr n mb_79 25 L st M Q else wp scr n mb_79 19 L st M Q) := (wp_step rfl rfl rfl rfl rfl).trans wp_ite
theorem u79_19 : wp scr n mb_79 19 [l0, some (.int x), l2] st M Q ↔ wp scr n mb_79 20 [l0, some (.int x), l2] (.int x :: st) M Q := wp_step rfl rfl rfl rfl rfl
theorem u79_20 : wp scr n mb_79 20 L st M Q ↔ wp scr n mb_79 21 L (.int 1 :: st) M Q := wp_step rfl rfl rfl rfl rfl
theorem u79_21 : wp scr n mb_79 21 [l0, l1, some (.int x)] st M Q ↔ wp scr n mb_79 22 [l0, l1, some (.int x)] (.int x :: st) M Q := wp_step rfl rfl rfl rfl rfl
theorem u79_22 : wp scr n mb_79 22 L (.int y :: .int x :: st) M Q ↔ wp scr n mb_79 23 L (.int (x <<< (y &&& 31)) :: st) M Q := wp_step rfl rfl rfl rfl rfl
theorem u79_23 : wp scr n mb_79 23 L (.int y :: .int x :: st) M Q ↔ wp scr n mb_79 24 L (.int (x ||| y) :: st) M Q := wp_step rfl rfl rfl rfl rfl
theorem u79_24 : wp scr n mb_79 24 [l0, l1, l2] (.int x :: st) M Q ↔ wp scr n mb_79 25 (mm_sto1 [l0, l1, l2] 1 (.int x)) st M Q := wp_step rfl rfl rfl rfl rfl
theorem u79_25 : wp scr n mb_79 25 [l0, l1, some (.int x)] st M Q ↔ wp scr n mb_79 28 (mm_sto1 [l0, l1, some (.int x)] 2 (.int (x + 1))) st M Q := wp_step rfl rfl rfl rfl rfl
theorem u79_28 : wp scr n mb_79 28 L st M Q ↔ wp scr n mb_79 4 L st M Q := wp_step rfl rfl rfl rfl rfl
theorem u79_31 : wp scr n mb_79 31 [l0, some (.int x), l2] st M Q ↔ wp scr n mb_79 32 [l0, some (.int x), l2] (.int x :: st) M Q := wp_step rfl rfl rfl rfl rfl
theorem u79_32 : wp scr n mb_79 32 L [.int x] M Q ↔ Q (some (.int x)) M := wp_ret rfl rfl
theorem e79 : Wp scr (n + 1) 79 [.ref a0] M Q ↔ wp scr n mb_79 0 [some (.ref a0), none, none] [] M Q := Wp_to rfl rfl rfl
/-- SmallerInTheShop$Sheet wornAt (I)I -/
def mb_80 : mw_B := ((Option.some FieldType.int), mp_80)
theorem u80_0 : wp scr n mb_80 0 [some (.ref a), l1] st M Q ↔ wp scr n mb_80 1 [some (.ref a), l1] (.ref a :: st) M Q := wp_step rfl rfl rfl rfl rfl
theorem u80_1 : wp scr n mb_80 1 L (o :: st) M Q ↔ mw_o (mm_fld (mc_X scr) M o 4 3) (fun v => wp scr n mb_80 4 L (v :: st) M Q) := wp_getf rfl
theorem u80_4 : wp scr n mb_80 4 [l0, some (.int x)] st M Q ↔ wp scr n mb_80 5 [l0, some (.int x)] (.int x :: st) M Q := wp_step rfl rfl rfl rfl rfl
theorem u80_5 : wp scr n mb_80 5 L (.int y :: o :: st) M Q ↔ mw_o (mm_ld (mc_X scr) M o y) (fun x => wp scr n mb_80 6 L (.int x :: st) M Q) := wp_iald rfl
theorem u80_6 : wp scr n mb_80 6 [some (.ref a), l1] st M Q ↔ wp scr n mb_80 7 [some (.ref a), l1] (.ref a :: st) M Q := wp_step rfl rfl rfl rfl rfl
theorem u80_7 : wp scr n mb_80 7 L (o :: st) M Q ↔ mw_o (mm_fld (mc_X scr) M o 4 3) (fun v => wp scr n mb_80 10 L (v :: st) M Q) := wp_getf rfl
theorem u80_10 : wp scr n mb_80 10 [l0, some (.int x)] st M Q ↔ wp scr n mb_80 11 [l0, some (.int x)] (.int x :: st) M Q := wp_step rfl rfl rfl rfl rfl
theorem u80_11 : wp scr n mb_80 11 L st M Q ↔ wp scr n mb_80 12 L (.int 3 :: st) M Q := wp_step rfl rfl rfl rfl rfl
theorem u80_12 : wp scr n mb_80 12 L (.int y :: .int x :: st) M Q ↔ wp scr n mb_80 13 L (.int (x + y) :: st) M Q := wp_step rfl rfl rfl rfl rfl
theorem u80_13 : wp scr n mb_80 13 L (.int y :: o :: st) M Q ↔ mw_o (mm_ld (mc_X scr) M o y) (fun x => wp scr n mb_80 14 L (.int x :: st) M Q) := wp_iald rfl
theorem u80_14 : wp scr n mb_80 14 L (.int y :: .int x :: st) M Q ↔ wp scr n mb_80 15 L (.int (x + y) :: st) M Q := wp_step rfl rfl rfl rfl rfl
theorem u80_15 : wp scr n mb_80 15 [some (.ref a), l1] st M Q ↔ wp scr n mb_80 16 [some (.ref a), l1] (.ref a :: st) M Q := wp_step rfl rfl rfl rfl rfl
theorem u80_16 : wp scr n mb_80 16 L (o :: st) M Q ↔ mw_o (mm_fld (mc_X scr) M o 4 3) (fun v => wp scr n mb_80 19 L (v :: st) M Q) := wp_getf rfl
theorem u80_19 : wp scr n mb_80 19 [l0, some (.int x)] st M Q ↔ wp scr n mb_80 20 [l0, some (.int x)] (.int x :: st) M Q := wp_step rfl rfl rfl rfl rfl
theorem u80_20 : wp scr n mb_80 20 L st M Q ↔ wp scr n mb_80 22 L (.int 6 :: st) M Q := wp_step rfl rfl rfl rfl rfl
theorem u80_22 : wp scr n mb_80 22 L (.int y :: .int x :: st) M Q ↔ wp scr n mb_80 23 L (.int (x + y) :: st) M Q := wp_step rfl rfl rfl rfl rfl
theorem u80_23 : wp scr n mb_80 23 L (.int y :: o :: st) M Q ↔ mw_o (mm_ld (mc_X scr) M o y) (fun x => wp scr n mb_80 24 L (.int x :: st) M Q) := wp_iald rfl
theorem u80_24 : wp scr n mb_80 24 L (.int y :: .int x :: st) M Q ↔ wp scr n mb_80 25 L (.int (x + y) :: st) M Q := wp_step rfl rfl rfl rfl rfl
theorem u80_25 : wp scr n mb_80 25 [some (.ref a), l1] st M Q ↔ wp scr n mb_80 26 [some (.ref a), l1] (.ref a :: st) M Q := wp_step rfl rfl rfl rfl rfl
theorem u80_26 : wp scr n mb_80 26 L (o :: st) M Q ↔ mw_o (mm_fld (mc_X scr) M o 4 3) (fun v => wp scr n mb_80 29 L (v :: st) M Q) := wp_getf rfl
theorem u80_29 : wp scr n mb_80 29 [l0, some (.int x)] st M Q ↔ wp scr n mb_80 30 [l0, some (.int x)] (.int x :: st) M Q := wp_step rfl rfl rfl rfl rfl
theorem u80_30 : wp scr n mb_80 30 L st M Q ↔ wp scr n mb_80 32 L (.int 7 :: st) M Q := wp_step rfl rfl rfl rfl rfl
theorem u80_32 : wp scr n mb_80 32 L (.int y :: .int x :: st) M Q ↔ wp scr n mb_80 33 L (.int (x + y) :: st) M Q := wp_step rfl rfl rfl rfl rfl
theorem u80_33 : wp scr n mb_80 33 L (.int y :: o :: st) M Q ↔ mw_o (mm_ld (mc_X scr) M o y) (fun x => wp scr n mb_80 34 L (.int x :: st) M Q) := wp_iald rfl
theorem u80_34 : wp scr n mb_80 34 L (.int y :: .int x :: st) M Q ↔ wp scr n mb_80 35 L (.int (x + y) :: st) M Q := wp_step rfl rfl rfl rfl rfl
theorem u80_35 : wp scr n mb_80 35 L [.int x] M Q ↔ Q (some (.int x)) M := wp_ret rfl rfl
theorem e80 : Wp scr (n + 1) 80 [.ref a0, .int x1] M Q ↔ wp scr n mb_80 0 [some (.ref a0), some (.int x1)] [] M Q := Wp_to rfl rfl rfl
/-- SmallerInTheShop$Sheet wornOfAll ()I -/
def mb_81 : mw_B := ((Option.some FieldType.int), mp_81)
theorem u81_0 : wp scr n mb_81 0 L st M Q ↔ wp scr n mb_81 1 L (.int 0 :: st) M Q := wp_step rfl rfl rfl rfl rfl
theorem u81_1 : wp scr n mb_81 1 [l0, l1, l2] (.int x :: st) M Q ↔ wp scr n mb_81 2 (mm_sto1 [l0, l1, l2] 1 (.int x)) st M Q := wp_step rfl rfl rfl rfl rfl
theorem u81_2 : wp scr n mb_81 2 L st M Q ↔ wp scr n mb_81 3 L (.int 0 :: st) M Q := wp_step rfl rfl rfl rfl rfl
theorem u81_3 : wp scr n mb_81 3 [l0, l1, l2] (.int x :: st) M Q ↔ wp scr n mb_81 4 (mm_sto1 [l0, l1, l2] 2 (.int x)) st M Q := wp_step rfl rfl rfl rfl rfl
theorem u81_4 : wp scr n mb_81 4 [l0, l1, some (.int x)] st M Q ↔ wp scr n mb_81 5 [l0, l1, some (.int x)] (.int x :: st) M Q := wp_step rfl rfl rfl rfl rfl
theorem u81_5 : wp scr n mb_81 5 L st M Q ↔ wp scr n mb_81 7 L (.int 10 :: st) M Q := wp_step rfl rfl rfl rfl rfl
theorem u81_7 : wp scr n mb_81 7 L (.int y :: .int x :: st) M Q ↔ (if y ≤ x then wp scr n mb_81 25 L st M Q else wp scr n mb_81 10 L st M Q) := (wp_step rfl rfl rfl rfl rfl).trans wp_ite
theorem u81_10 : wp scr n mb_81 10 [l0, some (.int x), l2] st M Q ↔ wp scr n mb_81 11 [l0, some (.int x), l2] (.int x :: st) M Q := wp_step rfl rfl rfl rfl rfl
theorem u81_11 : wp scr n mb_81 11 [some (.ref a), l1, l2] st M Q ↔ wp scr n mb_81 12 [some (.ref a), l1, l2] (.ref a :: st) M Q := wp_step rfl rfl rfl rfl rfl
theorem u81_12 : wp scr n mb_81 12 L (o :: st) M Q ↔ mw_o (mm_fld (mc_X scr) M o 4 3) (fun v => wp scr n mb_81 15 L (v :: st) M Q) := wp_getf rfl
theorem u81_15 : wp scr n mb_81 15 [l0, l1, some (.int x)] st M Q ↔ wp scr n mb_81 16 [l0, l1, some (.int x)] (.int x :: st) M Q := wp_step rfl rfl rfl rfl rfl
theorem u81_16 : wp scr n mb_81 16 L (.int y :: o :: st) M Q ↔ mw_o (mm_ld (mc_X scr) M o y) (fun x => wp scr n mb_81 17 L (.int x :: st) M Q) := wp_iald rfl
theorem u81_17 : wp scr n mb_81 17 L (.int y :: .int x :: st) M Q ↔ wp scr n mb_81 18 L (.int (x + y) :: st) M Q := wp_step rfl rfl rfl rfl rfl
theorem u81_18 : wp scr n mb_81 18 [l0, l1, l2] (.int x :: st) M Q ↔ wp scr n mb_81 19 (mm_sto1 [l0, l1, l2] 1 (.int x)) st M Q := wp_step rfl rfl rfl rfl rfl
theorem u81_19 : wp scr n mb_81 19 [l0, l1, some (.int x)] st M Q ↔ wp scr n mb_81 22 (mm_sto1 [l0, l1, some (.int x)] 2 (.int (x + 1))) st M Q := wp_step rfl rfl rfl rfl rfl
theorem u81_22 : wp scr n mb_81 22 L st M Q ↔ wp scr n mb_81 4 L st M Q := wp_step rfl rfl rfl rfl rfl
theorem u81_25 : wp scr n mb_81 25 [l0, some (.int x), l2] st M Q ↔ wp scr n mb_81 26 [l0, some (.int x), l2] (.int x :: st) M Q := wp_step rfl rfl rfl rfl rfl
theorem u81_26 : wp scr n mb_81 26 L [.int x] M Q ↔ Q (some (.int x)) M := wp_ret rfl rfl
theorem e81 : Wp scr (n + 1) 81 [.ref a0] M Q ↔ wp scr n mb_81 0 [some (.ref a0), none, none] [] M Q := Wp_to rfl rfl rfl
/-- SmallerInTheShop letter (I)I -/
def mb_83 : mw_B := ((Option.some FieldType.int), mp_83)
theorem u83_0 : wp scr n mb_83 0 [l0, some (.int x)] st M Q ↔ wp scr n mb_83 1 [l0, some (.int x)] (.int x :: st) M Q := wp_step rfl rfl rfl rfl rfl
theorem u83_1 : wp scr n mb_83 1 L (.int x :: st) M Q ↔ (if 0 ≤ x then wp scr n mb_83 11 L st M Q else wp scr n mb_83 4 L st M Q) := (wp_step rfl rfl rfl rfl rfl).trans wp_ite
theorem u83_4 : wp scr n mb_83 4 [some (.ref a), l1] st M Q ↔ wp scr n mb_83 5 [some (.ref a), l1] (.ref a :: st) M Q := wp_step rfl rfl rfl rfl rfl
theorem u83_5 : wp scr n mb_83 5 L st M Q ↔ wp scr n mb_83 7 L (.int (-4) :: st) M Q := wp_step rfl rfl rfl rfl rfl
theorem u83_7 : wp scr n mb_83 7 L (a2 :: .ref a :: st) M Q ↔ ((mw_r M a 5 ∧ mw_st st) ∧ Wp scr n 84 [.ref a, a2] M (fun r1 M1 => wp scr n mb_83 10 L (r1.toList ++ st) M1 Q)) := wp_vir rfl rfl rfl rfl rfl
theorem u83_10 : wp scr n mb_83 10 L [.int x] M Q ↔ Q (some (.int x)) M := wp_ret rfl rfl
theorem u83_11 : wp scr n mb_83 11 [l0, some (.int x)] st M Q ↔ wp scr n mb_83 12 [l0, some (.int x)] (.int x :: st) M Q := wp_step rfl rfl rfl rfl rfl
theorem u83_12 : wp scr n mb_83 12 L st M Q ↔ wp scr n mb_83 15 L (.int 255 :: st) M Q := wp_step rfl rfl rfl rfl rfl
theorem u83_15 : wp scr n mb_83 15 L (.int y :: .int x :: st) M Q ↔ (if y < x then wp scr n mb_83 28 L st M Q else wp scr n mb_83 18 L st M Q) := (wp_step rfl rfl rfl rfl rfl).trans wp_ite
theorem u83_18 : wp scr n mb_83 18 [some (.ref a), l1] st M Q ↔ wp scr n mb_83 19 [some (.ref a), l1] (.ref a :: st) M Q := wp_step rfl rfl rfl rfl rfl
theorem u83_19 : wp scr n mb_83 19 L (o :: st) M Q ↔ mw_o (mm_fld (mc_X scr) M o 5 4) (fun v => wp scr n mb_83 22 L (v :: st) M Q) := wp_getf rfl
theorem u83_22 : wp scr n mb_83 22 L (.ref a :: st) M Q ↔ ((mw_r M a 2 ∧ mw_st st) ∧ Wp scr n 43 [.ref a] M (fun r1 M1 => wp scr n mb_83 25 L (r1.toList ++ st) M1 Q)) := wp_vir rfl rfl rfl rfl rfl
theorem u83_25 : wp scr n mb_83 25 L (.int x :: st) M Q ↔ (if x = 0 then wp scr n mb_83 35 L st M Q else wp scr n mb_83 28 L st M Q) := (wp_step rfl rfl rfl rfl rfl).trans wp_ite
theorem u83_28 : wp scr n mb_83 28 [some (.ref a), l1] st M Q ↔ wp scr n mb_83 29 [some (.ref a), l1] (.ref a :: st) M Q := wp_step rfl rfl rfl rfl rfl
theorem u83_29 : wp scr n mb_83 29 L st M Q ↔ wp scr n mb_83 31 L (.int (-6) :: st) M Q := wp_step rfl rfl rfl rfl rfl
theorem u83_31 : wp scr n mb_83 31 L (a2 :: .ref a :: st) M Q ↔ ((mw_r M a 5 ∧ mw_st st) ∧ Wp scr n 84 [.ref a, a2] M (fun r1 M1 => wp scr n mb_83 34 L (r1.toList ++ st) M1 Q)) := wp_vir rfl rfl rfl rfl rfl
theorem u83_34 : wp scr n mb_83 34 L [.int x] M Q ↔ Q (some (.int x)) M := wp_ret rfl rfl
theorem u83_35 : wp scr n mb_83 35 [some (.ref a), l1] st M Q ↔ wp scr n mb_83 36 [some (.ref a), l1] (.ref a :: st) M Q := wp_step rfl rfl rfl rfl rfl
theorem u83_36 : wp scr n mb_83 36 L (o :: st) M Q ↔ mw_o (mm_fld (mc_X scr) M o 5 4) (fun v => wp scr n mb_83 39 L (v :: st) M Q) := wp_getf rfl
theorem u83_39 : wp scr n mb_83 39 [l0, some (.int x)] st M Q ↔ wp scr n mb_83 40 [l0, some (.int x)] (.int x :: st) M Q := wp_step rfl rfl rfl rfl rfl
theorem u83_40 : wp scr n mb_83 40 L (a2 :: .ref a :: st) M Q ↔ ((mw_r M a 2 ∧ mw_st st) ∧ Wp scr n 44 [.ref a, a2] M (fun r1 M1 => wp scr n mb_83 43 L (r1.toList ++ st) M1 Q)) := wp_vir rfl rfl rfl rfl rfl
theorem u83_43 : wp scr n mb_83 43 L [.int x] M Q ↔ Q (some (.int x)) M := wp_ret rfl rfl
theorem e83 : Wp scr (n + 1) 83 [.ref a0, .int x1] M Q ↔ wp scr n mb_83 0 [some (.ref a0), some (.int x1)] [] M Q := Wp_to rfl rfl rfl
/-- SmallerInTheShop refuse (I)I -/
def mb_84 : mw_B := ((Option.some FieldType.int), mp_84)
theorem u84_0 : wp scr n mb_84 0 [l0, some (.int x), l2] st M Q ↔ wp scr n mb_84 1 [l0, some (.int x), l2] (.int x :: st) M Q := wp_step rfl rfl rfl rfl rfl
theorem u84_1 : wp scr n mb_84 1 L (.int x :: st) M Q ↔ wp scr n mb_84 2 L (.int (-x) :: st) M Q := wp_step rfl rfl rfl rfl rfl
theorem u84_2 : wp scr n mb_84 2 [l0, l1, l2] (.int x :: st) M Q ↔ wp scr n mb_84 3 (mm_sto1 [l0, l1, l2] 2 (.int x)) st M Q := wp_step rfl rfl rfl rfl rfl
theorem u84_3 : wp scr n mb_84 3 [l0, l1, some (.int x)] st M Q ↔ wp scr n mb_84 4 [l0, l1, some (.int x)] (.int x :: st) M Q := wp_step rfl rfl rfl rfl rfl
theorem u84_4 : wp scr n mb_84 4 L st M Q ↔ wp scr n mb_84 5 L (.int 1 :: st) M Q := wp_step rfl rfl rfl rfl rfl
theorem u84_5 : wp scr n mb_84 5 L (.int y :: .int x :: st) M Q ↔ (if x < y then wp scr n mb_84 24 L st M Q else wp scr n mb_84 8 L st M Q) := (wp_step rfl rfl rfl rfl rfl).trans wp_ite
theorem u84_8 : wp scr n mb_84 8 [l0, l1, some (.int x)] st M Q ↔ wp scr n mb_84 9 [l0, l1, some (.int x)] (.int x :: st) M Q := wp_step rfl rfl rfl rfl rfl
theorem u84_9 : wp scr n mb_84 9 L st M Q ↔ wp scr n mb_84 11 L (.int 6 :: st) M Q := wp_step rfl rfl rfl rfl rfl
theorem u84_11 : wp scr n mb_84 11 L (.int y :: .int x :: st) M Q ↔ (if y < x then wp scr n mb_84 24 L st M Q else wp scr n mb_84 14 L st M Q) := (wp_step rfl rfl rfl rfl rfl).trans wp_ite
theorem u84_14 : wp scr n mb_84 14 [some (.ref a), l1, l2] st M Q ↔ wp scr n mb_84 15 [some (.ref a), l1, l2] (.ref a :: st) M Q := wp_step rfl rfl rfl rfl rfl
theorem u84_15 : wp scr n mb_84 15 L (o :: st) M Q ↔ mw_o (mm_fld (mc_X scr) M o 5 7) (fun v => wp scr n mb_84 18 L (v :: st) M Q) := wp_getf rfl
theorem u84_18 : wp scr n mb_84 18 [l0, l1, some (.int x)] st M Q ↔ wp scr n mb_84 19 [l0, l1, some (.int x)] (.int x :: st) M Q := wp_step rfl rfl rfl rfl rfl
theorem u84_19 : wp scr n mb_84 19 L (.int y :: .ref a :: st) M Q ↔ wp scr n mb_84 20 L (.int y :: .ref a :: .int y :: .ref a :: st) M Q := wp_step rfl rfl rfl rfl rfl
theorem u84_20 : wp scr n mb_84 20 L (.int y :: o :: st) M Q ↔ mw_o (mm_ld (mc_X scr) M o y) (fun x => wp scr n mb_84 21 L (.int x :: st) M Q) := wp_iald rfl
theorem u84_21 : wp scr n mb_84 21 L st M Q ↔ wp scr n mb_84 22 L (.int 1 :: st) M Q := wp_step rfl rfl rfl rfl rfl
theorem u84_22 : wp scr n mb_84 22 L (.int y :: .int x :: st) M Q ↔ wp scr n mb_84 23 L (.int (x + y) :: st) M Q := wp_step rfl rfl rfl rfl rfl
theorem u84_23 : wp scr n mb_84 23 L (.int x :: .int y :: o :: st) M Q ↔ mw_o (mm_sti M o y x) (fun M1 => wp scr n mb_84 24 L st M1 Q) := wp_iast rfl
theorem u84_24 : wp scr n mb_84 24 [l0, some (.int x), l2] st M Q ↔ wp scr n mb_84 25 [l0, some (.int x), l2] (.int x :: st) M Q := wp_step rfl rfl rfl rfl rfl
theorem u84_25 : wp scr n mb_84 25 L [.int x] M Q ↔ Q (some (.int x)) M := wp_ret rfl rfl
theorem e84 : Wp scr (n + 1) 84 [.ref a0, .int x1] M Q ↔ wp scr n mb_84 0 [some (.ref a0), some (.int x1), none] [] M Q := Wp_to rfl rfl rfl
/-- SmallerInTheShop map ()I -/
def mb_85 : mw_B := ((Option.some FieldType.int), mp_85)
theorem u85_0 : wp scr n mb_85 0 [some (.ref a), l1, l2] st M Q ↔ wp scr n mb_85 1 [some (.ref a), l1, l2] (.ref a :: st) M Q := wp_step rfl rfl rfl rfl rfl
theorem u85_1 : wp scr n mb_85 1 L (o :: st) M Q ↔ mw_o (mm_fld (mc_X scr) M o 5 4) (fun v => wp scr n mb_85 4 L (v :: st) M Q) := wp_getf rfl
theorem u85_4 : wp scr n mb_85 4 L (.ref a :: st) M Q ↔ ((mw_r M a 2 ∧ mw_st st) ∧ Wp scr n 45 [.ref a] M (fun r1 M1 => wp scr n mb_85 7 L (r1.toList ++ st) M1 Q)) := wp_vir rfl rfl rfl rfl rfl
theorem u85_7 : wp scr n mb_85 7 [l0, l1, l2] (.int x :: st) M Q ↔ wp scr n mb_85 8 (mm_sto1 [l0, l1, l2] 1 (.int x)) st M Q := wp_step rfl rfl rfl rfl rfl
theorem u85_8 : wp scr n mb_85 8 [l0, some (.int x), l2] st M Q ↔ wp scr n mb_85 9 [l0, some (.int x), l2] (.int x :: st) M Q := wp_step rfl rfl rfl rfl rfl
theorem u85_9 : wp scr n mb_85 9 L (.int x :: st) M Q ↔ (if x < 0 then wp scr n mb_85 20 L st M Q else wp scr n mb_85 12 L st M Q) := (wp_step rfl rfl rfl rfl rfl).trans wp_ite
theorem u85_12 : wp scr n mb_85 12 L st M Q ↔ wp scr n mb_85 15 L (.int (-1000) :: st) M Q := wp_step rfl rfl rfl rfl rfl
theorem u85_15 : wp scr n mb_85 15 [l0, some (.int x), l2] st M Q ↔ wp scr n mb_85 16 [l0, some (.int x), l2] (.int x :: st) M Q := wp_step rfl rfl rfl rfl rfl
theorem u85_16 : wp scr n mb_85 16 L (.int y :: .int x :: st) M Q ↔ wp scr n mb_85 17 L (.int (x - y) :: st) M Q := wp_step rfl rfl rfl rfl rfl
theorem u85_17 : wp scr n mb_85 17 L st M Q ↔ wp scr n mb_85 24 L st M Q := wp_step rfl rfl rfl rfl rfl
theorem u85_20 : wp scr n mb_85 20 [some (.ref a), l1, l2] st M Q ↔ wp scr n mb_85 21 [some (.ref a), l1, l2] (.ref a :: st) M Q := wp_step rfl rfl rfl rfl rfl
theorem u85_21 : wp scr n mb_85 21 L (.ref a :: st) M Q ↔ ((mw_r M a 5 ∧ mw_st st) ∧ Wp scr n 86 [.ref a] M (fun r1 M1 => wp scr n mb_85 24 L (r1.toList ++ st) M1 Q)) := wp_vir rfl rfl rfl rfl rfl
theorem u85_24 : wp scr n mb_85 24 [l0, l1, l2] (.int x :: st) M Q ↔ wp scr n mb_85 25 (mm_sto1 [l0, l1, l2] 2 (.int x)) st M Q := wp_step rfl rfl rfl rfl rfl
theorem u85_25 : wp scr n mb_85 25 [some (.ref a), l1, l2] st M Q ↔ wp scr n mb_85 26 [some (.ref a), l1, l2] (.ref a :: st) M Q := wp_step rfl rfl rfl rfl rfl
theorem u85_26 : wp scr n mb_85 26 L (o :: st) M Q ↔ mw_o (mm_fld (mc_X scr) M o 5 4) (fun v => wp scr n mb_85 29 L (v :: st) M Q) := wp_getf rfl
theorem u85_29 : wp scr n mb_85 29 L (.ref a :: st) M Q ↔ ((mw_r M a 2 ∧ mw_st st) ∧ Wp scr n 52 [.ref a] M (fun r1 M1 => wp scr n mb_85 32 L (r1.toList ++ st) M1 Q)) := wp_vir rfl rfl rfl rfl rfl
theorem u85_32 : wp scr n mb_85 32 [l0, l1, some (.int x)] st M Q ↔ wp scr n mb_85 33 [l0, l1, some (.int x)] (.int x :: st) M Q := wp_step rfl rfl rfl rfl rfl
theorem u85_33 : wp scr n mb_85 33 L [.int x] M Q ↔ Q (some (.int x)) M := wp_ret rfl rfl
theorem e85 : Wp scr (n + 1) 85 [.ref a0] M Q ↔ wp scr n mb_85 0 [some (.ref a0), none, none] [] M Q := Wp_to rfl rfl rfl
/-- SmallerInTheShop doStatements ()I -/
def mb_86 : mw_B := ((Option.some FieldType.int), mp_86)
theorem u86_0 : wp scr n mb_86 0 [some (.ref a), l1, l2] st M Q ↔ wp scr n mb_86 1 [some (.ref a), l1, l2] (.ref a :: st) M Q := wp_step rfl rfl rfl rfl rfl
theorem u86_1 : wp scr n mb_86 1 L (o :: st) M Q ↔ mw_o (mm_fld (mc_X scr) M o 5 2) (fun v => wp scr n mb_86 4 L (v :: st) M Q) := wp_getf rfl
theorem u86_4 : wp scr n mb_86 4 [some (.ref a), l1, l2] st M Q ↔ wp scr n mb_86 5 [some (.ref a), l1, l2] (.ref a :: st) M Q := wp_step rfl rfl rfl rfl rfl
theorem u86_5 : wp scr n mb_86 5 L (o :: st) M Q ↔ mw_o (mm_fld (mc_X scr) M o 5 0) (fun v => wp scr n mb_86 8 L (v :: st) M Q) := wp_getf rfl
theorem u86_8 : wp scr n mb_86 8 L (a2 :: .ref a :: st) M Q ↔ ((mw_r M a 4 ∧ mw_st st) ∧ Wp scr n 67 [.ref a, a2] M (fun r1 M1 => wp scr n mb_86 11 L (r1.toList ++ st) M1 Q)) := wp_vir rfl rfl rfl rfl rfl
theorem u86_11 : wp scr n mb_86 11 L st M Q ↔ wp scr n mb_86 12 L (.int 0 :: st) M Q := wp_step rfl rfl rfl rfl rfl
theorem u86_12 : wp scr n mb_86 12 [l0, l1, l2] (.int x :: st) M Q ↔ wp scr n mb_86 13 (mm_sto1 [l0, l1, l2] 1 (.int x)) st M Q := wp_step rfl rfl rfl rfl rfl
theorem u86_13 : wp scr n mb_86 13 L st M Q ↔ wp scr n mb_86 14 L (.int 0 :: st) M Q := wp_step rfl rfl rfl rfl rfl
theorem u86_14 : wp scr n mb_86 14 [l0, l1, l2] (.int x :: st) M Q ↔ wp scr n mb_86 15 (mm_sto1 [l0, l1, l2] 2 (.int x)) st M Q := wp_step rfl rfl rfl rfl rfl
theorem u86_15 : wp scr n mb_86 15 [l0, l1, some (.int x)] st M Q ↔ wp scr n mb_86 16 [l0, l1, some (.int x)] (.int x :: st) M Q := wp_step rfl rfl rfl rfl rfl
theorem u86_16 : wp scr n mb_86 16 [some (.ref a), l1, l2] st M Q ↔ wp scr n mb_86 17 [some (.ref a), l1, l2] (.ref a :: st) M Q := wp_step rfl rfl rfl rfl rfl
theorem u86_17 : wp scr n mb_86 17 L (o :: st) M Q ↔ mw_o (mm_fld (mc_X scr) M o 5 4) (fun v => wp scr n mb_86 20 L (v :: st) M Q) := wp_getf rfl
theorem u86_20 : wp scr n mb_86 20 L (o :: st) M Q ↔ mw_o (mm_fld (mc_X scr) M o 2 1) (fun v => wp scr n mb_86 23 L (v :: st) M Q) := wp_getf rfl
theorem u86_23 : wp scr n mb_86 23 L (.int y :: .int x :: st) M Q ↔ (if y ≤ x then wp scr n mb_86 59 L st M Q else wp scr n mb_86 26 L st M Q) := (wp_step rfl rfl rfl rfl rfl).trans wp_ite
theorem u86_26 : wp scr n mb_86 26 [some (.ref a), l1, l2] st M Q ↔ wp scr n mb_86 27 [some (.ref a), l1, l2] (.ref a :: st) M Q := wp_step rfl rfl rfl rfl rfl
theorem u86_27 : wp scr n mb_86 27 [l0, l1, some (.int x)] st M Q ↔ wp scr n mb_86 28 [l0, l1, some (.int x)] (.int x :: st) M Q := wp_step rfl rfl rfl rfl rfl
theorem u86_28 : wp scr n mb_86 28 L (a2 :: .ref a :: st) M Q ↔ ((mw_r M a 5 ∧ mw_st st) ∧ Wp scr n 87 [.ref a, a2] M (fun r1 M1 => wp scr n mb_86 31 L (r1.toList ++ st) M1 Q)) := wp_vir rfl rfl rfl rfl rfl
theorem u86_31 : wp scr n mb_86 31 L (.int x :: st) M Q ↔ (if x = 0 then wp scr n mb_86 34 L st M Q else wp scr n mb_86 40 L st M Q) := (wp_step rfl rfl rfl rfl rfl).trans wp_iten
theorem u86_34 : wp scr n mb_86 34 L st M Q ↔ wp scr n mb_86 37 L (.int (-2000) :: st) M Q := wp_step rfl rfl rfl rfl rfl
theorem u86_37 : wp scr n mb_86 37 [l0, l1, some (.int x)] st M Q ↔ wp scr n mb_86 38 [l0, l1, some (.int x)] (.int x :: st) M Q := wp_step rfl rfl rfl rfl rfl
theorem u86_38 : wp scr n mb_86 38 L (.int y :: .int x :: st) M Q ↔ wp scr n mb_86 39 L (.int (x - y) :: st) M Q := wp_step rfl rfl rfl rfl rfl
theorem u86_39 : wp scr n mb_86 39 L [.int x] M Q ↔ Q (some (.int x)) M := wp_ret rfl rfl
theorem u86_40 : wp scr n mb_86 40 [l0, some (.int x), l2] st M Q ↔ wp scr n mb_86 43 (mm_sto1 [l0, some (.int x), l2] 1 (.int (x + 1))) st M Q := wp_step rfl rfl rfl rfl rfl
theorem u86_43 : wp scr n mb_86 43 [l0, l1, some (.int x)] st M Q ↔ wp scr n mb_86 44 [l0, l1, some (.int x)] (.int x :: st) M Q := wp_step rfl rfl rfl rfl rfl
theorem u86_44 : wp scr n mb_86 44 L st M Q ↔ wp scr n mb_86 45 L (.int 1 :: st) M Q := wp_step rfl rfl rfl rfl rfl
theorem u86_45 : wp scr n mb_86 45 [some (.ref a), l1, l2] st M Q ↔ wp scr n mb_86 46 [some (.ref a), l1, l2] (.ref a :: st) M Q := wp_step rfl rfl rfl rfl rfl
theorem u86_46 : wp scr n mb_86 46 L (o :: st) M Q ↔ mw_o (mm_fld (mc_X scr) M o 5 4) (fun v => wp scr n mb_86 49 L (v :: st) M Q) := wp_getf rfl
theorem u86_49 : wp scr n mb_86 49 [l0, l1, some (.int x)] st M Q ↔ wp scr n mb_86 50 [l0, l1, some (.int x)] (.int x :: st) M Q := wp_step rfl rfl rfl rfl rfl
theorem u86_50 : wp scr n mb_86 50 L (a2 :: .ref a :: st) M Q ↔ ((mw_r M a 2 ∧ mw_st st) ∧ Wp scr n 49 [.ref a, a2] M (fun r1 M1 => wp scr n mb_86 53 L (r1.toList ++ st) M1 Q)) := wp_vir rfl rfl rfl rfl rfl
theorem u86_53 : wp scr n mb_86 53 L (.int y :: .int x :: st) M Q ↔ wp scr n mb_86 54 L (.int (x + y) :: st) M Q := wp_step rfl rfl rfl rfl rfl
theorem u86_54 : wp scr n mb_86 54 L (.int y :: .int x :: st) M Q ↔ wp scr n mb_86 55 L (.int (x + y) :: st) M Q := wp_step rfl rfl rfl rfl rfl
theorem u86_55 : wp scr n mb_86 55 [l0, l1, l2] (.int x :: st) M Q ↔ wp scr n mb_86 56 (mm_sto1 [l0, l1, l2] 2 (.int x)) st M Q := wp_step rfl rfl rfl rfl rfl
theorem u86_56 : wp scr n mb_86 56 L st M Q ↔ wp scr n mb_86 15 L st M Q := wp_step rfl rfl rfl rfl rfl
theorem u86_59 : wp scr n mb_86 59 [some (.ref a), l1, l2] st M Q ↔ wp scr n mb_86 60 [some (.ref a), l1, l2] (.ref a :: st) M Q := wp_step rfl rfl rfl rfl rfl
theorem u86_60 : wp scr n mb_86 60 L (o :: st) M Q ↔ mw_o (mm_fld (mc_X scr) M o 5 0) (fun v => wp scr n mb_86 63 L (v :: st) M Q) := wp_getf rfl
theorem u86_63 : wp scr n mb_86 63 [some (.ref a), l1, l2] st M Q ↔ wp scr n mb_86 64 [some (.ref a), l1, l2] (.ref a :: st) M Q := wp_step rfl rfl rfl rfl rfl
theorem u86_64 : wp scr n mb_86 64 L (o :: st) M Q ↔ mw_o (mm_fld (mc_X scr) M o 5 2) (fun v => wp scr n mb_86 67 L (v :: st) M Q) := wp_getf rfl
theorem u86_67 : wp scr n mb_86 67 L (a2 :: .ref a :: st) M Q ↔ ((mw_r M a 4 ∧ mw_st st) ∧ Wp scr n 67 [.ref a, a2] M (fun r1 M1 => wp scr n mb_86 70 L (r1.toList ++ st) M1 Q)) := wp_vir rfl rfl rfl rfl rfl
theorem u86_70 : wp scr n mb_86 70 [l0, some (.int x), l2] st M Q ↔ wp scr n mb_86 71 [l0, some (.int x), l2] (.int x :: st) M Q := wp_step rfl rfl rfl rfl rfl
theorem u86_71 : wp scr n mb_86 71 L [.int x] M Q ↔ Q (some (.int x)) M := wp_ret rfl rfl
theorem e86 : Wp scr (n + 1) 86 [.ref a0] M Q ↔ wp scr n mb_86 0 [some (.ref a0), none, none] [] M Q := Wp_to rfl rfl rfl
/-- SmallerInTheShop doStatement (I)Z -/
def mb_87 : mw_B := ((Option.some FieldType.boolean), mp_87)
theorem u87_0 : wp scr n mb_87 0 [some (.ref a), l1, l2] st M Q ↔ wp scr n mb_87 1 [some (.ref a), l1, l2] (.ref a :: st) M Q := wp_step rfl rfl rfl rfl rfl
theorem u87_1 : wp scr n mb_87 1 L (o :: st) M Q ↔ mw_o (mm_fld (mc_X scr) M o 5 4) (fun v => wp scr n mb_87 4 L (v :: st) M Q) := wp_getf rfl
theorem u87_4 : wp scr n mb_87 4 [l0, some (.int x), l2] st M Q ↔ wp scr n mb_87 5 [l0, some (.int x), l2] (.int x :: st) M Q := wp_step rfl rfl rfl rfl rfl
theorem u87_5 : wp scr n mb_87 5 L st M Q ↔ wp scr n mb_87 6 L (.int 1 :: st) M Q := wp_step rfl rfl rfl rfl rfl
theorem u87_6 : wp scr n mb_87 6 L (.int y :: .int x :: st) M Q ↔ wp scr n mb_87 7 L (.int (x + y) :: st) M Q := wp_step rfl rfl rfl rfl rfl
theorem u87_7 : wp scr n mb_87 7 L (a2 :: .ref a :: st) M Q ↔ ((mw_r M a 2 ∧ mw_st st) ∧ Wp scr n 50 [.ref a, a2] M (fun r1 M1 => wp scr n mb_87 10 L (r1.toList ++ st) M1 Q)) := wp_vir rfl rfl rfl rfl rfl
theorem u87_10 : wp scr n mb_87 10 [l0, l1, l2] (.int x :: st) M Q ↔ wp scr n mb_87 11 (mm_sto1 [l0, l1, l2] 2 (.int x)) st M Q := wp_step rfl rfl rfl rfl rfl
theorem u87_11 : wp scr n mb_87 11 [some (.ref a), l1, l2] st M Q ↔ wp scr n mb_87 12 [some (.ref a), l1, l2] (.ref a :: st) M Q := wp_step rfl rfl rfl rfl rfl
theorem u87_12 : wp scr n mb_87 12 L (o :: st) M Q ↔ mw_o (mm_fld (mc_X scr) M o 5 4) (fun v => wp scr n mb_87 15 L (v :: st) M Q) := wp_getf rfl
theorem u87_15 : wp scr n mb_87 15 [l0, some (.int x), l2] st M Q ↔ wp scr n mb_87 16 [l0, some (.int x), l2] (.int x :: st) M Q := wp_step rfl rfl rfl rfl rfl
theorem u87_16 : wp scr n mb_87 16 L (a2 :: .ref a :: st) M Q ↔ ((mw_r M a 2 ∧ mw_st st) ∧ Wp scr n 46 [.ref a, a2] M (fun r1 M1 => wp scr n mb_87 19 L (r1.toList ++ st) M1 Q)) := wp_vir rfl rfl rfl rfl rfl
theorem u87_19 : wp scr n mb_87 19 L (.int x :: st) M Q ↔ wp scr n mb_87 (mw_sw x [(99, 148), (102, 124), (107, 68), (111, 140), (119, 94)] 154) L st M Q := wp_lookS (d := 135) (ps := #[(99, 129), (102, 105), (107, 49), (111, 121), (119, 75)]) rfl (by decide +kernel) (by decide +kernel)
theorem u87_68 : wp scr n mb_87 68 [some (.ref a), l1, l2] st M Q ↔ wp scr n mb_87 69 [some (.ref a), l1, l2] (.ref a :: st) M Q := wp_step rfl rfl rfl rfl rfl
theorem u87_69 : wp scr n mb_87 69 [l0, l1, some (.int x)] st M Q ↔ wp scr n mb_87 70 [l0, l1, some (.int x)] (.int x :: st) M Q := wp_step rfl rfl rfl rfl rfl
theorem u87_70 : wp scr n mb_87 70 [some (.ref a), l1, l2] st M Q ↔ wp scr n mb_87 71 [some (.ref a), l1, l2] (.ref a :: st) M Q := wp_step rfl rfl rfl rfl rfl
theorem u87_71 : wp scr n mb_87 71 L (o :: st) M Q ↔ mw_o (mm_fld (mc_X scr) M o 5 4) (fun v => wp scr n mb_87 74 L (v :: st) M Q) := wp_getf rfl
theorem u87_74 : wp scr n mb_87 74 [l0, some (.int x), l2] st M Q ↔ wp scr n mb_87 75 [l0, some (.int x), l2] (.int x :: st) M Q := wp_step rfl rfl rfl rfl rfl
theorem u87_75 : wp scr n mb_87 75 L st M Q ↔ wp scr n mb_87 76 L (.int 2 :: st) M Q := wp_step rfl rfl rfl rfl rfl
theorem u87_76 : wp scr n mb_87 76 L (.int y :: .int x :: st) M Q ↔ wp scr n mb_87 77 L (.int (x + y) :: st) M Q := wp_step rfl rfl rfl rfl rfl
theorem u87_77 : wp scr n mb_87 77 L (a2 :: .ref a :: st) M Q ↔ ((mw_r M a 2 ∧ mw_st st) ∧ Wp scr n 51 [.ref a, a2] M (fun r1 M1 => wp scr n mb_87 80 L (r1.toList ++ st) M1 Q)) := wp_vir rfl rfl rfl rfl rfl
theorem u87_80 : wp scr n mb_87 80 [some (.ref a), l1, l2] st M Q ↔ wp scr n mb_87 81 [some (.ref a), l1, l2] (.ref a :: st) M Q := wp_step rfl rfl rfl rfl rfl
theorem u87_81 : wp scr n mb_87 81 L (o :: st) M Q ↔ mw_o (mm_fld (mc_X scr) M o 5 4) (fun v => wp scr n mb_87 84 L (v :: st) M Q) := wp_getf rfl
theorem u87_84 : wp scr n mb_87 84 [l0, some (.int x), l2] st M Q ↔ wp scr n mb_87 85 [l0, some (.int x), l2] (.int x :: st) M Q := wp_step rfl rfl rfl rfl rfl
theorem u87_85 : wp scr n mb_87 85 L st M Q ↔ wp scr n mb_87 86 L (.int 3 :: st) M Q := wp_step rfl rfl rfl rfl rfl
theorem u87_86 : wp scr n mb_87 86 L (.int y :: .int x :: st) M Q ↔ wp scr n mb_87 87 L (.int (x + y) :: st) M Q := wp_step rfl rfl rfl rfl rfl
theorem u87_87 : wp scr n mb_87 87 L (a2 :: .ref a :: st) M Q ↔ ((mw_r M a 2 ∧ mw_st st) ∧ Wp scr n 50 [.ref a, a2] M (fun r1 M1 => wp scr n mb_87 90 L (r1.toList ++ st) M1 Q)) := wp_vir rfl rfl rfl rfl rfl
theorem u87_90 : wp scr n mb_87 90 L (a4 :: a3 :: a2 :: .ref a :: st) M Q ↔ ((mw_r M a 5 ∧ mw_st st) ∧ Wp scr n 88 [.ref a, a2, a3, a4] M (fun r1 M1 => wp scr n mb_87 93 L (r1.toList ++ st) M1 Q)) := wp_vir rfl rfl rfl rfl rfl
theorem u87_93 : wp scr n mb_87 93 L [.int x] M Q ↔ ((x = 0 ∨ x = 1) ∧ Q (some (.int x)) M) := wp_retb rfl rfl
theorem u87_94 : wp scr n mb_87 94 [some (.ref a), l1, l2] st M Q ↔ wp scr n mb_87 95 [some (.ref a), l1, l2] (.ref a :: st) M Q := wp_step rfl rfl rfl rfl rfl
theorem u87_95 : wp scr n mb_87 95 [l0, l1, some (.int x)] st M Q ↔ wp scr n mb_87 96 [l0, l1, some (.int x)] (.int x :: st) M Q := wp_step rfl rfl rfl rfl rfl
theorem u87_96 : wp scr n mb_87 96 L st M Q ↔ wp scr n mb_87 98 L (.int 10 :: st) M Q := wp_step rfl rfl rfl rfl rfl
theorem u87_98 : wp scr n mb_87 98 [some (.ref a), l1, l2] st M Q ↔ wp scr n mb_87 99 [some (.ref a), l1, l2] (.ref a :: st) M Q := wp_step rfl rfl rfl rfl rfl
theorem u87_99 : wp scr n mb_87 99 L (o :: st) M Q ↔ mw_o (mm_fld (mc_X scr) M o 5 4) (fun v => wp scr n mb_87 102 L (v :: st) M Q) := wp_getf rfl
theorem u87_102 : wp scr n mb_87 102 [l0, some (.int x), l2] st M Q ↔ wp scr n mb_87 103 [l0, some (.int x), l2] (.int x :: st) M Q := wp_step rfl rfl rfl rfl rfl
theorem u87_103 : wp scr n mb_87 103 L st M Q ↔ wp scr n mb_87 104 L (.int 2 :: st) M Q := wp_step rfl rfl rfl rfl rfl
theorem u87_104 : wp scr n mb_87 104 L (.int y :: .int x :: st) M Q ↔ wp scr n mb_87 105 L (.int (x + y) :: st) M Q := wp_step rfl rfl rfl rfl rfl
theorem u87_105 : wp scr n mb_87 105 L (a2 :: .ref a :: st) M Q ↔ ((mw_r M a 2 ∧ mw_st st) ∧ Wp scr n 50 [.ref a, a2] M (fun r1 M1 => wp scr n mb_87 108 L (r1.toList ++ st) M1 Q)) := wp_vir rfl rfl rfl rfl rfl
theorem u87_108 : wp scr n mb_87 108 L (.int y :: .int x :: st) M Q ↔ wp scr n mb_87 109 L (.int (x * y) :: st) M Q := wp_step rfl rfl rfl rfl rfl
theorem u87_109 : wp scr n mb_87 109 [some (.ref a), l1, l2] st M Q ↔ wp scr n mb_87 110 [some (.ref a), l1, l2] (.ref a :: st) M Q := wp_step rfl rfl rfl rfl rfl
theorem u87_110 : wp scr n mb_87 110 L (o :: st) M Q ↔ mw_o (mm_fld (mc_X scr) M o 5 4) (fun v => wp scr n mb_87 113 L (v :: st) M Q) := wp_getf rfl
theorem u87_113 : wp scr n mb_87 113 [l0, some (.int x), l2] st M Q ↔ wp scr n mb_87 114 [l0, some (.int x), l2] (.int x :: st) M Q := wp_step rfl rfl rfl rfl rfl
theorem u87_114 : wp scr n mb_87 114 L st M Q ↔ wp scr n mb_87 115 L (.int 3 :: st) M Q := wp_step rfl rfl rfl rfl rfl
theorem u87_115 : wp scr n mb_87 115 L (.int y :: .int x :: st) M Q ↔ wp scr n mb_87 116 L (.int (x + y) :: st) M Q := wp_step rfl rfl rfl rfl rfl
theorem u87_116 : wp scr n mb_87 116 L (a2 :: .ref a :: st) M Q ↔ ((mw_r M a 2 ∧ mw_st st) ∧ Wp scr n 50 [.ref a, a2] M (fun r1 M1 => wp scr n mb_87 119 L (r1.toList ++ st) M1 Q)) := wp_vir rfl rfl rfl rfl rfl
theorem u87_119 : wp scr n mb_87 119 L (.int y :: .int x :: st) M Q ↔ wp scr n mb_87 120 L (.int (x + y) :: st) M Q := wp_step rfl rfl rfl rfl rfl
theorem u87_120 : wp scr n mb_87 120 L (a3 :: a2 :: .ref a :: st) M Q ↔ ((mw_r M a 5 ∧ mw_st st) ∧ Wp scr n 90 [.ref a, a2, a3] M (fun r1 M1 => wp scr n mb_87 123 L (r1.toList ++ st) M1 Q)) := wp_vir rfl rfl rfl rfl rfl
theorem u87_123 : wp scr n mb_87 123 L [.int x] M Q ↔ ((x = 0 ∨ x = 1) ∧ Q (some (.int x)) M) := wp_retb rfl rfl
theorem u87_124 : wp scr n mb_87 124 [some (.ref a), l1, l2] st M Q ↔ wp scr n mb_87 125 [some (.ref a), l1, l2] (.ref a :: st) M Q := wp_step rfl rfl rfl rfl rfl
theorem u87_125 : wp scr n mb_87 125 [l0, l1, some (.int x)] st M Q ↔ wp scr n mb_87 126 [l0, l1, some (.int x)] (.int x :: st) M Q := wp_step rfl rfl rfl rfl rfl
theorem u87_126 : wp scr n mb_87 126 [some (.ref a), l1, l2] st M Q ↔ wp scr n mb_87 127 [some (.ref a), l1, l2] (.ref a :: st) M Q := wp_step rfl rfl rfl rfl rfl
theorem u87_127 : wp scr n mb_87 127 L (o :: st) M Q ↔ mw_o (mm_fld (mc_X scr) M o 5 4) (fun v => wp scr n mb_87 130 L (v :: st) M Q) := wp_getf rfl
theorem u87_130 : wp scr n mb_87 130 [l0, some (.int x), l2] st M Q ↔ wp scr n mb_87 131 [l0, some (.int x), l2] (.int x :: st) M Q := wp_step rfl rfl rfl rfl rfl
theorem u87_131 : wp scr n mb_87 131 L st M Q ↔ wp scr n mb_87 132 L (.int 2 :: st) M Q := wp_step rfl rfl rfl rfl rfl
theorem u87_132 : wp scr n mb_87 132 L (.int y :: .int x :: st) M Q ↔ wp scr n mb_87 133 L (.int (x + y) :: st) M Q := wp_step rfl rfl rfl rfl rfl
theorem u87_133 : wp scr n mb_87 133 L (a2 :: .ref a :: st) M Q ↔ ((mw_r M a 2 ∧ mw_st st) ∧ Wp scr n 50 [.ref a, a2] M (fun r1 M1 => wp scr n mb_87 136 L (r1.toList ++ st) M1 Q)) := wp_vir rfl rfl rfl rfl rfl
theorem u87_136 : wp scr n mb_87 136 L (a3 :: a2 :: .ref a :: st) M Q ↔ ((mw_r M a 5 ∧ mw_st st) ∧ Wp scr n 91 [.ref a, a2, a3] M (fun r1 M1 => wp scr n mb_87 139 L (r1.toList ++ st) M1 Q)) := wp_vir rfl rfl rfl rfl rfl
theorem u87_139 : wp scr n mb_87 139 L [.int x] M Q ↔ ((x = 0 ∨ x = 1) ∧ Q (some (.int x)) M) := wp_retb rfl rfl
theorem u87_140 : wp scr n mb_87 140 [some (.ref a), l1, l2] st M Q ↔ wp scr n mb_87 141 [some (.ref a), l1, l2] (.ref a :: st) M Q := wp_step rfl rfl rfl rfl rfl
theorem u87_141 : wp scr n mb_87 141 L (o :: st) M Q ↔ mw_o (mm_fld (mc_X scr) M o 5 2) (fun v => wp scr n mb_87 144 L (v :: st) M Q) := wp_getf rfl
theorem u87_144 : wp scr n mb_87 144 L (.ref a :: st) M Q ↔ ((mw_r M a 4 ∧ mw_st st) ∧ Wp scr n 76 [.ref a] M (fun r1 M1 => wp scr n mb_87 147 L (r1.toList ++ st) M1 Q)) := wp_vir rfl rfl rfl rfl rfl
theorem u87_147 : wp scr n mb_87 147 L [.int x] M Q ↔ ((x = 0 ∨ x = 1) ∧ Q (some (.int x)) M) := wp_retb rfl rfl
theorem u87_148 : wp scr n mb_87 148 [some (.ref a), l1, l2] st M Q ↔ wp scr n mb_87 149 [some (.ref a), l1, l2] (.ref a :: st) M Q := wp_step rfl rfl rfl rfl rfl
theorem u87_149 : wp scr n mb_87 149 [l0, l1, some (.int x)] st M Q ↔ wp scr n mb_87 150 [l0, l1, some (.int x)] (.int x :: st) M Q := wp_step rfl rfl rfl rfl rfl
theorem u87_150 : wp scr n mb_87 150 L (a2 :: .ref a :: st) M Q ↔ ((mw_r M a 5 ∧ mw_st st) ∧ Wp scr n 92 [.ref a, a2] M (fun r1 M1 => wp scr n mb_87 153 L (r1.toList ++ st) M1 Q)) := wp_vir rfl rfl rfl rfl rfl
theorem u87_153 : wp scr n mb_87 153 L [.int x] M Q ↔ ((x = 0 ∨ x = 1) ∧ Q (some (.int x)) M) := wp_retb rfl rfl
theorem u87_154 : wp scr n mb_87 154 L st M Q ↔ wp scr n mb_87 155 L (.int 0 :: st) M Q := wp_step rfl rfl rfl rfl rfl
theorem u87_155 : wp scr n mb_87 155 L [.int x] M Q ↔ ((x = 0 ∨ x = 1) ∧ Q (some (.int x)) M) := wp_retb rfl rfl
theorem e87 : Wp scr (n + 1) 87 [.ref a0, .int x1] M Q ↔ wp scr n mb_87 0 [some (.ref a0), some (.int x1), none] [] M Q := Wp_to rfl rfl rfl
/-- SmallerInTheShop tellKind (III)Z -/
def mb_88 : mw_B := ((Option.some FieldType.boolean), mp_88)
theorem u88_0 : wp scr n mb_88 0 [l0, some (.int x), l2, l3] st M Q ↔ wp scr n mb_88 1 [l0, some (.int x), l2, l3] (.int x :: st) M Q := wp_step rfl rfl rfl rfl rfl
theorem u88_1 : wp scr n mb_88 1 L st M Q ↔ wp scr n mb_88 3 L (.int 10 :: st) M Q := wp_step rfl rfl rfl rfl rfl
theorem u88_3 : wp scr n mb_88 3 L (a2 :: a1 :: st) M Q ↔ (mw_st st ∧ Wp scr n 89 [a1, a2] M (fun r1 M1 => wp scr n mb_88 6 L (r1.toList ++ st) M1 Q)) := wp_sta rfl rfl rfl rfl
theorem u88_6 : wp scr n mb_88 6 L (.int x :: st) M Q ↔ (if x = 0 then wp scr n mb_88 9 L st M Q else wp scr n mb_88 11 L st M Q) := (wp_step rfl rfl rfl rfl rfl).trans wp_iten
theorem u88_9 : wp scr n mb_88 9 L st M Q ↔ wp scr n mb_88 10 L (.int 0 :: st) M Q := wp_step rfl rfl rfl rfl rfl
theorem u88_10 : wp scr n mb_88 10 L [.int x] M Q ↔ ((x = 0 ∨ x = 1) ∧ Q (some (.int x)) M) := wp_retb rfl rfl
theorem u88_11 : wp scr n mb_88 11 [some (.ref a), l1, l2, l3] st M Q ↔ wp scr n mb_88 12 [some (.ref a), l1, l2, l3] (.ref a :: st) M Q := wp_step rfl rfl rfl rfl rfl
theorem u88_12 : wp scr n mb_88 12 L (o :: st) M Q ↔ mw_o (mm_fld (mc_X scr) M o 5 2) (fun v => wp scr n mb_88 15 L (v :: st) M Q) := wp_getf rfl
theorem u88_15 : wp scr n mb_88 15 L (o :: st) M Q ↔ mw_o (mm_fld (mc_X scr) M o 4 1) (fun v => wp scr n mb_88 18 L (v :: st) M Q) := wp_getf rfl
theorem u88_18 : wp scr n mb_88 18 [l0, some (.int x), l2, l3] st M Q ↔ wp scr n mb_88 19 [l0, some (.int x), l2, l3] (.int x :: st) M Q := wp_step rfl rfl rfl rfl rfl
theorem u88_19 : wp scr n mb_88 19 [l0, l1, some (.int x), l3] st M Q ↔ wp scr n mb_88 20 [l0, l1, some (.int x), l3] (.int x :: st) M Q := wp_step rfl rfl rfl rfl rfl
theorem u88_20 : wp scr n mb_88 20 L (.int x :: .int y :: o :: st) M Q ↔ mw_o (mm_sti M o y x) (fun M1 => wp scr n mb_88 21 L st M1 Q) := wp_iast rfl
theorem u88_21 : wp scr n mb_88 21 [some (.ref a), l1, l2, l3] st M Q ↔ wp scr n mb_88 22 [some (.ref a), l1, l2, l3] (.ref a :: st) M Q := wp_step rfl rfl rfl rfl rfl
theorem u88_22 : wp scr n mb_88 22 L (o :: st) M Q ↔ mw_o (mm_fld (mc_X scr) M o 5 2) (fun v => wp scr n mb_88 25 L (v :: st) M Q) := wp_getf rfl
theorem u88_25 : wp scr n mb_88 25 L (o :: st) M Q ↔ mw_o (mm_fld (mc_X scr) M o 4 2) (fun v => wp scr n mb_88 28 L (v :: st) M Q) := wp_getf rfl
theorem u88_28 : wp scr n mb_88 28 [l0, some (.int x), l2, l3] st M Q ↔ wp scr n mb_88 29 [l0, some (.int x), l2, l3] (.int x :: st) M Q := wp_step rfl rfl rfl rfl rfl
theorem u88_29 : wp scr n mb_88 29 [l0, l1, l2, some (.int x)] st M Q ↔ wp scr n mb_88 30 [l0, l1, l2, some (.int x)] (.int x :: st) M Q := wp_step rfl rfl rfl rfl rfl
theorem u88_30 : wp scr n mb_88 30 L (.int x :: .int y :: o :: st) M Q ↔ mw_o (mm_sti M o y x) (fun M1 => wp scr n mb_88 31 L st M1 Q) := wp_iast rfl
theorem u88_31 : wp scr n mb_88 31 L st M Q ↔ wp scr n mb_88 32 L (.int 1 :: st) M Q := wp_step rfl rfl rfl rfl rfl
theorem u88_32 : wp scr n mb_88 32 L [.int x] M Q ↔ ((x = 0 ∨ x = 1) ∧ Q (some (.int x)) M) := wp_retb rfl rfl
theorem e88 : Wp scr (n + 1) 88 [.ref a0, .int x1, .int x2, .int x3] M Q ↔ wp scr n mb_88 0 [some (.ref a0), some (.int x1), some (.int x2), some (.int x3)] [] M Q := Wp_to rfl rfl rfl
/-- SmallerInTheShop isBelow (II)Z -/
def mb_89 : mw_B := ((Option.some FieldType.boolean), mp_89)
theorem u89_0 : wp scr n mb_89 0 [some (.int x), l1] st M Q ↔ wp scr n mb_89 1 [some (.int x), l1] (.int x :: st) M Q := wp_step rfl rfl rfl rfl rfl
theorem u89_1 : wp scr n mb_89 1 L (.int x :: st) M Q ↔ (if x < 0 then wp scr n mb_89 13 L st M Q else wp scr n mb_89 4 L st M Q) := (wp_step rfl rfl rfl rfl rfl).trans wp_ite
theorem u89_4 : wp scr n mb_89 4 [some (.int x), l1] st M Q ↔ wp scr n mb_89 5 [some (.int x), l1] (.int x :: st) M Q := wp_step rfl rfl rfl rfl rfl
theorem u89_5 : wp scr n mb_89 5 [l0, some (.int x)] st M Q ↔ wp scr n mb_89 6 [l0, some (.int x)] (.int x :: st) M Q := wp_step rfl rfl rfl rfl rfl
theorem u89_6 : wp scr n mb_89 6 L (.int y :: .int x :: st) M Q ↔ (if y ≤ x then wp scr n mb_89 13 L st M Q else wp scr n mb_89 9 L st M Q) := (wp_step rfl rfl rfl rfl rfl).trans wp_ite
theorem u89_9 : wp scr n mb_89 9 L st M Q ↔ wp scr n mb_89 10 L (.int 1 :: st) M Q := wp_step rfl rfl rfl rfl rfl
theorem u89_10 : wp scr n mb_89 10 L st M Q ↔ wp scr n mb_89 14 L st M Q := wp_step rfl rfl rfl rfl rfl
theorem u89_13 : wp scr n mb_89 13 L st M Q ↔ wp scr n mb_89 14 L (.int 0 :: st) M Q := wp_step rfl rfl rfl rfl rfl
theorem u89_14 : wp scr n mb_89 14 L [.int x] M Q ↔ ((x = 0 ∨ x = 1) ∧ Q (some (.int x)) M) := wp_retb rfl rfl
theorem e89 : Wp scr (n + 1) 89 [.int x1, .int x2] M Q ↔ wp scr n mb_89 0 [some (.int x1), some (.int x2)] [] M Q := Wp_to rfl rfl rfl
/-- SmallerInTheShop tellWorn (II)Z -/
def mb_90 : mw_B := ((Option.some FieldType.boolean), mp_90)
theorem u90_0 : wp scr n mb_90 0 [l0, some (.int x), l2] st M Q ↔ wp scr n mb_90 1 [l0, some (.int x), l2] (.int x :: st) M Q := wp_step rfl rfl rfl rfl rfl
theorem u90_1 : wp scr n mb_90 1 L st M Q ↔ wp scr n mb_90 3 L (.int 10 :: st) M Q := wp_step rfl rfl rfl rfl rfl
theorem u90_3 : wp scr n mb_90 3 L (a2 :: a1 :: st) M Q ↔ (mw_st st ∧ Wp scr n 89 [a1, a2] M (fun r1 M1 => wp scr n mb_90 6 L (r1.toList ++ st) M1 Q)) := wp_sta rfl rfl rfl rfl
theorem u90_6 : wp scr n mb_90 6 L (.int x :: st) M Q ↔ (if x = 0 then wp scr n mb_90 9 L st M Q else wp scr n mb_90 11 L st M Q) := (wp_step rfl rfl rfl rfl rfl).trans wp_iten
theorem u90_9 : wp scr n mb_90 9 L st M Q ↔ wp scr n mb_90 10 L (.int 0 :: st) M Q := wp_step rfl rfl rfl rfl rfl
theorem u90_10 : wp scr n mb_90 10 L [.int x] M Q ↔ ((x = 0 ∨ x = 1) ∧ Q (some (.int x)) M) := wp_retb rfl rfl
theorem u90_11 : wp scr n mb_90 11 [some (.ref a), l1, l2] st M Q ↔ wp scr n mb_90 12 [some (.ref a), l1, l2] (.ref a :: st) M Q := wp_step rfl rfl rfl rfl rfl
theorem u90_12 : wp scr n mb_90 12 L (o :: st) M Q ↔ mw_o (mm_fld (mc_X scr) M o 5 2) (fun v => wp scr n mb_90 15 L (v :: st) M Q) := wp_getf rfl
theorem u90_15 : wp scr n mb_90 15 L (o :: st) M Q ↔ mw_o (mm_fld (mc_X scr) M o 4 3) (fun v => wp scr n mb_90 18 L (v :: st) M Q) := wp_getf rfl
theorem u90_18 : wp scr n mb_90 18 [l0, some (.int x), l2] st M Q ↔ wp scr n mb_90 19 [l0, some (.int x), l2] (.int x :: st) M Q := wp_step rfl rfl rfl rfl rfl
theorem u90_19 : wp scr n mb_90 19 [l0, l1, some (.int x)] st M Q ↔ wp scr n mb_90 20 [l0, l1, some (.int x)] (.int x :: st) M Q := wp_step rfl rfl rfl rfl rfl
theorem u90_20 : wp scr n mb_90 20 L (.int x :: .int y :: o :: st) M Q ↔ mw_o (mm_sti M o y x) (fun M1 => wp scr n mb_90 21 L st M1 Q) := wp_iast rfl
theorem u90_21 : wp scr n mb_90 21 L st M Q ↔ wp scr n mb_90 22 L (.int 1 :: st) M Q := wp_step rfl rfl rfl rfl rfl
theorem u90_22 : wp scr n mb_90 22 L [.int x] M Q ↔ ((x = 0 ∨ x = 1) ∧ Q (some (.int x)) M) := wp_retb rfl rfl
theorem e90 : Wp scr (n + 1) 90 [.ref a0, .int x1, .int x2] M Q ↔ wp scr n mb_90 0 [some (.ref a0), some (.int x1), some (.int x2)] [] M Q := Wp_to rfl rfl rfl
/-- SmallerInTheShop tellFold (II)Z -/
def mb_91 : mw_B := ((Option.some FieldType.boolean), mp_91)
theorem u91_0 : wp scr n mb_91 0 [some (.ref a), l1, l2] st M Q ↔ wp scr n mb_91 1 [some (.ref a), l1, l2] (.ref a :: st) M Q := wp_step rfl rfl rfl rfl rfl
theorem u91_1 : wp scr n mb_91 1 L (o :: st) M Q ↔ mw_o (mm_fld (mc_X scr) M o 5 2) (fun v => wp scr n mb_91 4 L (v :: st) M Q) := wp_getf rfl
theorem u91_4 : wp scr n mb_91 4 [some (.ref a), l1, l2] st M Q ↔ wp scr n mb_91 5 [some (.ref a), l1, l2] (.ref a :: st) M Q := wp_step rfl rfl rfl rfl rfl
theorem u91_5 : wp scr n mb_91 5 L (o :: st) M Q ↔ mw_o (mm_fld (mc_X scr) M o 5 2) (fun v => wp scr n mb_91 8 L (v :: st) M Q) := wp_getf rfl
theorem u91_8 : wp scr n mb_91 8 L (o :: st) M Q ↔ mw_o (mm_fld (mc_X scr) M o 4 4) (fun v => wp scr n mb_91 11 L (v :: st) M Q) := wp_getf rfl
theorem u91_11 : wp scr n mb_91 11 [l0, some (.int x), l2] st M Q ↔ wp scr n mb_91 12 [l0, some (.int x), l2] (.int x :: st) M Q := wp_step rfl rfl rfl rfl rfl
theorem u91_12 : wp scr n mb_91 12 L (a3 :: a2 :: .ref a :: st) M Q ↔ ((mw_r M a 4 ∧ mw_st st) ∧ Wp scr n 69 [.ref a, a2, a3] M (fun r1 M1 => wp scr n mb_91 15 L (r1.toList ++ st) M1 Q)) := wp_vir rfl rfl rfl rfl rfl
theorem u91_15 : wp scr n mb_91 15 L (.int x :: st) M Q ↔ (if x = 0 then wp scr n mb_91 26 L st M Q else wp scr n mb_91 18 L st M Q) := (wp_step rfl rfl rfl rfl rfl).trans wp_ite
theorem u91_18 : wp scr n mb_91 18 [l0, l1, some (.int x)] st M Q ↔ wp scr n mb_91 19 [l0, l1, some (.int x)] (.int x :: st) M Q := wp_step rfl rfl rfl rfl rfl
theorem u91_19 : wp scr n mb_91 19 L st M Q ↔ wp scr n mb_91 20 L (.int 4 :: st) M Q := wp_step rfl rfl rfl rfl rfl
theorem u91_20 : wp scr n mb_91 20 L (a2 :: a1 :: st) M Q ↔ (mw_st st ∧ Wp scr n 89 [a1, a2] M (fun r1 M1 => wp scr n mb_91 23 L (r1.toList ++ st) M1 Q)) := wp_sta rfl rfl rfl rfl
theorem u91_23 : wp scr n mb_91 23 L (.int x :: st) M Q ↔ (if x = 0 then wp scr n mb_91 26 L st M Q else wp scr n mb_91 28 L st M Q) := (wp_step rfl rfl rfl rfl rfl).trans wp_iten
theorem u91_26 : wp scr n mb_91 26 L st M Q ↔ wp scr n mb_91 27 L (.int 0 :: st) M Q := wp_step rfl rfl rfl rfl rfl
theorem u91_27 : wp scr n mb_91 27 L [.int x] M Q ↔ ((x = 0 ∨ x = 1) ∧ Q (some (.int x)) M) := wp_retb rfl rfl
theorem u91_28 : wp scr n mb_91 28 [some (.ref a), l1, l2] st M Q ↔ wp scr n mb_91 29 [some (.ref a), l1, l2] (.ref a :: st) M Q := wp_step rfl rfl rfl rfl rfl
theorem u91_29 : wp scr n mb_91 29 L (o :: st) M Q ↔ mw_o (mm_fld (mc_X scr) M o 5 2) (fun v => wp scr n mb_91 32 L (v :: st) M Q) := wp_getf rfl
theorem u91_32 : wp scr n mb_91 32 [l0, some (.int x), l2] st M Q ↔ wp scr n mb_91 33 [l0, some (.int x), l2] (.int x :: st) M Q := wp_step rfl rfl rfl rfl rfl
theorem u91_33 : wp scr n mb_91 33 [l0, l1, some (.int x)] st M Q ↔ wp scr n mb_91 34 [l0, l1, some (.int x)] (.int x :: st) M Q := wp_step rfl rfl rfl rfl rfl
theorem u91_34 : wp scr n mb_91 34 L (a3 :: a2 :: .ref a :: st) M Q ↔ ((mw_r M a 4 ∧ mw_st st) ∧ Wp scr n 70 [.ref a, a2, a3] M (fun r1 M1 => wp scr n mb_91 37 L (r1.toList ++ st) M1 Q)) := wp_vir rfl rfl rfl rfl rfl
theorem u91_37 : wp scr n mb_91 37 L (.int x :: st) M Q ↔ wp scr n mb_91 38 L st M Q := wp_step rfl rfl rfl rfl rfl
theorem u91_38 : wp scr n mb_91 38 L st M Q ↔ wp scr n mb_91 39 L (.int 1 :: st) M Q := wp_step rfl rfl rfl rfl rfl
theorem u91_39 : wp scr n mb_91 39 L [.int x] M Q ↔ ((x = 0 ∨ x = 1) ∧ Q (some (.int x)) M) := wp_retb rfl rfl
theorem e91 : Wp scr (n + 1) 91 [.ref a0, .int x1, .int x2] M Q ↔ wp scr n mb_91 0 [some (.ref a0), some (.int x1), some (.int x2)] [] M Q := Wp_to rfl rfl rfl
/-- SmallerInTheShop tellCover (I)Z -/
def mb_92 : mw_B := ((Option.some FieldType.boolean), mp_92)
theorem u92_0 : wp scr n mb_92 0 [l0, some (.int x)] st M Q ↔ wp scr n mb_92 1 [l0, some (.int x)] (.int x :: st) M Q := wp_step rfl rfl rfl rfl rfl
theorem u92_1 : wp scr n mb_92 1 L st M Q ↔ wp scr n mb_92 3 L (.int 8 :: st) M Q := wp_step rfl rfl rfl rfl rfl
theorem u92_3 : wp scr n mb_92 3 L (a2 :: a1 :: st) M Q ↔ (mw_st st ∧ Wp scr n 89 [a1, a2] M (fun r1 M1 => wp scr n mb_92 6 L (r1.toList ++ st) M1 Q)) := wp_sta rfl rfl rfl rfl
theorem u92_6 : wp scr n mb_92 6 L (.int x :: st) M Q ↔ (if x = 0 then wp scr n mb_92 9 L st M Q else wp scr n mb_92 11 L st M Q) := (wp_step rfl rfl rfl rfl rfl).trans wp_iten
theorem u92_9 : wp scr n mb_92 9 L st M Q ↔ wp scr n mb_92 10 L (.int 0 :: st) M Q := wp_step rfl rfl rfl rfl rfl
theorem u92_10 : wp scr n mb_92 10 L [.int x] M Q ↔ ((x = 0 ∨ x = 1) ∧ Q (some (.int x)) M) := wp_retb rfl rfl
theorem u92_11 : wp scr n mb_92 11 [some (.ref a), l1] st M Q ↔ wp scr n mb_92 12 [some (.ref a), l1] (.ref a :: st) M Q := wp_step rfl rfl rfl rfl rfl
theorem u92_12 : wp scr n mb_92 12 L (o :: st) M Q ↔ mw_o (mm_fld (mc_X scr) M o 5 2) (fun v => wp scr n mb_92 15 L (v :: st) M Q) := wp_getf rfl
theorem u92_15 : wp scr n mb_92 15 [l0, some (.int x)] st M Q ↔ wp scr n mb_92 16 [l0, some (.int x)] (.int x :: st) M Q := wp_step rfl rfl rfl rfl rfl
theorem u92_16 : wp scr n mb_92 16 L (v :: o :: st) M Q ↔ mw_o (mm_put mc_fty M o v 4 5) (fun M1 => wp scr n mb_92 19 L st M1 Q) := wp_putf rfl
theorem u92_19 : wp scr n mb_92 19 L st M Q ↔ wp scr n mb_92 20 L (.int 1 :: st) M Q := wp_step rfl rfl rfl rfl rfl
theorem u92_20 : wp scr n mb_92 20 L [.int x] M Q ↔ ((x = 0 ∨ x = 1) ∧ Q (some (.int x)) M) := wp_retb rfl rfl
theorem e92 : Wp scr (n + 1) 92 [.ref a0, .int x1] M Q ↔ wp scr n mb_92 0 [some (.ref a0), some (.int x1)] [] M Q := Wp_to rfl rfl rfl
/-- SmallerInTheShop crease (II)I -/
def mb_93 : mw_B := ((Option.some FieldType.int), mp_93)
theorem u93_0 : wp scr n mb_93 0 [l0, some (.int x), l2] st M Q ↔ wp scr n mb_93 1 [l0, some (.int x), l2] (.int x :: st) M Q := wp_step rfl rfl rfl rfl rfl
theorem u93_1 : wp scr n mb_93 1 L st M Q ↔ wp scr n mb_93 3 L (.int 10 :: st) M Q := wp_step rfl rfl rfl rfl rfl
theorem u93_3 : wp scr n mb_93 3 L (a2 :: a1 :: st) M Q ↔ (mw_st st ∧ Wp scr n 89 [a1, a2] M (fun r1 M1 => wp scr n mb_93 6 L (r1.toList ++ st) M1 Q)) := wp_sta rfl rfl rfl rfl
theorem u93_6 : wp scr n mb_93 6 L (.int x :: st) M Q ↔ (if x = 0 then wp scr n mb_93 9 L st M Q else wp scr n mb_93 15 L st M Q) := (wp_step rfl rfl rfl rfl rfl).trans wp_iten
theorem u93_9 : wp scr n mb_93 9 [some (.ref a), l1, l2] st M Q ↔ wp scr n mb_93 10 [some (.ref a), l1, l2] (.ref a :: st) M Q := wp_step rfl rfl rfl rfl rfl
theorem u93_10 : wp scr n mb_93 10 L st M Q ↔ wp scr n mb_93 11 L (.int (-1) :: st) M Q := wp_step rfl rfl rfl rfl rfl
theorem u93_11 : wp scr n mb_93 11 L (a2 :: .ref a :: st) M Q ↔ ((mw_r M a 5 ∧ mw_st st) ∧ Wp scr n 84 [.ref a, a2] M (fun r1 M1 => wp scr n mb_93 14 L (r1.toList ++ st) M1 Q)) := wp_vir rfl rfl rfl rfl rfl
theorem u93_14 : wp scr n mb_93 14 L [.int x] M Q ↔ Q (some (.int x)) M := wp_ret rfl rfl
theorem u93_15 : wp scr n mb_93 15 [l0, l1, some (.int x)] st M Q ↔ wp scr n mb_93 16 [l0, l1, some (.int x)] (.int x :: st) M Q := wp_step rfl rfl rfl rfl rfl
theorem u93_16 : wp scr n mb_93 16 L (.int x :: st) M Q ↔ wp scr n mb_93 (mw_sw x [(0, 56), (1, 66), (2, 76), (3, 86), (4, 99), (5, 109)] 119) L st M Q := wp_tabS (d := 103) (lo := 0) (hi := 5) (os := #[40, 50, 60, 70, 83, 93]) rfl (by decide +kernel) (by decide +kernel) (by decide +kernel)
theorem u93_56 : wp scr n mb_93 56 [some (.ref a), l1, l2] st M Q ↔ wp scr n mb_93 57 [some (.ref a), l1, l2] (.ref a :: st) M Q := wp_step rfl rfl rfl rfl rfl
theorem u93_57 : wp scr n mb_93 57 L (o :: st) M Q ↔ mw_o (mm_fld (mc_X scr) M o 5 0) (fun v => wp scr n mb_93 60 L (v :: st) M Q) := wp_getf rfl
theorem u93_60 : wp scr n mb_93 60 L (o :: st) M Q ↔ mw_o (mm_fld (mc_X scr) M o 4 1) (fun v => wp scr n mb_93 63 L (v :: st) M Q) := wp_getf rfl
theorem u93_63 : wp scr n mb_93 63 [l0, some (.int x), l2] st M Q ↔ wp scr n mb_93 64 [l0, some (.int x), l2] (.int x :: st) M Q := wp_step rfl rfl rfl rfl rfl
theorem u93_64 : wp scr n mb_93 64 L (.int y :: o :: st) M Q ↔ mw_o (mm_ld (mc_X scr) M o y) (fun x => wp scr n mb_93 65 L (.int x :: st) M Q) := wp_iald rfl
theorem u93_65 : wp scr n mb_93 65 L [.int x] M Q ↔ Q (some (.int x)) M := wp_ret rfl rfl
theorem u93_66 : wp scr n mb_93 66 [some (.ref a), l1, l2] st M Q ↔ wp scr n mb_93 67 [some (.ref a), l1, l2] (.ref a :: st) M Q := wp_step rfl rfl rfl rfl rfl
theorem u93_67 : wp scr n mb_93 67 L (o :: st) M Q ↔ mw_o (mm_fld (mc_X scr) M o 5 0) (fun v => wp scr n mb_93 70 L (v :: st) M Q) := wp_getf rfl
theorem u93_70 : wp scr n mb_93 70 L (o :: st) M Q ↔ mw_o (mm_fld (mc_X scr) M o 4 2) (fun v => wp scr n mb_93 73 L (v :: st) M Q) := wp_getf rfl
theorem u93_73 : wp scr n mb_93 73 [l0, some (.int x), l2] st M Q ↔ wp scr n mb_93 74 [l0, some (.int x), l2] (.int x :: st) M Q := wp_step rfl rfl rfl rfl rfl
theorem u93_74 : wp scr n mb_93 74 L (.int y :: o :: st) M Q ↔ mw_o (mm_ld (mc_X scr) M o y) (fun x => wp scr n mb_93 75 L (.int x :: st) M Q) := wp_iald rfl
theorem u93_75 : wp scr n mb_93 75 L [.int x] M Q ↔ Q (some (.int x)) M := wp_ret rfl rfl
theorem u93_76 : wp scr n mb_93 76 [some (.ref a), l1, l2] st M Q ↔ wp scr n mb_93 77 [some (.ref a), l1, l2] (.ref a :: st) M Q := wp_step rfl rfl rfl rfl rfl
theorem u93_77 : wp scr n mb_93 77 L (o :: st) M Q ↔ mw_o (mm_fld (mc_X scr) M o 5 0) (fun v => wp scr n mb_93 80 L (v :: st) M Q) := wp_getf rfl
theorem u93_80 : wp scr n mb_93 80 L (o :: st) M Q ↔ mw_o (mm_fld (mc_X scr) M o 4 3) (fun v => wp scr n mb_93 83 L (v :: st) M Q) := wp_getf rfl
theorem u93_83 : wp scr n mb_93 83 [l0, some (.int x), l2] st M Q ↔ wp scr n mb_93 84 [l0, some (.int x), l2] (.int x :: st) M Q := wp_step rfl rfl rfl rfl rfl
theorem u93_84 : wp scr n mb_93 84 L (.int y :: o :: st) M Q ↔ mw_o (mm_ld (mc_X scr) M o y) (fun x => wp scr n mb_93 85 L (.int x :: st) M Q) := wp_iald rfl
theorem u93_85 : wp scr n mb_93 85 L [.int x] M Q ↔ Q (some (.int x)) M := wp_ret rfl rfl
theorem u93_86 : wp scr n mb_93 86 [some (.ref a), l1, l2] st M Q ↔ wp scr n mb_93 87 [some (.ref a), l1, l2] (.ref a :: st) M Q := wp_step rfl rfl rfl rfl rfl
theorem u93_87 : wp scr n mb_93 87 L (o :: st) M Q ↔ mw_o (mm_fld (mc_X scr) M o 5 0) (fun v => wp scr n mb_93 90 L (v :: st) M Q) := wp_getf rfl
theorem u93_90 : wp scr n mb_93 90 L (.ref a :: st) M Q ↔ ((mw_r M a 4 ∧ mw_st st) ∧ Wp scr n 73 [.ref a] M (fun r1 M1 => wp scr n mb_93 93 L (r1.toList ++ st) M1 Q)) := wp_vir rfl rfl rfl rfl rfl
theorem u93_93 : wp scr n mb_93 93 L (o :: st) M Q ↔ mw_o (mm_fld (mc_X scr) M o 1 4) (fun v => wp scr n mb_93 96 L (v :: st) M Q) := wp_getf rfl
theorem u93_96 : wp scr n mb_93 96 [l0, some (.int x), l2] st M Q ↔ wp scr n mb_93 97 [l0, some (.int x), l2] (.int x :: st) M Q := wp_step rfl rfl rfl rfl rfl
theorem u93_97 : wp scr n mb_93 97 L (.int y :: o :: st) M Q ↔ mw_o (mm_ld (mc_X scr) M o y) (fun x => wp scr n mb_93 98 L (.int x :: st) M Q) := wp_iald rfl
theorem u93_98 : wp scr n mb_93 98 L [.int x] M Q ↔ Q (some (.int x)) M := wp_ret rfl rfl
theorem u93_99 : wp scr n mb_93 99 [some (.ref a), l1, l2] st M Q ↔ wp scr n mb_93 100 [some (.ref a), l1, l2] (.ref a :: st) M Q := wp_step rfl rfl rfl rfl rfl
theorem u93_100 : wp scr n mb_93 100 L (o :: st) M Q ↔ mw_o (mm_fld (mc_X scr) M o 5 0) (fun v => wp scr n mb_93 103 L (v :: st) M Q) := wp_getf rfl
theorem u93_103 : wp scr n mb_93 103 [l0, some (.int x), l2] st M Q ↔ wp scr n mb_93 104 [l0, some (.int x), l2] (.int x :: st) M Q := wp_step rfl rfl rfl rfl rfl
theorem u93_104 : wp scr n mb_93 104 L st M Q ↔ wp scr n mb_93 105 L (.int 1 :: st) M Q := wp_step rfl rfl rfl rfl rfl
theorem u93_105 : wp scr n mb_93 105 L (a3 :: a2 :: .ref a :: st) M Q ↔ ((mw_r M a 4 ∧ mw_st st) ∧ Wp scr n 72 [.ref a, a2, a3] M (fun r1 M1 => wp scr n mb_93 108 L (r1.toList ++ st) M1 Q)) := wp_vir rfl rfl rfl rfl rfl
theorem u93_108 : wp scr n mb_93 108 L [.int x] M Q ↔ Q (some (.int x)) M := wp_ret rfl rfl
theorem u93_109 : wp scr n mb_93 109 [some (.ref a), l1, l2] st M Q ↔ wp scr n mb_93 110 [some (.ref a), l1, l2] (.ref a :: st) M Q := wp_step rfl rfl rfl rfl rfl
theorem u93_110 : wp scr n mb_93 110 L (o :: st) M Q ↔ mw_o (mm_fld (mc_X scr) M o 5 0) (fun v => wp scr n mb_93 113 L (v :: st) M Q) := wp_getf rfl
theorem u93_113 : wp scr n mb_93 113 [l0, some (.int x), l2] st M Q ↔ wp scr n mb_93 114 [l0, some (.int x), l2] (.int x :: st) M Q := wp_step rfl rfl rfl rfl rfl
theorem u93_114 : wp scr n mb_93 114 L st M Q ↔ wp scr n mb_93 115 L (.int 2 :: st) M Q := wp_step rfl rfl rfl rfl rfl
theorem u93_115 : wp scr n mb_93 115 L (a3 :: a2 :: .ref a :: st) M Q ↔ ((mw_r M a 4 ∧ mw_st st) ∧ Wp scr n 72 [.ref a, a2, a3] M (fun r1 M1 => wp scr n mb_93 118 L (r1.toList ++ st) M1 Q)) := wp_vir rfl rfl rfl rfl rfl
theorem u93_118 : wp scr n mb_93 118 L [.int x] M Q ↔ Q (some (.int x)) M := wp_ret rfl rfl
theorem u93_119 : wp scr n mb_93 119 [some (.ref a), l1, l2] st M Q ↔ wp scr n mb_93 120 [some (.ref a), l1, l2] (.ref a :: st) M Q := wp_step rfl rfl rfl rfl rfl
theorem u93_120 : wp scr n mb_93 120 L st M Q ↔ wp scr n mb_93 122 L (.int (-2) :: st) M Q := wp_step rfl rfl rfl rfl rfl
theorem u93_122 : wp scr n mb_93 122 L (a2 :: .ref a :: st) M Q ↔ ((mw_r M a 5 ∧ mw_st st) ∧ Wp scr n 84 [.ref a, a2] M (fun r1 M1 => wp scr n mb_93 125 L (r1.toList ++ st) M1 Q)) := wp_vir rfl rfl rfl rfl rfl
theorem u93_125 : wp scr n mb_93 125 L [.int x] M Q ↔ Q (some (.int x)) M := wp_ret rfl rfl
theorem e93 : Wp scr (n + 1) 93 [.ref a0, .int x1, .int x2] M Q ↔ wp scr n mb_93 0 [some (.ref a0), some (.int x1), some (.int x2)] [] M Q := Wp_to rfl rfl rfl
/-- SmallerInTheShop panel (II)I -/
def mb_94 : mw_B := ((Option.some FieldType.int), mp_94)
theorem u94_0 : wp scr n mb_94 0 [l0, some (.int x), l2, l3] st M Q ↔ wp scr n mb_94 1 [l0, some (.int x), l2, l3] (.int x :: st) M Q := wp_step rfl rfl rfl rfl rfl
theorem u94_1 : wp scr n mb_94 1 L st M Q ↔ wp scr n mb_94 3 L (.int 8 :: st) M Q := wp_step rfl rfl rfl rfl rfl
theorem u94_3 : wp scr n mb_94 3 L (a2 :: a1 :: st) M Q ↔ (mw_st st ∧ Wp scr n 89 [a1, a2] M (fun r1 M1 => wp scr n mb_94 6 L (r1.toList ++ st) M1 Q)) := wp_sta rfl rfl rfl rfl
theorem u94_6 : wp scr n mb_94 6 L (.int x :: st) M Q ↔ (if x = 0 then wp scr n mb_94 9 L st M Q else wp scr n mb_94 15 L st M Q) := (wp_step rfl rfl rfl rfl rfl).trans wp_iten
theorem u94_9 : wp scr n mb_94 9 [some (.ref a), l1, l2, l3] st M Q ↔ wp scr n mb_94 10 [some (.ref a), l1, l2, l3] (.ref a :: st) M Q := wp_step rfl rfl rfl rfl rfl
theorem u94_10 : wp scr n mb_94 10 L st M Q ↔ wp scr n mb_94 11 L (.int (-1) :: st) M Q := wp_step rfl rfl rfl rfl rfl
theorem u94_11 : wp scr n mb_94 11 L (a2 :: .ref a :: st) M Q ↔ ((mw_r M a 5 ∧ mw_st st) ∧ Wp scr n 84 [.ref a, a2] M (fun r1 M1 => wp scr n mb_94 14 L (r1.toList ++ st) M1 Q)) := wp_vir rfl rfl rfl rfl rfl
theorem u94_14 : wp scr n mb_94 14 L [.int x] M Q ↔ Q (some (.int x)) M := wp_ret rfl rfl
theorem u94_15 : wp scr n mb_94 15 [some (.ref a), l1, l2, l3] st M Q ↔ wp scr n mb_94 16 [some (.ref a), l1, l2, l3] (.ref a :: st) M Q := wp_step rfl rfl rfl rfl rfl
theorem u94_16 : wp scr n mb_94 16 L (o :: st) M Q ↔ mw_o (mm_fld (mc_X scr) M o 5 0) (fun v => wp scr n mb_94 19 L (v :: st) M Q) := wp_getf rfl
theorem u94_19 : wp scr n mb_94 19 L (.ref a :: st) M Q ↔ ((mw_r M a 4 ∧ mw_st st) ∧ Wp scr n 73 [.ref a] M (fun r1 M1 => wp scr n mb_94 22 L (r1.toList ++ st) M1 Q)) := wp_vir rfl rfl rfl rfl rfl
theorem u94_22 : wp scr n mb_94 22 [l0, l1, l2, l3] (.ref a :: st) M Q ↔ wp scr n mb_94 23 (mm_sto1 [l0, l1, l2, l3] 3 (.ref a)) st M Q := wp_step rfl rfl rfl rfl rfl
theorem u94_23 : wp scr n mb_94 23 [l0, l1, some (.int x), l3] st M Q ↔ wp scr n mb_94 24 [l0, l1, some (.int x), l3] (.int x :: st) M Q := wp_step rfl rfl rfl rfl rfl
theorem u94_24 : wp scr n mb_94 24 L (.int x :: st) M Q ↔ wp scr n mb_94 (mw_sw x [(0, 64), (1, 71), (2, 78), (3, 85), (4, 92), (5, 101)] 107) L st M Q := wp_tabS (d := 83) (lo := 0) (hi := 5) (os := #[40, 47, 54, 61, 68, 77]) rfl (by decide +kernel) (by decide +kernel) (by decide +kernel)
theorem u94_64 : wp scr n mb_94 64 [l0, l1, l2, some (.ref a)] st M Q ↔ wp scr n mb_94 65 [l0, l1, l2, some (.ref a)] (.ref a :: st) M Q := wp_step rfl rfl rfl rfl rfl
theorem u94_65 : wp scr n mb_94 65 L (o :: st) M Q ↔ mw_o (mm_fld (mc_X scr) M o 1 0) (fun v => wp scr n mb_94 68 L (v :: st) M Q) := wp_getf rfl
theorem u94_68 : wp scr n mb_94 68 [l0, some (.int x), l2, l3] st M Q ↔ wp scr n mb_94 69 [l0, some (.int x), l2, l3] (.int x :: st) M Q := wp_step rfl rfl rfl rfl rfl
theorem u94_69 : wp scr n mb_94 69 L (.int y :: o :: st) M Q ↔ mw_o (mm_ld (mc_X scr) M o y) (fun x => wp scr n mb_94 70 L (.int x :: st) M Q) := wp_iald rfl
theorem u94_70 : wp scr n mb_94 70 L [.int x] M Q ↔ Q (some (.int x)) M := wp_ret rfl rfl
theorem u94_71 : wp scr n mb_94 71 [l0, l1, l2, some (.ref a)] st M Q ↔ wp scr n mb_94 72 [l0, l1, l2, some (.ref a)] (.ref a :: st) M Q := wp_step rfl rfl rfl rfl rfl
theorem u94_72 : wp scr n mb_94 72 L (o :: st) M Q ↔ mw_o (mm_fld (mc_X scr) M o 1 1) (fun v => wp scr n mb_94 75 L (v :: st) M Q) := wp_getf rfl
theorem u94_75 : wp scr n mb_94 75 [l0, some (.int x), l2, l3] st M Q ↔ wp scr n mb_94 76 [l0, some (.int x), l2, l3] (.int x :: st) M Q := wp_step rfl rfl rfl rfl rfl
theorem u94_76 : wp scr n mb_94 76 L (.int y :: o :: st) M Q ↔ mw_o (mm_ld (mc_X scr) M o y) (fun x => wp scr n mb_94 77 L (.int x :: st) M Q) := wp_iald rfl
theorem u94_77 : wp scr n mb_94 77 L [.int x] M Q ↔ Q (some (.int x)) M := wp_ret rfl rfl
theorem u94_78 : wp scr n mb_94 78 [l0, l1, l2, some (.ref a)] st M Q ↔ wp scr n mb_94 79 [l0, l1, l2, some (.ref a)] (.ref a :: st) M Q := wp_step rfl rfl rfl rfl rfl
theorem u94_79 : wp scr n mb_94 79 L (o :: st) M Q ↔ mw_o (mm_fld (mc_X scr) M o 1 2) (fun v => wp scr n mb_94 82 L (v :: st) M Q) := wp_getf rfl
theorem u94_82 : wp scr n mb_94 82 [l0, some (.int x), l2, l3] st M Q ↔ wp scr n mb_94 83 [l0, some (.int x), l2, l3] (.int x :: st) M Q := wp_step rfl rfl rfl rfl rfl
theorem u94_83 : wp scr n mb_94 83 L (.int y :: o :: st) M Q ↔ mw_o (mm_ld (mc_X scr) M o y) (fun x => wp scr n mb_94 84 L (.int x :: st) M Q) := wp_iald rfl
theorem u94_84 : wp scr n mb_94 84 L [.int x] M Q ↔ Q (some (.int x)) M := wp_ret rfl rfl
theorem u94_85 : wp scr n mb_94 85 [l0, l1, l2, some (.ref a)] st M Q ↔ wp scr n mb_94 86 [l0, l1, l2, some (.ref a)] (.ref a :: st) M Q := wp_step rfl rfl rfl rfl rfl
theorem u94_86 : wp scr n mb_94 86 L (o :: st) M Q ↔ mw_o (mm_fld (mc_X scr) M o 1 3) (fun v => wp scr n mb_94 89 L (v :: st) M Q) := wp_getf rfl
theorem u94_89 : wp scr n mb_94 89 [l0, some (.int x), l2, l3] st M Q ↔ wp scr n mb_94 90 [l0, some (.int x), l2, l3] (.int x :: st) M Q := wp_step rfl rfl rfl rfl rfl
theorem u94_90 : wp scr n mb_94 90 L (.int y :: o :: st) M Q ↔ mw_o (mm_ld (mc_X scr) M o y) (fun x => wp scr n mb_94 91 L (.int x :: st) M Q) := wp_iald rfl
theorem u94_91 : wp scr n mb_94 91 L [.int x] M Q ↔ Q (some (.int x)) M := wp_ret rfl rfl
theorem u94_92 : wp scr n mb_94 92 [l0, l1, l2, some (.ref a)] st M Q ↔ wp scr n mb_94 93 [l0, l1, l2, some (.ref a)] (.ref a :: st) M Q := wp_step rfl rfl rfl rfl rfl
theorem u94_93 : wp scr n mb_94 93 [l0, some (.int x), l2, l3] st M Q ↔ wp scr n mb_94 94 [l0, some (.int x), l2, l3] (.int x :: st) M Q := wp_step rfl rfl rfl rfl rfl
theorem u94_94 : wp scr n mb_94 94 L (a2 :: .ref a :: st) M Q ↔ ((mw_r M a 1 ∧ mw_st st) ∧ Wp scr n 31 [.ref a, a2] M (fun r1 M1 => wp scr n mb_94 97 L (r1.toList ++ st) M1 Q)) := wp_vir rfl rfl rfl rfl rfl
theorem u94_97 : wp scr n mb_94 97 L (a1 :: st) M Q ↔ (mw_st st ∧ Wp scr n 95 [a1] M (fun r1 M1 => wp scr n mb_94 100 L (r1.toList ++ st) M1 Q)) := wp_sta rfl rfl rfl rfl
theorem u94_100 : wp scr n mb_94 100 L [.int x] M Q ↔ Q (some (.int x)) M := wp_ret rfl rfl
theorem u94_101 : wp scr n mb_94 101 [l0, l1, l2, some (.ref a)] st M Q ↔ wp scr n mb_94 102 [l0, l1, l2, some (.ref a)] (.ref a :: st) M Q := wp_step rfl rfl rfl rfl rfl
theorem u94_102 : wp scr n mb_94 102 [l0, some (.int x), l2, l3] st M Q ↔ wp scr n mb_94 103 [l0, some (.int x), l2, l3] (.int x :: st) M Q := wp_step rfl rfl rfl rfl rfl
theorem u94_103 : wp scr n mb_94 103 L (a2 :: .ref a :: st) M Q ↔ ((mw_r M a 1 ∧ mw_st st) ∧ Wp scr n 32 [.ref a, a2] M (fun r1 M1 => wp scr n mb_94 106 L (r1.toList ++ st) M1 Q)) := wp_vir rfl rfl rfl rfl rfl
theorem u94_106 : wp scr n mb_94 106 L [.int x] M Q ↔ Q (some (.int x)) M := wp_ret rfl rfl
theorem u94_107 : wp scr n mb_94 107 [some (.ref a), l1, l2, l3] st M Q ↔ wp scr n mb_94 108 [some (.ref a), l1, l2, l3] (.ref a :: st) M Q := wp_step rfl rfl rfl rfl rfl
theorem u94_108 : wp scr n mb_94 108 L st M Q ↔ wp scr n mb_94 110 L (.int (-2) :: st) M Q := wp_step rfl rfl rfl rfl rfl
theorem u94_110 : wp scr n mb_94 110 L (a2 :: .ref a :: st) M Q ↔ ((mw_r M a 5 ∧ mw_st st) ∧ Wp scr n 84 [.ref a, a2] M (fun r1 M1 => wp scr n mb_94 113 L (r1.toList ++ st) M1 Q)) := wp_vir rfl rfl rfl rfl rfl
theorem u94_113 : wp scr n mb_94 113 L [.int x] M Q ↔ Q (some (.int x)) M := wp_ret rfl rfl
theorem e94 : Wp scr (n + 1) 94 [.ref a0, .int x1, .int x2] M Q ↔ wp scr n mb_94 0 [some (.ref a0), some (.int x1), some (.int x2), none] [] M Q := Wp_to rfl rfl rfl
/-- SmallerInTheShop asNumber (Z)I -/
def mb_95 : mw_B := ((Option.some FieldType.int), mp_95)
theorem u95_0 : wp scr n mb_95 0 [some (.int x)] st M Q ↔ wp scr n mb_95 1 [some (.int x)] (.int x :: st) M Q := wp_step rfl rfl rfl rfl rfl
theorem u95_1 : wp scr n mb_95 1 L (.int x :: st) M Q ↔ (if x = 0 then wp scr n mb_95 8 L st M Q else wp scr n mb_95 4 L st M Q) := (wp_step rfl rfl rfl rfl rfl).trans wp_ite
theorem u95_4 : wp scr n mb_95 4 L st M Q ↔ wp scr n mb_95 5 L (.int 1 :: st) M Q := wp_step rfl rfl rfl rfl rfl
theorem u95_5 : wp scr n mb_95 5 L st M Q ↔ wp scr n mb_95 9 L st M Q := wp_step rfl rfl rfl rfl rfl
theorem u95_8 : wp scr n mb_95 8 L st M Q ↔ wp scr n mb_95 9 L (.int 0 :: st) M Q := wp_step rfl rfl rfl rfl rfl
theorem u95_9 : wp scr n mb_95 9 L [.int x] M Q ↔ Q (some (.int x)) M := wp_ret rfl rfl
theorem e95 : Wp scr (n + 1) 95 [.int x1] M Q ↔ wp scr n mb_95 0 [some (.int x1)] [] M Q := Wp_to rfl rfl rfl
/-- SmallerInTheShop fold (II)I -/
def mb_96 : mw_B := ((Option.some FieldType.int), mp_96)
theorem u96_0 : wp scr n mb_96 0 [some (.ref a), l1, l2, l3] st M Q ↔ wp scr n mb_96 1 [some (.ref a), l1, l2, l3] (.ref a :: st) M Q := wp_step rfl rfl rfl rfl rfl
theorem u96_1 : wp scr n mb_96 1 [l0, some (.int x), l2, l3] st M Q ↔ wp scr n mb_96 2 [l0, some (.int x), l2, l3] (.int x :: st) M Q := wp_step rfl rfl rfl rfl rfl
theorem u96_2 : wp scr n mb_96 2 [l0, l1, some (.int x), l3] st M Q ↔ wp scr n mb_96 3 [l0, l1, some (.int x), l3] (.int x :: st) M Q := wp_step rfl rfl rfl rfl rfl
theorem u96_3 : wp scr n mb_96 3 L (a3 :: a2 :: .ref a :: st) M Q ↔ ((mw_r M a 5 ∧ mw_st st) ∧ Wp scr n 97 [.ref a, a2, a3] M (fun r1 M1 => wp scr n mb_96 6 L (r1.toList ++ st) M1 Q)) := wp_vir rfl rfl rfl rfl rfl
theorem u96_6 : wp scr n mb_96 6 [l0, l1, l2, l3] (.int x :: st) M Q ↔ wp scr n mb_96 7 (mm_sto1 [l0, l1, l2, l3] 3 (.int x)) st M Q := wp_step rfl rfl rfl rfl rfl
theorem u96_7 : wp scr n mb_96 7 [l0, l1, l2, some (.int x)] st M Q ↔ wp scr n mb_96 8 [l0, l1, l2, some (.int x)] (.int x :: st) M Q := wp_step rfl rfl rfl rfl rfl
theorem u96_8 : wp scr n mb_96 8 L (.int x :: st) M Q ↔ (if 0 ≤ x then wp scr n mb_96 19 L st M Q else wp scr n mb_96 11 L st M Q) := (wp_step rfl rfl rfl rfl rfl).trans wp_ite
theorem u96_11 : wp scr n mb_96 11 [some (.ref a), l1, l2, l3] st M Q ↔ wp scr n mb_96 12 [some (.ref a), l1, l2, l3] (.ref a :: st) M Q := wp_step rfl rfl rfl rfl rfl
theorem u96_12 : wp scr n mb_96 12 [l0, l1, l2, some (.int x)] st M Q ↔ wp scr n mb_96 13 [l0, l1, l2, some (.int x)] (.int x :: st) M Q := wp_step rfl rfl rfl rfl rfl
theorem u96_13 : wp scr n mb_96 13 L (a2 :: .ref a :: st) M Q ↔ ((mw_r M a 5 ∧ mw_st st) ∧ Wp scr n 84 [.ref a, a2] M (fun r1 M1 => wp scr n mb_96 16 L (r1.toList ++ st) M1 Q)) := wp_vir rfl rfl rfl rfl rfl
theorem u96_16 : wp scr n mb_96 16 L st M Q ↔ wp scr n mb_96 28 L st M Q := wp_step rfl rfl rfl rfl rfl
theorem u96_19 : wp scr n mb_96 19 [some (.ref a), l1, l2, l3] st M Q ↔ wp scr n mb_96 20 [some (.ref a), l1, l2, l3] (.ref a :: st) M Q := wp_step rfl rfl rfl rfl rfl
theorem u96_20 : wp scr n mb_96 20 L (o :: st) M Q ↔ mw_o (mm_fld (mc_X scr) M o 5 0) (fun v => wp scr n mb_96 23 L (v :: st) M Q) := wp_getf rfl
theorem u96_23 : wp scr n mb_96 23 [l0, some (.int x), l2, l3] st M Q ↔ wp scr n mb_96 24 [l0, some (.int x), l2, l3] (.int x :: st) M Q := wp_step rfl rfl rfl rfl rfl
theorem u96_24 : wp scr n mb_96 24 [l0, l1, some (.int x), l3] st M Q ↔ wp scr n mb_96 25 [l0, l1, some (.int x), l3] (.int x :: st) M Q := wp_step rfl rfl rfl rfl rfl
theorem u96_25 : wp scr n mb_96 25 L (a3 :: a2 :: .ref a :: st) M Q ↔ ((mw_r M a 4 ∧ mw_st st) ∧ Wp scr n 70 [.ref a, a2, a3] M (fun r1 M1 => wp scr n mb_96 28 L (r1.toList ++ st) M1 Q)) := wp_vir rfl rfl rfl rfl rfl
theorem u96_28 : wp scr n mb_96 28 L [.int x] M Q ↔ Q (some (.int x)) M := wp_ret rfl rfl
theorem e96 : Wp scr (n + 1) 96 [.ref a0, .int x1, .int x2] M Q ↔ wp scr n mb_96 0 [some (.ref a0), some (.int x1), some (.int x2), none] [] M Q := Wp_to rfl rfl rfl
/-- SmallerInTheShop refusalOfFold (II)I -/
def mb_97 : mw_B := ((Option.some FieldType.int), mp_97)
theorem u97_0 : wp scr n mb_97 0 [some (.ref a), l1, l2] st M Q ↔ wp scr n mb_97 1 [some (.ref a), l1, l2] (.ref a :: st) M Q := wp_step rfl rfl rfl rfl rfl
theorem u97_1 : wp scr n mb_97 1 L (o :: st) M Q ↔ mw_o (mm_fld (mc_X scr) M o 5 0) (fun v => wp scr n mb_97 4 L (v :: st) M Q) := wp_getf rfl
theorem u97_4 : wp scr n mb_97 4 [some (.ref a), l1, l2] st M Q ↔ wp scr n mb_97 5 [some (.ref a), l1, l2] (.ref a :: st) M Q := wp_step rfl rfl rfl rfl rfl
theorem u97_5 : wp scr n mb_97 5 L (o :: st) M Q ↔ mw_o (mm_fld (mc_X scr) M o 5 0) (fun v => wp scr n mb_97 8 L (v :: st) M Q) := wp_getf rfl
theorem u97_8 : wp scr n mb_97 8 L (o :: st) M Q ↔ mw_o (mm_fld (mc_X scr) M o 4 4) (fun v => wp scr n mb_97 11 L (v :: st) M Q) := wp_getf rfl
theorem u97_11 : wp scr n mb_97 11 [l0, some (.int x), l2] st M Q ↔ wp scr n mb_97 12 [l0, some (.int x), l2] (.int x :: st) M Q := wp_step rfl rfl rfl rfl rfl
theorem u97_12 : wp scr n mb_97 12 L (a3 :: a2 :: .ref a :: st) M Q ↔ ((mw_r M a 4 ∧ mw_st st) ∧ Wp scr n 69 [.ref a, a2, a3] M (fun r1 M1 => wp scr n mb_97 15 L (r1.toList ++ st) M1 Q)) := wp_vir rfl rfl rfl rfl rfl
theorem u97_15 : wp scr n mb_97 15 L (.int x :: st) M Q ↔ (if x = 0 then wp scr n mb_97 18 L st M Q else wp scr n mb_97 20 L st M Q) := (wp_step rfl rfl rfl rfl rfl).trans wp_iten
theorem u97_18 : wp scr n mb_97 18 L st M Q ↔ wp scr n mb_97 19 L (.int (-1) :: st) M Q := wp_step rfl rfl rfl rfl rfl
theorem u97_19 : wp scr n mb_97 19 L [.int x] M Q ↔ Q (some (.int x)) M := wp_ret rfl rfl
theorem u97_20 : wp scr n mb_97 20 [l0, l1, some (.int x)] st M Q ↔ wp scr n mb_97 21 [l0, l1, some (.int x)] (.int x :: st) M Q := wp_step rfl rfl rfl rfl rfl
theorem u97_21 : wp scr n mb_97 21 L st M Q ↔ wp scr n mb_97 22 L (.int 4 :: st) M Q := wp_step rfl rfl rfl rfl rfl
theorem u97_22 : wp scr n mb_97 22 L (a2 :: a1 :: st) M Q ↔ (mw_st st ∧ Wp scr n 89 [a1, a2] M (fun r1 M1 => wp scr n mb_97 25 L (r1.toList ++ st) M1 Q)) := wp_sta rfl rfl rfl rfl
theorem u97_25 : wp scr n mb_97 25 L (.int x :: st) M Q ↔ (if x = 0 then wp scr n mb_97 32 L st M Q else wp scr n mb_97 28 L st M Q) := (wp_step rfl rfl rfl rfl rfl).trans wp_ite
theorem u97_28 : wp scr n mb_97 28 L st M Q ↔ wp scr n mb_97 29 L (.int 0 :: st) M Q := wp_step rfl rfl rfl rfl rfl
theorem u97_29 : wp scr n mb_97 29 L st M Q ↔ wp scr n mb_97 34 L st M Q := wp_step rfl rfl rfl rfl rfl
theorem u97_32 : wp scr n mb_97 32 L st M Q ↔ wp scr n mb_97 34 L (.int (-2) :: st) M Q := wp_step rfl rfl rfl rfl rfl
theorem u97_34 : wp scr n mb_97 34 L [.int x] M Q ↔ Q (some (.int x)) M := wp_ret rfl rfl
theorem e97 : Wp scr (n + 1) 97 [.ref a0, .int x1, .int x2] M Q ↔ wp scr n mb_97 0 [some (.ref a0), some (.int x1), some (.int x2)] [] M Q := Wp_to rfl rfl rfl
/-- SmallerInTheShop opens ()I -/
def mb_98 : mw_B := ((Option.some FieldType.int), mp_98)
theorem u98_0 : wp scr n mb_98 0 [some (.ref a)] st M Q ↔ wp scr n mb_98 1 [some (.ref a)] (.ref a :: st) M Q := wp_step rfl rfl rfl rfl rfl
theorem u98_1 : wp scr n mb_98 1 L (o :: st) M Q ↔ mw_o (mm_fld (mc_X scr) M o 5 0) (fun v => wp scr n mb_98 4 L (v :: st) M Q) := wp_getf rfl
theorem u98_4 : wp scr n mb_98 4 L (.ref a :: st) M Q ↔ ((mw_r M a 4 ∧ mw_st st) ∧ Wp scr n 76 [.ref a] M (fun r1 M1 => wp scr n mb_98 7 L (r1.toList ++ st) M1 Q)) := wp_vir rfl rfl rfl rfl rfl
theorem u98_7 : wp scr n mb_98 7 L (.int x :: st) M Q ↔ (if x = 0 then wp scr n mb_98 20 L st M Q else wp scr n mb_98 10 L st M Q) := (wp_step rfl rfl rfl rfl rfl).trans wp_ite
theorem u98_10 : wp scr n mb_98 10 [some (.ref a)] st M Q ↔ wp scr n mb_98 11 [some (.ref a)] (.ref a :: st) M Q := wp_step rfl rfl rfl rfl rfl
theorem u98_11 : wp scr n mb_98 11 L (o :: st) M Q ↔ mw_o (mm_fld (mc_X scr) M o 5 0) (fun v => wp scr n mb_98 14 L (v :: st) M Q) := wp_getf rfl
theorem u98_14 : wp scr n mb_98 14 L (o :: st) M Q ↔ mw_o (mm_fld (mc_X scr) M o 4 4) (fun v => wp scr n mb_98 17 L (v :: st) M Q) := wp_getf rfl
theorem u98_17 : wp scr n mb_98 17 L st M Q ↔ wp scr n mb_98 26 L st M Q := wp_step rfl rfl rfl rfl rfl
theorem u98_20 : wp scr n mb_98 20 [some (.ref a)] st M Q ↔ wp scr n mb_98 21 [some (.ref a)] (.ref a :: st) M Q := wp_step rfl rfl rfl rfl rfl
theorem u98_21 : wp scr n mb_98 21 L st M Q ↔ wp scr n mb_98 23 L (.int (-3) :: st) M Q := wp_step rfl rfl rfl rfl rfl
theorem u98_23 : wp scr n mb_98 23 L (a2 :: .ref a :: st) M Q ↔ ((mw_r M a 5 ∧ mw_st st) ∧ Wp scr n 84 [.ref a, a2] M (fun r1 M1 => wp scr n mb_98 26 L (r1.toList ++ st) M1 Q)) := wp_vir rfl rfl rfl rfl rfl
theorem u98_26 : wp scr n mb_98 26 L [.int x] M Q ↔ Q (some (.int x)) M := wp_ret rfl rfl
theorem e98 : Wp scr (n + 1) 98 [.ref a0] M Q ↔ wp scr n mb_98 0 [some (.ref a0)] [] M Q := Wp_to rfl rfl rfl
/-- SmallerInTheShop wears (II)I -/
def mb_99 : mw_B := ((Option.some FieldType.int), mp_99)
theorem u99_0 : wp scr n mb_99 0 [l0, some (.int x), l2, l3] st M Q ↔ wp scr n mb_99 1 [l0, some (.int x), l2, l3] (.int x :: st) M Q := wp_step rfl rfl rfl rfl rfl
theorem u99_1 : wp scr n mb_99 1 L st M Q ↔ wp scr n mb_99 3 L (.int 10 :: st) M Q := wp_step rfl rfl rfl rfl rfl
theorem u99_3 : wp scr n mb_99 3 L (a2 :: a1 :: st) M Q ↔ (mw_st st ∧ Wp scr n 89 [a1, a2] M (fun r1 M1 => wp scr n mb_99 6 L (r1.toList ++ st) M1 Q)) := wp_sta rfl rfl rfl rfl
theorem u99_6 : wp scr n mb_99 6 L (.int x :: st) M Q ↔ (if x = 0 then wp scr n mb_99 9 L st M Q else wp scr n mb_99 15 L st M Q) := (wp_step rfl rfl rfl rfl rfl).trans wp_iten
theorem u99_9 : wp scr n mb_99 9 [some (.ref a), l1, l2, l3] st M Q ↔ wp scr n mb_99 10 [some (.ref a), l1, l2, l3] (.ref a :: st) M Q := wp_step rfl rfl rfl rfl rfl
theorem u99_10 : wp scr n mb_99 10 L st M Q ↔ wp scr n mb_99 11 L (.int (-1) :: st) M Q := wp_step rfl rfl rfl rfl rfl
theorem u99_11 : wp scr n mb_99 11 L (a2 :: .ref a :: st) M Q ↔ ((mw_r M a 5 ∧ mw_st st) ∧ Wp scr n 84 [.ref a, a2] M (fun r1 M1 => wp scr n mb_99 14 L (r1.toList ++ st) M1 Q)) := wp_vir rfl rfl rfl rfl rfl
theorem u99_14 : wp scr n mb_99 14 L [.int x] M Q ↔ Q (some (.int x)) M := wp_ret rfl rfl
theorem u99_15 : wp scr n mb_99 15 [l0, l1, some (.int x), l3] st M Q ↔ wp scr n mb_99 16 [l0, l1, some (.int x), l3] (.int x :: st) M Q := wp_step rfl rfl rfl rfl rfl
theorem u99_16 : wp scr n mb_99 16 L (.int x :: st) M Q ↔ (if 0 ≤ x then wp scr n mb_99 26 L st M Q else wp scr n mb_99 19 L st M Q) := (wp_step rfl rfl rfl rfl rfl).trans wp_ite
theorem u99_19 : wp scr n mb_99 19 [some (.ref a), l1, l2, l3] st M Q ↔ wp scr n mb_99 20 [some (.ref a), l1, l2, l3] (.ref a :: st) M Q := wp_step rfl rfl rfl rfl rfl
theorem u99_20 : wp scr n mb_99 20 L st M Q ↔ wp scr n mb_99 22 L (.int (-4) :: st) M Q := wp_step rfl rfl rfl rfl rfl
theorem u99_22 : wp scr n mb_99 22 L (a2 :: .ref a :: st) M Q ↔ ((mw_r M a 5 ∧ mw_st st) ∧ Wp scr n 84 [.ref a, a2] M (fun r1 M1 => wp scr n mb_99 25 L (r1.toList ++ st) M1 Q)) := wp_vir rfl rfl rfl rfl rfl
theorem u99_25 : wp scr n mb_99 25 L [.int x] M Q ↔ Q (some (.int x)) M := wp_ret rfl rfl
theorem u99_26 : wp scr n mb_99 26 [l0, l1, some (.int x), l3] st M Q ↔ wp scr n mb_99 27 [l0, l1, some (.int x), l3] (.int x :: st) M Q := wp_step rfl rfl rfl rfl rfl
theorem u99_27 : wp scr n mb_99 27 L st M Q ↔ wp scr n mb_99 29 L (.int 99 :: st) M Q := wp_step rfl rfl rfl rfl rfl
theorem u99_29 : wp scr n mb_99 29 L (.int y :: .int x :: st) M Q ↔ (if x ≤ y then wp scr n mb_99 39 L st M Q else wp scr n mb_99 32 L st M Q) := (wp_step rfl rfl rfl rfl rfl).trans wp_ite
theorem u99_32 : wp scr n mb_99 32 [some (.ref a), l1, l2, l3] st M Q ↔ wp scr n mb_99 33 [some (.ref a), l1, l2, l3] (.ref a :: st) M Q := wp_step rfl rfl rfl rfl rfl
theorem u99_33 : wp scr n mb_99 33 L st M Q ↔ wp scr n mb_99 35 L (.int (-6) :: st) M Q := wp_step rfl rfl rfl rfl rfl
theorem u99_35 : wp scr n mb_99 35 L (a2 :: .ref a :: st) M Q ↔ ((mw_r M a 5 ∧ mw_st st) ∧ Wp scr n 84 [.ref a, a2] M (fun r1 M1 => wp scr n mb_99 38 L (r1.toList ++ st) M1 Q)) := wp_vir rfl rfl rfl rfl rfl
theorem u99_38 : wp scr n mb_99 38 L [.int x] M Q ↔ Q (some (.int x)) M := wp_ret rfl rfl
theorem u99_39 : wp scr n mb_99 39 [some (.ref a), l1, l2, l3] st M Q ↔ wp scr n mb_99 40 [some (.ref a), l1, l2, l3] (.ref a :: st) M Q := wp_step rfl rfl rfl rfl rfl
theorem u99_40 : wp scr n mb_99 40 L (o :: st) M Q ↔ mw_o (mm_fld (mc_X scr) M o 5 0) (fun v => wp scr n mb_99 43 L (v :: st) M Q) := wp_getf rfl
theorem u99_43 : wp scr n mb_99 43 L (o :: st) M Q ↔ mw_o (mm_fld (mc_X scr) M o 4 3) (fun v => wp scr n mb_99 46 L (v :: st) M Q) := wp_getf rfl
theorem u99_46 : wp scr n mb_99 46 [l0, some (.int x), l2, l3] st M Q ↔ wp scr n mb_99 47 [l0, some (.int x), l2, l3] (.int x :: st) M Q := wp_step rfl rfl rfl rfl rfl
theorem u99_47 : wp scr n mb_99 47 L (.int y :: o :: st) M Q ↔ mw_o (mm_ld (mc_X scr) M o y) (fun x => wp scr n mb_99 48 L (.int x :: st) M Q) := wp_iald rfl
theorem u99_48 : wp scr n mb_99 48 [l0, l1, l2, l3] (.int x :: st) M Q ↔ wp scr n mb_99 49 (mm_sto1 [l0, l1, l2, l3] 3 (.int x)) st M Q := wp_step rfl rfl rfl rfl rfl
theorem u99_49 : wp scr n mb_99 49 [some (.ref a), l1, l2, l3] st M Q ↔ wp scr n mb_99 50 [some (.ref a), l1, l2, l3] (.ref a :: st) M Q := wp_step rfl rfl rfl rfl rfl
theorem u99_50 : wp scr n mb_99 50 L (o :: st) M Q ↔ mw_o (mm_fld (mc_X scr) M o 5 0) (fun v => wp scr n mb_99 53 L (v :: st) M Q) := wp_getf rfl
theorem u99_53 : wp scr n mb_99 53 L (o :: st) M Q ↔ mw_o (mm_fld (mc_X scr) M o 4 3) (fun v => wp scr n mb_99 56 L (v :: st) M Q) := wp_getf rfl
theorem u99_56 : wp scr n mb_99 56 [l0, some (.int x), l2, l3] st M Q ↔ wp scr n mb_99 57 [l0, some (.int x), l2, l3] (.int x :: st) M Q := wp_step rfl rfl rfl rfl rfl
theorem u99_57 : wp scr n mb_99 57 [l0, l1, some (.int x), l3] st M Q ↔ wp scr n mb_99 58 [l0, l1, some (.int x), l3] (.int x :: st) M Q := wp_step rfl rfl rfl rfl rfl
theorem u99_58 : wp scr n mb_99 58 L (.int x :: .int y :: o :: st) M Q ↔ mw_o (mm_sti M o y x) (fun M1 => wp scr n mb_99 59 L st M1 Q) := wp_iast rfl
theorem u99_59 : wp scr n mb_99 59 [l0, l1, l2, some (.int x)] st M Q ↔ wp scr n mb_99 60 [l0, l1, l2, some (.int x)] (.int x :: st) M Q := wp_step rfl rfl rfl rfl rfl
theorem u99_60 : wp scr n mb_99 60 L [.int x] M Q ↔ Q (some (.int x)) M := wp_ret rfl rfl
theorem e99 : Wp scr (n + 1) 99 [.ref a0, .int x1, .int x2] M Q ↔ wp scr n mb_99 0 [some (.ref a0), some (.int x1), some (.int x2), none] [] M Q := Wp_to rfl rfl rfl
/-- SmallerInTheShop turn (III)I -/
def mb_100 : mw_B := ((Option.some FieldType.int), mp_100)
theorem u100_0 : wp scr n mb_100 0 [l0, some (.int x), l2, l3, l4] st M Q ↔ wp scr n mb_100 1 [l0, some (.int x), l2, l3, l4] (.int x :: st) M Q := wp_step rfl rfl rfl rfl rfl
theorem u100_1 : wp scr n mb_100 1 L st M Q ↔ wp scr n mb_100 3 L (.int 10 :: st) M Q := wp_step rfl rfl rfl rfl rfl
theorem u100_3 : wp scr n mb_100 3 L (a2 :: a1 :: st) M Q ↔ (mw_st st ∧ Wp scr n 89 [a1, a2] M (fun r1 M1 => wp scr n mb_100 6 L (r1.toList ++ st) M1 Q)) := wp_sta rfl rfl rfl rfl
theorem u100_6 : wp scr n mb_100 6 L (.int x :: st) M Q ↔ (if x = 0 then wp scr n mb_100 9 L st M Q else wp scr n mb_100 15 L st M Q) := (wp_step rfl rfl rfl rfl rfl).trans wp_iten
theorem u100_9 : wp scr n mb_100 9 [some (.ref a), l1, l2, l3, l4] st M Q ↔ wp scr n mb_100 10 [some (.ref a), l1, l2, l3, l4] (.ref a :: st) M Q := wp_step rfl rfl rfl rfl rfl
theorem u100_10 : wp scr n mb_100 10 L st M Q ↔ wp scr n mb_100 11 L (.int (-1) :: st) M Q := wp_step rfl rfl rfl rfl rfl
theorem u100_11 : wp scr n mb_100 11 L (a2 :: .ref a :: st) M Q ↔ ((mw_r M a 5 ∧ mw_st st) ∧ Wp scr n 84 [.ref a, a2] M (fun r1 M1 => wp scr n mb_100 14 L (r1.toList ++ st) M1 Q)) := wp_vir rfl rfl rfl rfl rfl
theorem u100_14 : wp scr n mb_100 14 L [.int x] M Q ↔ Q (some (.int x)) M := wp_ret rfl rfl
theorem u100_15 : wp scr n mb_100 15 [l0, l1, some (.int x), l3, l4] st M Q ↔ wp scr n mb_100 16 [l0, l1, some (.int x), l3, l4] (.int x :: st) M Q := wp_step rfl rfl rfl rfl rfl
theorem u100_16 : wp scr n mb_100 16 L st M Q ↔ wp scr n mb_100 18 L (.int 6 :: st) M Q := wp_step rfl rfl rfl rfl rfl
theorem u100_18 : wp scr n mb_100 18 L (a2 :: a1 :: st) M Q ↔ (mw_st st ∧ Wp scr n 89 [a1, a2] M (fun r1 M1 => wp scr n mb_100 21 L (r1.toList ++ st) M1 Q)) := wp_sta rfl rfl rfl rfl
theorem u100_21 : wp scr n mb_100 21 L (.int x :: st) M Q ↔ (if x = 0 then wp scr n mb_100 24 L st M Q else wp scr n mb_100 31 L st M Q) := (wp_step rfl rfl rfl rfl rfl).trans wp_iten
theorem u100_24 : wp scr n mb_100 24 [some (.ref a), l1, l2, l3, l4] st M Q ↔ wp scr n mb_100 25 [some (.ref a), l1, l2, l3, l4] (.ref a :: st) M Q := wp_step rfl rfl rfl rfl rfl
theorem u100_25 : wp scr n mb_100 25 L st M Q ↔ wp scr n mb_100 27 L (.int (-2) :: st) M Q := wp_step rfl rfl rfl rfl rfl
theorem u100_27 : wp scr n mb_100 27 L (a2 :: .ref a :: st) M Q ↔ ((mw_r M a 5 ∧ mw_st st) ∧ Wp scr n 84 [.ref a, a2] M (fun r1 M1 => wp scr n mb_100 30 L (r1.toList ++ st) M1 Q)) := wp_vir rfl rfl rfl rfl rfl
theorem u100_30 : wp scr n mb_100 30 L [.int x] M Q ↔ Q (some (.int x)) M := wp_ret rfl rfl
theorem u100_31 : wp scr n mb_100 31 [l0, l1, l2, some (.int x), l4] st M Q ↔ wp scr n mb_100 32 [l0, l1, l2, some (.int x), l4] (.int x :: st) M Q := wp_step rfl rfl rfl rfl rfl
theorem u100_32 : wp scr n mb_100 32 L (.int x :: st) M Q ↔ (if 0 ≤ x then wp scr n mb_100 42 L st M Q else wp scr n mb_100 35 L st M Q) := (wp_step rfl rfl rfl rfl rfl).trans wp_ite
theorem u100_35 : wp scr n mb_100 35 [some (.ref a), l1, l2, l3, l4] st M Q ↔ wp scr n mb_100 36 [some (.ref a), l1, l2, l3, l4] (.ref a :: st) M Q := wp_step rfl rfl rfl rfl rfl
theorem u100_36 : wp scr n mb_100 36 L st M Q ↔ wp scr n mb_100 38 L (.int (-4) :: st) M Q := wp_step rfl rfl rfl rfl rfl
theorem u100_38 : wp scr n mb_100 38 L (a2 :: .ref a :: st) M Q ↔ ((mw_r M a 5 ∧ mw_st st) ∧ Wp scr n 84 [.ref a, a2] M (fun r1 M1 => wp scr n mb_100 41 L (r1.toList ++ st) M1 Q)) := wp_vir rfl rfl rfl rfl rfl
theorem u100_41 : wp scr n mb_100 41 L [.int x] M Q ↔ Q (some (.int x)) M := wp_ret rfl rfl
theorem u100_42 : wp scr n mb_100 42 [l0, l1, l2, some (.int x), l4] st M Q ↔ wp scr n mb_100 43 [l0, l1, l2, some (.int x), l4] (.int x :: st) M Q := wp_step rfl rfl rfl rfl rfl
theorem u100_43 : wp scr n mb_100 43 L st M Q ↔ wp scr n mb_100 45 L (.int 9 :: st) M Q := wp_step rfl rfl rfl rfl rfl
theorem u100_45 : wp scr n mb_100 45 L (.int y :: .int x :: st) M Q ↔ (if x ≤ y then wp scr n mb_100 55 L st M Q else wp scr n mb_100 48 L st M Q) := (wp_step rfl rfl rfl rfl rfl).trans wp_ite
theorem u100_48 : wp scr n mb_100 48 [some (.ref a), l1, l2, l3, l4] st M Q ↔ wp scr n mb_100 49 [some (.ref a), l1, l2, l3, l4] (.ref a :: st) M Q := wp_step rfl rfl rfl rfl rfl
theorem u100_49 : wp scr n mb_100 49 L st M Q ↔ wp scr n mb_100 51 L (.int (-6) :: st) M Q := wp_step rfl rfl rfl rfl rfl
theorem u100_51 : wp scr n mb_100 51 L (a2 :: .ref a :: st) M Q ↔ ((mw_r M a 5 ∧ mw_st st) ∧ Wp scr n 84 [.ref a, a2] M (fun r1 M1 => wp scr n mb_100 54 L (r1.toList ++ st) M1 Q)) := wp_vir rfl rfl rfl rfl rfl
theorem u100_54 : wp scr n mb_100 54 L [.int x] M Q ↔ Q (some (.int x)) M := wp_ret rfl rfl
theorem u100_55 : wp scr n mb_100 55 L st M Q ↔ wp scr n mb_100 57 L (.int 10 :: st) M Q := wp_step rfl rfl rfl rfl rfl
theorem u100_57 : wp scr n mb_100 57 [some (.ref a), l1, l2, l3, l4] st M Q ↔ wp scr n mb_100 58 [some (.ref a), l1, l2, l3, l4] (.ref a :: st) M Q := wp_step rfl rfl rfl rfl rfl
theorem u100_58 : wp scr n mb_100 58 L (o :: st) M Q ↔ mw_o (mm_fld (mc_X scr) M o 5 0) (fun v => wp scr n mb_100 61 L (v :: st) M Q) := wp_getf rfl
theorem u100_61 : wp scr n mb_100 61 L (o :: st) M Q ↔ mw_o (mm_fld (mc_X scr) M o 4 1) (fun v => wp scr n mb_100 64 L (v :: st) M Q) := wp_getf rfl
theorem u100_64 : wp scr n mb_100 64 [l0, some (.int x), l2, l3, l4] st M Q ↔ wp scr n mb_100 65 [l0, some (.int x), l2, l3, l4] (.int x :: st) M Q := wp_step rfl rfl rfl rfl rfl
theorem u100_65 : wp scr n mb_100 65 L (.int y :: o :: st) M Q ↔ mw_o (mm_ld (mc_X scr) M o y) (fun x => wp scr n mb_100 66 L (.int x :: st) M Q) := wp_iald rfl
theorem u100_66 : wp scr n mb_100 66 L (.int y :: .int x :: st) M Q ↔ wp scr n mb_100 67 L (.int (x * y) :: st) M Q := wp_step rfl rfl rfl rfl rfl
theorem u100_67 : wp scr n mb_100 67 [some (.ref a), l1, l2, l3, l4] st M Q ↔ wp scr n mb_100 68 [some (.ref a), l1, l2, l3, l4] (.ref a :: st) M Q := wp_step rfl rfl rfl rfl rfl
theorem u100_68 : wp scr n mb_100 68 L (o :: st) M Q ↔ mw_o (mm_fld (mc_X scr) M o 5 0) (fun v => wp scr n mb_100 71 L (v :: st) M Q) := wp_getf rfl
theorem u100_71 : wp scr n mb_100 71 L (o :: st) M Q ↔ mw_o (mm_fld (mc_X scr) M o 4 2) (fun v => wp scr n mb_100 74 L (v :: st) M Q) := wp_getf rfl
theorem u100_74 : wp scr n mb_100 74 [l0, some (.int x), l2, l3, l4] st M Q ↔ wp scr n mb_100 75 [l0, some (.int x), l2, l3, l4] (.int x :: st) M Q := wp_step rfl rfl rfl rfl rfl
theorem u100_75 : wp scr n mb_100 75 L (.int y :: o :: st) M Q ↔ mw_o (mm_ld (mc_X scr) M o y) (fun x => wp scr n mb_100 76 L (.int x :: st) M Q) := wp_iald rfl
theorem u100_76 : wp scr n mb_100 76 L (.int y :: .int x :: st) M Q ↔ wp scr n mb_100 77 L (.int (x + y) :: st) M Q := wp_step rfl rfl rfl rfl rfl
theorem u100_77 : wp scr n mb_100 77 [l0, l1, l2, l3, l4] (.int x :: st) M Q ↔ wp scr n mb_100 79 (mm_sto1 [l0, l1, l2, l3, l4] 4 (.int x)) st M Q := wp_step rfl rfl rfl rfl rfl
theorem u100_79 : wp scr n mb_100 79 [some (.ref a), l1, l2, l3, l4] st M Q ↔ wp scr n mb_100 80 [some (.ref a), l1, l2, l3, l4] (.ref a :: st) M Q := wp_step rfl rfl rfl rfl rfl
theorem u100_80 : wp scr n mb_100 80 L (o :: st) M Q ↔ mw_o (mm_fld (mc_X scr) M o 5 0) (fun v => wp scr n mb_100 83 L (v :: st) M Q) := wp_getf rfl
theorem u100_83 : wp scr n mb_100 83 L (o :: st) M Q ↔ mw_o (mm_fld (mc_X scr) M o 4 1) (fun v => wp scr n mb_100 86 L (v :: st) M Q) := wp_getf rfl
theorem u100_86 : wp scr n mb_100 86 [l0, some (.int x), l2, l3, l4] st M Q ↔ wp scr n mb_100 87 [l0, some (.int x), l2, l3, l4] (.int x :: st) M Q := wp_step rfl rfl rfl rfl rfl
theorem u100_87 : wp scr n mb_100 87 [l0, l1, some (.int x), l3, l4] st M Q ↔ wp scr n mb_100 88 [l0, l1, some (.int x), l3, l4] (.int x :: st) M Q := wp_step rfl rfl rfl rfl rfl
theorem u100_88 : wp scr n mb_100 88 L (.int x :: .int y :: o :: st) M Q ↔ mw_o (mm_sti M o y x) (fun M1 => wp scr n mb_100 89 L st M1 Q) := wp_iast rfl
theorem u100_89 : wp scr n mb_100 89 [some (.ref a), l1, l2, l3, l4] st M Q ↔ wp scr n mb_100 90 [some (.ref a), l1, l2, l3, l4] (.ref a :: st) M Q := wp_step rfl rfl rfl rfl rfl
theorem u100_90 : wp scr n mb_100 90 L (o :: st) M Q ↔ mw_o (mm_fld (mc_X scr) M o 5 0) (fun v => wp scr n mb_100 93 L (v :: st) M Q) := wp_getf rfl
theorem u100_93 : wp scr n mb_100 93 L (o :: st) M Q ↔ mw_o (mm_fld (mc_X scr) M o 4 2) (fun v => wp scr n mb_100 96 L (v :: st) M Q) := wp_getf rfl
theorem u100_96 : wp scr n mb_100 96 [l0, some (.int x), l2, l3, l4] st M Q ↔ wp scr n mb_100 97 [l0, some (.int x), l2, l3, l4] (.int x :: st) M Q := wp_step rfl rfl rfl rfl rfl
theorem u100_97 : wp scr n mb_100 97 [l0, l1, l2, some (.int x), l4] st M Q ↔ wp scr n mb_100 98 [l0, l1, l2, some (.int x), l4] (.int x :: st) M Q := wp_step rfl rfl rfl rfl rfl
theorem u100_98 : wp scr n mb_100 98 L (.int x :: .int y :: o :: st) M Q ↔ mw_o (mm_sti M o y x) (fun M1 => wp scr n mb_100 99 L st M1 Q) := wp_iast rfl
theorem u100_99 : wp scr n mb_100 99 [l0, l1, l2, l3, some (.int x)] st M Q ↔ wp scr n mb_100 101 [l0, l1, l2, l3, some (.int x)] (.int x :: st) M Q := wp_step rfl rfl rfl rfl rfl
theorem u100_101 : wp scr n mb_100 101 L [.int x] M Q ↔ Q (some (.int x)) M := wp_ret rfl rfl
theorem e100 : Wp scr (n + 1) 100 [.ref a0, .int x1, .int x2, .int x3] M Q ↔ wp scr n mb_100 0 [some (.ref a0), some (.int x1), some (.int x2), some (.int x3), none] [] M Q := Wp_to rfl rfl rfl
/-- SmallerInTheShop cover (I)I -/
def mb_101 : mw_B := ((Option.some FieldType.int), mp_101)
theorem u101_0 : wp scr n mb_101 0 [l0, some (.int x), l2] st M Q ↔ wp scr n mb_101 1 [l0, some (.int x), l2] (.int x :: st) M Q := wp_step rfl rfl rfl rfl rfl
theorem u101_1 : wp scr n mb_101 1 L st M Q ↔ wp scr n mb_101 3 L (.int 8 :: st) M Q := wp_step rfl rfl rfl rfl rfl
theorem u101_3 : wp scr n mb_101 3 L (a2 :: a1 :: st) M Q ↔ (mw_st st ∧ Wp scr n 89 [a1, a2] M (fun r1 M1 => wp scr n mb_101 6 L (r1.toList ++ st) M1 Q)) := wp_sta rfl rfl rfl rfl
theorem u101_6 : wp scr n mb_101 6 L (.int x :: st) M Q ↔ (if x = 0 then wp scr n mb_101 9 L st M Q else wp scr n mb_101 15 L st M Q) := (wp_step rfl rfl rfl rfl rfl).trans wp_iten
theorem u101_9 : wp scr n mb_101 9 [some (.ref a), l1, l2] st M Q ↔ wp scr n mb_101 10 [some (.ref a), l1, l2] (.ref a :: st) M Q := wp_step rfl rfl rfl rfl rfl
theorem u101_10 : wp scr n mb_101 10 L st M Q ↔ wp scr n mb_101 11 L (.int (-1) :: st) M Q := wp_step rfl rfl rfl rfl rfl
theorem u101_11 : wp scr n mb_101 11 L (a2 :: .ref a :: st) M Q ↔ ((mw_r M a 5 ∧ mw_st st) ∧ Wp scr n 84 [.ref a, a2] M (fun r1 M1 => wp scr n mb_101 14 L (r1.toList ++ st) M1 Q)) := wp_vir rfl rfl rfl rfl rfl
theorem u101_14 : wp scr n mb_101 14 L [.int x] M Q ↔ Q (some (.int x)) M := wp_ret rfl rfl
theorem u101_15 : wp scr n mb_101 15 [some (.ref a), l1, l2] st M Q ↔ wp scr n mb_101 16 [some (.ref a), l1, l2] (.ref a :: st) M Q := wp_step rfl rfl rfl rfl rfl
theorem u101_16 : wp scr n mb_101 16 L (o :: st) M Q ↔ mw_o (mm_fld (mc_X scr) M o 5 0) (fun v => wp scr n mb_101 19 L (v :: st) M Q) := wp_getf rfl
theorem u101_19 : wp scr n mb_101 19 L (o :: st) M Q ↔ mw_o (mm_fld (mc_X scr) M o 4 5) (fun v => wp scr n mb_101 22 L (v :: st) M Q) := wp_getf rfl
theorem u101_22 : wp scr n mb_101 22 [l0, l1, l2] (.int x :: st) M Q ↔ wp scr n mb_101 23 (mm_sto1 [l0, l1, l2] 2 (.int x)) st M Q := wp_step rfl rfl rfl rfl rfl
theorem u101_23 : wp scr n mb_101 23 [some (.ref a), l1, l2] st M Q ↔ wp scr n mb_101 24 [some (.ref a), l1, l2] (.ref a :: st) M Q := wp_step rfl rfl rfl rfl rfl
theorem u101_24 : wp scr n mb_101 24 L (o :: st) M Q ↔ mw_o (mm_fld (mc_X scr) M o 5 0) (fun v => wp scr n mb_101 27 L (v :: st) M Q) := wp_getf rfl
theorem u101_27 : wp scr n mb_101 27 [l0, some (.int x), l2] st M Q ↔ wp scr n mb_101 28 [l0, some (.int x), l2] (.int x :: st) M Q := wp_step rfl rfl rfl rfl rfl
theorem u101_28 : wp scr n mb_101 28 L (v :: o :: st) M Q ↔ mw_o (mm_put mc_fty M o v 4 5) (fun M1 => wp scr n mb_101 31 L st M1 Q) := wp_putf rfl
theorem u101_31 : wp scr n mb_101 31 [l0, l1, some (.int x)] st M Q ↔ wp scr n mb_101 32 [l0, l1, some (.int x)] (.int x :: st) M Q := wp_step rfl rfl rfl rfl rfl
theorem u101_32 : wp scr n mb_101 32 L [.int x] M Q ↔ Q (some (.int x)) M := wp_ret rfl rfl
theorem e101 : Wp scr (n + 1) 101 [.ref a0, .int x1] M Q ↔ wp scr n mb_101 0 [some (.ref a0), some (.int x1), none] [] M Q := Wp_to rfl rfl rfl
/-- SmallerInTheShop hurts (III)I -/
def mb_102 : mw_B := ((Option.some FieldType.int), mp_102)
theorem u102_0 : wp scr n mb_102 0 [some (.ref a), l1, l2, l3, l4, l5, l6] st M Q ↔ wp scr n mb_102 1 [some (.ref a), l1, l2, l3, l4, l5, l6] (.ref a :: st) M Q := wp_step rfl rfl rfl rfl rfl
theorem u102_1 : wp scr n mb_102 1 [l0, some (.int x), l2, l3, l4, l5, l6] st M Q ↔ wp scr n mb_102 2 [l0, some (.int x), l2, l3, l4, l5, l6] (.int x :: st) M Q := wp_step rfl rfl rfl rfl rfl
theorem u102_2 : wp scr n mb_102 2 [l0, l1, some (.int x), l3, l4, l5, l6] st M Q ↔ wp scr n mb_102 3 [l0, l1, some (.int x), l3, l4, l5, l6] (.int x :: st) M Q := wp_step rfl rfl rfl rfl rfl
theorem u102_3 : wp scr n mb_102 3 L (a3 :: a2 :: .ref a :: st) M Q ↔ ((mw_r M a 5 ∧ mw_st st) ∧ Wp scr n 97 [.ref a, a2, a3] M (fun r1 M1 => wp scr n mb_102 6 L (r1.toList ++ st) M1 Q)) := wp_vir rfl rfl rfl rfl rfl
theorem u102_6 : wp scr n mb_102 6 [l0, l1, l2, l3, l4, l5, l6] (.int x :: st) M Q ↔ wp scr n mb_102 8 (mm_sto1 [l0, l1, l2, l3, l4, l5, l6] 4 (.int x)) st M Q := wp_step rfl rfl rfl rfl rfl
theorem u102_8 : wp scr n mb_102 8 [l0, l1, l2, l3, some (.int x), l5, l6] st M Q ↔ wp scr n mb_102 10 [l0, l1, l2, l3, some (.int x), l5, l6] (.int x :: st) M Q := wp_step rfl rfl rfl rfl rfl
theorem u102_10 : wp scr n mb_102 10 L (.int x :: st) M Q ↔ (if 0 ≤ x then wp scr n mb_102 20 L st M Q else wp scr n mb_102 13 L st M Q) := (wp_step rfl rfl rfl rfl rfl).trans wp_ite
theorem u102_13 : wp scr n mb_102 13 [some (.ref a), l1, l2, l3, l4, l5, l6] st M Q ↔ wp scr n mb_102 14 [some (.ref a), l1, l2, l3, l4, l5, l6] (.ref a :: st) M Q := wp_step rfl rfl rfl rfl rfl
theorem u102_14 : wp scr n mb_102 14 [l0, l1, l2, l3, some (.int x), l5, l6] st M Q ↔ wp scr n mb_102 16 [l0, l1, l2, l3, some (.int x), l5, l6] (.int x :: st) M Q := wp_step rfl rfl rfl rfl rfl
theorem u102_16 : wp scr n mb_102 16 L (a2 :: .ref a :: st) M Q ↔ ((mw_r M a 5 ∧ mw_st st) ∧ Wp scr n 84 [.ref a, a2] M (fun r1 M1 => wp scr n mb_102 19 L (r1.toList ++ st) M1 Q)) := wp_vir rfl rfl rfl rfl rfl
theorem u102_19 : wp scr n mb_102 19 L [.int x] M Q ↔ Q (some (.int x)) M := wp_ret rfl rfl
theorem u102_20 : wp scr n mb_102 20 [l0, l1, l2, some (.int x), l4, l5, l6] st M Q ↔ wp scr n mb_102 21 [l0, l1, l2, some (.int x), l4, l5, l6] (.int x :: st) M Q := wp_step rfl rfl rfl rfl rfl
theorem u102_21 : wp scr n mb_102 21 L st M Q ↔ wp scr n mb_102 22 L (.int 3 :: st) M Q := wp_step rfl rfl rfl rfl rfl
theorem u102_22 : wp scr n mb_102 22 L (a2 :: a1 :: st) M Q ↔ (mw_st st ∧ Wp scr n 89 [a1, a2] M (fun r1 M1 => wp scr n mb_102 25 L (r1.toList ++ st) M1 Q)) := wp_sta rfl rfl rfl rfl
theorem u102_25 : wp scr n mb_102 25 L (.int x :: st) M Q ↔ (if x = 0 then wp scr n mb_102 28 L st M Q else wp scr n mb_102 35 L st M Q) := (wp_step rfl rfl rfl rfl rfl).trans wp_iten
theorem u102_28 : wp scr n mb_102 28 [some (.ref a), l1, l2, l3, l4, l5, l6] st M Q ↔ wp scr n mb_102 29 [some (.ref a), l1, l2, l3, l4, l5, l6] (.ref a :: st) M Q := wp_step rfl rfl rfl rfl rfl
theorem u102_29 : wp scr n mb_102 29 L st M Q ↔ wp scr n mb_102 31 L (.int (-2) :: st) M Q := wp_step rfl rfl rfl rfl rfl
theorem u102_31 : wp scr n mb_102 31 L (a2 :: .ref a :: st) M Q ↔ ((mw_r M a 5 ∧ mw_st st) ∧ Wp scr n 84 [.ref a, a2] M (fun r1 M1 => wp scr n mb_102 34 L (r1.toList ++ st) M1 Q)) := wp_vir rfl rfl rfl rfl rfl
theorem u102_34 : wp scr n mb_102 34 L [.int x] M Q ↔ Q (some (.int x)) M := wp_ret rfl rfl
theorem u102_35 : wp scr n mb_102 35 [some (.ref a), l1, l2, l3, l4, l5, l6] st M Q ↔ wp scr n mb_102 36 [some (.ref a), l1, l2, l3, l4, l5, l6] (.ref a :: st) M Q := wp_step rfl rfl rfl rfl rfl
theorem u102_36 : wp scr n mb_102 36 L (o :: st) M Q ↔ mw_o (mm_fld (mc_X scr) M o 5 0) (fun v => wp scr n mb_102 39 L (v :: st) M Q) := wp_getf rfl
theorem u102_39 : wp scr n mb_102 39 [some (.ref a), l1, l2, l3, l4, l5, l6] st M Q ↔ wp scr n mb_102 40 [some (.ref a), l1, l2, l3, l4, l5, l6] (.ref a :: st) M Q := wp_step rfl rfl rfl rfl rfl
theorem u102_40 : wp scr n mb_102 40 L (o :: st) M Q ↔ mw_o (mm_fld (mc_X scr) M o 5 0) (fun v => wp scr n mb_102 43 L (v :: st) M Q) := wp_getf rfl
theorem u102_43 : wp scr n mb_102 43 L (o :: st) M Q ↔ mw_o (mm_fld (mc_X scr) M o 4 4) (fun v => wp scr n mb_102 46 L (v :: st) M Q) := wp_getf rfl
theorem u102_46 : wp scr n mb_102 46 [l0, some (.int x), l2, l3, l4, l5, l6] st M Q ↔ wp scr n mb_102 47 [l0, some (.int x), l2, l3, l4, l5, l6] (.int x :: st) M Q := wp_step rfl rfl rfl rfl rfl
theorem u102_47 : wp scr n mb_102 47 [l0, l1, some (.int x), l3, l4, l5, l6] st M Q ↔ wp scr n mb_102 48 [l0, l1, some (.int x), l3, l4, l5, l6] (.int x :: st) M Q := wp_step rfl rfl rfl rfl rfl
theorem u102_48 : wp scr n mb_102 48 L (a4 :: a3 :: a2 :: .ref a :: st) M Q ↔ ((mw_r M a 4 ∧ mw_st st) ∧ Wp scr n 71 [.ref a, a2, a3, a4] M (fun r1 M1 => wp scr n mb_102 51 L (r1.toList ++ st) M1 Q)) := wp_vir rfl rfl rfl rfl rfl
theorem u102_51 : wp scr n mb_102 51 [l0, l1, l2, l3, l4, l5, l6] (.int x :: st) M Q ↔ wp scr n mb_102 53 (mm_sto1 [l0, l1, l2, l3, l4, l5, l6] 5 (.int x)) st M Q := wp_step rfl rfl rfl rfl rfl
theorem u102_53 : wp scr n mb_102 53 [l0, l1, l2, some (.int x), l4, l5, l6] st M Q ↔ wp scr n mb_102 54 [l0, l1, l2, some (.int x), l4, l5, l6] (.int x :: st) M Q := wp_step rfl rfl rfl rfl rfl
theorem u102_54 : wp scr n mb_102 54 L (.int x :: st) M Q ↔ (if x = 0 then wp scr n mb_102 57 L st M Q else wp scr n mb_102 60 L st M Q) := (wp_step rfl rfl rfl rfl rfl).trans wp_iten
theorem u102_57 : wp scr n mb_102 57 [l0, l1, l2, l3, l4, some (.int x), l6] st M Q ↔ wp scr n mb_102 59 [l0, l1, l2, l3, l4, some (.int x), l6] (.int x :: st) M Q := wp_step rfl rfl rfl rfl rfl
theorem u102_59 : wp scr n mb_102 59 L [.int x] M Q ↔ Q (some (.int x)) M := wp_ret rfl rfl
theorem u102_60 : wp scr n mb_102 60 [some (.ref a), l1, l2, l3, l4, l5, l6] st M Q ↔ wp scr n mb_102 61 [some (.ref a), l1, l2, l3, l4, l5, l6] (.ref a :: st) M Q := wp_step rfl rfl rfl rfl rfl
theorem u102_61 : wp scr n mb_102 61 L (o :: st) M Q ↔ mw_o (mm_fld (mc_X scr) M o 5 0) (fun v => wp scr n mb_102 64 L (v :: st) M Q) := wp_getf rfl
theorem u102_64 : wp scr n mb_102 64 L (o :: st) M Q ↔ mw_o (mm_fld (mc_X scr) M o 4 0) (fun v => wp scr n mb_102 67 L (v :: st) M Q) := wp_getf rfl
theorem u102_67 : wp scr n mb_102 67 [some (.ref a), l1, l2, l3, l4, l5, l6] st M Q ↔ wp scr n mb_102 68 [some (.ref a), l1, l2, l3, l4, l5, l6] (.ref a :: st) M Q := wp_step rfl rfl rfl rfl rfl
theorem u102_68 : wp scr n mb_102 68 L (o :: st) M Q ↔ mw_o (mm_fld (mc_X scr) M o 5 0) (fun v => wp scr n mb_102 71 L (v :: st) M Q) := wp_getf rfl
theorem u102_71 : wp scr n mb_102 71 L (o :: st) M Q ↔ mw_o (mm_fld (mc_X scr) M o 4 4) (fun v => wp scr n mb_102 74 L (v :: st) M Q) := wp_getf rfl
theorem u102_74 : wp scr n mb_102 74 L st M Q ↔ wp scr n mb_102 75 L (.int 1 :: st) M Q := wp_step rfl rfl rfl rfl rfl
theorem u102_75 : wp scr n mb_102 75 L (.int y :: .int x :: st) M Q ↔ wp scr n mb_102 76 L (.int (x + y) :: st) M Q := wp_step rfl rfl rfl rfl rfl
theorem u102_76 : wp scr n mb_102 76 L (.int y :: .ref a :: st) M Q ↔ mw_o (mm_lda M a y) (fun v => wp scr n mb_102 77 L (v :: st) M Q) := wp_aald rfl
theorem u102_77 : wp scr n mb_102 77 [l0, l1, l2, l3, l4, l5, l6] (.ref a :: st) M Q ↔ wp scr n mb_102 79 (mm_sto1 [l0, l1, l2, l3, l4, l5, l6] 6 (.ref a)) st M Q := wp_step rfl rfl rfl rfl rfl
theorem u102_79 : wp scr n mb_102 79 [l0, l1, l2, some (.int x), l4, l5, l6] st M Q ↔ wp scr n mb_102 80 [l0, l1, l2, some (.int x), l4, l5, l6] (.int x :: st) M Q := wp_step rfl rfl rfl rfl rfl
theorem u102_80 : wp scr n mb_102 80 L st M Q ↔ wp scr n mb_102 81 L (.int 1 :: st) M Q := wp_step rfl rfl rfl rfl rfl
theorem u102_81 : wp scr n mb_102 81 L (.int y :: .int x :: st) M Q ↔ (if x = y then wp scr n mb_102 84 L st M Q else wp scr n mb_102 92 L st M Q) := (wp_step rfl rfl rfl rfl rfl).trans wp_iten
theorem u102_84 : wp scr n mb_102 84 [l0, l1, l2, l3, l4, l5, some (.ref a)] st M Q ↔ wp scr n mb_102 86 [l0, l1, l2, l3, l4, l5, some (.ref a)] (.ref a :: st) M Q := wp_step rfl rfl rfl rfl rfl
theorem u102_86 : wp scr n mb_102 86 L (o :: st) M Q ↔ mw_o (mm_fld (mc_X scr) M o 1 8) (fun v => wp scr n mb_102 89 L (v :: st) M Q) := wp_getf rfl
theorem u102_89 : wp scr n mb_102 89 L st M Q ↔ wp scr n mb_102 101 L st M Q := wp_step rfl rfl rfl rfl rfl
theorem u102_92 : wp scr n mb_102 92 [some (.ref a), l1, l2, l3, l4, l5, l6] st M Q ↔ wp scr n mb_102 93 [some (.ref a), l1, l2, l3, l4, l5, l6] (.ref a :: st) M Q := wp_step rfl rfl rfl rfl rfl
theorem u102_93 : wp scr n mb_102 93 L (o :: st) M Q ↔ mw_o (mm_fld (mc_X scr) M o 5 0) (fun v => wp scr n mb_102 96 L (v :: st) M Q) := wp_getf rfl
theorem u102_96 : wp scr n mb_102 96 [l0, l1, l2, l3, l4, l5, some (.ref a)] st M Q ↔ wp scr n mb_102 98 [l0, l1, l2, l3, l4, l5, some (.ref a)] (.ref a :: st) M Q := wp_step rfl rfl rfl rfl rfl
theorem u102_98 : wp scr n mb_102 98 L (a2 :: .ref a :: st) M Q ↔ ((mw_r M a 4 ∧ mw_st st) ∧ Wp scr n 77 [.ref a, a2] M (fun r1 M1 => wp scr n mb_102 101 L (r1.toList ++ st) M1 Q)) := wp_vir rfl rfl rfl rfl rfl
theorem u102_101 : wp scr n mb_102 101 L [.int x] M Q ↔ Q (some (.int x)) M := wp_ret rfl rfl
theorem e102 : Wp scr (n + 1) 102 [.ref a0, .int x1, .int x2, .int x3] M Q ↔ wp scr n mb_102 0 [some (.ref a0), some (.int x1), some (.int x2), some (.int x3), none, none, none] [] M Q := Wp_to rfl rfl rfl
/-- SmallerInTheShop over (II)I -/
def mb_103 : mw_B := ((Option.some FieldType.int), mp_103)
theorem u103_0 : wp scr n mb_103 0 [l0, some (.int x), l2] st M Q ↔ wp scr n mb_103 1 [l0, some (.int x), l2] (.int x :: st) M Q := wp_step rfl rfl rfl rfl rfl
theorem u103_1 : wp scr n mb_103 1 [l0, l1, some (.int x)] st M Q ↔ wp scr n mb_103 2 [l0, l1, some (.int x)] (.int x :: st) M Q := wp_step rfl rfl rfl rfl rfl
theorem u103_2 : wp scr n mb_103 2 L (a2 :: a1 :: st) M Q ↔ (mw_st st ∧ Wp scr n 104 [a1, a2] M (fun r1 M1 => wp scr n mb_103 5 L (r1.toList ++ st) M1 Q)) := wp_sta rfl rfl rfl rfl
theorem u103_5 : wp scr n mb_103 5 L (.int x :: st) M Q ↔ (if x = 0 then wp scr n mb_103 8 L st M Q else wp scr n mb_103 14 L st M Q) := (wp_step rfl rfl rfl rfl rfl).trans wp_iten
theorem u103_8 : wp scr n mb_103 8 [some (.ref a), l1, l2] st M Q ↔ wp scr n mb_103 9 [some (.ref a), l1, l2] (.ref a :: st) M Q := wp_step rfl rfl rfl rfl rfl
theorem u103_9 : wp scr n mb_103 9 L st M Q ↔ wp scr n mb_103 10 L (.int (-1) :: st) M Q := wp_step rfl rfl rfl rfl rfl
theorem u103_10 : wp scr n mb_103 10 L (a2 :: .ref a :: st) M Q ↔ ((mw_r M a 5 ∧ mw_st st) ∧ Wp scr n 84 [.ref a, a2] M (fun r1 M1 => wp scr n mb_103 13 L (r1.toList ++ st) M1 Q)) := wp_vir rfl rfl rfl rfl rfl
theorem u103_13 : wp scr n mb_103 13 L [.int x] M Q ↔ Q (some (.int x)) M := wp_ret rfl rfl
theorem u103_14 : wp scr n mb_103 14 [some (.ref a), l1, l2] st M Q ↔ wp scr n mb_103 15 [some (.ref a), l1, l2] (.ref a :: st) M Q := wp_step rfl rfl rfl rfl rfl
theorem u103_15 : wp scr n mb_103 15 L (o :: st) M Q ↔ mw_o (mm_fld (mc_X scr) M o 5 0) (fun v => wp scr n mb_103 18 L (v :: st) M Q) := wp_getf rfl
theorem u103_18 : wp scr n mb_103 18 L (.ref a :: st) M Q ↔ ((mw_r M a 4 ∧ mw_st st) ∧ Wp scr n 73 [.ref a] M (fun r1 M1 => wp scr n mb_103 21 L (r1.toList ++ st) M1 Q)) := wp_vir rfl rfl rfl rfl rfl
theorem u103_21 : wp scr n mb_103 21 [l0, some (.int x), l2] st M Q ↔ wp scr n mb_103 22 [l0, some (.int x), l2] (.int x :: st) M Q := wp_step rfl rfl rfl rfl rfl
theorem u103_22 : wp scr n mb_103 22 [l0, l1, some (.int x)] st M Q ↔ wp scr n mb_103 23 [l0, l1, some (.int x)] (.int x :: st) M Q := wp_step rfl rfl rfl rfl rfl
theorem u103_23 : wp scr n mb_103 23 L (a3 :: a2 :: .ref a :: st) M Q ↔ ((mw_r M a 1 ∧ mw_st st) ∧ Wp scr n 33 [.ref a, a2, a3] M (fun r1 M1 => wp scr n mb_103 26 L (r1.toList ++ st) M1 Q)) := wp_vir rfl rfl rfl rfl rfl
theorem u103_26 : wp scr n mb_103 26 L (a1 :: st) M Q ↔ (mw_st st ∧ Wp scr n 95 [a1] M (fun r1 M1 => wp scr n mb_103 29 L (r1.toList ++ st) M1 Q)) := wp_sta rfl rfl rfl rfl
theorem u103_29 : wp scr n mb_103 29 L [.int x] M Q ↔ Q (some (.int x)) M := wp_ret rfl rfl
theorem e103 : Wp scr (n + 1) 103 [.ref a0, .int x1, .int x2] M Q ↔ wp scr n mb_103 0 [some (.ref a0), some (.int x1), some (.int x2)] [] M Q := Wp_to rfl rfl rfl
/-- SmallerInTheShop arePair (II)Z -/
def mb_104 : mw_B := ((Option.some FieldType.boolean), mp_104)
theorem u104_0 : wp scr n mb_104 0 [some (.int x), l1] st M Q ↔ wp scr n mb_104 1 [some (.int x), l1] (.int x :: st) M Q := wp_step rfl rfl rfl rfl rfl
theorem u104_1 : wp scr n mb_104 1 L st M Q ↔ wp scr n mb_104 3 L (.int 8 :: st) M Q := wp_step rfl rfl rfl rfl rfl
theorem u104_3 : wp scr n mb_104 3 L (a2 :: a1 :: st) M Q ↔ (mw_st st ∧ Wp scr n 89 [a1, a2] M (fun r1 M1 => wp scr n mb_104 6 L (r1.toList ++ st) M1 Q)) := wp_sta rfl rfl rfl rfl
theorem u104_6 : wp scr n mb_104 6 L (.int x :: st) M Q ↔ (if x = 0 then wp scr n mb_104 27 L st M Q else wp scr n mb_104 9 L st M Q) := (wp_step rfl rfl rfl rfl rfl).trans wp_ite
theorem u104_9 : wp scr n mb_104 9 [l0, some (.int x)] st M Q ↔ wp scr n mb_104 10 [l0, some (.int x)] (.int x :: st) M Q := wp_step rfl rfl rfl rfl rfl
theorem u104_10 : wp scr n mb_104 10 L st M Q ↔ wp scr n mb_104 12 L (.int 8 :: st) M Q := wp_step rfl rfl rfl rfl rfl
theorem u104_12 : wp scr n mb_104 12 L (a2 :: a1 :: st) M Q ↔ (mw_st st ∧ Wp scr n 89 [a1, a2] M (fun r1 M1 => wp scr n mb_104 15 L (r1.toList ++ st) M1 Q)) := wp_sta rfl rfl rfl rfl
theorem u104_15 : wp scr n mb_104 15 L (.int x :: st) M Q ↔ (if x = 0 then wp scr n mb_104 27 L st M Q else wp scr n mb_104 18 L st M Q) := (wp_step rfl rfl rfl rfl rfl).trans wp_ite
theorem u104_18 : wp scr n mb_104 18 [some (.int x), l1] st M Q ↔ wp scr n mb_104 19 [some (.int x), l1] (.int x :: st) M Q := wp_step rfl rfl rfl rfl rfl
theorem u104_19 : wp scr n mb_104 19 [l0, some (.int x)] st M Q ↔ wp scr n mb_104 20 [l0, some (.int x)] (.int x :: st) M Q := wp_step rfl rfl rfl rfl rfl
theorem u104_20 : wp scr n mb_104 20 L (.int y :: .int x :: st) M Q ↔ (if x = y then wp scr n mb_104 27 L st M Q else wp scr n mb_104 23 L st M Q) := (wp_step rfl rfl rfl rfl rfl).trans wp_ite
theorem u104_23 : wp scr n mb_104 23 L st M Q ↔ wp scr n mb_104 24 L (.int 1 :: st) M Q := wp_step rfl rfl rfl rfl rfl
theorem u104_24 : wp scr n mb_104 24 L st M Q ↔ wp scr n mb_104 28 L st M Q := wp_step rfl rfl rfl rfl rfl
theorem u104_27 : wp scr n mb_104 27 L st M Q ↔ wp scr n mb_104 28 L (.int 0 :: st) M Q := wp_step rfl rfl rfl rfl rfl
theorem u104_28 : wp scr n mb_104 28 L [.int x] M Q ↔ ((x = 0 ∨ x = 1) ∧ Q (some (.int x)) M) := wp_retb rfl rfl
theorem e104 : Wp scr (n + 1) 104 [.int x1, .int x2] M Q ↔ wp scr n mb_104 0 [some (.int x1), some (.int x2)] [] M Q := Wp_to rfl rfl rfl
end MU
