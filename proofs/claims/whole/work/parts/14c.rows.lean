section MU
variable {scr : List Int32} {n : Nat} {L : mm_L} {st : List Value} {M : mm_M} {Q : Option Value → mm_M → Prop} {x y : Int32} {z w : Int64} {a : Nat} {o v a1 a2 a3 a4 a5 a6 : Value} {a0 b1 b2 b3 b4 b5 : Nat} {x1 x2 x3 x4 x5 : Int32} {z1 z2 z3 : Int64} {l0 l1 l2 l3 l4 l5 l6 l7 l8 l9 l10 l11 l12 l13 l14 : Option Value}
/-- SmallerInTheShop wad (I)I -/
def mb_105 : mw_B := ((Option.some FieldType.int), mp_105)
theorem u105_0 : wp scr n mb_105 0 [some (.ref a), l1, l2] st M Q ↔ wp scr n mb_105 1 [some (.ref a), l1, l2] (.ref a :: st) M Q := wp_step rfl rfl rfl rfl rfl
theorem u105_1 : wp scr n mb_105 1 L (o :: st) M Q ↔ mw_o (mm_fld (mc_X scr) M o 5 0) (fun v => wp scr n mb_105 4 L (v :: st) M Q) := wp_getf rfl
theorem u105_4 : wp scr n mb_105 4 L (.ref a :: st) M Q ↔ ((mw_r M a 4 ∧ mw_st st) ∧ Wp scr n 73 [.ref a] M (fun r1 M1 => wp scr n mb_105 7 L (r1.toList ++ st) M1 Q)) := wp_vir rfl rfl rfl rfl rfl
theorem u105_7 : wp scr n mb_105 7 [l0, l1, l2] (.ref a :: st) M Q ↔ wp scr n mb_105 8 (mm_sto1 [l0, l1, l2] 2 (.ref a)) st M Q := wp_step rfl rfl rfl rfl rfl
theorem u105_8 : wp scr n mb_105 8 [l0, some (.int x), l2] st M Q ↔ wp scr n mb_105 9 [l0, some (.int x), l2] (.int x :: st) M Q := wp_step rfl rfl rfl rfl rfl
theorem u105_9 : wp scr n mb_105 9 L (.int x :: st) M Q ↔ wp scr n mb_105 (mw_sw x [(0, 52), (1, 57), (2, 62), (3, 67), (4, 72), (5, 87), (6, 95)] 104) L st M Q := wp_tabS (d := 95) (lo := 0) (hi := 6) (os := #[43, 48, 53, 58, 63, 78, 86]) rfl (by decide +kernel) (by decide +kernel) (by decide +kernel)
theorem u105_52 : wp scr n mb_105 52 [l0, l1, some (.ref a)] st M Q ↔ wp scr n mb_105 53 [l0, l1, some (.ref a)] (.ref a :: st) M Q := wp_step rfl rfl rfl rfl rfl
theorem u105_53 : wp scr n mb_105 53 L (o :: st) M Q ↔ mw_o (mm_fld (mc_X scr) M o 1 6) (fun v => wp scr n mb_105 56 L (v :: st) M Q) := wp_getf rfl
theorem u105_56 : wp scr n mb_105 56 L [.int x] M Q ↔ Q (some (.int x)) M := wp_ret rfl rfl
theorem u105_57 : wp scr n mb_105 57 [l0, l1, some (.ref a)] st M Q ↔ wp scr n mb_105 58 [l0, l1, some (.ref a)] (.ref a :: st) M Q := wp_step rfl rfl rfl rfl rfl
theorem u105_58 : wp scr n mb_105 58 L (o :: st) M Q ↔ mw_o (mm_fld (mc_X scr) M o 1 7) (fun v => wp scr n mb_105 61 L (v :: st) M Q) := wp_getf rfl
theorem u105_61 : wp scr n mb_105 61 L [.int x] M Q ↔ Q (some (.int x)) M := wp_ret rfl rfl
theorem u105_62 : wp scr n mb_105 62 [l0, l1, some (.ref a)] st M Q ↔ wp scr n mb_105 63 [l0, l1, some (.ref a)] (.ref a :: st) M Q := wp_step rfl rfl rfl rfl rfl
theorem u105_63 : wp scr n mb_105 63 L (.ref a :: st) M Q ↔ ((mw_r M a 1 ∧ mw_st st) ∧ Wp scr n 34 [.ref a] M (fun r1 M1 => wp scr n mb_105 66 L (r1.toList ++ st) M1 Q)) := wp_vir rfl rfl rfl rfl rfl
theorem u105_66 : wp scr n mb_105 66 L [.int x] M Q ↔ Q (some (.int x)) M := wp_ret rfl rfl
theorem u105_67 : wp scr n mb_105 67 [l0, l1, some (.ref a)] st M Q ↔ wp scr n mb_105 68 [l0, l1, some (.ref a)] (.ref a :: st) M Q := wp_step rfl rfl rfl rfl rfl
theorem u105_68 : wp scr n mb_105 68 L (.ref a :: st) M Q ↔ ((mw_r M a 1 ∧ mw_st st) ∧ Wp scr n 35 [.ref a] M (fun r1 M1 => wp scr n mb_105 71 L (r1.toList ++ st) M1 Q)) := wp_vir rfl rfl rfl rfl rfl
theorem u105_71 : wp scr n mb_105 71 L [.int x] M Q ↔ Q (some (.int x)) M := wp_ret rfl rfl
theorem u105_72 : wp scr n mb_105 72 [l0, l1, some (.ref a)] st M Q ↔ wp scr n mb_105 73 [l0, l1, some (.ref a)] (.ref a :: st) M Q := wp_step rfl rfl rfl rfl rfl
theorem u105_73 : wp scr n mb_105 73 [some (.ref a), l1, l2] st M Q ↔ wp scr n mb_105 74 [some (.ref a), l1, l2] (.ref a :: st) M Q := wp_step rfl rfl rfl rfl rfl
theorem u105_74 : wp scr n mb_105 74 L (o :: st) M Q ↔ mw_o (mm_fld (mc_X scr) M o 5 0) (fun v => wp scr n mb_105 77 L (v :: st) M Q) := wp_getf rfl
theorem u105_77 : wp scr n mb_105 77 L (o :: st) M Q ↔ mw_o (mm_fld (mc_X scr) M o 4 5) (fun v => wp scr n mb_105 80 L (v :: st) M Q) := wp_getf rfl
theorem u105_80 : wp scr n mb_105 80 L (a2 :: .ref a :: st) M Q ↔ ((mw_r M a 1 ∧ mw_st st) ∧ Wp scr n 36 [.ref a, a2] M (fun r1 M1 => wp scr n mb_105 83 L (r1.toList ++ st) M1 Q)) := wp_vir rfl rfl rfl rfl rfl
theorem u105_83 : wp scr n mb_105 83 L (a1 :: st) M Q ↔ (mw_st st ∧ Wp scr n 95 [a1] M (fun r1 M1 => wp scr n mb_105 86 L (r1.toList ++ st) M1 Q)) := wp_sta rfl rfl rfl rfl
theorem u105_86 : wp scr n mb_105 86 L [.int x] M Q ↔ Q (some (.int x)) M := wp_ret rfl rfl
theorem u105_87 : wp scr n mb_105 87 [some (.ref a), l1, l2] st M Q ↔ wp scr n mb_105 88 [some (.ref a), l1, l2] (.ref a :: st) M Q := wp_step rfl rfl rfl rfl rfl
theorem u105_88 : wp scr n mb_105 88 L (o :: st) M Q ↔ mw_o (mm_fld (mc_X scr) M o 5 0) (fun v => wp scr n mb_105 91 L (v :: st) M Q) := wp_getf rfl
theorem u105_91 : wp scr n mb_105 91 L (o :: st) M Q ↔ mw_o (mm_fld (mc_X scr) M o 4 4) (fun v => wp scr n mb_105 94 L (v :: st) M Q) := wp_getf rfl
theorem u105_94 : wp scr n mb_105 94 L [.int x] M Q ↔ Q (some (.int x)) M := wp_ret rfl rfl
theorem u105_95 : wp scr n mb_105 95 L st M Q ↔ wp scr n mb_105 98 L (.int 1023 :: st) M Q := wp_step rfl rfl rfl rfl rfl
theorem u105_98 : wp scr n mb_105 98 [l0, l1, some (.ref a)] st M Q ↔ wp scr n mb_105 99 [l0, l1, some (.ref a)] (.ref a :: st) M Q := wp_step rfl rfl rfl rfl rfl
theorem u105_99 : wp scr n mb_105 99 L (.ref a :: st) M Q ↔ ((mw_r M a 1 ∧ mw_st st) ∧ Wp scr n 37 [.ref a] M (fun r1 M1 => wp scr n mb_105 102 L (r1.toList ++ st) M1 Q)) := wp_vir rfl rfl rfl rfl rfl
theorem u105_102 : wp scr n mb_105 102 L (.int y :: .int x :: st) M Q ↔ wp scr n mb_105 103 L (.int (x - y) :: st) M Q := wp_step rfl rfl rfl rfl rfl
theorem u105_103 : wp scr n mb_105 103 L [.int x] M Q ↔ Q (some (.int x)) M := wp_ret rfl rfl
theorem u105_104 : wp scr n mb_105 104 [some (.ref a), l1, l2] st M Q ↔ wp scr n mb_105 105 [some (.ref a), l1, l2] (.ref a :: st) M Q := wp_step rfl rfl rfl rfl rfl
theorem u105_105 : wp scr n mb_105 105 L st M Q ↔ wp scr n mb_105 107 L (.int (-2) :: st) M Q := wp_step rfl rfl rfl rfl rfl
theorem u105_107 : wp scr n mb_105 107 L (a2 :: .ref a :: st) M Q ↔ ((mw_r M a 5 ∧ mw_st st) ∧ Wp scr n 84 [.ref a, a2] M (fun r1 M1 => wp scr n mb_105 110 L (r1.toList ++ st) M1 Q)) := wp_vir rfl rfl rfl rfl rfl
theorem u105_110 : wp scr n mb_105 110 L [.int x] M Q ↔ Q (some (.int x)) M := wp_ret rfl rfl
theorem e105 : Wp scr (n + 1) 105 [.ref a0, .int x1] M Q ↔ wp scr n mb_105 0 [some (.ref a0), some (.int x1), none] [] M Q := Wp_to rfl rfl rfl
/-- SmallerInTheShop shut (I)I -/
def mb_106 : mw_B := ((Option.some FieldType.int), mp_106)
theorem u106_0 : wp scr n mb_106 0 [l0, some (.int x)] st M Q ↔ wp scr n mb_106 1 [l0, some (.int x)] (.int x :: st) M Q := wp_step rfl rfl rfl rfl rfl
theorem u106_1 : wp scr n mb_106 1 L st M Q ↔ wp scr n mb_106 2 L (.int 3 :: st) M Q := wp_step rfl rfl rfl rfl rfl
theorem u106_2 : wp scr n mb_106 2 L (a2 :: a1 :: st) M Q ↔ (mw_st st ∧ Wp scr n 89 [a1, a2] M (fun r1 M1 => wp scr n mb_106 5 L (r1.toList ++ st) M1 Q)) := wp_sta rfl rfl rfl rfl
theorem u106_5 : wp scr n mb_106 5 L (.int x :: st) M Q ↔ (if x = 0 then wp scr n mb_106 8 L st M Q else wp scr n mb_106 15 L st M Q) := (wp_step rfl rfl rfl rfl rfl).trans wp_iten
theorem u106_8 : wp scr n mb_106 8 [some (.ref a), l1] st M Q ↔ wp scr n mb_106 9 [some (.ref a), l1] (.ref a :: st) M Q := wp_step rfl rfl rfl rfl rfl
theorem u106_9 : wp scr n mb_106 9 L st M Q ↔ wp scr n mb_106 11 L (.int (-2) :: st) M Q := wp_step rfl rfl rfl rfl rfl
theorem u106_11 : wp scr n mb_106 11 L (a2 :: .ref a :: st) M Q ↔ ((mw_r M a 5 ∧ mw_st st) ∧ Wp scr n 84 [.ref a, a2] M (fun r1 M1 => wp scr n mb_106 14 L (r1.toList ++ st) M1 Q)) := wp_vir rfl rfl rfl rfl rfl
theorem u106_14 : wp scr n mb_106 14 L [.int x] M Q ↔ Q (some (.int x)) M := wp_ret rfl rfl
theorem u106_15 : wp scr n mb_106 15 [some (.ref a), l1] st M Q ↔ wp scr n mb_106 16 [some (.ref a), l1] (.ref a :: st) M Q := wp_step rfl rfl rfl rfl rfl
theorem u106_16 : wp scr n mb_106 16 L (o :: st) M Q ↔ mw_o (mm_fld (mc_X scr) M o 5 3) (fun v => wp scr n mb_106 19 L (v :: st) M Q) := wp_getf rfl
theorem u106_19 : wp scr n mb_106 19 [l0, some (.int x)] st M Q ↔ wp scr n mb_106 20 [l0, some (.int x)] (.int x :: st) M Q := wp_step rfl rfl rfl rfl rfl
theorem u106_20 : wp scr n mb_106 20 L st M Q ↔ wp scr n mb_106 21 L (.int 2 :: st) M Q := wp_step rfl rfl rfl rfl rfl
theorem u106_21 : wp scr n mb_106 21 L (.int y :: .int x :: st) M Q ↔ (if x = y then wp scr n mb_106 24 L st M Q else wp scr n mb_106 28 L st M Q) := (wp_step rfl rfl rfl rfl rfl).trans wp_iten
theorem u106_24 : wp scr n mb_106 24 L st M Q ↔ wp scr n mb_106 25 L (.int 1 :: st) M Q := wp_step rfl rfl rfl rfl rfl
theorem u106_25 : wp scr n mb_106 25 L st M Q ↔ wp scr n mb_106 29 L st M Q := wp_step rfl rfl rfl rfl rfl
theorem u106_28 : wp scr n mb_106 28 L st M Q ↔ wp scr n mb_106 29 L (.int 0 :: st) M Q := wp_step rfl rfl rfl rfl rfl
theorem u106_29 : wp scr n mb_106 29 L (a2 :: .ref a :: st) M Q ↔ ((mw_r M a 3 ∧ mw_st st) ∧ Wp scr n 54 [.ref a, a2] M (fun r1 M1 => wp scr n mb_106 32 L (r1.toList ++ st) M1 Q)) := wp_vir rfl rfl rfl rfl rfl
theorem u106_32 : wp scr n mb_106 32 [some (.ref a), l1] st M Q ↔ wp scr n mb_106 33 [some (.ref a), l1] (.ref a :: st) M Q := wp_step rfl rfl rfl rfl rfl
theorem u106_33 : wp scr n mb_106 33 L (o :: st) M Q ↔ mw_o (mm_fld (mc_X scr) M o 5 3) (fun v => wp scr n mb_106 36 L (v :: st) M Q) := wp_getf rfl
theorem u106_36 : wp scr n mb_106 36 [some (.ref a), l1] st M Q ↔ wp scr n mb_106 37 [some (.ref a), l1] (.ref a :: st) M Q := wp_step rfl rfl rfl rfl rfl
theorem u106_37 : wp scr n mb_106 37 L (o :: st) M Q ↔ mw_o (mm_fld (mc_X scr) M o 5 0) (fun v => wp scr n mb_106 40 L (v :: st) M Q) := wp_getf rfl
theorem u106_40 : wp scr n mb_106 40 L (a2 :: .ref a :: st) M Q ↔ ((mw_r M a 3 ∧ mw_st st) ∧ Wp scr n 55 [.ref a, a2] M (fun r1 M1 => wp scr n mb_106 43 L (r1.toList ++ st) M1 Q)) := wp_vir rfl rfl rfl rfl rfl
theorem u106_43 : wp scr n mb_106 43 [l0, some (.int x)] st M Q ↔ wp scr n mb_106 44 [l0, some (.int x)] (.int x :: st) M Q := wp_step rfl rfl rfl rfl rfl
theorem u106_44 : wp scr n mb_106 44 L (.int x :: st) M Q ↔ (if x = 0 then wp scr n mb_106 47 L st M Q else wp scr n mb_106 57 L st M Q) := (wp_step rfl rfl rfl rfl rfl).trans wp_iten
theorem u106_47 : wp scr n mb_106 47 [some (.ref a), l1] st M Q ↔ wp scr n mb_106 48 [some (.ref a), l1] (.ref a :: st) M Q := wp_step rfl rfl rfl rfl rfl
theorem u106_48 : wp scr n mb_106 48 L (o :: st) M Q ↔ mw_o (mm_fld (mc_X scr) M o 5 3) (fun v => wp scr n mb_106 51 L (v :: st) M Q) := wp_getf rfl
theorem u106_51 : wp scr n mb_106 51 L (.ref a :: st) M Q ↔ ((mw_r M a 3 ∧ mw_st st) ∧ Wp scr n 63 [.ref a] M (fun r1 M1 => wp scr n mb_106 54 L (r1.toList ++ st) M1 Q)) := wp_vir rfl rfl rfl rfl rfl
theorem u106_54 : wp scr n mb_106 54 L st M Q ↔ wp scr n mb_106 64 L st M Q := wp_step rfl rfl rfl rfl rfl
theorem u106_57 : wp scr n mb_106 57 [some (.ref a), l1] st M Q ↔ wp scr n mb_106 58 [some (.ref a), l1] (.ref a :: st) M Q := wp_step rfl rfl rfl rfl rfl
theorem u106_58 : wp scr n mb_106 58 L (o :: st) M Q ↔ mw_o (mm_fld (mc_X scr) M o 5 3) (fun v => wp scr n mb_106 61 L (v :: st) M Q) := wp_getf rfl
theorem u106_61 : wp scr n mb_106 61 L (.ref a :: st) M Q ↔ ((mw_r M a 3 ∧ mw_st st) ∧ Wp scr n 64 [.ref a] M (fun r1 M1 => wp scr n mb_106 64 L (r1.toList ++ st) M1 Q)) := wp_vir rfl rfl rfl rfl rfl
theorem u106_64 : wp scr n mb_106 64 L [.int x] M Q ↔ Q (some (.int x)) M := wp_ret rfl rfl
theorem e106 : Wp scr (n + 1) 106 [.ref a0, .int x1] M Q ↔ wp scr n mb_106 0 [some (.ref a0), some (.int x1)] [] M Q := Wp_to rfl rfl rfl
/-- SmallerInTheShop ways (I)I -/
def mb_107 : mw_B := ((Option.some FieldType.int), mp_107)
theorem u107_0 : wp scr n mb_107 0 [l0, some (.int x)] st M Q ↔ wp scr n mb_107 1 [l0, some (.int x)] (.int x :: st) M Q := wp_step rfl rfl rfl rfl rfl
theorem u107_1 : wp scr n mb_107 1 L (.int x :: st) M Q ↔ (if 0 ≤ x then wp scr n mb_107 11 L st M Q else wp scr n mb_107 4 L st M Q) := (wp_step rfl rfl rfl rfl rfl).trans wp_ite
theorem u107_4 : wp scr n mb_107 4 [some (.ref a), l1] st M Q ↔ wp scr n mb_107 5 [some (.ref a), l1] (.ref a :: st) M Q := wp_step rfl rfl rfl rfl rfl
theorem u107_5 : wp scr n mb_107 5 L st M Q ↔ wp scr n mb_107 7 L (.int (-4) :: st) M Q := wp_step rfl rfl rfl rfl rfl
theorem u107_7 : wp scr n mb_107 7 L (a2 :: .ref a :: st) M Q ↔ ((mw_r M a 5 ∧ mw_st st) ∧ Wp scr n 84 [.ref a, a2] M (fun r1 M1 => wp scr n mb_107 10 L (r1.toList ++ st) M1 Q)) := wp_vir rfl rfl rfl rfl rfl
theorem u107_10 : wp scr n mb_107 10 L [.int x] M Q ↔ Q (some (.int x)) M := wp_ret rfl rfl
theorem u107_11 : wp scr n mb_107 11 [l0, some (.int x)] st M Q ↔ wp scr n mb_107 12 [l0, some (.int x)] (.int x :: st) M Q := wp_step rfl rfl rfl rfl rfl
theorem u107_12 : wp scr n mb_107 12 L st M Q ↔ wp scr n mb_107 13 L (.int 4 :: st) M Q := wp_step rfl rfl rfl rfl rfl
theorem u107_13 : wp scr n mb_107 13 L (.int y :: .int x :: st) M Q ↔ (if x ≤ y then wp scr n mb_107 23 L st M Q else wp scr n mb_107 16 L st M Q) := (wp_step rfl rfl rfl rfl rfl).trans wp_ite
theorem u107_16 : wp scr n mb_107 16 [some (.ref a), l1] st M Q ↔ wp scr n mb_107 17 [some (.ref a), l1] (.ref a :: st) M Q := wp_step rfl rfl rfl rfl rfl
theorem u107_17 : wp scr n mb_107 17 L st M Q ↔ wp scr n mb_107 19 L (.int (-6) :: st) M Q := wp_step rfl rfl rfl rfl rfl
theorem u107_19 : wp scr n mb_107 19 L (a2 :: .ref a :: st) M Q ↔ ((mw_r M a 5 ∧ mw_st st) ∧ Wp scr n 84 [.ref a, a2] M (fun r1 M1 => wp scr n mb_107 22 L (r1.toList ++ st) M1 Q)) := wp_vir rfl rfl rfl rfl rfl
theorem u107_22 : wp scr n mb_107 22 L [.int x] M Q ↔ Q (some (.int x)) M := wp_ret rfl rfl
theorem u107_23 : wp scr n mb_107 23 [some (.ref a), l1] st M Q ↔ wp scr n mb_107 24 [some (.ref a), l1] (.ref a :: st) M Q := wp_step rfl rfl rfl rfl rfl
theorem u107_24 : wp scr n mb_107 24 L (o :: st) M Q ↔ mw_o (mm_fld (mc_X scr) M o 5 3) (fun v => wp scr n mb_107 27 L (v :: st) M Q) := wp_getf rfl
theorem u107_27 : wp scr n mb_107 27 L st M Q ↔ wp scr n mb_107 28 L (.int 1 :: st) M Q := wp_step rfl rfl rfl rfl rfl
theorem u107_28 : wp scr n mb_107 28 L (a2 :: .ref a :: st) M Q ↔ ((mw_r M a 3 ∧ mw_st st) ∧ Wp scr n 54 [.ref a, a2] M (fun r1 M1 => wp scr n mb_107 31 L (r1.toList ++ st) M1 Q)) := wp_vir rfl rfl rfl rfl rfl
theorem u107_31 : wp scr n mb_107 31 [some (.ref a), l1] st M Q ↔ wp scr n mb_107 32 [some (.ref a), l1] (.ref a :: st) M Q := wp_step rfl rfl rfl rfl rfl
theorem u107_32 : wp scr n mb_107 32 L (o :: st) M Q ↔ mw_o (mm_fld (mc_X scr) M o 5 3) (fun v => wp scr n mb_107 35 L (v :: st) M Q) := wp_getf rfl
theorem u107_35 : wp scr n mb_107 35 [some (.ref a), l1] st M Q ↔ wp scr n mb_107 36 [some (.ref a), l1] (.ref a :: st) M Q := wp_step rfl rfl rfl rfl rfl
theorem u107_36 : wp scr n mb_107 36 L (o :: st) M Q ↔ mw_o (mm_fld (mc_X scr) M o 5 0) (fun v => wp scr n mb_107 39 L (v :: st) M Q) := wp_getf rfl
theorem u107_39 : wp scr n mb_107 39 L (a2 :: .ref a :: st) M Q ↔ ((mw_r M a 3 ∧ mw_st st) ∧ Wp scr n 55 [.ref a, a2] M (fun r1 M1 => wp scr n mb_107 42 L (r1.toList ++ st) M1 Q)) := wp_vir rfl rfl rfl rfl rfl
theorem u107_42 : wp scr n mb_107 42 [some (.ref a), l1] st M Q ↔ wp scr n mb_107 43 [some (.ref a), l1] (.ref a :: st) M Q := wp_step rfl rfl rfl rfl rfl
theorem u107_43 : wp scr n mb_107 43 L (o :: st) M Q ↔ mw_o (mm_fld (mc_X scr) M o 5 3) (fun v => wp scr n mb_107 46 L (v :: st) M Q) := wp_getf rfl
theorem u107_46 : wp scr n mb_107 46 [l0, some (.int x)] st M Q ↔ wp scr n mb_107 47 [l0, some (.int x)] (.int x :: st) M Q := wp_step rfl rfl rfl rfl rfl
theorem u107_47 : wp scr n mb_107 47 L (a2 :: .ref a :: st) M Q ↔ ((mw_r M a 3 ∧ mw_st st) ∧ Wp scr n 65 [.ref a, a2] M (fun r1 M1 => wp scr n mb_107 50 L (r1.toList ++ st) M1 Q)) := wp_vir rfl rfl rfl rfl rfl
theorem u107_50 : wp scr n mb_107 50 L [.int x] M Q ↔ Q (some (.int x)) M := wp_ret rfl rfl
theorem e107 : Wp scr (n + 1) 107 [.ref a0, .int x1] M Q ↔ wp scr n mb_107 0 [some (.ref a0), some (.int x1)] [] M Q := Wp_to rfl rfl rfl
/-- SmallerInTheShop up (IIII)I -/
def mb_108 : mw_B := ((Option.some FieldType.int), mp_108)
theorem u108_0 : wp scr n mb_108 0 [l0, some (.int x), l2, l3, l4] st M Q ↔ wp scr n mb_108 1 [l0, some (.int x), l2, l3, l4] (.int x :: st) M Q := wp_step rfl rfl rfl rfl rfl
theorem u108_1 : wp scr n mb_108 1 [l0, l1, some (.int x), l3, l4] st M Q ↔ wp scr n mb_108 2 [l0, l1, some (.int x), l3, l4] (.int x :: st) M Q := wp_step rfl rfl rfl rfl rfl
theorem u108_2 : wp scr n mb_108 2 L (a2 :: a1 :: st) M Q ↔ (mw_st st ∧ Wp scr n 104 [a1, a2] M (fun r1 M1 => wp scr n mb_108 5 L (r1.toList ++ st) M1 Q)) := wp_sta rfl rfl rfl rfl
theorem u108_5 : wp scr n mb_108 5 L (.int x :: st) M Q ↔ (if x = 0 then wp scr n mb_108 8 L st M Q else wp scr n mb_108 14 L st M Q) := (wp_step rfl rfl rfl rfl rfl).trans wp_iten
theorem u108_8 : wp scr n mb_108 8 [some (.ref a), l1, l2, l3, l4] st M Q ↔ wp scr n mb_108 9 [some (.ref a), l1, l2, l3, l4] (.ref a :: st) M Q := wp_step rfl rfl rfl rfl rfl
theorem u108_9 : wp scr n mb_108 9 L st M Q ↔ wp scr n mb_108 10 L (.int (-1) :: st) M Q := wp_step rfl rfl rfl rfl rfl
theorem u108_10 : wp scr n mb_108 10 L (a2 :: .ref a :: st) M Q ↔ ((mw_r M a 5 ∧ mw_st st) ∧ Wp scr n 84 [.ref a, a2] M (fun r1 M1 => wp scr n mb_108 13 L (r1.toList ++ st) M1 Q)) := wp_vir rfl rfl rfl rfl rfl
theorem u108_13 : wp scr n mb_108 13 L [.int x] M Q ↔ Q (some (.int x)) M := wp_ret rfl rfl
theorem u108_14 : wp scr n mb_108 14 [l0, l1, l2, some (.int x), l4] st M Q ↔ wp scr n mb_108 15 [l0, l1, l2, some (.int x), l4] (.int x :: st) M Q := wp_step rfl rfl rfl rfl rfl
theorem u108_15 : wp scr n mb_108 15 L st M Q ↔ wp scr n mb_108 16 L (.int 1 :: st) M Q := wp_step rfl rfl rfl rfl rfl
theorem u108_16 : wp scr n mb_108 16 L (.int y :: .int x :: st) M Q ↔ (if y ≤ x then wp scr n mb_108 26 L st M Q else wp scr n mb_108 19 L st M Q) := (wp_step rfl rfl rfl rfl rfl).trans wp_ite
theorem u108_19 : wp scr n mb_108 19 [some (.ref a), l1, l2, l3, l4] st M Q ↔ wp scr n mb_108 20 [some (.ref a), l1, l2, l3, l4] (.ref a :: st) M Q := wp_step rfl rfl rfl rfl rfl
theorem u108_20 : wp scr n mb_108 20 L st M Q ↔ wp scr n mb_108 22 L (.int (-4) :: st) M Q := wp_step rfl rfl rfl rfl rfl
theorem u108_22 : wp scr n mb_108 22 L (a2 :: .ref a :: st) M Q ↔ ((mw_r M a 5 ∧ mw_st st) ∧ Wp scr n 84 [.ref a, a2] M (fun r1 M1 => wp scr n mb_108 25 L (r1.toList ++ st) M1 Q)) := wp_vir rfl rfl rfl rfl rfl
theorem u108_25 : wp scr n mb_108 25 L [.int x] M Q ↔ Q (some (.int x)) M := wp_ret rfl rfl
theorem u108_26 : wp scr n mb_108 26 [l0, l1, l2, some (.int x), l4] st M Q ↔ wp scr n mb_108 27 [l0, l1, l2, some (.int x), l4] (.int x :: st) M Q := wp_step rfl rfl rfl rfl rfl
theorem u108_27 : wp scr n mb_108 27 L st M Q ↔ wp scr n mb_108 29 L (.int 8 :: st) M Q := wp_step rfl rfl rfl rfl rfl
theorem u108_29 : wp scr n mb_108 29 L (.int y :: .int x :: st) M Q ↔ (if x ≤ y then wp scr n mb_108 39 L st M Q else wp scr n mb_108 32 L st M Q) := (wp_step rfl rfl rfl rfl rfl).trans wp_ite
theorem u108_32 : wp scr n mb_108 32 [some (.ref a), l1, l2, l3, l4] st M Q ↔ wp scr n mb_108 33 [some (.ref a), l1, l2, l3, l4] (.ref a :: st) M Q := wp_step rfl rfl rfl rfl rfl
theorem u108_33 : wp scr n mb_108 33 L st M Q ↔ wp scr n mb_108 35 L (.int (-6) :: st) M Q := wp_step rfl rfl rfl rfl rfl
theorem u108_35 : wp scr n mb_108 35 L (a2 :: .ref a :: st) M Q ↔ ((mw_r M a 5 ∧ mw_st st) ∧ Wp scr n 84 [.ref a, a2] M (fun r1 M1 => wp scr n mb_108 38 L (r1.toList ++ st) M1 Q)) := wp_vir rfl rfl rfl rfl rfl
theorem u108_38 : wp scr n mb_108 38 L [.int x] M Q ↔ Q (some (.int x)) M := wp_ret rfl rfl
theorem u108_39 : wp scr n mb_108 39 [l0, l1, l2, l3, some (.int x)] st M Q ↔ wp scr n mb_108 41 [l0, l1, l2, l3, some (.int x)] (.int x :: st) M Q := wp_step rfl rfl rfl rfl rfl
theorem u108_41 : wp scr n mb_108 41 L st M Q ↔ wp scr n mb_108 42 L (.int 2 :: st) M Q := wp_step rfl rfl rfl rfl rfl
theorem u108_42 : wp scr n mb_108 42 L (a2 :: a1 :: st) M Q ↔ (mw_st st ∧ Wp scr n 89 [a1, a2] M (fun r1 M1 => wp scr n mb_108 45 L (r1.toList ++ st) M1 Q)) := wp_sta rfl rfl rfl rfl
theorem u108_45 : wp scr n mb_108 45 L (.int x :: st) M Q ↔ (if x = 0 then wp scr n mb_108 48 L st M Q else wp scr n mb_108 55 L st M Q) := (wp_step rfl rfl rfl rfl rfl).trans wp_iten
theorem u108_48 : wp scr n mb_108 48 [some (.ref a), l1, l2, l3, l4] st M Q ↔ wp scr n mb_108 49 [some (.ref a), l1, l2, l3, l4] (.ref a :: st) M Q := wp_step rfl rfl rfl rfl rfl
theorem u108_49 : wp scr n mb_108 49 L st M Q ↔ wp scr n mb_108 51 L (.int (-2) :: st) M Q := wp_step rfl rfl rfl rfl rfl
theorem u108_51 : wp scr n mb_108 51 L (a2 :: .ref a :: st) M Q ↔ ((mw_r M a 5 ∧ mw_st st) ∧ Wp scr n 84 [.ref a, a2] M (fun r1 M1 => wp scr n mb_108 54 L (r1.toList ++ st) M1 Q)) := wp_vir rfl rfl rfl rfl rfl
theorem u108_54 : wp scr n mb_108 54 L [.int x] M Q ↔ Q (some (.int x)) M := wp_ret rfl rfl
theorem u108_55 : wp scr n mb_108 55 [some (.ref a), l1, l2, l3, l4] st M Q ↔ wp scr n mb_108 56 [some (.ref a), l1, l2, l3, l4] (.ref a :: st) M Q := wp_step rfl rfl rfl rfl rfl
theorem u108_56 : wp scr n mb_108 56 L (o :: st) M Q ↔ mw_o (mm_fld (mc_X scr) M o 5 3) (fun v => wp scr n mb_108 59 L (v :: st) M Q) := wp_getf rfl
theorem u108_59 : wp scr n mb_108 59 L st M Q ↔ wp scr n mb_108 60 L (.int 2 :: st) M Q := wp_step rfl rfl rfl rfl rfl
theorem u108_60 : wp scr n mb_108 60 L (a2 :: .ref a :: st) M Q ↔ ((mw_r M a 3 ∧ mw_st st) ∧ Wp scr n 54 [.ref a, a2] M (fun r1 M1 => wp scr n mb_108 63 L (r1.toList ++ st) M1 Q)) := wp_vir rfl rfl rfl rfl rfl
theorem u108_63 : wp scr n mb_108 63 [some (.ref a), l1, l2, l3, l4] st M Q ↔ wp scr n mb_108 64 [some (.ref a), l1, l2, l3, l4] (.ref a :: st) M Q := wp_step rfl rfl rfl rfl rfl
theorem u108_64 : wp scr n mb_108 64 L (o :: st) M Q ↔ mw_o (mm_fld (mc_X scr) M o 5 3) (fun v => wp scr n mb_108 67 L (v :: st) M Q) := wp_getf rfl
theorem u108_67 : wp scr n mb_108 67 [l0, l1, l2, some (.int x), l4] st M Q ↔ wp scr n mb_108 68 [l0, l1, l2, some (.int x), l4] (.int x :: st) M Q := wp_step rfl rfl rfl rfl rfl
theorem u108_68 : wp scr n mb_108 68 L (v :: o :: st) M Q ↔ mw_o (mm_put mc_fty M o v 3 3) (fun M1 => wp scr n mb_108 71 L st M1 Q) := wp_putf rfl
theorem u108_71 : wp scr n mb_108 71 [some (.ref a), l1, l2, l3, l4] st M Q ↔ wp scr n mb_108 72 [some (.ref a), l1, l2, l3, l4] (.ref a :: st) M Q := wp_step rfl rfl rfl rfl rfl
theorem u108_72 : wp scr n mb_108 72 L (o :: st) M Q ↔ mw_o (mm_fld (mc_X scr) M o 5 3) (fun v => wp scr n mb_108 75 L (v :: st) M Q) := wp_getf rfl
theorem u108_75 : wp scr n mb_108 75 L st M Q ↔ wp scr n mb_108 76 L (.int 1 :: st) M Q := wp_step rfl rfl rfl rfl rfl
theorem u108_76 : wp scr n mb_108 76 [l0, some (.int x), l2, l3, l4] st M Q ↔ wp scr n mb_108 77 [l0, some (.int x), l2, l3, l4] (.int x :: st) M Q := wp_step rfl rfl rfl rfl rfl
theorem u108_77 : wp scr n mb_108 77 L (.int y :: .int x :: st) M Q ↔ wp scr n mb_108 78 L (.int (x <<< (y &&& 31)) :: st) M Q := wp_step rfl rfl rfl rfl rfl
theorem u108_78 : wp scr n mb_108 78 L st M Q ↔ wp scr n mb_108 79 L (.int 1 :: st) M Q := wp_step rfl rfl rfl rfl rfl
theorem u108_79 : wp scr n mb_108 79 [l0, l1, some (.int x), l3, l4] st M Q ↔ wp scr n mb_108 80 [l0, l1, some (.int x), l3, l4] (.int x :: st) M Q := wp_step rfl rfl rfl rfl rfl
theorem u108_80 : wp scr n mb_108 80 L (.int y :: .int x :: st) M Q ↔ wp scr n mb_108 81 L (.int (x <<< (y &&& 31)) :: st) M Q := wp_step rfl rfl rfl rfl rfl
theorem u108_81 : wp scr n mb_108 81 L (.int y :: .int x :: st) M Q ↔ wp scr n mb_108 82 L (.int (x ||| y) :: st) M Q := wp_step rfl rfl rfl rfl rfl
theorem u108_82 : wp scr n mb_108 82 L (v :: o :: st) M Q ↔ mw_o (mm_put mc_fty M o v 3 4) (fun M1 => wp scr n mb_108 85 L st M1 Q) := wp_putf rfl
theorem u108_85 : wp scr n mb_108 85 [some (.ref a), l1, l2, l3, l4] st M Q ↔ wp scr n mb_108 86 [some (.ref a), l1, l2, l3, l4] (.ref a :: st) M Q := wp_step rfl rfl rfl rfl rfl
theorem u108_86 : wp scr n mb_108 86 L (o :: st) M Q ↔ mw_o (mm_fld (mc_X scr) M o 5 3) (fun v => wp scr n mb_108 89 L (v :: st) M Q) := wp_getf rfl
theorem u108_89 : wp scr n mb_108 89 [some (.ref a), l1, l2, l3, l4] st M Q ↔ wp scr n mb_108 90 [some (.ref a), l1, l2, l3, l4] (.ref a :: st) M Q := wp_step rfl rfl rfl rfl rfl
theorem u108_90 : wp scr n mb_108 90 L (o :: st) M Q ↔ mw_o (mm_fld (mc_X scr) M o 5 0) (fun v => wp scr n mb_108 93 L (v :: st) M Q) := wp_getf rfl
theorem u108_93 : wp scr n mb_108 93 L (a2 :: .ref a :: st) M Q ↔ ((mw_r M a 3 ∧ mw_st st) ∧ Wp scr n 55 [.ref a, a2] M (fun r1 M1 => wp scr n mb_108 96 L (r1.toList ++ st) M1 Q)) := wp_vir rfl rfl rfl rfl rfl
theorem u108_96 : wp scr n mb_108 96 [l0, l1, l2, l3, some (.int x)] st M Q ↔ wp scr n mb_108 98 [l0, l1, l2, l3, some (.int x)] (.int x :: st) M Q := wp_step rfl rfl rfl rfl rfl
theorem u108_98 : wp scr n mb_108 98 L (.int x :: st) M Q ↔ (if x = 0 then wp scr n mb_108 101 L st M Q else wp scr n mb_108 111 L st M Q) := (wp_step rfl rfl rfl rfl rfl).trans wp_iten
theorem u108_101 : wp scr n mb_108 101 [some (.ref a), l1, l2, l3, l4] st M Q ↔ wp scr n mb_108 102 [some (.ref a), l1, l2, l3, l4] (.ref a :: st) M Q := wp_step rfl rfl rfl rfl rfl
theorem u108_102 : wp scr n mb_108 102 L (o :: st) M Q ↔ mw_o (mm_fld (mc_X scr) M o 5 3) (fun v => wp scr n mb_108 105 L (v :: st) M Q) := wp_getf rfl
theorem u108_105 : wp scr n mb_108 105 L (.ref a :: st) M Q ↔ ((mw_r M a 3 ∧ mw_st st) ∧ Wp scr n 63 [.ref a] M (fun r1 M1 => wp scr n mb_108 108 L (r1.toList ++ st) M1 Q)) := wp_vir rfl rfl rfl rfl rfl
theorem u108_108 : wp scr n mb_108 108 L st M Q ↔ wp scr n mb_108 118 L st M Q := wp_step rfl rfl rfl rfl rfl
theorem u108_111 : wp scr n mb_108 111 [some (.ref a), l1, l2, l3, l4] st M Q ↔ wp scr n mb_108 112 [some (.ref a), l1, l2, l3, l4] (.ref a :: st) M Q := wp_step rfl rfl rfl rfl rfl
theorem u108_112 : wp scr n mb_108 112 L (o :: st) M Q ↔ mw_o (mm_fld (mc_X scr) M o 5 3) (fun v => wp scr n mb_108 115 L (v :: st) M Q) := wp_getf rfl
theorem u108_115 : wp scr n mb_108 115 L (.ref a :: st) M Q ↔ ((mw_r M a 3 ∧ mw_st st) ∧ Wp scr n 64 [.ref a] M (fun r1 M1 => wp scr n mb_108 118 L (r1.toList ++ st) M1 Q)) := wp_vir rfl rfl rfl rfl rfl
theorem u108_118 : wp scr n mb_108 118 L [.int x] M Q ↔ Q (some (.int x)) M := wp_ret rfl rfl
theorem e108 : Wp scr (n + 1) 108 [.ref a0, .int x1, .int x2, .int x3, .int x4] M Q ↔ wp scr n mb_108 0 [some (.ref a0), some (.int x1), some (.int x2), some (.int x3), some (.int x4)] [] M Q := Wp_to rfl rfl rfl
/-- SmallerInTheShop most (III)I -/
def mb_109 : mw_B := ((Option.some FieldType.int), mp_109)
theorem u109_0 : wp scr n mb_109 0 [l0, some (.int x), l2, l3] st M Q ↔ wp scr n mb_109 1 [l0, some (.int x), l2, l3] (.int x :: st) M Q := wp_step rfl rfl rfl rfl rfl
theorem u109_1 : wp scr n mb_109 1 L (.int x :: st) M Q ↔ (if x < 0 then wp scr n mb_109 9 L st M Q else wp scr n mb_109 4 L st M Q) := (wp_step rfl rfl rfl rfl rfl).trans wp_ite
theorem u109_4 : wp scr n mb_109 4 [l0, l1, some (.int x), l3] st M Q ↔ wp scr n mb_109 5 [l0, l1, some (.int x), l3] (.int x :: st) M Q := wp_step rfl rfl rfl rfl rfl
theorem u109_5 : wp scr n mb_109 5 L st M Q ↔ wp scr n mb_109 6 L (.int 1 :: st) M Q := wp_step rfl rfl rfl rfl rfl
theorem u109_6 : wp scr n mb_109 6 L (.int y :: .int x :: st) M Q ↔ (if y ≤ x then wp scr n mb_109 16 L st M Q else wp scr n mb_109 9 L st M Q) := (wp_step rfl rfl rfl rfl rfl).trans wp_ite
theorem u109_9 : wp scr n mb_109 9 [some (.ref a), l1, l2, l3] st M Q ↔ wp scr n mb_109 10 [some (.ref a), l1, l2, l3] (.ref a :: st) M Q := wp_step rfl rfl rfl rfl rfl
theorem u109_10 : wp scr n mb_109 10 L st M Q ↔ wp scr n mb_109 12 L (.int (-4) :: st) M Q := wp_step rfl rfl rfl rfl rfl
theorem u109_12 : wp scr n mb_109 12 L (a2 :: .ref a :: st) M Q ↔ ((mw_r M a 5 ∧ mw_st st) ∧ Wp scr n 84 [.ref a, a2] M (fun r1 M1 => wp scr n mb_109 15 L (r1.toList ++ st) M1 Q)) := wp_vir rfl rfl rfl rfl rfl
theorem u109_15 : wp scr n mb_109 15 L [.int x] M Q ↔ Q (some (.int x)) M := wp_ret rfl rfl
theorem u109_16 : wp scr n mb_109 16 [l0, some (.int x), l2, l3] st M Q ↔ wp scr n mb_109 17 [l0, some (.int x), l2, l3] (.int x :: st) M Q := wp_step rfl rfl rfl rfl rfl
theorem u109_17 : wp scr n mb_109 17 L st M Q ↔ wp scr n mb_109 20 L (.int 255 :: st) M Q := wp_step rfl rfl rfl rfl rfl
theorem u109_20 : wp scr n mb_109 20 L (.int y :: .int x :: st) M Q ↔ (if y < x then wp scr n mb_109 29 L st M Q else wp scr n mb_109 23 L st M Q) := (wp_step rfl rfl rfl rfl rfl).trans wp_ite
theorem u109_23 : wp scr n mb_109 23 [l0, l1, some (.int x), l3] st M Q ↔ wp scr n mb_109 24 [l0, l1, some (.int x), l3] (.int x :: st) M Q := wp_step rfl rfl rfl rfl rfl
theorem u109_24 : wp scr n mb_109 24 L st M Q ↔ wp scr n mb_109 26 L (.int 8 :: st) M Q := wp_step rfl rfl rfl rfl rfl
theorem u109_26 : wp scr n mb_109 26 L (.int y :: .int x :: st) M Q ↔ (if x ≤ y then wp scr n mb_109 36 L st M Q else wp scr n mb_109 29 L st M Q) := (wp_step rfl rfl rfl rfl rfl).trans wp_ite
theorem u109_29 : wp scr n mb_109 29 [some (.ref a), l1, l2, l3] st M Q ↔ wp scr n mb_109 30 [some (.ref a), l1, l2, l3] (.ref a :: st) M Q := wp_step rfl rfl rfl rfl rfl
theorem u109_30 : wp scr n mb_109 30 L st M Q ↔ wp scr n mb_109 32 L (.int (-6) :: st) M Q := wp_step rfl rfl rfl rfl rfl
theorem u109_32 : wp scr n mb_109 32 L (a2 :: .ref a :: st) M Q ↔ ((mw_r M a 5 ∧ mw_st st) ∧ Wp scr n 84 [.ref a, a2] M (fun r1 M1 => wp scr n mb_109 35 L (r1.toList ++ st) M1 Q)) := wp_vir rfl rfl rfl rfl rfl
theorem u109_35 : wp scr n mb_109 35 L [.int x] M Q ↔ Q (some (.int x)) M := wp_ret rfl rfl
theorem u109_36 : wp scr n mb_109 36 [l0, l1, l2, some (.int x)] st M Q ↔ wp scr n mb_109 37 [l0, l1, l2, some (.int x)] (.int x :: st) M Q := wp_step rfl rfl rfl rfl rfl
theorem u109_37 : wp scr n mb_109 37 L st M Q ↔ wp scr n mb_109 38 L (.int 2 :: st) M Q := wp_step rfl rfl rfl rfl rfl
theorem u109_38 : wp scr n mb_109 38 L (a2 :: a1 :: st) M Q ↔ (mw_st st ∧ Wp scr n 89 [a1, a2] M (fun r1 M1 => wp scr n mb_109 41 L (r1.toList ++ st) M1 Q)) := wp_sta rfl rfl rfl rfl
theorem u109_41 : wp scr n mb_109 41 L (.int x :: st) M Q ↔ (if x = 0 then wp scr n mb_109 44 L st M Q else wp scr n mb_109 51 L st M Q) := (wp_step rfl rfl rfl rfl rfl).trans wp_iten
theorem u109_44 : wp scr n mb_109 44 [some (.ref a), l1, l2, l3] st M Q ↔ wp scr n mb_109 45 [some (.ref a), l1, l2, l3] (.ref a :: st) M Q := wp_step rfl rfl rfl rfl rfl
theorem u109_45 : wp scr n mb_109 45 L st M Q ↔ wp scr n mb_109 47 L (.int (-2) :: st) M Q := wp_step rfl rfl rfl rfl rfl
theorem u109_47 : wp scr n mb_109 47 L (a2 :: .ref a :: st) M Q ↔ ((mw_r M a 5 ∧ mw_st st) ∧ Wp scr n 84 [.ref a, a2] M (fun r1 M1 => wp scr n mb_109 50 L (r1.toList ++ st) M1 Q)) := wp_vir rfl rfl rfl rfl rfl
theorem u109_50 : wp scr n mb_109 50 L [.int x] M Q ↔ Q (some (.int x)) M := wp_ret rfl rfl
theorem u109_51 : wp scr n mb_109 51 [some (.ref a), l1, l2, l3] st M Q ↔ wp scr n mb_109 52 [some (.ref a), l1, l2, l3] (.ref a :: st) M Q := wp_step rfl rfl rfl rfl rfl
theorem u109_52 : wp scr n mb_109 52 L (o :: st) M Q ↔ mw_o (mm_fld (mc_X scr) M o 5 3) (fun v => wp scr n mb_109 55 L (v :: st) M Q) := wp_getf rfl
theorem u109_55 : wp scr n mb_109 55 L st M Q ↔ wp scr n mb_109 56 L (.int 3 :: st) M Q := wp_step rfl rfl rfl rfl rfl
theorem u109_56 : wp scr n mb_109 56 L (a2 :: .ref a :: st) M Q ↔ ((mw_r M a 3 ∧ mw_st st) ∧ Wp scr n 54 [.ref a, a2] M (fun r1 M1 => wp scr n mb_109 59 L (r1.toList ++ st) M1 Q)) := wp_vir rfl rfl rfl rfl rfl
theorem u109_59 : wp scr n mb_109 59 [some (.ref a), l1, l2, l3] st M Q ↔ wp scr n mb_109 60 [some (.ref a), l1, l2, l3] (.ref a :: st) M Q := wp_step rfl rfl rfl rfl rfl
theorem u109_60 : wp scr n mb_109 60 L (o :: st) M Q ↔ mw_o (mm_fld (mc_X scr) M o 5 3) (fun v => wp scr n mb_109 63 L (v :: st) M Q) := wp_getf rfl
theorem u109_63 : wp scr n mb_109 63 [l0, l1, some (.int x), l3] st M Q ↔ wp scr n mb_109 64 [l0, l1, some (.int x), l3] (.int x :: st) M Q := wp_step rfl rfl rfl rfl rfl
theorem u109_64 : wp scr n mb_109 64 L (v :: o :: st) M Q ↔ mw_o (mm_put mc_fty M o v 3 3) (fun M1 => wp scr n mb_109 67 L st M1 Q) := wp_putf rfl
theorem u109_67 : wp scr n mb_109 67 [some (.ref a), l1, l2, l3] st M Q ↔ wp scr n mb_109 68 [some (.ref a), l1, l2, l3] (.ref a :: st) M Q := wp_step rfl rfl rfl rfl rfl
theorem u109_68 : wp scr n mb_109 68 L (o :: st) M Q ↔ mw_o (mm_fld (mc_X scr) M o 5 3) (fun v => wp scr n mb_109 71 L (v :: st) M Q) := wp_getf rfl
theorem u109_71 : wp scr n mb_109 71 [l0, some (.int x), l2, l3] st M Q ↔ wp scr n mb_109 72 [l0, some (.int x), l2, l3] (.int x :: st) M Q := wp_step rfl rfl rfl rfl rfl
theorem u109_72 : wp scr n mb_109 72 L (v :: o :: st) M Q ↔ mw_o (mm_put mc_fty M o v 3 4) (fun M1 => wp scr n mb_109 75 L st M1 Q) := wp_putf rfl
theorem u109_75 : wp scr n mb_109 75 [some (.ref a), l1, l2, l3] st M Q ↔ wp scr n mb_109 76 [some (.ref a), l1, l2, l3] (.ref a :: st) M Q := wp_step rfl rfl rfl rfl rfl
theorem u109_76 : wp scr n mb_109 76 L (o :: st) M Q ↔ mw_o (mm_fld (mc_X scr) M o 5 3) (fun v => wp scr n mb_109 79 L (v :: st) M Q) := wp_getf rfl
theorem u109_79 : wp scr n mb_109 79 [some (.ref a), l1, l2, l3] st M Q ↔ wp scr n mb_109 80 [some (.ref a), l1, l2, l3] (.ref a :: st) M Q := wp_step rfl rfl rfl rfl rfl
theorem u109_80 : wp scr n mb_109 80 L (o :: st) M Q ↔ mw_o (mm_fld (mc_X scr) M o 5 0) (fun v => wp scr n mb_109 83 L (v :: st) M Q) := wp_getf rfl
theorem u109_83 : wp scr n mb_109 83 L (a2 :: .ref a :: st) M Q ↔ ((mw_r M a 3 ∧ mw_st st) ∧ Wp scr n 55 [.ref a, a2] M (fun r1 M1 => wp scr n mb_109 86 L (r1.toList ++ st) M1 Q)) := wp_vir rfl rfl rfl rfl rfl
theorem u109_86 : wp scr n mb_109 86 [l0, l1, l2, some (.int x)] st M Q ↔ wp scr n mb_109 87 [l0, l1, l2, some (.int x)] (.int x :: st) M Q := wp_step rfl rfl rfl rfl rfl
theorem u109_87 : wp scr n mb_109 87 L st M Q ↔ wp scr n mb_109 88 L (.int 1 :: st) M Q := wp_step rfl rfl rfl rfl rfl
theorem u109_88 : wp scr n mb_109 88 L (.int y :: .int x :: st) M Q ↔ (if x = y then wp scr n mb_109 101 L st M Q else wp scr n mb_109 91 L st M Q) := (wp_step rfl rfl rfl rfl rfl).trans wp_ite
theorem u109_91 : wp scr n mb_109 91 [some (.ref a), l1, l2, l3] st M Q ↔ wp scr n mb_109 92 [some (.ref a), l1, l2, l3] (.ref a :: st) M Q := wp_step rfl rfl rfl rfl rfl
theorem u109_92 : wp scr n mb_109 92 L (o :: st) M Q ↔ mw_o (mm_fld (mc_X scr) M o 5 3) (fun v => wp scr n mb_109 95 L (v :: st) M Q) := wp_getf rfl
theorem u109_95 : wp scr n mb_109 95 L (o :: st) M Q ↔ mw_o (mm_fld (mc_X scr) M o 3 5) (fun v => wp scr n mb_109 98 L (v :: st) M Q) := wp_getf rfl
theorem u109_98 : wp scr n mb_109 98 L (.int x :: st) M Q ↔ (if x = 0 then wp scr n mb_109 101 L st M Q else wp scr n mb_109 109 L st M Q) := (wp_step rfl rfl rfl rfl rfl).trans wp_iten
theorem u109_101 : wp scr n mb_109 101 [some (.ref a), l1, l2, l3] st M Q ↔ wp scr n mb_109 102 [some (.ref a), l1, l2, l3] (.ref a :: st) M Q := wp_step rfl rfl rfl rfl rfl
theorem u109_102 : wp scr n mb_109 102 L (o :: st) M Q ↔ mw_o (mm_fld (mc_X scr) M o 5 3) (fun v => wp scr n mb_109 105 L (v :: st) M Q) := wp_getf rfl
theorem u109_105 : wp scr n mb_109 105 L (.ref a :: st) M Q ↔ ((mw_r M a 3 ∧ mw_st st) ∧ Wp scr n 63 [.ref a] M (fun r1 M1 => wp scr n mb_109 108 L (r1.toList ++ st) M1 Q)) := wp_vir rfl rfl rfl rfl rfl
theorem u109_108 : wp scr n mb_109 108 L [.int x] M Q ↔ Q (some (.int x)) M := wp_ret rfl rfl
theorem u109_109 : wp scr n mb_109 109 L st M Q ↔ wp scr n mb_109 111 L (.int 8 :: st) M Q := wp_step rfl rfl rfl rfl rfl
theorem u109_111 : wp scr n mb_109 111 [some (.ref a), l1, l2, l3] st M Q ↔ wp scr n mb_109 112 [some (.ref a), l1, l2, l3] (.ref a :: st) M Q := wp_step rfl rfl rfl rfl rfl
theorem u109_112 : wp scr n mb_109 112 L (o :: st) M Q ↔ mw_o (mm_fld (mc_X scr) M o 5 3) (fun v => wp scr n mb_109 115 L (v :: st) M Q) := wp_getf rfl
theorem u109_115 : wp scr n mb_109 115 L (.ref a :: st) M Q ↔ ((mw_r M a 3 ∧ mw_st st) ∧ Wp scr n 64 [.ref a] M (fun r1 M1 => wp scr n mb_109 118 L (r1.toList ++ st) M1 Q)) := wp_vir rfl rfl rfl rfl rfl
theorem u109_118 : wp scr n mb_109 118 L (.int y :: .int x :: st) M Q ↔ wp scr n mb_109 119 L (.int (x - y) :: st) M Q := wp_step rfl rfl rfl rfl rfl
theorem u109_119 : wp scr n mb_109 119 L [.int x] M Q ↔ Q (some (.int x)) M := wp_ret rfl rfl
theorem e109 : Wp scr (n + 1) 109 [.ref a0, .int x1, .int x2, .int x3] M Q ↔ wp scr n mb_109 0 [some (.ref a0), some (.int x1), some (.int x2), some (.int x3)] [] M Q := Wp_to rfl rfl rfl
/-- SmallerInTheShop layers ()I -/
def mb_110 : mw_B := ((Option.some FieldType.int), mp_110)
theorem u110_0 : wp scr n mb_110 0 [some (.ref a), l1] st M Q ↔ wp scr n mb_110 1 [some (.ref a), l1] (.ref a :: st) M Q := wp_step rfl rfl rfl rfl rfl
theorem u110_1 : wp scr n mb_110 1 L (.ref a :: st) M Q ↔ ((mw_r M a 5 ∧ mw_st st) ∧ Wp scr n 111 [.ref a] M (fun r1 M1 => wp scr n mb_110 4 L (r1.toList ++ st) M1 Q)) := wp_vir rfl rfl rfl rfl rfl
theorem u110_4 : wp scr n mb_110 4 L (.int x :: st) M Q ↔ (if x = 0 then wp scr n mb_110 7 L st M Q else wp scr n mb_110 10 L st M Q) := (wp_step rfl rfl rfl rfl rfl).trans wp_iten
theorem u110_7 : wp scr n mb_110 7 L st M Q ↔ wp scr n mb_110 9 L (.int (-9) :: st) M Q := wp_step rfl rfl rfl rfl rfl
theorem u110_9 : wp scr n mb_110 9 L [.int x] M Q ↔ Q (some (.int x)) M := wp_ret rfl rfl
theorem u110_10 : wp scr n mb_110 10 [some (.ref a), l1] st M Q ↔ wp scr n mb_110 11 [some (.ref a), l1] (.ref a :: st) M Q := wp_step rfl rfl rfl rfl rfl
theorem u110_11 : wp scr n mb_110 11 L (o :: st) M Q ↔ mw_o (mm_fld (mc_X scr) M o 5 3) (fun v => wp scr n mb_110 14 L (v :: st) M Q) := wp_getf rfl
theorem u110_14 : wp scr n mb_110 14 L st M Q ↔ wp scr n mb_110 15 L (.int 4 :: st) M Q := wp_step rfl rfl rfl rfl rfl
theorem u110_15 : wp scr n mb_110 15 L (a2 :: .ref a :: st) M Q ↔ ((mw_r M a 3 ∧ mw_st st) ∧ Wp scr n 54 [.ref a, a2] M (fun r1 M1 => wp scr n mb_110 18 L (r1.toList ++ st) M1 Q)) := wp_vir rfl rfl rfl rfl rfl
theorem u110_18 : wp scr n mb_110 18 L st M Q ↔ wp scr n mb_110 19 L (.int 0 :: st) M Q := wp_step rfl rfl rfl rfl rfl
theorem u110_19 : wp scr n mb_110 19 [l0, l1] (.int x :: st) M Q ↔ wp scr n mb_110 20 (mm_sto1 [l0, l1] 1 (.int x)) st M Q := wp_step rfl rfl rfl rfl rfl
theorem u110_20 : wp scr n mb_110 20 [l0, some (.int x)] st M Q ↔ wp scr n mb_110 21 [l0, some (.int x)] (.int x :: st) M Q := wp_step rfl rfl rfl rfl rfl
theorem u110_21 : wp scr n mb_110 21 L st M Q ↔ wp scr n mb_110 23 L (.int 8 :: st) M Q := wp_step rfl rfl rfl rfl rfl
theorem u110_23 : wp scr n mb_110 23 L (.int y :: .int x :: st) M Q ↔ (if y ≤ x then wp scr n mb_110 50 L st M Q else wp scr n mb_110 26 L st M Q) := (wp_step rfl rfl rfl rfl rfl).trans wp_ite
theorem u110_26 : wp scr n mb_110 26 [some (.ref a), l1] st M Q ↔ wp scr n mb_110 27 [some (.ref a), l1] (.ref a :: st) M Q := wp_step rfl rfl rfl rfl rfl
theorem u110_27 : wp scr n mb_110 27 L (o :: st) M Q ↔ mw_o (mm_fld (mc_X scr) M o 5 3) (fun v => wp scr n mb_110 30 L (v :: st) M Q) := wp_getf rfl
theorem u110_30 : wp scr n mb_110 30 L (o :: st) M Q ↔ mw_o (mm_fld (mc_X scr) M o 3 0) (fun v => wp scr n mb_110 33 L (v :: st) M Q) := wp_getf rfl
theorem u110_33 : wp scr n mb_110 33 [some (.ref a), l1] st M Q ↔ wp scr n mb_110 34 [some (.ref a), l1] (.ref a :: st) M Q := wp_step rfl rfl rfl rfl rfl
theorem u110_34 : wp scr n mb_110 34 L (o :: st) M Q ↔ mw_o (mm_fld (mc_X scr) M o 5 6) (fun v => wp scr n mb_110 37 L (v :: st) M Q) := wp_getf rfl
theorem u110_37 : wp scr n mb_110 37 [l0, some (.int x)] st M Q ↔ wp scr n mb_110 38 [l0, some (.int x)] (.int x :: st) M Q := wp_step rfl rfl rfl rfl rfl
theorem u110_38 : wp scr n mb_110 38 L (.int y :: o :: st) M Q ↔ mw_o (mm_ld (mc_X scr) M o y) (fun x => wp scr n mb_110 39 L (.int x :: st) M Q) := wp_iald rfl
theorem u110_39 : wp scr n mb_110 39 L st M Q ↔ wp scr n mb_110 41 L (.int 7 :: st) M Q := wp_step rfl rfl rfl rfl rfl
theorem u110_41 : wp scr n mb_110 41 [l0, some (.int x)] st M Q ↔ wp scr n mb_110 42 [l0, some (.int x)] (.int x :: st) M Q := wp_step rfl rfl rfl rfl rfl
theorem u110_42 : wp scr n mb_110 42 L (.int y :: .int x :: st) M Q ↔ wp scr n mb_110 43 L (.int (x - y) :: st) M Q := wp_step rfl rfl rfl rfl rfl
theorem u110_43 : wp scr n mb_110 43 L (.int x :: .int y :: o :: st) M Q ↔ mw_o (mm_sti M o y x) (fun M1 => wp scr n mb_110 44 L st M1 Q) := wp_iast rfl
theorem u110_44 : wp scr n mb_110 44 [l0, some (.int x)] st M Q ↔ wp scr n mb_110 47 (mm_sto1 [l0, some (.int x)] 1 (.int (x + 1))) st M Q := wp_step rfl rfl rfl rfl rfl
theorem u110_47 : wp scr n mb_110 47 L st M Q ↔ wp scr n mb_110 20 L st M Q := wp_step rfl rfl rfl rfl rfl
theorem u110_50 : wp scr n mb_110 50 [some (.ref a), l1] st M Q ↔ wp scr n mb_110 51 [some (.ref a), l1] (.ref a :: st) M Q := wp_step rfl rfl rfl rfl rfl
theorem u110_51 : wp scr n mb_110 51 L (o :: st) M Q ↔ mw_o (mm_fld (mc_X scr) M o 5 3) (fun v => wp scr n mb_110 54 L (v :: st) M Q) := wp_getf rfl
theorem u110_54 : wp scr n mb_110 54 [some (.ref a), l1] st M Q ↔ wp scr n mb_110 55 [some (.ref a), l1] (.ref a :: st) M Q := wp_step rfl rfl rfl rfl rfl
theorem u110_55 : wp scr n mb_110 55 L (o :: st) M Q ↔ mw_o (mm_fld (mc_X scr) M o 5 0) (fun v => wp scr n mb_110 58 L (v :: st) M Q) := wp_getf rfl
theorem u110_58 : wp scr n mb_110 58 L (a2 :: .ref a :: st) M Q ↔ ((mw_r M a 3 ∧ mw_st st) ∧ Wp scr n 55 [.ref a, a2] M (fun r1 M1 => wp scr n mb_110 61 L (r1.toList ++ st) M1 Q)) := wp_vir rfl rfl rfl rfl rfl
theorem u110_61 : wp scr n mb_110 61 [some (.ref a), l1] st M Q ↔ wp scr n mb_110 62 [some (.ref a), l1] (.ref a :: st) M Q := wp_step rfl rfl rfl rfl rfl
theorem u110_62 : wp scr n mb_110 62 L (o :: st) M Q ↔ mw_o (mm_fld (mc_X scr) M o 5 3) (fun v => wp scr n mb_110 65 L (v :: st) M Q) := wp_getf rfl
theorem u110_65 : wp scr n mb_110 65 L (.ref a :: st) M Q ↔ ((mw_r M a 3 ∧ mw_st st) ∧ Wp scr n 63 [.ref a] M (fun r1 M1 => wp scr n mb_110 68 L (r1.toList ++ st) M1 Q)) := wp_vir rfl rfl rfl rfl rfl
theorem u110_68 : wp scr n mb_110 68 L [.int x] M Q ↔ Q (some (.int x)) M := wp_ret rfl rfl
theorem e110 : Wp scr (n + 1) 110 [.ref a0] M Q ↔ wp scr n mb_110 0 [some (.ref a0), none] [] M Q := Wp_to rfl rfl rfl
/-- SmallerInTheShop tellsAllPanels ()Z -/
def mb_111 : mw_B := ((Option.some FieldType.boolean), mp_111)
theorem u111_0 : wp scr n mb_111 0 [some (.ref a), l1, l2] st M Q ↔ wp scr n mb_111 1 [some (.ref a), l1, l2] (.ref a :: st) M Q := wp_step rfl rfl rfl rfl rfl
theorem u111_1 : wp scr n mb_111 1 L (o :: st) M Q ↔ mw_o (mm_fld (mc_X scr) M o 5 8) (fun v => wp scr n mb_111 4 L (v :: st) M Q) := wp_getf rfl
theorem u111_4 : wp scr n mb_111 4 L st M Q ↔ wp scr n mb_111 6 L (.int 8 :: st) M Q := wp_step rfl rfl rfl rfl rfl
theorem u111_6 : wp scr n mb_111 6 L (.int y :: .int x :: st) M Q ↔ (if x = y then wp scr n mb_111 11 L st M Q else wp scr n mb_111 9 L st M Q) := (wp_step rfl rfl rfl rfl rfl).trans wp_ite
theorem u111_9 : wp scr n mb_111 9 L st M Q ↔ wp scr n mb_111 10 L (.int 0 :: st) M Q := wp_step rfl rfl rfl rfl rfl
theorem u111_10 : wp scr n mb_111 10 L [.int x] M Q ↔ ((x = 0 ∨ x = 1) ∧ Q (some (.int x)) M) := wp_retb rfl rfl
theorem u111_11 : wp scr n mb_111 11 L st M Q ↔ wp scr n mb_111 12 L (.int 0 :: st) M Q := wp_step rfl rfl rfl rfl rfl
theorem u111_12 : wp scr n mb_111 12 [l0, l1, l2] (.int x :: st) M Q ↔ wp scr n mb_111 13 (mm_sto1 [l0, l1, l2] 1 (.int x)) st M Q := wp_step rfl rfl rfl rfl rfl
theorem u111_13 : wp scr n mb_111 13 L st M Q ↔ wp scr n mb_111 14 L (.int 0 :: st) M Q := wp_step rfl rfl rfl rfl rfl
theorem u111_14 : wp scr n mb_111 14 [l0, l1, l2] (.int x :: st) M Q ↔ wp scr n mb_111 15 (mm_sto1 [l0, l1, l2] 2 (.int x)) st M Q := wp_step rfl rfl rfl rfl rfl
theorem u111_15 : wp scr n mb_111 15 [l0, l1, some (.int x)] st M Q ↔ wp scr n mb_111 16 [l0, l1, some (.int x)] (.int x :: st) M Q := wp_step rfl rfl rfl rfl rfl
theorem u111_16 : wp scr n mb_111 16 L st M Q ↔ wp scr n mb_111 18 L (.int 8 :: st) M Q := wp_step rfl rfl rfl rfl rfl
theorem u111_18 : wp scr n mb_111 18 L (.int y :: .int x :: st) M Q ↔ (if y ≤ x then wp scr n mb_111 54 L st M Q else wp scr n mb_111 21 L st M Q) := (wp_step rfl rfl rfl rfl rfl).trans wp_ite
theorem u111_21 : wp scr n mb_111 21 [some (.ref a), l1, l2] st M Q ↔ wp scr n mb_111 22 [some (.ref a), l1, l2] (.ref a :: st) M Q := wp_step rfl rfl rfl rfl rfl
theorem u111_22 : wp scr n mb_111 22 L (o :: st) M Q ↔ mw_o (mm_fld (mc_X scr) M o 5 6) (fun v => wp scr n mb_111 25 L (v :: st) M Q) := wp_getf rfl
theorem u111_25 : wp scr n mb_111 25 [l0, l1, some (.int x)] st M Q ↔ wp scr n mb_111 26 [l0, l1, some (.int x)] (.int x :: st) M Q := wp_step rfl rfl rfl rfl rfl
theorem u111_26 : wp scr n mb_111 26 L (.int y :: o :: st) M Q ↔ mw_o (mm_ld (mc_X scr) M o y) (fun x => wp scr n mb_111 27 L (.int x :: st) M Q) := wp_iald rfl
theorem u111_27 : wp scr n mb_111 27 L st M Q ↔ wp scr n mb_111 29 L (.int 8 :: st) M Q := wp_step rfl rfl rfl rfl rfl
theorem u111_29 : wp scr n mb_111 29 L (a2 :: a1 :: st) M Q ↔ (mw_st st ∧ Wp scr n 89 [a1, a2] M (fun r1 M1 => wp scr n mb_111 32 L (r1.toList ++ st) M1 Q)) := wp_sta rfl rfl rfl rfl
theorem u111_32 : wp scr n mb_111 32 L (.int x :: st) M Q ↔ (if x = 0 then wp scr n mb_111 35 L st M Q else wp scr n mb_111 37 L st M Q) := (wp_step rfl rfl rfl rfl rfl).trans wp_iten
theorem u111_35 : wp scr n mb_111 35 L st M Q ↔ wp scr n mb_111 36 L (.int 0 :: st) M Q := wp_step rfl rfl rfl rfl rfl
theorem u111_36 : wp scr n mb_111 36 L [.int x] M Q ↔ ((x = 0 ∨ x = 1) ∧ Q (some (.int x)) M) := wp_retb rfl rfl
theorem u111_37 : wp scr n mb_111 37 [l0, some (.int x), l2] st M Q ↔ wp scr n mb_111 38 [l0, some (.int x), l2] (.int x :: st) M Q := wp_step rfl rfl rfl rfl rfl
theorem u111_38 : wp scr n mb_111 38 L st M Q ↔ wp scr n mb_111 39 L (.int 1 :: st) M Q := wp_step rfl rfl rfl rfl rfl
theorem u111_39 : wp scr n mb_111 39 [some (.ref a), l1, l2] st M Q ↔ wp scr n mb_111 40 [some (.ref a), l1, l2] (.ref a :: st) M Q := wp_step rfl rfl rfl rfl rfl
theorem u111_40 : wp scr n mb_111 40 L (o :: st) M Q ↔ mw_o (mm_fld (mc_X scr) M o 5 6) (fun v => wp scr n mb_111 43 L (v :: st) M Q) := wp_getf rfl
theorem u111_43 : wp scr n mb_111 43 [l0, l1, some (.int x)] st M Q ↔ wp scr n mb_111 44 [l0, l1, some (.int x)] (.int x :: st) M Q := wp_step rfl rfl rfl rfl rfl
theorem u111_44 : wp scr n mb_111 44 L (.int y :: o :: st) M Q ↔ mw_o (mm_ld (mc_X scr) M o y) (fun x => wp scr n mb_111 45 L (.int x :: st) M Q) := wp_iald rfl
theorem u111_45 : wp scr n mb_111 45 L (.int y :: .int x :: st) M Q ↔ wp scr n mb_111 46 L (.int (x <<< (y &&& 31)) :: st) M Q := wp_step rfl rfl rfl rfl rfl
theorem u111_46 : wp scr n mb_111 46 L (.int y :: .int x :: st) M Q ↔ wp scr n mb_111 47 L (.int (x ||| y) :: st) M Q := wp_step rfl rfl rfl rfl rfl
theorem u111_47 : wp scr n mb_111 47 [l0, l1, l2] (.int x :: st) M Q ↔ wp scr n mb_111 48 (mm_sto1 [l0, l1, l2] 1 (.int x)) st M Q := wp_step rfl rfl rfl rfl rfl
theorem u111_48 : wp scr n mb_111 48 [l0, l1, some (.int x)] st M Q ↔ wp scr n mb_111 51 (mm_sto1 [l0, l1, some (.int x)] 2 (.int (x + 1))) st M Q := wp_step rfl rfl rfl rfl rfl
theorem u111_51 : wp scr n mb_111 51 L st M Q ↔ wp scr n mb_111 15 L st M Q := wp_step rfl rfl rfl rfl rfl
theorem u111_54 : wp scr n mb_111 54 [l0, some (.int x), l2] st M Q ↔ wp scr n mb_111 55 [l0, some (.int x), l2] (.int x :: st) M Q := wp_step rfl rfl rfl rfl rfl
theorem u111_55 : wp scr n mb_111 55 L st M Q ↔ wp scr n mb_111 58 L (.int 255 :: st) M Q := wp_step rfl rfl rfl rfl rfl
theorem u111_58 : wp scr n mb_111 58 L (.int y :: .int x :: st) M Q ↔ (if x = y then wp scr n mb_111 61 L st M Q else wp scr n mb_111 65 L st M Q) := (wp_step rfl rfl rfl rfl rfl).trans wp_iten
theorem u111_61 : wp scr n mb_111 61 L st M Q ↔ wp scr n mb_111 62 L (.int 1 :: st) M Q := wp_step rfl rfl rfl rfl rfl
theorem u111_62 : wp scr n mb_111 62 L st M Q ↔ wp scr n mb_111 66 L st M Q := wp_step rfl rfl rfl rfl rfl
theorem u111_65 : wp scr n mb_111 65 L st M Q ↔ wp scr n mb_111 66 L (.int 0 :: st) M Q := wp_step rfl rfl rfl rfl rfl
theorem u111_66 : wp scr n mb_111 66 L [.int x] M Q ↔ ((x = 0 ∨ x = 1) ∧ Q (some (.int x)) M) := wp_retb rfl rfl
theorem e111 : Wp scr (n + 1) 111 [.ref a0] M Q ↔ wp scr n mb_111 0 [some (.ref a0), none, none] [] M Q := Wp_to rfl rfl rfl
/-- SmallerInTheShop lasts (II)I -/
def mb_112 : mw_B := ((Option.some FieldType.int), mp_112)
theorem u112_0 : wp scr n mb_112 0 [some (.ref a), l1, l2, l3] st M Q ↔ wp scr n mb_112 1 [some (.ref a), l1, l2, l3] (.ref a :: st) M Q := wp_step rfl rfl rfl rfl rfl
theorem u112_1 : wp scr n mb_112 1 [l0, some (.int x), l2, l3] st M Q ↔ wp scr n mb_112 2 [l0, some (.int x), l2, l3] (.int x :: st) M Q := wp_step rfl rfl rfl rfl rfl
theorem u112_2 : wp scr n mb_112 2 [l0, l1, some (.int x), l3] st M Q ↔ wp scr n mb_112 3 [l0, l1, some (.int x), l3] (.int x :: st) M Q := wp_step rfl rfl rfl rfl rfl
theorem u112_3 : wp scr n mb_112 3 L (a3 :: a2 :: .ref a :: st) M Q ↔ ((mw_r M a 5 ∧ mw_st st) ∧ Wp scr n 97 [.ref a, a2, a3] M (fun r1 M1 => wp scr n mb_112 6 L (r1.toList ++ st) M1 Q)) := wp_vir rfl rfl rfl rfl rfl
theorem u112_6 : wp scr n mb_112 6 [l0, l1, l2, l3] (.int x :: st) M Q ↔ wp scr n mb_112 7 (mm_sto1 [l0, l1, l2, l3] 3 (.int x)) st M Q := wp_step rfl rfl rfl rfl rfl
theorem u112_7 : wp scr n mb_112 7 [l0, l1, l2, some (.int x)] st M Q ↔ wp scr n mb_112 8 [l0, l1, l2, some (.int x)] (.int x :: st) M Q := wp_step rfl rfl rfl rfl rfl
theorem u112_8 : wp scr n mb_112 8 L (.int x :: st) M Q ↔ (if 0 ≤ x then wp scr n mb_112 17 L st M Q else wp scr n mb_112 11 L st M Q) := (wp_step rfl rfl rfl rfl rfl).trans wp_ite
theorem u112_11 : wp scr n mb_112 11 [some (.ref a), l1, l2, l3] st M Q ↔ wp scr n mb_112 12 [some (.ref a), l1, l2, l3] (.ref a :: st) M Q := wp_step rfl rfl rfl rfl rfl
theorem u112_12 : wp scr n mb_112 12 [l0, l1, l2, some (.int x)] st M Q ↔ wp scr n mb_112 13 [l0, l1, l2, some (.int x)] (.int x :: st) M Q := wp_step rfl rfl rfl rfl rfl
theorem u112_13 : wp scr n mb_112 13 L (a2 :: .ref a :: st) M Q ↔ ((mw_r M a 5 ∧ mw_st st) ∧ Wp scr n 84 [.ref a, a2] M (fun r1 M1 => wp scr n mb_112 16 L (r1.toList ++ st) M1 Q)) := wp_vir rfl rfl rfl rfl rfl
theorem u112_16 : wp scr n mb_112 16 L [.int x] M Q ↔ Q (some (.int x)) M := wp_ret rfl rfl
theorem u112_17 : wp scr n mb_112 17 [some (.ref a), l1, l2, l3] st M Q ↔ wp scr n mb_112 18 [some (.ref a), l1, l2, l3] (.ref a :: st) M Q := wp_step rfl rfl rfl rfl rfl
theorem u112_18 : wp scr n mb_112 18 L (o :: st) M Q ↔ mw_o (mm_fld (mc_X scr) M o 5 0) (fun v => wp scr n mb_112 21 L (v :: st) M Q) := wp_getf rfl
theorem u112_21 : wp scr n mb_112 21 [some (.ref a), l1, l2, l3] st M Q ↔ wp scr n mb_112 22 [some (.ref a), l1, l2, l3] (.ref a :: st) M Q := wp_step rfl rfl rfl rfl rfl
theorem u112_22 : wp scr n mb_112 22 L (o :: st) M Q ↔ mw_o (mm_fld (mc_X scr) M o 5 0) (fun v => wp scr n mb_112 25 L (v :: st) M Q) := wp_getf rfl
theorem u112_25 : wp scr n mb_112 25 L (o :: st) M Q ↔ mw_o (mm_fld (mc_X scr) M o 4 4) (fun v => wp scr n mb_112 28 L (v :: st) M Q) := wp_getf rfl
theorem u112_28 : wp scr n mb_112 28 [l0, some (.int x), l2, l3] st M Q ↔ wp scr n mb_112 29 [l0, some (.int x), l2, l3] (.int x :: st) M Q := wp_step rfl rfl rfl rfl rfl
theorem u112_29 : wp scr n mb_112 29 [l0, l1, some (.int x), l3] st M Q ↔ wp scr n mb_112 30 [l0, l1, some (.int x), l3] (.int x :: st) M Q := wp_step rfl rfl rfl rfl rfl
theorem u112_30 : wp scr n mb_112 30 L (a4 :: a3 :: a2 :: .ref a :: st) M Q ↔ ((mw_r M a 4 ∧ mw_st st) ∧ Wp scr n 71 [.ref a, a2, a3, a4] M (fun r1 M1 => wp scr n mb_112 33 L (r1.toList ++ st) M1 Q)) := wp_vir rfl rfl rfl rfl rfl
theorem u112_33 : wp scr n mb_112 33 L (.int x :: st) M Q ↔ wp scr n mb_112 34 L st M Q := wp_step rfl rfl rfl rfl rfl
theorem u112_34 : wp scr n mb_112 34 [some (.ref a), l1, l2, l3] st M Q ↔ wp scr n mb_112 35 [some (.ref a), l1, l2, l3] (.ref a :: st) M Q := wp_step rfl rfl rfl rfl rfl
theorem u112_35 : wp scr n mb_112 35 L (o :: st) M Q ↔ mw_o (mm_fld (mc_X scr) M o 5 2) (fun v => wp scr n mb_112 38 L (v :: st) M Q) := wp_getf rfl
theorem u112_38 : wp scr n mb_112 38 [some (.ref a), l1, l2, l3] st M Q ↔ wp scr n mb_112 39 [some (.ref a), l1, l2, l3] (.ref a :: st) M Q := wp_step rfl rfl rfl rfl rfl
theorem u112_39 : wp scr n mb_112 39 L (o :: st) M Q ↔ mw_o (mm_fld (mc_X scr) M o 5 0) (fun v => wp scr n mb_112 42 L (v :: st) M Q) := wp_getf rfl
theorem u112_42 : wp scr n mb_112 42 L (a2 :: .ref a :: st) M Q ↔ ((mw_r M a 4 ∧ mw_st st) ∧ Wp scr n 68 [.ref a, a2] M (fun r1 M1 => wp scr n mb_112 45 L (r1.toList ++ st) M1 Q)) := wp_vir rfl rfl rfl rfl rfl
theorem u112_45 : wp scr n mb_112 45 [some (.ref a), l1, l2, l3] st M Q ↔ wp scr n mb_112 46 [some (.ref a), l1, l2, l3] (.ref a :: st) M Q := wp_step rfl rfl rfl rfl rfl
theorem u112_46 : wp scr n mb_112 46 L (o :: st) M Q ↔ mw_o (mm_fld (mc_X scr) M o 5 2) (fun v => wp scr n mb_112 49 L (v :: st) M Q) := wp_getf rfl
theorem u112_49 : wp scr n mb_112 49 [some (.ref a), l1, l2, l3] st M Q ↔ wp scr n mb_112 50 [some (.ref a), l1, l2, l3] (.ref a :: st) M Q := wp_step rfl rfl rfl rfl rfl
theorem u112_50 : wp scr n mb_112 50 L (o :: st) M Q ↔ mw_o (mm_fld (mc_X scr) M o 5 0) (fun v => wp scr n mb_112 53 L (v :: st) M Q) := wp_getf rfl
theorem u112_53 : wp scr n mb_112 53 L (o :: st) M Q ↔ mw_o (mm_fld (mc_X scr) M o 4 0) (fun v => wp scr n mb_112 56 L (v :: st) M Q) := wp_getf rfl
theorem u112_56 : wp scr n mb_112 56 [some (.ref a), l1, l2, l3] st M Q ↔ wp scr n mb_112 57 [some (.ref a), l1, l2, l3] (.ref a :: st) M Q := wp_step rfl rfl rfl rfl rfl
theorem u112_57 : wp scr n mb_112 57 L (o :: st) M Q ↔ mw_o (mm_fld (mc_X scr) M o 5 0) (fun v => wp scr n mb_112 60 L (v :: st) M Q) := wp_getf rfl
theorem u112_60 : wp scr n mb_112 60 L (o :: st) M Q ↔ mw_o (mm_fld (mc_X scr) M o 4 4) (fun v => wp scr n mb_112 63 L (v :: st) M Q) := wp_getf rfl
theorem u112_63 : wp scr n mb_112 63 L st M Q ↔ wp scr n mb_112 64 L (.int 1 :: st) M Q := wp_step rfl rfl rfl rfl rfl
theorem u112_64 : wp scr n mb_112 64 L (.int y :: .int x :: st) M Q ↔ wp scr n mb_112 65 L (.int (x + y) :: st) M Q := wp_step rfl rfl rfl rfl rfl
theorem u112_65 : wp scr n mb_112 65 L (.int y :: .ref a :: st) M Q ↔ mw_o (mm_lda M a y) (fun v => wp scr n mb_112 66 L (v :: st) M Q) := wp_aald rfl
theorem u112_66 : wp scr n mb_112 66 L (a2 :: .ref a :: st) M Q ↔ ((mw_r M a 4 ∧ mw_st st) ∧ Wp scr n 78 [.ref a, a2] M (fun r1 M1 => wp scr n mb_112 69 L (r1.toList ++ st) M1 Q)) := wp_vir rfl rfl rfl rfl rfl
theorem u112_69 : wp scr n mb_112 69 L [.int x] M Q ↔ Q (some (.int x)) M := wp_ret rfl rfl
theorem e112 : Wp scr (n + 1) 112 [.ref a0, .int x1, .int x2] M Q ↔ wp scr n mb_112 0 [some (.ref a0), some (.int x1), some (.int x2), none] [] M Q := Wp_to rfl rfl rfl
/-- SmallerInTheShop tape (II)I -/
def mb_113 : mw_B := ((Option.some FieldType.int), mp_113)
theorem u113_0 : wp scr n mb_113 0 [some (.ref a), l1, l2, l3, l4, l5, l6, l7, l8] st M Q ↔ wp scr n mb_113 1 [some (.ref a), l1, l2, l3, l4, l5, l6, l7, l8] (.ref a :: st) M Q := wp_step rfl rfl rfl rfl rfl
theorem u113_1 : wp scr n mb_113 1 [l0, some (.int x), l2, l3, l4, l5, l6, l7, l8] st M Q ↔ wp scr n mb_113 2 [l0, some (.int x), l2, l3, l4, l5, l6, l7, l8] (.int x :: st) M Q := wp_step rfl rfl rfl rfl rfl
theorem u113_2 : wp scr n mb_113 2 [l0, l1, some (.int x), l3, l4, l5, l6, l7, l8] st M Q ↔ wp scr n mb_113 3 [l0, l1, some (.int x), l3, l4, l5, l6, l7, l8] (.int x :: st) M Q := wp_step rfl rfl rfl rfl rfl
theorem u113_3 : wp scr n mb_113 3 L (a3 :: a2 :: .ref a :: st) M Q ↔ ((mw_r M a 5 ∧ mw_st st) ∧ Wp scr n 97 [.ref a, a2, a3] M (fun r1 M1 => wp scr n mb_113 6 L (r1.toList ++ st) M1 Q)) := wp_vir rfl rfl rfl rfl rfl
theorem u113_6 : wp scr n mb_113 6 [l0, l1, l2, l3, l4, l5, l6, l7, l8] (.int x :: st) M Q ↔ wp scr n mb_113 7 (mm_sto1 [l0, l1, l2, l3, l4, l5, l6, l7, l8] 3 (.int x)) st M Q := wp_step rfl rfl rfl rfl rfl
theorem u113_7 : wp scr n mb_113 7 [l0, l1, l2, some (.int x), l4, l5, l6, l7, l8] st M Q ↔ wp scr n mb_113 8 [l0, l1, l2, some (.int x), l4, l5, l6, l7, l8] (.int x :: st) M Q := wp_step rfl rfl rfl rfl rfl
theorem u113_8 : wp scr n mb_113 8 L (.int x :: st) M Q ↔ (if 0 ≤ x then wp scr n mb_113 17 L st M Q else wp scr n mb_113 11 L st M Q) := (wp_step rfl rfl rfl rfl rfl).trans wp_ite
theorem u113_11 : wp scr n mb_113 11 [some (.ref a), l1, l2, l3, l4, l5, l6, l7, l8] st M Q ↔ wp scr n mb_113 12 [some (.ref a), l1, l2, l3, l4, l5, l6, l7, l8] (.ref a :: st) M Q := wp_step rfl rfl rfl rfl rfl
theorem u113_12 : wp scr n mb_113 12 [l0, l1, l2, some (.int x), l4, l5, l6, l7, l8] st M Q ↔ wp scr n mb_113 13 [l0, l1, l2, some (.int x), l4, l5, l6, l7, l8] (.int x :: st) M Q := wp_step rfl rfl rfl rfl rfl
theorem u113_13 : wp scr n mb_113 13 L (a2 :: .ref a :: st) M Q ↔ ((mw_r M a 5 ∧ mw_st st) ∧ Wp scr n 84 [.ref a, a2] M (fun r1 M1 => wp scr n mb_113 16 L (r1.toList ++ st) M1 Q)) := wp_vir rfl rfl rfl rfl rfl
theorem u113_16 : wp scr n mb_113 16 L [.int x] M Q ↔ Q (some (.int x)) M := wp_ret rfl rfl
theorem u113_17 : wp scr n mb_113 17 [some (.ref a), l1, l2, l3, l4, l5, l6, l7, l8] st M Q ↔ wp scr n mb_113 18 [some (.ref a), l1, l2, l3, l4, l5, l6, l7, l8] (.ref a :: st) M Q := wp_step rfl rfl rfl rfl rfl
theorem u113_18 : wp scr n mb_113 18 L (o :: st) M Q ↔ mw_o (mm_fld (mc_X scr) M o 5 0) (fun v => wp scr n mb_113 21 L (v :: st) M Q) := wp_getf rfl
theorem u113_21 : wp scr n mb_113 21 [some (.ref a), l1, l2, l3, l4, l5, l6, l7, l8] st M Q ↔ wp scr n mb_113 22 [some (.ref a), l1, l2, l3, l4, l5, l6, l7, l8] (.ref a :: st) M Q := wp_step rfl rfl rfl rfl rfl
theorem u113_22 : wp scr n mb_113 22 L (o :: st) M Q ↔ mw_o (mm_fld (mc_X scr) M o 5 0) (fun v => wp scr n mb_113 25 L (v :: st) M Q) := wp_getf rfl
theorem u113_25 : wp scr n mb_113 25 L (o :: st) M Q ↔ mw_o (mm_fld (mc_X scr) M o 4 4) (fun v => wp scr n mb_113 28 L (v :: st) M Q) := wp_getf rfl
theorem u113_28 : wp scr n mb_113 28 [l0, some (.int x), l2, l3, l4, l5, l6, l7, l8] st M Q ↔ wp scr n mb_113 29 [l0, some (.int x), l2, l3, l4, l5, l6, l7, l8] (.int x :: st) M Q := wp_step rfl rfl rfl rfl rfl
theorem u113_29 : wp scr n mb_113 29 [l0, l1, some (.int x), l3, l4, l5, l6, l7, l8] st M Q ↔ wp scr n mb_113 30 [l0, l1, some (.int x), l3, l4, l5, l6, l7, l8] (.int x :: st) M Q := wp_step rfl rfl rfl rfl rfl
theorem u113_30 : wp scr n mb_113 30 L (a4 :: a3 :: a2 :: .ref a :: st) M Q ↔ ((mw_r M a 4 ∧ mw_st st) ∧ Wp scr n 71 [.ref a, a2, a3, a4] M (fun r1 M1 => wp scr n mb_113 33 L (r1.toList ++ st) M1 Q)) := wp_vir rfl rfl rfl rfl rfl
theorem u113_33 : wp scr n mb_113 33 L (.int x :: st) M Q ↔ wp scr n mb_113 34 L st M Q := wp_step rfl rfl rfl rfl rfl
theorem u113_34 : wp scr n mb_113 34 [some (.ref a), l1, l2, l3, l4, l5, l6, l7, l8] st M Q ↔ wp scr n mb_113 35 [some (.ref a), l1, l2, l3, l4, l5, l6, l7, l8] (.ref a :: st) M Q := wp_step rfl rfl rfl rfl rfl
theorem u113_35 : wp scr n mb_113 35 L (o :: st) M Q ↔ mw_o (mm_fld (mc_X scr) M o 5 0) (fun v => wp scr n mb_113 38 L (v :: st) M Q) := wp_getf rfl
theorem u113_38 : wp scr n mb_113 38 L (o :: st) M Q ↔ mw_o (mm_fld (mc_X scr) M o 4 0) (fun v => wp scr n mb_113 41 L (v :: st) M Q) := wp_getf rfl
theorem u113_41 : wp scr n mb_113 41 [some (.ref a), l1, l2, l3, l4, l5, l6, l7, l8] st M Q ↔ wp scr n mb_113 42 [some (.ref a), l1, l2, l3, l4, l5, l6, l7, l8] (.ref a :: st) M Q := wp_step rfl rfl rfl rfl rfl
theorem u113_42 : wp scr n mb_113 42 L (o :: st) M Q ↔ mw_o (mm_fld (mc_X scr) M o 5 0) (fun v => wp scr n mb_113 45 L (v :: st) M Q) := wp_getf rfl
theorem u113_45 : wp scr n mb_113 45 L (o :: st) M Q ↔ mw_o (mm_fld (mc_X scr) M o 4 4) (fun v => wp scr n mb_113 48 L (v :: st) M Q) := wp_getf rfl
theorem u113_48 : wp scr n mb_113 48 L st M Q ↔ wp scr n mb_113 49 L (.int 1 :: st) M Q := wp_step rfl rfl rfl rfl rfl
theorem u113_49 : wp scr n mb_113 49 L (.int y :: .int x :: st) M Q ↔ wp scr n mb_113 50 L (.int (x + y) :: st) M Q := wp_step rfl rfl rfl rfl rfl
theorem u113_50 : wp scr n mb_113 50 L (.int y :: .ref a :: st) M Q ↔ mw_o (mm_lda M a y) (fun v => wp scr n mb_113 51 L (v :: st) M Q) := wp_aald rfl
theorem u113_51 : wp scr n mb_113 51 [l0, l1, l2, l3, l4, l5, l6, l7, l8] (.ref a :: st) M Q ↔ wp scr n mb_113 53 (mm_sto1 [l0, l1, l2, l3, l4, l5, l6, l7, l8] 4 (.ref a)) st M Q := wp_step rfl rfl rfl rfl rfl
theorem u113_53 : wp scr n mb_113 53 [some (.ref a), l1, l2, l3, l4, l5, l6, l7, l8] st M Q ↔ wp scr n mb_113 54 [some (.ref a), l1, l2, l3, l4, l5, l6, l7, l8] (.ref a :: st) M Q := wp_step rfl rfl rfl rfl rfl
theorem u113_54 : wp scr n mb_113 54 L (o :: st) M Q ↔ mw_o (mm_fld (mc_X scr) M o 5 2) (fun v => wp scr n mb_113 57 L (v :: st) M Q) := wp_getf rfl
theorem u113_57 : wp scr n mb_113 57 [some (.ref a), l1, l2, l3, l4, l5, l6, l7, l8] st M Q ↔ wp scr n mb_113 58 [some (.ref a), l1, l2, l3, l4, l5, l6, l7, l8] (.ref a :: st) M Q := wp_step rfl rfl rfl rfl rfl
theorem u113_58 : wp scr n mb_113 58 L (o :: st) M Q ↔ mw_o (mm_fld (mc_X scr) M o 5 0) (fun v => wp scr n mb_113 61 L (v :: st) M Q) := wp_getf rfl
theorem u113_61 : wp scr n mb_113 61 L (a2 :: .ref a :: st) M Q ↔ ((mw_r M a 4 ∧ mw_st st) ∧ Wp scr n 68 [.ref a, a2] M (fun r1 M1 => wp scr n mb_113 64 L (r1.toList ++ st) M1 Q)) := wp_vir rfl rfl rfl rfl rfl
theorem u113_64 : wp scr n mb_113 64 [some (.ref a), l1, l2, l3, l4, l5, l6, l7, l8] st M Q ↔ wp scr n mb_113 65 [some (.ref a), l1, l2, l3, l4, l5, l6, l7, l8] (.ref a :: st) M Q := wp_step rfl rfl rfl rfl rfl
theorem u113_65 : wp scr n mb_113 65 L (o :: st) M Q ↔ mw_o (mm_fld (mc_X scr) M o 5 2) (fun v => wp scr n mb_113 68 L (v :: st) M Q) := wp_getf rfl
theorem u113_68 : wp scr n mb_113 68 [l0, l1, l2, l3, some (.ref a), l5, l6, l7, l8] st M Q ↔ wp scr n mb_113 70 [l0, l1, l2, l3, some (.ref a), l5, l6, l7, l8] (.ref a :: st) M Q := wp_step rfl rfl rfl rfl rfl
theorem u113_70 : wp scr n mb_113 70 L (a2 :: .ref a :: st) M Q ↔ ((mw_r M a 4 ∧ mw_st st) ∧ Wp scr n 78 [.ref a, a2] M (fun r1 M1 => wp scr n mb_113 73 L (r1.toList ++ st) M1 Q)) := wp_vir rfl rfl rfl rfl rfl
theorem u113_73 : wp scr n mb_113 73 [l0, l1, l2, l3, l4, l5, l6, l7, l8] (.int x :: st) M Q ↔ wp scr n mb_113 75 (mm_sto1 [l0, l1, l2, l3, l4, l5, l6, l7, l8] 5 (.int x)) st M Q := wp_step rfl rfl rfl rfl rfl
theorem u113_75 : wp scr n mb_113 75 L st M Q ↔ wp scr n mb_113 77 L (.int (-9) :: st) M Q := wp_step rfl rfl rfl rfl rfl
theorem u113_77 : wp scr n mb_113 77 [l0, l1, l2, l3, l4, l5, l6, l7, l8] (.int x :: st) M Q ↔ wp scr n mb_113 79 (mm_sto1 [l0, l1, l2, l3, l4, l5, l6, l7, l8] 6 (.int x)) st M Q := wp_step rfl rfl rfl rfl rfl
theorem u113_79 : wp scr n mb_113 79 L st M Q ↔ wp scr n mb_113 80 L (.int 0 :: st) M Q := wp_step rfl rfl rfl rfl rfl
theorem u113_80 : wp scr n mb_113 80 [l0, l1, l2, l3, l4, l5, l6, l7, l8] (.int x :: st) M Q ↔ wp scr n mb_113 82 (mm_sto1 [l0, l1, l2, l3, l4, l5, l6, l7, l8] 7 (.int x)) st M Q := wp_step rfl rfl rfl rfl rfl
theorem u113_82 : wp scr n mb_113 82 [l0, l1, l2, l3, l4, l5, l6, some (.int x), l8] st M Q ↔ wp scr n mb_113 84 [l0, l1, l2, l3, l4, l5, l6, some (.int x), l8] (.int x :: st) M Q := wp_step rfl rfl rfl rfl rfl
theorem u113_84 : wp scr n mb_113 84 L st M Q ↔ wp scr n mb_113 86 L (.int 10 :: st) M Q := wp_step rfl rfl rfl rfl rfl
theorem u113_86 : wp scr n mb_113 86 L (.int y :: .int x :: st) M Q ↔ (if y ≤ x then wp scr n mb_113 143 L st M Q else wp scr n mb_113 89 L st M Q) := (wp_step rfl rfl rfl rfl rfl).trans wp_ite
theorem u113_89 : wp scr n mb_113 89 [some (.ref a), l1, l2, l3, l4, l5, l6, l7, l8] st M Q ↔ wp scr n mb_113 90 [some (.ref a), l1, l2, l3, l4, l5, l6, l7, l8] (.ref a :: st) M Q := wp_step rfl rfl rfl rfl rfl
theorem u113_90 : wp scr n mb_113 90 L (o :: st) M Q ↔ mw_o (mm_fld (mc_X scr) M o 5 2) (fun v => wp scr n mb_113 93 L (v :: st) M Q) := wp_getf rfl
theorem u113_93 : wp scr n mb_113 93 [some (.ref a), l1, l2, l3, l4, l5, l6, l7, l8] st M Q ↔ wp scr n mb_113 94 [some (.ref a), l1, l2, l3, l4, l5, l6, l7, l8] (.ref a :: st) M Q := wp_step rfl rfl rfl rfl rfl
theorem u113_94 : wp scr n mb_113 94 L (o :: st) M Q ↔ mw_o (mm_fld (mc_X scr) M o 5 0) (fun v => wp scr n mb_113 97 L (v :: st) M Q) := wp_getf rfl
theorem u113_97 : wp scr n mb_113 97 L (a2 :: .ref a :: st) M Q ↔ ((mw_r M a 4 ∧ mw_st st) ∧ Wp scr n 68 [.ref a, a2] M (fun r1 M1 => wp scr n mb_113 100 L (r1.toList ++ st) M1 Q)) := wp_vir rfl rfl rfl rfl rfl
theorem u113_100 : wp scr n mb_113 100 [some (.ref a), l1, l2, l3, l4, l5, l6, l7, l8] st M Q ↔ wp scr n mb_113 101 [some (.ref a), l1, l2, l3, l4, l5, l6, l7, l8] (.ref a :: st) M Q := wp_step rfl rfl rfl rfl rfl
theorem u113_101 : wp scr n mb_113 101 L (o :: st) M Q ↔ mw_o (mm_fld (mc_X scr) M o 5 2) (fun v => wp scr n mb_113 104 L (v :: st) M Q) := wp_getf rfl
theorem u113_104 : wp scr n mb_113 104 L (o :: st) M Q ↔ mw_o (mm_fld (mc_X scr) M o 4 1) (fun v => wp scr n mb_113 107 L (v :: st) M Q) := wp_getf rfl
theorem u113_107 : wp scr n mb_113 107 [l0, l1, l2, l3, l4, l5, l6, some (.int x), l8] st M Q ↔ wp scr n mb_113 109 [l0, l1, l2, l3, l4, l5, l6, some (.int x), l8] (.int x :: st) M Q := wp_step rfl rfl rfl rfl rfl
theorem u113_109 : wp scr n mb_113 109 L st M Q ↔ wp scr n mb_113 110 L (.int 4 :: st) M Q := wp_step rfl rfl rfl rfl rfl
theorem u113_110 : wp scr n mb_113 110 L (.int x :: .int y :: o :: st) M Q ↔ mw_o (mm_sti M o y x) (fun M1 => wp scr n mb_113 111 L st M1 Q) := wp_iast rfl
theorem u113_111 : wp scr n mb_113 111 [some (.ref a), l1, l2, l3, l4, l5, l6, l7, l8] st M Q ↔ wp scr n mb_113 112 [some (.ref a), l1, l2, l3, l4, l5, l6, l7, l8] (.ref a :: st) M Q := wp_step rfl rfl rfl rfl rfl
theorem u113_112 : wp scr n mb_113 112 L (o :: st) M Q ↔ mw_o (mm_fld (mc_X scr) M o 5 2) (fun v => wp scr n mb_113 115 L (v :: st) M Q) := wp_getf rfl
theorem u113_115 : wp scr n mb_113 115 [l0, l1, l2, l3, some (.ref a), l5, l6, l7, l8] st M Q ↔ wp scr n mb_113 117 [l0, l1, l2, l3, some (.ref a), l5, l6, l7, l8] (.ref a :: st) M Q := wp_step rfl rfl rfl rfl rfl
theorem u113_117 : wp scr n mb_113 117 L (a2 :: .ref a :: st) M Q ↔ ((mw_r M a 4 ∧ mw_st st) ∧ Wp scr n 78 [.ref a, a2] M (fun r1 M1 => wp scr n mb_113 120 L (r1.toList ++ st) M1 Q)) := wp_vir rfl rfl rfl rfl rfl
theorem u113_120 : wp scr n mb_113 120 [l0, l1, l2, l3, l4, l5, l6, l7, l8] (.int x :: st) M Q ↔ wp scr n mb_113 122 (mm_sto1 [l0, l1, l2, l3, l4, l5, l6, l7, l8] 8 (.int x)) st M Q := wp_step rfl rfl rfl rfl rfl
theorem u113_122 : wp scr n mb_113 122 [l0, l1, l2, l3, l4, l5, l6, l7, some (.int x)] st M Q ↔ wp scr n mb_113 124 [l0, l1, l2, l3, l4, l5, l6, l7, some (.int x)] (.int x :: st) M Q := wp_step rfl rfl rfl rfl rfl
theorem u113_124 : wp scr n mb_113 124 [l0, l1, l2, l3, l4, some (.int x), l6, l7, l8] st M Q ↔ wp scr n mb_113 126 [l0, l1, l2, l3, l4, some (.int x), l6, l7, l8] (.int x :: st) M Q := wp_step rfl rfl rfl rfl rfl
theorem u113_126 : wp scr n mb_113 126 L (.int y :: .int x :: st) M Q ↔ (if x ≤ y then wp scr n mb_113 137 L st M Q else wp scr n mb_113 129 L st M Q) := (wp_step rfl rfl rfl rfl rfl).trans wp_ite
theorem u113_129 : wp scr n mb_113 129 [l0, l1, l2, l3, l4, l5, l6, l7, some (.int x)] st M Q ↔ wp scr n mb_113 131 [l0, l1, l2, l3, l4, l5, l6, l7, some (.int x)] (.int x :: st) M Q := wp_step rfl rfl rfl rfl rfl
theorem u113_131 : wp scr n mb_113 131 [l0, l1, l2, l3, l4, l5, l6, l7, l8] (.int x :: st) M Q ↔ wp scr n mb_113 133 (mm_sto1 [l0, l1, l2, l3, l4, l5, l6, l7, l8] 5 (.int x)) st M Q := wp_step rfl rfl rfl rfl rfl
theorem u113_133 : wp scr n mb_113 133 [l0, l1, l2, l3, l4, l5, l6, some (.int x), l8] st M Q ↔ wp scr n mb_113 135 [l0, l1, l2, l3, l4, l5, l6, some (.int x), l8] (.int x :: st) M Q := wp_step rfl rfl rfl rfl rfl
theorem u113_135 : wp scr n mb_113 135 [l0, l1, l2, l3, l4, l5, l6, l7, l8] (.int x :: st) M Q ↔ wp scr n mb_113 137 (mm_sto1 [l0, l1, l2, l3, l4, l5, l6, l7, l8] 6 (.int x)) st M Q := wp_step rfl rfl rfl rfl rfl
theorem u113_137 : wp scr n mb_113 137 [l0, l1, l2, l3, l4, l5, l6, some (.int x), l8] st M Q ↔ wp scr n mb_113 140 (mm_sto1 [l0, l1, l2, l3, l4, l5, l6, some (.int x), l8] 7 (.int (x + 1))) st M Q := wp_step rfl rfl rfl rfl rfl
theorem u113_140 : wp scr n mb_113 140 L st M Q ↔ wp scr n mb_113 82 L st M Q := wp_step rfl rfl rfl rfl rfl
theorem u113_143 : wp scr n mb_113 143 [l0, l1, l2, l3, l4, l5, some (.int x), l7, l8] st M Q ↔ wp scr n mb_113 145 [l0, l1, l2, l3, l4, l5, some (.int x), l7, l8] (.int x :: st) M Q := wp_step rfl rfl rfl rfl rfl
theorem u113_145 : wp scr n mb_113 145 L [.int x] M Q ↔ Q (some (.int x)) M := wp_ret rfl rfl
theorem e113 : Wp scr (n + 1) 113 [.ref a0, .int x1, .int x2] M Q ↔ wp scr n mb_113 0 [some (.ref a0), some (.int x1), some (.int x2), none, none, none, none, none, none] [] M Q := Wp_to rfl rfl rfl
/-- SmallerInTheShop first (IIII)I -/
def mb_114 : mw_B := ((Option.some FieldType.int), mp_114)
theorem u114_0 : wp scr n mb_114 0 [l0, some (.int x), l2, l3, l4, l5, l6] st M Q ↔ wp scr n mb_114 1 [l0, some (.int x), l2, l3, l4, l5, l6] (.int x :: st) M Q := wp_step rfl rfl rfl rfl rfl
theorem u114_1 : wp scr n mb_114 1 L (a1 :: st) M Q ↔ (mw_st st ∧ Wp scr n 115 [a1] M (fun r1 M1 => wp scr n mb_114 4 L (r1.toList ++ st) M1 Q)) := wp_sta rfl rfl rfl rfl
theorem u114_4 : wp scr n mb_114 4 L (.int x :: st) M Q ↔ (if x = 0 then wp scr n mb_114 14 L st M Q else wp scr n mb_114 7 L st M Q) := (wp_step rfl rfl rfl rfl rfl).trans wp_ite
theorem u114_7 : wp scr n mb_114 7 [l0, l1, l2, some (.int x), l4, l5, l6] st M Q ↔ wp scr n mb_114 8 [l0, l1, l2, some (.int x), l4, l5, l6] (.int x :: st) M Q := wp_step rfl rfl rfl rfl rfl
theorem u114_8 : wp scr n mb_114 8 L (a1 :: st) M Q ↔ (mw_st st ∧ Wp scr n 115 [a1] M (fun r1 M1 => wp scr n mb_114 11 L (r1.toList ++ st) M1 Q)) := wp_sta rfl rfl rfl rfl
theorem u114_11 : wp scr n mb_114 11 L (.int x :: st) M Q ↔ (if x = 0 then wp scr n mb_114 14 L st M Q else wp scr n mb_114 20 L st M Q) := (wp_step rfl rfl rfl rfl rfl).trans wp_iten
theorem u114_14 : wp scr n mb_114 14 [some (.ref a), l1, l2, l3, l4, l5, l6] st M Q ↔ wp scr n mb_114 15 [some (.ref a), l1, l2, l3, l4, l5, l6] (.ref a :: st) M Q := wp_step rfl rfl rfl rfl rfl
theorem u114_15 : wp scr n mb_114 15 L st M Q ↔ wp scr n mb_114 16 L (.int (-1) :: st) M Q := wp_step rfl rfl rfl rfl rfl
theorem u114_16 : wp scr n mb_114 16 L (a2 :: .ref a :: st) M Q ↔ ((mw_r M a 5 ∧ mw_st st) ∧ Wp scr n 84 [.ref a, a2] M (fun r1 M1 => wp scr n mb_114 19 L (r1.toList ++ st) M1 Q)) := wp_vir rfl rfl rfl rfl rfl
theorem u114_19 : wp scr n mb_114 19 L [.int x] M Q ↔ Q (some (.int x)) M := wp_ret rfl rfl
theorem u114_20 : wp scr n mb_114 20 [l0, l1, some (.int x), l3, l4, l5, l6] st M Q ↔ wp scr n mb_114 21 [l0, l1, some (.int x), l3, l4, l5, l6] (.int x :: st) M Q := wp_step rfl rfl rfl rfl rfl
theorem u114_21 : wp scr n mb_114 21 L st M Q ↔ wp scr n mb_114 22 L (.int 4 :: st) M Q := wp_step rfl rfl rfl rfl rfl
theorem u114_22 : wp scr n mb_114 22 L (a2 :: a1 :: st) M Q ↔ (mw_st st ∧ Wp scr n 89 [a1, a2] M (fun r1 M1 => wp scr n mb_114 25 L (r1.toList ++ st) M1 Q)) := wp_sta rfl rfl rfl rfl
theorem u114_25 : wp scr n mb_114 25 L (.int x :: st) M Q ↔ (if x = 0 then wp scr n mb_114 37 L st M Q else wp scr n mb_114 28 L st M Q) := (wp_step rfl rfl rfl rfl rfl).trans wp_ite
theorem u114_28 : wp scr n mb_114 28 [l0, l1, l2, l3, some (.int x), l5, l6] st M Q ↔ wp scr n mb_114 30 [l0, l1, l2, l3, some (.int x), l5, l6] (.int x :: st) M Q := wp_step rfl rfl rfl rfl rfl
theorem u114_30 : wp scr n mb_114 30 L st M Q ↔ wp scr n mb_114 31 L (.int 4 :: st) M Q := wp_step rfl rfl rfl rfl rfl
theorem u114_31 : wp scr n mb_114 31 L (a2 :: a1 :: st) M Q ↔ (mw_st st ∧ Wp scr n 89 [a1, a2] M (fun r1 M1 => wp scr n mb_114 34 L (r1.toList ++ st) M1 Q)) := wp_sta rfl rfl rfl rfl
theorem u114_34 : wp scr n mb_114 34 L (.int x :: st) M Q ↔ (if x = 0 then wp scr n mb_114 37 L st M Q else wp scr n mb_114 44 L st M Q) := (wp_step rfl rfl rfl rfl rfl).trans wp_iten
theorem u114_37 : wp scr n mb_114 37 [some (.ref a), l1, l2, l3, l4, l5, l6] st M Q ↔ wp scr n mb_114 38 [some (.ref a), l1, l2, l3, l4, l5, l6] (.ref a :: st) M Q := wp_step rfl rfl rfl rfl rfl
theorem u114_38 : wp scr n mb_114 38 L st M Q ↔ wp scr n mb_114 40 L (.int (-2) :: st) M Q := wp_step rfl rfl rfl rfl rfl
theorem u114_40 : wp scr n mb_114 40 L (a2 :: .ref a :: st) M Q ↔ ((mw_r M a 5 ∧ mw_st st) ∧ Wp scr n 84 [.ref a, a2] M (fun r1 M1 => wp scr n mb_114 43 L (r1.toList ++ st) M1 Q)) := wp_vir rfl rfl rfl rfl rfl
theorem u114_43 : wp scr n mb_114 43 L [.int x] M Q ↔ Q (some (.int x)) M := wp_ret rfl rfl
theorem u114_44 : wp scr n mb_114 44 [some (.ref a), l1, l2, l3, l4, l5, l6] st M Q ↔ wp scr n mb_114 45 [some (.ref a), l1, l2, l3, l4, l5, l6] (.ref a :: st) M Q := wp_step rfl rfl rfl rfl rfl
theorem u114_45 : wp scr n mb_114 45 [l0, some (.int x), l2, l3, l4, l5, l6] st M Q ↔ wp scr n mb_114 46 [l0, some (.int x), l2, l3, l4, l5, l6] (.int x :: st) M Q := wp_step rfl rfl rfl rfl rfl
theorem u114_46 : wp scr n mb_114 46 [l0, l1, some (.int x), l3, l4, l5, l6] st M Q ↔ wp scr n mb_114 47 [l0, l1, some (.int x), l3, l4, l5, l6] (.int x :: st) M Q := wp_step rfl rfl rfl rfl rfl
theorem u114_47 : wp scr n mb_114 47 [l0, l1, l2, some (.int x), l4, l5, l6] st M Q ↔ wp scr n mb_114 48 [l0, l1, l2, some (.int x), l4, l5, l6] (.int x :: st) M Q := wp_step rfl rfl rfl rfl rfl
theorem u114_48 : wp scr n mb_114 48 [l0, l1, l2, l3, some (.int x), l5, l6] st M Q ↔ wp scr n mb_114 50 [l0, l1, l2, l3, some (.int x), l5, l6] (.int x :: st) M Q := wp_step rfl rfl rfl rfl rfl
theorem u114_50 : wp scr n mb_114 50 L (a5 :: a4 :: a3 :: a2 :: .ref a :: st) M Q ↔ ((mw_r M a 5 ∧ mw_st st) ∧ Wp scr n 116 [.ref a, a2, a3, a4, a5] M (fun r1 M1 => wp scr n mb_114 53 L (r1.toList ++ st) M1 Q)) := wp_vir rfl rfl rfl rfl rfl
theorem u114_53 : wp scr n mb_114 53 [l0, l1, l2, l3, l4, l5, l6] (.int x :: st) M Q ↔ wp scr n mb_114 55 (mm_sto1 [l0, l1, l2, l3, l4, l5, l6] 5 (.int x)) st M Q := wp_step rfl rfl rfl rfl rfl
theorem u114_55 : wp scr n mb_114 55 [some (.ref a), l1, l2, l3, l4, l5, l6] st M Q ↔ wp scr n mb_114 56 [some (.ref a), l1, l2, l3, l4, l5, l6] (.ref a :: st) M Q := wp_step rfl rfl rfl rfl rfl
theorem u114_56 : wp scr n mb_114 56 [l0, l1, l2, some (.int x), l4, l5, l6] st M Q ↔ wp scr n mb_114 57 [l0, l1, l2, some (.int x), l4, l5, l6] (.int x :: st) M Q := wp_step rfl rfl rfl rfl rfl
theorem u114_57 : wp scr n mb_114 57 [l0, l1, l2, l3, some (.int x), l5, l6] st M Q ↔ wp scr n mb_114 59 [l0, l1, l2, l3, some (.int x), l5, l6] (.int x :: st) M Q := wp_step rfl rfl rfl rfl rfl
theorem u114_59 : wp scr n mb_114 59 [l0, some (.int x), l2, l3, l4, l5, l6] st M Q ↔ wp scr n mb_114 60 [l0, some (.int x), l2, l3, l4, l5, l6] (.int x :: st) M Q := wp_step rfl rfl rfl rfl rfl
theorem u114_60 : wp scr n mb_114 60 [l0, l1, some (.int x), l3, l4, l5, l6] st M Q ↔ wp scr n mb_114 61 [l0, l1, some (.int x), l3, l4, l5, l6] (.int x :: st) M Q := wp_step rfl rfl rfl rfl rfl
theorem u114_61 : wp scr n mb_114 61 L (a5 :: a4 :: a3 :: a2 :: .ref a :: st) M Q ↔ ((mw_r M a 5 ∧ mw_st st) ∧ Wp scr n 116 [.ref a, a2, a3, a4, a5] M (fun r1 M1 => wp scr n mb_114 64 L (r1.toList ++ st) M1 Q)) := wp_vir rfl rfl rfl rfl rfl
theorem u114_64 : wp scr n mb_114 64 [l0, l1, l2, l3, l4, l5, l6] (.int x :: st) M Q ↔ wp scr n mb_114 66 (mm_sto1 [l0, l1, l2, l3, l4, l5, l6] 6 (.int x)) st M Q := wp_step rfl rfl rfl rfl rfl
theorem u114_66 : wp scr n mb_114 66 [l0, l1, l2, l3, l4, some (.int x), l6] st M Q ↔ wp scr n mb_114 68 [l0, l1, l2, l3, l4, some (.int x), l6] (.int x :: st) M Q := wp_step rfl rfl rfl rfl rfl
theorem u114_68 : wp scr n mb_114 68 [l0, l1, l2, l3, l4, l5, some (.int x)] st M Q ↔ wp scr n mb_114 70 [l0, l1, l2, l3, l4, l5, some (.int x)] (.int x :: st) M Q := wp_step rfl rfl rfl rfl rfl
theorem u114_70 : wp scr n mb_114 70 L (.int y :: .int x :: st) M Q ↔ (if x = y then wp scr n mb_114 73 L st M Q else wp scr n mb_114 76 L st M Q) := (wp_step rfl rfl rfl rfl rfl).trans wp_iten
theorem u114_73 : wp scr n mb_114 73 L st M Q ↔ wp scr n mb_114 75 L (.int (-9) :: st) M Q := wp_step rfl rfl rfl rfl rfl
theorem u114_75 : wp scr n mb_114 75 L [.int x] M Q ↔ Q (some (.int x)) M := wp_ret rfl rfl
theorem u114_76 : wp scr n mb_114 76 [l0, l1, l2, l3, l4, some (.int x), l6] st M Q ↔ wp scr n mb_114 78 [l0, l1, l2, l3, l4, some (.int x), l6] (.int x :: st) M Q := wp_step rfl rfl rfl rfl rfl
theorem u114_78 : wp scr n mb_114 78 L (.int x :: st) M Q ↔ (if 0 ≤ x then wp scr n mb_114 83 L st M Q else wp scr n mb_114 81 L st M Q) := (wp_step rfl rfl rfl rfl rfl).trans wp_ite
theorem u114_81 : wp scr n mb_114 81 L st M Q ↔ wp scr n mb_114 82 L (.int 1 :: st) M Q := wp_step rfl rfl rfl rfl rfl
theorem u114_82 : wp scr n mb_114 82 L [.int x] M Q ↔ Q (some (.int x)) M := wp_ret rfl rfl
theorem u114_83 : wp scr n mb_114 83 [l0, l1, l2, l3, l4, l5, some (.int x)] st M Q ↔ wp scr n mb_114 85 [l0, l1, l2, l3, l4, l5, some (.int x)] (.int x :: st) M Q := wp_step rfl rfl rfl rfl rfl
theorem u114_85 : wp scr n mb_114 85 L (.int x :: st) M Q ↔ (if x < 0 then wp scr n mb_114 95 L st M Q else wp scr n mb_114 88 L st M Q) := (wp_step rfl rfl rfl rfl rfl).trans wp_ite
theorem u114_88 : wp scr n mb_114 88 [l0, l1, l2, l3, l4, some (.int x), l6] st M Q ↔ wp scr n mb_114 90 [l0, l1, l2, l3, l4, some (.int x), l6] (.int x :: st) M Q := wp_step rfl rfl rfl rfl rfl
theorem u114_90 : wp scr n mb_114 90 [l0, l1, l2, l3, l4, l5, some (.int x)] st M Q ↔ wp scr n mb_114 92 [l0, l1, l2, l3, l4, l5, some (.int x)] (.int x :: st) M Q := wp_step rfl rfl rfl rfl rfl
theorem u114_92 : wp scr n mb_114 92 L (.int y :: .int x :: st) M Q ↔ (if y ≤ x then wp scr n mb_114 99 L st M Q else wp scr n mb_114 95 L st M Q) := (wp_step rfl rfl rfl rfl rfl).trans wp_ite
theorem u114_95 : wp scr n mb_114 95 L st M Q ↔ wp scr n mb_114 96 L (.int 0 :: st) M Q := wp_step rfl rfl rfl rfl rfl
theorem u114_96 : wp scr n mb_114 96 L st M Q ↔ wp scr n mb_114 100 L st M Q := wp_step rfl rfl rfl rfl rfl
theorem u114_99 : wp scr n mb_114 99 L st M Q ↔ wp scr n mb_114 100 L (.int 1 :: st) M Q := wp_step rfl rfl rfl rfl rfl
theorem u114_100 : wp scr n mb_114 100 L [.int x] M Q ↔ Q (some (.int x)) M := wp_ret rfl rfl
theorem e114 : Wp scr (n + 1) 114 [.ref a0, .int x1, .int x2, .int x3, .int x4] M Q ↔ wp scr n mb_114 0 [some (.ref a0), some (.int x1), some (.int x2), some (.int x3), some (.int x4), none, none] [] M Q := Wp_to rfl rfl rfl
/-- SmallerInTheShop isLine (I)Z -/
def mb_115 : mw_B := ((Option.some FieldType.boolean), mp_115)
theorem u115_0 : wp scr n mb_115 0 [some (.int x)] st M Q ↔ wp scr n mb_115 1 [some (.int x)] (.int x :: st) M Q := wp_step rfl rfl rfl rfl rfl
theorem u115_1 : wp scr n mb_115 1 L st M Q ↔ wp scr n mb_115 2 L (.int 1 :: st) M Q := wp_step rfl rfl rfl rfl rfl
theorem u115_2 : wp scr n mb_115 2 L (.int y :: .int x :: st) M Q ↔ (if x < y then wp scr n mb_115 14 L st M Q else wp scr n mb_115 5 L st M Q) := (wp_step rfl rfl rfl rfl rfl).trans wp_ite
theorem u115_5 : wp scr n mb_115 5 [some (.int x)] st M Q ↔ wp scr n mb_115 6 [some (.int x)] (.int x :: st) M Q := wp_step rfl rfl rfl rfl rfl
theorem u115_6 : wp scr n mb_115 6 L st M Q ↔ wp scr n mb_115 7 L (.int 4 :: st) M Q := wp_step rfl rfl rfl rfl rfl
theorem u115_7 : wp scr n mb_115 7 L (.int y :: .int x :: st) M Q ↔ (if y < x then wp scr n mb_115 14 L st M Q else wp scr n mb_115 10 L st M Q) := (wp_step rfl rfl rfl rfl rfl).trans wp_ite
theorem u115_10 : wp scr n mb_115 10 L st M Q ↔ wp scr n mb_115 11 L (.int 1 :: st) M Q := wp_step rfl rfl rfl rfl rfl
theorem u115_11 : wp scr n mb_115 11 L st M Q ↔ wp scr n mb_115 15 L st M Q := wp_step rfl rfl rfl rfl rfl
theorem u115_14 : wp scr n mb_115 14 L st M Q ↔ wp scr n mb_115 15 L (.int 0 :: st) M Q := wp_step rfl rfl rfl rfl rfl
theorem u115_15 : wp scr n mb_115 15 L [.int x] M Q ↔ ((x = 0 ∨ x = 1) ∧ Q (some (.int x)) M) := wp_retb rfl rfl
theorem e115 : Wp scr (n + 1) 115 [.int x1] M Q ↔ wp scr n mb_115 0 [some (.int x1)] [] M Q := Wp_to rfl rfl rfl
/-- SmallerInTheShop effortOfTwo (IIII)I -/
def mb_116 : mw_B := ((Option.some FieldType.int), mp_116)
theorem u116_0 : wp scr n mb_116 0 [some (.ref a), l1, l2, l3, l4, l5, l6] st M Q ↔ wp scr n mb_116 1 [some (.ref a), l1, l2, l3, l4, l5, l6] (.ref a :: st) M Q := wp_step rfl rfl rfl rfl rfl
theorem u116_1 : wp scr n mb_116 1 L (o :: st) M Q ↔ mw_o (mm_fld (mc_X scr) M o 5 0) (fun v => wp scr n mb_116 4 L (v :: st) M Q) := wp_getf rfl
theorem u116_4 : wp scr n mb_116 4 L (o :: st) M Q ↔ mw_o (mm_fld (mc_X scr) M o 4 4) (fun v => wp scr n mb_116 7 L (v :: st) M Q) := wp_getf rfl
theorem u116_7 : wp scr n mb_116 7 [l0, l1, l2, l3, l4, l5, l6] (.int x :: st) M Q ↔ wp scr n mb_116 9 (mm_sto1 [l0, l1, l2, l3, l4, l5, l6] 5 (.int x)) st M Q := wp_step rfl rfl rfl rfl rfl
theorem u116_9 : wp scr n mb_116 9 [some (.ref a), l1, l2, l3, l4, l5, l6] st M Q ↔ wp scr n mb_116 10 [some (.ref a), l1, l2, l3, l4, l5, l6] (.ref a :: st) M Q := wp_step rfl rfl rfl rfl rfl
theorem u116_10 : wp scr n mb_116 10 L (o :: st) M Q ↔ mw_o (mm_fld (mc_X scr) M o 5 0) (fun v => wp scr n mb_116 13 L (v :: st) M Q) := wp_getf rfl
theorem u116_13 : wp scr n mb_116 13 [l0, l1, l2, l3, l4, some (.int x), l6] st M Q ↔ wp scr n mb_116 15 [l0, l1, l2, l3, l4, some (.int x), l6] (.int x :: st) M Q := wp_step rfl rfl rfl rfl rfl
theorem u116_15 : wp scr n mb_116 15 [l0, some (.int x), l2, l3, l4, l5, l6] st M Q ↔ wp scr n mb_116 16 [l0, some (.int x), l2, l3, l4, l5, l6] (.int x :: st) M Q := wp_step rfl rfl rfl rfl rfl
theorem u116_16 : wp scr n mb_116 16 L (a3 :: a2 :: .ref a :: st) M Q ↔ ((mw_r M a 4 ∧ mw_st st) ∧ Wp scr n 69 [.ref a, a2, a3] M (fun r1 M1 => wp scr n mb_116 19 L (r1.toList ++ st) M1 Q)) := wp_vir rfl rfl rfl rfl rfl
theorem u116_19 : wp scr n mb_116 19 L (.int x :: st) M Q ↔ (if x = 0 then wp scr n mb_116 22 L st M Q else wp scr n mb_116 24 L st M Q) := (wp_step rfl rfl rfl rfl rfl).trans wp_iten
theorem u116_22 : wp scr n mb_116 22 L st M Q ↔ wp scr n mb_116 23 L (.int (-1) :: st) M Q := wp_step rfl rfl rfl rfl rfl
theorem u116_23 : wp scr n mb_116 23 L [.int x] M Q ↔ Q (some (.int x)) M := wp_ret rfl rfl
theorem u116_24 : wp scr n mb_116 24 [some (.ref a), l1, l2, l3, l4, l5, l6] st M Q ↔ wp scr n mb_116 25 [some (.ref a), l1, l2, l3, l4, l5, l6] (.ref a :: st) M Q := wp_step rfl rfl rfl rfl rfl
theorem u116_25 : wp scr n mb_116 25 L (o :: st) M Q ↔ mw_o (mm_fld (mc_X scr) M o 5 0) (fun v => wp scr n mb_116 28 L (v :: st) M Q) := wp_getf rfl
theorem u116_28 : wp scr n mb_116 28 [l0, l1, l2, l3, l4, some (.int x), l6] st M Q ↔ wp scr n mb_116 30 [l0, l1, l2, l3, l4, some (.int x), l6] (.int x :: st) M Q := wp_step rfl rfl rfl rfl rfl
theorem u116_30 : wp scr n mb_116 30 [l0, some (.int x), l2, l3, l4, l5, l6] st M Q ↔ wp scr n mb_116 31 [l0, some (.int x), l2, l3, l4, l5, l6] (.int x :: st) M Q := wp_step rfl rfl rfl rfl rfl
theorem u116_31 : wp scr n mb_116 31 [l0, l1, some (.int x), l3, l4, l5, l6] st M Q ↔ wp scr n mb_116 32 [l0, l1, some (.int x), l3, l4, l5, l6] (.int x :: st) M Q := wp_step rfl rfl rfl rfl rfl
theorem u116_32 : wp scr n mb_116 32 L (a4 :: a3 :: a2 :: .ref a :: st) M Q ↔ ((mw_r M a 4 ∧ mw_st st) ∧ Wp scr n 71 [.ref a, a2, a3, a4] M (fun r1 M1 => wp scr n mb_116 35 L (r1.toList ++ st) M1 Q)) := wp_vir rfl rfl rfl rfl rfl
theorem u116_35 : wp scr n mb_116 35 [l0, l1, l2, l3, l4, l5, l6] (.int x :: st) M Q ↔ wp scr n mb_116 37 (mm_sto1 [l0, l1, l2, l3, l4, l5, l6] 6 (.int x)) st M Q := wp_step rfl rfl rfl rfl rfl
theorem u116_37 : wp scr n mb_116 37 [some (.ref a), l1, l2, l3, l4, l5, l6] st M Q ↔ wp scr n mb_116 38 [some (.ref a), l1, l2, l3, l4, l5, l6] (.ref a :: st) M Q := wp_step rfl rfl rfl rfl rfl
theorem u116_38 : wp scr n mb_116 38 L (o :: st) M Q ↔ mw_o (mm_fld (mc_X scr) M o 5 0) (fun v => wp scr n mb_116 41 L (v :: st) M Q) := wp_getf rfl
theorem u116_41 : wp scr n mb_116 41 [l0, l1, l2, l3, l4, some (.int x), l6] st M Q ↔ wp scr n mb_116 43 [l0, l1, l2, l3, l4, some (.int x), l6] (.int x :: st) M Q := wp_step rfl rfl rfl rfl rfl
theorem u116_43 : wp scr n mb_116 43 L st M Q ↔ wp scr n mb_116 44 L (.int 1 :: st) M Q := wp_step rfl rfl rfl rfl rfl
theorem u116_44 : wp scr n mb_116 44 L (.int y :: .int x :: st) M Q ↔ wp scr n mb_116 45 L (.int (x + y) :: st) M Q := wp_step rfl rfl rfl rfl rfl
theorem u116_45 : wp scr n mb_116 45 [l0, l1, l2, some (.int x), l4, l5, l6] st M Q ↔ wp scr n mb_116 46 [l0, l1, l2, some (.int x), l4, l5, l6] (.int x :: st) M Q := wp_step rfl rfl rfl rfl rfl
theorem u116_46 : wp scr n mb_116 46 L (a3 :: a2 :: .ref a :: st) M Q ↔ ((mw_r M a 4 ∧ mw_st st) ∧ Wp scr n 69 [.ref a, a2, a3] M (fun r1 M1 => wp scr n mb_116 49 L (r1.toList ++ st) M1 Q)) := wp_vir rfl rfl rfl rfl rfl
theorem u116_49 : wp scr n mb_116 49 L (.int x :: st) M Q ↔ (if x = 0 then wp scr n mb_116 52 L st M Q else wp scr n mb_116 54 L st M Q) := (wp_step rfl rfl rfl rfl rfl).trans wp_iten
theorem u116_52 : wp scr n mb_116 52 L st M Q ↔ wp scr n mb_116 53 L (.int (-1) :: st) M Q := wp_step rfl rfl rfl rfl rfl
theorem u116_53 : wp scr n mb_116 53 L [.int x] M Q ↔ Q (some (.int x)) M := wp_ret rfl rfl
theorem u116_54 : wp scr n mb_116 54 [l0, l1, l2, l3, l4, l5, some (.int x)] st M Q ↔ wp scr n mb_116 56 [l0, l1, l2, l3, l4, l5, some (.int x)] (.int x :: st) M Q := wp_step rfl rfl rfl rfl rfl
theorem u116_56 : wp scr n mb_116 56 [some (.ref a), l1, l2, l3, l4, l5, l6] st M Q ↔ wp scr n mb_116 57 [some (.ref a), l1, l2, l3, l4, l5, l6] (.ref a :: st) M Q := wp_step rfl rfl rfl rfl rfl
theorem u116_57 : wp scr n mb_116 57 L (o :: st) M Q ↔ mw_o (mm_fld (mc_X scr) M o 5 0) (fun v => wp scr n mb_116 60 L (v :: st) M Q) := wp_getf rfl
theorem u116_60 : wp scr n mb_116 60 [l0, l1, l2, l3, l4, some (.int x), l6] st M Q ↔ wp scr n mb_116 62 [l0, l1, l2, l3, l4, some (.int x), l6] (.int x :: st) M Q := wp_step rfl rfl rfl rfl rfl
theorem u116_62 : wp scr n mb_116 62 L st M Q ↔ wp scr n mb_116 63 L (.int 1 :: st) M Q := wp_step rfl rfl rfl rfl rfl
theorem u116_63 : wp scr n mb_116 63 L (.int y :: .int x :: st) M Q ↔ wp scr n mb_116 64 L (.int (x + y) :: st) M Q := wp_step rfl rfl rfl rfl rfl
theorem u116_64 : wp scr n mb_116 64 [l0, l1, l2, some (.int x), l4, l5, l6] st M Q ↔ wp scr n mb_116 65 [l0, l1, l2, some (.int x), l4, l5, l6] (.int x :: st) M Q := wp_step rfl rfl rfl rfl rfl
theorem u116_65 : wp scr n mb_116 65 [l0, l1, l2, l3, some (.int x), l5, l6] st M Q ↔ wp scr n mb_116 67 [l0, l1, l2, l3, some (.int x), l5, l6] (.int x :: st) M Q := wp_step rfl rfl rfl rfl rfl
theorem u116_67 : wp scr n mb_116 67 L (a4 :: a3 :: a2 :: .ref a :: st) M Q ↔ ((mw_r M a 4 ∧ mw_st st) ∧ Wp scr n 71 [.ref a, a2, a3, a4] M (fun r1 M1 => wp scr n mb_116 70 L (r1.toList ++ st) M1 Q)) := wp_vir rfl rfl rfl rfl rfl
theorem u116_70 : wp scr n mb_116 70 L (.int y :: .int x :: st) M Q ↔ wp scr n mb_116 71 L (.int (x + y) :: st) M Q := wp_step rfl rfl rfl rfl rfl
theorem u116_71 : wp scr n mb_116 71 L [.int x] M Q ↔ Q (some (.int x)) M := wp_ret rfl rfl
theorem e116 : Wp scr (n + 1) 116 [.ref a0, .int x1, .int x2, .int x3, .int x4] M Q ↔ wp scr n mb_116 0 [some (.ref a0), some (.int x1), some (.int x2), some (.int x3), some (.int x4), none, none] [] M Q := Wp_to rfl rfl rfl
/-- SmallerInTheShop hole (II)I -/
def mb_117 : mw_B := ((Option.some FieldType.int), mp_117)
theorem u117_0 : wp scr n mb_117 0 [l0, some (.int x), l2, l3] st M Q ↔ wp scr n mb_117 1 [l0, some (.int x), l2, l3] (.int x :: st) M Q := wp_step rfl rfl rfl rfl rfl
theorem u117_1 : wp scr n mb_117 1 L st M Q ↔ wp scr n mb_117 2 L (.int 3 :: st) M Q := wp_step rfl rfl rfl rfl rfl
theorem u117_2 : wp scr n mb_117 2 L (a2 :: a1 :: st) M Q ↔ (mw_st st ∧ Wp scr n 89 [a1, a2] M (fun r1 M1 => wp scr n mb_117 5 L (r1.toList ++ st) M1 Q)) := wp_sta rfl rfl rfl rfl
theorem u117_5 : wp scr n mb_117 5 L (.int x :: st) M Q ↔ (if x = 0 then wp scr n mb_117 8 L st M Q else wp scr n mb_117 14 L st M Q) := (wp_step rfl rfl rfl rfl rfl).trans wp_iten
theorem u117_8 : wp scr n mb_117 8 [some (.ref a), l1, l2, l3] st M Q ↔ wp scr n mb_117 9 [some (.ref a), l1, l2, l3] (.ref a :: st) M Q := wp_step rfl rfl rfl rfl rfl
theorem u117_9 : wp scr n mb_117 9 L st M Q ↔ wp scr n mb_117 10 L (.int (-1) :: st) M Q := wp_step rfl rfl rfl rfl rfl
theorem u117_10 : wp scr n mb_117 10 L (a2 :: .ref a :: st) M Q ↔ ((mw_r M a 5 ∧ mw_st st) ∧ Wp scr n 84 [.ref a, a2] M (fun r1 M1 => wp scr n mb_117 13 L (r1.toList ++ st) M1 Q)) := wp_vir rfl rfl rfl rfl rfl
theorem u117_13 : wp scr n mb_117 13 L [.int x] M Q ↔ Q (some (.int x)) M := wp_ret rfl rfl
theorem u117_14 : wp scr n mb_117 14 [l0, l1, some (.int x), l3] st M Q ↔ wp scr n mb_117 15 [l0, l1, some (.int x), l3] (.int x :: st) M Q := wp_step rfl rfl rfl rfl rfl
theorem u117_15 : wp scr n mb_117 15 L st M Q ↔ wp scr n mb_117 16 L (.int 2 :: st) M Q := wp_step rfl rfl rfl rfl rfl
theorem u117_16 : wp scr n mb_117 16 L (a2 :: a1 :: st) M Q ↔ (mw_st st ∧ Wp scr n 89 [a1, a2] M (fun r1 M1 => wp scr n mb_117 19 L (r1.toList ++ st) M1 Q)) := wp_sta rfl rfl rfl rfl
theorem u117_19 : wp scr n mb_117 19 L (.int x :: st) M Q ↔ (if x = 0 then wp scr n mb_117 22 L st M Q else wp scr n mb_117 29 L st M Q) := (wp_step rfl rfl rfl rfl rfl).trans wp_iten
theorem u117_22 : wp scr n mb_117 22 [some (.ref a), l1, l2, l3] st M Q ↔ wp scr n mb_117 23 [some (.ref a), l1, l2, l3] (.ref a :: st) M Q := wp_step rfl rfl rfl rfl rfl
theorem u117_23 : wp scr n mb_117 23 L st M Q ↔ wp scr n mb_117 25 L (.int (-2) :: st) M Q := wp_step rfl rfl rfl rfl rfl
theorem u117_25 : wp scr n mb_117 25 L (a2 :: .ref a :: st) M Q ↔ ((mw_r M a 5 ∧ mw_st st) ∧ Wp scr n 84 [.ref a, a2] M (fun r1 M1 => wp scr n mb_117 28 L (r1.toList ++ st) M1 Q)) := wp_vir rfl rfl rfl rfl rfl
theorem u117_28 : wp scr n mb_117 28 L [.int x] M Q ↔ Q (some (.int x)) M := wp_ret rfl rfl
theorem u117_29 : wp scr n mb_117 29 [some (.ref a), l1, l2, l3] st M Q ↔ wp scr n mb_117 30 [some (.ref a), l1, l2, l3] (.ref a :: st) M Q := wp_step rfl rfl rfl rfl rfl
theorem u117_30 : wp scr n mb_117 30 L (o :: st) M Q ↔ mw_o (mm_fld (mc_X scr) M o 5 0) (fun v => wp scr n mb_117 33 L (v :: st) M Q) := wp_getf rfl
theorem u117_33 : wp scr n mb_117 33 [l0, some (.int x), l2, l3] st M Q ↔ wp scr n mb_117 34 [l0, some (.int x), l2, l3] (.int x :: st) M Q := wp_step rfl rfl rfl rfl rfl
theorem u117_34 : wp scr n mb_117 34 L (a2 :: .ref a :: st) M Q ↔ ((mw_r M a 4 ∧ mw_st st) ∧ Wp scr n 80 [.ref a, a2] M (fun r1 M1 => wp scr n mb_117 37 L (r1.toList ++ st) M1 Q)) := wp_vir rfl rfl rfl rfl rfl
theorem u117_37 : wp scr n mb_117 37 [l0, l1, l2, l3] (.int x :: st) M Q ↔ wp scr n mb_117 38 (mm_sto1 [l0, l1, l2, l3] 3 (.int x)) st M Q := wp_step rfl rfl rfl rfl rfl
theorem u117_38 : wp scr n mb_117 38 [l0, l1, some (.int x), l3] st M Q ↔ wp scr n mb_117 39 [l0, l1, some (.int x), l3] (.int x :: st) M Q := wp_step rfl rfl rfl rfl rfl
theorem u117_39 : wp scr n mb_117 39 L (.int x :: st) M Q ↔ (if x = 0 then wp scr n mb_117 42 L st M Q else wp scr n mb_117 46 L st M Q) := (wp_step rfl rfl rfl rfl rfl).trans wp_iten
theorem u117_42 : wp scr n mb_117 42 [l0, l1, l2, some (.int x)] st M Q ↔ wp scr n mb_117 43 [l0, l1, l2, some (.int x)] (.int x :: st) M Q := wp_step rfl rfl rfl rfl rfl
theorem u117_43 : wp scr n mb_117 43 L st M Q ↔ wp scr n mb_117 60 L st M Q := wp_step rfl rfl rfl rfl rfl
theorem u117_46 : wp scr n mb_117 46 [l0, l1, l2, some (.int x)] st M Q ↔ wp scr n mb_117 47 [l0, l1, l2, some (.int x)] (.int x :: st) M Q := wp_step rfl rfl rfl rfl rfl
theorem u117_47 : wp scr n mb_117 47 L st M Q ↔ wp scr n mb_117 49 L (.int 40 :: st) M Q := wp_step rfl rfl rfl rfl rfl
theorem u117_49 : wp scr n mb_117 49 L (.int y :: .int x :: st) M Q ↔ (if x < y then wp scr n mb_117 56 L st M Q else wp scr n mb_117 52 L st M Q) := (wp_step rfl rfl rfl rfl rfl).trans wp_ite
theorem u117_52 : wp scr n mb_117 52 L st M Q ↔ wp scr n mb_117 53 L (.int 1 :: st) M Q := wp_step rfl rfl rfl rfl rfl
theorem u117_53 : wp scr n mb_117 53 L st M Q ↔ wp scr n mb_117 57 L st M Q := wp_step rfl rfl rfl rfl rfl
theorem u117_56 : wp scr n mb_117 56 L st M Q ↔ wp scr n mb_117 57 L (.int 0 :: st) M Q := wp_step rfl rfl rfl rfl rfl
theorem u117_57 : wp scr n mb_117 57 L (a1 :: st) M Q ↔ (mw_st st ∧ Wp scr n 95 [a1] M (fun r1 M1 => wp scr n mb_117 60 L (r1.toList ++ st) M1 Q)) := wp_sta rfl rfl rfl rfl
theorem u117_60 : wp scr n mb_117 60 L [.int x] M Q ↔ Q (some (.int x)) M := wp_ret rfl rfl
theorem e117 : Wp scr (n + 1) 117 [.ref a0, .int x1, .int x2] M Q ↔ wp scr n mb_117 0 [some (.ref a0), some (.int x1), some (.int x2), none] [] M Q := Wp_to rfl rfl rfl
/-- SmallerInTheShop weakest (I)I -/
def mb_118 : mw_B := ((Option.some FieldType.int), mp_118)
theorem u118_0 : wp scr n mb_118 0 [l0, some (.int x), l2, l3] st M Q ↔ wp scr n mb_118 1 [l0, some (.int x), l2, l3] (.int x :: st) M Q := wp_step rfl rfl rfl rfl rfl
theorem u118_1 : wp scr n mb_118 1 L st M Q ↔ wp scr n mb_118 2 L (.int 3 :: st) M Q := wp_step rfl rfl rfl rfl rfl
theorem u118_2 : wp scr n mb_118 2 L (a2 :: a1 :: st) M Q ↔ (mw_st st ∧ Wp scr n 89 [a1, a2] M (fun r1 M1 => wp scr n mb_118 5 L (r1.toList ++ st) M1 Q)) := wp_sta rfl rfl rfl rfl
theorem u118_5 : wp scr n mb_118 5 L (.int x :: st) M Q ↔ (if x = 0 then wp scr n mb_118 8 L st M Q else wp scr n mb_118 15 L st M Q) := (wp_step rfl rfl rfl rfl rfl).trans wp_iten
theorem u118_8 : wp scr n mb_118 8 [some (.ref a), l1, l2, l3] st M Q ↔ wp scr n mb_118 9 [some (.ref a), l1, l2, l3] (.ref a :: st) M Q := wp_step rfl rfl rfl rfl rfl
theorem u118_9 : wp scr n mb_118 9 L st M Q ↔ wp scr n mb_118 11 L (.int (-2) :: st) M Q := wp_step rfl rfl rfl rfl rfl
theorem u118_11 : wp scr n mb_118 11 L (a2 :: .ref a :: st) M Q ↔ ((mw_r M a 5 ∧ mw_st st) ∧ Wp scr n 84 [.ref a, a2] M (fun r1 M1 => wp scr n mb_118 14 L (r1.toList ++ st) M1 Q)) := wp_vir rfl rfl rfl rfl rfl
theorem u118_14 : wp scr n mb_118 14 L [.int x] M Q ↔ Q (some (.int x)) M := wp_ret rfl rfl
theorem u118_15 : wp scr n mb_118 15 [l0, some (.int x), l2, l3] st M Q ↔ wp scr n mb_118 16 [l0, some (.int x), l2, l3] (.int x :: st) M Q := wp_step rfl rfl rfl rfl rfl
theorem u118_16 : wp scr n mb_118 16 L st M Q ↔ wp scr n mb_118 17 L (.int 2 :: st) M Q := wp_step rfl rfl rfl rfl rfl
theorem u118_17 : wp scr n mb_118 17 L (.int y :: .int x :: st) M Q ↔ (if x = y then wp scr n mb_118 20 L st M Q else wp scr n mb_118 28 L st M Q) := (wp_step rfl rfl rfl rfl rfl).trans wp_iten
theorem u118_20 : wp scr n mb_118 20 [some (.ref a), l1, l2, l3] st M Q ↔ wp scr n mb_118 21 [some (.ref a), l1, l2, l3] (.ref a :: st) M Q := wp_step rfl rfl rfl rfl rfl
theorem u118_21 : wp scr n mb_118 21 L (o :: st) M Q ↔ mw_o (mm_fld (mc_X scr) M o 5 0) (fun v => wp scr n mb_118 24 L (v :: st) M Q) := wp_getf rfl
theorem u118_24 : wp scr n mb_118 24 L (.ref a :: st) M Q ↔ ((mw_r M a 4 ∧ mw_st st) ∧ Wp scr n 79 [.ref a] M (fun r1 M1 => wp scr n mb_118 27 L (r1.toList ++ st) M1 Q)) := wp_vir rfl rfl rfl rfl rfl
theorem u118_27 : wp scr n mb_118 27 L [.int x] M Q ↔ Q (some (.int x)) M := wp_ret rfl rfl
theorem u118_28 : wp scr n mb_118 28 L st M Q ↔ wp scr n mb_118 29 L (.int 0 :: st) M Q := wp_step rfl rfl rfl rfl rfl
theorem u118_29 : wp scr n mb_118 29 [l0, l1, l2, l3] (.int x :: st) M Q ↔ wp scr n mb_118 30 (mm_sto1 [l0, l1, l2, l3] 2 (.int x)) st M Q := wp_step rfl rfl rfl rfl rfl
theorem u118_30 : wp scr n mb_118 30 L st M Q ↔ wp scr n mb_118 31 L (.int 1 :: st) M Q := wp_step rfl rfl rfl rfl rfl
theorem u118_31 : wp scr n mb_118 31 [l0, l1, l2, l3] (.int x :: st) M Q ↔ wp scr n mb_118 32 (mm_sto1 [l0, l1, l2, l3] 3 (.int x)) st M Q := wp_step rfl rfl rfl rfl rfl
theorem u118_32 : wp scr n mb_118 32 [l0, l1, l2, some (.int x)] st M Q ↔ wp scr n mb_118 33 [l0, l1, l2, some (.int x)] (.int x :: st) M Q := wp_step rfl rfl rfl rfl rfl
theorem u118_33 : wp scr n mb_118 33 L st M Q ↔ wp scr n mb_118 34 L (.int 3 :: st) M Q := wp_step rfl rfl rfl rfl rfl
theorem u118_34 : wp scr n mb_118 34 L (.int y :: .int x :: st) M Q ↔ (if y ≤ x then wp scr n mb_118 64 L st M Q else wp scr n mb_118 37 L st M Q) := (wp_step rfl rfl rfl rfl rfl).trans wp_ite
theorem u118_37 : wp scr n mb_118 37 [some (.ref a), l1, l2, l3] st M Q ↔ wp scr n mb_118 38 [some (.ref a), l1, l2, l3] (.ref a :: st) M Q := wp_step rfl rfl rfl rfl rfl
theorem u118_38 : wp scr n mb_118 38 L (o :: st) M Q ↔ mw_o (mm_fld (mc_X scr) M o 5 0) (fun v => wp scr n mb_118 41 L (v :: st) M Q) := wp_getf rfl
theorem u118_41 : wp scr n mb_118 41 [l0, l1, l2, some (.int x)] st M Q ↔ wp scr n mb_118 42 [l0, l1, l2, some (.int x)] (.int x :: st) M Q := wp_step rfl rfl rfl rfl rfl
theorem u118_42 : wp scr n mb_118 42 L (a2 :: .ref a :: st) M Q ↔ ((mw_r M a 4 ∧ mw_st st) ∧ Wp scr n 80 [.ref a, a2] M (fun r1 M1 => wp scr n mb_118 45 L (r1.toList ++ st) M1 Q)) := wp_vir rfl rfl rfl rfl rfl
theorem u118_45 : wp scr n mb_118 45 [some (.ref a), l1, l2, l3] st M Q ↔ wp scr n mb_118 46 [some (.ref a), l1, l2, l3] (.ref a :: st) M Q := wp_step rfl rfl rfl rfl rfl
theorem u118_46 : wp scr n mb_118 46 L (o :: st) M Q ↔ mw_o (mm_fld (mc_X scr) M o 5 0) (fun v => wp scr n mb_118 49 L (v :: st) M Q) := wp_getf rfl
theorem u118_49 : wp scr n mb_118 49 [l0, l1, some (.int x), l3] st M Q ↔ wp scr n mb_118 50 [l0, l1, some (.int x), l3] (.int x :: st) M Q := wp_step rfl rfl rfl rfl rfl
theorem u118_50 : wp scr n mb_118 50 L (a2 :: .ref a :: st) M Q ↔ ((mw_r M a 4 ∧ mw_st st) ∧ Wp scr n 80 [.ref a, a2] M (fun r1 M1 => wp scr n mb_118 53 L (r1.toList ++ st) M1 Q)) := wp_vir rfl rfl rfl rfl rfl
theorem u118_53 : wp scr n mb_118 53 L (.int y :: .int x :: st) M Q ↔ (if x ≤ y then wp scr n mb_118 58 L st M Q else wp scr n mb_118 56 L st M Q) := (wp_step rfl rfl rfl rfl rfl).trans wp_ite
theorem u118_56 : wp scr n mb_118 56 [l0, l1, l2, some (.int x)] st M Q ↔ wp scr n mb_118 57 [l0, l1, l2, some (.int x)] (.int x :: st) M Q := wp_step rfl rfl rfl rfl rfl
theorem u118_57 : wp scr n mb_118 57 [l0, l1, l2, l3] (.int x :: st) M Q ↔ wp scr n mb_118 58 (mm_sto1 [l0, l1, l2, l3] 2 (.int x)) st M Q := wp_step rfl rfl rfl rfl rfl
theorem u118_58 : wp scr n mb_118 58 [l0, l1, l2, some (.int x)] st M Q ↔ wp scr n mb_118 61 (mm_sto1 [l0, l1, l2, some (.int x)] 3 (.int (x + 1))) st M Q := wp_step rfl rfl rfl rfl rfl
theorem u118_61 : wp scr n mb_118 61 L st M Q ↔ wp scr n mb_118 32 L st M Q := wp_step rfl rfl rfl rfl rfl
theorem u118_64 : wp scr n mb_118 64 [l0, some (.int x), l2, l3] st M Q ↔ wp scr n mb_118 65 [l0, some (.int x), l2, l3] (.int x :: st) M Q := wp_step rfl rfl rfl rfl rfl
theorem u118_65 : wp scr n mb_118 65 L (.int x :: st) M Q ↔ (if x = 0 then wp scr n mb_118 68 L st M Q else wp scr n mb_118 72 L st M Q) := (wp_step rfl rfl rfl rfl rfl).trans wp_iten
theorem u118_68 : wp scr n mb_118 68 [l0, l1, some (.int x), l3] st M Q ↔ wp scr n mb_118 69 [l0, l1, some (.int x), l3] (.int x :: st) M Q := wp_step rfl rfl rfl rfl rfl
theorem u118_69 : wp scr n mb_118 69 L st M Q ↔ wp scr n mb_118 80 L st M Q := wp_step rfl rfl rfl rfl rfl
theorem u118_72 : wp scr n mb_118 72 [some (.ref a), l1, l2, l3] st M Q ↔ wp scr n mb_118 73 [some (.ref a), l1, l2, l3] (.ref a :: st) M Q := wp_step rfl rfl rfl rfl rfl
theorem u118_73 : wp scr n mb_118 73 L (o :: st) M Q ↔ mw_o (mm_fld (mc_X scr) M o 5 0) (fun v => wp scr n mb_118 76 L (v :: st) M Q) := wp_getf rfl
theorem u118_76 : wp scr n mb_118 76 [l0, l1, some (.int x), l3] st M Q ↔ wp scr n mb_118 77 [l0, l1, some (.int x), l3] (.int x :: st) M Q := wp_step rfl rfl rfl rfl rfl
theorem u118_77 : wp scr n mb_118 77 L (a2 :: .ref a :: st) M Q ↔ ((mw_r M a 4 ∧ mw_st st) ∧ Wp scr n 80 [.ref a, a2] M (fun r1 M1 => wp scr n mb_118 80 L (r1.toList ++ st) M1 Q)) := wp_vir rfl rfl rfl rfl rfl
theorem u118_80 : wp scr n mb_118 80 L [.int x] M Q ↔ Q (some (.int x)) M := wp_ret rfl rfl
theorem e118 : Wp scr (n + 1) 118 [.ref a0, .int x1] M Q ↔ wp scr n mb_118 0 [some (.ref a0), some (.int x1), none, none] [] M Q := Wp_to rfl rfl rfl
/-- SmallerInTheShop wind (II)J -/
def mb_119 : mw_B := ((Option.some FieldType.long), mp_119)
theorem u119_0 : wp scr n mb_119 0 [l0, some (.int x), l2, l3, l4, l5, l6, l7, l8, l9] st M Q ↔ wp scr n mb_119 1 [l0, some (.int x), l2, l3, l4, l5, l6, l7, l8, l9] (.int x :: st) M Q := wp_step rfl rfl rfl rfl rfl
theorem u119_1 : wp scr n mb_119 1 L st M Q ↔ wp scr n mb_119 2 L (.int 2 :: st) M Q := wp_step rfl rfl rfl rfl rfl
theorem u119_2 : wp scr n mb_119 2 L (.int y :: .int x :: st) M Q ↔ (if y ≤ x then wp scr n mb_119 12 L st M Q else wp scr n mb_119 5 L st M Q) := (wp_step rfl rfl rfl rfl rfl).trans wp_ite
theorem u119_5 : wp scr n mb_119 5 [some (.ref a), l1, l2, l3, l4, l5, l6, l7, l8, l9] st M Q ↔ wp scr n mb_119 6 [some (.ref a), l1, l2, l3, l4, l5, l6, l7, l8, l9] (.ref a :: st) M Q := wp_step rfl rfl rfl rfl rfl
theorem u119_6 : wp scr n mb_119 6 L st M Q ↔ wp scr n mb_119 8 L (.int (-4) :: st) M Q := wp_step rfl rfl rfl rfl rfl
theorem u119_8 : wp scr n mb_119 8 L (a2 :: .ref a :: st) M Q ↔ ((mw_r M a 5 ∧ mw_st st) ∧ Wp scr n 120 [.ref a, a2] M (fun r1 M1 => wp scr n mb_119 11 L (r1.toList ++ st) M1 Q)) := wp_vir rfl rfl rfl rfl rfl
theorem u119_11 : wp scr n mb_119 11 L [.long z] M Q ↔ Q (some (.long z)) M := wp_ret rfl rfl
theorem u119_12 : wp scr n mb_119 12 [l0, some (.int x), l2, l3, l4, l5, l6, l7, l8, l9] st M Q ↔ wp scr n mb_119 13 [l0, some (.int x), l2, l3, l4, l5, l6, l7, l8, l9] (.int x :: st) M Q := wp_step rfl rfl rfl rfl rfl
theorem u119_13 : wp scr n mb_119 13 L st M Q ↔ wp scr n mb_119 15 L (.int 20 :: st) M Q := wp_step rfl rfl rfl rfl rfl
theorem u119_15 : wp scr n mb_119 15 L (.int y :: .int x :: st) M Q ↔ (if x ≤ y then wp scr n mb_119 25 L st M Q else wp scr n mb_119 18 L st M Q) := (wp_step rfl rfl rfl rfl rfl).trans wp_ite
theorem u119_18 : wp scr n mb_119 18 [some (.ref a), l1, l2, l3, l4, l5, l6, l7, l8, l9] st M Q ↔ wp scr n mb_119 19 [some (.ref a), l1, l2, l3, l4, l5, l6, l7, l8, l9] (.ref a :: st) M Q := wp_step rfl rfl rfl rfl rfl
theorem u119_19 : wp scr n mb_119 19 L st M Q ↔ wp scr n mb_119 21 L (.int (-6) :: st) M Q := wp_step rfl rfl rfl rfl rfl
theorem u119_21 : wp scr n mb_119 21 L (a2 :: .ref a :: st) M Q ↔ ((mw_r M a 5 ∧ mw_st st) ∧ Wp scr n 120 [.ref a, a2] M (fun r1 M1 => wp scr n mb_119 24 L (r1.toList ++ st) M1 Q)) := wp_vir rfl rfl rfl rfl rfl
theorem u119_24 : wp scr n mb_119 24 L [.long z] M Q ↔ Q (some (.long z)) M := wp_ret rfl rfl
theorem u119_25 : wp scr n mb_119 25 [some (.ref a), l1, l2, l3, l4, l5, l6, l7, l8, l9] st M Q ↔ wp scr n mb_119 26 [some (.ref a), l1, l2, l3, l4, l5, l6, l7, l8, l9] (.ref a :: st) M Q := wp_step rfl rfl rfl rfl rfl
theorem u119_26 : wp scr n mb_119 26 L (o :: st) M Q ↔ mw_o (mm_fld (mc_X scr) M o 5 8) (fun v => wp scr n mb_119 29 L (v :: st) M Q) := wp_getf rfl
theorem u119_29 : wp scr n mb_119 29 L st M Q ↔ wp scr n mb_119 30 L (.int 4 :: st) M Q := wp_step rfl rfl rfl rfl rfl
theorem u119_30 : wp scr n mb_119 30 L (.int y :: .int x :: st) M Q ↔ (if y < x then wp scr n mb_119 40 L st M Q else wp scr n mb_119 33 L st M Q) := (wp_step rfl rfl rfl rfl rfl).trans wp_ite
theorem u119_33 : wp scr n mb_119 33 [some (.ref a), l1, l2, l3, l4, l5, l6, l7, l8, l9] st M Q ↔ wp scr n mb_119 34 [some (.ref a), l1, l2, l3, l4, l5, l6, l7, l8, l9] (.ref a :: st) M Q := wp_step rfl rfl rfl rfl rfl
theorem u119_34 : wp scr n mb_119 34 L (.ref a :: st) M Q ↔ ((mw_r M a 5 ∧ mw_st st) ∧ Wp scr n 121 [.ref a] M (fun r1 M1 => wp scr n mb_119 37 L (r1.toList ++ st) M1 Q)) := wp_vir rfl rfl rfl rfl rfl
theorem u119_37 : wp scr n mb_119 37 L (.int x :: st) M Q ↔ (if x < 0 then wp scr n mb_119 47 L st M Q else wp scr n mb_119 40 L st M Q) := (wp_step rfl rfl rfl rfl rfl).trans wp_ite
theorem u119_40 : wp scr n mb_119 40 [some (.ref a), l1, l2, l3, l4, l5, l6, l7, l8, l9] st M Q ↔ wp scr n mb_119 41 [some (.ref a), l1, l2, l3, l4, l5, l6, l7, l8, l9] (.ref a :: st) M Q := wp_step rfl rfl rfl rfl rfl
theorem u119_41 : wp scr n mb_119 41 L st M Q ↔ wp scr n mb_119 43 L (.int (-3) :: st) M Q := wp_step rfl rfl rfl rfl rfl
theorem u119_43 : wp scr n mb_119 43 L (a2 :: .ref a :: st) M Q ↔ ((mw_r M a 5 ∧ mw_st st) ∧ Wp scr n 120 [.ref a, a2] M (fun r1 M1 => wp scr n mb_119 46 L (r1.toList ++ st) M1 Q)) := wp_vir rfl rfl rfl rfl rfl
theorem u119_46 : wp scr n mb_119 46 L [.long z] M Q ↔ Q (some (.long z)) M := wp_ret rfl rfl
theorem u119_47 : wp scr n mb_119 47 [l0, l1, some (.int x), l3, l4, l5, l6, l7, l8, l9] st M Q ↔ wp scr n mb_119 48 [l0, l1, some (.int x), l3, l4, l5, l6, l7, l8, l9] (.int x :: st) M Q := wp_step rfl rfl rfl rfl rfl
theorem u119_48 : wp scr n mb_119 48 L st M Q ↔ wp scr n mb_119 49 L (.int 2 :: st) M Q := wp_step rfl rfl rfl rfl rfl
theorem u119_49 : wp scr n mb_119 49 L (a2 :: a1 :: st) M Q ↔ (mw_st st ∧ Wp scr n 89 [a1, a2] M (fun r1 M1 => wp scr n mb_119 52 L (r1.toList ++ st) M1 Q)) := wp_sta rfl rfl rfl rfl
theorem u119_52 : wp scr n mb_119 52 L (.int x :: st) M Q ↔ (if x = 0 then wp scr n mb_119 55 L st M Q else wp scr n mb_119 62 L st M Q) := (wp_step rfl rfl rfl rfl rfl).trans wp_iten
theorem u119_55 : wp scr n mb_119 55 [some (.ref a), l1, l2, l3, l4, l5, l6, l7, l8, l9] st M Q ↔ wp scr n mb_119 56 [some (.ref a), l1, l2, l3, l4, l5, l6, l7, l8, l9] (.ref a :: st) M Q := wp_step rfl rfl rfl rfl rfl
theorem u119_56 : wp scr n mb_119 56 L st M Q ↔ wp scr n mb_119 58 L (.int (-2) :: st) M Q := wp_step rfl rfl rfl rfl rfl
theorem u119_58 : wp scr n mb_119 58 L (a2 :: .ref a :: st) M Q ↔ ((mw_r M a 5 ∧ mw_st st) ∧ Wp scr n 120 [.ref a, a2] M (fun r1 M1 => wp scr n mb_119 61 L (r1.toList ++ st) M1 Q)) := wp_vir rfl rfl rfl rfl rfl
theorem u119_61 : wp scr n mb_119 61 L [.long z] M Q ↔ Q (some (.long z)) M := wp_ret rfl rfl
theorem u119_62 : wp scr n mb_119 62 L st M Q ↔ wp scr n mb_119 63 L (.long 0 :: st) M Q := wp_step rfl rfl rfl rfl rfl
theorem u119_63 : wp scr n mb_119 63 [l0, l1, l2, l3, l4, l5, l6, l7, l8, l9] (.long z :: st) M Q ↔ wp scr n mb_119 64 (mm_sto2 [l0, l1, l2, l3, l4, l5, l6, l7, l8, l9] 3 (.long z)) st M Q := wp_step rfl rfl rfl rfl rfl
theorem u119_64 : wp scr n mb_119 64 L st M Q ↔ wp scr n mb_119 65 L (.long 0 :: st) M Q := wp_step rfl rfl rfl rfl rfl
theorem u119_65 : wp scr n mb_119 65 [l0, l1, l2, l3, l4, l5, l6, l7, l8, l9] (.long z :: st) M Q ↔ wp scr n mb_119 67 (mm_sto2 [l0, l1, l2, l3, l4, l5, l6, l7, l8, l9] 5 (.long z)) st M Q := wp_step rfl rfl rfl rfl rfl
theorem u119_67 : wp scr n mb_119 67 L st M Q ↔ wp scr n mb_119 68 L (.int 0 :: st) M Q := wp_step rfl rfl rfl rfl rfl
theorem u119_68 : wp scr n mb_119 68 [l0, l1, l2, l3, l4, l5, l6, l7, l8, l9] (.int x :: st) M Q ↔ wp scr n mb_119 70 (mm_sto1 [l0, l1, l2, l3, l4, l5, l6, l7, l8, l9] 7 (.int x)) st M Q := wp_step rfl rfl rfl rfl rfl
theorem u119_70 : wp scr n mb_119 70 [l0, l1, l2, l3, l4, l5, l6, some (.int x), l8, l9] st M Q ↔ wp scr n mb_119 72 [l0, l1, l2, l3, l4, l5, l6, some (.int x), l8, l9] (.int x :: st) M Q := wp_step rfl rfl rfl rfl rfl
theorem u119_72 : wp scr n mb_119 72 L st M Q ↔ wp scr n mb_119 73 L (.int 1 :: st) M Q := wp_step rfl rfl rfl rfl rfl
theorem u119_73 : wp scr n mb_119 73 [some (.ref a), l1, l2, l3, l4, l5, l6, l7, l8, l9] st M Q ↔ wp scr n mb_119 74 [some (.ref a), l1, l2, l3, l4, l5, l6, l7, l8, l9] (.ref a :: st) M Q := wp_step rfl rfl rfl rfl rfl
theorem u119_74 : wp scr n mb_119 74 L (o :: st) M Q ↔ mw_o (mm_fld (mc_X scr) M o 5 8) (fun v => wp scr n mb_119 77 L (v :: st) M Q) := wp_getf rfl
theorem u119_77 : wp scr n mb_119 77 L (.int y :: .int x :: st) M Q ↔ wp scr n mb_119 78 L (.int (x <<< (y &&& 31)) :: st) M Q := wp_step rfl rfl rfl rfl rfl
theorem u119_78 : wp scr n mb_119 78 L (.int y :: .int x :: st) M Q ↔ (if y ≤ x then wp scr n mb_119 127 L st M Q else wp scr n mb_119 81 L st M Q) := (wp_step rfl rfl rfl rfl rfl).trans wp_ite
theorem u119_81 : wp scr n mb_119 81 [l0, some (.int x), l2, l3, l4, l5, l6, l7, l8, l9] st M Q ↔ wp scr n mb_119 82 [l0, some (.int x), l2, l3, l4, l5, l6, l7, l8, l9] (.int x :: st) M Q := wp_step rfl rfl rfl rfl rfl
theorem u119_82 : wp scr n mb_119 82 L st M Q ↔ wp scr n mb_119 83 L (.int 1 :: st) M Q := wp_step rfl rfl rfl rfl rfl
theorem u119_83 : wp scr n mb_119 83 L (.int y :: .int x :: st) M Q ↔ wp scr n mb_119 84 L (.int (x - y) :: st) M Q := wp_step rfl rfl rfl rfl rfl
theorem u119_84 : wp scr n mb_119 84 L (.int x :: st) M Q ↔ wp scr n mb_119 85 L (.long x.toInt64 :: st) M Q := wp_step rfl rfl rfl rfl rfl
theorem u119_85 : wp scr n mb_119 85 [some (.ref a), l1, l2, l3, l4, l5, l6, l7, l8, l9] st M Q ↔ wp scr n mb_119 86 [some (.ref a), l1, l2, l3, l4, l5, l6, l7, l8, l9] (.ref a :: st) M Q := wp_step rfl rfl rfl rfl rfl
theorem u119_86 : wp scr n mb_119 86 L (o :: st) M Q ↔ mw_o (mm_fld (mc_X scr) M o 5 8) (fun v => wp scr n mb_119 89 L (v :: st) M Q) := wp_getf rfl
theorem u119_89 : wp scr n mb_119 89 [l0, l1, l2, l3, l4, l5, l6, some (.int x), l8, l9] st M Q ↔ wp scr n mb_119 91 [l0, l1, l2, l3, l4, l5, l6, some (.int x), l8, l9] (.int x :: st) M Q := wp_step rfl rfl rfl rfl rfl
theorem u119_91 : wp scr n mb_119 91 L (a1 :: st) M Q ↔ (mw_st st ∧ Wp scr n 0 [a1] M (fun r1 M1 => wp scr n mb_119 94 L (r1.toList ++ st) M1 Q)) := wp_sta rfl rfl rfl rfl
theorem u119_94 : wp scr n mb_119 94 L (.int y :: .int x :: st) M Q ↔ wp scr n mb_119 95 L (.int (x - y) :: st) M Q := wp_step rfl rfl rfl rfl rfl
theorem u119_95 : wp scr n mb_119 95 L (a2 :: a1 :: st) M Q ↔ (mw_st st ∧ Wp scr n 122 [a1, a2] M (fun r1 M1 => wp scr n mb_119 98 L (r1.toList ++ st) M1 Q)) := wp_sta rfl rfl rfl rfl
theorem u119_98 : wp scr n mb_119 98 [l0, l1, l2, l3, l4, l5, l6, l7, l8, l9] (.long z :: st) M Q ↔ wp scr n mb_119 100 (mm_sto2 [l0, l1, l2, l3, l4, l5, l6, l7, l8, l9] 8 (.long z)) st M Q := wp_step rfl rfl rfl rfl rfl
theorem u119_100 : wp scr n mb_119 100 [l0, l1, l2, l3, l4, some (.long z), l6, l7, l8, l9] st M Q ↔ wp scr n mb_119 102 [l0, l1, l2, l3, l4, some (.long z), l6, l7, l8, l9] (.long z :: st) M Q := wp_step rfl rfl rfl rfl rfl
theorem u119_102 : wp scr n mb_119 102 [l0, l1, l2, l3, l4, l5, l6, l7, some (.long z), l9] st M Q ↔ wp scr n mb_119 104 [l0, l1, l2, l3, l4, l5, l6, l7, some (.long z), l9] (.long z :: st) M Q := wp_step rfl rfl rfl rfl rfl
theorem u119_104 : wp scr n mb_119 104 L (.long w :: .long z :: st) M Q ↔ wp scr n mb_119 105 L (.long (z + w) :: st) M Q := wp_step rfl rfl rfl rfl rfl
theorem u119_105 : wp scr n mb_119 105 [l0, l1, l2, l3, l4, l5, l6, l7, l8, l9] (.long z :: st) M Q ↔ wp scr n mb_119 107 (mm_sto2 [l0, l1, l2, l3, l4, l5, l6, l7, l8, l9] 5 (.long z)) st M Q := wp_step rfl rfl rfl rfl rfl
theorem u119_107 : wp scr n mb_119 107 [some (.ref a), l1, l2, l3, l4, l5, l6, l7, l8, l9] st M Q ↔ wp scr n mb_119 108 [some (.ref a), l1, l2, l3, l4, l5, l6, l7, l8, l9] (.ref a :: st) M Q := wp_step rfl rfl rfl rfl rfl
theorem u119_108 : wp scr n mb_119 108 [l0, l1, l2, l3, l4, l5, l6, some (.int x), l8, l9] st M Q ↔ wp scr n mb_119 110 [l0, l1, l2, l3, l4, l5, l6, some (.int x), l8, l9] (.int x :: st) M Q := wp_step rfl rfl rfl rfl rfl
theorem u119_110 : wp scr n mb_119 110 L (a2 :: .ref a :: st) M Q ↔ ((mw_r M a 5 ∧ mw_st st) ∧ Wp scr n 123 [.ref a, a2] M (fun r1 M1 => wp scr n mb_119 113 L (r1.toList ++ st) M1 Q)) := wp_vir rfl rfl rfl rfl rfl
theorem u119_113 : wp scr n mb_119 113 L (.int x :: st) M Q ↔ (if x = 0 then wp scr n mb_119 121 L st M Q else wp scr n mb_119 116 L st M Q) := (wp_step rfl rfl rfl rfl rfl).trans wp_ite
theorem u119_116 : wp scr n mb_119 116 [l0, l1, l2, some (.long z), l4, l5, l6, l7, l8, l9] st M Q ↔ wp scr n mb_119 117 [l0, l1, l2, some (.long z), l4, l5, l6, l7, l8, l9] (.long z :: st) M Q := wp_step rfl rfl rfl rfl rfl
theorem u119_117 : wp scr n mb_119 117 [l0, l1, l2, l3, l4, l5, l6, l7, some (.long z), l9] st M Q ↔ wp scr n mb_119 119 [l0, l1, l2, l3, l4, l5, l6, l7, some (.long z), l9] (.long z :: st) M Q := wp_step rfl rfl rfl rfl rfl
theorem u119_119 : wp scr n mb_119 119 L (.long w :: .long z :: st) M Q ↔ wp scr n mb_119 120 L (.long (z + w) :: st) M Q := wp_step rfl rfl rfl rfl rfl
theorem u119_120 : wp scr n mb_119 120 [l0, l1, l2, l3, l4, l5, l6, l7, l8, l9] (.long z :: st) M Q ↔ wp scr n mb_119 121 (mm_sto2 [l0, l1, l2, l3, l4, l5, l6, l7, l8, l9] 3 (.long z)) st M Q := wp_step rfl rfl rfl rfl rfl
theorem u119_121 : wp scr n mb_119 121 [l0, l1, l2, l3, l4, l5, l6, some (.int x), l8, l9] st M Q ↔ wp scr n mb_119 124 (mm_sto1 [l0, l1, l2, l3, l4, l5, l6, some (.int x), l8, l9] 7 (.int (x + 1))) st M Q := wp_step rfl rfl rfl rfl rfl
theorem u119_124 : wp scr n mb_119 124 L st M Q ↔ wp scr n mb_119 70 L st M Q := wp_step rfl rfl rfl rfl rfl
theorem u119_127 : wp scr n mb_119 127 [l0, l1, l2, some (.long z), l4, l5, l6, l7, l8, l9] st M Q ↔ wp scr n mb_119 128 [l0, l1, l2, some (.long z), l4, l5, l6, l7, l8, l9] (.long z :: st) M Q := wp_step rfl rfl rfl rfl rfl
theorem u119_128 : wp scr n mb_119 128 [l0, l1, l2, l3, l4, some (.long z), l6, l7, l8, l9] st M Q ↔ wp scr n mb_119 130 [l0, l1, l2, l3, l4, some (.long z), l6, l7, l8, l9] (.long z :: st) M Q := wp_step rfl rfl rfl rfl rfl
theorem u119_130 : wp scr n mb_119 130 [l0, l1, some (.int x), l3, l4, l5, l6, l7, l8, l9] st M Q ↔ wp scr n mb_119 131 [l0, l1, some (.int x), l3, l4, l5, l6, l7, l8, l9] (.int x :: st) M Q := wp_step rfl rfl rfl rfl rfl
theorem u119_131 : wp scr n mb_119 131 L (a3 :: a2 :: a1 :: st) M Q ↔ (mw_st st ∧ Wp scr n 124 [a1, a2, a3] M (fun r1 M1 => wp scr n mb_119 134 L (r1.toList ++ st) M1 Q)) := wp_sta rfl rfl rfl rfl
theorem u119_134 : wp scr n mb_119 134 L [.long z] M Q ↔ Q (some (.long z)) M := wp_ret rfl rfl
theorem e119 : Wp scr (n + 1) 119 [.ref a0, .int x1, .int x2] M Q ↔ wp scr n mb_119 0 [some (.ref a0), some (.int x1), some (.int x2), none, none, none, none, none, none, none] [] M Q := Wp_to rfl rfl rfl
/-- SmallerInTheShop refuseLong (I)J -/
def mb_120 : mw_B := ((Option.some FieldType.long), mp_120)
theorem u120_0 : wp scr n mb_120 0 L st M Q ↔ wp scr n mb_120 3 L (.long (4000000000000000000) :: st) M Q := wp_step rfl rfl rfl rfl rfl
theorem u120_3 : wp scr n mb_120 3 [some (.ref a), l1] st M Q ↔ wp scr n mb_120 4 [some (.ref a), l1] (.ref a :: st) M Q := wp_step rfl rfl rfl rfl rfl
theorem u120_4 : wp scr n mb_120 4 [l0, some (.int x)] st M Q ↔ wp scr n mb_120 5 [l0, some (.int x)] (.int x :: st) M Q := wp_step rfl rfl rfl rfl rfl
theorem u120_5 : wp scr n mb_120 5 L (a2 :: .ref a :: st) M Q ↔ ((mw_r M a 5 ∧ mw_st st) ∧ Wp scr n 84 [.ref a, a2] M (fun r1 M1 => wp scr n mb_120 8 L (r1.toList ++ st) M1 Q)) := wp_vir rfl rfl rfl rfl rfl
theorem u120_8 : wp scr n mb_120 8 L (.int x :: st) M Q ↔ wp scr n mb_120 9 L (.long x.toInt64 :: st) M Q := wp_step rfl rfl rfl rfl rfl
theorem u120_9 : wp scr n mb_120 9 L (.long w :: .long z :: st) M Q ↔ wp scr n mb_120 10 L (.long (z - w) :: st) M Q := wp_step rfl rfl rfl rfl rfl
theorem u120_10 : wp scr n mb_120 10 L [.long z] M Q ↔ Q (some (.long z)) M := wp_ret rfl rfl
theorem e120 : Wp scr (n + 1) 120 [.ref a0, .int x1] M Q ↔ wp scr n mb_120 0 [some (.ref a0), some (.int x1)] [] M Q := Wp_to rfl rfl rfl
/-- SmallerInTheShop firstImpossible ()I -/
def mb_121 : mw_B := ((Option.some FieldType.int), mp_121)
theorem u121_0 : wp scr n mb_121 0 [some (.ref a), l1, l2, l3, l4] st M Q ↔ wp scr n mb_121 1 [some (.ref a), l1, l2, l3, l4] (.ref a :: st) M Q := wp_step rfl rfl rfl rfl rfl
theorem u121_1 : wp scr n mb_121 1 L (o :: st) M Q ↔ mw_o (mm_fld (mc_X scr) M o 5 0) (fun v => wp scr n mb_121 4 L (v :: st) M Q) := wp_getf rfl
theorem u121_4 : wp scr n mb_121 4 L (o :: st) M Q ↔ mw_o (mm_fld (mc_X scr) M o 4 4) (fun v => wp scr n mb_121 7 L (v :: st) M Q) := wp_getf rfl
theorem u121_7 : wp scr n mb_121 7 [l0, l1, l2, l3, l4] (.int x :: st) M Q ↔ wp scr n mb_121 8 (mm_sto1 [l0, l1, l2, l3, l4] 1 (.int x)) st M Q := wp_step rfl rfl rfl rfl rfl
theorem u121_8 : wp scr n mb_121 8 L st M Q ↔ wp scr n mb_121 9 L (.int 0 :: st) M Q := wp_step rfl rfl rfl rfl rfl
theorem u121_9 : wp scr n mb_121 9 [l0, l1, l2, l3, l4] (.int x :: st) M Q ↔ wp scr n mb_121 10 (mm_sto1 [l0, l1, l2, l3, l4] 2 (.int x)) st M Q := wp_step rfl rfl rfl rfl rfl
theorem u121_10 : wp scr n mb_121 10 [l0, l1, some (.int x), l3, l4] st M Q ↔ wp scr n mb_121 11 [l0, l1, some (.int x), l3, l4] (.int x :: st) M Q := wp_step rfl rfl rfl rfl rfl
theorem u121_11 : wp scr n mb_121 11 [some (.ref a), l1, l2, l3, l4] st M Q ↔ wp scr n mb_121 12 [some (.ref a), l1, l2, l3, l4] (.ref a :: st) M Q := wp_step rfl rfl rfl rfl rfl
theorem u121_12 : wp scr n mb_121 12 L (o :: st) M Q ↔ mw_o (mm_fld (mc_X scr) M o 5 8) (fun v => wp scr n mb_121 15 L (v :: st) M Q) := wp_getf rfl
theorem u121_15 : wp scr n mb_121 15 L (.int y :: .int x :: st) M Q ↔ (if y ≤ x then wp scr n mb_121 80 L st M Q else wp scr n mb_121 18 L st M Q) := (wp_step rfl rfl rfl rfl rfl).trans wp_ite
theorem u121_18 : wp scr n mb_121 18 [some (.ref a), l1, l2, l3, l4] st M Q ↔ wp scr n mb_121 19 [some (.ref a), l1, l2, l3, l4] (.ref a :: st) M Q := wp_step rfl rfl rfl rfl rfl
theorem u121_19 : wp scr n mb_121 19 L (o :: st) M Q ↔ mw_o (mm_fld (mc_X scr) M o 5 6) (fun v => wp scr n mb_121 22 L (v :: st) M Q) := wp_getf rfl
theorem u121_22 : wp scr n mb_121 22 [l0, l1, some (.int x), l3, l4] st M Q ↔ wp scr n mb_121 23 [l0, l1, some (.int x), l3, l4] (.int x :: st) M Q := wp_step rfl rfl rfl rfl rfl
theorem u121_23 : wp scr n mb_121 23 L (.int y :: o :: st) M Q ↔ mw_o (mm_ld (mc_X scr) M o y) (fun x => wp scr n mb_121 24 L (.int x :: st) M Q) := wp_iald rfl
theorem u121_24 : wp scr n mb_121 24 L st M Q ↔ wp scr n mb_121 26 L (.int 10 :: st) M Q := wp_step rfl rfl rfl rfl rfl
theorem u121_26 : wp scr n mb_121 26 L (.int y :: .int x :: st) M Q ↔ (if y = 0 then False else wp scr n mb_121 27 L (.int (x / y) :: st) M Q) := wp_idiv rfl
theorem u121_27 : wp scr n mb_121 27 [l0, l1, l2, l3, l4] (.int x :: st) M Q ↔ wp scr n mb_121 28 (mm_sto1 [l0, l1, l2, l3, l4] 3 (.int x)) st M Q := wp_step rfl rfl rfl rfl rfl
theorem u121_28 : wp scr n mb_121 28 [some (.ref a), l1, l2, l3, l4] st M Q ↔ wp scr n mb_121 29 [some (.ref a), l1, l2, l3, l4] (.ref a :: st) M Q := wp_step rfl rfl rfl rfl rfl
theorem u121_29 : wp scr n mb_121 29 L (o :: st) M Q ↔ mw_o (mm_fld (mc_X scr) M o 5 6) (fun v => wp scr n mb_121 32 L (v :: st) M Q) := wp_getf rfl
theorem u121_32 : wp scr n mb_121 32 [l0, l1, some (.int x), l3, l4] st M Q ↔ wp scr n mb_121 33 [l0, l1, some (.int x), l3, l4] (.int x :: st) M Q := wp_step rfl rfl rfl rfl rfl
theorem u121_33 : wp scr n mb_121 33 L (.int y :: o :: st) M Q ↔ mw_o (mm_ld (mc_X scr) M o y) (fun x => wp scr n mb_121 34 L (.int x :: st) M Q) := wp_iald rfl
theorem u121_34 : wp scr n mb_121 34 L st M Q ↔ wp scr n mb_121 36 L (.int 10 :: st) M Q := wp_step rfl rfl rfl rfl rfl
theorem u121_36 : wp scr n mb_121 36 L (.int y :: .int x :: st) M Q ↔ (if y = 0 then False else wp scr n mb_121 37 L (.int (x - x / y * y) :: st) M Q) := wp_irem rfl
theorem u121_37 : wp scr n mb_121 37 [l0, l1, l2, l3, l4] (.int x :: st) M Q ↔ wp scr n mb_121 39 (mm_sto1 [l0, l1, l2, l3, l4] 4 (.int x)) st M Q := wp_step rfl rfl rfl rfl rfl
theorem u121_39 : wp scr n mb_121 39 [some (.ref a), l1, l2, l3, l4] st M Q ↔ wp scr n mb_121 40 [some (.ref a), l1, l2, l3, l4] (.ref a :: st) M Q := wp_step rfl rfl rfl rfl rfl
theorem u121_40 : wp scr n mb_121 40 L (o :: st) M Q ↔ mw_o (mm_fld (mc_X scr) M o 5 0) (fun v => wp scr n mb_121 43 L (v :: st) M Q) := wp_getf rfl
theorem u121_43 : wp scr n mb_121 43 [l0, some (.int x), l2, l3, l4] st M Q ↔ wp scr n mb_121 44 [l0, some (.int x), l2, l3, l4] (.int x :: st) M Q := wp_step rfl rfl rfl rfl rfl
theorem u121_44 : wp scr n mb_121 44 [l0, l1, l2, some (.int x), l4] st M Q ↔ wp scr n mb_121 45 [l0, l1, l2, some (.int x), l4] (.int x :: st) M Q := wp_step rfl rfl rfl rfl rfl
theorem u121_45 : wp scr n mb_121 45 L (a3 :: a2 :: .ref a :: st) M Q ↔ ((mw_r M a 4 ∧ mw_st st) ∧ Wp scr n 69 [.ref a, a2, a3] M (fun r1 M1 => wp scr n mb_121 48 L (r1.toList ++ st) M1 Q)) := wp_vir rfl rfl rfl rfl rfl
theorem u121_48 : wp scr n mb_121 48 L (.int x :: st) M Q ↔ (if x = 0 then wp scr n mb_121 57 L st M Q else wp scr n mb_121 51 L st M Q) := (wp_step rfl rfl rfl rfl rfl).trans wp_ite
theorem u121_51 : wp scr n mb_121 51 [l0, l1, l2, l3, some (.int x)] st M Q ↔ wp scr n mb_121 53 [l0, l1, l2, l3, some (.int x)] (.int x :: st) M Q := wp_step rfl rfl rfl rfl rfl
theorem u121_53 : wp scr n mb_121 53 L st M Q ↔ wp scr n mb_121 54 L (.int 4 :: st) M Q := wp_step rfl rfl rfl rfl rfl
theorem u121_54 : wp scr n mb_121 54 L (.int y :: .int x :: st) M Q ↔ (if x < y then wp scr n mb_121 59 L st M Q else wp scr n mb_121 57 L st M Q) := (wp_step rfl rfl rfl rfl rfl).trans wp_ite
theorem u121_57 : wp scr n mb_121 57 [l0, l1, some (.int x), l3, l4] st M Q ↔ wp scr n mb_121 58 [l0, l1, some (.int x), l3, l4] (.int x :: st) M Q := wp_step rfl rfl rfl rfl rfl
theorem u121_58 : wp scr n mb_121 58 L [.int x] M Q ↔ Q (some (.int x)) M := wp_ret rfl rfl
theorem u121_59 : wp scr n mb_121 59 [some (.ref a), l1, l2, l3, l4] st M Q ↔ wp scr n mb_121 60 [some (.ref a), l1, l2, l3, l4] (.ref a :: st) M Q := wp_step rfl rfl rfl rfl rfl
theorem u121_60 : wp scr n mb_121 60 L (o :: st) M Q ↔ mw_o (mm_fld (mc_X scr) M o 5 0) (fun v => wp scr n mb_121 63 L (v :: st) M Q) := wp_getf rfl
theorem u121_63 : wp scr n mb_121 63 [l0, some (.int x), l2, l3, l4] st M Q ↔ wp scr n mb_121 64 [l0, some (.int x), l2, l3, l4] (.int x :: st) M Q := wp_step rfl rfl rfl rfl rfl
theorem u121_64 : wp scr n mb_121 64 [l0, l1, l2, some (.int x), l4] st M Q ↔ wp scr n mb_121 65 [l0, l1, l2, some (.int x), l4] (.int x :: st) M Q := wp_step rfl rfl rfl rfl rfl
theorem u121_65 : wp scr n mb_121 65 [l0, l1, l2, l3, some (.int x)] st M Q ↔ wp scr n mb_121 67 [l0, l1, l2, l3, some (.int x)] (.int x :: st) M Q := wp_step rfl rfl rfl rfl rfl
theorem u121_67 : wp scr n mb_121 67 L (a4 :: a3 :: a2 :: .ref a :: st) M Q ↔ ((mw_r M a 4 ∧ mw_st st) ∧ Wp scr n 71 [.ref a, a2, a3, a4] M (fun r1 M1 => wp scr n mb_121 70 L (r1.toList ++ st) M1 Q)) := wp_vir rfl rfl rfl rfl rfl
theorem u121_70 : wp scr n mb_121 70 L (.int x :: st) M Q ↔ wp scr n mb_121 71 L st M Q := wp_step rfl rfl rfl rfl rfl
theorem u121_71 : wp scr n mb_121 71 [l0, some (.int x), l2, l3, l4] st M Q ↔ wp scr n mb_121 74 (mm_sto1 [l0, some (.int x), l2, l3, l4] 1 (.int (x + 1))) st M Q := wp_step rfl rfl rfl rfl rfl
theorem u121_74 : wp scr n mb_121 74 [l0, l1, some (.int x), l3, l4] st M Q ↔ wp scr n mb_121 77 (mm_sto1 [l0, l1, some (.int x), l3, l4] 2 (.int (x + 1))) st M Q := wp_step rfl rfl rfl rfl rfl
theorem u121_77 : wp scr n mb_121 77 L st M Q ↔ wp scr n mb_121 10 L st M Q := wp_step rfl rfl rfl rfl rfl
theorem u121_80 : wp scr n mb_121 80 L st M Q ↔ wp scr n mb_121 81 L (.int (-1) :: st) M Q := wp_step rfl rfl rfl rfl rfl
theorem u121_81 : wp scr n mb_121 81 L [.int x] M Q ↔ Q (some (.int x)) M := wp_ret rfl rfl
theorem e121 : Wp scr (n + 1) 121 [.ref a0] M Q ↔ wp scr n mb_121 0 [some (.ref a0), none, none, none, none] [] M Q := Wp_to rfl rfl rfl
/-- SmallerInTheShop power (JI)J -/
def mb_122 : mw_B := ((Option.some FieldType.long), mp_122)
theorem u122_0 : wp scr n mb_122 0 L st M Q ↔ wp scr n mb_122 1 L (.long 1 :: st) M Q := wp_step rfl rfl rfl rfl rfl
theorem u122_1 : wp scr n mb_122 1 [l0, l1, l2, l3, l4, l5] (.long z :: st) M Q ↔ wp scr n mb_122 2 (mm_sto2 [l0, l1, l2, l3, l4, l5] 3 (.long z)) st M Q := wp_step rfl rfl rfl rfl rfl
theorem u122_2 : wp scr n mb_122 2 L st M Q ↔ wp scr n mb_122 3 L (.int 0 :: st) M Q := wp_step rfl rfl rfl rfl rfl
theorem u122_3 : wp scr n mb_122 3 [l0, l1, l2, l3, l4, l5] (.int x :: st) M Q ↔ wp scr n mb_122 5 (mm_sto1 [l0, l1, l2, l3, l4, l5] 5 (.int x)) st M Q := wp_step rfl rfl rfl rfl rfl
theorem u122_5 : wp scr n mb_122 5 [l0, l1, l2, l3, l4, some (.int x)] st M Q ↔ wp scr n mb_122 7 [l0, l1, l2, l3, l4, some (.int x)] (.int x :: st) M Q := wp_step rfl rfl rfl rfl rfl
theorem u122_7 : wp scr n mb_122 7 [l0, l1, some (.int x), l3, l4, l5] st M Q ↔ wp scr n mb_122 8 [l0, l1, some (.int x), l3, l4, l5] (.int x :: st) M Q := wp_step rfl rfl rfl rfl rfl
theorem u122_8 : wp scr n mb_122 8 L (.int y :: .int x :: st) M Q ↔ (if y ≤ x then wp scr n mb_122 21 L st M Q else wp scr n mb_122 11 L st M Q) := (wp_step rfl rfl rfl rfl rfl).trans wp_ite
theorem u122_11 : wp scr n mb_122 11 [l0, l1, l2, some (.long z), l4, l5] st M Q ↔ wp scr n mb_122 12 [l0, l1, l2, some (.long z), l4, l5] (.long z :: st) M Q := wp_step rfl rfl rfl rfl rfl
theorem u122_12 : wp scr n mb_122 12 [some (.long z), l1, l2, l3, l4, l5] st M Q ↔ wp scr n mb_122 13 [some (.long z), l1, l2, l3, l4, l5] (.long z :: st) M Q := wp_step rfl rfl rfl rfl rfl
theorem u122_13 : wp scr n mb_122 13 L (.long w :: .long z :: st) M Q ↔ wp scr n mb_122 14 L (.long (z * w) :: st) M Q := wp_step rfl rfl rfl rfl rfl
theorem u122_14 : wp scr n mb_122 14 [l0, l1, l2, l3, l4, l5] (.long z :: st) M Q ↔ wp scr n mb_122 15 (mm_sto2 [l0, l1, l2, l3, l4, l5] 3 (.long z)) st M Q := wp_step rfl rfl rfl rfl rfl
theorem u122_15 : wp scr n mb_122 15 [l0, l1, l2, l3, l4, some (.int x)] st M Q ↔ wp scr n mb_122 18 (mm_sto1 [l0, l1, l2, l3, l4, some (.int x)] 5 (.int (x + 1))) st M Q := wp_step rfl rfl rfl rfl rfl
theorem u122_18 : wp scr n mb_122 18 L st M Q ↔ wp scr n mb_122 5 L st M Q := wp_step rfl rfl rfl rfl rfl
theorem u122_21 : wp scr n mb_122 21 [l0, l1, l2, some (.long z), l4, l5] st M Q ↔ wp scr n mb_122 22 [l0, l1, l2, some (.long z), l4, l5] (.long z :: st) M Q := wp_step rfl rfl rfl rfl rfl
theorem u122_22 : wp scr n mb_122 22 L [.long z] M Q ↔ Q (some (.long z)) M := wp_ret rfl rfl
theorem e122 : Wp scr (n + 1) 122 [.long z1, .int x2] M Q ↔ wp scr n mb_122 0 [some (.long z1), none, some (.int x2), none, none, none] [] M Q := Wp_to rfl rfl rfl
/-- SmallerInTheShop isCoverOutBy (I)Z -/
def mb_123 : mw_B := ((Option.some FieldType.boolean), mp_123)
theorem u123_0 : wp scr n mb_123 0 [some (.ref a), l1, l2, l3, l4, l5] st M Q ↔ wp scr n mb_123 1 [some (.ref a), l1, l2, l3, l4, l5] (.ref a :: st) M Q := wp_step rfl rfl rfl rfl rfl
theorem u123_1 : wp scr n mb_123 1 L (o :: st) M Q ↔ mw_o (mm_fld (mc_X scr) M o 5 0) (fun v => wp scr n mb_123 4 L (v :: st) M Q) := wp_getf rfl
theorem u123_4 : wp scr n mb_123 4 L (o :: st) M Q ↔ mw_o (mm_fld (mc_X scr) M o 4 4) (fun v => wp scr n mb_123 7 L (v :: st) M Q) := wp_getf rfl
theorem u123_7 : wp scr n mb_123 7 [l0, l1, l2, l3, l4, l5] (.int x :: st) M Q ↔ wp scr n mb_123 8 (mm_sto1 [l0, l1, l2, l3, l4, l5] 2 (.int x)) st M Q := wp_step rfl rfl rfl rfl rfl
theorem u123_8 : wp scr n mb_123 8 L st M Q ↔ wp scr n mb_123 9 L (.int 0 :: st) M Q := wp_step rfl rfl rfl rfl rfl
theorem u123_9 : wp scr n mb_123 9 [l0, l1, l2, l3, l4, l5] (.int x :: st) M Q ↔ wp scr n mb_123 10 (mm_sto1 [l0, l1, l2, l3, l4, l5] 3 (.int x)) st M Q := wp_step rfl rfl rfl rfl rfl
theorem u123_10 : wp scr n mb_123 10 [l0, l1, l2, some (.int x), l4, l5] st M Q ↔ wp scr n mb_123 11 [l0, l1, l2, some (.int x), l4, l5] (.int x :: st) M Q := wp_step rfl rfl rfl rfl rfl
theorem u123_11 : wp scr n mb_123 11 [some (.ref a), l1, l2, l3, l4, l5] st M Q ↔ wp scr n mb_123 12 [some (.ref a), l1, l2, l3, l4, l5] (.ref a :: st) M Q := wp_step rfl rfl rfl rfl rfl
theorem u123_12 : wp scr n mb_123 12 L (o :: st) M Q ↔ mw_o (mm_fld (mc_X scr) M o 5 8) (fun v => wp scr n mb_123 15 L (v :: st) M Q) := wp_getf rfl
theorem u123_15 : wp scr n mb_123 15 L (.int y :: .int x :: st) M Q ↔ (if y ≤ x then wp scr n mb_123 81 L st M Q else wp scr n mb_123 18 L st M Q) := (wp_step rfl rfl rfl rfl rfl).trans wp_ite
theorem u123_18 : wp scr n mb_123 18 [some (.ref a), l1, l2, l3, l4, l5] st M Q ↔ wp scr n mb_123 19 [some (.ref a), l1, l2, l3, l4, l5] (.ref a :: st) M Q := wp_step rfl rfl rfl rfl rfl
theorem u123_19 : wp scr n mb_123 19 L (o :: st) M Q ↔ mw_o (mm_fld (mc_X scr) M o 5 6) (fun v => wp scr n mb_123 22 L (v :: st) M Q) := wp_getf rfl
theorem u123_22 : wp scr n mb_123 22 [l0, l1, l2, some (.int x), l4, l5] st M Q ↔ wp scr n mb_123 23 [l0, l1, l2, some (.int x), l4, l5] (.int x :: st) M Q := wp_step rfl rfl rfl rfl rfl
theorem u123_23 : wp scr n mb_123 23 L (.int y :: o :: st) M Q ↔ mw_o (mm_ld (mc_X scr) M o y) (fun x => wp scr n mb_123 24 L (.int x :: st) M Q) := wp_iald rfl
theorem u123_24 : wp scr n mb_123 24 L st M Q ↔ wp scr n mb_123 26 L (.int 10 :: st) M Q := wp_step rfl rfl rfl rfl rfl
theorem u123_26 : wp scr n mb_123 26 L (.int y :: .int x :: st) M Q ↔ (if y = 0 then False else wp scr n mb_123 27 L (.int (x / y) :: st) M Q) := wp_idiv rfl
theorem u123_27 : wp scr n mb_123 27 [l0, l1, l2, l3, l4, l5] (.int x :: st) M Q ↔ wp scr n mb_123 29 (mm_sto1 [l0, l1, l2, l3, l4, l5] 4 (.int x)) st M Q := wp_step rfl rfl rfl rfl rfl
theorem u123_29 : wp scr n mb_123 29 [some (.ref a), l1, l2, l3, l4, l5] st M Q ↔ wp scr n mb_123 30 [some (.ref a), l1, l2, l3, l4, l5] (.ref a :: st) M Q := wp_step rfl rfl rfl rfl rfl
theorem u123_30 : wp scr n mb_123 30 L (o :: st) M Q ↔ mw_o (mm_fld (mc_X scr) M o 5 6) (fun v => wp scr n mb_123 33 L (v :: st) M Q) := wp_getf rfl
theorem u123_33 : wp scr n mb_123 33 [l0, l1, l2, some (.int x), l4, l5] st M Q ↔ wp scr n mb_123 34 [l0, l1, l2, some (.int x), l4, l5] (.int x :: st) M Q := wp_step rfl rfl rfl rfl rfl
theorem u123_34 : wp scr n mb_123 34 L (.int y :: o :: st) M Q ↔ mw_o (mm_ld (mc_X scr) M o y) (fun x => wp scr n mb_123 35 L (.int x :: st) M Q) := wp_iald rfl
theorem u123_35 : wp scr n mb_123 35 L st M Q ↔ wp scr n mb_123 37 L (.int 10 :: st) M Q := wp_step rfl rfl rfl rfl rfl
theorem u123_37 : wp scr n mb_123 37 L (.int y :: .int x :: st) M Q ↔ (if y = 0 then False else wp scr n mb_123 38 L (.int (x - x / y * y) :: st) M Q) := wp_irem rfl
theorem u123_38 : wp scr n mb_123 38 [l0, some (.int x), l2, l3, l4, l5] st M Q ↔ wp scr n mb_123 39 [l0, some (.int x), l2, l3, l4, l5] (.int x :: st) M Q := wp_step rfl rfl rfl rfl rfl
theorem u123_39 : wp scr n mb_123 39 [l0, l1, l2, some (.int x), l4, l5] st M Q ↔ wp scr n mb_123 40 [l0, l1, l2, some (.int x), l4, l5] (.int x :: st) M Q := wp_step rfl rfl rfl rfl rfl
theorem u123_40 : wp scr n mb_123 40 L (.int y :: .int x :: st) M Q ↔ wp scr n mb_123 41 L (.int (x >>> (y &&& 31)) :: st) M Q := wp_step rfl rfl rfl rfl rfl
theorem u123_41 : wp scr n mb_123 41 L st M Q ↔ wp scr n mb_123 42 L (.int 1 :: st) M Q := wp_step rfl rfl rfl rfl rfl
theorem u123_42 : wp scr n mb_123 42 L (.int y :: .int x :: st) M Q ↔ wp scr n mb_123 43 L (.int (x &&& y) :: st) M Q := wp_step rfl rfl rfl rfl rfl
theorem u123_43 : wp scr n mb_123 43 L (.int y :: .int x :: st) M Q ↔ wp scr n mb_123 44 L (.int (x ^^^ y) :: st) M Q := wp_step rfl rfl rfl rfl rfl
theorem u123_44 : wp scr n mb_123 44 [l0, l1, l2, l3, l4, l5] (.int x :: st) M Q ↔ wp scr n mb_123 46 (mm_sto1 [l0, l1, l2, l3, l4, l5] 5 (.int x)) st M Q := wp_step rfl rfl rfl rfl rfl
theorem u123_46 : wp scr n mb_123 46 [some (.ref a), l1, l2, l3, l4, l5] st M Q ↔ wp scr n mb_123 47 [some (.ref a), l1, l2, l3, l4, l5] (.ref a :: st) M Q := wp_step rfl rfl rfl rfl rfl
theorem u123_47 : wp scr n mb_123 47 L (o :: st) M Q ↔ mw_o (mm_fld (mc_X scr) M o 5 0) (fun v => wp scr n mb_123 50 L (v :: st) M Q) := wp_getf rfl
theorem u123_50 : wp scr n mb_123 50 [l0, l1, some (.int x), l3, l4, l5] st M Q ↔ wp scr n mb_123 51 [l0, l1, some (.int x), l3, l4, l5] (.int x :: st) M Q := wp_step rfl rfl rfl rfl rfl
theorem u123_51 : wp scr n mb_123 51 [l0, l1, l2, l3, some (.int x), l5] st M Q ↔ wp scr n mb_123 53 [l0, l1, l2, l3, some (.int x), l5] (.int x :: st) M Q := wp_step rfl rfl rfl rfl rfl
theorem u123_53 : wp scr n mb_123 53 L (a3 :: a2 :: .ref a :: st) M Q ↔ ((mw_r M a 4 ∧ mw_st st) ∧ Wp scr n 69 [.ref a, a2, a3] M (fun r1 M1 => wp scr n mb_123 56 L (r1.toList ++ st) M1 Q)) := wp_vir rfl rfl rfl rfl rfl
theorem u123_56 : wp scr n mb_123 56 L (.int x :: st) M Q ↔ (if x = 0 then wp scr n mb_123 75 L st M Q else wp scr n mb_123 59 L st M Q) := (wp_step rfl rfl rfl rfl rfl).trans wp_ite
theorem u123_59 : wp scr n mb_123 59 [some (.ref a), l1, l2, l3, l4, l5] st M Q ↔ wp scr n mb_123 60 [some (.ref a), l1, l2, l3, l4, l5] (.ref a :: st) M Q := wp_step rfl rfl rfl rfl rfl
theorem u123_60 : wp scr n mb_123 60 L (o :: st) M Q ↔ mw_o (mm_fld (mc_X scr) M o 5 0) (fun v => wp scr n mb_123 63 L (v :: st) M Q) := wp_getf rfl
theorem u123_63 : wp scr n mb_123 63 [l0, l1, some (.int x), l3, l4, l5] st M Q ↔ wp scr n mb_123 64 [l0, l1, some (.int x), l3, l4, l5] (.int x :: st) M Q := wp_step rfl rfl rfl rfl rfl
theorem u123_64 : wp scr n mb_123 64 [l0, l1, l2, l3, some (.int x), l5] st M Q ↔ wp scr n mb_123 66 [l0, l1, l2, l3, some (.int x), l5] (.int x :: st) M Q := wp_step rfl rfl rfl rfl rfl
theorem u123_66 : wp scr n mb_123 66 [l0, l1, l2, l3, l4, some (.int x)] st M Q ↔ wp scr n mb_123 68 [l0, l1, l2, l3, l4, some (.int x)] (.int x :: st) M Q := wp_step rfl rfl rfl rfl rfl
theorem u123_68 : wp scr n mb_123 68 L (a4 :: a3 :: a2 :: .ref a :: st) M Q ↔ ((mw_r M a 4 ∧ mw_st st) ∧ Wp scr n 71 [.ref a, a2, a3, a4] M (fun r1 M1 => wp scr n mb_123 71 L (r1.toList ++ st) M1 Q)) := wp_vir rfl rfl rfl rfl rfl
theorem u123_71 : wp scr n mb_123 71 L (.int x :: st) M Q ↔ wp scr n mb_123 72 L st M Q := wp_step rfl rfl rfl rfl rfl
theorem u123_72 : wp scr n mb_123 72 [l0, l1, some (.int x), l3, l4, l5] st M Q ↔ wp scr n mb_123 75 (mm_sto1 [l0, l1, some (.int x), l3, l4, l5] 2 (.int (x + 1))) st M Q := wp_step rfl rfl rfl rfl rfl
theorem u123_75 : wp scr n mb_123 75 [l0, l1, l2, some (.int x), l4, l5] st M Q ↔ wp scr n mb_123 78 (mm_sto1 [l0, l1, l2, some (.int x), l4, l5] 3 (.int (x + 1))) st M Q := wp_step rfl rfl rfl rfl rfl
theorem u123_78 : wp scr n mb_123 78 L st M Q ↔ wp scr n mb_123 10 L st M Q := wp_step rfl rfl rfl rfl rfl
theorem u123_81 : wp scr n mb_123 81 [some (.ref a), l1, l2, l3, l4, l5] st M Q ↔ wp scr n mb_123 82 [some (.ref a), l1, l2, l3, l4, l5] (.ref a :: st) M Q := wp_step rfl rfl rfl rfl rfl
theorem u123_82 : wp scr n mb_123 82 L (o :: st) M Q ↔ mw_o (mm_fld (mc_X scr) M o 5 0) (fun v => wp scr n mb_123 85 L (v :: st) M Q) := wp_getf rfl
theorem u123_85 : wp scr n mb_123 85 L (o :: st) M Q ↔ mw_o (mm_fld (mc_X scr) M o 4 0) (fun v => wp scr n mb_123 88 L (v :: st) M Q) := wp_getf rfl
theorem u123_88 : wp scr n mb_123 88 [l0, l1, some (.int x), l3, l4, l5] st M Q ↔ wp scr n mb_123 89 [l0, l1, some (.int x), l3, l4, l5] (.int x :: st) M Q := wp_step rfl rfl rfl rfl rfl
theorem u123_89 : wp scr n mb_123 89 L (.int y :: .ref a :: st) M Q ↔ mw_o (mm_lda M a y) (fun v => wp scr n mb_123 90 L (v :: st) M Q) := wp_aald rfl
theorem u123_90 : wp scr n mb_123 90 [some (.ref a), l1, l2, l3, l4, l5] st M Q ↔ wp scr n mb_123 91 [some (.ref a), l1, l2, l3, l4, l5] (.ref a :: st) M Q := wp_step rfl rfl rfl rfl rfl
theorem u123_91 : wp scr n mb_123 91 L (o :: st) M Q ↔ mw_o (mm_fld (mc_X scr) M o 5 0) (fun v => wp scr n mb_123 94 L (v :: st) M Q) := wp_getf rfl
theorem u123_94 : wp scr n mb_123 94 L (o :: st) M Q ↔ mw_o (mm_fld (mc_X scr) M o 4 5) (fun v => wp scr n mb_123 97 L (v :: st) M Q) := wp_getf rfl
theorem u123_97 : wp scr n mb_123 97 L (a2 :: .ref a :: st) M Q ↔ ((mw_r M a 1 ∧ mw_st st) ∧ Wp scr n 36 [.ref a, a2] M (fun r1 M1 => wp scr n mb_123 100 L (r1.toList ++ st) M1 Q)) := wp_vir rfl rfl rfl rfl rfl
theorem u123_100 : wp scr n mb_123 100 L [.int x] M Q ↔ ((x = 0 ∨ x = 1) ∧ Q (some (.int x)) M) := wp_retb rfl rfl
theorem e123 : Wp scr (n + 1) 123 [.ref a0, .int x1] M Q ↔ wp scr n mb_123 0 [some (.ref a0), some (.int x1), none, none, none, none] [] M Q := Wp_to rfl rfl rfl
/-- SmallerInTheShop partOfFraction (JJI)J -/
def mb_124 : mw_B := ((Option.some FieldType.long), mp_124)
theorem u124_0 : wp scr n mb_124 0 [l0, l1, some (.long z), l3, l4, l5, l6, l7, l8, l9, l10, l11] st M Q ↔ wp scr n mb_124 1 [l0, l1, some (.long z), l3, l4, l5, l6, l7, l8, l9, l10, l11] (.long z :: st) M Q := wp_step rfl rfl rfl rfl rfl
theorem u124_1 : wp scr n mb_124 1 [l0, l1, l2, l3, l4, l5, l6, l7, l8, l9, l10, l11] (.long z :: st) M Q ↔ wp scr n mb_124 3 (mm_sto2 [l0, l1, l2, l3, l4, l5, l6, l7, l8, l9, l10, l11] 5 (.long z)) st M Q := wp_step rfl rfl rfl rfl rfl
theorem u124_3 : wp scr n mb_124 3 [some (.long z), l1, l2, l3, l4, l5, l6, l7, l8, l9, l10, l11] st M Q ↔ wp scr n mb_124 4 [some (.long z), l1, l2, l3, l4, l5, l6, l7, l8, l9, l10, l11] (.long z :: st) M Q := wp_step rfl rfl rfl rfl rfl
theorem u124_4 : wp scr n mb_124 4 [l0, l1, l2, l3, l4, l5, l6, l7, l8, l9, l10, l11] (.long z :: st) M Q ↔ wp scr n mb_124 6 (mm_sto2 [l0, l1, l2, l3, l4, l5, l6, l7, l8, l9, l10, l11] 7 (.long z)) st M Q := wp_step rfl rfl rfl rfl rfl
theorem u124_6 : wp scr n mb_124 6 L st M Q ↔ wp scr n mb_124 7 L (.int 0 :: st) M Q := wp_step rfl rfl rfl rfl rfl
theorem u124_7 : wp scr n mb_124 7 [l0, l1, l2, l3, l4, l5, l6, l7, l8, l9, l10, l11] (.int x :: st) M Q ↔ wp scr n mb_124 9 (mm_sto1 [l0, l1, l2, l3, l4, l5, l6, l7, l8, l9, l10, l11] 9 (.int x)) st M Q := wp_step rfl rfl rfl rfl rfl
theorem u124_9 : wp scr n mb_124 9 [l0, l1, l2, l3, l4, l5, l6, l7, l8, some (.int x), l10, l11] st M Q ↔ wp scr n mb_124 11 [l0, l1, l2, l3, l4, l5, l6, l7, l8, some (.int x), l10, l11] (.int x :: st) M Q := wp_step rfl rfl rfl rfl rfl
theorem u124_11 : wp scr n mb_124 11 L st M Q ↔ wp scr n mb_124 13 L (.int 100 :: st) M Q := wp_step rfl rfl rfl rfl rfl
theorem u124_13 : wp scr n mb_124 13 L (.int y :: .int x :: st) M Q ↔ (if y ≤ x then wp scr n mb_124 44 L st M Q else wp scr n mb_124 16 L st M Q) := (wp_step rfl rfl rfl rfl rfl).trans wp_ite
theorem u124_16 : wp scr n mb_124 16 [l0, l1, l2, l3, l4, l5, l6, some (.long z), l8, l9, l10, l11] st M Q ↔ wp scr n mb_124 18 [l0, l1, l2, l3, l4, l5, l6, some (.long z), l8, l9, l10, l11] (.long z :: st) M Q := wp_step rfl rfl rfl rfl rfl
theorem u124_18 : wp scr n mb_124 18 L st M Q ↔ wp scr n mb_124 19 L (.long 0 :: st) M Q := wp_step rfl rfl rfl rfl rfl
theorem u124_19 : wp scr n mb_124 19 L (.long w :: .long z :: st) M Q ↔ wp scr n mb_124 20 L (.int (lg_cmp z w) :: st) M Q := wp_step rfl rfl rfl rfl rfl
theorem u124_20 : wp scr n mb_124 20 L (.int x :: st) M Q ↔ (if x = 0 then wp scr n mb_124 44 L st M Q else wp scr n mb_124 23 L st M Q) := (wp_step rfl rfl rfl rfl rfl).trans wp_ite
theorem u124_23 : wp scr n mb_124 23 [l0, l1, l2, l3, l4, some (.long z), l6, l7, l8, l9, l10, l11] st M Q ↔ wp scr n mb_124 25 [l0, l1, l2, l3, l4, some (.long z), l6, l7, l8, l9, l10, l11] (.long z :: st) M Q := wp_step rfl rfl rfl rfl rfl
theorem u124_25 : wp scr n mb_124 25 [l0, l1, l2, l3, l4, l5, l6, some (.long z), l8, l9, l10, l11] st M Q ↔ wp scr n mb_124 27 [l0, l1, l2, l3, l4, l5, l6, some (.long z), l8, l9, l10, l11] (.long z :: st) M Q := wp_step rfl rfl rfl rfl rfl
theorem u124_27 : wp scr n mb_124 27 L (.long w :: .long z :: st) M Q ↔ (if w = 0 then False else wp scr n mb_124 28 L (.long (z - z / w * w) :: st) M Q) := wp_lrem rfl
theorem u124_28 : wp scr n mb_124 28 [l0, l1, l2, l3, l4, l5, l6, l7, l8, l9, l10, l11] (.long z :: st) M Q ↔ wp scr n mb_124 30 (mm_sto2 [l0, l1, l2, l3, l4, l5, l6, l7, l8, l9, l10, l11] 10 (.long z)) st M Q := wp_step rfl rfl rfl rfl rfl
theorem u124_30 : wp scr n mb_124 30 [l0, l1, l2, l3, l4, l5, l6, some (.long z), l8, l9, l10, l11] st M Q ↔ wp scr n mb_124 32 [l0, l1, l2, l3, l4, l5, l6, some (.long z), l8, l9, l10, l11] (.long z :: st) M Q := wp_step rfl rfl rfl rfl rfl
theorem u124_32 : wp scr n mb_124 32 [l0, l1, l2, l3, l4, l5, l6, l7, l8, l9, l10, l11] (.long z :: st) M Q ↔ wp scr n mb_124 34 (mm_sto2 [l0, l1, l2, l3, l4, l5, l6, l7, l8, l9, l10, l11] 5 (.long z)) st M Q := wp_step rfl rfl rfl rfl rfl
theorem u124_34 : wp scr n mb_124 34 [l0, l1, l2, l3, l4, l5, l6, l7, l8, l9, some (.long z), l11] st M Q ↔ wp scr n mb_124 36 [l0, l1, l2, l3, l4, l5, l6, l7, l8, l9, some (.long z), l11] (.long z :: st) M Q := wp_step rfl rfl rfl rfl rfl
theorem u124_36 : wp scr n mb_124 36 [l0, l1, l2, l3, l4, l5, l6, l7, l8, l9, l10, l11] (.long z :: st) M Q ↔ wp scr n mb_124 38 (mm_sto2 [l0, l1, l2, l3, l4, l5, l6, l7, l8, l9, l10, l11] 7 (.long z)) st M Q := wp_step rfl rfl rfl rfl rfl
theorem u124_38 : wp scr n mb_124 38 [l0, l1, l2, l3, l4, l5, l6, l7, l8, some (.int x), l10, l11] st M Q ↔ wp scr n mb_124 41 (mm_sto1 [l0, l1, l2, l3, l4, l5, l6, l7, l8, some (.int x), l10, l11] 9 (.int (x + 1))) st M Q := wp_step rfl rfl rfl rfl rfl
theorem u124_41 : wp scr n mb_124 41 L st M Q ↔ wp scr n mb_124 9 L st M Q := wp_step rfl rfl rfl rfl rfl
theorem u124_44 : wp scr n mb_124 44 [l0, l1, l2, l3, l4, some (.long z), l6, l7, l8, l9, l10, l11] st M Q ↔ wp scr n mb_124 46 [l0, l1, l2, l3, l4, some (.long z), l6, l7, l8, l9, l10, l11] (.long z :: st) M Q := wp_step rfl rfl rfl rfl rfl
theorem u124_46 : wp scr n mb_124 46 L st M Q ↔ wp scr n mb_124 47 L (.long 0 :: st) M Q := wp_step rfl rfl rfl rfl rfl
theorem u124_47 : wp scr n mb_124 47 L (.long w :: .long z :: st) M Q ↔ wp scr n mb_124 48 L (.int (lg_cmp z w) :: st) M Q := wp_step rfl rfl rfl rfl rfl
theorem u124_48 : wp scr n mb_124 48 L (.int x :: st) M Q ↔ (if x = 0 then wp scr n mb_124 51 L st M Q else wp scr n mb_124 55 L st M Q) := (wp_step rfl rfl rfl rfl rfl).trans wp_iten
theorem u124_51 : wp scr n mb_124 51 [l0, l1, l2, l3, some (.int x), l5, l6, l7, l8, l9, l10, l11] st M Q ↔ wp scr n mb_124 53 [l0, l1, l2, l3, some (.int x), l5, l6, l7, l8, l9, l10, l11] (.int x :: st) M Q := wp_step rfl rfl rfl rfl rfl
theorem u124_53 : wp scr n mb_124 53 L (.int x :: st) M Q ↔ wp scr n mb_124 54 L (.long x.toInt64 :: st) M Q := wp_step rfl rfl rfl rfl rfl
theorem u124_54 : wp scr n mb_124 54 L [.long z] M Q ↔ Q (some (.long z)) M := wp_ret rfl rfl
theorem u124_55 : wp scr n mb_124 55 [l0, l1, l2, l3, some (.int x), l5, l6, l7, l8, l9, l10, l11] st M Q ↔ wp scr n mb_124 57 [l0, l1, l2, l3, some (.int x), l5, l6, l7, l8, l9, l10, l11] (.int x :: st) M Q := wp_step rfl rfl rfl rfl rfl
theorem u124_57 : wp scr n mb_124 57 L (.int x :: st) M Q ↔ (if x = 0 then wp scr n mb_124 60 L st M Q else wp scr n mb_124 67 L st M Q) := (wp_step rfl rfl rfl rfl rfl).trans wp_iten
theorem u124_60 : wp scr n mb_124 60 [some (.long z), l1, l2, l3, l4, l5, l6, l7, l8, l9, l10, l11] st M Q ↔ wp scr n mb_124 61 [some (.long z), l1, l2, l3, l4, l5, l6, l7, l8, l9, l10, l11] (.long z :: st) M Q := wp_step rfl rfl rfl rfl rfl
theorem u124_61 : wp scr n mb_124 61 [l0, l1, l2, l3, l4, some (.long z), l6, l7, l8, l9, l10, l11] st M Q ↔ wp scr n mb_124 63 [l0, l1, l2, l3, l4, some (.long z), l6, l7, l8, l9, l10, l11] (.long z :: st) M Q := wp_step rfl rfl rfl rfl rfl
theorem u124_63 : wp scr n mb_124 63 L (.long w :: .long z :: st) M Q ↔ (if w = 0 then False else wp scr n mb_124 64 L (.long (z / w) :: st) M Q) := wp_ldiv rfl
theorem u124_64 : wp scr n mb_124 64 L st M Q ↔ wp scr n mb_124 71 L st M Q := wp_step rfl rfl rfl rfl rfl
theorem u124_67 : wp scr n mb_124 67 [l0, l1, some (.long z), l3, l4, l5, l6, l7, l8, l9, l10, l11] st M Q ↔ wp scr n mb_124 68 [l0, l1, some (.long z), l3, l4, l5, l6, l7, l8, l9, l10, l11] (.long z :: st) M Q := wp_step rfl rfl rfl rfl rfl
theorem u124_68 : wp scr n mb_124 68 [l0, l1, l2, l3, l4, some (.long z), l6, l7, l8, l9, l10, l11] st M Q ↔ wp scr n mb_124 70 [l0, l1, l2, l3, l4, some (.long z), l6, l7, l8, l9, l10, l11] (.long z :: st) M Q := wp_step rfl rfl rfl rfl rfl
theorem u124_70 : wp scr n mb_124 70 L (.long w :: .long z :: st) M Q ↔ (if w = 0 then False else wp scr n mb_124 71 L (.long (z / w) :: st) M Q) := wp_ldiv rfl
theorem u124_71 : wp scr n mb_124 71 L [.long z] M Q ↔ Q (some (.long z)) M := wp_ret rfl rfl
theorem e124 : Wp scr (n + 1) 124 [.long z1, .long z2, .int x3] M Q ↔ wp scr n mb_124 0 [some (.long z1), none, some (.long z2), none, some (.int x3), none, none, none, none, none, none, none] [] M Q := Wp_to rfl rfl rfl
/-- SmallerInTheShop mean (I)J -/
def mb_125 : mw_B := ((Option.some FieldType.long), mp_125)
theorem u125_0 : wp scr n mb_125 0 [l0, some (.int x)] st M Q ↔ wp scr n mb_125 1 [l0, some (.int x)] (.int x :: st) M Q := wp_step rfl rfl rfl rfl rfl
theorem u125_1 : wp scr n mb_125 1 L st M Q ↔ wp scr n mb_125 2 L (.int 2 :: st) M Q := wp_step rfl rfl rfl rfl rfl
theorem u125_2 : wp scr n mb_125 2 L (a2 :: a1 :: st) M Q ↔ (mw_st st ∧ Wp scr n 89 [a1, a2] M (fun r1 M1 => wp scr n mb_125 5 L (r1.toList ++ st) M1 Q)) := wp_sta rfl rfl rfl rfl
theorem u125_5 : wp scr n mb_125 5 L (.int x :: st) M Q ↔ (if x = 0 then wp scr n mb_125 8 L st M Q else wp scr n mb_125 15 L st M Q) := (wp_step rfl rfl rfl rfl rfl).trans wp_iten
theorem u125_8 : wp scr n mb_125 8 [some (.ref a), l1] st M Q ↔ wp scr n mb_125 9 [some (.ref a), l1] (.ref a :: st) M Q := wp_step rfl rfl rfl rfl rfl
theorem u125_9 : wp scr n mb_125 9 L st M Q ↔ wp scr n mb_125 11 L (.int (-2) :: st) M Q := wp_step rfl rfl rfl rfl rfl
theorem u125_11 : wp scr n mb_125 11 L (a2 :: .ref a :: st) M Q ↔ ((mw_r M a 5 ∧ mw_st st) ∧ Wp scr n 120 [.ref a, a2] M (fun r1 M1 => wp scr n mb_125 14 L (r1.toList ++ st) M1 Q)) := wp_vir rfl rfl rfl rfl rfl
theorem u125_14 : wp scr n mb_125 14 L [.long z] M Q ↔ Q (some (.long z)) M := wp_ret rfl rfl
theorem u125_15 : wp scr n mb_125 15 [some (.ref a), l1] st M Q ↔ wp scr n mb_125 16 [some (.ref a), l1] (.ref a :: st) M Q := wp_step rfl rfl rfl rfl rfl
theorem u125_16 : wp scr n mb_125 16 L (o :: st) M Q ↔ mw_o (mm_fld (mc_X scr) M o 5 0) (fun v => wp scr n mb_125 19 L (v :: st) M Q) := wp_getf rfl
theorem u125_19 : wp scr n mb_125 19 L (.ref a :: st) M Q ↔ ((mw_r M a 4 ∧ mw_st st) ∧ Wp scr n 81 [.ref a] M (fun r1 M1 => wp scr n mb_125 22 L (r1.toList ++ st) M1 Q)) := wp_vir rfl rfl rfl rfl rfl
theorem u125_22 : wp scr n mb_125 22 L (.int x :: st) M Q ↔ wp scr n mb_125 23 L (.long x.toInt64 :: st) M Q := wp_step rfl rfl rfl rfl rfl
theorem u125_23 : wp scr n mb_125 23 L st M Q ↔ wp scr n mb_125 26 L (.long (10) :: st) M Q := wp_step rfl rfl rfl rfl rfl
theorem u125_26 : wp scr n mb_125 26 [l0, some (.int x)] st M Q ↔ wp scr n mb_125 27 [l0, some (.int x)] (.int x :: st) M Q := wp_step rfl rfl rfl rfl rfl
theorem u125_27 : wp scr n mb_125 27 L (a3 :: a2 :: a1 :: st) M Q ↔ (mw_st st ∧ Wp scr n 124 [a1, a2, a3] M (fun r1 M1 => wp scr n mb_125 30 L (r1.toList ++ st) M1 Q)) := wp_sta rfl rfl rfl rfl
theorem u125_30 : wp scr n mb_125 30 L [.long z] M Q ↔ Q (some (.long z)) M := wp_ret rfl rfl
theorem e125 : Wp scr (n + 1) 125 [.ref a0, .int x1] M Q ↔ wp scr n mb_125 0 [some (.ref a0), some (.int x1)] [] M Q := Wp_to rfl rfl rfl
/-- SmallerInTheShop whatIs (II)I -/
def mb_126 : mw_B := ((Option.some FieldType.int), mp_126)
theorem u126_0 : wp scr n mb_126 0 [l0, some (.int x), l2] st M Q ↔ wp scr n mb_126 1 [l0, some (.int x), l2] (.int x :: st) M Q := wp_step rfl rfl rfl rfl rfl
theorem u126_1 : wp scr n mb_126 1 L st M Q ↔ wp scr n mb_126 3 L (.int 10 :: st) M Q := wp_step rfl rfl rfl rfl rfl
theorem u126_3 : wp scr n mb_126 3 L (a2 :: a1 :: st) M Q ↔ (mw_st st ∧ Wp scr n 89 [a1, a2] M (fun r1 M1 => wp scr n mb_126 6 L (r1.toList ++ st) M1 Q)) := wp_sta rfl rfl rfl rfl
theorem u126_6 : wp scr n mb_126 6 L (.int x :: st) M Q ↔ (if x = 0 then wp scr n mb_126 9 L st M Q else wp scr n mb_126 15 L st M Q) := (wp_step rfl rfl rfl rfl rfl).trans wp_iten
theorem u126_9 : wp scr n mb_126 9 [some (.ref a), l1, l2] st M Q ↔ wp scr n mb_126 10 [some (.ref a), l1, l2] (.ref a :: st) M Q := wp_step rfl rfl rfl rfl rfl
theorem u126_10 : wp scr n mb_126 10 L st M Q ↔ wp scr n mb_126 11 L (.int (-1) :: st) M Q := wp_step rfl rfl rfl rfl rfl
theorem u126_11 : wp scr n mb_126 11 L (a2 :: .ref a :: st) M Q ↔ ((mw_r M a 5 ∧ mw_st st) ∧ Wp scr n 84 [.ref a, a2] M (fun r1 M1 => wp scr n mb_126 14 L (r1.toList ++ st) M1 Q)) := wp_vir rfl rfl rfl rfl rfl
theorem u126_14 : wp scr n mb_126 14 L [.int x] M Q ↔ Q (some (.int x)) M := wp_ret rfl rfl
theorem u126_15 : wp scr n mb_126 15 [l0, l1, some (.int x)] st M Q ↔ wp scr n mb_126 16 [l0, l1, some (.int x)] (.int x :: st) M Q := wp_step rfl rfl rfl rfl rfl
theorem u126_16 : wp scr n mb_126 16 L st M Q ↔ wp scr n mb_126 17 L (.int 2 :: st) M Q := wp_step rfl rfl rfl rfl rfl
theorem u126_17 : wp scr n mb_126 17 L (a2 :: a1 :: st) M Q ↔ (mw_st st ∧ Wp scr n 89 [a1, a2] M (fun r1 M1 => wp scr n mb_126 20 L (r1.toList ++ st) M1 Q)) := wp_sta rfl rfl rfl rfl
theorem u126_20 : wp scr n mb_126 20 L (.int x :: st) M Q ↔ (if x = 0 then wp scr n mb_126 23 L st M Q else wp scr n mb_126 30 L st M Q) := (wp_step rfl rfl rfl rfl rfl).trans wp_iten
theorem u126_23 : wp scr n mb_126 23 [some (.ref a), l1, l2] st M Q ↔ wp scr n mb_126 24 [some (.ref a), l1, l2] (.ref a :: st) M Q := wp_step rfl rfl rfl rfl rfl
theorem u126_24 : wp scr n mb_126 24 L st M Q ↔ wp scr n mb_126 26 L (.int (-2) :: st) M Q := wp_step rfl rfl rfl rfl rfl
theorem u126_26 : wp scr n mb_126 26 L (a2 :: .ref a :: st) M Q ↔ ((mw_r M a 5 ∧ mw_st st) ∧ Wp scr n 84 [.ref a, a2] M (fun r1 M1 => wp scr n mb_126 29 L (r1.toList ++ st) M1 Q)) := wp_vir rfl rfl rfl rfl rfl
theorem u126_29 : wp scr n mb_126 29 L [.int x] M Q ↔ Q (some (.int x)) M := wp_ret rfl rfl
theorem u126_30 : wp scr n mb_126 30 [some (.ref a), l1, l2] st M Q ↔ wp scr n mb_126 31 [some (.ref a), l1, l2] (.ref a :: st) M Q := wp_step rfl rfl rfl rfl rfl
theorem u126_31 : wp scr n mb_126 31 L (o :: st) M Q ↔ mw_o (mm_fld (mc_X scr) M o 5 8) (fun v => wp scr n mb_126 34 L (v :: st) M Q) := wp_getf rfl
theorem u126_34 : wp scr n mb_126 34 L st M Q ↔ wp scr n mb_126 35 L (.int 2 :: st) M Q := wp_step rfl rfl rfl rfl rfl
theorem u126_35 : wp scr n mb_126 35 L (.int y :: .int x :: st) M Q ↔ (if y = 0 then False else wp scr n mb_126 36 L (.int (x - x / y * y) :: st) M Q) := wp_irem rfl
theorem u126_36 : wp scr n mb_126 36 L (.int x :: st) M Q ↔ (if x = 0 then wp scr n mb_126 46 L st M Q else wp scr n mb_126 39 L st M Q) := (wp_step rfl rfl rfl rfl rfl).trans wp_ite
theorem u126_39 : wp scr n mb_126 39 [some (.ref a), l1, l2] st M Q ↔ wp scr n mb_126 40 [some (.ref a), l1, l2] (.ref a :: st) M Q := wp_step rfl rfl rfl rfl rfl
theorem u126_40 : wp scr n mb_126 40 L st M Q ↔ wp scr n mb_126 42 L (.int (-3) :: st) M Q := wp_step rfl rfl rfl rfl rfl
theorem u126_42 : wp scr n mb_126 42 L (a2 :: .ref a :: st) M Q ↔ ((mw_r M a 5 ∧ mw_st st) ∧ Wp scr n 84 [.ref a, a2] M (fun r1 M1 => wp scr n mb_126 45 L (r1.toList ++ st) M1 Q)) := wp_vir rfl rfl rfl rfl rfl
theorem u126_45 : wp scr n mb_126 45 L [.int x] M Q ↔ Q (some (.int x)) M := wp_ret rfl rfl
theorem u126_46 : wp scr n mb_126 46 [l0, l1, some (.int x)] st M Q ↔ wp scr n mb_126 47 [l0, l1, some (.int x)] (.int x :: st) M Q := wp_step rfl rfl rfl rfl rfl
theorem u126_47 : wp scr n mb_126 47 L (.int x :: st) M Q ↔ (if x = 0 then wp scr n mb_126 50 L st M Q else wp scr n mb_126 66 L st M Q) := (wp_step rfl rfl rfl rfl rfl).trans wp_iten
theorem u126_50 : wp scr n mb_126 50 [some (.ref a), l1, l2] st M Q ↔ wp scr n mb_126 51 [some (.ref a), l1, l2] (.ref a :: st) M Q := wp_step rfl rfl rfl rfl rfl
theorem u126_51 : wp scr n mb_126 51 [some (.ref a), l1, l2] st M Q ↔ wp scr n mb_126 52 [some (.ref a), l1, l2] (.ref a :: st) M Q := wp_step rfl rfl rfl rfl rfl
theorem u126_52 : wp scr n mb_126 52 L (o :: st) M Q ↔ mw_o (mm_fld (mc_X scr) M o 5 0) (fun v => wp scr n mb_126 55 L (v :: st) M Q) := wp_getf rfl
theorem u126_55 : wp scr n mb_126 55 L (o :: st) M Q ↔ mw_o (mm_fld (mc_X scr) M o 4 2) (fun v => wp scr n mb_126 58 L (v :: st) M Q) := wp_getf rfl
theorem u126_58 : wp scr n mb_126 58 [l0, some (.int x), l2] st M Q ↔ wp scr n mb_126 59 [l0, some (.int x), l2] (.int x :: st) M Q := wp_step rfl rfl rfl rfl rfl
theorem u126_59 : wp scr n mb_126 59 L (.int y :: o :: st) M Q ↔ mw_o (mm_ld (mc_X scr) M o y) (fun x => wp scr n mb_126 60 L (.int x :: st) M Q) := wp_iald rfl
theorem u126_60 : wp scr n mb_126 60 L (a2 :: .ref a :: st) M Q ↔ ((mw_r M a 5 ∧ mw_st st) ∧ Wp scr n 127 [.ref a, a2] M (fun r1 M1 => wp scr n mb_126 63 L (r1.toList ++ st) M1 Q)) := wp_vir rfl rfl rfl rfl rfl
theorem u126_63 : wp scr n mb_126 63 L st M Q ↔ wp scr n mb_126 79 L st M Q := wp_step rfl rfl rfl rfl rfl
theorem u126_66 : wp scr n mb_126 66 [some (.ref a), l1, l2] st M Q ↔ wp scr n mb_126 67 [some (.ref a), l1, l2] (.ref a :: st) M Q := wp_step rfl rfl rfl rfl rfl
theorem u126_67 : wp scr n mb_126 67 [some (.ref a), l1, l2] st M Q ↔ wp scr n mb_126 68 [some (.ref a), l1, l2] (.ref a :: st) M Q := wp_step rfl rfl rfl rfl rfl
theorem u126_68 : wp scr n mb_126 68 L (o :: st) M Q ↔ mw_o (mm_fld (mc_X scr) M o 5 0) (fun v => wp scr n mb_126 71 L (v :: st) M Q) := wp_getf rfl
theorem u126_71 : wp scr n mb_126 71 L (o :: st) M Q ↔ mw_o (mm_fld (mc_X scr) M o 4 1) (fun v => wp scr n mb_126 74 L (v :: st) M Q) := wp_getf rfl
theorem u126_74 : wp scr n mb_126 74 [l0, some (.int x), l2] st M Q ↔ wp scr n mb_126 75 [l0, some (.int x), l2] (.int x :: st) M Q := wp_step rfl rfl rfl rfl rfl
theorem u126_75 : wp scr n mb_126 75 L (.int y :: o :: st) M Q ↔ mw_o (mm_ld (mc_X scr) M o y) (fun x => wp scr n mb_126 76 L (.int x :: st) M Q) := wp_iald rfl
theorem u126_76 : wp scr n mb_126 76 L (a2 :: .ref a :: st) M Q ↔ ((mw_r M a 5 ∧ mw_st st) ∧ Wp scr n 129 [.ref a, a2] M (fun r1 M1 => wp scr n mb_126 79 L (r1.toList ++ st) M1 Q)) := wp_vir rfl rfl rfl rfl rfl
theorem u126_79 : wp scr n mb_126 79 L [.int x] M Q ↔ Q (some (.int x)) M := wp_ret rfl rfl
theorem e126 : Wp scr (n + 1) 126 [.ref a0, .int x1, .int x2] M Q ↔ wp scr n mb_126 0 [some (.ref a0), some (.int x1), some (.int x2)] [] M Q := Wp_to rfl rfl rfl
/-- SmallerInTheShop kindsThatFit (I)I -/
def mb_127 : mw_B := ((Option.some FieldType.int), mp_127)
theorem u127_0 : wp scr n mb_127 0 L st M Q ↔ wp scr n mb_127 1 L (.int 0 :: st) M Q := wp_step rfl rfl rfl rfl rfl
theorem u127_1 : wp scr n mb_127 1 [l0, l1, l2, l3] (.int x :: st) M Q ↔ wp scr n mb_127 2 (mm_sto1 [l0, l1, l2, l3] 2 (.int x)) st M Q := wp_step rfl rfl rfl rfl rfl
theorem u127_2 : wp scr n mb_127 2 L st M Q ↔ wp scr n mb_127 3 L (.int 0 :: st) M Q := wp_step rfl rfl rfl rfl rfl
theorem u127_3 : wp scr n mb_127 3 [l0, l1, l2, l3] (.int x :: st) M Q ↔ wp scr n mb_127 4 (mm_sto1 [l0, l1, l2, l3] 3 (.int x)) st M Q := wp_step rfl rfl rfl rfl rfl
theorem u127_4 : wp scr n mb_127 4 [l0, l1, l2, some (.int x)] st M Q ↔ wp scr n mb_127 5 [l0, l1, l2, some (.int x)] (.int x :: st) M Q := wp_step rfl rfl rfl rfl rfl
theorem u127_5 : wp scr n mb_127 5 L st M Q ↔ wp scr n mb_127 7 L (.int 6 :: st) M Q := wp_step rfl rfl rfl rfl rfl
theorem u127_7 : wp scr n mb_127 7 L (.int y :: .int x :: st) M Q ↔ (if y ≤ x then wp scr n mb_127 31 L st M Q else wp scr n mb_127 10 L st M Q) := (wp_step rfl rfl rfl rfl rfl).trans wp_ite
theorem u127_10 : wp scr n mb_127 10 [some (.ref a), l1, l2, l3] st M Q ↔ wp scr n mb_127 11 [some (.ref a), l1, l2, l3] (.ref a :: st) M Q := wp_step rfl rfl rfl rfl rfl
theorem u127_11 : wp scr n mb_127 11 [l0, l1, l2, some (.int x)] st M Q ↔ wp scr n mb_127 12 [l0, l1, l2, some (.int x)] (.int x :: st) M Q := wp_step rfl rfl rfl rfl rfl
theorem u127_12 : wp scr n mb_127 12 [l0, some (.int x), l2, l3] st M Q ↔ wp scr n mb_127 13 [l0, some (.int x), l2, l3] (.int x :: st) M Q := wp_step rfl rfl rfl rfl rfl
theorem u127_13 : wp scr n mb_127 13 L (a3 :: a2 :: .ref a :: st) M Q ↔ ((mw_r M a 5 ∧ mw_st st) ∧ Wp scr n 128 [.ref a, a2, a3] M (fun r1 M1 => wp scr n mb_127 16 L (r1.toList ++ st) M1 Q)) := wp_vir rfl rfl rfl rfl rfl
theorem u127_16 : wp scr n mb_127 16 L (.int x :: st) M Q ↔ (if x = 0 then wp scr n mb_127 25 L st M Q else wp scr n mb_127 19 L st M Q) := (wp_step rfl rfl rfl rfl rfl).trans wp_ite
theorem u127_19 : wp scr n mb_127 19 [l0, l1, some (.int x), l3] st M Q ↔ wp scr n mb_127 20 [l0, l1, some (.int x), l3] (.int x :: st) M Q := wp_step rfl rfl rfl rfl rfl
theorem u127_20 : wp scr n mb_127 20 L st M Q ↔ wp scr n mb_127 21 L (.int 1 :: st) M Q := wp_step rfl rfl rfl rfl rfl
theorem u127_21 : wp scr n mb_127 21 [l0, l1, l2, some (.int x)] st M Q ↔ wp scr n mb_127 22 [l0, l1, l2, some (.int x)] (.int x :: st) M Q := wp_step rfl rfl rfl rfl rfl
theorem u127_22 : wp scr n mb_127 22 L (.int y :: .int x :: st) M Q ↔ wp scr n mb_127 23 L (.int (x <<< (y &&& 31)) :: st) M Q := wp_step rfl rfl rfl rfl rfl
theorem u127_23 : wp scr n mb_127 23 L (.int y :: .int x :: st) M Q ↔ wp scr n mb_127 24 L (.int (x ||| y) :: st) M Q := wp_step rfl rfl rfl rfl rfl
theorem u127_24 : wp scr n mb_127 24 [l0, l1, l2, l3] (.int x :: st) M Q ↔ wp scr n mb_127 25 (mm_sto1 [l0, l1, l2, l3] 2 (.int x)) st M Q := wp_step rfl rfl rfl rfl rfl
theorem u127_25 : wp scr n mb_127 25 [l0, l1, l2, some (.int x)] st M Q ↔ wp scr n mb_127 28 (mm_sto1 [l0, l1, l2, some (.int x)] 3 (.int (x + 1))) st M Q := wp_step rfl rfl rfl rfl rfl
theorem u127_28 : wp scr n mb_127 28 L st M Q ↔ wp scr n mb_127 4 L st M Q := wp_step rfl rfl rfl rfl rfl
theorem u127_31 : wp scr n mb_127 31 [l0, l1, some (.int x), l3] st M Q ↔ wp scr n mb_127 32 [l0, l1, some (.int x), l3] (.int x :: st) M Q := wp_step rfl rfl rfl rfl rfl
theorem u127_32 : wp scr n mb_127 32 L [.int x] M Q ↔ Q (some (.int x)) M := wp_ret rfl rfl
theorem e127 : Wp scr (n + 1) 127 [.ref a0, .int x1] M Q ↔ wp scr n mb_127 0 [some (.ref a0), some (.int x1), none, none] [] M Q := Wp_to rfl rfl rfl
/-- SmallerInTheShop fitsAllPairs (II)Z -/
def mb_128 : mw_B := ((Option.some FieldType.boolean), mp_128)
theorem u128_0 : wp scr n mb_128 0 L st M Q ↔ wp scr n mb_128 1 L (.int 0 :: st) M Q := wp_step rfl rfl rfl rfl rfl
theorem u128_1 : wp scr n mb_128 1 [l0, l1, l2, l3] (.int x :: st) M Q ↔ wp scr n mb_128 2 (mm_sto1 [l0, l1, l2, l3] 3 (.int x)) st M Q := wp_step rfl rfl rfl rfl rfl
theorem u128_2 : wp scr n mb_128 2 [l0, l1, l2, some (.int x)] st M Q ↔ wp scr n mb_128 3 [l0, l1, l2, some (.int x)] (.int x :: st) M Q := wp_step rfl rfl rfl rfl rfl
theorem u128_3 : wp scr n mb_128 3 L st M Q ↔ wp scr n mb_128 4 L (.int 1 :: st) M Q := wp_step rfl rfl rfl rfl rfl
theorem u128_4 : wp scr n mb_128 4 L (.int y :: .int x :: st) M Q ↔ wp scr n mb_128 5 L (.int (x + y) :: st) M Q := wp_step rfl rfl rfl rfl rfl
theorem u128_5 : wp scr n mb_128 5 [some (.ref a), l1, l2, l3] st M Q ↔ wp scr n mb_128 6 [some (.ref a), l1, l2, l3] (.ref a :: st) M Q := wp_step rfl rfl rfl rfl rfl
theorem u128_6 : wp scr n mb_128 6 L (o :: st) M Q ↔ mw_o (mm_fld (mc_X scr) M o 5 8) (fun v => wp scr n mb_128 9 L (v :: st) M Q) := wp_getf rfl
theorem u128_9 : wp scr n mb_128 9 L (.int y :: .int x :: st) M Q ↔ (if y ≤ x then wp scr n mb_128 43 L st M Q else wp scr n mb_128 12 L st M Q) := (wp_step rfl rfl rfl rfl rfl).trans wp_ite
theorem u128_12 : wp scr n mb_128 12 [l0, some (.int x), l2, l3] st M Q ↔ wp scr n mb_128 13 [l0, some (.int x), l2, l3] (.int x :: st) M Q := wp_step rfl rfl rfl rfl rfl
theorem u128_13 : wp scr n mb_128 13 [l0, l1, some (.int x), l3] st M Q ↔ wp scr n mb_128 14 [l0, l1, some (.int x), l3] (.int x :: st) M Q := wp_step rfl rfl rfl rfl rfl
theorem u128_14 : wp scr n mb_128 14 [some (.ref a), l1, l2, l3] st M Q ↔ wp scr n mb_128 15 [some (.ref a), l1, l2, l3] (.ref a :: st) M Q := wp_step rfl rfl rfl rfl rfl
theorem u128_15 : wp scr n mb_128 15 L (o :: st) M Q ↔ mw_o (mm_fld (mc_X scr) M o 5 6) (fun v => wp scr n mb_128 18 L (v :: st) M Q) := wp_getf rfl
theorem u128_18 : wp scr n mb_128 18 [l0, l1, l2, some (.int x)] st M Q ↔ wp scr n mb_128 19 [l0, l1, l2, some (.int x)] (.int x :: st) M Q := wp_step rfl rfl rfl rfl rfl
theorem u128_19 : wp scr n mb_128 19 L (.int y :: o :: st) M Q ↔ mw_o (mm_ld (mc_X scr) M o y) (fun x => wp scr n mb_128 20 L (.int x :: st) M Q) := wp_iald rfl
theorem u128_20 : wp scr n mb_128 20 L st M Q ↔ wp scr n mb_128 21 L (.int 1 :: st) M Q := wp_step rfl rfl rfl rfl rfl
theorem u128_21 : wp scr n mb_128 21 L (a4 :: a3 :: a2 :: a1 :: st) M Q ↔ (mw_st st ∧ Wp scr n 16 [a1, a2, a3, a4] M (fun r1 M1 => wp scr n mb_128 24 L (r1.toList ++ st) M1 Q)) := wp_sta rfl rfl rfl rfl
theorem u128_24 : wp scr n mb_128 24 [some (.ref a), l1, l2, l3] st M Q ↔ wp scr n mb_128 25 [some (.ref a), l1, l2, l3] (.ref a :: st) M Q := wp_step rfl rfl rfl rfl rfl
theorem u128_25 : wp scr n mb_128 25 L (o :: st) M Q ↔ mw_o (mm_fld (mc_X scr) M o 5 6) (fun v => wp scr n mb_128 28 L (v :: st) M Q) := wp_getf rfl
theorem u128_28 : wp scr n mb_128 28 [l0, l1, l2, some (.int x)] st M Q ↔ wp scr n mb_128 29 [l0, l1, l2, some (.int x)] (.int x :: st) M Q := wp_step rfl rfl rfl rfl rfl
theorem u128_29 : wp scr n mb_128 29 L st M Q ↔ wp scr n mb_128 30 L (.int 1 :: st) M Q := wp_step rfl rfl rfl rfl rfl
theorem u128_30 : wp scr n mb_128 30 L (.int y :: .int x :: st) M Q ↔ wp scr n mb_128 31 L (.int (x + y) :: st) M Q := wp_step rfl rfl rfl rfl rfl
theorem u128_31 : wp scr n mb_128 31 L (.int y :: o :: st) M Q ↔ mw_o (mm_ld (mc_X scr) M o y) (fun x => wp scr n mb_128 32 L (.int x :: st) M Q) := wp_iald rfl
theorem u128_32 : wp scr n mb_128 32 L (.int y :: .int x :: st) M Q ↔ (if x = y then wp scr n mb_128 37 L st M Q else wp scr n mb_128 35 L st M Q) := (wp_step rfl rfl rfl rfl rfl).trans wp_ite
theorem u128_35 : wp scr n mb_128 35 L st M Q ↔ wp scr n mb_128 36 L (.int 0 :: st) M Q := wp_step rfl rfl rfl rfl rfl
theorem u128_36 : wp scr n mb_128 36 L [.int x] M Q ↔ ((x = 0 ∨ x = 1) ∧ Q (some (.int x)) M) := wp_retb rfl rfl
theorem u128_37 : wp scr n mb_128 37 [l0, l1, l2, some (.int x)] st M Q ↔ wp scr n mb_128 40 (mm_sto1 [l0, l1, l2, some (.int x)] 3 (.int (x + 2))) st M Q := wp_step rfl rfl rfl rfl rfl
theorem u128_40 : wp scr n mb_128 40 L st M Q ↔ wp scr n mb_128 2 L st M Q := wp_step rfl rfl rfl rfl rfl
theorem u128_43 : wp scr n mb_128 43 L st M Q ↔ wp scr n mb_128 44 L (.int 1 :: st) M Q := wp_step rfl rfl rfl rfl rfl
theorem u128_44 : wp scr n mb_128 44 L [.int x] M Q ↔ ((x = 0 ∨ x = 1) ∧ Q (some (.int x)) M) := wp_retb rfl rfl
theorem e128 : Wp scr (n + 1) 128 [.ref a0, .int x1, .int x2] M Q ↔ wp scr n mb_128 0 [some (.ref a0), some (.int x1), some (.int x2), none] [] M Q := Wp_to rfl rfl rfl
/-- SmallerInTheShop figuresThatFit (I)I -/
def mb_129 : mw_B := ((Option.some FieldType.int), mp_129)
theorem u129_0 : wp scr n mb_129 0 L st M Q ↔ wp scr n mb_129 1 L (.int 0 :: st) M Q := wp_step rfl rfl rfl rfl rfl
theorem u129_1 : wp scr n mb_129 1 [l0, l1, l2, l3] (.int x :: st) M Q ↔ wp scr n mb_129 2 (mm_sto1 [l0, l1, l2, l3] 2 (.int x)) st M Q := wp_step rfl rfl rfl rfl rfl
theorem u129_2 : wp scr n mb_129 2 L st M Q ↔ wp scr n mb_129 3 L (.int 0 :: st) M Q := wp_step rfl rfl rfl rfl rfl
theorem u129_3 : wp scr n mb_129 3 [l0, l1, l2, l3] (.int x :: st) M Q ↔ wp scr n mb_129 4 (mm_sto1 [l0, l1, l2, l3] 3 (.int x)) st M Q := wp_step rfl rfl rfl rfl rfl
theorem u129_4 : wp scr n mb_129 4 [l0, l1, l2, some (.int x)] st M Q ↔ wp scr n mb_129 5 [l0, l1, l2, some (.int x)] (.int x :: st) M Q := wp_step rfl rfl rfl rfl rfl
theorem u129_5 : wp scr n mb_129 5 L st M Q ↔ wp scr n mb_129 7 L (.int 9 :: st) M Q := wp_step rfl rfl rfl rfl rfl
theorem u129_7 : wp scr n mb_129 7 L (.int y :: .int x :: st) M Q ↔ (if y < x then wp scr n mb_129 31 L st M Q else wp scr n mb_129 10 L st M Q) := (wp_step rfl rfl rfl rfl rfl).trans wp_ite
theorem u129_10 : wp scr n mb_129 10 [some (.ref a), l1, l2, l3] st M Q ↔ wp scr n mb_129 11 [some (.ref a), l1, l2, l3] (.ref a :: st) M Q := wp_step rfl rfl rfl rfl rfl
theorem u129_11 : wp scr n mb_129 11 [l0, some (.int x), l2, l3] st M Q ↔ wp scr n mb_129 12 [l0, some (.int x), l2, l3] (.int x :: st) M Q := wp_step rfl rfl rfl rfl rfl
theorem u129_12 : wp scr n mb_129 12 [l0, l1, l2, some (.int x)] st M Q ↔ wp scr n mb_129 13 [l0, l1, l2, some (.int x)] (.int x :: st) M Q := wp_step rfl rfl rfl rfl rfl
theorem u129_13 : wp scr n mb_129 13 L (a3 :: a2 :: .ref a :: st) M Q ↔ ((mw_r M a 5 ∧ mw_st st) ∧ Wp scr n 128 [.ref a, a2, a3] M (fun r1 M1 => wp scr n mb_129 16 L (r1.toList ++ st) M1 Q)) := wp_vir rfl rfl rfl rfl rfl
theorem u129_16 : wp scr n mb_129 16 L (.int x :: st) M Q ↔ (if x = 0 then wp scr n mb_129 25 L st M Q else wp scr n mb_129 19 L st M Q) := (wp_step rfl rfl rfl rfl rfl).trans wp_ite
theorem u129_19 : wp scr n mb_129 19 [l0, l1, some (.int x), l3] st M Q ↔ wp scr n mb_129 20 [l0, l1, some (.int x), l3] (.int x :: st) M Q := wp_step rfl rfl rfl rfl rfl
theorem u129_20 : wp scr n mb_129 20 L st M Q ↔ wp scr n mb_129 21 L (.int 1 :: st) M Q := wp_step rfl rfl rfl rfl rfl
theorem u129_21 : wp scr n mb_129 21 [l0, l1, l2, some (.int x)] st M Q ↔ wp scr n mb_129 22 [l0, l1, l2, some (.int x)] (.int x :: st) M Q := wp_step rfl rfl rfl rfl rfl
theorem u129_22 : wp scr n mb_129 22 L (.int y :: .int x :: st) M Q ↔ wp scr n mb_129 23 L (.int (x <<< (y &&& 31)) :: st) M Q := wp_step rfl rfl rfl rfl rfl
theorem u129_23 : wp scr n mb_129 23 L (.int y :: .int x :: st) M Q ↔ wp scr n mb_129 24 L (.int (x ||| y) :: st) M Q := wp_step rfl rfl rfl rfl rfl
theorem u129_24 : wp scr n mb_129 24 [l0, l1, l2, l3] (.int x :: st) M Q ↔ wp scr n mb_129 25 (mm_sto1 [l0, l1, l2, l3] 2 (.int x)) st M Q := wp_step rfl rfl rfl rfl rfl
theorem u129_25 : wp scr n mb_129 25 [l0, l1, l2, some (.int x)] st M Q ↔ wp scr n mb_129 28 (mm_sto1 [l0, l1, l2, some (.int x)] 3 (.int (x + 1))) st M Q := wp_step rfl rfl rfl rfl rfl
theorem u129_28 : wp scr n mb_129 28 L st M Q ↔ wp scr n mb_129 4 L st M Q := wp_step rfl rfl rfl rfl rfl
theorem u129_31 : wp scr n mb_129 31 [l0, l1, some (.int x), l3] st M Q ↔ wp scr n mb_129 32 [l0, l1, some (.int x), l3] (.int x :: st) M Q := wp_step rfl rfl rfl rfl rfl
theorem u129_32 : wp scr n mb_129 32 L [.int x] M Q ↔ Q (some (.int x)) M := wp_ret rfl rfl
theorem e129 : Wp scr (n + 1) 129 [.ref a0, .int x1] M Q ↔ wp scr n mb_129 0 [some (.ref a0), some (.int x1), none, none] [] M Q := Wp_to rfl rfl rfl
/-- SmallerInTheShop row (I)I -/
def mb_130 : mw_B := ((Option.some FieldType.int), mp_130)
theorem u130_0 : wp scr n mb_130 0 [l0, some (.int x)] st M Q ↔ wp scr n mb_130 1 [l0, some (.int x)] (.int x :: st) M Q := wp_step rfl rfl rfl rfl rfl
theorem u130_1 : wp scr n mb_130 1 L (.int x :: st) M Q ↔ (if 0 ≤ x then wp scr n mb_130 11 L st M Q else wp scr n mb_130 4 L st M Q) := (wp_step rfl rfl rfl rfl rfl).trans wp_ite
theorem u130_4 : wp scr n mb_130 4 [some (.ref a), l1] st M Q ↔ wp scr n mb_130 5 [some (.ref a), l1] (.ref a :: st) M Q := wp_step rfl rfl rfl rfl rfl
theorem u130_5 : wp scr n mb_130 5 L st M Q ↔ wp scr n mb_130 7 L (.int (-4) :: st) M Q := wp_step rfl rfl rfl rfl rfl
theorem u130_7 : wp scr n mb_130 7 L (a2 :: .ref a :: st) M Q ↔ ((mw_r M a 5 ∧ mw_st st) ∧ Wp scr n 84 [.ref a, a2] M (fun r1 M1 => wp scr n mb_130 10 L (r1.toList ++ st) M1 Q)) := wp_vir rfl rfl rfl rfl rfl
theorem u130_10 : wp scr n mb_130 10 L [.int x] M Q ↔ Q (some (.int x)) M := wp_ret rfl rfl
theorem u130_11 : wp scr n mb_130 11 [l0, some (.int x)] st M Q ↔ wp scr n mb_130 12 [l0, some (.int x)] (.int x :: st) M Q := wp_step rfl rfl rfl rfl rfl
theorem u130_12 : wp scr n mb_130 12 L st M Q ↔ wp scr n mb_130 14 L (.int 99 :: st) M Q := wp_step rfl rfl rfl rfl rfl
theorem u130_14 : wp scr n mb_130 14 L (.int y :: .int x :: st) M Q ↔ (if y < x then wp scr n mb_130 26 L st M Q else wp scr n mb_130 17 L st M Q) := (wp_step rfl rfl rfl rfl rfl).trans wp_ite
theorem u130_17 : wp scr n mb_130 17 [some (.ref a), l1] st M Q ↔ wp scr n mb_130 18 [some (.ref a), l1] (.ref a :: st) M Q := wp_step rfl rfl rfl rfl rfl
theorem u130_18 : wp scr n mb_130 18 L (o :: st) M Q ↔ mw_o (mm_fld (mc_X scr) M o 5 8) (fun v => wp scr n mb_130 21 L (v :: st) M Q) := wp_getf rfl
theorem u130_21 : wp scr n mb_130 21 L st M Q ↔ wp scr n mb_130 23 L (.int 16 :: st) M Q := wp_step rfl rfl rfl rfl rfl
theorem u130_23 : wp scr n mb_130 23 L (.int y :: .int x :: st) M Q ↔ (if x < y then wp scr n mb_130 33 L st M Q else wp scr n mb_130 26 L st M Q) := (wp_step rfl rfl rfl rfl rfl).trans wp_ite
theorem u130_26 : wp scr n mb_130 26 [some (.ref a), l1] st M Q ↔ wp scr n mb_130 27 [some (.ref a), l1] (.ref a :: st) M Q := wp_step rfl rfl rfl rfl rfl
theorem u130_27 : wp scr n mb_130 27 L st M Q ↔ wp scr n mb_130 29 L (.int (-6) :: st) M Q := wp_step rfl rfl rfl rfl rfl
theorem u130_29 : wp scr n mb_130 29 L (a2 :: .ref a :: st) M Q ↔ ((mw_r M a 5 ∧ mw_st st) ∧ Wp scr n 84 [.ref a, a2] M (fun r1 M1 => wp scr n mb_130 32 L (r1.toList ++ st) M1 Q)) := wp_vir rfl rfl rfl rfl rfl
theorem u130_32 : wp scr n mb_130 32 L [.int x] M Q ↔ Q (some (.int x)) M := wp_ret rfl rfl
theorem u130_33 : wp scr n mb_130 33 [some (.ref a), l1] st M Q ↔ wp scr n mb_130 34 [some (.ref a), l1] (.ref a :: st) M Q := wp_step rfl rfl rfl rfl rfl
theorem u130_34 : wp scr n mb_130 34 L (o :: st) M Q ↔ mw_o (mm_fld (mc_X scr) M o 5 6) (fun v => wp scr n mb_130 37 L (v :: st) M Q) := wp_getf rfl
theorem u130_37 : wp scr n mb_130 37 [some (.ref a), l1] st M Q ↔ wp scr n mb_130 38 [some (.ref a), l1] (.ref a :: st) M Q := wp_step rfl rfl rfl rfl rfl
theorem u130_38 : wp scr n mb_130 38 L (o :: st) M Q ↔ mw_o (mm_fld (mc_X scr) M o 5 8) (fun v => wp scr n mb_130 41 L (v :: st) M Q) := wp_getf rfl
theorem u130_41 : wp scr n mb_130 41 [l0, some (.int x)] st M Q ↔ wp scr n mb_130 42 [l0, some (.int x)] (.int x :: st) M Q := wp_step rfl rfl rfl rfl rfl
theorem u130_42 : wp scr n mb_130 42 L (.int x :: .int y :: o :: st) M Q ↔ mw_o (mm_sti M o y x) (fun M1 => wp scr n mb_130 43 L st M1 Q) := wp_iast rfl
theorem u130_43 : wp scr n mb_130 43 [some (.ref a), l1] st M Q ↔ wp scr n mb_130 44 [some (.ref a), l1] (.ref a :: st) M Q := wp_step rfl rfl rfl rfl rfl
theorem u130_44 : wp scr n mb_130 44 L (.ref a :: st) M Q ↔ wp scr n mb_130 45 L (.ref a :: .ref a :: st) M Q := wp_step rfl rfl rfl rfl rfl
theorem u130_45 : wp scr n mb_130 45 L (o :: st) M Q ↔ mw_o (mm_fld (mc_X scr) M o 5 8) (fun v => wp scr n mb_130 48 L (v :: st) M Q) := wp_getf rfl
theorem u130_48 : wp scr n mb_130 48 L st M Q ↔ wp scr n mb_130 49 L (.int 1 :: st) M Q := wp_step rfl rfl rfl rfl rfl
theorem u130_49 : wp scr n mb_130 49 L (.int y :: .int x :: st) M Q ↔ wp scr n mb_130 50 L (.int (x + y) :: st) M Q := wp_step rfl rfl rfl rfl rfl
theorem u130_50 : wp scr n mb_130 50 L (v :: o :: st) M Q ↔ mw_o (mm_put mc_fty M o v 5 8) (fun M1 => wp scr n mb_130 53 L st M1 Q) := wp_putf rfl
theorem u130_53 : wp scr n mb_130 53 [some (.ref a), l1] st M Q ↔ wp scr n mb_130 54 [some (.ref a), l1] (.ref a :: st) M Q := wp_step rfl rfl rfl rfl rfl
theorem u130_54 : wp scr n mb_130 54 L (o :: st) M Q ↔ mw_o (mm_fld (mc_X scr) M o 5 8) (fun v => wp scr n mb_130 57 L (v :: st) M Q) := wp_getf rfl
theorem u130_57 : wp scr n mb_130 57 L [.int x] M Q ↔ Q (some (.int x)) M := wp_ret rfl rfl
theorem e130 : Wp scr (n + 1) 130 [.ref a0, .int x1] M Q ↔ wp scr n mb_130 0 [some (.ref a0), some (.int x1)] [] M Q := Wp_to rfl rfl rfl
/-- SmallerInTheShop judge ()I -/
def mb_131 : mw_B := ((Option.some FieldType.int), mp_131)
theorem u131_0 : wp scr n mb_131 0 [some (.ref a), l1] st M Q ↔ wp scr n mb_131 1 [some (.ref a), l1] (.ref a :: st) M Q := wp_step rfl rfl rfl rfl rfl
theorem u131_1 : wp scr n mb_131 1 L (.ref a :: st) M Q ↔ ((mw_r M a 5 ∧ mw_st st) ∧ Wp scr n 121 [.ref a] M (fun r1 M1 => wp scr n mb_131 4 L (r1.toList ++ st) M1 Q)) := wp_vir rfl rfl rfl rfl rfl
theorem u131_4 : wp scr n mb_131 4 [l0, l1] (.int x :: st) M Q ↔ wp scr n mb_131 5 (mm_sto1 [l0, l1] 1 (.int x)) st M Q := wp_step rfl rfl rfl rfl rfl
theorem u131_5 : wp scr n mb_131 5 [some (.ref a), l1] st M Q ↔ wp scr n mb_131 6 [some (.ref a), l1] (.ref a :: st) M Q := wp_step rfl rfl rfl rfl rfl
theorem u131_6 : wp scr n mb_131 6 L st M Q ↔ wp scr n mb_131 7 L (.int 0 :: st) M Q := wp_step rfl rfl rfl rfl rfl
theorem u131_7 : wp scr n mb_131 7 L (v :: o :: st) M Q ↔ mw_o (mm_put mc_fty M o v 5 8) (fun M1 => wp scr n mb_131 10 L st M1 Q) := wp_putf rfl
theorem u131_10 : wp scr n mb_131 10 [l0, some (.int x)] st M Q ↔ wp scr n mb_131 11 [l0, some (.int x)] (.int x :: st) M Q := wp_step rfl rfl rfl rfl rfl
theorem u131_11 : wp scr n mb_131 11 L (.int x :: st) M Q ↔ (if 0 ≤ x then wp scr n mb_131 19 L st M Q else wp scr n mb_131 14 L st M Q) := (wp_step rfl rfl rfl rfl rfl).trans wp_ite
theorem u131_14 : wp scr n mb_131 14 L st M Q ↔ wp scr n mb_131 16 L (.int (-9) :: st) M Q := wp_step rfl rfl rfl rfl rfl
theorem u131_16 : wp scr n mb_131 16 L st M Q ↔ wp scr n mb_131 20 L st M Q := wp_step rfl rfl rfl rfl rfl
theorem u131_19 : wp scr n mb_131 19 [l0, some (.int x)] st M Q ↔ wp scr n mb_131 20 [l0, some (.int x)] (.int x :: st) M Q := wp_step rfl rfl rfl rfl rfl
theorem u131_20 : wp scr n mb_131 20 L [.int x] M Q ↔ Q (some (.int x)) M := wp_ret rfl rfl
theorem e131 : Wp scr (n + 1) 131 [.ref a0] M Q ↔ wp scr n mb_131 0 [some (.ref a0), none] [] M Q := Wp_to rfl rfl rfl
/-- SmallerInTheShop clear ()I -/
def mb_132 : mw_B := ((Option.some FieldType.int), mp_132)
theorem u132_0 : wp scr n mb_132 0 [some (.ref a), l1] st M Q ↔ wp scr n mb_132 1 [some (.ref a), l1] (.ref a :: st) M Q := wp_step rfl rfl rfl rfl rfl
theorem u132_1 : wp scr n mb_132 1 L (o :: st) M Q ↔ mw_o (mm_fld (mc_X scr) M o 5 8) (fun v => wp scr n mb_132 4 L (v :: st) M Q) := wp_getf rfl
theorem u132_4 : wp scr n mb_132 4 [l0, l1] (.int x :: st) M Q ↔ wp scr n mb_132 5 (mm_sto1 [l0, l1] 1 (.int x)) st M Q := wp_step rfl rfl rfl rfl rfl
theorem u132_5 : wp scr n mb_132 5 [some (.ref a), l1] st M Q ↔ wp scr n mb_132 6 [some (.ref a), l1] (.ref a :: st) M Q := wp_step rfl rfl rfl rfl rfl
theorem u132_6 : wp scr n mb_132 6 L st M Q ↔ wp scr n mb_132 7 L (.int 0 :: st) M Q := wp_step rfl rfl rfl rfl rfl
theorem u132_7 : wp scr n mb_132 7 L (v :: o :: st) M Q ↔ mw_o (mm_put mc_fty M o v 5 8) (fun M1 => wp scr n mb_132 10 L st M1 Q) := wp_putf rfl
theorem u132_10 : wp scr n mb_132 10 [l0, some (.int x)] st M Q ↔ wp scr n mb_132 11 [l0, some (.int x)] (.int x :: st) M Q := wp_step rfl rfl rfl rfl rfl
theorem u132_11 : wp scr n mb_132 11 L [.int x] M Q ↔ Q (some (.int x)) M := wp_ret rfl rfl
theorem e132 : Wp scr (n + 1) 132 [.ref a0] M Q ↔ wp scr n mb_132 0 [some (.ref a0), none] [] M Q := Wp_to rfl rfl rfl
/-- SmallerInTheShop lots (III)I -/
def mb_133 : mw_B := ((Option.some FieldType.int), mp_133)
theorem u133_0 : wp scr n mb_133 0 [l0, some (.int x), l2, l3, l4, l5, l6] st M Q ↔ wp scr n mb_133 1 [l0, some (.int x), l2, l3, l4, l5, l6] (.int x :: st) M Q := wp_step rfl rfl rfl rfl rfl
theorem u133_1 : wp scr n mb_133 1 L st M Q ↔ wp scr n mb_133 2 L (.int 1 :: st) M Q := wp_step rfl rfl rfl rfl rfl
theorem u133_2 : wp scr n mb_133 2 L (.int y :: .int x :: st) M Q ↔ (if y ≤ x then wp scr n mb_133 12 L st M Q else wp scr n mb_133 5 L st M Q) := (wp_step rfl rfl rfl rfl rfl).trans wp_ite
theorem u133_5 : wp scr n mb_133 5 [some (.ref a), l1, l2, l3, l4, l5, l6] st M Q ↔ wp scr n mb_133 6 [some (.ref a), l1, l2, l3, l4, l5, l6] (.ref a :: st) M Q := wp_step rfl rfl rfl rfl rfl
theorem u133_6 : wp scr n mb_133 6 L st M Q ↔ wp scr n mb_133 8 L (.int (-4) :: st) M Q := wp_step rfl rfl rfl rfl rfl
theorem u133_8 : wp scr n mb_133 8 L (a2 :: .ref a :: st) M Q ↔ ((mw_r M a 5 ∧ mw_st st) ∧ Wp scr n 84 [.ref a, a2] M (fun r1 M1 => wp scr n mb_133 11 L (r1.toList ++ st) M1 Q)) := wp_vir rfl rfl rfl rfl rfl
theorem u133_11 : wp scr n mb_133 11 L [.int x] M Q ↔ Q (some (.int x)) M := wp_ret rfl rfl
theorem u133_12 : wp scr n mb_133 12 [l0, some (.int x), l2, l3, l4, l5, l6] st M Q ↔ wp scr n mb_133 13 [l0, some (.int x), l2, l3, l4, l5, l6] (.int x :: st) M Q := wp_step rfl rfl rfl rfl rfl
theorem u133_13 : wp scr n mb_133 13 L st M Q ↔ wp scr n mb_133 15 L (.int 20 :: st) M Q := wp_step rfl rfl rfl rfl rfl
theorem u133_15 : wp scr n mb_133 15 L (.int y :: .int x :: st) M Q ↔ (if x ≤ y then wp scr n mb_133 25 L st M Q else wp scr n mb_133 18 L st M Q) := (wp_step rfl rfl rfl rfl rfl).trans wp_ite
theorem u133_18 : wp scr n mb_133 18 [some (.ref a), l1, l2, l3, l4, l5, l6] st M Q ↔ wp scr n mb_133 19 [some (.ref a), l1, l2, l3, l4, l5, l6] (.ref a :: st) M Q := wp_step rfl rfl rfl rfl rfl
theorem u133_19 : wp scr n mb_133 19 L st M Q ↔ wp scr n mb_133 21 L (.int (-6) :: st) M Q := wp_step rfl rfl rfl rfl rfl
theorem u133_21 : wp scr n mb_133 21 L (a2 :: .ref a :: st) M Q ↔ ((mw_r M a 5 ∧ mw_st st) ∧ Wp scr n 84 [.ref a, a2] M (fun r1 M1 => wp scr n mb_133 24 L (r1.toList ++ st) M1 Q)) := wp_vir rfl rfl rfl rfl rfl
theorem u133_24 : wp scr n mb_133 24 L [.int x] M Q ↔ Q (some (.int x)) M := wp_ret rfl rfl
theorem u133_25 : wp scr n mb_133 25 [l0, l1, l2, some (.int x), l4, l5, l6] st M Q ↔ wp scr n mb_133 26 [l0, l1, l2, some (.int x), l4, l5, l6] (.int x :: st) M Q := wp_step rfl rfl rfl rfl rfl
theorem u133_26 : wp scr n mb_133 26 L st M Q ↔ wp scr n mb_133 27 L (.int 2 :: st) M Q := wp_step rfl rfl rfl rfl rfl
theorem u133_27 : wp scr n mb_133 27 L (a2 :: a1 :: st) M Q ↔ (mw_st st ∧ Wp scr n 89 [a1, a2] M (fun r1 M1 => wp scr n mb_133 30 L (r1.toList ++ st) M1 Q)) := wp_sta rfl rfl rfl rfl
theorem u133_30 : wp scr n mb_133 30 L (.int x :: st) M Q ↔ (if x = 0 then wp scr n mb_133 33 L st M Q else wp scr n mb_133 40 L st M Q) := (wp_step rfl rfl rfl rfl rfl).trans wp_iten
theorem u133_33 : wp scr n mb_133 33 [some (.ref a), l1, l2, l3, l4, l5, l6] st M Q ↔ wp scr n mb_133 34 [some (.ref a), l1, l2, l3, l4, l5, l6] (.ref a :: st) M Q := wp_step rfl rfl rfl rfl rfl
theorem u133_34 : wp scr n mb_133 34 L st M Q ↔ wp scr n mb_133 36 L (.int (-2) :: st) M Q := wp_step rfl rfl rfl rfl rfl
theorem u133_36 : wp scr n mb_133 36 L (a2 :: .ref a :: st) M Q ↔ ((mw_r M a 5 ∧ mw_st st) ∧ Wp scr n 84 [.ref a, a2] M (fun r1 M1 => wp scr n mb_133 39 L (r1.toList ++ st) M1 Q)) := wp_vir rfl rfl rfl rfl rfl
theorem u133_39 : wp scr n mb_133 39 L [.int x] M Q ↔ Q (some (.int x)) M := wp_ret rfl rfl
theorem u133_40 : wp scr n mb_133 40 [some (.ref a), l1, l2, l3, l4, l5, l6] st M Q ↔ wp scr n mb_133 41 [some (.ref a), l1, l2, l3, l4, l5, l6] (.ref a :: st) M Q := wp_step rfl rfl rfl rfl rfl
theorem u133_41 : wp scr n mb_133 41 L (o :: st) M Q ↔ mw_o (mm_fld (mc_X scr) M o 5 5) (fun v => wp scr n mb_133 44 L (v :: st) M Q) := wp_getf rfl
theorem u133_44 : wp scr n mb_133 44 [l0, l1, some (.int x), l3, l4, l5, l6] st M Q ↔ wp scr n mb_133 45 [l0, l1, some (.int x), l3, l4, l5, l6] (.int x :: st) M Q := wp_step rfl rfl rfl rfl rfl
theorem u133_45 : wp scr n mb_133 45 L (v :: o :: st) M Q ↔ mw_o (mm_put mc_fty M o v 0 0) (fun M1 => wp scr n mb_133 48 L st M1 Q) := wp_putf rfl
theorem u133_48 : wp scr n mb_133 48 L st M Q ↔ wp scr n mb_133 49 L (.int 0 :: st) M Q := wp_step rfl rfl rfl rfl rfl
theorem u133_49 : wp scr n mb_133 49 [l0, l1, l2, l3, l4, l5, l6] (.int x :: st) M Q ↔ wp scr n mb_133 51 (mm_sto1 [l0, l1, l2, l3, l4, l5, l6] 4 (.int x)) st M Q := wp_step rfl rfl rfl rfl rfl
theorem u133_51 : wp scr n mb_133 51 L st M Q ↔ wp scr n mb_133 52 L (.int 0 :: st) M Q := wp_step rfl rfl rfl rfl rfl
theorem u133_52 : wp scr n mb_133 52 [l0, l1, l2, l3, l4, l5, l6] (.int x :: st) M Q ↔ wp scr n mb_133 54 (mm_sto1 [l0, l1, l2, l3, l4, l5, l6] 5 (.int x)) st M Q := wp_step rfl rfl rfl rfl rfl
theorem u133_54 : wp scr n mb_133 54 L st M Q ↔ wp scr n mb_133 55 L (.int 0 :: st) M Q := wp_step rfl rfl rfl rfl rfl
theorem u133_55 : wp scr n mb_133 55 [l0, l1, l2, l3, l4, l5, l6] (.int x :: st) M Q ↔ wp scr n mb_133 57 (mm_sto1 [l0, l1, l2, l3, l4, l5, l6] 6 (.int x)) st M Q := wp_step rfl rfl rfl rfl rfl
theorem u133_57 : wp scr n mb_133 57 [l0, l1, l2, l3, l4, l5, some (.int x)] st M Q ↔ wp scr n mb_133 59 [l0, l1, l2, l3, l4, l5, some (.int x)] (.int x :: st) M Q := wp_step rfl rfl rfl rfl rfl
theorem u133_59 : wp scr n mb_133 59 [l0, some (.int x), l2, l3, l4, l5, l6] st M Q ↔ wp scr n mb_133 60 [l0, some (.int x), l2, l3, l4, l5, l6] (.int x :: st) M Q := wp_step rfl rfl rfl rfl rfl
theorem u133_60 : wp scr n mb_133 60 L (.int y :: .int x :: st) M Q ↔ (if y ≤ x then wp scr n mb_133 111 L st M Q else wp scr n mb_133 63 L st M Q) := (wp_step rfl rfl rfl rfl rfl).trans wp_ite
theorem u133_63 : wp scr n mb_133 63 [l0, l1, l2, l3, some (.int x), l5, l6] st M Q ↔ wp scr n mb_133 65 [l0, l1, l2, l3, some (.int x), l5, l6] (.int x :: st) M Q := wp_step rfl rfl rfl rfl rfl
theorem u133_65 : wp scr n mb_133 65 [some (.ref a), l1, l2, l3, l4, l5, l6] st M Q ↔ wp scr n mb_133 66 [some (.ref a), l1, l2, l3, l4, l5, l6] (.ref a :: st) M Q := wp_step rfl rfl rfl rfl rfl
theorem u133_66 : wp scr n mb_133 66 L (.ref a :: st) M Q ↔ ((mw_r M a 5 ∧ mw_st st) ∧ Wp scr n 134 [.ref a] M (fun r1 M1 => wp scr n mb_133 69 L (r1.toList ++ st) M1 Q)) := wp_vir rfl rfl rfl rfl rfl
theorem u133_69 : wp scr n mb_133 69 L (.int y :: .int x :: st) M Q ↔ wp scr n mb_133 70 L (.int (x + y) :: st) M Q := wp_step rfl rfl rfl rfl rfl
theorem u133_70 : wp scr n mb_133 70 [l0, l1, l2, l3, l4, l5, l6] (.int x :: st) M Q ↔ wp scr n mb_133 72 (mm_sto1 [l0, l1, l2, l3, l4, l5, l6] 4 (.int x)) st M Q := wp_step rfl rfl rfl rfl rfl
theorem u133_72 : wp scr n mb_133 72 [l0, l1, l2, l3, l4, some (.int x), l6] st M Q ↔ wp scr n mb_133 74 [l0, l1, l2, l3, l4, some (.int x), l6] (.int x :: st) M Q := wp_step rfl rfl rfl rfl rfl
theorem u133_74 : wp scr n mb_133 74 [some (.ref a), l1, l2, l3, l4, l5, l6] st M Q ↔ wp scr n mb_133 75 [some (.ref a), l1, l2, l3, l4, l5, l6] (.ref a :: st) M Q := wp_step rfl rfl rfl rfl rfl
theorem u133_75 : wp scr n mb_133 75 L (o :: st) M Q ↔ mw_o (mm_fld (mc_X scr) M o 5 0) (fun v => wp scr n mb_133 78 L (v :: st) M Q) := wp_getf rfl
theorem u133_78 : wp scr n mb_133 78 L (o :: st) M Q ↔ mw_o (mm_fld (mc_X scr) M o 4 0) (fun v => wp scr n mb_133 81 L (v :: st) M Q) := wp_getf rfl
theorem u133_81 : wp scr n mb_133 81 [some (.ref a), l1, l2, l3, l4, l5, l6] st M Q ↔ wp scr n mb_133 82 [some (.ref a), l1, l2, l3, l4, l5, l6] (.ref a :: st) M Q := wp_step rfl rfl rfl rfl rfl
theorem u133_82 : wp scr n mb_133 82 L (o :: st) M Q ↔ mw_o (mm_fld (mc_X scr) M o 5 5) (fun v => wp scr n mb_133 85 L (v :: st) M Q) := wp_getf rfl
theorem u133_85 : wp scr n mb_133 85 L (o :: st) M Q ↔ mw_o (mm_fld (mc_X scr) M o 0 1) (fun v => wp scr n mb_133 88 L (v :: st) M Q) := wp_getf rfl
theorem u133_88 : wp scr n mb_133 88 L (.int y :: .ref a :: st) M Q ↔ mw_o (mm_lda M a y) (fun v => wp scr n mb_133 89 L (v :: st) M Q) := wp_aald rfl
theorem u133_89 : wp scr n mb_133 89 [some (.ref a), l1, l2, l3, l4, l5, l6] st M Q ↔ wp scr n mb_133 90 [some (.ref a), l1, l2, l3, l4, l5, l6] (.ref a :: st) M Q := wp_step rfl rfl rfl rfl rfl
theorem u133_90 : wp scr n mb_133 90 L (o :: st) M Q ↔ mw_o (mm_fld (mc_X scr) M o 5 0) (fun v => wp scr n mb_133 93 L (v :: st) M Q) := wp_getf rfl
theorem u133_93 : wp scr n mb_133 93 L (o :: st) M Q ↔ mw_o (mm_fld (mc_X scr) M o 4 5) (fun v => wp scr n mb_133 96 L (v :: st) M Q) := wp_getf rfl
theorem u133_96 : wp scr n mb_133 96 L (a2 :: .ref a :: st) M Q ↔ ((mw_r M a 1 ∧ mw_st st) ∧ Wp scr n 36 [.ref a, a2] M (fun r1 M1 => wp scr n mb_133 99 L (r1.toList ++ st) M1 Q)) := wp_vir rfl rfl rfl rfl rfl
theorem u133_99 : wp scr n mb_133 99 L (a1 :: st) M Q ↔ (mw_st st ∧ Wp scr n 95 [a1] M (fun r1 M1 => wp scr n mb_133 102 L (r1.toList ++ st) M1 Q)) := wp_sta rfl rfl rfl rfl
theorem u133_102 : wp scr n mb_133 102 L (.int y :: .int x :: st) M Q ↔ wp scr n mb_133 103 L (.int (x + y) :: st) M Q := wp_step rfl rfl rfl rfl rfl
theorem u133_103 : wp scr n mb_133 103 [l0, l1, l2, l3, l4, l5, l6] (.int x :: st) M Q ↔ wp scr n mb_133 105 (mm_sto1 [l0, l1, l2, l3, l4, l5, l6] 5 (.int x)) st M Q := wp_step rfl rfl rfl rfl rfl
theorem u133_105 : wp scr n mb_133 105 [l0, l1, l2, l3, l4, l5, some (.int x)] st M Q ↔ wp scr n mb_133 108 (mm_sto1 [l0, l1, l2, l3, l4, l5, some (.int x)] 6 (.int (x + 1))) st M Q := wp_step rfl rfl rfl rfl rfl
theorem u133_108 : wp scr n mb_133 108 L st M Q ↔ wp scr n mb_133 57 L st M Q := wp_step rfl rfl rfl rfl rfl
theorem u133_111 : wp scr n mb_133 111 [l0, l1, l2, some (.int x), l4, l5, l6] st M Q ↔ wp scr n mb_133 112 [l0, l1, l2, some (.int x), l4, l5, l6] (.int x :: st) M Q := wp_step rfl rfl rfl rfl rfl
theorem u133_112 : wp scr n mb_133 112 L (.int x :: st) M Q ↔ (if x = 0 then wp scr n mb_133 115 L st M Q else wp scr n mb_133 120 L st M Q) := (wp_step rfl rfl rfl rfl rfl).trans wp_iten
theorem u133_115 : wp scr n mb_133 115 [l0, l1, l2, l3, some (.int x), l5, l6] st M Q ↔ wp scr n mb_133 117 [l0, l1, l2, l3, some (.int x), l5, l6] (.int x :: st) M Q := wp_step rfl rfl rfl rfl rfl
theorem u133_117 : wp scr n mb_133 117 L st M Q ↔ wp scr n mb_133 122 L st M Q := wp_step rfl rfl rfl rfl rfl
theorem u133_120 : wp scr n mb_133 120 [l0, l1, l2, l3, l4, some (.int x), l6] st M Q ↔ wp scr n mb_133 122 [l0, l1, l2, l3, l4, some (.int x), l6] (.int x :: st) M Q := wp_step rfl rfl rfl rfl rfl
theorem u133_122 : wp scr n mb_133 122 L [.int x] M Q ↔ Q (some (.int x)) M := wp_ret rfl rfl
theorem e133 : Wp scr (n + 1) 133 [.ref a0, .int x1, .int x2, .int x3] M Q ↔ wp scr n mb_133 0 [some (.ref a0), some (.int x1), some (.int x2), some (.int x3), none, none, none] [] M Q := Wp_to rfl rfl rfl
/-- SmallerInTheShop shutByLot ()I -/
def mb_134 : mw_B := ((Option.some FieldType.int), mp_134)
theorem u134_0 : wp scr n mb_134 0 L st M Q ↔ wp scr n mb_134 1 L (.int 0 :: st) M Q := wp_step rfl rfl rfl rfl rfl
theorem u134_1 : wp scr n mb_134 1 [l0, l1, l2, l3, l4, l5] (.int x :: st) M Q ↔ wp scr n mb_134 2 (mm_sto1 [l0, l1, l2, l3, l4, l5] 1 (.int x)) st M Q := wp_step rfl rfl rfl rfl rfl
theorem u134_2 : wp scr n mb_134 2 [some (.ref a), l1, l2, l3, l4, l5] st M Q ↔ wp scr n mb_134 3 [some (.ref a), l1, l2, l3, l4, l5] (.ref a :: st) M Q := wp_step rfl rfl rfl rfl rfl
theorem u134_3 : wp scr n mb_134 3 L (o :: st) M Q ↔ mw_o (mm_fld (mc_X scr) M o 5 5) (fun v => wp scr n mb_134 6 L (v :: st) M Q) := wp_getf rfl
theorem u134_6 : wp scr n mb_134 6 [some (.ref a), l1, l2, l3, l4, l5] st M Q ↔ wp scr n mb_134 7 [some (.ref a), l1, l2, l3, l4, l5] (.ref a :: st) M Q := wp_step rfl rfl rfl rfl rfl
theorem u134_7 : wp scr n mb_134 7 L (o :: st) M Q ↔ mw_o (mm_fld (mc_X scr) M o 5 0) (fun v => wp scr n mb_134 10 L (v :: st) M Q) := wp_getf rfl
theorem u134_10 : wp scr n mb_134 10 L (o :: st) M Q ↔ mw_o (mm_fld (mc_X scr) M o 4 4) (fun v => wp scr n mb_134 13 L (v :: st) M Q) := wp_getf rfl
theorem u134_13 : wp scr n mb_134 13 L (v :: o :: st) M Q ↔ mw_o (mm_put mc_fty M o v 0 1) (fun M1 => wp scr n mb_134 16 L st M1 Q) := wp_putf rfl
theorem u134_16 : wp scr n mb_134 16 L st M Q ↔ wp scr n mb_134 17 L (.int 0 :: st) M Q := wp_step rfl rfl rfl rfl rfl
theorem u134_17 : wp scr n mb_134 17 [l0, l1, l2, l3, l4, l5] (.int x :: st) M Q ↔ wp scr n mb_134 18 (mm_sto1 [l0, l1, l2, l3, l4, l5] 2 (.int x)) st M Q := wp_step rfl rfl rfl rfl rfl
theorem u134_18 : wp scr n mb_134 18 [l0, l1, some (.int x), l3, l4, l5] st M Q ↔ wp scr n mb_134 19 [l0, l1, some (.int x), l3, l4, l5] (.int x :: st) M Q := wp_step rfl rfl rfl rfl rfl
theorem u134_19 : wp scr n mb_134 19 L st M Q ↔ wp scr n mb_134 20 L (.int 4 :: st) M Q := wp_step rfl rfl rfl rfl rfl
theorem u134_20 : wp scr n mb_134 20 L (.int y :: .int x :: st) M Q ↔ (if y ≤ x then wp scr n mb_134 146 L st M Q else wp scr n mb_134 23 L st M Q) := (wp_step rfl rfl rfl rfl rfl).trans wp_ite
theorem u134_23 : wp scr n mb_134 23 [some (.ref a), l1, l2, l3, l4, l5] st M Q ↔ wp scr n mb_134 24 [some (.ref a), l1, l2, l3, l4, l5] (.ref a :: st) M Q := wp_step rfl rfl rfl rfl rfl
theorem u134_24 : wp scr n mb_134 24 L (o :: st) M Q ↔ mw_o (mm_fld (mc_X scr) M o 5 0) (fun v => wp scr n mb_134 27 L (v :: st) M Q) := wp_getf rfl
theorem u134_27 : wp scr n mb_134 27 L (o :: st) M Q ↔ mw_o (mm_fld (mc_X scr) M o 4 0) (fun v => wp scr n mb_134 30 L (v :: st) M Q) := wp_getf rfl
theorem u134_30 : wp scr n mb_134 30 [some (.ref a), l1, l2, l3, l4, l5] st M Q ↔ wp scr n mb_134 31 [some (.ref a), l1, l2, l3, l4, l5] (.ref a :: st) M Q := wp_step rfl rfl rfl rfl rfl
theorem u134_31 : wp scr n mb_134 31 L (o :: st) M Q ↔ mw_o (mm_fld (mc_X scr) M o 5 5) (fun v => wp scr n mb_134 34 L (v :: st) M Q) := wp_getf rfl
theorem u134_34 : wp scr n mb_134 34 L (o :: st) M Q ↔ mw_o (mm_fld (mc_X scr) M o 0 1) (fun v => wp scr n mb_134 37 L (v :: st) M Q) := wp_getf rfl
theorem u134_37 : wp scr n mb_134 37 L (.int y :: .ref a :: st) M Q ↔ mw_o (mm_lda M a y) (fun v => wp scr n mb_134 38 L (v :: st) M Q) := wp_aald rfl
theorem u134_38 : wp scr n mb_134 38 L (.ref a :: st) M Q ↔ ((mw_r M a 1 ∧ mw_st st) ∧ Wp scr n 39 [.ref a] M (fun r1 M1 => wp scr n mb_134 41 L (r1.toList ++ st) M1 Q)) := wp_vir rfl rfl rfl rfl rfl
theorem u134_41 : wp scr n mb_134 41 L (.int x :: st) M Q ↔ (if x = 0 then wp scr n mb_134 44 L st M Q else wp scr n mb_134 146 L st M Q) := (wp_step rfl rfl rfl rfl rfl).trans wp_iten
theorem u134_44 : wp scr n mb_134 44 [some (.ref a), l1, l2, l3, l4, l5] st M Q ↔ wp scr n mb_134 45 [some (.ref a), l1, l2, l3, l4, l5] (.ref a :: st) M Q := wp_step rfl rfl rfl rfl rfl
theorem u134_45 : wp scr n mb_134 45 L (o :: st) M Q ↔ mw_o (mm_fld (mc_X scr) M o 5 0) (fun v => wp scr n mb_134 48 L (v :: st) M Q) := wp_getf rfl
theorem u134_48 : wp scr n mb_134 48 L (o :: st) M Q ↔ mw_o (mm_fld (mc_X scr) M o 4 0) (fun v => wp scr n mb_134 51 L (v :: st) M Q) := wp_getf rfl
theorem u134_51 : wp scr n mb_134 51 [some (.ref a), l1, l2, l3, l4, l5] st M Q ↔ wp scr n mb_134 52 [some (.ref a), l1, l2, l3, l4, l5] (.ref a :: st) M Q := wp_step rfl rfl rfl rfl rfl
theorem u134_52 : wp scr n mb_134 52 L (o :: st) M Q ↔ mw_o (mm_fld (mc_X scr) M o 5 5) (fun v => wp scr n mb_134 55 L (v :: st) M Q) := wp_getf rfl
theorem u134_55 : wp scr n mb_134 55 L (o :: st) M Q ↔ mw_o (mm_fld (mc_X scr) M o 0 1) (fun v => wp scr n mb_134 58 L (v :: st) M Q) := wp_getf rfl
theorem u134_58 : wp scr n mb_134 58 L (.int y :: .ref a :: st) M Q ↔ mw_o (mm_lda M a y) (fun v => wp scr n mb_134 59 L (v :: st) M Q) := wp_aald rfl
theorem u134_59 : wp scr n mb_134 59 [l0, l1, l2, l3, l4, l5] (.ref a :: st) M Q ↔ wp scr n mb_134 60 (mm_sto1 [l0, l1, l2, l3, l4, l5] 3 (.ref a)) st M Q := wp_step rfl rfl rfl rfl rfl
theorem u134_60 : wp scr n mb_134 60 [l0, l1, l2, some (.ref a), l4, l5] st M Q ↔ wp scr n mb_134 61 [l0, l1, l2, some (.ref a), l4, l5] (.ref a :: st) M Q := wp_step rfl rfl rfl rfl rfl
theorem u134_61 : wp scr n mb_134 61 [some (.ref a), l1, l2, l3, l4, l5] st M Q ↔ wp scr n mb_134 62 [some (.ref a), l1, l2, l3, l4, l5] (.ref a :: st) M Q := wp_step rfl rfl rfl rfl rfl
theorem u134_62 : wp scr n mb_134 62 L (o :: st) M Q ↔ mw_o (mm_fld (mc_X scr) M o 5 5) (fun v => wp scr n mb_134 65 L (v :: st) M Q) := wp_getf rfl
theorem u134_65 : wp scr n mb_134 65 [l0, l1, l2, some (.ref a), l4, l5] st M Q ↔ wp scr n mb_134 66 [l0, l1, l2, some (.ref a), l4, l5] (.ref a :: st) M Q := wp_step rfl rfl rfl rfl rfl
theorem u134_66 : wp scr n mb_134 66 L (.ref a :: st) M Q ↔ ((mw_r M a 1 ∧ mw_st st) ∧ Wp scr n 40 [.ref a] M (fun r1 M1 => wp scr n mb_134 69 L (r1.toList ++ st) M1 Q)) := wp_vir rfl rfl rfl rfl rfl
theorem u134_69 : wp scr n mb_134 69 L (a2 :: .ref a :: st) M Q ↔ ((mw_r M a 0 ∧ mw_st st) ∧ Wp scr n 15 [.ref a, a2] M (fun r1 M1 => wp scr n mb_134 72 L (r1.toList ++ st) M1 Q)) := wp_vir rfl rfl rfl rfl rfl
theorem u134_72 : wp scr n mb_134 72 L (a2 :: .ref a :: st) M Q ↔ ((mw_r M a 1 ∧ mw_st st) ∧ Wp scr n 41 [.ref a, a2] M (fun r1 M1 => wp scr n mb_134 75 L (r1.toList ++ st) M1 Q)) := wp_vir rfl rfl rfl rfl rfl
theorem u134_75 : wp scr n mb_134 75 [l0, l1, l2, l3, l4, l5] (.int x :: st) M Q ↔ wp scr n mb_134 77 (mm_sto1 [l0, l1, l2, l3, l4, l5] 4 (.int x)) st M Q := wp_step rfl rfl rfl rfl rfl
theorem u134_77 : wp scr n mb_134 77 [some (.ref a), l1, l2, l3, l4, l5] st M Q ↔ wp scr n mb_134 78 [some (.ref a), l1, l2, l3, l4, l5] (.ref a :: st) M Q := wp_step rfl rfl rfl rfl rfl
theorem u134_78 : wp scr n mb_134 78 L (o :: st) M Q ↔ mw_o (mm_fld (mc_X scr) M o 5 5) (fun v => wp scr n mb_134 81 L (v :: st) M Q) := wp_getf rfl
theorem u134_81 : wp scr n mb_134 81 L st M Q ↔ wp scr n mb_134 82 L (.int 4 :: st) M Q := wp_step rfl rfl rfl rfl rfl
theorem u134_82 : wp scr n mb_134 82 L (a2 :: .ref a :: st) M Q ↔ ((mw_r M a 0 ∧ mw_st st) ∧ Wp scr n 15 [.ref a, a2] M (fun r1 M1 => wp scr n mb_134 85 L (r1.toList ++ st) M1 Q)) := wp_vir rfl rfl rfl rfl rfl
theorem u134_85 : wp scr n mb_134 85 [l0, l1, l2, l3, l4, l5] (.int x :: st) M Q ↔ wp scr n mb_134 87 (mm_sto1 [l0, l1, l2, l3, l4, l5] 5 (.int x)) st M Q := wp_step rfl rfl rfl rfl rfl
theorem u134_87 : wp scr n mb_134 87 [some (.ref a), l1, l2, l3, l4, l5] st M Q ↔ wp scr n mb_134 88 [some (.ref a), l1, l2, l3, l4, l5] (.ref a :: st) M Q := wp_step rfl rfl rfl rfl rfl
theorem u134_88 : wp scr n mb_134 88 L (o :: st) M Q ↔ mw_o (mm_fld (mc_X scr) M o 5 0) (fun v => wp scr n mb_134 91 L (v :: st) M Q) := wp_getf rfl
theorem u134_91 : wp scr n mb_134 91 [some (.ref a), l1, l2, l3, l4, l5] st M Q ↔ wp scr n mb_134 92 [some (.ref a), l1, l2, l3, l4, l5] (.ref a :: st) M Q := wp_step rfl rfl rfl rfl rfl
theorem u134_92 : wp scr n mb_134 92 L (o :: st) M Q ↔ mw_o (mm_fld (mc_X scr) M o 5 5) (fun v => wp scr n mb_134 95 L (v :: st) M Q) := wp_getf rfl
theorem u134_95 : wp scr n mb_134 95 L (o :: st) M Q ↔ mw_o (mm_fld (mc_X scr) M o 0 1) (fun v => wp scr n mb_134 98 L (v :: st) M Q) := wp_getf rfl
theorem u134_98 : wp scr n mb_134 98 [l0, l1, l2, l3, some (.int x), l5] st M Q ↔ wp scr n mb_134 100 [l0, l1, l2, l3, some (.int x), l5] (.int x :: st) M Q := wp_step rfl rfl rfl rfl rfl
theorem u134_100 : wp scr n mb_134 100 L (a3 :: a2 :: .ref a :: st) M Q ↔ ((mw_r M a 4 ∧ mw_st st) ∧ Wp scr n 69 [.ref a, a2, a3] M (fun r1 M1 => wp scr n mb_134 103 L (r1.toList ++ st) M1 Q)) := wp_vir rfl rfl rfl rfl rfl
theorem u134_103 : wp scr n mb_134 103 L (.int x :: st) M Q ↔ (if x = 0 then wp scr n mb_134 140 L st M Q else wp scr n mb_134 106 L st M Q) := (wp_step rfl rfl rfl rfl rfl).trans wp_ite
theorem u134_106 : wp scr n mb_134 106 [l0, some (.int x), l2, l3, l4, l5] st M Q ↔ wp scr n mb_134 107 [l0, some (.int x), l2, l3, l4, l5] (.int x :: st) M Q := wp_step rfl rfl rfl rfl rfl
theorem u134_107 : wp scr n mb_134 107 [some (.ref a), l1, l2, l3, l4, l5] st M Q ↔ wp scr n mb_134 108 [some (.ref a), l1, l2, l3, l4, l5] (.ref a :: st) M Q := wp_step rfl rfl rfl rfl rfl
theorem u134_108 : wp scr n mb_134 108 L (o :: st) M Q ↔ mw_o (mm_fld (mc_X scr) M o 5 0) (fun v => wp scr n mb_134 111 L (v :: st) M Q) := wp_getf rfl
theorem u134_111 : wp scr n mb_134 111 [some (.ref a), l1, l2, l3, l4, l5] st M Q ↔ wp scr n mb_134 112 [some (.ref a), l1, l2, l3, l4, l5] (.ref a :: st) M Q := wp_step rfl rfl rfl rfl rfl
theorem u134_112 : wp scr n mb_134 112 L (o :: st) M Q ↔ mw_o (mm_fld (mc_X scr) M o 5 5) (fun v => wp scr n mb_134 115 L (v :: st) M Q) := wp_getf rfl
theorem u134_115 : wp scr n mb_134 115 L (o :: st) M Q ↔ mw_o (mm_fld (mc_X scr) M o 0 1) (fun v => wp scr n mb_134 118 L (v :: st) M Q) := wp_getf rfl
theorem u134_118 : wp scr n mb_134 118 [l0, l1, l2, l3, some (.int x), l5] st M Q ↔ wp scr n mb_134 120 [l0, l1, l2, l3, some (.int x), l5] (.int x :: st) M Q := wp_step rfl rfl rfl rfl rfl
theorem u134_120 : wp scr n mb_134 120 [l0, l1, l2, l3, l4, some (.int x)] st M Q ↔ wp scr n mb_134 122 [l0, l1, l2, l3, l4, some (.int x)] (.int x :: st) M Q := wp_step rfl rfl rfl rfl rfl
theorem u134_122 : wp scr n mb_134 122 L (a4 :: a3 :: a2 :: .ref a :: st) M Q ↔ ((mw_r M a 4 ∧ mw_st st) ∧ Wp scr n 71 [.ref a, a2, a3, a4] M (fun r1 M1 => wp scr n mb_134 125 L (r1.toList ++ st) M1 Q)) := wp_vir rfl rfl rfl rfl rfl
theorem u134_125 : wp scr n mb_134 125 L (.int y :: .int x :: st) M Q ↔ wp scr n mb_134 126 L (.int (x + y) :: st) M Q := wp_step rfl rfl rfl rfl rfl
theorem u134_126 : wp scr n mb_134 126 [l0, l1, l2, l3, l4, l5] (.int x :: st) M Q ↔ wp scr n mb_134 127 (mm_sto1 [l0, l1, l2, l3, l4, l5] 1 (.int x)) st M Q := wp_step rfl rfl rfl rfl rfl
theorem u134_127 : wp scr n mb_134 127 [some (.ref a), l1, l2, l3, l4, l5] st M Q ↔ wp scr n mb_134 128 [some (.ref a), l1, l2, l3, l4, l5] (.ref a :: st) M Q := wp_step rfl rfl rfl rfl rfl
theorem u134_128 : wp scr n mb_134 128 L (o :: st) M Q ↔ mw_o (mm_fld (mc_X scr) M o 5 5) (fun v => wp scr n mb_134 131 L (v :: st) M Q) := wp_getf rfl
theorem u134_131 : wp scr n mb_134 131 L (.ref a :: st) M Q ↔ wp scr n mb_134 132 L (.ref a :: .ref a :: st) M Q := wp_step rfl rfl rfl rfl rfl
theorem u134_132 : wp scr n mb_134 132 L (o :: st) M Q ↔ mw_o (mm_fld (mc_X scr) M o 0 1) (fun v => wp scr n mb_134 135 L (v :: st) M Q) := wp_getf rfl
theorem u134_135 : wp scr n mb_134 135 L st M Q ↔ wp scr n mb_134 136 L (.int 1 :: st) M Q := wp_step rfl rfl rfl rfl rfl
theorem u134_136 : wp scr n mb_134 136 L (.int y :: .int x :: st) M Q ↔ wp scr n mb_134 137 L (.int (x + y) :: st) M Q := wp_step rfl rfl rfl rfl rfl
theorem u134_137 : wp scr n mb_134 137 L (v :: o :: st) M Q ↔ mw_o (mm_put mc_fty M o v 0 1) (fun M1 => wp scr n mb_134 140 L st M1 Q) := wp_putf rfl
theorem u134_140 : wp scr n mb_134 140 [l0, l1, some (.int x), l3, l4, l5] st M Q ↔ wp scr n mb_134 143 (mm_sto1 [l0, l1, some (.int x), l3, l4, l5] 2 (.int (x + 1))) st M Q := wp_step rfl rfl rfl rfl rfl
theorem u134_143 : wp scr n mb_134 143 L st M Q ↔ wp scr n mb_134 18 L st M Q := wp_step rfl rfl rfl rfl rfl
theorem u134_146 : wp scr n mb_134 146 [l0, some (.int x), l2, l3, l4, l5] st M Q ↔ wp scr n mb_134 147 [l0, some (.int x), l2, l3, l4, l5] (.int x :: st) M Q := wp_step rfl rfl rfl rfl rfl
theorem u134_147 : wp scr n mb_134 147 L [.int x] M Q ↔ Q (some (.int x)) M := wp_ret rfl rfl
theorem e134 : Wp scr (n + 1) 134 [.ref a0] M Q ↔ wp scr n mb_134 0 [some (.ref a0), none, none, none, none, none] [] M Q := Wp_to rfl rfl rfl
/-- SmallerInTheShop image ()I -/
def mb_135 : mw_B := ((Option.some FieldType.int), mp_135)
theorem u135_0 : wp scr n mb_135 0 [some (.ref a)] st M Q ↔ wp scr n mb_135 1 [some (.ref a)] (.ref a :: st) M Q := wp_step rfl rfl rfl rfl rfl
theorem u135_1 : wp scr n mb_135 1 L (o :: st) M Q ↔ mw_o (mm_fld (mc_X scr) M o 5 1) (fun v => wp scr n mb_135 4 L (v :: st) M Q) := wp_getf rfl
theorem u135_4 : wp scr n mb_135 4 [some (.ref a)] st M Q ↔ wp scr n mb_135 5 [some (.ref a)] (.ref a :: st) M Q := wp_step rfl rfl rfl rfl rfl
theorem u135_5 : wp scr n mb_135 5 L (o :: st) M Q ↔ mw_o (mm_fld (mc_X scr) M o 5 0) (fun v => wp scr n mb_135 8 L (v :: st) M Q) := wp_getf rfl
theorem u135_8 : wp scr n mb_135 8 L (a2 :: .ref a :: st) M Q ↔ ((mw_r M a 4 ∧ mw_st st) ∧ Wp scr n 67 [.ref a, a2] M (fun r1 M1 => wp scr n mb_135 11 L (r1.toList ++ st) M1 Q)) := wp_vir rfl rfl rfl rfl rfl
theorem u135_11 : wp scr n mb_135 11 [some (.ref a)] st M Q ↔ wp scr n mb_135 12 [some (.ref a)] (.ref a :: st) M Q := wp_step rfl rfl rfl rfl rfl
theorem u135_12 : wp scr n mb_135 12 L st M Q ↔ wp scr n mb_135 13 L (.int 1 :: st) M Q := wp_step rfl rfl rfl rfl rfl
theorem u135_13 : wp scr n mb_135 13 L (v :: o :: st) M Q ↔ mw_o (mm_put mc_fty M o v 5 9) (fun M1 => wp scr n mb_135 16 L st M1 Q) := wp_putf rfl
theorem u135_16 : wp scr n mb_135 16 [some (.ref a)] st M Q ↔ wp scr n mb_135 17 [some (.ref a)] (.ref a :: st) M Q := wp_step rfl rfl rfl rfl rfl
theorem u135_17 : wp scr n mb_135 17 L (o :: st) M Q ↔ mw_o (mm_fld (mc_X scr) M o 5 1) (fun v => wp scr n mb_135 20 L (v :: st) M Q) := wp_getf rfl
theorem u135_20 : wp scr n mb_135 20 L (o :: st) M Q ↔ mw_o (mm_fld (mc_X scr) M o 4 4) (fun v => wp scr n mb_135 23 L (v :: st) M Q) := wp_getf rfl
theorem u135_23 : wp scr n mb_135 23 L [.int x] M Q ↔ Q (some (.int x)) M := wp_ret rfl rfl
theorem e135 : Wp scr (n + 1) 135 [.ref a0] M Q ↔ wp scr n mb_135 0 [some (.ref a0)] [] M Q := Wp_to rfl rfl rfl
/-- SmallerInTheShop on ()I -/
def mb_136 : mw_B := ((Option.some FieldType.int), mp_136)
theorem u136_0 : wp scr n mb_136 0 [some (.ref a)] st M Q ↔ wp scr n mb_136 1 [some (.ref a)] (.ref a :: st) M Q := wp_step rfl rfl rfl rfl rfl
theorem u136_1 : wp scr n mb_136 1 L (o :: st) M Q ↔ mw_o (mm_fld (mc_X scr) M o 5 9) (fun v => wp scr n mb_136 4 L (v :: st) M Q) := wp_getf rfl
theorem u136_4 : wp scr n mb_136 4 L (.int x :: st) M Q ↔ (if x = 0 then wp scr n mb_136 7 L st M Q else wp scr n mb_136 14 L st M Q) := (wp_step rfl rfl rfl rfl rfl).trans wp_iten
theorem u136_7 : wp scr n mb_136 7 [some (.ref a)] st M Q ↔ wp scr n mb_136 8 [some (.ref a)] (.ref a :: st) M Q := wp_step rfl rfl rfl rfl rfl
theorem u136_8 : wp scr n mb_136 8 L st M Q ↔ wp scr n mb_136 10 L (.int (-3) :: st) M Q := wp_step rfl rfl rfl rfl rfl
theorem u136_10 : wp scr n mb_136 10 L (a2 :: .ref a :: st) M Q ↔ ((mw_r M a 5 ∧ mw_st st) ∧ Wp scr n 84 [.ref a, a2] M (fun r1 M1 => wp scr n mb_136 13 L (r1.toList ++ st) M1 Q)) := wp_vir rfl rfl rfl rfl rfl
theorem u136_13 : wp scr n mb_136 13 L [.int x] M Q ↔ Q (some (.int x)) M := wp_ret rfl rfl
theorem u136_14 : wp scr n mb_136 14 [some (.ref a)] st M Q ↔ wp scr n mb_136 15 [some (.ref a)] (.ref a :: st) M Q := wp_step rfl rfl rfl rfl rfl
theorem u136_15 : wp scr n mb_136 15 L (o :: st) M Q ↔ mw_o (mm_fld (mc_X scr) M o 5 0) (fun v => wp scr n mb_136 18 L (v :: st) M Q) := wp_getf rfl
theorem u136_18 : wp scr n mb_136 18 [some (.ref a)] st M Q ↔ wp scr n mb_136 19 [some (.ref a)] (.ref a :: st) M Q := wp_step rfl rfl rfl rfl rfl
theorem u136_19 : wp scr n mb_136 19 L (o :: st) M Q ↔ mw_o (mm_fld (mc_X scr) M o 5 1) (fun v => wp scr n mb_136 22 L (v :: st) M Q) := wp_getf rfl
theorem u136_22 : wp scr n mb_136 22 L (a2 :: .ref a :: st) M Q ↔ ((mw_r M a 4 ∧ mw_st st) ∧ Wp scr n 67 [.ref a, a2] M (fun r1 M1 => wp scr n mb_136 25 L (r1.toList ++ st) M1 Q)) := wp_vir rfl rfl rfl rfl rfl
theorem u136_25 : wp scr n mb_136 25 [some (.ref a)] st M Q ↔ wp scr n mb_136 26 [some (.ref a)] (.ref a :: st) M Q := wp_step rfl rfl rfl rfl rfl
theorem u136_26 : wp scr n mb_136 26 L (o :: st) M Q ↔ mw_o (mm_fld (mc_X scr) M o 5 0) (fun v => wp scr n mb_136 29 L (v :: st) M Q) := wp_getf rfl
theorem u136_29 : wp scr n mb_136 29 L (o :: st) M Q ↔ mw_o (mm_fld (mc_X scr) M o 4 4) (fun v => wp scr n mb_136 32 L (v :: st) M Q) := wp_getf rfl
theorem u136_32 : wp scr n mb_136 32 L [.int x] M Q ↔ Q (some (.int x)) M := wp_ret rfl rfl
theorem e136 : Wp scr (n + 1) 136 [.ref a0] M Q ↔ wp scr n mb_136 0 [some (.ref a0)] [] M Q := Wp_to rfl rfl rfl
/-- SmallerInTheShop count (I)I -/
def mb_137 : mw_B := ((Option.some FieldType.int), mp_137)
theorem u137_0 : wp scr n mb_137 0 [l0, some (.int x)] st M Q ↔ wp scr n mb_137 1 [l0, some (.int x)] (.int x :: st) M Q := wp_step rfl rfl rfl rfl rfl
theorem u137_1 : wp scr n mb_137 1 L (.int x :: st) M Q ↔ wp scr n mb_137 (mw_sw x [(0, 48), (1, 56), (2, 64), (3, 75), (4, 83), (5, 94), (6, 105), (7, 110)] 118) L st M Q := wp_tabS (d := 117) (lo := 0) (hi := 7) (os := #[47, 55, 63, 74, 82, 93, 104, 109]) rfl (by decide +kernel) (by decide +kernel) (by decide +kernel)
theorem u137_48 : wp scr n mb_137 48 [some (.ref a), l1] st M Q ↔ wp scr n mb_137 49 [some (.ref a), l1] (.ref a :: st) M Q := wp_step rfl rfl rfl rfl rfl
theorem u137_49 : wp scr n mb_137 49 L (o :: st) M Q ↔ mw_o (mm_fld (mc_X scr) M o 5 0) (fun v => wp scr n mb_137 52 L (v :: st) M Q) := wp_getf rfl
theorem u137_52 : wp scr n mb_137 52 L (o :: st) M Q ↔ mw_o (mm_fld (mc_X scr) M o 4 4) (fun v => wp scr n mb_137 55 L (v :: st) M Q) := wp_getf rfl
theorem u137_55 : wp scr n mb_137 55 L [.int x] M Q ↔ Q (some (.int x)) M := wp_ret rfl rfl
theorem u137_56 : wp scr n mb_137 56 [some (.ref a), l1] st M Q ↔ wp scr n mb_137 57 [some (.ref a), l1] (.ref a :: st) M Q := wp_step rfl rfl rfl rfl rfl
theorem u137_57 : wp scr n mb_137 57 L (o :: st) M Q ↔ mw_o (mm_fld (mc_X scr) M o 5 0) (fun v => wp scr n mb_137 60 L (v :: st) M Q) := wp_getf rfl
theorem u137_60 : wp scr n mb_137 60 L (.ref a :: st) M Q ↔ ((mw_r M a 4 ∧ mw_st st) ∧ Wp scr n 81 [.ref a] M (fun r1 M1 => wp scr n mb_137 63 L (r1.toList ++ st) M1 Q)) := wp_vir rfl rfl rfl rfl rfl
theorem u137_63 : wp scr n mb_137 63 L [.int x] M Q ↔ Q (some (.int x)) M := wp_ret rfl rfl
theorem u137_64 : wp scr n mb_137 64 [some (.ref a), l1] st M Q ↔ wp scr n mb_137 65 [some (.ref a), l1] (.ref a :: st) M Q := wp_step rfl rfl rfl rfl rfl
theorem u137_65 : wp scr n mb_137 65 L (o :: st) M Q ↔ mw_o (mm_fld (mc_X scr) M o 5 0) (fun v => wp scr n mb_137 68 L (v :: st) M Q) := wp_getf rfl
theorem u137_68 : wp scr n mb_137 68 L (.ref a :: st) M Q ↔ ((mw_r M a 4 ∧ mw_st st) ∧ Wp scr n 73 [.ref a] M (fun r1 M1 => wp scr n mb_137 71 L (r1.toList ++ st) M1 Q)) := wp_vir rfl rfl rfl rfl rfl
theorem u137_71 : wp scr n mb_137 71 L (.ref a :: st) M Q ↔ ((mw_r M a 1 ∧ mw_st st) ∧ Wp scr n 37 [.ref a] M (fun r1 M1 => wp scr n mb_137 74 L (r1.toList ++ st) M1 Q)) := wp_vir rfl rfl rfl rfl rfl
theorem u137_74 : wp scr n mb_137 74 L [.int x] M Q ↔ Q (some (.int x)) M := wp_ret rfl rfl
theorem u137_75 : wp scr n mb_137 75 [some (.ref a), l1] st M Q ↔ wp scr n mb_137 76 [some (.ref a), l1] (.ref a :: st) M Q := wp_step rfl rfl rfl rfl rfl
theorem u137_76 : wp scr n mb_137 76 L (o :: st) M Q ↔ mw_o (mm_fld (mc_X scr) M o 5 0) (fun v => wp scr n mb_137 79 L (v :: st) M Q) := wp_getf rfl
theorem u137_79 : wp scr n mb_137 79 L (o :: st) M Q ↔ mw_o (mm_fld (mc_X scr) M o 4 5) (fun v => wp scr n mb_137 82 L (v :: st) M Q) := wp_getf rfl
theorem u137_82 : wp scr n mb_137 82 L [.int x] M Q ↔ Q (some (.int x)) M := wp_ret rfl rfl
theorem u137_83 : wp scr n mb_137 83 [some (.ref a), l1] st M Q ↔ wp scr n mb_137 84 [some (.ref a), l1] (.ref a :: st) M Q := wp_step rfl rfl rfl rfl rfl
theorem u137_84 : wp scr n mb_137 84 L (o :: st) M Q ↔ mw_o (mm_fld (mc_X scr) M o 5 0) (fun v => wp scr n mb_137 87 L (v :: st) M Q) := wp_getf rfl
theorem u137_87 : wp scr n mb_137 87 L (.ref a :: st) M Q ↔ ((mw_r M a 4 ∧ mw_st st) ∧ Wp scr n 73 [.ref a] M (fun r1 M1 => wp scr n mb_137 90 L (r1.toList ++ st) M1 Q)) := wp_vir rfl rfl rfl rfl rfl
theorem u137_90 : wp scr n mb_137 90 L (.ref a :: st) M Q ↔ ((mw_r M a 1 ∧ mw_st st) ∧ Wp scr n 38 [.ref a] M (fun r1 M1 => wp scr n mb_137 93 L (r1.toList ++ st) M1 Q)) := wp_vir rfl rfl rfl rfl rfl
theorem u137_93 : wp scr n mb_137 93 L [.int x] M Q ↔ Q (some (.int x)) M := wp_ret rfl rfl
theorem u137_94 : wp scr n mb_137 94 [some (.ref a), l1] st M Q ↔ wp scr n mb_137 95 [some (.ref a), l1] (.ref a :: st) M Q := wp_step rfl rfl rfl rfl rfl
theorem u137_95 : wp scr n mb_137 95 L (o :: st) M Q ↔ mw_o (mm_fld (mc_X scr) M o 5 0) (fun v => wp scr n mb_137 98 L (v :: st) M Q) := wp_getf rfl
theorem u137_98 : wp scr n mb_137 98 L (.ref a :: st) M Q ↔ ((mw_r M a 4 ∧ mw_st st) ∧ Wp scr n 73 [.ref a] M (fun r1 M1 => wp scr n mb_137 101 L (r1.toList ++ st) M1 Q)) := wp_vir rfl rfl rfl rfl rfl
theorem u137_101 : wp scr n mb_137 101 L (.ref a :: st) M Q ↔ ((mw_r M a 1 ∧ mw_st st) ∧ Wp scr n 34 [.ref a] M (fun r1 M1 => wp scr n mb_137 104 L (r1.toList ++ st) M1 Q)) := wp_vir rfl rfl rfl rfl rfl
theorem u137_104 : wp scr n mb_137 104 L [.int x] M Q ↔ Q (some (.int x)) M := wp_ret rfl rfl
theorem u137_105 : wp scr n mb_137 105 [some (.ref a), l1] st M Q ↔ wp scr n mb_137 106 [some (.ref a), l1] (.ref a :: st) M Q := wp_step rfl rfl rfl rfl rfl
theorem u137_106 : wp scr n mb_137 106 L (o :: st) M Q ↔ mw_o (mm_fld (mc_X scr) M o 5 8) (fun v => wp scr n mb_137 109 L (v :: st) M Q) := wp_getf rfl
theorem u137_109 : wp scr n mb_137 109 L [.int x] M Q ↔ Q (some (.int x)) M := wp_ret rfl rfl
theorem u137_110 : wp scr n mb_137 110 [some (.ref a), l1] st M Q ↔ wp scr n mb_137 111 [some (.ref a), l1] (.ref a :: st) M Q := wp_step rfl rfl rfl rfl rfl
theorem u137_111 : wp scr n mb_137 111 L (o :: st) M Q ↔ mw_o (mm_fld (mc_X scr) M o 5 4) (fun v => wp scr n mb_137 114 L (v :: st) M Q) := wp_getf rfl
theorem u137_114 : wp scr n mb_137 114 L (o :: st) M Q ↔ mw_o (mm_fld (mc_X scr) M o 2 1) (fun v => wp scr n mb_137 117 L (v :: st) M Q) := wp_getf rfl
theorem u137_117 : wp scr n mb_137 117 L [.int x] M Q ↔ Q (some (.int x)) M := wp_ret rfl rfl
theorem u137_118 : wp scr n mb_137 118 [some (.ref a), l1] st M Q ↔ wp scr n mb_137 119 [some (.ref a), l1] (.ref a :: st) M Q := wp_step rfl rfl rfl rfl rfl
theorem u137_119 : wp scr n mb_137 119 [l0, some (.int x)] st M Q ↔ wp scr n mb_137 120 [l0, some (.int x)] (.int x :: st) M Q := wp_step rfl rfl rfl rfl rfl
theorem u137_120 : wp scr n mb_137 120 L st M Q ↔ wp scr n mb_137 122 L (.int 10 :: st) M Q := wp_step rfl rfl rfl rfl rfl
theorem u137_122 : wp scr n mb_137 122 L (.int y :: .int x :: st) M Q ↔ wp scr n mb_137 123 L (.int (x - y) :: st) M Q := wp_step rfl rfl rfl rfl rfl
theorem u137_123 : wp scr n mb_137 123 L (a2 :: .ref a :: st) M Q ↔ ((mw_r M a 5 ∧ mw_st st) ∧ Wp scr n 138 [.ref a, a2] M (fun r1 M1 => wp scr n mb_137 126 L (r1.toList ++ st) M1 Q)) := wp_vir rfl rfl rfl rfl rfl
theorem u137_126 : wp scr n mb_137 126 L [.int x] M Q ↔ Q (some (.int x)) M := wp_ret rfl rfl
theorem e137 : Wp scr (n + 1) 137 [.ref a0, .int x1] M Q ↔ wp scr n mb_137 0 [some (.ref a0), some (.int x1)] [] M Q := Wp_to rfl rfl rfl
end MU
