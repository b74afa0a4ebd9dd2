section MU
variable {scr : List Int32} {n : Nat} {L : mm_L} {st : List Value} {M : mm_M} {Q : Option Value → mm_M → Prop} {x y : Int32} {z w : Int64} {a : Nat} {o v a1 a2 a3 a4 a5 a6 : Value} {a0 b1 b2 b3 b4 b5 : Nat} {x1 x2 x3 x4 x5 : Int32} {z1 z2 z3 : Int64} {l0 l1 l2 l3 l4 l5 l6 l7 l8 l9 l10 l11 l12 l13 l14 : Option Value}
/-- SmallerInTheShopModel crease (II)I -/
def mb_165 : mw_B := ((Option.some FieldType.int), mp_165)
theorem u165_0 : wp scr n mb_165 0 [l0, some (.int x), l2] st M Q ↔ wp scr n mb_165 1 [l0, some (.int x), l2] (.int x :: st) M Q := wp_step rfl rfl rfl rfl rfl
theorem u165_1 : wp scr n mb_165 1 L (a1 :: st) M Q ↔ (mw_st st ∧ Wp scr n 166 [a1] M (fun r1 M1 => wp scr n mb_165 4 L (r1.toList ++ st) M1 Q)) := wp_sta rfl rfl rfl rfl
theorem u165_4 : wp scr n mb_165 4 L (.int x :: st) M Q ↔ (if x = 0 then wp scr n mb_165 7 L st M Q else wp scr n mb_165 13 L st M Q) := (wp_step rfl rfl rfl rfl rfl).trans wp_iten
theorem u165_7 : wp scr n mb_165 7 [some (.ref a), l1, l2] st M Q ↔ wp scr n mb_165 8 [some (.ref a), l1, l2] (.ref a :: st) M Q := wp_step rfl rfl rfl rfl rfl
theorem u165_8 : wp scr n mb_165 8 L st M Q ↔ wp scr n mb_165 9 L (.int (-1) :: st) M Q := wp_step rfl rfl rfl rfl rfl
theorem u165_9 : wp scr n mb_165 9 L (a2 :: .ref a :: st) M Q ↔ ((mw_r M a 6 ∧ mw_st st) ∧ Wp scr n 141 [.ref a, a2] M (fun r1 M1 => wp scr n mb_165 12 L (r1.toList ++ st) M1 Q)) := wp_vir rfl rfl rfl rfl rfl
theorem u165_12 : wp scr n mb_165 12 L [.int x] M Q ↔ Q (some (.int x)) M := wp_ret rfl rfl
theorem u165_13 : wp scr n mb_165 13 [l0, l1, some (.int x)] st M Q ↔ wp scr n mb_165 14 [l0, l1, some (.int x)] (.int x :: st) M Q := wp_step rfl rfl rfl rfl rfl
theorem u165_14 : wp scr n mb_165 14 L (.int x :: st) M Q ↔ wp scr n mb_165 15 L (.long x.toInt64 :: st) M Q := wp_step rfl rfl rfl rfl rfl
theorem u165_15 : wp scr n mb_165 15 L st M Q ↔ wp scr n mb_165 16 L (.long 0 :: st) M Q := wp_step rfl rfl rfl rfl rfl
theorem u165_16 : wp scr n mb_165 16 L st M Q ↔ wp scr n mb_165 19 L (.long (5) :: st) M Q := wp_step rfl rfl rfl rfl rfl
theorem u165_19 : wp scr n mb_165 19 L (a3 :: a2 :: a1 :: st) M Q ↔ (mw_st st ∧ Wp scr n 146 [a1, a2, a3] M (fun r1 M1 => wp scr n mb_165 22 L (r1.toList ++ st) M1 Q)) := wp_sta rfl rfl rfl rfl
theorem u165_22 : wp scr n mb_165 22 L (.int x :: st) M Q ↔ (if x = 0 then wp scr n mb_165 25 L st M Q else wp scr n mb_165 32 L st M Q) := (wp_step rfl rfl rfl rfl rfl).trans wp_iten
theorem u165_25 : wp scr n mb_165 25 [some (.ref a), l1, l2] st M Q ↔ wp scr n mb_165 26 [some (.ref a), l1, l2] (.ref a :: st) M Q := wp_step rfl rfl rfl rfl rfl
theorem u165_26 : wp scr n mb_165 26 L st M Q ↔ wp scr n mb_165 28 L (.int (-2) :: st) M Q := wp_step rfl rfl rfl rfl rfl
theorem u165_28 : wp scr n mb_165 28 L (a2 :: .ref a :: st) M Q ↔ ((mw_r M a 6 ∧ mw_st st) ∧ Wp scr n 141 [.ref a, a2] M (fun r1 M1 => wp scr n mb_165 31 L (r1.toList ++ st) M1 Q)) := wp_vir rfl rfl rfl rfl rfl
theorem u165_31 : wp scr n mb_165 31 L [.int x] M Q ↔ Q (some (.int x)) M := wp_ret rfl rfl
theorem u165_32 : wp scr n mb_165 32 [l0, l1, some (.int x)] st M Q ↔ wp scr n mb_165 33 [l0, l1, some (.int x)] (.int x :: st) M Q := wp_step rfl rfl rfl rfl rfl
theorem u165_33 : wp scr n mb_165 33 L st M Q ↔ wp scr n mb_165 34 L (.int 4 :: st) M Q := wp_step rfl rfl rfl rfl rfl
theorem u165_34 : wp scr n mb_165 34 L (.int y :: .int x :: st) M Q ↔ (if y ≤ x then wp scr n mb_165 51 L st M Q else wp scr n mb_165 37 L st M Q) := (wp_step rfl rfl rfl rfl rfl).trans wp_ite
theorem u165_37 : wp scr n mb_165 37 [some (.ref a), l1, l2] st M Q ↔ wp scr n mb_165 38 [some (.ref a), l1, l2] (.ref a :: st) M Q := wp_step rfl rfl rfl rfl rfl
theorem u165_38 : wp scr n mb_165 38 L (o :: st) M Q ↔ mw_o (mm_fld (mc_X scr) M o 6 0) (fun v => wp scr n mb_165 41 L (v :: st) M Q) := wp_getf rfl
theorem u165_41 : wp scr n mb_165 41 L st M Q ↔ wp scr n mb_165 43 L (.int 10 :: st) M Q := wp_step rfl rfl rfl rfl rfl
theorem u165_43 : wp scr n mb_165 43 [l0, l1, some (.int x)] st M Q ↔ wp scr n mb_165 44 [l0, l1, some (.int x)] (.int x :: st) M Q := wp_step rfl rfl rfl rfl rfl
theorem u165_44 : wp scr n mb_165 44 L (.int y :: .int x :: st) M Q ↔ wp scr n mb_165 45 L (.int (x * y) :: st) M Q := wp_step rfl rfl rfl rfl rfl
theorem u165_45 : wp scr n mb_165 45 [l0, some (.int x), l2] st M Q ↔ wp scr n mb_165 46 [l0, some (.int x), l2] (.int x :: st) M Q := wp_step rfl rfl rfl rfl rfl
theorem u165_46 : wp scr n mb_165 46 L (.int y :: .int x :: st) M Q ↔ wp scr n mb_165 47 L (.int (x + y) :: st) M Q := wp_step rfl rfl rfl rfl rfl
theorem u165_47 : wp scr n mb_165 47 L (.int y :: o :: st) M Q ↔ mw_o (mm_ld (mc_X scr) M o y) (fun x => wp scr n mb_165 48 L (.int x :: st) M Q) := wp_iald rfl
theorem u165_48 : wp scr n mb_165 48 L st M Q ↔ wp scr n mb_165 62 L st M Q := wp_step rfl rfl rfl rfl rfl
theorem u165_51 : wp scr n mb_165 51 [some (.ref a), l1, l2] st M Q ↔ wp scr n mb_165 52 [some (.ref a), l1, l2] (.ref a :: st) M Q := wp_step rfl rfl rfl rfl rfl
theorem u165_52 : wp scr n mb_165 52 L (o :: st) M Q ↔ mw_o (mm_fld (mc_X scr) M o 6 0) (fun v => wp scr n mb_165 55 L (v :: st) M Q) := wp_getf rfl
theorem u165_55 : wp scr n mb_165 55 [l0, some (.int x), l2] st M Q ↔ wp scr n mb_165 56 [l0, some (.int x), l2] (.int x :: st) M Q := wp_step rfl rfl rfl rfl rfl
theorem u165_56 : wp scr n mb_165 56 [l0, l1, some (.int x)] st M Q ↔ wp scr n mb_165 57 [l0, l1, some (.int x)] (.int x :: st) M Q := wp_step rfl rfl rfl rfl rfl
theorem u165_57 : wp scr n mb_165 57 L st M Q ↔ wp scr n mb_165 58 L (.int 3 :: st) M Q := wp_step rfl rfl rfl rfl rfl
theorem u165_58 : wp scr n mb_165 58 L (.int y :: .int x :: st) M Q ↔ wp scr n mb_165 59 L (.int (x - y) :: st) M Q := wp_step rfl rfl rfl rfl rfl
theorem u165_59 : wp scr n mb_165 59 L (a3 :: a2 :: a1 :: st) M Q ↔ (mw_st st ∧ Wp scr n 158 [a1, a2, a3] M (fun r1 M1 => wp scr n mb_165 62 L (r1.toList ++ st) M1 Q)) := wp_sta rfl rfl rfl rfl
theorem u165_62 : wp scr n mb_165 62 L [.int x] M Q ↔ Q (some (.int x)) M := wp_ret rfl rfl
theorem e165 : Wp scr (n + 1) 165 [.ref a0, .int x1, .int x2] M Q ↔ wp scr n mb_165 0 [some (.ref a0), some (.int x1), some (.int x2)] [] M Q := Wp_to rfl rfl rfl
/-- SmallerInTheShopModel isCrease (I)Z -/
def mb_166 : mw_B := ((Option.some FieldType.boolean), mp_166)
theorem u166_0 : wp scr n mb_166 0 [some (.int x)] st M Q ↔ wp scr n mb_166 1 [some (.int x)] (.int x :: st) M Q := wp_step rfl rfl rfl rfl rfl
theorem u166_1 : wp scr n mb_166 1 L (.int x :: st) M Q ↔ wp scr n mb_166 2 L (.long x.toInt64 :: st) M Q := wp_step rfl rfl rfl rfl rfl
theorem u166_2 : wp scr n mb_166 2 L st M Q ↔ wp scr n mb_166 3 L (.long 0 :: st) M Q := wp_step rfl rfl rfl rfl rfl
theorem u166_3 : wp scr n mb_166 3 L st M Q ↔ wp scr n mb_166 6 L (.long (9) :: st) M Q := wp_step rfl rfl rfl rfl rfl
theorem u166_6 : wp scr n mb_166 6 L (a3 :: a2 :: a1 :: st) M Q ↔ (mw_st st ∧ Wp scr n 146 [a1, a2, a3] M (fun r1 M1 => wp scr n mb_166 9 L (r1.toList ++ st) M1 Q)) := wp_sta rfl rfl rfl rfl
theorem u166_9 : wp scr n mb_166 9 L [.int x] M Q ↔ ((x = 0 ∨ x = 1) ∧ Q (some (.int x)) M) := wp_retb rfl rfl
theorem e166 : Wp scr (n + 1) 166 [.int x1] M Q ↔ wp scr n mb_166 0 [some (.int x1)] [] M Q := Wp_to rfl rfl rfl
/-- SmallerInTheShopModel panel (II)I -/
def mb_167 : mw_B := ((Option.some FieldType.int), mp_167)
theorem u167_0 : wp scr n mb_167 0 [l0, some (.int x), l2] st M Q ↔ wp scr n mb_167 1 [l0, some (.int x), l2] (.int x :: st) M Q := wp_step rfl rfl rfl rfl rfl
theorem u167_1 : wp scr n mb_167 1 L (a1 :: st) M Q ↔ (mw_st st ∧ Wp scr n 168 [a1] M (fun r1 M1 => wp scr n mb_167 4 L (r1.toList ++ st) M1 Q)) := wp_sta rfl rfl rfl rfl
theorem u167_4 : wp scr n mb_167 4 L (.int x :: st) M Q ↔ (if x = 0 then wp scr n mb_167 7 L st M Q else wp scr n mb_167 13 L st M Q) := (wp_step rfl rfl rfl rfl rfl).trans wp_iten
theorem u167_7 : wp scr n mb_167 7 [some (.ref a), l1, l2] st M Q ↔ wp scr n mb_167 8 [some (.ref a), l1, l2] (.ref a :: st) M Q := wp_step rfl rfl rfl rfl rfl
theorem u167_8 : wp scr n mb_167 8 L st M Q ↔ wp scr n mb_167 9 L (.int (-1) :: st) M Q := wp_step rfl rfl rfl rfl rfl
theorem u167_9 : wp scr n mb_167 9 L (a2 :: .ref a :: st) M Q ↔ ((mw_r M a 6 ∧ mw_st st) ∧ Wp scr n 141 [.ref a, a2] M (fun r1 M1 => wp scr n mb_167 12 L (r1.toList ++ st) M1 Q)) := wp_vir rfl rfl rfl rfl rfl
theorem u167_12 : wp scr n mb_167 12 L [.int x] M Q ↔ Q (some (.int x)) M := wp_ret rfl rfl
theorem u167_13 : wp scr n mb_167 13 [l0, l1, some (.int x)] st M Q ↔ wp scr n mb_167 14 [l0, l1, some (.int x)] (.int x :: st) M Q := wp_step rfl rfl rfl rfl rfl
theorem u167_14 : wp scr n mb_167 14 L (.int x :: st) M Q ↔ wp scr n mb_167 15 L (.long x.toInt64 :: st) M Q := wp_step rfl rfl rfl rfl rfl
theorem u167_15 : wp scr n mb_167 15 L st M Q ↔ wp scr n mb_167 16 L (.long 0 :: st) M Q := wp_step rfl rfl rfl rfl rfl
theorem u167_16 : wp scr n mb_167 16 L st M Q ↔ wp scr n mb_167 19 L (.long (5) :: st) M Q := wp_step rfl rfl rfl rfl rfl
theorem u167_19 : wp scr n mb_167 19 L (a3 :: a2 :: a1 :: st) M Q ↔ (mw_st st ∧ Wp scr n 146 [a1, a2, a3] M (fun r1 M1 => wp scr n mb_167 22 L (r1.toList ++ st) M1 Q)) := wp_sta rfl rfl rfl rfl
theorem u167_22 : wp scr n mb_167 22 L (.int x :: st) M Q ↔ (if x = 0 then wp scr n mb_167 25 L st M Q else wp scr n mb_167 32 L st M Q) := (wp_step rfl rfl rfl rfl rfl).trans wp_iten
theorem u167_25 : wp scr n mb_167 25 [some (.ref a), l1, l2] st M Q ↔ wp scr n mb_167 26 [some (.ref a), l1, l2] (.ref a :: st) M Q := wp_step rfl rfl rfl rfl rfl
theorem u167_26 : wp scr n mb_167 26 L st M Q ↔ wp scr n mb_167 28 L (.int (-2) :: st) M Q := wp_step rfl rfl rfl rfl rfl
theorem u167_28 : wp scr n mb_167 28 L (a2 :: .ref a :: st) M Q ↔ ((mw_r M a 6 ∧ mw_st st) ∧ Wp scr n 141 [.ref a, a2] M (fun r1 M1 => wp scr n mb_167 31 L (r1.toList ++ st) M1 Q)) := wp_vir rfl rfl rfl rfl rfl
theorem u167_31 : wp scr n mb_167 31 L [.int x] M Q ↔ Q (some (.int x)) M := wp_ret rfl rfl
theorem u167_32 : wp scr n mb_167 32 [l0, l1, some (.int x)] st M Q ↔ wp scr n mb_167 33 [l0, l1, some (.int x)] (.int x :: st) M Q := wp_step rfl rfl rfl rfl rfl
theorem u167_33 : wp scr n mb_167 33 L st M Q ↔ wp scr n mb_167 34 L (.int 4 :: st) M Q := wp_step rfl rfl rfl rfl rfl
theorem u167_34 : wp scr n mb_167 34 L (.int y :: .int x :: st) M Q ↔ (if y ≤ x then wp scr n mb_167 53 L st M Q else wp scr n mb_167 37 L st M Q) := (wp_step rfl rfl rfl rfl rfl).trans wp_ite
theorem u167_37 : wp scr n mb_167 37 [some (.ref a), l1, l2] st M Q ↔ wp scr n mb_167 38 [some (.ref a), l1, l2] (.ref a :: st) M Q := wp_step rfl rfl rfl rfl rfl
theorem u167_38 : wp scr n mb_167 38 L (o :: st) M Q ↔ mw_o (mm_fld (mc_X scr) M o 6 0) (fun v => wp scr n mb_167 41 L (v :: st) M Q) := wp_getf rfl
theorem u167_41 : wp scr n mb_167 41 L st M Q ↔ wp scr n mb_167 43 L (.int 40 :: st) M Q := wp_step rfl rfl rfl rfl rfl
theorem u167_43 : wp scr n mb_167 43 L st M Q ↔ wp scr n mb_167 44 L (.int 4 :: st) M Q := wp_step rfl rfl rfl rfl rfl
theorem u167_44 : wp scr n mb_167 44 [l0, some (.int x), l2] st M Q ↔ wp scr n mb_167 45 [l0, some (.int x), l2] (.int x :: st) M Q := wp_step rfl rfl rfl rfl rfl
theorem u167_45 : wp scr n mb_167 45 L (.int y :: .int x :: st) M Q ↔ wp scr n mb_167 46 L (.int (x * y) :: st) M Q := wp_step rfl rfl rfl rfl rfl
theorem u167_46 : wp scr n mb_167 46 L (.int y :: .int x :: st) M Q ↔ wp scr n mb_167 47 L (.int (x + y) :: st) M Q := wp_step rfl rfl rfl rfl rfl
theorem u167_47 : wp scr n mb_167 47 [l0, l1, some (.int x)] st M Q ↔ wp scr n mb_167 48 [l0, l1, some (.int x)] (.int x :: st) M Q := wp_step rfl rfl rfl rfl rfl
theorem u167_48 : wp scr n mb_167 48 L (.int y :: .int x :: st) M Q ↔ wp scr n mb_167 49 L (.int (x + y) :: st) M Q := wp_step rfl rfl rfl rfl rfl
theorem u167_49 : wp scr n mb_167 49 L (.int y :: o :: st) M Q ↔ mw_o (mm_ld (mc_X scr) M o y) (fun x => wp scr n mb_167 50 L (.int x :: st) M Q) := wp_iald rfl
theorem u167_50 : wp scr n mb_167 50 L st M Q ↔ wp scr n mb_167 85 L st M Q := wp_step rfl rfl rfl rfl rfl
theorem u167_53 : wp scr n mb_167 53 [l0, l1, some (.int x)] st M Q ↔ wp scr n mb_167 54 [l0, l1, some (.int x)] (.int x :: st) M Q := wp_step rfl rfl rfl rfl rfl
theorem u167_54 : wp scr n mb_167 54 L st M Q ↔ wp scr n mb_167 55 L (.int 4 :: st) M Q := wp_step rfl rfl rfl rfl rfl
theorem u167_55 : wp scr n mb_167 55 L (.int y :: .int x :: st) M Q ↔ (if x = y then wp scr n mb_167 58 L st M Q else wp scr n mb_167 77 L st M Q) := (wp_step rfl rfl rfl rfl rfl).trans wp_iten
theorem u167_58 : wp scr n mb_167 58 [some (.ref a), l1, l2] st M Q ↔ wp scr n mb_167 59 [some (.ref a), l1, l2] (.ref a :: st) M Q := wp_step rfl rfl rfl rfl rfl
theorem u167_59 : wp scr n mb_167 59 L (o :: st) M Q ↔ mw_o (mm_fld (mc_X scr) M o 6 0) (fun v => wp scr n mb_167 62 L (v :: st) M Q) := wp_getf rfl
theorem u167_62 : wp scr n mb_167 62 [l0, some (.int x), l2] st M Q ↔ wp scr n mb_167 63 [l0, some (.int x), l2] (.int x :: st) M Q := wp_step rfl rfl rfl rfl rfl
theorem u167_63 : wp scr n mb_167 63 L (a2 :: a1 :: st) M Q ↔ (mw_st st ∧ Wp scr n 169 [a1, a2] M (fun r1 M1 => wp scr n mb_167 66 L (r1.toList ++ st) M1 Q)) := wp_sta rfl rfl rfl rfl
theorem u167_66 : wp scr n mb_167 66 L (.int x :: st) M Q ↔ (if x = 0 then wp scr n mb_167 73 L st M Q else wp scr n mb_167 69 L st M Q) := (wp_step rfl rfl rfl rfl rfl).trans wp_ite
theorem u167_69 : wp scr n mb_167 69 L st M Q ↔ wp scr n mb_167 70 L (.int 1 :: st) M Q := wp_step rfl rfl rfl rfl rfl
theorem u167_70 : wp scr n mb_167 70 L st M Q ↔ wp scr n mb_167 85 L st M Q := wp_step rfl rfl rfl rfl rfl
theorem u167_73 : wp scr n mb_167 73 L st M Q ↔ wp scr n mb_167 74 L (.int 0 :: st) M Q := wp_step rfl rfl rfl rfl rfl
theorem u167_74 : wp scr n mb_167 74 L st M Q ↔ wp scr n mb_167 85 L st M Q := wp_step rfl rfl rfl rfl rfl
theorem u167_77 : wp scr n mb_167 77 [some (.ref a), l1, l2] st M Q ↔ wp scr n mb_167 78 [some (.ref a), l1, l2] (.ref a :: st) M Q := wp_step rfl rfl rfl rfl rfl
theorem u167_78 : wp scr n mb_167 78 L (o :: st) M Q ↔ mw_o (mm_fld (mc_X scr) M o 6 0) (fun v => wp scr n mb_167 81 L (v :: st) M Q) := wp_getf rfl
theorem u167_81 : wp scr n mb_167 81 [l0, some (.int x), l2] st M Q ↔ wp scr n mb_167 82 [l0, some (.int x), l2] (.int x :: st) M Q := wp_step rfl rfl rfl rfl rfl
theorem u167_82 : wp scr n mb_167 82 L (a2 :: a1 :: st) M Q ↔ (mw_st st ∧ Wp scr n 171 [a1, a2] M (fun r1 M1 => wp scr n mb_167 85 L (r1.toList ++ st) M1 Q)) := wp_sta rfl rfl rfl rfl
theorem u167_85 : wp scr n mb_167 85 L [.int x] M Q ↔ Q (some (.int x)) M := wp_ret rfl rfl
theorem e167 : Wp scr (n + 1) 167 [.ref a0, .int x1, .int x2] M Q ↔ wp scr n mb_167 0 [some (.ref a0), some (.int x1), some (.int x2)] [] M Q := Wp_to rfl rfl rfl
/-- SmallerInTheShopModel isPanel (I)Z -/
def mb_168 : mw_B := ((Option.some FieldType.boolean), mp_168)
theorem u168_0 : wp scr n mb_168 0 [some (.int x)] st M Q ↔ wp scr n mb_168 1 [some (.int x)] (.int x :: st) M Q := wp_step rfl rfl rfl rfl rfl
theorem u168_1 : wp scr n mb_168 1 L (.int x :: st) M Q ↔ wp scr n mb_168 2 L (.long x.toInt64 :: st) M Q := wp_step rfl rfl rfl rfl rfl
theorem u168_2 : wp scr n mb_168 2 L st M Q ↔ wp scr n mb_168 3 L (.long 0 :: st) M Q := wp_step rfl rfl rfl rfl rfl
theorem u168_3 : wp scr n mb_168 3 L st M Q ↔ wp scr n mb_168 6 L (.long (7) :: st) M Q := wp_step rfl rfl rfl rfl rfl
theorem u168_6 : wp scr n mb_168 6 L (a3 :: a2 :: a1 :: st) M Q ↔ (mw_st st ∧ Wp scr n 146 [a1, a2, a3] M (fun r1 M1 => wp scr n mb_168 9 L (r1.toList ++ st) M1 Q)) := wp_sta rfl rfl rfl rfl
theorem u168_9 : wp scr n mb_168 9 L [.int x] M Q ↔ ((x = 0 ∨ x = 1) ∧ Q (some (.int x)) M) := wp_retb rfl rfl
theorem e168 : Wp scr (n + 1) 168 [.int x1] M Q ↔ wp scr n mb_168 0 [some (.int x1)] [] M Q := Wp_to rfl rfl rfl
/-- SmallerInTheShopModel isRead ([II)Z -/
def mb_169 : mw_B := ((Option.some FieldType.boolean), mp_169)
theorem u169_0 : wp scr n mb_169 0 [some (.ref a), l1] st M Q ↔ wp scr n mb_169 1 [some (.ref a), l1] (.ref a :: st) M Q := wp_step rfl rfl rfl rfl rfl
theorem u169_1 : wp scr n mb_169 1 [l0, some (.int x)] st M Q ↔ wp scr n mb_169 2 [l0, some (.int x)] (.int x :: st) M Q := wp_step rfl rfl rfl rfl rfl
theorem u169_2 : wp scr n mb_169 2 L st M Q ↔ wp scr n mb_169 3 L (.int 0 :: st) M Q := wp_step rfl rfl rfl rfl rfl
theorem u169_3 : wp scr n mb_169 3 L (a3 :: a2 :: a1 :: st) M Q ↔ (mw_st st ∧ Wp scr n 170 [a1, a2, a3] M (fun r1 M1 => wp scr n mb_169 6 L (r1.toList ++ st) M1 Q)) := wp_sta rfl rfl rfl rfl
theorem u169_6 : wp scr n mb_169 6 L [.int x] M Q ↔ ((x = 0 ∨ x = 1) ∧ Q (some (.int x)) M) := wp_retb rfl rfl
theorem e169 : Wp scr (n + 1) 169 [.ref b1, .int x2] M Q ↔ wp scr n mb_169 0 [some (.ref b1), some (.int x2)] [] M Q := Wp_to rfl rfl rfl
/-- SmallerInTheShopModel shows ([III)Z -/
def mb_170 : mw_B := ((Option.some FieldType.boolean), mp_170)
theorem u170_0 : wp scr n mb_170 0 [some (.ref a), l1, l2, l3] st M Q ↔ wp scr n mb_170 1 [some (.ref a), l1, l2, l3] (.ref a :: st) M Q := wp_step rfl rfl rfl rfl rfl
theorem u170_1 : wp scr n mb_170 1 L st M Q ↔ wp scr n mb_170 3 L (.int 40 :: st) M Q := wp_step rfl rfl rfl rfl rfl
theorem u170_3 : wp scr n mb_170 3 L st M Q ↔ wp scr n mb_170 4 L (.int 4 :: st) M Q := wp_step rfl rfl rfl rfl rfl
theorem u170_4 : wp scr n mb_170 4 [l0, some (.int x), l2, l3] st M Q ↔ wp scr n mb_170 5 [l0, some (.int x), l2, l3] (.int x :: st) M Q := wp_step rfl rfl rfl rfl rfl
theorem u170_5 : wp scr n mb_170 5 L (.int y :: .int x :: st) M Q ↔ wp scr n mb_170 6 L (.int (x * y) :: st) M Q := wp_step rfl rfl rfl rfl rfl
theorem u170_6 : wp scr n mb_170 6 L (.int y :: .int x :: st) M Q ↔ wp scr n mb_170 7 L (.int (x + y) :: st) M Q := wp_step rfl rfl rfl rfl rfl
theorem u170_7 : wp scr n mb_170 7 L st M Q ↔ wp scr n mb_170 8 L (.int 3 :: st) M Q := wp_step rfl rfl rfl rfl rfl
theorem u170_8 : wp scr n mb_170 8 L (.int y :: .int x :: st) M Q ↔ wp scr n mb_170 9 L (.int (x + y) :: st) M Q := wp_step rfl rfl rfl rfl rfl
theorem u170_9 : wp scr n mb_170 9 L (.int y :: o :: st) M Q ↔ mw_o (mm_ld (mc_X scr) M o y) (fun x => wp scr n mb_170 10 L (.int x :: st) M Q) := wp_iald rfl
theorem u170_10 : wp scr n mb_170 10 [l0, l1, some (.int x), l3] st M Q ↔ wp scr n mb_170 11 [l0, l1, some (.int x), l3] (.int x :: st) M Q := wp_step rfl rfl rfl rfl rfl
theorem u170_11 : wp scr n mb_170 11 L (.int y :: .int x :: st) M Q ↔ (if x = y then wp scr n mb_170 14 L st M Q else wp scr n mb_170 18 L st M Q) := (wp_step rfl rfl rfl rfl rfl).trans wp_iten
theorem u170_14 : wp scr n mb_170 14 L st M Q ↔ wp scr n mb_170 15 L (.int 1 :: st) M Q := wp_step rfl rfl rfl rfl rfl
theorem u170_15 : wp scr n mb_170 15 L st M Q ↔ wp scr n mb_170 19 L st M Q := wp_step rfl rfl rfl rfl rfl
theorem u170_18 : wp scr n mb_170 18 L st M Q ↔ wp scr n mb_170 19 L (.int 0 :: st) M Q := wp_step rfl rfl rfl rfl rfl
theorem u170_19 : wp scr n mb_170 19 [l0, l1, l2, l3] (.int x :: st) M Q ↔ wp scr n mb_170 20 (mm_sto1 [l0, l1, l2, l3] 3 (.int x)) st M Q := wp_step rfl rfl rfl rfl rfl
theorem u170_20 : wp scr n mb_170 20 [l0, l1, l2, some (.int x)] st M Q ↔ wp scr n mb_170 21 [l0, l1, l2, some (.int x)] (.int x :: st) M Q := wp_step rfl rfl rfl rfl rfl
theorem u170_21 : wp scr n mb_170 21 L (.int x :: st) M Q ↔ (if x = 0 then wp scr n mb_170 32 L st M Q else wp scr n mb_170 24 L st M Q) := (wp_step rfl rfl rfl rfl rfl).trans wp_ite
theorem u170_24 : wp scr n mb_170 24 [some (.ref a), l1, l2, l3] st M Q ↔ wp scr n mb_170 25 [some (.ref a), l1, l2, l3] (.ref a :: st) M Q := wp_step rfl rfl rfl rfl rfl
theorem u170_25 : wp scr n mb_170 25 [l0, some (.int x), l2, l3] st M Q ↔ wp scr n mb_170 26 [l0, some (.int x), l2, l3] (.int x :: st) M Q := wp_step rfl rfl rfl rfl rfl
theorem u170_26 : wp scr n mb_170 26 L (a2 :: a1 :: st) M Q ↔ (mw_st st ∧ Wp scr n 171 [a1, a2] M (fun r1 M1 => wp scr n mb_170 29 L (r1.toList ++ st) M1 Q)) := wp_sta rfl rfl rfl rfl
theorem u170_29 : wp scr n mb_170 29 L (.int x :: st) M Q ↔ (if x = 0 then wp scr n mb_170 49 L st M Q else wp scr n mb_170 32 L st M Q) := (wp_step rfl rfl rfl rfl rfl).trans wp_ite
theorem u170_32 : wp scr n mb_170 32 [l0, l1, l2, some (.int x)] st M Q ↔ wp scr n mb_170 33 [l0, l1, l2, some (.int x)] (.int x :: st) M Q := wp_step rfl rfl rfl rfl rfl
theorem u170_33 : wp scr n mb_170 33 L (.int x :: st) M Q ↔ (if x = 0 then wp scr n mb_170 36 L st M Q else wp scr n mb_170 53 L st M Q) := (wp_step rfl rfl rfl rfl rfl).trans wp_iten
theorem u170_36 : wp scr n mb_170 36 [some (.ref a), l1, l2, l3] st M Q ↔ wp scr n mb_170 37 [some (.ref a), l1, l2, l3] (.ref a :: st) M Q := wp_step rfl rfl rfl rfl rfl
theorem u170_37 : wp scr n mb_170 37 L st M Q ↔ wp scr n mb_170 39 L (.int 40 :: st) M Q := wp_step rfl rfl rfl rfl rfl
theorem u170_39 : wp scr n mb_170 39 L st M Q ↔ wp scr n mb_170 40 L (.int 4 :: st) M Q := wp_step rfl rfl rfl rfl rfl
theorem u170_40 : wp scr n mb_170 40 [l0, some (.int x), l2, l3] st M Q ↔ wp scr n mb_170 41 [l0, some (.int x), l2, l3] (.int x :: st) M Q := wp_step rfl rfl rfl rfl rfl
theorem u170_41 : wp scr n mb_170 41 L (.int y :: .int x :: st) M Q ↔ wp scr n mb_170 42 L (.int (x * y) :: st) M Q := wp_step rfl rfl rfl rfl rfl
theorem u170_42 : wp scr n mb_170 42 L (.int y :: .int x :: st) M Q ↔ wp scr n mb_170 43 L (.int (x + y) :: st) M Q := wp_step rfl rfl rfl rfl rfl
theorem u170_43 : wp scr n mb_170 43 L st M Q ↔ wp scr n mb_170 44 L (.int 2 :: st) M Q := wp_step rfl rfl rfl rfl rfl
theorem u170_44 : wp scr n mb_170 44 L (.int y :: .int x :: st) M Q ↔ wp scr n mb_170 45 L (.int (x + y) :: st) M Q := wp_step rfl rfl rfl rfl rfl
theorem u170_45 : wp scr n mb_170 45 L (.int y :: o :: st) M Q ↔ mw_o (mm_ld (mc_X scr) M o y) (fun x => wp scr n mb_170 46 L (.int x :: st) M Q) := wp_iald rfl
theorem u170_46 : wp scr n mb_170 46 L (.int x :: st) M Q ↔ (if x = 0 then wp scr n mb_170 49 L st M Q else wp scr n mb_170 53 L st M Q) := (wp_step rfl rfl rfl rfl rfl).trans wp_iten
theorem u170_49 : wp scr n mb_170 49 L st M Q ↔ wp scr n mb_170 50 L (.int 1 :: st) M Q := wp_step rfl rfl rfl rfl rfl
theorem u170_50 : wp scr n mb_170 50 L st M Q ↔ wp scr n mb_170 54 L st M Q := wp_step rfl rfl rfl rfl rfl
theorem u170_53 : wp scr n mb_170 53 L st M Q ↔ wp scr n mb_170 54 L (.int 0 :: st) M Q := wp_step rfl rfl rfl rfl rfl
theorem u170_54 : wp scr n mb_170 54 L [.int x] M Q ↔ ((x = 0 ∨ x = 1) ∧ Q (some (.int x)) M) := wp_retb rfl rfl
theorem e170 : Wp scr (n + 1) 170 [.ref b1, .int x2, .int x3] M Q ↔ wp scr n mb_170 0 [some (.ref b1), some (.int x2), some (.int x3), none] [] M Q := Wp_to rfl rfl rfl
/-- SmallerInTheShopModel above ([II)I -/
def mb_171 : mw_B := ((Option.some FieldType.int), mp_171)
theorem u171_0 : wp scr n mb_171 0 L st M Q ↔ wp scr n mb_171 1 L (.int 0 :: st) M Q := wp_step rfl rfl rfl rfl rfl
theorem u171_1 : wp scr n mb_171 1 [l0, l1, l2, l3] (.int x :: st) M Q ↔ wp scr n mb_171 2 (mm_sto1 [l0, l1, l2, l3] 2 (.int x)) st M Q := wp_step rfl rfl rfl rfl rfl
theorem u171_2 : wp scr n mb_171 2 L st M Q ↔ wp scr n mb_171 3 L (.int 0 :: st) M Q := wp_step rfl rfl rfl rfl rfl
theorem u171_3 : wp scr n mb_171 3 [l0, l1, l2, l3] (.int x :: st) M Q ↔ wp scr n mb_171 4 (mm_sto1 [l0, l1, l2, l3] 3 (.int x)) st M Q := wp_step rfl rfl rfl rfl rfl
theorem u171_4 : wp scr n mb_171 4 [l0, l1, l2, some (.int x)] st M Q ↔ wp scr n mb_171 5 [l0, l1, l2, some (.int x)] (.int x :: st) M Q := wp_step rfl rfl rfl rfl rfl
theorem u171_5 : wp scr n mb_171 5 L st M Q ↔ wp scr n mb_171 7 L (.int 8 :: st) M Q := wp_step rfl rfl rfl rfl rfl
theorem u171_7 : wp scr n mb_171 7 L (.int y :: .int x :: st) M Q ↔ (if y ≤ x then wp scr n mb_171 61 L st M Q else wp scr n mb_171 10 L st M Q) := (wp_step rfl rfl rfl rfl rfl).trans wp_ite
theorem u171_10 : wp scr n mb_171 10 [l0, l1, some (.int x), l3] st M Q ↔ wp scr n mb_171 11 [l0, l1, some (.int x), l3] (.int x :: st) M Q := wp_step rfl rfl rfl rfl rfl
theorem u171_11 : wp scr n mb_171 11 [l0, l1, l2, some (.int x)] st M Q ↔ wp scr n mb_171 12 [l0, l1, l2, some (.int x)] (.int x :: st) M Q := wp_step rfl rfl rfl rfl rfl
theorem u171_12 : wp scr n mb_171 12 [l0, some (.int x), l2, l3] st M Q ↔ wp scr n mb_171 13 [l0, some (.int x), l2, l3] (.int x :: st) M Q := wp_step rfl rfl rfl rfl rfl
theorem u171_13 : wp scr n mb_171 13 L (.int y :: .int x :: st) M Q ↔ (if x = y then wp scr n mb_171 52 L st M Q else wp scr n mb_171 16 L st M Q) := (wp_step rfl rfl rfl rfl rfl).trans wp_ite
theorem u171_16 : wp scr n mb_171 16 [some (.ref a), l1, l2, l3] st M Q ↔ wp scr n mb_171 17 [some (.ref a), l1, l2, l3] (.ref a :: st) M Q := wp_step rfl rfl rfl rfl rfl
theorem u171_17 : wp scr n mb_171 17 [l0, some (.int x), l2, l3] st M Q ↔ wp scr n mb_171 18 [l0, some (.int x), l2, l3] (.int x :: st) M Q := wp_step rfl rfl rfl rfl rfl
theorem u171_18 : wp scr n mb_171 18 [l0, l1, l2, some (.int x)] st M Q ↔ wp scr n mb_171 19 [l0, l1, l2, some (.int x)] (.int x :: st) M Q := wp_step rfl rfl rfl rfl rfl
theorem u171_19 : wp scr n mb_171 19 L (a3 :: a2 :: a1 :: st) M Q ↔ (mw_st st ∧ Wp scr n 163 [a1, a2, a3] M (fun r1 M1 => wp scr n mb_171 22 L (r1.toList ++ st) M1 Q)) := wp_sta rfl rfl rfl rfl
theorem u171_22 : wp scr n mb_171 22 L (.int x :: st) M Q ↔ (if x = 0 then wp scr n mb_171 52 L st M Q else wp scr n mb_171 25 L st M Q) := (wp_step rfl rfl rfl rfl rfl).trans wp_ite
theorem u171_25 : wp scr n mb_171 25 [some (.ref a), l1, l2, l3] st M Q ↔ wp scr n mb_171 26 [some (.ref a), l1, l2, l3] (.ref a :: st) M Q := wp_step rfl rfl rfl rfl rfl
theorem u171_26 : wp scr n mb_171 26 L st M Q ↔ wp scr n mb_171 28 L (.int 40 :: st) M Q := wp_step rfl rfl rfl rfl rfl
theorem u171_28 : wp scr n mb_171 28 L st M Q ↔ wp scr n mb_171 29 L (.int 4 :: st) M Q := wp_step rfl rfl rfl rfl rfl
theorem u171_29 : wp scr n mb_171 29 [l0, l1, l2, some (.int x)] st M Q ↔ wp scr n mb_171 30 [l0, l1, l2, some (.int x)] (.int x :: st) M Q := wp_step rfl rfl rfl rfl rfl
theorem u171_30 : wp scr n mb_171 30 L (.int y :: .int x :: st) M Q ↔ wp scr n mb_171 31 L (.int (x * y) :: st) M Q := wp_step rfl rfl rfl rfl rfl
theorem u171_31 : wp scr n mb_171 31 L (.int y :: .int x :: st) M Q ↔ wp scr n mb_171 32 L (.int (x + y) :: st) M Q := wp_step rfl rfl rfl rfl rfl
theorem u171_32 : wp scr n mb_171 32 L st M Q ↔ wp scr n mb_171 33 L (.int 2 :: st) M Q := wp_step rfl rfl rfl rfl rfl
theorem u171_33 : wp scr n mb_171 33 L (.int y :: .int x :: st) M Q ↔ wp scr n mb_171 34 L (.int (x + y) :: st) M Q := wp_step rfl rfl rfl rfl rfl
theorem u171_34 : wp scr n mb_171 34 L (.int y :: o :: st) M Q ↔ mw_o (mm_ld (mc_X scr) M o y) (fun x => wp scr n mb_171 35 L (.int x :: st) M Q) := wp_iald rfl
theorem u171_35 : wp scr n mb_171 35 [some (.ref a), l1, l2, l3] st M Q ↔ wp scr n mb_171 36 [some (.ref a), l1, l2, l3] (.ref a :: st) M Q := wp_step rfl rfl rfl rfl rfl
theorem u171_36 : wp scr n mb_171 36 L st M Q ↔ wp scr n mb_171 38 L (.int 40 :: st) M Q := wp_step rfl rfl rfl rfl rfl
theorem u171_38 : wp scr n mb_171 38 L st M Q ↔ wp scr n mb_171 39 L (.int 4 :: st) M Q := wp_step rfl rfl rfl rfl rfl
theorem u171_39 : wp scr n mb_171 39 [l0, some (.int x), l2, l3] st M Q ↔ wp scr n mb_171 40 [l0, some (.int x), l2, l3] (.int x :: st) M Q := wp_step rfl rfl rfl rfl rfl
theorem u171_40 : wp scr n mb_171 40 L (.int y :: .int x :: st) M Q ↔ wp scr n mb_171 41 L (.int (x * y) :: st) M Q := wp_step rfl rfl rfl rfl rfl
theorem u171_41 : wp scr n mb_171 41 L (.int y :: .int x :: st) M Q ↔ wp scr n mb_171 42 L (.int (x + y) :: st) M Q := wp_step rfl rfl rfl rfl rfl
theorem u171_42 : wp scr n mb_171 42 L st M Q ↔ wp scr n mb_171 43 L (.int 2 :: st) M Q := wp_step rfl rfl rfl rfl rfl
theorem u171_43 : wp scr n mb_171 43 L (.int y :: .int x :: st) M Q ↔ wp scr n mb_171 44 L (.int (x + y) :: st) M Q := wp_step rfl rfl rfl rfl rfl
theorem u171_44 : wp scr n mb_171 44 L (.int y :: o :: st) M Q ↔ mw_o (mm_ld (mc_X scr) M o y) (fun x => wp scr n mb_171 45 L (.int x :: st) M Q) := wp_iald rfl
theorem u171_45 : wp scr n mb_171 45 L (.int y :: .int x :: st) M Q ↔ (if x ≤ y then wp scr n mb_171 52 L st M Q else wp scr n mb_171 48 L st M Q) := (wp_step rfl rfl rfl rfl rfl).trans wp_ite
theorem u171_48 : wp scr n mb_171 48 L st M Q ↔ wp scr n mb_171 49 L (.int 1 :: st) M Q := wp_step rfl rfl rfl rfl rfl
theorem u171_49 : wp scr n mb_171 49 L st M Q ↔ wp scr n mb_171 53 L st M Q := wp_step rfl rfl rfl rfl rfl
theorem u171_52 : wp scr n mb_171 52 L st M Q ↔ wp scr n mb_171 53 L (.int 0 :: st) M Q := wp_step rfl rfl rfl rfl rfl
theorem u171_53 : wp scr n mb_171 53 L (.int y :: .int x :: st) M Q ↔ wp scr n mb_171 54 L (.int (x + y) :: st) M Q := wp_step rfl rfl rfl rfl rfl
theorem u171_54 : wp scr n mb_171 54 [l0, l1, l2, l3] (.int x :: st) M Q ↔ wp scr n mb_171 55 (mm_sto1 [l0, l1, l2, l3] 2 (.int x)) st M Q := wp_step rfl rfl rfl rfl rfl
theorem u171_55 : wp scr n mb_171 55 [l0, l1, l2, some (.int x)] st M Q ↔ wp scr n mb_171 58 (mm_sto1 [l0, l1, l2, some (.int x)] 3 (.int (x + 1))) st M Q := wp_step rfl rfl rfl rfl rfl
theorem u171_58 : wp scr n mb_171 58 L st M Q ↔ wp scr n mb_171 4 L st M Q := wp_step rfl rfl rfl rfl rfl
theorem u171_61 : wp scr n mb_171 61 [l0, l1, some (.int x), l3] st M Q ↔ wp scr n mb_171 62 [l0, l1, some (.int x), l3] (.int x :: st) M Q := wp_step rfl rfl rfl rfl rfl
theorem u171_62 : wp scr n mb_171 62 L [.int x] M Q ↔ Q (some (.int x)) M := wp_ret rfl rfl
theorem e171 : Wp scr (n + 1) 171 [.ref b1, .int x2] M Q ↔ wp scr n mb_171 0 [some (.ref b1), some (.int x2), none, none] [] M Q := Wp_to rfl rfl rfl
/-- SmallerInTheShopModel fold (II)I -/
def mb_172 : mw_B := ((Option.some FieldType.int), mp_172)
theorem u172_0 : wp scr n mb_172 0 [some (.ref a), l1, l2] st M Q ↔ wp scr n mb_172 1 [some (.ref a), l1, l2] (.ref a :: st) M Q := wp_step rfl rfl rfl rfl rfl
theorem u172_1 : wp scr n mb_172 1 L (o :: st) M Q ↔ mw_o (mm_fld (mc_X scr) M o 6 0) (fun v => wp scr n mb_172 4 L (v :: st) M Q) := wp_getf rfl
theorem u172_4 : wp scr n mb_172 4 [l0, some (.int x), l2] st M Q ↔ wp scr n mb_172 5 [l0, some (.int x), l2] (.int x :: st) M Q := wp_step rfl rfl rfl rfl rfl
theorem u172_5 : wp scr n mb_172 5 L (a2 :: a1 :: st) M Q ↔ (mw_st st ∧ Wp scr n 150 [a1, a2] M (fun r1 M1 => wp scr n mb_172 8 L (r1.toList ++ st) M1 Q)) := wp_sta rfl rfl rfl rfl
theorem u172_8 : wp scr n mb_172 8 L (.int x :: st) M Q ↔ (if x = 0 then wp scr n mb_172 11 L st M Q else wp scr n mb_172 17 L st M Q) := (wp_step rfl rfl rfl rfl rfl).trans wp_iten
theorem u172_11 : wp scr n mb_172 11 [some (.ref a), l1, l2] st M Q ↔ wp scr n mb_172 12 [some (.ref a), l1, l2] (.ref a :: st) M Q := wp_step rfl rfl rfl rfl rfl
theorem u172_12 : wp scr n mb_172 12 L st M Q ↔ wp scr n mb_172 13 L (.int (-1) :: st) M Q := wp_step rfl rfl rfl rfl rfl
theorem u172_13 : wp scr n mb_172 13 L (a2 :: .ref a :: st) M Q ↔ ((mw_r M a 6 ∧ mw_st st) ∧ Wp scr n 141 [.ref a, a2] M (fun r1 M1 => wp scr n mb_172 16 L (r1.toList ++ st) M1 Q)) := wp_vir rfl rfl rfl rfl rfl
theorem u172_16 : wp scr n mb_172 16 L [.int x] M Q ↔ Q (some (.int x)) M := wp_ret rfl rfl
theorem u172_17 : wp scr n mb_172 17 [l0, l1, some (.int x)] st M Q ↔ wp scr n mb_172 18 [l0, l1, some (.int x)] (.int x :: st) M Q := wp_step rfl rfl rfl rfl rfl
theorem u172_18 : wp scr n mb_172 18 L (.int x :: st) M Q ↔ wp scr n mb_172 19 L (.long x.toInt64 :: st) M Q := wp_step rfl rfl rfl rfl rfl
theorem u172_19 : wp scr n mb_172 19 L st M Q ↔ wp scr n mb_172 20 L (.long 0 :: st) M Q := wp_step rfl rfl rfl rfl rfl
theorem u172_20 : wp scr n mb_172 20 L st M Q ↔ wp scr n mb_172 23 L (.long (3) :: st) M Q := wp_step rfl rfl rfl rfl rfl
theorem u172_23 : wp scr n mb_172 23 L (a3 :: a2 :: a1 :: st) M Q ↔ (mw_st st ∧ Wp scr n 146 [a1, a2, a3] M (fun r1 M1 => wp scr n mb_172 26 L (r1.toList ++ st) M1 Q)) := wp_sta rfl rfl rfl rfl
theorem u172_26 : wp scr n mb_172 26 L (.int x :: st) M Q ↔ (if x = 0 then wp scr n mb_172 42 L st M Q else wp scr n mb_172 29 L st M Q) := (wp_step rfl rfl rfl rfl rfl).trans wp_ite
theorem u172_29 : wp scr n mb_172 29 [some (.ref a), l1, l2] st M Q ↔ wp scr n mb_172 30 [some (.ref a), l1, l2] (.ref a :: st) M Q := wp_step rfl rfl rfl rfl rfl
theorem u172_30 : wp scr n mb_172 30 [some (.ref a), l1, l2] st M Q ↔ wp scr n mb_172 31 [some (.ref a), l1, l2] (.ref a :: st) M Q := wp_step rfl rfl rfl rfl rfl
theorem u172_31 : wp scr n mb_172 31 L (o :: st) M Q ↔ mw_o (mm_fld (mc_X scr) M o 6 0) (fun v => wp scr n mb_172 34 L (v :: st) M Q) := wp_getf rfl
theorem u172_34 : wp scr n mb_172 34 [l0, some (.int x), l2] st M Q ↔ wp scr n mb_172 35 [l0, some (.int x), l2] (.int x :: st) M Q := wp_step rfl rfl rfl rfl rfl
theorem u172_35 : wp scr n mb_172 35 [l0, l1, some (.int x)] st M Q ↔ wp scr n mb_172 36 [l0, l1, some (.int x)] (.int x :: st) M Q := wp_step rfl rfl rfl rfl rfl
theorem u172_36 : wp scr n mb_172 36 L (a4 :: a3 :: a2 :: .ref a :: st) M Q ↔ ((mw_r M a 6 ∧ mw_st st) ∧ Wp scr n 152 [.ref a, a2, a3, a4] M (fun r1 M1 => wp scr n mb_172 39 L (r1.toList ++ st) M1 Q)) := wp_vir rfl rfl rfl rfl rfl
theorem u172_39 : wp scr n mb_172 39 L st M Q ↔ wp scr n mb_172 48 L st M Q := wp_step rfl rfl rfl rfl rfl
theorem u172_42 : wp scr n mb_172 42 [some (.ref a), l1, l2] st M Q ↔ wp scr n mb_172 43 [some (.ref a), l1, l2] (.ref a :: st) M Q := wp_step rfl rfl rfl rfl rfl
theorem u172_43 : wp scr n mb_172 43 L st M Q ↔ wp scr n mb_172 45 L (.int (-2) :: st) M Q := wp_step rfl rfl rfl rfl rfl
theorem u172_45 : wp scr n mb_172 45 L (a2 :: .ref a :: st) M Q ↔ ((mw_r M a 6 ∧ mw_st st) ∧ Wp scr n 141 [.ref a, a2] M (fun r1 M1 => wp scr n mb_172 48 L (r1.toList ++ st) M1 Q)) := wp_vir rfl rfl rfl rfl rfl
theorem u172_48 : wp scr n mb_172 48 L [.int x] M Q ↔ Q (some (.int x)) M := wp_ret rfl rfl
theorem e172 : Wp scr (n + 1) 172 [.ref a0, .int x1, .int x2] M Q ↔ wp scr n mb_172 0 [some (.ref a0), some (.int x1), some (.int x2)] [] M Q := Wp_to rfl rfl rfl
/-- SmallerInTheShopModel opens ()I -/
def mb_173 : mw_B := ((Option.some FieldType.int), mp_173)
theorem u173_0 : wp scr n mb_173 0 [some (.ref a)] st M Q ↔ wp scr n mb_173 1 [some (.ref a)] (.ref a :: st) M Q := wp_step rfl rfl rfl rfl rfl
theorem u173_1 : wp scr n mb_173 1 L (o :: st) M Q ↔ mw_o (mm_fld (mc_X scr) M o 6 0) (fun v => wp scr n mb_173 4 L (v :: st) M Q) := wp_getf rfl
theorem u173_4 : wp scr n mb_173 4 L st M Q ↔ wp scr n mb_173 6 L (.int 73 :: st) M Q := wp_step rfl rfl rfl rfl rfl
theorem u173_6 : wp scr n mb_173 6 L (.int y :: o :: st) M Q ↔ mw_o (mm_ld (mc_X scr) M o y) (fun x => wp scr n mb_173 7 L (.int x :: st) M Q) := wp_iald rfl
theorem u173_7 : wp scr n mb_173 7 L (.int x :: st) M Q ↔ (if x = 0 then wp scr n mb_173 10 L st M Q else wp scr n mb_173 17 L st M Q) := (wp_step rfl rfl rfl rfl rfl).trans wp_iten
theorem u173_10 : wp scr n mb_173 10 [some (.ref a)] st M Q ↔ wp scr n mb_173 11 [some (.ref a)] (.ref a :: st) M Q := wp_step rfl rfl rfl rfl rfl
theorem u173_11 : wp scr n mb_173 11 L st M Q ↔ wp scr n mb_173 13 L (.int (-3) :: st) M Q := wp_step rfl rfl rfl rfl rfl
theorem u173_13 : wp scr n mb_173 13 L (a2 :: .ref a :: st) M Q ↔ ((mw_r M a 6 ∧ mw_st st) ∧ Wp scr n 141 [.ref a, a2] M (fun r1 M1 => wp scr n mb_173 16 L (r1.toList ++ st) M1 Q)) := wp_vir rfl rfl rfl rfl rfl
theorem u173_16 : wp scr n mb_173 16 L [.int x] M Q ↔ Q (some (.int x)) M := wp_ret rfl rfl
theorem u173_17 : wp scr n mb_173 17 [some (.ref a)] st M Q ↔ wp scr n mb_173 18 [some (.ref a)] (.ref a :: st) M Q := wp_step rfl rfl rfl rfl rfl
theorem u173_18 : wp scr n mb_173 18 L (o :: st) M Q ↔ mw_o (mm_fld (mc_X scr) M o 6 0) (fun v => wp scr n mb_173 21 L (v :: st) M Q) := wp_getf rfl
theorem u173_21 : wp scr n mb_173 21 L (a1 :: st) M Q ↔ (mw_st st ∧ Wp scr n 164 [a1] M (fun r1 M1 => wp scr n mb_173 24 L (r1.toList ++ st) M1 Q)) := wp_sta rfl rfl rfl rfl
theorem u173_24 : wp scr n mb_173 24 [some (.ref a)] st M Q ↔ wp scr n mb_173 25 [some (.ref a)] (.ref a :: st) M Q := wp_step rfl rfl rfl rfl rfl
theorem u173_25 : wp scr n mb_173 25 L (o :: st) M Q ↔ mw_o (mm_fld (mc_X scr) M o 6 0) (fun v => wp scr n mb_173 28 L (v :: st) M Q) := wp_getf rfl
theorem u173_28 : wp scr n mb_173 28 L st M Q ↔ wp scr n mb_173 30 L (.int 73 :: st) M Q := wp_step rfl rfl rfl rfl rfl
theorem u173_30 : wp scr n mb_173 30 L (.int y :: o :: st) M Q ↔ mw_o (mm_ld (mc_X scr) M o y) (fun x => wp scr n mb_173 31 L (.int x :: st) M Q) := wp_iald rfl
theorem u173_31 : wp scr n mb_173 31 L [.int x] M Q ↔ Q (some (.int x)) M := wp_ret rfl rfl
theorem e173 : Wp scr (n + 1) 173 [.ref a0] M Q ↔ wp scr n mb_173 0 [some (.ref a0)] [] M Q := Wp_to rfl rfl rfl
/-- SmallerInTheShopModel wears (II)I -/
def mb_174 : mw_B := ((Option.some FieldType.int), mp_174)
theorem u174_0 : wp scr n mb_174 0 [l0, some (.int x), l2, l3] st M Q ↔ wp scr n mb_174 1 [l0, some (.int x), l2, l3] (.int x :: st) M Q := wp_step rfl rfl rfl rfl rfl
theorem u174_1 : wp scr n mb_174 1 L (a1 :: st) M Q ↔ (mw_st st ∧ Wp scr n 166 [a1] M (fun r1 M1 => wp scr n mb_174 4 L (r1.toList ++ st) M1 Q)) := wp_sta rfl rfl rfl rfl
theorem u174_4 : wp scr n mb_174 4 L (.int x :: st) M Q ↔ (if x = 0 then wp scr n mb_174 7 L st M Q else wp scr n mb_174 13 L st M Q) := (wp_step rfl rfl rfl rfl rfl).trans wp_iten
theorem u174_7 : wp scr n mb_174 7 [some (.ref a), l1, l2, l3] st M Q ↔ wp scr n mb_174 8 [some (.ref a), l1, l2, l3] (.ref a :: st) M Q := wp_step rfl rfl rfl rfl rfl
theorem u174_8 : wp scr n mb_174 8 L st M Q ↔ wp scr n mb_174 9 L (.int (-1) :: st) M Q := wp_step rfl rfl rfl rfl rfl
theorem u174_9 : wp scr n mb_174 9 L (a2 :: .ref a :: st) M Q ↔ ((mw_r M a 6 ∧ mw_st st) ∧ Wp scr n 141 [.ref a, a2] M (fun r1 M1 => wp scr n mb_174 12 L (r1.toList ++ st) M1 Q)) := wp_vir rfl rfl rfl rfl rfl
theorem u174_12 : wp scr n mb_174 12 L [.int x] M Q ↔ Q (some (.int x)) M := wp_ret rfl rfl
theorem u174_13 : wp scr n mb_174 13 [l0, l1, some (.int x), l3] st M Q ↔ wp scr n mb_174 14 [l0, l1, some (.int x), l3] (.int x :: st) M Q := wp_step rfl rfl rfl rfl rfl
theorem u174_14 : wp scr n mb_174 14 L (.int x :: st) M Q ↔ wp scr n mb_174 15 L (.long x.toInt64 :: st) M Q := wp_step rfl rfl rfl rfl rfl
theorem u174_15 : wp scr n mb_174 15 L st M Q ↔ wp scr n mb_174 16 L (.long 0 :: st) M Q := wp_step rfl rfl rfl rfl rfl
theorem u174_16 : wp scr n mb_174 16 L st M Q ↔ wp scr n mb_174 19 L (.long (99) :: st) M Q := wp_step rfl rfl rfl rfl rfl
theorem u174_19 : wp scr n mb_174 19 L (a3 :: a2 :: a1 :: st) M Q ↔ (mw_st st ∧ Wp scr n 146 [a1, a2, a3] M (fun r1 M1 => wp scr n mb_174 22 L (r1.toList ++ st) M1 Q)) := wp_sta rfl rfl rfl rfl
theorem u174_22 : wp scr n mb_174 22 L (.int x :: st) M Q ↔ (if x = 0 then wp scr n mb_174 25 L st M Q else wp scr n mb_174 41 L st M Q) := (wp_step rfl rfl rfl rfl rfl).trans wp_iten
theorem u174_25 : wp scr n mb_174 25 [some (.ref a), l1, l2, l3] st M Q ↔ wp scr n mb_174 26 [some (.ref a), l1, l2, l3] (.ref a :: st) M Q := wp_step rfl rfl rfl rfl rfl
theorem u174_26 : wp scr n mb_174 26 [l0, l1, some (.int x), l3] st M Q ↔ wp scr n mb_174 27 [l0, l1, some (.int x), l3] (.int x :: st) M Q := wp_step rfl rfl rfl rfl rfl
theorem u174_27 : wp scr n mb_174 27 L (.int x :: st) M Q ↔ (if 0 ≤ x then wp scr n mb_174 35 L st M Q else wp scr n mb_174 30 L st M Q) := (wp_step rfl rfl rfl rfl rfl).trans wp_ite
theorem u174_30 : wp scr n mb_174 30 L st M Q ↔ wp scr n mb_174 32 L (.int (-4) :: st) M Q := wp_step rfl rfl rfl rfl rfl
theorem u174_32 : wp scr n mb_174 32 L st M Q ↔ wp scr n mb_174 37 L st M Q := wp_step rfl rfl rfl rfl rfl
theorem u174_35 : wp scr n mb_174 35 L st M Q ↔ wp scr n mb_174 37 L (.int (-6) :: st) M Q := wp_step rfl rfl rfl rfl rfl
theorem u174_37 : wp scr n mb_174 37 L (a2 :: .ref a :: st) M Q ↔ ((mw_r M a 6 ∧ mw_st st) ∧ Wp scr n 141 [.ref a, a2] M (fun r1 M1 => wp scr n mb_174 40 L (r1.toList ++ st) M1 Q)) := wp_vir rfl rfl rfl rfl rfl
theorem u174_40 : wp scr n mb_174 40 L [.int x] M Q ↔ Q (some (.int x)) M := wp_ret rfl rfl
theorem u174_41 : wp scr n mb_174 41 [some (.ref a), l1, l2, l3] st M Q ↔ wp scr n mb_174 42 [some (.ref a), l1, l2, l3] (.ref a :: st) M Q := wp_step rfl rfl rfl rfl rfl
theorem u174_42 : wp scr n mb_174 42 L (o :: st) M Q ↔ mw_o (mm_fld (mc_X scr) M o 6 0) (fun v => wp scr n mb_174 45 L (v :: st) M Q) := wp_getf rfl
theorem u174_45 : wp scr n mb_174 45 L st M Q ↔ wp scr n mb_174 47 L (.int 20 :: st) M Q := wp_step rfl rfl rfl rfl rfl
theorem u174_47 : wp scr n mb_174 47 [l0, some (.int x), l2, l3] st M Q ↔ wp scr n mb_174 48 [l0, some (.int x), l2, l3] (.int x :: st) M Q := wp_step rfl rfl rfl rfl rfl
theorem u174_48 : wp scr n mb_174 48 L (.int y :: .int x :: st) M Q ↔ wp scr n mb_174 49 L (.int (x + y) :: st) M Q := wp_step rfl rfl rfl rfl rfl
theorem u174_49 : wp scr n mb_174 49 L (.int y :: o :: st) M Q ↔ mw_o (mm_ld (mc_X scr) M o y) (fun x => wp scr n mb_174 50 L (.int x :: st) M Q) := wp_iald rfl
theorem u174_50 : wp scr n mb_174 50 [l0, l1, l2, l3] (.int x :: st) M Q ↔ wp scr n mb_174 51 (mm_sto1 [l0, l1, l2, l3] 3 (.int x)) st M Q := wp_step rfl rfl rfl rfl rfl
theorem u174_51 : wp scr n mb_174 51 [some (.ref a), l1, l2, l3] st M Q ↔ wp scr n mb_174 52 [some (.ref a), l1, l2, l3] (.ref a :: st) M Q := wp_step rfl rfl rfl rfl rfl
theorem u174_52 : wp scr n mb_174 52 L (o :: st) M Q ↔ mw_o (mm_fld (mc_X scr) M o 6 0) (fun v => wp scr n mb_174 55 L (v :: st) M Q) := wp_getf rfl
theorem u174_55 : wp scr n mb_174 55 L st M Q ↔ wp scr n mb_174 57 L (.int 20 :: st) M Q := wp_step rfl rfl rfl rfl rfl
theorem u174_57 : wp scr n mb_174 57 [l0, some (.int x), l2, l3] st M Q ↔ wp scr n mb_174 58 [l0, some (.int x), l2, l3] (.int x :: st) M Q := wp_step rfl rfl rfl rfl rfl
theorem u174_58 : wp scr n mb_174 58 L (.int y :: .int x :: st) M Q ↔ wp scr n mb_174 59 L (.int (x + y) :: st) M Q := wp_step rfl rfl rfl rfl rfl
theorem u174_59 : wp scr n mb_174 59 [l0, l1, some (.int x), l3] st M Q ↔ wp scr n mb_174 60 [l0, l1, some (.int x), l3] (.int x :: st) M Q := wp_step rfl rfl rfl rfl rfl
theorem u174_60 : wp scr n mb_174 60 L (.int x :: .int y :: o :: st) M Q ↔ mw_o (mm_sti M o y x) (fun M1 => wp scr n mb_174 61 L st M1 Q) := wp_iast rfl
theorem u174_61 : wp scr n mb_174 61 [l0, l1, l2, some (.int x)] st M Q ↔ wp scr n mb_174 62 [l0, l1, l2, some (.int x)] (.int x :: st) M Q := wp_step rfl rfl rfl rfl rfl
theorem u174_62 : wp scr n mb_174 62 L [.int x] M Q ↔ Q (some (.int x)) M := wp_ret rfl rfl
theorem e174 : Wp scr (n + 1) 174 [.ref a0, .int x1, .int x2] M Q ↔ wp scr n mb_174 0 [some (.ref a0), some (.int x1), some (.int x2), none] [] M Q := Wp_to rfl rfl rfl
/-- SmallerInTheShopModel turn (III)I -/
def mb_175 : mw_B := ((Option.some FieldType.int), mp_175)
theorem u175_0 : wp scr n mb_175 0 [l0, some (.int x), l2, l3, l4] st M Q ↔ wp scr n mb_175 1 [l0, some (.int x), l2, l3, l4] (.int x :: st) M Q := wp_step rfl rfl rfl rfl rfl
theorem u175_1 : wp scr n mb_175 1 L (a1 :: st) M Q ↔ (mw_st st ∧ Wp scr n 166 [a1] M (fun r1 M1 => wp scr n mb_175 4 L (r1.toList ++ st) M1 Q)) := wp_sta rfl rfl rfl rfl
theorem u175_4 : wp scr n mb_175 4 L (.int x :: st) M Q ↔ (if x = 0 then wp scr n mb_175 7 L st M Q else wp scr n mb_175 13 L st M Q) := (wp_step rfl rfl rfl rfl rfl).trans wp_iten
theorem u175_7 : wp scr n mb_175 7 [some (.ref a), l1, l2, l3, l4] st M Q ↔ wp scr n mb_175 8 [some (.ref a), l1, l2, l3, l4] (.ref a :: st) M Q := wp_step rfl rfl rfl rfl rfl
theorem u175_8 : wp scr n mb_175 8 L st M Q ↔ wp scr n mb_175 9 L (.int (-1) :: st) M Q := wp_step rfl rfl rfl rfl rfl
theorem u175_9 : wp scr n mb_175 9 L (a2 :: .ref a :: st) M Q ↔ ((mw_r M a 6 ∧ mw_st st) ∧ Wp scr n 141 [.ref a, a2] M (fun r1 M1 => wp scr n mb_175 12 L (r1.toList ++ st) M1 Q)) := wp_vir rfl rfl rfl rfl rfl
theorem u175_12 : wp scr n mb_175 12 L [.int x] M Q ↔ Q (some (.int x)) M := wp_ret rfl rfl
theorem u175_13 : wp scr n mb_175 13 [l0, l1, some (.int x), l3, l4] st M Q ↔ wp scr n mb_175 14 [l0, l1, some (.int x), l3, l4] (.int x :: st) M Q := wp_step rfl rfl rfl rfl rfl
theorem u175_14 : wp scr n mb_175 14 L (.int x :: st) M Q ↔ wp scr n mb_175 15 L (.long x.toInt64 :: st) M Q := wp_step rfl rfl rfl rfl rfl
theorem u175_15 : wp scr n mb_175 15 L st M Q ↔ wp scr n mb_175 16 L (.long 0 :: st) M Q := wp_step rfl rfl rfl rfl rfl
theorem u175_16 : wp scr n mb_175 16 L st M Q ↔ wp scr n mb_175 19 L (.long (5) :: st) M Q := wp_step rfl rfl rfl rfl rfl
theorem u175_19 : wp scr n mb_175 19 L (a3 :: a2 :: a1 :: st) M Q ↔ (mw_st st ∧ Wp scr n 146 [a1, a2, a3] M (fun r1 M1 => wp scr n mb_175 22 L (r1.toList ++ st) M1 Q)) := wp_sta rfl rfl rfl rfl
theorem u175_22 : wp scr n mb_175 22 L (.int x :: st) M Q ↔ (if x = 0 then wp scr n mb_175 25 L st M Q else wp scr n mb_175 32 L st M Q) := (wp_step rfl rfl rfl rfl rfl).trans wp_iten
theorem u175_25 : wp scr n mb_175 25 [some (.ref a), l1, l2, l3, l4] st M Q ↔ wp scr n mb_175 26 [some (.ref a), l1, l2, l3, l4] (.ref a :: st) M Q := wp_step rfl rfl rfl rfl rfl
theorem u175_26 : wp scr n mb_175 26 L st M Q ↔ wp scr n mb_175 28 L (.int (-2) :: st) M Q := wp_step rfl rfl rfl rfl rfl
theorem u175_28 : wp scr n mb_175 28 L (a2 :: .ref a :: st) M Q ↔ ((mw_r M a 6 ∧ mw_st st) ∧ Wp scr n 141 [.ref a, a2] M (fun r1 M1 => wp scr n mb_175 31 L (r1.toList ++ st) M1 Q)) := wp_vir rfl rfl rfl rfl rfl
theorem u175_31 : wp scr n mb_175 31 L [.int x] M Q ↔ Q (some (.int x)) M := wp_ret rfl rfl
theorem u175_32 : wp scr n mb_175 32 [l0, l1, l2, some (.int x), l4] st M Q ↔ wp scr n mb_175 33 [l0, l1, l2, some (.int x), l4] (.int x :: st) M Q := wp_step rfl rfl rfl rfl rfl
theorem u175_33 : wp scr n mb_175 33 L (.int x :: st) M Q ↔ wp scr n mb_175 34 L (.long x.toInt64 :: st) M Q := wp_step rfl rfl rfl rfl rfl
theorem u175_34 : wp scr n mb_175 34 L st M Q ↔ wp scr n mb_175 35 L (.long 0 :: st) M Q := wp_step rfl rfl rfl rfl rfl
theorem u175_35 : wp scr n mb_175 35 L st M Q ↔ wp scr n mb_175 38 L (.long (9) :: st) M Q := wp_step rfl rfl rfl rfl rfl
theorem u175_38 : wp scr n mb_175 38 L (a3 :: a2 :: a1 :: st) M Q ↔ (mw_st st ∧ Wp scr n 146 [a1, a2, a3] M (fun r1 M1 => wp scr n mb_175 41 L (r1.toList ++ st) M1 Q)) := wp_sta rfl rfl rfl rfl
theorem u175_41 : wp scr n mb_175 41 L (.int x :: st) M Q ↔ (if x = 0 then wp scr n mb_175 44 L st M Q else wp scr n mb_175 60 L st M Q) := (wp_step rfl rfl rfl rfl rfl).trans wp_iten
theorem u175_44 : wp scr n mb_175 44 [some (.ref a), l1, l2, l3, l4] st M Q ↔ wp scr n mb_175 45 [some (.ref a), l1, l2, l3, l4] (.ref a :: st) M Q := wp_step rfl rfl rfl rfl rfl
theorem u175_45 : wp scr n mb_175 45 [l0, l1, l2, some (.int x), l4] st M Q ↔ wp scr n mb_175 46 [l0, l1, l2, some (.int x), l4] (.int x :: st) M Q := wp_step rfl rfl rfl rfl rfl
theorem u175_46 : wp scr n mb_175 46 L (.int x :: st) M Q ↔ (if 0 ≤ x then wp scr n mb_175 54 L st M Q else wp scr n mb_175 49 L st M Q) := (wp_step rfl rfl rfl rfl rfl).trans wp_ite
theorem u175_49 : wp scr n mb_175 49 L st M Q ↔ wp scr n mb_175 51 L (.int (-4) :: st) M Q := wp_step rfl rfl rfl rfl rfl
theorem u175_51 : wp scr n mb_175 51 L st M Q ↔ wp scr n mb_175 56 L st M Q := wp_step rfl rfl rfl rfl rfl
theorem u175_54 : wp scr n mb_175 54 L st M Q ↔ wp scr n mb_175 56 L (.int (-6) :: st) M Q := wp_step rfl rfl rfl rfl rfl
theorem u175_56 : wp scr n mb_175 56 L (a2 :: .ref a :: st) M Q ↔ ((mw_r M a 6 ∧ mw_st st) ∧ Wp scr n 141 [.ref a, a2] M (fun r1 M1 => wp scr n mb_175 59 L (r1.toList ++ st) M1 Q)) := wp_vir rfl rfl rfl rfl rfl
theorem u175_59 : wp scr n mb_175 59 L [.int x] M Q ↔ Q (some (.int x)) M := wp_ret rfl rfl
theorem u175_60 : wp scr n mb_175 60 L st M Q ↔ wp scr n mb_175 62 L (.int 10 :: st) M Q := wp_step rfl rfl rfl rfl rfl
theorem u175_62 : wp scr n mb_175 62 [some (.ref a), l1, l2, l3, l4] st M Q ↔ wp scr n mb_175 63 [some (.ref a), l1, l2, l3, l4] (.ref a :: st) M Q := wp_step rfl rfl rfl rfl rfl
theorem u175_63 : wp scr n mb_175 63 L (o :: st) M Q ↔ mw_o (mm_fld (mc_X scr) M o 6 0) (fun v => wp scr n mb_175 66 L (v :: st) M Q) := wp_getf rfl
theorem u175_66 : wp scr n mb_175 66 L st M Q ↔ wp scr n mb_175 67 L (.int 0 :: st) M Q := wp_step rfl rfl rfl rfl rfl
theorem u175_67 : wp scr n mb_175 67 [l0, some (.int x), l2, l3, l4] st M Q ↔ wp scr n mb_175 68 [l0, some (.int x), l2, l3, l4] (.int x :: st) M Q := wp_step rfl rfl rfl rfl rfl
theorem u175_68 : wp scr n mb_175 68 L (.int y :: .int x :: st) M Q ↔ wp scr n mb_175 69 L (.int (x + y) :: st) M Q := wp_step rfl rfl rfl rfl rfl
theorem u175_69 : wp scr n mb_175 69 L (.int y :: o :: st) M Q ↔ mw_o (mm_ld (mc_X scr) M o y) (fun x => wp scr n mb_175 70 L (.int x :: st) M Q) := wp_iald rfl
theorem u175_70 : wp scr n mb_175 70 L (.int y :: .int x :: st) M Q ↔ wp scr n mb_175 71 L (.int (x * y) :: st) M Q := wp_step rfl rfl rfl rfl rfl
theorem u175_71 : wp scr n mb_175 71 [some (.ref a), l1, l2, l3, l4] st M Q ↔ wp scr n mb_175 72 [some (.ref a), l1, l2, l3, l4] (.ref a :: st) M Q := wp_step rfl rfl rfl rfl rfl
theorem u175_72 : wp scr n mb_175 72 L (o :: st) M Q ↔ mw_o (mm_fld (mc_X scr) M o 6 0) (fun v => wp scr n mb_175 75 L (v :: st) M Q) := wp_getf rfl
theorem u175_75 : wp scr n mb_175 75 L st M Q ↔ wp scr n mb_175 77 L (.int 10 :: st) M Q := wp_step rfl rfl rfl rfl rfl
theorem u175_77 : wp scr n mb_175 77 [l0, some (.int x), l2, l3, l4] st M Q ↔ wp scr n mb_175 78 [l0, some (.int x), l2, l3, l4] (.int x :: st) M Q := wp_step rfl rfl rfl rfl rfl
theorem u175_78 : wp scr n mb_175 78 L (.int y :: .int x :: st) M Q ↔ wp scr n mb_175 79 L (.int (x + y) :: st) M Q := wp_step rfl rfl rfl rfl rfl
theorem u175_79 : wp scr n mb_175 79 L (.int y :: o :: st) M Q ↔ mw_o (mm_ld (mc_X scr) M o y) (fun x => wp scr n mb_175 80 L (.int x :: st) M Q) := wp_iald rfl
theorem u175_80 : wp scr n mb_175 80 L (.int y :: .int x :: st) M Q ↔ wp scr n mb_175 81 L (.int (x + y) :: st) M Q := wp_step rfl rfl rfl rfl rfl
theorem u175_81 : wp scr n mb_175 81 [l0, l1, l2, l3, l4] (.int x :: st) M Q ↔ wp scr n mb_175 83 (mm_sto1 [l0, l1, l2, l3, l4] 4 (.int x)) st M Q := wp_step rfl rfl rfl rfl rfl
theorem u175_83 : wp scr n mb_175 83 [some (.ref a), l1, l2, l3, l4] st M Q ↔ wp scr n mb_175 84 [some (.ref a), l1, l2, l3, l4] (.ref a :: st) M Q := wp_step rfl rfl rfl rfl rfl
theorem u175_84 : wp scr n mb_175 84 L (o :: st) M Q ↔ mw_o (mm_fld (mc_X scr) M o 6 0) (fun v => wp scr n mb_175 87 L (v :: st) M Q) := wp_getf rfl
theorem u175_87 : wp scr n mb_175 87 L st M Q ↔ wp scr n mb_175 88 L (.int 0 :: st) M Q := wp_step rfl rfl rfl rfl rfl
theorem u175_88 : wp scr n mb_175 88 [l0, some (.int x), l2, l3, l4] st M Q ↔ wp scr n mb_175 89 [l0, some (.int x), l2, l3, l4] (.int x :: st) M Q := wp_step rfl rfl rfl rfl rfl
theorem u175_89 : wp scr n mb_175 89 L (.int y :: .int x :: st) M Q ↔ wp scr n mb_175 90 L (.int (x + y) :: st) M Q := wp_step rfl rfl rfl rfl rfl
theorem u175_90 : wp scr n mb_175 90 [l0, l1, some (.int x), l3, l4] st M Q ↔ wp scr n mb_175 91 [l0, l1, some (.int x), l3, l4] (.int x :: st) M Q := wp_step rfl rfl rfl rfl rfl
theorem u175_91 : wp scr n mb_175 91 L (.int x :: .int y :: o :: st) M Q ↔ mw_o (mm_sti M o y x) (fun M1 => wp scr n mb_175 92 L st M1 Q) := wp_iast rfl
theorem u175_92 : wp scr n mb_175 92 [some (.ref a), l1, l2, l3, l4] st M Q ↔ wp scr n mb_175 93 [some (.ref a), l1, l2, l3, l4] (.ref a :: st) M Q := wp_step rfl rfl rfl rfl rfl
theorem u175_93 : wp scr n mb_175 93 L (o :: st) M Q ↔ mw_o (mm_fld (mc_X scr) M o 6 0) (fun v => wp scr n mb_175 96 L (v :: st) M Q) := wp_getf rfl
theorem u175_96 : wp scr n mb_175 96 L st M Q ↔ wp scr n mb_175 98 L (.int 10 :: st) M Q := wp_step rfl rfl rfl rfl rfl
theorem u175_98 : wp scr n mb_175 98 [l0, some (.int x), l2, l3, l4] st M Q ↔ wp scr n mb_175 99 [l0, some (.int x), l2, l3, l4] (.int x :: st) M Q := wp_step rfl rfl rfl rfl rfl
theorem u175_99 : wp scr n mb_175 99 L (.int y :: .int x :: st) M Q ↔ wp scr n mb_175 100 L (.int (x + y) :: st) M Q := wp_step rfl rfl rfl rfl rfl
theorem u175_100 : wp scr n mb_175 100 [l0, l1, l2, some (.int x), l4] st M Q ↔ wp scr n mb_175 101 [l0, l1, l2, some (.int x), l4] (.int x :: st) M Q := wp_step rfl rfl rfl rfl rfl
theorem u175_101 : wp scr n mb_175 101 L (.int x :: .int y :: o :: st) M Q ↔ mw_o (mm_sti M o y x) (fun M1 => wp scr n mb_175 102 L st M1 Q) := wp_iast rfl
theorem u175_102 : wp scr n mb_175 102 [l0, l1, l2, l3, some (.int x)] st M Q ↔ wp scr n mb_175 104 [l0, l1, l2, l3, some (.int x)] (.int x :: st) M Q := wp_step rfl rfl rfl rfl rfl
theorem u175_104 : wp scr n mb_175 104 L [.int x] M Q ↔ Q (some (.int x)) M := wp_ret rfl rfl
theorem e175 : Wp scr (n + 1) 175 [.ref a0, .int x1, .int x2, .int x3] M Q ↔ wp scr n mb_175 0 [some (.ref a0), some (.int x1), some (.int x2), some (.int x3), none] [] M Q := Wp_to rfl rfl rfl
/-- SmallerInTheShopModel cover (I)I -/
def mb_176 : mw_B := ((Option.some FieldType.int), mp_176)
theorem u176_0 : wp scr n mb_176 0 [l0, some (.int x), l2] st M Q ↔ wp scr n mb_176 1 [l0, some (.int x), l2] (.int x :: st) M Q := wp_step rfl rfl rfl rfl rfl
theorem u176_1 : wp scr n mb_176 1 L (a1 :: st) M Q ↔ (mw_st st ∧ Wp scr n 168 [a1] M (fun r1 M1 => wp scr n mb_176 4 L (r1.toList ++ st) M1 Q)) := wp_sta rfl rfl rfl rfl
theorem u176_4 : wp scr n mb_176 4 L (.int x :: st) M Q ↔ (if x = 0 then wp scr n mb_176 7 L st M Q else wp scr n mb_176 13 L st M Q) := (wp_step rfl rfl rfl rfl rfl).trans wp_iten
theorem u176_7 : wp scr n mb_176 7 [some (.ref a), l1, l2] st M Q ↔ wp scr n mb_176 8 [some (.ref a), l1, l2] (.ref a :: st) M Q := wp_step rfl rfl rfl rfl rfl
theorem u176_8 : wp scr n mb_176 8 L st M Q ↔ wp scr n mb_176 9 L (.int (-1) :: st) M Q := wp_step rfl rfl rfl rfl rfl
theorem u176_9 : wp scr n mb_176 9 L (a2 :: .ref a :: st) M Q ↔ ((mw_r M a 6 ∧ mw_st st) ∧ Wp scr n 141 [.ref a, a2] M (fun r1 M1 => wp scr n mb_176 12 L (r1.toList ++ st) M1 Q)) := wp_vir rfl rfl rfl rfl rfl
theorem u176_12 : wp scr n mb_176 12 L [.int x] M Q ↔ Q (some (.int x)) M := wp_ret rfl rfl
theorem u176_13 : wp scr n mb_176 13 [some (.ref a), l1, l2] st M Q ↔ wp scr n mb_176 14 [some (.ref a), l1, l2] (.ref a :: st) M Q := wp_step rfl rfl rfl rfl rfl
theorem u176_14 : wp scr n mb_176 14 L (o :: st) M Q ↔ mw_o (mm_fld (mc_X scr) M o 6 0) (fun v => wp scr n mb_176 17 L (v :: st) M Q) := wp_getf rfl
theorem u176_17 : wp scr n mb_176 17 L st M Q ↔ wp scr n mb_176 19 L (.int 72 :: st) M Q := wp_step rfl rfl rfl rfl rfl
theorem u176_19 : wp scr n mb_176 19 L (.int y :: o :: st) M Q ↔ mw_o (mm_ld (mc_X scr) M o y) (fun x => wp scr n mb_176 20 L (.int x :: st) M Q) := wp_iald rfl
theorem u176_20 : wp scr n mb_176 20 [l0, l1, l2] (.int x :: st) M Q ↔ wp scr n mb_176 21 (mm_sto1 [l0, l1, l2] 2 (.int x)) st M Q := wp_step rfl rfl rfl rfl rfl
theorem u176_21 : wp scr n mb_176 21 [some (.ref a), l1, l2] st M Q ↔ wp scr n mb_176 22 [some (.ref a), l1, l2] (.ref a :: st) M Q := wp_step rfl rfl rfl rfl rfl
theorem u176_22 : wp scr n mb_176 22 L (o :: st) M Q ↔ mw_o (mm_fld (mc_X scr) M o 6 0) (fun v => wp scr n mb_176 25 L (v :: st) M Q) := wp_getf rfl
theorem u176_25 : wp scr n mb_176 25 L st M Q ↔ wp scr n mb_176 27 L (.int 72 :: st) M Q := wp_step rfl rfl rfl rfl rfl
theorem u176_27 : wp scr n mb_176 27 [l0, some (.int x), l2] st M Q ↔ wp scr n mb_176 28 [l0, some (.int x), l2] (.int x :: st) M Q := wp_step rfl rfl rfl rfl rfl
theorem u176_28 : wp scr n mb_176 28 L (.int x :: .int y :: o :: st) M Q ↔ mw_o (mm_sti M o y x) (fun M1 => wp scr n mb_176 29 L st M1 Q) := wp_iast rfl
theorem u176_29 : wp scr n mb_176 29 [l0, l1, some (.int x)] st M Q ↔ wp scr n mb_176 30 [l0, l1, some (.int x)] (.int x :: st) M Q := wp_step rfl rfl rfl rfl rfl
theorem u176_30 : wp scr n mb_176 30 L [.int x] M Q ↔ Q (some (.int x)) M := wp_ret rfl rfl
theorem e176 : Wp scr (n + 1) 176 [.ref a0, .int x1] M Q ↔ wp scr n mb_176 0 [some (.ref a0), some (.int x1), none] [] M Q := Wp_to rfl rfl rfl
/-- SmallerInTheShopModel hurts (III)I -/
def mb_177 : mw_B := ((Option.some FieldType.int), mp_177)
theorem u177_0 : wp scr n mb_177 0 [some (.ref a), l1, l2, l3, l4] st M Q ↔ wp scr n mb_177 1 [some (.ref a), l1, l2, l3, l4] (.ref a :: st) M Q := wp_step rfl rfl rfl rfl rfl
theorem u177_1 : wp scr n mb_177 1 L (o :: st) M Q ↔ mw_o (mm_fld (mc_X scr) M o 6 0) (fun v => wp scr n mb_177 4 L (v :: st) M Q) := wp_getf rfl
theorem u177_4 : wp scr n mb_177 4 [l0, some (.int x), l2, l3, l4] st M Q ↔ wp scr n mb_177 5 [l0, some (.int x), l2, l3, l4] (.int x :: st) M Q := wp_step rfl rfl rfl rfl rfl
theorem u177_5 : wp scr n mb_177 5 L (a2 :: a1 :: st) M Q ↔ (mw_st st ∧ Wp scr n 150 [a1, a2] M (fun r1 M1 => wp scr n mb_177 8 L (r1.toList ++ st) M1 Q)) := wp_sta rfl rfl rfl rfl
theorem u177_8 : wp scr n mb_177 8 L (.int x :: st) M Q ↔ (if x = 0 then wp scr n mb_177 11 L st M Q else wp scr n mb_177 17 L st M Q) := (wp_step rfl rfl rfl rfl rfl).trans wp_iten
theorem u177_11 : wp scr n mb_177 11 [some (.ref a), l1, l2, l3, l4] st M Q ↔ wp scr n mb_177 12 [some (.ref a), l1, l2, l3, l4] (.ref a :: st) M Q := wp_step rfl rfl rfl rfl rfl
theorem u177_12 : wp scr n mb_177 12 L st M Q ↔ wp scr n mb_177 13 L (.int (-1) :: st) M Q := wp_step rfl rfl rfl rfl rfl
theorem u177_13 : wp scr n mb_177 13 L (a2 :: .ref a :: st) M Q ↔ ((mw_r M a 6 ∧ mw_st st) ∧ Wp scr n 141 [.ref a, a2] M (fun r1 M1 => wp scr n mb_177 16 L (r1.toList ++ st) M1 Q)) := wp_vir rfl rfl rfl rfl rfl
theorem u177_16 : wp scr n mb_177 16 L [.int x] M Q ↔ Q (some (.int x)) M := wp_ret rfl rfl
theorem u177_17 : wp scr n mb_177 17 [l0, l1, some (.int x), l3, l4] st M Q ↔ wp scr n mb_177 18 [l0, l1, some (.int x), l3, l4] (.int x :: st) M Q := wp_step rfl rfl rfl rfl rfl
theorem u177_18 : wp scr n mb_177 18 L (.int x :: st) M Q ↔ wp scr n mb_177 19 L (.long x.toInt64 :: st) M Q := wp_step rfl rfl rfl rfl rfl
theorem u177_19 : wp scr n mb_177 19 L st M Q ↔ wp scr n mb_177 20 L (.long 0 :: st) M Q := wp_step rfl rfl rfl rfl rfl
theorem u177_20 : wp scr n mb_177 20 L st M Q ↔ wp scr n mb_177 23 L (.long (3) :: st) M Q := wp_step rfl rfl rfl rfl rfl
theorem u177_23 : wp scr n mb_177 23 L (a3 :: a2 :: a1 :: st) M Q ↔ (mw_st st ∧ Wp scr n 146 [a1, a2, a3] M (fun r1 M1 => wp scr n mb_177 26 L (r1.toList ++ st) M1 Q)) := wp_sta rfl rfl rfl rfl
theorem u177_26 : wp scr n mb_177 26 L (.int x :: st) M Q ↔ (if x = 0 then wp scr n mb_177 41 L st M Q else wp scr n mb_177 29 L st M Q) := (wp_step rfl rfl rfl rfl rfl).trans wp_ite
theorem u177_29 : wp scr n mb_177 29 [l0, l1, l2, some (.int x), l4] st M Q ↔ wp scr n mb_177 30 [l0, l1, l2, some (.int x), l4] (.int x :: st) M Q := wp_step rfl rfl rfl rfl rfl
theorem u177_30 : wp scr n mb_177 30 L (.int x :: st) M Q ↔ wp scr n mb_177 31 L (.long x.toInt64 :: st) M Q := wp_step rfl rfl rfl rfl rfl
theorem u177_31 : wp scr n mb_177 31 L st M Q ↔ wp scr n mb_177 32 L (.long 0 :: st) M Q := wp_step rfl rfl rfl rfl rfl
theorem u177_32 : wp scr n mb_177 32 L st M Q ↔ wp scr n mb_177 35 L (.long (2) :: st) M Q := wp_step rfl rfl rfl rfl rfl
theorem u177_35 : wp scr n mb_177 35 L (a3 :: a2 :: a1 :: st) M Q ↔ (mw_st st ∧ Wp scr n 146 [a1, a2, a3] M (fun r1 M1 => wp scr n mb_177 38 L (r1.toList ++ st) M1 Q)) := wp_sta rfl rfl rfl rfl
theorem u177_38 : wp scr n mb_177 38 L (.int x :: st) M Q ↔ (if x = 0 then wp scr n mb_177 41 L st M Q else wp scr n mb_177 48 L st M Q) := (wp_step rfl rfl rfl rfl rfl).trans wp_iten
theorem u177_41 : wp scr n mb_177 41 [some (.ref a), l1, l2, l3, l4] st M Q ↔ wp scr n mb_177 42 [some (.ref a), l1, l2, l3, l4] (.ref a :: st) M Q := wp_step rfl rfl rfl rfl rfl
theorem u177_42 : wp scr n mb_177 42 L st M Q ↔ wp scr n mb_177 44 L (.int (-2) :: st) M Q := wp_step rfl rfl rfl rfl rfl
theorem u177_44 : wp scr n mb_177 44 L (a2 :: .ref a :: st) M Q ↔ ((mw_r M a 6 ∧ mw_st st) ∧ Wp scr n 141 [.ref a, a2] M (fun r1 M1 => wp scr n mb_177 47 L (r1.toList ++ st) M1 Q)) := wp_vir rfl rfl rfl rfl rfl
theorem u177_47 : wp scr n mb_177 47 L [.int x] M Q ↔ Q (some (.int x)) M := wp_ret rfl rfl
theorem u177_48 : wp scr n mb_177 48 [some (.ref a), l1, l2, l3, l4] st M Q ↔ wp scr n mb_177 49 [some (.ref a), l1, l2, l3, l4] (.ref a :: st) M Q := wp_step rfl rfl rfl rfl rfl
theorem u177_49 : wp scr n mb_177 49 L (o :: st) M Q ↔ mw_o (mm_fld (mc_X scr) M o 6 0) (fun v => wp scr n mb_177 52 L (v :: st) M Q) := wp_getf rfl
theorem u177_52 : wp scr n mb_177 52 [some (.ref a), l1, l2, l3, l4] st M Q ↔ wp scr n mb_177 53 [some (.ref a), l1, l2, l3, l4] (.ref a :: st) M Q := wp_step rfl rfl rfl rfl rfl
theorem u177_53 : wp scr n mb_177 53 L (o :: st) M Q ↔ mw_o (mm_fld (mc_X scr) M o 6 2) (fun v => wp scr n mb_177 56 L (v :: st) M Q) := wp_getf rfl
theorem u177_56 : wp scr n mb_177 56 L st M Q ↔ wp scr n mb_177 57 L (.int 0 :: st) M Q := wp_step rfl rfl rfl rfl rfl
theorem u177_57 : wp scr n mb_177 57 L (.int y :: .ref a :: st) M Q ↔ mw_o (mm_lda M a y) (fun v => wp scr n mb_177 58 L (v :: st) M Q) := wp_aald rfl
theorem u177_58 : wp scr n mb_177 58 L (a2 :: a1 :: st) M Q ↔ (mw_st st ∧ Wp scr n 147 [a1, a2] M (fun r1 M1 => wp scr n mb_177 61 L (r1.toList ++ st) M1 Q)) := wp_sta rfl rfl rfl rfl
theorem u177_61 : wp scr n mb_177 61 [some (.ref a), l1, l2, l3, l4] st M Q ↔ wp scr n mb_177 62 [some (.ref a), l1, l2, l3, l4] (.ref a :: st) M Q := wp_step rfl rfl rfl rfl rfl
theorem u177_62 : wp scr n mb_177 62 [some (.ref a), l1, l2, l3, l4] st M Q ↔ wp scr n mb_177 63 [some (.ref a), l1, l2, l3, l4] (.ref a :: st) M Q := wp_step rfl rfl rfl rfl rfl
theorem u177_63 : wp scr n mb_177 63 L (o :: st) M Q ↔ mw_o (mm_fld (mc_X scr) M o 6 2) (fun v => wp scr n mb_177 66 L (v :: st) M Q) := wp_getf rfl
theorem u177_66 : wp scr n mb_177 66 L st M Q ↔ wp scr n mb_177 67 L (.int 0 :: st) M Q := wp_step rfl rfl rfl rfl rfl
theorem u177_67 : wp scr n mb_177 67 L (.int y :: .ref a :: st) M Q ↔ mw_o (mm_lda M a y) (fun v => wp scr n mb_177 68 L (v :: st) M Q) := wp_aald rfl
theorem u177_68 : wp scr n mb_177 68 [l0, some (.int x), l2, l3, l4] st M Q ↔ wp scr n mb_177 69 [l0, some (.int x), l2, l3, l4] (.int x :: st) M Q := wp_step rfl rfl rfl rfl rfl
theorem u177_69 : wp scr n mb_177 69 [l0, l1, some (.int x), l3, l4] st M Q ↔ wp scr n mb_177 70 [l0, l1, some (.int x), l3, l4] (.int x :: st) M Q := wp_step rfl rfl rfl rfl rfl
theorem u177_70 : wp scr n mb_177 70 L (a4 :: a3 :: a2 :: .ref a :: st) M Q ↔ ((mw_r M a 6 ∧ mw_st st) ∧ Wp scr n 152 [.ref a, a2, a3, a4] M (fun r1 M1 => wp scr n mb_177 73 L (r1.toList ++ st) M1 Q)) := wp_vir rfl rfl rfl rfl rfl
theorem u177_73 : wp scr n mb_177 73 [l0, l1, l2, l3, l4] (.int x :: st) M Q ↔ wp scr n mb_177 75 (mm_sto1 [l0, l1, l2, l3, l4] 4 (.int x)) st M Q := wp_step rfl rfl rfl rfl rfl
theorem u177_75 : wp scr n mb_177 75 [l0, l1, l2, some (.int x), l4] st M Q ↔ wp scr n mb_177 76 [l0, l1, l2, some (.int x), l4] (.int x :: st) M Q := wp_step rfl rfl rfl rfl rfl
theorem u177_76 : wp scr n mb_177 76 L (.int x :: st) M Q ↔ (if x = 0 then wp scr n mb_177 79 L st M Q else wp scr n mb_177 84 L st M Q) := (wp_step rfl rfl rfl rfl rfl).trans wp_iten
theorem u177_79 : wp scr n mb_177 79 [l0, l1, l2, l3, some (.int x)] st M Q ↔ wp scr n mb_177 81 [l0, l1, l2, l3, some (.int x)] (.int x :: st) M Q := wp_step rfl rfl rfl rfl rfl
theorem u177_81 : wp scr n mb_177 81 L st M Q ↔ wp scr n mb_177 117 L st M Q := wp_step rfl rfl rfl rfl rfl
theorem u177_84 : wp scr n mb_177 84 [l0, l1, l2, some (.int x), l4] st M Q ↔ wp scr n mb_177 85 [l0, l1, l2, some (.int x), l4] (.int x :: st) M Q := wp_step rfl rfl rfl rfl rfl
theorem u177_85 : wp scr n mb_177 85 L st M Q ↔ wp scr n mb_177 86 L (.int 1 :: st) M Q := wp_step rfl rfl rfl rfl rfl
theorem u177_86 : wp scr n mb_177 86 L (.int y :: .int x :: st) M Q ↔ (if x = y then wp scr n mb_177 89 L st M Q else wp scr n mb_177 100 L st M Q) := (wp_step rfl rfl rfl rfl rfl).trans wp_iten
theorem u177_89 : wp scr n mb_177 89 [some (.ref a), l1, l2, l3, l4] st M Q ↔ wp scr n mb_177 90 [some (.ref a), l1, l2, l3, l4] (.ref a :: st) M Q := wp_step rfl rfl rfl rfl rfl
theorem u177_90 : wp scr n mb_177 90 L (o :: st) M Q ↔ mw_o (mm_fld (mc_X scr) M o 6 0) (fun v => wp scr n mb_177 93 L (v :: st) M Q) := wp_getf rfl
theorem u177_93 : wp scr n mb_177 93 [l0, some (.int x), l2, l3, l4] st M Q ↔ wp scr n mb_177 94 [l0, some (.int x), l2, l3, l4] (.int x :: st) M Q := wp_step rfl rfl rfl rfl rfl
theorem u177_94 : wp scr n mb_177 94 L (a2 :: a1 :: st) M Q ↔ (mw_st st ∧ Wp scr n 153 [a1, a2] M (fun r1 M1 => wp scr n mb_177 97 L (r1.toList ++ st) M1 Q)) := wp_sta rfl rfl rfl rfl
theorem u177_97 : wp scr n mb_177 97 L st M Q ↔ wp scr n mb_177 117 L st M Q := wp_step rfl rfl rfl rfl rfl
theorem u177_100 : wp scr n mb_177 100 [some (.ref a), l1, l2, l3, l4] st M Q ↔ wp scr n mb_177 101 [some (.ref a), l1, l2, l3, l4] (.ref a :: st) M Q := wp_step rfl rfl rfl rfl rfl
theorem u177_101 : wp scr n mb_177 101 L (o :: st) M Q ↔ mw_o (mm_fld (mc_X scr) M o 6 2) (fun v => wp scr n mb_177 104 L (v :: st) M Q) := wp_getf rfl
theorem u177_104 : wp scr n mb_177 104 L st M Q ↔ wp scr n mb_177 105 L (.int 0 :: st) M Q := wp_step rfl rfl rfl rfl rfl
theorem u177_105 : wp scr n mb_177 105 L (.int y :: .ref a :: st) M Q ↔ mw_o (mm_lda M a y) (fun v => wp scr n mb_177 106 L (v :: st) M Q) := wp_aald rfl
theorem u177_106 : wp scr n mb_177 106 L (a1 :: st) M Q ↔ (mw_st st ∧ Wp scr n 178 [a1] M (fun r1 M1 => wp scr n mb_177 109 L (r1.toList ++ st) M1 Q)) := wp_sta rfl rfl rfl rfl
theorem u177_109 : wp scr n mb_177 109 [some (.ref a), l1, l2, l3, l4] st M Q ↔ wp scr n mb_177 110 [some (.ref a), l1, l2, l3, l4] (.ref a :: st) M Q := wp_step rfl rfl rfl rfl rfl
theorem u177_110 : wp scr n mb_177 110 L (o :: st) M Q ↔ mw_o (mm_fld (mc_X scr) M o 6 0) (fun v => wp scr n mb_177 113 L (v :: st) M Q) := wp_getf rfl
theorem u177_113 : wp scr n mb_177 113 L (a1 :: st) M Q ↔ (mw_st st ∧ Wp scr n 178 [a1] M (fun r1 M1 => wp scr n mb_177 116 L (r1.toList ++ st) M1 Q)) := wp_sta rfl rfl rfl rfl
theorem u177_116 : wp scr n mb_177 116 L (.int y :: .int x :: st) M Q ↔ wp scr n mb_177 117 L (.int (x - y) :: st) M Q := wp_step rfl rfl rfl rfl rfl
theorem u177_117 : wp scr n mb_177 117 L [.int x] M Q ↔ Q (some (.int x)) M := wp_ret rfl rfl
theorem e177 : Wp scr (n + 1) 177 [.ref a0, .int x1, .int x2, .int x3] M Q ↔ wp scr n mb_177 0 [some (.ref a0), some (.int x1), some (.int x2), some (.int x3), none] [] M Q := Wp_to rfl rfl rfl
/-- SmallerInTheShopModel wornAll ([I)I -/
def mb_178 : mw_B := ((Option.some FieldType.int), mp_178)
theorem u178_0 : wp scr n mb_178 0 L st M Q ↔ wp scr n mb_178 1 L (.int 0 :: st) M Q := wp_step rfl rfl rfl rfl rfl
theorem u178_1 : wp scr n mb_178 1 [l0, l1, l2] (.int x :: st) M Q ↔ wp scr n mb_178 2 (mm_sto1 [l0, l1, l2] 1 (.int x)) st M Q := wp_step rfl rfl rfl rfl rfl
theorem u178_2 : wp scr n mb_178 2 L st M Q ↔ wp scr n mb_178 3 L (.int 0 :: st) M Q := wp_step rfl rfl rfl rfl rfl
theorem u178_3 : wp scr n mb_178 3 [l0, l1, l2] (.int x :: st) M Q ↔ wp scr n mb_178 4 (mm_sto1 [l0, l1, l2] 2 (.int x)) st M Q := wp_step rfl rfl rfl rfl rfl
theorem u178_4 : wp scr n mb_178 4 [l0, l1, some (.int x)] st M Q ↔ wp scr n mb_178 5 [l0, l1, some (.int x)] (.int x :: st) M Q := wp_step rfl rfl rfl rfl rfl
theorem u178_5 : wp scr n mb_178 5 L st M Q ↔ wp scr n mb_178 7 L (.int 10 :: st) M Q := wp_step rfl rfl rfl rfl rfl
theorem u178_7 : wp scr n mb_178 7 L (.int y :: .int x :: st) M Q ↔ (if y ≤ x then wp scr n mb_178 25 L st M Q else wp scr n mb_178 10 L st M Q) := (wp_step rfl rfl rfl rfl rfl).trans wp_ite
theorem u178_10 : wp scr n mb_178 10 [l0, some (.int x), l2] st M Q ↔ wp scr n mb_178 11 [l0, some (.int x), l2] (.int x :: st) M Q := wp_step rfl rfl rfl rfl rfl
theorem u178_11 : wp scr n mb_178 11 [some (.ref a), l1, l2] st M Q ↔ wp scr n mb_178 12 [some (.ref a), l1, l2] (.ref a :: st) M Q := wp_step rfl rfl rfl rfl rfl
theorem u178_12 : wp scr n mb_178 12 L st M Q ↔ wp scr n mb_178 14 L (.int 20 :: st) M Q := wp_step rfl rfl rfl rfl rfl
theorem u178_14 : wp scr n mb_178 14 [l0, l1, some (.int x)] st M Q ↔ wp scr n mb_178 15 [l0, l1, some (.int x)] (.int x :: st) M Q := wp_step rfl rfl rfl rfl rfl
theorem u178_15 : wp scr n mb_178 15 L (.int y :: .int x :: st) M Q ↔ wp scr n mb_178 16 L (.int (x + y) :: st) M Q := wp_step rfl rfl rfl rfl rfl
theorem u178_16 : wp scr n mb_178 16 L (.int y :: o :: st) M Q ↔ mw_o (mm_ld (mc_X scr) M o y) (fun x => wp scr n mb_178 17 L (.int x :: st) M Q) := wp_iald rfl
theorem u178_17 : wp scr n mb_178 17 L (.int y :: .int x :: st) M Q ↔ wp scr n mb_178 18 L (.int (x + y) :: st) M Q := wp_step rfl rfl rfl rfl rfl
theorem u178_18 : wp scr n mb_178 18 [l0, l1, l2] (.int x :: st) M Q ↔ wp scr n mb_178 19 (mm_sto1 [l0, l1, l2] 1 (.int x)) st M Q := wp_step rfl rfl rfl rfl rfl
theorem u178_19 : wp scr n mb_178 19 [l0, l1, some (.int x)] st M Q ↔ wp scr n mb_178 22 (mm_sto1 [l0, l1, some (.int x)] 2 (.int (x + 1))) st M Q := wp_step rfl rfl rfl rfl rfl
theorem u178_22 : wp scr n mb_178 22 L st M Q ↔ wp scr n mb_178 4 L st M Q := wp_step rfl rfl rfl rfl rfl
theorem u178_25 : wp scr n mb_178 25 [l0, some (.int x), l2] st M Q ↔ wp scr n mb_178 26 [l0, some (.int x), l2] (.int x :: st) M Q := wp_step rfl rfl rfl rfl rfl
theorem u178_26 : wp scr n mb_178 26 L [.int x] M Q ↔ Q (some (.int x)) M := wp_ret rfl rfl
theorem e178 : Wp scr (n + 1) 178 [.ref b1] M Q ↔ wp scr n mb_178 0 [some (.ref b1), none, none] [] M Q := Wp_to rfl rfl rfl
/-- SmallerInTheShopModel over (II)I -/
def mb_179 : mw_B := ((Option.some FieldType.int), mp_179)
theorem u179_0 : wp scr n mb_179 0 [l0, some (.int x), l2] st M Q ↔ wp scr n mb_179 1 [l0, some (.int x), l2] (.int x :: st) M Q := wp_step rfl rfl rfl rfl rfl
theorem u179_1 : wp scr n mb_179 1 L (a1 :: st) M Q ↔ (mw_st st ∧ Wp scr n 168 [a1] M (fun r1 M1 => wp scr n mb_179 4 L (r1.toList ++ st) M1 Q)) := wp_sta rfl rfl rfl rfl
theorem u179_4 : wp scr n mb_179 4 L (.int x :: st) M Q ↔ (if x = 0 then wp scr n mb_179 19 L st M Q else wp scr n mb_179 7 L st M Q) := (wp_step rfl rfl rfl rfl rfl).trans wp_ite
theorem u179_7 : wp scr n mb_179 7 [l0, l1, some (.int x)] st M Q ↔ wp scr n mb_179 8 [l0, l1, some (.int x)] (.int x :: st) M Q := wp_step rfl rfl rfl rfl rfl
theorem u179_8 : wp scr n mb_179 8 L (a1 :: st) M Q ↔ (mw_st st ∧ Wp scr n 168 [a1] M (fun r1 M1 => wp scr n mb_179 11 L (r1.toList ++ st) M1 Q)) := wp_sta rfl rfl rfl rfl
theorem u179_11 : wp scr n mb_179 11 L (.int x :: st) M Q ↔ (if x = 0 then wp scr n mb_179 19 L st M Q else wp scr n mb_179 14 L st M Q) := (wp_step rfl rfl rfl rfl rfl).trans wp_ite
theorem u179_14 : wp scr n mb_179 14 [l0, some (.int x), l2] st M Q ↔ wp scr n mb_179 15 [l0, some (.int x), l2] (.int x :: st) M Q := wp_step rfl rfl rfl rfl rfl
theorem u179_15 : wp scr n mb_179 15 [l0, l1, some (.int x)] st M Q ↔ wp scr n mb_179 16 [l0, l1, some (.int x)] (.int x :: st) M Q := wp_step rfl rfl rfl rfl rfl
theorem u179_16 : wp scr n mb_179 16 L (.int y :: .int x :: st) M Q ↔ (if x = y then wp scr n mb_179 19 L st M Q else wp scr n mb_179 25 L st M Q) := (wp_step rfl rfl rfl rfl rfl).trans wp_iten
theorem u179_19 : wp scr n mb_179 19 [some (.ref a), l1, l2] st M Q ↔ wp scr n mb_179 20 [some (.ref a), l1, l2] (.ref a :: st) M Q := wp_step rfl rfl rfl rfl rfl
theorem u179_20 : wp scr n mb_179 20 L st M Q ↔ wp scr n mb_179 21 L (.int (-1) :: st) M Q := wp_step rfl rfl rfl rfl rfl
theorem u179_21 : wp scr n mb_179 21 L (a2 :: .ref a :: st) M Q ↔ ((mw_r M a 6 ∧ mw_st st) ∧ Wp scr n 141 [.ref a, a2] M (fun r1 M1 => wp scr n mb_179 24 L (r1.toList ++ st) M1 Q)) := wp_vir rfl rfl rfl rfl rfl
theorem u179_24 : wp scr n mb_179 24 L [.int x] M Q ↔ Q (some (.int x)) M := wp_ret rfl rfl
theorem u179_25 : wp scr n mb_179 25 [some (.ref a), l1, l2] st M Q ↔ wp scr n mb_179 26 [some (.ref a), l1, l2] (.ref a :: st) M Q := wp_step rfl rfl rfl rfl rfl
theorem u179_26 : wp scr n mb_179 26 L (o :: st) M Q ↔ mw_o (mm_fld (mc_X scr) M o 6 0) (fun v => wp scr n mb_179 29 L (v :: st) M Q) := wp_getf rfl
theorem u179_29 : wp scr n mb_179 29 [l0, some (.int x), l2] st M Q ↔ wp scr n mb_179 30 [l0, some (.int x), l2] (.int x :: st) M Q := wp_step rfl rfl rfl rfl rfl
theorem u179_30 : wp scr n mb_179 30 [l0, l1, some (.int x)] st M Q ↔ wp scr n mb_179 31 [l0, l1, some (.int x)] (.int x :: st) M Q := wp_step rfl rfl rfl rfl rfl
theorem u179_31 : wp scr n mb_179 31 L (a3 :: a2 :: a1 :: st) M Q ↔ (mw_st st ∧ Wp scr n 163 [a1, a2, a3] M (fun r1 M1 => wp scr n mb_179 34 L (r1.toList ++ st) M1 Q)) := wp_sta rfl rfl rfl rfl
theorem u179_34 : wp scr n mb_179 34 L (.int x :: st) M Q ↔ (if x = 0 then wp scr n mb_179 70 L st M Q else wp scr n mb_179 37 L st M Q) := (wp_step rfl rfl rfl rfl rfl).trans wp_ite
theorem u179_37 : wp scr n mb_179 37 [some (.ref a), l1, l2] st M Q ↔ wp scr n mb_179 38 [some (.ref a), l1, l2] (.ref a :: st) M Q := wp_step rfl rfl rfl rfl rfl
theorem u179_38 : wp scr n mb_179 38 L (o :: st) M Q ↔ mw_o (mm_fld (mc_X scr) M o 6 0) (fun v => wp scr n mb_179 41 L (v :: st) M Q) := wp_getf rfl
theorem u179_41 : wp scr n mb_179 41 L st M Q ↔ wp scr n mb_179 43 L (.int 40 :: st) M Q := wp_step rfl rfl rfl rfl rfl
theorem u179_43 : wp scr n mb_179 43 L st M Q ↔ wp scr n mb_179 44 L (.int 4 :: st) M Q := wp_step rfl rfl rfl rfl rfl
theorem u179_44 : wp scr n mb_179 44 [l0, some (.int x), l2] st M Q ↔ wp scr n mb_179 45 [l0, some (.int x), l2] (.int x :: st) M Q := wp_step rfl rfl rfl rfl rfl
theorem u179_45 : wp scr n mb_179 45 L (.int y :: .int x :: st) M Q ↔ wp scr n mb_179 46 L (.int (x * y) :: st) M Q := wp_step rfl rfl rfl rfl rfl
theorem u179_46 : wp scr n mb_179 46 L (.int y :: .int x :: st) M Q ↔ wp scr n mb_179 47 L (.int (x + y) :: st) M Q := wp_step rfl rfl rfl rfl rfl
theorem u179_47 : wp scr n mb_179 47 L st M Q ↔ wp scr n mb_179 48 L (.int 2 :: st) M Q := wp_step rfl rfl rfl rfl rfl
theorem u179_48 : wp scr n mb_179 48 L (.int y :: .int x :: st) M Q ↔ wp scr n mb_179 49 L (.int (x + y) :: st) M Q := wp_step rfl rfl rfl rfl rfl
theorem u179_49 : wp scr n mb_179 49 L (.int y :: o :: st) M Q ↔ mw_o (mm_ld (mc_X scr) M o y) (fun x => wp scr n mb_179 50 L (.int x :: st) M Q) := wp_iald rfl
theorem u179_50 : wp scr n mb_179 50 [some (.ref a), l1, l2] st M Q ↔ wp scr n mb_179 51 [some (.ref a), l1, l2] (.ref a :: st) M Q := wp_step rfl rfl rfl rfl rfl
theorem u179_51 : wp scr n mb_179 51 L (o :: st) M Q ↔ mw_o (mm_fld (mc_X scr) M o 6 0) (fun v => wp scr n mb_179 54 L (v :: st) M Q) := wp_getf rfl
theorem u179_54 : wp scr n mb_179 54 L st M Q ↔ wp scr n mb_179 56 L (.int 40 :: st) M Q := wp_step rfl rfl rfl rfl rfl
theorem u179_56 : wp scr n mb_179 56 L st M Q ↔ wp scr n mb_179 57 L (.int 4 :: st) M Q := wp_step rfl rfl rfl rfl rfl
theorem u179_57 : wp scr n mb_179 57 [l0, l1, some (.int x)] st M Q ↔ wp scr n mb_179 58 [l0, l1, some (.int x)] (.int x :: st) M Q := wp_step rfl rfl rfl rfl rfl
theorem u179_58 : wp scr n mb_179 58 L (.int y :: .int x :: st) M Q ↔ wp scr n mb_179 59 L (.int (x * y) :: st) M Q := wp_step rfl rfl rfl rfl rfl
theorem u179_59 : wp scr n mb_179 59 L (.int y :: .int x :: st) M Q ↔ wp scr n mb_179 60 L (.int (x + y) :: st) M Q := wp_step rfl rfl rfl rfl rfl
theorem u179_60 : wp scr n mb_179 60 L st M Q ↔ wp scr n mb_179 61 L (.int 2 :: st) M Q := wp_step rfl rfl rfl rfl rfl
theorem u179_61 : wp scr n mb_179 61 L (.int y :: .int x :: st) M Q ↔ wp scr n mb_179 62 L (.int (x + y) :: st) M Q := wp_step rfl rfl rfl rfl rfl
theorem u179_62 : wp scr n mb_179 62 L (.int y :: o :: st) M Q ↔ mw_o (mm_ld (mc_X scr) M o y) (fun x => wp scr n mb_179 63 L (.int x :: st) M Q) := wp_iald rfl
theorem u179_63 : wp scr n mb_179 63 L (.int y :: .int x :: st) M Q ↔ (if x ≤ y then wp scr n mb_179 70 L st M Q else wp scr n mb_179 66 L st M Q) := (wp_step rfl rfl rfl rfl rfl).trans wp_ite
theorem u179_66 : wp scr n mb_179 66 L st M Q ↔ wp scr n mb_179 67 L (.int 1 :: st) M Q := wp_step rfl rfl rfl rfl rfl
theorem u179_67 : wp scr n mb_179 67 L st M Q ↔ wp scr n mb_179 71 L st M Q := wp_step rfl rfl rfl rfl rfl
theorem u179_70 : wp scr n mb_179 70 L st M Q ↔ wp scr n mb_179 71 L (.int 0 :: st) M Q := wp_step rfl rfl rfl rfl rfl
theorem u179_71 : wp scr n mb_179 71 L [.int x] M Q ↔ Q (some (.int x)) M := wp_ret rfl rfl
theorem e179 : Wp scr (n + 1) 179 [.ref a0, .int x1, .int x2] M Q ↔ wp scr n mb_179 0 [some (.ref a0), some (.int x1), some (.int x2)] [] M Q := Wp_to rfl rfl rfl
/-- SmallerInTheShopModel wad (I)I -/
def mb_180 : mw_B := ((Option.some FieldType.int), mp_180)
theorem u180_0 : wp scr n mb_180 0 [l0, some (.int x)] st M Q ↔ wp scr n mb_180 1 [l0, some (.int x)] (.int x :: st) M Q := wp_step rfl rfl rfl rfl rfl
theorem u180_1 : wp scr n mb_180 1 L (.int x :: st) M Q ↔ wp scr n mb_180 (mw_sw x [(0, 44), (1, 53), (2, 62), (3, 70), (4, 78), (5, 94), (6, 102)] 107) L st M Q := wp_tabS (d := 106) (lo := 0) (hi := 6) (os := #[43, 52, 61, 69, 77, 93, 101]) rfl (by decide +kernel) (by decide +kernel) (by decide +kernel)
theorem u180_44 : wp scr n mb_180 44 [some (.ref a), l1] st M Q ↔ wp scr n mb_180 45 [some (.ref a), l1] (.ref a :: st) M Q := wp_step rfl rfl rfl rfl rfl
theorem u180_45 : wp scr n mb_180 45 L (o :: st) M Q ↔ mw_o (mm_fld (mc_X scr) M o 6 0) (fun v => wp scr n mb_180 48 L (v :: st) M Q) := wp_getf rfl
theorem u180_48 : wp scr n mb_180 48 L st M Q ↔ wp scr n mb_180 49 L (.int 0 :: st) M Q := wp_step rfl rfl rfl rfl rfl
theorem u180_49 : wp scr n mb_180 49 L (a2 :: a1 :: st) M Q ↔ (mw_st st ∧ Wp scr n 151 [a1, a2] M (fun r1 M1 => wp scr n mb_180 52 L (r1.toList ++ st) M1 Q)) := wp_sta rfl rfl rfl rfl
theorem u180_52 : wp scr n mb_180 52 L [.int x] M Q ↔ Q (some (.int x)) M := wp_ret rfl rfl
theorem u180_53 : wp scr n mb_180 53 [some (.ref a), l1] st M Q ↔ wp scr n mb_180 54 [some (.ref a), l1] (.ref a :: st) M Q := wp_step rfl rfl rfl rfl rfl
theorem u180_54 : wp scr n mb_180 54 L (o :: st) M Q ↔ mw_o (mm_fld (mc_X scr) M o 6 0) (fun v => wp scr n mb_180 57 L (v :: st) M Q) := wp_getf rfl
theorem u180_57 : wp scr n mb_180 57 L st M Q ↔ wp scr n mb_180 58 L (.int 1 :: st) M Q := wp_step rfl rfl rfl rfl rfl
theorem u180_58 : wp scr n mb_180 58 L (a2 :: a1 :: st) M Q ↔ (mw_st st ∧ Wp scr n 151 [a1, a2] M (fun r1 M1 => wp scr n mb_180 61 L (r1.toList ++ st) M1 Q)) := wp_sta rfl rfl rfl rfl
theorem u180_61 : wp scr n mb_180 61 L [.int x] M Q ↔ Q (some (.int x)) M := wp_ret rfl rfl
theorem u180_62 : wp scr n mb_180 62 [some (.ref a), l1] st M Q ↔ wp scr n mb_180 63 [some (.ref a), l1] (.ref a :: st) M Q := wp_step rfl rfl rfl rfl rfl
theorem u180_63 : wp scr n mb_180 63 L (o :: st) M Q ↔ mw_o (mm_fld (mc_X scr) M o 6 0) (fun v => wp scr n mb_180 66 L (v :: st) M Q) := wp_getf rfl
theorem u180_66 : wp scr n mb_180 66 L (a1 :: st) M Q ↔ (mw_st st ∧ Wp scr n 181 [a1] M (fun r1 M1 => wp scr n mb_180 69 L (r1.toList ++ st) M1 Q)) := wp_sta rfl rfl rfl rfl
theorem u180_69 : wp scr n mb_180 69 L [.int x] M Q ↔ Q (some (.int x)) M := wp_ret rfl rfl
theorem u180_70 : wp scr n mb_180 70 [some (.ref a), l1] st M Q ↔ wp scr n mb_180 71 [some (.ref a), l1] (.ref a :: st) M Q := wp_step rfl rfl rfl rfl rfl
theorem u180_71 : wp scr n mb_180 71 L (o :: st) M Q ↔ mw_o (mm_fld (mc_X scr) M o 6 0) (fun v => wp scr n mb_180 74 L (v :: st) M Q) := wp_getf rfl
theorem u180_74 : wp scr n mb_180 74 L (a1 :: st) M Q ↔ (mw_st st ∧ Wp scr n 182 [a1] M (fun r1 M1 => wp scr n mb_180 77 L (r1.toList ++ st) M1 Q)) := wp_sta rfl rfl rfl rfl
theorem u180_77 : wp scr n mb_180 77 L [.int x] M Q ↔ Q (some (.int x)) M := wp_ret rfl rfl
theorem u180_78 : wp scr n mb_180 78 [some (.ref a), l1] st M Q ↔ wp scr n mb_180 79 [some (.ref a), l1] (.ref a :: st) M Q := wp_step rfl rfl rfl rfl rfl
theorem u180_79 : wp scr n mb_180 79 L (o :: st) M Q ↔ mw_o (mm_fld (mc_X scr) M o 6 0) (fun v => wp scr n mb_180 82 L (v :: st) M Q) := wp_getf rfl
theorem u180_82 : wp scr n mb_180 82 L (a1 :: st) M Q ↔ (mw_st st ∧ Wp scr n 183 [a1] M (fun r1 M1 => wp scr n mb_180 85 L (r1.toList ++ st) M1 Q)) := wp_sta rfl rfl rfl rfl
theorem u180_85 : wp scr n mb_180 85 L (.int x :: st) M Q ↔ (if x = 0 then wp scr n mb_180 92 L st M Q else wp scr n mb_180 88 L st M Q) := (wp_step rfl rfl rfl rfl rfl).trans wp_ite
theorem u180_88 : wp scr n mb_180 88 L st M Q ↔ wp scr n mb_180 89 L (.int 1 :: st) M Q := wp_step rfl rfl rfl rfl rfl
theorem u180_89 : wp scr n mb_180 89 L st M Q ↔ wp scr n mb_180 93 L st M Q := wp_step rfl rfl rfl rfl rfl
theorem u180_92 : wp scr n mb_180 92 L st M Q ↔ wp scr n mb_180 93 L (.int 0 :: st) M Q := wp_step rfl rfl rfl rfl rfl
theorem u180_93 : wp scr n mb_180 93 L [.int x] M Q ↔ Q (some (.int x)) M := wp_ret rfl rfl
theorem u180_94 : wp scr n mb_180 94 [some (.ref a), l1] st M Q ↔ wp scr n mb_180 95 [some (.ref a), l1] (.ref a :: st) M Q := wp_step rfl rfl rfl rfl rfl
theorem u180_95 : wp scr n mb_180 95 L (o :: st) M Q ↔ mw_o (mm_fld (mc_X scr) M o 6 0) (fun v => wp scr n mb_180 98 L (v :: st) M Q) := wp_getf rfl
theorem u180_98 : wp scr n mb_180 98 L st M Q ↔ wp scr n mb_180 100 L (.int 73 :: st) M Q := wp_step rfl rfl rfl rfl rfl
theorem u180_100 : wp scr n mb_180 100 L (.int y :: o :: st) M Q ↔ mw_o (mm_ld (mc_X scr) M o y) (fun x => wp scr n mb_180 101 L (.int x :: st) M Q) := wp_iald rfl
theorem u180_101 : wp scr n mb_180 101 L [.int x] M Q ↔ Q (some (.int x)) M := wp_ret rfl rfl
theorem u180_102 : wp scr n mb_180 102 [some (.ref a), l1] st M Q ↔ wp scr n mb_180 103 [some (.ref a), l1] (.ref a :: st) M Q := wp_step rfl rfl rfl rfl rfl
theorem u180_103 : wp scr n mb_180 103 L (.ref a :: st) M Q ↔ ((mw_r M a 6 ∧ mw_st st) ∧ Wp scr n 184 [.ref a] M (fun r1 M1 => wp scr n mb_180 106 L (r1.toList ++ st) M1 Q)) := wp_vir rfl rfl rfl rfl rfl
theorem u180_106 : wp scr n mb_180 106 L [.int x] M Q ↔ Q (some (.int x)) M := wp_ret rfl rfl
theorem u180_107 : wp scr n mb_180 107 [some (.ref a), l1] st M Q ↔ wp scr n mb_180 108 [some (.ref a), l1] (.ref a :: st) M Q := wp_step rfl rfl rfl rfl rfl
theorem u180_108 : wp scr n mb_180 108 L st M Q ↔ wp scr n mb_180 110 L (.int (-2) :: st) M Q := wp_step rfl rfl rfl rfl rfl
theorem u180_110 : wp scr n mb_180 110 L (a2 :: .ref a :: st) M Q ↔ ((mw_r M a 6 ∧ mw_st st) ∧ Wp scr n 141 [.ref a, a2] M (fun r1 M1 => wp scr n mb_180 113 L (r1.toList ++ st) M1 Q)) := wp_vir rfl rfl rfl rfl rfl
theorem u180_113 : wp scr n mb_180 113 L [.int x] M Q ↔ Q (some (.int x)) M := wp_ret rfl rfl
theorem e180 : Wp scr (n + 1) 180 [.ref a0, .int x1] M Q ↔ wp scr n mb_180 0 [some (.ref a0), some (.int x1)] [] M Q := Wp_to rfl rfl rfl
/-- SmallerInTheShopModel thickness ([I)I -/
def mb_181 : mw_B := ((Option.some FieldType.int), mp_181)
theorem u181_0 : wp scr n mb_181 0 L st M Q ↔ wp scr n mb_181 1 L (.int 0 :: st) M Q := wp_step rfl rfl rfl rfl rfl
theorem u181_1 : wp scr n mb_181 1 [l0, l1, l2, l3, l4] (.int x :: st) M Q ↔ wp scr n mb_181 2 (mm_sto1 [l0, l1, l2, l3, l4] 1 (.int x)) st M Q := wp_step rfl rfl rfl rfl rfl
theorem u181_2 : wp scr n mb_181 2 L st M Q ↔ wp scr n mb_181 3 L (.int 0 :: st) M Q := wp_step rfl rfl rfl rfl rfl
theorem u181_3 : wp scr n mb_181 3 [l0, l1, l2, l3, l4] (.int x :: st) M Q ↔ wp scr n mb_181 4 (mm_sto1 [l0, l1, l2, l3, l4] 2 (.int x)) st M Q := wp_step rfl rfl rfl rfl rfl
theorem u181_4 : wp scr n mb_181 4 [l0, l1, some (.int x), l3, l4] st M Q ↔ wp scr n mb_181 5 [l0, l1, some (.int x), l3, l4] (.int x :: st) M Q := wp_step rfl rfl rfl rfl rfl
theorem u181_5 : wp scr n mb_181 5 L st M Q ↔ wp scr n mb_181 7 L (.int 8 :: st) M Q := wp_step rfl rfl rfl rfl rfl
theorem u181_7 : wp scr n mb_181 7 L (.int y :: .int x :: st) M Q ↔ (if y ≤ x then wp scr n mb_181 58 L st M Q else wp scr n mb_181 10 L st M Q) := (wp_step rfl rfl rfl rfl rfl).trans wp_ite
theorem u181_10 : wp scr n mb_181 10 L st M Q ↔ wp scr n mb_181 11 L (.int 0 :: st) M Q := wp_step rfl rfl rfl rfl rfl
theorem u181_11 : wp scr n mb_181 11 [l0, l1, l2, l3, l4] (.int x :: st) M Q ↔ wp scr n mb_181 12 (mm_sto1 [l0, l1, l2, l3, l4] 3 (.int x)) st M Q := wp_step rfl rfl rfl rfl rfl
theorem u181_12 : wp scr n mb_181 12 L st M Q ↔ wp scr n mb_181 13 L (.int 0 :: st) M Q := wp_step rfl rfl rfl rfl rfl
theorem u181_13 : wp scr n mb_181 13 [l0, l1, l2, l3, l4] (.int x :: st) M Q ↔ wp scr n mb_181 15 (mm_sto1 [l0, l1, l2, l3, l4] 4 (.int x)) st M Q := wp_step rfl rfl rfl rfl rfl
theorem u181_15 : wp scr n mb_181 15 [l0, l1, l2, l3, some (.int x)] st M Q ↔ wp scr n mb_181 17 [l0, l1, l2, l3, some (.int x)] (.int x :: st) M Q := wp_step rfl rfl rfl rfl rfl
theorem u181_17 : wp scr n mb_181 17 L st M Q ↔ wp scr n mb_181 19 L (.int 8 :: st) M Q := wp_step rfl rfl rfl rfl rfl
theorem u181_19 : wp scr n mb_181 19 L (.int y :: .int x :: st) M Q ↔ (if y ≤ x then wp scr n mb_181 46 L st M Q else wp scr n mb_181 22 L st M Q) := (wp_step rfl rfl rfl rfl rfl).trans wp_ite
theorem u181_22 : wp scr n mb_181 22 [l0, l1, l2, some (.int x), l4] st M Q ↔ wp scr n mb_181 23 [l0, l1, l2, some (.int x), l4] (.int x :: st) M Q := wp_step rfl rfl rfl rfl rfl
theorem u181_23 : wp scr n mb_181 23 [some (.ref a), l1, l2, l3, l4] st M Q ↔ wp scr n mb_181 24 [some (.ref a), l1, l2, l3, l4] (.ref a :: st) M Q := wp_step rfl rfl rfl rfl rfl
theorem u181_24 : wp scr n mb_181 24 [l0, l1, some (.int x), l3, l4] st M Q ↔ wp scr n mb_181 25 [l0, l1, some (.int x), l3, l4] (.int x :: st) M Q := wp_step rfl rfl rfl rfl rfl
theorem u181_25 : wp scr n mb_181 25 [l0, l1, l2, l3, some (.int x)] st M Q ↔ wp scr n mb_181 27 [l0, l1, l2, l3, some (.int x)] (.int x :: st) M Q := wp_step rfl rfl rfl rfl rfl
theorem u181_27 : wp scr n mb_181 27 L (a3 :: a2 :: a1 :: st) M Q ↔ (mw_st st ∧ Wp scr n 163 [a1, a2, a3] M (fun r1 M1 => wp scr n mb_181 30 L (r1.toList ++ st) M1 Q)) := wp_sta rfl rfl rfl rfl
theorem u181_30 : wp scr n mb_181 30 L (.int x :: st) M Q ↔ (if x = 0 then wp scr n mb_181 37 L st M Q else wp scr n mb_181 33 L st M Q) := (wp_step rfl rfl rfl rfl rfl).trans wp_ite
theorem u181_33 : wp scr n mb_181 33 L st M Q ↔ wp scr n mb_181 34 L (.int 1 :: st) M Q := wp_step rfl rfl rfl rfl rfl
theorem u181_34 : wp scr n mb_181 34 L st M Q ↔ wp scr n mb_181 38 L st M Q := wp_step rfl rfl rfl rfl rfl
theorem u181_37 : wp scr n mb_181 37 L st M Q ↔ wp scr n mb_181 38 L (.int 0 :: st) M Q := wp_step rfl rfl rfl rfl rfl
theorem u181_38 : wp scr n mb_181 38 L (.int y :: .int x :: st) M Q ↔ wp scr n mb_181 39 L (.int (x + y) :: st) M Q := wp_step rfl rfl rfl rfl rfl
theorem u181_39 : wp scr n mb_181 39 [l0, l1, l2, l3, l4] (.int x :: st) M Q ↔ wp scr n mb_181 40 (mm_sto1 [l0, l1, l2, l3, l4] 3 (.int x)) st M Q := wp_step rfl rfl rfl rfl rfl
theorem u181_40 : wp scr n mb_181 40 [l0, l1, l2, l3, some (.int x)] st M Q ↔ wp scr n mb_181 43 (mm_sto1 [l0, l1, l2, l3, some (.int x)] 4 (.int (x + 1))) st M Q := wp_step rfl rfl rfl rfl rfl
theorem u181_43 : wp scr n mb_181 43 L st M Q ↔ wp scr n mb_181 15 L st M Q := wp_step rfl rfl rfl rfl rfl
theorem u181_46 : wp scr n mb_181 46 [l0, some (.int x), l2, l3, l4] st M Q ↔ wp scr n mb_181 47 [l0, some (.int x), l2, l3, l4] (.int x :: st) M Q := wp_step rfl rfl rfl rfl rfl
theorem u181_47 : wp scr n mb_181 47 [l0, l1, l2, some (.int x), l4] st M Q ↔ wp scr n mb_181 48 [l0, l1, l2, some (.int x), l4] (.int x :: st) M Q := wp_step rfl rfl rfl rfl rfl
theorem u181_48 : wp scr n mb_181 48 L (.int y :: .int x :: st) M Q ↔ (mw_st st ∧ wp scr n mb_181 51 L (.int (if x < y then y else x) :: st) M Q) := wp_math997 rfl
theorem u181_51 : wp scr n mb_181 51 [l0, l1, l2, l3, l4] (.int x :: st) M Q ↔ wp scr n mb_181 52 (mm_sto1 [l0, l1, l2, l3, l4] 1 (.int x)) st M Q := wp_step rfl rfl rfl rfl rfl
theorem u181_52 : wp scr n mb_181 52 [l0, l1, some (.int x), l3, l4] st M Q ↔ wp scr n mb_181 55 (mm_sto1 [l0, l1, some (.int x), l3, l4] 2 (.int (x + 1))) st M Q := wp_step rfl rfl rfl rfl rfl
theorem u181_55 : wp scr n mb_181 55 L st M Q ↔ wp scr n mb_181 4 L st M Q := wp_step rfl rfl rfl rfl rfl
theorem u181_58 : wp scr n mb_181 58 [l0, some (.int x), l2, l3, l4] st M Q ↔ wp scr n mb_181 59 [l0, some (.int x), l2, l3, l4] (.int x :: st) M Q := wp_step rfl rfl rfl rfl rfl
theorem u181_59 : wp scr n mb_181 59 L [.int x] M Q ↔ Q (some (.int x)) M := wp_ret rfl rfl
theorem e181 : Wp scr (n + 1) 181 [.ref b1] M Q ↔ wp scr n mb_181 0 [some (.ref b1), none, none, none, none] [] M Q := Wp_to rfl rfl rfl
/-- SmallerInTheShopModel readSet ([I)I -/
def mb_182 : mw_B := ((Option.some FieldType.int), mp_182)
theorem u182_0 : wp scr n mb_182 0 L st M Q ↔ wp scr n mb_182 1 L (.int 0 :: st) M Q := wp_step rfl rfl rfl rfl rfl
theorem u182_1 : wp scr n mb_182 1 [l0, l1, l2] (.int x :: st) M Q ↔ wp scr n mb_182 2 (mm_sto1 [l0, l1, l2] 1 (.int x)) st M Q := wp_step rfl rfl rfl rfl rfl
theorem u182_2 : wp scr n mb_182 2 L st M Q ↔ wp scr n mb_182 3 L (.int 0 :: st) M Q := wp_step rfl rfl rfl rfl rfl
theorem u182_3 : wp scr n mb_182 3 [l0, l1, l2] (.int x :: st) M Q ↔ wp scr n mb_182 4 (mm_sto1 [l0, l1, l2] 2 (.int x)) st M Q := wp_step rfl rfl rfl rfl rfl
theorem u182_4 : wp scr n mb_182 4 [l0, l1, some (.int x)] st M Q ↔ wp scr n mb_182 5 [l0, l1, some (.int x)] (.int x :: st) M Q := wp_step rfl rfl rfl rfl rfl
theorem u182_5 : wp scr n mb_182 5 L st M Q ↔ wp scr n mb_182 7 L (.int 8 :: st) M Q := wp_step rfl rfl rfl rfl rfl
theorem u182_7 : wp scr n mb_182 7 L (.int y :: .int x :: st) M Q ↔ (if y ≤ x then wp scr n mb_182 34 L st M Q else wp scr n mb_182 10 L st M Q) := (wp_step rfl rfl rfl rfl rfl).trans wp_ite
theorem u182_10 : wp scr n mb_182 10 [l0, some (.int x), l2] st M Q ↔ wp scr n mb_182 11 [l0, some (.int x), l2] (.int x :: st) M Q := wp_step rfl rfl rfl rfl rfl
theorem u182_11 : wp scr n mb_182 11 [some (.ref a), l1, l2] st M Q ↔ wp scr n mb_182 12 [some (.ref a), l1, l2] (.ref a :: st) M Q := wp_step rfl rfl rfl rfl rfl
theorem u182_12 : wp scr n mb_182 12 [l0, l1, some (.int x)] st M Q ↔ wp scr n mb_182 13 [l0, l1, some (.int x)] (.int x :: st) M Q := wp_step rfl rfl rfl rfl rfl
theorem u182_13 : wp scr n mb_182 13 L (a2 :: a1 :: st) M Q ↔ (mw_st st ∧ Wp scr n 169 [a1, a2] M (fun r1 M1 => wp scr n mb_182 16 L (r1.toList ++ st) M1 Q)) := wp_sta rfl rfl rfl rfl
theorem u182_16 : wp scr n mb_182 16 L (.int x :: st) M Q ↔ (if x = 0 then wp scr n mb_182 25 L st M Q else wp scr n mb_182 19 L st M Q) := (wp_step rfl rfl rfl rfl rfl).trans wp_ite
theorem u182_19 : wp scr n mb_182 19 L st M Q ↔ wp scr n mb_182 20 L (.int 1 :: st) M Q := wp_step rfl rfl rfl rfl rfl
theorem u182_20 : wp scr n mb_182 20 [l0, l1, some (.int x)] st M Q ↔ wp scr n mb_182 21 [l0, l1, some (.int x)] (.int x :: st) M Q := wp_step rfl rfl rfl rfl rfl
theorem u182_21 : wp scr n mb_182 21 L (.int y :: .int x :: st) M Q ↔ wp scr n mb_182 22 L (.int (x <<< (y &&& 31)) :: st) M Q := wp_step rfl rfl rfl rfl rfl
theorem u182_22 : wp scr n mb_182 22 L st M Q ↔ wp scr n mb_182 26 L st M Q := wp_step rfl rfl rfl rfl rfl
theorem u182_25 : wp scr n mb_182 25 L st M Q ↔ wp scr n mb_182 26 L (.int 0 :: st) M Q := wp_step rfl rfl rfl rfl rfl
theorem u182_26 : wp scr n mb_182 26 L (.int y :: .int x :: st) M Q ↔ wp scr n mb_182 27 L (.int (x ||| y) :: st) M Q := wp_step rfl rfl rfl rfl rfl
theorem u182_27 : wp scr n mb_182 27 [l0, l1, l2] (.int x :: st) M Q ↔ wp scr n mb_182 28 (mm_sto1 [l0, l1, l2] 1 (.int x)) st M Q := wp_step rfl rfl rfl rfl rfl
theorem u182_28 : wp scr n mb_182 28 [l0, l1, some (.int x)] st M Q ↔ wp scr n mb_182 31 (mm_sto1 [l0, l1, some (.int x)] 2 (.int (x + 1))) st M Q := wp_step rfl rfl rfl rfl rfl
theorem u182_31 : wp scr n mb_182 31 L st M Q ↔ wp scr n mb_182 4 L st M Q := wp_step rfl rfl rfl rfl rfl
theorem u182_34 : wp scr n mb_182 34 [l0, some (.int x), l2] st M Q ↔ wp scr n mb_182 35 [l0, some (.int x), l2] (.int x :: st) M Q := wp_step rfl rfl rfl rfl rfl
theorem u182_35 : wp scr n mb_182 35 L [.int x] M Q ↔ Q (some (.int x)) M := wp_ret rfl rfl
theorem e182 : Wp scr (n + 1) 182 [.ref b1] M Q ↔ wp scr n mb_182 0 [some (.ref b1), none, none] [] M Q := Wp_to rfl rfl rfl
/-- SmallerInTheShopModel isOut ([I)Z -/
def mb_183 : mw_B := ((Option.some FieldType.boolean), mp_183)
theorem u183_0 : wp scr n mb_183 0 [some (.ref a)] st M Q ↔ wp scr n mb_183 1 [some (.ref a)] (.ref a :: st) M Q := wp_step rfl rfl rfl rfl rfl
theorem u183_1 : wp scr n mb_183 1 [some (.ref a)] st M Q ↔ wp scr n mb_183 2 [some (.ref a)] (.ref a :: st) M Q := wp_step rfl rfl rfl rfl rfl
theorem u183_2 : wp scr n mb_183 2 L st M Q ↔ wp scr n mb_183 4 L (.int 72 :: st) M Q := wp_step rfl rfl rfl rfl rfl
theorem u183_4 : wp scr n mb_183 4 L (.int y :: o :: st) M Q ↔ mw_o (mm_ld (mc_X scr) M o y) (fun x => wp scr n mb_183 5 L (.int x :: st) M Q) := wp_iald rfl
theorem u183_5 : wp scr n mb_183 5 L st M Q ↔ wp scr n mb_183 6 L (.int 1 :: st) M Q := wp_step rfl rfl rfl rfl rfl
theorem u183_6 : wp scr n mb_183 6 L (a3 :: a2 :: a1 :: st) M Q ↔ (mw_st st ∧ Wp scr n 170 [a1, a2, a3] M (fun r1 M1 => wp scr n mb_183 9 L (r1.toList ++ st) M1 Q)) := wp_sta rfl rfl rfl rfl
theorem u183_9 : wp scr n mb_183 9 L [.int x] M Q ↔ ((x = 0 ∨ x = 1) ∧ Q (some (.int x)) M) := wp_retb rfl rfl
theorem e183 : Wp scr (n + 1) 183 [.ref b1] M Q ↔ wp scr n mb_183 0 [some (.ref b1)] [] M Q := Wp_to rfl rfl rfl
/-- SmallerInTheShopModel flat ()I -/
def mb_184 : mw_B := ((Option.some FieldType.int), mp_184)
theorem u184_0 : wp scr n mb_184 0 L st M Q ↔ wp scr n mb_184 1 L (.int 0 :: st) M Q := wp_step rfl rfl rfl rfl rfl
theorem u184_1 : wp scr n mb_184 1 [l0, l1, l2] (.int x :: st) M Q ↔ wp scr n mb_184 2 (mm_sto1 [l0, l1, l2] 1 (.int x)) st M Q := wp_step rfl rfl rfl rfl rfl
theorem u184_2 : wp scr n mb_184 2 L st M Q ↔ wp scr n mb_184 3 L (.int 0 :: st) M Q := wp_step rfl rfl rfl rfl rfl
theorem u184_3 : wp scr n mb_184 3 [l0, l1, l2] (.int x :: st) M Q ↔ wp scr n mb_184 4 (mm_sto1 [l0, l1, l2] 2 (.int x)) st M Q := wp_step rfl rfl rfl rfl rfl
theorem u184_4 : wp scr n mb_184 4 [l0, l1, some (.int x)] st M Q ↔ wp scr n mb_184 5 [l0, l1, some (.int x)] (.int x :: st) M Q := wp_step rfl rfl rfl rfl rfl
theorem u184_5 : wp scr n mb_184 5 L st M Q ↔ wp scr n mb_184 7 L (.int 10 :: st) M Q := wp_step rfl rfl rfl rfl rfl
theorem u184_7 : wp scr n mb_184 7 L (.int y :: .int x :: st) M Q ↔ (if y ≤ x then wp scr n mb_184 38 L st M Q else wp scr n mb_184 10 L st M Q) := (wp_step rfl rfl rfl rfl rfl).trans wp_ite
theorem u184_10 : wp scr n mb_184 10 [l0, some (.int x), l2] st M Q ↔ wp scr n mb_184 11 [l0, some (.int x), l2] (.int x :: st) M Q := wp_step rfl rfl rfl rfl rfl
theorem u184_11 : wp scr n mb_184 11 [some (.ref a), l1, l2] st M Q ↔ wp scr n mb_184 12 [some (.ref a), l1, l2] (.ref a :: st) M Q := wp_step rfl rfl rfl rfl rfl
theorem u184_12 : wp scr n mb_184 12 L (o :: st) M Q ↔ mw_o (mm_fld (mc_X scr) M o 6 0) (fun v => wp scr n mb_184 15 L (v :: st) M Q) := wp_getf rfl
theorem u184_15 : wp scr n mb_184 15 L st M Q ↔ wp scr n mb_184 17 L (.int 30 :: st) M Q := wp_step rfl rfl rfl rfl rfl
theorem u184_17 : wp scr n mb_184 17 [l0, l1, some (.int x)] st M Q ↔ wp scr n mb_184 18 [l0, l1, some (.int x)] (.int x :: st) M Q := wp_step rfl rfl rfl rfl rfl
theorem u184_18 : wp scr n mb_184 18 L (.int y :: .int x :: st) M Q ↔ wp scr n mb_184 19 L (.int (x + y) :: st) M Q := wp_step rfl rfl rfl rfl rfl
theorem u184_19 : wp scr n mb_184 19 L (.int y :: o :: st) M Q ↔ mw_o (mm_ld (mc_X scr) M o y) (fun x => wp scr n mb_184 20 L (.int x :: st) M Q) := wp_iald rfl
theorem u184_20 : wp scr n mb_184 20 L (.int x :: st) M Q ↔ (if x = 0 then wp scr n mb_184 23 L st M Q else wp scr n mb_184 29 L st M Q) := (wp_step rfl rfl rfl rfl rfl).trans wp_iten
theorem u184_23 : wp scr n mb_184 23 L st M Q ↔ wp scr n mb_184 24 L (.int 1 :: st) M Q := wp_step rfl rfl rfl rfl rfl
theorem u184_24 : wp scr n mb_184 24 [l0, l1, some (.int x)] st M Q ↔ wp scr n mb_184 25 [l0, l1, some (.int x)] (.int x :: st) M Q := wp_step rfl rfl rfl rfl rfl
theorem u184_25 : wp scr n mb_184 25 L (.int y :: .int x :: st) M Q ↔ wp scr n mb_184 26 L (.int (x <<< (y &&& 31)) :: st) M Q := wp_step rfl rfl rfl rfl rfl
theorem u184_26 : wp scr n mb_184 26 L st M Q ↔ wp scr n mb_184 30 L st M Q := wp_step rfl rfl rfl rfl rfl
theorem u184_29 : wp scr n mb_184 29 L st M Q ↔ wp scr n mb_184 30 L (.int 0 :: st) M Q := wp_step rfl rfl rfl rfl rfl
theorem u184_30 : wp scr n mb_184 30 L (.int y :: .int x :: st) M Q ↔ wp scr n mb_184 31 L (.int (x ||| y) :: st) M Q := wp_step rfl rfl rfl rfl rfl
theorem u184_31 : wp scr n mb_184 31 [l0, l1, l2] (.int x :: st) M Q ↔ wp scr n mb_184 32 (mm_sto1 [l0, l1, l2] 1 (.int x)) st M Q := wp_step rfl rfl rfl rfl rfl
theorem u184_32 : wp scr n mb_184 32 [l0, l1, some (.int x)] st M Q ↔ wp scr n mb_184 35 (mm_sto1 [l0, l1, some (.int x)] 2 (.int (x + 1))) st M Q := wp_step rfl rfl rfl rfl rfl
theorem u184_35 : wp scr n mb_184 35 L st M Q ↔ wp scr n mb_184 4 L st M Q := wp_step rfl rfl rfl rfl rfl
theorem u184_38 : wp scr n mb_184 38 [l0, some (.int x), l2] st M Q ↔ wp scr n mb_184 39 [l0, some (.int x), l2] (.int x :: st) M Q := wp_step rfl rfl rfl rfl rfl
theorem u184_39 : wp scr n mb_184 39 L [.int x] M Q ↔ Q (some (.int x)) M := wp_ret rfl rfl
theorem e184 : Wp scr (n + 1) 184 [.ref a0] M Q ↔ wp scr n mb_184 0 [some (.ref a0), none, none] [] M Q := Wp_to rfl rfl rfl
/-- SmallerInTheShopModel shut (I)I -/
def mb_185 : mw_B := ((Option.some FieldType.int), mp_185)
theorem u185_0 : wp scr n mb_185 0 [l0, some (.int x)] st M Q ↔ wp scr n mb_185 1 [l0, some (.int x)] (.int x :: st) M Q := wp_step rfl rfl rfl rfl rfl
theorem u185_1 : wp scr n mb_185 1 L (.int x :: st) M Q ↔ wp scr n mb_185 2 L (.long x.toInt64 :: st) M Q := wp_step rfl rfl rfl rfl rfl
theorem u185_2 : wp scr n mb_185 2 L st M Q ↔ wp scr n mb_185 3 L (.long 0 :: st) M Q := wp_step rfl rfl rfl rfl rfl
theorem u185_3 : wp scr n mb_185 3 L st M Q ↔ wp scr n mb_185 6 L (.long (2) :: st) M Q := wp_step rfl rfl rfl rfl rfl
theorem u185_6 : wp scr n mb_185 6 L (a3 :: a2 :: a1 :: st) M Q ↔ (mw_st st ∧ Wp scr n 146 [a1, a2, a3] M (fun r1 M1 => wp scr n mb_185 9 L (r1.toList ++ st) M1 Q)) := wp_sta rfl rfl rfl rfl
theorem u185_9 : wp scr n mb_185 9 L (.int x :: st) M Q ↔ (if x = 0 then wp scr n mb_185 12 L st M Q else wp scr n mb_185 19 L st M Q) := (wp_step rfl rfl rfl rfl rfl).trans wp_iten
theorem u185_12 : wp scr n mb_185 12 [some (.ref a), l1] st M Q ↔ wp scr n mb_185 13 [some (.ref a), l1] (.ref a :: st) M Q := wp_step rfl rfl rfl rfl rfl
theorem u185_13 : wp scr n mb_185 13 L st M Q ↔ wp scr n mb_185 15 L (.int (-2) :: st) M Q := wp_step rfl rfl rfl rfl rfl
theorem u185_15 : wp scr n mb_185 15 L (a2 :: .ref a :: st) M Q ↔ ((mw_r M a 6 ∧ mw_st st) ∧ Wp scr n 141 [.ref a, a2] M (fun r1 M1 => wp scr n mb_185 18 L (r1.toList ++ st) M1 Q)) := wp_vir rfl rfl rfl rfl rfl
theorem u185_18 : wp scr n mb_185 18 L [.int x] M Q ↔ Q (some (.int x)) M := wp_ret rfl rfl
theorem u185_19 : wp scr n mb_185 19 [some (.ref a), l1] st M Q ↔ wp scr n mb_185 20 [some (.ref a), l1] (.ref a :: st) M Q := wp_step rfl rfl rfl rfl rfl
theorem u185_20 : wp scr n mb_185 20 L st M Q ↔ wp scr n mb_185 21 L (.int 0 :: st) M Q := wp_step rfl rfl rfl rfl rfl
theorem u185_21 : wp scr n mb_185 21 L st M Q ↔ wp scr n mb_185 22 L (.int 0 :: st) M Q := wp_step rfl rfl rfl rfl rfl
theorem u185_22 : wp scr n mb_185 22 L st M Q ↔ wp scr n mb_185 23 L (.int 0 :: st) M Q := wp_step rfl rfl rfl rfl rfl
theorem u185_23 : wp scr n mb_185 23 L (a4 :: a3 :: a2 :: .ref a :: st) M Q ↔ ((mw_r M a 6 ∧ mw_st st) ∧ Wp scr n 186 [.ref a, a2, a3, a4] M (fun r1 M1 => wp scr n mb_185 26 L (r1.toList ++ st) M1 Q)) := wp_vir rfl rfl rfl rfl rfl
theorem u185_26 : wp scr n mb_185 26 [l0, some (.int x)] st M Q ↔ wp scr n mb_185 27 [l0, some (.int x)] (.int x :: st) M Q := wp_step rfl rfl rfl rfl rfl
theorem u185_27 : wp scr n mb_185 27 L (.int x :: st) M Q ↔ (if x = 0 then wp scr n mb_185 30 L st M Q else wp scr n mb_185 37 L st M Q) := (wp_step rfl rfl rfl rfl rfl).trans wp_iten
theorem u185_30 : wp scr n mb_185 30 [some (.ref a), l1] st M Q ↔ wp scr n mb_185 31 [some (.ref a), l1] (.ref a :: st) M Q := wp_step rfl rfl rfl rfl rfl
theorem u185_31 : wp scr n mb_185 31 L (o :: st) M Q ↔ mw_o (mm_fld (mc_X scr) M o 6 14) (fun v => wp scr n mb_185 34 L (v :: st) M Q) := wp_getf rfl
theorem u185_34 : wp scr n mb_185 34 L st M Q ↔ wp scr n mb_185 53 L st M Q := wp_step rfl rfl rfl rfl rfl
theorem u185_37 : wp scr n mb_185 37 [l0, some (.int x)] st M Q ↔ wp scr n mb_185 38 [l0, some (.int x)] (.int x :: st) M Q := wp_step rfl rfl rfl rfl rfl
theorem u185_38 : wp scr n mb_185 38 L st M Q ↔ wp scr n mb_185 39 L (.int 1 :: st) M Q := wp_step rfl rfl rfl rfl rfl
theorem u185_39 : wp scr n mb_185 39 L (.int y :: .int x :: st) M Q ↔ (if x = y then wp scr n mb_185 42 L st M Q else wp scr n mb_185 49 L st M Q) := (wp_step rfl rfl rfl rfl rfl).trans wp_iten
theorem u185_42 : wp scr n mb_185 42 [some (.ref a), l1] st M Q ↔ wp scr n mb_185 43 [some (.ref a), l1] (.ref a :: st) M Q := wp_step rfl rfl rfl rfl rfl
theorem u185_43 : wp scr n mb_185 43 L (o :: st) M Q ↔ mw_o (mm_fld (mc_X scr) M o 6 15) (fun v => wp scr n mb_185 46 L (v :: st) M Q) := wp_getf rfl
theorem u185_46 : wp scr n mb_185 46 L st M Q ↔ wp scr n mb_185 53 L st M Q := wp_step rfl rfl rfl rfl rfl
theorem u185_49 : wp scr n mb_185 49 [some (.ref a), l1] st M Q ↔ wp scr n mb_185 50 [some (.ref a), l1] (.ref a :: st) M Q := wp_step rfl rfl rfl rfl rfl
theorem u185_50 : wp scr n mb_185 50 L (o :: st) M Q ↔ mw_o (mm_fld (mc_X scr) M o 6 16) (fun v => wp scr n mb_185 53 L (v :: st) M Q) := wp_getf rfl
theorem u185_53 : wp scr n mb_185 53 L [.int x] M Q ↔ Q (some (.int x)) M := wp_ret rfl rfl
theorem e185 : Wp scr (n + 1) 185 [.ref a0, .int x1] M Q ↔ wp scr n mb_185 0 [some (.ref a0), some (.int x1)] [] M Q := Wp_to rfl rfl rfl
/-- SmallerInTheShopModel seek (III)V -/
def mb_186 : mw_B := ((Option.none : Option FieldType), mp_186)
theorem u186_0 : wp scr n mb_186 0 [some (.ref a), l1, l2, l3] st M Q ↔ wp scr n mb_186 1 [some (.ref a), l1, l2, l3] (.ref a :: st) M Q := wp_step rfl rfl rfl rfl rfl
theorem u186_1 : wp scr n mb_186 1 [l0, some (.int x), l2, l3] st M Q ↔ wp scr n mb_186 2 [l0, some (.int x), l2, l3] (.int x :: st) M Q := wp_step rfl rfl rfl rfl rfl
theorem u186_2 : wp scr n mb_186 2 L (v :: o :: st) M Q ↔ mw_o (mm_put mc_fty M o v 6 11) (fun M1 => wp scr n mb_186 5 L st M1 Q) := wp_putf rfl
theorem u186_5 : wp scr n mb_186 5 [some (.ref a), l1, l2, l3] st M Q ↔ wp scr n mb_186 6 [some (.ref a), l1, l2, l3] (.ref a :: st) M Q := wp_step rfl rfl rfl rfl rfl
theorem u186_6 : wp scr n mb_186 6 [l0, l1, some (.int x), l3] st M Q ↔ wp scr n mb_186 7 [l0, l1, some (.int x), l3] (.int x :: st) M Q := wp_step rfl rfl rfl rfl rfl
theorem u186_7 : wp scr n mb_186 7 L (v :: o :: st) M Q ↔ mw_o (mm_put mc_fty M o v 6 12) (fun M1 => wp scr n mb_186 10 L st M1 Q) := wp_putf rfl
theorem u186_10 : wp scr n mb_186 10 [some (.ref a), l1, l2, l3] st M Q ↔ wp scr n mb_186 11 [some (.ref a), l1, l2, l3] (.ref a :: st) M Q := wp_step rfl rfl rfl rfl rfl
theorem u186_11 : wp scr n mb_186 11 [l0, l1, l2, some (.int x)] st M Q ↔ wp scr n mb_186 12 [l0, l1, l2, some (.int x)] (.int x :: st) M Q := wp_step rfl rfl rfl rfl rfl
theorem u186_12 : wp scr n mb_186 12 L (v :: o :: st) M Q ↔ mw_o (mm_put mc_fty M o v 6 13) (fun M1 => wp scr n mb_186 15 L st M1 Q) := wp_putf rfl
theorem u186_15 : wp scr n mb_186 15 [some (.ref a), l1, l2, l3] st M Q ↔ wp scr n mb_186 16 [some (.ref a), l1, l2, l3] (.ref a :: st) M Q := wp_step rfl rfl rfl rfl rfl
theorem u186_16 : wp scr n mb_186 16 L st M Q ↔ wp scr n mb_186 18 L (.int (-9) :: st) M Q := wp_step rfl rfl rfl rfl rfl
theorem u186_18 : wp scr n mb_186 18 L (v :: o :: st) M Q ↔ mw_o (mm_put mc_fty M o v 6 14) (fun M1 => wp scr n mb_186 21 L st M1 Q) := wp_putf rfl
theorem u186_21 : wp scr n mb_186 21 [some (.ref a), l1, l2, l3] st M Q ↔ wp scr n mb_186 22 [some (.ref a), l1, l2, l3] (.ref a :: st) M Q := wp_step rfl rfl rfl rfl rfl
theorem u186_22 : wp scr n mb_186 22 L st M Q ↔ wp scr n mb_186 24 L (.int (-9) :: st) M Q := wp_step rfl rfl rfl rfl rfl
theorem u186_24 : wp scr n mb_186 24 L (v :: o :: st) M Q ↔ mw_o (mm_put mc_fty M o v 6 15) (fun M1 => wp scr n mb_186 27 L st M1 Q) := wp_putf rfl
theorem u186_27 : wp scr n mb_186 27 [some (.ref a), l1, l2, l3] st M Q ↔ wp scr n mb_186 28 [some (.ref a), l1, l2, l3] (.ref a :: st) M Q := wp_step rfl rfl rfl rfl rfl
theorem u186_28 : wp scr n mb_186 28 L st M Q ↔ wp scr n mb_186 30 L (.int (-9) :: st) M Q := wp_step rfl rfl rfl rfl rfl
theorem u186_30 : wp scr n mb_186 30 L (v :: o :: st) M Q ↔ mw_o (mm_put mc_fty M o v 6 16) (fun M1 => wp scr n mb_186 33 L st M1 Q) := wp_putf rfl
theorem u186_33 : wp scr n mb_186 33 [some (.ref a), l1, l2, l3] st M Q ↔ wp scr n mb_186 34 [some (.ref a), l1, l2, l3] (.ref a :: st) M Q := wp_step rfl rfl rfl rfl rfl
theorem u186_34 : wp scr n mb_186 34 L st M Q ↔ wp scr n mb_186 35 L (.int 0 :: st) M Q := wp_step rfl rfl rfl rfl rfl
theorem u186_35 : wp scr n mb_186 35 L (v :: o :: st) M Q ↔ mw_o (mm_put mc_fty M o v 6 17) (fun M1 => wp scr n mb_186 38 L st M1 Q) := wp_putf rfl
theorem u186_38 : wp scr n mb_186 38 [some (.ref a), l1, l2, l3] st M Q ↔ wp scr n mb_186 39 [some (.ref a), l1, l2, l3] (.ref a :: st) M Q := wp_step rfl rfl rfl rfl rfl
theorem u186_39 : wp scr n mb_186 39 L (o :: st) M Q ↔ mw_o (mm_fld (mc_X scr) M o 6 0) (fun v => wp scr n mb_186 42 L (v :: st) M Q) := wp_getf rfl
theorem u186_42 : wp scr n mb_186 42 [some (.ref a), l1, l2, l3] st M Q ↔ wp scr n mb_186 43 [some (.ref a), l1, l2, l3] (.ref a :: st) M Q := wp_step rfl rfl rfl rfl rfl
theorem u186_43 : wp scr n mb_186 43 L (o :: st) M Q ↔ mw_o (mm_fld (mc_X scr) M o 6 2) (fun v => wp scr n mb_186 46 L (v :: st) M Q) := wp_getf rfl
theorem u186_46 : wp scr n mb_186 46 L st M Q ↔ wp scr n mb_186 47 L (.int 0 :: st) M Q := wp_step rfl rfl rfl rfl rfl
theorem u186_47 : wp scr n mb_186 47 L (.int y :: .ref a :: st) M Q ↔ mw_o (mm_lda M a y) (fun v => wp scr n mb_186 48 L (v :: st) M Q) := wp_aald rfl
theorem u186_48 : wp scr n mb_186 48 L (a2 :: a1 :: st) M Q ↔ (mw_st st ∧ Wp scr n 147 [a1, a2] M (fun r1 M1 => wp scr n mb_186 51 L (r1.toList ++ st) M1 Q)) := wp_sta rfl rfl rfl rfl
theorem u186_51 : wp scr n mb_186 51 [some (.ref a), l1, l2, l3] st M Q ↔ wp scr n mb_186 52 [some (.ref a), l1, l2, l3] (.ref a :: st) M Q := wp_step rfl rfl rfl rfl rfl
theorem u186_52 : wp scr n mb_186 52 L st M Q ↔ wp scr n mb_186 53 L (.int 0 :: st) M Q := wp_step rfl rfl rfl rfl rfl
theorem u186_53 : wp scr n mb_186 53 L st M Q ↔ wp scr n mb_186 54 L (.int 0 :: st) M Q := wp_step rfl rfl rfl rfl rfl
theorem u186_54 : wp scr n mb_186 54 L st M Q ↔ wp scr n mb_186 55 L (.int 0 :: st) M Q := wp_step rfl rfl rfl rfl rfl
theorem u186_55 : wp scr n mb_186 55 L (a4 :: a3 :: a2 :: .ref a :: st) M Q ↔ ((mw_r M a 6 ∧ mw_st st) ∧ Wp scr n 187 [.ref a, a2, a3, a4] M (fun r1 M1 => wp scr n mb_186 58 L (r1.toList ++ st) M1 Q)) := wp_vir rfl rfl rfl rfl rfl
theorem u186_58 : wp scr n mb_186 58 L [] M Q ↔ Q none M := wp_ret rfl rfl
theorem e186 : Wp scr (n + 1) 186 [.ref a0, .int x1, .int x2, .int x3] M Q ↔ wp scr n mb_186 0 [some (.ref a0), some (.int x1), some (.int x2), some (.int x3)] [] M Q := Wp_to rfl rfl rfl
/-- SmallerInTheShopModel seeks (III)V -/
def mb_187 : mw_B := ((Option.none : Option FieldType), mp_187)
theorem u187_0 : wp scr n mb_187 0 [some (.ref a), l1, l2, l3, l4, l5, l6] st M Q ↔ wp scr n mb_187 1 [some (.ref a), l1, l2, l3, l4, l5, l6] (.ref a :: st) M Q := wp_step rfl rfl rfl rfl rfl
theorem u187_1 : wp scr n mb_187 1 [some (.ref a), l1, l2, l3, l4, l5, l6] st M Q ↔ wp scr n mb_187 2 [some (.ref a), l1, l2, l3, l4, l5, l6] (.ref a :: st) M Q := wp_step rfl rfl rfl rfl rfl
theorem u187_2 : wp scr n mb_187 2 L (o :: st) M Q ↔ mw_o (mm_fld (mc_X scr) M o 6 2) (fun v => wp scr n mb_187 5 L (v :: st) M Q) := wp_getf rfl
theorem u187_5 : wp scr n mb_187 5 [l0, some (.int x), l2, l3, l4, l5, l6] st M Q ↔ wp scr n mb_187 6 [l0, some (.int x), l2, l3, l4, l5, l6] (.int x :: st) M Q := wp_step rfl rfl rfl rfl rfl
theorem u187_6 : wp scr n mb_187 6 L (.int y :: .ref a :: st) M Q ↔ mw_o (mm_lda M a y) (fun v => wp scr n mb_187 7 L (v :: st) M Q) := wp_aald rfl
theorem u187_7 : wp scr n mb_187 7 [l0, some (.int x), l2, l3, l4, l5, l6] st M Q ↔ wp scr n mb_187 8 [l0, some (.int x), l2, l3, l4, l5, l6] (.int x :: st) M Q := wp_step rfl rfl rfl rfl rfl
theorem u187_8 : wp scr n mb_187 8 [l0, l1, some (.int x), l3, l4, l5, l6] st M Q ↔ wp scr n mb_187 9 [l0, l1, some (.int x), l3, l4, l5, l6] (.int x :: st) M Q := wp_step rfl rfl rfl rfl rfl
theorem u187_9 : wp scr n mb_187 9 [l0, l1, l2, some (.int x), l4, l5, l6] st M Q ↔ wp scr n mb_187 10 [l0, l1, l2, some (.int x), l4, l5, l6] (.int x :: st) M Q := wp_step rfl rfl rfl rfl rfl
theorem u187_10 : wp scr n mb_187 10 L (a5 :: a4 :: a3 :: a2 :: .ref a :: st) M Q ↔ ((mw_r M a 6 ∧ mw_st st) ∧ Wp scr n 188 [.ref a, a2, a3, a4, a5] M (fun r1 M1 => wp scr n mb_187 13 L (r1.toList ++ st) M1 Q)) := wp_vir rfl rfl rfl rfl rfl
theorem u187_13 : wp scr n mb_187 13 L st M Q ↔ wp scr n mb_187 14 L (.int 1 :: st) M Q := wp_step rfl rfl rfl rfl rfl
theorem u187_14 : wp scr n mb_187 14 [l0, l1, l2, l3, l4, l5, l6] (.int x :: st) M Q ↔ wp scr n mb_187 16 (mm_sto1 [l0, l1, l2, l3, l4, l5, l6] 4 (.int x)) st M Q := wp_step rfl rfl rfl rfl rfl
theorem u187_16 : wp scr n mb_187 16 [l0, l1, l2, l3, some (.int x), l5, l6] st M Q ↔ wp scr n mb_187 18 [l0, l1, l2, l3, some (.int x), l5, l6] (.int x :: st) M Q := wp_step rfl rfl rfl rfl rfl
theorem u187_18 : wp scr n mb_187 18 L st M Q ↔ wp scr n mb_187 19 L (.int 5 :: st) M Q := wp_step rfl rfl rfl rfl rfl
theorem u187_19 : wp scr n mb_187 19 L (.int y :: .int x :: st) M Q ↔ (if y ≤ x then wp scr n mb_187 116 L st M Q else wp scr n mb_187 22 L st M Q) := (wp_step rfl rfl rfl rfl rfl).trans wp_ite
theorem u187_22 : wp scr n mb_187 22 L st M Q ↔ wp scr n mb_187 23 L (.int 0 :: st) M Q := wp_step rfl rfl rfl rfl rfl
theorem u187_23 : wp scr n mb_187 23 [l0, l1, l2, l3, l4, l5, l6] (.int x :: st) M Q ↔ wp scr n mb_187 25 (mm_sto1 [l0, l1, l2, l3, l4, l5, l6] 5 (.int x)) st M Q := wp_step rfl rfl rfl rfl rfl
theorem u187_25 : wp scr n mb_187 25 [l0, l1, l2, l3, l4, some (.int x), l6] st M Q ↔ wp scr n mb_187 27 [l0, l1, l2, l3, l4, some (.int x), l6] (.int x :: st) M Q := wp_step rfl rfl rfl rfl rfl
theorem u187_27 : wp scr n mb_187 27 L st M Q ↔ wp scr n mb_187 28 L (.int 4 :: st) M Q := wp_step rfl rfl rfl rfl rfl
theorem u187_28 : wp scr n mb_187 28 L (.int y :: .int x :: st) M Q ↔ (if y ≤ x then wp scr n mb_187 110 L st M Q else wp scr n mb_187 31 L st M Q) := (wp_step rfl rfl rfl rfl rfl).trans wp_ite
theorem u187_31 : wp scr n mb_187 31 [some (.ref a), l1, l2, l3, l4, l5, l6] st M Q ↔ wp scr n mb_187 32 [some (.ref a), l1, l2, l3, l4, l5, l6] (.ref a :: st) M Q := wp_step rfl rfl rfl rfl rfl
theorem u187_32 : wp scr n mb_187 32 L (o :: st) M Q ↔ mw_o (mm_fld (mc_X scr) M o 6 2) (fun v => wp scr n mb_187 35 L (v :: st) M Q) := wp_getf rfl
theorem u187_35 : wp scr n mb_187 35 [l0, some (.int x), l2, l3, l4, l5, l6] st M Q ↔ wp scr n mb_187 36 [l0, some (.int x), l2, l3, l4, l5, l6] (.int x :: st) M Q := wp_step rfl rfl rfl rfl rfl
theorem u187_36 : wp scr n mb_187 36 L (.int y :: .ref a :: st) M Q ↔ mw_o (mm_lda M a y) (fun v => wp scr n mb_187 37 L (v :: st) M Q) := wp_aald rfl
theorem u187_37 : wp scr n mb_187 37 [l0, l1, l2, l3, some (.int x), l5, l6] st M Q ↔ wp scr n mb_187 39 [l0, l1, l2, l3, some (.int x), l5, l6] (.int x :: st) M Q := wp_step rfl rfl rfl rfl rfl
theorem u187_39 : wp scr n mb_187 39 L (a2 :: a1 :: st) M Q ↔ (mw_st st ∧ Wp scr n 150 [a1, a2] M (fun r1 M1 => wp scr n mb_187 42 L (r1.toList ++ st) M1 Q)) := wp_sta rfl rfl rfl rfl
theorem u187_42 : wp scr n mb_187 42 L (.int x :: st) M Q ↔ (if x = 0 then wp scr n mb_187 110 L st M Q else wp scr n mb_187 45 L st M Q) := (wp_step rfl rfl rfl rfl rfl).trans wp_ite
theorem u187_45 : wp scr n mb_187 45 [some (.ref a), l1, l2, l3, l4, l5, l6] st M Q ↔ wp scr n mb_187 46 [some (.ref a), l1, l2, l3, l4, l5, l6] (.ref a :: st) M Q := wp_step rfl rfl rfl rfl rfl
theorem u187_46 : wp scr n mb_187 46 L (o :: st) M Q ↔ mw_o (mm_fld (mc_X scr) M o 6 2) (fun v => wp scr n mb_187 49 L (v :: st) M Q) := wp_getf rfl
theorem u187_49 : wp scr n mb_187 49 [l0, some (.int x), l2, l3, l4, l5, l6] st M Q ↔ wp scr n mb_187 50 [l0, some (.int x), l2, l3, l4, l5, l6] (.int x :: st) M Q := wp_step rfl rfl rfl rfl rfl
theorem u187_50 : wp scr n mb_187 50 L (.int y :: .ref a :: st) M Q ↔ mw_o (mm_lda M a y) (fun v => wp scr n mb_187 51 L (v :: st) M Q) := wp_aald rfl
theorem u187_51 : wp scr n mb_187 51 [some (.ref a), l1, l2, l3, l4, l5, l6] st M Q ↔ wp scr n mb_187 52 [some (.ref a), l1, l2, l3, l4, l5, l6] (.ref a :: st) M Q := wp_step rfl rfl rfl rfl rfl
theorem u187_52 : wp scr n mb_187 52 L (o :: st) M Q ↔ mw_o (mm_fld (mc_X scr) M o 6 2) (fun v => wp scr n mb_187 55 L (v :: st) M Q) := wp_getf rfl
theorem u187_55 : wp scr n mb_187 55 [l0, some (.int x), l2, l3, l4, l5, l6] st M Q ↔ wp scr n mb_187 56 [l0, some (.int x), l2, l3, l4, l5, l6] (.int x :: st) M Q := wp_step rfl rfl rfl rfl rfl
theorem u187_56 : wp scr n mb_187 56 L st M Q ↔ wp scr n mb_187 57 L (.int 1 :: st) M Q := wp_step rfl rfl rfl rfl rfl
theorem u187_57 : wp scr n mb_187 57 L (.int y :: .int x :: st) M Q ↔ wp scr n mb_187 58 L (.int (x + y) :: st) M Q := wp_step rfl rfl rfl rfl rfl
theorem u187_58 : wp scr n mb_187 58 L (.int y :: .ref a :: st) M Q ↔ mw_o (mm_lda M a y) (fun v => wp scr n mb_187 59 L (v :: st) M Q) := wp_aald rfl
theorem u187_59 : wp scr n mb_187 59 L (a2 :: a1 :: st) M Q ↔ (mw_st st ∧ Wp scr n 147 [a1, a2] M (fun r1 M1 => wp scr n mb_187 62 L (r1.toList ++ st) M1 Q)) := wp_sta rfl rfl rfl rfl
theorem u187_62 : wp scr n mb_187 62 [some (.ref a), l1, l2, l3, l4, l5, l6] st M Q ↔ wp scr n mb_187 63 [some (.ref a), l1, l2, l3, l4, l5, l6] (.ref a :: st) M Q := wp_step rfl rfl rfl rfl rfl
theorem u187_63 : wp scr n mb_187 63 [some (.ref a), l1, l2, l3, l4, l5, l6] st M Q ↔ wp scr n mb_187 64 [some (.ref a), l1, l2, l3, l4, l5, l6] (.ref a :: st) M Q := wp_step rfl rfl rfl rfl rfl
theorem u187_64 : wp scr n mb_187 64 L (o :: st) M Q ↔ mw_o (mm_fld (mc_X scr) M o 6 2) (fun v => wp scr n mb_187 67 L (v :: st) M Q) := wp_getf rfl
theorem u187_67 : wp scr n mb_187 67 [l0, some (.int x), l2, l3, l4, l5, l6] st M Q ↔ wp scr n mb_187 68 [l0, some (.int x), l2, l3, l4, l5, l6] (.int x :: st) M Q := wp_step rfl rfl rfl rfl rfl
theorem u187_68 : wp scr n mb_187 68 L st M Q ↔ wp scr n mb_187 69 L (.int 1 :: st) M Q := wp_step rfl rfl rfl rfl rfl
theorem u187_69 : wp scr n mb_187 69 L (.int y :: .int x :: st) M Q ↔ wp scr n mb_187 70 L (.int (x + y) :: st) M Q := wp_step rfl rfl rfl rfl rfl
theorem u187_70 : wp scr n mb_187 70 L (.int y :: .ref a :: st) M Q ↔ mw_o (mm_lda M a y) (fun v => wp scr n mb_187 71 L (v :: st) M Q) := wp_aald rfl
theorem u187_71 : wp scr n mb_187 71 [l0, l1, l2, l3, some (.int x), l5, l6] st M Q ↔ wp scr n mb_187 73 [l0, l1, l2, l3, some (.int x), l5, l6] (.int x :: st) M Q := wp_step rfl rfl rfl rfl rfl
theorem u187_73 : wp scr n mb_187 73 [l0, l1, l2, l3, l4, some (.int x), l6] st M Q ↔ wp scr n mb_187 75 [l0, l1, l2, l3, l4, some (.int x), l6] (.int x :: st) M Q := wp_step rfl rfl rfl rfl rfl
theorem u187_75 : wp scr n mb_187 75 L (a4 :: a3 :: a2 :: .ref a :: st) M Q ↔ ((mw_r M a 6 ∧ mw_st st) ∧ Wp scr n 152 [.ref a, a2, a3, a4] M (fun r1 M1 => wp scr n mb_187 78 L (r1.toList ++ st) M1 Q)) := wp_vir rfl rfl rfl rfl rfl
theorem u187_78 : wp scr n mb_187 78 [l0, l1, l2, l3, l4, l5, l6] (.int x :: st) M Q ↔ wp scr n mb_187 80 (mm_sto1 [l0, l1, l2, l3, l4, l5, l6] 6 (.int x)) st M Q := wp_step rfl rfl rfl rfl rfl
theorem u187_80 : wp scr n mb_187 80 [some (.ref a), l1, l2, l3, l4, l5, l6] st M Q ↔ wp scr n mb_187 81 [some (.ref a), l1, l2, l3, l4, l5, l6] (.ref a :: st) M Q := wp_step rfl rfl rfl rfl rfl
theorem u187_81 : wp scr n mb_187 81 [l0, some (.int x), l2, l3, l4, l5, l6] st M Q ↔ wp scr n mb_187 82 [l0, some (.int x), l2, l3, l4, l5, l6] (.int x :: st) M Q := wp_step rfl rfl rfl rfl rfl
theorem u187_82 : wp scr n mb_187 82 L st M Q ↔ wp scr n mb_187 83 L (.int 1 :: st) M Q := wp_step rfl rfl rfl rfl rfl
theorem u187_83 : wp scr n mb_187 83 L (.int y :: .int x :: st) M Q ↔ wp scr n mb_187 84 L (.int (x + y) :: st) M Q := wp_step rfl rfl rfl rfl rfl
theorem u187_84 : wp scr n mb_187 84 L st M Q ↔ wp scr n mb_187 86 L (.int 100 :: st) M Q := wp_step rfl rfl rfl rfl rfl
theorem u187_86 : wp scr n mb_187 86 [l0, l1, some (.int x), l3, l4, l5, l6] st M Q ↔ wp scr n mb_187 87 [l0, l1, some (.int x), l3, l4, l5, l6] (.int x :: st) M Q := wp_step rfl rfl rfl rfl rfl
theorem u187_87 : wp scr n mb_187 87 L (.int y :: .int x :: st) M Q ↔ wp scr n mb_187 88 L (.int (x * y) :: st) M Q := wp_step rfl rfl rfl rfl rfl
theorem u187_88 : wp scr n mb_187 88 L st M Q ↔ wp scr n mb_187 90 L (.int 10 :: st) M Q := wp_step rfl rfl rfl rfl rfl
theorem u187_90 : wp scr n mb_187 90 [l0, l1, l2, l3, some (.int x), l5, l6] st M Q ↔ wp scr n mb_187 92 [l0, l1, l2, l3, some (.int x), l5, l6] (.int x :: st) M Q := wp_step rfl rfl rfl rfl rfl
theorem u187_92 : wp scr n mb_187 92 L (.int y :: .int x :: st) M Q ↔ wp scr n mb_187 93 L (.int (x * y) :: st) M Q := wp_step rfl rfl rfl rfl rfl
theorem u187_93 : wp scr n mb_187 93 L (.int y :: .int x :: st) M Q ↔ wp scr n mb_187 94 L (.int (x + y) :: st) M Q := wp_step rfl rfl rfl rfl rfl
theorem u187_94 : wp scr n mb_187 94 [l0, l1, l2, l3, l4, some (.int x), l6] st M Q ↔ wp scr n mb_187 96 [l0, l1, l2, l3, l4, some (.int x), l6] (.int x :: st) M Q := wp_step rfl rfl rfl rfl rfl
theorem u187_96 : wp scr n mb_187 96 L (.int y :: .int x :: st) M Q ↔ wp scr n mb_187 97 L (.int (x + y) :: st) M Q := wp_step rfl rfl rfl rfl rfl
theorem u187_97 : wp scr n mb_187 97 [l0, l1, l2, some (.int x), l4, l5, l6] st M Q ↔ wp scr n mb_187 98 [l0, l1, l2, some (.int x), l4, l5, l6] (.int x :: st) M Q := wp_step rfl rfl rfl rfl rfl
theorem u187_98 : wp scr n mb_187 98 [l0, l1, l2, l3, l4, l5, some (.int x)] st M Q ↔ wp scr n mb_187 100 [l0, l1, l2, l3, l4, l5, some (.int x)] (.int x :: st) M Q := wp_step rfl rfl rfl rfl rfl
theorem u187_100 : wp scr n mb_187 100 L (.int y :: .int x :: st) M Q ↔ wp scr n mb_187 101 L (.int (x + y) :: st) M Q := wp_step rfl rfl rfl rfl rfl
theorem u187_101 : wp scr n mb_187 101 L (a4 :: a3 :: a2 :: .ref a :: st) M Q ↔ ((mw_r M a 6 ∧ mw_st st) ∧ Wp scr n 187 [.ref a, a2, a3, a4] M (fun r1 M1 => wp scr n mb_187 104 L (r1.toList ++ st) M1 Q)) := wp_vir rfl rfl rfl rfl rfl
theorem u187_104 : wp scr n mb_187 104 [l0, l1, l2, l3, l4, some (.int x), l6] st M Q ↔ wp scr n mb_187 107 (mm_sto1 [l0, l1, l2, l3, l4, some (.int x), l6] 5 (.int (x + 1))) st M Q := wp_step rfl rfl rfl rfl rfl
theorem u187_107 : wp scr n mb_187 107 L st M Q ↔ wp scr n mb_187 25 L st M Q := wp_step rfl rfl rfl rfl rfl
theorem u187_110 : wp scr n mb_187 110 [l0, l1, l2, l3, some (.int x), l5, l6] st M Q ↔ wp scr n mb_187 113 (mm_sto1 [l0, l1, l2, l3, some (.int x), l5, l6] 4 (.int (x + 1))) st M Q := wp_step rfl rfl rfl rfl rfl
theorem u187_113 : wp scr n mb_187 113 L st M Q ↔ wp scr n mb_187 16 L st M Q := wp_step rfl rfl rfl rfl rfl
theorem u187_116 : wp scr n mb_187 116 L [] M Q ↔ Q none M := wp_ret rfl rfl
theorem e187 : Wp scr (n + 1) 187 [.ref a0, .int x1, .int x2, .int x3] M Q ↔ wp scr n mb_187 0 [some (.ref a0), some (.int x1), some (.int x2), some (.int x3), none, none, none] [] M Q := Wp_to rfl rfl rfl
/-- SmallerInTheShopModel meets ([IIII)V -/
def mb_188 : mw_B := ((Option.none : Option FieldType), mp_188)
theorem u188_0 : wp scr n mb_188 0 [l0, some (.ref a), l2, l3, l4, l5] st M Q ↔ wp scr n mb_188 1 [l0, some (.ref a), l2, l3, l4, l5] (.ref a :: st) M Q := wp_step rfl rfl rfl rfl rfl
theorem u188_1 : wp scr n mb_188 1 L st M Q ↔ wp scr n mb_188 2 L (.int 0 :: st) M Q := wp_step rfl rfl rfl rfl rfl
theorem u188_2 : wp scr n mb_188 2 L (a2 :: a1 :: st) M Q ↔ (mw_st st ∧ Wp scr n 151 [a1, a2] M (fun r1 M1 => wp scr n mb_188 5 L (r1.toList ++ st) M1 Q)) := wp_sta rfl rfl rfl rfl
theorem u188_5 : wp scr n mb_188 5 [l0, some (.ref a), l2, l3, l4, l5] st M Q ↔ wp scr n mb_188 6 [l0, some (.ref a), l2, l3, l4, l5] (.ref a :: st) M Q := wp_step rfl rfl rfl rfl rfl
theorem u188_6 : wp scr n mb_188 6 L st M Q ↔ wp scr n mb_188 7 L (.int 1 :: st) M Q := wp_step rfl rfl rfl rfl rfl
theorem u188_7 : wp scr n mb_188 7 L (a2 :: a1 :: st) M Q ↔ (mw_st st ∧ Wp scr n 151 [a1, a2] M (fun r1 M1 => wp scr n mb_188 10 L (r1.toList ++ st) M1 Q)) := wp_sta rfl rfl rfl rfl
theorem u188_10 : wp scr n mb_188 10 L (.int y :: .int x :: st) M Q ↔ wp scr n mb_188 11 L (.int (x * y) :: st) M Q := wp_step rfl rfl rfl rfl rfl
theorem u188_11 : wp scr n mb_188 11 [some (.ref a), l1, l2, l3, l4, l5] st M Q ↔ wp scr n mb_188 12 [some (.ref a), l1, l2, l3, l4, l5] (.ref a :: st) M Q := wp_step rfl rfl rfl rfl rfl
theorem u188_12 : wp scr n mb_188 12 L (o :: st) M Q ↔ mw_o (mm_fld (mc_X scr) M o 6 13) (fun v => wp scr n mb_188 15 L (v :: st) M Q) := wp_getf rfl
theorem u188_15 : wp scr n mb_188 15 L (.int y :: .int x :: st) M Q ↔ (if y < x then wp scr n mb_188 22 L st M Q else wp scr n mb_188 18 L st M Q) := (wp_step rfl rfl rfl rfl rfl).trans wp_ite
theorem u188_18 : wp scr n mb_188 18 L st M Q ↔ wp scr n mb_188 19 L (.int 1 :: st) M Q := wp_step rfl rfl rfl rfl rfl
theorem u188_19 : wp scr n mb_188 19 L st M Q ↔ wp scr n mb_188 23 L st M Q := wp_step rfl rfl rfl rfl rfl
theorem u188_22 : wp scr n mb_188 22 L st M Q ↔ wp scr n mb_188 23 L (.int 0 :: st) M Q := wp_step rfl rfl rfl rfl rfl
theorem u188_23 : wp scr n mb_188 23 [l0, l1, l2, l3, l4, l5] (.int x :: st) M Q ↔ wp scr n mb_188 25 (mm_sto1 [l0, l1, l2, l3, l4, l5] 5 (.int x)) st M Q := wp_step rfl rfl rfl rfl rfl
theorem u188_25 : wp scr n mb_188 25 [some (.ref a), l1, l2, l3, l4, l5] st M Q ↔ wp scr n mb_188 26 [some (.ref a), l1, l2, l3, l4, l5] (.ref a :: st) M Q := wp_step rfl rfl rfl rfl rfl
theorem u188_26 : wp scr n mb_188 26 L (o :: st) M Q ↔ mw_o (mm_fld (mc_X scr) M o 6 11) (fun v => wp scr n mb_188 29 L (v :: st) M Q) := wp_getf rfl
theorem u188_29 : wp scr n mb_188 29 L (.int x :: st) M Q ↔ (if x = 0 then wp scr n mb_188 32 L st M Q else wp scr n mb_188 81 L st M Q) := (wp_step rfl rfl rfl rfl rfl).trans wp_iten
theorem u188_32 : wp scr n mb_188 32 [l0, some (.ref a), l2, l3, l4, l5] st M Q ↔ wp scr n mb_188 33 [l0, some (.ref a), l2, l3, l4, l5] (.ref a :: st) M Q := wp_step rfl rfl rfl rfl rfl
theorem u188_33 : wp scr n mb_188 33 L (a1 :: st) M Q ↔ (mw_st st ∧ Wp scr n 189 [a1] M (fun r1 M1 => wp scr n mb_188 36 L (r1.toList ++ st) M1 Q)) := wp_sta rfl rfl rfl rfl
theorem u188_36 : wp scr n mb_188 36 L (.int x :: st) M Q ↔ (if x = 0 then wp scr n mb_188 81 L st M Q else wp scr n mb_188 39 L st M Q) := (wp_step rfl rfl rfl rfl rfl).trans wp_ite
theorem u188_39 : wp scr n mb_188 39 [l0, some (.ref a), l2, l3, l4, l5] st M Q ↔ wp scr n mb_188 40 [l0, some (.ref a), l2, l3, l4, l5] (.ref a :: st) M Q := wp_step rfl rfl rfl rfl rfl
theorem u188_40 : wp scr n mb_188 40 L (a1 :: st) M Q ↔ (mw_st st ∧ Wp scr n 183 [a1] M (fun r1 M1 => wp scr n mb_188 43 L (r1.toList ++ st) M1 Q)) := wp_sta rfl rfl rfl rfl
theorem u188_43 : wp scr n mb_188 43 L (.int x :: st) M Q ↔ (if x = 0 then wp scr n mb_188 81 L st M Q else wp scr n mb_188 46 L st M Q) := (wp_step rfl rfl rfl rfl rfl).trans wp_ite
theorem u188_46 : wp scr n mb_188 46 [some (.ref a), l1, l2, l3, l4, l5] st M Q ↔ wp scr n mb_188 47 [some (.ref a), l1, l2, l3, l4, l5] (.ref a :: st) M Q := wp_step rfl rfl rfl rfl rfl
theorem u188_47 : wp scr n mb_188 47 [l0, l1, l2, some (.int x), l4, l5] st M Q ↔ wp scr n mb_188 48 [l0, l1, l2, some (.int x), l4, l5] (.int x :: st) M Q := wp_step rfl rfl rfl rfl rfl
theorem u188_48 : wp scr n mb_188 48 [l0, l1, l2, l3, some (.int x), l5] st M Q ↔ wp scr n mb_188 50 [l0, l1, l2, l3, some (.int x), l5] (.int x :: st) M Q := wp_step rfl rfl rfl rfl rfl
theorem u188_50 : wp scr n mb_188 50 L (a3 :: a2 :: .ref a :: st) M Q ↔ ((mw_r M a 6 ∧ mw_st st) ∧ Wp scr n 190 [.ref a, a2, a3] M (fun r1 M1 => wp scr n mb_188 53 L (r1.toList ++ st) M1 Q)) := wp_vir rfl rfl rfl rfl rfl
theorem u188_53 : wp scr n mb_188 53 [some (.ref a), l1, l2, l3, l4, l5] st M Q ↔ wp scr n mb_188 54 [some (.ref a), l1, l2, l3, l4, l5] (.ref a :: st) M Q := wp_step rfl rfl rfl rfl rfl
theorem u188_54 : wp scr n mb_188 54 [some (.ref a), l1, l2, l3, l4, l5] st M Q ↔ wp scr n mb_188 55 [some (.ref a), l1, l2, l3, l4, l5] (.ref a :: st) M Q := wp_step rfl rfl rfl rfl rfl
theorem u188_55 : wp scr n mb_188 55 L (o :: st) M Q ↔ mw_o (mm_fld (mc_X scr) M o 6 16) (fun v => wp scr n mb_188 58 L (v :: st) M Q) := wp_getf rfl
theorem u188_58 : wp scr n mb_188 58 L st M Q ↔ wp scr n mb_188 60 L (.int (-9) :: st) M Q := wp_step rfl rfl rfl rfl rfl
theorem u188_60 : wp scr n mb_188 60 L (.int y :: .int x :: st) M Q ↔ (if x = y then wp scr n mb_188 63 L st M Q else wp scr n mb_188 67 L st M Q) := (wp_step rfl rfl rfl rfl rfl).trans wp_iten
theorem u188_63 : wp scr n mb_188 63 [l0, l1, some (.int x), l3, l4, l5] st M Q ↔ wp scr n mb_188 64 [l0, l1, some (.int x), l3, l4, l5] (.int x :: st) M Q := wp_step rfl rfl rfl rfl rfl
theorem u188_64 : wp scr n mb_188 64 L st M Q ↔ wp scr n mb_188 75 L st M Q := wp_step rfl rfl rfl rfl rfl
theorem u188_67 : wp scr n mb_188 67 [some (.ref a), l1, l2, l3, l4, l5] st M Q ↔ wp scr n mb_188 68 [some (.ref a), l1, l2, l3, l4, l5] (.ref a :: st) M Q := wp_step rfl rfl rfl rfl rfl
theorem u188_68 : wp scr n mb_188 68 L (o :: st) M Q ↔ mw_o (mm_fld (mc_X scr) M o 6 16) (fun v => wp scr n mb_188 71 L (v :: st) M Q) := wp_getf rfl
theorem u188_71 : wp scr n mb_188 71 [l0, l1, some (.int x), l3, l4, l5] st M Q ↔ wp scr n mb_188 72 [l0, l1, some (.int x), l3, l4, l5] (.int x :: st) M Q := wp_step rfl rfl rfl rfl rfl
theorem u188_72 : wp scr n mb_188 72 L (.int y :: .int x :: st) M Q ↔ (mw_st st ∧ wp scr n mb_188 75 L (.int (if y < x then y else x) :: st) M Q) := wp_math998 rfl
theorem u188_75 : wp scr n mb_188 75 L (v :: o :: st) M Q ↔ mw_o (mm_put mc_fty M o v 6 16) (fun M1 => wp scr n mb_188 78 L st M1 Q) := wp_putf rfl
theorem u188_78 : wp scr n mb_188 78 L st M Q ↔ wp scr n mb_188 220 L st M Q := wp_step rfl rfl rfl rfl rfl
theorem u188_81 : wp scr n mb_188 81 [some (.ref a), l1, l2, l3, l4, l5] st M Q ↔ wp scr n mb_188 82 [some (.ref a), l1, l2, l3, l4, l5] (.ref a :: st) M Q := wp_step rfl rfl rfl rfl rfl
theorem u188_82 : wp scr n mb_188 82 L (o :: st) M Q ↔ mw_o (mm_fld (mc_X scr) M o 6 11) (fun v => wp scr n mb_188 85 L (v :: st) M Q) := wp_getf rfl
theorem u188_85 : wp scr n mb_188 85 L st M Q ↔ wp scr n mb_188 86 L (.int 1 :: st) M Q := wp_step rfl rfl rfl rfl rfl
theorem u188_86 : wp scr n mb_188 86 L (.int y :: .int x :: st) M Q ↔ (if x = y then wp scr n mb_188 89 L st M Q else wp scr n mb_188 124 L st M Q) := (wp_step rfl rfl rfl rfl rfl).trans wp_iten
theorem u188_89 : wp scr n mb_188 89 [l0, l1, some (.int x), l3, l4, l5] st M Q ↔ wp scr n mb_188 90 [l0, l1, some (.int x), l3, l4, l5] (.int x :: st) M Q := wp_step rfl rfl rfl rfl rfl
theorem u188_90 : wp scr n mb_188 90 [some (.ref a), l1, l2, l3, l4, l5] st M Q ↔ wp scr n mb_188 91 [some (.ref a), l1, l2, l3, l4, l5] (.ref a :: st) M Q := wp_step rfl rfl rfl rfl rfl
theorem u188_91 : wp scr n mb_188 91 L (o :: st) M Q ↔ mw_o (mm_fld (mc_X scr) M o 6 12) (fun v => wp scr n mb_188 94 L (v :: st) M Q) := wp_getf rfl
theorem u188_94 : wp scr n mb_188 94 L (.int y :: .int x :: st) M Q ↔ (if x = y then wp scr n mb_188 97 L st M Q else wp scr n mb_188 124 L st M Q) := (wp_step rfl rfl rfl rfl rfl).trans wp_iten
theorem u188_97 : wp scr n mb_188 97 [l0, some (.ref a), l2, l3, l4, l5] st M Q ↔ wp scr n mb_188 98 [l0, some (.ref a), l2, l3, l4, l5] (.ref a :: st) M Q := wp_step rfl rfl rfl rfl rfl
theorem u188_98 : wp scr n mb_188 98 L (a1 :: st) M Q ↔ (mw_st st ∧ Wp scr n 189 [a1] M (fun r1 M1 => wp scr n mb_188 101 L (r1.toList ++ st) M1 Q)) := wp_sta rfl rfl rfl rfl
theorem u188_101 : wp scr n mb_188 101 L (.int x :: st) M Q ↔ (if x = 0 then wp scr n mb_188 124 L st M Q else wp scr n mb_188 104 L st M Q) := (wp_step rfl rfl rfl rfl rfl).trans wp_ite
theorem u188_104 : wp scr n mb_188 104 [l0, some (.ref a), l2, l3, l4, l5] st M Q ↔ wp scr n mb_188 105 [l0, some (.ref a), l2, l3, l4, l5] (.ref a :: st) M Q := wp_step rfl rfl rfl rfl rfl
theorem u188_105 : wp scr n mb_188 105 L (a1 :: st) M Q ↔ (mw_st st ∧ Wp scr n 183 [a1] M (fun r1 M1 => wp scr n mb_188 108 L (r1.toList ++ st) M1 Q)) := wp_sta rfl rfl rfl rfl
theorem u188_108 : wp scr n mb_188 108 L (.int x :: st) M Q ↔ (if x = 0 then wp scr n mb_188 124 L st M Q else wp scr n mb_188 111 L st M Q) := (wp_step rfl rfl rfl rfl rfl).trans wp_ite
theorem u188_111 : wp scr n mb_188 111 [some (.ref a), l1, l2, l3, l4, l5] st M Q ↔ wp scr n mb_188 112 [some (.ref a), l1, l2, l3, l4, l5] (.ref a :: st) M Q := wp_step rfl rfl rfl rfl rfl
theorem u188_112 : wp scr n mb_188 112 L (.ref a :: st) M Q ↔ wp scr n mb_188 113 L (.ref a :: .ref a :: st) M Q := wp_step rfl rfl rfl rfl rfl
theorem u188_113 : wp scr n mb_188 113 L (o :: st) M Q ↔ mw_o (mm_fld (mc_X scr) M o 6 17) (fun v => wp scr n mb_188 116 L (v :: st) M Q) := wp_getf rfl
theorem u188_116 : wp scr n mb_188 116 L st M Q ↔ wp scr n mb_188 117 L (.int 1 :: st) M Q := wp_step rfl rfl rfl rfl rfl
theorem u188_117 : wp scr n mb_188 117 L (.int y :: .int x :: st) M Q ↔ wp scr n mb_188 118 L (.int (x + y) :: st) M Q := wp_step rfl rfl rfl rfl rfl
theorem u188_118 : wp scr n mb_188 118 L (v :: o :: st) M Q ↔ mw_o (mm_put mc_fty M o v 6 17) (fun M1 => wp scr n mb_188 121 L st M1 Q) := wp_putf rfl
theorem u188_121 : wp scr n mb_188 121 L st M Q ↔ wp scr n mb_188 220 L st M Q := wp_step rfl rfl rfl rfl rfl
theorem u188_124 : wp scr n mb_188 124 [some (.ref a), l1, l2, l3, l4, l5] st M Q ↔ wp scr n mb_188 125 [some (.ref a), l1, l2, l3, l4, l5] (.ref a :: st) M Q := wp_step rfl rfl rfl rfl rfl
theorem u188_125 : wp scr n mb_188 125 L (o :: st) M Q ↔ mw_o (mm_fld (mc_X scr) M o 6 11) (fun v => wp scr n mb_188 128 L (v :: st) M Q) := wp_getf rfl
theorem u188_128 : wp scr n mb_188 128 L st M Q ↔ wp scr n mb_188 129 L (.int 2 :: st) M Q := wp_step rfl rfl rfl rfl rfl
theorem u188_129 : wp scr n mb_188 129 L (.int y :: .int x :: st) M Q ↔ (if x = y then wp scr n mb_188 132 L st M Q else wp scr n mb_188 163 L st M Q) := (wp_step rfl rfl rfl rfl rfl).trans wp_iten
theorem u188_132 : wp scr n mb_188 132 [l0, l1, l2, l3, l4, some (.int x)] st M Q ↔ wp scr n mb_188 134 [l0, l1, l2, l3, l4, some (.int x)] (.int x :: st) M Q := wp_step rfl rfl rfl rfl rfl
theorem u188_134 : wp scr n mb_188 134 L (.int x :: st) M Q ↔ (if x = 0 then wp scr n mb_188 163 L st M Q else wp scr n mb_188 137 L st M Q) := (wp_step rfl rfl rfl rfl rfl).trans wp_ite
theorem u188_137 : wp scr n mb_188 137 [l0, some (.ref a), l2, l3, l4, l5] st M Q ↔ wp scr n mb_188 138 [l0, some (.ref a), l2, l3, l4, l5] (.ref a :: st) M Q := wp_step rfl rfl rfl rfl rfl
theorem u188_138 : wp scr n mb_188 138 L (a1 :: st) M Q ↔ (mw_st st ∧ Wp scr n 182 [a1] M (fun r1 M1 => wp scr n mb_188 141 L (r1.toList ++ st) M1 Q)) := wp_sta rfl rfl rfl rfl
theorem u188_141 : wp scr n mb_188 141 [some (.ref a), l1, l2, l3, l4, l5] st M Q ↔ wp scr n mb_188 142 [some (.ref a), l1, l2, l3, l4, l5] (.ref a :: st) M Q := wp_step rfl rfl rfl rfl rfl
theorem u188_142 : wp scr n mb_188 142 L (o :: st) M Q ↔ mw_o (mm_fld (mc_X scr) M o 6 12) (fun v => wp scr n mb_188 145 L (v :: st) M Q) := wp_getf rfl
theorem u188_145 : wp scr n mb_188 145 L (.int y :: .int x :: st) M Q ↔ wp scr n mb_188 146 L (.int (x &&& y) :: st) M Q := wp_step rfl rfl rfl rfl rfl
theorem u188_146 : wp scr n mb_188 146 [some (.ref a), l1, l2, l3, l4, l5] st M Q ↔ wp scr n mb_188 147 [some (.ref a), l1, l2, l3, l4, l5] (.ref a :: st) M Q := wp_step rfl rfl rfl rfl rfl
theorem u188_147 : wp scr n mb_188 147 L (o :: st) M Q ↔ mw_o (mm_fld (mc_X scr) M o 6 12) (fun v => wp scr n mb_188 150 L (v :: st) M Q) := wp_getf rfl
theorem u188_150 : wp scr n mb_188 150 L (.int y :: .int x :: st) M Q ↔ (if x = y then wp scr n mb_188 153 L st M Q else wp scr n mb_188 163 L st M Q) := (wp_step rfl rfl rfl rfl rfl).trans wp_iten
theorem u188_153 : wp scr n mb_188 153 [some (.ref a), l1, l2, l3, l4, l5] st M Q ↔ wp scr n mb_188 154 [some (.ref a), l1, l2, l3, l4, l5] (.ref a :: st) M Q := wp_step rfl rfl rfl rfl rfl
theorem u188_154 : wp scr n mb_188 154 [l0, l1, l2, some (.int x), l4, l5] st M Q ↔ wp scr n mb_188 155 [l0, l1, l2, some (.int x), l4, l5] (.int x :: st) M Q := wp_step rfl rfl rfl rfl rfl
theorem u188_155 : wp scr n mb_188 155 [l0, l1, l2, l3, some (.int x), l5] st M Q ↔ wp scr n mb_188 157 [l0, l1, l2, l3, some (.int x), l5] (.int x :: st) M Q := wp_step rfl rfl rfl rfl rfl
theorem u188_157 : wp scr n mb_188 157 L (a3 :: a2 :: .ref a :: st) M Q ↔ ((mw_r M a 6 ∧ mw_st st) ∧ Wp scr n 190 [.ref a, a2, a3] M (fun r1 M1 => wp scr n mb_188 160 L (r1.toList ++ st) M1 Q)) := wp_vir rfl rfl rfl rfl rfl
theorem u188_160 : wp scr n mb_188 160 L st M Q ↔ wp scr n mb_188 220 L st M Q := wp_step rfl rfl rfl rfl rfl
theorem u188_163 : wp scr n mb_188 163 [some (.ref a), l1, l2, l3, l4, l5] st M Q ↔ wp scr n mb_188 164 [some (.ref a), l1, l2, l3, l4, l5] (.ref a :: st) M Q := wp_step rfl rfl rfl rfl rfl
theorem u188_164 : wp scr n mb_188 164 L (o :: st) M Q ↔ mw_o (mm_fld (mc_X scr) M o 6 11) (fun v => wp scr n mb_188 167 L (v :: st) M Q) := wp_getf rfl
theorem u188_167 : wp scr n mb_188 167 L st M Q ↔ wp scr n mb_188 168 L (.int 3 :: st) M Q := wp_step rfl rfl rfl rfl rfl
theorem u188_168 : wp scr n mb_188 168 L (.int y :: .int x :: st) M Q ↔ (if x = y then wp scr n mb_188 171 L st M Q else wp scr n mb_188 197 L st M Q) := (wp_step rfl rfl rfl rfl rfl).trans wp_iten
theorem u188_171 : wp scr n mb_188 171 [l0, l1, l2, l3, l4, some (.int x)] st M Q ↔ wp scr n mb_188 173 [l0, l1, l2, l3, l4, some (.int x)] (.int x :: st) M Q := wp_step rfl rfl rfl rfl rfl
theorem u188_173 : wp scr n mb_188 173 L (.int x :: st) M Q ↔ (if x = 0 then wp scr n mb_188 197 L st M Q else wp scr n mb_188 176 L st M Q) := (wp_step rfl rfl rfl rfl rfl).trans wp_ite
theorem u188_176 : wp scr n mb_188 176 [some (.ref a), l1, l2, l3, l4, l5] st M Q ↔ wp scr n mb_188 177 [some (.ref a), l1, l2, l3, l4, l5] (.ref a :: st) M Q := wp_step rfl rfl rfl rfl rfl
theorem u188_177 : wp scr n mb_188 177 [l0, l1, l2, some (.int x), l4, l5] st M Q ↔ wp scr n mb_188 178 [l0, l1, l2, some (.int x), l4, l5] (.int x :: st) M Q := wp_step rfl rfl rfl rfl rfl
theorem u188_178 : wp scr n mb_188 178 [l0, some (.ref a), l2, l3, l4, l5] st M Q ↔ wp scr n mb_188 179 [l0, some (.ref a), l2, l3, l4, l5] (.ref a :: st) M Q := wp_step rfl rfl rfl rfl rfl
theorem u188_179 : wp scr n mb_188 179 L (a1 :: st) M Q ↔ (mw_st st ∧ Wp scr n 182 [a1] M (fun r1 M1 => wp scr n mb_188 182 L (r1.toList ++ st) M1 Q)) := wp_sta rfl rfl rfl rfl
theorem u188_182 : wp scr n mb_188 182 [some (.ref a), l1, l2, l3, l4, l5] st M Q ↔ wp scr n mb_188 183 [some (.ref a), l1, l2, l3, l4, l5] (.ref a :: st) M Q := wp_step rfl rfl rfl rfl rfl
theorem u188_183 : wp scr n mb_188 183 L (o :: st) M Q ↔ mw_o (mm_fld (mc_X scr) M o 6 12) (fun v => wp scr n mb_188 186 L (v :: st) M Q) := wp_getf rfl
theorem u188_186 : wp scr n mb_188 186 L (.int y :: .int x :: st) M Q ↔ wp scr n mb_188 187 L (.int (x &&& y) :: st) M Q := wp_step rfl rfl rfl rfl rfl
theorem u188_187 : wp scr n mb_188 187 L (a1 :: st) M Q ↔ (mw_st st ∧ Wp scr n 0 [a1] M (fun r1 M1 => wp scr n mb_188 190 L (r1.toList ++ st) M1 Q)) := wp_sta rfl rfl rfl rfl
theorem u188_190 : wp scr n mb_188 190 L (.int x :: st) M Q ↔ wp scr n mb_188 191 L (.int (-x) :: st) M Q := wp_step rfl rfl rfl rfl rfl
theorem u188_191 : wp scr n mb_188 191 L (a3 :: a2 :: .ref a :: st) M Q ↔ ((mw_r M a 6 ∧ mw_st st) ∧ Wp scr n 190 [.ref a, a2, a3] M (fun r1 M1 => wp scr n mb_188 194 L (r1.toList ++ st) M1 Q)) := wp_vir rfl rfl rfl rfl rfl
theorem u188_194 : wp scr n mb_188 194 L st M Q ↔ wp scr n mb_188 220 L st M Q := wp_step rfl rfl rfl rfl rfl
theorem u188_197 : wp scr n mb_188 197 [some (.ref a), l1, l2, l3, l4, l5] st M Q ↔ wp scr n mb_188 198 [some (.ref a), l1, l2, l3, l4, l5] (.ref a :: st) M Q := wp_step rfl rfl rfl rfl rfl
theorem u188_198 : wp scr n mb_188 198 L (o :: st) M Q ↔ mw_o (mm_fld (mc_X scr) M o 6 11) (fun v => wp scr n mb_188 201 L (v :: st) M Q) := wp_getf rfl
theorem u188_201 : wp scr n mb_188 201 L st M Q ↔ wp scr n mb_188 202 L (.int 4 :: st) M Q := wp_step rfl rfl rfl rfl rfl
theorem u188_202 : wp scr n mb_188 202 L (.int y :: .int x :: st) M Q ↔ (if x = y then wp scr n mb_188 205 L st M Q else wp scr n mb_188 220 L st M Q) := (wp_step rfl rfl rfl rfl rfl).trans wp_iten
theorem u188_205 : wp scr n mb_188 205 [some (.ref a), l1, l2, l3, l4, l5] st M Q ↔ wp scr n mb_188 206 [some (.ref a), l1, l2, l3, l4, l5] (.ref a :: st) M Q := wp_step rfl rfl rfl rfl rfl
theorem u188_206 : wp scr n mb_188 206 [l0, some (.ref a), l2, l3, l4, l5] st M Q ↔ wp scr n mb_188 207 [l0, some (.ref a), l2, l3, l4, l5] (.ref a :: st) M Q := wp_step rfl rfl rfl rfl rfl
theorem u188_207 : wp scr n mb_188 207 L (a2 :: .ref a :: st) M Q ↔ ((mw_r M a 6 ∧ mw_st st) ∧ Wp scr n 191 [.ref a, a2] M (fun r1 M1 => wp scr n mb_188 210 L (r1.toList ++ st) M1 Q)) := wp_vir rfl rfl rfl rfl rfl
theorem u188_210 : wp scr n mb_188 210 L (.int x :: st) M Q ↔ (if x = 0 then wp scr n mb_188 220 L st M Q else wp scr n mb_188 213 L st M Q) := (wp_step rfl rfl rfl rfl rfl).trans wp_ite
theorem u188_213 : wp scr n mb_188 213 [some (.ref a), l1, l2, l3, l4, l5] st M Q ↔ wp scr n mb_188 214 [some (.ref a), l1, l2, l3, l4, l5] (.ref a :: st) M Q := wp_step rfl rfl rfl rfl rfl
theorem u188_214 : wp scr n mb_188 214 [l0, l1, l2, some (.int x), l4, l5] st M Q ↔ wp scr n mb_188 215 [l0, l1, l2, some (.int x), l4, l5] (.int x :: st) M Q := wp_step rfl rfl rfl rfl rfl
theorem u188_215 : wp scr n mb_188 215 [l0, l1, l2, l3, some (.int x), l5] st M Q ↔ wp scr n mb_188 217 [l0, l1, l2, l3, some (.int x), l5] (.int x :: st) M Q := wp_step rfl rfl rfl rfl rfl
theorem u188_217 : wp scr n mb_188 217 L (a3 :: a2 :: .ref a :: st) M Q ↔ ((mw_r M a 6 ∧ mw_st st) ∧ Wp scr n 190 [.ref a, a2, a3] M (fun r1 M1 => wp scr n mb_188 220 L (r1.toList ++ st) M1 Q)) := wp_vir rfl rfl rfl rfl rfl
theorem u188_220 : wp scr n mb_188 220 L [] M Q ↔ Q none M := wp_ret rfl rfl
theorem e188 : Wp scr (n + 1) 188 [.ref a0, .ref b1, .int x2, .int x3, .int x4] M Q ↔ wp scr n mb_188 0 [some (.ref a0), some (.ref b1), some (.int x2), some (.int x3), some (.int x4), none] [] M Q := Wp_to rfl rfl rfl
/-- SmallerInTheShopModel isShut ([I)Z -/
def mb_189 : mw_B := ((Option.some FieldType.boolean), mp_189)
theorem u189_0 : wp scr n mb_189 0 [some (.ref a)] st M Q ↔ wp scr n mb_189 1 [some (.ref a)] (.ref a :: st) M Q := wp_step rfl rfl rfl rfl rfl
theorem u189_1 : wp scr n mb_189 1 L st M Q ↔ wp scr n mb_189 2 L (.int 0 :: st) M Q := wp_step rfl rfl rfl rfl rfl
theorem u189_2 : wp scr n mb_189 2 L (a2 :: a1 :: st) M Q ↔ (mw_st st ∧ Wp scr n 151 [a1, a2] M (fun r1 M1 => wp scr n mb_189 5 L (r1.toList ++ st) M1 Q)) := wp_sta rfl rfl rfl rfl
theorem u189_5 : wp scr n mb_189 5 L st M Q ↔ wp scr n mb_189 6 L (.int 1 :: st) M Q := wp_step rfl rfl rfl rfl rfl
theorem u189_6 : wp scr n mb_189 6 L (.int y :: .int x :: st) M Q ↔ (if x = y then wp scr n mb_189 9 L st M Q else wp scr n mb_189 22 L st M Q) := (wp_step rfl rfl rfl rfl rfl).trans wp_iten
theorem u189_9 : wp scr n mb_189 9 [some (.ref a)] st M Q ↔ wp scr n mb_189 10 [some (.ref a)] (.ref a :: st) M Q := wp_step rfl rfl rfl rfl rfl
theorem u189_10 : wp scr n mb_189 10 L st M Q ↔ wp scr n mb_189 11 L (.int 1 :: st) M Q := wp_step rfl rfl rfl rfl rfl
theorem u189_11 : wp scr n mb_189 11 L (a2 :: a1 :: st) M Q ↔ (mw_st st ∧ Wp scr n 151 [a1, a2] M (fun r1 M1 => wp scr n mb_189 14 L (r1.toList ++ st) M1 Q)) := wp_sta rfl rfl rfl rfl
theorem u189_14 : wp scr n mb_189 14 L st M Q ↔ wp scr n mb_189 15 L (.int 1 :: st) M Q := wp_step rfl rfl rfl rfl rfl
theorem u189_15 : wp scr n mb_189 15 L (.int y :: .int x :: st) M Q ↔ (if x = y then wp scr n mb_189 18 L st M Q else wp scr n mb_189 22 L st M Q) := (wp_step rfl rfl rfl rfl rfl).trans wp_iten
theorem u189_18 : wp scr n mb_189 18 L st M Q ↔ wp scr n mb_189 19 L (.int 1 :: st) M Q := wp_step rfl rfl rfl rfl rfl
theorem u189_19 : wp scr n mb_189 19 L st M Q ↔ wp scr n mb_189 23 L st M Q := wp_step rfl rfl rfl rfl rfl
theorem u189_22 : wp scr n mb_189 22 L st M Q ↔ wp scr n mb_189 23 L (.int 0 :: st) M Q := wp_step rfl rfl rfl rfl rfl
theorem u189_23 : wp scr n mb_189 23 L [.int x] M Q ↔ ((x = 0 ∨ x = 1) ∧ Q (some (.int x)) M) := wp_retb rfl rfl
theorem e189 : Wp scr (n + 1) 189 [.ref b1] M Q ↔ wp scr n mb_189 0 [some (.ref b1)] [] M Q := Wp_to rfl rfl rfl
/-- SmallerInTheShopModel better (II)V -/
def mb_190 : mw_B := ((Option.none : Option FieldType), mp_190)
theorem u190_0 : wp scr n mb_190 0 [some (.ref a), l1, l2] st M Q ↔ wp scr n mb_190 1 [some (.ref a), l1, l2] (.ref a :: st) M Q := wp_step rfl rfl rfl rfl rfl
theorem u190_1 : wp scr n mb_190 1 L (o :: st) M Q ↔ mw_o (mm_fld (mc_X scr) M o 6 14) (fun v => wp scr n mb_190 4 L (v :: st) M Q) := wp_getf rfl
theorem u190_4 : wp scr n mb_190 4 L st M Q ↔ wp scr n mb_190 6 L (.int (-9) :: st) M Q := wp_step rfl rfl rfl rfl rfl
theorem u190_6 : wp scr n mb_190 6 L (.int y :: .int x :: st) M Q ↔ (if x = y then wp scr n mb_190 33 L st M Q else wp scr n mb_190 9 L st M Q) := (wp_step rfl rfl rfl rfl rfl).trans wp_ite
theorem u190_9 : wp scr n mb_190 9 [l0, l1, some (.int x)] st M Q ↔ wp scr n mb_190 10 [l0, l1, some (.int x)] (.int x :: st) M Q := wp_step rfl rfl rfl rfl rfl
theorem u190_10 : wp scr n mb_190 10 [some (.ref a), l1, l2] st M Q ↔ wp scr n mb_190 11 [some (.ref a), l1, l2] (.ref a :: st) M Q := wp_step rfl rfl rfl rfl rfl
theorem u190_11 : wp scr n mb_190 11 L (o :: st) M Q ↔ mw_o (mm_fld (mc_X scr) M o 6 15) (fun v => wp scr n mb_190 14 L (v :: st) M Q) := wp_getf rfl
theorem u190_14 : wp scr n mb_190 14 L (.int y :: .int x :: st) M Q ↔ (if x < y then wp scr n mb_190 33 L st M Q else wp scr n mb_190 17 L st M Q) := (wp_step rfl rfl rfl rfl rfl).trans wp_ite
theorem u190_17 : wp scr n mb_190 17 [l0, l1, some (.int x)] st M Q ↔ wp scr n mb_190 18 [l0, l1, some (.int x)] (.int x :: st) M Q := wp_step rfl rfl rfl rfl rfl
theorem u190_18 : wp scr n mb_190 18 [some (.ref a), l1, l2] st M Q ↔ wp scr n mb_190 19 [some (.ref a), l1, l2] (.ref a :: st) M Q := wp_step rfl rfl rfl rfl rfl
theorem u190_19 : wp scr n mb_190 19 L (o :: st) M Q ↔ mw_o (mm_fld (mc_X scr) M o 6 15) (fun v => wp scr n mb_190 22 L (v :: st) M Q) := wp_getf rfl
theorem u190_22 : wp scr n mb_190 22 L (.int y :: .int x :: st) M Q ↔ (if x = y then wp scr n mb_190 25 L st M Q else wp scr n mb_190 43 L st M Q) := (wp_step rfl rfl rfl rfl rfl).trans wp_iten
theorem u190_25 : wp scr n mb_190 25 [l0, some (.int x), l2] st M Q ↔ wp scr n mb_190 26 [l0, some (.int x), l2] (.int x :: st) M Q := wp_step rfl rfl rfl rfl rfl
theorem u190_26 : wp scr n mb_190 26 [some (.ref a), l1, l2] st M Q ↔ wp scr n mb_190 27 [some (.ref a), l1, l2] (.ref a :: st) M Q := wp_step rfl rfl rfl rfl rfl
theorem u190_27 : wp scr n mb_190 27 L (o :: st) M Q ↔ mw_o (mm_fld (mc_X scr) M o 6 14) (fun v => wp scr n mb_190 30 L (v :: st) M Q) := wp_getf rfl
theorem u190_30 : wp scr n mb_190 30 L (.int y :: .int x :: st) M Q ↔ (if y ≤ x then wp scr n mb_190 43 L st M Q else wp scr n mb_190 33 L st M Q) := (wp_step rfl rfl rfl rfl rfl).trans wp_ite
theorem u190_33 : wp scr n mb_190 33 [some (.ref a), l1, l2] st M Q ↔ wp scr n mb_190 34 [some (.ref a), l1, l2] (.ref a :: st) M Q := wp_step rfl rfl rfl rfl rfl
theorem u190_34 : wp scr n mb_190 34 [l0, some (.int x), l2] st M Q ↔ wp scr n mb_190 35 [l0, some (.int x), l2] (.int x :: st) M Q := wp_step rfl rfl rfl rfl rfl
theorem u190_35 : wp scr n mb_190 35 L (v :: o :: st) M Q ↔ mw_o (mm_put mc_fty M o v 6 14) (fun M1 => wp scr n mb_190 38 L st M1 Q) := wp_putf rfl
theorem u190_38 : wp scr n mb_190 38 [some (.ref a), l1, l2] st M Q ↔ wp scr n mb_190 39 [some (.ref a), l1, l2] (.ref a :: st) M Q := wp_step rfl rfl rfl rfl rfl
theorem u190_39 : wp scr n mb_190 39 [l0, l1, some (.int x)] st M Q ↔ wp scr n mb_190 40 [l0, l1, some (.int x)] (.int x :: st) M Q := wp_step rfl rfl rfl rfl rfl
theorem u190_40 : wp scr n mb_190 40 L (v :: o :: st) M Q ↔ mw_o (mm_put mc_fty M o v 6 15) (fun M1 => wp scr n mb_190 43 L st M1 Q) := wp_putf rfl
theorem u190_43 : wp scr n mb_190 43 L [] M Q ↔ Q none M := wp_ret rfl rfl
theorem e190 : Wp scr (n + 1) 190 [.ref a0, .int x1, .int x2] M Q ↔ wp scr n mb_190 0 [some (.ref a0), some (.int x1), some (.int x2)] [] M Q := Wp_to rfl rfl rfl
/-- SmallerInTheShopModel isAsTheRow ([I)Z -/
def mb_191 : mw_B := ((Option.some FieldType.boolean), mp_191)
theorem u191_0 : wp scr n mb_191 0 L st M Q ↔ wp scr n mb_191 1 L (.int 0 :: st) M Q := wp_step rfl rfl rfl rfl rfl
theorem u191_1 : wp scr n mb_191 1 [l0, l1, l2, l3, l4] (.int x :: st) M Q ↔ wp scr n mb_191 2 (mm_sto1 [l0, l1, l2, l3, l4] 2 (.int x)) st M Q := wp_step rfl rfl rfl rfl rfl
theorem u191_2 : wp scr n mb_191 2 [l0, l1, some (.int x), l3, l4] st M Q ↔ wp scr n mb_191 3 [l0, l1, some (.int x), l3, l4] (.int x :: st) M Q := wp_step rfl rfl rfl rfl rfl
theorem u191_3 : wp scr n mb_191 3 L st M Q ↔ wp scr n mb_191 5 L (.int 8 :: st) M Q := wp_step rfl rfl rfl rfl rfl
theorem u191_5 : wp scr n mb_191 5 L (.int y :: .int x :: st) M Q ↔ (if y ≤ x then wp scr n mb_191 69 L st M Q else wp scr n mb_191 8 L st M Q) := (wp_step rfl rfl rfl rfl rfl).trans wp_ite
theorem u191_8 : wp scr n mb_191 8 L st M Q ↔ wp scr n mb_191 9 L (.int 0 :: st) M Q := wp_step rfl rfl rfl rfl rfl
theorem u191_9 : wp scr n mb_191 9 [l0, l1, l2, l3, l4] (.int x :: st) M Q ↔ wp scr n mb_191 10 (mm_sto1 [l0, l1, l2, l3, l4] 3 (.int x)) st M Q := wp_step rfl rfl rfl rfl rfl
theorem u191_10 : wp scr n mb_191 10 L st M Q ↔ wp scr n mb_191 11 L (.int 0 :: st) M Q := wp_step rfl rfl rfl rfl rfl
theorem u191_11 : wp scr n mb_191 11 [l0, l1, l2, l3, l4] (.int x :: st) M Q ↔ wp scr n mb_191 13 (mm_sto1 [l0, l1, l2, l3, l4] 4 (.int x)) st M Q := wp_step rfl rfl rfl rfl rfl
theorem u191_13 : wp scr n mb_191 13 [l0, l1, l2, l3, some (.int x)] st M Q ↔ wp scr n mb_191 15 [l0, l1, l2, l3, some (.int x)] (.int x :: st) M Q := wp_step rfl rfl rfl rfl rfl
theorem u191_15 : wp scr n mb_191 15 L st M Q ↔ wp scr n mb_191 17 L (.int 8 :: st) M Q := wp_step rfl rfl rfl rfl rfl
theorem u191_17 : wp scr n mb_191 17 L (.int y :: .int x :: st) M Q ↔ (if y ≤ x then wp scr n mb_191 57 L st M Q else wp scr n mb_191 20 L st M Q) := (wp_step rfl rfl rfl rfl rfl).trans wp_ite
theorem u191_20 : wp scr n mb_191 20 [l0, l1, l2, some (.int x), l4] st M Q ↔ wp scr n mb_191 21 [l0, l1, l2, some (.int x), l4] (.int x :: st) M Q := wp_step rfl rfl rfl rfl rfl
theorem u191_21 : wp scr n mb_191 21 L (.int x :: st) M Q ↔ (if x = 0 then wp scr n mb_191 24 L st M Q else wp scr n mb_191 45 L st M Q) := (wp_step rfl rfl rfl rfl rfl).trans wp_iten
theorem u191_24 : wp scr n mb_191 24 [some (.ref a), l1, l2, l3, l4] st M Q ↔ wp scr n mb_191 25 [some (.ref a), l1, l2, l3, l4] (.ref a :: st) M Q := wp_step rfl rfl rfl rfl rfl
theorem u191_25 : wp scr n mb_191 25 L (o :: st) M Q ↔ mw_o (mm_fld (mc_X scr) M o 6 5) (fun v => wp scr n mb_191 28 L (v :: st) M Q) := wp_getf rfl
theorem u191_28 : wp scr n mb_191 28 [l0, l1, l2, l3, some (.int x)] st M Q ↔ wp scr n mb_191 30 [l0, l1, l2, l3, some (.int x)] (.int x :: st) M Q := wp_step rfl rfl rfl rfl rfl
theorem u191_30 : wp scr n mb_191 30 L (.int y :: o :: st) M Q ↔ mw_o (mm_ld (mc_X scr) M o y) (fun x => wp scr n mb_191 31 L (.int x :: st) M Q) := wp_iald rfl
theorem u191_31 : wp scr n mb_191 31 [l0, l1, some (.int x), l3, l4] st M Q ↔ wp scr n mb_191 32 [l0, l1, some (.int x), l3, l4] (.int x :: st) M Q := wp_step rfl rfl rfl rfl rfl
theorem u191_32 : wp scr n mb_191 32 L (.int y :: .int x :: st) M Q ↔ (if x = y then wp scr n mb_191 35 L st M Q else wp scr n mb_191 49 L st M Q) := (wp_step rfl rfl rfl rfl rfl).trans wp_iten
theorem u191_35 : wp scr n mb_191 35 [l0, some (.ref a), l2, l3, l4] st M Q ↔ wp scr n mb_191 36 [l0, some (.ref a), l2, l3, l4] (.ref a :: st) M Q := wp_step rfl rfl rfl rfl rfl
theorem u191_36 : wp scr n mb_191 36 [l0, l1, some (.int x), l3, l4] st M Q ↔ wp scr n mb_191 37 [l0, l1, some (.int x), l3, l4] (.int x :: st) M Q := wp_step rfl rfl rfl rfl rfl
theorem u191_37 : wp scr n mb_191 37 L (a2 :: a1 :: st) M Q ↔ (mw_st st ∧ Wp scr n 171 [a1, a2] M (fun r1 M1 => wp scr n mb_191 40 L (r1.toList ++ st) M1 Q)) := wp_sta rfl rfl rfl rfl
theorem u191_40 : wp scr n mb_191 40 [l0, l1, l2, l3, some (.int x)] st M Q ↔ wp scr n mb_191 42 [l0, l1, l2, l3, some (.int x)] (.int x :: st) M Q := wp_step rfl rfl rfl rfl rfl
theorem u191_42 : wp scr n mb_191 42 L (.int y :: .int x :: st) M Q ↔ (if x = y then wp scr n mb_191 45 L st M Q else wp scr n mb_191 49 L st M Q) := (wp_step rfl rfl rfl rfl rfl).trans wp_iten
theorem u191_45 : wp scr n mb_191 45 L st M Q ↔ wp scr n mb_191 46 L (.int 1 :: st) M Q := wp_step rfl rfl rfl rfl rfl
theorem u191_46 : wp scr n mb_191 46 L st M Q ↔ wp scr n mb_191 50 L st M Q := wp_step rfl rfl rfl rfl rfl
theorem u191_49 : wp scr n mb_191 49 L st M Q ↔ wp scr n mb_191 50 L (.int 0 :: st) M Q := wp_step rfl rfl rfl rfl rfl
theorem u191_50 : wp scr n mb_191 50 [l0, l1, l2, l3, l4] (.int x :: st) M Q ↔ wp scr n mb_191 51 (mm_sto1 [l0, l1, l2, l3, l4] 3 (.int x)) st M Q := wp_step rfl rfl rfl rfl rfl
theorem u191_51 : wp scr n mb_191 51 [l0, l1, l2, l3, some (.int x)] st M Q ↔ wp scr n mb_191 54 (mm_sto1 [l0, l1, l2, l3, some (.int x)] 4 (.int (x + 1))) st M Q := wp_step rfl rfl rfl rfl rfl
theorem u191_54 : wp scr n mb_191 54 L st M Q ↔ wp scr n mb_191 13 L st M Q := wp_step rfl rfl rfl rfl rfl
theorem u191_57 : wp scr n mb_191 57 [l0, l1, l2, some (.int x), l4] st M Q ↔ wp scr n mb_191 58 [l0, l1, l2, some (.int x), l4] (.int x :: st) M Q := wp_step rfl rfl rfl rfl rfl
theorem u191_58 : wp scr n mb_191 58 L (.int x :: st) M Q ↔ (if x = 0 then wp scr n mb_191 61 L st M Q else wp scr n mb_191 63 L st M Q) := (wp_step rfl rfl rfl rfl rfl).trans wp_iten
theorem u191_61 : wp scr n mb_191 61 L st M Q ↔ wp scr n mb_191 62 L (.int 0 :: st) M Q := wp_step rfl rfl rfl rfl rfl
theorem u191_62 : wp scr n mb_191 62 L [.int x] M Q ↔ ((x = 0 ∨ x = 1) ∧ Q (some (.int x)) M) := wp_retb rfl rfl
theorem u191_63 : wp scr n mb_191 63 [l0, l1, some (.int x), l3, l4] st M Q ↔ wp scr n mb_191 66 (mm_sto1 [l0, l1, some (.int x), l3, l4] 2 (.int (x + 1))) st M Q := wp_step rfl rfl rfl rfl rfl
theorem u191_66 : wp scr n mb_191 66 L st M Q ↔ wp scr n mb_191 2 L st M Q := wp_step rfl rfl rfl rfl rfl
theorem u191_69 : wp scr n mb_191 69 [l0, some (.ref a), l2, l3, l4] st M Q ↔ wp scr n mb_191 70 [l0, some (.ref a), l2, l3, l4] (.ref a :: st) M Q := wp_step rfl rfl rfl rfl rfl
theorem u191_70 : wp scr n mb_191 70 L (a1 :: st) M Q ↔ (mw_st st ∧ Wp scr n 189 [a1] M (fun r1 M1 => wp scr n mb_191 73 L (r1.toList ++ st) M1 Q)) := wp_sta rfl rfl rfl rfl
theorem u191_73 : wp scr n mb_191 73 L [.int x] M Q ↔ ((x = 0 ∨ x = 1) ∧ Q (some (.int x)) M) := wp_retb rfl rfl
theorem e191 : Wp scr (n + 1) 191 [.ref a0, .ref b1] M Q ↔ wp scr n mb_191 0 [some (.ref a0), some (.ref b1), none, none, none] [] M Q := Wp_to rfl rfl rfl
/-- SmallerInTheShopModel ways (I)I -/
def mb_192 : mw_B := ((Option.some FieldType.int), mp_192)
theorem u192_0 : wp scr n mb_192 0 [l0, some (.int x)] st M Q ↔ wp scr n mb_192 1 [l0, some (.int x)] (.int x :: st) M Q := wp_step rfl rfl rfl rfl rfl
theorem u192_1 : wp scr n mb_192 1 L (.int x :: st) M Q ↔ wp scr n mb_192 2 L (.long x.toInt64 :: st) M Q := wp_step rfl rfl rfl rfl rfl
theorem u192_2 : wp scr n mb_192 2 L st M Q ↔ wp scr n mb_192 3 L (.long 0 :: st) M Q := wp_step rfl rfl rfl rfl rfl
theorem u192_3 : wp scr n mb_192 3 L st M Q ↔ wp scr n mb_192 6 L (.long (4) :: st) M Q := wp_step rfl rfl rfl rfl rfl
theorem u192_6 : wp scr n mb_192 6 L (a3 :: a2 :: a1 :: st) M Q ↔ (mw_st st ∧ Wp scr n 146 [a1, a2, a3] M (fun r1 M1 => wp scr n mb_192 9 L (r1.toList ++ st) M1 Q)) := wp_sta rfl rfl rfl rfl
theorem u192_9 : wp scr n mb_192 9 L (.int x :: st) M Q ↔ (if x = 0 then wp scr n mb_192 12 L st M Q else wp scr n mb_192 28 L st M Q) := (wp_step rfl rfl rfl rfl rfl).trans wp_iten
theorem u192_12 : wp scr n mb_192 12 [some (.ref a), l1] st M Q ↔ wp scr n mb_192 13 [some (.ref a), l1] (.ref a :: st) M Q := wp_step rfl rfl rfl rfl rfl
theorem u192_13 : wp scr n mb_192 13 [l0, some (.int x)] st M Q ↔ wp scr n mb_192 14 [l0, some (.int x)] (.int x :: st) M Q := wp_step rfl rfl rfl rfl rfl
theorem u192_14 : wp scr n mb_192 14 L (.int x :: st) M Q ↔ (if 0 ≤ x then wp scr n mb_192 22 L st M Q else wp scr n mb_192 17 L st M Q) := (wp_step rfl rfl rfl rfl rfl).trans wp_ite
theorem u192_17 : wp scr n mb_192 17 L st M Q ↔ wp scr n mb_192 19 L (.int (-4) :: st) M Q := wp_step rfl rfl rfl rfl rfl
theorem u192_19 : wp scr n mb_192 19 L st M Q ↔ wp scr n mb_192 24 L st M Q := wp_step rfl rfl rfl rfl rfl
theorem u192_22 : wp scr n mb_192 22 L st M Q ↔ wp scr n mb_192 24 L (.int (-6) :: st) M Q := wp_step rfl rfl rfl rfl rfl
theorem u192_24 : wp scr n mb_192 24 L (a2 :: .ref a :: st) M Q ↔ ((mw_r M a 6 ∧ mw_st st) ∧ Wp scr n 141 [.ref a, a2] M (fun r1 M1 => wp scr n mb_192 27 L (r1.toList ++ st) M1 Q)) := wp_vir rfl rfl rfl rfl rfl
theorem u192_27 : wp scr n mb_192 27 L [.int x] M Q ↔ Q (some (.int x)) M := wp_ret rfl rfl
theorem u192_28 : wp scr n mb_192 28 [some (.ref a), l1] st M Q ↔ wp scr n mb_192 29 [some (.ref a), l1] (.ref a :: st) M Q := wp_step rfl rfl rfl rfl rfl
theorem u192_29 : wp scr n mb_192 29 L st M Q ↔ wp scr n mb_192 30 L (.int 1 :: st) M Q := wp_step rfl rfl rfl rfl rfl
theorem u192_30 : wp scr n mb_192 30 [l0, some (.int x)] st M Q ↔ wp scr n mb_192 31 [l0, some (.int x)] (.int x :: st) M Q := wp_step rfl rfl rfl rfl rfl
theorem u192_31 : wp scr n mb_192 31 L st M Q ↔ wp scr n mb_192 32 L (.int 0 :: st) M Q := wp_step rfl rfl rfl rfl rfl
theorem u192_32 : wp scr n mb_192 32 L (a4 :: a3 :: a2 :: .ref a :: st) M Q ↔ ((mw_r M a 6 ∧ mw_st st) ∧ Wp scr n 186 [.ref a, a2, a3, a4] M (fun r1 M1 => wp scr n mb_192 35 L (r1.toList ++ st) M1 Q)) := wp_vir rfl rfl rfl rfl rfl
theorem u192_35 : wp scr n mb_192 35 [some (.ref a), l1] st M Q ↔ wp scr n mb_192 36 [some (.ref a), l1] (.ref a :: st) M Q := wp_step rfl rfl rfl rfl rfl
theorem u192_36 : wp scr n mb_192 36 L (o :: st) M Q ↔ mw_o (mm_fld (mc_X scr) M o 6 17) (fun v => wp scr n mb_192 39 L (v :: st) M Q) := wp_getf rfl
theorem u192_39 : wp scr n mb_192 39 L [.int x] M Q ↔ Q (some (.int x)) M := wp_ret rfl rfl
theorem e192 : Wp scr (n + 1) 192 [.ref a0, .int x1] M Q ↔ wp scr n mb_192 0 [some (.ref a0), some (.int x1)] [] M Q := Wp_to rfl rfl rfl
/-- SmallerInTheShopModel up (IIII)I -/
def mb_193 : mw_B := ((Option.some FieldType.int), mp_193)
theorem u193_0 : wp scr n mb_193 0 [l0, some (.int x), l2, l3, l4] st M Q ↔ wp scr n mb_193 1 [l0, some (.int x), l2, l3, l4] (.int x :: st) M Q := wp_step rfl rfl rfl rfl rfl
theorem u193_1 : wp scr n mb_193 1 L (a1 :: st) M Q ↔ (mw_st st ∧ Wp scr n 168 [a1] M (fun r1 M1 => wp scr n mb_193 4 L (r1.toList ++ st) M1 Q)) := wp_sta rfl rfl rfl rfl
theorem u193_4 : wp scr n mb_193 4 L (.int x :: st) M Q ↔ (if x = 0 then wp scr n mb_193 19 L st M Q else wp scr n mb_193 7 L st M Q) := (wp_step rfl rfl rfl rfl rfl).trans wp_ite
theorem u193_7 : wp scr n mb_193 7 [l0, l1, some (.int x), l3, l4] st M Q ↔ wp scr n mb_193 8 [l0, l1, some (.int x), l3, l4] (.int x :: st) M Q := wp_step rfl rfl rfl rfl rfl
theorem u193_8 : wp scr n mb_193 8 L (a1 :: st) M Q ↔ (mw_st st ∧ Wp scr n 168 [a1] M (fun r1 M1 => wp scr n mb_193 11 L (r1.toList ++ st) M1 Q)) := wp_sta rfl rfl rfl rfl
theorem u193_11 : wp scr n mb_193 11 L (.int x :: st) M Q ↔ (if x = 0 then wp scr n mb_193 19 L st M Q else wp scr n mb_193 14 L st M Q) := (wp_step rfl rfl rfl rfl rfl).trans wp_ite
theorem u193_14 : wp scr n mb_193 14 [l0, some (.int x), l2, l3, l4] st M Q ↔ wp scr n mb_193 15 [l0, some (.int x), l2, l3, l4] (.int x :: st) M Q := wp_step rfl rfl rfl rfl rfl
theorem u193_15 : wp scr n mb_193 15 [l0, l1, some (.int x), l3, l4] st M Q ↔ wp scr n mb_193 16 [l0, l1, some (.int x), l3, l4] (.int x :: st) M Q := wp_step rfl rfl rfl rfl rfl
theorem u193_16 : wp scr n mb_193 16 L (.int y :: .int x :: st) M Q ↔ (if x = y then wp scr n mb_193 19 L st M Q else wp scr n mb_193 25 L st M Q) := (wp_step rfl rfl rfl rfl rfl).trans wp_iten
theorem u193_19 : wp scr n mb_193 19 [some (.ref a), l1, l2, l3, l4] st M Q ↔ wp scr n mb_193 20 [some (.ref a), l1, l2, l3, l4] (.ref a :: st) M Q := wp_step rfl rfl rfl rfl rfl
theorem u193_20 : wp scr n mb_193 20 L st M Q ↔ wp scr n mb_193 21 L (.int (-1) :: st) M Q := wp_step rfl rfl rfl rfl rfl
theorem u193_21 : wp scr n mb_193 21 L (a2 :: .ref a :: st) M Q ↔ ((mw_r M a 6 ∧ mw_st st) ∧ Wp scr n 141 [.ref a, a2] M (fun r1 M1 => wp scr n mb_193 24 L (r1.toList ++ st) M1 Q)) := wp_vir rfl rfl rfl rfl rfl
theorem u193_24 : wp scr n mb_193 24 L [.int x] M Q ↔ Q (some (.int x)) M := wp_ret rfl rfl
theorem u193_25 : wp scr n mb_193 25 [l0, l1, l2, some (.int x), l4] st M Q ↔ wp scr n mb_193 26 [l0, l1, l2, some (.int x), l4] (.int x :: st) M Q := wp_step rfl rfl rfl rfl rfl
theorem u193_26 : wp scr n mb_193 26 L (.int x :: st) M Q ↔ wp scr n mb_193 27 L (.long x.toInt64 :: st) M Q := wp_step rfl rfl rfl rfl rfl
theorem u193_27 : wp scr n mb_193 27 L st M Q ↔ wp scr n mb_193 28 L (.long 1 :: st) M Q := wp_step rfl rfl rfl rfl rfl
theorem u193_28 : wp scr n mb_193 28 L st M Q ↔ wp scr n mb_193 31 L (.long (8) :: st) M Q := wp_step rfl rfl rfl rfl rfl
theorem u193_31 : wp scr n mb_193 31 L (a3 :: a2 :: a1 :: st) M Q ↔ (mw_st st ∧ Wp scr n 146 [a1, a2, a3] M (fun r1 M1 => wp scr n mb_193 34 L (r1.toList ++ st) M1 Q)) := wp_sta rfl rfl rfl rfl
theorem u193_34 : wp scr n mb_193 34 L (.int x :: st) M Q ↔ (if x = 0 then wp scr n mb_193 37 L st M Q else wp scr n mb_193 54 L st M Q) := (wp_step rfl rfl rfl rfl rfl).trans wp_iten
theorem u193_37 : wp scr n mb_193 37 [some (.ref a), l1, l2, l3, l4] st M Q ↔ wp scr n mb_193 38 [some (.ref a), l1, l2, l3, l4] (.ref a :: st) M Q := wp_step rfl rfl rfl rfl rfl
theorem u193_38 : wp scr n mb_193 38 [l0, l1, l2, some (.int x), l4] st M Q ↔ wp scr n mb_193 39 [l0, l1, l2, some (.int x), l4] (.int x :: st) M Q := wp_step rfl rfl rfl rfl rfl
theorem u193_39 : wp scr n mb_193 39 L st M Q ↔ wp scr n mb_193 40 L (.int 1 :: st) M Q := wp_step rfl rfl rfl rfl rfl
theorem u193_40 : wp scr n mb_193 40 L (.int y :: .int x :: st) M Q ↔ (if y ≤ x then wp scr n mb_193 48 L st M Q else wp scr n mb_193 43 L st M Q) := (wp_step rfl rfl rfl rfl rfl).trans wp_ite
theorem u193_43 : wp scr n mb_193 43 L st M Q ↔ wp scr n mb_193 45 L (.int (-4) :: st) M Q := wp_step rfl rfl rfl rfl rfl
theorem u193_45 : wp scr n mb_193 45 L st M Q ↔ wp scr n mb_193 50 L st M Q := wp_step rfl rfl rfl rfl rfl
theorem u193_48 : wp scr n mb_193 48 L st M Q ↔ wp scr n mb_193 50 L (.int (-6) :: st) M Q := wp_step rfl rfl rfl rfl rfl
theorem u193_50 : wp scr n mb_193 50 L (a2 :: .ref a :: st) M Q ↔ ((mw_r M a 6 ∧ mw_st st) ∧ Wp scr n 141 [.ref a, a2] M (fun r1 M1 => wp scr n mb_193 53 L (r1.toList ++ st) M1 Q)) := wp_vir rfl rfl rfl rfl rfl
theorem u193_53 : wp scr n mb_193 53 L [.int x] M Q ↔ Q (some (.int x)) M := wp_ret rfl rfl
theorem u193_54 : wp scr n mb_193 54 [l0, l1, l2, l3, some (.int x)] st M Q ↔ wp scr n mb_193 56 [l0, l1, l2, l3, some (.int x)] (.int x :: st) M Q := wp_step rfl rfl rfl rfl rfl
theorem u193_56 : wp scr n mb_193 56 L (.int x :: st) M Q ↔ wp scr n mb_193 57 L (.long x.toInt64 :: st) M Q := wp_step rfl rfl rfl rfl rfl
theorem u193_57 : wp scr n mb_193 57 L st M Q ↔ wp scr n mb_193 58 L (.long 0 :: st) M Q := wp_step rfl rfl rfl rfl rfl
theorem u193_58 : wp scr n mb_193 58 L st M Q ↔ wp scr n mb_193 59 L (.long 1 :: st) M Q := wp_step rfl rfl rfl rfl rfl
theorem u193_59 : wp scr n mb_193 59 L (a3 :: a2 :: a1 :: st) M Q ↔ (mw_st st ∧ Wp scr n 146 [a1, a2, a3] M (fun r1 M1 => wp scr n mb_193 62 L (r1.toList ++ st) M1 Q)) := wp_sta rfl rfl rfl rfl
theorem u193_62 : wp scr n mb_193 62 L (.int x :: st) M Q ↔ (if x = 0 then wp scr n mb_193 65 L st M Q else wp scr n mb_193 72 L st M Q) := (wp_step rfl rfl rfl rfl rfl).trans wp_iten
theorem u193_65 : wp scr n mb_193 65 [some (.ref a), l1, l2, l3, l4] st M Q ↔ wp scr n mb_193 66 [some (.ref a), l1, l2, l3, l4] (.ref a :: st) M Q := wp_step rfl rfl rfl rfl rfl
theorem u193_66 : wp scr n mb_193 66 L st M Q ↔ wp scr n mb_193 68 L (.int (-2) :: st) M Q := wp_step rfl rfl rfl rfl rfl
theorem u193_68 : wp scr n mb_193 68 L (a2 :: .ref a :: st) M Q ↔ ((mw_r M a 6 ∧ mw_st st) ∧ Wp scr n 141 [.ref a, a2] M (fun r1 M1 => wp scr n mb_193 71 L (r1.toList ++ st) M1 Q)) := wp_vir rfl rfl rfl rfl rfl
theorem u193_71 : wp scr n mb_193 71 L [.int x] M Q ↔ Q (some (.int x)) M := wp_ret rfl rfl
theorem u193_72 : wp scr n mb_193 72 [some (.ref a), l1, l2, l3, l4] st M Q ↔ wp scr n mb_193 73 [some (.ref a), l1, l2, l3, l4] (.ref a :: st) M Q := wp_step rfl rfl rfl rfl rfl
theorem u193_73 : wp scr n mb_193 73 L st M Q ↔ wp scr n mb_193 74 L (.int 2 :: st) M Q := wp_step rfl rfl rfl rfl rfl
theorem u193_74 : wp scr n mb_193 74 L st M Q ↔ wp scr n mb_193 75 L (.int 1 :: st) M Q := wp_step rfl rfl rfl rfl rfl
theorem u193_75 : wp scr n mb_193 75 [l0, some (.int x), l2, l3, l4] st M Q ↔ wp scr n mb_193 76 [l0, some (.int x), l2, l3, l4] (.int x :: st) M Q := wp_step rfl rfl rfl rfl rfl
theorem u193_76 : wp scr n mb_193 76 L (.int y :: .int x :: st) M Q ↔ wp scr n mb_193 77 L (.int (x <<< (y &&& 31)) :: st) M Q := wp_step rfl rfl rfl rfl rfl
theorem u193_77 : wp scr n mb_193 77 L st M Q ↔ wp scr n mb_193 78 L (.int 1 :: st) M Q := wp_step rfl rfl rfl rfl rfl
theorem u193_78 : wp scr n mb_193 78 [l0, l1, some (.int x), l3, l4] st M Q ↔ wp scr n mb_193 79 [l0, l1, some (.int x), l3, l4] (.int x :: st) M Q := wp_step rfl rfl rfl rfl rfl
theorem u193_79 : wp scr n mb_193 79 L (.int y :: .int x :: st) M Q ↔ wp scr n mb_193 80 L (.int (x <<< (y &&& 31)) :: st) M Q := wp_step rfl rfl rfl rfl rfl
theorem u193_80 : wp scr n mb_193 80 L (.int y :: .int x :: st) M Q ↔ wp scr n mb_193 81 L (.int (x ||| y) :: st) M Q := wp_step rfl rfl rfl rfl rfl
theorem u193_81 : wp scr n mb_193 81 [l0, l1, l2, some (.int x), l4] st M Q ↔ wp scr n mb_193 82 [l0, l1, l2, some (.int x), l4] (.int x :: st) M Q := wp_step rfl rfl rfl rfl rfl
theorem u193_82 : wp scr n mb_193 82 L (a4 :: a3 :: a2 :: .ref a :: st) M Q ↔ ((mw_r M a 6 ∧ mw_st st) ∧ Wp scr n 186 [.ref a, a2, a3, a4] M (fun r1 M1 => wp scr n mb_193 85 L (r1.toList ++ st) M1 Q)) := wp_vir rfl rfl rfl rfl rfl
theorem u193_85 : wp scr n mb_193 85 [l0, l1, l2, l3, some (.int x)] st M Q ↔ wp scr n mb_193 87 [l0, l1, l2, l3, some (.int x)] (.int x :: st) M Q := wp_step rfl rfl rfl rfl rfl
theorem u193_87 : wp scr n mb_193 87 L (.int x :: st) M Q ↔ (if x = 0 then wp scr n mb_193 90 L st M Q else wp scr n mb_193 97 L st M Q) := (wp_step rfl rfl rfl rfl rfl).trans wp_iten
theorem u193_90 : wp scr n mb_193 90 [some (.ref a), l1, l2, l3, l4] st M Q ↔ wp scr n mb_193 91 [some (.ref a), l1, l2, l3, l4] (.ref a :: st) M Q := wp_step rfl rfl rfl rfl rfl
theorem u193_91 : wp scr n mb_193 91 L (o :: st) M Q ↔ mw_o (mm_fld (mc_X scr) M o 6 14) (fun v => wp scr n mb_193 94 L (v :: st) M Q) := wp_getf rfl
theorem u193_94 : wp scr n mb_193 94 L st M Q ↔ wp scr n mb_193 101 L st M Q := wp_step rfl rfl rfl rfl rfl
theorem u193_97 : wp scr n mb_193 97 [some (.ref a), l1, l2, l3, l4] st M Q ↔ wp scr n mb_193 98 [some (.ref a), l1, l2, l3, l4] (.ref a :: st) M Q := wp_step rfl rfl rfl rfl rfl
theorem u193_98 : wp scr n mb_193 98 L (o :: st) M Q ↔ mw_o (mm_fld (mc_X scr) M o 6 15) (fun v => wp scr n mb_193 101 L (v :: st) M Q) := wp_getf rfl
theorem u193_101 : wp scr n mb_193 101 L [.int x] M Q ↔ Q (some (.int x)) M := wp_ret rfl rfl
theorem e193 : Wp scr (n + 1) 193 [.ref a0, .int x1, .int x2, .int x3, .int x4] M Q ↔ wp scr n mb_193 0 [some (.ref a0), some (.int x1), some (.int x2), some (.int x3), some (.int x4)] [] M Q := Wp_to rfl rfl rfl
/-- SmallerInTheShopModel most (III)I -/
def mb_194 : mw_B := ((Option.some FieldType.int), mp_194)
theorem u194_0 : wp scr n mb_194 0 [l0, some (.int x), l2, l3] st M Q ↔ wp scr n mb_194 1 [l0, some (.int x), l2, l3] (.int x :: st) M Q := wp_step rfl rfl rfl rfl rfl
theorem u194_1 : wp scr n mb_194 1 L (.int x :: st) M Q ↔ (if x < 0 then wp scr n mb_194 9 L st M Q else wp scr n mb_194 4 L st M Q) := (wp_step rfl rfl rfl rfl rfl).trans wp_ite
theorem u194_4 : wp scr n mb_194 4 [l0, l1, some (.int x), l3] st M Q ↔ wp scr n mb_194 5 [l0, l1, some (.int x), l3] (.int x :: st) M Q := wp_step rfl rfl rfl rfl rfl
theorem u194_5 : wp scr n mb_194 5 L st M Q ↔ wp scr n mb_194 6 L (.int 1 :: st) M Q := wp_step rfl rfl rfl rfl rfl
theorem u194_6 : wp scr n mb_194 6 L (.int y :: .int x :: st) M Q ↔ (if y ≤ x then wp scr n mb_194 16 L st M Q else wp scr n mb_194 9 L st M Q) := (wp_step rfl rfl rfl rfl rfl).trans wp_ite
theorem u194_9 : wp scr n mb_194 9 [some (.ref a), l1, l2, l3] st M Q ↔ wp scr n mb_194 10 [some (.ref a), l1, l2, l3] (.ref a :: st) M Q := wp_step rfl rfl rfl rfl rfl
theorem u194_10 : wp scr n mb_194 10 L st M Q ↔ wp scr n mb_194 12 L (.int (-4) :: st) M Q := wp_step rfl rfl rfl rfl rfl
theorem u194_12 : wp scr n mb_194 12 L (a2 :: .ref a :: st) M Q ↔ ((mw_r M a 6 ∧ mw_st st) ∧ Wp scr n 141 [.ref a, a2] M (fun r1 M1 => wp scr n mb_194 15 L (r1.toList ++ st) M1 Q)) := wp_vir rfl rfl rfl rfl rfl
theorem u194_15 : wp scr n mb_194 15 L [.int x] M Q ↔ Q (some (.int x)) M := wp_ret rfl rfl
theorem u194_16 : wp scr n mb_194 16 [l0, some (.int x), l2, l3] st M Q ↔ wp scr n mb_194 17 [l0, some (.int x), l2, l3] (.int x :: st) M Q := wp_step rfl rfl rfl rfl rfl
theorem u194_17 : wp scr n mb_194 17 L st M Q ↔ wp scr n mb_194 20 L (.int 255 :: st) M Q := wp_step rfl rfl rfl rfl rfl
theorem u194_20 : wp scr n mb_194 20 L (.int y :: .int x :: st) M Q ↔ (if y < x then wp scr n mb_194 29 L st M Q else wp scr n mb_194 23 L st M Q) := (wp_step rfl rfl rfl rfl rfl).trans wp_ite
theorem u194_23 : wp scr n mb_194 23 [l0, l1, some (.int x), l3] st M Q ↔ wp scr n mb_194 24 [l0, l1, some (.int x), l3] (.int x :: st) M Q := wp_step rfl rfl rfl rfl rfl
theorem u194_24 : wp scr n mb_194 24 L st M Q ↔ wp scr n mb_194 26 L (.int 8 :: st) M Q := wp_step rfl rfl rfl rfl rfl
theorem u194_26 : wp scr n mb_194 26 L (.int y :: .int x :: st) M Q ↔ (if x ≤ y then wp scr n mb_194 36 L st M Q else wp scr n mb_194 29 L st M Q) := (wp_step rfl rfl rfl rfl rfl).trans wp_ite
theorem u194_29 : wp scr n mb_194 29 [some (.ref a), l1, l2, l3] st M Q ↔ wp scr n mb_194 30 [some (.ref a), l1, l2, l3] (.ref a :: st) M Q := wp_step rfl rfl rfl rfl rfl
theorem u194_30 : wp scr n mb_194 30 L st M Q ↔ wp scr n mb_194 32 L (.int (-6) :: st) M Q := wp_step rfl rfl rfl rfl rfl
theorem u194_32 : wp scr n mb_194 32 L (a2 :: .ref a :: st) M Q ↔ ((mw_r M a 6 ∧ mw_st st) ∧ Wp scr n 141 [.ref a, a2] M (fun r1 M1 => wp scr n mb_194 35 L (r1.toList ++ st) M1 Q)) := wp_vir rfl rfl rfl rfl rfl
theorem u194_35 : wp scr n mb_194 35 L [.int x] M Q ↔ Q (some (.int x)) M := wp_ret rfl rfl
theorem u194_36 : wp scr n mb_194 36 [l0, l1, l2, some (.int x)] st M Q ↔ wp scr n mb_194 37 [l0, l1, l2, some (.int x)] (.int x :: st) M Q := wp_step rfl rfl rfl rfl rfl
theorem u194_37 : wp scr n mb_194 37 L (.int x :: st) M Q ↔ wp scr n mb_194 38 L (.long x.toInt64 :: st) M Q := wp_step rfl rfl rfl rfl rfl
theorem u194_38 : wp scr n mb_194 38 L st M Q ↔ wp scr n mb_194 39 L (.long 0 :: st) M Q := wp_step rfl rfl rfl rfl rfl
theorem u194_39 : wp scr n mb_194 39 L st M Q ↔ wp scr n mb_194 40 L (.long 1 :: st) M Q := wp_step rfl rfl rfl rfl rfl
theorem u194_40 : wp scr n mb_194 40 L (a3 :: a2 :: a1 :: st) M Q ↔ (mw_st st ∧ Wp scr n 146 [a1, a2, a3] M (fun r1 M1 => wp scr n mb_194 43 L (r1.toList ++ st) M1 Q)) := wp_sta rfl rfl rfl rfl
theorem u194_43 : wp scr n mb_194 43 L (.int x :: st) M Q ↔ (if x = 0 then wp scr n mb_194 46 L st M Q else wp scr n mb_194 53 L st M Q) := (wp_step rfl rfl rfl rfl rfl).trans wp_iten
theorem u194_46 : wp scr n mb_194 46 [some (.ref a), l1, l2, l3] st M Q ↔ wp scr n mb_194 47 [some (.ref a), l1, l2, l3] (.ref a :: st) M Q := wp_step rfl rfl rfl rfl rfl
theorem u194_47 : wp scr n mb_194 47 L st M Q ↔ wp scr n mb_194 49 L (.int (-2) :: st) M Q := wp_step rfl rfl rfl rfl rfl
theorem u194_49 : wp scr n mb_194 49 L (a2 :: .ref a :: st) M Q ↔ ((mw_r M a 6 ∧ mw_st st) ∧ Wp scr n 141 [.ref a, a2] M (fun r1 M1 => wp scr n mb_194 52 L (r1.toList ++ st) M1 Q)) := wp_vir rfl rfl rfl rfl rfl
theorem u194_52 : wp scr n mb_194 52 L [.int x] M Q ↔ Q (some (.int x)) M := wp_ret rfl rfl
theorem u194_53 : wp scr n mb_194 53 [some (.ref a), l1, l2, l3] st M Q ↔ wp scr n mb_194 54 [some (.ref a), l1, l2, l3] (.ref a :: st) M Q := wp_step rfl rfl rfl rfl rfl
theorem u194_54 : wp scr n mb_194 54 L st M Q ↔ wp scr n mb_194 55 L (.int 3 :: st) M Q := wp_step rfl rfl rfl rfl rfl
theorem u194_55 : wp scr n mb_194 55 [l0, some (.int x), l2, l3] st M Q ↔ wp scr n mb_194 56 [l0, some (.int x), l2, l3] (.int x :: st) M Q := wp_step rfl rfl rfl rfl rfl
theorem u194_56 : wp scr n mb_194 56 [l0, l1, some (.int x), l3] st M Q ↔ wp scr n mb_194 57 [l0, l1, some (.int x), l3] (.int x :: st) M Q := wp_step rfl rfl rfl rfl rfl
theorem u194_57 : wp scr n mb_194 57 L (a4 :: a3 :: a2 :: .ref a :: st) M Q ↔ ((mw_r M a 6 ∧ mw_st st) ∧ Wp scr n 186 [.ref a, a2, a3, a4] M (fun r1 M1 => wp scr n mb_194 60 L (r1.toList ++ st) M1 Q)) := wp_vir rfl rfl rfl rfl rfl
theorem u194_60 : wp scr n mb_194 60 [l0, l1, l2, some (.int x)] st M Q ↔ wp scr n mb_194 61 [l0, l1, l2, some (.int x)] (.int x :: st) M Q := wp_step rfl rfl rfl rfl rfl
theorem u194_61 : wp scr n mb_194 61 L st M Q ↔ wp scr n mb_194 62 L (.int 1 :: st) M Q := wp_step rfl rfl rfl rfl rfl
theorem u194_62 : wp scr n mb_194 62 L (.int y :: .int x :: st) M Q ↔ (if x = y then wp scr n mb_194 74 L st M Q else wp scr n mb_194 65 L st M Q) := (wp_step rfl rfl rfl rfl rfl).trans wp_ite
theorem u194_65 : wp scr n mb_194 65 [some (.ref a), l1, l2, l3] st M Q ↔ wp scr n mb_194 66 [some (.ref a), l1, l2, l3] (.ref a :: st) M Q := wp_step rfl rfl rfl rfl rfl
theorem u194_66 : wp scr n mb_194 66 L (o :: st) M Q ↔ mw_o (mm_fld (mc_X scr) M o 6 14) (fun v => wp scr n mb_194 69 L (v :: st) M Q) := wp_getf rfl
theorem u194_69 : wp scr n mb_194 69 L st M Q ↔ wp scr n mb_194 71 L (.int (-9) :: st) M Q := wp_step rfl rfl rfl rfl rfl
theorem u194_71 : wp scr n mb_194 71 L (.int y :: .int x :: st) M Q ↔ (if x = y then wp scr n mb_194 74 L st M Q else wp scr n mb_194 81 L st M Q) := (wp_step rfl rfl rfl rfl rfl).trans wp_iten
theorem u194_74 : wp scr n mb_194 74 [some (.ref a), l1, l2, l3] st M Q ↔ wp scr n mb_194 75 [some (.ref a), l1, l2, l3] (.ref a :: st) M Q := wp_step rfl rfl rfl rfl rfl
theorem u194_75 : wp scr n mb_194 75 L (o :: st) M Q ↔ mw_o (mm_fld (mc_X scr) M o 6 14) (fun v => wp scr n mb_194 78 L (v :: st) M Q) := wp_getf rfl
theorem u194_78 : wp scr n mb_194 78 L st M Q ↔ wp scr n mb_194 86 L st M Q := wp_step rfl rfl rfl rfl rfl
theorem u194_81 : wp scr n mb_194 81 [some (.ref a), l1, l2, l3] st M Q ↔ wp scr n mb_194 82 [some (.ref a), l1, l2, l3] (.ref a :: st) M Q := wp_step rfl rfl rfl rfl rfl
theorem u194_82 : wp scr n mb_194 82 L (o :: st) M Q ↔ mw_o (mm_fld (mc_X scr) M o 6 15) (fun v => wp scr n mb_194 85 L (v :: st) M Q) := wp_getf rfl
theorem u194_85 : wp scr n mb_194 85 L (.int x :: st) M Q ↔ wp scr n mb_194 86 L (.int (-x) :: st) M Q := wp_step rfl rfl rfl rfl rfl
theorem u194_86 : wp scr n mb_194 86 L [.int x] M Q ↔ Q (some (.int x)) M := wp_ret rfl rfl
theorem e194 : Wp scr (n + 1) 194 [.ref a0, .int x1, .int x2, .int x3] M Q ↔ wp scr n mb_194 0 [some (.ref a0), some (.int x1), some (.int x2), some (.int x3)] [] M Q := Wp_to rfl rfl rfl
/-- SmallerInTheShopModel layers ()I -/
def mb_195 : mw_B := ((Option.some FieldType.int), mp_195)
theorem u195_0 : wp scr n mb_195 0 [some (.ref a)] st M Q ↔ wp scr n mb_195 1 [some (.ref a)] (.ref a :: st) M Q := wp_step rfl rfl rfl rfl rfl
theorem u195_1 : wp scr n mb_195 1 L (.ref a :: st) M Q ↔ ((mw_r M a 6 ∧ mw_st st) ∧ Wp scr n 196 [.ref a] M (fun r1 M1 => wp scr n mb_195 4 L (r1.toList ++ st) M1 Q)) := wp_vir rfl rfl rfl rfl rfl
theorem u195_4 : wp scr n mb_195 4 L (.int x :: st) M Q ↔ (if x = 0 then wp scr n mb_195 7 L st M Q else wp scr n mb_195 10 L st M Q) := (wp_step rfl rfl rfl rfl rfl).trans wp_iten
theorem u195_7 : wp scr n mb_195 7 L st M Q ↔ wp scr n mb_195 9 L (.int (-9) :: st) M Q := wp_step rfl rfl rfl rfl rfl
theorem u195_9 : wp scr n mb_195 9 L [.int x] M Q ↔ Q (some (.int x)) M := wp_ret rfl rfl
theorem u195_10 : wp scr n mb_195 10 [some (.ref a)] st M Q ↔ wp scr n mb_195 11 [some (.ref a)] (.ref a :: st) M Q := wp_step rfl rfl rfl rfl rfl
theorem u195_11 : wp scr n mb_195 11 L st M Q ↔ wp scr n mb_195 12 L (.int 4 :: st) M Q := wp_step rfl rfl rfl rfl rfl
theorem u195_12 : wp scr n mb_195 12 L st M Q ↔ wp scr n mb_195 13 L (.int 0 :: st) M Q := wp_step rfl rfl rfl rfl rfl
theorem u195_13 : wp scr n mb_195 13 L st M Q ↔ wp scr n mb_195 14 L (.int 0 :: st) M Q := wp_step rfl rfl rfl rfl rfl
theorem u195_14 : wp scr n mb_195 14 L (a4 :: a3 :: a2 :: .ref a :: st) M Q ↔ ((mw_r M a 6 ∧ mw_st st) ∧ Wp scr n 186 [.ref a, a2, a3, a4] M (fun r1 M1 => wp scr n mb_195 17 L (r1.toList ++ st) M1 Q)) := wp_vir rfl rfl rfl rfl rfl
theorem u195_17 : wp scr n mb_195 17 [some (.ref a)] st M Q ↔ wp scr n mb_195 18 [some (.ref a)] (.ref a :: st) M Q := wp_step rfl rfl rfl rfl rfl
theorem u195_18 : wp scr n mb_195 18 L (o :: st) M Q ↔ mw_o (mm_fld (mc_X scr) M o 6 14) (fun v => wp scr n mb_195 21 L (v :: st) M Q) := wp_getf rfl
theorem u195_21 : wp scr n mb_195 21 L [.int x] M Q ↔ Q (some (.int x)) M := wp_ret rfl rfl
theorem e195 : Wp scr (n + 1) 195 [.ref a0] M Q ↔ wp scr n mb_195 0 [some (.ref a0)] [] M Q := Wp_to rfl rfl rfl
/-- SmallerInTheShopModel tellsAll ()Z -/
def mb_196 : mw_B := ((Option.some FieldType.boolean), mp_196)
theorem u196_0 : wp scr n mb_196 0 L st M Q ↔ wp scr n mb_196 1 L (.int 0 :: st) M Q := wp_step rfl rfl rfl rfl rfl
theorem u196_1 : wp scr n mb_196 1 [l0, l1, l2] (.int x :: st) M Q ↔ wp scr n mb_196 2 (mm_sto1 [l0, l1, l2] 1 (.int x)) st M Q := wp_step rfl rfl rfl rfl rfl
theorem u196_2 : wp scr n mb_196 2 L st M Q ↔ wp scr n mb_196 3 L (.int 0 :: st) M Q := wp_step rfl rfl rfl rfl rfl
theorem u196_3 : wp scr n mb_196 3 [l0, l1, l2] (.int x :: st) M Q ↔ wp scr n mb_196 4 (mm_sto1 [l0, l1, l2] 2 (.int x)) st M Q := wp_step rfl rfl rfl rfl rfl
theorem u196_4 : wp scr n mb_196 4 [l0, l1, some (.int x)] st M Q ↔ wp scr n mb_196 5 [l0, l1, some (.int x)] (.int x :: st) M Q := wp_step rfl rfl rfl rfl rfl
theorem u196_5 : wp scr n mb_196 5 [some (.ref a), l1, l2] st M Q ↔ wp scr n mb_196 6 [some (.ref a), l1, l2] (.ref a :: st) M Q := wp_step rfl rfl rfl rfl rfl
theorem u196_6 : wp scr n mb_196 6 L (o :: st) M Q ↔ mw_o (mm_fld (mc_X scr) M o 6 6) (fun v => wp scr n mb_196 9 L (v :: st) M Q) := wp_getf rfl
theorem u196_9 : wp scr n mb_196 9 L (.int y :: .int x :: st) M Q ↔ (if y ≤ x then wp scr n mb_196 44 L st M Q else wp scr n mb_196 12 L st M Q) := (wp_step rfl rfl rfl rfl rfl).trans wp_ite
theorem u196_12 : wp scr n mb_196 12 [l0, some (.int x), l2] st M Q ↔ wp scr n mb_196 13 [l0, some (.int x), l2] (.int x :: st) M Q := wp_step rfl rfl rfl rfl rfl
theorem u196_13 : wp scr n mb_196 13 [some (.ref a), l1, l2] st M Q ↔ wp scr n mb_196 14 [some (.ref a), l1, l2] (.ref a :: st) M Q := wp_step rfl rfl rfl rfl rfl
theorem u196_14 : wp scr n mb_196 14 L (o :: st) M Q ↔ mw_o (mm_fld (mc_X scr) M o 6 5) (fun v => wp scr n mb_196 17 L (v :: st) M Q) := wp_getf rfl
theorem u196_17 : wp scr n mb_196 17 [l0, l1, some (.int x)] st M Q ↔ wp scr n mb_196 18 [l0, l1, some (.int x)] (.int x :: st) M Q := wp_step rfl rfl rfl rfl rfl
theorem u196_18 : wp scr n mb_196 18 L (.int y :: o :: st) M Q ↔ mw_o (mm_ld (mc_X scr) M o y) (fun x => wp scr n mb_196 19 L (.int x :: st) M Q) := wp_iald rfl
theorem u196_19 : wp scr n mb_196 19 L st M Q ↔ wp scr n mb_196 21 L (.int 8 :: st) M Q := wp_step rfl rfl rfl rfl rfl
theorem u196_21 : wp scr n mb_196 21 L (.int y :: .int x :: st) M Q ↔ (if y ≤ x then wp scr n mb_196 35 L st M Q else wp scr n mb_196 24 L st M Q) := (wp_step rfl rfl rfl rfl rfl).trans wp_ite
theorem u196_24 : wp scr n mb_196 24 L st M Q ↔ wp scr n mb_196 25 L (.int 1 :: st) M Q := wp_step rfl rfl rfl rfl rfl
theorem u196_25 : wp scr n mb_196 25 [some (.ref a), l1, l2] st M Q ↔ wp scr n mb_196 26 [some (.ref a), l1, l2] (.ref a :: st) M Q := wp_step rfl rfl rfl rfl rfl
theorem u196_26 : wp scr n mb_196 26 L (o :: st) M Q ↔ mw_o (mm_fld (mc_X scr) M o 6 5) (fun v => wp scr n mb_196 29 L (v :: st) M Q) := wp_getf rfl
theorem u196_29 : wp scr n mb_196 29 [l0, l1, some (.int x)] st M Q ↔ wp scr n mb_196 30 [l0, l1, some (.int x)] (.int x :: st) M Q := wp_step rfl rfl rfl rfl rfl
theorem u196_30 : wp scr n mb_196 30 L (.int y :: o :: st) M Q ↔ mw_o (mm_ld (mc_X scr) M o y) (fun x => wp scr n mb_196 31 L (.int x :: st) M Q) := wp_iald rfl
theorem u196_31 : wp scr n mb_196 31 L (.int y :: .int x :: st) M Q ↔ wp scr n mb_196 32 L (.int (x <<< (y &&& 31)) :: st) M Q := wp_step rfl rfl rfl rfl rfl
theorem u196_32 : wp scr n mb_196 32 L st M Q ↔ wp scr n mb_196 36 L st M Q := wp_step rfl rfl rfl rfl rfl
theorem u196_35 : wp scr n mb_196 35 L st M Q ↔ wp scr n mb_196 36 L (.int 0 :: st) M Q := wp_step rfl rfl rfl rfl rfl
theorem u196_36 : wp scr n mb_196 36 L (.int y :: .int x :: st) M Q ↔ wp scr n mb_196 37 L (.int (x ||| y) :: st) M Q := wp_step rfl rfl rfl rfl rfl
theorem u196_37 : wp scr n mb_196 37 [l0, l1, l2] (.int x :: st) M Q ↔ wp scr n mb_196 38 (mm_sto1 [l0, l1, l2] 1 (.int x)) st M Q := wp_step rfl rfl rfl rfl rfl
theorem u196_38 : wp scr n mb_196 38 [l0, l1, some (.int x)] st M Q ↔ wp scr n mb_196 41 (mm_sto1 [l0, l1, some (.int x)] 2 (.int (x + 1))) st M Q := wp_step rfl rfl rfl rfl rfl
theorem u196_41 : wp scr n mb_196 41 L st M Q ↔ wp scr n mb_196 4 L st M Q := wp_step rfl rfl rfl rfl rfl
theorem u196_44 : wp scr n mb_196 44 [some (.ref a), l1, l2] st M Q ↔ wp scr n mb_196 45 [some (.ref a), l1, l2] (.ref a :: st) M Q := wp_step rfl rfl rfl rfl rfl
theorem u196_45 : wp scr n mb_196 45 L (o :: st) M Q ↔ mw_o (mm_fld (mc_X scr) M o 6 6) (fun v => wp scr n mb_196 48 L (v :: st) M Q) := wp_getf rfl
theorem u196_48 : wp scr n mb_196 48 L st M Q ↔ wp scr n mb_196 50 L (.int 8 :: st) M Q := wp_step rfl rfl rfl rfl rfl
theorem u196_50 : wp scr n mb_196 50 L (.int y :: .int x :: st) M Q ↔ (if x = y then wp scr n mb_196 53 L st M Q else wp scr n mb_196 64 L st M Q) := (wp_step rfl rfl rfl rfl rfl).trans wp_iten
theorem u196_53 : wp scr n mb_196 53 [l0, some (.int x), l2] st M Q ↔ wp scr n mb_196 54 [l0, some (.int x), l2] (.int x :: st) M Q := wp_step rfl rfl rfl rfl rfl
theorem u196_54 : wp scr n mb_196 54 L st M Q ↔ wp scr n mb_196 57 L (.int 255 :: st) M Q := wp_step rfl rfl rfl rfl rfl
theorem u196_57 : wp scr n mb_196 57 L (.int y :: .int x :: st) M Q ↔ (if x = y then wp scr n mb_196 60 L st M Q else wp scr n mb_196 64 L st M Q) := (wp_step rfl rfl rfl rfl rfl).trans wp_iten
theorem u196_60 : wp scr n mb_196 60 L st M Q ↔ wp scr n mb_196 61 L (.int 1 :: st) M Q := wp_step rfl rfl rfl rfl rfl
theorem u196_61 : wp scr n mb_196 61 L st M Q ↔ wp scr n mb_196 65 L st M Q := wp_step rfl rfl rfl rfl rfl
theorem u196_64 : wp scr n mb_196 64 L st M Q ↔ wp scr n mb_196 65 L (.int 0 :: st) M Q := wp_step rfl rfl rfl rfl rfl
theorem u196_65 : wp scr n mb_196 65 L [.int x] M Q ↔ ((x = 0 ∨ x = 1) ∧ Q (some (.int x)) M) := wp_retb rfl rfl
theorem e196 : Wp scr (n + 1) 196 [.ref a0] M Q ↔ wp scr n mb_196 0 [some (.ref a0), none, none] [] M Q := Wp_to rfl rfl rfl
/-- SmallerInTheShopModel lasts (II)I -/
def mb_197 : mw_B := ((Option.some FieldType.int), mp_197)
theorem u197_0 : wp scr n mb_197 0 [some (.ref a), l1, l2] st M Q ↔ wp scr n mb_197 1 [some (.ref a), l1, l2] (.ref a :: st) M Q := wp_step rfl rfl rfl rfl rfl
theorem u197_1 : wp scr n mb_197 1 L (o :: st) M Q ↔ mw_o (mm_fld (mc_X scr) M o 6 0) (fun v => wp scr n mb_197 4 L (v :: st) M Q) := wp_getf rfl
theorem u197_4 : wp scr n mb_197 4 [l0, some (.int x), l2] st M Q ↔ wp scr n mb_197 5 [l0, some (.int x), l2] (.int x :: st) M Q := wp_step rfl rfl rfl rfl rfl
theorem u197_5 : wp scr n mb_197 5 L (a2 :: a1 :: st) M Q ↔ (mw_st st ∧ Wp scr n 150 [a1, a2] M (fun r1 M1 => wp scr n mb_197 8 L (r1.toList ++ st) M1 Q)) := wp_sta rfl rfl rfl rfl
theorem u197_8 : wp scr n mb_197 8 L (.int x :: st) M Q ↔ (if x = 0 then wp scr n mb_197 11 L st M Q else wp scr n mb_197 17 L st M Q) := (wp_step rfl rfl rfl rfl rfl).trans wp_iten
theorem u197_11 : wp scr n mb_197 11 [some (.ref a), l1, l2] st M Q ↔ wp scr n mb_197 12 [some (.ref a), l1, l2] (.ref a :: st) M Q := wp_step rfl rfl rfl rfl rfl
theorem u197_12 : wp scr n mb_197 12 L st M Q ↔ wp scr n mb_197 13 L (.int (-1) :: st) M Q := wp_step rfl rfl rfl rfl rfl
theorem u197_13 : wp scr n mb_197 13 L (a2 :: .ref a :: st) M Q ↔ ((mw_r M a 6 ∧ mw_st st) ∧ Wp scr n 141 [.ref a, a2] M (fun r1 M1 => wp scr n mb_197 16 L (r1.toList ++ st) M1 Q)) := wp_vir rfl rfl rfl rfl rfl
theorem u197_16 : wp scr n mb_197 16 L [.int x] M Q ↔ Q (some (.int x)) M := wp_ret rfl rfl
theorem u197_17 : wp scr n mb_197 17 [l0, l1, some (.int x)] st M Q ↔ wp scr n mb_197 18 [l0, l1, some (.int x)] (.int x :: st) M Q := wp_step rfl rfl rfl rfl rfl
theorem u197_18 : wp scr n mb_197 18 L (.int x :: st) M Q ↔ wp scr n mb_197 19 L (.long x.toInt64 :: st) M Q := wp_step rfl rfl rfl rfl rfl
theorem u197_19 : wp scr n mb_197 19 L st M Q ↔ wp scr n mb_197 20 L (.long 0 :: st) M Q := wp_step rfl rfl rfl rfl rfl
theorem u197_20 : wp scr n mb_197 20 L st M Q ↔ wp scr n mb_197 23 L (.long (3) :: st) M Q := wp_step rfl rfl rfl rfl rfl
theorem u197_23 : wp scr n mb_197 23 L (a3 :: a2 :: a1 :: st) M Q ↔ (mw_st st ∧ Wp scr n 146 [a1, a2, a3] M (fun r1 M1 => wp scr n mb_197 26 L (r1.toList ++ st) M1 Q)) := wp_sta rfl rfl rfl rfl
theorem u197_26 : wp scr n mb_197 26 L (.int x :: st) M Q ↔ (if x = 0 then wp scr n mb_197 29 L st M Q else wp scr n mb_197 36 L st M Q) := (wp_step rfl rfl rfl rfl rfl).trans wp_iten
theorem u197_29 : wp scr n mb_197 29 [some (.ref a), l1, l2] st M Q ↔ wp scr n mb_197 30 [some (.ref a), l1, l2] (.ref a :: st) M Q := wp_step rfl rfl rfl rfl rfl
theorem u197_30 : wp scr n mb_197 30 L st M Q ↔ wp scr n mb_197 32 L (.int (-2) :: st) M Q := wp_step rfl rfl rfl rfl rfl
theorem u197_32 : wp scr n mb_197 32 L (a2 :: .ref a :: st) M Q ↔ ((mw_r M a 6 ∧ mw_st st) ∧ Wp scr n 141 [.ref a, a2] M (fun r1 M1 => wp scr n mb_197 35 L (r1.toList ++ st) M1 Q)) := wp_vir rfl rfl rfl rfl rfl
theorem u197_35 : wp scr n mb_197 35 L [.int x] M Q ↔ Q (some (.int x)) M := wp_ret rfl rfl
theorem u197_36 : wp scr n mb_197 36 [some (.ref a), l1, l2] st M Q ↔ wp scr n mb_197 37 [some (.ref a), l1, l2] (.ref a :: st) M Q := wp_step rfl rfl rfl rfl rfl
theorem u197_37 : wp scr n mb_197 37 L (o :: st) M Q ↔ mw_o (mm_fld (mc_X scr) M o 6 0) (fun v => wp scr n mb_197 40 L (v :: st) M Q) := wp_getf rfl
theorem u197_40 : wp scr n mb_197 40 [some (.ref a), l1, l2] st M Q ↔ wp scr n mb_197 41 [some (.ref a), l1, l2] (.ref a :: st) M Q := wp_step rfl rfl rfl rfl rfl
theorem u197_41 : wp scr n mb_197 41 L (o :: st) M Q ↔ mw_o (mm_fld (mc_X scr) M o 6 2) (fun v => wp scr n mb_197 44 L (v :: st) M Q) := wp_getf rfl
theorem u197_44 : wp scr n mb_197 44 L st M Q ↔ wp scr n mb_197 45 L (.int 1 :: st) M Q := wp_step rfl rfl rfl rfl rfl
theorem u197_45 : wp scr n mb_197 45 L (.int y :: .ref a :: st) M Q ↔ mw_o (mm_lda M a y) (fun v => wp scr n mb_197 46 L (v :: st) M Q) := wp_aald rfl
theorem u197_46 : wp scr n mb_197 46 L (a2 :: a1 :: st) M Q ↔ (mw_st st ∧ Wp scr n 147 [a1, a2] M (fun r1 M1 => wp scr n mb_197 49 L (r1.toList ++ st) M1 Q)) := wp_sta rfl rfl rfl rfl
theorem u197_49 : wp scr n mb_197 49 [some (.ref a), l1, l2] st M Q ↔ wp scr n mb_197 50 [some (.ref a), l1, l2] (.ref a :: st) M Q := wp_step rfl rfl rfl rfl rfl
theorem u197_50 : wp scr n mb_197 50 [l0, some (.int x), l2] st M Q ↔ wp scr n mb_197 51 [l0, some (.int x), l2] (.int x :: st) M Q := wp_step rfl rfl rfl rfl rfl
theorem u197_51 : wp scr n mb_197 51 [l0, l1, some (.int x)] st M Q ↔ wp scr n mb_197 52 [l0, l1, some (.int x)] (.int x :: st) M Q := wp_step rfl rfl rfl rfl rfl
theorem u197_52 : wp scr n mb_197 52 L (a3 :: a2 :: .ref a :: st) M Q ↔ ((mw_r M a 6 ∧ mw_st st) ∧ Wp scr n 198 [.ref a, a2, a3] M (fun r1 M1 => wp scr n mb_197 55 L (r1.toList ++ st) M1 Q)) := wp_vir rfl rfl rfl rfl rfl
theorem u197_55 : wp scr n mb_197 55 L [.int x] M Q ↔ Q (some (.int x)) M := wp_ret rfl rfl
theorem e197 : Wp scr (n + 1) 197 [.ref a0, .int x1, .int x2] M Q ↔ wp scr n mb_197 0 [some (.ref a0), some (.int x1), some (.int x2)] [] M Q := Wp_to rfl rfl rfl
/-- SmallerInTheShopModel times (II)I -/
def mb_198 : mw_B := ((Option.some FieldType.int), mp_198)
theorem u198_0 : wp scr n mb_198 0 [some (.ref a), l1, l2, l3, l4, l5] st M Q ↔ wp scr n mb_198 1 [some (.ref a), l1, l2, l3, l4, l5] (.ref a :: st) M Q := wp_step rfl rfl rfl rfl rfl
theorem u198_1 : wp scr n mb_198 1 L (o :: st) M Q ↔ mw_o (mm_fld (mc_X scr) M o 6 2) (fun v => wp scr n mb_198 4 L (v :: st) M Q) := wp_getf rfl
theorem u198_4 : wp scr n mb_198 4 L st M Q ↔ wp scr n mb_198 5 L (.int 1 :: st) M Q := wp_step rfl rfl rfl rfl rfl
theorem u198_5 : wp scr n mb_198 5 L (.int y :: .ref a :: st) M Q ↔ mw_o (mm_lda M a y) (fun v => wp scr n mb_198 6 L (v :: st) M Q) := wp_aald rfl
theorem u198_6 : wp scr n mb_198 6 L (a1 :: st) M Q ↔ (mw_st st ∧ Wp scr n 199 [a1] M (fun r1 M1 => wp scr n mb_198 9 L (r1.toList ++ st) M1 Q)) := wp_sta rfl rfl rfl rfl
theorem u198_9 : wp scr n mb_198 9 L (a1 :: st) M Q ↔ (mw_st st ∧ Wp scr n 0 [a1] M (fun r1 M1 => wp scr n mb_198 12 L (r1.toList ++ st) M1 Q)) := wp_sta rfl rfl rfl rfl
theorem u198_12 : wp scr n mb_198 12 [l0, l1, l2, l3, l4, l5] (.int x :: st) M Q ↔ wp scr n mb_198 13 (mm_sto1 [l0, l1, l2, l3, l4, l5] 3 (.int x)) st M Q := wp_step rfl rfl rfl rfl rfl
theorem u198_13 : wp scr n mb_198 13 L st M Q ↔ wp scr n mb_198 14 L (.int 1 :: st) M Q := wp_step rfl rfl rfl rfl rfl
theorem u198_14 : wp scr n mb_198 14 [l0, l1, l2, l3, l4, l5] (.int x :: st) M Q ↔ wp scr n mb_198 16 (mm_sto1 [l0, l1, l2, l3, l4, l5] 4 (.int x)) st M Q := wp_step rfl rfl rfl rfl rfl
theorem u198_16 : wp scr n mb_198 16 [l0, l1, l2, l3, some (.int x), l5] st M Q ↔ wp scr n mb_198 18 [l0, l1, l2, l3, some (.int x), l5] (.int x :: st) M Q := wp_step rfl rfl rfl rfl rfl
theorem u198_18 : wp scr n mb_198 18 L st M Q ↔ wp scr n mb_198 20 L (.int 99 :: st) M Q := wp_step rfl rfl rfl rfl rfl
theorem u198_20 : wp scr n mb_198 20 L (.int y :: .int x :: st) M Q ↔ (if y ≤ x then wp scr n mb_198 71 L st M Q else wp scr n mb_198 23 L st M Q) := (wp_step rfl rfl rfl rfl rfl).trans wp_ite
theorem u198_23 : wp scr n mb_198 23 [some (.ref a), l1, l2, l3, l4, l5] st M Q ↔ wp scr n mb_198 24 [some (.ref a), l1, l2, l3, l4, l5] (.ref a :: st) M Q := wp_step rfl rfl rfl rfl rfl
theorem u198_24 : wp scr n mb_198 24 [some (.ref a), l1, l2, l3, l4, l5] st M Q ↔ wp scr n mb_198 25 [some (.ref a), l1, l2, l3, l4, l5] (.ref a :: st) M Q := wp_step rfl rfl rfl rfl rfl
theorem u198_25 : wp scr n mb_198 25 L (o :: st) M Q ↔ mw_o (mm_fld (mc_X scr) M o 6 2) (fun v => wp scr n mb_198 28 L (v :: st) M Q) := wp_getf rfl
theorem u198_28 : wp scr n mb_198 28 L st M Q ↔ wp scr n mb_198 29 L (.int 1 :: st) M Q := wp_step rfl rfl rfl rfl rfl
theorem u198_29 : wp scr n mb_198 29 L (.int y :: .ref a :: st) M Q ↔ mw_o (mm_lda M a y) (fun v => wp scr n mb_198 30 L (v :: st) M Q) := wp_aald rfl
theorem u198_30 : wp scr n mb_198 30 [l0, some (.int x), l2, l3, l4, l5] st M Q ↔ wp scr n mb_198 31 [l0, some (.int x), l2, l3, l4, l5] (.int x :: st) M Q := wp_step rfl rfl rfl rfl rfl
theorem u198_31 : wp scr n mb_198 31 [l0, l1, some (.int x), l3, l4, l5] st M Q ↔ wp scr n mb_198 32 [l0, l1, some (.int x), l3, l4, l5] (.int x :: st) M Q := wp_step rfl rfl rfl rfl rfl
theorem u198_32 : wp scr n mb_198 32 L (a4 :: a3 :: a2 :: .ref a :: st) M Q ↔ ((mw_r M a 6 ∧ mw_st st) ∧ Wp scr n 152 [.ref a, a2, a3, a4] M (fun r1 M1 => wp scr n mb_198 35 L (r1.toList ++ st) M1 Q)) := wp_vir rfl rfl rfl rfl rfl
theorem u198_35 : wp scr n mb_198 35 [l0, l1, l2, l3, l4, l5] (.int x :: st) M Q ↔ wp scr n mb_198 37 (mm_sto1 [l0, l1, l2, l3, l4, l5] 5 (.int x)) st M Q := wp_step rfl rfl rfl rfl rfl
theorem u198_37 : wp scr n mb_198 37 [some (.ref a), l1, l2, l3, l4, l5] st M Q ↔ wp scr n mb_198 38 [some (.ref a), l1, l2, l3, l4, l5] (.ref a :: st) M Q := wp_step rfl rfl rfl rfl rfl
theorem u198_38 : wp scr n mb_198 38 L (o :: st) M Q ↔ mw_o (mm_fld (mc_X scr) M o 6 2) (fun v => wp scr n mb_198 41 L (v :: st) M Q) := wp_getf rfl
theorem u198_41 : wp scr n mb_198 41 L st M Q ↔ wp scr n mb_198 42 L (.int 1 :: st) M Q := wp_step rfl rfl rfl rfl rfl
theorem u198_42 : wp scr n mb_198 42 L (.int y :: .ref a :: st) M Q ↔ mw_o (mm_lda M a y) (fun v => wp scr n mb_198 43 L (v :: st) M Q) := wp_aald rfl
theorem u198_43 : wp scr n mb_198 43 L (a1 :: st) M Q ↔ (mw_st st ∧ Wp scr n 164 [a1] M (fun r1 M1 => wp scr n mb_198 46 L (r1.toList ++ st) M1 Q)) := wp_sta rfl rfl rfl rfl
theorem u198_46 : wp scr n mb_198 46 [some (.ref a), l1, l2, l3, l4, l5] st M Q ↔ wp scr n mb_198 47 [some (.ref a), l1, l2, l3, l4, l5] (.ref a :: st) M Q := wp_step rfl rfl rfl rfl rfl
theorem u198_47 : wp scr n mb_198 47 L (o :: st) M Q ↔ mw_o (mm_fld (mc_X scr) M o 6 2) (fun v => wp scr n mb_198 50 L (v :: st) M Q) := wp_getf rfl
theorem u198_50 : wp scr n mb_198 50 L st M Q ↔ wp scr n mb_198 51 L (.int 1 :: st) M Q := wp_step rfl rfl rfl rfl rfl
theorem u198_51 : wp scr n mb_198 51 L (.int y :: .ref a :: st) M Q ↔ mw_o (mm_lda M a y) (fun v => wp scr n mb_198 52 L (v :: st) M Q) := wp_aald rfl
theorem u198_52 : wp scr n mb_198 52 L (a1 :: st) M Q ↔ (mw_st st ∧ Wp scr n 199 [a1] M (fun r1 M1 => wp scr n mb_198 55 L (r1.toList ++ st) M1 Q)) := wp_sta rfl rfl rfl rfl
theorem u198_55 : wp scr n mb_198 55 L (a1 :: st) M Q ↔ (mw_st st ∧ Wp scr n 0 [a1] M (fun r1 M1 => wp scr n mb_198 58 L (r1.toList ++ st) M1 Q)) := wp_sta rfl rfl rfl rfl
theorem u198_58 : wp scr n mb_198 58 [l0, l1, l2, some (.int x), l4, l5] st M Q ↔ wp scr n mb_198 59 [l0, l1, l2, some (.int x), l4, l5] (.int x :: st) M Q := wp_step rfl rfl rfl rfl rfl
theorem u198_59 : wp scr n mb_198 59 L (.int y :: .int x :: st) M Q ↔ (if x ≤ y then wp scr n mb_198 65 L st M Q else wp scr n mb_198 62 L st M Q) := (wp_step rfl rfl rfl rfl rfl).trans wp_ite
theorem u198_62 : wp scr n mb_198 62 [l0, l1, l2, l3, some (.int x), l5] st M Q ↔ wp scr n mb_198 64 [l0, l1, l2, l3, some (.int x), l5] (.int x :: st) M Q := wp_step rfl rfl rfl rfl rfl
theorem u198_64 : wp scr n mb_198 64 L [.int x] M Q ↔ Q (some (.int x)) M := wp_ret rfl rfl
theorem u198_65 : wp scr n mb_198 65 [l0, l1, l2, l3, some (.int x), l5] st M Q ↔ wp scr n mb_198 68 (mm_sto1 [l0, l1, l2, l3, some (.int x), l5] 4 (.int (x + 1))) st M Q := wp_step rfl rfl rfl rfl rfl
theorem u198_68 : wp scr n mb_198 68 L st M Q ↔ wp scr n mb_198 16 L st M Q := wp_step rfl rfl rfl rfl rfl
theorem u198_71 : wp scr n mb_198 71 L st M Q ↔ wp scr n mb_198 73 L (.int 99 :: st) M Q := wp_step rfl rfl rfl rfl rfl
theorem u198_73 : wp scr n mb_198 73 L [.int x] M Q ↔ Q (some (.int x)) M := wp_ret rfl rfl
theorem e198 : Wp scr (n + 1) 198 [.ref a0, .int x1, .int x2] M Q ↔ wp scr n mb_198 0 [some (.ref a0), some (.int x1), some (.int x2), none, none, none] [] M Q := Wp_to rfl rfl rfl
/-- SmallerInTheShopModel holes ([I)I -/
def mb_199 : mw_B := ((Option.some FieldType.int), mp_199)
theorem u199_0 : wp scr n mb_199 0 L st M Q ↔ wp scr n mb_199 1 L (.int 0 :: st) M Q := wp_step rfl rfl rfl rfl rfl
theorem u199_1 : wp scr n mb_199 1 [l0, l1, l2] (.int x :: st) M Q ↔ wp scr n mb_199 2 (mm_sto1 [l0, l1, l2] 1 (.int x)) st M Q := wp_step rfl rfl rfl rfl rfl
theorem u199_2 : wp scr n mb_199 2 L st M Q ↔ wp scr n mb_199 3 L (.int 0 :: st) M Q := wp_step rfl rfl rfl rfl rfl
theorem u199_3 : wp scr n mb_199 3 [l0, l1, l2] (.int x :: st) M Q ↔ wp scr n mb_199 4 (mm_sto1 [l0, l1, l2] 2 (.int x)) st M Q := wp_step rfl rfl rfl rfl rfl
theorem u199_4 : wp scr n mb_199 4 [l0, l1, some (.int x)] st M Q ↔ wp scr n mb_199 5 [l0, l1, some (.int x)] (.int x :: st) M Q := wp_step rfl rfl rfl rfl rfl
theorem u199_5 : wp scr n mb_199 5 L st M Q ↔ wp scr n mb_199 6 L (.int 3 :: st) M Q := wp_step rfl rfl rfl rfl rfl
theorem u199_6 : wp scr n mb_199 6 L (.int y :: .int x :: st) M Q ↔ (if y ≤ x then wp scr n mb_199 35 L st M Q else wp scr n mb_199 9 L st M Q) := (wp_step rfl rfl rfl rfl rfl).trans wp_ite
theorem u199_9 : wp scr n mb_199 9 [l0, some (.int x), l2] st M Q ↔ wp scr n mb_199 10 [l0, some (.int x), l2] (.int x :: st) M Q := wp_step rfl rfl rfl rfl rfl
theorem u199_10 : wp scr n mb_199 10 [some (.ref a), l1, l2] st M Q ↔ wp scr n mb_199 11 [some (.ref a), l1, l2] (.ref a :: st) M Q := wp_step rfl rfl rfl rfl rfl
theorem u199_11 : wp scr n mb_199 11 [l0, l1, some (.int x)] st M Q ↔ wp scr n mb_199 12 [l0, l1, some (.int x)] (.int x :: st) M Q := wp_step rfl rfl rfl rfl rfl
theorem u199_12 : wp scr n mb_199 12 L (a2 :: a1 :: st) M Q ↔ (mw_st st ∧ Wp scr n 200 [a1, a2] M (fun r1 M1 => wp scr n mb_199 15 L (r1.toList ++ st) M1 Q)) := wp_sta rfl rfl rfl rfl
theorem u199_15 : wp scr n mb_199 15 L st M Q ↔ wp scr n mb_199 17 L (.int 40 :: st) M Q := wp_step rfl rfl rfl rfl rfl
theorem u199_17 : wp scr n mb_199 17 L (.int y :: .int x :: st) M Q ↔ (if x < y then wp scr n mb_199 26 L st M Q else wp scr n mb_199 20 L st M Q) := (wp_step rfl rfl rfl rfl rfl).trans wp_ite
theorem u199_20 : wp scr n mb_199 20 L st M Q ↔ wp scr n mb_199 21 L (.int 1 :: st) M Q := wp_step rfl rfl rfl rfl rfl
theorem u199_21 : wp scr n mb_199 21 [l0, l1, some (.int x)] st M Q ↔ wp scr n mb_199 22 [l0, l1, some (.int x)] (.int x :: st) M Q := wp_step rfl rfl rfl rfl rfl
theorem u199_22 : wp scr n mb_199 22 L (.int y :: .int x :: st) M Q ↔ wp scr n mb_199 23 L (.int (x <<< (y &&& 31)) :: st) M Q := wp_step rfl rfl rfl rfl rfl
theorem u199_23 : wp scr n mb_199 23 L st M Q ↔ wp scr n mb_199 27 L st M Q := wp_step rfl rfl rfl rfl rfl
theorem u199_26 : wp scr n mb_199 26 L st M Q ↔ wp scr n mb_199 27 L (.int 0 :: st) M Q := wp_step rfl rfl rfl rfl rfl
theorem u199_27 : wp scr n mb_199 27 L (.int y :: .int x :: st) M Q ↔ wp scr n mb_199 28 L (.int (x ||| y) :: st) M Q := wp_step rfl rfl rfl rfl rfl
theorem u199_28 : wp scr n mb_199 28 [l0, l1, l2] (.int x :: st) M Q ↔ wp scr n mb_199 29 (mm_sto1 [l0, l1, l2] 1 (.int x)) st M Q := wp_step rfl rfl rfl rfl rfl
theorem u199_29 : wp scr n mb_199 29 [l0, l1, some (.int x)] st M Q ↔ wp scr n mb_199 32 (mm_sto1 [l0, l1, some (.int x)] 2 (.int (x + 1))) st M Q := wp_step rfl rfl rfl rfl rfl
theorem u199_32 : wp scr n mb_199 32 L st M Q ↔ wp scr n mb_199 4 L st M Q := wp_step rfl rfl rfl rfl rfl
theorem u199_35 : wp scr n mb_199 35 [l0, some (.int x), l2] st M Q ↔ wp scr n mb_199 36 [l0, some (.int x), l2] (.int x :: st) M Q := wp_step rfl rfl rfl rfl rfl
theorem u199_36 : wp scr n mb_199 36 L [.int x] M Q ↔ Q (some (.int x)) M := wp_ret rfl rfl
theorem e199 : Wp scr (n + 1) 199 [.ref b1] M Q ↔ wp scr n mb_199 0 [some (.ref b1), none, none] [] M Q := Wp_to rfl rfl rfl
/-- SmallerInTheShopModel wornAt ([II)I -/
def mb_200 : mw_B := ((Option.some FieldType.int), mp_200)
theorem u200_0 : wp scr n mb_200 0 [some (.ref a), l1] st M Q ↔ wp scr n mb_200 1 [some (.ref a), l1] (.ref a :: st) M Q := wp_step rfl rfl rfl rfl rfl
theorem u200_1 : wp scr n mb_200 1 L st M Q ↔ wp scr n mb_200 3 L (.int 20 :: st) M Q := wp_step rfl rfl rfl rfl rfl
theorem u200_3 : wp scr n mb_200 3 [l0, some (.int x)] st M Q ↔ wp scr n mb_200 4 [l0, some (.int x)] (.int x :: st) M Q := wp_step rfl rfl rfl rfl rfl
theorem u200_4 : wp scr n mb_200 4 L (.int y :: .int x :: st) M Q ↔ wp scr n mb_200 5 L (.int (x + y) :: st) M Q := wp_step rfl rfl rfl rfl rfl
theorem u200_5 : wp scr n mb_200 5 L (.int y :: o :: st) M Q ↔ mw_o (mm_ld (mc_X scr) M o y) (fun x => wp scr n mb_200 6 L (.int x :: st) M Q) := wp_iald rfl
theorem u200_6 : wp scr n mb_200 6 [some (.ref a), l1] st M Q ↔ wp scr n mb_200 7 [some (.ref a), l1] (.ref a :: st) M Q := wp_step rfl rfl rfl rfl rfl
theorem u200_7 : wp scr n mb_200 7 L st M Q ↔ wp scr n mb_200 9 L (.int 23 :: st) M Q := wp_step rfl rfl rfl rfl rfl
theorem u200_9 : wp scr n mb_200 9 [l0, some (.int x)] st M Q ↔ wp scr n mb_200 10 [l0, some (.int x)] (.int x :: st) M Q := wp_step rfl rfl rfl rfl rfl
theorem u200_10 : wp scr n mb_200 10 L (.int y :: .int x :: st) M Q ↔ wp scr n mb_200 11 L (.int (x + y) :: st) M Q := wp_step rfl rfl rfl rfl rfl
theorem u200_11 : wp scr n mb_200 11 L (.int y :: o :: st) M Q ↔ mw_o (mm_ld (mc_X scr) M o y) (fun x => wp scr n mb_200 12 L (.int x :: st) M Q) := wp_iald rfl
theorem u200_12 : wp scr n mb_200 12 L (.int y :: .int x :: st) M Q ↔ wp scr n mb_200 13 L (.int (x + y) :: st) M Q := wp_step rfl rfl rfl rfl rfl
theorem u200_13 : wp scr n mb_200 13 [some (.ref a), l1] st M Q ↔ wp scr n mb_200 14 [some (.ref a), l1] (.ref a :: st) M Q := wp_step rfl rfl rfl rfl rfl
theorem u200_14 : wp scr n mb_200 14 L st M Q ↔ wp scr n mb_200 16 L (.int 26 :: st) M Q := wp_step rfl rfl rfl rfl rfl
theorem u200_16 : wp scr n mb_200 16 [l0, some (.int x)] st M Q ↔ wp scr n mb_200 17 [l0, some (.int x)] (.int x :: st) M Q := wp_step rfl rfl rfl rfl rfl
theorem u200_17 : wp scr n mb_200 17 L (.int y :: .int x :: st) M Q ↔ wp scr n mb_200 18 L (.int (x + y) :: st) M Q := wp_step rfl rfl rfl rfl rfl
theorem u200_18 : wp scr n mb_200 18 L (.int y :: o :: st) M Q ↔ mw_o (mm_ld (mc_X scr) M o y) (fun x => wp scr n mb_200 19 L (.int x :: st) M Q) := wp_iald rfl
theorem u200_19 : wp scr n mb_200 19 L (.int y :: .int x :: st) M Q ↔ wp scr n mb_200 20 L (.int (x + y) :: st) M Q := wp_step rfl rfl rfl rfl rfl
theorem u200_20 : wp scr n mb_200 20 [some (.ref a), l1] st M Q ↔ wp scr n mb_200 21 [some (.ref a), l1] (.ref a :: st) M Q := wp_step rfl rfl rfl rfl rfl
theorem u200_21 : wp scr n mb_200 21 L st M Q ↔ wp scr n mb_200 23 L (.int 27 :: st) M Q := wp_step rfl rfl rfl rfl rfl
theorem u200_23 : wp scr n mb_200 23 [l0, some (.int x)] st M Q ↔ wp scr n mb_200 24 [l0, some (.int x)] (.int x :: st) M Q := wp_step rfl rfl rfl rfl rfl
theorem u200_24 : wp scr n mb_200 24 L (.int y :: .int x :: st) M Q ↔ wp scr n mb_200 25 L (.int (x + y) :: st) M Q := wp_step rfl rfl rfl rfl rfl
theorem u200_25 : wp scr n mb_200 25 L (.int y :: o :: st) M Q ↔ mw_o (mm_ld (mc_X scr) M o y) (fun x => wp scr n mb_200 26 L (.int x :: st) M Q) := wp_iald rfl
theorem u200_26 : wp scr n mb_200 26 L (.int y :: .int x :: st) M Q ↔ wp scr n mb_200 27 L (.int (x + y) :: st) M Q := wp_step rfl rfl rfl rfl rfl
theorem u200_27 : wp scr n mb_200 27 L [.int x] M Q ↔ Q (some (.int x)) M := wp_ret rfl rfl
theorem e200 : Wp scr (n + 1) 200 [.ref b1, .int x2] M Q ↔ wp scr n mb_200 0 [some (.ref b1), some (.int x2)] [] M Q := Wp_to rfl rfl rfl
end MU
