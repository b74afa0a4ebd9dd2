section MU
variable {scr : List Int32} {n : Nat} {L : mm_L} {st : List Value} {M : mm_M} {Q : Option Value → mm_M → Prop} {x y : Int32} {z w : Int64} {a : Nat} {o v a1 a2 a3 a4 a5 a6 : Value} {a0 b1 b2 b3 b4 b5 : Nat} {x1 x2 x3 x4 x5 : Int32} {z1 z2 z3 : Int64} {l0 l1 l2 l3 l4 l5 l6 l7 l8 l9 l10 l11 l12 l13 l14 : Option Value}
/-- java/lang/Integer bitCount (I)I -/
def mb_0 : mw_B := ((Option.some FieldType.int), mp_0)
theorem u0_0 : wp scr n mb_0 0 [some (.int x)] st M Q ↔ wp scr n mb_0 1 [some (.int x)] (.int x :: st) M Q := wp_step rfl rfl rfl rfl rfl
theorem u0_1 : wp scr n mb_0 1 [some (.int x)] st M Q ↔ wp scr n mb_0 2 [some (.int x)] (.int x :: st) M Q := wp_step rfl rfl rfl rfl rfl
theorem u0_2 : wp scr n mb_0 2 L st M Q ↔ wp scr n mb_0 3 L (.int 1 :: st) M Q := wp_step rfl rfl rfl rfl rfl
theorem u0_3 : wp scr n mb_0 3 L (.int y :: .int x :: st) M Q ↔ wp scr n mb_0 4 L (.int (x.toUInt32 >>> (y.toUInt32 &&& Int32.toUInt32 31)).toInt32 :: st) M Q := wp_step rfl rfl rfl rfl rfl
theorem u0_4 : wp scr n mb_0 4 L st M Q ↔ wp scr n mb_0 7 L (.int (1431655765) :: st) M Q := wp_step rfl rfl rfl rfl rfl
theorem u0_7 : wp scr n mb_0 7 L (.int y :: .int x :: st) M Q ↔ wp scr n mb_0 8 L (.int (x &&& y) :: st) M Q := wp_step rfl rfl rfl rfl rfl
theorem u0_8 : wp scr n mb_0 8 L (.int y :: .int x :: st) M Q ↔ wp scr n mb_0 9 L (.int (x - y) :: st) M Q := wp_step rfl rfl rfl rfl rfl
theorem u0_9 : wp scr n mb_0 9 [l0] (.int x :: st) M Q ↔ wp scr n mb_0 10 [some (.int x)] st M Q := wp_step rfl rfl rfl rfl rfl
theorem u0_10 : wp scr n mb_0 10 [some (.int x)] st M Q ↔ wp scr n mb_0 11 [some (.int x)] (.int x :: st) M Q := wp_step rfl rfl rfl rfl rfl
theorem u0_11 : wp scr n mb_0 11 L st M Q ↔ wp scr n mb_0 14 L (.int (858993459) :: st) M Q := wp_step rfl rfl rfl rfl rfl
theorem u0_14 : wp scr n mb_0 14 L (.int y :: .int x :: st) M Q ↔ wp scr n mb_0 15 L (.int (x &&& y) :: st) M Q := wp_step rfl rfl rfl rfl rfl
theorem u0_15 : wp scr n mb_0 15 [some (.int x)] st M Q ↔ wp scr n mb_0 16 [some (.int x)] (.int x :: st) M Q := wp_step rfl rfl rfl rfl rfl
theorem u0_16 : wp scr n mb_0 16 L st M Q ↔ wp scr n mb_0 17 L (.int 2 :: st) M Q := wp_step rfl rfl rfl rfl rfl
theorem u0_17 : wp scr n mb_0 17 L (.int y :: .int x :: st) M Q ↔ wp scr n mb_0 18 L (.int (x.toUInt32 >>> (y.toUInt32 &&& Int32.toUInt32 31)).toInt32 :: st) M Q := wp_step rfl rfl rfl rfl rfl
theorem u0_18 : wp scr n mb_0 18 L st M Q ↔ wp scr n mb_0 21 L (.int (858993459) :: st) M Q := wp_step rfl rfl rfl rfl rfl
theorem u0_21 : wp scr n mb_0 21 L (.int y :: .int x :: st) M Q ↔ wp scr n mb_0 22 L (.int (x &&& y) :: st) M Q := wp_step rfl rfl rfl rfl rfl
theorem u0_22 : wp scr n mb_0 22 L (.int y :: .int x :: st) M Q ↔ wp scr n mb_0 23 L (.int (x + y) :: st) M Q := wp_step rfl rfl rfl rfl rfl
theorem u0_23 : wp scr n mb_0 23 [l0] (.int x :: st) M Q ↔ wp scr n mb_0 24 [some (.int x)] st M Q := wp_step rfl rfl rfl rfl rfl
theorem u0_24 : wp scr n mb_0 24 [some (.int x)] st M Q ↔ wp scr n mb_0 25 [some (.int x)] (.int x :: st) M Q := wp_step rfl rfl rfl rfl rfl
theorem u0_25 : wp scr n mb_0 25 [some (.int x)] st M Q ↔ wp scr n mb_0 26 [some (.int x)] (.int x :: st) M Q := wp_step rfl rfl rfl rfl rfl
theorem u0_26 : wp scr n mb_0 26 L st M Q ↔ wp scr n mb_0 27 L (.int 4 :: st) M Q := wp_step rfl rfl rfl rfl rfl
theorem u0_27 : wp scr n mb_0 27 L (.int y :: .int x :: st) M Q ↔ wp scr n mb_0 28 L (.int (x.toUInt32 >>> (y.toUInt32 &&& Int32.toUInt32 31)).toInt32 :: st) M Q := wp_step rfl rfl rfl rfl rfl
theorem u0_28 : wp scr n mb_0 28 L (.int y :: .int x :: st) M Q ↔ wp scr n mb_0 29 L (.int (x + y) :: st) M Q := wp_step rfl rfl rfl rfl rfl
theorem u0_29 : wp scr n mb_0 29 L st M Q ↔ wp scr n mb_0 32 L (.int (252645135) :: st) M Q := wp_step rfl rfl rfl rfl rfl
theorem u0_32 : wp scr n mb_0 32 L (.int y :: .int x :: st) M Q ↔ wp scr n mb_0 33 L (.int (x &&& y) :: st) M Q := wp_step rfl rfl rfl rfl rfl
theorem u0_33 : wp scr n mb_0 33 [l0] (.int x :: st) M Q ↔ wp scr n mb_0 34 [some (.int x)] st M Q := wp_step rfl rfl rfl rfl rfl
theorem u0_34 : wp scr n mb_0 34 [some (.int x)] st M Q ↔ wp scr n mb_0 35 [some (.int x)] (.int x :: st) M Q := wp_step rfl rfl rfl rfl rfl
theorem u0_35 : wp scr n mb_0 35 [some (.int x)] st M Q ↔ wp scr n mb_0 36 [some (.int x)] (.int x :: st) M Q := wp_step rfl rfl rfl rfl rfl
theorem u0_36 : wp scr n mb_0 36 L st M Q ↔ wp scr n mb_0 38 L (.int 8 :: st) M Q := wp_step rfl rfl rfl rfl rfl
theorem u0_38 : wp scr n mb_0 38 L (.int y :: .int x :: st) M Q ↔ wp scr n mb_0 39 L (.int (x.toUInt32 >>> (y.toUInt32 &&& Int32.toUInt32 31)).toInt32 :: st) M Q := wp_step rfl rfl rfl rfl rfl
theorem u0_39 : wp scr n mb_0 39 L (.int y :: .int x :: st) M Q ↔ wp scr n mb_0 40 L (.int (x + y) :: st) M Q := wp_step rfl rfl rfl rfl rfl
theorem u0_40 : wp scr n mb_0 40 [l0] (.int x :: st) M Q ↔ wp scr n mb_0 41 [some (.int x)] st M Q := wp_step rfl rfl rfl rfl rfl
theorem u0_41 : wp scr n mb_0 41 [some (.int x)] st M Q ↔ wp scr n mb_0 42 [some (.int x)] (.int x :: st) M Q := wp_step rfl rfl rfl rfl rfl
theorem u0_42 : wp scr n mb_0 42 [some (.int x)] st M Q ↔ wp scr n mb_0 43 [some (.int x)] (.int x :: st) M Q := wp_step rfl rfl rfl rfl rfl
theorem u0_43 : wp scr n mb_0 43 L st M Q ↔ wp scr n mb_0 45 L (.int 16 :: st) M Q := wp_step rfl rfl rfl rfl rfl
theorem u0_45 : wp scr n mb_0 45 L (.int y :: .int x :: st) M Q ↔ wp scr n mb_0 46 L (.int (x.toUInt32 >>> (y.toUInt32 &&& Int32.toUInt32 31)).toInt32 :: st) M Q := wp_step rfl rfl rfl rfl rfl
theorem u0_46 : wp scr n mb_0 46 L (.int y :: .int x :: st) M Q ↔ wp scr n mb_0 47 L (.int (x + y) :: st) M Q := wp_step rfl rfl rfl rfl rfl
theorem u0_47 : wp scr n mb_0 47 [l0] (.int x :: st) M Q ↔ wp scr n mb_0 48 [some (.int x)] st M Q := wp_step rfl rfl rfl rfl rfl
theorem u0_48 : wp scr n mb_0 48 [some (.int x)] st M Q ↔ wp scr n mb_0 49 [some (.int x)] (.int x :: st) M Q := wp_step rfl rfl rfl rfl rfl
theorem u0_49 : wp scr n mb_0 49 L st M Q ↔ wp scr n mb_0 51 L (.int 63 :: st) M Q := wp_step rfl rfl rfl rfl rfl
theorem u0_51 : wp scr n mb_0 51 L (.int y :: .int x :: st) M Q ↔ wp scr n mb_0 52 L (.int (x &&& y) :: st) M Q := wp_step rfl rfl rfl rfl rfl
theorem u0_52 : wp scr n mb_0 52 L [.int x] M Q ↔ Q (some (.int x)) M := wp_ret rfl rfl
theorem e0 : Wp scr (n + 1) 0 [.int x1] M Q ↔ wp scr n mb_0 0 [some (.int x1)] [] M Q := Wp_to rfl rfl rfl
/-- java/lang/String isEmpty ()Z -/
def mb_1 : mw_B := ((Option.some FieldType.boolean), mp_1)
theorem u1_0 : wp scr n mb_1 0 [some (.ref a)] st M Q ↔ wp scr n mb_1 1 [some (.ref a)] (.ref a :: st) M Q := wp_step rfl rfl rfl rfl rfl
theorem u1_0b : wp scr n mb_1 0 [some (.retAddr a)] st M Q ↔ wp scr n mb_1 1 [some (.retAddr a)] (.retAddr a :: st) M Q := wp_step rfl rfl rfl rfl rfl
theorem u1_1 : wp scr n mb_1 1 L (o :: st) M Q ↔ mw_o (mm_fld (mc_X scr) M o 99 0) (fun v => wp scr n mb_1 4 L (v :: st) M Q) := wp_getf rfl
theorem u1_4 : wp scr n mb_1 4 L (.retAddr a :: st) M Q ↔ mw_o (match mc_X scr a with | some (.inl xs) => some (Int32.ofNat xs.length) | _ => none) (fun x => wp scr n mb_1 5 L (.int x :: st) M Q) := wp_alen rfl
theorem u1_5 : wp scr n mb_1 5 L (.int x :: st) M Q ↔ (if x = 0 then wp scr n mb_1 8 L st M Q else wp scr n mb_1 12 L st M Q) := (wp_step rfl rfl rfl rfl rfl).trans wp_iten
theorem u1_8 : wp scr n mb_1 8 L st M Q ↔ wp scr n mb_1 9 L (.int 1 :: st) M Q := wp_step rfl rfl rfl rfl rfl
theorem u1_9 : wp scr n mb_1 9 L st M Q ↔ wp scr n mb_1 13 L st M Q := wp_step rfl rfl rfl rfl rfl
theorem u1_12 : wp scr n mb_1 12 L st M Q ↔ wp scr n mb_1 13 L (.int 0 :: st) M Q := wp_step rfl rfl rfl rfl rfl
theorem u1_13 : wp scr n mb_1 13 L [.int x] M Q ↔ ((x = 0 ∨ x = 1) ∧ Q (some (.int x)) M) := wp_retb rfl rfl
theorem e1 : Wp scr (n + 1) 1 [.retAddr a0] M Q ↔ wp scr n mb_1 0 [some (.retAddr a0)] [] M Q := Wp_to rfl rfl rfl
/-- java/lang/String length ()I -/
def mb_2 : mw_B := ((Option.some FieldType.int), mp_2)
theorem u2_0 : wp scr n mb_2 0 [some (.ref a)] st M Q ↔ wp scr n mb_2 1 [some (.ref a)] (.ref a :: st) M Q := wp_step rfl rfl rfl rfl rfl
theorem u2_0b : wp scr n mb_2 0 [some (.retAddr a)] st M Q ↔ wp scr n mb_2 1 [some (.retAddr a)] (.retAddr a :: st) M Q := wp_step rfl rfl rfl rfl rfl
theorem u2_1 : wp scr n mb_2 1 L (o :: st) M Q ↔ mw_o (mm_fld (mc_X scr) M o 99 0) (fun v => wp scr n mb_2 4 L (v :: st) M Q) := wp_getf rfl
theorem u2_4 : wp scr n mb_2 4 L (.retAddr a :: st) M Q ↔ mw_o (match mc_X scr a with | some (.inl xs) => some (Int32.ofNat xs.length) | _ => none) (fun x => wp scr n mb_2 5 L (.int x :: st) M Q) := wp_alen rfl
theorem u2_5 : wp scr n mb_2 5 [some (.ref a)] st M Q ↔ wp scr n mb_2 6 [some (.ref a)] (.ref a :: st) M Q := wp_step rfl rfl rfl rfl rfl
theorem u2_5b : wp scr n mb_2 5 [some (.retAddr a)] st M Q ↔ wp scr n mb_2 6 [some (.retAddr a)] (.retAddr a :: st) M Q := wp_step rfl rfl rfl rfl rfl
theorem u2_6 : wp scr n mb_2 6 L (.retAddr a :: st) M Q ↔ ((mw_x scr a ∧ mw_st st) ∧ Wp scr n 3 [.retAddr a] M (fun r1 M1 => wp scr n mb_2 9 L (r1.toList ++ st) M1 Q)) := wp_virX rfl rfl rfl rfl
theorem u2_9 : wp scr n mb_2 9 L (.int y :: .int x :: st) M Q ↔ wp scr n mb_2 10 L (.int (x >>> (y &&& 31)) :: st) M Q := wp_step rfl rfl rfl rfl rfl
theorem u2_10 : wp scr n mb_2 10 L [.int x] M Q ↔ Q (some (.int x)) M := wp_ret rfl rfl
theorem e2 : Wp scr (n + 1) 2 [.retAddr a0] M Q ↔ wp scr n mb_2 0 [some (.retAddr a0)] [] M Q := Wp_to rfl rfl rfl
/-- java/lang/String coder ()B -/
def mb_3 : mw_B := ((Option.some FieldType.byte), mp_3)
theorem u3_0 : wp scr n mb_3 0 L st M Q ↔ wp scr n mb_3 3 L (.int 1 :: st) M Q := wp_step rfl rfl rfl rfl rfl
theorem u3_3 : wp scr n mb_3 3 L (.int x :: st) M Q ↔ (if x = 0 then wp scr n mb_3 13 L st M Q else wp scr n mb_3 6 L st M Q) := (wp_step rfl rfl rfl rfl rfl).trans wp_ite
theorem u3_6 : wp scr n mb_3 6 [some (.ref a)] st M Q ↔ wp scr n mb_3 7 [some (.ref a)] (.ref a :: st) M Q := wp_step rfl rfl rfl rfl rfl
theorem u3_6b : wp scr n mb_3 6 [some (.retAddr a)] st M Q ↔ wp scr n mb_3 7 [some (.retAddr a)] (.retAddr a :: st) M Q := wp_step rfl rfl rfl rfl rfl
theorem u3_7 : wp scr n mb_3 7 L (o :: st) M Q ↔ mw_o (mm_fld (mc_X scr) M o 99 1) (fun v => wp scr n mb_3 10 L (v :: st) M Q) := wp_getf rfl
theorem u3_10 : wp scr n mb_3 10 L st M Q ↔ wp scr n mb_3 14 L st M Q := wp_step rfl rfl rfl rfl rfl
theorem u3_13 : wp scr n mb_3 13 L st M Q ↔ wp scr n mb_3 14 L (.int 1 :: st) M Q := wp_step rfl rfl rfl rfl rfl
theorem u3_14 : wp scr n mb_3 14 L [.int x] M Q ↔ (x.toInt8.toInt32 = x ∧ Q (some (.int x)) M) := wp_reti8 rfl rfl
theorem e3 : Wp scr (n + 1) 3 [.retAddr a0] M Q ↔ wp scr n mb_3 0 [some (.retAddr a0)] [] M Q := Wp_to rfl rfl rfl
/-- java/lang/String charAt (I)C -/
def mb_4 : mw_B := ((Option.some FieldType.char), mp_4)
theorem u4_0 : wp scr n mb_4 0 [some (.ref a), l1] st M Q ↔ wp scr n mb_4 1 [some (.ref a), l1] (.ref a :: st) M Q := wp_step rfl rfl rfl rfl rfl
theorem u4_0b : wp scr n mb_4 0 [some (.retAddr a), l1] st M Q ↔ wp scr n mb_4 1 [some (.retAddr a), l1] (.retAddr a :: st) M Q := wp_step rfl rfl rfl rfl rfl
theorem u4_1 : wp scr n mb_4 1 L (.retAddr a :: st) M Q ↔ ((mw_x scr a ∧ mw_st st) ∧ Wp scr n 5 [.retAddr a] M (fun r1 M1 => wp scr n mb_4 4 L (r1.toList ++ st) M1 Q)) := wp_virX rfl rfl rfl rfl
theorem u4_4 : wp scr n mb_4 4 L (.int x :: st) M Q ↔ (if x = 0 then wp scr n mb_4 16 L st M Q else wp scr n mb_4 7 L st M Q) := (wp_step rfl rfl rfl rfl rfl).trans wp_ite
theorem u4_7 : wp scr n mb_4 7 [some (.ref a), l1] st M Q ↔ wp scr n mb_4 8 [some (.ref a), l1] (.ref a :: st) M Q := wp_step rfl rfl rfl rfl rfl
theorem u4_7b : wp scr n mb_4 7 [some (.retAddr a), l1] st M Q ↔ wp scr n mb_4 8 [some (.retAddr a), l1] (.retAddr a :: st) M Q := wp_step rfl rfl rfl rfl rfl
theorem u4_8 : wp scr n mb_4 8 L (o :: st) M Q ↔ mw_o (mm_fld (mc_X scr) M o 99 0) (fun v => wp scr n mb_4 11 L (v :: st) M Q) := wp_getf rfl
theorem u4_11 : wp scr n mb_4 11 [l0, some (.int x)] st M Q ↔ wp scr n mb_4 12 [l0, some (.int x)] (.int x :: st) M Q := wp_step rfl rfl rfl rfl rfl
theorem u4_12 : wp scr n mb_4 12 L (a2 :: a1 :: st) M Q ↔ (mw_st st ∧ Wp scr n 9 [a1, a2] M (fun r1 M1 => wp scr n mb_4 15 L (r1.toList ++ st) M1 Q)) := wp_sta rfl rfl rfl rfl
theorem u4_15 : wp scr n mb_4 15 L [.int x] M Q ↔ ((x.toUInt32 % 65536).toInt32 = x ∧ Q (some (.int x)) M) := wp_retc rfl rfl
theorem u4_16 : wp scr n mb_4 16 [some (.ref a), l1] st M Q ↔ wp scr n mb_4 17 [some (.ref a), l1] (.ref a :: st) M Q := wp_step rfl rfl rfl rfl rfl
theorem u4_16b : wp scr n mb_4 16 [some (.retAddr a), l1] st M Q ↔ wp scr n mb_4 17 [some (.retAddr a), l1] (.retAddr a :: st) M Q := wp_step rfl rfl rfl rfl rfl
theorem u4_17 : wp scr n mb_4 17 L (o :: st) M Q ↔ mw_o (mm_fld (mc_X scr) M o 99 0) (fun v => wp scr n mb_4 20 L (v :: st) M Q) := wp_getf rfl
theorem u4_20 : wp scr n mb_4 20 [l0, some (.int x)] st M Q ↔ wp scr n mb_4 21 [l0, some (.int x)] (.int x :: st) M Q := wp_step rfl rfl rfl rfl rfl
theorem u4_24 : wp scr n mb_4 24 L [.int x] M Q ↔ ((x.toUInt32 % 65536).toInt32 = x ∧ Q (some (.int x)) M) := wp_retc rfl rfl
theorem e4 : Wp scr (n + 1) 4 [.retAddr a0, .int x1] M Q ↔ wp scr n mb_4 0 [some (.retAddr a0), some (.int x1)] [] M Q := Wp_to rfl rfl rfl
/-- java/lang/String isLatin1 ()Z -/
def mb_5 : mw_B := ((Option.some FieldType.boolean), mp_5)
theorem u5_0 : wp scr n mb_5 0 L st M Q ↔ wp scr n mb_5 3 L (.int 1 :: st) M Q := wp_step rfl rfl rfl rfl rfl
theorem u5_3 : wp scr n mb_5 3 L (.int x :: st) M Q ↔ (if x = 0 then wp scr n mb_5 17 L st M Q else wp scr n mb_5 6 L st M Q) := (wp_step rfl rfl rfl rfl rfl).trans wp_ite
theorem u5_6 : wp scr n mb_5 6 [some (.ref a)] st M Q ↔ wp scr n mb_5 7 [some (.ref a)] (.ref a :: st) M Q := wp_step rfl rfl rfl rfl rfl
theorem u5_6b : wp scr n mb_5 6 [some (.retAddr a)] st M Q ↔ wp scr n mb_5 7 [some (.retAddr a)] (.retAddr a :: st) M Q := wp_step rfl rfl rfl rfl rfl
theorem u5_7 : wp scr n mb_5 7 L (o :: st) M Q ↔ mw_o (mm_fld (mc_X scr) M o 99 1) (fun v => wp scr n mb_5 10 L (v :: st) M Q) := wp_getf rfl
theorem u5_10 : wp scr n mb_5 10 L (.int x :: st) M Q ↔ (if x = 0 then wp scr n mb_5 13 L st M Q else wp scr n mb_5 17 L st M Q) := (wp_step rfl rfl rfl rfl rfl).trans wp_iten
theorem u5_13 : wp scr n mb_5 13 L st M Q ↔ wp scr n mb_5 14 L (.int 1 :: st) M Q := wp_step rfl rfl rfl rfl rfl
theorem u5_14 : wp scr n mb_5 14 L st M Q ↔ wp scr n mb_5 18 L st M Q := wp_step rfl rfl rfl rfl rfl
theorem u5_17 : wp scr n mb_5 17 L st M Q ↔ wp scr n mb_5 18 L (.int 0 :: st) M Q := wp_step rfl rfl rfl rfl rfl
theorem u5_18 : wp scr n mb_5 18 L [.int x] M Q ↔ ((x = 0 ∨ x = 1) ∧ Q (some (.int x)) M) := wp_retb rfl rfl
theorem e5 : Wp scr (n + 1) 5 [.retAddr a0] M Q ↔ wp scr n mb_5 0 [some (.retAddr a0)] [] M Q := Wp_to rfl rfl rfl
/-- java/lang/String checkIndex (II)V -/
def mb_6 : mw_B := ((Option.none : Option FieldType), mp_6)
theorem u6_0 : wp scr n mb_6 0 [some (.int x), l1] st M Q ↔ wp scr n mb_6 1 [some (.int x), l1] (.int x :: st) M Q := wp_step rfl rfl rfl rfl rfl
theorem u6_1 : wp scr n mb_6 1 [l0, some (.int x)] st M Q ↔ wp scr n mb_6 2 [l0, some (.int x)] (.int x :: st) M Q := wp_step rfl rfl rfl rfl rfl
theorem u6_2 : wp scr n mb_6 2 L st M Q ↔ wp scr n mb_6 5 L (.retAddr 20 :: st) M Q := wp_step rfl rfl rfl rfl rfl
theorem u6_5 : wp scr n mb_6 5 L (a3 :: a2 :: a1 :: st) M Q ↔ (mw_st st ∧ Wp scr n 13 [a1, a2, a3] M (fun r1 M1 => wp scr n mb_6 8 L (r1.toList ++ st) M1 Q)) := wp_sta rfl rfl rfl rfl
theorem u6_8 : wp scr n mb_6 8 L (.int x :: st) M Q ↔ wp scr n mb_6 9 L st M Q := wp_step rfl rfl rfl rfl rfl
theorem u6_9 : wp scr n mb_6 9 L [] M Q ↔ Q none M := wp_ret rfl rfl
theorem e6 : Wp scr (n + 1) 6 [.int x1, .int x2] M Q ↔ wp scr n mb_6 0 [some (.int x1), some (.int x2)] [] M Q := Wp_to rfl rfl rfl
/-- java/lang/String indexOf (I)I -/
def mb_7 : mw_B := ((Option.some FieldType.int), mp_7)
theorem u7_0 : wp scr n mb_7 0 [some (.ref a), l1] st M Q ↔ wp scr n mb_7 1 [some (.ref a), l1] (.ref a :: st) M Q := wp_step rfl rfl rfl rfl rfl
theorem u7_0b : wp scr n mb_7 0 [some (.retAddr a), l1] st M Q ↔ wp scr n mb_7 1 [some (.retAddr a), l1] (.retAddr a :: st) M Q := wp_step rfl rfl rfl rfl rfl
theorem u7_1 : wp scr n mb_7 1 [l0, some (.int x)] st M Q ↔ wp scr n mb_7 2 [l0, some (.int x)] (.int x :: st) M Q := wp_step rfl rfl rfl rfl rfl
theorem u7_2 : wp scr n mb_7 2 L st M Q ↔ wp scr n mb_7 3 L (.int 0 :: st) M Q := wp_step rfl rfl rfl rfl rfl
theorem u7_3 : wp scr n mb_7 3 L (a3 :: a2 :: .retAddr a :: st) M Q ↔ ((mw_x scr a ∧ mw_st st) ∧ Wp scr n 8 [.retAddr a, a2, a3] M (fun r1 M1 => wp scr n mb_7 6 L (r1.toList ++ st) M1 Q)) := wp_virX rfl rfl rfl rfl
theorem u7_6 : wp scr n mb_7 6 L [.int x] M Q ↔ Q (some (.int x)) M := wp_ret rfl rfl
theorem e7 : Wp scr (n + 1) 7 [.retAddr a0, .int x1] M Q ↔ wp scr n mb_7 0 [some (.retAddr a0), some (.int x1)] [] M Q := Wp_to rfl rfl rfl
/-- java/lang/String indexOf (II)I -/
def mb_8 : mw_B := ((Option.some FieldType.int), mp_8)
theorem u8_0 : wp scr n mb_8 0 [some (.ref a), l1, l2] st M Q ↔ wp scr n mb_8 1 [some (.ref a), l1, l2] (.ref a :: st) M Q := wp_step rfl rfl rfl rfl rfl
theorem u8_0b : wp scr n mb_8 0 [some (.retAddr a), l1, l2] st M Q ↔ wp scr n mb_8 1 [some (.retAddr a), l1, l2] (.retAddr a :: st) M Q := wp_step rfl rfl rfl rfl rfl
theorem u8_1 : wp scr n mb_8 1 L (.retAddr a :: st) M Q ↔ ((mw_x scr a ∧ mw_st st) ∧ Wp scr n 5 [.retAddr a] M (fun r1 M1 => wp scr n mb_8 4 L (r1.toList ++ st) M1 Q)) := wp_virX rfl rfl rfl rfl
theorem u8_4 : wp scr n mb_8 4 L (.int x :: st) M Q ↔ (if x = 0 then wp scr n mb_8 23 L st M Q else wp scr n mb_8 7 L st M Q) := (wp_step rfl rfl rfl rfl rfl).trans wp_ite
theorem u8_7 : wp scr n mb_8 7 [some (.ref a), l1, l2] st M Q ↔ wp scr n mb_8 8 [some (.ref a), l1, l2] (.ref a :: st) M Q := wp_step rfl rfl rfl rfl rfl
theorem u8_7b : wp scr n mb_8 7 [some (.retAddr a), l1, l2] st M Q ↔ wp scr n mb_8 8 [some (.retAddr a), l1, l2] (.retAddr a :: st) M Q := wp_step rfl rfl rfl rfl rfl
theorem u8_8 : wp scr n mb_8 8 L (o :: st) M Q ↔ mw_o (mm_fld (mc_X scr) M o 99 0) (fun v => wp scr n mb_8 11 L (v :: st) M Q) := wp_getf rfl
theorem u8_11 : wp scr n mb_8 11 [l0, some (.int x), l2] st M Q ↔ wp scr n mb_8 12 [l0, some (.int x), l2] (.int x :: st) M Q := wp_step rfl rfl rfl rfl rfl
theorem u8_12 : wp scr n mb_8 12 [l0, l1, some (.int x)] st M Q ↔ wp scr n mb_8 13 [l0, l1, some (.int x)] (.int x :: st) M Q := wp_step rfl rfl rfl rfl rfl
theorem u8_13 : wp scr n mb_8 13 [some (.ref a), l1, l2] st M Q ↔ wp scr n mb_8 14 [some (.ref a), l1, l2] (.ref a :: st) M Q := wp_step rfl rfl rfl rfl rfl
theorem u8_13b : wp scr n mb_8 13 [some (.retAddr a), l1, l2] st M Q ↔ wp scr n mb_8 14 [some (.retAddr a), l1, l2] (.retAddr a :: st) M Q := wp_step rfl rfl rfl rfl rfl
theorem u8_14 : wp scr n mb_8 14 L (.retAddr a :: st) M Q ↔ ((mw_x scr a ∧ mw_st st) ∧ Wp scr n 2 [.retAddr a] M (fun r1 M1 => wp scr n mb_8 17 L (r1.toList ++ st) M1 Q)) := wp_virX rfl rfl rfl rfl
theorem u8_17 : wp scr n mb_8 17 L (a4 :: a3 :: a2 :: a1 :: st) M Q ↔ (mw_st st ∧ Wp scr n 10 [a1, a2, a3, a4] M (fun r1 M1 => wp scr n mb_8 20 L (r1.toList ++ st) M1 Q)) := wp_sta rfl rfl rfl rfl
theorem u8_20 : wp scr n mb_8 20 L st M Q ↔ wp scr n mb_8 36 L st M Q := wp_step rfl rfl rfl rfl rfl
theorem u8_23 : wp scr n mb_8 23 [some (.ref a), l1, l2] st M Q ↔ wp scr n mb_8 24 [some (.ref a), l1, l2] (.ref a :: st) M Q := wp_step rfl rfl rfl rfl rfl
theorem u8_23b : wp scr n mb_8 23 [some (.retAddr a), l1, l2] st M Q ↔ wp scr n mb_8 24 [some (.retAddr a), l1, l2] (.retAddr a :: st) M Q := wp_step rfl rfl rfl rfl rfl
theorem u8_24 : wp scr n mb_8 24 L (o :: st) M Q ↔ mw_o (mm_fld (mc_X scr) M o 99 0) (fun v => wp scr n mb_8 27 L (v :: st) M Q) := wp_getf rfl
theorem u8_27 : wp scr n mb_8 27 [l0, some (.int x), l2] st M Q ↔ wp scr n mb_8 28 [l0, some (.int x), l2] (.int x :: st) M Q := wp_step rfl rfl rfl rfl rfl
theorem u8_28 : wp scr n mb_8 28 [l0, l1, some (.int x)] st M Q ↔ wp scr n mb_8 29 [l0, l1, some (.int x)] (.int x :: st) M Q := wp_step rfl rfl rfl rfl rfl
theorem u8_29 : wp scr n mb_8 29 [some (.ref a), l1, l2] st M Q ↔ wp scr n mb_8 30 [some (.ref a), l1, l2] (.ref a :: st) M Q := wp_step rfl rfl rfl rfl rfl
theorem u8_29b : wp scr n mb_8 29 [some (.retAddr a), l1, l2] st M Q ↔ wp scr n mb_8 30 [some (.retAddr a), l1, l2] (.retAddr a :: st) M Q := wp_step rfl rfl rfl rfl rfl
theorem u8_30 : wp scr n mb_8 30 L (.retAddr a :: st) M Q ↔ ((mw_x scr a ∧ mw_st st) ∧ Wp scr n 2 [.retAddr a] M (fun r1 M1 => wp scr n mb_8 33 L (r1.toList ++ st) M1 Q)) := wp_virX rfl rfl rfl rfl
theorem u8_36 : wp scr n mb_8 36 L [.int x] M Q ↔ Q (some (.int x)) M := wp_ret rfl rfl
theorem e8 : Wp scr (n + 1) 8 [.retAddr a0, .int x1, .int x2] M Q ↔ wp scr n mb_8 0 [some (.retAddr a0), some (.int x1), some (.int x2)] [] M Q := Wp_to rfl rfl rfl
/-- java/lang/StringLatin1 charAt ([BI)C -/
def mb_9 : mw_B := ((Option.some FieldType.char), mp_9)
theorem u9_0 : wp scr n mb_9 0 [l0, some (.int x)] st M Q ↔ wp scr n mb_9 1 [l0, some (.int x)] (.int x :: st) M Q := wp_step rfl rfl rfl rfl rfl
theorem u9_1 : wp scr n mb_9 1 [some (.ref a), l1] st M Q ↔ wp scr n mb_9 2 [some (.ref a), l1] (.ref a :: st) M Q := wp_step rfl rfl rfl rfl rfl
theorem u9_1b : wp scr n mb_9 1 [some (.retAddr a), l1] st M Q ↔ wp scr n mb_9 2 [some (.retAddr a), l1] (.retAddr a :: st) M Q := wp_step rfl rfl rfl rfl rfl
theorem u9_2 : wp scr n mb_9 2 L (.retAddr a :: st) M Q ↔ mw_o (match mc_X scr a with | some (.inl xs) => some (Int32.ofNat xs.length) | _ => none) (fun x => wp scr n mb_9 3 L (.int x :: st) M Q) := wp_alen rfl
theorem u9_3 : wp scr n mb_9 3 L (a2 :: a1 :: st) M Q ↔ (mw_st st ∧ Wp scr n 6 [a1, a2] M (fun r1 M1 => wp scr n mb_9 6 L (r1.toList ++ st) M1 Q)) := wp_sta rfl rfl rfl rfl
theorem u9_6 : wp scr n mb_9 6 [some (.ref a), l1] st M Q ↔ wp scr n mb_9 7 [some (.ref a), l1] (.ref a :: st) M Q := wp_step rfl rfl rfl rfl rfl
theorem u9_6b : wp scr n mb_9 6 [some (.retAddr a), l1] st M Q ↔ wp scr n mb_9 7 [some (.retAddr a), l1] (.retAddr a :: st) M Q := wp_step rfl rfl rfl rfl rfl
theorem u9_7 : wp scr n mb_9 7 [l0, some (.int x)] st M Q ↔ wp scr n mb_9 8 [l0, some (.int x)] (.int x :: st) M Q := wp_step rfl rfl rfl rfl rfl
theorem u9_8 : wp scr n mb_9 8 L (.int y :: .retAddr a :: st) M Q ↔ mw_o (if a < 50 then none else (match mc_X scr a with | some (.inl xs) => mm_at xs y | _ => none)) (fun x => wp scr n mb_9 9 L (.int x :: st) M Q) := wp_bald rfl
theorem u9_9 : wp scr n mb_9 9 L st M Q ↔ wp scr n mb_9 12 L (.int 255 :: st) M Q := wp_step rfl rfl rfl rfl rfl
theorem u9_12 : wp scr n mb_9 12 L (.int y :: .int x :: st) M Q ↔ wp scr n mb_9 13 L (.int (x &&& y) :: st) M Q := wp_step rfl rfl rfl rfl rfl
theorem u9_13 : wp scr n mb_9 13 L (.int x :: st) M Q ↔ wp scr n mb_9 14 L (.int (x.toUInt32 % 65536).toInt32 :: st) M Q := wp_step rfl rfl rfl rfl rfl
theorem u9_14 : wp scr n mb_9 14 L [.int x] M Q ↔ ((x.toUInt32 % 65536).toInt32 = x ∧ Q (some (.int x)) M) := wp_retc rfl rfl
theorem e9 : Wp scr (n + 1) 9 [.retAddr b1, .int x2] M Q ↔ wp scr n mb_9 0 [some (.retAddr b1), some (.int x2)] [] M Q := Wp_to rfl rfl rfl
/-- java/lang/StringLatin1 indexOf ([BIII)I -/
def mb_10 : mw_B := ((Option.some FieldType.int), mp_10)
theorem u10_0 : wp scr n mb_10 0 [l0, some (.int x), l2, l3] st M Q ↔ wp scr n mb_10 1 [l0, some (.int x), l2, l3] (.int x :: st) M Q := wp_step rfl rfl rfl rfl rfl
theorem u10_1 : wp scr n mb_10 1 L (a1 :: st) M Q ↔ (mw_st st ∧ Wp scr n 11 [a1] M (fun r1 M1 => wp scr n mb_10 4 L (r1.toList ++ st) M1 Q)) := wp_sta rfl rfl rfl rfl
theorem u10_4 : wp scr n mb_10 4 L (.int x :: st) M Q ↔ (if x = 0 then wp scr n mb_10 7 L st M Q else wp scr n mb_10 9 L st M Q) := (wp_step rfl rfl rfl rfl rfl).trans wp_iten
theorem u10_7 : wp scr n mb_10 7 L st M Q ↔ wp scr n mb_10 8 L (.int (-1) :: st) M Q := wp_step rfl rfl rfl rfl rfl
theorem u10_8 : wp scr n mb_10 8 L [.int x] M Q ↔ Q (some (.int x)) M := wp_ret rfl rfl
theorem u10_9 : wp scr n mb_10 9 [l0, l1, some (.int x), l3] st M Q ↔ wp scr n mb_10 10 [l0, l1, some (.int x), l3] (.int x :: st) M Q := wp_step rfl rfl rfl rfl rfl
theorem u10_10 : wp scr n mb_10 10 L st M Q ↔ wp scr n mb_10 11 L (.int 0 :: st) M Q := wp_step rfl rfl rfl rfl rfl
theorem u10_11 : wp scr n mb_10 11 L (.int y :: .int x :: st) M Q ↔ (mw_st st ∧ wp scr n mb_10 14 L (.int (if x < y then y else x) :: st) M Q) := wp_math997 rfl
theorem u10_14 : wp scr n mb_10 14 [l0, l1, l2, l3] (.int x :: st) M Q ↔ wp scr n mb_10 15 (mm_sto1 [l0, l1, l2, l3] 2 (.int x)) st M Q := wp_step rfl rfl rfl rfl rfl
theorem u10_15 : wp scr n mb_10 15 [l0, l1, l2, some (.int x)] st M Q ↔ wp scr n mb_10 16 [l0, l1, l2, some (.int x)] (.int x :: st) M Q := wp_step rfl rfl rfl rfl rfl
theorem u10_16 : wp scr n mb_10 16 [some (.ref a), l1, l2, l3] st M Q ↔ wp scr n mb_10 17 [some (.ref a), l1, l2, l3] (.ref a :: st) M Q := wp_step rfl rfl rfl rfl rfl
theorem u10_16b : wp scr n mb_10 16 [some (.retAddr a), l1, l2, l3] st M Q ↔ wp scr n mb_10 17 [some (.retAddr a), l1, l2, l3] (.retAddr a :: st) M Q := wp_step rfl rfl rfl rfl rfl
theorem u10_17 : wp scr n mb_10 17 L (.retAddr a :: st) M Q ↔ mw_o (match mc_X scr a with | some (.inl xs) => some (Int32.ofNat xs.length) | _ => none) (fun x => wp scr n mb_10 18 L (.int x :: st) M Q) := wp_alen rfl
theorem u10_18 : wp scr n mb_10 18 L (.int y :: .int x :: st) M Q ↔ (mw_st st ∧ wp scr n mb_10 21 L (.int (if y < x then y else x) :: st) M Q) := wp_math998 rfl
theorem u10_21 : wp scr n mb_10 21 [l0, l1, l2, l3] (.int x :: st) M Q ↔ wp scr n mb_10 22 (mm_sto1 [l0, l1, l2, l3] 3 (.int x)) st M Q := wp_step rfl rfl rfl rfl rfl
theorem u10_22 : wp scr n mb_10 22 [l0, l1, some (.int x), l3] st M Q ↔ wp scr n mb_10 23 [l0, l1, some (.int x), l3] (.int x :: st) M Q := wp_step rfl rfl rfl rfl rfl
theorem u10_23 : wp scr n mb_10 23 [l0, l1, l2, some (.int x)] st M Q ↔ wp scr n mb_10 24 [l0, l1, l2, some (.int x)] (.int x :: st) M Q := wp_step rfl rfl rfl rfl rfl
theorem u10_24 : wp scr n mb_10 24 L (.int y :: .int x :: st) M Q ↔ (if x < y then wp scr n mb_10 29 L st M Q else wp scr n mb_10 27 L st M Q) := (wp_step rfl rfl rfl rfl rfl).trans wp_ite
theorem u10_27 : wp scr n mb_10 27 L st M Q ↔ wp scr n mb_10 28 L (.int (-1) :: st) M Q := wp_step rfl rfl rfl rfl rfl
theorem u10_28 : wp scr n mb_10 28 L [.int x] M Q ↔ Q (some (.int x)) M := wp_ret rfl rfl
theorem u10_29 : wp scr n mb_10 29 [some (.ref a), l1, l2, l3] st M Q ↔ wp scr n mb_10 30 [some (.ref a), l1, l2, l3] (.ref a :: st) M Q := wp_step rfl rfl rfl rfl rfl
theorem u10_29b : wp scr n mb_10 29 [some (.retAddr a), l1, l2, l3] st M Q ↔ wp scr n mb_10 30 [some (.retAddr a), l1, l2, l3] (.retAddr a :: st) M Q := wp_step rfl rfl rfl rfl rfl
theorem u10_30 : wp scr n mb_10 30 [l0, some (.int x), l2, l3] st M Q ↔ wp scr n mb_10 31 [l0, some (.int x), l2, l3] (.int x :: st) M Q := wp_step rfl rfl rfl rfl rfl
theorem u10_31 : wp scr n mb_10 31 [l0, l1, some (.int x), l3] st M Q ↔ wp scr n mb_10 32 [l0, l1, some (.int x), l3] (.int x :: st) M Q := wp_step rfl rfl rfl rfl rfl
theorem u10_32 : wp scr n mb_10 32 [l0, l1, l2, some (.int x)] st M Q ↔ wp scr n mb_10 33 [l0, l1, l2, some (.int x)] (.int x :: st) M Q := wp_step rfl rfl rfl rfl rfl
theorem u10_33 : wp scr n mb_10 33 L (a4 :: a3 :: a2 :: a1 :: st) M Q ↔ (mw_st st ∧ Wp scr n 12 [a1, a2, a3, a4] M (fun r1 M1 => wp scr n mb_10 36 L (r1.toList ++ st) M1 Q)) := wp_sta rfl rfl rfl rfl
theorem u10_36 : wp scr n mb_10 36 L [.int x] M Q ↔ Q (some (.int x)) M := wp_ret rfl rfl
theorem e10 : Wp scr (n + 1) 10 [.retAddr b1, .int x2, .int x3, .int x4] M Q ↔ wp scr n mb_10 0 [some (.retAddr b1), some (.int x2), some (.int x3), some (.int x4)] [] M Q := Wp_to rfl rfl rfl
/-- java/lang/StringLatin1 canEncode (I)Z -/
def mb_11 : mw_B := ((Option.some FieldType.boolean), mp_11)
theorem u11_0 : wp scr n mb_11 0 [some (.int x)] st M Q ↔ wp scr n mb_11 1 [some (.int x)] (.int x :: st) M Q := wp_step rfl rfl rfl rfl rfl
theorem u11_1 : wp scr n mb_11 1 L (.int x :: st) M Q ↔ (if x < 0 then wp scr n mb_11 15 L st M Q else wp scr n mb_11 4 L st M Q) := (wp_step rfl rfl rfl rfl rfl).trans wp_ite
theorem u11_4 : wp scr n mb_11 4 [some (.int x)] st M Q ↔ wp scr n mb_11 5 [some (.int x)] (.int x :: st) M Q := wp_step rfl rfl rfl rfl rfl
theorem u11_5 : wp scr n mb_11 5 L st M Q ↔ wp scr n mb_11 8 L (.int 255 :: st) M Q := wp_step rfl rfl rfl rfl rfl
theorem u11_8 : wp scr n mb_11 8 L (.int y :: .int x :: st) M Q ↔ (if y < x then wp scr n mb_11 15 L st M Q else wp scr n mb_11 11 L st M Q) := (wp_step rfl rfl rfl rfl rfl).trans wp_ite
theorem u11_11 : wp scr n mb_11 11 L st M Q ↔ wp scr n mb_11 12 L (.int 1 :: st) M Q := wp_step rfl rfl rfl rfl rfl
theorem u11_12 : wp scr n mb_11 12 L st M Q ↔ wp scr n mb_11 16 L st M Q := wp_step rfl rfl rfl rfl rfl
theorem u11_15 : wp scr n mb_11 15 L st M Q ↔ wp scr n mb_11 16 L (.int 0 :: st) M Q := wp_step rfl rfl rfl rfl rfl
theorem u11_16 : wp scr n mb_11 16 L [.int x] M Q ↔ ((x = 0 ∨ x = 1) ∧ Q (some (.int x)) M) := wp_retb rfl rfl
theorem e11 : Wp scr (n + 1) 11 [.int x1] M Q ↔ wp scr n mb_11 0 [some (.int x1)] [] M Q := Wp_to rfl rfl rfl
/-- java/lang/StringLatin1 indexOfChar ([BIII)I -/
def mb_12 : mw_B := ((Option.some FieldType.int), mp_12)
theorem u12_0 : wp scr n mb_12 0 [l0, some (.int x), l2, l3, l4, l5] st M Q ↔ wp scr n mb_12 1 [l0, some (.int x), l2, l3, l4, l5] (.int x :: st) M Q := wp_step rfl rfl rfl rfl rfl
theorem u12_1 : wp scr n mb_12 1 L (.int x :: st) M Q ↔ wp scr n mb_12 2 L (.int x.toInt8.toInt32 :: st) M Q := wp_step rfl rfl rfl rfl rfl
theorem u12_2 : wp scr n mb_12 2 [l0, l1, l2, l3, l4, l5] (.int x :: st) M Q ↔ wp scr n mb_12 4 (mm_sto1 [l0, l1, l2, l3, l4, l5] 4 (.int x)) st M Q := wp_step rfl rfl rfl rfl rfl
theorem u12_4 : wp scr n mb_12 4 [l0, l1, some (.int x), l3, l4, l5] st M Q ↔ wp scr n mb_12 5 [l0, l1, some (.int x), l3, l4, l5] (.int x :: st) M Q := wp_step rfl rfl rfl rfl rfl
theorem u12_5 : wp scr n mb_12 5 [l0, l1, l2, l3, l4, l5] (.int x :: st) M Q ↔ wp scr n mb_12 7 (mm_sto1 [l0, l1, l2, l3, l4, l5] 5 (.int x)) st M Q := wp_step rfl rfl rfl rfl rfl
theorem u12_7 : wp scr n mb_12 7 [l0, l1, l2, l3, l4, some (.int x)] st M Q ↔ wp scr n mb_12 9 [l0, l1, l2, l3, l4, some (.int x)] (.int x :: st) M Q := wp_step rfl rfl rfl rfl rfl
theorem u12_9 : wp scr n mb_12 9 [l0, l1, l2, some (.int x), l4, l5] st M Q ↔ wp scr n mb_12 10 [l0, l1, l2, some (.int x), l4, l5] (.int x :: st) M Q := wp_step rfl rfl rfl rfl rfl
theorem u12_10 : wp scr n mb_12 10 L (.int y :: .int x :: st) M Q ↔ (if y ≤ x then wp scr n mb_12 31 L st M Q else wp scr n mb_12 13 L st M Q) := (wp_step rfl rfl rfl rfl rfl).trans wp_ite
theorem u12_13 : wp scr n mb_12 13 [some (.ref a), l1, l2, l3, l4, l5] st M Q ↔ wp scr n mb_12 14 [some (.ref a), l1, l2, l3, l4, l5] (.ref a :: st) M Q := wp_step rfl rfl rfl rfl rfl
theorem u12_13b : wp scr n mb_12 13 [some (.retAddr a), l1, l2, l3, l4, l5] st M Q ↔ wp scr n mb_12 14 [some (.retAddr a), l1, l2, l3, l4, l5] (.retAddr a :: st) M Q := wp_step rfl rfl rfl rfl rfl
theorem u12_14 : wp scr n mb_12 14 [l0, l1, l2, l3, l4, some (.int x)] st M Q ↔ wp scr n mb_12 16 [l0, l1, l2, l3, l4, some (.int x)] (.int x :: st) M Q := wp_step rfl rfl rfl rfl rfl
theorem u12_16 : wp scr n mb_12 16 L (.int y :: .retAddr a :: st) M Q ↔ mw_o (if a < 50 then none else (match mc_X scr a with | some (.inl xs) => mm_at xs y | _ => none)) (fun x => wp scr n mb_12 17 L (.int x :: st) M Q) := wp_bald rfl
theorem u12_17 : wp scr n mb_12 17 [l0, l1, l2, l3, some (.int x), l5] st M Q ↔ wp scr n mb_12 19 [l0, l1, l2, l3, some (.int x), l5] (.int x :: st) M Q := wp_step rfl rfl rfl rfl rfl
theorem u12_19 : wp scr n mb_12 19 L (.int y :: .int x :: st) M Q ↔ (if x = y then wp scr n mb_12 22 L st M Q else wp scr n mb_12 25 L st M Q) := (wp_step rfl rfl rfl rfl rfl).trans wp_iten
theorem u12_22 : wp scr n mb_12 22 [l0, l1, l2, l3, l4, some (.int x)] st M Q ↔ wp scr n mb_12 24 [l0, l1, l2, l3, l4, some (.int x)] (.int x :: st) M Q := wp_step rfl rfl rfl rfl rfl
theorem u12_24 : wp scr n mb_12 24 L [.int x] M Q ↔ Q (some (.int x)) M := wp_ret rfl rfl
theorem u12_25 : wp scr n mb_12 25 [l0, l1, l2, l3, l4, some (.int x)] st M Q ↔ wp scr n mb_12 28 (mm_sto1 [l0, l1, l2, l3, l4, some (.int x)] 5 (.int (x + 1))) st M Q := wp_step rfl rfl rfl rfl rfl
theorem u12_28 : wp scr n mb_12 28 L st M Q ↔ wp scr n mb_12 7 L st M Q := wp_step rfl rfl rfl rfl rfl
theorem u12_31 : wp scr n mb_12 31 L st M Q ↔ wp scr n mb_12 32 L (.int (-1) :: st) M Q := wp_step rfl rfl rfl rfl rfl
theorem u12_32 : wp scr n mb_12 32 L [.int x] M Q ↔ Q (some (.int x)) M := wp_ret rfl rfl
theorem e12 : Wp scr (n + 1) 12 [.retAddr b1, .int x2, .int x3, .int x4] M Q ↔ wp scr n mb_12 0 [some (.retAddr b1), some (.int x2), some (.int x3), some (.int x4), none, none] [] M Q := Wp_to rfl rfl rfl
/-- jdk/internal/util/Preconditions checkIndex (IILjava/util/function/BiFunction;)I -/
def mb_13 : mw_B := ((Option.some FieldType.int), mp_13)
theorem u13_0 : wp scr n mb_13 0 [some (.int x), l1, l2] st M Q ↔ wp scr n mb_13 1 [some (.int x), l1, l2] (.int x :: st) M Q := wp_step rfl rfl rfl rfl rfl
theorem u13_1 : wp scr n mb_13 1 L (.int x :: st) M Q ↔ (if x < 0 then wp scr n mb_13 9 L st M Q else wp scr n mb_13 4 L st M Q) := (wp_step rfl rfl rfl rfl rfl).trans wp_ite
theorem u13_4 : wp scr n mb_13 4 [some (.int x), l1, l2] st M Q ↔ wp scr n mb_13 5 [some (.int x), l1, l2] (.int x :: st) M Q := wp_step rfl rfl rfl rfl rfl
theorem u13_5 : wp scr n mb_13 5 [l0, some (.int x), l2] st M Q ↔ wp scr n mb_13 6 [l0, some (.int x), l2] (.int x :: st) M Q := wp_step rfl rfl rfl rfl rfl
theorem u13_6 : wp scr n mb_13 6 L (.int y :: .int x :: st) M Q ↔ (if x < y then wp scr n mb_13 16 L st M Q else wp scr n mb_13 9 L st M Q) := (wp_step rfl rfl rfl rfl rfl).trans wp_ite
theorem u13_9 : wp scr n mb_13 9 [l0, l1, some (.ref a)] st M Q ↔ wp scr n mb_13 10 [l0, l1, some (.ref a)] (.ref a :: st) M Q := wp_step rfl rfl rfl rfl rfl
theorem u13_9b : wp scr n mb_13 9 [l0, l1, some (.retAddr a)] st M Q ↔ wp scr n mb_13 10 [l0, l1, some (.retAddr a)] (.retAddr a :: st) M Q := wp_step rfl rfl rfl rfl rfl
theorem u13_10 : wp scr n mb_13 10 [some (.int x), l1, l2] st M Q ↔ wp scr n mb_13 11 [some (.int x), l1, l2] (.int x :: st) M Q := wp_step rfl rfl rfl rfl rfl
theorem u13_11 : wp scr n mb_13 11 [l0, some (.int x), l2] st M Q ↔ wp scr n mb_13 12 [l0, some (.int x), l2] (.int x :: st) M Q := wp_step rfl rfl rfl rfl rfl
theorem u13_16 : wp scr n mb_13 16 [some (.int x), l1, l2] st M Q ↔ wp scr n mb_13 17 [some (.int x), l1, l2] (.int x :: st) M Q := wp_step rfl rfl rfl rfl rfl
theorem u13_17 : wp scr n mb_13 17 L [.int x] M Q ↔ Q (some (.int x)) M := wp_ret rfl rfl
theorem e13 : Wp scr (n + 1) 13 [.int x1, .int x2, .retAddr b3] M Q ↔ wp scr n mb_13 0 [some (.int x1), some (.int x2), some (.retAddr b3)] [] M Q := Wp_to rfl rfl rfl
/-- SmallerInTheShop$Draws drawBelow (I)I -/
def mb_15 : mw_B := ((Option.some FieldType.int), mp_15)
theorem u15_0 : wp scr n mb_15 0 [some (.ref a), l1] st M Q ↔ wp scr n mb_15 1 [some (.ref a), l1] (.ref a :: st) M Q := wp_step rfl rfl rfl rfl rfl
theorem u15_1 : wp scr n mb_15 1 [some (.ref a), l1] st M Q ↔ wp scr n mb_15 2 [some (.ref a), l1] (.ref a :: st) M Q := wp_step rfl rfl rfl rfl rfl
theorem u15_2 : wp scr n mb_15 2 L (o :: st) M Q ↔ mw_o (mm_fld (mc_X scr) M o 0 0) (fun v => wp scr n mb_15 5 L (v :: st) M Q) := wp_getf rfl
theorem u15_5 : wp scr n mb_15 5 L st M Q ↔ wp scr n mb_15 7 L (.int (1664525) :: st) M Q := wp_step rfl rfl rfl rfl rfl
theorem u15_7 : wp scr n mb_15 7 L (.int y :: .int x :: st) M Q ↔ wp scr n mb_15 8 L (.int (x * y) :: st) M Q := wp_step rfl rfl rfl rfl rfl
theorem u15_8 : wp scr n mb_15 8 L st M Q ↔ wp scr n mb_15 10 L (.int (1013904223) :: st) M Q := wp_step rfl rfl rfl rfl rfl
theorem u15_10 : wp scr n mb_15 10 L (.int y :: .int x :: st) M Q ↔ wp scr n mb_15 11 L (.int (x + y) :: st) M Q := wp_step rfl rfl rfl rfl rfl
theorem u15_11 : wp scr n mb_15 11 L (v :: o :: st) M Q ↔ mw_o (mm_put mc_fty M o v 0 0) (fun M1 => wp scr n mb_15 14 L st M1 Q) := wp_putf rfl
theorem u15_14 : wp scr n mb_15 14 [l0, some (.int x)] st M Q ↔ wp scr n mb_15 15 [l0, some (.int x)] (.int x :: st) M Q := wp_step rfl rfl rfl rfl rfl
theorem u15_15 : wp scr n mb_15 15 L st M Q ↔ wp scr n mb_15 16 L (.int 1 :: st) M Q := wp_step rfl rfl rfl rfl rfl
theorem u15_16 : wp scr n mb_15 16 L (.int y :: .int x :: st) M Q ↔ (if y ≤ x then wp scr n mb_15 23 L st M Q else wp scr n mb_15 19 L st M Q) := (wp_step rfl rfl rfl rfl rfl).trans wp_ite
theorem u15_19 : wp scr n mb_15 19 L st M Q ↔ wp scr n mb_15 20 L (.int 0 :: st) M Q := wp_step rfl rfl rfl rfl rfl
theorem u15_20 : wp scr n mb_15 20 L st M Q ↔ wp scr n mb_15 36 L st M Q := wp_step rfl rfl rfl rfl rfl
theorem u15_23 : wp scr n mb_15 23 [some (.ref a), l1] st M Q ↔ wp scr n mb_15 24 [some (.ref a), l1] (.ref a :: st) M Q := wp_step rfl rfl rfl rfl rfl
theorem u15_24 : wp scr n mb_15 24 L (o :: st) M Q ↔ mw_o (mm_fld (mc_X scr) M o 0 0) (fun v => wp scr n mb_15 27 L (v :: st) M Q) := wp_getf rfl
theorem u15_27 : wp scr n mb_15 27 L st M Q ↔ wp scr n mb_15 29 L (.int (2147483647) :: st) M Q := wp_step rfl rfl rfl rfl rfl
theorem u15_29 : wp scr n mb_15 29 L (.int y :: .int x :: st) M Q ↔ wp scr n mb_15 30 L (.int (x &&& y) :: st) M Q := wp_step rfl rfl rfl rfl rfl
theorem u15_30 : wp scr n mb_15 30 L st M Q ↔ wp scr n mb_15 33 L (.int 256 :: st) M Q := wp_step rfl rfl rfl rfl rfl
theorem u15_33 : wp scr n mb_15 33 L (.int y :: .int x :: st) M Q ↔ (if y = 0 then False else wp scr n mb_15 34 L (.int (x / y) :: st) M Q) := wp_idiv rfl
theorem u15_34 : wp scr n mb_15 34 [l0, some (.int x)] st M Q ↔ wp scr n mb_15 35 [l0, some (.int x)] (.int x :: st) M Q := wp_step rfl rfl rfl rfl rfl
theorem u15_35 : wp scr n mb_15 35 L (.int y :: .int x :: st) M Q ↔ (if y = 0 then False else wp scr n mb_15 36 L (.int (x - x / y * y) :: st) M Q) := wp_irem rfl
theorem u15_36 : wp scr n mb_15 36 L [.int x] M Q ↔ Q (some (.int x)) M := wp_ret rfl rfl
theorem e15 : Wp scr (n + 1) 15 [.ref a0, .int x1] M Q ↔ wp scr n mb_15 0 [some (.ref a0), some (.int x1)] [] M Q := Wp_to rfl rfl rfl
/-- SmallerInTheShop$Kinds effort (IIII)I -/
def mb_16 : mw_B := ((Option.some FieldType.int), mp_16)
theorem u16_0 : wp scr n mb_16 0 [some (.int x), l1, l2, l3] st M Q ↔ wp scr n mb_16 1 [some (.int x), l1, l2, l3] (.int x :: st) M Q := wp_step rfl rfl rfl rfl rfl
theorem u16_1 : wp scr n mb_16 1 L (.int x :: st) M Q ↔ wp scr n mb_16 (mw_sw x [(1, 36), (2, 43), (3, 50), (4, 61), (5, 64)] 73) L st M Q := wp_tabS (d := 72) (lo := 1) (hi := 5) (os := #[35, 42, 49, 60, 63]) rfl (by decide +kernel) (by decide +kernel) (by decide +kernel)
theorem u16_36 : wp scr n mb_16 36 L st M Q ↔ wp scr n mb_16 37 L (.int 2 :: st) M Q := wp_step rfl rfl rfl rfl rfl
theorem u16_37 : wp scr n mb_16 37 [l0, some (.int x), l2, l3] st M Q ↔ wp scr n mb_16 38 [l0, some (.int x), l2, l3] (.int x :: st) M Q := wp_step rfl rfl rfl rfl rfl
theorem u16_38 : wp scr n mb_16 38 [l0, l1, l2, some (.int x)] st M Q ↔ wp scr n mb_16 39 [l0, l1, l2, some (.int x)] (.int x :: st) M Q := wp_step rfl rfl rfl rfl rfl
theorem u16_39 : wp scr n mb_16 39 L (a3 :: a2 :: a1 :: st) M Q ↔ (mw_st st ∧ Wp scr n 17 [a1, a2, a3] M (fun r1 M1 => wp scr n mb_16 42 L (r1.toList ++ st) M1 Q)) := wp_sta rfl rfl rfl rfl
theorem u16_42 : wp scr n mb_16 42 L [.int x] M Q ↔ Q (some (.int x)) M := wp_ret rfl rfl
theorem u16_43 : wp scr n mb_16 43 L st M Q ↔ wp scr n mb_16 44 L (.int 1 :: st) M Q := wp_step rfl rfl rfl rfl rfl
theorem u16_44 : wp scr n mb_16 44 [l0, some (.int x), l2, l3] st M Q ↔ wp scr n mb_16 45 [l0, some (.int x), l2, l3] (.int x :: st) M Q := wp_step rfl rfl rfl rfl rfl
theorem u16_45 : wp scr n mb_16 45 [l0, l1, l2, some (.int x)] st M Q ↔ wp scr n mb_16 46 [l0, l1, l2, some (.int x)] (.int x :: st) M Q := wp_step rfl rfl rfl rfl rfl
theorem u16_46 : wp scr n mb_16 46 L (a3 :: a2 :: a1 :: st) M Q ↔ (mw_st st ∧ Wp scr n 17 [a1, a2, a3] M (fun r1 M1 => wp scr n mb_16 49 L (r1.toList ++ st) M1 Q)) := wp_sta rfl rfl rfl rfl
theorem u16_49 : wp scr n mb_16 49 L [.int x] M Q ↔ Q (some (.int x)) M := wp_ret rfl rfl
theorem u16_50 : wp scr n mb_16 50 L st M Q ↔ wp scr n mb_16 51 L (.int 2 :: st) M Q := wp_step rfl rfl rfl rfl rfl
theorem u16_51 : wp scr n mb_16 51 [l0, some (.int x), l2, l3] st M Q ↔ wp scr n mb_16 52 [l0, some (.int x), l2, l3] (.int x :: st) M Q := wp_step rfl rfl rfl rfl rfl
theorem u16_52 : wp scr n mb_16 52 [l0, l1, some (.int x), l3] st M Q ↔ wp scr n mb_16 53 [l0, l1, some (.int x), l3] (.int x :: st) M Q := wp_step rfl rfl rfl rfl rfl
theorem u16_53 : wp scr n mb_16 53 [l0, l1, l2, some (.int x)] st M Q ↔ wp scr n mb_16 54 [l0, l1, l2, some (.int x)] (.int x :: st) M Q := wp_step rfl rfl rfl rfl rfl
theorem u16_54 : wp scr n mb_16 54 L (a2 :: a1 :: st) M Q ↔ (mw_st st ∧ Wp scr n 18 [a1, a2] M (fun r1 M1 => wp scr n mb_16 57 L (r1.toList ++ st) M1 Q)) := wp_sta rfl rfl rfl rfl
theorem u16_57 : wp scr n mb_16 57 L (a3 :: a2 :: a1 :: st) M Q ↔ (mw_st st ∧ Wp scr n 17 [a1, a2, a3] M (fun r1 M1 => wp scr n mb_16 60 L (r1.toList ++ st) M1 Q)) := wp_sta rfl rfl rfl rfl
theorem u16_60 : wp scr n mb_16 60 L [.int x] M Q ↔ Q (some (.int x)) M := wp_ret rfl rfl
theorem u16_61 : wp scr n mb_16 61 L st M Q ↔ wp scr n mb_16 63 L (.int 7 :: st) M Q := wp_step rfl rfl rfl rfl rfl
theorem u16_63 : wp scr n mb_16 63 L [.int x] M Q ↔ Q (some (.int x)) M := wp_ret rfl rfl
theorem u16_64 : wp scr n mb_16 64 L st M Q ↔ wp scr n mb_16 65 L (.int 1 :: st) M Q := wp_step rfl rfl rfl rfl rfl
theorem u16_65 : wp scr n mb_16 65 [l0, some (.int x), l2, l3] st M Q ↔ wp scr n mb_16 66 [l0, some (.int x), l2, l3] (.int x :: st) M Q := wp_step rfl rfl rfl rfl rfl
theorem u16_66 : wp scr n mb_16 66 [l0, l1, l2, some (.int x)] st M Q ↔ wp scr n mb_16 67 [l0, l1, l2, some (.int x)] (.int x :: st) M Q := wp_step rfl rfl rfl rfl rfl
theorem u16_67 : wp scr n mb_16 67 L (a3 :: a2 :: a1 :: st) M Q ↔ (mw_st st ∧ Wp scr n 17 [a1, a2, a3] M (fun r1 M1 => wp scr n mb_16 70 L (r1.toList ++ st) M1 Q)) := wp_sta rfl rfl rfl rfl
theorem u16_70 : wp scr n mb_16 70 L st M Q ↔ wp scr n mb_16 71 L (.int 2 :: st) M Q := wp_step rfl rfl rfl rfl rfl
theorem u16_71 : wp scr n mb_16 71 L (.int y :: .int x :: st) M Q ↔ (if y = 0 then False else wp scr n mb_16 72 L (.int (x / y) :: st) M Q) := wp_idiv rfl
theorem u16_72 : wp scr n mb_16 72 L [.int x] M Q ↔ Q (some (.int x)) M := wp_ret rfl rfl
theorem u16_73 : wp scr n mb_16 73 L st M Q ↔ wp scr n mb_16 74 L (.int 3 :: st) M Q := wp_step rfl rfl rfl rfl rfl
theorem u16_74 : wp scr n mb_16 74 L [.int x] M Q ↔ Q (some (.int x)) M := wp_ret rfl rfl
theorem e16 : Wp scr (n + 1) 16 [.int x1, .int x2, .int x3, .int x4] M Q ↔ wp scr n mb_16 0 [some (.int x1), some (.int x2), some (.int x3), some (.int x4)] [] M Q := Wp_to rfl rfl rfl
/-- SmallerInTheShop$Kinds effortAgainst (III)I -/
def mb_17 : mw_B := ((Option.some FieldType.int), mp_17)
theorem u17_0 : wp scr n mb_17 0 [l0, l1, some (.int x)] st M Q ↔ wp scr n mb_17 1 [l0, l1, some (.int x)] (.int x :: st) M Q := wp_step rfl rfl rfl rfl rfl
theorem u17_1 : wp scr n mb_17 1 [some (.int x), l1, l2] st M Q ↔ wp scr n mb_17 2 [some (.int x), l1, l2] (.int x :: st) M Q := wp_step rfl rfl rfl rfl rfl
theorem u17_2 : wp scr n mb_17 2 L (.int y :: .int x :: st) M Q ↔ (if x = y then wp scr n mb_17 5 L st M Q else wp scr n mb_17 11 L st M Q) := (wp_step rfl rfl rfl rfl rfl).trans wp_iten
theorem u17_5 : wp scr n mb_17 5 L st M Q ↔ wp scr n mb_17 6 L (.int 3 :: st) M Q := wp_step rfl rfl rfl rfl rfl
theorem u17_6 : wp scr n mb_17 6 [l0, some (.int x), l2] st M Q ↔ wp scr n mb_17 7 [l0, some (.int x), l2] (.int x :: st) M Q := wp_step rfl rfl rfl rfl rfl
theorem u17_7 : wp scr n mb_17 7 L (.int y :: .int x :: st) M Q ↔ wp scr n mb_17 8 L (.int (x + y) :: st) M Q := wp_step rfl rfl rfl rfl rfl
theorem u17_8 : wp scr n mb_17 8 L st M Q ↔ wp scr n mb_17 12 L st M Q := wp_step rfl rfl rfl rfl rfl
theorem u17_11 : wp scr n mb_17 11 L st M Q ↔ wp scr n mb_17 12 L (.int 3 :: st) M Q := wp_step rfl rfl rfl rfl rfl
theorem u17_12 : wp scr n mb_17 12 L [.int x] M Q ↔ Q (some (.int x)) M := wp_ret rfl rfl
theorem e17 : Wp scr (n + 1) 17 [.int x1, .int x2, .int x3] M Q ↔ wp scr n mb_17 0 [some (.int x1), some (.int x2), some (.int x3)] [] M Q := Wp_to rfl rfl rfl
/-- SmallerInTheShop$Kinds sprungSide (II)I -/
def mb_18 : mw_B := ((Option.some FieldType.int), mp_18)
theorem u18_0 : wp scr n mb_18 0 [some (.int x), l1] st M Q ↔ wp scr n mb_18 1 [some (.int x), l1] (.int x :: st) M Q := wp_step rfl rfl rfl rfl rfl
theorem u18_1 : wp scr n mb_18 1 L st M Q ↔ wp scr n mb_18 3 L (.int 10 :: st) M Q := wp_step rfl rfl rfl rfl rfl
theorem u18_3 : wp scr n mb_18 3 L (.int y :: .int x :: st) M Q ↔ (if y ≤ x then wp scr n mb_18 8 L st M Q else wp scr n mb_18 6 L st M Q) := (wp_step rfl rfl rfl rfl rfl).trans wp_ite
theorem u18_6 : wp scr n mb_18 6 [l0, some (.int x)] st M Q ↔ wp scr n mb_18 7 [l0, some (.int x)] (.int x :: st) M Q := wp_step rfl rfl rfl rfl rfl
theorem u18_7 : wp scr n mb_18 7 L [.int x] M Q ↔ Q (some (.int x)) M := wp_ret rfl rfl
theorem u18_8 : wp scr n mb_18 8 [l0, some (.int x)] st M Q ↔ wp scr n mb_18 9 [l0, some (.int x)] (.int x :: st) M Q := wp_step rfl rfl rfl rfl rfl
theorem u18_9 : wp scr n mb_18 9 L st M Q ↔ wp scr n mb_18 10 L (.int 1 :: st) M Q := wp_step rfl rfl rfl rfl rfl
theorem u18_10 : wp scr n mb_18 10 L (.int y :: .int x :: st) M Q ↔ (if x = y then wp scr n mb_18 13 L st M Q else wp scr n mb_18 17 L st M Q) := (wp_step rfl rfl rfl rfl rfl).trans wp_iten
theorem u18_13 : wp scr n mb_18 13 L st M Q ↔ wp scr n mb_18 14 L (.int 2 :: st) M Q := wp_step rfl rfl rfl rfl rfl
theorem u18_14 : wp scr n mb_18 14 L st M Q ↔ wp scr n mb_18 18 L st M Q := wp_step rfl rfl rfl rfl rfl
theorem u18_17 : wp scr n mb_18 17 L st M Q ↔ wp scr n mb_18 18 L (.int 1 :: st) M Q := wp_step rfl rfl rfl rfl rfl
theorem u18_18 : wp scr n mb_18 18 L [.int x] M Q ↔ Q (some (.int x)) M := wp_ret rfl rfl
theorem e18 : Wp scr (n + 1) 18 [.int x1, .int x2] M Q ↔ wp scr n mb_18 0 [some (.int x1), some (.int x2)] [] M Q := Wp_to rfl rfl rfl
/-- SmallerInTheShop$Kinds wear (III)I -/
def mb_19 : mw_B := ((Option.some FieldType.int), mp_19)
theorem u19_0 : wp scr n mb_19 0 [some (.int x), l1, l2] st M Q ↔ wp scr n mb_19 1 [some (.int x), l1, l2] (.int x :: st) M Q := wp_step rfl rfl rfl rfl rfl
theorem u19_1 : wp scr n mb_19 1 L (.int x :: st) M Q ↔ wp scr n mb_19 (mw_sw x [(1, 36), (2, 42), (3, 48), (4, 58), (5, 60)] 68) L st M Q := wp_tabS (d := 67) (lo := 1) (hi := 5) (os := #[35, 41, 47, 57, 59]) rfl (by decide +kernel) (by decide +kernel) (by decide +kernel)
theorem u19_36 : wp scr n mb_19 36 L st M Q ↔ wp scr n mb_19 37 L (.int 2 :: st) M Q := wp_step rfl rfl rfl rfl rfl
theorem u19_37 : wp scr n mb_19 37 [l0, l1, some (.int x)] st M Q ↔ wp scr n mb_19 38 [l0, l1, some (.int x)] (.int x :: st) M Q := wp_step rfl rfl rfl rfl rfl
theorem u19_38 : wp scr n mb_19 38 L (a2 :: a1 :: st) M Q ↔ (mw_st st ∧ Wp scr n 20 [a1, a2] M (fun r1 M1 => wp scr n mb_19 41 L (r1.toList ++ st) M1 Q)) := wp_sta rfl rfl rfl rfl
theorem u19_41 : wp scr n mb_19 41 L [.int x] M Q ↔ Q (some (.int x)) M := wp_ret rfl rfl
theorem u19_42 : wp scr n mb_19 42 L st M Q ↔ wp scr n mb_19 43 L (.int 1 :: st) M Q := wp_step rfl rfl rfl rfl rfl
theorem u19_43 : wp scr n mb_19 43 [l0, l1, some (.int x)] st M Q ↔ wp scr n mb_19 44 [l0, l1, some (.int x)] (.int x :: st) M Q := wp_step rfl rfl rfl rfl rfl
theorem u19_44 : wp scr n mb_19 44 L (a2 :: a1 :: st) M Q ↔ (mw_st st ∧ Wp scr n 20 [a1, a2] M (fun r1 M1 => wp scr n mb_19 47 L (r1.toList ++ st) M1 Q)) := wp_sta rfl rfl rfl rfl
theorem u19_47 : wp scr n mb_19 47 L [.int x] M Q ↔ Q (some (.int x)) M := wp_ret rfl rfl
theorem u19_48 : wp scr n mb_19 48 L st M Q ↔ wp scr n mb_19 49 L (.int 2 :: st) M Q := wp_step rfl rfl rfl rfl rfl
theorem u19_49 : wp scr n mb_19 49 [l0, some (.int x), l2] st M Q ↔ wp scr n mb_19 50 [l0, some (.int x), l2] (.int x :: st) M Q := wp_step rfl rfl rfl rfl rfl
theorem u19_50 : wp scr n mb_19 50 [l0, l1, some (.int x)] st M Q ↔ wp scr n mb_19 51 [l0, l1, some (.int x)] (.int x :: st) M Q := wp_step rfl rfl rfl rfl rfl
theorem u19_51 : wp scr n mb_19 51 L (a2 :: a1 :: st) M Q ↔ (mw_st st ∧ Wp scr n 18 [a1, a2] M (fun r1 M1 => wp scr n mb_19 54 L (r1.toList ++ st) M1 Q)) := wp_sta rfl rfl rfl rfl
theorem u19_54 : wp scr n mb_19 54 L (a2 :: a1 :: st) M Q ↔ (mw_st st ∧ Wp scr n 20 [a1, a2] M (fun r1 M1 => wp scr n mb_19 57 L (r1.toList ++ st) M1 Q)) := wp_sta rfl rfl rfl rfl
theorem u19_57 : wp scr n mb_19 57 L [.int x] M Q ↔ Q (some (.int x)) M := wp_ret rfl rfl
theorem u19_58 : wp scr n mb_19 58 L st M Q ↔ wp scr n mb_19 59 L (.int 0 :: st) M Q := wp_step rfl rfl rfl rfl rfl
theorem u19_59 : wp scr n mb_19 59 L [.int x] M Q ↔ Q (some (.int x)) M := wp_ret rfl rfl
theorem u19_60 : wp scr n mb_19 60 L st M Q ↔ wp scr n mb_19 61 L (.int 1 :: st) M Q := wp_step rfl rfl rfl rfl rfl
theorem u19_61 : wp scr n mb_19 61 [l0, l1, some (.int x)] st M Q ↔ wp scr n mb_19 62 [l0, l1, some (.int x)] (.int x :: st) M Q := wp_step rfl rfl rfl rfl rfl
theorem u19_62 : wp scr n mb_19 62 L (a2 :: a1 :: st) M Q ↔ (mw_st st ∧ Wp scr n 20 [a1, a2] M (fun r1 M1 => wp scr n mb_19 65 L (r1.toList ++ st) M1 Q)) := wp_sta rfl rfl rfl rfl
theorem u19_65 : wp scr n mb_19 65 L st M Q ↔ wp scr n mb_19 66 L (.int 1 :: st) M Q := wp_step rfl rfl rfl rfl rfl
theorem u19_66 : wp scr n mb_19 66 L (.int y :: .int x :: st) M Q ↔ wp scr n mb_19 67 L (.int (x + y) :: st) M Q := wp_step rfl rfl rfl rfl rfl
theorem u19_67 : wp scr n mb_19 67 L [.int x] M Q ↔ Q (some (.int x)) M := wp_ret rfl rfl
theorem u19_68 : wp scr n mb_19 68 L st M Q ↔ wp scr n mb_19 69 L (.int 1 :: st) M Q := wp_step rfl rfl rfl rfl rfl
theorem u19_69 : wp scr n mb_19 69 L [.int x] M Q ↔ Q (some (.int x)) M := wp_ret rfl rfl
theorem e19 : Wp scr (n + 1) 19 [.int x1, .int x2, .int x3] M Q ↔ wp scr n mb_19 0 [some (.int x1), some (.int x2), some (.int x3)] [] M Q := Wp_to rfl rfl rfl
/-- SmallerInTheShop$Kinds wearAgainst (II)I -/
def mb_20 : mw_B := ((Option.some FieldType.int), mp_20)
theorem u20_0 : wp scr n mb_20 0 [l0, some (.int x)] st M Q ↔ wp scr n mb_20 1 [l0, some (.int x)] (.int x :: st) M Q := wp_step rfl rfl rfl rfl rfl
theorem u20_1 : wp scr n mb_20 1 [some (.int x), l1] st M Q ↔ wp scr n mb_20 2 [some (.int x), l1] (.int x :: st) M Q := wp_step rfl rfl rfl rfl rfl
theorem u20_2 : wp scr n mb_20 2 L (.int y :: .int x :: st) M Q ↔ (if x = y then wp scr n mb_20 5 L st M Q else wp scr n mb_20 9 L st M Q) := (wp_step rfl rfl rfl rfl rfl).trans wp_iten
theorem u20_5 : wp scr n mb_20 5 L st M Q ↔ wp scr n mb_20 6 L (.int 2 :: st) M Q := wp_step rfl rfl rfl rfl rfl
theorem u20_6 : wp scr n mb_20 6 L st M Q ↔ wp scr n mb_20 10 L st M Q := wp_step rfl rfl rfl rfl rfl
theorem u20_9 : wp scr n mb_20 9 L st M Q ↔ wp scr n mb_20 10 L (.int 1 :: st) M Q := wp_step rfl rfl rfl rfl rfl
theorem u20_10 : wp scr n mb_20 10 L [.int x] M Q ↔ Q (some (.int x)) M := wp_ret rfl rfl
theorem e20 : Wp scr (n + 1) 20 [.int x1, .int x2] M Q ↔ wp scr n mb_20 0 [some (.int x1), some (.int x2)] [] M Q := Wp_to rfl rfl rfl
/-- SmallerInTheShop$Layout copyLayout (LSmallerInTheShop$Layout;)V -/
def mb_22 : mw_B := ((Option.none : Option FieldType), mp_22)
theorem u22_0 : wp scr n mb_22 0 L st M Q ↔ wp scr n mb_22 1 L (.int 0 :: st) M Q := wp_step rfl rfl rfl rfl rfl
theorem u22_1 : wp scr n mb_22 1 [l0, l1, l2] (.int x :: st) M Q ↔ wp scr n mb_22 2 (mm_sto1 [l0, l1, l2] 2 (.int x)) st M Q := wp_step rfl rfl rfl rfl rfl
theorem u22_2 : wp scr n mb_22 2 [l0, l1, some (.int x)] st M Q ↔ wp scr n mb_22 3 [l0, l1, some (.int x)] (.int x :: st) M Q := wp_step rfl rfl rfl rfl rfl
theorem u22_3 : wp scr n mb_22 3 L st M Q ↔ wp scr n mb_22 5 L (.int 8 :: st) M Q := wp_step rfl rfl rfl rfl rfl
theorem u22_5 : wp scr n mb_22 5 L (.int y :: .int x :: st) M Q ↔ (if y ≤ x then wp scr n mb_22 74 L st M Q else wp scr n mb_22 8 L st M Q) := (wp_step rfl rfl rfl rfl rfl).trans wp_ite
theorem u22_8 : wp scr n mb_22 8 [some (.ref a), l1, l2] st M Q ↔ wp scr n mb_22 9 [some (.ref a), l1, l2] (.ref a :: st) M Q := wp_step rfl rfl rfl rfl rfl
theorem u22_9 : wp scr n mb_22 9 L (o :: st) M Q ↔ mw_o (mm_fld (mc_X scr) M o 1 0) (fun v => wp scr n mb_22 12 L (v :: st) M Q) := wp_getf rfl
theorem u22_12 : wp scr n mb_22 12 [l0, l1, some (.int x)] st M Q ↔ wp scr n mb_22 13 [l0, l1, some (.int x)] (.int x :: st) M Q := wp_step rfl rfl rfl rfl rfl
theorem u22_13 : wp scr n mb_22 13 [l0, some (.ref a), l2] st M Q ↔ wp scr n mb_22 14 [l0, some (.ref a), l2] (.ref a :: st) M Q := wp_step rfl rfl rfl rfl rfl
theorem u22_14 : wp scr n mb_22 14 L (o :: st) M Q ↔ mw_o (mm_fld (mc_X scr) M o 1 0) (fun v => wp scr n mb_22 17 L (v :: st) M Q) := wp_getf rfl
theorem u22_17 : wp scr n mb_22 17 [l0, l1, some (.int x)] st M Q ↔ wp scr n mb_22 18 [l0, l1, some (.int x)] (.int x :: st) M Q := wp_step rfl rfl rfl rfl rfl
theorem u22_18 : wp scr n mb_22 18 L (.int y :: o :: st) M Q ↔ mw_o (mm_ld (mc_X scr) M o y) (fun x => wp scr n mb_22 19 L (.int x :: st) M Q) := wp_iald rfl
theorem u22_19 : wp scr n mb_22 19 L (.int x :: .int y :: o :: st) M Q ↔ mw_o (mm_sti M o y x) (fun M1 => wp scr n mb_22 20 L st M1 Q) := wp_iast rfl
theorem u22_20 : wp scr n mb_22 20 [some (.ref a), l1, l2] st M Q ↔ wp scr n mb_22 21 [some (.ref a), l1, l2] (.ref a :: st) M Q := wp_step rfl rfl rfl rfl rfl
theorem u22_21 : wp scr n mb_22 21 L (o :: st) M Q ↔ mw_o (mm_fld (mc_X scr) M o 1 1) (fun v => wp scr n mb_22 24 L (v :: st) M Q) := wp_getf rfl
theorem u22_24 : wp scr n mb_22 24 [l0, l1, some (.int x)] st M Q ↔ wp scr n mb_22 25 [l0, l1, some (.int x)] (.int x :: st) M Q := wp_step rfl rfl rfl rfl rfl
theorem u22_25 : wp scr n mb_22 25 [l0, some (.ref a), l2] st M Q ↔ wp scr n mb_22 26 [l0, some (.ref a), l2] (.ref a :: st) M Q := wp_step rfl rfl rfl rfl rfl
theorem u22_26 : wp scr n mb_22 26 L (o :: st) M Q ↔ mw_o (mm_fld (mc_X scr) M o 1 1) (fun v => wp scr n mb_22 29 L (v :: st) M Q) := wp_getf rfl
theorem u22_29 : wp scr n mb_22 29 [l0, l1, some (.int x)] st M Q ↔ wp scr n mb_22 30 [l0, l1, some (.int x)] (.int x :: st) M Q := wp_step rfl rfl rfl rfl rfl
theorem u22_30 : wp scr n mb_22 30 L (.int y :: o :: st) M Q ↔ mw_o (mm_ld (mc_X scr) M o y) (fun x => wp scr n mb_22 31 L (.int x :: st) M Q) := wp_iald rfl
theorem u22_31 : wp scr n mb_22 31 L (.int x :: .int y :: o :: st) M Q ↔ mw_o (mm_sti M o y x) (fun M1 => wp scr n mb_22 32 L st M1 Q) := wp_iast rfl
theorem u22_32 : wp scr n mb_22 32 [some (.ref a), l1, l2] st M Q ↔ wp scr n mb_22 33 [some (.ref a), l1, l2] (.ref a :: st) M Q := wp_step rfl rfl rfl rfl rfl
theorem u22_33 : wp scr n mb_22 33 L (o :: st) M Q ↔ mw_o (mm_fld (mc_X scr) M o 1 2) (fun v => wp scr n mb_22 36 L (v :: st) M Q) := wp_getf rfl
theorem u22_36 : wp scr n mb_22 36 [l0, l1, some (.int x)] st M Q ↔ wp scr n mb_22 37 [l0, l1, some (.int x)] (.int x :: st) M Q := wp_step rfl rfl rfl rfl rfl
theorem u22_37 : wp scr n mb_22 37 [l0, some (.ref a), l2] st M Q ↔ wp scr n mb_22 38 [l0, some (.ref a), l2] (.ref a :: st) M Q := wp_step rfl rfl rfl rfl rfl
theorem u22_38 : wp scr n mb_22 38 L (o :: st) M Q ↔ mw_o (mm_fld (mc_X scr) M o 1 2) (fun v => wp scr n mb_22 41 L (v :: st) M Q) := wp_getf rfl
theorem u22_41 : wp scr n mb_22 41 [l0, l1, some (.int x)] st M Q ↔ wp scr n mb_22 42 [l0, l1, some (.int x)] (.int x :: st) M Q := wp_step rfl rfl rfl rfl rfl
theorem u22_42 : wp scr n mb_22 42 L (.int y :: o :: st) M Q ↔ mw_o (mm_ld (mc_X scr) M o y) (fun x => wp scr n mb_22 43 L (.int x :: st) M Q) := wp_iald rfl
theorem u22_43 : wp scr n mb_22 43 L (.int x :: .int y :: o :: st) M Q ↔ mw_o (mm_sti M o y x) (fun M1 => wp scr n mb_22 44 L st M1 Q) := wp_iast rfl
theorem u22_44 : wp scr n mb_22 44 [some (.ref a), l1, l2] st M Q ↔ wp scr n mb_22 45 [some (.ref a), l1, l2] (.ref a :: st) M Q := wp_step rfl rfl rfl rfl rfl
theorem u22_45 : wp scr n mb_22 45 L (o :: st) M Q ↔ mw_o (mm_fld (mc_X scr) M o 1 3) (fun v => wp scr n mb_22 48 L (v :: st) M Q) := wp_getf rfl
theorem u22_48 : wp scr n mb_22 48 [l0, l1, some (.int x)] st M Q ↔ wp scr n mb_22 49 [l0, l1, some (.int x)] (.int x :: st) M Q := wp_step rfl rfl rfl rfl rfl
theorem u22_49 : wp scr n mb_22 49 [l0, some (.ref a), l2] st M Q ↔ wp scr n mb_22 50 [l0, some (.ref a), l2] (.ref a :: st) M Q := wp_step rfl rfl rfl rfl rfl
theorem u22_50 : wp scr n mb_22 50 L (o :: st) M Q ↔ mw_o (mm_fld (mc_X scr) M o 1 3) (fun v => wp scr n mb_22 53 L (v :: st) M Q) := wp_getf rfl
theorem u22_53 : wp scr n mb_22 53 [l0, l1, some (.int x)] st M Q ↔ wp scr n mb_22 54 [l0, l1, some (.int x)] (.int x :: st) M Q := wp_step rfl rfl rfl rfl rfl
theorem u22_54 : wp scr n mb_22 54 L (.int y :: o :: st) M Q ↔ mw_o (mm_ld (mc_X scr) M o y) (fun x => wp scr n mb_22 55 L (.int x :: st) M Q) := wp_iald rfl
theorem u22_55 : wp scr n mb_22 55 L (.int x :: .int y :: o :: st) M Q ↔ mw_o (mm_sti M o y x) (fun M1 => wp scr n mb_22 56 L st M1 Q) := wp_iast rfl
theorem u22_56 : wp scr n mb_22 56 [some (.ref a), l1, l2] st M Q ↔ wp scr n mb_22 57 [some (.ref a), l1, l2] (.ref a :: st) M Q := wp_step rfl rfl rfl rfl rfl
theorem u22_57 : wp scr n mb_22 57 L (o :: st) M Q ↔ mw_o (mm_fld (mc_X scr) M o 1 5) (fun v => wp scr n mb_22 60 L (v :: st) M Q) := wp_getf rfl
theorem u22_60 : wp scr n mb_22 60 [l0, l1, some (.int x)] st M Q ↔ wp scr n mb_22 61 [l0, l1, some (.int x)] (.int x :: st) M Q := wp_step rfl rfl rfl rfl rfl
theorem u22_61 : wp scr n mb_22 61 [l0, some (.ref a), l2] st M Q ↔ wp scr n mb_22 62 [l0, some (.ref a), l2] (.ref a :: st) M Q := wp_step rfl rfl rfl rfl rfl
theorem u22_62 : wp scr n mb_22 62 L (o :: st) M Q ↔ mw_o (mm_fld (mc_X scr) M o 1 5) (fun v => wp scr n mb_22 65 L (v :: st) M Q) := wp_getf rfl
theorem u22_65 : wp scr n mb_22 65 [l0, l1, some (.int x)] st M Q ↔ wp scr n mb_22 66 [l0, l1, some (.int x)] (.int x :: st) M Q := wp_step rfl rfl rfl rfl rfl
theorem u22_66 : wp scr n mb_22 66 L (.int y :: o :: st) M Q ↔ mw_o (mm_ld (mc_X scr) M o y) (fun x => wp scr n mb_22 67 L (.int x :: st) M Q) := wp_iald rfl
theorem u22_67 : wp scr n mb_22 67 L (.int x :: .int y :: o :: st) M Q ↔ mw_o (mm_sti M o y x) (fun M1 => wp scr n mb_22 68 L st M1 Q) := wp_iast rfl
theorem u22_68 : wp scr n mb_22 68 [l0, l1, some (.int x)] st M Q ↔ wp scr n mb_22 71 (mm_sto1 [l0, l1, some (.int x)] 2 (.int (x + 1))) st M Q := wp_step rfl rfl rfl rfl rfl
theorem u22_71 : wp scr n mb_22 71 L st M Q ↔ wp scr n mb_22 2 L st M Q := wp_step rfl rfl rfl rfl rfl
theorem u22_74 : wp scr n mb_22 74 L st M Q ↔ wp scr n mb_22 75 L (.int 0 :: st) M Q := wp_step rfl rfl rfl rfl rfl
theorem u22_75 : wp scr n mb_22 75 [l0, l1, l2] (.int x :: st) M Q ↔ wp scr n mb_22 76 (mm_sto1 [l0, l1, l2] 2 (.int x)) st M Q := wp_step rfl rfl rfl rfl rfl
theorem u22_76 : wp scr n mb_22 76 [l0, l1, some (.int x)] st M Q ↔ wp scr n mb_22 77 [l0, l1, some (.int x)] (.int x :: st) M Q := wp_step rfl rfl rfl rfl rfl
theorem u22_77 : wp scr n mb_22 77 L st M Q ↔ wp scr n mb_22 79 L (.int 10 :: st) M Q := wp_step rfl rfl rfl rfl rfl
theorem u22_79 : wp scr n mb_22 79 L (.int y :: .int x :: st) M Q ↔ (if y ≤ x then wp scr n mb_22 100 L st M Q else wp scr n mb_22 82 L st M Q) := (wp_step rfl rfl rfl rfl rfl).trans wp_ite
theorem u22_82 : wp scr n mb_22 82 [some (.ref a), l1, l2] st M Q ↔ wp scr n mb_22 83 [some (.ref a), l1, l2] (.ref a :: st) M Q := wp_step rfl rfl rfl rfl rfl
theorem u22_83 : wp scr n mb_22 83 L (o :: st) M Q ↔ mw_o (mm_fld (mc_X scr) M o 1 4) (fun v => wp scr n mb_22 86 L (v :: st) M Q) := wp_getf rfl
theorem u22_86 : wp scr n mb_22 86 [l0, l1, some (.int x)] st M Q ↔ wp scr n mb_22 87 [l0, l1, some (.int x)] (.int x :: st) M Q := wp_step rfl rfl rfl rfl rfl
theorem u22_87 : wp scr n mb_22 87 [l0, some (.ref a), l2] st M Q ↔ wp scr n mb_22 88 [l0, some (.ref a), l2] (.ref a :: st) M Q := wp_step rfl rfl rfl rfl rfl
theorem u22_88 : wp scr n mb_22 88 L (o :: st) M Q ↔ mw_o (mm_fld (mc_X scr) M o 1 4) (fun v => wp scr n mb_22 91 L (v :: st) M Q) := wp_getf rfl
theorem u22_91 : wp scr n mb_22 91 [l0, l1, some (.int x)] st M Q ↔ wp scr n mb_22 92 [l0, l1, some (.int x)] (.int x :: st) M Q := wp_step rfl rfl rfl rfl rfl
theorem u22_92 : wp scr n mb_22 92 L (.int y :: o :: st) M Q ↔ mw_o (mm_ld (mc_X scr) M o y) (fun x => wp scr n mb_22 93 L (.int x :: st) M Q) := wp_iald rfl
theorem u22_93 : wp scr n mb_22 93 L (.int x :: .int y :: o :: st) M Q ↔ mw_o (mm_sti M o y x) (fun M1 => wp scr n mb_22 94 L st M1 Q) := wp_iast rfl
theorem u22_94 : wp scr n mb_22 94 [l0, l1, some (.int x)] st M Q ↔ wp scr n mb_22 97 (mm_sto1 [l0, l1, some (.int x)] 2 (.int (x + 1))) st M Q := wp_step rfl rfl rfl rfl rfl
theorem u22_97 : wp scr n mb_22 97 L st M Q ↔ wp scr n mb_22 76 L st M Q := wp_step rfl rfl rfl rfl rfl
theorem u22_100 : wp scr n mb_22 100 [some (.ref a), l1, l2] st M Q ↔ wp scr n mb_22 101 [some (.ref a), l1, l2] (.ref a :: st) M Q := wp_step rfl rfl rfl rfl rfl
theorem u22_101 : wp scr n mb_22 101 [l0, some (.ref a), l2] st M Q ↔ wp scr n mb_22 102 [l0, some (.ref a), l2] (.ref a :: st) M Q := wp_step rfl rfl rfl rfl rfl
theorem u22_102 : wp scr n mb_22 102 L (o :: st) M Q ↔ mw_o (mm_fld (mc_X scr) M o 1 6) (fun v => wp scr n mb_22 105 L (v :: st) M Q) := wp_getf rfl
theorem u22_105 : wp scr n mb_22 105 L (v :: o :: st) M Q ↔ mw_o (mm_put mc_fty M o v 1 6) (fun M1 => wp scr n mb_22 108 L st M1 Q) := wp_putf rfl
theorem u22_108 : wp scr n mb_22 108 [some (.ref a), l1, l2] st M Q ↔ wp scr n mb_22 109 [some (.ref a), l1, l2] (.ref a :: st) M Q := wp_step rfl rfl rfl rfl rfl
theorem u22_109 : wp scr n mb_22 109 [l0, some (.ref a), l2] st M Q ↔ wp scr n mb_22 110 [l0, some (.ref a), l2] (.ref a :: st) M Q := wp_step rfl rfl rfl rfl rfl
theorem u22_110 : wp scr n mb_22 110 L (o :: st) M Q ↔ mw_o (mm_fld (mc_X scr) M o 1 7) (fun v => wp scr n mb_22 113 L (v :: st) M Q) := wp_getf rfl
theorem u22_113 : wp scr n mb_22 113 L (v :: o :: st) M Q ↔ mw_o (mm_put mc_fty M o v 1 7) (fun M1 => wp scr n mb_22 116 L st M1 Q) := wp_putf rfl
theorem u22_116 : wp scr n mb_22 116 [some (.ref a), l1, l2] st M Q ↔ wp scr n mb_22 117 [some (.ref a), l1, l2] (.ref a :: st) M Q := wp_step rfl rfl rfl rfl rfl
theorem u22_117 : wp scr n mb_22 117 [l0, some (.ref a), l2] st M Q ↔ wp scr n mb_22 118 [l0, some (.ref a), l2] (.ref a :: st) M Q := wp_step rfl rfl rfl rfl rfl
theorem u22_118 : wp scr n mb_22 118 L (o :: st) M Q ↔ mw_o (mm_fld (mc_X scr) M o 1 8) (fun v => wp scr n mb_22 121 L (v :: st) M Q) := wp_getf rfl
theorem u22_121 : wp scr n mb_22 121 L (v :: o :: st) M Q ↔ mw_o (mm_put mc_fty M o v 1 8) (fun M1 => wp scr n mb_22 124 L st M1 Q) := wp_putf rfl
theorem u22_124 : wp scr n mb_22 124 L [] M Q ↔ Q none M := wp_ret rfl rfl
theorem e22 : Wp scr (n + 1) 22 [.ref a0, .ref b1] M Q ↔ wp scr n mb_22 0 [some (.ref a0), some (.ref b1), none] [] M Q := Wp_to rfl rfl rfl
/-- SmallerInTheShop$Layout hasLine (I)Z -/
def mb_23 : mw_B := ((Option.some FieldType.boolean), mp_23)
theorem u23_0 : wp scr n mb_23 0 [l0, some (.int x)] st M Q ↔ wp scr n mb_23 1 [l0, some (.int x)] (.int x :: st) M Q := wp_step rfl rfl rfl rfl rfl
theorem u23_1 : wp scr n mb_23 1 L st M Q ↔ wp scr n mb_23 2 L (.int 4 :: st) M Q := wp_step rfl rfl rfl rfl rfl
theorem u23_2 : wp scr n mb_23 2 L (.int y :: .int x :: st) M Q ↔ (if x = y then wp scr n mb_23 5 L st M Q else wp scr n mb_23 21 L st M Q) := (wp_step rfl rfl rfl rfl rfl).trans wp_iten
theorem u23_5 : wp scr n mb_23 5 [some (.ref a), l1] st M Q ↔ wp scr n mb_23 6 [some (.ref a), l1] (.ref a :: st) M Q := wp_step rfl rfl rfl rfl rfl
theorem u23_6 : wp scr n mb_23 6 L (o :: st) M Q ↔ mw_o (mm_fld (mc_X scr) M o 1 7) (fun v => wp scr n mb_23 9 L (v :: st) M Q) := wp_getf rfl
theorem u23_9 : wp scr n mb_23 9 L st M Q ↔ wp scr n mb_23 10 L (.int 2 :: st) M Q := wp_step rfl rfl rfl rfl rfl
theorem u23_10 : wp scr n mb_23 10 L (.int y :: .int x :: st) M Q ↔ (if x = y then wp scr n mb_23 13 L st M Q else wp scr n mb_23 17 L st M Q) := (wp_step rfl rfl rfl rfl rfl).trans wp_iten
theorem u23_13 : wp scr n mb_23 13 L st M Q ↔ wp scr n mb_23 14 L (.int 1 :: st) M Q := wp_step rfl rfl rfl rfl rfl
theorem u23_14 : wp scr n mb_23 14 L st M Q ↔ wp scr n mb_23 39 L st M Q := wp_step rfl rfl rfl rfl rfl
theorem u23_17 : wp scr n mb_23 17 L st M Q ↔ wp scr n mb_23 18 L (.int 0 :: st) M Q := wp_step rfl rfl rfl rfl rfl
theorem u23_18 : wp scr n mb_23 18 L st M Q ↔ wp scr n mb_23 39 L st M Q := wp_step rfl rfl rfl rfl rfl
theorem u23_21 : wp scr n mb_23 21 [l0, some (.int x)] st M Q ↔ wp scr n mb_23 22 [l0, some (.int x)] (.int x :: st) M Q := wp_step rfl rfl rfl rfl rfl
theorem u23_22 : wp scr n mb_23 22 L st M Q ↔ wp scr n mb_23 23 L (.int 1 :: st) M Q := wp_step rfl rfl rfl rfl rfl
theorem u23_23 : wp scr n mb_23 23 L (.int y :: .int x :: st) M Q ↔ (if x < y then wp scr n mb_23 38 L st M Q else wp scr n mb_23 26 L st M Q) := (wp_step rfl rfl rfl rfl rfl).trans wp_ite
theorem u23_26 : wp scr n mb_23 26 [l0, some (.int x)] st M Q ↔ wp scr n mb_23 27 [l0, some (.int x)] (.int x :: st) M Q := wp_step rfl rfl rfl rfl rfl
theorem u23_27 : wp scr n mb_23 27 [some (.ref a), l1] st M Q ↔ wp scr n mb_23 28 [some (.ref a), l1] (.ref a :: st) M Q := wp_step rfl rfl rfl rfl rfl
theorem u23_28 : wp scr n mb_23 28 L (o :: st) M Q ↔ mw_o (mm_fld (mc_X scr) M o 1 6) (fun v => wp scr n mb_23 31 L (v :: st) M Q) := wp_getf rfl
theorem u23_31 : wp scr n mb_23 31 L (.int y :: .int x :: st) M Q ↔ (if y ≤ x then wp scr n mb_23 38 L st M Q else wp scr n mb_23 34 L st M Q) := (wp_step rfl rfl rfl rfl rfl).trans wp_ite
theorem u23_34 : wp scr n mb_23 34 L st M Q ↔ wp scr n mb_23 35 L (.int 1 :: st) M Q := wp_step rfl rfl rfl rfl rfl
theorem u23_35 : wp scr n mb_23 35 L st M Q ↔ wp scr n mb_23 39 L st M Q := wp_step rfl rfl rfl rfl rfl
theorem u23_38 : wp scr n mb_23 38 L st M Q ↔ wp scr n mb_23 39 L (.int 0 :: st) M Q := wp_step rfl rfl rfl rfl rfl
theorem u23_39 : wp scr n mb_23 39 L [.int x] M Q ↔ ((x = 0 ∨ x = 1) ∧ Q (some (.int x)) M) := wp_retb rfl rfl
theorem e23 : Wp scr (n + 1) 23 [.ref a0, .int x1] M Q ↔ wp scr n mb_23 0 [some (.ref a0), some (.int x1)] [] M Q := Wp_to rfl rfl rfl
/-- SmallerInTheShop$Layout becomeFolded (LSmallerInTheShop$Layout;II)V -/
def mb_24 : mw_B := ((Option.none : Option FieldType), mp_24)
theorem u24_0 : wp scr n mb_24 0 [l0, l1, some (.int x), l3, l4, l5, l6] st M Q ↔ wp scr n mb_24 1 [l0, l1, some (.int x), l3, l4, l5, l6] (.int x :: st) M Q := wp_step rfl rfl rfl rfl rfl
theorem u24_1 : wp scr n mb_24 1 L st M Q ↔ wp scr n mb_24 2 L (.int 4 :: st) M Q := wp_step rfl rfl rfl rfl rfl
theorem u24_2 : wp scr n mb_24 2 L (.int y :: .int x :: st) M Q ↔ (if x = y then wp scr n mb_24 5 L st M Q else wp scr n mb_24 9 L st M Q) := (wp_step rfl rfl rfl rfl rfl).trans wp_iten
theorem u24_5 : wp scr n mb_24 5 L st M Q ↔ wp scr n mb_24 6 L (.int 1 :: st) M Q := wp_step rfl rfl rfl rfl rfl
theorem u24_6 : wp scr n mb_24 6 L st M Q ↔ wp scr n mb_24 10 L st M Q := wp_step rfl rfl rfl rfl rfl
theorem u24_9 : wp scr n mb_24 9 L st M Q ↔ wp scr n mb_24 10 L (.int 0 :: st) M Q := wp_step rfl rfl rfl rfl rfl
theorem u24_10 : wp scr n mb_24 10 [l0, l1, l2, l3, l4, l5, l6] (.int x :: st) M Q ↔ wp scr n mb_24 12 (mm_sto1 [l0, l1, l2, l3, l4, l5, l6] 4 (.int x)) st M Q := wp_step rfl rfl rfl rfl rfl
theorem u24_12 : wp scr n mb_24 12 [l0, l1, l2, l3, some (.int x), l5, l6] st M Q ↔ wp scr n mb_24 14 [l0, l1, l2, l3, some (.int x), l5, l6] (.int x :: st) M Q := wp_step rfl rfl rfl rfl rfl
theorem u24_14 : wp scr n mb_24 14 L (.int x :: st) M Q ↔ (if x = 0 then wp scr n mb_24 21 L st M Q else wp scr n mb_24 17 L st M Q) := (wp_step rfl rfl rfl rfl rfl).trans wp_ite
theorem u24_17 : wp scr n mb_24 17 L st M Q ↔ wp scr n mb_24 18 L (.int 1 :: st) M Q := wp_step rfl rfl rfl rfl rfl
theorem u24_18 : wp scr n mb_24 18 L st M Q ↔ wp scr n mb_24 22 L st M Q := wp_step rfl rfl rfl rfl rfl
theorem u24_21 : wp scr n mb_24 21 [l0, l1, some (.int x), l3, l4, l5, l6] st M Q ↔ wp scr n mb_24 22 [l0, l1, some (.int x), l3, l4, l5, l6] (.int x :: st) M Q := wp_step rfl rfl rfl rfl rfl
theorem u24_22 : wp scr n mb_24 22 [l0, l1, l2, l3, l4, l5, l6] (.int x :: st) M Q ↔ wp scr n mb_24 24 (mm_sto1 [l0, l1, l2, l3, l4, l5, l6] 5 (.int x)) st M Q := wp_step rfl rfl rfl rfl rfl
theorem u24_24 : wp scr n mb_24 24 [l0, l1, l2, some (.int x), l4, l5, l6] st M Q ↔ wp scr n mb_24 25 [l0, l1, l2, some (.int x), l4, l5, l6] (.int x :: st) M Q := wp_step rfl rfl rfl rfl rfl
theorem u24_25 : wp scr n mb_24 25 L st M Q ↔ wp scr n mb_24 26 L (.int 2 :: st) M Q := wp_step rfl rfl rfl rfl rfl
theorem u24_26 : wp scr n mb_24 26 L (.int y :: .int x :: st) M Q ↔ (if y = 0 then False else wp scr n mb_24 27 L (.int (x - x / y * y) :: st) M Q) := wp_irem rfl
theorem u24_27 : wp scr n mb_24 27 L (.int x :: st) M Q ↔ (if x = 0 then wp scr n mb_24 30 L st M Q else wp scr n mb_24 34 L st M Q) := (wp_step rfl rfl rfl rfl rfl).trans wp_iten
theorem u24_30 : wp scr n mb_24 30 L st M Q ↔ wp scr n mb_24 31 L (.int 1 :: st) M Q := wp_step rfl rfl rfl rfl rfl
theorem u24_31 : wp scr n mb_24 31 L st M Q ↔ wp scr n mb_24 35 L st M Q := wp_step rfl rfl rfl rfl rfl
theorem u24_34 : wp scr n mb_24 34 L st M Q ↔ wp scr n mb_24 35 L (.int 0 :: st) M Q := wp_step rfl rfl rfl rfl rfl
theorem u24_35 : wp scr n mb_24 35 [l0, l1, l2, l3, l4, l5, l6] (.int x :: st) M Q ↔ wp scr n mb_24 37 (mm_sto1 [l0, l1, l2, l3, l4, l5, l6] 6 (.int x)) st M Q := wp_step rfl rfl rfl rfl rfl
theorem u24_37 : wp scr n mb_24 37 [some (.ref a), l1, l2, l3, l4, l5, l6] st M Q ↔ wp scr n mb_24 38 [some (.ref a), l1, l2, l3, l4, l5, l6] (.ref a :: st) M Q := wp_step rfl rfl rfl rfl rfl
theorem u24_38 : wp scr n mb_24 38 [l0, some (.ref a), l2, l3, l4, l5, l6] st M Q ↔ wp scr n mb_24 39 [l0, some (.ref a), l2, l3, l4, l5, l6] (.ref a :: st) M Q := wp_step rfl rfl rfl rfl rfl
theorem u24_39 : wp scr n mb_24 39 [l0, l1, l2, l3, some (.int x), l5, l6] st M Q ↔ wp scr n mb_24 41 [l0, l1, l2, l3, some (.int x), l5, l6] (.int x :: st) M Q := wp_step rfl rfl rfl rfl rfl
theorem u24_41 : wp scr n mb_24 41 [l0, l1, l2, l3, l4, some (.int x), l6] st M Q ↔ wp scr n mb_24 43 [l0, l1, l2, l3, l4, some (.int x), l6] (.int x :: st) M Q := wp_step rfl rfl rfl rfl rfl
theorem u24_43 : wp scr n mb_24 43 [l0, l1, l2, some (.int x), l4, l5, l6] st M Q ↔ wp scr n mb_24 44 [l0, l1, l2, some (.int x), l4, l5, l6] (.int x :: st) M Q := wp_step rfl rfl rfl rfl rfl
theorem u24_44 : wp scr n mb_24 44 L st M Q ↔ wp scr n mb_24 45 L (.int 2 :: st) M Q := wp_step rfl rfl rfl rfl rfl
theorem u24_45 : wp scr n mb_24 45 L (.int y :: .int x :: st) M Q ↔ (if y ≤ x then wp scr n mb_24 52 L st M Q else wp scr n mb_24 48 L st M Q) := (wp_step rfl rfl rfl rfl rfl).trans wp_ite
theorem u24_48 : wp scr n mb_24 48 L st M Q ↔ wp scr n mb_24 49 L (.int 1 :: st) M Q := wp_step rfl rfl rfl rfl rfl
theorem u24_49 : wp scr n mb_24 49 L st M Q ↔ wp scr n mb_24 53 L st M Q := wp_step rfl rfl rfl rfl rfl
theorem u24_52 : wp scr n mb_24 52 L st M Q ↔ wp scr n mb_24 53 L (.int 0 :: st) M Q := wp_step rfl rfl rfl rfl rfl
theorem u24_53 : wp scr n mb_24 53 [l0, l1, l2, l3, l4, l5, some (.int x)] st M Q ↔ wp scr n mb_24 55 [l0, l1, l2, l3, l4, l5, some (.int x)] (.int x :: st) M Q := wp_step rfl rfl rfl rfl rfl
theorem u24_55 : wp scr n mb_24 55 L (a6 :: a5 :: a4 :: a3 :: a2 :: .ref a :: st) M Q ↔ ((mw_r M a 1 ∧ mw_st st) ∧ Wp scr n 25 [.ref a, a2, a3, a4, a5, a6] M (fun r1 M1 => wp scr n mb_24 58 L (r1.toList ++ st) M1 Q)) := wp_vir rfl rfl rfl rfl rfl
theorem u24_58 : wp scr n mb_24 58 [some (.ref a), l1, l2, l3, l4, l5, l6] st M Q ↔ wp scr n mb_24 59 [some (.ref a), l1, l2, l3, l4, l5, l6] (.ref a :: st) M Q := wp_step rfl rfl rfl rfl rfl
theorem u24_59 : wp scr n mb_24 59 [l0, l1, l2, l3, some (.int x), l5, l6] st M Q ↔ wp scr n mb_24 61 [l0, l1, l2, l3, some (.int x), l5, l6] (.int x :: st) M Q := wp_step rfl rfl rfl rfl rfl
theorem u24_61 : wp scr n mb_24 61 L (.int x :: st) M Q ↔ (if x = 0 then wp scr n mb_24 71 L st M Q else wp scr n mb_24 64 L st M Q) := (wp_step rfl rfl rfl rfl rfl).trans wp_ite
theorem u24_64 : wp scr n mb_24 64 [l0, some (.ref a), l2, l3, l4, l5, l6] st M Q ↔ wp scr n mb_24 65 [l0, some (.ref a), l2, l3, l4, l5, l6] (.ref a :: st) M Q := wp_step rfl rfl rfl rfl rfl
theorem u24_65 : wp scr n mb_24 65 L (o :: st) M Q ↔ mw_o (mm_fld (mc_X scr) M o 1 6) (fun v => wp scr n mb_24 68 L (v :: st) M Q) := wp_getf rfl
theorem u24_68 : wp scr n mb_24 68 L st M Q ↔ wp scr n mb_24 83 L st M Q := wp_step rfl rfl rfl rfl rfl
theorem u24_71 : wp scr n mb_24 71 [l0, l1, l2, l3, l4, some (.int x), l6] st M Q ↔ wp scr n mb_24 73 [l0, l1, l2, l3, l4, some (.int x), l6] (.int x :: st) M Q := wp_step rfl rfl rfl rfl rfl
theorem u24_73 : wp scr n mb_24 73 [l0, some (.ref a), l2, l3, l4, l5, l6] st M Q ↔ wp scr n mb_24 74 [l0, some (.ref a), l2, l3, l4, l5, l6] (.ref a :: st) M Q := wp_step rfl rfl rfl rfl rfl
theorem u24_74 : wp scr n mb_24 74 L (o :: st) M Q ↔ mw_o (mm_fld (mc_X scr) M o 1 6) (fun v => wp scr n mb_24 77 L (v :: st) M Q) := wp_getf rfl
theorem u24_77 : wp scr n mb_24 77 [l0, l1, l2, l3, l4, some (.int x), l6] st M Q ↔ wp scr n mb_24 79 [l0, l1, l2, l3, l4, some (.int x), l6] (.int x :: st) M Q := wp_step rfl rfl rfl rfl rfl
theorem u24_79 : wp scr n mb_24 79 L (.int y :: .int x :: st) M Q ↔ wp scr n mb_24 80 L (.int (x - y) :: st) M Q := wp_step rfl rfl rfl rfl rfl
theorem u24_80 : wp scr n mb_24 80 L (.int y :: .int x :: st) M Q ↔ (mw_st st ∧ wp scr n mb_24 83 L (.int (if x < y then y else x) :: st) M Q) := wp_math997 rfl
theorem u24_83 : wp scr n mb_24 83 L (v :: o :: st) M Q ↔ mw_o (mm_put mc_fty M o v 1 6) (fun M1 => wp scr n mb_24 86 L st M1 Q) := wp_putf rfl
theorem u24_86 : wp scr n mb_24 86 [some (.ref a), l1, l2, l3, l4, l5, l6] st M Q ↔ wp scr n mb_24 87 [some (.ref a), l1, l2, l3, l4, l5, l6] (.ref a :: st) M Q := wp_step rfl rfl rfl rfl rfl
theorem u24_87 : wp scr n mb_24 87 [l0, l1, l2, l3, some (.int x), l5, l6] st M Q ↔ wp scr n mb_24 89 [l0, l1, l2, l3, some (.int x), l5, l6] (.int x :: st) M Q := wp_step rfl rfl rfl rfl rfl
theorem u24_89 : wp scr n mb_24 89 L (.int x :: st) M Q ↔ (if x = 0 then wp scr n mb_24 96 L st M Q else wp scr n mb_24 92 L st M Q) := (wp_step rfl rfl rfl rfl rfl).trans wp_ite
theorem u24_92 : wp scr n mb_24 92 L st M Q ↔ wp scr n mb_24 93 L (.int 1 :: st) M Q := wp_step rfl rfl rfl rfl rfl
theorem u24_93 : wp scr n mb_24 93 L st M Q ↔ wp scr n mb_24 100 L st M Q := wp_step rfl rfl rfl rfl rfl
theorem u24_96 : wp scr n mb_24 96 [l0, some (.ref a), l2, l3, l4, l5, l6] st M Q ↔ wp scr n mb_24 97 [l0, some (.ref a), l2, l3, l4, l5, l6] (.ref a :: st) M Q := wp_step rfl rfl rfl rfl rfl
theorem u24_97 : wp scr n mb_24 97 L (o :: st) M Q ↔ mw_o (mm_fld (mc_X scr) M o 1 7) (fun v => wp scr n mb_24 100 L (v :: st) M Q) := wp_getf rfl
theorem u24_100 : wp scr n mb_24 100 L (v :: o :: st) M Q ↔ mw_o (mm_put mc_fty M o v 1 7) (fun M1 => wp scr n mb_24 103 L st M1 Q) := wp_putf rfl
theorem u24_103 : wp scr n mb_24 103 [some (.ref a), l1, l2, l3, l4, l5, l6] st M Q ↔ wp scr n mb_24 104 [some (.ref a), l1, l2, l3, l4, l5, l6] (.ref a :: st) M Q := wp_step rfl rfl rfl rfl rfl
theorem u24_104 : wp scr n mb_24 104 L (.ref a :: st) M Q ↔ ((mw_r M a 1 ∧ mw_st st) ∧ Wp scr n 27 [.ref a] M (fun r1 M1 => wp scr n mb_24 107 L (r1.toList ++ st) M1 Q)) := wp_vir rfl rfl rfl rfl rfl
theorem u24_107 : wp scr n mb_24 107 [some (.ref a), l1, l2, l3, l4, l5, l6] st M Q ↔ wp scr n mb_24 108 [some (.ref a), l1, l2, l3, l4, l5, l6] (.ref a :: st) M Q := wp_step rfl rfl rfl rfl rfl
theorem u24_108 : wp scr n mb_24 108 [l0, some (.ref a), l2, l3, l4, l5, l6] st M Q ↔ wp scr n mb_24 109 [l0, some (.ref a), l2, l3, l4, l5, l6] (.ref a :: st) M Q := wp_step rfl rfl rfl rfl rfl
theorem u24_109 : wp scr n mb_24 109 [l0, l1, l2, l3, some (.int x), l5, l6] st M Q ↔ wp scr n mb_24 111 [l0, l1, l2, l3, some (.int x), l5, l6] (.int x :: st) M Q := wp_step rfl rfl rfl rfl rfl
theorem u24_111 : wp scr n mb_24 111 [l0, l1, l2, l3, l4, some (.int x), l6] st M Q ↔ wp scr n mb_24 113 [l0, l1, l2, l3, l4, some (.int x), l6] (.int x :: st) M Q := wp_step rfl rfl rfl rfl rfl
theorem u24_113 : wp scr n mb_24 113 [l0, l1, l2, l3, l4, l5, some (.int x)] st M Q ↔ wp scr n mb_24 115 [l0, l1, l2, l3, l4, l5, some (.int x)] (.int x :: st) M Q := wp_step rfl rfl rfl rfl rfl
theorem u24_115 : wp scr n mb_24 115 L (a5 :: a4 :: a3 :: a2 :: .ref a :: st) M Q ↔ ((mw_r M a 1 ∧ mw_st st) ∧ Wp scr n 29 [.ref a, a2, a3, a4, a5] M (fun r1 M1 => wp scr n mb_24 118 L (r1.toList ++ st) M1 Q)) := wp_vir rfl rfl rfl rfl rfl
theorem u24_118 : wp scr n mb_24 118 L [] M Q ↔ Q none M := wp_ret rfl rfl
theorem e24 : Wp scr (n + 1) 24 [.ref a0, .ref b1, .int x2, .int x3] M Q ↔ wp scr n mb_24 0 [some (.ref a0), some (.ref b1), some (.int x2), some (.int x3), none, none, none] [] M Q := Wp_to rfl rfl rfl
/-- SmallerInTheShop$Layout movePanels (LSmallerInTheShop$Layout;ZIZZ)V -/
def mb_25 : mw_B := ((Option.none : Option FieldType), mp_25)
theorem u25_0 : wp scr n mb_25 0 [l0, l1, some (.int x), l3, l4, l5, l6, l7, l8, l9, l10, l11, l12, l13, l14] st M Q ↔ wp scr n mb_25 1 [l0, l1, some (.int x), l3, l4, l5, l6, l7, l8, l9, l10, l11, l12, l13, l14] (.int x :: st) M Q := wp_step rfl rfl rfl rfl rfl
theorem u25_1 : wp scr n mb_25 1 L (.int x :: st) M Q ↔ (if x = 0 then wp scr n mb_25 11 L st M Q else wp scr n mb_25 4 L st M Q) := (wp_step rfl rfl rfl rfl rfl).trans wp_ite
theorem u25_4 : wp scr n mb_25 4 [l0, some (.ref a), l2, l3, l4, l5, l6, l7, l8, l9, l10, l11, l12, l13, l14] st M Q ↔ wp scr n mb_25 5 [l0, some (.ref a), l2, l3, l4, l5, l6, l7, l8, l9, l10, l11, l12, l13, l14] (.ref a :: st) M Q := wp_step rfl rfl rfl rfl rfl
theorem u25_5 : wp scr n mb_25 5 L (o :: st) M Q ↔ mw_o (mm_fld (mc_X scr) M o 1 7) (fun v => wp scr n mb_25 8 L (v :: st) M Q) := wp_getf rfl
theorem u25_8 : wp scr n mb_25 8 L st M Q ↔ wp scr n mb_25 15 L st M Q := wp_step rfl rfl rfl rfl rfl
theorem u25_11 : wp scr n mb_25 11 [l0, some (.ref a), l2, l3, l4, l5, l6, l7, l8, l9, l10, l11, l12, l13, l14] st M Q ↔ wp scr n mb_25 12 [l0, some (.ref a), l2, l3, l4, l5, l6, l7, l8, l9, l10, l11, l12, l13, l14] (.ref a :: st) M Q := wp_step rfl rfl rfl rfl rfl
theorem u25_12 : wp scr n mb_25 12 L (o :: st) M Q ↔ mw_o (mm_fld (mc_X scr) M o 1 6) (fun v => wp scr n mb_25 15 L (v :: st) M Q) := wp_getf rfl
theorem u25_15 : wp scr n mb_25 15 [l0, l1, l2, l3, l4, l5, l6, l7, l8, l9, l10, l11, l12, l13, l14] (.int x :: st) M Q ↔ wp scr n mb_25 17 (mm_sto1 [l0, l1, l2, l3, l4, l5, l6, l7, l8, l9, l10, l11, l12, l13, l14] 6 (.int x)) st M Q := wp_step rfl rfl rfl rfl rfl
theorem u25_17 : wp scr n mb_25 17 [l0, l1, l2, l3, some (.int x), l5, l6, l7, l8, l9, l10, l11, l12, l13, l14] st M Q ↔ wp scr n mb_25 19 [l0, l1, l2, l3, some (.int x), l5, l6, l7, l8, l9, l10, l11, l12, l13, l14] (.int x :: st) M Q := wp_step rfl rfl rfl rfl rfl
theorem u25_19 : wp scr n mb_25 19 L (.int x :: st) M Q ↔ (if x = 0 then wp scr n mb_25 26 L st M Q else wp scr n mb_25 22 L st M Q) := (wp_step rfl rfl rfl rfl rfl).trans wp_ite
theorem u25_22 : wp scr n mb_25 22 [l0, l1, l2, some (.int x), l4, l5, l6, l7, l8, l9, l10, l11, l12, l13, l14] st M Q ↔ wp scr n mb_25 23 [l0, l1, l2, some (.int x), l4, l5, l6, l7, l8, l9, l10, l11, l12, l13, l14] (.int x :: st) M Q := wp_step rfl rfl rfl rfl rfl
theorem u25_23 : wp scr n mb_25 23 L st M Q ↔ wp scr n mb_25 36 L st M Q := wp_step rfl rfl rfl rfl rfl
theorem u25_26 : wp scr n mb_25 26 L st M Q ↔ wp scr n mb_25 27 L (.int 0 :: st) M Q := wp_step rfl rfl rfl rfl rfl
theorem u25_27 : wp scr n mb_25 27 L st M Q ↔ wp scr n mb_25 28 L (.int 2 :: st) M Q := wp_step rfl rfl rfl rfl rfl
theorem u25_28 : wp scr n mb_25 28 [l0, l1, l2, some (.int x), l4, l5, l6, l7, l8, l9, l10, l11, l12, l13, l14] st M Q ↔ wp scr n mb_25 29 [l0, l1, l2, some (.int x), l4, l5, l6, l7, l8, l9, l10, l11, l12, l13, l14] (.int x :: st) M Q := wp_step rfl rfl rfl rfl rfl
theorem u25_29 : wp scr n mb_25 29 L (.int y :: .int x :: st) M Q ↔ wp scr n mb_25 30 L (.int (x * y) :: st) M Q := wp_step rfl rfl rfl rfl rfl
theorem u25_30 : wp scr n mb_25 30 [l0, l1, l2, l3, l4, l5, some (.int x), l7, l8, l9, l10, l11, l12, l13, l14] st M Q ↔ wp scr n mb_25 32 [l0, l1, l2, l3, l4, l5, some (.int x), l7, l8, l9, l10, l11, l12, l13, l14] (.int x :: st) M Q := wp_step rfl rfl rfl rfl rfl
theorem u25_32 : wp scr n mb_25 32 L (.int y :: .int x :: st) M Q ↔ wp scr n mb_25 33 L (.int (x - y) :: st) M Q := wp_step rfl rfl rfl rfl rfl
theorem u25_33 : wp scr n mb_25 33 L (.int y :: .int x :: st) M Q ↔ (mw_st st ∧ wp scr n mb_25 36 L (.int (if y < x then y else x) :: st) M Q) := wp_math998 rfl
theorem u25_36 : wp scr n mb_25 36 [l0, l1, l2, l3, l4, l5, l6, l7, l8, l9, l10, l11, l12, l13, l14] (.int x :: st) M Q ↔ wp scr n mb_25 38 (mm_sto1 [l0, l1, l2, l3, l4, l5, l6, l7, l8, l9, l10, l11, l12, l13, l14] 7 (.int x)) st M Q := wp_step rfl rfl rfl rfl rfl
theorem u25_38 : wp scr n mb_25 38 L st M Q ↔ wp scr n mb_25 39 L (.int 0 :: st) M Q := wp_step rfl rfl rfl rfl rfl
theorem u25_39 : wp scr n mb_25 39 [l0, l1, l2, l3, l4, l5, l6, l7, l8, l9, l10, l11, l12, l13, l14] (.int x :: st) M Q ↔ wp scr n mb_25 41 (mm_sto1 [l0, l1, l2, l3, l4, l5, l6, l7, l8, l9, l10, l11, l12, l13, l14] 8 (.int x)) st M Q := wp_step rfl rfl rfl rfl rfl
theorem u25_41 : wp scr n mb_25 41 [l0, l1, l2, l3, l4, l5, l6, l7, some (.int x), l9, l10, l11, l12, l13, l14] st M Q ↔ wp scr n mb_25 43 [l0, l1, l2, l3, l4, l5, l6, l7, some (.int x), l9, l10, l11, l12, l13, l14] (.int x :: st) M Q := wp_step rfl rfl rfl rfl rfl
theorem u25_43 : wp scr n mb_25 43 L st M Q ↔ wp scr n mb_25 45 L (.int 8 :: st) M Q := wp_step rfl rfl rfl rfl rfl
theorem u25_45 : wp scr n mb_25 45 L (.int y :: .int x :: st) M Q ↔ (if y ≤ x then wp scr n mb_25 318 L st M Q else wp scr n mb_25 48 L st M Q) := (wp_step rfl rfl rfl rfl rfl).trans wp_ite
theorem u25_48 : wp scr n mb_25 48 [l0, l1, some (.int x), l3, l4, l5, l6, l7, l8, l9, l10, l11, l12, l13, l14] st M Q ↔ wp scr n mb_25 49 [l0, l1, some (.int x), l3, l4, l5, l6, l7, l8, l9, l10, l11, l12, l13, l14] (.int x :: st) M Q := wp_step rfl rfl rfl rfl rfl
theorem u25_49 : wp scr n mb_25 49 L (.int x :: st) M Q ↔ (if x = 0 then wp scr n mb_25 62 L st M Q else wp scr n mb_25 52 L st M Q) := (wp_step rfl rfl rfl rfl rfl).trans wp_ite
theorem u25_52 : wp scr n mb_25 52 [l0, some (.ref a), l2, l3, l4, l5, l6, l7, l8, l9, l10, l11, l12, l13, l14] st M Q ↔ wp scr n mb_25 53 [l0, some (.ref a), l2, l3, l4, l5, l6, l7, l8, l9, l10, l11, l12, l13, l14] (.ref a :: st) M Q := wp_step rfl rfl rfl rfl rfl
theorem u25_53 : wp scr n mb_25 53 L (o :: st) M Q ↔ mw_o (mm_fld (mc_X scr) M o 1 1) (fun v => wp scr n mb_25 56 L (v :: st) M Q) := wp_getf rfl
theorem u25_56 : wp scr n mb_25 56 [l0, l1, l2, l3, l4, l5, l6, l7, some (.int x), l9, l10, l11, l12, l13, l14] st M Q ↔ wp scr n mb_25 58 [l0, l1, l2, l3, l4, l5, l6, l7, some (.int x), l9, l10, l11, l12, l13, l14] (.int x :: st) M Q := wp_step rfl rfl rfl rfl rfl
theorem u25_58 : wp scr n mb_25 58 L (.int y :: o :: st) M Q ↔ mw_o (mm_ld (mc_X scr) M o y) (fun x => wp scr n mb_25 59 L (.int x :: st) M Q) := wp_iald rfl
theorem u25_59 : wp scr n mb_25 59 L st M Q ↔ wp scr n mb_25 69 L st M Q := wp_step rfl rfl rfl rfl rfl
theorem u25_62 : wp scr n mb_25 62 [l0, some (.ref a), l2, l3, l4, l5, l6, l7, l8, l9, l10, l11, l12, l13, l14] st M Q ↔ wp scr n mb_25 63 [l0, some (.ref a), l2, l3, l4, l5, l6, l7, l8, l9, l10, l11, l12, l13, l14] (.ref a :: st) M Q := wp_step rfl rfl rfl rfl rfl
theorem u25_63 : wp scr n mb_25 63 L (o :: st) M Q ↔ mw_o (mm_fld (mc_X scr) M o 1 0) (fun v => wp scr n mb_25 66 L (v :: st) M Q) := wp_getf rfl
theorem u25_66 : wp scr n mb_25 66 [l0, l1, l2, l3, l4, l5, l6, l7, some (.int x), l9, l10, l11, l12, l13, l14] st M Q ↔ wp scr n mb_25 68 [l0, l1, l2, l3, l4, l5, l6, l7, some (.int x), l9, l10, l11, l12, l13, l14] (.int x :: st) M Q := wp_step rfl rfl rfl rfl rfl
theorem u25_68 : wp scr n mb_25 68 L (.int y :: o :: st) M Q ↔ mw_o (mm_ld (mc_X scr) M o y) (fun x => wp scr n mb_25 69 L (.int x :: st) M Q) := wp_iald rfl
theorem u25_69 : wp scr n mb_25 69 [l0, l1, l2, l3, l4, l5, l6, l7, l8, l9, l10, l11, l12, l13, l14] (.int x :: st) M Q ↔ wp scr n mb_25 71 (mm_sto1 [l0, l1, l2, l3, l4, l5, l6, l7, l8, l9, l10, l11, l12, l13, l14] 9 (.int x)) st M Q := wp_step rfl rfl rfl rfl rfl
theorem u25_71 : wp scr n mb_25 71 L st M Q ↔ wp scr n mb_25 72 L (.int 2 :: st) M Q := wp_step rfl rfl rfl rfl rfl
theorem u25_72 : wp scr n mb_25 72 [l0, l1, l2, some (.int x), l4, l5, l6, l7, l8, l9, l10, l11, l12, l13, l14] st M Q ↔ wp scr n mb_25 73 [l0, l1, l2, some (.int x), l4, l5, l6, l7, l8, l9, l10, l11, l12, l13, l14] (.int x :: st) M Q := wp_step rfl rfl rfl rfl rfl
theorem u25_73 : wp scr n mb_25 73 L (.int y :: .int x :: st) M Q ↔ wp scr n mb_25 74 L (.int (x * y) :: st) M Q := wp_step rfl rfl rfl rfl rfl
theorem u25_74 : wp scr n mb_25 74 L st M Q ↔ wp scr n mb_25 75 L (.int 1 :: st) M Q := wp_step rfl rfl rfl rfl rfl
theorem u25_75 : wp scr n mb_25 75 L (.int y :: .int x :: st) M Q ↔ wp scr n mb_25 76 L (.int (x - y) :: st) M Q := wp_step rfl rfl rfl rfl rfl
theorem u25_76 : wp scr n mb_25 76 [l0, l1, l2, l3, l4, l5, l6, l7, l8, some (.int x), l10, l11, l12, l13, l14] st M Q ↔ wp scr n mb_25 78 [l0, l1, l2, l3, l4, l5, l6, l7, l8, some (.int x), l10, l11, l12, l13, l14] (.int x :: st) M Q := wp_step rfl rfl rfl rfl rfl
theorem u25_78 : wp scr n mb_25 78 L (.int y :: .int x :: st) M Q ↔ wp scr n mb_25 79 L (.int (x - y) :: st) M Q := wp_step rfl rfl rfl rfl rfl
theorem u25_79 : wp scr n mb_25 79 [l0, l1, l2, l3, l4, l5, l6, l7, l8, l9, l10, l11, l12, l13, l14] (.int x :: st) M Q ↔ wp scr n mb_25 81 (mm_sto1 [l0, l1, l2, l3, l4, l5, l6, l7, l8, l9, l10, l11, l12, l13, l14] 10 (.int x)) st M Q := wp_step rfl rfl rfl rfl rfl
theorem u25_81 : wp scr n mb_25 81 [l0, l1, some (.int x), l3, l4, l5, l6, l7, l8, l9, l10, l11, l12, l13, l14] st M Q ↔ wp scr n mb_25 82 [l0, l1, some (.int x), l3, l4, l5, l6, l7, l8, l9, l10, l11, l12, l13, l14] (.int x :: st) M Q := wp_step rfl rfl rfl rfl rfl
theorem u25_82 : wp scr n mb_25 82 L (.int x :: st) M Q ↔ (if x = 0 then wp scr n mb_25 95 L st M Q else wp scr n mb_25 85 L st M Q) := (wp_step rfl rfl rfl rfl rfl).trans wp_ite
theorem u25_85 : wp scr n mb_25 85 [l0, some (.ref a), l2, l3, l4, l5, l6, l7, l8, l9, l10, l11, l12, l13, l14] st M Q ↔ wp scr n mb_25 86 [l0, some (.ref a), l2, l3, l4, l5, l6, l7, l8, l9, l10, l11, l12, l13, l14] (.ref a :: st) M Q := wp_step rfl rfl rfl rfl rfl
theorem u25_86 : wp scr n mb_25 86 L (o :: st) M Q ↔ mw_o (mm_fld (mc_X scr) M o 1 0) (fun v => wp scr n mb_25 89 L (v :: st) M Q) := wp_getf rfl
theorem u25_89 : wp scr n mb_25 89 [l0, l1, l2, l3, l4, l5, l6, l7, some (.int x), l9, l10, l11, l12, l13, l14] st M Q ↔ wp scr n mb_25 91 [l0, l1, l2, l3, l4, l5, l6, l7, some (.int x), l9, l10, l11, l12, l13, l14] (.int x :: st) M Q := wp_step rfl rfl rfl rfl rfl
theorem u25_91 : wp scr n mb_25 91 L (.int y :: o :: st) M Q ↔ mw_o (mm_ld (mc_X scr) M o y) (fun x => wp scr n mb_25 92 L (.int x :: st) M Q) := wp_iald rfl
theorem u25_92 : wp scr n mb_25 92 L st M Q ↔ wp scr n mb_25 102 L st M Q := wp_step rfl rfl rfl rfl rfl
theorem u25_95 : wp scr n mb_25 95 [l0, some (.ref a), l2, l3, l4, l5, l6, l7, l8, l9, l10, l11, l12, l13, l14] st M Q ↔ wp scr n mb_25 96 [l0, some (.ref a), l2, l3, l4, l5, l6, l7, l8, l9, l10, l11, l12, l13, l14] (.ref a :: st) M Q := wp_step rfl rfl rfl rfl rfl
theorem u25_96 : wp scr n mb_25 96 L (o :: st) M Q ↔ mw_o (mm_fld (mc_X scr) M o 1 1) (fun v => wp scr n mb_25 99 L (v :: st) M Q) := wp_getf rfl
theorem u25_99 : wp scr n mb_25 99 [l0, l1, l2, l3, l4, l5, l6, l7, some (.int x), l9, l10, l11, l12, l13, l14] st M Q ↔ wp scr n mb_25 101 [l0, l1, l2, l3, l4, l5, l6, l7, some (.int x), l9, l10, l11, l12, l13, l14] (.int x :: st) M Q := wp_step rfl rfl rfl rfl rfl
theorem u25_101 : wp scr n mb_25 101 L (.int y :: o :: st) M Q ↔ mw_o (mm_ld (mc_X scr) M o y) (fun x => wp scr n mb_25 102 L (.int x :: st) M Q) := wp_iald rfl
theorem u25_102 : wp scr n mb_25 102 [l0, l1, l2, l3, l4, l5, l6, l7, l8, l9, l10, l11, l12, l13, l14] (.int x :: st) M Q ↔ wp scr n mb_25 104 (mm_sto1 [l0, l1, l2, l3, l4, l5, l6, l7, l8, l9, l10, l11, l12, l13, l14] 11 (.int x)) st M Q := wp_step rfl rfl rfl rfl rfl
theorem u25_104 : wp scr n mb_25 104 [l0, l1, l2, l3, l4, l5, l6, l7, l8, l9, some (.int x), l11, l12, l13, l14] st M Q ↔ wp scr n mb_25 106 [l0, l1, l2, l3, l4, l5, l6, l7, l8, l9, some (.int x), l11, l12, l13, l14] (.int x :: st) M Q := wp_step rfl rfl rfl rfl rfl
theorem u25_106 : wp scr n mb_25 106 [l0, l1, l2, l3, l4, l5, some (.int x), l7, l8, l9, l10, l11, l12, l13, l14] st M Q ↔ wp scr n mb_25 108 [l0, l1, l2, l3, l4, l5, some (.int x), l7, l8, l9, l10, l11, l12, l13, l14] (.int x :: st) M Q := wp_step rfl rfl rfl rfl rfl
theorem u25_108 : wp scr n mb_25 108 L (a2 :: a1 :: st) M Q ↔ (mw_st st ∧ Wp scr n 89 [a1, a2] M (fun r1 M1 => wp scr n mb_25 111 L (r1.toList ++ st) M1 Q)) := wp_sta rfl rfl rfl rfl
theorem u25_111 : wp scr n mb_25 111 L (.int x :: st) M Q ↔ (if x = 0 then wp scr n mb_25 126 L st M Q else wp scr n mb_25 114 L st M Q) := (wp_step rfl rfl rfl rfl rfl).trans wp_ite
theorem u25_114 : wp scr n mb_25 114 [l0, some (.ref a), l2, l3, l4, l5, l6, l7, l8, l9, l10, l11, l12, l13, l14] st M Q ↔ wp scr n mb_25 115 [l0, some (.ref a), l2, l3, l4, l5, l6, l7, l8, l9, l10, l11, l12, l13, l14] (.ref a :: st) M Q := wp_step rfl rfl rfl rfl rfl
theorem u25_115 : wp scr n mb_25 115 [l0, l1, some (.int x), l3, l4, l5, l6, l7, l8, l9, l10, l11, l12, l13, l14] st M Q ↔ wp scr n mb_25 116 [l0, l1, some (.int x), l3, l4, l5, l6, l7, l8, l9, l10, l11, l12, l13, l14] (.int x :: st) M Q := wp_step rfl rfl rfl rfl rfl
theorem u25_116 : wp scr n mb_25 116 [l0, l1, l2, l3, l4, l5, l6, l7, l8, l9, some (.int x), l11, l12, l13, l14] st M Q ↔ wp scr n mb_25 118 [l0, l1, l2, l3, l4, l5, l6, l7, l8, l9, some (.int x), l11, l12, l13, l14] (.int x :: st) M Q := wp_step rfl rfl rfl rfl rfl
theorem u25_118 : wp scr n mb_25 118 [l0, l1, l2, l3, l4, l5, l6, l7, l8, l9, l10, some (.int x), l12, l13, l14] st M Q ↔ wp scr n mb_25 120 [l0, l1, l2, l3, l4, l5, l6, l7, l8, l9, l10, some (.int x), l12, l13, l14] (.int x :: st) M Q := wp_step rfl rfl rfl rfl rfl
theorem u25_120 : wp scr n mb_25 120 L (a4 :: a3 :: a2 :: .ref a :: st) M Q ↔ ((mw_r M a 1 ∧ mw_st st) ∧ Wp scr n 26 [.ref a, a2, a3, a4] M (fun r1 M1 => wp scr n mb_25 123 L (r1.toList ++ st) M1 Q)) := wp_vir rfl rfl rfl rfl rfl
theorem u25_123 : wp scr n mb_25 123 L st M Q ↔ wp scr n mb_25 127 L st M Q := wp_step rfl rfl rfl rfl rfl
theorem u25_126 : wp scr n mb_25 126 L st M Q ↔ wp scr n mb_25 127 L (.int 0 :: st) M Q := wp_step rfl rfl rfl rfl rfl
theorem u25_127 : wp scr n mb_25 127 [l0, l1, l2, l3, l4, l5, l6, l7, l8, l9, l10, l11, l12, l13, l14] (.int x :: st) M Q ↔ wp scr n mb_25 129 (mm_sto1 [l0, l1, l2, l3, l4, l5, l6, l7, l8, l9, l10, l11, l12, l13, l14] 12 (.int x)) st M Q := wp_step rfl rfl rfl rfl rfl
theorem u25_129 : wp scr n mb_25 129 [l0, l1, l2, l3, l4, l5, l6, l7, l8, some (.int x), l10, l11, l12, l13, l14] st M Q ↔ wp scr n mb_25 131 [l0, l1, l2, l3, l4, l5, l6, l7, l8, some (.int x), l10, l11, l12, l13, l14] (.int x :: st) M Q := wp_step rfl rfl rfl rfl rfl
theorem u25_131 : wp scr n mb_25 131 [l0, l1, l2, some (.int x), l4, l5, l6, l7, l8, l9, l10, l11, l12, l13, l14] st M Q ↔ wp scr n mb_25 132 [l0, l1, l2, some (.int x), l4, l5, l6, l7, l8, l9, l10, l11, l12, l13, l14] (.int x :: st) M Q := wp_step rfl rfl rfl rfl rfl
theorem u25_132 : wp scr n mb_25 132 L (.int y :: .int x :: st) M Q ↔ (if y ≤ x then wp scr n mb_25 139 L st M Q else wp scr n mb_25 135 L st M Q) := (wp_step rfl rfl rfl rfl rfl).trans wp_ite
theorem u25_135 : wp scr n mb_25 135 L st M Q ↔ wp scr n mb_25 136 L (.int 1 :: st) M Q := wp_step rfl rfl rfl rfl rfl
theorem u25_136 : wp scr n mb_25 136 L st M Q ↔ wp scr n mb_25 140 L st M Q := wp_step rfl rfl rfl rfl rfl
theorem u25_139 : wp scr n mb_25 139 L st M Q ↔ wp scr n mb_25 140 L (.int 0 :: st) M Q := wp_step rfl rfl rfl rfl rfl
theorem u25_140 : wp scr n mb_25 140 [l0, l1, l2, l3, some (.int x), l5, l6, l7, l8, l9, l10, l11, l12, l13, l14] st M Q ↔ wp scr n mb_25 142 [l0, l1, l2, l3, some (.int x), l5, l6, l7, l8, l9, l10, l11, l12, l13, l14] (.int x :: st) M Q := wp_step rfl rfl rfl rfl rfl
theorem u25_142 : wp scr n mb_25 142 L (.int y :: .int x :: st) M Q ↔ (if x = y then wp scr n mb_25 145 L st M Q else wp scr n mb_25 149 L st M Q) := (wp_step rfl rfl rfl rfl rfl).trans wp_iten
theorem u25_145 : wp scr n mb_25 145 L st M Q ↔ wp scr n mb_25 146 L (.int 1 :: st) M Q := wp_step rfl rfl rfl rfl rfl
theorem u25_146 : wp scr n mb_25 146 L st M Q ↔ wp scr n mb_25 150 L st M Q := wp_step rfl rfl rfl rfl rfl
theorem u25_149 : wp scr n mb_25 149 L st M Q ↔ wp scr n mb_25 150 L (.int 0 :: st) M Q := wp_step rfl rfl rfl rfl rfl
theorem u25_150 : wp scr n mb_25 150 [l0, l1, l2, l3, l4, l5, l6, l7, l8, l9, l10, l11, l12, l13, l14] (.int x :: st) M Q ↔ wp scr n mb_25 152 (mm_sto1 [l0, l1, l2, l3, l4, l5, l6, l7, l8, l9, l10, l11, l12, l13, l14] 13 (.int x)) st M Q := wp_step rfl rfl rfl rfl rfl
theorem u25_152 : wp scr n mb_25 152 [l0, l1, l2, l3, l4, l5, l6, l7, l8, l9, l10, l11, l12, some (.int x), l14] st M Q ↔ wp scr n mb_25 154 [l0, l1, l2, l3, l4, l5, l6, l7, l8, l9, l10, l11, l12, some (.int x), l14] (.int x :: st) M Q := wp_step rfl rfl rfl rfl rfl
theorem u25_154 : wp scr n mb_25 154 L (.int x :: st) M Q ↔ (if x = 0 then wp scr n mb_25 202 L st M Q else wp scr n mb_25 157 L st M Q) := (wp_step rfl rfl rfl rfl rfl).trans wp_ite
theorem u25_157 : wp scr n mb_25 157 [l0, some (.ref a), l2, l3, l4, l5, l6, l7, l8, l9, l10, l11, l12, l13, l14] st M Q ↔ wp scr n mb_25 158 [l0, some (.ref a), l2, l3, l4, l5, l6, l7, l8, l9, l10, l11, l12, l13, l14] (.ref a :: st) M Q := wp_step rfl rfl rfl rfl rfl
theorem u25_158 : wp scr n mb_25 158 [l0, l1, some (.int x), l3, l4, l5, l6, l7, l8, l9, l10, l11, l12, l13, l14] st M Q ↔ wp scr n mb_25 159 [l0, l1, some (.int x), l3, l4, l5, l6, l7, l8, l9, l10, l11, l12, l13, l14] (.int x :: st) M Q := wp_step rfl rfl rfl rfl rfl
theorem u25_159 : wp scr n mb_25 159 [l0, l1, l2, l3, l4, l5, l6, l7, l8, some (.int x), l10, l11, l12, l13, l14] st M Q ↔ wp scr n mb_25 161 [l0, l1, l2, l3, l4, l5, l6, l7, l8, some (.int x), l10, l11, l12, l13, l14] (.int x :: st) M Q := wp_step rfl rfl rfl rfl rfl
theorem u25_161 : wp scr n mb_25 161 [l0, l1, l2, l3, l4, l5, l6, l7, l8, l9, l10, some (.int x), l12, l13, l14] st M Q ↔ wp scr n mb_25 163 [l0, l1, l2, l3, l4, l5, l6, l7, l8, l9, l10, some (.int x), l12, l13, l14] (.int x :: st) M Q := wp_step rfl rfl rfl rfl rfl
theorem u25_163 : wp scr n mb_25 163 L (a4 :: a3 :: a2 :: .ref a :: st) M Q ↔ ((mw_r M a 1 ∧ mw_st st) ∧ Wp scr n 26 [.ref a, a2, a3, a4] M (fun r1 M1 => wp scr n mb_25 166 L (r1.toList ++ st) M1 Q)) := wp_vir rfl rfl rfl rfl rfl
theorem u25_166 : wp scr n mb_25 166 L st M Q ↔ wp scr n mb_25 167 L (.int 1 :: st) M Q := wp_step rfl rfl rfl rfl rfl
theorem u25_167 : wp scr n mb_25 167 L (.int y :: .int x :: st) M Q ↔ wp scr n mb_25 168 L (.int (x - y) :: st) M Q := wp_step rfl rfl rfl rfl rfl
theorem u25_168 : wp scr n mb_25 168 [l0, some (.ref a), l2, l3, l4, l5, l6, l7, l8, l9, l10, l11, l12, l13, l14] st M Q ↔ wp scr n mb_25 169 [l0, some (.ref a), l2, l3, l4, l5, l6, l7, l8, l9, l10, l11, l12, l13, l14] (.ref a :: st) M Q := wp_step rfl rfl rfl rfl rfl
theorem u25_169 : wp scr n mb_25 169 L (o :: st) M Q ↔ mw_o (mm_fld (mc_X scr) M o 1 2) (fun v => wp scr n mb_25 172 L (v :: st) M Q) := wp_getf rfl
theorem u25_172 : wp scr n mb_25 172 [l0, l1, l2, l3, l4, l5, l6, l7, some (.int x), l9, l10, l11, l12, l13, l14] st M Q ↔ wp scr n mb_25 174 [l0, l1, l2, l3, l4, l5, l6, l7, some (.int x), l9, l10, l11, l12, l13, l14] (.int x :: st) M Q := wp_step rfl rfl rfl rfl rfl
theorem u25_174 : wp scr n mb_25 174 L (.int y :: o :: st) M Q ↔ mw_o (mm_ld (mc_X scr) M o y) (fun x => wp scr n mb_25 175 L (.int x :: st) M Q) := wp_iald rfl
theorem u25_175 : wp scr n mb_25 175 L (.int y :: .int x :: st) M Q ↔ wp scr n mb_25 176 L (.int (x - y) :: st) M Q := wp_step rfl rfl rfl rfl rfl
theorem u25_176 : wp scr n mb_25 176 [l0, l1, l2, l3, l4, l5, l6, l7, l8, l9, l10, l11, l12, l13, l14] (.int x :: st) M Q ↔ wp scr n mb_25 178 (mm_sto1 [l0, l1, l2, l3, l4, l5, l6, l7, l8, l9, l10, l11, l12, l13, l14] 14 (.int x)) st M Q := wp_step rfl rfl rfl rfl rfl
theorem u25_178 : wp scr n mb_25 178 [some (.ref a), l1, l2, l3, l4, l5, l6, l7, l8, l9, l10, l11, l12, l13, l14] st M Q ↔ wp scr n mb_25 179 [some (.ref a), l1, l2, l3, l4, l5, l6, l7, l8, l9, l10, l11, l12, l13, l14] (.ref a :: st) M Q := wp_step rfl rfl rfl rfl rfl
theorem u25_179 : wp scr n mb_25 179 L (o :: st) M Q ↔ mw_o (mm_fld (mc_X scr) M o 1 2) (fun v => wp scr n mb_25 182 L (v :: st) M Q) := wp_getf rfl
theorem u25_182 : wp scr n mb_25 182 [l0, l1, l2, l3, l4, l5, l6, l7, some (.int x), l9, l10, l11, l12, l13, l14] st M Q ↔ wp scr n mb_25 184 [l0, l1, l2, l3, l4, l5, l6, l7, some (.int x), l9, l10, l11, l12, l13, l14] (.int x :: st) M Q := wp_step rfl rfl rfl rfl rfl
theorem u25_184 : wp scr n mb_25 184 [l0, l1, l2, l3, l4, l5, l6, l7, l8, l9, l10, l11, l12, l13, some (.int x)] st M Q ↔ wp scr n mb_25 186 [l0, l1, l2, l3, l4, l5, l6, l7, l8, l9, l10, l11, l12, l13, some (.int x)] (.int x :: st) M Q := wp_step rfl rfl rfl rfl rfl
theorem u25_186 : wp scr n mb_25 186 [l0, l1, l2, l3, l4, some (.int x), l6, l7, l8, l9, l10, l11, l12, l13, l14] st M Q ↔ wp scr n mb_25 188 [l0, l1, l2, l3, l4, some (.int x), l6, l7, l8, l9, l10, l11, l12, l13, l14] (.int x :: st) M Q := wp_step rfl rfl rfl rfl rfl
theorem u25_188 : wp scr n mb_25 188 L (.int x :: st) M Q ↔ (if x = 0 then wp scr n mb_25 196 L st M Q else wp scr n mb_25 191 L st M Q) := (wp_step rfl rfl rfl rfl rfl).trans wp_ite
theorem u25_191 : wp scr n mb_25 191 [l0, l1, l2, l3, l4, l5, l6, l7, l8, l9, l10, l11, some (.int x), l13, l14] st M Q ↔ wp scr n mb_25 193 [l0, l1, l2, l3, l4, l5, l6, l7, l8, l9, l10, l11, some (.int x), l13, l14] (.int x :: st) M Q := wp_step rfl rfl rfl rfl rfl
theorem u25_193 : wp scr n mb_25 193 L st M Q ↔ wp scr n mb_25 197 L st M Q := wp_step rfl rfl rfl rfl rfl
theorem u25_196 : wp scr n mb_25 196 L st M Q ↔ wp scr n mb_25 197 L (.int 0 :: st) M Q := wp_step rfl rfl rfl rfl rfl
theorem u25_197 : wp scr n mb_25 197 L (.int y :: .int x :: st) M Q ↔ wp scr n mb_25 198 L (.int (x + y) :: st) M Q := wp_step rfl rfl rfl rfl rfl
theorem u25_198 : wp scr n mb_25 198 L (.int x :: .int y :: o :: st) M Q ↔ mw_o (mm_sti M o y x) (fun M1 => wp scr n mb_25 199 L st M1 Q) := wp_iast rfl
theorem u25_199 : wp scr n mb_25 199 L st M Q ↔ wp scr n mb_25 228 L st M Q := wp_step rfl rfl rfl rfl rfl
theorem u25_202 : wp scr n mb_25 202 [some (.ref a), l1, l2, l3, l4, l5, l6, l7, l8, l9, l10, l11, l12, l13, l14] st M Q ↔ wp scr n mb_25 203 [some (.ref a), l1, l2, l3, l4, l5, l6, l7, l8, l9, l10, l11, l12, l13, l14] (.ref a :: st) M Q := wp_step rfl rfl rfl rfl rfl
theorem u25_203 : wp scr n mb_25 203 L (o :: st) M Q ↔ mw_o (mm_fld (mc_X scr) M o 1 2) (fun v => wp scr n mb_25 206 L (v :: st) M Q) := wp_getf rfl
theorem u25_206 : wp scr n mb_25 206 [l0, l1, l2, l3, l4, l5, l6, l7, some (.int x), l9, l10, l11, l12, l13, l14] st M Q ↔ wp scr n mb_25 208 [l0, l1, l2, l3, l4, l5, l6, l7, some (.int x), l9, l10, l11, l12, l13, l14] (.int x :: st) M Q := wp_step rfl rfl rfl rfl rfl
theorem u25_208 : wp scr n mb_25 208 [l0, some (.ref a), l2, l3, l4, l5, l6, l7, l8, l9, l10, l11, l12, l13, l14] st M Q ↔ wp scr n mb_25 209 [l0, some (.ref a), l2, l3, l4, l5, l6, l7, l8, l9, l10, l11, l12, l13, l14] (.ref a :: st) M Q := wp_step rfl rfl rfl rfl rfl
theorem u25_209 : wp scr n mb_25 209 L (o :: st) M Q ↔ mw_o (mm_fld (mc_X scr) M o 1 2) (fun v => wp scr n mb_25 212 L (v :: st) M Q) := wp_getf rfl
theorem u25_212 : wp scr n mb_25 212 [l0, l1, l2, l3, l4, l5, l6, l7, some (.int x), l9, l10, l11, l12, l13, l14] st M Q ↔ wp scr n mb_25 214 [l0, l1, l2, l3, l4, l5, l6, l7, some (.int x), l9, l10, l11, l12, l13, l14] (.int x :: st) M Q := wp_step rfl rfl rfl rfl rfl
theorem u25_214 : wp scr n mb_25 214 L (.int y :: o :: st) M Q ↔ mw_o (mm_ld (mc_X scr) M o y) (fun x => wp scr n mb_25 215 L (.int x :: st) M Q) := wp_iald rfl
theorem u25_215 : wp scr n mb_25 215 [l0, l1, l2, l3, l4, some (.int x), l6, l7, l8, l9, l10, l11, l12, l13, l14] st M Q ↔ wp scr n mb_25 217 [l0, l1, l2, l3, l4, some (.int x), l6, l7, l8, l9, l10, l11, l12, l13, l14] (.int x :: st) M Q := wp_step rfl rfl rfl rfl rfl
theorem u25_217 : wp scr n mb_25 217 L (.int x :: st) M Q ↔ (if x = 0 then wp scr n mb_25 224 L st M Q else wp scr n mb_25 220 L st M Q) := (wp_step rfl rfl rfl rfl rfl).trans wp_ite
theorem u25_220 : wp scr n mb_25 220 L st M Q ↔ wp scr n mb_25 221 L (.int 0 :: st) M Q := wp_step rfl rfl rfl rfl rfl
theorem u25_221 : wp scr n mb_25 221 L st M Q ↔ wp scr n mb_25 226 L st M Q := wp_step rfl rfl rfl rfl rfl
theorem u25_224 : wp scr n mb_25 224 [l0, l1, l2, l3, l4, l5, l6, l7, l8, l9, l10, l11, some (.int x), l13, l14] st M Q ↔ wp scr n mb_25 226 [l0, l1, l2, l3, l4, l5, l6, l7, l8, l9, l10, l11, some (.int x), l13, l14] (.int x :: st) M Q := wp_step rfl rfl rfl rfl rfl
theorem u25_226 : wp scr n mb_25 226 L (.int y :: .int x :: st) M Q ↔ wp scr n mb_25 227 L (.int (x + y) :: st) M Q := wp_step rfl rfl rfl rfl rfl
theorem u25_227 : wp scr n mb_25 227 L (.int x :: .int y :: o :: st) M Q ↔ mw_o (mm_sti M o y x) (fun M1 => wp scr n mb_25 228 L st M1 Q) := wp_iast rfl
theorem u25_228 : wp scr n mb_25 228 [some (.ref a), l1, l2, l3, l4, l5, l6, l7, l8, l9, l10, l11, l12, l13, l14] st M Q ↔ wp scr n mb_25 229 [some (.ref a), l1, l2, l3, l4, l5, l6, l7, l8, l9, l10, l11, l12, l13, l14] (.ref a :: st) M Q := wp_step rfl rfl rfl rfl rfl
theorem u25_229 : wp scr n mb_25 229 L (o :: st) M Q ↔ mw_o (mm_fld (mc_X scr) M o 1 3) (fun v => wp scr n mb_25 232 L (v :: st) M Q) := wp_getf rfl
theorem u25_232 : wp scr n mb_25 232 [l0, l1, l2, l3, l4, l5, l6, l7, some (.int x), l9, l10, l11, l12, l13, l14] st M Q ↔ wp scr n mb_25 234 [l0, l1, l2, l3, l4, l5, l6, l7, some (.int x), l9, l10, l11, l12, l13, l14] (.int x :: st) M Q := wp_step rfl rfl rfl rfl rfl
theorem u25_234 : wp scr n mb_25 234 [l0, l1, l2, l3, l4, l5, l6, l7, l8, l9, l10, l11, l12, some (.int x), l14] st M Q ↔ wp scr n mb_25 236 [l0, l1, l2, l3, l4, l5, l6, l7, l8, l9, l10, l11, l12, some (.int x), l14] (.int x :: st) M Q := wp_step rfl rfl rfl rfl rfl
theorem u25_236 : wp scr n mb_25 236 L (.int x :: st) M Q ↔ (if x = 0 then wp scr n mb_25 251 L st M Q else wp scr n mb_25 239 L st M Q) := (wp_step rfl rfl rfl rfl rfl).trans wp_ite
theorem u25_239 : wp scr n mb_25 239 L st M Q ↔ wp scr n mb_25 240 L (.int 1 :: st) M Q := wp_step rfl rfl rfl rfl rfl
theorem u25_240 : wp scr n mb_25 240 [l0, some (.ref a), l2, l3, l4, l5, l6, l7, l8, l9, l10, l11, l12, l13, l14] st M Q ↔ wp scr n mb_25 241 [l0, some (.ref a), l2, l3, l4, l5, l6, l7, l8, l9, l10, l11, l12, l13, l14] (.ref a :: st) M Q := wp_step rfl rfl rfl rfl rfl
theorem u25_241 : wp scr n mb_25 241 L (o :: st) M Q ↔ mw_o (mm_fld (mc_X scr) M o 1 3) (fun v => wp scr n mb_25 244 L (v :: st) M Q) := wp_getf rfl
theorem u25_244 : wp scr n mb_25 244 [l0, l1, l2, l3, l4, l5, l6, l7, some (.int x), l9, l10, l11, l12, l13, l14] st M Q ↔ wp scr n mb_25 246 [l0, l1, l2, l3, l4, l5, l6, l7, some (.int x), l9, l10, l11, l12, l13, l14] (.int x :: st) M Q := wp_step rfl rfl rfl rfl rfl
theorem u25_246 : wp scr n mb_25 246 L (.int y :: o :: st) M Q ↔ mw_o (mm_ld (mc_X scr) M o y) (fun x => wp scr n mb_25 247 L (.int x :: st) M Q) := wp_iald rfl
theorem u25_247 : wp scr n mb_25 247 L (.int y :: .int x :: st) M Q ↔ wp scr n mb_25 248 L (.int (x - y) :: st) M Q := wp_step rfl rfl rfl rfl rfl
theorem u25_248 : wp scr n mb_25 248 L st M Q ↔ wp scr n mb_25 258 L st M Q := wp_step rfl rfl rfl rfl rfl
theorem u25_251 : wp scr n mb_25 251 [l0, some (.ref a), l2, l3, l4, l5, l6, l7, l8, l9, l10, l11, l12, l13, l14] st M Q ↔ wp scr n mb_25 252 [l0, some (.ref a), l2, l3, l4, l5, l6, l7, l8, l9, l10, l11, l12, l13, l14] (.ref a :: st) M Q := wp_step rfl rfl rfl rfl rfl
theorem u25_252 : wp scr n mb_25 252 L (o :: st) M Q ↔ mw_o (mm_fld (mc_X scr) M o 1 3) (fun v => wp scr n mb_25 255 L (v :: st) M Q) := wp_getf rfl
theorem u25_255 : wp scr n mb_25 255 [l0, l1, l2, l3, l4, l5, l6, l7, some (.int x), l9, l10, l11, l12, l13, l14] st M Q ↔ wp scr n mb_25 257 [l0, l1, l2, l3, l4, l5, l6, l7, some (.int x), l9, l10, l11, l12, l13, l14] (.int x :: st) M Q := wp_step rfl rfl rfl rfl rfl
theorem u25_257 : wp scr n mb_25 257 L (.int y :: o :: st) M Q ↔ mw_o (mm_ld (mc_X scr) M o y) (fun x => wp scr n mb_25 258 L (.int x :: st) M Q) := wp_iald rfl
theorem u25_258 : wp scr n mb_25 258 L (.int x :: .int y :: o :: st) M Q ↔ mw_o (mm_sti M o y x) (fun M1 => wp scr n mb_25 259 L st M1 Q) := wp_iast rfl
theorem u25_259 : wp scr n mb_25 259 [l0, l1, l2, l3, l4, l5, l6, l7, l8, l9, l10, l11, l12, some (.int x), l14] st M Q ↔ wp scr n mb_25 261 [l0, l1, l2, l3, l4, l5, l6, l7, l8, l9, l10, l11, l12, some (.int x), l14] (.int x :: st) M Q := wp_step rfl rfl rfl rfl rfl
theorem u25_261 : wp scr n mb_25 261 L (.int x :: st) M Q ↔ (if x = 0 then wp scr n mb_25 269 L st M Q else wp scr n mb_25 264 L st M Q) := (wp_step rfl rfl rfl rfl rfl).trans wp_ite
theorem u25_264 : wp scr n mb_25 264 [l0, l1, l2, l3, l4, l5, l6, l7, l8, l9, some (.int x), l11, l12, l13, l14] st M Q ↔ wp scr n mb_25 266 [l0, l1, l2, l3, l4, l5, l6, l7, l8, l9, some (.int x), l11, l12, l13, l14] (.int x :: st) M Q := wp_step rfl rfl rfl rfl rfl
theorem u25_266 : wp scr n mb_25 266 L st M Q ↔ wp scr n mb_25 271 L st M Q := wp_step rfl rfl rfl rfl rfl
theorem u25_269 : wp scr n mb_25 269 [l0, l1, l2, l3, l4, l5, l6, l7, l8, some (.int x), l10, l11, l12, l13, l14] st M Q ↔ wp scr n mb_25 271 [l0, l1, l2, l3, l4, l5, l6, l7, l8, some (.int x), l10, l11, l12, l13, l14] (.int x :: st) M Q := wp_step rfl rfl rfl rfl rfl
theorem u25_271 : wp scr n mb_25 271 [l0, l1, l2, l3, l4, l5, l6, some (.int x), l8, l9, l10, l11, l12, l13, l14] st M Q ↔ wp scr n mb_25 273 [l0, l1, l2, l3, l4, l5, l6, some (.int x), l8, l9, l10, l11, l12, l13, l14] (.int x :: st) M Q := wp_step rfl rfl rfl rfl rfl
theorem u25_273 : wp scr n mb_25 273 L (.int y :: .int x :: st) M Q ↔ wp scr n mb_25 274 L (.int (x - y) :: st) M Q := wp_step rfl rfl rfl rfl rfl
theorem u25_274 : wp scr n mb_25 274 [l0, l1, l2, l3, l4, l5, l6, l7, l8, l9, l10, l11, l12, l13, l14] (.int x :: st) M Q ↔ wp scr n mb_25 276 (mm_sto1 [l0, l1, l2, l3, l4, l5, l6, l7, l8, l9, l10, l11, l12, l13, l14] 14 (.int x)) st M Q := wp_step rfl rfl rfl rfl rfl
theorem u25_276 : wp scr n mb_25 276 [some (.ref a), l1, l2, l3, l4, l5, l6, l7, l8, l9, l10, l11, l12, l13, l14] st M Q ↔ wp scr n mb_25 277 [some (.ref a), l1, l2, l3, l4, l5, l6, l7, l8, l9, l10, l11, l12, l13, l14] (.ref a :: st) M Q := wp_step rfl rfl rfl rfl rfl
theorem u25_277 : wp scr n mb_25 277 L (o :: st) M Q ↔ mw_o (mm_fld (mc_X scr) M o 1 0) (fun v => wp scr n mb_25 280 L (v :: st) M Q) := wp_getf rfl
theorem u25_280 : wp scr n mb_25 280 [l0, l1, l2, l3, l4, l5, l6, l7, some (.int x), l9, l10, l11, l12, l13, l14] st M Q ↔ wp scr n mb_25 282 [l0, l1, l2, l3, l4, l5, l6, l7, some (.int x), l9, l10, l11, l12, l13, l14] (.int x :: st) M Q := wp_step rfl rfl rfl rfl rfl
theorem u25_282 : wp scr n mb_25 282 [l0, l1, some (.int x), l3, l4, l5, l6, l7, l8, l9, l10, l11, l12, l13, l14] st M Q ↔ wp scr n mb_25 283 [l0, l1, some (.int x), l3, l4, l5, l6, l7, l8, l9, l10, l11, l12, l13, l14] (.int x :: st) M Q := wp_step rfl rfl rfl rfl rfl
theorem u25_283 : wp scr n mb_25 283 L (.int x :: st) M Q ↔ (if x = 0 then wp scr n mb_25 291 L st M Q else wp scr n mb_25 286 L st M Q) := (wp_step rfl rfl rfl rfl rfl).trans wp_ite
theorem u25_286 : wp scr n mb_25 286 [l0, l1, l2, l3, l4, l5, l6, l7, l8, l9, l10, some (.int x), l12, l13, l14] st M Q ↔ wp scr n mb_25 288 [l0, l1, l2, l3, l4, l5, l6, l7, l8, l9, l10, some (.int x), l12, l13, l14] (.int x :: st) M Q := wp_step rfl rfl rfl rfl rfl
theorem u25_288 : wp scr n mb_25 288 L st M Q ↔ wp scr n mb_25 293 L st M Q := wp_step rfl rfl rfl rfl rfl
theorem u25_291 : wp scr n mb_25 291 [l0, l1, l2, l3, l4, l5, l6, l7, l8, l9, l10, l11, l12, l13, some (.int x)] st M Q ↔ wp scr n mb_25 293 [l0, l1, l2, l3, l4, l5, l6, l7, l8, l9, l10, l11, l12, l13, some (.int x)] (.int x :: st) M Q := wp_step rfl rfl rfl rfl rfl
theorem u25_293 : wp scr n mb_25 293 L (.int x :: .int y :: o :: st) M Q ↔ mw_o (mm_sti M o y x) (fun M1 => wp scr n mb_25 294 L st M1 Q) := wp_iast rfl
theorem u25_294 : wp scr n mb_25 294 [some (.ref a), l1, l2, l3, l4, l5, l6, l7, l8, l9, l10, l11, l12, l13, l14] st M Q ↔ wp scr n mb_25 295 [some (.ref a), l1, l2, l3, l4, l5, l6, l7, l8, l9, l10, l11, l12, l13, l14] (.ref a :: st) M Q := wp_step rfl rfl rfl rfl rfl
theorem u25_295 : wp scr n mb_25 295 L (o :: st) M Q ↔ mw_o (mm_fld (mc_X scr) M o 1 1) (fun v => wp scr n mb_25 298 L (v :: st) M Q) := wp_getf rfl
theorem u25_298 : wp scr n mb_25 298 [l0, l1, l2, l3, l4, l5, l6, l7, some (.int x), l9, l10, l11, l12, l13, l14] st M Q ↔ wp scr n mb_25 300 [l0, l1, l2, l3, l4, l5, l6, l7, some (.int x), l9, l10, l11, l12, l13, l14] (.int x :: st) M Q := wp_step rfl rfl rfl rfl rfl
theorem u25_300 : wp scr n mb_25 300 [l0, l1, some (.int x), l3, l4, l5, l6, l7, l8, l9, l10, l11, l12, l13, l14] st M Q ↔ wp scr n mb_25 301 [l0, l1, some (.int x), l3, l4, l5, l6, l7, l8, l9, l10, l11, l12, l13, l14] (.int x :: st) M Q := wp_step rfl rfl rfl rfl rfl
theorem u25_301 : wp scr n mb_25 301 L (.int x :: st) M Q ↔ (if x = 0 then wp scr n mb_25 309 L st M Q else wp scr n mb_25 304 L st M Q) := (wp_step rfl rfl rfl rfl rfl).trans wp_ite
theorem u25_304 : wp scr n mb_25 304 [l0, l1, l2, l3, l4, l5, l6, l7, l8, l9, l10, l11, l12, l13, some (.int x)] st M Q ↔ wp scr n mb_25 306 [l0, l1, l2, l3, l4, l5, l6, l7, l8, l9, l10, l11, l12, l13, some (.int x)] (.int x :: st) M Q := wp_step rfl rfl rfl rfl rfl
theorem u25_306 : wp scr n mb_25 306 L st M Q ↔ wp scr n mb_25 311 L st M Q := wp_step rfl rfl rfl rfl rfl
theorem u25_309 : wp scr n mb_25 309 [l0, l1, l2, l3, l4, l5, l6, l7, l8, l9, l10, some (.int x), l12, l13, l14] st M Q ↔ wp scr n mb_25 311 [l0, l1, l2, l3, l4, l5, l6, l7, l8, l9, l10, some (.int x), l12, l13, l14] (.int x :: st) M Q := wp_step rfl rfl rfl rfl rfl
theorem u25_311 : wp scr n mb_25 311 L (.int x :: .int y :: o :: st) M Q ↔ mw_o (mm_sti M o y x) (fun M1 => wp scr n mb_25 312 L st M1 Q) := wp_iast rfl
theorem u25_312 : wp scr n mb_25 312 [l0, l1, l2, l3, l4, l5, l6, l7, some (.int x), l9, l10, l11, l12, l13, l14] st M Q ↔ wp scr n mb_25 315 (mm_sto1 [l0, l1, l2, l3, l4, l5, l6, l7, some (.int x), l9, l10, l11, l12, l13, l14] 8 (.int (x + 1))) st M Q := wp_step rfl rfl rfl rfl rfl
theorem u25_315 : wp scr n mb_25 315 L st M Q ↔ wp scr n mb_25 41 L st M Q := wp_step rfl rfl rfl rfl rfl
theorem u25_318 : wp scr n mb_25 318 L [] M Q ↔ Q none M := wp_ret rfl rfl
theorem e25 : Wp scr (n + 1) 25 [.ref a0, .ref b1, .int x2, .int x3, .int x4, .int x5] M Q ↔ wp scr n mb_25 0 [some (.ref a0), some (.ref b1), some (.int x2), some (.int x3), some (.int x4), some (.int x5), none, none, none, none, none, none, none, none, none] [] M Q := Wp_to rfl rfl rfl
/-- SmallerInTheShop$Layout heapAt (ZII)I -/
def mb_26 : mw_B := ((Option.some FieldType.int), mp_26)
theorem u26_0 : wp scr n mb_26 0 [some (.ref a), l1, l2, l3] st M Q ↔ wp scr n mb_26 1 [some (.ref a), l1, l2, l3] (.ref a :: st) M Q := wp_step rfl rfl rfl rfl rfl
theorem u26_1 : wp scr n mb_26 1 L (o :: st) M Q ↔ mw_o (mm_fld (mc_X scr) M o 1 5) (fun v => wp scr n mb_26 4 L (v :: st) M Q) := wp_getf rfl
theorem u26_4 : wp scr n mb_26 4 [l0, some (.int x), l2, l3] st M Q ↔ wp scr n mb_26 5 [l0, some (.int x), l2, l3] (.int x :: st) M Q := wp_step rfl rfl rfl rfl rfl
theorem u26_5 : wp scr n mb_26 5 L (.int x :: st) M Q ↔ (if x = 0 then wp scr n mb_26 16 L st M Q else wp scr n mb_26 8 L st M Q) := (wp_step rfl rfl rfl rfl rfl).trans wp_ite
theorem u26_8 : wp scr n mb_26 8 L st M Q ↔ wp scr n mb_26 9 L (.int 4 :: st) M Q := wp_step rfl rfl rfl rfl rfl
theorem u26_9 : wp scr n mb_26 9 [l0, l1, some (.int x), l3] st M Q ↔ wp scr n mb_26 10 [l0, l1, some (.int x), l3] (.int x :: st) M Q := wp_step rfl rfl rfl rfl rfl
theorem u26_10 : wp scr n mb_26 10 L (.int y :: .int x :: st) M Q ↔ wp scr n mb_26 11 L (.int (x * y) :: st) M Q := wp_step rfl rfl rfl rfl rfl
theorem u26_11 : wp scr n mb_26 11 [l0, l1, l2, some (.int x)] st M Q ↔ wp scr n mb_26 12 [l0, l1, l2, some (.int x)] (.int x :: st) M Q := wp_step rfl rfl rfl rfl rfl
theorem u26_12 : wp scr n mb_26 12 L (.int y :: .int x :: st) M Q ↔ wp scr n mb_26 13 L (.int (x + y) :: st) M Q := wp_step rfl rfl rfl rfl rfl
theorem u26_13 : wp scr n mb_26 13 L st M Q ↔ wp scr n mb_26 21 L st M Q := wp_step rfl rfl rfl rfl rfl
theorem u26_16 : wp scr n mb_26 16 L st M Q ↔ wp scr n mb_26 17 L (.int 4 :: st) M Q := wp_step rfl rfl rfl rfl rfl
theorem u26_17 : wp scr n mb_26 17 [l0, l1, l2, some (.int x)] st M Q ↔ wp scr n mb_26 18 [l0, l1, l2, some (.int x)] (.int x :: st) M Q := wp_step rfl rfl rfl rfl rfl
theorem u26_18 : wp scr n mb_26 18 L (.int y :: .int x :: st) M Q ↔ wp scr n mb_26 19 L (.int (x * y) :: st) M Q := wp_step rfl rfl rfl rfl rfl
theorem u26_19 : wp scr n mb_26 19 [l0, l1, some (.int x), l3] st M Q ↔ wp scr n mb_26 20 [l0, l1, some (.int x), l3] (.int x :: st) M Q := wp_step rfl rfl rfl rfl rfl
theorem u26_20 : wp scr n mb_26 20 L (.int y :: .int x :: st) M Q ↔ wp scr n mb_26 21 L (.int (x + y) :: st) M Q := wp_step rfl rfl rfl rfl rfl
theorem u26_21 : wp scr n mb_26 21 L (.int y :: o :: st) M Q ↔ mw_o (mm_ld (mc_X scr) M o y) (fun x => wp scr n mb_26 22 L (.int x :: st) M Q) := wp_iald rfl
theorem u26_22 : wp scr n mb_26 22 L [.int x] M Q ↔ Q (some (.int x)) M := wp_ret rfl rfl
theorem e26 : Wp scr (n + 1) 26 [.ref a0, .int x1, .int x2, .int x3] M Q ↔ wp scr n mb_26 0 [some (.ref a0), some (.int x1), some (.int x2), some (.int x3)] [] M Q := Wp_to rfl rfl rfl
/-- SmallerInTheShop$Layout countHeaps ()V -/
def mb_27 : mw_B := ((Option.none : Option FieldType), mp_27)
theorem u27_0 : wp scr n mb_27 0 L st M Q ↔ wp scr n mb_27 1 L (.int 0 :: st) M Q := wp_step rfl rfl rfl rfl rfl
theorem u27_1 : wp scr n mb_27 1 [l0, l1] (.int x :: st) M Q ↔ wp scr n mb_27 2 (mm_sto1 [l0, l1] 1 (.int x)) st M Q := wp_step rfl rfl rfl rfl rfl
theorem u27_2 : wp scr n mb_27 2 [l0, some (.int x)] st M Q ↔ wp scr n mb_27 3 [l0, some (.int x)] (.int x :: st) M Q := wp_step rfl rfl rfl rfl rfl
theorem u27_3 : wp scr n mb_27 3 L st M Q ↔ wp scr n mb_27 5 L (.int 8 :: st) M Q := wp_step rfl rfl rfl rfl rfl
theorem u27_5 : wp scr n mb_27 5 L (.int y :: .int x :: st) M Q ↔ (if y ≤ x then wp scr n mb_27 21 L st M Q else wp scr n mb_27 8 L st M Q) := (wp_step rfl rfl rfl rfl rfl).trans wp_ite
theorem u27_8 : wp scr n mb_27 8 [some (.ref a), l1] st M Q ↔ wp scr n mb_27 9 [some (.ref a), l1] (.ref a :: st) M Q := wp_step rfl rfl rfl rfl rfl
theorem u27_9 : wp scr n mb_27 9 L (o :: st) M Q ↔ mw_o (mm_fld (mc_X scr) M o 1 5) (fun v => wp scr n mb_27 12 L (v :: st) M Q) := wp_getf rfl
theorem u27_12 : wp scr n mb_27 12 [l0, some (.int x)] st M Q ↔ wp scr n mb_27 13 [l0, some (.int x)] (.int x :: st) M Q := wp_step rfl rfl rfl rfl rfl
theorem u27_13 : wp scr n mb_27 13 L st M Q ↔ wp scr n mb_27 14 L (.int 0 :: st) M Q := wp_step rfl rfl rfl rfl rfl
theorem u27_14 : wp scr n mb_27 14 L (.int x :: .int y :: o :: st) M Q ↔ mw_o (mm_sti M o y x) (fun M1 => wp scr n mb_27 15 L st M1 Q) := wp_iast rfl
theorem u27_15 : wp scr n mb_27 15 [l0, some (.int x)] st M Q ↔ wp scr n mb_27 18 (mm_sto1 [l0, some (.int x)] 1 (.int (x + 1))) st M Q := wp_step rfl rfl rfl rfl rfl
theorem u27_18 : wp scr n mb_27 18 L st M Q ↔ wp scr n mb_27 2 L st M Q := wp_step rfl rfl rfl rfl rfl
theorem u27_21 : wp scr n mb_27 21 L st M Q ↔ wp scr n mb_27 22 L (.int 0 :: st) M Q := wp_step rfl rfl rfl rfl rfl
theorem u27_22 : wp scr n mb_27 22 [l0, l1] (.int x :: st) M Q ↔ wp scr n mb_27 23 (mm_sto1 [l0, l1] 1 (.int x)) st M Q := wp_step rfl rfl rfl rfl rfl
theorem u27_23 : wp scr n mb_27 23 [l0, some (.int x)] st M Q ↔ wp scr n mb_27 24 [l0, some (.int x)] (.int x :: st) M Q := wp_step rfl rfl rfl rfl rfl
theorem u27_24 : wp scr n mb_27 24 L st M Q ↔ wp scr n mb_27 26 L (.int 8 :: st) M Q := wp_step rfl rfl rfl rfl rfl
theorem u27_26 : wp scr n mb_27 26 L (.int y :: .int x :: st) M Q ↔ (if y ≤ x then wp scr n mb_27 49 L st M Q else wp scr n mb_27 29 L st M Q) := (wp_step rfl rfl rfl rfl rfl).trans wp_ite
theorem u27_29 : wp scr n mb_27 29 [some (.ref a), l1] st M Q ↔ wp scr n mb_27 30 [some (.ref a), l1] (.ref a :: st) M Q := wp_step rfl rfl rfl rfl rfl
theorem u27_30 : wp scr n mb_27 30 L (o :: st) M Q ↔ mw_o (mm_fld (mc_X scr) M o 1 5) (fun v => wp scr n mb_27 33 L (v :: st) M Q) := wp_getf rfl
theorem u27_33 : wp scr n mb_27 33 [some (.ref a), l1] st M Q ↔ wp scr n mb_27 34 [some (.ref a), l1] (.ref a :: st) M Q := wp_step rfl rfl rfl rfl rfl
theorem u27_34 : wp scr n mb_27 34 [l0, some (.int x)] st M Q ↔ wp scr n mb_27 35 [l0, some (.int x)] (.int x :: st) M Q := wp_step rfl rfl rfl rfl rfl
theorem u27_35 : wp scr n mb_27 35 L (a2 :: .ref a :: st) M Q ↔ ((mw_r M a 1 ∧ mw_st st) ∧ Wp scr n 28 [.ref a, a2] M (fun r1 M1 => wp scr n mb_27 38 L (r1.toList ++ st) M1 Q)) := wp_vir rfl rfl rfl rfl rfl
theorem u27_38 : wp scr n mb_27 38 L (.int y :: .ref a :: st) M Q ↔ wp scr n mb_27 39 L (.int y :: .ref a :: .int y :: .ref a :: st) M Q := wp_step rfl rfl rfl rfl rfl
theorem u27_39 : wp scr n mb_27 39 L (.int y :: o :: st) M Q ↔ mw_o (mm_ld (mc_X scr) M o y) (fun x => wp scr n mb_27 40 L (.int x :: st) M Q) := wp_iald rfl
theorem u27_40 : wp scr n mb_27 40 L st M Q ↔ wp scr n mb_27 41 L (.int 1 :: st) M Q := wp_step rfl rfl rfl rfl rfl
theorem u27_41 : wp scr n mb_27 41 L (.int y :: .int x :: st) M Q ↔ wp scr n mb_27 42 L (.int (x + y) :: st) M Q := wp_step rfl rfl rfl rfl rfl
theorem u27_42 : wp scr n mb_27 42 L (.int x :: .int y :: o :: st) M Q ↔ mw_o (mm_sti M o y x) (fun M1 => wp scr n mb_27 43 L st M1 Q) := wp_iast rfl
theorem u27_43 : wp scr n mb_27 43 [l0, some (.int x)] st M Q ↔ wp scr n mb_27 46 (mm_sto1 [l0, some (.int x)] 1 (.int (x + 1))) st M Q := wp_step rfl rfl rfl rfl rfl
theorem u27_46 : wp scr n mb_27 46 L st M Q ↔ wp scr n mb_27 23 L st M Q := wp_step rfl rfl rfl rfl rfl
theorem u27_49 : wp scr n mb_27 49 L [] M Q ↔ Q none M := wp_ret rfl rfl
theorem e27 : Wp scr (n + 1) 27 [.ref a0] M Q ↔ wp scr n mb_27 0 [some (.ref a0), none] [] M Q := Wp_to rfl rfl rfl
/-- SmallerInTheShop$Layout cellOf (I)I -/
def mb_28 : mw_B := ((Option.some FieldType.int), mp_28)
theorem u28_0 : wp scr n mb_28 0 L st M Q ↔ wp scr n mb_28 1 L (.int 4 :: st) M Q := wp_step rfl rfl rfl rfl rfl
theorem u28_1 : wp scr n mb_28 1 [some (.ref a), l1] st M Q ↔ wp scr n mb_28 2 [some (.ref a), l1] (.ref a :: st) M Q := wp_step rfl rfl rfl rfl rfl
theorem u28_2 : wp scr n mb_28 2 L (o :: st) M Q ↔ mw_o (mm_fld (mc_X scr) M o 1 1) (fun v => wp scr n mb_28 5 L (v :: st) M Q) := wp_getf rfl
theorem u28_5 : wp scr n mb_28 5 [l0, some (.int x)] st M Q ↔ wp scr n mb_28 6 [l0, some (.int x)] (.int x :: st) M Q := wp_step rfl rfl rfl rfl rfl
theorem u28_6 : wp scr n mb_28 6 L (.int y :: o :: st) M Q ↔ mw_o (mm_ld (mc_X scr) M o y) (fun x => wp scr n mb_28 7 L (.int x :: st) M Q) := wp_iald rfl
theorem u28_7 : wp scr n mb_28 7 L (.int y :: .int x :: st) M Q ↔ wp scr n mb_28 8 L (.int (x * y) :: st) M Q := wp_step rfl rfl rfl rfl rfl
theorem u28_8 : wp scr n mb_28 8 [some (.ref a), l1] st M Q ↔ wp scr n mb_28 9 [some (.ref a), l1] (.ref a :: st) M Q := wp_step rfl rfl rfl rfl rfl
theorem u28_9 : wp scr n mb_28 9 L (o :: st) M Q ↔ mw_o (mm_fld (mc_X scr) M o 1 0) (fun v => wp scr n mb_28 12 L (v :: st) M Q) := wp_getf rfl
theorem u28_12 : wp scr n mb_28 12 [l0, some (.int x)] st M Q ↔ wp scr n mb_28 13 [l0, some (.int x)] (.int x :: st) M Q := wp_step rfl rfl rfl rfl rfl
theorem u28_13 : wp scr n mb_28 13 L (.int y :: o :: st) M Q ↔ mw_o (mm_ld (mc_X scr) M o y) (fun x => wp scr n mb_28 14 L (.int x :: st) M Q) := wp_iald rfl
theorem u28_14 : wp scr n mb_28 14 L (.int y :: .int x :: st) M Q ↔ wp scr n mb_28 15 L (.int (x + y) :: st) M Q := wp_step rfl rfl rfl rfl rfl
theorem u28_15 : wp scr n mb_28 15 L [.int x] M Q ↔ Q (some (.int x)) M := wp_ret rfl rfl
theorem e28 : Wp scr (n + 1) 28 [.ref a0, .int x1] M Q ↔ wp scr n mb_28 0 [some (.ref a0), some (.int x1)] [] M Q := Wp_to rfl rfl rfl
/-- SmallerInTheShop$Layout foldCreases (LSmallerInTheShop$Layout;ZIZ)V -/
def mb_29 : mw_B := ((Option.none : Option FieldType), mp_29)
theorem u29_0 : wp scr n mb_29 0 [some (.ref a), l1, l2, l3, l4, l5, l6] st M Q ↔ wp scr n mb_29 1 [some (.ref a), l1, l2, l3, l4, l5, l6] (.ref a :: st) M Q := wp_step rfl rfl rfl rfl rfl
theorem u29_1 : wp scr n mb_29 1 L st M Q ↔ wp scr n mb_29 2 L (.int 0 :: st) M Q := wp_step rfl rfl rfl rfl rfl
theorem u29_2 : wp scr n mb_29 2 L (v :: o :: st) M Q ↔ mw_o (mm_put mc_fty M o v 1 8) (fun M1 => wp scr n mb_29 5 L st M1 Q) := wp_putf rfl
theorem u29_5 : wp scr n mb_29 5 L st M Q ↔ wp scr n mb_29 6 L (.int 0 :: st) M Q := wp_step rfl rfl rfl rfl rfl
theorem u29_6 : wp scr n mb_29 6 [l0, l1, l2, l3, l4, l5, l6] (.int x :: st) M Q ↔ wp scr n mb_29 8 (mm_sto1 [l0, l1, l2, l3, l4, l5, l6] 5 (.int x)) st M Q := wp_step rfl rfl rfl rfl rfl
theorem u29_8 : wp scr n mb_29 8 [l0, l1, l2, l3, l4, some (.int x), l6] st M Q ↔ wp scr n mb_29 10 [l0, l1, l2, l3, l4, some (.int x), l6] (.int x :: st) M Q := wp_step rfl rfl rfl rfl rfl
theorem u29_10 : wp scr n mb_29 10 L st M Q ↔ wp scr n mb_29 12 L (.int 10 :: st) M Q := wp_step rfl rfl rfl rfl rfl
theorem u29_12 : wp scr n mb_29 12 L (.int y :: .int x :: st) M Q ↔ (if y ≤ x then wp scr n mb_29 109 L st M Q else wp scr n mb_29 15 L st M Q) := (wp_step rfl rfl rfl rfl rfl).trans wp_ite
theorem u29_15 : wp scr n mb_29 15 [some (.ref a), l1, l2, l3, l4, l5, l6] st M Q ↔ wp scr n mb_29 16 [some (.ref a), l1, l2, l3, l4, l5, l6] (.ref a :: st) M Q := wp_step rfl rfl rfl rfl rfl
theorem u29_16 : wp scr n mb_29 16 L (o :: st) M Q ↔ mw_o (mm_fld (mc_X scr) M o 1 4) (fun v => wp scr n mb_29 19 L (v :: st) M Q) := wp_getf rfl
theorem u29_19 : wp scr n mb_29 19 [l0, l1, l2, l3, l4, some (.int x), l6] st M Q ↔ wp scr n mb_29 21 [l0, l1, l2, l3, l4, some (.int x), l6] (.int x :: st) M Q := wp_step rfl rfl rfl rfl rfl
theorem u29_21 : wp scr n mb_29 21 [l0, some (.ref a), l2, l3, l4, l5, l6] st M Q ↔ wp scr n mb_29 22 [l0, some (.ref a), l2, l3, l4, l5, l6] (.ref a :: st) M Q := wp_step rfl rfl rfl rfl rfl
theorem u29_22 : wp scr n mb_29 22 L (o :: st) M Q ↔ mw_o (mm_fld (mc_X scr) M o 1 4) (fun v => wp scr n mb_29 25 L (v :: st) M Q) := wp_getf rfl
theorem u29_25 : wp scr n mb_29 25 [l0, l1, l2, l3, l4, some (.int x), l6] st M Q ↔ wp scr n mb_29 27 [l0, l1, l2, l3, l4, some (.int x), l6] (.int x :: st) M Q := wp_step rfl rfl rfl rfl rfl
theorem u29_27 : wp scr n mb_29 27 L (.int y :: o :: st) M Q ↔ mw_o (mm_ld (mc_X scr) M o y) (fun x => wp scr n mb_29 28 L (.int x :: st) M Q) := wp_iald rfl
theorem u29_28 : wp scr n mb_29 28 L (.int x :: .int y :: o :: st) M Q ↔ mw_o (mm_sti M o y x) (fun M1 => wp scr n mb_29 29 L st M1 Q) := wp_iast rfl
theorem u29_29 : wp scr n mb_29 29 [some (.ref a), l1, l2, l3, l4, l5, l6] st M Q ↔ wp scr n mb_29 30 [some (.ref a), l1, l2, l3, l4, l5, l6] (.ref a :: st) M Q := wp_step rfl rfl rfl rfl rfl
theorem u29_30 : wp scr n mb_29 30 L (o :: st) M Q ↔ mw_o (mm_fld (mc_X scr) M o 1 4) (fun v => wp scr n mb_29 33 L (v :: st) M Q) := wp_getf rfl
theorem u29_33 : wp scr n mb_29 33 [l0, l1, l2, l3, l4, some (.int x), l6] st M Q ↔ wp scr n mb_29 35 [l0, l1, l2, l3, l4, some (.int x), l6] (.int x :: st) M Q := wp_step rfl rfl rfl rfl rfl
theorem u29_35 : wp scr n mb_29 35 L (.int y :: o :: st) M Q ↔ mw_o (mm_ld (mc_X scr) M o y) (fun x => wp scr n mb_29 36 L (.int x :: st) M Q) := wp_iald rfl
theorem u29_36 : wp scr n mb_29 36 L (.int x :: st) M Q ↔ (if x = 0 then wp scr n mb_29 39 L st M Q else wp scr n mb_29 103 L st M Q) := (wp_step rfl rfl rfl rfl rfl).trans wp_iten
theorem u29_39 : wp scr n mb_29 39 [l0, some (.ref a), l2, l3, l4, l5, l6] st M Q ↔ wp scr n mb_29 40 [l0, some (.ref a), l2, l3, l4, l5, l6] (.ref a :: st) M Q := wp_step rfl rfl rfl rfl rfl
theorem u29_40 : wp scr n mb_29 40 [l0, l1, l2, l3, l4, some (.int x), l6] st M Q ↔ wp scr n mb_29 42 [l0, l1, l2, l3, l4, some (.int x), l6] (.int x :: st) M Q := wp_step rfl rfl rfl rfl rfl
theorem u29_42 : wp scr n mb_29 42 [l0, l1, some (.int x), l3, l4, l5, l6] st M Q ↔ wp scr n mb_29 43 [l0, l1, some (.int x), l3, l4, l5, l6] (.int x :: st) M Q := wp_step rfl rfl rfl rfl rfl
theorem u29_43 : wp scr n mb_29 43 [l0, l1, l2, some (.int x), l4, l5, l6] st M Q ↔ wp scr n mb_29 44 [l0, l1, l2, some (.int x), l4, l5, l6] (.int x :: st) M Q := wp_step rfl rfl rfl rfl rfl
theorem u29_44 : wp scr n mb_29 44 L (a4 :: a3 :: a2 :: .ref a :: st) M Q ↔ ((mw_r M a 1 ∧ mw_st st) ∧ Wp scr n 30 [.ref a, a2, a3, a4] M (fun r1 M1 => wp scr n mb_29 47 L (r1.toList ++ st) M1 Q)) := wp_vir rfl rfl rfl rfl rfl
theorem u29_47 : wp scr n mb_29 47 L (.int x :: st) M Q ↔ (if x = 0 then wp scr n mb_29 103 L st M Q else wp scr n mb_29 50 L st M Q) := (wp_step rfl rfl rfl rfl rfl).trans wp_ite
theorem u29_50 : wp scr n mb_29 50 [l0, some (.ref a), l2, l3, l4, l5, l6] st M Q ↔ wp scr n mb_29 51 [l0, some (.ref a), l2, l3, l4, l5, l6] (.ref a :: st) M Q := wp_step rfl rfl rfl rfl rfl
theorem u29_51 : wp scr n mb_29 51 L (o :: st) M Q ↔ mw_o (mm_fld (mc_X scr) M o 1 3) (fun v => wp scr n mb_29 54 L (v :: st) M Q) := wp_getf rfl
theorem u29_54 : wp scr n mb_29 54 L st M Q ↔ wp scr n mb_29 57 L (.retAddr 1 :: st) M Q := wp_step rfl rfl rfl rfl rfl
theorem u29_57 : wp scr n mb_29 57 [l0, l1, l2, l3, l4, some (.int x), l6] st M Q ↔ wp scr n mb_29 59 [l0, l1, l2, l3, l4, some (.int x), l6] (.int x :: st) M Q := wp_step rfl rfl rfl rfl rfl
theorem u29_59 : wp scr n mb_29 59 L (.int y :: o :: st) M Q ↔ mw_o (mm_ld (mc_X scr) M o y) (fun x => wp scr n mb_29 60 L (.int x :: st) M Q) := wp_iald rfl
theorem u29_60 : wp scr n mb_29 60 L (.int y :: o :: st) M Q ↔ mw_o (mm_ld (mc_X scr) M o y) (fun x => wp scr n mb_29 61 L (.int x :: st) M Q) := wp_iald rfl
theorem u29_61 : wp scr n mb_29 61 L (.int x :: st) M Q ↔ (if x = 0 then wp scr n mb_29 64 L st M Q else wp scr n mb_29 68 L st M Q) := (wp_step rfl rfl rfl rfl rfl).trans wp_iten
theorem u29_64 : wp scr n mb_29 64 L st M Q ↔ wp scr n mb_29 65 L (.int 1 :: st) M Q := wp_step rfl rfl rfl rfl rfl
theorem u29_65 : wp scr n mb_29 65 L st M Q ↔ wp scr n mb_29 69 L st M Q := wp_step rfl rfl rfl rfl rfl
theorem u29_68 : wp scr n mb_29 68 L st M Q ↔ wp scr n mb_29 69 L (.int 0 :: st) M Q := wp_step rfl rfl rfl rfl rfl
theorem u29_69 : wp scr n mb_29 69 [l0, l1, l2, l3, l4, l5, l6] (.int x :: st) M Q ↔ wp scr n mb_29 71 (mm_sto1 [l0, l1, l2, l3, l4, l5, l6] 6 (.int x)) st M Q := wp_step rfl rfl rfl rfl rfl
theorem u29_71 : wp scr n mb_29 71 [some (.ref a), l1, l2, l3, l4, l5, l6] st M Q ↔ wp scr n mb_29 72 [some (.ref a), l1, l2, l3, l4, l5, l6] (.ref a :: st) M Q := wp_step rfl rfl rfl rfl rfl
theorem u29_72 : wp scr n mb_29 72 L (o :: st) M Q ↔ mw_o (mm_fld (mc_X scr) M o 1 4) (fun v => wp scr n mb_29 75 L (v :: st) M Q) := wp_getf rfl
theorem u29_75 : wp scr n mb_29 75 [l0, l1, l2, l3, l4, some (.int x), l6] st M Q ↔ wp scr n mb_29 77 [l0, l1, l2, l3, l4, some (.int x), l6] (.int x :: st) M Q := wp_step rfl rfl rfl rfl rfl
theorem u29_77 : wp scr n mb_29 77 [l0, l1, l2, l3, l4, l5, some (.int x)] st M Q ↔ wp scr n mb_29 79 [l0, l1, l2, l3, l4, l5, some (.int x)] (.int x :: st) M Q := wp_step rfl rfl rfl rfl rfl
theorem u29_79 : wp scr n mb_29 79 [l0, l1, l2, l3, some (.int x), l5, l6] st M Q ↔ wp scr n mb_29 81 [l0, l1, l2, l3, some (.int x), l5, l6] (.int x :: st) M Q := wp_step rfl rfl rfl rfl rfl
theorem u29_81 : wp scr n mb_29 81 L (.int y :: .int x :: st) M Q ↔ (if x = y then wp scr n mb_29 84 L st M Q else wp scr n mb_29 88 L st M Q) := (wp_step rfl rfl rfl rfl rfl).trans wp_iten
theorem u29_84 : wp scr n mb_29 84 L st M Q ↔ wp scr n mb_29 85 L (.int 2 :: st) M Q := wp_step rfl rfl rfl rfl rfl
theorem u29_85 : wp scr n mb_29 85 L st M Q ↔ wp scr n mb_29 89 L st M Q := wp_step rfl rfl rfl rfl rfl
theorem u29_88 : wp scr n mb_29 88 L st M Q ↔ wp scr n mb_29 89 L (.int 1 :: st) M Q := wp_step rfl rfl rfl rfl rfl
theorem u29_89 : wp scr n mb_29 89 L (.int x :: .int y :: o :: st) M Q ↔ mw_o (mm_sti M o y x) (fun M1 => wp scr n mb_29 90 L st M1 Q) := wp_iast rfl
theorem u29_90 : wp scr n mb_29 90 [some (.ref a), l1, l2, l3, l4, l5, l6] st M Q ↔ wp scr n mb_29 91 [some (.ref a), l1, l2, l3, l4, l5, l6] (.ref a :: st) M Q := wp_step rfl rfl rfl rfl rfl
theorem u29_91 : wp scr n mb_29 91 L (.ref a :: st) M Q ↔ wp scr n mb_29 92 L (.ref a :: .ref a :: st) M Q := wp_step rfl rfl rfl rfl rfl
theorem u29_92 : wp scr n mb_29 92 L (o :: st) M Q ↔ mw_o (mm_fld (mc_X scr) M o 1 8) (fun v => wp scr n mb_29 95 L (v :: st) M Q) := wp_getf rfl
theorem u29_95 : wp scr n mb_29 95 L st M Q ↔ wp scr n mb_29 96 L (.int 1 :: st) M Q := wp_step rfl rfl rfl rfl rfl
theorem u29_96 : wp scr n mb_29 96 [l0, l1, l2, l3, l4, some (.int x), l6] st M Q ↔ wp scr n mb_29 98 [l0, l1, l2, l3, l4, some (.int x), l6] (.int x :: st) M Q := wp_step rfl rfl rfl rfl rfl
theorem u29_98 : wp scr n mb_29 98 L (.int y :: .int x :: st) M Q ↔ wp scr n mb_29 99 L (.int (x <<< (y &&& 31)) :: st) M Q := wp_step rfl rfl rfl rfl rfl
theorem u29_99 : wp scr n mb_29 99 L (.int y :: .int x :: st) M Q ↔ wp scr n mb_29 100 L (.int (x ||| y) :: st) M Q := wp_step rfl rfl rfl rfl rfl
theorem u29_100 : wp scr n mb_29 100 L (v :: o :: st) M Q ↔ mw_o (mm_put mc_fty M o v 1 8) (fun M1 => wp scr n mb_29 103 L st M1 Q) := wp_putf rfl
theorem u29_103 : wp scr n mb_29 103 [l0, l1, l2, l3, l4, some (.int x), l6] st M Q ↔ wp scr n mb_29 106 (mm_sto1 [l0, l1, l2, l3, l4, some (.int x), l6] 5 (.int (x + 1))) st M Q := wp_step rfl rfl rfl rfl rfl
theorem u29_106 : wp scr n mb_29 106 L st M Q ↔ wp scr n mb_29 8 L st M Q := wp_step rfl rfl rfl rfl rfl
theorem u29_109 : wp scr n mb_29 109 L [] M Q ↔ Q none M := wp_ret rfl rfl
theorem e29 : Wp scr (n + 1) 29 [.ref a0, .ref b1, .int x2, .int x3, .int x4] M Q ↔ wp scr n mb_29 0 [some (.ref a0), some (.ref b1), some (.int x2), some (.int x3), some (.int x4), none, none] [] M Q := Wp_to rfl rfl rfl
/-- SmallerInTheShop$Layout liesAcross (IZI)Z -/
def mb_30 : mw_B := ((Option.some FieldType.boolean), mp_30)
theorem u30_0 : wp scr n mb_30 0 L st M Q ↔ wp scr n mb_30 3 L (.retAddr 1 :: st) M Q := wp_step rfl rfl rfl rfl rfl
theorem u30_3 : wp scr n mb_30 3 [l0, some (.int x), l2, l3, l4, l5, l6, l7] st M Q ↔ wp scr n mb_30 4 [l0, some (.int x), l2, l3, l4, l5, l6, l7] (.int x :: st) M Q := wp_step rfl rfl rfl rfl rfl
theorem u30_4 : wp scr n mb_30 4 L (.int y :: o :: st) M Q ↔ mw_o (mm_ld (mc_X scr) M o y) (fun x => wp scr n mb_30 5 L (.int x :: st) M Q) := wp_iald rfl
theorem u30_5 : wp scr n mb_30 5 [l0, l1, l2, l3, l4, l5, l6, l7] (.int x :: st) M Q ↔ wp scr n mb_30 7 (mm_sto1 [l0, l1, l2, l3, l4, l5, l6, l7] 4 (.int x)) st M Q := wp_step rfl rfl rfl rfl rfl
theorem u30_7 : wp scr n mb_30 7 L st M Q ↔ wp scr n mb_30 10 L (.retAddr 2 :: st) M Q := wp_step rfl rfl rfl rfl rfl
theorem u30_10 : wp scr n mb_30 10 [l0, some (.int x), l2, l3, l4, l5, l6, l7] st M Q ↔ wp scr n mb_30 11 [l0, some (.int x), l2, l3, l4, l5, l6, l7] (.int x :: st) M Q := wp_step rfl rfl rfl rfl rfl
theorem u30_11 : wp scr n mb_30 11 L (.int y :: o :: st) M Q ↔ mw_o (mm_ld (mc_X scr) M o y) (fun x => wp scr n mb_30 12 L (.int x :: st) M Q) := wp_iald rfl
theorem u30_12 : wp scr n mb_30 12 [l0, l1, l2, l3, l4, l5, l6, l7] (.int x :: st) M Q ↔ wp scr n mb_30 14 (mm_sto1 [l0, l1, l2, l3, l4, l5, l6, l7] 5 (.int x)) st M Q := wp_step rfl rfl rfl rfl rfl
theorem u30_14 : wp scr n mb_30 14 [l0, l1, some (.int x), l3, l4, l5, l6, l7] st M Q ↔ wp scr n mb_30 15 [l0, l1, some (.int x), l3, l4, l5, l6, l7] (.int x :: st) M Q := wp_step rfl rfl rfl rfl rfl
theorem u30_15 : wp scr n mb_30 15 L (.int x :: st) M Q ↔ (if x = 0 then wp scr n mb_30 25 L st M Q else wp scr n mb_30 18 L st M Q) := (wp_step rfl rfl rfl rfl rfl).trans wp_ite
theorem u30_18 : wp scr n mb_30 18 [some (.ref a), l1, l2, l3, l4, l5, l6, l7] st M Q ↔ wp scr n mb_30 19 [some (.ref a), l1, l2, l3, l4, l5, l6, l7] (.ref a :: st) M Q := wp_step rfl rfl rfl rfl rfl
theorem u30_19 : wp scr n mb_30 19 L (o :: st) M Q ↔ mw_o (mm_fld (mc_X scr) M o 1 1) (fun v => wp scr n mb_30 22 L (v :: st) M Q) := wp_getf rfl
theorem u30_22 : wp scr n mb_30 22 L st M Q ↔ wp scr n mb_30 29 L st M Q := wp_step rfl rfl rfl rfl rfl
theorem u30_25 : wp scr n mb_30 25 [some (.ref a), l1, l2, l3, l4, l5, l6, l7] st M Q ↔ wp scr n mb_30 26 [some (.ref a), l1, l2, l3, l4, l5, l6, l7] (.ref a :: st) M Q := wp_step rfl rfl rfl rfl rfl
theorem u30_26 : wp scr n mb_30 26 L (o :: st) M Q ↔ mw_o (mm_fld (mc_X scr) M o 1 0) (fun v => wp scr n mb_30 29 L (v :: st) M Q) := wp_getf rfl
theorem u30_29 : wp scr n mb_30 29 [l0, l1, l2, l3, l4, l5, l6, l7] (.ref a :: st) M Q ↔ wp scr n mb_30 31 (mm_sto1 [l0, l1, l2, l3, l4, l5, l6, l7] 6 (.ref a)) st M Q := wp_step rfl rfl rfl rfl rfl
theorem u30_31 : wp scr n mb_30 31 [l0, l1, some (.int x), l3, l4, l5, l6, l7] st M Q ↔ wp scr n mb_30 32 [l0, l1, some (.int x), l3, l4, l5, l6, l7] (.int x :: st) M Q := wp_step rfl rfl rfl rfl rfl
theorem u30_32 : wp scr n mb_30 32 L (.int x :: st) M Q ↔ (if x = 0 then wp scr n mb_30 42 L st M Q else wp scr n mb_30 35 L st M Q) := (wp_step rfl rfl rfl rfl rfl).trans wp_ite
theorem u30_35 : wp scr n mb_30 35 [some (.ref a), l1, l2, l3, l4, l5, l6, l7] st M Q ↔ wp scr n mb_30 36 [some (.ref a), l1, l2, l3, l4, l5, l6, l7] (.ref a :: st) M Q := wp_step rfl rfl rfl rfl rfl
theorem u30_36 : wp scr n mb_30 36 L (o :: st) M Q ↔ mw_o (mm_fld (mc_X scr) M o 1 0) (fun v => wp scr n mb_30 39 L (v :: st) M Q) := wp_getf rfl
theorem u30_39 : wp scr n mb_30 39 L st M Q ↔ wp scr n mb_30 46 L st M Q := wp_step rfl rfl rfl rfl rfl
theorem u30_42 : wp scr n mb_30 42 [some (.ref a), l1, l2, l3, l4, l5, l6, l7] st M Q ↔ wp scr n mb_30 43 [some (.ref a), l1, l2, l3, l4, l5, l6, l7] (.ref a :: st) M Q := wp_step rfl rfl rfl rfl rfl
theorem u30_43 : wp scr n mb_30 43 L (o :: st) M Q ↔ mw_o (mm_fld (mc_X scr) M o 1 1) (fun v => wp scr n mb_30 46 L (v :: st) M Q) := wp_getf rfl
theorem u30_46 : wp scr n mb_30 46 [l0, l1, l2, l3, l4, l5, l6, l7] (.ref a :: st) M Q ↔ wp scr n mb_30 48 (mm_sto1 [l0, l1, l2, l3, l4, l5, l6, l7] 7 (.ref a)) st M Q := wp_step rfl rfl rfl rfl rfl
theorem u30_48 : wp scr n mb_30 48 [l0, l1, l2, l3, l4, l5, l6, some (.ref a)] st M Q ↔ wp scr n mb_30 50 [l0, l1, l2, l3, l4, l5, l6, some (.ref a)] (.ref a :: st) M Q := wp_step rfl rfl rfl rfl rfl
theorem u30_50 : wp scr n mb_30 50 [l0, l1, l2, l3, some (.int x), l5, l6, l7] st M Q ↔ wp scr n mb_30 52 [l0, l1, l2, l3, some (.int x), l5, l6, l7] (.int x :: st) M Q := wp_step rfl rfl rfl rfl rfl
theorem u30_52 : wp scr n mb_30 52 L (.int y :: o :: st) M Q ↔ mw_o (mm_ld (mc_X scr) M o y) (fun x => wp scr n mb_30 53 L (.int x :: st) M Q) := wp_iald rfl
theorem u30_53 : wp scr n mb_30 53 [l0, l1, l2, l3, l4, l5, l6, some (.ref a)] st M Q ↔ wp scr n mb_30 55 [l0, l1, l2, l3, l4, l5, l6, some (.ref a)] (.ref a :: st) M Q := wp_step rfl rfl rfl rfl rfl
theorem u30_55 : wp scr n mb_30 55 [l0, l1, l2, l3, l4, some (.int x), l6, l7] st M Q ↔ wp scr n mb_30 57 [l0, l1, l2, l3, l4, some (.int x), l6, l7] (.int x :: st) M Q := wp_step rfl rfl rfl rfl rfl
theorem u30_57 : wp scr n mb_30 57 L (.int y :: o :: st) M Q ↔ mw_o (mm_ld (mc_X scr) M o y) (fun x => wp scr n mb_30 58 L (.int x :: st) M Q) := wp_iald rfl
theorem u30_58 : wp scr n mb_30 58 L (.int y :: .int x :: st) M Q ↔ (if x = y then wp scr n mb_30 61 L st M Q else wp scr n mb_30 101 L st M Q) := (wp_step rfl rfl rfl rfl rfl).trans wp_iten
theorem u30_61 : wp scr n mb_30 61 [l0, l1, l2, l3, l4, l5, some (.ref a), l7] st M Q ↔ wp scr n mb_30 63 [l0, l1, l2, l3, l4, l5, some (.ref a), l7] (.ref a :: st) M Q := wp_step rfl rfl rfl rfl rfl
theorem u30_63 : wp scr n mb_30 63 [l0, l1, l2, l3, some (.int x), l5, l6, l7] st M Q ↔ wp scr n mb_30 65 [l0, l1, l2, l3, some (.int x), l5, l6, l7] (.int x :: st) M Q := wp_step rfl rfl rfl rfl rfl
theorem u30_65 : wp scr n mb_30 65 L (.int y :: o :: st) M Q ↔ mw_o (mm_ld (mc_X scr) M o y) (fun x => wp scr n mb_30 66 L (.int x :: st) M Q) := wp_iald rfl
theorem u30_66 : wp scr n mb_30 66 [l0, l1, l2, l3, l4, l5, some (.ref a), l7] st M Q ↔ wp scr n mb_30 68 [l0, l1, l2, l3, l4, l5, some (.ref a), l7] (.ref a :: st) M Q := wp_step rfl rfl rfl rfl rfl
theorem u30_68 : wp scr n mb_30 68 [l0, l1, l2, l3, l4, some (.int x), l6, l7] st M Q ↔ wp scr n mb_30 70 [l0, l1, l2, l3, l4, some (.int x), l6, l7] (.int x :: st) M Q := wp_step rfl rfl rfl rfl rfl
theorem u30_70 : wp scr n mb_30 70 L (.int y :: o :: st) M Q ↔ mw_o (mm_ld (mc_X scr) M o y) (fun x => wp scr n mb_30 71 L (.int x :: st) M Q) := wp_iald rfl
theorem u30_71 : wp scr n mb_30 71 L (.int y :: .int x :: st) M Q ↔ (mw_st st ∧ wp scr n mb_30 74 L (.int (if y < x then y else x) :: st) M Q) := wp_math998 rfl
theorem u30_74 : wp scr n mb_30 74 [l0, l1, l2, some (.int x), l4, l5, l6, l7] st M Q ↔ wp scr n mb_30 75 [l0, l1, l2, some (.int x), l4, l5, l6, l7] (.int x :: st) M Q := wp_step rfl rfl rfl rfl rfl
theorem u30_75 : wp scr n mb_30 75 L st M Q ↔ wp scr n mb_30 76 L (.int 1 :: st) M Q := wp_step rfl rfl rfl rfl rfl
theorem u30_76 : wp scr n mb_30 76 L (.int y :: .int x :: st) M Q ↔ wp scr n mb_30 77 L (.int (x - y) :: st) M Q := wp_step rfl rfl rfl rfl rfl
theorem u30_77 : wp scr n mb_30 77 L (.int y :: .int x :: st) M Q ↔ (if x = y then wp scr n mb_30 80 L st M Q else wp scr n mb_30 101 L st M Q) := (wp_step rfl rfl rfl rfl rfl).trans wp_iten
theorem u30_80 : wp scr n mb_30 80 [l0, l1, l2, l3, l4, l5, some (.ref a), l7] st M Q ↔ wp scr n mb_30 82 [l0, l1, l2, l3, l4, l5, some (.ref a), l7] (.ref a :: st) M Q := wp_step rfl rfl rfl rfl rfl
theorem u30_82 : wp scr n mb_30 82 [l0, l1, l2, l3, some (.int x), l5, l6, l7] st M Q ↔ wp scr n mb_30 84 [l0, l1, l2, l3, some (.int x), l5, l6, l7] (.int x :: st) M Q := wp_step rfl rfl rfl rfl rfl
theorem u30_84 : wp scr n mb_30 84 L (.int y :: o :: st) M Q ↔ mw_o (mm_ld (mc_X scr) M o y) (fun x => wp scr n mb_30 85 L (.int x :: st) M Q) := wp_iald rfl
theorem u30_85 : wp scr n mb_30 85 [l0, l1, l2, l3, l4, l5, some (.ref a), l7] st M Q ↔ wp scr n mb_30 87 [l0, l1, l2, l3, l4, l5, some (.ref a), l7] (.ref a :: st) M Q := wp_step rfl rfl rfl rfl rfl
theorem u30_87 : wp scr n mb_30 87 [l0, l1, l2, l3, l4, some (.int x), l6, l7] st M Q ↔ wp scr n mb_30 89 [l0, l1, l2, l3, l4, some (.int x), l6, l7] (.int x :: st) M Q := wp_step rfl rfl rfl rfl rfl
theorem u30_89 : wp scr n mb_30 89 L (.int y :: o :: st) M Q ↔ mw_o (mm_ld (mc_X scr) M o y) (fun x => wp scr n mb_30 90 L (.int x :: st) M Q) := wp_iald rfl
theorem u30_90 : wp scr n mb_30 90 L (.int y :: .int x :: st) M Q ↔ (mw_st st ∧ wp scr n mb_30 93 L (.int (if x < y then y else x) :: st) M Q) := wp_math997 rfl
theorem u30_93 : wp scr n mb_30 93 [l0, l1, l2, some (.int x), l4, l5, l6, l7] st M Q ↔ wp scr n mb_30 94 [l0, l1, l2, some (.int x), l4, l5, l6, l7] (.int x :: st) M Q := wp_step rfl rfl rfl rfl rfl
theorem u30_94 : wp scr n mb_30 94 L (.int y :: .int x :: st) M Q ↔ (if x = y then wp scr n mb_30 97 L st M Q else wp scr n mb_30 101 L st M Q) := (wp_step rfl rfl rfl rfl rfl).trans wp_iten
theorem u30_97 : wp scr n mb_30 97 L st M Q ↔ wp scr n mb_30 98 L (.int 1 :: st) M Q := wp_step rfl rfl rfl rfl rfl
theorem u30_98 : wp scr n mb_30 98 L st M Q ↔ wp scr n mb_30 102 L st M Q := wp_step rfl rfl rfl rfl rfl
theorem u30_101 : wp scr n mb_30 101 L st M Q ↔ wp scr n mb_30 102 L (.int 0 :: st) M Q := wp_step rfl rfl rfl rfl rfl
theorem u30_102 : wp scr n mb_30 102 L [.int x] M Q ↔ ((x = 0 ∨ x = 1) ∧ Q (some (.int x)) M) := wp_retb rfl rfl
theorem e30 : Wp scr (n + 1) 30 [.ref a0, .int x1, .int x2, .int x3] M Q ↔ wp scr n mb_30 0 [some (.ref a0), some (.int x1), some (.int x2), some (.int x3), none, none, none, none] [] M Q := Wp_to rfl rfl rfl
/-- SmallerInTheShop$Layout isRead (I)Z -/
def mb_31 : mw_B := ((Option.some FieldType.boolean), mp_31)
theorem u31_0 : wp scr n mb_31 0 [some (.ref a), l1] st M Q ↔ wp scr n mb_31 1 [some (.ref a), l1] (.ref a :: st) M Q := wp_step rfl rfl rfl rfl rfl
theorem u31_1 : wp scr n mb_31 1 L (o :: st) M Q ↔ mw_o (mm_fld (mc_X scr) M o 1 3) (fun v => wp scr n mb_31 4 L (v :: st) M Q) := wp_getf rfl
theorem u31_4 : wp scr n mb_31 4 [l0, some (.int x)] st M Q ↔ wp scr n mb_31 5 [l0, some (.int x)] (.int x :: st) M Q := wp_step rfl rfl rfl rfl rfl
theorem u31_5 : wp scr n mb_31 5 L (.int y :: o :: st) M Q ↔ mw_o (mm_ld (mc_X scr) M o y) (fun x => wp scr n mb_31 6 L (.int x :: st) M Q) := wp_iald rfl
theorem u31_6 : wp scr n mb_31 6 L (.int x :: st) M Q ↔ (if x = 0 then wp scr n mb_31 9 L st M Q else wp scr n mb_31 25 L st M Q) := (wp_step rfl rfl rfl rfl rfl).trans wp_iten
theorem u31_9 : wp scr n mb_31 9 [some (.ref a), l1] st M Q ↔ wp scr n mb_31 10 [some (.ref a), l1] (.ref a :: st) M Q := wp_step rfl rfl rfl rfl rfl
theorem u31_10 : wp scr n mb_31 10 [l0, some (.int x)] st M Q ↔ wp scr n mb_31 11 [l0, some (.int x)] (.int x :: st) M Q := wp_step rfl rfl rfl rfl rfl
theorem u31_11 : wp scr n mb_31 11 L (a2 :: .ref a :: st) M Q ↔ ((mw_r M a 1 ∧ mw_st st) ∧ Wp scr n 32 [.ref a, a2] M (fun r1 M1 => wp scr n mb_31 14 L (r1.toList ++ st) M1 Q)) := wp_vir rfl rfl rfl rfl rfl
theorem u31_14 : wp scr n mb_31 14 L (.int x :: st) M Q ↔ (if x = 0 then wp scr n mb_31 17 L st M Q else wp scr n mb_31 21 L st M Q) := (wp_step rfl rfl rfl rfl rfl).trans wp_iten
theorem u31_17 : wp scr n mb_31 17 L st M Q ↔ wp scr n mb_31 18 L (.int 1 :: st) M Q := wp_step rfl rfl rfl rfl rfl
theorem u31_18 : wp scr n mb_31 18 L st M Q ↔ wp scr n mb_31 39 L st M Q := wp_step rfl rfl rfl rfl rfl
theorem u31_21 : wp scr n mb_31 21 L st M Q ↔ wp scr n mb_31 22 L (.int 0 :: st) M Q := wp_step rfl rfl rfl rfl rfl
theorem u31_22 : wp scr n mb_31 22 L st M Q ↔ wp scr n mb_31 39 L st M Q := wp_step rfl rfl rfl rfl rfl
theorem u31_25 : wp scr n mb_31 25 [some (.ref a), l1] st M Q ↔ wp scr n mb_31 26 [some (.ref a), l1] (.ref a :: st) M Q := wp_step rfl rfl rfl rfl rfl
theorem u31_26 : wp scr n mb_31 26 L (o :: st) M Q ↔ mw_o (mm_fld (mc_X scr) M o 1 2) (fun v => wp scr n mb_31 29 L (v :: st) M Q) := wp_getf rfl
theorem u31_29 : wp scr n mb_31 29 [l0, some (.int x)] st M Q ↔ wp scr n mb_31 30 [l0, some (.int x)] (.int x :: st) M Q := wp_step rfl rfl rfl rfl rfl
theorem u31_30 : wp scr n mb_31 30 L (.int y :: o :: st) M Q ↔ mw_o (mm_ld (mc_X scr) M o y) (fun x => wp scr n mb_31 31 L (.int x :: st) M Q) := wp_iald rfl
theorem u31_31 : wp scr n mb_31 31 L (.int x :: st) M Q ↔ (if x = 0 then wp scr n mb_31 34 L st M Q else wp scr n mb_31 38 L st M Q) := (wp_step rfl rfl rfl rfl rfl).trans wp_iten
theorem u31_34 : wp scr n mb_31 34 L st M Q ↔ wp scr n mb_31 35 L (.int 1 :: st) M Q := wp_step rfl rfl rfl rfl rfl
theorem u31_35 : wp scr n mb_31 35 L st M Q ↔ wp scr n mb_31 39 L st M Q := wp_step rfl rfl rfl rfl rfl
theorem u31_38 : wp scr n mb_31 38 L st M Q ↔ wp scr n mb_31 39 L (.int 0 :: st) M Q := wp_step rfl rfl rfl rfl rfl
theorem u31_39 : wp scr n mb_31 39 L [.int x] M Q ↔ ((x = 0 ∨ x = 1) ∧ Q (some (.int x)) M) := wp_retb rfl rfl
theorem e31 : Wp scr (n + 1) 31 [.ref a0, .int x1] M Q ↔ wp scr n mb_31 0 [some (.ref a0), some (.int x1)] [] M Q := Wp_to rfl rfl rfl
/-- SmallerInTheShop$Layout countAbove (I)I -/
def mb_32 : mw_B := ((Option.some FieldType.int), mp_32)
theorem u32_0 : wp scr n mb_32 0 [some (.ref a), l1] st M Q ↔ wp scr n mb_32 1 [some (.ref a), l1] (.ref a :: st) M Q := wp_step rfl rfl rfl rfl rfl
theorem u32_1 : wp scr n mb_32 1 L (o :: st) M Q ↔ mw_o (mm_fld (mc_X scr) M o 1 5) (fun v => wp scr n mb_32 4 L (v :: st) M Q) := wp_getf rfl
theorem u32_4 : wp scr n mb_32 4 [some (.ref a), l1] st M Q ↔ wp scr n mb_32 5 [some (.ref a), l1] (.ref a :: st) M Q := wp_step rfl rfl rfl rfl rfl
theorem u32_5 : wp scr n mb_32 5 [l0, some (.int x)] st M Q ↔ wp scr n mb_32 6 [l0, some (.int x)] (.int x :: st) M Q := wp_step rfl rfl rfl rfl rfl
theorem u32_6 : wp scr n mb_32 6 L (a2 :: .ref a :: st) M Q ↔ ((mw_r M a 1 ∧ mw_st st) ∧ Wp scr n 28 [.ref a, a2] M (fun r1 M1 => wp scr n mb_32 9 L (r1.toList ++ st) M1 Q)) := wp_vir rfl rfl rfl rfl rfl
theorem u32_9 : wp scr n mb_32 9 L (.int y :: o :: st) M Q ↔ mw_o (mm_ld (mc_X scr) M o y) (fun x => wp scr n mb_32 10 L (.int x :: st) M Q) := wp_iald rfl
theorem u32_10 : wp scr n mb_32 10 L st M Q ↔ wp scr n mb_32 11 L (.int 1 :: st) M Q := wp_step rfl rfl rfl rfl rfl
theorem u32_11 : wp scr n mb_32 11 L (.int y :: .int x :: st) M Q ↔ wp scr n mb_32 12 L (.int (x - y) :: st) M Q := wp_step rfl rfl rfl rfl rfl
theorem u32_12 : wp scr n mb_32 12 [some (.ref a), l1] st M Q ↔ wp scr n mb_32 13 [some (.ref a), l1] (.ref a :: st) M Q := wp_step rfl rfl rfl rfl rfl
theorem u32_13 : wp scr n mb_32 13 L (o :: st) M Q ↔ mw_o (mm_fld (mc_X scr) M o 1 2) (fun v => wp scr n mb_32 16 L (v :: st) M Q) := wp_getf rfl
theorem u32_16 : wp scr n mb_32 16 [l0, some (.int x)] st M Q ↔ wp scr n mb_32 17 [l0, some (.int x)] (.int x :: st) M Q := wp_step rfl rfl rfl rfl rfl
theorem u32_17 : wp scr n mb_32 17 L (.int y :: o :: st) M Q ↔ mw_o (mm_ld (mc_X scr) M o y) (fun x => wp scr n mb_32 18 L (.int x :: st) M Q) := wp_iald rfl
theorem u32_18 : wp scr n mb_32 18 L (.int y :: .int x :: st) M Q ↔ wp scr n mb_32 19 L (.int (x - y) :: st) M Q := wp_step rfl rfl rfl rfl rfl
theorem u32_19 : wp scr n mb_32 19 L [.int x] M Q ↔ Q (some (.int x)) M := wp_ret rfl rfl
theorem e32 : Wp scr (n + 1) 32 [.ref a0, .int x1] M Q ↔ wp scr n mb_32 0 [some (.ref a0), some (.int x1)] [] M Q := Wp_to rfl rfl rfl
/-- SmallerInTheShop$Layout liesAbove (II)Z -/
def mb_33 : mw_B := ((Option.some FieldType.boolean), mp_33)
theorem u33_0 : wp scr n mb_33 0 [some (.ref a), l1, l2] st M Q ↔ wp scr n mb_33 1 [some (.ref a), l1, l2] (.ref a :: st) M Q := wp_step rfl rfl rfl rfl rfl
theorem u33_1 : wp scr n mb_33 1 [l0, some (.int x), l2] st M Q ↔ wp scr n mb_33 2 [l0, some (.int x), l2] (.int x :: st) M Q := wp_step rfl rfl rfl rfl rfl
theorem u33_2 : wp scr n mb_33 2 L (a2 :: .ref a :: st) M Q ↔ ((mw_r M a 1 ∧ mw_st st) ∧ Wp scr n 28 [.ref a, a2] M (fun r1 M1 => wp scr n mb_33 5 L (r1.toList ++ st) M1 Q)) := wp_vir rfl rfl rfl rfl rfl
theorem u33_5 : wp scr n mb_33 5 [some (.ref a), l1, l2] st M Q ↔ wp scr n mb_33 6 [some (.ref a), l1, l2] (.ref a :: st) M Q := wp_step rfl rfl rfl rfl rfl
theorem u33_6 : wp scr n mb_33 6 [l0, l1, some (.int x)] st M Q ↔ wp scr n mb_33 7 [l0, l1, some (.int x)] (.int x :: st) M Q := wp_step rfl rfl rfl rfl rfl
theorem u33_7 : wp scr n mb_33 7 L (a2 :: .ref a :: st) M Q ↔ ((mw_r M a 1 ∧ mw_st st) ∧ Wp scr n 28 [.ref a, a2] M (fun r1 M1 => wp scr n mb_33 10 L (r1.toList ++ st) M1 Q)) := wp_vir rfl rfl rfl rfl rfl
theorem u33_10 : wp scr n mb_33 10 L (.int y :: .int x :: st) M Q ↔ (if x = y then wp scr n mb_33 13 L st M Q else wp scr n mb_33 32 L st M Q) := (wp_step rfl rfl rfl rfl rfl).trans wp_iten
theorem u33_13 : wp scr n mb_33 13 [some (.ref a), l1, l2] st M Q ↔ wp scr n mb_33 14 [some (.ref a), l1, l2] (.ref a :: st) M Q := wp_step rfl rfl rfl rfl rfl
theorem u33_14 : wp scr n mb_33 14 L (o :: st) M Q ↔ mw_o (mm_fld (mc_X scr) M o 1 2) (fun v => wp scr n mb_33 17 L (v :: st) M Q) := wp_getf rfl
theorem u33_17 : wp scr n mb_33 17 [l0, some (.int x), l2] st M Q ↔ wp scr n mb_33 18 [l0, some (.int x), l2] (.int x :: st) M Q := wp_step rfl rfl rfl rfl rfl
theorem u33_18 : wp scr n mb_33 18 L (.int y :: o :: st) M Q ↔ mw_o (mm_ld (mc_X scr) M o y) (fun x => wp scr n mb_33 19 L (.int x :: st) M Q) := wp_iald rfl
theorem u33_19 : wp scr n mb_33 19 [some (.ref a), l1, l2] st M Q ↔ wp scr n mb_33 20 [some (.ref a), l1, l2] (.ref a :: st) M Q := wp_step rfl rfl rfl rfl rfl
theorem u33_20 : wp scr n mb_33 20 L (o :: st) M Q ↔ mw_o (mm_fld (mc_X scr) M o 1 2) (fun v => wp scr n mb_33 23 L (v :: st) M Q) := wp_getf rfl
theorem u33_23 : wp scr n mb_33 23 [l0, l1, some (.int x)] st M Q ↔ wp scr n mb_33 24 [l0, l1, some (.int x)] (.int x :: st) M Q := wp_step rfl rfl rfl rfl rfl
theorem u33_24 : wp scr n mb_33 24 L (.int y :: o :: st) M Q ↔ mw_o (mm_ld (mc_X scr) M o y) (fun x => wp scr n mb_33 25 L (.int x :: st) M Q) := wp_iald rfl
theorem u33_25 : wp scr n mb_33 25 L (.int y :: .int x :: st) M Q ↔ (if x ≤ y then wp scr n mb_33 32 L st M Q else wp scr n mb_33 28 L st M Q) := (wp_step rfl rfl rfl rfl rfl).trans wp_ite
theorem u33_28 : wp scr n mb_33 28 L st M Q ↔ wp scr n mb_33 29 L (.int 1 :: st) M Q := wp_step rfl rfl rfl rfl rfl
theorem u33_29 : wp scr n mb_33 29 L st M Q ↔ wp scr n mb_33 33 L st M Q := wp_step rfl rfl rfl rfl rfl
theorem u33_32 : wp scr n mb_33 32 L st M Q ↔ wp scr n mb_33 33 L (.int 0 :: st) M Q := wp_step rfl rfl rfl rfl rfl
theorem u33_33 : wp scr n mb_33 33 L [.int x] M Q ↔ ((x = 0 ∨ x = 1) ∧ Q (some (.int x)) M) := wp_retb rfl rfl
theorem e33 : Wp scr (n + 1) 33 [.ref a0, .int x1, .int x2] M Q ↔ wp scr n mb_33 0 [some (.ref a0), some (.int x1), some (.int x2)] [] M Q := Wp_to rfl rfl rfl
/-- SmallerInTheShop$Layout thickness ()I -/
def mb_34 : mw_B := ((Option.some FieldType.int), mp_34)
theorem u34_0 : wp scr n mb_34 0 L st M Q ↔ wp scr n mb_34 1 L (.int 0 :: st) M Q := wp_step rfl rfl rfl rfl rfl
theorem u34_1 : wp scr n mb_34 1 [l0, l1, l2] (.int x :: st) M Q ↔ wp scr n mb_34 2 (mm_sto1 [l0, l1, l2] 1 (.int x)) st M Q := wp_step rfl rfl rfl rfl rfl
theorem u34_2 : wp scr n mb_34 2 L st M Q ↔ wp scr n mb_34 3 L (.int 0 :: st) M Q := wp_step rfl rfl rfl rfl rfl
theorem u34_3 : wp scr n mb_34 3 [l0, l1, l2] (.int x :: st) M Q ↔ wp scr n mb_34 4 (mm_sto1 [l0, l1, l2] 2 (.int x)) st M Q := wp_step rfl rfl rfl rfl rfl
theorem u34_4 : wp scr n mb_34 4 [l0, l1, some (.int x)] st M Q ↔ wp scr n mb_34 5 [l0, l1, some (.int x)] (.int x :: st) M Q := wp_step rfl rfl rfl rfl rfl
theorem u34_5 : wp scr n mb_34 5 L st M Q ↔ wp scr n mb_34 7 L (.int 8 :: st) M Q := wp_step rfl rfl rfl rfl rfl
theorem u34_7 : wp scr n mb_34 7 L (.int y :: .int x :: st) M Q ↔ (if y ≤ x then wp scr n mb_34 27 L st M Q else wp scr n mb_34 10 L st M Q) := (wp_step rfl rfl rfl rfl rfl).trans wp_ite
theorem u34_10 : wp scr n mb_34 10 [l0, some (.int x), l2] st M Q ↔ wp scr n mb_34 11 [l0, some (.int x), l2] (.int x :: st) M Q := wp_step rfl rfl rfl rfl rfl
theorem u34_11 : wp scr n mb_34 11 [some (.ref a), l1, l2] st M Q ↔ wp scr n mb_34 12 [some (.ref a), l1, l2] (.ref a :: st) M Q := wp_step rfl rfl rfl rfl rfl
theorem u34_12 : wp scr n mb_34 12 L (o :: st) M Q ↔ mw_o (mm_fld (mc_X scr) M o 1 5) (fun v => wp scr n mb_34 15 L (v :: st) M Q) := wp_getf rfl
theorem u34_15 : wp scr n mb_34 15 [l0, l1, some (.int x)] st M Q ↔ wp scr n mb_34 16 [l0, l1, some (.int x)] (.int x :: st) M Q := wp_step rfl rfl rfl rfl rfl
theorem u34_16 : wp scr n mb_34 16 L (.int y :: o :: st) M Q ↔ mw_o (mm_ld (mc_X scr) M o y) (fun x => wp scr n mb_34 17 L (.int x :: st) M Q) := wp_iald rfl
theorem u34_17 : wp scr n mb_34 17 L (.int y :: .int x :: st) M Q ↔ (mw_st st ∧ wp scr n mb_34 20 L (.int (if x < y then y else x) :: st) M Q) := wp_math997 rfl
theorem u34_20 : wp scr n mb_34 20 [l0, l1, l2] (.int x :: st) M Q ↔ wp scr n mb_34 21 (mm_sto1 [l0, l1, l2] 1 (.int x)) st M Q := wp_step rfl rfl rfl rfl rfl
theorem u34_21 : wp scr n mb_34 21 [l0, l1, some (.int x)] st M Q ↔ wp scr n mb_34 24 (mm_sto1 [l0, l1, some (.int x)] 2 (.int (x + 1))) st M Q := wp_step rfl rfl rfl rfl rfl
theorem u34_24 : wp scr n mb_34 24 L st M Q ↔ wp scr n mb_34 4 L st M Q := wp_step rfl rfl rfl rfl rfl
theorem u34_27 : wp scr n mb_34 27 [l0, some (.int x), l2] st M Q ↔ wp scr n mb_34 28 [l0, some (.int x), l2] (.int x :: st) M Q := wp_step rfl rfl rfl rfl rfl
theorem u34_28 : wp scr n mb_34 28 L [.int x] M Q ↔ Q (some (.int x)) M := wp_ret rfl rfl
theorem e34 : Wp scr (n + 1) 34 [.ref a0] M Q ↔ wp scr n mb_34 0 [some (.ref a0), none, none] [] M Q := Wp_to rfl rfl rfl
/-- SmallerInTheShop$Layout readPanels ()I -/
def mb_35 : mw_B := ((Option.some FieldType.int), mp_35)
theorem u35_0 : wp scr n mb_35 0 L st M Q ↔ wp scr n mb_35 1 L (.int 0 :: st) M Q := wp_step rfl rfl rfl rfl rfl
theorem u35_1 : wp scr n mb_35 1 [l0, l1, l2] (.int x :: st) M Q ↔ wp scr n mb_35 2 (mm_sto1 [l0, l1, l2] 1 (.int x)) st M Q := wp_step rfl rfl rfl rfl rfl
theorem u35_2 : wp scr n mb_35 2 L st M Q ↔ wp scr n mb_35 3 L (.int 0 :: st) M Q := wp_step rfl rfl rfl rfl rfl
theorem u35_3 : wp scr n mb_35 3 [l0, l1, l2] (.int x :: st) M Q ↔ wp scr n mb_35 4 (mm_sto1 [l0, l1, l2] 2 (.int x)) st M Q := wp_step rfl rfl rfl rfl rfl
theorem u35_4 : wp scr n mb_35 4 [l0, l1, some (.int x)] st M Q ↔ wp scr n mb_35 5 [l0, l1, some (.int x)] (.int x :: st) M Q := wp_step rfl rfl rfl rfl rfl
theorem u35_5 : wp scr n mb_35 5 L st M Q ↔ wp scr n mb_35 7 L (.int 8 :: st) M Q := wp_step rfl rfl rfl rfl rfl
theorem u35_7 : wp scr n mb_35 7 L (.int y :: .int x :: st) M Q ↔ (if y ≤ x then wp scr n mb_35 30 L st M Q else wp scr n mb_35 10 L st M Q) := (wp_step rfl rfl rfl rfl rfl).trans wp_ite
theorem u35_10 : wp scr n mb_35 10 [some (.ref a), l1, l2] st M Q ↔ wp scr n mb_35 11 [some (.ref a), l1, l2] (.ref a :: st) M Q := wp_step rfl rfl rfl rfl rfl
theorem u35_11 : wp scr n mb_35 11 [l0, l1, some (.int x)] st M Q ↔ wp scr n mb_35 12 [l0, l1, some (.int x)] (.int x :: st) M Q := wp_step rfl rfl rfl rfl rfl
theorem u35_12 : wp scr n mb_35 12 L (a2 :: .ref a :: st) M Q ↔ ((mw_r M a 1 ∧ mw_st st) ∧ Wp scr n 31 [.ref a, a2] M (fun r1 M1 => wp scr n mb_35 15 L (r1.toList ++ st) M1 Q)) := wp_vir rfl rfl rfl rfl rfl
theorem u35_15 : wp scr n mb_35 15 L (.int x :: st) M Q ↔ (if x = 0 then wp scr n mb_35 24 L st M Q else wp scr n mb_35 18 L st M Q) := (wp_step rfl rfl rfl rfl rfl).trans wp_ite
theorem u35_18 : wp scr n mb_35 18 [l0, some (.int x), l2] st M Q ↔ wp scr n mb_35 19 [l0, some (.int x), l2] (.int x :: st) M Q := wp_step rfl rfl rfl rfl rfl
theorem u35_19 : wp scr n mb_35 19 L st M Q ↔ wp scr n mb_35 20 L (.int 1 :: st) M Q := wp_step rfl rfl rfl rfl rfl
theorem u35_20 : wp scr n mb_35 20 [l0, l1, some (.int x)] st M Q ↔ wp scr n mb_35 21 [l0, l1, some (.int x)] (.int x :: st) M Q := wp_step rfl rfl rfl rfl rfl
theorem u35_21 : wp scr n mb_35 21 L (.int y :: .int x :: st) M Q ↔ wp scr n mb_35 22 L (.int (x <<< (y &&& 31)) :: st) M Q := wp_step rfl rfl rfl rfl rfl
theorem u35_22 : wp scr n mb_35 22 L (.int y :: .int x :: st) M Q ↔ wp scr n mb_35 23 L (.int (x ||| y) :: st) M Q := wp_step rfl rfl rfl rfl rfl
theorem u35_23 : wp scr n mb_35 23 [l0, l1, l2] (.int x :: st) M Q ↔ wp scr n mb_35 24 (mm_sto1 [l0, l1, l2] 1 (.int x)) st M Q := wp_step rfl rfl rfl rfl rfl
theorem u35_24 : wp scr n mb_35 24 [l0, l1, some (.int x)] st M Q ↔ wp scr n mb_35 27 (mm_sto1 [l0, l1, some (.int x)] 2 (.int (x + 1))) st M Q := wp_step rfl rfl rfl rfl rfl
theorem u35_27 : wp scr n mb_35 27 L st M Q ↔ wp scr n mb_35 4 L st M Q := wp_step rfl rfl rfl rfl rfl
theorem u35_30 : wp scr n mb_35 30 [l0, some (.int x), l2] st M Q ↔ wp scr n mb_35 31 [l0, some (.int x), l2] (.int x :: st) M Q := wp_step rfl rfl rfl rfl rfl
theorem u35_31 : wp scr n mb_35 31 L [.int x] M Q ↔ Q (some (.int x)) M := wp_ret rfl rfl
theorem e35 : Wp scr (n + 1) 35 [.ref a0] M Q ↔ wp scr n mb_35 0 [some (.ref a0), none, none] [] M Q := Wp_to rfl rfl rfl
/-- SmallerInTheShop$Layout showsBack (I)Z -/
def mb_36 : mw_B := ((Option.some FieldType.boolean), mp_36)
theorem u36_0 : wp scr n mb_36 0 [some (.ref a), l1] st M Q ↔ wp scr n mb_36 1 [some (.ref a), l1] (.ref a :: st) M Q := wp_step rfl rfl rfl rfl rfl
theorem u36_1 : wp scr n mb_36 1 L (o :: st) M Q ↔ mw_o (mm_fld (mc_X scr) M o 1 3) (fun v => wp scr n mb_36 4 L (v :: st) M Q) := wp_getf rfl
theorem u36_4 : wp scr n mb_36 4 [l0, some (.int x)] st M Q ↔ wp scr n mb_36 5 [l0, some (.int x)] (.int x :: st) M Q := wp_step rfl rfl rfl rfl rfl
theorem u36_5 : wp scr n mb_36 5 L (.int y :: o :: st) M Q ↔ mw_o (mm_ld (mc_X scr) M o y) (fun x => wp scr n mb_36 6 L (.int x :: st) M Q) := wp_iald rfl
theorem u36_6 : wp scr n mb_36 6 L (.int x :: st) M Q ↔ (if x = 0 then wp scr n mb_36 9 L st M Q else wp scr n mb_36 26 L st M Q) := (wp_step rfl rfl rfl rfl rfl).trans wp_iten
theorem u36_9 : wp scr n mb_36 9 [some (.ref a), l1] st M Q ↔ wp scr n mb_36 10 [some (.ref a), l1] (.ref a :: st) M Q := wp_step rfl rfl rfl rfl rfl
theorem u36_10 : wp scr n mb_36 10 L (o :: st) M Q ↔ mw_o (mm_fld (mc_X scr) M o 1 2) (fun v => wp scr n mb_36 13 L (v :: st) M Q) := wp_getf rfl
theorem u36_13 : wp scr n mb_36 13 [l0, some (.int x)] st M Q ↔ wp scr n mb_36 14 [l0, some (.int x)] (.int x :: st) M Q := wp_step rfl rfl rfl rfl rfl
theorem u36_14 : wp scr n mb_36 14 L (.int y :: o :: st) M Q ↔ mw_o (mm_ld (mc_X scr) M o y) (fun x => wp scr n mb_36 15 L (.int x :: st) M Q) := wp_iald rfl
theorem u36_15 : wp scr n mb_36 15 L (.int x :: st) M Q ↔ (if x = 0 then wp scr n mb_36 18 L st M Q else wp scr n mb_36 22 L st M Q) := (wp_step rfl rfl rfl rfl rfl).trans wp_iten
theorem u36_18 : wp scr n mb_36 18 L st M Q ↔ wp scr n mb_36 19 L (.int 1 :: st) M Q := wp_step rfl rfl rfl rfl rfl
theorem u36_19 : wp scr n mb_36 19 L st M Q ↔ wp scr n mb_36 39 L st M Q := wp_step rfl rfl rfl rfl rfl
theorem u36_22 : wp scr n mb_36 22 L st M Q ↔ wp scr n mb_36 23 L (.int 0 :: st) M Q := wp_step rfl rfl rfl rfl rfl
theorem u36_23 : wp scr n mb_36 23 L st M Q ↔ wp scr n mb_36 39 L st M Q := wp_step rfl rfl rfl rfl rfl
theorem u36_26 : wp scr n mb_36 26 [some (.ref a), l1] st M Q ↔ wp scr n mb_36 27 [some (.ref a), l1] (.ref a :: st) M Q := wp_step rfl rfl rfl rfl rfl
theorem u36_27 : wp scr n mb_36 27 [l0, some (.int x)] st M Q ↔ wp scr n mb_36 28 [l0, some (.int x)] (.int x :: st) M Q := wp_step rfl rfl rfl rfl rfl
theorem u36_28 : wp scr n mb_36 28 L (a2 :: .ref a :: st) M Q ↔ ((mw_r M a 1 ∧ mw_st st) ∧ Wp scr n 32 [.ref a, a2] M (fun r1 M1 => wp scr n mb_36 31 L (r1.toList ++ st) M1 Q)) := wp_vir rfl rfl rfl rfl rfl
theorem u36_31 : wp scr n mb_36 31 L (.int x :: st) M Q ↔ (if x = 0 then wp scr n mb_36 34 L st M Q else wp scr n mb_36 38 L st M Q) := (wp_step rfl rfl rfl rfl rfl).trans wp_iten
theorem u36_34 : wp scr n mb_36 34 L st M Q ↔ wp scr n mb_36 35 L (.int 1 :: st) M Q := wp_step rfl rfl rfl rfl rfl
theorem u36_35 : wp scr n mb_36 35 L st M Q ↔ wp scr n mb_36 39 L st M Q := wp_step rfl rfl rfl rfl rfl
theorem u36_38 : wp scr n mb_36 38 L st M Q ↔ wp scr n mb_36 39 L (.int 0 :: st) M Q := wp_step rfl rfl rfl rfl rfl
theorem u36_39 : wp scr n mb_36 39 L [.int x] M Q ↔ ((x = 0 ∨ x = 1) ∧ Q (some (.int x)) M) := wp_retb rfl rfl
theorem e36 : Wp scr (n + 1) 36 [.ref a0, .int x1] M Q ↔ wp scr n mb_36 0 [some (.ref a0), some (.int x1)] [] M Q := Wp_to rfl rfl rfl
/-- SmallerInTheShop$Layout foldedCreases ()I -/
def mb_37 : mw_B := ((Option.some FieldType.int), mp_37)
theorem u37_0 : wp scr n mb_37 0 L st M Q ↔ wp scr n mb_37 1 L (.int 0 :: st) M Q := wp_step rfl rfl rfl rfl rfl
theorem u37_1 : wp scr n mb_37 1 [l0, l1, l2] (.int x :: st) M Q ↔ wp scr n mb_37 2 (mm_sto1 [l0, l1, l2] 1 (.int x)) st M Q := wp_step rfl rfl rfl rfl rfl
theorem u37_2 : wp scr n mb_37 2 L st M Q ↔ wp scr n mb_37 3 L (.int 0 :: st) M Q := wp_step rfl rfl rfl rfl rfl
theorem u37_3 : wp scr n mb_37 3 [l0, l1, l2] (.int x :: st) M Q ↔ wp scr n mb_37 4 (mm_sto1 [l0, l1, l2] 2 (.int x)) st M Q := wp_step rfl rfl rfl rfl rfl
theorem u37_4 : wp scr n mb_37 4 [l0, l1, some (.int x)] st M Q ↔ wp scr n mb_37 5 [l0, l1, some (.int x)] (.int x :: st) M Q := wp_step rfl rfl rfl rfl rfl
theorem u37_5 : wp scr n mb_37 5 L st M Q ↔ wp scr n mb_37 7 L (.int 10 :: st) M Q := wp_step rfl rfl rfl rfl rfl
theorem u37_7 : wp scr n mb_37 7 L (.int y :: .int x :: st) M Q ↔ (if y ≤ x then wp scr n mb_37 31 L st M Q else wp scr n mb_37 10 L st M Q) := (wp_step rfl rfl rfl rfl rfl).trans wp_ite
theorem u37_10 : wp scr n mb_37 10 [some (.ref a), l1, l2] st M Q ↔ wp scr n mb_37 11 [some (.ref a), l1, l2] (.ref a :: st) M Q := wp_step rfl rfl rfl rfl rfl
theorem u37_11 : wp scr n mb_37 11 L (o :: st) M Q ↔ mw_o (mm_fld (mc_X scr) M o 1 4) (fun v => wp scr n mb_37 14 L (v :: st) M Q) := wp_getf rfl
theorem u37_14 : wp scr n mb_37 14 [l0, l1, some (.int x)] st M Q ↔ wp scr n mb_37 15 [l0, l1, some (.int x)] (.int x :: st) M Q := wp_step rfl rfl rfl rfl rfl
theorem u37_15 : wp scr n mb_37 15 L (.int y :: o :: st) M Q ↔ mw_o (mm_ld (mc_X scr) M o y) (fun x => wp scr n mb_37 16 L (.int x :: st) M Q) := wp_iald rfl
theorem u37_16 : wp scr n mb_37 16 L (.int x :: st) M Q ↔ (if x = 0 then wp scr n mb_37 25 L st M Q else wp scr n mb_37 19 L st M Q) := (wp_step rfl rfl rfl rfl rfl).trans wp_ite
theorem u37_19 : wp scr n mb_37 19 [l0, some (.int x), l2] st M Q ↔ wp scr n mb_37 20 [l0, some (.int x), l2] (.int x :: st) M Q := wp_step rfl rfl rfl rfl rfl
theorem u37_20 : wp scr n mb_37 20 L st M Q ↔ wp scr n mb_37 21 L (.int 1 :: st) M Q := wp_step rfl rfl rfl rfl rfl
theorem u37_21 : wp scr n mb_37 21 [l0, l1, some (.int x)] st M Q ↔ wp scr n mb_37 22 [l0, l1, some (.int x)] (.int x :: st) M Q := wp_step rfl rfl rfl rfl rfl
theorem u37_22 : wp scr n mb_37 22 L (.int y :: .int x :: st) M Q ↔ wp scr n mb_37 23 L (.int (x <<< (y &&& 31)) :: st) M Q := wp_step rfl rfl rfl rfl rfl
theorem u37_23 : wp scr n mb_37 23 L (.int y :: .int x :: st) M Q ↔ wp scr n mb_37 24 L (.int (x ||| y) :: st) M Q := wp_step rfl rfl rfl rfl rfl
theorem u37_24 : wp scr n mb_37 24 [l0, l1, l2] (.int x :: st) M Q ↔ wp scr n mb_37 25 (mm_sto1 [l0, l1, l2] 1 (.int x)) st M Q := wp_step rfl rfl rfl rfl rfl
theorem u37_25 : wp scr n mb_37 25 [l0, l1, some (.int x)] st M Q ↔ wp scr n mb_37 28 (mm_sto1 [l0, l1, some (.int x)] 2 (.int (x + 1))) st M Q := wp_step rfl rfl rfl rfl rfl
theorem u37_28 : wp scr n mb_37 28 L st M Q ↔ wp scr n mb_37 4 L st M Q := wp_step rfl rfl rfl rfl rfl
theorem u37_31 : wp scr n mb_37 31 [l0, some (.int x), l2] st M Q ↔ wp scr n mb_37 32 [l0, some (.int x), l2] (.int x :: st) M Q := wp_step rfl rfl rfl rfl rfl
theorem u37_32 : wp scr n mb_37 32 L [.int x] M Q ↔ Q (some (.int x)) M := wp_ret rfl rfl
theorem e37 : Wp scr (n + 1) 37 [.ref a0] M Q ↔ wp scr n mb_37 0 [some (.ref a0), none, none] [] M Q := Wp_to rfl rfl rfl
/-- SmallerInTheShop$Layout cells ()I -/
def mb_38 : mw_B := ((Option.some FieldType.int), mp_38)
theorem u38_0 : wp scr n mb_38 0 [some (.ref a)] st M Q ↔ wp scr n mb_38 1 [some (.ref a)] (.ref a :: st) M Q := wp_step rfl rfl rfl rfl rfl
theorem u38_1 : wp scr n mb_38 1 L (o :: st) M Q ↔ mw_o (mm_fld (mc_X scr) M o 1 6) (fun v => wp scr n mb_38 4 L (v :: st) M Q) := wp_getf rfl
theorem u38_4 : wp scr n mb_38 4 [some (.ref a)] st M Q ↔ wp scr n mb_38 5 [some (.ref a)] (.ref a :: st) M Q := wp_step rfl rfl rfl rfl rfl
theorem u38_5 : wp scr n mb_38 5 L (o :: st) M Q ↔ mw_o (mm_fld (mc_X scr) M o 1 7) (fun v => wp scr n mb_38 8 L (v :: st) M Q) := wp_getf rfl
theorem u38_8 : wp scr n mb_38 8 L (.int y :: .int x :: st) M Q ↔ wp scr n mb_38 9 L (.int (x * y) :: st) M Q := wp_step rfl rfl rfl rfl rfl
theorem u38_9 : wp scr n mb_38 9 L [.int x] M Q ↔ Q (some (.int x)) M := wp_ret rfl rfl
theorem e38 : Wp scr (n + 1) 38 [.ref a0] M Q ↔ wp scr n mb_38 0 [some (.ref a0)] [] M Q := Wp_to rfl rfl rfl
/-- SmallerInTheShop$Layout isShut ()Z -/
def mb_39 : mw_B := ((Option.some FieldType.boolean), mp_39)
theorem u39_0 : wp scr n mb_39 0 [some (.ref a)] st M Q ↔ wp scr n mb_39 1 [some (.ref a)] (.ref a :: st) M Q := wp_step rfl rfl rfl rfl rfl
theorem u39_1 : wp scr n mb_39 1 L (o :: st) M Q ↔ mw_o (mm_fld (mc_X scr) M o 1 6) (fun v => wp scr n mb_39 4 L (v :: st) M Q) := wp_getf rfl
theorem u39_4 : wp scr n mb_39 4 L st M Q ↔ wp scr n mb_39 5 L (.int 1 :: st) M Q := wp_step rfl rfl rfl rfl rfl
theorem u39_5 : wp scr n mb_39 5 L (.int y :: .int x :: st) M Q ↔ (if x = y then wp scr n mb_39 8 L st M Q else wp scr n mb_39 20 L st M Q) := (wp_step rfl rfl rfl rfl rfl).trans wp_iten
theorem u39_8 : wp scr n mb_39 8 [some (.ref a)] st M Q ↔ wp scr n mb_39 9 [some (.ref a)] (.ref a :: st) M Q := wp_step rfl rfl rfl rfl rfl
theorem u39_9 : wp scr n mb_39 9 L (o :: st) M Q ↔ mw_o (mm_fld (mc_X scr) M o 1 7) (fun v => wp scr n mb_39 12 L (v :: st) M Q) := wp_getf rfl
theorem u39_12 : wp scr n mb_39 12 L st M Q ↔ wp scr n mb_39 13 L (.int 1 :: st) M Q := wp_step rfl rfl rfl rfl rfl
theorem u39_13 : wp scr n mb_39 13 L (.int y :: .int x :: st) M Q ↔ (if x = y then wp scr n mb_39 16 L st M Q else wp scr n mb_39 20 L st M Q) := (wp_step rfl rfl rfl rfl rfl).trans wp_iten
theorem u39_16 : wp scr n mb_39 16 L st M Q ↔ wp scr n mb_39 17 L (.int 1 :: st) M Q := wp_step rfl rfl rfl rfl rfl
theorem u39_17 : wp scr n mb_39 17 L st M Q ↔ wp scr n mb_39 21 L st M Q := wp_step rfl rfl rfl rfl rfl
theorem u39_20 : wp scr n mb_39 20 L st M Q ↔ wp scr n mb_39 21 L (.int 0 :: st) M Q := wp_step rfl rfl rfl rfl rfl
theorem u39_21 : wp scr n mb_39 21 L [.int x] M Q ↔ ((x = 0 ∨ x = 1) ∧ Q (some (.int x)) M) := wp_retb rfl rfl
theorem e39 : Wp scr (n + 1) 39 [.ref a0] M Q ↔ wp scr n mb_39 0 [some (.ref a0)] [] M Q := Wp_to rfl rfl rfl
/-- SmallerInTheShop$Layout countLines ()I -/
def mb_40 : mw_B := ((Option.some FieldType.int), mp_40)
theorem u40_0 : wp scr n mb_40 0 [some (.ref a)] st M Q ↔ wp scr n mb_40 1 [some (.ref a)] (.ref a :: st) M Q := wp_step rfl rfl rfl rfl rfl
theorem u40_1 : wp scr n mb_40 1 L (o :: st) M Q ↔ mw_o (mm_fld (mc_X scr) M o 1 6) (fun v => wp scr n mb_40 4 L (v :: st) M Q) := wp_getf rfl
theorem u40_4 : wp scr n mb_40 4 L st M Q ↔ wp scr n mb_40 5 L (.int 1 :: st) M Q := wp_step rfl rfl rfl rfl rfl
theorem u40_5 : wp scr n mb_40 5 L (.int y :: .int x :: st) M Q ↔ wp scr n mb_40 6 L (.int (x - y) :: st) M Q := wp_step rfl rfl rfl rfl rfl
theorem u40_6 : wp scr n mb_40 6 [some (.ref a)] st M Q ↔ wp scr n mb_40 7 [some (.ref a)] (.ref a :: st) M Q := wp_step rfl rfl rfl rfl rfl
theorem u40_7 : wp scr n mb_40 7 L (o :: st) M Q ↔ mw_o (mm_fld (mc_X scr) M o 1 7) (fun v => wp scr n mb_40 10 L (v :: st) M Q) := wp_getf rfl
theorem u40_10 : wp scr n mb_40 10 L (.int y :: .int x :: st) M Q ↔ wp scr n mb_40 11 L (.int (x + y) :: st) M Q := wp_step rfl rfl rfl rfl rfl
theorem u40_11 : wp scr n mb_40 11 L st M Q ↔ wp scr n mb_40 12 L (.int 1 :: st) M Q := wp_step rfl rfl rfl rfl rfl
theorem u40_12 : wp scr n mb_40 12 L (.int y :: .int x :: st) M Q ↔ wp scr n mb_40 13 L (.int (x - y) :: st) M Q := wp_step rfl rfl rfl rfl rfl
theorem u40_13 : wp scr n mb_40 13 L [.int x] M Q ↔ Q (some (.int x)) M := wp_ret rfl rfl
theorem e40 : Wp scr (n + 1) 40 [.ref a0] M Q ↔ wp scr n mb_40 0 [some (.ref a0)] [] M Q := Wp_to rfl rfl rfl
/-- SmallerInTheShop$Layout lineOfNumber (I)I -/
def mb_41 : mw_B := ((Option.some FieldType.int), mp_41)
theorem u41_0 : wp scr n mb_41 0 [l0, some (.int x)] st M Q ↔ wp scr n mb_41 1 [l0, some (.int x)] (.int x :: st) M Q := wp_step rfl rfl rfl rfl rfl
theorem u41_1 : wp scr n mb_41 1 [some (.ref a), l1] st M Q ↔ wp scr n mb_41 2 [some (.ref a), l1] (.ref a :: st) M Q := wp_step rfl rfl rfl rfl rfl
theorem u41_2 : wp scr n mb_41 2 L (o :: st) M Q ↔ mw_o (mm_fld (mc_X scr) M o 1 6) (fun v => wp scr n mb_41 5 L (v :: st) M Q) := wp_getf rfl
theorem u41_5 : wp scr n mb_41 5 L st M Q ↔ wp scr n mb_41 6 L (.int 1 :: st) M Q := wp_step rfl rfl rfl rfl rfl
theorem u41_6 : wp scr n mb_41 6 L (.int y :: .int x :: st) M Q ↔ wp scr n mb_41 7 L (.int (x - y) :: st) M Q := wp_step rfl rfl rfl rfl rfl
theorem u41_7 : wp scr n mb_41 7 L (.int y :: .int x :: st) M Q ↔ (if y ≤ x then wp scr n mb_41 16 L st M Q else wp scr n mb_41 10 L st M Q) := (wp_step rfl rfl rfl rfl rfl).trans wp_ite
theorem u41_10 : wp scr n mb_41 10 [l0, some (.int x)] st M Q ↔ wp scr n mb_41 11 [l0, some (.int x)] (.int x :: st) M Q := wp_step rfl rfl rfl rfl rfl
theorem u41_11 : wp scr n mb_41 11 L st M Q ↔ wp scr n mb_41 12 L (.int 1 :: st) M Q := wp_step rfl rfl rfl rfl rfl
theorem u41_12 : wp scr n mb_41 12 L (.int y :: .int x :: st) M Q ↔ wp scr n mb_41 13 L (.int (x + y) :: st) M Q := wp_step rfl rfl rfl rfl rfl
theorem u41_13 : wp scr n mb_41 13 L st M Q ↔ wp scr n mb_41 17 L st M Q := wp_step rfl rfl rfl rfl rfl
theorem u41_16 : wp scr n mb_41 16 L st M Q ↔ wp scr n mb_41 17 L (.int 4 :: st) M Q := wp_step rfl rfl rfl rfl rfl
theorem u41_17 : wp scr n mb_41 17 L [.int x] M Q ↔ Q (some (.int x)) M := wp_ret rfl rfl
theorem e41 : Wp scr (n + 1) 41 [.ref a0, .int x1] M Q ↔ wp scr n mb_41 0 [some (.ref a0), some (.int x1)] [] M Q := Wp_to rfl rfl rfl
/-- SmallerInTheShop$Letters isFull ()Z -/
def mb_43 : mw_B := ((Option.some FieldType.boolean), mp_43)
theorem u43_0 : wp scr n mb_43 0 [some (.ref a)] st M Q ↔ wp scr n mb_43 1 [some (.ref a)] (.ref a :: st) M Q := wp_step rfl rfl rfl rfl rfl
theorem u43_0b : wp scr n mb_43 0 [some (.retAddr a)] st M Q ↔ wp scr n mb_43 1 [some (.retAddr a)] (.retAddr a :: st) M Q := wp_step rfl rfl rfl rfl rfl
theorem u43_1 : wp scr n mb_43 1 L (o :: st) M Q ↔ mw_o (mm_fld (mc_X scr) M o 2 1) (fun v => wp scr n mb_43 4 L (v :: st) M Q) := wp_getf rfl
theorem u43_4 : wp scr n mb_43 4 L st M Q ↔ wp scr n mb_43 6 L (.int 96 :: st) M Q := wp_step rfl rfl rfl rfl rfl
theorem u43_6 : wp scr n mb_43 6 L (.int y :: .int x :: st) M Q ↔ (if x < y then wp scr n mb_43 13 L st M Q else wp scr n mb_43 9 L st M Q) := (wp_step rfl rfl rfl rfl rfl).trans wp_ite
theorem u43_9 : wp scr n mb_43 9 L st M Q ↔ wp scr n mb_43 10 L (.int 1 :: st) M Q := wp_step rfl rfl rfl rfl rfl
theorem u43_10 : wp scr n mb_43 10 L st M Q ↔ wp scr n mb_43 14 L st M Q := wp_step rfl rfl rfl rfl rfl
theorem u43_13 : wp scr n mb_43 13 L st M Q ↔ wp scr n mb_43 14 L (.int 0 :: st) M Q := wp_step rfl rfl rfl rfl rfl
theorem u43_14 : wp scr n mb_43 14 L [.int x] M Q ↔ ((x = 0 ∨ x = 1) ∧ Q (some (.int x)) M) := wp_retb rfl rfl
theorem e43 : Wp scr (n + 1) 43 [.ref a0] M Q ↔ wp scr n mb_43 0 [some (.ref a0)] [] M Q := Wp_to rfl rfl rfl
/-- SmallerInTheShop$Letters addLetter (I)I -/
def mb_44 : mw_B := ((Option.some FieldType.int), mp_44)
theorem u44_0 : wp scr n mb_44 0 [some (.ref a), l1] st M Q ↔ wp scr n mb_44 1 [some (.ref a), l1] (.ref a :: st) M Q := wp_step rfl rfl rfl rfl rfl
theorem u44_0b : wp scr n mb_44 0 [some (.retAddr a), l1] st M Q ↔ wp scr n mb_44 1 [some (.retAddr a), l1] (.retAddr a :: st) M Q := wp_step rfl rfl rfl rfl rfl
theorem u44_1 : wp scr n mb_44 1 L (o :: st) M Q ↔ mw_o (mm_fld (mc_X scr) M o 2 1) (fun v => wp scr n mb_44 4 L (v :: st) M Q) := wp_getf rfl
theorem u44_4 : wp scr n mb_44 4 L st M Q ↔ wp scr n mb_44 6 L (.int 96 :: st) M Q := wp_step rfl rfl rfl rfl rfl
theorem u44_6 : wp scr n mb_44 6 L (.int y :: .int x :: st) M Q ↔ (if y ≤ x then wp scr n mb_44 29 L st M Q else wp scr n mb_44 9 L st M Q) := (wp_step rfl rfl rfl rfl rfl).trans wp_ite
theorem u44_9 : wp scr n mb_44 9 [some (.ref a), l1] st M Q ↔ wp scr n mb_44 10 [some (.ref a), l1] (.ref a :: st) M Q := wp_step rfl rfl rfl rfl rfl
theorem u44_9b : wp scr n mb_44 9 [some (.retAddr a), l1] st M Q ↔ wp scr n mb_44 10 [some (.retAddr a), l1] (.retAddr a :: st) M Q := wp_step rfl rfl rfl rfl rfl
theorem u44_10 : wp scr n mb_44 10 L (o :: st) M Q ↔ mw_o (mm_fld (mc_X scr) M o 2 0) (fun v => wp scr n mb_44 13 L (v :: st) M Q) := wp_getf rfl
theorem u44_13 : wp scr n mb_44 13 [some (.ref a), l1] st M Q ↔ wp scr n mb_44 14 [some (.ref a), l1] (.ref a :: st) M Q := wp_step rfl rfl rfl rfl rfl
theorem u44_13b : wp scr n mb_44 13 [some (.retAddr a), l1] st M Q ↔ wp scr n mb_44 14 [some (.retAddr a), l1] (.retAddr a :: st) M Q := wp_step rfl rfl rfl rfl rfl
theorem u44_14 : wp scr n mb_44 14 L (o :: st) M Q ↔ mw_o (mm_fld (mc_X scr) M o 2 1) (fun v => wp scr n mb_44 17 L (v :: st) M Q) := wp_getf rfl
theorem u44_17 : wp scr n mb_44 17 [l0, some (.int x)] st M Q ↔ wp scr n mb_44 18 [l0, some (.int x)] (.int x :: st) M Q := wp_step rfl rfl rfl rfl rfl
theorem u44_18 : wp scr n mb_44 18 L (.int x :: .int y :: o :: st) M Q ↔ mw_o (mm_sti M o y x) (fun M1 => wp scr n mb_44 19 L st M1 Q) := wp_iast rfl
theorem u44_19 : wp scr n mb_44 19 [some (.ref a), l1] st M Q ↔ wp scr n mb_44 20 [some (.ref a), l1] (.ref a :: st) M Q := wp_step rfl rfl rfl rfl rfl
theorem u44_19b : wp scr n mb_44 19 [some (.retAddr a), l1] st M Q ↔ wp scr n mb_44 20 [some (.retAddr a), l1] (.retAddr a :: st) M Q := wp_step rfl rfl rfl rfl rfl
theorem u44_20 : wp scr n mb_44 20 L (.ref a :: st) M Q ↔ wp scr n mb_44 21 L (.ref a :: .ref a :: st) M Q := wp_step rfl rfl rfl rfl rfl
theorem u44_21 : wp scr n mb_44 21 L (o :: st) M Q ↔ mw_o (mm_fld (mc_X scr) M o 2 1) (fun v => wp scr n mb_44 24 L (v :: st) M Q) := wp_getf rfl
theorem u44_24 : wp scr n mb_44 24 L st M Q ↔ wp scr n mb_44 25 L (.int 1 :: st) M Q := wp_step rfl rfl rfl rfl rfl
theorem u44_25 : wp scr n mb_44 25 L (.int y :: .int x :: st) M Q ↔ wp scr n mb_44 26 L (.int (x + y) :: st) M Q := wp_step rfl rfl rfl rfl rfl
theorem u44_26 : wp scr n mb_44 26 L (v :: o :: st) M Q ↔ mw_o (mm_put mc_fty M o v 2 1) (fun M1 => wp scr n mb_44 29 L st M1 Q) := wp_putf rfl
theorem u44_29 : wp scr n mb_44 29 [some (.ref a), l1] st M Q ↔ wp scr n mb_44 30 [some (.ref a), l1] (.ref a :: st) M Q := wp_step rfl rfl rfl rfl rfl
theorem u44_29b : wp scr n mb_44 29 [some (.retAddr a), l1] st M Q ↔ wp scr n mb_44 30 [some (.retAddr a), l1] (.retAddr a :: st) M Q := wp_step rfl rfl rfl rfl rfl
theorem u44_30 : wp scr n mb_44 30 L (o :: st) M Q ↔ mw_o (mm_fld (mc_X scr) M o 2 1) (fun v => wp scr n mb_44 33 L (v :: st) M Q) := wp_getf rfl
theorem u44_33 : wp scr n mb_44 33 L [.int x] M Q ↔ Q (some (.int x)) M := wp_ret rfl rfl
theorem e44 : Wp scr (n + 1) 44 [.ref a0, .int x1] M Q ↔ wp scr n mb_44 0 [some (.ref a0), some (.int x1)] [] M Q := Wp_to rfl rfl rfl
/-- SmallerInTheShop$Letters firstWrongPlace ()I -/
def mb_45 : mw_B := ((Option.some FieldType.int), mp_45)
theorem u45_0 : wp scr n mb_45 0 [some (.ref a), l1, l2, l3, l4] st M Q ↔ wp scr n mb_45 1 [some (.ref a), l1, l2, l3, l4] (.ref a :: st) M Q := wp_step rfl rfl rfl rfl rfl
theorem u45_0b : wp scr n mb_45 0 [some (.retAddr a), l1, l2, l3, l4] st M Q ↔ wp scr n mb_45 1 [some (.retAddr a), l1, l2, l3, l4] (.retAddr a :: st) M Q := wp_step rfl rfl rfl rfl rfl
theorem u45_1 : wp scr n mb_45 1 L (o :: st) M Q ↔ mw_o (mm_fld (mc_X scr) M o 2 1) (fun v => wp scr n mb_45 4 L (v :: st) M Q) := wp_getf rfl
theorem u45_4 : wp scr n mb_45 4 L (.int x :: st) M Q ↔ (if x = 0 then wp scr n mb_45 7 L st M Q else wp scr n mb_45 9 L st M Q) := (wp_step rfl rfl rfl rfl rfl).trans wp_iten
theorem u45_7 : wp scr n mb_45 7 L st M Q ↔ wp scr n mb_45 8 L (.int 0 :: st) M Q := wp_step rfl rfl rfl rfl rfl
theorem u45_8 : wp scr n mb_45 8 L [.int x] M Q ↔ Q (some (.int x)) M := wp_ret rfl rfl
theorem u45_9 : wp scr n mb_45 9 L st M Q ↔ wp scr n mb_45 10 L (.int 0 :: st) M Q := wp_step rfl rfl rfl rfl rfl
theorem u45_10 : wp scr n mb_45 10 [l0, l1, l2, l3, l4] (.int x :: st) M Q ↔ wp scr n mb_45 11 (mm_sto1 [l0, l1, l2, l3, l4] 1 (.int x)) st M Q := wp_step rfl rfl rfl rfl rfl
theorem u45_11 : wp scr n mb_45 11 [l0, some (.int x), l2, l3, l4] st M Q ↔ wp scr n mb_45 12 [l0, some (.int x), l2, l3, l4] (.int x :: st) M Q := wp_step rfl rfl rfl rfl rfl
theorem u45_12 : wp scr n mb_45 12 [some (.ref a), l1, l2, l3, l4] st M Q ↔ wp scr n mb_45 13 [some (.ref a), l1, l2, l3, l4] (.ref a :: st) M Q := wp_step rfl rfl rfl rfl rfl
theorem u45_12b : wp scr n mb_45 12 [some (.retAddr a), l1, l2, l3, l4] st M Q ↔ wp scr n mb_45 13 [some (.retAddr a), l1, l2, l3, l4] (.retAddr a :: st) M Q := wp_step rfl rfl rfl rfl rfl
theorem u45_13 : wp scr n mb_45 13 L (o :: st) M Q ↔ mw_o (mm_fld (mc_X scr) M o 2 1) (fun v => wp scr n mb_45 16 L (v :: st) M Q) := wp_getf rfl
theorem u45_16 : wp scr n mb_45 16 L (.int y :: .int x :: st) M Q ↔ (if y ≤ x then wp scr n mb_45 110 L st M Q else wp scr n mb_45 19 L st M Q) := (wp_step rfl rfl rfl rfl rfl).trans wp_ite
theorem u45_19 : wp scr n mb_45 19 [some (.ref a), l1, l2, l3, l4] st M Q ↔ wp scr n mb_45 20 [some (.ref a), l1, l2, l3, l4] (.ref a :: st) M Q := wp_step rfl rfl rfl rfl rfl
theorem u45_19b : wp scr n mb_45 19 [some (.retAddr a), l1, l2, l3, l4] st M Q ↔ wp scr n mb_45 20 [some (.retAddr a), l1, l2, l3, l4] (.retAddr a :: st) M Q := wp_step rfl rfl rfl rfl rfl
theorem u45_20 : wp scr n mb_45 20 [l0, some (.int x), l2, l3, l4] st M Q ↔ wp scr n mb_45 21 [l0, some (.int x), l2, l3, l4] (.int x :: st) M Q := wp_step rfl rfl rfl rfl rfl
theorem u45_21 : wp scr n mb_45 21 L (a2 :: .ref a :: st) M Q ↔ ((mw_r M a 2 ∧ mw_st st) ∧ Wp scr n 46 [.ref a, a2] M (fun r1 M1 => wp scr n mb_45 24 L (r1.toList ++ st) M1 Q)) := wp_vir rfl rfl rfl rfl rfl
theorem u45_24 : wp scr n mb_45 24 L (a1 :: st) M Q ↔ (mw_st st ∧ Wp scr n 47 [a1] M (fun r1 M1 => wp scr n mb_45 27 L (r1.toList ++ st) M1 Q)) := wp_sta rfl rfl rfl rfl
theorem u45_27 : wp scr n mb_45 27 [l0, l1, l2, l3, l4] (.ref a :: st) M Q ↔ wp scr n mb_45 28 (mm_sto1 [l0, l1, l2, l3, l4] 2 (.ref a)) st M Q := wp_step rfl rfl rfl rfl rfl
theorem u45_27b : wp scr n mb_45 27 [l0, l1, l2, l3, l4] (.retAddr a :: st) M Q ↔ wp scr n mb_45 28 (mm_sto1 [l0, l1, l2, l3, l4] 2 (.retAddr a)) st M Q := wp_step rfl rfl rfl rfl rfl
theorem u45_28 : wp scr n mb_45 28 [l0, l1, some (.ref a), l3, l4] st M Q ↔ wp scr n mb_45 29 [l0, l1, some (.ref a), l3, l4] (.ref a :: st) M Q := wp_step rfl rfl rfl rfl rfl
theorem u45_28b : wp scr n mb_45 28 [l0, l1, some (.retAddr a), l3, l4] st M Q ↔ wp scr n mb_45 29 [l0, l1, some (.retAddr a), l3, l4] (.retAddr a :: st) M Q := wp_step rfl rfl rfl rfl rfl
theorem u45_29 : wp scr n mb_45 29 L (.retAddr a :: st) M Q ↔ ((mw_x scr a ∧ mw_st st) ∧ Wp scr n 1 [.retAddr a] M (fun r1 M1 => wp scr n mb_45 32 L (r1.toList ++ st) M1 Q)) := wp_virX rfl rfl rfl rfl
theorem u45_32 : wp scr n mb_45 32 L (.int x :: st) M Q ↔ (if x = 0 then wp scr n mb_45 37 L st M Q else wp scr n mb_45 35 L st M Q) := (wp_step rfl rfl rfl rfl rfl).trans wp_ite
theorem u45_35 : wp scr n mb_45 35 [l0, some (.int x), l2, l3, l4] st M Q ↔ wp scr n mb_45 36 [l0, some (.int x), l2, l3, l4] (.int x :: st) M Q := wp_step rfl rfl rfl rfl rfl
theorem u45_36 : wp scr n mb_45 36 L [.int x] M Q ↔ Q (some (.int x)) M := wp_ret rfl rfl
theorem u45_37 : wp scr n mb_45 37 L st M Q ↔ wp scr n mb_45 38 L (.int 0 :: st) M Q := wp_step rfl rfl rfl rfl rfl
theorem u45_38 : wp scr n mb_45 38 [l0, l1, l2, l3, l4] (.int x :: st) M Q ↔ wp scr n mb_45 39 (mm_sto1 [l0, l1, l2, l3, l4] 3 (.int x)) st M Q := wp_step rfl rfl rfl rfl rfl
theorem u45_39 : wp scr n mb_45 39 [l0, l1, l2, some (.int x), l4] st M Q ↔ wp scr n mb_45 40 [l0, l1, l2, some (.int x), l4] (.int x :: st) M Q := wp_step rfl rfl rfl rfl rfl
theorem u45_40 : wp scr n mb_45 40 [l0, l1, some (.ref a), l3, l4] st M Q ↔ wp scr n mb_45 41 [l0, l1, some (.ref a), l3, l4] (.ref a :: st) M Q := wp_step rfl rfl rfl rfl rfl
theorem u45_40b : wp scr n mb_45 40 [l0, l1, some (.retAddr a), l3, l4] st M Q ↔ wp scr n mb_45 41 [l0, l1, some (.retAddr a), l3, l4] (.retAddr a :: st) M Q := wp_step rfl rfl rfl rfl rfl
theorem u45_41 : wp scr n mb_45 41 L (.retAddr a :: st) M Q ↔ ((mw_x scr a ∧ mw_st st) ∧ Wp scr n 2 [.retAddr a] M (fun r1 M1 => wp scr n mb_45 44 L (r1.toList ++ st) M1 Q)) := wp_virX rfl rfl rfl rfl
theorem u45_44 : wp scr n mb_45 44 L (.int y :: .int x :: st) M Q ↔ (if y ≤ x then wp scr n mb_45 97 L st M Q else wp scr n mb_45 47 L st M Q) := (wp_step rfl rfl rfl rfl rfl).trans wp_ite
theorem u45_47 : wp scr n mb_45 47 [l0, some (.int x), l2, l3, l4] st M Q ↔ wp scr n mb_45 48 [l0, some (.int x), l2, l3, l4] (.int x :: st) M Q := wp_step rfl rfl rfl rfl rfl
theorem u45_48 : wp scr n mb_45 48 L st M Q ↔ wp scr n mb_45 49 L (.int 1 :: st) M Q := wp_step rfl rfl rfl rfl rfl
theorem u45_49 : wp scr n mb_45 49 L (.int y :: .int x :: st) M Q ↔ wp scr n mb_45 50 L (.int (x + y) :: st) M Q := wp_step rfl rfl rfl rfl rfl
theorem u45_50 : wp scr n mb_45 50 [l0, l1, l2, some (.int x), l4] st M Q ↔ wp scr n mb_45 51 [l0, l1, l2, some (.int x), l4] (.int x :: st) M Q := wp_step rfl rfl rfl rfl rfl
theorem u45_51 : wp scr n mb_45 51 L (.int y :: .int x :: st) M Q ↔ wp scr n mb_45 52 L (.int (x + y) :: st) M Q := wp_step rfl rfl rfl rfl rfl
theorem u45_52 : wp scr n mb_45 52 [l0, l1, l2, l3, l4] (.int x :: st) M Q ↔ wp scr n mb_45 54 (mm_sto1 [l0, l1, l2, l3, l4] 4 (.int x)) st M Q := wp_step rfl rfl rfl rfl rfl
theorem u45_54 : wp scr n mb_45 54 [l0, l1, l2, l3, some (.int x)] st M Q ↔ wp scr n mb_45 56 [l0, l1, l2, l3, some (.int x)] (.int x :: st) M Q := wp_step rfl rfl rfl rfl rfl
theorem u45_56 : wp scr n mb_45 56 [some (.ref a), l1, l2, l3, l4] st M Q ↔ wp scr n mb_45 57 [some (.ref a), l1, l2, l3, l4] (.ref a :: st) M Q := wp_step rfl rfl rfl rfl rfl
theorem u45_56b : wp scr n mb_45 56 [some (.retAddr a), l1, l2, l3, l4] st M Q ↔ wp scr n mb_45 57 [some (.retAddr a), l1, l2, l3, l4] (.retAddr a :: st) M Q := wp_step rfl rfl rfl rfl rfl
theorem u45_57 : wp scr n mb_45 57 L (o :: st) M Q ↔ mw_o (mm_fld (mc_X scr) M o 2 1) (fun v => wp scr n mb_45 60 L (v :: st) M Q) := wp_getf rfl
theorem u45_60 : wp scr n mb_45 60 L (.int y :: .int x :: st) M Q ↔ (if y ≤ x then wp scr n mb_45 81 L st M Q else wp scr n mb_45 63 L st M Q) := (wp_step rfl rfl rfl rfl rfl).trans wp_ite
theorem u45_63 : wp scr n mb_45 63 [some (.ref a), l1, l2, l3, l4] st M Q ↔ wp scr n mb_45 64 [some (.ref a), l1, l2, l3, l4] (.ref a :: st) M Q := wp_step rfl rfl rfl rfl rfl
theorem u45_63b : wp scr n mb_45 63 [some (.retAddr a), l1, l2, l3, l4] st M Q ↔ wp scr n mb_45 64 [some (.retAddr a), l1, l2, l3, l4] (.retAddr a :: st) M Q := wp_step rfl rfl rfl rfl rfl
theorem u45_64 : wp scr n mb_45 64 L (o :: st) M Q ↔ mw_o (mm_fld (mc_X scr) M o 2 0) (fun v => wp scr n mb_45 67 L (v :: st) M Q) := wp_getf rfl
theorem u45_67 : wp scr n mb_45 67 [l0, l1, l2, l3, some (.int x)] st M Q ↔ wp scr n mb_45 69 [l0, l1, l2, l3, some (.int x)] (.int x :: st) M Q := wp_step rfl rfl rfl rfl rfl
theorem u45_69 : wp scr n mb_45 69 L (.int y :: o :: st) M Q ↔ mw_o (mm_ld (mc_X scr) M o y) (fun x => wp scr n mb_45 70 L (.int x :: st) M Q) := wp_iald rfl
theorem u45_70 : wp scr n mb_45 70 [l0, l1, some (.ref a), l3, l4] st M Q ↔ wp scr n mb_45 71 [l0, l1, some (.ref a), l3, l4] (.ref a :: st) M Q := wp_step rfl rfl rfl rfl rfl
theorem u45_70b : wp scr n mb_45 70 [l0, l1, some (.retAddr a), l3, l4] st M Q ↔ wp scr n mb_45 71 [l0, l1, some (.retAddr a), l3, l4] (.retAddr a :: st) M Q := wp_step rfl rfl rfl rfl rfl
theorem u45_71 : wp scr n mb_45 71 [l0, l1, l2, some (.int x), l4] st M Q ↔ wp scr n mb_45 72 [l0, l1, l2, some (.int x), l4] (.int x :: st) M Q := wp_step rfl rfl rfl rfl rfl
theorem u45_72 : wp scr n mb_45 72 L (a2 :: .retAddr a :: st) M Q ↔ ((mw_x scr a ∧ mw_st st) ∧ Wp scr n 4 [.retAddr a, a2] M (fun r1 M1 => wp scr n mb_45 75 L (r1.toList ++ st) M1 Q)) := wp_virX rfl rfl rfl rfl
theorem u45_75 : wp scr n mb_45 75 L (a2 :: a1 :: st) M Q ↔ (mw_st st ∧ Wp scr n 48 [a1, a2] M (fun r1 M1 => wp scr n mb_45 78 L (r1.toList ++ st) M1 Q)) := wp_sta rfl rfl rfl rfl
theorem u45_78 : wp scr n mb_45 78 L (.int x :: st) M Q ↔ (if x = 0 then wp scr n mb_45 81 L st M Q else wp scr n mb_45 91 L st M Q) := (wp_step rfl rfl rfl rfl rfl).trans wp_iten
theorem u45_81 : wp scr n mb_45 81 [l0, l1, l2, l3, some (.int x)] st M Q ↔ wp scr n mb_45 83 [l0, l1, l2, l3, some (.int x)] (.int x :: st) M Q := wp_step rfl rfl rfl rfl rfl
theorem u45_83 : wp scr n mb_45 83 [some (.ref a), l1, l2, l3, l4] st M Q ↔ wp scr n mb_45 84 [some (.ref a), l1, l2, l3, l4] (.ref a :: st) M Q := wp_step rfl rfl rfl rfl rfl
theorem u45_83b : wp scr n mb_45 83 [some (.retAddr a), l1, l2, l3, l4] st M Q ↔ wp scr n mb_45 84 [some (.retAddr a), l1, l2, l3, l4] (.retAddr a :: st) M Q := wp_step rfl rfl rfl rfl rfl
theorem u45_84 : wp scr n mb_45 84 L (o :: st) M Q ↔ mw_o (mm_fld (mc_X scr) M o 2 1) (fun v => wp scr n mb_45 87 L (v :: st) M Q) := wp_getf rfl
theorem u45_87 : wp scr n mb_45 87 L (.int y :: .int x :: st) M Q ↔ (mw_st st ∧ wp scr n mb_45 90 L (.int (if y < x then y else x) :: st) M Q) := wp_math998 rfl
theorem u45_90 : wp scr n mb_45 90 L [.int x] M Q ↔ Q (some (.int x)) M := wp_ret rfl rfl
theorem u45_91 : wp scr n mb_45 91 [l0, l1, l2, some (.int x), l4] st M Q ↔ wp scr n mb_45 94 (mm_sto1 [l0, l1, l2, some (.int x), l4] 3 (.int (x + 1))) st M Q := wp_step rfl rfl rfl rfl rfl
theorem u45_94 : wp scr n mb_45 94 L st M Q ↔ wp scr n mb_45 39 L st M Q := wp_step rfl rfl rfl rfl rfl
theorem u45_97 : wp scr n mb_45 97 [l0, some (.int x), l2, l3, l4] st M Q ↔ wp scr n mb_45 98 [l0, some (.int x), l2, l3, l4] (.int x :: st) M Q := wp_step rfl rfl rfl rfl rfl
theorem u45_98 : wp scr n mb_45 98 L st M Q ↔ wp scr n mb_45 99 L (.int 1 :: st) M Q := wp_step rfl rfl rfl rfl rfl
theorem u45_99 : wp scr n mb_45 99 [some (.ref a), l1, l2, l3, l4] st M Q ↔ wp scr n mb_45 100 [some (.ref a), l1, l2, l3, l4] (.ref a :: st) M Q := wp_step rfl rfl rfl rfl rfl
theorem u45_99b : wp scr n mb_45 99 [some (.retAddr a), l1, l2, l3, l4] st M Q ↔ wp scr n mb_45 100 [some (.retAddr a), l1, l2, l3, l4] (.retAddr a :: st) M Q := wp_step rfl rfl rfl rfl rfl
theorem u45_100 : wp scr n mb_45 100 [l0, some (.int x), l2, l3, l4] st M Q ↔ wp scr n mb_45 101 [l0, some (.int x), l2, l3, l4] (.int x :: st) M Q := wp_step rfl rfl rfl rfl rfl
theorem u45_101 : wp scr n mb_45 101 L (a2 :: .ref a :: st) M Q ↔ ((mw_r M a 2 ∧ mw_st st) ∧ Wp scr n 49 [.ref a, a2] M (fun r1 M1 => wp scr n mb_45 104 L (r1.toList ++ st) M1 Q)) := wp_vir rfl rfl rfl rfl rfl
theorem u45_104 : wp scr n mb_45 104 L (.int y :: .int x :: st) M Q ↔ wp scr n mb_45 105 L (.int (x + y) :: st) M Q := wp_step rfl rfl rfl rfl rfl
theorem u45_105 : wp scr n mb_45 105 L (.int y :: .int x :: st) M Q ↔ wp scr n mb_45 106 L (.int (x + y) :: st) M Q := wp_step rfl rfl rfl rfl rfl
theorem u45_106 : wp scr n mb_45 106 [l0, l1, l2, l3, l4] (.int x :: st) M Q ↔ wp scr n mb_45 107 (mm_sto1 [l0, l1, l2, l3, l4] 1 (.int x)) st M Q := wp_step rfl rfl rfl rfl rfl
theorem u45_107 : wp scr n mb_45 107 L st M Q ↔ wp scr n mb_45 11 L st M Q := wp_step rfl rfl rfl rfl rfl
theorem u45_110 : wp scr n mb_45 110 L st M Q ↔ wp scr n mb_45 111 L (.int (-1) :: st) M Q := wp_step rfl rfl rfl rfl rfl
theorem u45_111 : wp scr n mb_45 111 L [.int x] M Q ↔ Q (some (.int x)) M := wp_ret rfl rfl
theorem e45 : Wp scr (n + 1) 45 [.ref a0] M Q ↔ wp scr n mb_45 0 [some (.ref a0), none, none, none, none] [] M Q := Wp_to rfl rfl rfl
/-- SmallerInTheShop$Letters signAt (I)I -/
def mb_46 : mw_B := ((Option.some FieldType.int), mp_46)
theorem u46_0 : wp scr n mb_46 0 [l0, some (.int x)] st M Q ↔ wp scr n mb_46 1 [l0, some (.int x)] (.int x :: st) M Q := wp_step rfl rfl rfl rfl rfl
theorem u46_1 : wp scr n mb_46 1 L (.int x :: st) M Q ↔ (if x < 0 then wp scr n mb_46 21 L st M Q else wp scr n mb_46 4 L st M Q) := (wp_step rfl rfl rfl rfl rfl).trans wp_ite
theorem u46_4 : wp scr n mb_46 4 [l0, some (.int x)] st M Q ↔ wp scr n mb_46 5 [l0, some (.int x)] (.int x :: st) M Q := wp_step rfl rfl rfl rfl rfl
theorem u46_5 : wp scr n mb_46 5 [some (.ref a), l1] st M Q ↔ wp scr n mb_46 6 [some (.ref a), l1] (.ref a :: st) M Q := wp_step rfl rfl rfl rfl rfl
theorem u46_5b : wp scr n mb_46 5 [some (.retAddr a), l1] st M Q ↔ wp scr n mb_46 6 [some (.retAddr a), l1] (.retAddr a :: st) M Q := wp_step rfl rfl rfl rfl rfl
theorem u46_6 : wp scr n mb_46 6 L (o :: st) M Q ↔ mw_o (mm_fld (mc_X scr) M o 2 1) (fun v => wp scr n mb_46 9 L (v :: st) M Q) := wp_getf rfl
theorem u46_9 : wp scr n mb_46 9 L (.int y :: .int x :: st) M Q ↔ (if y ≤ x then wp scr n mb_46 21 L st M Q else wp scr n mb_46 12 L st M Q) := (wp_step rfl rfl rfl rfl rfl).trans wp_ite
theorem u46_12 : wp scr n mb_46 12 [some (.ref a), l1] st M Q ↔ wp scr n mb_46 13 [some (.ref a), l1] (.ref a :: st) M Q := wp_step rfl rfl rfl rfl rfl
theorem u46_12b : wp scr n mb_46 12 [some (.retAddr a), l1] st M Q ↔ wp scr n mb_46 13 [some (.retAddr a), l1] (.retAddr a :: st) M Q := wp_step rfl rfl rfl rfl rfl
theorem u46_13 : wp scr n mb_46 13 L (o :: st) M Q ↔ mw_o (mm_fld (mc_X scr) M o 2 0) (fun v => wp scr n mb_46 16 L (v :: st) M Q) := wp_getf rfl
theorem u46_16 : wp scr n mb_46 16 [l0, some (.int x)] st M Q ↔ wp scr n mb_46 17 [l0, some (.int x)] (.int x :: st) M Q := wp_step rfl rfl rfl rfl rfl
theorem u46_17 : wp scr n mb_46 17 L (.int y :: o :: st) M Q ↔ mw_o (mm_ld (mc_X scr) M o y) (fun x => wp scr n mb_46 18 L (.int x :: st) M Q) := wp_iald rfl
theorem u46_18 : wp scr n mb_46 18 L st M Q ↔ wp scr n mb_46 22 L st M Q := wp_step rfl rfl rfl rfl rfl
theorem u46_21 : wp scr n mb_46 21 L st M Q ↔ wp scr n mb_46 22 L (.int 0 :: st) M Q := wp_step rfl rfl rfl rfl rfl
theorem u46_22 : wp scr n mb_46 22 L [.int x] M Q ↔ Q (some (.int x)) M := wp_ret rfl rfl
theorem e46 : Wp scr (n + 1) 46 [.ref a0, .int x1] M Q ↔ wp scr n mb_46 0 [some (.ref a0), some (.int x1)] [] M Q := Wp_to rfl rfl rfl
/-- SmallerInTheShop$Letters shapeBehind (I)Ljava/lang/String; -/
def mb_47 : mw_B := ((Option.some (FieldType.object "java/lang/String")), mp_47)
theorem u47_0 : wp scr n mb_47 0 [some (.int x)] st M Q ↔ wp scr n mb_47 1 [some (.int x)] (.int x :: st) M Q := wp_step rfl rfl rfl rfl rfl
theorem u47_1 : wp scr n mb_47 1 L (.int x :: st) M Q ↔ wp scr n mb_47 (mw_sw x [(99, 64), (102, 58), (107, 52), (111, 61), (119, 55)] 67) L st M Q := wp_lookS (d := 66) (ps := #[(99, 63), (102, 57), (107, 51), (111, 60), (119, 54)]) rfl (by decide +kernel) (by decide +kernel)
theorem u47_52 : wp scr n mb_47 52 L st M Q ↔ wp scr n mb_47 54 L (.retAddr 31 :: st) M Q := wp_step rfl rfl rfl rfl rfl
theorem u47_54 : wp scr n mb_47 54 L [.retAddr a] M Q ↔ Q (some (.retAddr a)) M := wp_ret rfl rfl
theorem u47_55 : wp scr n mb_47 55 L st M Q ↔ wp scr n mb_47 57 L (.retAddr 32 :: st) M Q := wp_step rfl rfl rfl rfl rfl
theorem u47_57 : wp scr n mb_47 57 L [.retAddr a] M Q ↔ Q (some (.retAddr a)) M := wp_ret rfl rfl
theorem u47_58 : wp scr n mb_47 58 L st M Q ↔ wp scr n mb_47 60 L (.retAddr 33 :: st) M Q := wp_step rfl rfl rfl rfl rfl
theorem u47_60 : wp scr n mb_47 60 L [.retAddr a] M Q ↔ Q (some (.retAddr a)) M := wp_ret rfl rfl
theorem u47_61 : wp scr n mb_47 61 L st M Q ↔ wp scr n mb_47 63 L (.retAddr 34 :: st) M Q := wp_step rfl rfl rfl rfl rfl
theorem u47_63 : wp scr n mb_47 63 L [.retAddr a] M Q ↔ Q (some (.retAddr a)) M := wp_ret rfl rfl
theorem u47_64 : wp scr n mb_47 64 L st M Q ↔ wp scr n mb_47 66 L (.retAddr 35 :: st) M Q := wp_step rfl rfl rfl rfl rfl
theorem u47_66 : wp scr n mb_47 66 L [.retAddr a] M Q ↔ Q (some (.retAddr a)) M := wp_ret rfl rfl
theorem u47_67 : wp scr n mb_47 67 L st M Q ↔ wp scr n mb_47 69 L (.retAddr 36 :: st) M Q := wp_step rfl rfl rfl rfl rfl
theorem u47_69 : wp scr n mb_47 69 L [.retAddr a] M Q ↔ Q (some (.retAddr a)) M := wp_ret rfl rfl
theorem e47 : Wp scr (n + 1) 47 [.int x1] M Q ↔ wp scr n mb_47 0 [some (.int x1)] [] M Q := Wp_to rfl rfl rfl
/-- SmallerInTheShop$Letters fits (IC)Z -/
def mb_48 : mw_B := ((Option.some FieldType.boolean), mp_48)
theorem u48_0 : wp scr n mb_48 0 [l0, some (.int x)] st M Q ↔ wp scr n mb_48 1 [l0, some (.int x)] (.int x :: st) M Q := wp_step rfl rfl rfl rfl rfl
theorem u48_1 : wp scr n mb_48 1 L st M Q ↔ wp scr n mb_48 3 L (.int 48 :: st) M Q := wp_step rfl rfl rfl rfl rfl
theorem u48_3 : wp scr n mb_48 3 L (.int y :: .int x :: st) M Q ↔ (if x = y then wp scr n mb_48 6 L st M Q else wp scr n mb_48 24 L st M Q) := (wp_step rfl rfl rfl rfl rfl).trans wp_iten
theorem u48_6 : wp scr n mb_48 6 [some (.int x), l1] st M Q ↔ wp scr n mb_48 7 [some (.int x), l1] (.int x :: st) M Q := wp_step rfl rfl rfl rfl rfl
theorem u48_7 : wp scr n mb_48 7 L st M Q ↔ wp scr n mb_48 9 L (.int 48 :: st) M Q := wp_step rfl rfl rfl rfl rfl
theorem u48_9 : wp scr n mb_48 9 L (.int y :: .int x :: st) M Q ↔ (if x < y then wp scr n mb_48 22 L st M Q else wp scr n mb_48 12 L st M Q) := (wp_step rfl rfl rfl rfl rfl).trans wp_ite
theorem u48_12 : wp scr n mb_48 12 [some (.int x), l1] st M Q ↔ wp scr n mb_48 13 [some (.int x), l1] (.int x :: st) M Q := wp_step rfl rfl rfl rfl rfl
theorem u48_13 : wp scr n mb_48 13 L st M Q ↔ wp scr n mb_48 15 L (.int 57 :: st) M Q := wp_step rfl rfl rfl rfl rfl
theorem u48_15 : wp scr n mb_48 15 L (.int y :: .int x :: st) M Q ↔ (if y < x then wp scr n mb_48 22 L st M Q else wp scr n mb_48 18 L st M Q) := (wp_step rfl rfl rfl rfl rfl).trans wp_ite
theorem u48_18 : wp scr n mb_48 18 L st M Q ↔ wp scr n mb_48 19 L (.int 1 :: st) M Q := wp_step rfl rfl rfl rfl rfl
theorem u48_19 : wp scr n mb_48 19 L st M Q ↔ wp scr n mb_48 23 L st M Q := wp_step rfl rfl rfl rfl rfl
theorem u48_22 : wp scr n mb_48 22 L st M Q ↔ wp scr n mb_48 23 L (.int 0 :: st) M Q := wp_step rfl rfl rfl rfl rfl
theorem u48_23 : wp scr n mb_48 23 L [.int x] M Q ↔ ((x = 0 ∨ x = 1) ∧ Q (some (.int x)) M) := wp_retb rfl rfl
theorem u48_24 : wp scr n mb_48 24 [l0, some (.int x)] st M Q ↔ wp scr n mb_48 25 [l0, some (.int x)] (.int x :: st) M Q := wp_step rfl rfl rfl rfl rfl
theorem u48_25 : wp scr n mb_48 25 L st M Q ↔ wp scr n mb_48 27 L (.int 107 :: st) M Q := wp_step rfl rfl rfl rfl rfl
theorem u48_27 : wp scr n mb_48 27 L (.int y :: .int x :: st) M Q ↔ (if x = y then wp scr n mb_48 30 L st M Q else wp scr n mb_48 48 L st M Q) := (wp_step rfl rfl rfl rfl rfl).trans wp_iten
theorem u48_30 : wp scr n mb_48 30 L st M Q ↔ wp scr n mb_48 32 L (.retAddr 30 :: st) M Q := wp_step rfl rfl rfl rfl rfl
theorem u48_32 : wp scr n mb_48 32 [some (.int x), l1] st M Q ↔ wp scr n mb_48 33 [some (.int x), l1] (.int x :: st) M Q := wp_step rfl rfl rfl rfl rfl
theorem u48_33 : wp scr n mb_48 33 L (.int x :: st) M Q ↔ wp scr n mb_48 34 L (.int (x.toUInt32 % 65536).toInt32 :: st) M Q := wp_step rfl rfl rfl rfl rfl
theorem u48_34 : wp scr n mb_48 34 L (a2 :: .retAddr a :: st) M Q ↔ ((mw_x scr a ∧ mw_st st) ∧ Wp scr n 7 [.retAddr a, a2] M (fun r1 M1 => wp scr n mb_48 37 L (r1.toList ++ st) M1 Q)) := wp_virX rfl rfl rfl rfl
theorem u48_37 : wp scr n mb_48 37 L (.int x :: st) M Q ↔ (if x < 0 then wp scr n mb_48 44 L st M Q else wp scr n mb_48 40 L st M Q) := (wp_step rfl rfl rfl rfl rfl).trans wp_ite
theorem u48_40 : wp scr n mb_48 40 L st M Q ↔ wp scr n mb_48 41 L (.int 1 :: st) M Q := wp_step rfl rfl rfl rfl rfl
theorem u48_41 : wp scr n mb_48 41 L st M Q ↔ wp scr n mb_48 58 L st M Q := wp_step rfl rfl rfl rfl rfl
theorem u48_44 : wp scr n mb_48 44 L st M Q ↔ wp scr n mb_48 45 L (.int 0 :: st) M Q := wp_step rfl rfl rfl rfl rfl
theorem u48_45 : wp scr n mb_48 45 L st M Q ↔ wp scr n mb_48 58 L st M Q := wp_step rfl rfl rfl rfl rfl
theorem u48_48 : wp scr n mb_48 48 [some (.int x), l1] st M Q ↔ wp scr n mb_48 49 [some (.int x), l1] (.int x :: st) M Q := wp_step rfl rfl rfl rfl rfl
theorem u48_49 : wp scr n mb_48 49 [l0, some (.int x)] st M Q ↔ wp scr n mb_48 50 [l0, some (.int x)] (.int x :: st) M Q := wp_step rfl rfl rfl rfl rfl
theorem u48_50 : wp scr n mb_48 50 L (.int y :: .int x :: st) M Q ↔ (if x = y then wp scr n mb_48 53 L st M Q else wp scr n mb_48 57 L st M Q) := (wp_step rfl rfl rfl rfl rfl).trans wp_iten
theorem u48_53 : wp scr n mb_48 53 L st M Q ↔ wp scr n mb_48 54 L (.int 1 :: st) M Q := wp_step rfl rfl rfl rfl rfl
theorem u48_54 : wp scr n mb_48 54 L st M Q ↔ wp scr n mb_48 58 L st M Q := wp_step rfl rfl rfl rfl rfl
theorem u48_57 : wp scr n mb_48 57 L st M Q ↔ wp scr n mb_48 58 L (.int 0 :: st) M Q := wp_step rfl rfl rfl rfl rfl
theorem u48_58 : wp scr n mb_48 58 L [.int x] M Q ↔ ((x = 0 ∨ x = 1) ∧ Q (some (.int x)) M) := wp_retb rfl rfl
theorem e48 : Wp scr (n + 1) 48 [.int x1, .int x2] M Q ↔ wp scr n mb_48 0 [some (.int x1), some (.int x2)] [] M Q := Wp_to rfl rfl rfl
/-- SmallerInTheShop$Letters lengthBehind (I)I -/
def mb_49 : mw_B := ((Option.some FieldType.int), mp_49)
theorem u49_0 : wp scr n mb_49 0 [some (.ref a), l1] st M Q ↔ wp scr n mb_49 1 [some (.ref a), l1] (.ref a :: st) M Q := wp_step rfl rfl rfl rfl rfl
theorem u49_0b : wp scr n mb_49 0 [some (.retAddr a), l1] st M Q ↔ wp scr n mb_49 1 [some (.retAddr a), l1] (.retAddr a :: st) M Q := wp_step rfl rfl rfl rfl rfl
theorem u49_1 : wp scr n mb_49 1 [l0, some (.int x)] st M Q ↔ wp scr n mb_49 2 [l0, some (.int x)] (.int x :: st) M Q := wp_step rfl rfl rfl rfl rfl
theorem u49_2 : wp scr n mb_49 2 L (a2 :: .ref a :: st) M Q ↔ ((mw_r M a 2 ∧ mw_st st) ∧ Wp scr n 46 [.ref a, a2] M (fun r1 M1 => wp scr n mb_49 5 L (r1.toList ++ st) M1 Q)) := wp_vir rfl rfl rfl rfl rfl
theorem u49_5 : wp scr n mb_49 5 L (a1 :: st) M Q ↔ (mw_st st ∧ Wp scr n 47 [a1] M (fun r1 M1 => wp scr n mb_49 8 L (r1.toList ++ st) M1 Q)) := wp_sta rfl rfl rfl rfl
theorem u49_8 : wp scr n mb_49 8 L (.retAddr a :: st) M Q ↔ ((mw_x scr a ∧ mw_st st) ∧ Wp scr n 2 [.retAddr a] M (fun r1 M1 => wp scr n mb_49 11 L (r1.toList ++ st) M1 Q)) := wp_virX rfl rfl rfl rfl
theorem u49_11 : wp scr n mb_49 11 L [.int x] M Q ↔ Q (some (.int x)) M := wp_ret rfl rfl
theorem e49 : Wp scr (n + 1) 49 [.ref a0, .int x1] M Q ↔ wp scr n mb_49 0 [some (.ref a0), some (.int x1)] [] M Q := Wp_to rfl rfl rfl
/-- SmallerInTheShop$Letters digitAt (I)I -/
def mb_50 : mw_B := ((Option.some FieldType.int), mp_50)
theorem u50_0 : wp scr n mb_50 0 [some (.ref a), l1] st M Q ↔ wp scr n mb_50 1 [some (.ref a), l1] (.ref a :: st) M Q := wp_step rfl rfl rfl rfl rfl
theorem u50_0b : wp scr n mb_50 0 [some (.retAddr a), l1] st M Q ↔ wp scr n mb_50 1 [some (.retAddr a), l1] (.retAddr a :: st) M Q := wp_step rfl rfl rfl rfl rfl
theorem u50_1 : wp scr n mb_50 1 [l0, some (.int x)] st M Q ↔ wp scr n mb_50 2 [l0, some (.int x)] (.int x :: st) M Q := wp_step rfl rfl rfl rfl rfl
theorem u50_2 : wp scr n mb_50 2 L (a2 :: .ref a :: st) M Q ↔ ((mw_r M a 2 ∧ mw_st st) ∧ Wp scr n 46 [.ref a, a2] M (fun r1 M1 => wp scr n mb_50 5 L (r1.toList ++ st) M1 Q)) := wp_vir rfl rfl rfl rfl rfl
theorem u50_5 : wp scr n mb_50 5 L st M Q ↔ wp scr n mb_50 7 L (.int 48 :: st) M Q := wp_step rfl rfl rfl rfl rfl
theorem u50_7 : wp scr n mb_50 7 L (.int y :: .int x :: st) M Q ↔ wp scr n mb_50 8 L (.int (x - y) :: st) M Q := wp_step rfl rfl rfl rfl rfl
theorem u50_8 : wp scr n mb_50 8 L [.int x] M Q ↔ Q (some (.int x)) M := wp_ret rfl rfl
theorem e50 : Wp scr (n + 1) 50 [.ref a0, .int x1] M Q ↔ wp scr n mb_50 0 [some (.ref a0), some (.int x1)] [] M Q := Wp_to rfl rfl rfl
/-- SmallerInTheShop$Letters kindAt (I)I -/
def mb_51 : mw_B := ((Option.some FieldType.int), mp_51)
theorem u51_0 : wp scr n mb_51 0 L st M Q ↔ wp scr n mb_51 2 L (.retAddr 30 :: st) M Q := wp_step rfl rfl rfl rfl rfl
theorem u51_2 : wp scr n mb_51 2 [some (.ref a), l1] st M Q ↔ wp scr n mb_51 3 [some (.ref a), l1] (.ref a :: st) M Q := wp_step rfl rfl rfl rfl rfl
theorem u51_2b : wp scr n mb_51 2 [some (.retAddr a), l1] st M Q ↔ wp scr n mb_51 3 [some (.retAddr a), l1] (.retAddr a :: st) M Q := wp_step rfl rfl rfl rfl rfl
theorem u51_3 : wp scr n mb_51 3 [l0, some (.int x)] st M Q ↔ wp scr n mb_51 4 [l0, some (.int x)] (.int x :: st) M Q := wp_step rfl rfl rfl rfl rfl
theorem u51_4 : wp scr n mb_51 4 L (a2 :: .ref a :: st) M Q ↔ ((mw_r M a 2 ∧ mw_st st) ∧ Wp scr n 46 [.ref a, a2] M (fun r1 M1 => wp scr n mb_51 7 L (r1.toList ++ st) M1 Q)) := wp_vir rfl rfl rfl rfl rfl
theorem u51_7 : wp scr n mb_51 7 L (.int x :: st) M Q ↔ wp scr n mb_51 8 L (.int (x.toUInt32 % 65536).toInt32 :: st) M Q := wp_step rfl rfl rfl rfl rfl
theorem u51_8 : wp scr n mb_51 8 L (a2 :: .retAddr a :: st) M Q ↔ ((mw_x scr a ∧ mw_st st) ∧ Wp scr n 7 [.retAddr a, a2] M (fun r1 M1 => wp scr n mb_51 11 L (r1.toList ++ st) M1 Q)) := wp_virX rfl rfl rfl rfl
theorem u51_11 : wp scr n mb_51 11 L [.int x] M Q ↔ Q (some (.int x)) M := wp_ret rfl rfl
theorem e51 : Wp scr (n + 1) 51 [.ref a0, .int x1] M Q ↔ wp scr n mb_51 0 [some (.ref a0), some (.int x1)] [] M Q := Wp_to rfl rfl rfl
/-- SmallerInTheShop$Letters forget ()V -/
def mb_52 : mw_B := ((Option.none : Option FieldType), mp_52)
theorem u52_0 : wp scr n mb_52 0 [some (.ref a)] st M Q ↔ wp scr n mb_52 1 [some (.ref a)] (.ref a :: st) M Q := wp_step rfl rfl rfl rfl rfl
theorem u52_0b : wp scr n mb_52 0 [some (.retAddr a)] st M Q ↔ wp scr n mb_52 1 [some (.retAddr a)] (.retAddr a :: st) M Q := wp_step rfl rfl rfl rfl rfl
theorem u52_1 : wp scr n mb_52 1 L st M Q ↔ wp scr n mb_52 2 L (.int 0 :: st) M Q := wp_step rfl rfl rfl rfl rfl
theorem u52_2 : wp scr n mb_52 2 L (v :: o :: st) M Q ↔ mw_o (mm_put mc_fty M o v 2 1) (fun M1 => wp scr n mb_52 5 L st M1 Q) := wp_putf rfl
theorem u52_5 : wp scr n mb_52 5 L [] M Q ↔ Q none M := wp_ret rfl rfl
theorem e52 : Wp scr (n + 1) 52 [.ref a0] M Q ↔ wp scr n mb_52 0 [some (.ref a0)] [] M Q := Wp_to rfl rfl rfl
/-- SmallerInTheShop$Search begin (I)V -/
def mb_54 : mw_B := ((Option.none : Option FieldType), mp_54)
theorem u54_0 : wp scr n mb_54 0 [some (.ref a), l1, l2] st M Q ↔ wp scr n mb_54 1 [some (.ref a), l1, l2] (.ref a :: st) M Q := wp_step rfl rfl rfl rfl rfl
theorem u54_1 : wp scr n mb_54 1 [l0, some (.int x), l2] st M Q ↔ wp scr n mb_54 2 [l0, some (.int x), l2] (.int x :: st) M Q := wp_step rfl rfl rfl rfl rfl
theorem u54_2 : wp scr n mb_54 2 L (v :: o :: st) M Q ↔ mw_o (mm_put mc_fty M o v 3 2) (fun M1 => wp scr n mb_54 5 L st M1 Q) := wp_putf rfl
theorem u54_5 : wp scr n mb_54 5 [some (.ref a), l1, l2] st M Q ↔ wp scr n mb_54 6 [some (.ref a), l1, l2] (.ref a :: st) M Q := wp_step rfl rfl rfl rfl rfl
theorem u54_6 : wp scr n mb_54 6 L st M Q ↔ wp scr n mb_54 7 L (.int 1 :: st) M Q := wp_step rfl rfl rfl rfl rfl
theorem u54_7 : wp scr n mb_54 7 L (v :: o :: st) M Q ↔ mw_o (mm_put mc_fty M o v 3 3) (fun M1 => wp scr n mb_54 10 L st M1 Q) := wp_putf rfl
theorem u54_10 : wp scr n mb_54 10 [some (.ref a), l1, l2] st M Q ↔ wp scr n mb_54 11 [some (.ref a), l1, l2] (.ref a :: st) M Q := wp_step rfl rfl rfl rfl rfl
theorem u54_11 : wp scr n mb_54 11 L st M Q ↔ wp scr n mb_54 12 L (.int 0 :: st) M Q := wp_step rfl rfl rfl rfl rfl
theorem u54_12 : wp scr n mb_54 12 L (v :: o :: st) M Q ↔ mw_o (mm_put mc_fty M o v 3 4) (fun M1 => wp scr n mb_54 15 L st M1 Q) := wp_putf rfl
theorem u54_15 : wp scr n mb_54 15 [some (.ref a), l1, l2] st M Q ↔ wp scr n mb_54 16 [some (.ref a), l1, l2] (.ref a :: st) M Q := wp_step rfl rfl rfl rfl rfl
theorem u54_16 : wp scr n mb_54 16 L st M Q ↔ wp scr n mb_54 17 L (.int 0 :: st) M Q := wp_step rfl rfl rfl rfl rfl
theorem u54_17 : wp scr n mb_54 17 L (v :: o :: st) M Q ↔ mw_o (mm_put mc_fty M o v 3 5) (fun M1 => wp scr n mb_54 20 L st M1 Q) := wp_putf rfl
theorem u54_20 : wp scr n mb_54 20 [some (.ref a), l1, l2] st M Q ↔ wp scr n mb_54 21 [some (.ref a), l1, l2] (.ref a :: st) M Q := wp_step rfl rfl rfl rfl rfl
theorem u54_21 : wp scr n mb_54 21 L st M Q ↔ wp scr n mb_54 22 L (.int 0 :: st) M Q := wp_step rfl rfl rfl rfl rfl
theorem u54_22 : wp scr n mb_54 22 L (v :: o :: st) M Q ↔ mw_o (mm_put mc_fty M o v 3 6) (fun M1 => wp scr n mb_54 25 L st M1 Q) := wp_putf rfl
theorem u54_25 : wp scr n mb_54 25 [some (.ref a), l1, l2] st M Q ↔ wp scr n mb_54 26 [some (.ref a), l1, l2] (.ref a :: st) M Q := wp_step rfl rfl rfl rfl rfl
theorem u54_26 : wp scr n mb_54 26 L st M Q ↔ wp scr n mb_54 27 L (.int 0 :: st) M Q := wp_step rfl rfl rfl rfl rfl
theorem u54_27 : wp scr n mb_54 27 L (v :: o :: st) M Q ↔ mw_o (mm_put mc_fty M o v 3 7) (fun M1 => wp scr n mb_54 30 L st M1 Q) := wp_putf rfl
theorem u54_30 : wp scr n mb_54 30 L st M Q ↔ wp scr n mb_54 31 L (.int 0 :: st) M Q := wp_step rfl rfl rfl rfl rfl
theorem u54_31 : wp scr n mb_54 31 [l0, l1, l2] (.int x :: st) M Q ↔ wp scr n mb_54 32 (mm_sto1 [l0, l1, l2] 2 (.int x)) st M Q := wp_step rfl rfl rfl rfl rfl
theorem u54_32 : wp scr n mb_54 32 [l0, l1, some (.int x)] st M Q ↔ wp scr n mb_54 33 [l0, l1, some (.int x)] (.int x :: st) M Q := wp_step rfl rfl rfl rfl rfl
theorem u54_33 : wp scr n mb_54 33 L st M Q ↔ wp scr n mb_54 34 L (.int 4 :: st) M Q := wp_step rfl rfl rfl rfl rfl
theorem u54_34 : wp scr n mb_54 34 L (.int y :: .int x :: st) M Q ↔ (if y < x then wp scr n mb_54 50 L st M Q else wp scr n mb_54 37 L st M Q) := (wp_step rfl rfl rfl rfl rfl).trans wp_ite
theorem u54_37 : wp scr n mb_54 37 [some (.ref a), l1, l2] st M Q ↔ wp scr n mb_54 38 [some (.ref a), l1, l2] (.ref a :: st) M Q := wp_step rfl rfl rfl rfl rfl
theorem u54_38 : wp scr n mb_54 38 L (o :: st) M Q ↔ mw_o (mm_fld (mc_X scr) M o 3 1) (fun v => wp scr n mb_54 41 L (v :: st) M Q) := wp_getf rfl
theorem u54_41 : wp scr n mb_54 41 [l0, l1, some (.int x)] st M Q ↔ wp scr n mb_54 42 [l0, l1, some (.int x)] (.int x :: st) M Q := wp_step rfl rfl rfl rfl rfl
theorem u54_42 : wp scr n mb_54 42 L st M Q ↔ wp scr n mb_54 43 L (.int 0 :: st) M Q := wp_step rfl rfl rfl rfl rfl
theorem u54_43 : wp scr n mb_54 43 L (.int x :: .int y :: o :: st) M Q ↔ mw_o (mm_sti M o y x) (fun M1 => wp scr n mb_54 44 L st M1 Q) := wp_iast rfl
theorem u54_44 : wp scr n mb_54 44 [l0, l1, some (.int x)] st M Q ↔ wp scr n mb_54 47 (mm_sto1 [l0, l1, some (.int x)] 2 (.int (x + 1))) st M Q := wp_step rfl rfl rfl rfl rfl
theorem u54_47 : wp scr n mb_54 47 L st M Q ↔ wp scr n mb_54 32 L st M Q := wp_step rfl rfl rfl rfl rfl
theorem u54_50 : wp scr n mb_54 50 L [] M Q ↔ Q none M := wp_ret rfl rfl
theorem e54 : Wp scr (n + 1) 54 [.ref a0, .int x1] M Q ↔ wp scr n mb_54 0 [some (.ref a0), some (.int x1), none] [] M Q := Wp_to rfl rfl rfl
end MU
